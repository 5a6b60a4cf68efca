/-- every node's place in its bits is 0 .. 15 -/
def PV (x : Nat → Nat → Int32) : Prop := ∀ a, a < 12 → ∃ p, p < 16 ∧ x 4 a = nI p
def mNB (x : Nat → Nat → Int32) (a : Nat) : Int32 × (Nat → Nat → Int32) := (x 3 a >>> (x 4 a &&& 31) &&& nI 1, ur x 4 (upd (x 4) a (nI ((cl (x 4 a) + 1) % 16))))
theorem PV.nb {x : Nat → Nat → Int32} (v : PV x) (a : Nat) : PV (mNB x a).2 := by
  intro b hb
  show ∃ p, p < 16 ∧ upd (x 4) a (nI ((cl (x 4 a) + 1) % 16)) b = nI p
  by_cases e : b = a
  · exact ⟨_, Nat.mod_lt _ (by decide), if_pos e⟩
  · obtain ⟨p, hp, ep⟩ := v b hb
    exact ⟨p, hp, (if_neg e).trans ep⟩
def mClose (x : Nat → Nat → Int32) (a c : Nat) : Nat → Nat → Int32 := ur (ur (ur x 2 (upd (x 2) c (nI 0))) 2 (upd (upd (x 2) c (nI 0)) a (nI 0))) 14 (upd (x 14) (a / 3) (nI (c / 3)))
def mAsks (x : Nat → Nat → Int32) (v r : Int32) (a : Nat) : Bool := decide (x 18 a = v) && (decide (cntT (fun k => decide (¬ x 2 (3 * a + k) = 0)) 3 = 1) && (decide (x 8 a = 0) || decide (nI 4 < r)))
def mAs (x : Nat → Nat → Int32) (v r : Int32) (k : Nat) : Nat → Nat → Int32 := ur x 19 (fun i => if i < k then zi (mAsks x v r i) else x 19 i)
theorem mAs_0 (x : Nat → Nat → Int32) (v r : Int32) : mAs x v r 0 = x := by
  unfold mAs
  rw [show (fun i => if i < 0 then zi (mAsks x v r i) else x 19 i) = x 19 from funext fun i => if_neg (by omega), ur_self]
theorem mAs_1 (x : Nat → Nat → Int32) (v r : Int32) (k : Nat) {z : Int32} (hz : z = zi (mAsks x v r k)) : ur (mAs x v r k) 19 (upd (mAs x v r k 19) k z) = mAs x v r (k + 1) := by
  unfold mAs
  rw [ur_ur, ur_eq, hz]
  congr 1
  funext i
  unfold upd
  by_cases e : i = k
  · rw [if_pos e, if_pos (by omega), e]
  · rw [if_neg e]
    show (if i < k then _ else _) = _
    by_cases e2 : i < k
    · rw [if_pos e2, if_pos (by omega)]
    · rw [if_neg e2, if_neg (by omega)]
/-- what the cable of sockets k, t does in a round -/
def mCab (x : Nat → Nat → Int32) (k t : Nat) : Nat → Nat → Int32 :=
  if ¬ x 19 (k / 3) = 0 then
    if ¬ x 19 (t / 3) = 0 then
      if (mNB x (k / 3)).1 = (mNB (mNB x (k / 3)).2 (t / 3)).1 then (mNB (mNB x (k / 3)).2 (t / 3)).2
      else if (mNB x (k / 3)).1 = nI 1 then mClose (mNB (mNB x (k / 3)).2 (t / 3)).2 t k else mClose (mNB (mNB x (k / 3)).2 (t / 3)).2 k t
    else mClose x k t
  else if ¬ x 19 (t / 3) = 0 then mClose x t k else x
def mRd1 (ot : Nat → Option Nat) (v : Int32) (x : Nat → Nat → Int32) (k : Nat) : Nat → Nat → Int32 :=
  if ¬ x 18 (k / 3) = v then x else if x 2 k = 0 then x else match ot k with
    | none => x
    | some t => if t < k then x else mCab x k t
def mRd (ot : Nat → Option Nat) (v : Int32) (x : Nat → Nat → Int32) : Nat → (Nat → Nat → Int32)
  | 0 => x
  | k + 1 => mRd1 ot v (mRd ot v x k) k
def mRound (ot : Nat → Option Nat) (x : Nat → Nat → Int32) (v r : Int32) : Nat → Nat → Int32 := mRd ot v (mAs x v r 12) 36
theorem PV.ur {x : Nat → Nat → Int32} (v : PV x) {k : Nat} {f : Nat → Int32} (q : k ≠ 4) : PV (ur x k f) := by
  intro a ha
  rw [ur_ne (Ne.symm q)]
  exact v a ha
theorem PV.close {x : Nat → Nat → Int32} (v : PV x) (a c : Nat) : PV (mClose x a c) := ((v.ur (by decide)).ur (by decide)).ur (by decide)
theorem PV.cab {x : Nat → Nat → Int32} (v : PV x) (k t : Nat) : PV (mCab x k t) := by
  unfold mCab
  split
  · split
    · split
      · exact (v.nb _).nb _
      · split
        · exact ((v.nb _).nb _).close _ _
        · exact ((v.nb _).nb _).close _ _
    · exact v.close _ _
  · split
    · exact v.close _ _
    · exact v
theorem PV.rd {ot : Nat → Option Nat} {v : Int32} {x : Nat → Nat → Int32} (q : PV x) : ∀ k, PV (mRd ot v x k) := by
  intro k
  induction k with
  | zero => exact q
  | succ k ih =>
    show PV (mRd1 ot v (mRd ot v x k) k)
    unfold mRd1
    split
    · exact ih
    · split
      · exact ih
      · split
        · exact ih
        · split
          · exact ih
          · exact ih.cab _ _
theorem mCab_1 {x : Nat → Nat → Int32} {k t : Nat} : mCab x k t 1 = x 1 := by
  unfold mCab
  repeat' split
  all_goals rfl
theorem mRd_1 {ot : Nat → Option Nat} {v : Int32} {x : Nat → Nat → Int32} : ∀ k, mRd ot v x k 1 = x 1 := by
  intro k
  induction k with
  | zero => rfl
  | succ k ih =>
    show mRd1 ot v (mRd ot v x k) k 1 = x 1
    unfold mRd1
    split
    · exact ih
    · split
      · exact ih
      · cases ot k with
        | none => exact ih
        | some t =>
          dsimp only
          split
          · exact ih
          · exact mCab_1.trans ih
theorem k_M_nb {l : Launch} {D : va_G} {A : Nat → ClassId} {G : Heap} {h : Hp} {n mm df : Nat} {x : Nat → Nat → Int32} (hl : l.stackTraces = false) (v : PV x) {a : Nat} (ha : a < 12) : Ct l D A G my_M_nextBit cd_M_nextBit 3 (some .int) df 0 0 [.ref mm, .int (nI a)] (MH A mm x h) n (fun v h' n' => v = some (.int (mNB x a).1) ∧ h' = MH A mm (mNB x a).2 h ∧ n' = n) (fun _ _ _ => False) := by
  obtain ⟨p, hp, ep⟩ := v a ha
  have e : mNB x a = (x 3 a >>> (nI p &&& 31) &&& nI 1, ur x 4 (upd (x 4) a (nI ((p + 1) % 16)))) := by
    unfold mNB
    rw [ep, cl_nI (by omega)]
  rw [e]
  exact k_M_nextBit hl ha ep hp
section Model13
variable {l : Launch} {D : va_G} {A : Nat → ClassId} {G : Heap} {h : Hp} {n mm df : Nat} {x : Nat → Nat → Int32}
set_option maxRecDepth 4000 in
set_option maxHeartbeats 1000000 in
theorem k_M_round (hl : l.stackTraces = false) {v0 v1 : Int32} {ot : Nat → Option Nat} (hot : ∀ k, k < 36 → x 1 k = oi (ot k)) (ht36 : ∀ k t, k < 36 → ot k = some t → t < 36) (hpv0 : PV x) : Ct l D A G my_M_round cd_M_round 9 none (df + 1) 0 0 [.ref mm, .int v0, .int v1] (MH A mm x h) n (fun v h' n' => v = none ∧ h' = MH A mm (mRound ot x v0 v1) h ∧ n' = n) (fun _ _ _ => False) := by
  refine Ct.of (by decide) hl (Nat.le_of_ble_eq_true rfl) ?_
  intro p e s m args below meth c C hr hnm ht dp
  have loop : ∀ k, k ≤ 36 → Rw p l e (cR (df + 1) 0 0) s m args below meth c (CQ D G n (fun v h' n' => v = none ∧ h' = MH A mm (mRound ot x v0 v1) h ∧ n' = n) (fun _ _ _ => False) below args s 0 0) D G 9 0 0 (MH A mm (mRd ot v0 (mAs x v0 v1 12) k) h) n [(0, .ref mm), (1, .int v0), (3, .int (nI k))] 60 [] := by
    refine r_loop 36 _ ?_ ?_
    ·
      refine r_iload_n C dc_M_round_60 rfl rfl ?_
      refine r_bipush (v := nI 36) C dc_M_round_61 (by decide) ?_
      refine r_icmp_geN (tgt := 236) C dc_M_round_63 (by decide) (by omega) (by omega) (fun c63 => ?_) (fun c63 => ?_)
      ·
        exact r_vret C dp hr dc_M_round_236 (Nat.le_refl _) ⟨rfl, rfl, rfl⟩
      · exact absurd c63 (by omega)
    ·
      intro k hk ih
      refine r_iload_n C dc_M_round_60 rfl rfl ?_
      refine r_bipush (v := nI 36) C dc_M_round_61 (by decide) ?_
      refine r_icmp_geN (tgt := 236) C dc_M_round_63 (by decide) (by omega) (by omega) (fun c63 => ?_) (fun c63 => ?_)
      · exact absurd c63 (by omega)
      ·
        have hpv := PV.rd (ot := ot) (v := v0) (x := (mAs x v0 v1 12)) (hpv0.ur (by decide)) k
        have hst : (mRd ot v0 (mAs x v0 v1 12) (k + 1)) = mRd1 ot v0 (mRd ot v0 (mAs x v0 v1 12) k) k := rfl
        generalize hyy : (mRd ot v0 (mAs x v0 v1 12) k) = y at hpv hst ih ⊢
        have hy1 : y 1 = x 1 := by rw [← hyy]; exact mRd_1 k
        unfold mRd1 at hst
        first | refine r_aload_n C dc_M_round_66 rfl rfl ?_ | refine r_aload_nq C dc_M_round_66 rfl rfl ?_
        refine r_get C dc_M_round_67 fl_M_62 mh_0 rfl ?_
        refine r_iload_n C dc_M_round_70 rfl rfl ?_
        refine r_iconst (v := nI 3) C dc_M_round_71 (by decide) ?_
        first | refine r_idivN C dc_M_round_72 (by omega) (by decide) (by decide) ?_ | refine r_idiv C dc_M_round_72 (by decide) ?_
        refine r_ialdN C dc_M_round_73 mh_18 (by omega) (by decide) ?_
        refine r_iload_n C dc_M_round_74 rfl rfl ?_
        refine r_icmp_ne (tgt := 230) C dc_M_round_75 (by decide) (fun c75 => ?_) (fun c75 => ?_)
        ·
          refine rw_h (y' := (mRd ot v0 (mAs x v0 v1 12) (k + 1))) (by rw [hst, if_pos c75]) ?_
          first | refine r_iincN C dc_M_round_230 rfl (by decide) (nw_of rfl) ?_ | refine r_iinc C dc_M_round_230 rfl rfl (by decide) (nw_of rfl) ?_
          refine r_goto (tgt := 60) C dc_M_round_233 (by decide) ?_
          refine r_weak ?_ (ih)
          exact wl_c (rfl) (wl_c (rfl) (wl_c (rfl) (wl_n)))
        ·
          rw [if_neg (fun z => z c75)] at hst
          first | refine r_aload_n C dc_M_round_78 rfl rfl ?_ | refine r_aload_nq C dc_M_round_78 rfl rfl ?_
          refine r_get C dc_M_round_79 fl_M_13 mh_0 rfl ?_
          refine r_iload_n C dc_M_round_82 rfl rfl ?_
          refine r_zaldN C dc_M_round_83 mh_2 (by omega) (by decide) ?_
          refine r_if_eq (tgt := 230) C dc_M_round_84 (by decide) (fun c84 => ?_) (fun c84 => ?_)
          ·
            refine rw_h (y' := (mRd ot v0 (mAs x v0 v1 12) (k + 1))) (by rw [hst, if_pos c84]) ?_
            first | refine r_iincN C dc_M_round_230 rfl (by decide) (nw_of rfl) ?_ | refine r_iinc C dc_M_round_230 rfl rfl (by decide) (nw_of rfl) ?_
            refine r_goto (tgt := 60) C dc_M_round_233 (by decide) ?_
            refine r_weak ?_ (ih)
            exact wl_c (rfl) (wl_c (rfl) (wl_c (rfl) (wl_n)))
          ·
            rw [if_neg c84] at hst
            first | refine r_aload_n C dc_M_round_87 rfl rfl ?_ | refine r_aload_nq C dc_M_round_87 rfl rfl ?_
            refine r_get C dc_M_round_88 fl_M_7 mh_0 rfl ?_
            refine r_iload_n C dc_M_round_91 rfl rfl ?_
            refine r_ialdN C dc_M_round_92 mh_1 (by omega) (by decide) ?_
            refine sb_at (P := fun v => Rw _ _ _ _ _ _ _ _ _ _ _ _ _ _ _ _ _ _ _ _ (.int v :: _)) (show _ = oi (ot k) from (congrFun hy1 k).trans (hot k hk)) ?_
            cases eo : ot k with
            | none =>
              rw [eo] at hst
              refine r_iload_n C dc_M_round_93 rfl rfl ?_
              refine r_icmp_ge (tgt := 100) C dc_M_round_94 (by decide) (fun c94 => ?_) (fun c94 => ?_)
              · exact absurd c94 (fun z => absurd (nI_pos' (n := k) (by omega)) (fun z2 => absurd m1_lt0 (Int32.not_lt.mpr (Int32.le_trans z2 z))))
              ·
                refine rw_h (y' := (mRd ot v0 (mAs x v0 v1 12) (k + 1))) hst.symm ?_
                refine r_goto (tgt := 230) C dc_M_round_97 (by decide) ?_
                first | refine r_iincN C dc_M_round_230 rfl (by decide) (nw_of rfl) ?_ | refine r_iinc C dc_M_round_230 rfl rfl (by decide) (nw_of rfl) ?_
                refine r_goto (tgt := 60) C dc_M_round_233 (by decide) ?_
                refine r_weak ?_ (ih)
                exact wl_c (rfl) (wl_c (rfl) (wl_c (rfl) (wl_n)))
            | some t =>
              have ht3 := ht36 k t hk eo
              rw [eo] at hst
              dsimp only at hst
              refine sb_at (P := fun v => Rw _ _ _ _ _ _ _ _ _ _ _ _ _ _ _ _ _ _ _ _ (.int v :: _)) (show oi (some t) = nI t from rfl) ?_
              refine r_iload_n C dc_M_round_93 rfl rfl ?_
              refine r_icmp_geN (tgt := 100) C dc_M_round_94 (by decide) (by omega) (by omega) (fun c94 => ?_) (fun c94 => ?_)
              ·
                rw [if_neg (by omega)] at hst
                unfold mCab at hst
                first | refine r_aload_n C dc_M_round_100 rfl rfl ?_ | refine r_aload_nq C dc_M_round_100 rfl rfl ?_
                refine r_get C dc_M_round_101 fl_M_7 mh_0 rfl ?_
                refine r_iload_n C dc_M_round_104 rfl rfl ?_
                refine r_ialdN C dc_M_round_105 mh_1 (by omega) (by decide) ?_
                refine sb_at (P := fun v => Rw _ _ _ _ _ _ _ _ _ _ _ _ _ _ _ _ _ _ _ _ (.int v :: _)) (show _ = nI t from (congrFun hy1 k).trans ((hot k hk).trans (by rw [eo]; rfl))) ?_
                refine r_istore C dc_M_round_106 (by decide) (nw_of rfl) ?_
                refine r_iload_n C dc_M_round_108 rfl rfl ?_
                refine r_iconst (v := nI 3) C dc_M_round_109 (by decide) ?_
                first | refine r_idivN C dc_M_round_110 (by omega) (by decide) (by decide) ?_ | refine r_idiv C dc_M_round_110 (by decide) ?_
                refine r_istore C dc_M_round_111 (by decide) (nw_of rfl) ?_
                refine r_iload C dc_M_round_113 rfl ?_
                refine r_iconst (v := nI 3) C dc_M_round_115 (by decide) ?_
                first | refine r_idivN C dc_M_round_116 (by omega) (by decide) (by decide) ?_ | refine r_idiv C dc_M_round_116 (by decide) ?_
                refine r_istore C dc_M_round_117 (by decide) (nw_of rfl) ?_
                first | refine r_aload_n C dc_M_round_119 rfl rfl ?_ | refine r_aload_nq C dc_M_round_119 rfl rfl ?_
                refine r_get C dc_M_round_120 fl_M_65 mh_0 rfl ?_
                refine r_iload C dc_M_round_123 rfl ?_
                refine r_zaldN C dc_M_round_125 mh_19 (by omega) (by decide) ?_
                refine r_if_eq (tgt := 193) C dc_M_round_126 (by decide) (fun c126 => ?_) (fun c126 => ?_)
                ·
                  rw [if_neg (fun z => z c126)] at hst
                  first | refine r_aload_n C dc_M_round_193 rfl rfl ?_ | refine r_aload_nq C dc_M_round_193 rfl rfl ?_
                  refine r_get C dc_M_round_194 fl_M_65 mh_0 rfl ?_
                  refine r_iload C dc_M_round_197 rfl ?_
                  refine r_zaldN C dc_M_round_199 mh_19 (by omega) (by decide) ?_
                  refine r_if_eq (tgt := 213) C dc_M_round_200 (by decide) (fun c200 => ?_) (fun c200 => ?_)
                  ·
                    first | refine r_aload_n C dc_M_round_213 rfl rfl ?_ | refine r_aload_nq C dc_M_round_213 rfl rfl ?_
                    refine r_get C dc_M_round_214 fl_M_65 mh_0 rfl ?_
                    refine r_iload C dc_M_round_217 rfl ?_
                    refine r_zaldN C dc_M_round_219 mh_19 (by omega) (by decide) ?_
                    refine r_if_eq (tgt := 230) C dc_M_round_220 (by decide) (fun c220 => ?_) (fun c220 => ?_)
                    ·
                      refine rw_h (y' := (mRd ot v0 (mAs x v0 v1 12) (k + 1))) (by rw [hst, if_neg (fun z => z c220)]) ?_
                      first | refine r_iincN C dc_M_round_230 rfl (by decide) (nw_of rfl) ?_ | refine r_iinc C dc_M_round_230 rfl rfl (by decide) (nw_of rfl) ?_
                      refine r_goto (tgt := 60) C dc_M_round_233 (by decide) ?_
                      refine r_weak ?_ (ih)
                      exact wl_c (rfl) (wl_c (rfl) (wl_c (rfl) (wl_n)))
                    ·
                      first | refine r_aload_n C dc_M_round_223 rfl rfl ?_ | refine r_aload_nq C dc_M_round_223 rfl rfl ?_
                      refine r_iload C dc_M_round_224 rfl ?_
                      refine r_iload_n C dc_M_round_226 rfl rfl ?_
                      refine r_callV C dp dc_M_round_227 cw_M_163 cm_M_close cv_M_close rfl (mh_0) (k_M_close (df := df) hl (a := t) (c0 := k) (by omega) (by omega)) (Nat.lt_succ_self _) rfl rfl (Nat.le_of_ble_eq_true rfl) (fun v227 h227 n227 q227 z227 => ?_) (fun _ _ _ _ z => z.elim)
                      obtain ⟨y227, y227h, y227n⟩ := z227
                      rw [y227, y227h, y227n]
                      refine rw_h (y' := (mRd ot v0 (mAs x v0 v1 12) (k + 1))) (by rw [hst, if_pos c220]; rfl) ?_
                      first | refine r_iincN C dc_M_round_230 rfl (by decide) (nw_of rfl) ?_ | refine r_iinc C dc_M_round_230 rfl rfl (by decide) (nw_of rfl) ?_
                      refine r_goto (tgt := 60) C dc_M_round_233 (by decide) ?_
                      refine r_weak ?_ (ih)
                      exact wl_c (rfl) (wl_c (rfl) (wl_c (rfl) (wl_n)))
                  · exact absurd c126 c200
                ·
                  rw [if_pos c126] at hst
                  first | refine r_aload_n C dc_M_round_129 rfl rfl ?_ | refine r_aload_nq C dc_M_round_129 rfl rfl ?_
                  refine r_get C dc_M_round_130 fl_M_65 mh_0 rfl ?_
                  refine r_iload C dc_M_round_133 rfl ?_
                  refine r_zaldN C dc_M_round_135 mh_19 (by omega) (by decide) ?_
                  refine r_if_eq (tgt := 193) C dc_M_round_136 (by decide) (fun c136 => ?_) (fun c136 => ?_)
                  ·
                    rw [if_neg (fun z => z c136)] at hst
                    first | refine r_aload_n C dc_M_round_193 rfl rfl ?_ | refine r_aload_nq C dc_M_round_193 rfl rfl ?_
                    refine r_get C dc_M_round_194 fl_M_65 mh_0 rfl ?_
                    refine r_iload C dc_M_round_197 rfl ?_
                    refine r_zaldN C dc_M_round_199 mh_19 (by omega) (by decide) ?_
                    refine r_if_eq (tgt := 213) C dc_M_round_200 (by decide) (fun c200 => ?_) (fun c200 => ?_)
                    · exact absurd c200 c126
                    ·
                      first | refine r_aload_n C dc_M_round_203 rfl rfl ?_ | refine r_aload_nq C dc_M_round_203 rfl rfl ?_
                      refine r_iload_n C dc_M_round_204 rfl rfl ?_
                      refine r_iload C dc_M_round_205 rfl ?_
                      refine r_callV C dp dc_M_round_207 cw_M_163 cm_M_close cv_M_close rfl (mh_0) (k_M_close (df := df) hl (a := k) (c0 := t) (by omega) (by omega)) (Nat.lt_succ_self _) rfl rfl (Nat.le_of_ble_eq_true rfl) (fun v207 h207 n207 q207 z207 => ?_) (fun _ _ _ _ z => z.elim)
                      obtain ⟨y207, y207h, y207n⟩ := z207
                      rw [y207, y207h, y207n]
                      refine rw_h (y' := (mRd ot v0 (mAs x v0 v1 12) (k + 1))) (by rw [hst]; rfl) ?_
                      refine r_goto (tgt := 230) C dc_M_round_210 (by decide) ?_
                      first | refine r_iincN C dc_M_round_230 rfl (by decide) (nw_of rfl) ?_ | refine r_iinc C dc_M_round_230 rfl rfl (by decide) (nw_of rfl) ?_
                      refine r_goto (tgt := 60) C dc_M_round_233 (by decide) ?_
                      refine r_weak ?_ (ih)
                      exact wl_c (rfl) (wl_c (rfl) (wl_c (rfl) (wl_n)))
                  ·
                    rw [if_pos c136] at hst
                    first | refine r_aload_n C dc_M_round_139 rfl rfl ?_ | refine r_aload_nq C dc_M_round_139 rfl rfl ?_
                    refine r_iload C dc_M_round_140 rfl ?_
                    refine r_callV C dp dc_M_round_142 cw_M_160 cm_M_nextBit cv_M_nextBit rfl (mh_0) (k_M_nb (df := df) hl hpv (a := k / 3) (by omega)) (Nat.lt_succ_self _) rfl rfl (Nat.le_of_ble_eq_true rfl) (fun v142 h142 n142 q142 z142 => ?_) (fun _ _ _ _ z => z.elim)
                    obtain ⟨y142, y142h, y142n⟩ := z142
                    rw [y142, y142h, y142n]
                    refine r_istore C dc_M_round_145 (by decide) (nw_of rfl) ?_
                    first | refine r_aload_n C dc_M_round_147 rfl rfl ?_ | refine r_aload_nq C dc_M_round_147 rfl rfl ?_
                    refine r_iload C dc_M_round_148 rfl ?_
                    refine r_callV C dp dc_M_round_150 cw_M_160 cm_M_nextBit cv_M_nextBit rfl (mh_0) (k_M_nb (df := df) hl (hpv.nb (k / 3)) (a := t / 3) (by omega)) (Nat.lt_succ_self _) rfl rfl (Nat.le_of_ble_eq_true rfl) (fun v150 h150 n150 q150 z150 => ?_) (fun _ _ _ _ z => z.elim)
                    obtain ⟨y150, y150h, y150n⟩ := z150
                    rw [y150, y150h, y150n]
                    refine r_istore C dc_M_round_153 (by decide) (nw_of rfl) ?_
                    refine r_iload C dc_M_round_155 rfl ?_
                    refine r_iload C dc_M_round_157 rfl ?_
                    refine r_icmp_eq (tgt := 190) C dc_M_round_159 (by decide) (fun c159 => ?_) (fun c159 => ?_)
                    ·
                      refine rw_h (y' := (mRd ot v0 (mAs x v0 v1 12) (k + 1))) (by rw [hst, if_pos c159]) ?_
                      refine r_goto (tgt := 230) C dc_M_round_190 (by decide) ?_
                      first | refine r_iincN C dc_M_round_230 rfl (by decide) (nw_of rfl) ?_ | refine r_iinc C dc_M_round_230 rfl rfl (by decide) (nw_of rfl) ?_
                      refine r_goto (tgt := 60) C dc_M_round_233 (by decide) ?_
                      refine r_weak ?_ (ih)
                      exact wl_c (rfl) (wl_c (rfl) (wl_c (rfl) (wl_n)))
                    ·
                      rw [if_neg c159] at hst
                      first | refine r_aload_n C dc_M_round_162 rfl rfl ?_ | refine r_aload_nq C dc_M_round_162 rfl rfl ?_
                      refine r_iload C dc_M_round_163 rfl ?_
                      refine r_iconst (v := nI 1) C dc_M_round_165 (by decide) ?_
                      refine r_icmp_ne (tgt := 174) C dc_M_round_166 (by decide) (fun c166 => ?_) (fun c166 => ?_)
                      ·
                        rw [if_neg c166] at hst
                        refine r_iload_n C dc_M_round_174 rfl rfl ?_
                        refine r_iload C dc_M_round_175 rfl ?_
                        refine r_iconst (v := nI 1) C dc_M_round_177 (by decide) ?_
                        refine r_icmp_ne (tgt := 185) C dc_M_round_178 (by decide) (fun c178 => ?_) (fun c178 => ?_)
                        ·
                          refine r_iload C dc_M_round_185 rfl ?_
                          refine r_callV C dp dc_M_round_187 cw_M_163 cm_M_close cv_M_close rfl (mh_0) (k_M_close (df := df) hl (a := k) (c0 := t) (by omega) (by omega)) (Nat.lt_succ_self _) rfl rfl (Nat.le_of_ble_eq_true rfl) (fun v187 h187 n187 q187 z187 => ?_) (fun _ _ _ _ z => z.elim)
                          obtain ⟨y187, y187h, y187n⟩ := z187
                          rw [y187, y187h, y187n]
                          refine rw_h (y' := (mRd ot v0 (mAs x v0 v1 12) (k + 1))) (by rw [hst]; rfl) ?_
                          refine r_goto (tgt := 230) C dc_M_round_190 (by decide) ?_
                          first | refine r_iincN C dc_M_round_230 rfl (by decide) (nw_of rfl) ?_ | refine r_iinc C dc_M_round_230 rfl rfl (by decide) (nw_of rfl) ?_
                          refine r_goto (tgt := 60) C dc_M_round_233 (by decide) ?_
                          refine r_weak ?_ (ih)
                          exact wl_c (rfl) (wl_c (rfl) (wl_c (rfl) (wl_n)))
                        · exact absurd c178 c166
                      ·
                        rw [if_pos c166] at hst
                        refine r_iload C dc_M_round_169 rfl ?_
                        refine r_goto (tgt := 175) C dc_M_round_171 (by decide) ?_
                        refine r_iload C dc_M_round_175 rfl ?_
                        refine r_iconst (v := nI 1) C dc_M_round_177 (by decide) ?_
                        refine r_icmp_ne (tgt := 185) C dc_M_round_178 (by decide) (fun c178 => ?_) (fun c178 => ?_)
                        · exact absurd c166 c178
                        ·
                          refine r_iload_n C dc_M_round_181 rfl rfl ?_
                          refine r_goto (tgt := 187) C dc_M_round_182 (by decide) ?_
                          refine r_callV C dp dc_M_round_187 cw_M_163 cm_M_close cv_M_close rfl (mh_0) (k_M_close (df := df) hl (a := t) (c0 := k) (by omega) (by omega)) (Nat.lt_succ_self _) rfl rfl (Nat.le_of_ble_eq_true rfl) (fun v187 h187 n187 q187 z187 => ?_) (fun _ _ _ _ z => z.elim)
                          obtain ⟨y187, y187h, y187n⟩ := z187
                          rw [y187, y187h, y187n]
                          refine rw_h (y' := (mRd ot v0 (mAs x v0 v1 12) (k + 1))) (by rw [hst]; rfl) ?_
                          refine r_goto (tgt := 230) C dc_M_round_190 (by decide) ?_
                          first | refine r_iincN C dc_M_round_230 rfl (by decide) (nw_of rfl) ?_ | refine r_iinc C dc_M_round_230 rfl rfl (by decide) (nw_of rfl) ?_
                          refine r_goto (tgt := 60) C dc_M_round_233 (by decide) ?_
                          refine r_weak ?_ (ih)
                          exact wl_c (rfl) (wl_c (rfl) (wl_c (rfl) (wl_n)))
              ·
                refine rw_h (y' := (mRd ot v0 (mAs x v0 v1 12) (k + 1))) (by rw [hst, if_pos (by omega)]) ?_
                refine r_goto (tgt := 230) C dc_M_round_97 (by decide) ?_
                first | refine r_iincN C dc_M_round_230 rfl (by decide) (nw_of rfl) ?_ | refine r_iinc C dc_M_round_230 rfl rfl (by decide) (nw_of rfl) ?_
                refine r_goto (tgt := 60) C dc_M_round_233 (by decide) ?_
                refine r_weak ?_ (ih)
                exact wl_c (rfl) (wl_c (rfl) (wl_c (rfl) (wl_n)))
  have lp1 : ∀ k, k ≤ 12 → Rw p l e (cR (df + 1) 0 0) s m args below meth c (CQ D G n (fun v h' n' => v = none ∧ h' = MH A mm (mRound ot x v0 v1) h ∧ n' = n) (fun _ _ _ => False) below args s 0 0) D G 9 0 0 (MH A mm (mAs x v0 v1 k) h) n [(0, .ref mm), (1, .int v0), (2, .int v1), (3, .int (nI k))] 2 [] := by
    refine r_loop 12 _ ?_ ?_
    ·
      refine r_iload_n C dc_M_round_2 rfl rfl ?_
      refine r_bipush (v := nI 12) C dc_M_round_3 (by decide) ?_
      refine r_icmp_geN (tgt := 58) C dc_M_round_5 (by decide) (by omega) (by omega) (fun c5 => ?_) (fun c5 => ?_)
      ·
        refine r_iconst (v := nI 0) C dc_M_round_58 (by decide) ?_
        refine r_istore_n C dc_M_round_59 rfl (by decide) (nw_of rfl) ?_
        refine r_weak ?_ (loop 0 (by omega))
        exact wl_c (rfl) (wl_c (rfl) (wl_c (rfl) (wl_n)))
      · exact absurd c5 (by omega)
    ·
      intro k hk ih
      refine r_iload_n C dc_M_round_2 rfl rfl ?_
      refine r_bipush (v := nI 12) C dc_M_round_3 (by decide) ?_
      refine r_icmp_geN (tgt := 58) C dc_M_round_5 (by decide) (by omega) (by omega) (fun c5 => ?_) (fun c5 => ?_)
      · exact absurd c5 (by omega)
      ·
        first | refine r_aload_n C dc_M_round_8 rfl rfl ?_ | refine r_aload_nq C dc_M_round_8 rfl rfl ?_
        refine r_get C dc_M_round_9 fl_M_65 mh_0 rfl ?_
        refine r_iload_n C dc_M_round_12 rfl rfl ?_
        first | refine r_aload_n C dc_M_round_13 rfl rfl ?_ | refine r_aload_nq C dc_M_round_13 rfl rfl ?_
        refine r_get C dc_M_round_14 fl_M_62 mh_0 rfl ?_
        refine r_iload_n C dc_M_round_17 rfl rfl ?_
        refine r_ialdN C dc_M_round_18 mh_18 (by omega) (by decide) ?_
        refine r_iload_n C dc_M_round_19 rfl rfl ?_
        refine r_icmp_ne (tgt := 50) C dc_M_round_20 (by decide) (fun c20 => ?_) (fun c20 => ?_)
        ·
          refine r_iconst (v := nI 0) C dc_M_round_50 (by decide) ?_
          refine r_zast C dc_M_round_51 mh_19 rfl (by omega) (by decide) (by first | exact zi_01 _ | exact zv_0 | exact zv_1 | assumption | decide) ?_
          rw [ms_19]
          refine rw_h (mAs_1 x v0 v1 k (by unfold mAsks; rw [decide_eq_false (show ¬ x 18 k = v0 from c20)]; rfl)) ?_
          first | refine r_iincN C dc_M_round_52 rfl (by decide) (nw_of rfl) ?_ | refine r_iinc C dc_M_round_52 rfl rfl (by decide) (nw_of rfl) ?_
          refine r_goto (tgt := 2) C dc_M_round_55 (by decide) ?_
          refine r_weak ?_ (ih)
          exact wl_c (rfl) (wl_c (rfl) (wl_c (rfl) (wl_c (rfl) (wl_n))))
        ·
          first | refine r_aload_n C dc_M_round_23 rfl rfl ?_ | refine r_aload_nq C dc_M_round_23 rfl rfl ?_
          refine r_iload_n C dc_M_round_24 rfl rfl ?_
          refine r_callV C dp dc_M_round_25 cw_M_157 cm_M_openAt cv_M_openAt rfl (mh_0) (k_M_openAt (df := df) hl (a := k) (by omega)) (Nat.lt_succ_self _) rfl rfl (Nat.le_of_ble_eq_true rfl) (fun v25 h25 n25 q25 z25 => ?_) (fun _ _ _ _ z => z.elim)
          obtain ⟨y25, y25h, y25n⟩ := z25
          rw [y25, y25h, y25n]
          have hcl := cntT_le (fun k_1 => decide (¬ x 2 (3 * k + k_1) = 0)) 3
          refine r_iconst (v := nI 1) C dc_M_round_28 (by decide) ?_
          refine r_icmp_neN (tgt := 50) C dc_M_round_29 (by decide) (show cntT (fun k_1 => decide (¬ x 2 (3 * k + k_1) = 0)) 3 < 2 ^ 31 by omega) (by omega) (fun c29 => ?_) (fun c29 => ?_)
          ·
            refine r_iconst (v := nI 0) C dc_M_round_50 (by decide) ?_
            refine r_zast C dc_M_round_51 mh_19 rfl (by omega) (by decide) (by first | exact zi_01 _ | exact zv_0 | exact zv_1 | assumption | decide) ?_
            rw [ms_19]
            refine rw_h (mAs_1 x v0 v1 k (by unfold mAsks; rw [decide_eq_false (show ¬ cntT (fun k_1 => decide (¬ x 2 (3 * k + k_1) = 0)) 3 = 1 from c29), Bool.false_and, Bool.and_false]; rfl)) ?_
            first | refine r_iincN C dc_M_round_52 rfl (by decide) (nw_of rfl) ?_ | refine r_iinc C dc_M_round_52 rfl rfl (by decide) (nw_of rfl) ?_
            refine r_goto (tgt := 2) C dc_M_round_55 (by decide) ?_
            refine r_weak ?_ (ih)
            exact wl_c (rfl) (wl_c (rfl) (wl_c (rfl) (wl_c (rfl) (wl_n))))
          ·
            first | refine r_aload_n C dc_M_round_32 rfl rfl ?_ | refine r_aload_nq C dc_M_round_32 rfl rfl ?_
            refine r_get C dc_M_round_33 fl_M_32 mh_0 rfl ?_
            refine r_iload_n C dc_M_round_36 rfl rfl ?_
            refine r_zaldN C dc_M_round_37 mh_8 (by omega) (by decide) ?_
            refine r_if_eq (tgt := 46) C dc_M_round_38 (by decide) (fun c38 => ?_) (fun c38 => ?_)
            ·
              refine r_iconst (v := nI 1) C dc_M_round_46 (by decide) ?_
              refine r_goto (tgt := 51) C dc_M_round_47 (by decide) ?_
              refine r_zast C dc_M_round_51 mh_19 rfl (by omega) (by decide) (by first | exact zi_01 _ | exact zv_0 | exact zv_1 | assumption | decide) ?_
              rw [ms_19]
              refine rw_h (mAs_1 x v0 v1 k (by unfold mAsks; rw [decide_eq_true (show x 18 k = v0 from c20), decide_eq_true (show cntT (fun k_1 => decide (¬ x 2 (3 * k + k_1) = 0)) 3 = 1 from c29), decide_eq_true (show x 8 k = 0 from c38)]; rfl)) ?_
              first | refine r_iincN C dc_M_round_52 rfl (by decide) (nw_of rfl) ?_ | refine r_iinc C dc_M_round_52 rfl rfl (by decide) (nw_of rfl) ?_
              refine r_goto (tgt := 2) C dc_M_round_55 (by decide) ?_
              refine r_weak ?_ (ih)
              exact wl_c (rfl) (wl_c (rfl) (wl_c (rfl) (wl_c (rfl) (wl_n))))
            ·
              refine r_iload_n C dc_M_round_41 rfl rfl ?_
              refine r_iconst (v := nI 4) C dc_M_round_42 (by decide) ?_
              refine r_icmp_le (tgt := 50) C dc_M_round_43 (by decide) (fun c43 => ?_) (fun c43 => ?_)
              ·
                refine r_iconst (v := nI 0) C dc_M_round_50 (by decide) ?_
                refine r_zast C dc_M_round_51 mh_19 rfl (by omega) (by decide) (by first | exact zi_01 _ | exact zv_0 | exact zv_1 | assumption | decide) ?_
                rw [ms_19]
                refine rw_h (mAs_1 x v0 v1 k (by unfold mAsks; rw [decide_eq_true (show x 18 k = v0 from c20), decide_eq_true (show cntT (fun k_1 => decide (¬ x 2 (3 * k + k_1) = 0)) 3 = 1 from c29), decide_eq_false (show ¬ x 8 k = 0 from c38), decide_eq_false (Int32.not_lt.mpr c43)]; rfl)) ?_
                first | refine r_iincN C dc_M_round_52 rfl (by decide) (nw_of rfl) ?_ | refine r_iinc C dc_M_round_52 rfl rfl (by decide) (nw_of rfl) ?_
                refine r_goto (tgt := 2) C dc_M_round_55 (by decide) ?_
                refine r_weak ?_ (ih)
                exact wl_c (rfl) (wl_c (rfl) (wl_c (rfl) (wl_c (rfl) (wl_n))))
              ·
                refine r_iconst (v := nI 1) C dc_M_round_46 (by decide) ?_
                refine r_goto (tgt := 51) C dc_M_round_47 (by decide) ?_
                refine r_zast C dc_M_round_51 mh_19 rfl (by omega) (by decide) (by first | exact zi_01 _ | exact zv_0 | exact zv_1 | assumption | decide) ?_
                rw [ms_19]
                refine rw_h (mAs_1 x v0 v1 k (by unfold mAsks; rw [decide_eq_true (show x 18 k = v0 from c20), decide_eq_true (show cntT (fun k_1 => decide (¬ x 2 (3 * k + k_1) = 0)) 3 = 1 from c29), decide_eq_true (Int32.not_le.mp c43), Bool.or_true]; rfl)) ?_
                first | refine r_iincN C dc_M_round_52 rfl (by decide) (nw_of rfl) ?_ | refine r_iinc C dc_M_round_52 rfl rfl (by decide) (nw_of rfl) ?_
                refine r_goto (tgt := 2) C dc_M_round_55 (by decide) ?_
                refine r_weak ?_ (ih)
                exact wl_c (rfl) (wl_c (rfl) (wl_c (rfl) (wl_c (rfl) (wl_n))))
  refine r_iconst (v := nI 0) C dc_M_round_0 (by decide) ?_
  refine r_istore_n C dc_M_round_1 rfl (by decide) (nw_of rfl) ?_
  refine rw_h (mAs_0 x v0 v1).symm ?_
  refine r_weak ?_ (lp1 0 (by omega))
  exact wl_c (rfl) (wl_c (rfl) (wl_c (rfl) (wl_c (rfl) (wl_n))))
end Model13
