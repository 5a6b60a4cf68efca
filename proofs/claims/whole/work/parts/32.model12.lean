theorem lg_le {x y : Int64} : lg_cmp x y ≤ 0 ↔ x ≤ y := lg_cmp_le x y
section LRows
variable {p : Program} {l : Launch} {e : Env} {R : Room} {s : State} {m : MethodId} {args : Array Value} {below : List Frame} {meth : Method} {c : Code} {Q : State → Prop} {D : va_G} {A : Nat → ClassId} {G : Heap} {cc : ByteArray} {nL : Nat} {own : String} {bc bs : Nat} {h : Hp} {n : Nat} {lo : List (Nat × Value)} {pc : Nat} {st : List Value}
theorem r_lcmp (C : Cx p l s m args meth c D A G cc nL own) {x y : Int64} (d : decode cc pc = .ok (.lcmp, 1)) (k : Rw p l e R s m args below meth c Q D G nL bc bs h n lo (pc + 1) (.int (lg_cmp x y) :: st)) : Rw p l e R s m args below meth c Q D G nL bc bs h n lo pc (.long y :: .long x :: st) :=
  fun H ls locs cells slots hR hz hl hf hc hs => W.lcmp C.1 C.2.1 d (k H ls locs cells slots hR hz hl hf hc hs)
theorem r_ldc2 (C : Cx p l s m args meth c D A G cc nL own) {index : Nat} {v : Int64} (d : decode cc pc = .ok (.ldc2_w index, 3)) (hw : Cond.constantLong own index v ∈ tbl) (k : Rw p l e R s m args below meth c Q D G nL bc bs h n lo (pc + 3) (.long v :: st)) : Rw p l e R s m args below meth c Q D G nL bc bs h n lo pc st :=
  fun H ls locs cells slots hR hz hl hf hc hs => lv_ldc2 C.1 C.2.1 C.2.2.2.1 (C.2.2.2.2.1.w hw) d (k H ls locs cells slots hR hz hl hf hc hs)
end LRows
theorem lc_M2 : Cond.constantLong rn_M 201 100 ∈ tbl := by decide +kernel
/-- the nodes of bus v but a heard one more, those below k -/
def mHr (x : Nat → Nat → Int32) (v : Int32) (a k : Nat) : Nat → Nat → Int32 := ur x 5 (fun i => if i < k ∧ ¬ i = a ∧ x 18 i = v then x 5 i + nI 1 else x 5 i)
theorem mHr_0 (x : Nat → Nat → Int32) (v : Int32) (a : Nat) : mHr x v a 0 = x := by
  unfold mHr
  rw [show (fun i => if i < 0 ∧ ¬ i = a ∧ x 18 i = v then x 5 i + nI 1 else x 5 i) = x 5 from funext fun i => if_neg (by omega), ur_self]
theorem mHr_n {x : Nat → Nat → Int32} {v : Int32} {a k : Nat} (q : ¬ (¬ k = a ∧ x 18 k = v)) : mHr x v a k = mHr x v a (k + 1) := by
  unfold mHr
  congr 1
  funext i
  by_cases e : i = k
  · rw [if_neg (by omega), if_neg (fun z => q (e ▸ z.2))]
  · by_cases e2 : ¬ i = a ∧ x 18 i = v
    · by_cases e3 : i < k
      · rw [if_pos ⟨e3, e2⟩, if_pos ⟨by omega, e2⟩]
      · rw [if_neg (fun z => e3 z.1), if_neg (fun z => by omega)]
    · rw [if_neg (fun z => e2 z.2), if_neg (fun z => e2 z.2)]
theorem mHr_at {x : Nat → Nat → Int32} {v : Int32} {a k : Nat} : mHr x v a k 5 k = x 5 k := if_neg (by omega)
theorem mHr_y {x : Nat → Nat → Int32} {v : Int32} {a k : Nat} (q : ¬ k = a ∧ x 18 k = v) : ur (mHr x v a k) 5 (upd (mHr x v a k 5) k (x 5 k + nI 1)) = mHr x v a (k + 1) := by
  unfold mHr
  rw [ur_ur, ur_eq]
  congr 1
  funext i
  unfold upd
  by_cases e : i = k
  · rw [if_pos e, if_pos ⟨by omega, e ▸ q⟩, e]
  · rw [if_neg e]
    show (if i < k ∧ ¬ i = a ∧ x 18 i = v then x 5 i + nI 1 else x 5 i) = _
    by_cases e2 : ¬ i = a ∧ x 18 i = v
    · by_cases e3 : i < k
      · rw [if_pos ⟨e3, e2⟩, if_pos ⟨by omega, e2⟩]
      · rw [if_neg (fun z => e3 z.1), if_neg (fun z => by omega)]
    · rw [if_neg (fun z => e2 z.2), if_neg (fun z => e2 z.2)]
/-- who has number k in bus v -/
def mWho (x : Nat → Nat → Int32) (v : Int32) (k : Nat) : Option Nat := fstF (fun i => decide (x 18 i = v ∧ x 15 i = nI k)) 12 0
def mCy1 (y : Nat → Nat → Int32) (v : Int32) (room : Int64) (free t : Int32) (w : Option Nat) : Int32 × (Nat → Nat → Int32) := match w with
  | none => (t, y)
  | some a => if y 7 a = 0 then (t, y) else if (free >>> (y 6 a &&& 31)) &&& nI 1 = nI 1 then (t, y) else if (t + y 7 a).toInt64 ≤ room then (t + y 7 a, mHr (ur y 40 (fun _ => y 40 0 + nI 1)) v a 12) else (t, y)
def mCy (x : Nat → Nat → Int32) (v : Int32) (room : Int64) (free : Int32) : Nat → Int32 × (Nat → Nat → Int32)
  | 0 => (nI 0, x)
  | k + 1 => mCy1 (mCy x v room free k).2 v room free (mCy x v room free k).1 (mWho (mCy x v room free k).2 v k)
def mCycle (x : Nat → Nat → Int32) (v : Int32) (ch : Nat) : Nat → Nat → Int32 := (mCy x v (100 - (x 13 (8 * ch + 6)).toInt64) (x 13 (8 * ch + 7)) 12).2
theorem fst_lt {P : Nat → Bool} : ∀ {d i j : Nat}, fstF P d i = some j → j < i + d := by
  intro d
  induction d with
  | zero => intro i j h; cases h
  | succ d ih =>
    intro i j h
    unfold fstF at h
    cases e : P i with
    | true => rw [e] at h; cases h; omega
    | false => rw [e] at h; have := ih h; omega
section Model12
variable {l : Launch} {D : va_G} {A : Nat → ClassId} {G : Heap} {h : Hp} {n mm df : Nat} {x : Nat → Nat → Int32}
set_option maxRecDepth 4000 in
set_option maxHeartbeats 1000000 in
theorem k_M_cycle (hl : l.stackTraces = false) {b0 ch : Nat} (hb : b0 < 12) (hch : x 17 b0 = nI ch) (hch1 : ch < 12) : Ct l D A G my_M_cycle cd_M_cycle 10 none (df + 1) 0 0 [.ref mm, .int (nI b0)] (MH A mm x h) n (fun v h' n' => v = none ∧ h' = MH A mm (mCycle x (nI b0) ch) h ∧ n' = n) (fun _ _ _ => False) := by
  refine Ct.of (by decide) hl (Nat.le_of_ble_eq_true rfl) ?_
  intro p e s m args below meth c C hr hnm ht dp
  have loop : ∀ k, k ≤ 12 → Rw p l e (cR (df + 1) 0 0) s m args below meth c (CQ D G n (fun v h' n' => v = none ∧ h' = MH A mm (mCycle x (nI b0) ch) h ∧ n' = n) (fun _ _ _ => False) below args s 0 0) D G 10 0 0 (MH A mm (mCy x (nI b0) (100 - (x 13 (8 * ch + 6)).toInt64) (x 13 (8 * ch + 7)) k).2 h) n [(0, .ref mm), (1, .int (nI b0)), (3, .int (mCy x (nI b0) (100 - (x 13 (8 * ch + 6)).toInt64) (x 13 (8 * ch + 7)) k).1), (4, .long (100 - (x 13 (8 * ch + 6)).toInt64)), (6, .int (x 13 (8 * ch + 7))), (7, .int (nI k))] 45 [] := by
    refine r_loop 12 _ ?_ ?_
    ·
      refine r_iload C dc_M_cycle_45 rfl ?_
      refine r_bipush (v := nI 12) C dc_M_cycle_47 (by decide) ?_
      refine r_icmp_geN (tgt := 182) C dc_M_cycle_49 (by decide) (by omega) (by omega) (fun c49 => ?_) (fun c49 => ?_)
      ·
        exact r_vret C dp hr dc_M_cycle_182 (Nat.le_refl _) ⟨rfl, rfl, rfl⟩
      · exact absurd c49 (by omega)
    ·
      intro k hk ih
      refine r_iload C dc_M_cycle_45 rfl ?_
      refine r_bipush (v := nI 12) C dc_M_cycle_47 (by decide) ?_
      refine r_icmp_geN (tgt := 182) C dc_M_cycle_49 (by decide) (by omega) (by omega) (fun c49 => ?_) (fun c49 => ?_)
      · exact absurd c49 (by omega)
      ·
        first | refine r_aload_n C dc_M_cycle_52 rfl rfl ?_ | refine r_aload_nq C dc_M_cycle_52 rfl rfl ?_
        refine r_iload_n C dc_M_cycle_53 rfl rfl ?_
        refine r_iload C dc_M_cycle_54 rfl ?_
        refine r_callV C dp dc_M_cycle_56 cw_M_203 cm_M_numbered cv_M_numbered rfl (mh_0) (k_M_numbered (df := df) hl) (Nat.lt_succ_self _) rfl rfl (Nat.le_of_ble_eq_true rfl) (fun v56 h56 n56 q56 z56 => ?_) (fun _ _ _ _ z => z.elim)
        obtain ⟨y56, y56h, y56n⟩ := z56
        rw [y56, y56h, y56n]
        have hW : fstF (fun i => decide ((mCy x (nI b0) (100 - (x 13 (8 * ch + 6)).toInt64) (x 13 (8 * ch + 7)) k).2 18 i = nI b0 ∧ (mCy x (nI b0) (100 - (x 13 (8 * ch + 6)).toInt64) (x 13 (8 * ch + 7)) k).2 15 i = nI k)) 12 0 = mWho (mCy x (nI b0) (100 - (x 13 (8 * ch + 6)).toInt64) (x 13 (8 * ch + 7)) k).2 (nI b0) k := rfl
        rw [hW]
        have hstep : (mCy x (nI b0) (100 - (x 13 (8 * ch + 6)).toInt64) (x 13 (8 * ch + 7)) (k + 1)) = mCy1 (mCy x (nI b0) (100 - (x 13 (8 * ch + 6)).toInt64) (x 13 (8 * ch + 7)) k).2 (nI b0) (100 - (x 13 (8 * ch + 6)).toInt64) (x 13 (8 * ch + 7)) (mCy x (nI b0) (100 - (x 13 (8 * ch + 6)).toInt64) (x 13 (8 * ch + 7)) k).1 (mWho (mCy x (nI b0) (100 - (x 13 (8 * ch + 6)).toInt64) (x 13 (8 * ch + 7)) k).2 (nI b0) k) := rfl
        cases eb : mWho (mCy x (nI b0) (100 - (x 13 (8 * ch + 6)).toInt64) (x 13 (8 * ch + 7)) k).2 (nI b0) k with
        | none =>
          refine r_istore C dc_M_cycle_59 (by decide) (nw_of rfl) ?_
          refine r_iload C dc_M_cycle_61 rfl ?_
          refine r_if_lt (tgt := 176) C dc_M_cycle_63 (by decide) (fun c63 => ?_) (fun c63 => ?_)
          ·
            have e9 : (mCy x (nI b0) (100 - (x 13 (8 * ch + 6)).toInt64) (x 13 (8 * ch + 7)) (k + 1)) = (mCy x (nI b0) (100 - (x 13 (8 * ch + 6)).toInt64) (x 13 (8 * ch + 7)) k) := by rw [hstep, eb]; rfl
            refine rw_h (y' := (mCy x (nI b0) (100 - (x 13 (8 * ch + 6)).toInt64) (x 13 (8 * ch + 7)) (k + 1)).2) (by rw [e9]) ?_
            first | refine r_iincN C dc_M_cycle_176 rfl (by decide) (nw_of rfl) ?_ | refine r_iinc C dc_M_cycle_176 rfl rfl (by decide) (nw_of rfl) ?_
            refine r_goto (tgt := 45) C dc_M_cycle_179 (by decide) ?_
            refine r_weak ?_ (ih)
            exact wl_c (rfl) (wl_c (rfl) (wl_c (by rw [e9]; rfl) (wl_c (rfl) (wl_c (rfl) (wl_c (rfl) (wl_n))))))
          · exact absurd m1_lt0 c63
        | some a =>
          have ha : a < 12 := by have := fst_lt eb; omega
          refine sb_at (P := fun v => Rw _ _ _ _ _ _ _ _ _ _ _ _ _ _ _ _ _ _ _ _ (.int v :: _)) (show oi (some a) = nI a from rfl) ?_
          refine r_istore C dc_M_cycle_59 (by decide) (nw_of rfl) ?_
          refine r_iload C dc_M_cycle_61 rfl ?_
          refine r_if_lt (tgt := 176) C dc_M_cycle_63 (by decide) (fun c63 => ?_) (fun c63 => ?_)
          · exact absurd c63 (nI_lt0 (by omega))
          ·
            first | refine r_aload_n C dc_M_cycle_66 rfl rfl ?_ | refine r_aload_nq C dc_M_cycle_66 rfl rfl ?_
            refine r_get C dc_M_cycle_67 fl_M_29 mh_0 rfl ?_
            refine r_iload C dc_M_cycle_70 rfl ?_
            refine r_ialdN C dc_M_cycle_72 mh_7 (by omega) (by decide) ?_
            refine r_if_eq (tgt := 176) C dc_M_cycle_73 (by decide) (fun c73 => ?_) (fun c73 => ?_)
            ·
              have e9 : (mCy x (nI b0) (100 - (x 13 (8 * ch + 6)).toInt64) (x 13 (8 * ch + 7)) (k + 1)) = (mCy x (nI b0) (100 - (x 13 (8 * ch + 6)).toInt64) (x 13 (8 * ch + 7)) k) := by rw [hstep, eb]; exact if_pos c73
              refine rw_h (y' := (mCy x (nI b0) (100 - (x 13 (8 * ch + 6)).toInt64) (x 13 (8 * ch + 7)) (k + 1)).2) (by rw [e9]) ?_
              first | refine r_iincN C dc_M_cycle_176 rfl (by decide) (nw_of rfl) ?_ | refine r_iinc C dc_M_cycle_176 rfl rfl (by decide) (nw_of rfl) ?_
              refine r_goto (tgt := 45) C dc_M_cycle_179 (by decide) ?_
              refine r_weak ?_ (ih)
              exact wl_c (rfl) (wl_c (rfl) (wl_c (by rw [e9]; rfl) (wl_c (rfl) (wl_c (rfl) (wl_c (rfl) (wl_n))))))
            ·
              refine r_iload C dc_M_cycle_76 rfl ?_
              first | refine r_aload_n C dc_M_cycle_78 rfl rfl ?_ | refine r_aload_nq C dc_M_cycle_78 rfl rfl ?_
              refine r_get C dc_M_cycle_79 fl_M_26 mh_0 rfl ?_
              refine r_iload C dc_M_cycle_82 rfl ?_
              refine r_ialdN C dc_M_cycle_84 mh_6 (by omega) (by decide) ?_
              refine r_ishr C dc_M_cycle_85 ?_
              refine r_iconst (v := nI 1) C dc_M_cycle_86 (by decide) ?_
              refine r_iand C dc_M_cycle_87 ?_
              refine r_iconst (v := nI 1) C dc_M_cycle_88 (by decide) ?_
              refine r_icmp_eq (tgt := 176) C dc_M_cycle_89 (by decide) (fun c89 => ?_) (fun c89 => ?_)
              ·
                have e9 : (mCy x (nI b0) (100 - (x 13 (8 * ch + 6)).toInt64) (x 13 (8 * ch + 7)) (k + 1)) = (mCy x (nI b0) (100 - (x 13 (8 * ch + 6)).toInt64) (x 13 (8 * ch + 7)) k) := by rw [hstep, eb]; exact (if_neg c73).trans (if_pos c89)
                refine rw_h (y' := (mCy x (nI b0) (100 - (x 13 (8 * ch + 6)).toInt64) (x 13 (8 * ch + 7)) (k + 1)).2) (by rw [e9]) ?_
                first | refine r_iincN C dc_M_cycle_176 rfl (by decide) (nw_of rfl) ?_ | refine r_iinc C dc_M_cycle_176 rfl rfl (by decide) (nw_of rfl) ?_
                refine r_goto (tgt := 45) C dc_M_cycle_179 (by decide) ?_
                refine r_weak ?_ (ih)
                exact wl_c (rfl) (wl_c (rfl) (wl_c (by rw [e9]; rfl) (wl_c (rfl) (wl_c (rfl) (wl_c (rfl) (wl_n))))))
              ·
                refine r_iload_n C dc_M_cycle_92 rfl rfl ?_
                first | refine r_aload_n C dc_M_cycle_93 rfl rfl ?_ | refine r_aload_nq C dc_M_cycle_93 rfl rfl ?_
                refine r_get C dc_M_cycle_94 fl_M_29 mh_0 rfl ?_
                refine r_iload C dc_M_cycle_97 rfl ?_
                refine r_ialdN C dc_M_cycle_99 mh_7 (by omega) (by decide) ?_
                first | refine r_iaddN C dc_M_cycle_100 ?_ | refine r_iadd C dc_M_cycle_100 ?_
                refine r_i2l C dc_M_cycle_101 rfl ?_
                refine r_lload C dc_M_cycle_102 rfl ?_
                refine r_lcmp C dc_M_cycle_104 ?_
                refine r_if_le (tgt := 111) C dc_M_cycle_105 (by decide) (fun c105 => ?_) (fun c105 => ?_)
                ·
                  have e9 : (mCy x (nI b0) (100 - (x 13 (8 * ch + 6)).toInt64) (x 13 (8 * ch + 7)) (k + 1)) = ((mCy x (nI b0) (100 - (x 13 (8 * ch + 6)).toInt64) (x 13 (8 * ch + 7)) k).1 + (mCy x (nI b0) (100 - (x 13 (8 * ch + 6)).toInt64) (x 13 (8 * ch + 7)) k).2 7 a, mHr (ur (mCy x (nI b0) (100 - (x 13 (8 * ch + 6)).toInt64) (x 13 (8 * ch + 7)) k).2 40 (fun _ => (mCy x (nI b0) (100 - (x 13 (8 * ch + 6)).toInt64) (x 13 (8 * ch + 7)) k).2 40 0 + nI 1)) (nI b0) a 12) := by
                    rw [hstep, eb]
                    exact (if_neg c73).trans ((if_neg c89).trans (if_pos (lg_le.mp c105)))
                  have hr9 : ∀ t, t ≤ 12 → Rw p l e (cR (df + 1) 0 0) s m args below meth c (CQ D G n (fun v h' n' => v = none ∧ h' = MH A mm (mCycle x (nI b0) ch) h ∧ n' = n) (fun _ _ _ => False) below args s 0 0) D G 10 0 0 (MH A mm (mHr (ur (mCy x (nI b0) (100 - (x 13 (8 * ch + 6)).toInt64) (x 13 (8 * ch + 7)) k).2 40 (fun _ => (mCy x (nI b0) (100 - (x 13 (8 * ch + 6)).toInt64) (x 13 (8 * ch + 7)) k).2 40 0 + nI 1)) (nI b0) a t) h) n [(0, .ref mm), (1, .int (nI b0)), (3, .int ((mCy x (nI b0) (100 - (x 13 (8 * ch + 6)).toInt64) (x 13 (8 * ch + 7)) k).1 + (mCy x (nI b0) (100 - (x 13 (8 * ch + 6)).toInt64) (x 13 (8 * ch + 7)) k).2 7 a)), (4, .long (100 - (x 13 (8 * ch + 6)).toInt64)), (6, .int (x 13 (8 * ch + 7))), (7, .int (nI k)), (8, .int (nI a)), (9, .int (nI t))] 134 [] := by
                    refine r_loop 12 _ ?_ ?_
                    ·
                      refine r_iload C dc_M_cycle_134 rfl ?_
                      refine r_bipush (v := nI 12) C dc_M_cycle_136 (by decide) ?_
                      refine r_icmp_geN (tgt := 176) C dc_M_cycle_138 (by decide) (by omega) (by omega) (fun c138 => ?_) (fun c138 => ?_)
                      ·
                        refine rw_h (y' := (mCy x (nI b0) (100 - (x 13 (8 * ch + 6)).toInt64) (x 13 (8 * ch + 7)) (k + 1)).2) (by rw [e9]) ?_
                        first | refine r_iincN C dc_M_cycle_176 rfl (by decide) (nw_of rfl) ?_ | refine r_iinc C dc_M_cycle_176 rfl rfl (by decide) (nw_of rfl) ?_
                        refine r_goto (tgt := 45) C dc_M_cycle_179 (by decide) ?_
                        refine r_weak ?_ (ih)
                        exact wl_c (rfl) (wl_c (rfl) (wl_c (by rw [e9]; rfl) (wl_c (rfl) (wl_c (rfl) (wl_c (rfl) (wl_n))))))
                      · exact absurd c138 (by omega)
                    ·
                      intro t ht iht
                      refine r_iload C dc_M_cycle_134 rfl ?_
                      refine r_bipush (v := nI 12) C dc_M_cycle_136 (by decide) ?_
                      refine r_icmp_geN (tgt := 176) C dc_M_cycle_138 (by decide) (by omega) (by omega) (fun c138 => ?_) (fun c138 => ?_)
                      · exact absurd c138 (by omega)
                      ·
                        refine r_iload C dc_M_cycle_141 rfl ?_
                        refine r_iload C dc_M_cycle_143 rfl ?_
                        refine r_icmp_eqN (tgt := 170) C dc_M_cycle_145 (by decide) (by omega) (by omega) (fun c145 => ?_) (fun c145 => ?_)
                        ·
                          refine rw_h (y' := mHr (ur (mCy x (nI b0) (100 - (x 13 (8 * ch + 6)).toInt64) (x 13 (8 * ch + 7)) k).2 40 (fun _ => (mCy x (nI b0) (100 - (x 13 (8 * ch + 6)).toInt64) (x 13 (8 * ch + 7)) k).2 40 0 + nI 1)) (nI b0) a (t + 1)) (mHr_n (fun z => z.1 c145)) ?_
                          first | refine r_iincN C dc_M_cycle_170 rfl (by decide) (nw_of rfl) ?_ | refine r_iinc C dc_M_cycle_170 rfl rfl (by decide) (nw_of rfl) ?_
                          refine r_goto (tgt := 134) C dc_M_cycle_173 (by decide) ?_
                          refine r_weak ?_ (iht)
                          exact wl_c (rfl) (wl_c (rfl) (wl_c (rfl) (wl_c (rfl) (wl_c (rfl) (wl_c (rfl) (wl_c (rfl) (wl_c (rfl) (wl_n))))))))
                        ·
                          first | refine r_aload_n C dc_M_cycle_148 rfl rfl ?_ | refine r_aload_nq C dc_M_cycle_148 rfl rfl ?_
                          refine r_get C dc_M_cycle_149 fl_M_62 mh_0 rfl ?_
                          refine r_iload C dc_M_cycle_152 rfl ?_
                          refine r_ialdN C dc_M_cycle_154 mh_18 (by omega) (by decide) ?_
                          refine r_iload_n C dc_M_cycle_155 rfl rfl ?_
                          refine r_icmp_ne (tgt := 170) C dc_M_cycle_156 (by decide) (fun c156 => ?_) (fun c156 => ?_)
                          ·
                            refine rw_h (y' := mHr (ur (mCy x (nI b0) (100 - (x 13 (8 * ch + 6)).toInt64) (x 13 (8 * ch + 7)) k).2 40 (fun _ => (mCy x (nI b0) (100 - (x 13 (8 * ch + 6)).toInt64) (x 13 (8 * ch + 7)) k).2 40 0 + nI 1)) (nI b0) a (t + 1)) (mHr_n (fun z => c156 z.2)) ?_
                            first | refine r_iincN C dc_M_cycle_170 rfl (by decide) (nw_of rfl) ?_ | refine r_iinc C dc_M_cycle_170 rfl rfl (by decide) (nw_of rfl) ?_
                            refine r_goto (tgt := 134) C dc_M_cycle_173 (by decide) ?_
                            refine r_weak ?_ (iht)
                            exact wl_c (rfl) (wl_c (rfl) (wl_c (rfl) (wl_c (rfl) (wl_c (rfl) (wl_c (rfl) (wl_c (rfl) (wl_c (rfl) (wl_n))))))))
                          ·
                            first | refine r_aload_n C dc_M_cycle_159 rfl rfl ?_ | refine r_aload_nq C dc_M_cycle_159 rfl rfl ?_
                            refine r_get C dc_M_cycle_160 fl_M_23 mh_0 rfl ?_
                            refine r_iload C dc_M_cycle_163 rfl ?_
                            refine r_dup2 C dc_M_cycle_165 rfl rfl ?_
                            refine r_ialdN C dc_M_cycle_166 mh_5 (by omega) (by decide) ?_
                            refine sb_at (P := fun v => Rw _ _ _ _ _ _ _ _ _ _ _ _ _ _ _ _ _ _ _ _ (.int v :: _)) (show _ = (ur (mCy x (nI b0) (100 - (x 13 (8 * ch + 6)).toInt64) (x 13 (8 * ch + 7)) k).2 40 (fun _ => (mCy x (nI b0) (100 - (x 13 (8 * ch + 6)).toInt64) (x 13 (8 * ch + 7)) k).2 40 0 + nI 1)) 5 t from mHr_at) ?_
                            refine r_iconst (v := nI 1) C dc_M_cycle_167 (by decide) ?_
                            first | refine r_iaddN C dc_M_cycle_168 ?_ | refine r_iadd C dc_M_cycle_168 ?_
                            refine r_iast C dc_M_cycle_169 mh_5 rfl (by omega) (by decide) ?_
                            rw [ms_5]
                            refine rw_h (y' := mHr (ur (mCy x (nI b0) (100 - (x 13 (8 * ch + 6)).toInt64) (x 13 (8 * ch + 7)) k).2 40 (fun _ => (mCy x (nI b0) (100 - (x 13 (8 * ch + 6)).toInt64) (x 13 (8 * ch + 7)) k).2 40 0 + nI 1)) (nI b0) a (t + 1)) (mHr_y ⟨c145, c156⟩) ?_
                            first | refine r_iincN C dc_M_cycle_170 rfl (by decide) (nw_of rfl) ?_ | refine r_iinc C dc_M_cycle_170 rfl rfl (by decide) (nw_of rfl) ?_
                            refine r_goto (tgt := 134) C dc_M_cycle_173 (by decide) ?_
                            refine r_weak ?_ (iht)
                            exact wl_c (rfl) (wl_c (rfl) (wl_c (rfl) (wl_c (rfl) (wl_c (rfl) (wl_c (rfl) (wl_c (rfl) (wl_c (rfl) (wl_n))))))))
                  refine r_iload_n C dc_M_cycle_111 rfl rfl ?_
                  first | refine r_aload_n C dc_M_cycle_112 rfl rfl ?_ | refine r_aload_nq C dc_M_cycle_112 rfl rfl ?_
                  refine r_get C dc_M_cycle_113 fl_M_29 mh_0 rfl ?_
                  refine r_iload C dc_M_cycle_116 rfl ?_
                  refine r_ialdN C dc_M_cycle_118 mh_7 (by omega) (by decide) ?_
                  first | refine r_iaddN C dc_M_cycle_119 ?_ | refine r_iadd C dc_M_cycle_119 ?_
                  refine r_istore_n C dc_M_cycle_120 rfl (by decide) (nw_of rfl) ?_
                  first | refine r_aload_n C dc_M_cycle_121 rfl rfl ?_ | refine r_aload_nq C dc_M_cycle_121 rfl rfl ?_
                  refine r_dup C dc_M_cycle_122 rfl ?_
                  refine r_get C dc_M_cycle_123 fl_M_206 mh_0 rfl ?_
                  refine r_iconst (v := nI 1) C dc_M_cycle_126 (by decide) ?_
                  first | refine r_iaddN C dc_M_cycle_127 ?_ | refine r_iadd C dc_M_cycle_127 ?_
                  refine r_put C dc_M_cycle_128 fl_M_206 mh_0 rfl rfl (Nat.le_of_ble_eq_true rfl) ?_
                  rw [mp_40]
                  refine r_iconst (v := nI 0) C dc_M_cycle_131 (by decide) ?_
                  refine r_istore C dc_M_cycle_132 (by decide) (nw_of rfl) ?_
                  refine rw_h (y' := mHr (ur (mCy x (nI b0) (100 - (x 13 (8 * ch + 6)).toInt64) (x 13 (8 * ch + 7)) k).2 40 (fun _ => (mCy x (nI b0) (100 - (x 13 (8 * ch + 6)).toInt64) (x 13 (8 * ch + 7)) k).2 40 0 + nI 1)) (nI b0) a 0) (mHr_0 _ _ _).symm ?_
                  refine r_weak ?_ (hr9 0 (by omega))
                  exact wl_c (rfl) (wl_c (rfl) (wl_c (rfl) (wl_c (rfl) (wl_c (rfl) (wl_c (rfl) (wl_c (rfl) (wl_c (rfl) (wl_n))))))))
                ·
                  have e9 : (mCy x (nI b0) (100 - (x 13 (8 * ch + 6)).toInt64) (x 13 (8 * ch + 7)) (k + 1)) = (mCy x (nI b0) (100 - (x 13 (8 * ch + 6)).toInt64) (x 13 (8 * ch + 7)) k) := by rw [hstep, eb]; exact (if_neg c73).trans ((if_neg c89).trans (if_neg (fun z => c105 (lg_le.mpr z))))
                  refine rw_h (y' := (mCy x (nI b0) (100 - (x 13 (8 * ch + 6)).toInt64) (x 13 (8 * ch + 7)) (k + 1)).2) (by rw [e9]) ?_
                  refine r_goto (tgt := 176) C dc_M_cycle_108 (by decide) ?_
                  first | refine r_iincN C dc_M_cycle_176 rfl (by decide) (nw_of rfl) ?_ | refine r_iinc C dc_M_cycle_176 rfl rfl (by decide) (nw_of rfl) ?_
                  refine r_goto (tgt := 45) C dc_M_cycle_179 (by decide) ?_
                  refine r_weak ?_ (ih)
                  exact wl_c (rfl) (wl_c (rfl) (wl_c (by rw [e9]; rfl) (wl_c (rfl) (wl_c (rfl) (wl_c (rfl) (wl_n))))))
  first | refine r_aload_n C dc_M_cycle_0 rfl rfl ?_ | refine r_aload_nq C dc_M_cycle_0 rfl rfl ?_
  refine r_get C dc_M_cycle_1 fl_M_59 mh_0 rfl ?_
  refine r_iload_n C dc_M_cycle_4 rfl rfl ?_
  refine r_ialdN C dc_M_cycle_5 mh_17 (by omega) (by decide) ?_
  refine sb_at (P := fun v => Rw _ _ _ _ _ _ _ _ _ _ _ _ _ _ _ _ _ _ _ _ (.int v :: _)) hch ?_
  refine r_istore_n C dc_M_cycle_6 rfl (by decide) (nw_of rfl) ?_
  refine r_iconst (v := nI 0) C dc_M_cycle_7 (by decide) ?_
  refine r_istore_n C dc_M_cycle_8 rfl (by decide) (nw_of rfl) ?_
  refine r_ldc2 (v := 100) C dc_M_cycle_9 lc_M2 ?_
  first | refine r_aload_n C dc_M_cycle_12 rfl rfl ?_ | refine r_aload_nq C dc_M_cycle_12 rfl rfl ?_
  refine r_get C dc_M_cycle_13 fl_M_47 mh_0 rfl ?_
  refine r_bipush (v := nI 8) C dc_M_cycle_16 (by decide) ?_
  refine r_iload_n C dc_M_cycle_18 rfl rfl ?_
  first | refine r_imulN C dc_M_cycle_19 ?_ | refine r_imul C dc_M_cycle_19 ?_
  refine r_bipush (v := nI 6) C dc_M_cycle_20 (by decide) ?_
  first | refine r_iaddN C dc_M_cycle_22 ?_ | refine r_iadd C dc_M_cycle_22 ?_
  refine r_ialdN C dc_M_cycle_23 mh_13 (by omega) (by decide) ?_
  refine r_i2l C dc_M_cycle_24 rfl ?_
  refine r_lsub C dc_M_cycle_25 ?_
  refine r_lstore C dc_M_cycle_26 (by decide) ?_
  first | refine r_aload_n C dc_M_cycle_28 rfl rfl ?_ | refine r_aload_nq C dc_M_cycle_28 rfl rfl ?_
  refine r_get C dc_M_cycle_29 fl_M_47 mh_0 rfl ?_
  refine r_bipush (v := nI 8) C dc_M_cycle_32 (by decide) ?_
  refine r_iload_n C dc_M_cycle_34 rfl rfl ?_
  first | refine r_imulN C dc_M_cycle_35 ?_ | refine r_imul C dc_M_cycle_35 ?_
  refine r_bipush (v := nI 7) C dc_M_cycle_36 (by decide) ?_
  first | refine r_iaddN C dc_M_cycle_38 ?_ | refine r_iadd C dc_M_cycle_38 ?_
  refine r_ialdN C dc_M_cycle_39 mh_13 (by omega) (by decide) ?_
  refine r_istore C dc_M_cycle_40 (by decide) (nw_of rfl) ?_
  refine r_iconst (v := nI 0) C dc_M_cycle_42 (by decide) ?_
  refine r_istore C dc_M_cycle_43 (by decide) (nw_of rfl) ?_
  refine r_weak ?_ (loop 0 (by omega))
  exact wl_c (rfl) (wl_c (rfl) (wl_c (rfl) (wl_c (rfl) (wl_c (rfl) (wl_c (rfl) (wl_n))))))
end Model12
