theorem mSh_ne {x : Nat → Nat → Int32} {i k j : Nat} (q : ¬ (30 ≤ j ∧ j ≤ 34)) : mSh x i k j = x j := if_neg q
theorem mTake_ne {x : Nat → Nat → Int32} {a pl q j : Nat} (z : ¬ (30 ≤ j ∧ j ≤ 35)) : mTake x a pl q j = x j := by
  unfold mTake
  rw [mSh_ne (by omega), ur_ne (by omega)]
theorem mTake_35 {x : Nat → Nat → Int32} {a pl q : Nat} : mTake x a pl q 35 = upd (x 35) a (nI (q - 1)) := rfl
/-- node a sends the first of its q packets: a packet of label j, to node t, of word wd; kt: the packets of t, a's first taken off -/
def mSend (x : Nat → Nat → Int32) (a q j t wd kt : Nat) : Nat → Nat → Int32 :=
  if x 34 (6 * a) = 0 then mSReq (ur (mTake x a 0 q) 39 (fun _ => x 39 0 + nI 1)) a j (x 31 (6 * a)) (x 32 (6 * a) + nI 1) t wd kt (q - 1)
  else if x 20 j = -1 then
    if x 28 j = x 31 (6 * a) then ur (ur (ur (mTake x a 0 q) 39 (fun _ => x 39 0 + nI 1)) 20 (upd (x 20) j (nI 0))) 26 (upd (x 26) j (x 33 (6 * a)))
    else ur (mTake x a 0 q) 39 (fun _ => x 39 0 + nI 1)
  else ur (mTake x a 0 q) 39 (fun _ => x 39 0 + nI 1)
/-- of those below k that have E, the one with the greatest number, the first of such -/
def bstT (E : Nat → Bool) (nu : Nat → Int32) : Nat → Option Nat
  | 0 => none
  | k + 1 => bif E k then (match bstT E nu k with
    | none => some k
    | some j => if nu k ≤ nu j then some j else some k) else bstT E nu k
theorem bst_lt {E : Nat → Bool} {nu : Nat → Int32} : ∀ {k j : Nat}, bstT E nu k = some j → j < k := by
  intro k
  induction k with
  | zero => intro j q; cases q
  | succ k ih =>
    intro j q
    unfold bstT at q
    cases e : E k with
    | false =>
      rw [e] at q
      exact Nat.lt_succ_of_lt (ih q)
    | true =>
      rw [e] at q
      simp only [cond_true] at q
      cases eb : bstT E nu k with
      | none => rw [eb] at q; cases q; exact Nat.lt_succ_self _
      | some i =>
        rw [eb] at q
        have hi := ih eb
        dsimp only at q
        split at q
        · cases q; omega
        · cases q; omega
theorem bst_0 {E : Nat → Bool} {nu : Nat → Int32} {k : Nat} (q : E k = false) : bstT E nu (k + 1) = bstT E nu k := by
  show (bif E k then _ else _) = _
  rw [q]; rfl
theorem bst_1 {E : Nat → Bool} {nu : Nat → Int32} {k : Nat} (q : E k = true) (e : bstT E nu k = none) : bstT E nu (k + 1) = some k := by
  show (bif E k then _ else _) = _
  rw [q, e]; rfl
theorem bst_2 {E : Nat → Bool} {nu : Nat → Int32} {k j : Nat} (q : E k = true) (e : bstT E nu k = some j) (z : nu k ≤ nu j) : bstT E nu (k + 1) = some j := by
  show (bif E k then _ else _) = _
  rw [q, e]
  exact if_pos z
theorem bst_3 {E : Nat → Bool} {nu : Nat → Int32} {k j : Nat} (q : E k = true) (e : bstT E nu k = some j) (z : ¬ nu k ≤ nu j) : bstT E nu (k + 1) = some k := by
  show (bif E k then _ else _) = _
  rw [q, e]
  exact if_neg z
section Model6
variable {l : Launch} {D : va_G} {A : Nat → ClassId} {G : Heap} {h : Hp} {n mm df : Nat} {x : Nat → Nat → Int32}
set_option maxRecDepth 4000 in
theorem k_M_send (hl : l.stackTraces = false) {a q j t wd kt : Nat} (ha : a < 12) (hq : x 35 a = nI q) (hq6 : q ≤ 6) (hq0 : 0 < q) (hz : ∀ k, k < 72 → x 34 k = 0 ∨ x 34 k = 1) (hlb : x 30 (6 * a) = nI j) (hj : j < 48) (ht0 : x 21 j = nI t) (ht1 : t < 12) (hw0 : x 23 j = nI wd) (hw1 : wd < 8) (hkt : upd (x 35) a (nI (q - 1)) t = nI kt) (hkt6 : kt ≤ 6) : Ct l D A G my_M_send cd_M_send 8 none (df + 2) 0 0 [.ref mm, .int (nI a)] (MH A mm x h) n (fun v h' n' => v = none ∧ h' = MH A mm (mSend x a q j t wd kt) h ∧ n' = n) (fun _ _ _ => False) := by
  refine Ct.of (by decide) hl (Nat.le_of_ble_eq_true rfl) ?_
  intro p e s m args below meth c C hr hnm ht dp
  refine r_bipush (v := nI 6) C dc_M_send_0 (by decide) ?_
  refine r_iload_n C dc_M_send_2 rfl rfl ?_
  first | refine r_imulN C dc_M_send_3 ?_ | refine r_imul C dc_M_send_3 ?_
  refine r_istore_n C dc_M_send_4 rfl (by decide) (nw_of rfl) ?_
  first | refine r_aload_n C dc_M_send_5 rfl rfl ?_ | refine r_aload_nq C dc_M_send_5 rfl rfl ?_
  refine r_get C dc_M_send_6 fl_M_95 mh_0 rfl ?_
  refine r_iload_n C dc_M_send_9 rfl rfl ?_
  refine r_ialdN C dc_M_send_10 mh_30 (by omega) (by decide) ?_
  refine sb_at (P := fun v => Rw _ _ _ _ _ _ _ _ _ _ _ _ _ _ _ _ _ _ _ _ (.int v :: _)) hlb ?_
  refine r_istore_n C dc_M_send_11 rfl (by decide) (nw_of rfl) ?_
  first | refine r_aload_n C dc_M_send_12 rfl rfl ?_ | refine r_aload_nq C dc_M_send_12 rfl rfl ?_
  refine r_get C dc_M_send_13 fl_M_98 mh_0 rfl ?_
  refine r_iload_n C dc_M_send_16 rfl rfl ?_
  refine r_ialdN C dc_M_send_17 mh_31 (by omega) (by decide) ?_
  refine r_istore C dc_M_send_18 (by decide) (nw_of rfl) ?_
  first | refine r_aload_n C dc_M_send_20 rfl rfl ?_ | refine r_aload_nq C dc_M_send_20 rfl rfl ?_
  refine r_get C dc_M_send_21 fl_M_101 mh_0 rfl ?_
  refine r_iload_n C dc_M_send_24 rfl rfl ?_
  refine r_ialdN C dc_M_send_25 mh_32 (by omega) (by decide) ?_
  refine r_iconst (v := nI 1) C dc_M_send_26 (by decide) ?_
  first | refine r_iaddN C dc_M_send_27 ?_ | refine r_iadd C dc_M_send_27 ?_
  refine r_istore C dc_M_send_28 (by decide) (nw_of rfl) ?_
  first | refine r_aload_n C dc_M_send_30 rfl rfl ?_ | refine r_aload_nq C dc_M_send_30 rfl rfl ?_
  refine r_get C dc_M_send_31 fl_M_104 mh_0 rfl ?_
  refine r_iload_n C dc_M_send_34 rfl rfl ?_
  refine r_ialdN C dc_M_send_35 mh_33 (by omega) (by decide) ?_
  refine r_istore C dc_M_send_36 (by decide) (nw_of rfl) ?_
  first | refine r_aload_n C dc_M_send_38 rfl rfl ?_ | refine r_aload_nq C dc_M_send_38 rfl rfl ?_
  refine r_get C dc_M_send_39 fl_M_107 mh_0 rfl ?_
  refine r_iload_n C dc_M_send_42 rfl rfl ?_
  refine r_zaldN C dc_M_send_43 mh_34 (by omega) (by decide) ?_
  refine r_istore C dc_M_send_44 (by decide) (nw_of rfl) ?_
  first | refine r_aload_n C dc_M_send_46 rfl rfl ?_ | refine r_aload_nq C dc_M_send_46 rfl rfl ?_
  refine r_iload_n C dc_M_send_47 rfl rfl ?_
  refine r_iconst (v := nI 0) C dc_M_send_48 (by decide) ?_
  refine r_callV C dp dc_M_send_49 cw_M_146 cm_M_take cv_M_take rfl (mh_0) (k_M_take hl ha hq hq6 hq0 hz) (Nat.lt_succ_of_lt (Nat.lt_succ_self _)) rfl rfl (Nat.le_of_ble_eq_true rfl) (fun v49 h49 n49 q49 z49 => ?_) (fun _ _ _ _ z => z.elim)
  obtain ⟨y49, y49h, y49n⟩ := z49
  rw [y49, y49h, y49n]
  first | refine r_aload_n C dc_M_send_52 rfl rfl ?_ | refine r_aload_nq C dc_M_send_52 rfl rfl ?_
  refine r_dup C dc_M_send_53 rfl ?_
  refine r_get C dc_M_send_54 fl_M_150 mh_0 rfl ?_
  refine r_iconst (v := nI 1) C dc_M_send_57 (by decide) ?_
  first | refine r_iaddN C dc_M_send_58 ?_ | refine r_iadd C dc_M_send_58 ?_
  refine r_put C dc_M_send_59 fl_M_150 mh_0 rfl rfl (Nat.le_of_ble_eq_true rfl) ?_
  rw [mp_39]
  refine r_iload C dc_M_send_62 rfl ?_
  refine r_if_ne (tgt := 80) C dc_M_send_64 (by decide) (fun c64 => ?_) (fun c64 => ?_)
  ·
    first | refine r_aload_n C dc_M_send_80 rfl rfl ?_ | refine r_aload_nq C dc_M_send_80 rfl rfl ?_
    refine r_get C dc_M_send_81 fl_M_68 mh_0 rfl ?_
    refine r_iload_n C dc_M_send_84 rfl rfl ?_
    refine r_ialdN C dc_M_send_85 mh_20 (by omega) (by decide) ?_
    refine r_iconst (v := -1) C dc_M_send_86 (by decide) ?_
    refine r_icmp_ne (tgt := 116) C dc_M_send_87 (by decide) (fun c87 => ?_) (fun c87 => ?_)
    ·
      exact r_vret C dp hr dc_M_send_116 (Nat.le_refl _) ⟨rfl, by unfold mSend; rw [if_neg c64, if_neg (show ¬ x 20 j = -1 from c87)] <;> rfl, rfl⟩
    ·
      first | refine r_aload_n C dc_M_send_90 rfl rfl ?_ | refine r_aload_nq C dc_M_send_90 rfl rfl ?_
      refine r_get C dc_M_send_91 fl_M_92 mh_0 rfl ?_
      refine r_iload_n C dc_M_send_94 rfl rfl ?_
      refine r_ialdN C dc_M_send_95 mh_28 (by omega) (by decide) ?_
      refine r_iload C dc_M_send_96 rfl ?_
      refine r_icmp_ne (tgt := 116) C dc_M_send_98 (by decide) (fun c98 => ?_) (fun c98 => ?_)
      ·
        exact r_vret C dp hr dc_M_send_116 (Nat.le_refl _) ⟨rfl, by unfold mSend; rw [if_neg c64, if_pos (show x 20 j = -1 from c87), if_neg (show ¬ x 28 j = x 31 (6 * a) from c98)] <;> rfl, rfl⟩
      ·
        first | refine r_aload_n C dc_M_send_101 rfl rfl ?_ | refine r_aload_nq C dc_M_send_101 rfl rfl ?_
        refine r_get C dc_M_send_102 fl_M_68 mh_0 rfl ?_
        refine r_iload_n C dc_M_send_105 rfl rfl ?_
        refine r_iconst (v := nI 0) C dc_M_send_106 (by decide) ?_
        refine r_iast C dc_M_send_107 mh_20 rfl (by omega) (by decide) ?_
        rw [ms_20]
        first | refine r_aload_n C dc_M_send_108 rfl rfl ?_ | refine r_aload_nq C dc_M_send_108 rfl rfl ?_
        refine r_get C dc_M_send_109 fl_M_86 mh_0 rfl ?_
        refine r_iload_n C dc_M_send_112 rfl rfl ?_
        refine r_iload C dc_M_send_113 rfl ?_
        refine r_iast C dc_M_send_115 mh_26 rfl (by omega) (by decide) ?_
        rw [ms_26]
        exact r_vret C dp hr dc_M_send_116 (Nat.le_refl _) ⟨rfl, by unfold mSend; rw [if_neg c64, if_pos (show x 20 j = -1 from c87), if_pos (show x 28 j = x 31 (6 * a) from c98)] <;> rfl, rfl⟩
  ·
    first | refine r_aload_n C dc_M_send_67 rfl rfl ?_ | refine r_aload_nq C dc_M_send_67 rfl rfl ?_
    refine r_iload_n C dc_M_send_68 rfl rfl ?_
    refine r_iload_n C dc_M_send_69 rfl rfl ?_
    refine r_iload C dc_M_send_70 rfl ?_
    refine r_iload C dc_M_send_72 rfl ?_
    refine r_callV C dp dc_M_send_74 cw_M_153 cm_M_sendRequest cv_M_sendRequest rfl (mh_0) (k_M_sendRequest (x := ur (mTake x a 0 q) 39 (fun _ => mTake x a 0 q 39 0 + nI 1)) (ka := q - 1) hl ha hj (show _ = nI t from ht0) ht1 (show _ = nI wd from hw0) hw1 (show _ = nI kt from hkt) hkt6 (show _ = nI (q - 1) from if_pos rfl) (by omega)) (Nat.lt_succ_self _) rfl rfl (Nat.le_of_ble_eq_true rfl) (fun v74 h74 n74 q74 z74 => ?_) (fun _ _ _ _ z => z.elim)
    obtain ⟨y74, y74h, y74n⟩ := z74
    rw [y74, y74h, y74n]
    refine r_goto (tgt := 116) C dc_M_send_77 (by decide) ?_
    exact r_vret C dp hr dc_M_send_116 (Nat.le_refl _) ⟨rfl, by unfold mSend; rw [if_pos c64] <;> rfl, rfl⟩
set_option maxRecDepth 4000 in
theorem k_M_sender (hl : l.stackTraces = false) {v0 : Int32} {fr : Bool} : Ct l D A G my_M_sender cd_M_sender 5 (some (.int)) df 0 0 [.ref mm, .int v0, .int (zi fr)] (MH A mm x h) n (fun v h' n' => v = some (.int (oi (bstT (fun k => decide (x 18 k = v0 ∧ ¬ x 35 k = 0 ∧ ¬ (fr = true ∧ ¬ x 10 k = 0))) (x 15) 12))) ∧ h' = MH A mm x h ∧ n' = n) (fun _ _ _ => False) := by
  refine Ct.of (by decide) hl (Nat.le_of_ble_eq_true rfl) ?_
  intro p e s m args below meth c C hr hnm ht dp
  have loop : ∀ k, k ≤ 12 → Rw p l e (cR df 0 0) s m args below meth c (CQ D G n (fun v h' n' => v = some (.int (oi (bstT (fun k => decide (x 18 k = v0 ∧ ¬ x 35 k = 0 ∧ ¬ (fr = true ∧ ¬ x 10 k = 0))) (x 15) 12))) ∧ h' = MH A mm x h ∧ n' = n) (fun _ _ _ => False) below args s 0 0) D G 5 0 0 (MH A mm x h) n [(0, .ref mm), (1, .int v0), (2, .int (zi fr)), (3, .int (oi (bstT (fun k => decide (x 18 k = v0 ∧ ¬ x 35 k = 0 ∧ ¬ (fr = true ∧ ¬ x 10 k = 0))) (x 15) k))), (4, .int (nI k))] 5 [] := by
    refine r_loop 12 _ ?_ ?_
    ·
      refine r_iload C dc_M_sender_5 rfl ?_
      refine r_bipush (v := nI 12) C dc_M_sender_7 (by decide) ?_
      refine r_icmp_geN (tgt := 79) C dc_M_sender_9 (by decide) (by omega) (by omega) (fun c9 => ?_) (fun c9 => ?_)
      ·
        refine r_iload_n C dc_M_sender_79 rfl rfl ?_
        exact r_iret C dp hr dc_M_sender_80 (Nat.le_refl _) ⟨rfl, rfl, rfl⟩
      · exact absurd c9 (by omega)
    ·
      intro k hk ih
      refine r_iload C dc_M_sender_5 rfl ?_
      refine r_bipush (v := nI 12) C dc_M_sender_7 (by decide) ?_
      refine r_icmp_geN (tgt := 79) C dc_M_sender_9 (by decide) (by omega) (by omega) (fun c9 => ?_) (fun c9 => ?_)
      · exact absurd c9 (by omega)
      ·
        first | refine r_aload_n C dc_M_sender_12 rfl rfl ?_ | refine r_aload_nq C dc_M_sender_12 rfl rfl ?_
        refine r_get C dc_M_sender_13 fl_M_62 mh_0 rfl ?_
        refine r_iload C dc_M_sender_16 rfl ?_
        refine r_ialdN C dc_M_sender_18 mh_18 (by omega) (by decide) ?_
        refine r_iload_n C dc_M_sender_19 rfl rfl ?_
        refine r_icmp_ne (tgt := 73) C dc_M_sender_20 (by decide) (fun c20 => ?_) (fun c20 => ?_)
        ·
          have e9 := bst_0 (E := (fun k => decide (x 18 k = v0 ∧ ¬ x 35 k = 0 ∧ ¬ (fr = true ∧ ¬ x 10 k = 0)))) (nu := x 15) (k := k) (decide_eq_false (fun z => c20 z.1))
          first | refine r_iincN C dc_M_sender_73 rfl (by decide) (nw_of rfl) ?_ | refine r_iinc C dc_M_sender_73 rfl rfl (by decide) (nw_of rfl) ?_
          refine r_goto (tgt := 5) C dc_M_sender_76 (by decide) ?_
          refine r_weak ?_ (ih)
          exact wl_c (rfl) (wl_c (rfl) (wl_c (rfl) (wl_c (by rw [e9]; rfl) (wl_c (rfl) (wl_n)))))
        ·
          first | refine r_aload_n C dc_M_sender_23 rfl rfl ?_ | refine r_aload_nq C dc_M_sender_23 rfl rfl ?_
          refine r_get C dc_M_sender_24 fl_M_110 mh_0 rfl ?_
          refine r_iload C dc_M_sender_27 rfl ?_
          refine r_ialdN C dc_M_sender_29 mh_35 (by omega) (by decide) ?_
          refine r_if_eq (tgt := 73) C dc_M_sender_30 (by decide) (fun c30 => ?_) (fun c30 => ?_)
          ·
            have e9 := bst_0 (E := (fun k => decide (x 18 k = v0 ∧ ¬ x 35 k = 0 ∧ ¬ (fr = true ∧ ¬ x 10 k = 0)))) (nu := x 15) (k := k) (decide_eq_false (fun z => z.2.1 c30))
            first | refine r_iincN C dc_M_sender_73 rfl (by decide) (nw_of rfl) ?_ | refine r_iinc C dc_M_sender_73 rfl rfl (by decide) (nw_of rfl) ?_
            refine r_goto (tgt := 5) C dc_M_sender_76 (by decide) ?_
            refine r_weak ?_ (ih)
            exact wl_c (rfl) (wl_c (rfl) (wl_c (rfl) (wl_c (by rw [e9]; rfl) (wl_c (rfl) (wl_n)))))
          ·
            refine r_iload_n C dc_M_sender_33 rfl rfl ?_
            refine r_if_eqZ (tgt := 50) C dc_M_sender_34 (by decide) (fun c34 => ?_) (fun c34 => ?_)
            ·
              have eE : (fun k => decide (x 18 k = v0 ∧ ¬ x 35 k = 0 ∧ ¬ (fr = true ∧ ¬ x 10 k = 0))) k = true := decide_eq_true ⟨c20, c30, fun z => by rw [c34] at z; exact Bool.false_ne_true z.1⟩
              cases eb : bstT (fun k => decide (x 18 k = v0 ∧ ¬ x 35 k = 0 ∧ ¬ (fr = true ∧ ¬ x 10 k = 0))) (x 15) k with
              | none =>
                have e9 := bst_1 (nu := x 15) eE eb
                refine r_weak (lo' := [(0, .ref mm), (1, .int v0), (2, .int (zi fr)), (3, .int (oi none)), (4, .int (nI k))]) ?_ ?_
                · exact wl_c (rfl) (wl_c (rfl) (wl_c (rfl) (wl_c (by rw [← eb]; rfl) (wl_c (rfl) (wl_n)))))
                refine r_iload_n C dc_M_sender_50 rfl rfl ?_
                refine r_if_lt (tgt := 70) C dc_M_sender_51 (by decide) (fun c51 => ?_) (fun c51 => ?_)
                ·
                  refine r_iload C dc_M_sender_70 rfl ?_
                  refine r_istore_n C dc_M_sender_72 rfl (by decide) (nw_of rfl) ?_
                  first | refine r_iincN C dc_M_sender_73 rfl (by decide) (nw_of rfl) ?_ | refine r_iinc C dc_M_sender_73 rfl rfl (by decide) (nw_of rfl) ?_
                  refine r_goto (tgt := 5) C dc_M_sender_76 (by decide) ?_
                  refine r_weak ?_ (ih)
                  exact wl_c (rfl) (wl_c (rfl) (wl_c (rfl) (wl_c (by rw [e9]; rfl) (wl_c (rfl) (wl_n)))))
                · exact absurd m1_lt0 c51
              | some j =>
                have hj := bst_lt eb
                refine r_weak (lo' := [(0, .ref mm), (1, .int v0), (2, .int (zi fr)), (3, .int (nI j)), (4, .int (nI k))]) ?_ ?_
                · exact wl_c (rfl) (wl_c (rfl) (wl_c (rfl) (wl_c (rfl) (wl_c (rfl) (wl_n)))))
                refine r_iload_n C dc_M_sender_50 rfl rfl ?_
                refine r_if_lt (tgt := 70) C dc_M_sender_51 (by decide) (fun c51 => ?_) (fun c51 => ?_)
                · exact absurd c51 (nI_lt0 (by omega))
                ·
                  first | refine r_aload_n C dc_M_sender_54 rfl rfl ?_ | refine r_aload_nq C dc_M_sender_54 rfl rfl ?_
                  refine r_get C dc_M_sender_55 fl_M_53 mh_0 rfl ?_
                  refine r_iload C dc_M_sender_58 rfl ?_
                  refine r_ialdN C dc_M_sender_60 mh_15 (by omega) (by decide) ?_
                  first | refine r_aload_n C dc_M_sender_61 rfl rfl ?_ | refine r_aload_nq C dc_M_sender_61 rfl rfl ?_
                  refine r_get C dc_M_sender_62 fl_M_53 mh_0 rfl ?_
                  refine r_iload_n C dc_M_sender_65 rfl rfl ?_
                  refine r_ialdN C dc_M_sender_66 mh_15 (by omega) (by decide) ?_
                  refine r_icmp_le (tgt := 73) C dc_M_sender_67 (by decide) (fun c67 => ?_) (fun c67 => ?_)
                  ·
                    have e9 := bst_2 (nu := x 15) eE eb c67
                    first | refine r_iincN C dc_M_sender_73 rfl (by decide) (nw_of rfl) ?_ | refine r_iinc C dc_M_sender_73 rfl rfl (by decide) (nw_of rfl) ?_
                    refine r_goto (tgt := 5) C dc_M_sender_76 (by decide) ?_
                    refine r_weak ?_ (ih)
                    exact wl_c (rfl) (wl_c (rfl) (wl_c (rfl) (wl_c (by rw [e9]; rfl) (wl_c (rfl) (wl_n)))))
                  ·
                    have e9 := bst_3 (nu := x 15) eE eb c67
                    refine r_iload C dc_M_sender_70 rfl ?_
                    refine r_istore_n C dc_M_sender_72 rfl (by decide) (nw_of rfl) ?_
                    first | refine r_iincN C dc_M_sender_73 rfl (by decide) (nw_of rfl) ?_ | refine r_iinc C dc_M_sender_73 rfl rfl (by decide) (nw_of rfl) ?_
                    refine r_goto (tgt := 5) C dc_M_sender_76 (by decide) ?_
                    refine r_weak ?_ (ih)
                    exact wl_c (rfl) (wl_c (rfl) (wl_c (rfl) (wl_c (by rw [e9]; rfl) (wl_c (rfl) (wl_n)))))
            ·
              first | refine r_aload_n C dc_M_sender_37 rfl rfl ?_ | refine r_aload_nq C dc_M_sender_37 rfl rfl ?_
              refine r_get C dc_M_sender_38 fl_M_38 mh_0 rfl ?_
              refine r_iload C dc_M_sender_41 rfl ?_
              refine r_zaldN C dc_M_sender_43 mh_10 (by omega) (by decide) ?_
              refine r_if_eq (tgt := 50) C dc_M_sender_44 (by decide) (fun c44 => ?_) (fun c44 => ?_)
              ·
                have eE : (fun k => decide (x 18 k = v0 ∧ ¬ x 35 k = 0 ∧ ¬ (fr = true ∧ ¬ x 10 k = 0))) k = true := decide_eq_true ⟨c20, c30, fun z => z.2 c44⟩
                cases eb : bstT (fun k => decide (x 18 k = v0 ∧ ¬ x 35 k = 0 ∧ ¬ (fr = true ∧ ¬ x 10 k = 0))) (x 15) k with
                | none =>
                  have e9 := bst_1 (nu := x 15) eE eb
                  refine r_weak (lo' := [(0, .ref mm), (1, .int v0), (2, .int (zi fr)), (3, .int (oi none)), (4, .int (nI k))]) ?_ ?_
                  · exact wl_c (rfl) (wl_c (rfl) (wl_c (rfl) (wl_c (by rw [← eb]; rfl) (wl_c (rfl) (wl_n)))))
                  refine r_iload_n C dc_M_sender_50 rfl rfl ?_
                  refine r_if_lt (tgt := 70) C dc_M_sender_51 (by decide) (fun c51 => ?_) (fun c51 => ?_)
                  ·
                    refine r_iload C dc_M_sender_70 rfl ?_
                    refine r_istore_n C dc_M_sender_72 rfl (by decide) (nw_of rfl) ?_
                    first | refine r_iincN C dc_M_sender_73 rfl (by decide) (nw_of rfl) ?_ | refine r_iinc C dc_M_sender_73 rfl rfl (by decide) (nw_of rfl) ?_
                    refine r_goto (tgt := 5) C dc_M_sender_76 (by decide) ?_
                    refine r_weak ?_ (ih)
                    exact wl_c (rfl) (wl_c (rfl) (wl_c (rfl) (wl_c (by rw [e9]; rfl) (wl_c (rfl) (wl_n)))))
                  · exact absurd m1_lt0 c51
                | some j =>
                  have hj := bst_lt eb
                  refine r_weak (lo' := [(0, .ref mm), (1, .int v0), (2, .int (zi fr)), (3, .int (nI j)), (4, .int (nI k))]) ?_ ?_
                  · exact wl_c (rfl) (wl_c (rfl) (wl_c (rfl) (wl_c (rfl) (wl_c (rfl) (wl_n)))))
                  refine r_iload_n C dc_M_sender_50 rfl rfl ?_
                  refine r_if_lt (tgt := 70) C dc_M_sender_51 (by decide) (fun c51 => ?_) (fun c51 => ?_)
                  · exact absurd c51 (nI_lt0 (by omega))
                  ·
                    first | refine r_aload_n C dc_M_sender_54 rfl rfl ?_ | refine r_aload_nq C dc_M_sender_54 rfl rfl ?_
                    refine r_get C dc_M_sender_55 fl_M_53 mh_0 rfl ?_
                    refine r_iload C dc_M_sender_58 rfl ?_
                    refine r_ialdN C dc_M_sender_60 mh_15 (by omega) (by decide) ?_
                    first | refine r_aload_n C dc_M_sender_61 rfl rfl ?_ | refine r_aload_nq C dc_M_sender_61 rfl rfl ?_
                    refine r_get C dc_M_sender_62 fl_M_53 mh_0 rfl ?_
                    refine r_iload_n C dc_M_sender_65 rfl rfl ?_
                    refine r_ialdN C dc_M_sender_66 mh_15 (by omega) (by decide) ?_
                    refine r_icmp_le (tgt := 73) C dc_M_sender_67 (by decide) (fun c67 => ?_) (fun c67 => ?_)
                    ·
                      have e9 := bst_2 (nu := x 15) eE eb c67
                      first | refine r_iincN C dc_M_sender_73 rfl (by decide) (nw_of rfl) ?_ | refine r_iinc C dc_M_sender_73 rfl rfl (by decide) (nw_of rfl) ?_
                      refine r_goto (tgt := 5) C dc_M_sender_76 (by decide) ?_
                      refine r_weak ?_ (ih)
                      exact wl_c (rfl) (wl_c (rfl) (wl_c (rfl) (wl_c (by rw [e9]; rfl) (wl_c (rfl) (wl_n)))))
                    ·
                      have e9 := bst_3 (nu := x 15) eE eb c67
                      refine r_iload C dc_M_sender_70 rfl ?_
                      refine r_istore_n C dc_M_sender_72 rfl (by decide) (nw_of rfl) ?_
                      first | refine r_iincN C dc_M_sender_73 rfl (by decide) (nw_of rfl) ?_ | refine r_iinc C dc_M_sender_73 rfl rfl (by decide) (nw_of rfl) ?_
                      refine r_goto (tgt := 5) C dc_M_sender_76 (by decide) ?_
                      refine r_weak ?_ (ih)
                      exact wl_c (rfl) (wl_c (rfl) (wl_c (rfl) (wl_c (by rw [e9]; rfl) (wl_c (rfl) (wl_n)))))
              ·
                have e9 := bst_0 (E := (fun k => decide (x 18 k = v0 ∧ ¬ x 35 k = 0 ∧ ¬ (fr = true ∧ ¬ x 10 k = 0)))) (nu := x 15) (k := k) (decide_eq_false (fun z => z.2.2 ⟨c34, c44⟩))
                refine r_goto (tgt := 73) C dc_M_sender_47 (by decide) ?_
                first | refine r_iincN C dc_M_sender_73 rfl (by decide) (nw_of rfl) ?_ | refine r_iinc C dc_M_sender_73 rfl rfl (by decide) (nw_of rfl) ?_
                refine r_goto (tgt := 5) C dc_M_sender_76 (by decide) ?_
                refine r_weak ?_ (ih)
                exact wl_c (rfl) (wl_c (rfl) (wl_c (rfl) (wl_c (by rw [e9]; rfl) (wl_c (rfl) (wl_n)))))
  refine r_iconst (v := -1) C dc_M_sender_0 (by decide) ?_
  refine r_istore_n C dc_M_sender_1 rfl (by decide) (nw_of rfl) ?_
  refine r_iconst (v := nI 0) C dc_M_sender_2 (by decide) ?_
  refine r_istore C dc_M_sender_3 (by decide) (nw_of rfl) ?_
  refine r_weak ?_ (loop 0 (by omega))
  exact wl_c (rfl) (wl_c (rfl) (wl_c (rfl) (wl_c (rfl) (wl_c (rfl) (wl_n)))))
def mUnplug (ot : Nat → Option Nat) (x : Nat → Nat → Int32) (a p0 : Int32) : Int32 × (Nat → Nat → Int32) := if ou a 12 then (nI 0, th x 1) else if ou p0 3 then (nI 0, th x 2) else match ot (3 * cl a + cl p0) with
  | none => (nI 0, th x 3)
  | some t => (nI (t / 3), ur (ur (ur (ur (th x 0) 1 (upd (x 1) t (-1))) 1 (upd (upd (x 1) t (-1)) (3 * cl a + cl p0) (-1))) 11 (upd (x 11) (t / 3) (nI 1))) 11 (upd (upd (x 11) (t / 3) (nI 1)) (cl a) (nI 1)))
set_option maxRecDepth 4000 in
theorem k_M_unplug (hl : l.stackTraces = false) {v0 v1 : Int32} {ot : Nat → Option Nat} (hot : ∀ k, k < 36 → x 1 k = oi (ot k)) (ht36 : ∀ k t, k < 36 → ot k = some t → t < 36) : Ct l D A G my_M_unplug cd_M_unplug 4 (some (.int)) (df + 1) 0 0 [.ref mm, .int v0, .int v1] (MH A mm x h) n (fun v h' n' => v = some (.int (mUnplug ot x v0 v1).1) ∧ h' = MH A mm ((mUnplug ot x v0 v1).2) h ∧ n' = n) (fun _ _ _ => False) := by
  refine Ct.of (by decide) hl (Nat.le_of_ble_eq_true rfl) ?_
  intro p e s m args below meth c C hr hnm ht dp
  first | refine r_aload_n C dc_M_unplug_0 rfl rfl ?_ | refine r_aload_nq C dc_M_unplug_0 rfl rfl ?_
  refine r_iconst (v := nI 0) C dc_M_unplug_1 (by decide) ?_
  refine r_put C dc_M_unplug_2 fl_M_117 mh_0 rfl rfl (Nat.le_of_ble_eq_true rfl) ?_
  rw [mp_0]
  refine r_iload_n C dc_M_unplug_5 rfl rfl ?_
  refine r_bipush (v := nI 12) C dc_M_unplug_6 (by decide) ?_
  refine r_callS C dp dc_M_unplug_8 cw_M_120 cs_M_out (k_M_out hl) (Nat.lt_succ_self _) rfl rfl (Nat.le_of_ble_eq_true rfl) (fun v8 h8 n8 q8 z8 => ?_) (fun _ _ _ _ z => z.elim)
  obtain ⟨y8, y8h, y8n⟩ := z8
  rw [y8, y8h, y8n]
  refine r_if_eqZ (tgt := 20) C dc_M_unplug_11 (by decide) (fun c11 => ?_) (fun c11 => ?_)
  ·
    refine r_iload_n C dc_M_unplug_20 rfl rfl ?_
    refine r_iconst (v := nI 3) C dc_M_unplug_21 (by decide) ?_
    refine r_callS C dp dc_M_unplug_22 cw_M_120 cs_M_out (k_M_out hl) (Nat.lt_succ_self _) rfl rfl (Nat.le_of_ble_eq_true rfl) (fun v22 h22 n22 q22 z22 => ?_) (fun _ _ _ _ z => z.elim)
    obtain ⟨y22, y22h, y22n⟩ := z22
    rw [y22, y22h, y22n]
    refine r_if_eqZ (tgt := 34) C dc_M_unplug_25 (by decide) (fun c25 => ?_) (fun c25 => ?_)
    ·
      obtain ⟨a, ha, rfl⟩ := nd_of (of_decide_eq_false c11)
      obtain ⟨j, hj, rfl⟩ := nd_of (of_decide_eq_false c25)
      first | refine r_aload_n C dc_M_unplug_34 rfl rfl ?_ | refine r_aload_nq C dc_M_unplug_34 rfl rfl ?_
      refine r_get C dc_M_unplug_35 fl_M_7 mh_0 rfl ?_
      refine r_iconst (v := nI 3) C dc_M_unplug_38 (by decide) ?_
      refine r_iload_n C dc_M_unplug_39 rfl rfl ?_
      first | refine r_imulN C dc_M_unplug_40 ?_ | refine r_imul C dc_M_unplug_40 ?_
      refine r_iload_n C dc_M_unplug_41 rfl rfl ?_
      first | refine r_iaddN C dc_M_unplug_42 ?_ | refine r_iadd C dc_M_unplug_42 ?_
      refine r_ialdN C dc_M_unplug_43 mh_1 (by omega) (by decide) ?_
      refine sb_at (P := fun v => Rw _ _ _ _ _ _ _ _ _ _ _ _ _ _ _ _ _ _ _ _ (.int v :: _)) (show _ = oi (ot (3 * a + j)) from hot _ (by omega)) ?_
      cases eo : ot (3 * a + j) with
      | none =>
        refine r_istore_n C dc_M_unplug_44 rfl (by decide) (nw_of rfl) ?_
        refine r_iload_n C dc_M_unplug_45 rfl rfl ?_
        refine r_if_ge (tgt := 55) C dc_M_unplug_46 (by decide) (fun c46 => ?_) (fun c46 => ?_)
        · exact absurd m1_lt0 (Int32.not_lt.mpr c46)
        ·
          first | refine r_aload_n C dc_M_unplug_49 rfl rfl ?_ | refine r_aload_nq C dc_M_unplug_49 rfl rfl ?_
          refine r_iconst (v := nI 3) C dc_M_unplug_50 (by decide) ?_
          refine r_callV C dp dc_M_unplug_51 cw_M_124 cm_M_fail cv_M_fail rfl (mh_0) (k_M_fail hl) (Nat.lt_succ_self _) rfl rfl (Nat.le_of_ble_eq_true rfl) (fun v51 h51 n51 q51 z51 => ?_) (fun _ _ _ _ z => z.elim)
          obtain ⟨y51, y51h, y51n⟩ := z51
          rw [y51, y51h, y51n]
          exact r_iret C dp hr dc_M_unplug_54 (Nat.le_refl _) ⟨by unfold mUnplug; rw [if_neg (of_decide_eq_false c11), if_neg (of_decide_eq_false c25), cl_nI (k := a) (by omega), cl_nI (k := j) (by omega), eo] <;> (first | rfl | (simp only [ur_ur]; done) | (simp only [ur_ur]; rfl)), by unfold mUnplug; rw [if_neg (of_decide_eq_false c11), if_neg (of_decide_eq_false c25), cl_nI (k := a) (by omega), cl_nI (k := j) (by omega), eo] <;> (first | rfl | (simp only [ur_ur]; done) | (simp only [ur_ur]; rfl)), rfl⟩
      | some t =>
        have ht3 := ht36 _ t (by omega) eo
        refine sb_at (P := fun v => Rw _ _ _ _ _ _ _ _ _ _ _ _ _ _ _ _ _ _ _ _ (.int v :: _)) (show oi (some t) = nI t from rfl) ?_
        refine r_istore_n C dc_M_unplug_44 rfl (by decide) (nw_of rfl) ?_
        refine r_iload_n C dc_M_unplug_45 rfl rfl ?_
        refine r_if_ge (tgt := 55) C dc_M_unplug_46 (by decide) (fun c46 => ?_) (fun c46 => ?_)
        ·
          first | refine r_aload_n C dc_M_unplug_55 rfl rfl ?_ | refine r_aload_nq C dc_M_unplug_55 rfl rfl ?_
          refine r_get C dc_M_unplug_56 fl_M_7 mh_0 rfl ?_
          refine r_iconst (v := nI 3) C dc_M_unplug_59 (by decide) ?_
          refine r_iload_n C dc_M_unplug_60 rfl rfl ?_
          first | refine r_imulN C dc_M_unplug_61 ?_ | refine r_imul C dc_M_unplug_61 ?_
          refine r_iload_n C dc_M_unplug_62 rfl rfl ?_
          first | refine r_iaddN C dc_M_unplug_63 ?_ | refine r_iadd C dc_M_unplug_63 ?_
          first | refine r_aload_n C dc_M_unplug_64 rfl rfl ?_ | refine r_aload_nq C dc_M_unplug_64 rfl rfl ?_
          refine r_get C dc_M_unplug_65 fl_M_7 mh_0 rfl ?_
          refine r_iload_n C dc_M_unplug_68 rfl rfl ?_
          refine r_iconst (v := -1) C dc_M_unplug_69 (by decide) ?_
          refine r_dup_x2 C dc_M_unplug_70 rfl rfl rfl ?_
          refine r_iast C dc_M_unplug_71 mh_1 rfl (by omega) (by decide) ?_
          rw [ms_1]
          refine r_iast C dc_M_unplug_72 mh_1 rfl (by omega) (by decide) ?_
          rw [ms_1]
          first | refine r_aload_n C dc_M_unplug_73 rfl rfl ?_ | refine r_aload_nq C dc_M_unplug_73 rfl rfl ?_
          refine r_get C dc_M_unplug_74 fl_M_41 mh_0 rfl ?_
          refine r_iload_n C dc_M_unplug_77 rfl rfl ?_
          first | refine r_aload_n C dc_M_unplug_78 rfl rfl ?_ | refine r_aload_nq C dc_M_unplug_78 rfl rfl ?_
          refine r_get C dc_M_unplug_79 fl_M_41 mh_0 rfl ?_
          refine r_iload_n C dc_M_unplug_82 rfl rfl ?_
          refine r_iconst (v := nI 3) C dc_M_unplug_83 (by decide) ?_
          first | refine r_idivN C dc_M_unplug_84 (by omega) (by decide) (by decide) ?_ | refine r_idiv C dc_M_unplug_84 (by decide) ?_
          refine r_iconst (v := nI 1) C dc_M_unplug_85 (by decide) ?_
          refine r_dup_x2 C dc_M_unplug_86 rfl rfl rfl ?_
          refine r_zast C dc_M_unplug_87 mh_11 rfl (by omega) (by decide) (by first | exact zi_01 _ | exact zv_0 | exact zv_1 | assumption | decide) ?_
          rw [ms_11]
          refine r_zast C dc_M_unplug_88 mh_11 rfl (by omega) (by decide) (by first | exact zi_01 _ | exact zv_0 | exact zv_1 | assumption | decide) ?_
          rw [ms_11]
          refine r_iload_n C dc_M_unplug_89 rfl rfl ?_
          refine r_iconst (v := nI 3) C dc_M_unplug_90 (by decide) ?_
          first | refine r_idivN C dc_M_unplug_91 (by omega) (by decide) (by decide) ?_ | refine r_idiv C dc_M_unplug_91 (by decide) ?_
          exact r_iret C dp hr dc_M_unplug_92 (Nat.le_refl _) ⟨by unfold mUnplug; rw [if_neg (of_decide_eq_false c11), if_neg (of_decide_eq_false c25), cl_nI (k := a) (by omega), cl_nI (k := j) (by omega), eo] <;> (first | rfl | (simp only [ur_ur]; done) | (simp only [ur_ur]; rfl)), by unfold mUnplug; rw [if_neg (of_decide_eq_false c11), if_neg (of_decide_eq_false c25), cl_nI (k := a) (by omega), cl_nI (k := j) (by omega), eo] <;> (first | rfl | (simp only [ur_ur]; done) | (simp only [ur_ur]; rfl)), rfl⟩
        · exact absurd (nI_pos' (by omega)) c46
    ·
      first | refine r_aload_n C dc_M_unplug_28 rfl rfl ?_ | refine r_aload_nq C dc_M_unplug_28 rfl rfl ?_
      refine r_iconst (v := nI 2) C dc_M_unplug_29 (by decide) ?_
      refine r_callV C dp dc_M_unplug_30 cw_M_124 cm_M_fail cv_M_fail rfl (mh_0) (k_M_fail hl) (Nat.lt_succ_self _) rfl rfl (Nat.le_of_ble_eq_true rfl) (fun v30 h30 n30 q30 z30 => ?_) (fun _ _ _ _ z => z.elim)
      obtain ⟨y30, y30h, y30n⟩ := z30
      rw [y30, y30h, y30n]
      exact r_iret C dp hr dc_M_unplug_33 (Nat.le_refl _) ⟨by unfold mUnplug; rw [if_neg (of_decide_eq_false c11), if_pos (of_decide_eq_true c25)] <;> (first | rfl | (simp only [ur_ur]; done) | (simp only [ur_ur]; rfl)), by unfold mUnplug; rw [if_neg (of_decide_eq_false c11), if_pos (of_decide_eq_true c25)] <;> (first | rfl | (simp only [ur_ur]; done) | (simp only [ur_ur]; rfl)), rfl⟩
  ·
    first | refine r_aload_n C dc_M_unplug_14 rfl rfl ?_ | refine r_aload_nq C dc_M_unplug_14 rfl rfl ?_
    refine r_iconst (v := nI 1) C dc_M_unplug_15 (by decide) ?_
    refine r_callV C dp dc_M_unplug_16 cw_M_124 cm_M_fail cv_M_fail rfl (mh_0) (k_M_fail hl) (Nat.lt_succ_self _) rfl rfl (Nat.le_of_ble_eq_true rfl) (fun v16 h16 n16 q16 z16 => ?_) (fun _ _ _ _ z => z.elim)
    obtain ⟨y16, y16h, y16n⟩ := z16
    rw [y16, y16h, y16n]
    exact r_iret C dp hr dc_M_unplug_19 (Nat.le_refl _) ⟨by unfold mUnplug; rw [if_pos (of_decide_eq_true c11)] <;> (first | rfl | (simp only [ur_ur]; done) | (simp only [ur_ur]; rfl)), by unfold mUnplug; rw [if_pos (of_decide_eq_true c11)] <;> (first | rfl | (simp only [ur_ur]; done) | (simp only [ur_ur]; rfl)), rfl⟩
end Model6
