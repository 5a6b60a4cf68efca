/-- what the model's arrays always hold: queue sizes to 6, truth values, labels, nodes, words -/
def MV (x : Nat → Nat → Int32) : Prop := (∀ a, a < 12 → ∃ q, q ≤ 6 ∧ x 35 a = nI q) ∧ (∀ k, k < 72 → x 34 k = 0 ∨ x 34 k = 1) ∧ (∀ k, k < 72 → ∃ j, j < 48 ∧ x 30 k = nI j) ∧ (∀ j, j < 48 → ∃ t, t < 12 ∧ x 21 j = nI t) ∧ ∀ j, j < 48 → ∃ w, w < 8 ∧ x 23 j = nI w
theorem MV.ur {x : Nat → Nat → Int32} (v : MV x) {k : Nat} {f : Nat → Int32} (q : k ≠ 35 ∧ k ≠ 34 ∧ k ≠ 30 ∧ k ≠ 21 ∧ k ≠ 23) : MV (ur x k f) := by
  obtain ⟨q1, q2, q3, q4, q5⟩ := q
  obtain ⟨h1, h2, h3, h4, h5⟩ := v
  exact ⟨by rw [ur_ne (Ne.symm q1)]; exact h1, by rw [ur_ne (Ne.symm q2)]; exact h2, by rw [ur_ne (Ne.symm q3)]; exact h3, by rw [ur_ne (Ne.symm q4)]; exact h4, by rw [ur_ne (Ne.symm q5)]; exact h5⟩
def mSendC (x : Nat → Nat → Int32) (a : Nat) : Nat → Nat → Int32 := mSend x a (cl (x 35 a)) (cl (x 30 (6 * a))) (cl (x 21 (cl (x 30 (6 * a))))) (cl (x 23 (cl (x 30 (6 * a))))) (cl (upd (x 35) a (nI (cl (x 35 a) - 1)) (cl (x 21 (cl (x 30 (6 * a)))))))
theorem k_M_sendC {l : Launch} {D : va_G} {A : Nat → ClassId} {G : Heap} {h : Hp} {n mm df : Nat} {x : Nat → Nat → Int32} (hl : l.stackTraces = false) (v : MV x) {a : Nat} (ha : a < 12) (hq : ¬ x 35 a = 0) : Ct l D A G my_M_send cd_M_send 8 none (df + 2) 0 0 [.ref mm, .int (nI a)] (MH A mm x h) n (fun v h' n' => v = none ∧ h' = MH A mm (mSendC x a) h ∧ n' = n) (fun _ _ _ => False) := by
  obtain ⟨h1, h2, h3, h4, h5⟩ := v
  obtain ⟨q, q6, eq⟩ := h1 a ha
  obtain ⟨j, hj, ej⟩ := h3 (6 * a) (by omega)
  obtain ⟨t, ht, et⟩ := h4 j hj
  obtain ⟨w, hw, ew⟩ := h5 j hj
  have hq0 : 0 < q := by
    rcases Nat.eq_zero_or_pos q with z | z
    · exact absurd (by rw [eq, z]; rfl) hq
    · exact z
  have hk : ∃ kt, kt ≤ 6 ∧ upd (x 35) a (nI (q - 1)) t = nI kt := by
    by_cases e : t = a
    · exact ⟨q - 1, by omega, if_pos e⟩
    · obtain ⟨k, k6, ek⟩ := h1 t ht
      exact ⟨k, k6, (if_neg e).trans ek⟩
  obtain ⟨kt, kt6, ekt⟩ := hk
  have hS : mSendC x a = mSend x a q j t w kt := by
    unfold mSendC
    rw [eq, ej, cl_nI (k := q) (by omega), cl_nI (k := j) (by omega), et, ew, cl_nI (k := t) (by omega), cl_nI (k := w) (by omega), ekt, cl_nI (k := kt) (by omega)]
  rw [hS]
  exact k_M_send hl ha eq q6 hq0 h2 ej hj et ht ew hw ekt kt6
/-- USED is taken from the nodes of bus v below k -/
def mUsed (x : Nat → Nat → Int32) (v : Int32) (k : Nat) : Nat → Nat → Int32 := ur x 10 (fun j => if j < k ∧ x 18 j = v then nI 0 else x 10 j)
theorem mUsed_0 (x : Nat → Nat → Int32) (v : Int32) : mUsed x v 0 = x := by
  unfold mUsed
  rw [show (fun j => if j < 0 ∧ x 18 j = v then nI 0 else x 10 j) = x 10 from funext fun j => if_neg (by omega), ur_self]
theorem mUsed_n {x : Nat → Nat → Int32} {v : Int32} {k : Nat} (q : ¬ x 18 k = v) : mUsed x v k = mUsed x v (k + 1) := by
  unfold mUsed
  congr 1
  funext j
  by_cases e : j = k
  · rw [if_neg (by omega), if_neg (fun z => q (e ▸ z.2))]
  · by_cases e2 : x 18 j = v
    · by_cases e3 : j < k
      · rw [if_pos ⟨e3, e2⟩, if_pos ⟨by omega, e2⟩]
      · rw [if_neg (fun z => e3 z.1), if_neg (by omega)]
    · rw [if_neg (fun z => e2 z.2), if_neg (fun z => e2 z.2)]
theorem mUsed_y {x : Nat → Nat → Int32} {v : Int32} {k : Nat} (q : x 18 k = v) : ur (mUsed x v k) 10 (upd (mUsed x v k 10) k (nI 0)) = mUsed x v (k + 1) := by
  unfold mUsed
  rw [ur_ur, ur_eq]
  congr 1
  funext j
  unfold upd
  by_cases e : j = k
  · rw [if_pos e, if_pos ⟨by omega, e ▸ q⟩]
  · rw [if_neg e]
    show (if j < k ∧ x 18 j = v then nI 0 else x 10 j) = _
    by_cases e2 : x 18 j = v
    · by_cases e3 : j < k
      · rw [if_pos ⟨e3, e2⟩, if_pos ⟨by omega, e2⟩]
      · rw [if_neg (fun z => e3 z.1), if_neg (by omega)]
    · rw [if_neg (fun z => e2 z.2), if_neg (fun z => e2 z.2)]
def mElig (x : Nat → Nat → Int32) (v0 : Int32) (fr : Bool) : Nat → Bool := fun k => decide (x 18 k = v0 ∧ ¬ x 35 k = 0 ∧ ¬ (fr = true ∧ ¬ x 10 k = 0))
theorem bst_E {E : Nat → Bool} {nu : Nat → Int32} : ∀ {k j : Nat}, bstT E nu k = some j → E j = true := by
  intro k
  induction k with
  | zero => intro j q; cases q
  | succ k ih =>
    intro j q
    cases e : E k with
    | false => rw [bst_0 e] at q; exact ih q
    | true =>
      cases eb : bstT E nu k with
      | none => rw [bst_1 e eb] at q; cases q; exact e
      | some i =>
        by_cases z : nu k ≤ nu i
        · rw [bst_2 e eb z] at q; cases q; exact ih eb
        · rw [bst_3 e eb z] at q; cases q; exact e
def mSlot (x : Nat → Nat → Int32) (v0 : Int32) : Nat → Nat → Int32 := match bstT (mElig x v0 true) (x 15) 12 with
  | some a => mSendC (ur x 10 (upd (x 10) a (nI 1))) a
  | none => match bstT (mElig x v0 false) (x 15) 12 with
    | none => x
    | some _ => mUsed (ur x 41 (fun _ => x 41 0 + nI 1)) v0 12
section Model8
variable {l : Launch} {D : va_G} {A : Nat → ClassId} {G : Heap} {h : Hp} {n mm df : Nat} {x : Nat → Nat → Int32}
set_option maxRecDepth 4000 in
theorem k_M_slot (hl : l.stackTraces = false) {v0 : Int32} (hv : MV x) : Ct l D A G my_M_slot cd_M_slot 4 none (df + 3) 0 0 [.ref mm, .int v0] (MH A mm x h) n (fun v h' n' => v = none ∧ h' = MH A mm (mSlot x v0) h ∧ n' = n) (fun _ _ _ => False) := by
  refine Ct.of (by decide) hl (Nat.le_of_ble_eq_true rfl) ?_
  intro p e s m args below meth c C hr hnm ht dp
  first | refine r_aload_n C dc_M_slot_0 rfl rfl ?_ | refine r_aload_nq C dc_M_slot_0 rfl rfl ?_
  refine r_iload_n C dc_M_slot_1 rfl rfl ?_
  refine r_iconst (v := nI 1) C dc_M_slot_2 (by decide) ?_
  refine r_callV C dp dc_M_slot_3 cw_M_191 cm_M_sender cv_M_sender rfl (mh_0) (k_M_sender (fr := true) (df := df) hl) (by omega) rfl rfl (Nat.le_of_ble_eq_true rfl) (fun v3 h3 n3 q3 z3 => ?_) (fun _ _ _ _ z => z.elim)
  obtain ⟨y3, y3h, y3n⟩ := z3
  rw [y3, y3h, y3n]
  have hE : bstT (mElig x v0 true) (x 15) 12 = bstT (fun k => decide (x 18 k = v0 ∧ ¬ x 35 k = 0 ∧ ¬ (true = true ∧ ¬ x 10 k = 0))) (x 15) 12 := rfl
  rw [← hE]
  cases eb : bstT (mElig x v0 true) (x 15) 12 with
  | some a =>
    have ha := bst_lt eb
    have he := of_decide_eq_true (bst_E eb)
    refine sb_at (P := fun v => Rw _ _ _ _ _ _ _ _ _ _ _ _ _ _ _ _ _ _ _ _ (.int v :: _)) (show oi (some a) = nI a from rfl) ?_
    refine r_istore_n C dc_M_slot_6 rfl (by decide) (nw_of rfl) ?_
    refine r_iload_n C dc_M_slot_7 rfl rfl ?_
    refine r_if_lt (tgt := 26) C dc_M_slot_8 (by decide) (fun c8 => ?_) (fun c8 => ?_)
    · exact absurd c8 (nI_lt0 (by omega))
    ·
      first | refine r_aload_n C dc_M_slot_11 rfl rfl ?_ | refine r_aload_nq C dc_M_slot_11 rfl rfl ?_
      refine r_get C dc_M_slot_12 fl_M_38 mh_0 rfl ?_
      refine r_iload_n C dc_M_slot_15 rfl rfl ?_
      refine r_iconst (v := nI 1) C dc_M_slot_16 (by decide) ?_
      refine r_zast C dc_M_slot_17 mh_10 rfl (by omega) (by decide) (by first | exact zi_01 _ | exact zv_0 | exact zv_1 | assumption | decide) ?_
      rw [ms_10]
      first | refine r_aload_n C dc_M_slot_18 rfl rfl ?_ | refine r_aload_nq C dc_M_slot_18 rfl rfl ?_
      refine r_iload_n C dc_M_slot_19 rfl rfl ?_
      refine r_callV C dp dc_M_slot_20 cw_M_195 cm_M_send cv_M_send rfl (mh_0) (k_M_sendC (df := df) (x := ur x 10 (upd (x 10) a (nI 1))) hl (hv.ur (by decide)) ha (show ¬ x 35 a = 0 from he.2.1)) (by omega) rfl rfl (Nat.le_of_ble_eq_true rfl) (fun v20 h20 n20 q20 z20 => ?_) (fun _ _ _ _ z => z.elim)
      obtain ⟨y20, y20h, y20n⟩ := z20
      rw [y20, y20h, y20n]
      refine r_goto (tgt := 76) C dc_M_slot_23 (by decide) ?_
      exact r_vret C dp hr dc_M_slot_76 (Nat.le_refl _) ⟨rfl, by unfold mSlot; rw [eb], rfl⟩
  | none =>
    refine r_istore_n C dc_M_slot_6 rfl (by decide) (nw_of rfl) ?_
    refine r_iload_n C dc_M_slot_7 rfl rfl ?_
    refine r_if_lt (tgt := 26) C dc_M_slot_8 (by decide) (fun c8 => ?_) (fun c8 => ?_)
    ·
      first | refine r_aload_n C dc_M_slot_26 rfl rfl ?_ | refine r_aload_nq C dc_M_slot_26 rfl rfl ?_
      refine r_iload_n C dc_M_slot_27 rfl rfl ?_
      refine r_iconst (v := nI 0) C dc_M_slot_28 (by decide) ?_
      refine r_callV C dp dc_M_slot_29 cw_M_191 cm_M_sender cv_M_sender rfl (mh_0) (k_M_sender (fr := false) (df := df) hl) (by omega) rfl rfl (Nat.le_of_ble_eq_true rfl) (fun v29 h29 n29 q29 z29 => ?_) (fun _ _ _ _ z => z.elim)
      obtain ⟨y29, y29h, y29n⟩ := z29
      rw [y29, y29h, y29n]
      have hE2 : bstT (mElig x v0 false) (x 15) 12 = bstT (fun k => decide (x 18 k = v0 ∧ ¬ x 35 k = 0 ∧ ¬ (false = true ∧ ¬ x 10 k = 0))) (x 15) 12 := rfl
      rw [← hE2]
      cases eb2 : bstT (mElig x v0 false) (x 15) 12 with
      | none =>
        refine r_if_lt (tgt := 76) C dc_M_slot_32 (by decide) (fun c32 => ?_) (fun c32 => ?_)
        ·
          exact r_vret C dp hr dc_M_slot_76 (Nat.le_refl _) ⟨rfl, by unfold mSlot; rw [eb]; dsimp only; rw [eb2], rfl⟩
        · exact absurd m1_lt0 c32
      | some a =>
        have ha := bst_lt eb2
        refine sb_at (P := fun v => Rw _ _ _ _ _ _ _ _ _ _ _ _ _ _ _ _ _ _ _ _ (.int v :: _)) (show oi (some a) = nI a from rfl) ?_
        refine r_if_lt (tgt := 76) C dc_M_slot_32 (by decide) (fun c32 => ?_) (fun c32 => ?_)
        · exact absurd c32 (nI_lt0 (by omega))
        ·
          have loop : ∀ k, k ≤ 12 → Rw p l e (cR (df + 3) 0 0) s m args below meth c (CQ D G n (fun v h' n' => v = none ∧ h' = MH A mm (mSlot x v0) h ∧ n' = n) (fun _ _ _ => False) below args s 0 0) D G 4 0 0 (MH A mm (mUsed (ur x 41 (fun _ => x 41 0 + nI 1)) v0 k) h) n [(0, .ref mm), (1, .int v0), (3, .int (nI k))] 47 [] := by
            refine r_loop 12 _ ?_ ?_
            ·
              refine r_iload_n C dc_M_slot_47 rfl rfl ?_
              refine r_bipush (v := nI 12) C dc_M_slot_48 (by decide) ?_
              refine r_icmp_geN (tgt := 76) C dc_M_slot_50 (by decide) (by omega) (by omega) (fun c50 => ?_) (fun c50 => ?_)
              ·
                exact r_vret C dp hr dc_M_slot_76 (Nat.le_refl _) ⟨rfl, by unfold mSlot; rw [eb]; dsimp only; rw [eb2], rfl⟩
              · exact absurd c50 (by omega)
            ·
              intro k hk ih
              refine r_iload_n C dc_M_slot_47 rfl rfl ?_
              refine r_bipush (v := nI 12) C dc_M_slot_48 (by decide) ?_
              refine r_icmp_geN (tgt := 76) C dc_M_slot_50 (by decide) (by omega) (by omega) (fun c50 => ?_) (fun c50 => ?_)
              · exact absurd c50 (by omega)
              ·
                first | refine r_aload_n C dc_M_slot_53 rfl rfl ?_ | refine r_aload_nq C dc_M_slot_53 rfl rfl ?_
                refine r_get C dc_M_slot_54 fl_M_62 mh_0 rfl ?_
                refine r_iload_n C dc_M_slot_57 rfl rfl ?_
                refine r_ialdN C dc_M_slot_58 mh_18 (by omega) (by decide) ?_
                refine r_iload_n C dc_M_slot_59 rfl rfl ?_
                refine r_icmp_ne (tgt := 70) C dc_M_slot_60 (by decide) (fun c60 => ?_) (fun c60 => ?_)
                ·
                  refine rw_h (mUsed_n (show ¬ (ur x 41 (fun _ => x 41 0 + nI 1)) 18 k = v0 from c60)) ?_
                  first | refine r_iincN C dc_M_slot_70 rfl (by decide) (nw_of rfl) ?_ | refine r_iinc C dc_M_slot_70 rfl rfl (by decide) (nw_of rfl) ?_
                  refine r_goto (tgt := 47) C dc_M_slot_73 (by decide) ?_
                  refine r_weak ?_ (ih)
                  exact wl_c (rfl) (wl_c (rfl) (wl_c (rfl) (wl_n)))
                ·
                  first | refine r_aload_n C dc_M_slot_63 rfl rfl ?_ | refine r_aload_nq C dc_M_slot_63 rfl rfl ?_
                  refine r_get C dc_M_slot_64 fl_M_38 mh_0 rfl ?_
                  refine r_iload_n C dc_M_slot_67 rfl rfl ?_
                  refine r_iconst (v := nI 0) C dc_M_slot_68 (by decide) ?_
                  refine r_zast C dc_M_slot_69 mh_10 rfl (by omega) (by decide) (by first | exact zi_01 _ | exact zv_0 | exact zv_1 | assumption | decide) ?_
                  rw [ms_10]
                  refine rw_h (mUsed_y (show (ur x 41 (fun _ => x 41 0 + nI 1)) 18 k = v0 from c60)) ?_
                  first | refine r_iincN C dc_M_slot_70 rfl (by decide) (nw_of rfl) ?_ | refine r_iinc C dc_M_slot_70 rfl rfl (by decide) (nw_of rfl) ?_
                  refine r_goto (tgt := 47) C dc_M_slot_73 (by decide) ?_
                  refine r_weak ?_ (ih)
                  exact wl_c (rfl) (wl_c (rfl) (wl_c (rfl) (wl_n)))
          first | refine r_aload_n C dc_M_slot_35 rfl rfl ?_ | refine r_aload_nq C dc_M_slot_35 rfl rfl ?_
          refine r_dup C dc_M_slot_36 rfl ?_
          refine r_get C dc_M_slot_37 fl_M_198 mh_0 rfl ?_
          refine r_iconst (v := nI 1) C dc_M_slot_40 (by decide) ?_
          first | refine r_iaddN C dc_M_slot_41 ?_ | refine r_iadd C dc_M_slot_41 ?_
          refine r_put C dc_M_slot_42 fl_M_198 mh_0 rfl rfl (Nat.le_of_ble_eq_true rfl) ?_
          rw [mp_41]
          refine r_iconst (v := nI 0) C dc_M_slot_45 (by decide) ?_
          refine r_istore_n C dc_M_slot_46 rfl (by decide) (nw_of rfl) ?_
          refine rw_h (mUsed_0 (ur x 41 (fun _ => x 41 0 + nI 1)) v0).symm ?_
          refine r_weak ?_ (loop 0 (by omega))
          exact wl_c (rfl) (wl_c (rfl) (wl_c (rfl) (wl_n)))
    · exact absurd m1_lt0 c8
end Model8
