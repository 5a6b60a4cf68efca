/-- one socket's step of the search for the least node, a pass over k sockets, whether it changed anything, N passes -/
def gS (ot : Nat → Option Nat) (g : Nat → Nat) (k : Nat) : Nat → Nat := match ot k with
  | none => g
  | some t => if g (t / 3) < g (k / 3) then (fun j => if j = k / 3 then g (t / 3) else g j) else g
def gP (ot : Nat → Option Nat) (g : Nat → Nat) : Nat → (Nat → Nat)
  | 0 => g
  | k + 1 => gS ot (gP ot g k) k
def gD (ot : Nat → Option Nat) (g : Nat → Nat) (k : Nat) : Bool := match ot k with
  | none => false
  | some t => decide (g (t / 3) < g (k / 3))
def gC (ot : Nat → Option Nat) (g : Nat → Nat) : Nat → Bool
  | 0 => false
  | k + 1 => gC ot g k || gD ot (gP ot g k) k
def itP (ot : Nat → Option Nat) : Nat → (Nat → Nat)
  | 0 => fun j => j
  | N + 1 => gP ot (itP ot N) 36
def sm (g : Nat → Nat) : Nat → Nat
  | 0 => 0
  | k + 1 => sm g k + g k
theorem gS_le (ot : Nat → Option Nat) (g : Nat → Nat) (k j : Nat) : gS ot g k j ≤ g j := by
  unfold gS
  cases ot k with
  | none => exact Nat.le_refl _
  | some t =>
    dsimp only
    by_cases hlt : g (t / 3) < g (k / 3)
    · rw [if_pos hlt]
      show (if j = k / 3 then g (t / 3) else g j) ≤ g j
      by_cases hj : j = k / 3
      · rw [if_pos hj, hj]; exact Nat.le_of_lt hlt
      · rw [if_neg hj]; exact Nat.le_refl _
    · rw [if_neg hlt]; exact Nat.le_refl _
theorem gP_le (ot : Nat → Option Nat) (g : Nat → Nat) : ∀ k j, gP ot g k j ≤ g j := by
  intro k
  induction k with
  | zero => intro j; exact Nat.le_refl _
  | succ k ih => intro j; exact Nat.le_trans (gS_le _ _ _ _) (ih j)
theorem sm_le {f g : Nat → Nat} (q : ∀ j, f j ≤ g j) : ∀ n, sm f n ≤ sm g n := by
  intro n
  induction n with
  | zero => exact Nat.le_refl _
  | succ n ih => have := q n; show sm f n + f n ≤ sm g n + g n; omega
theorem sm_lt {f g : Nat → Nat} (q : ∀ j, f j ≤ g j) {i : Nat} (z : f i < g i) : ∀ n, i < n → sm f n < sm g n := by
  intro n
  induction n with
  | zero => intro h; omega
  | succ n ih =>
    intro h
    have h1 := q n
    have h2 := sm_le q n
    show sm f n + f n < sm g n + g n
    by_cases e : i = n
    · rw [← e] at h1 h2 ⊢; omega
    · have := ih (by omega); omega
theorem gC_f {ot : Nat → Option Nat} {g : Nat → Nat} : ∀ k, gC ot g k = false → gP ot g k = g := by
  intro k
  induction k with
  | zero => intro _; rfl
  | succ k ih =>
    intro h
    obtain ⟨h1, h2⟩ := Bool.or_eq_false_iff.mp h
    have e := ih h1
    show gS ot (gP ot g k) k = g
    rw [e] at h2 ⊢
    unfold gD at h2
    unfold gS
    split
    · rfl
    · rename_i t ht
      rw [ht] at h2
      exact if_neg (of_decide_eq_false h2)
theorem gC_t {ot : Nat → Option Nat} {g : Nat → Nat} : ∀ k, k ≤ 36 → gC ot g k = true → ∃ i, i < 12 ∧ gP ot g k i < g i := by
  intro k
  induction k with
  | zero => intro _ h; cases h
  | succ k ih =>
    intro hk h
    by_cases h1 : gC ot g k = true
    · obtain ⟨i, hi, z⟩ := ih (by omega) h1
      exact ⟨i, hi, Nat.lt_of_le_of_lt (gS_le _ _ _ _) z⟩
    · have h2 : gD ot (gP ot g k) k = true := by
        have h9 : (gC ot g k || gD ot (gP ot g k) k) = true := h
        rw [Bool.not_eq_true] at h1
        rw [h1, Bool.false_or] at h9
        exact h9
      refine ⟨k / 3, by omega, ?_⟩
      unfold gD at h2
      split at h2
      · cases h2
      · rename_i t ht
        have h3 := of_decide_eq_true h2
        have h4 := gP_le ot g k (k / 3)
        show gS ot (gP ot g k) k (k / 3) < _
        unfold gS
        rw [ht]
        dsimp only
        rw [if_pos h3, if_pos rfl]
        omega
/-- a row that holds the numbers g below 12 -/
def rN (g : Nat → Nat) (f : Nat → Int32) : Nat → Int32 := fun j => if j < 12 then nI (g j) else f j
theorem rN_at {g : Nat → Nat} {f : Nat → Int32} {i : Nat} (q : i < 12) : rN g f i = nI (g i) := if_pos q
theorem rN_upd {g : Nat → Nat} {f : Nat → Int32} {i v : Nat} (q : i < 12) : upd (rN g f) i (nI v) = rN (fun j => if j = i then v else g j) f := by
  funext j
  unfold upd rN
  by_cases e : j = i
  · rw [if_pos e, if_pos (by omega)]; dsimp only; rw [if_pos e]
  · rw [if_neg e]; dsimp only; rw [if_neg e]
theorem rN_fill {f : Nat → Int32} {k : Nat} (q : k < 12) : upd (fun j => if j < k then nI j else f j) k (nI k) = (fun j => if j < k + 1 then nI j else f j) := by
  funext j
  unfold upd
  by_cases e : j = k
  · rw [if_pos e, if_pos (by omega), e]
  · rw [if_neg e]
    dsimp only
    by_cases e2 : j < k
    · rw [if_pos e2, if_pos (by omega)]
    · rw [if_neg e2, if_neg (by omega)]
section Model9
variable {l : Launch} {D : va_G} {A : Nat → ClassId} {G : Heap} {h : Hp} {n mm df : Nat} {x : Nat → Nat → Int32}
set_option maxRecDepth 4000 in
theorem k_M_findBuses (hl : l.stackTraces = false) {ot : Nat → Option Nat} (hot : ∀ k, k < 36 → x 1 k = oi (ot k)) (ht36 : ∀ k t, k < 36 → ot k = some t → t < 36) : Ct l D A G my_M_findBuses cd_M_findBuses 3 none df 0 0 [.ref mm] (MH A mm x h) n (fun v h' n' => v = none ∧ (∃ N, gP ot (itP ot N) 36 = itP ot N ∧ h' = MH A mm (ur x 18 (rN (itP ot N) (x 18))) h) ∧ n' = n) (fun _ _ _ => False) := by
  refine Ct.of (by decide) hl (Nat.le_of_ble_eq_true rfl) ?_
  intro p e s m args below meth c C hr hnm ht dp
  have wh : ∀ d N, sm (itP ot N) 12 < d → (∀ j, j < 12 → itP ot N j < 12) → Rw p l e (cR df 0 0) s m args below meth c (CQ D G n (fun v h' n' => v = none ∧ (∃ N, gP ot (itP ot N) 36 = itP ot N ∧ h' = MH A mm (ur x 18 (rN (itP ot N) (x 18))) h) ∧ n' = n) (fun _ _ _ => False) below args s 0 0) D G 3 0 0 (MH A mm (ur x 18 (rN (itP ot N) (x 18))) h) n [(0, .ref mm), (1, .int (zi true))] 23 [] := by
    intro d
    induction d with
    | zero => intro N hd; omega
    | succ d ihd =>
      intro N hd hb
      generalize hg : itP ot N = g at hd hb ⊢
      have hbP : ∀ k j, j < 12 → gP ot g k j < 12 := fun k j hj => Nat.lt_of_le_of_lt (gP_le ot g k j) (hb j hj)
      have loop : ∀ k, k ≤ 36 → Rw p l e (cR df 0 0) s m args below meth c (CQ D G n (fun v h' n' => v = none ∧ (∃ N, gP ot (itP ot N) 36 = itP ot N ∧ h' = MH A mm (ur x 18 (rN (itP ot N) (x 18))) h) ∧ n' = n) (fun _ _ _ => False) below args s 0 0) D G 3 0 0 (MH A mm (ur x 18 (rN (gP ot g k) (x 18))) h) n [(0, .ref mm), (1, .int (zi (gC ot g k))), (2, .int (nI k))] 31 [] := by
        refine r_loop 36 _ ?_ ?_
        ·
          refine r_iload_n C dc_M_findBuses_31 rfl rfl ?_
          refine r_bipush (v := nI 36) C dc_M_findBuses_32 (by decide) ?_
          refine r_icmp_geN (tgt := 102) C dc_M_findBuses_34 (by decide) (by omega) (by omega) (fun c34 => ?_) (fun c34 => ?_)
          ·
            refine r_goto (tgt := 23) C dc_M_findBuses_102 (by decide) ?_
            cases ec : gC ot g 36 with
            | false =>
              have e1 := gC_f 36 ec
              refine rw_h (y' := (ur x 18 (rN g (x 18)))) (by rw [e1]) ?_
              refine r_weak (lo' := [(0, .ref mm), (1, .int (zi false))]) (wl_c (rfl) (wl_c (by rw [← ec]; rfl) (wl_n))) ?_
              refine r_iload_n C dc_M_findBuses_23 rfl rfl ?_
              refine r_if_eqZ (tgt := 105) C dc_M_findBuses_24 (by decide) (fun c24 => ?_) (fun c24 => ?_)
              ·
                exact r_vret C dp hr dc_M_findBuses_105 (Nat.le_refl _) ⟨rfl, ⟨N, by rw [hg]; exact e1, by rw [hg]⟩, rfl⟩
              · exact absurd c24 (by decide)
            | true =>
              obtain ⟨i, hi, hlt⟩ := gC_t 36 (Nat.le_refl _) ec
              have hs9 := sm_lt (gP_le ot g 36) hlt 12 hi
              have hN : itP ot (N + 1) = gP ot g 36 := by
                show gP ot (itP ot N) 36 = _
                rw [hg]
              have w1 := ihd (N + 1) (by rw [hN]; omega) (by rw [hN]; exact hbP 36)
              rw [hN] at w1
              refine r_weak ?_ (w1)
              exact wl_c (rfl) (wl_c (by rw [← ec]; rfl) (wl_n))
          · exact absurd c34 (by omega)
        ·
          intro k hk ih
          refine r_iload_n C dc_M_findBuses_31 rfl rfl ?_
          refine r_bipush (v := nI 36) C dc_M_findBuses_32 (by decide) ?_
          refine r_icmp_geN (tgt := 102) C dc_M_findBuses_34 (by decide) (by omega) (by omega) (fun c34 => ?_) (fun c34 => ?_)
          · exact absurd c34 (by omega)
          ·
            first | refine r_aload_n C dc_M_findBuses_37 rfl rfl ?_ | refine r_aload_nq C dc_M_findBuses_37 rfl rfl ?_
            refine r_get C dc_M_findBuses_38 fl_M_7 mh_0 rfl ?_
            refine r_iload_n C dc_M_findBuses_41 rfl rfl ?_
            refine r_ialdN C dc_M_findBuses_42 mh_1 (by omega) (by decide) ?_
            refine sb_at (P := fun v => Rw _ _ _ _ _ _ _ _ _ _ _ _ _ _ _ _ _ _ _ _ (.int v :: _)) (show _ = oi (ot k) from hot k hk) ?_
            cases eo : ot k with
            | none =>
              have e1 : gP ot g (k + 1) = gP ot g k := by
                show gS ot (gP ot g k) k = _
                unfold gS
                rw [eo]
              have e2 : gC ot g (k + 1) = gC ot g k := by
                show (gC ot g k || gD ot (gP ot g k) k) = _
                unfold gD
                rw [eo, Bool.or_false]
              refine r_if_lt (tgt := 96) C dc_M_findBuses_43 (by decide) (fun c43 => ?_) (fun c43 => ?_)
              ·
                refine rw_h (by rw [e1]) (y' := (ur x 18 (rN (gP ot g (k + 1)) (x 18)))) ?_
                first | refine r_iincN C dc_M_findBuses_96 rfl (by decide) (nw_of rfl) ?_ | refine r_iinc C dc_M_findBuses_96 rfl rfl (by decide) (nw_of rfl) ?_
                refine r_goto (tgt := 31) C dc_M_findBuses_99 (by decide) ?_
                refine r_weak ?_ (ih)
                exact wl_c (rfl) (wl_c (by rw [e2]; rfl) (wl_c (rfl) (wl_n)))
              · exact absurd m1_lt0 c43
            | some t =>
              have ht3 := ht36 k t hk eo
              refine sb_at (P := fun v => Rw _ _ _ _ _ _ _ _ _ _ _ _ _ _ _ _ _ _ _ _ (.int v :: _)) (show oi (some t) = nI t from rfl) ?_
              refine r_if_lt (tgt := 96) C dc_M_findBuses_43 (by decide) (fun c43 => ?_) (fun c43 => ?_)
              · exact absurd c43 (nI_lt0 (by omega))
              ·
                first | refine r_aload_n C dc_M_findBuses_46 rfl rfl ?_ | refine r_aload_nq C dc_M_findBuses_46 rfl rfl ?_
                refine r_get C dc_M_findBuses_47 fl_M_62 mh_0 rfl ?_
                first | refine r_aload_n C dc_M_findBuses_50 rfl rfl ?_ | refine r_aload_nq C dc_M_findBuses_50 rfl rfl ?_
                refine r_get C dc_M_findBuses_51 fl_M_7 mh_0 rfl ?_
                refine r_iload_n C dc_M_findBuses_54 rfl rfl ?_
                refine r_ialdN C dc_M_findBuses_55 mh_1 (by omega) (by decide) ?_
                refine sb_at (P := fun v => Rw _ _ _ _ _ _ _ _ _ _ _ _ _ _ _ _ _ _ _ _ (.int v :: _)) (show _ = nI t from (hot k hk).trans (by rw [eo]; rfl)) ?_
                refine r_iconst (v := nI 3) C dc_M_findBuses_56 (by decide) ?_
                first | refine r_idivN C dc_M_findBuses_57 (by omega) (by decide) (by decide) ?_ | refine r_idiv C dc_M_findBuses_57 (by decide) ?_
                refine r_ialdN C dc_M_findBuses_58 mh_18 (by omega) (by decide) ?_
                refine sb_at (P := fun v => Rw _ _ _ _ _ _ _ _ _ _ _ _ _ _ _ _ _ _ _ _ (.int v :: _)) (show _ = nI (gP ot g k (t / 3)) from rN_at (by omega)) ?_
                first | refine r_aload_n C dc_M_findBuses_59 rfl rfl ?_ | refine r_aload_nq C dc_M_findBuses_59 rfl rfl ?_
                refine r_get C dc_M_findBuses_60 fl_M_62 mh_0 rfl ?_
                refine r_iload_n C dc_M_findBuses_63 rfl rfl ?_
                refine r_iconst (v := nI 3) C dc_M_findBuses_64 (by decide) ?_
                first | refine r_idivN C dc_M_findBuses_65 (by omega) (by decide) (by decide) ?_ | refine r_idiv C dc_M_findBuses_65 (by decide) ?_
                refine r_ialdN C dc_M_findBuses_66 mh_18 (by omega) (by decide) ?_
                refine sb_at (P := fun v => Rw _ _ _ _ _ _ _ _ _ _ _ _ _ _ _ _ _ _ _ _ (.int v :: _)) (show _ = nI (gP ot g k (k / 3)) from rN_at (by omega)) ?_
                have b1 := hbP k (t / 3) (by omega)
                have b2 := hbP k (k / 3) (by omega)
                refine r_icmp_ltN (tgt := 73) C dc_M_findBuses_67 (by decide) (by omega) (by omega) (fun c67 => ?_) (fun c67 => ?_)
                ·
                  have e1 : gP ot g (k + 1) = (fun j => if j = k / 3 then gP ot g k (t / 3) else gP ot g k j) := by
                    show gS ot (gP ot g k) k = _
                    unfold gS
                    rw [eo]
                    exact if_pos c67
                  have e2 : gC ot g (k + 1) = true := by
                    show (gC ot g k || gD ot (gP ot g k) k) = _
                    unfold gD
                    rw [eo]
                    dsimp only
                    rw [decide_eq_true c67, Bool.or_true]
                  first | refine r_aload_n C dc_M_findBuses_73 rfl rfl ?_ | refine r_aload_nq C dc_M_findBuses_73 rfl rfl ?_
                  refine r_get C dc_M_findBuses_74 fl_M_62 mh_0 rfl ?_
                  refine r_iload_n C dc_M_findBuses_77 rfl rfl ?_
                  refine r_iconst (v := nI 3) C dc_M_findBuses_78 (by decide) ?_
                  first | refine r_idivN C dc_M_findBuses_79 (by omega) (by decide) (by decide) ?_ | refine r_idiv C dc_M_findBuses_79 (by decide) ?_
                  first | refine r_aload_n C dc_M_findBuses_80 rfl rfl ?_ | refine r_aload_nq C dc_M_findBuses_80 rfl rfl ?_
                  refine r_get C dc_M_findBuses_81 fl_M_62 mh_0 rfl ?_
                  first | refine r_aload_n C dc_M_findBuses_84 rfl rfl ?_ | refine r_aload_nq C dc_M_findBuses_84 rfl rfl ?_
                  refine r_get C dc_M_findBuses_85 fl_M_7 mh_0 rfl ?_
                  refine r_iload_n C dc_M_findBuses_88 rfl rfl ?_
                  refine r_ialdN C dc_M_findBuses_89 mh_1 (by omega) (by decide) ?_
                  refine sb_at (P := fun v => Rw _ _ _ _ _ _ _ _ _ _ _ _ _ _ _ _ _ _ _ _ (.int v :: _)) (show _ = nI t from (hot k hk).trans (by rw [eo]; rfl)) ?_
                  refine r_iconst (v := nI 3) C dc_M_findBuses_90 (by decide) ?_
                  first | refine r_idivN C dc_M_findBuses_91 (by omega) (by decide) (by decide) ?_ | refine r_idiv C dc_M_findBuses_91 (by decide) ?_
                  refine r_ialdN C dc_M_findBuses_92 mh_18 (by omega) (by decide) ?_
                  refine sb_at (P := fun v => Rw _ _ _ _ _ _ _ _ _ _ _ _ _ _ _ _ _ _ _ _ (.int v :: _)) (show _ = nI (gP ot g k (t / 3)) from rN_at (by omega)) ?_
                  refine r_iast C dc_M_findBuses_93 mh_18 rfl (by omega) (by decide) ?_
                  rw [ms_18]
                  refine rw_h (y' := (ur x 18 (rN (gP ot g (k + 1)) (x 18)))) (by rw [ur_ur, ur_eq, rN_upd (by omega), e1]) ?_
                  refine r_iconst (v := nI 1) C dc_M_findBuses_94 (by decide) ?_
                  refine r_istore_n C dc_M_findBuses_95 rfl (by decide) (nw_of rfl) ?_
                  first | refine r_iincN C dc_M_findBuses_96 rfl (by decide) (nw_of rfl) ?_ | refine r_iinc C dc_M_findBuses_96 rfl rfl (by decide) (nw_of rfl) ?_
                  refine r_goto (tgt := 31) C dc_M_findBuses_99 (by decide) ?_
                  refine r_weak ?_ (ih)
                  exact wl_c (rfl) (wl_c (by rw [e2]; rfl) (wl_c (rfl) (wl_n)))
                ·
                  have e1 : gP ot g (k + 1) = gP ot g k := by
                    show gS ot (gP ot g k) k = _
                    unfold gS
                    rw [eo]
                    exact if_neg (by omega)
                  have e2 : gC ot g (k + 1) = gC ot g k := by
                    show (gC ot g k || gD ot (gP ot g k) k) = _
                    unfold gD
                    rw [eo]
                    dsimp only
                    rw [decide_eq_false (by omega), Bool.or_false]
                  refine rw_h (by rw [e1]) (y' := (ur x 18 (rN (gP ot g (k + 1)) (x 18)))) ?_
                  refine r_goto (tgt := 96) C dc_M_findBuses_70 (by decide) ?_
                  first | refine r_iincN C dc_M_findBuses_96 rfl (by decide) (nw_of rfl) ?_ | refine r_iinc C dc_M_findBuses_96 rfl rfl (by decide) (nw_of rfl) ?_
                  refine r_goto (tgt := 31) C dc_M_findBuses_99 (by decide) ?_
                  refine r_weak ?_ (ih)
                  exact wl_c (rfl) (wl_c (by rw [e2]; rfl) (wl_c (rfl) (wl_n)))
      refine r_iload_n C dc_M_findBuses_23 rfl rfl ?_
      refine r_if_eqZ (tgt := 105) C dc_M_findBuses_24 (by decide) (fun c24 => ?_) (fun c24 => ?_)
      · exact absurd c24 (by decide)
      ·
        refine r_iconst (v := nI 0) C dc_M_findBuses_27 (by decide) ?_
        refine r_istore_n C dc_M_findBuses_28 rfl (by decide) (nw_of rfl) ?_
        refine r_iconst (v := nI 0) C dc_M_findBuses_29 (by decide) ?_
        refine r_istore_n C dc_M_findBuses_30 rfl (by decide) (nw_of rfl) ?_
        refine r_weak ?_ (loop 0 (by omega))
        exact wl_c (rfl) (wl_c (rfl) (wl_c (rfl) (wl_n)))
  have lp1 : ∀ k, k ≤ 12 → Rw p l e (cR df 0 0) s m args below meth c (CQ D G n (fun v h' n' => v = none ∧ (∃ N, gP ot (itP ot N) 36 = itP ot N ∧ h' = MH A mm (ur x 18 (rN (itP ot N) (x 18))) h) ∧ n' = n) (fun _ _ _ => False) below args s 0 0) D G 3 0 0 (MH A mm (ur x 18 (fun j => if j < k then nI j else x 18 j)) h) n [(0, .ref mm), (1, .int (nI k))] 2 [] := by
    refine r_loop 12 _ ?_ ?_
    ·
      refine r_iload_n C dc_M_findBuses_2 rfl rfl ?_
      refine r_bipush (v := nI 12) C dc_M_findBuses_3 (by decide) ?_
      refine r_icmp_geN (tgt := 21) C dc_M_findBuses_5 (by decide) (by omega) (by omega) (fun c5 => ?_) (fun c5 => ?_)
      ·
        refine r_iconst (v := nI 1) C dc_M_findBuses_21 (by decide) ?_
        refine r_istore_n C dc_M_findBuses_22 rfl (by decide) (nw_of rfl) ?_
        refine r_weak ?_ (wh (sm (itP ot 0) 12 + 1) 0 (Nat.lt_succ_self _) (fun j hj => hj))
        exact wl_c (rfl) (wl_c (rfl) (wl_n))
      · exact absurd c5 (by omega)
    ·
      intro k hk ih
      refine r_iload_n C dc_M_findBuses_2 rfl rfl ?_
      refine r_bipush (v := nI 12) C dc_M_findBuses_3 (by decide) ?_
      refine r_icmp_geN (tgt := 21) C dc_M_findBuses_5 (by decide) (by omega) (by omega) (fun c5 => ?_) (fun c5 => ?_)
      · exact absurd c5 (by omega)
      ·
        first | refine r_aload_n C dc_M_findBuses_8 rfl rfl ?_ | refine r_aload_nq C dc_M_findBuses_8 rfl rfl ?_
        refine r_get C dc_M_findBuses_9 fl_M_62 mh_0 rfl ?_
        refine r_iload_n C dc_M_findBuses_12 rfl rfl ?_
        refine r_iload_n C dc_M_findBuses_13 rfl rfl ?_
        refine r_iast C dc_M_findBuses_14 mh_18 rfl (by omega) (by decide) ?_
        rw [ms_18]
        refine rw_h (y' := (ur x 18 (fun j => if j < (k + 1) then nI j else x 18 j))) (by rw [ur_ur, ur_eq, rN_fill hk]) ?_
        first | refine r_iincN C dc_M_findBuses_15 rfl (by decide) (nw_of rfl) ?_ | refine r_iinc C dc_M_findBuses_15 rfl rfl (by decide) (nw_of rfl) ?_
        refine r_goto (tgt := 2) C dc_M_findBuses_18 (by decide) ?_
        refine r_weak ?_ (ih)
        exact wl_c (rfl) (wl_c (rfl) (wl_n))
  refine r_iconst (v := nI 0) C dc_M_findBuses_0 (by decide) ?_
  refine r_istore_n C dc_M_findBuses_1 rfl (by decide) (nw_of rfl) ?_
  refine rw_h (y' := (ur x 18 (fun j => if j < 0 then nI j else x 18 j))) (by rw [show (fun j => if j < 0 then nI j else x 18 j) = x 18 from funext fun j => if_neg (by omega), ur_self]) ?_
  refine r_weak ?_ (lp1 0 (by omega))
  exact wl_c (rfl) (wl_c (rfl) (wl_n))
end Model9
