section Mn
variable {p : Program} {l : Launch} {e : Env} {R : Room} {s : State} {m : MethodId} {args : Array Value} {below : List Frame} {meth : Method} {c : Code} {Q : State → Prop} {D : va_G} {A : Nat → ClassId} {G : Heap} {cc : ByteArray} {nL : Nat} {own : String} {bc bs : Nat} {h : Hp} {n : Nat} {lo : List (Nat × Value)} {pc : Nat} {st : List Value}
theorem r_min (C : Cx p l s m args meth c D A G cc nL own) {df bc0 bs0 index a b : Nat} (dp : Dp R df bc0 bs0) (d : decode cc pc = .ok (.invokestatic index, 3)) (hw : cw own index my_min cd_min 2 (some .int) 2) (hs2 : Cond.static my_min ∈ tbl) (ha : a < 2 ^ 31) (hb : b < 2 ^ 31) (hcat : (st.map fun v => v.category).sum ≤ 8) (K : Rw p l e R s m args below meth c Q D G nL bc bs h n lo (pc + 3) (.int (nI (min a b)) :: st)) : Rw p l e R s m args below meth c Q D G nL bc bs h n lo pc (.int (nI b) :: .int (nI a) :: st) := by
  intro H ls locs cells slots hR hz hl hf hc hsz
  obtain ⟨d1, d2, d3, d4⟩ := dp
  have hE := C.2.2.2.2.1
  refine va_mmin C.1 C.2.1 (C.2.2.1.trans hl.1.symm) C.2.2.2.1 (hE.w hw.1) (hE.w hs2) (hE.w hw.2.1) (hE.w hw.2.2.1) (by omega) (by omega) (by omega) (by omega) d ?_
  have e1 : (if nI b < nI a then nI b else nI a) = nI (min a b) := by
    by_cases z : b < a
    · rw [if_pos ((nI_ltI hb ha).mpr z), Nat.min_eq_right (by omega)]
    · rw [if_neg (fun q => z ((nI_ltI hb ha).mp q)), Nat.min_eq_left (by omega)]
  rw [e1]
  exact K H ls locs cells slots hR hz hl hf hc hsz
end Mn
/-- the node at the far end of a socket's cable -/
def fN (ot : Nat → Option Nat) (k : Nat) : Option Nat := match ot k with
  | none => none
  | some t => some (t / 3)
theorem gS_min {ot : Nat → Option Nat} {g : Nat → Nat} {k t : Nat} (h : ot k = some t) : (fun j => if j = k / 3 then min (g (k / 3)) (g (t / 3)) else g j) = gS ot g k := by
  funext j
  unfold gS
  rw [h]
  dsimp only
  by_cases c : g (t / 3) < g (k / 3)
  · rw [if_pos c]
    show (if j = k / 3 then _ else _) = (if j = k / 3 then _ else _)
    rw [Nat.min_eq_right (by omega)]
  · rw [if_neg c, Nat.min_eq_left (by omega)]
    by_cases e : j = k / 3
    · rw [if_pos e, e]
    · rw [if_neg e]
theorem gS_none {ot : Nat → Option Nat} {g : Nat → Nat} {k : Nat} (h : ot k = none) : gS ot g k = g := by
  unfold gS
  rw [h]
theorem gP_12 {ot : Nat → Option Nat} {g : Nat → Nat} (hg : ∀ j, j < 12 → g j < 12) (k j : Nat) (hj : j < 12) : gP ot g k j < 12 := Nat.lt_of_le_of_lt (gP_le ot g k j) (hg j hj)
theorem itP_12 {ot : Nat → Option Nat} (n j : Nat) (hj : j < 12) : itP ot n j < 12 := Nat.lt_of_le_of_lt (itP_le ot n j) hj
theorem rN_0 {ot : Nat → Option Nat} {f : Nat → Int32} : (fun j => if j < 12 then nI j else f j) = rN (itP ot 0) f := rfl
section Cls4
variable {l : Launch} {D : va_G} {A : Nat → ClassId} {G : Heap} {b n df : Nat} {z : Nat → Nat → Int32} {r : Nat → Nat → Option Nat} {S : Nat → Bool} {q : Nat → Nat → Int32} {h : Hp}
set_option maxRecDepth 4000 in
set_option maxHeartbeats 1000000 in
theorem k_W_farNode (hl : l.stackTraces = false) {i pt : Nat} (hi : i < 12) (hp : pt < 3) {ot : Nat → Option Nat} (hot : ∀ k, k < 36 → z 30 k = oi (ot k)) (ht36 : ∀ k t, k < 36 → ot k = some t → t < 36) : Ct l D A G my_W_farNode cd_W_farNode 4 (some (.int)) df 0 0 [.ref (b + 1), .int (nI i), .int (nI pt)] (CH A b z r (RH S q h)) n (fun v h' n' => v = some (.int (oi (fN ot (3 * i + pt)))) ∧ h' = CH A b z r (RH S q h) ∧ n' = n) (fun _ _ _ => False) := by
  refine Ct.of (by decide) hl (Nat.le_of_ble_eq_true rfl) ?_
  intro p e s m args below meth c C hr hnm ht dp
  first | refine r_aload_n C dc_W_farNode_0 rfl rfl ?_ | refine r_aload_nq C dc_W_farNode_0 rfl rfl ?_
  refine r_get C dc_W_farNode_1 fl_W_9 ch_W rfl ?_
  refine r_iload_n C dc_W_farNode_4 rfl rfl ?_
  refine r_iconst (v := nI 3) C dc_W_farNode_5 (by decide) ?_
  first | refine r_imulN C dc_W_farNode_6 ?_ | refine r_imul C dc_W_farNode_6 ?_
  refine r_iload_n C dc_W_farNode_7 rfl rfl ?_
  first | refine r_iaddN C dc_W_farNode_8 ?_ | refine r_iadd C dc_W_farNode_8 ?_
  refine r_ialdN C dc_W_farNode_9 ch_far (by omega) (by decide) ?_
  refine sb_at (P := fun v => Rw _ _ _ _ _ _ _ _ _ _ _ _ _ _ _ _ _ _ _ _ (.int v :: _)) (show _ = oi (ot (3 * i + pt)) from (by rw [show i * 3 + pt = 3 * i + pt by omega]; exact hot _ (by omega))) ?_
  cases eo : ot (3 * i + pt) with
  | none =>
    refine r_istore_n C dc_W_farNode_10 rfl (by decide) (nw_of rfl) ?_
    refine r_iload_n C dc_W_farNode_11 rfl rfl ?_
    refine r_iconst (v := -1) C dc_W_farNode_12 (by decide) ?_
    refine r_icmp_ne (tgt := 20) C dc_W_farNode_13 (by decide) (fun c13 => ?_) (fun c13 => ?_)
    · exact absurd rfl c13
    ·
      refine r_iconst (v := -1) C dc_W_farNode_16 (by decide) ?_
      refine r_goto (tgt := 23) C dc_W_farNode_17 (by decide) ?_
      exact r_iret C dp hr dc_W_farNode_23 (Nat.le_refl _) ⟨by unfold fN; rw [eo]; rfl, rfl, rfl⟩
  | some t =>
    have h36 := ht36 _ _ (by omega) eo
    refine sb_at (P := fun v => Rw _ _ _ _ _ _ _ _ _ _ _ _ _ _ _ _ _ _ _ _ (.int v :: _)) (show oi (some t) = nI t from rfl) ?_
    refine r_istore_n C dc_W_farNode_10 rfl (by decide) (nw_of rfl) ?_
    refine r_iload_n C dc_W_farNode_11 rfl rfl ?_
    refine r_iconst (v := -1) C dc_W_farNode_12 (by decide) ?_
    refine r_icmp_ne (tgt := 20) C dc_W_farNode_13 (by decide) (fun c13 => ?_) (fun c13 => ?_)
    ·
      refine r_iload_n C dc_W_farNode_20 rfl rfl ?_
      refine r_iconst (v := nI 3) C dc_W_farNode_21 (by decide) ?_
      first | refine r_idivN C dc_W_farNode_22 (by omega) (by decide) (by decide) ?_ | refine r_idiv C dc_W_farNode_22 (by decide) ?_
      exact r_iret C dp hr dc_W_farNode_23 (Nat.le_refl _) ⟨by unfold fN; rw [eo]; rfl, rfl, rfl⟩
    · exact absurd c13 (nI_m1 (by omega))
set_option maxRecDepth 4000 in
set_option maxHeartbeats 1000000 in
theorem k_W_buses (hl : l.stackTraces = false) {g : Nat → Nat} (hg : ∀ j, j < 12 → z 31 j = nI (g j)) (hg12 : ∀ j, j < 12 → g j < 12) : Ct l D A G my_W_buses cd_W_buses 3 (some (.int)) (df + 1) 0 0 [.ref (b + 1)] (CH A b z r (RH S q h)) n (fun v h' n' => v = some (.int (nI (cntT (fun k => decide (g k = k)) 12))) ∧ h' = CH A b z r (RH S q h) ∧ n' = n) (fun _ _ _ => False) := by
  refine Ct.of (by decide) hl (Nat.le_of_ble_eq_true rfl) ?_
  intro p e s m args below meth c C hr hnm ht dp
  have lp : ∀ k, k ≤ 12 → Rw p l e (cR (df + 1) 0 0) s m args below meth c (CQ D G n (fun v h' n' => v = some (.int (nI (cntT (fun k => decide (g k = k)) 12))) ∧ h' = CH A b z r (RH S q h) ∧ n' = n) (fun _ _ _ => False) below args s 0 0) D G 3 0 0 (CH A b z r (RH S q h)) n [(0, .ref (b + 1)), (1, .int (nI (cntT (fun k => decide (g k = k)) k))), (2, .int (nI k))] 4 [] := by
    refine r_loop 12 _ ?_ ?_
    ·
      refine r_iload_n C dc_W_buses_4 rfl rfl ?_
      refine r_bipush (v := nI 12) C dc_W_buses_5 (by decide) ?_
      refine r_icmp_geN (tgt := 27) C dc_W_buses_7 (by decide) (by omega) (by omega) (fun c7 => ?_) (fun c7 => ?_)
      ·
        refine r_iload_n C dc_W_buses_27 rfl rfl ?_
        exact r_iret C dp hr dc_W_buses_28 (Nat.le_refl _) ⟨rfl, rfl, rfl⟩
      · exact absurd c7 (by omega)
    ·
      intro k hk ih
      refine r_iload_n C dc_W_buses_4 rfl rfl ?_
      refine r_bipush (v := nI 12) C dc_W_buses_5 (by decide) ?_
      refine r_icmp_geN (tgt := 27) C dc_W_buses_7 (by decide) (by omega) (by omega) (fun c7 => ?_) (fun c7 => ?_)
      · exact absurd c7 (by omega)
      ·
        first | refine r_aload_n C dc_W_buses_10 rfl rfl ?_ | refine r_aload_nq C dc_W_buses_10 rfl rfl ?_
        refine r_iload_n C dc_W_buses_11 rfl rfl ?_
        refine r_callV C dp dc_W_buses_12 cw_W_31 cm_W_isBus cv_W_isBus rfl (ch_W) (k_W_isBus (df := df) (i := k) hl ch_W ch_bus hk hg hg12) (by omega) rfl rfl (Nat.le_of_ble_eq_true rfl) (fun v12 h12 n12 q12 z12 => ?_) (fun _ _ _ _ z => z.elim)
        obtain ⟨y12, y12h, y12n⟩ := z12
        rw [y12, y12h, y12n]
        refine r_if_eqZ (tgt := 21) C dc_W_buses_15 (by decide) (fun c15 => ?_) (fun c15 => ?_)
        ·
          first | refine r_iincN C dc_W_buses_21 rfl (by decide) (nw_of rfl) ?_ | refine r_iinc C dc_W_buses_21 rfl rfl (by decide) (nw_of rfl) ?_
          refine r_goto (tgt := 4) C dc_W_buses_24 (by decide) ?_
          refine r_weak ?_ (ih)
          exact wl_c (rfl) (wl_c (by rw [cnt_0 (P := fun k => decide (g k = k)) c15]; rfl) (wl_c (rfl) (wl_n)))
        ·
          first | refine r_iincN C dc_W_buses_18 rfl (by decide) (nw_of rfl) ?_ | refine r_iinc C dc_W_buses_18 rfl rfl (by decide) (nw_of rfl) ?_
          first | refine r_iincN C dc_W_buses_21 rfl (by decide) (nw_of rfl) ?_ | refine r_iinc C dc_W_buses_21 rfl rfl (by decide) (nw_of rfl) ?_
          refine r_goto (tgt := 4) C dc_W_buses_24 (by decide) ?_
          refine r_weak ?_ (ih)
          exact wl_c (rfl) (wl_c (by rw [cnt_1 (P := fun k => decide (g k = k)) c15]; rfl) (wl_c (rfl) (wl_n)))
  refine r_iconst (v := nI 0) C dc_W_buses_0 (by decide) ?_
  refine r_istore_n C dc_W_buses_1 rfl (by decide) (nw_of rfl) ?_
  refine r_iconst (v := nI 0) C dc_W_buses_2 (by decide) ?_
  refine r_istore_n C dc_W_buses_3 rfl (by decide) (nw_of rfl) ?_
  refine r_weak ?_ (lp 0 (by omega))
  exact wl_c (rfl) (wl_c (rfl) (wl_c (rfl) (wl_n)))
set_option maxRecDepth 4000 in
set_option maxHeartbeats 1000000 in
theorem k_W_findBuses (hl : l.stackTraces = false) {ot : Nat → Option Nat} (hot : ∀ k, k < 36 → z 30 k = oi (ot k)) (ht36 : ∀ k t, k < 36 → ot k = some t → t < 36) : Ct l D A G my_W_findBuses cd_W_findBuses 5 none (df + 1) 0 0 [.ref (b + 1)] (CH A b z r (RH S q h)) n (fun v h' n' => v = none ∧ h' = CH A b (ur z 31 (rN (itP ot 11) (z 31))) r (RH S q h) ∧ n' = n) (fun _ _ _ => False) := by
  refine Ct.of (by decide) hl (Nat.le_of_ble_eq_true rfl) ?_
  intro p e s m args below meth c C hr hnm ht dp
  have passes : ∀ ps, ps ≤ 11 → Rw p l e (cR (df + 1) 0 0) s m args below meth c (CQ D G n (fun v h' n' => v = none ∧ h' = CH A b (ur z 31 (rN (itP ot 11) (z 31))) r (RH S q h) ∧ n' = n) (fun _ _ _ => False) below args s 0 0) D G 5 0 0 (CH A b (ur z 31 (rN (itP ot ps) (z 31))) r (RH S q h)) n [(0, .ref (b + 1)), (1, .int (nI (ps + 1)))] 23 [] := by
    refine r_loop 11 _ ?_ ?_
    ·
      refine r_iload_n C dc_W_findBuses_23 rfl rfl ?_
      refine r_bipush (v := nI 12) C dc_W_findBuses_24 (by decide) ?_
      refine r_icmp_geN (tgt := 95) C dc_W_findBuses_26 (by decide) (by omega) (by omega) (fun c26 => ?_) (fun c26 => ?_)
      · exact r_vret C dp hr dc_W_findBuses_95 (Nat.le_refl _) ⟨rfl, rfl, rfl⟩
      · exact absurd c26 (by omega)
    ·
      intro ps hps ihp
      have lk : ∀ k, k ≤ 36 → Rw p l e (cR (df + 1) 0 0) s m args below meth c (CQ D G n (fun v h' n' => v = none ∧ h' = CH A b (ur z 31 (rN (itP ot 11) (z 31))) r (RH S q h) ∧ n' = n) (fun _ _ _ => False) below args s 0 0) D G 5 0 0 (CH A b (ur z 31 (rN (gP ot (itP ot ps) k) (z 31))) r (RH S q h)) n [(0, .ref (b + 1)), (1, .int (nI (ps + 1))), (2, .int (nI k))] 31 [] := by
        refine r_loop 36 _ ?_ ?_
        ·
          refine r_iload_n C dc_W_findBuses_31 rfl rfl ?_
          refine r_bipush (v := nI 36) C dc_W_findBuses_32 (by decide) ?_
          refine r_icmp_geN (tgt := 89) C dc_W_findBuses_34 (by decide) (by omega) (by omega) (fun c34 => ?_) (fun c34 => ?_)
          ·
            refine rw_hh (h' := CH A b (ur z 31 (rN (itP ot (ps + 1)) (z 31))) r (RH S q h)) (rfl) ?_
            first | refine r_iincN C dc_W_findBuses_89 rfl (by decide) (nw_of rfl) ?_ | refine r_iinc C dc_W_findBuses_89 rfl rfl (by decide) (nw_of rfl) ?_
            refine r_goto (tgt := 23) C dc_W_findBuses_92 (by decide) ?_
            refine r_weak ?_ (ihp)
            exact wl_c (rfl) (wl_c (rfl) (wl_n))
          · exact absurd c34 (by omega)
        ·
          intro k hk ih
          refine r_iload_n C dc_W_findBuses_31 rfl rfl ?_
          refine r_bipush (v := nI 36) C dc_W_findBuses_32 (by decide) ?_
          refine r_icmp_geN (tgt := 89) C dc_W_findBuses_34 (by decide) (by omega) (by omega) (fun c34 => ?_) (fun c34 => ?_)
          · exact absurd c34 (by omega)
          ·
            have hg := gP_12 (ot := ot) (g := itP ot ps) (fun j hj => itP_12 ps j hj) k
            have hst : gP ot (itP ot ps) (k + 1) = gS ot (gP ot (itP ot ps) k) k := rfl
            first | refine r_aload_n C dc_W_findBuses_37 rfl rfl ?_ | refine r_aload_nq C dc_W_findBuses_37 rfl rfl ?_
            refine r_get C dc_W_findBuses_38 fl_W_9 ch_W rfl ?_
            refine r_iload_n C dc_W_findBuses_41 rfl rfl ?_
            refine r_ialdN C dc_W_findBuses_42 ch_far (by omega) (by decide) ?_
            refine sb_at (P := fun v => Rw _ _ _ _ _ _ _ _ _ _ _ _ _ _ _ _ _ _ _ _ (.int v :: _)) (show _ = oi (ot k) from hot k hk) ?_
            cases eo : ot k with
            | none =>
              refine r_iconst (v := -1) C dc_W_findBuses_43 (by decide) ?_
              refine r_icmp_eq (tgt := 83) C dc_W_findBuses_44 (by decide) (fun c44 => ?_) (fun c44 => ?_)
              ·
                refine rw_hh (h' := CH A b (ur z 31 (rN (gP ot (itP ot ps) (k + 1)) (z 31))) r (RH S q h)) (by rw [hst, gS_none eo]) ?_
                first | refine r_iincN C dc_W_findBuses_83 rfl (by decide) (nw_of rfl) ?_ | refine r_iinc C dc_W_findBuses_83 rfl rfl (by decide) (nw_of rfl) ?_
                refine r_goto (tgt := 31) C dc_W_findBuses_86 (by decide) ?_
                refine r_weak ?_ (ih)
                exact wl_c (rfl) (wl_c (rfl) (wl_c (rfl) (wl_n)))
              · exact absurd rfl c44
            | some t =>
              have h36 := ht36 _ _ hk eo
              refine sb_at (P := fun v => Rw _ _ _ _ _ _ _ _ _ _ _ _ _ _ _ _ _ _ _ _ (.int v :: _)) (show oi (some t) = nI t from rfl) ?_
              refine r_iconst (v := -1) C dc_W_findBuses_43 (by decide) ?_
              refine r_icmp_eq (tgt := 83) C dc_W_findBuses_44 (by decide) (fun c44 => ?_) (fun c44 => ?_)
              · exact absurd c44 (nI_m1 (by omega))
              ·
                refine r_iload_n C dc_W_findBuses_47 rfl rfl ?_
                refine r_iconst (v := nI 3) C dc_W_findBuses_48 (by decide) ?_
                first | refine r_idivN C dc_W_findBuses_49 (by omega) (by decide) (by decide) ?_ | refine r_idiv C dc_W_findBuses_49 (by decide) ?_
                refine r_istore_n C dc_W_findBuses_50 rfl (by decide) (nw_of rfl) ?_
                first | refine r_aload_n C dc_W_findBuses_51 rfl rfl ?_ | refine r_aload_nq C dc_W_findBuses_51 rfl rfl ?_
                refine r_get C dc_W_findBuses_52 fl_W_9 ch_W rfl ?_
                refine r_iload_n C dc_W_findBuses_55 rfl rfl ?_
                refine r_ialdN C dc_W_findBuses_56 ch_far (by omega) (by decide) ?_
                refine sb_at (P := fun v => Rw _ _ _ _ _ _ _ _ _ _ _ _ _ _ _ _ _ _ _ _ (.int v :: _)) (show _ = nI t from (hot k hk).trans (by rw [eo]; rfl)) ?_
                refine r_iconst (v := nI 3) C dc_W_findBuses_57 (by decide) ?_
                first | refine r_idivN C dc_W_findBuses_58 (by omega) (by decide) (by decide) ?_ | refine r_idiv C dc_W_findBuses_58 (by decide) ?_
                refine r_istore C dc_W_findBuses_59 (by decide) (nw_of rfl) ?_
                first | refine r_aload_n C dc_W_findBuses_61 rfl rfl ?_ | refine r_aload_nq C dc_W_findBuses_61 rfl rfl ?_
                refine r_get C dc_W_findBuses_62 fl_W_15 ch_W rfl ?_
                refine r_iload_n C dc_W_findBuses_65 rfl rfl ?_
                first | refine r_aload_n C dc_W_findBuses_66 rfl rfl ?_ | refine r_aload_nq C dc_W_findBuses_66 rfl rfl ?_
                refine r_get C dc_W_findBuses_67 fl_W_15 ch_W rfl ?_
                refine r_iload_n C dc_W_findBuses_70 rfl rfl ?_
                refine r_ialdN C dc_W_findBuses_71 ch_bus (by omega) (by decide) ?_
                refine sb_at (P := fun v => Rw _ _ _ _ _ _ _ _ _ _ _ _ _ _ _ _ _ _ _ _ (.int v :: _)) (show _ = nI (gP ot (itP ot ps) k (k / 3)) from rN_at (by omega)) ?_
                first | refine r_aload_n C dc_W_findBuses_72 rfl rfl ?_ | refine r_aload_nq C dc_W_findBuses_72 rfl rfl ?_
                refine r_get C dc_W_findBuses_73 fl_W_15 ch_W rfl ?_
                refine r_iload C dc_W_findBuses_76 rfl ?_
                refine r_ialdN C dc_W_findBuses_78 ch_bus (by omega) (by decide) ?_
                refine sb_at (P := fun v => Rw _ _ _ _ _ _ _ _ _ _ _ _ _ _ _ _ _ _ _ _ (.int v :: _)) (show _ = nI (gP ot (itP ot ps) k (t / 3)) from rN_at (by omega)) ?_
                have q1 := hg (k / 3) (by omega)
                have q2 := hg (t / 3) (by omega)
                refine r_min C dp dc_W_findBuses_79 cw_W_35 cs_min (by omega) (by omega) (Nat.le_of_ble_eq_true rfl) ?_
                refine r_iast C dc_W_findBuses_82 ch_bus rfl (by omega) (by decide) ?_
                refine rw_hh cs_bus ?_
                refine rw_hh (h' := CH A b (ur z 31 (rN (gP ot (itP ot ps) (k + 1)) (z 31))) r (RH S q h)) (by rw [ur_ur, ur_eq, rN_upd (by omega), gS_min eo, hst]) ?_
                first | refine r_iincN C dc_W_findBuses_83 rfl (by decide) (nw_of rfl) ?_ | refine r_iinc C dc_W_findBuses_83 rfl rfl (by decide) (nw_of rfl) ?_
                refine r_goto (tgt := 31) C dc_W_findBuses_86 (by decide) ?_
                refine r_weak ?_ (ih)
                exact wl_c (rfl) (wl_c (rfl) (wl_c (rfl) (wl_n)))
      refine r_iload_n C dc_W_findBuses_23 rfl rfl ?_
      refine r_bipush (v := nI 12) C dc_W_findBuses_24 (by decide) ?_
      refine r_icmp_geN (tgt := 95) C dc_W_findBuses_26 (by decide) (by omega) (by omega) (fun c26 => ?_) (fun c26 => ?_)
      · exact absurd c26 (by omega)
      ·
        refine r_iconst (v := nI 0) C dc_W_findBuses_29 (by decide) ?_
        refine r_istore_n C dc_W_findBuses_30 rfl (by decide) (nw_of rfl) ?_
        refine r_weak ?_ (lk 0 (by omega))
        exact wl_c (rfl) (wl_c (rfl) (wl_c (rfl) (wl_n)))
  have lf : ∀ k, k ≤ 12 → Rw p l e (cR (df + 1) 0 0) s m args below meth c (CQ D G n (fun v h' n' => v = none ∧ h' = CH A b (ur z 31 (rN (itP ot 11) (z 31))) r (RH S q h) ∧ n' = n) (fun _ _ _ => False) below args s 0 0) D G 5 0 0 (CH A b (ur z 31 (fun j => if j < k then nI j else z 31 j)) r (RH S q h)) n [(0, .ref (b + 1)), (1, .int (nI k))] 2 [] := by
    refine r_loop 12 _ ?_ ?_
    ·
      refine r_iload_n C dc_W_findBuses_2 rfl rfl ?_
      refine r_bipush (v := nI 12) C dc_W_findBuses_3 (by decide) ?_
      refine r_icmp_geN (tgt := 21) C dc_W_findBuses_5 (by decide) (by omega) (by omega) (fun c5 => ?_) (fun c5 => ?_)
      ·
        refine rw_hh (h' := CH A b (ur z 31 (rN (itP ot 0) (z 31))) r (RH S q h)) (rfl) ?_
        refine r_iconst (v := nI 1) C dc_W_findBuses_21 (by decide) ?_
        refine r_istore_n C dc_W_findBuses_22 rfl (by decide) (nw_of rfl) ?_
        refine r_weak ?_ (passes 0 (by omega))
        exact wl_c (rfl) (wl_c (rfl) (wl_n))
      · exact absurd c5 (by omega)
    ·
      intro k hk ih
      refine r_iload_n C dc_W_findBuses_2 rfl rfl ?_
      refine r_bipush (v := nI 12) C dc_W_findBuses_3 (by decide) ?_
      refine r_icmp_geN (tgt := 21) C dc_W_findBuses_5 (by decide) (by omega) (by omega) (fun c5 => ?_) (fun c5 => ?_)
      · exact absurd c5 (by omega)
      ·
        first | refine r_aload_n C dc_W_findBuses_8 rfl rfl ?_ | refine r_aload_nq C dc_W_findBuses_8 rfl rfl ?_
        refine r_get C dc_W_findBuses_9 fl_W_15 ch_W rfl ?_
        refine r_iload_n C dc_W_findBuses_12 rfl rfl ?_
        refine r_iload_n C dc_W_findBuses_13 rfl rfl ?_
        refine r_iast C dc_W_findBuses_14 ch_bus rfl (by omega) (by decide) ?_
        refine rw_hh cs_bus ?_
        refine rw_hh (h' := CH A b (ur z 31 (fun j => if j < k + 1 then nI j else z 31 j)) r (RH S q h)) (by rw [ur_ur, ur_eq, rN_fill hk]) ?_
        first | refine r_iincN C dc_W_findBuses_15 rfl (by decide) (nw_of rfl) ?_ | refine r_iinc C dc_W_findBuses_15 rfl rfl (by decide) (nw_of rfl) ?_
        refine r_goto (tgt := 2) C dc_W_findBuses_18 (by decide) ?_
        refine r_weak ?_ (ih)
        exact wl_c (rfl) (wl_c (rfl) (wl_n))
  refine rw_hh (h' := CH A b (ur z 31 (fun j => if j < 0 then nI j else z 31 j)) r (RH S q h)) (by rw [show (fun j => if j < 0 then nI j else z 31 j) = z 31 from funext fun j => if_neg (by omega), ur_self]) ?_
  refine r_iconst (v := nI 0) C dc_W_findBuses_0 (by decide) ?_
  refine r_istore_n C dc_W_findBuses_1 rfl (by decide) (nw_of rfl) ?_
  refine r_weak ?_ (lf 0 (by omega))
  exact wl_c (rfl) (wl_c (rfl) (wl_n))
set_option maxRecDepth 4000 in
set_option maxHeartbeats 1000000 in
theorem k_W_join (hl : l.stackTraces = false) {i pi j pj : Nat} (hi : i < 12) (hpi : pi < 3) (hj : j < 12) (hpj : pj < 3) {ot : Nat → Option Nat} (hot : ∀ k, k < 36 → upd (upd (z 30) (3 * i + pi) (nI (3 * j + pj))) (3 * j + pj) (nI (3 * i + pi)) k = oi (ot k)) (ht36 : ∀ k t, k < 36 → ot k = some t → t < 36) : Ct l D A G my_W_join cd_W_join 5 none (df + 2) 0 0 [.ref (b + 1), .int (nI i), .int (nI pi), .int (nI j), .int (nI pj)] (CH A b z r (RH S q h)) n (fun v h' n' => v = none ∧ h' = CH A b (ur (ur (ur z 30 (upd (upd (z 30) (3 * i + pi) (nI (3 * j + pj))) (3 * j + pj) (nI (3 * i + pi)))) 32 (fun _ => z 32 0 + nI 1)) 31 (rN (itP ot 11) (z 31))) r (RH S q h) ∧ n' = n) (fun _ _ _ => False) := by
  refine Ct.of (by decide) hl (Nat.le_of_ble_eq_true rfl) ?_
  intro p e s m args below meth c C hr hnm ht dp
  first | refine r_aload_n C dc_W_join_0 rfl rfl ?_ | refine r_aload_nq C dc_W_join_0 rfl rfl ?_
  refine r_get C dc_W_join_1 fl_W_9 ch_W rfl ?_
  refine r_iload_n C dc_W_join_4 rfl rfl ?_
  refine r_iconst (v := nI 3) C dc_W_join_5 (by decide) ?_
  first | refine r_imulN C dc_W_join_6 ?_ | refine r_imul C dc_W_join_6 ?_
  refine r_iload_n C dc_W_join_7 rfl rfl ?_
  first | refine r_iaddN C dc_W_join_8 ?_ | refine r_iadd C dc_W_join_8 ?_
  refine r_iload_n C dc_W_join_9 rfl rfl ?_
  refine r_iconst (v := nI 3) C dc_W_join_10 (by decide) ?_
  first | refine r_imulN C dc_W_join_11 ?_ | refine r_imul C dc_W_join_11 ?_
  refine r_iload C dc_W_join_12 rfl ?_
  first | refine r_iaddN C dc_W_join_14 ?_ | refine r_iadd C dc_W_join_14 ?_
  refine r_iast C dc_W_join_15 ch_far rfl (by omega) (by decide) ?_
  refine rw_hh cs_far ?_
  refine rw_hh (h' := CH A b (ur z 30 (upd (z 30) (3 * i + pi) (nI (3 * j + pj)))) r (RH S q h)) (by rw [show i * 3 + pi = 3 * i + pi by omega, show j * 3 + pj = 3 * j + pj by omega]) ?_
  first | refine r_aload_n C dc_W_join_16 rfl rfl ?_ | refine r_aload_nq C dc_W_join_16 rfl rfl ?_
  refine r_get C dc_W_join_17 fl_W_9 ch_W rfl ?_
  refine r_iload_n C dc_W_join_20 rfl rfl ?_
  refine r_iconst (v := nI 3) C dc_W_join_21 (by decide) ?_
  first | refine r_imulN C dc_W_join_22 ?_ | refine r_imul C dc_W_join_22 ?_
  refine r_iload C dc_W_join_23 rfl ?_
  first | refine r_iaddN C dc_W_join_25 ?_ | refine r_iadd C dc_W_join_25 ?_
  refine r_iload_n C dc_W_join_26 rfl rfl ?_
  refine r_iconst (v := nI 3) C dc_W_join_27 (by decide) ?_
  first | refine r_imulN C dc_W_join_28 ?_ | refine r_imul C dc_W_join_28 ?_
  refine r_iload_n C dc_W_join_29 rfl rfl ?_
  first | refine r_iaddN C dc_W_join_30 ?_ | refine r_iadd C dc_W_join_30 ?_
  refine r_iast C dc_W_join_31 ch_far rfl (by omega) (by decide) ?_
  refine rw_hh cs_far ?_
  refine rw_hh (h' := CH A b (ur z 30 (upd (upd (z 30) (3 * i + pi) (nI (3 * j + pj))) (3 * j + pj) (nI (3 * i + pi)))) r (RH S q h)) (by rw [ur_ur, ur_eq, show i * 3 + pi = 3 * i + pi by omega, show j * 3 + pj = 3 * j + pj by omega]) ?_
  first | refine r_aload_n C dc_W_join_32 rfl rfl ?_ | refine r_aload_nq C dc_W_join_32 rfl rfl ?_
  refine r_dup C dc_W_join_33 rfl ?_
  refine r_get C dc_W_join_34 fl_W_27 ch_W rfl ?_
  refine r_iconst (v := nI 1) C dc_W_join_37 (by decide) ?_
  first | refine r_iaddN C dc_W_join_38 ?_ | refine r_iadd C dc_W_join_38 ?_
  refine r_put C dc_W_join_39 fl_W_27 ch_W rfl rfl (Nat.le_of_ble_eq_true rfl) ?_
  refine rw_hh cs_cab ?_
  first | refine r_aload_n C dc_W_join_42 rfl rfl ?_ | refine r_aload_nq C dc_W_join_42 rfl rfl ?_
  refine r_callV C dp dc_W_join_43 cw_W_24 cm_W_findBuses cv_W_findBuses rfl (ch_W) (k_W_findBuses (df := df) (z := ur (ur z 30 (upd (upd (z 30) (3 * i + pi) (nI (3 * j + pj))) (3 * j + pj) (nI (3 * i + pi)))) 32 (fun _ => z 32 0 + nI 1)) (ot := ot) hl (by exact hot) ht36) (by omega) rfl rfl (Nat.le_of_ble_eq_true rfl) (fun v43 h43 n43 q43 z43 => ?_) (fun _ _ _ _ z => z.elim)
  obtain ⟨y43, y43h, y43n⟩ := z43
  rw [y43, y43h, y43n]
  exact r_vret C dp hr dc_W_join_46 (Nat.le_refl _) ⟨rfl, rfl, rfl⟩
set_option maxRecDepth 4000 in
set_option maxHeartbeats 1000000 in
theorem k_W_part (hl : l.stackTraces = false) {i pi t : Nat} (hi : i < 12) (hpi : pi < 3) (hzt : z 30 (3 * i + pi) = nI t) (h36 : t < 36) {ot : Nat → Option Nat} (hot : ∀ k, k < 36 → upd (upd (z 30) (3 * i + pi) (-1)) t (-1) k = oi (ot k)) (ht36 : ∀ k t, k < 36 → ot k = some t → t < 36) : Ct l D A G my_W_part cd_W_part 5 none (df + 2) 0 0 [.ref (b + 1), .int (nI i), .int (nI pi)] (CH A b z r (RH S q h)) n (fun v h' n' => v = none ∧ h' = CH A b (ur (ur (ur z 30 (upd (upd (z 30) (3 * i + pi) (-1)) t (-1))) 32 (fun _ => z 32 0 - nI 1)) 31 (rN (itP ot 11) (z 31))) r (RH S q h) ∧ n' = n) (fun _ _ _ => False) := by
  refine Ct.of (by decide) hl (Nat.le_of_ble_eq_true rfl) ?_
  intro p e s m args below meth c C hr hnm ht dp
  refine r_iload_n C dc_W_part_0 rfl rfl ?_
  refine r_iconst (v := nI 3) C dc_W_part_1 (by decide) ?_
  first | refine r_imulN C dc_W_part_2 ?_ | refine r_imul C dc_W_part_2 ?_
  refine r_iload_n C dc_W_part_3 rfl rfl ?_
  first | refine r_iaddN C dc_W_part_4 ?_ | refine r_iadd C dc_W_part_4 ?_
  refine r_istore_n C dc_W_part_5 rfl (by decide) (nw_of rfl) ?_
  first | refine r_aload_n C dc_W_part_6 rfl rfl ?_ | refine r_aload_nq C dc_W_part_6 rfl rfl ?_
  refine r_get C dc_W_part_7 fl_W_9 ch_W rfl ?_
  refine r_iload_n C dc_W_part_10 rfl rfl ?_
  refine r_ialdN C dc_W_part_11 ch_far (by omega) (by decide) ?_
  refine sb_at (P := fun v => Rw _ _ _ _ _ _ _ _ _ _ _ _ _ _ _ _ _ _ _ _ (.int v :: _)) (show _ = nI t from (by rw [show i * 3 + pi = 3 * i + pi by omega]; exact hzt)) ?_
  refine r_istore C dc_W_part_12 (by decide) (nw_of rfl) ?_
  refine r_iload C dc_W_part_14 rfl ?_
  refine r_iconst (v := -1) C dc_W_part_16 (by decide) ?_
  refine r_icmp_ne (tgt := 21) C dc_W_part_17 (by decide) (fun c17 => ?_) (fun c17 => ?_)
  ·
    first | refine r_aload_n C dc_W_part_21 rfl rfl ?_ | refine r_aload_nq C dc_W_part_21 rfl rfl ?_
    refine r_get C dc_W_part_22 fl_W_9 ch_W rfl ?_
    refine r_iload_n C dc_W_part_25 rfl rfl ?_
    refine r_iconst (v := -1) C dc_W_part_26 (by decide) ?_
    refine r_iast C dc_W_part_27 ch_far rfl (by omega) (by decide) ?_
    refine rw_hh cs_far ?_
    refine rw_hh (h' := CH A b (ur z 30 (upd (z 30) (3 * i + pi) (-1))) r (RH S q h)) (by rw [show i * 3 + pi = 3 * i + pi by omega]) ?_
    first | refine r_aload_n C dc_W_part_28 rfl rfl ?_ | refine r_aload_nq C dc_W_part_28 rfl rfl ?_
    refine r_get C dc_W_part_29 fl_W_9 ch_W rfl ?_
    refine r_iload C dc_W_part_32 rfl ?_
    refine r_iconst (v := -1) C dc_W_part_34 (by decide) ?_
    refine r_iast C dc_W_part_35 ch_far rfl (by omega) (by decide) ?_
    refine rw_hh cs_far ?_
    refine rw_hh (h' := CH A b (ur z 30 (upd (upd (z 30) (3 * i + pi) (-1)) t (-1))) r (RH S q h)) (by rw [ur_ur, ur_eq]) ?_
    first | refine r_aload_n C dc_W_part_36 rfl rfl ?_ | refine r_aload_nq C dc_W_part_36 rfl rfl ?_
    refine r_dup C dc_W_part_37 rfl ?_
    refine r_get C dc_W_part_38 fl_W_27 ch_W rfl ?_
    refine r_iconst (v := nI 1) C dc_W_part_41 (by decide) ?_
    refine r_isub C dc_W_part_42 ?_
    refine r_put C dc_W_part_43 fl_W_27 ch_W rfl rfl (Nat.le_of_ble_eq_true rfl) ?_
    refine rw_hh cs_cab ?_
    first | refine r_aload_n C dc_W_part_46 rfl rfl ?_ | refine r_aload_nq C dc_W_part_46 rfl rfl ?_
    refine r_callV C dp dc_W_part_47 cw_W_24 cm_W_findBuses cv_W_findBuses rfl (ch_W) (k_W_findBuses (df := df) (z := ur (ur z 30 (upd (upd (z 30) (3 * i + pi) (-1)) t (-1))) 32 (fun _ => z 32 0 - nI 1)) (ot := ot) hl (by exact hot) ht36) (by omega) rfl rfl (Nat.le_of_ble_eq_true rfl) (fun v47 h47 n47 q47 z47 => ?_) (fun _ _ _ _ z => z.elim)
    obtain ⟨y47, y47h, y47n⟩ := z47
    rw [y47, y47h, y47n]
    exact r_vret C dp hr dc_W_part_50 (Nat.le_refl _) ⟨rfl, rfl, rfl⟩
  · exact absurd c17 (nI_m1 (by omega))
end Cls4
