def sdr (b : Nat) (o : Option Nat) : Option Nat := match o with
  | none => none
  | some j => some (b + 8 + 5 * j)
theorem cSm_1 {z : Nat → Nat → Int32} {b0 k : Nat} (h : z 31 k = nI b0 ∧ ¬ z 17 k = 0) : cSm z b0 (k + 1) = true := by
  show (anyT _ k || decide (z 31 k = nI b0 ∧ ¬ z 17 k = 0)) = true
  rw [decide_eq_true h, Bool.or_true]
theorem cSm_0 {z : Nat → Nat → Int32} {b0 k : Nat} (h : ¬ (z 31 k = nI b0 ∧ ¬ z 17 k = 0)) : cSm z b0 (k + 1) = cSm z b0 k := by
  show (anyT _ k || decide (z 31 k = nI b0 ∧ ¬ z 17 k = 0)) = _
  rw [decide_eq_false h, Bool.or_false]; rfl
theorem lc_S2 : Cond.constantLong rn_S 292 100 ∈ tbl := by decide +kernel
theorem cln_s {z : Nat → Nat → Int32} {v : Int32} {k : Nat} (h : z 31 k = v) : stZ (cCln z (cBz z v k)) k = cCln z (cBz z v (k + 1)) := by
  have ck : cBz z v k k = false := by unfold cBz; rw [decide_eq_false (by omega), Bool.false_and]
  have ck1 : cBz z v (k + 1) k = true := by unfold cBz; rw [decide_eq_true (by omega), decide_eq_true h]; rfl
  have cm : ∀ m, m ≠ k → cBz z v (k + 1) m = cBz z v k m := by
    intro m hm
    unfold cBz
    by_cases e2 : m < k
    · rw [decide_eq_true e2, decide_eq_true (show m < k + 1 by omega)]
    · rw [decide_eq_false e2, decide_eq_false (show ¬ m < k + 1 by omega)]
  funext j
  unfold stZ sR
  by_cases e11 : j = 11
  · rw [e11, ur_eq, ur_ne (by decide), ur_ne (by decide), ur_ne (by omega), ur_ne (by omega), ur_ne (by decide), ur_ne (by decide)]
    exact ovz h
  rw [ur_ne e11]
  by_cases e14 : j = 14
  · rw [e14, ur_eq, ur_ne (by decide), ur_ne (by omega), ur_ne (by omega), ur_ne (by decide), ur_ne (by decide)]
    exact ovz h
  rw [ur_ne e14]
  by_cases e13 : j = 13
  · rw [e13, ur_eq, ur_ne (by omega), ur_ne (by omega), ur_ne (by decide), ur_ne (by decide)]
    exact ovz h
  rw [ur_ne e13]
  by_cases ek : j = 100 + k
  · rw [ek, ur_eq, ur_eq, ur_ne (by omega), ur_ne (by omega)]
    unfold cCln
    rw [if_pos (by omega), if_pos (by omega), show 100 + k - 100 = k by omega, ck, ck1]
    funext w
    unfold upd ov
    dsimp only [cond_true, cond_false]
    by_cases w7 : w = 7
    · rw [if_pos w7, if_neg (by omega), if_pos w7]
    · rw [if_neg w7, if_neg w7]
  rw [ur_ne ek, ur_ne ek]
  by_cases e10 : j = 10
  · rw [e10, ur_eq, ur_ne (by decide)]
    exact ovz h
  rw [ur_ne e10]
  by_cases e17 : j = 17
  · rw [e17, ur_eq]
    exact ovz h
  rw [ur_ne e17]
  unfold cCln
  by_cases e100 : 100 ≤ j
  · rw [if_pos e100, if_pos e100, cm (j - 100) (by omega)]
  · rw [if_neg e100, if_neg e100, if_neg (by omega), if_neg (by omega), if_neg (by omega), if_neg (by omega)]
theorem cln_n {z : Nat → Nat → Int32} {v : Int32} {k : Nat} (h : ¬ z 31 k = v) : cCln z (cBz z v (k + 1)) = cCln z (cBz z v k) := by rw [cBz_n h]
theorem cln_0 {z : Nat → Nat → Int32} {v : Int32} : cCln z (cBz z v 0) = z := by
  funext j
  unfold cCln
  have e : ∀ m, cBz z v 0 m = false := fun m => by unfold cBz; rw [decide_eq_false (by omega), Bool.false_and]
  split
  · funext w; unfold ov; rw [e]; rfl
  · split
    · exact ovz_0
    · split
      · exact ovz_0
      · rfl
theorem rEm_0 {r : Nat → Nat → Option Nat} {c : Nat → Bool} : rEm r c 0 = r := by
  funext j
  exact if_neg (fun h => by omega)
theorem rEm_s {r : Nat → Nat → Option Nat} {c : Nat → Bool} {k : Nat} (h : c k = true) : ur (rEm r c k) k (qEmp 6 (rEm r c k k)) = rEm r c (k + 1) := by
  funext j
  by_cases e : j = k
  · rw [e, ur_eq]
    unfold rEm
    rw [if_neg (fun h => by omega), if_pos ⟨by omega, h⟩]
  · rw [ur_ne e]
    unfold rEm
    by_cases e2 : j < k ∧ c j = true
    · rw [if_pos e2, if_pos ⟨by omega, e2.2⟩]
    · rw [if_neg e2, if_neg (fun q => e2 ⟨by omega, q.2⟩)]
theorem rEm_n {r : Nat → Nat → Option Nat} {c : Nat → Bool} {k : Nat} (h : c k = false) : rEm r c (k + 1) = rEm r c k := by
  funext j
  unfold rEm
  by_cases e2 : j < k ∧ c j = true
  · rw [if_pos e2, if_pos ⟨by omega, e2.2⟩]
  · rw [if_neg e2, if_neg (fun q => by
      by_cases e : j = k
      · rw [e, h] at q; cases q.2
      · exact e2 ⟨by omega, q.2⟩)]
theorem rEm_12 {r : Nat → Nat → Option Nat} {c : Nat → Bool} {k i : Nat} (hk : k ≤ 12) : rEm r c k (12 + i) = r (12 + i) := if_neg (fun h => by omega)
theorem rEm_RV {b : Nat} {r : Nat → Nat → Option Nat} {S : Nat → Bool} {c : Nat → Bool} (hv : RV b r S) (k : Nat) : RV b (rEm r c k) S := by
  refine ⟨fun j m a e => ?_, hv.2⟩
  unfold rEm at e
  split at e
  · exact qEmp_S (fun j a e => hv.1 _ _ _ e) 6 m a e
  · exact hv.1 _ _ _ e
theorem rSt_c {r r' : Nat → Nat → Option Nat} {q : Nat → Nat → Int32} {i : Nat} (h : r' (12 + i) = r (12 + i)) : ∀ k, rSt r' q i k = rSt r q i k := by
  intro k
  induction k with
  | zero => rfl
  | succ k ih =>
    show (match r' (12 + i) k with | none => rSt r' q i k | some a => rEnd (rSt r' q i k) a (nI 1)) = (match r (12 + i) k with | none => rSt r q i k | some a => rEnd (rSt r q i k) a (nI 1))
    rw [h, ih]
theorem cRoot_12 {z : Nat → Nat → Int32} {b0 : Nat} (hb : b0 < 12) : cRoot z b0 < 12 := by
  unfold cRoot
  cases e : fstF (fun k => decide (z 31 k = nI b0 ∧ z 14 k = -1)) 12 0 with
  | none => exact hb
  | some k => have := fst_lt e; show k < 12; omega
def cTB (ot : Nat → Option Nat) (c : CS) (b0 : Nat) : CS := bif cDirty c.1 (nI b0) then (cResetZ ot c.1 b0, rEm c.2.1 (cBz c.1 (nI b0) 12) 12, rBs c.2.1 c.2.2 (cBz c.1 (nI b0) 12) 12)
  else if c.1 12 b0 = 0 then
    if nI (cl (c.1 35 0) % 8) = 0 then if c.1 16 b0 = -1 then cSlot c b0 else (cCyc c.1 b0 (cl (c.1 16 b0)), c.2.1, c.2.2)
    else cSlot c b0
  else c
/-- what a tick of the bus of b0 wants of the class's state -/
def CBok (ot : Nat → Option Nat) (b : Nat) (S : Nat → Bool) (c : CS) (b0 : Nat) : Prop := (∀ k, k < 36 → c.1 30 k = oi (ot k)) ∧ PV c.1 ∧ Cok b S c ∧ (∃ ck, ck < 2 ^ 31 ∧ c.1 35 0 = nI ck) ∧ (∃ mg : Option Nat, c.1 16 b0 = oi mg ∧ ∀ k, mg = some k → k < 12) ∧ ∀ i, i < 12 → ¬ c.1 17 i = 0 → HQ c.1 c.2.1 c.2.2 i
section Cls8
variable {l : Launch} {D : va_G} {A : Nat → ClassId} {G : Heap} {b n df : Nat} {z : Nat → Nat → Int32} {r : Nat → Nat → Option Nat} {S : Nat → Bool} {q : Nat → Nat → Int32} {h : Hp}
set_option maxRecDepth 4000 in
set_option maxHeartbeats 1000000 in
theorem k_S_runSlot (hl : l.stackTraces = false) {b0 : Nat} (hv : RV b r S) (hsz12 : ∀ t, t < 12 → ∃ sz, sz ≤ 6 ∧ z 17 t = nI sz) (hq : ∀ i, i < 12 → ¬ z 17 i = 0 → HQ z r q i) : Ct l D A G my_S_runSlot cd_S_runSlot 6 none (df + 4) 0 0 [.ref b, .int (nI b0)] (CH A b z r (RH S q h)) n (fun v h' n' => v = none ∧ h' = CH A b (cSlot (z, r, q) b0).1 (cSlot (z, r, q) b0).2.1 (RH S (cSlot (z, r, q) b0).2.2 h) ∧ n' = n) (fun _ _ _ => False) := by
  refine Ct.of (by decide) hl (Nat.le_of_ble_eq_true rfl) ?_
  intro p e s m args below meth c C hr hnm ht dp
  have lp : ∀ k, k ≤ 12 → Rw p l e (cR (df + 4) 0 0) s m args below meth c (CQ D G n (fun v h' n' => v = none ∧ h' = CH A b (cSlot (z, r, q) b0).1 (cSlot (z, r, q) b0).2.1 (RH S (cSlot (z, r, q) b0).2.2 h) ∧ n' = n) (fun _ _ _ => False) below args s 0 0) D G 6 0 0 (CH A b z r (RH S q h)) n [(0, .ref b), (1, .int (nI b0)), (2, va_rf (sdr b (bstT (cElg z b0) (z 13) k))), (3, .int (zi (cSm z b0 k))), (4, .int (nI k))] 7 [] := by
    refine r_loop 12 _ ?_ ?_
    ·
      refine r_iload C dc_S_runSlot_7 rfl ?_
      refine r_bipush (v := nI 12) C dc_S_runSlot_9 (by decide) ?_
      refine r_icmp_geN (tgt := 82) C dc_S_runSlot_11 (by decide) (by omega) (by omega) (fun c11 => ?_) (fun c11 => ?_)
      ·
        cases eb : (bstT (cElg z b0) (z 13) 12) with
        | none =>
          refine r_aload_nq (r := none) C dc_S_runSlot_82 rfl rfl ?_
          refine r_ifnull (r := none) (tgt := 95) C dc_S_runSlot_83 (by decide) (fun _ => ?_) (fun _ z => by cases z)
          refine r_iload_n C dc_S_runSlot_95 rfl rfl ?_
          refine r_if_eqZ (tgt := 104) C dc_S_runSlot_96 (by decide) (fun c96 => ?_) (fun c96 => ?_)
          ·
            exact r_vret C dp hr dc_S_runSlot_104 (Nat.le_refl _) ⟨rfl, by unfold cSlot; dsimp only; rw [eb]; dsimp only; rw [c96]; rfl, rfl⟩
          ·
            first | refine r_aload_n C dc_S_runSlot_99 rfl rfl ?_ | refine r_aload_nq C dc_S_runSlot_99 rfl rfl ?_
            refine r_iload_n C dc_S_runSlot_100 rfl rfl ?_
            refine r_callV C dp dc_S_runSlot_101 cw_S_265 cm_S_takeUsedFromAll cv_S_takeUsedFromAll rfl (ch_S) (k_S_takeUsed (df := df) (b0 := b0) hl) (by omega) rfl rfl (Nat.le_of_ble_eq_true rfl) (fun v101 h101 n101 q101 z101 => ?_) (fun _ _ _ _ z => z.elim)
            obtain ⟨y101, y101h, y101n⟩ := z101
            rw [y101, y101h, y101n]
            exact r_vret C dp hr dc_S_runSlot_104 (Nat.le_refl _) ⟨rfl, by unfold cSlot; dsimp only; rw [eb]; dsimp only; rw [c96]; rfl, rfl⟩
        | some i =>
          have hi := bst_lt eb
          have hE := of_decide_eq_true (bst_E eb)
          refine r_aload_n (x := b + 8 + 5 * i) C dc_S_runSlot_82 rfl rfl ?_
          refine r_ifnull (r := some (b + 8 + 5 * i)) (tgt := 95) C dc_S_runSlot_83 (by decide) (fun z => by cases z) (fun _ _ => ?_)
          refine r_aload_n C dc_S_runSlot_86 rfl rfl ?_
          refine r_aload_n (x := b + 8 + 5 * i) C dc_S_runSlot_87 rfl rfl ?_
          refine r_iload_n C dc_S_runSlot_88 rfl rfl ?_
          refine r_callV C dp dc_S_runSlot_89 cw_S_261 cm_S_sendFirstPacket cv_S_sendFirstPacket rfl (ch_S) (k_S_sendFirst (df := df) (i := i) (b0 := b0) hl hv hi (hq i hi hE.2.1) hsz12) (by omega) rfl rfl (Nat.le_of_ble_eq_true rfl) (fun v89 h89 n89 q89 z89 => ?_) (fun _ _ _ _ z => z.elim)
          obtain ⟨y89, y89h, y89n⟩ := z89
          rw [y89, y89h, y89n]
          refine r_goto (tgt := 104) C dc_S_runSlot_92 (by decide) ?_
          exact r_vret C dp hr dc_S_runSlot_104 (Nat.le_refl _) ⟨rfl, by unfold cSlot; dsimp only; rw [eb], rfl⟩
      · exact absurd c11 (by omega)
    ·
      intro k hk ih
      refine r_iload C dc_S_runSlot_7 rfl ?_
      refine r_bipush (v := nI 12) C dc_S_runSlot_9 (by decide) ?_
      refine r_icmp_geN (tgt := 82) C dc_S_runSlot_11 (by decide) (by omega) (by omega) (fun c11 => ?_) (fun c11 => ?_)
      · exact absurd c11 (by omega)
      ·
        obtain ⟨sz, hs6, hsz⟩ := hsz12 k hk
        first | refine r_aload_n C dc_S_runSlot_14 rfl rfl ?_ | refine r_aload_nq C dc_S_runSlot_14 rfl rfl ?_
        refine r_get C dc_S_runSlot_15 fl_S_25 ch_S rfl ?_
        refine r_iload C dc_S_runSlot_18 rfl ?_
        refine r_nald C dc_S_runSlot_20 (by omega) ?_
        first | refine r_astore C dc_S_runSlot_21 (by decide) (nw_of rfl) ?_ | refine r_astoreN C dc_S_runSlot_21 (by decide) (nw_of rfl) ?_ | refine r_astoreq C dc_S_runSlot_21 (by decide) (nw_of rfl) ?_
        first | refine r_aload_n C dc_S_runSlot_23 rfl rfl ?_ | refine r_aload_nq C dc_S_runSlot_23 rfl rfl ?_
        refine r_get C dc_S_runSlot_24 fl_S_12 ch_S rfl ?_
        refine r_iload C dc_S_runSlot_27 rfl ?_
        refine r_callV C dp dc_S_runSlot_29 cw_S_168 cm_W_busOf cv_W_busOf rfl (ch_W) (k_W_busOf (df := df) (i := k) hl ch_W ch_bus hk) (by omega) rfl rfl (Nat.le_of_ble_eq_true rfl) (fun v29 h29 n29 q29 z29 => ?_) (fun _ _ _ _ z => z.elim)
        obtain ⟨y29, y29h, y29n⟩ := z29
        rw [y29, y29h, y29n]
        refine r_iload_n C dc_S_runSlot_32 rfl rfl ?_
        refine r_icmp_ne (tgt := 76) C dc_S_runSlot_33 (by decide) (fun c33 => ?_) (fun c33 => ?_)
        ·
          have e9 : (bstT (cElg z b0) (z 13) (k + 1)) = (bstT (cElg z b0) (z 13) k) := bst_0 (decide_eq_false (fun h => c33 h.1))
          have e8 : cSm z b0 (k + 1) = cSm z b0 k := cSm_0 (fun h => c33 h.1)
          first | refine r_iincN C dc_S_runSlot_76 rfl (by decide) (nw_of rfl) ?_ | refine r_iinc C dc_S_runSlot_76 rfl rfl (by decide) (nw_of rfl) ?_
          refine r_goto (tgt := 7) C dc_S_runSlot_79 (by decide) ?_
          refine r_weak ?_ (ih)
          exact wl_c (rfl) (wl_c (rfl) (wl_c (by rw [e9]; rfl) (wl_c (by rw [e8]; rfl) (wl_c (rfl) (wl_n)))))
        ·
          first | refine r_aload C dc_S_runSlot_36 rfl ?_ | refine r_aloadq C dc_S_runSlot_36 rfl ?_
          refine r_get C dc_S_runSlot_38 fl_S_98 (ch_node (by omega)) rfl ?_
          refine r_callV C dp dc_S_runSlot_41 cw_S_258 cm_Q_isEmpty cv_Q_isEmpty rfl (ch_queue hk) (k_Q_isEmpty (df := df) (k := sz) hl (by rw [ch_queue hk, hsz]) (by omega)) (by omega) rfl rfl (Nat.le_of_ble_eq_true rfl) (fun v41 h41 n41 q41 z41 => ?_) (fun _ _ _ _ z => z.elim)
          obtain ⟨y41, y41h, y41n⟩ := z41
          rw [y41, y41h, y41n]
          refine r_if_neZ (tgt := 76) C dc_S_runSlot_44 (by decide) (fun c44 => ?_) (fun c44 => ?_)
          ·
            have hz0 : z 17 k = 0 := by rw [hsz, of_decide_eq_true c44]; exact nI_0
            have e9 : (bstT (cElg z b0) (z 13) (k + 1)) = (bstT (cElg z b0) (z 13) k) := bst_0 (decide_eq_false (fun h => h.2.1 hz0))
            have e8 : cSm z b0 (k + 1) = cSm z b0 k := cSm_0 (fun h => h.2 hz0)
            first | refine r_iincN C dc_S_runSlot_76 rfl (by decide) (nw_of rfl) ?_ | refine r_iinc C dc_S_runSlot_76 rfl rfl (by decide) (nw_of rfl) ?_
            refine r_goto (tgt := 7) C dc_S_runSlot_79 (by decide) ?_
            refine r_weak ?_ (ih)
            exact wl_c (rfl) (wl_c (rfl) (wl_c (by rw [e9]; rfl) (wl_c (by rw [e8]; rfl) (wl_c (rfl) (wl_n)))))
          ·
            have hz0 : ¬ z 17 k = 0 := by rw [hsz]; exact nI_ne0 (Nat.pos_of_ne_zero (of_decide_eq_false c44)) (by omega)
            cases eb : (bstT (cElg z b0) (z 13) k) with
            | none =>
              refine r_iconst (v := nI 1) C dc_S_runSlot_47 (by decide) ?_
              refine r_istore_n C dc_S_runSlot_48 rfl (by decide) (nw_of rfl) ?_
              first | refine r_aload C dc_S_runSlot_49 rfl ?_ | refine r_aloadq C dc_S_runSlot_49 rfl ?_
              refine r_get C dc_S_runSlot_51 fl_S_196 (ch_node (by omega)) rfl ?_
              refine r_if_ne (tgt := 76) C dc_S_runSlot_54 (by decide) (fun c54 => ?_) (fun c54 => ?_)
              ·
                have e9 : (bstT (cElg z b0) (z 13) (k + 1)) = none := (bst_0 (decide_eq_false (fun h => c54 h.2.2))).trans eb
                have e8 : cSm z b0 (k + 1) = true := cSm_1 ⟨c33, hz0⟩
                first | refine r_iincN C dc_S_runSlot_76 rfl (by decide) (nw_of rfl) ?_ | refine r_iinc C dc_S_runSlot_76 rfl rfl (by decide) (nw_of rfl) ?_
                refine r_goto (tgt := 7) C dc_S_runSlot_79 (by decide) ?_
                refine r_weak ?_ (ih)
                exact wl_c (rfl) (wl_c (rfl) (wl_c (by rw [e9]; rfl) (wl_c (by rw [e8]; rfl) (wl_c (rfl) (wl_n)))))
              ·
                have eE : cElg z b0 k = true := decide_eq_true ⟨c33, hz0, c54⟩
                refine r_aload_nq (r := none) C dc_S_runSlot_57 rfl rfl ?_
                refine r_ifnull (r := none) (tgt := 73) C dc_S_runSlot_58 (by decide) (fun _ => ?_) (fun _ z => by cases z)
                have e9 : (bstT (cElg z b0) (z 13) (k + 1)) = some k := bst_1 eE eb
                have e8 : cSm z b0 (k + 1) = true := cSm_1 ⟨c33, hz0⟩
                first | refine r_aload C dc_S_runSlot_73 rfl ?_ | refine r_aloadq C dc_S_runSlot_73 rfl ?_
                first | refine r_astore_n C dc_S_runSlot_75 rfl (by decide) (nw_of rfl) ?_ | refine r_astore_nN C dc_S_runSlot_75 rfl (by decide) (nw_of rfl) ?_ | refine r_astore_nq C dc_S_runSlot_75 rfl (by decide) (nw_of rfl) ?_
                first | refine r_iincN C dc_S_runSlot_76 rfl (by decide) (nw_of rfl) ?_ | refine r_iinc C dc_S_runSlot_76 rfl rfl (by decide) (nw_of rfl) ?_
                refine r_goto (tgt := 7) C dc_S_runSlot_79 (by decide) ?_
                refine r_weak ?_ (ih)
                exact wl_c (rfl) (wl_c (rfl) (wl_c (by rw [e9]; rfl) (wl_c (by rw [e8]; rfl) (wl_c (rfl) (wl_n)))))
            | some j =>
              refine r_iconst (v := nI 1) C dc_S_runSlot_47 (by decide) ?_
              refine r_istore_n C dc_S_runSlot_48 rfl (by decide) (nw_of rfl) ?_
              first | refine r_aload C dc_S_runSlot_49 rfl ?_ | refine r_aloadq C dc_S_runSlot_49 rfl ?_
              refine r_get C dc_S_runSlot_51 fl_S_196 (ch_node (by omega)) rfl ?_
              refine r_if_ne (tgt := 76) C dc_S_runSlot_54 (by decide) (fun c54 => ?_) (fun c54 => ?_)
              ·
                have e9 : (bstT (cElg z b0) (z 13) (k + 1)) = some j := (bst_0 (decide_eq_false (fun h => c54 h.2.2))).trans eb
                have e8 : cSm z b0 (k + 1) = true := cSm_1 ⟨c33, hz0⟩
                first | refine r_iincN C dc_S_runSlot_76 rfl (by decide) (nw_of rfl) ?_ | refine r_iinc C dc_S_runSlot_76 rfl rfl (by decide) (nw_of rfl) ?_
                refine r_goto (tgt := 7) C dc_S_runSlot_79 (by decide) ?_
                refine r_weak ?_ (ih)
                exact wl_c (rfl) (wl_c (rfl) (wl_c (by rw [e9]; rfl) (wl_c (by rw [e8]; rfl) (wl_c (rfl) (wl_n)))))
              ·
                have eE : cElg z b0 k = true := decide_eq_true ⟨c33, hz0, c54⟩
                have hj : j < 12 := Nat.lt_trans (bst_lt eb) hk
                refine r_aload_n (x := b + 8 + 5 * j) C dc_S_runSlot_57 rfl rfl ?_
                refine r_ifnull (r := some (b + 8 + 5 * j)) (tgt := 73) C dc_S_runSlot_58 (by decide) (fun z => by cases z) (fun _ _ => ?_)
                first | refine r_aload C dc_S_runSlot_61 rfl ?_ | refine r_aloadq C dc_S_runSlot_61 rfl ?_
                refine r_get C dc_S_runSlot_63 fl_S_175 (ch_node (by omega)) rfl ?_
                refine r_aload_n (x := b + 8 + 5 * j) C dc_S_runSlot_66 rfl rfl ?_
                refine r_get C dc_S_runSlot_67 fl_S_175 (ch_node (by omega)) rfl ?_
                refine r_icmp_le (tgt := 76) C dc_S_runSlot_70 (by decide) (fun c70 => ?_) (fun c70 => ?_)
                ·
                  have e9 : (bstT (cElg z b0) (z 13) (k + 1)) = some j := bst_2 eE eb c70
                  have e8 : cSm z b0 (k + 1) = true := cSm_1 ⟨c33, hz0⟩
                  first | refine r_iincN C dc_S_runSlot_76 rfl (by decide) (nw_of rfl) ?_ | refine r_iinc C dc_S_runSlot_76 rfl rfl (by decide) (nw_of rfl) ?_
                  refine r_goto (tgt := 7) C dc_S_runSlot_79 (by decide) ?_
                  refine r_weak ?_ (ih)
                  exact wl_c (rfl) (wl_c (rfl) (wl_c (by rw [e9]; rfl) (wl_c (by rw [e8]; rfl) (wl_c (rfl) (wl_n)))))
                ·
                  have e9 : (bstT (cElg z b0) (z 13) (k + 1)) = some k := bst_3 eE eb c70
                  have e8 : cSm z b0 (k + 1) = true := cSm_1 ⟨c33, hz0⟩
                  first | refine r_aload C dc_S_runSlot_73 rfl ?_ | refine r_aloadq C dc_S_runSlot_73 rfl ?_
                  first | refine r_astore_n C dc_S_runSlot_75 rfl (by decide) (nw_of rfl) ?_ | refine r_astore_nN C dc_S_runSlot_75 rfl (by decide) (nw_of rfl) ?_ | refine r_astore_nq C dc_S_runSlot_75 rfl (by decide) (nw_of rfl) ?_
                  first | refine r_iincN C dc_S_runSlot_76 rfl (by decide) (nw_of rfl) ?_ | refine r_iinc C dc_S_runSlot_76 rfl rfl (by decide) (nw_of rfl) ?_
                  refine r_goto (tgt := 7) C dc_S_runSlot_79 (by decide) ?_
                  refine r_weak ?_ (ih)
                  exact wl_c (rfl) (wl_c (rfl) (wl_c (by rw [e9]; rfl) (wl_c (by rw [e8]; rfl) (wl_c (rfl) (wl_n)))))
  refine r_null C dc_S_runSlot_0 ?_
  first | refine r_astore_n C dc_S_runSlot_1 rfl (by decide) (nw_of rfl) ?_ | refine r_astore_nN C dc_S_runSlot_1 rfl (by decide) (nw_of rfl) ?_ | refine r_astore_nq C dc_S_runSlot_1 rfl (by decide) (nw_of rfl) ?_
  refine r_iconst (v := nI 0) C dc_S_runSlot_2 (by decide) ?_
  refine r_istore_n C dc_S_runSlot_3 rfl (by decide) (nw_of rfl) ?_
  refine r_iconst (v := nI 0) C dc_S_runSlot_4 (by decide) ?_
  refine r_istore C dc_S_runSlot_5 (by decide) (nw_of rfl) ?_
  refine r_weak ?_ (lp 0 (by omega))
  exact wl_c (rfl) (wl_c (rfl) (wl_c (rfl) (wl_c (rfl) (wl_c (rfl) (wl_n)))))
set_option maxRecDepth 4000 in
set_option maxHeartbeats 1000000 in
theorem k_S_runCycle (hl : l.stackTraces = false) {b0 ch : Nat} (hch : ch < 12) : Ct l D A G my_S_runCycle cd_S_runCycle 11 none (df + 2) 0 0 [.ref b, .int (nI b0), .ref (b + 8 + 5 * ch)] (CH A b z r (RH S q h)) n (fun v h' n' => v = none ∧ h' = CH A b (cCyc z b0 ch) r (RH S q h) ∧ n' = n) (fun _ _ _ => False) := by
  refine Ct.of (by decide) hl (Nat.le_of_ble_eq_true rfl) ?_
  intro p e s m args below meth c C hr hnm ht dp
  have lp : ∀ k, k ≤ 12 → Rw p l e (cR (df + 2) 0 0) s m args below meth c (CQ D G n (fun v h' n' => v = none ∧ h' = CH A b (cCyc z b0 ch) r (RH S q h) ∧ n' = n) (fun _ _ _ => False) below args s 0 0) D G 11 0 0 (CH A b ((cCy z b0 (100 - (z (100 + ch) 6).toInt64) (z (100 + ch) 7) k).2) r (RH S q h)) n [(0, .ref b), (1, .int (nI b0)), (3, .long (100 - (z (100 + ch) 6).toInt64)), (5, .int (z (100 + ch) 7)), (6, .long (cCy z b0 (100 - (z (100 + ch) 6).toInt64) (z (100 + ch) 7) k).1), (8, .int (nI k))] 28 [] := by
    refine r_loop 12 _ ?_ ?_
    ·
      refine r_iload C dc_S_runCycle_28 rfl ?_
      refine r_bipush (v := nI 12) C dc_S_runCycle_30 (by decide) ?_
      refine r_icmp_geN (tgt := 141) C dc_S_runCycle_32 (by decide) (by omega) (by omega) (fun c32 => ?_) (fun c32 => ?_)
      ·
        exact r_vret C dp hr dc_S_runCycle_141 (Nat.le_refl _) ⟨rfl, rfl, rfl⟩
      · exact absurd c32 (by omega)
    ·
      intro k hk ih
      refine r_iload C dc_S_runCycle_28 rfl ?_
      refine r_bipush (v := nI 12) C dc_S_runCycle_30 (by decide) ?_
      refine r_icmp_geN (tgt := 141) C dc_S_runCycle_32 (by decide) (by omega) (by omega) (fun c32 => ?_) (fun c32 => ?_)
      · exact absurd c32 (by omega)
      ·
        have hstep : (cCy z b0 (100 - (z (100 + ch) 6).toInt64) (z (100 + ch) 7) (k + 1)) = cCy1 (cCy z b0 (100 - (z (100 + ch) 6).toInt64) (z (100 + ch) 7) k).2 b0 (100 - (z (100 + ch) 6).toInt64) (z (100 + ch) 7) (cCy z b0 (100 - (z (100 + ch) 6).toInt64) (z (100 + ch) 7) k).1 (cWho (cCy z b0 (100 - (z (100 + ch) 6).toInt64) (z (100 + ch) 7) k).2 b0 k) := rfl
        generalize hy : (cCy z b0 (100 - (z (100 + ch) 6).toInt64) (z (100 + ch) 7) k) = ty at hstep ⊢
        obtain ⟨t1, y⟩ := ty
        show Rw p l e (cR (df + 2) 0 0) s m args below meth c (CQ D G n (fun v h' n' => v = none ∧ h' = CH A b (cCyc z b0 ch) r (RH S q h) ∧ n' = n) (fun _ _ _ => False) below args s 0 0) D G 11 0 0 (CH A b y r (RH S q h)) n [(0, .ref b), (1, .int (nI b0)), (3, .long (100 - (z (100 + ch) 6).toInt64)), (5, .int (z (100 + ch) 7)), (6, .long t1), (8, .int (nI k))] 35 []
        first | refine r_aload_n C dc_S_runCycle_35 rfl rfl ?_ | refine r_aload_nq C dc_S_runCycle_35 rfl rfl ?_
        refine r_iload_n C dc_S_runCycle_36 rfl rfl ?_
        refine r_iload C dc_S_runCycle_37 rfl ?_
        refine r_callV C dp dc_S_runCycle_39 cw_S_294 cm_S_nodeWithNumber cv_S_nodeWithNumber rfl (ch_S) (k_S_who (df := df) (z := y) (b0 := b0) (nu := k) hl) (by omega) rfl rfl (Nat.le_of_ble_eq_true rfl) (fun v39 h39 n39 q39 z39 => ?_) (fun _ _ _ _ z => z.elim)
        obtain ⟨y39, y39h, y39n⟩ := z39
        rw [y39, y39h, y39n]
        cases eb : cWho y b0 k with
        | none =>
          refine r_istore C dc_S_runCycle_42 (by decide) (nw_of rfl) ?_
          refine r_iload C dc_S_runCycle_44 rfl ?_
          refine r_iconst (v := -1) C dc_S_runCycle_46 (by decide) ?_
          refine r_icmp_eq (tgt := 135) C dc_S_runCycle_47 (by decide) (fun c47 => ?_) (fun c47 => ?_)
          ·
            have e9 : (cCy z b0 (100 - (z (100 + ch) 6).toInt64) (z (100 + ch) 7) (k + 1)) = (t1, y) := by rw [hstep]; dsimp only; rw [eb]; rfl
            refine rw_hh (h' := CH A b ((cCy z b0 (100 - (z (100 + ch) 6).toInt64) (z (100 + ch) 7) (k + 1)).2) r (RH S q h)) (by rw [e9]) ?_
            first | refine r_iincN C dc_S_runCycle_135 rfl (by decide) (nw_of rfl) ?_ | refine r_iinc C dc_S_runCycle_135 rfl rfl (by decide) (nw_of rfl) ?_
            refine r_goto (tgt := 28) C dc_S_runCycle_138 (by decide) ?_
            refine r_weak ?_ (ih)
            exact wl_c (rfl) (wl_c (rfl) (wl_c (rfl) (wl_c (rfl) (wl_c (by rw [e9]; rfl) (wl_c (rfl) (wl_n))))))
          · exact absurd rfl c47
        | some a =>
          have ha : a < 12 := by have := fst_lt eb; omega
          refine sb_at (P := fun v => Rw _ _ _ _ _ _ _ _ _ _ _ _ _ _ _ _ _ _ _ _ (.int v :: _)) (show oi (some a) = nI a from rfl) ?_
          refine r_istore C dc_S_runCycle_42 (by decide) (nw_of rfl) ?_
          refine r_iload C dc_S_runCycle_44 rfl ?_
          refine r_iconst (v := -1) C dc_S_runCycle_46 (by decide) ?_
          refine r_icmp_eq (tgt := 135) C dc_S_runCycle_47 (by decide) (fun c47 => ?_) (fun c47 => ?_)
          · exact absurd c47 (nI_m1 (by omega))
          ·
            have hst2 : (cCy z b0 (100 - (z (100 + ch) 6).toInt64) (z (100 + ch) 7) (k + 1)) = cCy1 y b0 (100 - (z (100 + ch) 6).toInt64) (z (100 + ch) 7) t1 (some a) := by rw [hstep]; dsimp only; rw [eb]
            first | refine r_aload_n C dc_S_runCycle_50 rfl rfl ?_ | refine r_aload_nq C dc_S_runCycle_50 rfl rfl ?_
            refine r_get C dc_S_runCycle_51 fl_S_25 ch_S rfl ?_
            refine r_iload C dc_S_runCycle_54 rfl ?_
            refine r_nald C dc_S_runCycle_56 (by omega) ?_
            refine r_get C dc_S_runCycle_57 fl_S_136 (ch_node (by omega)) rfl ?_
            refine r_if_le (tgt := 135) C dc_S_runCycle_60 (by decide) (fun c60 => ?_) (fun c60 => ?_)
            ·
              have e9 : (cCy z b0 (100 - (z (100 + ch) 6).toInt64) (z (100 + ch) 7) (k + 1)) = (t1, y) := hst2.trans (if_pos c60)
              refine rw_hh (h' := CH A b ((cCy z b0 (100 - (z (100 + ch) 6).toInt64) (z (100 + ch) 7) (k + 1)).2) r (RH S q h)) (by rw [e9]) ?_
              first | refine r_iincN C dc_S_runCycle_135 rfl (by decide) (nw_of rfl) ?_ | refine r_iinc C dc_S_runCycle_135 rfl rfl (by decide) (nw_of rfl) ?_
              refine r_goto (tgt := 28) C dc_S_runCycle_138 (by decide) ?_
              refine r_weak ?_ (ih)
              exact wl_c (rfl) (wl_c (rfl) (wl_c (rfl) (wl_c (rfl) (wl_c (by rw [e9]; rfl) (wl_c (rfl) (wl_n))))))
            ·
              refine r_iload C dc_S_runCycle_63 rfl ?_
              first | refine r_aload_n C dc_S_runCycle_65 rfl rfl ?_ | refine r_aload_nq C dc_S_runCycle_65 rfl rfl ?_
              refine r_get C dc_S_runCycle_66 fl_S_25 ch_S rfl ?_
              refine r_iload C dc_S_runCycle_69 rfl ?_
              refine r_nald C dc_S_runCycle_71 (by omega) ?_
              refine r_get C dc_S_runCycle_72 fl_S_133 (ch_node (by omega)) rfl ?_
              refine r_ishr C dc_S_runCycle_75 ?_
              refine r_iconst (v := nI 1) C dc_S_runCycle_76 (by decide) ?_
              refine r_iand C dc_S_runCycle_77 ?_
              refine r_if_ne (tgt := 85) C dc_S_runCycle_78 (by decide) (fun c78 => ?_) (fun c78 => ?_)
              ·
                refine r_iconst (v := nI 0) C dc_S_runCycle_85 (by decide) ?_
                refine r_istore C dc_S_runCycle_86 (by decide) (nw_of rfl) ?_
                refine r_iload C dc_S_runCycle_88 rfl ?_
                refine r_if_eq (tgt := 135) C dc_S_runCycle_90 (by decide) (fun c90 => ?_) (fun c90 => ?_)
                ·
                  have e9 : (cCy z b0 (100 - (z (100 + ch) 6).toInt64) (z (100 + ch) 7) (k + 1)) = (t1, y) := hst2.trans ((if_neg c60).trans (if_neg c78))
                  refine rw_hh (h' := CH A b ((cCy z b0 (100 - (z (100 + ch) 6).toInt64) (z (100 + ch) 7) (k + 1)).2) r (RH S q h)) (by rw [e9]) ?_
                  first | refine r_iincN C dc_S_runCycle_135 rfl (by decide) (nw_of rfl) ?_ | refine r_iinc C dc_S_runCycle_135 rfl rfl (by decide) (nw_of rfl) ?_
                  refine r_goto (tgt := 28) C dc_S_runCycle_138 (by decide) ?_
                  refine r_weak ?_ (ih)
                  exact wl_c (rfl) (wl_c (rfl) (wl_c (rfl) (wl_c (rfl) (wl_c (by rw [e9]; rfl) (wl_c (rfl) (wl_n))))))
                · exact absurd rfl c90
              ·
                refine r_iconst (v := nI 1) C dc_S_runCycle_81 (by decide) ?_
                refine r_goto (tgt := 86) C dc_S_runCycle_82 (by decide) ?_
                refine r_istore C dc_S_runCycle_86 (by decide) (nw_of rfl) ?_
                refine r_iload C dc_S_runCycle_88 rfl ?_
                refine r_if_eq (tgt := 135) C dc_S_runCycle_90 (by decide) (fun c90 => ?_) (fun c90 => ?_)
                · exact absurd c90 (by decide)
                ·
                  refine r_lload C dc_S_runCycle_93 rfl ?_
                  first | refine r_aload_n C dc_S_runCycle_95 rfl rfl ?_ | refine r_aload_nq C dc_S_runCycle_95 rfl rfl ?_
                  refine r_get C dc_S_runCycle_96 fl_S_25 ch_S rfl ?_
                  refine r_iload C dc_S_runCycle_99 rfl ?_
                  refine r_nald C dc_S_runCycle_101 (by omega) ?_
                  refine r_get C dc_S_runCycle_102 fl_S_136 (ch_node (by omega)) rfl ?_
                  refine r_i2l C dc_S_runCycle_105 rfl ?_
                  refine r_ladd C dc_S_runCycle_106 ?_
                  refine r_lload_n C dc_S_runCycle_107 rfl rfl ?_
                  refine r_lcmp C dc_S_runCycle_108 ?_
                  refine r_if_gt (tgt := 135) C dc_S_runCycle_109 (by decide) (fun c109 => ?_) (fun c109 => ?_)
                  ·
                    have e9 : (cCy z b0 (100 - (z (100 + ch) 6).toInt64) (z (100 + ch) 7) (k + 1)) = (t1, y) := hst2.trans ((if_neg c60).trans ((if_pos c78).trans (if_neg (fun z => absurd (lg_le.mpr z) (Int32.not_le.mpr c109)))))
                    refine rw_hh (h' := CH A b ((cCy z b0 (100 - (z (100 + ch) 6).toInt64) (z (100 + ch) 7) (k + 1)).2) r (RH S q h)) (by rw [e9]) ?_
                    first | refine r_iincN C dc_S_runCycle_135 rfl (by decide) (nw_of rfl) ?_ | refine r_iinc C dc_S_runCycle_135 rfl rfl (by decide) (nw_of rfl) ?_
                    refine r_goto (tgt := 28) C dc_S_runCycle_138 (by decide) ?_
                    refine r_weak ?_ (ih)
                    exact wl_c (rfl) (wl_c (rfl) (wl_c (rfl) (wl_c (rfl) (wl_c (by rw [e9]; rfl) (wl_c (rfl) (wl_n))))))
                  ·
                    refine r_lload C dc_S_runCycle_112 rfl ?_
                    first | refine r_aload_n C dc_S_runCycle_114 rfl rfl ?_ | refine r_aload_nq C dc_S_runCycle_114 rfl rfl ?_
                    refine r_get C dc_S_runCycle_115 fl_S_25 ch_S rfl ?_
                    refine r_iload C dc_S_runCycle_118 rfl ?_
                    refine r_nald C dc_S_runCycle_120 (by omega) ?_
                    refine r_get C dc_S_runCycle_121 fl_S_136 (ch_node (by omega)) rfl ?_
                    refine r_i2l C dc_S_runCycle_124 rfl ?_
                    refine r_ladd C dc_S_runCycle_125 ?_
                    refine r_lstore C dc_S_runCycle_126 (by decide) ?_
                    first | refine r_aload_n C dc_S_runCycle_128 rfl rfl ?_ | refine r_aload_nq C dc_S_runCycle_128 rfl rfl ?_
                    refine r_iload_n C dc_S_runCycle_129 rfl rfl ?_
                    refine r_iload C dc_S_runCycle_130 rfl ?_
                    refine r_callV C dp dc_S_runCycle_132 cw_S_297 cm_S_letOthersHear cv_S_letOthersHear rfl (ch_S) (k_S_hear (df := df) (z := y) (b0 := b0) (a := a) hl ha) (by omega) rfl rfl (Nat.le_of_ble_eq_true rfl) (fun v132 h132 n132 q132 z132 => ?_) (fun _ _ _ _ z => z.elim)
                    obtain ⟨y132, y132h, y132n⟩ := z132
                    rw [y132, y132h, y132n]
                    have e9 : (cCy z b0 (100 - (z (100 + ch) 6).toInt64) (z (100 + ch) 7) (k + 1)) = (t1 + (y 8 a).toInt64, cHear y b0 a) := hst2.trans ((if_neg c60).trans ((if_pos c78).trans (if_pos (lg_le.mp (Int32.not_lt.mp c109)))))
                    refine rw_hh (h' := CH A b ((cCy z b0 (100 - (z (100 + ch) 6).toInt64) (z (100 + ch) 7) (k + 1)).2) r (RH S q h)) (by rw [e9]) ?_
                    first | refine r_iincN C dc_S_runCycle_135 rfl (by decide) (nw_of rfl) ?_ | refine r_iinc C dc_S_runCycle_135 rfl rfl (by decide) (nw_of rfl) ?_
                    refine r_goto (tgt := 28) C dc_S_runCycle_138 (by decide) ?_
                    refine r_weak ?_ (ih)
                    exact wl_c (rfl) (wl_c (rfl) (wl_c (rfl) (wl_c (rfl) (wl_c (by rw [e9]; rfl) (wl_c (rfl) (wl_n))))))
  refine r_ldc2 (v := 100) C dc_S_runCycle_0 lc_S2 ?_
  first | refine r_aload_n C dc_S_runCycle_3 rfl rfl ?_ | refine r_aload_nq C dc_S_runCycle_3 rfl rfl ?_
  refine r_get C dc_S_runCycle_4 fl_S_201 (ch_node (by omega)) rfl ?_
  refine r_bipush (v := nI 6) C dc_S_runCycle_7 (by decide) ?_
  refine r_ialdN C dc_S_runCycle_9 (ch_words (by omega)) (by omega) (by decide) ?_
  refine r_i2l C dc_S_runCycle_10 rfl ?_
  refine r_lsub C dc_S_runCycle_11 ?_
  refine r_lstore_n C dc_S_runCycle_12 rfl (by decide) ?_
  first | refine r_aload_n C dc_S_runCycle_13 rfl rfl ?_ | refine r_aload_nq C dc_S_runCycle_13 rfl rfl ?_
  refine r_get C dc_S_runCycle_14 fl_S_201 (ch_node (by omega)) rfl ?_
  refine r_bipush (v := nI 7) C dc_S_runCycle_17 (by decide) ?_
  refine r_ialdN C dc_S_runCycle_19 (ch_words (by omega)) (by omega) (by decide) ?_
  refine r_istore C dc_S_runCycle_20 (by decide) (nw_of rfl) ?_
  refine r_lconst (v := 0) C dc_S_runCycle_22 (by decide) ?_
  refine r_lstore C dc_S_runCycle_23 (by decide) ?_
  refine r_iconst (v := nI 0) C dc_S_runCycle_25 (by decide) ?_
  refine r_istore C dc_S_runCycle_26 (by decide) (nw_of rfl) ?_
  refine r_weak ?_ (lp 0 (by omega))
  exact wl_c (rfl) (wl_c (rfl) (wl_c (rfl) (wl_c (rfl) (wl_c (rfl) (wl_c (rfl) (wl_n))))))
set_option maxRecDepth 4000 in
set_option maxHeartbeats 1000000 in
theorem k_S_resetBus (hl : l.stackTraces = false) {b0 : Nat} (hb : b0 < 12) {ot : Nat → Option Nat} (hot : ∀ k, k < 36 → z 30 k = oi (ot k)) (ht36 : ∀ k t, k < 36 → ot k = some t → t < 36) (hne0 : ∀ k t, k < 36 → ot k = some t → k / 3 ≠ t / 3) (hpv : PV z) (hv : RV b r S) : Ct l D A G my_S_resetBus cd_S_resetBus 3 none (df + 15) 0 0 [.ref b, .int (nI b0)] (CH A b z r (RH S q h)) n (fun v h' n' => v = none ∧ h' = CH A b (cResetZ ot z b0) (rEm r (cBz z (nI b0) 12) 12) (RH S (rBs r q (cBz z (nI b0) 12) 12) h) ∧ n' = n) (fun _ _ _ => False) := by
  refine Ct.of (by decide) hl (Nat.le_of_ble_eq_true rfl) ?_
  intro p e s m args below meth c C hr hnm ht dp
  have lp : ∀ k, k ≤ 12 → Rw p l e (cR (df + 15) 0 0) s m args below meth c (CQ D G n (fun v h' n' => v = none ∧ h' = CH A b (cResetZ ot z b0) (rEm r (cBz z (nI b0) 12) 12) (RH S (rBs r q (cBz z (nI b0) 12) 12) h) ∧ n' = n) (fun _ _ _ => False) below args s 0 0) D G 3 0 0 (CH A b (cCln z (cBz z (nI b0) k)) (rEm r (cBz z (nI b0) 12) k) (RH S (rBs r q (cBz z (nI b0) 12) k) h)) n [(0, .ref b), (1, .int (nI b0)), (2, .int (nI k))] 2 [] := by
    refine r_loop 12 _ ?_ ?_
    ·
      refine r_iload_n C dc_S_resetBus_2 rfl rfl ?_
      refine r_bipush (v := nI 12) C dc_S_resetBus_3 (by decide) ?_
      refine r_icmp_geN (tgt := 35) C dc_S_resetBus_5 (by decide) (by omega) (by omega) (fun c5 => ?_) (fun c5 => ?_)
      ·
        have h30 : (cRst ot z b0) 30 = z 30 := cRs_ne (by decide) (by decide) (by decide) (by decide) _
        first | refine r_aload_n C dc_S_resetBus_35 rfl rfl ?_ | refine r_aload_nq C dc_S_resetBus_35 rfl rfl ?_
        refine r_get C dc_S_resetBus_36 fl_S_19 ch_S rfl ?_
        first | refine r_aload_n C dc_S_resetBus_39 rfl rfl ?_ | refine r_aload_nq C dc_S_resetBus_39 rfl rfl ?_
        refine r_get C dc_S_resetBus_40 fl_S_12 ch_S rfl ?_
        first | refine r_aload_n C dc_S_resetBus_43 rfl rfl ?_ | refine r_aload_nq C dc_S_resetBus_43 rfl rfl ?_
        refine r_get C dc_S_resetBus_44 fl_S_25 ch_S rfl ?_
        refine r_iload_n C dc_S_resetBus_47 rfl rfl ?_
        refine r_callV C dp dc_S_resetBus_48 cw_S_250 cm_T_findParents cv_T_findParents rfl (ch_T) (k_T_findParents (df := df) (ot := ot) (v0 := nI b0) (z := cCln z (cBz z (nI b0) 12)) hl hot ht36 hne0 (show PV (cCln z (cBz z (nI b0) 12)) from hpv)) (by omega) rfl rfl (Nat.le_of_ble_eq_true rfl) (fun v48 h48 n48 q48 z48 => ?_) (fun _ _ _ _ z => z.elim)
        obtain ⟨y48, y48h, y48n⟩ := z48
        rw [y48, y48h, y48n]
        refine rw_hh (h' := CH A b (cRst ot z b0) (rEm r (cBz z (nI b0) 12) 12) (RH S (rBs r q (cBz z (nI b0) 12) 12) h)) (rfl) ?_
        refine sb_at (P := fun v => Rw _ _ _ _ _ _ _ _ _ _ _ _ _ _ _ _ _ _ _ _ (.int v :: _)) (show zi (!cAny _) = zi (!cAny (cRst ot z b0)) from rfl) ?_
        refine r_if_neZ (tgt := 58) C dc_S_resetBus_51 (by decide) (fun c51 => ?_) (fun c51 => ?_)
        ·
          have ea : cAny (cRst ot z b0) = false := by cases e : cAny (cRst ot z b0) with
            | true => rw [e] at c51; cases c51
            | false => rfl
          refine r_iconst (v := nI 0) C dc_S_resetBus_58 (by decide) ?_
          refine r_istore_n C dc_S_resetBus_59 rfl (by decide) (nw_of rfl) ?_
          first | refine r_aload_n C dc_S_resetBus_60 rfl rfl ?_ | refine r_aload_nq C dc_S_resetBus_60 rfl rfl ?_
          refine r_get C dc_S_resetBus_61 fl_S_19 ch_S rfl ?_
          first | refine r_aload_n C dc_S_resetBus_64 rfl rfl ?_ | refine r_aload_nq C dc_S_resetBus_64 rfl rfl ?_
          refine r_get C dc_S_resetBus_65 fl_S_12 ch_S rfl ?_
          first | refine r_aload_n C dc_S_resetBus_68 rfl rfl ?_ | refine r_aload_nq C dc_S_resetBus_68 rfl rfl ?_
          refine r_get C dc_S_resetBus_69 fl_S_25 ch_S rfl ?_
          refine r_iload_n C dc_S_resetBus_72 rfl rfl ?_
          refine r_iload_n C dc_S_resetBus_73 rfl rfl ?_
          refine r_callV C dp dc_S_resetBus_74 cw_S_254 cm_T_settle cv_T_settle rfl (ch_T) (k_T_settleT (df := df) (z := (cRst ot z b0)) (b0 := b0) (ot := ot) hl (fun j hj => (congrFun h30 j).trans (hot j hj)) ht36 (cRoot_12 hb)) (by omega) rfl rfl (Nat.le_of_ble_eq_true rfl) (fun v74 h74 n74 q74 z74 => ?_) (fun _ _ _ _ z => z.elim)
          obtain ⟨y74, y74h, y74n⟩ := z74
          rw [y74, y74h, y74n]
          refine rw_hh (h' := CH A b (cRsE ot z b0) (rEm r (cBz z (nI b0) 12) 12) (RH S (rBs r q (cBz z (nI b0) 12) 12) h)) (by unfold cRsE cEndR; rw [ea]; rfl) ?_
          generalize hce : cRsE ot z b0 = ye
          first | refine r_aload_n C dc_S_resetBus_77 rfl rfl ?_ | refine r_aload_nq C dc_S_resetBus_77 rfl rfl ?_
          refine r_dup C dc_S_resetBus_78 rfl ?_
          refine r_get C dc_S_resetBus_79 fl_S_208 ch_S rfl ?_
          refine r_iconst (v := nI 1) C dc_S_resetBus_82 (by decide) ?_
          first | refine r_iaddN C dc_S_resetBus_83 ?_ | refine r_iadd C dc_S_resetBus_83 ?_
          refine r_put C dc_S_resetBus_84 fl_S_208 ch_S rfl rfl (Nat.le_of_ble_eq_true rfl) ?_
          refine rw_hh cs_s37 ?_
          exact r_vret C dp hr dc_S_resetBus_87 (Nat.le_refl _) ⟨rfl, by unfold cResetZ; rw [hce], rfl⟩
        ·
          have ea : cAny (cRst ot z b0) = true := by cases e : cAny (cRst ot z b0) with
            | true => rfl
            | false => rw [e] at c51; cases c51
          refine r_iconst (v := nI 1) C dc_S_resetBus_54 (by decide) ?_
          refine r_goto (tgt := 59) C dc_S_resetBus_55 (by decide) ?_
          refine r_istore_n C dc_S_resetBus_59 rfl (by decide) (nw_of rfl) ?_
          first | refine r_aload_n C dc_S_resetBus_60 rfl rfl ?_ | refine r_aload_nq C dc_S_resetBus_60 rfl rfl ?_
          refine r_get C dc_S_resetBus_61 fl_S_19 ch_S rfl ?_
          first | refine r_aload_n C dc_S_resetBus_64 rfl rfl ?_ | refine r_aload_nq C dc_S_resetBus_64 rfl rfl ?_
          refine r_get C dc_S_resetBus_65 fl_S_12 ch_S rfl ?_
          first | refine r_aload_n C dc_S_resetBus_68 rfl rfl ?_ | refine r_aload_nq C dc_S_resetBus_68 rfl rfl ?_
          refine r_get C dc_S_resetBus_69 fl_S_25 ch_S rfl ?_
          refine r_iload_n C dc_S_resetBus_72 rfl rfl ?_
          refine r_iload_n C dc_S_resetBus_73 rfl rfl ?_
          refine r_callV C dp dc_S_resetBus_74 cw_S_254 cm_T_settle cv_T_settle rfl (ch_T) (k_T_settleL (df := df) (z := (cRst ot z b0)) (b0 := b0) hl) (by omega) rfl rfl (Nat.le_of_ble_eq_true rfl) (fun v74 h74 n74 q74 z74 => ?_) (fun _ _ _ _ z => z.elim)
          obtain ⟨y74, y74h, y74n⟩ := z74
          rw [y74, y74h, y74n]
          refine rw_hh (h' := CH A b (cRsE ot z b0) (rEm r (cBz z (nI b0) 12) 12) (RH S (rBs r q (cBz z (nI b0) 12) 12) h)) (by unfold cRsE cEndR; rw [ea]; rfl) ?_
          generalize hce : cRsE ot z b0 = ye
          first | refine r_aload_n C dc_S_resetBus_77 rfl rfl ?_ | refine r_aload_nq C dc_S_resetBus_77 rfl rfl ?_
          refine r_dup C dc_S_resetBus_78 rfl ?_
          refine r_get C dc_S_resetBus_79 fl_S_208 ch_S rfl ?_
          refine r_iconst (v := nI 1) C dc_S_resetBus_82 (by decide) ?_
          first | refine r_iaddN C dc_S_resetBus_83 ?_ | refine r_iadd C dc_S_resetBus_83 ?_
          refine r_put C dc_S_resetBus_84 fl_S_208 ch_S rfl rfl (Nat.le_of_ble_eq_true rfl) ?_
          refine rw_hh cs_s37 ?_
          exact r_vret C dp hr dc_S_resetBus_87 (Nat.le_refl _) ⟨rfl, by unfold cResetZ; rw [hce], rfl⟩
      · exact absurd c5 (by omega)
    ·
      intro k hk ih
      refine r_iload_n C dc_S_resetBus_2 rfl rfl ?_
      refine r_bipush (v := nI 12) C dc_S_resetBus_3 (by decide) ?_
      refine r_icmp_geN (tgt := 35) C dc_S_resetBus_5 (by decide) (by omega) (by omega) (fun c5 => ?_) (fun c5 => ?_)
      · exact absurd c5 (by omega)
      ·
        have h31 : (cCln z (cBz z (nI b0) k)) 31 = z 31 := rfl
        first | refine r_aload_n C dc_S_resetBus_8 rfl rfl ?_ | refine r_aload_nq C dc_S_resetBus_8 rfl rfl ?_
        refine r_get C dc_S_resetBus_9 fl_S_12 ch_S rfl ?_
        refine r_iload_n C dc_S_resetBus_12 rfl rfl ?_
        refine r_callV C dp dc_S_resetBus_13 cw_S_168 cm_W_busOf cv_W_busOf rfl (ch_W) (k_W_busOf (df := df) (i := k) hl ch_W ch_bus hk) (by omega) rfl rfl (Nat.le_of_ble_eq_true rfl) (fun v13 h13 n13 q13 z13 => ?_) (fun _ _ _ _ z => z.elim)
        obtain ⟨y13, y13h, y13n⟩ := z13
        rw [y13, y13h, y13n]
        refine r_iload_n C dc_S_resetBus_16 rfl rfl ?_
        rw [h31]
        refine r_icmp_ne (tgt := 29) C dc_S_resetBus_17 (by decide) (fun c17 => ?_) (fun c17 => ?_)
        ·
          have ec : (cBz z (nI b0) 12) k = false := by unfold cBz; rw [decide_eq_false c17, Bool.and_false]
          refine rw_hh (h' := CH A b (cCln z (cBz z (nI b0) (k + 1))) (rEm r (cBz z (nI b0) 12) (k + 1)) (RH S (rBs r q (cBz z (nI b0) 12) (k + 1)) h)) (by rw [cln_n c17, rEm_n ec, show rBs r q (cBz z (nI b0) 12) (k + 1) = rBs r q (cBz z (nI b0) 12) k from by show (bif (cBz z (nI b0) 12) k then _ else _) = _; rw [ec]; rfl]) ?_
          first | refine r_iincN C dc_S_resetBus_29 rfl (by decide) (nw_of rfl) ?_ | refine r_iinc C dc_S_resetBus_29 rfl rfl (by decide) (nw_of rfl) ?_
          refine r_goto (tgt := 2) C dc_S_resetBus_32 (by decide) ?_
          refine r_weak ?_ (ih)
          exact wl_c (rfl) (wl_c (rfl) (wl_c (rfl) (wl_n)))
        ·
          have ec : (cBz z (nI b0) 12) k = true := by unfold cBz; rw [decide_eq_true c17, decide_eq_true hk]; rfl
          first | refine r_aload_n C dc_S_resetBus_20 rfl rfl ?_ | refine r_aload_nq C dc_S_resetBus_20 rfl rfl ?_
          refine r_get C dc_S_resetBus_21 fl_S_25 ch_S rfl ?_
          refine r_iload_n C dc_S_resetBus_24 rfl rfl ?_
          refine r_nald C dc_S_resetBus_25 (by omega) ?_
          refine r_callV C dp dc_S_resetBus_26 cw_S_247 cm_N_startAnew cv_N_startAnew rfl (ch_node hk) (k_N_startAnew (df := df) (i := k) hl hk (rEm_RV hv k)) (by omega) rfl rfl (Nat.le_of_ble_eq_true rfl) (fun v26 h26 n26 q26 z26 => ?_) (fun _ _ _ _ z => z.elim)
          obtain ⟨y26, y26h, y26n⟩ := z26
          rw [y26, y26h, y26n]
          refine rw_hh (h' := CH A b (cCln z (cBz z (nI b0) (k + 1))) (rEm r (cBz z (nI b0) 12) (k + 1)) (RH S (rBs r q (cBz z (nI b0) 12) (k + 1)) h)) (by rw [cln_s c17, rEm_s ec, rSt_c (rEm_12 (by omega)), show rBs r q (cBz z (nI b0) 12) (k + 1) = rSt r (rBs r q (cBz z (nI b0) 12) k) k 4 from by show (bif (cBz z (nI b0) 12) k then _ else _) = _; rw [ec]; rfl]) ?_
          first | refine r_iincN C dc_S_resetBus_29 rfl (by decide) (nw_of rfl) ?_ | refine r_iinc C dc_S_resetBus_29 rfl rfl (by decide) (nw_of rfl) ?_
          refine r_goto (tgt := 2) C dc_S_resetBus_32 (by decide) ?_
          refine r_weak ?_ (ih)
          exact wl_c (rfl) (wl_c (rfl) (wl_c (rfl) (wl_n)))
  refine rw_hh (h' := CH A b (cCln z (cBz z (nI b0) 0)) (rEm r (cBz z (nI b0) 12) 0) (RH S (rBs r q (cBz z (nI b0) 12) 0) h)) (by rw [cln_0, rEm_0]; rfl) ?_
  refine r_iconst (v := nI 0) C dc_S_resetBus_0 (by decide) ?_
  refine r_istore_n C dc_S_resetBus_1 rfl (by decide) (nw_of rfl) ?_
  refine r_weak ?_ (lp 0 (by omega))
  exact wl_c (rfl) (wl_c (rfl) (wl_c (rfl) (wl_n)))
set_option maxRecDepth 4000 in
set_option maxHeartbeats 1000000 in
theorem k_S_runBus (hl : l.stackTraces = false) {b0 : Nat} {ot : Nat → Option Nat} (hb : b0 < 12) (ht36 : ∀ k t, k < 36 → ot k = some t → t < 36) (hne0 : ∀ k t, k < 36 → ot k = some t → k / 3 ≠ t / 3) (hok : CBok ot b S (z, r, q) b0) : Ct l D A G my_S_runBus cd_S_runBus 3 none (df + 16) 0 0 [.ref b, .int (nI b0)] (CH A b z r (RH S q h)) n (fun v h' n' => v = none ∧ h' = CH A b (cTB ot (z, r, q) b0).1 (cTB ot (z, r, q) b0).2.1 (RH S (cTB ot (z, r, q) b0).2.2 h) ∧ n' = n) (fun _ _ _ => False) := by
  refine Ct.of (by decide) hl (Nat.le_of_ble_eq_true rfl) ?_
  intro p e s m args below meth c C hr hnm ht dp
  obtain ⟨hot, hpv, ⟨hv, hsz12⟩, ⟨ck, hck, eck⟩, ⟨mg, emg, hmg⟩, hq⟩ := hok
  dsimp only at hot hpv hv hsz12 eck emg hq
  first | refine r_aload_n C dc_S_runBus_0 rfl rfl ?_ | refine r_aload_nq C dc_S_runBus_0 rfl rfl ?_
  refine r_iload_n C dc_S_runBus_1 rfl rfl ?_
  refine r_callV C dp dc_S_runBus_2 cw_S_172 cm_S_isDirty cv_S_isDirty rfl (ch_S) (k_S_isDirty (df := df) (v0 := nI b0) hl) (by omega) rfl rfl (Nat.le_of_ble_eq_true rfl) (fun v2 h2 n2 q2 z2 => ?_) (fun _ _ _ _ z => z.elim)
  obtain ⟨y2, y2h, y2n⟩ := z2
  rw [y2, y2h, y2n]
  refine r_if_eqZ (tgt := 16) C dc_S_runBus_5 (by decide) (fun c5 => ?_) (fun c5 => ?_)
  ·
    first | refine r_aload_n C dc_S_runBus_16 rfl rfl ?_ | refine r_aload_nq C dc_S_runBus_16 rfl rfl ?_
    refine r_get C dc_S_runBus_17 fl_S_25 ch_S rfl ?_
    refine r_iload_n C dc_S_runBus_20 rfl rfl ?_
    refine r_nald C dc_S_runBus_21 (by omega) ?_
    refine r_get C dc_S_runBus_22 fl_S_234 (ch_node (by omega)) rfl ?_
    refine r_if_ne (tgt := 72) C dc_S_runBus_25 (by decide) (fun c25 => ?_) (fun c25 => ?_)
    ·
      exact r_vret C dp hr dc_S_runBus_72 (Nat.le_refl _) ⟨rfl, by unfold cTB; dsimp only; rw [c5]; dsimp only [cond_false]; rw [if_neg c25], rfl⟩
    ·
      first | refine r_aload_n C dc_S_runBus_28 rfl rfl ?_ | refine r_aload_nq C dc_S_runBus_28 rfl rfl ?_
      refine r_get C dc_S_runBus_29 fl_S_25 ch_S rfl ?_
      refine r_iload_n C dc_S_runBus_32 rfl rfl ?_
      refine r_nald C dc_S_runBus_33 (by omega) ?_
      refine r_get C dc_S_runBus_34 fl_S_184 (ch_node (by omega)) rfl ?_
      refine r_istore_n C dc_S_runBus_37 rfl (by decide) (nw_of rfl) ?_
      first | refine r_aload_n C dc_S_runBus_38 rfl rfl ?_ | refine r_aload_nq C dc_S_runBus_38 rfl rfl ?_
      refine r_get C dc_S_runBus_39 fl_S_115 ch_S rfl ?_
      refine sb_at (P := fun v => Rw _ _ _ _ _ _ _ _ _ _ _ _ _ _ _ _ _ _ _ _ (.int v :: _)) eck ?_
      refine r_bipush (v := nI 8) C dc_S_runBus_42 (by decide) ?_
      first | refine r_iremN C dc_S_runBus_44 (by omega) (by decide) (by decide) ?_ | refine r_irem C dc_S_runBus_44 (by decide) ?_
      refine r_if_ne (tgt := 67) C dc_S_runBus_45 (by decide) (fun c45 => ?_) (fun c45 => ?_)
      ·
        first | refine r_aload_n C dc_S_runBus_67 rfl rfl ?_ | refine r_aload_nq C dc_S_runBus_67 rfl rfl ?_
        refine r_iload_n C dc_S_runBus_68 rfl rfl ?_
        refine r_callV C dp dc_S_runBus_69 cw_S_244 cm_S_runSlot cv_S_runSlot rfl (ch_S) (k_S_runSlot (df := df) (b0 := b0) hl hv hsz12 hq) (by omega) rfl rfl (Nat.le_of_ble_eq_true rfl) (fun v69 h69 n69 q69 z69 => ?_) (fun _ _ _ _ z => z.elim)
        obtain ⟨y69, y69h, y69n⟩ := z69
        rw [y69, y69h, y69n]
        exact r_vret C dp hr dc_S_runBus_72 (Nat.le_refl _) ⟨rfl, by unfold cTB; dsimp only; rw [c5]; dsimp only [cond_false]; rw [if_pos c25, if_neg (show ¬ nI (cl (z 35 0) % 8) = 0 by rw [eck, cl_nI hck]; exact c45)], rfl⟩
      ·
        refine r_iload_n C dc_S_runBus_48 rfl rfl ?_
        refine sb_at (P := fun v => Rw _ _ _ _ _ _ _ _ _ _ _ _ _ _ _ _ _ _ _ _ (.int v :: _)) emg ?_
        refine r_iconst (v := -1) C dc_S_runBus_49 (by decide) ?_
        cases emm : mg with
        | none =>
          rw [emm] at emg
          refine r_icmp_eq (tgt := 67) C dc_S_runBus_50 (by decide) (fun c50 => ?_) (fun c50 => ?_)
          ·
            first | refine r_aload_n C dc_S_runBus_67 rfl rfl ?_ | refine r_aload_nq C dc_S_runBus_67 rfl rfl ?_
            refine r_iload_n C dc_S_runBus_68 rfl rfl ?_
            refine r_callV C dp dc_S_runBus_69 cw_S_244 cm_S_runSlot cv_S_runSlot rfl (ch_S) (k_S_runSlot (df := df) (b0 := b0) hl hv hsz12 hq) (by omega) rfl rfl (Nat.le_of_ble_eq_true rfl) (fun v69 h69 n69 q69 z69 => ?_) (fun _ _ _ _ z => z.elim)
            obtain ⟨y69, y69h, y69n⟩ := z69
            rw [y69, y69h, y69n]
            exact r_vret C dp hr dc_S_runBus_72 (Nat.le_refl _) ⟨rfl, by unfold cTB; dsimp only; rw [c5]; dsimp only [cond_false]; rw [if_pos c25, if_pos (show nI (cl (z 35 0) % 8) = 0 by rw [eck, cl_nI hck]; exact c45), if_pos (show z 16 b0 = -1 from emg)], rfl⟩
          · exact absurd rfl c50
        | some ch =>
          have hch := hmg ch emm
          rw [emm] at emg
          refine r_icmp_eq (tgt := 67) C dc_S_runBus_50 (by decide) (fun c50 => ?_) (fun c50 => ?_)
          · exact absurd (show nI ch = -1 from c50) (nI_m1 (by omega))
          ·
            first | refine r_aload_n C dc_S_runBus_53 rfl rfl ?_ | refine r_aload_nq C dc_S_runBus_53 rfl rfl ?_
            refine r_iload_n C dc_S_runBus_54 rfl rfl ?_
            first | refine r_aload_n C dc_S_runBus_55 rfl rfl ?_ | refine r_aload_nq C dc_S_runBus_55 rfl rfl ?_
            refine r_get C dc_S_runBus_56 fl_S_25 ch_S rfl ?_
            refine r_iload_n C dc_S_runBus_59 rfl rfl ?_
            refine sb_at (P := fun v => Rw _ _ _ _ _ _ _ _ _ _ _ _ _ _ _ _ _ _ _ _ (.int v :: _)) (show _ = nI ch from emg) ?_
            refine r_nald C dc_S_runBus_60 (by omega) ?_
            refine r_callV C dp dc_S_runBus_61 cw_S_240 cm_S_runCycle cv_S_runCycle rfl (ch_S) (k_S_runCycle (df := df) (b0 := b0) (ch := ch) hl hch) (by omega) rfl rfl (Nat.le_of_ble_eq_true rfl) (fun v61 h61 n61 q61 z61 => ?_) (fun _ _ _ _ z => z.elim)
            obtain ⟨y61, y61h, y61n⟩ := z61
            rw [y61, y61h, y61n]
            refine r_goto (tgt := 72) C dc_S_runBus_64 (by decide) ?_
            exact r_vret C dp hr dc_S_runBus_72 (Nat.le_refl _) ⟨rfl, by unfold cTB; dsimp only; rw [c5]; dsimp only [cond_false]; rw [if_pos c25, if_pos (show nI (cl (z 35 0) % 8) = 0 by rw [eck, cl_nI hck]; exact c45), if_neg (show ¬ z 16 b0 = -1 by rw [show z 16 b0 = nI ch from emg]; exact nI_m1 (by omega)), show cl (z 16 b0) = ch from by rw [show z 16 b0 = nI ch from emg]; exact cl_nI (by omega)], rfl⟩
  ·
    first | refine r_aload_n C dc_S_runBus_8 rfl rfl ?_ | refine r_aload_nq C dc_S_runBus_8 rfl rfl ?_
    refine r_iload_n C dc_S_runBus_9 rfl rfl ?_
    refine r_callV C dp dc_S_runBus_10 cw_S_237 cm_S_resetBus cv_S_resetBus rfl (ch_S) (k_S_resetBus (df := df) (b0 := b0) (ot := ot) hl hb hot ht36 hne0 hpv hv) (by omega) rfl rfl (Nat.le_of_ble_eq_true rfl) (fun v10 h10 n10 q10 z10 => ?_) (fun _ _ _ _ z => z.elim)
    obtain ⟨y10, y10h, y10n⟩ := z10
    rw [y10, y10h, y10n]
    refine r_goto (tgt := 72) C dc_S_runBus_13 (by decide) ?_
    exact r_vret C dp hr dc_S_runBus_72 (Nat.le_refl _) ⟨rfl, by unfold cTB; dsimp only; rw [c5]; rfl, rfl⟩
end Cls8
