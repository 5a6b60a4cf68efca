/-- numbers: the next one, and the row of those given -/
abbrev gSt : Type := Nat × (Nat → Int32)
/-- k ports of node a from p on: each child by V -/
def gPt (V : Nat → gSt → gSt) (ot : Nat → Option Nat) (x : Nat → Nat → Int32) (a : Nat) : Nat → Nat → gSt → gSt
  | 0, _, s => s
  | k + 1, p, s => gPt V ot x a k (p + 1) (bif cOf ot x a p then V ((ot (3 * a + p)).getD 0 / 3) s else s)
def gEnd (a : Nat) (s : gSt) : gSt := (s.1 + 1, upd s.2 a (nI s.1))
def gN (ot : Nat → Option Nat) (x : Nat → Nat → Int32) : Nat → Nat → gSt → gSt
  | 0, _, s => s
  | d + 1, a, s => gEnd a (gPt (gN ot x d) ot x a 3 0 s)
def gF (ot : Nat → Option Nat) (x : Nat → Nat → Int32) (d a p : Nat) (s : gSt) : gSt := gEnd a (gPt (gN ot x d) ot x a (3 - p) p s)
theorem gPt_none {V : Nat → gSt → gSt} {ot : Nat → Option Nat} {x : Nat → Nat → Int32} {a : Nat} : ∀ {k p : Nat} {s : gSt}, fstF (cOf ot x a) k p = none → gPt V ot x a k p s = s := by
  intro k
  induction k with
  | zero => intro p s _; rfl
  | succ k ih =>
    intro p s h
    unfold fstF at h
    cases e : cOf ot x a p with
    | true => rw [e] at h; cases h
    | false =>
      rw [e] at h
      show gPt V ot x a k (p + 1) (bif cOf ot x a p then _ else s) = s
      rw [e]
      exact ih h
theorem gPt_some {V : Nat → gSt → gSt} {ot : Nat → Option Nat} {x : Nat → Nat → Int32} {a : Nat} : ∀ {k p c : Nat} {s : gSt}, fstF (cOf ot x a) k p = some c → p ≤ c ∧ c < p + k ∧ cOf ot x a c = true ∧ gPt V ot x a k p s = gPt V ot x a (p + k - (c + 1)) (c + 1) (V ((ot (3 * a + c)).getD 0 / 3) s) := by
  intro k
  induction k with
  | zero => intro p c s h; cases h
  | succ k ih =>
    intro p c s h
    unfold fstF at h
    cases e : cOf ot x a p with
    | true =>
      rw [e] at h
      cases h
      refine ⟨Nat.le_refl _, by omega, e, ?_⟩
      show gPt V ot x a k (p + 1) (bif cOf ot x a p then _ else s) = _
      rw [e, show p + (k + 1) - (p + 1) = k by omega]
      rfl
    | false =>
      rw [e] at h
      obtain ⟨h1, h2, h3, h4⟩ := ih (s := s) h
      refine ⟨by omega, by omega, h3, ?_⟩
      show gPt V ot x a k (p + 1) (bif cOf ot x a p then _ else s) = _
      rw [e, show p + (k + 1) - (c + 1) = p + 1 + k - (c + 1) by omega]
      exact h4
section Model14
variable {l : Launch} {D : va_G} {A : Nat → ClassId} {G : Heap} {h : Hp} {n mm df : Nat} {x : Nat → Nat → Int32}
set_option maxRecDepth 4000 in
set_option maxHeartbeats 1000000 in
theorem k_M_giveNumbers (hl : l.stackTraces = false) {top d0 : Nat} {ot pa : Nat → Option Nat} {rk : Nat → Nat} {B : Nat → Prop} (hBt : B top) (hot : ∀ k, k < 36 → x 1 k = oi (ot k)) (ht36 : ∀ k t, k < 36 → ot k = some t → t < 36) (hpa : ∀ a, a < 12 → x 14 a = oi (pa a)) (htop : top < 12) (hroot : pa top = none) (hd0 : rk top < d0)
    (hup : ∀ a b, a < 12 → B a → pa a = some b → b < 12 ∧ ∃ p1, p1 < 3 ∧ ∃ t1, ot (3 * b + p1) = some t1 ∧ t1 / 3 = a)
    (hdn : ∀ c0 a, c0 < 12 → a < 12 → B a → x 14 c0 = nI a → ∀ p t, p < 3 → ot (3 * a + p) = some t → t / 3 = c0 → B c0 ∧ rk c0 < rk a ∧ pa c0 = some a ∧ ∀ p' t', p' < 3 → ot (3 * a + p') = some t' → t' / 3 = c0 → p' = p) : Ct l D A G my_M_giveNumbers cd_M_giveNumbers 7 none (df + 1) 0 0 [.ref mm, .int (nI top)] (MH A mm x h) n (fun v h' n' => v = none ∧ h' = MH A mm (ur x 15 (gN ot x d0 top (0, x 15)).2) h ∧ n' = n) (fun _ _ _ => False) := by
  refine Ct.of (by decide) hl (Nat.le_of_ble_eq_true rfl) ?_
  intro p e s m args below meth c C hr hnm ht dp
  have key : ∀ d k a po (s1 : gSt), a < 12 → B a → rk a ≤ d → po + k = 3 → ((pa a = none → ∀ pv : Int32, Rw p l e (cR (df + 1) 0 0) s m args below meth c (CQ D G n (fun v h' n' => v = none ∧ h' = MH A mm (ur x 15 (gN ot x d0 top (0, x 15)).2) h ∧ n' = n) (fun _ _ _ => False) below args s 0 0) D G 7 0 0 (MH A mm (ur x 15 (gF ot x d a po s1).2) h) n [(0, .ref mm), (2, .int (oi none)), (3, .int pv), (4, .int (nI (gF ot x d a po s1).1))] 7 []) ∧ (∀ b pp t, pa a = some b → pp < 3 → ot (3 * b + pp) = some t → t / 3 = a → Rw p l e (cR (df + 1) 0 0) s m args below meth c (CQ D G n (fun v h' n' => v = none ∧ h' = MH A mm (ur x 15 (gN ot x d0 top (0, x 15)).2) h ∧ n' = n) (fun _ _ _ => False) below args s 0 0) D G 7 0 0 (MH A mm (ur x 15 (gF ot x d a po s1).2) h) n [(0, .ref mm), (2, .int (nI b)), (3, .int (nI (pp + 1))), (4, .int (nI (gF ot x d a po s1).1))] 7 [])) → Rw p l e (cR (df + 1) 0 0) s m args below meth c (CQ D G n (fun v h' n' => v = none ∧ h' = MH A mm (ur x 15 (gN ot x d0 top (0, x 15)).2) h ∧ n' = n) (fun _ _ _ => False) below args s 0 0) D G 7 0 0 (MH A mm (ur x 15 s1.2) h) n [(0, .ref mm), (2, .int (nI a)), (3, .int (nI po)), (4, .int (nI s1.1))] 7 [] := by
    intro d
    induction d using Nat.strongRecOn with
    | ind d ihd =>
      intro k
      induction k using Nat.strongRecOn with
      | ind k ihk =>
        intro a po s1 ha hB hrk hpk hct
        refine r_iload_n C dc_M_giveNumbers_7 rfl rfl ?_
        refine r_if_lt (tgt := 115) C dc_M_giveNumbers_8 (by decide) (fun c8 => ?_) (fun c8 => ?_)
        · exact absurd c8 (nI_lt0 (by omega))
        ·
          first | refine r_aload_n C dc_M_giveNumbers_11 rfl rfl ?_ | refine r_aload_nq C dc_M_giveNumbers_11 rfl rfl ?_
          refine r_iload_n C dc_M_giveNumbers_12 rfl rfl ?_
          refine r_iload_n C dc_M_giveNumbers_13 rfl rfl ?_
          refine r_callV C dp dc_M_giveNumbers_14 cw_M_166 cm_M_child cv_M_child rfl (mh_0) (k_M_child (df := df) (x := ur x 15 s1.2) (ot := ot) (f0 := po) hl ha (by omega) (fun k hk => hot k hk) ht36) (Nat.lt_succ_self _) rfl rfl (Nat.le_of_ble_eq_true rfl) (fun v14 h14 n14 q14 z14 => ?_) (fun _ _ _ _ z => z.elim)
          obtain ⟨y14, y14h, y14n⟩ := z14
          rw [y14, y14h, y14n]
          have hcf : cOf ot (ur x 15 s1.2) a = cOf ot x a := rfl
          rw [hcf]
          cases ec : fstF (cOf ot x a) (3 - po) po with
          | none =>
            have hgf : gF ot x d a po s1 = gEnd a s1 := by
              unfold gF
              rw [gPt_none ec]
            rw [hgf] at hct
            refine r_istore C dc_M_giveNumbers_17 (by decide) (nw_of rfl) ?_
            refine r_iload C dc_M_giveNumbers_19 rfl ?_
            refine r_if_lt (tgt := 43) C dc_M_giveNumbers_21 (by decide) (fun c21 => ?_) (fun c21 => ?_)
            ·
              first | refine r_aload_n C dc_M_giveNumbers_43 rfl rfl ?_ | refine r_aload_nq C dc_M_giveNumbers_43 rfl rfl ?_
              refine r_get C dc_M_giveNumbers_44 fl_M_53 mh_0 rfl ?_
              refine r_iload_n C dc_M_giveNumbers_47 rfl rfl ?_
              refine r_iload C dc_M_giveNumbers_48 rfl ?_
              refine r_iast C dc_M_giveNumbers_50 mh_15 rfl (by omega) (by decide) ?_
              rw [ms_15]
              refine rw_h (y' := ur x 15 (gEnd a s1).2) (by rw [ur_ur, ur_eq]; rfl) ?_
              first | refine r_iincN C dc_M_giveNumbers_51 rfl (by decide) (nw_of rfl) ?_ | refine r_iinc C dc_M_giveNumbers_51 rfl rfl (by decide) (nw_of rfl) ?_
              first | refine r_aload_n C dc_M_giveNumbers_54 rfl rfl ?_ | refine r_aload_nq C dc_M_giveNumbers_54 rfl rfl ?_
              refine r_get C dc_M_giveNumbers_55 fl_M_50 mh_0 rfl ?_
              refine r_iload_n C dc_M_giveNumbers_58 rfl rfl ?_
              refine r_ialdN C dc_M_giveNumbers_59 mh_14 (by omega) (by decide) ?_
              refine sb_at (P := fun v => Rw _ _ _ _ _ _ _ _ _ _ _ _ _ _ _ _ _ _ _ _ (.int v :: _)) (show _ = oi (pa a) from hpa a ha) ?_
              cases ep : pa a with
              | none =>
                refine r_istore C dc_M_giveNumbers_60 (by decide) (nw_of rfl) ?_
                refine r_iconst (v := nI 0) C dc_M_giveNumbers_62 (by decide) ?_
                refine r_istore_n C dc_M_giveNumbers_63 rfl (by decide) (nw_of rfl) ?_
                refine r_iload C dc_M_giveNumbers_64 rfl ?_
                refine r_if_lt (tgt := 106) C dc_M_giveNumbers_66 (by decide) (fun c66 => ?_) (fun c66 => ?_)
                ·
                  first | refine r_iincN C dc_M_giveNumbers_106 rfl (by decide) (nw_of rfl) ?_ | refine r_iinc C dc_M_giveNumbers_106 rfl rfl (by decide) (nw_of rfl) ?_
                  refine r_iload C dc_M_giveNumbers_109 rfl ?_
                  refine r_istore_n C dc_M_giveNumbers_111 rfl (by decide) (nw_of rfl) ?_
                  refine r_goto (tgt := 7) C dc_M_giveNumbers_112 (by decide) ?_
                  refine r_weak ?_ (hct.1 ep (nI (0 + 1)))
                  exact wl_c (rfl) (wl_c (rfl) (wl_c (rfl) (wl_c (rfl) (wl_n))))
                · exact absurd m1_lt0 c66
              | some b =>
                obtain ⟨hb, p1, hp1, t1, et1, ht1⟩ := hup a b ha hB ep
                refine sb_at (P := fun v => Rw _ _ _ _ _ _ _ _ _ _ _ _ _ _ _ _ _ _ _ _ (.int v :: _)) (show oi (some b) = nI b from rfl) ?_
                have seek : ∀ pp, pp ≤ p1 → Rw p l e (cR (df + 1) 0 0) s m args below meth c (CQ D G n (fun v h' n' => v = none ∧ h' = MH A mm (ur x 15 (gN ot x d0 top (0, x 15)).2) h ∧ n' = n) (fun _ _ _ => False) below args s 0 0) D G 7 0 0 (MH A mm (ur x 15 (gEnd a s1).2) h) n [(0, .ref mm), (2, .int (nI a)), (3, .int (nI pp)), (4, .int (nI (s1.1 + 1))), (6, .int (nI b))] 64 [] := by
                  refine r_loop p1 _ ?_ ?_
                  ·
                    refine r_iload C dc_M_giveNumbers_64 rfl ?_
                    refine r_if_lt (tgt := 106) C dc_M_giveNumbers_66 (by decide) (fun c66 => ?_) (fun c66 => ?_)
                    · exact absurd c66 (nI_lt0 (by omega))
                    ·
                      first | refine r_aload_n C dc_M_giveNumbers_69 rfl rfl ?_ | refine r_aload_nq C dc_M_giveNumbers_69 rfl rfl ?_
                      refine r_get C dc_M_giveNumbers_70 fl_M_7 mh_0 rfl ?_
                      refine r_iconst (v := nI 3) C dc_M_giveNumbers_73 (by decide) ?_
                      refine r_iload C dc_M_giveNumbers_74 rfl ?_
                      first | refine r_imulN C dc_M_giveNumbers_76 ?_ | refine r_imul C dc_M_giveNumbers_76 ?_
                      refine r_iload_n C dc_M_giveNumbers_77 rfl rfl ?_
                      first | refine r_iaddN C dc_M_giveNumbers_78 ?_ | refine r_iadd C dc_M_giveNumbers_78 ?_
                      refine r_ialdN C dc_M_giveNumbers_79 mh_1 (by omega) (by decide) ?_
                      refine sb_at (P := fun v => Rw _ _ _ _ _ _ _ _ _ _ _ _ _ _ _ _ _ _ _ _ (.int v :: _)) (show _ = oi (ot (3 * b + p1)) from hot _ (by omega)) ?_
                      cases eo : ot (3 * b + p1) with
                      | none =>
                        rw [et1] at eo; cases eo
                      | some t =>
                        have ht3 := ht36 _ t (by omega) eo
                        refine sb_at (P := fun v => Rw _ _ _ _ _ _ _ _ _ _ _ _ _ _ _ _ _ _ _ _ (.int v :: _)) (show oi (some t) = nI t from rfl) ?_
                        refine r_if_lt (tgt := 100) C dc_M_giveNumbers_80 (by decide) (fun c80 => ?_) (fun c80 => ?_)
                        · exact absurd c80 (nI_lt0 (by omega))
                        ·
                          first | refine r_aload_n C dc_M_giveNumbers_83 rfl rfl ?_ | refine r_aload_nq C dc_M_giveNumbers_83 rfl rfl ?_
                          refine r_get C dc_M_giveNumbers_84 fl_M_7 mh_0 rfl ?_
                          refine r_iconst (v := nI 3) C dc_M_giveNumbers_87 (by decide) ?_
                          refine r_iload C dc_M_giveNumbers_88 rfl ?_
                          first | refine r_imulN C dc_M_giveNumbers_90 ?_ | refine r_imul C dc_M_giveNumbers_90 ?_
                          refine r_iload_n C dc_M_giveNumbers_91 rfl rfl ?_
                          first | refine r_iaddN C dc_M_giveNumbers_92 ?_ | refine r_iadd C dc_M_giveNumbers_92 ?_
                          refine r_ialdN C dc_M_giveNumbers_93 mh_1 (by omega) (by decide) ?_
                          refine sb_at (P := fun v => Rw _ _ _ _ _ _ _ _ _ _ _ _ _ _ _ _ _ _ _ _ (.int v :: _)) (show _ = nI t from (hot _ (by omega)).trans (by rw [eo]; rfl)) ?_
                          refine r_iconst (v := nI 3) C dc_M_giveNumbers_94 (by decide) ?_
                          first | refine r_idivN C dc_M_giveNumbers_95 (by omega) (by decide) (by decide) ?_ | refine r_idiv C dc_M_giveNumbers_95 (by decide) ?_
                          refine r_iload_n C dc_M_giveNumbers_96 rfl rfl ?_
                          refine r_icmp_eqN (tgt := 106) C dc_M_giveNumbers_97 (by decide) (by omega) (by omega) (fun c97 => ?_) (fun c97 => ?_)
                          ·
                            first | refine r_iincN C dc_M_giveNumbers_106 rfl (by decide) (nw_of rfl) ?_ | refine r_iinc C dc_M_giveNumbers_106 rfl rfl (by decide) (nw_of rfl) ?_
                            refine r_iload C dc_M_giveNumbers_109 rfl ?_
                            refine r_istore_n C dc_M_giveNumbers_111 rfl (by decide) (nw_of rfl) ?_
                            refine r_goto (tgt := 7) C dc_M_giveNumbers_112 (by decide) ?_
                            refine r_weak ?_ (hct.2 b p1 t ep (by omega) eo c97)
                            exact wl_c (rfl) (wl_c (rfl) (wl_c (rfl) (wl_c (rfl) (wl_n))))
                          · rw [et1] at eo; cases eo; exact absurd ht1 c97
                  ·
                    intro pp hpp ihp
                    refine r_iload C dc_M_giveNumbers_64 rfl ?_
                    refine r_if_lt (tgt := 106) C dc_M_giveNumbers_66 (by decide) (fun c66 => ?_) (fun c66 => ?_)
                    · exact absurd c66 (nI_lt0 (by omega))
                    ·
                      first | refine r_aload_n C dc_M_giveNumbers_69 rfl rfl ?_ | refine r_aload_nq C dc_M_giveNumbers_69 rfl rfl ?_
                      refine r_get C dc_M_giveNumbers_70 fl_M_7 mh_0 rfl ?_
                      refine r_iconst (v := nI 3) C dc_M_giveNumbers_73 (by decide) ?_
                      refine r_iload C dc_M_giveNumbers_74 rfl ?_
                      first | refine r_imulN C dc_M_giveNumbers_76 ?_ | refine r_imul C dc_M_giveNumbers_76 ?_
                      refine r_iload_n C dc_M_giveNumbers_77 rfl rfl ?_
                      first | refine r_iaddN C dc_M_giveNumbers_78 ?_ | refine r_iadd C dc_M_giveNumbers_78 ?_
                      refine r_ialdN C dc_M_giveNumbers_79 mh_1 (by omega) (by decide) ?_
                      refine sb_at (P := fun v => Rw _ _ _ _ _ _ _ _ _ _ _ _ _ _ _ _ _ _ _ _ (.int v :: _)) (show _ = oi (ot (3 * b + pp)) from hot _ (by omega)) ?_
                      cases eo : ot (3 * b + pp) with
                      | none =>
                        refine r_if_lt (tgt := 100) C dc_M_giveNumbers_80 (by decide) (fun c80 => ?_) (fun c80 => ?_)
                        ·
                          first | refine r_iincN C dc_M_giveNumbers_100 rfl (by decide) (nw_of rfl) ?_ | refine r_iinc C dc_M_giveNumbers_100 rfl rfl (by decide) (nw_of rfl) ?_
                          refine r_goto (tgt := 64) C dc_M_giveNumbers_103 (by decide) ?_
                          refine r_weak ?_ (ihp)
                          exact wl_c (rfl) (wl_c (rfl) (wl_c (rfl) (wl_c (rfl) (wl_c (rfl) (wl_n)))))
                        · exact absurd m1_lt0 c80
                      | some t =>
                        have ht3 := ht36 _ t (by omega) eo
                        refine sb_at (P := fun v => Rw _ _ _ _ _ _ _ _ _ _ _ _ _ _ _ _ _ _ _ _ (.int v :: _)) (show oi (some t) = nI t from rfl) ?_
                        refine r_if_lt (tgt := 100) C dc_M_giveNumbers_80 (by decide) (fun c80 => ?_) (fun c80 => ?_)
                        · exact absurd c80 (nI_lt0 (by omega))
                        ·
                          first | refine r_aload_n C dc_M_giveNumbers_83 rfl rfl ?_ | refine r_aload_nq C dc_M_giveNumbers_83 rfl rfl ?_
                          refine r_get C dc_M_giveNumbers_84 fl_M_7 mh_0 rfl ?_
                          refine r_iconst (v := nI 3) C dc_M_giveNumbers_87 (by decide) ?_
                          refine r_iload C dc_M_giveNumbers_88 rfl ?_
                          first | refine r_imulN C dc_M_giveNumbers_90 ?_ | refine r_imul C dc_M_giveNumbers_90 ?_
                          refine r_iload_n C dc_M_giveNumbers_91 rfl rfl ?_
                          first | refine r_iaddN C dc_M_giveNumbers_92 ?_ | refine r_iadd C dc_M_giveNumbers_92 ?_
                          refine r_ialdN C dc_M_giveNumbers_93 mh_1 (by omega) (by decide) ?_
                          refine sb_at (P := fun v => Rw _ _ _ _ _ _ _ _ _ _ _ _ _ _ _ _ _ _ _ _ (.int v :: _)) (show _ = nI t from (hot _ (by omega)).trans (by rw [eo]; rfl)) ?_
                          refine r_iconst (v := nI 3) C dc_M_giveNumbers_94 (by decide) ?_
                          first | refine r_idivN C dc_M_giveNumbers_95 (by omega) (by decide) (by decide) ?_ | refine r_idiv C dc_M_giveNumbers_95 (by decide) ?_
                          refine r_iload_n C dc_M_giveNumbers_96 rfl rfl ?_
                          refine r_icmp_eqN (tgt := 106) C dc_M_giveNumbers_97 (by decide) (by omega) (by omega) (fun c97 => ?_) (fun c97 => ?_)
                          ·
                            first | refine r_iincN C dc_M_giveNumbers_106 rfl (by decide) (nw_of rfl) ?_ | refine r_iinc C dc_M_giveNumbers_106 rfl rfl (by decide) (nw_of rfl) ?_
                            refine r_iload C dc_M_giveNumbers_109 rfl ?_
                            refine r_istore_n C dc_M_giveNumbers_111 rfl (by decide) (nw_of rfl) ?_
                            refine r_goto (tgt := 7) C dc_M_giveNumbers_112 (by decide) ?_
                            refine r_weak ?_ (hct.2 b pp t ep (by omega) eo c97)
                            exact wl_c (rfl) (wl_c (rfl) (wl_c (rfl) (wl_c (rfl) (wl_n))))
                          ·
                            first | refine r_iincN C dc_M_giveNumbers_100 rfl (by decide) (nw_of rfl) ?_ | refine r_iinc C dc_M_giveNumbers_100 rfl rfl (by decide) (nw_of rfl) ?_
                            refine r_goto (tgt := 64) C dc_M_giveNumbers_103 (by decide) ?_
                            refine r_weak ?_ (ihp)
                            exact wl_c (rfl) (wl_c (rfl) (wl_c (rfl) (wl_c (rfl) (wl_c (rfl) (wl_n)))))
                refine r_istore C dc_M_giveNumbers_60 (by decide) (nw_of rfl) ?_
                refine r_iconst (v := nI 0) C dc_M_giveNumbers_62 (by decide) ?_
                refine r_istore_n C dc_M_giveNumbers_63 rfl (by decide) (nw_of rfl) ?_
                refine r_weak ?_ (seek 0 (by omega))
                exact wl_c (rfl) (wl_c (rfl) (wl_c (rfl) (wl_c (rfl) (wl_c (rfl) (wl_n)))))
            · exact absurd m1_lt0 c21
          | some c0 =>
            obtain ⟨g1, g2, g3, g4⟩ := gPt_some (V := gN ot x d) (s := s1) ec
            cases eo : ot (3 * a + c0) with
            | none => unfold cOf at g3; rw [eo] at g3; cases g3
            | some t =>
              have ht3 := ht36 _ t (by omega) eo
              have hx14 : x 14 (t / 3) = nI a := by
                unfold cOf at g3
                rw [eo] at g3
                exact of_decide_eq_true g3
              have hch0 := hdn (t / 3) a (by omega) ha hB hx14 c0 t (by omega) eo rfl
              have hBc := hch0.1
              have hch := hch0.2
              rw [eo] at g4
              have hgt : (some t).getD 0 = t := rfl
              rw [hgt] at g4
              refine sb_at (P := fun v => Rw _ _ _ _ _ _ _ _ _ _ _ _ _ _ _ _ _ _ _ _ (.int v :: _)) (show oi (some c0) = nI c0 from rfl) ?_
              refine r_istore C dc_M_giveNumbers_17 (by decide) (nw_of rfl) ?_
              refine r_iload C dc_M_giveNumbers_19 rfl ?_
              refine r_if_lt (tgt := 43) C dc_M_giveNumbers_21 (by decide) (fun c21 => ?_) (fun c21 => ?_)
              · exact absurd c21 (nI_lt0 (by omega))
              ·
                first | refine r_aload_n C dc_M_giveNumbers_24 rfl rfl ?_ | refine r_aload_nq C dc_M_giveNumbers_24 rfl rfl ?_
                refine r_get C dc_M_giveNumbers_25 fl_M_7 mh_0 rfl ?_
                refine r_iconst (v := nI 3) C dc_M_giveNumbers_28 (by decide) ?_
                refine r_iload_n C dc_M_giveNumbers_29 rfl rfl ?_
                first | refine r_imulN C dc_M_giveNumbers_30 ?_ | refine r_imul C dc_M_giveNumbers_30 ?_
                refine r_iload C dc_M_giveNumbers_31 rfl ?_
                first | refine r_iaddN C dc_M_giveNumbers_33 ?_ | refine r_iadd C dc_M_giveNumbers_33 ?_
                refine r_ialdN C dc_M_giveNumbers_34 mh_1 (by omega) (by decide) ?_
                refine sb_at (P := fun v => Rw _ _ _ _ _ _ _ _ _ _ _ _ _ _ _ _ _ _ _ _ (.int v :: _)) (show _ = nI t from (hot _ (by omega)).trans (by rw [eo]; rfl)) ?_
                refine r_iconst (v := nI 3) C dc_M_giveNumbers_35 (by decide) ?_
                first | refine r_idivN C dc_M_giveNumbers_36 (by omega) (by decide) (by decide) ?_ | refine r_idiv C dc_M_giveNumbers_36 (by decide) ?_
                refine r_istore_n C dc_M_giveNumbers_37 rfl (by decide) (nw_of rfl) ?_
                refine r_iconst (v := nI 0) C dc_M_giveNumbers_38 (by decide) ?_
                refine r_istore_n C dc_M_giveNumbers_39 rfl (by decide) (nw_of rfl) ?_
                refine r_goto (tgt := 7) C dc_M_giveNumbers_40 (by decide) ?_
                have hd0 : d ≠ 0 := by omega
                obtain ⟨d1, rfl⟩ : ∃ d1, d = d1 + 1 := ⟨d - 1, by omega⟩
                have r1 := ihd d1 (by omega) 3 (t / 3) 0 s1 (by omega) hBc (by omega) rfl ?_
                ·
                  refine r_weak ?_ (r1)
                  exact wl_c (rfl) (wl_c (rfl) (wl_c (rfl) (wl_c (rfl) (wl_n))))
                · refine ⟨fun z => ?_, fun b pp t2 hb hpp h1 h2 => ?_⟩
                  · rw [hch.2.1] at z; cases z
                  · rw [hch.2.1] at hb
                    cases hb
                    have epp : pp = c0 := hch.2.2 pp t2 hpp h1 h2
                    rw [epp]
                    refine ihk (2 - c0) (by omega) a (c0 + 1) (gF ot x d1 (t / 3) 0 s1) ha hB hrk (by omega) ?_
                    have e5 : gF ot x (d1 + 1) a (c0 + 1) (gF ot x d1 (t / 3) 0 s1) = gF ot x (d1 + 1) a po s1 := by
                      show gEnd a (gPt _ ot x a (3 - (c0 + 1)) (c0 + 1) (gN ot x (d1 + 1) (t / 3) s1)) = gEnd a (gPt _ ot x a (3 - po) po s1)
                      rw [g4, show po + (3 - po) - (c0 + 1) = 3 - (c0 + 1) by omega]
                    rw [e5]
                    exact hct
  have k0 := key (d0 - 1) 3 top 0 (0, x 15) htop hBt (by omega) rfl ?_
  ·
    refine r_iload_n C dc_M_giveNumbers_0 rfl rfl ?_
    refine r_istore_n C dc_M_giveNumbers_1 rfl (by decide) (nw_of rfl) ?_
    refine r_iconst (v := nI 0) C dc_M_giveNumbers_2 (by decide) ?_
    refine r_istore_n C dc_M_giveNumbers_3 rfl (by decide) (nw_of rfl) ?_
    refine r_iconst (v := nI 0) C dc_M_giveNumbers_4 (by decide) ?_
    refine r_istore C dc_M_giveNumbers_5 (by decide) (nw_of rfl) ?_
    refine rw_h (ur_self x 15).symm ?_
    refine r_weak ?_ (k0)
    exact wl_c (rfl) (wl_c (rfl) (wl_c (rfl) (wl_c (rfl) (wl_n))))
  · refine ⟨fun _ pv => ?_, fun b pp t hb => ?_⟩
    ·
      refine r_iload_n C dc_M_giveNumbers_7 rfl rfl ?_
      refine r_if_lt (tgt := 115) C dc_M_giveNumbers_8 (by decide) (fun c8 => ?_) (fun c8 => ?_)
      ·
        exact r_vret C dp hr dc_M_giveNumbers_115 (Nat.le_refl _) ⟨rfl, by obtain ⟨d1, rfl⟩ : ∃ d1, d0 = d1 + 1 := ⟨d0 - 1, by omega⟩; rfl, rfl⟩
      · exact absurd m1_lt0 c8
    · rw [hroot] at hb; cases hb
end Model14
