/-- a row with the places i .. k-1 taken one further on -/
def shR (f : Nat → Int32) (i k : Nat) : Nat → Int32 := fun j => if i ≤ j ∧ j < k then f (j + 1) else f j
theorem shR_0 (f : Nat → Int32) (i : Nat) : shR f i i = f := by
  funext j
  exact if_neg (by omega)
theorem shR_1 (f : Nat → Int32) {i k : Nat} (q : i ≤ k) : upd (shR f i k) k (shR f i k (k + 1)) = shR f i (k + 1) := by
  funext j
  unfold upd shR
  by_cases e1 : j = k
  · rw [if_pos e1, if_neg (by omega), if_pos (by omega), e1]
  · rw [if_neg e1]
    by_cases e2 : i ≤ j ∧ j < k
    · rw [if_pos e2, if_pos (by omega)]
    · rw [if_neg e2, if_neg (by omega)]
def mSh (x : Nat → Nat → Int32) (i k : Nat) : Nat → Nat → Int32 := fun j => if 30 ≤ j ∧ j ≤ 34 then shR (x j) i k else x j
theorem mSh_0 (x : Nat → Nat → Int32) (i : Nat) : mSh x i i = x := by
  funext j
  unfold mSh
  split
  · exact shR_0 _ _
  · rfl
theorem mSh_1 (x : Nat → Nat → Int32) {i k : Nat} (q : i ≤ k) : ur (ur (ur (ur (ur (mSh x i k) 30 (upd (mSh x i k 30) k (mSh x i k 30 (k + 1)))) 31 (upd (mSh x i k 31) k (mSh x i k 31 (k + 1)))) 32 (upd (mSh x i k 32) k (mSh x i k 32 (k + 1)))) 34 (upd (mSh x i k 34) k (mSh x i k 34 (k + 1)))) 33 (upd (mSh x i k 33) k (mSh x i k 33 (k + 1))) = mSh x i (k + 1) := by
  have e : ∀ j, 30 ≤ j ∧ j ≤ 34 → upd (mSh x i k j) k (mSh x i k j (k + 1)) = mSh x i (k + 1) j := by
    intro j hj
    unfold mSh
    rw [if_pos hj, if_pos hj]
    exact shR_1 _ q
  rw [e 30 (by decide), e 31 (by decide), e 32 (by decide), e 33 (by decide), e 34 (by decide)]
  funext j
  by_cases h3 : j = 33
  · rw [h3, ur_eq]
  rw [ur_ne h3]
  by_cases h4 : j = 34
  · rw [h4, ur_eq]
  rw [ur_ne h4]
  by_cases h2 : j = 32
  · rw [h2, ur_eq]
  rw [ur_ne h2]
  by_cases h1 : j = 31
  · rw [h1, ur_eq]
  rw [ur_ne h1]
  by_cases h0 : j = 30
  · rw [h0, ur_eq]
  rw [ur_ne h0]
  unfold mSh
  rw [if_neg (by omega), if_neg (by omega)]
/-- the packet at place pl of node a's queue of q goes -/
def mTake (x : Nat → Nat → Int32) (a pl q : Nat) : Nat → Nat → Int32 := mSh (ur x 35 (upd (x 35) a (nI (q - 1)))) (6 * a + pl) (6 * a + (q - 1))
theorem mDone_ne {x : Nat → Nat → Int32} {j t wd i : Nat} (q : i ≠ 13) : (mDone x j t wd).2 i = x i := by
  unfold mDone
  dsimp only
  split
  · exact ur_ne q
  · rfl
def mSReq (x : Nat → Nat → Int32) (a j : Nat) (s tm : Int32) (t wd kt ka : Nat) : Nat → Nat → Int32 :=
  if x 18 t = x 18 a then
    if kt < 6 then mPut (mDone x j t wd).2 t kt (nI j) s (nI 0) true (mDone x j t wd).1
    else if tm = nI 4 then ur x 20 (upd (x 20) j (nI 2)) else mPut x a ka (nI j) s tm false (nI 0)
  else ur x 20 (upd (x 20) j (nI 3))
section Model5
variable {l : Launch} {D : va_G} {A : Nat → ClassId} {G : Heap} {h : Hp} {n mm df : Nat} {x : Nat → Nat → Int32}
theorem rw_h {p : Program} {e : Env} {R : Room} {s : State} {m : MethodId} {args : Array Value} {below : List Frame} {meth : Method} {c : Code} {Q : State → Prop} {nL bc bs : Nat} {lo : List (Nat × Value)} {pc : Nat} {st : List Value} {y y' : Nat → Nat → Int32} (q : y = y') (k : Rw p l e R s m args below meth c Q D G nL bc bs (MH A mm y' h) n lo pc st) : Rw p l e R s m args below meth c Q D G nL bc bs (MH A mm y h) n lo pc st := by
  rw [q]; exact k
set_option maxRecDepth 4000 in
theorem k_M_take (hl : l.stackTraces = false) {a pl q : Nat} (ha : a < 12) (hq : x 35 a = nI q) (hq6 : q ≤ 6) (hpl : pl < q) (hz : ∀ k, k < 72 → x 34 k = 0 ∨ x 34 k = 1) : Ct l D A G my_M_take cd_M_take 4 none df 0 0 [.ref mm, .int (nI a), .int (nI pl)] (MH A mm x h) n (fun v h' n' => v = none ∧ h' = MH A mm (mTake x a pl q) h ∧ n' = n) (fun _ _ _ => False) := by
  refine Ct.of (by decide) hl (Nat.le_of_ble_eq_true rfl) ?_
  intro p e s m args below meth c C hr hnm ht dp
  have h34 : ∀ k, k + 1 < 72 → (mSh (ur x 35 (upd (x 35) a (nI (q - 1)))) (6 * a + pl) k) 34 (k + 1) = 0 ∨ (mSh (ur x 35 (upd (x 35) a (nI (q - 1)))) (6 * a + pl) k) 34 (k + 1) = 1 := fun k hk => by
    show shR (x 34) (6 * a + pl) k (k + 1) = 0 ∨ shR (x 34) (6 * a + pl) k (k + 1) = 1
    unfold shR
    rw [if_neg (by omega)]
    exact hz _ hk
  have h35 : ∀ k, (mSh (ur x 35 (upd (x 35) a (nI (q - 1)))) (6 * a + pl) k) 35 a = nI (q - 1) := fun k => by
    show upd (x 35) a (nI (q - 1)) a = nI (q - 1)
    exact if_pos rfl
  have loop : ∀ k, k ≤ (6 * a + (q - 1)) → 6 * a + pl ≤ k → Rw p l e (cR df 0 0) s m args below meth c (CQ D G n (fun v h' n' => v = none ∧ h' = MH A mm (mTake x a pl q) h ∧ n' = n) (fun _ _ _ => False) below args s 0 0) D G 4 0 0 (MH A mm (mSh (ur x 35 (upd (x 35) a (nI (q - 1)))) (6 * a + pl) k) h) n [(0, .ref mm), (1, .int (nI a)), (2, .int (nI pl)), (3, .int (nI k))] 17 [] := by
    refine r_loop (6 * a + (q - 1)) _ ?_ ?_
    ·
      intro hpre
      refine r_iload_n C dc_M_take_17 rfl rfl ?_
      refine r_bipush (v := nI 6) C dc_M_take_18 (by decide) ?_
      refine r_iload_n C dc_M_take_20 rfl rfl ?_
      first | refine r_imulN C dc_M_take_21 ?_ | refine r_imul C dc_M_take_21 ?_
      first | refine r_aload_n C dc_M_take_22 rfl rfl ?_ | refine r_aload_nq C dc_M_take_22 rfl rfl ?_
      refine r_get C dc_M_take_23 fl_M_110 mh_0 rfl ?_
      refine r_iload_n C dc_M_take_26 rfl rfl ?_
      refine r_ialdN C dc_M_take_27 mh_35 (by omega) (by decide) ?_
      refine sb_at (P := fun v => Rw _ _ _ _ _ _ _ _ _ _ _ _ _ _ _ _ _ _ _ _ (.int v :: _)) (h35 _) ?_
      first | refine r_iaddN C dc_M_take_28 ?_ | refine r_iadd C dc_M_take_28 ?_
      refine r_icmp_geN (tgt := 108) C dc_M_take_29 (by decide) (by omega) (by omega) (fun c29 => ?_) (fun c29 => ?_)
      ·
        exact r_vret C dp hr dc_M_take_108 (Nat.le_refl _) ⟨rfl, rfl, rfl⟩
      · exact absurd c29 (by omega)
    ·
      intro k hk ih hpre
      refine r_iload_n C dc_M_take_17 rfl rfl ?_
      refine r_bipush (v := nI 6) C dc_M_take_18 (by decide) ?_
      refine r_iload_n C dc_M_take_20 rfl rfl ?_
      first | refine r_imulN C dc_M_take_21 ?_ | refine r_imul C dc_M_take_21 ?_
      first | refine r_aload_n C dc_M_take_22 rfl rfl ?_ | refine r_aload_nq C dc_M_take_22 rfl rfl ?_
      refine r_get C dc_M_take_23 fl_M_110 mh_0 rfl ?_
      refine r_iload_n C dc_M_take_26 rfl rfl ?_
      refine r_ialdN C dc_M_take_27 mh_35 (by omega) (by decide) ?_
      refine sb_at (P := fun v => Rw _ _ _ _ _ _ _ _ _ _ _ _ _ _ _ _ _ _ _ _ (.int v :: _)) (h35 _) ?_
      first | refine r_iaddN C dc_M_take_28 ?_ | refine r_iadd C dc_M_take_28 ?_
      refine r_icmp_geN (tgt := 108) C dc_M_take_29 (by decide) (by omega) (by omega) (fun c29 => ?_) (fun c29 => ?_)
      · exact absurd c29 (by omega)
      ·
        first | refine r_aload_n C dc_M_take_32 rfl rfl ?_ | refine r_aload_nq C dc_M_take_32 rfl rfl ?_
        refine r_get C dc_M_take_33 fl_M_95 mh_0 rfl ?_
        refine r_iload_n C dc_M_take_36 rfl rfl ?_
        first | refine r_aload_n C dc_M_take_37 rfl rfl ?_ | refine r_aload_nq C dc_M_take_37 rfl rfl ?_
        refine r_get C dc_M_take_38 fl_M_95 mh_0 rfl ?_
        refine r_iload_n C dc_M_take_41 rfl rfl ?_
        refine r_iconst (v := nI 1) C dc_M_take_42 (by decide) ?_
        first | refine r_iaddN C dc_M_take_43 ?_ | refine r_iadd C dc_M_take_43 ?_
        refine r_ialdN C dc_M_take_44 mh_30 (by omega) (by decide) ?_
        refine r_iast C dc_M_take_45 mh_30 rfl (by omega) (by decide) ?_
        rw [ms_30]
        first | refine r_aload_n C dc_M_take_46 rfl rfl ?_ | refine r_aload_nq C dc_M_take_46 rfl rfl ?_
        refine r_get C dc_M_take_47 fl_M_98 mh_0 rfl ?_
        refine r_iload_n C dc_M_take_50 rfl rfl ?_
        first | refine r_aload_n C dc_M_take_51 rfl rfl ?_ | refine r_aload_nq C dc_M_take_51 rfl rfl ?_
        refine r_get C dc_M_take_52 fl_M_98 mh_0 rfl ?_
        refine r_iload_n C dc_M_take_55 rfl rfl ?_
        refine r_iconst (v := nI 1) C dc_M_take_56 (by decide) ?_
        first | refine r_iaddN C dc_M_take_57 ?_ | refine r_iadd C dc_M_take_57 ?_
        refine r_ialdN C dc_M_take_58 mh_31 (by omega) (by decide) ?_
        refine r_iast C dc_M_take_59 mh_31 rfl (by omega) (by decide) ?_
        rw [ms_31]
        first | refine r_aload_n C dc_M_take_60 rfl rfl ?_ | refine r_aload_nq C dc_M_take_60 rfl rfl ?_
        refine r_get C dc_M_take_61 fl_M_101 mh_0 rfl ?_
        refine r_iload_n C dc_M_take_64 rfl rfl ?_
        first | refine r_aload_n C dc_M_take_65 rfl rfl ?_ | refine r_aload_nq C dc_M_take_65 rfl rfl ?_
        refine r_get C dc_M_take_66 fl_M_101 mh_0 rfl ?_
        refine r_iload_n C dc_M_take_69 rfl rfl ?_
        refine r_iconst (v := nI 1) C dc_M_take_70 (by decide) ?_
        first | refine r_iaddN C dc_M_take_71 ?_ | refine r_iadd C dc_M_take_71 ?_
        refine r_ialdN C dc_M_take_72 mh_32 (by omega) (by decide) ?_
        refine r_iast C dc_M_take_73 mh_32 rfl (by omega) (by decide) ?_
        rw [ms_32]
        first | refine r_aload_n C dc_M_take_74 rfl rfl ?_ | refine r_aload_nq C dc_M_take_74 rfl rfl ?_
        refine r_get C dc_M_take_75 fl_M_107 mh_0 rfl ?_
        refine r_iload_n C dc_M_take_78 rfl rfl ?_
        first | refine r_aload_n C dc_M_take_79 rfl rfl ?_ | refine r_aload_nq C dc_M_take_79 rfl rfl ?_
        refine r_get C dc_M_take_80 fl_M_107 mh_0 rfl ?_
        refine r_iload_n C dc_M_take_83 rfl rfl ?_
        refine r_iconst (v := nI 1) C dc_M_take_84 (by decide) ?_
        first | refine r_iaddN C dc_M_take_85 ?_ | refine r_iadd C dc_M_take_85 ?_
        refine r_zaldN C dc_M_take_86 mh_34 (by omega) (by decide) ?_
        refine r_zast C dc_M_take_87 mh_34 rfl (by omega) (by decide) (h34 k (by omega)) ?_
        rw [ms_34]
        first | refine r_aload_n C dc_M_take_88 rfl rfl ?_ | refine r_aload_nq C dc_M_take_88 rfl rfl ?_
        refine r_get C dc_M_take_89 fl_M_104 mh_0 rfl ?_
        refine r_iload_n C dc_M_take_92 rfl rfl ?_
        first | refine r_aload_n C dc_M_take_93 rfl rfl ?_ | refine r_aload_nq C dc_M_take_93 rfl rfl ?_
        refine r_get C dc_M_take_94 fl_M_104 mh_0 rfl ?_
        refine r_iload_n C dc_M_take_97 rfl rfl ?_
        refine r_iconst (v := nI 1) C dc_M_take_98 (by decide) ?_
        first | refine r_iaddN C dc_M_take_99 ?_ | refine r_iadd C dc_M_take_99 ?_
        refine r_ialdN C dc_M_take_100 mh_33 (by omega) (by decide) ?_
        refine r_iast C dc_M_take_101 mh_33 rfl (by omega) (by decide) ?_
        rw [ms_33]
        refine rw_h (mSh_1 (k := k) (ur x 35 (upd (x 35) a (nI (q - 1)))) (show 6 * a + pl ≤ k from hpre)) ?_
        first | refine r_iincN C dc_M_take_102 rfl (by decide) (nw_of rfl) ?_ | refine r_iinc C dc_M_take_102 rfl rfl (by decide) (nw_of rfl) ?_
        refine r_goto (tgt := 17) C dc_M_take_105 (by decide) ?_
        refine r_weak ?_ (ih (by omega))
        exact wl_c (rfl) (wl_c (rfl) (wl_c (rfl) (wl_c (rfl) (wl_n))))
  first | refine r_aload_n C dc_M_take_0 rfl rfl ?_ | refine r_aload_nq C dc_M_take_0 rfl rfl ?_
  refine r_get C dc_M_take_1 fl_M_110 mh_0 rfl ?_
  refine r_iload_n C dc_M_take_4 rfl rfl ?_
  refine r_dup2 C dc_M_take_5 rfl rfl ?_
  refine r_ialdN C dc_M_take_6 mh_35 (by omega) (by decide) ?_
  refine sb_at (P := fun v => Rw _ _ _ _ _ _ _ _ _ _ _ _ _ _ _ _ _ _ _ _ (.int v :: _)) hq ?_
  refine r_iconst (v := nI 1) C dc_M_take_7 (by decide) ?_
  first | refine r_isubN C dc_M_take_8 (by omega) ?_ | refine r_isub C dc_M_take_8 ?_
  refine r_iast C dc_M_take_9 mh_35 rfl (by omega) (by decide) ?_
  rw [ms_35]
  refine r_bipush (v := nI 6) C dc_M_take_10 (by decide) ?_
  refine r_iload_n C dc_M_take_12 rfl rfl ?_
  first | refine r_imulN C dc_M_take_13 ?_ | refine r_imul C dc_M_take_13 ?_
  refine r_iload_n C dc_M_take_14 rfl rfl ?_
  first | refine r_iaddN C dc_M_take_15 ?_ | refine r_iadd C dc_M_take_15 ?_
  refine r_istore_n C dc_M_take_16 rfl (by decide) (nw_of rfl) ?_
  refine rw_h (mSh_0 (ur x 35 (upd (x 35) a (nI (q - 1)))) (6 * a + pl)).symm ?_
  refine r_weak ?_ (loop (6 * a + pl) (by omega) (Nat.le_refl _))
  exact wl_c (rfl) (wl_c (rfl) (wl_c (rfl) (wl_c (rfl) (wl_n))))
set_option maxRecDepth 4000 in
theorem k_M_sendRequest (hl : l.stackTraces = false) {a j t wd kt ka : Nat} {s9 tm : Int32} (ha : a < 12) (hj : j < 48) (ht0 : x 21 j = nI t) (ht1 : t < 12) (hw0 : x 23 j = nI wd) (hw1 : wd < 8) (hkt : x 35 t = nI kt) (hkt6 : kt ≤ 6) (hka : x 35 a = nI ka) (hka6 : ka < 6) : Ct l D A G my_M_sendRequest cd_M_sendRequest 6 none (df + 1) 0 0 [.ref mm, .int (nI a), .int (nI j), .int s9, .int tm] (MH A mm x h) n (fun v h' n' => v = none ∧ h' = MH A mm (mSReq x a j s9 tm t wd kt ka) h ∧ n' = n) (fun _ _ _ => False) := by
  refine Ct.of (by decide) hl (Nat.le_of_ble_eq_true rfl) ?_
  intro p e s m args below meth c C hr hnm ht dp
  first | refine r_aload_n C dc_M_sendRequest_0 rfl rfl ?_ | refine r_aload_nq C dc_M_sendRequest_0 rfl rfl ?_
  refine r_get C dc_M_sendRequest_1 fl_M_71 mh_0 rfl ?_
  refine r_iload_n C dc_M_sendRequest_4 rfl rfl ?_
  refine r_ialdN C dc_M_sendRequest_5 mh_21 (by omega) (by decide) ?_
  refine sb_at (P := fun v => Rw _ _ _ _ _ _ _ _ _ _ _ _ _ _ _ _ _ _ _ _ (.int v :: _)) ht0 ?_
  refine r_istore C dc_M_sendRequest_6 (by decide) (nw_of rfl) ?_
  first | refine r_aload_n C dc_M_sendRequest_8 rfl rfl ?_ | refine r_aload_nq C dc_M_sendRequest_8 rfl rfl ?_
  refine r_get C dc_M_sendRequest_9 fl_M_62 mh_0 rfl ?_
  refine r_iload C dc_M_sendRequest_12 rfl ?_
  refine r_ialdN C dc_M_sendRequest_14 mh_18 (by omega) (by decide) ?_
  first | refine r_aload_n C dc_M_sendRequest_15 rfl rfl ?_ | refine r_aload_nq C dc_M_sendRequest_15 rfl rfl ?_
  refine r_get C dc_M_sendRequest_16 fl_M_62 mh_0 rfl ?_
  refine r_iload_n C dc_M_sendRequest_19 rfl rfl ?_
  refine r_ialdN C dc_M_sendRequest_20 mh_18 (by omega) (by decide) ?_
  refine r_icmp_eq (tgt := 34) C dc_M_sendRequest_21 (by decide) (fun c21 => ?_) (fun c21 => ?_)
  ·
    first | refine r_aload_n C dc_M_sendRequest_34 rfl rfl ?_ | refine r_aload_nq C dc_M_sendRequest_34 rfl rfl ?_
    refine r_get C dc_M_sendRequest_35 fl_M_110 mh_0 rfl ?_
    refine r_iload C dc_M_sendRequest_38 rfl ?_
    refine r_ialdN C dc_M_sendRequest_40 mh_35 (by omega) (by decide) ?_
    refine sb_at (P := fun v => Rw _ _ _ _ _ _ _ _ _ _ _ _ _ _ _ _ _ _ _ _ (.int v :: _)) hkt ?_
    refine r_bipush (v := nI 6) C dc_M_sendRequest_41 (by decide) ?_
    refine r_icmp_geN (tgt := 64) C dc_M_sendRequest_43 (by decide) (by omega) (by omega) (fun c43 => ?_) (fun c43 => ?_)
    ·
      refine r_iload C dc_M_sendRequest_64 rfl ?_
      refine r_iconst (v := nI 4) C dc_M_sendRequest_66 (by decide) ?_
      refine r_icmp_ne (tgt := 80) C dc_M_sendRequest_67 (by decide) (fun c67 => ?_) (fun c67 => ?_)
      ·
        first | refine r_aload_n C dc_M_sendRequest_80 rfl rfl ?_ | refine r_aload_nq C dc_M_sendRequest_80 rfl rfl ?_
        refine r_iload_n C dc_M_sendRequest_81 rfl rfl ?_
        refine r_iload_n C dc_M_sendRequest_82 rfl rfl ?_
        refine r_iload_n C dc_M_sendRequest_83 rfl rfl ?_
        refine r_iload C dc_M_sendRequest_84 rfl ?_
        refine r_iconst (v := nI 0) C dc_M_sendRequest_86 (by decide) ?_
        refine r_iconst (v := nI 0) C dc_M_sendRequest_87 (by decide) ?_
        refine r_callV C dp dc_M_sendRequest_88 cw_M_139 cm_M_put cv_M_put rfl (mh_0) (k_M_put (an := false) hl ha hka hka6) (Nat.lt_succ_self _) rfl rfl (Nat.le_of_ble_eq_true rfl) (fun v88 h88 n88 q88 z88 => ?_) (fun _ _ _ _ z => z.elim)
        obtain ⟨y88, y88h, y88n⟩ := z88
        rw [y88, y88h, y88n]
        exact r_vret C dp hr dc_M_sendRequest_91 (Nat.le_refl _) ⟨rfl, by unfold mSReq; rw [if_pos c21, if_neg (show ¬ kt < 6 by omega), if_neg c67], rfl⟩
      ·
        first | refine r_aload_n C dc_M_sendRequest_70 rfl rfl ?_ | refine r_aload_nq C dc_M_sendRequest_70 rfl rfl ?_
        refine r_get C dc_M_sendRequest_71 fl_M_68 mh_0 rfl ?_
        refine r_iload_n C dc_M_sendRequest_74 rfl rfl ?_
        refine r_iconst (v := nI 2) C dc_M_sendRequest_75 (by decide) ?_
        refine r_iast C dc_M_sendRequest_76 mh_20 rfl (by omega) (by decide) ?_
        rw [ms_20]
        refine r_goto (tgt := 91) C dc_M_sendRequest_77 (by decide) ?_
        exact r_vret C dp hr dc_M_sendRequest_91 (Nat.le_refl _) ⟨rfl, by unfold mSReq; rw [if_pos c21, if_neg (show ¬ kt < 6 by omega), if_pos c67], rfl⟩
    ·
      first | refine r_aload_n C dc_M_sendRequest_46 rfl rfl ?_ | refine r_aload_nq C dc_M_sendRequest_46 rfl rfl ?_
      refine r_iload C dc_M_sendRequest_47 rfl ?_
      refine r_iload_n C dc_M_sendRequest_49 rfl rfl ?_
      refine r_iload_n C dc_M_sendRequest_50 rfl rfl ?_
      refine r_iconst (v := nI 0) C dc_M_sendRequest_51 (by decide) ?_
      refine r_iconst (v := nI 1) C dc_M_sendRequest_52 (by decide) ?_
      first | refine r_aload_n C dc_M_sendRequest_53 rfl rfl ?_ | refine r_aload_nq C dc_M_sendRequest_53 rfl rfl ?_
      refine r_iload_n C dc_M_sendRequest_54 rfl rfl ?_
      refine r_callV C dp dc_M_sendRequest_55 cw_M_143 cm_M_done cv_M_done rfl (mh_0) (k_M_done hl hj ht0 ht1 hw0 hw1) (Nat.lt_succ_self _) rfl rfl (Nat.le_of_ble_eq_true rfl) (fun v55 h55 n55 q55 z55 => ?_) (fun _ _ _ _ z => z.elim)
      obtain ⟨y55, y55h, y55n⟩ := z55
      rw [y55, y55h, y55n]
      refine r_callV C dp dc_M_sendRequest_58 cw_M_139 cm_M_put cv_M_put rfl (mh_0) (k_M_put (an := true) hl ht1 (show (mDone x j t wd).2 35 t = nI kt by rw [mDone_ne (by decide)]; exact hkt) c43) (Nat.lt_succ_self _) rfl rfl (Nat.le_of_ble_eq_true rfl) (fun v58 h58 n58 q58 z58 => ?_) (fun _ _ _ _ z => z.elim)
      obtain ⟨y58, y58h, y58n⟩ := z58
      rw [y58, y58h, y58n]
      refine r_goto (tgt := 91) C dc_M_sendRequest_61 (by decide) ?_
      exact r_vret C dp hr dc_M_sendRequest_91 (Nat.le_refl _) ⟨rfl, by unfold mSReq; rw [if_pos c21, if_pos c43], rfl⟩
  ·
    first | refine r_aload_n C dc_M_sendRequest_24 rfl rfl ?_ | refine r_aload_nq C dc_M_sendRequest_24 rfl rfl ?_
    refine r_get C dc_M_sendRequest_25 fl_M_68 mh_0 rfl ?_
    refine r_iload_n C dc_M_sendRequest_28 rfl rfl ?_
    refine r_iconst (v := nI 3) C dc_M_sendRequest_29 (by decide) ?_
    refine r_iast C dc_M_sendRequest_30 mh_20 rfl (by omega) (by decide) ?_
    rw [ms_20]
    refine r_goto (tgt := 91) C dc_M_sendRequest_31 (by decide) ?_
    exact r_vret C dp hr dc_M_sendRequest_91 (Nat.le_refl _) ⟨rfl, by unfold mSReq; rw [if_neg c21], rfl⟩
end Model5
