theorem dc_fill_0 : decode cd_fill 0 = .ok (.iconst 0, 1) := by decide +kernel
theorem dc_fill_1 : decode cd_fill 1 = .ok (.istore_n 2, 1) := by decide +kernel
theorem dc_fill_2 : decode cd_fill 2 = .ok (.aload_n 0, 1) := by decide +kernel
theorem dc_fill_3 : decode cd_fill 3 = .ok (.arraylength, 1) := by decide +kernel
theorem dc_fill_4 : decode cd_fill 4 = .ok (.istore_n 3, 1) := by decide +kernel
theorem dc_fill_5 : decode cd_fill 5 = .ok (.iload_n 2, 1) := by decide +kernel
theorem dc_fill_6 : decode cd_fill 6 = .ok (.iload_n 3, 1) := by decide +kernel
theorem dc_fill_7 : decode cd_fill 7 = .ok (.if_icmp .ge 13, 3) := by decide +kernel
theorem dc_fill_10 : decode cd_fill 10 = .ok (.aload_n 0, 1) := by decide +kernel
theorem dc_fill_11 : decode cd_fill 11 = .ok (.iload_n 2, 1) := by decide +kernel
theorem dc_fill_12 : decode cd_fill 12 = .ok (.iload_n 1, 1) := by decide +kernel
theorem dc_fill_13 : decode cd_fill 13 = .ok (.iastore, 1) := by decide +kernel
theorem dc_fill_14 : decode cd_fill 14 = .ok (.iinc 2 1, 3) := by decide +kernel
theorem dc_fill_17 : decode cd_fill 17 = .ok (.goto (-12), 3) := by decide +kernel
theorem dc_fill_20 : decode cd_fill 20 = .ok (.return_, 1) := by decide +kernel
theorem arrV_ext {cI : ClassId} {N : Nat} {f g : Nat → Value} (h : ∀ j, j < N → f j = g j) : arrV cI N f = arrV cI N g := by
  unfold arrV
  congr 2
  funext j
  exact h j.val j.isLt
section Al
variable {p : Program} {l : Launch} {e : Env} {R : Room} {s : State} {m : MethodId} {args : Array Value} {below : List Frame} {meth : Method} {c : Code} {Q : State → Prop} {D : va_G} {A : Nat → ClassId} {G : Heap} {cc : ByteArray} {nL : Nat} {own : String} {bc bs : Nat} {h : Hp} {n : Nat} {lo : List (Nat × Value)} {pc : Nat} {st : List Value}
theorem r_alenI (C : Cx p l s m args meth c D A G cc nL own) {a k : Nat} {f : Nat → Int32} (d : decode cc pc = .ok (.arraylength, 1)) (hh : h a = some (ic A k f)) (K : Rw p l e R s m args below meth c Q D G nL bc bs h n lo (pc + 1) (.int (nI k) :: st)) : Rw p l e R s m args below meth c Q D G nL bc bs h n lo pc (.ref a :: st) := by
  intro H ls locs cells slots hR hz hl hf hc hsz
  have hP : va_P D clz [(a, ic A k f)] H := fun j y hy => by
    have hj : j < 1 := (List.getElem?_eq_some_iff.mp hy).1
    rw [show j = 0 by omega] at hy
    cases hy
    exact (hR.2.2 a _ hh).2
  exact va_alen C.1 C.2.1 C.2.2.2.2.1.2.1 hP 0 0 rfl rfl rfl d (K H ls locs cells slots hR hz hl hf hc hsz)
/-- an array of references, told by another row that is the same within it -/
theorem r_ext {a t k : Nat} {f f' : Nat → Option Nat} (he : ∀ j, j < k → f j = f' j) (hh : h a = some (rc A t k f)) (K : Rw p l e R s m args below meth c Q D G nL bc bs (hs h a (rc A t k f')) n lo pc st) : Rw p l e R s m args below meth c Q D G nL bc bs h n lo pc st := by
  intro H ls locs cells slots hR hz hl hf hc hsz
  refine K H ls locs cells slots ⟨hR.1, hR.2.1, fun a' x hx => ?_⟩ hz hl hf hc hsz
  by_cases e1 : a' = a
  · rw [e1, hs_eq] at hx
    cases hx
    have h1 := hR.2.2 a _ hh
    rw [e1]
    refine ⟨h1.1, ?_⟩
    have h2 : va_at D clz (a, rc A t k f) H := h1.2
    have h3 : vp_cell (A t) (k, .inr (.inr (.inr (.inr f)))) = vp_cell (A t) (k, .inr (.inr (.inr (.inr f')))) := by
      rw [vp_cell_q, vp_cell_q]
      exact arrV_ext (fun j hj => by rw [he j hj])
    show H[a]? = some (vp_cell (A t) (k, .inr (.inr (.inr (.inr f')))))
    rw [← h3]
    exact h2
  · rw [hs_ne e1] at hx
    exact hR.2.2 a' x hx
end Al
def z0 : Nat → Nat → Int32 := fun j i => if j = 11 then nI 1 else if j = 13 ∨ j = 14 ∨ j = 15 ∨ j = 16 then -1 else if j = 30 then fl0 36 (-1) 0 i else if j = 31 then rN (itP (fun _ => none) 11) (fun _ => 0) i else if j = 36 then nI 20 else if 100 ≤ j then upd (upd (fun _ => 0) 6 (nI 100)) 7 (-1) i else 0
def r0 : Nat → Nat → Option Nat := fun _ _ => none
def nf0 : List Value := [.null, .null, .null, .int 0, .int 0, .int 0, .int 0, .int 0, .int 0, .int 0, .int 0, .int 0, .int 0, .int 0, .int 0, .int 0, .int 0]
theorem nd_Q : ∀ j, j < 2 → ∀ ty, parseFieldDescriptor (ft_Q j).2.2.1 = some ty → defaultValue ty = vp_V [.null, .int 0] j := by
  intro j hj ty h
  rw [ty_Q j hj] at h
  cases h
  rcases (show j = 0 ∨ j = 1 by omega) with e | e <;> subst e <;> rfl
theorem nd_T : ∀ j, j < 2 → ∀ ty, parseFieldDescriptor (ft_T j).2.2.1 = some ty → defaultValue ty = vp_V [.null, .null] j := by
  intro j hj ty h
  rw [ty_T j hj] at h
  cases h
  rcases (show j = 0 ∨ j = 1 by omega) with e | e <;> subst e <;> rfl
theorem nd_W : ∀ j, j < 3 → ∀ ty, parseFieldDescriptor (ft_W j).2.2.1 = some ty → defaultValue ty = vp_V [.null, .null, .int 0] j := by
  intro j hj ty h
  rw [ty_W j hj] at h
  cases h
  rcases (show j = 0 ∨ j = 1 ∨ j = 2 by omega) with e | e | e <;> subst e <;> rfl
theorem nd_N : ∀ j, j < 17 → ∀ ty, parseFieldDescriptor (ft_N j).2.2.1 = some ty → defaultValue ty = vp_V nf0 j := by
  intro j hj ty h
  rw [ty_N j hj] at h
  cases h
  rcases (show j = 0 ∨ j = 1 ∨ j = 2 ∨ j = 3 ∨ j = 4 ∨ j = 5 ∨ j = 6 ∨ j = 7 ∨ j = 8 ∨ j = 9 ∨ j = 10 ∨ j = 11 ∨ j = 12 ∨ j = 13 ∨ j = 14 ∨ j = 15 ∨ j = 16 by omega) with e | e | e | e | e | e | e | e | e | e | e | e | e | e | e | e | e <;> subst e <;> rfl
theorem aR : Cond.arrayOver (.object "SerialBus$Request") ∈ tbl := by decide +kernel
theorem aN : Cond.arrayOver (.object "SerialBus$Node") ∈ tbl := by decide +kernel
theorem lQ9 : Cond.classLink rn_Q 9 "SerialBus$Request" ∈ tbl := by decide +kernel
theorem lN22 : Cond.classLink rn_N 22 "SerialBus$Request" ∈ tbl := by decide +kernel
theorem lS23 : Cond.classLink rn_S 23 "SerialBus$Node" ∈ tbl := by decide +kernel
theorem fl0_0 {v w : Int32} : fl0 0 v w = fun _ => w := by
  funext i
  exact if_neg (by omega)
section Cls13
variable {l : Launch} {D : va_G} {A : Nat → ClassId} {G : Heap} {b n df : Nat} {h hh : Hp}
set_option maxRecDepth 4000 in
set_option maxHeartbeats 1000000 in
theorem k_fill (hl : l.stackTraces = false) {fa : Nat} {vv : Int32} (hf : h fa = some (ic A 36 (fun _ => 0))) : Ct l D A G my_fill cd_fill 4 none df 0 0 [.ref fa, .int vv] h n (fun v h' n' => v = none ∧ h' = hs h fa (ic A 36 (fl0 36 vv 0)) ∧ n' = n) (fun _ _ _ => False) := by
  refine Ct.of (by decide) hl (Nat.le_of_ble_eq_true rfl) ?_
  intro p e s m args below meth c C hr hnm ht dp
  have lp : ∀ k, k ≤ 36 → Rw p l e (cR df 0 0) s m args below meth c (CQ D G n (fun v h' n' => v = none ∧ h' = hs h fa (ic A 36 (fl0 36 vv 0)) ∧ n' = n) (fun _ _ _ => False) below args s 0 0) D G 4 0 0 (hs h fa (ic A 36 (fl0 k vv 0))) n [(0, .ref fa), (1, .int vv), (2, .int (nI k)), (3, .int (nI 36))] 5 [] := by
    refine r_loop 36 _ ?_ ?_
    ·
      refine r_iload_n C dc_fill_5 rfl rfl ?_
      refine r_iload_n C dc_fill_6 rfl rfl ?_
      refine r_icmp_geN (tgt := 20) C dc_fill_7 (by decide) (by omega) (by omega) (fun c7 => ?_) (fun c7 => ?_)
      ·
        exact r_vret C dp hr dc_fill_20 (Nat.le_refl _) ⟨rfl, rfl, rfl⟩
      · exact absurd c7 (by omega)
    ·
      intro k hk ih
      refine r_iload_n C dc_fill_5 rfl rfl ?_
      refine r_iload_n C dc_fill_6 rfl rfl ?_
      refine r_icmp_geN (tgt := 20) C dc_fill_7 (by decide) (by omega) (by omega) (fun c7 => ?_) (fun c7 => ?_)
      · exact absurd c7 (by omega)
      ·
        first | refine r_aload_n C dc_fill_10 rfl rfl ?_ | refine r_aload_nq C dc_fill_10 rfl rfl ?_
        refine r_iload_n C dc_fill_11 rfl rfl ?_
        refine r_iload_n C dc_fill_12 rfl rfl ?_
        refine r_iast C dc_fill_13 (hs_eq _ _ _) rfl (by omega) (by decide) ?_
        refine rw_hh (h' := hs h fa (ic A 36 (fl0 (k + 1) vv 0))) (by rw [hs_hs, fl0_u]) ?_
        first | refine r_iincN C dc_fill_14 rfl (by decide) (nw_of rfl) ?_ | refine r_iinc C dc_fill_14 rfl rfl (by decide) (nw_of rfl) ?_
        refine r_goto (tgt := 5) C dc_fill_17 (by decide) ?_
        refine r_weak ?_ (ih)
        exact wl_c (rfl) (wl_c (rfl) (wl_c (rfl) (wl_c (rfl) (wl_n))))
  refine r_iconst (v := nI 0) C dc_fill_0 (by decide) ?_
  refine r_istore_n C dc_fill_1 rfl (by decide) (nw_of rfl) ?_
  first | refine r_aload_n C dc_fill_2 rfl rfl ?_ | refine r_aload_nq C dc_fill_2 rfl rfl ?_
  refine r_alenI C dc_fill_3 hf ?_
  refine rw_hh (h' := hs h fa (ic A 36 (fl0 0 vv 0))) (by rw [fl0_0, hs_self hf]) ?_
  refine r_istore_n C dc_fill_4 rfl (by decide) (nw_of rfl) ?_
  refine r_weak ?_ (lp 0 (by omega))
  exact wl_c (rfl) (wl_c (rfl) (wl_c (rfl) (wl_c (rfl) (wl_n))))
set_option maxRecDepth 4000 in
set_option maxHeartbeats 1000000 in
theorem k_W_findBuses0 (hl : l.stackTraces = false) {a : Nat} (h1 : h a = some (oc 4 [.ref (a + 1), .ref (a + 2), .int 0])) (h2 : h (a + 1) = some (ic A 36 (fl0 36 (-1) 0))) (h3 : h (a + 2) = some (ic A 12 (fun _ => 0))) : Ct l D A G my_W_findBuses cd_W_findBuses 5 none df 0 0 [.ref a] h n (fun v h' n' => v = none ∧ h' = (hs h (a + 2) (ic A 12 (rN (itP (fun _ => none) 11) (fun _ => 0)))) ∧ n' = n) (fun _ _ _ => False) := by
  refine Ct.of (by decide) hl (Nat.le_of_ble_eq_true rfl) ?_
  intro p e s m args below meth c C hr hnm ht dp
  have hW : ∀ f, hs h (a + 2) (ic A 12 f) a = some (oc 4 [.ref (a + 1), .ref (a + 2), .int 0]) := fun f => (hs_ne (by omega)).trans h1
  have hfar : ∀ f, hs h (a + 2) (ic A 12 f) (a + 1) = some (ic A 36 (fl0 36 (-1) 0)) := fun f => (hs_ne (by omega)).trans h2
  have hno : ∀ g k, gP (fun _ => none) g k = g := fun g k => by
    induction k with
    | zero => rfl
    | succ k ih => show gS _ (gP _ g k) k = g; rw [ih]; rfl
  have passes : ∀ ps, ps ≤ 11 → Rw p l e (cR df 0 0) s m args below meth c (CQ D G n (fun v h' n' => v = none ∧ h' = (hs h (a + 2) (ic A 12 (rN (itP (fun _ => none) 11) (fun _ => 0)))) ∧ n' = n) (fun _ _ _ => False) below args s 0 0) D G 5 0 0 (hs h (a + 2) (ic A 12 (rN (itP (fun _ => none) ps) (fun _ => 0)))) n [(0, .ref a), (1, .int (nI (ps + 1)))] 23 [] := by
    refine r_loop 11 _ ?_ ?_
    ·
      refine r_iload_n C dc_W_findBuses_23 rfl rfl ?_
      refine r_bipush (v := nI 12) C dc_W_findBuses_24 (by decide) ?_
      refine r_icmp_geN (tgt := 95) C dc_W_findBuses_26 (by decide) (by omega) (by omega) (fun c26 => ?_) (fun c26 => ?_)
      · exact r_vret C dp hr dc_W_findBuses_95 (Nat.le_refl _) ⟨rfl, rfl, rfl⟩
      · exact absurd c26 (by omega)
    ·
      intro ps hps ihp
      have lk : ∀ k, k ≤ 36 → Rw p l e (cR df 0 0) s m args below meth c (CQ D G n (fun v h' n' => v = none ∧ h' = (hs h (a + 2) (ic A 12 (rN (itP (fun _ => none) 11) (fun _ => 0)))) ∧ n' = n) (fun _ _ _ => False) below args s 0 0) D G 5 0 0 (hs h (a + 2) (ic A 12 (rN (itP (fun _ => none) ps) (fun _ => 0)))) n [(0, .ref a), (1, .int (nI (ps + 1))), (2, .int (nI k))] 31 [] := by
        refine r_loop 36 _ ?_ ?_
        ·
          refine r_iload_n C dc_W_findBuses_31 rfl rfl ?_
          refine r_bipush (v := nI 36) C dc_W_findBuses_32 (by decide) ?_
          refine r_icmp_geN (tgt := 89) C dc_W_findBuses_34 (by decide) (by omega) (by omega) (fun c34 => ?_) (fun c34 => ?_)
          ·
            refine rw_hh (h' := (hs h (a + 2) (ic A 12 (rN (itP (fun _ => none) (ps + 1)) (fun _ => 0))))) (by rw [show itP (fun _ => none) (ps + 1) = itP (fun _ => none) ps from hno _ _]) ?_
            first | refine r_iincN C dc_W_findBuses_89 rfl (by decide) (nw_of rfl) ?_ | refine r_iinc C dc_W_findBuses_89 rfl rfl (by decide) (nw_of rfl) ?_
            refine r_goto (tgt := 23) C dc_W_findBuses_92 (by decide) ?_
            refine r_weak ?_ (ihp)
            exact wl_c (rfl) (wl_c (rfl) (wl_n))
          · exact absurd c34 (by omega)
        ·
          intro k hk ih
          refine r_iload_n C dc_W_findBuses_31 rfl rfl ?_
          refine r_bipush (v := nI 36) C dc_W_findBuses_32 (by decide) ?_
          refine r_icmp_geN (tgt := 89) C dc_W_findBuses_34 (by decide) (by omega) (by omega) (fun c34 => ?_) (fun c34 => ?_)
          · exact absurd c34 (by omega)
          ·
            first | refine r_aload_n C dc_W_findBuses_37 rfl rfl ?_ | refine r_aload_nq C dc_W_findBuses_37 rfl rfl ?_
            refine r_get C dc_W_findBuses_38 fl_W_9 (hW _) rfl ?_
            refine r_iload_n C dc_W_findBuses_41 rfl rfl ?_
            refine r_ialdN C dc_W_findBuses_42 (hfar _) (by omega) (by decide) ?_
            refine sb_at (P := fun v => Rw _ _ _ _ _ _ _ _ _ _ _ _ _ _ _ _ _ _ _ _ (.int v :: _)) (show fl0 36 (-1) 0 k = -1 from if_pos hk) ?_
            refine r_iconst (v := -1) C dc_W_findBuses_43 (by decide) ?_
            refine r_icmp_eq (tgt := 83) C dc_W_findBuses_44 (by decide) (fun c44 => ?_) (fun c44 => ?_)
            ·
              first | refine r_iincN C dc_W_findBuses_83 rfl (by decide) (nw_of rfl) ?_ | refine r_iinc C dc_W_findBuses_83 rfl rfl (by decide) (nw_of rfl) ?_
              refine r_goto (tgt := 31) C dc_W_findBuses_86 (by decide) ?_
              refine r_weak ?_ (ih)
              exact wl_c (rfl) (wl_c (rfl) (wl_c (rfl) (wl_n)))
            · exact absurd rfl c44
      refine r_iload_n C dc_W_findBuses_23 rfl rfl ?_
      refine r_bipush (v := nI 12) C dc_W_findBuses_24 (by decide) ?_
      refine r_icmp_geN (tgt := 95) C dc_W_findBuses_26 (by decide) (by omega) (by omega) (fun c26 => ?_) (fun c26 => ?_)
      · exact absurd c26 (by omega)
      ·
        refine r_iconst (v := nI 0) C dc_W_findBuses_29 (by decide) ?_
        refine r_istore_n C dc_W_findBuses_30 rfl (by decide) (nw_of rfl) ?_
        refine r_weak ?_ (lk 0 (by omega))
        exact wl_c (rfl) (wl_c (rfl) (wl_c (rfl) (wl_n)))
  have lf : ∀ k, k ≤ 12 → Rw p l e (cR df 0 0) s m args below meth c (CQ D G n (fun v h' n' => v = none ∧ h' = (hs h (a + 2) (ic A 12 (rN (itP (fun _ => none) 11) (fun _ => 0)))) ∧ n' = n) (fun _ _ _ => False) below args s 0 0) D G 5 0 0 (hs h (a + 2) (ic A 12 (fun j => if j < k then nI j else 0))) n [(0, .ref a), (1, .int (nI k))] 2 [] := by
    refine r_loop 12 _ ?_ ?_
    ·
      refine r_iload_n C dc_W_findBuses_2 rfl rfl ?_
      refine r_bipush (v := nI 12) C dc_W_findBuses_3 (by decide) ?_
      refine r_icmp_geN (tgt := 21) C dc_W_findBuses_5 (by decide) (by omega) (by omega) (fun c5 => ?_) (fun c5 => ?_)
      ·
        refine rw_hh (h' := (hs h (a + 2) (ic A 12 (rN (itP (fun _ => none) 0) (fun _ => 0))))) rfl ?_
        refine r_iconst (v := nI 1) C dc_W_findBuses_21 (by decide) ?_
        refine r_istore_n C dc_W_findBuses_22 rfl (by decide) (nw_of rfl) ?_
        refine r_weak ?_ (passes 0 (by omega))
        exact wl_c (rfl) (wl_c (rfl) (wl_n))
      · exact absurd c5 (by omega)
    ·
      intro k hk ih
      refine r_iload_n C dc_W_findBuses_2 rfl rfl ?_
      refine r_bipush (v := nI 12) C dc_W_findBuses_3 (by decide) ?_
      refine r_icmp_geN (tgt := 21) C dc_W_findBuses_5 (by decide) (by omega) (by omega) (fun c5 => ?_) (fun c5 => ?_)
      · exact absurd c5 (by omega)
      ·
        first | refine r_aload_n C dc_W_findBuses_8 rfl rfl ?_ | refine r_aload_nq C dc_W_findBuses_8 rfl rfl ?_
        refine r_get C dc_W_findBuses_9 fl_W_15 (hW _) rfl ?_
        refine r_iload_n C dc_W_findBuses_12 rfl rfl ?_
        refine r_iload_n C dc_W_findBuses_13 rfl rfl ?_
        refine r_iast C dc_W_findBuses_14 (hs_eq _ _ _) rfl (by omega) (by decide) ?_
        refine rw_hh (hs_hs _ _ _ _) ?_
        refine rw_hh (h' := (hs h (a + 2) (ic A 12 (fun j => if j < k + 1 then nI j else 0)))) (by rw [rN_fill (f := fun _ => 0) hk]) ?_
        first | refine r_iincN C dc_W_findBuses_15 rfl (by decide) (nw_of rfl) ?_ | refine r_iinc C dc_W_findBuses_15 rfl rfl (by decide) (nw_of rfl) ?_
        refine r_goto (tgt := 2) C dc_W_findBuses_18 (by decide) ?_
        refine r_weak ?_ (ih)
        exact wl_c (rfl) (wl_c (rfl) (wl_n))
  refine rw_hh (h' := (hs h (a + 2) (ic A 12 (fun j => if j < 0 then nI j else 0)))) (by rw [show (fun j => if j < 0 then nI j else 0) = fun _ => 0 from funext fun j => if_neg (by omega), hs_self h3]) ?_
  refine r_iconst (v := nI 0) C dc_W_findBuses_0 (by decide) ?_
  refine r_istore_n C dc_W_findBuses_1 rfl (by decide) (nw_of rfl) ?_
  refine r_weak ?_ (lf 0 (by omega))
  exact wl_c (rfl) (wl_c (rfl) (wl_n))
set_option maxRecDepth 4000 in
set_option maxHeartbeats 1000000 in
theorem k_W_init (hl : l.stackTraces = false) {a : Nat} (hm : hh a = some (oc 4 [.null, .null, .int 0])) (hn : a + 1 = G.size + n) : Ct l D A G my_W_init cd_W_init 1 none (df + 1) 2 48 [.ref a] hh n (fun v h' n' => v = none ∧ h' = (hs (hs (hs hh (a + 1) (ic A 36 (fl0 36 (-1) 0))) (a + 2) (ic A 12 (rN (itP (fun _ => none) 11) (fun _ => 0)))) (a) (oc 4 [.ref (a + 1), .ref (a + 2), .int 0])) ∧ n' = n + 2) (fun _ _ _ => False) := by
  refine Ct.of (by decide) hl (Nat.le_of_ble_eq_true rfl) ?_
  intro p e s m args below meth c C hr hnm ht dp
  refine r_aload_n C dc_W_init_0 rfl rfl ?_
  refine r_objInit C dp dc_W_init_1 (tm 30 (by decide +kernel) rfl) (by decide) ?_
  refine r_aload_n C dc_W_init_4 rfl rfl ?_
  refine r_bipush (v := nI 36) C dc_W_init_5 (by decide) ?_
  refine r_newai (k := 36) (bc := 1) (bs := 12) C dc_W_init_7 ac_i rfl (by omega) (fun _ => ?_)
  rw [show G.size + n = a + 1 by omega]
  refine r_putF C dc_W_init_9 fl_W_9 ⟨_, _, rfl⟩ hnm (nfl_of nfl_W (by decide)) (by first | exact hs_eq _ _ _ | exact (hs_ne (by omega)).trans (hs_eq _ _ _) | exact (hs_ne (by omega)).trans ((hs_ne (by omega)).trans (hs_eq _ _ _)) | exact (hs_ne (by omega)).trans hm | exact (hs_ne (by omega)).trans ((hs_ne (by omega)).trans hm) | exact hm) rfl rfl (Nat.le_of_ble_eq_true rfl) ?_
  refine rw_hh (h' := (hs (hs hh (a + 1) (ic A 36 (fun _ => 0))) (a) (oc 4 [.ref (a + 1), .null, .int 0]))) ?_ ?_
  · funext c
    simp only [hs]
    repeat' split
    all_goals first | rfl | omega
  refine r_aload_n C dc_W_init_12 rfl rfl ?_
  refine r_bipush (v := nI 12) C dc_W_init_13 (by decide) ?_
  refine r_newai (k := 12) (bc := 0) (bs := 0) C dc_W_init_15 ac_i rfl (by omega) (fun _ => ?_)
  rw [show G.size + (n + 1) = a + 2 by omega]
  refine r_putF C dc_W_init_17 fl_W_15 ⟨_, _, rfl⟩ hnm (nfl_of nfl_W (by decide)) (by first | exact hs_eq _ _ _ | exact (hs_ne (by omega)).trans (hs_eq _ _ _) | exact (hs_ne (by omega)).trans ((hs_ne (by omega)).trans (hs_eq _ _ _)) | exact (hs_ne (by omega)).trans hm | exact (hs_ne (by omega)).trans ((hs_ne (by omega)).trans hm) | exact hm) rfl rfl (Nat.le_of_ble_eq_true rfl) ?_
  refine rw_hh (h' := (hs (hs (hs hh (a + 1) (ic A 36 (fun _ => 0))) (a + 2) (ic A 12 (fun _ => 0))) (a) (oc 4 [.ref (a + 1), .ref (a + 2), .int 0]))) ?_ ?_
  · funext c
    simp only [hs]
    repeat' split
    all_goals first | rfl | omega
  refine r_aload_n C dc_W_init_20 rfl rfl ?_
  refine r_get C dc_W_init_21 fl_W_9 (hs_eq _ _ _) rfl ?_
  refine r_iconst (v := -1) C dc_W_init_24 (by decide) ?_
  refine r_callS C dp dc_W_init_25 cw_W_18 cs_fill (k_fill (df := df) (n := n + 2) (vv := -1) hl ((hs_ne (by omega)).trans ((hs_ne (by omega)).trans (hs_eq _ _ _)))) (by omega) rfl rfl (Nat.le_of_ble_eq_true rfl) (fun v25 h25 n25 q25 z25 => ?_) (fun _ _ _ _ z => z.elim)
  obtain ⟨y25, y25h, y25n⟩ := z25
  rw [y25, y25h, y25n]
  refine rw_hh (h' := (hs (hs (hs hh (a + 1) (ic A 36 (fl0 36 (-1) 0))) (a + 2) (ic A 12 (fun _ => 0))) (a) (oc 4 [.ref (a + 1), .ref (a + 2), .int 0]))) ?_ ?_
  · funext c
    simp only [hs]
    repeat' split
    all_goals first | rfl | omega
  refine r_aload_n C dc_W_init_28 rfl rfl ?_
  refine r_callV C dp dc_W_init_29 cw_W_24 cm_W_findBuses cv_W_findBuses rfl (hs_eq _ _ _) (k_W_findBuses0 (df := df) (n := n + 2) hl (hs_eq _ _ _) ((hs_ne (by omega)).trans ((hs_ne (by omega)).trans (hs_eq _ _ _))) ((hs_ne (by omega)).trans (hs_eq _ _ _))) (by omega) rfl rfl (Nat.le_of_ble_eq_true rfl) (fun v29 h29 n29 q29 z29 => ?_) (fun _ _ _ _ z => z.elim)
  obtain ⟨y29, y29h, y29n⟩ := z29
  rw [y29, y29h, y29n]
  refine rw_hh (h' := (hs (hs (hs hh (a + 1) (ic A 36 (fl0 36 (-1) 0))) (a + 2) (ic A 12 (rN (itP (fun _ => none) 11) (fun _ => 0)))) (a) (oc 4 [.ref (a + 1), .ref (a + 2), .int 0]))) ?_ ?_
  · funext c
    simp only [hs]
    repeat' split
    all_goals first | rfl | omega
  exact r_vret C dp hr dc_W_init_32 (by omega) ⟨rfl, rfl, rfl⟩
set_option maxRecDepth 4000 in
set_option maxHeartbeats 1000000 in
theorem k_T_init (hl : l.stackTraces = false) {a : Nat} (hm : hh a = some (oc 3 [.null, .null])) (hn : a + 1 = G.size + n) : Ct l D A G my_T_init cd_T_init 1 none df 2 48 [.ref a] hh n (fun v h' n' => v = none ∧ h' = (hs (hs (hs hh (a + 1) (zc A 36 (fun _ => 0))) (a + 2) (ic A 12 (fun _ => 0))) (a) (oc 3 [.ref (a + 1), .ref (a + 2)])) ∧ n' = n + 2) (fun _ _ _ => False) := by
  refine Ct.of (by decide) hl (Nat.le_of_ble_eq_true rfl) ?_
  intro p e s m args below meth c C hr hnm ht dp
  refine r_aload_n C dc_T_init_0 rfl rfl ?_
  refine r_objInit C dp dc_T_init_1 (tm 59 (by decide +kernel) rfl) (by decide) ?_
  refine r_aload_n C dc_T_init_4 rfl rfl ?_
  refine r_bipush (v := nI 36) C dc_T_init_5 (by decide) ?_
  refine r_newaz (k := 36) (bc := 1) (bs := 12) C dc_T_init_7 ac_z rfl (by omega) (fun _ => ?_)
  rw [show G.size + n = a + 1 by omega]
  refine r_putF C dc_T_init_9 fl_T_9 ⟨_, _, rfl⟩ hnm (nfl_of nfl_T (by decide)) (by first | exact hs_eq _ _ _ | exact (hs_ne (by omega)).trans (hs_eq _ _ _) | exact (hs_ne (by omega)).trans ((hs_ne (by omega)).trans (hs_eq _ _ _)) | exact (hs_ne (by omega)).trans hm | exact (hs_ne (by omega)).trans ((hs_ne (by omega)).trans hm) | exact hm) rfl rfl (Nat.le_of_ble_eq_true rfl) ?_
  refine rw_hh (h' := (hs (hs hh (a + 1) (zc A 36 (fun _ => 0))) (a) (oc 3 [.ref (a + 1), .null]))) ?_ ?_
  · funext c
    simp only [hs]
    repeat' split
    all_goals first | rfl | omega
  refine r_aload_n C dc_T_init_12 rfl rfl ?_
  refine r_bipush (v := nI 12) C dc_T_init_13 (by decide) ?_
  refine r_newai (k := 12) (bc := 0) (bs := 0) C dc_T_init_15 ac_i rfl (by omega) (fun _ => ?_)
  rw [show G.size + (n + 1) = a + 2 by omega]
  refine r_putF C dc_T_init_17 fl_T_15 ⟨_, _, rfl⟩ hnm (nfl_of nfl_T (by decide)) (by first | exact hs_eq _ _ _ | exact (hs_ne (by omega)).trans (hs_eq _ _ _) | exact (hs_ne (by omega)).trans ((hs_ne (by omega)).trans (hs_eq _ _ _)) | exact (hs_ne (by omega)).trans hm | exact (hs_ne (by omega)).trans ((hs_ne (by omega)).trans hm) | exact hm) rfl rfl (Nat.le_of_ble_eq_true rfl) ?_
  refine rw_hh (h' := (hs (hs (hs hh (a + 1) (zc A 36 (fun _ => 0))) (a + 2) (ic A 12 (fun _ => 0))) (a) (oc 3 [.ref (a + 1), .ref (a + 2)]))) ?_ ?_
  · funext c
    simp only [hs]
    repeat' split
    all_goals first | rfl | omega
  exact r_vret C dp hr dc_T_init_20 (by omega) ⟨rfl, rfl, rfl⟩
set_option maxRecDepth 4000 in
set_option maxHeartbeats 1000000 in
theorem k_Q_init (hl : l.stackTraces = false) {a : Nat} (hm : hh a = some (oc 1 [.null, .int 0])) (hn : a + 1 = G.size + n) : Ct l D A G my_Q_init cd_Q_init 1 none df 1 6 [.ref a] hh n (fun v h' n' => v = none ∧ h' = (hs (hs hh (a + 1) (rc A 4 6 (fun _ => none))) (a) (oc 1 [.ref (a + 1), .int 0])) ∧ n' = n + 1) (fun _ _ _ => False) := by
  refine Ct.of (by decide) hl (Nat.le_of_ble_eq_true rfl) ?_
  intro p e s m args below meth c C hr hnm ht dp
  refine r_aload_n C dc_Q_init_0 rfl rfl ?_
  refine r_objInit C dp dc_Q_init_1 (tm 80 (by decide +kernel) rfl) (by decide) ?_
  refine r_aload_n C dc_Q_init_4 rfl rfl ?_
  refine r_bipush (v := nI 6) C dc_Q_init_5 (by decide) ?_
  refine r_newaR (k := 6) (t := 4) (bc := 0) (bs := 0) C dc_Q_init_7 rfl lQ9 aR rfl (by omega) (fun _ => ?_)
  rw [show G.size + n = a + 1 by omega]
  refine r_putF C dc_Q_init_10 fl_Q_11 ⟨_, _, rfl⟩ hnm (nfl_of nfl_Q (by decide)) (by first | exact hs_eq _ _ _ | exact (hs_ne (by omega)).trans (hs_eq _ _ _) | exact (hs_ne (by omega)).trans ((hs_ne (by omega)).trans (hs_eq _ _ _)) | exact (hs_ne (by omega)).trans hm | exact (hs_ne (by omega)).trans ((hs_ne (by omega)).trans hm) | exact hm) rfl rfl (Nat.le_of_ble_eq_true rfl) ?_
  exact r_vret C dp hr dc_Q_init_13 (by omega) ⟨rfl, rfl, rfl⟩
end Cls13
