def fl0 (k : Nat) (v w : Int32) : Nat → Int32 := fun i => if i < k then v else w
theorem fl0_u {k : Nat} {v w : Int32} : upd (fl0 k v w) k v = fl0 (k + 1) v w := by
  funext i
  unfold upd fl0
  by_cases e : i = k
  · rw [if_pos e, if_pos (by omega)]
  · rw [if_neg e]
    by_cases e1 : i < k
    · rw [if_pos e1, if_pos (by omega)]
    · rw [if_neg e1, if_neg (by omega)]
def wd0 (k : Nat) : Nat → Int32 := fun i => if i / 8 < k then (if i % 8 = 6 then nI 100 else if i % 8 = 7 then -1 else 0) else 0
theorem wd0_u {k : Nat} : upd (upd (wd0 k) (8 * k + 6) (nI 100)) (8 * k + 7) (-1) = wd0 (k + 1) := by
  funext i
  unfold upd wd0
  by_cases e : i = 8 * k + 7
  · rw [if_pos e, if_pos (by omega), if_neg (by omega), if_pos (by omega)]
  · rw [if_neg e]
    by_cases e1 : i = 8 * k + 6
    · rw [if_pos e1, if_pos (by omega), if_pos (by omega)]
    · rw [if_neg e1]
      by_cases e2 : i / 8 < k
      · rw [if_pos e2, if_pos (show i / 8 < k + 1 by omega)]
      · rw [if_neg e2]
        by_cases e3 : i / 8 < k + 1
        · rw [if_pos e3, if_neg (by omega), if_neg (by omega)]
        · rw [if_neg e3]
/-- the model while its constructor fills its rows -/
def mX (k1 k2 k3 : Nat) : Nat → Nat → Int32 := ur (ur (ur (ur (ur (ur (ur (ur (ur (fun _ _ => 0) 37 (fun _ => nI 20)) 1 (fl0 k1 (-1) 0)) 20 (fl0 k2 (-2) 0)) 11 (fl0 k3 (nI 1) 0)) 17 (fl0 k3 (-1) 0)) 16 (fl0 k3 (-1) 0)) 15 (fl0 k3 (-1) 0)) 14 (fl0 k3 (-1) 0)) 13 (wd0 k3)
theorem mX_0 : ur (fun _ _ => 0) 37 (fun _ => nI 20) = mX 0 0 0 := by
  have e1 : ∀ v w, fl0 0 v w = fun _ => w := fun v w => by funext i; exact if_neg (by omega)
  have e2 : wd0 0 = fun _ => 0 := by funext i; exact if_neg (by omega)
  have e3 : ∀ k : Nat, k ≠ 37 → ur (ur (fun _ _ => 0 : Nat → Nat → Int32) 37 (fun _ => nI 20)) k (fun _ => 0) = ur (fun _ _ => 0) 37 (fun _ => nI 20) := by
    intro k hk
    funext j
    by_cases e : j = k
    · rw [e, ur_eq, ur_ne hk]
    · rw [ur_ne e]
  unfold mX
  rw [e1, e1, e1, e2, e3 _ (by decide), e3 _ (by decide), e3 _ (by decide), e3 _ (by decide), e3 _ (by decide), e3 _ (by decide), e3 _ (by decide), e3 _ (by decide)]
theorem ur_x {x y : Nat → Nat → Int32} {k : Nat} {f : Nat → Int32} (h1 : ∀ j, j ≠ k → x j = y j) (h2 : f = y k) : ur x k f = y := by
  funext j
  by_cases e : j = k
  · rw [e, ur_eq, h2]
  · rw [ur_ne e, h1 j e]
theorem mX_1 {k : Nat} : ur (mX k 0 0) 1 (upd (mX k 0 0 1) k (-1)) = mX (k + 1) 0 0 := by
  refine ur_x (fun j hj => ?_) (fl0_u (v := -1) (w := 0))
  unfold mX ur
  simp only [hj, if_false]
theorem mX_2 {k : Nat} : ur (mX 36 k 0) 20 (upd (mX 36 k 0 20) k (-2)) = mX 36 (k + 1) 0 := by
  refine ur_x (fun j hj => ?_) (fl0_u (v := -2) (w := 0))
  unfold mX ur
  simp only [hj, if_false]
/-- the heap with the model's object of fields fs at m and its first J arrays behind it -/
def MP (A : Nat → ClassId) (m : Nat) (fs : List Value) (J : Nat) (h : Hp) : Hp := fun a => if a < m ∨ m + J < a then h a else if a = m then some (oc 6 fs) else some (mcl A (a - m) (fun _ => 0))
theorem mp_s {A : Nat → ClassId} {m : Nat} {fs : List Value} {h : Hp} (q : h m = some (oc 6 fs)) : h = MP A m fs 0 h := by
  funext a
  unfold MP
  by_cases e : a < m ∨ m + 0 < a
  · rw [if_pos e]
  · rw [if_neg e, if_pos (by omega), show a = m by omega, q]
theorem mp_o {A : Nat → ClassId} {m J : Nat} {fs : List Value} {h : Hp} : MP A m fs J h m = some (oc 6 fs) := by
  unfold MP
  rw [if_neg (by omega), if_pos rfl]
theorem mp_st {A : Nat → ClassId} {m J : Nat} {fs fs' : List Value} {h : Hp} : hs (hs (MP A m fs J h) (m + (J + 1)) (mcl A (J + 1) (fun _ => 0))) m (oc 6 fs') = MP A m fs' (J + 1) h := by
  funext a
  unfold MP
  by_cases e : a = m
  · rw [e, hs_eq, if_neg (by omega), if_pos rfl]
  · rw [hs_ne e]
    by_cases e1 : a = m + (J + 1)
    · rw [e1, hs_eq, if_neg (by omega), if_neg (by omega), Nat.add_sub_cancel_left]
    · rw [hs_ne e1]
      by_cases e2 : a < m ∨ m + J < a
      · rw [if_pos e2, if_pos (by omega)]
      · rw [if_neg e2, if_neg e, if_neg (by omega), if_neg e]
theorem mp_e {A : Nat → ClassId} {m : Nat} {h : Hp} : MP A m (mfs m (fun _ _ => 0)) 34 h = MH A m (fun _ _ => 0) h := rfl
theorem rw_hh {l : Launch} {D : va_G} {G : Heap} {p : Program} {e : Env} {R : Room} {s : State} {m : MethodId} {args : Array Value} {below : List Frame} {meth : Method} {c : Code} {Q : State → Prop} {nL bc bs n : Nat} {lo : List (Nat × Value)} {pc : Nat} {st : List Value} {h h' : Hp} (q : h = h') (k : Rw p l e R s m args below meth c Q D G nL bc bs h' n lo pc st) : Rw p l e R s m args below meth c Q D G nL bc bs h n lo pc st := by
  rw [q]
  exact k
section Model20
variable {l : Launch} {D : va_G} {A : Nat → ClassId} {G : Heap} {h : Hp} {n mm df : Nat}
def nx (own : String) : Cond → Option Nat
  | .fieldLinkNest o i _ _ _ _ => if o = own then some i else none
  | _ => none
theorem nfl_of {own : String} {L : List Nat} (q : tbl.filterMap (nx own) = L) {ix : Nat} (h : ix ∉ L) : ∀ host ref nm ds, Cond.fieldLinkNest own ix ref nm ds host ∉ tbl := by
  intro host ref nm ds z
  refine h ?_
  rw [← q]
  exact List.mem_filterMap.mpr ⟨_, z, if_pos rfl⟩
theorem nfl_N : tbl.filterMap (nx rn_N) = [71, 68, 74] := by decide +kernel
theorem nfl_Q : tbl.filterMap (nx rn_Q) = [] := by decide +kernel
theorem nfl_R : tbl.filterMap (nx rn_R) = [] := by decide +kernel
theorem nfl_T : tbl.filterMap (nx rn_T) = [58, 61, 91, 88, 80] := by decide +kernel
theorem nfl_W : tbl.filterMap (nx rn_W) = [] := by decide +kernel
theorem nfl_S : tbl.filterMap (nx rn_S) = [65, 187, 201, 98, 121, 75, 78, 81, 84, 133, 136, 190, 196, 61, 234, 175, 178, 181, 184, 285, 158, 282, 272, 165] := by decide +kernel
theorem nfl_M : tbl.filterMap (nx rn_M) = [] := by decide +kernel
def mf0 : List Value := [.int 0, .null, .null, .null, .null, .null, .null, .null, .null, .null, .null, .null, .null, .null, .null, .null, .null, .null, .null, .null, .null, .null, .null, .null, .null, .null, .null, .null, .null, .int 0, .null, .null, .null, .null, .null, .null, .int 0, .int 0, .int 0, .int 0, .int 0, .int 0]
def mfi (m J : Nat) : List Value := [.int 0, (bif Nat.ble 1 J then .ref (m + 1) else .null), (bif Nat.ble 2 J then .ref (m + 2) else .null), (bif Nat.ble 3 J then .ref (m + 3) else .null), (bif Nat.ble 4 J then .ref (m + 4) else .null), (bif Nat.ble 5 J then .ref (m + 5) else .null), (bif Nat.ble 6 J then .ref (m + 6) else .null), (bif Nat.ble 7 J then .ref (m + 7) else .null), (bif Nat.ble 8 J then .ref (m + 8) else .null), (bif Nat.ble 9 J then .ref (m + 9) else .null), (bif Nat.ble 10 J then .ref (m + 10) else .null), (bif Nat.ble 11 J then .ref (m + 11) else .null), (bif Nat.ble 12 J then .ref (m + 12) else .null), (bif Nat.ble 13 J then .ref (m + 13) else .null), (bif Nat.ble 14 J then .ref (m + 14) else .null), (bif Nat.ble 15 J then .ref (m + 15) else .null), (bif Nat.ble 16 J then .ref (m + 16) else .null), (bif Nat.ble 17 J then .ref (m + 17) else .null), (bif Nat.ble 18 J then .ref (m + 18) else .null), (bif Nat.ble 19 J then .ref (m + 19) else .null), (bif Nat.ble 20 J then .ref (m + 20) else .null), (bif Nat.ble 21 J then .ref (m + 21) else .null), (bif Nat.ble 22 J then .ref (m + 22) else .null), (bif Nat.ble 23 J then .ref (m + 23) else .null), (bif Nat.ble 24 J then .ref (m + 24) else .null), (bif Nat.ble 25 J then .ref (m + 25) else .null), (bif Nat.ble 26 J then .ref (m + 26) else .null), (bif Nat.ble 27 J then .ref (m + 27) else .null), (bif Nat.ble 28 J then .ref (m + 28) else .null), .int 0, (bif Nat.ble 29 J then .ref (m + 29) else .null), (bif Nat.ble 30 J then .ref (m + 30) else .null), (bif Nat.ble 31 J then .ref (m + 31) else .null), (bif Nat.ble 32 J then .ref (m + 32) else .null), (bif Nat.ble 33 J then .ref (m + 33) else .null), (bif Nat.ble 34 J then .ref (m + 34) else .null), .int 0, .int 0, .int 0, .int 0, .int 0, .int 0]
theorem ac_i : Cond.arrayClass .int ∈ tbl := by decide +kernel
theorem ac_z : Cond.arrayClass .boolean ∈ tbl := by decide +kernel
set_option maxRecDepth 4000 in
theorem r_mii {p : Program} {e : Env} {R : Room} {s : State} {m : MethodId} {args : Array Value} {below : List Frame} {meth : Method} {c : Code} {Q : State → Prop} {cc : ByteArray} {nL bc bs J k sz idx pc : Nat} (C : Cx p l s m args meth c D A G cc nL rn_M) {fs fs' : List Value} {zz : Int} (d0 : decode cc pc = .ok (.aload_n 0, 1)) (d1 : decode cc (pc + 1) = .ok (.bipush zz, 2)) (hv : (Int8.ofInt zz).toInt32 = nI sz) (d3 : decode cc (pc + 3) = .ok (.newarray .int, 2)) (d5 : decode cc (pc + 5) = .ok (.putfield idx, 3)) (hsz : sz < 128) (hF : fl rn_M idx 6 k (.array .int) true) (hni : idx ∉ ([] : List Nat)) (hnm : meth.name = "<init>") (hcell : ic A sz (fun _ => 0) = mcl A (J + 1) (fun _ => 0)) (hfs : fs.set k (.ref (mm + (J + 1))) = fs') (hlen : k < fs.length) (hn : mm + 1 = G.size + n)
    (K : Rw p l e R s m args below meth c Q D G nL bc bs (MP A mm fs' (J + 1) h) (n + (J + 1)) [(0, .ref mm)] (pc + 8) []) : Rw p l e R s m args below meth c Q D G nL (bc + 1) (bs + sz) (MP A mm fs J h) (n + J) [(0, .ref mm)] pc [] := by
  refine r_aload_n C d0 rfl rfl ?_
  refine r_bipush (v := nI sz) C d1 hv ?_
  refine r_newai (k := sz) C d3 ac_i rfl (by omega) (fun _ => ?_)
  rw [show G.size + (n + J) = mm + (J + 1) by omega]
  refine r_putF C d5 hF ⟨_, _, rfl⟩ hnm (nfl_of nfl_M hni) ((hs_ne (by omega)).trans mp_o) rfl rfl hlen ?_
  rw [hcell, hfs]
  refine rw_hh mp_st ?_
  exact K
set_option maxRecDepth 4000 in
theorem r_miz {p : Program} {e : Env} {R : Room} {s : State} {m : MethodId} {args : Array Value} {below : List Frame} {meth : Method} {c : Code} {Q : State → Prop} {cc : ByteArray} {nL bc bs J k sz idx pc : Nat} (C : Cx p l s m args meth c D A G cc nL rn_M) {fs fs' : List Value} {zz : Int} (d0 : decode cc pc = .ok (.aload_n 0, 1)) (d1 : decode cc (pc + 1) = .ok (.bipush zz, 2)) (hv : (Int8.ofInt zz).toInt32 = nI sz) (d3 : decode cc (pc + 3) = .ok (.newarray .boolean, 2)) (d5 : decode cc (pc + 5) = .ok (.putfield idx, 3)) (hsz : sz < 128) (hF : fl rn_M idx 6 k (.array .boolean) true) (hni : idx ∉ ([] : List Nat)) (hnm : meth.name = "<init>") (hcell : zc A sz (fun _ => 0) = mcl A (J + 1) (fun _ => 0)) (hfs : fs.set k (.ref (mm + (J + 1))) = fs') (hlen : k < fs.length) (hn : mm + 1 = G.size + n)
    (K : Rw p l e R s m args below meth c Q D G nL bc bs (MP A mm fs' (J + 1) h) (n + (J + 1)) [(0, .ref mm)] (pc + 8) []) : Rw p l e R s m args below meth c Q D G nL (bc + 1) (bs + sz) (MP A mm fs J h) (n + J) [(0, .ref mm)] pc [] := by
  refine r_aload_n C d0 rfl rfl ?_
  refine r_bipush (v := nI sz) C d1 hv ?_
  refine r_newaz (k := sz) C d3 ac_z rfl (by omega) (fun _ => ?_)
  rw [show G.size + (n + J) = mm + (J + 1) by omega]
  refine r_putF C d5 hF ⟨_, _, rfl⟩ hnm (nfl_of nfl_M hni) ((hs_ne (by omega)).trans mp_o) rfl rfl hlen ?_
  rw [hcell, hfs]
  refine rw_hh mp_st ?_
  exact K
theorem mX_3 {k : Nat} : ur (ur (ur (ur (ur (ur (ur (mX 36 48 k) 11 (upd (mX 36 48 k 11) k (nI 1))) 17 (upd (mX 36 48 k 17) k (-1))) 16 (upd (mX 36 48 k 16) k (-1))) 15 (upd (mX 36 48 k 15) k (-1))) 14 (upd (mX 36 48 k 14) k (-1))) 13 (upd (mX 36 48 k 13) (8 * k + 6) (nI 100))) 13 (upd (upd (mX 36 48 k 13) (8 * k + 6) (nI 100)) (8 * k + 7) (-1)) = mX 36 48 (k + 1) := by
  rw [ur_ur]
  refine ur_x (fun j hj => ?_) wd0_u
  have e17 : upd (mX 36 48 k 17) k (-1) = fl0 (k + 1) (-1) 0 := fl0_u
  have e16 : upd (mX 36 48 k 16) k (-1) = fl0 (k + 1) (-1) 0 := fl0_u
  have e15 : upd (mX 36 48 k 15) k (-1) = fl0 (k + 1) (-1) 0 := fl0_u
  have e14 : upd (mX 36 48 k 14) k (-1) = fl0 (k + 1) (-1) 0 := fl0_u
  have e11 : upd (mX 36 48 k 11) k (nI 1) = fl0 (k + 1) (nI 1) 0 := fl0_u
  rw [e17, e16, e15, e14, e11]
  unfold mX ur
  simp only [hj, if_false]
  by_cases a1 : j = 14
  · simp only [a1, if_true]
  · by_cases a2 : j = 15
    · simp only [a2, if_true]
    · by_cases a3 : j = 16
      · simp only [a3]; rfl
      · by_cases a4 : j = 17
        · simp only [a4]; rfl
        · by_cases a5 : j = 11
          · simp only [a5]; rfl
          · simp only [a1, a2, a3, a4, a5, if_false]
set_option maxRecDepth 4000 in
set_option maxHeartbeats 1000000 in
theorem k_M_init2 {p : Program} {e : Env} {s : State} {m : MethodId} {args : Array Value} {below : List Frame} {meth : Method} {c : Code} (C : Cx p l s m args meth c D A G cd_M_init 2 rn_M) (hr : meth.sig.returnType = none) (dp : Dp (cR df 34 1164) df 34 1164) : Rw p l e (cR df 34 1164) s m args below meth c (CQ D G n (fun v h' n' => v = none ∧ h' = MH A mm (mX 36 48 12) h ∧ n' = n + 34) (fun _ _ _ => False) below args s 34 1164) D G 2 0 0 (MP A mm (mfi mm 34) 34 h) (n + 34) [(0, .ref mm)] 276 [] := by
  refine rw_hh (h' := MP A mm (mfs mm (fun _ _ => 0)) 34 h) rfl ?_
  refine r_aload_n C dc_M_init_276 rfl rfl ?_
  refine r_bipush (v := nI 20) C dc_M_init_277 (by decide) ?_
  refine rw_hh (h' := MH A mm (fun _ _ => 0) h) mp_e ?_
  refine r_put C dc_M_init_279 fl_M_113 mh_0 rfl rfl (Nat.le_of_ble_eq_true rfl) ?_
  rw [mp_37]
  refine rw_h mX_0 ?_
  have l3 : ∀ k, k ≤ 12 → Rw p l e (cR df 34 1164) s m args below meth c (CQ D G n (fun v h' n' => v = none ∧ h' = MH A mm (mX 36 48 12) h ∧ n' = n + 34) (fun _ _ _ => False) below args s 34 1164) D G 2 0 0 (MH A mm (mX 36 48 k) h) (n + 34) [(0, .ref mm), (1, .int (nI k))] 327 [] := by
    refine r_loop 12 _ ?_ ?_
    ·
      refine r_iload_n C dc_M_init_327 rfl rfl ?_
      refine r_bipush (v := nI 12) C dc_M_init_328 (by decide) ?_
      refine r_icmp_geN (tgt := 401) C dc_M_init_330 (by decide) (by omega) (by omega) (fun c330 => ?_) (fun c330 => ?_)
      ·
        exact r_vret C dp hr dc_M_init_401 (by omega) ⟨rfl, rfl, rfl⟩
      · exact absurd c330 (by omega)
    ·
      intro k hk ih
      refine r_iload_n C dc_M_init_327 rfl rfl ?_
      refine r_bipush (v := nI 12) C dc_M_init_328 (by decide) ?_
      refine r_icmp_geN (tgt := 401) C dc_M_init_330 (by decide) (by omega) (by omega) (fun c330 => ?_) (fun c330 => ?_)
      · exact absurd c330 (by omega)
      ·
        first | refine r_aload_n C dc_M_init_333 rfl rfl ?_ | refine r_aload_nq C dc_M_init_333 rfl rfl ?_
        refine r_get C dc_M_init_334 fl_M_41 mh_0 rfl ?_
        refine r_iload_n C dc_M_init_337 rfl rfl ?_
        refine r_iconst (v := nI 1) C dc_M_init_338 (by decide) ?_
        refine r_zast C dc_M_init_339 mh_11 rfl (by omega) (by decide) (by first | exact zi_01 _ | exact zv_0 | exact zv_1 | assumption | decide) ?_
        rw [ms_11]
        first | refine r_aload_n C dc_M_init_340 rfl rfl ?_ | refine r_aload_nq C dc_M_init_340 rfl rfl ?_
        refine r_get C dc_M_init_341 fl_M_50 mh_0 rfl ?_
        refine r_iload_n C dc_M_init_344 rfl rfl ?_
        first | refine r_aload_n C dc_M_init_345 rfl rfl ?_ | refine r_aload_nq C dc_M_init_345 rfl rfl ?_
        refine r_get C dc_M_init_346 fl_M_53 mh_0 rfl ?_
        refine r_iload_n C dc_M_init_349 rfl rfl ?_
        first | refine r_aload_n C dc_M_init_350 rfl rfl ?_ | refine r_aload_nq C dc_M_init_350 rfl rfl ?_
        refine r_get C dc_M_init_351 fl_M_56 mh_0 rfl ?_
        refine r_iload_n C dc_M_init_354 rfl rfl ?_
        first | refine r_aload_n C dc_M_init_355 rfl rfl ?_ | refine r_aload_nq C dc_M_init_355 rfl rfl ?_
        refine r_get C dc_M_init_356 fl_M_59 mh_0 rfl ?_
        refine r_iload_n C dc_M_init_359 rfl rfl ?_
        refine r_iconst (v := -1) C dc_M_init_360 (by decide) ?_
        refine r_dup_x2 C dc_M_init_361 rfl rfl rfl ?_
        refine r_iast C dc_M_init_362 mh_17 rfl (by omega) (by decide) ?_
        rw [ms_17]
        refine r_dup_x2 C dc_M_init_363 rfl rfl rfl ?_
        refine r_iast C dc_M_init_364 mh_16 rfl (by omega) (by decide) ?_
        rw [ms_16]
        refine r_dup_x2 C dc_M_init_365 rfl rfl rfl ?_
        refine r_iast C dc_M_init_366 mh_15 rfl (by omega) (by decide) ?_
        rw [ms_15]
        refine r_iast C dc_M_init_367 mh_14 rfl (by omega) (by decide) ?_
        rw [ms_14]
        first | refine r_aload_n C dc_M_init_368 rfl rfl ?_ | refine r_aload_nq C dc_M_init_368 rfl rfl ?_
        refine r_get C dc_M_init_369 fl_M_47 mh_0 rfl ?_
        refine r_bipush (v := nI 8) C dc_M_init_372 (by decide) ?_
        refine r_iload_n C dc_M_init_374 rfl rfl ?_
        first | refine r_imulN C dc_M_init_375 ?_ | refine r_imul C dc_M_init_375 ?_
        refine r_bipush (v := nI 6) C dc_M_init_376 (by decide) ?_
        first | refine r_iaddN C dc_M_init_378 ?_ | refine r_iadd C dc_M_init_378 ?_
        refine r_bipush (v := nI 100) C dc_M_init_379 (by decide) ?_
        refine r_iast C dc_M_init_381 mh_13 rfl (by omega) (by decide) ?_
        rw [ms_13]
        first | refine r_aload_n C dc_M_init_382 rfl rfl ?_ | refine r_aload_nq C dc_M_init_382 rfl rfl ?_
        refine r_get C dc_M_init_383 fl_M_47 mh_0 rfl ?_
        refine r_bipush (v := nI 8) C dc_M_init_386 (by decide) ?_
        refine r_iload_n C dc_M_init_388 rfl rfl ?_
        first | refine r_imulN C dc_M_init_389 ?_ | refine r_imul C dc_M_init_389 ?_
        refine r_bipush (v := nI 7) C dc_M_init_390 (by decide) ?_
        first | refine r_iaddN C dc_M_init_392 ?_ | refine r_iadd C dc_M_init_392 ?_
        refine r_iconst (v := -1) C dc_M_init_393 (by decide) ?_
        refine r_iast C dc_M_init_394 mh_13 rfl (by omega) (by decide) ?_
        rw [ms_13]
        refine rw_h (y' := mX 36 48 (k + 1)) ?_ ?_
        · exact mX_3
        first | refine r_iincN C dc_M_init_395 rfl (by decide) (nw_of rfl) ?_ | refine r_iinc C dc_M_init_395 rfl rfl (by decide) (nw_of rfl) ?_
        refine r_goto (tgt := 327) C dc_M_init_398 (by decide) ?_
        refine r_weak ?_ (ih)
        exact wl_c (rfl) (wl_c (rfl) (wl_n))
  have l2 : ∀ k, k ≤ 48 → Rw p l e (cR df 34 1164) s m args below meth c (CQ D G n (fun v h' n' => v = none ∧ h' = MH A mm (mX 36 48 12) h ∧ n' = n + 34) (fun _ _ _ => False) below args s 34 1164) D G 2 0 0 (MH A mm (mX 36 k 0) h) (n + 34) [(0, .ref mm), (1, .int (nI k))] 305 [] := by
    refine r_loop 48 _ ?_ ?_
    ·
      refine r_iload_n C dc_M_init_305 rfl rfl ?_
      refine r_bipush (v := nI 48) C dc_M_init_306 (by decide) ?_
      refine r_icmp_geN (tgt := 325) C dc_M_init_308 (by decide) (by omega) (by omega) (fun c308 => ?_) (fun c308 => ?_)
      ·
        refine r_iconst (v := nI 0) C dc_M_init_325 (by decide) ?_
        refine r_istore_n C dc_M_init_326 rfl (by decide) (nw_of rfl) ?_
        refine r_weak ?_ (l3 0 (by omega))
        exact wl_c (rfl) (wl_c (rfl) (wl_n))
      · exact absurd c308 (by omega)
    ·
      intro k hk ih
      refine r_iload_n C dc_M_init_305 rfl rfl ?_
      refine r_bipush (v := nI 48) C dc_M_init_306 (by decide) ?_
      refine r_icmp_geN (tgt := 325) C dc_M_init_308 (by decide) (by omega) (by omega) (fun c308 => ?_) (fun c308 => ?_)
      · exact absurd c308 (by omega)
      ·
        first | refine r_aload_n C dc_M_init_311 rfl rfl ?_ | refine r_aload_nq C dc_M_init_311 rfl rfl ?_
        refine r_get C dc_M_init_312 fl_M_68 mh_0 rfl ?_
        refine r_iload_n C dc_M_init_315 rfl rfl ?_
        refine r_bipush (v := -2) C dc_M_init_316 (by decide) ?_
        refine r_iast C dc_M_init_318 mh_20 rfl (by omega) (by decide) ?_
        rw [ms_20]
        rw [mX_2]
        first | refine r_iincN C dc_M_init_319 rfl (by decide) (nw_of rfl) ?_ | refine r_iinc C dc_M_init_319 rfl rfl (by decide) (nw_of rfl) ?_
        refine r_goto (tgt := 305) C dc_M_init_322 (by decide) ?_
        refine r_weak ?_ (ih)
        exact wl_c (rfl) (wl_c (rfl) (wl_n))
  have l1 : ∀ k, k ≤ 36 → Rw p l e (cR df 34 1164) s m args below meth c (CQ D G n (fun v h' n' => v = none ∧ h' = MH A mm (mX 36 48 12) h ∧ n' = n + 34) (fun _ _ _ => False) below args s 34 1164) D G 2 0 0 (MH A mm (mX k 0 0) h) (n + 34) [(0, .ref mm), (1, .int (nI k))] 284 [] := by
    refine r_loop 36 _ ?_ ?_
    ·
      refine r_iload_n C dc_M_init_284 rfl rfl ?_
      refine r_bipush (v := nI 36) C dc_M_init_285 (by decide) ?_
      refine r_icmp_geN (tgt := 303) C dc_M_init_287 (by decide) (by omega) (by omega) (fun c287 => ?_) (fun c287 => ?_)
      ·
        refine r_iconst (v := nI 0) C dc_M_init_303 (by decide) ?_
        refine r_istore_n C dc_M_init_304 rfl (by decide) (nw_of rfl) ?_
        refine r_weak ?_ (l2 0 (by omega))
        exact wl_c (rfl) (wl_c (rfl) (wl_n))
      · exact absurd c287 (by omega)
    ·
      intro k hk ih
      refine r_iload_n C dc_M_init_284 rfl rfl ?_
      refine r_bipush (v := nI 36) C dc_M_init_285 (by decide) ?_
      refine r_icmp_geN (tgt := 303) C dc_M_init_287 (by decide) (by omega) (by omega) (fun c287 => ?_) (fun c287 => ?_)
      · exact absurd c287 (by omega)
      ·
        first | refine r_aload_n C dc_M_init_290 rfl rfl ?_ | refine r_aload_nq C dc_M_init_290 rfl rfl ?_
        refine r_get C dc_M_init_291 fl_M_7 mh_0 rfl ?_
        refine r_iload_n C dc_M_init_294 rfl rfl ?_
        refine r_iconst (v := -1) C dc_M_init_295 (by decide) ?_
        refine r_iast C dc_M_init_296 mh_1 rfl (by omega) (by decide) ?_
        rw [ms_1]
        rw [mX_1]
        first | refine r_iincN C dc_M_init_297 rfl (by decide) (nw_of rfl) ?_ | refine r_iinc C dc_M_init_297 rfl rfl (by decide) (nw_of rfl) ?_
        refine r_goto (tgt := 284) C dc_M_init_300 (by decide) ?_
        refine r_weak ?_ (ih)
        exact wl_c (rfl) (wl_c (rfl) (wl_n))
  refine r_iconst (v := nI 0) C dc_M_init_282 (by decide) ?_
  refine r_istore_n C dc_M_init_283 rfl (by decide) (nw_of rfl) ?_
  refine r_weak ?_ (l1 0 (by omega))
  exact wl_c (rfl) (wl_c (rfl) (wl_n))
set_option maxRecDepth 4000 in
set_option maxHeartbeats 1000000 in
theorem k_M_init (hl : l.stackTraces = false) (hm : h mm = some (oc 6 mf0)) (hn : mm + 1 = G.size + n) : Ct l D A G my_M_init cd_M_init 2 none df 34 1164 [.ref mm] h n (fun v h' n' => v = none ∧ h' = MH A mm (mX 36 48 12) h ∧ n' = n + 34) (fun _ _ _ => False) := by
  refine Ct.of (by decide) hl (Nat.le_of_ble_eq_true rfl) ?_
  intro p e s m args below meth c C hr hnm ht dp
  refine rw_hh (mp_s (A := A) hm) ?_
  refine r_aload_n C dc_M_init_0 rfl rfl ?_
  refine r_objInit C dp dc_M_init_1 (tm 657 (by decide +kernel) rfl) (by decide) ?_
  refine rw_hh (h' := MP A mm (mfi mm 0) 0 h) rfl ?_
  refine r_mii (J := 0) (bc := 33) (bs := 1128) (sz := 36) (fs := mfi mm 0) (fs' := mfi mm 1) C dc_M_init_4 dc_M_init_5 (by decide) dc_M_init_7 dc_M_init_9 (by decide) fl_M_7 (by decide) hnm rfl rfl (Nat.le_of_ble_eq_true rfl) hn ?_
  refine r_miz (J := 1) (bc := 32) (bs := 1092) (sz := 36) (fs := mfi mm 1) (fs' := mfi mm 2) C dc_M_init_12 dc_M_init_13 (by decide) dc_M_init_15 dc_M_init_17 (by decide) fl_M_13 (by decide) hnm rfl rfl (Nat.le_of_ble_eq_true rfl) hn ?_
  refine r_mii (J := 2) (bc := 31) (bs := 1080) (sz := 12) (fs := mfi mm 2) (fs' := mfi mm 3) C dc_M_init_20 dc_M_init_21 (by decide) dc_M_init_23 dc_M_init_25 (by decide) fl_M_17 (by decide) hnm rfl rfl (Nat.le_of_ble_eq_true rfl) hn ?_
  refine r_mii (J := 3) (bc := 30) (bs := 1068) (sz := 12) (fs := mfi mm 3) (fs' := mfi mm 4) C dc_M_init_28 dc_M_init_29 (by decide) dc_M_init_31 dc_M_init_33 (by decide) fl_M_20 (by decide) hnm rfl rfl (Nat.le_of_ble_eq_true rfl) hn ?_
  refine r_mii (J := 4) (bc := 29) (bs := 1056) (sz := 12) (fs := mfi mm 4) (fs' := mfi mm 5) C dc_M_init_36 dc_M_init_37 (by decide) dc_M_init_39 dc_M_init_41 (by decide) fl_M_23 (by decide) hnm rfl rfl (Nat.le_of_ble_eq_true rfl) hn ?_
  refine r_mii (J := 5) (bc := 28) (bs := 1044) (sz := 12) (fs := mfi mm 5) (fs' := mfi mm 6) C dc_M_init_44 dc_M_init_45 (by decide) dc_M_init_47 dc_M_init_49 (by decide) fl_M_26 (by decide) hnm rfl rfl (Nat.le_of_ble_eq_true rfl) hn ?_
  refine r_mii (J := 6) (bc := 27) (bs := 1032) (sz := 12) (fs := mfi mm 6) (fs' := mfi mm 7) C dc_M_init_52 dc_M_init_53 (by decide) dc_M_init_55 dc_M_init_57 (by decide) fl_M_29 (by decide) hnm rfl rfl (Nat.le_of_ble_eq_true rfl) hn ?_
  refine r_miz (J := 7) (bc := 26) (bs := 1020) (sz := 12) (fs := mfi mm 7) (fs' := mfi mm 8) C dc_M_init_60 dc_M_init_61 (by decide) dc_M_init_63 dc_M_init_65 (by decide) fl_M_32 (by decide) hnm rfl rfl (Nat.le_of_ble_eq_true rfl) hn ?_
  refine r_miz (J := 8) (bc := 25) (bs := 1008) (sz := 12) (fs := mfi mm 8) (fs' := mfi mm 9) C dc_M_init_68 dc_M_init_69 (by decide) dc_M_init_71 dc_M_init_73 (by decide) fl_M_35 (by decide) hnm rfl rfl (Nat.le_of_ble_eq_true rfl) hn ?_
  refine r_miz (J := 9) (bc := 24) (bs := 996) (sz := 12) (fs := mfi mm 9) (fs' := mfi mm 10) C dc_M_init_76 dc_M_init_77 (by decide) dc_M_init_79 dc_M_init_81 (by decide) fl_M_38 (by decide) hnm rfl rfl (Nat.le_of_ble_eq_true rfl) hn ?_
  refine r_miz (J := 10) (bc := 23) (bs := 984) (sz := 12) (fs := mfi mm 10) (fs' := mfi mm 11) C dc_M_init_84 dc_M_init_85 (by decide) dc_M_init_87 dc_M_init_89 (by decide) fl_M_41 (by decide) hnm rfl rfl (Nat.le_of_ble_eq_true rfl) hn ?_
  refine r_miz (J := 11) (bc := 22) (bs := 972) (sz := 12) (fs := mfi mm 11) (fs' := mfi mm 12) C dc_M_init_92 dc_M_init_93 (by decide) dc_M_init_95 dc_M_init_97 (by decide) fl_M_44 (by decide) hnm rfl rfl (Nat.le_of_ble_eq_true rfl) hn ?_
  refine r_mii (J := 12) (bc := 21) (bs := 876) (sz := 96) (fs := mfi mm 12) (fs' := mfi mm 13) C dc_M_init_100 dc_M_init_101 (by decide) dc_M_init_103 dc_M_init_105 (by decide) fl_M_47 (by decide) hnm rfl rfl (Nat.le_of_ble_eq_true rfl) hn ?_
  refine r_mii (J := 13) (bc := 20) (bs := 864) (sz := 12) (fs := mfi mm 13) (fs' := mfi mm 14) C dc_M_init_108 dc_M_init_109 (by decide) dc_M_init_111 dc_M_init_113 (by decide) fl_M_50 (by decide) hnm rfl rfl (Nat.le_of_ble_eq_true rfl) hn ?_
  refine r_mii (J := 14) (bc := 19) (bs := 852) (sz := 12) (fs := mfi mm 14) (fs' := mfi mm 15) C dc_M_init_116 dc_M_init_117 (by decide) dc_M_init_119 dc_M_init_121 (by decide) fl_M_53 (by decide) hnm rfl rfl (Nat.le_of_ble_eq_true rfl) hn ?_
  refine r_mii (J := 15) (bc := 18) (bs := 840) (sz := 12) (fs := mfi mm 15) (fs' := mfi mm 16) C dc_M_init_124 dc_M_init_125 (by decide) dc_M_init_127 dc_M_init_129 (by decide) fl_M_56 (by decide) hnm rfl rfl (Nat.le_of_ble_eq_true rfl) hn ?_
  refine r_mii (J := 16) (bc := 17) (bs := 828) (sz := 12) (fs := mfi mm 16) (fs' := mfi mm 17) C dc_M_init_132 dc_M_init_133 (by decide) dc_M_init_135 dc_M_init_137 (by decide) fl_M_59 (by decide) hnm rfl rfl (Nat.le_of_ble_eq_true rfl) hn ?_
  refine r_mii (J := 17) (bc := 16) (bs := 816) (sz := 12) (fs := mfi mm 17) (fs' := mfi mm 18) C dc_M_init_140 dc_M_init_141 (by decide) dc_M_init_143 dc_M_init_145 (by decide) fl_M_62 (by decide) hnm rfl rfl (Nat.le_of_ble_eq_true rfl) hn ?_
  refine r_miz (J := 18) (bc := 15) (bs := 804) (sz := 12) (fs := mfi mm 18) (fs' := mfi mm 19) C dc_M_init_148 dc_M_init_149 (by decide) dc_M_init_151 dc_M_init_153 (by decide) fl_M_65 (by decide) hnm rfl rfl (Nat.le_of_ble_eq_true rfl) hn ?_
  refine r_mii (J := 19) (bc := 14) (bs := 756) (sz := 48) (fs := mfi mm 19) (fs' := mfi mm 20) C dc_M_init_156 dc_M_init_157 (by decide) dc_M_init_159 dc_M_init_161 (by decide) fl_M_68 (by decide) hnm rfl rfl (Nat.le_of_ble_eq_true rfl) hn ?_
  refine r_mii (J := 20) (bc := 13) (bs := 708) (sz := 48) (fs := mfi mm 20) (fs' := mfi mm 21) C dc_M_init_164 dc_M_init_165 (by decide) dc_M_init_167 dc_M_init_169 (by decide) fl_M_71 (by decide) hnm rfl rfl (Nat.le_of_ble_eq_true rfl) hn ?_
  refine r_mii (J := 21) (bc := 12) (bs := 660) (sz := 48) (fs := mfi mm 21) (fs' := mfi mm 22) C dc_M_init_172 dc_M_init_173 (by decide) dc_M_init_175 dc_M_init_177 (by decide) fl_M_74 (by decide) hnm rfl rfl (Nat.le_of_ble_eq_true rfl) hn ?_
  refine r_mii (J := 22) (bc := 11) (bs := 612) (sz := 48) (fs := mfi mm 22) (fs' := mfi mm 23) C dc_M_init_180 dc_M_init_181 (by decide) dc_M_init_183 dc_M_init_185 (by decide) fl_M_77 (by decide) hnm rfl rfl (Nat.le_of_ble_eq_true rfl) hn ?_
  refine r_mii (J := 23) (bc := 10) (bs := 564) (sz := 48) (fs := mfi mm 23) (fs' := mfi mm 24) C dc_M_init_188 dc_M_init_189 (by decide) dc_M_init_191 dc_M_init_193 (by decide) fl_M_80 (by decide) hnm rfl rfl (Nat.le_of_ble_eq_true rfl) hn ?_
  refine r_mii (J := 24) (bc := 9) (bs := 516) (sz := 48) (fs := mfi mm 24) (fs' := mfi mm 25) C dc_M_init_196 dc_M_init_197 (by decide) dc_M_init_199 dc_M_init_201 (by decide) fl_M_83 (by decide) hnm rfl rfl (Nat.le_of_ble_eq_true rfl) hn ?_
  refine r_mii (J := 25) (bc := 8) (bs := 468) (sz := 48) (fs := mfi mm 25) (fs' := mfi mm 26) C dc_M_init_204 dc_M_init_205 (by decide) dc_M_init_207 dc_M_init_209 (by decide) fl_M_86 (by decide) hnm rfl rfl (Nat.le_of_ble_eq_true rfl) hn ?_
  refine r_mii (J := 26) (bc := 7) (bs := 420) (sz := 48) (fs := mfi mm 26) (fs' := mfi mm 27) C dc_M_init_212 dc_M_init_213 (by decide) dc_M_init_215 dc_M_init_217 (by decide) fl_M_89 (by decide) hnm rfl rfl (Nat.le_of_ble_eq_true rfl) hn ?_
  refine r_mii (J := 27) (bc := 6) (bs := 372) (sz := 48) (fs := mfi mm 27) (fs' := mfi mm 28) C dc_M_init_220 dc_M_init_221 (by decide) dc_M_init_223 dc_M_init_225 (by decide) fl_M_92 (by decide) hnm rfl rfl (Nat.le_of_ble_eq_true rfl) hn ?_
  refine r_mii (J := 28) (bc := 5) (bs := 300) (sz := 72) (fs := mfi mm 28) (fs' := mfi mm 29) C dc_M_init_228 dc_M_init_229 (by decide) dc_M_init_231 dc_M_init_233 (by decide) fl_M_95 (by decide) hnm rfl rfl (Nat.le_of_ble_eq_true rfl) hn ?_
  refine r_mii (J := 29) (bc := 4) (bs := 228) (sz := 72) (fs := mfi mm 29) (fs' := mfi mm 30) C dc_M_init_236 dc_M_init_237 (by decide) dc_M_init_239 dc_M_init_241 (by decide) fl_M_98 (by decide) hnm rfl rfl (Nat.le_of_ble_eq_true rfl) hn ?_
  refine r_mii (J := 30) (bc := 3) (bs := 156) (sz := 72) (fs := mfi mm 30) (fs' := mfi mm 31) C dc_M_init_244 dc_M_init_245 (by decide) dc_M_init_247 dc_M_init_249 (by decide) fl_M_101 (by decide) hnm rfl rfl (Nat.le_of_ble_eq_true rfl) hn ?_
  refine r_mii (J := 31) (bc := 2) (bs := 84) (sz := 72) (fs := mfi mm 31) (fs' := mfi mm 32) C dc_M_init_252 dc_M_init_253 (by decide) dc_M_init_255 dc_M_init_257 (by decide) fl_M_104 (by decide) hnm rfl rfl (Nat.le_of_ble_eq_true rfl) hn ?_
  refine r_miz (J := 32) (bc := 1) (bs := 12) (sz := 72) (fs := mfi mm 32) (fs' := mfi mm 33) C dc_M_init_260 dc_M_init_261 (by decide) dc_M_init_263 dc_M_init_265 (by decide) fl_M_107 (by decide) hnm rfl rfl (Nat.le_of_ble_eq_true rfl) hn ?_
  refine r_mii (J := 33) (bc := 0) (bs := 0) (sz := 12) (fs := mfi mm 33) (fs' := mfi mm 34) C dc_M_init_268 dc_M_init_269 (by decide) dc_M_init_271 dc_M_init_273 (by decide) fl_M_110 (by decide) hnm rfl rfl (Nat.le_of_ble_eq_true rfl) hn ?_
  exact k_M_init2 C hr dp
end Model20
