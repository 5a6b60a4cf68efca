section Law5
variable {p : Program} {l : Launch} {e : Env} {R : Room} {s : State} {m : MethodId} {args : Array Value} {below : List Frame} {meth : Method} {c : Code} {Q : State → Prop} {D : va_G} {A : Nat → ClassId} {G : Heap} {bc bs n bc0 bs0 sb L k ck sn : Nat} {xs : Nat → Int32} {ot : Nat → Option Nat} {S : Nat → Bool} {x z : Nat → Nat → Int32} {r : Nat → Nat → Option Nat} {q : Nat → Nat → Int32} {f : Nat → Int64}
set_option maxRecDepth 4000 in
set_option maxHeartbeats 2000000 in
theorem la_reset (C : Cx p l s m args meth c D A G cd_L_law 7 rn_L) (dp : Dp R 30 bc0 bs0) (hX : va_X sb L xs s G) (hsb : sb < G.size) (hL : L ≤ 3584) (hk : 7 * k + 7 ≤ L) (I : LI G ot S x z r q ck sn n k) (K : ∀ (ot' : Nat → Option Nat) (S' : Nat → Bool) (x' z' : Nat → Nat → Int32) (r' : Nat → Nat → Option Nat) (q' : Nat → Nat → Int32) (f' : Nat → Int64) (ck' sn' n' : Nat), LI G ot' S' x' z' r' q' ck' sn' n' (k + 1) → Rw p l e R s m args below meth c Q D G 7 bc bs (LH A G z' r' S' q' x' f') n' [(0, .ref sb), (1, .ref G.size), (2, .ref (G.size + 68)), (3, .ref (G.size + 103)), (4, .int (nI (7 * k)))] 935 []) : Rw p l e R s m args below meth c Q D G 7 (bc + 5) (bs + 34) (LH A G z r S q x f) n [(0, .ref sb), (1, .ref G.size), (2, .ref (G.size + 68)), (3, .ref (G.size + 103)), (4, .int (nI (7 * k)))] 264 [] := by
  have hl : l.stackTraces = false := C.2.2.2.2.2.2.2
  obtain ⟨K0, hS, hn, hck, hsn⟩ := I
  obtain ⟨v1, e1⟩ : ∃ v, xs (7 * k + 1) = v := ⟨_, rfl⟩
  obtain ⟨v2, e2⟩ : ∃ v, xs (7 * k + 2) = v := ⟨_, rfl⟩
  obtain ⟨v3, e3⟩ : ∃ v, xs (7 * k + 3) = v := ⟨_, rfl⟩
  obtain ⟨v4, e4⟩ : ∃ v, xs (7 * k + 4) = v := ⟨_, rfl⟩
  by_cases z3 : v3 = 0
  ·
    by_cases z4 : v4 = 0
    ·
      have hst := st_reset K0 v1 v2 false false
      try dsimp only at hst
      have hcd : ¬ reC v1 = 0 → (reC v1 = 1) := fun hz => by
        rcases hst with ⟨hz2, _⟩ | ⟨hz2, _⟩
        · exact absurd hz2 hz
        · exact hz2
      refine r_room (bc' := bc + 1) (bs' := bs + 6) (by omega) (by omega) ?_
      first | refine r_aload_n C dc_L_law_264 rfl rfl ?_ | refine r_aload_nq C dc_L_law_264 rfl rfl ?_
      first | refine r_aload_n C dc_L_law_265 rfl rfl ?_ | refine r_aload_nq C dc_L_law_265 rfl rfl ?_
      refine r_iload C dc_L_law_266 rfl ?_
      refine r_iconst (v := nI 1) C dc_L_law_268 (by decide) ?_
      first | refine r_iaddN C dc_L_law_269 ?_ | refine r_iadd C dc_L_law_269 ?_
      refine r_scld C hX hsb (by omega) hL e1 dc_L_law_270 ?_
      first | refine r_aload_n C dc_L_law_271 rfl rfl ?_ | refine r_aload_nq C dc_L_law_271 rfl rfl ?_
      refine r_iload C dc_L_law_272 rfl ?_
      refine r_iconst (v := nI 2) C dc_L_law_274 (by decide) ?_
      first | refine r_iaddN C dc_L_law_275 ?_ | refine r_iadd C dc_L_law_275 ?_
      refine r_scld C hX hsb (by omega) hL e2 dc_L_law_276 ?_
      first | refine r_aload_n C dc_L_law_277 rfl rfl ?_ | refine r_aload_nq C dc_L_law_277 rfl rfl ?_
      refine r_iload C dc_L_law_278 rfl ?_
      refine r_iconst (v := nI 3) C dc_L_law_280 (by decide) ?_
      first | refine r_iaddN C dc_L_law_281 ?_ | refine r_iadd C dc_L_law_281 ?_
      refine r_scld C hX hsb (by omega) hL e3 dc_L_law_282 ?_
      refine r_if_eq (tgt := 290) C dc_L_law_283 (by decide) (fun _ => ?_) (fun cz => absurd z3 cz)
      refine r_iconst (v := nI 0) C dc_L_law_290 (by decide) ?_
      first | refine r_aload_n C dc_L_law_291 rfl rfl ?_ | refine r_aload_nq C dc_L_law_291 rfl rfl ?_
      refine r_iload C dc_L_law_292 rfl ?_
      refine r_iconst (v := nI 4) C dc_L_law_294 (by decide) ?_
      first | refine r_iaddN C dc_L_law_295 ?_ | refine r_iadd C dc_L_law_295 ?_
      refine r_scld C hX hsb (by omega) hL e4 dc_L_law_296 ?_
      refine r_if_eq (tgt := 304) C dc_L_law_297 (by decide) (fun _ => ?_) (fun cz => absurd z4 cz)
      refine r_iconst (v := nI 0) C dc_L_law_304 (by decide) ?_
      refine r_callSH (k := 5) C dp dc_L_law_305 gw_reset ⟨by decide, by decide, by decide +kernel⟩ (by decide) (k_L_reset (v0 := v1) (v1 := v2) (v2 := zi false) (v3 := zi false) (cd := reC v1) hl ch_S (k_S_reset (df := 0) hl) (fun v h1 n1 z => z.2.1) (fun E h1 n1 z => ⟨z.2.1, hcd z.1⟩)) (by decide) rfl rfl (Nat.le_of_ble_eq_true rfl) (fun v9 h9 n9 q9 z9 => ?_)
      rcases z9 with ⟨⟨y1, y2, y3, y4⟩, rfl⟩ | ⟨⟨y1, y2, y3, y4⟩, rfl⟩
      ·
        subst y3
        subst y4
        rcases hst with ⟨c0, t0, K1⟩ | ⟨c0, t0, K1⟩
        rotate_left
        · exact absurd (y1.symm.trans c0) (by decide)
        refine r_istore C dc_L_law_308 (by decide) (nw_of rfl) ?_
        first | refine r_aload_n C dc_L_law_310 rfl rfl ?_ | refine r_aload_nq C dc_L_law_310 rfl rfl ?_
        first | refine r_aload_n C dc_L_law_311 rfl rfl ?_ | refine r_aload_nq C dc_L_law_311 rfl rfl ?_
        refine r_iload C dc_L_law_312 rfl ?_
        refine r_iconst (v := nI 1) C dc_L_law_314 (by decide) ?_
        first | refine r_iaddN C dc_L_law_315 ?_ | refine r_iadd C dc_L_law_315 ?_
        refine r_scld C hX hsb (by omega) hL e1 dc_L_law_316 ?_
        first | refine r_aload_n C dc_L_law_317 rfl rfl ?_ | refine r_aload_nq C dc_L_law_317 rfl rfl ?_
        refine r_iload C dc_L_law_318 rfl ?_
        refine r_iconst (v := nI 2) C dc_L_law_320 (by decide) ?_
        first | refine r_iaddN C dc_L_law_321 ?_ | refine r_iadd C dc_L_law_321 ?_
        refine r_scld C hX hsb (by omega) hL e2 dc_L_law_322 ?_
        first | refine r_aload_n C dc_L_law_323 rfl rfl ?_ | refine r_aload_nq C dc_L_law_323 rfl rfl ?_
        refine r_iload C dc_L_law_324 rfl ?_
        refine r_iconst (v := nI 3) C dc_L_law_326 (by decide) ?_
        first | refine r_iaddN C dc_L_law_327 ?_ | refine r_iadd C dc_L_law_327 ?_
        refine r_scld C hX hsb (by omega) hL e3 dc_L_law_328 ?_
        refine r_if_eq (tgt := 336) C dc_L_law_329 (by decide) (fun _ => ?_) (fun cz => absurd z3 cz)
        refine r_iconst (v := nI 0) C dc_L_law_336 (by decide) ?_
        first | refine r_aload_n C dc_L_law_337 rfl rfl ?_ | refine r_aload_nq C dc_L_law_337 rfl rfl ?_
        refine r_iload C dc_L_law_338 rfl ?_
        refine r_iconst (v := nI 4) C dc_L_law_340 (by decide) ?_
        first | refine r_iaddN C dc_L_law_341 ?_ | refine r_iadd C dc_L_law_341 ?_
        refine r_scld C hX hsb (by omega) hL e4 dc_L_law_342 ?_
        refine r_if_eq (tgt := 350) C dc_L_law_343 (by decide) (fun _ => ?_) (fun cz => absurd z4 cz)
        refine r_iconst (v := nI 0) C dc_L_law_350 (by decide) ?_
        refine rw_hh (lh_mh hS) ?_
        refine r_callV C dp dc_L_law_351 cw_L_78 cm_M_reset cv_M_reset rfl mh_0 (k_M_reset (v0 := v1) (v1 := v2) (hd := false) (ct := false) (df := 0) hl) (by decide) rfl rfl (Nat.le_of_ble_eq_true rfl) (fun vm hm nm qm zm => ?_) (fun _ _ _ _ z => z.elim)
        obtain ⟨g1, g2, g3⟩ := zm
        subst g1
        subst g2
        subst g3
        first | refine r_aload_n C dc_L_law_354 rfl rfl ?_ | refine r_aload_nq C dc_L_law_354 rfl rfl ?_
        refine r_callV C dp dc_L_law_355 cw_L_67 cm_M_thrown cv_M_thrown rfl mh_0 (k_M_thrown (df := 0) hl) (by decide) rfl rfl (Nat.le_of_ble_eq_true rfl) (fun vt ht nt qt zt => ?_) (fun _ _ _ _ z => z.elim)
        obtain ⟨g1, g2, g3⟩ := zt
        subst g1
        subst g2
        subst g3
        refine r_iload C dc_L_law_358 rfl ?_
        refine r_icmp_eq (tgt := 365) C dc_L_law_360 (by decide) (fun _ => ?_) (fun cz => absurd t0 cz)
        refine rw_hh (lh_mh hS).symm ?_
        refine r_goto (tgt := 935) C dc_L_law_365 (by decide) ?_
        exact r_weak (wl_c (rfl) (wl_c (rfl) (wl_c (rfl) (wl_c (rfl) (wl_c (rfl) (wl_n)))))) (K _ _ _ _ _ _ _ _ _ _ ⟨K1, hS, by omega, by omega, by omega⟩)
      ·
        subst y3
        rcases hst with ⟨c0, _⟩ | ⟨c0, t0, K1⟩
        · exact absurd c0 y1
        refine r_istore C dc_L_law_308 (by decide) (nw_of rfl) ?_
        first | refine r_aload_n C dc_L_law_310 rfl rfl ?_ | refine r_aload_nq C dc_L_law_310 rfl rfl ?_
        first | refine r_aload_n C dc_L_law_311 rfl rfl ?_ | refine r_aload_nq C dc_L_law_311 rfl rfl ?_
        refine r_iload C dc_L_law_312 rfl ?_
        refine r_iconst (v := nI 1) C dc_L_law_314 (by decide) ?_
        first | refine r_iaddN C dc_L_law_315 ?_ | refine r_iadd C dc_L_law_315 ?_
        refine r_scld C hX hsb (by omega) hL e1 dc_L_law_316 ?_
        first | refine r_aload_n C dc_L_law_317 rfl rfl ?_ | refine r_aload_nq C dc_L_law_317 rfl rfl ?_
        refine r_iload C dc_L_law_318 rfl ?_
        refine r_iconst (v := nI 2) C dc_L_law_320 (by decide) ?_
        first | refine r_iaddN C dc_L_law_321 ?_ | refine r_iadd C dc_L_law_321 ?_
        refine r_scld C hX hsb (by omega) hL e2 dc_L_law_322 ?_
        first | refine r_aload_n C dc_L_law_323 rfl rfl ?_ | refine r_aload_nq C dc_L_law_323 rfl rfl ?_
        refine r_iload C dc_L_law_324 rfl ?_
        refine r_iconst (v := nI 3) C dc_L_law_326 (by decide) ?_
        first | refine r_iaddN C dc_L_law_327 ?_ | refine r_iadd C dc_L_law_327 ?_
        refine r_scld C hX hsb (by omega) hL e3 dc_L_law_328 ?_
        refine r_if_eq (tgt := 336) C dc_L_law_329 (by decide) (fun _ => ?_) (fun cz => absurd z3 cz)
        refine r_iconst (v := nI 0) C dc_L_law_336 (by decide) ?_
        first | refine r_aload_n C dc_L_law_337 rfl rfl ?_ | refine r_aload_nq C dc_L_law_337 rfl rfl ?_
        refine r_iload C dc_L_law_338 rfl ?_
        refine r_iconst (v := nI 4) C dc_L_law_340 (by decide) ?_
        first | refine r_iaddN C dc_L_law_341 ?_ | refine r_iadd C dc_L_law_341 ?_
        refine r_scld C hX hsb (by omega) hL e4 dc_L_law_342 ?_
        refine r_if_eq (tgt := 350) C dc_L_law_343 (by decide) (fun _ => ?_) (fun cz => absurd z4 cz)
        refine r_iconst (v := nI 0) C dc_L_law_350 (by decide) ?_
        refine rw_hh (lh_mh hS) ?_
        refine r_callV C dp dc_L_law_351 cw_L_78 cm_M_reset cv_M_reset rfl mh_0 (k_M_reset (v0 := v1) (v1 := v2) (hd := false) (ct := false) (df := 0) hl) (by decide) rfl rfl (Nat.le_of_ble_eq_true rfl) (fun vm hm nm qm zm => ?_) (fun _ _ _ _ z => z.elim)
        obtain ⟨g1, g2, g3⟩ := zm
        subst g1
        subst g2
        subst g3
        first | refine r_aload_n C dc_L_law_354 rfl rfl ?_ | refine r_aload_nq C dc_L_law_354 rfl rfl ?_
        refine r_callV C dp dc_L_law_355 cw_L_67 cm_M_thrown cv_M_thrown rfl mh_0 (k_M_thrown (df := 0) hl) (by decide) rfl rfl (Nat.le_of_ble_eq_true rfl) (fun vt ht nt qt zt => ?_) (fun _ _ _ _ z => z.elim)
        obtain ⟨g1, g2, g3⟩ := zt
        subst g1
        subst g2
        subst g3
        refine r_iload C dc_L_law_358 rfl ?_
        refine r_icmp_eq (tgt := 365) C dc_L_law_360 (by decide) (fun _ => ?_) (fun cz => absurd t0 cz)
        refine rw_hh (lh_mh hS).symm ?_
        refine r_goto (tgt := 935) C dc_L_law_365 (by decide) ?_
        exact r_weak (wl_c (rfl) (wl_c (rfl) (wl_c (rfl) (wl_c (rfl) (wl_c (rfl) (wl_n)))))) (K _ _ _ _ _ _ _ _ _ _ ⟨K1, hS, by omega, by omega, by omega⟩)
    ·
      have hst := st_reset K0 v1 v2 false true
      try dsimp only at hst
      have hcd : ¬ reC v1 = 0 → (reC v1 = 1) := fun hz => by
        rcases hst with ⟨hz2, _⟩ | ⟨hz2, _⟩
        · exact absurd hz2 hz
        · exact hz2
      refine r_room (bc' := bc + 1) (bs' := bs + 6) (by omega) (by omega) ?_
      first | refine r_aload_n C dc_L_law_264 rfl rfl ?_ | refine r_aload_nq C dc_L_law_264 rfl rfl ?_
      first | refine r_aload_n C dc_L_law_265 rfl rfl ?_ | refine r_aload_nq C dc_L_law_265 rfl rfl ?_
      refine r_iload C dc_L_law_266 rfl ?_
      refine r_iconst (v := nI 1) C dc_L_law_268 (by decide) ?_
      first | refine r_iaddN C dc_L_law_269 ?_ | refine r_iadd C dc_L_law_269 ?_
      refine r_scld C hX hsb (by omega) hL e1 dc_L_law_270 ?_
      first | refine r_aload_n C dc_L_law_271 rfl rfl ?_ | refine r_aload_nq C dc_L_law_271 rfl rfl ?_
      refine r_iload C dc_L_law_272 rfl ?_
      refine r_iconst (v := nI 2) C dc_L_law_274 (by decide) ?_
      first | refine r_iaddN C dc_L_law_275 ?_ | refine r_iadd C dc_L_law_275 ?_
      refine r_scld C hX hsb (by omega) hL e2 dc_L_law_276 ?_
      first | refine r_aload_n C dc_L_law_277 rfl rfl ?_ | refine r_aload_nq C dc_L_law_277 rfl rfl ?_
      refine r_iload C dc_L_law_278 rfl ?_
      refine r_iconst (v := nI 3) C dc_L_law_280 (by decide) ?_
      first | refine r_iaddN C dc_L_law_281 ?_ | refine r_iadd C dc_L_law_281 ?_
      refine r_scld C hX hsb (by omega) hL e3 dc_L_law_282 ?_
      refine r_if_eq (tgt := 290) C dc_L_law_283 (by decide) (fun _ => ?_) (fun cz => absurd z3 cz)
      refine r_iconst (v := nI 0) C dc_L_law_290 (by decide) ?_
      first | refine r_aload_n C dc_L_law_291 rfl rfl ?_ | refine r_aload_nq C dc_L_law_291 rfl rfl ?_
      refine r_iload C dc_L_law_292 rfl ?_
      refine r_iconst (v := nI 4) C dc_L_law_294 (by decide) ?_
      first | refine r_iaddN C dc_L_law_295 ?_ | refine r_iadd C dc_L_law_295 ?_
      refine r_scld C hX hsb (by omega) hL e4 dc_L_law_296 ?_
      refine r_if_eq (tgt := 304) C dc_L_law_297 (by decide) (fun cz => absurd cz z4) (fun _ => ?_)
      refine r_iconst (v := nI 1) C dc_L_law_300 (by decide) ?_
      refine r_goto (tgt := 305) C dc_L_law_301 (by decide) ?_
      refine r_callSH (k := 5) C dp dc_L_law_305 gw_reset ⟨by decide, by decide, by decide +kernel⟩ (by decide) (k_L_reset (v0 := v1) (v1 := v2) (v2 := zi false) (v3 := zi true) (cd := reC v1) hl ch_S (k_S_reset (df := 0) hl) (fun v h1 n1 z => z.2.1) (fun E h1 n1 z => ⟨z.2.1, hcd z.1⟩)) (by decide) rfl rfl (Nat.le_of_ble_eq_true rfl) (fun v9 h9 n9 q9 z9 => ?_)
      rcases z9 with ⟨⟨y1, y2, y3, y4⟩, rfl⟩ | ⟨⟨y1, y2, y3, y4⟩, rfl⟩
      ·
        subst y3
        subst y4
        rcases hst with ⟨c0, t0, K1⟩ | ⟨c0, t0, K1⟩
        rotate_left
        · exact absurd (y1.symm.trans c0) (by decide)
        refine r_istore C dc_L_law_308 (by decide) (nw_of rfl) ?_
        first | refine r_aload_n C dc_L_law_310 rfl rfl ?_ | refine r_aload_nq C dc_L_law_310 rfl rfl ?_
        first | refine r_aload_n C dc_L_law_311 rfl rfl ?_ | refine r_aload_nq C dc_L_law_311 rfl rfl ?_
        refine r_iload C dc_L_law_312 rfl ?_
        refine r_iconst (v := nI 1) C dc_L_law_314 (by decide) ?_
        first | refine r_iaddN C dc_L_law_315 ?_ | refine r_iadd C dc_L_law_315 ?_
        refine r_scld C hX hsb (by omega) hL e1 dc_L_law_316 ?_
        first | refine r_aload_n C dc_L_law_317 rfl rfl ?_ | refine r_aload_nq C dc_L_law_317 rfl rfl ?_
        refine r_iload C dc_L_law_318 rfl ?_
        refine r_iconst (v := nI 2) C dc_L_law_320 (by decide) ?_
        first | refine r_iaddN C dc_L_law_321 ?_ | refine r_iadd C dc_L_law_321 ?_
        refine r_scld C hX hsb (by omega) hL e2 dc_L_law_322 ?_
        first | refine r_aload_n C dc_L_law_323 rfl rfl ?_ | refine r_aload_nq C dc_L_law_323 rfl rfl ?_
        refine r_iload C dc_L_law_324 rfl ?_
        refine r_iconst (v := nI 3) C dc_L_law_326 (by decide) ?_
        first | refine r_iaddN C dc_L_law_327 ?_ | refine r_iadd C dc_L_law_327 ?_
        refine r_scld C hX hsb (by omega) hL e3 dc_L_law_328 ?_
        refine r_if_eq (tgt := 336) C dc_L_law_329 (by decide) (fun _ => ?_) (fun cz => absurd z3 cz)
        refine r_iconst (v := nI 0) C dc_L_law_336 (by decide) ?_
        first | refine r_aload_n C dc_L_law_337 rfl rfl ?_ | refine r_aload_nq C dc_L_law_337 rfl rfl ?_
        refine r_iload C dc_L_law_338 rfl ?_
        refine r_iconst (v := nI 4) C dc_L_law_340 (by decide) ?_
        first | refine r_iaddN C dc_L_law_341 ?_ | refine r_iadd C dc_L_law_341 ?_
        refine r_scld C hX hsb (by omega) hL e4 dc_L_law_342 ?_
        refine r_if_eq (tgt := 350) C dc_L_law_343 (by decide) (fun cz => absurd cz z4) (fun _ => ?_)
        refine r_iconst (v := nI 1) C dc_L_law_346 (by decide) ?_
        refine r_goto (tgt := 351) C dc_L_law_347 (by decide) ?_
        refine rw_hh (lh_mh hS) ?_
        refine r_callV C dp dc_L_law_351 cw_L_78 cm_M_reset cv_M_reset rfl mh_0 (k_M_reset (v0 := v1) (v1 := v2) (hd := false) (ct := true) (df := 0) hl) (by decide) rfl rfl (Nat.le_of_ble_eq_true rfl) (fun vm hm nm qm zm => ?_) (fun _ _ _ _ z => z.elim)
        obtain ⟨g1, g2, g3⟩ := zm
        subst g1
        subst g2
        subst g3
        first | refine r_aload_n C dc_L_law_354 rfl rfl ?_ | refine r_aload_nq C dc_L_law_354 rfl rfl ?_
        refine r_callV C dp dc_L_law_355 cw_L_67 cm_M_thrown cv_M_thrown rfl mh_0 (k_M_thrown (df := 0) hl) (by decide) rfl rfl (Nat.le_of_ble_eq_true rfl) (fun vt ht nt qt zt => ?_) (fun _ _ _ _ z => z.elim)
        obtain ⟨g1, g2, g3⟩ := zt
        subst g1
        subst g2
        subst g3
        refine r_iload C dc_L_law_358 rfl ?_
        refine r_icmp_eq (tgt := 365) C dc_L_law_360 (by decide) (fun _ => ?_) (fun cz => absurd t0 cz)
        refine rw_hh (lh_mh hS).symm ?_
        refine r_goto (tgt := 935) C dc_L_law_365 (by decide) ?_
        exact r_weak (wl_c (rfl) (wl_c (rfl) (wl_c (rfl) (wl_c (rfl) (wl_c (rfl) (wl_n)))))) (K _ _ _ _ _ _ _ _ _ _ ⟨K1, hS, by omega, by omega, by omega⟩)
      ·
        subst y3
        rcases hst with ⟨c0, _⟩ | ⟨c0, t0, K1⟩
        · exact absurd c0 y1
        refine r_istore C dc_L_law_308 (by decide) (nw_of rfl) ?_
        first | refine r_aload_n C dc_L_law_310 rfl rfl ?_ | refine r_aload_nq C dc_L_law_310 rfl rfl ?_
        first | refine r_aload_n C dc_L_law_311 rfl rfl ?_ | refine r_aload_nq C dc_L_law_311 rfl rfl ?_
        refine r_iload C dc_L_law_312 rfl ?_
        refine r_iconst (v := nI 1) C dc_L_law_314 (by decide) ?_
        first | refine r_iaddN C dc_L_law_315 ?_ | refine r_iadd C dc_L_law_315 ?_
        refine r_scld C hX hsb (by omega) hL e1 dc_L_law_316 ?_
        first | refine r_aload_n C dc_L_law_317 rfl rfl ?_ | refine r_aload_nq C dc_L_law_317 rfl rfl ?_
        refine r_iload C dc_L_law_318 rfl ?_
        refine r_iconst (v := nI 2) C dc_L_law_320 (by decide) ?_
        first | refine r_iaddN C dc_L_law_321 ?_ | refine r_iadd C dc_L_law_321 ?_
        refine r_scld C hX hsb (by omega) hL e2 dc_L_law_322 ?_
        first | refine r_aload_n C dc_L_law_323 rfl rfl ?_ | refine r_aload_nq C dc_L_law_323 rfl rfl ?_
        refine r_iload C dc_L_law_324 rfl ?_
        refine r_iconst (v := nI 3) C dc_L_law_326 (by decide) ?_
        first | refine r_iaddN C dc_L_law_327 ?_ | refine r_iadd C dc_L_law_327 ?_
        refine r_scld C hX hsb (by omega) hL e3 dc_L_law_328 ?_
        refine r_if_eq (tgt := 336) C dc_L_law_329 (by decide) (fun _ => ?_) (fun cz => absurd z3 cz)
        refine r_iconst (v := nI 0) C dc_L_law_336 (by decide) ?_
        first | refine r_aload_n C dc_L_law_337 rfl rfl ?_ | refine r_aload_nq C dc_L_law_337 rfl rfl ?_
        refine r_iload C dc_L_law_338 rfl ?_
        refine r_iconst (v := nI 4) C dc_L_law_340 (by decide) ?_
        first | refine r_iaddN C dc_L_law_341 ?_ | refine r_iadd C dc_L_law_341 ?_
        refine r_scld C hX hsb (by omega) hL e4 dc_L_law_342 ?_
        refine r_if_eq (tgt := 350) C dc_L_law_343 (by decide) (fun cz => absurd cz z4) (fun _ => ?_)
        refine r_iconst (v := nI 1) C dc_L_law_346 (by decide) ?_
        refine r_goto (tgt := 351) C dc_L_law_347 (by decide) ?_
        refine rw_hh (lh_mh hS) ?_
        refine r_callV C dp dc_L_law_351 cw_L_78 cm_M_reset cv_M_reset rfl mh_0 (k_M_reset (v0 := v1) (v1 := v2) (hd := false) (ct := true) (df := 0) hl) (by decide) rfl rfl (Nat.le_of_ble_eq_true rfl) (fun vm hm nm qm zm => ?_) (fun _ _ _ _ z => z.elim)
        obtain ⟨g1, g2, g3⟩ := zm
        subst g1
        subst g2
        subst g3
        first | refine r_aload_n C dc_L_law_354 rfl rfl ?_ | refine r_aload_nq C dc_L_law_354 rfl rfl ?_
        refine r_callV C dp dc_L_law_355 cw_L_67 cm_M_thrown cv_M_thrown rfl mh_0 (k_M_thrown (df := 0) hl) (by decide) rfl rfl (Nat.le_of_ble_eq_true rfl) (fun vt ht nt qt zt => ?_) (fun _ _ _ _ z => z.elim)
        obtain ⟨g1, g2, g3⟩ := zt
        subst g1
        subst g2
        subst g3
        refine r_iload C dc_L_law_358 rfl ?_
        refine r_icmp_eq (tgt := 365) C dc_L_law_360 (by decide) (fun _ => ?_) (fun cz => absurd t0 cz)
        refine rw_hh (lh_mh hS).symm ?_
        refine r_goto (tgt := 935) C dc_L_law_365 (by decide) ?_
        exact r_weak (wl_c (rfl) (wl_c (rfl) (wl_c (rfl) (wl_c (rfl) (wl_c (rfl) (wl_n)))))) (K _ _ _ _ _ _ _ _ _ _ ⟨K1, hS, by omega, by omega, by omega⟩)
  
  ·
    by_cases z4 : v4 = 0
    ·
      have hst := st_reset K0 v1 v2 true false
      try dsimp only at hst
      have hcd : ¬ reC v1 = 0 → (reC v1 = 1) := fun hz => by
        rcases hst with ⟨hz2, _⟩ | ⟨hz2, _⟩
        · exact absurd hz2 hz
        · exact hz2
      refine r_room (bc' := bc + 1) (bs' := bs + 6) (by omega) (by omega) ?_
      first | refine r_aload_n C dc_L_law_264 rfl rfl ?_ | refine r_aload_nq C dc_L_law_264 rfl rfl ?_
      first | refine r_aload_n C dc_L_law_265 rfl rfl ?_ | refine r_aload_nq C dc_L_law_265 rfl rfl ?_
      refine r_iload C dc_L_law_266 rfl ?_
      refine r_iconst (v := nI 1) C dc_L_law_268 (by decide) ?_
      first | refine r_iaddN C dc_L_law_269 ?_ | refine r_iadd C dc_L_law_269 ?_
      refine r_scld C hX hsb (by omega) hL e1 dc_L_law_270 ?_
      first | refine r_aload_n C dc_L_law_271 rfl rfl ?_ | refine r_aload_nq C dc_L_law_271 rfl rfl ?_
      refine r_iload C dc_L_law_272 rfl ?_
      refine r_iconst (v := nI 2) C dc_L_law_274 (by decide) ?_
      first | refine r_iaddN C dc_L_law_275 ?_ | refine r_iadd C dc_L_law_275 ?_
      refine r_scld C hX hsb (by omega) hL e2 dc_L_law_276 ?_
      first | refine r_aload_n C dc_L_law_277 rfl rfl ?_ | refine r_aload_nq C dc_L_law_277 rfl rfl ?_
      refine r_iload C dc_L_law_278 rfl ?_
      refine r_iconst (v := nI 3) C dc_L_law_280 (by decide) ?_
      first | refine r_iaddN C dc_L_law_281 ?_ | refine r_iadd C dc_L_law_281 ?_
      refine r_scld C hX hsb (by omega) hL e3 dc_L_law_282 ?_
      refine r_if_eq (tgt := 290) C dc_L_law_283 (by decide) (fun cz => absurd cz z3) (fun _ => ?_)
      refine r_iconst (v := nI 1) C dc_L_law_286 (by decide) ?_
      refine r_goto (tgt := 291) C dc_L_law_287 (by decide) ?_
      first | refine r_aload_n C dc_L_law_291 rfl rfl ?_ | refine r_aload_nq C dc_L_law_291 rfl rfl ?_
      refine r_iload C dc_L_law_292 rfl ?_
      refine r_iconst (v := nI 4) C dc_L_law_294 (by decide) ?_
      first | refine r_iaddN C dc_L_law_295 ?_ | refine r_iadd C dc_L_law_295 ?_
      refine r_scld C hX hsb (by omega) hL e4 dc_L_law_296 ?_
      refine r_if_eq (tgt := 304) C dc_L_law_297 (by decide) (fun _ => ?_) (fun cz => absurd z4 cz)
      refine r_iconst (v := nI 0) C dc_L_law_304 (by decide) ?_
      refine r_callSH (k := 5) C dp dc_L_law_305 gw_reset ⟨by decide, by decide, by decide +kernel⟩ (by decide) (k_L_reset (v0 := v1) (v1 := v2) (v2 := zi true) (v3 := zi false) (cd := reC v1) hl ch_S (k_S_reset (df := 0) hl) (fun v h1 n1 z => z.2.1) (fun E h1 n1 z => ⟨z.2.1, hcd z.1⟩)) (by decide) rfl rfl (Nat.le_of_ble_eq_true rfl) (fun v9 h9 n9 q9 z9 => ?_)
      rcases z9 with ⟨⟨y1, y2, y3, y4⟩, rfl⟩ | ⟨⟨y1, y2, y3, y4⟩, rfl⟩
      ·
        subst y3
        subst y4
        rcases hst with ⟨c0, t0, K1⟩ | ⟨c0, t0, K1⟩
        rotate_left
        · exact absurd (y1.symm.trans c0) (by decide)
        refine r_istore C dc_L_law_308 (by decide) (nw_of rfl) ?_
        first | refine r_aload_n C dc_L_law_310 rfl rfl ?_ | refine r_aload_nq C dc_L_law_310 rfl rfl ?_
        first | refine r_aload_n C dc_L_law_311 rfl rfl ?_ | refine r_aload_nq C dc_L_law_311 rfl rfl ?_
        refine r_iload C dc_L_law_312 rfl ?_
        refine r_iconst (v := nI 1) C dc_L_law_314 (by decide) ?_
        first | refine r_iaddN C dc_L_law_315 ?_ | refine r_iadd C dc_L_law_315 ?_
        refine r_scld C hX hsb (by omega) hL e1 dc_L_law_316 ?_
        first | refine r_aload_n C dc_L_law_317 rfl rfl ?_ | refine r_aload_nq C dc_L_law_317 rfl rfl ?_
        refine r_iload C dc_L_law_318 rfl ?_
        refine r_iconst (v := nI 2) C dc_L_law_320 (by decide) ?_
        first | refine r_iaddN C dc_L_law_321 ?_ | refine r_iadd C dc_L_law_321 ?_
        refine r_scld C hX hsb (by omega) hL e2 dc_L_law_322 ?_
        first | refine r_aload_n C dc_L_law_323 rfl rfl ?_ | refine r_aload_nq C dc_L_law_323 rfl rfl ?_
        refine r_iload C dc_L_law_324 rfl ?_
        refine r_iconst (v := nI 3) C dc_L_law_326 (by decide) ?_
        first | refine r_iaddN C dc_L_law_327 ?_ | refine r_iadd C dc_L_law_327 ?_
        refine r_scld C hX hsb (by omega) hL e3 dc_L_law_328 ?_
        refine r_if_eq (tgt := 336) C dc_L_law_329 (by decide) (fun cz => absurd cz z3) (fun _ => ?_)
        refine r_iconst (v := nI 1) C dc_L_law_332 (by decide) ?_
        refine r_goto (tgt := 337) C dc_L_law_333 (by decide) ?_
        first | refine r_aload_n C dc_L_law_337 rfl rfl ?_ | refine r_aload_nq C dc_L_law_337 rfl rfl ?_
        refine r_iload C dc_L_law_338 rfl ?_
        refine r_iconst (v := nI 4) C dc_L_law_340 (by decide) ?_
        first | refine r_iaddN C dc_L_law_341 ?_ | refine r_iadd C dc_L_law_341 ?_
        refine r_scld C hX hsb (by omega) hL e4 dc_L_law_342 ?_
        refine r_if_eq (tgt := 350) C dc_L_law_343 (by decide) (fun _ => ?_) (fun cz => absurd z4 cz)
        refine r_iconst (v := nI 0) C dc_L_law_350 (by decide) ?_
        refine rw_hh (lh_mh hS) ?_
        refine r_callV C dp dc_L_law_351 cw_L_78 cm_M_reset cv_M_reset rfl mh_0 (k_M_reset (v0 := v1) (v1 := v2) (hd := true) (ct := false) (df := 0) hl) (by decide) rfl rfl (Nat.le_of_ble_eq_true rfl) (fun vm hm nm qm zm => ?_) (fun _ _ _ _ z => z.elim)
        obtain ⟨g1, g2, g3⟩ := zm
        subst g1
        subst g2
        subst g3
        first | refine r_aload_n C dc_L_law_354 rfl rfl ?_ | refine r_aload_nq C dc_L_law_354 rfl rfl ?_
        refine r_callV C dp dc_L_law_355 cw_L_67 cm_M_thrown cv_M_thrown rfl mh_0 (k_M_thrown (df := 0) hl) (by decide) rfl rfl (Nat.le_of_ble_eq_true rfl) (fun vt ht nt qt zt => ?_) (fun _ _ _ _ z => z.elim)
        obtain ⟨g1, g2, g3⟩ := zt
        subst g1
        subst g2
        subst g3
        refine r_iload C dc_L_law_358 rfl ?_
        refine r_icmp_eq (tgt := 365) C dc_L_law_360 (by decide) (fun _ => ?_) (fun cz => absurd t0 cz)
        refine rw_hh (lh_mh hS).symm ?_
        refine r_goto (tgt := 935) C dc_L_law_365 (by decide) ?_
        exact r_weak (wl_c (rfl) (wl_c (rfl) (wl_c (rfl) (wl_c (rfl) (wl_c (rfl) (wl_n)))))) (K _ _ _ _ _ _ _ _ _ _ ⟨K1, hS, by omega, by omega, by omega⟩)
      ·
        subst y3
        rcases hst with ⟨c0, _⟩ | ⟨c0, t0, K1⟩
        · exact absurd c0 y1
        refine r_istore C dc_L_law_308 (by decide) (nw_of rfl) ?_
        first | refine r_aload_n C dc_L_law_310 rfl rfl ?_ | refine r_aload_nq C dc_L_law_310 rfl rfl ?_
        first | refine r_aload_n C dc_L_law_311 rfl rfl ?_ | refine r_aload_nq C dc_L_law_311 rfl rfl ?_
        refine r_iload C dc_L_law_312 rfl ?_
        refine r_iconst (v := nI 1) C dc_L_law_314 (by decide) ?_
        first | refine r_iaddN C dc_L_law_315 ?_ | refine r_iadd C dc_L_law_315 ?_
        refine r_scld C hX hsb (by omega) hL e1 dc_L_law_316 ?_
        first | refine r_aload_n C dc_L_law_317 rfl rfl ?_ | refine r_aload_nq C dc_L_law_317 rfl rfl ?_
        refine r_iload C dc_L_law_318 rfl ?_
        refine r_iconst (v := nI 2) C dc_L_law_320 (by decide) ?_
        first | refine r_iaddN C dc_L_law_321 ?_ | refine r_iadd C dc_L_law_321 ?_
        refine r_scld C hX hsb (by omega) hL e2 dc_L_law_322 ?_
        first | refine r_aload_n C dc_L_law_323 rfl rfl ?_ | refine r_aload_nq C dc_L_law_323 rfl rfl ?_
        refine r_iload C dc_L_law_324 rfl ?_
        refine r_iconst (v := nI 3) C dc_L_law_326 (by decide) ?_
        first | refine r_iaddN C dc_L_law_327 ?_ | refine r_iadd C dc_L_law_327 ?_
        refine r_scld C hX hsb (by omega) hL e3 dc_L_law_328 ?_
        refine r_if_eq (tgt := 336) C dc_L_law_329 (by decide) (fun cz => absurd cz z3) (fun _ => ?_)
        refine r_iconst (v := nI 1) C dc_L_law_332 (by decide) ?_
        refine r_goto (tgt := 337) C dc_L_law_333 (by decide) ?_
        first | refine r_aload_n C dc_L_law_337 rfl rfl ?_ | refine r_aload_nq C dc_L_law_337 rfl rfl ?_
        refine r_iload C dc_L_law_338 rfl ?_
        refine r_iconst (v := nI 4) C dc_L_law_340 (by decide) ?_
        first | refine r_iaddN C dc_L_law_341 ?_ | refine r_iadd C dc_L_law_341 ?_
        refine r_scld C hX hsb (by omega) hL e4 dc_L_law_342 ?_
        refine r_if_eq (tgt := 350) C dc_L_law_343 (by decide) (fun _ => ?_) (fun cz => absurd z4 cz)
        refine r_iconst (v := nI 0) C dc_L_law_350 (by decide) ?_
        refine rw_hh (lh_mh hS) ?_
        refine r_callV C dp dc_L_law_351 cw_L_78 cm_M_reset cv_M_reset rfl mh_0 (k_M_reset (v0 := v1) (v1 := v2) (hd := true) (ct := false) (df := 0) hl) (by decide) rfl rfl (Nat.le_of_ble_eq_true rfl) (fun vm hm nm qm zm => ?_) (fun _ _ _ _ z => z.elim)
        obtain ⟨g1, g2, g3⟩ := zm
        subst g1
        subst g2
        subst g3
        first | refine r_aload_n C dc_L_law_354 rfl rfl ?_ | refine r_aload_nq C dc_L_law_354 rfl rfl ?_
        refine r_callV C dp dc_L_law_355 cw_L_67 cm_M_thrown cv_M_thrown rfl mh_0 (k_M_thrown (df := 0) hl) (by decide) rfl rfl (Nat.le_of_ble_eq_true rfl) (fun vt ht nt qt zt => ?_) (fun _ _ _ _ z => z.elim)
        obtain ⟨g1, g2, g3⟩ := zt
        subst g1
        subst g2
        subst g3
        refine r_iload C dc_L_law_358 rfl ?_
        refine r_icmp_eq (tgt := 365) C dc_L_law_360 (by decide) (fun _ => ?_) (fun cz => absurd t0 cz)
        refine rw_hh (lh_mh hS).symm ?_
        refine r_goto (tgt := 935) C dc_L_law_365 (by decide) ?_
        exact r_weak (wl_c (rfl) (wl_c (rfl) (wl_c (rfl) (wl_c (rfl) (wl_c (rfl) (wl_n)))))) (K _ _ _ _ _ _ _ _ _ _ ⟨K1, hS, by omega, by omega, by omega⟩)
    ·
      have hst := st_reset K0 v1 v2 true true
      try dsimp only at hst
      have hcd : ¬ reC v1 = 0 → (reC v1 = 1) := fun hz => by
        rcases hst with ⟨hz2, _⟩ | ⟨hz2, _⟩
        · exact absurd hz2 hz
        · exact hz2
      refine r_room (bc' := bc + 1) (bs' := bs + 6) (by omega) (by omega) ?_
      first | refine r_aload_n C dc_L_law_264 rfl rfl ?_ | refine r_aload_nq C dc_L_law_264 rfl rfl ?_
      first | refine r_aload_n C dc_L_law_265 rfl rfl ?_ | refine r_aload_nq C dc_L_law_265 rfl rfl ?_
      refine r_iload C dc_L_law_266 rfl ?_
      refine r_iconst (v := nI 1) C dc_L_law_268 (by decide) ?_
      first | refine r_iaddN C dc_L_law_269 ?_ | refine r_iadd C dc_L_law_269 ?_
      refine r_scld C hX hsb (by omega) hL e1 dc_L_law_270 ?_
      first | refine r_aload_n C dc_L_law_271 rfl rfl ?_ | refine r_aload_nq C dc_L_law_271 rfl rfl ?_
      refine r_iload C dc_L_law_272 rfl ?_
      refine r_iconst (v := nI 2) C dc_L_law_274 (by decide) ?_
      first | refine r_iaddN C dc_L_law_275 ?_ | refine r_iadd C dc_L_law_275 ?_
      refine r_scld C hX hsb (by omega) hL e2 dc_L_law_276 ?_
      first | refine r_aload_n C dc_L_law_277 rfl rfl ?_ | refine r_aload_nq C dc_L_law_277 rfl rfl ?_
      refine r_iload C dc_L_law_278 rfl ?_
      refine r_iconst (v := nI 3) C dc_L_law_280 (by decide) ?_
      first | refine r_iaddN C dc_L_law_281 ?_ | refine r_iadd C dc_L_law_281 ?_
      refine r_scld C hX hsb (by omega) hL e3 dc_L_law_282 ?_
      refine r_if_eq (tgt := 290) C dc_L_law_283 (by decide) (fun cz => absurd cz z3) (fun _ => ?_)
      refine r_iconst (v := nI 1) C dc_L_law_286 (by decide) ?_
      refine r_goto (tgt := 291) C dc_L_law_287 (by decide) ?_
      first | refine r_aload_n C dc_L_law_291 rfl rfl ?_ | refine r_aload_nq C dc_L_law_291 rfl rfl ?_
      refine r_iload C dc_L_law_292 rfl ?_
      refine r_iconst (v := nI 4) C dc_L_law_294 (by decide) ?_
      first | refine r_iaddN C dc_L_law_295 ?_ | refine r_iadd C dc_L_law_295 ?_
      refine r_scld C hX hsb (by omega) hL e4 dc_L_law_296 ?_
      refine r_if_eq (tgt := 304) C dc_L_law_297 (by decide) (fun cz => absurd cz z4) (fun _ => ?_)
      refine r_iconst (v := nI 1) C dc_L_law_300 (by decide) ?_
      refine r_goto (tgt := 305) C dc_L_law_301 (by decide) ?_
      refine r_callSH (k := 5) C dp dc_L_law_305 gw_reset ⟨by decide, by decide, by decide +kernel⟩ (by decide) (k_L_reset (v0 := v1) (v1 := v2) (v2 := zi true) (v3 := zi true) (cd := reC v1) hl ch_S (k_S_reset (df := 0) hl) (fun v h1 n1 z => z.2.1) (fun E h1 n1 z => ⟨z.2.1, hcd z.1⟩)) (by decide) rfl rfl (Nat.le_of_ble_eq_true rfl) (fun v9 h9 n9 q9 z9 => ?_)
      rcases z9 with ⟨⟨y1, y2, y3, y4⟩, rfl⟩ | ⟨⟨y1, y2, y3, y4⟩, rfl⟩
      ·
        subst y3
        subst y4
        rcases hst with ⟨c0, t0, K1⟩ | ⟨c0, t0, K1⟩
        rotate_left
        · exact absurd (y1.symm.trans c0) (by decide)
        refine r_istore C dc_L_law_308 (by decide) (nw_of rfl) ?_
        first | refine r_aload_n C dc_L_law_310 rfl rfl ?_ | refine r_aload_nq C dc_L_law_310 rfl rfl ?_
        first | refine r_aload_n C dc_L_law_311 rfl rfl ?_ | refine r_aload_nq C dc_L_law_311 rfl rfl ?_
        refine r_iload C dc_L_law_312 rfl ?_
        refine r_iconst (v := nI 1) C dc_L_law_314 (by decide) ?_
        first | refine r_iaddN C dc_L_law_315 ?_ | refine r_iadd C dc_L_law_315 ?_
        refine r_scld C hX hsb (by omega) hL e1 dc_L_law_316 ?_
        first | refine r_aload_n C dc_L_law_317 rfl rfl ?_ | refine r_aload_nq C dc_L_law_317 rfl rfl ?_
        refine r_iload C dc_L_law_318 rfl ?_
        refine r_iconst (v := nI 2) C dc_L_law_320 (by decide) ?_
        first | refine r_iaddN C dc_L_law_321 ?_ | refine r_iadd C dc_L_law_321 ?_
        refine r_scld C hX hsb (by omega) hL e2 dc_L_law_322 ?_
        first | refine r_aload_n C dc_L_law_323 rfl rfl ?_ | refine r_aload_nq C dc_L_law_323 rfl rfl ?_
        refine r_iload C dc_L_law_324 rfl ?_
        refine r_iconst (v := nI 3) C dc_L_law_326 (by decide) ?_
        first | refine r_iaddN C dc_L_law_327 ?_ | refine r_iadd C dc_L_law_327 ?_
        refine r_scld C hX hsb (by omega) hL e3 dc_L_law_328 ?_
        refine r_if_eq (tgt := 336) C dc_L_law_329 (by decide) (fun cz => absurd cz z3) (fun _ => ?_)
        refine r_iconst (v := nI 1) C dc_L_law_332 (by decide) ?_
        refine r_goto (tgt := 337) C dc_L_law_333 (by decide) ?_
        first | refine r_aload_n C dc_L_law_337 rfl rfl ?_ | refine r_aload_nq C dc_L_law_337 rfl rfl ?_
        refine r_iload C dc_L_law_338 rfl ?_
        refine r_iconst (v := nI 4) C dc_L_law_340 (by decide) ?_
        first | refine r_iaddN C dc_L_law_341 ?_ | refine r_iadd C dc_L_law_341 ?_
        refine r_scld C hX hsb (by omega) hL e4 dc_L_law_342 ?_
        refine r_if_eq (tgt := 350) C dc_L_law_343 (by decide) (fun cz => absurd cz z4) (fun _ => ?_)
        refine r_iconst (v := nI 1) C dc_L_law_346 (by decide) ?_
        refine r_goto (tgt := 351) C dc_L_law_347 (by decide) ?_
        refine rw_hh (lh_mh hS) ?_
        refine r_callV C dp dc_L_law_351 cw_L_78 cm_M_reset cv_M_reset rfl mh_0 (k_M_reset (v0 := v1) (v1 := v2) (hd := true) (ct := true) (df := 0) hl) (by decide) rfl rfl (Nat.le_of_ble_eq_true rfl) (fun vm hm nm qm zm => ?_) (fun _ _ _ _ z => z.elim)
        obtain ⟨g1, g2, g3⟩ := zm
        subst g1
        subst g2
        subst g3
        first | refine r_aload_n C dc_L_law_354 rfl rfl ?_ | refine r_aload_nq C dc_L_law_354 rfl rfl ?_
        refine r_callV C dp dc_L_law_355 cw_L_67 cm_M_thrown cv_M_thrown rfl mh_0 (k_M_thrown (df := 0) hl) (by decide) rfl rfl (Nat.le_of_ble_eq_true rfl) (fun vt ht nt qt zt => ?_) (fun _ _ _ _ z => z.elim)
        obtain ⟨g1, g2, g3⟩ := zt
        subst g1
        subst g2
        subst g3
        refine r_iload C dc_L_law_358 rfl ?_
        refine r_icmp_eq (tgt := 365) C dc_L_law_360 (by decide) (fun _ => ?_) (fun cz => absurd t0 cz)
        refine rw_hh (lh_mh hS).symm ?_
        refine r_goto (tgt := 935) C dc_L_law_365 (by decide) ?_
        exact r_weak (wl_c (rfl) (wl_c (rfl) (wl_c (rfl) (wl_c (rfl) (wl_c (rfl) (wl_n)))))) (K _ _ _ _ _ _ _ _ _ _ ⟨K1, hS, by omega, by omega, by omega⟩)
      ·
        subst y3
        rcases hst with ⟨c0, _⟩ | ⟨c0, t0, K1⟩
        · exact absurd c0 y1
        refine r_istore C dc_L_law_308 (by decide) (nw_of rfl) ?_
        first | refine r_aload_n C dc_L_law_310 rfl rfl ?_ | refine r_aload_nq C dc_L_law_310 rfl rfl ?_
        first | refine r_aload_n C dc_L_law_311 rfl rfl ?_ | refine r_aload_nq C dc_L_law_311 rfl rfl ?_
        refine r_iload C dc_L_law_312 rfl ?_
        refine r_iconst (v := nI 1) C dc_L_law_314 (by decide) ?_
        first | refine r_iaddN C dc_L_law_315 ?_ | refine r_iadd C dc_L_law_315 ?_
        refine r_scld C hX hsb (by omega) hL e1 dc_L_law_316 ?_
        first | refine r_aload_n C dc_L_law_317 rfl rfl ?_ | refine r_aload_nq C dc_L_law_317 rfl rfl ?_
        refine r_iload C dc_L_law_318 rfl ?_
        refine r_iconst (v := nI 2) C dc_L_law_320 (by decide) ?_
        first | refine r_iaddN C dc_L_law_321 ?_ | refine r_iadd C dc_L_law_321 ?_
        refine r_scld C hX hsb (by omega) hL e2 dc_L_law_322 ?_
        first | refine r_aload_n C dc_L_law_323 rfl rfl ?_ | refine r_aload_nq C dc_L_law_323 rfl rfl ?_
        refine r_iload C dc_L_law_324 rfl ?_
        refine r_iconst (v := nI 3) C dc_L_law_326 (by decide) ?_
        first | refine r_iaddN C dc_L_law_327 ?_ | refine r_iadd C dc_L_law_327 ?_
        refine r_scld C hX hsb (by omega) hL e3 dc_L_law_328 ?_
        refine r_if_eq (tgt := 336) C dc_L_law_329 (by decide) (fun cz => absurd cz z3) (fun _ => ?_)
        refine r_iconst (v := nI 1) C dc_L_law_332 (by decide) ?_
        refine r_goto (tgt := 337) C dc_L_law_333 (by decide) ?_
        first | refine r_aload_n C dc_L_law_337 rfl rfl ?_ | refine r_aload_nq C dc_L_law_337 rfl rfl ?_
        refine r_iload C dc_L_law_338 rfl ?_
        refine r_iconst (v := nI 4) C dc_L_law_340 (by decide) ?_
        first | refine r_iaddN C dc_L_law_341 ?_ | refine r_iadd C dc_L_law_341 ?_
        refine r_scld C hX hsb (by omega) hL e4 dc_L_law_342 ?_
        refine r_if_eq (tgt := 350) C dc_L_law_343 (by decide) (fun cz => absurd cz z4) (fun _ => ?_)
        refine r_iconst (v := nI 1) C dc_L_law_346 (by decide) ?_
        refine r_goto (tgt := 351) C dc_L_law_347 (by decide) ?_
        refine rw_hh (lh_mh hS) ?_
        refine r_callV C dp dc_L_law_351 cw_L_78 cm_M_reset cv_M_reset rfl mh_0 (k_M_reset (v0 := v1) (v1 := v2) (hd := true) (ct := true) (df := 0) hl) (by decide) rfl rfl (Nat.le_of_ble_eq_true rfl) (fun vm hm nm qm zm => ?_) (fun _ _ _ _ z => z.elim)
        obtain ⟨g1, g2, g3⟩ := zm
        subst g1
        subst g2
        subst g3
        first | refine r_aload_n C dc_L_law_354 rfl rfl ?_ | refine r_aload_nq C dc_L_law_354 rfl rfl ?_
        refine r_callV C dp dc_L_law_355 cw_L_67 cm_M_thrown cv_M_thrown rfl mh_0 (k_M_thrown (df := 0) hl) (by decide) rfl rfl (Nat.le_of_ble_eq_true rfl) (fun vt ht nt qt zt => ?_) (fun _ _ _ _ z => z.elim)
        obtain ⟨g1, g2, g3⟩ := zt
        subst g1
        subst g2
        subst g3
        refine r_iload C dc_L_law_358 rfl ?_
        refine r_icmp_eq (tgt := 365) C dc_L_law_360 (by decide) (fun _ => ?_) (fun cz => absurd t0 cz)
        refine rw_hh (lh_mh hS).symm ?_
        refine r_goto (tgt := 935) C dc_L_law_365 (by decide) ?_
        exact r_weak (wl_c (rfl) (wl_c (rfl) (wl_c (rfl) (wl_c (rfl) (wl_c (rfl) (wl_n)))))) (K _ _ _ _ _ _ _ _ _ _ ⟨K1, hS, by omega, by omega, by omega⟩)
set_option maxRecDepth 4000 in
set_option maxHeartbeats 2000000 in
theorem la_ask (C : Cx p l s m args meth c D A G cd_L_law 7 rn_L) (dp : Dp R 30 bc0 bs0) (hX : va_X sb L xs s G) (hsb : sb < G.size) (hL : L ≤ 3584) (hk : 7 * k + 7 ≤ L) (I : LI G ot S x z r q ck sn n k) (K : ∀ (ot' : Nat → Option Nat) (S' : Nat → Bool) (x' z' : Nat → Nat → Int32) (r' : Nat → Nat → Option Nat) (q' : Nat → Nat → Int32) (f' : Nat → Int64) (ck' sn' n' : Nat), LI G ot' S' x' z' r' q' ck' sn' n' (k + 1) → Rw p l e R s m args below meth c Q D G 7 bc bs (LH A G z' r' S' q' x' f') n' [(0, .ref sb), (1, .ref G.size), (2, .ref (G.size + 68)), (3, .ref (G.size + 103)), (4, .int (nI (7 * k)))] 935 []) : Rw p l e R s m args below meth c Q D G 7 (bc + 5) (bs + 34) (LH A G z r S q x f) n [(0, .ref sb), (1, .ref G.size), (2, .ref (G.size + 68)), (3, .ref (G.size + 103)), (4, .int (nI (7 * k)))] 368 [] := by
  have hl : l.stackTraces = false := C.2.2.2.2.2.2.2
  obtain ⟨K0, hS, hn, hck, hsn⟩ := I
  obtain ⟨v1, e1⟩ : ∃ v, xs (7 * k + 1) = v := ⟨_, rfl⟩
  obtain ⟨v2, e2⟩ : ∃ v, xs (7 * k + 2) = v := ⟨_, rfl⟩
  obtain ⟨v3, e3⟩ : ∃ v, xs (7 * k + 3) = v := ⟨_, rfl⟩
  obtain ⟨v4, e4⟩ : ∃ v, xs (7 * k + 4) = v := ⟨_, rfl⟩
  obtain ⟨v5, e5⟩ : ∃ v, xs (7 * k + 5) = v := ⟨_, rfl⟩
  obtain ⟨v6, e6⟩ : ∃ v, xs (7 * k + 6) = v := ⟨_, rfl⟩
  have hq0 : ∀ a, a < 12 → cl (x 35 a) ≤ 6 ∧ x 35 a = nI (cl (x 35 a)) := fun a ha => by
    obtain ⟨t, h6, ht⟩ := K0.v.1 a ha
    rw [ht, cl_nI (by omega)]
    exact ⟨h6, rfl⟩
  have hsz : ∀ t, t < 12 → ∃ sz, sz ≤ 6 ∧ z 17 t = nI sz := K0.cok.2
  have hst := st_ask K0 (qn := fun a => cl (x 35 a)) (fun a ha => (hq0 a ha).2) (fun a ha => (hq0 a ha).1) (by omega) (by omega) v1 v2 v3 v4 v5 v6
  try dsimp only at hst
  have hcd : ¬ asC z r q v1 v2 v3 v4 = 0 → (asC z r q v1 v2 v3 v4 = 1 ∨ asC z r q v1 v2 v3 v4 = 2 ∨ asC z r q v1 v2 v3 v4 = 3 ∨ asC z r q v1 v2 v3 v4 = 4) := fun hz => by
    rcases hst with ⟨hz2, _⟩ | ⟨hz2, _⟩
    · exact absurd hz2 hz
    · exact hz2
  have hS2 := lh_up hS (y := G.size + n) (by omega)
  refine r_room (bc' := bc + 5) (bs' := bs + 34) (by omega) (by omega) ?_
  first | refine r_aload_n C dc_L_law_368 rfl rfl ?_ | refine r_aload_nq C dc_L_law_368 rfl rfl ?_
  first | refine r_aload_n C dc_L_law_369 rfl rfl ?_ | refine r_aload_nq C dc_L_law_369 rfl rfl ?_
  refine r_iload C dc_L_law_370 rfl ?_
  refine r_iconst (v := nI 1) C dc_L_law_372 (by decide) ?_
  first | refine r_iaddN C dc_L_law_373 ?_ | refine r_iadd C dc_L_law_373 ?_
  refine r_scld C hX hsb (by omega) hL e1 dc_L_law_374 ?_
  first | refine r_aload_n C dc_L_law_375 rfl rfl ?_ | refine r_aload_nq C dc_L_law_375 rfl rfl ?_
  refine r_iload C dc_L_law_376 rfl ?_
  refine r_iconst (v := nI 2) C dc_L_law_378 (by decide) ?_
  first | refine r_iaddN C dc_L_law_379 ?_ | refine r_iadd C dc_L_law_379 ?_
  refine r_scld C hX hsb (by omega) hL e2 dc_L_law_380 ?_
  first | refine r_aload_n C dc_L_law_381 rfl rfl ?_ | refine r_aload_nq C dc_L_law_381 rfl rfl ?_
  refine r_iload C dc_L_law_382 rfl ?_
  refine r_iconst (v := nI 3) C dc_L_law_384 (by decide) ?_
  first | refine r_iaddN C dc_L_law_385 ?_ | refine r_iadd C dc_L_law_385 ?_
  refine r_scld C hX hsb (by omega) hL e3 dc_L_law_386 ?_
  first | refine r_aload_n C dc_L_law_387 rfl rfl ?_ | refine r_aload_nq C dc_L_law_387 rfl rfl ?_
  refine r_iload C dc_L_law_388 rfl ?_
  refine r_iconst (v := nI 4) C dc_L_law_390 (by decide) ?_
  first | refine r_iaddN C dc_L_law_391 ?_ | refine r_iadd C dc_L_law_391 ?_
  refine r_scld C hX hsb (by omega) hL e4 dc_L_law_392 ?_
  first | refine r_aload_n C dc_L_law_393 rfl rfl ?_ | refine r_aload_nq C dc_L_law_393 rfl rfl ?_
  refine r_iload C dc_L_law_394 rfl ?_
  refine r_iconst (v := nI 5) C dc_L_law_396 (by decide) ?_
  first | refine r_iaddN C dc_L_law_397 ?_ | refine r_iadd C dc_L_law_397 ?_
  refine r_scld C hX hsb (by omega) hL e5 dc_L_law_398 ?_
  first | refine r_aload_n C dc_L_law_399 rfl rfl ?_ | refine r_aload_nq C dc_L_law_399 rfl rfl ?_
  refine r_iload C dc_L_law_400 rfl ?_
  refine r_bipush (v := nI 6) C dc_L_law_402 (by decide) ?_
  first | refine r_iaddN C dc_L_law_404 ?_ | refine r_iadd C dc_L_law_404 ?_
  refine r_scld C hX hsb (by omega) hL e6 dc_L_law_405 ?_
  first | refine r_aload_n C dc_L_law_406 rfl rfl ?_ | refine r_aload_nq C dc_L_law_406 rfl rfl ?_
  refine r_callSH (k := 8) C dp dc_L_law_407 gw_ask ⟨by decide, by decide, by decide +kernel⟩ (by decide) (k_L_ask (cd := asC z r q v1 v2 v3 v4) hl ch_S (k_S_ask (df := 0) hl K0.rv hsz) (fun v h1 n1 z => by obtain ⟨_, kk, sz, _, _, _, w1, w2, _⟩ := z; exact ⟨_, f, w1, by rw [w2]; exact lh_lg hS2⟩) (fun E h1 n1 z => ⟨z.2.1, hcd z.1⟩)) (by decide) rfl rfl (Nat.le_of_ble_eq_true rfl) (fun v9 h9 n9 q9 z9 => ?_)
  rcases z9 with ⟨V, h1, f1, ⟨y1, kk, sz, u1, u2, u3, y2, y3, y4, u4, u5⟩, rfl, hlg, rfl⟩ | ⟨⟨y1, y2, y3, y4⟩, rfl⟩
  ·
    cases y2
    subst y3
    subst y4
    rcases hst with ⟨c0, t0, g0⟩ | ⟨c0, t0, K1⟩
    rotate_left
    · rcases c0 with c0 | c0 | c0 | c0
      · exact absurd (y1.symm.trans c0) (by decide)
      · exact absurd (y1.symm.trans c0) (by decide)
      · exact absurd (y1.symm.trans c0) (by decide)
      · exact absurd (y1.symm.trans c0) (by decide)
    obtain ⟨ev, K1⟩ := g0 kk sz (G.size + n) u1 u2 u3 u5 u4
    refine rw_hh (lh_st hS2) ?_
    refine r_istore C dc_L_law_410 (by decide) (nw_of rfl) ?_
    first | refine r_aload_n C dc_L_law_412 rfl rfl ?_ | refine r_aload_nq C dc_L_law_412 rfl rfl ?_
    first | refine r_aload_n C dc_L_law_413 rfl rfl ?_ | refine r_aload_nq C dc_L_law_413 rfl rfl ?_
    refine r_iload C dc_L_law_414 rfl ?_
    refine r_iconst (v := nI 1) C dc_L_law_416 (by decide) ?_
    first | refine r_iaddN C dc_L_law_417 ?_ | refine r_iadd C dc_L_law_417 ?_
    refine r_scld C hX hsb (by omega) hL e1 dc_L_law_418 ?_
    first | refine r_aload_n C dc_L_law_419 rfl rfl ?_ | refine r_aload_nq C dc_L_law_419 rfl rfl ?_
    refine r_iload C dc_L_law_420 rfl ?_
    refine r_iconst (v := nI 2) C dc_L_law_422 (by decide) ?_
    first | refine r_iaddN C dc_L_law_423 ?_ | refine r_iadd C dc_L_law_423 ?_
    refine r_scld C hX hsb (by omega) hL e2 dc_L_law_424 ?_
    first | refine r_aload_n C dc_L_law_425 rfl rfl ?_ | refine r_aload_nq C dc_L_law_425 rfl rfl ?_
    refine r_iload C dc_L_law_426 rfl ?_
    refine r_iconst (v := nI 3) C dc_L_law_428 (by decide) ?_
    first | refine r_iaddN C dc_L_law_429 ?_ | refine r_iadd C dc_L_law_429 ?_
    refine r_scld C hX hsb (by omega) hL e3 dc_L_law_430 ?_
    first | refine r_aload_n C dc_L_law_431 rfl rfl ?_ | refine r_aload_nq C dc_L_law_431 rfl rfl ?_
    refine r_iload C dc_L_law_432 rfl ?_
    refine r_iconst (v := nI 4) C dc_L_law_434 (by decide) ?_
    first | refine r_iaddN C dc_L_law_435 ?_ | refine r_iadd C dc_L_law_435 ?_
    refine r_scld C hX hsb (by omega) hL e4 dc_L_law_436 ?_
    first | refine r_aload_n C dc_L_law_437 rfl rfl ?_ | refine r_aload_nq C dc_L_law_437 rfl rfl ?_
    refine r_iload C dc_L_law_438 rfl ?_
    refine r_iconst (v := nI 5) C dc_L_law_440 (by decide) ?_
    first | refine r_iaddN C dc_L_law_441 ?_ | refine r_iadd C dc_L_law_441 ?_
    refine r_scld C hX hsb (by omega) hL e5 dc_L_law_442 ?_
    first | refine r_aload_n C dc_L_law_443 rfl rfl ?_ | refine r_aload_nq C dc_L_law_443 rfl rfl ?_
    refine r_iload C dc_L_law_444 rfl ?_
    refine r_bipush (v := nI 6) C dc_L_law_446 (by decide) ?_
    first | refine r_iaddN C dc_L_law_448 ?_ | refine r_iadd C dc_L_law_448 ?_
    refine r_scld C hX hsb (by omega) hL e6 dc_L_law_449 ?_
    refine rw_hh (lh_mh hS2) ?_
    refine r_callV C dp dc_L_law_450 cw_L_82 cm_M_ask cv_M_ask rfl mh_0 (k_M_ask (df := 0) (qn := fun a => cl (x 35 a)) hl (fun a ha => (hq0 a ha).2) (fun a ha => (hq0 a ha).1)) (by decide) rfl rfl (Nat.le_of_ble_eq_true rfl) (fun vm hm nm qm zm => ?_) (fun _ _ _ _ z => z.elim)
    obtain ⟨g1, g2, g3⟩ := zm
    subst g1
    subst g2
    subst g3
    refine r_istore C dc_L_law_453 (by decide) (nw_of rfl) ?_
    first | refine r_aload_n C dc_L_law_455 rfl rfl ?_ | refine r_aload_nq C dc_L_law_455 rfl rfl ?_
    refine r_callV C dp dc_L_law_456 cw_L_67 cm_M_thrown cv_M_thrown rfl mh_0 (k_M_thrown (df := 0) hl) (by decide) rfl rfl (Nat.le_of_ble_eq_true rfl) (fun vt ht nt qt zt => ?_) (fun _ _ _ _ z => z.elim)
    obtain ⟨g1, g2, g3⟩ := zt
    subst g1
    subst g2
    subst g3
    refine r_iload C dc_L_law_459 rfl ?_
    refine r_icmp_eq (tgt := 466) C dc_L_law_461 (by decide) (fun _ => ?_) (fun cz => absurd t0 cz)
    refine r_iload C dc_L_law_466 rfl ?_
    refine r_if_ne (tgt := 483) C dc_L_law_468 (by decide) (fun cz => absurd nI_0 cz) (fun _ => ?_)
    first | refine r_aload_n C dc_L_law_471 rfl rfl ?_ | refine r_aload_nq C dc_L_law_471 rfl rfl ?_
    refine r_iconst (v := nI 0) C dc_L_law_472 (by decide) ?_
    refine rw_hh (lh_mh hS2).symm ?_
    refine r_jald C dc_L_law_473 (lh_lg hS2) rfl (by decide) (by decide) ?_
    refine r_iload C dc_L_law_474 rfl ?_
    refine r_i2l C dc_L_law_476 rfl ?_
    refine r_lcmp C dc_L_law_477 ?_
    refine r_if_eq (tgt := 483) C dc_L_law_478 (by decide) (fun _ => ?_) (fun cz => absurd ((lg_cmp_eq _ _).mpr (by rw [pk_uLs, ev])) cz)
    refine r_goto (tgt := 935) C dc_L_law_483 (by decide) ?_
    exact r_weak (wl_c (rfl) (wl_c (rfl) (wl_c (rfl) (wl_c (rfl) (wl_c (rfl) (wl_n)))))) (K _ _ _ _ _ _ _ _ _ _ ⟨K1, hS2, by omega, by omega, by omega⟩)
  ·
    subst y3
    rcases hst with ⟨c0, _⟩ | ⟨c0, t0, K1⟩
    · exact absurd c0 y1
    have hnz : ¬ nI (asC z r q v1 v2 v3 v4) = 0 := by
      rcases c0 with c0 | c0 | c0 | c0
      · rw [c0]; decide
      · rw [c0]; decide
      · rw [c0]; decide
      · rw [c0]; decide
    refine r_istore C dc_L_law_410 (by decide) (nw_of rfl) ?_
    first | refine r_aload_n C dc_L_law_412 rfl rfl ?_ | refine r_aload_nq C dc_L_law_412 rfl rfl ?_
    first | refine r_aload_n C dc_L_law_413 rfl rfl ?_ | refine r_aload_nq C dc_L_law_413 rfl rfl ?_
    refine r_iload C dc_L_law_414 rfl ?_
    refine r_iconst (v := nI 1) C dc_L_law_416 (by decide) ?_
    first | refine r_iaddN C dc_L_law_417 ?_ | refine r_iadd C dc_L_law_417 ?_
    refine r_scld C hX hsb (by omega) hL e1 dc_L_law_418 ?_
    first | refine r_aload_n C dc_L_law_419 rfl rfl ?_ | refine r_aload_nq C dc_L_law_419 rfl rfl ?_
    refine r_iload C dc_L_law_420 rfl ?_
    refine r_iconst (v := nI 2) C dc_L_law_422 (by decide) ?_
    first | refine r_iaddN C dc_L_law_423 ?_ | refine r_iadd C dc_L_law_423 ?_
    refine r_scld C hX hsb (by omega) hL e2 dc_L_law_424 ?_
    first | refine r_aload_n C dc_L_law_425 rfl rfl ?_ | refine r_aload_nq C dc_L_law_425 rfl rfl ?_
    refine r_iload C dc_L_law_426 rfl ?_
    refine r_iconst (v := nI 3) C dc_L_law_428 (by decide) ?_
    first | refine r_iaddN C dc_L_law_429 ?_ | refine r_iadd C dc_L_law_429 ?_
    refine r_scld C hX hsb (by omega) hL e3 dc_L_law_430 ?_
    first | refine r_aload_n C dc_L_law_431 rfl rfl ?_ | refine r_aload_nq C dc_L_law_431 rfl rfl ?_
    refine r_iload C dc_L_law_432 rfl ?_
    refine r_iconst (v := nI 4) C dc_L_law_434 (by decide) ?_
    first | refine r_iaddN C dc_L_law_435 ?_ | refine r_iadd C dc_L_law_435 ?_
    refine r_scld C hX hsb (by omega) hL e4 dc_L_law_436 ?_
    first | refine r_aload_n C dc_L_law_437 rfl rfl ?_ | refine r_aload_nq C dc_L_law_437 rfl rfl ?_
    refine r_iload C dc_L_law_438 rfl ?_
    refine r_iconst (v := nI 5) C dc_L_law_440 (by decide) ?_
    first | refine r_iaddN C dc_L_law_441 ?_ | refine r_iadd C dc_L_law_441 ?_
    refine r_scld C hX hsb (by omega) hL e5 dc_L_law_442 ?_
    first | refine r_aload_n C dc_L_law_443 rfl rfl ?_ | refine r_aload_nq C dc_L_law_443 rfl rfl ?_
    refine r_iload C dc_L_law_444 rfl ?_
    refine r_bipush (v := nI 6) C dc_L_law_446 (by decide) ?_
    first | refine r_iaddN C dc_L_law_448 ?_ | refine r_iadd C dc_L_law_448 ?_
    refine r_scld C hX hsb (by omega) hL e6 dc_L_law_449 ?_
    refine rw_hh (lh_mh hS) ?_
    refine r_callV C dp dc_L_law_450 cw_L_82 cm_M_ask cv_M_ask rfl mh_0 (k_M_ask (df := 0) (qn := fun a => cl (x 35 a)) hl (fun a ha => (hq0 a ha).2) (fun a ha => (hq0 a ha).1)) (by decide) rfl rfl (Nat.le_of_ble_eq_true rfl) (fun vm hm nm qm zm => ?_) (fun _ _ _ _ z => z.elim)
    obtain ⟨g1, g2, g3⟩ := zm
    subst g1
    subst g2
    subst g3
    refine r_istore C dc_L_law_453 (by decide) (nw_of rfl) ?_
    first | refine r_aload_n C dc_L_law_455 rfl rfl ?_ | refine r_aload_nq C dc_L_law_455 rfl rfl ?_
    refine r_callV C dp dc_L_law_456 cw_L_67 cm_M_thrown cv_M_thrown rfl mh_0 (k_M_thrown (df := 0) hl) (by decide) rfl rfl (Nat.le_of_ble_eq_true rfl) (fun vt ht nt qt zt => ?_) (fun _ _ _ _ z => z.elim)
    obtain ⟨g1, g2, g3⟩ := zt
    subst g1
    subst g2
    subst g3
    refine r_iload C dc_L_law_459 rfl ?_
    refine r_icmp_eq (tgt := 466) C dc_L_law_461 (by decide) (fun _ => ?_) (fun cz => absurd t0 cz)
    refine r_iload C dc_L_law_466 rfl ?_
    refine r_if_ne (tgt := 483) C dc_L_law_468 (by decide) (fun _ => ?_) (fun cz => absurd cz hnz)
    refine rw_hh (lh_mh hS).symm ?_
    refine r_goto (tgt := 935) C dc_L_law_483 (by decide) ?_
    exact r_weak (wl_c (rfl) (wl_c (rfl) (wl_c (rfl) (wl_c (rfl) (wl_c (rfl) (wl_n)))))) (K _ _ _ _ _ _ _ _ _ _ ⟨K1, hS, by omega, by omega, by omega⟩)
set_option maxRecDepth 4000 in
set_option maxHeartbeats 2000000 in
theorem la_value (C : Cx p l s m args meth c D A G cd_L_law 7 rn_L) (dp : Dp R 30 bc0 bs0) (hX : va_X sb L xs s G) (hsb : sb < G.size) (hL : L ≤ 3584) (hk : 7 * k + 7 ≤ L) (I : LI G ot S x z r q ck sn n k) (K : ∀ (ot' : Nat → Option Nat) (S' : Nat → Bool) (x' z' : Nat → Nat → Int32) (r' : Nat → Nat → Option Nat) (q' : Nat → Nat → Int32) (f' : Nat → Int64) (ck' sn' n' : Nat), LI G ot' S' x' z' r' q' ck' sn' n' (k + 1) → Rw p l e R s m args below meth c Q D G 7 bc bs (LH A G z' r' S' q' x' f') n' [(0, .ref sb), (1, .ref G.size), (2, .ref (G.size + 68)), (3, .ref (G.size + 103)), (4, .int (nI (7 * k)))] 935 []) : Rw p l e R s m args below meth c Q D G 7 (bc + 5) (bs + 34) (LH A G z r S q x f) n [(0, .ref sb), (1, .ref G.size), (2, .ref (G.size + 68)), (3, .ref (G.size + 103)), (4, .int (nI (7 * k)))] 706 [] := by
  have hl : l.stackTraces = false := C.2.2.2.2.2.2.2
  obtain ⟨K0, hS, hn, hck, hsn⟩ := I
  obtain ⟨v1, e1⟩ : ∃ v, xs (7 * k + 1) = v := ⟨_, rfl⟩
  obtain ⟨v2, e2⟩ : ∃ v, xs (7 * k + 2) = v := ⟨_, rfl⟩
  have hst := st_value K0 v1 v2
  try dsimp only at hst
  have hcd : ¬ vaC r q v1 v2 = 0 → (vaC r q v1 v2 = 1 ∨ vaC r q v1 v2 = 2 ∨ vaC r q v1 v2 = 3 ∨ vaC r q v1 v2 = 4) := fun hz => by
    rcases hst with ⟨hz2, _⟩ | ⟨hz2, _⟩ | ⟨hz2, _⟩
    · exact absurd hz2 hz
    · exact hz2.elim Or.inl (fun h => Or.inr (h.elim Or.inl (fun h => Or.inr (Or.inl h))))
    · exact Or.inr (Or.inr (Or.inr hz2))
  refine r_room (bc' := bc + 3) (bs' := bs + 18) (by omega) (by omega) ?_
  first | refine r_aload_n C dc_L_law_706 rfl rfl ?_ | refine r_aload_nq C dc_L_law_706 rfl rfl ?_
  first | refine r_aload_n C dc_L_law_707 rfl rfl ?_ | refine r_aload_nq C dc_L_law_707 rfl rfl ?_
  refine r_iload C dc_L_law_708 rfl ?_
  refine r_iconst (v := nI 1) C dc_L_law_710 (by decide) ?_
  first | refine r_iaddN C dc_L_law_711 ?_ | refine r_iadd C dc_L_law_711 ?_
  refine r_scld C hX hsb (by omega) hL e1 dc_L_law_712 ?_
  first | refine r_aload_n C dc_L_law_713 rfl rfl ?_ | refine r_aload_nq C dc_L_law_713 rfl rfl ?_
  refine r_iload C dc_L_law_714 rfl ?_
  refine r_iconst (v := nI 2) C dc_L_law_716 (by decide) ?_
  first | refine r_iaddN C dc_L_law_717 ?_ | refine r_iadd C dc_L_law_717 ?_
  refine r_scld C hX hsb (by omega) hL e2 dc_L_law_718 ?_
  first | refine r_aload_n C dc_L_law_719 rfl rfl ?_ | refine r_aload_nq C dc_L_law_719 rfl rfl ?_
  refine r_callSH (k := 4) C dp dc_L_law_720 gw_value ⟨by decide, by decide, by decide +kernel⟩ (by decide) (k_L_value (cd := vaC r q v1 v2) hl ch_S (k_S_value (df := 0) hl K0.rv) (fun v h1 n1 z => by obtain ⟨_, t, _, w1, w2, _⟩ := z; exact ⟨_, f, w1, by rw [w2]; exact lh_lg hS⟩) (fun E h1 n1 z => ⟨z.2.1, hcd z.1⟩)) (by decide) rfl rfl (Nat.le_of_ble_eq_true rfl) (fun v9 h9 n9 q9 z9 => ?_)
  rcases z9 with ⟨V, h1, f1, ⟨y1, t, y5, y2, y3, y4⟩, rfl, hlg, rfl⟩ | ⟨⟨y1, y2, y3, y4⟩, rfl⟩
  ·
    cases y2
    subst y3
    subst y4
    rcases hst with ⟨c0, t0, K1, g0⟩ | ⟨c0, t0, K1⟩ | ⟨c0, t0, K1⟩
    rotate_left
    · rcases c0 with c0 | c0 | c0
      · exact absurd (y1.symm.trans c0) (by decide)
      · exact absurd (y1.symm.trans c0) (by decide)
      · exact absurd (y1.symm.trans c0) (by decide)
    · exact absurd (y1.symm.trans c0) (by decide)
    have ev := g0 _ y5
    refine rw_hh (lh_st hS) ?_
    refine r_istore C dc_L_law_723 (by decide) (nw_of rfl) ?_
    first | refine r_aload_n C dc_L_law_725 rfl rfl ?_ | refine r_aload_nq C dc_L_law_725 rfl rfl ?_
    first | refine r_aload_n C dc_L_law_726 rfl rfl ?_ | refine r_aload_nq C dc_L_law_726 rfl rfl ?_
    refine r_iload C dc_L_law_727 rfl ?_
    refine r_iconst (v := nI 1) C dc_L_law_729 (by decide) ?_
    first | refine r_iaddN C dc_L_law_730 ?_ | refine r_iadd C dc_L_law_730 ?_
    refine r_scld C hX hsb (by omega) hL e1 dc_L_law_731 ?_
    first | refine r_aload_n C dc_L_law_732 rfl rfl ?_ | refine r_aload_nq C dc_L_law_732 rfl rfl ?_
    refine r_iload C dc_L_law_733 rfl ?_
    refine r_iconst (v := nI 2) C dc_L_law_735 (by decide) ?_
    first | refine r_iaddN C dc_L_law_736 ?_ | refine r_iadd C dc_L_law_736 ?_
    refine r_scld C hX hsb (by omega) hL e2 dc_L_law_737 ?_
    refine rw_hh (lh_mh hS) ?_
    refine r_callV C dp dc_L_law_738 cw_L_100 cm_M_value cv_M_value rfl mh_0 (k_M_value (df := 0) hl) (by decide) rfl rfl (Nat.le_of_ble_eq_true rfl) (fun vm hm nm qm zm => ?_) (fun _ _ _ _ z => z.elim)
    obtain ⟨g1, g2, g3⟩ := zm
    subst g1
    subst g2
    subst g3
    refine r_istore C dc_L_law_741 (by decide) (nw_of rfl) ?_
    first | refine r_aload_n C dc_L_law_743 rfl rfl ?_ | refine r_aload_nq C dc_L_law_743 rfl rfl ?_
    refine r_callV C dp dc_L_law_744 cw_L_67 cm_M_thrown cv_M_thrown rfl mh_0 (k_M_thrown (df := 0) hl) (by decide) rfl rfl (Nat.le_of_ble_eq_true rfl) (fun vt ht nt qt zt => ?_) (fun _ _ _ _ z => z.elim)
    obtain ⟨g1, g2, g3⟩ := zt
    subst g1
    subst g2
    subst g3
    refine r_iload C dc_L_law_747 rfl ?_
    refine r_icmp_eq (tgt := 754) C dc_L_law_749 (by decide) (fun _ => ?_) (fun cz => absurd t0 cz)
    refine r_iload C dc_L_law_754 rfl ?_
    refine r_if_ne (tgt := 771) C dc_L_law_756 (by decide) (fun cz => absurd nI_0 cz) (fun _ => ?_)
    first | refine r_aload_n C dc_L_law_759 rfl rfl ?_ | refine r_aload_nq C dc_L_law_759 rfl rfl ?_
    refine r_iconst (v := nI 0) C dc_L_law_760 (by decide) ?_
    refine rw_hh (lh_mh hS).symm ?_
    refine r_jald C dc_L_law_761 (lh_lg hS) rfl (by decide) (by decide) ?_
    refine r_iload C dc_L_law_762 rfl ?_
    refine r_i2l C dc_L_law_764 rfl ?_
    refine r_lcmp C dc_L_law_765 ?_
    refine r_if_eq (tgt := 771) C dc_L_law_766 (by decide) (fun _ => ?_) (fun cz => absurd ((lg_cmp_eq _ _).mpr (by rw [pk_uLs, ev])) cz)
    refine r_goto (tgt := 935) C dc_L_law_771 (by decide) ?_
    exact r_weak (wl_c (rfl) (wl_c (rfl) (wl_c (rfl) (wl_c (rfl) (wl_c (rfl) (wl_n)))))) (K _ _ _ _ _ _ _ _ _ _ ⟨K1, hS, by omega, by omega, by omega⟩)
  ·
    rcases hst with ⟨c0, _⟩ | ⟨c0, t0, K1⟩ | ⟨c0, t0, K1⟩
    · exact absurd c0 y1
    ·
      have hnz : ¬ nI (vaC r q v1 v2) = 0 := by
        rcases c0 with c0 | c0 | c0
        · rw [c0]; decide
        · rw [c0]; decide
        · rw [c0]; decide
      have hn4 : ¬ vaC r q v1 v2 = 4 := fun h4 => by
        rcases c0 with c0 | c0 | c0
        · exact absurd (h4.symm.trans c0) (by decide)
        · exact absurd (h4.symm.trans c0) (by decide)
        · exact absurd (h4.symm.trans c0) (by decide)
      rw [if_neg hn4] at y3
      subst y3
      refine r_istore C dc_L_law_723 (by decide) (nw_of rfl) ?_
      first | refine r_aload_n C dc_L_law_725 rfl rfl ?_ | refine r_aload_nq C dc_L_law_725 rfl rfl ?_
      first | refine r_aload_n C dc_L_law_726 rfl rfl ?_ | refine r_aload_nq C dc_L_law_726 rfl rfl ?_
      refine r_iload C dc_L_law_727 rfl ?_
      refine r_iconst (v := nI 1) C dc_L_law_729 (by decide) ?_
      first | refine r_iaddN C dc_L_law_730 ?_ | refine r_iadd C dc_L_law_730 ?_
      refine r_scld C hX hsb (by omega) hL e1 dc_L_law_731 ?_
      first | refine r_aload_n C dc_L_law_732 rfl rfl ?_ | refine r_aload_nq C dc_L_law_732 rfl rfl ?_
      refine r_iload C dc_L_law_733 rfl ?_
      refine r_iconst (v := nI 2) C dc_L_law_735 (by decide) ?_
      first | refine r_iaddN C dc_L_law_736 ?_ | refine r_iadd C dc_L_law_736 ?_
      refine r_scld C hX hsb (by omega) hL e2 dc_L_law_737 ?_
      refine rw_hh (lh_mh hS) ?_
      refine r_callV C dp dc_L_law_738 cw_L_100 cm_M_value cv_M_value rfl mh_0 (k_M_value (df := 0) hl) (by decide) rfl rfl (Nat.le_of_ble_eq_true rfl) (fun vm hm nm qm zm => ?_) (fun _ _ _ _ z => z.elim)
      obtain ⟨g1, g2, g3⟩ := zm
      subst g1
      subst g2
      subst g3
      refine r_istore C dc_L_law_741 (by decide) (nw_of rfl) ?_
      first | refine r_aload_n C dc_L_law_743 rfl rfl ?_ | refine r_aload_nq C dc_L_law_743 rfl rfl ?_
      refine r_callV C dp dc_L_law_744 cw_L_67 cm_M_thrown cv_M_thrown rfl mh_0 (k_M_thrown (df := 0) hl) (by decide) rfl rfl (Nat.le_of_ble_eq_true rfl) (fun vt ht nt qt zt => ?_) (fun _ _ _ _ z => z.elim)
      obtain ⟨g1, g2, g3⟩ := zt
      subst g1
      subst g2
      subst g3
      refine r_iload C dc_L_law_747 rfl ?_
      refine r_icmp_eq (tgt := 754) C dc_L_law_749 (by decide) (fun _ => ?_) (fun cz => absurd t0 cz)
      refine r_iload C dc_L_law_754 rfl ?_
      refine r_if_ne (tgt := 771) C dc_L_law_756 (by decide) (fun _ => ?_) (fun cz => absurd cz hnz)
      refine rw_hh (lh_mh hS).symm ?_
      refine r_goto (tgt := 935) C dc_L_law_771 (by decide) ?_
      exact r_weak (wl_c (rfl) (wl_c (rfl) (wl_c (rfl) (wl_c (rfl) (wl_c (rfl) (wl_n)))))) (K _ _ _ _ _ _ _ _ _ _ ⟨K1, hS, by omega, by omega, by omega⟩)
    ·
      rw [if_pos c0] at y3
      subst y3
      have e4 : vaC r q v1 v2 = 4 := c0
      rw [e4]
      have hnz : ¬ nI 4 = 0 := by decide
      refine r_istore C dc_L_law_723 (by decide) (nw_of rfl) ?_
      first | refine r_aload_n C dc_L_law_725 rfl rfl ?_ | refine r_aload_nq C dc_L_law_725 rfl rfl ?_
      first | refine r_aload_n C dc_L_law_726 rfl rfl ?_ | refine r_aload_nq C dc_L_law_726 rfl rfl ?_
      refine r_iload C dc_L_law_727 rfl ?_
      refine r_iconst (v := nI 1) C dc_L_law_729 (by decide) ?_
      first | refine r_iaddN C dc_L_law_730 ?_ | refine r_iadd C dc_L_law_730 ?_
      refine r_scld C hX hsb (by omega) hL e1 dc_L_law_731 ?_
      first | refine r_aload_n C dc_L_law_732 rfl rfl ?_ | refine r_aload_nq C dc_L_law_732 rfl rfl ?_
      refine r_iload C dc_L_law_733 rfl ?_
      refine r_iconst (v := nI 2) C dc_L_law_735 (by decide) ?_
      first | refine r_iaddN C dc_L_law_736 ?_ | refine r_iadd C dc_L_law_736 ?_
      refine r_scld C hX hsb (by omega) hL e2 dc_L_law_737 ?_
      refine rw_hh (lh_mh hS) ?_
      refine r_callV C dp dc_L_law_738 cw_L_100 cm_M_value cv_M_value rfl mh_0 (k_M_value (df := 0) hl) (by decide) rfl rfl (Nat.le_of_ble_eq_true rfl) (fun vm hm nm qm zm => ?_) (fun _ _ _ _ z => z.elim)
      obtain ⟨g1, g2, g3⟩ := zm
      subst g1
      subst g2
      subst g3
      refine r_istore C dc_L_law_741 (by decide) (nw_of rfl) ?_
      first | refine r_aload_n C dc_L_law_743 rfl rfl ?_ | refine r_aload_nq C dc_L_law_743 rfl rfl ?_
      refine r_callV C dp dc_L_law_744 cw_L_67 cm_M_thrown cv_M_thrown rfl mh_0 (k_M_thrown (df := 0) hl) (by decide) rfl rfl (Nat.le_of_ble_eq_true rfl) (fun vt ht nt qt zt => ?_) (fun _ _ _ _ z => z.elim)
      obtain ⟨g1, g2, g3⟩ := zt
      subst g1
      subst g2
      subst g3
      refine r_iload C dc_L_law_747 rfl ?_
      refine r_icmp_eq (tgt := 754) C dc_L_law_749 (by decide) (fun _ => ?_) (fun cz => absurd t0 cz)
      refine r_iload C dc_L_law_754 rfl ?_
      refine r_if_ne (tgt := 771) C dc_L_law_756 (by decide) (fun _ => ?_) (fun cz => absurd cz hnz)
      refine rw_hh (lh_mh hS).symm ?_
      refine r_goto (tgt := 935) C dc_L_law_771 (by decide) ?_
      exact r_weak (wl_c (rfl) (wl_c (rfl) (wl_c (rfl) (wl_c (rfl) (wl_c (rfl) (wl_n)))))) (K _ _ _ _ _ _ _ _ _ _ ⟨K1, hS, by omega, by omega, by omega⟩)
set_option maxRecDepth 4000 in
set_option maxHeartbeats 2000000 in
theorem la_about (C : Cx p l s m args meth c D A G cd_L_law 7 rn_L) (dp : Dp R 30 bc0 bs0) (hX : va_X sb L xs s G) (hsb : sb < G.size) (hL : L ≤ 3584) (hk : 7 * k + 7 ≤ L) (I : LI G ot S x z r q ck sn n k) (K : ∀ (ot' : Nat → Option Nat) (S' : Nat → Bool) (x' z' : Nat → Nat → Int32) (r' : Nat → Nat → Option Nat) (q' : Nat → Nat → Int32) (f' : Nat → Int64) (ck' sn' n' : Nat), LI G ot' S' x' z' r' q' ck' sn' n' (k + 1) → Rw p l e R s m args below meth c Q D G 7 bc bs (LH A G z' r' S' q' x' f') n' [(0, .ref sb), (1, .ref G.size), (2, .ref (G.size + 68)), (3, .ref (G.size + 103)), (4, .int (nI (7 * k)))] 935 []) : Rw p l e R s m args below meth c Q D G 7 (bc + 5) (bs + 34) (LH A G z r S q x f) n [(0, .ref sb), (1, .ref G.size), (2, .ref (G.size + 68)), (3, .ref (G.size + 103)), (4, .int (nI (7 * k)))] 774 [] := by
  have hl : l.stackTraces = false := C.2.2.2.2.2.2.2
  obtain ⟨K0, hS, hn, hck, hsn⟩ := I
  obtain ⟨v1, e1⟩ : ∃ v, xs (7 * k + 1) = v := ⟨_, rfl⟩
  obtain ⟨v2, e2⟩ : ∃ v, xs (7 * k + 2) = v := ⟨_, rfl⟩
  have hcd : ¬ abC v1 v2 = 0 → (abC v1 v2 = 1 ∨ abC v1 v2 = 2) := fun hz => (ab_2 v1 v2).elim (fun h => absurd h hz) (fun h => h)
  refine r_room (bc' := bc + 2) (bs' := bs + 12) (by omega) (by omega) ?_
  first | refine r_aload_n C dc_L_law_774 rfl rfl ?_ | refine r_aload_nq C dc_L_law_774 rfl rfl ?_
  first | refine r_aload_n C dc_L_law_775 rfl rfl ?_ | refine r_aload_nq C dc_L_law_775 rfl rfl ?_
  refine r_iload C dc_L_law_776 rfl ?_
  refine r_iconst (v := nI 1) C dc_L_law_778 (by decide) ?_
  first | refine r_iaddN C dc_L_law_779 ?_ | refine r_iadd C dc_L_law_779 ?_
  refine r_scld C hX hsb (by omega) hL e1 dc_L_law_780 ?_
  first | refine r_aload_n C dc_L_law_781 rfl rfl ?_ | refine r_aload_nq C dc_L_law_781 rfl rfl ?_
  refine r_iload C dc_L_law_782 rfl ?_
  refine r_iconst (v := nI 2) C dc_L_law_784 (by decide) ?_
  first | refine r_iaddN C dc_L_law_785 ?_ | refine r_iadd C dc_L_law_785 ?_
  refine r_scld C hX hsb (by omega) hL e2 dc_L_law_786 ?_
  first | refine r_aload_n C dc_L_law_787 rfl rfl ?_ | refine r_aload_nq C dc_L_law_787 rfl rfl ?_
  refine r_callSH (k := 4) C dp dc_L_law_788 gw_about ⟨by decide, by decide, by decide +kernel⟩ (by decide) (k_L_about (cd := abC v1 v2) hl ch_S (k_S_about (df := 0) hl K0.rv) (fun v h1 n1 z => ⟨_, f, z.2.1, by rw [z.2.2.1]; exact lh_lg hS⟩) (fun E h1 n1 z => ⟨z.2.1, hcd z.1⟩)) (by decide) rfl rfl (Nat.le_of_ble_eq_true rfl) (fun v9 h9 n9 q9 z9 => ?_)
  rcases z9 with ⟨V, h1, f1, ⟨y1, y2, y3, y4⟩, rfl, hlg, rfl⟩ | ⟨⟨y1, y2, y3, y4⟩, rfl⟩
  ·
    cases y2
    subst y3
    subst y4
    refine rw_hh (lh_st hS) ?_
    refine r_istore C dc_L_law_791 (by decide) (nw_of rfl) ?_
    first | refine r_aload_n C dc_L_law_793 rfl rfl ?_ | refine r_aload_nq C dc_L_law_793 rfl rfl ?_
    first | refine r_aload_n C dc_L_law_794 rfl rfl ?_ | refine r_aload_nq C dc_L_law_794 rfl rfl ?_
    refine r_iload C dc_L_law_795 rfl ?_
    refine r_iconst (v := nI 1) C dc_L_law_797 (by decide) ?_
    first | refine r_iaddN C dc_L_law_798 ?_ | refine r_iadd C dc_L_law_798 ?_
    refine r_scld C hX hsb (by omega) hL e1 dc_L_law_799 ?_
    first | refine r_aload_n C dc_L_law_800 rfl rfl ?_ | refine r_aload_nq C dc_L_law_800 rfl rfl ?_
    refine r_iload C dc_L_law_801 rfl ?_
    refine r_iconst (v := nI 2) C dc_L_law_803 (by decide) ?_
    first | refine r_iaddN C dc_L_law_804 ?_ | refine r_iadd C dc_L_law_804 ?_
    refine r_scld C hX hsb (by omega) hL e2 dc_L_law_805 ?_
    refine rw_hh (lh_mh hS) ?_
    refine r_callV C dp dc_L_law_806 cw_L_103 cm_M_about cv_M_about rfl mh_0 (k_M_about (df := 0) hl K0.h1 K0.cb.1) (by decide) rfl rfl (Nat.le_of_ble_eq_true rfl) (fun vm hm nm qm zm => ?_) (fun _ _ _ _ z => z.elim)
    rcases zm with ⟨⟨u, g1, g2⟩ | ⟨u, N, hfx, g1, g2⟩, g3⟩
    ·
      exact absurd ((show abC v1 v2 = 1 from if_pos u).symm.trans y1) (by decide)
    ·
      subst g1
      subst g2
      subst g3
      have hst := st_about K0 hfx u v2
      try dsimp only at hst
      rcases hst with ⟨c0, t0, K1, ev⟩ | ⟨c0, t0, K1⟩
      rotate_left
      · exact absurd (y1.symm.trans c0) (by decide)
      refine r_istore C dc_L_law_809 (by decide) (nw_of rfl) ?_
      first | refine r_aload_n C dc_L_law_811 rfl rfl ?_ | refine r_aload_nq C dc_L_law_811 rfl rfl ?_
      refine r_callV C dp dc_L_law_812 cw_L_67 cm_M_thrown cv_M_thrown rfl mh_0 (k_M_thrown (df := 0) hl) (by decide) rfl rfl (Nat.le_of_ble_eq_true rfl) (fun vt ht nt qt zt => ?_) (fun _ _ _ _ z => z.elim)
      obtain ⟨g1, g2, g3⟩ := zt
      subst g1
      subst g2
      subst g3
      refine r_iload C dc_L_law_815 rfl ?_
      refine r_icmp_eq (tgt := 822) C dc_L_law_817 (by decide) (fun _ => ?_) (fun cz => absurd t0 cz)
      refine r_iload C dc_L_law_822 rfl ?_
      refine r_if_ne (tgt := 839) C dc_L_law_824 (by decide) (fun cz => absurd nI_0 cz) (fun _ => ?_)
      first | refine r_aload_n C dc_L_law_827 rfl rfl ?_ | refine r_aload_nq C dc_L_law_827 rfl rfl ?_
      refine r_iconst (v := nI 0) C dc_L_law_828 (by decide) ?_
      refine rw_hh (lh_mh hS).symm ?_
      refine r_jald C dc_L_law_829 (lh_lg hS) rfl (by decide) (by decide) ?_
      refine r_iload C dc_L_law_830 rfl ?_
      refine r_i2l C dc_L_law_832 rfl ?_
      refine r_lcmp C dc_L_law_833 ?_
      refine r_if_eq (tgt := 839) C dc_L_law_834 (by decide) (fun _ => ?_) (fun cz => absurd ((lg_cmp_eq _ _).mpr (by rw [pk_uLs, ev])) cz)
      refine r_goto (tgt := 935) C dc_L_law_839 (by decide) ?_
      exact r_weak (wl_c (rfl) (wl_c (rfl) (wl_c (rfl) (wl_c (rfl) (wl_c (rfl) (wl_n)))))) (K _ _ _ _ _ _ _ _ _ _ ⟨K1, hS, by omega, by omega, by omega⟩)
  ·
    subst y3
    have hnz : ¬ nI (abC v1 v2) = 0 := by
      rcases hcd y1 with c0 | c0
      · rw [c0]; decide
      · rw [c0]; decide
    refine r_istore C dc_L_law_791 (by decide) (nw_of rfl) ?_
    first | refine r_aload_n C dc_L_law_793 rfl rfl ?_ | refine r_aload_nq C dc_L_law_793 rfl rfl ?_
    first | refine r_aload_n C dc_L_law_794 rfl rfl ?_ | refine r_aload_nq C dc_L_law_794 rfl rfl ?_
    refine r_iload C dc_L_law_795 rfl ?_
    refine r_iconst (v := nI 1) C dc_L_law_797 (by decide) ?_
    first | refine r_iaddN C dc_L_law_798 ?_ | refine r_iadd C dc_L_law_798 ?_
    refine r_scld C hX hsb (by omega) hL e1 dc_L_law_799 ?_
    first | refine r_aload_n C dc_L_law_800 rfl rfl ?_ | refine r_aload_nq C dc_L_law_800 rfl rfl ?_
    refine r_iload C dc_L_law_801 rfl ?_
    refine r_iconst (v := nI 2) C dc_L_law_803 (by decide) ?_
    first | refine r_iaddN C dc_L_law_804 ?_ | refine r_iadd C dc_L_law_804 ?_
    refine r_scld C hX hsb (by omega) hL e2 dc_L_law_805 ?_
    refine rw_hh (lh_mh hS) ?_
    refine r_callV C dp dc_L_law_806 cw_L_103 cm_M_about cv_M_about rfl mh_0 (k_M_about (df := 0) hl K0.h1 K0.cb.1) (by decide) rfl rfl (Nat.le_of_ble_eq_true rfl) (fun vm hm nm qm zm => ?_) (fun _ _ _ _ z => z.elim)
    rcases zm with ⟨⟨u, g1, g2⟩ | ⟨u, N, hfx, g1, g2⟩, g3⟩
    ·
      subst g1
      subst g2
      subst g3
      have t0 : th x 1 0 0 = nI (abC v1 v2) := by rw [show abC v1 v2 = 1 from if_pos u]; rfl
      refine r_istore C dc_L_law_809 (by decide) (nw_of rfl) ?_
      first | refine r_aload_n C dc_L_law_811 rfl rfl ?_ | refine r_aload_nq C dc_L_law_811 rfl rfl ?_
      refine r_callV C dp dc_L_law_812 cw_L_67 cm_M_thrown cv_M_thrown rfl mh_0 (k_M_thrown (df := 0) hl) (by decide) rfl rfl (Nat.le_of_ble_eq_true rfl) (fun vt ht nt qt zt => ?_) (fun _ _ _ _ z => z.elim)
      obtain ⟨g1, g2, g3⟩ := zt
      subst g1
      subst g2
      subst g3
      refine r_iload C dc_L_law_815 rfl ?_
      refine r_icmp_eq (tgt := 822) C dc_L_law_817 (by decide) (fun _ => ?_) (fun cz => absurd t0 cz)
      refine r_iload C dc_L_law_822 rfl ?_
      refine r_if_ne (tgt := 839) C dc_L_law_824 (by decide) (fun _ => ?_) (fun cz => absurd cz hnz)
      refine rw_hh (lh_mh hS).symm ?_
      refine r_goto (tgt := 935) C dc_L_law_839 (by decide) ?_
      exact r_weak (wl_c (rfl) (wl_c (rfl) (wl_c (rfl) (wl_c (rfl) (wl_c (rfl) (wl_n)))))) (K _ _ _ _ _ _ _ _ _ _ ⟨K0.th 1, hS, by omega, by omega, by omega⟩)
    ·
      subst g1
      subst g2
      subst g3
      have hst := st_about K0 hfx u v2
      try dsimp only at hst
      rcases hst with ⟨c0, _⟩ | ⟨c0, t1, K1⟩
      · exact absurd c0 y1
      have t0 : (mAb (mTx ot x N) (cl v1) v2).2 0 0 = nI (abC v1 v2) := by rw [c0]; exact t1
      refine r_istore C dc_L_law_809 (by decide) (nw_of rfl) ?_
      first | refine r_aload_n C dc_L_law_811 rfl rfl ?_ | refine r_aload_nq C dc_L_law_811 rfl rfl ?_
      refine r_callV C dp dc_L_law_812 cw_L_67 cm_M_thrown cv_M_thrown rfl mh_0 (k_M_thrown (df := 0) hl) (by decide) rfl rfl (Nat.le_of_ble_eq_true rfl) (fun vt ht nt qt zt => ?_) (fun _ _ _ _ z => z.elim)
      obtain ⟨g1, g2, g3⟩ := zt
      subst g1
      subst g2
      subst g3
      refine r_iload C dc_L_law_815 rfl ?_
      refine r_icmp_eq (tgt := 822) C dc_L_law_817 (by decide) (fun _ => ?_) (fun cz => absurd t0 cz)
      refine r_iload C dc_L_law_822 rfl ?_
      refine r_if_ne (tgt := 839) C dc_L_law_824 (by decide) (fun _ => ?_) (fun cz => absurd cz hnz)
      refine rw_hh (lh_mh hS).symm ?_
      refine r_goto (tgt := 935) C dc_L_law_839 (by decide) ?_
      exact r_weak (wl_c (rfl) (wl_c (rfl) (wl_c (rfl) (wl_c (rfl) (wl_c (rfl) (wl_n)))))) (K _ _ _ _ _ _ _ _ _ _ ⟨K1, hS, by omega, by omega, by omega⟩)
set_option maxRecDepth 4000 in
set_option maxHeartbeats 2000000 in
theorem la_tick (C : Cx p l s m args meth c D A G cd_L_law 7 rn_L) (dp : Dp R 30 bc0 bs0) (hX : va_X sb L xs s G) (hsb : sb < G.size) (hL : L ≤ 3584) (hk : 7 * k + 7 ≤ L) (I : LI G ot S x z r q ck sn n k) (K : ∀ (ot' : Nat → Option Nat) (S' : Nat → Bool) (x' z' : Nat → Nat → Int32) (r' : Nat → Nat → Option Nat) (q' : Nat → Nat → Int32) (f' : Nat → Int64) (ck' sn' n' : Nat), LI G ot' S' x' z' r' q' ck' sn' n' (k + 1) → Rw p l e R s m args below meth c Q D G 7 bc bs (LH A G z' r' S' q' x' f') n' [(0, .ref sb), (1, .ref G.size), (2, .ref (G.size + 68)), (3, .ref (G.size + 103)), (4, .int (nI (7 * k)))] 935 []) : Rw p l e R s m args below meth c Q D G 7 (bc + 5) (bs + 34) (LH A G z r S q x f) n [(0, .ref sb), (1, .ref G.size), (2, .ref (G.size + 68)), (3, .ref (G.size + 103)), (4, .int (nI (7 * k)))] 582 [] := by
  have hl : l.stackTraces = false := C.2.2.2.2.2.2.2
  obtain ⟨K0, hS, hn, hck, hsn⟩ := I
  obtain ⟨v1, e1⟩ : ∃ v, xs (7 * k + 1) = v := ⟨_, rfl⟩
  have hcd : ¬ rgC v1 1 50 = 0 → rgC v1 1 50 = 2 := fun hz => (rg_2 v1 1 50).elim (fun h => absurd h hz) (fun h => h)
  have hc50 : ck + 50 < 2 ^ 31 := by omega
  obtain ⟨jc0, jc1, jc2⟩ := KS.jc (ot := ot) (b := G.size) (S := S) (sn := sn) hc50
  obtain ⟨jm1, jm2⟩ := KS.jm (ot := ot) (b := G.size) (S := S) (sn := sn) hc50
  refine r_room (bc' := bc + 1) (bs' := bs + 6) (by omega) (by omega) ?_
  first | refine r_aload_n C dc_L_law_582 rfl rfl ?_ | refine r_aload_nq C dc_L_law_582 rfl rfl ?_
  first | refine r_aload_n C dc_L_law_583 rfl rfl ?_ | refine r_aload_nq C dc_L_law_583 rfl rfl ?_
  refine r_iload C dc_L_law_584 rfl ?_
  refine r_iconst (v := nI 1) C dc_L_law_586 (by decide) ?_
  first | refine r_iaddN C dc_L_law_587 ?_ | refine r_iadd C dc_L_law_587 ?_
  refine r_scld C hX hsb (by omega) hL e1 dc_L_law_588 ?_
  first | refine r_aload_n C dc_L_law_589 rfl rfl ?_ | refine r_aload_nq C dc_L_law_589 rfl rfl ?_
  refine r_callSH (k := 3) C dp dc_L_law_590 gw_tick ⟨by decide, by decide, by decide +kernel⟩ (by decide) (k_L_tick (cd := rgC v1 1 50) hl ch_S (k_S_tick (df := 0) (g := itP ot 11) (J := fun t c => ∃ y, KS ot G.size S y c (ck + t) sn) hl K0.cb.1 K0.cb.2.2.2 (fun j hj => Nat.lt_of_le_of_lt (itP_le ot 11 j) hj) K0.s18 jc0 jc1 jc2) (fun v h1 n1 z => ⟨_, f, z.2.1, by rw [z.2.2.1]; exact lh_lg hS⟩) (fun E h1 n1 z => ⟨z.2.1, hcd z.1⟩)) (by decide) rfl rfl (Nat.le_of_ble_eq_true rfl) (fun v9 h9 n9 q9 z9 => ?_)
  rcases z9 with ⟨V, h1, f1, ⟨y1, y2, y3, y4⟩, rfl, hlg, rfl⟩ | ⟨⟨y1, y2, y3, y4⟩, rfl⟩
  ·
    cases y2
    subst y3
    subst y4
    refine rw_hh (lh_st hS) ?_
    refine r_istore C dc_L_law_593 (by decide) (nw_of rfl) ?_
    first | refine r_aload_n C dc_L_law_595 rfl rfl ?_ | refine r_aload_nq C dc_L_law_595 rfl rfl ?_
    first | refine r_aload_n C dc_L_law_596 rfl rfl ?_ | refine r_aload_nq C dc_L_law_596 rfl rfl ?_
    refine r_iload C dc_L_law_597 rfl ?_
    refine r_iconst (v := nI 1) C dc_L_law_599 (by decide) ?_
    first | refine r_iaddN C dc_L_law_600 ?_ | refine r_iadd C dc_L_law_600 ?_
    refine r_scld C hX hsb (by omega) hL e1 dc_L_law_601 ?_
    refine rw_hh (lh_mh hS) ?_
    refine r_callV C dp dc_L_law_602 cw_L_94 cm_M_tick cv_M_tick rfl mh_0 (k_M_tick (df := 0) (J := fun t y => ∃ c, KS ot G.size S y c (ck + t) sn) hl K0.h1 K0.cb.1 (fun N hfx => ⟨_, K0.tx hfx⟩) jm1 jm2) (by decide) rfl rfl (Nat.le_of_ble_eq_true rfl) (fun vm hm nm qm zm => ?_) (fun _ _ _ _ z => z.elim)
    rcases zm with ⟨⟨u, g1, g2⟩ | ⟨u, N, hfx, g1, g2⟩, g3⟩
    ·
      exact absurd ((show rgC v1 1 50 = 2 from if_pos u).symm.trans y1) (by decide)
    ·
      subst g1
      subst g2
      subst g3
      obtain ⟨t0, ev, ck1, hck1, K1⟩ := st_tick K0 hc50 hfx u
      refine r_istore C dc_L_law_605 (by decide) (nw_of rfl) ?_
      first | refine r_aload_n C dc_L_law_607 rfl rfl ?_ | refine r_aload_nq C dc_L_law_607 rfl rfl ?_
      refine r_callV C dp dc_L_law_608 cw_L_67 cm_M_thrown cv_M_thrown rfl mh_0 (k_M_thrown (df := 0) hl) (by decide) rfl rfl (Nat.le_of_ble_eq_true rfl) (fun vt ht nt qt zt => ?_) (fun _ _ _ _ z => z.elim)
      obtain ⟨g1, g2, g3⟩ := zt
      subst g1
      subst g2
      subst g3
      refine r_iload C dc_L_law_611 rfl ?_
      refine r_icmp_eq (tgt := 618) C dc_L_law_613 (by decide) (fun _ => ?_) (fun cz => absurd t0 cz)
      refine r_iload C dc_L_law_618 rfl ?_
      refine r_if_ne (tgt := 635) C dc_L_law_620 (by decide) (fun cz => absurd nI_0 cz) (fun _ => ?_)
      first | refine r_aload_n C dc_L_law_623 rfl rfl ?_ | refine r_aload_nq C dc_L_law_623 rfl rfl ?_
      refine r_iconst (v := nI 0) C dc_L_law_624 (by decide) ?_
      refine rw_hh (lh_mh hS).symm ?_
      refine r_jald C dc_L_law_625 (lh_lg hS) rfl (by decide) (by decide) ?_
      refine r_iload C dc_L_law_626 rfl ?_
      refine r_i2l C dc_L_law_628 rfl ?_
      refine r_lcmp C dc_L_law_629 ?_
      refine r_if_eq (tgt := 635) C dc_L_law_630 (by decide) (fun _ => ?_) (fun cz => absurd ((lg_cmp_eq _ _).mpr (by rw [pk_uLs, ev])) cz)
      refine r_goto (tgt := 935) C dc_L_law_635 (by decide) ?_
      exact r_weak (wl_c (rfl) (wl_c (rfl) (wl_c (rfl) (wl_c (rfl) (wl_c (rfl) (wl_n)))))) (K _ _ _ _ _ _ _ _ _ _ ⟨K1, hS, by omega, by omega, by omega⟩)
  ·
    subst y3
    have hnz : ¬ nI 1 = 0 := by decide
    refine r_istore C dc_L_law_593 (by decide) (nw_of rfl) ?_
    first | refine r_aload_n C dc_L_law_595 rfl rfl ?_ | refine r_aload_nq C dc_L_law_595 rfl rfl ?_
    first | refine r_aload_n C dc_L_law_596 rfl rfl ?_ | refine r_aload_nq C dc_L_law_596 rfl rfl ?_
    refine r_iload C dc_L_law_597 rfl ?_
    refine r_iconst (v := nI 1) C dc_L_law_599 (by decide) ?_
    first | refine r_iaddN C dc_L_law_600 ?_ | refine r_iadd C dc_L_law_600 ?_
    refine r_scld C hX hsb (by omega) hL e1 dc_L_law_601 ?_
    refine rw_hh (lh_mh hS) ?_
    refine r_callV C dp dc_L_law_602 cw_L_94 cm_M_tick cv_M_tick rfl mh_0 (k_M_tick (df := 0) (J := fun t y => ∃ c, KS ot G.size S y c (ck + t) sn) hl K0.h1 K0.cb.1 (fun N hfx => ⟨_, K0.tx hfx⟩) jm1 jm2) (by decide) rfl rfl (Nat.le_of_ble_eq_true rfl) (fun vm hm nm qm zm => ?_) (fun _ _ _ _ z => z.elim)
    rcases zm with ⟨⟨u, g1, g2⟩ | ⟨u, N, hfx, g1, g2⟩, g3⟩
    ·
      subst g1
      subst g2
      subst g3
      have t0 : th x 1 0 0 = nI 1 := rfl
      refine r_istore C dc_L_law_605 (by decide) (nw_of rfl) ?_
      first | refine r_aload_n C dc_L_law_607 rfl rfl ?_ | refine r_aload_nq C dc_L_law_607 rfl rfl ?_
      refine r_callV C dp dc_L_law_608 cw_L_67 cm_M_thrown cv_M_thrown rfl mh_0 (k_M_thrown (df := 0) hl) (by decide) rfl rfl (Nat.le_of_ble_eq_true rfl) (fun vt ht nt qt zt => ?_) (fun _ _ _ _ z => z.elim)
      obtain ⟨g1, g2, g3⟩ := zt
      subst g1
      subst g2
      subst g3
      refine r_iload C dc_L_law_611 rfl ?_
      refine r_icmp_eq (tgt := 618) C dc_L_law_613 (by decide) (fun _ => ?_) (fun cz => absurd t0 cz)
      refine r_iload C dc_L_law_618 rfl ?_
      refine r_if_ne (tgt := 635) C dc_L_law_620 (by decide) (fun _ => ?_) (fun cz => absurd cz hnz)
      refine rw_hh (lh_mh hS).symm ?_
      refine r_goto (tgt := 935) C dc_L_law_635 (by decide) ?_
      exact r_weak (wl_c (rfl) (wl_c (rfl) (wl_c (rfl) (wl_c (rfl) (wl_c (rfl) (wl_n)))))) (K _ _ _ _ _ _ _ _ _ _ ⟨K0.th 1, hS, by omega, by omega, by omega⟩)
    ·
      exact absurd (show rgC v1 1 50 = 0 from if_neg u) y1
set_option maxRecDepth 4000 in
set_option maxHeartbeats 2000000 in
theorem la_count (C : Cx p l s m args meth c D A G cd_L_law 7 rn_L) (dp : Dp R 30 bc0 bs0) (hX : va_X sb L xs s G) (hsb : sb < G.size) (hL : L ≤ 3584) (hk : 7 * k + 7 ≤ L) (I : LI G ot S x z r q ck sn n k) (K : ∀ (ot' : Nat → Option Nat) (S' : Nat → Bool) (x' z' : Nat → Nat → Int32) (r' : Nat → Nat → Option Nat) (q' : Nat → Nat → Int32) (f' : Nat → Int64) (ck' sn' n' : Nat), LI G ot' S' x' z' r' q' ck' sn' n' (k + 1) → Rw p l e R s m args below meth c Q D G 7 bc bs (LH A G z' r' S' q' x' f') n' [(0, .ref sb), (1, .ref G.size), (2, .ref (G.size + 68)), (3, .ref (G.size + 103)), (4, .int (nI (7 * k)))] 935 []) : Rw p l e R s m args below meth c Q D G 7 (bc + 5) (bs + 34) (LH A G z r S q x f) n [(0, .ref sb), (1, .ref G.size), (2, .ref (G.size + 68)), (3, .ref (G.size + 103)), (4, .int (nI (7 * k)))] 910 [] := by
  have hl : l.stackTraces = false := C.2.2.2.2.2.2.2
  obtain ⟨K0, hS, hn, hck, hsn⟩ := I
  obtain ⟨v1, e1⟩ : ∃ v, xs (7 * k + 1) = v := ⟨_, rfl⟩
  refine r_room (bc' := bc) (bs' := bs) (by omega) (by omega) ?_
  first | refine r_aload_n C dc_L_law_910 rfl rfl ?_ | refine r_aload_nq C dc_L_law_910 rfl rfl ?_
  first | refine r_aload_n C dc_L_law_911 rfl rfl ?_ | refine r_aload_nq C dc_L_law_911 rfl rfl ?_
  refine r_iload C dc_L_law_912 rfl ?_
  refine r_iconst (v := nI 1) C dc_L_law_914 (by decide) ?_
  first | refine r_iaddN C dc_L_law_915 ?_ | refine r_iadd C dc_L_law_915 ?_
  refine r_scld C hX hsb (by omega) hL e1 dc_L_law_916 ?_
  refine r_callV C dp dc_L_law_917 cw_L_107 cm_S_count cv_S_count rfl ch_S (k_S_count (df := 0) (g := itP ot 11) hl K0.h31 (fun j hj => Nat.lt_of_le_of_lt (itP_le ot 11 j) hj)) (by decide) rfl rfl (Nat.le_of_ble_eq_true rfl) (fun v9 h9 n9 q9 z9 => ?_) (fun _ _ _ _ z => z.elim)
  obtain ⟨y1, y2, y3⟩ := z9
  subst y1
  subst y2
  subst y3
  first | refine r_aload_n C dc_L_law_920 rfl rfl ?_ | refine r_aload_nq C dc_L_law_920 rfl rfl ?_
  first | refine r_aload_n C dc_L_law_921 rfl rfl ?_ | refine r_aload_nq C dc_L_law_921 rfl rfl ?_
  refine r_iload C dc_L_law_922 rfl ?_
  refine r_iconst (v := nI 1) C dc_L_law_924 (by decide) ?_
  first | refine r_iaddN C dc_L_law_925 ?_ | refine r_iadd C dc_L_law_925 ?_
  refine r_scld C hX hsb (by omega) hL e1 dc_L_law_926 ?_
  refine rw_hh (lh_mh hS) ?_
  refine r_callV C dp dc_L_law_927 cw_L_110 cm_M_count cv_M_count rfl mh_0 (k_M_count (df := 0) hl K0.h1 K0.cb.1) (by decide) rfl rfl (Nat.le_of_ble_eq_true rfl) (fun vm hm nm qm zm => ?_) (fun _ _ _ _ z => z.elim)
  obtain ⟨⟨N, hfx, g1, g2⟩, g3⟩ := zm
  subst g1
  subst g2
  subst g3
  obtain ⟨ev, K1⟩ := st_count K0 hfx v1
  refine r_icmp_eq (tgt := 935) C dc_L_law_930 (by decide) (fun _ => ?_) (fun cz => absurd ev cz)
  refine rw_hh (lh_mh hS).symm ?_
  exact r_weak (wl_c (rfl) (wl_c (rfl) (wl_c (rfl) (wl_c (rfl) (wl_c (rfl) (wl_n)))))) (K _ _ _ _ _ _ _ _ _ _ ⟨K1, hS, by omega, by omega, by omega⟩)
end Law5
