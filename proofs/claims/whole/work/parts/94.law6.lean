section Law6
variable {p : Program} {l : Launch} {e : Env} {R : Room} {s : State} {m : MethodId} {args : Array Value} {below : List Frame} {meth : Method} {c : Code} {Q : State → Prop} {D : va_G} {A : Nat → ClassId} {G : Heap} {bc bs n bc0 bs0 sb L k ck sn : Nat} {xs : Nat → Int32} {ot : Nat → Option Nat} {S : Nat → Bool} {x z : Nat → Nat → Int32} {r : Nat → Nat → Option Nat} {q : Nat → Nat → Int32} {f : Nat → Int64}
theorem and_15 (v : Int32) : ∃ t : Nat, t < 16 ∧ v &&& nI 15 = nI t := by
  refine ⟨v.toBitVec.toNat % 16, Nat.mod_lt _ (by decide), ?_⟩
  apply Int32.toBitVec_inj.mp
  apply BitVec.eq_of_toNat_eq
  rw [Int32.toBitVec_and, BitVec.toNat_and]
  have e1 : (nI 15).toBitVec.toNat = 2 ^ 4 - 1 := by decide
  rw [e1, Nat.and_two_pow_sub_one_eq_mod]
  show _ = (BitVec.ofNat 32 (v.toBitVec.toNat % 16)).toNat
  rw [BitVec.toNat_ofNat]
  omega
theorem lt_7 {a : Nat} (hL : L ≤ 3584) (ha : a ≤ L) : nI L - nI 7 < nI a ↔ L < a + 7 := by
  rw [Int32.lt_iff_toInt_lt, pk_sub_toInt (by omega) (by decide), nI_toInt (by omega)]
  omega
theorem lh_0 {c5 c6 : va_E} : hs (MH A (G.size + 68) x (hs (CH A G.size z r (hs (fun _ => none) G.size c5)) (G.size + 68) c6)) (G.size + 103) (jc A 1 f) = LH A G z r (fun _ => false) q x f := by
  funext a
  unfold LH CH RH MH hs
  dsimp only
  by_cases h1 : a = G.size + 103
  · subst h1
    rw [if_pos rfl, if_pos (Or.inr (by omega)), if_neg (by decide), if_pos (Or.inr (by omega)), if_pos rfl]
  · rw [if_neg h1]
    by_cases h2 : a < G.size + 68 ∨ G.size + 68 + 34 < a
    · rw [if_pos h2, if_neg (by omega)]
      by_cases h3 : a < G.size ∨ G.size + 67 < a
      · rw [if_pos h3, if_pos h3, if_neg (by omega), if_neg (by decide), if_pos h2, if_neg h1]
      · rw [if_neg h3, if_neg h3]
    · have h4 : a < G.size ∨ G.size + 67 < a := by omega
      rw [if_neg h2, if_pos h4, if_neg (show ¬ false = true by decide), if_neg h2]
theorem nd_S : ∀ j, j < 9 → ∀ ty, parseFieldDescriptor (ft_S j).2.2.1 = some ty → defaultValue ty = vp_V [.null, .null, .null, .int 0, .int 0, .int 0, .int 0, .int 0, .int 0] j := by
  intro j hj ty h
  rw [ty_S j hj] at h
  cases h
  rcases (show j = 0 ∨ j = 1 ∨ j = 2 ∨ j = 3 ∨ j = 4 ∨ j = 5 ∨ j = 6 ∨ j = 7 ∨ j = 8 by omega) with e | e | e | e | e | e | e | e | e <;> subst e <;> rfl
theorem nd_M : ∀ j, j < 42 → ∀ ty, parseFieldDescriptor (ft_M j).2.2.1 = some ty → defaultValue ty = vp_V mf0 j := by
  intro j hj ty h
  rw [ty_M j hj] at h
  cases h
  rcases (show j = 0 ∨ j = 1 ∨ j = 2 ∨ j = 3 ∨ j = 4 ∨ j = 5 ∨ j = 6 ∨ j = 7 ∨ j = 8 ∨ j = 9 ∨ j = 10 ∨ j = 11 ∨ j = 12 ∨ j = 13 ∨ j = 14 ∨ j = 15 ∨ j = 16 ∨ j = 17 ∨ j = 18 ∨ j = 19 ∨ j = 20 ∨ j = 21 ∨ j = 22 ∨ j = 23 ∨ j = 24 ∨ j = 25 ∨ j = 26 ∨ j = 27 ∨ j = 28 ∨ j = 29 ∨ j = 30 ∨ j = 31 ∨ j = 32 ∨ j = 33 ∨ j = 34 ∨ j = 35 ∨ j = 36 ∨ j = 37 ∨ j = 38 ∨ j = 39 ∨ j = 40 ∨ j = 41 by omega) with e | e | e | e | e | e | e | e | e | e | e | e | e | e | e | e | e | e | e | e | e | e | e | e | e | e | e | e | e | e | e | e | e | e | e | e | e | e | e | e | e | e <;> subst e <;> rfl
set_option maxRecDepth 4000 in
set_option maxHeartbeats 2000000 in
theorem la_loop (C : Cx p l s m args meth c D A G cd_L_law 7 rn_L) (dp : Dp R 30 bc0 bs0) (hX : va_X sb L xs s G) (hsb : sb < G.size) (hL : L ≤ 3584) (KE : ∀ (h : Hp) (n : Nat) (lo : List (Nat × Value)) (bc bs : Nat), Rw p l e R s m args below meth c Q D G 7 bc bs h n lo 941 []) : ∀ (j k : Nat), L < 7 * (k + j) + 7 → 7 * k ≤ L → ∀ (ot : Nat → Option Nat) (S : Nat → Bool) (x z : Nat → Nat → Int32) (r : Nat → Nat → Option Nat) (q : Nat → Nat → Int32) (f : Nat → Int64) (ck sn n : Nat), LI G ot S x z r q ck sn n k → Rw p l e R s m args below meth c Q D G 7 (5 * j) (34 * j) (LH A G z r S q x f) n [(0, .ref sb), (1, .ref G.size), (2, .ref (G.size + 68)), (3, .ref (G.size + 103)), (4, .int (nI (7 * k)))] 23 [] := by
  intro j
  induction j with
  | zero =>
    intro k h1 h2 ot S x z r q f ck sn n I
    refine r_iload C dc_L_law_23 rfl ?_
    first | refine r_aload_n C dc_L_law_25 rfl rfl ?_ | refine r_aload_nq C dc_L_law_25 rfl rfl ?_
    refine r_sclen C hX hsb dc_L_law_26 ?_
    refine r_bipush (v := nI 7) C dc_L_law_27 (by decide) ?_
    refine r_isub C dc_L_law_29 ?_
    exact r_icmp_gt (tgt := 941) C dc_L_law_30 (by decide) (fun _ => KE _ _ _ _ _) (fun cz => absurd ((lt_7 hL h2).mpr (by omega)) cz)
  | succ j ih =>
    intro k h1 h2 ot S x z r q f ck sn n I
    have hc : ∀ (ot : Nat → Option Nat) (S : Nat → Bool) (x z : Nat → Nat → Int32) (r : Nat → Nat → Option Nat) (q : Nat → Nat → Int32) (f : Nat → Int64) (ck sn n : Nat), 7 * k + 7 ≤ L → LI G ot S x z r q ck sn n (k + 1) → Rw p l e R s m args below meth c Q D G 7 (5 * j) (34 * j) (LH A G z r S q x f) n [(0, .ref sb), (1, .ref G.size), (2, .ref (G.size + 68)), (3, .ref (G.size + 103)), (4, .int (nI (7 * k)))] 935 [] := by
      intro ot S x z r q f ck sn n hk I
      refine r_iinc C dc_L_law_935 rfl (show nI (7 * k) + Int32.ofInt 7 = nI (7 * (k + 1)) from (nI_add (7 * k) 7).trans (by rw [Nat.mul_succ])) (by decide) (nw_of rfl) ?_
      refine r_goto (tgt := 23) C dc_L_law_938 (by decide) ?_
      exact ih (k + 1) (by omega) (by omega) ot S x z r q f ck sn n I
    refine r_iload C dc_L_law_23 rfl ?_
    first | refine r_aload_n C dc_L_law_25 rfl rfl ?_ | refine r_aload_nq C dc_L_law_25 rfl rfl ?_
    refine r_sclen C hX hsb dc_L_law_26 ?_
    refine r_bipush (v := nI 7) C dc_L_law_27 (by decide) ?_
    refine r_isub C dc_L_law_29 ?_
    refine r_icmp_gt (tgt := 941) C dc_L_law_30 (by decide) (fun _ => KE _ _ _ _ _) (fun cz => ?_)
    have hk : 7 * k + 7 ≤ L := Nat.not_lt.mp (fun h => cz ((lt_7 hL h2).mpr h))
    obtain ⟨v0, e0⟩ : ∃ v, xs (7 * k) = v := ⟨_, rfl⟩
    obtain ⟨t, ht, et⟩ := and_15 v0
    first | refine r_aload_n C dc_L_law_33 rfl rfl ?_ | refine r_aload_nq C dc_L_law_33 rfl rfl ?_
    refine r_iload C dc_L_law_34 rfl ?_
    refine r_scld C hX hsb (by omega) hL e0 dc_L_law_36 ?_
    refine r_bipush (v := nI 15) C dc_L_law_37 (by decide) ?_
    refine r_iand C dc_L_law_39 ?_
    rw [et]
    refine r_room (bc' := 5 * j + 5) (bs' := 34 * j + 34) (by omega) (by omega) ?_
    have e9 : t = 0 ∨ t = 1 ∨ t = 2 ∨ t = 3 ∨ t = 4 ∨ t = 5 ∨ t = 6 ∨ t = 7 ∨ t = 8 ∨ t = 9 ∨ t = 10 ∨ t = 11 ∨ t = 12 ∨ t = 13 ∨ t = 14 ∨ t = 15 := by omega
    rcases e9 with rfl | rfl | rfl | rfl | rfl | rfl | rfl | rfl | rfl | rfl | rfl | rfl | rfl | rfl | rfl | rfl
    ·
      refine r_tableIn (tgt := 104) C dc_L_law_40 (by decide) (by decide) rfl (by decide) ?_
      exact la_plug C dp hX hsb hL hk I (fun ot S x z r q f ck sn n I => hc ot S x z r q f ck sn n hk I)
    ·
      refine r_tableIn (tgt := 196) C dc_L_law_40 (by decide) (by decide) rfl (by decide) ?_
      exact la_unplug C dp hX hsb hL hk I (fun ot S x z r q f ck sn n I => hc ot S x z r q f ck sn n hk I)
    ·
      refine r_tableIn (tgt := 264) C dc_L_law_40 (by decide) (by decide) rfl (by decide) ?_
      exact la_reset C dp hX hsb hL hk I (fun ot S x z r q f ck sn n I => hc ot S x z r q f ck sn n hk I)
    ·
      refine r_tableIn (tgt := 368) C dc_L_law_40 (by decide) (by decide) rfl (by decide) ?_
      exact la_ask C dp hX hsb hL hk I (fun ot S x z r q f ck sn n I => hc ot S x z r q f ck sn n hk I)
    ·
      refine r_tableIn (tgt := 486) C dc_L_law_40 (by decide) (by decide) rfl (by decide) ?_
      exact la_talk C dp hX hsb hL hk I (fun ot S x z r q f ck sn n I => hc ot S x z r q f ck sn n hk I)
    ·
      refine r_tableIn (tgt := 546) C dc_L_law_40 (by decide) (by decide) rfl (by decide) ?_
      exact la_time C dp hX hsb hL hk I (fun ot S x z r q f ck sn n I => hc ot S x z r q f ck sn n hk I)
    ·
      refine r_tableIn (tgt := 582) C dc_L_law_40 (by decide) (by decide) rfl (by decide) ?_
      exact la_tick C dp hX hsb hL hk I (fun ot S x z r q f ck sn n I => hc ot S x z r q f ck sn n hk I)
    ·
      refine r_tableIn (tgt := 638) C dc_L_law_40 (by decide) (by decide) rfl (by decide) ?_
      exact la_ended C dp hX hsb hL hk I (fun ot S x z r q f ck sn n I => hc ot S x z r q f ck sn n hk I)
    ·
      refine r_tableIn (tgt := 706) C dc_L_law_40 (by decide) (by decide) rfl (by decide) ?_
      exact la_value C dp hX hsb hL hk I (fun ot S x z r q f ck sn n I => hc ot S x z r q f ck sn n hk I)
    ·
      refine r_tableIn (tgt := 774) C dc_L_law_40 (by decide) (by decide) rfl (by decide) ?_
      exact la_about C dp hX hsb hL hk I (fun ot S x z r q f ck sn n I => hc ot S x z r q f ck sn n hk I)
    ·
      refine r_tableIn (tgt := 842) C dc_L_law_40 (by decide) (by decide) rfl (by decide) ?_
      exact la_word C dp hX hsb hL hk I (fun ot S x z r q f ck sn n I => hc ot S x z r q f ck sn n hk I)
    ·
      refine r_tableIn (tgt := 910) C dc_L_law_40 (by decide) (by decide) rfl (by decide) ?_
      exact la_count C dp hX hsb hL hk I (fun ot S x z r q f ck sn n I => hc ot S x z r q f ck sn n hk I)
    ·
      refine r_tableOut (tgt := 935) C dc_L_law_40 (Or.inr (by decide)) (by decide) ?_
      refine r_room (bc' := 5 * j) (bs' := 34 * j) (by omega) (by omega) ?_
      exact hc ot S x z r q f ck sn n hk ⟨I.1, I.2.1, I.2.2.1, by have := I.2.2.2.1; omega, by have := I.2.2.2.2; omega⟩
    ·
      refine r_tableOut (tgt := 935) C dc_L_law_40 (Or.inr (by decide)) (by decide) ?_
      refine r_room (bc' := 5 * j) (bs' := 34 * j) (by omega) (by omega) ?_
      exact hc ot S x z r q f ck sn n hk ⟨I.1, I.2.1, I.2.2.1, by have := I.2.2.2.1; omega, by have := I.2.2.2.2; omega⟩
    ·
      refine r_tableOut (tgt := 935) C dc_L_law_40 (Or.inr (by decide)) (by decide) ?_
      refine r_room (bc' := 5 * j) (bs' := 34 * j) (by omega) (by omega) ?_
      exact hc ot S x z r q f ck sn n hk ⟨I.1, I.2.1, I.2.2.1, by have := I.2.2.2.1; omega, by have := I.2.2.2.2; omega⟩
    ·
      refine r_tableOut (tgt := 935) C dc_L_law_40 (Or.inr (by decide)) (by decide) ?_
      refine r_room (bc' := 5 * j) (bs' := 34 * j) (by omega) (by omega) ?_
      exact hc ot S x z r q f ck sn n hk ⟨I.1, I.2.1, I.2.2.1, by have := I.2.2.2.1; omega, by have := I.2.2.2.2; omega⟩
end Law6
set_option maxRecDepth 100000 in
set_option maxHeartbeats 4000000 in
theorem whole_start {p : Program} {e : Env} {s : State} {m : MethodId} {below : List Frame} {meth : Method} {c : Code} (l : Launch) (hl : l.stackTraces = false) {b L : Nat} {xs : Nat → Int32} (hL : L ≤ 3584) (C0 : lw_At p s m meth c b L xs) : W p l e room_1 s m #[Value.ref b] below meth c s.heap [] 0 0 (lw_Z below #[Value.ref b] s) (entryFrame m ([Value.ref b] : List Value).toArray 7) := by
  obtain ⟨D, A, hE⟩ := ev_start C0
  obtain ⟨hx, hb, hr, hml, hown, hts, hX, hbl, hlocks, hgv⟩ := C0
  have C : Cx p l s m #[Value.ref b] meth c D A s.heap cd_L_law 7 rn_L := ⟨hx, hb, hml, hown, hE, hlocks, fun q _ => rfl, hl⟩
  have dp : Dp room_1 30 601024 7293034 := ⟨by decide, by decide, rfl, rfl⟩
  have hcr : room_1.cells = 601024 := rfl
  have hsr : room_1.slots = 7293034 := rfl
  have KE : ∀ (h : Hp) (n : Nat) (lo : List (Nat × Value)) (bc bs : Nat), Rw p l e room_1 s m #[Value.ref b] below meth c (lw_Z below #[Value.ref b] s) D s.heap 7 bc bs h n lo 941 [] := by
    intro h n lo bc bs
    refine r_iconst (v := 1) C dc_L_law_941 (by decide) ?_
    intro H ls locs cells slots hR hz hl hf hc hsz
    exact va_forget hf (W.widen (k := 601024) (n := 7293034) (by omega) (by omega) (lw_ret hx hb hr hlocks dc_L_law_942))
  have hl2 := lv_entry ([.ref b]) (n := 7) (Nat.le_of_ble_eq_true rfl)
  rw [lg_entry_eq]
  have key : Rw p l e room_1 s m #[Value.ref b] below meth c (lw_Z below #[Value.ref b] s) D s.heap 7 601024 7293034 (fun _ => none) 0 [(0, .ref b)] 0 [] := by
    refine r_room (bc' := 5 * 512 + 1 + 34 + 1 + 67 + 1) (bs' := 34 * 512 + 1 + 1164 + 42 + 557 + 9) (by decide) (by decide) ?_
    refine r_new (fs := [.null, .null, .null, .int 0, .int 0, .int 0, .int 0, .int 0, .int 0]) (N := 9) (bc := 5 * 512 + 1 + 34 + 1 + 67) (bs := 34 * 512 + 1 + 1164 + 42 + 557) C dc_L_law_0 nk_L_8 ⟨_, _, rfl, nd_S⟩ (fun _ => ?_)
    refine r_dup C dc_L_law_3 rfl ?_
    refine r_callI (bc := 5 * 512 + 1 + 34 + 1) (bs := 34 * 512 + 1 + 1164 + 42) C dp dc_L_law_4 cw_L_57 rfl cm_S_init (k_S_init (df := 0) (b := s.heap.size) hl (hs_eq _ _ _) rfl) (by decide) rfl rfl (Nat.le_of_ble_eq_true rfl) (fun v9 h9 n9 q9 z9 => ?_)
    obtain ⟨y1, y2, y3⟩ := z9
    subst y1
    subst y2
    subst y3
    first | refine r_astore_n C dc_L_law_7 rfl (by decide) (nw_of rfl) ?_ | refine r_astore_nN C dc_L_law_7 rfl (by decide) (nw_of rfl) ?_ | refine r_astore_nq C dc_L_law_7 rfl (by decide) (nw_of rfl) ?_
    refine r_new (fs := mf0) (N := 42) (bc := 5 * 512 + 1 + 34) (bs := 34 * 512 + 1 + 1164) C dc_L_law_8 nk_L_58 ⟨_, _, rfl, nd_M⟩ (fun _ => ?_)
    refine r_dup C dc_L_law_11 rfl ?_
    refine r_callI (bc := 5 * 512 + 1) (bs := 34 * 512 + 1) C dp dc_L_law_12 cw_L_60 rfl cm_M_init (k_M_init (df := 0) (mm := s.heap.size + 68) hl (hs_eq _ _ _) rfl) (by decide) rfl rfl (Nat.le_of_ble_eq_true rfl) (fun v9 h9 n9 q9 z9 => ?_)
    obtain ⟨y1, y2, y3⟩ := z9
    subst y1
    subst y2
    subst y3
    first | refine r_astore_n C dc_L_law_15 rfl (by decide) (nw_of rfl) ?_ | refine r_astore_nN C dc_L_law_15 rfl (by decide) (nw_of rfl) ?_ | refine r_astore_nq C dc_L_law_15 rfl (by decide) (nw_of rfl) ?_
    refine r_iconst (v := nI 1) C dc_L_law_16 (by decide) ?_
    refine r_newaj (k := 1) (bc := 5 * 512) (bs := 34 * 512) C dc_L_law_17 (tm 946 (by decide +kernel) rfl) rfl (by decide) (fun _ => ?_)
    first | refine r_astore_n C dc_L_law_19 rfl (by decide) (nw_of rfl) ?_ | refine r_astore_nN C dc_L_law_19 rfl (by decide) (nw_of rfl) ?_ | refine r_astore_nq C dc_L_law_19 rfl (by decide) (nw_of rfl) ?_
    refine r_iconst (v := nI 0) C dc_L_law_20 (by decide) ?_
    refine r_istore C dc_L_law_21 (by decide) (nw_of rfl) ?_
    refine rw_hh (lh_0 (G := s.heap) (q := fun _ _ => 0)) ?_
    exact la_loop C dp hX hbl hL KE 512 0 (by omega) (by omega) (fun _ => none) (fun _ => false) _ _ _ _ _ 0 0 _ ⟨KT.zero, fun a h => Bool.noConfusion h, by decide, by decide, by decide⟩
  exact key s.heap _ [] 0 0 ⟨rfl, fun _ _ => rfl, fun _ _ h => by cases h⟩ (Nat.le_refl _) hl2 (fun q hq => nomatch hq) (by decide) (by decide)
set_option maxHeartbeats 4000000 in
theorem lw_walk (l : Launch) (hl : l.stackTraces = false) (b : Addr) (xs : List Int32) : MetFree l x (headSpec (Jvm.Cond.code x code maxLocals ret :: tables_1) room_1) (lw_P b xs) (fun _ _ _ _ _ => True) lw_Q := by
  refine MetFree.of_bodyS (code := code) (maxLocals := maxLocals) (ret := ret) (by decide) ?_ ?_
  · intro args s m h hn
    obtain ⟨meth, c, h1, h2, h3, h4, h5, h6, -, -⟩ := Cond.code_spec hn (atoms_spec (ws := Jvm.Cond.code x code maxLocals ret :: tables_1) h _ List.mem_cons_self)
    exact ⟨meth, c, h1, h2, h3, h4, h5, h6⟩
  · intro p e s m args below meth c s₁ B hml0 hP _
    obtain ⟨rfl, hx, hbd, hgv⟩ := hP
    obtain ⟨scr, harrAt, hlist, hof, hsmall⟩ := hx
    obtain ⟨hcb, hkn, -, -⟩ := State.arrayAt?_spec harrAt
    have hown : s.vm.findClass R_law = some m.cls := findClass_of_methodNamed B.named
    have hts0 : ∀ c ∈ (Jvm.Cond.code x code maxLocals ret :: tables_1), c.before #[Value.ref b] s = true := atoms_spec (ws := Jvm.Cond.code x code maxLocals ret :: tables_1) B.pre
    have hts : ∀ w ∈ lw_tbl, w.before #[Value.ref b] s = true := k2_hts_sels lw_privs (fun w hw => hts0 w (List.mem_cons_of_mem _ hw)) lw_privs_ok
    have hml : c.maxLocals = 7 := B.maxLocals_eq (hts0 _ List.mem_cons_self)
    have X₀ : Stand p l e room_1 s m #[Value.ref b] below meth c s₁ [] 0 0 := Stand.of_body B
    have hh0 : s₁.heap = s.heap := by rw [B.state]; rfl
    have hsz : scr.slots.size = xs.length := by rw [← Array.length_toList, hlist, List.length_map]
    have hval : ∀ j : Nat, j < xs.length → scr.slots[j]? = some (.int (xs.getD j 0)) := fun j hj => by
      rw [← Array.getElem?_toList, hlist]
      simp [hj]
    have hbl : b < s.heap.size := (Array.getElem?_eq_some_iff.mp hcb).1
    have hX : va_X b xs.length (fun j => xs.getD j 0) s s.heap := ⟨scr, hcb, hof, hkn, hsz, hval⟩
    have K : W p l e room_1 s m #[Value.ref b] below meth c s₁.heap [] 0 0 (lw_Z below #[Value.ref b] s) (entryFrame m ([Value.ref b] : List Value).toArray 7) := by
      rw [hh0]
      exact whole_start l hl hbd ⟨B.exec, B.bytes, B.returns, hml, hown, hts, hX, hbl, B.notSynchronized, hgv⟩
    obtain ⟨t, a1, o, b1, b2, b3⟩ := K s₁ rfl X₀
    exact ⟨t, o, a1, b1, b2, b3⟩
theorem lw_pre_spec {args : Array Value} {s : State} (h : (Jvm.Cond.and given_1 narrow_1).before args s = true) (hr : rest_1_c.before args s = true) : ∃ (b : Addr) (xs : List Int32), lw_P b xs args s := by
  have hs := flat_of_before _ h
  have hq := flat_of_before _ hr
  have hc : (Cond.count 1).before args s = true := hs _ (by decide +kernel)
  have harr : (Cond.arrayOf (.arg 0) .int).before args s = true := hs _ (by decide +kernel)
  have hle : (Cond.le (.length (.arg 0)) (.int 3584)).before args s = true := hs _ (by decide +kernel)
  have hlen : (Cond.isInt (.length (.arg 0))).before args s = true := hq _ (by decide +kernel)
  have hall : (Cond.all (.arg 0) (.isInt (.elem (.arg 0) (.index 0)))).before args s = true := hq _ (by decide +kernel)
  obtain ⟨b, xs, hb, hx⟩ := State.ints_of_pre rfl harr hlen hall
  have hsm : xs.length < 2 ^ 31 := hx.choose_spec.2.2.2
  have hev : (Term.length (.arg 0)).eval args s none [] s = some (.int xs.length.toInt32) := hx.length_eval hb
  have hv := Cond.le_ints hev (show (Term.int 3584).eval args s none [] s = some (.int 3584) from rfl)
  have hd : xs.length.toInt32 ≤ 3584 := by
    simpa [Cond.before, Cond.holds, hv] using hle
  have hN : xs.length ≤ 3584 := (Int32.ofNat_le_ofNat hsm (by decide)).mp (show Int32.ofNat xs.length ≤ Int32.ofNat 3584 from hd)
  exact ⟨b, xs, Cond.one_arg hc (show args[0]? = some (.ref b) from hb), hx, hN, h⟩
theorem lw_comes (l : Launch) (hl : l.stackTraces = false) : Comes l x (Jvm.Cond.code x code maxLocals ret :: tables_1) room_1 (fun tb e args s => Calls_1 tb e args s ∧ rest_1 tb e args s ∧ Pre_1 tb e args s)
    (fun _ _ args s o t => lw_Q args s o t) := by
  intro p e ha hc hk s m args below hf hfit hheap happ hpre
  obtain ⟨b, xs, hP⟩ := lw_pre_spec hpre.2.2 hpre.2.1
  obtain ⟨k, o, h1, h2, h3, hQ⟩ := lw_walk l hl b xs p e ha hc hk s m args below hf ((Spec.applies_iff_loose hf).mp happ).1 hP trivial
  exact ⟨k, o, h1, h2, h3, hQ⟩
theorem lw_frame {s t : State} {o : Outcome} {args : Array Value} (h : Framed s o t [] 601024 7293034) :
    Framed s o t (fieldLocs frame_1_writes args s ++ arrayLocs frame_1_arrays args s ++ staticLocs frame_1_statics s) 601024 7293034 := h
theorem lw_limb (L : Cond) (hL : ∀ (args : Array Value) (s t : State), L.after args s (.returned (some (.int 1))) t = true) :
    ArmFor flags0 classFile x code maxLocals ret World_1 tables_1 room_1 Calls_1 rest_1 Pre_1
      (fun tb e a s o t => postC L tb e a s o t ∧ Framed s o t (fieldLocs frame_1_writes a s ++ arrayLocs frame_1_arrays a s ++ staticLocs frame_1_statics s) 601024 7293034) := by
  intro l hfl _ _ p e ha hc hk s m args below hf hfit hheap happ hpre
  obtain ⟨k, o, h1, h2, h3, rfl, hF⟩ := lw_comes l (by unfold Launch.stackTraces; rw [hfl]; decide) p e ha hc hk s m args below hf hfit hheap happ hpre
  exact ⟨k, _, h1, h2, h3, hL args s _, lw_frame hF⟩
theorem i_vc : Claimed_1_1 ∧ Claimed_1_2 := ⟨lw_limb limb_1_1 (fun args s t => by simp [limb_1_1, Cond.after, Cond.holds, Cond.value]), lw_limb limb_1_2 (fun args s t => Cond.after_iff.mpr (by
  first | (rw [show limb_1_2 = Cond.eq .result (.int 1) from rfl, Cond.eq_ints (x := 1) (y := 1) rfl rfl]; simp; done) | (simp [limb_1_2, Cond.value, Term.eval]; done)))⟩
