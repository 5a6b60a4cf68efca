section Law4
variable {p : Program} {l : Launch} {e : Env} {R : Room} {s : State} {m : MethodId} {args : Array Value} {below : List Frame} {meth : Method} {c : Code} {Q : State → Prop} {D : va_G} {A : Nat → ClassId} {G : Heap} {bc bs n bc0 bs0 sb L k ck sn : Nat} {xs : Nat → Int32} {ot : Nat → Option Nat} {S : Nat → Bool} {x z : Nat → Nat → Int32} {r : Nat → Nat → Option Nat} {q : Nat → Nat → Int32} {f : Nat → Int64}
abbrev LH (A : Nat → ClassId) (G : Heap) (z : Nat → Nat → Int32) (r : Nat → Nat → Option Nat) (S : Nat → Bool) (q x : Nat → Nat → Int32) (f : Nat → Int64) : Hp := CH A G.size z r (RH S q (MH A (G.size + 68) x (hs (fun _ => none) (G.size + 103) (jc A 1 f))))
/-- what holds before call k of the script -/
abbrev LI (G : Heap) (ot : Nat → Option Nat) (S : Nat → Bool) (x z : Nat → Nat → Int32) (r : Nat → Nat → Option Nat) (q : Nat → Nat → Int32) (ck sn n k : Nat) : Prop := KT ot G.size S x (z, r, q) ck sn ∧ (∀ a, S a = true → G.size + 103 < a) ∧ 104 ≤ n ∧ ck ≤ 50 * k ∧ sn ≤ k
theorem lh_S (hS : ∀ a, S a = true → G.size + 103 < a) : S (G.size + 103) = false := by
  cases e : S (G.size + 103) with
  | false => rfl
  | true => exact absurd (hS _ e) (Nat.lt_irrefl _)
theorem lh_mh (hS : ∀ a, S a = true → G.size + 103 < a) : LH A G z r S q x f = MH A (G.size + 68) x (CH A G.size z r (RH S q (hs (fun _ => none) (G.size + 103) (jc A 1 f)))) := ch_mh (by omega) (fun a ha => by have := hS a ha; omega)
theorem lh_lg (hS : ∀ a, S a = true → G.size + 103 < a) : LH A G z r S q x f (G.size + 103) = some (jc A 1 f) := lg_at (Or.inr (by omega)) (lh_S hS) ((mh_out (Or.inr (by omega))).trans (hs_eq _ _ _))
theorem lh_st (hS : ∀ a, S a = true → G.size + 103 < a) {f' : Nat → Int64} : hs (LH A G z r S q x f) (G.size + 103) (jc A 1 f') = LH A G z r S q x f' := by
  rw [lg_hs (Or.inr (by omega)) (lh_S hS), mh_hs (Or.inr (by omega)), hs_hs]
theorem lh_up (hS : ∀ a, S a = true → G.size + 103 < a) {y : Nat} (hy : G.size + 103 < y) : ∀ a, va_up S y true a = true → G.size + 103 < a := by
  intro a ha
  unfold va_up at ha
  by_cases e : a = y
  · omega
  · rw [if_neg e] at ha; exact hS a ha
theorem r_scld {cc : ByteArray} {nL : Nat} {own : String} {h : Hp} {lo : List (Nat × Value)} {pc : Nat} {st : List Value} (C : Cx p l s m args meth c D A G cc nL own) (hX : va_X sb L xs s G) (hsb : sb < G.size) {i : Nat} {v : Int32} (hi : i < L) (hL : L ≤ 3584) (hv : xs i = v) (d : decode cc pc = .ok (.iaload, 1)) (K : Rw p l e R s m args below meth c Q D G nL bc bs h n lo (pc + 1) (.int v :: st)) : Rw p l e R s m args below meth c Q D G nL bc bs h n lo pc (.int (nI i) :: .ref sb :: st) := by
  intro H ls locs cells slots hR hz hl hf hc hsz
  refine va_sld (A := fun q => G.size ≤ q) (H0 := G) C.1 C.2.1 hX hsb (Nat.not_le.mpr hsb) ⟨by rw [hR.1]; omega, fun q h1 _ => hR.2.1 q h1, hf⟩ (pk_in i L hi rfl (by omega)) d ?_
  rw [show (nI i).toNatClampNeg = i from nI_clamp (by omega), hv]
  exact K H ls locs cells slots hR hz hl hf hc hsz
theorem r_sclen {cc : ByteArray} {nL : Nat} {own : String} {h : Hp} {lo : List (Nat × Value)} {pc : Nat} {st : List Value} (C : Cx p l s m args meth c D A G cc nL own) (hX : va_X sb L xs s G) (hsb : sb < G.size) (d : decode cc pc = .ok (.arraylength, 1)) (K : Rw p l e R s m args below meth c Q D G nL bc bs h n lo (pc + 1) (.int (nI L) :: st)) : Rw p l e R s m args below meth c Q D G nL bc bs h n lo pc (.ref sb :: st) := by
  intro H ls locs cells slots hR hz hl hf hc hsz
  exact va_slen (A := fun q => G.size ≤ q) (H0 := G) C.1 C.2.1 hX hsb (Nat.not_le.mpr hsb) ⟨by rw [hR.1]; omega, fun q h1 _ => hR.2.1 q h1, hf⟩ d (K H ls locs cells slots hR hz hl hf hc hsz)
theorem ab_2 (a v : Int32) : abC a v = 0 ∨ abC a v = 1 ∨ abC a v = 2 := by
  unfold abC
  split
  · exact Or.inr (Or.inl rfl)
  · split
    · exact Or.inr (Or.inr rfl)
    · exact Or.inl rfl
theorem rg_2 (v : Int32) (a b : Nat) : rgC v a b = 0 ∨ rgC v a b = 2 := by
  unfold rgC
  split
  · exact Or.inr rfl
  · exact Or.inl rfl
theorem KT.s18 {b : Nat} (K : KT ot b S x (z, r, q) ck sn) : ∃ y, KS ot b S y (z, r, q) ck sn := ⟨ur x 18 (fun a => nI (itP ot 11 a)), K.mdl (fun j _ h => ur_ne h), fun a _ => by rw [ur_eq]⟩
set_option maxRecDepth 4000 in
set_option maxHeartbeats 2000000 in
theorem la_plug (C : Cx p l s m args meth c D A G cd_L_law 7 rn_L) (dp : Dp R 30 bc0 bs0) (hX : va_X sb L xs s G) (hsb : sb < G.size) (hL : L ≤ 3584) (hk : 7 * k + 7 ≤ L) (I : LI G ot S x z r q ck sn n k) (K : ∀ (ot' : Nat → Option Nat) (S' : Nat → Bool) (x' z' : Nat → Nat → Int32) (r' : Nat → Nat → Option Nat) (q' : Nat → Nat → Int32) (f' : Nat → Int64) (ck' sn' n' : Nat), LI G ot' S' x' z' r' q' ck' sn' n' (k + 1) → Rw p l e R s m args below meth c Q D G 7 bc bs (LH A G z' r' S' q' x' f') n' [(0, .ref sb), (1, .ref G.size), (2, .ref (G.size + 68)), (3, .ref (G.size + 103)), (4, .int (nI (7 * k)))] 935 []) : Rw p l e R s m args below meth c Q D G 7 (bc + 5) (bs + 34) (LH A G z r S q x f) n [(0, .ref sb), (1, .ref G.size), (2, .ref (G.size + 68)), (3, .ref (G.size + 103)), (4, .int (nI (7 * k)))] 104 [] := by
  have hl : l.stackTraces = false := C.2.2.2.2.2.2.2
  obtain ⟨K0, hS, hn, hck, hsn⟩ := I
  obtain ⟨v1, e1⟩ : ∃ v, xs (7 * k + 1) = v := ⟨_, rfl⟩
  obtain ⟨v2, e2⟩ : ∃ v, xs (7 * k + 2) = v := ⟨_, rfl⟩
  obtain ⟨v3, e3⟩ : ∃ v, xs (7 * k + 3) = v := ⟨_, rfl⟩
  obtain ⟨v4, e4⟩ : ∃ v, xs (7 * k + 4) = v := ⟨_, rfl⟩
  have hst := st_plug K0 v1 v2 v3 v4
  try dsimp only at hst
  have hcd : ¬ plC ot v1 v2 v3 v4 = 0 → (plC ot v1 v2 v3 v4 = 1 ∨ plC ot v1 v2 v3 v4 = 2 ∨ plC ot v1 v2 v3 v4 = 3) := fun hz => by
    rcases hst with ⟨hz2, _⟩ | ⟨hz2, _⟩
    · exact absurd hz2 hz
    · exact hz2
  refine r_room (bc' := bc + 5) (bs' := bs + 30) (by omega) (by omega) ?_
  first | refine r_aload_n C dc_L_law_104 rfl rfl ?_ | refine r_aload_nq C dc_L_law_104 rfl rfl ?_
  first | refine r_aload_n C dc_L_law_105 rfl rfl ?_ | refine r_aload_nq C dc_L_law_105 rfl rfl ?_
  refine r_iload C dc_L_law_106 rfl ?_
  refine r_iconst (v := nI 1) C dc_L_law_108 (by decide) ?_
  first | refine r_iaddN C dc_L_law_109 ?_ | refine r_iadd C dc_L_law_109 ?_
  refine r_scld C hX hsb (by omega) hL e1 dc_L_law_110 ?_
  first | refine r_aload_n C dc_L_law_111 rfl rfl ?_ | refine r_aload_nq C dc_L_law_111 rfl rfl ?_
  refine r_iload C dc_L_law_112 rfl ?_
  refine r_iconst (v := nI 2) C dc_L_law_114 (by decide) ?_
  first | refine r_iaddN C dc_L_law_115 ?_ | refine r_iadd C dc_L_law_115 ?_
  refine r_scld C hX hsb (by omega) hL e2 dc_L_law_116 ?_
  first | refine r_aload_n C dc_L_law_117 rfl rfl ?_ | refine r_aload_nq C dc_L_law_117 rfl rfl ?_
  refine r_iload C dc_L_law_118 rfl ?_
  refine r_iconst (v := nI 3) C dc_L_law_120 (by decide) ?_
  first | refine r_iaddN C dc_L_law_121 ?_ | refine r_iadd C dc_L_law_121 ?_
  refine r_scld C hX hsb (by omega) hL e3 dc_L_law_122 ?_
  first | refine r_aload_n C dc_L_law_123 rfl rfl ?_ | refine r_aload_nq C dc_L_law_123 rfl rfl ?_
  refine r_iload C dc_L_law_124 rfl ?_
  refine r_iconst (v := nI 4) C dc_L_law_126 (by decide) ?_
  first | refine r_iaddN C dc_L_law_127 ?_ | refine r_iadd C dc_L_law_127 ?_
  refine r_scld C hX hsb (by omega) hL e4 dc_L_law_128 ?_
  first | refine r_aload_n C dc_L_law_129 rfl rfl ?_ | refine r_aload_nq C dc_L_law_129 rfl rfl ?_
  refine r_callSH (k := 6) C dp dc_L_law_130 gw_plug ⟨by decide, by decide, by decide +kernel⟩ (by decide) (k_L_plug (cd := plC ot v1 v2 v3 v4) hl ch_S (k_S_plug (df := 0) hl K0.h30 K0.cb.1) (fun v h1 n1 z => ⟨_, f, z.2.1, by rw [z.2.2.1]; exact lh_lg hS⟩) (fun E h1 n1 z => ⟨z.2.1, hcd z.1⟩)) (by decide) rfl rfl (Nat.le_of_ble_eq_true rfl) (fun v9 h9 n9 q9 z9 => ?_)
  rcases z9 with ⟨V, h1, f1, ⟨y1, y2, y3, y4⟩, rfl, hlg, rfl⟩ | ⟨⟨y1, y2, y3, y4⟩, rfl⟩
  ·
    cases y2
    subst y3
    subst y4
    rcases hst with ⟨c0, t0, ev, ot1, K1⟩ | ⟨c0, t0, K1⟩
    rotate_left
    · rcases c0 with c0 | c0 | c0
      · exact absurd (y1.symm.trans c0) (by decide)
      · exact absurd (y1.symm.trans c0) (by decide)
      · exact absurd (y1.symm.trans c0) (by decide)
    refine rw_hh (lh_st hS) ?_
    refine r_istore C dc_L_law_133 (by decide) (nw_of rfl) ?_
    first | refine r_aload_n C dc_L_law_135 rfl rfl ?_ | refine r_aload_nq C dc_L_law_135 rfl rfl ?_
    first | refine r_aload_n C dc_L_law_136 rfl rfl ?_ | refine r_aload_nq C dc_L_law_136 rfl rfl ?_
    refine r_iload C dc_L_law_137 rfl ?_
    refine r_iconst (v := nI 1) C dc_L_law_139 (by decide) ?_
    first | refine r_iaddN C dc_L_law_140 ?_ | refine r_iadd C dc_L_law_140 ?_
    refine r_scld C hX hsb (by omega) hL e1 dc_L_law_141 ?_
    first | refine r_aload_n C dc_L_law_142 rfl rfl ?_ | refine r_aload_nq C dc_L_law_142 rfl rfl ?_
    refine r_iload C dc_L_law_143 rfl ?_
    refine r_iconst (v := nI 2) C dc_L_law_145 (by decide) ?_
    first | refine r_iaddN C dc_L_law_146 ?_ | refine r_iadd C dc_L_law_146 ?_
    refine r_scld C hX hsb (by omega) hL e2 dc_L_law_147 ?_
    first | refine r_aload_n C dc_L_law_148 rfl rfl ?_ | refine r_aload_nq C dc_L_law_148 rfl rfl ?_
    refine r_iload C dc_L_law_149 rfl ?_
    refine r_iconst (v := nI 3) C dc_L_law_151 (by decide) ?_
    first | refine r_iaddN C dc_L_law_152 ?_ | refine r_iadd C dc_L_law_152 ?_
    refine r_scld C hX hsb (by omega) hL e3 dc_L_law_153 ?_
    first | refine r_aload_n C dc_L_law_154 rfl rfl ?_ | refine r_aload_nq C dc_L_law_154 rfl rfl ?_
    refine r_iload C dc_L_law_155 rfl ?_
    refine r_iconst (v := nI 4) C dc_L_law_157 (by decide) ?_
    first | refine r_iaddN C dc_L_law_158 ?_ | refine r_iadd C dc_L_law_158 ?_
    refine r_scld C hX hsb (by omega) hL e4 dc_L_law_159 ?_
    refine rw_hh (lh_mh hS) ?_
    refine r_callV C dp dc_L_law_160 cw_L_66 cm_M_plug cv_M_plug rfl mh_0 (k_M_plug (df := 0) hl K0.h1 K0.cb.1) (by decide) rfl rfl (Nat.le_of_ble_eq_true rfl) (fun vm hm nm qm zm => ?_) (fun _ _ _ _ z => z.elim)
    obtain ⟨g1, g2, g3⟩ := zm
    subst g1
    subst g2
    subst g3
    refine r_istore C dc_L_law_163 (by decide) (nw_of rfl) ?_
    first | refine r_aload_n C dc_L_law_165 rfl rfl ?_ | refine r_aload_nq C dc_L_law_165 rfl rfl ?_
    refine r_callV C dp dc_L_law_166 cw_L_67 cm_M_thrown cv_M_thrown rfl mh_0 (k_M_thrown (df := 0) hl) (by decide) rfl rfl (Nat.le_of_ble_eq_true rfl) (fun vt ht nt qt zt => ?_) (fun _ _ _ _ z => z.elim)
    obtain ⟨g1, g2, g3⟩ := zt
    subst g1
    subst g2
    subst g3
    refine r_iload C dc_L_law_169 rfl ?_
    refine r_icmp_eq (tgt := 176) C dc_L_law_171 (by decide) (fun _ => ?_) (fun cz => absurd t0 cz)
    refine r_iload C dc_L_law_176 rfl ?_
    refine r_if_ne (tgt := 193) C dc_L_law_178 (by decide) (fun cz => absurd nI_0 cz) (fun _ => ?_)
    first | refine r_aload_n C dc_L_law_181 rfl rfl ?_ | refine r_aload_nq C dc_L_law_181 rfl rfl ?_
    refine r_iconst (v := nI 0) C dc_L_law_182 (by decide) ?_
    refine rw_hh (lh_mh hS).symm ?_
    refine r_jald C dc_L_law_183 (lh_lg hS) rfl (by decide) (by decide) ?_
    refine r_iload C dc_L_law_184 rfl ?_
    refine r_i2l C dc_L_law_186 rfl ?_
    refine r_lcmp C dc_L_law_187 ?_
    refine r_if_eq (tgt := 193) C dc_L_law_188 (by decide) (fun _ => ?_) (fun cz => absurd ((lg_cmp_eq _ _).mpr (by rw [pk_uLs, ev])) cz)
    refine r_goto (tgt := 935) C dc_L_law_193 (by decide) ?_
    exact r_weak (wl_c (rfl) (wl_c (rfl) (wl_c (rfl) (wl_c (rfl) (wl_c (rfl) (wl_n)))))) (K _ _ _ _ _ _ _ _ _ _ ⟨K1, hS, by omega, by omega, by omega⟩)
  ·
    subst y3
    rcases hst with ⟨c0, _⟩ | ⟨c0, t0, K1⟩
    · exact absurd c0 y1
    have hnz : ¬ nI (plC ot v1 v2 v3 v4) = 0 := by
      rcases c0 with c0 | c0 | c0
      · rw [c0]; decide
      · rw [c0]; decide
      · rw [c0]; decide
    refine r_istore C dc_L_law_133 (by decide) (nw_of rfl) ?_
    first | refine r_aload_n C dc_L_law_135 rfl rfl ?_ | refine r_aload_nq C dc_L_law_135 rfl rfl ?_
    first | refine r_aload_n C dc_L_law_136 rfl rfl ?_ | refine r_aload_nq C dc_L_law_136 rfl rfl ?_
    refine r_iload C dc_L_law_137 rfl ?_
    refine r_iconst (v := nI 1) C dc_L_law_139 (by decide) ?_
    first | refine r_iaddN C dc_L_law_140 ?_ | refine r_iadd C dc_L_law_140 ?_
    refine r_scld C hX hsb (by omega) hL e1 dc_L_law_141 ?_
    first | refine r_aload_n C dc_L_law_142 rfl rfl ?_ | refine r_aload_nq C dc_L_law_142 rfl rfl ?_
    refine r_iload C dc_L_law_143 rfl ?_
    refine r_iconst (v := nI 2) C dc_L_law_145 (by decide) ?_
    first | refine r_iaddN C dc_L_law_146 ?_ | refine r_iadd C dc_L_law_146 ?_
    refine r_scld C hX hsb (by omega) hL e2 dc_L_law_147 ?_
    first | refine r_aload_n C dc_L_law_148 rfl rfl ?_ | refine r_aload_nq C dc_L_law_148 rfl rfl ?_
    refine r_iload C dc_L_law_149 rfl ?_
    refine r_iconst (v := nI 3) C dc_L_law_151 (by decide) ?_
    first | refine r_iaddN C dc_L_law_152 ?_ | refine r_iadd C dc_L_law_152 ?_
    refine r_scld C hX hsb (by omega) hL e3 dc_L_law_153 ?_
    first | refine r_aload_n C dc_L_law_154 rfl rfl ?_ | refine r_aload_nq C dc_L_law_154 rfl rfl ?_
    refine r_iload C dc_L_law_155 rfl ?_
    refine r_iconst (v := nI 4) C dc_L_law_157 (by decide) ?_
    first | refine r_iaddN C dc_L_law_158 ?_ | refine r_iadd C dc_L_law_158 ?_
    refine r_scld C hX hsb (by omega) hL e4 dc_L_law_159 ?_
    refine rw_hh (lh_mh hS) ?_
    refine r_callV C dp dc_L_law_160 cw_L_66 cm_M_plug cv_M_plug rfl mh_0 (k_M_plug (df := 0) hl K0.h1 K0.cb.1) (by decide) rfl rfl (Nat.le_of_ble_eq_true rfl) (fun vm hm nm qm zm => ?_) (fun _ _ _ _ z => z.elim)
    obtain ⟨g1, g2, g3⟩ := zm
    subst g1
    subst g2
    subst g3
    refine r_istore C dc_L_law_163 (by decide) (nw_of rfl) ?_
    first | refine r_aload_n C dc_L_law_165 rfl rfl ?_ | refine r_aload_nq C dc_L_law_165 rfl rfl ?_
    refine r_callV C dp dc_L_law_166 cw_L_67 cm_M_thrown cv_M_thrown rfl mh_0 (k_M_thrown (df := 0) hl) (by decide) rfl rfl (Nat.le_of_ble_eq_true rfl) (fun vt ht nt qt zt => ?_) (fun _ _ _ _ z => z.elim)
    obtain ⟨g1, g2, g3⟩ := zt
    subst g1
    subst g2
    subst g3
    refine r_iload C dc_L_law_169 rfl ?_
    refine r_icmp_eq (tgt := 176) C dc_L_law_171 (by decide) (fun _ => ?_) (fun cz => absurd t0 cz)
    refine r_iload C dc_L_law_176 rfl ?_
    refine r_if_ne (tgt := 193) C dc_L_law_178 (by decide) (fun _ => ?_) (fun cz => absurd cz hnz)
    refine rw_hh (lh_mh hS).symm ?_
    refine r_goto (tgt := 935) C dc_L_law_193 (by decide) ?_
    exact r_weak (wl_c (rfl) (wl_c (rfl) (wl_c (rfl) (wl_c (rfl) (wl_c (rfl) (wl_n)))))) (K _ _ _ _ _ _ _ _ _ _ ⟨K1, hS, by omega, by omega, by omega⟩)
set_option maxRecDepth 4000 in
set_option maxHeartbeats 2000000 in
theorem la_unplug (C : Cx p l s m args meth c D A G cd_L_law 7 rn_L) (dp : Dp R 30 bc0 bs0) (hX : va_X sb L xs s G) (hsb : sb < G.size) (hL : L ≤ 3584) (hk : 7 * k + 7 ≤ L) (I : LI G ot S x z r q ck sn n k) (K : ∀ (ot' : Nat → Option Nat) (S' : Nat → Bool) (x' z' : Nat → Nat → Int32) (r' : Nat → Nat → Option Nat) (q' : Nat → Nat → Int32) (f' : Nat → Int64) (ck' sn' n' : Nat), LI G ot' S' x' z' r' q' ck' sn' n' (k + 1) → Rw p l e R s m args below meth c Q D G 7 bc bs (LH A G z' r' S' q' x' f') n' [(0, .ref sb), (1, .ref G.size), (2, .ref (G.size + 68)), (3, .ref (G.size + 103)), (4, .int (nI (7 * k)))] 935 []) : Rw p l e R s m args below meth c Q D G 7 (bc + 5) (bs + 34) (LH A G z r S q x f) n [(0, .ref sb), (1, .ref G.size), (2, .ref (G.size + 68)), (3, .ref (G.size + 103)), (4, .int (nI (7 * k)))] 196 [] := by
  have hl : l.stackTraces = false := C.2.2.2.2.2.2.2
  obtain ⟨K0, hS, hn, hck, hsn⟩ := I
  obtain ⟨v1, e1⟩ : ∃ v, xs (7 * k + 1) = v := ⟨_, rfl⟩
  obtain ⟨v2, e2⟩ : ∃ v, xs (7 * k + 2) = v := ⟨_, rfl⟩
  have hst := st_unplug K0 v1 v2
  try dsimp only at hst
  have hcd : ¬ unC ot v1 v2 = 0 → (unC ot v1 v2 = 1 ∨ unC ot v1 v2 = 2 ∨ unC ot v1 v2 = 3) := fun hz => by
    rcases hst with ⟨hz2, _⟩ | ⟨hz2, _⟩
    · exact absurd hz2 hz
    · exact hz2
  refine r_room (bc' := bc + 3) (bs' := bs + 18) (by omega) (by omega) ?_
  first | refine r_aload_n C dc_L_law_196 rfl rfl ?_ | refine r_aload_nq C dc_L_law_196 rfl rfl ?_
  first | refine r_aload_n C dc_L_law_197 rfl rfl ?_ | refine r_aload_nq C dc_L_law_197 rfl rfl ?_
  refine r_iload C dc_L_law_198 rfl ?_
  refine r_iconst (v := nI 1) C dc_L_law_200 (by decide) ?_
  first | refine r_iaddN C dc_L_law_201 ?_ | refine r_iadd C dc_L_law_201 ?_
  refine r_scld C hX hsb (by omega) hL e1 dc_L_law_202 ?_
  first | refine r_aload_n C dc_L_law_203 rfl rfl ?_ | refine r_aload_nq C dc_L_law_203 rfl rfl ?_
  refine r_iload C dc_L_law_204 rfl ?_
  refine r_iconst (v := nI 2) C dc_L_law_206 (by decide) ?_
  first | refine r_iaddN C dc_L_law_207 ?_ | refine r_iadd C dc_L_law_207 ?_
  refine r_scld C hX hsb (by omega) hL e2 dc_L_law_208 ?_
  first | refine r_aload_n C dc_L_law_209 rfl rfl ?_ | refine r_aload_nq C dc_L_law_209 rfl rfl ?_
  refine r_callSH (k := 4) C dp dc_L_law_210 gw_unplug ⟨by decide, by decide, by decide +kernel⟩ (by decide) (k_L_unplug (cd := unC ot v1 v2) hl ch_S (k_S_unplug (df := 0) hl K0.h30 K0.cb.1) (fun v h1 n1 z => by obtain ⟨_, t, _, w1, w2, _⟩ := z; exact ⟨_, f, w1, by rw [w2]; exact lh_lg hS⟩) (fun E h1 n1 z => ⟨z.2.1, hcd z.1⟩)) (by decide) rfl rfl (Nat.le_of_ble_eq_true rfl) (fun v9 h9 n9 q9 z9 => ?_)
  rcases z9 with ⟨V, h1, f1, ⟨y1, t, y5, y2, y3, y4⟩, rfl, hlg, rfl⟩ | ⟨⟨y1, y2, y3, y4⟩, rfl⟩
  ·
    cases y2
    subst y3
    subst y4
    rcases hst with ⟨c0, t0, t1, et, ev, ot1, K1⟩ | ⟨c0, t0, K1⟩
    rotate_left
    · rcases c0 with c0 | c0 | c0
      · exact absurd (y1.symm.trans c0) (by decide)
      · exact absurd (y1.symm.trans c0) (by decide)
      · exact absurd (y1.symm.trans c0) (by decide)
    cases y5.symm.trans et
    refine rw_hh (lh_st hS) ?_
    refine r_istore C dc_L_law_213 (by decide) (nw_of rfl) ?_
    first | refine r_aload_n C dc_L_law_215 rfl rfl ?_ | refine r_aload_nq C dc_L_law_215 rfl rfl ?_
    first | refine r_aload_n C dc_L_law_216 rfl rfl ?_ | refine r_aload_nq C dc_L_law_216 rfl rfl ?_
    refine r_iload C dc_L_law_217 rfl ?_
    refine r_iconst (v := nI 1) C dc_L_law_219 (by decide) ?_
    first | refine r_iaddN C dc_L_law_220 ?_ | refine r_iadd C dc_L_law_220 ?_
    refine r_scld C hX hsb (by omega) hL e1 dc_L_law_221 ?_
    first | refine r_aload_n C dc_L_law_222 rfl rfl ?_ | refine r_aload_nq C dc_L_law_222 rfl rfl ?_
    refine r_iload C dc_L_law_223 rfl ?_
    refine r_iconst (v := nI 2) C dc_L_law_225 (by decide) ?_
    first | refine r_iaddN C dc_L_law_226 ?_ | refine r_iadd C dc_L_law_226 ?_
    refine r_scld C hX hsb (by omega) hL e2 dc_L_law_227 ?_
    refine rw_hh (lh_mh hS) ?_
    refine r_callV C dp dc_L_law_228 cw_L_74 cm_M_unplug cv_M_unplug rfl mh_0 (k_M_unplug (df := 0) hl K0.h1 K0.cb.1) (by decide) rfl rfl (Nat.le_of_ble_eq_true rfl) (fun vm hm nm qm zm => ?_) (fun _ _ _ _ z => z.elim)
    obtain ⟨g1, g2, g3⟩ := zm
    subst g1
    subst g2
    subst g3
    refine r_istore C dc_L_law_231 (by decide) (nw_of rfl) ?_
    first | refine r_aload_n C dc_L_law_233 rfl rfl ?_ | refine r_aload_nq C dc_L_law_233 rfl rfl ?_
    refine r_callV C dp dc_L_law_234 cw_L_67 cm_M_thrown cv_M_thrown rfl mh_0 (k_M_thrown (df := 0) hl) (by decide) rfl rfl (Nat.le_of_ble_eq_true rfl) (fun vt ht nt qt zt => ?_) (fun _ _ _ _ z => z.elim)
    obtain ⟨g1, g2, g3⟩ := zt
    subst g1
    subst g2
    subst g3
    refine r_iload C dc_L_law_237 rfl ?_
    refine r_icmp_eq (tgt := 244) C dc_L_law_239 (by decide) (fun _ => ?_) (fun cz => absurd t0 cz)
    refine r_iload C dc_L_law_244 rfl ?_
    refine r_if_ne (tgt := 261) C dc_L_law_246 (by decide) (fun cz => absurd nI_0 cz) (fun _ => ?_)
    first | refine r_aload_n C dc_L_law_249 rfl rfl ?_ | refine r_aload_nq C dc_L_law_249 rfl rfl ?_
    refine r_iconst (v := nI 0) C dc_L_law_250 (by decide) ?_
    refine rw_hh (lh_mh hS).symm ?_
    refine r_jald C dc_L_law_251 (lh_lg hS) rfl (by decide) (by decide) ?_
    refine r_iload C dc_L_law_252 rfl ?_
    refine r_i2l C dc_L_law_254 rfl ?_
    refine r_lcmp C dc_L_law_255 ?_
    refine r_if_eq (tgt := 261) C dc_L_law_256 (by decide) (fun _ => ?_) (fun cz => absurd ((lg_cmp_eq _ _).mpr (by rw [pk_uLs, ev])) cz)
    refine r_goto (tgt := 935) C dc_L_law_261 (by decide) ?_
    exact r_weak (wl_c (rfl) (wl_c (rfl) (wl_c (rfl) (wl_c (rfl) (wl_c (rfl) (wl_n)))))) (K _ _ _ _ _ _ _ _ _ _ ⟨K1, hS, by omega, by omega, by omega⟩)
  ·
    subst y3
    rcases hst with ⟨c0, _⟩ | ⟨c0, t0, K1⟩
    · exact absurd c0 y1
    have hnz : ¬ nI (unC ot v1 v2) = 0 := by
      rcases c0 with c0 | c0 | c0
      · rw [c0]; decide
      · rw [c0]; decide
      · rw [c0]; decide
    refine r_istore C dc_L_law_213 (by decide) (nw_of rfl) ?_
    first | refine r_aload_n C dc_L_law_215 rfl rfl ?_ | refine r_aload_nq C dc_L_law_215 rfl rfl ?_
    first | refine r_aload_n C dc_L_law_216 rfl rfl ?_ | refine r_aload_nq C dc_L_law_216 rfl rfl ?_
    refine r_iload C dc_L_law_217 rfl ?_
    refine r_iconst (v := nI 1) C dc_L_law_219 (by decide) ?_
    first | refine r_iaddN C dc_L_law_220 ?_ | refine r_iadd C dc_L_law_220 ?_
    refine r_scld C hX hsb (by omega) hL e1 dc_L_law_221 ?_
    first | refine r_aload_n C dc_L_law_222 rfl rfl ?_ | refine r_aload_nq C dc_L_law_222 rfl rfl ?_
    refine r_iload C dc_L_law_223 rfl ?_
    refine r_iconst (v := nI 2) C dc_L_law_225 (by decide) ?_
    first | refine r_iaddN C dc_L_law_226 ?_ | refine r_iadd C dc_L_law_226 ?_
    refine r_scld C hX hsb (by omega) hL e2 dc_L_law_227 ?_
    refine rw_hh (lh_mh hS) ?_
    refine r_callV C dp dc_L_law_228 cw_L_74 cm_M_unplug cv_M_unplug rfl mh_0 (k_M_unplug (df := 0) hl K0.h1 K0.cb.1) (by decide) rfl rfl (Nat.le_of_ble_eq_true rfl) (fun vm hm nm qm zm => ?_) (fun _ _ _ _ z => z.elim)
    obtain ⟨g1, g2, g3⟩ := zm
    subst g1
    subst g2
    subst g3
    refine r_istore C dc_L_law_231 (by decide) (nw_of rfl) ?_
    first | refine r_aload_n C dc_L_law_233 rfl rfl ?_ | refine r_aload_nq C dc_L_law_233 rfl rfl ?_
    refine r_callV C dp dc_L_law_234 cw_L_67 cm_M_thrown cv_M_thrown rfl mh_0 (k_M_thrown (df := 0) hl) (by decide) rfl rfl (Nat.le_of_ble_eq_true rfl) (fun vt ht nt qt zt => ?_) (fun _ _ _ _ z => z.elim)
    obtain ⟨g1, g2, g3⟩ := zt
    subst g1
    subst g2
    subst g3
    refine r_iload C dc_L_law_237 rfl ?_
    refine r_icmp_eq (tgt := 244) C dc_L_law_239 (by decide) (fun _ => ?_) (fun cz => absurd t0 cz)
    refine r_iload C dc_L_law_244 rfl ?_
    refine r_if_ne (tgt := 261) C dc_L_law_246 (by decide) (fun _ => ?_) (fun cz => absurd cz hnz)
    refine rw_hh (lh_mh hS).symm ?_
    refine r_goto (tgt := 935) C dc_L_law_261 (by decide) ?_
    exact r_weak (wl_c (rfl) (wl_c (rfl) (wl_c (rfl) (wl_c (rfl) (wl_c (rfl) (wl_n)))))) (K _ _ _ _ _ _ _ _ _ _ ⟨K1, hS, by omega, by omega, by omega⟩)
set_option maxRecDepth 4000 in
set_option maxHeartbeats 2000000 in
theorem la_talk (C : Cx p l s m args meth c D A G cd_L_law 7 rn_L) (dp : Dp R 30 bc0 bs0) (hX : va_X sb L xs s G) (hsb : sb < G.size) (hL : L ≤ 3584) (hk : 7 * k + 7 ≤ L) (I : LI G ot S x z r q ck sn n k) (K : ∀ (ot' : Nat → Option Nat) (S' : Nat → Bool) (x' z' : Nat → Nat → Int32) (r' : Nat → Nat → Option Nat) (q' : Nat → Nat → Int32) (f' : Nat → Int64) (ck' sn' n' : Nat), LI G ot' S' x' z' r' q' ck' sn' n' (k + 1) → Rw p l e R s m args below meth c Q D G 7 bc bs (LH A G z' r' S' q' x' f') n' [(0, .ref sb), (1, .ref G.size), (2, .ref (G.size + 68)), (3, .ref (G.size + 103)), (4, .int (nI (7 * k)))] 935 []) : Rw p l e R s m args below meth c Q D G 7 (bc + 5) (bs + 34) (LH A G z r S q x f) n [(0, .ref sb), (1, .ref G.size), (2, .ref (G.size + 68)), (3, .ref (G.size + 103)), (4, .int (nI (7 * k)))] 486 [] := by
  have hl : l.stackTraces = false := C.2.2.2.2.2.2.2
  obtain ⟨K0, hS, hn, hck, hsn⟩ := I
  obtain ⟨v1, e1⟩ : ∃ v, xs (7 * k + 1) = v := ⟨_, rfl⟩
  obtain ⟨v2, e2⟩ : ∃ v, xs (7 * k + 2) = v := ⟨_, rfl⟩
  obtain ⟨v3, e3⟩ : ∃ v, xs (7 * k + 3) = v := ⟨_, rfl⟩
  have hst := st_talk K0 v1 v2 v3
  try dsimp only at hst
  have hcd : ¬ taC v1 v2 v3 = 0 → (taC v1 v2 v3 = 1 ∨ taC v1 v2 v3 = 2) := fun hz => by
    rcases hst with ⟨hz2, _⟩ | ⟨hz2, _⟩
    · exact absurd hz2 hz
    · exact hz2
  refine r_room (bc' := bc + 2) (bs' := bs + 12) (by omega) (by omega) ?_
  first | refine r_aload_n C dc_L_law_486 rfl rfl ?_ | refine r_aload_nq C dc_L_law_486 rfl rfl ?_
  first | refine r_aload_n C dc_L_law_487 rfl rfl ?_ | refine r_aload_nq C dc_L_law_487 rfl rfl ?_
  refine r_iload C dc_L_law_488 rfl ?_
  refine r_iconst (v := nI 1) C dc_L_law_490 (by decide) ?_
  first | refine r_iaddN C dc_L_law_491 ?_ | refine r_iadd C dc_L_law_491 ?_
  refine r_scld C hX hsb (by omega) hL e1 dc_L_law_492 ?_
  first | refine r_aload_n C dc_L_law_493 rfl rfl ?_ | refine r_aload_nq C dc_L_law_493 rfl rfl ?_
  refine r_iload C dc_L_law_494 rfl ?_
  refine r_iconst (v := nI 2) C dc_L_law_496 (by decide) ?_
  first | refine r_iaddN C dc_L_law_497 ?_ | refine r_iadd C dc_L_law_497 ?_
  refine r_scld C hX hsb (by omega) hL e2 dc_L_law_498 ?_
  first | refine r_aload_n C dc_L_law_499 rfl rfl ?_ | refine r_aload_nq C dc_L_law_499 rfl rfl ?_
  refine r_iload C dc_L_law_500 rfl ?_
  refine r_iconst (v := nI 3) C dc_L_law_502 (by decide) ?_
  first | refine r_iaddN C dc_L_law_503 ?_ | refine r_iadd C dc_L_law_503 ?_
  refine r_scld C hX hsb (by omega) hL e3 dc_L_law_504 ?_
  refine r_callSH (k := 4) C dp dc_L_law_505 gw_talk ⟨by decide, by decide, by decide +kernel⟩ (by decide) (k_L_talk (cd := taC v1 v2 v3) hl ch_S (k_S_talk (df := 0) hl) (fun v h1 n1 z => z.2.1) (fun E h1 n1 z => ⟨z.2.1, hcd z.1⟩)) (by decide) rfl rfl (Nat.le_of_ble_eq_true rfl) (fun v9 h9 n9 q9 z9 => ?_)
  rcases z9 with ⟨⟨y1, y2, y3, y4⟩, rfl⟩ | ⟨⟨y1, y2, y3, y4⟩, rfl⟩
  ·
    subst y3
    subst y4
    rcases hst with ⟨c0, t0, K1⟩ | ⟨c0, t0, K1⟩
    rotate_left
    · rcases c0 with c0 | c0
      · exact absurd (y1.symm.trans c0) (by decide)
      · exact absurd (y1.symm.trans c0) (by decide)
    refine r_istore C dc_L_law_508 (by decide) (nw_of rfl) ?_
    first | refine r_aload_n C dc_L_law_510 rfl rfl ?_ | refine r_aload_nq C dc_L_law_510 rfl rfl ?_
    first | refine r_aload_n C dc_L_law_511 rfl rfl ?_ | refine r_aload_nq C dc_L_law_511 rfl rfl ?_
    refine r_iload C dc_L_law_512 rfl ?_
    refine r_iconst (v := nI 1) C dc_L_law_514 (by decide) ?_
    first | refine r_iaddN C dc_L_law_515 ?_ | refine r_iadd C dc_L_law_515 ?_
    refine r_scld C hX hsb (by omega) hL e1 dc_L_law_516 ?_
    first | refine r_aload_n C dc_L_law_517 rfl rfl ?_ | refine r_aload_nq C dc_L_law_517 rfl rfl ?_
    refine r_iload C dc_L_law_518 rfl ?_
    refine r_iconst (v := nI 2) C dc_L_law_520 (by decide) ?_
    first | refine r_iaddN C dc_L_law_521 ?_ | refine r_iadd C dc_L_law_521 ?_
    refine r_scld C hX hsb (by omega) hL e2 dc_L_law_522 ?_
    first | refine r_aload_n C dc_L_law_523 rfl rfl ?_ | refine r_aload_nq C dc_L_law_523 rfl rfl ?_
    refine r_iload C dc_L_law_524 rfl ?_
    refine r_iconst (v := nI 3) C dc_L_law_526 (by decide) ?_
    first | refine r_iaddN C dc_L_law_527 ?_ | refine r_iadd C dc_L_law_527 ?_
    refine r_scld C hX hsb (by omega) hL e3 dc_L_law_528 ?_
    refine rw_hh (lh_mh hS) ?_
    refine r_callV C dp dc_L_law_529 cw_L_86 cm_M_talk cv_M_talk rfl mh_0 (k_M_talk (df := 0) hl) (by decide) rfl rfl (Nat.le_of_ble_eq_true rfl) (fun vm hm nm qm zm => ?_) (fun _ _ _ _ z => z.elim)
    obtain ⟨g1, g2, g3⟩ := zm
    subst g1
    subst g2
    subst g3
    first | refine r_aload_n C dc_L_law_532 rfl rfl ?_ | refine r_aload_nq C dc_L_law_532 rfl rfl ?_
    refine r_callV C dp dc_L_law_533 cw_L_67 cm_M_thrown cv_M_thrown rfl mh_0 (k_M_thrown (df := 0) hl) (by decide) rfl rfl (Nat.le_of_ble_eq_true rfl) (fun vt ht nt qt zt => ?_) (fun _ _ _ _ z => z.elim)
    obtain ⟨g1, g2, g3⟩ := zt
    subst g1
    subst g2
    subst g3
    refine r_iload C dc_L_law_536 rfl ?_
    refine r_icmp_eq (tgt := 543) C dc_L_law_538 (by decide) (fun _ => ?_) (fun cz => absurd t0 cz)
    refine rw_hh (lh_mh hS).symm ?_
    refine r_goto (tgt := 935) C dc_L_law_543 (by decide) ?_
    exact r_weak (wl_c (rfl) (wl_c (rfl) (wl_c (rfl) (wl_c (rfl) (wl_c (rfl) (wl_n)))))) (K _ _ _ _ _ _ _ _ _ _ ⟨K1, hS, by omega, by omega, by omega⟩)
  ·
    subst y3
    rcases hst with ⟨c0, _⟩ | ⟨c0, t0, K1⟩
    · exact absurd c0 y1
    refine r_istore C dc_L_law_508 (by decide) (nw_of rfl) ?_
    first | refine r_aload_n C dc_L_law_510 rfl rfl ?_ | refine r_aload_nq C dc_L_law_510 rfl rfl ?_
    first | refine r_aload_n C dc_L_law_511 rfl rfl ?_ | refine r_aload_nq C dc_L_law_511 rfl rfl ?_
    refine r_iload C dc_L_law_512 rfl ?_
    refine r_iconst (v := nI 1) C dc_L_law_514 (by decide) ?_
    first | refine r_iaddN C dc_L_law_515 ?_ | refine r_iadd C dc_L_law_515 ?_
    refine r_scld C hX hsb (by omega) hL e1 dc_L_law_516 ?_
    first | refine r_aload_n C dc_L_law_517 rfl rfl ?_ | refine r_aload_nq C dc_L_law_517 rfl rfl ?_
    refine r_iload C dc_L_law_518 rfl ?_
    refine r_iconst (v := nI 2) C dc_L_law_520 (by decide) ?_
    first | refine r_iaddN C dc_L_law_521 ?_ | refine r_iadd C dc_L_law_521 ?_
    refine r_scld C hX hsb (by omega) hL e2 dc_L_law_522 ?_
    first | refine r_aload_n C dc_L_law_523 rfl rfl ?_ | refine r_aload_nq C dc_L_law_523 rfl rfl ?_
    refine r_iload C dc_L_law_524 rfl ?_
    refine r_iconst (v := nI 3) C dc_L_law_526 (by decide) ?_
    first | refine r_iaddN C dc_L_law_527 ?_ | refine r_iadd C dc_L_law_527 ?_
    refine r_scld C hX hsb (by omega) hL e3 dc_L_law_528 ?_
    refine rw_hh (lh_mh hS) ?_
    refine r_callV C dp dc_L_law_529 cw_L_86 cm_M_talk cv_M_talk rfl mh_0 (k_M_talk (df := 0) hl) (by decide) rfl rfl (Nat.le_of_ble_eq_true rfl) (fun vm hm nm qm zm => ?_) (fun _ _ _ _ z => z.elim)
    obtain ⟨g1, g2, g3⟩ := zm
    subst g1
    subst g2
    subst g3
    first | refine r_aload_n C dc_L_law_532 rfl rfl ?_ | refine r_aload_nq C dc_L_law_532 rfl rfl ?_
    refine r_callV C dp dc_L_law_533 cw_L_67 cm_M_thrown cv_M_thrown rfl mh_0 (k_M_thrown (df := 0) hl) (by decide) rfl rfl (Nat.le_of_ble_eq_true rfl) (fun vt ht nt qt zt => ?_) (fun _ _ _ _ z => z.elim)
    obtain ⟨g1, g2, g3⟩ := zt
    subst g1
    subst g2
    subst g3
    refine r_iload C dc_L_law_536 rfl ?_
    refine r_icmp_eq (tgt := 543) C dc_L_law_538 (by decide) (fun _ => ?_) (fun cz => absurd t0 cz)
    refine rw_hh (lh_mh hS).symm ?_
    refine r_goto (tgt := 935) C dc_L_law_543 (by decide) ?_
    exact r_weak (wl_c (rfl) (wl_c (rfl) (wl_c (rfl) (wl_c (rfl) (wl_c (rfl) (wl_n)))))) (K _ _ _ _ _ _ _ _ _ _ ⟨K1, hS, by omega, by omega, by omega⟩)
set_option maxRecDepth 4000 in
set_option maxHeartbeats 2000000 in
theorem la_time (C : Cx p l s m args meth c D A G cd_L_law 7 rn_L) (dp : Dp R 30 bc0 bs0) (hX : va_X sb L xs s G) (hsb : sb < G.size) (hL : L ≤ 3584) (hk : 7 * k + 7 ≤ L) (I : LI G ot S x z r q ck sn n k) (K : ∀ (ot' : Nat → Option Nat) (S' : Nat → Bool) (x' z' : Nat → Nat → Int32) (r' : Nat → Nat → Option Nat) (q' : Nat → Nat → Int32) (f' : Nat → Int64) (ck' sn' n' : Nat), LI G ot' S' x' z' r' q' ck' sn' n' (k + 1) → Rw p l e R s m args below meth c Q D G 7 bc bs (LH A G z' r' S' q' x' f') n' [(0, .ref sb), (1, .ref G.size), (2, .ref (G.size + 68)), (3, .ref (G.size + 103)), (4, .int (nI (7 * k)))] 935 []) : Rw p l e R s m args below meth c Q D G 7 (bc + 5) (bs + 34) (LH A G z r S q x f) n [(0, .ref sb), (1, .ref G.size), (2, .ref (G.size + 68)), (3, .ref (G.size + 103)), (4, .int (nI (7 * k)))] 546 [] := by
  have hl : l.stackTraces = false := C.2.2.2.2.2.2.2
  obtain ⟨K0, hS, hn, hck, hsn⟩ := I
  obtain ⟨v1, e1⟩ : ∃ v, xs (7 * k + 1) = v := ⟨_, rfl⟩
  have hst := st_time K0 v1
  try dsimp only at hst
  have hcd : ¬ rgC v1 2 60 = 0 → (rgC v1 2 60 = 2) := fun hz => by
    rcases hst with ⟨hz2, _⟩ | ⟨hz2, _⟩
    · exact absurd hz2 hz
    · exact hz2
  refine r_room (bc' := bc + 1) (bs' := bs + 6) (by omega) (by omega) ?_
  first | refine r_aload_n C dc_L_law_546 rfl rfl ?_ | refine r_aload_nq C dc_L_law_546 rfl rfl ?_
  first | refine r_aload_n C dc_L_law_547 rfl rfl ?_ | refine r_aload_nq C dc_L_law_547 rfl rfl ?_
  refine r_iload C dc_L_law_548 rfl ?_
  refine r_iconst (v := nI 1) C dc_L_law_550 (by decide) ?_
  first | refine r_iaddN C dc_L_law_551 ?_ | refine r_iadd C dc_L_law_551 ?_
  refine r_scld C hX hsb (by omega) hL e1 dc_L_law_552 ?_
  refine r_callSH (k := 2) C dp dc_L_law_553 gw_time ⟨by decide, by decide, by decide +kernel⟩ (by decide) (k_L_time (cd := rgC v1 2 60) hl ch_S (k_S_time (df := 0) hl) (fun v h1 n1 z => z.2.1) (fun E h1 n1 z => ⟨z.2.1, hcd z.1⟩)) (by decide) rfl rfl (Nat.le_of_ble_eq_true rfl) (fun v9 h9 n9 q9 z9 => ?_)
  rcases z9 with ⟨⟨y1, y2, y3, y4⟩, rfl⟩ | ⟨⟨y1, y2, y3, y4⟩, rfl⟩
  ·
    subst y3
    subst y4
    rcases hst with ⟨c0, t0, K1⟩ | ⟨c0, t0, K1⟩
    rotate_left
    · exact absurd (y1.symm.trans c0) (by decide)
    refine r_istore C dc_L_law_556 (by decide) (nw_of rfl) ?_
    first | refine r_aload_n C dc_L_law_558 rfl rfl ?_ | refine r_aload_nq C dc_L_law_558 rfl rfl ?_
    first | refine r_aload_n C dc_L_law_559 rfl rfl ?_ | refine r_aload_nq C dc_L_law_559 rfl rfl ?_
    refine r_iload C dc_L_law_560 rfl ?_
    refine r_iconst (v := nI 1) C dc_L_law_562 (by decide) ?_
    first | refine r_iaddN C dc_L_law_563 ?_ | refine r_iadd C dc_L_law_563 ?_
    refine r_scld C hX hsb (by omega) hL e1 dc_L_law_564 ?_
    refine rw_hh (lh_mh hS) ?_
    refine r_callV C dp dc_L_law_565 cw_L_90 cm_M_time cv_M_time rfl mh_0 (k_M_time (df := 0) hl) (by decide) rfl rfl (Nat.le_of_ble_eq_true rfl) (fun vm hm nm qm zm => ?_) (fun _ _ _ _ z => z.elim)
    obtain ⟨g1, g2, g3⟩ := zm
    subst g1
    subst g2
    subst g3
    first | refine r_aload_n C dc_L_law_568 rfl rfl ?_ | refine r_aload_nq C dc_L_law_568 rfl rfl ?_
    refine r_callV C dp dc_L_law_569 cw_L_67 cm_M_thrown cv_M_thrown rfl mh_0 (k_M_thrown (df := 0) hl) (by decide) rfl rfl (Nat.le_of_ble_eq_true rfl) (fun vt ht nt qt zt => ?_) (fun _ _ _ _ z => z.elim)
    obtain ⟨g1, g2, g3⟩ := zt
    subst g1
    subst g2
    subst g3
    refine r_iload C dc_L_law_572 rfl ?_
    refine r_icmp_eq (tgt := 579) C dc_L_law_574 (by decide) (fun _ => ?_) (fun cz => absurd t0 cz)
    refine rw_hh (lh_mh hS).symm ?_
    refine r_goto (tgt := 935) C dc_L_law_579 (by decide) ?_
    exact r_weak (wl_c (rfl) (wl_c (rfl) (wl_c (rfl) (wl_c (rfl) (wl_c (rfl) (wl_n)))))) (K _ _ _ _ _ _ _ _ _ _ ⟨K1, hS, by omega, by omega, by omega⟩)
  ·
    subst y3
    rcases hst with ⟨c0, _⟩ | ⟨c0, t0, K1⟩
    · exact absurd c0 y1
    refine r_istore C dc_L_law_556 (by decide) (nw_of rfl) ?_
    first | refine r_aload_n C dc_L_law_558 rfl rfl ?_ | refine r_aload_nq C dc_L_law_558 rfl rfl ?_
    first | refine r_aload_n C dc_L_law_559 rfl rfl ?_ | refine r_aload_nq C dc_L_law_559 rfl rfl ?_
    refine r_iload C dc_L_law_560 rfl ?_
    refine r_iconst (v := nI 1) C dc_L_law_562 (by decide) ?_
    first | refine r_iaddN C dc_L_law_563 ?_ | refine r_iadd C dc_L_law_563 ?_
    refine r_scld C hX hsb (by omega) hL e1 dc_L_law_564 ?_
    refine rw_hh (lh_mh hS) ?_
    refine r_callV C dp dc_L_law_565 cw_L_90 cm_M_time cv_M_time rfl mh_0 (k_M_time (df := 0) hl) (by decide) rfl rfl (Nat.le_of_ble_eq_true rfl) (fun vm hm nm qm zm => ?_) (fun _ _ _ _ z => z.elim)
    obtain ⟨g1, g2, g3⟩ := zm
    subst g1
    subst g2
    subst g3
    first | refine r_aload_n C dc_L_law_568 rfl rfl ?_ | refine r_aload_nq C dc_L_law_568 rfl rfl ?_
    refine r_callV C dp dc_L_law_569 cw_L_67 cm_M_thrown cv_M_thrown rfl mh_0 (k_M_thrown (df := 0) hl) (by decide) rfl rfl (Nat.le_of_ble_eq_true rfl) (fun vt ht nt qt zt => ?_) (fun _ _ _ _ z => z.elim)
    obtain ⟨g1, g2, g3⟩ := zt
    subst g1
    subst g2
    subst g3
    refine r_iload C dc_L_law_572 rfl ?_
    refine r_icmp_eq (tgt := 579) C dc_L_law_574 (by decide) (fun _ => ?_) (fun cz => absurd t0 cz)
    refine rw_hh (lh_mh hS).symm ?_
    refine r_goto (tgt := 935) C dc_L_law_579 (by decide) ?_
    exact r_weak (wl_c (rfl) (wl_c (rfl) (wl_c (rfl) (wl_c (rfl) (wl_c (rfl) (wl_n)))))) (K _ _ _ _ _ _ _ _ _ _ ⟨K1, hS, by omega, by omega, by omega⟩)
set_option maxRecDepth 4000 in
set_option maxHeartbeats 2000000 in
theorem la_ended (C : Cx p l s m args meth c D A G cd_L_law 7 rn_L) (dp : Dp R 30 bc0 bs0) (hX : va_X sb L xs s G) (hsb : sb < G.size) (hL : L ≤ 3584) (hk : 7 * k + 7 ≤ L) (I : LI G ot S x z r q ck sn n k) (K : ∀ (ot' : Nat → Option Nat) (S' : Nat → Bool) (x' z' : Nat → Nat → Int32) (r' : Nat → Nat → Option Nat) (q' : Nat → Nat → Int32) (f' : Nat → Int64) (ck' sn' n' : Nat), LI G ot' S' x' z' r' q' ck' sn' n' (k + 1) → Rw p l e R s m args below meth c Q D G 7 bc bs (LH A G z' r' S' q' x' f') n' [(0, .ref sb), (1, .ref G.size), (2, .ref (G.size + 68)), (3, .ref (G.size + 103)), (4, .int (nI (7 * k)))] 935 []) : Rw p l e R s m args below meth c Q D G 7 (bc + 5) (bs + 34) (LH A G z r S q x f) n [(0, .ref sb), (1, .ref G.size), (2, .ref (G.size + 68)), (3, .ref (G.size + 103)), (4, .int (nI (7 * k)))] 638 [] := by
  have hl : l.stackTraces = false := C.2.2.2.2.2.2.2
  obtain ⟨K0, hS, hn, hck, hsn⟩ := I
  obtain ⟨v1, e1⟩ : ∃ v, xs (7 * k + 1) = v := ⟨_, rfl⟩
  obtain ⟨v2, e2⟩ : ∃ v, xs (7 * k + 2) = v := ⟨_, rfl⟩
  have hst := st_ended K0 v1 v2
  try dsimp only at hst
  have hcd : ¬ enC r v1 v2 = 0 → (enC r v1 v2 = 1 ∨ enC r v1 v2 = 2 ∨ enC r v1 v2 = 3) := fun hz => by
    rcases hst with ⟨hz2, _⟩ | ⟨hz2, _⟩
    · exact absurd hz2 hz
    · exact hz2
  refine r_room (bc' := bc + 3) (bs' := bs + 18) (by omega) (by omega) ?_
  first | refine r_aload_n C dc_L_law_638 rfl rfl ?_ | refine r_aload_nq C dc_L_law_638 rfl rfl ?_
  first | refine r_aload_n C dc_L_law_639 rfl rfl ?_ | refine r_aload_nq C dc_L_law_639 rfl rfl ?_
  refine r_iload C dc_L_law_640 rfl ?_
  refine r_iconst (v := nI 1) C dc_L_law_642 (by decide) ?_
  first | refine r_iaddN C dc_L_law_643 ?_ | refine r_iadd C dc_L_law_643 ?_
  refine r_scld C hX hsb (by omega) hL e1 dc_L_law_644 ?_
  first | refine r_aload_n C dc_L_law_645 rfl rfl ?_ | refine r_aload_nq C dc_L_law_645 rfl rfl ?_
  refine r_iload C dc_L_law_646 rfl ?_
  refine r_iconst (v := nI 2) C dc_L_law_648 (by decide) ?_
  first | refine r_iaddN C dc_L_law_649 ?_ | refine r_iadd C dc_L_law_649 ?_
  refine r_scld C hX hsb (by omega) hL e2 dc_L_law_650 ?_
  first | refine r_aload_n C dc_L_law_651 rfl rfl ?_ | refine r_aload_nq C dc_L_law_651 rfl rfl ?_
  refine r_callSH (k := 4) C dp dc_L_law_652 gw_ended ⟨by decide, by decide, by decide +kernel⟩ (by decide) (k_L_ended (cd := enC r v1 v2) hl ch_S (k_S_ended (df := 0) hl K0.rv) (fun v h1 n1 z => by obtain ⟨_, t, _, w1, w2, _⟩ := z; exact ⟨_, f, w1, by rw [w2]; exact lh_lg hS⟩) (fun E h1 n1 z => ⟨z.2.1, hcd z.1⟩)) (by decide) rfl rfl (Nat.le_of_ble_eq_true rfl) (fun v9 h9 n9 q9 z9 => ?_)
  rcases z9 with ⟨V, h1, f1, ⟨y1, t, y5, y2, y3, y4⟩, rfl, hlg, rfl⟩ | ⟨⟨y1, y2, y3, y4⟩, rfl⟩
  ·
    cases y2
    subst y3
    subst y4
    rcases hst with ⟨c0, t0, K1, g0⟩ | ⟨c0, t0, K1⟩
    rotate_left
    · rcases c0 with c0 | c0 | c0
      · exact absurd (y1.symm.trans c0) (by decide)
      · exact absurd (y1.symm.trans c0) (by decide)
      · exact absurd (y1.symm.trans c0) (by decide)
    have ev := g0 _ y5
    refine rw_hh (lh_st hS) ?_
    refine r_istore C dc_L_law_655 (by decide) (nw_of rfl) ?_
    first | refine r_aload_n C dc_L_law_657 rfl rfl ?_ | refine r_aload_nq C dc_L_law_657 rfl rfl ?_
    first | refine r_aload_n C dc_L_law_658 rfl rfl ?_ | refine r_aload_nq C dc_L_law_658 rfl rfl ?_
    refine r_iload C dc_L_law_659 rfl ?_
    refine r_iconst (v := nI 1) C dc_L_law_661 (by decide) ?_
    first | refine r_iaddN C dc_L_law_662 ?_ | refine r_iadd C dc_L_law_662 ?_
    refine r_scld C hX hsb (by omega) hL e1 dc_L_law_663 ?_
    first | refine r_aload_n C dc_L_law_664 rfl rfl ?_ | refine r_aload_nq C dc_L_law_664 rfl rfl ?_
    refine r_iload C dc_L_law_665 rfl ?_
    refine r_iconst (v := nI 2) C dc_L_law_667 (by decide) ?_
    first | refine r_iaddN C dc_L_law_668 ?_ | refine r_iadd C dc_L_law_668 ?_
    refine r_scld C hX hsb (by omega) hL e2 dc_L_law_669 ?_
    refine rw_hh (lh_mh hS) ?_
    refine r_callV C dp dc_L_law_670 cw_L_97 cm_M_ended cv_M_ended rfl mh_0 (k_M_ended (df := 0) hl) (by decide) rfl rfl (Nat.le_of_ble_eq_true rfl) (fun vm hm nm qm zm => ?_) (fun _ _ _ _ z => z.elim)
    obtain ⟨g1, g2, g3⟩ := zm
    subst g1
    subst g2
    subst g3
    refine r_istore C dc_L_law_673 (by decide) (nw_of rfl) ?_
    first | refine r_aload_n C dc_L_law_675 rfl rfl ?_ | refine r_aload_nq C dc_L_law_675 rfl rfl ?_
    refine r_callV C dp dc_L_law_676 cw_L_67 cm_M_thrown cv_M_thrown rfl mh_0 (k_M_thrown (df := 0) hl) (by decide) rfl rfl (Nat.le_of_ble_eq_true rfl) (fun vt ht nt qt zt => ?_) (fun _ _ _ _ z => z.elim)
    obtain ⟨g1, g2, g3⟩ := zt
    subst g1
    subst g2
    subst g3
    refine r_iload C dc_L_law_679 rfl ?_
    refine r_icmp_eq (tgt := 686) C dc_L_law_681 (by decide) (fun _ => ?_) (fun cz => absurd t0 cz)
    refine r_iload C dc_L_law_686 rfl ?_
    refine r_if_ne (tgt := 703) C dc_L_law_688 (by decide) (fun cz => absurd nI_0 cz) (fun _ => ?_)
    first | refine r_aload_n C dc_L_law_691 rfl rfl ?_ | refine r_aload_nq C dc_L_law_691 rfl rfl ?_
    refine r_iconst (v := nI 0) C dc_L_law_692 (by decide) ?_
    refine rw_hh (lh_mh hS).symm ?_
    refine r_jald C dc_L_law_693 (lh_lg hS) rfl (by decide) (by decide) ?_
    refine r_iload C dc_L_law_694 rfl ?_
    refine r_i2l C dc_L_law_696 rfl ?_
    refine r_lcmp C dc_L_law_697 ?_
    refine r_if_eq (tgt := 703) C dc_L_law_698 (by decide) (fun _ => ?_) (fun cz => absurd ((lg_cmp_eq _ _).mpr (by rw [pk_uLs, ev])) cz)
    refine r_goto (tgt := 935) C dc_L_law_703 (by decide) ?_
    exact r_weak (wl_c (rfl) (wl_c (rfl) (wl_c (rfl) (wl_c (rfl) (wl_c (rfl) (wl_n)))))) (K _ _ _ _ _ _ _ _ _ _ ⟨K1, hS, by omega, by omega, by omega⟩)
  ·
    subst y3
    rcases hst with ⟨c0, _⟩ | ⟨c0, t0, K1⟩
    · exact absurd c0 y1
    have hnz : ¬ nI (enC r v1 v2) = 0 := by
      rcases c0 with c0 | c0 | c0
      · rw [c0]; decide
      · rw [c0]; decide
      · rw [c0]; decide
    refine r_istore C dc_L_law_655 (by decide) (nw_of rfl) ?_
    first | refine r_aload_n C dc_L_law_657 rfl rfl ?_ | refine r_aload_nq C dc_L_law_657 rfl rfl ?_
    first | refine r_aload_n C dc_L_law_658 rfl rfl ?_ | refine r_aload_nq C dc_L_law_658 rfl rfl ?_
    refine r_iload C dc_L_law_659 rfl ?_
    refine r_iconst (v := nI 1) C dc_L_law_661 (by decide) ?_
    first | refine r_iaddN C dc_L_law_662 ?_ | refine r_iadd C dc_L_law_662 ?_
    refine r_scld C hX hsb (by omega) hL e1 dc_L_law_663 ?_
    first | refine r_aload_n C dc_L_law_664 rfl rfl ?_ | refine r_aload_nq C dc_L_law_664 rfl rfl ?_
    refine r_iload C dc_L_law_665 rfl ?_
    refine r_iconst (v := nI 2) C dc_L_law_667 (by decide) ?_
    first | refine r_iaddN C dc_L_law_668 ?_ | refine r_iadd C dc_L_law_668 ?_
    refine r_scld C hX hsb (by omega) hL e2 dc_L_law_669 ?_
    refine rw_hh (lh_mh hS) ?_
    refine r_callV C dp dc_L_law_670 cw_L_97 cm_M_ended cv_M_ended rfl mh_0 (k_M_ended (df := 0) hl) (by decide) rfl rfl (Nat.le_of_ble_eq_true rfl) (fun vm hm nm qm zm => ?_) (fun _ _ _ _ z => z.elim)
    obtain ⟨g1, g2, g3⟩ := zm
    subst g1
    subst g2
    subst g3
    refine r_istore C dc_L_law_673 (by decide) (nw_of rfl) ?_
    first | refine r_aload_n C dc_L_law_675 rfl rfl ?_ | refine r_aload_nq C dc_L_law_675 rfl rfl ?_
    refine r_callV C dp dc_L_law_676 cw_L_67 cm_M_thrown cv_M_thrown rfl mh_0 (k_M_thrown (df := 0) hl) (by decide) rfl rfl (Nat.le_of_ble_eq_true rfl) (fun vt ht nt qt zt => ?_) (fun _ _ _ _ z => z.elim)
    obtain ⟨g1, g2, g3⟩ := zt
    subst g1
    subst g2
    subst g3
    refine r_iload C dc_L_law_679 rfl ?_
    refine r_icmp_eq (tgt := 686) C dc_L_law_681 (by decide) (fun _ => ?_) (fun cz => absurd t0 cz)
    refine r_iload C dc_L_law_686 rfl ?_
    refine r_if_ne (tgt := 703) C dc_L_law_688 (by decide) (fun _ => ?_) (fun cz => absurd cz hnz)
    refine rw_hh (lh_mh hS).symm ?_
    refine r_goto (tgt := 935) C dc_L_law_703 (by decide) ?_
    exact r_weak (wl_c (rfl) (wl_c (rfl) (wl_c (rfl) (wl_c (rfl) (wl_c (rfl) (wl_n)))))) (K _ _ _ _ _ _ _ _ _ _ ⟨K1, hS, by omega, by omega, by omega⟩)
set_option maxRecDepth 4000 in
set_option maxHeartbeats 2000000 in
theorem la_word (C : Cx p l s m args meth c D A G cd_L_law 7 rn_L) (dp : Dp R 30 bc0 bs0) (hX : va_X sb L xs s G) (hsb : sb < G.size) (hL : L ≤ 3584) (hk : 7 * k + 7 ≤ L) (I : LI G ot S x z r q ck sn n k) (K : ∀ (ot' : Nat → Option Nat) (S' : Nat → Bool) (x' z' : Nat → Nat → Int32) (r' : Nat → Nat → Option Nat) (q' : Nat → Nat → Int32) (f' : Nat → Int64) (ck' sn' n' : Nat), LI G ot' S' x' z' r' q' ck' sn' n' (k + 1) → Rw p l e R s m args below meth c Q D G 7 bc bs (LH A G z' r' S' q' x' f') n' [(0, .ref sb), (1, .ref G.size), (2, .ref (G.size + 68)), (3, .ref (G.size + 103)), (4, .int (nI (7 * k)))] 935 []) : Rw p l e R s m args below meth c Q D G 7 (bc + 5) (bs + 34) (LH A G z r S q x f) n [(0, .ref sb), (1, .ref G.size), (2, .ref (G.size + 68)), (3, .ref (G.size + 103)), (4, .int (nI (7 * k)))] 842 [] := by
  have hl : l.stackTraces = false := C.2.2.2.2.2.2.2
  obtain ⟨K0, hS, hn, hck, hsn⟩ := I
  obtain ⟨v1, e1⟩ : ∃ v, xs (7 * k + 1) = v := ⟨_, rfl⟩
  obtain ⟨v2, e2⟩ : ∃ v, xs (7 * k + 2) = v := ⟨_, rfl⟩
  have hst := st_word K0 v1 v2
  try dsimp only at hst
  have hcd : ¬ woC v1 v2 = 0 → (woC v1 v2 = 1 ∨ woC v1 v2 = 2) := fun hz => by
    rcases hst with ⟨hz2, _⟩ | ⟨hz2, _⟩
    · exact absurd hz2 hz
    · exact hz2
  refine r_room (bc' := bc + 2) (bs' := bs + 12) (by omega) (by omega) ?_
  first | refine r_aload_n C dc_L_law_842 rfl rfl ?_ | refine r_aload_nq C dc_L_law_842 rfl rfl ?_
  first | refine r_aload_n C dc_L_law_843 rfl rfl ?_ | refine r_aload_nq C dc_L_law_843 rfl rfl ?_
  refine r_iload C dc_L_law_844 rfl ?_
  refine r_iconst (v := nI 1) C dc_L_law_846 (by decide) ?_
  first | refine r_iaddN C dc_L_law_847 ?_ | refine r_iadd C dc_L_law_847 ?_
  refine r_scld C hX hsb (by omega) hL e1 dc_L_law_848 ?_
  first | refine r_aload_n C dc_L_law_849 rfl rfl ?_ | refine r_aload_nq C dc_L_law_849 rfl rfl ?_
  refine r_iload C dc_L_law_850 rfl ?_
  refine r_iconst (v := nI 2) C dc_L_law_852 (by decide) ?_
  first | refine r_iaddN C dc_L_law_853 ?_ | refine r_iadd C dc_L_law_853 ?_
  refine r_scld C hX hsb (by omega) hL e2 dc_L_law_854 ?_
  first | refine r_aload_n C dc_L_law_855 rfl rfl ?_ | refine r_aload_nq C dc_L_law_855 rfl rfl ?_
  refine r_callSH (k := 4) C dp dc_L_law_856 gw_word ⟨by decide, by decide, by decide +kernel⟩ (by decide) (k_L_word (cd := woC v1 v2) hl ch_S (k_S_word (df := 0) hl) (fun v h1 n1 z => ⟨_, f, z.2.1, by rw [z.2.2.1]; exact lh_lg hS⟩) (fun E h1 n1 z => ⟨z.2.1, hcd z.1⟩)) (by decide) rfl rfl (Nat.le_of_ble_eq_true rfl) (fun v9 h9 n9 q9 z9 => ?_)
  rcases z9 with ⟨V, h1, f1, ⟨y1, y2, y3, y4⟩, rfl, hlg, rfl⟩ | ⟨⟨y1, y2, y3, y4⟩, rfl⟩
  ·
    cases y2
    subst y3
    subst y4
    rcases hst with ⟨c0, t0, K1, ev⟩ | ⟨c0, t0, K1⟩
    rotate_left
    · rcases c0 with c0 | c0
      · exact absurd (y1.symm.trans c0) (by decide)
      · exact absurd (y1.symm.trans c0) (by decide)
    refine rw_hh (lh_st hS) ?_
    refine r_istore C dc_L_law_859 (by decide) (nw_of rfl) ?_
    first | refine r_aload_n C dc_L_law_861 rfl rfl ?_ | refine r_aload_nq C dc_L_law_861 rfl rfl ?_
    first | refine r_aload_n C dc_L_law_862 rfl rfl ?_ | refine r_aload_nq C dc_L_law_862 rfl rfl ?_
    refine r_iload C dc_L_law_863 rfl ?_
    refine r_iconst (v := nI 1) C dc_L_law_865 (by decide) ?_
    first | refine r_iaddN C dc_L_law_866 ?_ | refine r_iadd C dc_L_law_866 ?_
    refine r_scld C hX hsb (by omega) hL e1 dc_L_law_867 ?_
    first | refine r_aload_n C dc_L_law_868 rfl rfl ?_ | refine r_aload_nq C dc_L_law_868 rfl rfl ?_
    refine r_iload C dc_L_law_869 rfl ?_
    refine r_iconst (v := nI 2) C dc_L_law_871 (by decide) ?_
    first | refine r_iaddN C dc_L_law_872 ?_ | refine r_iadd C dc_L_law_872 ?_
    refine r_scld C hX hsb (by omega) hL e2 dc_L_law_873 ?_
    refine rw_hh (lh_mh hS) ?_
    refine r_callV C dp dc_L_law_874 cw_L_106 cm_M_word cv_M_word rfl mh_0 (k_M_word (df := 0) hl) (by decide) rfl rfl (Nat.le_of_ble_eq_true rfl) (fun vm hm nm qm zm => ?_) (fun _ _ _ _ z => z.elim)
    obtain ⟨g1, g2, g3⟩ := zm
    subst g1
    subst g2
    subst g3
    refine r_istore C dc_L_law_877 (by decide) (nw_of rfl) ?_
    first | refine r_aload_n C dc_L_law_879 rfl rfl ?_ | refine r_aload_nq C dc_L_law_879 rfl rfl ?_
    refine r_callV C dp dc_L_law_880 cw_L_67 cm_M_thrown cv_M_thrown rfl mh_0 (k_M_thrown (df := 0) hl) (by decide) rfl rfl (Nat.le_of_ble_eq_true rfl) (fun vt ht nt qt zt => ?_) (fun _ _ _ _ z => z.elim)
    obtain ⟨g1, g2, g3⟩ := zt
    subst g1
    subst g2
    subst g3
    refine r_iload C dc_L_law_883 rfl ?_
    refine r_icmp_eq (tgt := 890) C dc_L_law_885 (by decide) (fun _ => ?_) (fun cz => absurd t0 cz)
    refine r_iload C dc_L_law_890 rfl ?_
    refine r_if_ne (tgt := 907) C dc_L_law_892 (by decide) (fun cz => absurd nI_0 cz) (fun _ => ?_)
    first | refine r_aload_n C dc_L_law_895 rfl rfl ?_ | refine r_aload_nq C dc_L_law_895 rfl rfl ?_
    refine r_iconst (v := nI 0) C dc_L_law_896 (by decide) ?_
    refine rw_hh (lh_mh hS).symm ?_
    refine r_jald C dc_L_law_897 (lh_lg hS) rfl (by decide) (by decide) ?_
    refine r_iload C dc_L_law_898 rfl ?_
    refine r_i2l C dc_L_law_900 rfl ?_
    refine r_lcmp C dc_L_law_901 ?_
    refine r_if_eq (tgt := 907) C dc_L_law_902 (by decide) (fun _ => ?_) (fun cz => absurd ((lg_cmp_eq _ _).mpr (by rw [pk_uLs, ev])) cz)
    refine r_goto (tgt := 935) C dc_L_law_907 (by decide) ?_
    exact r_weak (wl_c (rfl) (wl_c (rfl) (wl_c (rfl) (wl_c (rfl) (wl_c (rfl) (wl_n)))))) (K _ _ _ _ _ _ _ _ _ _ ⟨K1, hS, by omega, by omega, by omega⟩)
  ·
    subst y3
    rcases hst with ⟨c0, _⟩ | ⟨c0, t0, K1⟩
    · exact absurd c0 y1
    have hnz : ¬ nI (woC v1 v2) = 0 := by
      rcases c0 with c0 | c0
      · rw [c0]; decide
      · rw [c0]; decide
    refine r_istore C dc_L_law_859 (by decide) (nw_of rfl) ?_
    first | refine r_aload_n C dc_L_law_861 rfl rfl ?_ | refine r_aload_nq C dc_L_law_861 rfl rfl ?_
    first | refine r_aload_n C dc_L_law_862 rfl rfl ?_ | refine r_aload_nq C dc_L_law_862 rfl rfl ?_
    refine r_iload C dc_L_law_863 rfl ?_
    refine r_iconst (v := nI 1) C dc_L_law_865 (by decide) ?_
    first | refine r_iaddN C dc_L_law_866 ?_ | refine r_iadd C dc_L_law_866 ?_
    refine r_scld C hX hsb (by omega) hL e1 dc_L_law_867 ?_
    first | refine r_aload_n C dc_L_law_868 rfl rfl ?_ | refine r_aload_nq C dc_L_law_868 rfl rfl ?_
    refine r_iload C dc_L_law_869 rfl ?_
    refine r_iconst (v := nI 2) C dc_L_law_871 (by decide) ?_
    first | refine r_iaddN C dc_L_law_872 ?_ | refine r_iadd C dc_L_law_872 ?_
    refine r_scld C hX hsb (by omega) hL e2 dc_L_law_873 ?_
    refine rw_hh (lh_mh hS) ?_
    refine r_callV C dp dc_L_law_874 cw_L_106 cm_M_word cv_M_word rfl mh_0 (k_M_word (df := 0) hl) (by decide) rfl rfl (Nat.le_of_ble_eq_true rfl) (fun vm hm nm qm zm => ?_) (fun _ _ _ _ z => z.elim)
    obtain ⟨g1, g2, g3⟩ := zm
    subst g1
    subst g2
    subst g3
    refine r_istore C dc_L_law_877 (by decide) (nw_of rfl) ?_
    first | refine r_aload_n C dc_L_law_879 rfl rfl ?_ | refine r_aload_nq C dc_L_law_879 rfl rfl ?_
    refine r_callV C dp dc_L_law_880 cw_L_67 cm_M_thrown cv_M_thrown rfl mh_0 (k_M_thrown (df := 0) hl) (by decide) rfl rfl (Nat.le_of_ble_eq_true rfl) (fun vt ht nt qt zt => ?_) (fun _ _ _ _ z => z.elim)
    obtain ⟨g1, g2, g3⟩ := zt
    subst g1
    subst g2
    subst g3
    refine r_iload C dc_L_law_883 rfl ?_
    refine r_icmp_eq (tgt := 890) C dc_L_law_885 (by decide) (fun _ => ?_) (fun cz => absurd t0 cz)
    refine r_iload C dc_L_law_890 rfl ?_
    refine r_if_ne (tgt := 907) C dc_L_law_892 (by decide) (fun _ => ?_) (fun cz => absurd cz hnz)
    refine rw_hh (lh_mh hS).symm ?_
    refine r_goto (tgt := 935) C dc_L_law_907 (by decide) ?_
    exact r_weak (wl_c (rfl) (wl_c (rfl) (wl_c (rfl) (wl_c (rfl) (wl_c (rfl) (wl_n)))))) (K _ _ _ _ _ _ _ _ _ _ ⟨K1, hS, by omega, by omega, by omega⟩)
end Law4
