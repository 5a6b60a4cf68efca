/-! cables -/
theorem cnt_one {P P' : Nat → Bool} {m : Nat} (hP : P m = false) (hP' : P' m = true) : ∀ {n : Nat}, m < n → (∀ k, k < n → k ≠ m → P' k = P k) → cntT P' n = cntT P n + 1 := by
  intro n
  induction n with
  | zero => intro h; omega
  | succ n ih =>
    intro h ho
    by_cases e : m = n
    · subst e
      rw [cnt_1 hP', cnt_0 hP, cnt_c (fun k hk => ho k (by omega) (by omega))]
    · have h1 := ih (by omega) (fun k hk => ho k (by omega))
      cases e2 : P n with
      | true => rw [cnt_1 e2, cnt_1 ((ho n (by omega) (fun z => e z.symm)).trans e2), h1]
      | false => rw [cnt_0 e2, cnt_0 ((ho n (by omega) (fun z => e z.symm)).trans e2), h1]
theorem nI_ltm {k : Nat} (hk : k < 2 ^ 31) : ¬ nI k < -1 := by
  intro z
  have h1 := Int32.lt_iff_toInt_lt.mp z
  rw [nI_toInt hk] at h1
  have h2 : (-1 : Int32).toInt = -1 := by decide
  omega
/-- a cable more: the count of cables by their lesser sockets -/
theorem cab_1 {f g : Nat → Int32} {s t : Nat} (hs : s < 36) (ht : t < 36) (hne : s ≠ t) (fs : f s = -1) (ft : f t = -1) (gs : g s = nI t) (gt : g t = nI s) (ho : ∀ k, k < 36 → k ≠ s → k ≠ t → g k = f k) : cntT (fun k => decide (nI k < g k)) 36 = cntT (fun k => decide (nI k < f k)) 36 + 1 := by
  have no : ∀ k, k < 36 → f k = -1 → decide (nI k < f k) = false := fun k hk e => decide_eq_false (by rw [e]; exact nI_ltm (by omega))
  rcases Nat.lt_or_gt_of_ne hne with h | h
  · refine cnt_one (m := s) (no s hs fs) (decide_eq_true (by rw [gs]; exact (nI_ltI (by omega) (by omega)).mpr h)) hs (fun k hk hk2 => ?_)
    by_cases e : k = t
    · subst e
      rw [no k ht ft]
      exact decide_eq_false (by rw [gt, nI_ltI (by omega) (by omega)]; omega)
    · show decide (nI k < g k) = decide (nI k < f k)
      rw [ho k hk hk2 e]
  · refine cnt_one (m := t) (no t ht ft) (decide_eq_true (by rw [gt]; exact (nI_ltI (by omega) (by omega)).mpr h)) ht (fun k hk hk2 => ?_)
    by_cases e : k = s
    · subst e
      rw [no k hs fs]
      exact decide_eq_false (by rw [gs, nI_ltI (by omega) (by omega)]; omega)
    · show decide (nI k < g k) = decide (nI k < f k)
      rw [ho k hk e hk2]
theorem Cb0.plug {ot : Nat → Option Nat} (h : Cb0 ot) {s t : Nat} (hs : s < 36) (ht : t < 36) (hne : s / 3 ≠ t / 3) (es : ot s = none) (et : ot t = none) : Cb0 (otP ot s t) := by
  have hst : s ≠ t := fun e => hne (by rw [e])
  have ps : otP ot s t s = some t := by unfold otP; rw [if_neg hst, if_pos rfl]
  have pt : otP ot s t t = some s := by unfold otP; rw [if_pos rfl]
  have po : ∀ k, k ≠ s → k ≠ t → otP ot s t k = ot k := fun k h1 h2 => by unfold otP; rw [if_neg h2, if_neg h1]
  have cse : ∀ k u, otP ot s t k = some u → (k = t ∧ u = s) ∨ (k = s ∧ u = t) ∨ (k ≠ s ∧ k ≠ t ∧ ot k = some u) := by
    intro k u e
    by_cases e1 : k = t
    · rw [e1, pt] at e; cases e; exact Or.inl ⟨e1, rfl⟩
    · by_cases e2 : k = s
      · rw [e2, ps] at e; cases e; exact Or.inr (Or.inl ⟨e2, rfl⟩)
      · rw [po k e2 e1] at e; exact Or.inr (Or.inr ⟨e2, e1, e⟩)
  refine ⟨otP_36 h.1 hs ht, fun k u hk e => ?_, fun k u e => ?_, fun k u hk e => ?_⟩
  · rcases cse k u e with ⟨e1, e2⟩ | ⟨e1, e2⟩ | ⟨e1, e2, e3⟩
    · rw [e1, e2]; exact ps
    · rw [e1, e2]; exact pt
    · have h1 := h.2.1 k u hk e3
      rw [po u (fun z => by rw [z, es] at h1; cases h1) (fun z => by rw [z, et] at h1; cases h1)]; exact h1
  · rcases cse k u e with ⟨e1, e2⟩ | ⟨e1, e2⟩ | ⟨e1, e2, e3⟩
    · omega
    · omega
    · exact h.2.2.1 k u e3
  · rcases cse k u e with ⟨e1, e2⟩ | ⟨e1, e2⟩ | ⟨e1, e2, e3⟩
    · rw [e1, e2]; exact Ne.symm hne
    · rw [e1, e2]; exact hne
    · exact h.2.2.2 k u hk e3
theorem Cb0.unplug {ot : Nat → Option Nat} (h : Cb0 ot) {s t : Nat} (es : ot s = some t) (et : ot t = some s) : Cb0 (otU ot s t) := by
  have cse : ∀ k u, otU ot s t k = some u → k ≠ s ∧ k ≠ t ∧ ot k = some u := by
    intro k u e
    unfold otU at e
    split at e
    · cases e
    · rename_i e1
      split at e
      · cases e
      · rename_i e2; exact ⟨e2, e1, e⟩
  refine ⟨otU_36 h.1, fun k u hk e => ?_, fun k u e => h.2.2.1 k u (cse k u e).2.2, fun k u hk e => h.2.2.2 k u hk (cse k u e).2.2⟩
  obtain ⟨e1, e2, e3⟩ := cse k u e
  have h1 := h.2.1 k u hk e3
  unfold otU
  rw [if_neg (fun z => by rw [z, et] at h1; cases h1; exact e1 rfl), if_neg (fun z => by rw [z, es] at h1; cases h1; exact e2 rfl)]
  exact h1
section KT3
variable {ot ot' : Nat → Option Nat} {b : Nat} {S : Nat → Bool} {x : Nat → Nat → Int32} {c : CS} {ck sn : Nat}
/-- the cables change, two nodes are dirty -/
theorem KT.cables (K : KT ot b S x c ck sn) {y z : Nat → Nat → Int32} {i j : Nat} (hc : Cb0 ot') (hy1 : ∀ k, k < 36 → y 1 k = oi (ot' k)) (hy11 : y 11 = upd (upd (x 11) j (nI 1)) i (nI 1)) (hy : ∀ k, k ≠ 0 → k ≠ 1 → k ≠ 11 → y k = x k) (hz30 : ∀ k, k < 36 → z 30 k = oi (ot' k)) (hz31 : ∀ a, a < 12 → z 31 a = nI (itP ot' 11 a)) (hz32 : z 32 0 = nI (cntT (fun k => decide (nI k < y 1 k)) 36)) (hz11 : z 11 = upd (upd (c.1 11) i (nI 1)) j (nI 1)) (hz : ∀ k, k ≠ 11 → k ≠ 30 → k ≠ 31 → k ≠ 32 → z k = c.1 k) : KT ot' b S y (z, c.2.1, c.2.2) ck sn := by
  have f := hy
  refine ⟨⟨fun m a hm => ?_, fun a w ha hw => ?_⟩, ?_, K.q.cg (fun j h1 h2 => f j (by omega) (by omega) (by omega)), ?_, K.i.fr (f 4 (by decide) (by decide) (by decide)) (f 14 (by decide) (by decide) (by decide)) (f 17 (by decide) (by decide) (by decide)) (f 12 (by decide) (by decide) (by decide)) (f 15 (by decide) (by decide) (by decide)), ?_, hc, hy1, hz30, hz31, hz32, K.d.mono (f 27 (by decide) (by decide) (by decide)) (f 36 (by decide) (by decide) (by decide)) (fun i h => by rw [f 20 (by decide) (by decide) (by decide)] at h; exact h), ?_, ?_, K.rv⟩
  · have h1 := K.p.r m a hm
    obtain ⟨m41, vm⟩ := vj_of hm
    have hmu := mu_r m m41 vm
    by_cases e : m = 11
    · subst e
      have ha : a < 12 := by rcases hm with h | h <;> omega
      show z 11 a = y 11 a
      rw [hz11, hy11]
      have h2 : c.1 11 a = x 11 a := h1
      unfold upd
      by_cases e1 : a = j
      · by_cases e2 : a = i
        · rw [if_pos e1, if_pos e2]
        · rw [if_pos e1, if_neg e2, if_pos e1]
      · by_cases e2 : a = i
        · rw [if_neg e1, if_pos e2, if_pos e2]
        · rw [if_neg e1, if_neg e2, if_neg e2, if_neg e1]; exact h2
    · have e11 : mu m ≠ 11 := mu_inj 11 (by decide) m m41 (by decide) vm e
      show z m a = y (mu m) a
      rw [hz m e (by omega) (by omega) (by omega), f _ hmu.2.1 hmu.2.2.1 e11]; exact h1
  · show z (100 + a) w = y 13 (8 * a + w)
    rw [hz _ (by omega) (by omega) (by omega) (by omega), f 13 (by decide) (by decide) (by decide)]; exact K.p.w a w ha hw
  · show z 37 0 = _; rw [hz 37 (by decide) (by decide) (by decide) (by decide), f 38 (by decide) (by decide) (by decide)]; exact K.rs
  · obtain ⟨v1, v2, v3, v4, v5⟩ := K.v
    refine ⟨?_, ?_, ?_, ?_, ?_⟩
    · rw [f 35 (by decide) (by decide) (by decide)]; exact v1
    · rw [f 34 (by decide) (by decide) (by decide)]; exact v2
    · rw [f 30 (by decide) (by decide) (by decide)]; exact v3
    · rw [f 21 (by decide) (by decide) (by decide)]; exact v4
    · rw [f 23 (by decide) (by decide) (by decide)]; exact v5
  · intro a ha; rw [f 7 (by decide) (by decide) (by decide)]; exact K.bw a ha
  · rw [f 37 (by decide) (by decide) (by decide)]; exact K.pt
  · rw [f 29 (by decide) (by decide) (by decide)]; exact K.sn
theorem KT.plug (K : KT ot b S x c ck sn) {i pi j pj : Nat} (hi : i < 12) (hpi : pi < 3) (hj : j < 12) (hpj : pj < 3) (hne : i ≠ j) (es : ot (3 * i + pi) = none) (et : ot (3 * j + pj) = none) : KT (otP ot (3 * i + pi) (3 * j + pj)) b S (mPlugX x i pi j pj) (plZ ot c.1 i pi j pj, c.2.1, c.2.2) ck sn ∧ c.1 32 0 + nI 1 = nI (cntT (fun k => decide (nI k < mPlugX x i pi j pj 1 k)) 36) := by
  have y1 : mPlugX x i pi j pj 1 = upd (upd (x 1) (3 * i + pi) (nI (3 * j + pj))) (3 * j + pj) (nI (3 * i + pi)) := rfl
  have hst : 3 * i + pi ≠ 3 * j + pj := by omega
  have hcnt : c.1 32 0 + nI 1 = nI (cntT (fun k => decide (nI k < mPlugX x i pi j pj 1 k)) 36) := by
    rw [cab_1 (f := x 1) (g := mPlugX x i pi j pj 1) (s := 3 * i + pi) (t := 3 * j + pj) (by omega) (by omega) hst (by rw [K.h1 _ (by omega), es]; rfl) (by rw [K.h1 _ (by omega), et]; rfl) (by rw [y1, pk_un hst, pk_us]) (by rw [y1, pk_us]) (fun k hk h1 h2 => by rw [y1, pk_un h2, pk_un h1]), K.h32, nI_add]
  refine ⟨K.cables (i := i) (j := j) (K.cb.plug (by omega) (by omega) (by omega) es et) (by rw [y1]; exact otP_z K.h1) rfl (fun k h0 h1 h11 => ?_) (otP_z K.h30) (fun a ha => rN_at ha) hcnt rfl (fun k h11 h30 h31 h32 => ?_), hcnt⟩
  · unfold mPlugX
    rw [ur_ne h11, ur_ne h11, ur_ne h1, ur_ne h1]; exact ur_ne h0
  · show plZ ot c.1 i pi j pj k = c.1 k
    unfold plZ sR
    rw [ur_ne h11, ur_ne h11, ur_ne h31, ur_ne h32, ur_ne h30]
theorem KT.unplug (K : KT ot b S x c ck sn) {i pi t : Nat} (hi : i < 12) (hpi : pi < 3) (es : ot (3 * i + pi) = some t) : KT (otU ot (3 * i + pi) t) b S (ur (ur (ur (ur (ur x 0 (fun _ => nI 0)) 1 (upd (x 1) t (-1))) 1 (upd (upd (x 1) t (-1)) (3 * i + pi) (-1))) 11 (upd (x 11) (t / 3) (nI 1))) 11 (upd (upd (x 11) (t / 3) (nI 1)) i (nI 1))) (unZ ot c.1 i pi t, c.2.1, c.2.2) ck sn := by
  have ht := K.cb.1 _ _ (by omega) es
  have et := K.cb.2.1 _ _ (by omega) es
  have hne := K.cb.2.2.2 _ _ (by omega) es
  have hst : 3 * i + pi ≠ t := fun e => hne (by rw [e])
  generalize hy : ur (ur (ur (ur (ur x 0 (fun _ => nI 0)) 1 (upd (x 1) t (-1))) 1 (upd (upd (x 1) t (-1)) (3 * i + pi) (-1))) 11 (upd (x 11) (t / 3) (nI 1))) 11 (upd (upd (x 11) (t / 3) (nI 1)) i (nI 1)) = y
  have y1 : y 1 = upd (upd (x 1) t (-1)) (3 * i + pi) (-1) := by rw [← hy]; rfl
  have y1' : ∀ k, y 1 k = upd (upd (x 1) (3 * i + pi) (-1)) t (-1) k := by
    intro k
    rw [y1]
    unfold upd
    by_cases e1 : k = 3 * i + pi
    · by_cases e2 : k = t
      · rw [if_pos e1, if_pos e2]
      · rw [if_pos e1, if_neg e2, if_pos e1]
    · by_cases e2 : k = t
      · rw [if_neg e1, if_pos e2, if_pos e2]
      · rw [if_neg e1, if_neg e2, if_neg e2, if_neg e1]
  have hcnt : cntT (fun k => decide (nI k < x 1 k)) 36 = cntT (fun k => decide (nI k < y 1 k)) 36 + 1 :=
    cab_1 (f := y 1) (g := x 1) (s := 3 * i + pi) (t := t) (by omega) ht hst (by rw [y1, pk_us]) (by rw [y1', pk_us]) (by rw [K.h1 _ (by omega), es]; rfl) (by rw [K.h1 _ ht, et]; rfl) (fun k hk h1 h2 => by rw [y1, pk_un h1, pk_un h2])
  refine K.cables (i := i) (j := t / 3) (K.cb.unplug es et) (fun k hk => by rw [y1']; exact otU_z K.h1 k hk) (by rw [← hy]; rfl) (fun k h0 h1 h11 => ?_) (otU_z K.h30) (fun a ha => rN_at ha) ?_ rfl (fun k h11 h30 h31 h32 => ?_)
  · rw [← hy, ur_ne h11, ur_ne h11, ur_ne h1, ur_ne h1]; exact ur_ne h0
  · show c.1 32 0 - nI 1 = _
    rw [K.h32, hcnt, pk_sub (by omega)]; rfl
  · show unZ ot c.1 i pi t k = c.1 k
    unfold unZ sR
    rw [ur_ne h11, ur_ne h11, ur_ne h31, ur_ne h32, ur_ne h30]
/-- a label is free again -/
theorem KQ.free {r : Nat → Nat → Option Nat} {q : Nat → Nat → Int32} (K : KQ x r q) {i k : Nat} (hi : i < 12) (hk : k < 4) (hw : ¬ x 20 (4 * i + k) = -1) : KQ (ur x 20 (upd (x 20) (4 * i + k) (-2))) (ur r (12 + i) (va_up (r (12 + i)) k none)) q := by
  have hl0 : lbl (ur r (12 + i) (va_up (r (12 + i)) k none)) (4 * i + k) = none := by
    show ur r (12 + i) (va_up (r (12 + i)) k none) (12 + (4 * i + k) / 4) ((4 * i + k) % 4) = none
    rw [show (4 * i + k) / 4 = i by omega, show (4 * i + k) % 4 = k by omega, ur_eq]
    exact if_pos rfl
  have hl : ∀ m, m ≠ 4 * i + k → lbl (ur r (12 + i) (va_up (r (12 + i)) k none)) m = lbl r m := by
    intro m hm
    show ur r (12 + i) (va_up (r (12 + i)) k none) (12 + m / 4) (m % 4) = r (12 + m / 4) (m % 4)
    by_cases e : m / 4 = i
    · rw [e, ur_eq]; exact if_neg (by omega)
    · rw [ur_ne (by omega)]
  have hq : ∀ t, t < 12 → ur r (12 + i) (va_up (r (12 + i)) k none) t = r t := fun t ht => ur_ne (by omega)
  have e20 : ∀ m, m ≠ 4 * i + k → ur x 20 (upd (x 20) (4 * i + k) (-2)) 20 m = x 20 m := fun m hm => by rw [ur_eq]; exact pk_un hm
  have e20j : ur x 20 (upd (x 20) (4 * i + k) (-2)) 20 (4 * i + k) = -2 := by rw [ur_eq]; exact pk_us
  have xo : ∀ j, j ≠ 20 → ur x 20 (upd (x 20) (4 * i + k) (-2)) j = x j := fun j h => ur_ne h
  have w1 : ∀ m, ur x 20 (upd (x 20) (4 * i + k) (-2)) 20 m = -1 → m ≠ 4 * i + k ∧ x 20 m = -1 := by
    intro m h
    by_cases e : m = 4 * i + k
    · rw [e, e20j] at h; exact absurd h (by decide)
    · rw [e20 m e] at h; exact ⟨e, h⟩
  have hs : ∀ m a, lbl (ur r (12 + i) (va_up (r (12 + i)) k none)) m = some a → m ≠ 4 * i + k ∧ lbl r m = some a := by
    intro m a h
    by_cases e : m = 4 * i + k
    · rw [e, hl0] at h; cases h
    · rw [hl m e] at h; exact ⟨e, h⟩
  refine ⟨?_, ?_, ?_, ?_, ?_, ?_, ?_, ?_, ?_, ?_, ?_⟩
  · intro m hm h
    by_cases e : m = 4 * i + k
    · rw [e]; exact e20j
    · rw [hl m e] at h; rw [e20 m e]; exact K.l0 m hm h
  · intro m a hm h
    obtain ⟨e, h1⟩ := hs m a h
    rw [e20 m e]; exact K.l1 m a hm h1
  · intro m a hm h hz
    obtain ⟨e, h1⟩ := hs m a h
    rw [e20 m e] at hz; rw [xo 26 (by decide)]; exact K.l2 m a hm h1 hz
  · intro m a hm h hz
    obtain ⟨e, h1⟩ := hs m a h
    exact K.l3 m a hm h1 (w1 m hz).2
  · intro m m' a hm hm' h h'
    exact K.li m m' a hm hm' (hs m a h).2 (hs m' a h').2
  · intro t p ht hp
    rw [hq t ht]; exact K.p0 t p ht hp
  · intro t p a ht hp h hz
    rw [hq t ht] at h
    obtain ⟨j, g1, g2, g3, g4, g5, g6⟩ := K.p1 t p a ht hp h hz
    have ej : j ≠ 4 * i + k := fun z => hw (z ▸ g3)
    exact ⟨j, g1, g2, by rw [e20 j ej]; exact g3, by rw [hl j ej]; exact g4, g5, g6⟩
  · intro t p a ht hp h hz
    rw [hq t ht] at h
    obtain ⟨g1, j, g2, g3, g4, g5⟩ := K.p2 t p a ht hp h hz
    refine ⟨g1, j, g2, g3, fun z => ?_, fun z1 z2 => ?_⟩
    · obtain ⟨f1, f2, f3⟩ := g4 z
      have ej : j ≠ 4 * i + k := fun z => hw (z ▸ f1)
      exact ⟨by rw [e20 j ej]; exact f1, f2, by rw [hl j ej]; exact f3⟩
    · obtain ⟨ej, h1⟩ := w1 j z1
      rw [hl j ej]; exact g5 h1 z2
  · intro t p t' p' a h1 h2 h3 h4 q1 q2
    rw [hq t h1] at q1
    rw [hq t' h3] at q2
    exact K.pi t p t' p' a h1 h2 h3 h4 q1 q2
  · obtain ⟨s, g1, g2, g3, g4⟩ := K.s0
    exact ⟨s, g1, g2, fun m hm h => g3 m hm (w1 m h).2, g4⟩
  · intro m m' hm hm' h h' h2
    exact K.s1 m m' hm hm' (w1 m h).2 (w1 m' h').2 h2
theorem KT.free (K : KT ot b S x c ck sn) {i k : Nat} (hi : i < 12) (hk : k < 4) (hw : ¬ x 20 (4 * i + k) = -1) : KT ot b S (ur x 20 (upd (x 20) (4 * i + k) (-2))) (c.1, ur c.2.1 (12 + i) (va_up (c.2.1 (12 + i)) k none), c.2.2) ck sn := by
  refine ⟨K.p.mdl (fun m m0 m1 m2 m38 hm => ur_ne (by omega)), K.rs, K.q.free hi hk hw, K.v.ur (by decide), K.i.fr rfl rfl rfl rfl rfl, K.bw, K.cb, K.h1, K.h30, K.h31, K.h32, K.d.mono rfl rfl (fun m h => ?_), K.pt, K.sn, K.rv.row (vaup_S (fun j a e => K.rv.1 _ _ _ e) (fun a e => by cases e))⟩
  rw [ur_eq] at h
  unfold upd at h
  split at h
  · exact absurd h (by decide)
  · exact h
end KT3
