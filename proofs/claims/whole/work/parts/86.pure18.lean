/-! a request is asked -/
def askX (x : Nat → Nat → Int32) (j : Nat) (t wk w x0 v : Int32) : Nat → Nat → Int32 := ur (ur (ur (ur (ur (ur (ur (ur (ur (ur x 0 (fun _ => nI 0)) 29 (fun _ => x 29 0 + nI 1)) 20 (upd (x 20) j (-1))) 21 (upd (x 21) j t)) 22 (upd (x 22) j wk)) 23 (upd (x 23) j w)) 24 (upd (x 24) j x0)) 25 (upd (x 25) j v)) 27 (upd (x 27) j (x 36 0 + x 37 0))) 28 (upd (x 28) j (x 29 0 + nI 1))
section KT4
variable {ot : Nat → Option Nat} {b : Nat} {S : Nat → Bool} {x : Nat → Nat → Int32} {c : CS} {ck sn : Nat}
theorem askX_ne {j m : Nat} {t wk w x0 v : Int32} (h : m ≠ 0 ∧ ¬ (20 ≤ m ∧ m ≤ 25) ∧ m ≠ 27 ∧ m ≠ 28 ∧ m ≠ 29) : askX x j t wk w x0 v m = x m := by
  unfold askX
  rw [ur_ne h.2.2.2.1, ur_ne h.2.2.1, ur_ne (by omega), ur_ne (by omega), ur_ne (by omega), ur_ne (by omega), ur_ne (by omega), ur_ne (by omega), ur_ne h.2.2.2.2, ur_ne h.1]
theorem KQ.asked {r : Nat → Nat → Option Nat} {q : Nat → Nat → Int32} (K : KQ x r q) {i k s a : Nat} {t wk w x0 v : Int32} (hi : i < 12) (hk : k < 4) (hw : ¬ x 20 (4 * i + k) = -1) (hs : x 29 0 = nI s) (hs31 : s + 1 < 2 ^ 31) (hfr : ∀ m p, r m p ≠ some a) : KQ (askX x (4 * i + k) t wk w x0 v) (ur r (12 + i) (va_up (r (12 + i)) k (some a))) (ur q a (rq0 t wk w x0 v (x 36 0 + x 37 0))) ∧ LsQ (askX x (4 * i + k) t wk w x0 v) (ur r (12 + i) (va_up (r (12 + i)) k (some a))) a := by
  have hl0 : lbl (ur r (12 + i) (va_up (r (12 + i)) k (some a))) (4 * i + k) = some a := by
    show ur r (12 + i) (va_up (r (12 + i)) k (some a)) (12 + (4 * i + k) / 4) ((4 * i + k) % 4) = some a
    rw [show (4 * i + k) / 4 = i by omega, show (4 * i + k) % 4 = k by omega, ur_eq]
    exact if_pos rfl
  have hl : ∀ m, m ≠ 4 * i + k → lbl (ur r (12 + i) (va_up (r (12 + i)) k (some a))) m = lbl r m := by
    intro m hm
    show ur r (12 + i) (va_up (r (12 + i)) k (some a)) (12 + m / 4) (m % 4) = r (12 + m / 4) (m % 4)
    by_cases e : m / 4 = i
    · rw [e, ur_eq]; exact if_neg (by omega)
    · rw [ur_ne (by omega)]
  have hq : ∀ t', t' < 12 → ur r (12 + i) (va_up (r (12 + i)) k (some a)) t' = r t' := fun t' ht => ur_ne (by omega)
  have n20 : ∀ m, m ≠ 4 * i + k → askX x (4 * i + k) t wk w x0 v 20 m = x 20 m := fun m h => pk_un h
  have n21 : ∀ m, m ≠ 4 * i + k → askX x (4 * i + k) t wk w x0 v 21 m = x 21 m := fun m h => pk_un h
  have n22 : ∀ m, m ≠ 4 * i + k → askX x (4 * i + k) t wk w x0 v 22 m = x 22 m := fun m h => pk_un h
  have n23 : ∀ m, m ≠ 4 * i + k → askX x (4 * i + k) t wk w x0 v 23 m = x 23 m := fun m h => pk_un h
  have n24 : ∀ m, m ≠ 4 * i + k → askX x (4 * i + k) t wk w x0 v 24 m = x 24 m := fun m h => pk_un h
  have n25 : ∀ m, m ≠ 4 * i + k → askX x (4 * i + k) t wk w x0 v 25 m = x 25 m := fun m h => pk_un h
  have n27 : ∀ m, m ≠ 4 * i + k → askX x (4 * i + k) t wk w x0 v 27 m = x 27 m := fun m h => pk_un h
  have n28 : ∀ m, m ≠ 4 * i + k → askX x (4 * i + k) t wk w x0 v 28 m = x 28 m := fun m h => pk_un h
  have j20 : askX x (4 * i + k) t wk w x0 v 20 (4 * i + k) = -1 := pk_us
  have j28 : askX x (4 * i + k) t wk w x0 v 28 (4 * i + k) = nI (s + 1) := by
    show upd (x 28) (4 * i + k) (x 29 0 + nI 1) (4 * i + k) = _
    rw [pk_us, hs, nI_add]
  have x26 : askX x (4 * i + k) t wk w x0 v 26 = x 26 := askX_ne (by omega)
  have x30 : askX x (4 * i + k) t wk w x0 v 30 = x 30 := askX_ne (by omega)
  have x31 : askX x (4 * i + k) t wk w x0 v 31 = x 31 := askX_ne (by omega)
  have x32 : askX x (4 * i + k) t wk w x0 v 32 = x 32 := askX_ne (by omega)
  have x33 : askX x (4 * i + k) t wk w x0 v 33 = x 33 := askX_ne (by omega)
  have x34 : askX x (4 * i + k) t wk w x0 v 34 = x 34 := askX_ne (by omega)
  have x35 : askX x (4 * i + k) t wk w x0 v 35 = x 35 := askX_ne (by omega)
  have x29 : askX x (4 * i + k) t wk w x0 v 29 0 = nI (s + 1) := by
    show x 29 0 + nI 1 = _
    rw [hs, nI_add]
  have qn : ∀ e, e ≠ a → ur q a (rq0 t wk w x0 v (x 36 0 + x 37 0)) e = q e := fun e h => ur_ne h
  have qa : ur q a (rq0 t wk w x0 v (x 36 0 + x 37 0)) a = rq0 t wk w x0 v (x 36 0 + x 37 0) := ur_eq _ _ _
  have nl : ∀ m e, lbl r m = some e → e ≠ a := fun m e h z => hfr _ _ (z ▸ h)
  have np : ∀ m p e, r m p = some e → e ≠ a := fun m p e h z => hfr _ _ (z ▸ h)
  obtain ⟨s', g1, g2, g3, g4⟩ := K.s0
  have es : s' = s := by rw [g1, nI_eq g2 (by omega)] at hs; exact hs
  rw [es] at g3 g4
  refine ⟨⟨?_, ?_, ?_, ?_, ?_, ?_, ?_, ?_, ?_, ?_, ?_⟩, ?_⟩
  · intro m hm h
    by_cases e : m = 4 * i + k
    · rw [e, hl0] at h; cases h
    · rw [hl m e] at h; rw [n20 m e]; exact K.l0 m hm h
  · intro m e hm h
    by_cases em : m = 4 * i + k
    · rw [em, hl0] at h; cases h
      rw [em, qa, j20]; exact ⟨rfl, by decide⟩
    · rw [hl m em] at h
      rw [qn e (nl m e h), n20 m em]; exact K.l1 m e hm h
  · intro m e hm h hz
    by_cases em : m = 4 * i + k
    · rw [em, j20] at hz; exact absurd hz (by decide)
    · rw [hl m em] at h
      rw [n20 m em] at hz
      rw [qn e (nl m e h), x26]; exact K.l2 m e hm h hz
  · intro m e hm h hz
    by_cases em : m = 4 * i + k
    · rw [em, hl0] at h; cases h
      rw [em, qa]
      refine ⟨?_, ?_, ?_, ?_, ?_, ?_⟩
      · exact (pk_us (f := x 21)).symm
      · exact (pk_us (f := x 22)).symm
      · exact (pk_us (f := x 23)).symm
      · exact (pk_us (f := x 24)).symm
      · exact (pk_us (f := x 25)).symm
      · exact (pk_us (f := x 27)).symm
    · rw [hl m em] at h
      rw [n20 m em] at hz
      rw [qn e (nl m e h), n21 m em, n22 m em, n23 m em, n24 m em, n25 m em, n27 m em]; exact K.l3 m e hm h hz
  · intro m m' e hm hm' h h'
    by_cases em : m = 4 * i + k
    · by_cases em' : m' = 4 * i + k
      · omega
      · rw [em, hl0] at h; cases h
        rw [hl m' em'] at h'
        exact absurd rfl (nl m' a h')
    · by_cases em' : m' = 4 * i + k
      · rw [em', hl0] at h'; cases h'
        rw [hl m em] at h
        exact absurd rfl (nl m a h)
      · rw [hl m em] at h
        rw [hl m' em'] at h'
        exact K.li m m' e hm hm' h h'
  · intro t' p ht hp
    rw [x35] at hp
    obtain ⟨e, h1, h2⟩ := K.p0 t' p ht hp
    exact ⟨e, by rw [hq t' ht]; exact h1, by rw [qn e (np _ _ _ h1), x34]; exact h2⟩
  · intro t' p e ht hp h hz
    rw [x35] at hp
    rw [hq t' ht] at h
    rw [x34] at hz
    obtain ⟨j, f1, f2, f3, f4, f5, f6, n, f7, f8⟩ := K.p1 t' p e ht hp h hz
    have ej : j ≠ 4 * i + k := fun z => hw (z ▸ f3)
    exact ⟨j, f1, by rw [x30]; exact f2, by rw [n20 j ej]; exact f3, by rw [hl j ej]; exact f4, by rw [x31, n28 j ej]; exact f5, by rw [x32, qn e (np _ _ _ h)]; exact f6, n, f7, by rw [qn e (np _ _ _ h)]; exact f8⟩
  · intro t' p e ht hp h hz
    rw [x35] at hp
    rw [hq t' ht] at h
    rw [x34] at hz
    obtain ⟨f1, j, f2, f3, f4, f5⟩ := K.p2 t' p e ht hp h hz
    refine ⟨by rw [qn e (np _ _ _ h), x33]; exact f1, j, f2, by rw [x30]; exact f3, fun z => ?_, fun z1 z2 => ?_⟩
    · rw [qn e (np _ _ _ h)] at z
      obtain ⟨d1, d2, d3⟩ := f4 z
      have ej : j ≠ 4 * i + k := fun z => hw (z ▸ d1)
      exact ⟨by rw [n20 j ej]; exact d1, by rw [n28 j ej, x31]; exact d2, by rw [hl j ej]; exact d3⟩
    · by_cases ej : j = 4 * i + k
      · rw [ej, j28, x31] at z2
        obtain ⟨s2, d1, d2⟩ := g4 t' p ht hp
        rw [d2, nI_eq (by omega) (by omega)] at z2
        omega
      · rw [n20 j ej] at z1
        rw [n28 j ej, x31] at z2
        rw [hl j ej]; exact f5 z1 z2
  · intro t1 p1 t2 p2 e h1 h2 h3 h4 q1 q2
    rw [x35] at h2 h4
    rw [hq t1 h1] at q1
    rw [hq t2 h3] at q2
    exact K.pi t1 p1 t2 p2 e h1 h2 h3 h4 q1 q2
  · refine ⟨s + 1, x29, hs31, fun m hm h => ?_, fun t' p ht hp => ?_⟩
    · by_cases em : m = 4 * i + k
      · exact ⟨s + 1, Nat.le_refl _, by rw [em]; exact j28⟩
      · rw [n20 m em] at h
        obtain ⟨s2, d1, d2⟩ := g3 m hm h
        exact ⟨s2, by omega, by rw [n28 m em]; exact d2⟩
    · rw [x35] at hp
      obtain ⟨s2, d1, d2⟩ := g4 t' p ht hp
      exact ⟨s2, by omega, by rw [x31]; exact d2⟩
  · intro m m' hm hm' h h' h2
    by_cases em : m = 4 * i + k
    · by_cases em' : m' = 4 * i + k
      · omega
      · rw [n20 m' em'] at h'
        rw [em, j28, n28 m' em'] at h2
        obtain ⟨s2, d1, d2⟩ := g3 m' hm' h'
        rw [d2, nI_eq (by omega) (by omega)] at h2
        omega
    · by_cases em' : m' = 4 * i + k
      · rw [n20 m em] at h
        rw [em', j28, n28 m em] at h2
        obtain ⟨s2, d1, d2⟩ := g3 m hm h
        rw [d2, nI_eq (by omega) (by omega)] at h2
        omega
      · rw [n20 m em] at h
        rw [n20 m' em'] at h'
        rw [n28 m em, n28 m' em'] at h2
        exact K.s1 m m' hm hm' h h' h2
  · intro t' p ht hp
    rw [hq t' ht]
    exact hfr _ _
theorem KT.ask (K : KT ot b S x c ck sn) {i k t w sz a : Nat} {wk x0 v : Int32} (hi : i < 12) (hk : k < 4) (ht : t < 12) (hw8 : w < 8) (hw : ¬ x 20 (4 * i + k) = -1) (hsz : x 35 i = nI sz) (hs6 : sz < 6) (hck : ck + 100 < 2 ^ 31) (hsn : sn + 1 < 2 ^ 31) (hfr : S a = false) (hab : a < b ∨ b + 67 < a) : KT ot b (va_up S a true) (mAskX x i k sz (nI t) wk (nI w) x0 v) (ur c.1 17 (upd (c.1 17) i (nI (sz + 1))), ur (ur c.2.1 (12 + i) (va_up (c.2.1 (12 + i)) k (some a))) i (va_up (c.2.1 i) sz (some a)), ur c.2.2 a (rq0 (nI t) wk (nI w) x0 v (c.1 35 0 + c.1 36 0))) ck (sn + 1) := by
  obtain ⟨s, hs1, hs2⟩ := K.sn
  obtain ⟨pa, hp1, hp2, hp3⟩ := K.pt
  have fr : ∀ m p, c.2.1 m p ≠ some a := fun m p z => by have := K.rv.1 _ _ _ z; rw [hfr] at this; cases this
  have e35 : c.1 35 0 = x 36 0 := K.p.r 35 0 (Or.inr ⟨by decide, rfl⟩)
  have e36 : c.1 36 0 = x 37 0 := K.p.r 36 0 (Or.inr ⟨by decide, rfl⟩)
  obtain ⟨Q1, L1⟩ := K.q.asked (t := nI t) (wk := wk) (w := nI w) (x0 := x0) (v := v) hi hk hw hs2 (by omega) fr
  have hM : mAskX x i k sz (nI t) wk (nI w) x0 v = mPut (askX x (4 * i + k) (nI t) wk (nI w) x0 v) i sz (nI (4 * i + k)) (x 29 0 + nI 1) (nI 0) false (nI 0) := rfl
  have V1 : MV (askX x (4 * i + k) (nI t) wk (nI w) x0 v) := by
    obtain ⟨v1, v2, v3, v4, v5⟩ := K.v
    refine ⟨?_, ?_, ?_, fun j hj => ?_, fun j hj => ?_⟩
    · rw [askX_ne (by omega)]; exact v1
    · rw [askX_ne (by omega)]; exact v2
    · rw [askX_ne (by omega)]; exact v3
    · show ∃ t', t' < 12 ∧ upd (x 21) (4 * i + k) (nI t) j = nI t'
      unfold upd
      by_cases e : j = 4 * i + k
      · rw [if_pos e]; exact ⟨t, ht, rfl⟩
      · rw [if_neg e]; exact v4 j hj
    · show ∃ w', w' < 8 ∧ upd (x 23) (4 * i + k) (nI w) j = nI w'
      unfold upd
      by_cases e : j = 4 * i + k
      · rw [if_pos e]; exact ⟨w, hw8, rfl⟩
      · rw [if_neg e]; exact v5 j hj
  have fx : ∀ m, m ≠ 0 ∧ ¬ (20 ≤ m ∧ m ≤ 25) ∧ m ≠ 27 ∧ m ≠ 28 ∧ m ≠ 29 → ¬ (30 ≤ m ∧ m ≤ 35) → mAskX x i k sz (nI t) wk (nI w) x0 v m = x m := fun m h1 h2 => by rw [hM, mPut_ne h2, askX_ne h1]
  rw [e35, e36]
  refine ⟨?_, ?_, ?_, ?_, K.i.fr (fx 4 (by omega) (by omega)) (fx 14 (by omega) (by omega)) (fx 17 (by omega) (by omega)) (fx 12 (by omega) (by omega)) (fx 15 (by omega) (by omega)), ?_, K.cb, ?_, K.h30, K.h31, ?_, ?_, ?_, ?_, ?_⟩
  · have k1 := K.p.set (j := 17) (by decide) (f := upd (c.1 17) i (nI (sz + 1))) (g := upd (x 35) i (nI (sz + 1))) (fun u hu => by unfold upd; rw [show c.1 17 u = x 35 u from K.p.r 17 u (Or.inl ⟨by decide, by decide, hu⟩)])
    refine k1.mdl (fun m m0 m1 m2 m38 hm => ?_)
    show mAskX x i k sz (nI t) wk (nI w) x0 v m = ur x 35 (upd (x 35) i (nI (sz + 1))) m
    by_cases e : m = 35
    · rw [e, ur_eq, hM, mPut_35, askX_ne (by omega)]
    · rw [ur_ne e]; exact fx m (by omega) (by omega)
  · rw [fx 38 (by omega) (by omega)]; exact K.rs
  · rw [hM]
    have hr : ur (ur c.2.1 (12 + i) (va_up (c.2.1 (12 + i)) k (some a))) i (va_up (c.2.1 i) sz (some a)) = ur (ur c.2.1 (12 + i) (va_up (c.2.1 (12 + i)) k (some a))) i (va_up (ur c.2.1 (12 + i) (va_up (c.2.1 (12 + i)) k (some a)) i) sz (some a)) := by
      rw [show ur c.2.1 (12 + i) (va_up (c.2.1 (12 + i)) k (some a)) i = c.2.1 i from ur_ne (by omega)]
    show KQ _ (ur (ur c.2.1 (12 + i) (va_up (c.2.1 (12 + i)) k (some a))) i (va_up (c.2.1 i) sz (some a))) _
    rw [hr]
    refine KQ.put V1 Q1 L1 hi (by rw [askX_ne (by omega)]; exact hsz) hs6 (fun sn' h1 h2 => ?_) (by rw [ur_eq]; rfl) (fun _ => ⟨by omega, pk_us, ?_, (pk_us (f := x 28)).symm, by rw [ur_eq]; rfl, 0, by decide, by rw [ur_eq]; rfl⟩) (fun h => by cases h)
    · have h3 : askX x (4 * i + k) (nI t) wk (nI w) x0 v 29 0 = nI (s + 1) := by show x 29 0 + nI 1 = _; rw [hs2, nI_add]
      rw [h3, nI_eq (by omega) h2] at h1
      exact ⟨s + 1, by omega, by rw [hs2, nI_add]⟩
    · show ur c.2.1 (12 + i) (va_up (c.2.1 (12 + i)) k (some a)) (12 + (4 * i + k) / 4) ((4 * i + k) % 4) = some a
      rw [show (4 * i + k) / 4 = i by omega, show (4 * i + k) % 4 = k by omega, ur_eq]
      exact if_pos rfl
  · rw [hM]; exact V1.put hs6 (by omega)
  · intro e he; rw [fx 7 (by omega) (by omega)]; exact K.bw e he
  · rw [fx 1 (by omega) (by omega)]; exact K.h1
  · rw [fx 1 (by omega) (by omega)]; exact K.h32
  · refine ⟨by rw [fx 36 (by omega) (by omega)]; exact K.d.1, fun m hm h => ?_⟩
    have h20 : mAskX x i k sz (nI t) wk (nI w) x0 v 20 m = upd (x 20) (4 * i + k) (-1) m := by rw [hM, mPut_ne (by omega)]; rfl
    have h27 : mAskX x i k sz (nI t) wk (nI w) x0 v 27 m = upd (x 27) (4 * i + k) (x 36 0 + x 37 0) m := by rw [hM, mPut_ne (by omega)]; rfl
    rw [h20] at h
    rw [h27]
    unfold upd at h ⊢
    by_cases e : m = 4 * i + k
    · rw [if_pos e]
      exact ⟨ck + pa, by omega, by rw [K.d.1, hp3, nI_add], by omega, fun _ => by omega⟩
    · rw [if_neg e] at h ⊢
      exact K.d.2 m hm h
  · rw [fx 37 (by omega) (by omega)]; exact K.pt
  · refine ⟨s + 1, by omega, ?_⟩
    have h29 : mAskX x i k sz (nI t) wk (nI w) x0 v 29 0 = x 29 0 + nI 1 := by rw [hM, mPut_ne (by omega)]; rfl
    rw [h29, hs2, nI_add]
  · have h1 := K.rv.new hab
    have haa : va_up S a true a = true := if_pos rfl
    have h2 : RV b (ur c.2.1 (12 + i) (va_up (c.2.1 (12 + i)) k (some a))) (va_up S a true) := h1.row (vaup_S (fun j a e => h1.1 _ _ _ e) (fun a' e => by cases e; exact haa))
    exact h2.row (vaup_S (fun j a e => h1.1 _ _ _ e) (fun a' e => by cases e; exact haa))
end KT4
