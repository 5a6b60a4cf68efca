/-! requests that come late -/
def lt1 (c : CS) (i k : Nat) : CS := match c.2.1 (12 + i) k with
  | none => c
  | some a => if c.2.2 a 6 = -1 ∧ c.2.2 a 5 ≤ c.1 35 0 then
      (if c.2.2 a 8 = 0 then (match qFnd (c.2.1 i) (some a) (cl (c.1 17 i)) 0 with
        | none => (c.1, c.2.1, rEnd c.2.2 a (nI 4))
        | some g => (ur c.1 17 (upd (c.1 17) i (nI (cl (c.1 17 i) - 1))), ur c.2.1 i (qRem (c.2.1 i) g (cl (c.1 17 i))), rEnd c.2.2 a (nI 4)))
      else (c.1, c.2.1, rEnd c.2.2 a (nI 4)))
    else c
def nLt (c : CS) (i : Nat) : Nat → CS
  | 0 => c
  | k + 1 => lt1 (nLt c i k) i k
def cLt (c : CS) : Nat → CS
  | 0 => c
  | i + 1 => nLt (cLt c i) i 4
theorem qFnd_s {f : Nat → Option Nat} {v : Option Nat} : ∀ {d i g : Nat}, qFnd f v d i = some g → i ≤ g ∧ g < i + d ∧ f g = v := by
  intro d
  induction d with
  | zero => intro i g h; cases h
  | succ d ih =>
    intro i g h
    unfold qFnd at h
    split at h
    · rename_i e; cases h; exact ⟨Nat.le_refl _, by omega, e⟩
    · have := ih h; exact ⟨by omega, by omega, this.2.2⟩
theorem qFnd_n {f : Nat → Option Nat} {v : Option Nat} : ∀ {d i : Nat}, qFnd f v d i = none → ∀ g, i ≤ g → g < i + d → f g ≠ v := by
  intro d
  induction d with
  | zero => intro i _ g h1 h2; omega
  | succ d ih =>
    intro i h g h1 h2
    unfold qFnd at h
    split at h
    · cases h
    · rename_i e
      by_cases e2 : g = i
      · rw [e2]; exact e
      · exact ih h g (by omega) (by omega)
theorem mDr_0 {a : Nat} {s : Int32} : ∀ {k : Nat} {x : Nat → Nat → Int32}, (∀ m, m < k → ¬ (x 34 (6 * a + m) = 0 ∧ x 31 (6 * a + m) = s)) → mDr a s k x = x := by
  intro k
  induction k with
  | zero => intro x _; rfl
  | succ k ih =>
    intro x h
    show mDr a s k (if x 34 (6 * a + k) = 0 ∧ x 31 (6 * a + k) = s then mTake x a k (cl (x 35 a)) else x) = x
    rw [if_neg (h k (by omega))]
    exact ih (fun m hm => h m (by omega))
theorem mDr_1 {a g : Nat} {s : Int32} {x : Nat → Nat → Int32} (h6 : cl (x 35 a) ≤ 6) (hg : x 34 (6 * a + g) = 0 ∧ x 31 (6 * a + g) = s) : ∀ {k : Nat}, g < k → k ≤ cl (x 35 a) → (∀ m, m < k → m ≠ g → ¬ (x 34 (6 * a + m) = 0 ∧ x 31 (6 * a + m) = s)) → mDr a s k x = mTake x a g (cl (x 35 a)) := by
  intro k
  induction k with
  | zero => intro h; omega
  | succ k ih =>
    intro h1 h2 h3
    show mDr a s k (if x 34 (6 * a + k) = 0 ∧ x 31 (6 * a + k) = s then mTake x a k (cl (x 35 a)) else x) = _
    by_cases e : g = k
    · rw [e] at hg
      rw [if_pos hg, e]
      refine mDr_0 (fun m hm => ?_)
      rw [take_at (by omega) h6 (fun _ => by omega) (by omega), take_at (by omega) h6 (fun _ => by omega) (by omega), if_neg (by omega)]
      exact h3 m (by omega) (by omega)
    · rw [if_neg (h3 k (by omega) (fun z => e z.symm))]
      exact ih (by omega) (by omega) (fun m hm hne => h3 m (by omega) hne)
theorem mTake_u20 {x : Nat → Nat → Int32} {f : Nat → Int32} {i pl sz : Nat} : mTake (ur x 20 f) i pl sz = ur (mTake x i pl sz) 20 f := by
  funext j
  by_cases e : j = 20
  · rw [e, ur_eq, mTake_ne (by omega), ur_eq]
  · rw [ur_ne e]
    by_cases e35 : j = 35
    · rw [e35]; rfl
    · unfold mTake mSh
      by_cases e3 : 30 ≤ j ∧ j ≤ 34
      · rw [if_pos e3, if_pos e3, ur_ne e35, ur_ne e35, ur_ne e]
      · rw [if_neg e3, if_neg e3, ur_ne e35, ur_ne e35, ur_ne e]
def mLt1 (x : Nat → Nat → Int32) (j : Nat) : Nat → Nat → Int32 := if x 20 j = -1 ∧ x 27 j = x 36 0 then mDr (j / 4) (x 28 j) (cl (x 35 (j / 4))) (ur x 20 (upd (x 20) j (nI 4))) else x
theorem mLate_s (x : Nat → Nat → Int32) (j : Nat) : mLate x (j + 1) = mLt1 (mLate x j) j := rfl
theorem late_K {x z : Nat → Nat → Int32} {r : Nat → Nat → Option Nat} {q : Nat → Nat → Int32} {j ck : Nat} (V : MV x) (P : KP x z) (Q : KQ x r q) (hj : j < 48) (hck : x 36 0 = nI ck) (hc31 : ck < 2 ^ 31) (hd : x 20 j = -1 → ∃ d, d < 2 ^ 31 ∧ x 27 j = nI d ∧ ck ≤ d) : KP (mLt1 x j) (lt1 (z, r, q) (j / 4) (j % 4)).1 ∧ KQ (mLt1 x j) (lt1 (z, r, q) (j / 4) (j % 4)).2.1 (lt1 (z, r, q) (j / 4) (j % 4)).2.2 ∧ MV (mLt1 x j) := by
  have hi : j / 4 < 12 := by omega
  have z35 : z 35 0 = nI ck := (P.r 35 0 (Or.inr ⟨by decide, rfl⟩)).trans hck
  have z17 : ∀ t, t < 12 → z 17 t = x 35 t := fun t ht => P.r 17 t (Or.inl ⟨by decide, by decide, ht⟩)
  unfold lt1
  dsimp only
  cases ea : r (12 + j / 4) (j % 4) with
  | none =>
    have h1 := Q.l0 j hj ea
    have e1 : mLt1 x j = x := if_neg (fun h => by rw [h1] at h; exact absurd h.1 (by decide))
    rw [e1]
    exact ⟨P, Q, V⟩
  | some a =>
    have hl : lbl r j = some a := ea
    have h1 := Q.l1 j a hj ea
    dsimp only
    by_cases hw : x 20 j = -1
    · obtain ⟨d, hd31, e27, hle⟩ := hd hw
      obtain ⟨f0, f1, f2, f3, f4, f5⟩ := Q.l3 j a hj ea hw
      by_cases he : d = ck
      · have e27' : x 27 j = x 36 0 := by rw [e27, hck, he]
        rw [if_pos ⟨h1.1.trans hw, by rw [f5, e27, z35, he]; exact Int32.le_refl _⟩]
        have e1 : mLt1 x j = mDr (j / 4) (x 28 j) (cl (x 35 (j / 4))) (ur x 20 (upd (x 20) j (nI 4))) := if_pos ⟨hw, e27'⟩
        rw [e1]
        have e9 : rEnd q a (nI 4) = ur q a (upd (q a) 6 (nI 4)) := if_pos (h1.1.trans hw)
        rw [e9]
        obtain ⟨sz, h6, hs⟩ := V.1 (j / 4) hi
        have hcs : cl (x 35 (j / 4)) = sz := by rw [hs]; exact cl_nI (by omega)
        have hcz : cl (z 17 (j / 4)) = sz := by rw [z17 _ hi]; exact hcs
        -- the packets of this request that are no answers
        have mt : ∀ m, m < sz → (x 34 (6 * (j / 4) + m) = 0 ∧ x 31 (6 * (j / 4) + m) = x 28 j ↔ (r (j / 4) m = some a ∧ q a 8 = 0)) := by
          intro m hm
          constructor
          · rintro ⟨g1, g2⟩
            obtain ⟨b, k1, k2⟩ := Q.p0 (j / 4) m hi (by omega)
            obtain ⟨j', k3, k4, k5, k6, k7, k8⟩ := Q.p1 (j / 4) m b hi (by omega) k1 g1
            have ejj : j' = j := Q.s1 j' j (by omega) hj k5 hw (k7.symm.trans g2)
            rw [ejj] at k6
            have eab : b = a := Option.some.inj (k6.symm.trans hl)
            rw [eab] at k1 k2
            exact ⟨k1, k2.trans g1⟩
          · rintro ⟨g1, g2⟩
            obtain ⟨b, k1, k2⟩ := Q.p0 (j / 4) m hi (by omega)
            have eab : b = a := Option.some.inj (k1.symm.trans g1)
            rw [eab] at k2
            have g3 : x 34 (6 * (j / 4) + m) = 0 := k2.symm.trans g2
            obtain ⟨j', k3, k4, k5, k6, k7, k8⟩ := Q.p1 (j / 4) m a hi (by omega) g1 g3
            have ejj : j' = j := Q.li j' j a (by omega) hj k6 hl
            rw [ejj] at k7
            exact ⟨g3, k7⟩
        by_cases c8 : q a 8 = 0
        · rw [if_pos c8, hcz, hcs]
          cases eg : qFnd (r (j / 4)) (some a) sz 0 with
          | none =>
            have hn := qFnd_n eg
            have e2 : mDr (j / 4) (x 28 j) sz (ur x 20 (upd (x 20) j (nI 4))) = ur x 20 (upd (x 20) j (nI 4)) := mDr_0 (fun m hm h => hn m (by omega) (by omega) ((mt m hm).mp h).1)
            rw [e2]
            refine ⟨P.mdl (fun m m0 m1 m2 m38 hm => ur_ne (by omega)), ?_, V.ur (by decide)⟩
            refine Q.finA hj hl (fun i k hi' hk h => ?_) (by decide) (by decide) (Or.inl ⟨rfl, by decide⟩)
            intro h34
            obtain ⟨j', k3, k4, k5, k6, k7, k8⟩ := Q.p1 i k a hi' hk h h34
            have ejj : j' = j := Q.li j' j a (by omega) hj k6 hl
            rw [ejj] at k3
            rw [← k3, hcs] at hk
            rw [← k3] at h
            exact hn k (by omega) (by omega) h
          | some g =>
            obtain ⟨g1, g2, g3⟩ := qFnd_s eg
            have hg : g < sz := by omega
            have TK := Q.take V hi (pl := g) hs h6 hg
            have m1 := (mt g hg).mpr ⟨g3, c8⟩
            have e2 : mDr (j / 4) (x 28 j) sz (ur x 20 (upd (x 20) j (nI 4))) = ur (mTake x (j / 4) g sz) 20 (upd (x 20) j (nI 4)) := by
              have h9 := mDr_1 (x := ur x 20 (upd (x 20) j (nI 4))) (a := j / 4) (s := x 28 j) (g := g) (by show cl (x 35 (j / 4)) ≤ 6; omega) m1 (k := sz) hg (by show sz ≤ cl (x 35 (j / 4)); omega) (fun m hm hne h => hne ((Q.pi (j / 4) m (j / 4) g a hi (by omega) hi (by omega) ((mt m hm).mp h).1 g3).2))
              rw [h9, mTake_u20]
              show ur (mTake x (j / 4) g (cl (x 35 (j / 4)))) 20 _ = _
              rw [hcs]
            rw [e2]
            have e20 : mTake x (j / 4) g sz 20 = x 20 := mTake_ne (by omega)
            refine ⟨?_, ?_, (V.take hi h6).ur (by decide)⟩
            · have k1 := P.set (j := 17) (by decide) (f := upd (z 17) (j / 4) (nI (sz - 1))) (g := upd (x 35) (j / 4) (nI (sz - 1))) (fun u hu => by unfold upd; rw [z17 u hu])
              refine k1.mdl (fun m m0 m1 m2 m38 hm => ?_)
              show ur (mTake x (j / 4) g sz) 20 _ m = ur x 35 (upd (x 35) (j / 4) (nI (sz - 1))) m
              rw [ur_ne (by omega)]
              by_cases c35 : m = 35
              · rw [c35, ur_eq, mTake_35]
              · rw [ur_ne c35, mTake_ne (by omega)]
            · refine TK.1.fin hj ((congrFun (ur_ne (by omega)) _).trans hl) (fun i k hi' hk => TK.2 i k a hi' hk g3) (by decide) (by decide) (Or.inl ⟨by rw [e20], by decide⟩)
        · rw [if_neg c8, hcs]
          have e2 : mDr (j / 4) (x 28 j) sz (ur x 20 (upd (x 20) j (nI 4))) = ur x 20 (upd (x 20) j (nI 4)) := mDr_0 (fun m hm h => c8 ((mt m hm).mp h).2)
          rw [e2]
          refine ⟨P.mdl (fun m m0 m1 m2 m38 hm => ur_ne (by omega)), ?_, V.ur (by decide)⟩
          refine Q.finA hj hl (fun i k hi' hk h => ?_) (by decide) (by decide) (Or.inl ⟨rfl, by decide⟩)
          intro h34
          obtain ⟨b, k1, k2⟩ := Q.p0 i k hi' hk
          have eab : b = a := Option.some.inj (k1.symm.trans h)
          rw [eab] at k2
          exact c8 (k2.trans h34)
      · have e1 : mLt1 x j = x := if_neg (fun h => he (by rw [e27, hck, nI_eq hd31 hc31] at h; exact h.2))
        rw [e1, if_neg (fun h => by
          have h2 := h.2
          rw [f5, e27, z35, nI_leI hd31 hc31] at h2
          omega)]
        exact ⟨P, Q, V⟩
    · have e1 : mLt1 x j = x := if_neg (fun h => hw h.1)
      rw [e1, if_neg (fun h => hw (h1.1.symm.trans h.1))]
      exact ⟨P, Q, V⟩
theorem mLt1_ne {x : Nat → Nat → Int32} {j k : Nat} (h : k ≠ 20) (h2 : ¬ (30 ≤ k ∧ k ≤ 35)) : mLt1 x j k = x k := by
  unfold mLt1
  split
  · rw [mDr_ne h2, ur_ne h]
  · rfl
theorem mLt1_20 {x : Nat → Nat → Int32} {j : Nat} : mLt1 x j 20 = if x 20 j = -1 ∧ x 27 j = x 36 0 then upd (x 20) j (nI 4) else x 20 := by
  unfold mLt1
  split
  · rw [mDr_ne (by omega), ur_eq]
  · rfl
/-- what waits is due later; behind j labels: later than now -/
def KD (x : Nat → Nat → Int32) (ck j : Nat) : Prop := x 36 0 = nI ck ∧ ∀ i, i < 48 → x 20 i = -1 → ∃ d, d < 2 ^ 31 ∧ x 27 i = nI d ∧ ck ≤ d ∧ (i < j → ck < d)
theorem KD.step {x : Nat → Nat → Int32} {ck j : Nat} (h31 : ck < 2 ^ 31) (D : KD x ck j) : KD (mLt1 x j) ck (j + 1) := by
  refine ⟨by rw [mLt1_ne (by decide) (by omega)]; exact D.1, fun i hi h => ?_⟩
  rw [mLt1_20] at h
  rw [mLt1_ne (by decide) (by omega)]
  have hx : x 20 i = -1 := by
    split at h
    · unfold upd at h
      split at h
      · exact absurd h (by decide)
      · exact h
    · exact h
  obtain ⟨d, d1, d2, d3, d4⟩ := D.2 i hi hx
  refine ⟨d, d1, d2, d3, fun hlt => ?_⟩
  by_cases e : i = j
  · subst e
    rcases Nat.lt_or_ge ck d with q | q
    · exact q
    · rw [if_pos ⟨hx, by rw [d2, D.1, show d = ck by omega]⟩, pk_us] at h
      exact absurd h (by decide)
  · exact d4 (by omega)
theorem late_all {x z : Nat → Nat → Int32} {r : Nat → Nat → Option Nat} {q : Nat → Nat → Int32} {ck : Nat} (V : MV x) (P : KP x z) (Q : KQ x r q) (h31 : ck < 2 ^ 31) (D : KD x ck 0) : ∀ j, j ≤ 48 → KP (mLate x j) (nLt (cLt (z, r, q) (j / 4)) (j / 4) (j % 4)).1 ∧ KQ (mLate x j) (nLt (cLt (z, r, q) (j / 4)) (j / 4) (j % 4)).2.1 (nLt (cLt (z, r, q) (j / 4)) (j / 4) (j % 4)).2.2 ∧ MV (mLate x j) ∧ KD (mLate x j) ck j := by
  intro j
  induction j with
  | zero => intro _; exact ⟨P, Q, V, D⟩
  | succ j ih =>
    intro hj
    obtain ⟨h1, h2, h3, h4⟩ := ih (by omega)
    rw [mLate_s]
    have hs : nLt (cLt (z, r, q) ((j + 1) / 4)) ((j + 1) / 4) ((j + 1) % 4) = lt1 (nLt (cLt (z, r, q) (j / 4)) (j / 4) (j % 4)) (j / 4) (j % 4) := by
      by_cases e : j % 4 = 3
      · rw [show (j + 1) / 4 = j / 4 + 1 by omega, show (j + 1) % 4 = 0 by omega, e]; rfl
      · rw [show (j + 1) / 4 = j / 4 by omega, show (j + 1) % 4 = j % 4 + 1 by omega]; rfl
    rw [hs]
    have h5 := late_K h3 h1 h2 (j := j) (by omega) h4.1 h31 (fun hw => by
      obtain ⟨d, d1, d2, d3, _⟩ := h4.2 j (by omega) hw
      exact ⟨d, d1, d2, d3⟩)
    exact ⟨h5.1, h5.2.1, h5.2.2, h4.step h31⟩
theorem mLate_ne {x : Nat → Nat → Int32} {k : Nat} (h : k ≠ 20) (h2 : ¬ (30 ≤ k ∧ k ≤ 35)) : ∀ j, mLate x j k = x k := by
  intro j
  induction j with
  | zero => rfl
  | succ j ih => rw [mLate_s, mLt1_ne h h2]; exact ih
