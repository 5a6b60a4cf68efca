/-! requests: the class's objects against the model's labels and packets -/
abbrev lbl (r : Nat → Nat → Option Nat) (j : Nat) : Option Nat := r (12 + j / 4) (j % 4)
abbrev KQ (x : Nat → Nat → Int32) (r : Nat → Nat → Option Nat) (q : Nat → Nat → Int32) : Prop :=
  (∀ j, j < 48 → lbl r j = none → x 20 j = -2) ∧
  (∀ j a, j < 48 → lbl r j = some a → q a 6 = x 20 j ∧ ¬ x 20 j = -2) ∧
  (∀ j a, j < 48 → lbl r j = some a → x 20 j = 0 → q a 9 = x 26 j) ∧
  (∀ j a, j < 48 → lbl r j = some a → x 20 j = -1 → q a 0 = x 21 j ∧ q a 1 = x 22 j ∧ q a 2 = x 23 j ∧ q a 3 = x 24 j ∧ q a 4 = x 25 j ∧ q a 5 = x 27 j) ∧
  (∀ j j' a, j < 48 → j' < 48 → lbl r j = some a → lbl r j' = some a → j = j') ∧
  (∀ i k, i < 12 → k < cl (x 35 i) → ∃ a, r i k = some a ∧ q a 8 = x 34 (6 * i + k)) ∧
  (∀ i k a, i < 12 → k < cl (x 35 i) → r i k = some a → x 34 (6 * i + k) = 0 → ∃ j, j / 4 = i ∧ x 30 (6 * i + k) = nI j ∧ x 20 j = -1 ∧ lbl r j = some a ∧ x 31 (6 * i + k) = x 28 j ∧ x 32 (6 * i + k) = q a 7 ∧ ∃ n, n < 4 ∧ q a 7 = nI n) ∧
  (∀ i k a, i < 12 → k < cl (x 35 i) → r i k = some a → ¬ x 34 (6 * i + k) = 0 → q a 9 = x 33 (6 * i + k) ∧ ∃ j, j < 48 ∧ x 30 (6 * i + k) = nI j ∧ (q a 6 = -1 → x 20 j = -1 ∧ x 28 j = x 31 (6 * i + k) ∧ lbl r j = some a) ∧ (x 20 j = -1 → x 28 j = x 31 (6 * i + k) → lbl r j = some a)) ∧
  (∀ i k i' k' a, i < 12 → k < cl (x 35 i) → i' < 12 → k' < cl (x 35 i') → r i k = some a → r i' k' = some a → i = i' ∧ k = k') ∧
  (∃ sn, x 29 0 = nI sn ∧ sn < 2 ^ 31 ∧ (∀ j, j < 48 → x 20 j = -1 → ∃ s, s ≤ sn ∧ x 28 j = nI s) ∧ ∀ i k, i < 12 → k < cl (x 35 i) → ∃ s, s ≤ sn ∧ x 31 (6 * i + k) = nI s) ∧
  (∀ j j', j < 48 → j' < 48 → x 20 j = -1 → x 20 j' = -1 → x 28 j = x 28 j' → j = j')
theorem KQ.l0 {x : Nat → Nat → Int32} {r : Nat → Nat → Option Nat} {q : Nat → Nat → Int32} (h : KQ x r q) : ∀ j, j < 48 → lbl r j = none → x 20 j = -2 := h.1
theorem KQ.l1 {x : Nat → Nat → Int32} {r : Nat → Nat → Option Nat} {q : Nat → Nat → Int32} (h : KQ x r q) : ∀ j a, j < 48 → lbl r j = some a → q a 6 = x 20 j ∧ ¬ x 20 j = -2 := h.2.1
theorem KQ.l2 {x : Nat → Nat → Int32} {r : Nat → Nat → Option Nat} {q : Nat → Nat → Int32} (h : KQ x r q) : ∀ j a, j < 48 → lbl r j = some a → x 20 j = 0 → q a 9 = x 26 j := h.2.2.1
theorem KQ.l3 {x : Nat → Nat → Int32} {r : Nat → Nat → Option Nat} {q : Nat → Nat → Int32} (h : KQ x r q) : ∀ j a, j < 48 → lbl r j = some a → x 20 j = -1 → q a 0 = x 21 j ∧ q a 1 = x 22 j ∧ q a 2 = x 23 j ∧ q a 3 = x 24 j ∧ q a 4 = x 25 j ∧ q a 5 = x 27 j := h.2.2.2.1
theorem KQ.li {x : Nat → Nat → Int32} {r : Nat → Nat → Option Nat} {q : Nat → Nat → Int32} (h : KQ x r q) : ∀ j j' a, j < 48 → j' < 48 → lbl r j = some a → lbl r j' = some a → j = j' := h.2.2.2.2.1
theorem KQ.p0 {x : Nat → Nat → Int32} {r : Nat → Nat → Option Nat} {q : Nat → Nat → Int32} (h : KQ x r q) : ∀ i k, i < 12 → k < cl (x 35 i) → ∃ a, r i k = some a ∧ q a 8 = x 34 (6 * i + k) := h.2.2.2.2.2.1
theorem KQ.p1 {x : Nat → Nat → Int32} {r : Nat → Nat → Option Nat} {q : Nat → Nat → Int32} (h : KQ x r q) : ∀ i k a, i < 12 → k < cl (x 35 i) → r i k = some a → x 34 (6 * i + k) = 0 → ∃ j, j / 4 = i ∧ x 30 (6 * i + k) = nI j ∧ x 20 j = -1 ∧ lbl r j = some a ∧ x 31 (6 * i + k) = x 28 j ∧ x 32 (6 * i + k) = q a 7 ∧ ∃ n, n < 4 ∧ q a 7 = nI n := h.2.2.2.2.2.2.1
theorem KQ.p2 {x : Nat → Nat → Int32} {r : Nat → Nat → Option Nat} {q : Nat → Nat → Int32} (h : KQ x r q) : ∀ i k a, i < 12 → k < cl (x 35 i) → r i k = some a → ¬ x 34 (6 * i + k) = 0 → q a 9 = x 33 (6 * i + k) ∧ ∃ j, j < 48 ∧ x 30 (6 * i + k) = nI j ∧ (q a 6 = -1 → x 20 j = -1 ∧ x 28 j = x 31 (6 * i + k) ∧ lbl r j = some a) ∧ (x 20 j = -1 → x 28 j = x 31 (6 * i + k) → lbl r j = some a) := h.2.2.2.2.2.2.2.1
theorem KQ.pi {x : Nat → Nat → Int32} {r : Nat → Nat → Option Nat} {q : Nat → Nat → Int32} (h : KQ x r q) : ∀ i k i' k' a, i < 12 → k < cl (x 35 i) → i' < 12 → k' < cl (x 35 i') → r i k = some a → r i' k' = some a → i = i' ∧ k = k' := h.2.2.2.2.2.2.2.2.1
theorem KQ.s0 {x : Nat → Nat → Int32} {r : Nat → Nat → Option Nat} {q : Nat → Nat → Int32} (h : KQ x r q) : ∃ sn, x 29 0 = nI sn ∧ sn < 2 ^ 31 ∧ (∀ j, j < 48 → x 20 j = -1 → ∃ s, s ≤ sn ∧ x 28 j = nI s) ∧ ∀ i k, i < 12 → k < cl (x 35 i) → ∃ s, s ≤ sn ∧ x 31 (6 * i + k) = nI s := h.2.2.2.2.2.2.2.2.2.1
theorem KQ.s1 {x : Nat → Nat → Int32} {r : Nat → Nat → Option Nat} {q : Nat → Nat → Int32} (h : KQ x r q) : ∀ j j', j < 48 → j' < 48 → x 20 j = -1 → x 20 j' = -1 → x 28 j = x 28 j' → j = j' := h.2.2.2.2.2.2.2.2.2.2
theorem KQ.cg {x y : Nat → Nat → Int32} {r : Nat → Nat → Option Nat} {q : Nat → Nat → Int32} (h : ∀ j, 20 ≤ j → j ≤ 35 → y j = x j) (K : KQ x r q) : KQ y r q := by
  have e20 := h 20 (by decide) (by decide)
  have e21 := h 21 (by decide) (by decide)
  have e22 := h 22 (by decide) (by decide)
  have e23 := h 23 (by decide) (by decide)
  have e24 := h 24 (by decide) (by decide)
  have e25 := h 25 (by decide) (by decide)
  have e26 := h 26 (by decide) (by decide)
  have e27 := h 27 (by decide) (by decide)
  have e28 := h 28 (by decide) (by decide)
  have e29 := h 29 (by decide) (by decide)
  have e30 := h 30 (by decide) (by decide)
  have e31 := h 31 (by decide) (by decide)
  have e32 := h 32 (by decide) (by decide)
  have e33 := h 33 (by decide) (by decide)
  have e34 := h 34 (by decide) (by decide)
  have e35 := h 35 (by decide) (by decide)
  obtain ⟨k1, k2, k3, k4, k5, k6, k7, k8, k9, k10, k11⟩ := K
  refine ⟨?_, ?_, ?_, ?_, ?_, ?_, ?_, ?_, ?_, ?_, ?_⟩ <;> first | assumption | (simp only [e20, e21, e22, e23, e24, e25, e26, e27, e28, e29, e30, e31, e32, e33, e34, e35]; assumption)
/-- a packet taken out -/
theorem qRem_at {f : Nat → Option Nat} {pl sz k : Nat} (h : k < sz - 1) : qRem f pl sz k = f (if pl ≤ k then k + 1 else k) := by
  unfold qRem va_up
  rw [if_neg (by omega)]
  unfold qSh
  by_cases e : pl ≤ k
  · rw [if_pos ⟨e, h⟩, if_pos e]
  · rw [if_neg (fun z => e z.1), if_neg e]
theorem take_at {x : Nat → Nat → Int32} {i pl sz j i' k : Nat} (hj : 30 ≤ j ∧ j ≤ 34) (hz : sz ≤ 6) (hk : i' = i → k < sz - 1) (hk6 : k < 6) : mTake x i pl sz j (6 * i' + k) = x j (6 * i' + (if i' = i ∧ pl ≤ k then k + 1 else k)) := by
  unfold mTake mSh
  rw [if_pos hj]
  have e : ur x 35 (upd (x 35) i (nI (sz - 1))) j = x j := ur_ne (by omega)
  rw [e]
  unfold shR
  by_cases e1 : i' = i
  · have := hk e1
    by_cases e2 : pl ≤ k
    · rw [if_pos (by omega), if_pos ⟨e1, e2⟩]; rfl
    · rw [if_neg (by omega), if_neg (fun z => e2 z.2)]
  · rw [if_neg (by omega), if_neg (fun z => e1 z.1)]
theorem KQ.take {x : Nat → Nat → Int32} {r : Nat → Nat → Option Nat} {q : Nat → Nat → Int32} (V : MV x) (K : KQ x r q) {i pl sz : Nat} (hi : i < 12) (hs : x 35 i = nI sz) (h6 : sz ≤ 6) (hpl : pl < sz) : KQ (mTake x i pl sz) (ur r i (qRem (r i) pl sz)) q ∧ ∀ i' k a, i' < 12 → k < cl (mTake x i pl sz 35 i') → r i pl = some a → ur r i (qRem (r i) pl sz) i' k ≠ some a := by
  have hcs : cl (x 35 i) = sz := by rw [hs]; exact cl_nI (by omega)
  have hsz : ∀ i', i' < 12 → ∀ k, k < cl (mTake x i pl sz 35 i') → (i' = i → k < sz - 1) ∧ k < 6 ∧ (if i' = i ∧ pl ≤ k then k + 1 else k) < cl (x 35 i') := by
    intro i' hi' k hk
    rw [mTake_35] at hk
    unfold upd at hk
    by_cases e : i' = i
    · rw [if_pos e, cl_nI (by omega)] at hk
      refine ⟨fun _ => hk, by omega, ?_⟩
      rw [e, hcs]
      split <;> omega
    · rw [if_neg e] at hk
      obtain ⟨s', h1, h2⟩ := V.1 i' hi'
      rw [h2, cl_nI (by omega)] at hk
      refine ⟨fun z => absurd z e, by omega, ?_⟩
      rw [if_neg (fun z => e z.1), h2, cl_nI (by omega)]
      exact hk
  have hr : ∀ i' k, i' < 12 → k < cl (mTake x i pl sz 35 i') → ur r i (qRem (r i) pl sz) i' k = r i' (if i' = i ∧ pl ≤ k then k + 1 else k) := by
    intro i' k hi' hk
    obtain ⟨h1, h2, h3⟩ := hsz i' hi' k hk
    by_cases e : i' = i
    · rw [e, ur_eq, qRem_at (h1 e)]
      by_cases e2 : pl ≤ k
      · rw [if_pos e2, if_pos ⟨rfl, e2⟩]
      · rw [if_neg e2, if_neg (fun z => e2 z.2)]
    · rw [ur_ne e, if_neg (fun z => e z.1)]
  have hl : ∀ j, lbl (ur r i (qRem (r i) pl sz)) j = lbl r j := fun j => congrFun (ur_ne (by omega)) _
  have hx : ∀ j, ¬ (30 ≤ j ∧ j ≤ 35) → mTake x i pl sz j = x j := fun j h => mTake_ne h
  have e20 := hx 20 (by omega)
  have e21 := hx 21 (by omega)
  have e22 := hx 22 (by omega)
  have e23 := hx 23 (by omega)
  have e24 := hx 24 (by omega)
  have e25 := hx 25 (by omega)
  have e26 := hx 26 (by omega)
  have e27 := hx 27 (by omega)
  have e28 := hx 28 (by omega)
  have e29 := hx 29 (by omega)
  refine ⟨⟨?_, ?_, ?_, ?_, ?_, ?_, ?_, ?_, ?_, ?_, ?_⟩, ?_⟩
  · intro j hj h; rw [hl] at h; rw [e20]; exact K.l0 j hj h
  · intro j a hj h; rw [hl] at h; rw [e20]; exact K.l1 j a hj h
  · intro j a hj h; rw [hl] at h; rw [e20, e26]; exact K.l2 j a hj h
  · intro j a hj h; rw [hl] at h; rw [e20, e21, e22, e23, e24, e25, e27]; exact K.l3 j a hj h
  · intro j j' a hj hj' h h'; rw [hl] at h h'; exact K.li j j' a hj hj' h h'
  · intro i' k hi' hk
    obtain ⟨h1, h2, h3⟩ := hsz i' hi' k hk
    rw [hr i' k hi' hk, take_at (by omega) h6 h1 h2]
    exact K.p0 i' _ hi' h3
  · intro i' k a hi' hk h hz
    obtain ⟨h1, h2, h3⟩ := hsz i' hi' k hk
    rw [hr i' k hi' hk] at h
    rw [take_at (by omega) h6 h1 h2] at hz
    obtain ⟨j, g1, g2, g3, g4, g5, g6⟩ := K.p1 i' _ a hi' h3 h hz
    refine ⟨j, g1, ?_, by rw [e20]; exact g3, by rw [hl]; exact g4, ?_, ?_⟩
    · rw [take_at (by omega) h6 h1 h2]; exact g2
    · rw [take_at (by omega) h6 h1 h2, e28]; exact g5
    · rw [take_at (by omega) h6 h1 h2]; exact g6
  · intro i' k a hi' hk h hz
    obtain ⟨h1, h2, h3⟩ := hsz i' hi' k hk
    rw [hr i' k hi' hk] at h
    rw [take_at (by omega) h6 h1 h2] at hz
    obtain ⟨g1, j, g2, g3, g4, g5⟩ := K.p2 i' _ a hi' h3 h hz
    refine ⟨by rw [take_at (by omega) h6 h1 h2]; exact g1, j, g2, by rw [take_at (by omega) h6 h1 h2]; exact g3, fun z => ?_, fun z1 z2 => ?_⟩
    · rw [e20, e28, take_at (by omega) h6 h1 h2, hl]; exact g4 z
    · rw [e20] at z1
      rw [e28, take_at (by omega) h6 h1 h2] at z2
      rw [hl]; exact g5 z1 z2
  · intro i1 k1 i2 k2 a h1 hk1 h2 hk2 q1 q2
    rw [hr i1 k1 h1 hk1] at q1
    rw [hr i2 k2 h2 hk2] at q2
    obtain ⟨g1, g2⟩ := K.pi i1 _ i2 _ a h1 (hsz i1 h1 k1 hk1).2.2 h2 (hsz i2 h2 k2 hk2).2.2 q1 q2
    refine ⟨g1, ?_⟩
    subst g1
    by_cases e : i1 = i
    · simp only [e, true_and] at g2
      split at g2 <;> split at g2 <;> omega
    · rw [if_neg (fun z => e z.1), if_neg (fun z => e z.1)] at g2
      exact g2
  · obtain ⟨sn, g1, g2, g3, g4⟩ := K.s0
    refine ⟨sn, by rw [e29]; exact g1, g2, fun j hj h => ?_, fun i' k hi' hk => ?_⟩
    · rw [e20] at h; rw [e28]; exact g3 j hj h
    · obtain ⟨h1, h2, h3⟩ := hsz i' hi' k hk
      rw [take_at (by omega) h6 h1 h2]
      exact g4 i' _ hi' h3
  · intro j j' hj hj' h h' h2
    rw [e20] at h h'
    rw [e28] at h2
    exact K.s1 j j' hj hj' h h' h2
  · intro i' k a hi' hk ha z
    rw [hr i' k hi' hk] at z
    obtain ⟨h1, h2, h3⟩ := hsz i' hi' k hk
    obtain ⟨g1, g2⟩ := K.pi i pl i' _ a hi (by rw [hcs]; exact hpl) hi' h3 ha z
    rw [← g1] at g2
    simp only [true_and] at g2
    split at g2 <;> omega
/-- no packet is this request's -/
def LsQ (x : Nat → Nat → Int32) (r : Nat → Nat → Option Nat) (a : Nat) : Prop := ∀ i k, i < 12 → k < cl (x 35 i) → r i k ≠ some a
/-- a request that stands in no queue but as an answer ends -/
theorem KQ.finA {x : Nat → Nat → Int32} {r : Nat → Nat → Option Nat} {q : Nat → Nat → Int32} (K : KQ x r q) {a j : Nat} (hj : j < 48) (ha : lbl r j = some a) (L : ∀ i k, i < 12 → k < cl (x 35 i) → r i k = some a → ¬ x 34 (6 * i + k) = 0) {v : Int32} (hv1 : ¬ v = -1) (hv2 : ¬ v = -2) {y : Nat → Nat → Int32} (hy : y = ur x 20 (upd (x 20) j v) ∧ ¬ v = 0 ∨ y = ur (ur x 20 (upd (x 20) j v)) 26 (upd (x 26) j (q a 9)) ∧ v = 0) : KQ y r (ur q a (upd (q a) 6 v)) := by
  have y20 : y 20 = upd (x 20) j v := by rcases hy with ⟨h, _⟩ | ⟨h, _⟩ <;> rw [h] <;> rfl
  have yo : ∀ m, m ≠ 20 → m ≠ 26 → y m = x m := by
    intro m h1 h2
    rcases hy with ⟨h, _⟩ | ⟨h, _⟩ <;> rw [h]
    · rw [ur_ne h1]
    · rw [ur_ne h2, ur_ne h1]
  have y26 : ∀ i, ¬ i = j → y 26 i = x 26 i := by
    intro i h1
    rcases hy with ⟨h, _⟩ | ⟨h, _⟩ <;> rw [h]
    · rfl
    · rw [ur_eq]; exact pk_un h1
  have e21 := yo 21 (by decide) (by decide)
  have e22 := yo 22 (by decide) (by decide)
  have e23 := yo 23 (by decide) (by decide)
  have e24 := yo 24 (by decide) (by decide)
  have e25 := yo 25 (by decide) (by decide)
  have e27 := yo 27 (by decide) (by decide)
  have e28 := yo 28 (by decide) (by decide)
  have e29 := yo 29 (by decide) (by decide)
  have e30 := yo 30 (by decide) (by decide)
  have e31 := yo 31 (by decide) (by decide)
  have e32 := yo 32 (by decide) (by decide)
  have e33 := yo 33 (by decide) (by decide)
  have e34 := yo 34 (by decide) (by decide)
  have e35 := yo 35 (by decide) (by decide)
  have qn : ∀ b, b ≠ a → ur q a (upd (q a) 6 v) b = q b := fun b h => ur_ne h
  have q6 : ur q a (upd (q a) 6 v) a 6 = v := by rw [ur_eq]; exact pk_us
  have qf : ∀ f, f ≠ 6 → ur q a (upd (q a) 6 v) a f = q a f := fun f h => by rw [ur_eq]; exact pk_un h
  have y20j : y 20 j = v := by rw [y20]; exact pk_us
  have y20n : ∀ i, ¬ i = j → y 20 i = x 20 i := fun i h => by rw [y20]; exact pk_un h
  have w1 : ∀ i, y 20 i = -1 → ¬ i = j ∧ x 20 i = -1 := by
    intro i h
    by_cases e : i = j
    · rw [e, y20j] at h; exact absurd h hv1
    · rw [y20n i e] at h; exact ⟨e, h⟩
  refine ⟨?_, ?_, ?_, ?_, ?_, ?_, ?_, ?_, ?_, ?_, ?_⟩
  · intro i hi h
    by_cases e : i = j
    · rw [e, ha] at h; cases h
    · rw [y20n i e]; exact K.l0 i hi h
  · intro i b hi h
    by_cases e : i = j
    · rw [e, ha] at h; cases h
      rw [e, q6, y20j]; exact ⟨rfl, hv2⟩
    · have hb : b ≠ a := fun z => e (K.li i j a hi hj (z ▸ h) ha)
      rw [qn b hb, y20n i e]; exact K.l1 i b hi h
  · intro i b hi h hz
    by_cases e : i = j
    · rw [e, ha] at h; cases h
      rw [e, y20j] at hz
      rcases hy with ⟨_, h9⟩ | ⟨h8, _⟩
      · exact absurd hz h9
      · rw [qf 9 (by decide), e, h8, ur_eq]; exact pk_us.symm
    · have hb : b ≠ a := fun z => e (K.li i j a hi hj (z ▸ h) ha)
      rw [y20n i e] at hz
      rw [qn b hb, y26 i e]; exact K.l2 i b hi h hz
  · intro i b hi h hz
    obtain ⟨e, h1⟩ := w1 i hz
    have hb : b ≠ a := fun z => e (K.li i j a hi hj (z ▸ h) ha)
    rw [qn b hb, e21, e22, e23, e24, e25, e27]; exact K.l3 i b hi h h1
  · exact K.li
  · intro i k hi hk
    rw [e35] at hk
    obtain ⟨b, h1, h2⟩ := K.p0 i k hi hk
    refine ⟨b, h1, ?_⟩
    rw [e34, ← h2]
    by_cases hb : b = a
    · rw [hb]; exact qf 8 (by decide)
    · rw [qn b hb]
  · intro i k b hi hk h hz
    rw [e35] at hk
    rw [e34] at hz
    have hb : b ≠ a := fun z => L i k hi hk (z ▸ h) hz
    obtain ⟨m, g1, g2, g3, g4, g5, g6⟩ := K.p1 i k b hi hk h hz
    have em : ¬ m = j := fun z => hb (by rw [z, ha] at g4; exact (Option.some.inj g4).symm)
    exact ⟨m, g1, by rw [e30]; exact g2, by rw [y20n m em]; exact g3, g4, by rw [e31, e28]; exact g5, by rw [e32, qn b hb]; exact g6⟩
  · intro i k b hi hk h hz
    rw [e35] at hk
    rw [e34] at hz
    obtain ⟨g1, m, g2, g3, g4, g5⟩ := K.p2 i k b hi hk h hz
    have g1' : ur q a (upd (q a) 6 v) b 9 = q b 9 := by
      by_cases hb : b = a
      · rw [hb]; exact qf 9 (by decide)
      · rw [qn b hb]
    refine ⟨by rw [g1', e33]; exact g1, m, g2, by rw [e30]; exact g3, fun z => ?_, fun z1 z2 => ?_⟩
    · have hb : b ≠ a := fun e => by rw [e, q6] at z; exact hv1 z
      rw [qn b hb] at z
      obtain ⟨f1, f2, f3⟩ := g4 z
      have em : ¬ m = j := fun z => hb (by rw [z, ha] at f3; exact (Option.some.inj f3).symm)
      exact ⟨by rw [y20n m em]; exact f1, by rw [e28, e31]; exact f2, f3⟩
    · rw [e28, e31] at z2
      exact g5 (w1 m z1).2 z2
  · intro i k i' k' b h1 h2 h3 h4
    rw [e35] at h2 h4
    exact K.pi i k i' k' b h1 h2 h3 h4
  · obtain ⟨sn, g1, g2, g3, g4⟩ := K.s0
    refine ⟨sn, by rw [e29]; exact g1, g2, fun i hi h => ?_, fun i k hi hk => ?_⟩
    · rw [e28]; exact g3 i hi (w1 i h).2
    · rw [e35] at hk; rw [e31]; exact g4 i k hi hk
  · intro i i' hi hi' h h' h2
    rw [e28] at h2
    exact K.s1 i i' hi hi' (w1 i h).2 (w1 i' h').2 h2
theorem KQ.fin {x : Nat → Nat → Int32} {r : Nat → Nat → Option Nat} {q : Nat → Nat → Int32} (K : KQ x r q) {a j : Nat} (hj : j < 48) (ha : lbl r j = some a) (L : LsQ x r a) {v : Int32} (hv1 : ¬ v = -1) (hv2 : ¬ v = -2) {y : Nat → Nat → Int32} (hy : y = ur x 20 (upd (x 20) j v) ∧ ¬ v = 0 ∨ y = ur (ur x 20 (upd (x 20) j v)) 26 (upd (x 26) j (q a 9)) ∧ v = 0) : KQ y r (ur q a (upd (q a) 6 v)) :=
  K.finA hj ha (fun i k hi hk h => absurd h (L i k hi hk)) hv1 hv2 hy
/-- a request that waits and is in no queue: its sendings and its answer may change -/
theorem KQ.qa {x : Nat → Nat → Int32} {r : Nat → Nat → Option Nat} {q : Nat → Nat → Int32} (K : KQ x r q) {a j : Nat} (hj : j < 48) (ha : lbl r j = some a) (hw : x 20 j = -1) (L : LsQ x r a) {f : Nat → Int32} (hf : ∀ i, i < 7 → f i = q a i) : KQ x r (ur q a f) := by
  have qn : ∀ b, b ≠ a → ur q a f b = q b := fun b h => ur_ne h
  have qf : ∀ i, i < 7 → ur q a f a i = q a i := fun i h => by rw [ur_eq]; exact hf i h
  refine ⟨K.l0, ?_, ?_, ?_, K.li, ?_, ?_, ?_, K.pi, K.s0, K.s1⟩
  · intro i b hi h
    by_cases e : b = a
    · rw [e] at h ⊢; rw [qf 6 (by decide)]; exact K.l1 i a hi h
    · rw [qn b e]; exact K.l1 i b hi h
  · intro i b hi h hz
    by_cases e : b = a
    · rw [e] at h
      rw [K.li i j a hi hj h ha, hw] at hz
      exact absurd hz (by decide)
    · rw [qn b e]; exact K.l2 i b hi h hz
  · intro i b hi h hz
    by_cases e : b = a
    · rw [e] at h ⊢
      rw [qf 0 (by decide), qf 1 (by decide), qf 2 (by decide), qf 3 (by decide), qf 4 (by decide), qf 5 (by decide)]
      exact K.l3 i a hi h hz
    · rw [qn b e]; exact K.l3 i b hi h hz
  · intro i k hi hk
    obtain ⟨b, h1, h2⟩ := K.p0 i k hi hk
    have hb : b ≠ a := fun z => L i k hi hk (z ▸ h1)
    exact ⟨b, h1, by rw [qn b hb]; exact h2⟩
  · intro i k b hi hk h hz
    have hb : b ≠ a := fun z => L i k hi hk (z ▸ h)
    rw [qn b hb]; exact K.p1 i k b hi hk h hz
  · intro i k b hi hk h hz
    have hb : b ≠ a := fun z => L i k hi hk (z ▸ h)
    rw [qn b hb]; exact K.p2 i k b hi hk h hz
