/-! a bus is cleaned: its labels' requests end, its queues are empty -/
def rSt (r : Nat → Nat → Option Nat) (q : Nat → Nat → Int32) (i : Nat) : Nat → (Nat → Nat → Int32)
  | 0 => q
  | k + 1 => match r (12 + i) k with
    | none => rSt r q i k
    | some a => rEnd (rSt r q i k) a (nI 1)
def rBs (r : Nat → Nat → Option Nat) (q : Nat → Nat → Int32) (c : Nat → Bool) : Nat → (Nat → Nat → Int32)
  | 0 => q
  | k + 1 => bif c k then rSt r (rBs r q c k) k 4 else rBs r q c k
def rEm (r : Nat → Nat → Option Nat) (c : Nat → Bool) (n : Nat) : Nat → Nat → Option Nat := fun k => if k < n ∧ c k = true then qEmp 6 (r k) else r k
/-- these labels' requests are ended -/
abbrev Ed (r : Nat → Nat → Option Nat) (q : Nat → Nat → Int32) (M : Nat → Prop) (q' : Nat → Nat → Int32) : Prop :=
  (∀ a k, k ≠ 6 → q' a k = q a k) ∧
  (∀ a j, M j → lbl r j = some a → q a 6 = -1 → q' a 6 = nI 1) ∧
  (∀ a, (∀ j, M j → lbl r j ≠ some a) → q' a 6 = q a 6) ∧
  (∀ a, ¬ q a 6 = -1 → q' a 6 = q a 6)
theorem Ed.f {r : Nat → Nat → Option Nat} {q : Nat → Nat → Int32} {M : Nat → Prop} {q' : Nat → Nat → Int32} (h : Ed r q M q') : ∀ a k, k ≠ 6 → q' a k = q a k := h.1
theorem Ed.t {r : Nat → Nat → Option Nat} {q : Nat → Nat → Int32} {M : Nat → Prop} {q' : Nat → Nat → Int32} (h : Ed r q M q') : ∀ a j, M j → lbl r j = some a → q a 6 = -1 → q' a 6 = nI 1 := h.2.1
theorem Ed.n {r : Nat → Nat → Option Nat} {q : Nat → Nat → Int32} {M : Nat → Prop} {q' : Nat → Nat → Int32} (h : Ed r q M q') : ∀ a, (∀ j, M j → lbl r j ≠ some a) → q' a 6 = q a 6 := h.2.2.1
theorem Ed.w {r : Nat → Nat → Option Nat} {q : Nat → Nat → Int32} {M : Nat → Prop} {q' : Nat → Nat → Int32} (h : Ed r q M q') : ∀ a, ¬ q a 6 = -1 → q' a 6 = q a 6 := h.2.2.2
theorem Ed.one {r : Nat → Nat → Option Nat} {q q' : Nat → Nat → Int32} {M : Nat → Prop} (E : Ed r q M q') {j b : Nat} (h : lbl r j = some b) : Ed r q (fun i => M i ∨ i = j) (rEnd q' b (nI 1)) := by
  have e1 : ∀ a, a ≠ b → rEnd q' b (nI 1) a = q' a := by
    intro a ha
    unfold rEnd
    split
    · exact ur_ne ha
    · rfl
  have e2 : ∀ k, k ≠ 6 → rEnd q' b (nI 1) b k = q' b k := by
    intro k hk
    unfold rEnd
    split
    · rw [ur_eq]; exact pk_un hk
    · rfl
  have e3 : q' b 6 = -1 → rEnd q' b (nI 1) b 6 = nI 1 := by
    intro hq
    unfold rEnd
    rw [if_pos hq, ur_eq]; exact pk_us
  have e4 : ¬ q' b 6 = -1 → rEnd q' b (nI 1) b 6 = q' b 6 := by
    intro hq
    unfold rEnd
    rw [if_neg hq]
  have t1 : q b 6 = -1 → rEnd q' b (nI 1) b 6 = nI 1 := by
    intro hq
    by_cases hq' : q' b 6 = -1
    · exact e3 hq'
    · rw [e4 hq']
      by_cases hm : ∀ j, M j → lbl r j ≠ some b
      · exact absurd ((E.n b hm).trans hq) hq'
      · refine Classical.byContradiction (fun z => hm (fun i hi h => z (E.t b i hi h hq)))
  refine ⟨fun a k hk => ?_, fun a i hi hl hq => ?_, fun a ha => ?_, fun a ha => ?_⟩
  · by_cases e : a = b
    · rw [e, e2 k hk]; exact E.f b k hk
    · rw [e1 a e]; exact E.f a k hk
  · by_cases e : a = b
    · rw [e] at hq ⊢; exact t1 hq
    · rw [e1 a e]
      rcases hi with hi | hi
      · exact E.t a i hi hl hq
      · rw [hi, h] at hl; exact absurd (Option.some.inj hl).symm e
  · by_cases e : a = b
    · rw [e] at ha; exact absurd h (ha j (Or.inr rfl))
    · rw [e1 a e]; exact E.n a (fun i hi => ha i (Or.inl hi))
  · by_cases e : a = b
    · rw [e] at ha ⊢
      rw [e4 (by rw [E.w b ha]; exact ha)]; exact E.w b ha
    · rw [e1 a e]; exact E.w a ha
theorem Ed.skp {r : Nat → Nat → Option Nat} {q q' : Nat → Nat → Int32} {M : Nat → Prop} (E : Ed r q M q') {j : Nat} (h : lbl r j = none) : Ed r q (fun i => M i ∨ i = j) q' :=
  ⟨E.f, fun a i hi hl hq => hi.elim (fun hi => E.t a i hi hl hq) (fun hi => by rw [hi, h] at hl; cases hl), fun a ha => E.n a (fun i hi => ha i (Or.inl hi)), E.w⟩
theorem Ed.cg {r : Nat → Nat → Option Nat} {q q' : Nat → Nat → Int32} {M N : Nat → Prop} (E : Ed r q M q') (h : ∀ j, M j ↔ N j) : Ed r q N q' :=
  ⟨E.f, fun a j hj => E.t a j ((h j).mpr hj), fun a ha => E.n a (fun j hj => ha j ((h j).mp hj)), E.w⟩
theorem Ed.st {r : Nat → Nat → Option Nat} {q q' : Nat → Nat → Int32} {M : Nat → Prop} (E : Ed r q M q') (i : Nat) : ∀ k, k ≤ 4 → Ed r q (fun j => M j ∨ (4 * i ≤ j ∧ j < 4 * i + k)) (rSt r q' i k) := by
  intro k
  induction k with
  | zero => intro _; exact E.cg (fun j => ⟨Or.inl, fun h => h.elim id (fun h => by omega)⟩)
  | succ k ih =>
    intro hk
    have h1 := ih (by omega)
    have el : lbl r (4 * i + k) = r (12 + i) k := by
      show r (12 + (4 * i + k) / 4) ((4 * i + k) % 4) = _
      rw [show (4 * i + k) / 4 = i by omega, show (4 * i + k) % 4 = k by omega]
    show Ed r q _ (match r (12 + i) k with | none => rSt r q' i k | some a => rEnd (rSt r q' i k) a (nI 1))
    have hc : ∀ j, ((M j ∨ (4 * i ≤ j ∧ j < 4 * i + k)) ∨ j = 4 * i + k) ↔ (M j ∨ (4 * i ≤ j ∧ j < 4 * i + (k + 1))) := by
      intro j
      constructor
      · rintro ((h | h) | h)
        · exact Or.inl h
        · right; omega
        · right; omega
      · rintro (h | h)
        · exact Or.inl (Or.inl h)
        · by_cases e : j = 4 * i + k
          · exact Or.inr e
          · left; right; omega
    cases e : r (12 + i) k with
    | none => exact (h1.skp (el.trans e)).cg hc
    | some a => exact (h1.one (el.trans e)).cg hc
theorem Ed.bs {r : Nat → Nat → Option Nat} {q : Nat → Nat → Int32} {c : Nat → Bool} : ∀ n, Ed r q (fun j => j < 4 * n ∧ c (j / 4) = true) (rBs r q c n) := by
  intro n
  induction n with
  | zero => exact ⟨fun _ _ _ => rfl, fun a j hj => absurd hj.1 (by omega), fun _ _ => rfl, fun _ _ => rfl⟩
  | succ n ih =>
    show Ed r q _ (bif c n then rSt r (rBs r q c n) n 4 else rBs r q c n)
    cases e : c n with
    | true =>
      refine (ih.st n 4 (Nat.le_refl _)).cg (fun j => ⟨?_, fun ⟨h1, h2⟩ => ?_⟩)
      · rintro (⟨h1, h2⟩ | ⟨h1, h2⟩)
        · exact ⟨by omega, h2⟩
        · exact ⟨by omega, by rw [show j / 4 = n by omega]; exact e⟩
      · by_cases h3 : j < 4 * n
        · exact Or.inl ⟨h3, h2⟩
        · right; omega
    | false =>
      refine ih.cg (fun j => ⟨fun ⟨h1, h2⟩ => ⟨by omega, h2⟩, fun ⟨h1, h2⟩ => ⟨?_, h2⟩⟩)
      refine Classical.byContradiction (fun h3 => ?_)
      rw [show j / 4 = n by omega, e] at h2
      cases h2
theorem KQ.clean {x y : Nat → Nat → Int32} {r : Nat → Nat → Option Nat} {q : Nat → Nat → Int32} (K : KQ x r q) {c c' : Nat → Bool} (hc : ∀ a, a < 12 → c' a = c a) (y20 : y 20 = ov c 4 (fun i => if x 20 i = -1 then nI 1 else x 20 i) (x 20)) (y35 : y 35 = ov c 1 (fun _ => nI 0) (x 35)) (yo : ∀ j, 21 ≤ j → j ≤ 34 → y j = x j) : KQ y (rEm r c' 12) (rBs r q c' 12) := by
  have E := Ed.bs (r := r) (q := q) (c := c') 12
  have hl : ∀ j, lbl (rEm r c' 12) j = lbl r j := fun j => congrFun (if_neg (by omega)) _
  have yt : ∀ j, c (j / 4) = true → y 20 j = if x 20 j = -1 then nI 1 else x 20 j := fun j h => by rw [y20]; unfold ov; rw [h]; rfl
  have yf : ∀ j, c (j / 4) = false → y 20 j = x 20 j := fun j h => by rw [y20]; unfold ov; rw [h]; rfl
  have w1 : ∀ j, y 20 j = -1 → c (j / 4) = false ∧ x 20 j = -1 := by
    intro j h
    cases e : c (j / 4) with
    | true =>
      rw [yt j e] at h
      split at h
      · exact absurd h (by decide)
      · rename_i h2; exact absurd h h2
    | false => rw [yf j e] at h; exact ⟨rfl, h⟩
  have s35 : ∀ i k, i < 12 → k < cl (y 35 i) → c i = false ∧ k < cl (x 35 i) ∧ rEm r c' 12 i = r i := by
    intro i k hi hk
    rw [y35] at hk
    unfold ov at hk
    rw [Nat.div_one] at hk
    cases e : c i with
    | true => rw [e] at hk; exact absurd hk (by show ¬ k < cl (nI 0); rw [cl_nI (by decide)]; omega)
    | false =>
      rw [e] at hk
      refine ⟨rfl, hk, ?_⟩
      unfold rEm
      rw [if_neg (fun z => by rw [hc i hi, e] at z; cases z.2)]
  have e21 := yo 21 (by decide) (by decide)
  have e22 := yo 22 (by decide) (by decide)
  have e23 := yo 23 (by decide) (by decide)
  have e24 := yo 24 (by decide) (by decide)
  have e25 := yo 25 (by decide) (by decide)
  have e26 := yo 26 (by decide) (by decide)
  have e27 := yo 27 (by decide) (by decide)
  have e28 := yo 28 (by decide) (by decide)
  have e29 := yo 29 (by decide) (by decide)
  have e30 := yo 30 (by decide) (by decide)
  have e31 := yo 31 (by decide) (by decide)
  have e32 := yo 32 (by decide) (by decide)
  have e33 := yo 33 (by decide) (by decide)
  have e34 := yo 34 (by decide) (by decide)
  have q6f : ∀ j a, j < 48 → lbl r j = some a → c (j / 4) = false → rBs r q c' 12 a 6 = q a 6 := by
    intro j a hj h hcf
    refine E.n a (fun i hi h' => ?_)
    have := K.li i j a (by omega) hj h' h
    rw [this, hc _ (by omega), hcf] at hi
    cases hi.2
  refine ⟨?_, ?_, ?_, ?_, ?_, ?_, ?_, ?_, ?_, ?_, ?_⟩
  · intro j hj h
    rw [hl] at h
    have h1 := K.l0 j hj h
    cases e : c (j / 4) with
    | true => rw [yt j e, h1]; rfl
    | false => rw [yf j e]; exact h1
  · intro j a hj h
    rw [hl] at h
    have h1 := K.l1 j a hj h
    cases e : c (j / 4) with
    | true =>
      rw [yt j e]
      by_cases h2 : x 20 j = -1
      · rw [if_pos h2, E.t a j ⟨by omega, by rw [hc _ (by omega)]; exact e⟩ h (h1.1.trans h2)]
        exact ⟨rfl, by decide⟩
      · rw [if_neg h2, E.w a (fun z => h2 (h1.1.symm.trans z))]
        exact h1
    | false => rw [yf j e, q6f j a hj h e]; exact h1
  · intro j a hj h hz
    rw [hl] at h
    rw [E.f a 9 (by decide), e26]
    refine K.l2 j a hj h ?_
    cases e : c (j / 4) with
    | true =>
      rw [yt j e] at hz
      split at hz
      · exact absurd hz (by decide)
      · exact hz
    | false => rw [yf j e] at hz; exact hz
  · intro j a hj h hz
    rw [hl] at h
    rw [E.f a 0 (by decide), E.f a 1 (by decide), E.f a 2 (by decide), E.f a 3 (by decide), E.f a 4 (by decide), E.f a 5 (by decide), e21, e22, e23, e24, e25, e27]
    exact K.l3 j a hj h (w1 j hz).2
  · intro j j' a hj hj' h h'
    rw [hl] at h h'
    exact K.li j j' a hj hj' h h'
  · intro i k hi hk
    obtain ⟨h1, h2, h3⟩ := s35 i k hi hk
    obtain ⟨a, g1, g2⟩ := K.p0 i k hi h2
    exact ⟨a, by rw [h3]; exact g1, by rw [E.f a 8 (by decide), e34]; exact g2⟩
  · intro i k a hi hk h hz
    obtain ⟨h1, h2, h3⟩ := s35 i k hi hk
    rw [h3] at h
    rw [e34] at hz
    obtain ⟨j, g1, g2, g3, g4, g5, g6, n, g7, g8⟩ := K.p1 i k a hi h2 h hz
    refine ⟨j, g1, by rw [e30]; exact g2, by rw [yf j (by rw [g1]; exact h1)]; exact g3, by rw [hl]; exact g4, by rw [e31, e28]; exact g5, by rw [e32, E.f a 7 (by decide)]; exact g6, n, g7, by rw [E.f a 7 (by decide)]; exact g8⟩
  · intro i k a hi hk h hz
    obtain ⟨h1, h2, h3⟩ := s35 i k hi hk
    rw [h3] at h
    rw [e34] at hz
    obtain ⟨g1, j, g2, g3, g4, g5⟩ := K.p2 i k a hi h2 h hz
    refine ⟨by rw [E.f a 9 (by decide), e33]; exact g1, j, g2, by rw [e30]; exact g3, fun z => ?_, fun z1 z2 => ?_⟩
    · have hq : q a 6 = -1 := by
        refine Classical.byContradiction (fun hq => ?_)
        rw [E.w a hq] at z
        exact hq z
      obtain ⟨f1, f2, f3⟩ := g4 hq
      have hcf : c (j / 4) = false := by
        cases e : c (j / 4) with
        | false => rfl
        | true =>
          rw [E.t a j ⟨by omega, by rw [hc _ (by omega)]; exact e⟩ f3 hq] at z
          exact absurd z (by decide)
      exact ⟨by rw [yf j hcf]; exact f1, by rw [e28, e31]; exact f2, by rw [hl]; exact f3⟩
    · rw [e28, e31] at z2
      rw [hl]
      exact g5 (w1 j z1).2 z2
  · intro i k i' k' a h1 hk1 h2 hk2 q1 q2
    obtain ⟨f1, f2, f3⟩ := s35 i k h1 hk1
    obtain ⟨g1, g2, g3⟩ := s35 i' k' h2 hk2
    rw [f3] at q1
    rw [g3] at q2
    exact K.pi i k i' k' a h1 f2 h2 g2 q1 q2
  · obtain ⟨sn, g1, g2, g3, g4⟩ := K.s0
    refine ⟨sn, by rw [e29]; exact g1, g2, fun j hj h => ?_, fun i k hi hk => ?_⟩
    · rw [e28]; exact g3 j hj (w1 j h).2
    · rw [e31]; exact g4 i k hi (s35 i k hi hk).2.1
  · intro j j' hj hj' h h' h2
    rw [e28] at h2
    exact K.s1 j j' hj hj' (w1 j h).2 (w1 j' h').2 h2
