section Rst3
variable {ot : Nat → Option Nat} {x z : Nat → Nat → Int32} {b0 : Nat}
theorem mLn_r {y : Nat → Nat → Int32} {c : Nat → Bool} {tp ch : Int32} {tr : Bool} {j : Nat} (h16 : j ≠ 16) (h17 : j ≠ 17) (h12 : j ≠ 12) (h14 : j ≠ 14) : mLn y c tp ch tr j = y j := by
  unfold mLn
  rw [ur_ne h14, ur_ne h12, ur_ne h17, ur_ne h16]
theorem cLn_r {y : Nat → Nat → Int32} {c : Nat → Bool} {tp ch : Int32} {lp : Bool} {j : Nat} (h15 : j ≠ 15) (h16 : j ≠ 16) (h12 : j ≠ 12) (h14 : j ≠ 14) : cLn y c tp ch lp j = y j := by
  unfold cLn
  rw [ur_ne h14, ur_ne h16, ur_ne h15, ur_ne h12]
/-- the ends of both sides, when what they learn is the same -/
theorem RS.ln (H : RS ot x z b0) {y1 z1 : Nat → Nat → Int32} {tp ch : Int32} {tr : Bool} (hy : ∀ j, j ≠ 15 → y1 j = mLast ot (nI b0) x j) (hz : ∀ j, j ≠ 13 → z1 j = cRst ot z b0 j) (hn : ∀ a, a < 12 → z1 13 a = y1 15 a) : KP (mLn y1 (cB y1 (nI b0) 12) tp ch tr) (cLn z1 (cBz z1 (nI b0) 12) tp ch (!tr)) := by
  obtain ⟨E, -, h3, h4⟩ := H.last
  have hp := H.p0
  have e18 : y1 18 = x 18 := (hy 18 (by decide)).trans (h3 18 (by decide) (by decide) (by decide) (by decide))
  have ec : ∀ a, a < 12 → cBz z1 (nI b0) 12 a = cB y1 (nI b0) 12 a := by
    intro a ha
    show (decide (a < 12) && decide (z1 31 a = nI b0)) = (decide (a < 12) && decide (y1 18 a = nI b0))
    rw [hz 31 (by decide), h4 31 (by decide) (by decide) (by decide) (by decide), e18]
    have : cOpen ot (cCln z (cBz z (nI b0) 12)) (nI b0) 36 31 a = z 31 a := rfl
    rw [this, H.cb ha]
  have ein : ∀ a, a < 12 → cB y1 (nI b0) 12 a = false → ¬ x 18 a = nI b0 := by
    intro a ha h q
    have : (decide (a < 12) && decide (y1 18 a = nI b0)) = false := h
    rw [e18, decide_eq_true ha, decide_eq_true q] at this
    cases this
  have base : ∀ j a, (3 ≤ j ∧ j ≤ 17 ∧ a < 12) ∨ ((j = 35 ∨ j = 36 ∨ j = 38 ∨ j = 39 ∨ j = 40) ∧ a = 0) → j ≠ 13 → (j = 12 ∨ j = 15 ∨ j = 16 → ¬ x 18 a = nI b0) → z1 j a = y1 (mu j) a := by
    intro j a h h13 hq
    have m15 : mu j ≠ 15 := by
      rcases h with ⟨h1, h2, _⟩ | ⟨h1, _⟩
      · rcases (show j = 3 ∨ j = 4 ∨ j = 5 ∨ j = 6 ∨ j = 7 ∨ j = 8 ∨ j = 9 ∨ j = 10 ∨ j = 11 ∨ j = 12 ∨ j = 14 ∨ j = 15 ∨ j = 16 ∨ j = 17 by omega) with e | e | e | e | e | e | e | e | e | e | e | e | e | e <;> subst e <;> decide
      · rcases h1 with e | e | e | e | e <;> subst e <;> decide
    rw [hz j h13, hy _ m15]
    by_cases e4 : j = 4
    · subst e4
      rcases h with h | h
      · exact E.pl a h.2.2
      · omega
    by_cases e14 : j = 14
    · subst e14
      rcases h with h | h
      · exact E.pa a h.2.2
      · omega
    have hm : mu j ≠ 4 ∧ mu j ≠ 14 ∧ mu j ≠ 2 ∧ mu j ≠ 19 ∧ j ≠ 33 ∧ j ≠ 34 := by
      rcases h with ⟨h1, h2, _⟩ | ⟨h1, _⟩
      · rcases (show j = 3 ∨ j = 5 ∨ j = 6 ∨ j = 7 ∨ j = 8 ∨ j = 9 ∨ j = 10 ∨ j = 11 ∨ j = 12 ∨ j = 15 ∨ j = 16 ∨ j = 17 by omega) with e | e | e | e | e | e | e | e | e | e | e | e <;> subst e <;> decide
      · rcases h1 with e | e | e | e | e <;> subst e <;> decide
    rw [h4 j e4 e14 hm.2.2.2.2.1 hm.2.2.2.2.2, h3 _ hm.1 hm.2.1 hm.2.2.1 hm.2.2.2.1]
    exact hp.1 j a h hq
  have ovc : ∀ (f g : Nat → Int32) (w : Int32) a, a < 12 → (cB y1 (nI b0) 12 a = false → f a = g a) → ov (cBz z1 (nI b0) 12) 1 (fun _ => w) f a = ov (cB y1 (nI b0) 12) 1 (fun _ => w) g a := by
    intro f g w a ha h
    unfold ov
    rw [Nat.div_one, ec a ha]
    cases e : cB y1 (nI b0) 12 a with
    | true => rfl
    | false => exact h e
  refine ⟨fun j a h => ?_, fun a w ha hw => ?_⟩
  · by_cases j13 : j = 13
    · subst j13
      rcases h with h | h
      · rw [cLn_r (by decide) (by decide) (by decide) (by decide), show mu 13 = 15 from rfl, mLn_r (by decide) (by decide) (by decide) (by decide)]
        exact hn a h.2.2
      · omega
    by_cases j12 : j = 12
    · subst j12
      rcases h with h | h
      · exact ovc (z1 12) (y1 12) (zi (!tr)) a h.2.2 (fun e => base 12 a (Or.inl h) (by decide) (fun _ => ein a h.2.2 e))
      · omega
    by_cases j15 : j = 15
    · subst j15
      rcases h with h | h
      · exact ovc (z1 15) (y1 16) tp a h.2.2 (fun e => base 15 a (Or.inl h) (by decide) (fun _ => ein a h.2.2 e))
      · omega
    by_cases j16 : j = 16
    · subst j16
      rcases h with h | h
      · exact ovc (z1 16) (y1 17) ch a h.2.2 (fun e => base 16 a (Or.inl h) (by decide) (fun _ => ein a h.2.2 e))
      · omega
    have hb := base j a h j13 (by omega)
    by_cases j14 : j = 14
    · subst j14
      rcases h with h | h
      · cases tr with
        | true => exact hb
        | false => exact ovc (z1 14) (y1 14) (-1) a h.2.2 (fun _ => hb)
      · omega
    have hm : mu j ≠ 16 ∧ mu j ≠ 17 ∧ mu j ≠ 12 ∧ mu j ≠ 14 := by
      rcases h with ⟨h1, h2, _⟩ | ⟨h1, _⟩
      · rcases (show j = 3 ∨ j = 4 ∨ j = 5 ∨ j = 6 ∨ j = 7 ∨ j = 8 ∨ j = 9 ∨ j = 10 ∨ j = 11 ∨ j = 17 by omega) with e | e | e | e | e | e | e | e | e | e <;> subst e <;> decide
      · rcases h1 with e | e | e | e | e <;> subst e <;> decide
    rw [cLn_r j15 j16 j12 j14, mLn_r hm.1 hm.2.1 hm.2.2.1 hm.2.2.2]
    exact hb
  · rw [cLn_r (by omega) (by omega) (by omega) (by omega), mLn_r (by decide) (by decide) (by decide) (by decide), hz _ (by omega), hy _ (by decide), h4 _ (by omega) (by omega) (by omega) (by omega), h3 _ (by decide) (by decide) (by decide) (by decide)]
    exact hp.2 a w ha hw
/-- a reset keeps both sides together -/
theorem RS.kp (H : RS ot x z b0) : KP (mResetB ot (nI b0) x) (cRsE ot z b0) := by
  obtain ⟨E, -, h3, h4⟩ := H.last
  unfold mResetB cRsE mEndR cEndR
  rw [E.any]
  cases e : mAny (mLast ot (nI b0) x) (nI b0) with
  | true =>
    exact H.ln (tr := false) (fun _ _ => rfl) (fun _ _ => rfl) (fun a ha => by
      rw [h4 13 (by decide) (by decide) (by decide) (by decide), h3 15 (by decide) (by decide) (by decide) (by decide)]
      exact H.p0.1 13 a (Or.inl ⟨by decide, by decide, ha⟩) (by omega))
  | false =>
    obtain ⟨top, t1, t2, t3, t4, t5, t6, -⟩ := H.tree e
    rw [t3]
    show KP (mLn (mX1 ot (mLast ot (nI b0) x) top) _ (nI top) _ true) (cLn (cX1 ot (cRst ot z b0) b0) _ (nI (cRoot (cRst ot z b0) b0)) _ false)
    rw [t4, t6]
    exact H.ln (tr := true) (fun j hj => ur_ne hj) (fun j hj => ur_ne hj) t5
/-- rows that a reset of a bus does not change: all but these -/
theorem RS.row (H : RS ot x z b0) {j : Nat} (hj : j ≠ 2 ∧ j ≠ 4 ∧ j ≠ 10 ∧ j ≠ 11 ∧ j ≠ 12 ∧ j ≠ 13 ∧ j ≠ 14 ∧ j ≠ 15 ∧ j ≠ 16 ∧ j ≠ 17 ∧ j ≠ 19 ∧ j ≠ 20 ∧ j ≠ 35 ∧ j ≠ 38) : mResetB ot (nI b0) x j = x j := by
  obtain ⟨E, -, h3, h4⟩ := H.last
  have e1 : mLast ot (nI b0) x j = x j := by
    rw [h3 j (by omega) (by omega) (by omega) (by omega)]
    unfold mX0 mCl
    rw [ur_ne (by omega), ur_ne (by omega), ur_ne (by omega), ur_ne (by omega), ur_ne (by omega), ur_ne (by omega), ur_ne (by omega), ur_ne (by omega), ur_ne (by omega), ur_ne (by omega), ur_ne (by omega), ur_ne (by omega)]
  unfold mResetB mEndR
  cases e : mAny (mLast ot (nI b0) x) (nI b0) with
  | true => show mLn _ _ _ _ _ j = _; rw [mLn_r (by omega) (by omega) (by omega) (by omega)]; exact e1
  | false =>
    obtain ⟨top, t1, t2, t3, -⟩ := H.tree e
    rw [t3]
    show mLn _ _ _ _ _ j = _
    rw [mLn_r (by omega) (by omega) (by omega) (by omega)]
    unfold mX1
    rw [ur_ne (by omega)]; exact e1
/-- rows that come from the cleaning -/
theorem RS.row2 (H : RS ot x z b0) {j : Nat} (hj : j = 20 ∨ j = 35 ∨ j = 38 ∨ j = 10 ∨ j = 11 ∨ j = 13) : mResetB ot (nI b0) x j = mX0 ot (nI b0) x j := by
  obtain ⟨E, -, h3, h4⟩ := H.last
  have e1 := h3 j (by omega) (by omega) (by omega) (by omega)
  unfold mResetB mEndR
  cases e : mAny (mLast ot (nI b0) x) (nI b0) with
  | true => show mLn _ _ _ _ _ j = _; rw [mLn_r (by omega) (by omega) (by omega) (by omega)]; exact e1
  | false =>
    obtain ⟨top, t1, t2, t3, -⟩ := H.tree e
    rw [t3]
    show mLn _ _ _ _ _ j = _
    rw [mLn_r (by omega) (by omega) (by omega) (by omega)]
    unfold mX1
    rw [ur_ne (by omega)]; exact e1
theorem RS.pv (H : RS ot x z b0) (h : PV x) : PV (mResetB ot (nI b0) x) := by
  have h1 : PV (mLast ot (nI b0) x) := mRs_PV (x := mX0 ot (nI b0) x) (show PV (mX0 ot (nI b0) x) from h) _
  unfold mResetB mEndR
  cases e : mAny (mLast ot (nI b0) x) (nI b0) with
  | true => exact h1
  | false =>
    obtain ⟨top, t1, t2, t3, -⟩ := H.tree e
    rw [t3]
    exact h1
/-- ranges: parents, managers; what is looped has no number -/
abbrev IV (x : Nat → Nat → Int32) : Prop :=
  (PV x) ∧
  (PaV (x 14)) ∧
  (PaV (x 17)) ∧
  (∀ a, a < 12 → ¬ x 12 a = 0 → x 15 a = -1)
theorem IV.pv {x : Nat → Nat → Int32} (h : IV x) : PV x := h.1
theorem IV.pa {x : Nat → Nat → Int32} (h : IV x) : PaV (x 14) := h.2.1
theorem IV.mg {x : Nat → Nat → Int32} (h : IV x) : PaV (x 17) := h.2.2.1
theorem IV.ln {x : Nat → Nat → Int32} (h : IV x) : ∀ a, a < 12 → ¬ x 12 a = 0 → x 15 a = -1 := h.2.2.2
theorem RS.iv (H : RS ot x z b0) (I : IV x) : IV (mResetB ot (nI b0) x) := by
  have hpv := H.pv I.pv
  obtain ⟨E, -, h3, h4⟩ := H.last
  have e18 : mLast ot (nI b0) x 18 = x 18 := h3 18 (by decide) (by decide) (by decide) (by decide)
  have x17 : ∀ a, a < 12 → ¬ x 18 a = nI b0 → mX0 ot (nI b0) x 17 a = x 17 a := by
    intro a ha hb
    show ov (cB (ur x 38 _) (nI b0) 12) 1 (fun _ => -1) (x 17) a = _
    unfold ov
    rw [Nat.div_one, cB_f hb]; rfl
  have x12 : ∀ a, a < 12 → ¬ x 18 a = nI b0 → mX0 ot (nI b0) x 12 a = x 12 a := by
    intro a ha hb
    show ov (cB (ur x 38 _) (nI b0) 12) 1 (fun _ => nI 0) (x 12) a = _
    unfold ov
    rw [Nat.div_one, cB_f hb]; rfl
  have x15 : ∀ a, a < 12 → ¬ x 18 a = nI b0 → mX0 ot (nI b0) x 15 a = x 15 a := by
    intro a ha hb
    show ov (cB (ur x 38 _) (nI b0) 12) 1 (fun _ => -1) (x 15) a = _
    unfold ov
    rw [Nat.div_one, cB_f hb]; rfl
  have x15b : ∀ a, a < 12 → x 18 a = nI b0 → mX0 ot (nI b0) x 15 a = -1 := by
    intro a ha hb
    show ov (cB (ur x 38 _) (nI b0) 12) 1 (fun _ => -1) (x 15) a = _
    unfold ov
    rw [Nat.div_one, cB_t ha hb]; rfl
  have y17 := h3 17 (by decide) (by decide) (by decide) (by decide)
  have y12 := h3 12 (by decide) (by decide) (by decide) (by decide)
  have y15 := h3 15 (by decide) (by decide) (by decide) (by decide)
  have cb : ∀ (y1 : Nat → Nat → Int32) a, a < 12 → y1 18 = x 18 → cB y1 (nI b0) 12 a = decide (x 18 a = nI b0) := by
    intro y1 a ha e
    show (decide (a < 12) && decide (y1 18 a = nI b0)) = _
    rw [e, decide_eq_true ha, Bool.true_and]
  have p2 := H.pa2
  refine ⟨hpv, ?_, ?_, ?_⟩
  · unfold mResetB mEndR
    cases e : mAny (mLast ot (nI b0) x) (nI b0) with
    | true =>
      intro a ha
      show ∃ q : Option Nat, ov (cB (mLast ot (nI b0) x) (nI b0) 12) 1 (fun _ => -1) (mLast ot (nI b0) x 14) a = oi q ∧ _
      unfold ov
      rw [Nat.div_one, cb _ a ha e18]
      by_cases hb : x 18 a = nI b0
      · rw [decide_eq_true hb]; exact ⟨none, rfl, fun b h => by cases h⟩
      · rw [decide_eq_false hb]; exact p2 a ha
    | false =>
      obtain ⟨top, t1, t2, t3, -⟩ := H.tree e
      rw [t3]
      exact p2
  · unfold mResetB mEndR
    cases e : mAny (mLast ot (nI b0) x) (nI b0) with
    | true =>
      intro a ha
      show ∃ q : Option Nat, ov (cB (mLast ot (nI b0) x) (nI b0) 12) 1 (fun _ => -1) (mLast ot (nI b0) x 17) a = oi q ∧ _
      unfold ov
      rw [Nat.div_one, cb _ a ha e18]
      by_cases hb : x 18 a = nI b0
      · rw [decide_eq_true hb]; exact ⟨none, rfl, fun b h => by cases h⟩
      · rw [decide_eq_false hb, y17]
        show ∃ q : Option Nat, mX0 ot (nI b0) x 17 a = oi q ∧ _
        rw [x17 a ha hb]; exact I.mg a ha
    | false =>
      obtain ⟨top, t1, t2, t3, -⟩ := H.tree e
      rw [t3]
      intro a ha
      show ∃ q : Option Nat, ov (cB (mX1 ot (mLast ot (nI b0) x) top) (nI b0) 12) 1 (fun _ => oi (mChief (mX1 ot (mLast ot (nI b0) x) top) (nI b0) 12)) (mLast ot (nI b0) x 17) a = oi q ∧ _
      unfold ov
      rw [Nat.div_one, cb _ a ha (show mX1 ot (mLast ot (nI b0) x) top 18 = x 18 from e18)]
      by_cases hb : x 18 a = nI b0
      · rw [decide_eq_true hb]; exact ⟨_, rfl, fun b h => bst_lt h⟩
      · rw [decide_eq_false hb, y17]
        show ∃ q : Option Nat, mX0 ot (nI b0) x 17 a = oi q ∧ _
        rw [x17 a ha hb]; exact I.mg a ha
  · intro a ha
    unfold mResetB mEndR
    cases e : mAny (mLast ot (nI b0) x) (nI b0) with
    | true =>
      show ¬ ov (cB (mLast ot (nI b0) x) (nI b0) 12) 1 (fun _ => zi true) (mLast ot (nI b0) x 12) a = 0 → mLast ot (nI b0) x 15 a = -1
      unfold ov
      rw [Nat.div_one, cb _ a ha e18, y15, y12]
      by_cases hb : x 18 a = nI b0
      · intro _; exact x15b a ha hb
      · rw [decide_eq_false hb]
        show ¬ mX0 ot (nI b0) x 12 a = 0 → _
        rw [x12 a ha hb, x15 a ha hb]; exact I.ln a ha
    | false =>
      obtain ⟨top, t1, t2, t3, -, -, -, t7⟩ := H.tree e
      rw [t3]
      show ¬ ov (cB (mX1 ot (mLast ot (nI b0) x) top) (nI b0) 12) 1 (fun _ => zi false) (mLast ot (nI b0) x 12) a = 0 → mX1 ot (mLast ot (nI b0) x) top 15 a = -1
      unfold ov
      rw [Nat.div_one, cb _ a ha (show mX1 ot (mLast ot (nI b0) x) top 18 = x 18 from e18), y12]
      by_cases hb : x 18 a = nI b0
      · rw [decide_eq_true hb]; intro q; exact absurd rfl q
      · rw [decide_eq_false hb]
        show ¬ mX0 ot (nI b0) x 12 a = 0 → _
        rw [x12 a ha hb, t7 a ha hb, y15, x15 a ha hb]; exact I.ln a ha
end Rst3
