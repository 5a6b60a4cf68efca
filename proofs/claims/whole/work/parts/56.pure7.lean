/-! both sides' plain rows -/
def mu (j : Nat) : Nat := match j with
  | 3 => 3
  | 4 => 4
  | 5 => 8
  | 6 => 9
  | 7 => 6
  | 8 => 7
  | 9 => 5
  | 10 => 10
  | 11 => 11
  | 12 => 12
  | 13 => 15
  | 14 => 14
  | 15 => 16
  | 16 => 17
  | 17 => 35
  | 35 => 36
  | 36 => 37
  | 38 => 39
  | 39 => 40
  | _ => 41
/-- the rows of the class that lie so in the model, resets aside -/
abbrev KP (x z : Nat → Nat → Int32) : Prop :=
  (∀ j a, (3 ≤ j ∧ j ≤ 17 ∧ a < 12) ∨ ((j = 35 ∨ j = 36 ∨ j = 38 ∨ j = 39 ∨ j = 40) ∧ a = 0) → z j a = x (mu j) a) ∧
  (∀ a w, a < 12 → w < 8 → z (100 + a) w = x 13 (8 * a + w))
theorem KP.r {x z : Nat → Nat → Int32} (h : KP x z) : ∀ j a, (3 ≤ j ∧ j ≤ 17 ∧ a < 12) ∨ ((j = 35 ∨ j = 36 ∨ j = 38 ∨ j = 39 ∨ j = 40) ∧ a = 0) → z j a = x (mu j) a := h.1
theorem KP.w {x z : Nat → Nat → Int32} (h : KP x z) : ∀ a w, a < 12 → w < 8 → z (100 + a) w = x 13 (8 * a + w) := h.2
def cBz (z : Nat → Nat → Int32) (v : Int32) (k : Nat) : Nat → Bool := fun a => decide (a < k) && decide (z 31 a = v)
def cCln (z : Nat → Nat → Int32) (c : Nat → Bool) : Nat → Nat → Int32 := fun j =>
  if 100 ≤ j then ov (fun _ => c (j - 100)) 1 (fun w => if w = 6 then nI 100 else if w = 7 then -1 else z j w) (z j)
  else if j = 10 ∨ j = 11 ∨ j = 17 then ov c 1 (fun _ => nI 0) (z j)
  else if j = 13 ∨ j = 14 then ov c 1 (fun _ => -1) (z j)
  else z j
def cOpen (ot : Nat → Option Nat) (z : Nat → Nat → Int32) (v : Int32) (n : Nat) : Nat → Nat → Int32 := ur z 33 (fun k => if k < n then zi (decide (z 31 (k / 3) = v) && (ot k).isSome) else z 33 k)
def cLn (z : Nat → Nat → Int32) (c : Nat → Bool) (rt mg : Int32) (lp : Bool) : Nat → Nat → Int32 := ur (ur (ur (ur z 12 (ov c 1 (fun _ => zi lp) (z 12))) 15 (ov c 1 (fun _ => rt) (z 15))) 16 (ov c 1 (fun _ => mg) (z 16))) 14 (bif lp then ov c 1 (fun _ => -1) (z 14) else z 14)
def cRoot (z : Nat → Nat → Int32) (b0 : Nat) : Nat := match fstF (fun k => decide (z 31 k = nI b0 ∧ z 14 k = -1)) 12 0 with
  | some k => k
  | none => b0
def cX1 (ot : Nat → Option Nat) (z : Nat → Nat → Int32) (b0 : Nat) : Nat → Nat → Int32 := ur z 13 (gN ot z 12 (cRoot z b0) (0, z 13)).2
def cMg (z : Nat → Nat → Int32) (v : Int32) : Option Nat := cMgT (fun k => decide (z 31 k = v ∧ ¬ z 6 k = 0)) (z 13) 12
def cEndR (ot : Nat → Option Nat) (z : Nat → Nat → Int32) (b0 : Nat) : Nat → Nat → Int32 := bif cAny z then cLn z (cBz z (nI b0) 12) (-1) (-1) true else cLn (cX1 ot z b0) (cBz (cX1 ot z b0) (nI b0) 12) (nI (cRoot z b0)) (oi (cMg (cX1 ot z b0) (nI b0))) false
def cRst (ot : Nat → Option Nat) (z : Nat → Nat → Int32) (b0 : Nat) : Nat → Nat → Int32 := cRs ot (cOpen ot (cCln z (cBz z (nI b0) 12)) (nI b0) 36) (cRn ot (cOpen ot (cCln z (cBz z (nI b0) 12)) (nI b0) 36) 24 0)
def cRsE (ot : Nat → Option Nat) (z : Nat → Nat → Int32) (b0 : Nat) : Nat → Nat → Int32 := cEndR ot (cRst ot z b0) b0
def cResetZ (ot : Nat → Option Nat) (z : Nat → Nat → Int32) (b0 : Nat) : Nat → Nat → Int32 := ur (cRsE ot z b0) 37 (fun _ => cRsE ot z b0 37 0 + nI 1)
/-- parents are nodes -/
def PaV (f : Nat → Int32) : Prop := ∀ a, a < 12 → ∃ q : Option Nat, f a = oi q ∧ ∀ b, q = some b → b < 12
section Rst
variable {ot : Nat → Option Nat} {x z : Nat → Nat → Int32} {b0 : Nat}
theorem mX0_18 : mX0 ot (nI b0) x 18 = x 18 := rfl
theorem mX0_2 {k : Nat} (hk : k / 3 < 12) (hb : x 18 (k / 3) = nI b0) : mX0 ot (nI b0) x 2 k = zi (ot k).isSome := by
  show ov (cB (ur x 38 _) (nI b0) 12) 3 (nwO ot) (x 2) k = _
  unfold ov
  have e : cB (ur x 38 (fun _ => x 38 0 + nI 1)) (nI b0) 12 (k / 3) = true := by
    show (decide (k / 3 < 12) && decide (x 18 (k / 3) = nI b0)) = true
    rw [decide_eq_true hk, decide_eq_true hb]; rfl
  rw [e]; rfl
theorem cB_t {a : Nat} (ha : a < 12) (hb : x 18 a = nI b0) : cB (ur x 38 (fun _ => x 38 0 + nI 1)) (nI b0) 12 a = true := by
  show (decide (a < 12) && decide (x 18 a = nI b0)) = true
  rw [decide_eq_true ha, decide_eq_true hb]; rfl
theorem cB_f {a : Nat} (hb : ¬ x 18 a = nI b0) : cB (ur x 38 (fun _ => x 38 0 + nI 1)) (nI b0) 12 a = false := by
  show (decide (a < 12) && decide (x 18 a = nI b0)) = false
  rw [decide_eq_false hb, Bool.and_false]
theorem mX0_14 {a : Nat} (ha : a < 12) (hb : x 18 a = nI b0) : mX0 ot (nI b0) x 14 a = -1 := by
  show ov (cB (ur x 38 _) (nI b0) 12) 1 (fun _ => -1) (x 14) a = _
  unfold ov
  rw [Nat.div_one, cB_t ha hb]; rfl
/-- what is known when a bus is reset -/
abbrev RS (ot : Nat → Option Nat) (x z : Nat → Nat → Int32) (b0 : Nat) : Prop :=
  (b0 < 12) ∧
  (∀ a, a < 12 → x 18 a = nI (itP ot 11 a)) ∧
  (∀ a, a < 12 → z 31 a = nI (itP ot 11 a)) ∧
  (itP ot 11 b0 = b0) ∧
  (Cab ot (x 18)) ∧
  (PaV (x 14)) ∧
  (KP x z)
theorem RS.b {ot : Nat → Option Nat} {x z : Nat → Nat → Int32} {b0 : Nat} (h : RS ot x z b0) : b0 < 12 := h.1
theorem RS.bx {ot : Nat → Option Nat} {x z : Nat → Nat → Int32} {b0 : Nat} (h : RS ot x z b0) : ∀ a, a < 12 → x 18 a = nI (itP ot 11 a) := h.2.1
theorem RS.bz {ot : Nat → Option Nat} {x z : Nat → Nat → Int32} {b0 : Nat} (h : RS ot x z b0) : ∀ a, a < 12 → z 31 a = nI (itP ot 11 a) := h.2.2.1
theorem RS.ib {ot : Nat → Option Nat} {x z : Nat → Nat → Int32} {b0 : Nat} (h : RS ot x z b0) : itP ot 11 b0 = b0 := h.2.2.2.1
theorem RS.k {ot : Nat → Option Nat} {x z : Nat → Nat → Int32} {b0 : Nat} (h : RS ot x z b0) : Cab ot (x 18) := h.2.2.2.2.1
theorem RS.pa {ot : Nat → Option Nat} {x z : Nat → Nat → Int32} {b0 : Nat} (h : RS ot x z b0) : PaV (x 14) := h.2.2.2.2.2.1
theorem RS.p {ot : Nat → Option Nat} {x z : Nat → Nat → Int32} {b0 : Nat} (h : RS ot x z b0) : KP x z := h.2.2.2.2.2.2
theorem RS.bv (H : RS ot x z b0) {a : Nat} (ha : a < 12) (h : x 18 a = nI b0) : itP ot 11 a = b0 := by
  rw [H.bx a ha, nI_eq (by have := itP_le ot 11 a; omega) (by have := H.b; omega)] at h
  exact h
theorem RS.cb (H : RS ot x z b0) {a : Nat} (ha : a < 12) : z 31 a = x 18 a := by rw [H.bx a ha, H.bz a ha]
theorem RS.cBe (H : RS ot x z b0) {a : Nat} (ha : a < 12) : cBz z (nI b0) 12 a = cB (ur x 38 (fun _ => x 38 0 + nI 1)) (nI b0) 12 a := by
  show (decide (a < 12) && decide (z 31 a = nI b0)) = (decide (a < 12) && decide (x 18 a = nI b0))
  rw [H.cb ha]
theorem RS.p0 (H : RS ot x z b0) : (∀ j a, (3 ≤ j ∧ j ≤ 17 ∧ a < 12) ∨ ((j = 35 ∨ j = 36 ∨ j = 38 ∨ j = 39 ∨ j = 40) ∧ a = 0) → (j = 12 ∨ j = 15 ∨ j = 16 → ¬ x 18 a = nI b0) → cOpen ot (cCln z (cBz z (nI b0) 12)) (nI b0) 36 j a = mX0 ot (nI b0) x (mu j) a) ∧ ∀ a w, a < 12 → w < 8 → cOpen ot (cCln z (cBz z (nI b0) 12)) (nI b0) 36 (100 + a) w = mX0 ot (nI b0) x 13 (8 * a + w) := by
  have hr := H.p.r
  refine ⟨fun j a h hn => ?_, fun a w ha hw => ?_⟩
  · have ov1 : ∀ (nw1 nw2 f g : Nat → Int32), a < 12 → nw1 a = nw2 a → f a = g a → ov (cBz z (nI b0) 12) 1 nw1 f a = ov (cB (ur x 38 (fun _ => x 38 0 + nI 1)) (nI b0) 12) 1 nw2 g a := by
      intro nw1 nw2 f g ha h1 h2
      unfold ov
      rw [Nat.div_one, H.cBe ha, h1, h2]
    have ov2 : ∀ (nw2 f g : Nat → Int32), ¬ x 18 a = nI b0 → f a = g a → f a = ov (cB (ur x 38 (fun _ => x 38 0 + nI 1)) (nI b0) 12) 1 nw2 g a := by
      intro nw2 f g h1 h2
      unfold ov
      rw [Nat.div_one, cB_f h1, h2]; rfl
    rcases h with ⟨h1, h2, ha⟩ | ⟨h1, ha⟩
    · have hj := hr j a (Or.inl ⟨h1, h2, ha⟩)
      rcases (show j = 3 ∨ j = 4 ∨ j = 5 ∨ j = 6 ∨ j = 7 ∨ j = 8 ∨ j = 9 ∨ j = 10 ∨ j = 11 ∨ j = 12 ∨ j = 13 ∨ j = 14 ∨ j = 15 ∨ j = 16 ∨ j = 17 by omega) with e | e | e | e | e | e | e | e | e | e | e | e | e | e | e
      all_goals subst e
      · exact hj
      · exact hj
      · exact hj
      · exact hj
      · exact hj
      · exact hj
      · exact hj
      · exact ov1 (fun _ => nI 0) (fun _ => nI 0) (z 10) (x 10) ha rfl hj
      · exact ov1 (fun _ => nI 0) (fun _ => nI 0) (z 11) (x 11) ha rfl hj
      · exact ov2 (fun _ => nI 0) (z 12) (x 12) (hn (Or.inl rfl)) hj
      · exact ov1 (fun _ => -1) (fun _ => -1) (z 13) (x 15) ha rfl hj
      · exact ov1 (fun _ => -1) (fun _ => -1) (z 14) (x 14) ha rfl hj
      · exact ov2 (fun _ => -1) (z 15) (x 16) (hn (Or.inr (Or.inl rfl))) hj
      · exact ov2 (fun _ => -1) (z 16) (x 17) (hn (Or.inr (Or.inr rfl))) hj
      · exact ov1 (fun _ => nI 0) (fun _ => nI 0) (z 17) (x 35) ha rfl hj
    · have hj := hr j a (Or.inr ⟨h1, ha⟩)
      rcases h1 with e | e | e | e | e <;> subst e <;> exact hj
  · have e : cOpen ot (cCln z (cBz z (nI b0) 12)) (nI b0) 36 (100 + a) w = ov (fun _ => cBz z (nI b0) 12 a) 1 (fun w => if w = 6 then nI 100 else if w = 7 then -1 else z (100 + a) w) (z (100 + a)) w := by
      unfold cOpen
      rw [ur_ne (by omega)]
      unfold cCln
      rw [if_pos (by omega), show 100 + a - 100 = a by omega]
    rw [e]
    show _ = ov (cB (ur x 38 (fun _ => x 38 0 + nI 1)) (nI b0) 12) 8 (fun i => if i % 8 = 6 then nI 100 else if i % 8 = 7 then -1 else x 13 i) (x 13) (8 * a + w)
    unfold ov
    dsimp only
    rw [show (8 * a + w) / 8 = a by omega, show (8 * a + w) % 8 = w by omega, H.cBe ha, H.p.w a w ha hw]
theorem RS.er (H : RS ot x z b0) : ER (nI b0) (mX0 ot (nI b0) x) (cOpen ot (cCln z (cBz z (nI b0) 12)) (nI b0) 36) := by
  have hp := H.p0
  refine ⟨fun k hk => ?_, fun a ha => ?_, fun a ha => ?_, fun a ha => ?_, fun a ha => ?_⟩
  · unfold cOpen
    rw [ur_eq, if_pos hk]
    have e : cCln z (cBz z (nI b0) 12) 31 = z 31 := rfl
    rw [e, mX0_18, H.cb (by omega)]
    by_cases hb : x 18 (k / 3) = nI b0
    · rw [if_pos hb, mX0_2 (by omega) hb, decide_eq_true hb, Bool.true_and]
    · rw [if_neg hb, decide_eq_false hb, Bool.false_and]; rfl
  · exact hp.1 14 a (Or.inl ⟨by decide, by decide, ha⟩) (by omega)
  · exact hp.1 4 a (Or.inl ⟨by decide, by decide, ha⟩) (by omega)
  · exact hp.1 3 a (Or.inl ⟨by decide, by decide, ha⟩) (by omega)
  · exact hp.1 5 a (Or.inl ⟨by decide, by decide, ha⟩) (by omega)
theorem RS.ti (_ : RS ot x z b0) : TI ot (fun _ => none) (fun _ => 0) (mX0 ot (nI b0) x 18) (nI b0) (mX0 ot (nI b0) x 2) (mX0 ot (nI b0) x 14) 0 :=
  TI.start (fun k hk hb => mX0_2 (by omega) hb) (fun a ha hb => mX0_14 ha hb)
/-- behind the rounds -/
theorem RS.last (H : RS ot x z b0) : ER (nI b0) (mLast ot (nI b0) x) (cRst ot z b0) ∧ (∃ ps rd R, TI ot ps rd (mLast ot (nI b0) x 18) (nI b0) (mLast ot (nI b0) x 2) (mLast ot (nI b0) x 14) R) ∧ (∀ j, j ≠ 4 → j ≠ 14 → j ≠ 2 → j ≠ 19 → mLast ot (nI b0) x j = mX0 ot (nI b0) x j) ∧ ∀ j, j ≠ 4 → j ≠ 14 → j ≠ 33 → j ≠ 34 → cRst ot z b0 j = cOpen ot (cCln z (cBz z (nI b0) 12)) (nI b0) 36 j := by
  have h := rounds_E (v := nI b0) (x := mX0 ot (nI b0) x) H.k ⟨_, _, H.ti⟩ H.er
  have e : cRst ot z b0 = cRs ot (cOpen ot (cCln z (cBz z (nI b0) 12)) (nI b0) 36) (mRn ot (nI b0) (mX0 ot (nI b0) x) 24 0) := by
    unfold cRst
    rw [rn_E (v := nI b0) (x := mX0 ot (nI b0) x) H.k ⟨_, _, H.ti⟩ H.er]
  rw [e]
  have h1 := h (mRn ot (nI b0) (mX0 ot (nI b0) x) 24 0)
  obtain ⟨a1, ⟨ps, rd, a2⟩, a3, a4⟩ := h1
  exact ⟨a1, ⟨ps, rd, _, a2⟩, a3, a4⟩
end Rst
