section Rst2
variable {ot : Nat → Option Nat} {x z : Nat → Nat → Int32} {b0 : Nat}
theorem round_14 {ps : Nat → Option Nat} {rd : Nat → Nat} {v : Int32} {R : Nat} (K : Cab ot (x 18)) (T : TI ot ps rd (x 18) v (x 2) (x 14) R) (r : Int32) {a : Nat} (hb : ¬ x 18 a = v) : mRound ot x v r 14 a = x 14 a := by
  rw [round_M K T r, pwX_14]
  unfold pwP
  cases e : wS ot (asF (x 2) (mAsks x v r)) (fun a => (mNB x a).1) a with
  | none => rfl
  | some k => exact absurd (mAsks_c (asF_f (wS_as e).1).2.1).1 hb
theorem rounds_14 {v : Int32} (K : Cab ot (x 18)) (T : ∃ ps rd, TI ot ps rd (x 18) v (x 2) (x 14) 0) (E : ER v x z) {a : Nat} (hb : ¬ x 18 a = v) : ∀ k, mRs ot v x k 14 a = x 14 a := by
  intro k
  induction k with
  | zero => rfl
  | succ k ih =>
    obtain ⟨_, ⟨ps, rd, h2⟩, h3, _⟩ := rounds_E K T E k
    have e18 : mRs ot v x k 18 = x 18 := h3 18 (by decide) (by decide) (by decide) (by decide)
    rw [mRs_s, round_14 (by rw [e18]; exact K) h2 (nI (k + 1)) (by rw [e18]; exact hb)]
    exact ih
theorem gPt_out {V : Nat → gSt → gSt} {y : Nat → Nat → Int32} {a c : Nat} {B : Nat → Prop} (ha : a < 12) (hB : ∀ k t, k < 36 → ot k = some t → B (k / 3) → B (t / 3)) (h36 : ∀ k t, k < 36 → ot k = some t → t < 36) (hBa : B a) (hV : ∀ b s, b < 12 → B b → (V b s).2 c = s.2 c) : ∀ k p s, p + k ≤ 3 → (gPt V ot y a k p s).2 c = s.2 c := by
  intro k
  induction k with
  | zero => intro p s _; rfl
  | succ k ih =>
    intro p s hp
    show (gPt V ot y a k (p + 1) (bif cOf ot y a p then _ else s)).2 c = _
    rw [ih _ _ (by omega)]
    cases e : cOf ot y a p with
    | false => rfl
    | true =>
      unfold cOf at e
      cases eo : ot (3 * a + p) with
      | none => rw [eo] at e; cases e
      | some t =>
        have h1 := h36 _ _ (by omega) eo
        have h2 := hB _ _ (by omega) eo (by rw [show (3 * a + p) / 3 = a by omega]; exact hBa)
        exact hV (t / 3) s (by omega) h2
theorem gN_out {y : Nat → Nat → Int32} {c : Nat} {B : Nat → Prop} (hB : ∀ k t, k < 36 → ot k = some t → B (k / 3) → B (t / 3)) (h36 : ∀ k t, k < 36 → ot k = some t → t < 36) (hc : ¬ B c) : ∀ d a s, a < 12 → B a → (gN ot y d a s).2 c = s.2 c := by
  intro d
  induction d with
  | zero => intro a s _ _; rfl
  | succ d ih =>
    intro a s ha hBa
    show upd (gPt (gN ot y d) ot y a 3 0 s).2 a _ c = _
    rw [pk_un (fun e : c = a => hc (by rw [e]; exact hBa))]
    exact gPt_out ha hB h36 hBa (fun b s hb hBb => ih b s hb hBb) 3 0 s (by omega)
theorem RS.pa2 (H : RS ot x z b0) : PaV (mLast ot (nI b0) x 14) := by
  obtain ⟨E, ⟨ps, rd, R, T⟩, h3, h4⟩ := H.last
  have e18 : mLast ot (nI b0) x 18 = x 18 := h3 18 (by decide) (by decide) (by decide) (by decide)
  intro a ha
  by_cases hb : x 18 a = nI b0
  · have hb' : mLast ot (nI b0) x 18 a = nI b0 := by rw [e18]; exact hb
    cases e : ps a with
    | none => exact ⟨none, T.p0 a ha hb' e, fun b h => by cases h⟩
    | some k =>
      obtain ⟨h1, o, ho, h2⟩ := T.p1 a k ha hb' e
      have := H.k.t36 k o (H.k.k36 k o ho) ho
      exact ⟨some (o / 3), h2, fun b h => by cases h; omega⟩
  · have h1 := rounds_14 (v := nI b0) (x := mX0 ot (nI b0) x) H.k ⟨_, _, H.ti⟩ H.er (a := a) hb (mRn ot (nI b0) (mX0 ot (nI b0) x) 24 0)
    have h2 : mX0 ot (nI b0) x 14 a = x 14 a := by
      show ov (cB (ur x 38 _) (nI b0) 12) 1 (fun _ => -1) (x 14) a = _
      unfold ov
      rw [Nat.div_one, cB_f hb]; rfl
    have h3 : mLast ot (nI b0) x 14 a = x 14 a := h1.trans h2
    rw [h3]
    exact H.pa a ha
theorem RS.tr (H : RS ot x z b0) (h : mAny (mLast ot (nI b0) x) (nI b0) = false) : TrOK ot (mLast ot (nI b0) x) (nI b0) := by
  obtain ⟨E, ⟨ps, rd, R, T⟩, h3, h4⟩ := H.last
  have e18 : mLast ot (nI b0) x 18 = x 18 := h3 18 (by decide) (by decide) (by decide) (by decide)
  refine T.ok (by rw [e18]; exact H.k) H.b (by rw [e18, H.bx b0 H.b, H.ib]) (fun a ha hb => H.bv ha (by rw [← e18]; exact hb)) (fun k hk hb => ?_) H.pa2
  have h5 := any_n h hk
  exact Classical.byContradiction (fun q => (of_decide_eq_false h5) ⟨hb, q⟩)
/-- the end of a reset that finds a tree: one top, the same numbers and the same manager -/
theorem RS.tree (H : RS ot x z b0) (h : mAny (mLast ot (nI b0) x) (nI b0) = false) : ∃ top, top < 12 ∧ x 18 top = nI b0 ∧ mTop (mLast ot (nI b0) x) (nI b0) 12 = some top ∧ cRoot (cRst ot z b0) b0 = top ∧ (∀ a, a < 12 → cX1 ot (cRst ot z b0) b0 13 a = mX1 ot (mLast ot (nI b0) x) top 15 a) ∧ cMg (cX1 ot (cRst ot z b0) b0) (nI b0) = mChief (mX1 ot (mLast ot (nI b0) x) top) (nI b0) 12 ∧ (∀ a, a < 12 → ¬ x 18 a = nI b0 → mX1 ot (mLast ot (nI b0) x) top 15 a = mLast ot (nI b0) x 15 a) := by
  obtain ⟨E, ⟨ps, rd, R, T⟩, h3, h4⟩ := H.last
  have e18 : mLast ot (nI b0) x 18 = x 18 := h3 18 (by decide) (by decide) (by decide) (by decide)
  have K' : Cab ot (mLast ot (nI b0) x 18) := by rw [e18]; exact H.k
  have hb0 : mLast ot (nI b0) x 18 b0 = nI b0 := by rw [e18, H.bx b0 H.b, H.ib]
  have hbus : ∀ a, a < 12 → mLast ot (nI b0) x 18 a = nI b0 → itP ot 11 a = b0 := fun a ha hb => H.bv ha (by rw [← e18]; exact hb)
  have hcl : ∀ k, k < 36 → mLast ot (nI b0) x 18 (k / 3) = nI b0 → mLast ot (nI b0) x 2 k = 0 := fun k hk hb => Classical.byContradiction (fun q => (of_decide_eq_false (any_n h hk)) ⟨hb, q⟩)
  obtain ⟨top, t1, t2, t3, t4⟩ := T.top K' H.b hb0 hbus hcl
  have m1 := T.p0 top t1 t2 t3
  have hpn : ∀ i, i < 12 → mLast ot (nI b0) x 18 i = nI b0 → mLast ot (nI b0) x 14 i = -1 → i = top := by
    intro i hi hb hm
    refine t4 i hi hb ?_
    cases e : ps i with
    | none => rfl
    | some k =>
      obtain ⟨h1, o, ho, h2⟩ := T.p1 i k hi hb e
      have := H.k.t36 k o (H.k.k36 k o ho) ho
      rw [hm] at h2
      exact absurd h2.symm (nI_m1 (by omega))
  have z31 : ∀ a, a < 12 → cRst ot z b0 31 a = mLast ot (nI b0) x 18 a := fun a ha => by
    rw [h4 31 (by decide) (by decide) (by decide) (by decide), e18]
    exact H.cb ha
  have eT : mTop (mLast ot (nI b0) x) (nI b0) 12 = some top := by
    refine lst_u t1 (decide_eq_true ⟨t2, by rw [m1]; decide⟩) (fun i hi h => ?_)
    have h1 := of_decide_eq_true h
    obtain ⟨q, e1, e2⟩ := H.pa2 i hi
    cases q with
    | none => exact hpn i hi h1.1 e1
    | some b => exact absurd (e1 ▸ h1.2) (nI_lt0 (by have := e2 b rfl; omega))
  have eR : cRoot (cRst ot z b0) b0 = top := by
    unfold cRoot
    rw [fst_u (t := top) (by omega) (by omega) (decide_eq_true ⟨by rw [z31 top t1]; exact t2, by rw [E.pa top t1]; exact m1⟩) (fun j hj hP => ?_)]
    have h1 := of_decide_eq_true hP
    exact hpn j (by omega) (by rw [← z31 j (by omega)]; exact h1.1) (by rw [← E.pa j (by omega)]; exact h1.2)
  have r13 : ∀ a, a < 12 → cRst ot z b0 13 a = mLast ot (nI b0) x 15 a := fun a ha => by
    rw [h4 13 (by decide) (by decide) (by decide) (by decide), h3 15 (by decide) (by decide) (by decide) (by decide)]
    exact H.p0.1 13 a (Or.inl ⟨by decide, by decide, ha⟩) (by omega)
  have r6 : ∀ a, a < 12 → cRst ot z b0 6 a = mLast ot (nI b0) x 9 a := fun a ha => by
    rw [h4 6 (by decide) (by decide) (by decide) (by decide), h3 9 (by decide) (by decide) (by decide) (by decide)]
    exact H.p0.1 6 a (Or.inl ⟨by decide, by decide, ha⟩) (by omega)
  have eN : ∀ a, a < 12 → cX1 ot (cRst ot z b0) b0 13 a = mX1 ot (mLast ot (nI b0) x) top 15 a := by
    intro a ha
    unfold cX1 mX1
    rw [ur_eq, ur_eq, eR]
    exact (gN_rel H.k.t36 E.pa 12 top (0, cRst ot z b0 13) (0, mLast ot (nI b0) x 15) t1 ⟨rfl, r13⟩).2 a ha
  refine ⟨top, t1, by rw [← e18]; exact t2, eT, eR, eN, ?_, ?_⟩
  · unfold cMg mChief
    refine cMg_eq (fun k hk => ?_) (fun k hk => eN k hk) (fun k hk hE => ?_)
    · show decide (cRst ot z b0 31 k = nI b0 ∧ ¬ cRst ot z b0 6 k = 0) = decide (mLast ot (nI b0) x 18 k = nI b0 ∧ ¬ mLast ot (nI b0) x 9 k = 0)
      rw [z31 k hk, r6 k hk]
    · have h1 : cRst ot z b0 31 k = nI b0 := (of_decide_eq_true hE).1
      rw [z31 k hk] at h1
      obtain ⟨j, hj, ej⟩ := T.all K' t4 hk h1 (f := mLast ot (nI b0) x 15)
      rw [eN k hk]
      have e2 : mX1 ot (mLast ot (nI b0) x) top 15 k = nI j := by
        unfold mX1
        rw [ur_eq]; exact ej
      rw [e2, Int32.lt_iff_toInt_lt, nI_toInt hj]
      have : (-1 : Int32).toInt = -1 := by decide
      omega
  · intro a ha hb
    unfold mX1
    rw [ur_eq]
    exact gN_out (B := fun a => x 18 a = nI b0) (fun k t hk ho q => by rw [← H.k.bs k t hk ho]; exact q) H.k.t36 hb 12 top (0, mLast ot (nI b0) x 15) t1 (by rw [← e18]; exact t2)
end Rst2
