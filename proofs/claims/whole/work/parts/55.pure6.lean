/-! numbers -/
theorem gPt_b {V : Nat → gSt → gSt} {ot : Nat → Option Nat} {x : Nat → Nat → Int32} {a M : Nat} (hV : ∀ b s, (V b s).1 ≤ s.1 + M) : ∀ k p s, (gPt V ot x a k p s).1 ≤ s.1 + k * M := by
  intro k
  induction k with
  | zero => intro p s; show s.1 ≤ _; omega
  | succ k ih =>
    intro p s
    refine Nat.le_trans (ih _ _) ?_
    have hsm : (k + 1) * M = k * M + M := Nat.succ_mul k M
    cases cOf ot x a p with
    | true => have := hV ((ot (3 * a + p)).getD 0 / 3) s; show (V _ s).1 + _ ≤ _; omega
    | false => show s.1 + _ ≤ _; omega
theorem gN_b {ot : Nat → Option Nat} {x : Nat → Nat → Int32} : ∀ d a s, (gN ot x d a s).1 ≤ s.1 + 4 ^ d := by
  intro d
  induction d with
  | zero => intro a s; show s.1 ≤ _; omega
  | succ d ih =>
    intro a s
    show (gPt (gN ot x d) ot x a 3 0 s).1 + 1 ≤ _
    have h := gPt_b (ot := ot) (x := x) (a := a) ih 3 0 s
    have h1 : 4 ^ (d + 1) = 4 * 4 ^ d := by rw [Nat.pow_succ, Nat.mul_comm]
    have h2 := Nat.pos_of_ne_zero (show 4 ^ d ≠ 0 by exact Nat.ne_of_gt (Nat.pow_pos (by decide)))
    omega
/-- node c has a number that was given -/
def gQ (c : Nat) (s : gSt) : Prop := ∃ j, j < s.1 ∧ s.2 c = nI j
theorem gQ_end {c a : Nat} {s : gSt} (h : gQ c s ∨ c = a) : gQ c (gEnd a s) := by
  by_cases e : c = a
  · exact ⟨s.1, Nat.lt_succ_self _, by rw [e]; exact pk_us⟩
  · obtain ⟨j, h1, h2⟩ := h.resolve_right e
    exact ⟨j, Nat.lt_succ_of_lt h1, (pk_un e).trans h2⟩
theorem gPt_Q {V : Nat → gSt → gSt} {ot : Nat → Option Nat} {x : Nat → Nat → Int32} {a c : Nat} (hV : ∀ b s, gQ c s → gQ c (V b s)) : ∀ k p s, gQ c s → gQ c (gPt V ot x a k p s) := by
  intro k
  induction k with
  | zero => intro p s h; exact h
  | succ k ih =>
    intro p s h
    refine ih _ _ ?_
    cases cOf ot x a p with
    | true => exact hV _ _ h
    | false => exact h
theorem gN_Q {ot : Nat → Option Nat} {x : Nat → Nat → Int32} {c : Nat} : ∀ d a s, gQ c s → gQ c (gN ot x d a s) := by
  intro d
  induction d with
  | zero => intro a s h; exact h
  | succ d ih => intro a s h; exact gQ_end (Or.inl (gPt_Q ih 3 0 s h))
theorem gPt_V {V : Nat → gSt → gSt} {ot : Nat → Option Nat} {x : Nat → Nat → Int32} {a c q : Nat} (hV : ∀ b s, gQ c s → gQ c (V b s)) (hq : cOf ot x a q = true) (hc : ∀ s, gQ c (V ((ot (3 * a + q)).getD 0 / 3) s)) : ∀ k p s, p ≤ q → q < p + k → gQ c (gPt V ot x a k p s) := by
  intro k
  induction k with
  | zero => intro p s h1 h2; omega
  | succ k ih =>
    intro p s h1 h2
    by_cases e : p = q
    · show gQ c (gPt V ot x a k (p + 1) (bif cOf ot x a p then _ else s))
      rw [e, hq]
      exact gPt_Q hV _ _ _ (hc s)
    · exact ih _ _ (by omega) (by omega)
theorem gN_V {ot : Nat → Option Nat} {x : Nat → Nat → Int32} {a b c q d : Nat} (hq3 : q < 3) (hq : cOf ot x a q = true) (hb : (ot (3 * a + q)).getD 0 / 3 = b) (hc : ∀ s, gQ c (gN ot x d b s)) : ∀ s, gQ c (gN ot x (d + 1) a s) := by
  intro s
  exact gQ_end (Or.inl (gPt_V (fun b s h => gN_Q d b s h) hq (by rw [hb]; exact hc) 3 0 s (by omega) (by omega)))
theorem gN_self {ot : Nat → Option Nat} {x : Nat → Nat → Int32} {a d : Nat} (hd : 0 < d) : ∀ s, gQ a (gN ot x d a s) := by
  intro s
  obtain ⟨e, rfl⟩ : ∃ e, d = e + 1 := ⟨d - 1, by omega⟩
  exact gQ_end (Or.inr rfl)
theorem pIt_l {ot ps : Nat → Option Nat} : ∀ n a, pIt ot ps (n + 1) a = match ps (pIt ot ps n a) with | none => pIt ot ps n a | some k => (ot k).getD 0 / 3 := by
  intro n
  induction n with
  | zero => intro a; rfl
  | succ n ih =>
    intro a
    cases e : ps a with
    | none => rw [pIt_n e, pIt_n e, e]
    | some k =>
      have h1 : ∀ m, pIt ot ps (m + 1) a = pIt ot ps m ((ot k).getD 0 / 3) := by
        intro m
        show (match ps a with | none => a | some k => pIt ot ps m ((ot k).getD 0 / 3)) = _
        rw [e]
      rw [h1 (n + 1), h1 n]
      exact ih _
section Nu
variable {ot ps : Nat → Option Nat} {rd : Nat → Nat} {v : Int32} {R : Nat} {y : Nat → Nat → Int32}
theorem TI.num (T : TI ot ps rd (y 18) v (y 2) (y 14) R) (K : Cab ot (y 18)) {c : Nat} (hc : c < 12) (hb : y 18 c = v) : ∀ n, (pIt ot ps n c < 12 ∧ y 18 (pIt ot ps n c) = v) ∧ ∀ d, n < d → ∀ s, gQ c (gN ot y d (pIt ot ps n c) s) := by
  intro n
  induction n with
  | zero => exact ⟨⟨hc, hb⟩, fun d hd s => gN_self hd s⟩
  | succ n ih =>
    obtain ⟨⟨h1, h2⟩, h3⟩ := ih
    rw [pIt_l]
    cases e : ps (pIt ot ps n c) with
    | none => exact ⟨⟨h1, h2⟩, fun d hd s => h3 d (by omega) s⟩
    | some k =>
      obtain ⟨g1, o, ho, g2⟩ := T.p1 _ k h1 h2 e
      have hk := K.k36 k o ho
      have ho36 := K.t36 k o hk ho
      have hs := K.sy k o hk ho
      dsimp only
      rw [ho]
      show (o / 3 < 12 ∧ y 18 (o / 3) = v) ∧ ∀ d, n + 1 < d → ∀ s, gQ c (gN ot y d (o / 3) s)
      refine ⟨⟨by omega, by rw [← K.bs k o hk ho, g1]; exact h2⟩, fun d hd s => ?_⟩
      obtain ⟨e1, rfl⟩ : ∃ e1, d = e1 + 1 := ⟨d - 1, by omega⟩
      refine gN_V (q := o % 3) (b := pIt ot ps n c) (by omega) ?_ ?_ (h3 e1 (by omega)) s
      · unfold cOf
        rw [show 3 * (o / 3) + o % 3 = o by omega, hs]
        refine decide_eq_true ?_
        rw [g1]; exact g2
      · rw [show 3 * (o / 3) + o % 3 = o by omega, hs]
        exact g1
/-- each node of the bus has its number -/
theorem TI.all (T : TI ot ps rd (y 18) v (y 2) (y 14) R) (K : Cab ot (y 18)) {top : Nat} (ht : ∀ a, a < 12 → y 18 a = v → ps a = none → a = top) {c : Nat} (hc : c < 12) (hb : y 18 c = v) {f : Nat → Int32} : ∃ j, j < 2 ^ 31 ∧ (gN ot y 12 top (0, f)).2 c = nI j := by
  have h1 := T.up K 11 c hc hb (by omega)
  have h2 := ht _ h1.2.2.1 h1.2.1 h1.1
  obtain ⟨j, h3, h4⟩ := (T.num K hc hb 11).2 12 (by decide) (0, f)
  rw [h2] at h3 h4
  have h5 := gN_b (ot := ot) (x := y) 12 top (0, f)
  refine ⟨j, ?_, h4⟩
  have h6 : (4 : Nat) ^ 12 = 16777216 := by decide
  have h7 : (0, f).1 = (0 : Nat) := rfl
  omega
end Nu
/-- two runs of the numbering that differ in rows that it does not see -/
def gRel (s s' : gSt) : Prop := s.1 = s'.1 ∧ ∀ i, i < 12 → s.2 i = s'.2 i
theorem gRel_end {s s' : gSt} (h : gRel s s') (a : Nat) : gRel (gEnd a s) (gEnd a s') := by
  refine ⟨by show s.1 + 1 = s'.1 + 1; rw [h.1], fun i hi => ?_⟩
  show upd s.2 a (nI s.1) i = upd s'.2 a (nI s'.1) i
  unfold upd
  rw [h.1, h.2 i hi]
theorem cOf_c {ot : Nat → Option Nat} {x y : Nat → Nat → Int32} (ht36 : ∀ k t, k < 36 → ot k = some t → t < 36) (h : ∀ a, a < 12 → x 14 a = y 14 a) {a p : Nat} (ha : a < 12) (hp : p < 3) : cOf ot x a p = cOf ot y a p := by
  unfold cOf
  cases e : ot (3 * a + p) with
  | none => rfl
  | some t =>
    have := ht36 _ _ (by omega) e
    dsimp only
    rw [h (t / 3) (by omega)]
theorem gPt_rel {V W : Nat → gSt → gSt} {ot : Nat → Option Nat} {x y : Nat → Nat → Int32} (ht36 : ∀ k t, k < 36 → ot k = some t → t < 36) (h : ∀ a, a < 12 → x 14 a = y 14 a) {a : Nat} (ha : a < 12) (hV : ∀ b s s', b < 12 → gRel s s' → gRel (V b s) (W b s')) : ∀ k p s s', p + k ≤ 3 → gRel s s' → gRel (gPt V ot x a k p s) (gPt W ot y a k p s') := by
  intro k
  induction k with
  | zero => intro p s s' _ q; exact q
  | succ k ih =>
    intro p s s' hp q
    show gRel (gPt V ot x a k (p + 1) (bif cOf ot x a p then _ else s)) (gPt W ot y a k (p + 1) (bif cOf ot y a p then _ else s'))
    rw [cOf_c ht36 h ha (by omega)]
    refine ih _ _ _ (by omega) ?_
    cases e : cOf ot y a p with
    | false => exact q
    | true =>
      refine hV _ _ _ ?_ q
      unfold cOf at e
      cases eo : ot (3 * a + p) with
      | none => rw [eo] at e; cases e
      | some t => have := ht36 _ _ (by omega) eo; show t / 3 < 12; omega
theorem gN_rel {ot : Nat → Option Nat} {x y : Nat → Nat → Int32} (ht36 : ∀ k t, k < 36 → ot k = some t → t < 36) (h : ∀ a, a < 12 → x 14 a = y 14 a) : ∀ d a s s', a < 12 → gRel s s' → gRel (gN ot x d a s) (gN ot y d a s') := by
  intro d
  induction d with
  | zero => intro a s s' _ q; exact q
  | succ d ih => intro a s s' ha q; exact gRel_end (gPt_rel ht36 h ha (fun b s s' hb q => ih b s s' hb q) 3 0 s s' (by omega) q) a
/-- the class's choice of the manager -/
def cMgT (E : Nat → Bool) (nu : Nat → Int32) : Nat → Option Nat
  | 0 => none
  | k + 1 => bif E k then (match cMgT E nu k with
    | none => if -1 < nu k then some k else none
    | some j => if nu j < nu k then some k else some j) else cMgT E nu k
theorem cMg_eq {E E' : Nat → Bool} {nu nu' : Nat → Int32} : ∀ {n : Nat}, (∀ k, k < n → E k = E' k) → (∀ k, k < n → nu k = nu' k) → (∀ k, k < n → E k = true → -1 < nu k) → cMgT E nu n = bstT E' nu' n := by
  intro n
  induction n with
  | zero => intro _ _ _; rfl
  | succ n ih =>
    intro h1 h2 h3
    have h4 := ih (fun k hk => h1 k (by omega)) (fun k hk => h2 k (by omega)) (fun k hk => h3 k (by omega))
    show (bif E n then (match cMgT E nu n with | none => if -1 < nu n then some n else none | some j => if nu j < nu n then some n else some j) else cMgT E nu n) = _
    cases e : E n with
    | false => rw [bst_0 ((h1 n (by omega)) ▸ e)]; exact h4
    | true =>
      have e' : E' n = true := (h1 n (by omega)) ▸ e
      cases eb : bstT E' nu' n with
      | none =>
        rw [bst_1 e' eb, h4, eb]
        exact if_pos (h3 n (by omega) e)
      | some j =>
        have hj := bst_lt eb
        rw [h4, eb]
        show (if nu j < nu n then some n else some j) = _
        by_cases c : nu' n ≤ nu' j
        · rw [bst_2 e' eb c, h2 j (by omega), h2 n (by omega)]
          exact if_neg (Int32.not_lt.mpr c)
        · rw [bst_3 e' eb c, h2 j (by omega), h2 n (by omega)]
          exact if_pos (Int32.not_le.mp c)
theorem fst_u {P : Nat → Bool} {t : Nat} : ∀ {d i : Nat}, i ≤ t → t < i + d → P t = true → (∀ j, j < i + d → P j = true → j = t) → fstF P d i = some t := by
  intro d
  induction d with
  | zero => intro i h1 h2; omega
  | succ d ih =>
    intro i h1 h2 h3 h4
    show (bif P i then some i else fstF P d (i + 1)) = some t
    cases e : P i with
    | true => rw [h4 i (by omega) e]; rfl
    | false =>
      have hne : i ≠ t := fun z => by rw [z, h3] at e; cases e
      exact ih (by omega) (by omega) h3 (fun j hj => h4 j (by omega))
