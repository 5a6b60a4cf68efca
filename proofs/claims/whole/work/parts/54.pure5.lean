/-! the rounds of both sides -/
theorem cnt3 {P : Nat → Bool} (h : cntT P 3 = 1) {p q : Nat} (hp : p < 3) (hq : q < 3) (e1 : P p = true) (e2 : P q = true) : p = q := by
  have h' : (((0 + (bif P 0 then 1 else 0)) + (bif P 1 then 1 else 0)) + (bif P 2 then 1 else 0)) = 1 := h
  rcases (show p = 0 ∨ p = 1 ∨ p = 2 by omega) with z | z | z <;> rcases (show q = 0 ∨ q = 1 ∨ q = 2 by omega) with y | y | y <;> rw [z] at e1 ⊢ <;> rw [y] at e2 ⊢ <;> rw [e1, e2] at h' <;> simp only [cond_true] at h' <;> omega
theorem lst_ex {P : Nat → Bool} : ∀ {k p : Nat}, lstT P k = some p → p < k ∧ P p = true := by
  intro k
  induction k with
  | zero => intro p h; cases h
  | succ k ih =>
    intro p h
    cases e : P k with
    | true => rw [lst_1 e] at h; cases h; exact ⟨by omega, e⟩
    | false => rw [lst_0 e] at h; have := ih h; exact ⟨by omega, this.2⟩
theorem lst_none {P : Nat → Bool} : ∀ {k : Nat}, lstT P k = none → ∀ i, i < k → P i = false := by
  intro k
  induction k with
  | zero => intro _ i hi; omega
  | succ k ih =>
    intro h i hi
    cases e : P k with
    | true => rw [lst_1 e] at h; cases h
    | false =>
      rw [lst_0 e] at h
      by_cases e2 : i = k
      · rw [e2]; exact e
      · exact ih h i (by omega)
def asF (op : Nat → Int32) (ask : Nat → Bool) (a : Nat) : Option Nat := if a < 12 ∧ ask a = true then (match lstT (fun p => decide (¬ op (3 * a + p) = 0)) 3 with
  | none => none
  | some p => some (3 * a + p)) else none
theorem asF_f {op : Nat → Int32} {ask : Nat → Bool} {a k : Nat} (h : asF op ask a = some k) : a < 12 ∧ ask a = true ∧ k / 3 = a ∧ k < 36 ∧ ¬ op k = 0 := by
  unfold asF at h
  split at h
  · rename_i h1
    cases e : lstT (fun p => decide (¬ op (3 * a + p) = 0)) 3 with
    | none => rw [e] at h; cases h
    | some p =>
      rw [e] at h
      cases h
      have h2 := lst_ex e
      exact ⟨h1.1, h1.2, by omega, by omega, of_decide_eq_true h2.2⟩
  · cases h
theorem asF_on {op : Nat → Int32} {ask : Nat → Bool} {a k : Nat} (h : asF op ask a = some k) (hc : cntT (fun p => decide (¬ op (3 * a + p) = 0)) 3 = 1) : ∀ k', k' / 3 = a → ¬ op k' = 0 → k' = k := by
  intro k' h1 h2
  obtain ⟨q1, q2, q3, q4, q5⟩ := asF_f h
  have h3 := cnt3 hc (p := k' % 3) (q := k % 3) (by omega) (by omega) (decide_eq_true (by rw [show 3 * a + k' % 3 = k' by omega]; exact h2)) (decide_eq_true (by rw [show 3 * a + k % 3 = k by omega]; exact q5))
  omega
theorem asF_t {op : Nat → Int32} {ask : Nat → Bool} {k : Nat} (hk : k < 36) (h : ¬ op k = 0) (ha : ask (k / 3) = true) (hc : cntT (fun p => decide (¬ op (3 * (k / 3) + p) = 0)) 3 = 1) : asF op ask (k / 3) = some k := by
  cases e : asF op ask (k / 3) with
  | some j => rw [asF_on e hc k rfl h]
  | none =>
    unfold asF at e
    rw [if_pos ⟨by omega, ha⟩] at e
    cases e2 : lstT (fun p => decide (¬ op (3 * (k / 3) + p) = 0)) 3 with
    | some p => rw [e2] at e; cases e
    | none =>
      have := lst_none e2 (k % 3) (by omega)
      rw [show 3 * (k / 3) + k % 3 = k by omega] at this
      exact absurd h (of_decide_eq_false this)
theorem cnt_c {P Q : Nat → Bool} : ∀ {k : Nat}, (∀ i, i < k → P i = Q i) → cntT P k = cntT Q k := by
  intro k
  induction k with
  | zero => intro _; rfl
  | succ k ih =>
    intro h
    show cntT P k + _ = cntT Q k + _
    rw [ih (fun i hi => h i (by omega)), h k (by omega)]
theorem lst_c {P Q : Nat → Bool} : ∀ {k : Nat}, (∀ i, i < k → P i = Q i) → lstT P k = lstT Q k := by
  intro k
  induction k with
  | zero => intro _; rfl
  | succ k ih =>
    intro h
    show (bif P k then some k else lstT P k) = (bif Q k then some k else lstT Q k)
    rw [ih (fun i hi => h i (by omega)), h k (by omega)]
theorem any_c {P Q : Nat → Bool} : ∀ {k : Nat}, (∀ i, i < k → P i = Q i) → anyT P k = anyT Q k := by
  intro k
  induction k with
  | zero => intro _; rfl
  | succ k ih =>
    intro h
    show (anyT P k || P k) = (anyT Q k || Q k)
    rw [ih (fun i hi => h i (by omega)), h k (by omega)]
def cAsks (z : Nat → Nat → Int32) (r : Int32) (a : Nat) : Bool := decide (cntT (fun k => decide (¬ z 33 (3 * a + k) = 0)) 3 = 1) && (decide (z 5 a = 0) || decide (nI 4 < r))
def cAs (z : Nat → Nat → Int32) (r : Int32) (k : Nat) : Nat → Nat → Int32 := ur z 34 (fun i => if i < k then oi (asF (z 33) (cAsks z r) i) else z 34 i)
def cRound (ot : Nat → Option Nat) (z : Nat → Nat → Int32) (r : Int32) : Nat → Nat → Int32 := cCl ot (asF (z 33) (cAsks z r)) (cAs z r 12) 12
abbrev ER (v : Int32) (x z : Nat → Nat → Int32) : Prop :=
  (∀ k, k < 36 → z 33 k = if x 18 (k / 3) = v then x 2 k else 0) ∧
  (∀ a, a < 12 → z 14 a = x 14 a) ∧
  (∀ a, a < 12 → z 4 a = x 4 a) ∧
  (∀ a, a < 12 → z 3 a = x 3 a) ∧
  (∀ a, a < 12 → z 5 a = x 8 a)
theorem ER.o {v : Int32} {x z : Nat → Nat → Int32} (h : ER v x z) : ∀ k, k < 36 → z 33 k = if x 18 (k / 3) = v then x 2 k else 0 := h.1
theorem ER.pa {v : Int32} {x z : Nat → Nat → Int32} (h : ER v x z) : ∀ a, a < 12 → z 14 a = x 14 a := h.2.1
theorem ER.pl {v : Int32} {x z : Nat → Nat → Int32} (h : ER v x z) : ∀ a, a < 12 → z 4 a = x 4 a := h.2.2.1
theorem ER.bi {v : Int32} {x z : Nat → Nat → Int32} (h : ER v x z) : ∀ a, a < 12 → z 3 a = x 3 a := h.2.2.2.1
theorem ER.ho {v : Int32} {x z : Nat → Nat → Int32} (h : ER v x z) : ∀ a, a < 12 → z 5 a = x 8 a := h.2.2.2.2
theorem ER.as {v : Int32} {x z : Nat → Nat → Int32} (E : ER v x z) (r : Int32) : asF (z 33) (cAsks z r) = asF (x 2) (mAsks x v r) := by
  funext a
  unfold asF
  by_cases ha : a < 12
  · by_cases hb : x 18 a = v
    · have e1 : ∀ p, p < 3 → z 33 (3 * a + p) = x 2 (3 * a + p) := fun p hp => by
        rw [E.o _ (by omega), show (3 * a + p) / 3 = a by omega, if_pos hb]
      have e2 : ∀ p, p < 3 → decide (¬ z 33 (3 * a + p) = 0) = decide (¬ x 2 (3 * a + p) = 0) := fun p hp => by rw [e1 p hp]
      have e3 : cAsks z r a = mAsks x v r a := by
        unfold cAsks mAsks
        rw [cnt_c e2, E.ho a ha, decide_eq_true hb, Bool.true_and]
      rw [lst_c e2, e3]
    · have e1 : ∀ p, p < 3 → decide (¬ z 33 (3 * a + p) = 0) = false := fun p hp => by
        rw [E.o _ (by omega), show (3 * a + p) / 3 = a by omega, if_neg hb]; rfl
      have e2 : cAsks z r a = false := by
        unfold cAsks
        rw [cnt_c (Q := fun _ => false) e1]
        rfl
      have e3 : mAsks x v r a = false := by
        unfold mAsks
        rw [decide_eq_false hb, Bool.false_and]
      rw [if_neg (fun q => by rw [e2] at q; cases q.2), if_neg (fun q => by rw [e3] at q; cases q.2)]
  · rw [if_neg (fun q => ha q.1), if_neg (fun q => ha q.1)]
theorem wS_c {ot as : Nat → Option Nat} {bt bt' : Nat → Int32} (ha : ∀ a k, as a = some k → a < 12) (h : ∀ a, a < 12 → bt a = bt' a) : wS ot as bt = wS ot as bt' := by
  funext a
  unfold wS
  cases e : as a with
  | none => rfl
  | some k =>
    dsimp only
    cases eo : ot k with
    | none => rfl
    | some o =>
      dsimp only
      by_cases e1 : as (o / 3) = some o
      · rw [if_pos e1, if_pos e1, h a (ha a k e), h (o / 3) (ha _ _ e1)]
      · rw [if_neg e1, if_neg e1]
theorem mAs_ne {x : Nat → Nat → Int32} {v r : Int32} {k j : Nat} (h : j ≠ 19) : mAs x v r k j = x j := ur_ne h
theorem cAs_ne {z : Nat → Nat → Int32} {r : Int32} {k j : Nat} (h : j ≠ 34) : cAs z r k j = z j := ur_ne h
theorem nb_c {x y : Nat → Nat → Int32} {a : Nat} (h3 : x 3 a = y 3 a) (h4 : x 4 a = y 4 a) : (mNB x a).1 = (mNB y a).1 := by
  unfold mNB
  rw [h3, h4]
theorem mAsks_c {x : Nat → Nat → Int32} {v r : Int32} {a : Nat} (h : mAsks x v r a = true) : x 18 a = v ∧ cntT (fun p => decide (¬ x 2 (3 * a + p) = 0)) 3 = 1 := by
  unfold mAsks at h
  rw [Bool.and_eq_true, Bool.and_eq_true] at h
  exact ⟨of_decide_eq_true h.1, of_decide_eq_true h.2.1⟩
section Rr
variable {ot ps : Nat → Option Nat} {rd : Nat → Nat} {v : Int32} {R : Nat} {x z : Nat → Nat → Int32}
theorem round_M (K : Cab ot (x 18)) (T : TI ot ps rd (x 18) v (x 2) (x 14) R) (r : Int32) : mRound ot x v r = pwX 2 ot (mAs x v r 12) (wS ot (asF (x 2) (mAsks x v r)) (fun a => (mNB x a).1)) (cC ot (asF (x 2) (mAsks x v r))) := by
  have a0 : ∀ a k, asF (x 2) (mAsks x v r) a = some k → k / 3 = a ∧ k < 36 ∧ ¬ x 2 k = 0 ∧ x 18 a = v := by
    intro a k h
    obtain ⟨q1, q2, q3, q4, q5⟩ := asF_f h
    exact ⟨q3, q4, q5, (mAsks_c q2).1⟩
  have H := T.rdh K a0
  unfold mRound
  have e19 : ∀ a, a < 12 → mAs x v r 12 19 a = zi (mAsks x v r a) := fun a ha => (congrFun (ur_eq _ _ _) a).trans (if_pos ha)
  have h := rd_M36 (x := mAs x v r 12) (as := asF (x 2) (mAsks x v r)) (v := v) (ot := ot) H (fun k hk _ h2 h19 => by
      rw [e19 _ (by omega)] at h19
      have e : mAsks x v r (k / 3) = true := by
        cases e : mAsks x v r (k / 3) with
        | true => rfl
        | false => rw [e] at h19; exact absurd rfl h19
      exact asF_t hk h2 e (mAsks_c e).2) (fun a k h => by
      obtain ⟨q1, q2, q3, q4, q5⟩ := asF_f h
      rw [e19 a q1, q2]
      decide)
  exact h
theorem round_C (K : Cab ot (x 18)) (T : TI ot ps rd (x 18) v (x 2) (x 14) R) (E : ER v x z) (r : Int32) : cRound ot z r = pwX 33 ot (cAs z r 12) (wS ot (asF (x 2) (mAsks x v r)) (fun a => (mNB x a).1)) (cC ot (asF (x 2) (mAsks x v r))) := by
  have a0 : ∀ a k, asF (x 2) (mAsks x v r) a = some k → k / 3 = a ∧ k < 36 ∧ ¬ x 2 k = 0 ∧ x 18 a = v := by
    intro a k h
    obtain ⟨q1, q2, q3, q4, q5⟩ := asF_f h
    exact ⟨q3, q4, q5, (mAsks_c q2).1⟩
  have H := T.rdh K a0
  unfold cRound
  rw [E.as r, rd_C12 H]
  rw [wS_c (bt := fun a => (mNB (cAs z r 12) a).1) (bt' := fun a => (mNB x a).1) (fun a k h => (asF_f h).1) (fun a ha => nb_c (E.bi a ha) (E.pl a ha))]
/-- a round keeps both sides together, and the tree's facts -/
theorem round_E (K : Cab ot (x 18)) (T : TI ot ps rd (x 18) v (x 2) (x 14) R) (E : ER v x z) (r : Int32) : ER v (mRound ot x v r) (cRound ot z r) ∧ ∃ ps' rd', TI ot ps' rd' (mRound ot x v r 18) v (mRound ot x v r 2) (mRound ot x v r 14) (R + 1) := by
  have a0 : ∀ a k, asF (x 2) (mAsks x v r) a = some k → k / 3 = a ∧ k < 36 ∧ ¬ x 2 k = 0 ∧ x 18 a = v := by
    intro a k h
    obtain ⟨q1, q2, q3, q4, q5⟩ := asF_f h
    exact ⟨q3, q4, q5, (mAsks_c q2).1⟩
  have H := T.rdh K a0
  rw [round_M K T r, round_C K T E r]
  have hb : ∀ a b, ¬ (mNB x a).1 = nI 1 → ¬ (mNB x b).1 = nI 1 → (mNB x a).1 = (mNB x b).1 := by
    intro a b h1 h2
    rcases bt_01 x a with q | q
    · rcases bt_01 x b with q' | q'
      · rw [q, q']
      · exact absurd q' h2
    · exact absurd q h1
  have T' := T.step K H (fun a k h => asF_on h (mAsks_c (asF_f h).2.1).2) (bt := fun a => (mNB x a).1) hb
  generalize hw : wS ot (asF (x 2) (mAsks x v r)) (fun a => (mNB x a).1) = w at T' ⊢
  generalize cC ot (asF (x 2) (mAsks x v r)) = c
  have e18 : pwX 2 ot (mAs x v r 12) w c 18 = x 18 := pwX_ot (by decide) (by decide) (by decide)
  have e2 : pwX 2 ot (mAs x v r 12) w c 2 = pwO ot w (x 2) := pwX_ro (by decide) (by decide)
  have e14 : pwX 2 ot (mAs x v r 12) w c 14 = pwP ot w (x 14) := pwX_14
  have e4 : pwX 2 ot (mAs x v r 12) w c 4 = pwL c (x 4) := pwX_4
  have e3 : pwX 2 ot (mAs x v r 12) w c 3 = x 3 := pwX_ot (by decide) (by decide) (by decide)
  have e8 : pwX 2 ot (mAs x v r 12) w c 8 = x 8 := pwX_ot (by decide) (by decide) (by decide)
  have z33 : pwX 33 ot (cAs z r 12) w c 33 = pwO ot w (z 33) := pwX_ro (by decide) (by decide)
  have z14 : pwX 33 ot (cAs z r 12) w c 14 = pwP ot w (z 14) := pwX_14
  have z4 : pwX 33 ot (cAs z r 12) w c 4 = pwL c (z 4) := pwX_4
  have z3 : pwX 33 ot (cAs z r 12) w c 3 = z 3 := pwX_ot (by decide) (by decide) (by decide)
  have z5 : pwX 33 ot (cAs z r 12) w c 5 = z 5 := pwX_ot (by decide) (by decide) (by decide)
  refine ⟨⟨?_, ?_, ?_, ?_, ?_⟩, psN w ps, rdN w rd R, ?_⟩
  · intro k hk
    rw [z33, e18, e2]
    unfold pwO
    rw [E.o k hk]
    cases (decide (w (k / 3) = some k) || oW ot w k) with
    | true =>
      show nI 0 = if x 18 (k / 3) = v then nI 0 else 0
      split
      · rfl
      · exact nI_0
    | false => rfl
  · intro a ha
    rw [z14, e14]
    unfold pwP
    rw [E.pa a ha]
  · intro a ha
    rw [z4, e4]
    unfold pwL
    rw [E.pl a ha]
  · intro a ha
    rw [z3, e3]
    exact E.bi a ha
  · intro a ha
    rw [z5, e8]
    exact E.ho a ha
  · rw [e18, e2, e14]
    exact T'
theorem round_x {j : Nat} (K : Cab ot (x 18)) (T : TI ot ps rd (x 18) v (x 2) (x 14) R) (r : Int32) (h4 : j ≠ 4) (h14 : j ≠ 14) (h2 : j ≠ 2) (h19 : j ≠ 19) : mRound ot x v r j = x j := by
  rw [round_M K T r, pwX_ot h4 h14 h2, mAs_ne h19]
theorem round_z {j : Nat} (K : Cab ot (x 18)) (T : TI ot ps rd (x 18) v (x 2) (x 14) R) (E : ER v x z) (r : Int32) (h4 : j ≠ 4) (h14 : j ≠ 14) (h2 : j ≠ 33) (h19 : j ≠ 34) : cRound ot z r j = z j := by
  rw [round_C K T E r, pwX_ot h4 h14 h2, cAs_ne h19]
end Rr
def cAny (z : Nat → Nat → Int32) : Bool := anyT (fun k => decide (¬ z 33 k = 0)) 36
def cRs (ot : Nat → Option Nat) (z : Nat → Nat → Int32) : Nat → (Nat → Nat → Int32)
  | 0 => z
  | k + 1 => cRound ot (cRs ot z k) (nI (k + 1))
def cRn (ot : Nat → Option Nat) (z : Nat → Nat → Int32) : Nat → Nat → Nat
  | 0, k => k
  | d + 1, k => bif cAny (cRs ot z k) then cRn ot z d (k + 1) else k
theorem ER.any {v : Int32} {x z : Nat → Nat → Int32} (E : ER v x z) : cAny z = mAny x v := by
  unfold cAny mAny
  refine any_c (fun k hk => ?_)
  rw [E.o k hk]
  by_cases hb : x 18 (k / 3) = v
  · rw [if_pos hb]
    exact decide_eq_decide.mpr ⟨fun q => ⟨hb, q⟩, fun q => q.2⟩
  · rw [if_neg hb]
    rw [decide_eq_false (fun q => q rfl), decide_eq_false (fun q => hb q.1)]
section Rs
variable {ot : Nat → Option Nat} {v : Int32} {x z : Nat → Nat → Int32}
theorem rounds_E (K : Cab ot (x 18)) (T : ∃ ps rd, TI ot ps rd (x 18) v (x 2) (x 14) 0) (E : ER v x z) : ∀ k, ER v (mRs ot v x k) (cRs ot z k) ∧ (∃ ps rd, TI ot ps rd (mRs ot v x k 18) v (mRs ot v x k 2) (mRs ot v x k 14) k) ∧ (∀ j, j ≠ 4 → j ≠ 14 → j ≠ 2 → j ≠ 19 → mRs ot v x k j = x j) ∧ ∀ j, j ≠ 4 → j ≠ 14 → j ≠ 33 → j ≠ 34 → cRs ot z k j = z j := by
  intro k
  induction k with
  | zero => exact ⟨E, T, fun _ _ _ _ _ => rfl, fun _ _ _ _ _ => rfl⟩
  | succ k ih =>
    obtain ⟨h1, ⟨ps, rd, h2⟩, h3, h4⟩ := ih
    have e18 : mRs ot v x k 18 = x 18 := h3 18 (by decide) (by decide) (by decide) (by decide)
    have K' : Cab ot (mRs ot v x k 18) := by rw [e18]; exact K
    have h5 := round_E K' h2 h1 (nI (k + 1))
    refine ⟨h5.1, h5.2, fun j j4 j14 j2 j19 => ?_, fun j j4 j14 j2 j19 => ?_⟩
    · exact (round_x K' h2 (nI (k + 1)) j4 j14 j2 j19).trans (h3 j j4 j14 j2 j19)
    · exact (round_z K' h2 h1 (nI (k + 1)) j4 j14 j2 j19).trans (h4 j j4 j14 j2 j19)
theorem rn_E (K : Cab ot (x 18)) (T : ∃ ps rd, TI ot ps rd (x 18) v (x 2) (x 14) 0) (E : ER v x z) : ∀ d k, cRn ot z d k = mRn ot v x d k := by
  intro d
  induction d with
  | zero => intro k; rfl
  | succ d ih =>
    intro k
    show (bif cAny (cRs ot z k) then cRn ot z d (k + 1) else k) = (bif mAny (mRs ot v x k) v then mRn ot v x d (k + 1) else k)
    rw [(rounds_E K T E k).1.any, ih]
end Rs
