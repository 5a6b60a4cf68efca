/-! buses: passes over the cables -/
theorem cnt_mono {P Q : Nat → Bool} : ∀ {k : Nat}, (∀ i, i < k → P i = true → Q i = true) → cntT P k ≤ cntT Q k := by
  intro k
  induction k with
  | zero => intro _; exact Nat.le_refl _
  | succ k ih =>
    intro h
    have h1 := ih (fun i hi => h i (by omega))
    cases e : P k with
    | true => rw [cnt_1 e, cnt_1 (h k (by omega) e)]; omega
    | false =>
      rw [cnt_0 e]
      cases e2 : Q k with
      | true => rw [cnt_1 e2]; omega
      | false => rw [cnt_0 e2]; omega
theorem cnt_strict {P Q : Nat → Bool} : ∀ {k : Nat}, (∀ i, i < k → P i = true → Q i = true) → (∃ i, i < k ∧ P i = false ∧ Q i = true) → cntT P k < cntT Q k := by
  intro k
  induction k with
  | zero => intro _ ⟨i, hi, _⟩; omega
  | succ k ih =>
    intro h ⟨i, hi, h1, h2⟩
    have hm := cnt_mono (P := P) (Q := Q) (k := k) (fun i hi => h i (by omega))
    by_cases e : i = k
    · subst e
      rw [cnt_0 h1, cnt_1 h2]; omega
    · have h3 := ih (fun i hi => h i (by omega)) ⟨i, by omega, h1, h2⟩
      cases e1 : P k with
      | true => rw [cnt_1 e1, cnt_1 (h k (by omega) e1)]; omega
      | false =>
        rw [cnt_0 e1]
        cases e2 : Q k with
        | true => rw [cnt_1 e2]; omega
        | false => rw [cnt_0 e2]; omega
theorem any_of {P : Nat → Bool} : ∀ {k i : Nat}, i < k → P i = true → anyT P k = true := by
  intro k
  induction k with
  | zero => intro i hi; omega
  | succ k ih =>
    intro i hi h
    show (anyT P k || P k) = true
    by_cases e : i = k
    · rw [e] at h; rw [h, Bool.or_true]
    · rw [ih (by omega) h, Bool.true_or]
theorem any_ex {P : Nat → Bool} : ∀ {k : Nat}, anyT P k = true → ∃ i, i < k ∧ P i = true := by
  intro k
  induction k with
  | zero => intro h; cases h
  | succ k ih =>
    intro h
    have h' : (anyT P k || P k) = true := h
    cases e : P k with
    | true => exact ⟨k, by omega, e⟩
    | false =>
      rw [e, Bool.or_false] at h'
      obtain ⟨i, hi, h1⟩ := ih h'
      exact ⟨i, by omega, h1⟩
theorem any_n {P : Nat → Bool} {k : Nat} (h : anyT P k = false) {i : Nat} (hi : i < k) : P i = false := by
  cases e : P i with
  | true => rw [any_of hi e] at h; cases h
  | false => rfl
theorem any_f {P : Nat → Bool} {k : Nat} (h : ∀ i, i < k → P i = false) : anyT P k = false := by
  cases e : anyT P k with
  | false => rfl
  | true =>
    obtain ⟨i, hi, h1⟩ := any_ex e
    rw [h i hi] at h1; cases h1
/-- b is reached from a by n cables or fewer -/
def rB (ot : Nat → Option Nat) (b : Nat) : Nat → Nat → Bool
  | 0, a => decide (a = b)
  | n + 1, a => rB ot b n a || anyT (fun p => match ot (3 * a + p) with | none => false | some t => rB ot b n (t / 3)) 3
theorem rB_up {ot : Nat → Option Nat} {b n a : Nat} (h : rB ot b n a = true) : rB ot b (n + 1) a = true := by
  show (rB ot b n a || _) = true
  rw [h, Bool.true_or]
theorem rB_le {ot : Nat → Option Nat} {b n a : Nat} (h : rB ot b n a = true) : ∀ d, rB ot b (n + d) a = true := by
  intro d
  induction d with
  | zero => exact h
  | succ d ih => exact rB_up ih
theorem rB_st {ot : Nat → Option Nat} {b n k t : Nat} (ho : ot k = some t) (h : rB ot b n (t / 3) = true) : rB ot b (n + 1) (k / 3) = true := by
  show (_ || anyT _ 3) = true
  rw [Bool.or_eq_true]
  right
  refine any_of (i := k % 3) (by omega) ?_
  show (match ot (3 * (k / 3) + k % 3) with | none => false | some t => rB ot b n (t / 3)) = true
  rw [show 3 * (k / 3) + k % 3 = k by omega, ho]
  exact h
theorem rB_ex {ot : Nat → Option Nat} {b n a : Nat} (h : rB ot b (n + 1) a = true) : rB ot b n a = true ∨ ∃ k t, k / 3 = a ∧ ot k = some t ∧ rB ot b n (t / 3) = true := by
  have h' : (rB ot b n a || anyT (fun p => match ot (3 * a + p) with | none => false | some t => rB ot b n (t / 3)) 3) = true := h
  rw [Bool.or_eq_true] at h'
  rcases h' with h' | h'
  · exact Or.inl h'
  · obtain ⟨p, hp, h1⟩ := any_ex h'
    right
    cases e : ot (3 * a + p) with
    | none => rw [e] at h1; cases h1
    | some t => rw [e] at h1; exact ⟨3 * a + p, t, by omega, e, h1⟩
theorem rB_stab {ot : Nat → Option Nat} (ht36 : ∀ k t, k < 36 → ot k = some t → t < 36) {b n : Nat} (h : ∀ a, a < 12 → rB ot b (n + 1) a = true → rB ot b n a = true) : ∀ d a, a < 12 → rB ot b (n + d) a = true → rB ot b n a = true := by
  intro d
  induction d with
  | zero => intro a _ q; exact q
  | succ d ih =>
    intro a ha q
    rcases rB_ex (n := n + d) q with q | ⟨k, t, e1, e2, e3⟩
    · exact ih a ha q
    · have := ht36 k t (by omega) e2
      have h3 := ih (t / 3) (by omega) e3
      exact h a ha (e1 ▸ rB_st e2 h3)
theorem rB_cnt {ot : Nat → Option Nat} (ht36 : ∀ k t, k < 36 → ot k = some t → t < 36) {b : Nat} (hb : b < 12) : ∀ n, n + 1 ≤ cntT (rB ot b n) 12 ∨ ∀ d a, a < 12 → rB ot b (n + d) a = true → rB ot b n a = true := by
  intro n
  induction n with
  | zero =>
    left
    have h0 : cntT (fun _ => false) 12 < cntT (rB ot b 0) 12 := cnt_strict (fun _ _ e => by cases e) ⟨b, hb, rfl, decide_eq_true rfl⟩
    omega
  | succ n ih =>
    rcases ih with ih | ih
    · by_cases h : ∀ a, a < 12 → rB ot b (n + 1) a = true → rB ot b n a = true
      · right
        intro d a ha q
        have h1 := rB_stab ht36 h (d + 1) a ha (by rw [show n + (d + 1) = n + 1 + d by omega]; exact q)
        exact rB_up h1
      · left
        have h2 : ∃ a, a < 12 ∧ rB ot b n a = false ∧ rB ot b (n + 1) a = true := by
          refine Classical.byContradiction (fun hn => h (fun a ha q => ?_))
          cases e : rB ot b n a with
          | true => rfl
          | false => exact absurd ⟨a, ha, e, q⟩ hn
        have h3 := cnt_strict (P := rB ot b n) (Q := rB ot b (n + 1)) (k := 12) (fun i _ q => rB_up q) h2
        omega
    · right
      intro d a ha q
      exact rB_up (ih (d + 1) a ha (by rw [show n + (d + 1) = n + 1 + d by omega]; exact q))
theorem cnt_full {P : Nat → Bool} : ∀ {k : Nat}, k ≤ cntT P k → ∀ i, i < k → P i = true := by
  intro k
  induction k with
  | zero => intro _ i hi; omega
  | succ k ih =>
    intro h i hi
    have h1 := cntT_le P k
    cases e : P k with
    | true =>
      rw [cnt_1 e] at h
      by_cases e2 : i = k
      · rw [e2]; exact e
      · exact ih (by omega) i (by omega)
    | false => rw [cnt_0 e] at h; omega
theorem rB_11 {ot : Nat → Option Nat} (ht36 : ∀ k t, k < 36 → ot k = some t → t < 36) {b m a : Nat} (hb : b < 12) (ha : a < 12) (h : rB ot b m a = true) : rB ot b 11 a = true := by
  have h1 := rB_le h 11
  rcases rB_cnt ht36 hb 11 with q | q
  · exact cnt_full q a ha
  · exact q m a ha (by rw [Nat.add_comm]; exact h1)
theorem gP_st {ot : Nat → Option Nat} {g : Nat → Nat} {k t : Nat} (ho : ot k = some t) : ∀ {m}, k < m → gP ot g m (k / 3) ≤ g (t / 3) := by
  intro m
  induction m with
  | zero => intro h; omega
  | succ m ih =>
    intro h
    by_cases e : k = m
    · subst e
      show gS ot (gP ot g k) k (k / 3) ≤ _
      have h1 := gP_le ot g k (t / 3)
      unfold gS
      rw [ho]
      dsimp only
      split
      · show (if k / 3 = k / 3 then gP ot g k (t / 3) else _) ≤ _
        rw [if_pos rfl]; exact h1
      · omega
    · exact Nat.le_trans (gS_le ot _ m _) (ih (by omega))
theorem itP_le (ot : Nat → Option Nat) : ∀ n a, itP ot n a ≤ a := by
  intro n
  induction n with
  | zero => intro a; exact Nat.le_refl _
  | succ n ih => intro a; exact Nat.le_trans (gP_le ot _ 36 a) (ih a)
theorem itP_low {ot : Nat → Option Nat} (ht36 : ∀ k t, k < 36 → ot k = some t → t < 36) {b : Nat} : ∀ n a, a < 12 → rB ot b n a = true → itP ot n a ≤ b := by
  intro n
  induction n with
  | zero => intro a _ h; have h1 : a = b := of_decide_eq_true h; rw [h1]; exact Nat.le_refl _
  | succ n ih =>
    intro a ha h
    rcases rB_ex h with h | ⟨k, t, e1, e2, e3⟩
    · exact Nat.le_trans (gP_le ot _ 36 a) (ih a ha h)
    · have h3 := ht36 k t (by omega) e2
      have h1 := ih _ (by omega) e3
      have h2 := gP_st (g := itP ot n) e2 (m := 36) (by omega)
      rw [e1] at h2
      exact Nat.le_trans h2 h1
theorem gP_conn {ot : Nat → Option Nat} {P : Nat → Nat → Prop} (hP : ∀ k t b, k < 36 → ot k = some t → P (t / 3) b → P (k / 3) b) {g : Nat → Nat} (hg : ∀ a, P a (g a)) : ∀ m, m ≤ 36 → ∀ a, P a (gP ot g m a) := by
  intro m
  induction m with
  | zero => intro _ a; exact hg a
  | succ m ih =>
    intro hm a
    have h1 := ih (by omega)
    show P a (gS ot (gP ot g m) m a)
    unfold gS
    cases e : ot m with
    | none => exact h1 a
    | some t =>
      dsimp only
      split
      · show P a (if a = m / 3 then gP ot g m (t / 3) else gP ot g m a)
        split
        · rename_i e2
          rw [e2]
          exact hP m t _ (by omega) e (h1 _)
        · exact h1 a
      · exact h1 a
theorem itP_conn {ot : Nat → Option Nat} {P : Nat → Nat → Prop} (hP : ∀ k t b, k < 36 → ot k = some t → P (t / 3) b → P (k / 3) b) (h0 : ∀ a, P a a) : ∀ n a, P a (itP ot n a) := by
  intro n
  induction n with
  | zero => exact h0
  | succ n ih => exact gP_conn hP ih 36 (Nat.le_refl _)
/-- what is the same at both ends of each cable is the same in the whole bus -/
theorem itP_inv {α : Type} {ot : Nat → Option Nat} {f : Nat → α} (hf : ∀ k t, k < 36 → ot k = some t → f (k / 3) = f (t / 3)) (n a : Nat) : f a = f (itP ot n a) :=
  itP_conn (P := fun a b => f a = f b) (fun k t b hk ho h => (hf k t hk ho).trans h) (fun _ => rfl) n a
theorem itP_R {ot : Nat → Option Nat} (n a : Nat) : ∃ m, rB ot (itP ot n a) m a = true :=
  itP_conn (P := fun a b => ∃ m, rB ot b m a = true) (fun k t b _ ho ⟨m, h⟩ => ⟨m + 1, rB_st ho h⟩) (fun a => ⟨0, decide_eq_true rfl⟩) n a
theorem itP_out {ot : Nat → Option Nat} (n : Nat) {a : Nat} (ha : 12 ≤ a) : itP ot n a = a :=
  itP_conn (P := fun a b => 12 ≤ a → b = a) (fun k t b hk ho h q => by omega) (fun a _ => rfl) n a ha
theorem fx_low {ot : Nat → Option Nat} (ht36 : ∀ k t, k < 36 → ot k = some t → t < 36) {g : Nat → Nat} (hfx : gP ot g 36 = g) (hg : ∀ a, g a ≤ a) {b : Nat} : ∀ n a, a < 12 → rB ot b n a = true → g a ≤ b := by
  intro n
  induction n with
  | zero => intro a _ h; have h1 : a = b := of_decide_eq_true h; rw [← h1]; exact hg a
  | succ n ih =>
    intro a ha h
    rcases rB_ex h with h | ⟨k, t, e1, e2, e3⟩
    · exact ih a ha h
    · have h3 := ht36 k t (by omega) e2
      have h1 := ih _ (by omega) e3
      have h2 := gP_st (g := g) e2 (m := 36) (by omega)
      rw [e1, hfx] at h2
      exact Nat.le_trans h2 h1
theorem itP_11 {ot : Nat → Option Nat} (ht36 : ∀ k t, k < 36 → ot k = some t → t < 36) {N : Nat} (hfx : gP ot (itP ot N) 36 = itP ot N) : itP ot N = itP ot 11 := by
  funext a
  by_cases ha : a < 12
  · have hN := itP_le ot N a
    have h11 := itP_le ot 11 a
    obtain ⟨m1, h1⟩ := itP_R (ot := ot) N a
    obtain ⟨m2, h2⟩ := itP_R (ot := ot) 11 a
    have e1 := fx_low ht36 hfx (itP_le ot N) m2 a ha h2
    have e2 := itP_low ht36 11 a ha (rB_11 ht36 (by omega) ha h1)
    omega
  · rw [itP_out N (by omega), itP_out 11 (by omega)]
/-- the bus of a node: both ends of a cable are in one bus -/
theorem bus_c {ot : Nat → Option Nat} (ht36 : ∀ k t, k < 36 → ot k = some t → t < 36) (hsy : ∀ k t, k < 36 → ot k = some t → ot t = some k) {k t : Nat} (hk : k < 36) (ho : ot k = some t) : itP ot 11 (k / 3) = itP ot 11 (t / 3) := by
  have low : ∀ k t, k < 36 → ot k = some t → itP ot 11 (k / 3) ≤ itP ot 11 (t / 3) := by
    intro k t hk ho
    have ht := ht36 k t hk ho
    obtain ⟨m, h⟩ := itP_R (ot := ot) 11 (t / 3)
    have hb := itP_le ot 11 (t / 3)
    exact itP_low ht36 11 _ (by omega) (rB_11 ht36 (by omega) (by omega) (rB_st ho h))
  have ht := ht36 k t hk ho
  exact Nat.le_antisymm (low k t hk ho) (low t k ht (hsy k t hk ho))
theorem bus_id {ot : Nat → Option Nat} (ht36 : ∀ k t, k < 36 → ot k = some t → t < 36) (hsy : ∀ k t, k < 36 → ot k = some t → ot t = some k) (a : Nat) : itP ot 11 (itP ot 11 a) = itP ot 11 a :=
  (itP_inv (fun _ _ hk ho => bus_c ht36 hsy hk ho) 11 a).symm
