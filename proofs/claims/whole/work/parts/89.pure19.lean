/-! one call: both sides answer the same, and go on together -/
section Steps
variable {ot : Nat → Option Nat} {b : Nat} {S : Nat → Bool} {x : Nat → Nat → Int32} {c : CS} {ck sn : Nat}
theorem ou_c {v : Int32} {k : Nat} (hk : k < 2 ^ 31) (h : ¬ ou v k) : cl v < k ∧ v = nI (cl v) := by
  obtain ⟨j, hj, e⟩ := ou_n hk h
  have e2 : cl v = j := by rw [e]; exact cl_nI (by omega)
  rw [e2]
  exact ⟨hj, e⟩
theorem rg_n {v : Int32} {lo hi : Nat} (hl : lo < 2 ^ 31) (hh : hi + 1 < 2 ^ 31) (h : ¬ (v < nI lo ∨ nI hi < v)) : lo ≤ cl v ∧ cl v ≤ hi ∧ v = nI (cl v) := by
  have h1 : ¬ ou v (hi + 1) := by
    intro z
    rcases z with z | z
    · exact h (Or.inl (Int32.lt_of_lt_of_le z (nI_pos' hl)))
    · exact h (Or.inr (Int32.lt_of_lt_of_le (nI_lt (Nat.lt_succ_self _) hh) z))
  obtain ⟨a1, a2⟩ := ou_c hh h1
  refine ⟨?_, by omega, a2⟩
  rcases Nat.lt_or_ge (cl v) lo with z | z
  · exact absurd (Or.inl (by rw [a2]; exact nI_lt z hl)) h
  · exact z
theorem fst_some {P : Nat → Bool} : ∀ {d i j : Nat}, fstF P d i = some j → j < i + d ∧ P j = true := by
  intro d
  induction d with
  | zero => intro i j h; cases h
  | succ d ih =>
    intro i j h
    unfold fstF at h
    cases e : P i with
    | true =>
      rw [e] at h
      cases h
      exact ⟨by omega, e⟩
    | false =>
      rw [e] at h
      obtain ⟨h1, h2⟩ := ih h
      exact ⟨by omega, h2⟩
theorem st_plug (K : KT ot b S x c ck sn) (a p0 d q0 : Int32) :
    (plC ot a p0 d q0 = 0 ∧ (mPlug ot x a p0 d q0).2 0 0 = nI 0 ∧ c.1 32 0 + nI 1 = (mPlug ot x a p0 d q0).1 ∧ ∃ ot', KT ot' b S (mPlug ot x a p0 d q0).2 (plZ ot c.1 (cl a) (cl p0) (cl d) (cl q0), c.2.1, c.2.2) ck sn) ∨
    ((plC ot a p0 d q0 = 1 ∨ plC ot a p0 d q0 = 2 ∨ plC ot a p0 d q0 = 3) ∧ (mPlug ot x a p0 d q0).2 0 0 = nI (plC ot a p0 d q0) ∧ KT ot b S (mPlug ot x a p0 d q0).2 c ck sn) := by
  unfold plC mPlug
  by_cases h1 : ou a 12
  · rw [if_pos h1, if_pos h1]; exact Or.inr ⟨Or.inl rfl, rfl, K.th 1⟩
  rw [if_neg h1, if_neg h1]
  by_cases h2 : ou d 12
  · rw [if_pos h2, if_pos h2]; exact Or.inr ⟨Or.inl rfl, rfl, K.th 1⟩
  rw [if_neg h2, if_neg h2]
  by_cases h3 : ou p0 3
  · rw [if_pos h3, if_pos h3]; exact Or.inr ⟨Or.inr (Or.inl rfl), rfl, K.th 2⟩
  rw [if_neg h3, if_neg h3]
  by_cases h4 : ou q0 3
  · rw [if_pos h4, if_pos h4]; exact Or.inr ⟨Or.inr (Or.inl rfl), rfl, K.th 2⟩
  rw [if_neg h4, if_neg h4]
  by_cases h5 : a = d
  · rw [if_pos h5, if_pos h5]; exact Or.inr ⟨Or.inr (Or.inl rfl), rfl, K.th 2⟩
  rw [if_neg h5, if_neg h5]
  cases e1 : ot (3 * cl a + cl p0) with
  | some t => exact Or.inr ⟨Or.inr (Or.inr rfl), rfl, K.th 3⟩
  | none =>
    dsimp only
    cases e2 : ot (3 * cl d + cl q0) with
    | some t => exact Or.inr ⟨Or.inr (Or.inr rfl), rfl, K.th 3⟩
    | none =>
      dsimp only
      obtain ⟨a1, a2⟩ := ou_c (by decide) h1
      obtain ⟨d1, d2⟩ := ou_c (by decide) h2
      obtain ⟨p1, -⟩ := ou_c (by decide) h3
      obtain ⟨q1, -⟩ := ou_c (by decide) h4
      obtain ⟨k1, k2⟩ := K.plug a1 p1 d1 q1 (fun e => h5 (by rw [a2, d2, e])) e1 e2
      exact Or.inl ⟨rfl, rfl, k2, _, k1⟩
theorem st_unplug (K : KT ot b S x c ck sn) (a p0 : Int32) :
    (unC ot a p0 = 0 ∧ (mUnplug ot x a p0).2 0 0 = nI 0 ∧ ∃ t, ot (3 * cl a + cl p0) = some t ∧ nI (t / 3) = (mUnplug ot x a p0).1 ∧ ∃ ot', KT ot' b S (mUnplug ot x a p0).2 (unZ ot c.1 (cl a) (cl p0) t, c.2.1, c.2.2) ck sn) ∨
    ((unC ot a p0 = 1 ∨ unC ot a p0 = 2 ∨ unC ot a p0 = 3) ∧ (mUnplug ot x a p0).2 0 0 = nI (unC ot a p0) ∧ KT ot b S (mUnplug ot x a p0).2 c ck sn) := by
  unfold unC mUnplug
  by_cases h1 : ou a 12
  · rw [if_pos h1, if_pos h1]; exact Or.inr ⟨Or.inl rfl, rfl, K.th 1⟩
  rw [if_neg h1, if_neg h1]
  by_cases h3 : ou p0 3
  · rw [if_pos h3, if_pos h3]; exact Or.inr ⟨Or.inr (Or.inl rfl), rfl, K.th 2⟩
  rw [if_neg h3, if_neg h3]
  obtain ⟨a1, a2⟩ := ou_c (by decide) h1
  obtain ⟨p1, -⟩ := ou_c (by decide) h3
  cases e1 : ot (3 * cl a + cl p0) with
  | none => exact Or.inr ⟨Or.inr (Or.inr rfl), rfl, K.th 3⟩
  | some t => exact Or.inl ⟨rfl, rfl, t, rfl, rfl, _, K.unplug a1 p1 e1⟩
theorem st_reset (K : KT ot b S x c ck sn) (a bits : Int32) (hd ct : Bool) :
    (reC a = 0 ∧ mReset x a bits hd ct 0 0 = nI 0 ∧ KT ot b S (mReset x a bits hd ct) (reZ c.1 (cl a) bits hd ct, c.2.1, c.2.2) ck sn) ∨
    (reC a = 1 ∧ mReset x a bits hd ct 0 0 = nI (reC a) ∧ KT ot b S (mReset x a bits hd ct) c ck sn) := by
  unfold reC mReset
  by_cases h1 : ou a 12
  · rw [if_pos h1, if_pos h1]; exact Or.inr ⟨rfl, rfl, K.th 1⟩
  rw [if_neg h1, if_neg h1]
  obtain ⟨a1, a2⟩ := ou_c (by decide) h1
  exact Or.inl ⟨rfl, rfl, (K.th 0).rst a1⟩
def mTalkX (x : Nat → Nat → Int32) (a ch w : Int32) : Nat → Nat → Int32 := if a < 0 ∨ nI 12 ≤ a then ur x 0 (fun _ => nI 1) else if (ch < 0 ∨ nI 32 ≤ ch) ∨ (w < 0 ∨ nI 101 ≤ w) then ur x 0 (fun _ => nI 2) else ur (ur (ur x 0 (fun _ => nI 0)) 6 (upd (x 6) a.toNatClampNeg ch)) 7 (upd (x 7) a.toNatClampNeg w)
theorem st_talk (K : KT ot b S x c ck sn) (a ch w : Int32) :
    (taC a ch w = 0 ∧ mTalkX x a ch w 0 0 = nI 0 ∧ KT ot b S (mTalkX x a ch w) (sR (sR c.1 7 (cl a) ch) 8 (cl a) w, c.2.1, c.2.2) ck sn) ∨
    ((taC a ch w = 1 ∨ taC a ch w = 2) ∧ mTalkX x a ch w 0 0 = nI (taC a ch w) ∧ KT ot b S (mTalkX x a ch w) c ck sn) := by
  unfold taC mTalkX
  by_cases h1 : ou a 12
  · rw [if_pos h1, if_pos h1]; exact Or.inr ⟨Or.inl rfl, rfl, K.th 1⟩
  rw [if_neg h1, if_neg h1]
  by_cases h2 : ch < 0 ∨ nI 32 ≤ ch
  · rw [if_pos h2, if_pos (Or.inl h2)]; exact Or.inr ⟨Or.inr rfl, rfl, K.th 2⟩
  rw [if_neg h2]
  by_cases h3 : w < 0 ∨ nI 100 < w
  · have h4 : w < 0 ∨ nI 101 ≤ w := by
      rcases pk_ix w (n := 101) (by decide) with z | z | ⟨j, hj, rfl⟩
      · exact Or.inl z
      · exact Or.inr z
      · rcases h3 with z | z
        · exact Or.inl z
        · exact absurd z (nI_nlt (by omega) (by decide))
    rw [if_pos h3, if_pos (Or.inr h4)]; exact Or.inr ⟨Or.inr rfl, rfl, K.th 2⟩
  · have h4 : ¬ ou w 101 := fun z => by
      rcases z with z | z
      · exact h3 (Or.inl z)
      · exact h3 (Or.inr (Int32.lt_of_lt_of_le (by decide) z))
    rw [if_neg h3, if_neg (fun z => z.elim h2 h4)]
    obtain ⟨a1, a2⟩ := ou_c (by decide) h1
    obtain ⟨w1, w2⟩ := ou_c (by decide) h4
    refine Or.inl ⟨rfl, rfl, ?_⟩
    rw [w2]
    exact (K.th 0).talk a1 (by omega)
def mTimeX (x : Nat → Nat → Int32) (v : Int32) : Nat → Nat → Int32 := if v < nI 2 ∨ nI 60 < v then ur x 0 (fun _ => nI 1) else ur (ur x 0 (fun _ => nI 0)) 37 (fun _ => v)
theorem st_time (K : KT ot b S x c ck sn) (v : Int32) :
    (rgC v 2 60 = 0 ∧ mTimeX x v 0 0 = nI 0 ∧ KT ot b S (mTimeX x v) (ur c.1 36 (fun _ => v), c.2.1, c.2.2) ck sn) ∨
    (rgC v 2 60 = 2 ∧ mTimeX x v 0 0 = nI 1 ∧ KT ot b S (mTimeX x v) c ck sn) := by
  unfold rgC mTimeX
  by_cases h1 : v < nI 2 ∨ nI 60 < v
  · rw [if_pos h1, if_pos h1]; exact Or.inr ⟨rfl, rfl, K.th 1⟩
  rw [if_neg h1, if_neg h1]
  obtain ⟨a1, a2, a3⟩ := rg_n (by decide) (by decide) h1
  refine Or.inl ⟨rfl, rfl, ?_⟩
  rw [a3]
  exact (K.th 0).time a1 a2
theorem KT.lb {i k : Nat} (K : KT ot b S x c ck sn) (hi : i < 12) (hk : k < 4) : cW c.2.2 (c.2.1 (12 + i) k) = decide (x 20 (4 * i + k) = -1) := by
  have hj : 4 * i + k < 48 := by omega
  have el : lbl c.2.1 (4 * i + k) = c.2.1 (12 + i) k := by
    unfold lbl
    rw [show (4 * i + k) / 4 = i by omega, show (4 * i + k) % 4 = k by omega]
  cases e : c.2.1 (12 + i) k with
  | none =>
    rw [K.q.l0 _ hj (el.trans e)]
    rfl
  | some y =>
    show decide (c.2.2 y 6 = -1) = _
    rw [(K.q.l1 _ y hj (el.trans e)).1]
theorem st_ended (K : KT ot b S x c ck sn) (a w : Int32) :
    (enC c.2.1 a w = 0 ∧ (mEnded x a w).2 0 0 = nI 0 ∧ KT ot b S (mEnded x a w).2 c ck sn ∧ ∀ y, c.2.1 (12 + cl a) (cl w) = some y → c.2.2 y 6 = (mEnded x a w).1) ∨
    ((enC c.2.1 a w = 1 ∨ enC c.2.1 a w = 2 ∨ enC c.2.1 a w = 3) ∧ (mEnded x a w).2 0 0 = nI (enC c.2.1 a w) ∧ KT ot b S (mEnded x a w).2 c ck sn) := by
  unfold enC mEnded
  by_cases h1 : ou a 12
  · rw [if_pos h1, if_pos h1]; exact Or.inr ⟨Or.inl rfl, rfl, K.th 1⟩
  rw [if_neg h1, if_neg h1]
  by_cases h2 : ou w 4
  · rw [if_pos h2, if_pos h2]; exact Or.inr ⟨Or.inr (Or.inl rfl), rfl, K.th 2⟩
  rw [if_neg h2, if_neg h2]
  obtain ⟨a1, a2⟩ := ou_c (by decide) h1
  obtain ⟨w1, w2⟩ := ou_c (by decide) h2
  have hj : 4 * cl a + cl w < 48 := by omega
  have el : lbl c.2.1 (4 * cl a + cl w) = c.2.1 (12 + cl a) (cl w) := by
    unfold lbl
    rw [show (4 * cl a + cl w) / 4 = cl a by omega, show (4 * cl a + cl w) % 4 = cl w by omega]
  cases e : c.2.1 (12 + cl a) (cl w) with
  | none =>
    rw [if_pos (K.q.l0 _ hj (el.trans e))]
    exact Or.inr ⟨Or.inr (Or.inr rfl), rfl, K.th 3⟩
  | some y =>
    obtain ⟨f1, f2⟩ := K.q.l1 _ y hj (el.trans e)
    rw [if_neg f2]
    exact Or.inl ⟨rfl, rfl, K.th 0, fun y' hy => by cases hy; exact f1⟩
theorem st_value (K : KT ot b S x c ck sn) (a w : Int32) :
    (vaC c.2.1 c.2.2 a w = 0 ∧ (mValue x a w).2 0 0 = nI 0 ∧ KT ot b S (mValue x a w).2 (c.1, ur c.2.1 (12 + cl a) (va_up (c.2.1 (12 + cl a)) (cl w) none), c.2.2) ck sn ∧ ∀ y, c.2.1 (12 + cl a) (cl w) = some y → c.2.2 y 9 = (mValue x a w).1) ∨
    ((vaC c.2.1 c.2.2 a w = 1 ∨ vaC c.2.1 c.2.2 a w = 2 ∨ vaC c.2.1 c.2.2 a w = 3) ∧ (mValue x a w).2 0 0 = nI (vaC c.2.1 c.2.2 a w) ∧ KT ot b S (mValue x a w).2 c ck sn) ∨
    (vaC c.2.1 c.2.2 a w = 4 ∧ (mValue x a w).2 0 0 = nI 4 ∧ KT ot b S (mValue x a w).2 (c.1, ur c.2.1 (12 + cl a) (va_up (c.2.1 (12 + cl a)) (cl w) none), c.2.2) ck sn) := by
  unfold vaC mValue
  by_cases h1 : ou a 12
  · rw [if_pos h1, if_pos h1]; exact Or.inr (Or.inl ⟨Or.inl rfl, rfl, K.th 1⟩)
  rw [if_neg h1, if_neg h1]
  by_cases h2 : ou w 4
  · rw [if_pos h2, if_pos h2]; exact Or.inr (Or.inl ⟨Or.inr (Or.inl rfl), rfl, K.th 2⟩)
  rw [if_neg h2, if_neg h2]
  obtain ⟨a1, a2⟩ := ou_c (by decide) h1
  obtain ⟨w1, w2⟩ := ou_c (by decide) h2
  have hj : 4 * cl a + cl w < 48 := by omega
  have el : lbl c.2.1 (4 * cl a + cl w) = c.2.1 (12 + cl a) (cl w) := by
    unfold lbl
    rw [show (4 * cl a + cl w) / 4 = cl a by omega, show (4 * cl a + cl w) % 4 = cl w by omega]
  cases e : c.2.1 (12 + cl a) (cl w) with
  | none =>
    rw [if_pos (K.q.l0 _ hj (el.trans e))]
    exact Or.inr (Or.inl ⟨Or.inr (Or.inr rfl), rfl, K.th 3⟩)
  | some y =>
    obtain ⟨f1, f2⟩ := K.q.l1 _ y hj (el.trans e)
    dsimp only
    rw [if_neg f2, f1]
    by_cases h3 : x 20 (4 * cl a + cl w) = -1
    · rw [if_pos h3, if_pos h3]
      exact Or.inr (Or.inl ⟨Or.inr (Or.inr rfl), rfl, K.th 3⟩)
    rw [if_neg h3, if_neg h3]
    by_cases h4 : x 20 (4 * cl a + cl w) = 0
    · rw [if_pos h4, if_pos h4]
      exact Or.inl ⟨rfl, rfl, (K.th 0).free a1 w1 h3, fun y' hy => by cases hy; exact K.q.l2 _ y hj (el.trans e) h4⟩
    · rw [if_neg h4, if_neg h4]
      exact Or.inr (Or.inr ⟨rfl, rfl, ((K.th 0).free a1 w1 h3).th 4⟩)
theorem st_word (K : KT ot b S x c ck sn) (a w : Int32) :
    (woC a w = 0 ∧ (mWord x a w).2 0 0 = nI 0 ∧ KT ot b S (mWord x a w).2 c ck sn ∧ c.1 (100 + cl a) (cl w) = (mWord x a w).1) ∨
    ((woC a w = 1 ∨ woC a w = 2) ∧ (mWord x a w).2 0 0 = nI (woC a w) ∧ KT ot b S (mWord x a w).2 c ck sn) := by
  unfold woC mWord
  by_cases h1 : ou a 12
  · rw [if_pos h1, if_pos h1]; exact Or.inr ⟨Or.inl rfl, rfl, K.th 1⟩
  rw [if_neg h1, if_neg h1]
  by_cases h2 : ou w 8
  · rw [if_pos h2, if_pos h2]; exact Or.inr ⟨Or.inr rfl, rfl, K.th 2⟩
  rw [if_neg h2, if_neg h2]
  obtain ⟨a1, a2⟩ := ou_c (by decide) h1
  obtain ⟨w1, w2⟩ := ou_c (by decide) h2
  exact Or.inl ⟨rfl, rfl, K.th 0, K.p.w _ _ a1 w1⟩
theorem st_ask (K : KT ot b S x c ck sn) {qn : Nat → Nat} (hqn : ∀ a, a < 12 → x 35 a = nI (qn a)) (hq6 : ∀ a, a < 12 → qn a ≤ 6) (hck : ck + 100 < 2 ^ 31) (hsn : sn + 1 < 2 ^ 31) (a d wk w x0 v : Int32) :
    (asC c.1 c.2.1 c.2.2 a d wk w = 0 ∧ (mAsk qn x a d wk w x0 v).2 0 0 = nI 0 ∧ ∀ k sz y, fstF (fun k => !cW c.2.2 (c.2.1 (12 + cl a) k)) 4 0 = some k → c.1 17 (cl a) = nI sz → sz < 6 → S y = false → (y < b ∨ b + 67 < y) → nI k = (mAsk qn x a d wk w x0 v).1 ∧ KT ot b (va_up S y true) (mAsk qn x a d wk w x0 v).2 (ur c.1 17 (upd (c.1 17) (cl a) (nI (sz + 1))), ur (ur c.2.1 (12 + cl a) (va_up (c.2.1 (12 + cl a)) k (some y))) (cl a) (va_up (c.2.1 (cl a)) sz (some y)), ur c.2.2 y (rq0 d wk w x0 v (c.1 35 0 + c.1 36 0))) ck (sn + 1)) ∨
    ((asC c.1 c.2.1 c.2.2 a d wk w = 1 ∨ asC c.1 c.2.1 c.2.2 a d wk w = 2 ∨ asC c.1 c.2.1 c.2.2 a d wk w = 3 ∨ asC c.1 c.2.1 c.2.2 a d wk w = 4) ∧ (mAsk qn x a d wk w x0 v).2 0 0 = nI (asC c.1 c.2.1 c.2.2 a d wk w) ∧ KT ot b S (mAsk qn x a d wk w x0 v).2 c ck sn) := by
  unfold asC mAsk
  by_cases h1 : ou a 12
  · rw [if_pos h1, if_pos h1]; exact Or.inr ⟨Or.inl rfl, rfl, K.th 1⟩
  rw [if_neg h1, if_neg h1]
  by_cases h2 : ou d 12
  · rw [if_pos h2, if_pos h2]; exact Or.inr ⟨Or.inl rfl, rfl, K.th 1⟩
  rw [if_neg h2, if_neg h2]
  have hwk : ou wk 3 ↔ ¬ (wk = 0 ∨ wk = nI 1 ∨ wk = nI 2) := by
    constructor
    · intro z e
      rcases e with rfl | rfl | rfl <;> revert z <;> decide
    · intro z
      rcases pk_ix wk (n := 3) (by decide) with e | e | ⟨j, hj, e⟩
      · exact Or.inl e
      · exact Or.inr e
      · exfalso
        apply z
        have : j = 0 ∨ j = 1 ∨ j = 2 := by omega
        rcases this with rfl | rfl | rfl
        · exact Or.inl (e.trans nI_0)
        · exact Or.inr (Or.inl e)
        · exact Or.inr (Or.inr e)
  by_cases h3 : ou wk 3
  · rw [if_pos (hwk.mp h3), if_pos h3]
    refine Or.inr ⟨Or.inr (Or.inl ?_), ?_, K.th 2⟩
    · split <;> rfl
    · split <;> rfl
  have h3' : ¬ ¬ (wk = 0 ∨ wk = nI 1 ∨ wk = nI 2) := fun z => h3 (hwk.mpr z)
  by_cases h4 : ou w 8
  · rw [if_pos h4, if_neg h3, if_pos h4]
    exact Or.inr ⟨Or.inr (Or.inl rfl), rfl, K.th 2⟩
  rw [if_neg h4, if_neg h3', if_neg h3, if_neg h4]
  obtain ⟨a1, a2⟩ := ou_c (by decide) h1
  obtain ⟨d1, d2⟩ := ou_c (by decide) h2
  obtain ⟨w1, w2⟩ := ou_c (by decide) h4
  have ef : fstF (fun k => !cW c.2.2 (c.2.1 (12 + cl a) k)) 4 0 = fstF (fun k => decide (¬ x 20 (4 * cl a + k) = -1)) 4 0 := by
    refine fst_c (fun k hk => ?_)
    rw [K.lb a1 (by omega)]
    by_cases z : x 20 (4 * cl a + k) = -1
    · rw [decide_eq_true z, decide_eq_false (fun q => q z)]; rfl
    · rw [decide_eq_false z, decide_eq_true z]; rfl
  rw [ef]
  have e17 : c.1 17 (cl a) = x 35 (cl a) := K.p.r 17 (cl a) (Or.inl ⟨by decide, by decide, a1⟩)
  have h6 := hq6 _ a1
  have ec : cl (c.1 17 (cl a)) = qn (cl a) := by rw [e17, hqn _ a1]; exact cl_nI (by omega)
  cases e : fstF (fun k => decide (¬ x 20 (4 * cl a + k) = -1)) 4 0 with
  | none => exact Or.inr ⟨Or.inr (Or.inr (Or.inl rfl)), rfl, K.th 3⟩
  | some k =>
    dsimp only
    rw [ec]
    by_cases h7 : qn (cl a) = 6
    · rw [if_neg (by omega), if_pos h7]
      exact Or.inr ⟨Or.inr (Or.inr (Or.inr rfl)), rfl, K.th 4⟩
    · rw [if_pos (by omega), if_neg h7]
      refine Or.inl ⟨rfl, rfl, fun k' sz y hk hs h6' hSy hy => ?_⟩
      cases hk
      have hsz : sz = qn (cl a) := by
        have h9 : nI sz = nI (qn (cl a)) := by rw [← hs, e17, hqn _ a1]
        exact (nI_eq (by omega) (by omega)).mp h9
      obtain ⟨k4, hkk⟩ := fst_some e
      refine ⟨rfl, ?_⟩
      have hx := K.ask (wk := wk) (x0 := x0) (v := v) (w := cl w) (t := cl d) (sz := sz) a1 k4 d1 w1 (of_decide_eq_true hkk) (by rw [hsz]; exact hqn _ a1) h6' hck hsn hSy hy
      rw [← d2, ← w2] at hx
      rw [← hsz]
      exact hx
end Steps
