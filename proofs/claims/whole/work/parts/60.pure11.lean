def vj (j : Nat) : Bool := decide (3 ≤ j ∧ j ≤ 17) || (decide (j = 35) || (decide (j = 36) || (decide (j = 38) || (decide (j = 39) || decide (j = 40)))))
theorem vj_of {j a : Nat} (h : (3 ≤ j ∧ j ≤ 17 ∧ a < 12) ∨ ((j = 35 ∨ j = 36 ∨ j = 38 ∨ j = 39 ∨ j = 40) ∧ a = 0)) : j < 41 ∧ vj j = true := by
  rcases h with ⟨h1, h2, _⟩ | ⟨h1, _⟩
  · refine ⟨by omega, ?_⟩
    unfold vj
    rw [decide_eq_true ⟨h1, h2⟩]; rfl
  · rcases h1 with e | e | e | e | e <;> subst e <;> exact ⟨by decide, by decide⟩
theorem mu_inj0 : ∀ j : Fin 41, ∀ i : Fin 41, (vj j.1 && (vj i.1 && (decide (mu i.1 = mu j.1) && !decide (i.1 = j.1)))) = false := by decide +kernel
theorem mu_inj (j : Nat) (hj : j < 41) (i : Nat) (hi : i < 41) (vj1 : vj j = true) (vi : vj i = true) (e : ¬ i = j) : ¬ mu i = mu j := by
  intro z
  have h := mu_inj0 ⟨j, hj⟩ ⟨i, hi⟩
  dsimp only at h
  rw [vj1, vi, decide_eq_true z, decide_eq_false e] at h
  cases h
theorem mu_r : ∀ j, j < 41 → vj j = true → mu j < 42 ∧ mu j ≠ 0 ∧ mu j ≠ 1 ∧ mu j ≠ 2 ∧ mu j ≠ 13 ∧ mu j ≠ 38 ∧ ¬ (18 ≤ mu j ∧ mu j ≤ 34) := by decide +kernel
theorem KP.set {x z : Nat → Nat → Int32} (K : KP x z) {j : Nat} (hj : j < 41 ∧ vj j = true) {f g : Nat → Int32} (h : ∀ a, a < 12 → f a = g a) : KP (ur x (mu j) g) (ur z j f) := by
  refine ⟨fun i a hi => ?_, fun a w ha hw => ?_⟩
  · obtain ⟨h1, h2⟩ := vj_of hi
    by_cases e : i = j
    · rw [e, ur_eq, ur_eq]
      refine h a ?_
      rcases hi with h | h <;> omega
    · rw [ur_ne e, ur_ne (mu_inj j hj.1 i h1 hj.2 h2 e)]
      exact K.r i a hi
  · rw [ur_ne (by omega), ur_ne (fun e => (mu_r j hj.1 hj.2).2.2.2.2.1 e.symm)]
    exact K.w a w ha hw
theorem KP.mdl {x y z : Nat → Nat → Int32} (K : KP x z) (h : ∀ m, m ≠ 0 → m ≠ 1 → m ≠ 2 → m ≠ 38 → ¬ (18 ≤ m ∧ m ≤ 34) → y m = x m) : KP y z := by
  refine ⟨fun i a hi => ?_, fun a w ha hw => ?_⟩
  · obtain ⟨h1, h2⟩ := vj_of hi
    have h3 := mu_r i h1 h2
    rw [h _ h3.2.1 h3.2.2.1 h3.2.2.2.1 h3.2.2.2.2.2.1 h3.2.2.2.2.2.2]
    exact K.r i a hi
  · rw [h 13 (by decide) (by decide) (by decide) (by decide) (by omega)]
    exact K.w a w ha hw
theorem KP.cls {x z w : Nat → Nat → Int32} (K : KP x z) (h : ∀ j, (3 ≤ j ∧ j ≤ 17) ∨ j = 35 ∨ j = 36 ∨ j = 38 ∨ j = 39 ∨ j = 40 ∨ 100 ≤ j → w j = z j) : KP x w := by
  refine ⟨fun i a hi => ?_, fun a k ha hk => ?_⟩
  · rw [h i (by omega)]; exact K.r i a hi
  · rw [h _ (by omega)]; exact K.w a k ha hk
theorem KP.wd {x z : Nat → Nat → Int32} (K : KP x z) {t wd : Nat} (ht : t < 12) (hw : wd < 8) (v : Int32) : KP (ur x 13 (upd (x 13) (8 * t + wd) v)) (ur z (100 + t) (upd (z (100 + t)) wd v)) := by
  refine ⟨fun i a hi => ?_, fun a w ha hw' => ?_⟩
  · obtain ⟨h1, h2⟩ := vj_of hi
    rw [ur_ne (by omega), ur_ne (mu_r i h1 h2).2.2.2.2.1]
    exact K.r i a hi
  · rw [ur_eq]
    unfold upd
    by_cases e : a = t
    · rw [e, ur_eq]
      by_cases e2 : w = wd
      · rw [if_pos e2, if_pos (by omega)]
      · rw [if_neg e2, if_neg (by omega)]
        exact K.w t w ht hw'
    · rw [ur_ne (by omega), if_neg (by omega)]
      exact K.w a w ha hw'
theorem mPut_ne {x : Nat → Nat → Int32} {a k : Nat} {lb sr tm va : Int32} {an : Bool} {j : Nat} (h : ¬ (30 ≤ j ∧ j ≤ 35)) : mPut x a k lb sr tm an va j = x j := by
  unfold mPut
  rw [ur_ne (by omega), ur_ne (by omega), ur_ne (by omega), ur_ne (by omega), ur_ne (by omega), ur_ne (by omega)]
theorem mPut_30 {x : Nat → Nat → Int32} {a k : Nat} {lb sr tm va : Int32} {an : Bool} : mPut x a k lb sr tm an va 30 = upd (x 30) (6 * a + k) lb := rfl
theorem mPut_31 {x : Nat → Nat → Int32} {a k : Nat} {lb sr tm va : Int32} {an : Bool} : mPut x a k lb sr tm an va 31 = upd (x 31) (6 * a + k) sr := rfl
theorem mPut_32 {x : Nat → Nat → Int32} {a k : Nat} {lb sr tm va : Int32} {an : Bool} : mPut x a k lb sr tm an va 32 = upd (x 32) (6 * a + k) tm := rfl
theorem mPut_33 {x : Nat → Nat → Int32} {a k : Nat} {lb sr tm va : Int32} {an : Bool} : mPut x a k lb sr tm an va 33 = upd (x 33) (6 * a + k) va := rfl
theorem mPut_34 {x : Nat → Nat → Int32} {a k : Nat} {lb sr tm va : Int32} {an : Bool} : mPut x a k lb sr tm an va 34 = upd (x 34) (6 * a + k) (zi an) := rfl
theorem mPut_35 {x : Nat → Nat → Int32} {a k : Nat} {lb sr tm va : Int32} {an : Bool} : mPut x a k lb sr tm an va 35 = upd (x 35) a (nI (k + 1)) := rfl
/-- a request in no queue comes into one -/
theorem KQ.put {x : Nat → Nat → Int32} {r : Nat → Nat → Option Nat} {q : Nat → Nat → Int32} (V : MV x) (K : KQ x r q) {a i sz lb : Nat} (L : LsQ x r a) (hi : i < 12) (hs : x 35 i = nI sz) (h6 : sz < 6) {sr tm va : Int32} {an : Bool} (hsr : ∀ sn, x 29 0 = nI sn → sn < 2 ^ 31 → ∃ s, s ≤ sn ∧ sr = nI s) (h8 : q a 8 = zi an) (hno : an = false → lb / 4 = i ∧ x 20 lb = -1 ∧ lbl r lb = some a ∧ sr = x 28 lb ∧ tm = q a 7 ∧ ∃ n, n < 4 ∧ q a 7 = nI n) (han : an = true → q a 9 = va ∧ lb < 48 ∧ (q a 6 = -1 → x 20 lb = -1 ∧ x 28 lb = sr ∧ lbl r lb = some a) ∧ (x 20 lb = -1 → x 28 lb = sr → lbl r lb = some a)) : KQ (mPut x i sz (nI lb) sr tm an va) (ur r i (va_up (r i) sz (some a))) q := by
  have hcs : cl (x 35 i) = sz := by rw [hs]; exact cl_nI (by omega)
  have hx : ∀ j, ¬ (30 ≤ j ∧ j ≤ 35) → mPut x i sz (nI lb) sr tm an va j = x j := fun j h => mPut_ne h
  have e20 := hx 20 (by omega)
  have e21 := hx 21 (by omega)
  have e22 := hx 22 (by omega)
  have e23 := hx 23 (by omega)
  have e24 := hx 24 (by omega)
  have e25 := hx 25 (by omega)
  have e26 := hx 26 (by omega)
  have e27 := hx 27 (by omega)
  have e28 := hx 28 (by omega)
  have e29 := hx 29 (by omega)
  have hl : ∀ j, lbl (ur r i (va_up (r i) sz (some a))) j = lbl r j := fun j => congrFun (ur_ne (by omega)) _
  have cse : ∀ i' k, i' < 12 → k < cl (mPut x i sz (nI lb) sr tm an va 35 i') → (i' = i ∧ k = sz ∧ ur r i (va_up (r i) sz (some a)) i' k = some a) ∨ (k < cl (x 35 i') ∧ 6 * i' + k ≠ 6 * i + sz ∧ ur r i (va_up (r i) sz (some a)) i' k = r i' k) := by
    intro i' k hi' hk
    rw [mPut_35] at hk
    unfold upd at hk
    by_cases e : i' = i
    · rw [if_pos e, cl_nI (by omega)] at hk
      by_cases e2 : k = sz
      · left; refine ⟨e, e2, ?_⟩; rw [e, ur_eq, e2]; exact if_pos rfl
      · right
        refine ⟨by rw [e, hcs]; omega, by omega, ?_⟩
        rw [e, ur_eq]; exact if_neg e2
    · rw [if_neg e] at hk
      obtain ⟨s', h1, h2⟩ := V.1 i' hi'
      have h3 := hk
      rw [h2, cl_nI (by omega)] at h3
      right
      exact ⟨hk, by omega, by rw [ur_ne e]⟩
  refine ⟨?_, ?_, ?_, ?_, ?_, ?_, ?_, ?_, ?_, ?_, ?_⟩
  · intro j hj h; rw [hl] at h; rw [e20]; exact K.l0 j hj h
  · intro j b hj h; rw [hl] at h; rw [e20]; exact K.l1 j b hj h
  · intro j b hj h; rw [hl] at h; rw [e20, e26]; exact K.l2 j b hj h
  · intro j b hj h; rw [hl] at h; rw [e20, e21, e22, e23, e24, e25, e27]; exact K.l3 j b hj h
  · intro j j' b hj hj' h h'; rw [hl] at h h'; exact K.li j j' b hj hj' h h'
  · intro i' k hi' hk
    rcases cse i' k hi' hk with ⟨e1, e2, e3⟩ | ⟨e1, e2, e3⟩
    · refine ⟨a, e3, ?_⟩
      rw [e1, e2, mPut_34, pk_us]; exact h8
    · rw [e3, mPut_34, pk_un e2]; exact K.p0 i' k hi' e1
  · intro i' k b hi' hk h hz
    rcases cse i' k hi' hk with ⟨e1, e2, e3⟩ | ⟨e1, e2, e3⟩
    · rw [e3] at h
      cases h
      rw [e1, e2, mPut_34, pk_us] at hz
      have han' : an = false := zi_0.mp hz
      obtain ⟨g1, g2, g3, g4, g5, g6⟩ := hno han'
      refine ⟨lb, by rw [e1]; exact g1, ?_, by rw [e20]; exact g2, by rw [hl]; exact g3, ?_, ?_, g6⟩
      · rw [e1, e2, mPut_30, pk_us]
      · rw [e1, e2, mPut_31, pk_us, e28]; exact g4
      · rw [e1, e2, mPut_32, pk_us]; exact g5
    · rw [e3] at h
      rw [mPut_34, pk_un e2] at hz
      obtain ⟨j, g1, g2, g3, g4, g5, g6, g7⟩ := K.p1 i' k b hi' e1 h hz
      refine ⟨j, g1, ?_, by rw [e20]; exact g3, by rw [hl]; exact g4, ?_, ?_, g7⟩
      · rw [mPut_30, pk_un e2]; exact g2
      · rw [mPut_31, pk_un e2, e28]; exact g5
      · rw [mPut_32, pk_un e2]; exact g6
  · intro i' k b hi' hk h hz
    rcases cse i' k hi' hk with ⟨e1, e2, e3⟩ | ⟨e1, e2, e3⟩
    · rw [e3] at h
      cases h
      rw [e1, e2, mPut_34, pk_us] at hz
      have han' : an = true := by
        cases an with
        | true => rfl
        | false => exact absurd rfl hz
      obtain ⟨g1, g2, g3, g4⟩ := han han'
      refine ⟨?_, lb, g2, ?_, fun z => ?_, fun z1 z2 => ?_⟩
      · rw [e1, e2, mPut_33, pk_us]; exact g1
      · rw [e1, e2, mPut_30, pk_us]
      · rw [e1, e2, e20, e28, mPut_31, pk_us, hl]; exact g3 z
      · rw [e20] at z1
        rw [e1, e2, e28, mPut_31, pk_us] at z2
        rw [hl]; exact g4 z1 z2
    · rw [e3] at h
      rw [mPut_34, pk_un e2] at hz
      obtain ⟨g1, j, g2, g3, g4, g5⟩ := K.p2 i' k b hi' e1 h hz
      refine ⟨?_, j, g2, ?_, fun z => ?_, fun z1 z2 => ?_⟩
      · rw [mPut_33, pk_un e2]; exact g1
      · rw [mPut_30, pk_un e2]; exact g3
      · rw [e20, e28, mPut_31, pk_un e2, hl]; exact g4 z
      · rw [e20] at z1
        rw [e28, mPut_31, pk_un e2] at z2
        rw [hl]; exact g5 z1 z2
  · intro i1 k1 i2 k2 b h1 hk1 h2 hk2 q1 q2
    rcases cse i1 k1 h1 hk1 with ⟨e1, e2, e3⟩ | ⟨e1, e2, e3⟩
    · rcases cse i2 k2 h2 hk2 with ⟨f1, f2, f3⟩ | ⟨f1, f2, f3⟩
      · exact ⟨by omega, by omega⟩
      · rw [e3] at q1; cases q1
        rw [f3] at q2
        exact absurd q2 (L i2 k2 h2 f1)
    · rcases cse i2 k2 h2 hk2 with ⟨f1, f2, f3⟩ | ⟨f1, f2, f3⟩
      · rw [f3] at q2; cases q2
        rw [e3] at q1
        exact absurd q1 (L i1 k1 h1 e1)
      · rw [e3] at q1
        rw [f3] at q2
        exact K.pi i1 k1 i2 k2 b h1 e1 h2 f1 q1 q2
  · obtain ⟨sn, g1, g2, g3, g4⟩ := K.s0
    refine ⟨sn, by rw [e29]; exact g1, g2, fun j hj h => ?_, fun i' k hi' hk => ?_⟩
    · rw [e20] at h; rw [e28]; exact g3 j hj h
    · rcases cse i' k hi' hk with ⟨e1, e2, e3⟩ | ⟨e1, e2, e3⟩
      · rw [e1, e2, mPut_31, pk_us]; exact hsr sn g1 g2
      · rw [mPut_31, pk_un e2]; exact g4 i' k hi' e1
  · intro j j' hj hj' h h' h2
    rw [e20] at h h'
    rw [e28] at h2
    exact K.s1 j j' hj hj' h h' h2
theorem MV.put {x : Nat → Nat → Int32} (V : MV x) {i sz lb : Nat} (h6 : sz < 6) (hlb : lb < 48) {sr tm va : Int32} {an : Bool} : MV (mPut x i sz (nI lb) sr tm an va) := by
  obtain ⟨h1, h2, h3, h4, h5⟩ := V
  refine ⟨fun a ha => ?_, fun k hk => ?_, fun k hk => ?_, h4, h5⟩
  · rw [mPut_35]
    unfold upd
    by_cases e : a = i
    · rw [if_pos e]; exact ⟨sz + 1, by omega, rfl⟩
    · rw [if_neg e]; exact h1 a ha
  · rw [mPut_34]
    unfold upd
    by_cases e : k = 6 * i + sz
    · rw [if_pos e]; exact zi_01 an
    · rw [if_neg e]; exact h2 k hk
  · rw [mPut_30]
    unfold upd
    by_cases e : k = 6 * i + sz
    · rw [if_pos e]; exact ⟨lb, hlb, rfl⟩
    · rw [if_neg e]; exact h3 k hk
/-! sending -/
abbrev CS : Type := (Nat → Nat → Int32) × (Nat → Nat → Option Nat) × (Nat → Nat → Int32)
def rEnd (q : Nat → Nat → Int32) (a : Nat) (v : Int32) : Nat → Nat → Int32 := if q a 6 = -1 then ur q a (upd (q a) 6 v) else q
def wkQ (z q : Nat → Nat → Int32) (a t wd : Nat) : Nat → Nat → Int32 := ur q a (upd (upd (q a) 9 (if q a 1 = nI 1 then nI 0 else z (100 + t) wd)) 8 (nI 1))
def wkZ (z q : Nat → Nat → Int32) (a t wd : Nat) : Nat → Nat → Int32 := if q a 1 = nI 1 ∨ (q a 1 = nI 2 ∧ z (100 + t) wd = q a 3) then ur z (100 + t) (upd (z (100 + t)) wd (q a 4)) else z
def q7 (q : Nat → Nat → Int32) (a : Nat) : Nat → Nat → Int32 := ur q a (upd (q a) 7 (q a 7 + nI 1))
def cSR (z : Nat → Nat → Int32) (r : Nat → Nat → Option Nat) (q : Nat → Nat → Int32) (a i b0 t wd : Nat) : CS :=
  if z 31 t = nI b0 then
    if cl (z 17 t) < 6 then (ur (wkZ z (q7 q a) a t wd) 17 (upd (z 17) t (nI (cl (z 17 t) + 1))), ur r t (va_up (r t) (cl (z 17 t)) (some a)), wkQ z (q7 q a) a t wd)
    else if q a 7 + nI 1 < nI 4 then (ur z 17 (upd (z 17) i (nI (cl (z 17 i) + 1))), ur r i (va_up (r i) (cl (z 17 i)) (some a)), q7 q a)
    else (z, r, rEnd (q7 q a) a (nI 2))
  else (z, r, rEnd (q7 q a) a (nI 3))
def sfZ (z : Nat → Nat → Int32) (i : Nat) : Nat → Nat → Int32 := ur (ur (ur z 17 (upd (z 17) i (nI (cl (z 17 i) - 1)))) 10 (upd (z 10) i (nI 1))) 38 (fun _ => z 38 0 + nI 1)
def cSF (z : Nat → Nat → Int32) (r : Nat → Nat → Option Nat) (q : Nat → Nat → Int32) (i b0 : Nat) : CS :=
  if q ((r i 0).getD 0) 8 = 0 then cSR (sfZ z i) (ur r i (qRem (r i) 0 (cl (z 17 i)))) q ((r i 0).getD 0) i b0 (cl (q ((r i 0).getD 0) 0)) (cl (q ((r i 0).getD 0) 2))
  else (sfZ z i, ur r i (qRem (r i) 0 (cl (z 17 i))), rEnd q ((r i 0).getD 0) (nI 0))
theorem q7_f {q : Nat → Nat → Int32} {a f : Nat} (h : f ≠ 7) : q7 q a a f = q a f := by
  unfold q7
  rw [ur_eq]; exact pk_un h
theorem q7_7 {q : Nat → Nat → Int32} {a : Nat} : q7 q a a 7 = q a 7 + nI 1 := by
  unfold q7
  rw [ur_eq]; exact pk_us
theorem send_K {x z : Nat → Nat → Int32} {r : Nat → Nat → Option Nat} {q : Nat → Nat → Int32} {i b0 : Nat} (V : MV x) (P : KP x z) (Q : KQ x r q) (hi : i < 12) (hpos : ¬ x 35 i = 0) (hb : x 18 i = nI b0) (hz : ∀ a, a < 12 → z 31 a = x 18 a) : KP (mSendC (ur x 10 (upd (x 10) i (nI 1))) i) (cSF z r q i b0).1 ∧ KQ (mSendC (ur x 10 (upd (x 10) i (nI 1))) i) (cSF z r q i b0).2.1 (cSF z r q i b0).2.2 ∧ MV (mSendC (ur x 10 (upd (x 10) i (nI 1))) i) ∧ ∀ j, j ≠ 10 → j ≠ 13 → j ≠ 20 → j ≠ 26 → ¬ (30 ≤ j ∧ j ≤ 35) → j ≠ 39 → mSendC (ur x 10 (upd (x 10) i (nI 1))) i j = x j := by
  obtain ⟨sz, h6, hs⟩ := V.1 i hi
  have hsz : 0 < sz := by
    rcases Nat.eq_zero_or_pos sz with e | e
    · rw [hs, e] at hpos; exact absurd nI_0 hpos
    · exact e
  have hcs : cl (x 35 i) = sz := by rw [hs]; exact cl_nI (by omega)
  have hz17 : ∀ t, t < 12 → z 17 t = x 35 t := fun t ht => P.r 17 t (Or.inl ⟨by decide, by decide, ht⟩)
  have hcz : cl (z 17 i) = sz := by rw [hz17 i hi]; exact hcs
  obtain ⟨a, ha, h8⟩ := Q.p0 i 0 hi (by omega)
  have hga : (r i 0).getD 0 = a := by rw [ha]; rfl
  have VX : MV (ur x 10 (upd (x 10) i (nI 1))) := V.ur (by decide)
  have QX : KQ (ur x 10 (upd (x 10) i (nI 1))) r q := Q.cg (fun j h1 h2 => ur_ne (by omega))
  have TK := KQ.take (x := ur x 10 (upd (x 10) i (nI 1))) VX QX hi (pl := 0) (sz := sz) hs h6 hsz
  have VT : MV (mTake (ur x 10 (upd (x 10) i (nI 1))) i 0 sz) := VX.take hi h6
  -- the state behind the taking
  generalize hx1 : ur (mTake (ur x 10 (upd (x 10) i (nI 1))) i 0 sz) 39 (fun _ => x 39 0 + nI 1) = x1
  have e1 : ∀ j, j ≠ 39 → x1 j = mTake (ur x 10 (upd (x 10) i (nI 1))) i 0 sz j := fun j h => by rw [← hx1, ur_ne h]
  have V1 : MV x1 := by rw [← hx1]; exact VT.ur (by decide)
  have Q1 : KQ x1 (ur r i (qRem (r i) 0 sz)) q := TK.1.cg (fun j h1 h2 => e1 j (by omega))
  have L1 : LsQ x1 (ur r i (qRem (r i) 0 sz)) a := by
    intro i' k hi' hk
    rw [e1 35 (by decide)] at hk
    exact TK.2 i' k a hi' hk ha
  have eo : ∀ j, j ≠ 10 → j ≠ 39 → ¬ (30 ≤ j ∧ j ≤ 35) → x1 j = x j := fun j h1 h2 h3 => by
    rw [e1 j h2, mTake_ne h3, ur_ne h1]
  have e35 : x1 35 = upd (x 35) i (nI (sz - 1)) := by rw [e1 35 (by decide)]; rfl
  have P1 : KP x1 (sfZ z i) := by
    have k1 := P.set (j := 17) (by decide) (f := upd (z 17) i (nI (cl (z 17 i) - 1))) (g := upd (x 35) i (nI (sz - 1))) (fun t ht => by unfold upd; rw [hcz, hz17 t ht])
    have k2 := k1.set (j := 10) (by decide) (f := upd (z 10) i (nI 1)) (g := upd (x 10) i (nI 1)) (fun t ht => by unfold upd; rw [P.r 10 t (Or.inl ⟨by decide, by decide, ht⟩)]; rfl)
    have k3 := k2.set (j := 38) (by decide) (f := fun _ => z 38 0 + nI 1) (g := fun _ => x 39 0 + nI 1) (fun t ht => by rw [P.r 38 0 (Or.inr ⟨by decide, rfl⟩)]; rfl)
    refine k3.mdl (fun m m0 m1 m2 m38 hm => ?_)
    show x1 m = ur (ur (ur x 35 (upd (x 35) i (nI (sz - 1)))) 10 (upd (x 10) i (nI 1))) 39 (fun _ => x 39 0 + nI 1) m
    by_cases c39 : m = 39
    · rw [c39, ur_eq, ← hx1, ur_eq]
    · rw [ur_ne c39]
      by_cases c10 : m = 10
      · rw [c10, ur_eq, e1 10 (by decide), mTake_ne (by omega), ur_eq]
      · rw [ur_ne c10]
        by_cases c35 : m = 35
        · rw [c35, ur_eq]; exact e35
        · rw [ur_ne c35]; exact eo m c10 c39 (by omega)
  have x30 : (ur x 10 (upd (x 10) i (nI 1))) 30 = x 30 := rfl
  unfold cSF
  rw [hga, hcz, h8, show 6 * i + 0 = 6 * i from rfl]
  by_cases c34 : x 34 (6 * i) = 0
  · rw [if_pos c34]
    obtain ⟨j, j1, j2, j3, j4, j5, j6, n, j7, j8⟩ := Q.p1 i 0 a hi (by omega) ha c34
    have hj : j < 48 := by omega
    have cj : cl (x 30 (6 * i)) = j := by rw [show x 30 (6 * i) = nI j from j2]; exact cl_nI (by omega)
    obtain ⟨f0, f1, f2, f3, f4, f5⟩ := Q.l3 j a hj j4 j3
    obtain ⟨t, ht, et⟩ := V.2.2.2.1 j hj
    obtain ⟨wd, hwd, ew⟩ := V.2.2.2.2 j hj
    have ct : cl (q a 0) = t := by rw [f0, et]; exact cl_nI (by omega)
    have cw : cl (q a 2) = wd := by rw [f2, ew]; exact cl_nI (by omega)
    have cxt : cl (x 21 j) = t := by rw [et]; exact cl_nI (by omega)
    have cxw : cl (x 23 j) = wd := by rw [ew]; exact cl_nI (by omega)
    have hM : mSendC (ur x 10 (upd (x 10) i (nI 1))) i = mSReq x1 i j (x 31 (6 * i)) (x 32 (6 * i) + nI 1) t wd (cl (x1 35 t)) (sz - 1) := by
      unfold mSendC mSend
      show (if x 34 (6 * i) = 0 then mSReq (ur (mTake (ur x 10 (upd (x 10) i (nI 1))) i 0 (cl (x 35 i))) 39 (fun _ => x 39 0 + nI 1)) i (cl (x 30 (6 * i))) (x 31 (6 * i)) (x 32 (6 * i) + nI 1) (cl (x 21 (cl (x 30 (6 * i))))) (cl (x 23 (cl (x 30 (6 * i))))) (cl (upd (x 35) i (nI (cl (x 35 i) - 1)) (cl (x 21 (cl (x 30 (6 * i))))))) (cl (x 35 i) - 1) else _) = _
      rw [if_pos c34, hcs, cj, cxt, cxw, hx1, e35]
    rw [hM, ct, cw]
    have l1j : lbl (ur r i (qRem (r i) 0 sz)) j = some a := (congrFun (ur_ne (by omega)) _).trans j4
    have w1j : x1 20 j = -1 := by rw [eo 20 (by decide) (by decide) (by omega)]; exact j3
    have e28 : x1 28 j = x 31 (6 * i) := by rw [eo 28 (by decide) (by decide) (by omega)]; exact j5.symm
    have q6 : q a 6 = -1 := (Q.l1 j a hj j4).1.trans j3
    have z17 : ∀ t, t < 12 → sfZ z i 17 t = x1 35 t := fun t ht => P1.r 17 t (Or.inl ⟨by decide, by decide, ht⟩)
    have z31 : sfZ z i 31 = z 31 := rfl
    have Qa : KQ x1 (ur r i (qRem (r i) 0 sz)) (q7 q a) := Q1.qa hj l1j w1j L1 (fun k hk => pk_un (by omega))
    have q76 : q7 q a a 6 = -1 := (q7_f (by decide)).trans q6
    unfold mSReq cSR
    rw [z31, hz t ht, show x1 18 = x 18 from eo 18 (by decide) (by decide) (by omega), hb]
    by_cases cb : x 18 t = nI b0
    · rw [if_pos cb, if_pos cb, z17 t ht]
      by_cases ck : cl (x1 35 t) < 6
      · rw [if_pos ck, if_pos ck]
        obtain ⟨kt, hk6, hkt⟩ := V1.1 t ht
        have ckt : cl (x1 35 t) = kt := by rw [hkt]; exact cl_nI (by omega)
        rw [ckt] at ck ⊢
        have ew1 : sfZ z i (100 + t) wd = x1 13 (8 * t + wd) := P1.w t wd ht hwd
        have g1 : q7 q a a 1 = x1 22 j := by rw [q7_f (by decide), eo 22 (by decide) (by decide) (by omega)]; exact f1
        have g3 : q7 q a a 3 = x1 24 j := by rw [q7_f (by decide), eo 24 (by decide) (by decide) (by omega)]; exact f3
        have g4 : q7 q a a 4 = x1 25 j := by rw [q7_f (by decide), eo 25 (by decide) (by decide) (by omega)]; exact f4
        have eD : ∀ m, m ≠ 13 → (mDone x1 j t wd).2 m = x1 m := by
          intro m hm
          unfold mDone
          dsimp only
          split
          · exact ur_ne hm
          · rfl
        have PD : KP (mDone x1 j t wd).2 (wkZ (sfZ z i) (q7 q a) a t wd) := by
          unfold mDone wkZ
          dsimp only
          rw [g1, g3, g4, ew1]
          split
          · exact P1.wd ht hwd _
          · exact P1
        have VD : MV (mDone x1 j t wd).2 := by
          unfold mDone
          dsimp only
          split
          · exact V1.ur (by decide)
          · exact V1
        have QD : KQ (mDone x1 j t wd).2 (ur r i (qRem (r i) 0 sz)) (wkQ (sfZ z i) (q7 q a) a t wd) := by
          have k0 := Qa.qa hj l1j w1j L1 (f := upd (upd (q7 q a a) 9 (if q7 q a a 1 = nI 1 then nI 0 else sfZ z i (100 + t) wd)) 8 (nI 1)) (fun k hk => (pk_un (by omega)).trans (pk_un (by omega)))
          exact k0.cg (fun m h1 h2 => eD m (by omega))
        have k9 : wkQ (sfZ z i) (q7 q a) a t wd a 9 = (mDone x1 j t wd).1 := by
          unfold wkQ mDone
          dsimp only
          rw [ur_eq, pk_un (by decide), pk_us, g1, ew1]
        have k8 : wkQ (sfZ z i) (q7 q a) a t wd a 8 = zi true := by
          unfold wkQ
          rw [ur_eq, pk_us]; decide
        have k6 : wkQ (sfZ z i) (q7 q a) a t wd a 6 = -1 := by
          unfold wkQ
          rw [ur_eq, pk_un (by decide), pk_un (by decide)]; exact q76
        have er : ur r i (qRem (r i) 0 sz) t = ur r i (qRem (r i) 0 sz) t := rfl
        refine ⟨?_, ?_, VD.put ck hj, fun m m10 m13 m20 m26 hm m39 => by rw [mPut_ne hm, eD m m13]; exact eo m m10 m39 hm⟩
        · have k1 := PD.set (j := 17) (by decide) (f := upd (sfZ z i 17) t (nI (kt + 1))) (g := upd (x1 35) t (nI (kt + 1))) (fun u hu => by unfold upd; rw [z17 u hu])
          refine k1.mdl (fun m m0 m1 m2 m38 hm => ?_)
          show mPut _ _ _ _ _ _ _ _ m = ur (mDone x1 j t wd).2 35 (upd (x1 35) t (nI (kt + 1))) m
          by_cases c35 : m = 35
          · rw [c35, ur_eq, mPut_35, eD 35 (by decide)]
          · rw [ur_ne c35, mPut_ne (by omega)]
        · refine KQ.put VD QD ?_ ht (by rw [eD 35 (by decide)]; exact hkt) ck ?_ k8 (fun h => by cases h) (fun _ => ⟨k9, hj, fun _ => ?_, fun _ _ => l1j⟩)
          · intro i' k hi' hk
            rw [eD 35 (by decide)] at hk
            exact L1 i' k hi' hk
          · intro sn hsn hlt
            rw [eD 29 (by decide)] at hsn
            obtain ⟨sn', s1, s2, s3, s4⟩ := Qa.s0
            have es : sn' = sn := by rw [s1, nI_eq s2 hlt] at hsn; exact hsn
            obtain ⟨s, g1, g2⟩ := s3 j hj w1j
            exact ⟨s, by omega, by rw [← e28]; exact g2⟩
          · rw [eD 20 (by decide), eD 28 (by decide)]
            exact ⟨w1j, e28, l1j⟩
      · rw [if_neg ck, if_neg ck]
        rw [show x 32 (6 * i) = nI n from j6.trans j8, j8, nI_add]
        have hq7 : q7 q a a 7 = nI (n + 1) := by rw [q7_7, j8, nI_add]
        by_cases c4 : n + 1 = 4
        · rw [if_pos (by rw [c4]), if_neg (by rw [nI_ltI (by omega) (by decide)]; omega)]
          have e9 : rEnd (q7 q a) a (nI 2) = ur (q7 q a) a (upd (q7 q a a) 6 (nI 2)) := if_pos q76
          rw [e9]
          refine ⟨P1.mdl (fun m m0 m1 m2 m38 hm => ur_ne (by omega)), ?_, V1.ur (by decide), fun m m10 m13 m20 m26 hm m39 => by rw [ur_ne m20]; exact eo m m10 m39 hm⟩
          exact Qa.fin hj l1j L1 (by decide) (by decide) (Or.inl ⟨rfl, by decide⟩)
        · rw [if_neg (by rw [nI_eq (by omega) (by decide)]; exact c4), if_pos (by rw [nI_ltI (by omega) (by decide)]; omega)]
          have hsi : x1 35 i = nI (sz - 1) := by rw [e35]; exact pk_us
          have czi : cl (sfZ z i 17 i) = sz - 1 := by rw [z17 i hi, hsi]; exact cl_nI (by omega)
          rw [czi]
          refine ⟨?_, ?_, V1.put (by omega) hj, fun m m10 m13 m20 m26 hm m39 => by rw [mPut_ne hm]; exact eo m m10 m39 hm⟩
          · have k1 := P1.set (j := 17) (by decide) (f := upd (sfZ z i 17) i (nI (sz - 1 + 1))) (g := upd (x1 35) i (nI (sz - 1 + 1))) (fun u hu => by unfold upd; rw [z17 u hu])
            refine k1.mdl (fun m m0 m1 m2 m38 hm => ?_)
            show mPut _ _ _ _ _ _ _ _ m = ur x1 35 (upd (x1 35) i (nI (sz - 1 + 1))) m
            by_cases c35 : m = 35
            · rw [c35, ur_eq, mPut_35]
            · rw [ur_ne c35, mPut_ne (by omega)]
          · refine KQ.put V1 Qa L1 hi hsi (by omega) ?_ ?_ (fun _ => ⟨j1, w1j, l1j, e28.symm, hq7.symm, n + 1, by omega, hq7⟩) (fun h => by cases h)
            · intro sn hsn hlt
              obtain ⟨sn', s1, s2, s3, s4⟩ := Qa.s0
              have es : sn' = sn := by rw [s1, nI_eq s2 hlt] at hsn; exact hsn
              obtain ⟨s, g1, g2⟩ := s3 j hj w1j
              exact ⟨s, by omega, by rw [← e28]; exact g2⟩
            · rw [q7_f (by decide), h8, show 6 * i + 0 = 6 * i from rfl, c34]; rfl
    · rw [if_neg cb, if_neg cb]
      have e9 : rEnd (q7 q a) a (nI 3) = ur (q7 q a) a (upd (q7 q a a) 6 (nI 3)) := if_pos q76
      rw [e9]
      refine ⟨P1.mdl (fun m m0 m1 m2 m38 hm => ur_ne (by omega)), ?_, V1.ur (by decide), fun m m10 m13 m20 m26 hm m39 => by rw [ur_ne m20]; exact eo m m10 m39 hm⟩
      exact Qa.fin hj l1j L1 (by decide) (by decide) (Or.inl ⟨rfl, by decide⟩)
  · rw [if_neg c34]
    obtain ⟨g1, j, hj, g3, g4, g5⟩ := Q.p2 i 0 a hi (by omega) ha c34
    have cj : cl (x 30 (6 * i)) = j := by rw [show x 30 (6 * i) = nI j from g3]; exact cl_nI (by omega)
    have hM : mSendC (ur x 10 (upd (x 10) i (nI 1))) i = if x 20 j = -1 then (if x 28 j = x 31 (6 * i) then ur (ur x1 20 (upd (x 20) j (nI 0))) 26 (upd (x 26) j (x 33 (6 * i))) else x1) else x1 := by
      unfold mSendC mSend
      show (if x 34 (6 * i) = 0 then _ else if x 20 (cl (x 30 (6 * i))) = -1 then (if x 28 (cl (x 30 (6 * i))) = x 31 (6 * i) then ur (ur (ur (mTake (ur x 10 (upd (x 10) i (nI 1))) i 0 (cl (x 35 i))) 39 (fun _ => x 39 0 + nI 1)) 20 (upd (x 20) (cl (x 30 (6 * i))) (nI 0))) 26 (upd (x 26) (cl (x 30 (6 * i))) (x 33 (6 * i))) else ur (mTake (ur x 10 (upd (x 10) i (nI 1))) i 0 (cl (x 35 i))) 39 (fun _ => x 39 0 + nI 1)) else ur (mTake (ur x 10 (upd (x 10) i (nI 1))) i 0 (cl (x 35 i))) 39 (fun _ => x 39 0 + nI 1)) = _
      rw [if_neg c34, hcs, cj, hx1]
    rw [hM]
    unfold rEnd
    by_cases cq : q a 6 = -1
    · obtain ⟨k1, k2, k3⟩ := g4 cq
      rw [if_pos k1, if_pos (show x 28 j = x 31 (6 * i) from k2), if_pos cq]
      have l1j : lbl (ur r i (qRem (r i) 0 sz)) j = some a := (congrFun (ur_ne (by omega)) _).trans k3
      have e20 : x1 20 = x 20 := eo 20 (by decide) (by decide) (by omega)
      have e26 : x1 26 = x 26 := eo 26 (by decide) (by decide) (by omega)
      refine ⟨P1.mdl (fun m m0 m1 m2 m38 hm => (ur_ne (by omega)).trans (ur_ne (by omega))), ?_, (V1.ur (by decide)).ur (by decide), fun m m10 m13 m20 m26 hm m39 => by rw [ur_ne m26, ur_ne m20]; exact eo m m10 m39 hm⟩
      refine Q1.fin hj l1j L1 (by decide) (by decide) (Or.inr ⟨?_, nI_0⟩)
      rw [e20, e26, show x 33 (6 * i) = q a 9 from g1.symm]
    · rw [if_neg cq]
      have hx : (if x 20 j = -1 then (if x 28 j = x 31 (6 * i) then ur (ur x1 20 (upd (x 20) j (nI 0))) 26 (upd (x 26) j (x 33 (6 * i))) else x1) else x1) = x1 := by
        by_cases c1 : x 20 j = -1
        · rw [if_pos c1]
          by_cases c2 : x 28 j = x 31 (6 * i)
          · exact absurd ((Q.l1 j a hj (g5 c1 c2)).1.trans c1) cq
          · rw [if_neg c2]
        · rw [if_neg c1]
      rw [hx]
      exact ⟨P1, Q1, V1, fun m m10 m13 m20 m26 hm m39 => eo m m10 m39 hm⟩
