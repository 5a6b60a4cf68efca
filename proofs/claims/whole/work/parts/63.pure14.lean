/-! a slot, a cycle -/
def cElg (z : Nat → Nat → Int32) (b0 : Nat) : Nat → Bool := fun k => decide (z 31 k = nI b0 ∧ ¬ z 17 k = 0 ∧ z 10 k = 0)
def cSm (z : Nat → Nat → Int32) (b0 : Nat) (n : Nat) : Bool := anyT (fun k => decide (z 31 k = nI b0 ∧ ¬ z 17 k = 0)) n
def cUsR (z : Nat → Nat → Int32) (b0 n : Nat) : Nat → Nat → Int32 := ur z 10 (fun j => if j < n ∧ z 31 j = nI b0 then nI 0 else z 10 j)
def cUs (z : Nat → Nat → Int32) (b0 : Nat) : Nat → Nat → Int32 := ur (cUsR z b0 12) 40 (fun _ => z 40 0 + nI 1)
def cSlot (c : CS) (b0 : Nat) : CS := match bstT (cElg c.1 b0) (c.1 13) 12 with
  | some i => cSF c.1 c.2.1 c.2.2 i b0
  | none => bif cSm c.1 b0 12 then (cUs c.1 b0, c.2.1, c.2.2) else c
theorem bst_c {E E' : Nat → Bool} {nu nu' : Nat → Int32} : ∀ {n : Nat}, (∀ k, k < n → E k = E' k) → (∀ k, k < n → nu k = nu' k) → bstT E nu n = bstT E' nu' n := by
  intro n
  induction n with
  | zero => intro _ _; rfl
  | succ n ih =>
    intro h1 h2
    have h4 := ih (fun k hk => h1 k (by omega)) (fun k hk => h2 k (by omega))
    cases e : E n with
    | false => rw [bst_0 e, bst_0 ((h1 n (by omega)) ▸ e)]; exact h4
    | true =>
      have e' : E' n = true := (h1 n (by omega)) ▸ e
      cases eb : bstT E' nu' n with
      | none => rw [bst_1 e' eb, bst_1 e (h4.trans eb)]
      | some j =>
        have hj := bst_lt eb
        by_cases c : nu' n ≤ nu' j
        · rw [bst_2 e' eb c, bst_2 e (h4.trans eb) (by rw [h2 n (by omega), h2 j (by omega)]; exact c)]
        · rw [bst_3 e' eb c, bst_3 e (h4.trans eb) (by rw [h2 n (by omega), h2 j (by omega)]; exact c)]
theorem bst_any {E : Nat → Bool} {nu : Nat → Int32} : ∀ {n : Nat}, (bstT E nu n).isSome = anyT E n := by
  intro n
  induction n with
  | zero => rfl
  | succ n ih =>
    show _ = (anyT E n || E n)
    cases e : E n with
    | false => rw [bst_0 e, ih, Bool.or_false]
    | true =>
      rw [Bool.or_true]
      cases eb : bstT E nu n with
      | none => rw [bst_1 e eb]; rfl
      | some j =>
        by_cases c : nu n ≤ nu j
        · rw [bst_2 e eb c]; rfl
        · rw [bst_3 e eb c]; rfl
theorem mSendC_20 {x : Nat → Nat → Int32} {a i : Nat} (h : mSendC x a 20 i = -1) : x 20 i = -1 := by
  unfold mSendC mSend at h
  have eT : ∀ q f, ur (mTake x a 0 q) 39 f 20 = x 20 := fun q f => by rw [ur_ne (by decide), mTake_ne (by omega)]
  have up : ∀ (f : Nat → Int32) j (v : Int32), ¬ v = -1 → upd f j v i = -1 → f i = -1 := by
    intro f j v hv hh
    unfold upd at hh
    split at hh
    · exact absurd hh hv
    · exact hh
  split at h
  · unfold mSReq at h
    split at h
    · split at h
      · rw [mPut_ne (by omega)] at h
        unfold mDone at h
        dsimp only at h
        split at h
        · rw [ur_ne (by decide), eT] at h; exact h
        · rw [eT] at h; exact h
      · split at h
        · rw [ur_eq] at h
          have := up _ _ _ (by decide) h
          rw [eT] at this; exact this
        · rw [mPut_ne (by omega), eT] at h; exact h
    · rw [ur_eq] at h
      have := up _ _ _ (by decide) h
      rw [eT] at this; exact this
  · split at h
    · split at h
      · rw [ur_ne (by decide), ur_eq] at h
        exact up _ _ _ (by decide) h
      · rw [eT] at h; exact h
    · rw [eT] at h; exact h
/-- what a step on a bus leaves alone -/
def Fr (x y : Nat → Nat → Int32) : Prop := (∀ j, j = 1 ∨ j = 18 ∨ j = 14 ∨ j = 17 ∨ j = 12 ∨ j = 15 ∨ j = 4 ∨ j = 7 ∨ j = 27 ∨ j = 36 ∨ j = 38 → y j = x j) ∧ ∀ i, y 20 i = -1 → x 20 i = -1
section Sl
variable {x z : Nat → Nat → Int32} {r : Nat → Nat → Option Nat} {q : Nat → Nat → Int32} {b0 : Nat}
theorem slot_K (V : MV x) (P : KP x z) (Q : KQ x r q) (hb0 : b0 < 12) (hz : ∀ a, a < 12 → z 31 a = x 18 a) : KP (mSlot x (nI b0)) (cSlot (z, r, q) b0).1 ∧ KQ (mSlot x (nI b0)) (cSlot (z, r, q) b0).2.1 (cSlot (z, r, q) b0).2.2 ∧ MV (mSlot x (nI b0)) ∧ Fr x (mSlot x (nI b0)) ∧ ∀ j, j = 30 ∨ j = 31 ∨ j = 32 ∨ j = 37 → (cSlot (z, r, q) b0).1 j = z j := by
  have z17 : ∀ t, t < 12 → z 17 t = x 35 t := fun t ht => P.r 17 t (Or.inl ⟨by decide, by decide, ht⟩)
  have z10 : ∀ t, t < 12 → z 10 t = x 10 t := fun t ht => P.r 10 t (Or.inl ⟨by decide, by decide, ht⟩)
  have z13 : ∀ t, t < 12 → z 13 t = x 15 t := fun t ht => P.r 13 t (Or.inl ⟨by decide, by decide, ht⟩)
  have eE : bstT (cElg z b0) (z 13) 12 = bstT (mElig x (nI b0) true) (x 15) 12 := by
    refine bst_c (fun k hk => ?_) z13
    unfold cElg mElig
    rw [hz k hk, z17 k hk, z10 k hk]
    refine decide_eq_decide.mpr ⟨fun h => ⟨h.1, h.2.1, fun h2 => h2.2 h.2.2⟩, fun h => ⟨h.1, h.2.1, Classical.byContradiction (fun h2 => h.2.2 ⟨rfl, h2⟩)⟩⟩
  unfold cSlot mSlot
  dsimp only
  rw [eE]
  cases e : bstT (mElig x (nI b0) true) (x 15) 12 with
  | some i =>
    have hi := bst_lt e
    have hE := of_decide_eq_true (bst_E e)
    have h := send_K (r := r) (q := q) (b0 := b0) V P Q hi hE.2.1 hE.1 hz
    dsimp only
    refine ⟨h.1, h.2.1, h.2.2.1, ⟨fun j hj => h.2.2.2 j (by omega) (by omega) (by omega) (by omega) (by omega) (by omega), fun k hk => ?_⟩, fun j hj => ?_⟩
    · have := mSendC_20 hk
      rw [ur_ne (by decide)] at this; exact this
    · have e1 : sfZ z i j = z j := by
        unfold sfZ
        rw [ur_ne (by omega), ur_ne (by omega), ur_ne (by omega)]
      have e2 : ∀ q' a t wd, t < 12 → wkZ (sfZ z i) q' a t wd j = z j := by
        intro q' a t wd ht
        unfold wkZ
        split
        · rw [ur_ne (by omega)]; exact e1
        · exact e1
      unfold cSF
      split
      · unfold cSR
        split
        · split
          · dsimp only
            rw [ur_ne (by omega)]
            unfold wkZ
            split
            · rw [ur_ne (by omega)]; exact e1
            · exact e1
          · split
            · dsimp only
              rw [ur_ne (by omega)]; exact e1
            · exact e1
        · exact e1
      · exact e1
  | none =>
    have eS : cSm z b0 12 = (bstT (mElig x (nI b0) false) (x 15) 12).isSome := by
      rw [bst_any]
      refine any_c (fun k hk => ?_)
      unfold mElig
      rw [hz k hk, z17 k hk]
      exact decide_eq_decide.mpr ⟨fun h => ⟨h.1, h.2, fun h2 => Bool.noConfusion h2.1⟩, fun h => ⟨h.1, h.2.1⟩⟩
    dsimp only
    rw [eS]
    cases e2 : bstT (mElig x (nI b0) false) (x 15) 12 with
    | none =>
      exact ⟨P, Q, V, ⟨fun _ _ => rfl, fun _ h => h⟩, fun _ _ => rfl⟩
    | some i =>
      dsimp only
      have k1 := P.set (j := 10) (by decide) (f := fun j => if j < 12 ∧ z 31 j = nI b0 then nI 0 else z 10 j) (g := fun j => if j < 12 ∧ x 18 j = nI b0 then nI 0 else x 10 j) (fun t ht => by rw [hz t ht, z10 t ht])
      have k2 := k1.set (j := 40) (by decide) (f := fun _ => z 40 0 + nI 1) (g := fun _ => x 41 0 + nI 1) (fun t ht => by rw [P.r 40 0 (Or.inr ⟨by decide, rfl⟩)]; rfl)
      refine ⟨k2.mdl (fun m m0 m1 m2 m38 hm => ?_), Q.cg (fun j h1 h2 => ?_), (V.ur (by decide)).ur (by decide), ⟨fun j hj => ?_, fun k hk => hk⟩, fun j hj => ?_⟩
      · show mUsed (ur x 41 (fun _ => x 41 0 + nI 1)) (nI b0) 12 m = ur (ur x 10 (fun j => if j < 12 ∧ x 18 j = nI b0 then nI 0 else x 10 j)) 41 (fun _ => x 41 0 + nI 1) m
        unfold mUsed
        by_cases c10 : m = 10
        · rw [c10, ur_eq]; rfl
        · rw [ur_ne c10]
          by_cases c41 : m = 41
          · rw [c41, ur_eq, ur_eq]
          · rw [ur_ne c41, ur_ne c41, ur_ne c10]
      · unfold mUsed
        rw [ur_ne (by omega), ur_ne (by omega)]
      · unfold mUsed
        rw [ur_ne (by omega), ur_ne (by omega)]
      · show cUs z b0 j = z j
        unfold cUs cUsR
        rw [ur_ne (by omega), ur_ne (by omega)]
end Sl
def cHr (z : Nat → Nat → Int32) (b0 a n : Nat) : Nat → Nat → Int32 := ur z 9 (fun i => if i < n ∧ z 31 i = nI b0 ∧ ¬ i = a then z 9 i + nI 1 else z 9 i)
def cHear (z : Nat → Nat → Int32) (b0 a : Nat) : Nat → Nat → Int32 := ur (cHr z b0 a 12) 39 (fun _ => z 39 0 + nI 1)
def cWho (z : Nat → Nat → Int32) (b0 k : Nat) : Option Nat := fstF (fun i => decide (z 31 i = nI b0 ∧ z 13 i = nI k)) 12 0
def cCy1 (z : Nat → Nat → Int32) (b0 : Nat) (room : Int64) (free : Int32) (t : Int64) (w : Option Nat) : Int64 × (Nat → Nat → Int32) := match w with
  | none => (t, z)
  | some a => if z 8 a ≤ 0 then (t, z) else if (free >>> (z 7 a &&& 31)) &&& nI 1 = 0 then (if t + (z 8 a).toInt64 ≤ room then (t + (z 8 a).toInt64, cHear z b0 a) else (t, z)) else (t, z)
def cCy (z : Nat → Nat → Int32) (b0 : Nat) (room : Int64) (free : Int32) : Nat → Int64 × (Nat → Nat → Int32)
  | 0 => (lN 0, z)
  | k + 1 => cCy1 (cCy z b0 room free k).2 b0 room free (cCy z b0 room free k).1 (cWho (cCy z b0 room free k).2 b0 k)
def cCyc (z : Nat → Nat → Int32) (b0 ch : Nat) : Nat → Nat → Int32 := (cCy z b0 (100 - (z (100 + ch) 6).toInt64) (z (100 + ch) 7) 12).2
theorem fst_c {P Q : Nat → Bool} : ∀ {d i : Nat}, (∀ k, k < i + d → P k = Q k) → fstF P d i = fstF Q d i := by
  intro d
  induction d with
  | zero => intro i _; rfl
  | succ d ih =>
    intro i h
    show (bif P i then some i else fstF P d (i + 1)) = (bif Q i then some i else fstF Q d (i + 1))
    rw [h i (by omega), ih (fun k hk => h k (by omega))]
def BW (x : Nat → Nat → Int32) : Prop := ∀ a, a < 12 → ∃ b, b ≤ 100 ∧ x 7 a = nI b
section Cy
variable {x z : Nat → Nat → Int32} {b0 : Nat}
theorem cyc_1 {r0 : Int64} {free : Int32} {k tt : Nat} {w : Option Nat} (P : KP x z) (B : BW x) (hz : ∀ a, a < 12 → z 31 a = x 18 a) (hw : ∀ a, w = some a → a < 12) (ht : tt ≤ 100 * k) (hk : k < 12) :
    ∃ tt', tt' ≤ 100 * (k + 1) ∧ (mCy1 x (nI b0) r0 free (nI tt) w).1 = nI tt' ∧ (cCy1 z b0 r0 free (lN tt) w).1 = lN tt' ∧ KP (mCy1 x (nI b0) r0 free (nI tt) w).2 (cCy1 z b0 r0 free (lN tt) w).2 ∧ (∀ j, j ≠ 5 → j ≠ 40 → (mCy1 x (nI b0) r0 free (nI tt) w).2 j = x j) ∧ ∀ j, j ≠ 9 → j ≠ 39 → (cCy1 z b0 r0 free (lN tt) w).2 j = z j := by
  cases w with
  | none => exact ⟨tt, by omega, rfl, rfl, P, fun _ _ _ => rfl, fun _ _ _ => rfl⟩
  | some a =>
    have ha := hw a rfl
    obtain ⟨b, hb, eb⟩ := B a ha
    have z8 : z 8 a = nI b := (P.r 8 a (Or.inl ⟨by decide, by decide, ha⟩)).trans eb
    have z7 : z 7 a = x 6 a := P.r 7 a (Or.inl ⟨by decide, by decide, ha⟩)
    have same : ∃ tt', tt' ≤ 100 * (k + 1) ∧ (nI tt, x).1 = nI tt' ∧ (lN tt, z).1 = lN tt' ∧ KP (nI tt, x).2 (lN tt, z).2 ∧ (∀ j, j ≠ 5 → j ≠ 40 → (nI tt, x).2 j = x j) ∧ ∀ j, j ≠ 9 → j ≠ 39 → (lN tt, z).2 j = z j := ⟨tt, by omega, rfl, rfl, P, fun _ _ _ => rfl, fun _ _ _ => rfl⟩
    unfold mCy1 cCy1
    dsimp only
    rw [z8, eb, z7]
    by_cases b00 : b = 0
    · rw [if_pos (by rw [b00]; decide), if_pos (by rw [b00]; decide)]
      exact same
    · rw [if_neg (nI_ne0 (by omega) (by omega)), if_neg (show ¬ nI b ≤ 0 by rw [← nI_0, nI_leI (by omega) (by decide)]; omega)]
      obtain ⟨jj, hjj, ej⟩ := pk_andE (free >>> (x 6 a &&& 31)) (m := nI 1) 1 (by decide)
      rw [ej]
      rcases (show jj = 0 ∨ jj = 1 by omega) with e | e
      · rw [e, if_neg (show ¬ nI 0 = nI 1 by decide), if_pos (show nI 0 = 0 from nI_0), nI_add, nI_l (show tt + b < 2 ^ 31 by omega), nI_l (show b < 2 ^ 31 by omega), lN_add]
        by_cases c : lN (tt + b) ≤ r0
        · rw [if_pos c, if_pos c]
          refine ⟨tt + b, by omega, rfl, rfl, ?_, fun j j5 j40 => ?_, fun j j9 j39 => ?_⟩
          · have k1 := P.set (j := 9) (by decide) (f := fun i => if i < 12 ∧ z 31 i = nI b0 ∧ ¬ i = a then z 9 i + nI 1 else z 9 i) (g := fun i => if i < 12 ∧ ¬ i = a ∧ x 18 i = nI b0 then x 5 i + nI 1 else x 5 i) (fun t ht => by
              have e9 : z 9 t = x 5 t := P.r 9 t (Or.inl ⟨by decide, by decide, ht⟩)
              rw [hz t ht, e9]
              by_cases c1 : t < 12 ∧ x 18 t = nI b0 ∧ ¬ t = a
              · rw [if_pos c1, if_pos ⟨c1.1, c1.2.2, c1.2.1⟩]
              · rw [if_neg c1, if_neg (fun h => c1 ⟨h.1, h.2.2, h.2.1⟩)])
            have k2 := k1.set (j := 39) (by decide) (f := fun _ => z 39 0 + nI 1) (g := fun _ => x 40 0 + nI 1) (fun t ht => by rw [P.r 39 0 (Or.inr ⟨by decide, rfl⟩)]; rfl)
            refine k2.mdl (fun m m0 m1 m2 m38 hm => ?_)
            show mHr (ur x 40 (fun _ => x 40 0 + nI 1)) (nI b0) a 12 m = ur (ur x 5 (fun i => if i < 12 ∧ ¬ i = a ∧ x 18 i = nI b0 then x 5 i + nI 1 else x 5 i)) 40 (fun _ => x 40 0 + nI 1) m
            unfold mHr
            by_cases c5 : m = 5
            · rw [c5, ur_eq]; rfl
            · rw [ur_ne c5]
              by_cases c40 : m = 40
              · rw [c40, ur_eq, ur_eq]
              · rw [ur_ne c40, ur_ne c40, ur_ne c5]
          · show mHr (ur x 40 (fun _ => x 40 0 + nI 1)) (nI b0) a 12 j = x j
            unfold mHr
            rw [ur_ne j5, ur_ne j40]
          · show cHear z b0 a j = z j
            unfold cHear cHr
            rw [ur_ne j39, ur_ne j9]
        · rw [if_neg c, if_neg c]
          exact same
      · rw [e, if_pos (show nI 1 = nI 1 from rfl), if_neg (show ¬ nI 1 = 0 by decide)]
        exact same
theorem cyc_K {r0 : Int64} {free : Int32} (P : KP x z) (B : BW x) (hz : ∀ a, a < 12 → z 31 a = x 18 a) : ∀ k, k ≤ 12 → ∃ tt, tt ≤ 100 * k ∧ (mCy x (nI b0) r0 free k).1 = nI tt ∧ (cCy z b0 r0 free k).1 = lN tt ∧ KP (mCy x (nI b0) r0 free k).2 (cCy z b0 r0 free k).2 ∧ (∀ j, j ≠ 5 → j ≠ 40 → (mCy x (nI b0) r0 free k).2 j = x j) ∧ ∀ j, j ≠ 9 → j ≠ 39 → (cCy z b0 r0 free k).2 j = z j := by
  intro k
  induction k with
  | zero => intro _; exact ⟨0, by omega, rfl, rfl, P, fun _ _ _ => rfl, fun _ _ _ => rfl⟩
  | succ k ih =>
    intro hk
    obtain ⟨tt, h1, h2, h3, h4, h5, h6⟩ := ih (by omega)
    show ∃ tt, tt ≤ 100 * (k + 1) ∧ (mCy1 (mCy x (nI b0) r0 free k).2 (nI b0) r0 free (mCy x (nI b0) r0 free k).1 (mWho (mCy x (nI b0) r0 free k).2 (nI b0) k)).1 = nI tt ∧ (cCy1 (cCy z b0 r0 free k).2 b0 r0 free (cCy z b0 r0 free k).1 (cWho (cCy z b0 r0 free k).2 b0 k)).1 = lN tt ∧ KP (mCy1 (mCy x (nI b0) r0 free k).2 (nI b0) r0 free (mCy x (nI b0) r0 free k).1 (mWho (mCy x (nI b0) r0 free k).2 (nI b0) k)).2 (cCy1 (cCy z b0 r0 free k).2 b0 r0 free (cCy z b0 r0 free k).1 (cWho (cCy z b0 r0 free k).2 b0 k)).2 ∧ (∀ j, j ≠ 5 → j ≠ 40 → (mCy1 (mCy x (nI b0) r0 free k).2 (nI b0) r0 free (mCy x (nI b0) r0 free k).1 (mWho (mCy x (nI b0) r0 free k).2 (nI b0) k)).2 j = x j) ∧ ∀ j, j ≠ 9 → j ≠ 39 → (cCy1 (cCy z b0 r0 free k).2 b0 r0 free (cCy z b0 r0 free k).1 (cWho (cCy z b0 r0 free k).2 b0 k)).2 j = z j
    have hz' : ∀ a, a < 12 → (cCy z b0 r0 free k).2 31 a = (mCy x (nI b0) r0 free k).2 18 a := fun a ha => by
      rw [h6 31 (by decide) (by decide), h5 18 (by decide) (by decide)]; exact hz a ha
    have ew : cWho (cCy z b0 r0 free k).2 b0 k = mWho (mCy x (nI b0) r0 free k).2 (nI b0) k := by
      unfold cWho mWho
      refine fst_c (fun i hi => ?_)
      rw [hz' i (by omega), h4.r 13 i (Or.inl ⟨by decide, by decide, by omega⟩)]
      rfl
    rw [ew, h2, h3]
    have B' : BW (mCy x (nI b0) r0 free k).2 := fun a ha => by rw [h5 7 (by decide) (by decide)]; exact B a ha
    obtain ⟨t', g1, g2, g3, g4, g5, g6⟩ := cyc_1 (b0 := b0) (r0 := r0) (free := free) (k := k) (tt := tt) (w := mWho (mCy x (nI b0) r0 free k).2 (nI b0) k) h4 B' hz' (fun a h => by have := fst_lt h; omega) h1 (by omega)
    exact ⟨t', g1, g2, g3, g4, fun j a b => (g5 j a b).trans (h5 j a b), fun j a b => (g6 j a b).trans (h6 j a b)⟩
end Cy
