/-! about, count, tick; the start -/
section Steps2
variable {ot : Nat → Option Nat} {b : Nat} {S : Nat → Bool} {x : Nat → Nat → Int32} {c : CS} {ck sn : Nat}
theorem st_about (K : KT ot b S x c ck sn) {N : Nat} (hfx : gP ot (itP ot N) 36 = itP ot N) {a : Int32} (h1 : ¬ ou a 12) (v : Int32) :
    (abC a v = 0 ∧ (mAb (mTx ot x N) (cl a) v).2 0 0 = nI 0 ∧ KT ot b S (mAb (mTx ot x N) (cl a) v).2 c ck sn ∧ cAbJ c.1 c.2.1 c.2.2 (cl a) (cl v) = (mAb (mTx ot x N) (cl a) v).1) ∨
    (abC a v = 2 ∧ (mAb (mTx ot x N) (cl a) v).2 0 0 = nI 2 ∧ KT ot b S (mAb (mTx ot x N) (cl a) v).2 c ck sn) := by
  have KS := K.tx hfx
  have h0 : mTx ot x N 0 0 = nI 0 := rfl
  generalize mTx ot x N = y at KS h0 ⊢
  obtain ⟨Y, h18⟩ := KS
  unfold abC mAb
  rw [if_neg h1]
  by_cases h2 : v < 0 ∨ nI 9 ≤ v
  · rw [if_pos h2, if_pos h2]; exact Or.inr ⟨rfl, rfl, Y.th 2⟩
  rw [if_neg h2, if_neg h2]
  obtain ⟨a1, a2⟩ := ou_c (by decide) h1
  obtain ⟨w1, w2⟩ := ou_c (k := 9) (by decide) h2
  generalize cl a = i at a1 a2 ⊢
  have e31 : c.1 31 i = y 18 i := (Y.h31 i a1).trans (h18 i a1).symm
  have er : ∀ j, 3 ≤ j → j ≤ 17 → c.1 j i = y (mu j) i := fun j h3 h4 => Y.p.r j i (Or.inl ⟨h3, h4, a1⟩)
  have e7 : cntT (fun k => cW c.2.2 (c.2.1 (12 + i) k)) 4 = cntT (fun k => decide (y 20 (4 * i + k) = -1)) 4 := cnt_c (fun k hk => Y.lb a1 hk)
  have hj : cl v = 0 ∨ cl v = 1 ∨ cl v = 2 ∨ cl v = 3 ∨ cl v = 4 ∨ cl v = 5 ∨ cl v = 6 ∨ cl v = 7 ∨ cl v = 8 := by omega
  rcases hj with e | e | e | e | e | e | e | e | e
  · rw [e]
    refine Or.inl ⟨rfl, h0, Y, ?_⟩
    show (bif cDirty c.1 (c.1 31 i) then -1 else c.1 13 i) = (if y 12 i = 0 then (bif mDirty y (y 18 i) then -1 else y 15 i) else -1)
    rw [e31, Y.dirty h18, er 13 (by decide) (by decide)]
    show (bif mDirty y (y 18 i) then -1 else y 15 i) = _
    by_cases h12 : y 12 i = 0
    · rw [if_pos h12]
    · rw [if_neg h12, Y.i.ln i a1 h12]
      cases mDirty y (y 18 i) <;> rfl
  · rw [e]; exact Or.inl ⟨rfl, h0, Y, er 14 (by decide) (by decide)⟩
  · rw [e]; exact Or.inl ⟨rfl, h0, Y, er 15 (by decide) (by decide)⟩
  · rw [e]; exact Or.inl ⟨rfl, h0, Y, er 16 (by decide) (by decide)⟩
  · rw [e]; exact Or.inl ⟨rfl, h0, Y, er 17 (by decide) (by decide)⟩
  · rw [e]; exact Or.inl ⟨rfl, h0, Y, er 9 (by decide) (by decide)⟩
  · rw [e]; exact Or.inl ⟨rfl, h0, Y, er 4 (by decide) (by decide)⟩
  · rw [e]; exact Or.inl ⟨rfl, h0, Y, congrArg nI e7⟩
  · rw [e]
    refine Or.inl ⟨rfl, h0, Y, ?_⟩
    show (if c.1 10 i = 0 then nI 0 else nI 1) = (if y 10 i = 0 then nI 0 else nI 1)
    rw [er 10 (by decide) (by decide)]; rfl
theorem st_count (K : KT ot b S x c ck sn) {N : Nat} (hfx : gP ot (itP ot N) 36 = itP ot N) (v : Int32) : (if v < 0 ∨ nI 8 ≤ v then -1 else cCnJ c.1 (itP ot 11) (cl v)) = mCo (mTx ot x N) v ∧ KT ot b S (mTx ot x N) c ck sn := by
  have KS := K.tx hfx
  generalize mTx ot x N = y at KS ⊢
  obtain ⟨Y, h18⟩ := KS
  refine ⟨?_, Y⟩
  unfold mCo
  by_cases h2 : v < 0 ∨ nI 8 ≤ v
  · rw [if_pos h2, if_pos h2]
  rw [if_neg h2, if_neg h2]
  obtain ⟨w1, w2⟩ := ou_c (k := 8) (by decide) h2
  have er : ∀ j, (j = 35 ∨ j = 36 ∨ j = 38 ∨ j = 39 ∨ j = 40) → c.1 j 0 = y (mu j) 0 := fun j h3 => Y.p.r j 0 (Or.inr ⟨h3, rfl⟩)
  have hb : ∀ k, k < 12 → decide (itP ot 11 k = k) = decide (y 18 k = nI k) := fun k hk => by
    have := bus_nb h18 hk
    by_cases z : itP ot 11 k = k
    · rw [decide_eq_true z, decide_eq_true (this.mpr z)]
    · rw [decide_eq_false z, decide_eq_false (fun q => z (this.mp q))]
  have hj : cl v = 0 ∨ cl v = 1 ∨ cl v = 2 ∨ cl v = 3 ∨ cl v = 4 ∨ cl v = 5 ∨ cl v = 6 ∨ cl v = 7 := by omega
  rcases hj with e | e | e | e | e | e | e | e
  · rw [e]; exact Y.h32
  · rw [e]; exact congrArg nI (cnt_c hb)
  · rw [e]; exact er 35 (by decide)
  · rw [e]; exact Y.rs
  · rw [e]; exact er 38 (by decide)
  · rw [e]; exact er 39 (by decide)
  · rw [e]; exact er 40 (by decide)
  · rw [e]
    refine congrArg nI (cnt_c (fun k hk => ?_))
    have e12 : c.1 12 k = y 12 k := Y.p.r 12 k (Or.inl ⟨by decide, by decide, hk⟩)
    rw [hb k hk, e12, Y.dirty h18]
    cases mDirty y (nI k) <;> by_cases z1 : y 18 k = nI k <;> by_cases z2 : y 12 k = 0 <;> simp [z1, z2]
theorem mSlot_0 {x : Nat → Nat → Int32} {v0 : Int32} : mSlot x v0 0 = x 0 := by
  unfold mSlot
  cases bstT (mElig x v0 true) (x 15) 12 with
  | some a => exact (mSendC_fr (by omega)).trans (ur_ne (by decide))
  | none =>
    dsimp only
    cases bstT (mElig x v0 false) (x 15) 12 with
    | none => rfl
    | some a => rfl
theorem KT.cyc1 (K : KT ot b S x c ck sn) {b0 : Nat} (h18 : ∀ a, a < 12 → x 18 a = nI (itP ot 11 a)) {ch : Nat} : mCycle x (nI b0) ch 0 = x 0 := by
  have hz : ∀ a, a < 12 → c.1 31 a = x 18 a := fun a ha => (K.h31 a ha).trans (h18 a ha).symm
  have hm : mCycle x (nI b0) ch = (mCy x (nI b0) (100 - (x 13 (8 * ch + 6)).toInt64) (x 13 (8 * ch + 7)) 12).2 := by unfold mCycle; rfl
  rw [hm]
  generalize (100 - (x 13 (8 * ch + 6)).toInt64) = r0
  generalize x 13 (8 * ch + 7) = free
  have h := cyc_K (b0 := b0) (r0 := r0) (free := free) K.p K.bw hz 12 (Nat.le_refl _)
  generalize mCy x (nI b0) r0 free 12 = y at h ⊢
  generalize cCy c.1 b0 r0 free 12 = w at h
  obtain ⟨tt, _, _, _, k1, k2, k3⟩ := h
  exact k2 0 (by decide) (by decide)
theorem KS.tb0 (K : KS ot b S x c ck sn) {b0 : Nat} (hb : b0 < 12) (hib : itP ot 11 b0 = b0) : mTB ot x b0 0 = x 0 := by
  unfold mTB
  cases mDirty x (nI b0) with
  | true => exact (K.1.rS K.2 hb hib).row (by omega)
  | false =>
    dsimp only [cond_false]
    split
    · split
      · split
        · exact mSlot_0
        · exact K.1.cyc1 K.2
      · exact mSlot_0
    · rfl
theorem KS.bs0 (K : KS ot b S x c ck sn) (h31 : ck < 2 ^ 31) : ∀ k, k ≤ 12 → mBs ot x k 0 = x 0 := by
  intro k
  induction k with
  | zero => intro _; rfl
  | succ k ih =>
    intro hk
    have B := K.bs h31 k (by omega)
    show (if mBs ot x k 18 k = nI k then mTB ot (mBs ot x k) k else mBs ot x k) 0 = x 0
    split
    · rename_i e
      rw [B.tb0 (by omega) ((bus_nb B.2 (by omega)).mp e)]
      exact ih (by omega)
    · exact ih (by omega)
theorem KS.tk0 (K : KS ot b S x c ck sn) (hck : ck + 50 < 2 ^ 31) : ∀ t, t ≤ 50 → mTk ot x t 0 = x 0 := by
  intro t
  induction t with
  | zero => intro _; rfl
  | succ t ih =>
    intro ht
    have T := K.tk hck t (by omega)
    show mLate (ur (mBs ot (mTk ot x t) 12) 36 (fun _ => mBs ot (mTk ot x t) 12 36 0 + nI 1)) 48 0 = x 0
    rw [mLate_ne (by decide) (by omega), ur_ne (by decide), T.bs0 (by omega) 12 (Nat.le_refl _)]
    exact ih (by omega)
theorem st_tick (K : KT ot b S x c ck sn) (hck : ck + 50 < 2 ^ 31) {N : Nat} (hfx : gP ot (itP ot N) 36 = itP ot N) {v : Int32} (h : ¬ (v < nI 1 ∨ nI 50 < v)) : mTk ot (mTx ot x N) (cl v) 0 0 = nI 0 ∧ (cTk ot (itP ot 11) c (cl v)).1 35 0 = mTk ot (mTx ot x N) (cl v) 36 0 ∧ ∃ ck', ck' ≤ ck + 50 ∧ KT ot b S (mTk ot (mTx ot x N) (cl v)) (cTk ot (itP ot 11) c (cl v)) ck' sn := by
  obtain ⟨a1, a2, a3⟩ := rg_n (by decide) (by decide) h
  have Y := K.tx hfx
  have T := Y.tk hck (cl v) a2
  refine ⟨?_, T.1.p.r 35 0 (Or.inr ⟨by decide, rfl⟩), ck + cl v, by omega, T.1⟩
  rw [Y.tk0 hck _ a2]
  rfl
/-! the swap of the two objects' cells -/
theorem ch_mh {A : Nat → ClassId} {b mm : Nat} {z : Nat → Nat → Int32} {r : Nat → Nat → Option Nat} {q : Nat → Nat → Int32} {x : Nat → Nat → Int32} {h : Hp} (hm : b + 67 < mm) (hS : ∀ a, S a = true → mm + 34 < a) : CH A b z r (RH S q (MH A mm x h)) = MH A mm x (CH A b z r (RH S q h)) := by
  funext a
  unfold CH RH MH
  dsimp only
  by_cases h1 : a < b ∨ b + 67 < a
  · rw [if_pos h1, if_pos h1]
    by_cases h2 : a < mm ∨ mm + 34 < a
    · rw [if_pos h2, if_pos h2]
    · have h3 : ¬ S a = true := fun e => h2 (Or.inr (hS a e))
      rw [if_neg h3, if_neg h2, if_neg h2]
  · rw [if_neg h1, if_neg h1, if_pos (Or.inl (by omega))]
theorem lg_at {A : Nat → ClassId} {lg : Nat} {z : Nat → Nat → Int32} {r : Nat → Nat → Option Nat} {q : Nat → Nat → Int32} {h : Hp} {e : va_E} (h1 : lg < b ∨ b + 67 < lg) (h2 : S lg = false) (h3 : h lg = some e) : CH A b z r (RH S q h) lg = some e := (ch_out h1).trans ((rh_out (by rw [h2]; decide)).trans h3)
theorem lg_hs {A : Nat → ClassId} {lg : Nat} {z : Nat → Nat → Int32} {r : Nat → Nat → Option Nat} {q : Nat → Nat → Int32} {h : Hp} {e : va_E} (h1 : lg < b ∨ b + 67 < lg) (h2 : S lg = false) : hs (CH A b z r (RH S q h)) lg e = CH A b z r (RH S q (hs h lg e)) := by
  rw [ch_hs h1]
  congr 1
  funext a
  unfold RH hs
  by_cases e1 : a = lg
  · subst e1
    rw [if_pos rfl, if_neg (by rw [h2]; decide), if_pos rfl]
  · rw [if_neg e1, if_neg e1]
/-! the start -/
theorem fl0_in {k : Nat} {v d : Int32} {i : Nat} (h : i < k) : fl0 k v d i = v := by
  unfold fl0
  first | exact if_pos h | (simp [h])
theorem no_no {t : Nat} (h : (none : Option Nat) = some t) : False := by cases h
theorem zr_20 {j : Nat} (h : j < 48) : mX 36 48 12 20 j = -2 := (show mX 36 48 12 20 j = fl0 48 (-2) 0 j from rfl).trans (fl0_in h)
theorem zr_1 {j : Nat} (h : j < 36) : mX 36 48 12 1 j = -1 := (show mX 36 48 12 1 j = fl0 36 (-1) 0 j from rfl).trans (fl0_in h)
theorem zr_w {j : Nat} (h : j < 48) : ¬ mX 36 48 12 20 j = -1 := by rw [zr_20 h]; decide
theorem zr_kp : KP (mX 36 48 12) z0 := by
  refine ⟨fun j a h => ?_, fun a w ha hw => ?_⟩
  · rcases h with ⟨h1, h2, h3⟩ | ⟨h1, rfl⟩
    · have hj : j = 3 ∨ j = 4 ∨ j = 5 ∨ j = 6 ∨ j = 7 ∨ j = 8 ∨ j = 9 ∨ j = 10 ∨ j = 11 ∨ j = 12 ∨ j = 13 ∨ j = 14 ∨ j = 15 ∨ j = 16 ∨ j = 17 := by omega
      rcases hj with rfl | rfl | rfl | rfl | rfl | rfl | rfl | rfl | rfl | rfl | rfl | rfl | rfl | rfl | rfl
      · rfl
      · rfl
      · rfl
      · rfl
      · rfl
      · rfl
      · rfl
      · rfl
      · exact (fl0_in h3).symm
      · rfl
      · exact (fl0_in h3).symm
      · exact (fl0_in h3).symm
      · exact (fl0_in h3).symm
      · exact (fl0_in h3).symm
      · rfl
    · rcases h1 with rfl | rfl | rfl | rfl | rfl <;> rfl
  · show z0 (100 + a) w = wd0 12 (8 * a + w)
    unfold z0 wd0
    rw [if_neg (by omega), if_neg (by omega), if_neg (by omega), if_neg (by omega), if_neg (by omega), if_pos (by omega), if_pos (show (8 * a + w) / 8 < 12 by omega), show (8 * a + w) % 8 = w by omega]
    unfold upd
    have hj : w = 0 ∨ w = 1 ∨ w = 2 ∨ w = 3 ∨ w = 4 ∨ w = 5 ∨ w = 6 ∨ w = 7 := by omega
    rcases hj with rfl | rfl | rfl | rfl | rfl | rfl | rfl | rfl <;> rfl
theorem zr_kq {q : Nat → Nat → Int32} : KQ (mX 36 48 12) r0 q := by
  have h35 : ∀ i, cl (mX 36 48 12 35 i) = 0 := fun i => rfl
  refine ⟨fun j hj _ => zr_20 hj, fun j a _ h => (no_no h).elim, fun j a _ h => (no_no h).elim, fun j a _ h => (no_no h).elim, fun j j' a _ _ h => (no_no h).elim, fun i k _ h => ?_, fun i k a _ _ h => (no_no h).elim, fun i k a _ _ h => (no_no h).elim, fun i k i' k' a _ _ _ _ h => (no_no h).elim, ⟨0, rfl, by decide, fun j hj h => absurd h (zr_w hj), fun i k _ h => ?_⟩, fun j j' hj _ h => absurd h (zr_w hj)⟩
  · rw [h35] at h; exact absurd h (Nat.not_lt_zero _)
  · rw [h35] at h; exact absurd h (Nat.not_lt_zero _)
theorem KT.zero {q : Nat → Nat → Int32} : KT (fun _ => none) b (fun _ => false) (mX 36 48 12) (z0, r0, q) 0 0 := by
  have hp : PaV (mX 36 48 12 14) := fun a ha => ⟨none, (show mX 36 48 12 14 a = fl0 12 (-1) 0 a from rfl).trans (fl0_in ha), fun b h => (no_no h).elim⟩
  have hm : PaV (mX 36 48 12 17) := fun a ha => ⟨none, (show mX 36 48 12 17 a = fl0 12 (-1) 0 a from rfl).trans (fl0_in ha), fun b h => (no_no h).elim⟩
  refine ⟨zr_kp, rfl, zr_kq, ⟨fun a _ => ⟨0, by decide, rfl⟩, fun k _ => Or.inl rfl, fun k _ => ⟨0, by decide, rfl⟩, fun k _ => ⟨0, by decide, rfl⟩, fun k _ => ⟨0, by decide, rfl⟩⟩, ⟨fun a _ => ⟨0, by decide, rfl⟩, hp, hm, fun a _ h => absurd rfl h⟩, fun a _ => ⟨0, by decide, rfl⟩, ⟨fun _ _ _ h => (no_no h).elim, fun _ _ _ h => (no_no h).elim, fun _ _ h => (no_no h).elim, fun _ _ _ h => (no_no h).elim⟩, fun k hk => zr_1 hk, fun k hk => (show z0 30 k = fl0 36 (-1) 0 k from rfl).trans (fl0_in hk), fun a ha => (show z0 31 a = rN (itP (fun _ => none) 11) (fun _ => 0) a from rfl).trans (rN_at ha), ?_, ⟨rfl, fun i hi h => absurd h (zr_w hi)⟩, ⟨20, by decide, by decide, rfl⟩, ⟨0, by decide, rfl⟩, ⟨fun _ _ _ h => (no_no h).elim, fun _ h => Bool.noConfusion h⟩⟩
  have e : cntT (fun k => decide (nI k < mX 36 48 12 1 k)) 36 = cntT (fun _ => false) 36 := cnt_c (fun k hk => by rw [zr_1 hk]; exact decide_eq_false (nI_ltm (by omega)))
  rw [e]
  rfl
end Steps2
