/-! both sides in a tick -/
abbrev Cb0 (ot : Nat → Option Nat) : Prop :=
  (∀ k t, k < 36 → ot k = some t → t < 36) ∧
  (∀ k t, k < 36 → ot k = some t → ot t = some k) ∧
  (∀ k t, ot k = some t → k < 36) ∧
  (∀ k t, k < 36 → ot k = some t → k / 3 ≠ t / 3)
theorem Cb0.cab {ot : Nat → Option Nat} (h : Cb0 ot) {f : Nat → Int32} (hf : ∀ a, a < 12 → f a = nI (itP ot 11 a)) : Cab ot f := by
  refine ⟨h.1, h.2.1, h.2.2.1, h.2.2.2, fun k t hk ho => ?_⟩
  have := h.1 k t hk ho
  rw [hf _ (by omega), hf _ (by omega), bus_c h.1 h.2.1 hk ho]
/-- the model's x and the class's rows c say the same; ck: the clock; sn: how many requests so far at most -/
abbrev KT (ot : Nat → Option Nat) (b : Nat) (S : Nat → Bool) (x : Nat → Nat → Int32) (c : CS) (ck sn : Nat) : Prop :=
  KP x c.1 ∧ c.1 37 0 = x 38 0 ∧ KQ x c.2.1 c.2.2 ∧ MV x ∧ IV x ∧ BW x ∧ Cb0 ot ∧
  (∀ k, k < 36 → x 1 k = oi (ot k)) ∧ (∀ k, k < 36 → c.1 30 k = oi (ot k)) ∧ (∀ a, a < 12 → c.1 31 a = nI (itP ot 11 a)) ∧
  c.1 32 0 = nI (cntT (fun k => decide (nI k < x 1 k)) 36) ∧ KD x ck 48 ∧ (∃ pa, 2 ≤ pa ∧ pa ≤ 60 ∧ x 37 0 = nI pa) ∧ (∃ s, s ≤ sn ∧ x 29 0 = nI s) ∧ RV b c.2.1 S
theorem KT.p {ot : Nat → Option Nat} {b : Nat} {S : Nat → Bool} {x : Nat → Nat → Int32} {c : CS} {ck sn : Nat} (h : KT ot b S x c ck sn) : KP x c.1 := h.1
theorem KT.rs {ot : Nat → Option Nat} {b : Nat} {S : Nat → Bool} {x : Nat → Nat → Int32} {c : CS} {ck sn : Nat} (h : KT ot b S x c ck sn) : c.1 37 0 = x 38 0 := h.2.1
theorem KT.q {ot : Nat → Option Nat} {b : Nat} {S : Nat → Bool} {x : Nat → Nat → Int32} {c : CS} {ck sn : Nat} (h : KT ot b S x c ck sn) : KQ x c.2.1 c.2.2 := h.2.2.1
theorem KT.v {ot : Nat → Option Nat} {b : Nat} {S : Nat → Bool} {x : Nat → Nat → Int32} {c : CS} {ck sn : Nat} (h : KT ot b S x c ck sn) : MV x := h.2.2.2.1
theorem KT.i {ot : Nat → Option Nat} {b : Nat} {S : Nat → Bool} {x : Nat → Nat → Int32} {c : CS} {ck sn : Nat} (h : KT ot b S x c ck sn) : IV x := h.2.2.2.2.1
theorem KT.bw {ot : Nat → Option Nat} {b : Nat} {S : Nat → Bool} {x : Nat → Nat → Int32} {c : CS} {ck sn : Nat} (h : KT ot b S x c ck sn) : BW x := h.2.2.2.2.2.1
theorem KT.cb {ot : Nat → Option Nat} {b : Nat} {S : Nat → Bool} {x : Nat → Nat → Int32} {c : CS} {ck sn : Nat} (h : KT ot b S x c ck sn) : Cb0 ot := h.2.2.2.2.2.2.1
theorem KT.h1 {ot : Nat → Option Nat} {b : Nat} {S : Nat → Bool} {x : Nat → Nat → Int32} {c : CS} {ck sn : Nat} (h : KT ot b S x c ck sn) : ∀ k, k < 36 → x 1 k = oi (ot k) := h.2.2.2.2.2.2.2.1
theorem KT.h30 {ot : Nat → Option Nat} {b : Nat} {S : Nat → Bool} {x : Nat → Nat → Int32} {c : CS} {ck sn : Nat} (h : KT ot b S x c ck sn) : ∀ k, k < 36 → c.1 30 k = oi (ot k) := h.2.2.2.2.2.2.2.2.1
theorem KT.h31 {ot : Nat → Option Nat} {b : Nat} {S : Nat → Bool} {x : Nat → Nat → Int32} {c : CS} {ck sn : Nat} (h : KT ot b S x c ck sn) : ∀ a, a < 12 → c.1 31 a = nI (itP ot 11 a) := h.2.2.2.2.2.2.2.2.2.1
theorem KT.h32 {ot : Nat → Option Nat} {b : Nat} {S : Nat → Bool} {x : Nat → Nat → Int32} {c : CS} {ck sn : Nat} (h : KT ot b S x c ck sn) : c.1 32 0 = nI (cntT (fun k => decide (nI k < x 1 k)) 36) := h.2.2.2.2.2.2.2.2.2.2.1
theorem KT.d {ot : Nat → Option Nat} {b : Nat} {S : Nat → Bool} {x : Nat → Nat → Int32} {c : CS} {ck sn : Nat} (h : KT ot b S x c ck sn) : KD x ck 48 := h.2.2.2.2.2.2.2.2.2.2.2.1
theorem KT.pt {ot : Nat → Option Nat} {b : Nat} {S : Nat → Bool} {x : Nat → Nat → Int32} {c : CS} {ck sn : Nat} (h : KT ot b S x c ck sn) : ∃ pa, 2 ≤ pa ∧ pa ≤ 60 ∧ x 37 0 = nI pa := h.2.2.2.2.2.2.2.2.2.2.2.2.1
theorem KT.sn {ot : Nat → Option Nat} {b : Nat} {S : Nat → Bool} {x : Nat → Nat → Int32} {c : CS} {ck sn : Nat} (h : KT ot b S x c ck sn) : ∃ s, s ≤ sn ∧ x 29 0 = nI s := h.2.2.2.2.2.2.2.2.2.2.2.2.2.1
theorem KT.rv {ot : Nat → Option Nat} {b : Nat} {S : Nat → Bool} {x : Nat → Nat → Int32} {c : CS} {ck sn : Nat} (h : KT ot b S x c ck sn) : RV b c.2.1 S := h.2.2.2.2.2.2.2.2.2.2.2.2.2.2
theorem KD.mono {x y : Nat → Nat → Int32} {ck j : Nat} (D : KD x ck j) (h27 : y 27 = x 27) (h36 : y 36 = x 36) (h20 : ∀ i, y 20 i = -1 → x 20 i = -1) : KD y ck j := by
  refine ⟨by rw [h36]; exact D.1, fun i hi h => ?_⟩
  rw [h27]
  exact D.2 i hi (h20 i h)
theorem IV.fr {x y : Nat → Nat → Int32} (I : IV x) (h4 : y 4 = x 4) (h14 : y 14 = x 14) (h17 : y 17 = x 17) (h12 : y 12 = x 12) (h15 : y 15 = x 15) : IV y := by
  refine ⟨fun a ha => ?_, ?_, ?_, fun a ha => ?_⟩
  · rw [h4]; exact I.pv a ha
  · rw [h14]; exact I.pa
  · rw [h17]; exact I.mg
  · rw [h12, h15]; exact I.ln a ha
theorem mSendC_fr {x : Nat → Nat → Int32} {a j : Nat} (h : j ≠ 13 ∧ j ≠ 20 ∧ j ≠ 26 ∧ ¬ (30 ≤ j ∧ j ≤ 35) ∧ j ≠ 39) : mSendC x a j = x j := by
  have eT : ∀ q f, ur (mTake x a 0 q) 39 f j = x j := fun q f => by rw [ur_ne h.2.2.2.2, mTake_ne (by omega)]
  unfold mSendC mSend
  split
  · unfold mSReq
    split
    · split
      · rw [mPut_ne h.2.2.2.1]
        unfold mDone
        dsimp only
        split
        · rw [ur_ne h.1, eT]
        · rw [eT]
      · split
        · rw [ur_ne h.2.1, eT]
        · rw [mPut_ne h.2.2.2.1, eT]
    · rw [ur_ne h.2.1, eT]
  · split
    · split
      · rw [ur_ne h.2.2.1, ur_ne h.2.1, eT]
      · rw [eT]
    · rw [eT]
theorem mSlot_fr {x : Nat → Nat → Int32} {v0 : Int32} : mSlot x v0 37 = x 37 ∧ mSlot x v0 29 = x 29 := by
  unfold mSlot
  cases bstT (mElig x v0 true) (x 15) 12 with
  | some a =>
    dsimp only
    exact ⟨(mSendC_fr (by omega)).trans (ur_ne (by decide)), (mSendC_fr (by omega)).trans (ur_ne (by decide))⟩
  | none =>
    dsimp only
    cases bstT (mElig x v0 false) (x 15) 12 with
    | none => exact ⟨rfl, rfl⟩
    | some a => exact ⟨rfl, rfl⟩
section KT1
variable {ot : Nat → Option Nat} {b : Nat} {S : Nat → Bool} {x : Nat → Nat → Int32} {c : CS} {ck sn b0 : Nat}
theorem KT.rS (K : KT ot b S x c ck sn) (h18 : ∀ a, a < 12 → x 18 a = nI (itP ot 11 a)) (hb : b0 < 12) (hib : itP ot 11 b0 = b0) : RS ot x c.1 b0 :=
  ⟨hb, h18, K.h31, hib, K.cb.cab h18, K.i.pa, K.p⟩
theorem KT.dirty (K : KT ot b S x c ck sn) (h18 : ∀ a, a < 12 → x 18 a = nI (itP ot 11 a)) (v : Int32) : cDirty c.1 v = mDirty x v := by
  unfold cDirty mDirty
  refine any_c (fun k hk => ?_)
  have e : c.1 11 k = x 11 k := K.p.r 11 k (Or.inl ⟨by decide, by decide, hk⟩)
  rw [K.h31 k hk, h18 k hk, e]
theorem KT.hq (K : KT ot b S x c ck sn) : ∀ i, i < 12 → ¬ c.1 17 i = 0 → HQ c.1 c.2.1 c.2.2 i := by
  intro i hi h
  have e : c.1 17 i = x 35 i := K.p.r 17 i (Or.inl ⟨by decide, by decide, hi⟩)
  rw [e] at h
  obtain ⟨sz, h6, hs⟩ := K.v.1 i hi
  have hsz : 0 < sz := by
    rcases Nat.eq_zero_or_pos sz with e | e
    · rw [hs, e] at h; exact absurd nI_0 h
    · exact e
  have hcs : cl (x 35 i) = sz := by rw [hs]; exact cl_nI (by omega)
  obtain ⟨a, ha, h8⟩ := K.q.p0 i 0 hi (by omega)
  refine ⟨a, sz, h6, hsz, by rw [e]; exact hs, ha, fun q8 => ?_⟩
  obtain ⟨j, j1, j2, j3, j4, j5, j6, n, j7, j8⟩ := K.q.p1 i 0 a hi (by omega) ha (h8.symm.trans q8)
  obtain ⟨f0, f1, f2, f3, f4, f5⟩ := K.q.l3 j a (by omega) j4 j3
  obtain ⟨t, ht, et⟩ := K.v.2.2.2.1 j (by omega)
  obtain ⟨wd, hwd, ew⟩ := K.v.2.2.2.2 j (by omega)
  exact ⟨t, wd, ht, hwd, f0.trans et, f2.trans ew⟩
theorem KT.cok (K : KT ot b S x c ck sn) : Cok b S c := by
  refine ⟨K.rv, fun i hi => ?_⟩
  have e : c.1 17 i = x 35 i := K.p.r 17 i (Or.inl ⟨by decide, by decide, hi⟩)
  obtain ⟨sz, h6, hs⟩ := K.v.1 i hi
  exact ⟨sz, h6, e.trans hs⟩
theorem KT.cbok (K : KT ot b S x c ck sn) (h31 : ck < 2 ^ 31) (hb : b0 < 12) : CBok ot b S c b0 := by
  refine ⟨K.h30, fun a ha => ?_, K.cok, ⟨ck, h31, ?_⟩, ?_, K.hq⟩
  · have e : c.1 4 a = x 4 a := K.p.r 4 a (Or.inl ⟨by decide, by decide, ha⟩)
    rw [e]; exact K.i.pv a ha
  · have e : c.1 35 0 = x 36 0 := K.p.r 35 0 (Or.inr ⟨by decide, rfl⟩)
    rw [e]; exact K.d.1
  · have e : c.1 16 b0 = x 17 b0 := K.p.r 16 b0 (Or.inl ⟨by decide, by decide, hb⟩)
    rw [e]; exact K.i.mg b0 hb
theorem KT.tbok (K : KT ot b S x c ck sn) (h31 : ck < 2 ^ 31) (h18 : ∀ a, a < 12 → x 18 a = nI (itP ot 11 a)) (hb : b0 < 12) (hib : itP ot 11 b0 = b0) : TBok ot x b0 :=
  ⟨K.h1, K.i.pv, K.v, ⟨ck, h31, K.d.1⟩, K.i.mg b0 hb, (K.rS h18 hb hib).tr⟩
theorem cRsE_ne {z : Nat → Nat → Int32} {j : Nat} (hj : j = 30 ∨ j = 31 ∨ j = 32 ∨ j = 37) : cRsE ot z b0 j = z j := by
  have e1 : cRst ot z b0 j = z j := by
    unfold cRst
    rw [cRs_ne (by omega) (by omega) (by omega) (by omega)]
    unfold cOpen
    rw [ur_ne (by omega)]
    unfold cCln
    rw [if_neg (by omega), if_neg (by omega), if_neg (by omega)]
  unfold cRsE cEndR
  cases cAny (cRst ot z b0) with
  | true => show cLn _ _ _ _ _ j = _; rw [cLn_r (by omega) (by omega) (by omega) (by omega)]; exact e1
  | false =>
    show cLn _ _ _ _ _ j = _
    rw [cLn_r (by omega) (by omega) (by omega) (by omega)]
    unfold cX1
    rw [ur_ne (by omega)]; exact e1
/-- a reset -/
theorem KT.reset (K : KT ot b S x c ck sn) (h18 : ∀ a, a < 12 → x 18 a = nI (itP ot 11 a)) (hb : b0 < 12) (hib : itP ot 11 b0 = b0) : KT ot b S (mResetB ot (nI b0) x) (cResetZ ot c.1 b0, rEm c.2.1 (cBz c.1 (nI b0) 12) 12, rBs c.2.1 c.2.2 (cBz c.1 (nI b0) 12) 12) ck sn := by
  have H := K.rS h18 hb hib
  have er : ∀ j, 21 ≤ j ∧ j ≤ 34 ∨ j = 1 ∨ j = 7 ∨ j = 36 ∨ j = 37 → mResetB ot (nI b0) x j = x j := fun j hj => H.row (by omega)
  have e20 := H.row2 (j := 20) (by omega)
  have e35 := H.row2 (j := 35) (by omega)
  have e38 := H.row2 (j := 38) (by omega)
  have z20 : mX0 ot (nI b0) x 20 = ov (cB (ur x 38 (fun _ => x 38 0 + nI 1)) (nI b0) 12) 4 (fun i => if x 20 i = -1 then nI 1 else x 20 i) (x 20) := rfl
  have z35 : mX0 ot (nI b0) x 35 = ov (cB (ur x 38 (fun _ => x 38 0 + nI 1)) (nI b0) 12) 1 (fun _ => nI 0) (x 35) := rfl
  have w20 : ∀ i, mResetB ot (nI b0) x 20 i = -1 → x 20 i = -1 := by
    intro i hi
    rw [e20, z20] at hi
    unfold ov at hi
    cases e : cB (ur x 38 (fun _ => x 38 0 + nI 1)) (nI b0) 12 (i / 4) with
    | true =>
      rw [e] at hi
      dsimp only [cond_true] at hi
      split at hi
      · exact absurd hi (by decide)
      · exact hi
    | false => rw [e] at hi; exact hi
  refine ⟨?_, ?_, ?_, ?_, H.iv K.i, ?_, K.cb, ?_, ?_, ?_, ?_, ?_, ?_, ?_, rEm_RV K.rv 12⟩
  · refine H.kp.cls (fun j hj => ?_)
    show cResetZ ot c.1 b0 j = cRsE ot c.1 b0 j
    unfold cResetZ
    exact ur_ne (by omega)
  · show cResetZ ot c.1 b0 37 0 = _
    unfold cResetZ
    rw [ur_eq, cRsE_ne (by omega), e38, K.rs]; rfl
  · exact K.q.clean (c := cB (ur x 38 (fun _ => x 38 0 + nI 1)) (nI b0) 12) (fun a ha => H.cBe ha) (e20.trans z20) (e35.trans z35) (fun j h1 h2 => er j (Or.inl ⟨h1, h2⟩))
  · obtain ⟨v1, v2, v3, v4, v5⟩ := K.v
    refine ⟨fun a ha => ?_, ?_, ?_, ?_, ?_⟩
    · rw [e35, z35]
      unfold ov
      cases cB (ur x 38 (fun _ => x 38 0 + nI 1)) (nI b0) 12 (a / 1) with
      | true => exact ⟨0, by omega, rfl⟩
      | false => exact v1 a ha
    · rw [er 34 (by omega)]; exact v2
    · rw [er 30 (by omega)]; exact v3
    · rw [er 21 (by omega)]; exact v4
    · rw [er 23 (by omega)]; exact v5
  · intro a ha; rw [er 7 (by omega)]; exact K.bw a ha
  · rw [er 1 (by omega)]; exact K.h1
  · intro k hk
    show cResetZ ot c.1 b0 30 k = _
    unfold cResetZ
    rw [ur_ne (by decide), cRsE_ne (by omega)]; exact K.h30 k hk
  · intro a ha
    show cResetZ ot c.1 b0 31 a = _
    unfold cResetZ
    rw [ur_ne (by decide), cRsE_ne (by omega)]; exact K.h31 a ha
  · show cResetZ ot c.1 b0 32 0 = _
    unfold cResetZ
    rw [ur_ne (by decide), cRsE_ne (by omega), er 1 (by omega)]; exact K.h32
  · exact K.d.mono (er 27 (by omega)) (er 36 (by omega)) w20
  · rw [er 37 (by omega)]; exact K.pt
  · rw [er 29 (by omega)]; exact K.sn
theorem cSF_RV {z : Nat → Nat → Int32} {r : Nat → Nat → Option Nat} {q : Nat → Nat → Int32} {i : Nat} (hv : RV b r S) (hr : ∃ a, r i 0 = some a) : RV b (cSF z r q i b0).2.1 S := by
  obtain ⟨a, ha⟩ := hr
  have hS := hv.1 _ _ _ ha
  have hga : (r i 0).getD 0 = a := by rw [ha]; rfl
  have h1 : RV b (ur r i (qRem (r i) 0 (cl (z 17 i)))) S := hv.row (qRem_S (fun j a e => hv.1 _ _ _ e) _ _)
  unfold cSF
  rw [hga]
  split
  · unfold cSR
    split
    · split
      · exact h1.row (vaup_S (fun j a e => h1.1 _ _ _ e) (fun a' e => by cases e; exact hS))
      · split
        · exact h1.row (vaup_S (fun j a e => h1.1 _ _ _ e) (fun a' e => by cases e; exact hS))
        · exact h1
    · exact h1
  · exact h1
/-- a slot -/
theorem KT.slot (K : KT ot b S x c ck sn) (h18 : ∀ a, a < 12 → x 18 a = nI (itP ot 11 a)) (hb : b0 < 12) : KT ot b S (mSlot x (nI b0)) (cSlot c b0) ck sn ∧ mSlot x (nI b0) 18 = x 18 := by
  obtain ⟨z, r, q⟩ := c
  have hz : ∀ a, a < 12 → z 31 a = x 18 a := fun a ha => (K.h31 a ha).trans (h18 a ha).symm
  obtain ⟨s1, s2, s3, s4, s5⟩ := slot_K (b0 := b0) K.v K.p K.q hb hz
  have hrv : RV b (cSlot (z, r, q) b0).2.1 S := by
    unfold cSlot
    dsimp only
    cases e : bstT (cElg z b0) (z 13) 12 with
    | none =>
      dsimp only
      cases cSm z b0 12 with
      | true => exact K.rv
      | false => exact K.rv
    | some i =>
      have hi := bst_lt e
      have hE := of_decide_eq_true (bst_E e)
      obtain ⟨a, sz, _, _, _, ha, _⟩ := K.hq i hi hE.2.1
      exact cSF_RV K.rv ⟨a, ha⟩
  have f := s4.1
  refine ⟨⟨s1, ?_, s2, s3, K.i.fr (f 4 (by omega)) (f 14 (by omega)) (f 17 (by omega)) (f 12 (by omega)) (f 15 (by omega)), ?_, K.cb, ?_, ?_, ?_, ?_, K.d.mono (f 27 (by omega)) (f 36 (by omega)) s4.2, ?_, ?_, hrv⟩, f 18 (by omega)⟩
  · rw [s5 37 (by omega), f 38 (by omega)]; exact K.rs
  · intro a ha; rw [f 7 (by omega)]; exact K.bw a ha
  · rw [f 1 (by omega)]; exact K.h1
  · rw [s5 30 (by omega)]; exact K.h30
  · rw [s5 31 (by omega)]; exact K.h31
  · rw [s5 32 (by omega), f 1 (by omega)]; exact K.h32
  · obtain ⟨h1, h2⟩ := mSlot_fr (x := x) (v0 := nI b0)
    rw [h1]; exact K.pt
  · obtain ⟨h1, h2⟩ := mSlot_fr (x := x) (v0 := nI b0)
    rw [h2]; exact K.sn
/-- a cycle -/
theorem KT.cyc0 (K : KT ot b S x c ck sn) {y w : Nat → Nat → Int32} (k1 : KP y w) (f : ∀ j, j ≠ 5 → j ≠ 40 → y j = x j) (g : ∀ j, j ≠ 9 → j ≠ 39 → w j = c.1 j) : KT ot b S y (w, c.2.1, c.2.2) ck sn := by
  refine ⟨k1, ?_, K.q.cg (fun j h1 h2 => f j (by omega) (by omega)), ?_, K.i.fr (f 4 (by decide) (by decide)) (f 14 (by decide) (by decide)) (f 17 (by decide) (by decide)) (f 12 (by decide) (by decide)) (f 15 (by decide) (by decide)), ?_, K.cb, ?_, ?_, ?_, ?_, K.d.mono (f 27 (by decide) (by decide)) (f 36 (by decide) (by decide)) (fun i h => by rw [f 20 (by decide) (by decide)] at h; exact h), ?_, ?_, K.rv⟩
  · show w 37 0 = _; rw [g 37 (by decide) (by decide), f 38 (by decide) (by decide)]; exact K.rs
  · obtain ⟨v1, v2, v3, v4, v5⟩ := K.v
    refine ⟨?_, ?_, ?_, ?_, ?_⟩
    · rw [f 35 (by decide) (by decide)]; exact v1
    · rw [f 34 (by decide) (by decide)]; exact v2
    · rw [f 30 (by decide) (by decide)]; exact v3
    · rw [f 21 (by decide) (by decide)]; exact v4
    · rw [f 23 (by decide) (by decide)]; exact v5
  · intro a ha; rw [f 7 (by decide) (by decide)]; exact K.bw a ha
  · rw [f 1 (by decide) (by decide)]; exact K.h1
  · show ∀ k, k < 36 → w 30 k = _; rw [g 30 (by decide) (by decide)]; exact K.h30
  · show ∀ a, a < 12 → w 31 a = _; rw [g 31 (by decide) (by decide)]; exact K.h31
  · show w 32 0 = _; rw [g 32 (by decide) (by decide), f 1 (by decide) (by decide)]; exact K.h32
  · rw [f 37 (by decide) (by decide)]; exact K.pt
  · rw [f 29 (by decide) (by decide)]; exact K.sn
theorem cyc_eq {z : Nat → Nat → Int32} (P : KP x z) {ch : Nat} (hch : ch < 12) : cCyc z b0 ch = (cCy z b0 (100 - (x 13 (8 * ch + 6)).toInt64) (x 13 (8 * ch + 7)) 12).2 := by
  unfold cCyc
  rw [P.w ch 6 hch (by decide), P.w ch 7 hch (by decide)]
theorem KT.cycle (K : KT ot b S x c ck sn) (h18 : ∀ a, a < 12 → x 18 a = nI (itP ot 11 a)) {ch : Nat} (hch : ch < 12) : KT ot b S (mCycle x (nI b0) ch) (cCyc c.1 b0 ch, c.2.1, c.2.2) ck sn ∧ mCycle x (nI b0) ch 18 = x 18 := by
  have hz : ∀ a, a < 12 → c.1 31 a = x 18 a := fun a ha => (K.h31 a ha).trans (h18 a ha).symm
  have hm : mCycle x (nI b0) ch = (mCy x (nI b0) (100 - (x 13 (8 * ch + 6)).toInt64) (x 13 (8 * ch + 7)) 12).2 := by unfold mCycle; rfl
  rw [hm, cyc_eq K.p hch]
  generalize (100 - (x 13 (8 * ch + 6)).toInt64) = r0
  generalize x 13 (8 * ch + 7) = free
  have h := cyc_K (b0 := b0) (r0 := r0) (free := free) K.p K.bw hz 12 (Nat.le_refl _)
  generalize mCy x (nI b0) r0 free 12 = y at h ⊢
  generalize cCy c.1 b0 r0 free 12 = w at h ⊢
  obtain ⟨tt, _, _, _, k1, k2, k3⟩ := h
  exact ⟨K.cyc0 k1 k2 k3, k2 18 (by decide) (by decide)⟩
/-- a tick of one bus -/
theorem KT.tb (K : KT ot b S x c ck sn) (h31 : ck < 2 ^ 31) (h18 : ∀ a, a < 12 → x 18 a = nI (itP ot 11 a)) (hb : b0 < 12) (hib : itP ot 11 b0 = b0) : KT ot b S (mTB ot x b0) (cTB ot c b0) ck sn ∧ ∀ a, a < 12 → mTB ot x b0 18 a = nI (itP ot 11 a) := by
  have e12 : c.1 12 b0 = x 12 b0 := K.p.r 12 b0 (Or.inl ⟨by decide, by decide, hb⟩)
  have e35 : c.1 35 0 = x 36 0 := K.p.r 35 0 (Or.inr ⟨by decide, rfl⟩)
  have e16 : c.1 16 b0 = x 17 b0 := K.p.r 16 b0 (Or.inl ⟨by decide, by decide, hb⟩)
  unfold mTB cTB
  rw [K.dirty h18, e12, e35, e16]
  cases mDirty x (nI b0) with
  | true =>
    refine ⟨K.reset h18 hb hib, fun a ha => ?_⟩
    show mResetB ot (nI b0) x 18 a = _
    rw [(K.rS h18 hb hib).row (by omega)]; exact h18 a ha
  | false =>
    dsimp only [cond_false]
    by_cases c1 : x 12 b0 = 0
    · rw [if_pos c1, if_pos c1]
      by_cases c2 : nI (cl (x 36 0) % 8) = 0
      · rw [if_pos c2, if_pos c2]
        obtain ⟨mg, emg, hmg⟩ := K.i.mg b0 hb
        cases mg with
        | none =>
          have e1 : x 17 b0 = -1 := emg
          rw [e1, if_pos (by decide), if_pos rfl]
          have h := K.slot (b0 := b0) h18 hb
          exact ⟨h.1, fun a ha => by rw [h.2]; exact h18 a ha⟩
        | some m =>
          have e1 : x 17 b0 = nI m := emg
          have hm := hmg m rfl
          rw [e1, if_neg (nI_lt0 (by omega)), if_neg (nI_m1 (by omega)), cl_nI (by omega)]
          have h := K.cycle (b0 := b0) h18 hm
          exact ⟨h.1, fun a ha => by rw [h.2]; exact h18 a ha⟩
      · rw [if_neg c2, if_neg c2]
        have h := K.slot (b0 := b0) h18 hb
        exact ⟨h.1, fun a ha => by rw [h.2]; exact h18 a ha⟩
    · rw [if_neg c1, if_neg c1]
      exact ⟨K, h18⟩
end KT1
