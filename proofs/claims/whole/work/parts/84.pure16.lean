/-! the ticks -/
theorem lt1_ne {c : CS} {i k j : Nat} (h : j ≠ 17) : (lt1 c i k).1 j = c.1 j := by
  unfold lt1
  cases c.2.1 (12 + i) k with
  | none => rfl
  | some a =>
    dsimp only
    split
    · split
      · cases qFnd (c.2.1 i) (some a) (cl (c.1 17 i)) 0 with
        | none => rfl
        | some g => exact ur_ne h
      · rfl
    · rfl
theorem nLt_ne {c : CS} {i j : Nat} (h : j ≠ 17) : ∀ k, (nLt c i k).1 j = c.1 j := by
  intro k
  induction k with
  | zero => rfl
  | succ k ih => exact (lt1_ne h).trans ih
theorem cLt_ne {c : CS} {j : Nat} (h : j ≠ 17) : ∀ i, (cLt c i).1 j = c.1 j := by
  intro i
  induction i with
  | zero => rfl
  | succ i ih => exact (nLt_ne h 4).trans ih
section KT2
variable {ot : Nat → Option Nat} {b : Nat} {S : Nat → Bool} {x : Nat → Nat → Int32} {c : CS} {ck sn : Nat}
theorem KT.mdl (K : KT ot b S x c ck sn) {y : Nat → Nat → Int32} (h : ∀ j, j ≠ 0 → j ≠ 18 → y j = x j) : KT ot b S y c ck sn := by
  have f : ∀ j, 1 ≤ j → j ≠ 18 → y j = x j := fun j h1 h2 => h j (by omega) h2
  refine ⟨K.p.mdl (fun m m0 m1 m2 m38 hm => f m (by omega) (by omega)), by rw [f 38 (by decide) (by decide)]; exact K.rs, K.q.cg (fun j h1 h2 => f j (by omega) (by omega)), ?_, K.i.fr (f 4 (by decide) (by decide)) (f 14 (by decide) (by decide)) (f 17 (by decide) (by decide)) (f 12 (by decide) (by decide)) (f 15 (by decide) (by decide)), ?_, K.cb, ?_, K.h30, K.h31, ?_, K.d.mono (f 27 (by decide) (by decide)) (f 36 (by decide) (by decide)) (fun i h => by rw [f 20 (by decide) (by decide)] at h; exact h), ?_, ?_, K.rv⟩
  · obtain ⟨v1, v2, v3, v4, v5⟩ := K.v
    refine ⟨?_, ?_, ?_, ?_, ?_⟩
    · rw [f 35 (by decide) (by decide)]; exact v1
    · rw [f 34 (by decide) (by decide)]; exact v2
    · rw [f 30 (by decide) (by decide)]; exact v3
    · rw [f 21 (by decide) (by decide)]; exact v4
    · rw [f 23 (by decide) (by decide)]; exact v5
  · intro a ha; rw [f 7 (by decide) (by decide)]; exact K.bw a ha
  · rw [f 1 (by decide) (by decide)]; exact K.h1
  · rw [f 1 (by decide) (by decide)]; exact K.h32
  · rw [f 37 (by decide) (by decide)]; exact K.pt
  · rw [f 29 (by decide) (by decide)]; exact K.sn
theorem KT.late (K : KT ot b S x c ck sn) (hck : ck + 1 < 2 ^ 31) : MV (ur x 36 (fun _ => x 36 0 + nI 1)) ∧ KT ot b S (mLate (ur x 36 (fun _ => x 36 0 + nI 1)) 48) (cLt (up35 c) 12) (ck + 1) sn ∧ mLate (ur x 36 (fun _ => x 36 0 + nI 1)) 48 18 = x 18 := by
  obtain ⟨z, r, q⟩ := c
  have V1 : MV (ur x 36 (fun _ => x 36 0 + nI 1)) := K.v.ur (by decide)
  have P1 : KP (ur x 36 (fun _ => x 36 0 + nI 1)) (up35 (z, r, q)).1 := K.p.set (j := 35) (by decide) (f := fun _ => z 35 0 + nI 1) (g := fun _ => x 36 0 + nI 1) (fun t ht => by rw [show z 35 0 = x 36 0 from K.p.r 35 0 (Or.inr ⟨by decide, rfl⟩)])
  have Q1 : KQ (ur x 36 (fun _ => x 36 0 + nI 1)) r q := K.q.cg (fun j h1 h2 => ur_ne (by omega))
  have D1 : KD (ur x 36 (fun _ => x 36 0 + nI 1)) (ck + 1) 0 := by
    refine ⟨?_, fun i hi h => ?_⟩
    · rw [ur_eq, K.d.1, nI_add]
    · rw [ur_ne (by decide)] at h ⊢
      obtain ⟨d, d1, d2, d3, d4⟩ := K.d.2 i hi h
      have := d4 hi
      exact ⟨d, d1, d2, by omega, fun z => by omega⟩
  obtain ⟨l1, l2, l3, l4⟩ := late_all V1 P1 Q1 hck D1 48 (Nat.le_refl _)
  have hc : nLt (cLt ((up35 (z, r, q)).1, r, q) (48 / 4)) (48 / 4) (48 % 4) = cLt (up35 (z, r, q)) 12 := rfl
  rw [hc] at l1 l2
  have f : ∀ k, k ≠ 20 → ¬ (30 ≤ k ∧ k ≤ 35) → k ≠ 36 → mLate (ur x 36 (fun _ => x 36 0 + nI 1)) 48 k = x k := fun k h1 h2 h3 => (mLate_ne h1 h2 48).trans (ur_ne h3)
  have g : ∀ j, j ≠ 17 → j ≠ 35 → (cLt (up35 (z, r, q)) 12).1 j = z j := fun j h1 h2 => (cLt_ne h1 12).trans (ur_ne h2)
  have hok := cLt_ok (b := b) (S := S) (c := up35 (z, r, q)) ⟨K.rv, fun i hi => by
    obtain ⟨sz, h6, hs⟩ := K.cok.2 i hi
    exact ⟨sz, h6, hs⟩⟩ 12 (Nat.le_refl _)
  refine ⟨V1, ⟨l1, ?_, l2, l3, K.i.fr (f 4 (by decide) (by omega) (by decide)) (f 14 (by decide) (by omega) (by decide)) (f 17 (by decide) (by omega) (by decide)) (f 12 (by decide) (by omega) (by decide)) (f 15 (by decide) (by omega) (by decide)), ?_, K.cb, ?_, ?_, ?_, ?_, l4, ?_, ?_, hok.1.1⟩, f 18 (by decide) (by omega) (by decide)⟩
  · rw [g 37 (by decide) (by decide), f 38 (by decide) (by omega) (by decide)]; exact K.rs
  · intro a ha; rw [f 7 (by decide) (by omega) (by decide)]; exact K.bw a ha
  · rw [f 1 (by decide) (by omega) (by decide)]; exact K.h1
  · rw [g 30 (by decide) (by decide)]; exact K.h30
  · rw [g 31 (by decide) (by decide)]; exact K.h31
  · rw [g 32 (by decide) (by decide), f 1 (by decide) (by omega) (by decide)]; exact K.h32
  · rw [f 37 (by decide) (by omega) (by decide)]; exact K.pt
  · rw [f 29 (by decide) (by omega) (by decide)]; exact K.sn
/-- both sides, with the buses found -/
def KS (ot : Nat → Option Nat) (b : Nat) (S : Nat → Bool) (x : Nat → Nat → Int32) (c : CS) (ck sn : Nat) : Prop := KT ot b S x c ck sn ∧ ∀ a, a < 12 → x 18 a = nI (itP ot 11 a)
theorem bus_nb {ot : Nat → Option Nat} {x : Nat → Nat → Int32} (h18 : ∀ a, a < 12 → x 18 a = nI (itP ot 11 a)) {k : Nat} (hk : k < 12) : x 18 k = nI k ↔ itP ot 11 k = k := by
  rw [h18 k hk, nI_eq (by have := itP_le ot 11 k; omega) (by omega)]
theorem KS.tb (K : KS ot b S x c ck sn) (h31 : ck < 2 ^ 31) {b0 : Nat} (hb : b0 < 12) (hib : itP ot 11 b0 = b0) : KS ot b S (mTB ot x b0) (cTB ot c b0) ck sn := K.1.tb h31 K.2 hb hib
theorem KS.bs (K : KS ot b S x c ck sn) (h31 : ck < 2 ^ 31) : ∀ k, k ≤ 12 → KS ot b S (mBs ot x k) (cBs ot (itP ot 11) c k) ck sn := by
  intro k
  induction k with
  | zero => intro _; exact K
  | succ k ih =>
    intro hk
    have h := ih (by omega)
    have e := bus_nb h.2 (show k < 12 by omega)
    show KS ot b S (if mBs ot x k 18 k = nI k then mTB ot (mBs ot x k) k else mBs ot x k) (if itP ot 11 k = k then cTB ot (cBs ot (itP ot 11) c k) k else cBs ot (itP ot 11) c k) ck sn
    by_cases c1 : itP ot 11 k = k
    · rw [if_pos c1, if_pos (e.mpr c1)]
      exact h.tb h31 (by omega) c1
    · rw [if_neg c1, if_neg (fun z => c1 (e.mp z))]
      exact h
theorem KS.late (K : KS ot b S x c ck sn) (hck : ck + 1 < 2 ^ 31) : KS ot b S (mLate (ur x 36 (fun _ => x 36 0 + nI 1)) 48) (cLt (up35 c) 12) (ck + 1) sn := by
  obtain ⟨_, h1, h2⟩ := K.1.late hck
  exact ⟨h1, by rw [h2]; exact K.2⟩
theorem KS.tk (K : KS ot b S x c ck sn) (hck : ck + 50 < 2 ^ 31) : ∀ t, t ≤ 50 → KS ot b S (mTk ot x t) (cTk ot (itP ot 11) c t) (ck + t) sn := by
  intro t
  induction t with
  | zero => intro _; exact K
  | succ t ih =>
    intro ht
    exact ((ih (by omega)).bs (by omega) 12 (Nat.le_refl _)).late (by omega)
/-- what the ticks of the model want, of the class -/
theorem KS.jm (hck : ck + 50 < 2 ^ 31) : (∀ t y b0, t < 50 → (∃ c, KS ot b S y c (ck + t) sn) → b0 < 12 → y 18 b0 = nI b0 → TBok ot y b0 ∧ ∃ c, KS ot b S (mTB ot y b0) c (ck + t) sn) ∧ (∀ t y, t < 50 → (∃ c, KS ot b S y c (ck + t) sn) → MV (ur y 36 (fun _ => y 36 0 + nI 1)) ∧ ∃ c, KS ot b S (mLate (ur y 36 (fun _ => y 36 0 + nI 1)) 48) c (ck + (t + 1)) sn) := by
  refine ⟨fun t y b0 ht ⟨c, K⟩ hb h => ?_, fun t y ht ⟨c, K⟩ => ?_⟩
  · have e := (bus_nb K.2 hb).mp h
    exact ⟨K.1.tbok (by omega) K.2 hb e, _, K.tb (by omega) hb e⟩
  · exact ⟨(K.1.late (by omega)).1, _, K.late (by omega)⟩
theorem KS.jc (hck : ck + 50 < 2 ^ 31) : (∀ t c, (∃ y, KS ot b S y c (ck + t) sn) → ∀ j, j < 12 → c.1 31 j = nI (itP ot 11 j)) ∧ (∀ t c b0, t < 50 → (∃ y, KS ot b S y c (ck + t) sn) → b0 < 12 → itP ot 11 b0 = b0 → CBok ot b S c b0 ∧ ∃ y, KS ot b S y (cTB ot c b0) (ck + t) sn) ∧ (∀ t c, t < 50 → (∃ y, KS ot b S y c (ck + t) sn) → Cok b S (up35 c) ∧ ∃ y, KS ot b S y (cLt (up35 c) 12) (ck + (t + 1)) sn) := by
  refine ⟨fun t c ⟨y, K⟩ => K.1.h31, fun t c b0 ht ⟨y, K⟩ hb e => ?_, fun t c ht ⟨y, K⟩ => ?_⟩
  · exact ⟨K.1.cbok (by omega) hb, _, K.tb (by omega) hb e⟩
  · refine ⟨⟨K.1.rv, fun i hi => ?_⟩, _, K.late (by omega)⟩
    obtain ⟨sz, h6, hs⟩ := K.1.cok.2 i hi
    exact ⟨sz, h6, hs⟩
theorem KT.tx (K : KT ot b S x c ck sn) {N : Nat} (hfx : gP ot (itP ot N) 36 = itP ot N) : KS ot b S (mTx ot x N) c ck sn := by
  refine ⟨K.mdl (fun j h1 h2 => ?_), fun a ha => ?_⟩
  · unfold mTx
    rw [ur_ne h2]
    exact ur_ne h1
  · unfold mTx
    rw [ur_eq, rN_at ha, itP_11 K.cb.1 hfx]
/-! the other calls -/
theorem KT.th (K : KT ot b S x c ck sn) (k : Nat) : KT ot b S (th x k) c ck sn := K.mdl (fun j h1 _ => ur_ne h1)
theorem KT.time (K : KT ot b S x c ck sn) {pa : Nat} (h2 : 2 ≤ pa) (h60 : pa ≤ 60) : KT ot b S (ur x 37 (fun _ => nI pa)) (ur c.1 36 (fun _ => nI pa), c.2.1, c.2.2) ck sn := by
  have f : ∀ j, j ≠ 37 → ur x 37 (fun _ => nI pa) j = x j := fun j h => ur_ne h
  refine ⟨K.p.set (j := 36) (by decide) (fun _ _ => rfl), ?_, K.q.cg (fun j h1 h2 => f j (by omega)), K.v.ur (by decide), K.i.fr rfl rfl rfl rfl rfl, K.bw, K.cb, K.h1, K.h30, K.h31, K.h32, K.d.mono rfl rfl (fun i h => h), ⟨pa, h2, h60, by rw [ur_eq]⟩, K.sn, K.rv⟩
  exact K.rs
theorem KT.talk (K : KT ot b S x c ck sn) {i : Nat} (hi : i < 12) {ch : Int32} {w : Nat} (hw : w ≤ 100) : KT ot b S (ur (ur x 6 (upd (x 6) i ch)) 7 (upd (x 7) i (nI w))) (sR (sR c.1 7 i ch) 8 i (nI w), c.2.1, c.2.2) ck sn := by
  have k1 := K.p.set (j := 7) (by decide) (f := upd (c.1 7) i ch) (g := upd (x 6) i ch) (fun t ht => by unfold upd; rw [show c.1 7 t = x 6 t from K.p.r 7 t (Or.inl ⟨by decide, by decide, ht⟩)])
  have k2 := k1.set (j := 8) (by decide) (f := upd (c.1 8) i (nI w)) (g := upd (x 7) i (nI w)) (fun t ht => by unfold upd; rw [show c.1 8 t = x 7 t from K.p.r 8 t (Or.inl ⟨by decide, by decide, ht⟩)])
  refine ⟨k2, K.rs, K.q.cg (fun j h1 h2 => (ur_ne (by omega)).trans (ur_ne (by omega))), (K.v.ur (by decide)).ur (by decide), K.i.fr rfl rfl rfl rfl rfl, fun a ha => ?_, K.cb, K.h1, K.h30, K.h31, K.h32, K.d.mono rfl rfl (fun i h => h), K.pt, K.sn, K.rv⟩
  rw [ur_eq]
  unfold upd
  by_cases e : a = i
  · rw [if_pos e]; exact ⟨w, hw, rfl⟩
  · rw [if_neg e]; exact K.bw a ha
theorem KT.rst (K : KT ot b S x c ck sn) {i : Nat} (hi : i < 12) {bits : Int32} {hd ct : Bool} : KT ot b S (ur (ur (ur (ur (ur x 3 (upd (x 3) i (bits &&& 65535))) 4 (upd (x 4) i (nI 0))) 8 (upd (x 8) i (zi hd))) 9 (upd (x 9) i (zi ct))) 11 (upd (x 11) i (nI 1))) (reZ c.1 i bits hd ct, c.2.1, c.2.2) ck sn := by
  have e : ∀ j, 3 ≤ j → j ≤ 17 → ∀ t, t < 12 → c.1 j t = x (mu j) t := fun j h1 h2 t ht => K.p.r j t (Or.inl ⟨h1, h2, ht⟩)
  have k1 := K.p.set (j := 3) (by decide) (f := upd (c.1 3) i (bits &&& 65535)) (g := upd (x 3) i (bits &&& 65535)) (fun t ht => by unfold upd; rw [show c.1 3 t = x 3 t from e 3 (by decide) (by decide) t ht])
  have k2 := k1.set (j := 4) (by decide) (f := upd (c.1 4) i (nI 0)) (g := upd (x 4) i (nI 0)) (fun t ht => by unfold upd; rw [show c.1 4 t = x 4 t from e 4 (by decide) (by decide) t ht])
  have k3 := k2.set (j := 5) (by decide) (f := upd (c.1 5) i (zi hd)) (g := upd (x 8) i (zi hd)) (fun t ht => by unfold upd; rw [show c.1 5 t = x 8 t from e 5 (by decide) (by decide) t ht])
  have k4 := k3.set (j := 6) (by decide) (f := upd (c.1 6) i (zi ct)) (g := upd (x 9) i (zi ct)) (fun t ht => by unfold upd; rw [show c.1 6 t = x 9 t from e 6 (by decide) (by decide) t ht])
  have k5 := k4.set (j := 11) (by decide) (f := upd (c.1 11) i (nI 1)) (g := upd (x 11) i (nI 1)) (fun t ht => by unfold upd; rw [show c.1 11 t = x 11 t from e 11 (by decide) (by decide) t ht])
  refine ⟨k5, K.rs, K.q.cg (fun j h1 h2 => (ur_ne (by omega)).trans ((ur_ne (by omega)).trans ((ur_ne (by omega)).trans ((ur_ne (by omega)).trans (ur_ne (by omega)))))), ((((K.v.ur (by decide)).ur (by decide)).ur (by decide)).ur (by decide)).ur (by decide), ⟨fun a ha => ?_, K.i.pa, K.i.mg, K.i.ln⟩, K.bw, K.cb, K.h1, K.h30, K.h31, K.h32, K.d.mono rfl rfl (fun i h => h), K.pt, K.sn, K.rv⟩
  show ∃ p, p < 16 ∧ upd (x 4) i (nI 0) a = nI p
  unfold upd
  by_cases e : a = i
  · rw [if_pos e]; exact ⟨0, by decide, rfl⟩
  · rw [if_neg e]; exact K.i.pv a ha
end KT2
