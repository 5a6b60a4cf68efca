/-! a round, node by node: as = the socket by which a node asks, w = the socket by which it becomes a child, c = it contends -/
def wS (ot as : Nat → Option Nat) (bt : Nat → Int32) (a : Nat) : Option Nat := match as a with
  | none => none
  | some k => match ot k with
    | none => none
    | some o => if as (o / 3) = some o then (if bt a = nI 1 ∨ bt a = bt (o / 3) then none else some k) else some k
def cC (ot as : Nat → Option Nat) (a : Nat) : Bool := match as a with
  | none => false
  | some k => match ot k with
    | none => false
    | some o => decide (as (o / 3) = some o)
def oW (ot w : Nat → Option Nat) (k : Nat) : Bool := match ot k with
  | none => false
  | some o => decide (w (o / 3) = some o)
def pwO (ot w : Nat → Option Nat) (f : Nat → Int32) : Nat → Int32 := fun k => bif decide (w (k / 3) = some k) || oW ot w k then nI 0 else f k
def pwP (ot w : Nat → Option Nat) (f : Nat → Int32) : Nat → Int32 := fun a => match w a with
  | none => f a
  | some k => nI ((ot k).getD 0 / 3)
def pwL (c : Nat → Bool) (f : Nat → Int32) : Nat → Int32 := fun a => bif c a then nI ((cl (f a) + 1) % 16) else f a
/-- the state with these children and contenders done; row ro: the open sockets -/
def pwX (ro : Nat) (ot : Nat → Option Nat) (x : Nat → Nat → Int32) (w : Nat → Option Nat) (c : Nat → Bool) : Nat → Nat → Int32 := ur (ur (ur x ro (pwO ot w (x ro))) 14 (pwP ot w (x 14))) 4 (pwL c (x 4))
def gClose (ro : Nat) (x : Nat → Nat → Int32) (a c : Nat) : Nat → Nat → Int32 := ur (ur x ro (upd (upd (x ro) c (nI 0)) a (nI 0))) 14 (upd (x 14) (a / 3) (nI (c / 3)))
theorem gClose_2 (x : Nat → Nat → Int32) (a c : Nat) : mClose x a c = gClose 2 x a c := by
  unfold mClose gClose
  rw [ur_ur]
def rs (P : Nat → Bool) (w : Nat → Option Nat) : Nat → Option Nat := fun a => bif P a then w a else none
def cs (P c : Nat → Bool) : Nat → Bool := fun a => P a && c a
def ad (P : Nat → Bool) (a : Nat) : Nat → Bool := fun i => P i || decide (i = a)
theorem ad_ne {P : Nat → Bool} {a i : Nat} (h : i ≠ a) : ad P a i = P i := by
  unfold ad
  rw [decide_eq_false h, Bool.or_false]
theorem ad_eq {P : Nat → Bool} {a : Nat} : ad P a a = true := by
  unfold ad
  rw [decide_eq_true rfl, Bool.or_true]
theorem rs_ad {P : Nat → Bool} {w : Nat → Option Nat} {a : Nat} (h : w a = none) : rs (ad P a) w = rs P w := by
  funext i
  unfold rs
  by_cases e : i = a
  · rw [e, h]; cases P a <;> cases ad P a a <;> rfl
  · rw [ad_ne e]
theorem rs_ad1 {P : Nat → Bool} {w : Nat → Option Nat} {a : Nat} : rs (ad P a) w = va_up (rs P w) a (w a) := by
  funext i
  unfold rs va_up
  by_cases e : i = a
  · rw [if_pos e, e, ad_eq]; rfl
  · rw [if_neg e, ad_ne e]
theorem cs_ad {P c : Nat → Bool} {a : Nat} (h : c a = false) : cs (ad P a) c = cs P c := by
  funext i
  unfold cs
  by_cases e : i = a
  · rw [e, h, Bool.and_false, Bool.and_false]
  · rw [ad_ne e]
theorem cs_ad1 {P c : Nat → Bool} {a : Nat} (h : c a = true) : cs (ad P a) c = ad (cs P c) a := by
  funext i
  unfold cs
  by_cases e : i = a
  · rw [e, h, ad_eq, ad_eq]; rfl
  · rw [ad_ne e, ad_ne e]
theorem pwX_4 {ro : Nat} {ot w : Nat → Option Nat} {x : Nat → Nat → Int32} {c : Nat → Bool} : pwX ro ot x w c 4 = pwL c (x 4) := ur_eq _ _ _
theorem pwX_14 {ro : Nat} {ot w : Nat → Option Nat} {x : Nat → Nat → Int32} {c : Nat → Bool} : pwX ro ot x w c 14 = pwP ot w (x 14) := by
  unfold pwX
  rw [ur_ne (by decide), ur_eq]
theorem pwX_ro {ro : Nat} (h4 : ro ≠ 4) (h14 : ro ≠ 14) {ot w : Nat → Option Nat} {x : Nat → Nat → Int32} {c : Nat → Bool} : pwX ro ot x w c ro = pwO ot w (x ro) := by
  unfold pwX
  rw [ur_ne h4, ur_ne h14, ur_eq]
theorem pwX_ot {ro j : Nat} (h4 : j ≠ 4) (h14 : j ≠ 14) (hr : j ≠ ro) {ot w : Nat → Option Nat} {x : Nat → Nat → Int32} {c : Nat → Bool} : pwX ro ot x w c j = x j := by
  unfold pwX
  rw [ur_ne h4, ur_ne h14, ur_ne hr]
theorem pwX_nb {ro : Nat} (h3 : ro ≠ 3) {ot w : Nat → Option Nat} {x : Nat → Nat → Int32} {c : Nat → Bool} {a : Nat} (h : c a = false) : mNB (pwX ro ot x w c) a = ((mNB x a).1, pwX ro ot x w (ad c a)) := by
  unfold mNB
  rw [pwX_4, pwX_ot (by decide) (by decide) (Ne.symm h3)]
  have e1 : pwL c (x 4) a = x 4 a := by
    unfold pwL
    rw [h]; rfl
  rw [e1]
  refine Prod.ext rfl ?_
  show ur (pwX ro ot x w c) 4 _ = _
  unfold pwX
  rw [ur_ur]
  congr 1
  funext i
  unfold upd pwL
  by_cases e : i = a
  · rw [if_pos e, e, ad_eq]; rfl
  · rw [if_neg e, ad_ne e]
theorem pwX_cl {ro : Nat} (h4 : ro ≠ 4) (h14 : ro ≠ 14) {ot w : Nat → Option Nat} {x : Nat → Nat → Int32} {c : Nat → Bool} {k t : Nat} (hk : ot k = some t) (hinj : ∀ j, ot j = some k → j = t) (ht : ot t = some k) (hw : w (k / 3) = none) : gClose ro (pwX ro ot x w c) k t = pwX ro ot x (va_up w (k / 3) (some k)) c := by
  have ev : ∀ i, va_up w (k / 3) (some k) i = if i = k / 3 then some k else w i := fun i => rfl
  funext j
  unfold gClose
  by_cases j14 : j = 14
  · rw [j14, ur_eq, pwX_14, pwX_14]
    funext i
    unfold upd pwP
    rw [ev]
    by_cases e : i = k / 3
    · rw [if_pos e, if_pos e]; show nI (t / 3) = nI ((ot k).getD 0 / 3); rw [hk]; rfl
    · rw [if_neg e, if_neg e]
  · rw [ur_ne j14]
    by_cases jr : j = ro
    · rw [jr, ur_eq, pwX_ro h4 h14, pwX_ro h4 h14]
      funext i
      unfold upd pwO
      by_cases e1 : i = k
      · rw [if_pos e1, e1, ev, if_pos rfl, decide_eq_true rfl]; rfl
      · rw [if_neg e1]
        by_cases e2 : i = t
        · have e3 : oW ot (va_up w (k / 3) (some k)) i = true := by
            unfold oW
            rw [e2, ht]
            exact decide_eq_true ((ev _).trans (if_pos rfl))
          rw [if_pos e2, e3, Bool.or_true]; rfl
        · rw [if_neg e2]
          have e3 : oW ot (va_up w (k / 3) (some k)) i = oW ot w i := by
            unfold oW
            cases eo : ot i with
            | none => rfl
            | some o =>
              dsimp only
              rw [ev]
              by_cases e4 : o / 3 = k / 3
              · rw [if_pos e4, e4, hw]
                rw [decide_eq_false, decide_eq_false]
                · intro z; cases z
                · intro z
                  cases z
                  exact e2 (hinj i eo)
              · rw [if_neg e4]
          rw [e3, ev]
          by_cases e4 : i / 3 = k / 3
          · rw [if_pos e4, e4, hw]
            have e5 : decide (some k = some i) = false := decide_eq_false (fun z => e1 (Option.some.inj z).symm)
            have e6 : decide ((none : Option Nat) = some i) = false := rfl
            rw [e5, e6]
          · rw [if_neg e4]
    · rw [ur_ne jr]
      by_cases j4 : j = 4
      · rw [j4, pwX_4, pwX_4]
      · rw [pwX_ot j4 j14 jr, pwX_ot j4 j14 jr]
theorem bt_01 (x : Nat → Nat → Int32) (a : Nat) : (mNB x a).1 = nI 0 ∨ (mNB x a).1 = nI 1 := by
  obtain ⟨j, hj, e⟩ := pk_andE (x 3 a >>> (x 4 a &&& 31)) (m := nI 1) 1 (by decide)
  have e' : (mNB x a).1 = nI j := e
  rcases (show j = 0 ∨ j = 1 by omega) with z | z
  · left; rw [e', z]
  · right; rw [e', z]
section Rd
variable {ro : Nat} {ot as : Nat → Option Nat} {x : Nat → Nat → Int32}
theorem wS_1 {bt : Nat → Int32} {k t : Nat} (hk : as (k / 3) = some k) (ho : ot k = some t) (h : as (t / 3) ≠ some t) : wS ot as bt (k / 3) = some k := by
  unfold wS
  rw [hk]
  dsimp only
  rw [ho]
  exact if_neg h
theorem wS_2 {bt : Nat → Int32} {k t : Nat} (hk : as (k / 3) = some k) (ho : ot k = some t) (h : as (t / 3) = some t) : wS ot as bt (k / 3) = if bt (k / 3) = nI 1 ∨ bt (k / 3) = bt (t / 3) then none else some k := by
  unfold wS
  rw [hk]
  dsimp only
  rw [ho]
  exact if_pos h
theorem cC_1 {k t : Nat} (hk : as (k / 3) = some k) (ho : ot k = some t) : cC ot as (k / 3) = decide (as (t / 3) = some t) := by
  unfold cC
  rw [hk]
  dsimp only
  rw [ho]
/-- one node asks alone -/
theorem rd_s1 (h4 : ro ≠ 4) (h14 : ro ≠ 14) {P : Nat → Bool} {bt : Nat → Int32} {k t : Nat} (hk : as (k / 3) = some k) (ho : ot k = some t) (ht : ot t = some k) (hinj : ∀ j, ot j = some k → j = t) (h : as (t / 3) ≠ some t) (hP : P (k / 3) = false) : gClose ro (pwX ro ot x (rs P (wS ot as bt)) (cs P (cC ot as))) k t = pwX ro ot x (rs (ad P (k / 3)) (wS ot as bt)) (cs (ad P (k / 3)) (cC ot as)) := by
  have h1 : cC ot as (k / 3) = false := by rw [cC_1 hk ho]; exact decide_eq_false h
  rw [pwX_cl h4 h14 ho hinj ht (by unfold rs; rw [hP]; rfl), cs_ad h1, rs_ad1, wS_1 hk ho h]
/-- both ends ask -/
theorem rd_s2 (h3 : ro ≠ 3) (h4 : ro ≠ 4) (h14 : ro ≠ 14) {P : Nat → Bool} {k t : Nat} (hne : k / 3 ≠ t / 3) (hk : as (k / 3) = some k) (ho : ot k = some t) (ht : ot t = some k) (hinj : ∀ j, ot j = some k → j = t) (hinj2 : ∀ j, ot j = some t → j = k) (h : as (t / 3) = some t) (hP : P (k / 3) = false) (hP2 : P (t / 3) = false) :
    (if (mNB (pwX ro ot x (rs P (wS ot as (fun a => (mNB x a).1))) (cs P (cC ot as))) (k / 3)).1 = (mNB (mNB (pwX ro ot x (rs P (wS ot as (fun a => (mNB x a).1))) (cs P (cC ot as))) (k / 3)).2 (t / 3)).1 then (mNB (mNB (pwX ro ot x (rs P (wS ot as (fun a => (mNB x a).1))) (cs P (cC ot as))) (k / 3)).2 (t / 3)).2
      else if (mNB (pwX ro ot x (rs P (wS ot as (fun a => (mNB x a).1))) (cs P (cC ot as))) (k / 3)).1 = nI 1 then gClose ro (mNB (mNB (pwX ro ot x (rs P (wS ot as (fun a => (mNB x a).1))) (cs P (cC ot as))) (k / 3)).2 (t / 3)).2 t k else gClose ro (mNB (mNB (pwX ro ot x (rs P (wS ot as (fun a => (mNB x a).1))) (cs P (cC ot as))) (k / 3)).2 (t / 3)).2 k t)
    = pwX ro ot x (rs (ad (ad P (k / 3)) (t / 3)) (wS ot as (fun a => (mNB x a).1))) (cs (ad (ad P (k / 3)) (t / 3)) (cC ot as)) := by
  have c1 : cC ot as (k / 3) = true := by rw [cC_1 hk ho]; exact decide_eq_true h
  have c2 : cC ot as (t / 3) = true := by rw [cC_1 h ht]; exact decide_eq_true hk
  have p1 : cs P (cC ot as) (k / 3) = false := by unfold cs; rw [hP]; rfl
  have p2 : ad (cs P (cC ot as)) (k / 3) (t / 3) = false := by rw [ad_ne (Ne.symm hne)]; unfold cs; rw [hP2]; rfl
  have w1 := wS_2 (bt := fun a => (mNB x a).1) hk ho h
  have w2 := wS_2 (bt := fun a => (mNB x a).1) h ht hk
  have b1 := bt_01 x (k / 3)
  have b2 := bt_01 x (t / 3)
  have n01 : ¬ nI 0 = nI 1 := by rw [nI_eq (by decide) (by decide)]; decide
  rw [pwX_nb h3 p1]
  dsimp only
  rw [pwX_nb h3 p2]
  dsimp only at w1 w2 ⊢
  rw [cs_ad1 c2, cs_ad1 c1]
  by_cases e : (mNB x (k / 3)).1 = (mNB x (t / 3)).1
  · rw [if_pos e, rs_ad (w2.trans (if_pos (Or.inr e.symm))), rs_ad (w1.trans (if_pos (Or.inr e)))]
  · rw [if_neg e]
    by_cases e1 : (mNB x (k / 3)).1 = nI 1
    · rw [if_pos e1]
      have e2 : ¬ (mNB x (t / 3)).1 = nI 1 := fun z => e (e1.trans z.symm)
      rw [pwX_cl h4 h14 ht hinj2 ho (by unfold rs; rw [hP2]; rfl)]
      rw [rs_ad1, w2.trans (if_neg (fun z => z.elim e2 (fun z => e z.symm))), rs_ad (w1.trans (if_pos (Or.inl e1)))]
    · rw [if_neg e1]
      have e2 : (mNB x (t / 3)).1 = nI 1 := by
        rcases b2 with z | z
        · rcases b1 with y | y
          · exact absurd (y.trans z.symm) e
          · exact absurd y e1
        · exact z
      rw [pwX_cl h4 h14 ho hinj ht (by unfold rs; rw [hP]; rfl)]
      rw [rs_ad (w2.trans (if_pos (Or.inl e2))), rs_ad1, w1.trans (if_neg (fun z => z.elim e1 e))]
end Rd
theorem pwX_0 {ro : Nat} (h4 : ro ≠ 4) (h14 : ro ≠ 14) {ot w : Nat → Option Nat} {x : Nat → Nat → Int32} {P c : Nat → Bool} (hP : ∀ a, P a = false) : pwX ro ot x (rs P w) (cs P c) = x := by
  have e1 : ∀ a, rs P w a = none := fun a => by unfold rs; rw [hP]; rfl
  have e2 : ∀ a, cs P c a = false := fun a => by unfold cs; rw [hP]; rfl
  funext j
  by_cases j4 : j = 4
  · rw [j4, pwX_4]
    funext a
    unfold pwL
    rw [e2]; rfl
  by_cases j14 : j = 14
  · rw [j14, pwX_14]
    funext a
    unfold pwP
    rw [e1]
  by_cases jr : j = ro
  · rw [jr, pwX_ro h4 h14]
    funext k
    unfold pwO
    have e3 : oW ot (rs P w) k = false := by
      unfold oW
      cases ot k with
      | none => rfl
      | some o => dsimp only; rw [e1]; rfl
    rw [e3, e1]; rfl
  · rw [pwX_ot j4 j14 jr]
theorem wS_as {ot as : Nat → Option Nat} {bt : Nat → Int32} {a k : Nat} (h : wS ot as bt a = some k) : as a = some k ∧ ∃ o, ot k = some o := by
  unfold wS at h
  cases e : as a with
  | none => rw [e] at h; cases h
  | some j =>
    rw [e] at h
    dsimp only at h
    cases eo : ot j with
    | none => rw [eo] at h; cases h
    | some o =>
      rw [eo] at h
      dsimp only at h
      split at h
      · split at h
        · cases h
        · cases h; exact ⟨rfl, o, eo⟩
      · cases h; exact ⟨rfl, o, eo⟩
/-- what a round wants: the cables, and who asks by which socket -/
abbrev RdH (ot as : Nat → Option Nat) (op bus : Nat → Int32) (v : Int32) : Prop :=
  (∀ k t, k < 36 → ot k = some t → t < 36) ∧
  (∀ k t, k < 36 → ot k = some t → ot t = some k) ∧
  (∀ k t, ot k = some t → k < 36) ∧
  (∀ k t, k < 36 → ot k = some t → k / 3 ≠ t / 3) ∧
  (∀ k t, k < 36 → ot k = some t → bus (k / 3) = bus (t / 3)) ∧
  (∀ a k, as a = some k → k / 3 = a ∧ k < 36 ∧ ¬ op k = 0 ∧ bus a = v) ∧
  (∀ k t, k < 36 → bus (k / 3) = v → ot k = some t → ¬ op k = 0 → ¬ op t = 0)
theorem RdH.t36 {ot as : Nat → Option Nat} {op bus : Nat → Int32} {v : Int32} (h : RdH ot as op bus v) : ∀ k t, k < 36 → ot k = some t → t < 36 := h.1
theorem RdH.sy {ot as : Nat → Option Nat} {op bus : Nat → Int32} {v : Int32} (h : RdH ot as op bus v) : ∀ k t, k < 36 → ot k = some t → ot t = some k := h.2.1
theorem RdH.k36 {ot as : Nat → Option Nat} {op bus : Nat → Int32} {v : Int32} (h : RdH ot as op bus v) : ∀ k t, ot k = some t → k < 36 := h.2.2.1
theorem RdH.ne {ot as : Nat → Option Nat} {op bus : Nat → Int32} {v : Int32} (h : RdH ot as op bus v) : ∀ k t, k < 36 → ot k = some t → k / 3 ≠ t / 3 := h.2.2.2.1
theorem RdH.bs {ot as : Nat → Option Nat} {op bus : Nat → Int32} {v : Int32} (h : RdH ot as op bus v) : ∀ k t, k < 36 → ot k = some t → bus (k / 3) = bus (t / 3) := h.2.2.2.2.1
theorem RdH.a0 {ot as : Nat → Option Nat} {op bus : Nat → Int32} {v : Int32} (h : RdH ot as op bus v) : ∀ a k, as a = some k → k / 3 = a ∧ k < 36 ∧ ¬ op k = 0 ∧ bus a = v := h.2.2.2.2.2.1
theorem RdH.oo {ot as : Nat → Option Nat} {op bus : Nat → Int32} {v : Int32} (h : RdH ot as op bus v) : ∀ k t, k < 36 → bus (k / 3) = v → ot k = some t → ¬ op k = 0 → ¬ op t = 0 := h.2.2.2.2.2.2
theorem RdH.inj {ot as : Nat → Option Nat} {op bus : Nat → Int32} {v : Int32} (H : RdH ot as op bus v) {k t : Nat} (ho : ot k = some t) : ∀ j, ot j = some t → j = k := by
  intro j hj
  have h1 := H.sy j t (H.k36 j t hj) hj
  have h2 := H.sy k t (H.k36 k t ho) ho
  rw [h1] at h2
  exact Option.some.inj h2
def PM (ot as : Nat → Option Nat) (m a : Nat) : Bool := match as a with
  | none => false
  | some k => match ot k with
    | none => false
    | some o => decide (k < m ∨ o < m)
theorem PM_k {ot as : Nat → Option Nat} {m a k o : Nat} (h : as a = some k) (ho : ot k = some o) : PM ot as m a = decide (k < m ∨ o < m) := by
  unfold PM
  rw [h]
  dsimp only
  rw [ho]
theorem PM_n {ot as : Nat → Option Nat} {op bus : Nat → Int32} {v : Int32} (H : RdH ot as op bus v) {m : Nat} (h : ∀ t, ot m = some t → m < t → as (m / 3) ≠ some m ∧ as (t / 3) ≠ some t) : PM ot as (m + 1) = PM ot as m := by
  funext a
  cases e : as a with
  | none => unfold PM; rw [e]
  | some k =>
    cases eo : ot k with
    | none => unfold PM; rw [e]; dsimp only; rw [eo]
    | some o =>
      rw [PM_k e eo, PM_k e eo]
      have h0 := H.a0 a k e
      have h9 := H.ne k o h0.2.1 eo
      refine decide_eq_decide.mpr ⟨fun z => ?_, fun z => by omega⟩
      by_cases e1 : k = m
      · subst e1
        by_cases e2 : k < o
        · exact absurd (h0.1 ▸ e) (h o eo e2).1
        · right
          rcases Nat.lt_or_ge o k with z | z
          · exact z
          · exact absurd (show k / 3 = o / 3 by rw [show o = k by omega]) h9
      · by_cases e2 : o = m
        · subst e2
          by_cases e3 : o < k
          · exact absurd (h0.1 ▸ e) (h k (H.sy k o h0.2.1 eo) e3).2
          · left; omega
        · omega
theorem PM_s {ot as : Nat → Option Nat} {op bus : Nat → Int32} {v : Int32} (H : RdH ot as op bus v) {m t : Nat} (hm : ot m = some t) (hlt : m < t) (a : Nat) : PM ot as (m + 1) a = (PM ot as m a || (decide (as a = some m) || decide (as a = some t))) := by
  have h36 := H.k36 m t hm
  have hs := H.sy m t h36 hm
  cases e : as a with
  | none => unfold PM; rw [e]; rfl
  | some k =>
    have h0 := H.a0 a k e
    by_cases e1 : k = m
    · subst e1
      rw [PM_k e hm, PM_k e hm, decide_eq_true (show k < k + 1 ∨ t < k + 1 by omega), decide_eq_true (show some k = some k from rfl), Bool.true_or, Bool.or_true]
    · by_cases e2 : k = t
      · subst e2
        rw [PM_k e hs, PM_k e hs, decide_eq_true (show k < m + 1 ∨ m < m + 1 by omega), decide_eq_true (show some k = some k from rfl), Bool.or_true, Bool.or_true]
      · rw [decide_eq_false (show ¬ some k = some m from fun z => e1 (Option.some.inj z)), decide_eq_false (show ¬ some k = some t from fun z => e2 (Option.some.inj z)), Bool.or_false, Bool.or_false]
        cases eo : ot k with
        | none => unfold PM; rw [e]; dsimp only; rw [eo]
        | some o =>
          have h3 : o ≠ m := by
            intro z
            subst z
            exact e2 ((Option.some.inj (hm.symm.trans (H.sy k o h0.2.1 eo))).symm)
          rw [PM_k e eo, PM_k e eo]
          exact decide_eq_decide.mpr ⟨fun z => by omega, fun z => by omega⟩
section RdM
variable {ot as : Nat → Option Nat} {x : Nat → Nat → Int32} {v : Int32}
theorem rd_M (H : RdH ot as (x 2) (x 18) v) (a2 : ∀ k, k < 36 → x 18 (k / 3) = v → ¬ x 2 k = 0 → ¬ x 19 (k / 3) = 0 → as (k / 3) = some k) (a3 : ∀ a k, as a = some k → ¬ x 19 a = 0) : ∀ m, m ≤ 36 → mRd ot v x m = pwX 2 ot x (rs (PM ot as m) (wS ot as (fun a => (mNB x a).1))) (cs (PM ot as m) (cC ot as)) := by
  intro m
  induction m with
  | zero =>
    intro _
    refine (pwX_0 (by decide) (by decide) (fun a => ?_)).symm
    cases e : as a with
    | none => unfold PM; rw [e]
    | some k =>
      cases eo : ot k with
      | none => unfold PM; rw [e]; dsimp only; rw [eo]
      | some o => rw [PM_k e eo]; exact decide_eq_false (by omega)
  | succ m ih =>
    intro hm
    show mRd1 ot v (mRd ot v x m) m = _
    rw [ih (by omega)]
    have y18 : pwX 2 ot x (rs (PM ot as m) (wS ot as (fun a => (mNB x a).1))) (cs (PM ot as m) (cC ot as)) 18 = x 18 := pwX_ot (by decide) (by decide) (by decide)
    have y19 : pwX 2 ot x (rs (PM ot as m) (wS ot as (fun a => (mNB x a).1))) (cs (PM ot as m) (cC ot as)) 19 = x 19 := pwX_ot (by decide) (by decide) (by decide)
    have y2 : ∀ t, ot m = some t → m < t → pwX 2 ot x (rs (PM ot as m) (wS ot as (fun a => (mNB x a).1))) (cs (PM ot as m) (cC ot as)) 2 m = x 2 m := by
      intro t ho hlt
      rw [pwX_ro (by decide) (by decide)]
      unfold pwO
      have e1 : decide (rs (PM ot as m) (wS ot as (fun a => (mNB x a).1)) (m / 3) = some m) = false := by
        refine decide_eq_false (fun z => ?_)
        unfold rs at z
        cases eP : PM ot as m (m / 3) with
        | false => rw [eP] at z; cases z
        | true =>
          rw [eP] at z
          have h1 := (wS_as (show wS ot as (fun a => (mNB x a).1) (m / 3) = some m from z)).1
          rw [PM_k h1 ho] at eP
          have := of_decide_eq_true eP
          omega
      have e2 : oW ot (rs (PM ot as m) (wS ot as (fun a => (mNB x a).1))) m = false := by
        unfold oW
        rw [ho]
        refine decide_eq_false (fun z => ?_)
        unfold rs at z
        cases eP : PM ot as m (t / 3) with
        | false => rw [eP] at z; cases z
        | true =>
          rw [eP] at z
          have h1 := (wS_as (show wS ot as (fun a => (mNB x a).1) (t / 3) = some t from z)).1
          rw [PM_k h1 (H.sy m t (by omega) ho)] at eP
          have := of_decide_eq_true eP
          omega
      rw [e1, e2]; rfl
    generalize hy : pwX 2 ot x (rs (PM ot as m) (wS ot as (fun a => (mNB x a).1))) (cs (PM ot as m) (cC ot as)) = y at y18 y19 y2 ⊢
    have noop : (∀ t, ot m = some t → m < t → as (m / 3) ≠ some m ∧ as (t / 3) ≠ some t) → y = pwX 2 ot x (rs (PM ot as (m + 1)) (wS ot as (fun a => (mNB x a).1))) (cs (PM ot as (m + 1)) (cC ot as)) := by
      intro h
      rw [PM_n H h]
      exact hy.symm
    unfold mRd1
    rw [y18]
    by_cases h18 : x 18 (m / 3) = v
    · rw [if_neg (fun z => z h18)]
      by_cases h2 : y 2 m = 0
      · rw [if_pos h2]
        refine noop (fun t ho hlt => ?_)
        rw [y2 t ho hlt] at h2
        refine ⟨fun z => (H.a0 _ _ z).2.2.1 h2, fun z => ?_⟩
        exact H.oo t m (H.t36 m t (by omega) ho) ((H.bs m t (by omega) ho) ▸ h18) (H.sy m t (by omega) ho) (H.a0 _ _ z).2.2.1 h2
      · rw [if_neg h2]
        cases ho : ot m with
        | none => exact noop (fun t h => by rw [ho] at h; cases h)
        | some t =>
          dsimp only
          by_cases hlt : t < m
          · rw [if_pos hlt]
            refine noop (fun t' h => ?_)
            rw [ho] at h
            cases h
            omega
          · rw [if_neg hlt]
            have hne := H.ne m t (by omega) ho
            have hlt' : m < t := by
              rcases Nat.lt_or_ge m t with z | z
              · exact z
              · exact absurd (show m / 3 = t / 3 by rw [show m = t by omega]) hne
            rw [y2 t ho hlt'] at h2
            have hs := H.sy m t (by omega) ho
            have ht36 := H.t36 m t (by omega) ho
            have h2t := H.oo m t (by omega) h18 ho h2
            have h18t : x 18 (t / 3) = v := (H.bs m t (by omega) ho) ▸ h18
            have pm : PM ot as m (m / 3) = true → as (m / 3) ≠ some m := by
              intro e z
              rw [PM_k z ho] at e
              have := of_decide_eq_true e
              omega
            have pt : PM ot as m (t / 3) = true → as (t / 3) ≠ some t := by
              intro e z
              rw [PM_k z hs] at e
              have := of_decide_eq_true e
              omega
            unfold mCab
            rw [y19]
            by_cases b1 : x 19 (m / 3) = 0
            · rw [if_neg (fun z => z b1)]
              have n1 : ∀ a, as a ≠ some m := fun a z => by
                have h0 := (H.a0 a m z).1
                rw [← h0] at z
                exact a3 _ _ z b1
              by_cases b2 : x 19 (t / 3) = 0
              · rw [if_neg (fun z => z b2)]
                refine noop (fun t' h _ => ?_)
                rw [ho] at h
                cases h
                exact ⟨n1 _, fun z => a3 _ _ z b2⟩
              · rw [if_pos b2]
                have at' := a2 t ht36 h18t h2t b2
                have hP : PM ot as m (t / 3) = false := by
                  cases e : PM ot as m (t / 3) with
                  | false => rfl
                  | true => exact absurd at' (pt e)
                rw [gClose_2, ← hy, rd_s1 (by decide) (by decide) at' hs ho (H.inj ho) (n1 _) hP]
                have hq : PM ot as (m + 1) = ad (PM ot as m) (t / 3) := by
                  funext a
                  rw [PM_s H ho hlt', decide_eq_false (n1 a), Bool.false_or]
                  unfold ad
                  congr 1
                  exact decide_eq_decide.mpr ⟨fun z => (H.a0 a t z).1.symm, fun z => z ▸ at'⟩
                rw [hq]
            · rw [if_pos b1]
              have am := a2 m (by omega) h18 h2 b1
              have hP : PM ot as m (m / 3) = false := by
                cases e : PM ot as m (m / 3) with
                | false => rfl
                | true => exact absurd am (pm e)
              by_cases b2 : x 19 (t / 3) = 0
              · rw [if_neg (fun z => z b2)]
                have n2 : ∀ a, as a ≠ some t := fun a z => by
                  have h0 := (H.a0 a t z).1
                  rw [← h0] at z
                  exact a3 _ _ z b2
                rw [gClose_2, ← hy, rd_s1 (by decide) (by decide) am ho hs (H.inj hs) (n2 _) hP]
                have hq : PM ot as (m + 1) = ad (PM ot as m) (m / 3) := by
                  funext a
                  rw [PM_s H ho hlt', decide_eq_false (n2 a), Bool.or_false]
                  unfold ad
                  congr 1
                  exact decide_eq_decide.mpr ⟨fun z => (H.a0 a m z).1.symm, fun z => z ▸ am⟩
                rw [hq]
              · rw [if_pos b2]
                have at' := a2 t ht36 h18t h2t b2
                have hP2 : PM ot as m (t / 3) = false := by
                  cases e : PM ot as m (t / 3) with
                  | false => rfl
                  | true => exact absurd at' (pt e)
                rw [gClose_2, gClose_2, ← hy, rd_s2 (by decide) (by decide) (by decide) hne am ho hs (H.inj hs) (H.inj ho) at' hP hP2]
                have hq : PM ot as (m + 1) = ad (ad (PM ot as m) (m / 3)) (t / 3) := by
                  funext a
                  rw [PM_s H ho hlt']
                  unfold ad
                  rw [Bool.or_assoc]
                  congr 2
                  · exact decide_eq_decide.mpr ⟨fun z => (H.a0 a m z).1.symm, fun z => z ▸ am⟩
                  · exact decide_eq_decide.mpr ⟨fun z => (H.a0 a t z).1.symm, fun z => z ▸ at'⟩
                rw [hq]
    · rw [if_pos h18]
      refine noop (fun t ho _ => ⟨fun z => h18 (H.a0 _ _ z).2.2.2, fun z => ?_⟩)
      exact h18 ((H.bs m t (by omega) ho).trans (H.a0 _ _ z).2.2.2)
theorem PM_36 (P : Nat → Bool) (hP : ∀ a, P a = false → as a = none ∨ ∃ k, as a = some k ∧ ot k = none) : rs P (wS ot as (fun a => (mNB x a).1)) = wS ot as (fun a => (mNB x a).1) ∧ cs P (cC ot as) = cC ot as := by
  constructor
  · funext a
    unfold rs
    cases e : P a with
    | true => rfl
    | false =>
      show none = _
      unfold wS
      rcases hP a e with z | ⟨k, z, zo⟩
      · rw [z]
      · rw [z]; dsimp only; rw [zo]
  · funext a
    unfold cs
    cases e : P a with
    | true => rfl
    | false =>
      show false = _
      unfold cC
      rcases hP a e with z | ⟨k, z, zo⟩
      · rw [z]
      · rw [z]; dsimp only; rw [zo]
/-- the model's round as a whole -/
theorem rd_M36 (H : RdH ot as (x 2) (x 18) v) (a2 : ∀ k, k < 36 → x 18 (k / 3) = v → ¬ x 2 k = 0 → ¬ x 19 (k / 3) = 0 → as (k / 3) = some k) (a3 : ∀ a k, as a = some k → ¬ x 19 a = 0) : mRd ot v x 36 = pwX 2 ot x (wS ot as (fun a => (mNB x a).1)) (cC ot as) := by
  rw [rd_M H a2 a3 36 (Nat.le_refl _)]
  have h := PM_36 (ot := ot) (as := as) (x := x) (PM ot as 36) (fun a e => by
    cases ea : as a with
    | none => exact Or.inl rfl
    | some k =>
      right
      refine ⟨k, rfl, ?_⟩
      cases eo : ot k with
      | none => rfl
      | some o =>
        rw [PM_k ea eo] at e
        exact absurd (Or.inl (H.a0 a k ea).2.1) (of_decide_eq_false e))
  rw [h.1, h.2]
end RdM
