/-! the tree: ps = the socket towards the parent, rd = the round in which a node became a child -/
abbrev TI (ot ps : Nat → Option Nat) (rd : Nat → Nat) (bus : Nat → Int32) (v : Int32) (op pa : Nat → Int32) (R : Nat) : Prop :=
  (∀ a, a < 12 → bus a = v → ps a = none → pa a = -1) ∧
  (∀ a k, a < 12 → bus a = v → ps a = some k → k / 3 = a ∧ ∃ o, ot k = some o ∧ pa a = nI (o / 3)) ∧
  (∀ k o, k < 36 → bus (k / 3) = v → ot k = some o → op k = 0 → ps (k / 3) = some k ∨ ps (o / 3) = some o) ∧
  (∀ k o, k < 36 → bus (k / 3) = v → ot k = some o → ¬ op k = 0 → ps (k / 3) ≠ some k ∧ ps (o / 3) ≠ some o) ∧
  (∀ k, k < 36 → bus (k / 3) = v → ot k = none → op k = 0) ∧
  (∀ a k, a < 12 → bus a = v → ps a = some k → rd a ≤ R) ∧
  (∀ a k, a < 12 → bus a = v → ps a = some k → ∀ k' o', k' / 3 = a → k' ≠ k → ot k' = some o' → ps (o' / 3) = some o' ∧ rd (o' / 3) < rd a) ∧
  (∀ k o, k < 36 → bus (k / 3) = v → ot k = some o → ¬ (ps (k / 3) = some k ∧ ps (o / 3) = some o))
theorem TI.p0 {ot ps : Nat → Option Nat} {rd : Nat → Nat} {bus : Nat → Int32} {v : Int32} {op pa : Nat → Int32} {R : Nat} (h : TI ot ps rd bus v op pa R) : ∀ a, a < 12 → bus a = v → ps a = none → pa a = -1 := h.1
theorem TI.p1 {ot ps : Nat → Option Nat} {rd : Nat → Nat} {bus : Nat → Int32} {v : Int32} {op pa : Nat → Int32} {R : Nat} (h : TI ot ps rd bus v op pa R) : ∀ a k, a < 12 → bus a = v → ps a = some k → k / 3 = a ∧ ∃ o, ot k = some o ∧ pa a = nI (o / 3) := h.2.1
theorem TI.c1 {ot ps : Nat → Option Nat} {rd : Nat → Nat} {bus : Nat → Int32} {v : Int32} {op pa : Nat → Int32} {R : Nat} (h : TI ot ps rd bus v op pa R) : ∀ k o, k < 36 → bus (k / 3) = v → ot k = some o → op k = 0 → ps (k / 3) = some k ∨ ps (o / 3) = some o := h.2.2.1
theorem TI.c2 {ot ps : Nat → Option Nat} {rd : Nat → Nat} {bus : Nat → Int32} {v : Int32} {op pa : Nat → Int32} {R : Nat} (h : TI ot ps rd bus v op pa R) : ∀ k o, k < 36 → bus (k / 3) = v → ot k = some o → ¬ op k = 0 → ps (k / 3) ≠ some k ∧ ps (o / 3) ≠ some o := h.2.2.2.1
theorem TI.c3 {ot ps : Nat → Option Nat} {rd : Nat → Nat} {bus : Nat → Int32} {v : Int32} {op pa : Nat → Int32} {R : Nat} (h : TI ot ps rd bus v op pa R) : ∀ k, k < 36 → bus (k / 3) = v → ot k = none → op k = 0 := h.2.2.2.2.1
theorem TI.d0 {ot ps : Nat → Option Nat} {rd : Nat → Nat} {bus : Nat → Int32} {v : Int32} {op pa : Nat → Int32} {R : Nat} (h : TI ot ps rd bus v op pa R) : ∀ a k, a < 12 → bus a = v → ps a = some k → rd a ≤ R := h.2.2.2.2.2.1
theorem TI.d1 {ot ps : Nat → Option Nat} {rd : Nat → Nat} {bus : Nat → Int32} {v : Int32} {op pa : Nat → Int32} {R : Nat} (h : TI ot ps rd bus v op pa R) : ∀ a k, a < 12 → bus a = v → ps a = some k → ∀ k' o', k' / 3 = a → k' ≠ k → ot k' = some o' → ps (o' / 3) = some o' ∧ rd (o' / 3) < rd a := h.2.2.2.2.2.2.1
theorem TI.d2 {ot ps : Nat → Option Nat} {rd : Nat → Nat} {bus : Nat → Int32} {v : Int32} {op pa : Nat → Int32} {R : Nat} (h : TI ot ps rd bus v op pa R) : ∀ k o, k < 36 → bus (k / 3) = v → ot k = some o → ¬ (ps (k / 3) = some k ∧ ps (o / 3) = some o) := h.2.2.2.2.2.2.2
/-- the cables: 36 sockets, both ends, different nodes, one bus -/
abbrev Cab (ot : Nat → Option Nat) (bus : Nat → Int32) : Prop :=
  (∀ k t, k < 36 → ot k = some t → t < 36) ∧
  (∀ k t, k < 36 → ot k = some t → ot t = some k) ∧
  (∀ k t, ot k = some t → k < 36) ∧
  (∀ k t, k < 36 → ot k = some t → k / 3 ≠ t / 3) ∧
  (∀ k t, k < 36 → ot k = some t → bus (k / 3) = bus (t / 3))
theorem Cab.t36 {ot : Nat → Option Nat} {bus : Nat → Int32} (h : Cab ot bus) : ∀ k t, k < 36 → ot k = some t → t < 36 := h.1
theorem Cab.sy {ot : Nat → Option Nat} {bus : Nat → Int32} (h : Cab ot bus) : ∀ k t, k < 36 → ot k = some t → ot t = some k := h.2.1
theorem Cab.k36 {ot : Nat → Option Nat} {bus : Nat → Int32} (h : Cab ot bus) : ∀ k t, ot k = some t → k < 36 := h.2.2.1
theorem Cab.ne {ot : Nat → Option Nat} {bus : Nat → Int32} (h : Cab ot bus) : ∀ k t, k < 36 → ot k = some t → k / 3 ≠ t / 3 := h.2.2.2.1
theorem Cab.bs {ot : Nat → Option Nat} {bus : Nat → Int32} (h : Cab ot bus) : ∀ k t, k < 36 → ot k = some t → bus (k / 3) = bus (t / 3) := h.2.2.2.2
theorem TI.start {ot : Nat → Option Nat} {bus : Nat → Int32} {v : Int32} {op pa : Nat → Int32} (hop : ∀ k, k < 36 → bus (k / 3) = v → op k = zi (ot k).isSome) (hpa : ∀ a, a < 12 → bus a = v → pa a = -1) : TI ot (fun _ => none) (fun _ => 0) bus v op pa 0 :=
  ⟨(fun a ha hb _ => hpa a ha hb),
   (fun a k _ _ h => by cases h),
   (fun k o hk hb ho h => by rw [hop k hk hb, ho] at h; cases h),
   (fun k o _ _ _ _ => ⟨(fun z => nomatch z), (fun z => nomatch z)⟩),
   (fun k hk hb ho => by rw [hop k hk hb, ho]; rfl),
   (fun a k _ _ h => by cases h),
   (fun a k _ _ h => by cases h),
   (fun k o _ _ _ h => by cases h.1)⟩
section Tr
variable {ot ps : Nat → Option Nat} {rd : Nat → Nat} {bus : Nat → Int32} {v : Int32} {op pa : Nat → Int32} {R : Nat}
theorem TI.oo (T : TI ot ps rd bus v op pa R) (K : Cab ot bus) : ∀ k t, k < 36 → bus (k / 3) = v → ot k = some t → ¬ op k = 0 → ¬ op t = 0 := by
  intro k t hk hb ho h z
  have h1 := T.c2 k t hk hb ho h
  rcases T.c1 t k (K.t36 k t hk ho) ((K.bs k t hk ho) ▸ hb) (K.sy k t hk ho) z with q | q
  · exact h1.2 q
  · exact h1.1 q
theorem TI.rdh (T : TI ot ps rd bus v op pa R) (K : Cab ot bus) {as : Nat → Option Nat} (a0 : ∀ a k, as a = some k → k / 3 = a ∧ k < 36 ∧ ¬ op k = 0 ∧ bus a = v) : RdH ot as op bus v := ⟨K.t36, K.sy, K.k36, K.ne, K.bs, a0, T.oo K⟩
def psN (w ps : Nat → Option Nat) (a : Nat) : Option Nat := match w a with
  | none => ps a
  | some k => some k
def rdN (w : Nat → Option Nat) (rd : Nat → Nat) (R a : Nat) : Nat := match w a with
  | none => rd a
  | some _ => R + 1
theorem TI.step (T : TI ot ps rd bus v op pa R) (K : Cab ot bus) {as : Nat → Option Nat} (H : RdH ot as op bus v) (hon : ∀ a k, as a = some k → ∀ k', k' / 3 = a → ¬ op k' = 0 → k' = k) {bt : Nat → Int32} (hbt01 : ∀ a b, ¬ bt a = nI 1 → ¬ bt b = nI 1 → bt a = bt b) : TI ot (psN (wS ot as bt) ps) (rdN (wS ot as bt) rd R) bus v (pwO ot (wS ot as bt) op) (pwP ot (wS ot as bt) pa) (R + 1) := by
  have hw : ∀ a k, wS ot as bt a = some k → k / 3 = a ∧ k < 36 ∧ ¬ op k = 0 ∧ bus a = v ∧ ps a = none ∧ ∃ o, ot k = some o := by
    intro a k h
    obtain ⟨h1, o, ho⟩ := wS_as h
    obtain ⟨q1, q2, q3, q4⟩ := H.a0 a k h1
    refine ⟨q1, q2, q3, q4, ?_, o, ho⟩
    have h2 := T.c2 k o q2 (by rw [q1]; exact q4) ho q3
    cases e : ps a with
    | none => rfl
    | some k0 =>
      by_cases e0 : k = k0
      · rw [q1, e, ← e0] at h2; exact absurd rfl h2.1
      · exact absurd (T.d1 a k0 (by omega) q4 e k o q1 e0 ho).1 h2.2
  have hps : ∀ a k, ps a = some k → psN (wS ot as bt) ps a = some k := by
    intro a k h
    unfold psN
    cases e : wS ot as bt a with
    | none => exact h
    | some j => rw [(hw a j e).2.2.2.2.1] at h; cases h
  have hrd : ∀ a k, ps a = some k → rdN (wS ot as bt) rd R a = rd a := by
    intro a k h
    unfold rdN
    cases e : wS ot as bt a with
    | none => rfl
    | some j => rw [(hw a j e).2.2.2.2.1] at h; cases h
  have hpn : ∀ a k, psN (wS ot as bt) ps a = some k → wS ot as bt a = some k ∨ ps a = some k := by
    intro a k h
    unfold psN at h
    cases e : wS ot as bt a with
    | none => rw [e] at h; exact Or.inr h
    | some j => rw [e] at h; exact Or.inl h
  have hop0 : ∀ k o, ot k = some o → pwO ot (wS ot as bt) op k = 0 → op k = 0 ∨ wS ot as bt (k / 3) = some k ∨ wS ot as bt (o / 3) = some o := by
    intro k o ho h
    unfold pwO oW at h
    rw [ho] at h
    by_cases e1 : wS ot as bt (k / 3) = some k
    · exact Or.inr (Or.inl e1)
    · by_cases e2 : wS ot as bt (o / 3) = some o
      · exact Or.inr (Or.inr e2)
      · dsimp only at h
        rw [decide_eq_false e1, decide_eq_false e2] at h
        exact Or.inl h
  have hop1 : ∀ k o, ot k = some o → ¬ pwO ot (wS ot as bt) op k = 0 → ¬ op k = 0 ∧ wS ot as bt (k / 3) ≠ some k ∧ wS ot as bt (o / 3) ≠ some o := by
    intro k o ho h
    unfold pwO oW at h
    rw [ho] at h
    by_cases e1 : wS ot as bt (k / 3) = some k
    · rw [decide_eq_true e1] at h
      exact absurd (show nI 0 = 0 by decide) h
    · by_cases e2 : wS ot as bt (o / 3) = some o
      · dsimp only at h
        rw [decide_eq_true e2, Bool.or_true] at h
        exact absurd (show nI 0 = 0 by decide) h
      · dsimp only at h
        rw [decide_eq_false e1, decide_eq_false e2] at h
        exact ⟨h, e1, e2⟩
  have wno : ∀ k o, k < 36 → ot k = some o → wS ot as bt (k / 3) = some k → ps (o / 3) ≠ some o := by
    intro k o hk ho h
    have h1 := hw _ k h
    exact (T.c2 k o hk h1.2.2.2.1 ho h1.2.2.1).2
  refine ⟨?_, ?_, ?_, ?_, ?_, ?_, ?_, ?_⟩
  · intro a ha hb h
    have e : wS ot as bt a = none := by
      cases e : wS ot as bt a with
      | none => rfl
      | some j => unfold psN at h; rw [e] at h; cases h
    unfold psN at h
    rw [e] at h
    unfold pwP
    rw [e]
    exact T.p0 a ha hb h
  · intro a k ha hb h
    rcases hpn a k h with q | q
    · obtain ⟨h1, h2, h3, h4, h5, o, ho⟩ := hw a k q
      refine ⟨h1, o, ho, ?_⟩
      unfold pwP
      rw [q]
      show nI ((ot k).getD 0 / 3) = _
      rw [ho]; rfl
    · obtain ⟨h1, o, ho, h2⟩ := T.p1 a k ha hb q
      refine ⟨h1, o, ho, ?_⟩
      have e : wS ot as bt a = none := by
        cases e : wS ot as bt a with
        | none => rfl
        | some j => rw [(hw a j e).2.2.2.2.1] at q; cases q
      unfold pwP
      rw [e]
      exact h2
  · intro k o hk hb ho h
    rcases hop0 k o ho h with q | q | q
    · rcases T.c1 k o hk hb ho q with q | q
      · exact Or.inl (hps _ _ q)
      · exact Or.inr (hps _ _ q)
    · left; unfold psN; rw [q]
    · right; unfold psN; rw [q]
  · intro k o hk hb ho h
    obtain ⟨h1, h2, h3⟩ := hop1 k o ho h
    have h4 := T.c2 k o hk hb ho h1
    refine ⟨fun z => ?_, fun z => ?_⟩
    · rcases hpn _ _ z with q | q
      · exact h2 q
      · exact h4.1 q
    · rcases hpn _ _ z with q | q
      · exact h3 q
      · exact h4.2 q
  · intro k hk hb ho
    have h1 := T.c3 k hk hb ho
    unfold pwO oW
    rw [ho]
    by_cases e1 : wS ot as bt (k / 3) = some k
    · rw [decide_eq_true e1]; exact nI_0
    · rw [decide_eq_false e1]; exact h1
  · intro a k ha hb h
    unfold rdN
    cases e : wS ot as bt a with
    | some j => exact Nat.le_refl _
    | none =>
      have q : ps a = some k := by
        rcases hpn a k h with q | q
        · rw [e] at q; cases q
        · exact q
      exact Nat.le_succ_of_le (T.d0 a k ha hb q)
  · intro a k ha hb h k' o' hk' hne ho'
    have hk36 := K.k36 k' o' ho'
    rcases hpn a k h with q | q
    · obtain ⟨h1, h2, h3, h4, h5, o, ho⟩ := hw a k q
      have e1 : op k' = 0 := by
        refine Classical.byContradiction (fun z => hne (hon a k (wS_as q).1 k' hk' z))
      rcases T.c1 k' o' hk36 (by rw [hk']; exact hb) ho' e1 with z | z
      · rw [hk', h5] at z; cases z
      · refine ⟨hps _ _ z, ?_⟩
        rw [hrd _ _ z]
        have hb' : bus (o' / 3) = v := by rw [← K.bs k' o' hk36 ho', hk']; exact hb
        have h6 := T.d0 (o' / 3) o' (by have := K.t36 k' o' hk36 ho'; omega) hb' z
        unfold rdN
        rw [q]
        exact Nat.lt_succ_of_le h6
    · obtain ⟨h1, h2⟩ := T.d1 a k ha hb q k' o' hk' hne ho'
      exact ⟨hps _ _ h1, by rw [hrd _ _ h1, hrd _ _ q]; exact h2⟩
  · intro k o hk hb ho ⟨z1, z2⟩
    have ho36 := K.t36 k o hk ho
    have hs := K.sy k o hk ho
    rcases hpn _ _ z1 with q1 | q1
    · rcases hpn _ _ z2 with q2 | q2
      · have a1 := (wS_as q1).1
        have a2 := (wS_as q2).1
        rw [wS_2 a1 ho a2] at q1
        rw [wS_2 a2 hs a1] at q2
        split at q1
        · cases q1
        · rename_i n1
          split at q2
          · cases q2
          · rename_i n2
            refine n2 (Or.inr ?_)
            refine Classical.byContradiction (fun n3 => ?_)
            exact n3 (hbt01 _ _ (fun z => n1 (Or.inl z)) (fun z => n2 (Or.inl z))).symm
      · exact wno k o hk ho q1 q2
    · rcases hpn _ _ z2 with q2 | q2
      · exact wno o k ho36 hs q2 q1
      · exact T.d2 k o hk hb ho ⟨q1, q2⟩
/-- all cables closed -/
def rdd (ps : Nat → Option Nat) (rd : Nat → Nat) (R a : Nat) : Nat := match ps a with
  | none => R + 1
  | some _ => rd a
def rkk (ps : Nat → Option Nat) (rd : Nat → Nat) (bus : Nat → Int32) (v : Int32) (R a : Nat) : Nat := cntT (fun c => decide (bus c = v) && ((ps c).isSome && decide (rd c < rdd ps rd R a))) 12
theorem rkk_12 (a : Nat) (ha : a < 12) : rkk ps rd bus v R a < 12 := by
  have h1 : rkk ps rd bus v R a < cntT (fun _ => true) 12 := by
    refine cnt_strict (fun _ _ _ => rfl) ⟨a, ha, ?_, rfl⟩
    cases e : ps a with
    | none => show (decide (bus a = v) && (false && _)) = false; rw [Bool.false_and, Bool.and_false]
    | some k =>
      show (decide (bus a = v) && (true && decide (rd a < rdd ps rd R a))) = false
      have h2 : rdd ps rd R a = rd a := by unfold rdd; rw [e]
      rw [h2, decide_eq_false (Nat.lt_irrefl _), Bool.and_false, Bool.and_false]
  have h2 := cntT_le (fun _ => true) 12
  omega
theorem TI.edge (T : TI ot ps rd bus v op pa R) (K : Cab ot bus) {a k o : Nat} (ha : a < 12) (hb : bus a = v) (h : ps a = some k) (ho : ot k = some o) : rkk ps rd bus v R a < rkk ps rd bus v R (o / 3) := by
  have h1 := T.p1 a k ha hb h
  have hk := K.k36 k o ho
  have ho36 := K.t36 k o hk ho
  have hs := K.sy k o hk ho
  have hbo : bus (o / 3) = v := by rw [← K.bs k o hk ho, h1.1]; exact hb
  have hra : rdd ps rd R a = rd a := by unfold rdd; rw [h]
  have hlt : rd a < rdd ps rd R (o / 3) := by
    cases e : ps (o / 3) with
    | none =>
      have h2 : rdd ps rd R (o / 3) = R + 1 := by unfold rdd; rw [e]
      have := T.d0 a k ha hb h
      omega
    | some k1 =>
      have h2 : rdd ps rd R (o / 3) = rd (o / 3) := by unfold rdd; rw [e]
      rw [h2]
      by_cases e1 : o = k1
      · exact absurd ⟨by rw [h1.1]; exact h, by rw [e, e1]⟩ (T.d2 k o hk (by rw [h1.1]; exact hb) ho)
      · have h3 := (T.d1 (o / 3) k1 (by omega) hbo e o k rfl e1 hs).2
        rw [h1.1] at h3
        exact h3
  refine cnt_strict (fun i _ q => ?_) ⟨a, ha, ?_, ?_⟩
  · have q' : (decide (bus i = v) && ((ps i).isSome && decide (rd i < rdd ps rd R a))) = true := q
    rw [Bool.and_eq_true, Bool.and_eq_true] at q'
    show (decide (bus i = v) && ((ps i).isSome && decide (rd i < rdd ps rd R (o / 3)))) = true
    rw [Bool.and_eq_true, Bool.and_eq_true]
    refine ⟨q'.1, q'.2.1, decide_eq_true ?_⟩
    have := of_decide_eq_true q'.2.2
    omega
  · show (decide (bus a = v) && ((ps a).isSome && decide (rd a < rdd ps rd R a))) = false
    rw [hra, decide_eq_false (Nat.lt_irrefl _), Bool.and_false, Bool.and_false]
  · show (decide (bus a = v) && ((ps a).isSome && decide (rd a < rdd ps rd R (o / 3)))) = true
    rw [h, decide_eq_true hb, decide_eq_true hlt]; rfl
def pIt (ot ps : Nat → Option Nat) : Nat → Nat → Nat
  | 0, a => a
  | n + 1, a => match ps a with
    | none => a
    | some k => pIt ot ps n ((ot k).getD 0 / 3)
theorem pIt_n {n a : Nat} (h : ps a = none) : pIt ot ps n a = a := by
  cases n with
  | zero => rfl
  | succ n => show (match ps a with | none => a | some k => pIt ot ps n ((ot k).getD 0 / 3)) = a; rw [h]
theorem pIt_s {n a k o : Nat} (h : ps a = some k) (ho : ot k = some o) : pIt ot ps (n + 1) a = pIt ot ps n (o / 3) := by
  show (match ps a with | none => a | some k => pIt ot ps n ((ot k).getD 0 / 3)) = _
  rw [h]
  show pIt ot ps n ((ot k).getD 0 / 3) = _
  rw [ho]; rfl
theorem TI.up (T : TI ot ps rd bus v op pa R) (K : Cab ot bus) : ∀ n a, a < 12 → bus a = v → 11 ≤ rkk ps rd bus v R a + n → ps (pIt ot ps n a) = none ∧ bus (pIt ot ps n a) = v ∧ pIt ot ps n a < 12 ∧ pIt ot ps (n + 1) a = pIt ot ps n a := by
  intro n
  induction n with
  | zero =>
    intro a ha hb h
    have e : ps a = none := by
      cases e : ps a with
      | none => rfl
      | some k =>
        obtain ⟨h1, o, ho, _⟩ := T.p1 a k ha hb e
        have hk := K.k36 k o ho
        have ho36 := K.t36 k o hk ho
        have h2 := T.edge K ha hb e ho
        have h3 := rkk_12 (ps := ps) (rd := rd) (bus := bus) (v := v) (R := R) (o / 3) (by omega)
        omega
    exact ⟨e, hb, ha, pIt_n e⟩
  | succ n ih =>
    intro a ha hb h
    cases e : ps a with
    | none => rw [pIt_n e, pIt_n e]; exact ⟨e, hb, ha, rfl⟩
    | some k =>
      obtain ⟨h1, o, ho, _⟩ := T.p1 a k ha hb e
      have hk := K.k36 k o ho
      have ho36 := K.t36 k o hk ho
      have h2 := T.edge K ha hb e ho
      rw [pIt_s e ho, pIt_s e ho]
      exact ih (o / 3) (by omega) (by rw [← K.bs k o hk ho, h1]; exact hb) (by omega)
/-- one node of the bus has no parent, and only one -/
theorem TI.top (T : TI ot ps rd bus v op pa R) (K : Cab ot bus) {b0 : Nat} (hb0 : b0 < 12) (hv : bus b0 = v) (hbus : ∀ a, a < 12 → bus a = v → itP ot 11 a = b0) (hcl : ∀ k, k < 36 → bus (k / 3) = v → op k = 0) : ∃ top, top < 12 ∧ bus top = v ∧ ps top = none ∧ ∀ a, a < 12 → bus a = v → ps a = none → a = top := by
  have hT := T.up K 12 b0 hb0 hv (by omega)
  refine ⟨pIt ot ps 12 b0, hT.2.2.1, hT.2.1, hT.1, fun a ha hb h => ?_⟩
  have hc : ∀ k t, k < 36 → ot k = some t → (if bus (k / 3) = v then pIt ot ps 12 (k / 3) else 0) = (if bus (t / 3) = v then pIt ot ps 12 (t / 3) else 0) := by
    intro k t hk ho
    have ht := K.t36 k t hk ho
    have hs := K.sy k t hk ho
    rw [← K.bs k t hk ho]
    by_cases e : bus (k / 3) = v
    · have e' : bus (t / 3) = v := by rw [← K.bs k t hk ho]; exact e
      rw [if_pos e, if_pos e]
      rcases T.c1 k t hk e ho (hcl k hk e) with q | q
      · rw [pIt_s (n := 11) q ho, (T.up K 11 (t / 3) (by omega) e' (by omega)).2.2.2]
      · rw [pIt_s (n := 11) (a := t / 3) q hs, (T.up K 11 (k / 3) (by omega) e (by omega)).2.2.2]
    · rw [if_neg e, if_neg e]
  have h1 := itP_inv (f := fun a => if bus a = v then pIt ot ps 12 a else 0) hc 11 a
  rw [hbus a ha hb] at h1
  rw [if_pos hb, if_pos hv, pIt_n h] at h1
  exact h1
end Tr
def paF (f : Nat → Int32) (a : Nat) : Option Nat := if f a = -1 then none else some (cl (f a))
theorem paF_n {f : Nat → Int32} {a : Nat} (h : f a = -1) : paF f a = none := if_pos h
theorem paF_s {f : Nat → Int32} {a b : Nat} (hb : b < 2 ^ 31) (h : f a = nI b) : paF f a = some b := by
  unfold paF
  rw [h, if_neg (nI_m1 hb), cl_nI hb]
theorem lst_u {P : Nat → Bool} {t : Nat} : ∀ {k : Nat}, t < k → P t = true → (∀ i, i < k → P i = true → i = t) → lstT P k = some t := by
  intro k
  induction k with
  | zero => intro h; omega
  | succ k ih =>
    intro h1 h2 h3
    cases e : P k with
    | true => rw [lst_1 e, h3 k (by omega) e]
    | false =>
      rw [lst_0 e]
      refine ih ?_ h2 (fun i hi => h3 i (by omega))
      rcases Nat.lt_or_ge t k with z | z
      · exact z
      · rw [show k = t by omega, h2] at e; cases e
theorem TI.ok {ot ps : Nat → Option Nat} {rd : Nat → Nat} {v : Int32} {R : Nat} {y : Nat → Nat → Int32} (T : TI ot ps rd (y 18) v (y 2) (y 14) R) (K : Cab ot (y 18)) {b0 : Nat} (hb0 : b0 < 12) (hv : y 18 b0 = v) (hbus : ∀ a, a < 12 → y 18 a = v → itP ot 11 a = b0) (hcl : ∀ k, k < 36 → y 18 (k / 3) = v → y 2 k = 0) (hpa : ∀ a, a < 12 → ∃ q : Option Nat, y 14 a = oi q ∧ ∀ b, q = some b → b < 12) : TrOK ot y v := by
  obtain ⟨top, t1, t2, t3, t4⟩ := T.top K hb0 hv hbus hcl
  have m1 := T.p0 top t1 t2 t3
  have hpar : ∀ a, a < 12 → y 18 a = v → ps a = none → y 14 a = -1 := T.p0
  have hsome : ∀ a k, a < 12 → y 18 a = v → ps a = some k → ∃ o, ot k = some o ∧ k / 3 = a ∧ k < 36 ∧ o < 36 ∧ ot o = some k ∧ y 18 (o / 3) = v ∧ y 14 a = nI (o / 3) := by
    intro a k ha hb h
    obtain ⟨h1, o, ho, h2⟩ := T.p1 a k ha hb h
    have hk := K.k36 k o ho
    exact ⟨o, ho, h1, hk, K.t36 k o hk ho, K.sy k o hk ho, by rw [← K.bs k o hk ho, h1]; exact hb, h2⟩
  refine ⟨top, paF (y 14), rkk ps rd (y 18) v R, t2, ?_, ?_, t1, paF_n m1, rkk_12 top t1, ?_, ?_⟩
  · refine lst_u t1 (decide_eq_true ⟨t2, by rw [m1]; decide⟩) (fun i hi h => ?_)
    have h1 := of_decide_eq_true h
    refine t4 i hi h1.1 ?_
    cases e : ps i with
    | none => rfl
    | some k =>
      obtain ⟨o, _, _, _, h36, _, _, h2⟩ := hsome i k hi h1.1 e
      exact absurd (h2 ▸ h1.2) (nI_lt0 (by omega))
  · intro a ha
    obtain ⟨q, e1, e2⟩ := hpa a ha
    cases q with
    | none => rw [paF_n e1]; exact e1
    | some b => rw [paF_s (b := b) (by have := e2 b rfl; omega) e1]; exact e1
  · intro a b ha hb h
    cases e : ps a with
    | none => rw [paF_n (hpar a ha hb e)] at h; cases h
    | some k =>
      obtain ⟨o, ho, h1, h2, h3, h4, h5, h6⟩ := hsome a k ha hb e
      rw [paF_s (by omega) h6] at h
      cases h
      refine ⟨by omega, o % 3, by omega, k, ?_, h1⟩
      rw [show 3 * (o / 3) + o % 3 = o by omega]
      exact h4
  · intro c0 a hc0 ha hba h14 pp t hpp hot htc
    have hb36 : 3 * a + pp < 36 := by omega
    have hbt : y 18 c0 = v := by
      have h1 := K.bs _ _ hb36 hot
      rw [show (3 * a + pp) / 3 = a by omega, htc] at h1
      rw [← h1]; exact hba
    cases e : ps c0 with
    | none => rw [hpar c0 hc0 hbt e] at h14; exact absurd h14.symm (nI_m1 (by omega))
    | some k =>
      obtain ⟨o, ho, h1, h2, h3, h4, h5, h6⟩ := hsome c0 k hc0 hbt e
      have hoa : o / 3 = a := by
        rw [h6, nI_eq (by omega) (by omega)] at h14
        exact h14
      have uniq : ∀ p' t', p' < 3 → ot (3 * a + p') = some t' → t' / 3 = c0 → 3 * a + p' = o := by
        intro p' t' hp' ho' ht'
        have hp36 : 3 * a + p' < 36 := by omega
        have hs' := K.sy _ _ hp36 ho'
        refine Classical.byContradiction (fun hne => ?_)
        rcases T.c1 _ _ hp36 (by rw [show (3 * a + p') / 3 = a by omega]; exact hba) ho' (hcl _ hp36 (by rw [show (3 * a + p') / 3 = a by omega]; exact hba)) with q | q
        · rw [show (3 * a + p') / 3 = a by omega] at q
          have g1 := (T.d1 a _ ha hba q o k hoa (fun z => hne z.symm) h4).2
          have g2 := (T.d1 c0 k hc0 hbt e t' (3 * a + p') ht' (fun z => hne (by rw [z, ho] at hs'; exact (Option.some.inj hs').symm)) hs').2
          rw [h1] at g1
          rw [show (3 * a + p') / 3 = a by omega] at g2
          omega
        · rw [ht', e] at q
          cases q
          rw [ho] at hs'
          exact hne (Option.some.inj hs').symm
      refine ⟨hbt, ?_, paF_s (by omega) h14, fun p' t' hp' ho' ht' => ?_⟩
      · have g := T.edge K hc0 hbt e ho
        rw [hoa] at g
        exact g
      · have g1 := uniq p' t' hp' ho' ht'
        have g2 := uniq pp t hpp hot htc
        omega
