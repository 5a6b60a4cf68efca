/-! the class's round: by nodes -/
def cCon (z : Nat → Nat → Int32) (k o : Nat) : Nat → Nat → Int32 := if (mNB z (k / 3)).1 = (mNB (mNB z (k / 3)).2 (o / 3)).1 then (mNB (mNB z (k / 3)).2 (o / 3)).2 else if (mNB z (k / 3)).1 = nI 1 then gClose 33 (mNB (mNB z (k / 3)).2 (o / 3)).2 o k else gClose 33 (mNB (mNB z (k / 3)).2 (o / 3)).2 k o
def cCl1 (ot as : Nat → Option Nat) (z : Nat → Nat → Int32) (m : Nat) : Nat → Nat → Int32 := match as m with
  | none => z
  | some k => match ot k with
    | none => z
    | some o => if as (o / 3) = some o then (if m < o / 3 then cCon z k o else z) else gClose 33 z k o
def cCl (ot as : Nat → Option Nat) (z : Nat → Nat → Int32) : Nat → (Nat → Nat → Int32)
  | 0 => z
  | m + 1 => cCl1 ot as (cCl ot as z m) m
def PC (ot as : Nat → Option Nat) (m a : Nat) : Bool := match as a with
  | none => false
  | some k => match ot k with
    | none => false
    | some o => decide (a < m ∨ (as (o / 3) = some o ∧ o / 3 < m))
theorem PC_n {ot as : Nat → Option Nat} {m a : Nat} (h : as a = none) : PC ot as m a = false := by
  unfold PC
  rw [h]
theorem PC_n2 {ot as : Nat → Option Nat} {m a k : Nat} (h : as a = some k) (ho : ot k = none) : PC ot as m a = false := by
  unfold PC
  rw [h]
  dsimp only
  rw [ho]
theorem PC_k {ot as : Nat → Option Nat} {m a k o : Nat} (h : as a = some k) (ho : ot k = some o) : PC ot as m a = decide (a < m ∨ (as (o / 3) = some o ∧ o / 3 < m)) := by
  unfold PC
  rw [h]
  dsimp only
  rw [ho]
section RdC
variable {ot as : Nat → Option Nat} {z : Nat → Nat → Int32} {v : Int32} {op bus : Nat → Int32}
theorem PC_ne (H : RdH ot as op bus v) {m a : Nat} (hm : a ≠ m) (h : ∀ k o, as m = some k → ot k = some o → as (o / 3) = some o → o / 3 ≠ a) : PC ot as (m + 1) a = PC ot as m a := by
  cases e : as a with
  | none => rw [PC_n e, PC_n e]
  | some k =>
    cases eo : ot k with
    | none => rw [PC_n2 e eo, PC_n2 e eo]
    | some o =>
      rw [PC_k e eo, PC_k e eo]
      have h0 := H.a0 a k e
      refine decide_eq_decide.mpr ⟨fun q => ?_, fun q => q.elim (fun q => Or.inl (by omega)) (fun q => Or.inr ⟨q.1, by have := q.2; omega⟩)⟩
      rcases q with q | ⟨q1, q2⟩
      · left; omega
      · by_cases e3 : o / 3 = m
        · have h1 := h o k (e3 ▸ q1) (H.sy k o h0.2.1 eo) (by rw [h0.1]; exact e)
          exact absurd h0.1 h1
        · right; exact ⟨q1, by omega⟩
theorem rd_C (H : RdH ot as op bus v) : ∀ m, m ≤ 12 → cCl ot as z m = pwX 33 ot z (rs (PC ot as m) (wS ot as (fun a => (mNB z a).1))) (cs (PC ot as m) (cC ot as)) := by
  intro m
  induction m with
  | zero =>
    intro _
    refine (pwX_0 (by decide) (by decide) (fun a => ?_)).symm
    cases e : as a with
    | none => exact PC_n e
    | some k =>
      cases eo : ot k with
      | none => exact PC_n2 e eo
      | some o => rw [PC_k e eo]; exact decide_eq_false (by omega)
  | succ m ih =>
    intro hm
    show cCl1 ot as (cCl ot as z m) m = _
    rw [ih (by omega)]
    unfold cCl1
    cases e : as m with
    | none =>
      have hq : PC ot as (m + 1) = PC ot as m := by
        funext a
        by_cases ea : a = m
        · rw [ea, PC_n e, PC_n e]
        · exact PC_ne H ea (fun k o h => by rw [e] at h; cases h)
      rw [hq]
    | some k =>
      dsimp only
      have h0 := H.a0 m k e
      have ek : as (k / 3) = some k := by rw [h0.1]; exact e
      cases eo : ot k with
      | none =>
        have hq : PC ot as (m + 1) = PC ot as m := by
          funext a
          by_cases ea : a = m
          · rw [ea, PC_n2 e eo, PC_n2 e eo]
          · exact PC_ne H ea (fun k' o h ho => by rw [e] at h; cases h; rw [eo] at ho; cases ho)
        rw [hq]
      | some o =>
        dsimp only
        have hs := H.sy k o h0.2.1 eo
        have hne := H.ne k o h0.2.1 eo
        by_cases ha : as (o / 3) = some o
        · rw [if_pos ha]
          by_cases hlt : m < o / 3
          · rw [if_pos hlt]
            have hP : PC ot as m (k / 3) = false := by rw [PC_k ek eo]; exact decide_eq_false (by omega)
            have hP2 : PC ot as m (o / 3) = false := by rw [PC_k ha hs]; exact decide_eq_false (by omega)
            unfold cCon
            rw [rd_s2 (by decide) (by decide) (by decide) hne ek eo hs (H.inj hs) (H.inj eo) ha hP hP2]
            have hq : PC ot as (m + 1) = ad (ad (PC ot as m) (k / 3)) (o / 3) := by
              funext a
              by_cases e1 : a = o / 3
              · rw [e1, ad_eq, PC_k ha hs]
                exact decide_eq_true (Or.inr ⟨ek, by omega⟩)
              · rw [ad_ne e1]
                by_cases e2 : a = k / 3
                · rw [e2, ad_eq, PC_k ek eo]
                  exact decide_eq_true (Or.inl (by omega))
                · rw [ad_ne e2]
                  refine PC_ne H (by omega) (fun k' o' h ho _ => ?_)
                  rw [e] at h
                  cases h
                  rw [eo] at ho
                  cases ho
                  exact fun q => e1 q.symm
            rw [hq]
          · rw [if_neg hlt]
            have hq : PC ot as (m + 1) = PC ot as m := by
              funext a
              by_cases e1 : a = o / 3
              · rw [e1, PC_k ha hs, PC_k ha hs]
                rw [decide_eq_true (Or.inl (by omega)), decide_eq_true (Or.inl (by omega))]
              · by_cases e2 : a = k / 3
                · rw [e2, PC_k ek eo, PC_k ek eo]
                  rw [decide_eq_true (Or.inl (by omega)), decide_eq_true (Or.inr ⟨ha, by omega⟩)]
                · refine PC_ne H (by omega) (fun k' o' h ho _ => ?_)
                  rw [e] at h
                  cases h
                  rw [eo] at ho
                  cases ho
                  exact fun q => e1 q.symm
            rw [hq]
        · rw [if_neg ha]
          have hP : PC ot as m (k / 3) = false := by
            rw [PC_k ek eo]
            refine decide_eq_false (fun q => ?_)
            rcases q with q | q
            · omega
            · exact ha q.1
          rw [rd_s1 (by decide) (by decide) ek eo hs (H.inj hs) ha hP]
          have hq : PC ot as (m + 1) = ad (PC ot as m) (k / 3) := by
            funext a
            by_cases e2 : a = k / 3
            · rw [e2, ad_eq, PC_k ek eo]
              exact decide_eq_true (Or.inl (by omega))
            · rw [ad_ne e2]
              refine PC_ne H (by omega) (fun k' o' h ho q => ?_)
              rw [e] at h
              cases h
              rw [eo] at ho
              cases ho
              exact absurd q ha
          rw [hq]
theorem rd_C12 (H : RdH ot as op bus v) : cCl ot as z 12 = pwX 33 ot z (wS ot as (fun a => (mNB z a).1)) (cC ot as) := by
  rw [rd_C H 12 (Nat.le_refl _)]
  have h := PM_36 (ot := ot) (as := as) (x := z) (PC ot as 12) (fun a e => by
    cases ea : as a with
    | none => exact Or.inl rfl
    | some k =>
      right
      refine ⟨k, rfl, ?_⟩
      cases eo : ot k with
      | none => rfl
      | some o =>
        rw [PC_k ea eo] at e
        have h0 := H.a0 a k ea
        exact absurd (Or.inl (by omega)) (of_decide_eq_false e))
  rw [h.1, h.2]
end RdC
