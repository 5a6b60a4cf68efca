section Cls0
variable {A : Nat → ClassId} {b : Nat} {z : Nat → Nat → Int32} {r : Nat → Nat → Option Nat} {S : Nat → Bool} {q : Nat → Nat → Int32} {h : Hp}
/-- the requests: at the addresses of S, their fields by number -/
def rfs (f : Nat → Int32) : List Value := [.int (f 0), .int (f 1), .int (f 2), .int (f 3), .int (f 4), .int (f 5), .int (f 6), .int (f 7), .int (f 8), .int (f 9)]
def RH (S : Nat → Bool) (q : Nat → Nat → Int32) (h : Hp) : Hp := fun a => if S a = true then some (oc 2 (rfs (q a))) else h a
theorem rh_in {a : Nat} (ha : S a = true) : RH S q h a = some (oc 2 (rfs (q a))) := if_pos ha
theorem rh_out {a : Nat} (ha : ¬ S a = true) : RH S q h a = h a := if_neg ha
/-- the rows of references hold requests alone; no request lies in the class's cells -/
def RV (b : Nat) (r : Nat → Nat → Option Nat) (S : Nat → Bool) : Prop := (∀ k j a, r k j = some a → S a = true) ∧ ∀ a, S a = true → a < b ∨ b + 67 < a
theorem ch_rq {a : Nat} (hS : ∀ a, S a = true → a < b ∨ b + 67 < a) (ha : S a = true) : CH A b z r (RH S q h) a = some (oc 2 (rfs (q a))) := by rw [ch_out (hS a ha), rh_in ha]
theorem cs_rq {a k : Nat} {v : Int32} (hk : ∀ f : Nat → Int32, (rfs f).set k (.int v) = rfs (upd f k v)) (hS : ∀ a, S a = true → a < b ∨ b + 67 < a) (ha : S a = true) : hs (CH A b z r (RH S q h)) a (oc 2 ((rfs (q a)).set k (.int v))) = CH A b z r (RH S (ur q a (upd (q a) k v)) h) := by
  rw [ch_hs (hS a ha), hk]
  congr 1
  funext i
  by_cases e : i = a
  · rw [e, hs_eq, rh_in ha, ur_eq]
  · rw [hs_ne e]
    unfold RH
    rw [ur_ne e]
theorem cs_r0 {a : Nat} {v : Int32} (hS : ∀ a, S a = true → a < b ∨ b + 67 < a) (ha : S a = true) : hs (CH A b z r (RH S q h)) a (oc 2 ((rfs (q a)).set 0 (.int v))) = CH A b z r (RH S (ur q a (upd (q a) 0 v)) h) := cs_rq (fun f => rfl) hS ha
theorem cs_r1 {a : Nat} {v : Int32} (hS : ∀ a, S a = true → a < b ∨ b + 67 < a) (ha : S a = true) : hs (CH A b z r (RH S q h)) a (oc 2 ((rfs (q a)).set 1 (.int v))) = CH A b z r (RH S (ur q a (upd (q a) 1 v)) h) := cs_rq (fun f => rfl) hS ha
theorem cs_r2 {a : Nat} {v : Int32} (hS : ∀ a, S a = true → a < b ∨ b + 67 < a) (ha : S a = true) : hs (CH A b z r (RH S q h)) a (oc 2 ((rfs (q a)).set 2 (.int v))) = CH A b z r (RH S (ur q a (upd (q a) 2 v)) h) := cs_rq (fun f => rfl) hS ha
theorem cs_r3 {a : Nat} {v : Int32} (hS : ∀ a, S a = true → a < b ∨ b + 67 < a) (ha : S a = true) : hs (CH A b z r (RH S q h)) a (oc 2 ((rfs (q a)).set 3 (.int v))) = CH A b z r (RH S (ur q a (upd (q a) 3 v)) h) := cs_rq (fun f => rfl) hS ha
theorem cs_r4 {a : Nat} {v : Int32} (hS : ∀ a, S a = true → a < b ∨ b + 67 < a) (ha : S a = true) : hs (CH A b z r (RH S q h)) a (oc 2 ((rfs (q a)).set 4 (.int v))) = CH A b z r (RH S (ur q a (upd (q a) 4 v)) h) := cs_rq (fun f => rfl) hS ha
theorem cs_r5 {a : Nat} {v : Int32} (hS : ∀ a, S a = true → a < b ∨ b + 67 < a) (ha : S a = true) : hs (CH A b z r (RH S q h)) a (oc 2 ((rfs (q a)).set 5 (.int v))) = CH A b z r (RH S (ur q a (upd (q a) 5 v)) h) := cs_rq (fun f => rfl) hS ha
theorem cs_r6 {a : Nat} {v : Int32} (hS : ∀ a, S a = true → a < b ∨ b + 67 < a) (ha : S a = true) : hs (CH A b z r (RH S q h)) a (oc 2 ((rfs (q a)).set 6 (.int v))) = CH A b z r (RH S (ur q a (upd (q a) 6 v)) h) := cs_rq (fun f => rfl) hS ha
theorem cs_r7 {a : Nat} {v : Int32} (hS : ∀ a, S a = true → a < b ∨ b + 67 < a) (ha : S a = true) : hs (CH A b z r (RH S q h)) a (oc 2 ((rfs (q a)).set 7 (.int v))) = CH A b z r (RH S (ur q a (upd (q a) 7 v)) h) := cs_rq (fun f => rfl) hS ha
theorem cs_r8 {a : Nat} {v : Int32} (hS : ∀ a, S a = true → a < b ∨ b + 67 < a) (ha : S a = true) : hs (CH A b z r (RH S q h)) a (oc 2 ((rfs (q a)).set 8 (.int v))) = CH A b z r (RH S (ur q a (upd (q a) 8 v)) h) := cs_rq (fun f => rfl) hS ha
theorem cs_r9 {a : Nat} {v : Int32} (hS : ∀ a, S a = true → a < b ∨ b + 67 < a) (ha : S a = true) : hs (CH A b z r (RH S q h)) a (oc 2 ((rfs (q a)).set 9 (.int v))) = CH A b z r (RH S (ur q a (upd (q a) 9 v)) h) := cs_rq (fun f => rfl) hS ha
theorem RV.up {k j : Nat} {v : Option Nat} (hv : RV b r S) (ha : ∀ a, v = some a → S a = true) : RV b (ur r k (va_up (r k) j v)) S := by
  refine ⟨fun k' j' a' e => ?_, hv.2⟩
  by_cases e1 : k' = k
  · rw [e1, ur_eq] at e
    unfold va_up at e
    split at e
    · exact ha a' e
    · exact hv.1 _ _ _ e
  · rw [ur_ne e1] at e
    exact hv.1 _ _ _ e
variable {p : Program} {l : Launch} {e : Env} {R : Room} {s : State} {m : MethodId} {args : Array Value} {below : List Frame} {meth : Method} {c : Code} {Q : State → Prop} {D : va_G} {G : Heap} {cc : ByteArray} {nL : Nat} {own : String} {bc bs : Nat} {n : Nat} {lo : List (Nat × Value)} {pc : Nat} {st : List Value}
theorem r_nald (C : Cx p l s m args meth c D A G cc nL own) {i : Nat} (d : decode cc pc = .ok (.aaload, 1)) (hi : i < 12) (K : Rw p l e R s m args below meth c Q D G nL bc bs (CH A b z r h) n lo (pc + 1) (.ref (b + 8 + 5 * i) :: st)) : Rw p l e R s m args below meth c Q D G nL bc bs (CH A b z r h) n lo pc (.int (nI i) :: .ref (b + 7) :: st) := r_aaldN C d ch_nodes rfl hi (by decide) K
/-- a reference or null stored in a row of references to requests -/
theorem r_aastQ (C : Cx p l s m args meth c D A G cc nL own) {h : Hp} {a k i : Nat} {f : Nat → Option Nat} {v : Option Nat} (d : decode cc pc = .ok (.aastore, 1)) (hh : h a = some (rc A 4 k f)) (hb : ∀ b', v = some b' → ∃ vs, h b' = some (.inr (2, vs))) (hi : i < k) (hk : k < 2 ^ 31) (K : Rw p l e R s m args below meth c Q D G nL bc bs (hs h a (rc A 4 k (va_up f i v))) n lo (pc + 1) st) : Rw p l e R s m args below meth c Q D G nL bc bs h n lo pc (va_rf v :: .int (nI i) :: .ref a :: st) := by
  cases v with
  | none => exact r_aastN C d hh rfl rfl hi hk K
  | some b' =>
    obtain ⟨vs, e1⟩ := hb b' rfl
    exact r_aast C d hh rfl e1 rfl rfl hi hk K
end Cls0
