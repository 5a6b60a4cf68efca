section St
variable {A : Nat → ClassId} {m b : Nat} {x z : Nat → Nat → Int32} {r : Nat → Nat → Option Nat} {h : Hp}
/-- a row of a table of rows, set -/
def ur {α : Type} (x : Nat → α) (k : Nat) (f : α) : Nat → α := fun j => if j = k then f else x j
theorem ur_eq {α : Type} (x : Nat → α) (k : Nat) (f : α) : ur x k f k = f := if_pos rfl
theorem ur_ne {α : Type} {x : Nat → α} {k j : Nat} {f : α} (q : j ≠ k) : ur x k f j = x j := if_neg q
theorem ur_ur {α : Type} (x : Nat → α) (k : Nat) (f g : α) : ur (ur x k f) k g = ur x k g := by
  funext j
  by_cases q : j = k
  · rw [q, ur_eq, ur_eq]
  · rw [ur_ne q, ur_ne q, ur_ne q]
theorem ur_self {α : Type} (x : Nat → α) (k : Nat) : ur x k (x k) = x := by
  funext j
  by_cases q : j = k
  · rw [q, ur_eq]
  · rw [ur_ne q]
theorem ur_comm {α : Type} (x : Nat → α) {k j : Nat} (f g : α) (q : k ≠ j) : ur (ur x k f) j g = ur (ur x j g) k f := by
  funext i
  by_cases q1 : i = k
  · rw [q1, ur_ne q, ur_eq, ur_eq]
  · rw [ur_ne q1]
    by_cases q2 : i = j
    · rw [q2, ur_eq, ur_eq]
    · rw [ur_ne q2, ur_ne q2, ur_ne q1]
/-! the model (SerialBusModel) at m, its arrays behind it: row k of x is the array of field k; a scalar field k is x k 0 -/
def mfs (m : Nat) (x : Nat → Nat → Int32) : List Value := [.int (x 0 0), .ref (m + 1), .ref (m + 2), .ref (m + 3), .ref (m + 4), .ref (m + 5), .ref (m + 6), .ref (m + 7), .ref (m + 8), .ref (m + 9), .ref (m + 10), .ref (m + 11), .ref (m + 12), .ref (m + 13), .ref (m + 14), .ref (m + 15), .ref (m + 16), .ref (m + 17), .ref (m + 18), .ref (m + 19), .ref (m + 20), .ref (m + 21), .ref (m + 22), .ref (m + 23), .ref (m + 24), .ref (m + 25), .ref (m + 26), .ref (m + 27), .ref (m + 28), .int (x 29 0), .ref (m + 29), .ref (m + 30), .ref (m + 31), .ref (m + 32), .ref (m + 33), .ref (m + 34), .int (x 36 0), .int (x 37 0), .int (x 38 0), .int (x 39 0), .int (x 40 0), .int (x 41 0)]
def mcl (A : Nat → ClassId) (j : Nat) (f : Nat → Int32) : va_E := match j with
  | 1 => ic A 36 f
  | 2 => zc A 36 f
  | 3 => ic A 12 f
  | 4 => ic A 12 f
  | 5 => ic A 12 f
  | 6 => ic A 12 f
  | 7 => ic A 12 f
  | 8 => zc A 12 f
  | 9 => zc A 12 f
  | 10 => zc A 12 f
  | 11 => zc A 12 f
  | 12 => zc A 12 f
  | 13 => ic A 96 f
  | 14 => ic A 12 f
  | 15 => ic A 12 f
  | 16 => ic A 12 f
  | 17 => ic A 12 f
  | 18 => ic A 12 f
  | 19 => zc A 12 f
  | 20 => ic A 48 f
  | 21 => ic A 48 f
  | 22 => ic A 48 f
  | 23 => ic A 48 f
  | 24 => ic A 48 f
  | 25 => ic A 48 f
  | 26 => ic A 48 f
  | 27 => ic A 48 f
  | 28 => ic A 48 f
  | 29 => ic A 72 f
  | 30 => ic A 72 f
  | 31 => ic A 72 f
  | 32 => ic A 72 f
  | 33 => zc A 72 f
  | _ => ic A 12 f
def mfo (j : Nat) : Nat := if j ≤ 28 then j else j + 1
/-- the heap h, with the model of state x at m -/
def MH (A : Nat → ClassId) (m : Nat) (x : Nat → Nat → Int32) (h : Hp) : Hp := fun a => if a < m ∨ m + 34 < a then h a else if a = m then some (oc 6 (mfs m x)) else some (mcl A (a - m) (x (mfo (a - m))))
theorem mh_0 : MH A m x h m = some (oc 6 (mfs m x)) := by
  unfold MH
  rw [if_neg (by omega), if_pos rfl]
theorem mh_out {a : Nat} (q : a < m ∨ m + 34 < a) : MH A m x h a = h a := if_pos q
theorem mh_in {j : Nat} (q : 1 ≤ j ∧ j ≤ 34) : MH A m x h (m + j) = some (mcl A j (x (mfo j))) := by
  unfold MH
  rw [if_neg (by omega), if_neg (by omega), Nat.add_sub_cancel_left]
theorem ms_in {j : Nat} {f : Nat → Int32} (q : 1 ≤ j ∧ j ≤ 34) (hk : mfs m (ur x (mfo j) f) = mfs m x) : hs (MH A m x h) (m + j) (mcl A j f) = MH A m (ur x (mfo j) f) h := by
  funext a
  by_cases e1 : a = m + j
  · rw [e1, hs_eq, mh_in q, ur_eq]
  · rw [hs_ne e1]
    unfold MH
    by_cases e2 : a < m ∨ m + 34 < a
    · rw [if_pos e2, if_pos e2]
    · rw [if_neg e2, if_neg e2]
      by_cases e3 : a = m
      · rw [if_pos e3, if_pos e3, hk]
      · rw [if_neg e3, if_neg e3, ur_ne]
        unfold mfo
        split <;> split <;> omega
theorem mp_in {k : Nat} {v : Int32} (hk : mfs m (ur x k (fun _ => v)) = (mfs m x).set k (.int v)) (hn : ∀ j, 1 ≤ j → j ≤ 34 → mfo j ≠ k) : hs (MH A m x h) m (oc 6 ((mfs m x).set k (.int v))) = MH A m (ur x k (fun _ => v)) h := by
  funext a
  by_cases e1 : a = m
  · rw [e1, hs_eq, mh_0, hk]
  · rw [hs_ne e1]
    unfold MH
    by_cases e2 : a < m ∨ m + 34 < a
    · rw [if_pos e2, if_pos e2]
    · rw [if_neg e2, if_neg e2, if_neg e1, if_neg e1, ur_ne (hn _ (by omega) (by omega))]
theorem mh_hs {a : Nat} {c : va_E} (q : a < m ∨ m + 34 < a) : hs (MH A m x h) a c = MH A m x (hs h a c) := by
  funext i
  by_cases e1 : i = a
  · rw [e1, hs_eq, mh_out q, hs_eq]
  · rw [hs_ne e1]
    unfold MH
    by_cases e2 : i < m ∨ m + 34 < i
    · rw [if_pos e2, if_pos e2, hs_ne e1]
    · rw [if_neg e2, if_neg e2]
theorem mh_1 : MH A m x h (m + 1) = some (ic A 36 (x 1)) := mh_in (j := 1) (by decide)
theorem ms_1 {f : Nat → Int32} : hs (MH A m x h) (m + 1) (ic A 36 f) = MH A m (ur x 1 f) h := ms_in (j := 1) (by decide) rfl
theorem mh_2 : MH A m x h (m + 2) = some (zc A 36 (x 2)) := mh_in (j := 2) (by decide)
theorem ms_2 {f : Nat → Int32} : hs (MH A m x h) (m + 2) (zc A 36 f) = MH A m (ur x 2 f) h := ms_in (j := 2) (by decide) rfl
theorem mh_3 : MH A m x h (m + 3) = some (ic A 12 (x 3)) := mh_in (j := 3) (by decide)
theorem ms_3 {f : Nat → Int32} : hs (MH A m x h) (m + 3) (ic A 12 f) = MH A m (ur x 3 f) h := ms_in (j := 3) (by decide) rfl
theorem mh_4 : MH A m x h (m + 4) = some (ic A 12 (x 4)) := mh_in (j := 4) (by decide)
theorem ms_4 {f : Nat → Int32} : hs (MH A m x h) (m + 4) (ic A 12 f) = MH A m (ur x 4 f) h := ms_in (j := 4) (by decide) rfl
theorem mh_5 : MH A m x h (m + 5) = some (ic A 12 (x 5)) := mh_in (j := 5) (by decide)
theorem ms_5 {f : Nat → Int32} : hs (MH A m x h) (m + 5) (ic A 12 f) = MH A m (ur x 5 f) h := ms_in (j := 5) (by decide) rfl
theorem mh_6 : MH A m x h (m + 6) = some (ic A 12 (x 6)) := mh_in (j := 6) (by decide)
theorem ms_6 {f : Nat → Int32} : hs (MH A m x h) (m + 6) (ic A 12 f) = MH A m (ur x 6 f) h := ms_in (j := 6) (by decide) rfl
theorem mh_7 : MH A m x h (m + 7) = some (ic A 12 (x 7)) := mh_in (j := 7) (by decide)
theorem ms_7 {f : Nat → Int32} : hs (MH A m x h) (m + 7) (ic A 12 f) = MH A m (ur x 7 f) h := ms_in (j := 7) (by decide) rfl
theorem mh_8 : MH A m x h (m + 8) = some (zc A 12 (x 8)) := mh_in (j := 8) (by decide)
theorem ms_8 {f : Nat → Int32} : hs (MH A m x h) (m + 8) (zc A 12 f) = MH A m (ur x 8 f) h := ms_in (j := 8) (by decide) rfl
theorem mh_9 : MH A m x h (m + 9) = some (zc A 12 (x 9)) := mh_in (j := 9) (by decide)
theorem ms_9 {f : Nat → Int32} : hs (MH A m x h) (m + 9) (zc A 12 f) = MH A m (ur x 9 f) h := ms_in (j := 9) (by decide) rfl
theorem mh_10 : MH A m x h (m + 10) = some (zc A 12 (x 10)) := mh_in (j := 10) (by decide)
theorem ms_10 {f : Nat → Int32} : hs (MH A m x h) (m + 10) (zc A 12 f) = MH A m (ur x 10 f) h := ms_in (j := 10) (by decide) rfl
theorem mh_11 : MH A m x h (m + 11) = some (zc A 12 (x 11)) := mh_in (j := 11) (by decide)
theorem ms_11 {f : Nat → Int32} : hs (MH A m x h) (m + 11) (zc A 12 f) = MH A m (ur x 11 f) h := ms_in (j := 11) (by decide) rfl
theorem mh_12 : MH A m x h (m + 12) = some (zc A 12 (x 12)) := mh_in (j := 12) (by decide)
theorem ms_12 {f : Nat → Int32} : hs (MH A m x h) (m + 12) (zc A 12 f) = MH A m (ur x 12 f) h := ms_in (j := 12) (by decide) rfl
theorem mh_13 : MH A m x h (m + 13) = some (ic A 96 (x 13)) := mh_in (j := 13) (by decide)
theorem ms_13 {f : Nat → Int32} : hs (MH A m x h) (m + 13) (ic A 96 f) = MH A m (ur x 13 f) h := ms_in (j := 13) (by decide) rfl
theorem mh_14 : MH A m x h (m + 14) = some (ic A 12 (x 14)) := mh_in (j := 14) (by decide)
theorem ms_14 {f : Nat → Int32} : hs (MH A m x h) (m + 14) (ic A 12 f) = MH A m (ur x 14 f) h := ms_in (j := 14) (by decide) rfl
theorem mh_15 : MH A m x h (m + 15) = some (ic A 12 (x 15)) := mh_in (j := 15) (by decide)
theorem ms_15 {f : Nat → Int32} : hs (MH A m x h) (m + 15) (ic A 12 f) = MH A m (ur x 15 f) h := ms_in (j := 15) (by decide) rfl
theorem mh_16 : MH A m x h (m + 16) = some (ic A 12 (x 16)) := mh_in (j := 16) (by decide)
theorem ms_16 {f : Nat → Int32} : hs (MH A m x h) (m + 16) (ic A 12 f) = MH A m (ur x 16 f) h := ms_in (j := 16) (by decide) rfl
theorem mh_17 : MH A m x h (m + 17) = some (ic A 12 (x 17)) := mh_in (j := 17) (by decide)
theorem ms_17 {f : Nat → Int32} : hs (MH A m x h) (m + 17) (ic A 12 f) = MH A m (ur x 17 f) h := ms_in (j := 17) (by decide) rfl
theorem mh_18 : MH A m x h (m + 18) = some (ic A 12 (x 18)) := mh_in (j := 18) (by decide)
theorem ms_18 {f : Nat → Int32} : hs (MH A m x h) (m + 18) (ic A 12 f) = MH A m (ur x 18 f) h := ms_in (j := 18) (by decide) rfl
theorem mh_19 : MH A m x h (m + 19) = some (zc A 12 (x 19)) := mh_in (j := 19) (by decide)
theorem ms_19 {f : Nat → Int32} : hs (MH A m x h) (m + 19) (zc A 12 f) = MH A m (ur x 19 f) h := ms_in (j := 19) (by decide) rfl
theorem mh_20 : MH A m x h (m + 20) = some (ic A 48 (x 20)) := mh_in (j := 20) (by decide)
theorem ms_20 {f : Nat → Int32} : hs (MH A m x h) (m + 20) (ic A 48 f) = MH A m (ur x 20 f) h := ms_in (j := 20) (by decide) rfl
theorem mh_21 : MH A m x h (m + 21) = some (ic A 48 (x 21)) := mh_in (j := 21) (by decide)
theorem ms_21 {f : Nat → Int32} : hs (MH A m x h) (m + 21) (ic A 48 f) = MH A m (ur x 21 f) h := ms_in (j := 21) (by decide) rfl
theorem mh_22 : MH A m x h (m + 22) = some (ic A 48 (x 22)) := mh_in (j := 22) (by decide)
theorem ms_22 {f : Nat → Int32} : hs (MH A m x h) (m + 22) (ic A 48 f) = MH A m (ur x 22 f) h := ms_in (j := 22) (by decide) rfl
theorem mh_23 : MH A m x h (m + 23) = some (ic A 48 (x 23)) := mh_in (j := 23) (by decide)
theorem ms_23 {f : Nat → Int32} : hs (MH A m x h) (m + 23) (ic A 48 f) = MH A m (ur x 23 f) h := ms_in (j := 23) (by decide) rfl
theorem mh_24 : MH A m x h (m + 24) = some (ic A 48 (x 24)) := mh_in (j := 24) (by decide)
theorem ms_24 {f : Nat → Int32} : hs (MH A m x h) (m + 24) (ic A 48 f) = MH A m (ur x 24 f) h := ms_in (j := 24) (by decide) rfl
theorem mh_25 : MH A m x h (m + 25) = some (ic A 48 (x 25)) := mh_in (j := 25) (by decide)
theorem ms_25 {f : Nat → Int32} : hs (MH A m x h) (m + 25) (ic A 48 f) = MH A m (ur x 25 f) h := ms_in (j := 25) (by decide) rfl
theorem mh_26 : MH A m x h (m + 26) = some (ic A 48 (x 26)) := mh_in (j := 26) (by decide)
theorem ms_26 {f : Nat → Int32} : hs (MH A m x h) (m + 26) (ic A 48 f) = MH A m (ur x 26 f) h := ms_in (j := 26) (by decide) rfl
theorem mh_27 : MH A m x h (m + 27) = some (ic A 48 (x 27)) := mh_in (j := 27) (by decide)
theorem ms_27 {f : Nat → Int32} : hs (MH A m x h) (m + 27) (ic A 48 f) = MH A m (ur x 27 f) h := ms_in (j := 27) (by decide) rfl
theorem mh_28 : MH A m x h (m + 28) = some (ic A 48 (x 28)) := mh_in (j := 28) (by decide)
theorem ms_28 {f : Nat → Int32} : hs (MH A m x h) (m + 28) (ic A 48 f) = MH A m (ur x 28 f) h := ms_in (j := 28) (by decide) rfl
theorem mh_30 : MH A m x h (m + 29) = some (ic A 72 (x 30)) := mh_in (j := 29) (by decide)
theorem ms_30 {f : Nat → Int32} : hs (MH A m x h) (m + 29) (ic A 72 f) = MH A m (ur x 30 f) h := ms_in (j := 29) (by decide) rfl
theorem mh_31 : MH A m x h (m + 30) = some (ic A 72 (x 31)) := mh_in (j := 30) (by decide)
theorem ms_31 {f : Nat → Int32} : hs (MH A m x h) (m + 30) (ic A 72 f) = MH A m (ur x 31 f) h := ms_in (j := 30) (by decide) rfl
theorem mh_32 : MH A m x h (m + 31) = some (ic A 72 (x 32)) := mh_in (j := 31) (by decide)
theorem ms_32 {f : Nat → Int32} : hs (MH A m x h) (m + 31) (ic A 72 f) = MH A m (ur x 32 f) h := ms_in (j := 31) (by decide) rfl
theorem mh_33 : MH A m x h (m + 32) = some (ic A 72 (x 33)) := mh_in (j := 32) (by decide)
theorem ms_33 {f : Nat → Int32} : hs (MH A m x h) (m + 32) (ic A 72 f) = MH A m (ur x 33 f) h := ms_in (j := 32) (by decide) rfl
theorem mh_34 : MH A m x h (m + 33) = some (zc A 72 (x 34)) := mh_in (j := 33) (by decide)
theorem ms_34 {f : Nat → Int32} : hs (MH A m x h) (m + 33) (zc A 72 f) = MH A m (ur x 34 f) h := ms_in (j := 33) (by decide) rfl
theorem mh_35 : MH A m x h (m + 34) = some (ic A 12 (x 35)) := mh_in (j := 34) (by decide)
theorem ms_35 {f : Nat → Int32} : hs (MH A m x h) (m + 34) (ic A 12 f) = MH A m (ur x 35 f) h := ms_in (j := 34) (by decide) rfl
theorem mp_0 {v : Int32} : hs (MH A m x h) m (oc 6 ((mfs m x).set 0 (.int v))) = MH A m (ur x 0 (fun _ => v)) h := mp_in rfl (by intro j q1 q2; unfold mfo; split <;> omega)
theorem mp_29 {v : Int32} : hs (MH A m x h) m (oc 6 ((mfs m x).set 29 (.int v))) = MH A m (ur x 29 (fun _ => v)) h := mp_in rfl (by intro j q1 q2; unfold mfo; split <;> omega)
theorem mp_36 {v : Int32} : hs (MH A m x h) m (oc 6 ((mfs m x).set 36 (.int v))) = MH A m (ur x 36 (fun _ => v)) h := mp_in rfl (by intro j q1 q2; unfold mfo; split <;> omega)
theorem mp_37 {v : Int32} : hs (MH A m x h) m (oc 6 ((mfs m x).set 37 (.int v))) = MH A m (ur x 37 (fun _ => v)) h := mp_in rfl (by intro j q1 q2; unfold mfo; split <;> omega)
theorem mp_38 {v : Int32} : hs (MH A m x h) m (oc 6 ((mfs m x).set 38 (.int v))) = MH A m (ur x 38 (fun _ => v)) h := mp_in rfl (by intro j q1 q2; unfold mfo; split <;> omega)
theorem mp_39 {v : Int32} : hs (MH A m x h) m (oc 6 ((mfs m x).set 39 (.int v))) = MH A m (ur x 39 (fun _ => v)) h := mp_in rfl (by intro j q1 q2; unfold mfo; split <;> omega)
theorem mp_40 {v : Int32} : hs (MH A m x h) m (oc 6 ((mfs m x).set 40 (.int v))) = MH A m (ur x 40 (fun _ => v)) h := mp_in rfl (by intro j q1 q2; unfold mfo; split <;> omega)
theorem mp_41 {v : Int32} : hs (MH A m x h) m (oc 6 ((mfs m x).set 41 (.int v))) = MH A m (ur x 41 (fun _ => v)) h := mp_in rfl (by intro j q1 q2; unfold mfo; split <;> omega)
/-! the class (SerialBus) at b: wiring b+1 (far b+2, bus b+3), tree b+4 (open b+5, asked b+6), nodes b+7, node i at b+8+5i (words, queue, packets, labels behind it).
rows of z: 3..16 the nodes' int fields by node; 17 the queues' sizes by node; 30 far, 31 bus, 32 cables, 33 open, 34 asked, 35..40 the bus's own numbers; 100+i the words of node i. rows of r: i the packets of node i; 12+i its labels -/
def nfs (b i : Nat) (z : Nat → Nat → Int32) : List Value := [.ref (b + 9 + 5 * i), .ref (b + 10 + 5 * i), .ref (b + 12 + 5 * i), .int (z 3 i), .int (z 4 i), .int (z 5 i), .int (z 6 i), .int (z 7 i), .int (z 8 i), .int (z 9 i), .int (z 10 i), .int (z 11 i), .int (z 12 i), .int (z 13 i), .int (z 14 i), .int (z 15 i), .int (z 16 i)]
def ccl (A : Nat → ClassId) (b k : Nat) (z : Nat → Nat → Int32) (r : Nat → Nat → Option Nat) : va_E := match k with
  | 0 => oc 5 [.ref (b + 1), .ref (b + 4), .ref (b + 7), .int (z 35 0), .int (z 36 0), .int (z 37 0), .int (z 38 0), .int (z 39 0), .int (z 40 0)]
  | 1 => oc 4 [.ref (b + 2), .ref (b + 3), .int (z 32 0)]
  | 2 => ic A 36 (z 30)
  | 3 => ic A 12 (z 31)
  | 4 => oc 3 [.ref (b + 5), .ref (b + 6)]
  | 5 => zc A 36 (z 33)
  | 6 => ic A 12 (z 34)
  | 7 => rc A 3 12 (fun i => some (b + 8 + 5 * i))
  | k + 8 => match k % 5 with
    | 0 => oc 0 (nfs b (k / 5) z)
    | 1 => ic A 8 (z (100 + k / 5))
    | 2 => oc 1 [.ref (b + 11 + 5 * (k / 5)), .int (z 17 (k / 5))]
    | 3 => rc A 4 6 (r (k / 5))
    | _ => rc A 4 4 (r (12 + k / 5))
def CH (A : Nat → ClassId) (b : Nat) (z : Nat → Nat → Int32) (r : Nat → Nat → Option Nat) (h : Hp) : Hp := fun a => if a < b ∨ b + 67 < a then h a else some (ccl A b (a - b) z r)
theorem ch_out {a : Nat} (q : a < b ∨ b + 67 < a) : CH A b z r h a = h a := if_pos q
theorem ch_in {j : Nat} (q : j ≤ 67) : CH A b z r h (b + j) = some (ccl A b j z r) := by
  unfold CH
  rw [if_neg (by omega), Nat.add_sub_cancel_left]
theorem ch_S : CH A b z r h b = some (oc 5 [.ref (b + 1), .ref (b + 4), .ref (b + 7), .int (z 35 0), .int (z 36 0), .int (z 37 0), .int (z 38 0), .int (z 39 0), .int (z 40 0)]) := ch_in (j := 0) (by decide)
theorem ch_W : CH A b z r h (b + 1) = some (oc 4 [.ref (b + 2), .ref (b + 3), .int (z 32 0)]) := ch_in (by decide)
theorem ch_far : CH A b z r h (b + 2) = some (ic A 36 (z 30)) := ch_in (by decide)
theorem ch_bus : CH A b z r h (b + 3) = some (ic A 12 (z 31)) := ch_in (by decide)
theorem ch_T : CH A b z r h (b + 4) = some (oc 3 [.ref (b + 5), .ref (b + 6)]) := ch_in (by decide)
theorem ch_open : CH A b z r h (b + 5) = some (zc A 36 (z 33)) := ch_in (by decide)
theorem ch_ask : CH A b z r h (b + 6) = some (ic A 12 (z 34)) := ch_in (by decide)
theorem ch_nodes : CH A b z r h (b + 7) = some (rc A 3 12 (fun i => some (b + 8 + 5 * i))) := ch_in (by decide)
theorem cc_k {i t : Nat} (q : t < 5) : (5 * i + t) / 5 = i ∧ (5 * i + t) % 5 = t := by omega
theorem cc_0 {i : Nat} : ccl A b (8 + 5 * i) z r = oc 0 (nfs b i z) := by
  rw [show 8 + 5 * i = 5 * i + 8 by omega]
  show (match (5 * i) % 5 with | 0 => _ | 1 => _ | 2 => _ | 3 => _ | _ => _) = _
  rw [show 5 * i / 5 = i by omega, show 5 * i % 5 = 0 by omega]
  rfl
theorem cc_1 {i : Nat} : ccl A b (9 + 5 * i) z r = ic A 8 (z (100 + i)) := by
  rw [show 9 + 5 * i = (5 * i + 1) + 8 by omega]
  show (match (5 * i + 1) % 5 with | 0 => _ | 1 => _ | 2 => _ | 3 => _ | _ => _) = _
  rw [(cc_k (by omega)).1, (cc_k (by omega)).2]
  rfl
theorem cc_2 {i : Nat} : ccl A b (10 + 5 * i) z r = oc 1 [.ref (b + 11 + 5 * i), .int (z 17 i)] := by
  rw [show 10 + 5 * i = (5 * i + 2) + 8 by omega]
  show (match (5 * i + 2) % 5 with | 0 => _ | 1 => _ | 2 => _ | 3 => _ | _ => _) = _
  rw [(cc_k (by omega)).1, (cc_k (by omega)).2]
  rfl
theorem cc_3 {i : Nat} : ccl A b (11 + 5 * i) z r = rc A 4 6 (r i) := by
  rw [show 11 + 5 * i = (5 * i + 3) + 8 by omega]
  show (match (5 * i + 3) % 5 with | 0 => _ | 1 => _ | 2 => _ | 3 => _ | _ => _) = _
  rw [(cc_k (by omega)).1, (cc_k (by omega)).2]
  rfl
theorem cc_4 {i : Nat} : ccl A b (12 + 5 * i) z r = rc A 4 4 (r (12 + i)) := by
  rw [show 12 + 5 * i = (5 * i + 4) + 8 by omega]
  show (match (5 * i + 4) % 5 with | 0 => _ | 1 => _ | 2 => _ | 3 => _ | _ => _) = _
  rw [(cc_k (by omega)).1, (cc_k (by omega)).2]
  rfl
theorem ch_node {i : Nat} (q : i < 12) : CH A b z r h (b + 8 + 5 * i) = some (oc 0 (nfs b i z)) := by rw [Nat.add_assoc, ch_in (by omega), cc_0]
theorem ch_words {i : Nat} (q : i < 12) : CH A b z r h (b + 9 + 5 * i) = some (ic A 8 (z (100 + i))) := by rw [Nat.add_assoc, ch_in (by omega), cc_1]
theorem ch_queue {i : Nat} (q : i < 12) : CH A b z r h (b + 10 + 5 * i) = some (oc 1 [.ref (b + 11 + 5 * i), .int (z 17 i)]) := by rw [Nat.add_assoc, ch_in (by omega), cc_2]
theorem ch_packs {i : Nat} (q : i < 12) : CH A b z r h (b + 11 + 5 * i) = some (rc A 4 6 (r i)) := by rw [Nat.add_assoc, ch_in (by omega), cc_3]
theorem ch_labels {i : Nat} (q : i < 12) : CH A b z r h (b + 12 + 5 * i) = some (rc A 4 4 (r (12 + i))) := by rw [Nat.add_assoc, ch_in (by omega), cc_4]
theorem ch_hs {a : Nat} {c : va_E} (q : a < b ∨ b + 67 < a) : hs (CH A b z r h) a c = CH A b z r (hs h a c) := by
  funext i
  by_cases e1 : i = a
  · rw [e1, hs_eq, ch_out q, hs_eq]
  · rw [hs_ne e1]
    unfold CH
    by_cases e2 : i < b ∨ b + 67 < i
    · rw [if_pos e2, if_pos e2, hs_ne e1]
    · rw [if_neg e2, if_neg e2]
/-- one cell of the class set -/
theorem ch_set {j : Nat} {c : va_E} {z' : Nat → Nat → Int32} {r' : Nat → Nat → Option Nat} (q : j ≤ 67) (h1 : ccl A b j z' r' = c) (h2 : ∀ k, k ≤ 67 → k ≠ j → ccl A b k z' r' = ccl A b k z r) : hs (CH A b z r h) (b + j) c = CH A b z' r' h := by
  funext a
  by_cases e1 : a = b + j
  · rw [e1, hs_eq, ch_in q, h1]
  · rw [hs_ne e1]
    unfold CH
    by_cases e2 : a < b ∨ b + 67 < a
    · rw [if_pos e2, if_pos e2]
    · rw [if_neg e2, if_neg e2, h2 (a - b) (by omega) (by omega)]
/-- the cell kinds by their number -/
theorem cc_cases {P : Nat → Prop} (h0 : ∀ k, k < 8 → P k) (h1 : ∀ i, i < 12 → P (8 + 5 * i)) (h2 : ∀ i, i < 12 → P (9 + 5 * i)) (h3 : ∀ i, i < 12 → P (10 + 5 * i)) (h4 : ∀ i, i < 12 → P (11 + 5 * i)) (h5 : ∀ i, i < 12 → P (12 + 5 * i)) : ∀ k, k ≤ 67 → P k := by
  intro k hk
  by_cases q : k < 8
  · exact h0 k q
  · have e1 : (k - 8) % 5 = 0 ∨ (k - 8) % 5 = 1 ∨ (k - 8) % 5 = 2 ∨ (k - 8) % 5 = 3 ∨ (k - 8) % 5 = 4 := by omega
    rcases e1 with e | e | e | e | e
    · rw [show k = 8 + 5 * ((k - 8) / 5) by omega]; exact h1 _ (by omega)
    · rw [show k = 9 + 5 * ((k - 8) / 5) by omega]; exact h2 _ (by omega)
    · rw [show k = 10 + 5 * ((k - 8) / 5) by omega]; exact h3 _ (by omega)
    · rw [show k = 11 + 5 * ((k - 8) / 5) by omega]; exact h4 _ (by omega)
    · rw [show k = 12 + 5 * ((k - 8) / 5) by omega]; exact h5 _ (by omega)

theorem cs_far {f : Nat → Int32} : hs (CH A b z r h) (b + 2) (ic A 36 f) = CH A b (ur z 30 (f)) r h := by
  refine ch_set (j := 2) (by decide) rfl ?_
  refine cc_cases (P := fun k => k ≠ 2 → ccl A b k (ur z 30 (f)) r = ccl A b k z r) ?_ ?_ ?_ ?_ ?_ ?_
  · intro k hk hne
    have e8 : k = 0 ∨ k = 1 ∨ k = 2 ∨ k = 3 ∨ k = 4 ∨ k = 5 ∨ k = 6 ∨ k = 7 := by omega
    rcases e8 with rfl | rfl | rfl | rfl | rfl | rfl | rfl | rfl <;> first | rfl | exact absurd rfl hne
  · intro i hi _; rw [cc_0, cc_0]; rfl
  · intro i hi _; rw [cc_1, cc_1, ur_ne (by omega)]
  · intro i hi _; rw [cc_2, cc_2]; rfl
  · intro i hi _; rw [cc_3, cc_3]
  · intro i hi _; rw [cc_4, cc_4]
theorem cs_bus {f : Nat → Int32} : hs (CH A b z r h) (b + 3) (ic A 12 f) = CH A b (ur z 31 (f)) r h := by
  refine ch_set (j := 3) (by decide) rfl ?_
  refine cc_cases (P := fun k => k ≠ 3 → ccl A b k (ur z 31 (f)) r = ccl A b k z r) ?_ ?_ ?_ ?_ ?_ ?_
  · intro k hk hne
    have e8 : k = 0 ∨ k = 1 ∨ k = 2 ∨ k = 3 ∨ k = 4 ∨ k = 5 ∨ k = 6 ∨ k = 7 := by omega
    rcases e8 with rfl | rfl | rfl | rfl | rfl | rfl | rfl | rfl <;> first | rfl | exact absurd rfl hne
  · intro i hi _; rw [cc_0, cc_0]; rfl
  · intro i hi _; rw [cc_1, cc_1, ur_ne (by omega)]
  · intro i hi _; rw [cc_2, cc_2]; rfl
  · intro i hi _; rw [cc_3, cc_3]
  · intro i hi _; rw [cc_4, cc_4]
theorem cs_open {f : Nat → Int32} : hs (CH A b z r h) (b + 5) (zc A 36 f) = CH A b (ur z 33 (f)) r h := by
  refine ch_set (j := 5) (by decide) rfl ?_
  refine cc_cases (P := fun k => k ≠ 5 → ccl A b k (ur z 33 (f)) r = ccl A b k z r) ?_ ?_ ?_ ?_ ?_ ?_
  · intro k hk hne
    have e8 : k = 0 ∨ k = 1 ∨ k = 2 ∨ k = 3 ∨ k = 4 ∨ k = 5 ∨ k = 6 ∨ k = 7 := by omega
    rcases e8 with rfl | rfl | rfl | rfl | rfl | rfl | rfl | rfl <;> first | rfl | exact absurd rfl hne
  · intro i hi _; rw [cc_0, cc_0]; rfl
  · intro i hi _; rw [cc_1, cc_1, ur_ne (by omega)]
  · intro i hi _; rw [cc_2, cc_2]; rfl
  · intro i hi _; rw [cc_3, cc_3]
  · intro i hi _; rw [cc_4, cc_4]
theorem cs_ask {f : Nat → Int32} : hs (CH A b z r h) (b + 6) (ic A 12 f) = CH A b (ur z 34 (f)) r h := by
  refine ch_set (j := 6) (by decide) rfl ?_
  refine cc_cases (P := fun k => k ≠ 6 → ccl A b k (ur z 34 (f)) r = ccl A b k z r) ?_ ?_ ?_ ?_ ?_ ?_
  · intro k hk hne
    have e8 : k = 0 ∨ k = 1 ∨ k = 2 ∨ k = 3 ∨ k = 4 ∨ k = 5 ∨ k = 6 ∨ k = 7 := by omega
    rcases e8 with rfl | rfl | rfl | rfl | rfl | rfl | rfl | rfl <;> first | rfl | exact absurd rfl hne
  · intro i hi _; rw [cc_0, cc_0]; rfl
  · intro i hi _; rw [cc_1, cc_1, ur_ne (by omega)]
  · intro i hi _; rw [cc_2, cc_2]; rfl
  · intro i hi _; rw [cc_3, cc_3]
  · intro i hi _; rw [cc_4, cc_4]
theorem cs_cab {v : Int32} : hs (CH A b z r h) (b + 1) (oc 4 [.ref (b + 2), .ref (b + 3), .int v]) = CH A b (ur z 32 (fun _ => v)) r h := by
  refine ch_set (j := 1) (by decide) rfl ?_
  refine cc_cases (P := fun k => k ≠ 1 → ccl A b k (ur z 32 (fun _ => v)) r = ccl A b k z r) ?_ ?_ ?_ ?_ ?_ ?_
  · intro k hk hne
    have e8 : k = 0 ∨ k = 1 ∨ k = 2 ∨ k = 3 ∨ k = 4 ∨ k = 5 ∨ k = 6 ∨ k = 7 := by omega
    rcases e8 with rfl | rfl | rfl | rfl | rfl | rfl | rfl | rfl <;> first | rfl | exact absurd rfl hne
  · intro i hi _; rw [cc_0, cc_0]; rfl
  · intro i hi _; rw [cc_1, cc_1, ur_ne (by omega)]
  · intro i hi _; rw [cc_2, cc_2]; rfl
  · intro i hi _; rw [cc_3, cc_3]
  · intro i hi _; rw [cc_4, cc_4]
theorem cs_s35 {v : Int32} : hs (CH A b z r h) (b) (oc 5 [.ref (b + 1), .ref (b + 4), .ref (b + 7), .int v, .int (z 36 0), .int (z 37 0), .int (z 38 0), .int (z 39 0), .int (z 40 0)]) = CH A b (ur z 35 (fun _ => v)) r h := by
  refine ch_set (j := 0) (by decide) rfl ?_
  refine cc_cases (P := fun k => k ≠ 0 → ccl A b k (ur z 35 (fun _ => v)) r = ccl A b k z r) ?_ ?_ ?_ ?_ ?_ ?_
  · intro k hk hne
    have e8 : k = 0 ∨ k = 1 ∨ k = 2 ∨ k = 3 ∨ k = 4 ∨ k = 5 ∨ k = 6 ∨ k = 7 := by omega
    rcases e8 with rfl | rfl | rfl | rfl | rfl | rfl | rfl | rfl <;> first | rfl | exact absurd rfl hne
  · intro i hi _; rw [cc_0, cc_0]; rfl
  · intro i hi _; rw [cc_1, cc_1, ur_ne (by omega)]
  · intro i hi _; rw [cc_2, cc_2]; rfl
  · intro i hi _; rw [cc_3, cc_3]
  · intro i hi _; rw [cc_4, cc_4]
theorem cs_s36 {v : Int32} : hs (CH A b z r h) (b) (oc 5 [.ref (b + 1), .ref (b + 4), .ref (b + 7), .int (z 35 0), .int v, .int (z 37 0), .int (z 38 0), .int (z 39 0), .int (z 40 0)]) = CH A b (ur z 36 (fun _ => v)) r h := by
  refine ch_set (j := 0) (by decide) rfl ?_
  refine cc_cases (P := fun k => k ≠ 0 → ccl A b k (ur z 36 (fun _ => v)) r = ccl A b k z r) ?_ ?_ ?_ ?_ ?_ ?_
  · intro k hk hne
    have e8 : k = 0 ∨ k = 1 ∨ k = 2 ∨ k = 3 ∨ k = 4 ∨ k = 5 ∨ k = 6 ∨ k = 7 := by omega
    rcases e8 with rfl | rfl | rfl | rfl | rfl | rfl | rfl | rfl <;> first | rfl | exact absurd rfl hne
  · intro i hi _; rw [cc_0, cc_0]; rfl
  · intro i hi _; rw [cc_1, cc_1, ur_ne (by omega)]
  · intro i hi _; rw [cc_2, cc_2]; rfl
  · intro i hi _; rw [cc_3, cc_3]
  · intro i hi _; rw [cc_4, cc_4]
theorem cs_s37 {v : Int32} : hs (CH A b z r h) (b) (oc 5 [.ref (b + 1), .ref (b + 4), .ref (b + 7), .int (z 35 0), .int (z 36 0), .int v, .int (z 38 0), .int (z 39 0), .int (z 40 0)]) = CH A b (ur z 37 (fun _ => v)) r h := by
  refine ch_set (j := 0) (by decide) rfl ?_
  refine cc_cases (P := fun k => k ≠ 0 → ccl A b k (ur z 37 (fun _ => v)) r = ccl A b k z r) ?_ ?_ ?_ ?_ ?_ ?_
  · intro k hk hne
    have e8 : k = 0 ∨ k = 1 ∨ k = 2 ∨ k = 3 ∨ k = 4 ∨ k = 5 ∨ k = 6 ∨ k = 7 := by omega
    rcases e8 with rfl | rfl | rfl | rfl | rfl | rfl | rfl | rfl <;> first | rfl | exact absurd rfl hne
  · intro i hi _; rw [cc_0, cc_0]; rfl
  · intro i hi _; rw [cc_1, cc_1, ur_ne (by omega)]
  · intro i hi _; rw [cc_2, cc_2]; rfl
  · intro i hi _; rw [cc_3, cc_3]
  · intro i hi _; rw [cc_4, cc_4]
theorem cs_s38 {v : Int32} : hs (CH A b z r h) (b) (oc 5 [.ref (b + 1), .ref (b + 4), .ref (b + 7), .int (z 35 0), .int (z 36 0), .int (z 37 0), .int v, .int (z 39 0), .int (z 40 0)]) = CH A b (ur z 38 (fun _ => v)) r h := by
  refine ch_set (j := 0) (by decide) rfl ?_
  refine cc_cases (P := fun k => k ≠ 0 → ccl A b k (ur z 38 (fun _ => v)) r = ccl A b k z r) ?_ ?_ ?_ ?_ ?_ ?_
  · intro k hk hne
    have e8 : k = 0 ∨ k = 1 ∨ k = 2 ∨ k = 3 ∨ k = 4 ∨ k = 5 ∨ k = 6 ∨ k = 7 := by omega
    rcases e8 with rfl | rfl | rfl | rfl | rfl | rfl | rfl | rfl <;> first | rfl | exact absurd rfl hne
  · intro i hi _; rw [cc_0, cc_0]; rfl
  · intro i hi _; rw [cc_1, cc_1, ur_ne (by omega)]
  · intro i hi _; rw [cc_2, cc_2]; rfl
  · intro i hi _; rw [cc_3, cc_3]
  · intro i hi _; rw [cc_4, cc_4]
theorem cs_s39 {v : Int32} : hs (CH A b z r h) (b) (oc 5 [.ref (b + 1), .ref (b + 4), .ref (b + 7), .int (z 35 0), .int (z 36 0), .int (z 37 0), .int (z 38 0), .int v, .int (z 40 0)]) = CH A b (ur z 39 (fun _ => v)) r h := by
  refine ch_set (j := 0) (by decide) rfl ?_
  refine cc_cases (P := fun k => k ≠ 0 → ccl A b k (ur z 39 (fun _ => v)) r = ccl A b k z r) ?_ ?_ ?_ ?_ ?_ ?_
  · intro k hk hne
    have e8 : k = 0 ∨ k = 1 ∨ k = 2 ∨ k = 3 ∨ k = 4 ∨ k = 5 ∨ k = 6 ∨ k = 7 := by omega
    rcases e8 with rfl | rfl | rfl | rfl | rfl | rfl | rfl | rfl <;> first | rfl | exact absurd rfl hne
  · intro i hi _; rw [cc_0, cc_0]; rfl
  · intro i hi _; rw [cc_1, cc_1, ur_ne (by omega)]
  · intro i hi _; rw [cc_2, cc_2]; rfl
  · intro i hi _; rw [cc_3, cc_3]
  · intro i hi _; rw [cc_4, cc_4]
theorem cs_s40 {v : Int32} : hs (CH A b z r h) (b) (oc 5 [.ref (b + 1), .ref (b + 4), .ref (b + 7), .int (z 35 0), .int (z 36 0), .int (z 37 0), .int (z 38 0), .int (z 39 0), .int v]) = CH A b (ur z 40 (fun _ => v)) r h := by
  refine ch_set (j := 0) (by decide) rfl ?_
  refine cc_cases (P := fun k => k ≠ 0 → ccl A b k (ur z 40 (fun _ => v)) r = ccl A b k z r) ?_ ?_ ?_ ?_ ?_ ?_
  · intro k hk hne
    have e8 : k = 0 ∨ k = 1 ∨ k = 2 ∨ k = 3 ∨ k = 4 ∨ k = 5 ∨ k = 6 ∨ k = 7 := by omega
    rcases e8 with rfl | rfl | rfl | rfl | rfl | rfl | rfl | rfl <;> first | rfl | exact absurd rfl hne
  · intro i hi _; rw [cc_0, cc_0]; rfl
  · intro i hi _; rw [cc_1, cc_1, ur_ne (by omega)]
  · intro i hi _; rw [cc_2, cc_2]; rfl
  · intro i hi _; rw [cc_3, cc_3]
  · intro i hi _; rw [cc_4, cc_4]
theorem cs_n3 {i : Nat} {v : Int32} (q : i < 12) : hs (CH A b z r h) (b + 8 + 5 * i) (oc 0 ((nfs b i z).set 3 (.int v))) = CH A b (ur z 3 (upd (z 3) i v)) r h := by
  have e0 : nfs b i (ur z 3 (upd (z 3) i v)) = (nfs b i z).set 3 (.int (upd (z 3) i v i)) := rfl
  have e1 : upd (z 3) i v i = v := if_pos rfl
  rw [e1] at e0
  rw [Nat.add_assoc]
  refine ch_set (j := 8 + 5 * i) (by omega) (by rw [cc_0, e0]) ?_
  refine cc_cases (P := fun k => k ≠ 8 + 5 * i → ccl A b k (ur z 3 (upd (z 3) i v)) r = ccl A b k z r) ?_ ?_ ?_ ?_ ?_ ?_
  · intro k hk hne
    have e8 : k = 0 ∨ k = 1 ∨ k = 2 ∨ k = 3 ∨ k = 4 ∨ k = 5 ∨ k = 6 ∨ k = 7 := by omega
    rcases e8 with rfl | rfl | rfl | rfl | rfl | rfl | rfl | rfl <;> first | rfl | exact absurd rfl hne
  · intro j hj hne
    have e2 : (upd (z 3) i v) j = z 3 j := if_neg (by omega)
    have e3 : nfs b j (ur z 3 (upd (z 3) i v)) = (nfs b j z).set 3 (.int ((upd (z 3) i v) j)) := rfl
    rw [e2] at e3
    rw [cc_0, cc_0, e3]
    rfl
  · intro j hj _; rw [cc_1, cc_1, ur_ne (by omega)]
  · intro j hj _; rw [cc_2, cc_2]; rfl
  · intro j hj _; rw [cc_3, cc_3]
  · intro j hj _; rw [cc_4, cc_4]
theorem cs_n4 {i : Nat} {v : Int32} (q : i < 12) : hs (CH A b z r h) (b + 8 + 5 * i) (oc 0 ((nfs b i z).set 4 (.int v))) = CH A b (ur z 4 (upd (z 4) i v)) r h := by
  have e0 : nfs b i (ur z 4 (upd (z 4) i v)) = (nfs b i z).set 4 (.int (upd (z 4) i v i)) := rfl
  have e1 : upd (z 4) i v i = v := if_pos rfl
  rw [e1] at e0
  rw [Nat.add_assoc]
  refine ch_set (j := 8 + 5 * i) (by omega) (by rw [cc_0, e0]) ?_
  refine cc_cases (P := fun k => k ≠ 8 + 5 * i → ccl A b k (ur z 4 (upd (z 4) i v)) r = ccl A b k z r) ?_ ?_ ?_ ?_ ?_ ?_
  · intro k hk hne
    have e8 : k = 0 ∨ k = 1 ∨ k = 2 ∨ k = 3 ∨ k = 4 ∨ k = 5 ∨ k = 6 ∨ k = 7 := by omega
    rcases e8 with rfl | rfl | rfl | rfl | rfl | rfl | rfl | rfl <;> first | rfl | exact absurd rfl hne
  · intro j hj hne
    have e2 : (upd (z 4) i v) j = z 4 j := if_neg (by omega)
    have e3 : nfs b j (ur z 4 (upd (z 4) i v)) = (nfs b j z).set 4 (.int ((upd (z 4) i v) j)) := rfl
    rw [e2] at e3
    rw [cc_0, cc_0, e3]
    rfl
  · intro j hj _; rw [cc_1, cc_1, ur_ne (by omega)]
  · intro j hj _; rw [cc_2, cc_2]; rfl
  · intro j hj _; rw [cc_3, cc_3]
  · intro j hj _; rw [cc_4, cc_4]
theorem cs_n5 {i : Nat} {v : Int32} (q : i < 12) : hs (CH A b z r h) (b + 8 + 5 * i) (oc 0 ((nfs b i z).set 5 (.int v))) = CH A b (ur z 5 (upd (z 5) i v)) r h := by
  have e0 : nfs b i (ur z 5 (upd (z 5) i v)) = (nfs b i z).set 5 (.int (upd (z 5) i v i)) := rfl
  have e1 : upd (z 5) i v i = v := if_pos rfl
  rw [e1] at e0
  rw [Nat.add_assoc]
  refine ch_set (j := 8 + 5 * i) (by omega) (by rw [cc_0, e0]) ?_
  refine cc_cases (P := fun k => k ≠ 8 + 5 * i → ccl A b k (ur z 5 (upd (z 5) i v)) r = ccl A b k z r) ?_ ?_ ?_ ?_ ?_ ?_
  · intro k hk hne
    have e8 : k = 0 ∨ k = 1 ∨ k = 2 ∨ k = 3 ∨ k = 4 ∨ k = 5 ∨ k = 6 ∨ k = 7 := by omega
    rcases e8 with rfl | rfl | rfl | rfl | rfl | rfl | rfl | rfl <;> first | rfl | exact absurd rfl hne
  · intro j hj hne
    have e2 : (upd (z 5) i v) j = z 5 j := if_neg (by omega)
    have e3 : nfs b j (ur z 5 (upd (z 5) i v)) = (nfs b j z).set 5 (.int ((upd (z 5) i v) j)) := rfl
    rw [e2] at e3
    rw [cc_0, cc_0, e3]
    rfl
  · intro j hj _; rw [cc_1, cc_1, ur_ne (by omega)]
  · intro j hj _; rw [cc_2, cc_2]; rfl
  · intro j hj _; rw [cc_3, cc_3]
  · intro j hj _; rw [cc_4, cc_4]
theorem cs_n6 {i : Nat} {v : Int32} (q : i < 12) : hs (CH A b z r h) (b + 8 + 5 * i) (oc 0 ((nfs b i z).set 6 (.int v))) = CH A b (ur z 6 (upd (z 6) i v)) r h := by
  have e0 : nfs b i (ur z 6 (upd (z 6) i v)) = (nfs b i z).set 6 (.int (upd (z 6) i v i)) := rfl
  have e1 : upd (z 6) i v i = v := if_pos rfl
  rw [e1] at e0
  rw [Nat.add_assoc]
  refine ch_set (j := 8 + 5 * i) (by omega) (by rw [cc_0, e0]) ?_
  refine cc_cases (P := fun k => k ≠ 8 + 5 * i → ccl A b k (ur z 6 (upd (z 6) i v)) r = ccl A b k z r) ?_ ?_ ?_ ?_ ?_ ?_
  · intro k hk hne
    have e8 : k = 0 ∨ k = 1 ∨ k = 2 ∨ k = 3 ∨ k = 4 ∨ k = 5 ∨ k = 6 ∨ k = 7 := by omega
    rcases e8 with rfl | rfl | rfl | rfl | rfl | rfl | rfl | rfl <;> first | rfl | exact absurd rfl hne
  · intro j hj hne
    have e2 : (upd (z 6) i v) j = z 6 j := if_neg (by omega)
    have e3 : nfs b j (ur z 6 (upd (z 6) i v)) = (nfs b j z).set 6 (.int ((upd (z 6) i v) j)) := rfl
    rw [e2] at e3
    rw [cc_0, cc_0, e3]
    rfl
  · intro j hj _; rw [cc_1, cc_1, ur_ne (by omega)]
  · intro j hj _; rw [cc_2, cc_2]; rfl
  · intro j hj _; rw [cc_3, cc_3]
  · intro j hj _; rw [cc_4, cc_4]
theorem cs_n7 {i : Nat} {v : Int32} (q : i < 12) : hs (CH A b z r h) (b + 8 + 5 * i) (oc 0 ((nfs b i z).set 7 (.int v))) = CH A b (ur z 7 (upd (z 7) i v)) r h := by
  have e0 : nfs b i (ur z 7 (upd (z 7) i v)) = (nfs b i z).set 7 (.int (upd (z 7) i v i)) := rfl
  have e1 : upd (z 7) i v i = v := if_pos rfl
  rw [e1] at e0
  rw [Nat.add_assoc]
  refine ch_set (j := 8 + 5 * i) (by omega) (by rw [cc_0, e0]) ?_
  refine cc_cases (P := fun k => k ≠ 8 + 5 * i → ccl A b k (ur z 7 (upd (z 7) i v)) r = ccl A b k z r) ?_ ?_ ?_ ?_ ?_ ?_
  · intro k hk hne
    have e8 : k = 0 ∨ k = 1 ∨ k = 2 ∨ k = 3 ∨ k = 4 ∨ k = 5 ∨ k = 6 ∨ k = 7 := by omega
    rcases e8 with rfl | rfl | rfl | rfl | rfl | rfl | rfl | rfl <;> first | rfl | exact absurd rfl hne
  · intro j hj hne
    have e2 : (upd (z 7) i v) j = z 7 j := if_neg (by omega)
    have e3 : nfs b j (ur z 7 (upd (z 7) i v)) = (nfs b j z).set 7 (.int ((upd (z 7) i v) j)) := rfl
    rw [e2] at e3
    rw [cc_0, cc_0, e3]
    rfl
  · intro j hj _; rw [cc_1, cc_1, ur_ne (by omega)]
  · intro j hj _; rw [cc_2, cc_2]; rfl
  · intro j hj _; rw [cc_3, cc_3]
  · intro j hj _; rw [cc_4, cc_4]
theorem cs_n8 {i : Nat} {v : Int32} (q : i < 12) : hs (CH A b z r h) (b + 8 + 5 * i) (oc 0 ((nfs b i z).set 8 (.int v))) = CH A b (ur z 8 (upd (z 8) i v)) r h := by
  have e0 : nfs b i (ur z 8 (upd (z 8) i v)) = (nfs b i z).set 8 (.int (upd (z 8) i v i)) := rfl
  have e1 : upd (z 8) i v i = v := if_pos rfl
  rw [e1] at e0
  rw [Nat.add_assoc]
  refine ch_set (j := 8 + 5 * i) (by omega) (by rw [cc_0, e0]) ?_
  refine cc_cases (P := fun k => k ≠ 8 + 5 * i → ccl A b k (ur z 8 (upd (z 8) i v)) r = ccl A b k z r) ?_ ?_ ?_ ?_ ?_ ?_
  · intro k hk hne
    have e8 : k = 0 ∨ k = 1 ∨ k = 2 ∨ k = 3 ∨ k = 4 ∨ k = 5 ∨ k = 6 ∨ k = 7 := by omega
    rcases e8 with rfl | rfl | rfl | rfl | rfl | rfl | rfl | rfl <;> first | rfl | exact absurd rfl hne
  · intro j hj hne
    have e2 : (upd (z 8) i v) j = z 8 j := if_neg (by omega)
    have e3 : nfs b j (ur z 8 (upd (z 8) i v)) = (nfs b j z).set 8 (.int ((upd (z 8) i v) j)) := rfl
    rw [e2] at e3
    rw [cc_0, cc_0, e3]
    rfl
  · intro j hj _; rw [cc_1, cc_1, ur_ne (by omega)]
  · intro j hj _; rw [cc_2, cc_2]; rfl
  · intro j hj _; rw [cc_3, cc_3]
  · intro j hj _; rw [cc_4, cc_4]
theorem cs_n9 {i : Nat} {v : Int32} (q : i < 12) : hs (CH A b z r h) (b + 8 + 5 * i) (oc 0 ((nfs b i z).set 9 (.int v))) = CH A b (ur z 9 (upd (z 9) i v)) r h := by
  have e0 : nfs b i (ur z 9 (upd (z 9) i v)) = (nfs b i z).set 9 (.int (upd (z 9) i v i)) := rfl
  have e1 : upd (z 9) i v i = v := if_pos rfl
  rw [e1] at e0
  rw [Nat.add_assoc]
  refine ch_set (j := 8 + 5 * i) (by omega) (by rw [cc_0, e0]) ?_
  refine cc_cases (P := fun k => k ≠ 8 + 5 * i → ccl A b k (ur z 9 (upd (z 9) i v)) r = ccl A b k z r) ?_ ?_ ?_ ?_ ?_ ?_
  · intro k hk hne
    have e8 : k = 0 ∨ k = 1 ∨ k = 2 ∨ k = 3 ∨ k = 4 ∨ k = 5 ∨ k = 6 ∨ k = 7 := by omega
    rcases e8 with rfl | rfl | rfl | rfl | rfl | rfl | rfl | rfl <;> first | rfl | exact absurd rfl hne
  · intro j hj hne
    have e2 : (upd (z 9) i v) j = z 9 j := if_neg (by omega)
    have e3 : nfs b j (ur z 9 (upd (z 9) i v)) = (nfs b j z).set 9 (.int ((upd (z 9) i v) j)) := rfl
    rw [e2] at e3
    rw [cc_0, cc_0, e3]
    rfl
  · intro j hj _; rw [cc_1, cc_1, ur_ne (by omega)]
  · intro j hj _; rw [cc_2, cc_2]; rfl
  · intro j hj _; rw [cc_3, cc_3]
  · intro j hj _; rw [cc_4, cc_4]
theorem cs_n10 {i : Nat} {v : Int32} (q : i < 12) : hs (CH A b z r h) (b + 8 + 5 * i) (oc 0 ((nfs b i z).set 10 (.int v))) = CH A b (ur z 10 (upd (z 10) i v)) r h := by
  have e0 : nfs b i (ur z 10 (upd (z 10) i v)) = (nfs b i z).set 10 (.int (upd (z 10) i v i)) := rfl
  have e1 : upd (z 10) i v i = v := if_pos rfl
  rw [e1] at e0
  rw [Nat.add_assoc]
  refine ch_set (j := 8 + 5 * i) (by omega) (by rw [cc_0, e0]) ?_
  refine cc_cases (P := fun k => k ≠ 8 + 5 * i → ccl A b k (ur z 10 (upd (z 10) i v)) r = ccl A b k z r) ?_ ?_ ?_ ?_ ?_ ?_
  · intro k hk hne
    have e8 : k = 0 ∨ k = 1 ∨ k = 2 ∨ k = 3 ∨ k = 4 ∨ k = 5 ∨ k = 6 ∨ k = 7 := by omega
    rcases e8 with rfl | rfl | rfl | rfl | rfl | rfl | rfl | rfl <;> first | rfl | exact absurd rfl hne
  · intro j hj hne
    have e2 : (upd (z 10) i v) j = z 10 j := if_neg (by omega)
    have e3 : nfs b j (ur z 10 (upd (z 10) i v)) = (nfs b j z).set 10 (.int ((upd (z 10) i v) j)) := rfl
    rw [e2] at e3
    rw [cc_0, cc_0, e3]
    rfl
  · intro j hj _; rw [cc_1, cc_1, ur_ne (by omega)]
  · intro j hj _; rw [cc_2, cc_2]; rfl
  · intro j hj _; rw [cc_3, cc_3]
  · intro j hj _; rw [cc_4, cc_4]
theorem cs_n11 {i : Nat} {v : Int32} (q : i < 12) : hs (CH A b z r h) (b + 8 + 5 * i) (oc 0 ((nfs b i z).set 11 (.int v))) = CH A b (ur z 11 (upd (z 11) i v)) r h := by
  have e0 : nfs b i (ur z 11 (upd (z 11) i v)) = (nfs b i z).set 11 (.int (upd (z 11) i v i)) := rfl
  have e1 : upd (z 11) i v i = v := if_pos rfl
  rw [e1] at e0
  rw [Nat.add_assoc]
  refine ch_set (j := 8 + 5 * i) (by omega) (by rw [cc_0, e0]) ?_
  refine cc_cases (P := fun k => k ≠ 8 + 5 * i → ccl A b k (ur z 11 (upd (z 11) i v)) r = ccl A b k z r) ?_ ?_ ?_ ?_ ?_ ?_
  · intro k hk hne
    have e8 : k = 0 ∨ k = 1 ∨ k = 2 ∨ k = 3 ∨ k = 4 ∨ k = 5 ∨ k = 6 ∨ k = 7 := by omega
    rcases e8 with rfl | rfl | rfl | rfl | rfl | rfl | rfl | rfl <;> first | rfl | exact absurd rfl hne
  · intro j hj hne
    have e2 : (upd (z 11) i v) j = z 11 j := if_neg (by omega)
    have e3 : nfs b j (ur z 11 (upd (z 11) i v)) = (nfs b j z).set 11 (.int ((upd (z 11) i v) j)) := rfl
    rw [e2] at e3
    rw [cc_0, cc_0, e3]
    rfl
  · intro j hj _; rw [cc_1, cc_1, ur_ne (by omega)]
  · intro j hj _; rw [cc_2, cc_2]; rfl
  · intro j hj _; rw [cc_3, cc_3]
  · intro j hj _; rw [cc_4, cc_4]
theorem cs_n12 {i : Nat} {v : Int32} (q : i < 12) : hs (CH A b z r h) (b + 8 + 5 * i) (oc 0 ((nfs b i z).set 12 (.int v))) = CH A b (ur z 12 (upd (z 12) i v)) r h := by
  have e0 : nfs b i (ur z 12 (upd (z 12) i v)) = (nfs b i z).set 12 (.int (upd (z 12) i v i)) := rfl
  have e1 : upd (z 12) i v i = v := if_pos rfl
  rw [e1] at e0
  rw [Nat.add_assoc]
  refine ch_set (j := 8 + 5 * i) (by omega) (by rw [cc_0, e0]) ?_
  refine cc_cases (P := fun k => k ≠ 8 + 5 * i → ccl A b k (ur z 12 (upd (z 12) i v)) r = ccl A b k z r) ?_ ?_ ?_ ?_ ?_ ?_
  · intro k hk hne
    have e8 : k = 0 ∨ k = 1 ∨ k = 2 ∨ k = 3 ∨ k = 4 ∨ k = 5 ∨ k = 6 ∨ k = 7 := by omega
    rcases e8 with rfl | rfl | rfl | rfl | rfl | rfl | rfl | rfl <;> first | rfl | exact absurd rfl hne
  · intro j hj hne
    have e2 : (upd (z 12) i v) j = z 12 j := if_neg (by omega)
    have e3 : nfs b j (ur z 12 (upd (z 12) i v)) = (nfs b j z).set 12 (.int ((upd (z 12) i v) j)) := rfl
    rw [e2] at e3
    rw [cc_0, cc_0, e3]
    rfl
  · intro j hj _; rw [cc_1, cc_1, ur_ne (by omega)]
  · intro j hj _; rw [cc_2, cc_2]; rfl
  · intro j hj _; rw [cc_3, cc_3]
  · intro j hj _; rw [cc_4, cc_4]
theorem cs_n13 {i : Nat} {v : Int32} (q : i < 12) : hs (CH A b z r h) (b + 8 + 5 * i) (oc 0 ((nfs b i z).set 13 (.int v))) = CH A b (ur z 13 (upd (z 13) i v)) r h := by
  have e0 : nfs b i (ur z 13 (upd (z 13) i v)) = (nfs b i z).set 13 (.int (upd (z 13) i v i)) := rfl
  have e1 : upd (z 13) i v i = v := if_pos rfl
  rw [e1] at e0
  rw [Nat.add_assoc]
  refine ch_set (j := 8 + 5 * i) (by omega) (by rw [cc_0, e0]) ?_
  refine cc_cases (P := fun k => k ≠ 8 + 5 * i → ccl A b k (ur z 13 (upd (z 13) i v)) r = ccl A b k z r) ?_ ?_ ?_ ?_ ?_ ?_
  · intro k hk hne
    have e8 : k = 0 ∨ k = 1 ∨ k = 2 ∨ k = 3 ∨ k = 4 ∨ k = 5 ∨ k = 6 ∨ k = 7 := by omega
    rcases e8 with rfl | rfl | rfl | rfl | rfl | rfl | rfl | rfl <;> first | rfl | exact absurd rfl hne
  · intro j hj hne
    have e2 : (upd (z 13) i v) j = z 13 j := if_neg (by omega)
    have e3 : nfs b j (ur z 13 (upd (z 13) i v)) = (nfs b j z).set 13 (.int ((upd (z 13) i v) j)) := rfl
    rw [e2] at e3
    rw [cc_0, cc_0, e3]
    rfl
  · intro j hj _; rw [cc_1, cc_1, ur_ne (by omega)]
  · intro j hj _; rw [cc_2, cc_2]; rfl
  · intro j hj _; rw [cc_3, cc_3]
  · intro j hj _; rw [cc_4, cc_4]
theorem cs_n14 {i : Nat} {v : Int32} (q : i < 12) : hs (CH A b z r h) (b + 8 + 5 * i) (oc 0 ((nfs b i z).set 14 (.int v))) = CH A b (ur z 14 (upd (z 14) i v)) r h := by
  have e0 : nfs b i (ur z 14 (upd (z 14) i v)) = (nfs b i z).set 14 (.int (upd (z 14) i v i)) := rfl
  have e1 : upd (z 14) i v i = v := if_pos rfl
  rw [e1] at e0
  rw [Nat.add_assoc]
  refine ch_set (j := 8 + 5 * i) (by omega) (by rw [cc_0, e0]) ?_
  refine cc_cases (P := fun k => k ≠ 8 + 5 * i → ccl A b k (ur z 14 (upd (z 14) i v)) r = ccl A b k z r) ?_ ?_ ?_ ?_ ?_ ?_
  · intro k hk hne
    have e8 : k = 0 ∨ k = 1 ∨ k = 2 ∨ k = 3 ∨ k = 4 ∨ k = 5 ∨ k = 6 ∨ k = 7 := by omega
    rcases e8 with rfl | rfl | rfl | rfl | rfl | rfl | rfl | rfl <;> first | rfl | exact absurd rfl hne
  · intro j hj hne
    have e2 : (upd (z 14) i v) j = z 14 j := if_neg (by omega)
    have e3 : nfs b j (ur z 14 (upd (z 14) i v)) = (nfs b j z).set 14 (.int ((upd (z 14) i v) j)) := rfl
    rw [e2] at e3
    rw [cc_0, cc_0, e3]
    rfl
  · intro j hj _; rw [cc_1, cc_1, ur_ne (by omega)]
  · intro j hj _; rw [cc_2, cc_2]; rfl
  · intro j hj _; rw [cc_3, cc_3]
  · intro j hj _; rw [cc_4, cc_4]
theorem cs_n15 {i : Nat} {v : Int32} (q : i < 12) : hs (CH A b z r h) (b + 8 + 5 * i) (oc 0 ((nfs b i z).set 15 (.int v))) = CH A b (ur z 15 (upd (z 15) i v)) r h := by
  have e0 : nfs b i (ur z 15 (upd (z 15) i v)) = (nfs b i z).set 15 (.int (upd (z 15) i v i)) := rfl
  have e1 : upd (z 15) i v i = v := if_pos rfl
  rw [e1] at e0
  rw [Nat.add_assoc]
  refine ch_set (j := 8 + 5 * i) (by omega) (by rw [cc_0, e0]) ?_
  refine cc_cases (P := fun k => k ≠ 8 + 5 * i → ccl A b k (ur z 15 (upd (z 15) i v)) r = ccl A b k z r) ?_ ?_ ?_ ?_ ?_ ?_
  · intro k hk hne
    have e8 : k = 0 ∨ k = 1 ∨ k = 2 ∨ k = 3 ∨ k = 4 ∨ k = 5 ∨ k = 6 ∨ k = 7 := by omega
    rcases e8 with rfl | rfl | rfl | rfl | rfl | rfl | rfl | rfl <;> first | rfl | exact absurd rfl hne
  · intro j hj hne
    have e2 : (upd (z 15) i v) j = z 15 j := if_neg (by omega)
    have e3 : nfs b j (ur z 15 (upd (z 15) i v)) = (nfs b j z).set 15 (.int ((upd (z 15) i v) j)) := rfl
    rw [e2] at e3
    rw [cc_0, cc_0, e3]
    rfl
  · intro j hj _; rw [cc_1, cc_1, ur_ne (by omega)]
  · intro j hj _; rw [cc_2, cc_2]; rfl
  · intro j hj _; rw [cc_3, cc_3]
  · intro j hj _; rw [cc_4, cc_4]
theorem cs_n16 {i : Nat} {v : Int32} (q : i < 12) : hs (CH A b z r h) (b + 8 + 5 * i) (oc 0 ((nfs b i z).set 16 (.int v))) = CH A b (ur z 16 (upd (z 16) i v)) r h := by
  have e0 : nfs b i (ur z 16 (upd (z 16) i v)) = (nfs b i z).set 16 (.int (upd (z 16) i v i)) := rfl
  have e1 : upd (z 16) i v i = v := if_pos rfl
  rw [e1] at e0
  rw [Nat.add_assoc]
  refine ch_set (j := 8 + 5 * i) (by omega) (by rw [cc_0, e0]) ?_
  refine cc_cases (P := fun k => k ≠ 8 + 5 * i → ccl A b k (ur z 16 (upd (z 16) i v)) r = ccl A b k z r) ?_ ?_ ?_ ?_ ?_ ?_
  · intro k hk hne
    have e8 : k = 0 ∨ k = 1 ∨ k = 2 ∨ k = 3 ∨ k = 4 ∨ k = 5 ∨ k = 6 ∨ k = 7 := by omega
    rcases e8 with rfl | rfl | rfl | rfl | rfl | rfl | rfl | rfl <;> first | rfl | exact absurd rfl hne
  · intro j hj hne
    have e2 : (upd (z 16) i v) j = z 16 j := if_neg (by omega)
    have e3 : nfs b j (ur z 16 (upd (z 16) i v)) = (nfs b j z).set 16 (.int ((upd (z 16) i v) j)) := rfl
    rw [e2] at e3
    rw [cc_0, cc_0, e3]
    rfl
  · intro j hj _; rw [cc_1, cc_1, ur_ne (by omega)]
  · intro j hj _; rw [cc_2, cc_2]; rfl
  · intro j hj _; rw [cc_3, cc_3]
  · intro j hj _; rw [cc_4, cc_4]
theorem cs_qs {i : Nat} {v : Int32} (q : i < 12) : hs (CH A b z r h) (b + 10 + 5 * i) (oc 1 [.ref (b + 11 + 5 * i), .int v]) = CH A b (ur z 17 (upd (z 17) i v)) r h := by
  have e1 : upd (z 17) i v i = v := if_pos rfl
  rw [Nat.add_assoc]
  refine ch_set (j := 10 + 5 * i) (by omega) (by rw [cc_2, ur_eq, e1]) ?_
  refine cc_cases (P := fun k => k ≠ 10 + 5 * i → ccl A b k (ur z 17 (upd (z 17) i v)) r = ccl A b k z r) ?_ ?_ ?_ ?_ ?_ ?_
  · intro k hk hne
    have e8 : k = 0 ∨ k = 1 ∨ k = 2 ∨ k = 3 ∨ k = 4 ∨ k = 5 ∨ k = 6 ∨ k = 7 := by omega
    rcases e8 with rfl | rfl | rfl | rfl | rfl | rfl | rfl | rfl <;> first | rfl | exact absurd rfl hne
  · intro j hj _; rw [cc_0, cc_0]; rfl
  · intro j hj _; rw [cc_1, cc_1, ur_ne (by omega)]
  · intro j hj hne
    have e2 : (upd (z 17) i v) j = z 17 j := if_neg (by omega)
    rw [cc_2, cc_2, ur_eq, e2]
  · intro j hj _; rw [cc_3, cc_3]
  · intro j hj _; rw [cc_4, cc_4]
theorem cs_w {i : Nat} {f : Nat → Int32} (q : i < 12) : hs (CH A b z r h) (b + 9 + 5 * i) (ic A 8 f) = CH A b (ur z (100 + i) f) r h := by
  rw [Nat.add_assoc]
  refine ch_set (j := 9 + 5 * i) (by omega) (by rw [cc_1, ur_eq]) ?_
  have e9 : ∀ k, k < 100 → ur z (100 + i) f k = z k := fun k hk => ur_ne (by omega)
  refine cc_cases (P := fun k => k ≠ 9 + 5 * i → ccl A b k (ur z (100 + i) f) r = ccl A b k z r) ?_ ?_ ?_ ?_ ?_ ?_
  · intro k hk hne
    have e8 : k = 0 ∨ k = 1 ∨ k = 2 ∨ k = 3 ∨ k = 4 ∨ k = 5 ∨ k = 6 ∨ k = 7 := by omega
    rcases e8 with rfl | rfl | rfl | rfl | rfl | rfl | rfl | rfl <;> simp only [ccl, e9, Nat.reduceLT]
  · intro j hj _; rw [cc_0, cc_0]; simp only [nfs, e9, Nat.reduceLT]
  · intro j hj hne; rw [cc_1, cc_1, ur_ne (by omega)]
  · intro j hj _; rw [cc_2, cc_2, e9 17 (by decide)]
  · intro j hj _; rw [cc_3, cc_3]
  · intro j hj _; rw [cc_4, cc_4]
theorem cs_pk {i : Nat} {f : Nat → Option Nat} (q : i < 12) : hs (CH A b z r h) (b + 11 + 5 * i) (rc A 4 6 f) = CH A b z (ur r i f) h := by
  rw [Nat.add_assoc]
  refine ch_set (j := 11 + 5 * i) (by omega) (by rw [cc_3, ur_eq]) ?_
  refine cc_cases (P := fun k => k ≠ 11 + 5 * i → ccl A b k z (ur r i f) = ccl A b k z r) ?_ ?_ ?_ ?_ ?_ ?_
  · intro k hk hne
    have e8 : k = 0 ∨ k = 1 ∨ k = 2 ∨ k = 3 ∨ k = 4 ∨ k = 5 ∨ k = 6 ∨ k = 7 := by omega
    rcases e8 with rfl | rfl | rfl | rfl | rfl | rfl | rfl | rfl <;> first | rfl | exact absurd rfl hne
  · intro j hj _; rw [cc_0, cc_0]
  · intro j hj _; rw [cc_1, cc_1]
  · intro j hj _; rw [cc_2, cc_2]
  · intro j hj hne; rw [cc_3, cc_3, ur_ne (by omega)]
  · intro j hj _; rw [cc_4, cc_4, ur_ne (by omega)]
theorem cs_lb {i : Nat} {f : Nat → Option Nat} (q : i < 12) : hs (CH A b z r h) (b + 12 + 5 * i) (rc A 4 4 f) = CH A b z (ur r (12 + i) f) h := by
  rw [Nat.add_assoc]
  refine ch_set (j := 12 + 5 * i) (by omega) (by rw [cc_4, ur_eq]) ?_
  refine cc_cases (P := fun k => k ≠ 12 + 5 * i → ccl A b k z (ur r (12 + i) f) = ccl A b k z r) ?_ ?_ ?_ ?_ ?_ ?_
  · intro k hk hne
    have e8 : k = 0 ∨ k = 1 ∨ k = 2 ∨ k = 3 ∨ k = 4 ∨ k = 5 ∨ k = 6 ∨ k = 7 := by omega
    rcases e8 with rfl | rfl | rfl | rfl | rfl | rfl | rfl | rfl <;> first | rfl | exact absurd rfl hne
  · intro j hj _; rw [cc_0, cc_0]
  · intro j hj _; rw [cc_1, cc_1]
  · intro j hj _; rw [cc_2, cc_2]
  · intro j hj _; rw [cc_3, cc_3, ur_ne (by omega)]
  · intro j hj hne; rw [cc_4, cc_4, ur_ne (by omega)]
end St
