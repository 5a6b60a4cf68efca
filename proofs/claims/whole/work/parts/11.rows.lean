section Rows
variable {p : Program} {l : Launch} {e : Env} {R : Room} {s : State} {m : MethodId} {args : Array Value} {below : List Frame} {meth : Method} {c : Code} {Q : State → Prop} {D : va_G} {A : Nat → ClassId} {G : Heap} {cc : ByteArray} {nL : Nat} {own : String} {bc bs : Nat} {h : Hp} {n : Nat} {lo : List (Nat × Value)} {pc : Nat} {st : List Value}
theorem gl_has {ls : Array Slot} {i : Nat} {v : Value} (hl : lv_has ls nL lo) (k : gl lo i = some v) : ls[i]? = some (.val v) := hl.2.2 (i, v) (gl_in k)
theorem sl_in {lo : List (Nat × Value)} {i : Nat} {v : Value} {q : Nat × Value} (hq : q ∈ sl lo i v) : q = (i, v) ∨ (q ∈ lo ∧ q.1 ≠ i) := by
  induction lo with
  | nil =>
    unfold sl at hq
    exact Or.inl (List.mem_singleton.mp hq)
  | cons x t ih =>
    unfold sl at hq
    by_cases z : x.1 = i
    · rw [show (x.1 == i) = true by simpa using z] at hq
      simp only [cond_true] at hq
      rcases List.mem_cons.mp hq with h1 | h1
      · exact Or.inl h1
      · obtain ⟨h2, h3⟩ := List.mem_filter.mp h1
        exact Or.inr ⟨List.mem_cons_of_mem _ h2, by simpa using h3⟩
    · rw [show (x.1 == i) = false by simpa using z] at hq
      simp only [cond_false] at hq
      rcases List.mem_cons.mp hq with h1 | h1
      · exact Or.inr ⟨by rw [h1]; exact List.mem_cons_self, by rw [h1]; exact z⟩
      · rcases ih h1 with h2 | h2
        · exact Or.inl h2
        · exact Or.inr ⟨List.mem_cons_of_mem _ h2.1, h2.2⟩
/-- no long stands just below place i -/
def nw (lo : List (Nat × Value)) (i : Nat) : Prop := ∀ q ∈ lo, q.1 + 1 = i → q.2.category = 1
theorem sl_has1 {ls' : Array Slot} {i : Nat} {v : Value} (hw : nw lo i) (k : lv_has ls' nL ((i, v) :: lo.filter (fun q => !(q.1 == i) && !(q.1 + 1 == i && q.2.category == 2)))) : lv_has ls' nL (sl lo i v) := by
  refine ⟨k.1, k.2.1, fun q hq => ?_⟩
  rcases sl_in hq with h1 | ⟨h1, h2⟩
  · exact k.2.2 q (by rw [h1]; exact List.mem_cons_self)
  · refine k.2.2 q (List.mem_cons_of_mem _ (List.mem_filter.mpr ⟨h1, ?_⟩))
    by_cases z : q.1 + 1 = i
    · rw [hw q h1 z]
      simp [h2]
    · simp [h2, z]
theorem nw_of {i : Nat} (hk : (lo.all (fun q => !(q.1 + 1 == i) || q.2.category == 1)) = true) : nw lo i := by
  intro q hq z
  have h1 := List.all_eq_true.mp hk q hq
  simp only [Bool.or_eq_true, Bool.not_eq_true', beq_eq_false_iff_ne, ne_eq, beq_iff_eq] at h1
  rcases h1 with h1 | h1
  · exact absurd z h1
  · exact h1
theorem r_weak {lo' : List (Nat × Value)} (hw : wl lo lo') (k : Rw p l e R s m args below meth c Q D G nL bc bs h n lo' pc st) : Rw p l e R s m args below meth c Q D G nL bc bs h n lo pc st :=
  fun H ls locs cells slots hR hz hl hf hc hs => k H ls locs cells slots hR hz ⟨hl.1, hl.2.1, fun q hq => hl.2.2 q (wl_in hw q hq)⟩ hf hc hs
theorem r_room {bc' bs' : Nat} (h1 : bc' ≤ bc) (h2 : bs' ≤ bs) (k : Rw p l e R s m args below meth c Q D G nL bc' bs' h n lo pc st) : Rw p l e R s m args below meth c Q D G nL bc bs h n lo pc st :=
  fun H ls locs cells slots hR hz hl hf hc hs => k H ls locs cells slots hR hz hl hf (by omega) (by omega)
/-- what the heap holds, told to the rest -/
theorem r_fresh (k : (∀ j, n ≤ j → h (G.size + j) = none) → (∀ a x, h a = some x → G.size ≤ a ∧ a < G.size + n) → Rw p l e R s m args below meth c Q D G nL bc bs h n lo pc st) : Rw p l e R s m args below meth c Q D G nL bc bs h n lo pc st :=
  fun H ls locs cells slots hR hz hl hf hc hs => k hR.fresh (fun a x hx => ⟨(hR.2.2 a x hx).1, hR.lt2 hx⟩) H ls locs cells slots hR hz hl hf hc hs
theorem r_iconst (C : Cx p l s m args meth c D A G cc nL own) {j : Int} {v : Int32} (d : decode cc pc = .ok (.iconst j, 1)) (hv : Int32.ofInt j = v) (k : Rw p l e R s m args below meth c Q D G nL bc bs h n lo (pc + 1) (.int v :: st)) : Rw p l e R s m args below meth c Q D G nL bc bs h n lo pc st :=
  fun H ls locs cells slots hR hz hl hf hc hs => lv_iconst C.1 C.2.1 d hv (k H ls locs cells slots hR hz hl hf hc hs)
theorem r_bipush (C : Cx p l s m args meth c D A G cc nL own) {j : Int} {v : Int32} (d : decode cc pc = .ok (.bipush j, 2)) (hv : (Int8.ofInt j).toInt32 = v) (k : Rw p l e R s m args below meth c Q D G nL bc bs h n lo (pc + 2) (.int v :: st)) : Rw p l e R s m args below meth c Q D G nL bc bs h n lo pc st :=
  fun H ls locs cells slots hR hz hl hf hc hs => lv_bipush C.1 C.2.1 d hv (k H ls locs cells slots hR hz hl hf hc hs)
theorem r_sipush (C : Cx p l s m args meth c D A G cc nL own) {j : Int} {v : Int32} (d : decode cc pc = .ok (.sipush j, 3)) (hv : (Int16.ofInt j).toInt32 = v) (k : Rw p l e R s m args below meth c Q D G nL bc bs h n lo (pc + 3) (.int v :: st)) : Rw p l e R s m args below meth c Q D G nL bc bs h n lo pc st :=
  fun H ls locs cells slots hR hz hl hf hc hs => lv_sipush C.1 C.2.1 d hv (k H ls locs cells slots hR hz hl hf hc hs)
theorem r_lconst (C : Cx p l s m args meth c D A G cc nL own) {j : Fin 2} {v : Int64} (d : decode cc pc = .ok (.lconst j, 1)) (hv : Int64.ofNat (j : Nat) = v) (k : Rw p l e R s m args below meth c Q D G nL bc bs h n lo (pc + 1) (.long v :: st)) : Rw p l e R s m args below meth c Q D G nL bc bs h n lo pc st :=
  fun H ls locs cells slots hR hz hl hf hc hs => lv_lconst C.1 C.2.1 d hv (k H ls locs cells slots hR hz hl hf hc hs)
theorem r_null (C : Cx p l s m args meth c D A G cc nL own) (d : decode cc pc = .ok (.aconst_null, 1)) (k : Rw p l e R s m args below meth c Q D G nL bc bs h n lo (pc + 1) (.null :: st)) : Rw p l e R s m args below meth c Q D G nL bc bs h n lo pc st :=
  fun H ls locs cells slots hR hz hl hf hc hs => lv_null C.1 C.2.1 d (k H ls locs cells slots hR hz hl hf hc hs)
theorem r_iload_n (C : Cx p l s m args meth c D A G cc nL own) {j : Fin 4} {i : Nat} {x : Int32} (d : decode cc pc = .ok (.iload_n j, 1)) (hi : (j : Nat) = i) (hg : gl lo i = some (.int x)) (k : Rw p l e R s m args below meth c Q D G nL bc bs h n lo (pc + 1) (.int x :: st)) : Rw p l e R s m args below meth c Q D G nL bc bs h n lo pc st :=
  fun H ls locs cells slots hR hz hl hf hc hs => lv_iload_n C.1 C.2.1 d hi (gl_has hl hg) (k H ls locs cells slots hR hz hl hf hc hs)
theorem r_iload (C : Cx p l s m args meth c D A G cc nL own) {i : Nat} {x : Int32} (d : decode cc pc = .ok (.iload i, 2)) (hg : gl lo i = some (.int x)) (k : Rw p l e R s m args below meth c Q D G nL bc bs h n lo (pc + 2) (.int x :: st)) : Rw p l e R s m args below meth c Q D G nL bc bs h n lo pc st :=
  fun H ls locs cells slots hR hz hl hf hc hs => lv_iload C.1 C.2.1 d (gl_has hl hg) (k H ls locs cells slots hR hz hl hf hc hs)
theorem r_lload_n (C : Cx p l s m args meth c D A G cc nL own) {j : Fin 4} {i : Nat} {x : Int64} (d : decode cc pc = .ok (.lload_n j, 1)) (hi : (j : Nat) = i) (hg : gl lo i = some (.long x)) (k : Rw p l e R s m args below meth c Q D G nL bc bs h n lo (pc + 1) (.long x :: st)) : Rw p l e R s m args below meth c Q D G nL bc bs h n lo pc st :=
  fun H ls locs cells slots hR hz hl hf hc hs => lv_lload_n C.1 C.2.1 d hi (gl_has hl hg) (k H ls locs cells slots hR hz hl hf hc hs)
theorem r_lload (C : Cx p l s m args meth c D A G cc nL own) {i : Nat} {x : Int64} (d : decode cc pc = .ok (.lload i, 2)) (hg : gl lo i = some (.long x)) (k : Rw p l e R s m args below meth c Q D G nL bc bs h n lo (pc + 2) (.long x :: st)) : Rw p l e R s m args below meth c Q D G nL bc bs h n lo pc st :=
  fun H ls locs cells slots hR hz hl hf hc hs => lv_lload C.1 C.2.1 d (gl_has hl hg) (k H ls locs cells slots hR hz hl hf hc hs)
theorem r_aload_n (C : Cx p l s m args meth c D A G cc nL own) {j : Fin 4} {i : Nat} {x : Nat} (d : decode cc pc = .ok (.aload_n j, 1)) (hi : (j : Nat) = i) (hg : gl lo i = some (.ref x)) (k : Rw p l e R s m args below meth c Q D G nL bc bs h n lo (pc + 1) (.ref x :: st)) : Rw p l e R s m args below meth c Q D G nL bc bs h n lo pc st :=
  fun H ls locs cells slots hR hz hl hf hc hs => lv_aload_n C.1 C.2.1 d hi (gl_has hl hg) (k H ls locs cells slots hR hz hl hf hc hs)
theorem r_aload (C : Cx p l s m args meth c D A G cc nL own) {i : Nat} {x : Nat} (d : decode cc pc = .ok (.aload i, 2)) (hg : gl lo i = some (.ref x)) (k : Rw p l e R s m args below meth c Q D G nL bc bs h n lo (pc + 2) (.ref x :: st)) : Rw p l e R s m args below meth c Q D G nL bc bs h n lo pc st :=
  fun H ls locs cells slots hR hz hl hf hc hs => lv_aload C.1 C.2.1 d (gl_has hl hg) (k H ls locs cells slots hR hz hl hf hc hs)
theorem r_aload_nq (C : Cx p l s m args meth c D A G cc nL own) {j : Fin 4} {i : Nat} {r : Option Nat} (d : decode cc pc = .ok (.aload_n j, 1)) (hi : (j : Nat) = i) (hg : gl lo i = some (va_rf r)) (k : Rw p l e R s m args below meth c Q D G nL bc bs h n lo (pc + 1) (va_rf r :: st)) : Rw p l e R s m args below meth c Q D G nL bc bs h n lo pc st := by
  cases r with
  | none => exact fun H ls locs cells slots hR hz hl hf hc hs => lv_aload_nN C.1 C.2.1 d hi (gl_has hl hg) (k H ls locs cells slots hR hz hl hf hc hs)
  | some a => exact fun H ls locs cells slots hR hz hl hf hc hs => lv_aload_n C.1 C.2.1 d hi (gl_has hl hg) (k H ls locs cells slots hR hz hl hf hc hs)
theorem r_aloadq (C : Cx p l s m args meth c D A G cc nL own) {i : Nat} {r : Option Nat} (d : decode cc pc = .ok (.aload i, 2)) (hg : gl lo i = some (va_rf r)) (k : Rw p l e R s m args below meth c Q D G nL bc bs h n lo (pc + 2) (va_rf r :: st)) : Rw p l e R s m args below meth c Q D G nL bc bs h n lo pc st := by
  cases r with
  | none => exact fun H ls locs cells slots hR hz hl hf hc hs => lv_aloadN C.1 C.2.1 d (gl_has hl hg) (k H ls locs cells slots hR hz hl hf hc hs)
  | some a => exact fun H ls locs cells slots hR hz hl hf hc hs => lv_aload C.1 C.2.1 d (gl_has hl hg) (k H ls locs cells slots hR hz hl hf hc hs)
theorem r_istore_n (C : Cx p l s m args meth c D A G cc nL own) {j : Fin 4} {i : Nat} {x : Int32} (d : decode cc pc = .ok (.istore_n j, 1)) (hi : (j : Nat) = i) (hn : i < nL) (hw : nw lo i) (k : Rw p l e R s m args below meth c Q D G nL bc bs h n (sl lo i (.int x)) (pc + 1) st) : Rw p l e R s m args below meth c Q D G nL bc bs h n lo pc (.int x :: st) :=
  fun H ls locs cells slots hR hz hl hf hc hs => lv_istore_n C.1 C.2.1 d hi hl hn rfl (fun ls' hl' => k H ls' locs cells slots hR hz (sl_has1 hw hl') hf hc hs)
theorem r_istore (C : Cx p l s m args meth c D A G cc nL own) {i : Nat} {x : Int32} (d : decode cc pc = .ok (.istore i, 2)) (hn : i < nL) (hw : nw lo i) (k : Rw p l e R s m args below meth c Q D G nL bc bs h n (sl lo i (.int x)) (pc + 2) st) : Rw p l e R s m args below meth c Q D G nL bc bs h n lo pc (.int x :: st) :=
  fun H ls locs cells slots hR hz hl hf hc hs => lv_istore C.1 C.2.1 d hl hn rfl (fun ls' hl' => k H ls' locs cells slots hR hz (sl_has1 hw hl') hf hc hs)
theorem r_astore_n (C : Cx p l s m args meth c D A G cc nL own) {j : Fin 4} {i : Nat} {x : Nat} (d : decode cc pc = .ok (.astore_n j, 1)) (hi : (j : Nat) = i) (hn : i < nL) (hw : nw lo i) (k : Rw p l e R s m args below meth c Q D G nL bc bs h n (sl lo i (.ref x)) (pc + 1) st) : Rw p l e R s m args below meth c Q D G nL bc bs h n lo pc (.ref x :: st) :=
  fun H ls locs cells slots hR hz hl hf hc hs => lv_astore_n C.1 C.2.1 d hi hl hn rfl (fun ls' hl' => k H ls' locs cells slots hR hz (sl_has1 hw hl') hf hc hs)
theorem r_astore (C : Cx p l s m args meth c D A G cc nL own) {i : Nat} {x : Nat} (d : decode cc pc = .ok (.astore i, 2)) (hn : i < nL) (hw : nw lo i) (k : Rw p l e R s m args below meth c Q D G nL bc bs h n (sl lo i (.ref x)) (pc + 2) st) : Rw p l e R s m args below meth c Q D G nL bc bs h n lo pc (.ref x :: st) :=
  fun H ls locs cells slots hR hz hl hf hc hs => lv_astore C.1 C.2.1 d hl hn rfl (fun ls' hl' => k H ls' locs cells slots hR hz (sl_has1 hw hl') hf hc hs)
theorem r_astore_nN (C : Cx p l s m args meth c D A G cc nL own) {j : Fin 4} {i : Nat} (d : decode cc pc = .ok (.astore_n j, 1)) (hi : (j : Nat) = i) (hn : i < nL) (hw : nw lo i) (k : Rw p l e R s m args below meth c Q D G nL bc bs h n (sl lo i .null) (pc + 1) st) : Rw p l e R s m args below meth c Q D G nL bc bs h n lo pc (.null :: st) :=
  fun H ls locs cells slots hR hz hl hf hc hs => lv_astore_nN C.1 C.2.1 d hi hl hn rfl (fun ls' hl' => k H ls' locs cells slots hR hz (sl_has1 hw hl') hf hc hs)
theorem r_astoreN (C : Cx p l s m args meth c D A G cc nL own) {i : Nat} (d : decode cc pc = .ok (.astore i, 2)) (hn : i < nL) (hw : nw lo i) (k : Rw p l e R s m args below meth c Q D G nL bc bs h n (sl lo i .null) (pc + 2) st) : Rw p l e R s m args below meth c Q D G nL bc bs h n lo pc (.null :: st) :=
  fun H ls locs cells slots hR hz hl hf hc hs => lv_astoreN C.1 C.2.1 d hl hn rfl (fun ls' hl' => k H ls' locs cells slots hR hz (sl_has1 hw hl') hf hc hs)
theorem r_astore_nq (C : Cx p l s m args meth c D A G cc nL own) {j : Fin 4} {i : Nat} {r : Option Nat} (d : decode cc pc = .ok (.astore_n j, 1)) (hi : (j : Nat) = i) (hn : i < nL) (hw : nw lo i) (k : Rw p l e R s m args below meth c Q D G nL bc bs h n (sl lo i (va_rf r)) (pc + 1) st) : Rw p l e R s m args below meth c Q D G nL bc bs h n lo pc (va_rf r :: st) := by
  cases r with
  | none => exact r_astore_nN C d hi hn hw k
  | some a => exact r_astore_n C d hi hn hw k
theorem r_astoreq (C : Cx p l s m args meth c D A G cc nL own) {i : Nat} {r : Option Nat} (d : decode cc pc = .ok (.astore i, 2)) (hn : i < nL) (hw : nw lo i) (k : Rw p l e R s m args below meth c Q D G nL bc bs h n (sl lo i (va_rf r)) (pc + 2) st) : Rw p l e R s m args below meth c Q D G nL bc bs h n lo pc (va_rf r :: st) := by
  cases r with
  | none => exact r_astoreN C d hn hw k
  | some a => exact r_astore C d hn hw k
theorem r_iinc (C : Cx p l s m args meth c D A G cc nL own) {i : Nat} {j : Int} {x v : Int32} (d : decode cc pc = .ok (.iinc i j, 3)) (hg : gl lo i = some (.int x)) (hv : x + Int32.ofInt j = v) (hn : i < nL) (hw : nw lo i) (k : Rw p l e R s m args below meth c Q D G nL bc bs h n (sl lo i (.int v)) (pc + 3) st) : Rw p l e R s m args below meth c Q D G nL bc bs h n lo pc st := by
  intro H ls locs cells slots hR hz hl hf hc hs
  obtain ⟨q, hq⟩ := List.getElem?_of_mem (gl_in hg)
  exact lv_iinc C.1 C.2.1 d hl (k := q) hq hv hn rfl (fun ls' hl' => k H ls' locs cells slots hR hz (sl_has1 hw hl') hf hc hs)
def sl2 (lo : List (Nat × Value)) (i : Nat) (v : Value) : List (Nat × Value) := (i, v) :: lo.filter (fun q => !(q.1 == i) && (!(q.1 == i + 1) && !(q.1 + 1 == i && q.2.category == 2)))
theorem r_lstore_n (C : Cx p l s m args meth c D A G cc nL own) {j : Fin 4} {i : Nat} {x : Int64} (d : decode cc pc = .ok (.lstore_n j, 1)) (hi : (j : Nat) = i) (hn : i + 1 < nL) (k : Rw p l e R s m args below meth c Q D G nL bc bs h n (sl2 lo i (.long x)) (pc + 1) st) : Rw p l e R s m args below meth c Q D G nL bc bs h n lo pc (.long x :: st) :=
  fun H ls locs cells slots hR hz hl hf hc hs => lv_lstore_n C.1 C.2.1 d hi hl hn rfl (fun ls' hl' => k H ls' locs cells slots hR hz hl' hf hc hs)
theorem r_lstore (C : Cx p l s m args meth c D A G cc nL own) {i : Nat} {x : Int64} (d : decode cc pc = .ok (.lstore i, 2)) (hn : i + 1 < nL) (k : Rw p l e R s m args below meth c Q D G nL bc bs h n (sl2 lo i (.long x)) (pc + 2) st) : Rw p l e R s m args below meth c Q D G nL bc bs h n lo pc (.long x :: st) :=
  fun H ls locs cells slots hR hz hl hf hc hs => lv_lstore C.1 C.2.1 d hl hn rfl (fun ls' hl' => k H ls' locs cells slots hR hz hl' hf hc hs)
theorem r_iadd (C : Cx p l s m args meth c D A G cc nL own) {x y : Int32} (d : decode cc pc = .ok (.iadd, 1)) (k : Rw p l e R s m args below meth c Q D G nL bc bs h n lo (pc + 1) (.int (x + y) :: st)) : Rw p l e R s m args below meth c Q D G nL bc bs h n lo pc (.int y :: .int x :: st) :=
  fun H ls locs cells slots hR hz hl hf hc hs => lv_iadd C.1 C.2.1 d (k H ls locs cells slots hR hz hl hf hc hs)
theorem r_isub (C : Cx p l s m args meth c D A G cc nL own) {x y : Int32} (d : decode cc pc = .ok (.isub, 1)) (k : Rw p l e R s m args below meth c Q D G nL bc bs h n lo (pc + 1) (.int (x - y) :: st)) : Rw p l e R s m args below meth c Q D G nL bc bs h n lo pc (.int y :: .int x :: st) :=
  fun H ls locs cells slots hR hz hl hf hc hs => lv_isub C.1 C.2.1 d (k H ls locs cells slots hR hz hl hf hc hs)
theorem r_imul (C : Cx p l s m args meth c D A G cc nL own) {x y : Int32} (d : decode cc pc = .ok (.imul, 1)) (k : Rw p l e R s m args below meth c Q D G nL bc bs h n lo (pc + 1) (.int (x * y) :: st)) : Rw p l e R s m args below meth c Q D G nL bc bs h n lo pc (.int y :: .int x :: st) :=
  fun H ls locs cells slots hR hz hl hf hc hs => lv_imul C.1 C.2.1 d (k H ls locs cells slots hR hz hl hf hc hs)
theorem r_iand (C : Cx p l s m args meth c D A G cc nL own) {x y : Int32} (d : decode cc pc = .ok (.iand, 1)) (k : Rw p l e R s m args below meth c Q D G nL bc bs h n lo (pc + 1) (.int (x &&& y) :: st)) : Rw p l e R s m args below meth c Q D G nL bc bs h n lo pc (.int y :: .int x :: st) :=
  fun H ls locs cells slots hR hz hl hf hc hs => lv_iand C.1 C.2.1 d (k H ls locs cells slots hR hz hl hf hc hs)
theorem r_idiv (C : Cx p l s m args meth c D A G cc nL own) {x y : Int32} (d : decode cc pc = .ok (.idiv, 1)) (hne : ¬ y = 0) (k : Rw p l e R s m args below meth c Q D G nL bc bs h n lo (pc + 1) (.int (x / y) :: st)) : Rw p l e R s m args below meth c Q D G nL bc bs h n lo pc (.int y :: .int x :: st) :=
  fun H ls locs cells slots hR hz hl hf hc hs => lv_idiv C.1 C.2.1 d hne (k H ls locs cells slots hR hz hl hf hc hs)
theorem r_irem (C : Cx p l s m args meth c D A G cc nL own) {x y : Int32} (d : decode cc pc = .ok (.irem, 1)) (hne : ¬ y = 0) (k : Rw p l e R s m args below meth c Q D G nL bc bs h n lo (pc + 1) (.int (x - x / y * y) :: st)) : Rw p l e R s m args below meth c Q D G nL bc bs h n lo pc (.int y :: .int x :: st) :=
  fun H ls locs cells slots hR hz hl hf hc hs => lv_irem C.1 C.2.1 d hne (k H ls locs cells slots hR hz hl hf hc hs)
theorem r_ishr (C : Cx p l s m args meth c D A G cc nL own) {x y : Int32} (d : decode cc pc = .ok (.ishr, 1)) (k : Rw p l e R s m args below meth c Q D G nL bc bs h n lo (pc + 1) (.int (x >>> (y &&& 31)) :: st)) : Rw p l e R s m args below meth c Q D G nL bc bs h n lo pc (.int y :: .int x :: st) :=
  fun H ls locs cells slots hR hz hl hf hc hs => lv_ishr C.1 C.2.1 d (k H ls locs cells slots hR hz hl hf hc hs)
theorem r_ladd (C : Cx p l s m args meth c D A G cc nL own) {x y : Int64} (d : decode cc pc = .ok (.ladd, 1)) (k : Rw p l e R s m args below meth c Q D G nL bc bs h n lo (pc + 1) (.long (x + y) :: st)) : Rw p l e R s m args below meth c Q D G nL bc bs h n lo pc (.long y :: .long x :: st) :=
  fun H ls locs cells slots hR hz hl hf hc hs => lv_ladd C.1 C.2.1 d (k H ls locs cells slots hR hz hl hf hc hs)
theorem r_lsub (C : Cx p l s m args meth c D A G cc nL own) {x y : Int64} (d : decode cc pc = .ok (.lsub, 1)) (k : Rw p l e R s m args below meth c Q D G nL bc bs h n lo (pc + 1) (.long (x - y) :: st)) : Rw p l e R s m args below meth c Q D G nL bc bs h n lo pc (.long y :: .long x :: st) :=
  fun H ls locs cells slots hR hz hl hf hc hs => lv_lsub C.1 C.2.1 d (k H ls locs cells slots hR hz hl hf hc hs)
theorem r_i2l (C : Cx p l s m args meth c D A G cc nL own) {x : Int32} {v : Int64} (d : decode cc pc = .ok (.i2l, 1)) (hv : x.toInt64 = v) (k : Rw p l e R s m args below meth c Q D G nL bc bs h n lo (pc + 1) (.long v :: st)) : Rw p l e R s m args below meth c Q D G nL bc bs h n lo pc (.int x :: st) :=
  fun H ls locs cells slots hR hz hl hf hc hs => lv_i2l C.1 C.2.1 d hv (k H ls locs cells slots hR hz hl hf hc hs)
theorem r_dup (C : Cx p l s m args meth c D A G cc nL own) {a : Value} (d : decode cc pc = .ok (.dup, 1)) (h1 : a.category = 1) (k : Rw p l e R s m args below meth c Q D G nL bc bs h n lo (pc + 1) (a :: a :: st)) : Rw p l e R s m args below meth c Q D G nL bc bs h n lo pc (a :: st) :=
  fun H ls locs cells slots hR hz hl hf hc hs => lv_dup C.1 C.2.1 d h1 (k H ls locs cells slots hR hz hl hf hc hs)
theorem r_pop (C : Cx p l s m args meth c D A G cc nL own) {a : Value} (d : decode cc pc = .ok (.pop, 1)) (h1 : a.category = 1) (k : Rw p l e R s m args below meth c Q D G nL bc bs h n lo (pc + 1) st) : Rw p l e R s m args below meth c Q D G nL bc bs h n lo pc (a :: st) :=
  fun H ls locs cells slots hR hz hl hf hc hs => lv_pop C.1 C.2.1 d h1 (k H ls locs cells slots hR hz hl hf hc hs)
theorem r_dup_x2 (C : Cx p l s m args meth c D A G cc nL own) {a b f : Value} (d : decode cc pc = .ok (.dup_x2, 1)) (h1 : a.category = 1) (h2 : b.category = 1) (h3 : f.category = 1) (k : Rw p l e R s m args below meth c Q D G nL bc bs h n lo (pc + 1) (a :: b :: f :: a :: st)) : Rw p l e R s m args below meth c Q D G nL bc bs h n lo pc (a :: b :: f :: st) :=
  fun H ls locs cells slots hR hz hl hf hc hs => lv_dup_x2 C.1 C.2.1 d h1 h2 h3 (k H ls locs cells slots hR hz hl hf hc hs)
theorem r_dup2 (C : Cx p l s m args meth c D A G cc nL own) {a b : Value} (d : decode cc pc = .ok (.dup2, 1)) (h1 : a.category = 1) (h2 : b.category = 1) (k : Rw p l e R s m args below meth c Q D G nL bc bs h n lo (pc + 1) (a :: b :: a :: b :: st)) : Rw p l e R s m args below meth c Q D G nL bc bs h n lo pc (a :: b :: st) :=
  fun H ls locs cells slots hR hz hl hf hc hs => lv_dup2_11 C.1 C.2.1 d h1 h2 (k H ls locs cells slots hR hz hl hf hc hs)
theorem r_goto (C : Cx p l s m args meth c D A G cc nL own) {off : Int} {tgt : Nat} (d : decode cc pc = .ok (.goto off, 3)) (ht : (pc : Int) + off = (tgt : Int)) (k : Rw p l e R s m args below meth c Q D G nL bc bs h n lo tgt st) : Rw p l e R s m args below meth c Q D G nL bc bs h n lo pc st :=
  fun H ls locs cells slots hR hz hl hf hc hs => lv_goto C.1 C.2.1 d ht (k H ls locs cells slots hR hz hl hf hc hs)
theorem r_if_eq (C : Cx p l s m args meth c D A G cc nL own) {x : Int32} {off : Int} {tgt : Nat} (d : decode cc pc = .ok (.ifCond .eq off, 3)) (ht : (pc : Int) + off = (tgt : Int)) (kt : x = 0 → Rw p l e R s m args below meth c Q D G nL bc bs h n lo tgt st) (kf : ¬ x = 0 → Rw p l e R s m args below meth c Q D G nL bc bs h n lo (pc + 3) st) : Rw p l e R s m args below meth c Q D G nL bc bs h n lo pc (.int x :: st) :=
  fun H ls locs cells slots hR hz hl hf hc hs => lv_if_eq C.1 C.2.1 d ht (fun z => kt z H ls locs cells slots hR hz hl hf hc hs) (fun z => kf z H ls locs cells slots hR hz hl hf hc hs)
theorem r_icmp_eq (C : Cx p l s m args meth c D A G cc nL own) {x y : Int32} {off : Int} {tgt : Nat} (d : decode cc pc = .ok (.if_icmp .eq off, 3)) (ht : (pc : Int) + off = (tgt : Int)) (kt : x = y → Rw p l e R s m args below meth c Q D G nL bc bs h n lo tgt st) (kf : ¬ x = y → Rw p l e R s m args below meth c Q D G nL bc bs h n lo (pc + 3) st) : Rw p l e R s m args below meth c Q D G nL bc bs h n lo pc (.int y :: .int x :: st) :=
  fun H ls locs cells slots hR hz hl hf hc hs => lv_icmp_eq C.1 C.2.1 d ht (fun z => kt z H ls locs cells slots hR hz hl hf hc hs) (fun z => kf z H ls locs cells slots hR hz hl hf hc hs)
theorem r_if_ne (C : Cx p l s m args meth c D A G cc nL own) {x : Int32} {off : Int} {tgt : Nat} (d : decode cc pc = .ok (.ifCond .ne off, 3)) (ht : (pc : Int) + off = (tgt : Int)) (kt : ¬ x = 0 → Rw p l e R s m args below meth c Q D G nL bc bs h n lo tgt st) (kf : x = 0 → Rw p l e R s m args below meth c Q D G nL bc bs h n lo (pc + 3) st) : Rw p l e R s m args below meth c Q D G nL bc bs h n lo pc (.int x :: st) :=
  fun H ls locs cells slots hR hz hl hf hc hs => lv_if_ne C.1 C.2.1 d ht (fun z => kt z H ls locs cells slots hR hz hl hf hc hs) (fun z => kf z H ls locs cells slots hR hz hl hf hc hs)
theorem r_icmp_ne (C : Cx p l s m args meth c D A G cc nL own) {x y : Int32} {off : Int} {tgt : Nat} (d : decode cc pc = .ok (.if_icmp .ne off, 3)) (ht : (pc : Int) + off = (tgt : Int)) (kt : ¬ x = y → Rw p l e R s m args below meth c Q D G nL bc bs h n lo tgt st) (kf : x = y → Rw p l e R s m args below meth c Q D G nL bc bs h n lo (pc + 3) st) : Rw p l e R s m args below meth c Q D G nL bc bs h n lo pc (.int y :: .int x :: st) :=
  fun H ls locs cells slots hR hz hl hf hc hs => lv_icmp_ne C.1 C.2.1 d ht (fun z => kt z H ls locs cells slots hR hz hl hf hc hs) (fun z => kf z H ls locs cells slots hR hz hl hf hc hs)
theorem r_if_lt (C : Cx p l s m args meth c D A G cc nL own) {x : Int32} {off : Int} {tgt : Nat} (d : decode cc pc = .ok (.ifCond .lt off, 3)) (ht : (pc : Int) + off = (tgt : Int)) (kt : x < 0 → Rw p l e R s m args below meth c Q D G nL bc bs h n lo tgt st) (kf : ¬ x < 0 → Rw p l e R s m args below meth c Q D G nL bc bs h n lo (pc + 3) st) : Rw p l e R s m args below meth c Q D G nL bc bs h n lo pc (.int x :: st) :=
  fun H ls locs cells slots hR hz hl hf hc hs => lv_if_lt C.1 C.2.1 d ht (fun z => kt z H ls locs cells slots hR hz hl hf hc hs) (fun z => kf z H ls locs cells slots hR hz hl hf hc hs)
theorem r_icmp_lt (C : Cx p l s m args meth c D A G cc nL own) {x y : Int32} {off : Int} {tgt : Nat} (d : decode cc pc = .ok (.if_icmp .lt off, 3)) (ht : (pc : Int) + off = (tgt : Int)) (kt : x < y → Rw p l e R s m args below meth c Q D G nL bc bs h n lo tgt st) (kf : ¬ x < y → Rw p l e R s m args below meth c Q D G nL bc bs h n lo (pc + 3) st) : Rw p l e R s m args below meth c Q D G nL bc bs h n lo pc (.int y :: .int x :: st) :=
  fun H ls locs cells slots hR hz hl hf hc hs => lv_icmp_lt C.1 C.2.1 d ht (fun z => kt z H ls locs cells slots hR hz hl hf hc hs) (fun z => kf z H ls locs cells slots hR hz hl hf hc hs)
theorem r_if_ge (C : Cx p l s m args meth c D A G cc nL own) {x : Int32} {off : Int} {tgt : Nat} (d : decode cc pc = .ok (.ifCond .ge off, 3)) (ht : (pc : Int) + off = (tgt : Int)) (kt : 0 ≤ x → Rw p l e R s m args below meth c Q D G nL bc bs h n lo tgt st) (kf : ¬ 0 ≤ x → Rw p l e R s m args below meth c Q D G nL bc bs h n lo (pc + 3) st) : Rw p l e R s m args below meth c Q D G nL bc bs h n lo pc (.int x :: st) :=
  fun H ls locs cells slots hR hz hl hf hc hs => lv_if_ge C.1 C.2.1 d ht (fun z => kt z H ls locs cells slots hR hz hl hf hc hs) (fun z => kf z H ls locs cells slots hR hz hl hf hc hs)
theorem r_icmp_ge (C : Cx p l s m args meth c D A G cc nL own) {x y : Int32} {off : Int} {tgt : Nat} (d : decode cc pc = .ok (.if_icmp .ge off, 3)) (ht : (pc : Int) + off = (tgt : Int)) (kt : y ≤ x → Rw p l e R s m args below meth c Q D G nL bc bs h n lo tgt st) (kf : ¬ y ≤ x → Rw p l e R s m args below meth c Q D G nL bc bs h n lo (pc + 3) st) : Rw p l e R s m args below meth c Q D G nL bc bs h n lo pc (.int y :: .int x :: st) :=
  fun H ls locs cells slots hR hz hl hf hc hs => lv_icmp_ge C.1 C.2.1 d ht (fun z => kt z H ls locs cells slots hR hz hl hf hc hs) (fun z => kf z H ls locs cells slots hR hz hl hf hc hs)
theorem r_if_gt (C : Cx p l s m args meth c D A G cc nL own) {x : Int32} {off : Int} {tgt : Nat} (d : decode cc pc = .ok (.ifCond .gt off, 3)) (ht : (pc : Int) + off = (tgt : Int)) (kt : 0 < x → Rw p l e R s m args below meth c Q D G nL bc bs h n lo tgt st) (kf : ¬ 0 < x → Rw p l e R s m args below meth c Q D G nL bc bs h n lo (pc + 3) st) : Rw p l e R s m args below meth c Q D G nL bc bs h n lo pc (.int x :: st) :=
  fun H ls locs cells slots hR hz hl hf hc hs => lv_if_gt C.1 C.2.1 d ht (fun z => kt z H ls locs cells slots hR hz hl hf hc hs) (fun z => kf z H ls locs cells slots hR hz hl hf hc hs)
theorem r_icmp_gt (C : Cx p l s m args meth c D A G cc nL own) {x y : Int32} {off : Int} {tgt : Nat} (d : decode cc pc = .ok (.if_icmp .gt off, 3)) (ht : (pc : Int) + off = (tgt : Int)) (kt : y < x → Rw p l e R s m args below meth c Q D G nL bc bs h n lo tgt st) (kf : ¬ y < x → Rw p l e R s m args below meth c Q D G nL bc bs h n lo (pc + 3) st) : Rw p l e R s m args below meth c Q D G nL bc bs h n lo pc (.int y :: .int x :: st) :=
  fun H ls locs cells slots hR hz hl hf hc hs => lv_icmp_gt C.1 C.2.1 d ht (fun z => kt z H ls locs cells slots hR hz hl hf hc hs) (fun z => kf z H ls locs cells slots hR hz hl hf hc hs)
theorem r_if_le (C : Cx p l s m args meth c D A G cc nL own) {x : Int32} {off : Int} {tgt : Nat} (d : decode cc pc = .ok (.ifCond .le off, 3)) (ht : (pc : Int) + off = (tgt : Int)) (kt : x ≤ 0 → Rw p l e R s m args below meth c Q D G nL bc bs h n lo tgt st) (kf : ¬ x ≤ 0 → Rw p l e R s m args below meth c Q D G nL bc bs h n lo (pc + 3) st) : Rw p l e R s m args below meth c Q D G nL bc bs h n lo pc (.int x :: st) :=
  fun H ls locs cells slots hR hz hl hf hc hs => lv_if_le C.1 C.2.1 d ht (fun z => kt z H ls locs cells slots hR hz hl hf hc hs) (fun z => kf z H ls locs cells slots hR hz hl hf hc hs)
theorem r_icmp_le (C : Cx p l s m args meth c D A G cc nL own) {x y : Int32} {off : Int} {tgt : Nat} (d : decode cc pc = .ok (.if_icmp .le off, 3)) (ht : (pc : Int) + off = (tgt : Int)) (kt : x ≤ y → Rw p l e R s m args below meth c Q D G nL bc bs h n lo tgt st) (kf : ¬ x ≤ y → Rw p l e R s m args below meth c Q D G nL bc bs h n lo (pc + 3) st) : Rw p l e R s m args below meth c Q D G nL bc bs h n lo pc (.int y :: .int x :: st) :=
  fun H ls locs cells slots hR hz hl hf hc hs => lv_icmp_le C.1 C.2.1 d ht (fun z => kt z H ls locs cells slots hR hz hl hf hc hs) (fun z => kf z H ls locs cells slots hR hz hl hf hc hs)
theorem r_ifnull (C : Cx p l s m args meth c D A G cc nL own) {r : Option Nat} {off : Int} {tgt : Nat} (d : decode cc pc = .ok (.ifnull off, 3)) (ht : (pc : Int) + off = (tgt : Int)) (kt : r = none → Rw p l e R s m args below meth c Q D G nL bc bs h n lo tgt st) (kf : ∀ a, r = some a → Rw p l e R s m args below meth c Q D G nL bc bs h n lo (pc + 3) st) : Rw p l e R s m args below meth c Q D G nL bc bs h n lo pc (va_rf r :: st) := by
  cases r with
  | none => exact fun H ls locs cells slots hR hz hl hf hc hs => lv_ifnullN C.1 C.2.1 d ht (kt rfl H ls locs cells slots hR hz hl hf hc hs)
  | some a => exact fun H ls locs cells slots hR hz hl hf hc hs => lv_ifnull C.1 C.2.1 d (kf a rfl H ls locs cells slots hR hz hl hf hc hs)
theorem r_ifnonnull (C : Cx p l s m args meth c D A G cc nL own) {r : Option Nat} {off : Int} {tgt : Nat} (d : decode cc pc = .ok (.ifnonnull off, 3)) (ht : (pc : Int) + off = (tgt : Int)) (kt : ∀ a, r = some a → Rw p l e R s m args below meth c Q D G nL bc bs h n lo tgt st) (kf : r = none → Rw p l e R s m args below meth c Q D G nL bc bs h n lo (pc + 3) st) : Rw p l e R s m args below meth c Q D G nL bc bs h n lo pc (va_rf r :: st) := by
  cases r with
  | none => exact fun H ls locs cells slots hR hz hl hf hc hs => lv_ifnonnullN C.1 C.2.1 d (kf rfl H ls locs cells slots hR hz hl hf hc hs)
  | some a => exact fun H ls locs cells slots hR hz hl hf hc hs => lv_ifnonnull C.1 C.2.1 d ht (kt a rfl H ls locs cells slots hR hz hl hf hc hs)
theorem r_acmp_ne (C : Cx p l s m args meth c D A G cc nL own) {x y : Option Nat} {off : Int} {tgt : Nat} (d : decode cc pc = .ok (.if_acmp .ne off, 3)) (ht : (pc : Int) + off = (tgt : Int)) (kt : ¬ x = y → Rw p l e R s m args below meth c Q D G nL bc bs h n lo tgt st) (kf : x = y → Rw p l e R s m args below meth c Q D G nL bc bs h n lo (pc + 3) st) : Rw p l e R s m args below meth c Q D G nL bc bs h n lo pc (va_rf y :: va_rf x :: st) :=
  fun H ls locs cells slots hR hz hl hf hc hs => lv_acmp_ne C.1 C.2.1 d ht (fun z => kt z H ls locs cells slots hR hz hl hf hc hs) (fun z => kf z H ls locs cells slots hR hz hl hf hc hs)
theorem r_tableIn (C : Cx p l s m args meth c D A G cc nL own) {df i0 i1 : Int} {offs : Array Int} {ln : Nat} {x : Int32} {off : Int} {tgt : Nat} (d : decode cc pc = .ok (.tableswitch df i0 i1 offs, ln)) (h1 : ¬ x.toInt < i0) (h2 : ¬ i1 < x.toInt) (ho : offs[(x.toInt - i0).toNat]? = some off) (ht : (pc : Int) + off = (tgt : Int)) (k : Rw p l e R s m args below meth c Q D G nL bc bs h n lo tgt st) : Rw p l e R s m args below meth c Q D G nL bc bs h n lo pc (.int x :: st) :=
  fun H ls locs cells slots hR hz hl hf hc hs => lv_tableIn C.1 C.2.1 d h1 h2 ho ht (k H ls locs cells slots hR hz hl hf hc hs)
theorem r_tableOut (C : Cx p l s m args meth c D A G cc nL own) {df i0 i1 : Int} {offs : Array Int} {ln : Nat} {x : Int32} {tgt : Nat} (d : decode cc pc = .ok (.tableswitch df i0 i1 offs, ln)) (h1 : x.toInt < i0 ∨ i1 < x.toInt) (ht : (pc : Int) + df = (tgt : Int)) (k : Rw p l e R s m args below meth c Q D G nL bc bs h n lo tgt st) : Rw p l e R s m args below meth c Q D G nL bc bs h n lo pc (.int x :: st) :=
  fun H ls locs cells slots hR hz hl hf hc hs => lv_tableOut C.1 C.2.1 d h1 ht (k H ls locs cells slots hR hz hl hf hc hs)
end Rows
