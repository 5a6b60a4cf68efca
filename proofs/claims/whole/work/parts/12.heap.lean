section Heap
variable {p : Program} {l : Launch} {e : Env} {R : Room} {s : State} {m : MethodId} {args : Array Value} {below : List Frame} {meth : Method} {c : Code} {Q : State → Prop} {D : va_G} {A : Nat → ClassId} {G : Heap} {cc : ByteArray} {nL : Nat} {own : String} {bc bs : Nat} {h : Hp} {n : Nat} {lo : List (Nat × Value)} {pc : Nat} {st : List Value}
/-- cells: an object, an int array, a boolean array, a long array, arrays of nodes and of requests -/
abbrev oc (ci : Nat) (fs : List Value) : va_E := .inr (ci, fs)
abbrev ic (A : Nat → ClassId) (k : Nat) (f : Nat → Int32) : va_E := .inl (A 0, k, .inl f)
abbrev zc (A : Nat → ClassId) (k : Nat) (f : Nat → Int32) : va_E := .inl (A 1, k, .inl f)
abbrev jc (A : Nat → ClassId) (k : Nat) (f : Nat → Int64) : va_E := .inl (A 2, k, .inr (.inl f))
abbrev rc (A : Nat → ClassId) (t : Nat) (k : Nat) (f : Nat → Option Nat) : va_E := .inl (A t, k, .inr (.inr (.inr (.inr f))))
def ck (ci : Nat) (N1 : String) (T : u_T) (N : Nat) : Prop := clz[ci]? = some (N1, T, N) ∧ (∀ w ∈ u_ws N1 T N, w ∈ tbl) ∧ (∃ ty : Nat → FieldType, ∀ k, k < N → parseFieldDescriptor (T k).2.2.1 = some (ty k)) ∧ ∀ a, a < N → ∀ b, b < N → a ≠ b → (T a).2.1 ≠ (T b).2.1
/-- entry index of own's pool is field k (of type ty, final or not) of class ci -/
def fl (own : String) (index ci k : Nat) (ty : FieldType) (fin : Bool) : Prop := ∃ (N1 : String) (T : u_T) (N : Nat), ck ci N1 T N ∧ k < N ∧ (T k).2.2.2 = fin ∧ parseFieldDescriptor (T k).2.2.1 = some ty ∧ (T k).1 = N1 ∧
  ((Cond.fieldLink own index (T k).1 (T k).2.1 (T k).2.2.1) ∈ tbl ∨ ∃ host, (Cond.fieldLinkNest own index (T k).1 (T k).2.1 (T k).2.2.1 host) ∈ tbl)
theorem r_get (C : Cx p l s m args meth c D A G cc nL own) {index ci k a : Nat} {fs : List Value} {v : Value} {ty : FieldType} {fin : Bool} (d : decode cc pc = .ok (.getfield index, 3)) (hF : fl own index ci k ty fin) (hh : h a = some (.inr (ci, fs))) (hv : fs[k]? = some v) (K : Rw p l e R s m args below meth c Q D G nL bc bs h n lo (pc + 3) (v :: st)) : Rw p l e R s m args below meth c Q D G nL bc bs h n lo pc (.ref a :: st) := by
  intro H ls locs cells slots hR hz hl hf hc hsz
  obtain ⟨N1, T, N, ⟨hc1, hin, -, -⟩, hk, -, -, -, hlk⟩ := hF
  have hP : va_P D clz [(a, .inr (ci, fs))] H := fun j x hx => by
    have hj : j < 1 := (List.getElem?_eq_some_iff.mp hx).1
    rw [show j = 0 by omega] at hx
    cases hx
    exact (hR.2.2 a _ hh).2
  have hts : ∀ w ∈ tbl, w.before args s = true := fun w hw => C.2.2.2.2.1.w hw
  rcases hlk with hlk | ⟨host, hlk⟩
  · exact va_get C.1 C.2.1 hts hin C.2.2.2.1 C.2.2.2.2.1.2.1 hP 0 rfl hc1 k hk (hts _ hlk) (fun _ q => q) hv d (K H ls locs cells slots hR hz hl hf hc hsz)
  · exact va_getN C.1 C.2.1 hts hin C.2.2.2.1 C.2.2.2.2.1.2.1 hP 0 rfl hc1 k hk (hts _ hlk) (fun _ q => q) hv d (K H ls locs cells slots hR hz hl hf hc hsz)
theorem r_put (C : Cx p l s m args meth c D A G cc nL own) {index ci k a : Nat} {fs : List Value} {v : Value} {ty : FieldType} (d : decode cc pc = .ok (.putfield index, 3)) (hF : fl own index ci k ty false) (hh : h a = some (.inr (ci, fs))) (hn : narrow ty v = v) (hfit : fits ty v = true) (hlen : k < fs.length) (K : Rw p l e R s m args below meth c Q D G nL bc bs (hs h a (.inr (ci, fs.set k v))) n lo (pc + 3) st) : Rw p l e R s m args below meth c Q D G nL bc bs h n lo pc (v :: .ref a :: st) := by
  intro H ls locs cells slots hR hz hl hf hc hsz
  obtain ⟨N1, T, N, ⟨hc1, hin, ⟨ty0, hty⟩, hnm⟩, hk, hfin, hd, -, hlk⟩ := hF
  have hts : ∀ w ∈ tbl, w.before args s = true := fun w hw => C.2.2.2.2.1.w hw
  have hK := C.2.2.2.2.1.2.1
  have hap := va_apart (own := own) hts hin ty0 hty hnm hK hc1
  obtain ⟨r, h1, cell, q1, q2, q3, q4⟩ := (hR.2.2 a _ hh).2
  have hr : r = (N1, T, N) := Option.some.inj (h1.symm.trans hc1)
  subst hr
  obtain ⟨hS, hfc, kC, hkC, hkind⟩ := hK.1 ci _ hc1
  obtain ⟨cf, kf, fi, f, hi, hsl⟩ := hS k hk
  have hlay := hts _ (hin _ (u_in_lay hk))
  unfold u_lay at hlay
  rw [if_neg (by rw [hfin]; decide)] at hlay
  have hst := (u_facts hfc hkC (u_lays hts hin hk) hi).1
  have h6 := u_store hfc hkC hkind hlay hi hd hn hfit
  have fin : ∀ H' : Heap, H'[a]? = some (cell.setSlot f.slot v) → H'.size = H.size → (∀ q, q ≠ a → H'[q]? = H[q]?) → W p l e R s m args below meth c H' (locs ++ [⟨a, f.slot⟩]) cells slots Q (F0 m (pc + 3) ls st) := by
    intro H' e1 e2 e3
    rw [hsl] at e1
    refine K H' ls _ cells slots (hR.put hh e2 e3 ⟨_, hc1, t_OB.to (V := updV (vp_V fs) k v) ⟨_, e1, q2, q3, t_set q4 hap hk v⟩ (fun j _ => vp_updV_set hlen v j)⟩) (by omega) hl (fun q hq => ?_) hc hsz
    rcases List.mem_append.mp hq with hq | hq
    · exact hf q hq
    · rw [List.mem_singleton.mp hq]
      exact (hR.2.2 a _ hh).1
  rcases hlk with hlk | ⟨host, hlk⟩
  · exact W.putK C.1 C.2.1 (f := f) ⟨C.2.2.2.1, hts _ hlk, ⟨_, _, _, hi⟩, hst⟩ (by rw [q2]; exact h6) q1 q3 (by rw [hsl]; exact k2_hasslot (q4 k hk)) rfl rfl d fin
  · exact va_WputK C.1 C.2.1 (f := f) C.2.2.2.1 (hts _ hlk) hi hst (by rw [q2]; exact h6) q1 q3 (by rw [hsl]; exact k2_hasslot (q4 k hk)) rfl rfl d fin
theorem r_putF (C : Cx p l s m args meth c D A G cc nL own) {index ci k a : Nat} {fs : List Value} {v : Value} {ty : FieldType} (d : decode cc pc = .ok (.putfield index, 3)) (hF : fl own index ci k ty true) (ho : ∃ (T : u_T) (N : Nat), clz[ci]? = some (own, T, N)) (hin2 : meth.name = "<init>") (hfl : ∀ host ref nm ds, Cond.fieldLinkNest own index ref nm ds host ∉ tbl) (hh : h a = some (.inr (ci, fs))) (hn : narrow ty v = v) (hfit : fits ty v = true) (hlen : k < fs.length) (K : Rw p l e R s m args below meth c Q D G nL bc bs (hs h a (.inr (ci, fs.set k v))) n lo (pc + 3) st) : Rw p l e R s m args below meth c Q D G nL bc bs h n lo pc (v :: .ref a :: st) := by
  intro H ls locs cells slots hR hz hl hf hc hsz
  obtain ⟨N1, T, N, ⟨hc1, hin, ⟨ty0, hty⟩, hnm⟩, hk, hfin, hd, hdecl, hlk⟩ := hF
  have hN1 : N1 = own := by
    obtain ⟨T9, N9, h9⟩ := ho
    have := hc1.symm.trans h9
    simp only [Option.some.injEq, Prod.mk.injEq] at this
    exact this.1
  have hts : ∀ w ∈ tbl, w.before args s = true := fun w hw => C.2.2.2.2.1.w hw
  have hK := C.2.2.2.2.1.2.1
  have hap := va_apart (own := own) hts hin ty0 hty hnm hK hc1
  obtain ⟨r, h1, cell, q1, q2, q3, q4⟩ := (hR.2.2 a _ hh).2
  have hr : r = (N1, T, N) := Option.some.inj (h1.symm.trans hc1)
  subst hr
  obtain ⟨hS, hfc, kC, hkC, hkind⟩ := hK.1 ci _ hc1
  obtain ⟨cf, kf, fi, f, hi, hsl⟩ := hS k hk
  have hlay := hts _ (hin _ (u_in_lay hk))
  unfold u_lay at hlay
  rw [if_pos hfin] at hlay
  have hst := (u_facts hfc hkC (u_lays hts hin hk) hi).1
  have hcf : m.cls = cf := by
    obtain ⟨_, _, c', _, _, _, -, -, hf', -, -, -, hown2, -⟩ := Cond.laysFinal_spec hlay
    have e1 : c' = cf := by have := hi.symm.trans hf'; simp at this; exact this.1.symm
    rw [hdecl, hN1] at hown2
    rw [← e1]; exact Option.some.inj (C.2.2.2.1.symm.trans hown2)
  have h6 := u_fits hfc hkC hkind (Or.inr hlay) hi hd hn hfit
  have fin : ∀ H' : Heap, H'[a]? = some (cell.setSlot f.slot v) → H'.size = H.size → (∀ q, q ≠ a → H'[q]? = H[q]?) → W p l e R s m args below meth c H' (locs ++ [⟨a, f.slot⟩]) cells slots Q (F0 m (pc + 3) ls st) := by
    intro H' e1 e2 e3
    rw [hsl] at e1
    refine K H' ls _ cells slots (hR.put hh e2 e3 ⟨_, hc1, t_OB.to (V := updV (vp_V fs) k v) ⟨_, e1, q2, q3, t_set q4 hap hk v⟩ (fun j _ => vp_updV_set hlen v j)⟩) (by omega) hl (fun q hq => ?_) hc hsz
    rcases List.mem_append.mp hq with hq | hq
    · exact hf q hq
    · rw [List.mem_singleton.mp hq]
      exact (hR.2.2 a _ hh).1
  rcases hlk with hlk | ⟨host, hlk⟩
  · exact W.putFinK C.1 C.2.1 C.2.2.2.1 (hts _ hlk) hi hst hcf hin2 (by rw [q2]; exact h6) q1 q3 (by rw [hsl]; exact k2_hasslot (q4 k hk)) rfl rfl d fin
  · exact absurd hlk (hfl _ _ _ _)
/-- entry index of own's pool is class ci, of k fields -/
def nk (own : String) (index ci : Nat) : Prop := ∃ (N1 : String) (T : u_T) (N : Nat), ck ci N1 T N ∧ Cond.classLink own index N1 ∈ tbl ∧ Cond.instantiable N1 N ∈ tbl ∧ Cond.initialized N1 ∈ tbl
theorem r_new (C : Cx p l s m args meth c D A G cc nL own) {index ci N : Nat} {fs : List Value} (d : decode cc pc = .ok (.new index, 3)) (hF : nk own index ci) (hN : ∃ (N1 : String) (T : u_T), clz[ci]? = some (N1, T, N) ∧ ∀ j, j < N → ∀ ty, parseFieldDescriptor (T j).2.2.1 = some ty → defaultValue ty = vp_V fs j)
    (K : (∀ j, n ≤ j → h (G.size + j) = none) → Rw p l e R s m args below meth c Q D G nL bc bs (hs h (G.size + n) (.inr (ci, fs))) (n + 1) lo (pc + 3) (.ref (G.size + n) :: st)) : Rw p l e R s m args below meth c Q D G nL (bc + 1) (bs + N) h n lo pc st := by
  intro H ls locs cells slots hR hz hl hf hc hsz
  obtain ⟨N1, T, N0, ⟨hc1, hin, ⟨ty0, hty⟩, hnm⟩, k1, k2, k3⟩ := hF
  obtain ⟨N9, T9, h9, hfs⟩ := hN
  have hts : ∀ w ∈ tbl, w.before args s = true := fun w hw => C.2.2.2.2.1.w hw
  have e9 := hc1.symm.trans h9
  simp only [Option.some.injEq, Prod.mk.injEq] at e9
  obtain ⟨rfl, rfl, rfl⟩ := e9
  have hKn := C.2.2.2.2.1.2.1.1 ci _ hc1
  have hbc : 1 ≤ bc + 1 := by omega
  refine W.newcK C.1 C.2.1 C.2.2.2.1 (hts _ k1) (hts _ k2) (hts _ k3) rfl d (by omega) (by omega) hKn.2.1 rfl fun H1 kC hkC e1 z1 o1 => ?_
  have e2 := hR.1
  have hb := (u_born ty0 hts hin hKn hkC e1 hty).to (V' := vp_V fs) (fun j hj => hfs j hj _ (hty j hj))
  have hR1 := hR.new z1 o1 (x := .inr (ci, fs)) ⟨_, hc1, hb⟩
  have hr : H.size = G.size + n := e2
  show W p l e R s m args below meth c H1 locs (cells + 1) (slots + N0) Q (F0 m (pc + 3) ls (.ref H.size :: st))
  rw [hr]
  exact K hR.fresh H1 ls locs _ _ hR1 (by omega) hl hf (by omega) (by omega)

theorem r_iald (C : Cx p l s m args meth c D A G cc nL own) {a k i : Nat} {f : Nat → Int32} {x : Int32} (d : decode cc pc = .ok (.iaload, 1)) (hh : h a = some (ic A k f)) (hx : x = nI i) (hi : i < k) (hk : k < 2 ^ 31) (K : Rw p l e R s m args below meth c Q D G nL bc bs h n lo (pc + 1) (.int (f i) :: st)) : Rw p l e R s m args below meth c Q D G nL bc bs h n lo pc (.int x :: .ref a :: st) := by
  intro H ls locs cells slots hR hz hl hf hc hsz
  have hP : va_P D clz [(a, ic A k f)] H := fun j y hy => by
    have hj : j < 1 := (List.getElem?_eq_some_iff.mp hy).1
    rw [show j = 0 by omega] at hy
    cases hy
    exact (hR.2.2 a _ hh).2
  subst hx
  refine va_iald C.1 C.2.1 C.2.2.2.2.1.2.1 hP 0 0 rfl rfl (vp_in_nI hi hk) d ?_
  rw [nI_clamp (by omega)]
  exact K H ls locs cells slots hR hz hl hf hc hsz
theorem r_iast (C : Cx p l s m args meth c D A G cc nL own) {a k i : Nat} {f : Nat → Int32} {x : Int32} {y : Int32} (d : decode cc pc = .ok (.iastore, 1)) (hh : h a = some (ic A k f)) (hx : x = nI i) (hi : i < k) (hk : k < 2 ^ 31) (K : Rw p l e R s m args below meth c Q D G nL bc bs (hs h a (ic A k (upd f i y))) n lo (pc + 1) st) : Rw p l e R s m args below meth c Q D G nL bc bs h n lo pc (.int y :: .int x :: .ref a :: st) := by
  intro H ls locs cells slots hR hz hl hf hc hsz
  subst hx
  have hat : H[a]? = some (vp_cell _ _) := (hR.2.2 a _ hh).2
  refine W.iast C.1 C.2.1 hat ((C.2.2.2.2.1.2.1.2 0 _ rfl).1 k (fun j => .int (f j))) (fun q => by cases q) (by show ¬ (nI i < 0 ∨ (arrV _ _ _).slots.size ≤ _); rw [arrV_size]; exact vp_in_nI hi hk) rfl rfl d fun H1 e1 z1 oq => ?_
  refine K H1 ls _ cells slots (hR.put hh z1 oq ?_) (by omega) hl (fun q hq => ?_) hc hsz
  · show H1[a]? = some (vp_cell _ _)
    rw [e1, nI_clamp (by omega)]
    rw [vp_cell_i, vp_cell_i, arrV_store]
    congr 2
    funext q
    by_cases hq : q = i
    · subst hq
      simp [updV, upd]
    · simp [updV, upd, hq]
  · rcases List.mem_append.mp hq with hq | hq
    · exact hf q hq
    · rw [List.mem_singleton.mp hq]
      exact (hR.2.2 a _ hh).1
theorem r_zald (C : Cx p l s m args meth c D A G cc nL own) {a k i : Nat} {f : Nat → Int32} {x : Int32} (d : decode cc pc = .ok (.baload, 1)) (hh : h a = some (zc A k f)) (hx : x = nI i) (hi : i < k) (hk : k < 2 ^ 31) (K : Rw p l e R s m args below meth c Q D G nL bc bs h n lo (pc + 1) (.int (f i) :: st)) : Rw p l e R s m args below meth c Q D G nL bc bs h n lo pc (.int x :: .ref a :: st) := by
  intro H ls locs cells slots hR hz hl hf hc hsz
  have hP : va_P D clz [(a, zc A k f)] H := fun j y hy => by
    have hj : j < 1 := (List.getElem?_eq_some_iff.mp hy).1
    rw [show j = 0 by omega] at hy
    cases hy
    exact (hR.2.2 a _ hh).2
  subst hx
  refine va_zald C.1 C.2.1 C.2.2.2.2.1.2.1 hP 0 1 rfl rfl (vp_in_nI hi hk) d ?_
  rw [nI_clamp (by omega)]
  exact K H ls locs cells slots hR hz hl hf hc hsz
theorem r_zast (C : Cx p l s m args meth c D A G cc nL own) {a k i : Nat} {f : Nat → Int32} {x : Int32} {y : Int32} (d : decode cc pc = .ok (.bastore, 1)) (hh : h a = some (zc A k f)) (hx : x = nI i) (hi : i < k) (hk : k < 2 ^ 31) (hy : y = 0 ∨ y = 1) (K : Rw p l e R s m args below meth c Q D G nL bc bs (hs h a (zc A k (upd f i y))) n lo (pc + 1) st) : Rw p l e R s m args below meth c Q D G nL bc bs h n lo pc (.int y :: .int x :: .ref a :: st) := by
  intro H ls locs cells slots hR hz hl hf hc hsz
  subst hx
  have hat : H[a]? = some (vp_cell _ _) := (hR.2.2 a _ hh).2
  refine W.zast C.1 C.2.1 hat ((C.2.2.2.2.1.2.1.2 1 _ rfl).1 k (fun j => .int (f j))) (fun q => by cases q) (by show ¬ (nI i < 0 ∨ (arrV _ _ _).slots.size ≤ _); rw [arrV_size]; exact vp_in_nI hi hk) rfl rfl d fun H1 e1 z1 oq => ?_
  refine K H1 ls _ cells slots (hR.put hh z1 oq ?_) (by omega) hl (fun q hq => ?_) hc hsz
  · show H1[a]? = some (vp_cell _ _)
    rw [e1, nI_clamp (by omega)]
    rw [vp_cell_i, vp_cell_i, arrV_store]
    congr 2
    funext q
    by_cases hq : q = i
    · subst hq
      simp [updV, upd]
      rcases hy with rfl | rfl <;> rfl
    · simp [updV, upd, hq]
  · rcases List.mem_append.mp hq with hq | hq
    · exact hf q hq
    · rw [List.mem_singleton.mp hq]
      exact (hR.2.2 a _ hh).1
theorem r_jald (C : Cx p l s m args meth c D A G cc nL own) {a k i : Nat} {f : Nat → Int64} {x : Int32} (d : decode cc pc = .ok (.laload, 1)) (hh : h a = some (jc A k f)) (hx : x = nI i) (hi : i < k) (hk : k < 2 ^ 31) (K : Rw p l e R s m args below meth c Q D G nL bc bs h n lo (pc + 1) (.long (f i) :: st)) : Rw p l e R s m args below meth c Q D G nL bc bs h n lo pc (.int x :: .ref a :: st) := by
  intro H ls locs cells slots hR hz hl hf hc hsz
  have hP : va_P D clz [(a, jc A k f)] H := fun j y hy => by
    have hj : j < 1 := (List.getElem?_eq_some_iff.mp hy).1
    rw [show j = 0 by omega] at hy
    cases hy
    exact (hR.2.2 a _ hh).2
  subst hx
  refine va_lald C.1 C.2.1 C.2.2.2.2.1.2.1 hP 0 2 rfl rfl (vp_in_nI hi hk) d ?_
  rw [nI_clamp (by omega)]
  exact K H ls locs cells slots hR hz hl hf hc hsz
theorem r_jast (C : Cx p l s m args meth c D A G cc nL own) {a k i : Nat} {f : Nat → Int64} {x : Int32} {y : Int64} (d : decode cc pc = .ok (.lastore, 1)) (hh : h a = some (jc A k f)) (hx : x = nI i) (hi : i < k) (hk : k < 2 ^ 31) (K : Rw p l e R s m args below meth c Q D G nL bc bs (hs h a (jc A k (vp_updL f i y))) n lo (pc + 1) st) : Rw p l e R s m args below meth c Q D G nL bc bs h n lo pc (.long y :: .int x :: .ref a :: st) := by
  intro H ls locs cells slots hR hz hl hf hc hsz
  subst hx
  have hat : H[a]? = some (vp_cell _ _) := (hR.2.2 a _ hh).2
  refine W.last C.1 C.2.1 hat ((C.2.2.2.2.1.2.1.2 2 _ rfl).1 k (fun j => .long (f j))) (fun q => by cases q) (by show ¬ (nI i < 0 ∨ (arrV _ _ _).slots.size ≤ _); rw [arrV_size]; exact vp_in_nI hi hk) rfl rfl d fun H1 e1 z1 oq => ?_
  refine K H1 ls _ cells slots (hR.put hh z1 oq ?_) (by omega) hl (fun q hq => ?_) hc hsz
  · show H1[a]? = some (vp_cell _ _)
    rw [e1, nI_clamp (by omega)]
    rw [vp_cell_l, vp_cell_l, arrV_store]
    congr 2
    funext q
    by_cases hq : q = i
    · subst hq
      simp [updV, vp_updL]
    · simp [updV, vp_updL, hq]
  · rcases List.mem_append.mp hq with hq | hq
    · exact hf q hq
    · rw [List.mem_singleton.mp hq]
      exact (hR.2.2 a _ hh).1
theorem r_aald (C : Cx p l s m args meth c D A G cc nL own) {a k i t : Nat} {N1 : String} {f : Nat → Option Nat} {x : Int32} (d : decode cc pc = .ok (.aaload, 1)) (hh : h a = some (rc A t k f)) (ht : (tyz A)[t]? = some (A t, .object N1)) (hx : x = nI i) (hi : i < k) (hk : k < 2 ^ 31) (K : Rw p l e R s m args below meth c Q D G nL bc bs h n lo (pc + 1) (va_rf (f i) :: st)) : Rw p l e R s m args below meth c Q D G nL bc bs h n lo pc (.int x :: .ref a :: st) := by
  intro H ls locs cells slots hR hz hl hf hc hsz
  have hP : va_P D clz [(a, rc A t k f)] H := fun j y hy => by
    have hj : j < 1 := (List.getElem?_eq_some_iff.mp hy).1
    rw [show j = 0 by omega] at hy
    cases hy
    exact (hR.2.2 a _ hh).2
  subst hx
  refine va_aldq C.1 C.2.1 C.2.2.2.2.1.2.1 hP 0 t rfl ht (vp_in_nI hi hk) d ?_
  rw [nI_clamp (by omega)]
  exact K H ls locs cells slots hR hz hl hf hc hsz
theorem r_aast (C : Cx p l s m args meth c D A G cc nL own) {a b k i t ci : Nat} {N1 : String} {T : u_T} {N : Nat} {vs : List Value} {f : Nat → Option Nat} {x : Int32} (d : decode cc pc = .ok (.aastore, 1)) (hh : h a = some (rc A t k f)) (ht : (tyz A)[t]? = some (A t, .object N1)) (hb : h b = some (.inr (ci, vs))) (hci : clz[ci]? = some (N1, T, N)) (hx : x = nI i) (hi : i < k) (hk : k < 2 ^ 31) (K : Rw p l e R s m args below meth c Q D G nL bc bs (hs h a (rc A t k (va_up f i (some b)))) n lo (pc + 1) st) : Rw p l e R s m args below meth c Q D G nL bc bs h n lo pc (.ref b :: .int x :: .ref a :: st) := by
  intro H ls locs cells slots hR hz hl hf hc hsz
  subst hx
  have hat : H[a]? = some (vp_cell _ _) := (hR.2.2 a _ hh).2
  have hK := C.2.2.2.2.1.2.1
  obtain ⟨r9, hr9, cellV, g1, g2, g3, -⟩ := (hR.2.2 b _ hb).2
  have hcls := (hK.1 ci _ hci).2
  obtain ⟨kA, comp, k1, k2, k3, -⟩ := (hK.2 t _ ht).2
  have hcomp : comp = D.1 ci := Option.some.inj (k3.symm.trans hcls.1)
  subst hcomp
  obtain ⟨kC, hkC, -⟩ := hcls.2
  refine W.aast C.1 C.2.1 hat (fun q h => by cases h) (fun h => by cases h) k1 k2 rfl hkC ⟨nI_pos (by omega), by show _ < (arrV _ _ _).slots.size; rw [arrV_size, nI_clamp (by omega)]; exact hi⟩ g1 (fun q h => by rw [g3] at h; cases h) (by rw [g2]; exact hkC) (by rw [g2]; exact va_assign hcls) rfl rfl d fun H1 e1 z1 oq => ?_
  refine K H1 ls _ cells slots (hR.put hh z1 oq ?_) (by omega) hl (fun q hq => ?_) hc hsz
  · show H1[a]? = some (vp_cell _ _)
    rw [e1, nI_clamp (by omega)]
    rw [vp_cell_q, vp_cell_q, arrV_store]
    congr 2
    funext q
    by_cases hq : q = i
    · subst hq
      simp [updV, va_up, va_rf]
    · simp [updV, va_up, hq]
  · rcases List.mem_append.mp hq with hq | hq
    · exact hf q hq
    · rw [List.mem_singleton.mp hq]
      exact (hR.2.2 a _ hh).1
theorem r_aastN (C : Cx p l s m args meth c D A G cc nL own) {a k i t : Nat} {N1 : String} {f : Nat → Option Nat} {x : Int32} (d : decode cc pc = .ok (.aastore, 1)) (hh : h a = some (rc A t k f)) (ht : (tyz A)[t]? = some (A t, .object N1)) (hx : x = nI i) (hi : i < k) (hk : k < 2 ^ 31) (K : Rw p l e R s m args below meth c Q D G nL bc bs (hs h a (rc A t k (va_up f i none))) n lo (pc + 1) st) : Rw p l e R s m args below meth c Q D G nL bc bs h n lo pc (.null :: .int x :: .ref a :: st) := by
  intro H ls locs cells slots hR hz hl hf hc hsz
  subst hx
  have hat : H[a]? = some (vp_cell _ _) := (hR.2.2 a _ hh).2
  refine va_WaastN (C := N1) C.1 C.2.1 hat ((C.2.2.2.2.1.2.1.2 t _ ht).1 k (fun j => va_rf (f j))) (fun h => by cases h) (by show ¬ (nI i < 0 ∨ (arrV _ _ _).slots.size ≤ _); rw [arrV_size]; exact vp_in_nI hi hk) rfl rfl d fun H1 e1 z1 oq => ?_
  refine K H1 ls _ cells slots (hR.put hh z1 oq ?_) (by omega) hl (fun q hq => ?_) hc hsz
  · show H1[a]? = some (vp_cell _ _)
    rw [e1, nI_clamp (by omega)]
    rw [vp_cell_q, vp_cell_q, arrV_store]
    congr 2
    funext q
    by_cases hq : q = i
    · subst hq
      simp [updV, va_up, va_rf]
    · simp [updV, va_up, hq]
  · rcases List.mem_append.mp hq with hq | hq
    · exact hf q hq
    · rw [List.mem_singleton.mp hq]
      exact (hR.2.2 a _ hh).1
theorem r_newai (C : Cx p l s m args meth c D A G cc nL own) {k : Nat} {x : Int32} (d : decode cc pc = .ok (.newarray .int, 2)) (hw : Cond.arrayClass .int ∈ tbl) (hx : x = nI k) (hk : k < 65536) (K : (∀ j, n ≤ j → h (G.size + j) = none) → Rw p l e R s m args below meth c Q D G nL bc bs (hs h (G.size + n) (ic A k (fun _ => 0))) (n + 1) lo (pc + 2) (.ref (G.size + n) :: st)) : Rw p l e R s m args below meth c Q D G nL (bc + 1) (bs + k) h n lo pc (.int x :: st) := by
  intro H ls locs cells slots hR hz hl hf hc hsz
  subst hx
  have hr := hR.1
  have b0 : ¬ nI k < 0 := nI_pos (by omega)
  have b1 : (nI k).toNatClampNeg = k := nI_clamp (by omega)
  have b2 : k * 4 ≤ 536870912 := by omega
  have b3 : cells + 1 ≤ R.cells := by omega
  have b4 : slots + k ≤ R.slots := by omega
  have b5 : (Cond.arrayClass (newarray.typeOf .int)).before args s = true := C.2.2.2.2.1.w hw
  refine va_newaK (H := H) (h := H.size) (N := k) C.1 C.2.1 b5 rfl d rfl b0 b1 b2 b3 b4 rfl fun H1 cA e1 z1 o1 hAr hNm => ?_
  have hcA : cA = A 0 := Option.some.inj (hNm.symm.trans (C.2.2.2.2.1.2.1.2 0 _ rfl).2)
  subst hcA
  have hR1 := hR.new z1 o1 (x := ic A k (fun _ => 0)) e1
  show W p l e R s m args below meth c H1 locs (cells + 1) (slots + k) Q (F0 m (pc + 2) ls (.ref H.size :: st))
  rw [hr]
  exact K hR.fresh H1 ls locs _ _ hR1 (by omega) hl hf (by omega) (by omega)
theorem r_newaz (C : Cx p l s m args meth c D A G cc nL own) {k : Nat} {x : Int32} (d : decode cc pc = .ok (.newarray .boolean, 2)) (hw : Cond.arrayClass .boolean ∈ tbl) (hx : x = nI k) (hk : k < 65536) (K : (∀ j, n ≤ j → h (G.size + j) = none) → Rw p l e R s m args below meth c Q D G nL bc bs (hs h (G.size + n) (zc A k (fun _ => 0))) (n + 1) lo (pc + 2) (.ref (G.size + n) :: st)) : Rw p l e R s m args below meth c Q D G nL (bc + 1) (bs + k) h n lo pc (.int x :: st) := by
  intro H ls locs cells slots hR hz hl hf hc hsz
  subst hx
  have hr := hR.1
  have b0 : ¬ nI k < 0 := nI_pos (by omega)
  have b1 : (nI k).toNatClampNeg = k := nI_clamp (by omega)
  have b2 : k * 1 ≤ 536870912 := by omega
  have b3 : cells + 1 ≤ R.cells := by omega
  have b4 : slots + k ≤ R.slots := by omega
  have b5 : (Cond.arrayClass (newarray.typeOf .boolean)).before args s = true := C.2.2.2.2.1.w hw
  refine va_newaK (H := H) (h := H.size) (N := k) C.1 C.2.1 b5 rfl d rfl b0 b1 b2 b3 b4 rfl fun H1 cA e1 z1 o1 hAr hNm => ?_
  have hcA : cA = A 1 := Option.some.inj (hNm.symm.trans (C.2.2.2.2.1.2.1.2 1 _ rfl).2)
  subst hcA
  have hR1 := hR.new z1 o1 (x := zc A k (fun _ => 0)) e1
  show W p l e R s m args below meth c H1 locs (cells + 1) (slots + k) Q (F0 m (pc + 2) ls (.ref H.size :: st))
  rw [hr]
  exact K hR.fresh H1 ls locs _ _ hR1 (by omega) hl hf (by omega) (by omega)
theorem r_newaj (C : Cx p l s m args meth c D A G cc nL own) {k : Nat} {x : Int32} (d : decode cc pc = .ok (.newarray .long, 2)) (hw : Cond.arrayClass .long ∈ tbl) (hx : x = nI k) (hk : k < 65536) (K : (∀ j, n ≤ j → h (G.size + j) = none) → Rw p l e R s m args below meth c Q D G nL bc bs (hs h (G.size + n) (jc A k (fun _ => 0))) (n + 1) lo (pc + 2) (.ref (G.size + n) :: st)) : Rw p l e R s m args below meth c Q D G nL (bc + 1) (bs + k) h n lo pc (.int x :: st) := by
  intro H ls locs cells slots hR hz hl hf hc hsz
  subst hx
  have hr := hR.1
  have b0 : ¬ nI k < 0 := nI_pos (by omega)
  have b1 : (nI k).toNatClampNeg = k := nI_clamp (by omega)
  have b2 : k * 8 ≤ 536870912 := by omega
  have b3 : cells + 1 ≤ R.cells := by omega
  have b4 : slots + k ≤ R.slots := by omega
  have b5 : (Cond.arrayClass (newarray.typeOf .long)).before args s = true := C.2.2.2.2.1.w hw
  refine va_newaK (H := H) (h := H.size) (N := k) C.1 C.2.1 b5 rfl d rfl b0 b1 b2 b3 b4 rfl fun H1 cA e1 z1 o1 hAr hNm => ?_
  have hcA : cA = A 2 := Option.some.inj (hNm.symm.trans (C.2.2.2.2.1.2.1.2 2 _ rfl).2)
  subst hcA
  have hR1 := hR.new z1 o1 (x := jc A k (fun _ => 0)) e1
  show W p l e R s m args below meth c H1 locs (cells + 1) (slots + k) Q (F0 m (pc + 2) ls (.ref H.size :: st))
  rw [hr]
  exact K hR.fresh H1 ls locs _ _ hR1 (by omega) hl hf (by omega) (by omega)
theorem r_newaR (C : Cx p l s m args meth c D A G cc nL own) {k t index : Nat} {N1 : String} {x : Int32} (d : decode cc pc = .ok (.anewarray index, 3)) (ht : (tyz A)[t]? = some (A t, .object N1)) (h1 : Cond.classLink own index N1 ∈ tbl) (h2 : Cond.arrayOver (.object N1) ∈ tbl) (hx : x = nI k) (hk : k < 65536) (K : (∀ j, n ≤ j → h (G.size + j) = none) → Rw p l e R s m args below meth c Q D G nL bc bs (hs h (G.size + n) (rc A t k (fun _ => none))) (n + 1) lo (pc + 3) (.ref (G.size + n) :: st)) : Rw p l e R s m args below meth c Q D G nL (bc + 1) (bs + k) h n lo pc (.int x :: st) := by
  intro H ls locs cells slots hR hz hl hf hc hsz
  subst hx
  have hr := hR.1
  have hkc : (nI k).toNatClampNeg = k := nI_clamp (by omega)
  have b0 : ¬ nI k < 0 := nI_pos (by omega)
  have b2 : (nI k).toNatClampNeg * 4 ≤ 536870912 := by omega
  have b3 : cells + 1 ≤ R.cells := by omega
  have b4 : slots + (nI k).toNatClampNeg ≤ R.slots := by omega
  refine W.anew (H := H) C.1 C.2.1 C.2.2.2.1 (C.2.2.2.2.1.w h1) (C.2.2.2.2.1.w h2) rfl d rfl b0 b2 b3 b4 fun cA kA comp f1 f2 f3 f4 => ?_
  rw [hkc]
  obtain ⟨kA9, comp9, -, -, -, f9⟩ := (C.2.2.2.2.1.2.1.2 t _ ht).2
  have hcA : cA = A t := Option.some.inj (f1.symm.trans f9)
  subst hcA
  have hR1 : Rp D G (hs h (G.size + n) (rc A t k (fun _ => none))) (n + 1) (H.push { cls := A t, slots := Array.replicate k .null, vm := .none }) := by
    refine hR.new (by simp) (fun q hq => by rw [Array.getElem?_push, if_neg (Nat.ne_of_lt hq)]) ?_
    show (H.push _)[H.size]? = some (vp_cell _ _)
    rw [vp_cell_q, show (fun j : Nat => va_rf ((fun _ => none : Nat → Option Nat) j)) = (fun _ => Value.null) from rfl, ← arrV_new]
    simp
  show W p l e R s m args below meth c _ locs (cells + 1) (slots + k) Q (F0 m (pc + 3) ls (.ref H.size :: st))
  rw [hr]
  exact K hR.fresh _ ls locs _ _ hR1 (by rw [Array.size_push]; omega) hl hf (by omega) (by omega)
end Heap
