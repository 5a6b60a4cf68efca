section Found
/-- the heap above the base, by addresses -/
abbrev Hp : Type := Nat → Option va_E
def hs (h : Hp) (a : Nat) (x : va_E) : Hp := fun q => if q = a then some x else h q
theorem hs_eq (h : Hp) (a : Nat) (x : va_E) : hs h a x a = some x := if_pos rfl
theorem hs_ne {h : Hp} {a b : Nat} {x : va_E} (k : b ≠ a) : hs h a x b = h b := if_neg k
theorem hs_hs (h : Hp) (a : Nat) (x y : va_E) : hs (hs h a x) a y = hs h a y := by
  funext q
  unfold hs
  by_cases k : q = a
  · rw [if_pos k, if_pos k]
  · rw [if_neg k, if_neg k, if_neg k]
theorem hs_self {h : Hp} {a : Nat} {x : va_E} (k : h a = some x) : hs h a x = h := by
  funext q
  unfold hs
  by_cases z : q = a
  · rw [if_pos z, z, k]
  · rw [if_neg z]
theorem hs_comm (h : Hp) {a b : Nat} (x y : va_E) (k : a ≠ b) : hs (hs h a x) b y = hs (hs h b y) a x := by
  funext q
  unfold hs
  by_cases z : q = a
  · rw [if_pos z, if_neg (fun w => k (z.symm.trans w)), if_pos z]
  · rw [if_neg z, if_neg z]
/-- the real heap holds the base as it was, n cells above it, and what h says of them -/
def Rp (D : va_G) (G : Heap) (h : Hp) (n : Nat) (H : Heap) : Prop :=
  H.size = G.size + n ∧ (∀ q : Nat, q < G.size → H[q]? = G[q]?) ∧ ∀ (a : Nat) (x : va_E), h a = some x → G.size ≤ a ∧ va_at D clz (a, x) H
theorem Rp.lt {D : va_G} {G H : Heap} {h : Hp} {n a : Nat} {x : va_E} (r : Rp D G h n H) (k : h a = some x) : a < H.size := (r.2.2 a x k).2.lt
theorem Rp.lt2 {D : va_G} {G H : Heap} {h : Hp} {n a : Nat} {x : va_E} (r : Rp D G h n H) (k : h a = some x) : a < G.size + n := by rw [← r.1]; exact r.lt k
theorem Rp.put {D : va_G} {G H H1 : Heap} {h : Hp} {n a : Nat} {x y : va_E} (r : Rp D G h n H) (k : h a = some y) (z : H1.size = H.size) (oq : ∀ q : Nat, q ≠ a → H1[q]? = H[q]?) (w : va_at D clz (a, x) H1) : Rp D G (hs h a x) n H1 := by
  refine ⟨z.trans r.1, fun q hq => (oq q (fun e => ?_)).trans (r.2.1 q hq), fun b u hb => ?_⟩
  · have h1 := (r.2.2 a y k).1
    omega
  · by_cases hba : b = a
    · rw [hba, hs_eq] at hb
      cases hb
      rw [hba]
      exact ⟨(r.2.2 a y k).1, w⟩
    · rw [hs_ne hba] at hb
      exact ⟨(r.2.2 b u hb).1, (r.2.2 b u hb).2.kept (oq b hba)⟩
theorem Rp.new {D : va_G} {G H H1 : Heap} {h : Hp} {n : Nat} {x : va_E} (r : Rp D G h n H) (z : H1.size = H.size + 1) (oq : ∀ q : Nat, q < H.size → H1[q]? = H[q]?) (w : va_at D clz (H.size, x) H1) : Rp D G (hs h (G.size + n) x) (n + 1) H1 := by
  have hz := r.1
  refine ⟨by omega, fun q hq => (oq q (by omega)).trans (r.2.1 q hq), fun b u hb => ?_⟩
  by_cases hba : b = G.size + n
  · rw [hba, hs_eq] at hb
    cases hb
    rw [hba, ← hz]
    exact ⟨by omega, w⟩
  · rw [hs_ne hba] at hb
    exact ⟨(r.2.2 b u hb).1, (r.2.2 b u hb).2.kept (oq b (r.lt hb))⟩
theorem Rp.fresh {D : va_G} {G H : Heap} {h : Hp} {n : Nat} (r : Rp D G h n H) : ∀ k, n ≤ k → h (G.size + k) = none := by
  intro k hk
  cases hx : h (G.size + k) with
  | none => rfl
  | some x =>
    have h1 := r.lt2 hx
    omega
theorem Rp.grow {D : va_G} {G H H1 : Heap} {h : Hp} {n : Nat} (r : Rp D G h n H) (z : H.size ≤ H1.size) (oq : ∀ q : Nat, q < H.size → H1[q]? = H[q]?) : ∃ k, n ≤ k ∧ Rp D G h k H1 := by
  have hz := r.1
  exact ⟨H1.size - G.size, by omega, by omega, fun q hq => (oq q (by omega)).trans (r.2.1 q hq), fun b u hb => ⟨(r.2.2 b u hb).1, (r.2.2 b u hb).2.kept (oq b (r.lt hb))⟩⟩
/-- the texts that the class throws with -/
def strl : List (String × Nat × String) := [("SerialBus", 225, "no such node"), ("SerialBus", 228, "no such port"), ("SerialBus", 43, "a cable joins different nodes"), ("SerialBus", 54, "a port is not free"), ("SerialBus", 68, "the port is free"), ("SerialBus", 232, "no such word"), ("SerialBus", 90, "no such work"), ("SerialBus", 96, "all labels wait"), ("SerialBus", 110, "the queue is full"), ("SerialBus", 129, "no such channel"), ("SerialBus", 131, "no such bandwidth"), ("SerialBus", 139, "no such time"), ("SerialBus", 141, "no such number of ticks"), ("SerialBus", 230, "no such label"), ("SerialBus", 156, "the label is free"), ("SerialBus", 161, "the label is free or waits"), ("SerialBus", 163, "the request was not done"), ("SerialBus", 199, "nothing is told about that")]
def ncl : List (String × String) := [("java/lang/IllegalArgumentException", "java/util/NoSuchElementException"), ("java/lang/IllegalStateException", "java/util/NoSuchElementException"), ("java/lang/IllegalStateException", "java/lang/IllegalArgumentException"), ("java/lang/UnsupportedOperationException", "java/util/NoSuchElementException"), ("java/lang/UnsupportedOperationException", "java/lang/IllegalArgumentException"), ("java/lang/UnsupportedOperationException", "java/lang/IllegalStateException")]
/-- the kinds of words that stay as the tables warm -/
def wk (w : Cond) : Bool := goodWord w || match w with
  | .fieldLinkNest _ _ _ _ _ _ => true
  | .methodLinkNest _ _ _ _ => true
  | .arrayOver (.object _) => true
  | .castable _ _ => true
  | .declares _ => true
  | _ => false
def tbl : List Cond := lw_tbl.filter wk
theorem wk_at {w : Cond} {a a' : Array Value} {s U : State} (k : wk w = true) (hW : s.WarmedH U.vm) (hb : w.before a s = true) : w.before a' U = true := by
  unfold wk at k
  rcases (Bool.or_eq_true _ _).mp k with h1 | h1
  · exact word_at hW (good_of_word h1) hb
  · match w, h1, hb with
    | .methodLinkNest _ _ _ _, _, hb => exact va_Nw.use rfl (va_Nw.warmM hW (va_Nw.of rfl hb))
    | .fieldLinkNest _ _ _ _ _ _, _, hb => exact va_Nw.use rfl (va_Nw.warmF hW (va_Nw.of rfl hb))
    | .arrayOver (.object C), _, hb => exact va_AO.use (va_AO.moved hW.alike (va_AO.of hb))
    | .castable _ _, _, hb => exact va_Nw.use rfl (va_Nw.warmC hW (va_Nw.of rfl hb))
    | .declares _, _, hb => exact va_Nw.use rfl (va_Nw.warmD hW (va_Nw.of rfl hb))
def tyz (A : Nat → ClassId) : List (ClassId × FieldType) := [(A 0, .int), (A 1, .boolean), (A 2, .long), (A 3, .object "SerialBus$Node"), (A 4, .object "SerialBus$Request")]
/-- what the tables say, at every state of the run -/
def Ev (D : va_G) (A : Nat → ClassId) (G : Heap) (U : State) : Prop :=
  (∀ w ∈ tbl, w.before #[] U = true) ∧ va_K D clz (tyz A) U ∧ (∀ q ∈ strl, ∃ a, vk_R q.1 q.2.1 q.2.2 a U) ∧ (∀ q ∈ ncl, va_Nc q.1 q.2 U) ∧
  vx_Zq Bundle.tN "UNASSIGNED_STACK" Bundle.steD (fun q => G.size ≤ q) U G ∧ vx_Zq Bundle.tN "SUPPRESSED_SENTINEL" Bundle.listD (fun q => G.size ≤ q) U G
theorem Ev.warm {D : va_G} {A : Nat → ClassId} {G : Heap} {s U : State} (v : Ev D A G s) (hW : s.WarmedH U.vm) : Ev D A G U := by
  obtain ⟨h1, h2, h3, h4, h5, h6⟩ := v
  refine ⟨fun w hw => wk_at (List.mem_filter.mp hw).2 hW (h1 w hw), va_K.moved hW.alike h2, fun q hq => ?_, fun q hq => ?_, h5.moved hW.alike, h6.moved hW.alike⟩
  · obtain ⟨a, ha⟩ := h3 q hq
    exact ⟨a, ha.warm hW⟩
  · obtain ⟨a, b, k1, k2, k3⟩ := h4 q hq
    exact ⟨a, b, by rw [hW.alike.findClass]; exact k1, by rw [hW.alike.findClass]; exact k2, by rw [hW.alike.assignable]; exact k3⟩
theorem Ev.w {D : va_G} {A : Nat → ClassId} {G : Heap} {s : State} (v : Ev D A G s) {w : Cond} (hw : w ∈ tbl) {a : Array Value} : w.before a s = true := wk_at (List.mem_filter.mp hw).2 (State.WarmedH.refl s) (v.1 w hw)
/-- what holds all through a method's body -/
def Cx (p : Program) (l : Launch) (s : State) (m : MethodId) (args : Array Value) (meth : Method) (c : Code) (D : va_G) (A : Nat → ClassId) (G : Heap) (cc : ByteArray) (nL : Nat) (own : String) : Prop :=
  p.tables.exec = Jvm.exec ∧ c.code = cc ∧ c.maxLocals = nL ∧ s.vm.findClass own = some m.cls ∧ Ev D A G s ∧ meth.locks = false ∧ (∀ q : Nat, q < G.size → s.heap[q]? = G[q]?) ∧ l.stackTraces = false
/-- the machine, at pc with these locals and this stack, the heap as h says, room for bc cells of bs slots, comes to a state with Q -/
def Rw (p : Program) (l : Launch) (e : Env) (R : Room) (s : State) (m : MethodId) (args : Array Value) (below : List Frame) (meth : Method) (c : Code) (Q : State → Prop) (D : va_G) (G : Heap) (nL : Nat) (bc bs : Nat) (h : Hp) (n : Nat) (lo : List (Nat × Value)) (pc : Nat) (st : List Value) : Prop :=
  ∀ (H : Heap) (ls : Array Slot) (locs : List Loc) (cells slots : Nat), Rp D G h n H → s.heap.size ≤ H.size → lv_has ls nL lo → (∀ q ∈ locs, G.size ≤ q.base) → cells + bc ≤ R.cells → slots + bs ≤ R.slots → W p l e R s m args below meth c H locs cells slots Q (F0 m pc ls st)
/-- the locals: read, written -/
def gl (lo : List (Nat × Value)) (i : Nat) : Option Value := match lo with
  | [] => none
  | q :: t => bif q.1 == i then some q.2 else gl t i
def nl (lo : List (Nat × Value)) (i : Nat) : Bool := match i with
  | 0 => true
  | j + 1 => match gl lo j with
    | some v => v.category == 1
    | none => lo.all (fun q => !(q.1 == j))
def sl (lo : List (Nat × Value)) (i : Nat) (v : Value) : List (Nat × Value) := match lo with
  | [] => [(i, v)]
  | q :: t => bif q.1 == i then (i, v) :: t.filter (fun x => !(x.1 == i)) else q :: sl t i v
def wl (lo : List (Nat × Value)) : List (Nat × Value) → Prop
  | [] => True
  | q :: t => gl lo q.1 = some q.2 ∧ wl lo t
theorem gl_in {lo : List (Nat × Value)} {i : Nat} {v : Value} (k : gl lo i = some v) : (i, v) ∈ lo := by
  induction lo with
  | nil => cases k
  | cons q t ih =>
    unfold gl at k
    by_cases z : q.1 = i
    · rw [show (q.1 == i) = true by simpa using z] at k
      simp at k
      rw [← z, ← k]
      exact List.mem_cons_self
    · rw [show (q.1 == i) = false by simpa using z] at k
      exact List.mem_cons_of_mem _ (ih k)
theorem wl_in {lo lo' : List (Nat × Value)} (k : wl lo lo') : ∀ q ∈ lo', q ∈ lo := by
  induction lo' with
  | nil => intro q hq; cases hq
  | cons x t ih =>
    intro q hq
    rcases List.mem_cons.mp hq with rfl | hq
    · exact gl_in k.1
    · exact ih k.2 q hq
end Found
