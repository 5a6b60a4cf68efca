set_option maxRecDepth 10000 in
theorem ar_1 {a b f L : Nat} (h1 : a ≤ 40) (h2 : b < f) (h3 : 64 * f + 400 ≤ L) : 8 + (a + 11) + (64 * b + 400) ≤ L := by omega
theorem oi_1 : Cond.instanceMethod Lib.objectInit ∈ tbl := by decide +kernel
theorem oi_2 : Cond.code Lib.objectInit ⟨#[0xb1]⟩ 1 none ∈ tbl := by decide +kernel
section Calls
variable {p : Program} {l : Launch} {e : Env} {R : Room} {s : State} {m : MethodId} {args : Array Value} {below : List Frame} {meth : Method} {c : Code} {Q : State → Prop} {D : va_G} {A : Nat → ClassId} {G : Heap} {cc : ByteArray} {nL : Nat} {own : String} {bc bs : Nat} {h : Hp} {n : Nat} {lo : List (Nat × Value)} {pc : Nat} {st : List Value}
abbrev cP (D : va_G) (A : Nat → ClassId) (G : Heap) (as : List Value) (h : Hp) (n : Nat) : Array Value → State → Prop := va_Pc as (fun U => Rp D G h n U.heap ∧ Ev D A G U)
abbrev cQ (D : va_G) (G : Heap) (n : Nat) (P : Option Value → Hp → Nat → Prop) : Array Value → State → Outcome → State → Prop := fun _ _ o t => ∃ (v : Option Value) (h' : Hp) (n' : Nat), o = .returned v ∧ P v h' n' ∧ n ≤ n' ∧ Rp D G h' n' t.heap
abbrev cX (D : va_G) (G : Heap) (n : Nat) (X : String → Hp → Nat → Prop) : String → State → State → Prop := fun E _ t => ∃ (h' : Hp) (n' : Nat), X E h' n' ∧ n ≤ n' ∧ Rp D G h' n' t.heap
abbrev cR (df bc bs : Nat) : Room := { frames := df + 8, cells := bc, slots := bs, locals := 64 * df + 400 }
/-- method y, with these arguments over this heap: it returns with P, or throws E with X; df calls deep, bc cells of bs slots -/
def Ct (l : Launch) (D : va_G) (A : Nat → ClassId) (G : Heap) (y : MethodName) (cc : ByteArray) (maxL : Nat) (ret : Option FieldType) (df bc bs : Nat) (as : List Value) (h : Hp) (n : Nat) (P : Option Value → Hp → Nat → Prop) (X : String → Hp → Nat → Prop) : Prop :=
  vx_Met l y [.code y cc maxL ret] (cR df bc bs) (cP D A G as h n) (cQ D G n P) (cX D G n X) bc bs (fun q => G.size ≤ q)
theorem cP_blind {as : List Value} : FrameBlind (cP D A G as h n) := fun a U g mk q => ⟨q.1, q.2.1, Ev.warm (s := U) (U := U.calling g mk a) q.2.2 (State.WarmedH.refl U)⟩
/-- the end that a body owes -/
abbrev CQ (D : va_G) (G : Heap) (n : Nat) (P : Option Value → Hp → Nat → Prop) (X : String → Hp → Nat → Prop) (below : List Frame) (args : Array Value) (s : State) (bc bs : Nat) : State → Prop := vx_MQ below (cQ D G n P) (cX D G n X) args s bc bs (fun q => G.size ≤ q)
/-- how deep, and what the room has -/
abbrev Dp (R : Room) (df bc bs : Nat) : Prop := df + 8 ≤ R.frames ∧ 64 * df + 400 ≤ R.locals ∧ R.cells = bc ∧ R.slots = bs
theorem Ct.of {y : MethodName} {maxL df : Nat} {ret : Option FieldType} {as : List Value} {P : Option Value → Hp → Nat → Prop} {X : String → Hp → Nat → Prop} (hy : plainName y.cls = true) (hl : l.stackTraces = false) (hlen : (lg_sl as).length ≤ maxL)
    (body : ∀ (p : Program) (e : Env) (s : State) (m : MethodId) (args : Array Value) (below : List Frame) (meth : Method) (c : Code), Cx p l s m args meth c D A G cc maxL y.cls → meth.sig.returnType = ret → meth.name = y.name → (∀ x ∈ c.exceptionTable.toList, False) → Dp (cR df bc bs) df bc bs →
      Rw p l e (cR df bc bs) s m args below meth c (CQ D G n P X below args s bc bs) D G maxL bc bs h n (lv_args 0 as) 0 []) : Ct l D A G y cc maxL ret df bc bs as h n P X := by
  refine vx_ofW hy rfl ?_
  intro p e s m args below meth c s₁ B hml ht hv
  obtain ⟨rfl, hR, hE⟩ := hv
  have hl2 := lv_entry as (n := maxL) hlen
  rw [lg_entry_eq]
  exact body p e s m _ below meth c ⟨B.exec, B.bytes, hml, findClass_of_methodNamed B.named, hE, B.notSynchronized, hR.2.1, hl⟩ B.returns (name_of_methodNamed B.named B.method).1 ht ⟨Nat.le_refl _, Nat.le_refl _, rfl, rfl⟩ s.heap _ [] 0 0 hR (Nat.le_refl _) hl2 (fun q hq => nomatch hq) (Nat.le_of_eq (Nat.zero_add _)) (Nat.le_of_eq (Nat.zero_add _))
theorem Ct.mono {y : MethodName} {maxL df : Nat} {ret : Option FieldType} {as : List Value} {P P' : Option Value → Hp → Nat → Prop} {X X' : String → Hp → Nat → Prop} (k : Ct l D A G y cc maxL ret df bc bs as h n P X) (h1 : ∀ v h' n', P v h' n' → P' v h' n') (h2 : ∀ E h' n', X E h' n' → X' E h' n') : Ct l D A G y cc maxL ret df bc bs as h n P' X' := by
  intro p e a1 a2 a3 s m args below a4 a5 a6 a7
  obtain ⟨k9, o, b1, b2, b3, b4⟩ := k p e a1 a2 a3 s m args below a4 a5 a6 a7
  refine ⟨k9, o, b1, b2, b3, ?_⟩
  rcases b4 with ⟨⟨v, h', n', q1, q2, q3⟩, q4⟩ | ⟨q, ho, E, ce, L, ⟨h', n', x1, x2⟩, x3⟩
  · exact Or.inl ⟨⟨v, h', n', q1, h1 _ _ _ q2, q3⟩, q4⟩
  · exact Or.inr ⟨q, ho, E, ce, L, ⟨h', n', h2 _ _ _ x1, x2⟩, x3⟩
theorem Ct.met {y : MethodName} {maxL df : Nat} {ret : Option FieldType} {as : List Value} {P : Option Value → Hp → Nat → Prop} (k : Ct l D A G y cc maxL ret df bc bs as h n P (fun _ _ _ => False)) : Met l y [.code y cc maxL ret] (cR df bc bs) (cP D A G as h n) (cQ D G n P) bc bs (fun q => G.size ≤ q) := by
  intro p e a1 a2 a3 s m args below a4 a5 a6 a7
  obtain ⟨k9, o, b1, b2, b3, b4⟩ := k p e a1 a2 a3 s m args below a4 a5 a6 a7
  refine ⟨k9, o, b1, b2, b3, ?_⟩
  rcases b4 with b4 | ⟨q, ho, E, ce, L, ⟨h', n', x1, x2⟩, x3⟩
  · exact b4
  · exact x1.elim
/-! returns -/
theorem r_iret {n0 bc0 bs0 df : Nat} {P : Option Value → Hp → Nat → Prop} {X : String → Hp → Nat → Prop} (C : Cx p l s m args meth c D A G cc nL own) (dp : Dp R df bc0 bs0) (hr : meth.sig.returnType = some .int) {v : Int32} (d : decode cc pc = .ok (.ireturn, 1)) (hn : n0 ≤ n) (hP : P (some (.int v)) h n) : Rw p l e R s m args below meth c (CQ D G n0 P X below args s bc0 bs0) D G nL bc bs h n lo pc [.int v] := by
  intro H ls locs cells slots hR hz hl hf hc hsz
  obtain ⟨d1, d2, d3, d4⟩ := dp
  exact vx_ret (W.widen (k := bc0) (n := bs0) (by omega) (by omega) (W.iret C.1 C.2.1 hr (fun t ht hW => ⟨_, h, n, rfl, hP, hn, by rw [ht]; exact hR⟩) hf d C.2.2.2.2.2.1))
theorem r_zret {n0 bc0 bs0 df : Nat} {P : Option Value → Hp → Nat → Prop} {X : String → Hp → Nat → Prop} (C : Cx p l s m args meth c D A G cc nL own) (dp : Dp R df bc0 bs0) (hr : meth.sig.returnType = some .boolean) {v : Int32} (d : decode cc pc = .ok (.ireturn, 1)) (hv : v = 0 ∨ v = 1) (hn : n0 ≤ n) (hP : P (some (.int v)) h n) : Rw p l e R s m args below meth c (CQ D G n0 P X below args s bc0 bs0) D G nL bc bs h n lo pc [.int v] := by
  intro H ls locs cells slots hR hz hl hf hc hsz
  obtain ⟨d1, d2, d3, d4⟩ := dp
  exact vx_ret (W.widen (k := bc0) (n := bs0) (by omega) (by omega) (W.zret C.1 C.2.1 hr (by rcases hv with rfl | rfl <;> rfl) (fun t ht hW => ⟨_, h, n, rfl, hP, hn, by rw [ht]; exact hR⟩) hf d C.2.2.2.2.2.1))
theorem r_vret {n0 bc0 bs0 df : Nat} {P : Option Value → Hp → Nat → Prop} {X : String → Hp → Nat → Prop} (C : Cx p l s m args meth c D A G cc nL own) (dp : Dp R df bc0 bs0) (hr : meth.sig.returnType = none) (d : decode cc pc = .ok (.return_, 1)) (hn : n0 ≤ n) (hP : P none h n) : Rw p l e R s m args below meth c (CQ D G n0 P X below args s bc0 bs0) D G nL bc bs h n lo pc [] := by
  intro H ls locs cells slots hR hz hl hf hc hsz
  obtain ⟨d1, d2, d3, d4⟩ := dp
  exact vx_ret (W.widen (k := bc0) (n := bs0) (by omega) (by omega) (W.vret C.1 C.2.1 hr (fun t ht hW => ⟨_, h, n, rfl, hP, hn, by rw [ht]; exact hR⟩) hf d C.2.2.2.2.2.1))
theorem r_aret {n0 bc0 bs0 df : Nat} {P : Option Value → Hp → Nat → Prop} {X : String → Hp → Nat → Prop} (C : Cx p l s m args meth c D A G cc nL own) (dp : Dp R df bc0 bs0) {nm : String} (hr : meth.sig.returnType = some (.object nm)) {r : Option Nat} (d : decode cc pc = .ok (.areturn, 1)) (hn : n0 ≤ n) (hP : P (some (va_rf r)) h n) : Rw p l e R s m args below meth c (CQ D G n0 P X below args s bc0 bs0) D G nL bc bs h n lo pc [va_rf r] := by
  intro H ls locs cells slots hR hz hl hf hc hsz
  obtain ⟨d1, d2, d3, d4⟩ := dp
  exact vx_ret (W.widen (k := bc0) (n := bs0) (by omega) (by omega) (W.aret C.1 C.2.1 hr (Or.inl ⟨_, rfl⟩) (by cases r with | none => exact Or.inl rfl | some a => exact Or.inr ⟨a, rfl⟩) (fun t ht hW => ⟨_, h, n, rfl, hP, hn, by rw [ht]; exact hR⟩) hf d C.2.2.2.2.2.1))
/-! an exception on its way: class E, thrown over the frame at pc -/
def Xw (p : Program) (l : Launch) (e : Env) (R : Room) (s : State) (m : MethodId) (args : Array Value) (below : List Frame) (meth : Method) (c : Code) (Q : State → Prop) (D : va_G) (G : Heap) (nL : Nat) (bc bs : Nat) (E : String) (h : Hp) (n : Nat) (lo : List (Nat × Value)) (pc : Nat) : Prop :=
  ∀ (H : Heap) (ls : Array Slot) (locs : List Loc) (cells slots : Nat) (q : Addr) (ce : Cell) (rest : List Value), Rp D G h n H → s.heap.size ≤ H.size → lv_has ls nL lo → (∀ q ∈ locs, G.size ≤ q.base) → cells + bc ≤ R.cells → slots + bs ≤ R.slots → H[q]? = some ce → ce.vm = .none → s.vm.findClass E = some ce.cls → vx_W p l e R s m args below meth c H locs cells slots Q (F0 m pc ls rest) q
theorem x_out {n0 bc0 bs0 df : Nat} {P : Option Value → Hp → Nat → Prop} {X : String → Hp → Nat → Prop} {E : String} (C : Cx p l s m args meth c D A G cc nL own) (dp : Dp R df bc0 bs0) (ht : ∀ x ∈ c.exceptionTable.toList, False) (hn : n0 ≤ n) (hX : X E h n) : Xw p l e R s m args below meth c (CQ D G n0 P X below args s bc0 bs0) D G nL bc bs E h n lo pc := by
  intro H ls locs cells slots q ce rest hR hz hl hf hc hsz g1 g2 g3
  obtain ⟨d1, d2, d3, d4⟩ := dp
  exact vx_out (fun x hx => (ht x hx).elim) C.2.2.2.2.2.1 g1 g2 g3 (fun t e1 _ => ⟨h, n, hX, hn, by rw [e1]; exact hR⟩) hf (by omega) (by omega)
/-- throw new cls(text), out of a method without handlers -/
theorem r_throw {n0 bc0 bs0 df : Nat} {P : Option Value → Hp → Nat → Prop} {X : String → Hp → Nat → Prop} (C : Cx p l s m args meth c D A G cc nL own) (dp : Dp R df bc0 bs0) (ht : ∀ x ∈ c.exceptionTable.toList, False) {cls text : String} {names : List String} {ik is ie : Nat}
    (d0 : decode cc pc = .ok (.new ik, 3)) (d3 : decode cc (pc + 3) = .ok (.dup, 1)) (d4 : decode cc (pc + 4) = .ok (.ldc is, 2)) (d6 : decode cc (pc + 6) = .ok (.invokespecial ie, 3)) (d9 : decode cc (pc + 9) = .ok (.athrow, 1))
    (hcls : Bundle.fit cls = true) (hnames : ∀ w ∈ names, Bundle.fit w = true) (hlen : names.length ≤ 4) (hws : ∀ w ∈ Cond.classLink own ik cls :: Cond.initialized cls :: vx_atS own ie cls names, w ∈ tbl ∧ vx_ot w = true) (hstr : (own, is, text) ∈ strl)
    (hn : n0 ≤ n) (hst : (st.map fun v => v.category).sum ≤ 8) (hb : 1 ≤ bc ∧ 6 ≤ bs) (hX : ∀ n', n ≤ n' → X cls h n') : Rw p l e R s m args below meth c (CQ D G n0 P X below args s bc0 bs0) D G nL bc bs h n lo pc st := by
  intro H ls locs cells slots hR hz hl hf hc hsz
  obtain ⟨d1, d2, d3', d4'⟩ := dp
  have hE := C.2.2.2.2.1
  obtain ⟨sa, hsa⟩ := hE.2.2.1 _ hstr
  have hU := (hE.2.2.2.2.1).kept (H1 := s.heap) (fun a ha _ => C.2.2.2.2.2.2.1 a ha)
  have hN := (hE.2.2.2.2.2).kept (H1 := s.heap) (fun a ha _ => C.2.2.2.2.2.2.1 a ha)
  have hS : va_S (fun q => G.size ≤ q) s.heap H locs := ⟨hz, fun q _ h2 => by
    have h3 : q < G.size := Nat.not_le.mp h2
    rw [hR.2.1 q h3, C.2.2.2.2.2.2.1 q h3], hf⟩
  refine vx_throwS (names := names) C.1 C.2.1 C.2.2.2.2.2.2.2 C.2.2.2.1 hcls hnames (hE.w (hws _ List.mem_cons_self).1) (hE.w (hws _ (List.mem_cons_of_mem _ List.mem_cons_self)).1) hsa (fun w hw => hE.w (hws _ (List.mem_cons_of_mem _ (List.mem_cons_of_mem _ hw))).1) (fun w hw => (hws w hw).2) hU hN hS (hl.1.trans C.2.2.1.symm) d0 d3 d4 d6 d9 (fun x hx => (ht x hx).elim) (by omega) (by omega) (by omega) (by omega) C.2.2.2.2.2.1 (fun t _ t2 t3 => ?_) hf (by omega) (by omega)
  obtain ⟨n', hn', hR'⟩ := hR.grow t2 t3
  exact ⟨h, n', hX n' hn', Nat.le_trans hn hn', hR'⟩
/-! calls -/
/-- the words of a call: the entry, the code, the kind -/
def cw (own : String) (index : Nat) (y : MethodName) (bytes : ByteArray) (maxL : Nat) (ret : Option FieldType) (k : Nat) : Prop :=
  Cond.methodLink own index y ∈ tbl ∧ Cond.initialized y.cls ∈ tbl ∧ Cond.code y bytes maxL ret ∈ tbl ∧ (y.cls ≠ "java/lang/invoke/MethodHandle" ∧ y.cls ≠ "java/lang/invoke/VarHandle" ∧ (parseMethodDescriptor y.desc).map (fun d => d.parameters.length) = some k) ∧ maxL ≤ 40
theorem cw_B {index maxL df df' bc' bs' k bc0 bs0 : Nat} {y : MethodName} {bytes : ByteArray} {ret : Option FieldType} (C : Cx p l s m args meth c D A G cc nL own) (dp : Dp R df bc0 bs0) (hd : df' < df) (hw : cw own index y bytes maxL ret k) : CallB R s args own index y bytes maxL ret [.code y bytes maxL ret] (cR df' bc' bs') bc' bs' k := by
  obtain ⟨w1, w2, w3, w4, w5⟩ := hw
  have hE := C.2.2.2.2.1
  obtain ⟨d1, d2, d3, d4⟩ := dp
  have a1 : df' + 8 + 1 ≤ R.frames := by omega
  have a2 : 8 + (maxL + 11) + (64 * df' + 400) ≤ R.locals := ar_1 w5 hd d2
  refine callB_of (Ts := tbl) k (fun w hw => hE.w hw) (fun w hw => ?_) rfl rfl rfl (hE.w w2) (hE.w w1) w4 ⟨a1, a2⟩
  rw [List.mem_singleton.mp hw]
  exact ⟨w3, Or.inl rfl⟩
theorem pre_S {as : List Value} {H : Heap} (C : Cx p l s m args meth c D A G cc nL own) (hR : Rp D G h n H) : PreS s H (cP D A G as h n) as := ⟨cP_blind, fun U hU hW => ⟨rfl, by rw [hU]; exact hR, C.2.2.2.2.1.warm hW⟩⟩
theorem pre_V {as : List Value} {H : Heap} {b ci : Nat} {N1 : String} {T : u_T} {N : Nat} {fs : List Value} (C : Cx p l s m args meth c D A G cc nL own) (hR : Rp D G h n H) (hci : clz[ci]? = some (N1, T, N)) (hb : h b = some (.inr (ci, fs))) : PreV s H N1 b (cP D A G (.ref b :: as) h n) as := by
  obtain ⟨q', h1, cell, g1, g2, g3, -⟩ := (hR.2.2 b _ hb).2
  exact ⟨cP_blind, ⟨cell, g1, by rw [g3]; rfl, by rw [g2]; exact (C.2.2.2.2.1.2.1.1 ci _ hci).2.1⟩, fun U hU hW => ⟨rfl, by rw [hU]; exact hR, C.2.2.2.2.1.warm hW⟩⟩
section
variable {index maxL df df' bc' bs' bc0 bs0 k : Nat} {y : MethodName} {bytes : ByteArray} {ret : Option FieldType} {as : List Value} {P : Option Value → Hp → Nat → Prop} {X : String → Hp → Nat → Prop}
theorem r_back {g : JFrame} {lst : List Value} (hlo : ∀ (H : Heap) (ls : Array Slot) (locs : List Loc) (cells slots : Nat), Rp D G h n H → lv_has ls nL lo → cells + (bc + bc') ≤ R.cells → slots + (bs + bs') ≤ R.slots → vx_Run p l e R s m args below meth c H locs cells slots bc' bs' (F0 m pc ls lst) st (cQ D G n P (as.toArray)) (cX D G n X) (fun q => G.size ≤ q))
    (K : ∀ v h' n', n ≤ n' → P v h' n' → Rw p l e R s m args below meth c Q D G nL bc bs h' n' lo (pc + 3) (v.toList ++ st)) (KX : ∀ E h' n', n ≤ n' → X E h' n' → Xw p l e R s m args below meth c Q D G nL bc bs E h' n' lo pc) : Rw p l e R s m args below meth c Q D G nL (bc + bc') (bs + bs') h n lo pc lst := by
  intro H ls locs cells slots hR hz hl hf hc hsz
  intro T hT Xs
  rcases hlo H ls locs cells slots hR hl hc hsz T hT Xs with ⟨v, st₀, t, T', L, h0, X', hL, e1, e2, ⟨v', h', n', ho, hPp, hnn, hRp⟩, sp⟩ | ⟨q, st₀, t, T', L, E, ce, h0, X', hL, e1, e2, ⟨h', n', hx, hnn, hRp⟩, hce, hcv, hcl, sp⟩
  · cases ho
    have z1 := hR.1
    have z2 := hRp.1
    obtain ⟨t2, a1, b1⟩ := K v h' n' hnn hPp T'.heap ls (locs ++ L) (cells + bc') (slots + bs') (by rw [e1]; exact hRp) (by rw [e1]; omega) hl (fun q hq => by
      rcases List.mem_append.mp hq with hq | hq
      · exact hf q hq
      · exact hL q hq) (by omega) (by omega) T' rfl X'
    exact ⟨t2, sp t2 a1, b1⟩
  · have z1 := hR.1
    have z2 := hRp.1
    obtain ⟨t2, a1, b1⟩ := KX E h' n' hnn hx T'.heap ls (locs ++ L) (cells + bc') (slots + bs') q ce st (by rw [e1]; exact hRp) (by rw [e1]; omega) hl (fun q hq => by
      rcases List.mem_append.mp hq with hq | hq
      · exact hf q hq
      · exact hL q hq) (by omega) (by omega) (by rw [e1]; exact hce) hcv hcl T' rfl X'
    exact ⟨t2, sp.trans a1, b1⟩
theorem r_callS (C : Cx p l s m args meth c D A G cc nL own) (dp : Dp R df bc0 bs0) (d : decode cc pc = .ok (.invokestatic index, 3)) (hw : cw own index y bytes maxL ret k) (hs2 : Cond.static y ∈ tbl) (hM : Ct l D A G y bytes maxL ret df' bc' bs' as h n P X) (hd : df' < df) (hk : as.length = k) {lst : List Value} (hst : lst = as.reverse ++ st) (hcat : (st.map fun v => v.category).sum ≤ 8)
    (K : ∀ v h' n', n ≤ n' → P v h' n' → Rw p l e R s m args below meth c Q D G nL bc bs h' n' lo (pc + 3) (v.toList ++ st)) (KX : ∀ E h' n', n ≤ n' → X E h' n' → Xw p l e R s m args below meth c Q D G nL bc bs E h' n' lo pc) : Rw p l e R s m args below meth c Q D G nL (bc + bc') (bs + bs') h n lo pc lst := by
  refine r_back (as := as) (g := F0 m pc #[] []) (fun H ls locs cells slots hR hl hc hsz => ?_) K KX
  exact vx_runS (As := as) (rest := st) ⟨C.1, C.2.1, C.2.2.1, C.2.2.2.1, fun w hw => C.2.2.2.2.1.w hw⟩ hM ⟨cw_B C dp hd hw, C.2.2.2.2.1.w hs2⟩ (pre_S C hR) rfl hk hl.1 hst (lv_room hcat) d ⟨by omega, by omega⟩
theorem r_callV (C : Cx p l s m args meth c D A G cc nL own) (dp : Dp R df bc0 bs0) {ci b : Nat} {N1 : String} {T : u_T} {N : Nat} {fs : List Value} (d : decode cc pc = .ok (.invokevirtual index, 3)) (hw : cw own index y bytes maxL ret k) (hs2 : Cond.instanceMethod y ∈ tbl) (hs3 : Cond.selects N1 y y ∈ tbl) (hci : clz[ci]? = some (N1, T, N)) (hb : h b = some (.inr (ci, fs))) (hM : Ct l D A G y bytes maxL ret df' bc' bs' (.ref b :: as) h n P X) (hd : df' < df) (hk : as.length = k) {lst : List Value} (hst : lst = as.reverse ++ .ref b :: st) (hcat : (st.map fun v => v.category).sum ≤ 8)
    (K : ∀ v h' n', n ≤ n' → P v h' n' → Rw p l e R s m args below meth c Q D G nL bc bs h' n' lo (pc + 3) (v.toList ++ st)) (KX : ∀ E h' n', n ≤ n' → X E h' n' → Xw p l e R s m args below meth c Q D G nL bc bs E h' n' lo pc) : Rw p l e R s m args below meth c Q D G nL (bc + bc') (bs + bs') h n lo pc lst := by
  refine r_back (as := .ref b :: as) (g := F0 m pc #[] []) (fun H ls locs cells slots hR hl hc hsz => ?_) K KX
  exact vx_runV (As := as) (rest := st) ⟨C.1, C.2.1, C.2.2.1, C.2.2.2.1, fun w hw => C.2.2.2.2.1.w hw⟩ hM ⟨cw_B C dp hd hw, C.2.2.2.2.1.w hs2, C.2.2.2.2.1.w hs3⟩ (pre_V C hR hci hb) rfl hk hl.1 hst (lv_room hcat) d ⟨by omega, by omega⟩
theorem r_callI (C : Cx p l s m args meth c D A G cc nL own) (dp : Dp R df bc0 bs0) {b : Nat} (d : decode cc pc = .ok (.invokespecial index, 3)) (hw : cw own index y bytes maxL none k) (hy : y.name = "<init>") (hs2 : Cond.instanceMethod y ∈ tbl) (hM : Ct l D A G y bytes maxL none df' bc' bs' (.ref b :: as) h n P (fun _ _ _ => False)) (hd : df' < df) (hk : as.length = k) {lst : List Value} (hst : lst = as.reverse ++ .ref b :: st) (hcat : (st.map fun v => v.category).sum ≤ 8)
    (K : ∀ v h' n', n ≤ n' → P v h' n' → Rw p l e R s m args below meth c Q D G nL bc bs h' n' lo (pc + 3) (v.toList ++ st)) : Rw p l e R s m args below meth c Q D G nL (bc + bc') (bs + bs') h n lo pc lst := by
  refine r_back (as := .ref b :: as) (X := fun _ _ _ => False) (g := F0 m pc #[] []) (fun H ls locs cells slots hR hl hc hsz => ?_) K (fun _ _ _ _ z => z.elim)
  intro T hT Xs
  exact Or.inl (va_runI (As := as) (rest := st) ⟨C.1, C.2.1, C.2.2.1, C.2.2.2.1, fun w hw => C.2.2.2.2.1.w hw⟩ hM.met ⟨cw_B C dp hd hw, hy, C.2.2.2.2.1.w hs2⟩ (pre_S C hR) rfl hk hl.1 hst (lv_room hcat) d ⟨by omega, by omega⟩ T hT Xs)
theorem r_callIN (C : Cx p l s m args meth c D A G cc nL own) (dp : Dp R df bc0 bs0) {b : Nat} {host : String} (d : decode cc pc = .ok (.invokespecial index, 3)) (w1 : Cond.methodLinkNest own index y host ∈ tbl) (w2 : Cond.initialized y.cls ∈ tbl) (w3 : Cond.code y bytes maxL none ∈ tbl) (w4 : y.cls ≠ "java/lang/invoke/MethodHandle" ∧ y.cls ≠ "java/lang/invoke/VarHandle" ∧ (parseMethodDescriptor y.desc).map (fun d => d.parameters.length) = some k) (w5 : maxL ≤ 40) (hy : y.name = "<init>") (hs2 : Cond.instanceMethod y ∈ tbl) (hM : Ct l D A G y bytes maxL none df' bc' bs' (.ref b :: as) h n P (fun _ _ _ => False)) (hd : df' < df) (hk : as.length = k) {lst : List Value} (hst : lst = as.reverse ++ .ref b :: st) (hcat : (st.map fun v => v.category).sum ≤ 8)
    (K : ∀ v h' n', n ≤ n' → P v h' n' → Rw p l e R s m args below meth c Q D G nL bc bs h' n' lo (pc + 3) (v.toList ++ st)) : Rw p l e R s m args below meth c Q D G nL (bc + bc') (bs + bs') h n lo pc lst := by
  refine r_back (as := .ref b :: as) (X := fun _ _ _ => False) (g := F0 m pc #[] []) (fun H ls locs cells slots hR hl hc hsz => ?_) K (fun _ _ _ _ z => z.elim)
  intro T hT Xs
  obtain ⟨d1, d2, d3, d4⟩ := dp
  have hE := C.2.2.2.2.1
  have a1 : df' + 8 + 1 ≤ R.frames := by omega
  have a2 : 8 + (maxL + 11) + (64 * df' + 400) ≤ R.locals := ar_1 w5 hd d2
  exact Or.inl (va_runIN (As := as) (rest := st) (Ts := tbl) ⟨C.1, C.2.1, C.2.2.1, C.2.2.2.1, fun w hw => hE.w hw⟩ hM.met ⟨va_cnB (Ts := tbl) k (fun w hw => hE.w hw) (fun w hw => by rw [List.mem_singleton.mp hw]; exact ⟨w3, Or.inl rfl⟩) rfl rfl rfl (va_Nw.of rfl (hE.w (a := args) w1)) (hE.w w2) w4 ⟨a1, a2⟩, hy, hE.w hs2⟩ (pre_S C hR) rfl hk hl.1 hst (lv_room hcat) d ⟨by omega, by omega⟩ T hT Xs)
end
theorem r_objInit (C : Cx p l s m args meth c D A G cc nL own) {df bc0 bs0 a idx : Nat} (dp : Dp R df bc0 bs0) (d : decode cc pc = .ok (.invokespecial idx, 3)) (w1 : Cond.methodLink own idx Lib.objectInit ∈ tbl) (hcat : (st.map fun v => v.category).sum ≤ 8) (K : Rw p l e R s m args below meth c Q D G nL bc bs h n lo (pc + 3) st) : Rw p l e R s m args below meth c Q D G nL bc bs h n lo pc (.ref a :: st) := by
  intro H ls locs cells slots hR hz hl hf hc hsz
  obtain ⟨d1, d2, d3, d4⟩ := dp
  have hE := C.2.2.2.2.1
  refine W.objInit C.1 C.2.1 C.2.2.2.1 (hE.w w1) (hE.w oi_1) (hE.w oi_2) rfl (hl.1.trans C.2.2.1.symm) rfl d (by omega) ?_ (K H ls locs cells slots hR hz hl hf hc hsz)
  have := lv_room (m := m) (pc := pc) (ls := ls) (rest := st) hcat
  show 2 * (F0 m pc ls st).monitorRoom + _ + 12 ≤ _
  omega
end Calls
