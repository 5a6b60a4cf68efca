section Law1
variable {p : Program} {l : Launch} {e : Env} {R : Room} {s : State} {m : MethodId} {args : Array Value} {below : List Frame} {meth : Method} {c : Code} {Q : State → Prop} {D : va_G} {A : Nat → ClassId} {G : Heap} {cc : ByteArray} {nL : Nat} {own : String} {bc bs : Nat} {h : Hp} {n : Nat} {lo : List (Nat × Value)} {pc : Nat} {st : List Value}
/-- a method with handlers that throws nothing -/
def CtH (l : Launch) (D : va_G) (A : Nat → ClassId) (G : Heap) (y : MethodName) (cc : ByteArray) (maxL : Nat) (ret : Option FieldType) (hh : List (Nat × Nat × Nat × Nat)) (df bc bs : Nat) (as : List Value) (h : Hp) (n : Nat) (P : Option Value → Hp → Nat → Prop) : Prop :=
  vx_Met l y [.codeWith y cc maxL ret hh] (cR df bc bs) (cP D A G as h n) (cQ D G n P) (cX D G n (fun _ _ _ => False)) bc bs (fun q => G.size ≤ q)
theorem CtH.of {y : MethodName} {maxL df : Nat} {ret : Option FieldType} {hh : List (Nat × Nat × Nat × Nat)} {as : List Value} {P : Option Value → Hp → Nat → Prop} (hy : plainName y.cls = true) (hl : l.stackTraces = false) (hlen : (lg_sl as).length ≤ maxL)
    (body : ∀ (p : Program) (e : Env) (s : State) (m : MethodId) (args : Array Value) (below : List Frame) (meth : Method) (c : Code), Cx p l s m args meth c D A G cc maxL y.cls → meth.sig.returnType = ret → c.exceptionTable.toList = tableOf hh → Dp (cR df bc bs) df bc bs →
      Rw p l e (cR df bc bs) s m args below meth c (CQ D G n P (fun _ _ _ => False) below args s bc bs) D G maxL bc bs h n (lv_args 0 as) 0 []) : CtH l D A G y cc maxL ret hh df bc bs as h n P := by
  refine vx_ofWH hy rfl ?_
  intro p e s m args below meth c s₁ B hml hv
  have ht := vx_table (x := y) B (atoms_spec (ws := [Cond.codeWith y cc maxL ret hh]) B.pre _ List.mem_cons_self)
  obtain ⟨rfl, hR, hE⟩ := hv
  have hl2 := lv_entry as (n := maxL) hlen
  rw [lg_entry_eq]
  exact body p e s m _ below meth c ⟨B.exec, B.bytes, hml, findClass_of_methodNamed B.named, hE, B.notSynchronized, hR.2.1, hl⟩ B.returns ht ⟨Nat.le_refl _, Nat.le_refl _, rfl, rfl⟩ s.heap _ [] 0 0 hR (Nat.le_refl _) hl2 (fun q hq => nomatch hq) (Nat.le_of_eq (Nat.zero_add _)) (Nat.le_of_eq (Nat.zero_add _))
/-- the handler that takes it -/
theorem r_catch (C : Cx p l s m args meth c D A G cc nL own) {E name : String} (pre : List ExceptionTableEntry) (x : ExceptionTableEntry) (suf : List ExceptionTableEntry) (hsplit : c.exceptionTable.toList = pre ++ x :: suf) (hpass : ∀ z ∈ pre, z.catchType ≠ 0 ∧ ∃ nm, Cond.classLink own z.catchType nm ∈ tbl ∧ (E, nm) ∈ ncl) (hx : covers x pc = true) (h0 : x.catchType ≠ 0) (hlink : Cond.classLink own x.catchType name ∈ tbl) (hcast : Cond.castable E name ∈ tbl)
    (K : ∀ q, Rw p l e R s m args below meth c Q D G nL bc bs h n lo x.handlerPc [.ref q]) : Xw p l e R s m args below meth c Q D G nL bc bs E h n lo pc := by
  intro H ls locs cells slots q ce rest hR hz hl hf hc hsz g1 g2 g3
  have hE := C.2.2.2.2.1
  refine vx_catch C.2.2.2.1 pre x suf hsplit (fun z hz => Or.inr ?_) hx h0 (hE.w hlink) (hE.w hcast) g1 g2 g3 (K q H ls locs cells slots hR hz hl hf hc hsz)
  obtain ⟨h1, nm, h2, h3⟩ := hpass z hz
  exact ⟨h1, nm, hE.w h2, hE.2.2.2.1 _ h3⟩
theorem gh {index maxL : Nat} {y : MethodName} {bytes : ByteArray} {ret : Option FieldType} {hh : List (Nat × Nat × Nat × Nat)} (w1 : Cond.methodLink own index y ∈ tbl) (w2 : Cond.static y ∈ tbl) (w3 : Cond.initialized y.cls ∈ tbl) (w4 : Cond.codeWith y bytes maxL ret hh ∈ tbl) : GoodIn tbl (va_wsS own index y [Cond.codeWith y bytes maxL ret hh]) := by
  intro w hw
  unfold va_wsS at hw
  simp only [List.cons_append, List.nil_append, List.mem_cons, List.not_mem_nil, or_false] at hw
  rcases hw with e | e | e | e
  · rw [e]; exact ⟨w1, Or.inl rfl⟩
  · rw [e]; exact ⟨w2, Or.inl rfl⟩
  · rw [e]; exact ⟨w3, Or.inl rfl⟩
  · rw [e]; exact ⟨w4, Or.inl rfl⟩
theorem r_callSH {index maxL df df' bc' bs' bc0 bs0 k : Nat} {y : MethodName} {bytes : ByteArray} {ret : Option FieldType} {hh : List (Nat × Nat × Nat × Nat)} {as : List Value} {P : Option Value → Hp → Nat → Prop} (C : Cx p l s m args meth c D A G cc nL own) (dp : Dp R df bc0 bs0) (d : decode cc pc = .ok (.invokestatic index, 3)) (hg : GoodIn tbl (va_wsS own index y [Cond.codeWith y bytes maxL ret hh])) (w4 : y.cls ≠ "java/lang/invoke/MethodHandle" ∧ y.cls ≠ "java/lang/invoke/VarHandle" ∧ (parseMethodDescriptor y.desc).map (fun d => d.parameters.length) = some k) (w5 : maxL ≤ 40) (hM : CtH l D A G y bytes maxL ret hh df' bc' bs' as h n P) (hd : df' < df) (hk : as.length = k) {lst : List Value} (hst : lst = as.reverse ++ st) (hcat : (st.map fun v => v.category).sum ≤ 8)
    (K : ∀ v h' n', n ≤ n' → P v h' n' → Rw p l e R s m args below meth c Q D G nL bc bs h' n' lo (pc + 3) (v.toList ++ st)) : Rw p l e R s m args below meth c Q D G nL (bc + bc') (bs + bs') h n lo pc lst := by
  refine r_back (as := as) (X := fun _ _ _ => False) (g := F0 m pc #[] []) (fun H ls locs cells slots hR hl hc hsz => ?_) K (fun _ _ _ _ z => z.elim)
  obtain ⟨d1, d2, d3, d4⟩ := dp
  have a1 : df' + 8 + 1 ≤ R.frames := by omega
  have a2 : 8 + (maxL + 11) + (64 * df' + 400) ≤ R.locals := ar_1 w5 hd d2
  exact vx_runSX (As := as) (rest := st) ⟨C.1, C.2.1, C.2.2.1, C.2.2.2.1, fun w hw => C.2.2.2.2.1.w hw⟩ hM (vx_cwSW (Ts := tbl) k (fun w hw => C.2.2.2.2.1.w hw) hg rfl rfl rfl w4 ⟨a1, a2⟩) (pre_S C hR) rfl hk hl.1 hst (lv_room hcat) d ⟨by omega, by omega⟩
end Law1
