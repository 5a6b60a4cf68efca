def R_law : String := "SerialBusLaw"
def lw_P (b : Addr) (xs : List Int32) (args : Array Value) (s : State) : Prop := args = #[.ref b] ∧ s.IntsAt b xs ∧ xs.length ≤ 3584 ∧ (Jvm.Cond.and given_1 narrow_1).before args s = true
def lw_Q (_ : Array Value) (s : State) (o : Outcome) (t : State) : Prop := o = .returned (some (.int 1)) ∧ Framed s o t [] 601024 7293034
def lw_Z (below : List Frame) (a : Array Value) (s : State) : State → Prop := fun t => ∃ o, t.status = .running ∧ Ended t below o ∧ lw_Q a s o t
/-- the law's own end, with 1 on the stack, nothing written that was there before, its room as the claim has it -/
theorem lw_ret {p : Program} {l : Launch} {e : Env} {s : State} {m : MethodId} {below : List Frame} {meth : Method} {c : Code} {b : Nat} (hx : p.tables.exec = Jvm.exec) (hb : c.code = code) (hr : meth.sig.returnType = ret) (hlocks : meth.locks = false) {pc : Nat} {H : Heap} {ls : Array Slot} (hdg : decode code pc = .ok (.ireturn, 1)) : W p l e room_1 s m #[Value.ref b] below meth c H [] 601024 7293034 (lw_Z below #[Value.ref b] s) (F0 m pc ls [.int 1]) := by
  intro T hT X
  obtain ⟨fs, hret, hrun, hended, hW, hframe⟩ := X.leave (v := some (.int 1)) (hlocks := hlocks) (fun h => by rw [hr] at h; cases h)
  have hmeth' : T.vm.method? m = some meth := X.method'
  refine ⟨T.setFrames fs, ?_, .returned (some (.int 1)), hrun, hended, rfl, ⟨_, rfl⟩, hW, hframe⟩
  jvm_step X.here [X.here.top, hx, hb, hdg, hmeth', hr, ret, narrow_b1]
  (try refine ⟨rfl, ?_⟩); (try refine ⟨rfl, ?_⟩)
  first | (intro acts; rw [hret _ acts rfl rfl rfl]) | rw [hret _ _ rfl rfl rfl]
  exact Steps.refl _
/-- what holds at the law's entry: the machine, the code, the tables' words (any of lw_tbl by 'hts w (by decide +kernel)'), the script of L ints xs at the cell b, what the Statement gives of the start (any of its parts by flat_of_before) -/
def lw_At (p : Program) (s : State) (m : MethodId) (meth : Method) (c : Code) (b L : Nat) (xs : Nat → Int32) : Prop :=
  p.tables.exec = Jvm.exec ∧ c.code = code ∧ meth.sig.returnType = ret ∧ c.maxLocals = 7 ∧ s.vm.findClass R_law = some m.cls ∧ (∀ w ∈ lw_tbl, w.before #[Value.ref b] s = true) ∧ va_X b L xs s s.heap ∧ b < s.heap.size ∧ meth.locks = false ∧ (Jvm.Cond.and given_1 narrow_1).before #[Value.ref b] s = true
theorem st_in : ∀ q ∈ strl, q.1 = "SerialBus" ∧ Cond.stringRef q.1 q.2.1 q.2.2 ∈ tables_1 := List.forall_mem_cons.mpr ⟨⟨rfl, List.mem_of_getElem? (i := 268) (by decide +kernel)⟩, List.forall_mem_cons.mpr ⟨⟨rfl, List.mem_of_getElem? (i := 307) (by decide +kernel)⟩, List.forall_mem_cons.mpr ⟨⟨rfl, List.mem_of_getElem? (i := 314) (by decide +kernel)⟩, List.forall_mem_cons.mpr ⟨⟨rfl, List.mem_of_getElem? (i := 328) (by decide +kernel)⟩, List.forall_mem_cons.mpr ⟨⟨rfl, List.mem_of_getElem? (i := 346) (by decide +kernel)⟩, List.forall_mem_cons.mpr ⟨⟨rfl, List.mem_of_getElem? (i := 370) (by decide +kernel)⟩, List.forall_mem_cons.mpr ⟨⟨rfl, List.mem_of_getElem? (i := 371) (by decide +kernel)⟩, List.forall_mem_cons.mpr ⟨⟨rfl, List.mem_of_getElem? (i := 380) (by decide +kernel)⟩, List.forall_mem_cons.mpr ⟨⟨rfl, List.mem_of_getElem? (i := 394) (by decide +kernel)⟩, List.forall_mem_cons.mpr ⟨⟨rfl, List.mem_of_getElem? (i := 457) (by decide +kernel)⟩, List.forall_mem_cons.mpr ⟨⟨rfl, List.mem_of_getElem? (i := 458) (by decide +kernel)⟩, List.forall_mem_cons.mpr ⟨⟨rfl, List.mem_of_getElem? (i := 466) (by decide +kernel)⟩, List.forall_mem_cons.mpr ⟨⟨rfl, List.mem_of_getElem? (i := 474) (by decide +kernel)⟩, List.forall_mem_cons.mpr ⟨⟨rfl, List.mem_of_getElem? (i := 622) (by decide +kernel)⟩, List.forall_mem_cons.mpr ⟨⟨rfl, List.mem_of_getElem? (i := 623) (by decide +kernel)⟩, List.forall_mem_cons.mpr ⟨⟨rfl, List.mem_of_getElem? (i := 631) (by decide +kernel)⟩, List.forall_mem_cons.mpr ⟨⟨rfl, List.mem_of_getElem? (i := 632) (by decide +kernel)⟩, List.forall_mem_cons.mpr ⟨⟨rfl, List.mem_of_getElem? (i := 644) (by decide +kernel)⟩, fun _ h => absurd h List.not_mem_nil⟩⟩⟩⟩⟩⟩⟩⟩⟩⟩⟩⟩⟩⟩⟩⟩⟩⟩
theorem ar_p {s : State} {a : Array Value} {ty : FieldType} (h0 : ∀ C, ty ≠ .object C) (h : (Cond.arrayClass ty).before a s = true) : ∃ cA, ArrOfT s cA ty ∧ va_RA s cA ty := by
  obtain ⟨cA, kA, comp, h1, h2, h3⟩ := Cond.arrayClass_spec h
  refine ⟨cA, fun n z => ⟨fun k h => (by cases h), kA, h2, comp, h3⟩, ?_⟩
  cases ty with
  | object C => exact absurd rfl (h0 C)
  | _ => exact h1
theorem ar_o {s : State} {a : Array Value} {C : String} (h : (Cond.arrayOver (.object C)).before a s = true) : ∃ cA, ArrOfT s cA (.object C) ∧ va_RA s cA (.object C) := by
  obtain ⟨comp, cA, kA, h1, h2, h3, h4, h5⟩ := Cond.arrayOver_spec h
  exact ⟨cA, fun n z => ⟨fun k h => (by cases h), kA, h3, comp, h4⟩, kA, comp, h3, h4, h1, h5⟩
set_option maxRecDepth 100000 in
set_option maxHeartbeats 4000000 in
theorem ev_start {p : Program} {s : State} {m : MethodId} {meth : Method} {c : Code} {b L : Nat} {xs : Nat → Int32} (C0 : lw_At p s m meth c b L xs) : ∃ (D : va_G) (A : Nat → ClassId), Ev D A s.heap s := by
  obtain ⟨hx, hb, hr, hml, hown, hts, hX, hbl, hlocks, hgv⟩ := C0
  have hs := flat_of_before _ hgv
  have hw : ∀ w ∈ tbl, w.before #[] s = true := fun w hw => wk_at (List.mem_filter.mp hw).2 (State.WarmedH.refl s) (hts w (List.mem_filter.mp hw).1)
  have ht : ∀ w ∈ tables_1, w.before #[Value.ref b] s = true := fun w hw => hts w (List.mem_append_right _ hw)
  have hA : ∀ a : Nat, a < s.heap.size → ¬ (fun q : Nat => s.heap.size ≤ q) a := fun a h => Nat.not_le.mpr h
  obtain ⟨k0, i0, hk0⟩ := u_known (C := rn_N) (T := ft_N) (N := 17) (n := 17) hw it_N (hw _ (tm 70 (by decide +kernel) rfl))
  obtain ⟨k1, i1, hk1⟩ := u_known (C := rn_Q) (T := ft_Q) (N := 2) (n := 2) hw it_Q (hw _ (tm 76 (by decide +kernel) rfl))
  obtain ⟨k2, i2, hk2⟩ := u_known (C := rn_R) (T := ft_R) (N := 10) (n := 10) hw it_R (hw _ (tm 402 (by decide +kernel) rfl))
  obtain ⟨k3, i3, hk3⟩ := u_known (C := rn_T) (T := ft_T) (N := 2) (n := 2) hw it_T (hw _ (tm 55 (by decide +kernel) rfl))
  obtain ⟨k4, i4, hk4⟩ := u_known (C := rn_W) (T := ft_W) (N := 3) (n := 3) hw it_W (hw _ (tm 26 (by decide +kernel) rfl))
  obtain ⟨k5, i5, hk5⟩ := u_known (C := rn_S) (T := ft_S) (N := 9) (n := 9) hw it_S (hw _ (tm 18 (by decide +kernel) rfl))
  obtain ⟨k6, i6, hk6⟩ := u_known (C := rn_M) (T := ft_M) (N := 42) (n := 42) hw it_M (hw _ (tm 653 (by decide +kernel) rfl))
  obtain ⟨a0, ha0⟩ := ar_p (fun C h => by cases h) (ht (.arrayClass .int) (List.mem_of_getElem? (i := 53) (by decide +kernel)))
  obtain ⟨a1, ha1⟩ := ar_p (fun C h => by cases h) (ht (.arrayClass .boolean) (List.mem_of_getElem? (i := 67) (by decide +kernel)))
  obtain ⟨a2, ha2⟩ := ar_p (fun C h => by cases h) (ht (.arrayClass .long) (List.mem_of_getElem? (i := 946) (by decide +kernel)))
  obtain ⟨a3, ha3⟩ := ar_o (ht (.arrayOver (.object "SerialBus$Node")) (List.mem_of_getElem? (i := 69) (by decide +kernel)))
  obtain ⟨a4, ha4⟩ := ar_o (ht (.arrayOver (.object "SerialBus$Request")) (List.mem_of_getElem? (i := 82) (by decide +kernel)))
  refine ⟨(fun k => if k = 0 then k0 else if k = 1 then k1 else if k = 2 then k2 else if k = 3 then k3 else if k = 4 then k4 else if k = 5 then k5 else k6, fun k => if k = 0 then i0 else if k = 1 then i1 else if k = 2 then i2 else if k = 3 then i3 else if k = 4 then i4 else if k = 5 then i5 else i6), fun k => if k = 0 then a0 else if k = 1 then a1 else if k = 2 then a2 else if k = 3 then a3 else a4, hw, ⟨?_, ?_⟩, ?_, ?_, ?_, ?_⟩
  · intro k q hq
    match k, hq with
    | 0, hq => cases hq; exact hk0
    | 1, hq => cases hq; exact hk1
    | 2, hq => cases hq; exact hk2
    | 3, hq => cases hq; exact hk3
    | 4, hq => cases hq; exact hk4
    | 5, hq => cases hq; exact hk5
    | 6, hq => cases hq; exact hk6
    | k + 7, hq => simp [clz] at hq
  · intro k q hq
    match k, hq with
    | 0, hq => cases hq; exact ha0
    | 1, hq => cases hq; exact ha1
    | 2, hq => cases hq; exact ha2
    | 3, hq => cases hq; exact ha3
    | 4, hq => cases hq; exact ha4
    | k + 5, hq => simp [tyz] at hq
  · intro q hq
    obtain ⟨e1, e2⟩ := st_in q hq
    have e3 := ht _ e2
    obtain ⟨k, cf, i, a, -, -, -, -, -, hev⟩ := Cond.stringRef_spec (by rw [e1]; exact hk5.2.1) e3
    exact ⟨a, vk_R.of e3 hev⟩
  · exact List.forall_mem_cons.mpr ⟨va_Nc.of (hs (.not (.castable "java/lang/IllegalArgumentException" "java/util/NoSuchElementException")) (by decide +kernel)), List.forall_mem_cons.mpr ⟨va_Nc.of (hs (.not (.castable "java/lang/IllegalStateException" "java/util/NoSuchElementException")) (by decide +kernel)), List.forall_mem_cons.mpr ⟨va_Nc.of (hs (.not (.castable "java/lang/IllegalStateException" "java/lang/IllegalArgumentException")) (by decide +kernel)), List.forall_mem_cons.mpr ⟨va_Nc.of (hs (.not (.castable "java/lang/UnsupportedOperationException" "java/util/NoSuchElementException")) (by decide +kernel)), List.forall_mem_cons.mpr ⟨va_Nc.of (hs (.not (.castable "java/lang/UnsupportedOperationException" "java/lang/IllegalArgumentException")) (by decide +kernel)), List.forall_mem_cons.mpr ⟨va_Nc.of (hs (.not (.castable "java/lang/UnsupportedOperationException" "java/lang/IllegalStateException")) (by decide +kernel)), fun _ h => absurd h List.not_mem_nil⟩⟩⟩⟩⟩⟩
  · exact vx_Zqof (ht _ (List.mem_of_getElem? (i := 253) (by decide +kernel))) (ht (.initialized Bundle.tN) (List.mem_of_getElem? (i := 9) (by decide +kernel))) (hs (.isRef (.static "java/lang/Throwable" "UNASSIGNED_STACK" "[Ljava/lang/StackTraceElement;")) (by decide +kernel)) hA
  · exact vx_Zqof (ht _ (List.mem_of_getElem? (i := 255) (by decide +kernel))) (ht (.initialized Bundle.tN) (List.mem_of_getElem? (i := 9) (by decide +kernel))) (hs (.isRef (.static "java/lang/Throwable" "SUPPRESSED_SENTINEL" "Ljava/util/List;")) (by decide +kernel)) hA
