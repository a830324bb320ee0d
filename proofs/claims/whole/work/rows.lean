section
-- ===== PART A: goes FIRST, ahead of the names: the tables' words, and 'selects' of the private methods out of them =====
/-- a private method of a class that the tables say can be made, by its rows of tables_1 -/
def lw_okq (q : MethodName × Nat) : Prop := (q.1.cls ≠ "java/lang/invoke/MethodHandle" ∧ q.1.cls ≠ "java/lang/invoke/VarHandle") ∧ Cond.instantiable q.1.cls q.2 ∈ tables_1 ∧ Cond.privateMethod q.1 ∈ tables_1 ∧ Cond.instanceMethod q.1 ∈ tables_1
theorem lw_p0 : lw_okq (⟨"java/lang/Throwable", "fillInStackTrace", "(I)Ljava/lang/Throwable;"⟩, 6) := ⟨⟨by decide +kernel, by decide +kernel⟩, List.mem_of_getElem? (i := 144) (by decide +kernel), List.mem_of_getElem? (i := 142) (by decide +kernel), List.mem_of_getElem? (i := 143) (by decide +kernel)⟩
theorem lw_p1 : lw_okq (⟨"SkyAlmanac", "bodyThatIsSet", "(I)LSkyAlmanac$Body;"⟩, 7) := ⟨⟨by decide +kernel, by decide +kernel⟩, List.mem_of_getElem? (i := 13) (by decide +kernel), List.mem_of_getElem? (i := 283) (by decide +kernel), List.mem_of_getElem? (i := 284) (by decide +kernel)⟩
theorem lw_p2 : lw_okq (⟨"SkyAlmanac", "longitudeOf", "(LSkyAlmanac$Body;D)D"⟩, 7) := ⟨⟨by decide +kernel, by decide +kernel⟩, List.mem_of_getElem? (i := 13) (by decide +kernel), List.mem_of_getElem? (i := 347) (by decide +kernel), List.mem_of_getElem? (i := 348) (by decide +kernel)⟩
theorem lw_p3 : lw_okq (⟨"SkyAlmanac", "anomalyOf", "(LSkyAlmanac$Body;D)D"⟩, 7) := ⟨⟨by decide +kernel, by decide +kernel⟩, List.mem_of_getElem? (i := 13) (by decide +kernel), List.mem_of_getElem? (i := 355) (by decide +kernel), List.mem_of_getElem? (i := 356) (by decide +kernel)⟩
theorem lw_p4 : lw_okq (⟨"SkyAlmanac$Body", "sumOfPower", "(ID)D"⟩, 10) := ⟨⟨by decide +kernel, by decide +kernel⟩, List.mem_of_getElem? (i := 22) (by decide +kernel), List.mem_of_getElem? (i := 388) (by decide +kernel), List.mem_of_getElem? (i := 389) (by decide +kernel)⟩
theorem lw_p5 : lw_okq (⟨"SkyAlmanac", "heightOf", "(LSkyAlmanac$Body;D)D"⟩, 7) := ⟨⟨by decide +kernel, by decide +kernel⟩, List.mem_of_getElem? (i := 13) (by decide +kernel), List.mem_of_getElem? (i := 400) (by decide +kernel), List.mem_of_getElem? (i := 401) (by decide +kernel)⟩
theorem lw_p6 : lw_okq (⟨"SkyAlmanac", "partOfGreatestHeight", "(LSkyAlmanac$Body;I)I"⟩, 7) := ⟨⟨by decide +kernel, by decide +kernel⟩, List.mem_of_getElem? (i := 13) (by decide +kernel), List.mem_of_getElem? (i := 422) (by decide +kernel), List.mem_of_getElem? (i := 423) (by decide +kernel)⟩
theorem lw_p7 : lw_okq (⟨"SkyAlmanac", "narrowedToHighest", "(LSkyAlmanac$Body;II)D"⟩, 7) := ⟨⟨by decide +kernel, by decide +kernel⟩, List.mem_of_getElem? (i := 13) (by decide +kernel), List.mem_of_getElem? (i := 430) (by decide +kernel), List.mem_of_getElem? (i := 431) (by decide +kernel)⟩
theorem lw_p8 : lw_okq (⟨"SkyAlmanac", "partOfCrossing", "(LSkyAlmanac$Body;IZ)I"⟩, 7) := ⟨⟨by decide +kernel, by decide +kernel⟩, List.mem_of_getElem? (i := 13) (by decide +kernel), List.mem_of_getElem? (i := 435) (by decide +kernel), List.mem_of_getElem? (i := 436) (by decide +kernel)⟩
theorem lw_p9 : lw_okq (⟨"SkyAlmanac", "narrowedToCrossing", "(LSkyAlmanac$Body;IIZ)D"⟩, 7) := ⟨⟨by decide +kernel, by decide +kernel⟩, List.mem_of_getElem? (i := 13) (by decide +kernel), List.mem_of_getElem? (i := 440) (by decide +kernel), List.mem_of_getElem? (i := 441) (by decide +kernel)⟩
theorem lw_p10 : lw_okq (⟨"SkyAlmanac", "put", "(C)V"⟩, 7) := ⟨⟨by decide +kernel, by decide +kernel⟩, List.mem_of_getElem? (i := 13) (by decide +kernel), List.mem_of_getElem? (i := 472) (by decide +kernel), List.mem_of_getElem? (i := 473) (by decide +kernel)⟩
theorem lw_p11 : lw_okq (⟨"SkyAlmanac", "putNumber", "(JI)V"⟩, 7) := ⟨⟨by decide +kernel, by decide +kernel⟩, List.mem_of_getElem? (i := 13) (by decide +kernel), List.mem_of_getElem? (i := 477) (by decide +kernel), List.mem_of_getElem? (i := 478) (by decide +kernel)⟩
theorem lw_p12 : lw_okq (⟨"SkyAlmanacModel", "fail", "(I)I"⟩, 13) := ⟨⟨by decide +kernel, by decide +kernel⟩, List.mem_of_getElem? (i := 503) (by decide +kernel), List.mem_of_getElem? (i := 558) (by decide +kernel), List.mem_of_getElem? (i := 559) (by decide +kernel)⟩
theorem lw_p13 : lw_okq (⟨"SkyAlmanacModel", "noBody", "(I)Z"⟩, 13) := ⟨⟨by decide +kernel, by decide +kernel⟩, List.mem_of_getElem? (i := 503) (by decide +kernel), List.mem_of_getElem? (i := 634) (by decide +kernel), List.mem_of_getElem? (i := 635) (by decide +kernel)⟩
theorem lw_p14 : lw_okq (⟨"SkyAlmanacModel", "bar", "(ID)I"⟩, 13) := ⟨⟨by decide +kernel, by decide +kernel⟩, List.mem_of_getElem? (i := 503) (by decide +kernel), List.mem_of_getElem? (i := 652) (by decide +kernel), List.mem_of_getElem? (i := 653) (by decide +kernel)⟩
theorem lw_p15 : lw_okq (⟨"SkyAlmanacModel", "along", "(ID)D"⟩, 13) := ⟨⟨by decide +kernel, by decide +kernel⟩, List.mem_of_getElem? (i := 503) (by decide +kernel), List.mem_of_getElem? (i := 658) (by decide +kernel), List.mem_of_getElem? (i := 659) (by decide +kernel)⟩
def lw_privs_1 : List (MethodName × Nat) := [(⟨"java/lang/Throwable", "fillInStackTrace", "(I)Ljava/lang/Throwable;"⟩, 6), (⟨"SkyAlmanac", "bodyThatIsSet", "(I)LSkyAlmanac$Body;"⟩, 7), (⟨"SkyAlmanac", "longitudeOf", "(LSkyAlmanac$Body;D)D"⟩, 7), (⟨"SkyAlmanac", "anomalyOf", "(LSkyAlmanac$Body;D)D"⟩, 7), (⟨"SkyAlmanac$Body", "sumOfPower", "(ID)D"⟩, 10), (⟨"SkyAlmanac", "heightOf", "(LSkyAlmanac$Body;D)D"⟩, 7), (⟨"SkyAlmanac", "partOfGreatestHeight", "(LSkyAlmanac$Body;I)I"⟩, 7), (⟨"SkyAlmanac", "narrowedToHighest", "(LSkyAlmanac$Body;II)D"⟩, 7), (⟨"SkyAlmanac", "partOfCrossing", "(LSkyAlmanac$Body;IZ)I"⟩, 7), (⟨"SkyAlmanac", "narrowedToCrossing", "(LSkyAlmanac$Body;IIZ)D"⟩, 7), (⟨"SkyAlmanac", "put", "(C)V"⟩, 7), (⟨"SkyAlmanac", "putNumber", "(JI)V"⟩, 7), (⟨"SkyAlmanacModel", "fail", "(I)I"⟩, 13), (⟨"SkyAlmanacModel", "noBody", "(I)Z"⟩, 13), (⟨"SkyAlmanacModel", "bar", "(ID)I"⟩, 13), (⟨"SkyAlmanacModel", "along", "(ID)D"⟩, 13)]
theorem lw_r1 : ∀ q ∈ lw_privs_1, lw_okq q := List.forall_mem_cons.mpr ⟨lw_p0, List.forall_mem_cons.mpr ⟨lw_p1, List.forall_mem_cons.mpr ⟨lw_p2, List.forall_mem_cons.mpr ⟨lw_p3, List.forall_mem_cons.mpr ⟨lw_p4, List.forall_mem_cons.mpr ⟨lw_p5, List.forall_mem_cons.mpr ⟨lw_p6, List.forall_mem_cons.mpr ⟨lw_p7, List.forall_mem_cons.mpr ⟨lw_p8, List.forall_mem_cons.mpr ⟨lw_p9, List.forall_mem_cons.mpr ⟨lw_p10, List.forall_mem_cons.mpr ⟨lw_p11, List.forall_mem_cons.mpr ⟨lw_p12, List.forall_mem_cons.mpr ⟨lw_p13, List.forall_mem_cons.mpr ⟨lw_p14, List.forall_mem_cons.mpr ⟨lw_p15, fun _ h => absurd h List.not_mem_nil⟩⟩⟩⟩⟩⟩⟩⟩⟩⟩⟩⟩⟩⟩⟩⟩
theorem lw_p16 : lw_okq (⟨"SkyAlmanacModel", "sum", "(IID)D"⟩, 13) := ⟨⟨by decide +kernel, by decide +kernel⟩, List.mem_of_getElem? (i := 503) (by decide +kernel), List.mem_of_getElem? (i := 691) (by decide +kernel), List.mem_of_getElem? (i := 692) (by decide +kernel)⟩
theorem lw_p17 : lw_okq (⟨"SkyAlmanacModel", "above", "(ID)D"⟩, 13) := ⟨⟨by decide +kernel, by decide +kernel⟩, List.mem_of_getElem? (i := 503) (by decide +kernel), List.mem_of_getElem? (i := 699) (by decide +kernel), List.mem_of_getElem? (i := 700) (by decide +kernel)⟩
theorem lw_p18 : lw_okq (⟨"SkyAlmanacModel", "highest", "(ID)D"⟩, 13) := ⟨⟨by decide +kernel, by decide +kernel⟩, List.mem_of_getElem? (i := 503) (by decide +kernel), List.mem_of_getElem? (i := 716) (by decide +kernel), List.mem_of_getElem? (i := 717) (by decide +kernel)⟩
theorem lw_p19 : lw_okq (⟨"SkyAlmanacModel", "passes", "(IDZ)D"⟩, 13) := ⟨⟨by decide +kernel, by decide +kernel⟩, List.mem_of_getElem? (i := 503) (by decide +kernel), List.mem_of_getElem? (i := 722) (by decide +kernel), List.mem_of_getElem? (i := 723) (by decide +kernel)⟩
theorem lw_p20 : lw_okq (⟨"SkyAlmanacModel", "crossing", "(IDDZ)D"⟩, 13) := ⟨⟨by decide +kernel, by decide +kernel⟩, List.mem_of_getElem? (i := 503) (by decide +kernel), List.mem_of_getElem? (i := 726) (by decide +kernel), List.mem_of_getElem? (i := 727) (by decide +kernel)⟩
theorem lw_p21 : lw_okq (⟨"SkyAlmanacModel", "put", "(I)V"⟩, 13) := ⟨⟨by decide +kernel, by decide +kernel⟩, List.mem_of_getElem? (i := 503) (by decide +kernel), List.mem_of_getElem? (i := 742) (by decide +kernel), List.mem_of_getElem? (i := 743) (by decide +kernel)⟩
theorem lw_p22 : lw_okq (⟨"SkyAlmanacModel", "digits", "(JI)V"⟩, 13) := ⟨⟨by decide +kernel, by decide +kernel⟩, List.mem_of_getElem? (i := 503) (by decide +kernel), List.mem_of_getElem? (i := 747) (by decide +kernel), List.mem_of_getElem? (i := 748) (by decide +kernel)⟩
def lw_privs_2 : List (MethodName × Nat) := [(⟨"SkyAlmanacModel", "sum", "(IID)D"⟩, 13), (⟨"SkyAlmanacModel", "above", "(ID)D"⟩, 13), (⟨"SkyAlmanacModel", "highest", "(ID)D"⟩, 13), (⟨"SkyAlmanacModel", "passes", "(IDZ)D"⟩, 13), (⟨"SkyAlmanacModel", "crossing", "(IDDZ)D"⟩, 13), (⟨"SkyAlmanacModel", "put", "(I)V"⟩, 13), (⟨"SkyAlmanacModel", "digits", "(JI)V"⟩, 13)]
theorem lw_r2 : ∀ q ∈ lw_privs_2, lw_okq q := List.forall_mem_cons.mpr ⟨lw_p16, List.forall_mem_cons.mpr ⟨lw_p17, List.forall_mem_cons.mpr ⟨lw_p18, List.forall_mem_cons.mpr ⟨lw_p19, List.forall_mem_cons.mpr ⟨lw_p20, List.forall_mem_cons.mpr ⟨lw_p21, List.forall_mem_cons.mpr ⟨lw_p22, fun _ h => absurd h List.not_mem_nil⟩⟩⟩⟩⟩⟩⟩
def lw_privs : List (MethodName × Nat) := lw_privs_1 ++ (lw_privs_2)
def lw_tbl : List Cond := k2_sels lw_privs ++ tables_1
theorem lw_privs_ok : ∀ q ∈ lw_privs, lw_okq q := by
  show ∀ q ∈ lw_privs_1 ++ (lw_privs_2), lw_okq q
  exact List.forall_mem_append.mpr ⟨lw_r1, lw_r2⟩
-- ===== end of PART A; then your names; then what follows =====
/-! THE CLAIM OUT OF ONE WALK OF THE LAW'S BODY. Your part is whole_start (and what it stands on); all else here is the same for every law, but numbers. -/
def R_law : String := "SkyAlmanacLaw"
def lw_P (b : Addr) (xs : List Int32) (args : Array Value) (s : State) : Prop := args = #[.ref b] ∧ s.IntsAt b xs ∧ xs.length ≤ 3072 ∧ (Jvm.Cond.and given_1 narrow_1).before args s = true
def lw_Q (_ : Array Value) (s : State) (o : Outcome) (t : State) : Prop := o = .returned (some (.int 1)) ∧ Framed s o t [] 620239 7235387
def lw_Z (below : List Frame) (a : Array Value) (s : State) : State → Prop := fun t => ∃ o, t.status = .running ∧ Ended t below o ∧ lw_Q a s o t
/-- the law's own end, with 1 on the stack, nothing written that was there before, its room as the claim has it -/
theorem lw_ret {p : Program} {l : Launch} {e : Env} {s : State} {m : MethodId} {below : List Frame} {meth : Method} {c : Code} {b : Nat} (hx : p.tables.exec = Jvm.exec) (hb : c.code = code) (hr : meth.sig.returnType = ret) (hlocks : meth.locks = false) {pc : Nat} {H : Heap} {ls : Array Slot} (hdg : decode code pc = .ok (.ireturn, 1)) : W p l e room_1 s m #[Value.ref b] below meth c H [] 620239 7235387 (lw_Z below #[Value.ref b] s) (F0 m pc ls [.int 1]) := by
  intro T hT X
  obtain ⟨fs, hret, hrun, hended, hW, hframe⟩ := X.leave (v := some (.int 1)) (hlocks := hlocks) (fun h => by rw [hr] at h; cases h)
  have hmeth' : T.vm.method? m = some meth := X.method'
  refine ⟨T.setFrames fs, ?_, .returned (some (.int 1)), hrun, hended, rfl, ⟨_, rfl⟩, hW, hframe⟩
  jvm_step X.here [X.here.top, hx, hb, hdg, hmeth', hr, ret, narrow_b1]
  (try refine ⟨rfl, ?_⟩); (try refine ⟨rfl, ?_⟩)
  first | (intro acts; rw [hret _ acts rfl rfl rfl]) | rw [hret _ _ rfl rfl rfl]
  exact Steps.refl _
/-- what holds at the law's entry: the machine, the code, the tables' words (any of lw_tbl by 'hts w (by decide +kernel)'), the script of L ints xs at the cell b, what the Statement gives of the start (any of its parts by flat_of_before) -/
def lw_At (p : Program) (s : State) (m : MethodId) (meth : Method) (c : Code) (b L : Nat) (xs : Nat → Int32) : Prop :=
  p.tables.exec = Jvm.exec ∧ c.code = code ∧ meth.sig.returnType = ret ∧ c.maxLocals = 9 ∧ s.vm.findClass R_law = some m.cls ∧ (∀ w ∈ lw_tbl, w.before #[Value.ref b] s = true) ∧ va_X b L xs s s.heap ∧ b < s.heap.size ∧ meth.locks = false ∧ (Jvm.Cond.and given_1 narrow_1).before #[Value.ref b] s = true

/-! ===== a callee's throw, caught by a row of the table behind rows that name other classes (our own rows: the rounds' library has none) ===== -/
section ZC
/-- what the search for a handler gives, whatever is asked behind it, and the tables that it leaves -/
def zc_Finds (e : Env) (s : State) (f : JFrame) (a : Addr) (h : Handler) (vm' : Vm) : Prop :=
  ∀ (Q : Handler → Pre) (E : CtlPost) (d : Bool) (acts : List Action), wp (findHandler f a) Q E e d acts s ↔ Q h d acts (s.setVm vm')
section
variable {Q : Handler → Pre} {E : CtlPost} {e : Env} {d : Bool} {acts : List Action} {s : State} {f : JFrame} {a : Addr}
theorem zc_go {x : ExceptionTableEntry} {t : List ExceptionTableEntry} {c : ClassId} {cell : Cell} (hx : covers x f.pc = true) (h0 : x.catchType ≠ 0)
    (hl : s.vm.ClassLinks e.platform f.method.cls x.catchType c) (hcell : s.heap[a]? = some cell) (hobj : ∀ k, cell.vm ≠ .statics k)
    (hk : ∃ k, s.vm.classes[cell.cls]? = some k) (hc : ∃ k, s.vm.classes[c]? = some k) :
    (s.vm.assignable cell.cls c = true → (wp (findHandler.go f a (x :: t)) Q E e d acts s ↔ Q (.found x.handlerPc) d acts (s.setVm (s.vm.noted f.method.cls x.catchType (.cls c))))) ∧
    (s.vm.assignable cell.cls c = false → (wp (findHandler.go f a (x :: t)) Q E e d acts s ↔ wp (findHandler.go f a t) Q E e d acts (s.setVm (s.vm.noted f.method.cls x.catchType (.cls c))))) := by
  simp only [covers] at hx
  obtain ⟨ha, ht⟩ := (resolveClass_links e.toSetting hl).op (op := VmOp.resolveClass f.method.cls x.catchType) rfl
  have hal : s.vm.Alike (s.vm.noted f.method.cls x.catchType (.cls c)) := (Vm.Alike.refl s.vm).noted _ _ _
  obtain ⟨k1, hk1⟩ := hk
  obtain ⟨k2, hk2⟩ := hc
  obtain ⟨k1', hk1', -⟩ := hal.2.2 _ _ hk1
  obtain ⟨k2', hk2', -⟩ := hal.2.2 _ _ hk2
  refine ⟨fun hf => ?_, fun hf => ?_⟩
  · have hf' : (s.vm.noted f.method.cls x.catchType (.cls c)).assignable cell.cls c = true := by rw [hal.assignable]; exact hf
    simp [findHandler.go, hx, h0, ha, ht, hcell, hobj, hk1', hk2', hf', VmOp.dirties, VmOp.acts]
  · have hf' : (s.vm.noted f.method.cls x.catchType (.cls c)).assignable cell.cls c = false := by rw [hal.assignable]; exact hf
    simp [findHandler.go, hx, h0, ha, ht, hcell, hobj, hk1', hk2', hf', VmOp.dirties, VmOp.acts]
end
theorem zc_walk {e : Env} {s₀ : State} {f : JFrame} {a : Addr} {cell : Cell} (hobj : ∀ k, cell.vm ≠ .statics k) (hk0 : ∃ k, s₀.vm.classes[cell.cls]? = some k)
    (x : ExceptionTableEntry) (rest : List ExceptionTableEntry) (hx : covers x f.pc = true) (hend : x.catchType ≠ 0 ∧ ∃ c, s₀.vm.ClassLinks e.platform f.method.cls x.catchType c ∧ s₀.vm.assignable cell.cls c = true) :
    ∀ (pre : List ExceptionTableEntry) (S : State), s₀.WarmedH S.vm → S.heap[a]? = some cell → (∀ y ∈ pre, covers y f.pc = false ∨ (y.catchType ≠ 0 ∧ ∃ c, s₀.vm.ClassLinks e.platform f.method.cls y.catchType c ∧ s₀.vm.assignable cell.cls c = false)) →
      ∃ vm', s₀.WarmedH vm' ∧ ∀ (Q : Handler → Pre) (E : CtlPost) (d : Bool) (acts : List Action), wp (findHandler.go f a (pre ++ x :: rest)) Q E e d acts S ↔ Q (.found x.handlerPc) d acts (S.setVm vm') := by
  obtain ⟨k0, hk0⟩ := hk0
  intro pre
  induction pre with
  | nil =>
    intro S hW hcell _
    obtain ⟨k0', hk0', -⟩ := hW.alike.2.2 _ _ hk0
    obtain ⟨h0, c, hl, hfit⟩ := hend
    obtain ⟨dk, _, _, kt, hd, _, _, _, _, hkt, _, hopen⟩ := hl.here
    obtain ⟨kt', hkt', -⟩ := hW.alike.2.2 _ _ hkt
    exact ⟨_, hW.noted hd hopen (State.rightAt_cls hl), fun Q E d acts => by
      rw [List.nil_append]
      exact (zc_go hx h0 (hW.classLinks hl) hcell hobj ⟨k0', hk0'⟩ ⟨kt', hkt'⟩).1 (by rw [hW.alike.assignable]; exact hfit)⟩
  | cons y ys ih =>
    intro S hW hcell hpass
    obtain ⟨k0', hk0', -⟩ := hW.alike.2.2 _ _ hk0
    by_cases hcov : covers y f.pc = true
    · rcases hpass y List.mem_cons_self with h | ⟨h0, c, hl, hno⟩
      · rw [h] at hcov; cases hcov
      · obtain ⟨dk, _, _, kt, hd, _, _, _, _, hkt, _, hopen⟩ := hl.here
        obtain ⟨kt', hkt', -⟩ := hW.alike.2.2 _ _ hkt
        obtain ⟨vm', hW', hq⟩ := ih (S.setVm (S.vm.noted f.method.cls y.catchType (.cls c))) (hW.noted hd hopen (State.rightAt_cls hl)) hcell (fun z hz => hpass z (List.mem_cons_of_mem _ hz))
        exact ⟨vm', hW', fun Q E d acts => by
          rw [List.cons_append, (zc_go hcov h0 (hW.classLinks hl) hcell hobj ⟨k0', hk0'⟩ ⟨kt', hkt'⟩).2 (by rw [hW.alike.assignable]; exact hno)]
          exact hq Q E d acts⟩
    · obtain ⟨vm', hW', hq⟩ := ih S hW hcell (fun z hz => hpass z (List.mem_cons_of_mem _ hz))
      exact ⟨vm', hW', fun Q E d acts => by
        rw [List.cons_append, W.findHandler_go_skip (by simpa using hcov)]
        exact hq Q E d acts⟩
theorem zc_step {e : Env} {s : State} {a : Addr} {f : JFrame} {r : List Frame} {pc : Nat} {vm' : Vm} (hfind : zc_Finds e s f a (.found pc) vm') :
    (stepThrowing e s a (.java f :: r)).Is ((s.setVm vm').setFrames (.java { f with pc := pc, stack := [.ref a] } :: r)) [] := by
  simp only [stepThrowing, searchFrame, vmDo]
  generalize hr : Sem.go _ e false [] s = res
  obtain ⟨as, rfl, ha⟩ := Sem.eq_ok_of hr (a := Handler.found pc) (s' := s.setVm vm') (acts' := []) (by simp [hfind _ _ _ _])
  exact ⟨rfl, ha⟩
theorem zc_frames (u : State) (vm' : Vm) (F G : List Frame) : ((u.setFrames F).setVm vm').setFrames G = (u.setVm vm').setFrames G := by
  have h1 : (u.setFrames F).setVm vm' = (u.setVm vm').setFrames F := rfl
  rw [h1, State.setFrames_setFrames]
theorem zc_steps {tb : Tables} {e : Env} {s target : State} {g : JFrame} {c : Code} {below : List Frame} {a : Addr} (h : At s g.method c below) {pc : Nat} {vm' : Vm}
    (hfind : zc_Finds e ((s.setTop g).pushFrame (.throwing a)) g a (.found pc) vm') (hrest : Steps tb e below ((s.setVm vm').setTop { g with pc := pc, stack := [.ref a] }) target) :
    Steps tb e below ((s.setTop g).pushFrame (.throwing a)) target := by
  obtain ⟨hgo, hw⟩ := h.throwing a
  refine Steps.head hgo hw ?_
  rw [stepThread_throwing (frames_entered h.top _), (zc_step (s := (s.setTop g).pushFrame (.throwing a)) hfind).1]
  obtain ⟨g₀, hg⟩ := Option.isSome_iff_exists.mp h.top
  obtain ⟨r, hr⟩ := State.topJava?_eq_some.mp hg
  have hr' : (s.setVm vm').frames = .java g₀ :: r := hr
  rw [State.setTop_of_frames _ hr'] at hrest
  rw [hr, List.tail_cons, State.pushFrame, zc_frames, State.setTop_of_frames _ hr, zc_frames]
  exact hrest
theorem zc_caught {p : Program} {l : Launch} {e : Env} {R : Room} {s : State} {m₀ : MethodId} {args : Array Value} {below : List Frame} {meth : Method} {c : Code} {T : State} {locs : List Loc} {cells slots : Nat}
    (X : Stand p l e R s m₀ args below meth c T locs cells slots) (a : Addr) {g : JFrame} (hg : g.method = m₀) {s₀ : State} (hcome : Steps p.tables e below s₀ ((T.setTop g).pushFrame (.throwing a)))
    {cell : Cell} (hcell : T.heap[a]? = some cell) (hobj : cell.vm.isStatics = false) (hk0 : ∃ k, s.vm.classes[cell.cls]? = some k)
    (pre : List ExceptionTableEntry) (x : ExceptionTableEntry) (rest : List ExceptionTableEntry) (hsplit : c.exceptionTable.toList = pre ++ x :: rest)
    (hpass : ∀ y ∈ pre, covers y g.pc = false ∨ (y.catchType ≠ 0 ∧ ∃ c, s.vm.ClassLinks e.platform m₀.cls y.catchType c ∧ s.vm.assignable cell.cls c = false)) (hx : covers x g.pc = true)
    (hend : x.catchType = 0 ∨ x.catchType ≠ 0 ∧ ∃ c, s.vm.ClassLinks e.platform m₀.cls x.catchType c ∧ s.vm.assignable cell.cls c = true) :
    ∃ vm', Stand p l e R s m₀ args below meth c (T.setVm vm') locs cells slots ∧ Steps p.tables e below s₀ ((T.setVm vm').setTop { g with pc := x.handlerPc, stack := [.ref a] }) := by
  subst hg
  have hend2 : x.catchType = 0 ∨ (x.catchType ≠ 0 ∧ ∃ c, s.vm.ClassLinks e.platform g.method.cls x.catchType c ∧ s.vm.assignable cell.cls c = true) := hend
  obtain ⟨vm', hW', hq⟩ : ∃ vm', s.WarmedH vm' ∧ zc_Finds e ((T.setTop g).pushFrame (.throwing a)) g a (.found x.handlerPc) vm' := by
    rcases hend2 with h0 | hend3
    · have key : ∀ (pre : List ExceptionTableEntry) (S : State), s.WarmedH S.vm → S.heap[a]? = some cell → (∀ y ∈ pre, covers y g.pc = false ∨ (y.catchType ≠ 0 ∧ ∃ c, s.vm.ClassLinks e.platform g.method.cls y.catchType c ∧ s.vm.assignable cell.cls c = false)) →
          ∃ vm', s.WarmedH vm' ∧ ∀ (Q : Handler → Pre) (E : CtlPost) (d : Bool) (acts : List Action), wp (findHandler.go g a (pre ++ x :: rest)) Q E e d acts S ↔ Q (.found x.handlerPc) d acts (S.setVm vm') := by
        obtain ⟨k0, hk0⟩ := hk0
        intro pre
        induction pre with
        | nil =>
          intro S hW hc9 _
          exact ⟨S.vm, hW, fun Q E d acts => by rw [List.nil_append, W.findHandler_go_any hx h0, State.setVm_self]⟩
        | cons y ys ih =>
          intro S hW hc9 hpass
          obtain ⟨k0', hk0', -⟩ := hW.alike.2.2 _ _ hk0
          by_cases hcov : covers y g.pc = true
          · rcases hpass y List.mem_cons_self with h | ⟨h0, c, hl, hno⟩
            · rw [h] at hcov; cases hcov
            · obtain ⟨dk, _, _, kt, hd, _, _, _, _, hkt, _, hopen⟩ := hl.here
              obtain ⟨kt', hkt', -⟩ := hW.alike.2.2 _ _ hkt
              obtain ⟨vm', hW', hq⟩ := ih (S.setVm (S.vm.noted g.method.cls y.catchType (.cls c))) (hW.noted hd hopen (State.rightAt_cls hl)) hc9 (fun z hz => hpass z (List.mem_cons_of_mem _ hz))
              exact ⟨vm', hW', fun Q E d acts => by
                rw [List.cons_append, (zc_go hcov h0 (hW.classLinks hl) hc9 (VmData.ne_statics_of hobj) ⟨k0', hk0'⟩ ⟨kt', hkt'⟩).2 (by rw [hW.alike.assignable]; exact hno)]
                exact hq Q E d acts⟩
          · obtain ⟨vm', hW', hq⟩ := ih S hW hc9 (fun z hz => hpass z (List.mem_cons_of_mem _ hz))
            exact ⟨vm', hW', fun Q E d acts => by
              rw [List.cons_append, W.findHandler_go_skip (by simpa using hcov)]
              exact hq Q E d acts⟩
      obtain ⟨vm', hW', hq⟩ := key pre ((T.setTop g).pushFrame (.throwing a)) X.warmed hcell hpass
      exact ⟨vm', hW', fun Q E d acts => by rw [W.findHandler_eq (s := (T.setTop g).pushFrame (.throwing a)) (meth := meth) (code := c) X.method' X.code, hsplit]; exact hq Q E d acts⟩
    · obtain ⟨vm', hW', hq⟩ := zc_walk (VmData.ne_statics_of hobj) hk0 x rest hx hend3 pre ((T.setTop g).pushFrame (.throwing a)) X.warmed hcell hpass
      exact ⟨vm', hW', fun Q E d acts => by rw [W.findHandler_eq (s := (T.setTop g).pushFrame (.throwing a)) (meth := meth) (code := c) X.method' X.code, hsplit]; exact hq Q E d acts⟩
  exact ⟨vm', X.noted hW', hcome.trans (zc_steps X.here hq (Steps.refl _))⟩
end ZC
/-! ===== END ===== -/

/-! ===== BEGIN words of one list among another's, by their places ===== -/
theorem goodIn_r {big : List Cond} (ws : List Cond) (ps : List Nat) (hp : ws = ps.filterMap (fun i => big[i]?)) (h : ws.all goodWord = true) : GoodIn big ws := by
  intro w hw
  have h1 := List.all_eq_true.mp h w hw
  rw [hp] at hw
  obtain ⟨i, -, hi⟩ := List.mem_filterMap.mp hw
  have hm : w ∈ big := by first | exact List.mem_of_getElem? hi | exact List.getElem?_mem hi
  exact ⟨hm, good_of_word h1⟩
theorem goodIn_app {big a b : List Cond} (ha : GoodIn big a) (hb : GoodIn big b) : GoodIn big (a ++ b) := fun w h => (List.mem_append.mp h).elim (ha w) (hb w)
theorem goodIn_ca {big a b : List Cond} {c : Cond} (ha : GoodIn big (c :: a)) (hb : GoodIn big b) : GoodIn big (c :: (a ++ b)) := fun w h => (List.mem_cons.mp h).elim (fun e => ha w (List.mem_cons.mpr (Or.inl e))) (fun h => (List.mem_append.mp h).elim (fun h => ha w (List.mem_cons.mpr (Or.inr h))) (hb w))
theorem goodIn_sub {big ws : List Cond} (hm : ∀ w ∈ ws, w ∈ big) (h : ws.all goodWord = true) : GoodIn big ws := fun w hw => ⟨hm w hw, good_of_word (List.all_eq_true.mp h w hw)⟩
/-! ===== END ===== -/

/-! ===== BEGIN exceptions that leave a method, and their catching by the caller (launches without stack traces) ===== -/
section VXA
/-! The laws vx_back, vx_callV, vx_callS, vx_callSW, vx_throw0, vx_throwS follow proofs of the library, with one case more: JvmDerived/Free/Laws.lean (Back.of_free), Shelf42/LK1.lean (callV, callS), Shelf/KitTraced.lean (throwNew0V, throwNewS). -/
/-- where a method has thrown q: the class by its name, the cell, what was written, the world -/
def vx_T (XC : String → State → State → Prop) (st : State) (q : Addr) (t : State) (mc ms : Nat) (free : Addr → Prop) : Prop :=
  ∃ (E : String) (ce : Cell) (L : List Loc), XC E st t ∧ t.heap[q]? = some ce ∧ ce.vm = .none ∧ st.vm.findClass E = some ce.cls ∧ st.WarmedH t.vm ∧ st.sameButNew ({ t with vm := st.vm } : State) L mc ms ∧ ∀ z ∈ L, free z.base
def vx_Q (Qc : Array Value → State → Outcome → State → Prop) (XC : String → State → State → Prop) (mc ms : Nat) (free : Addr → Prop) : Array Value → State → Outcome → State → Prop := fun a st o t =>
  (Qc a st o t ∧ ∃ L, FrameEnd st o t L mc ms ∧ ∀ q ∈ L, free q.base) ∨ ∃ q, o = .threw q ∧ vx_T XC st q t mc ms free
/-- a callee that returns or throws -/
def vx_Met (l : Launch) (y : MethodName) (ws : List Cond) (rm : Room) (Pc : Array Value → State → Prop) (Qc : Array Value → State → Outcome → State → Prop) (XC : String → State → State → Prop) (mc ms : Nat) (free : Addr → Prop) : Prop :=
  MetFree l y (headSpec ws rm) Pc (fun _ _ _ _ _ => True) (vx_Q Qc XC mc ms free)
def vx_Post (XC : String → State → State → Prop) (mc ms : Nat) (free : Addr → Prop) : Pt → Array Value → Addr → Pt → Prop := fun A a q B =>
  ∃ (g : JFrame) (mk : MethodId) (t : State) (L : List Loc) (E : String) (ce : Cell), B.U.heap = t.heap ∧ B.U.vm = t.vm ∧ XC E (A.U.calling g mk a) t ∧ t.heap[q]? = some ce ∧ ce.vm = .none ∧ A.U.vm.findClass E = some ce.cls ∧ B.locs = A.locs ++ L ∧ (∀ z ∈ L, free z.base) ∧ B.cells = A.cells + mc ∧ B.slots = A.slots + ms
def vx_Back (l : Launch) (R : Room) (p : Program) (e : Env) (below : List Frame) (s : State) (sargs : Array Value) (y : MethodName) (len W9 : Nat)
    (Pre : Pt → Array Value → Prop) (Post : Pt → Array Value → Option Value → Pt → Prop) (PostX : Pt → Array Value → Addr → Pt → Prop) : Prop :=
  ∀ (m : MethodId) (meth : Method) (c : Code) (A : Pt) (g : JFrame) (ig : Instr) (mk : MethodId) (a : Array Value),
    Stand p l e R s m sargs below meth c A.U A.locs A.cells A.slots → g.method = m → g.locals.size = c.maxLocals → decode c.code g.pc = .ok (ig, len) →
    2 * g.monitorRoom + (g.stack.map fun v => v.category).sum ≤ W9 → A.U.methodNamed? y = some mk → Pre A a →
    (∃ (v : Option Value) (B : Pt), Stand p l e R s m sargs below meth c B.U B.locs B.cells B.slots ∧ Post A a v B ∧
      Steps p.tables e below (doInvoke e (A.U.setTop g) [] mk a).1 (B.U.setTop { g with pc := g.pc + len, stack := v.toList ++ g.stack })) ∨
    (∃ (q : Addr) (B : Pt), Stand p l e R s m sargs below meth c B.U B.locs B.cells B.slots ∧ PostX A a q B ∧
      Steps p.tables e below (doInvoke e (A.U.setTop g) [] mk a).1 ((B.U.setTop g).pushFrame (.throwing q)))
section Payer
variable {l : Launch} {R : Room} {p : Program} {e : Env} {below : List Frame} {s : State} {sargs : Array Value} {y : MethodName} {len W9 : Nat}
theorem vx_back {ws : List Cond} {rm : Room} {Pc : Array Value → State → Prop} {Qc : Array Value → State → Outcome → State → Prop} {XC : String → State → State → Prop} {mc ms : Nat} {free : Addr → Prop} {bytes : ByteArray} {maxL : Nat} {ret : Option FieldType}
    (hM : vx_Met l y ws rm Pc Qc XC mc ms free) (hblind : FrameBlind Pc) (hrc : rm.cells = mc) (hrs : rm.slots = ms)
    (hframes : rm.frames + 1 ≤ R.frames) (hlocals : W9 + (maxL + 11) + rm.locals ≤ R.locals)
    (hws : ∀ w ∈ ws, ∀ a' U, s.WarmedH U.vm → w.before a' U = true) (hcode : Cond.code y bytes maxL ret ∈ ws) (hinit : ∀ a' U, s.WarmedH U.vm → (Cond.initialized y.cls).before a' U = true) :
    vx_Back l R p e below s sargs y len W9 (PreOf R mc ms Pc) (PostOf Qc mc ms free) (vx_Post XC mc ms free) := by
  intro m meth c A g ig mk a X hg hsize hdg hW hn hp
  have h1 : (headSpec ws rm).pre.before a A.U = true := atoms_intro fun w hw => hws w hw _ _ X.warmed
  have h2 : (Cond.code y bytes maxL ret).before a A.U = true := hws _ hcode _ _ X.warmed
  have h3 : (Cond.initialized y.cls).before a A.U = true := hinit _ _ X.warmed
  have h4 : A.cells + (headSpec ws rm).room.cells ≤ R.cells := by rw [show (headSpec ws rm).room.cells = mc from hrc]; exact hp.1
  have h5 : A.slots + (headSpec ws rm).room.slots ≤ R.slots := by rw [show (headSpec ws rm).room.slots = ms from hrs]; exact hp.2.1
  have hPc : Pc a (A.U.calling g mk a) := hblind _ _ _ _ hp.2.2
  obtain ⟨U, Ls, c0, s0⟩ := A
  dsimp only [Pt.U, Pt.locs, Pt.cells, Pt.slots] at h1 h2 h3 h4 h5 X hn hPc ⊢
  obtain ⟨methY, cY, hmY, hcY, -, hlY, -, -, -, -⟩ := Cond.code_spec hn h2
  obtain ⟨kY, hkY, -⟩ := className_of_methodNamed hn
  have hinitY : kY.init = .initialized := Cond.initialized_spec (findClass_of_methodNamed hn) hkY h3
  have h : At U g.method c below := by rw [hg]; exact X.here
  have hlocals9 : W9 + (maxL + 11) + (headSpec ws rm).room.locals ≤ R.locals := hlocals
  have happ : (headSpec ws rm).appliesLoose y e.platform (U.calling g mk a) = true :=
    Spec.appliesLoose_calling (g := g) h hdg hn hkY hinitY
      (X.room_calling (g := g) (R' := (headSpec ws rm).room) hsize hmY hcY hframes (by rw [hlY]; omega) h4 h5) h1
  obtain ⟨mid, hmid⟩ := h.above
  have hfr : (U.setTop g).frames = (.java g :: mid) ++ below := by rw [State.frames_setTop' g h.top, hmid]; rfl
  obtain ⟨o, s₂, hsteps, -, hend, hq⟩ := Steps.callFree hM p X.admits X.cas X.clock (acts := []) hfr happ hPc trivial
  have hq' : vx_Q Qc XC mc ms free a (U.calling g mk a) o s₂ := hq
  rw [State.frames_setTop' g h.top] at hend
  obtain ⟨g₀, hg0⟩ := Option.isSome_iff_exists.mp h.top
  obtain ⟨r, hr⟩ := State.topJava?_eq_some.mp hg0
  have hr' : (({ U with heap := s₂.heap, slotsUsed := s₂.slotsUsed } : State).setVm s₂.vm).frames = .java g₀ :: r := hr
  rcases hq' with ⟨hqc, L, hfe, hL⟩ | ⟨q, rfl, E, ce, L, hx, hce, hcv, hcl, hW₂, hsm, hL⟩
  · obtain ⟨⟨v, rfl⟩, hW₂, e2, q2, q3, q4, q5, q6⟩ := id hfe
    have e3 : s₂ = ({ (U.calling g mk a).setFrames s₂.frames with heap := s₂.heap, slotsUsed := s₂.slotsUsed } : State).setVm s₂.vm := by
      have : s₂ = ({ s₂ with vm := (U.calling g mk a).vm } : State).setVm s₂.vm := rfl
      rw [e2] at this
      exact this
    obtain ⟨c₂, i₂, len₂, hc₂, hd₂, hf₂⟩ := hend
    have hW' : U.WarmedH s₂.vm := hW₂
    have hcc : c₂ = c := by
      have h1 : s₂.code? g.method = U.code? g.method := by
        rw [State.code?_eq, State.code?_eq, hW'.alike.method?]
      exact Option.some.inj (hc₂.symm.trans (h1.trans h.code))
    subst hcc
    have hlen : len₂ = len := by rw [hdg] at hd₂; cases hd₂; rfl
    subst hlen
    have hs₂ : s₂ = (({ U with heap := s₂.heap, slotsUsed := s₂.slotsUsed } : State).setVm s₂.vm).setTop { g with pc := g.pc + len₂, stack := v.toList ++ g.stack } := by
      refine e3.trans ?_
      rw [hf₂, State.calling_eq h.top, State.setFrames_setFrames, State.setTop_of_frames _ hr', hr]
      rfl
    have hsame : U.sameButNew ({ U with heap := s₂.heap, slotsUsed := s₂.slotsUsed } : State) L mc ms := by
      refine ⟨?_, q2, q3, q4, q5, q6⟩
      obtain ⟨t, ht, -⟩ := State.frames_cons hr
      show ({ U with heap := s₂.heap, slotsUsed := s₂.slotsUsed } : State) = { U.setFrames U.frames with heap := s₂.heap, slotsUsed := s₂.slotsUsed }
      rw [State.setFrames_self ht]
    subst hg
    refine Or.inl ⟨v, ⟨(({ U with heap := s₂.heap, slotsUsed := s₂.slotsUsed } : State).setVm s₂.vm), Ls ++ L, c0 + mc, s0 + ms⟩,
      ⟨X.admits, X.cas, X.clock, X.frames, X.room, X.hears, X.method, X.code, (X.here.setHeapUsed s₂.heap s₂.slotsUsed).setVm hW'.alike, X.tail, State.WarmedH.trans X.warmed hW', X.limits, X.bytes, X.same.trans (hsame.setVm s.vm)⟩,
      ⟨g, mk, s₂, L, rfl, rfl, hqc, rfl, hL, rfl, rfl⟩, ?_⟩
    show Steps p.tables e below _ ((({ U with heap := s₂.heap, slotsUsed := s₂.slotsUsed } : State).setVm s₂.vm).setTop { g with pc := g.pc + len₂, stack := v.toList ++ g.stack })
    rw [← hs₂]
    exact hsteps
  · obtain ⟨e2, q2, q3, q4, q5, q6⟩ := id hsm
    have e3 : s₂ = ({ (U.calling g mk a).setFrames s₂.frames with heap := s₂.heap, slotsUsed := s₂.slotsUsed } : State).setVm s₂.vm := by
      have : s₂ = ({ s₂ with vm := (U.calling g mk a).vm } : State).setVm s₂.vm := rfl
      rw [e2] at this
      exact this
    have hf₂ : s₂.frames = .throwing q :: .java g :: U.frames.tail := hend
    have hW' : U.WarmedH s₂.vm := hW₂
    have hs₂ : s₂ = ((({ U with heap := s₂.heap, slotsUsed := s₂.slotsUsed } : State).setVm s₂.vm).setTop g).pushFrame (.throwing q) := by
      refine e3.trans ?_
      rw [hf₂, State.calling_eq h.top, State.setFrames_setFrames, State.pushFrame, State.frames_setTop _ hr', State.setTop_of_frames _ hr', State.setFrames_setFrames, hr]
      rfl
    have hsame : U.sameButNew ({ U with heap := s₂.heap, slotsUsed := s₂.slotsUsed } : State) L mc ms := by
      refine ⟨?_, q2, q3, q4, q5, q6⟩
      obtain ⟨t, ht, -⟩ := State.frames_cons hr
      show ({ U with heap := s₂.heap, slotsUsed := s₂.slotsUsed } : State) = { U.setFrames U.frames with heap := s₂.heap, slotsUsed := s₂.slotsUsed }
      rw [State.setFrames_self ht]
    subst hg
    refine Or.inr ⟨q, ⟨(({ U with heap := s₂.heap, slotsUsed := s₂.slotsUsed } : State).setVm s₂.vm), Ls ++ L, c0 + mc, s0 + ms⟩,
      ⟨X.admits, X.cas, X.clock, X.frames, X.room, X.hears, X.method, X.code, (X.here.setHeapUsed s₂.heap s₂.slotsUsed).setVm hW'.alike, X.tail, State.WarmedH.trans X.warmed hW', X.limits, X.bytes, X.same.trans (hsame.setVm s.vm)⟩,
      ⟨g, mk, s₂, L, E, ce, rfl, rfl, hx, hce, hcv, hcl, rfl, hL, rfl, rfl⟩, ?_⟩
    show Steps p.tables e below _ (((({ U with heap := s₂.heap, slotsUsed := s₂.slotsUsed } : State).setVm s₂.vm).setTop g).pushFrame (.throwing q))
    rw [← hs₂]
    exact hsteps
end Payer
section Calls
variable {p : Program} {l : Launch} {e : Env} {R : Room} {s : State} {m : MethodId} {args : Array Value} {below : List Frame} {meth : Method} {c : Code} {T : State} {locs : List Loc} {cells slots : Nat}
theorem vx_callV (X : Stand p l e R s m args below meth c T locs cells slots) (hexec : p.tables.exec = Jvm.exec) {own C : String} {index : Nat} {y : MethodName} {bytes : ByteArray} {maxL : Nat} {ret : Option FieldType}
    (hown : s.vm.findClass own = some m.cls) (hlink : (Cond.methodLink own index y).before args s = true) (hinst : (Cond.instanceMethod y).before args s = true) (hsel : (Cond.selects C y y).before args s = true)
    (hcode : (Cond.code y bytes maxL ret).before args s = true) (hy : y.cls ≠ "java/lang/invoke/MethodHandle" ∧ y.cls ≠ "java/lang/invoke/VarHandle")
    {W9 : Nat} {Pre : Pt → Array Value → Prop} {Post : Pt → Array Value → Option Value → Pt → Prop} {PostX : Pt → Array Value → Addr → Pt → Prop} (hK : vx_Back l R p e below s args y 3 W9 Pre Post PostX)
    {b : Addr} {cellB : Cell} (hcell : T.heap[b]? = some cellB) (hobj : cellB.vm.isStatics = false) (hcls : s.vm.findClass C = some cellB.cls)
    {g : JFrame} (hg : g.method = m) (hsize : g.locals.size = c.maxLocals) {argsL rest : List Value} (hlen : ∀ sig, parseMethodDescriptor y.desc = some sig → argsL.length = sig.parameters.length)
    (hstack : g.stack = argsL.reverse ++ .ref b :: rest) (hW : 2 * g.monitorRoom + (rest.map fun v => v.category).sum ≤ W9) (hdg : decode c.code g.pc = .ok (.invokevirtual index, 3))
    (hpre : ∀ vm₁, s.WarmedH vm₁ → Pre ⟨T.setVm vm₁, locs, cells, slots⟩ (Value.ref b :: argsL).toArray) :
    (∃ (v : Option Value) (vm₁ : Vm) (B : Pt), s.WarmedH vm₁ ∧ Stand p l e R s m args below meth c B.U B.locs B.cells B.slots ∧ Post ⟨T.setVm vm₁, locs, cells, slots⟩ (Value.ref b :: argsL).toArray v B ∧
      ∀ target, Steps p.tables e below (B.U.setTop { g with pc := g.pc + 3, stack := v.toList ++ rest }) target → Steps p.tables e below (T.setTop g) target) ∨
    (∃ (q : Addr) (vm₁ : Vm) (B : Pt), s.WarmedH vm₁ ∧ Stand p l e R s m args below meth c B.U B.locs B.cells B.slots ∧ PostX ⟨T.setVm vm₁, locs, cells, slots⟩ (Value.ref b :: argsL).toArray q B ∧
      Steps p.tables e below (T.setTop g) ((B.U.setTop { g with stack := rest }).pushFrame (.throwing q))) := by
  obtain ⟨mk, methM, hnamed, hmethM, hstM, habM⟩ := Cond.instanceMethod_spec hinst
  obtain ⟨methM', cM, hmethM', -, -, -, -, -, -, hsigM⟩ := Cond.code_spec hnamed hcode
  cases hmethM.symm.trans hmethM'
  obtain ⟨c2, r2, m2, q1, q2, q3, q4, kP, hkP, hkPi⟩ := Cond.selects_spec hsel
  cases hcls.symm.trans q1
  cases (State.methodFound?_of_named hnamed hy).symm.trans q2
  cases hnamed.symm.trans q3
  have hselP : selectMethod e.platform s.vm cellB.cls mk = .method mk := by rw [Launch.admits_selectMethod X.admits]; exact q4
  obtain ⟨vm₁, X₁, hstep₁⟩ := X.invokevirtual hexec hown hlink hnamed hmethM hstM hkP hkPi hy (a := b) (cell := cellB) hcell
    (fun z h => by rw [h] at hobj; cases hobj) hselP hmethM habM hkP hkPi (g := g) hg (argsL := argsL) (rest := rest) (hlen _ hsigM) hstack hdg
  rcases hK m meth c ⟨T.setVm vm₁, locs, cells, slots⟩ { g with stack := rest } (.invokevirtual index) mk (Value.ref b :: argsL).toArray X₁ hg hsize hdg hW (X₁.named hnamed) (hpre vm₁ X₁.warmed) with ⟨v, B, X', hpost, hsteps⟩ | ⟨q, B, X', hpost, hsteps⟩
  · exact Or.inl ⟨v, vm₁, B, X₁.warmed, X', hpost, fun target h => hstep₁ _ fun acts => by rw [doInvoke_state]; exact hsteps.trans h⟩
  · exact Or.inr ⟨q, vm₁, B, X₁.warmed, X', hpost, hstep₁ _ fun acts => by rw [doInvoke_state]; exact hsteps⟩
theorem vx_callS (X : Stand p l e R s m args below meth c T locs cells slots) (hexec : p.tables.exec = Jvm.exec) {own : String} {index : Nat} {y : MethodName} {bytes : ByteArray} {maxL : Nat} {ret : Option FieldType}
    (hown : s.vm.findClass own = some m.cls) (hlink : (Cond.methodLink own index y).before args s = true) (hstat : (Cond.static y).before args s = true) (hinit : (Cond.initialized y.cls).before args s = true)
    (hcode : (Cond.code y bytes maxL ret).before args s = true) (hy : y.cls ≠ "java/lang/invoke/MethodHandle" ∧ y.cls ≠ "java/lang/invoke/VarHandle")
    {W9 : Nat} {Pre : Pt → Array Value → Prop} {Post : Pt → Array Value → Option Value → Pt → Prop} {PostX : Pt → Array Value → Addr → Pt → Prop} (hK : vx_Back l R p e below s args y 3 W9 Pre Post PostX)
    {g : JFrame} (hg : g.method = m) (hsize : g.locals.size = c.maxLocals) {argsL rest : List Value} (hlen : ∀ sig, parseMethodDescriptor y.desc = some sig → argsL.length = sig.parameters.length)
    (hstack : g.stack = argsL.reverse ++ rest) (hW : 2 * g.monitorRoom + (rest.map fun v => v.category).sum ≤ W9) (hdg : decode c.code g.pc = .ok (.invokestatic index, 3))
    (hpre : ∀ vm₁, s.WarmedH vm₁ → Pre ⟨T.setVm vm₁, locs, cells, slots⟩ argsL.toArray) :
    (∃ (v : Option Value) (vm₁ : Vm) (B : Pt), s.WarmedH vm₁ ∧ Stand p l e R s m args below meth c B.U B.locs B.cells B.slots ∧ Post ⟨T.setVm vm₁, locs, cells, slots⟩ argsL.toArray v B ∧
      ∀ target, Steps p.tables e below (B.U.setTop { g with pc := g.pc + 3, stack := v.toList ++ rest }) target → Steps p.tables e below (T.setTop g) target) ∨
    (∃ (q : Addr) (vm₁ : Vm) (B : Pt), s.WarmedH vm₁ ∧ Stand p l e R s m args below meth c B.U B.locs B.cells B.slots ∧ PostX ⟨T.setVm vm₁, locs, cells, slots⟩ argsL.toArray q B ∧
      Steps p.tables e below (T.setTop g) ((B.U.setTop { g with stack := rest }).pushFrame (.throwing q))) := by
  obtain ⟨mk, hnamed⟩ := Cond.code_named hcode
  obtain ⟨methM, cM, hmethM, -, -, -, -, -, -, hsigM⟩ := Cond.code_spec hnamed hcode
  have hstatic : methM.isStatic = true := Cond.static_spec hnamed hmethM hstat
  obtain ⟨kP, hkP, -⟩ := className_of_methodNamed hnamed
  have hinitP : kP.init = .initialized := Cond.initialized_spec (findClass_of_methodNamed hnamed) hkP hinit
  obtain ⟨vm₁, X₁, hstep₁⟩ := X.invokestatic hexec hown hlink hnamed hmethM hstatic hkP hinitP hy (g := g) hg (argsL := argsL) (rest := rest) (hlen _ hsigM) hstack hdg
  rcases hK m meth c ⟨T.setVm vm₁, locs, cells, slots⟩ { g with stack := rest } (.invokestatic index) mk argsL.toArray X₁ hg hsize hdg hW (X₁.named hnamed) (hpre vm₁ X₁.warmed) with ⟨v, B, X', hpost, hsteps⟩ | ⟨q, B, X', hpost, hsteps⟩
  · exact Or.inl ⟨v, vm₁, B, X₁.warmed, X', hpost, fun target h => hstep₁ _ fun acts => by rw [doInvoke_state]; exact hsteps.trans h⟩
  · exact Or.inr ⟨q, vm₁, B, X₁.warmed, X', hpost, hstep₁ _ fun acts => by rw [doInvoke_state]; exact hsteps⟩
end Calls
theorem vx_cls {s : State} {T : State} {vm₁ : Vm} {E : String} {k : ClassId} (hW : s.WarmedH vm₁) (h : (T.setVm vm₁).vm.findClass E = some k) : s.vm.findClass E = some k := by
  have h1 : vm₁.findClass E = some k := h
  rw [hW.alike.findClass] at h1
  exact h1
/-- the method's frame g, with q thrown over it -/
def vx_W (p : Program) (l : Launch) (e : Env) (R : Room) (s : State) (m : MethodId) (args : Array Value) (below : List Frame) (meth : Method) (c : Code) (H : Heap) (locs : List Loc) (cells slots : Nat) (Q : State → Prop) (g : JFrame) (q : Addr) : Prop :=
  ∀ T : State, T.heap = H → Stand p l e R s m args below meth c T locs cells slots → ∃ t, Steps p.tables e below ((T.setTop g).pushFrame (.throwing q)) t ∧ Q t
def vx_Run (p : Program) (l : Launch) (e : Env) (R : Room) (s : State) (m : MethodId) (args : Array Value) (below : List Frame) (meth : Method) (c : Code) (H : Heap) (locs : List Loc) (cells slots mc ms : Nat) (g : JFrame) (rest : List Value) (Qa : State → Outcome → State → Prop) (XC : String → State → State → Prop) (free : Addr → Prop) : Prop :=
  ∀ T : State, T.heap = H → Stand p l e R s m args below meth c T locs cells slots →
    (∃ (v : Option Value) (st₀ t T' : State) (L : List Loc), st₀.heap = H ∧ Stand p l e R s m args below meth c T' (locs ++ L) (cells + mc) (slots + ms) ∧ (∀ q ∈ L, free q.base) ∧ T'.heap = t.heap ∧ T'.vm = t.vm ∧ Qa st₀ (.returned v) t ∧
      Goes p e below T g T' { g with pc := g.pc + 3, stack := v.toList ++ rest }) ∨
    (∃ (q : Addr) (st₀ t T' : State) (L : List Loc) (E : String) (ce : Cell), st₀.heap = H ∧ Stand p l e R s m args below meth c T' (locs ++ L) (cells + mc) (slots + ms) ∧ (∀ z ∈ L, free z.base) ∧ T'.heap = t.heap ∧ T'.vm = t.vm ∧ XC E st₀ t ∧ t.heap[q]? = some ce ∧ ce.vm = .none ∧ s.vm.findClass E = some ce.cls ∧
      Steps p.tables e below (T.setTop g) ((T'.setTop { g with stack := rest }).pushFrame (.throwing q)))
def vx_X {S : Type} (px : S → Prop) (B : String → S → State → Prop) (A : Nat → Prop) : String → State → State → Prop := fun E st t => ∃ u : S, px u ∧ B E u t ∧ va_F A st t
section Runs
variable {p : Program} {l : Launch} {e : Env} {R : Room} {s : State} {m : MethodId} {args : Array Value} {below : List Frame} {meth : Method} {c : Code} {H : Heap} {locs : List Loc} {cells slots : Nat}
variable {y : MethodName} {bytes cc : ByteArray} {maxL nL mc ms n index : Nat} {ret : Option FieldType} {ws : List Cond} {rm : Room} {Pc : Array Value → State → Prop} {Qc : Array Value → State → Outcome → State → Prop} {XC : String → State → State → Prop} {free : Addr → Prop} {Ts : List Cond} {own C : String} {b : Addr} {As rest : List Value} {g : JFrame}
theorem vx_callBack (cb : CallB R s args own index y bytes maxL ret ws rm mc ms n) (hM : vx_Met l y ws rm Pc Qc XC mc ms free) (hbl : FrameBlind Pc) : vx_Back l R p e below s args y 3 8 (PreOf R mc ms Pc) (PostOf Qc mc ms free) (vx_Post XC mc ms free) := by
  obtain ⟨hrc, hrs, hfr, hlo, hws, hcw, -, hini, -⟩ := cb
  exact vx_back (bytes := bytes) (maxL := maxL) (ret := ret) hM hbl hrc hrs hfr hlo hws hcw (fun a' U hW => word_at hW (Or.inl (by first | rfl | simp [Cond.onTables, Cond.keeps, Cond.steady])) hini)
theorem vx_runV (S : CallFix p m c cc nL s args Ts own) (hM : vx_Met l y ws rm Pc Qc XC mc ms free) (cw : CallW R s args own C index y bytes maxL ret ws rm mc ms n) (hp : PreV s H C b Pc As)
    (hg : g.method = m) (hn : As.length = n) (hsize : g.locals.size = nL) (hstack : g.stack = As.reverse ++ .ref b :: rest) (hW : 2 * g.monitorRoom + (rest.map fun v => v.category).sum ≤ 8) (hdg : decode cc g.pc = .ok (.invokevirtual index, 3)) (hf : cells + mc ≤ R.cells ∧ slots + ms ≤ R.slots) :
    vx_Run p l e R s m args below meth c H locs cells slots mc ms g rest (Qc (Value.ref b :: As).toArray) XC free := by
  have hK : vx_Back l R p e below s args y 3 8 (PreOf R mc ms Pc) (PostOf Qc mc ms free) (vx_Post XC mc ms free) := vx_callBack cw.1 hM hp.1
  obtain ⟨⟨-, -, -, -, -, -, hcode, -, hy, hlen, hl⟩, hin, hse⟩ := cw
  obtain ⟨hx, hb, hml, ho, -⟩ := S
  obtain ⟨-, ⟨cellB, hcB, hoB, hclB⟩, hPc⟩ := hp
  intro T hT X
  rcases vx_callV X hx (C := C) (bytes := bytes) (maxL := maxL) (ret := ret) ho hl hin hse hcode hy hK (by rw [hT]; exact hcB) hoB hclB hg (hsize.trans hml.symm) (argsL := As) (rest := rest) (fun sig h => hn.trans (hlen sig h)) hstack hW (by rw [hb]; exact hdg)
    (fun vm₁ hW₁ => ⟨hf.1, hf.2, hPc (T.setVm vm₁) hT hW₁⟩) with ⟨v, vm₁, ⟨U', l2, c2, s2⟩, hW₁, X', ⟨g', mk, t, L, e1, e2, hq, h1, hL, h2, h3⟩, st⟩ | ⟨q, vm₁, ⟨U', l2, c2, s2⟩, hW₁, X', ⟨g', mk, t, L, E, ce, e1, e2, hq, hce, hcv, hcl, h1, hL, h2, h3⟩, st⟩
  · dsimp only [Pt.U, Pt.locs, Pt.cells, Pt.slots] at X' e1 e2 h1 h2 h3 st
    subst h1; subst h2; subst h3
    exact Or.inl ⟨v, (T.setVm vm₁).calling g' mk (Value.ref b :: As).toArray, t, U', L, hT, X', hL, e1, e2, hq, st⟩
  · dsimp only [Pt.U, Pt.locs, Pt.cells, Pt.slots] at X' e1 e2 h1 h2 h3 st hcl
    subst h1; subst h2; subst h3
    exact Or.inr ⟨q, (T.setVm vm₁).calling g' mk (Value.ref b :: As).toArray, t, U', L, E, ce, hT, X', hL, e1, e2, hq, hce, hcv, vx_cls hW₁ hcl, st⟩
theorem vx_runS (S : CallFix p m c cc nL s args Ts own) (hM : vx_Met l y ws rm Pc Qc XC mc ms free) (cw : CallB R s args own index y bytes maxL ret ws rm mc ms n ∧ (Cond.static y).before args s = true) (hp : PreS s H Pc As)
    (hg : g.method = m) (hn : As.length = n) (hsize : g.locals.size = nL) (hstack : g.stack = As.reverse ++ rest) (hW : 2 * g.monitorRoom + (rest.map fun v => v.category).sum ≤ 8) (hdg : decode cc g.pc = .ok (.invokestatic index, 3)) (hf : cells + mc ≤ R.cells ∧ slots + ms ≤ R.slots) :
    vx_Run p l e R s m args below meth c H locs cells slots mc ms g rest (Qc As.toArray) XC free := by
  have hK : vx_Back l R p e below s args y 3 8 (PreOf R mc ms Pc) (PostOf Qc mc ms free) (vx_Post XC mc ms free) := vx_callBack cw.1 hM hp.1
  obtain ⟨⟨-, -, -, -, -, -, hcode, hini, hy, hlen, hl⟩, hstt⟩ := cw
  obtain ⟨hx, hb, hml, ho, -⟩ := S
  intro T hT X
  rcases vx_callS X hx (bytes := bytes) (maxL := maxL) (ret := ret) ho hl hstt hini hcode hy hK hg (hsize.trans hml.symm) (argsL := As) (rest := rest) (fun sig h => hn.trans (hlen sig h)) hstack hW (by rw [hb]; exact hdg)
    (fun vm₁ hW₁ => ⟨hf.1, hf.2, hp.2 (T.setVm vm₁) hT hW₁⟩) with ⟨v, vm₁, ⟨U', l2, c2, s2⟩, hW₁, X', ⟨g', mk, t, L, e1, e2, hq, h1, hL, h2, h3⟩, st⟩ | ⟨q, vm₁, ⟨U', l2, c2, s2⟩, hW₁, X', ⟨g', mk, t, L, E, ce, e1, e2, hq, hce, hcv, hcl, h1, hL, h2, h3⟩, st⟩
  · dsimp only [Pt.U, Pt.locs, Pt.cells, Pt.slots] at X' e1 e2 h1 h2 h3 st
    subst h1; subst h2; subst h3
    exact Or.inl ⟨v, (T.setVm vm₁).calling g' mk As.toArray, t, U', L, hT, X', hL, e1, e2, hq, st⟩
  · dsimp only [Pt.U, Pt.locs, Pt.cells, Pt.slots] at X' e1 e2 h1 h2 h3 st hcl
    subst h1; subst h2; subst h3
    exact Or.inr ⟨q, (T.setVm vm₁).calling g' mk As.toArray, t, U', L, E, ce, hT, X', hL, e1, e2, hq, hce, hcv, vx_cls hW₁ hcl, st⟩
end Runs
section Rows
variable {p : Program} {l : Launch} {e : Env} {R : Room} {s : State} {m : MethodId} {args : Array Value} {below : List Frame} {meth : Method} {c : Code} {H : Heap} {locs : List Loc} {cells slots : Nat} {Q : State → Prop}
variable {mc ms : Nat} {free : Addr → Prop} {A0 A1 : Nat → Prop} {H0 : Heap} {a : Array Value} {pc : Nat} {ls : Array Slot} {st0 rest : List Value}
theorem vx_keep {st₀ t T' : State} {L : List Loc} (h0 : st₀.heap = H) (e1 : T'.heap = t.heap) (hS : va_S A0 H0 H locs) (hA : ∀ q, q < H.size → A1 q → A0 q) (hf : ∀ q, free q → A0 q) (hL : ∀ q ∈ L, free q.base) (hF : va_F A1 st₀ t) :
    H.size ≤ T'.heap.size ∧ (∀ q : Nat, q < H.size → ¬ A1 q → T'.heap[q]? = H[q]?) ∧ va_S A0 H0 T'.heap (locs ++ L) := by
  obtain ⟨hz, hk⟩ := hF
  rw [h0] at hz hk
  exact ⟨by rw [e1]; exact hz, fun q h1 h2 => by rw [e1]; exact hk q h1 h2,
    ⟨Nat.le_trans hS.1 (by rw [e1]; exact hz), fun q h1 h2 => by rw [e1, hk q (Nat.lt_of_lt_of_le h1 hS.1) (fun z => h2 (hA q (Nat.lt_of_lt_of_le h1 hS.1) z))]; exact hS.2.1 q h1 h2, fun q hq => by
      rcases List.mem_append.mp hq with h | h
      · exact hS.2.2 q h
      · exact hf _ (hL q h)⟩⟩
theorem vx_calli {S SX : Type} {post : Int32 → S → Prop} {px : SX → Prop} {B : S → State → Prop} {BX : String → SX → State → Prop} {AX : Nat → Prop} (hr : vx_Run p l e R s m args below meth c H locs cells slots mc ms (F0 m pc ls st0) rest (va_Qi post B A1 a) (vx_X px BX AX) free) (hS : va_S A0 H0 H locs) (hA : ∀ q, q < H.size → A1 q → A0 q) (hf : ∀ q, free q → A0 q) (hAX : ∀ q, q < H.size → AX q → A0 q)
    (kx : ∀ (E : String) (ce : Cell) (q9 : Addr) (u : SX) (t : State) (H1 : Heap) (locs1 : List Loc), t.heap = H1 → s.vm.Alike t.vm → px u → BX E u t → H.size ≤ H1.size → (∀ q : Nat, q < H.size → ¬ AX q → H1[q]? = H[q]?) → va_S A0 H0 H1 locs1 → H1[q9]? = some ce → ce.vm = .none → s.vm.findClass E = some ce.cls → vx_W p l e R s m args below meth c H1 locs1 (cells + mc) (slots + ms) Q (F0 m pc ls rest) q9)
    (kk : ∀ (r : Int32) (u : S) (t : State) (H1 : Heap) (locs1 : List Loc), t.heap = H1 → s.vm.Alike t.vm → post r u → B u t → H.size ≤ H1.size → (∀ q : Nat, q < H.size → ¬ A1 q → H1[q]? = H[q]?) → va_S A0 H0 H1 locs1 → W p l e R s m args below meth c H1 locs1 (cells + mc) (slots + ms) Q (F0 m (pc + 3) ls (.int r :: rest))) : W p l e R s m args below meth c H locs cells slots Q (F0 m pc ls st0) := by
  intro T hT X
  rcases hr T hT X with ⟨v, st₀, t, T', L, h0, X', hL, e1, e2, ⟨⟨r, u, hv, hp, hb⟩, hF⟩, st⟩ | ⟨q, st₀, t, T', L, E, ce, h0, X', hL, e1, e2, ⟨u, hp, hb, hF⟩, hce, hcv, hcl, st⟩
  · cases hv
    obtain ⟨k1, k2, k3⟩ := vx_keep h0 e1 hS hA hf hL hF
    obtain ⟨t2, a1, b1⟩ := kk r u t T'.heap (locs ++ L) e1.symm (by rw [← e2]; exact X'.warmed.alike) hp hb k1 k2 k3 T' rfl X'
    exact ⟨t2, st t2 a1, b1⟩
  · obtain ⟨k1, k2, k3⟩ := vx_keep h0 e1 hS hAX hf hL hF
    obtain ⟨t2, a1, b1⟩ := kx E ce q u t T'.heap (locs ++ L) e1.symm (by rw [← e2]; exact X'.warmed.alike) hp hb k1 k2 k3 (by rw [e1]; exact hce) hcv hcl T' rfl X'
    exact ⟨t2, st.trans a1, b1⟩
theorem vx_calll {S SX : Type} {post : Int64 → S → Prop} {px : SX → Prop} {B : S → State → Prop} {BX : String → SX → State → Prop} {AX : Nat → Prop} (hr : vx_Run p l e R s m args below meth c H locs cells slots mc ms (F0 m pc ls st0) rest (va_Ql post B A1 a) (vx_X px BX AX) free) (hS : va_S A0 H0 H locs) (hA : ∀ q, q < H.size → A1 q → A0 q) (hf : ∀ q, free q → A0 q) (hAX : ∀ q, q < H.size → AX q → A0 q)
    (kx : ∀ (E : String) (ce : Cell) (q9 : Addr) (u : SX) (t : State) (H1 : Heap) (locs1 : List Loc), t.heap = H1 → s.vm.Alike t.vm → px u → BX E u t → H.size ≤ H1.size → (∀ q : Nat, q < H.size → ¬ AX q → H1[q]? = H[q]?) → va_S A0 H0 H1 locs1 → H1[q9]? = some ce → ce.vm = .none → s.vm.findClass E = some ce.cls → vx_W p l e R s m args below meth c H1 locs1 (cells + mc) (slots + ms) Q (F0 m pc ls rest) q9)
    (kk : ∀ (r : Int64) (u : S) (t : State) (H1 : Heap) (locs1 : List Loc), t.heap = H1 → s.vm.Alike t.vm → post r u → B u t → H.size ≤ H1.size → (∀ q : Nat, q < H.size → ¬ A1 q → H1[q]? = H[q]?) → va_S A0 H0 H1 locs1 → W p l e R s m args below meth c H1 locs1 (cells + mc) (slots + ms) Q (F0 m (pc + 3) ls (.long r :: rest))) : W p l e R s m args below meth c H locs cells slots Q (F0 m pc ls st0) := by
  intro T hT X
  rcases hr T hT X with ⟨v, st₀, t, T', L, h0, X', hL, e1, e2, ⟨⟨r, u, hv, hp, hb⟩, hF⟩, st⟩ | ⟨q, st₀, t, T', L, E, ce, h0, X', hL, e1, e2, ⟨u, hp, hb, hF⟩, hce, hcv, hcl, st⟩
  · cases hv
    obtain ⟨k1, k2, k3⟩ := vx_keep h0 e1 hS hA hf hL hF
    obtain ⟨t2, a1, b1⟩ := kk r u t T'.heap (locs ++ L) e1.symm (by rw [← e2]; exact X'.warmed.alike) hp hb k1 k2 k3 T' rfl X'
    exact ⟨t2, st t2 a1, b1⟩
  · obtain ⟨k1, k2, k3⟩ := vx_keep h0 e1 hS hAX hf hL hF
    obtain ⟨t2, a1, b1⟩ := kx E ce q u t T'.heap (locs ++ L) e1.symm (by rw [← e2]; exact X'.warmed.alike) hp hb k1 k2 k3 (by rw [e1]; exact hce) hcv hcl T' rfl X'
    exact ⟨t2, st.trans a1, b1⟩
theorem vx_callf {S SX : Type} {post : UInt32 → S → Prop} {px : SX → Prop} {B : S → State → Prop} {BX : String → SX → State → Prop} {AX : Nat → Prop} (hr : vx_Run p l e R s m args below meth c H locs cells slots mc ms (F0 m pc ls st0) rest (va_Qf post B A1 a) (vx_X px BX AX) free) (hS : va_S A0 H0 H locs) (hA : ∀ q, q < H.size → A1 q → A0 q) (hf : ∀ q, free q → A0 q) (hAX : ∀ q, q < H.size → AX q → A0 q)
    (kx : ∀ (E : String) (ce : Cell) (q9 : Addr) (u : SX) (t : State) (H1 : Heap) (locs1 : List Loc), t.heap = H1 → s.vm.Alike t.vm → px u → BX E u t → H.size ≤ H1.size → (∀ q : Nat, q < H.size → ¬ AX q → H1[q]? = H[q]?) → va_S A0 H0 H1 locs1 → H1[q9]? = some ce → ce.vm = .none → s.vm.findClass E = some ce.cls → vx_W p l e R s m args below meth c H1 locs1 (cells + mc) (slots + ms) Q (F0 m pc ls rest) q9)
    (kk : ∀ (r : UInt32) (u : S) (t : State) (H1 : Heap) (locs1 : List Loc), t.heap = H1 → s.vm.Alike t.vm → post r u → B u t → H.size ≤ H1.size → (∀ q : Nat, q < H.size → ¬ A1 q → H1[q]? = H[q]?) → va_S A0 H0 H1 locs1 → W p l e R s m args below meth c H1 locs1 (cells + mc) (slots + ms) Q (F0 m (pc + 3) ls (.float r :: rest))) : W p l e R s m args below meth c H locs cells slots Q (F0 m pc ls st0) := by
  intro T hT X
  rcases hr T hT X with ⟨v, st₀, t, T', L, h0, X', hL, e1, e2, ⟨⟨r, u, hv, hp, hb⟩, hF⟩, st⟩ | ⟨q, st₀, t, T', L, E, ce, h0, X', hL, e1, e2, ⟨u, hp, hb, hF⟩, hce, hcv, hcl, st⟩
  · cases hv
    obtain ⟨k1, k2, k3⟩ := vx_keep h0 e1 hS hA hf hL hF
    obtain ⟨t2, a1, b1⟩ := kk r u t T'.heap (locs ++ L) e1.symm (by rw [← e2]; exact X'.warmed.alike) hp hb k1 k2 k3 T' rfl X'
    exact ⟨t2, st t2 a1, b1⟩
  · obtain ⟨k1, k2, k3⟩ := vx_keep h0 e1 hS hAX hf hL hF
    obtain ⟨t2, a1, b1⟩ := kx E ce q u t T'.heap (locs ++ L) e1.symm (by rw [← e2]; exact X'.warmed.alike) hp hb k1 k2 k3 (by rw [e1]; exact hce) hcv hcl T' rfl X'
    exact ⟨t2, st.trans a1, b1⟩
theorem vx_calld {S SX : Type} {post : UInt64 → S → Prop} {px : SX → Prop} {B : S → State → Prop} {BX : String → SX → State → Prop} {AX : Nat → Prop} (hr : vx_Run p l e R s m args below meth c H locs cells slots mc ms (F0 m pc ls st0) rest (va_Qd post B A1 a) (vx_X px BX AX) free) (hS : va_S A0 H0 H locs) (hA : ∀ q, q < H.size → A1 q → A0 q) (hf : ∀ q, free q → A0 q) (hAX : ∀ q, q < H.size → AX q → A0 q)
    (kx : ∀ (E : String) (ce : Cell) (q9 : Addr) (u : SX) (t : State) (H1 : Heap) (locs1 : List Loc), t.heap = H1 → s.vm.Alike t.vm → px u → BX E u t → H.size ≤ H1.size → (∀ q : Nat, q < H.size → ¬ AX q → H1[q]? = H[q]?) → va_S A0 H0 H1 locs1 → H1[q9]? = some ce → ce.vm = .none → s.vm.findClass E = some ce.cls → vx_W p l e R s m args below meth c H1 locs1 (cells + mc) (slots + ms) Q (F0 m pc ls rest) q9)
    (kk : ∀ (r : UInt64) (u : S) (t : State) (H1 : Heap) (locs1 : List Loc), t.heap = H1 → s.vm.Alike t.vm → post r u → B u t → H.size ≤ H1.size → (∀ q : Nat, q < H.size → ¬ A1 q → H1[q]? = H[q]?) → va_S A0 H0 H1 locs1 → W p l e R s m args below meth c H1 locs1 (cells + mc) (slots + ms) Q (F0 m (pc + 3) ls (.double r :: rest))) : W p l e R s m args below meth c H locs cells slots Q (F0 m pc ls st0) := by
  intro T hT X
  rcases hr T hT X with ⟨v, st₀, t, T', L, h0, X', hL, e1, e2, ⟨⟨r, u, hv, hp, hb⟩, hF⟩, st⟩ | ⟨q, st₀, t, T', L, E, ce, h0, X', hL, e1, e2, ⟨u, hp, hb, hF⟩, hce, hcv, hcl, st⟩
  · cases hv
    obtain ⟨k1, k2, k3⟩ := vx_keep h0 e1 hS hA hf hL hF
    obtain ⟨t2, a1, b1⟩ := kk r u t T'.heap (locs ++ L) e1.symm (by rw [← e2]; exact X'.warmed.alike) hp hb k1 k2 k3 T' rfl X'
    exact ⟨t2, st t2 a1, b1⟩
  · obtain ⟨k1, k2, k3⟩ := vx_keep h0 e1 hS hAX hf hL hF
    obtain ⟨t2, a1, b1⟩ := kx E ce q u t T'.heap (locs ++ L) e1.symm (by rw [← e2]; exact X'.warmed.alike) hp hb k1 k2 k3 (by rw [e1]; exact hce) hcv hcl T' rfl X'
    exact ⟨t2, st.trans a1, b1⟩
theorem vx_callv {S SX : Type} {post : S → Prop} {px : SX → Prop} {B : S → State → Prop} {BX : String → SX → State → Prop} {AX : Nat → Prop} (hr : vx_Run p l e R s m args below meth c H locs cells slots mc ms (F0 m pc ls st0) rest (va_Qv post B A1 a) (vx_X px BX AX) free) (hS : va_S A0 H0 H locs) (hA : ∀ q, q < H.size → A1 q → A0 q) (hf : ∀ q, free q → A0 q) (hAX : ∀ q, q < H.size → AX q → A0 q)
    (kx : ∀ (E : String) (ce : Cell) (q9 : Addr) (u : SX) (t : State) (H1 : Heap) (locs1 : List Loc), t.heap = H1 → s.vm.Alike t.vm → px u → BX E u t → H.size ≤ H1.size → (∀ q : Nat, q < H.size → ¬ AX q → H1[q]? = H[q]?) → va_S A0 H0 H1 locs1 → H1[q9]? = some ce → ce.vm = .none → s.vm.findClass E = some ce.cls → vx_W p l e R s m args below meth c H1 locs1 (cells + mc) (slots + ms) Q (F0 m pc ls rest) q9)
    (kk : ∀ (u : S) (t : State) (H1 : Heap) (locs1 : List Loc), t.heap = H1 → s.vm.Alike t.vm → post u → B u t → H.size ≤ H1.size → (∀ q : Nat, q < H.size → ¬ A1 q → H1[q]? = H[q]?) → va_S A0 H0 H1 locs1 → W p l e R s m args below meth c H1 locs1 (cells + mc) (slots + ms) Q (F0 m (pc + 3) ls (rest))) : W p l e R s m args below meth c H locs cells slots Q (F0 m pc ls st0) := by
  intro T hT X
  rcases hr T hT X with ⟨v, st₀, t, T', L, h0, X', hL, e1, e2, ⟨⟨u, hv, hp, hb⟩, hF⟩, st⟩ | ⟨q, st₀, t, T', L, E, ce, h0, X', hL, e1, e2, ⟨u, hp, hb, hF⟩, hce, hcv, hcl, st⟩
  · cases hv
    obtain ⟨k1, k2, k3⟩ := vx_keep h0 e1 hS hA hf hL hF
    obtain ⟨t2, a1, b1⟩ := kk u t T'.heap (locs ++ L) e1.symm (by rw [← e2]; exact X'.warmed.alike) hp hb k1 k2 k3 T' rfl X'
    exact ⟨t2, st t2 a1, b1⟩
  · obtain ⟨k1, k2, k3⟩ := vx_keep h0 e1 hS hAX hf hL hF
    obtain ⟨t2, a1, b1⟩ := kx E ce q u t T'.heap (locs ++ L) e1.symm (by rw [← e2]; exact X'.warmed.alike) hp hb k1 k2 k3 (by rw [e1]; exact hce) hcv hcl T' rfl X'
    exact ⟨t2, st.trans a1, b1⟩
/-- caught by the row x of this method's table; the rows ahead don't take it -/
theorem vx_catch {own name : String} {E : String} {ce : Cell} {q : Addr} (hown : s.vm.findClass own = some m.cls) (pre : List ExceptionTableEntry) (x : ExceptionTableEntry) (suf : List ExceptionTableEntry) (hsplit : c.exceptionTable.toList = pre ++ x :: suf)
    (hpass : ∀ z ∈ pre, covers z pc = false ∨ (z.catchType ≠ 0 ∧ ∃ nm : String, (Cond.classLink own z.catchType nm).before args s = true ∧ va_Nc E nm s)) (hx : covers x pc = true) (h0 : x.catchType ≠ 0)
    (hlink : (Cond.classLink own x.catchType name).before args s = true) (hcast : (Cond.castable E name).before args s = true) (hcell : H[q]? = some ce) (hv : ce.vm = .none) (hcl : s.vm.findClass E = some ce.cls)
    (kk : W p l e R s m args below meth c H locs cells slots Q (F0 m x.handlerPc ls [.ref q])) : vx_W p l e R s m args below meth c H locs cells slots Q (F0 m pc ls rest) q := by
  intro T hT X
  have hpl : e.platform.magicAccessors = ({} : Platform).magicAccessors := by rw [X.admits.platform]
  obtain ⟨c3, c4, hc3, hc4, hasg⟩ := Cond.castable_spec hcast
  cases Option.some.inj (hc3.symm.trans hcl)
  obtain ⟨c5, hc5, hcl5⟩ := Cond.classLink_spec hown hlink e.platform hpl
  cases Option.some.inj (hc4.symm.trans hc5)
  obtain ⟨vm', X', st⟩ := zc_caught X q (g := F0 m pc ls rest) rfl (Steps.refl _) (by rw [hT]; exact hcell) (by rw [hv]; rfl) (by obtain ⟨k9, h9, -⟩ := Vm.findClass_spec hcl; exact ⟨k9, h9⟩) pre x suf hsplit
    (fun z hz => by
      rcases hpass z hz with h | ⟨hz0, nm, hl1, hn1⟩
      · exact Or.inl h
      · obtain ⟨c6, hc6, hcl6⟩ := Cond.classLink_spec hown hl1 e.platform hpl
        obtain ⟨a8, b8, h1, h2, h3⟩ := hn1
        cases Option.some.inj (h1.symm.trans hcl)
        cases Option.some.inj (h2.symm.trans hc6)
        exact Or.inr ⟨hz0, _, hcl6, h3⟩) hx (Or.inr ⟨h0, c4, hcl5, hasg⟩)
  obtain ⟨t, a1, b1⟩ := kk (T.setVm vm') hT X'
  exact ⟨t, st.trans a1, b1⟩
end Rows
section Ends
variable {p : Program} {l : Launch} {e : Env} {R : Room} {s : State} {m : MethodId} {args : Array Value} {below : List Frame} {meth : Method} {c : Code} {H : Heap} {locs : List Loc} {cells slots : Nat} {Q : State → Prop}
variable {mc ms : Nat} {free : Addr → Prop} {A0 A1 : Nat → Prop} {H0 : Heap} {a : Array Value} {ls : Array Slot} {st0 rest : List Value}
variable {Qc : Array Value → State → Outcome → State → Prop} {XC : String → State → State → Prop}
/-- what a body that may throw owes at its end -/
def vx_MQ (below : List Frame) (Qc : Array Value → State → Outcome → State → Prop) (XC : String → State → State → Prop) (a : Array Value) (s : State) (mc ms : Nat) (free : Addr → Prop) : State → Prop := fun t =>
  ∃ o, t.status = .running ∧ Ended t below o ∧ vx_Q Qc XC mc ms free a s o t
theorem vx_ret {g : JFrame} {mc ms : Nat} (k : W p l e R s m args below meth c H locs cells slots (MQ below Qc args s mc ms free) g) : W p l e R s m args below meth c H locs cells slots (vx_MQ below Qc XC args s mc ms free) g := by
  intro T hT X
  obtain ⟨t, a1, o, b1, b2, b3, b4⟩ := k T hT X
  exact ⟨t, a1, o, b1, b2, Or.inl ⟨b3, b4⟩⟩
/-- not caught here: it goes on to the caller -/
theorem vx_widen {g : JFrame} {q : Addr} {k n : Nat} (h1 : cells ≤ k) (h2 : slots ≤ n) (kk : vx_W p l e R s m args below meth c H locs k n Q g q) : vx_W p l e R s m args below meth c H locs cells slots Q g q := fun T hT X => kk T hT (stand_widen X h1 h2)
theorem vx_out {pc : Nat} {E : String} {ce : Cell} {q : Addr} {mc ms : Nat} (hout : ∀ x ∈ c.exceptionTable.toList, covers x pc = false) (hlocks : meth.locks = false) (hcell : H[q]? = some ce) (hv : ce.vm = .none) (hcl : s.vm.findClass E = some ce.cls)
    (hx : ∀ t : State, t.heap = H → s.vm.Alike t.vm → XC E s t) (hf : ∀ z ∈ locs, free z.base) (hc : cells ≤ mc) (hs : slots ≤ ms) :
    vx_W p l e R s m args below meth c H locs cells slots (vx_MQ below Qc XC args s mc ms free) (F0 m pc ls rest) q := by
  intro T hT X
  obtain ⟨st1, hrun, hend, hW, hsm⟩ := X.leaveThrown q (g := F0 m pc ls rest) rfl rfl rfl hout hlocks
  have hcell9 : (T.setFrames (.throwing q :: below)).heap[q]? = some ce := by
    show T.heap[q]? = some ce
    rw [hT]; exact hcell
  exact ⟨_, st1, .threw q, hrun, hend, Or.inr ⟨q, rfl, E, ce, locs, hx _ hT hW.alike, hcell9, hv, hcl, hW, hsm.mono hc hs, hf⟩⟩
theorem vx_frame {U : State} {k n : Nat} (h : s.sameButNew ({ U with vm := s.vm } : State) locs k n) : s.heap.size ≤ U.heap.size ∧ ∀ q : Nat, q < s.heap.size → (∀ z ∈ locs, z.base ≠ q) → U.heap[q]? = s.heap[q]? := by
  obtain ⟨-, h2, -, -, -, h6⟩ := h
  refine ⟨h2, fun q hq hz => ?_⟩
  obtain ⟨c9, e1, e2, e3, e4⟩ := h6 q _ (Array.getElem?_eq_getElem hq)
  have hs : c9.slots = (s.heap[q]).slots := Array.ext_getElem? fun i => e4 i fun hm => hz _ hm rfl
  have h9 : c9 = s.heap[q] := by
    rw [hs] at e2
    exact e2
  have e5 : U.heap[q]? = some c9 := e1
  rw [e5, h9, Array.getElem?_eq_getElem hq]
/-- the words of a throw but the four that speak of the heap -/
def vx_no (w : Cond) : Bool := decide (w ≠ .isRef (.static Bundle.tN "UNASSIGNED_STACK" Bundle.steD)) && decide (w ≠ .isRef (.static Bundle.tN "SUPPRESSED_SENTINEL" Bundle.listD)) && decide (w ≠ .laysStatic Bundle.tN "UNASSIGNED_STACK" Bundle.steD) && decide (w ≠ .laysStatic Bundle.tN "SUPPRESSED_SENTINEL" Bundle.listD)
def vx_at0 (own : String) (ic : Nat) (X : String) (names : List String) : List Cond := (Bundle.ownAtoms0 own ic X names).filter vx_no
def vx_atS (own : String) (ic : Nat) (X : String) (names : List String) : List Cond := (Bundle.ownAtoms own ic X names).filter vx_no
/-- a word that the tables alone decide, or a good one -/
def vx_ot (w : Cond) : Bool := w.onTables || goodWord w
theorem vx_ot_at {args a' : Array Value} {s U : State} {w : Cond} (hW : s.WarmedH U.vm) (hvm : s.vm = U.vm) (hg : vx_ot w = true) (h : w.before args s = true) : w.before a' U = true := by
  simp only [vx_ot, Bool.or_eq_true] at hg
  rcases hg with hg | hg
  · exact va_tabs hg hvm h
  · exact word_at hW (good_of_word hg) h
/-- a list's words: the good ones out of the method's own list, the others by premises of their own -/
theorem vx_hat {args : Array Value} {s : State} {L B : List Cond} (h1 : ∀ w ∈ L.filter goodWord, w.before args s = true) (h2 : ∀ w ∈ L.filter (fun w => !goodWord w), w ∈ B) (h3 : ∀ w ∈ B, w.before args s = true) : ∀ w ∈ L, w.before args s = true := by
  intro w hw
  by_cases g : goodWord w = true
  · exact h1 w (List.mem_filter.mpr ⟨hw, g⟩)
  · refine h3 w (h2 w (List.mem_filter.mpr ⟨hw, ?_⟩))
    show (!goodWord w) = true
    cases hgw : goodWord w
    · rfl
    · exact absurd hgw g
theorem vx_c {args : Array Value} {s : State} {w : Cond} {B : List Cond} (h : w.before args s = true) (t : ∀ w ∈ B, w.before args s = true) : ∀ w' ∈ w :: B, w'.before args s = true := fun w' h' => (List.mem_cons.mp h').elim (fun e => by rw [e]; exact h) (t w')
theorem vx_n {args : Array Value} {s : State} : ∀ w ∈ ([] : List Cond), w.before args s = true := fun _ h => nomatch h
theorem vx_own {args : Array Value} {s : State} {L : List Cond} (h1 : ∀ w ∈ L.filter vx_no, w.before args s = true)
    (hU : (Cond.isRef (.static Bundle.tN "UNASSIGNED_STACK" Bundle.steD)).before args s = true) (hN : (Cond.isRef (.static Bundle.tN "SUPPRESSED_SENTINEL" Bundle.listD)).before args s = true)
    (lU : (Cond.laysStatic Bundle.tN "UNASSIGNED_STACK" Bundle.steD).before args s = true) (lN : (Cond.laysStatic Bundle.tN "SUPPRESSED_SENTINEL" Bundle.listD).before args s = true) : ∀ w ∈ L, w.before args s = true := by
  intro w hw
  by_cases e1 : w = .isRef (.static Bundle.tN "UNASSIGNED_STACK" Bundle.steD)
  · rw [e1]; exact hU
  · by_cases e2 : w = .isRef (.static Bundle.tN "SUPPRESSED_SENTINEL" Bundle.listD)
    · rw [e2]; exact hN
    · by_cases e3 : w = .laysStatic Bundle.tN "UNASSIGNED_STACK" Bundle.steD
      · rw [e3]; exact lU
      · by_cases e4 : w = .laysStatic Bundle.tN "SUPPRESSED_SENTINEL" Bundle.listD
        · rw [e4]; exact lN
        · exact h1 w (List.mem_filter.mpr ⟨hw, by unfold vx_no; rw [decide_eq_true e1, decide_eq_true e2, decide_eq_true e3, decide_eq_true e4]; rfl⟩)
/-- where a static field lies, its class's statics cell in H -/
def vx_L (C n d : String) (A : Nat → Prop) (U : State) (H : Heap) : Prop := ∃ (c : ClassId) (k : Class) (i : Nat) (f : Field) (a : Nat) (cell : Cell), U.vm.findClass C = some c ∧ U.fieldFound? C n d = some (c, k, i, f) ∧ f.isStatic = true ∧ k.statics = some a ∧ H[a]? = some cell ∧ cell.vm.isStatics = true ∧ cell.cls = c ∧ f.slot < cell.slots.size ∧ k.staticTypes[f.slot]? = some f.type ∧ ¬ A a
theorem vx_L.moved {C n d : String} {A : Nat → Prop} {u U : State} {H : Heap} (hvm : u.vm.Alike U.vm) (h : vx_L C n d A u H) : vx_L C n d A U H := by
  obtain ⟨c, k, i, f, a, cell, h1, h2, h3, h4, h5, h6, h7, h8, h9, h10⟩ := h
  obtain ⟨k', hi', he⟩ := State.fieldFound?_setVm hvm h2
  exact ⟨c, k', i, f, a, cell, by rw [hvm.findClass]; exact h1, hi', h3, by rw [he]; exact h4, h5, h6, h7, h8, by rw [he]; exact h9, h10⟩
theorem vx_L.kept {C n d : String} {A : Nat → Prop} {U : State} {H H1 : Heap} (h : vx_L C n d A U H) (hq : ∀ a : Nat, a < H.size → ¬ A a → H1[a]? = H[a]?) : vx_L C n d A U H1 := by
  obtain ⟨c, k, i, f, a, cell, h1, h2, h3, h4, h5, h6, h7, h8, h9, h10⟩ := h
  exact ⟨c, k, i, f, a, cell, h1, h2, h3, h4, by rw [hq a (Array.getElem?_eq_some_iff.mp h5).1 h10]; exact h5, h6, h7, h8, h9, h10⟩
theorem vx_L.narrow {C n d : String} {A B : Nat → Prop} {U : State} {H : Heap} (h : vx_L C n d A U H) (hAB : ∀ q, B q → A q) : vx_L C n d B U H := by
  obtain ⟨c, k, i, f, a, cell, h1, h2, h3, h4, h5, h6, h7, h8, h9, h10⟩ := h
  exact ⟨c, k, i, f, a, cell, h1, h2, h3, h4, h5, h6, h7, h8, h9, fun z => h10 (hAB _ z)⟩
theorem vx_L.word {C n d : String} {A : Nat → Prop} {s : State} {args : Array Value} (h : vx_L C n d A s s.heap) : (Cond.laysStatic C n d).before args s = true := by
  obtain ⟨c, k, i, f, a, cell, h1, h2, h3, h4, h5, h6, h7, h8, h9, -⟩ := h
  show (Cond.laysStatic C n d).holds args s none s [] = true
  exact Cond.laysStatic_of h1 h2 h3 h4 h5 h6 h7 h8 h9
/-- .. and what it holds: null or some reference -/
def vx_Zq (C n d : String) (A : Nat → Prop) (U : State) (H : Heap) : Prop := va_Zq C n d A U H ∧ vx_L C n d A U H
theorem vx_Zq.moved {C n d : String} {A : Nat → Prop} {u U : State} {H : Heap} (hvm : u.vm.Alike U.vm) (h : vx_Zq C n d A u H) : vx_Zq C n d A U H := ⟨va_Zq.moved hvm h.1, vx_L.moved hvm h.2⟩
theorem vx_Zq.kept {C n d : String} {A : Nat → Prop} {U : State} {H H1 : Heap} (h : vx_Zq C n d A U H) (hq : ∀ a : Nat, a < H.size → ¬ A a → H1[a]? = H[a]?) : vx_Zq C n d A U H1 := ⟨va_Zq.kept h.1 hq, vx_L.kept h.2 hq⟩
theorem vx_Zq.narrow {C n d : String} {A B : Nat → Prop} {U : State} {H : Heap} (h : vx_Zq C n d A U H) (hAB : ∀ q, B q → A q) : vx_Zq C n d B U H := ⟨va_Zq.narrow h.1 hAB, vx_L.narrow h.2 hAB⟩
theorem vx_Zqof {args : Array Value} {s : State} {C n d : String} {A : Nat → Prop} (hl : (Cond.laysStatic C n d).before args s = true) (hini : (Cond.initialized C).before args s = true) (h : (Cond.isRef (.static C n d)).before args s = true) (hA : ∀ a : Nat, a < s.heap.size → ¬ A a) : vx_Zq C n d A s s.heap := by
  refine ⟨va_Zqof hl hini h hA, ?_⟩
  obtain ⟨c, k, i, f, a, cell, h1, h2, h3, h4, h5, h6, h7, h8, h9⟩ := Cond.laysStatic_spec hl
  exact ⟨c, k, i, f, a, cell, h1, h2, h3, h4, h5, h6, h7, h8, h9, hA a (Array.getElem?_eq_some_iff.mp h5).1⟩
theorem vx_isRef {C n d : String} {v : Value} {A : Nat → Prop} {s : State} {args : Array Value} (h : va_Z C n d v A s s.heap) (hv : v.isRef = true) : (Cond.isRef (.static C n d)).before args s = true := by
  obtain ⟨cf, kf, fi, f, a, cell, h1, h2, h3, h4, h5, h6, h7, -⟩ := h
  have he : (Term.static C n d).eval args s none [] s = some v := by
    simp [Term.eval, State.fieldNamed?, h1, h2, h4, h5, h6, h7]
  simp only [Cond.before, Cond.holds, Cond.value, he]
  cases v <;> simp_all [Value.isRef]
theorem vx_isRefq {C n d : String} {A : Nat → Prop} {s : State} {args : Array Value} (h : va_Zq C n d A s s.heap) : (Cond.isRef (.static C n d)).before args s = true := by
  rcases h with h | ⟨t, h⟩
  · exact vx_isRef h rfl
  · exact vx_isRef h rfl
/-- the same frame, seen from here: as if the method were called anew in this heap -/
theorem vx_rebase {T : State} (X : Stand p l e R s m args below meth c T locs cells slots) {R' : Room} (hf : R'.frames ≤ R.frames) (hl : R'.locals ≤ R.locals) (hc : cells + R'.cells ≤ R.cells) (hs : slots + R'.slots ≤ R.slots) :
    Stand p l e R' ((T.setVm s.vm).setFrames (.invoking m args :: below)) m args below meth c T [] 0 0 := by
  have htop : (T.setVm s.vm).topJava?.isSome := X.here.top
  have hF : ((T.setVm s.vm).setFrames (.invoking m args :: below)).frames = .invoking m args :: below := State.frames_setFrames _ (State.cur_lt_of_top htop)
  obtain ⟨g₀, hg0⟩ := Option.isSome_iff_exists.mp htop
  obtain ⟨r, hr⟩ := State.topJava?_eq_some.mp hg0
  have hl9 : e.platform.stackLimits (T.setVm s.vm).me = e.platform.stackLimits s.me := X.limits
  have hb9 : (T.setVm s.vm).me.stackBytes = s.me.stackBytes := X.bytes
  refine ⟨X.admits, X.cas, X.clock, hF, ?_, X.hears, X.method, X.code, X.here, X.tail, X.warmed, ?_, ?_, ?_⟩
  · have h := X.room
    have hU : ((T.setVm s.vm).setFrames (.invoking m args :: below)).localsInUse = s.localsInUse := by
      rw [State.localsInUse_invoking hF (meth := meth) (c := c) X.method X.code, State.localsInUse_invoking X.frames X.method X.code]
    simp only [State.hasRoom, Bool.and_eq_true, decide_eq_true_eq] at h ⊢
    obtain ⟨⟨⟨⟨h1, h2, h3, h4, h5, h6⟩, h7⟩, h8⟩, h9⟩ := h
    rw [X.frames, List.length_cons] at h2 h3
    have q1 := X.heapSize
    have q2 := X.used
    simp only [hF, hU, List.length_cons, State.stackLimits_setFrames, State.stackBytes_setFrames, hl9, hb9]
    refine ⟨⟨⟨⟨by omega, by omega, by omega, by omega, by omega, h6⟩, ?_⟩, ?_⟩, X.book⟩
    · show T.heap.size + R'.cells ≤ e.platform.maxCells
      omega
    · show T.slotsUsed + R'.slots ≤ e.platform.maxSlots
      omega
  · rw [State.stackLimits_setFrames]; rfl
  · rw [State.stackBytes_setFrames]; rfl
  · refine ⟨?_, Nat.le_refl _, Nat.le_refl _, ?_, ?_, fun a c9 h9 => ⟨c9, h9, rfl, rfl, fun _ _ => rfl⟩⟩
    · obtain ⟨t, ht, -⟩ := State.frames_cons hr
      show T.setVm s.vm = { ((T.setVm s.vm).setFrames (.invoking m args :: below)).setFrames (T.setVm s.vm).frames with heap := T.heap, slotsUsed := T.slotsUsed }
      rw [State.setFrames_setFrames, State.setFrames_self ht]
      rfl
    · show T.slotsUsed = T.slotsUsed + ((T.heap.toList.drop T.heap.size).map (·.slots.size)).sum
      rw [List.drop_eq_nil_of_le (Nat.le_of_eq Array.length_toList)]
      rfl
    · show ((T.heap.toList.drop T.heap.size).map (·.slots.size)).sum ≤ 0
      rw [List.drop_eq_nil_of_le (Nat.le_of_eq Array.length_toList)]
      exact Nat.le_refl _
/-- 'throw new E()': new; dup; invokespecial; athrow -/
theorem vx_throw0 {cc : ByteArray} {pc : Nat} (hexec : p.tables.exec = Jvm.exec) (hb : c.code = cc) (hl : l.stackTraces = false) {own cls : String} {names : List String} {ik ic mc ms : Nat} {A : Nat → Prop}
    (hown : s.vm.findClass own = some m.cls) (hcls : Bundle.fit cls = true) (hnames : ∀ n ∈ names, Bundle.fit n = true)
    (hk : (Cond.classLink own ik cls).before args s = true) (hini : (Cond.initialized cls).before args s = true) (hat : ∀ w ∈ vx_at0 own ic cls names, w.before args s = true)
    (hgood : ∀ w ∈ Cond.classLink own ik cls :: Cond.initialized cls :: vx_at0 own ic cls names, vx_ot w = true)
    (hU : vx_Zq Bundle.tN "UNASSIGNED_STACK" Bundle.steD A s s.heap) (hN : vx_Zq Bundle.tN "SUPPRESSED_SENTINEL" Bundle.listD A s s.heap) (hS : va_S A s.heap H locs) (hsize : ls.size = c.maxLocals)
    (d0 : decode cc pc = .ok (.new ik, 3)) (d3 : decode cc (pc + 3) = .ok (.dup, 1)) (d4 : decode cc (pc + 4) = .ok (.invokespecial ic, 3)) (d7 : decode cc (pc + 7) = .ok (.athrow, 1))
    (hout : ∀ x ∈ c.exceptionTable.toList, covers x (pc + 7) = false)
    (hRframes : names.length + 3 < R.frames) (hRlocals : (rest.map fun v => v.category).sum + (13 * (names.length + 1) + 42) ≤ R.locals) (hRcells : cells + 1 ≤ R.cells) (hRslots : slots + 6 ≤ R.slots) (hlocks : meth.locks = false)
    (hx : ∀ t : State, s.vm.Alike t.vm → H.size ≤ t.heap.size → (∀ q : Nat, q < H.size → t.heap[q]? = H[q]?) → XC cls s t)
    (hf : ∀ z ∈ locs, free z.base) (hc : cells + 1 ≤ mc) (hs : slots + 6 ≤ ms) :
    W p l e R s m args below meth c H locs cells slots (vx_MQ below Qc XC args s mc ms free) (F0 m pc ls rest) := by
  intro T hT X
  have htr : e.platform.stackTraces = false := (show e.platform.stackTraces = l.stackTraces by rw [X.admits.platform]).trans hl
  have Y := vx_rebase X (R' := { frames := R.frames, locals := R.locals, cells := 1, slots := 6 }) (Nat.le_refl _) (Nat.le_refl _) hRcells hRslots
  obtain ⟨s', hA⟩ : ∃ z, z = (T.setVm s.vm).setFrames (.invoking m args :: below) := ⟨_, rfl⟩
  rw [← hA] at Y
  have hvm : s'.vm = s.vm := by rw [hA]; rfl
  have hhp : s'.heap = H := by rw [hA]; exact hT
  have hW0 : s.WarmedH s'.vm := by rw [hvm]; exact State.WarmedH.refl s
  have hat' : ∀ w ∈ vx_at0 own ic cls names, w.before args s' = true := fun w hw => vx_ot_at hW0 hvm.symm (hgood w (List.mem_cons_of_mem _ (List.mem_cons_of_mem _ hw))) (hat w hw)
  have hk' : (Cond.classLink own ik cls).before args s' = true := vx_ot_at hW0 hvm.symm (hgood _ List.mem_cons_self) hk
  have hini' : (Cond.initialized cls).before args s' = true := vx_ot_at hW0 hvm.symm (hgood _ (List.mem_cons_of_mem _ List.mem_cons_self)) hini
  have hU' : vx_Zq Bundle.tN "UNASSIGNED_STACK" Bundle.steD A s' s'.heap := by rw [hhp]; exact vx_Zq.moved hW0.alike (hU.kept hS.2.1)
  have hN' : vx_Zq Bundle.tN "SUPPRESSED_SENTINEL" Bundle.listD A s' s'.heap := by rw [hhp]; exact vx_Zq.moved hW0.alike (hN.kept hS.2.1)
  have h : ∀ w ∈ Bundle.ownAtoms0 own ic cls names, w.before args s' = true := vx_own hat' (vx_isRefq hU'.1) (vx_isRefq hN'.1) hU'.2.word hN'.2.word
  have hown' : s'.vm.findClass own = some m.cls := by rw [hvm]; exact hown
  have hins : (Cond.instantiable cls 6).before args s' = true := h _ (by simp [Bundle.ownAtoms0])
  obtain ⟨vm₁, cX, kX, hfX, hkX, -, -, X₁, st1⟩ := Y.newCold hexec (own := own) (C := cls) (index := ik) (n := 6) hown' hk' hins hini'
    (g := F0 m pc ls rest) rfl (by rw [hb]; exact d0) (Nat.le_refl _) (Nat.le_refl _)
  generalize hT1 : (T.setVm vm₁).pushCell { cls := cX, slots := kX.instanceTypes.map defaultValue, vm := .none } = T1 at X₁ st1
  have hcat : (Value.ref T.heap.size).category = 1 := rfl
  have hcellA : T1.heap[T.heap.size]? = some (freshCell cX kX) := by rw [← hT1]; exact State.heap_pushCell_size _ _
  have d3' : decode c.code (pc + 3) = .ok (.dup, 1) := by rw [hb]; exact d3
  obtain ⟨U, hsteps, hrun, hend, hW, hsame, ce, hce, hO⟩ := X₁.ctorThrow0 hexec htr (own := own) (cls := cls) (names := names) (ic := ic) hown' hcls hnames h (fun x hx => nomatch hx) hfX hkX hcellA (by rw [hhp, hT]; exact Nat.le_refl _)
    (g := { method := m, pc := pc + 4, locals := ls, stack := .ref T.heap.size :: .ref T.heap.size :: rest, locked := none }) rfl hsize rfl rfl (rest := rest) rfl
    (by rw [hb]; exact d4) (by rw [hb]; exact d7) hout hRframes (by simp only [List.map_cons, List.sum_cons, hcat]; omega) hlocks
  obtain ⟨f1, f2⟩ := vx_frame hsame
  rw [hhp] at f1 f2
  have hWs : s.WarmedH U.vm := State.WarmedH.trans hW0 hW
  have hcl : s.vm.findClass cls = some ce.cls := by
    have h9 := hO.cls
    rw [hvm] at h9
    exact h9
  have hall : s.sameButNew ({ U with vm := s.vm } : State) locs mc ms := by
    subst hA
    obtain ⟨e1, e2⟩ := hsame
    rw [State.setFrames_setFrames] at e1
    have h2 : (T.setVm s.vm).sameButNew ({ U with vm := s.vm } : State) [] (0 + 1) (0 + 6) := ⟨e1, e2⟩
    have h3 := X.same.trans h2
    rw [List.append_nil] at h3
    exact h3.mono hc hs
  refine ⟨U, ?_, .threw T.heap.size, hrun, hend, Or.inr ⟨T.heap.size, rfl, cls, ce, locs, hx U hWs.alike f1 (fun q hq => f2 q hq (fun z hz => nomatch hz)), hce, hO.vm, hcl, hWs, hall, hf⟩⟩
  refine st1 _ ?_
  show Steps p.tables e below (T1.setTop { method := m, pc := pc + 3, locals := ls, stack := .ref T.heap.size :: rest, locked := none }) _
  jvm_step X₁.here [X₁.here.top, hexec, d3', Value.category]
  exact hsteps
/-- 'throw new E("text")': new; dup; ldc; invokespecial; athrow -/
theorem vx_throwS {cc : ByteArray} {pc : Nat} (hexec : p.tables.exec = Jvm.exec) (hb : c.code = cc) (hl : l.stackTraces = false) {own cls text : String} {names : List String} {ik is ic mc ms sa : Nat} {A : Nat → Prop}
    (hown : s.vm.findClass own = some m.cls) (hcls : Bundle.fit cls = true) (hnames : ∀ n ∈ names, Bundle.fit n = true)
    (hk : (Cond.classLink own ik cls).before args s = true) (hini : (Cond.initialized cls).before args s = true) (hstr : vk_R own is text sa s) (hat : ∀ w ∈ vx_atS own ic cls names, w.before args s = true)
    (hgood : ∀ w ∈ Cond.classLink own ik cls :: Cond.initialized cls :: vx_atS own ic cls names, vx_ot w = true)
    (hU : vx_Zq Bundle.tN "UNASSIGNED_STACK" Bundle.steD A s s.heap) (hN : vx_Zq Bundle.tN "SUPPRESSED_SENTINEL" Bundle.listD A s s.heap) (hS : va_S A s.heap H locs) (hsize : ls.size = c.maxLocals)
    (d0 : decode cc pc = .ok (.new ik, 3)) (d3 : decode cc (pc + 3) = .ok (.dup, 1)) (d4 : decode cc (pc + 4) = .ok (.ldc is, 2)) (d6 : decode cc (pc + 6) = .ok (.invokespecial ic, 3)) (d9 : decode cc (pc + 9) = .ok (.athrow, 1))
    (hout : ∀ x ∈ c.exceptionTable.toList, covers x (pc + 9) = false)
    (hRframes : names.length + 3 < R.frames) (hRlocals : (rest.map fun v => v.category).sum + (13 * (names.length + 1) + 43) ≤ R.locals) (hRcells : cells + 1 ≤ R.cells) (hRslots : slots + 6 ≤ R.slots) (hlocks : meth.locks = false)
    (hx : ∀ t : State, s.vm.Alike t.vm → H.size ≤ t.heap.size → (∀ q : Nat, q < H.size → t.heap[q]? = H[q]?) → XC cls s t)
    (hf : ∀ z ∈ locs, free z.base) (hc : cells + 1 ≤ mc) (hs : slots + 6 ≤ ms) :
    W p l e R s m args below meth c H locs cells slots (vx_MQ below Qc XC args s mc ms free) (F0 m pc ls rest) := by
  intro T hT X
  have htr : e.platform.stackTraces = false := (show e.platform.stackTraces = l.stackTraces by rw [X.admits.platform]).trans hl
  have Y := vx_rebase X (R' := { frames := R.frames, locals := R.locals, cells := 1, slots := 6 }) (Nat.le_refl _) (Nat.le_refl _) hRcells hRslots
  obtain ⟨s', hA⟩ : ∃ z, z = (T.setVm s.vm).setFrames (.invoking m args :: below) := ⟨_, rfl⟩
  rw [← hA] at Y
  have hvm : s'.vm = s.vm := by rw [hA]; rfl
  have hhp : s'.heap = H := by rw [hA]; exact hT
  have hW0 : s.WarmedH s'.vm := by rw [hvm]; exact State.WarmedH.refl s
  have hat' : ∀ w ∈ vx_atS own ic cls names, w.before args s' = true := fun w hw => vx_ot_at hW0 hvm.symm (hgood w (List.mem_cons_of_mem _ (List.mem_cons_of_mem _ hw))) (hat w hw)
  have hk' : (Cond.classLink own ik cls).before args s' = true := vx_ot_at hW0 hvm.symm (hgood _ List.mem_cons_self) hk
  have hini' : (Cond.initialized cls).before args s' = true := vx_ot_at hW0 hvm.symm (hgood _ (List.mem_cons_of_mem _ List.mem_cons_self)) hini
  have hU' : vx_Zq Bundle.tN "UNASSIGNED_STACK" Bundle.steD A s' s'.heap := by rw [hhp]; exact vx_Zq.moved hW0.alike (hU.kept hS.2.1)
  have hN' : vx_Zq Bundle.tN "SUPPRESSED_SENTINEL" Bundle.listD A s' s'.heap := by rw [hhp]; exact vx_Zq.moved hW0.alike (hN.kept hS.2.1)
  have h : ∀ w ∈ Bundle.ownAtoms own ic cls names, w.before args s' = true := vx_own hat' (vx_isRefq hU'.1) (vx_isRefq hN'.1) hU'.2.word hN'.2.word
  have hown' : s'.vm.findClass own = some m.cls := by rw [hvm]; exact hown
  have hins : (Cond.instantiable cls 6).before args s' = true := h _ (by simp [Bundle.ownAtoms])
  obtain ⟨vm₁, cX, kX, hfX, hkX, -, -, X₁, st1⟩ := Y.newCold hexec (own := own) (C := cls) (index := ik) (n := 6) hown' hk' hins hini'
    (g := F0 m pc ls rest) rfl (by rw [hb]; exact d0) (Nat.le_refl _) (Nat.le_refl _)
  generalize hT1 : (T.setVm vm₁).pushCell { cls := cX, slots := kX.instanceTypes.map defaultValue, vm := .none } = T1 at X₁ st1
  have hcat : (Value.ref T.heap.size).category = 1 := rfl
  have hcellA : T1.heap[T.heap.size]? = some (freshCell cX kX) := by rw [← hT1]; exact State.heap_pushCell_size _ _
  have d3' : decode c.code (pc + 3) = .ok (.dup, 1) := by rw [hb]; exact d3
  have d4' : decode c.code (pc + 4) = .ok (.ldc is, 2) := by rw [hb]; exact d4
  have hstr' : vk_R own is text sa s' := vk_R.warm hW0 hstr
  obtain ⟨U, hsteps, hrun, hend, hW, hsame, ce, hce, hO⟩ := X₁.ctorThrowS hexec htr (own := own) (cls := cls) (names := names) (ic := ic) hown' hcls hnames h (fun x hx => nomatch hx) hfX hkX hcellA (by rw [hhp, hT]; exact Nat.le_refl _) (msg := .ref sa) rfl
    (g := { method := m, pc := pc + 6, locals := ls, stack := .ref sa :: .ref T.heap.size :: .ref T.heap.size :: rest, locked := none }) rfl hsize rfl rfl (rest := rest) rfl
    (by rw [hb]; exact d6) (by rw [hb]; exact d9) hout hRframes (by simp only [List.map_cons, List.sum_cons, hcat]; omega) hlocks
  obtain ⟨f1, f2⟩ := vx_frame hsame
  rw [hhp] at f1 f2
  have hWs : s.WarmedH U.vm := State.WarmedH.trans hW0 hW
  have hcl : s.vm.findClass cls = some ce.cls := by
    have h9 := hO.cls
    rw [hvm] at h9
    exact h9
  have hall : s.sameButNew ({ U with vm := s.vm } : State) locs mc ms := by
    subst hA
    obtain ⟨e1, e2⟩ := hsame
    rw [State.setFrames_setFrames] at e1
    have h2 : (T.setVm s.vm).sameButNew ({ U with vm := s.vm } : State) [] (0 + 1) (0 + 6) := ⟨e1, e2⟩
    have h3 := X.same.trans h2
    rw [List.append_nil] at h3
    exact h3.mono hc hs
  refine ⟨U, ?_, .threw T.heap.size, hrun, hend, Or.inr ⟨T.heap.size, rfl, cls, ce, locs, hx U hWs.alike f1 (fun q hq => f2 q hq (fun z hz => nomatch hz)), hce, hO.vm, hcl, hWs, hall, hf⟩⟩
  refine st1 _ ?_
  show Steps p.tables e below (T1.setTop { method := m, pc := pc + 3, locals := ls, stack := .ref T.heap.size :: rest, locked := none }) _
  jvm_step X₁.here [X₁.here.top, hexec, d3', Value.category]
  exact X₁.ldcString hexec (own := own) (text := text) (index := is) (a := sa) hown' hstr'.1 hstr'.2
    (g := { method := m, pc := pc + 4, locals := ls, stack := .ref T.heap.size :: .ref T.heap.size :: rest, locked := none }) rfl d4' _ hsteps
/-- 'throw new E("text")', the text by a wide index -/
theorem vx_throwSW {cc : ByteArray} {pc : Nat} (hexec : p.tables.exec = Jvm.exec) (hb : c.code = cc) (hl : l.stackTraces = false) {own cls text : String} {names : List String} {ik is ic mc ms sa : Nat} {A : Nat → Prop}
    (hown : s.vm.findClass own = some m.cls) (hcls : Bundle.fit cls = true) (hnames : ∀ n ∈ names, Bundle.fit n = true)
    (hk : (Cond.classLink own ik cls).before args s = true) (hini : (Cond.initialized cls).before args s = true) (hstr : vk_R own is text sa s) (hat : ∀ w ∈ vx_atS own ic cls names, w.before args s = true)
    (hgood : ∀ w ∈ Cond.classLink own ik cls :: Cond.initialized cls :: vx_atS own ic cls names, vx_ot w = true)
    (hU : vx_Zq Bundle.tN "UNASSIGNED_STACK" Bundle.steD A s s.heap) (hN : vx_Zq Bundle.tN "SUPPRESSED_SENTINEL" Bundle.listD A s s.heap) (hS : va_S A s.heap H locs) (hsize : ls.size = c.maxLocals)
    (d0 : decode cc pc = .ok (.new ik, 3)) (d3 : decode cc (pc + 3) = .ok (.dup, 1)) (d4 : decode cc (pc + 4) = .ok (.ldc_w is, 3)) (d7 : decode cc (pc + 7) = .ok (.invokespecial ic, 3)) (d10 : decode cc (pc + 10) = .ok (.athrow, 1))
    (hout : ∀ x ∈ c.exceptionTable.toList, covers x (pc + 10) = false)
    (hRframes : names.length + 3 < R.frames) (hRlocals : (rest.map fun v => v.category).sum + (13 * (names.length + 1) + 43) ≤ R.locals) (hRcells : cells + 1 ≤ R.cells) (hRslots : slots + 6 ≤ R.slots) (hlocks : meth.locks = false)
    (hx : ∀ t : State, s.vm.Alike t.vm → H.size ≤ t.heap.size → (∀ q : Nat, q < H.size → t.heap[q]? = H[q]?) → XC cls s t)
    (hf : ∀ z ∈ locs, free z.base) (hc : cells + 1 ≤ mc) (hs : slots + 6 ≤ ms) :
    W p l e R s m args below meth c H locs cells slots (vx_MQ below Qc XC args s mc ms free) (F0 m pc ls rest) := by
  intro T hT X
  have htr : e.platform.stackTraces = false := (show e.platform.stackTraces = l.stackTraces by rw [X.admits.platform]).trans hl
  have Y := vx_rebase X (R' := { frames := R.frames, locals := R.locals, cells := 1, slots := 6 }) (Nat.le_refl _) (Nat.le_refl _) hRcells hRslots
  obtain ⟨s', hA⟩ : ∃ z, z = (T.setVm s.vm).setFrames (.invoking m args :: below) := ⟨_, rfl⟩
  rw [← hA] at Y
  have hvm : s'.vm = s.vm := by rw [hA]; rfl
  have hhp : s'.heap = H := by rw [hA]; exact hT
  have hW0 : s.WarmedH s'.vm := by rw [hvm]; exact State.WarmedH.refl s
  have hat' : ∀ w ∈ vx_atS own ic cls names, w.before args s' = true := fun w hw => vx_ot_at hW0 hvm.symm (hgood w (List.mem_cons_of_mem _ (List.mem_cons_of_mem _ hw))) (hat w hw)
  have hk' : (Cond.classLink own ik cls).before args s' = true := vx_ot_at hW0 hvm.symm (hgood _ List.mem_cons_self) hk
  have hini' : (Cond.initialized cls).before args s' = true := vx_ot_at hW0 hvm.symm (hgood _ (List.mem_cons_of_mem _ List.mem_cons_self)) hini
  have hU' : vx_Zq Bundle.tN "UNASSIGNED_STACK" Bundle.steD A s' s'.heap := by rw [hhp]; exact vx_Zq.moved hW0.alike (hU.kept hS.2.1)
  have hN' : vx_Zq Bundle.tN "SUPPRESSED_SENTINEL" Bundle.listD A s' s'.heap := by rw [hhp]; exact vx_Zq.moved hW0.alike (hN.kept hS.2.1)
  have h : ∀ w ∈ Bundle.ownAtoms own ic cls names, w.before args s' = true := vx_own hat' (vx_isRefq hU'.1) (vx_isRefq hN'.1) hU'.2.word hN'.2.word
  have hown' : s'.vm.findClass own = some m.cls := by rw [hvm]; exact hown
  have hins : (Cond.instantiable cls 6).before args s' = true := h _ (by simp [Bundle.ownAtoms])
  obtain ⟨vm₁, cX, kX, hfX, hkX, -, -, X₁, st1⟩ := Y.newCold hexec (own := own) (C := cls) (index := ik) (n := 6) hown' hk' hins hini'
    (g := F0 m pc ls rest) rfl (by rw [hb]; exact d0) (Nat.le_refl _) (Nat.le_refl _)
  generalize hT1 : (T.setVm vm₁).pushCell { cls := cX, slots := kX.instanceTypes.map defaultValue, vm := .none } = T1 at X₁ st1
  have hcat : (Value.ref T.heap.size).category = 1 := rfl
  have hcellA : T1.heap[T.heap.size]? = some (freshCell cX kX) := by rw [← hT1]; exact State.heap_pushCell_size _ _
  have d3' : decode c.code (pc + 3) = .ok (.dup, 1) := by rw [hb]; exact d3
  have d4' : decode c.code (pc + 4) = .ok (.ldc_w is, 3) := by rw [hb]; exact d4
  have hstr' : vk_R own is text sa s' := vk_R.warm hW0 hstr
  obtain ⟨U, hsteps, hrun, hend, hW, hsame, ce, hce, hO⟩ := X₁.ctorThrowS hexec htr (own := own) (cls := cls) (names := names) (ic := ic) hown' hcls hnames h (fun x hx => nomatch hx) hfX hkX hcellA (by rw [hhp, hT]; exact Nat.le_refl _) (msg := .ref sa) rfl
    (g := { method := m, pc := pc + 7, locals := ls, stack := .ref sa :: .ref T.heap.size :: .ref T.heap.size :: rest, locked := none }) rfl hsize rfl rfl (rest := rest) rfl
    (by rw [hb]; exact d7) (by rw [hb]; exact d10) hout hRframes (by simp only [List.map_cons, List.sum_cons, hcat]; omega) hlocks
  obtain ⟨f1, f2⟩ := vx_frame hsame
  rw [hhp] at f1 f2
  have hWs : s.WarmedH U.vm := State.WarmedH.trans hW0 hW
  have hcl : s.vm.findClass cls = some ce.cls := by
    have h9 := hO.cls
    rw [hvm] at h9
    exact h9
  have hall : s.sameButNew ({ U with vm := s.vm } : State) locs mc ms := by
    subst hA
    obtain ⟨e1, e2⟩ := hsame
    rw [State.setFrames_setFrames] at e1
    have h2 : (T.setVm s.vm).sameButNew ({ U with vm := s.vm } : State) [] (0 + 1) (0 + 6) := ⟨e1, e2⟩
    have h3 := X.same.trans h2
    rw [List.append_nil] at h3
    exact h3.mono hc hs
  refine ⟨U, ?_, .threw T.heap.size, hrun, hend, Or.inr ⟨T.heap.size, rfl, cls, ce, locs, hx U hWs.alike f1 (fun q hq => f2 q hq (fun z hz => nomatch hz)), hce, hO.vm, hcl, hWs, hall, hf⟩⟩
  refine st1 _ ?_
  show Steps p.tables e below (T1.setTop { method := m, pc := pc + 3, locals := ls, stack := .ref T.heap.size :: rest, locked := none }) _
  jvm_step X₁.here [X₁.here.top, hexec, d3', Value.category]
  exact X₁.ldcStringW hexec (own := own) (text := text) (index := is) (a := sa) hown' hstr'.1 hstr'.2
    (g := { method := m, pc := pc + 4, locals := ls, stack := .ref T.heap.size :: .ref T.heap.size :: rest, locked := none }) rfl d4' _ hsteps
end Ends
section Bodies
variable {l : Launch}
theorem vx_ofW {y : MethodName} {ws ws' : List Cond} {rm : Room} {Pc : Array Value → State → Prop} {Qc : Array Value → State → Outcome → State → Prop} {XC : String → State → State → Prop} {mc ms : Nat} {free : Addr → Prop} {cc : ByteArray} {maxL : Nat} {ret : Option FieldType}
    (hy : plainName y.cls = true) (hw : ws = Cond.code y cc maxL ret :: ws')
    (body : ∀ p e s m args below meth c s₁, BodyLoose p l y (headSpec ws rm) cc maxL ret e s m args below meth c s₁ → c.maxLocals = maxL → (∀ x ∈ c.exceptionTable.toList, False) → Pc args s →
      W p l e (headSpec ws rm).room s m args below meth c s.heap [] 0 0 (vx_MQ below Qc XC args s mc ms free) (entryFrame m args maxL)) : vx_Met l y ws rm Pc Qc XC mc ms free := by
  refine MetFree.of_bodyS (code := cc) (maxLocals := maxL) (ret := ret) hy ?_ ?_
  · intro args s m h hn
    obtain ⟨meth, c, h1, h2, h3, h4, h5, h6, -, -⟩ := Cond.code_spec hn (atoms_spec (ws := ws) h _ (by rw [hw]; exact List.mem_cons_self))
    exact ⟨meth, c, h1, h2, h3, h4, h5, h6⟩
  · intro p e s m args below meth c s₁ B hml hP _
    have hh0 : s₁.heap = s.heap := by rw [B.state]; rfl
    have ht : ∀ x ∈ c.exceptionTable.toList, False := by
      obtain ⟨meth9, c9, h1, h2, -, -, -, -, h7, -⟩ := Cond.code_spec B.named (atoms_spec (ws := ws) B.pre _ (by rw [hw]; exact List.mem_cons_self))
      cases Option.some.inj (h1.symm.trans B.method)
      cases Option.some.inj (h2.symm.trans (Stand.of_body B).code)
      intro x hx
      rw [Array.isEmpty_iff.mp h7] at hx
      cases hx
    obtain ⟨t, a1, o, b1, b2, b3⟩ := body p e s m args below meth c s₁ B hml ht hP s₁ hh0 (Stand.of_body B)
    exact ⟨t, o, a1, b1, b2, b3⟩
/-- the table of a body with handlers -/
theorem vx_table {p : Program} {x y : MethodName} {S : Spec} {cc bytes : ByteArray} {maxL maxL' : Nat} {ret ret' : Option FieldType} {e : Env} {s s₁ : State} {m : MethodId} {args : Array Value} {below : List Frame} {meth : Method} {c : Code} {hh : List (Nat × Nat × Nat × Nat)}
    (B : BodyLoose p l y S cc maxL ret e s m args below meth c s₁) (h : (Cond.codeWith y bytes maxL' ret' hh).before args s = true) : c.exceptionTable.toList = tableOf hh := by
  obtain ⟨m9, meth9, c9, hn9, h1, h2, -, -, h6, -⟩ := Cond.codeWith_spec h
  cases Option.some.inj (hn9.symm.trans B.named)
  cases Option.some.inj (h1.symm.trans B.method)
  cases Option.some.inj (h2.symm.trans (Stand.of_body B).code)
  rw [← h6, table_eq]
end Bodies
end VXA
/-! ===== END ===== -/
/-! ===== BEGIN a static call of a method with an exception table ===== -/
section VXS
variable {p : Program} {l : Launch} {e : Env} {R : Room} {s : State} {m : MethodId} {args : Array Value} {below : List Frame} {meth : Method} {c : Code} {T : State} {H : Heap} {locs : List Loc} {cells slots : Nat}
abbrev vx_CSW (R : Room) (s : State) (args : Array Value) (own : String) (index : Nat) (y : MethodName) (bytes : ByteArray) (maxL : Nat) (ret : Option FieldType) (hh : List (Nat × Nat × Nat × Nat)) (ws : List Cond) (rm : Room) (mc ms n : Nat) : Prop :=
  (rm.cells = mc ∧ rm.slots = ms ∧ rm.frames + 1 ≤ R.frames ∧ 8 + (maxL + 11) + rm.locals ≤ R.locals ∧ (∀ w ∈ ws, ∀ (a' : Array Value) (U : State), s.WarmedH U.vm → w.before a' U = true) ∧ Cond.codeWith y bytes maxL ret hh ∈ ws) ∧
  (Cond.codeWith y bytes maxL ret hh).before args s = true ∧ (Cond.initialized y.cls).before args s = true ∧ (y.cls ≠ "java/lang/invoke/MethodHandle" ∧ y.cls ≠ "java/lang/invoke/VarHandle") ∧
  (∀ sig, parseMethodDescriptor y.desc = some sig → n = sig.parameters.length) ∧ (Cond.methodLink own index y).before args s = true ∧ (Cond.static y).before args s = true
theorem vx_cwSW {own : String} {index maxL mc ms : Nat} {y : MethodName} {bytes : ByteArray} {ret : Option FieldType} {hh : List (Nat × Nat × Nat × Nat)} {Ts ws ws' : List Cond} {rm : Room} (n : Nat) (ht : ∀ w ∈ Ts, w.before args s = true) (hT : GoodIn Ts (va_wsS own index y ws)) (hw : ws = Cond.codeWith y bytes maxL ret hh :: ws') (hrc : rm.cells = mc) (hrs : rm.slots = ms)
    (hd : y.cls ≠ "java/lang/invoke/MethodHandle" ∧ y.cls ≠ "java/lang/invoke/VarHandle" ∧ (parseMethodDescriptor y.desc).map (fun d => d.parameters.length) = some n) (hR : rm.frames + 1 ≤ R.frames ∧ 8 + (maxL + 11) + rm.locals ≤ R.locals) :
    vx_CSW R s args own index y bytes maxL ret hh ws rm mc ms n := by
  have ok : ∀ w ∈ va_wsS own index y ws, w.before args s = true := fun w h => ht w (hT w h).1
  have hG : GoodIn Ts ws := fun w h => hT w (by unfold va_wsS; exact List.mem_append_right _ h)
  have hc : Cond.codeWith y bytes maxL ret hh ∈ ws := by rw [hw]; exact List.mem_cons_self
  refine ⟨⟨hrc, hrs, hR.1, hR.2, pay_in ht hG, hc⟩, ht _ (hG _ hc).1, ok _ (by simp [va_wsS]), ⟨hd.1, hd.2.1⟩, fun sig h => ?_, ok _ (by simp [va_wsS]), ok _ (by simp [va_wsS])⟩
  have h2 := hd.2.2
  rw [h] at h2
  exact (Option.some.inj h2).symm
theorem vx_callSW (X : Stand p l e R s m args below meth c T locs cells slots) (hexec : p.tables.exec = Jvm.exec) {own : String} {index : Nat} {y : MethodName} {bytes : ByteArray} {maxL : Nat} {ret : Option FieldType} {hh : List (Nat × Nat × Nat × Nat)}
    (hown : s.vm.findClass own = some m.cls) (hlink : (Cond.methodLink own index y).before args s = true) (hstat : (Cond.static y).before args s = true) (hinit : (Cond.initialized y.cls).before args s = true)
    (hcode : (Cond.codeWith y bytes maxL ret hh).before args s = true) (hy : y.cls ≠ "java/lang/invoke/MethodHandle" ∧ y.cls ≠ "java/lang/invoke/VarHandle")
    {W9 : Nat} {Pre : Pt → Array Value → Prop} {Post : Pt → Array Value → Option Value → Pt → Prop} (hK : Back l R p e below s args y 3 W9 Pre Post)
    {g : JFrame} (hg : g.method = m) (hsize : g.locals.size = c.maxLocals) {argsL rest : List Value} (hlen : ∀ sig, parseMethodDescriptor y.desc = some sig → argsL.length = sig.parameters.length)
    (hstack : g.stack = argsL.reverse ++ rest) (hW : 2 * g.monitorRoom + (rest.map fun v => v.category).sum ≤ W9) (hdg : decode c.code g.pc = .ok (.invokestatic index, 3))
    (hpre : ∀ vm₁, s.WarmedH vm₁ → Pre ⟨T.setVm vm₁, locs, cells, slots⟩ argsL.toArray) :
    ∃ (v : Option Value) (vm₁ : Vm) (B : Pt), s.WarmedH vm₁ ∧ Stand p l e R s m args below meth c B.U B.locs B.cells B.slots ∧ Post ⟨T.setVm vm₁, locs, cells, slots⟩ argsL.toArray v B ∧
      ∀ target, Steps p.tables e below (B.U.setTop { g with pc := g.pc + 3, stack := v.toList ++ rest }) target → Steps p.tables e below (T.setTop g) target := by
  obtain ⟨mk, methM, cM, hnamed, hmethM, -, -, -, -, -, -, hsigM⟩ := Cond.codeWith_spec hcode
  have hstatic : methM.isStatic = true := Cond.static_spec hnamed hmethM hstat
  obtain ⟨kP, hkP, -⟩ := className_of_methodNamed hnamed
  have hinitP : kP.init = .initialized := Cond.initialized_spec (findClass_of_methodNamed hnamed) hkP hinit
  obtain ⟨vm₁, X₁, hstep₁⟩ := X.invokestatic hexec hown hlink hnamed hmethM hstatic hkP hinitP hy (g := g) hg (argsL := argsL) (rest := rest) (hlen _ hsigM) hstack hdg
  obtain ⟨v, B, X', hpost, hsteps⟩ := hK m meth c ⟨T.setVm vm₁, locs, cells, slots⟩ { g with stack := rest } (.invokestatic index) mk argsL.toArray X₁ hg hsize hdg hW (X₁.named hnamed) (hpre vm₁ X₁.warmed)
  exact ⟨v, vm₁, B, X₁.warmed, X', hpost, fun target h => hstep₁ _ fun acts => by rw [doInvoke_state]; exact hsteps.trans h⟩
theorem vx_runSW {y : MethodName} {bytes cc : ByteArray} {maxL nL mc ms n index : Nat} {ret : Option FieldType} {hh : List (Nat × Nat × Nat × Nat)} {ws : List Cond} {rm : Room} {Pc : Array Value → State → Prop} {Qc : Array Value → State → Outcome → State → Prop} {free : Addr → Prop} {Ts : List Cond} {own : String} {As rest : List Value} {g : JFrame}
    (S : CallFix p m c cc nL s args Ts own) (hM : Met l y ws rm Pc Qc mc ms free) (cw : vx_CSW R s args own index y bytes maxL ret hh ws rm mc ms n) (hp : PreS s H Pc As)
    (hg : g.method = m) (hn : As.length = n) (hsize : g.locals.size = nL) (hstack : g.stack = As.reverse ++ rest) (hW : 2 * g.monitorRoom + (rest.map fun v => v.category).sum ≤ 8) (hdg : decode cc g.pc = .ok (.invokestatic index, 3)) (hf : cells + mc ≤ R.cells ∧ slots + ms ≤ R.slots) :
    va_Run p l e R s m args below meth c H locs cells slots mc ms g rest (Qc As.toArray) (free) := by
  obtain ⟨⟨hrc, hrs, hfr, hlo, hws, hcw⟩, hcode, hini, hy, hlen, hl, hstt⟩ := cw
  have hK : Back l R p e below s args y 3 8 (PreOf R mc ms Pc) (PostOf Qc mc ms free) := va_backW (hh := hh) (bytes := bytes) (maxL := maxL) (ret := ret) hM hp.1 hrc hrs hfr hlo hws hcw (fun a' U hW => word_at hW (Or.inl (by first | rfl | simp [Cond.onTables, Cond.keeps, Cond.steady])) hini)
  obtain ⟨hx, hb, hml, ho, -⟩ := S
  intro T hT X
  obtain ⟨v, vm₁, ⟨U', l2, c2, s2⟩, hW₁, X', ⟨g', mk, t, L, e1, e2, hq, h1, hL, h2, h3⟩, st⟩ := vx_callSW X hx (hh := hh) (bytes := bytes) (maxL := maxL) (ret := ret) ho hl hstt hini hcode hy hK hg (hsize.trans hml.symm) (argsL := As) (rest := rest) (fun sig h => hn.trans (hlen sig h)) hstack hW (by rw [hb]; exact hdg)
    (fun vm₁ hW₁ => ⟨hf.1, hf.2, hp.2 (T.setVm vm₁) hT hW₁⟩)
  dsimp only [Pt.U, Pt.locs, Pt.cells, Pt.slots] at X' e1 e2 h1 h2 h3 st
  subst h1; subst h2; subst h3
  exact ⟨v, (T.setVm vm₁).calling g' mk As.toArray, t, U', L, hT, X', hL, e1, e2, hq, st⟩
/-- a thing of a world lies in the heap -/
theorem vx_lt {D : va_G} {cl : List vw_C} {ws : va_W} {H1 : Heap} (h : va_P D cl ws H1) {k : Nat} {q : Nat × va_E} (hk : ws[k]? = some q) : q.1 < H1.size := (h k q hk).lt
end VXS
/-! ===== END ===== -/
/-! ===== BEGIN methods with a table of their own: called by a name, returning or throwing ===== -/
section VXH
/-! vx_backW, vx_callVX, vx_callSX, vx_callVW, vx_runVW, vx_runVX, vx_runSX, vx_ofWH follow the same proofs as their sisters above (Free/Laws.lean, Shelf42/LK1.lean); vx_outP calls Shelf42/NT130.lean (outThrough). -/
section
variable {l : Launch} {R : Room} {p : Program} {e : Env} {below : List Frame} {s : State} {sargs : Array Value} {y : MethodName} {len W9 : Nat}
theorem vx_backW {ws : List Cond} {rm : Room} {Pc : Array Value → State → Prop} {Qc : Array Value → State → Outcome → State → Prop} {XC : String → State → State → Prop} {mc ms : Nat} {free : Addr → Prop} {bytes : ByteArray} {maxL : Nat} {ret : Option FieldType} {hh : List (Nat × Nat × Nat × Nat)}
    (hM : vx_Met l y ws rm Pc Qc XC mc ms free) (hblind : FrameBlind Pc) (hrc : rm.cells = mc) (hrs : rm.slots = ms)
    (hframes : rm.frames + 1 ≤ R.frames) (hlocals : W9 + (maxL + 11) + rm.locals ≤ R.locals)
    (hws : ∀ w ∈ ws, ∀ a' U, s.WarmedH U.vm → w.before a' U = true) (hcode : Cond.codeWith y bytes maxL ret hh ∈ ws) (hinit : ∀ a' U, s.WarmedH U.vm → (Cond.initialized y.cls).before a' U = true) :
    vx_Back l R p e below s sargs y len W9 (PreOf R mc ms Pc) (PostOf Qc mc ms free) (vx_Post XC mc ms free) := by
  intro m meth c A g ig mk a X hg hsize hdg hW hn hp
  have h1 : (headSpec ws rm).pre.before a A.U = true := atoms_intro fun w hw => hws w hw _ _ X.warmed
  have h2 : (Cond.codeWith y bytes maxL ret hh).before a A.U = true := hws _ hcode _ _ X.warmed
  have h3 : (Cond.initialized y.cls).before a A.U = true := hinit _ _ X.warmed
  have h4 : A.cells + (headSpec ws rm).room.cells ≤ R.cells := by rw [show (headSpec ws rm).room.cells = mc from hrc]; exact hp.1
  have h5 : A.slots + (headSpec ws rm).room.slots ≤ R.slots := by rw [show (headSpec ws rm).room.slots = ms from hrs]; exact hp.2.1
  have hPc : Pc a (A.U.calling g mk a) := hblind _ _ _ _ hp.2.2
  obtain ⟨U, Ls, c0, s0⟩ := A
  dsimp only [Pt.U, Pt.locs, Pt.cells, Pt.slots] at h1 h2 h3 h4 h5 X hn hPc ⊢
  obtain ⟨m9, methY, cY, hn9, hmY, hcY, -, hlY, -⟩ := Cond.codeWith_spec h2
  cases Option.some.inj (hn9.symm.trans hn)
  obtain ⟨kY, hkY, -⟩ := className_of_methodNamed hn
  have hinitY : kY.init = .initialized := Cond.initialized_spec (findClass_of_methodNamed hn) hkY h3
  have h : At U g.method c below := by rw [hg]; exact X.here
  have hlocals9 : W9 + (maxL + 11) + (headSpec ws rm).room.locals ≤ R.locals := hlocals
  have happ : (headSpec ws rm).appliesLoose y e.platform (U.calling g mk a) = true :=
    Spec.appliesLoose_calling (g := g) h hdg hn hkY hinitY
      (X.room_calling (g := g) (R' := (headSpec ws rm).room) hsize hmY hcY hframes (by rw [hlY]; omega) h4 h5) h1
  obtain ⟨mid, hmid⟩ := h.above
  have hfr : (U.setTop g).frames = (.java g :: mid) ++ below := by rw [State.frames_setTop' g h.top, hmid]; rfl
  obtain ⟨o, s₂, hsteps, -, hend, hq⟩ := Steps.callFree hM p X.admits X.cas X.clock (acts := []) hfr happ hPc trivial
  have hq' : vx_Q Qc XC mc ms free a (U.calling g mk a) o s₂ := hq
  rw [State.frames_setTop' g h.top] at hend
  obtain ⟨g₀, hg0⟩ := Option.isSome_iff_exists.mp h.top
  obtain ⟨r, hr⟩ := State.topJava?_eq_some.mp hg0
  have hr' : (({ U with heap := s₂.heap, slotsUsed := s₂.slotsUsed } : State).setVm s₂.vm).frames = .java g₀ :: r := hr
  rcases hq' with ⟨hqc, L, hfe, hL⟩ | ⟨q, rfl, E, ce, L, hx, hce, hcv, hcl, hW₂, hsm, hL⟩
  · obtain ⟨⟨v, rfl⟩, hW₂, e2, q2, q3, q4, q5, q6⟩ := id hfe
    have e3 : s₂ = ({ (U.calling g mk a).setFrames s₂.frames with heap := s₂.heap, slotsUsed := s₂.slotsUsed } : State).setVm s₂.vm := by
      have : s₂ = ({ s₂ with vm := (U.calling g mk a).vm } : State).setVm s₂.vm := rfl
      rw [e2] at this
      exact this
    obtain ⟨c₂, i₂, len₂, hc₂, hd₂, hf₂⟩ := hend
    have hW' : U.WarmedH s₂.vm := hW₂
    have hcc : c₂ = c := by
      have h1 : s₂.code? g.method = U.code? g.method := by
        rw [State.code?_eq, State.code?_eq, hW'.alike.method?]
      exact Option.some.inj (hc₂.symm.trans (h1.trans h.code))
    subst hcc
    have hlen : len₂ = len := by rw [hdg] at hd₂; cases hd₂; rfl
    subst hlen
    have hs₂ : s₂ = (({ U with heap := s₂.heap, slotsUsed := s₂.slotsUsed } : State).setVm s₂.vm).setTop { g with pc := g.pc + len₂, stack := v.toList ++ g.stack } := by
      refine e3.trans ?_
      rw [hf₂, State.calling_eq h.top, State.setFrames_setFrames, State.setTop_of_frames _ hr', hr]
      rfl
    have hsame : U.sameButNew ({ U with heap := s₂.heap, slotsUsed := s₂.slotsUsed } : State) L mc ms := by
      refine ⟨?_, q2, q3, q4, q5, q6⟩
      obtain ⟨t, ht, -⟩ := State.frames_cons hr
      show ({ U with heap := s₂.heap, slotsUsed := s₂.slotsUsed } : State) = { U.setFrames U.frames with heap := s₂.heap, slotsUsed := s₂.slotsUsed }
      rw [State.setFrames_self ht]
    subst hg
    refine Or.inl ⟨v, ⟨(({ U with heap := s₂.heap, slotsUsed := s₂.slotsUsed } : State).setVm s₂.vm), Ls ++ L, c0 + mc, s0 + ms⟩,
      ⟨X.admits, X.cas, X.clock, X.frames, X.room, X.hears, X.method, X.code, (X.here.setHeapUsed s₂.heap s₂.slotsUsed).setVm hW'.alike, X.tail, State.WarmedH.trans X.warmed hW', X.limits, X.bytes, X.same.trans (hsame.setVm s.vm)⟩,
      ⟨g, mk, s₂, L, rfl, rfl, hqc, rfl, hL, rfl, rfl⟩, ?_⟩
    show Steps p.tables e below _ ((({ U with heap := s₂.heap, slotsUsed := s₂.slotsUsed } : State).setVm s₂.vm).setTop { g with pc := g.pc + len₂, stack := v.toList ++ g.stack })
    rw [← hs₂]
    exact hsteps
  · obtain ⟨e2, q2, q3, q4, q5, q6⟩ := id hsm
    have e3 : s₂ = ({ (U.calling g mk a).setFrames s₂.frames with heap := s₂.heap, slotsUsed := s₂.slotsUsed } : State).setVm s₂.vm := by
      have : s₂ = ({ s₂ with vm := (U.calling g mk a).vm } : State).setVm s₂.vm := rfl
      rw [e2] at this
      exact this
    have hf₂ : s₂.frames = .throwing q :: .java g :: U.frames.tail := hend
    have hW' : U.WarmedH s₂.vm := hW₂
    have hs₂ : s₂ = ((({ U with heap := s₂.heap, slotsUsed := s₂.slotsUsed } : State).setVm s₂.vm).setTop g).pushFrame (.throwing q) := by
      refine e3.trans ?_
      rw [hf₂, State.calling_eq h.top, State.setFrames_setFrames, State.pushFrame, State.frames_setTop _ hr', State.setTop_of_frames _ hr', State.setFrames_setFrames, hr]
      rfl
    have hsame : U.sameButNew ({ U with heap := s₂.heap, slotsUsed := s₂.slotsUsed } : State) L mc ms := by
      refine ⟨?_, q2, q3, q4, q5, q6⟩
      obtain ⟨t, ht, -⟩ := State.frames_cons hr
      show ({ U with heap := s₂.heap, slotsUsed := s₂.slotsUsed } : State) = { U.setFrames U.frames with heap := s₂.heap, slotsUsed := s₂.slotsUsed }
      rw [State.setFrames_self ht]
    subst hg
    refine Or.inr ⟨q, ⟨(({ U with heap := s₂.heap, slotsUsed := s₂.slotsUsed } : State).setVm s₂.vm), Ls ++ L, c0 + mc, s0 + ms⟩,
      ⟨X.admits, X.cas, X.clock, X.frames, X.room, X.hears, X.method, X.code, (X.here.setHeapUsed s₂.heap s₂.slotsUsed).setVm hW'.alike, X.tail, State.WarmedH.trans X.warmed hW', X.limits, X.bytes, X.same.trans (hsame.setVm s.vm)⟩,
      ⟨g, mk, s₂, L, E, ce, rfl, rfl, hx, hce, hcv, hcl, rfl, hL, rfl, rfl⟩, ?_⟩
    show Steps p.tables e below _ (((({ U with heap := s₂.heap, slotsUsed := s₂.slotsUsed } : State).setVm s₂.vm).setTop g).pushFrame (.throwing q))
    rw [← hs₂]
    exact hsteps
end
variable {p : Program} {l : Launch} {e : Env} {R : Room} {s : State} {m : MethodId} {args : Array Value} {below : List Frame} {meth : Method} {c : Code} {T : State} {H : Heap} {locs : List Loc} {cells slots : Nat}
theorem vx_callVX (X : Stand p l e R s m args below meth c T locs cells slots) (hexec : p.tables.exec = Jvm.exec) {own C : String} {index : Nat} {y : MethodName} {bytes : ByteArray} {maxL : Nat} {ret : Option FieldType} {hh : List (Nat × Nat × Nat × Nat)}
    (hown : s.vm.findClass own = some m.cls) (hlink : (Cond.methodLink own index y).before args s = true) (hinst : (Cond.instanceMethod y).before args s = true) (hsel : (Cond.selects C y y).before args s = true)
    (hcode : (Cond.codeWith y bytes maxL ret hh).before args s = true) (hy : y.cls ≠ "java/lang/invoke/MethodHandle" ∧ y.cls ≠ "java/lang/invoke/VarHandle")
    {W9 : Nat} {Pre : Pt → Array Value → Prop} {Post : Pt → Array Value → Option Value → Pt → Prop} {PostX : Pt → Array Value → Addr → Pt → Prop} (hK : vx_Back l R p e below s args y 3 W9 Pre Post PostX)
    {b : Addr} {cellB : Cell} (hcell : T.heap[b]? = some cellB) (hobj : cellB.vm.isStatics = false) (hcls : s.vm.findClass C = some cellB.cls)
    {g : JFrame} (hg : g.method = m) (hsize : g.locals.size = c.maxLocals) {argsL rest : List Value} (hlen : ∀ sig, parseMethodDescriptor y.desc = some sig → argsL.length = sig.parameters.length)
    (hstack : g.stack = argsL.reverse ++ .ref b :: rest) (hW : 2 * g.monitorRoom + (rest.map fun v => v.category).sum ≤ W9) (hdg : decode c.code g.pc = .ok (.invokevirtual index, 3))
    (hpre : ∀ vm₁, s.WarmedH vm₁ → Pre ⟨T.setVm vm₁, locs, cells, slots⟩ (Value.ref b :: argsL).toArray) :
    (∃ (v : Option Value) (vm₁ : Vm) (B : Pt), s.WarmedH vm₁ ∧ Stand p l e R s m args below meth c B.U B.locs B.cells B.slots ∧ Post ⟨T.setVm vm₁, locs, cells, slots⟩ (Value.ref b :: argsL).toArray v B ∧
      ∀ target, Steps p.tables e below (B.U.setTop { g with pc := g.pc + 3, stack := v.toList ++ rest }) target → Steps p.tables e below (T.setTop g) target) ∨
    (∃ (q : Addr) (vm₁ : Vm) (B : Pt), s.WarmedH vm₁ ∧ Stand p l e R s m args below meth c B.U B.locs B.cells B.slots ∧ PostX ⟨T.setVm vm₁, locs, cells, slots⟩ (Value.ref b :: argsL).toArray q B ∧
      Steps p.tables e below (T.setTop g) ((B.U.setTop { g with stack := rest }).pushFrame (.throwing q))) := by
  obtain ⟨mk, methM, hnamed, hmethM, hstM, habM⟩ := Cond.instanceMethod_spec hinst
  obtain ⟨m8, methM', cM, hn8, hmethM', -, -, -, -, -, -, hsigM⟩ := Cond.codeWith_spec hcode
  cases Option.some.inj (hn8.symm.trans hnamed)
  cases hmethM.symm.trans hmethM'
  obtain ⟨c2, r2, m2, q1, q2, q3, q4, kP, hkP, hkPi⟩ := Cond.selects_spec hsel
  cases hcls.symm.trans q1
  cases (State.methodFound?_of_named hnamed hy).symm.trans q2
  cases hnamed.symm.trans q3
  have hselP : selectMethod e.platform s.vm cellB.cls mk = .method mk := by rw [Launch.admits_selectMethod X.admits]; exact q4
  obtain ⟨vm₁, X₁, hstep₁⟩ := X.invokevirtual hexec hown hlink hnamed hmethM hstM hkP hkPi hy (a := b) (cell := cellB) hcell
    (fun z h => by rw [h] at hobj; cases hobj) hselP hmethM habM hkP hkPi (g := g) hg (argsL := argsL) (rest := rest) (hlen _ hsigM) hstack hdg
  rcases hK m meth c ⟨T.setVm vm₁, locs, cells, slots⟩ { g with stack := rest } (.invokevirtual index) mk (Value.ref b :: argsL).toArray X₁ hg hsize hdg hW (X₁.named hnamed) (hpre vm₁ X₁.warmed) with ⟨v, B, X', hpost, hsteps⟩ | ⟨q, B, X', hpost, hsteps⟩
  · exact Or.inl ⟨v, vm₁, B, X₁.warmed, X', hpost, fun target h => hstep₁ _ fun acts => by rw [doInvoke_state]; exact hsteps.trans h⟩
  · exact Or.inr ⟨q, vm₁, B, X₁.warmed, X', hpost, hstep₁ _ fun acts => by rw [doInvoke_state]; exact hsteps⟩
theorem vx_callSX (X : Stand p l e R s m args below meth c T locs cells slots) (hexec : p.tables.exec = Jvm.exec) {own : String} {index : Nat} {y : MethodName} {bytes : ByteArray} {maxL : Nat} {ret : Option FieldType} {hh : List (Nat × Nat × Nat × Nat)}
    (hown : s.vm.findClass own = some m.cls) (hlink : (Cond.methodLink own index y).before args s = true) (hstat : (Cond.static y).before args s = true) (hinit : (Cond.initialized y.cls).before args s = true)
    (hcode : (Cond.codeWith y bytes maxL ret hh).before args s = true) (hy : y.cls ≠ "java/lang/invoke/MethodHandle" ∧ y.cls ≠ "java/lang/invoke/VarHandle")
    {W9 : Nat} {Pre : Pt → Array Value → Prop} {Post : Pt → Array Value → Option Value → Pt → Prop} {PostX : Pt → Array Value → Addr → Pt → Prop} (hK : vx_Back l R p e below s args y 3 W9 Pre Post PostX)
    {g : JFrame} (hg : g.method = m) (hsize : g.locals.size = c.maxLocals) {argsL rest : List Value} (hlen : ∀ sig, parseMethodDescriptor y.desc = some sig → argsL.length = sig.parameters.length)
    (hstack : g.stack = argsL.reverse ++ rest) (hW : 2 * g.monitorRoom + (rest.map fun v => v.category).sum ≤ W9) (hdg : decode c.code g.pc = .ok (.invokestatic index, 3))
    (hpre : ∀ vm₁, s.WarmedH vm₁ → Pre ⟨T.setVm vm₁, locs, cells, slots⟩ argsL.toArray) :
    (∃ (v : Option Value) (vm₁ : Vm) (B : Pt), s.WarmedH vm₁ ∧ Stand p l e R s m args below meth c B.U B.locs B.cells B.slots ∧ Post ⟨T.setVm vm₁, locs, cells, slots⟩ argsL.toArray v B ∧
      ∀ target, Steps p.tables e below (B.U.setTop { g with pc := g.pc + 3, stack := v.toList ++ rest }) target → Steps p.tables e below (T.setTop g) target) ∨
    (∃ (q : Addr) (vm₁ : Vm) (B : Pt), s.WarmedH vm₁ ∧ Stand p l e R s m args below meth c B.U B.locs B.cells B.slots ∧ PostX ⟨T.setVm vm₁, locs, cells, slots⟩ argsL.toArray q B ∧
      Steps p.tables e below (T.setTop g) ((B.U.setTop { g with stack := rest }).pushFrame (.throwing q))) := by
  obtain ⟨mk, methM, cM, hnamed, hmethM, -, -, -, -, -, -, hsigM⟩ := Cond.codeWith_spec hcode
  have hstatic : methM.isStatic = true := Cond.static_spec hnamed hmethM hstat
  obtain ⟨kP, hkP, -⟩ := className_of_methodNamed hnamed
  have hinitP : kP.init = .initialized := Cond.initialized_spec (findClass_of_methodNamed hnamed) hkP hinit
  obtain ⟨vm₁, X₁, hstep₁⟩ := X.invokestatic hexec hown hlink hnamed hmethM hstatic hkP hinitP hy (g := g) hg (argsL := argsL) (rest := rest) (hlen _ hsigM) hstack hdg
  rcases hK m meth c ⟨T.setVm vm₁, locs, cells, slots⟩ { g with stack := rest } (.invokestatic index) mk argsL.toArray X₁ hg hsize hdg hW (X₁.named hnamed) (hpre vm₁ X₁.warmed) with ⟨v, B, X', hpost, hsteps⟩ | ⟨q, B, X', hpost, hsteps⟩
  · exact Or.inl ⟨v, vm₁, B, X₁.warmed, X', hpost, fun target h => hstep₁ _ fun acts => by rw [doInvoke_state]; exact hsteps.trans h⟩
  · exact Or.inr ⟨q, vm₁, B, X₁.warmed, X', hpost, hstep₁ _ fun acts => by rw [doInvoke_state]; exact hsteps⟩
theorem vx_callVW (X : Stand p l e R s m args below meth c T locs cells slots) (hexec : p.tables.exec = Jvm.exec) {own C : String} {index : Nat} {y : MethodName} {bytes : ByteArray} {maxL : Nat} {ret : Option FieldType} {hh : List (Nat × Nat × Nat × Nat)}
    (hown : s.vm.findClass own = some m.cls) (hlink : (Cond.methodLink own index y).before args s = true) (hinst : (Cond.instanceMethod y).before args s = true) (hsel : (Cond.selects C y y).before args s = true)
    (hcode : (Cond.codeWith y bytes maxL ret hh).before args s = true) (hy : y.cls ≠ "java/lang/invoke/MethodHandle" ∧ y.cls ≠ "java/lang/invoke/VarHandle")
    {W9 : Nat} {Pre : Pt → Array Value → Prop} {Post : Pt → Array Value → Option Value → Pt → Prop} (hK : Back l R p e below s args y 3 W9 Pre Post)
    {b : Addr} {cellB : Cell} (hcell : T.heap[b]? = some cellB) (hobj : cellB.vm.isStatics = false) (hcls : s.vm.findClass C = some cellB.cls)
    {g : JFrame} (hg : g.method = m) (hsize : g.locals.size = c.maxLocals) {argsL rest : List Value} (hlen : ∀ sig, parseMethodDescriptor y.desc = some sig → argsL.length = sig.parameters.length)
    (hstack : g.stack = argsL.reverse ++ .ref b :: rest) (hW : 2 * g.monitorRoom + (rest.map fun v => v.category).sum ≤ W9) (hdg : decode c.code g.pc = .ok (.invokevirtual index, 3))
    (hpre : ∀ vm₁, s.WarmedH vm₁ → Pre ⟨T.setVm vm₁, locs, cells, slots⟩ (Value.ref b :: argsL).toArray) :
    ∃ (v : Option Value) (vm₁ : Vm) (B : Pt), s.WarmedH vm₁ ∧ Stand p l e R s m args below meth c B.U B.locs B.cells B.slots ∧ Post ⟨T.setVm vm₁, locs, cells, slots⟩ (Value.ref b :: argsL).toArray v B ∧
      ∀ target, Steps p.tables e below (B.U.setTop { g with pc := g.pc + 3, stack := v.toList ++ rest }) target → Steps p.tables e below (T.setTop g) target := by
  obtain ⟨mk, methM, hnamed, hmethM, hstM, habM⟩ := Cond.instanceMethod_spec hinst
  obtain ⟨m8, methM', cM, hn8, hmethM', -, -, -, -, -, -, hsigM⟩ := Cond.codeWith_spec hcode
  cases Option.some.inj (hn8.symm.trans hnamed)
  cases hmethM.symm.trans hmethM'
  obtain ⟨c2, r2, m2, q1, q2, q3, q4, kP, hkP, hkPi⟩ := Cond.selects_spec hsel
  cases hcls.symm.trans q1
  cases (State.methodFound?_of_named hnamed hy).symm.trans q2
  cases hnamed.symm.trans q3
  have hselP : selectMethod e.platform s.vm cellB.cls mk = .method mk := by rw [Launch.admits_selectMethod X.admits]; exact q4
  obtain ⟨vm₁, X₁, hstep₁⟩ := X.invokevirtual hexec hown hlink hnamed hmethM hstM hkP hkPi hy (a := b) (cell := cellB) hcell
    (fun z h => by rw [h] at hobj; cases hobj) hselP hmethM habM hkP hkPi (g := g) hg (argsL := argsL) (rest := rest) (hlen _ hsigM) hstack hdg
  obtain ⟨v, B, X', hpost, hsteps⟩ := hK m meth c ⟨T.setVm vm₁, locs, cells, slots⟩ { g with stack := rest } (.invokevirtual index) mk (Value.ref b :: argsL).toArray X₁ hg hsize hdg hW (X₁.named hnamed) (hpre vm₁ X₁.warmed)
  exact ⟨v, vm₁, B, X₁.warmed, X', hpost, fun target h => hstep₁ _ fun acts => by rw [doInvoke_state]; exact hsteps.trans h⟩
abbrev vx_CVW (R : Room) (s : State) (args : Array Value) (own C : String) (index : Nat) (y : MethodName) (bytes : ByteArray) (maxL : Nat) (ret : Option FieldType) (hh : List (Nat × Nat × Nat × Nat)) (ws : List Cond) (rm : Room) (mc ms n : Nat) : Prop :=
  (rm.cells = mc ∧ rm.slots = ms ∧ rm.frames + 1 ≤ R.frames ∧ 8 + (maxL + 11) + rm.locals ≤ R.locals ∧ (∀ w ∈ ws, ∀ (a' : Array Value) (U : State), s.WarmedH U.vm → w.before a' U = true) ∧ Cond.codeWith y bytes maxL ret hh ∈ ws) ∧
  (Cond.codeWith y bytes maxL ret hh).before args s = true ∧ (Cond.initialized y.cls).before args s = true ∧ (y.cls ≠ "java/lang/invoke/MethodHandle" ∧ y.cls ≠ "java/lang/invoke/VarHandle") ∧
  (∀ sig, parseMethodDescriptor y.desc = some sig → n = sig.parameters.length) ∧ (Cond.methodLink own index y).before args s = true ∧ (Cond.instanceMethod y).before args s = true ∧ (Cond.selects C y y).before args s = true
theorem vx_cwVW {own C : String} {index maxL mc ms : Nat} {y : MethodName} {bytes : ByteArray} {ret : Option FieldType} {hh : List (Nat × Nat × Nat × Nat)} {Ts ws ws' : List Cond} {rm : Room} (n : Nat) (ht : ∀ w ∈ Ts, w.before args s = true) (hT : GoodIn Ts (wsV own index C y ws)) (hw : ws = Cond.codeWith y bytes maxL ret hh :: ws') (hrc : rm.cells = mc) (hrs : rm.slots = ms)
    (hd : y.cls = C ∧ y.cls ≠ "java/lang/invoke/MethodHandle" ∧ y.cls ≠ "java/lang/invoke/VarHandle" ∧ (parseMethodDescriptor y.desc).map (fun d => d.parameters.length) = some n) (hR : rm.frames + 1 ≤ R.frames ∧ 8 + (maxL + 11) + rm.locals ≤ R.locals) :
    vx_CVW R s args own C index y bytes maxL ret hh ws rm mc ms n := by
  obtain ⟨hC, hd⟩ := hd
  subst hC
  have ok : ∀ w ∈ wsV own index y.cls y ws, w.before args s = true := fun w h => ht w (hT w h).1
  have hG : GoodIn Ts ws := fun w h => hT w (by unfold wsV; exact List.mem_append_right _ h)
  have hc : Cond.codeWith y bytes maxL ret hh ∈ ws := by rw [hw]; exact List.mem_cons_self
  refine ⟨⟨hrc, hrs, hR.1, hR.2, pay_in ht hG, hc⟩, ht _ (hG _ hc).1, ok _ (by simp [wsV]), ⟨hd.1, hd.2.1⟩, fun sig h => ?_, ok _ (by simp [wsV]), ok _ (by simp [wsV]), ok _ (by simp [wsV])⟩
  have h2 := hd.2.2
  rw [h] at h2
  exact (Option.some.inj h2).symm
theorem vx_runVW {y : MethodName} {bytes cc : ByteArray} {maxL nL mc ms n index : Nat} {ret : Option FieldType} {hh : List (Nat × Nat × Nat × Nat)} {ws : List Cond} {rm : Room} {Pc : Array Value → State → Prop} {Qc : Array Value → State → Outcome → State → Prop} {free : Addr → Prop} {Ts : List Cond} {own C : String} {b : Addr} {As rest : List Value} {g : JFrame}
    (S : CallFix p m c cc nL s args Ts own) (hM : Met l y ws rm Pc Qc mc ms free) (cw : vx_CVW R s args own C index y bytes maxL ret hh ws rm mc ms n) (hp : PreV s H C b Pc As)
    (hg : g.method = m) (hn : As.length = n) (hsize : g.locals.size = nL) (hstack : g.stack = As.reverse ++ .ref b :: rest) (hW : 2 * g.monitorRoom + (rest.map fun v => v.category).sum ≤ 8) (hdg : decode cc g.pc = .ok (.invokevirtual index, 3)) (hf : cells + mc ≤ R.cells ∧ slots + ms ≤ R.slots) :
    va_Run p l e R s m args below meth c H locs cells slots mc ms g rest (Qc (Value.ref b :: As).toArray) free := by
  obtain ⟨⟨hrc, hrs, hfr, hlo, hws, hcw⟩, hcode, hini, hy, hlen, hl, hin, hse⟩ := cw
  have hK : Back l R p e below s args y 3 8 (PreOf R mc ms Pc) (PostOf Qc mc ms free) := va_backW (hh := hh) (bytes := bytes) (maxL := maxL) (ret := ret) hM hp.1 hrc hrs hfr hlo hws hcw (fun a' U hW => word_at hW (Or.inl (by first | rfl | simp [Cond.onTables, Cond.keeps, Cond.steady])) hini)
  obtain ⟨hx, hb, hml, ho, -⟩ := S
  obtain ⟨-, ⟨cellB, hcB, hoB, hclB⟩, hPc⟩ := hp
  intro T hT X
  obtain ⟨v, vm₁, ⟨U', l2, c2, s2⟩, hW₁, X', ⟨g', mk, t, L, e1, e2, hq, h1, hL, h2, h3⟩, st⟩ := vx_callVW X hx (C := C) (hh := hh) (bytes := bytes) (maxL := maxL) (ret := ret) ho hl hin hse hcode hy hK (by rw [hT]; exact hcB) hoB hclB hg (hsize.trans hml.symm) (argsL := As) (rest := rest) (fun sig h => hn.trans (hlen sig h)) hstack hW (by rw [hb]; exact hdg)
    (fun vm₁ hW₁ => ⟨hf.1, hf.2, hPc (T.setVm vm₁) hT hW₁⟩)
  dsimp only [Pt.U, Pt.locs, Pt.cells, Pt.slots] at X' e1 e2 h1 h2 h3 st
  subst h1; subst h2; subst h3
  exact ⟨v, (T.setVm vm₁).calling g' mk (Value.ref b :: As).toArray, t, U', L, hT, X', hL, e1, e2, hq, st⟩
section
variable {y : MethodName} {bytes cc : ByteArray} {maxL nL mc ms n index : Nat} {ret : Option FieldType} {ws : List Cond} {rm : Room} {Pc : Array Value → State → Prop} {Qc : Array Value → State → Outcome → State → Prop} {XC : String → State → State → Prop} {free : Addr → Prop} {Ts : List Cond} {own C : String} {b : Addr} {As rest : List Value} {g : JFrame}
theorem vx_runVX {hh : List (Nat × Nat × Nat × Nat)} (S : CallFix p m c cc nL s args Ts own) (hM : vx_Met l y ws rm Pc Qc XC mc ms free) (cw : vx_CVW R s args own C index y bytes maxL ret hh ws rm mc ms n) (hp : PreV s H C b Pc As)
    (hg : g.method = m) (hn : As.length = n) (hsize : g.locals.size = nL) (hstack : g.stack = As.reverse ++ .ref b :: rest) (hW : 2 * g.monitorRoom + (rest.map fun v => v.category).sum ≤ 8) (hdg : decode cc g.pc = .ok (.invokevirtual index, 3)) (hf : cells + mc ≤ R.cells ∧ slots + ms ≤ R.slots) :
    vx_Run p l e R s m args below meth c H locs cells slots mc ms g rest (Qc (Value.ref b :: As).toArray) XC free := by
  obtain ⟨⟨hrc, hrs, hfr, hlo, hws, hcw⟩, hcode, hini, hy, hlen, hl, hin, hse⟩ := cw
  have hK : vx_Back l R p e below s args y 3 8 (PreOf R mc ms Pc) (PostOf Qc mc ms free) (vx_Post XC mc ms free) := vx_backW (hh := hh) (bytes := bytes) (maxL := maxL) (ret := ret) hM hp.1 hrc hrs hfr hlo hws hcw (fun a' U hW => word_at hW (Or.inl (by first | rfl | simp [Cond.onTables, Cond.keeps, Cond.steady])) hini)
  obtain ⟨hx, hb, hml, ho, -⟩ := S
  obtain ⟨-, ⟨cellB, hcB, hoB, hclB⟩, hPc⟩ := hp
  intro T hT X
  rcases vx_callVX X hx (C := C) (hh := hh) (bytes := bytes) (maxL := maxL) (ret := ret) ho hl hin hse hcode hy hK (by rw [hT]; exact hcB) hoB hclB hg (hsize.trans hml.symm) (argsL := As) (rest := rest) (fun sig h => hn.trans (hlen sig h)) hstack hW (by rw [hb]; exact hdg)
    (fun vm₁ hW₁ => ⟨hf.1, hf.2, hPc (T.setVm vm₁) hT hW₁⟩) with ⟨v, vm₁, ⟨U', l2, c2, s2⟩, hW₁, X', ⟨g', mk, t, L, e1, e2, hq, h1, hL, h2, h3⟩, st⟩ | ⟨q, vm₁, ⟨U', l2, c2, s2⟩, hW₁, X', ⟨g', mk, t, L, E, ce, e1, e2, hq, hce, hcv, hcl, h1, hL, h2, h3⟩, st⟩
  · dsimp only [Pt.U, Pt.locs, Pt.cells, Pt.slots] at X' e1 e2 h1 h2 h3 st
    subst h1; subst h2; subst h3
    exact Or.inl ⟨v, (T.setVm vm₁).calling g' mk (Value.ref b :: As).toArray, t, U', L, hT, X', hL, e1, e2, hq, st⟩
  · dsimp only [Pt.U, Pt.locs, Pt.cells, Pt.slots] at X' e1 e2 h1 h2 h3 st hcl
    subst h1; subst h2; subst h3
    exact Or.inr ⟨q, (T.setVm vm₁).calling g' mk (Value.ref b :: As).toArray, t, U', L, E, ce, hT, X', hL, e1, e2, hq, hce, hcv, vx_cls hW₁ hcl, st⟩
theorem vx_runSX {hh : List (Nat × Nat × Nat × Nat)} (S : CallFix p m c cc nL s args Ts own) (hM : vx_Met l y ws rm Pc Qc XC mc ms free) (cw : vx_CSW R s args own index y bytes maxL ret hh ws rm mc ms n) (hp : PreS s H Pc As)
    (hg : g.method = m) (hn : As.length = n) (hsize : g.locals.size = nL) (hstack : g.stack = As.reverse ++ rest) (hW : 2 * g.monitorRoom + (rest.map fun v => v.category).sum ≤ 8) (hdg : decode cc g.pc = .ok (.invokestatic index, 3)) (hf : cells + mc ≤ R.cells ∧ slots + ms ≤ R.slots) :
    vx_Run p l e R s m args below meth c H locs cells slots mc ms g rest (Qc As.toArray) XC free := by
  obtain ⟨⟨hrc, hrs, hfr, hlo, hws, hcw⟩, hcode, hini, hy, hlen, hl, hstt⟩ := cw
  have hK : vx_Back l R p e below s args y 3 8 (PreOf R mc ms Pc) (PostOf Qc mc ms free) (vx_Post XC mc ms free) := vx_backW (hh := hh) (bytes := bytes) (maxL := maxL) (ret := ret) hM hp.1 hrc hrs hfr hlo hws hcw (fun a' U hW => word_at hW (Or.inl (by first | rfl | simp [Cond.onTables, Cond.keeps, Cond.steady])) hini)
  obtain ⟨hx, hb, hml, ho, -⟩ := S
  intro T hT X
  rcases vx_callSX X hx (hh := hh) (bytes := bytes) (maxL := maxL) (ret := ret) ho hl hstt hini hcode hy hK hg (hsize.trans hml.symm) (argsL := As) (rest := rest) (fun sig h => hn.trans (hlen sig h)) hstack hW (by rw [hb]; exact hdg)
    (fun vm₁ hW₁ => ⟨hf.1, hf.2, hp.2 (T.setVm vm₁) hT hW₁⟩) with ⟨v, vm₁, ⟨U', l2, c2, s2⟩, hW₁, X', ⟨g', mk, t, L, e1, e2, hq, h1, hL, h2, h3⟩, st⟩ | ⟨q, vm₁, ⟨U', l2, c2, s2⟩, hW₁, X', ⟨g', mk, t, L, E, ce, e1, e2, hq, hce, hcv, hcl, h1, hL, h2, h3⟩, st⟩
  · dsimp only [Pt.U, Pt.locs, Pt.cells, Pt.slots] at X' e1 e2 h1 h2 h3 st
    subst h1; subst h2; subst h3
    exact Or.inl ⟨v, (T.setVm vm₁).calling g' mk As.toArray, t, U', L, hT, X', hL, e1, e2, hq, st⟩
  · dsimp only [Pt.U, Pt.locs, Pt.cells, Pt.slots] at X' e1 e2 h1 h2 h3 st hcl
    subst h1; subst h2; subst h3
    exact Or.inr ⟨q, (T.setVm vm₁).calling g' mk As.toArray, t, U', L, E, ce, hT, X', hL, e1, e2, hq, hce, hcv, vx_cls hW₁ hcl, st⟩
end
end VXH
theorem vx_ofWH {l : Launch} {y : MethodName} {ws ws' : List Cond} {rm : Room} {Pc : Array Value → State → Prop} {Qc : Array Value → State → Outcome → State → Prop} {XC : String → State → State → Prop} {mc ms : Nat} {free : Addr → Prop} {cc : ByteArray} {maxL : Nat} {ret : Option FieldType} {hh : List (Nat × Nat × Nat × Nat)}
    (hy : plainName y.cls = true) (hw : ws = Cond.codeWith y cc maxL ret hh :: ws')
    (body : ∀ p e s m args below meth c s₁, BodyLoose p l y (headSpec ws rm) cc maxL ret e s m args below meth c s₁ → c.maxLocals = maxL → Pc args s →
      W p l e (headSpec ws rm).room s m args below meth c s.heap [] 0 0 (vx_MQ below Qc XC args s mc ms free) (entryFrame m args maxL)) : vx_Met l y ws rm Pc Qc XC mc ms free := by
  refine MetFree.of_bodyS (code := cc) (maxLocals := maxL) (ret := ret) hy ?_ ?_
  · intro args s m h hn
    obtain ⟨m9, meth, c, hn9, h1, h2, h3, h4, -, h5, h6, -⟩ := Cond.codeWith_spec (atoms_spec (ws := ws) h _ (by rw [hw]; exact List.mem_cons_self))
    cases hn.symm.trans hn9
    exact ⟨meth, c, h1, h2, h3, h4, h5, h6⟩
  · intro p e s m args below meth c s₁ B hml hP _
    have hh0 : s₁.heap = s.heap := by rw [B.state]; rfl
    obtain ⟨t, a1, o, b1, b2, b3⟩ := body p e s m args below meth c s₁ B hml hP s₁ hh0 (Stand.of_body B)
    exact ⟨t, o, a1, b1, b2, b3⟩
/-! ===== END ===== -/
end
section
/-! ===== BEGIN printed: names, fields, word lists, decode rows ===== -/
def RX0 : String := "SkyAlmanac$Body"
def TX0 : u_T := fun k => match k with
  | 0 => ("SkyAlmanac$Body", "isSet", "Z", false)
  | 1 => ("SkyAlmanac$Body", "orbitL", "D", false)
  | 2 => ("SkyAlmanac$Body", "orbitN", "D", false)
  | 3 => ("SkyAlmanac$Body", "orbitE", "D", false)
  | 4 => ("SkyAlmanac$Body", "orbitW", "D", false)
  | 5 => ("SkyAlmanac$Body", "terms", "I", false)
  | 6 => ("SkyAlmanac$Body", "powers", "[I", true)
  | 7 => ("SkyAlmanac$Body", "factors", "[D", true)
  | 8 => ("SkyAlmanac$Body", "starts", "[D", true)
  | _ => ("SkyAlmanac$Body", "speeds", "[D", true)
def tyX0 : Nat → FieldType := fun k => match k with
  | 0 => .boolean
  | 1 => .double
  | 2 => .double
  | 3 => .double
  | 4 => .double
  | 5 => .int
  | 6 => .array .int
  | 7 => .array .double
  | 8 => .array .double
  | _ => .array .double
abbrev wsX00 : List Cond := u_ws RX0 TX0 10
theorem nmX0 : ∀ a, a < 10 → ∀ b, b < 10 → a ≠ b → (TX0 a).2.1 ≠ (TX0 b).2.1 := by decide +kernel
theorem tyX0_ok : ∀ k, k < 10 → parseFieldDescriptor (TX0 k).2.2.1 = some (tyX0 k) := by decide +kernel
abbrev cX0_init : ByteArray := prog_2_method_1_code
def yX0_init : MethodName := ⟨RX0, "<init>", "()V"⟩
abbrev cX0_sumOfPower : ByteArray := prog_2_method_2_code
def yX0_sumOfPower : MethodName := ⟨RX0, "sumOfPower", "(ID)D"⟩
def RX1 : String := "SkyAlmanac"
def TX1 : u_T := fun k => match k with
  | 0 => ("SkyAlmanac", "bodies", "[LSkyAlmanac$Body;", true)
  | 1 => ("SkyAlmanac", "written", "[C", true)
  | 2 => ("SkyAlmanac", "writtenLength", "I", false)
  | 3 => ("SkyAlmanac", "latitude", "D", false)
  | 4 => ("SkyAlmanac", "eastward", "D", false)
  | 5 => ("SkyAlmanac", "longitudesWorkedOut", "I", false)
  | _ => ("SkyAlmanac", "longitudesFailed", "I", false)
def tyX1 : Nat → FieldType := fun k => match k with
  | 0 => .array (.object "SkyAlmanac$Body")
  | 1 => .array .char
  | 2 => .int
  | 3 => .double
  | 4 => .double
  | 5 => .int
  | _ => .int
abbrev wsX10 : List Cond := u_ws RX1 TX1 7
theorem nmX1 : ∀ a, a < 7 → ∀ b, b < 7 → a ≠ b → (TX1 a).2.1 ≠ (TX1 b).2.1 := by decide +kernel
theorem tyX1_ok : ∀ k, k < 7 → parseFieldDescriptor (TX1 k).2.2.1 = some (tyX1 k) := by decide +kernel
abbrev cX1_init : ByteArray := prog_1_method_1_code
def yX1_init : MethodName := ⟨RX1, "<init>", "()V"⟩
abbrev cX1_day : ByteArray := prog_1_method_2_code
def yX1_day : MethodName := ⟨RX1, "day", "(IIII)J"⟩
abbrev cX1_date : ByteArray := prog_1_method_3_code
def yX1_date : MethodName := ⟨RX1, "date", "(IJI)I"⟩
abbrev cX1_easter : ByteArray := prog_1_method_4_code
def yX1_easter : MethodName := ⟨RX1, "easter", "(I)J"⟩
abbrev cX1_isLeap : ByteArray := prog_1_method_5_code
def yX1_isLeap : MethodName := ⟨RX1, "isLeap", "(II)Z"⟩
abbrev cX1_monthLength : ByteArray := prog_1_method_6_code
def yX1_monthLength : MethodName := ⟨RX1, "monthLength", "(III)I"⟩
abbrev cX1_daysBeforeMonth : ByteArray := prog_1_method_7_code
def yX1_daysBeforeMonth : MethodName := ⟨RX1, "daysBeforeMonth", "(III)I"⟩
abbrev cX1_monthOfDayWithinYear : ByteArray := prog_1_method_8_code
def yX1_monthOfDayWithinYear : MethodName := ⟨RX1, "monthOfDayWithinYear", "(III)I"⟩
abbrev cX1_firstDayOfYear : ByteArray := prog_1_method_9_code
def yX1_firstDayOfYear : MethodName := ⟨RX1, "firstDayOfYear", "(II)J"⟩
abbrev cX1_yearOfDay : ByteArray := prog_1_method_10_code
def yX1_yearOfDay : MethodName := ⟨RX1, "yearOfDay", "(IJ)I"⟩
abbrev cX1_orbit : ByteArray := prog_1_method_11_code
def yX1_orbit : MethodName := ⟨RX1, "orbit", "(IDDDD)Z"⟩
abbrev cX1_term : ByteArray := prog_1_method_12_code
def yX1_term : MethodName := ⟨RX1, "term", "(IIDDD)I"⟩
abbrev cX1_observer : ByteArray := prog_1_method_13_code
def yX1_observer : MethodName := ⟨RX1, "observer", "(DD)Z"⟩
abbrev cX1_bodyThatIsSet : ByteArray := prog_1_method_14_code
def yX1_bodyThatIsSet : MethodName := ⟨RX1, "bodyThatIsSet", "(I)LSkyAlmanac$Body;"⟩
abbrev cX1_longitude : ByteArray := prog_1_method_15_code
def yX1_longitude : MethodName := ⟨RX1, "longitude", "(ID)D"⟩
abbrev cX1_height : ByteArray := prog_1_method_16_code
def yX1_height : MethodName := ⟨RX1, "height", "(ID)D"⟩
abbrev cX1_sidereal : ByteArray := prog_1_method_17_code
def yX1_sidereal : MethodName := ⟨RX1, "sidereal", "(D)D"⟩
abbrev cX1_count : ByteArray := prog_1_method_18_code
def yX1_count : MethodName := ⟨RX1, "count", "(Z)I"⟩
abbrev cX1_longitudeOf : ByteArray := prog_1_method_19_code
def yX1_longitudeOf : MethodName := ⟨RX1, "longitudeOf", "(LSkyAlmanac$Body;D)D"⟩
abbrev cX1_anomalyOf : ByteArray := prog_1_method_20_code
def yX1_anomalyOf : MethodName := ⟨RX1, "anomalyOf", "(LSkyAlmanac$Body;D)D"⟩
abbrev cX1_heightOf : ByteArray := prog_1_method_21_code
def yX1_heightOf : MethodName := ⟨RX1, "heightOf", "(LSkyAlmanac$Body;D)D"⟩
abbrev cX1_siderealAngle : ByteArray := prog_1_method_22_code
def yX1_siderealAngle : MethodName := ⟨RX1, "siderealAngle", "(D)D"⟩
abbrev cX1_event : ByteArray := prog_1_method_23_code
def yX1_event : MethodName := ⟨RX1, "event", "(III)D"⟩
abbrev cX1_timeOfPart : ByteArray := prog_1_method_24_code
def yX1_timeOfPart : MethodName := ⟨RX1, "timeOfPart", "(II)D"⟩
abbrev cX1_partOfCrossing : ByteArray := prog_1_method_25_code
def yX1_partOfCrossing : MethodName := ⟨RX1, "partOfCrossing", "(LSkyAlmanac$Body;IZ)I"⟩
abbrev cX1_narrowedToCrossing : ByteArray := prog_1_method_26_code
def yX1_narrowedToCrossing : MethodName := ⟨RX1, "narrowedToCrossing", "(LSkyAlmanac$Body;IIZ)D"⟩
abbrev cX1_partOfGreatestHeight : ByteArray := prog_1_method_27_code
def yX1_partOfGreatestHeight : MethodName := ⟨RX1, "partOfGreatestHeight", "(LSkyAlmanac$Body;I)I"⟩
abbrev cX1_narrowedToHighest : ByteArray := prog_1_method_28_code
def yX1_narrowedToHighest : MethodName := ⟨RX1, "narrowedToHighest", "(LSkyAlmanac$Body;II)D"⟩
abbrev cX1_write : ByteArray := prog_1_method_29_code
def yX1_write : MethodName := ⟨RX1, "write", "(DI)I"⟩
abbrev cX1_letter : ByteArray := prog_1_method_30_code
def yX1_letter : MethodName := ⟨RX1, "letter", "(I)I"⟩
abbrev cX1_angle : ByteArray := prog_1_method_31_code
def yX1_angle : MethodName := ⟨RX1, "angle", "(IIID)D"⟩
abbrev cX1_tenToThe : ByteArray := prog_1_method_32_code
def yX1_tenToThe : MethodName := ⟨RX1, "tenToThe", "(I)J"⟩
abbrev cX1_wholeParts : ByteArray := prog_1_method_33_code
def yX1_wholeParts : MethodName := ⟨RX1, "wholeParts", "(JJ)J"⟩
abbrev cX1_put : ByteArray := prog_1_method_34_code
def yX1_put : MethodName := ⟨RX1, "put", "(C)V"⟩
abbrev cX1_putNumber : ByteArray := prog_1_method_35_code
def yX1_putNumber : MethodName := ⟨RX1, "putNumber", "(JI)V"⟩
abbrev cX1_isWholeWithin : ByteArray := prog_1_method_36_code
def yX1_isWholeWithin : MethodName := ⟨RX1, "isWholeWithin", "(JJJ)Z"⟩
abbrev cX1_isWithin : ByteArray := prog_1_method_37_code
def yX1_isWithin : MethodName := ⟨RX1, "isWithin", "(DDD)Z"⟩
abbrev cX1_isTime : ByteArray := prog_1_method_38_code
def yX1_isTime : MethodName := ⟨RX1, "isTime", "(D)Z"⟩
abbrev cX1_degreesInRadian : ByteArray := prog_1_method_39_code
def yX1_degreesInRadian : MethodName := ⟨RX1, "degreesInRadian", "()D"⟩
abbrev cX1_red : ByteArray := prog_1_method_40_code
def yX1_red : MethodName := ⟨RX1, "red", "(D)D"⟩
abbrev cX1_sine : ByteArray := prog_1_method_41_code
def yX1_sine : MethodName := ⟨RX1, "sine", "(D)D"⟩
abbrev cX1_cosine : ByteArray := prog_1_method_42_code
def yX1_cosine : MethodName := ⟨RX1, "cosine", "(D)D"⟩
abbrev cX1_waveAt : ByteArray := prog_1_method_43_code
def yX1_waveAt : MethodName := ⟨RX1, "waveAt", "(DI)D"⟩
def RX2 : String := "SkyAlmanacModel"
def TX2 : u_T := fun k => match k with
  | 0 => ("SkyAlmanacModel", "thrown", "I", false)
  | 1 => ("SkyAlmanacModel", "worked", "I", false)
  | 2 => ("SkyAlmanacModel", "failures", "I", false)
  | 3 => ("SkyAlmanacModel", "set", "[Z", true)
  | 4 => ("SkyAlmanacModel", "orbits", "[D", true)
  | 5 => ("SkyAlmanacModel", "terms", "[I", true)
  | 6 => ("SkyAlmanacModel", "powers", "[I", true)
  | 7 => ("SkyAlmanacModel", "waves", "[D", true)
  | 8 => ("SkyAlmanacModel", "latitude", "D", false)
  | 9 => ("SkyAlmanacModel", "east", "D", false)
  | 10 => ("SkyAlmanacModel", "written", "[I", true)
  | 11 => ("SkyAlmanacModel", "letters", "I", false)
  | _ => ("SkyAlmanacModel", "failed", "Z", false)
def tyX2 : Nat → FieldType := fun k => match k with
  | 0 => .int
  | 1 => .int
  | 2 => .int
  | 3 => .array .boolean
  | 4 => .array .double
  | 5 => .array .int
  | 6 => .array .int
  | 7 => .array .double
  | 8 => .double
  | 9 => .double
  | 10 => .array .int
  | 11 => .int
  | _ => .boolean
abbrev wsX20 : List Cond := u_ws RX2 TX2 13
theorem nmX2 : ∀ a, a < 13 → ∀ b, b < 13 → a ≠ b → (TX2 a).2.1 ≠ (TX2 b).2.1 := by decide +kernel
theorem tyX2_ok : ∀ k, k < 13 → parseFieldDescriptor (TX2 k).2.2.1 = some (tyX2 k) := by decide +kernel
abbrev cX2_init : ByteArray := prog_4_method_1_code
def yX2_init : MethodName := ⟨RX2, "<init>", "()V"⟩
abbrev cX2_thrown : ByteArray := prog_4_method_2_code
def yX2_thrown : MethodName := ⟨RX2, "thrown", "()I"⟩
abbrev cX2_fail : ByteArray := prog_4_method_3_code
def yX2_fail : MethodName := ⟨RX2, "fail", "(I)I"⟩
abbrev cX2_within : ByteArray := prog_4_method_4_code
def yX2_within : MethodName := ⟨RX2, "within", "(DDD)Z"⟩
abbrev cX2_floor : ByteArray := prog_4_method_5_code
def yX2_floor : MethodName := ⟨RX2, "floor", "(JJ)J"⟩
abbrev cX2_before : ByteArray := prog_4_method_6_code
def yX2_before : MethodName := ⟨RX2, "before", "(IJ)J"⟩
abbrev cX2_leap : ByteArray := prog_4_method_7_code
def yX2_leap : MethodName := ⟨RX2, "leap", "(IJ)Z"⟩
abbrev cX2_length : ByteArray := prog_4_method_8_code
def yX2_length : MethodName := ⟨RX2, "length", "(IJI)I"⟩
abbrev cX2_newYear : ByteArray := prog_4_method_9_code
def yX2_newYear : MethodName := ⟨RX2, "newYear", "(IJ)J"⟩
abbrev cX2_noDate : ByteArray := prog_4_method_10_code
def yX2_noDate : MethodName := ⟨RX2, "noDate", "(IIII)Z"⟩
abbrev cX2_number : ByteArray := prog_4_method_11_code
def yX2_number : MethodName := ⟨RX2, "number", "(IIII)J"⟩
abbrev cX2_day : ByteArray := prog_4_method_12_code
def yX2_day : MethodName := ⟨RX2, "day", "(IIII)J"⟩
abbrev cX2_yearOf : ByteArray := prog_4_method_13_code
def yX2_yearOf : MethodName := ⟨RX2, "yearOf", "(IJ)J"⟩
abbrev cX2_date : ByteArray := prog_4_method_14_code
def yX2_date : MethodName := ⟨RX2, "date", "(IJI)I"⟩
abbrev cX2_easter : ByteArray := prog_4_method_15_code
def yX2_easter : MethodName := ⟨RX2, "easter", "(I)J"⟩
abbrev cX2_red : ByteArray := prog_4_method_16_code
def yX2_red : MethodName := ⟨RX2, "red", "(D)D"⟩
abbrev cX2_wave : ByteArray := prog_4_method_17_code
def yX2_wave : MethodName := ⟨RX2, "wave", "(DZ)D"⟩
abbrev cX2_sine : ByteArray := prog_4_method_18_code
def yX2_sine : MethodName := ⟨RX2, "sine", "(D)D"⟩
abbrev cX2_cosine : ByteArray := prog_4_method_19_code
def yX2_cosine : MethodName := ⟨RX2, "cosine", "(D)D"⟩
abbrev cX2_turned : ByteArray := prog_4_method_20_code
def yX2_turned : MethodName := ⟨RX2, "turned", "(D)D"⟩
abbrev cX2_orbit : ByteArray := prog_4_method_21_code
def yX2_orbit : MethodName := ⟨RX2, "orbit", "(IDDDD)Z"⟩
abbrev cX2_noBody : ByteArray := prog_4_method_22_code
def yX2_noBody : MethodName := ⟨RX2, "noBody", "(I)Z"⟩
abbrev cX2_term : ByteArray := prog_4_method_23_code
def yX2_term : MethodName := ⟨RX2, "term", "(IIDDD)I"⟩
abbrev cX2_observer : ByteArray := prog_4_method_24_code
def yX2_observer : MethodName := ⟨RX2, "observer", "(DD)Z"⟩
abbrev cX2_sum : ByteArray := prog_4_method_25_code
def yX2_sum : MethodName := ⟨RX2, "sum", "(IID)D"⟩
abbrev cX2_along : ByteArray := prog_4_method_26_code
def yX2_along : MethodName := ⟨RX2, "along", "(ID)D"⟩
abbrev cX2_above : ByteArray := prog_4_method_27_code
def yX2_above : MethodName := ⟨RX2, "above", "(ID)D"⟩
abbrev cX2_bar : ByteArray := prog_4_method_28_code
def yX2_bar : MethodName := ⟨RX2, "bar", "(ID)I"⟩
abbrev cX2_longitude : ByteArray := prog_4_method_29_code
def yX2_longitude : MethodName := ⟨RX2, "longitude", "(ID)D"⟩
abbrev cX2_height : ByteArray := prog_4_method_30_code
def yX2_height : MethodName := ⟨RX2, "height", "(ID)D"⟩
abbrev cX2_crossing : ByteArray := prog_4_method_31_code
def yX2_crossing : MethodName := ⟨RX2, "crossing", "(IDDZ)D"⟩
abbrev cX2_passes : ByteArray := prog_4_method_32_code
def yX2_passes : MethodName := ⟨RX2, "passes", "(IDZ)D"⟩
abbrev cX2_highest : ByteArray := prog_4_method_33_code
def yX2_highest : MethodName := ⟨RX2, "highest", "(ID)D"⟩
abbrev cX2_event : ByteArray := prog_4_method_34_code
def yX2_event : MethodName := ⟨RX2, "event", "(III)D"⟩
abbrev cX2_sidereal : ByteArray := prog_4_method_35_code
def yX2_sidereal : MethodName := ⟨RX2, "sidereal", "(D)D"⟩
abbrev cX2_put : ByteArray := prog_4_method_36_code
def yX2_put : MethodName := ⟨RX2, "put", "(I)V"⟩
abbrev cX2_digits : ByteArray := prog_4_method_37_code
def yX2_digits : MethodName := ⟨RX2, "digits", "(JI)V"⟩
abbrev cX2_write : ByteArray := prog_4_method_38_code
def yX2_write : MethodName := ⟨RX2, "write", "(DI)I"⟩
abbrev cX2_letter : ByteArray := prog_4_method_39_code
def yX2_letter : MethodName := ⟨RX2, "letter", "(I)I"⟩
abbrev cX2_angle : ByteArray := prog_4_method_40_code
def yX2_angle : MethodName := ⟨RX2, "angle", "(IIID)D"⟩
abbrev cX2_count : ByteArray := prog_4_method_41_code
def yX2_count : MethodName := ⟨RX2, "count", "(Z)I"⟩
def RJ9 : String := "java/lang/Math"
def TJ9 : u_T := fun k => match k with
  | _ => ("", "", "", false)
def tyJ9 : Nat → FieldType := fun k => match k with
  | _ => .int
abbrev wsJ90 : List Cond := u_ws RJ9 TJ9 0
theorem nmJ9 : ∀ a, a < 0 → ∀ b, b < 0 → a ≠ b → (TJ9 a).2.1 ≠ (TJ9 b).2.1 := by decide +kernel
theorem tyJ9_ok : ∀ k, k < 0 → parseFieldDescriptor (TJ9 k).2.2.1 = some (tyJ9 k) := by decide +kernel
abbrev cJ9_floorDiv_7cf53 : ByteArray := prog_9_method_47_code
def yJ9_floorDiv_7cf53 : MethodName := ⟨RJ9, "floorDiv", "(II)I"⟩
abbrev cJ9_floorDiv_f86c9 : ByteArray := prog_9_method_49_code
def yJ9_floorDiv_f86c9 : MethodName := ⟨RJ9, "floorDiv", "(JJ)J"⟩
abbrev cJ9_floorMod_7cf53 : ByteArray := prog_9_method_50_code
def yJ9_floorMod_7cf53 : MethodName := ⟨RJ9, "floorMod", "(II)I"⟩
def RJ0 : String := "java/lang/String"
def TJ0 : u_T := fun k => match k with
  | _ => ("", "", "", false)
def tyJ0 : Nat → FieldType := fun k => match k with
  | _ => .int
abbrev wsJ00 : List Cond := u_ws RJ0 TJ0 0
theorem nmJ0 : ∀ a, a < 0 → ∀ b, b < 0 → a ≠ b → (TJ0 a).2.1 ≠ (TJ0 b).2.1 := by decide +kernel
theorem tyJ0_ok : ∀ k, k < 0 → parseFieldDescriptor (TJ0 k).2.2.1 = some (tyJ0 k) := by decide +kernel
def RL : String := "SkyAlmanacLaw"
abbrev cL_day : ByteArray := method_3_code
def yL_day : MethodName := ⟨RL, "day", "(LSkyAlmanac;IIII[J)I"⟩
abbrev cL_date : ByteArray := method_4_code
def yL_date : MethodName := ⟨RL, "date", "(LSkyAlmanac;IJI[J)I"⟩
abbrev cL_easter : ByteArray := method_5_code
def yL_easter : MethodName := ⟨RL, "easter", "(LSkyAlmanac;I[J)I"⟩
abbrev cL_orbit : ByteArray := method_6_code
def yL_orbit : MethodName := ⟨RL, "orbit", "(LSkyAlmanac;IDDDD[J)I"⟩
abbrev cL_term : ByteArray := method_7_code
def yL_term : MethodName := ⟨RL, "term", "(LSkyAlmanac;IIDDD[J)I"⟩
abbrev cL_observer : ByteArray := method_8_code
def yL_observer : MethodName := ⟨RL, "observer", "(LSkyAlmanac;DD[J)I"⟩
abbrev cL_longitude : ByteArray := method_9_code
def yL_longitude : MethodName := ⟨RL, "longitude", "(LSkyAlmanac;ID[D)I"⟩
abbrev cL_height : ByteArray := method_10_code
def yL_height : MethodName := ⟨RL, "height", "(LSkyAlmanac;ID[D)I"⟩
abbrev cL_event : ByteArray := method_11_code
def yL_event : MethodName := ⟨RL, "event", "(LSkyAlmanac;III[D)I"⟩
abbrev cL_sidereal : ByteArray := method_12_code
def yL_sidereal : MethodName := ⟨RL, "sidereal", "(LSkyAlmanac;D[D)I"⟩
abbrev cL_write : ByteArray := method_13_code
def yL_write : MethodName := ⟨RL, "write", "(LSkyAlmanac;DI[J)I"⟩
abbrev cL_letter : ByteArray := method_14_code
def yL_letter : MethodName := ⟨RL, "letter", "(LSkyAlmanac;I[J)I"⟩
abbrev cL_angle : ByteArray := method_15_code
def yL_angle : MethodName := ⟨RL, "angle", "(LSkyAlmanac;IIID[D)I"⟩
abbrev cL_law : ByteArray := code
def yL_law : MethodName := ⟨RL, "law", "([I)Z"⟩
def wsX0_init : List Cond := .code yX0_init cX0_init 1 none :: ([.methodLink RX0 3 objectInit, .instanceMethod objectInit, .code objectInit ⟨#[0xb1]⟩ 1 none, .arrayClass .int, .fieldLink RX0 9 "SkyAlmanac$Body" "powers" "[I", .arrayClass .double, .fieldLink RX0 15 "SkyAlmanac$Body" "factors" "[D", .fieldLink RX0 19 "SkyAlmanac$Body" "starts" "[D", .fieldLink RX0 22 "SkyAlmanac$Body" "speeds" "[D"] ++ wsX00)
def wsX1_red : List Cond := .code yX1_red cX1_red 4 (some .double) :: ([.constantLong RX1 345 (360), .constantDouble RX1 143 (4645040803167600640)])
def wsX1_waveAt : List Cond := .code yX1_waveAt cX1_waveAt 15 (some .double) :: ([.constantDouble RX1 206 (4636033603912859648), .constantDouble RX1 249 (4602678819172646912), .constantDouble RX1 371 (4580687790476533049), .constantDouble RX1 373 (13818544856648471893), .constantDouble RX1 375 (4575957461383581969), .constantDouble RX1 377 (13774824197408792602), .constantDouble RX1 379 (4523617214285662004), .constantDouble RX1 381 (13826050856027422720), .constantDouble RX1 383 (4586165620538955093), .constantDouble RX1 385 (13787419979223755799), .constantDouble RX1 387 (4537941361671905306), .constantDouble RX1 389 (13732177094651715420)])
def wsX1_cosine : List Cond := .code yX1_cosine cX1_cosine 2 (some .double) :: ([.methodLink RX1 236 yX1_red, .static yX1_red, .initialized RX1, .code yX1_red cX1_red 4 (some .double), .constantLong RX1 345 (360), .constantDouble RX1 143 (4645040803167600640), .methodLink RX1 367 yX1_waveAt, .static yX1_waveAt, .code yX1_waveAt cX1_waveAt 15 (some .double), .constantDouble RX1 206 (4636033603912859648), .constantDouble RX1 249 (4602678819172646912), .constantDouble RX1 371 (4580687790476533049), .constantDouble RX1 373 (13818544856648471893), .constantDouble RX1 375 (4575957461383581969), .constantDouble RX1 377 (13774824197408792602), .constantDouble RX1 379 (4523617214285662004), .constantDouble RX1 381 (13826050856027422720), .constantDouble RX1 383 (4586165620538955093), .constantDouble RX1 385 (13787419979223755799), .constantDouble RX1 387 (4537941361671905306), .constantDouble RX1 389 (13732177094651715420)])
def wsX0_sumOfPower_r1 : List Cond := [Cond.fieldLink RX0 25 "SkyAlmanac$Body" "terms" "I", Cond.fieldLink RX0 9 "SkyAlmanac$Body" "powers" "[I", Cond.fieldLink RX0 15 "SkyAlmanac$Body" "factors" "[D", Cond.fieldLink RX0 19 "SkyAlmanac$Body" "starts" "[D", Cond.fieldLink RX0 22 "SkyAlmanac$Body" "speeds" "[D", Cond.static yX1_cosine, Cond.initialized RX1, Cond.code yX1_cosine cX1_cosine 2 (some .double), Cond.methodLink RX1 236 yX1_red, Cond.static yX1_red, Cond.code yX1_red cX1_red 4 (some .double), Cond.constantLong RX1 345 (360), Cond.constantDouble RX1 143 (4645040803167600640), Cond.methodLink RX1 367 yX1_waveAt, Cond.static yX1_waveAt, Cond.code yX1_waveAt cX1_waveAt 15 (some .double), Cond.constantDouble RX1 206 (4636033603912859648), Cond.constantDouble RX1 249 (4602678819172646912), Cond.constantDouble RX1 371 (4580687790476533049), Cond.constantDouble RX1 373 (13818544856648471893), Cond.constantDouble RX1 375 (4575957461383581969), Cond.constantDouble RX1 377 (13774824197408792602), Cond.constantDouble RX1 379 (4523617214285662004), Cond.constantDouble RX1 381 (13826050856027422720)]
def wsX0_sumOfPower_r2 : List Cond := [Cond.constantDouble RX1 383 (4586165620538955093), Cond.constantDouble RX1 385 (13787419979223755799), Cond.constantDouble RX1 387 (4537941361671905306), Cond.constantDouble RX1 389 (13732177094651715420)]
def wsX0_sumOfPower : List Cond := .code yX0_sumOfPower cX0_sumOfPower 7 (some .double) :: ((wsX0_sumOfPower_r1 ++ wsX0_sumOfPower_r2) ++ wsX00)
def wsX1_init : List Cond := .code yX1_init cX1_init 2 none :: ([.methodLink RX1 1 objectInit, .instanceMethod objectInit, .code objectInit ⟨#[0xb1]⟩ 1 none, .classLink RX1 9 RX0, .fieldLink RX1 11 "SkyAlmanac" "bodies" "[LSkyAlmanac$Body;", .instantiable RX0 10, .initialized RX0, .arrayClass .char, .fieldLink RX1 16 "SkyAlmanac" "written" "[C", .fieldLink RX1 20 "SkyAlmanac" "writtenLength" "I", .fieldLink RX1 24 "SkyAlmanac" "latitude" "D", .fieldLink RX1 28 "SkyAlmanac" "eastward" "D", .fieldLink RX1 31 "SkyAlmanac" "longitudesWorkedOut" "I", .fieldLink RX1 34 "SkyAlmanac" "longitudesFailed" "I", .instanceMethod yX0_init, .code yX0_init cX0_init 1 none, .methodLink RX0 3 objectInit, .arrayClass .int, .fieldLink RX0 9 "SkyAlmanac$Body" "powers" "[I", .arrayClass .double, .fieldLink RX0 15 "SkyAlmanac$Body" "factors" "[D", .fieldLink RX0 19 "SkyAlmanac$Body" "starts" "[D", .fieldLink RX0 22 "SkyAlmanac$Body" "speeds" "[D"] ++ wsX10 ++ wsX00)
def wsX1_isWholeWithin : List Cond := .code yX1_isWholeWithin cX1_isWholeWithin 6 (some .boolean) :: ([])
def wsX1_isLeap : List Cond := .code yX1_isLeap cX1_isLeap 2 (some .boolean) :: ([])
def wsX1_monthLength : List Cond := .code yX1_monthLength cX1_monthLength 4 (some .int) :: ([.fieldLink RX1 110 "SkyAlmanac" "MONTH_LENGTHS" "[I", .methodLink RX1 114 yX1_isLeap, .static yX1_isLeap, .initialized RX1, .code yX1_isLeap cX1_isLeap 2 (some .boolean)])
def wsJ9_floorDiv_7cf53 : List Cond := .code yJ9_floorDiv_7cf53 cJ9_floorDiv_7cf53 3 (some .int) :: ([])
def wsX1_firstDayOfYear : List Cond := .code yX1_firstDayOfYear cX1_firstDayOfYear 4 (some .long) :: ([.constantLong RX1 118 (365), .constantLong RX1 123 (1721058), .constantLong RX1 125 (1721060), .methodLink RX1 120 yJ9_floorDiv_7cf53, .static yJ9_floorDiv_7cf53, .initialized RJ9, .code yJ9_floorDiv_7cf53 cJ9_floorDiv_7cf53 3 (some .int)])
def wsX1_daysBeforeMonth : List Cond := .code yX1_daysBeforeMonth cX1_daysBeforeMonth 5 (some .int) :: ([.fieldLink RX1 110 "SkyAlmanac" "MONTH_LENGTHS" "[I", .methodLink RX1 60 yX1_monthLength, .static yX1_monthLength, .initialized RX1, .code yX1_monthLength cX1_monthLength 4 (some .int), .methodLink RX1 114 yX1_isLeap, .static yX1_isLeap, .code yX1_isLeap cX1_isLeap 2 (some .boolean)])
def wsX1_day_r1 : List Cond := [Cond.classLink RX1 43 "java/lang/IllegalArgumentException", Cond.initialized "java/lang/IllegalArgumentException", Cond.constantLong RX1 37 (2), Cond.constantLong RX1 50 (-1000000), Cond.constantLong RX1 52 (1000000), Cond.constantLong RX1 56 (100), Cond.constantLong RX1 58 (15821004), Cond.constantLong RX1 73 (2299160), Cond.methodLink RX1 39 yX1_isWholeWithin, Cond.static yX1_isWholeWithin, Cond.initialized RX1, Cond.code yX1_isWholeWithin cX1_isWholeWithin 6 (some .boolean), Cond.methodLink RX1 60 yX1_monthLength, Cond.static yX1_monthLength, Cond.code yX1_monthLength cX1_monthLength 4 (some .int), Cond.fieldLink RX1 110 "SkyAlmanac" "MONTH_LENGTHS" "[I", Cond.methodLink RX1 114 yX1_isLeap, Cond.static yX1_isLeap, Cond.code yX1_isLeap cX1_isLeap 2 (some .boolean), Cond.methodLink RX1 66 yX1_firstDayOfYear, Cond.static yX1_firstDayOfYear, Cond.code yX1_firstDayOfYear cX1_firstDayOfYear 4 (some .long), Cond.constantLong RX1 118 (365), Cond.constantLong RX1 123 (1721058)]
def wsX1_day_r2 : List Cond := [Cond.constantLong RX1 125 (1721060), Cond.methodLink RX1 120 yJ9_floorDiv_7cf53, Cond.static yJ9_floorDiv_7cf53, Cond.initialized RJ9, Cond.code yJ9_floorDiv_7cf53 cJ9_floorDiv_7cf53 3 (some .int), Cond.methodLink RX1 70 yX1_daysBeforeMonth, Cond.static yX1_daysBeforeMonth, Cond.code yX1_daysBeforeMonth cX1_daysBeforeMonth 5 (some .int)]
def wsX1_day : List Cond := .code yX1_day cX1_day 8 (some .long) :: ((wsX1_day_r1 ++ wsX1_day_r2) ++ (vx_atS RX1 47 "java/lang/IllegalArgumentException" ["java/lang/RuntimeException", "java/lang/Exception"]).filter goodWord)
def wsJ9_floorDiv_f86c9 : List Cond := .code yJ9_floorDiv_f86c9 cJ9_floorDiv_f86c9 6 (some .long) :: ([])
def wsX1_yearOfDay : List Cond := .code yX1_yearOfDay cX1_yearOfDay 8 (some .int) :: ([.constantLong RX1 127 (146100), .constantLong RX1 129 (146097), .constantLong RX1 131 (400), .methodLink RX1 66 yX1_firstDayOfYear, .static yX1_firstDayOfYear, .initialized RX1, .code yX1_firstDayOfYear cX1_firstDayOfYear 4 (some .long), .constantLong RX1 118 (365), .constantLong RX1 123 (1721058), .constantLong RX1 125 (1721060), .methodLink RX1 120 yJ9_floorDiv_7cf53, .static yJ9_floorDiv_7cf53, .initialized RJ9, .code yJ9_floorDiv_7cf53 cJ9_floorDiv_7cf53 3 (some .int), .methodLink RX1 133 yJ9_floorDiv_f86c9, .static yJ9_floorDiv_f86c9, .code yJ9_floorDiv_f86c9 cJ9_floorDiv_f86c9 6 (some .long)])
def wsX1_monthOfDayWithinYear : List Cond := .code yX1_monthOfDayWithinYear cX1_monthOfDayWithinYear 4 (some .int) :: ([.fieldLink RX1 110 "SkyAlmanac" "MONTH_LENGTHS" "[I", .methodLink RX1 70 yX1_daysBeforeMonth, .static yX1_daysBeforeMonth, .initialized RX1, .code yX1_daysBeforeMonth cX1_daysBeforeMonth 5 (some .int), .methodLink RX1 60 yX1_monthLength, .static yX1_monthLength, .code yX1_monthLength cX1_monthLength 4 (some .int), .methodLink RX1 114 yX1_isLeap, .static yX1_isLeap, .code yX1_isLeap cX1_isLeap 2 (some .boolean)])
def wsX1_date_r1 : List Cond := [Cond.classLink RX1 43 "java/lang/IllegalArgumentException", Cond.initialized "java/lang/IllegalArgumentException", Cond.constantLong RX1 37 (2), Cond.constantLong RX1 77 (-400000000), Cond.constantLong RX1 79 (400000000), Cond.constantLong RX1 83 (3), Cond.constantLong RX1 73 (2299160), Cond.constantLong RX1 50 (-1000000), Cond.constantLong RX1 52 (1000000), Cond.methodLink RX1 39 yX1_isWholeWithin, Cond.static yX1_isWholeWithin, Cond.initialized RX1, Cond.code yX1_isWholeWithin cX1_isWholeWithin 6 (some .boolean), Cond.methodLink RX1 87 yX1_yearOfDay, Cond.static yX1_yearOfDay, Cond.code yX1_yearOfDay cX1_yearOfDay 8 (some .int), Cond.constantLong RX1 127 (146100), Cond.constantLong RX1 129 (146097), Cond.constantLong RX1 131 (400), Cond.methodLink RX1 66 yX1_firstDayOfYear, Cond.static yX1_firstDayOfYear, Cond.code yX1_firstDayOfYear cX1_firstDayOfYear 4 (some .long), Cond.constantLong RX1 118 (365), Cond.constantLong RX1 123 (1721058)]
def wsX1_date_r2 : List Cond := [Cond.constantLong RX1 125 (1721060), Cond.methodLink RX1 120 yJ9_floorDiv_7cf53, Cond.static yJ9_floorDiv_7cf53, Cond.initialized RJ9, Cond.code yJ9_floorDiv_7cf53 cJ9_floorDiv_7cf53 3 (some .int), Cond.methodLink RX1 133 yJ9_floorDiv_f86c9, Cond.static yJ9_floorDiv_f86c9, Cond.code yJ9_floorDiv_f86c9 cJ9_floorDiv_f86c9 6 (some .long), Cond.methodLink RX1 93 yX1_monthOfDayWithinYear, Cond.static yX1_monthOfDayWithinYear, Cond.code yX1_monthOfDayWithinYear cX1_monthOfDayWithinYear 4 (some .int), Cond.fieldLink RX1 110 "SkyAlmanac" "MONTH_LENGTHS" "[I", Cond.methodLink RX1 70 yX1_daysBeforeMonth, Cond.static yX1_daysBeforeMonth, Cond.code yX1_daysBeforeMonth cX1_daysBeforeMonth 5 (some .int), Cond.methodLink RX1 60 yX1_monthLength, Cond.static yX1_monthLength, Cond.code yX1_monthLength cX1_monthLength 4 (some .int), Cond.methodLink RX1 114 yX1_isLeap, Cond.static yX1_isLeap, Cond.code yX1_isLeap cX1_isLeap 2 (some .boolean)]
def wsX1_date : List Cond := .code yX1_date cX1_date 9 (some .int) :: ((wsX1_date_r1 ++ wsX1_date_r2) ++ (vx_atS RX1 47 "java/lang/IllegalArgumentException" ["java/lang/RuntimeException", "java/lang/Exception"]).filter goodWord)
def wsJ9_floorMod_7cf53 : List Cond := .code yJ9_floorMod_7cf53 cJ9_floorMod_7cf53 3 (some .int) :: ([])
def wsX1_easter_r1 : List Cond := [Cond.classLink RX1 43 "java/lang/IllegalArgumentException", Cond.initialized "java/lang/IllegalArgumentException", Cond.constantLong RX1 96 (1583), Cond.constantLong RX1 98 (9999), Cond.constantLong RX1 108 (28), Cond.methodLink RX1 39 yX1_isWholeWithin, Cond.static yX1_isWholeWithin, Cond.initialized RX1, Cond.code yX1_isWholeWithin cX1_isWholeWithin 6 (some .boolean), Cond.methodLink RX1 102 yJ9_floorMod_7cf53, Cond.static yJ9_floorMod_7cf53, Cond.initialized RJ9, Cond.code yJ9_floorMod_7cf53 cJ9_floorMod_7cf53 3 (some .int), Cond.methodLink RX1 66 yX1_firstDayOfYear, Cond.static yX1_firstDayOfYear, Cond.code yX1_firstDayOfYear cX1_firstDayOfYear 4 (some .long), Cond.constantLong RX1 118 (365), Cond.constantLong RX1 123 (1721058), Cond.constantLong RX1 125 (1721060), Cond.methodLink RX1 120 yJ9_floorDiv_7cf53, Cond.static yJ9_floorDiv_7cf53, Cond.code yJ9_floorDiv_7cf53 cJ9_floorDiv_7cf53 3 (some .int), Cond.methodLink RX1 70 yX1_daysBeforeMonth, Cond.static yX1_daysBeforeMonth]
def wsX1_easter_r2 : List Cond := [Cond.code yX1_daysBeforeMonth cX1_daysBeforeMonth 5 (some .int), Cond.fieldLink RX1 110 "SkyAlmanac" "MONTH_LENGTHS" "[I", Cond.methodLink RX1 60 yX1_monthLength, Cond.static yX1_monthLength, Cond.code yX1_monthLength cX1_monthLength 4 (some .int), Cond.methodLink RX1 114 yX1_isLeap, Cond.static yX1_isLeap, Cond.code yX1_isLeap cX1_isLeap 2 (some .boolean)]
def wsX1_easter : List Cond := .code yX1_easter cX1_easter 11 (some .long) :: ((wsX1_easter_r1 ++ wsX1_easter_r2) ++ (vx_atS RX1 47 "java/lang/IllegalArgumentException" ["java/lang/RuntimeException", "java/lang/Exception"]).filter goodWord)
def wsX1_isWithin : List Cond := .code yX1_isWithin cX1_isWithin 6 (some .boolean) :: ([])
def wsX1_orbit : List Cond := .code yX1_orbit cX1_orbit 12 (some .boolean) :: ([.classLink RX1 136 "java/lang/IndexOutOfBoundsException", .initialized "java/lang/IndexOutOfBoundsException", .classLink RX1 43 "java/lang/IllegalArgumentException", .initialized "java/lang/IllegalArgumentException", .fieldLink RX1 11 "SkyAlmanac" "bodies" "[LSkyAlmanac$Body;", .constantDouble RX1 141 (13868412840022376448), .constantDouble RX1 143 (4645040803167600640), .constantDouble RX1 149 (13860109328209412096), .constantDouble RX1 151 (4636737291354636288), .constantDouble RX1 153 (4604930618986332160), .methodLink RX1 145 yX1_isWithin, .static yX1_isWithin, .initialized RX1, .code yX1_isWithin cX1_isWithin 6 (some .boolean)] ++ wsX10 ++ wsX00 ++ (vx_atS RX1 140 "java/lang/IndexOutOfBoundsException" ["java/lang/RuntimeException", "java/lang/Exception"]).filter goodWord ++ (vx_atS RX1 47 "java/lang/IllegalArgumentException" ["java/lang/RuntimeException", "java/lang/Exception"]).filter goodWord)
def wsX1_bodyThatIsSet : List Cond := .code yX1_bodyThatIsSet cX1_bodyThatIsSet 2 (some (.object "SkyAlmanac$Body")) :: ([.classLink RX1 214 "java/util/NoSuchElementException", .initialized "java/util/NoSuchElementException", .fieldLink RX1 11 "SkyAlmanac" "bodies" "[LSkyAlmanac$Body;"] ++ wsX10 ++ wsX00 ++ (vx_atS RX1 218 "java/util/NoSuchElementException" ["java/lang/RuntimeException", "java/lang/Exception"]).filter goodWord)
def wsX1_term_r1 : List Cond := [Cond.classLink RX1 43 "java/lang/IllegalArgumentException", Cond.initialized "java/lang/IllegalArgumentException", Cond.classLink RX1 186 "java/lang/IllegalStateException", Cond.initialized "java/lang/IllegalStateException", Cond.constantLong RX1 37 (2), Cond.constantDouble RX1 177 (13845191154443747328), Cond.constantDouble RX1 179 (4621819117588971520), Cond.constantDouble RX1 141 (13868412840022376448), Cond.constantDouble RX1 143 (4645040803167600640), Cond.constantDouble RX1 149 (13860109328209412096), Cond.constantDouble RX1 151 (4636737291354636288), Cond.methodLink RX1 173 yX1_bodyThatIsSet, Cond.instanceMethod yX1_bodyThatIsSet, Cond.selects RX1 yX1_bodyThatIsSet yX1_bodyThatIsSet, Cond.initialized RX1, Cond.code yX1_bodyThatIsSet cX1_bodyThatIsSet 2 (some (.object "SkyAlmanac$Body")), Cond.classLink RX1 214 "java/util/NoSuchElementException", Cond.initialized "java/util/NoSuchElementException", Cond.fieldLink RX1 11 "SkyAlmanac" "bodies" "[LSkyAlmanac$Body;", Cond.methodLink RX1 39 yX1_isWholeWithin, Cond.static yX1_isWholeWithin, Cond.code yX1_isWholeWithin cX1_isWholeWithin 6 (some .boolean), Cond.methodLink RX1 145 yX1_isWithin, Cond.static yX1_isWithin]
def wsX1_term_r2 : List Cond := [Cond.code yX1_isWithin cX1_isWithin 6 (some .boolean)]
def wsX1_term : List Cond := .code yX1_term cX1_term 11 (some .int) :: ((wsX1_term_r1 ++ wsX1_term_r2) ++ wsX00 ++ wsX10 ++ (vx_atS RX1 47 "java/lang/IllegalArgumentException" ["java/lang/RuntimeException", "java/lang/Exception"]).filter goodWord ++ (vx_atS RX1 190 "java/lang/IllegalStateException" ["java/lang/RuntimeException", "java/lang/Exception"]).filter goodWord ++ (vx_atS RX1 218 "java/util/NoSuchElementException" ["java/lang/RuntimeException", "java/lang/Exception"]).filter goodWord)
def wsX1_observer : List Cond := .code yX1_observer cX1_observer 6 (some .boolean) :: ([.classLink RX1 43 "java/lang/IllegalArgumentException", .initialized "java/lang/IllegalArgumentException", .constantDouble RX1 204 (13859405640767635456), .constantDouble RX1 206 (4636033603912859648), .constantDouble RX1 208 (13863909240395005952), .constantDouble RX1 210 (4640537203540230144), .fieldLink RX1 24 "SkyAlmanac" "latitude" "D", .fieldLink RX1 28 "SkyAlmanac" "eastward" "D", .methodLink RX1 145 yX1_isWithin, .static yX1_isWithin, .initialized RX1, .code yX1_isWithin cX1_isWithin 6 (some .boolean)] ++ wsX10 ++ (vx_atS RX1 47 "java/lang/IllegalArgumentException" ["java/lang/RuntimeException", "java/lang/Exception"]).filter goodWord)
def wsX1_isTime : List Cond := .code yX1_isTime cX1_isTime 2 (some .boolean) :: ([.constantDouble RX1 361 (13920209183539462144), .constantDouble RX1 363 (4696837146684686336), .methodLink RX1 145 yX1_isWithin, .static yX1_isWithin, .initialized RX1, .code yX1_isWithin cX1_isWithin 6 (some .boolean)])
def wsX1_degreesInRadian : List Cond := .code yX1_degreesInRadian cX1_degreesInRadian 0 (some .double) :: ([.constantDouble RX1 365 (4633260481411531256)])
def wsX1_sine : List Cond := .code yX1_sine cX1_sine 2 (some .double) :: ([.methodLink RX1 236 yX1_red, .static yX1_red, .initialized RX1, .code yX1_red cX1_red 4 (some .double), .constantLong RX1 345 (360), .constantDouble RX1 143 (4645040803167600640), .methodLink RX1 367 yX1_waveAt, .static yX1_waveAt, .code yX1_waveAt cX1_waveAt 15 (some .double), .constantDouble RX1 206 (4636033603912859648), .constantDouble RX1 249 (4602678819172646912), .constantDouble RX1 371 (4580687790476533049), .constantDouble RX1 373 (13818544856648471893), .constantDouble RX1 375 (4575957461383581969), .constantDouble RX1 377 (13774824197408792602), .constantDouble RX1 379 (4523617214285662004), .constantDouble RX1 381 (13826050856027422720), .constantDouble RX1 383 (4586165620538955093), .constantDouble RX1 385 (13787419979223755799), .constantDouble RX1 387 (4537941361671905306), .constantDouble RX1 389 (13732177094651715420)])
def wsX1_anomalyOf_r1 : List Cond := [Cond.classLink RX1 186 "java/lang/IllegalStateException", Cond.initialized "java/lang/IllegalStateException", Cond.constantDouble RX1 262 (13740701229962882445), Cond.constantDouble RX1 264 (4517329193108106637), Cond.fieldLink RX1 34 "SkyAlmanac" "longitudesFailed" "I", Cond.methodLink RX1 242 yX1_degreesInRadian, Cond.static yX1_degreesInRadian, Cond.initialized RX1, Cond.code yX1_degreesInRadian cX1_degreesInRadian 0 (some .double), Cond.constantDouble RX1 365 (4633260481411531256), Cond.methodLink RX1 246 yX1_sine, Cond.static yX1_sine, Cond.code yX1_sine cX1_sine 2 (some .double), Cond.methodLink RX1 236 yX1_red, Cond.static yX1_red, Cond.code yX1_red cX1_red 4 (some .double), Cond.constantLong RX1 345 (360), Cond.constantDouble RX1 143 (4645040803167600640), Cond.methodLink RX1 367 yX1_waveAt, Cond.static yX1_waveAt, Cond.code yX1_waveAt cX1_waveAt 15 (some .double), Cond.constantDouble RX1 206 (4636033603912859648), Cond.constantDouble RX1 249 (4602678819172646912), Cond.constantDouble RX1 371 (4580687790476533049)]
def wsX1_anomalyOf_r2 : List Cond := [Cond.constantDouble RX1 373 (13818544856648471893), Cond.constantDouble RX1 375 (4575957461383581969), Cond.constantDouble RX1 377 (13774824197408792602), Cond.constantDouble RX1 379 (4523617214285662004), Cond.constantDouble RX1 381 (13826050856027422720), Cond.constantDouble RX1 383 (4586165620538955093), Cond.constantDouble RX1 385 (13787419979223755799), Cond.constantDouble RX1 387 (4537941361671905306), Cond.constantDouble RX1 389 (13732177094651715420), Cond.methodLink RX1 259 yX1_cosine, Cond.static yX1_cosine, Cond.code yX1_cosine cX1_cosine 2 (some .double)]
def wsX1_anomalyOf : List Cond := .code yX1_anomalyOf cX1_anomalyOf 11 (some .double) :: ((wsX1_anomalyOf_r1 ++ wsX1_anomalyOf_r2) ++ wsX00 ++ wsX10 ++ (vx_atS RX1 190 "java/lang/IllegalStateException" ["java/lang/RuntimeException", "java/lang/Exception"]).filter goodWord)
def wsX1_longitudeOf_r1 : List Cond := [Cond.fieldLink RX1 31 "SkyAlmanac" "longitudesWorkedOut" "I", Cond.constantDouble RX1 249 (4602678819172646912), Cond.constantDouble RX1 251 (4611686018427387904), Cond.constantDouble RX1 253 (4652007308841189376), Cond.methodLink RX1 236 yX1_red, Cond.static yX1_red, Cond.initialized RX1, Cond.code yX1_red cX1_red 4 (some .double), Cond.constantLong RX1 345 (360), Cond.constantDouble RX1 143 (4645040803167600640), Cond.methodLink RX1 239 yX1_anomalyOf, Cond.instanceMethod yX1_anomalyOf, Cond.selects RX1 yX1_anomalyOf yX1_anomalyOf, Cond.code yX1_anomalyOf cX1_anomalyOf 11 (some .double), Cond.classLink RX1 186 "java/lang/IllegalStateException", Cond.initialized "java/lang/IllegalStateException", Cond.constantDouble RX1 262 (13740701229962882445), Cond.constantDouble RX1 264 (4517329193108106637), Cond.fieldLink RX1 34 "SkyAlmanac" "longitudesFailed" "I", Cond.methodLink RX1 242 yX1_degreesInRadian, Cond.static yX1_degreesInRadian, Cond.code yX1_degreesInRadian cX1_degreesInRadian 0 (some .double), Cond.constantDouble RX1 365 (4633260481411531256), Cond.methodLink RX1 246 yX1_sine]
def wsX1_longitudeOf_r2 : List Cond := [Cond.static yX1_sine, Cond.code yX1_sine cX1_sine 2 (some .double), Cond.methodLink RX1 367 yX1_waveAt, Cond.static yX1_waveAt, Cond.code yX1_waveAt cX1_waveAt 15 (some .double), Cond.constantDouble RX1 206 (4636033603912859648), Cond.constantDouble RX1 371 (4580687790476533049), Cond.constantDouble RX1 373 (13818544856648471893), Cond.constantDouble RX1 375 (4575957461383581969), Cond.constantDouble RX1 377 (13774824197408792602), Cond.constantDouble RX1 379 (4523617214285662004), Cond.constantDouble RX1 381 (13826050856027422720), Cond.constantDouble RX1 383 (4586165620538955093), Cond.constantDouble RX1 385 (13787419979223755799), Cond.constantDouble RX1 387 (4537941361671905306), Cond.constantDouble RX1 389 (13732177094651715420), Cond.methodLink RX1 259 yX1_cosine, Cond.static yX1_cosine, Cond.code yX1_cosine cX1_cosine 2 (some .double), Cond.instanceMethod yX0_sumOfPower, Cond.initialized RX0, Cond.selects RX0 yX0_sumOfPower yX0_sumOfPower, Cond.code yX0_sumOfPower cX0_sumOfPower 7 (some .double), Cond.fieldLink RX0 25 "SkyAlmanac$Body" "terms" "I"]
def wsX1_longitudeOf_r3 : List Cond := [Cond.fieldLink RX0 9 "SkyAlmanac$Body" "powers" "[I", Cond.fieldLink RX0 15 "SkyAlmanac$Body" "factors" "[D", Cond.fieldLink RX0 19 "SkyAlmanac$Body" "starts" "[D", Cond.fieldLink RX0 22 "SkyAlmanac$Body" "speeds" "[D"]
def wsX1_longitudeOf : List Cond := .code yX1_longitudeOf cX1_longitudeOf 14 (some .double) :: ((wsX1_longitudeOf_r1 ++ (wsX1_longitudeOf_r2 ++ wsX1_longitudeOf_r3)) ++ wsX10 ++ wsX00 ++ (vx_atS RX1 190 "java/lang/IllegalStateException" ["java/lang/RuntimeException", "java/lang/Exception"]).filter goodWord)
def wsX1_longitude_r1 : List Cond := [Cond.classLink RX1 43 "java/lang/IllegalArgumentException", Cond.initialized "java/lang/IllegalArgumentException", Cond.methodLink RX1 173 yX1_bodyThatIsSet, Cond.instanceMethod yX1_bodyThatIsSet, Cond.selects RX1 yX1_bodyThatIsSet yX1_bodyThatIsSet, Cond.initialized RX1, Cond.code yX1_bodyThatIsSet cX1_bodyThatIsSet 2 (some (.object "SkyAlmanac$Body")), Cond.classLink RX1 214 "java/util/NoSuchElementException", Cond.initialized "java/util/NoSuchElementException", Cond.fieldLink RX1 11 "SkyAlmanac" "bodies" "[LSkyAlmanac$Body;", Cond.methodLink RX1 219 yX1_isTime, Cond.static yX1_isTime, Cond.code yX1_isTime cX1_isTime 2 (some .boolean), Cond.constantDouble RX1 361 (13920209183539462144), Cond.constantDouble RX1 363 (4696837146684686336), Cond.methodLink RX1 145 yX1_isWithin, Cond.static yX1_isWithin, Cond.code yX1_isWithin cX1_isWithin 6 (some .boolean), Cond.methodLink RX1 225 yX1_longitudeOf, Cond.instanceMethod yX1_longitudeOf, Cond.selects RX1 yX1_longitudeOf yX1_longitudeOf, Cond.code yX1_longitudeOf cX1_longitudeOf 14 (some .double), Cond.fieldLink RX1 31 "SkyAlmanac" "longitudesWorkedOut" "I", Cond.constantDouble RX1 249 (4602678819172646912)]
def wsX1_longitude_r2 : List Cond := [Cond.constantDouble RX1 251 (4611686018427387904), Cond.constantDouble RX1 253 (4652007308841189376), Cond.methodLink RX1 236 yX1_red, Cond.static yX1_red, Cond.code yX1_red cX1_red 4 (some .double), Cond.constantLong RX1 345 (360), Cond.constantDouble RX1 143 (4645040803167600640), Cond.methodLink RX1 239 yX1_anomalyOf, Cond.instanceMethod yX1_anomalyOf, Cond.selects RX1 yX1_anomalyOf yX1_anomalyOf, Cond.code yX1_anomalyOf cX1_anomalyOf 11 (some .double), Cond.classLink RX1 186 "java/lang/IllegalStateException", Cond.initialized "java/lang/IllegalStateException", Cond.constantDouble RX1 262 (13740701229962882445), Cond.constantDouble RX1 264 (4517329193108106637), Cond.fieldLink RX1 34 "SkyAlmanac" "longitudesFailed" "I", Cond.methodLink RX1 242 yX1_degreesInRadian, Cond.static yX1_degreesInRadian, Cond.code yX1_degreesInRadian cX1_degreesInRadian 0 (some .double), Cond.constantDouble RX1 365 (4633260481411531256), Cond.methodLink RX1 246 yX1_sine, Cond.static yX1_sine, Cond.code yX1_sine cX1_sine 2 (some .double), Cond.methodLink RX1 367 yX1_waveAt]
def wsX1_longitude_r3 : List Cond := [Cond.static yX1_waveAt, Cond.code yX1_waveAt cX1_waveAt 15 (some .double), Cond.constantDouble RX1 206 (4636033603912859648), Cond.constantDouble RX1 371 (4580687790476533049), Cond.constantDouble RX1 373 (13818544856648471893), Cond.constantDouble RX1 375 (4575957461383581969), Cond.constantDouble RX1 377 (13774824197408792602), Cond.constantDouble RX1 379 (4523617214285662004), Cond.constantDouble RX1 381 (13826050856027422720), Cond.constantDouble RX1 383 (4586165620538955093), Cond.constantDouble RX1 385 (13787419979223755799), Cond.constantDouble RX1 387 (4537941361671905306), Cond.constantDouble RX1 389 (13732177094651715420), Cond.methodLink RX1 259 yX1_cosine, Cond.static yX1_cosine, Cond.code yX1_cosine cX1_cosine 2 (some .double), Cond.instanceMethod yX0_sumOfPower, Cond.initialized RX0, Cond.selects RX0 yX0_sumOfPower yX0_sumOfPower, Cond.code yX0_sumOfPower cX0_sumOfPower 7 (some .double), Cond.fieldLink RX0 25 "SkyAlmanac$Body" "terms" "I", Cond.fieldLink RX0 9 "SkyAlmanac$Body" "powers" "[I", Cond.fieldLink RX0 15 "SkyAlmanac$Body" "factors" "[D", Cond.fieldLink RX0 19 "SkyAlmanac$Body" "starts" "[D"]
def wsX1_longitude_r4 : List Cond := [Cond.fieldLink RX0 22 "SkyAlmanac$Body" "speeds" "[D"]
def wsX1_longitude : List Cond := .code yX1_longitude cX1_longitude 5 (some .double) :: ((wsX1_longitude_r1 ++ (wsX1_longitude_r2 ++ (wsX1_longitude_r3 ++ wsX1_longitude_r4))) ++ wsX10 ++ wsX00 ++ (vx_atS RX1 47 "java/lang/IllegalArgumentException" ["java/lang/RuntimeException", "java/lang/Exception"]).filter goodWord ++ (vx_atS RX1 218 "java/util/NoSuchElementException" ["java/lang/RuntimeException", "java/lang/Exception"]).filter goodWord ++ (vx_atS RX1 190 "java/lang/IllegalStateException" ["java/lang/RuntimeException", "java/lang/Exception"]).filter goodWord)
def wsX1_siderealAngle : List Cond := .code yX1_siderealAngle cX1_siderealAngle 2 (some .double) :: ([.constantDouble RX1 272 (4643641531568107876), .constantDouble RX1 274 (4607053141768361126), .constantDouble RX1 143 (4645040803167600640), .methodLink RX1 236 yX1_red, .static yX1_red, .initialized RX1, .code yX1_red cX1_red 4 (some .double), .constantLong RX1 345 (360)])
def wsX1_heightOf_r1 : List Cond := [Cond.constantDouble RX1 268 (4606439163290984179), Cond.constantDouble RX1 270 (4600837336122831769), Cond.fieldLink RX1 28 "SkyAlmanac" "eastward" "D", Cond.fieldLink RX1 24 "SkyAlmanac" "latitude" "D", Cond.methodLink RX1 225 yX1_longitudeOf, Cond.instanceMethod yX1_longitudeOf, Cond.selects RX1 yX1_longitudeOf yX1_longitudeOf, Cond.initialized RX1, Cond.code yX1_longitudeOf cX1_longitudeOf 14 (some .double), Cond.fieldLink RX1 31 "SkyAlmanac" "longitudesWorkedOut" "I", Cond.constantDouble RX1 249 (4602678819172646912), Cond.constantDouble RX1 251 (4611686018427387904), Cond.constantDouble RX1 253 (4652007308841189376), Cond.methodLink RX1 236 yX1_red, Cond.static yX1_red, Cond.code yX1_red cX1_red 4 (some .double), Cond.constantLong RX1 345 (360), Cond.constantDouble RX1 143 (4645040803167600640), Cond.methodLink RX1 239 yX1_anomalyOf, Cond.instanceMethod yX1_anomalyOf, Cond.selects RX1 yX1_anomalyOf yX1_anomalyOf, Cond.code yX1_anomalyOf cX1_anomalyOf 11 (some .double), Cond.classLink RX1 186 "java/lang/IllegalStateException", Cond.initialized "java/lang/IllegalStateException"]
def wsX1_heightOf_r2 : List Cond := [Cond.constantDouble RX1 262 (13740701229962882445), Cond.constantDouble RX1 264 (4517329193108106637), Cond.fieldLink RX1 34 "SkyAlmanac" "longitudesFailed" "I", Cond.methodLink RX1 242 yX1_degreesInRadian, Cond.static yX1_degreesInRadian, Cond.code yX1_degreesInRadian cX1_degreesInRadian 0 (some .double), Cond.constantDouble RX1 365 (4633260481411531256), Cond.methodLink RX1 246 yX1_sine, Cond.static yX1_sine, Cond.code yX1_sine cX1_sine 2 (some .double), Cond.methodLink RX1 367 yX1_waveAt, Cond.static yX1_waveAt, Cond.code yX1_waveAt cX1_waveAt 15 (some .double), Cond.constantDouble RX1 206 (4636033603912859648), Cond.constantDouble RX1 371 (4580687790476533049), Cond.constantDouble RX1 373 (13818544856648471893), Cond.constantDouble RX1 375 (4575957461383581969), Cond.constantDouble RX1 377 (13774824197408792602), Cond.constantDouble RX1 379 (4523617214285662004), Cond.constantDouble RX1 381 (13826050856027422720), Cond.constantDouble RX1 383 (4586165620538955093), Cond.constantDouble RX1 385 (13787419979223755799), Cond.constantDouble RX1 387 (4537941361671905306), Cond.constantDouble RX1 389 (13732177094651715420)]
def wsX1_heightOf_r3 : List Cond := [Cond.methodLink RX1 259 yX1_cosine, Cond.static yX1_cosine, Cond.code yX1_cosine cX1_cosine 2 (some .double), Cond.instanceMethod yX0_sumOfPower, Cond.initialized RX0, Cond.selects RX0 yX0_sumOfPower yX0_sumOfPower, Cond.code yX0_sumOfPower cX0_sumOfPower 7 (some .double), Cond.fieldLink RX0 25 "SkyAlmanac$Body" "terms" "I", Cond.fieldLink RX0 9 "SkyAlmanac$Body" "powers" "[I", Cond.fieldLink RX0 15 "SkyAlmanac$Body" "factors" "[D", Cond.fieldLink RX0 19 "SkyAlmanac$Body" "starts" "[D", Cond.fieldLink RX0 22 "SkyAlmanac$Body" "speeds" "[D", Cond.methodLink RX1 232 yX1_siderealAngle, Cond.static yX1_siderealAngle, Cond.code yX1_siderealAngle cX1_siderealAngle 2 (some .double), Cond.constantDouble RX1 272 (4643641531568107876), Cond.constantDouble RX1 274 (4607053141768361126)]
def wsX1_heightOf : List Cond := .code yX1_heightOf cX1_heightOf 14 (some .double) :: ((wsX1_heightOf_r1 ++ (wsX1_heightOf_r2 ++ wsX1_heightOf_r3)) ++ wsX10 ++ wsX00 ++ (vx_atS RX1 190 "java/lang/IllegalStateException" ["java/lang/RuntimeException", "java/lang/Exception"]).filter goodWord)
def wsX1_height_r1 : List Cond := [Cond.classLink RX1 43 "java/lang/IllegalArgumentException", Cond.initialized "java/lang/IllegalArgumentException", Cond.methodLink RX1 173 yX1_bodyThatIsSet, Cond.instanceMethod yX1_bodyThatIsSet, Cond.selects RX1 yX1_bodyThatIsSet yX1_bodyThatIsSet, Cond.initialized RX1, Cond.code yX1_bodyThatIsSet cX1_bodyThatIsSet 2 (some (.object "SkyAlmanac$Body")), Cond.classLink RX1 214 "java/util/NoSuchElementException", Cond.initialized "java/util/NoSuchElementException", Cond.fieldLink RX1 11 "SkyAlmanac" "bodies" "[LSkyAlmanac$Body;", Cond.methodLink RX1 219 yX1_isTime, Cond.static yX1_isTime, Cond.code yX1_isTime cX1_isTime 2 (some .boolean), Cond.constantDouble RX1 361 (13920209183539462144), Cond.constantDouble RX1 363 (4696837146684686336), Cond.methodLink RX1 145 yX1_isWithin, Cond.static yX1_isWithin, Cond.code yX1_isWithin cX1_isWithin 6 (some .boolean), Cond.methodLink RX1 229 yX1_heightOf, Cond.instanceMethod yX1_heightOf, Cond.selects RX1 yX1_heightOf yX1_heightOf, Cond.code yX1_heightOf cX1_heightOf 14 (some .double), Cond.constantDouble RX1 268 (4606439163290984179), Cond.constantDouble RX1 270 (4600837336122831769)]
def wsX1_height_r2 : List Cond := [Cond.fieldLink RX1 28 "SkyAlmanac" "eastward" "D", Cond.fieldLink RX1 24 "SkyAlmanac" "latitude" "D", Cond.methodLink RX1 225 yX1_longitudeOf, Cond.instanceMethod yX1_longitudeOf, Cond.selects RX1 yX1_longitudeOf yX1_longitudeOf, Cond.code yX1_longitudeOf cX1_longitudeOf 14 (some .double), Cond.fieldLink RX1 31 "SkyAlmanac" "longitudesWorkedOut" "I", Cond.constantDouble RX1 249 (4602678819172646912), Cond.constantDouble RX1 251 (4611686018427387904), Cond.constantDouble RX1 253 (4652007308841189376), Cond.methodLink RX1 236 yX1_red, Cond.static yX1_red, Cond.code yX1_red cX1_red 4 (some .double), Cond.constantLong RX1 345 (360), Cond.constantDouble RX1 143 (4645040803167600640), Cond.methodLink RX1 239 yX1_anomalyOf, Cond.instanceMethod yX1_anomalyOf, Cond.selects RX1 yX1_anomalyOf yX1_anomalyOf, Cond.code yX1_anomalyOf cX1_anomalyOf 11 (some .double), Cond.classLink RX1 186 "java/lang/IllegalStateException", Cond.initialized "java/lang/IllegalStateException", Cond.constantDouble RX1 262 (13740701229962882445), Cond.constantDouble RX1 264 (4517329193108106637), Cond.fieldLink RX1 34 "SkyAlmanac" "longitudesFailed" "I"]
def wsX1_height_r3 : List Cond := [Cond.methodLink RX1 242 yX1_degreesInRadian, Cond.static yX1_degreesInRadian, Cond.code yX1_degreesInRadian cX1_degreesInRadian 0 (some .double), Cond.constantDouble RX1 365 (4633260481411531256), Cond.methodLink RX1 246 yX1_sine, Cond.static yX1_sine, Cond.code yX1_sine cX1_sine 2 (some .double), Cond.methodLink RX1 367 yX1_waveAt, Cond.static yX1_waveAt, Cond.code yX1_waveAt cX1_waveAt 15 (some .double), Cond.constantDouble RX1 206 (4636033603912859648), Cond.constantDouble RX1 371 (4580687790476533049), Cond.constantDouble RX1 373 (13818544856648471893), Cond.constantDouble RX1 375 (4575957461383581969), Cond.constantDouble RX1 377 (13774824197408792602), Cond.constantDouble RX1 379 (4523617214285662004), Cond.constantDouble RX1 381 (13826050856027422720), Cond.constantDouble RX1 383 (4586165620538955093), Cond.constantDouble RX1 385 (13787419979223755799), Cond.constantDouble RX1 387 (4537941361671905306), Cond.constantDouble RX1 389 (13732177094651715420), Cond.methodLink RX1 259 yX1_cosine, Cond.static yX1_cosine, Cond.code yX1_cosine cX1_cosine 2 (some .double)]
def wsX1_height_r4 : List Cond := [Cond.instanceMethod yX0_sumOfPower, Cond.initialized RX0, Cond.selects RX0 yX0_sumOfPower yX0_sumOfPower, Cond.code yX0_sumOfPower cX0_sumOfPower 7 (some .double), Cond.fieldLink RX0 25 "SkyAlmanac$Body" "terms" "I", Cond.fieldLink RX0 9 "SkyAlmanac$Body" "powers" "[I", Cond.fieldLink RX0 15 "SkyAlmanac$Body" "factors" "[D", Cond.fieldLink RX0 19 "SkyAlmanac$Body" "starts" "[D", Cond.fieldLink RX0 22 "SkyAlmanac$Body" "speeds" "[D", Cond.methodLink RX1 232 yX1_siderealAngle, Cond.static yX1_siderealAngle, Cond.code yX1_siderealAngle cX1_siderealAngle 2 (some .double), Cond.constantDouble RX1 272 (4643641531568107876), Cond.constantDouble RX1 274 (4607053141768361126)]
def wsX1_height : List Cond := .code yX1_height cX1_height 5 (some .double) :: ((wsX1_height_r1 ++ (wsX1_height_r2 ++ (wsX1_height_r3 ++ wsX1_height_r4))) ++ wsX10 ++ wsX00 ++ (vx_atS RX1 47 "java/lang/IllegalArgumentException" ["java/lang/RuntimeException", "java/lang/Exception"]).filter goodWord ++ (vx_atS RX1 218 "java/util/NoSuchElementException" ["java/lang/RuntimeException", "java/lang/Exception"]).filter goodWord ++ (vx_atS RX1 190 "java/lang/IllegalStateException" ["java/lang/RuntimeException", "java/lang/Exception"]).filter goodWord)
def wsX1_sidereal : List Cond := .code yX1_sidereal cX1_sidereal 3 (some .double) :: ([.classLink RX1 43 "java/lang/IllegalArgumentException", .initialized "java/lang/IllegalArgumentException", .methodLink RX1 219 yX1_isTime, .static yX1_isTime, .initialized RX1, .code yX1_isTime cX1_isTime 2 (some .boolean), .constantDouble RX1 361 (13920209183539462144), .constantDouble RX1 363 (4696837146684686336), .methodLink RX1 145 yX1_isWithin, .static yX1_isWithin, .code yX1_isWithin cX1_isWithin 6 (some .boolean), .methodLink RX1 232 yX1_siderealAngle, .static yX1_siderealAngle, .code yX1_siderealAngle cX1_siderealAngle 2 (some .double), .constantDouble RX1 272 (4643641531568107876), .constantDouble RX1 274 (4607053141768361126), .constantDouble RX1 143 (4645040803167600640), .methodLink RX1 236 yX1_red, .static yX1_red, .code yX1_red cX1_red 4 (some .double), .constantLong RX1 345 (360)] ++ (vx_atS RX1 47 "java/lang/IllegalArgumentException" ["java/lang/RuntimeException", "java/lang/Exception"]).filter goodWord)
def wsX1_count : List Cond := .code yX1_count cX1_count 2 (some .int) :: ([.fieldLink RX1 34 "SkyAlmanac" "longitudesFailed" "I", .fieldLink RX1 31 "SkyAlmanac" "longitudesWorkedOut" "I"] ++ wsX10)
def wsX1_timeOfPart : List Cond := .code yX1_timeOfPart cX1_timeOfPart 2 (some .double) :: ([.constantDouble RX1 302 (4625196817309499392)])
def wsX1_partOfGreatestHeight_r1 : List Cond := [Cond.methodLink RX1 304 yX1_timeOfPart, Cond.static yX1_timeOfPart, Cond.initialized RX1, Cond.code yX1_timeOfPart cX1_timeOfPart 2 (some .double), Cond.constantDouble RX1 302 (4625196817309499392), Cond.methodLink RX1 229 yX1_heightOf, Cond.instanceMethod yX1_heightOf, Cond.selects RX1 yX1_heightOf yX1_heightOf, Cond.code yX1_heightOf cX1_heightOf 14 (some .double), Cond.constantDouble RX1 268 (4606439163290984179), Cond.constantDouble RX1 270 (4600837336122831769), Cond.fieldLink RX1 28 "SkyAlmanac" "eastward" "D", Cond.fieldLink RX1 24 "SkyAlmanac" "latitude" "D", Cond.methodLink RX1 225 yX1_longitudeOf, Cond.instanceMethod yX1_longitudeOf, Cond.selects RX1 yX1_longitudeOf yX1_longitudeOf, Cond.code yX1_longitudeOf cX1_longitudeOf 14 (some .double), Cond.fieldLink RX1 31 "SkyAlmanac" "longitudesWorkedOut" "I", Cond.constantDouble RX1 249 (4602678819172646912), Cond.constantDouble RX1 251 (4611686018427387904), Cond.constantDouble RX1 253 (4652007308841189376), Cond.methodLink RX1 236 yX1_red, Cond.static yX1_red, Cond.code yX1_red cX1_red 4 (some .double)]
def wsX1_partOfGreatestHeight_r2 : List Cond := [Cond.constantLong RX1 345 (360), Cond.constantDouble RX1 143 (4645040803167600640), Cond.methodLink RX1 239 yX1_anomalyOf, Cond.instanceMethod yX1_anomalyOf, Cond.selects RX1 yX1_anomalyOf yX1_anomalyOf, Cond.code yX1_anomalyOf cX1_anomalyOf 11 (some .double), Cond.classLink RX1 186 "java/lang/IllegalStateException", Cond.initialized "java/lang/IllegalStateException", Cond.constantDouble RX1 262 (13740701229962882445), Cond.constantDouble RX1 264 (4517329193108106637), Cond.fieldLink RX1 34 "SkyAlmanac" "longitudesFailed" "I", Cond.methodLink RX1 242 yX1_degreesInRadian, Cond.static yX1_degreesInRadian, Cond.code yX1_degreesInRadian cX1_degreesInRadian 0 (some .double), Cond.constantDouble RX1 365 (4633260481411531256), Cond.methodLink RX1 246 yX1_sine, Cond.static yX1_sine, Cond.code yX1_sine cX1_sine 2 (some .double), Cond.methodLink RX1 367 yX1_waveAt, Cond.static yX1_waveAt, Cond.code yX1_waveAt cX1_waveAt 15 (some .double), Cond.constantDouble RX1 206 (4636033603912859648), Cond.constantDouble RX1 371 (4580687790476533049), Cond.constantDouble RX1 373 (13818544856648471893)]
def wsX1_partOfGreatestHeight_r3 : List Cond := [Cond.constantDouble RX1 375 (4575957461383581969), Cond.constantDouble RX1 377 (13774824197408792602), Cond.constantDouble RX1 379 (4523617214285662004), Cond.constantDouble RX1 381 (13826050856027422720), Cond.constantDouble RX1 383 (4586165620538955093), Cond.constantDouble RX1 385 (13787419979223755799), Cond.constantDouble RX1 387 (4537941361671905306), Cond.constantDouble RX1 389 (13732177094651715420), Cond.methodLink RX1 259 yX1_cosine, Cond.static yX1_cosine, Cond.code yX1_cosine cX1_cosine 2 (some .double), Cond.instanceMethod yX0_sumOfPower, Cond.initialized RX0, Cond.selects RX0 yX0_sumOfPower yX0_sumOfPower, Cond.code yX0_sumOfPower cX0_sumOfPower 7 (some .double), Cond.fieldLink RX0 25 "SkyAlmanac$Body" "terms" "I", Cond.fieldLink RX0 9 "SkyAlmanac$Body" "powers" "[I", Cond.fieldLink RX0 15 "SkyAlmanac$Body" "factors" "[D", Cond.fieldLink RX0 19 "SkyAlmanac$Body" "starts" "[D", Cond.fieldLink RX0 22 "SkyAlmanac$Body" "speeds" "[D", Cond.methodLink RX1 232 yX1_siderealAngle, Cond.static yX1_siderealAngle, Cond.code yX1_siderealAngle cX1_siderealAngle 2 (some .double), Cond.constantDouble RX1 272 (4643641531568107876)]
def wsX1_partOfGreatestHeight_r4 : List Cond := [Cond.constantDouble RX1 274 (4607053141768361126)]
def wsX1_partOfGreatestHeight : List Cond := .code yX1_partOfGreatestHeight cX1_partOfGreatestHeight 9 (some .int) :: ((wsX1_partOfGreatestHeight_r1 ++ (wsX1_partOfGreatestHeight_r2 ++ (wsX1_partOfGreatestHeight_r3 ++ wsX1_partOfGreatestHeight_r4))) ++ wsX10 ++ wsX00 ++ (vx_atS RX1 190 "java/lang/IllegalStateException" ["java/lang/RuntimeException", "java/lang/Exception"]).filter goodWord)
def wsX1_narrowedToHighest_r1 : List Cond := [Cond.constantDouble RX1 308 (4613937818241073152), Cond.constantDouble RX1 251 (4611686018427387904), Cond.methodLink RX1 304 yX1_timeOfPart, Cond.static yX1_timeOfPart, Cond.initialized RX1, Cond.code yX1_timeOfPart cX1_timeOfPart 2 (some .double), Cond.constantDouble RX1 302 (4625196817309499392), Cond.methodLink RX1 229 yX1_heightOf, Cond.instanceMethod yX1_heightOf, Cond.selects RX1 yX1_heightOf yX1_heightOf, Cond.code yX1_heightOf cX1_heightOf 14 (some .double), Cond.constantDouble RX1 268 (4606439163290984179), Cond.constantDouble RX1 270 (4600837336122831769), Cond.fieldLink RX1 28 "SkyAlmanac" "eastward" "D", Cond.fieldLink RX1 24 "SkyAlmanac" "latitude" "D", Cond.methodLink RX1 225 yX1_longitudeOf, Cond.instanceMethod yX1_longitudeOf, Cond.selects RX1 yX1_longitudeOf yX1_longitudeOf, Cond.code yX1_longitudeOf cX1_longitudeOf 14 (some .double), Cond.fieldLink RX1 31 "SkyAlmanac" "longitudesWorkedOut" "I", Cond.constantDouble RX1 249 (4602678819172646912), Cond.constantDouble RX1 253 (4652007308841189376), Cond.methodLink RX1 236 yX1_red, Cond.static yX1_red]
def wsX1_narrowedToHighest_r2 : List Cond := [Cond.code yX1_red cX1_red 4 (some .double), Cond.constantLong RX1 345 (360), Cond.constantDouble RX1 143 (4645040803167600640), Cond.methodLink RX1 239 yX1_anomalyOf, Cond.instanceMethod yX1_anomalyOf, Cond.selects RX1 yX1_anomalyOf yX1_anomalyOf, Cond.code yX1_anomalyOf cX1_anomalyOf 11 (some .double), Cond.classLink RX1 186 "java/lang/IllegalStateException", Cond.initialized "java/lang/IllegalStateException", Cond.constantDouble RX1 262 (13740701229962882445), Cond.constantDouble RX1 264 (4517329193108106637), Cond.fieldLink RX1 34 "SkyAlmanac" "longitudesFailed" "I", Cond.methodLink RX1 242 yX1_degreesInRadian, Cond.static yX1_degreesInRadian, Cond.code yX1_degreesInRadian cX1_degreesInRadian 0 (some .double), Cond.constantDouble RX1 365 (4633260481411531256), Cond.methodLink RX1 246 yX1_sine, Cond.static yX1_sine, Cond.code yX1_sine cX1_sine 2 (some .double), Cond.methodLink RX1 367 yX1_waveAt, Cond.static yX1_waveAt, Cond.code yX1_waveAt cX1_waveAt 15 (some .double), Cond.constantDouble RX1 206 (4636033603912859648), Cond.constantDouble RX1 371 (4580687790476533049)]
def wsX1_narrowedToHighest_r3 : List Cond := [Cond.constantDouble RX1 373 (13818544856648471893), Cond.constantDouble RX1 375 (4575957461383581969), Cond.constantDouble RX1 377 (13774824197408792602), Cond.constantDouble RX1 379 (4523617214285662004), Cond.constantDouble RX1 381 (13826050856027422720), Cond.constantDouble RX1 383 (4586165620538955093), Cond.constantDouble RX1 385 (13787419979223755799), Cond.constantDouble RX1 387 (4537941361671905306), Cond.constantDouble RX1 389 (13732177094651715420), Cond.methodLink RX1 259 yX1_cosine, Cond.static yX1_cosine, Cond.code yX1_cosine cX1_cosine 2 (some .double), Cond.instanceMethod yX0_sumOfPower, Cond.initialized RX0, Cond.selects RX0 yX0_sumOfPower yX0_sumOfPower, Cond.code yX0_sumOfPower cX0_sumOfPower 7 (some .double), Cond.fieldLink RX0 25 "SkyAlmanac$Body" "terms" "I", Cond.fieldLink RX0 9 "SkyAlmanac$Body" "powers" "[I", Cond.fieldLink RX0 15 "SkyAlmanac$Body" "factors" "[D", Cond.fieldLink RX0 19 "SkyAlmanac$Body" "starts" "[D", Cond.fieldLink RX0 22 "SkyAlmanac$Body" "speeds" "[D", Cond.methodLink RX1 232 yX1_siderealAngle, Cond.static yX1_siderealAngle, Cond.code yX1_siderealAngle cX1_siderealAngle 2 (some .double)]
def wsX1_narrowedToHighest_r4 : List Cond := [Cond.constantDouble RX1 272 (4643641531568107876), Cond.constantDouble RX1 274 (4607053141768361126)]
def wsX1_narrowedToHighest : List Cond := .code yX1_narrowedToHighest cX1_narrowedToHighest 17 (some .double) :: ((wsX1_narrowedToHighest_r1 ++ (wsX1_narrowedToHighest_r2 ++ (wsX1_narrowedToHighest_r3 ++ wsX1_narrowedToHighest_r4))) ++ wsX10 ++ wsX00 ++ (vx_atS RX1 190 "java/lang/IllegalStateException" ["java/lang/RuntimeException", "java/lang/Exception"]).filter goodWord)
def wsX1_partOfCrossing_r1 : List Cond := [Cond.methodLink RX1 304 yX1_timeOfPart, Cond.static yX1_timeOfPart, Cond.initialized RX1, Cond.code yX1_timeOfPart cX1_timeOfPart 2 (some .double), Cond.constantDouble RX1 302 (4625196817309499392), Cond.methodLink RX1 229 yX1_heightOf, Cond.instanceMethod yX1_heightOf, Cond.selects RX1 yX1_heightOf yX1_heightOf, Cond.code yX1_heightOf cX1_heightOf 14 (some .double), Cond.constantDouble RX1 268 (4606439163290984179), Cond.constantDouble RX1 270 (4600837336122831769), Cond.fieldLink RX1 28 "SkyAlmanac" "eastward" "D", Cond.fieldLink RX1 24 "SkyAlmanac" "latitude" "D", Cond.methodLink RX1 225 yX1_longitudeOf, Cond.instanceMethod yX1_longitudeOf, Cond.selects RX1 yX1_longitudeOf yX1_longitudeOf, Cond.code yX1_longitudeOf cX1_longitudeOf 14 (some .double), Cond.fieldLink RX1 31 "SkyAlmanac" "longitudesWorkedOut" "I", Cond.constantDouble RX1 249 (4602678819172646912), Cond.constantDouble RX1 251 (4611686018427387904), Cond.constantDouble RX1 253 (4652007308841189376), Cond.methodLink RX1 236 yX1_red, Cond.static yX1_red, Cond.code yX1_red cX1_red 4 (some .double)]
def wsX1_partOfCrossing_r2 : List Cond := [Cond.constantLong RX1 345 (360), Cond.constantDouble RX1 143 (4645040803167600640), Cond.methodLink RX1 239 yX1_anomalyOf, Cond.instanceMethod yX1_anomalyOf, Cond.selects RX1 yX1_anomalyOf yX1_anomalyOf, Cond.code yX1_anomalyOf cX1_anomalyOf 11 (some .double), Cond.classLink RX1 186 "java/lang/IllegalStateException", Cond.initialized "java/lang/IllegalStateException", Cond.constantDouble RX1 262 (13740701229962882445), Cond.constantDouble RX1 264 (4517329193108106637), Cond.fieldLink RX1 34 "SkyAlmanac" "longitudesFailed" "I", Cond.methodLink RX1 242 yX1_degreesInRadian, Cond.static yX1_degreesInRadian, Cond.code yX1_degreesInRadian cX1_degreesInRadian 0 (some .double), Cond.constantDouble RX1 365 (4633260481411531256), Cond.methodLink RX1 246 yX1_sine, Cond.static yX1_sine, Cond.code yX1_sine cX1_sine 2 (some .double), Cond.methodLink RX1 367 yX1_waveAt, Cond.static yX1_waveAt, Cond.code yX1_waveAt cX1_waveAt 15 (some .double), Cond.constantDouble RX1 206 (4636033603912859648), Cond.constantDouble RX1 371 (4580687790476533049), Cond.constantDouble RX1 373 (13818544856648471893)]
def wsX1_partOfCrossing_r3 : List Cond := [Cond.constantDouble RX1 375 (4575957461383581969), Cond.constantDouble RX1 377 (13774824197408792602), Cond.constantDouble RX1 379 (4523617214285662004), Cond.constantDouble RX1 381 (13826050856027422720), Cond.constantDouble RX1 383 (4586165620538955093), Cond.constantDouble RX1 385 (13787419979223755799), Cond.constantDouble RX1 387 (4537941361671905306), Cond.constantDouble RX1 389 (13732177094651715420), Cond.methodLink RX1 259 yX1_cosine, Cond.static yX1_cosine, Cond.code yX1_cosine cX1_cosine 2 (some .double), Cond.instanceMethod yX0_sumOfPower, Cond.initialized RX0, Cond.selects RX0 yX0_sumOfPower yX0_sumOfPower, Cond.code yX0_sumOfPower cX0_sumOfPower 7 (some .double), Cond.fieldLink RX0 25 "SkyAlmanac$Body" "terms" "I", Cond.fieldLink RX0 9 "SkyAlmanac$Body" "powers" "[I", Cond.fieldLink RX0 15 "SkyAlmanac$Body" "factors" "[D", Cond.fieldLink RX0 19 "SkyAlmanac$Body" "starts" "[D", Cond.fieldLink RX0 22 "SkyAlmanac$Body" "speeds" "[D", Cond.methodLink RX1 232 yX1_siderealAngle, Cond.static yX1_siderealAngle, Cond.code yX1_siderealAngle cX1_siderealAngle 2 (some .double), Cond.constantDouble RX1 272 (4643641531568107876)]
def wsX1_partOfCrossing_r4 : List Cond := [Cond.constantDouble RX1 274 (4607053141768361126)]
def wsX1_partOfCrossing : List Cond := .code yX1_partOfCrossing cX1_partOfCrossing 7 (some .int) :: ((wsX1_partOfCrossing_r1 ++ (wsX1_partOfCrossing_r2 ++ (wsX1_partOfCrossing_r3 ++ wsX1_partOfCrossing_r4))) ++ wsX10 ++ wsX00 ++ (vx_atS RX1 190 "java/lang/IllegalStateException" ["java/lang/RuntimeException", "java/lang/Exception"]).filter goodWord)
def wsX1_narrowedToCrossing_r1 : List Cond := [Cond.constantDouble RX1 251 (4611686018427387904), Cond.methodLink RX1 304 yX1_timeOfPart, Cond.static yX1_timeOfPart, Cond.initialized RX1, Cond.code yX1_timeOfPart cX1_timeOfPart 2 (some .double), Cond.constantDouble RX1 302 (4625196817309499392), Cond.methodLink RX1 229 yX1_heightOf, Cond.instanceMethod yX1_heightOf, Cond.selects RX1 yX1_heightOf yX1_heightOf, Cond.code yX1_heightOf cX1_heightOf 14 (some .double), Cond.constantDouble RX1 268 (4606439163290984179), Cond.constantDouble RX1 270 (4600837336122831769), Cond.fieldLink RX1 28 "SkyAlmanac" "eastward" "D", Cond.fieldLink RX1 24 "SkyAlmanac" "latitude" "D", Cond.methodLink RX1 225 yX1_longitudeOf, Cond.instanceMethod yX1_longitudeOf, Cond.selects RX1 yX1_longitudeOf yX1_longitudeOf, Cond.code yX1_longitudeOf cX1_longitudeOf 14 (some .double), Cond.fieldLink RX1 31 "SkyAlmanac" "longitudesWorkedOut" "I", Cond.constantDouble RX1 249 (4602678819172646912), Cond.constantDouble RX1 253 (4652007308841189376), Cond.methodLink RX1 236 yX1_red, Cond.static yX1_red, Cond.code yX1_red cX1_red 4 (some .double)]
def wsX1_narrowedToCrossing_r2 : List Cond := [Cond.constantLong RX1 345 (360), Cond.constantDouble RX1 143 (4645040803167600640), Cond.methodLink RX1 239 yX1_anomalyOf, Cond.instanceMethod yX1_anomalyOf, Cond.selects RX1 yX1_anomalyOf yX1_anomalyOf, Cond.code yX1_anomalyOf cX1_anomalyOf 11 (some .double), Cond.classLink RX1 186 "java/lang/IllegalStateException", Cond.initialized "java/lang/IllegalStateException", Cond.constantDouble RX1 262 (13740701229962882445), Cond.constantDouble RX1 264 (4517329193108106637), Cond.fieldLink RX1 34 "SkyAlmanac" "longitudesFailed" "I", Cond.methodLink RX1 242 yX1_degreesInRadian, Cond.static yX1_degreesInRadian, Cond.code yX1_degreesInRadian cX1_degreesInRadian 0 (some .double), Cond.constantDouble RX1 365 (4633260481411531256), Cond.methodLink RX1 246 yX1_sine, Cond.static yX1_sine, Cond.code yX1_sine cX1_sine 2 (some .double), Cond.methodLink RX1 367 yX1_waveAt, Cond.static yX1_waveAt, Cond.code yX1_waveAt cX1_waveAt 15 (some .double), Cond.constantDouble RX1 206 (4636033603912859648), Cond.constantDouble RX1 371 (4580687790476533049), Cond.constantDouble RX1 373 (13818544856648471893)]
def wsX1_narrowedToCrossing_r3 : List Cond := [Cond.constantDouble RX1 375 (4575957461383581969), Cond.constantDouble RX1 377 (13774824197408792602), Cond.constantDouble RX1 379 (4523617214285662004), Cond.constantDouble RX1 381 (13826050856027422720), Cond.constantDouble RX1 383 (4586165620538955093), Cond.constantDouble RX1 385 (13787419979223755799), Cond.constantDouble RX1 387 (4537941361671905306), Cond.constantDouble RX1 389 (13732177094651715420), Cond.methodLink RX1 259 yX1_cosine, Cond.static yX1_cosine, Cond.code yX1_cosine cX1_cosine 2 (some .double), Cond.instanceMethod yX0_sumOfPower, Cond.initialized RX0, Cond.selects RX0 yX0_sumOfPower yX0_sumOfPower, Cond.code yX0_sumOfPower cX0_sumOfPower 7 (some .double), Cond.fieldLink RX0 25 "SkyAlmanac$Body" "terms" "I", Cond.fieldLink RX0 9 "SkyAlmanac$Body" "powers" "[I", Cond.fieldLink RX0 15 "SkyAlmanac$Body" "factors" "[D", Cond.fieldLink RX0 19 "SkyAlmanac$Body" "starts" "[D", Cond.fieldLink RX0 22 "SkyAlmanac$Body" "speeds" "[D", Cond.methodLink RX1 232 yX1_siderealAngle, Cond.static yX1_siderealAngle, Cond.code yX1_siderealAngle cX1_siderealAngle 2 (some .double), Cond.constantDouble RX1 272 (4643641531568107876)]
def wsX1_narrowedToCrossing_r4 : List Cond := [Cond.constantDouble RX1 274 (4607053141768361126)]
def wsX1_narrowedToCrossing : List Cond := .code yX1_narrowedToCrossing cX1_narrowedToCrossing 12 (some .double) :: ((wsX1_narrowedToCrossing_r1 ++ (wsX1_narrowedToCrossing_r2 ++ (wsX1_narrowedToCrossing_r3 ++ wsX1_narrowedToCrossing_r4))) ++ wsX10 ++ wsX00 ++ (vx_atS RX1 190 "java/lang/IllegalStateException" ["java/lang/RuntimeException", "java/lang/Exception"]).filter goodWord)
def wsX1_event_r1 : List Cond := [Cond.classLink RX1 43 "java/lang/IllegalArgumentException", Cond.initialized "java/lang/IllegalArgumentException", Cond.classLink RX1 214 "java/util/NoSuchElementException", Cond.initialized "java/util/NoSuchElementException", Cond.constantLong RX1 37 (2), Cond.constantLong RX1 278 (-999999), Cond.constantLong RX1 280 (999998), Cond.methodLink RX1 39 yX1_isWholeWithin, Cond.static yX1_isWholeWithin, Cond.initialized RX1, Cond.code yX1_isWholeWithin cX1_isWholeWithin 6 (some .boolean), Cond.methodLink RX1 173 yX1_bodyThatIsSet, Cond.instanceMethod yX1_bodyThatIsSet, Cond.selects RX1 yX1_bodyThatIsSet yX1_bodyThatIsSet, Cond.code yX1_bodyThatIsSet cX1_bodyThatIsSet 2 (some (.object "SkyAlmanac$Body")), Cond.fieldLink RX1 11 "SkyAlmanac" "bodies" "[LSkyAlmanac$Body;", Cond.methodLink RX1 284 yX1_partOfGreatestHeight, Cond.instanceMethod yX1_partOfGreatestHeight, Cond.selects RX1 yX1_partOfGreatestHeight yX1_partOfGreatestHeight, Cond.code yX1_partOfGreatestHeight cX1_partOfGreatestHeight 9 (some .int), Cond.methodLink RX1 304 yX1_timeOfPart, Cond.static yX1_timeOfPart, Cond.code yX1_timeOfPart cX1_timeOfPart 2 (some .double), Cond.constantDouble RX1 302 (4625196817309499392)]
def wsX1_event_r2 : List Cond := [Cond.methodLink RX1 229 yX1_heightOf, Cond.instanceMethod yX1_heightOf, Cond.selects RX1 yX1_heightOf yX1_heightOf, Cond.code yX1_heightOf cX1_heightOf 14 (some .double), Cond.constantDouble RX1 268 (4606439163290984179), Cond.constantDouble RX1 270 (4600837336122831769), Cond.fieldLink RX1 28 "SkyAlmanac" "eastward" "D", Cond.fieldLink RX1 24 "SkyAlmanac" "latitude" "D", Cond.methodLink RX1 225 yX1_longitudeOf, Cond.instanceMethod yX1_longitudeOf, Cond.selects RX1 yX1_longitudeOf yX1_longitudeOf, Cond.code yX1_longitudeOf cX1_longitudeOf 14 (some .double), Cond.fieldLink RX1 31 "SkyAlmanac" "longitudesWorkedOut" "I", Cond.constantDouble RX1 249 (4602678819172646912), Cond.constantDouble RX1 251 (4611686018427387904), Cond.constantDouble RX1 253 (4652007308841189376), Cond.methodLink RX1 236 yX1_red, Cond.static yX1_red, Cond.code yX1_red cX1_red 4 (some .double), Cond.constantLong RX1 345 (360), Cond.constantDouble RX1 143 (4645040803167600640), Cond.methodLink RX1 239 yX1_anomalyOf, Cond.instanceMethod yX1_anomalyOf, Cond.selects RX1 yX1_anomalyOf yX1_anomalyOf]
def wsX1_event_r3 : List Cond := [Cond.code yX1_anomalyOf cX1_anomalyOf 11 (some .double), Cond.classLink RX1 186 "java/lang/IllegalStateException", Cond.initialized "java/lang/IllegalStateException", Cond.constantDouble RX1 262 (13740701229962882445), Cond.constantDouble RX1 264 (4517329193108106637), Cond.fieldLink RX1 34 "SkyAlmanac" "longitudesFailed" "I", Cond.methodLink RX1 242 yX1_degreesInRadian, Cond.static yX1_degreesInRadian, Cond.code yX1_degreesInRadian cX1_degreesInRadian 0 (some .double), Cond.constantDouble RX1 365 (4633260481411531256), Cond.methodLink RX1 246 yX1_sine, Cond.static yX1_sine, Cond.code yX1_sine cX1_sine 2 (some .double), Cond.methodLink RX1 367 yX1_waveAt, Cond.static yX1_waveAt, Cond.code yX1_waveAt cX1_waveAt 15 (some .double), Cond.constantDouble RX1 206 (4636033603912859648), Cond.constantDouble RX1 371 (4580687790476533049), Cond.constantDouble RX1 373 (13818544856648471893), Cond.constantDouble RX1 375 (4575957461383581969), Cond.constantDouble RX1 377 (13774824197408792602), Cond.constantDouble RX1 379 (4523617214285662004), Cond.constantDouble RX1 381 (13826050856027422720), Cond.constantDouble RX1 383 (4586165620538955093)]
def wsX1_event_r4 : List Cond := [Cond.constantDouble RX1 385 (13787419979223755799), Cond.constantDouble RX1 387 (4537941361671905306), Cond.constantDouble RX1 389 (13732177094651715420), Cond.methodLink RX1 259 yX1_cosine, Cond.static yX1_cosine, Cond.code yX1_cosine cX1_cosine 2 (some .double), Cond.instanceMethod yX0_sumOfPower, Cond.initialized RX0, Cond.selects RX0 yX0_sumOfPower yX0_sumOfPower, Cond.code yX0_sumOfPower cX0_sumOfPower 7 (some .double), Cond.fieldLink RX0 25 "SkyAlmanac$Body" "terms" "I", Cond.fieldLink RX0 9 "SkyAlmanac$Body" "powers" "[I", Cond.fieldLink RX0 15 "SkyAlmanac$Body" "factors" "[D", Cond.fieldLink RX0 19 "SkyAlmanac$Body" "starts" "[D", Cond.fieldLink RX0 22 "SkyAlmanac$Body" "speeds" "[D", Cond.methodLink RX1 232 yX1_siderealAngle, Cond.static yX1_siderealAngle, Cond.code yX1_siderealAngle cX1_siderealAngle 2 (some .double), Cond.constantDouble RX1 272 (4643641531568107876), Cond.constantDouble RX1 274 (4607053141768361126), Cond.methodLink RX1 288 yX1_narrowedToHighest, Cond.instanceMethod yX1_narrowedToHighest, Cond.selects RX1 yX1_narrowedToHighest yX1_narrowedToHighest, Cond.code yX1_narrowedToHighest cX1_narrowedToHighest 17 (some .double)]
def wsX1_event_r5 : List Cond := [Cond.constantDouble RX1 308 (4613937818241073152), Cond.methodLink RX1 292 yX1_partOfCrossing, Cond.instanceMethod yX1_partOfCrossing, Cond.selects RX1 yX1_partOfCrossing yX1_partOfCrossing, Cond.code yX1_partOfCrossing cX1_partOfCrossing 7 (some .int), Cond.methodLink RX1 298 yX1_narrowedToCrossing, Cond.instanceMethod yX1_narrowedToCrossing, Cond.selects RX1 yX1_narrowedToCrossing yX1_narrowedToCrossing, Cond.code yX1_narrowedToCrossing cX1_narrowedToCrossing 12 (some .double)]
def wsX1_event : List Cond := .code yX1_event cX1_event 7 (some .double) :: ((wsX1_event_r1 ++ (wsX1_event_r2 ++ (wsX1_event_r3 ++ (wsX1_event_r4 ++ wsX1_event_r5)))) ++ wsX10 ++ wsX00 ++ (vx_atS RX1 47 "java/lang/IllegalArgumentException" ["java/lang/RuntimeException", "java/lang/Exception"]).filter goodWord ++ (vx_atS RX1 218 "java/util/NoSuchElementException" ["java/lang/RuntimeException", "java/lang/Exception"]).filter goodWord ++ (vx_atS RX1 190 "java/lang/IllegalStateException" ["java/lang/RuntimeException", "java/lang/Exception"]).filter goodWord)
def wsX1_tenToThe : List Cond := .code yX1_tenToThe cX1_tenToThe 1 (some .long) :: ([.fieldLink RX1 353 "SkyAlmanac" "TENS" "[J"])
def wsX1_wholeParts : List Cond := .code yX1_wholeParts cX1_wholeParts 4 (some .long) :: ([])
def wsX1_put : List Cond := .code yX1_put cX1_put 2 none :: ([.fieldLink RX1 20 "SkyAlmanac" "writtenLength" "I", .fieldLink RX1 16 "SkyAlmanac" "written" "[C"] ++ wsX10)
def wsX1_putNumber : List Cond := .code yX1_putNumber cX1_putNumber 5 none :: ([.fieldLink RX1 353 "SkyAlmanac" "TENS" "[J", .constantLong RX1 357 (48), .constantLong RX1 359 (10), .methodLink RX1 326 yX1_wholeParts, .static yX1_wholeParts, .initialized RX1, .code yX1_wholeParts cX1_wholeParts 4 (some .long), .methodLink RX1 329 yX1_put, .instanceMethod yX1_put, .selects RX1 yX1_put yX1_put, .code yX1_put cX1_put 2 none, .fieldLink RX1 20 "SkyAlmanac" "writtenLength" "I", .fieldLink RX1 16 "SkyAlmanac" "written" "[C"] ++ wsX10)
def wsX1_write_r1 : List Cond := [Cond.classLink RX1 43 "java/lang/IllegalArgumentException", Cond.initialized "java/lang/IllegalArgumentException", Cond.constantDouble RX1 310 (13904980397738950656), Cond.constantDouble RX1 312 (4681608360884174848), Cond.constantLong RX1 316 (4), Cond.constantDouble RX1 324 (4660134898793709568), Cond.constantDouble RX1 249 (4602678819172646912), Cond.fieldLink RX1 20 "SkyAlmanac" "writtenLength" "I", Cond.constantLong RX1 333 (3600), Cond.constantLong RX1 339 (60), Cond.methodLink RX1 145 yX1_isWithin, Cond.static yX1_isWithin, Cond.initialized RX1, Cond.code yX1_isWithin cX1_isWithin 6 (some .boolean), Cond.methodLink RX1 39 yX1_isWholeWithin, Cond.static yX1_isWholeWithin, Cond.code yX1_isWholeWithin cX1_isWholeWithin 6 (some .boolean), Cond.methodLink RX1 320 yX1_tenToThe, Cond.static yX1_tenToThe, Cond.code yX1_tenToThe cX1_tenToThe 1 (some .long), Cond.fieldLink RX1 353 "SkyAlmanac" "TENS" "[J", Cond.methodLink RX1 326 yX1_wholeParts, Cond.static yX1_wholeParts, Cond.code yX1_wholeParts cX1_wholeParts 4 (some .long)]
def wsX1_write_r2 : List Cond := [Cond.methodLink RX1 329 yX1_put, Cond.instanceMethod yX1_put, Cond.selects RX1 yX1_put yX1_put, Cond.code yX1_put cX1_put 2 none, Cond.fieldLink RX1 16 "SkyAlmanac" "written" "[C", Cond.methodLink RX1 335 yX1_putNumber, Cond.instanceMethod yX1_putNumber, Cond.selects RX1 yX1_putNumber yX1_putNumber, Cond.code yX1_putNumber cX1_putNumber 5 none, Cond.constantLong RX1 357 (48), Cond.constantLong RX1 359 (10)]
def wsX1_write : List Cond := .code yX1_write cX1_write 12 (some .int) :: ((wsX1_write_r1 ++ wsX1_write_r2) ++ wsX10 ++ (vx_atS RX1 47 "java/lang/IllegalArgumentException" ["java/lang/RuntimeException", "java/lang/Exception"]).filter goodWord)
def wsX1_letter : List Cond := .code yX1_letter cX1_letter 2 (some .int) :: ([.classLink RX1 136 "java/lang/IndexOutOfBoundsException", .initialized "java/lang/IndexOutOfBoundsException", .fieldLink RX1 20 "SkyAlmanac" "writtenLength" "I", .fieldLink RX1 16 "SkyAlmanac" "written" "[C"] ++ wsX10 ++ (vx_atS RX1 140 "java/lang/IndexOutOfBoundsException" ["java/lang/RuntimeException", "java/lang/Exception"]).filter goodWord)
def wsX1_angle : List Cond := .code yX1_angle cX1_angle 6 (some .double) :: ([.classLink RX1 43 "java/lang/IllegalArgumentException", .initialized "java/lang/IllegalArgumentException", .constantLong RX1 345 (360), .constantLong RX1 347 (59), .constantDouble RX1 349 (4633641066610819072), .constantDouble RX1 324 (4660134898793709568), .methodLink RX1 39 yX1_isWholeWithin, .static yX1_isWholeWithin, .initialized RX1, .code yX1_isWholeWithin cX1_isWholeWithin 6 (some .boolean)] ++ (vx_atS RX1 47 "java/lang/IllegalArgumentException" ["java/lang/RuntimeException", "java/lang/Exception"]).filter goodWord)
def wsX2_init : List Cond := .code yX2_init cX2_init 1 none :: ([.methodLink RX2 1 objectInit, .instanceMethod objectInit, .code objectInit ⟨#[0xb1]⟩ 1 none, .arrayClass .boolean, .fieldLink RX2 7 "SkyAlmanacModel" "set" "[Z", .arrayClass .double, .fieldLink RX2 13 "SkyAlmanacModel" "orbits" "[D", .arrayClass .int, .fieldLink RX2 17 "SkyAlmanacModel" "terms" "[I", .fieldLink RX2 21 "SkyAlmanacModel" "powers" "[I", .fieldLink RX2 24 "SkyAlmanacModel" "waves" "[D", .fieldLink RX2 27 "SkyAlmanacModel" "written" "[I"] ++ wsX20)
def wsX2_thrown : List Cond := .code yX2_thrown cX2_thrown 1 (some .int) :: ([.fieldLink RX2 30 "SkyAlmanacModel" "thrown" "I"] ++ wsX20)
def wsX2_fail : List Cond := .code yX2_fail cX2_fail 2 (some .int) :: ([.fieldLink RX2 30 "SkyAlmanacModel" "thrown" "I"] ++ wsX20)
def wsX2_within : List Cond := .code yX2_within cX2_within 6 (some .boolean) :: ([])
def wsX2_floor : List Cond := .code yX2_floor cX2_floor 4 (some .long) :: ([])
def wsX2_before : List Cond := .code yX2_before cX2_before 5 (some .long) :: ([.constantLong RX2 34 (3), .constantLong RX2 36 (4), .constantLong RX2 42 (365), .constantLong RX2 44 (99), .constantLong RX2 46 (100), .constantLong RX2 48 (399), .constantLong RX2 50 (400), .methodLink RX2 38 yX2_floor, .static yX2_floor, .initialized RX2, .code yX2_floor cX2_floor 4 (some .long)])
def wsX2_leap : List Cond := .code yX2_leap cX2_leap 3 (some .boolean) :: ([.constantLong RX2 56 (366), .methodLink RX2 52 yX2_before, .static yX2_before, .initialized RX2, .code yX2_before cX2_before 5 (some .long), .constantLong RX2 34 (3), .constantLong RX2 36 (4), .constantLong RX2 42 (365), .constantLong RX2 44 (99), .constantLong RX2 46 (100), .constantLong RX2 48 (399), .constantLong RX2 50 (400), .methodLink RX2 38 yX2_floor, .static yX2_floor, .code yX2_floor cX2_floor 4 (some .long)])
def wsX2_length : List Cond := .code yX2_length cX2_length 4 (some .int) :: ([.methodLink RX2 58 yX2_leap, .static yX2_leap, .initialized RX2, .code yX2_leap cX2_leap 3 (some .boolean), .constantLong RX2 56 (366), .methodLink RX2 52 yX2_before, .static yX2_before, .code yX2_before cX2_before 5 (some .long), .constantLong RX2 34 (3), .constantLong RX2 36 (4), .constantLong RX2 42 (365), .constantLong RX2 44 (99), .constantLong RX2 46 (100), .constantLong RX2 48 (399), .constantLong RX2 50 (400), .methodLink RX2 38 yX2_floor, .static yX2_floor, .code yX2_floor cX2_floor 4 (some .long)])
def wsX2_newYear : List Cond := .code yX2_newYear cX2_newYear 3 (some .long) :: ([.constantLong RX2 62 (-4712), .constantLong RX2 64 (-4713), .constantLong RX2 66 (327), .methodLink RX2 52 yX2_before, .static yX2_before, .initialized RX2, .code yX2_before cX2_before 5 (some .long), .constantLong RX2 34 (3), .constantLong RX2 36 (4), .constantLong RX2 42 (365), .constantLong RX2 44 (99), .constantLong RX2 46 (100), .constantLong RX2 48 (399), .constantLong RX2 50 (400), .methodLink RX2 38 yX2_floor, .static yX2_floor, .code yX2_floor cX2_floor 4 (some .long)])
def wsX2_noDate : List Cond := .code yX2_noDate cX2_noDate 4 (some .boolean) :: ([.constant RX2 68 (-1000000), .constant RX2 69 (1000000), .methodLink RX2 70 yX2_length, .static yX2_length, .initialized RX2, .code yX2_length cX2_length 4 (some .int), .methodLink RX2 58 yX2_leap, .static yX2_leap, .code yX2_leap cX2_leap 3 (some .boolean), .constantLong RX2 56 (366), .methodLink RX2 52 yX2_before, .static yX2_before, .code yX2_before cX2_before 5 (some .long), .constantLong RX2 34 (3), .constantLong RX2 36 (4), .constantLong RX2 42 (365), .constantLong RX2 44 (99), .constantLong RX2 46 (100), .constantLong RX2 48 (399), .constantLong RX2 50 (400), .methodLink RX2 38 yX2_floor, .static yX2_floor, .code yX2_floor cX2_floor 4 (some .long)])
def wsX2_number_r1 : List Cond := [Cond.methodLink RX2 74 yX2_newYear, Cond.static yX2_newYear, Cond.initialized RX2, Cond.code yX2_newYear cX2_newYear 3 (some .long), Cond.constantLong RX2 62 (-4712), Cond.constantLong RX2 64 (-4713), Cond.constantLong RX2 66 (327), Cond.methodLink RX2 52 yX2_before, Cond.static yX2_before, Cond.code yX2_before cX2_before 5 (some .long), Cond.constantLong RX2 34 (3), Cond.constantLong RX2 36 (4), Cond.constantLong RX2 42 (365), Cond.constantLong RX2 44 (99), Cond.constantLong RX2 46 (100), Cond.constantLong RX2 48 (399), Cond.constantLong RX2 50 (400), Cond.methodLink RX2 38 yX2_floor, Cond.static yX2_floor, Cond.code yX2_floor cX2_floor 4 (some .long), Cond.methodLink RX2 70 yX2_length, Cond.static yX2_length, Cond.code yX2_length cX2_length 4 (some .int), Cond.methodLink RX2 58 yX2_leap]
def wsX2_number_r2 : List Cond := [Cond.static yX2_leap, Cond.code yX2_leap cX2_leap 3 (some .boolean), Cond.constantLong RX2 56 (366)]
def wsX2_number : List Cond := .code yX2_number cX2_number 7 (some .long) :: ((wsX2_number_r1 ++ wsX2_number_r2))
def wsX2_day_r1 : List Cond := [Cond.fieldLink RX2 30 "SkyAlmanacModel" "thrown" "I", Cond.constantLong RX2 81 (10000), Cond.constantLong RX2 46 (100), Cond.constantLong RX2 83 (15821004), Cond.constantLong RX2 85 (15821015), Cond.methodLink RX2 77 yX2_fail, Cond.instanceMethod yX2_fail, Cond.selects RX2 yX2_fail yX2_fail, Cond.initialized RX2, Cond.code yX2_fail cX2_fail 2 (some .int), Cond.methodLink RX2 87 yX2_noDate, Cond.static yX2_noDate, Cond.code yX2_noDate cX2_noDate 4 (some .boolean), Cond.constant RX2 68 (-1000000), Cond.constant RX2 69 (1000000), Cond.methodLink RX2 70 yX2_length, Cond.static yX2_length, Cond.code yX2_length cX2_length 4 (some .int), Cond.methodLink RX2 58 yX2_leap, Cond.static yX2_leap, Cond.code yX2_leap cX2_leap 3 (some .boolean), Cond.constantLong RX2 56 (366), Cond.methodLink RX2 52 yX2_before, Cond.static yX2_before]
def wsX2_day_r2 : List Cond := [Cond.code yX2_before cX2_before 5 (some .long), Cond.constantLong RX2 34 (3), Cond.constantLong RX2 36 (4), Cond.constantLong RX2 42 (365), Cond.constantLong RX2 44 (99), Cond.constantLong RX2 48 (399), Cond.constantLong RX2 50 (400), Cond.methodLink RX2 38 yX2_floor, Cond.static yX2_floor, Cond.code yX2_floor cX2_floor 4 (some .long), Cond.methodLink RX2 91 yX2_number, Cond.static yX2_number, Cond.code yX2_number cX2_number 7 (some .long), Cond.methodLink RX2 74 yX2_newYear, Cond.static yX2_newYear, Cond.code yX2_newYear cX2_newYear 3 (some .long), Cond.constantLong RX2 62 (-4712), Cond.constantLong RX2 64 (-4713), Cond.constantLong RX2 66 (327)]
def wsX2_day : List Cond := .code yX2_day cX2_day 9 (some .long) :: ((wsX2_day_r1 ++ wsX2_day_r2) ++ wsX20)
def wsX2_yearOf : List Cond := .code yX2_yearOf cX2_yearOf 5 (some .long) :: ([.constantLong RX2 36 (4), .constantLong RX2 95 (1461), .constantLong RX2 97 (4713), .methodLink RX2 38 yX2_floor, .static yX2_floor, .initialized RX2, .code yX2_floor cX2_floor 4 (some .long), .methodLink RX2 74 yX2_newYear, .static yX2_newYear, .code yX2_newYear cX2_newYear 3 (some .long), .constantLong RX2 62 (-4712), .constantLong RX2 64 (-4713), .constantLong RX2 66 (327), .methodLink RX2 52 yX2_before, .static yX2_before, .code yX2_before cX2_before 5 (some .long), .constantLong RX2 34 (3), .constantLong RX2 42 (365), .constantLong RX2 44 (99), .constantLong RX2 46 (100), .constantLong RX2 48 (399), .constantLong RX2 50 (400)])
def wsX2_date_r1 : List Cond := [Cond.fieldLink RX2 30 "SkyAlmanacModel" "thrown" "I", Cond.constantLong RX2 99 (-400000000), Cond.constantLong RX2 101 (400000000), Cond.constantLong RX2 103 (2299161), Cond.constantLong RX2 108 (-1000000), Cond.constantLong RX2 110 (1000000), Cond.constantLong RX2 112 (1582), Cond.methodLink RX2 77 yX2_fail, Cond.instanceMethod yX2_fail, Cond.selects RX2 yX2_fail yX2_fail, Cond.initialized RX2, Cond.code yX2_fail cX2_fail 2 (some .int), Cond.methodLink RX2 105 yX2_yearOf, Cond.static yX2_yearOf, Cond.code yX2_yearOf cX2_yearOf 5 (some .long), Cond.constantLong RX2 36 (4), Cond.constantLong RX2 95 (1461), Cond.constantLong RX2 97 (4713), Cond.methodLink RX2 38 yX2_floor, Cond.static yX2_floor, Cond.code yX2_floor cX2_floor 4 (some .long), Cond.methodLink RX2 74 yX2_newYear, Cond.static yX2_newYear, Cond.code yX2_newYear cX2_newYear 3 (some .long)]
def wsX2_date_r2 : List Cond := [Cond.constantLong RX2 62 (-4712), Cond.constantLong RX2 64 (-4713), Cond.constantLong RX2 66 (327), Cond.methodLink RX2 52 yX2_before, Cond.static yX2_before, Cond.code yX2_before cX2_before 5 (some .long), Cond.constantLong RX2 34 (3), Cond.constantLong RX2 42 (365), Cond.constantLong RX2 44 (99), Cond.constantLong RX2 46 (100), Cond.constantLong RX2 48 (399), Cond.constantLong RX2 50 (400), Cond.methodLink RX2 70 yX2_length, Cond.static yX2_length, Cond.code yX2_length cX2_length 4 (some .int), Cond.methodLink RX2 58 yX2_leap, Cond.static yX2_leap, Cond.code yX2_leap cX2_leap 3 (some .boolean), Cond.constantLong RX2 56 (366)]
def wsX2_date : List Cond := .code yX2_date cX2_date 12 (some .int) :: ((wsX2_date_r1 ++ wsX2_date_r2) ++ wsX20)
def wsX2_easter_r1 : List Cond := [Cond.fieldLink RX2 30 "SkyAlmanacModel" "thrown" "I", Cond.methodLink RX2 77 yX2_fail, Cond.instanceMethod yX2_fail, Cond.selects RX2 yX2_fail yX2_fail, Cond.initialized RX2, Cond.code yX2_fail cX2_fail 2 (some .int), Cond.methodLink RX2 91 yX2_number, Cond.static yX2_number, Cond.code yX2_number cX2_number 7 (some .long), Cond.methodLink RX2 74 yX2_newYear, Cond.static yX2_newYear, Cond.code yX2_newYear cX2_newYear 3 (some .long), Cond.constantLong RX2 62 (-4712), Cond.constantLong RX2 64 (-4713), Cond.constantLong RX2 66 (327), Cond.methodLink RX2 52 yX2_before, Cond.static yX2_before, Cond.code yX2_before cX2_before 5 (some .long), Cond.constantLong RX2 34 (3), Cond.constantLong RX2 36 (4), Cond.constantLong RX2 42 (365), Cond.constantLong RX2 44 (99), Cond.constantLong RX2 46 (100), Cond.constantLong RX2 48 (399)]
def wsX2_easter_r2 : List Cond := [Cond.constantLong RX2 50 (400), Cond.methodLink RX2 38 yX2_floor, Cond.static yX2_floor, Cond.code yX2_floor cX2_floor 4 (some .long), Cond.methodLink RX2 70 yX2_length, Cond.static yX2_length, Cond.code yX2_length cX2_length 4 (some .int), Cond.methodLink RX2 58 yX2_leap, Cond.static yX2_leap, Cond.code yX2_leap cX2_leap 3 (some .boolean), Cond.constantLong RX2 56 (366)]
def wsX2_easter : List Cond := .code yX2_easter cX2_easter 7 (some .long) :: ((wsX2_easter_r1 ++ wsX2_easter_r2) ++ wsX20)
def wsX2_red : List Cond := .code yX2_red cX2_red 6 (some .double) :: ([.constantDouble RX2 114 (4645040803167600640)])
def wsX2_wave : List Cond := .code yX2_wave cX2_wave 17 (some .double) :: ([.constantDouble RX2 120 (4636033603912859648), .constantDouble RX2 122 (4602678819172646912), .constantDouble RX2 124 (4580687790476533049), .constantDouble RX2 126 (13818544856648471893), .constantDouble RX2 128 (4575957461383581969), .constantDouble RX2 130 (13774824197408792602), .constantDouble RX2 132 (4523617214285662004), .constantDouble RX2 134 (13826050856027422720), .constantDouble RX2 136 (4586165620538955093), .constantDouble RX2 138 (13787419979223755799), .constantDouble RX2 140 (4537941361671905306), .constantDouble RX2 142 (13732177094651715420), .constantLong RX2 36 (4), .constantLong RX2 144 (2), .methodLink RX2 116 yX2_red, .static yX2_red, .initialized RX2, .code yX2_red cX2_red 6 (some .double), .constantDouble RX2 114 (4645040803167600640)])
def wsX2_sine : List Cond := .code yX2_sine cX2_sine 2 (some .double) :: ([.methodLink RX2 146 yX2_wave, .static yX2_wave, .initialized RX2, .code yX2_wave cX2_wave 17 (some .double), .constantDouble RX2 120 (4636033603912859648), .constantDouble RX2 122 (4602678819172646912), .constantDouble RX2 124 (4580687790476533049), .constantDouble RX2 126 (13818544856648471893), .constantDouble RX2 128 (4575957461383581969), .constantDouble RX2 130 (13774824197408792602), .constantDouble RX2 132 (4523617214285662004), .constantDouble RX2 134 (13826050856027422720), .constantDouble RX2 136 (4586165620538955093), .constantDouble RX2 138 (13787419979223755799), .constantDouble RX2 140 (4537941361671905306), .constantDouble RX2 142 (13732177094651715420), .constantLong RX2 36 (4), .constantLong RX2 144 (2), .methodLink RX2 116 yX2_red, .static yX2_red, .code yX2_red cX2_red 6 (some .double), .constantDouble RX2 114 (4645040803167600640)])
def wsX2_cosine : List Cond := .code yX2_cosine cX2_cosine 2 (some .double) :: ([.methodLink RX2 146 yX2_wave, .static yX2_wave, .initialized RX2, .code yX2_wave cX2_wave 17 (some .double), .constantDouble RX2 120 (4636033603912859648), .constantDouble RX2 122 (4602678819172646912), .constantDouble RX2 124 (4580687790476533049), .constantDouble RX2 126 (13818544856648471893), .constantDouble RX2 128 (4575957461383581969), .constantDouble RX2 130 (13774824197408792602), .constantDouble RX2 132 (4523617214285662004), .constantDouble RX2 134 (13826050856027422720), .constantDouble RX2 136 (4586165620538955093), .constantDouble RX2 138 (13787419979223755799), .constantDouble RX2 140 (4537941361671905306), .constantDouble RX2 142 (13732177094651715420), .constantLong RX2 36 (4), .constantLong RX2 144 (2), .methodLink RX2 116 yX2_red, .static yX2_red, .code yX2_red cX2_red 6 (some .double), .constantDouble RX2 114 (4645040803167600640)])
def wsX2_turned : List Cond := .code yX2_turned cX2_turned 4 (some .double) :: ([.constantDouble RX2 150 (4643641531568107876), .constantDouble RX2 152 (4607053141768361126), .constantDouble RX2 114 (4645040803167600640), .methodLink RX2 116 yX2_red, .static yX2_red, .initialized RX2, .code yX2_red cX2_red 6 (some .double)])
def wsX2_orbit : List Cond := .code yX2_orbit cX2_orbit 11 (some .boolean) :: ([.fieldLink RX2 30 "SkyAlmanacModel" "thrown" "I", .constantDouble RX2 154 (13868412840022376448), .constantDouble RX2 114 (4645040803167600640), .constantDouble RX2 160 (13860109328209412096), .constantDouble RX2 162 (4636737291354636288), .constantDouble RX2 164 (4604930618986332160), .fieldLink RX2 13 "SkyAlmanacModel" "orbits" "[D", .fieldLink RX2 7 "SkyAlmanacModel" "set" "[Z", .methodLink RX2 77 yX2_fail, .instanceMethod yX2_fail, .selects RX2 yX2_fail yX2_fail, .initialized RX2, .code yX2_fail cX2_fail 2 (some .int), .methodLink RX2 156 yX2_within, .static yX2_within, .code yX2_within cX2_within 6 (some .boolean)] ++ wsX20)
def wsX2_noBody : List Cond := .code yX2_noBody cX2_noBody 2 (some .boolean) :: ([.fieldLink RX2 7 "SkyAlmanacModel" "set" "[Z"] ++ wsX20)
def wsX2_term : List Cond := .code yX2_term cX2_term 10 (some .int) :: ([.fieldLink RX2 30 "SkyAlmanacModel" "thrown" "I", .constantDouble RX2 170 (13845191154443747328), .constantDouble RX2 172 (4621819117588971520), .constantDouble RX2 154 (13868412840022376448), .constantDouble RX2 114 (4645040803167600640), .constantDouble RX2 160 (13860109328209412096), .constantDouble RX2 162 (4636737291354636288), .fieldLink RX2 17 "SkyAlmanacModel" "terms" "[I", .fieldLink RX2 21 "SkyAlmanacModel" "powers" "[I", .fieldLink RX2 24 "SkyAlmanacModel" "waves" "[D", .methodLink RX2 166 yX2_noBody, .instanceMethod yX2_noBody, .selects RX2 yX2_noBody yX2_noBody, .initialized RX2, .code yX2_noBody cX2_noBody 2 (some .boolean), .fieldLink RX2 7 "SkyAlmanacModel" "set" "[Z", .methodLink RX2 77 yX2_fail, .instanceMethod yX2_fail, .selects RX2 yX2_fail yX2_fail, .code yX2_fail cX2_fail 2 (some .int), .methodLink RX2 156 yX2_within, .static yX2_within, .code yX2_within cX2_within 6 (some .boolean)] ++ wsX20)
def wsX2_observer : List Cond := .code yX2_observer cX2_observer 6 (some .boolean) :: ([.fieldLink RX2 30 "SkyAlmanacModel" "thrown" "I", .constantDouble RX2 174 (13859405640767635456), .constantDouble RX2 120 (4636033603912859648), .constantDouble RX2 176 (13863909240395005952), .constantDouble RX2 178 (4640537203540230144), .fieldLink RX2 180 "SkyAlmanacModel" "latitude" "D", .fieldLink RX2 184 "SkyAlmanacModel" "east" "D", .methodLink RX2 156 yX2_within, .static yX2_within, .initialized RX2, .code yX2_within cX2_within 6 (some .boolean), .methodLink RX2 77 yX2_fail, .instanceMethod yX2_fail, .selects RX2 yX2_fail yX2_fail, .code yX2_fail cX2_fail 2 (some .int)] ++ wsX20)
def wsX2_sum_r1 : List Cond := [Cond.fieldLink RX2 17 "SkyAlmanacModel" "terms" "[I", Cond.fieldLink RX2 21 "SkyAlmanacModel" "powers" "[I", Cond.fieldLink RX2 24 "SkyAlmanacModel" "waves" "[D", Cond.methodLink RX2 187 yX2_cosine, Cond.static yX2_cosine, Cond.initialized RX2, Cond.code yX2_cosine cX2_cosine 2 (some .double), Cond.methodLink RX2 146 yX2_wave, Cond.static yX2_wave, Cond.code yX2_wave cX2_wave 17 (some .double), Cond.constantDouble RX2 120 (4636033603912859648), Cond.constantDouble RX2 122 (4602678819172646912), Cond.constantDouble RX2 124 (4580687790476533049), Cond.constantDouble RX2 126 (13818544856648471893), Cond.constantDouble RX2 128 (4575957461383581969), Cond.constantDouble RX2 130 (13774824197408792602), Cond.constantDouble RX2 132 (4523617214285662004), Cond.constantDouble RX2 134 (13826050856027422720), Cond.constantDouble RX2 136 (4586165620538955093), Cond.constantDouble RX2 138 (13787419979223755799), Cond.constantDouble RX2 140 (4537941361671905306), Cond.constantDouble RX2 142 (13732177094651715420), Cond.constantLong RX2 36 (4), Cond.constantLong RX2 144 (2)]
def wsX2_sum_r2 : List Cond := [Cond.methodLink RX2 116 yX2_red, Cond.static yX2_red, Cond.code yX2_red cX2_red 6 (some .double), Cond.constantDouble RX2 114 (4645040803167600640)]
def wsX2_sum : List Cond := .code yX2_sum cX2_sum 8 (some .double) :: ((wsX2_sum_r1 ++ wsX2_sum_r2) ++ wsX20)
def wsX2_along_r1 : List Cond := [Cond.fieldLink RX2 13 "SkyAlmanacModel" "orbits" "[D", Cond.constantDouble RX2 190 (4633260481411531256), Cond.constantDouble RX2 195 (13740701229962882445), Cond.constantDouble RX2 197 (4517329193108106637), Cond.fieldLink RX2 199 "SkyAlmanacModel" "worked" "I", Cond.fieldLink RX2 202 "SkyAlmanacModel" "failed" "Z", Cond.fieldLink RX2 206 "SkyAlmanacModel" "failures" "I", Cond.constantDouble RX2 122 (4602678819172646912), Cond.constantDouble RX2 209 (4611686018427387904), Cond.constantDouble RX2 211 (4652007308841189376), Cond.methodLink RX2 116 yX2_red, Cond.static yX2_red, Cond.initialized RX2, Cond.code yX2_red cX2_red 6 (some .double), Cond.constantDouble RX2 114 (4645040803167600640), Cond.methodLink RX2 192 yX2_sine, Cond.static yX2_sine, Cond.code yX2_sine cX2_sine 2 (some .double), Cond.methodLink RX2 146 yX2_wave, Cond.static yX2_wave, Cond.code yX2_wave cX2_wave 17 (some .double), Cond.constantDouble RX2 120 (4636033603912859648), Cond.constantDouble RX2 124 (4580687790476533049), Cond.constantDouble RX2 126 (13818544856648471893)]
def wsX2_along_r2 : List Cond := [Cond.constantDouble RX2 128 (4575957461383581969), Cond.constantDouble RX2 130 (13774824197408792602), Cond.constantDouble RX2 132 (4523617214285662004), Cond.constantDouble RX2 134 (13826050856027422720), Cond.constantDouble RX2 136 (4586165620538955093), Cond.constantDouble RX2 138 (13787419979223755799), Cond.constantDouble RX2 140 (4537941361671905306), Cond.constantDouble RX2 142 (13732177094651715420), Cond.constantLong RX2 36 (4), Cond.constantLong RX2 144 (2), Cond.methodLink RX2 187 yX2_cosine, Cond.static yX2_cosine, Cond.code yX2_cosine cX2_cosine 2 (some .double), Cond.methodLink RX2 213 yX2_sum, Cond.instanceMethod yX2_sum, Cond.selects RX2 yX2_sum yX2_sum, Cond.code yX2_sum cX2_sum 8 (some .double), Cond.fieldLink RX2 17 "SkyAlmanacModel" "terms" "[I", Cond.fieldLink RX2 21 "SkyAlmanacModel" "powers" "[I", Cond.fieldLink RX2 24 "SkyAlmanacModel" "waves" "[D"]
def wsX2_along : List Cond := .code yX2_along cX2_along 17 (some .double) :: ((wsX2_along_r1 ++ wsX2_along_r2) ++ wsX20)
def wsX2_above_r1 : List Cond := [Cond.constantDouble RX2 221 (4606439163290984179), Cond.constantDouble RX2 223 (4600837336122831769), Cond.fieldLink RX2 184 "SkyAlmanacModel" "east" "D", Cond.fieldLink RX2 180 "SkyAlmanacModel" "latitude" "D", Cond.methodLink RX2 217 yX2_along, Cond.instanceMethod yX2_along, Cond.selects RX2 yX2_along yX2_along, Cond.initialized RX2, Cond.code yX2_along cX2_along 17 (some .double), Cond.fieldLink RX2 13 "SkyAlmanacModel" "orbits" "[D", Cond.constantDouble RX2 190 (4633260481411531256), Cond.constantDouble RX2 195 (13740701229962882445), Cond.constantDouble RX2 197 (4517329193108106637), Cond.fieldLink RX2 199 "SkyAlmanacModel" "worked" "I", Cond.fieldLink RX2 202 "SkyAlmanacModel" "failed" "Z", Cond.fieldLink RX2 206 "SkyAlmanacModel" "failures" "I", Cond.constantDouble RX2 122 (4602678819172646912), Cond.constantDouble RX2 209 (4611686018427387904), Cond.constantDouble RX2 211 (4652007308841189376), Cond.methodLink RX2 116 yX2_red, Cond.static yX2_red, Cond.code yX2_red cX2_red 6 (some .double), Cond.constantDouble RX2 114 (4645040803167600640), Cond.methodLink RX2 192 yX2_sine]
def wsX2_above_r2 : List Cond := [Cond.static yX2_sine, Cond.code yX2_sine cX2_sine 2 (some .double), Cond.methodLink RX2 146 yX2_wave, Cond.static yX2_wave, Cond.code yX2_wave cX2_wave 17 (some .double), Cond.constantDouble RX2 120 (4636033603912859648), Cond.constantDouble RX2 124 (4580687790476533049), Cond.constantDouble RX2 126 (13818544856648471893), Cond.constantDouble RX2 128 (4575957461383581969), Cond.constantDouble RX2 130 (13774824197408792602), Cond.constantDouble RX2 132 (4523617214285662004), Cond.constantDouble RX2 134 (13826050856027422720), Cond.constantDouble RX2 136 (4586165620538955093), Cond.constantDouble RX2 138 (13787419979223755799), Cond.constantDouble RX2 140 (4537941361671905306), Cond.constantDouble RX2 142 (13732177094651715420), Cond.constantLong RX2 36 (4), Cond.constantLong RX2 144 (2), Cond.methodLink RX2 187 yX2_cosine, Cond.static yX2_cosine, Cond.code yX2_cosine cX2_cosine 2 (some .double), Cond.methodLink RX2 213 yX2_sum, Cond.instanceMethod yX2_sum, Cond.selects RX2 yX2_sum yX2_sum]
def wsX2_above_r3 : List Cond := [Cond.code yX2_sum cX2_sum 8 (some .double), Cond.fieldLink RX2 17 "SkyAlmanacModel" "terms" "[I", Cond.fieldLink RX2 21 "SkyAlmanacModel" "powers" "[I", Cond.fieldLink RX2 24 "SkyAlmanacModel" "waves" "[D", Cond.methodLink RX2 225 yX2_turned, Cond.static yX2_turned, Cond.code yX2_turned cX2_turned 4 (some .double), Cond.constantDouble RX2 150 (4643641531568107876), Cond.constantDouble RX2 152 (4607053141768361126)]
def wsX2_above : List Cond := .code yX2_above cX2_above 14 (some .double) :: ((wsX2_above_r1 ++ (wsX2_above_r2 ++ wsX2_above_r3)) ++ wsX20)
def wsX2_bar : List Cond := .code yX2_bar cX2_bar 4 (some .int) :: ([.constantDouble RX2 228 (13920209183539462144), .constantDouble RX2 230 (4696837146684686336), .methodLink RX2 166 yX2_noBody, .instanceMethod yX2_noBody, .selects RX2 yX2_noBody yX2_noBody, .initialized RX2, .code yX2_noBody cX2_noBody 2 (some .boolean), .fieldLink RX2 7 "SkyAlmanacModel" "set" "[Z", .methodLink RX2 156 yX2_within, .static yX2_within, .code yX2_within cX2_within 6 (some .boolean)] ++ wsX20)
def wsX2_longitude_r1 : List Cond := [Cond.fieldLink RX2 30 "SkyAlmanacModel" "thrown" "I", Cond.fieldLink RX2 202 "SkyAlmanacModel" "failed" "Z", Cond.methodLink RX2 232 yX2_bar, Cond.instanceMethod yX2_bar, Cond.selects RX2 yX2_bar yX2_bar, Cond.initialized RX2, Cond.code yX2_bar cX2_bar 4 (some .int), Cond.constantDouble RX2 228 (13920209183539462144), Cond.constantDouble RX2 230 (4696837146684686336), Cond.methodLink RX2 166 yX2_noBody, Cond.instanceMethod yX2_noBody, Cond.selects RX2 yX2_noBody yX2_noBody, Cond.code yX2_noBody cX2_noBody 2 (some .boolean), Cond.fieldLink RX2 7 "SkyAlmanacModel" "set" "[Z", Cond.methodLink RX2 156 yX2_within, Cond.static yX2_within, Cond.code yX2_within cX2_within 6 (some .boolean), Cond.methodLink RX2 217 yX2_along, Cond.instanceMethod yX2_along, Cond.selects RX2 yX2_along yX2_along, Cond.code yX2_along cX2_along 17 (some .double), Cond.fieldLink RX2 13 "SkyAlmanacModel" "orbits" "[D", Cond.constantDouble RX2 190 (4633260481411531256), Cond.constantDouble RX2 195 (13740701229962882445)]
def wsX2_longitude_r2 : List Cond := [Cond.constantDouble RX2 197 (4517329193108106637), Cond.fieldLink RX2 199 "SkyAlmanacModel" "worked" "I", Cond.fieldLink RX2 206 "SkyAlmanacModel" "failures" "I", Cond.constantDouble RX2 122 (4602678819172646912), Cond.constantDouble RX2 209 (4611686018427387904), Cond.constantDouble RX2 211 (4652007308841189376), Cond.methodLink RX2 116 yX2_red, Cond.static yX2_red, Cond.code yX2_red cX2_red 6 (some .double), Cond.constantDouble RX2 114 (4645040803167600640), Cond.methodLink RX2 192 yX2_sine, Cond.static yX2_sine, Cond.code yX2_sine cX2_sine 2 (some .double), Cond.methodLink RX2 146 yX2_wave, Cond.static yX2_wave, Cond.code yX2_wave cX2_wave 17 (some .double), Cond.constantDouble RX2 120 (4636033603912859648), Cond.constantDouble RX2 124 (4580687790476533049), Cond.constantDouble RX2 126 (13818544856648471893), Cond.constantDouble RX2 128 (4575957461383581969), Cond.constantDouble RX2 130 (13774824197408792602), Cond.constantDouble RX2 132 (4523617214285662004), Cond.constantDouble RX2 134 (13826050856027422720), Cond.constantDouble RX2 136 (4586165620538955093)]
def wsX2_longitude_r3 : List Cond := [Cond.constantDouble RX2 138 (13787419979223755799), Cond.constantDouble RX2 140 (4537941361671905306), Cond.constantDouble RX2 142 (13732177094651715420), Cond.constantLong RX2 36 (4), Cond.constantLong RX2 144 (2), Cond.methodLink RX2 187 yX2_cosine, Cond.static yX2_cosine, Cond.code yX2_cosine cX2_cosine 2 (some .double), Cond.methodLink RX2 213 yX2_sum, Cond.instanceMethod yX2_sum, Cond.selects RX2 yX2_sum yX2_sum, Cond.code yX2_sum cX2_sum 8 (some .double), Cond.fieldLink RX2 17 "SkyAlmanacModel" "terms" "[I", Cond.fieldLink RX2 21 "SkyAlmanacModel" "powers" "[I", Cond.fieldLink RX2 24 "SkyAlmanacModel" "waves" "[D"]
def wsX2_longitude : List Cond := .code yX2_longitude cX2_longitude 6 (some .double) :: ((wsX2_longitude_r1 ++ (wsX2_longitude_r2 ++ wsX2_longitude_r3)) ++ wsX20)
def wsX2_height_r1 : List Cond := [Cond.fieldLink RX2 30 "SkyAlmanacModel" "thrown" "I", Cond.fieldLink RX2 202 "SkyAlmanacModel" "failed" "Z", Cond.methodLink RX2 232 yX2_bar, Cond.instanceMethod yX2_bar, Cond.selects RX2 yX2_bar yX2_bar, Cond.initialized RX2, Cond.code yX2_bar cX2_bar 4 (some .int), Cond.constantDouble RX2 228 (13920209183539462144), Cond.constantDouble RX2 230 (4696837146684686336), Cond.methodLink RX2 166 yX2_noBody, Cond.instanceMethod yX2_noBody, Cond.selects RX2 yX2_noBody yX2_noBody, Cond.code yX2_noBody cX2_noBody 2 (some .boolean), Cond.fieldLink RX2 7 "SkyAlmanacModel" "set" "[Z", Cond.methodLink RX2 156 yX2_within, Cond.static yX2_within, Cond.code yX2_within cX2_within 6 (some .boolean), Cond.methodLink RX2 236 yX2_above, Cond.instanceMethod yX2_above, Cond.selects RX2 yX2_above yX2_above, Cond.code yX2_above cX2_above 14 (some .double), Cond.constantDouble RX2 221 (4606439163290984179), Cond.constantDouble RX2 223 (4600837336122831769), Cond.fieldLink RX2 184 "SkyAlmanacModel" "east" "D"]
def wsX2_height_r2 : List Cond := [Cond.fieldLink RX2 180 "SkyAlmanacModel" "latitude" "D", Cond.methodLink RX2 217 yX2_along, Cond.instanceMethod yX2_along, Cond.selects RX2 yX2_along yX2_along, Cond.code yX2_along cX2_along 17 (some .double), Cond.fieldLink RX2 13 "SkyAlmanacModel" "orbits" "[D", Cond.constantDouble RX2 190 (4633260481411531256), Cond.constantDouble RX2 195 (13740701229962882445), Cond.constantDouble RX2 197 (4517329193108106637), Cond.fieldLink RX2 199 "SkyAlmanacModel" "worked" "I", Cond.fieldLink RX2 206 "SkyAlmanacModel" "failures" "I", Cond.constantDouble RX2 122 (4602678819172646912), Cond.constantDouble RX2 209 (4611686018427387904), Cond.constantDouble RX2 211 (4652007308841189376), Cond.methodLink RX2 116 yX2_red, Cond.static yX2_red, Cond.code yX2_red cX2_red 6 (some .double), Cond.constantDouble RX2 114 (4645040803167600640), Cond.methodLink RX2 192 yX2_sine, Cond.static yX2_sine, Cond.code yX2_sine cX2_sine 2 (some .double), Cond.methodLink RX2 146 yX2_wave, Cond.static yX2_wave, Cond.code yX2_wave cX2_wave 17 (some .double)]
def wsX2_height_r3 : List Cond := [Cond.constantDouble RX2 120 (4636033603912859648), Cond.constantDouble RX2 124 (4580687790476533049), Cond.constantDouble RX2 126 (13818544856648471893), Cond.constantDouble RX2 128 (4575957461383581969), Cond.constantDouble RX2 130 (13774824197408792602), Cond.constantDouble RX2 132 (4523617214285662004), Cond.constantDouble RX2 134 (13826050856027422720), Cond.constantDouble RX2 136 (4586165620538955093), Cond.constantDouble RX2 138 (13787419979223755799), Cond.constantDouble RX2 140 (4537941361671905306), Cond.constantDouble RX2 142 (13732177094651715420), Cond.constantLong RX2 36 (4), Cond.constantLong RX2 144 (2), Cond.methodLink RX2 187 yX2_cosine, Cond.static yX2_cosine, Cond.code yX2_cosine cX2_cosine 2 (some .double), Cond.methodLink RX2 213 yX2_sum, Cond.instanceMethod yX2_sum, Cond.selects RX2 yX2_sum yX2_sum, Cond.code yX2_sum cX2_sum 8 (some .double), Cond.fieldLink RX2 17 "SkyAlmanacModel" "terms" "[I", Cond.fieldLink RX2 21 "SkyAlmanacModel" "powers" "[I", Cond.fieldLink RX2 24 "SkyAlmanacModel" "waves" "[D", Cond.methodLink RX2 225 yX2_turned]
def wsX2_height_r4 : List Cond := [Cond.static yX2_turned, Cond.code yX2_turned cX2_turned 4 (some .double), Cond.constantDouble RX2 150 (4643641531568107876), Cond.constantDouble RX2 152 (4607053141768361126)]
def wsX2_height : List Cond := .code yX2_height cX2_height 6 (some .double) :: ((wsX2_height_r1 ++ (wsX2_height_r2 ++ (wsX2_height_r3 ++ wsX2_height_r4))) ++ wsX20)
def wsX2_crossing_r1 : List Cond := [Cond.constantDouble RX2 209 (4611686018427387904), Cond.fieldLink RX2 202 "SkyAlmanacModel" "failed" "Z", Cond.methodLink RX2 236 yX2_above, Cond.instanceMethod yX2_above, Cond.selects RX2 yX2_above yX2_above, Cond.initialized RX2, Cond.code yX2_above cX2_above 14 (some .double), Cond.constantDouble RX2 221 (4606439163290984179), Cond.constantDouble RX2 223 (4600837336122831769), Cond.fieldLink RX2 184 "SkyAlmanacModel" "east" "D", Cond.fieldLink RX2 180 "SkyAlmanacModel" "latitude" "D", Cond.methodLink RX2 217 yX2_along, Cond.instanceMethod yX2_along, Cond.selects RX2 yX2_along yX2_along, Cond.code yX2_along cX2_along 17 (some .double), Cond.fieldLink RX2 13 "SkyAlmanacModel" "orbits" "[D", Cond.constantDouble RX2 190 (4633260481411531256), Cond.constantDouble RX2 195 (13740701229962882445), Cond.constantDouble RX2 197 (4517329193108106637), Cond.fieldLink RX2 199 "SkyAlmanacModel" "worked" "I", Cond.fieldLink RX2 206 "SkyAlmanacModel" "failures" "I", Cond.constantDouble RX2 122 (4602678819172646912), Cond.constantDouble RX2 211 (4652007308841189376), Cond.methodLink RX2 116 yX2_red]
def wsX2_crossing_r2 : List Cond := [Cond.static yX2_red, Cond.code yX2_red cX2_red 6 (some .double), Cond.constantDouble RX2 114 (4645040803167600640), Cond.methodLink RX2 192 yX2_sine, Cond.static yX2_sine, Cond.code yX2_sine cX2_sine 2 (some .double), Cond.methodLink RX2 146 yX2_wave, Cond.static yX2_wave, Cond.code yX2_wave cX2_wave 17 (some .double), Cond.constantDouble RX2 120 (4636033603912859648), Cond.constantDouble RX2 124 (4580687790476533049), Cond.constantDouble RX2 126 (13818544856648471893), Cond.constantDouble RX2 128 (4575957461383581969), Cond.constantDouble RX2 130 (13774824197408792602), Cond.constantDouble RX2 132 (4523617214285662004), Cond.constantDouble RX2 134 (13826050856027422720), Cond.constantDouble RX2 136 (4586165620538955093), Cond.constantDouble RX2 138 (13787419979223755799), Cond.constantDouble RX2 140 (4537941361671905306), Cond.constantDouble RX2 142 (13732177094651715420), Cond.constantLong RX2 36 (4), Cond.constantLong RX2 144 (2), Cond.methodLink RX2 187 yX2_cosine, Cond.static yX2_cosine]
def wsX2_crossing_r3 : List Cond := [Cond.code yX2_cosine cX2_cosine 2 (some .double), Cond.methodLink RX2 213 yX2_sum, Cond.instanceMethod yX2_sum, Cond.selects RX2 yX2_sum yX2_sum, Cond.code yX2_sum cX2_sum 8 (some .double), Cond.fieldLink RX2 17 "SkyAlmanacModel" "terms" "[I", Cond.fieldLink RX2 21 "SkyAlmanacModel" "powers" "[I", Cond.fieldLink RX2 24 "SkyAlmanacModel" "waves" "[D", Cond.methodLink RX2 225 yX2_turned, Cond.static yX2_turned, Cond.code yX2_turned cX2_turned 4 (some .double), Cond.constantDouble RX2 150 (4643641531568107876), Cond.constantDouble RX2 152 (4607053141768361126)]
def wsX2_crossing : List Cond := .code yX2_crossing cX2_crossing 17 (some .double) :: ((wsX2_crossing_r1 ++ (wsX2_crossing_r2 ++ wsX2_crossing_r3)) ++ wsX20)
def wsX2_passes_r1 : List Cond := [Cond.fieldLink RX2 202 "SkyAlmanacModel" "failed" "Z", Cond.constantDouble RX2 239 (4625196817309499392), Cond.fieldLink RX2 30 "SkyAlmanacModel" "thrown" "I", Cond.methodLink RX2 236 yX2_above, Cond.instanceMethod yX2_above, Cond.selects RX2 yX2_above yX2_above, Cond.initialized RX2, Cond.code yX2_above cX2_above 14 (some .double), Cond.constantDouble RX2 221 (4606439163290984179), Cond.constantDouble RX2 223 (4600837336122831769), Cond.fieldLink RX2 184 "SkyAlmanacModel" "east" "D", Cond.fieldLink RX2 180 "SkyAlmanacModel" "latitude" "D", Cond.methodLink RX2 217 yX2_along, Cond.instanceMethod yX2_along, Cond.selects RX2 yX2_along yX2_along, Cond.code yX2_along cX2_along 17 (some .double), Cond.fieldLink RX2 13 "SkyAlmanacModel" "orbits" "[D", Cond.constantDouble RX2 190 (4633260481411531256), Cond.constantDouble RX2 195 (13740701229962882445), Cond.constantDouble RX2 197 (4517329193108106637), Cond.fieldLink RX2 199 "SkyAlmanacModel" "worked" "I", Cond.fieldLink RX2 206 "SkyAlmanacModel" "failures" "I", Cond.constantDouble RX2 122 (4602678819172646912), Cond.constantDouble RX2 209 (4611686018427387904)]
def wsX2_passes_r2 : List Cond := [Cond.constantDouble RX2 211 (4652007308841189376), Cond.methodLink RX2 116 yX2_red, Cond.static yX2_red, Cond.code yX2_red cX2_red 6 (some .double), Cond.constantDouble RX2 114 (4645040803167600640), Cond.methodLink RX2 192 yX2_sine, Cond.static yX2_sine, Cond.code yX2_sine cX2_sine 2 (some .double), Cond.methodLink RX2 146 yX2_wave, Cond.static yX2_wave, Cond.code yX2_wave cX2_wave 17 (some .double), Cond.constantDouble RX2 120 (4636033603912859648), Cond.constantDouble RX2 124 (4580687790476533049), Cond.constantDouble RX2 126 (13818544856648471893), Cond.constantDouble RX2 128 (4575957461383581969), Cond.constantDouble RX2 130 (13774824197408792602), Cond.constantDouble RX2 132 (4523617214285662004), Cond.constantDouble RX2 134 (13826050856027422720), Cond.constantDouble RX2 136 (4586165620538955093), Cond.constantDouble RX2 138 (13787419979223755799), Cond.constantDouble RX2 140 (4537941361671905306), Cond.constantDouble RX2 142 (13732177094651715420), Cond.constantLong RX2 36 (4), Cond.constantLong RX2 144 (2)]
def wsX2_passes_r3 : List Cond := [Cond.methodLink RX2 187 yX2_cosine, Cond.static yX2_cosine, Cond.code yX2_cosine cX2_cosine 2 (some .double), Cond.methodLink RX2 213 yX2_sum, Cond.instanceMethod yX2_sum, Cond.selects RX2 yX2_sum yX2_sum, Cond.code yX2_sum cX2_sum 8 (some .double), Cond.fieldLink RX2 17 "SkyAlmanacModel" "terms" "[I", Cond.fieldLink RX2 21 "SkyAlmanacModel" "powers" "[I", Cond.fieldLink RX2 24 "SkyAlmanacModel" "waves" "[D", Cond.methodLink RX2 225 yX2_turned, Cond.static yX2_turned, Cond.code yX2_turned cX2_turned 4 (some .double), Cond.constantDouble RX2 150 (4643641531568107876), Cond.constantDouble RX2 152 (4607053141768361126), Cond.methodLink RX2 241 yX2_crossing, Cond.instanceMethod yX2_crossing, Cond.selects RX2 yX2_crossing yX2_crossing, Cond.code yX2_crossing cX2_crossing 17 (some .double), Cond.methodLink RX2 77 yX2_fail, Cond.instanceMethod yX2_fail, Cond.selects RX2 yX2_fail yX2_fail, Cond.code yX2_fail cX2_fail 2 (some .int)]
def wsX2_passes : List Cond := .code yX2_passes cX2_passes 12 (some .double) :: ((wsX2_passes_r1 ++ (wsX2_passes_r2 ++ wsX2_passes_r3)) ++ wsX20)
def wsX2_highest_r1 : List Cond := [Cond.fieldLink RX2 202 "SkyAlmanacModel" "failed" "Z", Cond.constantDouble RX2 239 (4625196817309499392), Cond.constantDouble RX2 245 (4613937818241073152), Cond.constantDouble RX2 209 (4611686018427387904), Cond.methodLink RX2 236 yX2_above, Cond.instanceMethod yX2_above, Cond.selects RX2 yX2_above yX2_above, Cond.initialized RX2, Cond.code yX2_above cX2_above 14 (some .double), Cond.constantDouble RX2 221 (4606439163290984179), Cond.constantDouble RX2 223 (4600837336122831769), Cond.fieldLink RX2 184 "SkyAlmanacModel" "east" "D", Cond.fieldLink RX2 180 "SkyAlmanacModel" "latitude" "D", Cond.methodLink RX2 217 yX2_along, Cond.instanceMethod yX2_along, Cond.selects RX2 yX2_along yX2_along, Cond.code yX2_along cX2_along 17 (some .double), Cond.fieldLink RX2 13 "SkyAlmanacModel" "orbits" "[D", Cond.constantDouble RX2 190 (4633260481411531256), Cond.constantDouble RX2 195 (13740701229962882445), Cond.constantDouble RX2 197 (4517329193108106637), Cond.fieldLink RX2 199 "SkyAlmanacModel" "worked" "I", Cond.fieldLink RX2 206 "SkyAlmanacModel" "failures" "I", Cond.constantDouble RX2 122 (4602678819172646912)]
def wsX2_highest_r2 : List Cond := [Cond.constantDouble RX2 211 (4652007308841189376), Cond.methodLink RX2 116 yX2_red, Cond.static yX2_red, Cond.code yX2_red cX2_red 6 (some .double), Cond.constantDouble RX2 114 (4645040803167600640), Cond.methodLink RX2 192 yX2_sine, Cond.static yX2_sine, Cond.code yX2_sine cX2_sine 2 (some .double), Cond.methodLink RX2 146 yX2_wave, Cond.static yX2_wave, Cond.code yX2_wave cX2_wave 17 (some .double), Cond.constantDouble RX2 120 (4636033603912859648), Cond.constantDouble RX2 124 (4580687790476533049), Cond.constantDouble RX2 126 (13818544856648471893), Cond.constantDouble RX2 128 (4575957461383581969), Cond.constantDouble RX2 130 (13774824197408792602), Cond.constantDouble RX2 132 (4523617214285662004), Cond.constantDouble RX2 134 (13826050856027422720), Cond.constantDouble RX2 136 (4586165620538955093), Cond.constantDouble RX2 138 (13787419979223755799), Cond.constantDouble RX2 140 (4537941361671905306), Cond.constantDouble RX2 142 (13732177094651715420), Cond.constantLong RX2 36 (4), Cond.constantLong RX2 144 (2)]
def wsX2_highest_r3 : List Cond := [Cond.methodLink RX2 187 yX2_cosine, Cond.static yX2_cosine, Cond.code yX2_cosine cX2_cosine 2 (some .double), Cond.methodLink RX2 213 yX2_sum, Cond.instanceMethod yX2_sum, Cond.selects RX2 yX2_sum yX2_sum, Cond.code yX2_sum cX2_sum 8 (some .double), Cond.fieldLink RX2 17 "SkyAlmanacModel" "terms" "[I", Cond.fieldLink RX2 21 "SkyAlmanacModel" "powers" "[I", Cond.fieldLink RX2 24 "SkyAlmanacModel" "waves" "[D", Cond.methodLink RX2 225 yX2_turned, Cond.static yX2_turned, Cond.code yX2_turned cX2_turned 4 (some .double), Cond.constantDouble RX2 150 (4643641531568107876), Cond.constantDouble RX2 152 (4607053141768361126), Cond.methodLink RX2 77 yX2_fail, Cond.instanceMethod yX2_fail, Cond.selects RX2 yX2_fail yX2_fail, Cond.code yX2_fail cX2_fail 2 (some .int), Cond.fieldLink RX2 30 "SkyAlmanacModel" "thrown" "I"]
def wsX2_highest : List Cond := .code yX2_highest cX2_highest 21 (some .double) :: ((wsX2_highest_r1 ++ (wsX2_highest_r2 ++ wsX2_highest_r3)) ++ wsX20)
def wsX2_event_r1 : List Cond := [Cond.fieldLink RX2 30 "SkyAlmanacModel" "thrown" "I", Cond.constant RX2 247 (-999999), Cond.constant RX2 248 (999998), Cond.methodLink RX2 77 yX2_fail, Cond.instanceMethod yX2_fail, Cond.selects RX2 yX2_fail yX2_fail, Cond.initialized RX2, Cond.code yX2_fail cX2_fail 2 (some .int), Cond.methodLink RX2 166 yX2_noBody, Cond.instanceMethod yX2_noBody, Cond.selects RX2 yX2_noBody yX2_noBody, Cond.code yX2_noBody cX2_noBody 2 (some .boolean), Cond.fieldLink RX2 7 "SkyAlmanacModel" "set" "[Z", Cond.methodLink RX2 249 yX2_highest, Cond.instanceMethod yX2_highest, Cond.selects RX2 yX2_highest yX2_highest, Cond.code yX2_highest cX2_highest 21 (some .double), Cond.fieldLink RX2 202 "SkyAlmanacModel" "failed" "Z", Cond.constantDouble RX2 239 (4625196817309499392), Cond.constantDouble RX2 245 (4613937818241073152), Cond.constantDouble RX2 209 (4611686018427387904), Cond.methodLink RX2 236 yX2_above, Cond.instanceMethod yX2_above, Cond.selects RX2 yX2_above yX2_above]
def wsX2_event_r2 : List Cond := [Cond.code yX2_above cX2_above 14 (some .double), Cond.constantDouble RX2 221 (4606439163290984179), Cond.constantDouble RX2 223 (4600837336122831769), Cond.fieldLink RX2 184 "SkyAlmanacModel" "east" "D", Cond.fieldLink RX2 180 "SkyAlmanacModel" "latitude" "D", Cond.methodLink RX2 217 yX2_along, Cond.instanceMethod yX2_along, Cond.selects RX2 yX2_along yX2_along, Cond.code yX2_along cX2_along 17 (some .double), Cond.fieldLink RX2 13 "SkyAlmanacModel" "orbits" "[D", Cond.constantDouble RX2 190 (4633260481411531256), Cond.constantDouble RX2 195 (13740701229962882445), Cond.constantDouble RX2 197 (4517329193108106637), Cond.fieldLink RX2 199 "SkyAlmanacModel" "worked" "I", Cond.fieldLink RX2 206 "SkyAlmanacModel" "failures" "I", Cond.constantDouble RX2 122 (4602678819172646912), Cond.constantDouble RX2 211 (4652007308841189376), Cond.methodLink RX2 116 yX2_red, Cond.static yX2_red, Cond.code yX2_red cX2_red 6 (some .double), Cond.constantDouble RX2 114 (4645040803167600640), Cond.methodLink RX2 192 yX2_sine, Cond.static yX2_sine, Cond.code yX2_sine cX2_sine 2 (some .double)]
def wsX2_event_r3 : List Cond := [Cond.methodLink RX2 146 yX2_wave, Cond.static yX2_wave, Cond.code yX2_wave cX2_wave 17 (some .double), Cond.constantDouble RX2 120 (4636033603912859648), Cond.constantDouble RX2 124 (4580687790476533049), Cond.constantDouble RX2 126 (13818544856648471893), Cond.constantDouble RX2 128 (4575957461383581969), Cond.constantDouble RX2 130 (13774824197408792602), Cond.constantDouble RX2 132 (4523617214285662004), Cond.constantDouble RX2 134 (13826050856027422720), Cond.constantDouble RX2 136 (4586165620538955093), Cond.constantDouble RX2 138 (13787419979223755799), Cond.constantDouble RX2 140 (4537941361671905306), Cond.constantDouble RX2 142 (13732177094651715420), Cond.constantLong RX2 36 (4), Cond.constantLong RX2 144 (2), Cond.methodLink RX2 187 yX2_cosine, Cond.static yX2_cosine, Cond.code yX2_cosine cX2_cosine 2 (some .double), Cond.methodLink RX2 213 yX2_sum, Cond.instanceMethod yX2_sum, Cond.selects RX2 yX2_sum yX2_sum, Cond.code yX2_sum cX2_sum 8 (some .double), Cond.fieldLink RX2 17 "SkyAlmanacModel" "terms" "[I"]
def wsX2_event_r4 : List Cond := [Cond.fieldLink RX2 21 "SkyAlmanacModel" "powers" "[I", Cond.fieldLink RX2 24 "SkyAlmanacModel" "waves" "[D", Cond.methodLink RX2 225 yX2_turned, Cond.static yX2_turned, Cond.code yX2_turned cX2_turned 4 (some .double), Cond.constantDouble RX2 150 (4643641531568107876), Cond.constantDouble RX2 152 (4607053141768361126), Cond.methodLink RX2 252 yX2_passes, Cond.instanceMethod yX2_passes, Cond.selects RX2 yX2_passes yX2_passes, Cond.code yX2_passes cX2_passes 12 (some .double), Cond.methodLink RX2 241 yX2_crossing, Cond.instanceMethod yX2_crossing, Cond.selects RX2 yX2_crossing yX2_crossing, Cond.code yX2_crossing cX2_crossing 17 (some .double)]
def wsX2_event : List Cond := .code yX2_event cX2_event 4 (some .double) :: ((wsX2_event_r1 ++ (wsX2_event_r2 ++ (wsX2_event_r3 ++ wsX2_event_r4))) ++ wsX20)
def wsX2_sidereal : List Cond := .code yX2_sidereal cX2_sidereal 3 (some .double) :: ([.fieldLink RX2 30 "SkyAlmanacModel" "thrown" "I", .constantDouble RX2 228 (13920209183539462144), .constantDouble RX2 230 (4696837146684686336), .methodLink RX2 156 yX2_within, .static yX2_within, .initialized RX2, .code yX2_within cX2_within 6 (some .boolean), .methodLink RX2 77 yX2_fail, .instanceMethod yX2_fail, .selects RX2 yX2_fail yX2_fail, .code yX2_fail cX2_fail 2 (some .int), .methodLink RX2 225 yX2_turned, .static yX2_turned, .code yX2_turned cX2_turned 4 (some .double), .constantDouble RX2 150 (4643641531568107876), .constantDouble RX2 152 (4607053141768361126), .constantDouble RX2 114 (4645040803167600640), .methodLink RX2 116 yX2_red, .static yX2_red, .code yX2_red cX2_red 6 (some .double)] ++ wsX20)
def wsX2_put : List Cond := .code yX2_put cX2_put 2 none :: ([.fieldLink RX2 27 "SkyAlmanacModel" "written" "[I", .fieldLink RX2 256 "SkyAlmanacModel" "letters" "I"] ++ wsX20)
def wsX2_digits : List Cond := .code yX2_digits cX2_digits 9 none :: ([.constantLong RX2 259 (10), .methodLink RX2 261 yX2_put, .instanceMethod yX2_put, .selects RX2 yX2_put yX2_put, .initialized RX2, .code yX2_put cX2_put 2 none, .fieldLink RX2 27 "SkyAlmanacModel" "written" "[I", .fieldLink RX2 256 "SkyAlmanacModel" "letters" "I"] ++ wsX20)
def wsX2_write_r1 : List Cond := [Cond.fieldLink RX2 30 "SkyAlmanacModel" "thrown" "I", Cond.constantDouble RX2 265 (13904980397738950656), Cond.constantDouble RX2 267 (4681608360884174848), Cond.constantDouble RX2 172 (4621819117588971520), Cond.constantLong RX2 259 (10), Cond.constantDouble RX2 269 (4660134898793709568), Cond.constantDouble RX2 122 (4602678819172646912), Cond.fieldLink RX2 256 "SkyAlmanacModel" "letters" "I", Cond.constantLong RX2 271 (3600), Cond.constantLong RX2 277 (60), Cond.methodLink RX2 156 yX2_within, Cond.static yX2_within, Cond.initialized RX2, Cond.code yX2_within cX2_within 6 (some .boolean), Cond.methodLink RX2 77 yX2_fail, Cond.instanceMethod yX2_fail, Cond.selects RX2 yX2_fail yX2_fail, Cond.code yX2_fail cX2_fail 2 (some .int), Cond.methodLink RX2 261 yX2_put, Cond.instanceMethod yX2_put, Cond.selects RX2 yX2_put yX2_put, Cond.code yX2_put cX2_put 2 none, Cond.fieldLink RX2 27 "SkyAlmanacModel" "written" "[I", Cond.methodLink RX2 273 yX2_digits]
def wsX2_write_r2 : List Cond := [Cond.instanceMethod yX2_digits, Cond.selects RX2 yX2_digits yX2_digits, Cond.code yX2_digits cX2_digits 9 none]
def wsX2_write : List Cond := .code yX2_write cX2_write 14 (some .int) :: ((wsX2_write_r1 ++ wsX2_write_r2) ++ wsX20)
def wsX2_letter : List Cond := .code yX2_letter cX2_letter 2 (some .int) :: ([.fieldLink RX2 30 "SkyAlmanacModel" "thrown" "I", .fieldLink RX2 256 "SkyAlmanacModel" "letters" "I", .fieldLink RX2 27 "SkyAlmanacModel" "written" "[I", .methodLink RX2 77 yX2_fail, .instanceMethod yX2_fail, .selects RX2 yX2_fail yX2_fail, .initialized RX2, .code yX2_fail cX2_fail 2 (some .int)] ++ wsX20)
def wsX2_angle : List Cond := .code yX2_angle cX2_angle 6 (some .double) :: ([.fieldLink RX2 30 "SkyAlmanacModel" "thrown" "I", .constantDouble RX2 279 (4633641066610819072), .constantDouble RX2 269 (4660134898793709568), .methodLink RX2 77 yX2_fail, .instanceMethod yX2_fail, .selects RX2 yX2_fail yX2_fail, .initialized RX2, .code yX2_fail cX2_fail 2 (some .int)] ++ wsX20)
def wsX2_count : List Cond := .code yX2_count cX2_count 2 (some .int) :: ([.fieldLink RX2 30 "SkyAlmanacModel" "thrown" "I", .fieldLink RX2 206 "SkyAlmanacModel" "failures" "I", .fieldLink RX2 199 "SkyAlmanacModel" "worked" "I"] ++ wsX20)
def wsL_day_r1 : List Cond := [Cond.classLink RL 13 "java/lang/IllegalArgumentException", Cond.methodLink RL 7 yX1_day, Cond.instanceMethod yX1_day, Cond.selects RX1 yX1_day yX1_day, Cond.initialized RX1, Cond.code yX1_day cX1_day 8 (some .long), Cond.classLink RX1 43 "java/lang/IllegalArgumentException", Cond.initialized "java/lang/IllegalArgumentException", Cond.constantLong RX1 37 (2), Cond.constantLong RX1 50 (-1000000), Cond.constantLong RX1 52 (1000000), Cond.constantLong RX1 56 (100), Cond.constantLong RX1 58 (15821004), Cond.constantLong RX1 73 (2299160), Cond.methodLink RX1 39 yX1_isWholeWithin, Cond.static yX1_isWholeWithin, Cond.code yX1_isWholeWithin cX1_isWholeWithin 6 (some .boolean), Cond.methodLink RX1 60 yX1_monthLength, Cond.static yX1_monthLength, Cond.code yX1_monthLength cX1_monthLength 4 (some .int), Cond.fieldLink RX1 110 "SkyAlmanac" "MONTH_LENGTHS" "[I", Cond.methodLink RX1 114 yX1_isLeap, Cond.static yX1_isLeap, Cond.code yX1_isLeap cX1_isLeap 2 (some .boolean)]
def wsL_day_r2 : List Cond := [Cond.methodLink RX1 66 yX1_firstDayOfYear, Cond.static yX1_firstDayOfYear, Cond.code yX1_firstDayOfYear cX1_firstDayOfYear 4 (some .long), Cond.constantLong RX1 118 (365), Cond.constantLong RX1 123 (1721058), Cond.constantLong RX1 125 (1721060), Cond.methodLink RX1 120 yJ9_floorDiv_7cf53, Cond.static yJ9_floorDiv_7cf53, Cond.initialized RJ9, Cond.code yJ9_floorDiv_7cf53 cJ9_floorDiv_7cf53 3 (some .int), Cond.methodLink RX1 70 yX1_daysBeforeMonth, Cond.static yX1_daysBeforeMonth, Cond.code yX1_daysBeforeMonth cX1_daysBeforeMonth 5 (some .int)]
def wsL_day : List Cond := .codeWith yL_day cL_day 7 (some .int) [(0, 13, 16, 13)] :: ((wsL_day_r1 ++ wsL_day_r2) ++ (vx_atS RX1 47 "java/lang/IllegalArgumentException" ["java/lang/RuntimeException", "java/lang/Exception"]).filter goodWord)
def wsL_date_r1 : List Cond := [Cond.classLink RL 13 "java/lang/IllegalArgumentException", Cond.methodLink RL 15 yX1_date, Cond.instanceMethod yX1_date, Cond.selects RX1 yX1_date yX1_date, Cond.initialized RX1, Cond.code yX1_date cX1_date 9 (some .int), Cond.classLink RX1 43 "java/lang/IllegalArgumentException", Cond.initialized "java/lang/IllegalArgumentException", Cond.constantLong RX1 37 (2), Cond.constantLong RX1 77 (-400000000), Cond.constantLong RX1 79 (400000000), Cond.constantLong RX1 83 (3), Cond.constantLong RX1 73 (2299160), Cond.constantLong RX1 50 (-1000000), Cond.constantLong RX1 52 (1000000), Cond.methodLink RX1 39 yX1_isWholeWithin, Cond.static yX1_isWholeWithin, Cond.code yX1_isWholeWithin cX1_isWholeWithin 6 (some .boolean), Cond.methodLink RX1 87 yX1_yearOfDay, Cond.static yX1_yearOfDay, Cond.code yX1_yearOfDay cX1_yearOfDay 8 (some .int), Cond.constantLong RX1 127 (146100), Cond.constantLong RX1 129 (146097), Cond.constantLong RX1 131 (400)]
def wsL_date_r2 : List Cond := [Cond.methodLink RX1 66 yX1_firstDayOfYear, Cond.static yX1_firstDayOfYear, Cond.code yX1_firstDayOfYear cX1_firstDayOfYear 4 (some .long), Cond.constantLong RX1 118 (365), Cond.constantLong RX1 123 (1721058), Cond.constantLong RX1 125 (1721060), Cond.methodLink RX1 120 yJ9_floorDiv_7cf53, Cond.static yJ9_floorDiv_7cf53, Cond.initialized RJ9, Cond.code yJ9_floorDiv_7cf53 cJ9_floorDiv_7cf53 3 (some .int), Cond.methodLink RX1 133 yJ9_floorDiv_f86c9, Cond.static yJ9_floorDiv_f86c9, Cond.code yJ9_floorDiv_f86c9 cJ9_floorDiv_f86c9 6 (some .long), Cond.methodLink RX1 93 yX1_monthOfDayWithinYear, Cond.static yX1_monthOfDayWithinYear, Cond.code yX1_monthOfDayWithinYear cX1_monthOfDayWithinYear 4 (some .int), Cond.fieldLink RX1 110 "SkyAlmanac" "MONTH_LENGTHS" "[I", Cond.methodLink RX1 70 yX1_daysBeforeMonth, Cond.static yX1_daysBeforeMonth, Cond.code yX1_daysBeforeMonth cX1_daysBeforeMonth 5 (some .int), Cond.methodLink RX1 60 yX1_monthLength, Cond.static yX1_monthLength, Cond.code yX1_monthLength cX1_monthLength 4 (some .int), Cond.methodLink RX1 114 yX1_isLeap]
def wsL_date_r3 : List Cond := [Cond.static yX1_isLeap, Cond.code yX1_isLeap cX1_isLeap 2 (some .boolean)]
def wsL_date : List Cond := .codeWith yL_date cL_date 7 (some .int) [(0, 13, 16, 13)] :: ((wsL_date_r1 ++ (wsL_date_r2 ++ wsL_date_r3)) ++ (vx_atS RX1 47 "java/lang/IllegalArgumentException" ["java/lang/RuntimeException", "java/lang/Exception"]).filter goodWord)
def wsL_easter_r1 : List Cond := [Cond.classLink RL 13 "java/lang/IllegalArgumentException", Cond.methodLink RL 19 yX1_easter, Cond.instanceMethod yX1_easter, Cond.selects RX1 yX1_easter yX1_easter, Cond.initialized RX1, Cond.code yX1_easter cX1_easter 11 (some .long), Cond.classLink RX1 43 "java/lang/IllegalArgumentException", Cond.initialized "java/lang/IllegalArgumentException", Cond.constantLong RX1 96 (1583), Cond.constantLong RX1 98 (9999), Cond.constantLong RX1 108 (28), Cond.methodLink RX1 39 yX1_isWholeWithin, Cond.static yX1_isWholeWithin, Cond.code yX1_isWholeWithin cX1_isWholeWithin 6 (some .boolean), Cond.methodLink RX1 102 yJ9_floorMod_7cf53, Cond.static yJ9_floorMod_7cf53, Cond.initialized RJ9, Cond.code yJ9_floorMod_7cf53 cJ9_floorMod_7cf53 3 (some .int), Cond.methodLink RX1 66 yX1_firstDayOfYear, Cond.static yX1_firstDayOfYear, Cond.code yX1_firstDayOfYear cX1_firstDayOfYear 4 (some .long), Cond.constantLong RX1 118 (365), Cond.constantLong RX1 123 (1721058), Cond.constantLong RX1 125 (1721060)]
def wsL_easter_r2 : List Cond := [Cond.methodLink RX1 120 yJ9_floorDiv_7cf53, Cond.static yJ9_floorDiv_7cf53, Cond.code yJ9_floorDiv_7cf53 cJ9_floorDiv_7cf53 3 (some .int), Cond.methodLink RX1 70 yX1_daysBeforeMonth, Cond.static yX1_daysBeforeMonth, Cond.code yX1_daysBeforeMonth cX1_daysBeforeMonth 5 (some .int), Cond.fieldLink RX1 110 "SkyAlmanac" "MONTH_LENGTHS" "[I", Cond.methodLink RX1 60 yX1_monthLength, Cond.static yX1_monthLength, Cond.code yX1_monthLength cX1_monthLength 4 (some .int), Cond.methodLink RX1 114 yX1_isLeap, Cond.static yX1_isLeap, Cond.code yX1_isLeap cX1_isLeap 2 (some .boolean)]
def wsL_easter : List Cond := .codeWith yL_easter cL_easter 4 (some .int) [(0, 8, 11, 13)] :: ((wsL_easter_r1 ++ wsL_easter_r2) ++ (vx_atS RX1 47 "java/lang/IllegalArgumentException" ["java/lang/RuntimeException", "java/lang/Exception"]).filter goodWord)
def wsL_orbit : List Cond := .codeWith yL_orbit cL_orbit 12 (some .int) [(0, 24, 27, 27), (0, 24, 31, 13)] :: ([.classLink RL 27 "java/lang/IndexOutOfBoundsException", .classLink RL 13 "java/lang/IllegalArgumentException", .methodLink RL 23 yX1_orbit, .instanceMethod yX1_orbit, .selects RX1 yX1_orbit yX1_orbit, .initialized RX1, .code yX1_orbit cX1_orbit 12 (some .boolean), .classLink RX1 136 "java/lang/IndexOutOfBoundsException", .initialized "java/lang/IndexOutOfBoundsException", .classLink RX1 43 "java/lang/IllegalArgumentException", .initialized "java/lang/IllegalArgumentException", .fieldLink RX1 11 "SkyAlmanac" "bodies" "[LSkyAlmanac$Body;", .constantDouble RX1 141 (13868412840022376448), .constantDouble RX1 143 (4645040803167600640), .constantDouble RX1 149 (13860109328209412096), .constantDouble RX1 151 (4636737291354636288), .constantDouble RX1 153 (4604930618986332160), .methodLink RX1 145 yX1_isWithin, .static yX1_isWithin, .code yX1_isWithin cX1_isWithin 6 (some .boolean)] ++ wsX10 ++ wsX00 ++ (vx_atS RX1 140 "java/lang/IndexOutOfBoundsException" ["java/lang/RuntimeException", "java/lang/Exception"]).filter goodWord ++ (vx_atS RX1 47 "java/lang/IllegalArgumentException" ["java/lang/RuntimeException", "java/lang/Exception"]).filter goodWord)
def wsL_term_r1 : List Cond := [Cond.classLink RL 33 "java/util/NoSuchElementException", Cond.classLink RL 13 "java/lang/IllegalArgumentException", Cond.classLink RL 35 "java/lang/IllegalStateException", Cond.methodLink RL 29 yX1_term, Cond.instanceMethod yX1_term, Cond.selects RX1 yX1_term yX1_term, Cond.initialized RX1, Cond.code yX1_term cX1_term 11 (some .int), Cond.classLink RX1 43 "java/lang/IllegalArgumentException", Cond.initialized "java/lang/IllegalArgumentException", Cond.classLink RX1 186 "java/lang/IllegalStateException", Cond.initialized "java/lang/IllegalStateException", Cond.constantLong RX1 37 (2), Cond.constantDouble RX1 177 (13845191154443747328), Cond.constantDouble RX1 179 (4621819117588971520), Cond.constantDouble RX1 141 (13868412840022376448), Cond.constantDouble RX1 143 (4645040803167600640), Cond.constantDouble RX1 149 (13860109328209412096), Cond.constantDouble RX1 151 (4636737291354636288), Cond.methodLink RX1 173 yX1_bodyThatIsSet, Cond.instanceMethod yX1_bodyThatIsSet, Cond.selects RX1 yX1_bodyThatIsSet yX1_bodyThatIsSet, Cond.code yX1_bodyThatIsSet cX1_bodyThatIsSet 2 (some (.object "SkyAlmanac$Body")), Cond.classLink RX1 214 "java/util/NoSuchElementException"]
def wsL_term_r2 : List Cond := [Cond.initialized "java/util/NoSuchElementException", Cond.fieldLink RX1 11 "SkyAlmanac" "bodies" "[LSkyAlmanac$Body;", Cond.methodLink RX1 39 yX1_isWholeWithin, Cond.static yX1_isWholeWithin, Cond.code yX1_isWholeWithin cX1_isWholeWithin 6 (some .boolean), Cond.methodLink RX1 145 yX1_isWithin, Cond.static yX1_isWithin, Cond.code yX1_isWithin cX1_isWithin 6 (some .boolean)]
def wsL_term : List Cond := .codeWith yL_term cL_term 11 (some .int) [(0, 16, 19, 33), (0, 16, 23, 13), (0, 16, 27, 35)] :: ((wsL_term_r1 ++ wsL_term_r2) ++ wsX00 ++ wsX10 ++ (vx_atS RX1 47 "java/lang/IllegalArgumentException" ["java/lang/RuntimeException", "java/lang/Exception"]).filter goodWord ++ (vx_atS RX1 190 "java/lang/IllegalStateException" ["java/lang/RuntimeException", "java/lang/Exception"]).filter goodWord ++ (vx_atS RX1 218 "java/util/NoSuchElementException" ["java/lang/RuntimeException", "java/lang/Exception"]).filter goodWord)
def wsL_observer : List Cond := .codeWith yL_observer cL_observer 7 (some .int) [(0, 18, 21, 13)] :: ([.classLink RL 13 "java/lang/IllegalArgumentException", .methodLink RL 37 yX1_observer, .instanceMethod yX1_observer, .selects RX1 yX1_observer yX1_observer, .initialized RX1, .code yX1_observer cX1_observer 6 (some .boolean), .classLink RX1 43 "java/lang/IllegalArgumentException", .initialized "java/lang/IllegalArgumentException", .constantDouble RX1 204 (13859405640767635456), .constantDouble RX1 206 (4636033603912859648), .constantDouble RX1 208 (13863909240395005952), .constantDouble RX1 210 (4640537203540230144), .fieldLink RX1 24 "SkyAlmanac" "latitude" "D", .fieldLink RX1 28 "SkyAlmanac" "eastward" "D", .methodLink RX1 145 yX1_isWithin, .static yX1_isWithin, .code yX1_isWithin cX1_isWithin 6 (some .boolean)] ++ wsX10 ++ (vx_atS RX1 47 "java/lang/IllegalArgumentException" ["java/lang/RuntimeException", "java/lang/Exception"]).filter goodWord)
def wsL_longitude_r1 : List Cond := [Cond.classLink RL 33 "java/util/NoSuchElementException", Cond.classLink RL 13 "java/lang/IllegalArgumentException", Cond.classLink RL 35 "java/lang/IllegalStateException", Cond.methodLink RL 41 yX1_longitude, Cond.instanceMethod yX1_longitude, Cond.selects RX1 yX1_longitude yX1_longitude, Cond.initialized RX1, Cond.code yX1_longitude cX1_longitude 5 (some .double), Cond.classLink RX1 43 "java/lang/IllegalArgumentException", Cond.initialized "java/lang/IllegalArgumentException", Cond.methodLink RX1 173 yX1_bodyThatIsSet, Cond.instanceMethod yX1_bodyThatIsSet, Cond.selects RX1 yX1_bodyThatIsSet yX1_bodyThatIsSet, Cond.code yX1_bodyThatIsSet cX1_bodyThatIsSet 2 (some (.object "SkyAlmanac$Body")), Cond.classLink RX1 214 "java/util/NoSuchElementException", Cond.initialized "java/util/NoSuchElementException", Cond.fieldLink RX1 11 "SkyAlmanac" "bodies" "[LSkyAlmanac$Body;", Cond.methodLink RX1 219 yX1_isTime, Cond.static yX1_isTime, Cond.code yX1_isTime cX1_isTime 2 (some .boolean), Cond.constantDouble RX1 361 (13920209183539462144), Cond.constantDouble RX1 363 (4696837146684686336), Cond.methodLink RX1 145 yX1_isWithin, Cond.static yX1_isWithin]
def wsL_longitude_r2 : List Cond := [Cond.code yX1_isWithin cX1_isWithin 6 (some .boolean), Cond.methodLink RX1 225 yX1_longitudeOf, Cond.instanceMethod yX1_longitudeOf, Cond.selects RX1 yX1_longitudeOf yX1_longitudeOf, Cond.code yX1_longitudeOf cX1_longitudeOf 14 (some .double), Cond.fieldLink RX1 31 "SkyAlmanac" "longitudesWorkedOut" "I", Cond.constantDouble RX1 249 (4602678819172646912), Cond.constantDouble RX1 251 (4611686018427387904), Cond.constantDouble RX1 253 (4652007308841189376), Cond.methodLink RX1 236 yX1_red, Cond.static yX1_red, Cond.code yX1_red cX1_red 4 (some .double), Cond.constantLong RX1 345 (360), Cond.constantDouble RX1 143 (4645040803167600640), Cond.methodLink RX1 239 yX1_anomalyOf, Cond.instanceMethod yX1_anomalyOf, Cond.selects RX1 yX1_anomalyOf yX1_anomalyOf, Cond.code yX1_anomalyOf cX1_anomalyOf 11 (some .double), Cond.classLink RX1 186 "java/lang/IllegalStateException", Cond.initialized "java/lang/IllegalStateException", Cond.constantDouble RX1 262 (13740701229962882445), Cond.constantDouble RX1 264 (4517329193108106637), Cond.fieldLink RX1 34 "SkyAlmanac" "longitudesFailed" "I", Cond.methodLink RX1 242 yX1_degreesInRadian]
def wsL_longitude_r3 : List Cond := [Cond.static yX1_degreesInRadian, Cond.code yX1_degreesInRadian cX1_degreesInRadian 0 (some .double), Cond.constantDouble RX1 365 (4633260481411531256), Cond.methodLink RX1 246 yX1_sine, Cond.static yX1_sine, Cond.code yX1_sine cX1_sine 2 (some .double), Cond.methodLink RX1 367 yX1_waveAt, Cond.static yX1_waveAt, Cond.code yX1_waveAt cX1_waveAt 15 (some .double), Cond.constantDouble RX1 206 (4636033603912859648), Cond.constantDouble RX1 371 (4580687790476533049), Cond.constantDouble RX1 373 (13818544856648471893), Cond.constantDouble RX1 375 (4575957461383581969), Cond.constantDouble RX1 377 (13774824197408792602), Cond.constantDouble RX1 379 (4523617214285662004), Cond.constantDouble RX1 381 (13826050856027422720), Cond.constantDouble RX1 383 (4586165620538955093), Cond.constantDouble RX1 385 (13787419979223755799), Cond.constantDouble RX1 387 (4537941361671905306), Cond.constantDouble RX1 389 (13732177094651715420), Cond.methodLink RX1 259 yX1_cosine, Cond.static yX1_cosine, Cond.code yX1_cosine cX1_cosine 2 (some .double), Cond.instanceMethod yX0_sumOfPower]
def wsL_longitude_r4 : List Cond := [Cond.initialized RX0, Cond.selects RX0 yX0_sumOfPower yX0_sumOfPower, Cond.code yX0_sumOfPower cX0_sumOfPower 7 (some .double), Cond.fieldLink RX0 25 "SkyAlmanac$Body" "terms" "I", Cond.fieldLink RX0 9 "SkyAlmanac$Body" "powers" "[I", Cond.fieldLink RX0 15 "SkyAlmanac$Body" "factors" "[D", Cond.fieldLink RX0 19 "SkyAlmanac$Body" "starts" "[D", Cond.fieldLink RX0 22 "SkyAlmanac$Body" "speeds" "[D"]
def wsL_longitude : List Cond := .codeWith yL_longitude cL_longitude 6 (some .int) [(0, 10, 13, 33), (0, 10, 17, 13), (0, 10, 21, 35)] :: ((wsL_longitude_r1 ++ (wsL_longitude_r2 ++ (wsL_longitude_r3 ++ wsL_longitude_r4))) ++ wsX10 ++ wsX00 ++ (vx_atS RX1 47 "java/lang/IllegalArgumentException" ["java/lang/RuntimeException", "java/lang/Exception"]).filter goodWord ++ (vx_atS RX1 218 "java/util/NoSuchElementException" ["java/lang/RuntimeException", "java/lang/Exception"]).filter goodWord ++ (vx_atS RX1 190 "java/lang/IllegalStateException" ["java/lang/RuntimeException", "java/lang/Exception"]).filter goodWord)
def wsL_height_r1 : List Cond := [Cond.classLink RL 33 "java/util/NoSuchElementException", Cond.classLink RL 13 "java/lang/IllegalArgumentException", Cond.classLink RL 35 "java/lang/IllegalStateException", Cond.methodLink RL 45 yX1_height, Cond.instanceMethod yX1_height, Cond.selects RX1 yX1_height yX1_height, Cond.initialized RX1, Cond.code yX1_height cX1_height 5 (some .double), Cond.classLink RX1 43 "java/lang/IllegalArgumentException", Cond.initialized "java/lang/IllegalArgumentException", Cond.methodLink RX1 173 yX1_bodyThatIsSet, Cond.instanceMethod yX1_bodyThatIsSet, Cond.selects RX1 yX1_bodyThatIsSet yX1_bodyThatIsSet, Cond.code yX1_bodyThatIsSet cX1_bodyThatIsSet 2 (some (.object "SkyAlmanac$Body")), Cond.classLink RX1 214 "java/util/NoSuchElementException", Cond.initialized "java/util/NoSuchElementException", Cond.fieldLink RX1 11 "SkyAlmanac" "bodies" "[LSkyAlmanac$Body;", Cond.methodLink RX1 219 yX1_isTime, Cond.static yX1_isTime, Cond.code yX1_isTime cX1_isTime 2 (some .boolean), Cond.constantDouble RX1 361 (13920209183539462144), Cond.constantDouble RX1 363 (4696837146684686336), Cond.methodLink RX1 145 yX1_isWithin, Cond.static yX1_isWithin]
def wsL_height_r2 : List Cond := [Cond.code yX1_isWithin cX1_isWithin 6 (some .boolean), Cond.methodLink RX1 229 yX1_heightOf, Cond.instanceMethod yX1_heightOf, Cond.selects RX1 yX1_heightOf yX1_heightOf, Cond.code yX1_heightOf cX1_heightOf 14 (some .double), Cond.constantDouble RX1 268 (4606439163290984179), Cond.constantDouble RX1 270 (4600837336122831769), Cond.fieldLink RX1 28 "SkyAlmanac" "eastward" "D", Cond.fieldLink RX1 24 "SkyAlmanac" "latitude" "D", Cond.methodLink RX1 225 yX1_longitudeOf, Cond.instanceMethod yX1_longitudeOf, Cond.selects RX1 yX1_longitudeOf yX1_longitudeOf, Cond.code yX1_longitudeOf cX1_longitudeOf 14 (some .double), Cond.fieldLink RX1 31 "SkyAlmanac" "longitudesWorkedOut" "I", Cond.constantDouble RX1 249 (4602678819172646912), Cond.constantDouble RX1 251 (4611686018427387904), Cond.constantDouble RX1 253 (4652007308841189376), Cond.methodLink RX1 236 yX1_red, Cond.static yX1_red, Cond.code yX1_red cX1_red 4 (some .double), Cond.constantLong RX1 345 (360), Cond.constantDouble RX1 143 (4645040803167600640), Cond.methodLink RX1 239 yX1_anomalyOf, Cond.instanceMethod yX1_anomalyOf]
def wsL_height_r3 : List Cond := [Cond.selects RX1 yX1_anomalyOf yX1_anomalyOf, Cond.code yX1_anomalyOf cX1_anomalyOf 11 (some .double), Cond.classLink RX1 186 "java/lang/IllegalStateException", Cond.initialized "java/lang/IllegalStateException", Cond.constantDouble RX1 262 (13740701229962882445), Cond.constantDouble RX1 264 (4517329193108106637), Cond.fieldLink RX1 34 "SkyAlmanac" "longitudesFailed" "I", Cond.methodLink RX1 242 yX1_degreesInRadian, Cond.static yX1_degreesInRadian, Cond.code yX1_degreesInRadian cX1_degreesInRadian 0 (some .double), Cond.constantDouble RX1 365 (4633260481411531256), Cond.methodLink RX1 246 yX1_sine, Cond.static yX1_sine, Cond.code yX1_sine cX1_sine 2 (some .double), Cond.methodLink RX1 367 yX1_waveAt, Cond.static yX1_waveAt, Cond.code yX1_waveAt cX1_waveAt 15 (some .double), Cond.constantDouble RX1 206 (4636033603912859648), Cond.constantDouble RX1 371 (4580687790476533049), Cond.constantDouble RX1 373 (13818544856648471893), Cond.constantDouble RX1 375 (4575957461383581969), Cond.constantDouble RX1 377 (13774824197408792602), Cond.constantDouble RX1 379 (4523617214285662004), Cond.constantDouble RX1 381 (13826050856027422720)]
def wsL_height_r4 : List Cond := [Cond.constantDouble RX1 383 (4586165620538955093), Cond.constantDouble RX1 385 (13787419979223755799), Cond.constantDouble RX1 387 (4537941361671905306), Cond.constantDouble RX1 389 (13732177094651715420), Cond.methodLink RX1 259 yX1_cosine, Cond.static yX1_cosine, Cond.code yX1_cosine cX1_cosine 2 (some .double), Cond.instanceMethod yX0_sumOfPower, Cond.initialized RX0, Cond.selects RX0 yX0_sumOfPower yX0_sumOfPower, Cond.code yX0_sumOfPower cX0_sumOfPower 7 (some .double), Cond.fieldLink RX0 25 "SkyAlmanac$Body" "terms" "I", Cond.fieldLink RX0 9 "SkyAlmanac$Body" "powers" "[I", Cond.fieldLink RX0 15 "SkyAlmanac$Body" "factors" "[D", Cond.fieldLink RX0 19 "SkyAlmanac$Body" "starts" "[D", Cond.fieldLink RX0 22 "SkyAlmanac$Body" "speeds" "[D", Cond.methodLink RX1 232 yX1_siderealAngle, Cond.static yX1_siderealAngle, Cond.code yX1_siderealAngle cX1_siderealAngle 2 (some .double), Cond.constantDouble RX1 272 (4643641531568107876), Cond.constantDouble RX1 274 (4607053141768361126)]
def wsL_height : List Cond := .codeWith yL_height cL_height 6 (some .int) [(0, 10, 13, 33), (0, 10, 17, 13), (0, 10, 21, 35)] :: ((wsL_height_r1 ++ (wsL_height_r2 ++ (wsL_height_r3 ++ wsL_height_r4))) ++ wsX10 ++ wsX00 ++ (vx_atS RX1 47 "java/lang/IllegalArgumentException" ["java/lang/RuntimeException", "java/lang/Exception"]).filter goodWord ++ (vx_atS RX1 218 "java/util/NoSuchElementException" ["java/lang/RuntimeException", "java/lang/Exception"]).filter goodWord ++ (vx_atS RX1 190 "java/lang/IllegalStateException" ["java/lang/RuntimeException", "java/lang/Exception"]).filter goodWord)
def wsL_event_r1 : List Cond := [Cond.classLink RL 13 "java/lang/IllegalArgumentException", Cond.classLink RL 33 "java/util/NoSuchElementException", Cond.classLink RL 35 "java/lang/IllegalStateException", Cond.methodLink RL 48 yX1_event, Cond.instanceMethod yX1_event, Cond.selects RX1 yX1_event yX1_event, Cond.initialized RX1, Cond.code yX1_event cX1_event 7 (some .double), Cond.classLink RX1 43 "java/lang/IllegalArgumentException", Cond.initialized "java/lang/IllegalArgumentException", Cond.classLink RX1 214 "java/util/NoSuchElementException", Cond.initialized "java/util/NoSuchElementException", Cond.constantLong RX1 37 (2), Cond.constantLong RX1 278 (-999999), Cond.constantLong RX1 280 (999998), Cond.methodLink RX1 39 yX1_isWholeWithin, Cond.static yX1_isWholeWithin, Cond.code yX1_isWholeWithin cX1_isWholeWithin 6 (some .boolean), Cond.methodLink RX1 173 yX1_bodyThatIsSet, Cond.instanceMethod yX1_bodyThatIsSet, Cond.selects RX1 yX1_bodyThatIsSet yX1_bodyThatIsSet, Cond.code yX1_bodyThatIsSet cX1_bodyThatIsSet 2 (some (.object "SkyAlmanac$Body")), Cond.fieldLink RX1 11 "SkyAlmanac" "bodies" "[LSkyAlmanac$Body;", Cond.methodLink RX1 284 yX1_partOfGreatestHeight]
def wsL_event_r2 : List Cond := [Cond.instanceMethod yX1_partOfGreatestHeight, Cond.selects RX1 yX1_partOfGreatestHeight yX1_partOfGreatestHeight, Cond.code yX1_partOfGreatestHeight cX1_partOfGreatestHeight 9 (some .int), Cond.methodLink RX1 304 yX1_timeOfPart, Cond.static yX1_timeOfPart, Cond.code yX1_timeOfPart cX1_timeOfPart 2 (some .double), Cond.constantDouble RX1 302 (4625196817309499392), Cond.methodLink RX1 229 yX1_heightOf, Cond.instanceMethod yX1_heightOf, Cond.selects RX1 yX1_heightOf yX1_heightOf, Cond.code yX1_heightOf cX1_heightOf 14 (some .double), Cond.constantDouble RX1 268 (4606439163290984179), Cond.constantDouble RX1 270 (4600837336122831769), Cond.fieldLink RX1 28 "SkyAlmanac" "eastward" "D", Cond.fieldLink RX1 24 "SkyAlmanac" "latitude" "D", Cond.methodLink RX1 225 yX1_longitudeOf, Cond.instanceMethod yX1_longitudeOf, Cond.selects RX1 yX1_longitudeOf yX1_longitudeOf, Cond.code yX1_longitudeOf cX1_longitudeOf 14 (some .double), Cond.fieldLink RX1 31 "SkyAlmanac" "longitudesWorkedOut" "I", Cond.constantDouble RX1 249 (4602678819172646912), Cond.constantDouble RX1 251 (4611686018427387904), Cond.constantDouble RX1 253 (4652007308841189376), Cond.methodLink RX1 236 yX1_red]
def wsL_event_r3 : List Cond := [Cond.static yX1_red, Cond.code yX1_red cX1_red 4 (some .double), Cond.constantLong RX1 345 (360), Cond.constantDouble RX1 143 (4645040803167600640), Cond.methodLink RX1 239 yX1_anomalyOf, Cond.instanceMethod yX1_anomalyOf, Cond.selects RX1 yX1_anomalyOf yX1_anomalyOf, Cond.code yX1_anomalyOf cX1_anomalyOf 11 (some .double), Cond.classLink RX1 186 "java/lang/IllegalStateException", Cond.initialized "java/lang/IllegalStateException", Cond.constantDouble RX1 262 (13740701229962882445), Cond.constantDouble RX1 264 (4517329193108106637), Cond.fieldLink RX1 34 "SkyAlmanac" "longitudesFailed" "I", Cond.methodLink RX1 242 yX1_degreesInRadian, Cond.static yX1_degreesInRadian, Cond.code yX1_degreesInRadian cX1_degreesInRadian 0 (some .double), Cond.constantDouble RX1 365 (4633260481411531256), Cond.methodLink RX1 246 yX1_sine, Cond.static yX1_sine, Cond.code yX1_sine cX1_sine 2 (some .double), Cond.methodLink RX1 367 yX1_waveAt, Cond.static yX1_waveAt, Cond.code yX1_waveAt cX1_waveAt 15 (some .double), Cond.constantDouble RX1 206 (4636033603912859648)]
def wsL_event_r4 : List Cond := [Cond.constantDouble RX1 371 (4580687790476533049), Cond.constantDouble RX1 373 (13818544856648471893), Cond.constantDouble RX1 375 (4575957461383581969), Cond.constantDouble RX1 377 (13774824197408792602), Cond.constantDouble RX1 379 (4523617214285662004), Cond.constantDouble RX1 381 (13826050856027422720), Cond.constantDouble RX1 383 (4586165620538955093), Cond.constantDouble RX1 385 (13787419979223755799), Cond.constantDouble RX1 387 (4537941361671905306), Cond.constantDouble RX1 389 (13732177094651715420), Cond.methodLink RX1 259 yX1_cosine, Cond.static yX1_cosine, Cond.code yX1_cosine cX1_cosine 2 (some .double), Cond.instanceMethod yX0_sumOfPower, Cond.initialized RX0, Cond.selects RX0 yX0_sumOfPower yX0_sumOfPower, Cond.code yX0_sumOfPower cX0_sumOfPower 7 (some .double), Cond.fieldLink RX0 25 "SkyAlmanac$Body" "terms" "I", Cond.fieldLink RX0 9 "SkyAlmanac$Body" "powers" "[I", Cond.fieldLink RX0 15 "SkyAlmanac$Body" "factors" "[D", Cond.fieldLink RX0 19 "SkyAlmanac$Body" "starts" "[D", Cond.fieldLink RX0 22 "SkyAlmanac$Body" "speeds" "[D", Cond.methodLink RX1 232 yX1_siderealAngle, Cond.static yX1_siderealAngle]
def wsL_event_r5 : List Cond := [Cond.code yX1_siderealAngle cX1_siderealAngle 2 (some .double), Cond.constantDouble RX1 272 (4643641531568107876), Cond.constantDouble RX1 274 (4607053141768361126), Cond.methodLink RX1 288 yX1_narrowedToHighest, Cond.instanceMethod yX1_narrowedToHighest, Cond.selects RX1 yX1_narrowedToHighest yX1_narrowedToHighest, Cond.code yX1_narrowedToHighest cX1_narrowedToHighest 17 (some .double), Cond.constantDouble RX1 308 (4613937818241073152), Cond.methodLink RX1 292 yX1_partOfCrossing, Cond.instanceMethod yX1_partOfCrossing, Cond.selects RX1 yX1_partOfCrossing yX1_partOfCrossing, Cond.code yX1_partOfCrossing cX1_partOfCrossing 7 (some .int), Cond.methodLink RX1 298 yX1_narrowedToCrossing, Cond.instanceMethod yX1_narrowedToCrossing, Cond.selects RX1 yX1_narrowedToCrossing yX1_narrowedToCrossing, Cond.code yX1_narrowedToCrossing cX1_narrowedToCrossing 12 (some .double)]
def wsL_event : List Cond := .codeWith yL_event cL_event 6 (some .int) [(0, 11, 14, 13), (0, 11, 18, 33), (0, 11, 22, 35)] :: ((wsL_event_r1 ++ (wsL_event_r2 ++ (wsL_event_r3 ++ (wsL_event_r4 ++ wsL_event_r5)))) ++ wsX10 ++ wsX00 ++ (vx_atS RX1 47 "java/lang/IllegalArgumentException" ["java/lang/RuntimeException", "java/lang/Exception"]).filter goodWord ++ (vx_atS RX1 218 "java/util/NoSuchElementException" ["java/lang/RuntimeException", "java/lang/Exception"]).filter goodWord ++ (vx_atS RX1 190 "java/lang/IllegalStateException" ["java/lang/RuntimeException", "java/lang/Exception"]).filter goodWord)
def wsL_sidereal_r1 : List Cond := [Cond.classLink RL 13 "java/lang/IllegalArgumentException", Cond.methodLink RL 52 yX1_sidereal, Cond.instanceMethod yX1_sidereal, Cond.selects RX1 yX1_sidereal yX1_sidereal, Cond.initialized RX1, Cond.code yX1_sidereal cX1_sidereal 3 (some .double), Cond.classLink RX1 43 "java/lang/IllegalArgumentException", Cond.initialized "java/lang/IllegalArgumentException", Cond.methodLink RX1 219 yX1_isTime, Cond.static yX1_isTime, Cond.code yX1_isTime cX1_isTime 2 (some .boolean), Cond.constantDouble RX1 361 (13920209183539462144), Cond.constantDouble RX1 363 (4696837146684686336), Cond.methodLink RX1 145 yX1_isWithin, Cond.static yX1_isWithin, Cond.code yX1_isWithin cX1_isWithin 6 (some .boolean), Cond.methodLink RX1 232 yX1_siderealAngle, Cond.static yX1_siderealAngle, Cond.code yX1_siderealAngle cX1_siderealAngle 2 (some .double), Cond.constantDouble RX1 272 (4643641531568107876), Cond.constantDouble RX1 274 (4607053141768361126), Cond.constantDouble RX1 143 (4645040803167600640), Cond.methodLink RX1 236 yX1_red, Cond.static yX1_red]
def wsL_sidereal_r2 : List Cond := [Cond.code yX1_red cX1_red 4 (some .double), Cond.constantLong RX1 345 (360)]
def wsL_sidereal : List Cond := .codeWith yL_sidereal cL_sidereal 5 (some .int) [(0, 8, 11, 13)] :: ((wsL_sidereal_r1 ++ wsL_sidereal_r2) ++ (vx_atS RX1 47 "java/lang/IllegalArgumentException" ["java/lang/RuntimeException", "java/lang/Exception"]).filter goodWord)
def wsL_write_r1 : List Cond := [Cond.classLink RL 13 "java/lang/IllegalArgumentException", Cond.methodLink RL 56 yX1_write, Cond.instanceMethod yX1_write, Cond.selects RX1 yX1_write yX1_write, Cond.initialized RX1, Cond.code yX1_write cX1_write 12 (some .int), Cond.classLink RX1 43 "java/lang/IllegalArgumentException", Cond.initialized "java/lang/IllegalArgumentException", Cond.constantDouble RX1 310 (13904980397738950656), Cond.constantDouble RX1 312 (4681608360884174848), Cond.constantLong RX1 316 (4), Cond.constantDouble RX1 324 (4660134898793709568), Cond.constantDouble RX1 249 (4602678819172646912), Cond.fieldLink RX1 20 "SkyAlmanac" "writtenLength" "I", Cond.constantLong RX1 333 (3600), Cond.constantLong RX1 339 (60), Cond.methodLink RX1 145 yX1_isWithin, Cond.static yX1_isWithin, Cond.code yX1_isWithin cX1_isWithin 6 (some .boolean), Cond.methodLink RX1 39 yX1_isWholeWithin, Cond.static yX1_isWholeWithin, Cond.code yX1_isWholeWithin cX1_isWholeWithin 6 (some .boolean), Cond.methodLink RX1 320 yX1_tenToThe, Cond.static yX1_tenToThe]
def wsL_write_r2 : List Cond := [Cond.code yX1_tenToThe cX1_tenToThe 1 (some .long), Cond.fieldLink RX1 353 "SkyAlmanac" "TENS" "[J", Cond.methodLink RX1 326 yX1_wholeParts, Cond.static yX1_wholeParts, Cond.code yX1_wholeParts cX1_wholeParts 4 (some .long), Cond.methodLink RX1 329 yX1_put, Cond.instanceMethod yX1_put, Cond.selects RX1 yX1_put yX1_put, Cond.code yX1_put cX1_put 2 none, Cond.fieldLink RX1 16 "SkyAlmanac" "written" "[C", Cond.methodLink RX1 335 yX1_putNumber, Cond.instanceMethod yX1_putNumber, Cond.selects RX1 yX1_putNumber yX1_putNumber, Cond.code yX1_putNumber cX1_putNumber 5 none, Cond.constantLong RX1 357 (48), Cond.constantLong RX1 359 (10)]
def wsL_write : List Cond := .codeWith yL_write cL_write 6 (some .int) [(0, 11, 14, 13)] :: ((wsL_write_r1 ++ wsL_write_r2) ++ wsX10 ++ (vx_atS RX1 47 "java/lang/IllegalArgumentException" ["java/lang/RuntimeException", "java/lang/Exception"]).filter goodWord)
def wsL_letter : List Cond := .codeWith yL_letter cL_letter 4 (some .int) [(0, 9, 12, 27)] :: ([.classLink RL 27 "java/lang/IndexOutOfBoundsException", .methodLink RL 60 yX1_letter, .instanceMethod yX1_letter, .selects RX1 yX1_letter yX1_letter, .initialized RX1, .code yX1_letter cX1_letter 2 (some .int), .classLink RX1 136 "java/lang/IndexOutOfBoundsException", .initialized "java/lang/IndexOutOfBoundsException", .fieldLink RX1 20 "SkyAlmanac" "writtenLength" "I", .fieldLink RX1 16 "SkyAlmanac" "written" "[C"] ++ wsX10 ++ (vx_atS RX1 140 "java/lang/IndexOutOfBoundsException" ["java/lang/RuntimeException", "java/lang/Exception"]).filter goodWord)
def wsL_angle : List Cond := .codeWith yL_angle cL_angle 8 (some .int) [(0, 13, 16, 13)] :: ([.classLink RL 13 "java/lang/IllegalArgumentException", .methodLink RL 64 yX1_angle, .instanceMethod yX1_angle, .selects RX1 yX1_angle yX1_angle, .initialized RX1, .code yX1_angle cX1_angle 6 (some .double), .classLink RX1 43 "java/lang/IllegalArgumentException", .initialized "java/lang/IllegalArgumentException", .constantLong RX1 345 (360), .constantLong RX1 347 (59), .constantDouble RX1 349 (4633641066610819072), .constantDouble RX1 324 (4660134898793709568), .methodLink RX1 39 yX1_isWholeWithin, .static yX1_isWholeWithin, .code yX1_isWholeWithin cX1_isWholeWithin 6 (some .boolean)] ++ (vx_atS RX1 47 "java/lang/IllegalArgumentException" ["java/lang/RuntimeException", "java/lang/Exception"]).filter goodWord)
abbrev vwCl : List vw_C := [(RX0, TX0, 10), (RX1, TX1, 7), (RX2, TX2, 13)]
end
