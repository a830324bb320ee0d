section
-- ===== PART A: goes FIRST, ahead of the names: the tables' words, and 'selects' of the private methods out of them =====
/-- a private method of a class that the tables say can be made, by its rows of tables_1 -/
def lw_okq (q : MethodName × Nat) : Prop := (q.1.cls ≠ "java/lang/invoke/MethodHandle" ∧ q.1.cls ≠ "java/lang/invoke/VarHandle") ∧ Cond.instantiable q.1.cls q.2 ∈ tables_1 ∧ Cond.privateMethod q.1 ∈ tables_1 ∧ Cond.instanceMethod q.1 ∈ tables_1
theorem lw_p0 : lw_okq (⟨"java/lang/Throwable", "fillInStackTrace", "(I)Ljava/lang/Throwable;"⟩, 6) := ⟨⟨by decide +kernel, by decide +kernel⟩, List.mem_of_getElem? (i := 144) (by decide +kernel), List.mem_of_getElem? (i := 142) (by decide +kernel), List.mem_of_getElem? (i := 143) (by decide +kernel)⟩
theorem lw_p1 : lw_okq (⟨"SkyAlmanac", "bodyThatIsSet", "(I)LSkyAlmanac$Body;"⟩, 7) := ⟨⟨by decide +kernel, by decide +kernel⟩, List.mem_of_getElem? (i := 13) (by decide +kernel), List.mem_of_getElem? (i := 283) (by decide +kernel), List.mem_of_getElem? (i := 284) (by decide +kernel)⟩
theorem lw_p2 : lw_okq (⟨"SkyAlmanac", "longitudeOf", "(LSkyAlmanac$Body;D)D"⟩, 7) := ⟨⟨by decide +kernel, by decide +kernel⟩, List.mem_of_getElem? (i := 13) (by decide +kernel), List.mem_of_getElem? (i := 347) (by decide +kernel), List.mem_of_getElem? (i := 348) (by decide +kernel)⟩
theorem lw_p3 : lw_okq (⟨"SkyAlmanac", "anomalyOf", "(LSkyAlmanac$Body;D)D"⟩, 7) := ⟨⟨by decide +kernel, by decide +kernel⟩, List.mem_of_getElem? (i := 13) (by decide +kernel), List.mem_of_getElem? (i := 355) (by decide +kernel), List.mem_of_getElem? (i := 356) (by decide +kernel)⟩
theorem lw_p4 : lw_okq (⟨"SkyAlmanac$Body", "sumOfPower", "(ID)D"⟩, 10) := ⟨⟨by decide +kernel, by decide +kernel⟩, List.mem_of_getElem? (i := 22) (by decide +kernel), List.mem_of_getElem? (i := 388) (by decide +kernel), List.mem_of_getElem? (i := 389) (by decide +kernel)⟩
theorem lw_p5 : lw_okq (⟨"SkyAlmanac", "heightOf", "(LSkyAlmanac$Body;D)D"⟩, 7) := ⟨⟨by decide +kernel, by decide +kernel⟩, List.mem_of_getElem? (i := 13) (by decide +kernel), List.mem_of_getElem? (i := 400) (by decide +kernel), List.mem_of_getElem? (i := 401) (by decide +kernel)⟩
theorem lw_p6 : lw_okq (⟨"SkyAlmanac", "partOfGreatestHeight", "(LSkyAlmanac$Body;I)I"⟩, 7) := ⟨⟨by decide +kernel, by decide +kernel⟩, List.mem_of_getElem? (i := 13) (by decide +kernel), List.mem_of_getElem? (i := 422) (by decide +kernel), List.mem_of_getElem? (i := 423) (by decide +kernel)⟩
theorem lw_p7 : lw_okq (⟨"SkyAlmanac", "narrowedToHighest", "(LSkyAlmanac$Body;II)D"⟩, 7) := ⟨⟨by decide +kernel, by decide +kernel⟩, List.mem_of_getElem? (i := 13) (by decide +kernel), List.mem_of_getElem? (i := 430) (by decide +kernel), List.mem_of_getElem? (i := 431) (by decide +kernel)⟩
theorem lw_p8 : lw_okq (⟨"SkyAlmanac", "partOfCrossing", "(LSkyAlmanac$Body;IZ)I"⟩, 7) := ⟨⟨by decide +kernel, by decide +kernel⟩, List.mem_of_getElem? (i := 13) (by decide +kernel), List.mem_of_getElem? (i := 435) (by decide +kernel), List.mem_of_getElem? (i := 436) (by decide +kernel)⟩
theorem lw_p9 : lw_okq (⟨"SkyAlmanac", "narrowedToCrossing", "(LSkyAlmanac$Body;IIZ)D"⟩, 7) := ⟨⟨by decide +kernel, by decide +kernel⟩, List.mem_of_getElem? (i := 13) (by decide +kernel), List.mem_of_getElem? (i := 440) (by decide +kernel), List.mem_of_getElem? (i := 441) (by decide +kernel)⟩
theorem lw_p10 : lw_okq (⟨"SkyAlmanac", "put", "(C)V"⟩, 7) := ⟨⟨by decide +kernel, by decide +kernel⟩, List.mem_of_getElem? (i := 13) (by decide +kernel), List.mem_of_getElem? (i := 472) (by decide +kernel), List.mem_of_getElem? (i := 473) (by decide +kernel)⟩
theorem lw_p11 : lw_okq (⟨"SkyAlmanac", "putNumber", "(JI)V"⟩, 7) := ⟨⟨by decide +kernel, by decide +kernel⟩, List.mem_of_getElem? (i := 13) (by decide +kernel), List.mem_of_getElem? (i := 477) (by decide +kernel), List.mem_of_getElem? (i := 478) (by decide +kernel)⟩
theorem lw_p12 : lw_okq (⟨"SkyAlmanacModel", "fail", "(I)I"⟩, 13) := ⟨⟨by decide +kernel, by decide +kernel⟩, List.mem_of_getElem? (i := 503) (by decide +kernel), List.mem_of_getElem? (i := 558) (by decide +kernel), List.mem_of_getElem? (i := 559) (by decide +kernel)⟩
theorem lw_p13 : lw_okq (⟨"SkyAlmanacModel", "noBody", "(I)Z"⟩, 13) := ⟨⟨by decide +kernel, by decide +kernel⟩, List.mem_of_getElem? (i := 503) (by decide +kernel), List.mem_of_getElem? (i := 634) (by decide +kernel), List.mem_of_getElem? (i := 635) (by decide +kernel)⟩
theorem lw_p14 : lw_okq (⟨"SkyAlmanacModel", "bar", "(ID)I"⟩, 13) := ⟨⟨by decide +kernel, by decide +kernel⟩, List.mem_of_getElem? (i := 503) (by decide +kernel), List.mem_of_getElem? (i := 652) (by decide +kernel), List.mem_of_getElem? (i := 653) (by decide +kernel)⟩
theorem lw_p15 : lw_okq (⟨"SkyAlmanacModel", "along", "(ID)D"⟩, 13) := ⟨⟨by decide +kernel, by decide +kernel⟩, List.mem_of_getElem? (i := 503) (by decide +kernel), List.mem_of_getElem? (i := 658) (by decide +kernel), List.mem_of_getElem? (i := 659) (by decide +kernel)⟩
def lw_privs_1 : List (MethodName × Nat) := [(⟨"java/lang/Throwable", "fillInStackTrace", "(I)Ljava/lang/Throwable;"⟩, 6), (⟨"SkyAlmanac", "bodyThatIsSet", "(I)LSkyAlmanac$Body;"⟩, 7), (⟨"SkyAlmanac", "longitudeOf", "(LSkyAlmanac$Body;D)D"⟩, 7), (⟨"SkyAlmanac", "anomalyOf", "(LSkyAlmanac$Body;D)D"⟩, 7), (⟨"SkyAlmanac$Body", "sumOfPower", "(ID)D"⟩, 10), (⟨"SkyAlmanac", "heightOf", "(LSkyAlmanac$Body;D)D"⟩, 7), (⟨"SkyAlmanac", "partOfGreatestHeight", "(LSkyAlmanac$Body;I)I"⟩, 7), (⟨"SkyAlmanac", "narrowedToHighest", "(LSkyAlmanac$Body;II)D"⟩, 7), (⟨"SkyAlmanac", "partOfCrossing", "(LSkyAlmanac$Body;IZ)I"⟩, 7), (⟨"SkyAlmanac", "narrowedToCrossing", "(LSkyAlmanac$Body;IIZ)D"⟩, 7), (⟨"SkyAlmanac", "put", "(C)V"⟩, 7), (⟨"SkyAlmanac", "putNumber", "(JI)V"⟩, 7), (⟨"SkyAlmanacModel", "fail", "(I)I"⟩, 13), (⟨"SkyAlmanacModel", "noBody", "(I)Z"⟩, 13), (⟨"SkyAlmanacModel", "bar", "(ID)I"⟩, 13), (⟨"SkyAlmanacModel", "along", "(ID)D"⟩, 13)]
theorem lw_r1 : ∀ q ∈ lw_privs_1, lw_okq q := List.forall_mem_cons.mpr ⟨lw_p0, List.forall_mem_cons.mpr ⟨lw_p1, List.forall_mem_cons.mpr ⟨lw_p2, List.forall_mem_cons.mpr ⟨lw_p3, List.forall_mem_cons.mpr ⟨lw_p4, List.forall_mem_cons.mpr ⟨lw_p5, List.forall_mem_cons.mpr ⟨lw_p6, List.forall_mem_cons.mpr ⟨lw_p7, List.forall_mem_cons.mpr ⟨lw_p8, List.forall_mem_cons.mpr ⟨lw_p9, List.forall_mem_cons.mpr ⟨lw_p10, List.forall_mem_cons.mpr ⟨lw_p11, List.forall_mem_cons.mpr ⟨lw_p12, List.forall_mem_cons.mpr ⟨lw_p13, List.forall_mem_cons.mpr ⟨lw_p14, List.forall_mem_cons.mpr ⟨lw_p15, fun _ h => absurd h List.not_mem_nil⟩⟩⟩⟩⟩⟩⟩⟩⟩⟩⟩⟩⟩⟩⟩⟩
theorem lw_p16 : lw_okq (⟨"SkyAlmanacModel", "sum", "(IID)D"⟩, 13) := ⟨⟨by decide +kernel, by decide +kernel⟩, List.mem_of_getElem? (i := 503) (by decide +kernel), List.mem_of_getElem? (i := 691) (by decide +kernel), List.mem_of_getElem? (i := 692) (by decide +kernel)⟩
theorem lw_p17 : lw_okq (⟨"SkyAlmanacModel", "above", "(ID)D"⟩, 13) := ⟨⟨by decide +kernel, by decide +kernel⟩, List.mem_of_getElem? (i := 503) (by decide +kernel), List.mem_of_getElem? (i := 699) (by decide +kernel), List.mem_of_getElem? (i := 700) (by decide +kernel)⟩
theorem lw_p18 : lw_okq (⟨"SkyAlmanacModel", "highest", "(ID)D"⟩, 13) := ⟨⟨by decide +kernel, by decide +kernel⟩, List.mem_of_getElem? (i := 503) (by decide +kernel), List.mem_of_getElem? (i := 716) (by decide +kernel), List.mem_of_getElem? (i := 717) (by decide +kernel)⟩
theorem lw_p19 : lw_okq (⟨"SkyAlmanacModel", "passes", "(IDZ)D"⟩, 13) := ⟨⟨by decide +kernel, by decide +kernel⟩, List.mem_of_getElem? (i := 503) (by decide +kernel), List.mem_of_getElem? (i := 722) (by decide +kernel), List.mem_of_getElem? (i := 723) (by decide +kernel)⟩
theorem lw_p20 : lw_okq (⟨"SkyAlmanacModel", "crossing", "(IDDZ)D"⟩, 13) := ⟨⟨by decide +kernel, by decide +kernel⟩, List.mem_of_getElem? (i := 503) (by decide +kernel), List.mem_of_getElem? (i := 726) (by decide +kernel), List.mem_of_getElem? (i := 727) (by decide +kernel)⟩
theorem lw_p21 : lw_okq (⟨"SkyAlmanacModel", "put", "(I)V"⟩, 13) := ⟨⟨by decide +kernel, by decide +kernel⟩, List.mem_of_getElem? (i := 503) (by decide +kernel), List.mem_of_getElem? (i := 742) (by decide +kernel), List.mem_of_getElem? (i := 743) (by decide +kernel)⟩
theorem lw_p22 : lw_okq (⟨"SkyAlmanacModel", "digits", "(JI)V"⟩, 13) := ⟨⟨by decide +kernel, by decide +kernel⟩, List.mem_of_getElem? (i := 503) (by decide +kernel), List.mem_of_getElem? (i := 747) (by decide +kernel), List.mem_of_getElem? (i := 748) (by decide +kernel)⟩
def lw_privs_2 : List (MethodName × Nat) := [(⟨"SkyAlmanacModel", "sum", "(IID)D"⟩, 13), (⟨"SkyAlmanacModel", "above", "(ID)D"⟩, 13), (⟨"SkyAlmanacModel", "highest", "(ID)D"⟩, 13), (⟨"SkyAlmanacModel", "passes", "(IDZ)D"⟩, 13), (⟨"SkyAlmanacModel", "crossing", "(IDDZ)D"⟩, 13), (⟨"SkyAlmanacModel", "put", "(I)V"⟩, 13), (⟨"SkyAlmanacModel", "digits", "(JI)V"⟩, 13)]
theorem lw_r2 : ∀ q ∈ lw_privs_2, lw_okq q := List.forall_mem_cons.mpr ⟨lw_p16, List.forall_mem_cons.mpr ⟨lw_p17, List.forall_mem_cons.mpr ⟨lw_p18, List.forall_mem_cons.mpr ⟨lw_p19, List.forall_mem_cons.mpr ⟨lw_p20, List.forall_mem_cons.mpr ⟨lw_p21, List.forall_mem_cons.mpr ⟨lw_p22, fun _ h => absurd h List.not_mem_nil⟩⟩⟩⟩⟩⟩⟩
def lw_privs : List (MethodName × Nat) := lw_privs_1 ++ (lw_privs_2)
def lw_tbl : List Cond := k2_sels lw_privs ++ tables_1
theorem lw_privs_ok : ∀ q ∈ lw_privs, lw_okq q := by
  show ∀ q ∈ lw_privs_1 ++ (lw_privs_2), lw_okq q
  exact List.forall_mem_append.mpr ⟨lw_r1, lw_r2⟩
-- ===== end of PART A; then your names; then what follows =====
/-! THE CLAIM OUT OF ONE WALK OF THE LAW'S BODY. Your part is whole_start (and what it stands on); all else here is the same for every law, but numbers. -/
def R_law : String := "SkyAlmanacLaw"
def lw_P (b : Addr) (xs : List Int32) (args : Array Value) (s : State) : Prop := args = #[.ref b] ∧ s.IntsAt b xs ∧ xs.length ≤ 3072 ∧ (Jvm.Cond.and given_1 narrow_1).before args s = true
def lw_Q (_ : Array Value) (s : State) (o : Outcome) (t : State) : Prop := o = .returned (some (.int 1)) ∧ Framed s o t [] 620239 7235387
def lw_Z (below : List Frame) (a : Array Value) (s : State) : State → Prop := fun t => ∃ o, t.status = .running ∧ Ended t below o ∧ lw_Q a s o t
/-- the law's own end, with 1 on the stack, nothing written that was there before, its room as the claim has it -/
theorem lw_ret {p : Program} {l : Launch} {e : Env} {s : State} {m : MethodId} {below : List Frame} {meth : Method} {c : Code} {b : Nat} (hx : p.tables.exec = Jvm.exec) (hb : c.code = code) (hr : meth.sig.returnType = ret) (hlocks : meth.locks = false) {pc : Nat} {H : Heap} {ls : Array Slot} (hdg : decode code pc = .ok (.ireturn, 1)) : W p l e room_1 s m #[Value.ref b] below meth c H [] 620239 7235387 (lw_Z below #[Value.ref b] s) (F0 m pc ls [.int 1]) := by
  intro T hT X
  obtain ⟨fs, hret, hrun, hended, hW, hframe⟩ := X.leave (v := some (.int 1)) (hlocks := hlocks) (fun h => by rw [hr] at h; cases h)
  have hmeth' : T.vm.method? m = some meth := X.method'
  refine ⟨T.setFrames fs, ?_, .returned (some (.int 1)), hrun, hended, rfl, ⟨_, rfl⟩, hW, hframe⟩
  jvm_step X.here [X.here.top, hx, hb, hdg, hmeth', hr, ret, narrow_b1]
  (try refine ⟨rfl, ?_⟩); (try refine ⟨rfl, ?_⟩)
  first | (intro acts; rw [hret _ acts rfl rfl rfl]) | rw [hret _ _ rfl rfl rfl]
  exact Steps.refl _
/-- what holds at the law's entry: the machine, the code, the tables' words (any of lw_tbl by 'hts w (by decide +kernel)'), the script of L ints xs at the cell b, what the Statement gives of the start (any of its parts by flat_of_before) -/
def lw_At (p : Program) (s : State) (m : MethodId) (meth : Method) (c : Code) (b L : Nat) (xs : Nat → Int32) : Prop :=
  p.tables.exec = Jvm.exec ∧ c.code = code ∧ meth.sig.returnType = ret ∧ c.maxLocals = 9 ∧ s.vm.findClass R_law = some m.cls ∧ (∀ w ∈ lw_tbl, w.before #[Value.ref b] s = true) ∧ va_X b L xs s s.heap ∧ b < s.heap.size ∧ meth.locks = false ∧ (Jvm.Cond.and given_1 narrow_1).before #[Value.ref b] s = true

/-! ===== a callee's throw, caught by a row of the table behind rows that name other classes (our own rows: the rounds' library has none) ===== -/
section ZC
/-- what the search for a handler gives, whatever is asked behind it, and the tables that it leaves -/
def zc_Finds (e : Env) (s : State) (f : JFrame) (a : Addr) (h : Handler) (vm' : Vm) : Prop :=
  ∀ (Q : Handler → Pre) (E : CtlPost) (d : Bool) (acts : List Action), wp (findHandler f a) Q E e d acts s ↔ Q h d acts (s.setVm vm')
section
variable {Q : Handler → Pre} {E : CtlPost} {e : Env} {d : Bool} {acts : List Action} {s : State} {f : JFrame} {a : Addr}
theorem zc_go {x : ExceptionTableEntry} {t : List ExceptionTableEntry} {c : ClassId} {cell : Cell} (hx : covers x f.pc = true) (h0 : x.catchType ≠ 0)
    (hl : s.vm.ClassLinks e.platform f.method.cls x.catchType c) (hcell : s.heap[a]? = some cell) (hobj : ∀ k, cell.vm ≠ .statics k)
    (hk : ∃ k, s.vm.classes[cell.cls]? = some k) (hc : ∃ k, s.vm.classes[c]? = some k) :
    (s.vm.assignable cell.cls c = true → (wp (findHandler.go f a (x :: t)) Q E e d acts s ↔ Q (.found x.handlerPc) d acts (s.setVm (s.vm.noted f.method.cls x.catchType (.cls c))))) ∧
    (s.vm.assignable cell.cls c = false → (wp (findHandler.go f a (x :: t)) Q E e d acts s ↔ wp (findHandler.go f a t) Q E e d acts (s.setVm (s.vm.noted f.method.cls x.catchType (.cls c))))) := by
  simp only [covers] at hx
  obtain ⟨ha, ht⟩ := (resolveClass_links e.toSetting hl).op (op := VmOp.resolveClass f.method.cls x.catchType) rfl
  have hal : s.vm.Alike (s.vm.noted f.method.cls x.catchType (.cls c)) := (Vm.Alike.refl s.vm).noted _ _ _
  obtain ⟨k1, hk1⟩ := hk
  obtain ⟨k2, hk2⟩ := hc
  obtain ⟨k1', hk1', -⟩ := hal.2.2 _ _ hk1
  obtain ⟨k2', hk2', -⟩ := hal.2.2 _ _ hk2
  refine ⟨fun hf => ?_, fun hf => ?_⟩
  · have hf' : (s.vm.noted f.method.cls x.catchType (.cls c)).assignable cell.cls c = true := by rw [hal.assignable]; exact hf
    simp [findHandler.go, hx, h0, ha, ht, hcell, hobj, hk1', hk2', hf', VmOp.dirties, VmOp.acts]
  · have hf' : (s.vm.noted f.method.cls x.catchType (.cls c)).assignable cell.cls c = false := by rw [hal.assignable]; exact hf
    simp [findHandler.go, hx, h0, ha, ht, hcell, hobj, hk1', hk2', hf', VmOp.dirties, VmOp.acts]
end
theorem zc_walk {e : Env} {s₀ : State} {f : JFrame} {a : Addr} {cell : Cell} (hobj : ∀ k, cell.vm ≠ .statics k) (hk0 : ∃ k, s₀.vm.classes[cell.cls]? = some k)
    (x : ExceptionTableEntry) (rest : List ExceptionTableEntry) (hx : covers x f.pc = true) (hend : x.catchType ≠ 0 ∧ ∃ c, s₀.vm.ClassLinks e.platform f.method.cls x.catchType c ∧ s₀.vm.assignable cell.cls c = true) :
    ∀ (pre : List ExceptionTableEntry) (S : State), s₀.WarmedH S.vm → S.heap[a]? = some cell → (∀ y ∈ pre, covers y f.pc = false ∨ (y.catchType ≠ 0 ∧ ∃ c, s₀.vm.ClassLinks e.platform f.method.cls y.catchType c ∧ s₀.vm.assignable cell.cls c = false)) →
      ∃ vm', s₀.WarmedH vm' ∧ ∀ (Q : Handler → Pre) (E : CtlPost) (d : Bool) (acts : List Action), wp (findHandler.go f a (pre ++ x :: rest)) Q E e d acts S ↔ Q (.found x.handlerPc) d acts (S.setVm vm') := by
  obtain ⟨k0, hk0⟩ := hk0
  intro pre
  induction pre with
  | nil =>
    intro S hW hcell _
    obtain ⟨k0', hk0', -⟩ := hW.alike.2.2 _ _ hk0
    obtain ⟨h0, c, hl, hfit⟩ := hend
    obtain ⟨dk, _, _, kt, hd, _, _, _, _, hkt, _, hopen⟩ := hl.here
    obtain ⟨kt', hkt', -⟩ := hW.alike.2.2 _ _ hkt
    exact ⟨_, hW.noted hd hopen (State.rightAt_cls hl), fun Q E d acts => by
      rw [List.nil_append]
      exact (zc_go hx h0 (hW.classLinks hl) hcell hobj ⟨k0', hk0'⟩ ⟨kt', hkt'⟩).1 (by rw [hW.alike.assignable]; exact hfit)⟩
  | cons y ys ih =>
    intro S hW hcell hpass
    obtain ⟨k0', hk0', -⟩ := hW.alike.2.2 _ _ hk0
    by_cases hcov : covers y f.pc = true
    · rcases hpass y List.mem_cons_self with h | ⟨h0, c, hl, hno⟩
      · rw [h] at hcov; cases hcov
      · obtain ⟨dk, _, _, kt, hd, _, _, _, _, hkt, _, hopen⟩ := hl.here
        obtain ⟨kt', hkt', -⟩ := hW.alike.2.2 _ _ hkt
        obtain ⟨vm', hW', hq⟩ := ih (S.setVm (S.vm.noted f.method.cls y.catchType (.cls c))) (hW.noted hd hopen (State.rightAt_cls hl)) hcell (fun z hz => hpass z (List.mem_cons_of_mem _ hz))
        exact ⟨vm', hW', fun Q E d acts => by
          rw [List.cons_append, (zc_go hcov h0 (hW.classLinks hl) hcell hobj ⟨k0', hk0'⟩ ⟨kt', hkt'⟩).2 (by rw [hW.alike.assignable]; exact hno)]
          exact hq Q E d acts⟩
    · obtain ⟨vm', hW', hq⟩ := ih S hW hcell (fun z hz => hpass z (List.mem_cons_of_mem _ hz))
      exact ⟨vm', hW', fun Q E d acts => by
        rw [List.cons_append, W.findHandler_go_skip (by simpa using hcov)]
        exact hq Q E d acts⟩
theorem zc_step {e : Env} {s : State} {a : Addr} {f : JFrame} {r : List Frame} {pc : Nat} {vm' : Vm} (hfind : zc_Finds e s f a (.found pc) vm') :
    (stepThrowing e s a (.java f :: r)).Is ((s.setVm vm').setFrames (.java { f with pc := pc, stack := [.ref a] } :: r)) [] := by
  simp only [stepThrowing, searchFrame, vmDo]
  generalize hr : Sem.go _ e false [] s = res
  obtain ⟨as, rfl, ha⟩ := Sem.eq_ok_of hr (a := Handler.found pc) (s' := s.setVm vm') (acts' := []) (by simp [hfind _ _ _ _])
  exact ⟨rfl, ha⟩
theorem zc_frames (u : State) (vm' : Vm) (F G : List Frame) : ((u.setFrames F).setVm vm').setFrames G = (u.setVm vm').setFrames G := by
  have h1 : (u.setFrames F).setVm vm' = (u.setVm vm').setFrames F := rfl
  rw [h1, State.setFrames_setFrames]
theorem zc_steps {tb : Tables} {e : Env} {s target : State} {g : JFrame} {c : Code} {below : List Frame} {a : Addr} (h : At s g.method c below) {pc : Nat} {vm' : Vm}
    (hfind : zc_Finds e ((s.setTop g).pushFrame (.throwing a)) g a (.found pc) vm') (hrest : Steps tb e below ((s.setVm vm').setTop { g with pc := pc, stack := [.ref a] }) target) :
    Steps tb e below ((s.setTop g).pushFrame (.throwing a)) target := by
  obtain ⟨hgo, hw⟩ := h.throwing a
  refine Steps.head hgo hw ?_
  rw [stepThread_throwing (frames_entered h.top _), (zc_step (s := (s.setTop g).pushFrame (.throwing a)) hfind).1]
  obtain ⟨g₀, hg⟩ := Option.isSome_iff_exists.mp h.top
  obtain ⟨r, hr⟩ := State.topJava?_eq_some.mp hg
  have hr' : (s.setVm vm').frames = .java g₀ :: r := hr
  rw [State.setTop_of_frames _ hr'] at hrest
  rw [hr, List.tail_cons, State.pushFrame, zc_frames, State.setTop_of_frames _ hr, zc_frames]
  exact hrest
theorem zc_caught {p : Program} {l : Launch} {e : Env} {R : Room} {s : State} {m₀ : MethodId} {args : Array Value} {below : List Frame} {meth : Method} {c : Code} {T : State} {locs : List Loc} {cells slots : Nat}
    (X : Stand p l e R s m₀ args below meth c T locs cells slots) (a : Addr) {g : JFrame} (hg : g.method = m₀) {s₀ : State} (hcome : Steps p.tables e below s₀ ((T.setTop g).pushFrame (.throwing a)))
    {cell : Cell} (hcell : T.heap[a]? = some cell) (hobj : cell.vm.isStatics = false) (hk0 : ∃ k, s.vm.classes[cell.cls]? = some k)
    (pre : List ExceptionTableEntry) (x : ExceptionTableEntry) (rest : List ExceptionTableEntry) (hsplit : c.exceptionTable.toList = pre ++ x :: rest)
    (hpass : ∀ y ∈ pre, covers y g.pc = false ∨ (y.catchType ≠ 0 ∧ ∃ c, s.vm.ClassLinks e.platform m₀.cls y.catchType c ∧ s.vm.assignable cell.cls c = false)) (hx : covers x g.pc = true)
    (hend : x.catchType = 0 ∨ x.catchType ≠ 0 ∧ ∃ c, s.vm.ClassLinks e.platform m₀.cls x.catchType c ∧ s.vm.assignable cell.cls c = true) :
    ∃ vm', Stand p l e R s m₀ args below meth c (T.setVm vm') locs cells slots ∧ Steps p.tables e below s₀ ((T.setVm vm').setTop { g with pc := x.handlerPc, stack := [.ref a] }) := by
  subst hg
  have hend2 : x.catchType = 0 ∨ (x.catchType ≠ 0 ∧ ∃ c, s.vm.ClassLinks e.platform g.method.cls x.catchType c ∧ s.vm.assignable cell.cls c = true) := hend
  obtain ⟨vm', hW', hq⟩ : ∃ vm', s.WarmedH vm' ∧ zc_Finds e ((T.setTop g).pushFrame (.throwing a)) g a (.found x.handlerPc) vm' := by
    rcases hend2 with h0 | hend3
    · have key : ∀ (pre : List ExceptionTableEntry) (S : State), s.WarmedH S.vm → S.heap[a]? = some cell → (∀ y ∈ pre, covers y g.pc = false ∨ (y.catchType ≠ 0 ∧ ∃ c, s.vm.ClassLinks e.platform g.method.cls y.catchType c ∧ s.vm.assignable cell.cls c = false)) →
          ∃ vm', s.WarmedH vm' ∧ ∀ (Q : Handler → Pre) (E : CtlPost) (d : Bool) (acts : List Action), wp (findHandler.go g a (pre ++ x :: rest)) Q E e d acts S ↔ Q (.found x.handlerPc) d acts (S.setVm vm') := by
        obtain ⟨k0, hk0⟩ := hk0
        intro pre
        induction pre with
        | nil =>
          intro S hW hc9 _
          exact ⟨S.vm, hW, fun Q E d acts => by rw [List.nil_append, W.findHandler_go_any hx h0, State.setVm_self]⟩
        | cons y ys ih =>
          intro S hW hc9 hpass
          obtain ⟨k0', hk0', -⟩ := hW.alike.2.2 _ _ hk0
          by_cases hcov : covers y g.pc = true
          · rcases hpass y List.mem_cons_self with h | ⟨h0, c, hl, hno⟩
            · rw [h] at hcov; cases hcov
            · obtain ⟨dk, _, _, kt, hd, _, _, _, _, hkt, _, hopen⟩ := hl.here
              obtain ⟨kt', hkt', -⟩ := hW.alike.2.2 _ _ hkt
              obtain ⟨vm', hW', hq⟩ := ih (S.setVm (S.vm.noted g.method.cls y.catchType (.cls c))) (hW.noted hd hopen (State.rightAt_cls hl)) hc9 (fun z hz => hpass z (List.mem_cons_of_mem _ hz))
              exact ⟨vm', hW', fun Q E d acts => by
                rw [List.cons_append, (zc_go hcov h0 (hW.classLinks hl) hc9 (VmData.ne_statics_of hobj) ⟨k0', hk0'⟩ ⟨kt', hkt'⟩).2 (by rw [hW.alike.assignable]; exact hno)]
                exact hq Q E d acts⟩
          · obtain ⟨vm', hW', hq⟩ := ih S hW hc9 (fun z hz => hpass z (List.mem_cons_of_mem _ hz))
            exact ⟨vm', hW', fun Q E d acts => by
              rw [List.cons_append, W.findHandler_go_skip (by simpa using hcov)]
              exact hq Q E d acts⟩
      obtain ⟨vm', hW', hq⟩ := key pre ((T.setTop g).pushFrame (.throwing a)) X.warmed hcell hpass
      exact ⟨vm', hW', fun Q E d acts => by rw [W.findHandler_eq (s := (T.setTop g).pushFrame (.throwing a)) (meth := meth) (code := c) X.method' X.code, hsplit]; exact hq Q E d acts⟩
    · obtain ⟨vm', hW', hq⟩ := zc_walk (VmData.ne_statics_of hobj) hk0 x rest hx hend3 pre ((T.setTop g).pushFrame (.throwing a)) X.warmed hcell hpass
      exact ⟨vm', hW', fun Q E d acts => by rw [W.findHandler_eq (s := (T.setTop g).pushFrame (.throwing a)) (meth := meth) (code := c) X.method' X.code, hsplit]; exact hq Q E d acts⟩
  exact ⟨vm', X.noted hW', hcome.trans (zc_steps X.here hq (Steps.refl _))⟩
end ZC
/-! ===== END ===== -/

/-! ===== BEGIN words of one list among another's, by their places ===== -/
theorem goodIn_r {big : List Cond} (ws : List Cond) (ps : List Nat) (hp : ws = ps.filterMap (fun i => big[i]?)) (h : ws.all goodWord = true) : GoodIn big ws := by
  intro w hw
  have h1 := List.all_eq_true.mp h w hw
  rw [hp] at hw
  obtain ⟨i, -, hi⟩ := List.mem_filterMap.mp hw
  have hm : w ∈ big := by first | exact List.mem_of_getElem? hi | exact List.getElem?_mem hi
  exact ⟨hm, good_of_word h1⟩
theorem goodIn_app {big a b : List Cond} (ha : GoodIn big a) (hb : GoodIn big b) : GoodIn big (a ++ b) := fun w h => (List.mem_append.mp h).elim (ha w) (hb w)
theorem goodIn_ca {big a b : List Cond} {c : Cond} (ha : GoodIn big (c :: a)) (hb : GoodIn big b) : GoodIn big (c :: (a ++ b)) := fun w h => (List.mem_cons.mp h).elim (fun e => ha w (List.mem_cons.mpr (Or.inl e))) (fun h => (List.mem_append.mp h).elim (fun h => ha w (List.mem_cons.mpr (Or.inr h))) (hb w))
theorem goodIn_sub {big ws : List Cond} (hm : ∀ w ∈ ws, w ∈ big) (h : ws.all goodWord = true) : GoodIn big ws := fun w hw => ⟨hm w hw, good_of_word (List.all_eq_true.mp h w hw)⟩
/-! ===== END ===== -/

/-! ===== BEGIN exceptions that leave a method, and their catching by the caller (launches without stack traces) ===== -/
section VXA
/-! The laws vx_back, vx_callV, vx_callS, vx_callSW, vx_throw0, vx_throwS follow proofs of the library, with one case more: JvmDerived/Free/Laws.lean (Back.of_free), Shelf42/LK1.lean (callV, callS), Shelf/KitTraced.lean (throwNew0V, throwNewS). -/
/-- where a method has thrown q: the class by its name, the cell, what was written, the world -/
def vx_T (XC : String → State → State → Prop) (st : State) (q : Addr) (t : State) (mc ms : Nat) (free : Addr → Prop) : Prop :=
  ∃ (E : String) (ce : Cell) (L : List Loc), XC E st t ∧ t.heap[q]? = some ce ∧ ce.vm = .none ∧ st.vm.findClass E = some ce.cls ∧ st.WarmedH t.vm ∧ st.sameButNew ({ t with vm := st.vm } : State) L mc ms ∧ ∀ z ∈ L, free z.base
def vx_Q (Qc : Array Value → State → Outcome → State → Prop) (XC : String → State → State → Prop) (mc ms : Nat) (free : Addr → Prop) : Array Value → State → Outcome → State → Prop := fun a st o t =>
  (Qc a st o t ∧ ∃ L, FrameEnd st o t L mc ms ∧ ∀ q ∈ L, free q.base) ∨ ∃ q, o = .threw q ∧ vx_T XC st q t mc ms free
/-- a callee that returns or throws -/
def vx_Met (l : Launch) (y : MethodName) (ws : List Cond) (rm : Room) (Pc : Array Value → State → Prop) (Qc : Array Value → State → Outcome → State → Prop) (XC : String → State → State → Prop) (mc ms : Nat) (free : Addr → Prop) : Prop :=
  MetFree l y (headSpec ws rm) Pc (fun _ _ _ _ _ => True) (vx_Q Qc XC mc ms free)
def vx_Post (XC : String → State → State → Prop) (mc ms : Nat) (free : Addr → Prop) : Pt → Array Value → Addr → Pt → Prop := fun A a q B =>
  ∃ (g : JFrame) (mk : MethodId) (t : State) (L : List Loc) (E : String) (ce : Cell), B.U.heap = t.heap ∧ B.U.vm = t.vm ∧ XC E (A.U.calling g mk a) t ∧ t.heap[q]? = some ce ∧ ce.vm = .none ∧ A.U.vm.findClass E = some ce.cls ∧ B.locs = A.locs ++ L ∧ (∀ z ∈ L, free z.base) ∧ B.cells = A.cells + mc ∧ B.slots = A.slots + ms
def vx_Back (l : Launch) (R : Room) (p : Program) (e : Env) (below : List Frame) (s : State) (sargs : Array Value) (y : MethodName) (len W9 : Nat)
    (Pre : Pt → Array Value → Prop) (Post : Pt → Array Value → Option Value → Pt → Prop) (PostX : Pt → Array Value → Addr → Pt → Prop) : Prop :=
  ∀ (m : MethodId) (meth : Method) (c : Code) (A : Pt) (g : JFrame) (ig : Instr) (mk : MethodId) (a : Array Value),
    Stand p l e R s m sargs below meth c A.U A.locs A.cells A.slots → g.method = m → g.locals.size = c.maxLocals → decode c.code g.pc = .ok (ig, len) →
    2 * g.monitorRoom + (g.stack.map fun v => v.category).sum ≤ W9 → A.U.methodNamed? y = some mk → Pre A a →
    (∃ (v : Option Value) (B : Pt), Stand p l e R s m sargs below meth c B.U B.locs B.cells B.slots ∧ Post A a v B ∧
      Steps p.tables e below (doInvoke e (A.U.setTop g) [] mk a).1 (B.U.setTop { g with pc := g.pc + len, stack := v.toList ++ g.stack })) ∨
    (∃ (q : Addr) (B : Pt), Stand p l e R s m sargs below meth c B.U B.locs B.cells B.slots ∧ PostX A a q B ∧
      Steps p.tables e below (doInvoke e (A.U.setTop g) [] mk a).1 ((B.U.setTop g).pushFrame (.throwing q)))
section Payer
variable {l : Launch} {R : Room} {p : Program} {e : Env} {below : List Frame} {s : State} {sargs : Array Value} {y : MethodName} {len W9 : Nat}
theorem vx_back {ws : List Cond} {rm : Room} {Pc : Array Value → State → Prop} {Qc : Array Value → State → Outcome → State → Prop} {XC : String → State → State → Prop} {mc ms : Nat} {free : Addr → Prop} {bytes : ByteArray} {maxL : Nat} {ret : Option FieldType}
    (hM : vx_Met l y ws rm Pc Qc XC mc ms free) (hblind : FrameBlind Pc) (hrc : rm.cells = mc) (hrs : rm.slots = ms)
    (hframes : rm.frames + 1 ≤ R.frames) (hlocals : W9 + (maxL + 11) + rm.locals ≤ R.locals)
    (hws : ∀ w ∈ ws, ∀ a' U, s.WarmedH U.vm → w.before a' U = true) (hcode : Cond.code y bytes maxL ret ∈ ws) (hinit : ∀ a' U, s.WarmedH U.vm → (Cond.initialized y.cls).before a' U = true) :
    vx_Back l R p e below s sargs y len W9 (PreOf R mc ms Pc) (PostOf Qc mc ms free) (vx_Post XC mc ms free) := by
  intro m meth c A g ig mk a X hg hsize hdg hW hn hp
  have h1 : (headSpec ws rm).pre.before a A.U = true := atoms_intro fun w hw => hws w hw _ _ X.warmed
  have h2 : (Cond.code y bytes maxL ret).before a A.U = true := hws _ hcode _ _ X.warmed
  have h3 : (Cond.initialized y.cls).before a A.U = true := hinit _ _ X.warmed
  have h4 : A.cells + (headSpec ws rm).room.cells ≤ R.cells := by rw [show (headSpec ws rm).room.cells = mc from hrc]; exact hp.1
  have h5 : A.slots + (headSpec ws rm).room.slots ≤ R.slots := by rw [show (headSpec ws rm).room.slots = ms from hrs]; exact hp.2.1
  have hPc : Pc a (A.U.calling g mk a) := hblind _ _ _ _ hp.2.2
  obtain ⟨U, Ls, c0, s0⟩ := A
  dsimp only [Pt.U, Pt.locs, Pt.cells, Pt.slots] at h1 h2 h3 h4 h5 X hn hPc ⊢
  obtain ⟨methY, cY, hmY, hcY, -, hlY, -, -, -, -⟩ := Cond.code_spec hn h2
  obtain ⟨kY, hkY, -⟩ := className_of_methodNamed hn
  have hinitY : kY.init = .initialized := Cond.initialized_spec (findClass_of_methodNamed hn) hkY h3
  have h : At U g.method c below := by rw [hg]; exact X.here
  have hlocals9 : W9 + (maxL + 11) + (headSpec ws rm).room.locals ≤ R.locals := hlocals
  have happ : (headSpec ws rm).appliesLoose y e.platform (U.calling g mk a) = true :=
    Spec.appliesLoose_calling (g := g) h hdg hn hkY hinitY
      (X.room_calling (g := g) (R' := (headSpec ws rm).room) hsize hmY hcY hframes (by rw [hlY]; omega) h4 h5) h1
  obtain ⟨mid, hmid⟩ := h.above
  have hfr : (U.setTop g).frames = (.java g :: mid) ++ below := by rw [State.frames_setTop' g h.top, hmid]; rfl
  obtain ⟨o, s₂, hsteps, -, hend, hq⟩ := Steps.callFree hM p X.admits X.cas X.clock (acts := []) hfr happ hPc trivial
  have hq' : vx_Q Qc XC mc ms free a (U.calling g mk a) o s₂ := hq
  rw [State.frames_setTop' g h.top] at hend
  obtain ⟨g₀, hg0⟩ := Option.isSome_iff_exists.mp h.top
  obtain ⟨r, hr⟩ := State.topJava?_eq_some.mp hg0
  have hr' : (({ U with heap := s₂.heap, slotsUsed := s₂.slotsUsed } : State).setVm s₂.vm).frames = .java g₀ :: r := hr
  rcases hq' with ⟨hqc, L, hfe, hL⟩ | ⟨q, rfl, E, ce, L, hx, hce, hcv, hcl, hW₂, hsm, hL⟩
  · obtain ⟨⟨v, rfl⟩, hW₂, e2, q2, q3, q4, q5, q6⟩ := id hfe
    have e3 : s₂ = ({ (U.calling g mk a).setFrames s₂.frames with heap := s₂.heap, slotsUsed := s₂.slotsUsed } : State).setVm s₂.vm := by
      have : s₂ = ({ s₂ with vm := (U.calling g mk a).vm } : State).setVm s₂.vm := rfl
      rw [e2] at this
      exact this
    obtain ⟨c₂, i₂, len₂, hc₂, hd₂, hf₂⟩ := hend
    have hW' : U.WarmedH s₂.vm := hW₂
    have hcc : c₂ = c := by
      have h1 : s₂.code? g.method = U.code? g.method := by
        rw [State.code?_eq, State.code?_eq, hW'.alike.method?]
      exact Option.some.inj (hc₂.symm.trans (h1.trans h.code))
    subst hcc
    have hlen : len₂ = len := by rw [hdg] at hd₂; cases hd₂; rfl
    subst hlen
    have hs₂ : s₂ = (({ U with heap := s₂.heap, slotsUsed := s₂.slotsUsed } : State).setVm s₂.vm).setTop { g with pc := g.pc + len₂, stack := v.toList ++ g.stack } := by
      refine e3.trans ?_
      rw [hf₂, State.calling_eq h.top, State.setFrames_setFrames, State.setTop_of_frames _ hr', hr]
      rfl
    have hsame : U.sameButNew ({ U with heap := s₂.heap, slotsUsed := s₂.slotsUsed } : State) L mc ms := by
      refine ⟨?_, q2, q3, q4, q5, q6⟩
      obtain ⟨t, ht, -⟩ := State.frames_cons hr
      show ({ U with heap := s₂.heap, slotsUsed := s₂.slotsUsed } : State) = { U.setFrames U.frames with heap := s₂.heap, slotsUsed := s₂.slotsUsed }
      rw [State.setFrames_self ht]
    subst hg
    refine Or.inl ⟨v, ⟨(({ U with heap := s₂.heap, slotsUsed := s₂.slotsUsed } : State).setVm s₂.vm), Ls ++ L, c0 + mc, s0 + ms⟩,
      ⟨X.admits, X.cas, X.clock, X.frames, X.room, X.hears, X.method, X.code, (X.here.setHeapUsed s₂.heap s₂.slotsUsed).setVm hW'.alike, X.tail, State.WarmedH.trans X.warmed hW', X.limits, X.bytes, X.same.trans (hsame.setVm s.vm)⟩,
      ⟨g, mk, s₂, L, rfl, rfl, hqc, rfl, hL, rfl, rfl⟩, ?_⟩
    show Steps p.tables e below _ ((({ U with heap := s₂.heap, slotsUsed := s₂.slotsUsed } : State).setVm s₂.vm).setTop { g with pc := g.pc + len₂, stack := v.toList ++ g.stack })
    rw [← hs₂]
    exact hsteps
  · obtain ⟨e2, q2, q3, q4, q5, q6⟩ := id hsm
    have e3 : s₂ = ({ (U.calling g mk a).setFrames s₂.frames with heap := s₂.heap, slotsUsed := s₂.slotsUsed } : State).setVm s₂.vm := by
      have : s₂ = ({ s₂ with vm := (U.calling g mk a).vm } : State).setVm s₂.vm := rfl
      rw [e2] at this
      exact this
    have hf₂ : s₂.frames = .throwing q :: .java g :: U.frames.tail := hend
    have hW' : U.WarmedH s₂.vm := hW₂
    have hs₂ : s₂ = ((({ U with heap := s₂.heap, slotsUsed := s₂.slotsUsed } : State).setVm s₂.vm).setTop g).pushFrame (.throwing q) := by
      refine e3.trans ?_
      rw [hf₂, State.calling_eq h.top, State.setFrames_setFrames, State.pushFrame, State.frames_setTop _ hr', State.setTop_of_frames _ hr', State.setFrames_setFrames, hr]
      rfl
    have hsame : U.sameButNew ({ U with heap := s₂.heap, slotsUsed := s₂.slotsUsed } : State) L mc ms := by
      refine ⟨?_, q2, q3, q4, q5, q6⟩
      obtain ⟨t, ht, -⟩ := State.frames_cons hr
      show ({ U with heap := s₂.heap, slotsUsed := s₂.slotsUsed } : State) = { U.setFrames U.frames with heap := s₂.heap, slotsUsed := s₂.slotsUsed }
      rw [State.setFrames_self ht]
    subst hg
    refine Or.inr ⟨q, ⟨(({ U with heap := s₂.heap, slotsUsed := s₂.slotsUsed } : State).setVm s₂.vm), Ls ++ L, c0 + mc, s0 + ms⟩,
      ⟨X.admits, X.cas, X.clock, X.frames, X.room, X.hears, X.method, X.code, (X.here.setHeapUsed s₂.heap s₂.slotsUsed).setVm hW'.alike, X.tail, State.WarmedH.trans X.warmed hW', X.limits, X.bytes, X.same.trans (hsame.setVm s.vm)⟩,
      ⟨g, mk, s₂, L, E, ce, rfl, rfl, hx, hce, hcv, hcl, rfl, hL, rfl, rfl⟩, ?_⟩
    show Steps p.tables e below _ (((({ U with heap := s₂.heap, slotsUsed := s₂.slotsUsed } : State).setVm s₂.vm).setTop g).pushFrame (.throwing q))
    rw [← hs₂]
    exact hsteps
end Payer
section Calls
variable {p : Program} {l : Launch} {e : Env} {R : Room} {s : State} {m : MethodId} {args : Array Value} {below : List Frame} {meth : Method} {c : Code} {T : State} {locs : List Loc} {cells slots : Nat}
theorem vx_callV (X : Stand p l e R s m args below meth c T locs cells slots) (hexec : p.tables.exec = Jvm.exec) {own C : String} {index : Nat} {y : MethodName} {bytes : ByteArray} {maxL : Nat} {ret : Option FieldType}
    (hown : s.vm.findClass own = some m.cls) (hlink : (Cond.methodLink own index y).before args s = true) (hinst : (Cond.instanceMethod y).before args s = true) (hsel : (Cond.selects C y y).before args s = true)
    (hcode : (Cond.code y bytes maxL ret).before args s = true) (hy : y.cls ≠ "java/lang/invoke/MethodHandle" ∧ y.cls ≠ "java/lang/invoke/VarHandle")
    {W9 : Nat} {Pre : Pt → Array Value → Prop} {Post : Pt → Array Value → Option Value → Pt → Prop} {PostX : Pt → Array Value → Addr → Pt → Prop} (hK : vx_Back l R p e below s args y 3 W9 Pre Post PostX)
    {b : Addr} {cellB : Cell} (hcell : T.heap[b]? = some cellB) (hobj : cellB.vm.isStatics = false) (hcls : s.vm.findClass C = some cellB.cls)
    {g : JFrame} (hg : g.method = m) (hsize : g.locals.size = c.maxLocals) {argsL rest : List Value} (hlen : ∀ sig, parseMethodDescriptor y.desc = some sig → argsL.length = sig.parameters.length)
    (hstack : g.stack = argsL.reverse ++ .ref b :: rest) (hW : 2 * g.monitorRoom + (rest.map fun v => v.category).sum ≤ W9) (hdg : decode c.code g.pc = .ok (.invokevirtual index, 3))
    (hpre : ∀ vm₁, s.WarmedH vm₁ → Pre ⟨T.setVm vm₁, locs, cells, slots⟩ (Value.ref b :: argsL).toArray) :
    (∃ (v : Option Value) (vm₁ : Vm) (B : Pt), s.WarmedH vm₁ ∧ Stand p l e R s m args below meth c B.U B.locs B.cells B.slots ∧ Post ⟨T.setVm vm₁, locs, cells, slots⟩ (Value.ref b :: argsL).toArray v B ∧
      ∀ target, Steps p.tables e below (B.U.setTop { g with pc := g.pc + 3, stack := v.toList ++ rest }) target → Steps p.tables e below (T.setTop g) target) ∨
    (∃ (q : Addr) (vm₁ : Vm) (B : Pt), s.WarmedH vm₁ ∧ Stand p l e R s m args below meth c B.U B.locs B.cells B.slots ∧ PostX ⟨T.setVm vm₁, locs, cells, slots⟩ (Value.ref b :: argsL).toArray q B ∧
      Steps p.tables e below (T.setTop g) ((B.U.setTop { g with stack := rest }).pushFrame (.throwing q))) := by
  obtain ⟨mk, methM, hnamed, hmethM, hstM, habM⟩ := Cond.instanceMethod_spec hinst
  obtain ⟨methM', cM, hmethM', -, -, -, -, -, -, hsigM⟩ := Cond.code_spec hnamed hcode
  cases hmethM.symm.trans hmethM'
  obtain ⟨c2, r2, m2, q1, q2, q3, q4, kP, hkP, hkPi⟩ := Cond.selects_spec hsel
  cases hcls.symm.trans q1
  cases (State.methodFound?_of_named hnamed hy).symm.trans q2
  cases hnamed.symm.trans q3
  have hselP : selectMethod e.platform s.vm cellB.cls mk = .method mk := by rw [Launch.admits_selectMethod X.admits]; exact q4
  obtain ⟨vm₁, X₁, hstep₁⟩ := X.invokevirtual hexec hown hlink hnamed hmethM hstM hkP hkPi hy (a := b) (cell := cellB) hcell
    (fun z h => by rw [h] at hobj; cases hobj) hselP hmethM habM hkP hkPi (g := g) hg (argsL := argsL) (rest := rest) (hlen _ hsigM) hstack hdg
  rcases hK m meth c ⟨T.setVm vm₁, locs, cells, slots⟩ { g with stack := rest } (.invokevirtual index) mk (Value.ref b :: argsL).toArray X₁ hg hsize hdg hW (X₁.named hnamed) (hpre vm₁ X₁.warmed) with ⟨v, B, X', hpost, hsteps⟩ | ⟨q, B, X', hpost, hsteps⟩
  · exact Or.inl ⟨v, vm₁, B, X₁.warmed, X', hpost, fun target h => hstep₁ _ fun acts => by rw [doInvoke_state]; exact hsteps.trans h⟩
  · exact Or.inr ⟨q, vm₁, B, X₁.warmed, X', hpost, hstep₁ _ fun acts => by rw [doInvoke_state]; exact hsteps⟩
theorem vx_callS (X : Stand p l e R s m args below meth c T locs cells slots) (hexec : p.tables.exec = Jvm.exec) {own : String} {index : Nat} {y : MethodName} {bytes : ByteArray} {maxL : Nat} {ret : Option FieldType}
    (hown : s.vm.findClass own = some m.cls) (hlink : (Cond.methodLink own index y).before args s = true) (hstat : (Cond.static y).before args s = true) (hinit : (Cond.initialized y.cls).before args s = true)
    (hcode : (Cond.code y bytes maxL ret).before args s = true) (hy : y.cls ≠ "java/lang/invoke/MethodHandle" ∧ y.cls ≠ "java/lang/invoke/VarHandle")
    {W9 : Nat} {Pre : Pt → Array Value → Prop} {Post : Pt → Array Value → Option Value → Pt → Prop} {PostX : Pt → Array Value → Addr → Pt → Prop} (hK : vx_Back l R p e below s args y 3 W9 Pre Post PostX)
    {g : JFrame} (hg : g.method = m) (hsize : g.locals.size = c.maxLocals) {argsL rest : List Value} (hlen : ∀ sig, parseMethodDescriptor y.desc = some sig → argsL.length = sig.parameters.length)
    (hstack : g.stack = argsL.reverse ++ rest) (hW : 2 * g.monitorRoom + (rest.map fun v => v.category).sum ≤ W9) (hdg : decode c.code g.pc = .ok (.invokestatic index, 3))
    (hpre : ∀ vm₁, s.WarmedH vm₁ → Pre ⟨T.setVm vm₁, locs, cells, slots⟩ argsL.toArray) :
    (∃ (v : Option Value) (vm₁ : Vm) (B : Pt), s.WarmedH vm₁ ∧ Stand p l e R s m args below meth c B.U B.locs B.cells B.slots ∧ Post ⟨T.setVm vm₁, locs, cells, slots⟩ argsL.toArray v B ∧
      ∀ target, Steps p.tables e below (B.U.setTop { g with pc := g.pc + 3, stack := v.toList ++ rest }) target → Steps p.tables e below (T.setTop g) target) ∨
    (∃ (q : Addr) (vm₁ : Vm) (B : Pt), s.WarmedH vm₁ ∧ Stand p l e R s m args below meth c B.U B.locs B.cells B.slots ∧ PostX ⟨T.setVm vm₁, locs, cells, slots⟩ argsL.toArray q B ∧
      Steps p.tables e below (T.setTop g) ((B.U.setTop { g with stack := rest }).pushFrame (.throwing q))) := by
  obtain ⟨mk, hnamed⟩ := Cond.code_named hcode
  obtain ⟨methM, cM, hmethM, -, -, -, -, -, -, hsigM⟩ := Cond.code_spec hnamed hcode
  have hstatic : methM.isStatic = true := Cond.static_spec hnamed hmethM hstat
  obtain ⟨kP, hkP, -⟩ := className_of_methodNamed hnamed
  have hinitP : kP.init = .initialized := Cond.initialized_spec (findClass_of_methodNamed hnamed) hkP hinit
  obtain ⟨vm₁, X₁, hstep₁⟩ := X.invokestatic hexec hown hlink hnamed hmethM hstatic hkP hinitP hy (g := g) hg (argsL := argsL) (rest := rest) (hlen _ hsigM) hstack hdg
  rcases hK m meth c ⟨T.setVm vm₁, locs, cells, slots⟩ { g with stack := rest } (.invokestatic index) mk argsL.toArray X₁ hg hsize hdg hW (X₁.named hnamed) (hpre vm₁ X₁.warmed) with ⟨v, B, X', hpost, hsteps⟩ | ⟨q, B, X', hpost, hsteps⟩
  · exact Or.inl ⟨v, vm₁, B, X₁.warmed, X', hpost, fun target h => hstep₁ _ fun acts => by rw [doInvoke_state]; exact hsteps.trans h⟩
  · exact Or.inr ⟨q, vm₁, B, X₁.warmed, X', hpost, hstep₁ _ fun acts => by rw [doInvoke_state]; exact hsteps⟩
end Calls
theorem vx_cls {s : State} {T : State} {vm₁ : Vm} {E : String} {k : ClassId} (hW : s.WarmedH vm₁) (h : (T.setVm vm₁).vm.findClass E = some k) : s.vm.findClass E = some k := by
  have h1 : vm₁.findClass E = some k := h
  rw [hW.alike.findClass] at h1
  exact h1
/-- the method's frame g, with q thrown over it -/
def vx_W (p : Program) (l : Launch) (e : Env) (R : Room) (s : State) (m : MethodId) (args : Array Value) (below : List Frame) (meth : Method) (c : Code) (H : Heap) (locs : List Loc) (cells slots : Nat) (Q : State → Prop) (g : JFrame) (q : Addr) : Prop :=
  ∀ T : State, T.heap = H → Stand p l e R s m args below meth c T locs cells slots → ∃ t, Steps p.tables e below ((T.setTop g).pushFrame (.throwing q)) t ∧ Q t
def vx_Run (p : Program) (l : Launch) (e : Env) (R : Room) (s : State) (m : MethodId) (args : Array Value) (below : List Frame) (meth : Method) (c : Code) (H : Heap) (locs : List Loc) (cells slots mc ms : Nat) (g : JFrame) (rest : List Value) (Qa : State → Outcome → State → Prop) (XC : String → State → State → Prop) (free : Addr → Prop) : Prop :=
  ∀ T : State, T.heap = H → Stand p l e R s m args below meth c T locs cells slots →
    (∃ (v : Option Value) (st₀ t T' : State) (L : List Loc), st₀.heap = H ∧ Stand p l e R s m args below meth c T' (locs ++ L) (cells + mc) (slots + ms) ∧ (∀ q ∈ L, free q.base) ∧ T'.heap = t.heap ∧ T'.vm = t.vm ∧ Qa st₀ (.returned v) t ∧
      Goes p e below T g T' { g with pc := g.pc + 3, stack := v.toList ++ rest }) ∨
    (∃ (q : Addr) (st₀ t T' : State) (L : List Loc) (E : String) (ce : Cell), st₀.heap = H ∧ Stand p l e R s m args below meth c T' (locs ++ L) (cells + mc) (slots + ms) ∧ (∀ z ∈ L, free z.base) ∧ T'.heap = t.heap ∧ T'.vm = t.vm ∧ XC E st₀ t ∧ t.heap[q]? = some ce ∧ ce.vm = .none ∧ s.vm.findClass E = some ce.cls ∧
      Steps p.tables e below (T.setTop g) ((T'.setTop { g with stack := rest }).pushFrame (.throwing q)))
def vx_X {S : Type} (px : S → Prop) (B : String → S → State → Prop) (A : Nat → Prop) : String → State → State → Prop := fun E st t => ∃ u : S, px u ∧ B E u t ∧ va_F A st t
section Runs
variable {p : Program} {l : Launch} {e : Env} {R : Room} {s : State} {m : MethodId} {args : Array Value} {below : List Frame} {meth : Method} {c : Code} {H : Heap} {locs : List Loc} {cells slots : Nat}
variable {y : MethodName} {bytes cc : ByteArray} {maxL nL mc ms n index : Nat} {ret : Option FieldType} {ws : List Cond} {rm : Room} {Pc : Array Value → State → Prop} {Qc : Array Value → State → Outcome → State → Prop} {XC : String → State → State → Prop} {free : Addr → Prop} {Ts : List Cond} {own C : String} {b : Addr} {As rest : List Value} {g : JFrame}
theorem vx_callBack (cb : CallB R s args own index y bytes maxL ret ws rm mc ms n) (hM : vx_Met l y ws rm Pc Qc XC mc ms free) (hbl : FrameBlind Pc) : vx_Back l R p e below s args y 3 8 (PreOf R mc ms Pc) (PostOf Qc mc ms free) (vx_Post XC mc ms free) := by
  obtain ⟨hrc, hrs, hfr, hlo, hws, hcw, -, hini, -⟩ := cb
  exact vx_back (bytes := bytes) (maxL := maxL) (ret := ret) hM hbl hrc hrs hfr hlo hws hcw (fun a' U hW => word_at hW (Or.inl (by first | rfl | simp [Cond.onTables, Cond.keeps, Cond.steady])) hini)
theorem vx_runV (S : CallFix p m c cc nL s args Ts own) (hM : vx_Met l y ws rm Pc Qc XC mc ms free) (cw : CallW R s args own C index y bytes maxL ret ws rm mc ms n) (hp : PreV s H C b Pc As)
    (hg : g.method = m) (hn : As.length = n) (hsize : g.locals.size = nL) (hstack : g.stack = As.reverse ++ .ref b :: rest) (hW : 2 * g.monitorRoom + (rest.map fun v => v.category).sum ≤ 8) (hdg : decode cc g.pc = .ok (.invokevirtual index, 3)) (hf : cells + mc ≤ R.cells ∧ slots + ms ≤ R.slots) :
    vx_Run p l e R s m args below meth c H locs cells slots mc ms g rest (Qc (Value.ref b :: As).toArray) XC free := by
  have hK : vx_Back l R p e below s args y 3 8 (PreOf R mc ms Pc) (PostOf Qc mc ms free) (vx_Post XC mc ms free) := vx_callBack cw.1 hM hp.1
  obtain ⟨⟨-, -, -, -, -, -, hcode, -, hy, hlen, hl⟩, hin, hse⟩ := cw
  obtain ⟨hx, hb, hml, ho, -⟩ := S
  obtain ⟨-, ⟨cellB, hcB, hoB, hclB⟩, hPc⟩ := hp
  intro T hT X
  rcases vx_callV X hx (C := C) (bytes := bytes) (maxL := maxL) (ret := ret) ho hl hin hse hcode hy hK (by rw [hT]; exact hcB) hoB hclB hg (hsize.trans hml.symm) (argsL := As) (rest := rest) (fun sig h => hn.trans (hlen sig h)) hstack hW (by rw [hb]; exact hdg)
    (fun vm₁ hW₁ => ⟨hf.1, hf.2, hPc (T.setVm vm₁) hT hW₁⟩) with ⟨v, vm₁, ⟨U', l2, c2, s2⟩, hW₁, X', ⟨g', mk, t, L, e1, e2, hq, h1, hL, h2, h3⟩, st⟩ | ⟨q, vm₁, ⟨U', l2, c2, s2⟩, hW₁, X', ⟨g', mk, t, L, E, ce, e1, e2, hq, hce, hcv, hcl, h1, hL, h2, h3⟩, st⟩
  · dsimp only [Pt.U, Pt.locs, Pt.cells, Pt.slots] at X' e1 e2 h1 h2 h3 st
    subst h1; subst h2; subst h3
    exact Or.inl ⟨v, (T.setVm vm₁).calling g' mk (Value.ref b :: As).toArray, t, U', L, hT, X', hL, e1, e2, hq, st⟩
  · dsimp only [Pt.U, Pt.locs, Pt.cells, Pt.slots] at X' e1 e2 h1 h2 h3 st hcl
    subst h1; subst h2; subst h3
    exact Or.inr ⟨q, (T.setVm vm₁).calling g' mk (Value.ref b :: As).toArray, t, U', L, E, ce, hT, X', hL, e1, e2, hq, hce, hcv, vx_cls hW₁ hcl, st⟩
theorem vx_runS (S : CallFix p m c cc nL s args Ts own) (hM : vx_Met l y ws rm Pc Qc XC mc ms free) (cw : CallB R s args own index y bytes maxL ret ws rm mc ms n ∧ (Cond.static y).before args s = true) (hp : PreS s H Pc As)
    (hg : g.method = m) (hn : As.length = n) (hsize : g.locals.size = nL) (hstack : g.stack = As.reverse ++ rest) (hW : 2 * g.monitorRoom + (rest.map fun v => v.category).sum ≤ 8) (hdg : decode cc g.pc = .ok (.invokestatic index, 3)) (hf : cells + mc ≤ R.cells ∧ slots + ms ≤ R.slots) :
    vx_Run p l e R s m args below meth c H locs cells slots mc ms g rest (Qc As.toArray) XC free := by
  have hK : vx_Back l R p e below s args y 3 8 (PreOf R mc ms Pc) (PostOf Qc mc ms free) (vx_Post XC mc ms free) := vx_callBack cw.1 hM hp.1
  obtain ⟨⟨-, -, -, -, -, -, hcode, hini, hy, hlen, hl⟩, hstt⟩ := cw
  obtain ⟨hx, hb, hml, ho, -⟩ := S
  intro T hT X
  rcases vx_callS X hx (bytes := bytes) (maxL := maxL) (ret := ret) ho hl hstt hini hcode hy hK hg (hsize.trans hml.symm) (argsL := As) (rest := rest) (fun sig h => hn.trans (hlen sig h)) hstack hW (by rw [hb]; exact hdg)
    (fun vm₁ hW₁ => ⟨hf.1, hf.2, hp.2 (T.setVm vm₁) hT hW₁⟩) with ⟨v, vm₁, ⟨U', l2, c2, s2⟩, hW₁, X', ⟨g', mk, t, L, e1, e2, hq, h1, hL, h2, h3⟩, st⟩ | ⟨q, vm₁, ⟨U', l2, c2, s2⟩, hW₁, X', ⟨g', mk, t, L, E, ce, e1, e2, hq, hce, hcv, hcl, h1, hL, h2, h3⟩, st⟩
  · dsimp only [Pt.U, Pt.locs, Pt.cells, Pt.slots] at X' e1 e2 h1 h2 h3 st
    subst h1; subst h2; subst h3
    exact Or.inl ⟨v, (T.setVm vm₁).calling g' mk As.toArray, t, U', L, hT, X', hL, e1, e2, hq, st⟩
  · dsimp only [Pt.U, Pt.locs, Pt.cells, Pt.slots] at X' e1 e2 h1 h2 h3 st hcl
    subst h1; subst h2; subst h3
    exact Or.inr ⟨q, (T.setVm vm₁).calling g' mk As.toArray, t, U', L, E, ce, hT, X', hL, e1, e2, hq, hce, hcv, vx_cls hW₁ hcl, st⟩
end Runs
section Rows
variable {p : Program} {l : Launch} {e : Env} {R : Room} {s : State} {m : MethodId} {args : Array Value} {below : List Frame} {meth : Method} {c : Code} {H : Heap} {locs : List Loc} {cells slots : Nat} {Q : State → Prop}
variable {mc ms : Nat} {free : Addr → Prop} {A0 A1 : Nat → Prop} {H0 : Heap} {a : Array Value} {pc : Nat} {ls : Array Slot} {st0 rest : List Value}
theorem vx_keep {st₀ t T' : State} {L : List Loc} (h0 : st₀.heap = H) (e1 : T'.heap = t.heap) (hS : va_S A0 H0 H locs) (hA : ∀ q, q < H.size → A1 q → A0 q) (hf : ∀ q, free q → A0 q) (hL : ∀ q ∈ L, free q.base) (hF : va_F A1 st₀ t) :
    H.size ≤ T'.heap.size ∧ (∀ q : Nat, q < H.size → ¬ A1 q → T'.heap[q]? = H[q]?) ∧ va_S A0 H0 T'.heap (locs ++ L) := by
  obtain ⟨hz, hk⟩ := hF
  rw [h0] at hz hk
  exact ⟨by rw [e1]; exact hz, fun q h1 h2 => by rw [e1]; exact hk q h1 h2,
    ⟨Nat.le_trans hS.1 (by rw [e1]; exact hz), fun q h1 h2 => by rw [e1, hk q (Nat.lt_of_lt_of_le h1 hS.1) (fun z => h2 (hA q (Nat.lt_of_lt_of_le h1 hS.1) z))]; exact hS.2.1 q h1 h2, fun q hq => by
      rcases List.mem_append.mp hq with h | h
      · exact hS.2.2 q h
      · exact hf _ (hL q h)⟩⟩
theorem vx_calli {S SX : Type} {post : Int32 → S → Prop} {px : SX → Prop} {B : S → State → Prop} {BX : String → SX → State → Prop} {AX : Nat → Prop} (hr : vx_Run p l e R s m args below meth c H locs cells slots mc ms (F0 m pc ls st0) rest (va_Qi post B A1 a) (vx_X px BX AX) free) (hS : va_S A0 H0 H locs) (hA : ∀ q, q < H.size → A1 q → A0 q) (hf : ∀ q, free q → A0 q) (hAX : ∀ q, q < H.size → AX q → A0 q)
    (kx : ∀ (E : String) (ce : Cell) (q9 : Addr) (u : SX) (t : State) (H1 : Heap) (locs1 : List Loc), t.heap = H1 → s.vm.Alike t.vm → px u → BX E u t → H.size ≤ H1.size → (∀ q : Nat, q < H.size → ¬ AX q → H1[q]? = H[q]?) → va_S A0 H0 H1 locs1 → H1[q9]? = some ce → ce.vm = .none → s.vm.findClass E = some ce.cls → vx_W p l e R s m args below meth c H1 locs1 (cells + mc) (slots + ms) Q (F0 m pc ls rest) q9)
    (kk : ∀ (r : Int32) (u : S) (t : State) (H1 : Heap) (locs1 : List Loc), t.heap = H1 → s.vm.Alike t.vm → post r u → B u t → H.size ≤ H1.size → (∀ q : Nat, q < H.size → ¬ A1 q → H1[q]? = H[q]?) → va_S A0 H0 H1 locs1 → W p l e R s m args below meth c H1 locs1 (cells + mc) (slots + ms) Q (F0 m (pc + 3) ls (.int r :: rest))) : W p l e R s m args below meth c H locs cells slots Q (F0 m pc ls st0) := by
  intro T hT X
  rcases hr T hT X with ⟨v, st₀, t, T', L, h0, X', hL, e1, e2, ⟨⟨r, u, hv, hp, hb⟩, hF⟩, st⟩ | ⟨q, st₀, t, T', L, E, ce, h0, X', hL, e1, e2, ⟨u, hp, hb, hF⟩, hce, hcv, hcl, st⟩
  · cases hv
    obtain ⟨k1, k2, k3⟩ := vx_keep h0 e1 hS hA hf hL hF
    obtain ⟨t2, a1, b1⟩ := kk r u t T'.heap (locs ++ L) e1.symm (by rw [← e2]; exact X'.warmed.alike) hp hb k1 k2 k3 T' rfl X'
    exact ⟨t2, st t2 a1, b1⟩
  · obtain ⟨k1, k2, k3⟩ := vx_keep h0 e1 hS hAX hf hL hF
    obtain ⟨t2, a1, b1⟩ := kx E ce q u t T'.heap (locs ++ L) e1.symm (by rw [← e2]; exact X'.warmed.alike) hp hb k1 k2 k3 (by rw [e1]; exact hce) hcv hcl T' rfl X'
    exact ⟨t2, st.trans a1, b1⟩
theorem vx_calll {S SX : Type} {post : Int64 → S → Prop} {px : SX → Prop} {B : S → State → Prop} {BX : String → SX → State → Prop} {AX : Nat → Prop} (hr : vx_Run p l e R s m args below meth c H locs cells slots mc ms (F0 m pc ls st0) rest (va_Ql post B A1 a) (vx_X px BX AX) free) (hS : va_S A0 H0 H locs) (hA : ∀ q, q < H.size → A1 q → A0 q) (hf : ∀ q, free q → A0 q) (hAX : ∀ q, q < H.size → AX q → A0 q)
    (kx : ∀ (E : String) (ce : Cell) (q9 : Addr) (u : SX) (t : State) (H1 : Heap) (locs1 : List Loc), t.heap = H1 → s.vm.Alike t.vm → px u → BX E u t → H.size ≤ H1.size → (∀ q : Nat, q < H.size → ¬ AX q → H1[q]? = H[q]?) → va_S A0 H0 H1 locs1 → H1[q9]? = some ce → ce.vm = .none → s.vm.findClass E = some ce.cls → vx_W p l e R s m args below meth c H1 locs1 (cells + mc) (slots + ms) Q (F0 m pc ls rest) q9)
    (kk : ∀ (r : Int64) (u : S) (t : State) (H1 : Heap) (locs1 : List Loc), t.heap = H1 → s.vm.Alike t.vm → post r u → B u t → H.size ≤ H1.size → (∀ q : Nat, q < H.size → ¬ A1 q → H1[q]? = H[q]?) → va_S A0 H0 H1 locs1 → W p l e R s m args below meth c H1 locs1 (cells + mc) (slots + ms) Q (F0 m (pc + 3) ls (.long r :: rest))) : W p l e R s m args below meth c H locs cells slots Q (F0 m pc ls st0) := by
  intro T hT X
  rcases hr T hT X with ⟨v, st₀, t, T', L, h0, X', hL, e1, e2, ⟨⟨r, u, hv, hp, hb⟩, hF⟩, st⟩ | ⟨q, st₀, t, T', L, E, ce, h0, X', hL, e1, e2, ⟨u, hp, hb, hF⟩, hce, hcv, hcl, st⟩
  · cases hv
    obtain ⟨k1, k2, k3⟩ := vx_keep h0 e1 hS hA hf hL hF
    obtain ⟨t2, a1, b1⟩ := kk r u t T'.heap (locs ++ L) e1.symm (by rw [← e2]; exact X'.warmed.alike) hp hb k1 k2 k3 T' rfl X'
    exact ⟨t2, st t2 a1, b1⟩
  · obtain ⟨k1, k2, k3⟩ := vx_keep h0 e1 hS hAX hf hL hF
    obtain ⟨t2, a1, b1⟩ := kx E ce q u t T'.heap (locs ++ L) e1.symm (by rw [← e2]; exact X'.warmed.alike) hp hb k1 k2 k3 (by rw [e1]; exact hce) hcv hcl T' rfl X'
    exact ⟨t2, st.trans a1, b1⟩
theorem vx_callf {S SX : Type} {post : UInt32 → S → Prop} {px : SX → Prop} {B : S → State → Prop} {BX : String → SX → State → Prop} {AX : Nat → Prop} (hr : vx_Run p l e R s m args below meth c H locs cells slots mc ms (F0 m pc ls st0) rest (va_Qf post B A1 a) (vx_X px BX AX) free) (hS : va_S A0 H0 H locs) (hA : ∀ q, q < H.size → A1 q → A0 q) (hf : ∀ q, free q → A0 q) (hAX : ∀ q, q < H.size → AX q → A0 q)
    (kx : ∀ (E : String) (ce : Cell) (q9 : Addr) (u : SX) (t : State) (H1 : Heap) (locs1 : List Loc), t.heap = H1 → s.vm.Alike t.vm → px u → BX E u t → H.size ≤ H1.size → (∀ q : Nat, q < H.size → ¬ AX q → H1[q]? = H[q]?) → va_S A0 H0 H1 locs1 → H1[q9]? = some ce → ce.vm = .none → s.vm.findClass E = some ce.cls → vx_W p l e R s m args below meth c H1 locs1 (cells + mc) (slots + ms) Q (F0 m pc ls rest) q9)
    (kk : ∀ (r : UInt32) (u : S) (t : State) (H1 : Heap) (locs1 : List Loc), t.heap = H1 → s.vm.Alike t.vm → post r u → B u t → H.size ≤ H1.size → (∀ q : Nat, q < H.size → ¬ A1 q → H1[q]? = H[q]?) → va_S A0 H0 H1 locs1 → W p l e R s m args below meth c H1 locs1 (cells + mc) (slots + ms) Q (F0 m (pc + 3) ls (.float r :: rest))) : W p l e R s m args below meth c H locs cells slots Q (F0 m pc ls st0) := by
  intro T hT X
  rcases hr T hT X with ⟨v, st₀, t, T', L, h0, X', hL, e1, e2, ⟨⟨r, u, hv, hp, hb⟩, hF⟩, st⟩ | ⟨q, st₀, t, T', L, E, ce, h0, X', hL, e1, e2, ⟨u, hp, hb, hF⟩, hce, hcv, hcl, st⟩
  · cases hv
    obtain ⟨k1, k2, k3⟩ := vx_keep h0 e1 hS hA hf hL hF
    obtain ⟨t2, a1, b1⟩ := kk r u t T'.heap (locs ++ L) e1.symm (by rw [← e2]; exact X'.warmed.alike) hp hb k1 k2 k3 T' rfl X'
    exact ⟨t2, st t2 a1, b1⟩
  · obtain ⟨k1, k2, k3⟩ := vx_keep h0 e1 hS hAX hf hL hF
    obtain ⟨t2, a1, b1⟩ := kx E ce q u t T'.heap (locs ++ L) e1.symm (by rw [← e2]; exact X'.warmed.alike) hp hb k1 k2 k3 (by rw [e1]; exact hce) hcv hcl T' rfl X'
    exact ⟨t2, st.trans a1, b1⟩
theorem vx_calld {S SX : Type} {post : UInt64 → S → Prop} {px : SX → Prop} {B : S → State → Prop} {BX : String → SX → State → Prop} {AX : Nat → Prop} (hr : vx_Run p l e R s m args below meth c H locs cells slots mc ms (F0 m pc ls st0) rest (va_Qd post B A1 a) (vx_X px BX AX) free) (hS : va_S A0 H0 H locs) (hA : ∀ q, q < H.size → A1 q → A0 q) (hf : ∀ q, free q → A0 q) (hAX : ∀ q, q < H.size → AX q → A0 q)
    (kx : ∀ (E : String) (ce : Cell) (q9 : Addr) (u : SX) (t : State) (H1 : Heap) (locs1 : List Loc), t.heap = H1 → s.vm.Alike t.vm → px u → BX E u t → H.size ≤ H1.size → (∀ q : Nat, q < H.size → ¬ AX q → H1[q]? = H[q]?) → va_S A0 H0 H1 locs1 → H1[q9]? = some ce → ce.vm = .none → s.vm.findClass E = some ce.cls → vx_W p l e R s m args below meth c H1 locs1 (cells + mc) (slots + ms) Q (F0 m pc ls rest) q9)
    (kk : ∀ (r : UInt64) (u : S) (t : State) (H1 : Heap) (locs1 : List Loc), t.heap = H1 → s.vm.Alike t.vm → post r u → B u t → H.size ≤ H1.size → (∀ q : Nat, q < H.size → ¬ A1 q → H1[q]? = H[q]?) → va_S A0 H0 H1 locs1 → W p l e R s m args below meth c H1 locs1 (cells + mc) (slots + ms) Q (F0 m (pc + 3) ls (.double r :: rest))) : W p l e R s m args below meth c H locs cells slots Q (F0 m pc ls st0) := by
  intro T hT X
  rcases hr T hT X with ⟨v, st₀, t, T', L, h0, X', hL, e1, e2, ⟨⟨r, u, hv, hp, hb⟩, hF⟩, st⟩ | ⟨q, st₀, t, T', L, E, ce, h0, X', hL, e1, e2, ⟨u, hp, hb, hF⟩, hce, hcv, hcl, st⟩
  · cases hv
    obtain ⟨k1, k2, k3⟩ := vx_keep h0 e1 hS hA hf hL hF
    obtain ⟨t2, a1, b1⟩ := kk r u t T'.heap (locs ++ L) e1.symm (by rw [← e2]; exact X'.warmed.alike) hp hb k1 k2 k3 T' rfl X'
    exact ⟨t2, st t2 a1, b1⟩
  · obtain ⟨k1, k2, k3⟩ := vx_keep h0 e1 hS hAX hf hL hF
    obtain ⟨t2, a1, b1⟩ := kx E ce q u t T'.heap (locs ++ L) e1.symm (by rw [← e2]; exact X'.warmed.alike) hp hb k1 k2 k3 (by rw [e1]; exact hce) hcv hcl T' rfl X'
    exact ⟨t2, st.trans a1, b1⟩
theorem vx_callv {S SX : Type} {post : S → Prop} {px : SX → Prop} {B : S → State → Prop} {BX : String → SX → State → Prop} {AX : Nat → Prop} (hr : vx_Run p l e R s m args below meth c H locs cells slots mc ms (F0 m pc ls st0) rest (va_Qv post B A1 a) (vx_X px BX AX) free) (hS : va_S A0 H0 H locs) (hA : ∀ q, q < H.size → A1 q → A0 q) (hf : ∀ q, free q → A0 q) (hAX : ∀ q, q < H.size → AX q → A0 q)
    (kx : ∀ (E : String) (ce : Cell) (q9 : Addr) (u : SX) (t : State) (H1 : Heap) (locs1 : List Loc), t.heap = H1 → s.vm.Alike t.vm → px u → BX E u t → H.size ≤ H1.size → (∀ q : Nat, q < H.size → ¬ AX q → H1[q]? = H[q]?) → va_S A0 H0 H1 locs1 → H1[q9]? = some ce → ce.vm = .none → s.vm.findClass E = some ce.cls → vx_W p l e R s m args below meth c H1 locs1 (cells + mc) (slots + ms) Q (F0 m pc ls rest) q9)
    (kk : ∀ (u : S) (t : State) (H1 : Heap) (locs1 : List Loc), t.heap = H1 → s.vm.Alike t.vm → post u → B u t → H.size ≤ H1.size → (∀ q : Nat, q < H.size → ¬ A1 q → H1[q]? = H[q]?) → va_S A0 H0 H1 locs1 → W p l e R s m args below meth c H1 locs1 (cells + mc) (slots + ms) Q (F0 m (pc + 3) ls (rest))) : W p l e R s m args below meth c H locs cells slots Q (F0 m pc ls st0) := by
  intro T hT X
  rcases hr T hT X with ⟨v, st₀, t, T', L, h0, X', hL, e1, e2, ⟨⟨u, hv, hp, hb⟩, hF⟩, st⟩ | ⟨q, st₀, t, T', L, E, ce, h0, X', hL, e1, e2, ⟨u, hp, hb, hF⟩, hce, hcv, hcl, st⟩
  · cases hv
    obtain ⟨k1, k2, k3⟩ := vx_keep h0 e1 hS hA hf hL hF
    obtain ⟨t2, a1, b1⟩ := kk u t T'.heap (locs ++ L) e1.symm (by rw [← e2]; exact X'.warmed.alike) hp hb k1 k2 k3 T' rfl X'
    exact ⟨t2, st t2 a1, b1⟩
  · obtain ⟨k1, k2, k3⟩ := vx_keep h0 e1 hS hAX hf hL hF
    obtain ⟨t2, a1, b1⟩ := kx E ce q u t T'.heap (locs ++ L) e1.symm (by rw [← e2]; exact X'.warmed.alike) hp hb k1 k2 k3 (by rw [e1]; exact hce) hcv hcl T' rfl X'
    exact ⟨t2, st.trans a1, b1⟩
/-- caught by the row x of this method's table; the rows ahead don't take it -/
theorem vx_catch {own name : String} {E : String} {ce : Cell} {q : Addr} (hown : s.vm.findClass own = some m.cls) (pre : List ExceptionTableEntry) (x : ExceptionTableEntry) (suf : List ExceptionTableEntry) (hsplit : c.exceptionTable.toList = pre ++ x :: suf)
    (hpass : ∀ z ∈ pre, covers z pc = false ∨ (z.catchType ≠ 0 ∧ ∃ nm : String, (Cond.classLink own z.catchType nm).before args s = true ∧ va_Nc E nm s)) (hx : covers x pc = true) (h0 : x.catchType ≠ 0)
    (hlink : (Cond.classLink own x.catchType name).before args s = true) (hcast : (Cond.castable E name).before args s = true) (hcell : H[q]? = some ce) (hv : ce.vm = .none) (hcl : s.vm.findClass E = some ce.cls)
    (kk : W p l e R s m args below meth c H locs cells slots Q (F0 m x.handlerPc ls [.ref q])) : vx_W p l e R s m args below meth c H locs cells slots Q (F0 m pc ls rest) q := by
  intro T hT X
  have hpl : e.platform.magicAccessors = ({} : Platform).magicAccessors := by rw [X.admits.platform]
  obtain ⟨c3, c4, hc3, hc4, hasg⟩ := Cond.castable_spec hcast
  cases Option.some.inj (hc3.symm.trans hcl)
  obtain ⟨c5, hc5, hcl5⟩ := Cond.classLink_spec hown hlink e.platform hpl
  cases Option.some.inj (hc4.symm.trans hc5)
  obtain ⟨vm', X', st⟩ := zc_caught X q (g := F0 m pc ls rest) rfl (Steps.refl _) (by rw [hT]; exact hcell) (by rw [hv]; rfl) (by obtain ⟨k9, h9, -⟩ := Vm.findClass_spec hcl; exact ⟨k9, h9⟩) pre x suf hsplit
    (fun z hz => by
      rcases hpass z hz with h | ⟨hz0, nm, hl1, hn1⟩
      · exact Or.inl h
      · obtain ⟨c6, hc6, hcl6⟩ := Cond.classLink_spec hown hl1 e.platform hpl
        obtain ⟨a8, b8, h1, h2, h3⟩ := hn1
        cases Option.some.inj (h1.symm.trans hcl)
        cases Option.some.inj (h2.symm.trans hc6)
        exact Or.inr ⟨hz0, _, hcl6, h3⟩) hx (Or.inr ⟨h0, c4, hcl5, hasg⟩)
  obtain ⟨t, a1, b1⟩ := kk (T.setVm vm') hT X'
  exact ⟨t, st.trans a1, b1⟩
end Rows
section Ends
variable {p : Program} {l : Launch} {e : Env} {R : Room} {s : State} {m : MethodId} {args : Array Value} {below : List Frame} {meth : Method} {c : Code} {H : Heap} {locs : List Loc} {cells slots : Nat} {Q : State → Prop}
variable {mc ms : Nat} {free : Addr → Prop} {A0 A1 : Nat → Prop} {H0 : Heap} {a : Array Value} {ls : Array Slot} {st0 rest : List Value}
variable {Qc : Array Value → State → Outcome → State → Prop} {XC : String → State → State → Prop}
/-- what a body that may throw owes at its end -/
def vx_MQ (below : List Frame) (Qc : Array Value → State → Outcome → State → Prop) (XC : String → State → State → Prop) (a : Array Value) (s : State) (mc ms : Nat) (free : Addr → Prop) : State → Prop := fun t =>
  ∃ o, t.status = .running ∧ Ended t below o ∧ vx_Q Qc XC mc ms free a s o t
theorem vx_ret {g : JFrame} {mc ms : Nat} (k : W p l e R s m args below meth c H locs cells slots (MQ below Qc args s mc ms free) g) : W p l e R s m args below meth c H locs cells slots (vx_MQ below Qc XC args s mc ms free) g := by
  intro T hT X
  obtain ⟨t, a1, o, b1, b2, b3, b4⟩ := k T hT X
  exact ⟨t, a1, o, b1, b2, Or.inl ⟨b3, b4⟩⟩
/-- not caught here: it goes on to the caller -/
theorem vx_widen {g : JFrame} {q : Addr} {k n : Nat} (h1 : cells ≤ k) (h2 : slots ≤ n) (kk : vx_W p l e R s m args below meth c H locs k n Q g q) : vx_W p l e R s m args below meth c H locs cells slots Q g q := fun T hT X => kk T hT (stand_widen X h1 h2)
theorem vx_out {pc : Nat} {E : String} {ce : Cell} {q : Addr} {mc ms : Nat} (hout : ∀ x ∈ c.exceptionTable.toList, covers x pc = false) (hlocks : meth.locks = false) (hcell : H[q]? = some ce) (hv : ce.vm = .none) (hcl : s.vm.findClass E = some ce.cls)
    (hx : ∀ t : State, t.heap = H → s.vm.Alike t.vm → XC E s t) (hf : ∀ z ∈ locs, free z.base) (hc : cells ≤ mc) (hs : slots ≤ ms) :
    vx_W p l e R s m args below meth c H locs cells slots (vx_MQ below Qc XC args s mc ms free) (F0 m pc ls rest) q := by
  intro T hT X
  obtain ⟨st1, hrun, hend, hW, hsm⟩ := X.leaveThrown q (g := F0 m pc ls rest) rfl rfl rfl hout hlocks
  have hcell9 : (T.setFrames (.throwing q :: below)).heap[q]? = some ce := by
    show T.heap[q]? = some ce
    rw [hT]; exact hcell
  exact ⟨_, st1, .threw q, hrun, hend, Or.inr ⟨q, rfl, E, ce, locs, hx _ hT hW.alike, hcell9, hv, hcl, hW, hsm.mono hc hs, hf⟩⟩
theorem vx_frame {U : State} {k n : Nat} (h : s.sameButNew ({ U with vm := s.vm } : State) locs k n) : s.heap.size ≤ U.heap.size ∧ ∀ q : Nat, q < s.heap.size → (∀ z ∈ locs, z.base ≠ q) → U.heap[q]? = s.heap[q]? := by
  obtain ⟨-, h2, -, -, -, h6⟩ := h
  refine ⟨h2, fun q hq hz => ?_⟩
  obtain ⟨c9, e1, e2, e3, e4⟩ := h6 q _ (Array.getElem?_eq_getElem hq)
  have hs : c9.slots = (s.heap[q]).slots := Array.ext_getElem? fun i => e4 i fun hm => hz _ hm rfl
  have h9 : c9 = s.heap[q] := by
    rw [hs] at e2
    exact e2
  have e5 : U.heap[q]? = some c9 := e1
  rw [e5, h9, Array.getElem?_eq_getElem hq]
/-- the words of a throw but the four that speak of the heap -/
def vx_no (w : Cond) : Bool := decide (w ≠ .isRef (.static Bundle.tN "UNASSIGNED_STACK" Bundle.steD)) && decide (w ≠ .isRef (.static Bundle.tN "SUPPRESSED_SENTINEL" Bundle.listD)) && decide (w ≠ .laysStatic Bundle.tN "UNASSIGNED_STACK" Bundle.steD) && decide (w ≠ .laysStatic Bundle.tN "SUPPRESSED_SENTINEL" Bundle.listD)
def vx_at0 (own : String) (ic : Nat) (X : String) (names : List String) : List Cond := (Bundle.ownAtoms0 own ic X names).filter vx_no
def vx_atS (own : String) (ic : Nat) (X : String) (names : List String) : List Cond := (Bundle.ownAtoms own ic X names).filter vx_no
/-- a word that the tables alone decide, or a good one -/
def vx_ot (w : Cond) : Bool := w.onTables || goodWord w
theorem vx_ot_at {args a' : Array Value} {s U : State} {w : Cond} (hW : s.WarmedH U.vm) (hvm : s.vm = U.vm) (hg : vx_ot w = true) (h : w.before args s = true) : w.before a' U = true := by
  simp only [vx_ot, Bool.or_eq_true] at hg
  rcases hg with hg | hg
  · exact va_tabs hg hvm h
  · exact word_at hW (good_of_word hg) h
/-- a list's words: the good ones out of the method's own list, the others by premises of their own -/
theorem vx_hat {args : Array Value} {s : State} {L B : List Cond} (h1 : ∀ w ∈ L.filter goodWord, w.before args s = true) (h2 : ∀ w ∈ L.filter (fun w => !goodWord w), w ∈ B) (h3 : ∀ w ∈ B, w.before args s = true) : ∀ w ∈ L, w.before args s = true := by
  intro w hw
  by_cases g : goodWord w = true
  · exact h1 w (List.mem_filter.mpr ⟨hw, g⟩)
  · refine h3 w (h2 w (List.mem_filter.mpr ⟨hw, ?_⟩))
    show (!goodWord w) = true
    cases hgw : goodWord w
    · rfl
    · exact absurd hgw g
theorem vx_c {args : Array Value} {s : State} {w : Cond} {B : List Cond} (h : w.before args s = true) (t : ∀ w ∈ B, w.before args s = true) : ∀ w' ∈ w :: B, w'.before args s = true := fun w' h' => (List.mem_cons.mp h').elim (fun e => by rw [e]; exact h) (t w')
theorem vx_n {args : Array Value} {s : State} : ∀ w ∈ ([] : List Cond), w.before args s = true := fun _ h => nomatch h
theorem vx_own {args : Array Value} {s : State} {L : List Cond} (h1 : ∀ w ∈ L.filter vx_no, w.before args s = true)
    (hU : (Cond.isRef (.static Bundle.tN "UNASSIGNED_STACK" Bundle.steD)).before args s = true) (hN : (Cond.isRef (.static Bundle.tN "SUPPRESSED_SENTINEL" Bundle.listD)).before args s = true)
    (lU : (Cond.laysStatic Bundle.tN "UNASSIGNED_STACK" Bundle.steD).before args s = true) (lN : (Cond.laysStatic Bundle.tN "SUPPRESSED_SENTINEL" Bundle.listD).before args s = true) : ∀ w ∈ L, w.before args s = true := by
  intro w hw
  by_cases e1 : w = .isRef (.static Bundle.tN "UNASSIGNED_STACK" Bundle.steD)
  · rw [e1]; exact hU
  · by_cases e2 : w = .isRef (.static Bundle.tN "SUPPRESSED_SENTINEL" Bundle.listD)
    · rw [e2]; exact hN
    · by_cases e3 : w = .laysStatic Bundle.tN "UNASSIGNED_STACK" Bundle.steD
      · rw [e3]; exact lU
      · by_cases e4 : w = .laysStatic Bundle.tN "SUPPRESSED_SENTINEL" Bundle.listD
        · rw [e4]; exact lN
        · exact h1 w (List.mem_filter.mpr ⟨hw, by unfold vx_no; rw [decide_eq_true e1, decide_eq_true e2, decide_eq_true e3, decide_eq_true e4]; rfl⟩)
/-- where a static field lies, its class's statics cell in H -/
def vx_L (C n d : String) (A : Nat → Prop) (U : State) (H : Heap) : Prop := ∃ (c : ClassId) (k : Class) (i : Nat) (f : Field) (a : Nat) (cell : Cell), U.vm.findClass C = some c ∧ U.fieldFound? C n d = some (c, k, i, f) ∧ f.isStatic = true ∧ k.statics = some a ∧ H[a]? = some cell ∧ cell.vm.isStatics = true ∧ cell.cls = c ∧ f.slot < cell.slots.size ∧ k.staticTypes[f.slot]? = some f.type ∧ ¬ A a
theorem vx_L.moved {C n d : String} {A : Nat → Prop} {u U : State} {H : Heap} (hvm : u.vm.Alike U.vm) (h : vx_L C n d A u H) : vx_L C n d A U H := by
  obtain ⟨c, k, i, f, a, cell, h1, h2, h3, h4, h5, h6, h7, h8, h9, h10⟩ := h
  obtain ⟨k', hi', he⟩ := State.fieldFound?_setVm hvm h2
  exact ⟨c, k', i, f, a, cell, by rw [hvm.findClass]; exact h1, hi', h3, by rw [he]; exact h4, h5, h6, h7, h8, by rw [he]; exact h9, h10⟩
theorem vx_L.kept {C n d : String} {A : Nat → Prop} {U : State} {H H1 : Heap} (h : vx_L C n d A U H) (hq : ∀ a : Nat, a < H.size → ¬ A a → H1[a]? = H[a]?) : vx_L C n d A U H1 := by
  obtain ⟨c, k, i, f, a, cell, h1, h2, h3, h4, h5, h6, h7, h8, h9, h10⟩ := h
  exact ⟨c, k, i, f, a, cell, h1, h2, h3, h4, by rw [hq a (Array.getElem?_eq_some_iff.mp h5).1 h10]; exact h5, h6, h7, h8, h9, h10⟩
theorem vx_L.narrow {C n d : String} {A B : Nat → Prop} {U : State} {H : Heap} (h : vx_L C n d A U H) (hAB : ∀ q, B q → A q) : vx_L C n d B U H := by
  obtain ⟨c, k, i, f, a, cell, h1, h2, h3, h4, h5, h6, h7, h8, h9, h10⟩ := h
  exact ⟨c, k, i, f, a, cell, h1, h2, h3, h4, h5, h6, h7, h8, h9, fun z => h10 (hAB _ z)⟩
theorem vx_L.word {C n d : String} {A : Nat → Prop} {s : State} {args : Array Value} (h : vx_L C n d A s s.heap) : (Cond.laysStatic C n d).before args s = true := by
  obtain ⟨c, k, i, f, a, cell, h1, h2, h3, h4, h5, h6, h7, h8, h9, -⟩ := h
  show (Cond.laysStatic C n d).holds args s none s [] = true
  exact Cond.laysStatic_of h1 h2 h3 h4 h5 h6 h7 h8 h9
/-- .. and what it holds: null or some reference -/
def vx_Zq (C n d : String) (A : Nat → Prop) (U : State) (H : Heap) : Prop := va_Zq C n d A U H ∧ vx_L C n d A U H
theorem vx_Zq.moved {C n d : String} {A : Nat → Prop} {u U : State} {H : Heap} (hvm : u.vm.Alike U.vm) (h : vx_Zq C n d A u H) : vx_Zq C n d A U H := ⟨va_Zq.moved hvm h.1, vx_L.moved hvm h.2⟩
theorem vx_Zq.kept {C n d : String} {A : Nat → Prop} {U : State} {H H1 : Heap} (h : vx_Zq C n d A U H) (hq : ∀ a : Nat, a < H.size → ¬ A a → H1[a]? = H[a]?) : vx_Zq C n d A U H1 := ⟨va_Zq.kept h.1 hq, vx_L.kept h.2 hq⟩
theorem vx_Zq.narrow {C n d : String} {A B : Nat → Prop} {U : State} {H : Heap} (h : vx_Zq C n d A U H) (hAB : ∀ q, B q → A q) : vx_Zq C n d B U H := ⟨va_Zq.narrow h.1 hAB, vx_L.narrow h.2 hAB⟩
theorem vx_Zqof {args : Array Value} {s : State} {C n d : String} {A : Nat → Prop} (hl : (Cond.laysStatic C n d).before args s = true) (hini : (Cond.initialized C).before args s = true) (h : (Cond.isRef (.static C n d)).before args s = true) (hA : ∀ a : Nat, a < s.heap.size → ¬ A a) : vx_Zq C n d A s s.heap := by
  refine ⟨va_Zqof hl hini h hA, ?_⟩
  obtain ⟨c, k, i, f, a, cell, h1, h2, h3, h4, h5, h6, h7, h8, h9⟩ := Cond.laysStatic_spec hl
  exact ⟨c, k, i, f, a, cell, h1, h2, h3, h4, h5, h6, h7, h8, h9, hA a (Array.getElem?_eq_some_iff.mp h5).1⟩
theorem vx_isRef {C n d : String} {v : Value} {A : Nat → Prop} {s : State} {args : Array Value} (h : va_Z C n d v A s s.heap) (hv : v.isRef = true) : (Cond.isRef (.static C n d)).before args s = true := by
  obtain ⟨cf, kf, fi, f, a, cell, h1, h2, h3, h4, h5, h6, h7, -⟩ := h
  have he : (Term.static C n d).eval args s none [] s = some v := by
    simp [Term.eval, State.fieldNamed?, h1, h2, h4, h5, h6, h7]
  simp only [Cond.before, Cond.holds, Cond.value, he]
  cases v <;> simp_all [Value.isRef]
theorem vx_isRefq {C n d : String} {A : Nat → Prop} {s : State} {args : Array Value} (h : va_Zq C n d A s s.heap) : (Cond.isRef (.static C n d)).before args s = true := by
  rcases h with h | ⟨t, h⟩
  · exact vx_isRef h rfl
  · exact vx_isRef h rfl
/-- the same frame, seen from here: as if the method were called anew in this heap -/
theorem vx_rebase {T : State} (X : Stand p l e R s m args below meth c T locs cells slots) {R' : Room} (hf : R'.frames ≤ R.frames) (hl : R'.locals ≤ R.locals) (hc : cells + R'.cells ≤ R.cells) (hs : slots + R'.slots ≤ R.slots) :
    Stand p l e R' ((T.setVm s.vm).setFrames (.invoking m args :: below)) m args below meth c T [] 0 0 := by
  have htop : (T.setVm s.vm).topJava?.isSome := X.here.top
  have hF : ((T.setVm s.vm).setFrames (.invoking m args :: below)).frames = .invoking m args :: below := State.frames_setFrames _ (State.cur_lt_of_top htop)
  obtain ⟨g₀, hg0⟩ := Option.isSome_iff_exists.mp htop
  obtain ⟨r, hr⟩ := State.topJava?_eq_some.mp hg0
  have hl9 : e.platform.stackLimits (T.setVm s.vm).me = e.platform.stackLimits s.me := X.limits
  have hb9 : (T.setVm s.vm).me.stackBytes = s.me.stackBytes := X.bytes
  refine ⟨X.admits, X.cas, X.clock, hF, ?_, X.hears, X.method, X.code, X.here, X.tail, X.warmed, ?_, ?_, ?_⟩
  · have h := X.room
    have hU : ((T.setVm s.vm).setFrames (.invoking m args :: below)).localsInUse = s.localsInUse := by
      rw [State.localsInUse_invoking hF (meth := meth) (c := c) X.method X.code, State.localsInUse_invoking X.frames X.method X.code]
    simp only [State.hasRoom, Bool.and_eq_true, decide_eq_true_eq] at h ⊢
    obtain ⟨⟨⟨⟨h1, h2, h3, h4, h5, h6⟩, h7⟩, h8⟩, h9⟩ := h
    rw [X.frames, List.length_cons] at h2 h3
    have q1 := X.heapSize
    have q2 := X.used
    simp only [hF, hU, List.length_cons, State.stackLimits_setFrames, State.stackBytes_setFrames, hl9, hb9]
    refine ⟨⟨⟨⟨by omega, by omega, by omega, by omega, by omega, h6⟩, ?_⟩, ?_⟩, X.book⟩
    · show T.heap.size + R'.cells ≤ e.platform.maxCells
      omega
    · show T.slotsUsed + R'.slots ≤ e.platform.maxSlots
      omega
  · rw [State.stackLimits_setFrames]; rfl
  · rw [State.stackBytes_setFrames]; rfl
  · refine ⟨?_, Nat.le_refl _, Nat.le_refl _, ?_, ?_, fun a c9 h9 => ⟨c9, h9, rfl, rfl, fun _ _ => rfl⟩⟩
    · obtain ⟨t, ht, -⟩ := State.frames_cons hr
      show T.setVm s.vm = { ((T.setVm s.vm).setFrames (.invoking m args :: below)).setFrames (T.setVm s.vm).frames with heap := T.heap, slotsUsed := T.slotsUsed }
      rw [State.setFrames_setFrames, State.setFrames_self ht]
      rfl
    · show T.slotsUsed = T.slotsUsed + ((T.heap.toList.drop T.heap.size).map (·.slots.size)).sum
      rw [List.drop_eq_nil_of_le (Nat.le_of_eq Array.length_toList)]
      rfl
    · show ((T.heap.toList.drop T.heap.size).map (·.slots.size)).sum ≤ 0
      rw [List.drop_eq_nil_of_le (Nat.le_of_eq Array.length_toList)]
      exact Nat.le_refl _
/-- 'throw new E()': new; dup; invokespecial; athrow -/
theorem vx_throw0 {cc : ByteArray} {pc : Nat} (hexec : p.tables.exec = Jvm.exec) (hb : c.code = cc) (hl : l.stackTraces = false) {own cls : String} {names : List String} {ik ic mc ms : Nat} {A : Nat → Prop}
    (hown : s.vm.findClass own = some m.cls) (hcls : Bundle.fit cls = true) (hnames : ∀ n ∈ names, Bundle.fit n = true)
    (hk : (Cond.classLink own ik cls).before args s = true) (hini : (Cond.initialized cls).before args s = true) (hat : ∀ w ∈ vx_at0 own ic cls names, w.before args s = true)
    (hgood : ∀ w ∈ Cond.classLink own ik cls :: Cond.initialized cls :: vx_at0 own ic cls names, vx_ot w = true)
    (hU : vx_Zq Bundle.tN "UNASSIGNED_STACK" Bundle.steD A s s.heap) (hN : vx_Zq Bundle.tN "SUPPRESSED_SENTINEL" Bundle.listD A s s.heap) (hS : va_S A s.heap H locs) (hsize : ls.size = c.maxLocals)
    (d0 : decode cc pc = .ok (.new ik, 3)) (d3 : decode cc (pc + 3) = .ok (.dup, 1)) (d4 : decode cc (pc + 4) = .ok (.invokespecial ic, 3)) (d7 : decode cc (pc + 7) = .ok (.athrow, 1))
    (hout : ∀ x ∈ c.exceptionTable.toList, covers x (pc + 7) = false)
    (hRframes : names.length + 3 < R.frames) (hRlocals : (rest.map fun v => v.category).sum + (13 * (names.length + 1) + 42) ≤ R.locals) (hRcells : cells + 1 ≤ R.cells) (hRslots : slots + 6 ≤ R.slots) (hlocks : meth.locks = false)
    (hx : ∀ t : State, s.vm.Alike t.vm → H.size ≤ t.heap.size → (∀ q : Nat, q < H.size → t.heap[q]? = H[q]?) → XC cls s t)
    (hf : ∀ z ∈ locs, free z.base) (hc : cells + 1 ≤ mc) (hs : slots + 6 ≤ ms) :
    W p l e R s m args below meth c H locs cells slots (vx_MQ below Qc XC args s mc ms free) (F0 m pc ls rest) := by
  intro T hT X
  have htr : e.platform.stackTraces = false := (show e.platform.stackTraces = l.stackTraces by rw [X.admits.platform]).trans hl
  have Y := vx_rebase X (R' := { frames := R.frames, locals := R.locals, cells := 1, slots := 6 }) (Nat.le_refl _) (Nat.le_refl _) hRcells hRslots
  obtain ⟨s', hA⟩ : ∃ z, z = (T.setVm s.vm).setFrames (.invoking m args :: below) := ⟨_, rfl⟩
  rw [← hA] at Y
  have hvm : s'.vm = s.vm := by rw [hA]; rfl
  have hhp : s'.heap = H := by rw [hA]; exact hT
  have hW0 : s.WarmedH s'.vm := by rw [hvm]; exact State.WarmedH.refl s
  have hat' : ∀ w ∈ vx_at0 own ic cls names, w.before args s' = true := fun w hw => vx_ot_at hW0 hvm.symm (hgood w (List.mem_cons_of_mem _ (List.mem_cons_of_mem _ hw))) (hat w hw)
  have hk' : (Cond.classLink own ik cls).before args s' = true := vx_ot_at hW0 hvm.symm (hgood _ List.mem_cons_self) hk
  have hini' : (Cond.initialized cls).before args s' = true := vx_ot_at hW0 hvm.symm (hgood _ (List.mem_cons_of_mem _ List.mem_cons_self)) hini
  have hU' : vx_Zq Bundle.tN "UNASSIGNED_STACK" Bundle.steD A s' s'.heap := by rw [hhp]; exact vx_Zq.moved hW0.alike (hU.kept hS.2.1)
  have hN' : vx_Zq Bundle.tN "SUPPRESSED_SENTINEL" Bundle.listD A s' s'.heap := by rw [hhp]; exact vx_Zq.moved hW0.alike (hN.kept hS.2.1)
  have h : ∀ w ∈ Bundle.ownAtoms0 own ic cls names, w.before args s' = true := vx_own hat' (vx_isRefq hU'.1) (vx_isRefq hN'.1) hU'.2.word hN'.2.word
  have hown' : s'.vm.findClass own = some m.cls := by rw [hvm]; exact hown
  have hins : (Cond.instantiable cls 6).before args s' = true := h _ (by simp [Bundle.ownAtoms0])
  obtain ⟨vm₁, cX, kX, hfX, hkX, -, -, X₁, st1⟩ := Y.newCold hexec (own := own) (C := cls) (index := ik) (n := 6) hown' hk' hins hini'
    (g := F0 m pc ls rest) rfl (by rw [hb]; exact d0) (Nat.le_refl _) (Nat.le_refl _)
  generalize hT1 : (T.setVm vm₁).pushCell { cls := cX, slots := kX.instanceTypes.map defaultValue, vm := .none } = T1 at X₁ st1
  have hcat : (Value.ref T.heap.size).category = 1 := rfl
  have hcellA : T1.heap[T.heap.size]? = some (freshCell cX kX) := by rw [← hT1]; exact State.heap_pushCell_size _ _
  have d3' : decode c.code (pc + 3) = .ok (.dup, 1) := by rw [hb]; exact d3
  obtain ⟨U, hsteps, hrun, hend, hW, hsame, ce, hce, hO⟩ := X₁.ctorThrow0 hexec htr (own := own) (cls := cls) (names := names) (ic := ic) hown' hcls hnames h (fun x hx => nomatch hx) hfX hkX hcellA (by rw [hhp, hT]; exact Nat.le_refl _)
    (g := { method := m, pc := pc + 4, locals := ls, stack := .ref T.heap.size :: .ref T.heap.size :: rest, locked := none }) rfl hsize rfl rfl (rest := rest) rfl
    (by rw [hb]; exact d4) (by rw [hb]; exact d7) hout hRframes (by simp only [List.map_cons, List.sum_cons, hcat]; omega) hlocks
  obtain ⟨f1, f2⟩ := vx_frame hsame
  rw [hhp] at f1 f2
  have hWs : s.WarmedH U.vm := State.WarmedH.trans hW0 hW
  have hcl : s.vm.findClass cls = some ce.cls := by
    have h9 := hO.cls
    rw [hvm] at h9
    exact h9
  have hall : s.sameButNew ({ U with vm := s.vm } : State) locs mc ms := by
    subst hA
    obtain ⟨e1, e2⟩ := hsame
    rw [State.setFrames_setFrames] at e1
    have h2 : (T.setVm s.vm).sameButNew ({ U with vm := s.vm } : State) [] (0 + 1) (0 + 6) := ⟨e1, e2⟩
    have h3 := X.same.trans h2
    rw [List.append_nil] at h3
    exact h3.mono hc hs
  refine ⟨U, ?_, .threw T.heap.size, hrun, hend, Or.inr ⟨T.heap.size, rfl, cls, ce, locs, hx U hWs.alike f1 (fun q hq => f2 q hq (fun z hz => nomatch hz)), hce, hO.vm, hcl, hWs, hall, hf⟩⟩
  refine st1 _ ?_
  show Steps p.tables e below (T1.setTop { method := m, pc := pc + 3, locals := ls, stack := .ref T.heap.size :: rest, locked := none }) _
  jvm_step X₁.here [X₁.here.top, hexec, d3', Value.category]
  exact hsteps
/-- 'throw new E("text")': new; dup; ldc; invokespecial; athrow -/
theorem vx_throwS {cc : ByteArray} {pc : Nat} (hexec : p.tables.exec = Jvm.exec) (hb : c.code = cc) (hl : l.stackTraces = false) {own cls text : String} {names : List String} {ik is ic mc ms sa : Nat} {A : Nat → Prop}
    (hown : s.vm.findClass own = some m.cls) (hcls : Bundle.fit cls = true) (hnames : ∀ n ∈ names, Bundle.fit n = true)
    (hk : (Cond.classLink own ik cls).before args s = true) (hini : (Cond.initialized cls).before args s = true) (hstr : vk_R own is text sa s) (hat : ∀ w ∈ vx_atS own ic cls names, w.before args s = true)
    (hgood : ∀ w ∈ Cond.classLink own ik cls :: Cond.initialized cls :: vx_atS own ic cls names, vx_ot w = true)
    (hU : vx_Zq Bundle.tN "UNASSIGNED_STACK" Bundle.steD A s s.heap) (hN : vx_Zq Bundle.tN "SUPPRESSED_SENTINEL" Bundle.listD A s s.heap) (hS : va_S A s.heap H locs) (hsize : ls.size = c.maxLocals)
    (d0 : decode cc pc = .ok (.new ik, 3)) (d3 : decode cc (pc + 3) = .ok (.dup, 1)) (d4 : decode cc (pc + 4) = .ok (.ldc is, 2)) (d6 : decode cc (pc + 6) = .ok (.invokespecial ic, 3)) (d9 : decode cc (pc + 9) = .ok (.athrow, 1))
    (hout : ∀ x ∈ c.exceptionTable.toList, covers x (pc + 9) = false)
    (hRframes : names.length + 3 < R.frames) (hRlocals : (rest.map fun v => v.category).sum + (13 * (names.length + 1) + 43) ≤ R.locals) (hRcells : cells + 1 ≤ R.cells) (hRslots : slots + 6 ≤ R.slots) (hlocks : meth.locks = false)
    (hx : ∀ t : State, s.vm.Alike t.vm → H.size ≤ t.heap.size → (∀ q : Nat, q < H.size → t.heap[q]? = H[q]?) → XC cls s t)
    (hf : ∀ z ∈ locs, free z.base) (hc : cells + 1 ≤ mc) (hs : slots + 6 ≤ ms) :
    W p l e R s m args below meth c H locs cells slots (vx_MQ below Qc XC args s mc ms free) (F0 m pc ls rest) := by
  intro T hT X
  have htr : e.platform.stackTraces = false := (show e.platform.stackTraces = l.stackTraces by rw [X.admits.platform]).trans hl
  have Y := vx_rebase X (R' := { frames := R.frames, locals := R.locals, cells := 1, slots := 6 }) (Nat.le_refl _) (Nat.le_refl _) hRcells hRslots
  obtain ⟨s', hA⟩ : ∃ z, z = (T.setVm s.vm).setFrames (.invoking m args :: below) := ⟨_, rfl⟩
  rw [← hA] at Y
  have hvm : s'.vm = s.vm := by rw [hA]; rfl
  have hhp : s'.heap = H := by rw [hA]; exact hT
  have hW0 : s.WarmedH s'.vm := by rw [hvm]; exact State.WarmedH.refl s
  have hat' : ∀ w ∈ vx_atS own ic cls names, w.before args s' = true := fun w hw => vx_ot_at hW0 hvm.symm (hgood w (List.mem_cons_of_mem _ (List.mem_cons_of_mem _ hw))) (hat w hw)
  have hk' : (Cond.classLink own ik cls).before args s' = true := vx_ot_at hW0 hvm.symm (hgood _ List.mem_cons_self) hk
  have hini' : (Cond.initialized cls).before args s' = true := vx_ot_at hW0 hvm.symm (hgood _ (List.mem_cons_of_mem _ List.mem_cons_self)) hini
  have hU' : vx_Zq Bundle.tN "UNASSIGNED_STACK" Bundle.steD A s' s'.heap := by rw [hhp]; exact vx_Zq.moved hW0.alike (hU.kept hS.2.1)
  have hN' : vx_Zq Bundle.tN "SUPPRESSED_SENTINEL" Bundle.listD A s' s'.heap := by rw [hhp]; exact vx_Zq.moved hW0.alike (hN.kept hS.2.1)
  have h : ∀ w ∈ Bundle.ownAtoms own ic cls names, w.before args s' = true := vx_own hat' (vx_isRefq hU'.1) (vx_isRefq hN'.1) hU'.2.word hN'.2.word
  have hown' : s'.vm.findClass own = some m.cls := by rw [hvm]; exact hown
  have hins : (Cond.instantiable cls 6).before args s' = true := h _ (by simp [Bundle.ownAtoms])
  obtain ⟨vm₁, cX, kX, hfX, hkX, -, -, X₁, st1⟩ := Y.newCold hexec (own := own) (C := cls) (index := ik) (n := 6) hown' hk' hins hini'
    (g := F0 m pc ls rest) rfl (by rw [hb]; exact d0) (Nat.le_refl _) (Nat.le_refl _)
  generalize hT1 : (T.setVm vm₁).pushCell { cls := cX, slots := kX.instanceTypes.map defaultValue, vm := .none } = T1 at X₁ st1
  have hcat : (Value.ref T.heap.size).category = 1 := rfl
  have hcellA : T1.heap[T.heap.size]? = some (freshCell cX kX) := by rw [← hT1]; exact State.heap_pushCell_size _ _
  have d3' : decode c.code (pc + 3) = .ok (.dup, 1) := by rw [hb]; exact d3
  have d4' : decode c.code (pc + 4) = .ok (.ldc is, 2) := by rw [hb]; exact d4
  have hstr' : vk_R own is text sa s' := vk_R.warm hW0 hstr
  obtain ⟨U, hsteps, hrun, hend, hW, hsame, ce, hce, hO⟩ := X₁.ctorThrowS hexec htr (own := own) (cls := cls) (names := names) (ic := ic) hown' hcls hnames h (fun x hx => nomatch hx) hfX hkX hcellA (by rw [hhp, hT]; exact Nat.le_refl _) (msg := .ref sa) rfl
    (g := { method := m, pc := pc + 6, locals := ls, stack := .ref sa :: .ref T.heap.size :: .ref T.heap.size :: rest, locked := none }) rfl hsize rfl rfl (rest := rest) rfl
    (by rw [hb]; exact d6) (by rw [hb]; exact d9) hout hRframes (by simp only [List.map_cons, List.sum_cons, hcat]; omega) hlocks
  obtain ⟨f1, f2⟩ := vx_frame hsame
  rw [hhp] at f1 f2
  have hWs : s.WarmedH U.vm := State.WarmedH.trans hW0 hW
  have hcl : s.vm.findClass cls = some ce.cls := by
    have h9 := hO.cls
    rw [hvm] at h9
    exact h9
  have hall : s.sameButNew ({ U with vm := s.vm } : State) locs mc ms := by
    subst hA
    obtain ⟨e1, e2⟩ := hsame
    rw [State.setFrames_setFrames] at e1
    have h2 : (T.setVm s.vm).sameButNew ({ U with vm := s.vm } : State) [] (0 + 1) (0 + 6) := ⟨e1, e2⟩
    have h3 := X.same.trans h2
    rw [List.append_nil] at h3
    exact h3.mono hc hs
  refine ⟨U, ?_, .threw T.heap.size, hrun, hend, Or.inr ⟨T.heap.size, rfl, cls, ce, locs, hx U hWs.alike f1 (fun q hq => f2 q hq (fun z hz => nomatch hz)), hce, hO.vm, hcl, hWs, hall, hf⟩⟩
  refine st1 _ ?_
  show Steps p.tables e below (T1.setTop { method := m, pc := pc + 3, locals := ls, stack := .ref T.heap.size :: rest, locked := none }) _
  jvm_step X₁.here [X₁.here.top, hexec, d3', Value.category]
  exact X₁.ldcString hexec (own := own) (text := text) (index := is) (a := sa) hown' hstr'.1 hstr'.2
    (g := { method := m, pc := pc + 4, locals := ls, stack := .ref T.heap.size :: .ref T.heap.size :: rest, locked := none }) rfl d4' _ hsteps
/-- 'throw new E("text")', the text by a wide index -/
theorem vx_throwSW {cc : ByteArray} {pc : Nat} (hexec : p.tables.exec = Jvm.exec) (hb : c.code = cc) (hl : l.stackTraces = false) {own cls text : String} {names : List String} {ik is ic mc ms sa : Nat} {A : Nat → Prop}
    (hown : s.vm.findClass own = some m.cls) (hcls : Bundle.fit cls = true) (hnames : ∀ n ∈ names, Bundle.fit n = true)
    (hk : (Cond.classLink own ik cls).before args s = true) (hini : (Cond.initialized cls).before args s = true) (hstr : vk_R own is text sa s) (hat : ∀ w ∈ vx_atS own ic cls names, w.before args s = true)
    (hgood : ∀ w ∈ Cond.classLink own ik cls :: Cond.initialized cls :: vx_atS own ic cls names, vx_ot w = true)
    (hU : vx_Zq Bundle.tN "UNASSIGNED_STACK" Bundle.steD A s s.heap) (hN : vx_Zq Bundle.tN "SUPPRESSED_SENTINEL" Bundle.listD A s s.heap) (hS : va_S A s.heap H locs) (hsize : ls.size = c.maxLocals)
    (d0 : decode cc pc = .ok (.new ik, 3)) (d3 : decode cc (pc + 3) = .ok (.dup, 1)) (d4 : decode cc (pc + 4) = .ok (.ldc_w is, 3)) (d7 : decode cc (pc + 7) = .ok (.invokespecial ic, 3)) (d10 : decode cc (pc + 10) = .ok (.athrow, 1))
    (hout : ∀ x ∈ c.exceptionTable.toList, covers x (pc + 10) = false)
    (hRframes : names.length + 3 < R.frames) (hRlocals : (rest.map fun v => v.category).sum + (13 * (names.length + 1) + 43) ≤ R.locals) (hRcells : cells + 1 ≤ R.cells) (hRslots : slots + 6 ≤ R.slots) (hlocks : meth.locks = false)
    (hx : ∀ t : State, s.vm.Alike t.vm → H.size ≤ t.heap.size → (∀ q : Nat, q < H.size → t.heap[q]? = H[q]?) → XC cls s t)
    (hf : ∀ z ∈ locs, free z.base) (hc : cells + 1 ≤ mc) (hs : slots + 6 ≤ ms) :
    W p l e R s m args below meth c H locs cells slots (vx_MQ below Qc XC args s mc ms free) (F0 m pc ls rest) := by
  intro T hT X
  have htr : e.platform.stackTraces = false := (show e.platform.stackTraces = l.stackTraces by rw [X.admits.platform]).trans hl
  have Y := vx_rebase X (R' := { frames := R.frames, locals := R.locals, cells := 1, slots := 6 }) (Nat.le_refl _) (Nat.le_refl _) hRcells hRslots
  obtain ⟨s', hA⟩ : ∃ z, z = (T.setVm s.vm).setFrames (.invoking m args :: below) := ⟨_, rfl⟩
  rw [← hA] at Y
  have hvm : s'.vm = s.vm := by rw [hA]; rfl
  have hhp : s'.heap = H := by rw [hA]; exact hT
  have hW0 : s.WarmedH s'.vm := by rw [hvm]; exact State.WarmedH.refl s
  have hat' : ∀ w ∈ vx_atS own ic cls names, w.before args s' = true := fun w hw => vx_ot_at hW0 hvm.symm (hgood w (List.mem_cons_of_mem _ (List.mem_cons_of_mem _ hw))) (hat w hw)
  have hk' : (Cond.classLink own ik cls).before args s' = true := vx_ot_at hW0 hvm.symm (hgood _ List.mem_cons_self) hk
  have hini' : (Cond.initialized cls).before args s' = true := vx_ot_at hW0 hvm.symm (hgood _ (List.mem_cons_of_mem _ List.mem_cons_self)) hini
  have hU' : vx_Zq Bundle.tN "UNASSIGNED_STACK" Bundle.steD A s' s'.heap := by rw [hhp]; exact vx_Zq.moved hW0.alike (hU.kept hS.2.1)
  have hN' : vx_Zq Bundle.tN "SUPPRESSED_SENTINEL" Bundle.listD A s' s'.heap := by rw [hhp]; exact vx_Zq.moved hW0.alike (hN.kept hS.2.1)
  have h : ∀ w ∈ Bundle.ownAtoms own ic cls names, w.before args s' = true := vx_own hat' (vx_isRefq hU'.1) (vx_isRefq hN'.1) hU'.2.word hN'.2.word
  have hown' : s'.vm.findClass own = some m.cls := by rw [hvm]; exact hown
  have hins : (Cond.instantiable cls 6).before args s' = true := h _ (by simp [Bundle.ownAtoms])
  obtain ⟨vm₁, cX, kX, hfX, hkX, -, -, X₁, st1⟩ := Y.newCold hexec (own := own) (C := cls) (index := ik) (n := 6) hown' hk' hins hini'
    (g := F0 m pc ls rest) rfl (by rw [hb]; exact d0) (Nat.le_refl _) (Nat.le_refl _)
  generalize hT1 : (T.setVm vm₁).pushCell { cls := cX, slots := kX.instanceTypes.map defaultValue, vm := .none } = T1 at X₁ st1
  have hcat : (Value.ref T.heap.size).category = 1 := rfl
  have hcellA : T1.heap[T.heap.size]? = some (freshCell cX kX) := by rw [← hT1]; exact State.heap_pushCell_size _ _
  have d3' : decode c.code (pc + 3) = .ok (.dup, 1) := by rw [hb]; exact d3
  have d4' : decode c.code (pc + 4) = .ok (.ldc_w is, 3) := by rw [hb]; exact d4
  have hstr' : vk_R own is text sa s' := vk_R.warm hW0 hstr
  obtain ⟨U, hsteps, hrun, hend, hW, hsame, ce, hce, hO⟩ := X₁.ctorThrowS hexec htr (own := own) (cls := cls) (names := names) (ic := ic) hown' hcls hnames h (fun x hx => nomatch hx) hfX hkX hcellA (by rw [hhp, hT]; exact Nat.le_refl _) (msg := .ref sa) rfl
    (g := { method := m, pc := pc + 7, locals := ls, stack := .ref sa :: .ref T.heap.size :: .ref T.heap.size :: rest, locked := none }) rfl hsize rfl rfl (rest := rest) rfl
    (by rw [hb]; exact d7) (by rw [hb]; exact d10) hout hRframes (by simp only [List.map_cons, List.sum_cons, hcat]; omega) hlocks
  obtain ⟨f1, f2⟩ := vx_frame hsame
  rw [hhp] at f1 f2
  have hWs : s.WarmedH U.vm := State.WarmedH.trans hW0 hW
  have hcl : s.vm.findClass cls = some ce.cls := by
    have h9 := hO.cls
    rw [hvm] at h9
    exact h9
  have hall : s.sameButNew ({ U with vm := s.vm } : State) locs mc ms := by
    subst hA
    obtain ⟨e1, e2⟩ := hsame
    rw [State.setFrames_setFrames] at e1
    have h2 : (T.setVm s.vm).sameButNew ({ U with vm := s.vm } : State) [] (0 + 1) (0 + 6) := ⟨e1, e2⟩
    have h3 := X.same.trans h2
    rw [List.append_nil] at h3
    exact h3.mono hc hs
  refine ⟨U, ?_, .threw T.heap.size, hrun, hend, Or.inr ⟨T.heap.size, rfl, cls, ce, locs, hx U hWs.alike f1 (fun q hq => f2 q hq (fun z hz => nomatch hz)), hce, hO.vm, hcl, hWs, hall, hf⟩⟩
  refine st1 _ ?_
  show Steps p.tables e below (T1.setTop { method := m, pc := pc + 3, locals := ls, stack := .ref T.heap.size :: rest, locked := none }) _
  jvm_step X₁.here [X₁.here.top, hexec, d3', Value.category]
  exact X₁.ldcStringW hexec (own := own) (text := text) (index := is) (a := sa) hown' hstr'.1 hstr'.2
    (g := { method := m, pc := pc + 4, locals := ls, stack := .ref T.heap.size :: .ref T.heap.size :: rest, locked := none }) rfl d4' _ hsteps
end Ends
section Bodies
variable {l : Launch}
theorem vx_ofW {y : MethodName} {ws ws' : List Cond} {rm : Room} {Pc : Array Value → State → Prop} {Qc : Array Value → State → Outcome → State → Prop} {XC : String → State → State → Prop} {mc ms : Nat} {free : Addr → Prop} {cc : ByteArray} {maxL : Nat} {ret : Option FieldType}
    (hy : plainName y.cls = true) (hw : ws = Cond.code y cc maxL ret :: ws')
    (body : ∀ p e s m args below meth c s₁, BodyLoose p l y (headSpec ws rm) cc maxL ret e s m args below meth c s₁ → c.maxLocals = maxL → (∀ x ∈ c.exceptionTable.toList, False) → Pc args s →
      W p l e (headSpec ws rm).room s m args below meth c s.heap [] 0 0 (vx_MQ below Qc XC args s mc ms free) (entryFrame m args maxL)) : vx_Met l y ws rm Pc Qc XC mc ms free := by
  refine MetFree.of_bodyS (code := cc) (maxLocals := maxL) (ret := ret) hy ?_ ?_
  · intro args s m h hn
    obtain ⟨meth, c, h1, h2, h3, h4, h5, h6, -, -⟩ := Cond.code_spec hn (atoms_spec (ws := ws) h _ (by rw [hw]; exact List.mem_cons_self))
    exact ⟨meth, c, h1, h2, h3, h4, h5, h6⟩
  · intro p e s m args below meth c s₁ B hml hP _
    have hh0 : s₁.heap = s.heap := by rw [B.state]; rfl
    have ht : ∀ x ∈ c.exceptionTable.toList, False := by
      obtain ⟨meth9, c9, h1, h2, -, -, -, -, h7, -⟩ := Cond.code_spec B.named (atoms_spec (ws := ws) B.pre _ (by rw [hw]; exact List.mem_cons_self))
      cases Option.some.inj (h1.symm.trans B.method)
      cases Option.some.inj (h2.symm.trans (Stand.of_body B).code)
      intro x hx
      rw [Array.isEmpty_iff.mp h7] at hx
      cases hx
    obtain ⟨t, a1, o, b1, b2, b3⟩ := body p e s m args below meth c s₁ B hml ht hP s₁ hh0 (Stand.of_body B)
    exact ⟨t, o, a1, b1, b2, b3⟩
/-- the table of a body with handlers -/
theorem vx_table {p : Program} {x y : MethodName} {S : Spec} {cc bytes : ByteArray} {maxL maxL' : Nat} {ret ret' : Option FieldType} {e : Env} {s s₁ : State} {m : MethodId} {args : Array Value} {below : List Frame} {meth : Method} {c : Code} {hh : List (Nat × Nat × Nat × Nat)}
    (B : BodyLoose p l y S cc maxL ret e s m args below meth c s₁) (h : (Cond.codeWith y bytes maxL' ret' hh).before args s = true) : c.exceptionTable.toList = tableOf hh := by
  obtain ⟨m9, meth9, c9, hn9, h1, h2, -, -, h6, -⟩ := Cond.codeWith_spec h
  cases Option.some.inj (hn9.symm.trans B.named)
  cases Option.some.inj (h1.symm.trans B.method)
  cases Option.some.inj (h2.symm.trans (Stand.of_body B).code)
  rw [← h6, table_eq]
end Bodies
end VXA
/-! ===== END ===== -/
/-! ===== BEGIN a static call of a method with an exception table ===== -/
section VXS
variable {p : Program} {l : Launch} {e : Env} {R : Room} {s : State} {m : MethodId} {args : Array Value} {below : List Frame} {meth : Method} {c : Code} {T : State} {H : Heap} {locs : List Loc} {cells slots : Nat}
abbrev vx_CSW (R : Room) (s : State) (args : Array Value) (own : String) (index : Nat) (y : MethodName) (bytes : ByteArray) (maxL : Nat) (ret : Option FieldType) (hh : List (Nat × Nat × Nat × Nat)) (ws : List Cond) (rm : Room) (mc ms n : Nat) : Prop :=
  (rm.cells = mc ∧ rm.slots = ms ∧ rm.frames + 1 ≤ R.frames ∧ 8 + (maxL + 11) + rm.locals ≤ R.locals ∧ (∀ w ∈ ws, ∀ (a' : Array Value) (U : State), s.WarmedH U.vm → w.before a' U = true) ∧ Cond.codeWith y bytes maxL ret hh ∈ ws) ∧
  (Cond.codeWith y bytes maxL ret hh).before args s = true ∧ (Cond.initialized y.cls).before args s = true ∧ (y.cls ≠ "java/lang/invoke/MethodHandle" ∧ y.cls ≠ "java/lang/invoke/VarHandle") ∧
  (∀ sig, parseMethodDescriptor y.desc = some sig → n = sig.parameters.length) ∧ (Cond.methodLink own index y).before args s = true ∧ (Cond.static y).before args s = true
theorem vx_cwSW {own : String} {index maxL mc ms : Nat} {y : MethodName} {bytes : ByteArray} {ret : Option FieldType} {hh : List (Nat × Nat × Nat × Nat)} {Ts ws ws' : List Cond} {rm : Room} (n : Nat) (ht : ∀ w ∈ Ts, w.before args s = true) (hT : GoodIn Ts (va_wsS own index y ws)) (hw : ws = Cond.codeWith y bytes maxL ret hh :: ws') (hrc : rm.cells = mc) (hrs : rm.slots = ms)
    (hd : y.cls ≠ "java/lang/invoke/MethodHandle" ∧ y.cls ≠ "java/lang/invoke/VarHandle" ∧ (parseMethodDescriptor y.desc).map (fun d => d.parameters.length) = some n) (hR : rm.frames + 1 ≤ R.frames ∧ 8 + (maxL + 11) + rm.locals ≤ R.locals) :
    vx_CSW R s args own index y bytes maxL ret hh ws rm mc ms n := by
  have ok : ∀ w ∈ va_wsS own index y ws, w.before args s = true := fun w h => ht w (hT w h).1
  have hG : GoodIn Ts ws := fun w h => hT w (by unfold va_wsS; exact List.mem_append_right _ h)
  have hc : Cond.codeWith y bytes maxL ret hh ∈ ws := by rw [hw]; exact List.mem_cons_self
  refine ⟨⟨hrc, hrs, hR.1, hR.2, pay_in ht hG, hc⟩, ht _ (hG _ hc).1, ok _ (by simp [va_wsS]), ⟨hd.1, hd.2.1⟩, fun sig h => ?_, ok _ (by simp [va_wsS]), ok _ (by simp [va_wsS])⟩
  have h2 := hd.2.2
  rw [h] at h2
  exact (Option.some.inj h2).symm
theorem vx_callSW (X : Stand p l e R s m args below meth c T locs cells slots) (hexec : p.tables.exec = Jvm.exec) {own : String} {index : Nat} {y : MethodName} {bytes : ByteArray} {maxL : Nat} {ret : Option FieldType} {hh : List (Nat × Nat × Nat × Nat)}
    (hown : s.vm.findClass own = some m.cls) (hlink : (Cond.methodLink own index y).before args s = true) (hstat : (Cond.static y).before args s = true) (hinit : (Cond.initialized y.cls).before args s = true)
    (hcode : (Cond.codeWith y bytes maxL ret hh).before args s = true) (hy : y.cls ≠ "java/lang/invoke/MethodHandle" ∧ y.cls ≠ "java/lang/invoke/VarHandle")
    {W9 : Nat} {Pre : Pt → Array Value → Prop} {Post : Pt → Array Value → Option Value → Pt → Prop} (hK : Back l R p e below s args y 3 W9 Pre Post)
    {g : JFrame} (hg : g.method = m) (hsize : g.locals.size = c.maxLocals) {argsL rest : List Value} (hlen : ∀ sig, parseMethodDescriptor y.desc = some sig → argsL.length = sig.parameters.length)
    (hstack : g.stack = argsL.reverse ++ rest) (hW : 2 * g.monitorRoom + (rest.map fun v => v.category).sum ≤ W9) (hdg : decode c.code g.pc = .ok (.invokestatic index, 3))
    (hpre : ∀ vm₁, s.WarmedH vm₁ → Pre ⟨T.setVm vm₁, locs, cells, slots⟩ argsL.toArray) :
    ∃ (v : Option Value) (vm₁ : Vm) (B : Pt), s.WarmedH vm₁ ∧ Stand p l e R s m args below meth c B.U B.locs B.cells B.slots ∧ Post ⟨T.setVm vm₁, locs, cells, slots⟩ argsL.toArray v B ∧
      ∀ target, Steps p.tables e below (B.U.setTop { g with pc := g.pc + 3, stack := v.toList ++ rest }) target → Steps p.tables e below (T.setTop g) target := by
  obtain ⟨mk, methM, cM, hnamed, hmethM, -, -, -, -, -, -, hsigM⟩ := Cond.codeWith_spec hcode
  have hstatic : methM.isStatic = true := Cond.static_spec hnamed hmethM hstat
  obtain ⟨kP, hkP, -⟩ := className_of_methodNamed hnamed
  have hinitP : kP.init = .initialized := Cond.initialized_spec (findClass_of_methodNamed hnamed) hkP hinit
  obtain ⟨vm₁, X₁, hstep₁⟩ := X.invokestatic hexec hown hlink hnamed hmethM hstatic hkP hinitP hy (g := g) hg (argsL := argsL) (rest := rest) (hlen _ hsigM) hstack hdg
  obtain ⟨v, B, X', hpost, hsteps⟩ := hK m meth c ⟨T.setVm vm₁, locs, cells, slots⟩ { g with stack := rest } (.invokestatic index) mk argsL.toArray X₁ hg hsize hdg hW (X₁.named hnamed) (hpre vm₁ X₁.warmed)
  exact ⟨v, vm₁, B, X₁.warmed, X', hpost, fun target h => hstep₁ _ fun acts => by rw [doInvoke_state]; exact hsteps.trans h⟩
theorem vx_runSW {y : MethodName} {bytes cc : ByteArray} {maxL nL mc ms n index : Nat} {ret : Option FieldType} {hh : List (Nat × Nat × Nat × Nat)} {ws : List Cond} {rm : Room} {Pc : Array Value → State → Prop} {Qc : Array Value → State → Outcome → State → Prop} {free : Addr → Prop} {Ts : List Cond} {own : String} {As rest : List Value} {g : JFrame}
    (S : CallFix p m c cc nL s args Ts own) (hM : Met l y ws rm Pc Qc mc ms free) (cw : vx_CSW R s args own index y bytes maxL ret hh ws rm mc ms n) (hp : PreS s H Pc As)
    (hg : g.method = m) (hn : As.length = n) (hsize : g.locals.size = nL) (hstack : g.stack = As.reverse ++ rest) (hW : 2 * g.monitorRoom + (rest.map fun v => v.category).sum ≤ 8) (hdg : decode cc g.pc = .ok (.invokestatic index, 3)) (hf : cells + mc ≤ R.cells ∧ slots + ms ≤ R.slots) :
    va_Run p l e R s m args below meth c H locs cells slots mc ms g rest (Qc As.toArray) (free) := by
  obtain ⟨⟨hrc, hrs, hfr, hlo, hws, hcw⟩, hcode, hini, hy, hlen, hl, hstt⟩ := cw
  have hK : Back l R p e below s args y 3 8 (PreOf R mc ms Pc) (PostOf Qc mc ms free) := va_backW (hh := hh) (bytes := bytes) (maxL := maxL) (ret := ret) hM hp.1 hrc hrs hfr hlo hws hcw (fun a' U hW => word_at hW (Or.inl (by first | rfl | simp [Cond.onTables, Cond.keeps, Cond.steady])) hini)
  obtain ⟨hx, hb, hml, ho, -⟩ := S
  intro T hT X
  obtain ⟨v, vm₁, ⟨U', l2, c2, s2⟩, hW₁, X', ⟨g', mk, t, L, e1, e2, hq, h1, hL, h2, h3⟩, st⟩ := vx_callSW X hx (hh := hh) (bytes := bytes) (maxL := maxL) (ret := ret) ho hl hstt hini hcode hy hK hg (hsize.trans hml.symm) (argsL := As) (rest := rest) (fun sig h => hn.trans (hlen sig h)) hstack hW (by rw [hb]; exact hdg)
    (fun vm₁ hW₁ => ⟨hf.1, hf.2, hp.2 (T.setVm vm₁) hT hW₁⟩)
  dsimp only [Pt.U, Pt.locs, Pt.cells, Pt.slots] at X' e1 e2 h1 h2 h3 st
  subst h1; subst h2; subst h3
  exact ⟨v, (T.setVm vm₁).calling g' mk As.toArray, t, U', L, hT, X', hL, e1, e2, hq, st⟩
/-- a thing of a world lies in the heap -/
theorem vx_lt {D : va_G} {cl : List vw_C} {ws : va_W} {H1 : Heap} (h : va_P D cl ws H1) {k : Nat} {q : Nat × va_E} (hk : ws[k]? = some q) : q.1 < H1.size := (h k q hk).lt
end VXS
/-! ===== END ===== -/
/-! ===== BEGIN methods with a table of their own: called by a name, returning or throwing ===== -/
section VXH
/-! vx_backW, vx_callVX, vx_callSX, vx_callVW, vx_runVW, vx_runVX, vx_runSX, vx_ofWH follow the same proofs as their sisters above (Free/Laws.lean, Shelf42/LK1.lean); vx_outP calls Shelf42/NT130.lean (outThrough). -/
section
variable {l : Launch} {R : Room} {p : Program} {e : Env} {below : List Frame} {s : State} {sargs : Array Value} {y : MethodName} {len W9 : Nat}
theorem vx_backW {ws : List Cond} {rm : Room} {Pc : Array Value → State → Prop} {Qc : Array Value → State → Outcome → State → Prop} {XC : String → State → State → Prop} {mc ms : Nat} {free : Addr → Prop} {bytes : ByteArray} {maxL : Nat} {ret : Option FieldType} {hh : List (Nat × Nat × Nat × Nat)}
    (hM : vx_Met l y ws rm Pc Qc XC mc ms free) (hblind : FrameBlind Pc) (hrc : rm.cells = mc) (hrs : rm.slots = ms)
    (hframes : rm.frames + 1 ≤ R.frames) (hlocals : W9 + (maxL + 11) + rm.locals ≤ R.locals)
    (hws : ∀ w ∈ ws, ∀ a' U, s.WarmedH U.vm → w.before a' U = true) (hcode : Cond.codeWith y bytes maxL ret hh ∈ ws) (hinit : ∀ a' U, s.WarmedH U.vm → (Cond.initialized y.cls).before a' U = true) :
    vx_Back l R p e below s sargs y len W9 (PreOf R mc ms Pc) (PostOf Qc mc ms free) (vx_Post XC mc ms free) := by
  intro m meth c A g ig mk a X hg hsize hdg hW hn hp
  have h1 : (headSpec ws rm).pre.before a A.U = true := atoms_intro fun w hw => hws w hw _ _ X.warmed
  have h2 : (Cond.codeWith y bytes maxL ret hh).before a A.U = true := hws _ hcode _ _ X.warmed
  have h3 : (Cond.initialized y.cls).before a A.U = true := hinit _ _ X.warmed
  have h4 : A.cells + (headSpec ws rm).room.cells ≤ R.cells := by rw [show (headSpec ws rm).room.cells = mc from hrc]; exact hp.1
  have h5 : A.slots + (headSpec ws rm).room.slots ≤ R.slots := by rw [show (headSpec ws rm).room.slots = ms from hrs]; exact hp.2.1
  have hPc : Pc a (A.U.calling g mk a) := hblind _ _ _ _ hp.2.2
  obtain ⟨U, Ls, c0, s0⟩ := A
  dsimp only [Pt.U, Pt.locs, Pt.cells, Pt.slots] at h1 h2 h3 h4 h5 X hn hPc ⊢
  obtain ⟨m9, methY, cY, hn9, hmY, hcY, -, hlY, -⟩ := Cond.codeWith_spec h2
  cases Option.some.inj (hn9.symm.trans hn)
  obtain ⟨kY, hkY, -⟩ := className_of_methodNamed hn
  have hinitY : kY.init = .initialized := Cond.initialized_spec (findClass_of_methodNamed hn) hkY h3
  have h : At U g.method c below := by rw [hg]; exact X.here
  have hlocals9 : W9 + (maxL + 11) + (headSpec ws rm).room.locals ≤ R.locals := hlocals
  have happ : (headSpec ws rm).appliesLoose y e.platform (U.calling g mk a) = true :=
    Spec.appliesLoose_calling (g := g) h hdg hn hkY hinitY
      (X.room_calling (g := g) (R' := (headSpec ws rm).room) hsize hmY hcY hframes (by rw [hlY]; omega) h4 h5) h1
  obtain ⟨mid, hmid⟩ := h.above
  have hfr : (U.setTop g).frames = (.java g :: mid) ++ below := by rw [State.frames_setTop' g h.top, hmid]; rfl
  obtain ⟨o, s₂, hsteps, -, hend, hq⟩ := Steps.callFree hM p X.admits X.cas X.clock (acts := []) hfr happ hPc trivial
  have hq' : vx_Q Qc XC mc ms free a (U.calling g mk a) o s₂ := hq
  rw [State.frames_setTop' g h.top] at hend
  obtain ⟨g₀, hg0⟩ := Option.isSome_iff_exists.mp h.top
  obtain ⟨r, hr⟩ := State.topJava?_eq_some.mp hg0
  have hr' : (({ U with heap := s₂.heap, slotsUsed := s₂.slotsUsed } : State).setVm s₂.vm).frames = .java g₀ :: r := hr
  rcases hq' with ⟨hqc, L, hfe, hL⟩ | ⟨q, rfl, E, ce, L, hx, hce, hcv, hcl, hW₂, hsm, hL⟩
  · obtain ⟨⟨v, rfl⟩, hW₂, e2, q2, q3, q4, q5, q6⟩ := id hfe
    have e3 : s₂ = ({ (U.calling g mk a).setFrames s₂.frames with heap := s₂.heap, slotsUsed := s₂.slotsUsed } : State).setVm s₂.vm := by
      have : s₂ = ({ s₂ with vm := (U.calling g mk a).vm } : State).setVm s₂.vm := rfl
      rw [e2] at this
      exact this
    obtain ⟨c₂, i₂, len₂, hc₂, hd₂, hf₂⟩ := hend
    have hW' : U.WarmedH s₂.vm := hW₂
    have hcc : c₂ = c := by
      have h1 : s₂.code? g.method = U.code? g.method := by
        rw [State.code?_eq, State.code?_eq, hW'.alike.method?]
      exact Option.some.inj (hc₂.symm.trans (h1.trans h.code))
    subst hcc
    have hlen : len₂ = len := by rw [hdg] at hd₂; cases hd₂; rfl
    subst hlen
    have hs₂ : s₂ = (({ U with heap := s₂.heap, slotsUsed := s₂.slotsUsed } : State).setVm s₂.vm).setTop { g with pc := g.pc + len₂, stack := v.toList ++ g.stack } := by
      refine e3.trans ?_
      rw [hf₂, State.calling_eq h.top, State.setFrames_setFrames, State.setTop_of_frames _ hr', hr]
      rfl
    have hsame : U.sameButNew ({ U with heap := s₂.heap, slotsUsed := s₂.slotsUsed } : State) L mc ms := by
      refine ⟨?_, q2, q3, q4, q5, q6⟩
      obtain ⟨t, ht, -⟩ := State.frames_cons hr
      show ({ U with heap := s₂.heap, slotsUsed := s₂.slotsUsed } : State) = { U.setFrames U.frames with heap := s₂.heap, slotsUsed := s₂.slotsUsed }
      rw [State.setFrames_self ht]
    subst hg
    refine Or.inl ⟨v, ⟨(({ U with heap := s₂.heap, slotsUsed := s₂.slotsUsed } : State).setVm s₂.vm), Ls ++ L, c0 + mc, s0 + ms⟩,
      ⟨X.admits, X.cas, X.clock, X.frames, X.room, X.hears, X.method, X.code, (X.here.setHeapUsed s₂.heap s₂.slotsUsed).setVm hW'.alike, X.tail, State.WarmedH.trans X.warmed hW', X.limits, X.bytes, X.same.trans (hsame.setVm s.vm)⟩,
      ⟨g, mk, s₂, L, rfl, rfl, hqc, rfl, hL, rfl, rfl⟩, ?_⟩
    show Steps p.tables e below _ ((({ U with heap := s₂.heap, slotsUsed := s₂.slotsUsed } : State).setVm s₂.vm).setTop { g with pc := g.pc + len₂, stack := v.toList ++ g.stack })
    rw [← hs₂]
    exact hsteps
  · obtain ⟨e2, q2, q3, q4, q5, q6⟩ := id hsm
    have e3 : s₂ = ({ (U.calling g mk a).setFrames s₂.frames with heap := s₂.heap, slotsUsed := s₂.slotsUsed } : State).setVm s₂.vm := by
      have : s₂ = ({ s₂ with vm := (U.calling g mk a).vm } : State).setVm s₂.vm := rfl
      rw [e2] at this
      exact this
    have hf₂ : s₂.frames = .throwing q :: .java g :: U.frames.tail := hend
    have hW' : U.WarmedH s₂.vm := hW₂
    have hs₂ : s₂ = ((({ U with heap := s₂.heap, slotsUsed := s₂.slotsUsed } : State).setVm s₂.vm).setTop g).pushFrame (.throwing q) := by
      refine e3.trans ?_
      rw [hf₂, State.calling_eq h.top, State.setFrames_setFrames, State.pushFrame, State.frames_setTop _ hr', State.setTop_of_frames _ hr', State.setFrames_setFrames, hr]
      rfl
    have hsame : U.sameButNew ({ U with heap := s₂.heap, slotsUsed := s₂.slotsUsed } : State) L mc ms := by
      refine ⟨?_, q2, q3, q4, q5, q6⟩
      obtain ⟨t, ht, -⟩ := State.frames_cons hr
      show ({ U with heap := s₂.heap, slotsUsed := s₂.slotsUsed } : State) = { U.setFrames U.frames with heap := s₂.heap, slotsUsed := s₂.slotsUsed }
      rw [State.setFrames_self ht]
    subst hg
    refine Or.inr ⟨q, ⟨(({ U with heap := s₂.heap, slotsUsed := s₂.slotsUsed } : State).setVm s₂.vm), Ls ++ L, c0 + mc, s0 + ms⟩,
      ⟨X.admits, X.cas, X.clock, X.frames, X.room, X.hears, X.method, X.code, (X.here.setHeapUsed s₂.heap s₂.slotsUsed).setVm hW'.alike, X.tail, State.WarmedH.trans X.warmed hW', X.limits, X.bytes, X.same.trans (hsame.setVm s.vm)⟩,
      ⟨g, mk, s₂, L, E, ce, rfl, rfl, hx, hce, hcv, hcl, rfl, hL, rfl, rfl⟩, ?_⟩
    show Steps p.tables e below _ (((({ U with heap := s₂.heap, slotsUsed := s₂.slotsUsed } : State).setVm s₂.vm).setTop g).pushFrame (.throwing q))
    rw [← hs₂]
    exact hsteps
end
variable {p : Program} {l : Launch} {e : Env} {R : Room} {s : State} {m : MethodId} {args : Array Value} {below : List Frame} {meth : Method} {c : Code} {T : State} {H : Heap} {locs : List Loc} {cells slots : Nat}
theorem vx_callVX (X : Stand p l e R s m args below meth c T locs cells slots) (hexec : p.tables.exec = Jvm.exec) {own C : String} {index : Nat} {y : MethodName} {bytes : ByteArray} {maxL : Nat} {ret : Option FieldType} {hh : List (Nat × Nat × Nat × Nat)}
    (hown : s.vm.findClass own = some m.cls) (hlink : (Cond.methodLink own index y).before args s = true) (hinst : (Cond.instanceMethod y).before args s = true) (hsel : (Cond.selects C y y).before args s = true)
    (hcode : (Cond.codeWith y bytes maxL ret hh).before args s = true) (hy : y.cls ≠ "java/lang/invoke/MethodHandle" ∧ y.cls ≠ "java/lang/invoke/VarHandle")
    {W9 : Nat} {Pre : Pt → Array Value → Prop} {Post : Pt → Array Value → Option Value → Pt → Prop} {PostX : Pt → Array Value → Addr → Pt → Prop} (hK : vx_Back l R p e below s args y 3 W9 Pre Post PostX)
    {b : Addr} {cellB : Cell} (hcell : T.heap[b]? = some cellB) (hobj : cellB.vm.isStatics = false) (hcls : s.vm.findClass C = some cellB.cls)
    {g : JFrame} (hg : g.method = m) (hsize : g.locals.size = c.maxLocals) {argsL rest : List Value} (hlen : ∀ sig, parseMethodDescriptor y.desc = some sig → argsL.length = sig.parameters.length)
    (hstack : g.stack = argsL.reverse ++ .ref b :: rest) (hW : 2 * g.monitorRoom + (rest.map fun v => v.category).sum ≤ W9) (hdg : decode c.code g.pc = .ok (.invokevirtual index, 3))
    (hpre : ∀ vm₁, s.WarmedH vm₁ → Pre ⟨T.setVm vm₁, locs, cells, slots⟩ (Value.ref b :: argsL).toArray) :
    (∃ (v : Option Value) (vm₁ : Vm) (B : Pt), s.WarmedH vm₁ ∧ Stand p l e R s m args below meth c B.U B.locs B.cells B.slots ∧ Post ⟨T.setVm vm₁, locs, cells, slots⟩ (Value.ref b :: argsL).toArray v B ∧
      ∀ target, Steps p.tables e below (B.U.setTop { g with pc := g.pc + 3, stack := v.toList ++ rest }) target → Steps p.tables e below (T.setTop g) target) ∨
    (∃ (q : Addr) (vm₁ : Vm) (B : Pt), s.WarmedH vm₁ ∧ Stand p l e R s m args below meth c B.U B.locs B.cells B.slots ∧ PostX ⟨T.setVm vm₁, locs, cells, slots⟩ (Value.ref b :: argsL).toArray q B ∧
      Steps p.tables e below (T.setTop g) ((B.U.setTop { g with stack := rest }).pushFrame (.throwing q))) := by
  obtain ⟨mk, methM, hnamed, hmethM, hstM, habM⟩ := Cond.instanceMethod_spec hinst
  obtain ⟨m8, methM', cM, hn8, hmethM', -, -, -, -, -, -, hsigM⟩ := Cond.codeWith_spec hcode
  cases Option.some.inj (hn8.symm.trans hnamed)
  cases hmethM.symm.trans hmethM'
  obtain ⟨c2, r2, m2, q1, q2, q3, q4, kP, hkP, hkPi⟩ := Cond.selects_spec hsel
  cases hcls.symm.trans q1
  cases (State.methodFound?_of_named hnamed hy).symm.trans q2
  cases hnamed.symm.trans q3
  have hselP : selectMethod e.platform s.vm cellB.cls mk = .method mk := by rw [Launch.admits_selectMethod X.admits]; exact q4
  obtain ⟨vm₁, X₁, hstep₁⟩ := X.invokevirtual hexec hown hlink hnamed hmethM hstM hkP hkPi hy (a := b) (cell := cellB) hcell
    (fun z h => by rw [h] at hobj; cases hobj) hselP hmethM habM hkP hkPi (g := g) hg (argsL := argsL) (rest := rest) (hlen _ hsigM) hstack hdg
  rcases hK m meth c ⟨T.setVm vm₁, locs, cells, slots⟩ { g with stack := rest } (.invokevirtual index) mk (Value.ref b :: argsL).toArray X₁ hg hsize hdg hW (X₁.named hnamed) (hpre vm₁ X₁.warmed) with ⟨v, B, X', hpost, hsteps⟩ | ⟨q, B, X', hpost, hsteps⟩
  · exact Or.inl ⟨v, vm₁, B, X₁.warmed, X', hpost, fun target h => hstep₁ _ fun acts => by rw [doInvoke_state]; exact hsteps.trans h⟩
  · exact Or.inr ⟨q, vm₁, B, X₁.warmed, X', hpost, hstep₁ _ fun acts => by rw [doInvoke_state]; exact hsteps⟩
theorem vx_callSX (X : Stand p l e R s m args below meth c T locs cells slots) (hexec : p.tables.exec = Jvm.exec) {own : String} {index : Nat} {y : MethodName} {bytes : ByteArray} {maxL : Nat} {ret : Option FieldType} {hh : List (Nat × Nat × Nat × Nat)}
    (hown : s.vm.findClass own = some m.cls) (hlink : (Cond.methodLink own index y).before args s = true) (hstat : (Cond.static y).before args s = true) (hinit : (Cond.initialized y.cls).before args s = true)
    (hcode : (Cond.codeWith y bytes maxL ret hh).before args s = true) (hy : y.cls ≠ "java/lang/invoke/MethodHandle" ∧ y.cls ≠ "java/lang/invoke/VarHandle")
    {W9 : Nat} {Pre : Pt → Array Value → Prop} {Post : Pt → Array Value → Option Value → Pt → Prop} {PostX : Pt → Array Value → Addr → Pt → Prop} (hK : vx_Back l R p e below s args y 3 W9 Pre Post PostX)
    {g : JFrame} (hg : g.method = m) (hsize : g.locals.size = c.maxLocals) {argsL rest : List Value} (hlen : ∀ sig, parseMethodDescriptor y.desc = some sig → argsL.length = sig.parameters.length)
    (hstack : g.stack = argsL.reverse ++ rest) (hW : 2 * g.monitorRoom + (rest.map fun v => v.category).sum ≤ W9) (hdg : decode c.code g.pc = .ok (.invokestatic index, 3))
    (hpre : ∀ vm₁, s.WarmedH vm₁ → Pre ⟨T.setVm vm₁, locs, cells, slots⟩ argsL.toArray) :
    (∃ (v : Option Value) (vm₁ : Vm) (B : Pt), s.WarmedH vm₁ ∧ Stand p l e R s m args below meth c B.U B.locs B.cells B.slots ∧ Post ⟨T.setVm vm₁, locs, cells, slots⟩ argsL.toArray v B ∧
      ∀ target, Steps p.tables e below (B.U.setTop { g with pc := g.pc + 3, stack := v.toList ++ rest }) target → Steps p.tables e below (T.setTop g) target) ∨
    (∃ (q : Addr) (vm₁ : Vm) (B : Pt), s.WarmedH vm₁ ∧ Stand p l e R s m args below meth c B.U B.locs B.cells B.slots ∧ PostX ⟨T.setVm vm₁, locs, cells, slots⟩ argsL.toArray q B ∧
      Steps p.tables e below (T.setTop g) ((B.U.setTop { g with stack := rest }).pushFrame (.throwing q))) := by
  obtain ⟨mk, methM, cM, hnamed, hmethM, -, -, -, -, -, -, hsigM⟩ := Cond.codeWith_spec hcode
  have hstatic : methM.isStatic = true := Cond.static_spec hnamed hmethM hstat
  obtain ⟨kP, hkP, -⟩ := className_of_methodNamed hnamed
  have hinitP : kP.init = .initialized := Cond.initialized_spec (findClass_of_methodNamed hnamed) hkP hinit
  obtain ⟨vm₁, X₁, hstep₁⟩ := X.invokestatic hexec hown hlink hnamed hmethM hstatic hkP hinitP hy (g := g) hg (argsL := argsL) (rest := rest) (hlen _ hsigM) hstack hdg
  rcases hK m meth c ⟨T.setVm vm₁, locs, cells, slots⟩ { g with stack := rest } (.invokestatic index) mk argsL.toArray X₁ hg hsize hdg hW (X₁.named hnamed) (hpre vm₁ X₁.warmed) with ⟨v, B, X', hpost, hsteps⟩ | ⟨q, B, X', hpost, hsteps⟩
  · exact Or.inl ⟨v, vm₁, B, X₁.warmed, X', hpost, fun target h => hstep₁ _ fun acts => by rw [doInvoke_state]; exact hsteps.trans h⟩
  · exact Or.inr ⟨q, vm₁, B, X₁.warmed, X', hpost, hstep₁ _ fun acts => by rw [doInvoke_state]; exact hsteps⟩
theorem vx_callVW (X : Stand p l e R s m args below meth c T locs cells slots) (hexec : p.tables.exec = Jvm.exec) {own C : String} {index : Nat} {y : MethodName} {bytes : ByteArray} {maxL : Nat} {ret : Option FieldType} {hh : List (Nat × Nat × Nat × Nat)}
    (hown : s.vm.findClass own = some m.cls) (hlink : (Cond.methodLink own index y).before args s = true) (hinst : (Cond.instanceMethod y).before args s = true) (hsel : (Cond.selects C y y).before args s = true)
    (hcode : (Cond.codeWith y bytes maxL ret hh).before args s = true) (hy : y.cls ≠ "java/lang/invoke/MethodHandle" ∧ y.cls ≠ "java/lang/invoke/VarHandle")
    {W9 : Nat} {Pre : Pt → Array Value → Prop} {Post : Pt → Array Value → Option Value → Pt → Prop} (hK : Back l R p e below s args y 3 W9 Pre Post)
    {b : Addr} {cellB : Cell} (hcell : T.heap[b]? = some cellB) (hobj : cellB.vm.isStatics = false) (hcls : s.vm.findClass C = some cellB.cls)
    {g : JFrame} (hg : g.method = m) (hsize : g.locals.size = c.maxLocals) {argsL rest : List Value} (hlen : ∀ sig, parseMethodDescriptor y.desc = some sig → argsL.length = sig.parameters.length)
    (hstack : g.stack = argsL.reverse ++ .ref b :: rest) (hW : 2 * g.monitorRoom + (rest.map fun v => v.category).sum ≤ W9) (hdg : decode c.code g.pc = .ok (.invokevirtual index, 3))
    (hpre : ∀ vm₁, s.WarmedH vm₁ → Pre ⟨T.setVm vm₁, locs, cells, slots⟩ (Value.ref b :: argsL).toArray) :
    ∃ (v : Option Value) (vm₁ : Vm) (B : Pt), s.WarmedH vm₁ ∧ Stand p l e R s m args below meth c B.U B.locs B.cells B.slots ∧ Post ⟨T.setVm vm₁, locs, cells, slots⟩ (Value.ref b :: argsL).toArray v B ∧
      ∀ target, Steps p.tables e below (B.U.setTop { g with pc := g.pc + 3, stack := v.toList ++ rest }) target → Steps p.tables e below (T.setTop g) target := by
  obtain ⟨mk, methM, hnamed, hmethM, hstM, habM⟩ := Cond.instanceMethod_spec hinst
  obtain ⟨m8, methM', cM, hn8, hmethM', -, -, -, -, -, -, hsigM⟩ := Cond.codeWith_spec hcode
  cases Option.some.inj (hn8.symm.trans hnamed)
  cases hmethM.symm.trans hmethM'
  obtain ⟨c2, r2, m2, q1, q2, q3, q4, kP, hkP, hkPi⟩ := Cond.selects_spec hsel
  cases hcls.symm.trans q1
  cases (State.methodFound?_of_named hnamed hy).symm.trans q2
  cases hnamed.symm.trans q3
  have hselP : selectMethod e.platform s.vm cellB.cls mk = .method mk := by rw [Launch.admits_selectMethod X.admits]; exact q4
  obtain ⟨vm₁, X₁, hstep₁⟩ := X.invokevirtual hexec hown hlink hnamed hmethM hstM hkP hkPi hy (a := b) (cell := cellB) hcell
    (fun z h => by rw [h] at hobj; cases hobj) hselP hmethM habM hkP hkPi (g := g) hg (argsL := argsL) (rest := rest) (hlen _ hsigM) hstack hdg
  obtain ⟨v, B, X', hpost, hsteps⟩ := hK m meth c ⟨T.setVm vm₁, locs, cells, slots⟩ { g with stack := rest } (.invokevirtual index) mk (Value.ref b :: argsL).toArray X₁ hg hsize hdg hW (X₁.named hnamed) (hpre vm₁ X₁.warmed)
  exact ⟨v, vm₁, B, X₁.warmed, X', hpost, fun target h => hstep₁ _ fun acts => by rw [doInvoke_state]; exact hsteps.trans h⟩
abbrev vx_CVW (R : Room) (s : State) (args : Array Value) (own C : String) (index : Nat) (y : MethodName) (bytes : ByteArray) (maxL : Nat) (ret : Option FieldType) (hh : List (Nat × Nat × Nat × Nat)) (ws : List Cond) (rm : Room) (mc ms n : Nat) : Prop :=
  (rm.cells = mc ∧ rm.slots = ms ∧ rm.frames + 1 ≤ R.frames ∧ 8 + (maxL + 11) + rm.locals ≤ R.locals ∧ (∀ w ∈ ws, ∀ (a' : Array Value) (U : State), s.WarmedH U.vm → w.before a' U = true) ∧ Cond.codeWith y bytes maxL ret hh ∈ ws) ∧
  (Cond.codeWith y bytes maxL ret hh).before args s = true ∧ (Cond.initialized y.cls).before args s = true ∧ (y.cls ≠ "java/lang/invoke/MethodHandle" ∧ y.cls ≠ "java/lang/invoke/VarHandle") ∧
  (∀ sig, parseMethodDescriptor y.desc = some sig → n = sig.parameters.length) ∧ (Cond.methodLink own index y).before args s = true ∧ (Cond.instanceMethod y).before args s = true ∧ (Cond.selects C y y).before args s = true
theorem vx_cwVW {own C : String} {index maxL mc ms : Nat} {y : MethodName} {bytes : ByteArray} {ret : Option FieldType} {hh : List (Nat × Nat × Nat × Nat)} {Ts ws ws' : List Cond} {rm : Room} (n : Nat) (ht : ∀ w ∈ Ts, w.before args s = true) (hT : GoodIn Ts (wsV own index C y ws)) (hw : ws = Cond.codeWith y bytes maxL ret hh :: ws') (hrc : rm.cells = mc) (hrs : rm.slots = ms)
    (hd : y.cls = C ∧ y.cls ≠ "java/lang/invoke/MethodHandle" ∧ y.cls ≠ "java/lang/invoke/VarHandle" ∧ (parseMethodDescriptor y.desc).map (fun d => d.parameters.length) = some n) (hR : rm.frames + 1 ≤ R.frames ∧ 8 + (maxL + 11) + rm.locals ≤ R.locals) :
    vx_CVW R s args own C index y bytes maxL ret hh ws rm mc ms n := by
  obtain ⟨hC, hd⟩ := hd
  subst hC
  have ok : ∀ w ∈ wsV own index y.cls y ws, w.before args s = true := fun w h => ht w (hT w h).1
  have hG : GoodIn Ts ws := fun w h => hT w (by unfold wsV; exact List.mem_append_right _ h)
  have hc : Cond.codeWith y bytes maxL ret hh ∈ ws := by rw [hw]; exact List.mem_cons_self
  refine ⟨⟨hrc, hrs, hR.1, hR.2, pay_in ht hG, hc⟩, ht _ (hG _ hc).1, ok _ (by simp [wsV]), ⟨hd.1, hd.2.1⟩, fun sig h => ?_, ok _ (by simp [wsV]), ok _ (by simp [wsV]), ok _ (by simp [wsV])⟩
  have h2 := hd.2.2
  rw [h] at h2
  exact (Option.some.inj h2).symm
theorem vx_runVW {y : MethodName} {bytes cc : ByteArray} {maxL nL mc ms n index : Nat} {ret : Option FieldType} {hh : List (Nat × Nat × Nat × Nat)} {ws : List Cond} {rm : Room} {Pc : Array Value → State → Prop} {Qc : Array Value → State → Outcome → State → Prop} {free : Addr → Prop} {Ts : List Cond} {own C : String} {b : Addr} {As rest : List Value} {g : JFrame}
    (S : CallFix p m c cc nL s args Ts own) (hM : Met l y ws rm Pc Qc mc ms free) (cw : vx_CVW R s args own C index y bytes maxL ret hh ws rm mc ms n) (hp : PreV s H C b Pc As)
    (hg : g.method = m) (hn : As.length = n) (hsize : g.locals.size = nL) (hstack : g.stack = As.reverse ++ .ref b :: rest) (hW : 2 * g.monitorRoom + (rest.map fun v => v.category).sum ≤ 8) (hdg : decode cc g.pc = .ok (.invokevirtual index, 3)) (hf : cells + mc ≤ R.cells ∧ slots + ms ≤ R.slots) :
    va_Run p l e R s m args below meth c H locs cells slots mc ms g rest (Qc (Value.ref b :: As).toArray) free := by
  obtain ⟨⟨hrc, hrs, hfr, hlo, hws, hcw⟩, hcode, hini, hy, hlen, hl, hin, hse⟩ := cw
  have hK : Back l R p e below s args y 3 8 (PreOf R mc ms Pc) (PostOf Qc mc ms free) := va_backW (hh := hh) (bytes := bytes) (maxL := maxL) (ret := ret) hM hp.1 hrc hrs hfr hlo hws hcw (fun a' U hW => word_at hW (Or.inl (by first | rfl | simp [Cond.onTables, Cond.keeps, Cond.steady])) hini)
  obtain ⟨hx, hb, hml, ho, -⟩ := S
  obtain ⟨-, ⟨cellB, hcB, hoB, hclB⟩, hPc⟩ := hp
  intro T hT X
  obtain ⟨v, vm₁, ⟨U', l2, c2, s2⟩, hW₁, X', ⟨g', mk, t, L, e1, e2, hq, h1, hL, h2, h3⟩, st⟩ := vx_callVW X hx (C := C) (hh := hh) (bytes := bytes) (maxL := maxL) (ret := ret) ho hl hin hse hcode hy hK (by rw [hT]; exact hcB) hoB hclB hg (hsize.trans hml.symm) (argsL := As) (rest := rest) (fun sig h => hn.trans (hlen sig h)) hstack hW (by rw [hb]; exact hdg)
    (fun vm₁ hW₁ => ⟨hf.1, hf.2, hPc (T.setVm vm₁) hT hW₁⟩)
  dsimp only [Pt.U, Pt.locs, Pt.cells, Pt.slots] at X' e1 e2 h1 h2 h3 st
  subst h1; subst h2; subst h3
  exact ⟨v, (T.setVm vm₁).calling g' mk (Value.ref b :: As).toArray, t, U', L, hT, X', hL, e1, e2, hq, st⟩
section
variable {y : MethodName} {bytes cc : ByteArray} {maxL nL mc ms n index : Nat} {ret : Option FieldType} {ws : List Cond} {rm : Room} {Pc : Array Value → State → Prop} {Qc : Array Value → State → Outcome → State → Prop} {XC : String → State → State → Prop} {free : Addr → Prop} {Ts : List Cond} {own C : String} {b : Addr} {As rest : List Value} {g : JFrame}
theorem vx_runVX {hh : List (Nat × Nat × Nat × Nat)} (S : CallFix p m c cc nL s args Ts own) (hM : vx_Met l y ws rm Pc Qc XC mc ms free) (cw : vx_CVW R s args own C index y bytes maxL ret hh ws rm mc ms n) (hp : PreV s H C b Pc As)
    (hg : g.method = m) (hn : As.length = n) (hsize : g.locals.size = nL) (hstack : g.stack = As.reverse ++ .ref b :: rest) (hW : 2 * g.monitorRoom + (rest.map fun v => v.category).sum ≤ 8) (hdg : decode cc g.pc = .ok (.invokevirtual index, 3)) (hf : cells + mc ≤ R.cells ∧ slots + ms ≤ R.slots) :
    vx_Run p l e R s m args below meth c H locs cells slots mc ms g rest (Qc (Value.ref b :: As).toArray) XC free := by
  obtain ⟨⟨hrc, hrs, hfr, hlo, hws, hcw⟩, hcode, hini, hy, hlen, hl, hin, hse⟩ := cw
  have hK : vx_Back l R p e below s args y 3 8 (PreOf R mc ms Pc) (PostOf Qc mc ms free) (vx_Post XC mc ms free) := vx_backW (hh := hh) (bytes := bytes) (maxL := maxL) (ret := ret) hM hp.1 hrc hrs hfr hlo hws hcw (fun a' U hW => word_at hW (Or.inl (by first | rfl | simp [Cond.onTables, Cond.keeps, Cond.steady])) hini)
  obtain ⟨hx, hb, hml, ho, -⟩ := S
  obtain ⟨-, ⟨cellB, hcB, hoB, hclB⟩, hPc⟩ := hp
  intro T hT X
  rcases vx_callVX X hx (C := C) (hh := hh) (bytes := bytes) (maxL := maxL) (ret := ret) ho hl hin hse hcode hy hK (by rw [hT]; exact hcB) hoB hclB hg (hsize.trans hml.symm) (argsL := As) (rest := rest) (fun sig h => hn.trans (hlen sig h)) hstack hW (by rw [hb]; exact hdg)
    (fun vm₁ hW₁ => ⟨hf.1, hf.2, hPc (T.setVm vm₁) hT hW₁⟩) with ⟨v, vm₁, ⟨U', l2, c2, s2⟩, hW₁, X', ⟨g', mk, t, L, e1, e2, hq, h1, hL, h2, h3⟩, st⟩ | ⟨q, vm₁, ⟨U', l2, c2, s2⟩, hW₁, X', ⟨g', mk, t, L, E, ce, e1, e2, hq, hce, hcv, hcl, h1, hL, h2, h3⟩, st⟩
  · dsimp only [Pt.U, Pt.locs, Pt.cells, Pt.slots] at X' e1 e2 h1 h2 h3 st
    subst h1; subst h2; subst h3
    exact Or.inl ⟨v, (T.setVm vm₁).calling g' mk (Value.ref b :: As).toArray, t, U', L, hT, X', hL, e1, e2, hq, st⟩
  · dsimp only [Pt.U, Pt.locs, Pt.cells, Pt.slots] at X' e1 e2 h1 h2 h3 st hcl
    subst h1; subst h2; subst h3
    exact Or.inr ⟨q, (T.setVm vm₁).calling g' mk (Value.ref b :: As).toArray, t, U', L, E, ce, hT, X', hL, e1, e2, hq, hce, hcv, vx_cls hW₁ hcl, st⟩
theorem vx_runSX {hh : List (Nat × Nat × Nat × Nat)} (S : CallFix p m c cc nL s args Ts own) (hM : vx_Met l y ws rm Pc Qc XC mc ms free) (cw : vx_CSW R s args own index y bytes maxL ret hh ws rm mc ms n) (hp : PreS s H Pc As)
    (hg : g.method = m) (hn : As.length = n) (hsize : g.locals.size = nL) (hstack : g.stack = As.reverse ++ rest) (hW : 2 * g.monitorRoom + (rest.map fun v => v.category).sum ≤ 8) (hdg : decode cc g.pc = .ok (.invokestatic index, 3)) (hf : cells + mc ≤ R.cells ∧ slots + ms ≤ R.slots) :
    vx_Run p l e R s m args below meth c H locs cells slots mc ms g rest (Qc As.toArray) XC free := by
  obtain ⟨⟨hrc, hrs, hfr, hlo, hws, hcw⟩, hcode, hini, hy, hlen, hl, hstt⟩ := cw
  have hK : vx_Back l R p e below s args y 3 8 (PreOf R mc ms Pc) (PostOf Qc mc ms free) (vx_Post XC mc ms free) := vx_backW (hh := hh) (bytes := bytes) (maxL := maxL) (ret := ret) hM hp.1 hrc hrs hfr hlo hws hcw (fun a' U hW => word_at hW (Or.inl (by first | rfl | simp [Cond.onTables, Cond.keeps, Cond.steady])) hini)
  obtain ⟨hx, hb, hml, ho, -⟩ := S
  intro T hT X
  rcases vx_callSX X hx (hh := hh) (bytes := bytes) (maxL := maxL) (ret := ret) ho hl hstt hini hcode hy hK hg (hsize.trans hml.symm) (argsL := As) (rest := rest) (fun sig h => hn.trans (hlen sig h)) hstack hW (by rw [hb]; exact hdg)
    (fun vm₁ hW₁ => ⟨hf.1, hf.2, hp.2 (T.setVm vm₁) hT hW₁⟩) with ⟨v, vm₁, ⟨U', l2, c2, s2⟩, hW₁, X', ⟨g', mk, t, L, e1, e2, hq, h1, hL, h2, h3⟩, st⟩ | ⟨q, vm₁, ⟨U', l2, c2, s2⟩, hW₁, X', ⟨g', mk, t, L, E, ce, e1, e2, hq, hce, hcv, hcl, h1, hL, h2, h3⟩, st⟩
  · dsimp only [Pt.U, Pt.locs, Pt.cells, Pt.slots] at X' e1 e2 h1 h2 h3 st
    subst h1; subst h2; subst h3
    exact Or.inl ⟨v, (T.setVm vm₁).calling g' mk As.toArray, t, U', L, hT, X', hL, e1, e2, hq, st⟩
  · dsimp only [Pt.U, Pt.locs, Pt.cells, Pt.slots] at X' e1 e2 h1 h2 h3 st hcl
    subst h1; subst h2; subst h3
    exact Or.inr ⟨q, (T.setVm vm₁).calling g' mk As.toArray, t, U', L, E, ce, hT, X', hL, e1, e2, hq, hce, hcv, vx_cls hW₁ hcl, st⟩
end
end VXH
theorem vx_ofWH {l : Launch} {y : MethodName} {ws ws' : List Cond} {rm : Room} {Pc : Array Value → State → Prop} {Qc : Array Value → State → Outcome → State → Prop} {XC : String → State → State → Prop} {mc ms : Nat} {free : Addr → Prop} {cc : ByteArray} {maxL : Nat} {ret : Option FieldType} {hh : List (Nat × Nat × Nat × Nat)}
    (hy : plainName y.cls = true) (hw : ws = Cond.codeWith y cc maxL ret hh :: ws')
    (body : ∀ p e s m args below meth c s₁, BodyLoose p l y (headSpec ws rm) cc maxL ret e s m args below meth c s₁ → c.maxLocals = maxL → Pc args s →
      W p l e (headSpec ws rm).room s m args below meth c s.heap [] 0 0 (vx_MQ below Qc XC args s mc ms free) (entryFrame m args maxL)) : vx_Met l y ws rm Pc Qc XC mc ms free := by
  refine MetFree.of_bodyS (code := cc) (maxLocals := maxL) (ret := ret) hy ?_ ?_
  · intro args s m h hn
    obtain ⟨m9, meth, c, hn9, h1, h2, h3, h4, -, h5, h6, -⟩ := Cond.codeWith_spec (atoms_spec (ws := ws) h _ (by rw [hw]; exact List.mem_cons_self))
    cases hn.symm.trans hn9
    exact ⟨meth, c, h1, h2, h3, h4, h5, h6⟩
  · intro p e s m args below meth c s₁ B hml hP _
    have hh0 : s₁.heap = s.heap := by rw [B.state]; rfl
    obtain ⟨t, a1, o, b1, b2, b3⟩ := body p e s m args below meth c s₁ B hml hP s₁ hh0 (Stand.of_body B)
    exact ⟨t, o, a1, b1, b2, b3⟩
/-! ===== END ===== -/
end
section
/-! ===== BEGIN printed: names, fields, word lists, decode rows ===== -/
def RX0 : String := "SkyAlmanac$Body"
def TX0 : u_T := fun k => match k with
  | 0 => ("SkyAlmanac$Body", "isSet", "Z", false)
  | 1 => ("SkyAlmanac$Body", "orbitL", "D", false)
  | 2 => ("SkyAlmanac$Body", "orbitN", "D", false)
  | 3 => ("SkyAlmanac$Body", "orbitE", "D", false)
  | 4 => ("SkyAlmanac$Body", "orbitW", "D", false)
  | 5 => ("SkyAlmanac$Body", "terms", "I", false)
  | 6 => ("SkyAlmanac$Body", "powers", "[I", true)
  | 7 => ("SkyAlmanac$Body", "factors", "[D", true)
  | 8 => ("SkyAlmanac$Body", "starts", "[D", true)
  | _ => ("SkyAlmanac$Body", "speeds", "[D", true)
def tyX0 : Nat → FieldType := fun k => match k with
  | 0 => .boolean
  | 1 => .double
  | 2 => .double
  | 3 => .double
  | 4 => .double
  | 5 => .int
  | 6 => .array .int
  | 7 => .array .double
  | 8 => .array .double
  | _ => .array .double
abbrev wsX00 : List Cond := u_ws RX0 TX0 10
theorem nmX0 : ∀ a, a < 10 → ∀ b, b < 10 → a ≠ b → (TX0 a).2.1 ≠ (TX0 b).2.1 := by decide +kernel
theorem tyX0_ok : ∀ k, k < 10 → parseFieldDescriptor (TX0 k).2.2.1 = some (tyX0 k) := by decide +kernel
abbrev cX0_init : ByteArray := prog_2_method_1_code
def yX0_init : MethodName := ⟨RX0, "<init>", "()V"⟩
abbrev cX0_sumOfPower : ByteArray := prog_2_method_2_code
def yX0_sumOfPower : MethodName := ⟨RX0, "sumOfPower", "(ID)D"⟩
def RX1 : String := "SkyAlmanac"
def TX1 : u_T := fun k => match k with
  | 0 => ("SkyAlmanac", "bodies", "[LSkyAlmanac$Body;", true)
  | 1 => ("SkyAlmanac", "written", "[C", true)
  | 2 => ("SkyAlmanac", "writtenLength", "I", false)
  | 3 => ("SkyAlmanac", "latitude", "D", false)
  | 4 => ("SkyAlmanac", "eastward", "D", false)
  | 5 => ("SkyAlmanac", "longitudesWorkedOut", "I", false)
  | _ => ("SkyAlmanac", "longitudesFailed", "I", false)
def tyX1 : Nat → FieldType := fun k => match k with
  | 0 => .array (.object "SkyAlmanac$Body")
  | 1 => .array .char
  | 2 => .int
  | 3 => .double
  | 4 => .double
  | 5 => .int
  | _ => .int
abbrev wsX10 : List Cond := u_ws RX1 TX1 7
theorem nmX1 : ∀ a, a < 7 → ∀ b, b < 7 → a ≠ b → (TX1 a).2.1 ≠ (TX1 b).2.1 := by decide +kernel
theorem tyX1_ok : ∀ k, k < 7 → parseFieldDescriptor (TX1 k).2.2.1 = some (tyX1 k) := by decide +kernel
abbrev cX1_init : ByteArray := prog_1_method_1_code
def yX1_init : MethodName := ⟨RX1, "<init>", "()V"⟩
abbrev cX1_day : ByteArray := prog_1_method_2_code
def yX1_day : MethodName := ⟨RX1, "day", "(IIII)J"⟩
abbrev cX1_date : ByteArray := prog_1_method_3_code
def yX1_date : MethodName := ⟨RX1, "date", "(IJI)I"⟩
abbrev cX1_easter : ByteArray := prog_1_method_4_code
def yX1_easter : MethodName := ⟨RX1, "easter", "(I)J"⟩
abbrev cX1_isLeap : ByteArray := prog_1_method_5_code
def yX1_isLeap : MethodName := ⟨RX1, "isLeap", "(II)Z"⟩
abbrev cX1_monthLength : ByteArray := prog_1_method_6_code
def yX1_monthLength : MethodName := ⟨RX1, "monthLength", "(III)I"⟩
abbrev cX1_daysBeforeMonth : ByteArray := prog_1_method_7_code
def yX1_daysBeforeMonth : MethodName := ⟨RX1, "daysBeforeMonth", "(III)I"⟩
abbrev cX1_monthOfDayWithinYear : ByteArray := prog_1_method_8_code
def yX1_monthOfDayWithinYear : MethodName := ⟨RX1, "monthOfDayWithinYear", "(III)I"⟩
abbrev cX1_firstDayOfYear : ByteArray := prog_1_method_9_code
def yX1_firstDayOfYear : MethodName := ⟨RX1, "firstDayOfYear", "(II)J"⟩
abbrev cX1_yearOfDay : ByteArray := prog_1_method_10_code
def yX1_yearOfDay : MethodName := ⟨RX1, "yearOfDay", "(IJ)I"⟩
abbrev cX1_orbit : ByteArray := prog_1_method_11_code
def yX1_orbit : MethodName := ⟨RX1, "orbit", "(IDDDD)Z"⟩
abbrev cX1_term : ByteArray := prog_1_method_12_code
def yX1_term : MethodName := ⟨RX1, "term", "(IIDDD)I"⟩
abbrev cX1_observer : ByteArray := prog_1_method_13_code
def yX1_observer : MethodName := ⟨RX1, "observer", "(DD)Z"⟩
abbrev cX1_bodyThatIsSet : ByteArray := prog_1_method_14_code
def yX1_bodyThatIsSet : MethodName := ⟨RX1, "bodyThatIsSet", "(I)LSkyAlmanac$Body;"⟩
abbrev cX1_longitude : ByteArray := prog_1_method_15_code
def yX1_longitude : MethodName := ⟨RX1, "longitude", "(ID)D"⟩
abbrev cX1_height : ByteArray := prog_1_method_16_code
def yX1_height : MethodName := ⟨RX1, "height", "(ID)D"⟩
abbrev cX1_sidereal : ByteArray := prog_1_method_17_code
def yX1_sidereal : MethodName := ⟨RX1, "sidereal", "(D)D"⟩
abbrev cX1_count : ByteArray := prog_1_method_18_code
def yX1_count : MethodName := ⟨RX1, "count", "(Z)I"⟩
abbrev cX1_longitudeOf : ByteArray := prog_1_method_19_code
def yX1_longitudeOf : MethodName := ⟨RX1, "longitudeOf", "(LSkyAlmanac$Body;D)D"⟩
abbrev cX1_anomalyOf : ByteArray := prog_1_method_20_code
def yX1_anomalyOf : MethodName := ⟨RX1, "anomalyOf", "(LSkyAlmanac$Body;D)D"⟩
abbrev cX1_heightOf : ByteArray := prog_1_method_21_code
def yX1_heightOf : MethodName := ⟨RX1, "heightOf", "(LSkyAlmanac$Body;D)D"⟩
abbrev cX1_siderealAngle : ByteArray := prog_1_method_22_code
def yX1_siderealAngle : MethodName := ⟨RX1, "siderealAngle", "(D)D"⟩
abbrev cX1_event : ByteArray := prog_1_method_23_code
def yX1_event : MethodName := ⟨RX1, "event", "(III)D"⟩
abbrev cX1_timeOfPart : ByteArray := prog_1_method_24_code
def yX1_timeOfPart : MethodName := ⟨RX1, "timeOfPart", "(II)D"⟩
abbrev cX1_partOfCrossing : ByteArray := prog_1_method_25_code
def yX1_partOfCrossing : MethodName := ⟨RX1, "partOfCrossing", "(LSkyAlmanac$Body;IZ)I"⟩
abbrev cX1_narrowedToCrossing : ByteArray := prog_1_method_26_code
def yX1_narrowedToCrossing : MethodName := ⟨RX1, "narrowedToCrossing", "(LSkyAlmanac$Body;IIZ)D"⟩
abbrev cX1_partOfGreatestHeight : ByteArray := prog_1_method_27_code
def yX1_partOfGreatestHeight : MethodName := ⟨RX1, "partOfGreatestHeight", "(LSkyAlmanac$Body;I)I"⟩
abbrev cX1_narrowedToHighest : ByteArray := prog_1_method_28_code
def yX1_narrowedToHighest : MethodName := ⟨RX1, "narrowedToHighest", "(LSkyAlmanac$Body;II)D"⟩
abbrev cX1_write : ByteArray := prog_1_method_29_code
def yX1_write : MethodName := ⟨RX1, "write", "(DI)I"⟩
abbrev cX1_letter : ByteArray := prog_1_method_30_code
def yX1_letter : MethodName := ⟨RX1, "letter", "(I)I"⟩
abbrev cX1_angle : ByteArray := prog_1_method_31_code
def yX1_angle : MethodName := ⟨RX1, "angle", "(IIID)D"⟩
abbrev cX1_tenToThe : ByteArray := prog_1_method_32_code
def yX1_tenToThe : MethodName := ⟨RX1, "tenToThe", "(I)J"⟩
abbrev cX1_wholeParts : ByteArray := prog_1_method_33_code
def yX1_wholeParts : MethodName := ⟨RX1, "wholeParts", "(JJ)J"⟩
abbrev cX1_put : ByteArray := prog_1_method_34_code
def yX1_put : MethodName := ⟨RX1, "put", "(C)V"⟩
abbrev cX1_putNumber : ByteArray := prog_1_method_35_code
def yX1_putNumber : MethodName := ⟨RX1, "putNumber", "(JI)V"⟩
abbrev cX1_isWholeWithin : ByteArray := prog_1_method_36_code
def yX1_isWholeWithin : MethodName := ⟨RX1, "isWholeWithin", "(JJJ)Z"⟩
abbrev cX1_isWithin : ByteArray := prog_1_method_37_code
def yX1_isWithin : MethodName := ⟨RX1, "isWithin", "(DDD)Z"⟩
abbrev cX1_isTime : ByteArray := prog_1_method_38_code
def yX1_isTime : MethodName := ⟨RX1, "isTime", "(D)Z"⟩
abbrev cX1_degreesInRadian : ByteArray := prog_1_method_39_code
def yX1_degreesInRadian : MethodName := ⟨RX1, "degreesInRadian", "()D"⟩
abbrev cX1_red : ByteArray := prog_1_method_40_code
def yX1_red : MethodName := ⟨RX1, "red", "(D)D"⟩
abbrev cX1_sine : ByteArray := prog_1_method_41_code
def yX1_sine : MethodName := ⟨RX1, "sine", "(D)D"⟩
abbrev cX1_cosine : ByteArray := prog_1_method_42_code
def yX1_cosine : MethodName := ⟨RX1, "cosine", "(D)D"⟩
abbrev cX1_waveAt : ByteArray := prog_1_method_43_code
def yX1_waveAt : MethodName := ⟨RX1, "waveAt", "(DI)D"⟩
def RX2 : String := "SkyAlmanacModel"
def TX2 : u_T := fun k => match k with
  | 0 => ("SkyAlmanacModel", "thrown", "I", false)
  | 1 => ("SkyAlmanacModel", "worked", "I", false)
  | 2 => ("SkyAlmanacModel", "failures", "I", false)
  | 3 => ("SkyAlmanacModel", "set", "[Z", true)
  | 4 => ("SkyAlmanacModel", "orbits", "[D", true)
  | 5 => ("SkyAlmanacModel", "terms", "[I", true)
  | 6 => ("SkyAlmanacModel", "powers", "[I", true)
  | 7 => ("SkyAlmanacModel", "waves", "[D", true)
  | 8 => ("SkyAlmanacModel", "latitude", "D", false)
  | 9 => ("SkyAlmanacModel", "east", "D", false)
  | 10 => ("SkyAlmanacModel", "written", "[I", true)
  | 11 => ("SkyAlmanacModel", "letters", "I", false)
  | _ => ("SkyAlmanacModel", "failed", "Z", false)
def tyX2 : Nat → FieldType := fun k => match k with
  | 0 => .int
  | 1 => .int
  | 2 => .int
  | 3 => .array .boolean
  | 4 => .array .double
  | 5 => .array .int
  | 6 => .array .int
  | 7 => .array .double
  | 8 => .double
  | 9 => .double
  | 10 => .array .int
  | 11 => .int
  | _ => .boolean
abbrev wsX20 : List Cond := u_ws RX2 TX2 13
theorem nmX2 : ∀ a, a < 13 → ∀ b, b < 13 → a ≠ b → (TX2 a).2.1 ≠ (TX2 b).2.1 := by decide +kernel
theorem tyX2_ok : ∀ k, k < 13 → parseFieldDescriptor (TX2 k).2.2.1 = some (tyX2 k) := by decide +kernel
abbrev cX2_init : ByteArray := prog_4_method_1_code
def yX2_init : MethodName := ⟨RX2, "<init>", "()V"⟩
abbrev cX2_thrown : ByteArray := prog_4_method_2_code
def yX2_thrown : MethodName := ⟨RX2, "thrown", "()I"⟩
abbrev cX2_fail : ByteArray := prog_4_method_3_code
def yX2_fail : MethodName := ⟨RX2, "fail", "(I)I"⟩
abbrev cX2_within : ByteArray := prog_4_method_4_code
def yX2_within : MethodName := ⟨RX2, "within", "(DDD)Z"⟩
abbrev cX2_floor : ByteArray := prog_4_method_5_code
def yX2_floor : MethodName := ⟨RX2, "floor", "(JJ)J"⟩
abbrev cX2_before : ByteArray := prog_4_method_6_code
def yX2_before : MethodName := ⟨RX2, "before", "(IJ)J"⟩
abbrev cX2_leap : ByteArray := prog_4_method_7_code
def yX2_leap : MethodName := ⟨RX2, "leap", "(IJ)Z"⟩
abbrev cX2_length : ByteArray := prog_4_method_8_code
def yX2_length : MethodName := ⟨RX2, "length", "(IJI)I"⟩
abbrev cX2_newYear : ByteArray := prog_4_method_9_code
def yX2_newYear : MethodName := ⟨RX2, "newYear", "(IJ)J"⟩
abbrev cX2_noDate : ByteArray := prog_4_method_10_code
def yX2_noDate : MethodName := ⟨RX2, "noDate", "(IIII)Z"⟩
abbrev cX2_number : ByteArray := prog_4_method_11_code
def yX2_number : MethodName := ⟨RX2, "number", "(IIII)J"⟩
abbrev cX2_day : ByteArray := prog_4_method_12_code
def yX2_day : MethodName := ⟨RX2, "day", "(IIII)J"⟩
abbrev cX2_yearOf : ByteArray := prog_4_method_13_code
def yX2_yearOf : MethodName := ⟨RX2, "yearOf", "(IJ)J"⟩
abbrev cX2_date : ByteArray := prog_4_method_14_code
def yX2_date : MethodName := ⟨RX2, "date", "(IJI)I"⟩
abbrev cX2_easter : ByteArray := prog_4_method_15_code
def yX2_easter : MethodName := ⟨RX2, "easter", "(I)J"⟩
abbrev cX2_red : ByteArray := prog_4_method_16_code
def yX2_red : MethodName := ⟨RX2, "red", "(D)D"⟩
abbrev cX2_wave : ByteArray := prog_4_method_17_code
def yX2_wave : MethodName := ⟨RX2, "wave", "(DZ)D"⟩
abbrev cX2_sine : ByteArray := prog_4_method_18_code
def yX2_sine : MethodName := ⟨RX2, "sine", "(D)D"⟩
abbrev cX2_cosine : ByteArray := prog_4_method_19_code
def yX2_cosine : MethodName := ⟨RX2, "cosine", "(D)D"⟩
abbrev cX2_turned : ByteArray := prog_4_method_20_code
def yX2_turned : MethodName := ⟨RX2, "turned", "(D)D"⟩
abbrev cX2_orbit : ByteArray := prog_4_method_21_code
def yX2_orbit : MethodName := ⟨RX2, "orbit", "(IDDDD)Z"⟩
abbrev cX2_noBody : ByteArray := prog_4_method_22_code
def yX2_noBody : MethodName := ⟨RX2, "noBody", "(I)Z"⟩
abbrev cX2_term : ByteArray := prog_4_method_23_code
def yX2_term : MethodName := ⟨RX2, "term", "(IIDDD)I"⟩
abbrev cX2_observer : ByteArray := prog_4_method_24_code
def yX2_observer : MethodName := ⟨RX2, "observer", "(DD)Z"⟩
abbrev cX2_sum : ByteArray := prog_4_method_25_code
def yX2_sum : MethodName := ⟨RX2, "sum", "(IID)D"⟩
abbrev cX2_along : ByteArray := prog_4_method_26_code
def yX2_along : MethodName := ⟨RX2, "along", "(ID)D"⟩
abbrev cX2_above : ByteArray := prog_4_method_27_code
def yX2_above : MethodName := ⟨RX2, "above", "(ID)D"⟩
abbrev cX2_bar : ByteArray := prog_4_method_28_code
def yX2_bar : MethodName := ⟨RX2, "bar", "(ID)I"⟩
abbrev cX2_longitude : ByteArray := prog_4_method_29_code
def yX2_longitude : MethodName := ⟨RX2, "longitude", "(ID)D"⟩
abbrev cX2_height : ByteArray := prog_4_method_30_code
def yX2_height : MethodName := ⟨RX2, "height", "(ID)D"⟩
abbrev cX2_crossing : ByteArray := prog_4_method_31_code
def yX2_crossing : MethodName := ⟨RX2, "crossing", "(IDDZ)D"⟩
abbrev cX2_passes : ByteArray := prog_4_method_32_code
def yX2_passes : MethodName := ⟨RX2, "passes", "(IDZ)D"⟩
abbrev cX2_highest : ByteArray := prog_4_method_33_code
def yX2_highest : MethodName := ⟨RX2, "highest", "(ID)D"⟩
abbrev cX2_event : ByteArray := prog_4_method_34_code
def yX2_event : MethodName := ⟨RX2, "event", "(III)D"⟩
abbrev cX2_sidereal : ByteArray := prog_4_method_35_code
def yX2_sidereal : MethodName := ⟨RX2, "sidereal", "(D)D"⟩
abbrev cX2_put : ByteArray := prog_4_method_36_code
def yX2_put : MethodName := ⟨RX2, "put", "(I)V"⟩
abbrev cX2_digits : ByteArray := prog_4_method_37_code
def yX2_digits : MethodName := ⟨RX2, "digits", "(JI)V"⟩
abbrev cX2_write : ByteArray := prog_4_method_38_code
def yX2_write : MethodName := ⟨RX2, "write", "(DI)I"⟩
abbrev cX2_letter : ByteArray := prog_4_method_39_code
def yX2_letter : MethodName := ⟨RX2, "letter", "(I)I"⟩
abbrev cX2_angle : ByteArray := prog_4_method_40_code
def yX2_angle : MethodName := ⟨RX2, "angle", "(IIID)D"⟩
abbrev cX2_count : ByteArray := prog_4_method_41_code
def yX2_count : MethodName := ⟨RX2, "count", "(Z)I"⟩
def RJ9 : String := "java/lang/Math"
def TJ9 : u_T := fun k => match k with
  | _ => ("", "", "", false)
def tyJ9 : Nat → FieldType := fun k => match k with
  | _ => .int
abbrev wsJ90 : List Cond := u_ws RJ9 TJ9 0
theorem nmJ9 : ∀ a, a < 0 → ∀ b, b < 0 → a ≠ b → (TJ9 a).2.1 ≠ (TJ9 b).2.1 := by decide +kernel
theorem tyJ9_ok : ∀ k, k < 0 → parseFieldDescriptor (TJ9 k).2.2.1 = some (tyJ9 k) := by decide +kernel
abbrev cJ9_floorDiv_7cf53 : ByteArray := prog_9_method_47_code
def yJ9_floorDiv_7cf53 : MethodName := ⟨RJ9, "floorDiv", "(II)I"⟩
abbrev cJ9_floorDiv_f86c9 : ByteArray := prog_9_method_49_code
def yJ9_floorDiv_f86c9 : MethodName := ⟨RJ9, "floorDiv", "(JJ)J"⟩
abbrev cJ9_floorMod_7cf53 : ByteArray := prog_9_method_50_code
def yJ9_floorMod_7cf53 : MethodName := ⟨RJ9, "floorMod", "(II)I"⟩
def RJ0 : String := "java/lang/String"
def TJ0 : u_T := fun k => match k with
  | _ => ("", "", "", false)
def tyJ0 : Nat → FieldType := fun k => match k with
  | _ => .int
abbrev wsJ00 : List Cond := u_ws RJ0 TJ0 0
theorem nmJ0 : ∀ a, a < 0 → ∀ b, b < 0 → a ≠ b → (TJ0 a).2.1 ≠ (TJ0 b).2.1 := by decide +kernel
theorem tyJ0_ok : ∀ k, k < 0 → parseFieldDescriptor (TJ0 k).2.2.1 = some (tyJ0 k) := by decide +kernel
def RL : String := "SkyAlmanacLaw"
abbrev cL_day : ByteArray := method_3_code
def yL_day : MethodName := ⟨RL, "day", "(LSkyAlmanac;IIII[J)I"⟩
abbrev cL_date : ByteArray := method_4_code
def yL_date : MethodName := ⟨RL, "date", "(LSkyAlmanac;IJI[J)I"⟩
abbrev cL_easter : ByteArray := method_5_code
def yL_easter : MethodName := ⟨RL, "easter", "(LSkyAlmanac;I[J)I"⟩
abbrev cL_orbit : ByteArray := method_6_code
def yL_orbit : MethodName := ⟨RL, "orbit", "(LSkyAlmanac;IDDDD[J)I"⟩
abbrev cL_term : ByteArray := method_7_code
def yL_term : MethodName := ⟨RL, "term", "(LSkyAlmanac;IIDDD[J)I"⟩
abbrev cL_observer : ByteArray := method_8_code
def yL_observer : MethodName := ⟨RL, "observer", "(LSkyAlmanac;DD[J)I"⟩
abbrev cL_longitude : ByteArray := method_9_code
def yL_longitude : MethodName := ⟨RL, "longitude", "(LSkyAlmanac;ID[D)I"⟩
abbrev cL_height : ByteArray := method_10_code
def yL_height : MethodName := ⟨RL, "height", "(LSkyAlmanac;ID[D)I"⟩
abbrev cL_event : ByteArray := method_11_code
def yL_event : MethodName := ⟨RL, "event", "(LSkyAlmanac;III[D)I"⟩
abbrev cL_sidereal : ByteArray := method_12_code
def yL_sidereal : MethodName := ⟨RL, "sidereal", "(LSkyAlmanac;D[D)I"⟩
abbrev cL_write : ByteArray := method_13_code
def yL_write : MethodName := ⟨RL, "write", "(LSkyAlmanac;DI[J)I"⟩
abbrev cL_letter : ByteArray := method_14_code
def yL_letter : MethodName := ⟨RL, "letter", "(LSkyAlmanac;I[J)I"⟩
abbrev cL_angle : ByteArray := method_15_code
def yL_angle : MethodName := ⟨RL, "angle", "(LSkyAlmanac;IIID[D)I"⟩
abbrev cL_law : ByteArray := code
def yL_law : MethodName := ⟨RL, "law", "([I)Z"⟩
def wsX0_init : List Cond := .code yX0_init cX0_init 1 none :: ([.methodLink RX0 3 objectInit, .instanceMethod objectInit, .code objectInit ⟨#[0xb1]⟩ 1 none, .arrayClass .int, .fieldLink RX0 9 "SkyAlmanac$Body" "powers" "[I", .arrayClass .double, .fieldLink RX0 15 "SkyAlmanac$Body" "factors" "[D", .fieldLink RX0 19 "SkyAlmanac$Body" "starts" "[D", .fieldLink RX0 22 "SkyAlmanac$Body" "speeds" "[D"] ++ wsX00)
def wsX1_red : List Cond := .code yX1_red cX1_red 4 (some .double) :: ([.constantLong RX1 345 (360), .constantDouble RX1 143 (4645040803167600640)])
def wsX1_waveAt : List Cond := .code yX1_waveAt cX1_waveAt 15 (some .double) :: ([.constantDouble RX1 206 (4636033603912859648), .constantDouble RX1 249 (4602678819172646912), .constantDouble RX1 371 (4580687790476533049), .constantDouble RX1 373 (13818544856648471893), .constantDouble RX1 375 (4575957461383581969), .constantDouble RX1 377 (13774824197408792602), .constantDouble RX1 379 (4523617214285662004), .constantDouble RX1 381 (13826050856027422720), .constantDouble RX1 383 (4586165620538955093), .constantDouble RX1 385 (13787419979223755799), .constantDouble RX1 387 (4537941361671905306), .constantDouble RX1 389 (13732177094651715420)])
def wsX1_cosine : List Cond := .code yX1_cosine cX1_cosine 2 (some .double) :: ([.methodLink RX1 236 yX1_red, .static yX1_red, .initialized RX1, .code yX1_red cX1_red 4 (some .double), .constantLong RX1 345 (360), .constantDouble RX1 143 (4645040803167600640), .methodLink RX1 367 yX1_waveAt, .static yX1_waveAt, .code yX1_waveAt cX1_waveAt 15 (some .double), .constantDouble RX1 206 (4636033603912859648), .constantDouble RX1 249 (4602678819172646912), .constantDouble RX1 371 (4580687790476533049), .constantDouble RX1 373 (13818544856648471893), .constantDouble RX1 375 (4575957461383581969), .constantDouble RX1 377 (13774824197408792602), .constantDouble RX1 379 (4523617214285662004), .constantDouble RX1 381 (13826050856027422720), .constantDouble RX1 383 (4586165620538955093), .constantDouble RX1 385 (13787419979223755799), .constantDouble RX1 387 (4537941361671905306), .constantDouble RX1 389 (13732177094651715420)])
def wsX0_sumOfPower_r1 : List Cond := [Cond.fieldLink RX0 25 "SkyAlmanac$Body" "terms" "I", Cond.fieldLink RX0 9 "SkyAlmanac$Body" "powers" "[I", Cond.fieldLink RX0 15 "SkyAlmanac$Body" "factors" "[D", Cond.fieldLink RX0 19 "SkyAlmanac$Body" "starts" "[D", Cond.fieldLink RX0 22 "SkyAlmanac$Body" "speeds" "[D", Cond.static yX1_cosine, Cond.initialized RX1, Cond.code yX1_cosine cX1_cosine 2 (some .double), Cond.methodLink RX1 236 yX1_red, Cond.static yX1_red, Cond.code yX1_red cX1_red 4 (some .double), Cond.constantLong RX1 345 (360), Cond.constantDouble RX1 143 (4645040803167600640), Cond.methodLink RX1 367 yX1_waveAt, Cond.static yX1_waveAt, Cond.code yX1_waveAt cX1_waveAt 15 (some .double), Cond.constantDouble RX1 206 (4636033603912859648), Cond.constantDouble RX1 249 (4602678819172646912), Cond.constantDouble RX1 371 (4580687790476533049), Cond.constantDouble RX1 373 (13818544856648471893), Cond.constantDouble RX1 375 (4575957461383581969), Cond.constantDouble RX1 377 (13774824197408792602), Cond.constantDouble RX1 379 (4523617214285662004), Cond.constantDouble RX1 381 (13826050856027422720)]
def wsX0_sumOfPower_r2 : List Cond := [Cond.constantDouble RX1 383 (4586165620538955093), Cond.constantDouble RX1 385 (13787419979223755799), Cond.constantDouble RX1 387 (4537941361671905306), Cond.constantDouble RX1 389 (13732177094651715420)]
def wsX0_sumOfPower : List Cond := .code yX0_sumOfPower cX0_sumOfPower 7 (some .double) :: ((wsX0_sumOfPower_r1 ++ wsX0_sumOfPower_r2) ++ wsX00)
def wsX1_init : List Cond := .code yX1_init cX1_init 2 none :: ([.methodLink RX1 1 objectInit, .instanceMethod objectInit, .code objectInit ⟨#[0xb1]⟩ 1 none, .classLink RX1 9 RX0, .fieldLink RX1 11 "SkyAlmanac" "bodies" "[LSkyAlmanac$Body;", .instantiable RX0 10, .initialized RX0, .arrayClass .char, .fieldLink RX1 16 "SkyAlmanac" "written" "[C", .fieldLink RX1 20 "SkyAlmanac" "writtenLength" "I", .fieldLink RX1 24 "SkyAlmanac" "latitude" "D", .fieldLink RX1 28 "SkyAlmanac" "eastward" "D", .fieldLink RX1 31 "SkyAlmanac" "longitudesWorkedOut" "I", .fieldLink RX1 34 "SkyAlmanac" "longitudesFailed" "I", .instanceMethod yX0_init, .code yX0_init cX0_init 1 none, .methodLink RX0 3 objectInit, .arrayClass .int, .fieldLink RX0 9 "SkyAlmanac$Body" "powers" "[I", .arrayClass .double, .fieldLink RX0 15 "SkyAlmanac$Body" "factors" "[D", .fieldLink RX0 19 "SkyAlmanac$Body" "starts" "[D", .fieldLink RX0 22 "SkyAlmanac$Body" "speeds" "[D"] ++ wsX10 ++ wsX00)
def wsX1_isWholeWithin : List Cond := .code yX1_isWholeWithin cX1_isWholeWithin 6 (some .boolean) :: ([])
def wsX1_isLeap : List Cond := .code yX1_isLeap cX1_isLeap 2 (some .boolean) :: ([])
def wsX1_monthLength : List Cond := .code yX1_monthLength cX1_monthLength 4 (some .int) :: ([.fieldLink RX1 110 "SkyAlmanac" "MONTH_LENGTHS" "[I", .methodLink RX1 114 yX1_isLeap, .static yX1_isLeap, .initialized RX1, .code yX1_isLeap cX1_isLeap 2 (some .boolean)])
def wsJ9_floorDiv_7cf53 : List Cond := .code yJ9_floorDiv_7cf53 cJ9_floorDiv_7cf53 3 (some .int) :: ([])
def wsX1_firstDayOfYear : List Cond := .code yX1_firstDayOfYear cX1_firstDayOfYear 4 (some .long) :: ([.constantLong RX1 118 (365), .constantLong RX1 123 (1721058), .constantLong RX1 125 (1721060), .methodLink RX1 120 yJ9_floorDiv_7cf53, .static yJ9_floorDiv_7cf53, .initialized RJ9, .code yJ9_floorDiv_7cf53 cJ9_floorDiv_7cf53 3 (some .int)])
def wsX1_daysBeforeMonth : List Cond := .code yX1_daysBeforeMonth cX1_daysBeforeMonth 5 (some .int) :: ([.fieldLink RX1 110 "SkyAlmanac" "MONTH_LENGTHS" "[I", .methodLink RX1 60 yX1_monthLength, .static yX1_monthLength, .initialized RX1, .code yX1_monthLength cX1_monthLength 4 (some .int), .methodLink RX1 114 yX1_isLeap, .static yX1_isLeap, .code yX1_isLeap cX1_isLeap 2 (some .boolean)])
def wsX1_day_r1 : List Cond := [Cond.classLink RX1 43 "java/lang/IllegalArgumentException", Cond.initialized "java/lang/IllegalArgumentException", Cond.constantLong RX1 37 (2), Cond.constantLong RX1 50 (-1000000), Cond.constantLong RX1 52 (1000000), Cond.constantLong RX1 56 (100), Cond.constantLong RX1 58 (15821004), Cond.constantLong RX1 73 (2299160), Cond.methodLink RX1 39 yX1_isWholeWithin, Cond.static yX1_isWholeWithin, Cond.initialized RX1, Cond.code yX1_isWholeWithin cX1_isWholeWithin 6 (some .boolean), Cond.methodLink RX1 60 yX1_monthLength, Cond.static yX1_monthLength, Cond.code yX1_monthLength cX1_monthLength 4 (some .int), Cond.fieldLink RX1 110 "SkyAlmanac" "MONTH_LENGTHS" "[I", Cond.methodLink RX1 114 yX1_isLeap, Cond.static yX1_isLeap, Cond.code yX1_isLeap cX1_isLeap 2 (some .boolean), Cond.methodLink RX1 66 yX1_firstDayOfYear, Cond.static yX1_firstDayOfYear, Cond.code yX1_firstDayOfYear cX1_firstDayOfYear 4 (some .long), Cond.constantLong RX1 118 (365), Cond.constantLong RX1 123 (1721058)]
def wsX1_day_r2 : List Cond := [Cond.constantLong RX1 125 (1721060), Cond.methodLink RX1 120 yJ9_floorDiv_7cf53, Cond.static yJ9_floorDiv_7cf53, Cond.initialized RJ9, Cond.code yJ9_floorDiv_7cf53 cJ9_floorDiv_7cf53 3 (some .int), Cond.methodLink RX1 70 yX1_daysBeforeMonth, Cond.static yX1_daysBeforeMonth, Cond.code yX1_daysBeforeMonth cX1_daysBeforeMonth 5 (some .int)]
def wsX1_day : List Cond := .code yX1_day cX1_day 8 (some .long) :: ((wsX1_day_r1 ++ wsX1_day_r2) ++ (vx_atS RX1 47 "java/lang/IllegalArgumentException" ["java/lang/RuntimeException", "java/lang/Exception"]).filter goodWord)
def wsJ9_floorDiv_f86c9 : List Cond := .code yJ9_floorDiv_f86c9 cJ9_floorDiv_f86c9 6 (some .long) :: ([])
def wsX1_yearOfDay : List Cond := .code yX1_yearOfDay cX1_yearOfDay 8 (some .int) :: ([.constantLong RX1 127 (146100), .constantLong RX1 129 (146097), .constantLong RX1 131 (400), .methodLink RX1 66 yX1_firstDayOfYear, .static yX1_firstDayOfYear, .initialized RX1, .code yX1_firstDayOfYear cX1_firstDayOfYear 4 (some .long), .constantLong RX1 118 (365), .constantLong RX1 123 (1721058), .constantLong RX1 125 (1721060), .methodLink RX1 120 yJ9_floorDiv_7cf53, .static yJ9_floorDiv_7cf53, .initialized RJ9, .code yJ9_floorDiv_7cf53 cJ9_floorDiv_7cf53 3 (some .int), .methodLink RX1 133 yJ9_floorDiv_f86c9, .static yJ9_floorDiv_f86c9, .code yJ9_floorDiv_f86c9 cJ9_floorDiv_f86c9 6 (some .long)])
def wsX1_monthOfDayWithinYear : List Cond := .code yX1_monthOfDayWithinYear cX1_monthOfDayWithinYear 4 (some .int) :: ([.fieldLink RX1 110 "SkyAlmanac" "MONTH_LENGTHS" "[I", .methodLink RX1 70 yX1_daysBeforeMonth, .static yX1_daysBeforeMonth, .initialized RX1, .code yX1_daysBeforeMonth cX1_daysBeforeMonth 5 (some .int), .methodLink RX1 60 yX1_monthLength, .static yX1_monthLength, .code yX1_monthLength cX1_monthLength 4 (some .int), .methodLink RX1 114 yX1_isLeap, .static yX1_isLeap, .code yX1_isLeap cX1_isLeap 2 (some .boolean)])
def wsX1_date_r1 : List Cond := [Cond.classLink RX1 43 "java/lang/IllegalArgumentException", Cond.initialized "java/lang/IllegalArgumentException", Cond.constantLong RX1 37 (2), Cond.constantLong RX1 77 (-400000000), Cond.constantLong RX1 79 (400000000), Cond.constantLong RX1 83 (3), Cond.constantLong RX1 73 (2299160), Cond.constantLong RX1 50 (-1000000), Cond.constantLong RX1 52 (1000000), Cond.methodLink RX1 39 yX1_isWholeWithin, Cond.static yX1_isWholeWithin, Cond.initialized RX1, Cond.code yX1_isWholeWithin cX1_isWholeWithin 6 (some .boolean), Cond.methodLink RX1 87 yX1_yearOfDay, Cond.static yX1_yearOfDay, Cond.code yX1_yearOfDay cX1_yearOfDay 8 (some .int), Cond.constantLong RX1 127 (146100), Cond.constantLong RX1 129 (146097), Cond.constantLong RX1 131 (400), Cond.methodLink RX1 66 yX1_firstDayOfYear, Cond.static yX1_firstDayOfYear, Cond.code yX1_firstDayOfYear cX1_firstDayOfYear 4 (some .long), Cond.constantLong RX1 118 (365), Cond.constantLong RX1 123 (1721058)]
def wsX1_date_r2 : List Cond := [Cond.constantLong RX1 125 (1721060), Cond.methodLink RX1 120 yJ9_floorDiv_7cf53, Cond.static yJ9_floorDiv_7cf53, Cond.initialized RJ9, Cond.code yJ9_floorDiv_7cf53 cJ9_floorDiv_7cf53 3 (some .int), Cond.methodLink RX1 133 yJ9_floorDiv_f86c9, Cond.static yJ9_floorDiv_f86c9, Cond.code yJ9_floorDiv_f86c9 cJ9_floorDiv_f86c9 6 (some .long), Cond.methodLink RX1 93 yX1_monthOfDayWithinYear, Cond.static yX1_monthOfDayWithinYear, Cond.code yX1_monthOfDayWithinYear cX1_monthOfDayWithinYear 4 (some .int), Cond.fieldLink RX1 110 "SkyAlmanac" "MONTH_LENGTHS" "[I", Cond.methodLink RX1 70 yX1_daysBeforeMonth, Cond.static yX1_daysBeforeMonth, Cond.code yX1_daysBeforeMonth cX1_daysBeforeMonth 5 (some .int), Cond.methodLink RX1 60 yX1_monthLength, Cond.static yX1_monthLength, Cond.code yX1_monthLength cX1_monthLength 4 (some .int), Cond.methodLink RX1 114 yX1_isLeap, Cond.static yX1_isLeap, Cond.code yX1_isLeap cX1_isLeap 2 (some .boolean)]
def wsX1_date : List Cond := .code yX1_date cX1_date 9 (some .int) :: ((wsX1_date_r1 ++ wsX1_date_r2) ++ (vx_atS RX1 47 "java/lang/IllegalArgumentException" ["java/lang/RuntimeException", "java/lang/Exception"]).filter goodWord)
def wsJ9_floorMod_7cf53 : List Cond := .code yJ9_floorMod_7cf53 cJ9_floorMod_7cf53 3 (some .int) :: ([])
def wsX1_easter_r1 : List Cond := [Cond.classLink RX1 43 "java/lang/IllegalArgumentException", Cond.initialized "java/lang/IllegalArgumentException", Cond.constantLong RX1 96 (1583), Cond.constantLong RX1 98 (9999), Cond.constantLong RX1 108 (28), Cond.methodLink RX1 39 yX1_isWholeWithin, Cond.static yX1_isWholeWithin, Cond.initialized RX1, Cond.code yX1_isWholeWithin cX1_isWholeWithin 6 (some .boolean), Cond.methodLink RX1 102 yJ9_floorMod_7cf53, Cond.static yJ9_floorMod_7cf53, Cond.initialized RJ9, Cond.code yJ9_floorMod_7cf53 cJ9_floorMod_7cf53 3 (some .int), Cond.methodLink RX1 66 yX1_firstDayOfYear, Cond.static yX1_firstDayOfYear, Cond.code yX1_firstDayOfYear cX1_firstDayOfYear 4 (some .long), Cond.constantLong RX1 118 (365), Cond.constantLong RX1 123 (1721058), Cond.constantLong RX1 125 (1721060), Cond.methodLink RX1 120 yJ9_floorDiv_7cf53, Cond.static yJ9_floorDiv_7cf53, Cond.code yJ9_floorDiv_7cf53 cJ9_floorDiv_7cf53 3 (some .int), Cond.methodLink RX1 70 yX1_daysBeforeMonth, Cond.static yX1_daysBeforeMonth]
def wsX1_easter_r2 : List Cond := [Cond.code yX1_daysBeforeMonth cX1_daysBeforeMonth 5 (some .int), Cond.fieldLink RX1 110 "SkyAlmanac" "MONTH_LENGTHS" "[I", Cond.methodLink RX1 60 yX1_monthLength, Cond.static yX1_monthLength, Cond.code yX1_monthLength cX1_monthLength 4 (some .int), Cond.methodLink RX1 114 yX1_isLeap, Cond.static yX1_isLeap, Cond.code yX1_isLeap cX1_isLeap 2 (some .boolean)]
def wsX1_easter : List Cond := .code yX1_easter cX1_easter 11 (some .long) :: ((wsX1_easter_r1 ++ wsX1_easter_r2) ++ (vx_atS RX1 47 "java/lang/IllegalArgumentException" ["java/lang/RuntimeException", "java/lang/Exception"]).filter goodWord)
def wsX1_isWithin : List Cond := .code yX1_isWithin cX1_isWithin 6 (some .boolean) :: ([])
def wsX1_orbit : List Cond := .code yX1_orbit cX1_orbit 12 (some .boolean) :: ([.classLink RX1 136 "java/lang/IndexOutOfBoundsException", .initialized "java/lang/IndexOutOfBoundsException", .classLink RX1 43 "java/lang/IllegalArgumentException", .initialized "java/lang/IllegalArgumentException", .fieldLink RX1 11 "SkyAlmanac" "bodies" "[LSkyAlmanac$Body;", .constantDouble RX1 141 (13868412840022376448), .constantDouble RX1 143 (4645040803167600640), .constantDouble RX1 149 (13860109328209412096), .constantDouble RX1 151 (4636737291354636288), .constantDouble RX1 153 (4604930618986332160), .methodLink RX1 145 yX1_isWithin, .static yX1_isWithin, .initialized RX1, .code yX1_isWithin cX1_isWithin 6 (some .boolean)] ++ wsX10 ++ wsX00 ++ (vx_atS RX1 140 "java/lang/IndexOutOfBoundsException" ["java/lang/RuntimeException", "java/lang/Exception"]).filter goodWord ++ (vx_atS RX1 47 "java/lang/IllegalArgumentException" ["java/lang/RuntimeException", "java/lang/Exception"]).filter goodWord)
def wsX1_bodyThatIsSet : List Cond := .code yX1_bodyThatIsSet cX1_bodyThatIsSet 2 (some (.object "SkyAlmanac$Body")) :: ([.classLink RX1 214 "java/util/NoSuchElementException", .initialized "java/util/NoSuchElementException", .fieldLink RX1 11 "SkyAlmanac" "bodies" "[LSkyAlmanac$Body;"] ++ wsX10 ++ wsX00 ++ (vx_atS RX1 218 "java/util/NoSuchElementException" ["java/lang/RuntimeException", "java/lang/Exception"]).filter goodWord)
def wsX1_term_r1 : List Cond := [Cond.classLink RX1 43 "java/lang/IllegalArgumentException", Cond.initialized "java/lang/IllegalArgumentException", Cond.classLink RX1 186 "java/lang/IllegalStateException", Cond.initialized "java/lang/IllegalStateException", Cond.constantLong RX1 37 (2), Cond.constantDouble RX1 177 (13845191154443747328), Cond.constantDouble RX1 179 (4621819117588971520), Cond.constantDouble RX1 141 (13868412840022376448), Cond.constantDouble RX1 143 (4645040803167600640), Cond.constantDouble RX1 149 (13860109328209412096), Cond.constantDouble RX1 151 (4636737291354636288), Cond.methodLink RX1 173 yX1_bodyThatIsSet, Cond.instanceMethod yX1_bodyThatIsSet, Cond.selects RX1 yX1_bodyThatIsSet yX1_bodyThatIsSet, Cond.initialized RX1, Cond.code yX1_bodyThatIsSet cX1_bodyThatIsSet 2 (some (.object "SkyAlmanac$Body")), Cond.classLink RX1 214 "java/util/NoSuchElementException", Cond.initialized "java/util/NoSuchElementException", Cond.fieldLink RX1 11 "SkyAlmanac" "bodies" "[LSkyAlmanac$Body;", Cond.methodLink RX1 39 yX1_isWholeWithin, Cond.static yX1_isWholeWithin, Cond.code yX1_isWholeWithin cX1_isWholeWithin 6 (some .boolean), Cond.methodLink RX1 145 yX1_isWithin, Cond.static yX1_isWithin]
def wsX1_term_r2 : List Cond := [Cond.code yX1_isWithin cX1_isWithin 6 (some .boolean)]
def wsX1_term : List Cond := .code yX1_term cX1_term 11 (some .int) :: ((wsX1_term_r1 ++ wsX1_term_r2) ++ wsX00 ++ wsX10 ++ (vx_atS RX1 47 "java/lang/IllegalArgumentException" ["java/lang/RuntimeException", "java/lang/Exception"]).filter goodWord ++ (vx_atS RX1 190 "java/lang/IllegalStateException" ["java/lang/RuntimeException", "java/lang/Exception"]).filter goodWord ++ (vx_atS RX1 218 "java/util/NoSuchElementException" ["java/lang/RuntimeException", "java/lang/Exception"]).filter goodWord)
def wsX1_observer : List Cond := .code yX1_observer cX1_observer 6 (some .boolean) :: ([.classLink RX1 43 "java/lang/IllegalArgumentException", .initialized "java/lang/IllegalArgumentException", .constantDouble RX1 204 (13859405640767635456), .constantDouble RX1 206 (4636033603912859648), .constantDouble RX1 208 (13863909240395005952), .constantDouble RX1 210 (4640537203540230144), .fieldLink RX1 24 "SkyAlmanac" "latitude" "D", .fieldLink RX1 28 "SkyAlmanac" "eastward" "D", .methodLink RX1 145 yX1_isWithin, .static yX1_isWithin, .initialized RX1, .code yX1_isWithin cX1_isWithin 6 (some .boolean)] ++ wsX10 ++ (vx_atS RX1 47 "java/lang/IllegalArgumentException" ["java/lang/RuntimeException", "java/lang/Exception"]).filter goodWord)
def wsX1_isTime : List Cond := .code yX1_isTime cX1_isTime 2 (some .boolean) :: ([.constantDouble RX1 361 (13920209183539462144), .constantDouble RX1 363 (4696837146684686336), .methodLink RX1 145 yX1_isWithin, .static yX1_isWithin, .initialized RX1, .code yX1_isWithin cX1_isWithin 6 (some .boolean)])
def wsX1_degreesInRadian : List Cond := .code yX1_degreesInRadian cX1_degreesInRadian 0 (some .double) :: ([.constantDouble RX1 365 (4633260481411531256)])
def wsX1_sine : List Cond := .code yX1_sine cX1_sine 2 (some .double) :: ([.methodLink RX1 236 yX1_red, .static yX1_red, .initialized RX1, .code yX1_red cX1_red 4 (some .double), .constantLong RX1 345 (360), .constantDouble RX1 143 (4645040803167600640), .methodLink RX1 367 yX1_waveAt, .static yX1_waveAt, .code yX1_waveAt cX1_waveAt 15 (some .double), .constantDouble RX1 206 (4636033603912859648), .constantDouble RX1 249 (4602678819172646912), .constantDouble RX1 371 (4580687790476533049), .constantDouble RX1 373 (13818544856648471893), .constantDouble RX1 375 (4575957461383581969), .constantDouble RX1 377 (13774824197408792602), .constantDouble RX1 379 (4523617214285662004), .constantDouble RX1 381 (13826050856027422720), .constantDouble RX1 383 (4586165620538955093), .constantDouble RX1 385 (13787419979223755799), .constantDouble RX1 387 (4537941361671905306), .constantDouble RX1 389 (13732177094651715420)])
def wsX1_anomalyOf_r1 : List Cond := [Cond.classLink RX1 186 "java/lang/IllegalStateException", Cond.initialized "java/lang/IllegalStateException", Cond.constantDouble RX1 262 (13740701229962882445), Cond.constantDouble RX1 264 (4517329193108106637), Cond.fieldLink RX1 34 "SkyAlmanac" "longitudesFailed" "I", Cond.methodLink RX1 242 yX1_degreesInRadian, Cond.static yX1_degreesInRadian, Cond.initialized RX1, Cond.code yX1_degreesInRadian cX1_degreesInRadian 0 (some .double), Cond.constantDouble RX1 365 (4633260481411531256), Cond.methodLink RX1 246 yX1_sine, Cond.static yX1_sine, Cond.code yX1_sine cX1_sine 2 (some .double), Cond.methodLink RX1 236 yX1_red, Cond.static yX1_red, Cond.code yX1_red cX1_red 4 (some .double), Cond.constantLong RX1 345 (360), Cond.constantDouble RX1 143 (4645040803167600640), Cond.methodLink RX1 367 yX1_waveAt, Cond.static yX1_waveAt, Cond.code yX1_waveAt cX1_waveAt 15 (some .double), Cond.constantDouble RX1 206 (4636033603912859648), Cond.constantDouble RX1 249 (4602678819172646912), Cond.constantDouble RX1 371 (4580687790476533049)]
def wsX1_anomalyOf_r2 : List Cond := [Cond.constantDouble RX1 373 (13818544856648471893), Cond.constantDouble RX1 375 (4575957461383581969), Cond.constantDouble RX1 377 (13774824197408792602), Cond.constantDouble RX1 379 (4523617214285662004), Cond.constantDouble RX1 381 (13826050856027422720), Cond.constantDouble RX1 383 (4586165620538955093), Cond.constantDouble RX1 385 (13787419979223755799), Cond.constantDouble RX1 387 (4537941361671905306), Cond.constantDouble RX1 389 (13732177094651715420), Cond.methodLink RX1 259 yX1_cosine, Cond.static yX1_cosine, Cond.code yX1_cosine cX1_cosine 2 (some .double)]
def wsX1_anomalyOf : List Cond := .code yX1_anomalyOf cX1_anomalyOf 11 (some .double) :: ((wsX1_anomalyOf_r1 ++ wsX1_anomalyOf_r2) ++ wsX00 ++ wsX10 ++ (vx_atS RX1 190 "java/lang/IllegalStateException" ["java/lang/RuntimeException", "java/lang/Exception"]).filter goodWord)
def wsX1_longitudeOf_r1 : List Cond := [Cond.fieldLink RX1 31 "SkyAlmanac" "longitudesWorkedOut" "I", Cond.constantDouble RX1 249 (4602678819172646912), Cond.constantDouble RX1 251 (4611686018427387904), Cond.constantDouble RX1 253 (4652007308841189376), Cond.methodLink RX1 236 yX1_red, Cond.static yX1_red, Cond.initialized RX1, Cond.code yX1_red cX1_red 4 (some .double), Cond.constantLong RX1 345 (360), Cond.constantDouble RX1 143 (4645040803167600640), Cond.methodLink RX1 239 yX1_anomalyOf, Cond.instanceMethod yX1_anomalyOf, Cond.selects RX1 yX1_anomalyOf yX1_anomalyOf, Cond.code yX1_anomalyOf cX1_anomalyOf 11 (some .double), Cond.classLink RX1 186 "java/lang/IllegalStateException", Cond.initialized "java/lang/IllegalStateException", Cond.constantDouble RX1 262 (13740701229962882445), Cond.constantDouble RX1 264 (4517329193108106637), Cond.fieldLink RX1 34 "SkyAlmanac" "longitudesFailed" "I", Cond.methodLink RX1 242 yX1_degreesInRadian, Cond.static yX1_degreesInRadian, Cond.code yX1_degreesInRadian cX1_degreesInRadian 0 (some .double), Cond.constantDouble RX1 365 (4633260481411531256), Cond.methodLink RX1 246 yX1_sine]
def wsX1_longitudeOf_r2 : List Cond := [Cond.static yX1_sine, Cond.code yX1_sine cX1_sine 2 (some .double), Cond.methodLink RX1 367 yX1_waveAt, Cond.static yX1_waveAt, Cond.code yX1_waveAt cX1_waveAt 15 (some .double), Cond.constantDouble RX1 206 (4636033603912859648), Cond.constantDouble RX1 371 (4580687790476533049), Cond.constantDouble RX1 373 (13818544856648471893), Cond.constantDouble RX1 375 (4575957461383581969), Cond.constantDouble RX1 377 (13774824197408792602), Cond.constantDouble RX1 379 (4523617214285662004), Cond.constantDouble RX1 381 (13826050856027422720), Cond.constantDouble RX1 383 (4586165620538955093), Cond.constantDouble RX1 385 (13787419979223755799), Cond.constantDouble RX1 387 (4537941361671905306), Cond.constantDouble RX1 389 (13732177094651715420), Cond.methodLink RX1 259 yX1_cosine, Cond.static yX1_cosine, Cond.code yX1_cosine cX1_cosine 2 (some .double), Cond.instanceMethod yX0_sumOfPower, Cond.initialized RX0, Cond.selects RX0 yX0_sumOfPower yX0_sumOfPower, Cond.code yX0_sumOfPower cX0_sumOfPower 7 (some .double), Cond.fieldLink RX0 25 "SkyAlmanac$Body" "terms" "I"]
def wsX1_longitudeOf_r3 : List Cond := [Cond.fieldLink RX0 9 "SkyAlmanac$Body" "powers" "[I", Cond.fieldLink RX0 15 "SkyAlmanac$Body" "factors" "[D", Cond.fieldLink RX0 19 "SkyAlmanac$Body" "starts" "[D", Cond.fieldLink RX0 22 "SkyAlmanac$Body" "speeds" "[D"]
def wsX1_longitudeOf : List Cond := .code yX1_longitudeOf cX1_longitudeOf 14 (some .double) :: ((wsX1_longitudeOf_r1 ++ (wsX1_longitudeOf_r2 ++ wsX1_longitudeOf_r3)) ++ wsX10 ++ wsX00 ++ (vx_atS RX1 190 "java/lang/IllegalStateException" ["java/lang/RuntimeException", "java/lang/Exception"]).filter goodWord)
def wsX1_longitude_r1 : List Cond := [Cond.classLink RX1 43 "java/lang/IllegalArgumentException", Cond.initialized "java/lang/IllegalArgumentException", Cond.methodLink RX1 173 yX1_bodyThatIsSet, Cond.instanceMethod yX1_bodyThatIsSet, Cond.selects RX1 yX1_bodyThatIsSet yX1_bodyThatIsSet, Cond.initialized RX1, Cond.code yX1_bodyThatIsSet cX1_bodyThatIsSet 2 (some (.object "SkyAlmanac$Body")), Cond.classLink RX1 214 "java/util/NoSuchElementException", Cond.initialized "java/util/NoSuchElementException", Cond.fieldLink RX1 11 "SkyAlmanac" "bodies" "[LSkyAlmanac$Body;", Cond.methodLink RX1 219 yX1_isTime, Cond.static yX1_isTime, Cond.code yX1_isTime cX1_isTime 2 (some .boolean), Cond.constantDouble RX1 361 (13920209183539462144), Cond.constantDouble RX1 363 (4696837146684686336), Cond.methodLink RX1 145 yX1_isWithin, Cond.static yX1_isWithin, Cond.code yX1_isWithin cX1_isWithin 6 (some .boolean), Cond.methodLink RX1 225 yX1_longitudeOf, Cond.instanceMethod yX1_longitudeOf, Cond.selects RX1 yX1_longitudeOf yX1_longitudeOf, Cond.code yX1_longitudeOf cX1_longitudeOf 14 (some .double), Cond.fieldLink RX1 31 "SkyAlmanac" "longitudesWorkedOut" "I", Cond.constantDouble RX1 249 (4602678819172646912)]
def wsX1_longitude_r2 : List Cond := [Cond.constantDouble RX1 251 (4611686018427387904), Cond.constantDouble RX1 253 (4652007308841189376), Cond.methodLink RX1 236 yX1_red, Cond.static yX1_red, Cond.code yX1_red cX1_red 4 (some .double), Cond.constantLong RX1 345 (360), Cond.constantDouble RX1 143 (4645040803167600640), Cond.methodLink RX1 239 yX1_anomalyOf, Cond.instanceMethod yX1_anomalyOf, Cond.selects RX1 yX1_anomalyOf yX1_anomalyOf, Cond.code yX1_anomalyOf cX1_anomalyOf 11 (some .double), Cond.classLink RX1 186 "java/lang/IllegalStateException", Cond.initialized "java/lang/IllegalStateException", Cond.constantDouble RX1 262 (13740701229962882445), Cond.constantDouble RX1 264 (4517329193108106637), Cond.fieldLink RX1 34 "SkyAlmanac" "longitudesFailed" "I", Cond.methodLink RX1 242 yX1_degreesInRadian, Cond.static yX1_degreesInRadian, Cond.code yX1_degreesInRadian cX1_degreesInRadian 0 (some .double), Cond.constantDouble RX1 365 (4633260481411531256), Cond.methodLink RX1 246 yX1_sine, Cond.static yX1_sine, Cond.code yX1_sine cX1_sine 2 (some .double), Cond.methodLink RX1 367 yX1_waveAt]
def wsX1_longitude_r3 : List Cond := [Cond.static yX1_waveAt, Cond.code yX1_waveAt cX1_waveAt 15 (some .double), Cond.constantDouble RX1 206 (4636033603912859648), Cond.constantDouble RX1 371 (4580687790476533049), Cond.constantDouble RX1 373 (13818544856648471893), Cond.constantDouble RX1 375 (4575957461383581969), Cond.constantDouble RX1 377 (13774824197408792602), Cond.constantDouble RX1 379 (4523617214285662004), Cond.constantDouble RX1 381 (13826050856027422720), Cond.constantDouble RX1 383 (4586165620538955093), Cond.constantDouble RX1 385 (13787419979223755799), Cond.constantDouble RX1 387 (4537941361671905306), Cond.constantDouble RX1 389 (13732177094651715420), Cond.methodLink RX1 259 yX1_cosine, Cond.static yX1_cosine, Cond.code yX1_cosine cX1_cosine 2 (some .double), Cond.instanceMethod yX0_sumOfPower, Cond.initialized RX0, Cond.selects RX0 yX0_sumOfPower yX0_sumOfPower, Cond.code yX0_sumOfPower cX0_sumOfPower 7 (some .double), Cond.fieldLink RX0 25 "SkyAlmanac$Body" "terms" "I", Cond.fieldLink RX0 9 "SkyAlmanac$Body" "powers" "[I", Cond.fieldLink RX0 15 "SkyAlmanac$Body" "factors" "[D", Cond.fieldLink RX0 19 "SkyAlmanac$Body" "starts" "[D"]
def wsX1_longitude_r4 : List Cond := [Cond.fieldLink RX0 22 "SkyAlmanac$Body" "speeds" "[D"]
def wsX1_longitude : List Cond := .code yX1_longitude cX1_longitude 5 (some .double) :: ((wsX1_longitude_r1 ++ (wsX1_longitude_r2 ++ (wsX1_longitude_r3 ++ wsX1_longitude_r4))) ++ wsX10 ++ wsX00 ++ (vx_atS RX1 47 "java/lang/IllegalArgumentException" ["java/lang/RuntimeException", "java/lang/Exception"]).filter goodWord ++ (vx_atS RX1 218 "java/util/NoSuchElementException" ["java/lang/RuntimeException", "java/lang/Exception"]).filter goodWord ++ (vx_atS RX1 190 "java/lang/IllegalStateException" ["java/lang/RuntimeException", "java/lang/Exception"]).filter goodWord)
def wsX1_siderealAngle : List Cond := .code yX1_siderealAngle cX1_siderealAngle 2 (some .double) :: ([.constantDouble RX1 272 (4643641531568107876), .constantDouble RX1 274 (4607053141768361126), .constantDouble RX1 143 (4645040803167600640), .methodLink RX1 236 yX1_red, .static yX1_red, .initialized RX1, .code yX1_red cX1_red 4 (some .double), .constantLong RX1 345 (360)])
def wsX1_heightOf_r1 : List Cond := [Cond.constantDouble RX1 268 (4606439163290984179), Cond.constantDouble RX1 270 (4600837336122831769), Cond.fieldLink RX1 28 "SkyAlmanac" "eastward" "D", Cond.fieldLink RX1 24 "SkyAlmanac" "latitude" "D", Cond.methodLink RX1 225 yX1_longitudeOf, Cond.instanceMethod yX1_longitudeOf, Cond.selects RX1 yX1_longitudeOf yX1_longitudeOf, Cond.initialized RX1, Cond.code yX1_longitudeOf cX1_longitudeOf 14 (some .double), Cond.fieldLink RX1 31 "SkyAlmanac" "longitudesWorkedOut" "I", Cond.constantDouble RX1 249 (4602678819172646912), Cond.constantDouble RX1 251 (4611686018427387904), Cond.constantDouble RX1 253 (4652007308841189376), Cond.methodLink RX1 236 yX1_red, Cond.static yX1_red, Cond.code yX1_red cX1_red 4 (some .double), Cond.constantLong RX1 345 (360), Cond.constantDouble RX1 143 (4645040803167600640), Cond.methodLink RX1 239 yX1_anomalyOf, Cond.instanceMethod yX1_anomalyOf, Cond.selects RX1 yX1_anomalyOf yX1_anomalyOf, Cond.code yX1_anomalyOf cX1_anomalyOf 11 (some .double), Cond.classLink RX1 186 "java/lang/IllegalStateException", Cond.initialized "java/lang/IllegalStateException"]
def wsX1_heightOf_r2 : List Cond := [Cond.constantDouble RX1 262 (13740701229962882445), Cond.constantDouble RX1 264 (4517329193108106637), Cond.fieldLink RX1 34 "SkyAlmanac" "longitudesFailed" "I", Cond.methodLink RX1 242 yX1_degreesInRadian, Cond.static yX1_degreesInRadian, Cond.code yX1_degreesInRadian cX1_degreesInRadian 0 (some .double), Cond.constantDouble RX1 365 (4633260481411531256), Cond.methodLink RX1 246 yX1_sine, Cond.static yX1_sine, Cond.code yX1_sine cX1_sine 2 (some .double), Cond.methodLink RX1 367 yX1_waveAt, Cond.static yX1_waveAt, Cond.code yX1_waveAt cX1_waveAt 15 (some .double), Cond.constantDouble RX1 206 (4636033603912859648), Cond.constantDouble RX1 371 (4580687790476533049), Cond.constantDouble RX1 373 (13818544856648471893), Cond.constantDouble RX1 375 (4575957461383581969), Cond.constantDouble RX1 377 (13774824197408792602), Cond.constantDouble RX1 379 (4523617214285662004), Cond.constantDouble RX1 381 (13826050856027422720), Cond.constantDouble RX1 383 (4586165620538955093), Cond.constantDouble RX1 385 (13787419979223755799), Cond.constantDouble RX1 387 (4537941361671905306), Cond.constantDouble RX1 389 (13732177094651715420)]
def wsX1_heightOf_r3 : List Cond := [Cond.methodLink RX1 259 yX1_cosine, Cond.static yX1_cosine, Cond.code yX1_cosine cX1_cosine 2 (some .double), Cond.instanceMethod yX0_sumOfPower, Cond.initialized RX0, Cond.selects RX0 yX0_sumOfPower yX0_sumOfPower, Cond.code yX0_sumOfPower cX0_sumOfPower 7 (some .double), Cond.fieldLink RX0 25 "SkyAlmanac$Body" "terms" "I", Cond.fieldLink RX0 9 "SkyAlmanac$Body" "powers" "[I", Cond.fieldLink RX0 15 "SkyAlmanac$Body" "factors" "[D", Cond.fieldLink RX0 19 "SkyAlmanac$Body" "starts" "[D", Cond.fieldLink RX0 22 "SkyAlmanac$Body" "speeds" "[D", Cond.methodLink RX1 232 yX1_siderealAngle, Cond.static yX1_siderealAngle, Cond.code yX1_siderealAngle cX1_siderealAngle 2 (some .double), Cond.constantDouble RX1 272 (4643641531568107876), Cond.constantDouble RX1 274 (4607053141768361126)]
def wsX1_heightOf : List Cond := .code yX1_heightOf cX1_heightOf 14 (some .double) :: ((wsX1_heightOf_r1 ++ (wsX1_heightOf_r2 ++ wsX1_heightOf_r3)) ++ wsX10 ++ wsX00 ++ (vx_atS RX1 190 "java/lang/IllegalStateException" ["java/lang/RuntimeException", "java/lang/Exception"]).filter goodWord)
def wsX1_height_r1 : List Cond := [Cond.classLink RX1 43 "java/lang/IllegalArgumentException", Cond.initialized "java/lang/IllegalArgumentException", Cond.methodLink RX1 173 yX1_bodyThatIsSet, Cond.instanceMethod yX1_bodyThatIsSet, Cond.selects RX1 yX1_bodyThatIsSet yX1_bodyThatIsSet, Cond.initialized RX1, Cond.code yX1_bodyThatIsSet cX1_bodyThatIsSet 2 (some (.object "SkyAlmanac$Body")), Cond.classLink RX1 214 "java/util/NoSuchElementException", Cond.initialized "java/util/NoSuchElementException", Cond.fieldLink RX1 11 "SkyAlmanac" "bodies" "[LSkyAlmanac$Body;", Cond.methodLink RX1 219 yX1_isTime, Cond.static yX1_isTime, Cond.code yX1_isTime cX1_isTime 2 (some .boolean), Cond.constantDouble RX1 361 (13920209183539462144), Cond.constantDouble RX1 363 (4696837146684686336), Cond.methodLink RX1 145 yX1_isWithin, Cond.static yX1_isWithin, Cond.code yX1_isWithin cX1_isWithin 6 (some .boolean), Cond.methodLink RX1 229 yX1_heightOf, Cond.instanceMethod yX1_heightOf, Cond.selects RX1 yX1_heightOf yX1_heightOf, Cond.code yX1_heightOf cX1_heightOf 14 (some .double), Cond.constantDouble RX1 268 (4606439163290984179), Cond.constantDouble RX1 270 (4600837336122831769)]
def wsX1_height_r2 : List Cond := [Cond.fieldLink RX1 28 "SkyAlmanac" "eastward" "D", Cond.fieldLink RX1 24 "SkyAlmanac" "latitude" "D", Cond.methodLink RX1 225 yX1_longitudeOf, Cond.instanceMethod yX1_longitudeOf, Cond.selects RX1 yX1_longitudeOf yX1_longitudeOf, Cond.code yX1_longitudeOf cX1_longitudeOf 14 (some .double), Cond.fieldLink RX1 31 "SkyAlmanac" "longitudesWorkedOut" "I", Cond.constantDouble RX1 249 (4602678819172646912), Cond.constantDouble RX1 251 (4611686018427387904), Cond.constantDouble RX1 253 (4652007308841189376), Cond.methodLink RX1 236 yX1_red, Cond.static yX1_red, Cond.code yX1_red cX1_red 4 (some .double), Cond.constantLong RX1 345 (360), Cond.constantDouble RX1 143 (4645040803167600640), Cond.methodLink RX1 239 yX1_anomalyOf, Cond.instanceMethod yX1_anomalyOf, Cond.selects RX1 yX1_anomalyOf yX1_anomalyOf, Cond.code yX1_anomalyOf cX1_anomalyOf 11 (some .double), Cond.classLink RX1 186 "java/lang/IllegalStateException", Cond.initialized "java/lang/IllegalStateException", Cond.constantDouble RX1 262 (13740701229962882445), Cond.constantDouble RX1 264 (4517329193108106637), Cond.fieldLink RX1 34 "SkyAlmanac" "longitudesFailed" "I"]
def wsX1_height_r3 : List Cond := [Cond.methodLink RX1 242 yX1_degreesInRadian, Cond.static yX1_degreesInRadian, Cond.code yX1_degreesInRadian cX1_degreesInRadian 0 (some .double), Cond.constantDouble RX1 365 (4633260481411531256), Cond.methodLink RX1 246 yX1_sine, Cond.static yX1_sine, Cond.code yX1_sine cX1_sine 2 (some .double), Cond.methodLink RX1 367 yX1_waveAt, Cond.static yX1_waveAt, Cond.code yX1_waveAt cX1_waveAt 15 (some .double), Cond.constantDouble RX1 206 (4636033603912859648), Cond.constantDouble RX1 371 (4580687790476533049), Cond.constantDouble RX1 373 (13818544856648471893), Cond.constantDouble RX1 375 (4575957461383581969), Cond.constantDouble RX1 377 (13774824197408792602), Cond.constantDouble RX1 379 (4523617214285662004), Cond.constantDouble RX1 381 (13826050856027422720), Cond.constantDouble RX1 383 (4586165620538955093), Cond.constantDouble RX1 385 (13787419979223755799), Cond.constantDouble RX1 387 (4537941361671905306), Cond.constantDouble RX1 389 (13732177094651715420), Cond.methodLink RX1 259 yX1_cosine, Cond.static yX1_cosine, Cond.code yX1_cosine cX1_cosine 2 (some .double)]
def wsX1_height_r4 : List Cond := [Cond.instanceMethod yX0_sumOfPower, Cond.initialized RX0, Cond.selects RX0 yX0_sumOfPower yX0_sumOfPower, Cond.code yX0_sumOfPower cX0_sumOfPower 7 (some .double), Cond.fieldLink RX0 25 "SkyAlmanac$Body" "terms" "I", Cond.fieldLink RX0 9 "SkyAlmanac$Body" "powers" "[I", Cond.fieldLink RX0 15 "SkyAlmanac$Body" "factors" "[D", Cond.fieldLink RX0 19 "SkyAlmanac$Body" "starts" "[D", Cond.fieldLink RX0 22 "SkyAlmanac$Body" "speeds" "[D", Cond.methodLink RX1 232 yX1_siderealAngle, Cond.static yX1_siderealAngle, Cond.code yX1_siderealAngle cX1_siderealAngle 2 (some .double), Cond.constantDouble RX1 272 (4643641531568107876), Cond.constantDouble RX1 274 (4607053141768361126)]
def wsX1_height : List Cond := .code yX1_height cX1_height 5 (some .double) :: ((wsX1_height_r1 ++ (wsX1_height_r2 ++ (wsX1_height_r3 ++ wsX1_height_r4))) ++ wsX10 ++ wsX00 ++ (vx_atS RX1 47 "java/lang/IllegalArgumentException" ["java/lang/RuntimeException", "java/lang/Exception"]).filter goodWord ++ (vx_atS RX1 218 "java/util/NoSuchElementException" ["java/lang/RuntimeException", "java/lang/Exception"]).filter goodWord ++ (vx_atS RX1 190 "java/lang/IllegalStateException" ["java/lang/RuntimeException", "java/lang/Exception"]).filter goodWord)
def wsX1_sidereal : List Cond := .code yX1_sidereal cX1_sidereal 3 (some .double) :: ([.classLink RX1 43 "java/lang/IllegalArgumentException", .initialized "java/lang/IllegalArgumentException", .methodLink RX1 219 yX1_isTime, .static yX1_isTime, .initialized RX1, .code yX1_isTime cX1_isTime 2 (some .boolean), .constantDouble RX1 361 (13920209183539462144), .constantDouble RX1 363 (4696837146684686336), .methodLink RX1 145 yX1_isWithin, .static yX1_isWithin, .code yX1_isWithin cX1_isWithin 6 (some .boolean), .methodLink RX1 232 yX1_siderealAngle, .static yX1_siderealAngle, .code yX1_siderealAngle cX1_siderealAngle 2 (some .double), .constantDouble RX1 272 (4643641531568107876), .constantDouble RX1 274 (4607053141768361126), .constantDouble RX1 143 (4645040803167600640), .methodLink RX1 236 yX1_red, .static yX1_red, .code yX1_red cX1_red 4 (some .double), .constantLong RX1 345 (360)] ++ (vx_atS RX1 47 "java/lang/IllegalArgumentException" ["java/lang/RuntimeException", "java/lang/Exception"]).filter goodWord)
def wsX1_count : List Cond := .code yX1_count cX1_count 2 (some .int) :: ([.fieldLink RX1 34 "SkyAlmanac" "longitudesFailed" "I", .fieldLink RX1 31 "SkyAlmanac" "longitudesWorkedOut" "I"] ++ wsX10)
def wsX1_timeOfPart : List Cond := .code yX1_timeOfPart cX1_timeOfPart 2 (some .double) :: ([.constantDouble RX1 302 (4625196817309499392)])
def wsX1_partOfGreatestHeight_r1 : List Cond := [Cond.methodLink RX1 304 yX1_timeOfPart, Cond.static yX1_timeOfPart, Cond.initialized RX1, Cond.code yX1_timeOfPart cX1_timeOfPart 2 (some .double), Cond.constantDouble RX1 302 (4625196817309499392), Cond.methodLink RX1 229 yX1_heightOf, Cond.instanceMethod yX1_heightOf, Cond.selects RX1 yX1_heightOf yX1_heightOf, Cond.code yX1_heightOf cX1_heightOf 14 (some .double), Cond.constantDouble RX1 268 (4606439163290984179), Cond.constantDouble RX1 270 (4600837336122831769), Cond.fieldLink RX1 28 "SkyAlmanac" "eastward" "D", Cond.fieldLink RX1 24 "SkyAlmanac" "latitude" "D", Cond.methodLink RX1 225 yX1_longitudeOf, Cond.instanceMethod yX1_longitudeOf, Cond.selects RX1 yX1_longitudeOf yX1_longitudeOf, Cond.code yX1_longitudeOf cX1_longitudeOf 14 (some .double), Cond.fieldLink RX1 31 "SkyAlmanac" "longitudesWorkedOut" "I", Cond.constantDouble RX1 249 (4602678819172646912), Cond.constantDouble RX1 251 (4611686018427387904), Cond.constantDouble RX1 253 (4652007308841189376), Cond.methodLink RX1 236 yX1_red, Cond.static yX1_red, Cond.code yX1_red cX1_red 4 (some .double)]
def wsX1_partOfGreatestHeight_r2 : List Cond := [Cond.constantLong RX1 345 (360), Cond.constantDouble RX1 143 (4645040803167600640), Cond.methodLink RX1 239 yX1_anomalyOf, Cond.instanceMethod yX1_anomalyOf, Cond.selects RX1 yX1_anomalyOf yX1_anomalyOf, Cond.code yX1_anomalyOf cX1_anomalyOf 11 (some .double), Cond.classLink RX1 186 "java/lang/IllegalStateException", Cond.initialized "java/lang/IllegalStateException", Cond.constantDouble RX1 262 (13740701229962882445), Cond.constantDouble RX1 264 (4517329193108106637), Cond.fieldLink RX1 34 "SkyAlmanac" "longitudesFailed" "I", Cond.methodLink RX1 242 yX1_degreesInRadian, Cond.static yX1_degreesInRadian, Cond.code yX1_degreesInRadian cX1_degreesInRadian 0 (some .double), Cond.constantDouble RX1 365 (4633260481411531256), Cond.methodLink RX1 246 yX1_sine, Cond.static yX1_sine, Cond.code yX1_sine cX1_sine 2 (some .double), Cond.methodLink RX1 367 yX1_waveAt, Cond.static yX1_waveAt, Cond.code yX1_waveAt cX1_waveAt 15 (some .double), Cond.constantDouble RX1 206 (4636033603912859648), Cond.constantDouble RX1 371 (4580687790476533049), Cond.constantDouble RX1 373 (13818544856648471893)]
def wsX1_partOfGreatestHeight_r3 : List Cond := [Cond.constantDouble RX1 375 (4575957461383581969), Cond.constantDouble RX1 377 (13774824197408792602), Cond.constantDouble RX1 379 (4523617214285662004), Cond.constantDouble RX1 381 (13826050856027422720), Cond.constantDouble RX1 383 (4586165620538955093), Cond.constantDouble RX1 385 (13787419979223755799), Cond.constantDouble RX1 387 (4537941361671905306), Cond.constantDouble RX1 389 (13732177094651715420), Cond.methodLink RX1 259 yX1_cosine, Cond.static yX1_cosine, Cond.code yX1_cosine cX1_cosine 2 (some .double), Cond.instanceMethod yX0_sumOfPower, Cond.initialized RX0, Cond.selects RX0 yX0_sumOfPower yX0_sumOfPower, Cond.code yX0_sumOfPower cX0_sumOfPower 7 (some .double), Cond.fieldLink RX0 25 "SkyAlmanac$Body" "terms" "I", Cond.fieldLink RX0 9 "SkyAlmanac$Body" "powers" "[I", Cond.fieldLink RX0 15 "SkyAlmanac$Body" "factors" "[D", Cond.fieldLink RX0 19 "SkyAlmanac$Body" "starts" "[D", Cond.fieldLink RX0 22 "SkyAlmanac$Body" "speeds" "[D", Cond.methodLink RX1 232 yX1_siderealAngle, Cond.static yX1_siderealAngle, Cond.code yX1_siderealAngle cX1_siderealAngle 2 (some .double), Cond.constantDouble RX1 272 (4643641531568107876)]
def wsX1_partOfGreatestHeight_r4 : List Cond := [Cond.constantDouble RX1 274 (4607053141768361126)]
def wsX1_partOfGreatestHeight : List Cond := .code yX1_partOfGreatestHeight cX1_partOfGreatestHeight 9 (some .int) :: ((wsX1_partOfGreatestHeight_r1 ++ (wsX1_partOfGreatestHeight_r2 ++ (wsX1_partOfGreatestHeight_r3 ++ wsX1_partOfGreatestHeight_r4))) ++ wsX10 ++ wsX00 ++ (vx_atS RX1 190 "java/lang/IllegalStateException" ["java/lang/RuntimeException", "java/lang/Exception"]).filter goodWord)
def wsX1_narrowedToHighest_r1 : List Cond := [Cond.constantDouble RX1 308 (4613937818241073152), Cond.constantDouble RX1 251 (4611686018427387904), Cond.methodLink RX1 304 yX1_timeOfPart, Cond.static yX1_timeOfPart, Cond.initialized RX1, Cond.code yX1_timeOfPart cX1_timeOfPart 2 (some .double), Cond.constantDouble RX1 302 (4625196817309499392), Cond.methodLink RX1 229 yX1_heightOf, Cond.instanceMethod yX1_heightOf, Cond.selects RX1 yX1_heightOf yX1_heightOf, Cond.code yX1_heightOf cX1_heightOf 14 (some .double), Cond.constantDouble RX1 268 (4606439163290984179), Cond.constantDouble RX1 270 (4600837336122831769), Cond.fieldLink RX1 28 "SkyAlmanac" "eastward" "D", Cond.fieldLink RX1 24 "SkyAlmanac" "latitude" "D", Cond.methodLink RX1 225 yX1_longitudeOf, Cond.instanceMethod yX1_longitudeOf, Cond.selects RX1 yX1_longitudeOf yX1_longitudeOf, Cond.code yX1_longitudeOf cX1_longitudeOf 14 (some .double), Cond.fieldLink RX1 31 "SkyAlmanac" "longitudesWorkedOut" "I", Cond.constantDouble RX1 249 (4602678819172646912), Cond.constantDouble RX1 253 (4652007308841189376), Cond.methodLink RX1 236 yX1_red, Cond.static yX1_red]
def wsX1_narrowedToHighest_r2 : List Cond := [Cond.code yX1_red cX1_red 4 (some .double), Cond.constantLong RX1 345 (360), Cond.constantDouble RX1 143 (4645040803167600640), Cond.methodLink RX1 239 yX1_anomalyOf, Cond.instanceMethod yX1_anomalyOf, Cond.selects RX1 yX1_anomalyOf yX1_anomalyOf, Cond.code yX1_anomalyOf cX1_anomalyOf 11 (some .double), Cond.classLink RX1 186 "java/lang/IllegalStateException", Cond.initialized "java/lang/IllegalStateException", Cond.constantDouble RX1 262 (13740701229962882445), Cond.constantDouble RX1 264 (4517329193108106637), Cond.fieldLink RX1 34 "SkyAlmanac" "longitudesFailed" "I", Cond.methodLink RX1 242 yX1_degreesInRadian, Cond.static yX1_degreesInRadian, Cond.code yX1_degreesInRadian cX1_degreesInRadian 0 (some .double), Cond.constantDouble RX1 365 (4633260481411531256), Cond.methodLink RX1 246 yX1_sine, Cond.static yX1_sine, Cond.code yX1_sine cX1_sine 2 (some .double), Cond.methodLink RX1 367 yX1_waveAt, Cond.static yX1_waveAt, Cond.code yX1_waveAt cX1_waveAt 15 (some .double), Cond.constantDouble RX1 206 (4636033603912859648), Cond.constantDouble RX1 371 (4580687790476533049)]
def wsX1_narrowedToHighest_r3 : List Cond := [Cond.constantDouble RX1 373 (13818544856648471893), Cond.constantDouble RX1 375 (4575957461383581969), Cond.constantDouble RX1 377 (13774824197408792602), Cond.constantDouble RX1 379 (4523617214285662004), Cond.constantDouble RX1 381 (13826050856027422720), Cond.constantDouble RX1 383 (4586165620538955093), Cond.constantDouble RX1 385 (13787419979223755799), Cond.constantDouble RX1 387 (4537941361671905306), Cond.constantDouble RX1 389 (13732177094651715420), Cond.methodLink RX1 259 yX1_cosine, Cond.static yX1_cosine, Cond.code yX1_cosine cX1_cosine 2 (some .double), Cond.instanceMethod yX0_sumOfPower, Cond.initialized RX0, Cond.selects RX0 yX0_sumOfPower yX0_sumOfPower, Cond.code yX0_sumOfPower cX0_sumOfPower 7 (some .double), Cond.fieldLink RX0 25 "SkyAlmanac$Body" "terms" "I", Cond.fieldLink RX0 9 "SkyAlmanac$Body" "powers" "[I", Cond.fieldLink RX0 15 "SkyAlmanac$Body" "factors" "[D", Cond.fieldLink RX0 19 "SkyAlmanac$Body" "starts" "[D", Cond.fieldLink RX0 22 "SkyAlmanac$Body" "speeds" "[D", Cond.methodLink RX1 232 yX1_siderealAngle, Cond.static yX1_siderealAngle, Cond.code yX1_siderealAngle cX1_siderealAngle 2 (some .double)]
def wsX1_narrowedToHighest_r4 : List Cond := [Cond.constantDouble RX1 272 (4643641531568107876), Cond.constantDouble RX1 274 (4607053141768361126)]
def wsX1_narrowedToHighest : List Cond := .code yX1_narrowedToHighest cX1_narrowedToHighest 17 (some .double) :: ((wsX1_narrowedToHighest_r1 ++ (wsX1_narrowedToHighest_r2 ++ (wsX1_narrowedToHighest_r3 ++ wsX1_narrowedToHighest_r4))) ++ wsX10 ++ wsX00 ++ (vx_atS RX1 190 "java/lang/IllegalStateException" ["java/lang/RuntimeException", "java/lang/Exception"]).filter goodWord)
def wsX1_partOfCrossing_r1 : List Cond := [Cond.methodLink RX1 304 yX1_timeOfPart, Cond.static yX1_timeOfPart, Cond.initialized RX1, Cond.code yX1_timeOfPart cX1_timeOfPart 2 (some .double), Cond.constantDouble RX1 302 (4625196817309499392), Cond.methodLink RX1 229 yX1_heightOf, Cond.instanceMethod yX1_heightOf, Cond.selects RX1 yX1_heightOf yX1_heightOf, Cond.code yX1_heightOf cX1_heightOf 14 (some .double), Cond.constantDouble RX1 268 (4606439163290984179), Cond.constantDouble RX1 270 (4600837336122831769), Cond.fieldLink RX1 28 "SkyAlmanac" "eastward" "D", Cond.fieldLink RX1 24 "SkyAlmanac" "latitude" "D", Cond.methodLink RX1 225 yX1_longitudeOf, Cond.instanceMethod yX1_longitudeOf, Cond.selects RX1 yX1_longitudeOf yX1_longitudeOf, Cond.code yX1_longitudeOf cX1_longitudeOf 14 (some .double), Cond.fieldLink RX1 31 "SkyAlmanac" "longitudesWorkedOut" "I", Cond.constantDouble RX1 249 (4602678819172646912), Cond.constantDouble RX1 251 (4611686018427387904), Cond.constantDouble RX1 253 (4652007308841189376), Cond.methodLink RX1 236 yX1_red, Cond.static yX1_red, Cond.code yX1_red cX1_red 4 (some .double)]
def wsX1_partOfCrossing_r2 : List Cond := [Cond.constantLong RX1 345 (360), Cond.constantDouble RX1 143 (4645040803167600640), Cond.methodLink RX1 239 yX1_anomalyOf, Cond.instanceMethod yX1_anomalyOf, Cond.selects RX1 yX1_anomalyOf yX1_anomalyOf, Cond.code yX1_anomalyOf cX1_anomalyOf 11 (some .double), Cond.classLink RX1 186 "java/lang/IllegalStateException", Cond.initialized "java/lang/IllegalStateException", Cond.constantDouble RX1 262 (13740701229962882445), Cond.constantDouble RX1 264 (4517329193108106637), Cond.fieldLink RX1 34 "SkyAlmanac" "longitudesFailed" "I", Cond.methodLink RX1 242 yX1_degreesInRadian, Cond.static yX1_degreesInRadian, Cond.code yX1_degreesInRadian cX1_degreesInRadian 0 (some .double), Cond.constantDouble RX1 365 (4633260481411531256), Cond.methodLink RX1 246 yX1_sine, Cond.static yX1_sine, Cond.code yX1_sine cX1_sine 2 (some .double), Cond.methodLink RX1 367 yX1_waveAt, Cond.static yX1_waveAt, Cond.code yX1_waveAt cX1_waveAt 15 (some .double), Cond.constantDouble RX1 206 (4636033603912859648), Cond.constantDouble RX1 371 (4580687790476533049), Cond.constantDouble RX1 373 (13818544856648471893)]
def wsX1_partOfCrossing_r3 : List Cond := [Cond.constantDouble RX1 375 (4575957461383581969), Cond.constantDouble RX1 377 (13774824197408792602), Cond.constantDouble RX1 379 (4523617214285662004), Cond.constantDouble RX1 381 (13826050856027422720), Cond.constantDouble RX1 383 (4586165620538955093), Cond.constantDouble RX1 385 (13787419979223755799), Cond.constantDouble RX1 387 (4537941361671905306), Cond.constantDouble RX1 389 (13732177094651715420), Cond.methodLink RX1 259 yX1_cosine, Cond.static yX1_cosine, Cond.code yX1_cosine cX1_cosine 2 (some .double), Cond.instanceMethod yX0_sumOfPower, Cond.initialized RX0, Cond.selects RX0 yX0_sumOfPower yX0_sumOfPower, Cond.code yX0_sumOfPower cX0_sumOfPower 7 (some .double), Cond.fieldLink RX0 25 "SkyAlmanac$Body" "terms" "I", Cond.fieldLink RX0 9 "SkyAlmanac$Body" "powers" "[I", Cond.fieldLink RX0 15 "SkyAlmanac$Body" "factors" "[D", Cond.fieldLink RX0 19 "SkyAlmanac$Body" "starts" "[D", Cond.fieldLink RX0 22 "SkyAlmanac$Body" "speeds" "[D", Cond.methodLink RX1 232 yX1_siderealAngle, Cond.static yX1_siderealAngle, Cond.code yX1_siderealAngle cX1_siderealAngle 2 (some .double), Cond.constantDouble RX1 272 (4643641531568107876)]
def wsX1_partOfCrossing_r4 : List Cond := [Cond.constantDouble RX1 274 (4607053141768361126)]
def wsX1_partOfCrossing : List Cond := .code yX1_partOfCrossing cX1_partOfCrossing 7 (some .int) :: ((wsX1_partOfCrossing_r1 ++ (wsX1_partOfCrossing_r2 ++ (wsX1_partOfCrossing_r3 ++ wsX1_partOfCrossing_r4))) ++ wsX10 ++ wsX00 ++ (vx_atS RX1 190 "java/lang/IllegalStateException" ["java/lang/RuntimeException", "java/lang/Exception"]).filter goodWord)
def wsX1_narrowedToCrossing_r1 : List Cond := [Cond.constantDouble RX1 251 (4611686018427387904), Cond.methodLink RX1 304 yX1_timeOfPart, Cond.static yX1_timeOfPart, Cond.initialized RX1, Cond.code yX1_timeOfPart cX1_timeOfPart 2 (some .double), Cond.constantDouble RX1 302 (4625196817309499392), Cond.methodLink RX1 229 yX1_heightOf, Cond.instanceMethod yX1_heightOf, Cond.selects RX1 yX1_heightOf yX1_heightOf, Cond.code yX1_heightOf cX1_heightOf 14 (some .double), Cond.constantDouble RX1 268 (4606439163290984179), Cond.constantDouble RX1 270 (4600837336122831769), Cond.fieldLink RX1 28 "SkyAlmanac" "eastward" "D", Cond.fieldLink RX1 24 "SkyAlmanac" "latitude" "D", Cond.methodLink RX1 225 yX1_longitudeOf, Cond.instanceMethod yX1_longitudeOf, Cond.selects RX1 yX1_longitudeOf yX1_longitudeOf, Cond.code yX1_longitudeOf cX1_longitudeOf 14 (some .double), Cond.fieldLink RX1 31 "SkyAlmanac" "longitudesWorkedOut" "I", Cond.constantDouble RX1 249 (4602678819172646912), Cond.constantDouble RX1 253 (4652007308841189376), Cond.methodLink RX1 236 yX1_red, Cond.static yX1_red, Cond.code yX1_red cX1_red 4 (some .double)]
def wsX1_narrowedToCrossing_r2 : List Cond := [Cond.constantLong RX1 345 (360), Cond.constantDouble RX1 143 (4645040803167600640), Cond.methodLink RX1 239 yX1_anomalyOf, Cond.instanceMethod yX1_anomalyOf, Cond.selects RX1 yX1_anomalyOf yX1_anomalyOf, Cond.code yX1_anomalyOf cX1_anomalyOf 11 (some .double), Cond.classLink RX1 186 "java/lang/IllegalStateException", Cond.initialized "java/lang/IllegalStateException", Cond.constantDouble RX1 262 (13740701229962882445), Cond.constantDouble RX1 264 (4517329193108106637), Cond.fieldLink RX1 34 "SkyAlmanac" "longitudesFailed" "I", Cond.methodLink RX1 242 yX1_degreesInRadian, Cond.static yX1_degreesInRadian, Cond.code yX1_degreesInRadian cX1_degreesInRadian 0 (some .double), Cond.constantDouble RX1 365 (4633260481411531256), Cond.methodLink RX1 246 yX1_sine, Cond.static yX1_sine, Cond.code yX1_sine cX1_sine 2 (some .double), Cond.methodLink RX1 367 yX1_waveAt, Cond.static yX1_waveAt, Cond.code yX1_waveAt cX1_waveAt 15 (some .double), Cond.constantDouble RX1 206 (4636033603912859648), Cond.constantDouble RX1 371 (4580687790476533049), Cond.constantDouble RX1 373 (13818544856648471893)]
def wsX1_narrowedToCrossing_r3 : List Cond := [Cond.constantDouble RX1 375 (4575957461383581969), Cond.constantDouble RX1 377 (13774824197408792602), Cond.constantDouble RX1 379 (4523617214285662004), Cond.constantDouble RX1 381 (13826050856027422720), Cond.constantDouble RX1 383 (4586165620538955093), Cond.constantDouble RX1 385 (13787419979223755799), Cond.constantDouble RX1 387 (4537941361671905306), Cond.constantDouble RX1 389 (13732177094651715420), Cond.methodLink RX1 259 yX1_cosine, Cond.static yX1_cosine, Cond.code yX1_cosine cX1_cosine 2 (some .double), Cond.instanceMethod yX0_sumOfPower, Cond.initialized RX0, Cond.selects RX0 yX0_sumOfPower yX0_sumOfPower, Cond.code yX0_sumOfPower cX0_sumOfPower 7 (some .double), Cond.fieldLink RX0 25 "SkyAlmanac$Body" "terms" "I", Cond.fieldLink RX0 9 "SkyAlmanac$Body" "powers" "[I", Cond.fieldLink RX0 15 "SkyAlmanac$Body" "factors" "[D", Cond.fieldLink RX0 19 "SkyAlmanac$Body" "starts" "[D", Cond.fieldLink RX0 22 "SkyAlmanac$Body" "speeds" "[D", Cond.methodLink RX1 232 yX1_siderealAngle, Cond.static yX1_siderealAngle, Cond.code yX1_siderealAngle cX1_siderealAngle 2 (some .double), Cond.constantDouble RX1 272 (4643641531568107876)]
def wsX1_narrowedToCrossing_r4 : List Cond := [Cond.constantDouble RX1 274 (4607053141768361126)]
def wsX1_narrowedToCrossing : List Cond := .code yX1_narrowedToCrossing cX1_narrowedToCrossing 12 (some .double) :: ((wsX1_narrowedToCrossing_r1 ++ (wsX1_narrowedToCrossing_r2 ++ (wsX1_narrowedToCrossing_r3 ++ wsX1_narrowedToCrossing_r4))) ++ wsX10 ++ wsX00 ++ (vx_atS RX1 190 "java/lang/IllegalStateException" ["java/lang/RuntimeException", "java/lang/Exception"]).filter goodWord)
def wsX1_event_r1 : List Cond := [Cond.classLink RX1 43 "java/lang/IllegalArgumentException", Cond.initialized "java/lang/IllegalArgumentException", Cond.classLink RX1 214 "java/util/NoSuchElementException", Cond.initialized "java/util/NoSuchElementException", Cond.constantLong RX1 37 (2), Cond.constantLong RX1 278 (-999999), Cond.constantLong RX1 280 (999998), Cond.methodLink RX1 39 yX1_isWholeWithin, Cond.static yX1_isWholeWithin, Cond.initialized RX1, Cond.code yX1_isWholeWithin cX1_isWholeWithin 6 (some .boolean), Cond.methodLink RX1 173 yX1_bodyThatIsSet, Cond.instanceMethod yX1_bodyThatIsSet, Cond.selects RX1 yX1_bodyThatIsSet yX1_bodyThatIsSet, Cond.code yX1_bodyThatIsSet cX1_bodyThatIsSet 2 (some (.object "SkyAlmanac$Body")), Cond.fieldLink RX1 11 "SkyAlmanac" "bodies" "[LSkyAlmanac$Body;", Cond.methodLink RX1 284 yX1_partOfGreatestHeight, Cond.instanceMethod yX1_partOfGreatestHeight, Cond.selects RX1 yX1_partOfGreatestHeight yX1_partOfGreatestHeight, Cond.code yX1_partOfGreatestHeight cX1_partOfGreatestHeight 9 (some .int), Cond.methodLink RX1 304 yX1_timeOfPart, Cond.static yX1_timeOfPart, Cond.code yX1_timeOfPart cX1_timeOfPart 2 (some .double), Cond.constantDouble RX1 302 (4625196817309499392)]
def wsX1_event_r2 : List Cond := [Cond.methodLink RX1 229 yX1_heightOf, Cond.instanceMethod yX1_heightOf, Cond.selects RX1 yX1_heightOf yX1_heightOf, Cond.code yX1_heightOf cX1_heightOf 14 (some .double), Cond.constantDouble RX1 268 (4606439163290984179), Cond.constantDouble RX1 270 (4600837336122831769), Cond.fieldLink RX1 28 "SkyAlmanac" "eastward" "D", Cond.fieldLink RX1 24 "SkyAlmanac" "latitude" "D", Cond.methodLink RX1 225 yX1_longitudeOf, Cond.instanceMethod yX1_longitudeOf, Cond.selects RX1 yX1_longitudeOf yX1_longitudeOf, Cond.code yX1_longitudeOf cX1_longitudeOf 14 (some .double), Cond.fieldLink RX1 31 "SkyAlmanac" "longitudesWorkedOut" "I", Cond.constantDouble RX1 249 (4602678819172646912), Cond.constantDouble RX1 251 (4611686018427387904), Cond.constantDouble RX1 253 (4652007308841189376), Cond.methodLink RX1 236 yX1_red, Cond.static yX1_red, Cond.code yX1_red cX1_red 4 (some .double), Cond.constantLong RX1 345 (360), Cond.constantDouble RX1 143 (4645040803167600640), Cond.methodLink RX1 239 yX1_anomalyOf, Cond.instanceMethod yX1_anomalyOf, Cond.selects RX1 yX1_anomalyOf yX1_anomalyOf]
def wsX1_event_r3 : List Cond := [Cond.code yX1_anomalyOf cX1_anomalyOf 11 (some .double), Cond.classLink RX1 186 "java/lang/IllegalStateException", Cond.initialized "java/lang/IllegalStateException", Cond.constantDouble RX1 262 (13740701229962882445), Cond.constantDouble RX1 264 (4517329193108106637), Cond.fieldLink RX1 34 "SkyAlmanac" "longitudesFailed" "I", Cond.methodLink RX1 242 yX1_degreesInRadian, Cond.static yX1_degreesInRadian, Cond.code yX1_degreesInRadian cX1_degreesInRadian 0 (some .double), Cond.constantDouble RX1 365 (4633260481411531256), Cond.methodLink RX1 246 yX1_sine, Cond.static yX1_sine, Cond.code yX1_sine cX1_sine 2 (some .double), Cond.methodLink RX1 367 yX1_waveAt, Cond.static yX1_waveAt, Cond.code yX1_waveAt cX1_waveAt 15 (some .double), Cond.constantDouble RX1 206 (4636033603912859648), Cond.constantDouble RX1 371 (4580687790476533049), Cond.constantDouble RX1 373 (13818544856648471893), Cond.constantDouble RX1 375 (4575957461383581969), Cond.constantDouble RX1 377 (13774824197408792602), Cond.constantDouble RX1 379 (4523617214285662004), Cond.constantDouble RX1 381 (13826050856027422720), Cond.constantDouble RX1 383 (4586165620538955093)]
def wsX1_event_r4 : List Cond := [Cond.constantDouble RX1 385 (13787419979223755799), Cond.constantDouble RX1 387 (4537941361671905306), Cond.constantDouble RX1 389 (13732177094651715420), Cond.methodLink RX1 259 yX1_cosine, Cond.static yX1_cosine, Cond.code yX1_cosine cX1_cosine 2 (some .double), Cond.instanceMethod yX0_sumOfPower, Cond.initialized RX0, Cond.selects RX0 yX0_sumOfPower yX0_sumOfPower, Cond.code yX0_sumOfPower cX0_sumOfPower 7 (some .double), Cond.fieldLink RX0 25 "SkyAlmanac$Body" "terms" "I", Cond.fieldLink RX0 9 "SkyAlmanac$Body" "powers" "[I", Cond.fieldLink RX0 15 "SkyAlmanac$Body" "factors" "[D", Cond.fieldLink RX0 19 "SkyAlmanac$Body" "starts" "[D", Cond.fieldLink RX0 22 "SkyAlmanac$Body" "speeds" "[D", Cond.methodLink RX1 232 yX1_siderealAngle, Cond.static yX1_siderealAngle, Cond.code yX1_siderealAngle cX1_siderealAngle 2 (some .double), Cond.constantDouble RX1 272 (4643641531568107876), Cond.constantDouble RX1 274 (4607053141768361126), Cond.methodLink RX1 288 yX1_narrowedToHighest, Cond.instanceMethod yX1_narrowedToHighest, Cond.selects RX1 yX1_narrowedToHighest yX1_narrowedToHighest, Cond.code yX1_narrowedToHighest cX1_narrowedToHighest 17 (some .double)]
def wsX1_event_r5 : List Cond := [Cond.constantDouble RX1 308 (4613937818241073152), Cond.methodLink RX1 292 yX1_partOfCrossing, Cond.instanceMethod yX1_partOfCrossing, Cond.selects RX1 yX1_partOfCrossing yX1_partOfCrossing, Cond.code yX1_partOfCrossing cX1_partOfCrossing 7 (some .int), Cond.methodLink RX1 298 yX1_narrowedToCrossing, Cond.instanceMethod yX1_narrowedToCrossing, Cond.selects RX1 yX1_narrowedToCrossing yX1_narrowedToCrossing, Cond.code yX1_narrowedToCrossing cX1_narrowedToCrossing 12 (some .double)]
def wsX1_event : List Cond := .code yX1_event cX1_event 7 (some .double) :: ((wsX1_event_r1 ++ (wsX1_event_r2 ++ (wsX1_event_r3 ++ (wsX1_event_r4 ++ wsX1_event_r5)))) ++ wsX10 ++ wsX00 ++ (vx_atS RX1 47 "java/lang/IllegalArgumentException" ["java/lang/RuntimeException", "java/lang/Exception"]).filter goodWord ++ (vx_atS RX1 218 "java/util/NoSuchElementException" ["java/lang/RuntimeException", "java/lang/Exception"]).filter goodWord ++ (vx_atS RX1 190 "java/lang/IllegalStateException" ["java/lang/RuntimeException", "java/lang/Exception"]).filter goodWord)
def wsX1_tenToThe : List Cond := .code yX1_tenToThe cX1_tenToThe 1 (some .long) :: ([.fieldLink RX1 353 "SkyAlmanac" "TENS" "[J"])
def wsX1_wholeParts : List Cond := .code yX1_wholeParts cX1_wholeParts 4 (some .long) :: ([])
def wsX1_put : List Cond := .code yX1_put cX1_put 2 none :: ([.fieldLink RX1 20 "SkyAlmanac" "writtenLength" "I", .fieldLink RX1 16 "SkyAlmanac" "written" "[C"] ++ wsX10)
def wsX1_putNumber : List Cond := .code yX1_putNumber cX1_putNumber 5 none :: ([.fieldLink RX1 353 "SkyAlmanac" "TENS" "[J", .constantLong RX1 357 (48), .constantLong RX1 359 (10), .methodLink RX1 326 yX1_wholeParts, .static yX1_wholeParts, .initialized RX1, .code yX1_wholeParts cX1_wholeParts 4 (some .long), .methodLink RX1 329 yX1_put, .instanceMethod yX1_put, .selects RX1 yX1_put yX1_put, .code yX1_put cX1_put 2 none, .fieldLink RX1 20 "SkyAlmanac" "writtenLength" "I", .fieldLink RX1 16 "SkyAlmanac" "written" "[C"] ++ wsX10)
def wsX1_write_r1 : List Cond := [Cond.classLink RX1 43 "java/lang/IllegalArgumentException", Cond.initialized "java/lang/IllegalArgumentException", Cond.constantDouble RX1 310 (13904980397738950656), Cond.constantDouble RX1 312 (4681608360884174848), Cond.constantLong RX1 316 (4), Cond.constantDouble RX1 324 (4660134898793709568), Cond.constantDouble RX1 249 (4602678819172646912), Cond.fieldLink RX1 20 "SkyAlmanac" "writtenLength" "I", Cond.constantLong RX1 333 (3600), Cond.constantLong RX1 339 (60), Cond.methodLink RX1 145 yX1_isWithin, Cond.static yX1_isWithin, Cond.initialized RX1, Cond.code yX1_isWithin cX1_isWithin 6 (some .boolean), Cond.methodLink RX1 39 yX1_isWholeWithin, Cond.static yX1_isWholeWithin, Cond.code yX1_isWholeWithin cX1_isWholeWithin 6 (some .boolean), Cond.methodLink RX1 320 yX1_tenToThe, Cond.static yX1_tenToThe, Cond.code yX1_tenToThe cX1_tenToThe 1 (some .long), Cond.fieldLink RX1 353 "SkyAlmanac" "TENS" "[J", Cond.methodLink RX1 326 yX1_wholeParts, Cond.static yX1_wholeParts, Cond.code yX1_wholeParts cX1_wholeParts 4 (some .long)]
def wsX1_write_r2 : List Cond := [Cond.methodLink RX1 329 yX1_put, Cond.instanceMethod yX1_put, Cond.selects RX1 yX1_put yX1_put, Cond.code yX1_put cX1_put 2 none, Cond.fieldLink RX1 16 "SkyAlmanac" "written" "[C", Cond.methodLink RX1 335 yX1_putNumber, Cond.instanceMethod yX1_putNumber, Cond.selects RX1 yX1_putNumber yX1_putNumber, Cond.code yX1_putNumber cX1_putNumber 5 none, Cond.constantLong RX1 357 (48), Cond.constantLong RX1 359 (10)]
def wsX1_write : List Cond := .code yX1_write cX1_write 12 (some .int) :: ((wsX1_write_r1 ++ wsX1_write_r2) ++ wsX10 ++ (vx_atS RX1 47 "java/lang/IllegalArgumentException" ["java/lang/RuntimeException", "java/lang/Exception"]).filter goodWord)
def wsX1_letter : List Cond := .code yX1_letter cX1_letter 2 (some .int) :: ([.classLink RX1 136 "java/lang/IndexOutOfBoundsException", .initialized "java/lang/IndexOutOfBoundsException", .fieldLink RX1 20 "SkyAlmanac" "writtenLength" "I", .fieldLink RX1 16 "SkyAlmanac" "written" "[C"] ++ wsX10 ++ (vx_atS RX1 140 "java/lang/IndexOutOfBoundsException" ["java/lang/RuntimeException", "java/lang/Exception"]).filter goodWord)
def wsX1_angle : List Cond := .code yX1_angle cX1_angle 6 (some .double) :: ([.classLink RX1 43 "java/lang/IllegalArgumentException", .initialized "java/lang/IllegalArgumentException", .constantLong RX1 345 (360), .constantLong RX1 347 (59), .constantDouble RX1 349 (4633641066610819072), .constantDouble RX1 324 (4660134898793709568), .methodLink RX1 39 yX1_isWholeWithin, .static yX1_isWholeWithin, .initialized RX1, .code yX1_isWholeWithin cX1_isWholeWithin 6 (some .boolean)] ++ (vx_atS RX1 47 "java/lang/IllegalArgumentException" ["java/lang/RuntimeException", "java/lang/Exception"]).filter goodWord)
def wsX2_init : List Cond := .code yX2_init cX2_init 1 none :: ([.methodLink RX2 1 objectInit, .instanceMethod objectInit, .code objectInit ⟨#[0xb1]⟩ 1 none, .arrayClass .boolean, .fieldLink RX2 7 "SkyAlmanacModel" "set" "[Z", .arrayClass .double, .fieldLink RX2 13 "SkyAlmanacModel" "orbits" "[D", .arrayClass .int, .fieldLink RX2 17 "SkyAlmanacModel" "terms" "[I", .fieldLink RX2 21 "SkyAlmanacModel" "powers" "[I", .fieldLink RX2 24 "SkyAlmanacModel" "waves" "[D", .fieldLink RX2 27 "SkyAlmanacModel" "written" "[I"] ++ wsX20)
def wsX2_thrown : List Cond := .code yX2_thrown cX2_thrown 1 (some .int) :: ([.fieldLink RX2 30 "SkyAlmanacModel" "thrown" "I"] ++ wsX20)
def wsX2_fail : List Cond := .code yX2_fail cX2_fail 2 (some .int) :: ([.fieldLink RX2 30 "SkyAlmanacModel" "thrown" "I"] ++ wsX20)
def wsX2_within : List Cond := .code yX2_within cX2_within 6 (some .boolean) :: ([])
def wsX2_floor : List Cond := .code yX2_floor cX2_floor 4 (some .long) :: ([])
def wsX2_before : List Cond := .code yX2_before cX2_before 5 (some .long) :: ([.constantLong RX2 34 (3), .constantLong RX2 36 (4), .constantLong RX2 42 (365), .constantLong RX2 44 (99), .constantLong RX2 46 (100), .constantLong RX2 48 (399), .constantLong RX2 50 (400), .methodLink RX2 38 yX2_floor, .static yX2_floor, .initialized RX2, .code yX2_floor cX2_floor 4 (some .long)])
def wsX2_leap : List Cond := .code yX2_leap cX2_leap 3 (some .boolean) :: ([.constantLong RX2 56 (366), .methodLink RX2 52 yX2_before, .static yX2_before, .initialized RX2, .code yX2_before cX2_before 5 (some .long), .constantLong RX2 34 (3), .constantLong RX2 36 (4), .constantLong RX2 42 (365), .constantLong RX2 44 (99), .constantLong RX2 46 (100), .constantLong RX2 48 (399), .constantLong RX2 50 (400), .methodLink RX2 38 yX2_floor, .static yX2_floor, .code yX2_floor cX2_floor 4 (some .long)])
def wsX2_length : List Cond := .code yX2_length cX2_length 4 (some .int) :: ([.methodLink RX2 58 yX2_leap, .static yX2_leap, .initialized RX2, .code yX2_leap cX2_leap 3 (some .boolean), .constantLong RX2 56 (366), .methodLink RX2 52 yX2_before, .static yX2_before, .code yX2_before cX2_before 5 (some .long), .constantLong RX2 34 (3), .constantLong RX2 36 (4), .constantLong RX2 42 (365), .constantLong RX2 44 (99), .constantLong RX2 46 (100), .constantLong RX2 48 (399), .constantLong RX2 50 (400), .methodLink RX2 38 yX2_floor, .static yX2_floor, .code yX2_floor cX2_floor 4 (some .long)])
def wsX2_newYear : List Cond := .code yX2_newYear cX2_newYear 3 (some .long) :: ([.constantLong RX2 62 (-4712), .constantLong RX2 64 (-4713), .constantLong RX2 66 (327), .methodLink RX2 52 yX2_before, .static yX2_before, .initialized RX2, .code yX2_before cX2_before 5 (some .long), .constantLong RX2 34 (3), .constantLong RX2 36 (4), .constantLong RX2 42 (365), .constantLong RX2 44 (99), .constantLong RX2 46 (100), .constantLong RX2 48 (399), .constantLong RX2 50 (400), .methodLink RX2 38 yX2_floor, .static yX2_floor, .code yX2_floor cX2_floor 4 (some .long)])
def wsX2_noDate : List Cond := .code yX2_noDate cX2_noDate 4 (some .boolean) :: ([.constant RX2 68 (-1000000), .constant RX2 69 (1000000), .methodLink RX2 70 yX2_length, .static yX2_length, .initialized RX2, .code yX2_length cX2_length 4 (some .int), .methodLink RX2 58 yX2_leap, .static yX2_leap, .code yX2_leap cX2_leap 3 (some .boolean), .constantLong RX2 56 (366), .methodLink RX2 52 yX2_before, .static yX2_before, .code yX2_before cX2_before 5 (some .long), .constantLong RX2 34 (3), .constantLong RX2 36 (4), .constantLong RX2 42 (365), .constantLong RX2 44 (99), .constantLong RX2 46 (100), .constantLong RX2 48 (399), .constantLong RX2 50 (400), .methodLink RX2 38 yX2_floor, .static yX2_floor, .code yX2_floor cX2_floor 4 (some .long)])
def wsX2_number_r1 : List Cond := [Cond.methodLink RX2 74 yX2_newYear, Cond.static yX2_newYear, Cond.initialized RX2, Cond.code yX2_newYear cX2_newYear 3 (some .long), Cond.constantLong RX2 62 (-4712), Cond.constantLong RX2 64 (-4713), Cond.constantLong RX2 66 (327), Cond.methodLink RX2 52 yX2_before, Cond.static yX2_before, Cond.code yX2_before cX2_before 5 (some .long), Cond.constantLong RX2 34 (3), Cond.constantLong RX2 36 (4), Cond.constantLong RX2 42 (365), Cond.constantLong RX2 44 (99), Cond.constantLong RX2 46 (100), Cond.constantLong RX2 48 (399), Cond.constantLong RX2 50 (400), Cond.methodLink RX2 38 yX2_floor, Cond.static yX2_floor, Cond.code yX2_floor cX2_floor 4 (some .long), Cond.methodLink RX2 70 yX2_length, Cond.static yX2_length, Cond.code yX2_length cX2_length 4 (some .int), Cond.methodLink RX2 58 yX2_leap]
def wsX2_number_r2 : List Cond := [Cond.static yX2_leap, Cond.code yX2_leap cX2_leap 3 (some .boolean), Cond.constantLong RX2 56 (366)]
def wsX2_number : List Cond := .code yX2_number cX2_number 7 (some .long) :: ((wsX2_number_r1 ++ wsX2_number_r2))
def wsX2_day_r1 : List Cond := [Cond.fieldLink RX2 30 "SkyAlmanacModel" "thrown" "I", Cond.constantLong RX2 81 (10000), Cond.constantLong RX2 46 (100), Cond.constantLong RX2 83 (15821004), Cond.constantLong RX2 85 (15821015), Cond.methodLink RX2 77 yX2_fail, Cond.instanceMethod yX2_fail, Cond.selects RX2 yX2_fail yX2_fail, Cond.initialized RX2, Cond.code yX2_fail cX2_fail 2 (some .int), Cond.methodLink RX2 87 yX2_noDate, Cond.static yX2_noDate, Cond.code yX2_noDate cX2_noDate 4 (some .boolean), Cond.constant RX2 68 (-1000000), Cond.constant RX2 69 (1000000), Cond.methodLink RX2 70 yX2_length, Cond.static yX2_length, Cond.code yX2_length cX2_length 4 (some .int), Cond.methodLink RX2 58 yX2_leap, Cond.static yX2_leap, Cond.code yX2_leap cX2_leap 3 (some .boolean), Cond.constantLong RX2 56 (366), Cond.methodLink RX2 52 yX2_before, Cond.static yX2_before]
def wsX2_day_r2 : List Cond := [Cond.code yX2_before cX2_before 5 (some .long), Cond.constantLong RX2 34 (3), Cond.constantLong RX2 36 (4), Cond.constantLong RX2 42 (365), Cond.constantLong RX2 44 (99), Cond.constantLong RX2 48 (399), Cond.constantLong RX2 50 (400), Cond.methodLink RX2 38 yX2_floor, Cond.static yX2_floor, Cond.code yX2_floor cX2_floor 4 (some .long), Cond.methodLink RX2 91 yX2_number, Cond.static yX2_number, Cond.code yX2_number cX2_number 7 (some .long), Cond.methodLink RX2 74 yX2_newYear, Cond.static yX2_newYear, Cond.code yX2_newYear cX2_newYear 3 (some .long), Cond.constantLong RX2 62 (-4712), Cond.constantLong RX2 64 (-4713), Cond.constantLong RX2 66 (327)]
def wsX2_day : List Cond := .code yX2_day cX2_day 9 (some .long) :: ((wsX2_day_r1 ++ wsX2_day_r2) ++ wsX20)
def wsX2_yearOf : List Cond := .code yX2_yearOf cX2_yearOf 5 (some .long) :: ([.constantLong RX2 36 (4), .constantLong RX2 95 (1461), .constantLong RX2 97 (4713), .methodLink RX2 38 yX2_floor, .static yX2_floor, .initialized RX2, .code yX2_floor cX2_floor 4 (some .long), .methodLink RX2 74 yX2_newYear, .static yX2_newYear, .code yX2_newYear cX2_newYear 3 (some .long), .constantLong RX2 62 (-4712), .constantLong RX2 64 (-4713), .constantLong RX2 66 (327), .methodLink RX2 52 yX2_before, .static yX2_before, .code yX2_before cX2_before 5 (some .long), .constantLong RX2 34 (3), .constantLong RX2 42 (365), .constantLong RX2 44 (99), .constantLong RX2 46 (100), .constantLong RX2 48 (399), .constantLong RX2 50 (400)])
def wsX2_date_r1 : List Cond := [Cond.fieldLink RX2 30 "SkyAlmanacModel" "thrown" "I", Cond.constantLong RX2 99 (-400000000), Cond.constantLong RX2 101 (400000000), Cond.constantLong RX2 103 (2299161), Cond.constantLong RX2 108 (-1000000), Cond.constantLong RX2 110 (1000000), Cond.constantLong RX2 112 (1582), Cond.methodLink RX2 77 yX2_fail, Cond.instanceMethod yX2_fail, Cond.selects RX2 yX2_fail yX2_fail, Cond.initialized RX2, Cond.code yX2_fail cX2_fail 2 (some .int), Cond.methodLink RX2 105 yX2_yearOf, Cond.static yX2_yearOf, Cond.code yX2_yearOf cX2_yearOf 5 (some .long), Cond.constantLong RX2 36 (4), Cond.constantLong RX2 95 (1461), Cond.constantLong RX2 97 (4713), Cond.methodLink RX2 38 yX2_floor, Cond.static yX2_floor, Cond.code yX2_floor cX2_floor 4 (some .long), Cond.methodLink RX2 74 yX2_newYear, Cond.static yX2_newYear, Cond.code yX2_newYear cX2_newYear 3 (some .long)]
def wsX2_date_r2 : List Cond := [Cond.constantLong RX2 62 (-4712), Cond.constantLong RX2 64 (-4713), Cond.constantLong RX2 66 (327), Cond.methodLink RX2 52 yX2_before, Cond.static yX2_before, Cond.code yX2_before cX2_before 5 (some .long), Cond.constantLong RX2 34 (3), Cond.constantLong RX2 42 (365), Cond.constantLong RX2 44 (99), Cond.constantLong RX2 46 (100), Cond.constantLong RX2 48 (399), Cond.constantLong RX2 50 (400), Cond.methodLink RX2 70 yX2_length, Cond.static yX2_length, Cond.code yX2_length cX2_length 4 (some .int), Cond.methodLink RX2 58 yX2_leap, Cond.static yX2_leap, Cond.code yX2_leap cX2_leap 3 (some .boolean), Cond.constantLong RX2 56 (366)]
def wsX2_date : List Cond := .code yX2_date cX2_date 12 (some .int) :: ((wsX2_date_r1 ++ wsX2_date_r2) ++ wsX20)
def wsX2_easter_r1 : List Cond := [Cond.fieldLink RX2 30 "SkyAlmanacModel" "thrown" "I", Cond.methodLink RX2 77 yX2_fail, Cond.instanceMethod yX2_fail, Cond.selects RX2 yX2_fail yX2_fail, Cond.initialized RX2, Cond.code yX2_fail cX2_fail 2 (some .int), Cond.methodLink RX2 91 yX2_number, Cond.static yX2_number, Cond.code yX2_number cX2_number 7 (some .long), Cond.methodLink RX2 74 yX2_newYear, Cond.static yX2_newYear, Cond.code yX2_newYear cX2_newYear 3 (some .long), Cond.constantLong RX2 62 (-4712), Cond.constantLong RX2 64 (-4713), Cond.constantLong RX2 66 (327), Cond.methodLink RX2 52 yX2_before, Cond.static yX2_before, Cond.code yX2_before cX2_before 5 (some .long), Cond.constantLong RX2 34 (3), Cond.constantLong RX2 36 (4), Cond.constantLong RX2 42 (365), Cond.constantLong RX2 44 (99), Cond.constantLong RX2 46 (100), Cond.constantLong RX2 48 (399)]
def wsX2_easter_r2 : List Cond := [Cond.constantLong RX2 50 (400), Cond.methodLink RX2 38 yX2_floor, Cond.static yX2_floor, Cond.code yX2_floor cX2_floor 4 (some .long), Cond.methodLink RX2 70 yX2_length, Cond.static yX2_length, Cond.code yX2_length cX2_length 4 (some .int), Cond.methodLink RX2 58 yX2_leap, Cond.static yX2_leap, Cond.code yX2_leap cX2_leap 3 (some .boolean), Cond.constantLong RX2 56 (366)]
def wsX2_easter : List Cond := .code yX2_easter cX2_easter 7 (some .long) :: ((wsX2_easter_r1 ++ wsX2_easter_r2) ++ wsX20)
def wsX2_red : List Cond := .code yX2_red cX2_red 6 (some .double) :: ([.constantDouble RX2 114 (4645040803167600640)])
def wsX2_wave : List Cond := .code yX2_wave cX2_wave 17 (some .double) :: ([.constantDouble RX2 120 (4636033603912859648), .constantDouble RX2 122 (4602678819172646912), .constantDouble RX2 124 (4580687790476533049), .constantDouble RX2 126 (13818544856648471893), .constantDouble RX2 128 (4575957461383581969), .constantDouble RX2 130 (13774824197408792602), .constantDouble RX2 132 (4523617214285662004), .constantDouble RX2 134 (13826050856027422720), .constantDouble RX2 136 (4586165620538955093), .constantDouble RX2 138 (13787419979223755799), .constantDouble RX2 140 (4537941361671905306), .constantDouble RX2 142 (13732177094651715420), .constantLong RX2 36 (4), .constantLong RX2 144 (2), .methodLink RX2 116 yX2_red, .static yX2_red, .initialized RX2, .code yX2_red cX2_red 6 (some .double), .constantDouble RX2 114 (4645040803167600640)])
def wsX2_sine : List Cond := .code yX2_sine cX2_sine 2 (some .double) :: ([.methodLink RX2 146 yX2_wave, .static yX2_wave, .initialized RX2, .code yX2_wave cX2_wave 17 (some .double), .constantDouble RX2 120 (4636033603912859648), .constantDouble RX2 122 (4602678819172646912), .constantDouble RX2 124 (4580687790476533049), .constantDouble RX2 126 (13818544856648471893), .constantDouble RX2 128 (4575957461383581969), .constantDouble RX2 130 (13774824197408792602), .constantDouble RX2 132 (4523617214285662004), .constantDouble RX2 134 (13826050856027422720), .constantDouble RX2 136 (4586165620538955093), .constantDouble RX2 138 (13787419979223755799), .constantDouble RX2 140 (4537941361671905306), .constantDouble RX2 142 (13732177094651715420), .constantLong RX2 36 (4), .constantLong RX2 144 (2), .methodLink RX2 116 yX2_red, .static yX2_red, .code yX2_red cX2_red 6 (some .double), .constantDouble RX2 114 (4645040803167600640)])
def wsX2_cosine : List Cond := .code yX2_cosine cX2_cosine 2 (some .double) :: ([.methodLink RX2 146 yX2_wave, .static yX2_wave, .initialized RX2, .code yX2_wave cX2_wave 17 (some .double), .constantDouble RX2 120 (4636033603912859648), .constantDouble RX2 122 (4602678819172646912), .constantDouble RX2 124 (4580687790476533049), .constantDouble RX2 126 (13818544856648471893), .constantDouble RX2 128 (4575957461383581969), .constantDouble RX2 130 (13774824197408792602), .constantDouble RX2 132 (4523617214285662004), .constantDouble RX2 134 (13826050856027422720), .constantDouble RX2 136 (4586165620538955093), .constantDouble RX2 138 (13787419979223755799), .constantDouble RX2 140 (4537941361671905306), .constantDouble RX2 142 (13732177094651715420), .constantLong RX2 36 (4), .constantLong RX2 144 (2), .methodLink RX2 116 yX2_red, .static yX2_red, .code yX2_red cX2_red 6 (some .double), .constantDouble RX2 114 (4645040803167600640)])
def wsX2_turned : List Cond := .code yX2_turned cX2_turned 4 (some .double) :: ([.constantDouble RX2 150 (4643641531568107876), .constantDouble RX2 152 (4607053141768361126), .constantDouble RX2 114 (4645040803167600640), .methodLink RX2 116 yX2_red, .static yX2_red, .initialized RX2, .code yX2_red cX2_red 6 (some .double)])
def wsX2_orbit : List Cond := .code yX2_orbit cX2_orbit 11 (some .boolean) :: ([.fieldLink RX2 30 "SkyAlmanacModel" "thrown" "I", .constantDouble RX2 154 (13868412840022376448), .constantDouble RX2 114 (4645040803167600640), .constantDouble RX2 160 (13860109328209412096), .constantDouble RX2 162 (4636737291354636288), .constantDouble RX2 164 (4604930618986332160), .fieldLink RX2 13 "SkyAlmanacModel" "orbits" "[D", .fieldLink RX2 7 "SkyAlmanacModel" "set" "[Z", .methodLink RX2 77 yX2_fail, .instanceMethod yX2_fail, .selects RX2 yX2_fail yX2_fail, .initialized RX2, .code yX2_fail cX2_fail 2 (some .int), .methodLink RX2 156 yX2_within, .static yX2_within, .code yX2_within cX2_within 6 (some .boolean)] ++ wsX20)
def wsX2_noBody : List Cond := .code yX2_noBody cX2_noBody 2 (some .boolean) :: ([.fieldLink RX2 7 "SkyAlmanacModel" "set" "[Z"] ++ wsX20)
def wsX2_term : List Cond := .code yX2_term cX2_term 10 (some .int) :: ([.fieldLink RX2 30 "SkyAlmanacModel" "thrown" "I", .constantDouble RX2 170 (13845191154443747328), .constantDouble RX2 172 (4621819117588971520), .constantDouble RX2 154 (13868412840022376448), .constantDouble RX2 114 (4645040803167600640), .constantDouble RX2 160 (13860109328209412096), .constantDouble RX2 162 (4636737291354636288), .fieldLink RX2 17 "SkyAlmanacModel" "terms" "[I", .fieldLink RX2 21 "SkyAlmanacModel" "powers" "[I", .fieldLink RX2 24 "SkyAlmanacModel" "waves" "[D", .methodLink RX2 166 yX2_noBody, .instanceMethod yX2_noBody, .selects RX2 yX2_noBody yX2_noBody, .initialized RX2, .code yX2_noBody cX2_noBody 2 (some .boolean), .fieldLink RX2 7 "SkyAlmanacModel" "set" "[Z", .methodLink RX2 77 yX2_fail, .instanceMethod yX2_fail, .selects RX2 yX2_fail yX2_fail, .code yX2_fail cX2_fail 2 (some .int), .methodLink RX2 156 yX2_within, .static yX2_within, .code yX2_within cX2_within 6 (some .boolean)] ++ wsX20)
def wsX2_observer : List Cond := .code yX2_observer cX2_observer 6 (some .boolean) :: ([.fieldLink RX2 30 "SkyAlmanacModel" "thrown" "I", .constantDouble RX2 174 (13859405640767635456), .constantDouble RX2 120 (4636033603912859648), .constantDouble RX2 176 (13863909240395005952), .constantDouble RX2 178 (4640537203540230144), .fieldLink RX2 180 "SkyAlmanacModel" "latitude" "D", .fieldLink RX2 184 "SkyAlmanacModel" "east" "D", .methodLink RX2 156 yX2_within, .static yX2_within, .initialized RX2, .code yX2_within cX2_within 6 (some .boolean), .methodLink RX2 77 yX2_fail, .instanceMethod yX2_fail, .selects RX2 yX2_fail yX2_fail, .code yX2_fail cX2_fail 2 (some .int)] ++ wsX20)
def wsX2_sum_r1 : List Cond := [Cond.fieldLink RX2 17 "SkyAlmanacModel" "terms" "[I", Cond.fieldLink RX2 21 "SkyAlmanacModel" "powers" "[I", Cond.fieldLink RX2 24 "SkyAlmanacModel" "waves" "[D", Cond.methodLink RX2 187 yX2_cosine, Cond.static yX2_cosine, Cond.initialized RX2, Cond.code yX2_cosine cX2_cosine 2 (some .double), Cond.methodLink RX2 146 yX2_wave, Cond.static yX2_wave, Cond.code yX2_wave cX2_wave 17 (some .double), Cond.constantDouble RX2 120 (4636033603912859648), Cond.constantDouble RX2 122 (4602678819172646912), Cond.constantDouble RX2 124 (4580687790476533049), Cond.constantDouble RX2 126 (13818544856648471893), Cond.constantDouble RX2 128 (4575957461383581969), Cond.constantDouble RX2 130 (13774824197408792602), Cond.constantDouble RX2 132 (4523617214285662004), Cond.constantDouble RX2 134 (13826050856027422720), Cond.constantDouble RX2 136 (4586165620538955093), Cond.constantDouble RX2 138 (13787419979223755799), Cond.constantDouble RX2 140 (4537941361671905306), Cond.constantDouble RX2 142 (13732177094651715420), Cond.constantLong RX2 36 (4), Cond.constantLong RX2 144 (2)]
def wsX2_sum_r2 : List Cond := [Cond.methodLink RX2 116 yX2_red, Cond.static yX2_red, Cond.code yX2_red cX2_red 6 (some .double), Cond.constantDouble RX2 114 (4645040803167600640)]
def wsX2_sum : List Cond := .code yX2_sum cX2_sum 8 (some .double) :: ((wsX2_sum_r1 ++ wsX2_sum_r2) ++ wsX20)
def wsX2_along_r1 : List Cond := [Cond.fieldLink RX2 13 "SkyAlmanacModel" "orbits" "[D", Cond.constantDouble RX2 190 (4633260481411531256), Cond.constantDouble RX2 195 (13740701229962882445), Cond.constantDouble RX2 197 (4517329193108106637), Cond.fieldLink RX2 199 "SkyAlmanacModel" "worked" "I", Cond.fieldLink RX2 202 "SkyAlmanacModel" "failed" "Z", Cond.fieldLink RX2 206 "SkyAlmanacModel" "failures" "I", Cond.constantDouble RX2 122 (4602678819172646912), Cond.constantDouble RX2 209 (4611686018427387904), Cond.constantDouble RX2 211 (4652007308841189376), Cond.methodLink RX2 116 yX2_red, Cond.static yX2_red, Cond.initialized RX2, Cond.code yX2_red cX2_red 6 (some .double), Cond.constantDouble RX2 114 (4645040803167600640), Cond.methodLink RX2 192 yX2_sine, Cond.static yX2_sine, Cond.code yX2_sine cX2_sine 2 (some .double), Cond.methodLink RX2 146 yX2_wave, Cond.static yX2_wave, Cond.code yX2_wave cX2_wave 17 (some .double), Cond.constantDouble RX2 120 (4636033603912859648), Cond.constantDouble RX2 124 (4580687790476533049), Cond.constantDouble RX2 126 (13818544856648471893)]
def wsX2_along_r2 : List Cond := [Cond.constantDouble RX2 128 (4575957461383581969), Cond.constantDouble RX2 130 (13774824197408792602), Cond.constantDouble RX2 132 (4523617214285662004), Cond.constantDouble RX2 134 (13826050856027422720), Cond.constantDouble RX2 136 (4586165620538955093), Cond.constantDouble RX2 138 (13787419979223755799), Cond.constantDouble RX2 140 (4537941361671905306), Cond.constantDouble RX2 142 (13732177094651715420), Cond.constantLong RX2 36 (4), Cond.constantLong RX2 144 (2), Cond.methodLink RX2 187 yX2_cosine, Cond.static yX2_cosine, Cond.code yX2_cosine cX2_cosine 2 (some .double), Cond.methodLink RX2 213 yX2_sum, Cond.instanceMethod yX2_sum, Cond.selects RX2 yX2_sum yX2_sum, Cond.code yX2_sum cX2_sum 8 (some .double), Cond.fieldLink RX2 17 "SkyAlmanacModel" "terms" "[I", Cond.fieldLink RX2 21 "SkyAlmanacModel" "powers" "[I", Cond.fieldLink RX2 24 "SkyAlmanacModel" "waves" "[D"]
def wsX2_along : List Cond := .code yX2_along cX2_along 17 (some .double) :: ((wsX2_along_r1 ++ wsX2_along_r2) ++ wsX20)
def wsX2_above_r1 : List Cond := [Cond.constantDouble RX2 221 (4606439163290984179), Cond.constantDouble RX2 223 (4600837336122831769), Cond.fieldLink RX2 184 "SkyAlmanacModel" "east" "D", Cond.fieldLink RX2 180 "SkyAlmanacModel" "latitude" "D", Cond.methodLink RX2 217 yX2_along, Cond.instanceMethod yX2_along, Cond.selects RX2 yX2_along yX2_along, Cond.initialized RX2, Cond.code yX2_along cX2_along 17 (some .double), Cond.fieldLink RX2 13 "SkyAlmanacModel" "orbits" "[D", Cond.constantDouble RX2 190 (4633260481411531256), Cond.constantDouble RX2 195 (13740701229962882445), Cond.constantDouble RX2 197 (4517329193108106637), Cond.fieldLink RX2 199 "SkyAlmanacModel" "worked" "I", Cond.fieldLink RX2 202 "SkyAlmanacModel" "failed" "Z", Cond.fieldLink RX2 206 "SkyAlmanacModel" "failures" "I", Cond.constantDouble RX2 122 (4602678819172646912), Cond.constantDouble RX2 209 (4611686018427387904), Cond.constantDouble RX2 211 (4652007308841189376), Cond.methodLink RX2 116 yX2_red, Cond.static yX2_red, Cond.code yX2_red cX2_red 6 (some .double), Cond.constantDouble RX2 114 (4645040803167600640), Cond.methodLink RX2 192 yX2_sine]
def wsX2_above_r2 : List Cond := [Cond.static yX2_sine, Cond.code yX2_sine cX2_sine 2 (some .double), Cond.methodLink RX2 146 yX2_wave, Cond.static yX2_wave, Cond.code yX2_wave cX2_wave 17 (some .double), Cond.constantDouble RX2 120 (4636033603912859648), Cond.constantDouble RX2 124 (4580687790476533049), Cond.constantDouble RX2 126 (13818544856648471893), Cond.constantDouble RX2 128 (4575957461383581969), Cond.constantDouble RX2 130 (13774824197408792602), Cond.constantDouble RX2 132 (4523617214285662004), Cond.constantDouble RX2 134 (13826050856027422720), Cond.constantDouble RX2 136 (4586165620538955093), Cond.constantDouble RX2 138 (13787419979223755799), Cond.constantDouble RX2 140 (4537941361671905306), Cond.constantDouble RX2 142 (13732177094651715420), Cond.constantLong RX2 36 (4), Cond.constantLong RX2 144 (2), Cond.methodLink RX2 187 yX2_cosine, Cond.static yX2_cosine, Cond.code yX2_cosine cX2_cosine 2 (some .double), Cond.methodLink RX2 213 yX2_sum, Cond.instanceMethod yX2_sum, Cond.selects RX2 yX2_sum yX2_sum]
def wsX2_above_r3 : List Cond := [Cond.code yX2_sum cX2_sum 8 (some .double), Cond.fieldLink RX2 17 "SkyAlmanacModel" "terms" "[I", Cond.fieldLink RX2 21 "SkyAlmanacModel" "powers" "[I", Cond.fieldLink RX2 24 "SkyAlmanacModel" "waves" "[D", Cond.methodLink RX2 225 yX2_turned, Cond.static yX2_turned, Cond.code yX2_turned cX2_turned 4 (some .double), Cond.constantDouble RX2 150 (4643641531568107876), Cond.constantDouble RX2 152 (4607053141768361126)]
def wsX2_above : List Cond := .code yX2_above cX2_above 14 (some .double) :: ((wsX2_above_r1 ++ (wsX2_above_r2 ++ wsX2_above_r3)) ++ wsX20)
def wsX2_bar : List Cond := .code yX2_bar cX2_bar 4 (some .int) :: ([.constantDouble RX2 228 (13920209183539462144), .constantDouble RX2 230 (4696837146684686336), .methodLink RX2 166 yX2_noBody, .instanceMethod yX2_noBody, .selects RX2 yX2_noBody yX2_noBody, .initialized RX2, .code yX2_noBody cX2_noBody 2 (some .boolean), .fieldLink RX2 7 "SkyAlmanacModel" "set" "[Z", .methodLink RX2 156 yX2_within, .static yX2_within, .code yX2_within cX2_within 6 (some .boolean)] ++ wsX20)
def wsX2_longitude_r1 : List Cond := [Cond.fieldLink RX2 30 "SkyAlmanacModel" "thrown" "I", Cond.fieldLink RX2 202 "SkyAlmanacModel" "failed" "Z", Cond.methodLink RX2 232 yX2_bar, Cond.instanceMethod yX2_bar, Cond.selects RX2 yX2_bar yX2_bar, Cond.initialized RX2, Cond.code yX2_bar cX2_bar 4 (some .int), Cond.constantDouble RX2 228 (13920209183539462144), Cond.constantDouble RX2 230 (4696837146684686336), Cond.methodLink RX2 166 yX2_noBody, Cond.instanceMethod yX2_noBody, Cond.selects RX2 yX2_noBody yX2_noBody, Cond.code yX2_noBody cX2_noBody 2 (some .boolean), Cond.fieldLink RX2 7 "SkyAlmanacModel" "set" "[Z", Cond.methodLink RX2 156 yX2_within, Cond.static yX2_within, Cond.code yX2_within cX2_within 6 (some .boolean), Cond.methodLink RX2 217 yX2_along, Cond.instanceMethod yX2_along, Cond.selects RX2 yX2_along yX2_along, Cond.code yX2_along cX2_along 17 (some .double), Cond.fieldLink RX2 13 "SkyAlmanacModel" "orbits" "[D", Cond.constantDouble RX2 190 (4633260481411531256), Cond.constantDouble RX2 195 (13740701229962882445)]
def wsX2_longitude_r2 : List Cond := [Cond.constantDouble RX2 197 (4517329193108106637), Cond.fieldLink RX2 199 "SkyAlmanacModel" "worked" "I", Cond.fieldLink RX2 206 "SkyAlmanacModel" "failures" "I", Cond.constantDouble RX2 122 (4602678819172646912), Cond.constantDouble RX2 209 (4611686018427387904), Cond.constantDouble RX2 211 (4652007308841189376), Cond.methodLink RX2 116 yX2_red, Cond.static yX2_red, Cond.code yX2_red cX2_red 6 (some .double), Cond.constantDouble RX2 114 (4645040803167600640), Cond.methodLink RX2 192 yX2_sine, Cond.static yX2_sine, Cond.code yX2_sine cX2_sine 2 (some .double), Cond.methodLink RX2 146 yX2_wave, Cond.static yX2_wave, Cond.code yX2_wave cX2_wave 17 (some .double), Cond.constantDouble RX2 120 (4636033603912859648), Cond.constantDouble RX2 124 (4580687790476533049), Cond.constantDouble RX2 126 (13818544856648471893), Cond.constantDouble RX2 128 (4575957461383581969), Cond.constantDouble RX2 130 (13774824197408792602), Cond.constantDouble RX2 132 (4523617214285662004), Cond.constantDouble RX2 134 (13826050856027422720), Cond.constantDouble RX2 136 (4586165620538955093)]
def wsX2_longitude_r3 : List Cond := [Cond.constantDouble RX2 138 (13787419979223755799), Cond.constantDouble RX2 140 (4537941361671905306), Cond.constantDouble RX2 142 (13732177094651715420), Cond.constantLong RX2 36 (4), Cond.constantLong RX2 144 (2), Cond.methodLink RX2 187 yX2_cosine, Cond.static yX2_cosine, Cond.code yX2_cosine cX2_cosine 2 (some .double), Cond.methodLink RX2 213 yX2_sum, Cond.instanceMethod yX2_sum, Cond.selects RX2 yX2_sum yX2_sum, Cond.code yX2_sum cX2_sum 8 (some .double), Cond.fieldLink RX2 17 "SkyAlmanacModel" "terms" "[I", Cond.fieldLink RX2 21 "SkyAlmanacModel" "powers" "[I", Cond.fieldLink RX2 24 "SkyAlmanacModel" "waves" "[D"]
def wsX2_longitude : List Cond := .code yX2_longitude cX2_longitude 6 (some .double) :: ((wsX2_longitude_r1 ++ (wsX2_longitude_r2 ++ wsX2_longitude_r3)) ++ wsX20)
def wsX2_height_r1 : List Cond := [Cond.fieldLink RX2 30 "SkyAlmanacModel" "thrown" "I", Cond.fieldLink RX2 202 "SkyAlmanacModel" "failed" "Z", Cond.methodLink RX2 232 yX2_bar, Cond.instanceMethod yX2_bar, Cond.selects RX2 yX2_bar yX2_bar, Cond.initialized RX2, Cond.code yX2_bar cX2_bar 4 (some .int), Cond.constantDouble RX2 228 (13920209183539462144), Cond.constantDouble RX2 230 (4696837146684686336), Cond.methodLink RX2 166 yX2_noBody, Cond.instanceMethod yX2_noBody, Cond.selects RX2 yX2_noBody yX2_noBody, Cond.code yX2_noBody cX2_noBody 2 (some .boolean), Cond.fieldLink RX2 7 "SkyAlmanacModel" "set" "[Z", Cond.methodLink RX2 156 yX2_within, Cond.static yX2_within, Cond.code yX2_within cX2_within 6 (some .boolean), Cond.methodLink RX2 236 yX2_above, Cond.instanceMethod yX2_above, Cond.selects RX2 yX2_above yX2_above, Cond.code yX2_above cX2_above 14 (some .double), Cond.constantDouble RX2 221 (4606439163290984179), Cond.constantDouble RX2 223 (4600837336122831769), Cond.fieldLink RX2 184 "SkyAlmanacModel" "east" "D"]
def wsX2_height_r2 : List Cond := [Cond.fieldLink RX2 180 "SkyAlmanacModel" "latitude" "D", Cond.methodLink RX2 217 yX2_along, Cond.instanceMethod yX2_along, Cond.selects RX2 yX2_along yX2_along, Cond.code yX2_along cX2_along 17 (some .double), Cond.fieldLink RX2 13 "SkyAlmanacModel" "orbits" "[D", Cond.constantDouble RX2 190 (4633260481411531256), Cond.constantDouble RX2 195 (13740701229962882445), Cond.constantDouble RX2 197 (4517329193108106637), Cond.fieldLink RX2 199 "SkyAlmanacModel" "worked" "I", Cond.fieldLink RX2 206 "SkyAlmanacModel" "failures" "I", Cond.constantDouble RX2 122 (4602678819172646912), Cond.constantDouble RX2 209 (4611686018427387904), Cond.constantDouble RX2 211 (4652007308841189376), Cond.methodLink RX2 116 yX2_red, Cond.static yX2_red, Cond.code yX2_red cX2_red 6 (some .double), Cond.constantDouble RX2 114 (4645040803167600640), Cond.methodLink RX2 192 yX2_sine, Cond.static yX2_sine, Cond.code yX2_sine cX2_sine 2 (some .double), Cond.methodLink RX2 146 yX2_wave, Cond.static yX2_wave, Cond.code yX2_wave cX2_wave 17 (some .double)]
def wsX2_height_r3 : List Cond := [Cond.constantDouble RX2 120 (4636033603912859648), Cond.constantDouble RX2 124 (4580687790476533049), Cond.constantDouble RX2 126 (13818544856648471893), Cond.constantDouble RX2 128 (4575957461383581969), Cond.constantDouble RX2 130 (13774824197408792602), Cond.constantDouble RX2 132 (4523617214285662004), Cond.constantDouble RX2 134 (13826050856027422720), Cond.constantDouble RX2 136 (4586165620538955093), Cond.constantDouble RX2 138 (13787419979223755799), Cond.constantDouble RX2 140 (4537941361671905306), Cond.constantDouble RX2 142 (13732177094651715420), Cond.constantLong RX2 36 (4), Cond.constantLong RX2 144 (2), Cond.methodLink RX2 187 yX2_cosine, Cond.static yX2_cosine, Cond.code yX2_cosine cX2_cosine 2 (some .double), Cond.methodLink RX2 213 yX2_sum, Cond.instanceMethod yX2_sum, Cond.selects RX2 yX2_sum yX2_sum, Cond.code yX2_sum cX2_sum 8 (some .double), Cond.fieldLink RX2 17 "SkyAlmanacModel" "terms" "[I", Cond.fieldLink RX2 21 "SkyAlmanacModel" "powers" "[I", Cond.fieldLink RX2 24 "SkyAlmanacModel" "waves" "[D", Cond.methodLink RX2 225 yX2_turned]
def wsX2_height_r4 : List Cond := [Cond.static yX2_turned, Cond.code yX2_turned cX2_turned 4 (some .double), Cond.constantDouble RX2 150 (4643641531568107876), Cond.constantDouble RX2 152 (4607053141768361126)]
def wsX2_height : List Cond := .code yX2_height cX2_height 6 (some .double) :: ((wsX2_height_r1 ++ (wsX2_height_r2 ++ (wsX2_height_r3 ++ wsX2_height_r4))) ++ wsX20)
def wsX2_crossing_r1 : List Cond := [Cond.constantDouble RX2 209 (4611686018427387904), Cond.fieldLink RX2 202 "SkyAlmanacModel" "failed" "Z", Cond.methodLink RX2 236 yX2_above, Cond.instanceMethod yX2_above, Cond.selects RX2 yX2_above yX2_above, Cond.initialized RX2, Cond.code yX2_above cX2_above 14 (some .double), Cond.constantDouble RX2 221 (4606439163290984179), Cond.constantDouble RX2 223 (4600837336122831769), Cond.fieldLink RX2 184 "SkyAlmanacModel" "east" "D", Cond.fieldLink RX2 180 "SkyAlmanacModel" "latitude" "D", Cond.methodLink RX2 217 yX2_along, Cond.instanceMethod yX2_along, Cond.selects RX2 yX2_along yX2_along, Cond.code yX2_along cX2_along 17 (some .double), Cond.fieldLink RX2 13 "SkyAlmanacModel" "orbits" "[D", Cond.constantDouble RX2 190 (4633260481411531256), Cond.constantDouble RX2 195 (13740701229962882445), Cond.constantDouble RX2 197 (4517329193108106637), Cond.fieldLink RX2 199 "SkyAlmanacModel" "worked" "I", Cond.fieldLink RX2 206 "SkyAlmanacModel" "failures" "I", Cond.constantDouble RX2 122 (4602678819172646912), Cond.constantDouble RX2 211 (4652007308841189376), Cond.methodLink RX2 116 yX2_red]
def wsX2_crossing_r2 : List Cond := [Cond.static yX2_red, Cond.code yX2_red cX2_red 6 (some .double), Cond.constantDouble RX2 114 (4645040803167600640), Cond.methodLink RX2 192 yX2_sine, Cond.static yX2_sine, Cond.code yX2_sine cX2_sine 2 (some .double), Cond.methodLink RX2 146 yX2_wave, Cond.static yX2_wave, Cond.code yX2_wave cX2_wave 17 (some .double), Cond.constantDouble RX2 120 (4636033603912859648), Cond.constantDouble RX2 124 (4580687790476533049), Cond.constantDouble RX2 126 (13818544856648471893), Cond.constantDouble RX2 128 (4575957461383581969), Cond.constantDouble RX2 130 (13774824197408792602), Cond.constantDouble RX2 132 (4523617214285662004), Cond.constantDouble RX2 134 (13826050856027422720), Cond.constantDouble RX2 136 (4586165620538955093), Cond.constantDouble RX2 138 (13787419979223755799), Cond.constantDouble RX2 140 (4537941361671905306), Cond.constantDouble RX2 142 (13732177094651715420), Cond.constantLong RX2 36 (4), Cond.constantLong RX2 144 (2), Cond.methodLink RX2 187 yX2_cosine, Cond.static yX2_cosine]
def wsX2_crossing_r3 : List Cond := [Cond.code yX2_cosine cX2_cosine 2 (some .double), Cond.methodLink RX2 213 yX2_sum, Cond.instanceMethod yX2_sum, Cond.selects RX2 yX2_sum yX2_sum, Cond.code yX2_sum cX2_sum 8 (some .double), Cond.fieldLink RX2 17 "SkyAlmanacModel" "terms" "[I", Cond.fieldLink RX2 21 "SkyAlmanacModel" "powers" "[I", Cond.fieldLink RX2 24 "SkyAlmanacModel" "waves" "[D", Cond.methodLink RX2 225 yX2_turned, Cond.static yX2_turned, Cond.code yX2_turned cX2_turned 4 (some .double), Cond.constantDouble RX2 150 (4643641531568107876), Cond.constantDouble RX2 152 (4607053141768361126)]
def wsX2_crossing : List Cond := .code yX2_crossing cX2_crossing 17 (some .double) :: ((wsX2_crossing_r1 ++ (wsX2_crossing_r2 ++ wsX2_crossing_r3)) ++ wsX20)
def wsX2_passes_r1 : List Cond := [Cond.fieldLink RX2 202 "SkyAlmanacModel" "failed" "Z", Cond.constantDouble RX2 239 (4625196817309499392), Cond.fieldLink RX2 30 "SkyAlmanacModel" "thrown" "I", Cond.methodLink RX2 236 yX2_above, Cond.instanceMethod yX2_above, Cond.selects RX2 yX2_above yX2_above, Cond.initialized RX2, Cond.code yX2_above cX2_above 14 (some .double), Cond.constantDouble RX2 221 (4606439163290984179), Cond.constantDouble RX2 223 (4600837336122831769), Cond.fieldLink RX2 184 "SkyAlmanacModel" "east" "D", Cond.fieldLink RX2 180 "SkyAlmanacModel" "latitude" "D", Cond.methodLink RX2 217 yX2_along, Cond.instanceMethod yX2_along, Cond.selects RX2 yX2_along yX2_along, Cond.code yX2_along cX2_along 17 (some .double), Cond.fieldLink RX2 13 "SkyAlmanacModel" "orbits" "[D", Cond.constantDouble RX2 190 (4633260481411531256), Cond.constantDouble RX2 195 (13740701229962882445), Cond.constantDouble RX2 197 (4517329193108106637), Cond.fieldLink RX2 199 "SkyAlmanacModel" "worked" "I", Cond.fieldLink RX2 206 "SkyAlmanacModel" "failures" "I", Cond.constantDouble RX2 122 (4602678819172646912), Cond.constantDouble RX2 209 (4611686018427387904)]
def wsX2_passes_r2 : List Cond := [Cond.constantDouble RX2 211 (4652007308841189376), Cond.methodLink RX2 116 yX2_red, Cond.static yX2_red, Cond.code yX2_red cX2_red 6 (some .double), Cond.constantDouble RX2 114 (4645040803167600640), Cond.methodLink RX2 192 yX2_sine, Cond.static yX2_sine, Cond.code yX2_sine cX2_sine 2 (some .double), Cond.methodLink RX2 146 yX2_wave, Cond.static yX2_wave, Cond.code yX2_wave cX2_wave 17 (some .double), Cond.constantDouble RX2 120 (4636033603912859648), Cond.constantDouble RX2 124 (4580687790476533049), Cond.constantDouble RX2 126 (13818544856648471893), Cond.constantDouble RX2 128 (4575957461383581969), Cond.constantDouble RX2 130 (13774824197408792602), Cond.constantDouble RX2 132 (4523617214285662004), Cond.constantDouble RX2 134 (13826050856027422720), Cond.constantDouble RX2 136 (4586165620538955093), Cond.constantDouble RX2 138 (13787419979223755799), Cond.constantDouble RX2 140 (4537941361671905306), Cond.constantDouble RX2 142 (13732177094651715420), Cond.constantLong RX2 36 (4), Cond.constantLong RX2 144 (2)]
def wsX2_passes_r3 : List Cond := [Cond.methodLink RX2 187 yX2_cosine, Cond.static yX2_cosine, Cond.code yX2_cosine cX2_cosine 2 (some .double), Cond.methodLink RX2 213 yX2_sum, Cond.instanceMethod yX2_sum, Cond.selects RX2 yX2_sum yX2_sum, Cond.code yX2_sum cX2_sum 8 (some .double), Cond.fieldLink RX2 17 "SkyAlmanacModel" "terms" "[I", Cond.fieldLink RX2 21 "SkyAlmanacModel" "powers" "[I", Cond.fieldLink RX2 24 "SkyAlmanacModel" "waves" "[D", Cond.methodLink RX2 225 yX2_turned, Cond.static yX2_turned, Cond.code yX2_turned cX2_turned 4 (some .double), Cond.constantDouble RX2 150 (4643641531568107876), Cond.constantDouble RX2 152 (4607053141768361126), Cond.methodLink RX2 241 yX2_crossing, Cond.instanceMethod yX2_crossing, Cond.selects RX2 yX2_crossing yX2_crossing, Cond.code yX2_crossing cX2_crossing 17 (some .double), Cond.methodLink RX2 77 yX2_fail, Cond.instanceMethod yX2_fail, Cond.selects RX2 yX2_fail yX2_fail, Cond.code yX2_fail cX2_fail 2 (some .int)]
def wsX2_passes : List Cond := .code yX2_passes cX2_passes 12 (some .double) :: ((wsX2_passes_r1 ++ (wsX2_passes_r2 ++ wsX2_passes_r3)) ++ wsX20)
def wsX2_highest_r1 : List Cond := [Cond.fieldLink RX2 202 "SkyAlmanacModel" "failed" "Z", Cond.constantDouble RX2 239 (4625196817309499392), Cond.constantDouble RX2 245 (4613937818241073152), Cond.constantDouble RX2 209 (4611686018427387904), Cond.methodLink RX2 236 yX2_above, Cond.instanceMethod yX2_above, Cond.selects RX2 yX2_above yX2_above, Cond.initialized RX2, Cond.code yX2_above cX2_above 14 (some .double), Cond.constantDouble RX2 221 (4606439163290984179), Cond.constantDouble RX2 223 (4600837336122831769), Cond.fieldLink RX2 184 "SkyAlmanacModel" "east" "D", Cond.fieldLink RX2 180 "SkyAlmanacModel" "latitude" "D", Cond.methodLink RX2 217 yX2_along, Cond.instanceMethod yX2_along, Cond.selects RX2 yX2_along yX2_along, Cond.code yX2_along cX2_along 17 (some .double), Cond.fieldLink RX2 13 "SkyAlmanacModel" "orbits" "[D", Cond.constantDouble RX2 190 (4633260481411531256), Cond.constantDouble RX2 195 (13740701229962882445), Cond.constantDouble RX2 197 (4517329193108106637), Cond.fieldLink RX2 199 "SkyAlmanacModel" "worked" "I", Cond.fieldLink RX2 206 "SkyAlmanacModel" "failures" "I", Cond.constantDouble RX2 122 (4602678819172646912)]
def wsX2_highest_r2 : List Cond := [Cond.constantDouble RX2 211 (4652007308841189376), Cond.methodLink RX2 116 yX2_red, Cond.static yX2_red, Cond.code yX2_red cX2_red 6 (some .double), Cond.constantDouble RX2 114 (4645040803167600640), Cond.methodLink RX2 192 yX2_sine, Cond.static yX2_sine, Cond.code yX2_sine cX2_sine 2 (some .double), Cond.methodLink RX2 146 yX2_wave, Cond.static yX2_wave, Cond.code yX2_wave cX2_wave 17 (some .double), Cond.constantDouble RX2 120 (4636033603912859648), Cond.constantDouble RX2 124 (4580687790476533049), Cond.constantDouble RX2 126 (13818544856648471893), Cond.constantDouble RX2 128 (4575957461383581969), Cond.constantDouble RX2 130 (13774824197408792602), Cond.constantDouble RX2 132 (4523617214285662004), Cond.constantDouble RX2 134 (13826050856027422720), Cond.constantDouble RX2 136 (4586165620538955093), Cond.constantDouble RX2 138 (13787419979223755799), Cond.constantDouble RX2 140 (4537941361671905306), Cond.constantDouble RX2 142 (13732177094651715420), Cond.constantLong RX2 36 (4), Cond.constantLong RX2 144 (2)]
def wsX2_highest_r3 : List Cond := [Cond.methodLink RX2 187 yX2_cosine, Cond.static yX2_cosine, Cond.code yX2_cosine cX2_cosine 2 (some .double), Cond.methodLink RX2 213 yX2_sum, Cond.instanceMethod yX2_sum, Cond.selects RX2 yX2_sum yX2_sum, Cond.code yX2_sum cX2_sum 8 (some .double), Cond.fieldLink RX2 17 "SkyAlmanacModel" "terms" "[I", Cond.fieldLink RX2 21 "SkyAlmanacModel" "powers" "[I", Cond.fieldLink RX2 24 "SkyAlmanacModel" "waves" "[D", Cond.methodLink RX2 225 yX2_turned, Cond.static yX2_turned, Cond.code yX2_turned cX2_turned 4 (some .double), Cond.constantDouble RX2 150 (4643641531568107876), Cond.constantDouble RX2 152 (4607053141768361126), Cond.methodLink RX2 77 yX2_fail, Cond.instanceMethod yX2_fail, Cond.selects RX2 yX2_fail yX2_fail, Cond.code yX2_fail cX2_fail 2 (some .int), Cond.fieldLink RX2 30 "SkyAlmanacModel" "thrown" "I"]
def wsX2_highest : List Cond := .code yX2_highest cX2_highest 21 (some .double) :: ((wsX2_highest_r1 ++ (wsX2_highest_r2 ++ wsX2_highest_r3)) ++ wsX20)
def wsX2_event_r1 : List Cond := [Cond.fieldLink RX2 30 "SkyAlmanacModel" "thrown" "I", Cond.constant RX2 247 (-999999), Cond.constant RX2 248 (999998), Cond.methodLink RX2 77 yX2_fail, Cond.instanceMethod yX2_fail, Cond.selects RX2 yX2_fail yX2_fail, Cond.initialized RX2, Cond.code yX2_fail cX2_fail 2 (some .int), Cond.methodLink RX2 166 yX2_noBody, Cond.instanceMethod yX2_noBody, Cond.selects RX2 yX2_noBody yX2_noBody, Cond.code yX2_noBody cX2_noBody 2 (some .boolean), Cond.fieldLink RX2 7 "SkyAlmanacModel" "set" "[Z", Cond.methodLink RX2 249 yX2_highest, Cond.instanceMethod yX2_highest, Cond.selects RX2 yX2_highest yX2_highest, Cond.code yX2_highest cX2_highest 21 (some .double), Cond.fieldLink RX2 202 "SkyAlmanacModel" "failed" "Z", Cond.constantDouble RX2 239 (4625196817309499392), Cond.constantDouble RX2 245 (4613937818241073152), Cond.constantDouble RX2 209 (4611686018427387904), Cond.methodLink RX2 236 yX2_above, Cond.instanceMethod yX2_above, Cond.selects RX2 yX2_above yX2_above]
def wsX2_event_r2 : List Cond := [Cond.code yX2_above cX2_above 14 (some .double), Cond.constantDouble RX2 221 (4606439163290984179), Cond.constantDouble RX2 223 (4600837336122831769), Cond.fieldLink RX2 184 "SkyAlmanacModel" "east" "D", Cond.fieldLink RX2 180 "SkyAlmanacModel" "latitude" "D", Cond.methodLink RX2 217 yX2_along, Cond.instanceMethod yX2_along, Cond.selects RX2 yX2_along yX2_along, Cond.code yX2_along cX2_along 17 (some .double), Cond.fieldLink RX2 13 "SkyAlmanacModel" "orbits" "[D", Cond.constantDouble RX2 190 (4633260481411531256), Cond.constantDouble RX2 195 (13740701229962882445), Cond.constantDouble RX2 197 (4517329193108106637), Cond.fieldLink RX2 199 "SkyAlmanacModel" "worked" "I", Cond.fieldLink RX2 206 "SkyAlmanacModel" "failures" "I", Cond.constantDouble RX2 122 (4602678819172646912), Cond.constantDouble RX2 211 (4652007308841189376), Cond.methodLink RX2 116 yX2_red, Cond.static yX2_red, Cond.code yX2_red cX2_red 6 (some .double), Cond.constantDouble RX2 114 (4645040803167600640), Cond.methodLink RX2 192 yX2_sine, Cond.static yX2_sine, Cond.code yX2_sine cX2_sine 2 (some .double)]
def wsX2_event_r3 : List Cond := [Cond.methodLink RX2 146 yX2_wave, Cond.static yX2_wave, Cond.code yX2_wave cX2_wave 17 (some .double), Cond.constantDouble RX2 120 (4636033603912859648), Cond.constantDouble RX2 124 (4580687790476533049), Cond.constantDouble RX2 126 (13818544856648471893), Cond.constantDouble RX2 128 (4575957461383581969), Cond.constantDouble RX2 130 (13774824197408792602), Cond.constantDouble RX2 132 (4523617214285662004), Cond.constantDouble RX2 134 (13826050856027422720), Cond.constantDouble RX2 136 (4586165620538955093), Cond.constantDouble RX2 138 (13787419979223755799), Cond.constantDouble RX2 140 (4537941361671905306), Cond.constantDouble RX2 142 (13732177094651715420), Cond.constantLong RX2 36 (4), Cond.constantLong RX2 144 (2), Cond.methodLink RX2 187 yX2_cosine, Cond.static yX2_cosine, Cond.code yX2_cosine cX2_cosine 2 (some .double), Cond.methodLink RX2 213 yX2_sum, Cond.instanceMethod yX2_sum, Cond.selects RX2 yX2_sum yX2_sum, Cond.code yX2_sum cX2_sum 8 (some .double), Cond.fieldLink RX2 17 "SkyAlmanacModel" "terms" "[I"]
def wsX2_event_r4 : List Cond := [Cond.fieldLink RX2 21 "SkyAlmanacModel" "powers" "[I", Cond.fieldLink RX2 24 "SkyAlmanacModel" "waves" "[D", Cond.methodLink RX2 225 yX2_turned, Cond.static yX2_turned, Cond.code yX2_turned cX2_turned 4 (some .double), Cond.constantDouble RX2 150 (4643641531568107876), Cond.constantDouble RX2 152 (4607053141768361126), Cond.methodLink RX2 252 yX2_passes, Cond.instanceMethod yX2_passes, Cond.selects RX2 yX2_passes yX2_passes, Cond.code yX2_passes cX2_passes 12 (some .double), Cond.methodLink RX2 241 yX2_crossing, Cond.instanceMethod yX2_crossing, Cond.selects RX2 yX2_crossing yX2_crossing, Cond.code yX2_crossing cX2_crossing 17 (some .double)]
def wsX2_event : List Cond := .code yX2_event cX2_event 4 (some .double) :: ((wsX2_event_r1 ++ (wsX2_event_r2 ++ (wsX2_event_r3 ++ wsX2_event_r4))) ++ wsX20)
def wsX2_sidereal : List Cond := .code yX2_sidereal cX2_sidereal 3 (some .double) :: ([.fieldLink RX2 30 "SkyAlmanacModel" "thrown" "I", .constantDouble RX2 228 (13920209183539462144), .constantDouble RX2 230 (4696837146684686336), .methodLink RX2 156 yX2_within, .static yX2_within, .initialized RX2, .code yX2_within cX2_within 6 (some .boolean), .methodLink RX2 77 yX2_fail, .instanceMethod yX2_fail, .selects RX2 yX2_fail yX2_fail, .code yX2_fail cX2_fail 2 (some .int), .methodLink RX2 225 yX2_turned, .static yX2_turned, .code yX2_turned cX2_turned 4 (some .double), .constantDouble RX2 150 (4643641531568107876), .constantDouble RX2 152 (4607053141768361126), .constantDouble RX2 114 (4645040803167600640), .methodLink RX2 116 yX2_red, .static yX2_red, .code yX2_red cX2_red 6 (some .double)] ++ wsX20)
def wsX2_put : List Cond := .code yX2_put cX2_put 2 none :: ([.fieldLink RX2 27 "SkyAlmanacModel" "written" "[I", .fieldLink RX2 256 "SkyAlmanacModel" "letters" "I"] ++ wsX20)
def wsX2_digits : List Cond := .code yX2_digits cX2_digits 9 none :: ([.constantLong RX2 259 (10), .methodLink RX2 261 yX2_put, .instanceMethod yX2_put, .selects RX2 yX2_put yX2_put, .initialized RX2, .code yX2_put cX2_put 2 none, .fieldLink RX2 27 "SkyAlmanacModel" "written" "[I", .fieldLink RX2 256 "SkyAlmanacModel" "letters" "I"] ++ wsX20)
def wsX2_write_r1 : List Cond := [Cond.fieldLink RX2 30 "SkyAlmanacModel" "thrown" "I", Cond.constantDouble RX2 265 (13904980397738950656), Cond.constantDouble RX2 267 (4681608360884174848), Cond.constantDouble RX2 172 (4621819117588971520), Cond.constantLong RX2 259 (10), Cond.constantDouble RX2 269 (4660134898793709568), Cond.constantDouble RX2 122 (4602678819172646912), Cond.fieldLink RX2 256 "SkyAlmanacModel" "letters" "I", Cond.constantLong RX2 271 (3600), Cond.constantLong RX2 277 (60), Cond.methodLink RX2 156 yX2_within, Cond.static yX2_within, Cond.initialized RX2, Cond.code yX2_within cX2_within 6 (some .boolean), Cond.methodLink RX2 77 yX2_fail, Cond.instanceMethod yX2_fail, Cond.selects RX2 yX2_fail yX2_fail, Cond.code yX2_fail cX2_fail 2 (some .int), Cond.methodLink RX2 261 yX2_put, Cond.instanceMethod yX2_put, Cond.selects RX2 yX2_put yX2_put, Cond.code yX2_put cX2_put 2 none, Cond.fieldLink RX2 27 "SkyAlmanacModel" "written" "[I", Cond.methodLink RX2 273 yX2_digits]
def wsX2_write_r2 : List Cond := [Cond.instanceMethod yX2_digits, Cond.selects RX2 yX2_digits yX2_digits, Cond.code yX2_digits cX2_digits 9 none]
def wsX2_write : List Cond := .code yX2_write cX2_write 14 (some .int) :: ((wsX2_write_r1 ++ wsX2_write_r2) ++ wsX20)
def wsX2_letter : List Cond := .code yX2_letter cX2_letter 2 (some .int) :: ([.fieldLink RX2 30 "SkyAlmanacModel" "thrown" "I", .fieldLink RX2 256 "SkyAlmanacModel" "letters" "I", .fieldLink RX2 27 "SkyAlmanacModel" "written" "[I", .methodLink RX2 77 yX2_fail, .instanceMethod yX2_fail, .selects RX2 yX2_fail yX2_fail, .initialized RX2, .code yX2_fail cX2_fail 2 (some .int)] ++ wsX20)
def wsX2_angle : List Cond := .code yX2_angle cX2_angle 6 (some .double) :: ([.fieldLink RX2 30 "SkyAlmanacModel" "thrown" "I", .constantDouble RX2 279 (4633641066610819072), .constantDouble RX2 269 (4660134898793709568), .methodLink RX2 77 yX2_fail, .instanceMethod yX2_fail, .selects RX2 yX2_fail yX2_fail, .initialized RX2, .code yX2_fail cX2_fail 2 (some .int)] ++ wsX20)
def wsX2_count : List Cond := .code yX2_count cX2_count 2 (some .int) :: ([.fieldLink RX2 30 "SkyAlmanacModel" "thrown" "I", .fieldLink RX2 206 "SkyAlmanacModel" "failures" "I", .fieldLink RX2 199 "SkyAlmanacModel" "worked" "I"] ++ wsX20)
def wsL_day_r1 : List Cond := [Cond.classLink RL 13 "java/lang/IllegalArgumentException", Cond.methodLink RL 7 yX1_day, Cond.instanceMethod yX1_day, Cond.selects RX1 yX1_day yX1_day, Cond.initialized RX1, Cond.code yX1_day cX1_day 8 (some .long), Cond.classLink RX1 43 "java/lang/IllegalArgumentException", Cond.initialized "java/lang/IllegalArgumentException", Cond.constantLong RX1 37 (2), Cond.constantLong RX1 50 (-1000000), Cond.constantLong RX1 52 (1000000), Cond.constantLong RX1 56 (100), Cond.constantLong RX1 58 (15821004), Cond.constantLong RX1 73 (2299160), Cond.methodLink RX1 39 yX1_isWholeWithin, Cond.static yX1_isWholeWithin, Cond.code yX1_isWholeWithin cX1_isWholeWithin 6 (some .boolean), Cond.methodLink RX1 60 yX1_monthLength, Cond.static yX1_monthLength, Cond.code yX1_monthLength cX1_monthLength 4 (some .int), Cond.fieldLink RX1 110 "SkyAlmanac" "MONTH_LENGTHS" "[I", Cond.methodLink RX1 114 yX1_isLeap, Cond.static yX1_isLeap, Cond.code yX1_isLeap cX1_isLeap 2 (some .boolean)]
def wsL_day_r2 : List Cond := [Cond.methodLink RX1 66 yX1_firstDayOfYear, Cond.static yX1_firstDayOfYear, Cond.code yX1_firstDayOfYear cX1_firstDayOfYear 4 (some .long), Cond.constantLong RX1 118 (365), Cond.constantLong RX1 123 (1721058), Cond.constantLong RX1 125 (1721060), Cond.methodLink RX1 120 yJ9_floorDiv_7cf53, Cond.static yJ9_floorDiv_7cf53, Cond.initialized RJ9, Cond.code yJ9_floorDiv_7cf53 cJ9_floorDiv_7cf53 3 (some .int), Cond.methodLink RX1 70 yX1_daysBeforeMonth, Cond.static yX1_daysBeforeMonth, Cond.code yX1_daysBeforeMonth cX1_daysBeforeMonth 5 (some .int)]
def wsL_day : List Cond := .codeWith yL_day cL_day 7 (some .int) [(0, 13, 16, 13)] :: ((wsL_day_r1 ++ wsL_day_r2) ++ (vx_atS RX1 47 "java/lang/IllegalArgumentException" ["java/lang/RuntimeException", "java/lang/Exception"]).filter goodWord)
def wsL_date_r1 : List Cond := [Cond.classLink RL 13 "java/lang/IllegalArgumentException", Cond.methodLink RL 15 yX1_date, Cond.instanceMethod yX1_date, Cond.selects RX1 yX1_date yX1_date, Cond.initialized RX1, Cond.code yX1_date cX1_date 9 (some .int), Cond.classLink RX1 43 "java/lang/IllegalArgumentException", Cond.initialized "java/lang/IllegalArgumentException", Cond.constantLong RX1 37 (2), Cond.constantLong RX1 77 (-400000000), Cond.constantLong RX1 79 (400000000), Cond.constantLong RX1 83 (3), Cond.constantLong RX1 73 (2299160), Cond.constantLong RX1 50 (-1000000), Cond.constantLong RX1 52 (1000000), Cond.methodLink RX1 39 yX1_isWholeWithin, Cond.static yX1_isWholeWithin, Cond.code yX1_isWholeWithin cX1_isWholeWithin 6 (some .boolean), Cond.methodLink RX1 87 yX1_yearOfDay, Cond.static yX1_yearOfDay, Cond.code yX1_yearOfDay cX1_yearOfDay 8 (some .int), Cond.constantLong RX1 127 (146100), Cond.constantLong RX1 129 (146097), Cond.constantLong RX1 131 (400)]
def wsL_date_r2 : List Cond := [Cond.methodLink RX1 66 yX1_firstDayOfYear, Cond.static yX1_firstDayOfYear, Cond.code yX1_firstDayOfYear cX1_firstDayOfYear 4 (some .long), Cond.constantLong RX1 118 (365), Cond.constantLong RX1 123 (1721058), Cond.constantLong RX1 125 (1721060), Cond.methodLink RX1 120 yJ9_floorDiv_7cf53, Cond.static yJ9_floorDiv_7cf53, Cond.initialized RJ9, Cond.code yJ9_floorDiv_7cf53 cJ9_floorDiv_7cf53 3 (some .int), Cond.methodLink RX1 133 yJ9_floorDiv_f86c9, Cond.static yJ9_floorDiv_f86c9, Cond.code yJ9_floorDiv_f86c9 cJ9_floorDiv_f86c9 6 (some .long), Cond.methodLink RX1 93 yX1_monthOfDayWithinYear, Cond.static yX1_monthOfDayWithinYear, Cond.code yX1_monthOfDayWithinYear cX1_monthOfDayWithinYear 4 (some .int), Cond.fieldLink RX1 110 "SkyAlmanac" "MONTH_LENGTHS" "[I", Cond.methodLink RX1 70 yX1_daysBeforeMonth, Cond.static yX1_daysBeforeMonth, Cond.code yX1_daysBeforeMonth cX1_daysBeforeMonth 5 (some .int), Cond.methodLink RX1 60 yX1_monthLength, Cond.static yX1_monthLength, Cond.code yX1_monthLength cX1_monthLength 4 (some .int), Cond.methodLink RX1 114 yX1_isLeap]
def wsL_date_r3 : List Cond := [Cond.static yX1_isLeap, Cond.code yX1_isLeap cX1_isLeap 2 (some .boolean)]
def wsL_date : List Cond := .codeWith yL_date cL_date 7 (some .int) [(0, 13, 16, 13)] :: ((wsL_date_r1 ++ (wsL_date_r2 ++ wsL_date_r3)) ++ (vx_atS RX1 47 "java/lang/IllegalArgumentException" ["java/lang/RuntimeException", "java/lang/Exception"]).filter goodWord)
def wsL_easter_r1 : List Cond := [Cond.classLink RL 13 "java/lang/IllegalArgumentException", Cond.methodLink RL 19 yX1_easter, Cond.instanceMethod yX1_easter, Cond.selects RX1 yX1_easter yX1_easter, Cond.initialized RX1, Cond.code yX1_easter cX1_easter 11 (some .long), Cond.classLink RX1 43 "java/lang/IllegalArgumentException", Cond.initialized "java/lang/IllegalArgumentException", Cond.constantLong RX1 96 (1583), Cond.constantLong RX1 98 (9999), Cond.constantLong RX1 108 (28), Cond.methodLink RX1 39 yX1_isWholeWithin, Cond.static yX1_isWholeWithin, Cond.code yX1_isWholeWithin cX1_isWholeWithin 6 (some .boolean), Cond.methodLink RX1 102 yJ9_floorMod_7cf53, Cond.static yJ9_floorMod_7cf53, Cond.initialized RJ9, Cond.code yJ9_floorMod_7cf53 cJ9_floorMod_7cf53 3 (some .int), Cond.methodLink RX1 66 yX1_firstDayOfYear, Cond.static yX1_firstDayOfYear, Cond.code yX1_firstDayOfYear cX1_firstDayOfYear 4 (some .long), Cond.constantLong RX1 118 (365), Cond.constantLong RX1 123 (1721058), Cond.constantLong RX1 125 (1721060)]
def wsL_easter_r2 : List Cond := [Cond.methodLink RX1 120 yJ9_floorDiv_7cf53, Cond.static yJ9_floorDiv_7cf53, Cond.code yJ9_floorDiv_7cf53 cJ9_floorDiv_7cf53 3 (some .int), Cond.methodLink RX1 70 yX1_daysBeforeMonth, Cond.static yX1_daysBeforeMonth, Cond.code yX1_daysBeforeMonth cX1_daysBeforeMonth 5 (some .int), Cond.fieldLink RX1 110 "SkyAlmanac" "MONTH_LENGTHS" "[I", Cond.methodLink RX1 60 yX1_monthLength, Cond.static yX1_monthLength, Cond.code yX1_monthLength cX1_monthLength 4 (some .int), Cond.methodLink RX1 114 yX1_isLeap, Cond.static yX1_isLeap, Cond.code yX1_isLeap cX1_isLeap 2 (some .boolean)]
def wsL_easter : List Cond := .codeWith yL_easter cL_easter 4 (some .int) [(0, 8, 11, 13)] :: ((wsL_easter_r1 ++ wsL_easter_r2) ++ (vx_atS RX1 47 "java/lang/IllegalArgumentException" ["java/lang/RuntimeException", "java/lang/Exception"]).filter goodWord)
def wsL_orbit : List Cond := .codeWith yL_orbit cL_orbit 12 (some .int) [(0, 24, 27, 27), (0, 24, 31, 13)] :: ([.classLink RL 27 "java/lang/IndexOutOfBoundsException", .classLink RL 13 "java/lang/IllegalArgumentException", .methodLink RL 23 yX1_orbit, .instanceMethod yX1_orbit, .selects RX1 yX1_orbit yX1_orbit, .initialized RX1, .code yX1_orbit cX1_orbit 12 (some .boolean), .classLink RX1 136 "java/lang/IndexOutOfBoundsException", .initialized "java/lang/IndexOutOfBoundsException", .classLink RX1 43 "java/lang/IllegalArgumentException", .initialized "java/lang/IllegalArgumentException", .fieldLink RX1 11 "SkyAlmanac" "bodies" "[LSkyAlmanac$Body;", .constantDouble RX1 141 (13868412840022376448), .constantDouble RX1 143 (4645040803167600640), .constantDouble RX1 149 (13860109328209412096), .constantDouble RX1 151 (4636737291354636288), .constantDouble RX1 153 (4604930618986332160), .methodLink RX1 145 yX1_isWithin, .static yX1_isWithin, .code yX1_isWithin cX1_isWithin 6 (some .boolean)] ++ wsX10 ++ wsX00 ++ (vx_atS RX1 140 "java/lang/IndexOutOfBoundsException" ["java/lang/RuntimeException", "java/lang/Exception"]).filter goodWord ++ (vx_atS RX1 47 "java/lang/IllegalArgumentException" ["java/lang/RuntimeException", "java/lang/Exception"]).filter goodWord)
def wsL_term_r1 : List Cond := [Cond.classLink RL 33 "java/util/NoSuchElementException", Cond.classLink RL 13 "java/lang/IllegalArgumentException", Cond.classLink RL 35 "java/lang/IllegalStateException", Cond.methodLink RL 29 yX1_term, Cond.instanceMethod yX1_term, Cond.selects RX1 yX1_term yX1_term, Cond.initialized RX1, Cond.code yX1_term cX1_term 11 (some .int), Cond.classLink RX1 43 "java/lang/IllegalArgumentException", Cond.initialized "java/lang/IllegalArgumentException", Cond.classLink RX1 186 "java/lang/IllegalStateException", Cond.initialized "java/lang/IllegalStateException", Cond.constantLong RX1 37 (2), Cond.constantDouble RX1 177 (13845191154443747328), Cond.constantDouble RX1 179 (4621819117588971520), Cond.constantDouble RX1 141 (13868412840022376448), Cond.constantDouble RX1 143 (4645040803167600640), Cond.constantDouble RX1 149 (13860109328209412096), Cond.constantDouble RX1 151 (4636737291354636288), Cond.methodLink RX1 173 yX1_bodyThatIsSet, Cond.instanceMethod yX1_bodyThatIsSet, Cond.selects RX1 yX1_bodyThatIsSet yX1_bodyThatIsSet, Cond.code yX1_bodyThatIsSet cX1_bodyThatIsSet 2 (some (.object "SkyAlmanac$Body")), Cond.classLink RX1 214 "java/util/NoSuchElementException"]
def wsL_term_r2 : List Cond := [Cond.initialized "java/util/NoSuchElementException", Cond.fieldLink RX1 11 "SkyAlmanac" "bodies" "[LSkyAlmanac$Body;", Cond.methodLink RX1 39 yX1_isWholeWithin, Cond.static yX1_isWholeWithin, Cond.code yX1_isWholeWithin cX1_isWholeWithin 6 (some .boolean), Cond.methodLink RX1 145 yX1_isWithin, Cond.static yX1_isWithin, Cond.code yX1_isWithin cX1_isWithin 6 (some .boolean)]
def wsL_term : List Cond := .codeWith yL_term cL_term 11 (some .int) [(0, 16, 19, 33), (0, 16, 23, 13), (0, 16, 27, 35)] :: ((wsL_term_r1 ++ wsL_term_r2) ++ wsX00 ++ wsX10 ++ (vx_atS RX1 47 "java/lang/IllegalArgumentException" ["java/lang/RuntimeException", "java/lang/Exception"]).filter goodWord ++ (vx_atS RX1 190 "java/lang/IllegalStateException" ["java/lang/RuntimeException", "java/lang/Exception"]).filter goodWord ++ (vx_atS RX1 218 "java/util/NoSuchElementException" ["java/lang/RuntimeException", "java/lang/Exception"]).filter goodWord)
def wsL_observer : List Cond := .codeWith yL_observer cL_observer 7 (some .int) [(0, 18, 21, 13)] :: ([.classLink RL 13 "java/lang/IllegalArgumentException", .methodLink RL 37 yX1_observer, .instanceMethod yX1_observer, .selects RX1 yX1_observer yX1_observer, .initialized RX1, .code yX1_observer cX1_observer 6 (some .boolean), .classLink RX1 43 "java/lang/IllegalArgumentException", .initialized "java/lang/IllegalArgumentException", .constantDouble RX1 204 (13859405640767635456), .constantDouble RX1 206 (4636033603912859648), .constantDouble RX1 208 (13863909240395005952), .constantDouble RX1 210 (4640537203540230144), .fieldLink RX1 24 "SkyAlmanac" "latitude" "D", .fieldLink RX1 28 "SkyAlmanac" "eastward" "D", .methodLink RX1 145 yX1_isWithin, .static yX1_isWithin, .code yX1_isWithin cX1_isWithin 6 (some .boolean)] ++ wsX10 ++ (vx_atS RX1 47 "java/lang/IllegalArgumentException" ["java/lang/RuntimeException", "java/lang/Exception"]).filter goodWord)
def wsL_longitude_r1 : List Cond := [Cond.classLink RL 33 "java/util/NoSuchElementException", Cond.classLink RL 13 "java/lang/IllegalArgumentException", Cond.classLink RL 35 "java/lang/IllegalStateException", Cond.methodLink RL 41 yX1_longitude, Cond.instanceMethod yX1_longitude, Cond.selects RX1 yX1_longitude yX1_longitude, Cond.initialized RX1, Cond.code yX1_longitude cX1_longitude 5 (some .double), Cond.classLink RX1 43 "java/lang/IllegalArgumentException", Cond.initialized "java/lang/IllegalArgumentException", Cond.methodLink RX1 173 yX1_bodyThatIsSet, Cond.instanceMethod yX1_bodyThatIsSet, Cond.selects RX1 yX1_bodyThatIsSet yX1_bodyThatIsSet, Cond.code yX1_bodyThatIsSet cX1_bodyThatIsSet 2 (some (.object "SkyAlmanac$Body")), Cond.classLink RX1 214 "java/util/NoSuchElementException", Cond.initialized "java/util/NoSuchElementException", Cond.fieldLink RX1 11 "SkyAlmanac" "bodies" "[LSkyAlmanac$Body;", Cond.methodLink RX1 219 yX1_isTime, Cond.static yX1_isTime, Cond.code yX1_isTime cX1_isTime 2 (some .boolean), Cond.constantDouble RX1 361 (13920209183539462144), Cond.constantDouble RX1 363 (4696837146684686336), Cond.methodLink RX1 145 yX1_isWithin, Cond.static yX1_isWithin]
def wsL_longitude_r2 : List Cond := [Cond.code yX1_isWithin cX1_isWithin 6 (some .boolean), Cond.methodLink RX1 225 yX1_longitudeOf, Cond.instanceMethod yX1_longitudeOf, Cond.selects RX1 yX1_longitudeOf yX1_longitudeOf, Cond.code yX1_longitudeOf cX1_longitudeOf 14 (some .double), Cond.fieldLink RX1 31 "SkyAlmanac" "longitudesWorkedOut" "I", Cond.constantDouble RX1 249 (4602678819172646912), Cond.constantDouble RX1 251 (4611686018427387904), Cond.constantDouble RX1 253 (4652007308841189376), Cond.methodLink RX1 236 yX1_red, Cond.static yX1_red, Cond.code yX1_red cX1_red 4 (some .double), Cond.constantLong RX1 345 (360), Cond.constantDouble RX1 143 (4645040803167600640), Cond.methodLink RX1 239 yX1_anomalyOf, Cond.instanceMethod yX1_anomalyOf, Cond.selects RX1 yX1_anomalyOf yX1_anomalyOf, Cond.code yX1_anomalyOf cX1_anomalyOf 11 (some .double), Cond.classLink RX1 186 "java/lang/IllegalStateException", Cond.initialized "java/lang/IllegalStateException", Cond.constantDouble RX1 262 (13740701229962882445), Cond.constantDouble RX1 264 (4517329193108106637), Cond.fieldLink RX1 34 "SkyAlmanac" "longitudesFailed" "I", Cond.methodLink RX1 242 yX1_degreesInRadian]
def wsL_longitude_r3 : List Cond := [Cond.static yX1_degreesInRadian, Cond.code yX1_degreesInRadian cX1_degreesInRadian 0 (some .double), Cond.constantDouble RX1 365 (4633260481411531256), Cond.methodLink RX1 246 yX1_sine, Cond.static yX1_sine, Cond.code yX1_sine cX1_sine 2 (some .double), Cond.methodLink RX1 367 yX1_waveAt, Cond.static yX1_waveAt, Cond.code yX1_waveAt cX1_waveAt 15 (some .double), Cond.constantDouble RX1 206 (4636033603912859648), Cond.constantDouble RX1 371 (4580687790476533049), Cond.constantDouble RX1 373 (13818544856648471893), Cond.constantDouble RX1 375 (4575957461383581969), Cond.constantDouble RX1 377 (13774824197408792602), Cond.constantDouble RX1 379 (4523617214285662004), Cond.constantDouble RX1 381 (13826050856027422720), Cond.constantDouble RX1 383 (4586165620538955093), Cond.constantDouble RX1 385 (13787419979223755799), Cond.constantDouble RX1 387 (4537941361671905306), Cond.constantDouble RX1 389 (13732177094651715420), Cond.methodLink RX1 259 yX1_cosine, Cond.static yX1_cosine, Cond.code yX1_cosine cX1_cosine 2 (some .double), Cond.instanceMethod yX0_sumOfPower]
def wsL_longitude_r4 : List Cond := [Cond.initialized RX0, Cond.selects RX0 yX0_sumOfPower yX0_sumOfPower, Cond.code yX0_sumOfPower cX0_sumOfPower 7 (some .double), Cond.fieldLink RX0 25 "SkyAlmanac$Body" "terms" "I", Cond.fieldLink RX0 9 "SkyAlmanac$Body" "powers" "[I", Cond.fieldLink RX0 15 "SkyAlmanac$Body" "factors" "[D", Cond.fieldLink RX0 19 "SkyAlmanac$Body" "starts" "[D", Cond.fieldLink RX0 22 "SkyAlmanac$Body" "speeds" "[D"]
def wsL_longitude : List Cond := .codeWith yL_longitude cL_longitude 6 (some .int) [(0, 10, 13, 33), (0, 10, 17, 13), (0, 10, 21, 35)] :: ((wsL_longitude_r1 ++ (wsL_longitude_r2 ++ (wsL_longitude_r3 ++ wsL_longitude_r4))) ++ wsX10 ++ wsX00 ++ (vx_atS RX1 47 "java/lang/IllegalArgumentException" ["java/lang/RuntimeException", "java/lang/Exception"]).filter goodWord ++ (vx_atS RX1 218 "java/util/NoSuchElementException" ["java/lang/RuntimeException", "java/lang/Exception"]).filter goodWord ++ (vx_atS RX1 190 "java/lang/IllegalStateException" ["java/lang/RuntimeException", "java/lang/Exception"]).filter goodWord)
def wsL_height_r1 : List Cond := [Cond.classLink RL 33 "java/util/NoSuchElementException", Cond.classLink RL 13 "java/lang/IllegalArgumentException", Cond.classLink RL 35 "java/lang/IllegalStateException", Cond.methodLink RL 45 yX1_height, Cond.instanceMethod yX1_height, Cond.selects RX1 yX1_height yX1_height, Cond.initialized RX1, Cond.code yX1_height cX1_height 5 (some .double), Cond.classLink RX1 43 "java/lang/IllegalArgumentException", Cond.initialized "java/lang/IllegalArgumentException", Cond.methodLink RX1 173 yX1_bodyThatIsSet, Cond.instanceMethod yX1_bodyThatIsSet, Cond.selects RX1 yX1_bodyThatIsSet yX1_bodyThatIsSet, Cond.code yX1_bodyThatIsSet cX1_bodyThatIsSet 2 (some (.object "SkyAlmanac$Body")), Cond.classLink RX1 214 "java/util/NoSuchElementException", Cond.initialized "java/util/NoSuchElementException", Cond.fieldLink RX1 11 "SkyAlmanac" "bodies" "[LSkyAlmanac$Body;", Cond.methodLink RX1 219 yX1_isTime, Cond.static yX1_isTime, Cond.code yX1_isTime cX1_isTime 2 (some .boolean), Cond.constantDouble RX1 361 (13920209183539462144), Cond.constantDouble RX1 363 (4696837146684686336), Cond.methodLink RX1 145 yX1_isWithin, Cond.static yX1_isWithin]
def wsL_height_r2 : List Cond := [Cond.code yX1_isWithin cX1_isWithin 6 (some .boolean), Cond.methodLink RX1 229 yX1_heightOf, Cond.instanceMethod yX1_heightOf, Cond.selects RX1 yX1_heightOf yX1_heightOf, Cond.code yX1_heightOf cX1_heightOf 14 (some .double), Cond.constantDouble RX1 268 (4606439163290984179), Cond.constantDouble RX1 270 (4600837336122831769), Cond.fieldLink RX1 28 "SkyAlmanac" "eastward" "D", Cond.fieldLink RX1 24 "SkyAlmanac" "latitude" "D", Cond.methodLink RX1 225 yX1_longitudeOf, Cond.instanceMethod yX1_longitudeOf, Cond.selects RX1 yX1_longitudeOf yX1_longitudeOf, Cond.code yX1_longitudeOf cX1_longitudeOf 14 (some .double), Cond.fieldLink RX1 31 "SkyAlmanac" "longitudesWorkedOut" "I", Cond.constantDouble RX1 249 (4602678819172646912), Cond.constantDouble RX1 251 (4611686018427387904), Cond.constantDouble RX1 253 (4652007308841189376), Cond.methodLink RX1 236 yX1_red, Cond.static yX1_red, Cond.code yX1_red cX1_red 4 (some .double), Cond.constantLong RX1 345 (360), Cond.constantDouble RX1 143 (4645040803167600640), Cond.methodLink RX1 239 yX1_anomalyOf, Cond.instanceMethod yX1_anomalyOf]
def wsL_height_r3 : List Cond := [Cond.selects RX1 yX1_anomalyOf yX1_anomalyOf, Cond.code yX1_anomalyOf cX1_anomalyOf 11 (some .double), Cond.classLink RX1 186 "java/lang/IllegalStateException", Cond.initialized "java/lang/IllegalStateException", Cond.constantDouble RX1 262 (13740701229962882445), Cond.constantDouble RX1 264 (4517329193108106637), Cond.fieldLink RX1 34 "SkyAlmanac" "longitudesFailed" "I", Cond.methodLink RX1 242 yX1_degreesInRadian, Cond.static yX1_degreesInRadian, Cond.code yX1_degreesInRadian cX1_degreesInRadian 0 (some .double), Cond.constantDouble RX1 365 (4633260481411531256), Cond.methodLink RX1 246 yX1_sine, Cond.static yX1_sine, Cond.code yX1_sine cX1_sine 2 (some .double), Cond.methodLink RX1 367 yX1_waveAt, Cond.static yX1_waveAt, Cond.code yX1_waveAt cX1_waveAt 15 (some .double), Cond.constantDouble RX1 206 (4636033603912859648), Cond.constantDouble RX1 371 (4580687790476533049), Cond.constantDouble RX1 373 (13818544856648471893), Cond.constantDouble RX1 375 (4575957461383581969), Cond.constantDouble RX1 377 (13774824197408792602), Cond.constantDouble RX1 379 (4523617214285662004), Cond.constantDouble RX1 381 (13826050856027422720)]
def wsL_height_r4 : List Cond := [Cond.constantDouble RX1 383 (4586165620538955093), Cond.constantDouble RX1 385 (13787419979223755799), Cond.constantDouble RX1 387 (4537941361671905306), Cond.constantDouble RX1 389 (13732177094651715420), Cond.methodLink RX1 259 yX1_cosine, Cond.static yX1_cosine, Cond.code yX1_cosine cX1_cosine 2 (some .double), Cond.instanceMethod yX0_sumOfPower, Cond.initialized RX0, Cond.selects RX0 yX0_sumOfPower yX0_sumOfPower, Cond.code yX0_sumOfPower cX0_sumOfPower 7 (some .double), Cond.fieldLink RX0 25 "SkyAlmanac$Body" "terms" "I", Cond.fieldLink RX0 9 "SkyAlmanac$Body" "powers" "[I", Cond.fieldLink RX0 15 "SkyAlmanac$Body" "factors" "[D", Cond.fieldLink RX0 19 "SkyAlmanac$Body" "starts" "[D", Cond.fieldLink RX0 22 "SkyAlmanac$Body" "speeds" "[D", Cond.methodLink RX1 232 yX1_siderealAngle, Cond.static yX1_siderealAngle, Cond.code yX1_siderealAngle cX1_siderealAngle 2 (some .double), Cond.constantDouble RX1 272 (4643641531568107876), Cond.constantDouble RX1 274 (4607053141768361126)]
def wsL_height : List Cond := .codeWith yL_height cL_height 6 (some .int) [(0, 10, 13, 33), (0, 10, 17, 13), (0, 10, 21, 35)] :: ((wsL_height_r1 ++ (wsL_height_r2 ++ (wsL_height_r3 ++ wsL_height_r4))) ++ wsX10 ++ wsX00 ++ (vx_atS RX1 47 "java/lang/IllegalArgumentException" ["java/lang/RuntimeException", "java/lang/Exception"]).filter goodWord ++ (vx_atS RX1 218 "java/util/NoSuchElementException" ["java/lang/RuntimeException", "java/lang/Exception"]).filter goodWord ++ (vx_atS RX1 190 "java/lang/IllegalStateException" ["java/lang/RuntimeException", "java/lang/Exception"]).filter goodWord)
def wsL_event_r1 : List Cond := [Cond.classLink RL 13 "java/lang/IllegalArgumentException", Cond.classLink RL 33 "java/util/NoSuchElementException", Cond.classLink RL 35 "java/lang/IllegalStateException", Cond.methodLink RL 48 yX1_event, Cond.instanceMethod yX1_event, Cond.selects RX1 yX1_event yX1_event, Cond.initialized RX1, Cond.code yX1_event cX1_event 7 (some .double), Cond.classLink RX1 43 "java/lang/IllegalArgumentException", Cond.initialized "java/lang/IllegalArgumentException", Cond.classLink RX1 214 "java/util/NoSuchElementException", Cond.initialized "java/util/NoSuchElementException", Cond.constantLong RX1 37 (2), Cond.constantLong RX1 278 (-999999), Cond.constantLong RX1 280 (999998), Cond.methodLink RX1 39 yX1_isWholeWithin, Cond.static yX1_isWholeWithin, Cond.code yX1_isWholeWithin cX1_isWholeWithin 6 (some .boolean), Cond.methodLink RX1 173 yX1_bodyThatIsSet, Cond.instanceMethod yX1_bodyThatIsSet, Cond.selects RX1 yX1_bodyThatIsSet yX1_bodyThatIsSet, Cond.code yX1_bodyThatIsSet cX1_bodyThatIsSet 2 (some (.object "SkyAlmanac$Body")), Cond.fieldLink RX1 11 "SkyAlmanac" "bodies" "[LSkyAlmanac$Body;", Cond.methodLink RX1 284 yX1_partOfGreatestHeight]
def wsL_event_r2 : List Cond := [Cond.instanceMethod yX1_partOfGreatestHeight, Cond.selects RX1 yX1_partOfGreatestHeight yX1_partOfGreatestHeight, Cond.code yX1_partOfGreatestHeight cX1_partOfGreatestHeight 9 (some .int), Cond.methodLink RX1 304 yX1_timeOfPart, Cond.static yX1_timeOfPart, Cond.code yX1_timeOfPart cX1_timeOfPart 2 (some .double), Cond.constantDouble RX1 302 (4625196817309499392), Cond.methodLink RX1 229 yX1_heightOf, Cond.instanceMethod yX1_heightOf, Cond.selects RX1 yX1_heightOf yX1_heightOf, Cond.code yX1_heightOf cX1_heightOf 14 (some .double), Cond.constantDouble RX1 268 (4606439163290984179), Cond.constantDouble RX1 270 (4600837336122831769), Cond.fieldLink RX1 28 "SkyAlmanac" "eastward" "D", Cond.fieldLink RX1 24 "SkyAlmanac" "latitude" "D", Cond.methodLink RX1 225 yX1_longitudeOf, Cond.instanceMethod yX1_longitudeOf, Cond.selects RX1 yX1_longitudeOf yX1_longitudeOf, Cond.code yX1_longitudeOf cX1_longitudeOf 14 (some .double), Cond.fieldLink RX1 31 "SkyAlmanac" "longitudesWorkedOut" "I", Cond.constantDouble RX1 249 (4602678819172646912), Cond.constantDouble RX1 251 (4611686018427387904), Cond.constantDouble RX1 253 (4652007308841189376), Cond.methodLink RX1 236 yX1_red]
def wsL_event_r3 : List Cond := [Cond.static yX1_red, Cond.code yX1_red cX1_red 4 (some .double), Cond.constantLong RX1 345 (360), Cond.constantDouble RX1 143 (4645040803167600640), Cond.methodLink RX1 239 yX1_anomalyOf, Cond.instanceMethod yX1_anomalyOf, Cond.selects RX1 yX1_anomalyOf yX1_anomalyOf, Cond.code yX1_anomalyOf cX1_anomalyOf 11 (some .double), Cond.classLink RX1 186 "java/lang/IllegalStateException", Cond.initialized "java/lang/IllegalStateException", Cond.constantDouble RX1 262 (13740701229962882445), Cond.constantDouble RX1 264 (4517329193108106637), Cond.fieldLink RX1 34 "SkyAlmanac" "longitudesFailed" "I", Cond.methodLink RX1 242 yX1_degreesInRadian, Cond.static yX1_degreesInRadian, Cond.code yX1_degreesInRadian cX1_degreesInRadian 0 (some .double), Cond.constantDouble RX1 365 (4633260481411531256), Cond.methodLink RX1 246 yX1_sine, Cond.static yX1_sine, Cond.code yX1_sine cX1_sine 2 (some .double), Cond.methodLink RX1 367 yX1_waveAt, Cond.static yX1_waveAt, Cond.code yX1_waveAt cX1_waveAt 15 (some .double), Cond.constantDouble RX1 206 (4636033603912859648)]
def wsL_event_r4 : List Cond := [Cond.constantDouble RX1 371 (4580687790476533049), Cond.constantDouble RX1 373 (13818544856648471893), Cond.constantDouble RX1 375 (4575957461383581969), Cond.constantDouble RX1 377 (13774824197408792602), Cond.constantDouble RX1 379 (4523617214285662004), Cond.constantDouble RX1 381 (13826050856027422720), Cond.constantDouble RX1 383 (4586165620538955093), Cond.constantDouble RX1 385 (13787419979223755799), Cond.constantDouble RX1 387 (4537941361671905306), Cond.constantDouble RX1 389 (13732177094651715420), Cond.methodLink RX1 259 yX1_cosine, Cond.static yX1_cosine, Cond.code yX1_cosine cX1_cosine 2 (some .double), Cond.instanceMethod yX0_sumOfPower, Cond.initialized RX0, Cond.selects RX0 yX0_sumOfPower yX0_sumOfPower, Cond.code yX0_sumOfPower cX0_sumOfPower 7 (some .double), Cond.fieldLink RX0 25 "SkyAlmanac$Body" "terms" "I", Cond.fieldLink RX0 9 "SkyAlmanac$Body" "powers" "[I", Cond.fieldLink RX0 15 "SkyAlmanac$Body" "factors" "[D", Cond.fieldLink RX0 19 "SkyAlmanac$Body" "starts" "[D", Cond.fieldLink RX0 22 "SkyAlmanac$Body" "speeds" "[D", Cond.methodLink RX1 232 yX1_siderealAngle, Cond.static yX1_siderealAngle]
def wsL_event_r5 : List Cond := [Cond.code yX1_siderealAngle cX1_siderealAngle 2 (some .double), Cond.constantDouble RX1 272 (4643641531568107876), Cond.constantDouble RX1 274 (4607053141768361126), Cond.methodLink RX1 288 yX1_narrowedToHighest, Cond.instanceMethod yX1_narrowedToHighest, Cond.selects RX1 yX1_narrowedToHighest yX1_narrowedToHighest, Cond.code yX1_narrowedToHighest cX1_narrowedToHighest 17 (some .double), Cond.constantDouble RX1 308 (4613937818241073152), Cond.methodLink RX1 292 yX1_partOfCrossing, Cond.instanceMethod yX1_partOfCrossing, Cond.selects RX1 yX1_partOfCrossing yX1_partOfCrossing, Cond.code yX1_partOfCrossing cX1_partOfCrossing 7 (some .int), Cond.methodLink RX1 298 yX1_narrowedToCrossing, Cond.instanceMethod yX1_narrowedToCrossing, Cond.selects RX1 yX1_narrowedToCrossing yX1_narrowedToCrossing, Cond.code yX1_narrowedToCrossing cX1_narrowedToCrossing 12 (some .double)]
def wsL_event : List Cond := .codeWith yL_event cL_event 6 (some .int) [(0, 11, 14, 13), (0, 11, 18, 33), (0, 11, 22, 35)] :: ((wsL_event_r1 ++ (wsL_event_r2 ++ (wsL_event_r3 ++ (wsL_event_r4 ++ wsL_event_r5)))) ++ wsX10 ++ wsX00 ++ (vx_atS RX1 47 "java/lang/IllegalArgumentException" ["java/lang/RuntimeException", "java/lang/Exception"]).filter goodWord ++ (vx_atS RX1 218 "java/util/NoSuchElementException" ["java/lang/RuntimeException", "java/lang/Exception"]).filter goodWord ++ (vx_atS RX1 190 "java/lang/IllegalStateException" ["java/lang/RuntimeException", "java/lang/Exception"]).filter goodWord)
def wsL_sidereal_r1 : List Cond := [Cond.classLink RL 13 "java/lang/IllegalArgumentException", Cond.methodLink RL 52 yX1_sidereal, Cond.instanceMethod yX1_sidereal, Cond.selects RX1 yX1_sidereal yX1_sidereal, Cond.initialized RX1, Cond.code yX1_sidereal cX1_sidereal 3 (some .double), Cond.classLink RX1 43 "java/lang/IllegalArgumentException", Cond.initialized "java/lang/IllegalArgumentException", Cond.methodLink RX1 219 yX1_isTime, Cond.static yX1_isTime, Cond.code yX1_isTime cX1_isTime 2 (some .boolean), Cond.constantDouble RX1 361 (13920209183539462144), Cond.constantDouble RX1 363 (4696837146684686336), Cond.methodLink RX1 145 yX1_isWithin, Cond.static yX1_isWithin, Cond.code yX1_isWithin cX1_isWithin 6 (some .boolean), Cond.methodLink RX1 232 yX1_siderealAngle, Cond.static yX1_siderealAngle, Cond.code yX1_siderealAngle cX1_siderealAngle 2 (some .double), Cond.constantDouble RX1 272 (4643641531568107876), Cond.constantDouble RX1 274 (4607053141768361126), Cond.constantDouble RX1 143 (4645040803167600640), Cond.methodLink RX1 236 yX1_red, Cond.static yX1_red]
def wsL_sidereal_r2 : List Cond := [Cond.code yX1_red cX1_red 4 (some .double), Cond.constantLong RX1 345 (360)]
def wsL_sidereal : List Cond := .codeWith yL_sidereal cL_sidereal 5 (some .int) [(0, 8, 11, 13)] :: ((wsL_sidereal_r1 ++ wsL_sidereal_r2) ++ (vx_atS RX1 47 "java/lang/IllegalArgumentException" ["java/lang/RuntimeException", "java/lang/Exception"]).filter goodWord)
def wsL_write_r1 : List Cond := [Cond.classLink RL 13 "java/lang/IllegalArgumentException", Cond.methodLink RL 56 yX1_write, Cond.instanceMethod yX1_write, Cond.selects RX1 yX1_write yX1_write, Cond.initialized RX1, Cond.code yX1_write cX1_write 12 (some .int), Cond.classLink RX1 43 "java/lang/IllegalArgumentException", Cond.initialized "java/lang/IllegalArgumentException", Cond.constantDouble RX1 310 (13904980397738950656), Cond.constantDouble RX1 312 (4681608360884174848), Cond.constantLong RX1 316 (4), Cond.constantDouble RX1 324 (4660134898793709568), Cond.constantDouble RX1 249 (4602678819172646912), Cond.fieldLink RX1 20 "SkyAlmanac" "writtenLength" "I", Cond.constantLong RX1 333 (3600), Cond.constantLong RX1 339 (60), Cond.methodLink RX1 145 yX1_isWithin, Cond.static yX1_isWithin, Cond.code yX1_isWithin cX1_isWithin 6 (some .boolean), Cond.methodLink RX1 39 yX1_isWholeWithin, Cond.static yX1_isWholeWithin, Cond.code yX1_isWholeWithin cX1_isWholeWithin 6 (some .boolean), Cond.methodLink RX1 320 yX1_tenToThe, Cond.static yX1_tenToThe]
def wsL_write_r2 : List Cond := [Cond.code yX1_tenToThe cX1_tenToThe 1 (some .long), Cond.fieldLink RX1 353 "SkyAlmanac" "TENS" "[J", Cond.methodLink RX1 326 yX1_wholeParts, Cond.static yX1_wholeParts, Cond.code yX1_wholeParts cX1_wholeParts 4 (some .long), Cond.methodLink RX1 329 yX1_put, Cond.instanceMethod yX1_put, Cond.selects RX1 yX1_put yX1_put, Cond.code yX1_put cX1_put 2 none, Cond.fieldLink RX1 16 "SkyAlmanac" "written" "[C", Cond.methodLink RX1 335 yX1_putNumber, Cond.instanceMethod yX1_putNumber, Cond.selects RX1 yX1_putNumber yX1_putNumber, Cond.code yX1_putNumber cX1_putNumber 5 none, Cond.constantLong RX1 357 (48), Cond.constantLong RX1 359 (10)]
def wsL_write : List Cond := .codeWith yL_write cL_write 6 (some .int) [(0, 11, 14, 13)] :: ((wsL_write_r1 ++ wsL_write_r2) ++ wsX10 ++ (vx_atS RX1 47 "java/lang/IllegalArgumentException" ["java/lang/RuntimeException", "java/lang/Exception"]).filter goodWord)
def wsL_letter : List Cond := .codeWith yL_letter cL_letter 4 (some .int) [(0, 9, 12, 27)] :: ([.classLink RL 27 "java/lang/IndexOutOfBoundsException", .methodLink RL 60 yX1_letter, .instanceMethod yX1_letter, .selects RX1 yX1_letter yX1_letter, .initialized RX1, .code yX1_letter cX1_letter 2 (some .int), .classLink RX1 136 "java/lang/IndexOutOfBoundsException", .initialized "java/lang/IndexOutOfBoundsException", .fieldLink RX1 20 "SkyAlmanac" "writtenLength" "I", .fieldLink RX1 16 "SkyAlmanac" "written" "[C"] ++ wsX10 ++ (vx_atS RX1 140 "java/lang/IndexOutOfBoundsException" ["java/lang/RuntimeException", "java/lang/Exception"]).filter goodWord)
def wsL_angle : List Cond := .codeWith yL_angle cL_angle 8 (some .int) [(0, 13, 16, 13)] :: ([.classLink RL 13 "java/lang/IllegalArgumentException", .methodLink RL 64 yX1_angle, .instanceMethod yX1_angle, .selects RX1 yX1_angle yX1_angle, .initialized RX1, .code yX1_angle cX1_angle 6 (some .double), .classLink RX1 43 "java/lang/IllegalArgumentException", .initialized "java/lang/IllegalArgumentException", .constantLong RX1 345 (360), .constantLong RX1 347 (59), .constantDouble RX1 349 (4633641066610819072), .constantDouble RX1 324 (4660134898793709568), .methodLink RX1 39 yX1_isWholeWithin, .static yX1_isWholeWithin, .code yX1_isWholeWithin cX1_isWholeWithin 6 (some .boolean)] ++ (vx_atS RX1 47 "java/lang/IllegalArgumentException" ["java/lang/RuntimeException", "java/lang/Exception"]).filter goodWord)
abbrev vwCl : List vw_C := [(RX0, TX0, 10), (RX1, TX1, 7), (RX2, TX2, 13)]
end
section
theorem dX0_init_0 : decode cX0_init 0 = .ok (.aload_n 0, 1) := by decide +kernel
theorem dX0_init_1 : decode cX0_init 1 = .ok (.invokespecial 3, 3) := by decide +kernel
theorem dX0_init_4 : decode cX0_init 4 = .ok (.aload_n 0, 1) := by decide +kernel
theorem dX0_init_5 : decode cX0_init 5 = .ok (.bipush 12, 2) := by decide +kernel
theorem dX0_init_7 : decode cX0_init 7 = .ok (.newarray .int, 2) := by decide +kernel
theorem dX0_init_9 : decode cX0_init 9 = .ok (.putfield 9, 3) := by decide +kernel
theorem dX0_init_12 : decode cX0_init 12 = .ok (.aload_n 0, 1) := by decide +kernel
theorem dX0_init_13 : decode cX0_init 13 = .ok (.bipush 12, 2) := by decide +kernel
theorem dX0_init_15 : decode cX0_init 15 = .ok (.newarray .double, 2) := by decide +kernel
theorem dX0_init_17 : decode cX0_init 17 = .ok (.putfield 15, 3) := by decide +kernel
theorem dX0_init_20 : decode cX0_init 20 = .ok (.aload_n 0, 1) := by decide +kernel
theorem dX0_init_21 : decode cX0_init 21 = .ok (.bipush 12, 2) := by decide +kernel
theorem dX0_init_23 : decode cX0_init 23 = .ok (.newarray .double, 2) := by decide +kernel
theorem dX0_init_25 : decode cX0_init 25 = .ok (.putfield 19, 3) := by decide +kernel
theorem dX0_init_28 : decode cX0_init 28 = .ok (.aload_n 0, 1) := by decide +kernel
theorem dX0_init_29 : decode cX0_init 29 = .ok (.bipush 12, 2) := by decide +kernel
theorem dX0_init_31 : decode cX0_init 31 = .ok (.newarray .double, 2) := by decide +kernel
theorem dX0_init_33 : decode cX0_init 33 = .ok (.putfield 22, 3) := by decide +kernel
theorem dX0_init_36 : decode cX0_init 36 = .ok (.return_, 1) := by decide +kernel
set_option maxRecDepth 20000 in
theorem ggX0_sumOfPower_X1_cosine : GoodIn wsX0_sumOfPower wsX1_cosine := goodIn_r _ [8, 9, 10, 7, 11, 12, 13, 14, 15, 16, 17, 18, 19, 20, 21, 22, 23, 24, 25, 26, 27, 28] (by decide +kernel) (by decide +kernel)
set_option maxRecDepth 20000 in
theorem gX0_sumOfPower_X1_cosine_n29 : GoodIn wsX0_sumOfPower (wsX1_cosine) := ggX0_sumOfPower_X1_cosine
theorem dX0_sumOfPower_0 : decode cX0_sumOfPower 0 = .ok (.dconst 0, 1) := by decide +kernel
theorem dX0_sumOfPower_1 : decode cX0_sumOfPower 1 = .ok (.dstore 4, 2) := by decide +kernel
theorem dX0_sumOfPower_3 : decode cX0_sumOfPower 3 = .ok (.iconst 0, 1) := by decide +kernel
theorem dX0_sumOfPower_4 : decode cX0_sumOfPower 4 = .ok (.istore 6, 2) := by decide +kernel
theorem dX0_sumOfPower_6 : decode cX0_sumOfPower 6 = .ok (.iload 6, 2) := by decide +kernel
theorem dX0_sumOfPower_8 : decode cX0_sumOfPower 8 = .ok (.aload_n 0, 1) := by decide +kernel
theorem dX0_sumOfPower_9 : decode cX0_sumOfPower 9 = .ok (.getfield 25, 3) := by decide +kernel
theorem dX0_sumOfPower_12 : decode cX0_sumOfPower 12 = .ok (.if_icmp .ge 60, 3) := by decide +kernel
theorem dX0_sumOfPower_15 : decode cX0_sumOfPower 15 = .ok (.iload 6, 2) := by decide +kernel
theorem dX0_sumOfPower_17 : decode cX0_sumOfPower 17 = .ok (.bipush 12, 2) := by decide +kernel
theorem dX0_sumOfPower_19 : decode cX0_sumOfPower 19 = .ok (.if_icmp .ge 53, 3) := by decide +kernel
theorem dX0_sumOfPower_22 : decode cX0_sumOfPower 22 = .ok (.aload_n 0, 1) := by decide +kernel
theorem dX0_sumOfPower_23 : decode cX0_sumOfPower 23 = .ok (.getfield 9, 3) := by decide +kernel
theorem dX0_sumOfPower_26 : decode cX0_sumOfPower 26 = .ok (.iload 6, 2) := by decide +kernel
theorem dX0_sumOfPower_28 : decode cX0_sumOfPower 28 = .ok (.iaload, 1) := by decide +kernel
theorem dX0_sumOfPower_29 : decode cX0_sumOfPower 29 = .ok (.iload_n 1, 1) := by decide +kernel
theorem dX0_sumOfPower_30 : decode cX0_sumOfPower 30 = .ok (.if_icmp .ne 36, 3) := by decide +kernel
theorem dX0_sumOfPower_33 : decode cX0_sumOfPower 33 = .ok (.dload 4, 2) := by decide +kernel
theorem dX0_sumOfPower_35 : decode cX0_sumOfPower 35 = .ok (.aload_n 0, 1) := by decide +kernel
theorem dX0_sumOfPower_36 : decode cX0_sumOfPower 36 = .ok (.getfield 15, 3) := by decide +kernel
theorem dX0_sumOfPower_39 : decode cX0_sumOfPower 39 = .ok (.iload 6, 2) := by decide +kernel
theorem dX0_sumOfPower_41 : decode cX0_sumOfPower 41 = .ok (.daload, 1) := by decide +kernel
theorem dX0_sumOfPower_42 : decode cX0_sumOfPower 42 = .ok (.aload_n 0, 1) := by decide +kernel
theorem dX0_sumOfPower_43 : decode cX0_sumOfPower 43 = .ok (.getfield 19, 3) := by decide +kernel
theorem dX0_sumOfPower_46 : decode cX0_sumOfPower 46 = .ok (.iload 6, 2) := by decide +kernel
theorem dX0_sumOfPower_48 : decode cX0_sumOfPower 48 = .ok (.daload, 1) := by decide +kernel
theorem dX0_sumOfPower_49 : decode cX0_sumOfPower 49 = .ok (.aload_n 0, 1) := by decide +kernel
theorem dX0_sumOfPower_50 : decode cX0_sumOfPower 50 = .ok (.getfield 22, 3) := by decide +kernel
theorem dX0_sumOfPower_53 : decode cX0_sumOfPower 53 = .ok (.iload 6, 2) := by decide +kernel
theorem dX0_sumOfPower_55 : decode cX0_sumOfPower 55 = .ok (.daload, 1) := by decide +kernel
theorem dX0_sumOfPower_56 : decode cX0_sumOfPower 56 = .ok (.dload_n 2, 1) := by decide +kernel
theorem dX0_sumOfPower_57 : decode cX0_sumOfPower 57 = .ok (.dmul, 1) := by decide +kernel
theorem dX0_sumOfPower_58 : decode cX0_sumOfPower 58 = .ok (.dadd, 1) := by decide +kernel
theorem dX0_sumOfPower_59 : decode cX0_sumOfPower 59 = .ok (.invokestatic 29, 3) := by decide +kernel
theorem dX0_sumOfPower_62 : decode cX0_sumOfPower 62 = .ok (.dmul, 1) := by decide +kernel
theorem dX0_sumOfPower_63 : decode cX0_sumOfPower 63 = .ok (.dadd, 1) := by decide +kernel
theorem dX0_sumOfPower_64 : decode cX0_sumOfPower 64 = .ok (.dstore 4, 2) := by decide +kernel
theorem dX0_sumOfPower_66 : decode cX0_sumOfPower 66 = .ok (.iinc 6 1, 3) := by decide +kernel
theorem dX0_sumOfPower_69 : decode cX0_sumOfPower 69 = .ok (.goto (-63), 3) := by decide +kernel
theorem dX0_sumOfPower_72 : decode cX0_sumOfPower 72 = .ok (.dload 4, 2) := by decide +kernel
theorem dX0_sumOfPower_74 : decode cX0_sumOfPower 74 = .ok (.dreturn, 1) := by decide +kernel
set_option maxRecDepth 20000 in
theorem ggX1_init_X0_init : GoodIn wsX1_init wsX0_init := goodIn_r _ [16, 17, 2, 3, 18, 19, 20, 21, 22, 23, 31, 32, 33, 34, 35, 36, 37, 38, 39, 40] (by decide +kernel) (by decide +kernel)
set_option maxRecDepth 20000 in
theorem gX1_init_X0_init_n15 : GoodIn wsX1_init (wsX0_init) := ggX1_init_X0_init
theorem dX1_init_0 : decode cX1_init 0 = .ok (.aload_n 0, 1) := by decide +kernel
theorem dX1_init_1 : decode cX1_init 1 = .ok (.invokespecial 1, 3) := by decide +kernel
theorem dX1_init_4 : decode cX1_init 4 = .ok (.aload_n 0, 1) := by decide +kernel
theorem dX1_init_5 : decode cX1_init 5 = .ok (.iconst 4, 1) := by decide +kernel
theorem dX1_init_6 : decode cX1_init 6 = .ok (.anewarray 9, 3) := by decide +kernel
theorem dX1_init_9 : decode cX1_init 9 = .ok (.putfield 11, 3) := by decide +kernel
theorem dX1_init_12 : decode cX1_init 12 = .ok (.iconst 0, 1) := by decide +kernel
theorem dX1_init_13 : decode cX1_init 13 = .ok (.istore_n 1, 1) := by decide +kernel
theorem dX1_init_14 : decode cX1_init 14 = .ok (.iload_n 1, 1) := by decide +kernel
theorem dX1_init_15 : decode cX1_init 15 = .ok (.iconst 4, 1) := by decide +kernel
theorem dX1_init_16 : decode cX1_init 16 = .ok (.if_icmp .ge 22, 3) := by decide +kernel
theorem dX1_init_19 : decode cX1_init 19 = .ok (.aload_n 0, 1) := by decide +kernel
theorem dX1_init_20 : decode cX1_init 20 = .ok (.getfield 11, 3) := by decide +kernel
theorem dX1_init_23 : decode cX1_init 23 = .ok (.iload_n 1, 1) := by decide +kernel
theorem dX1_init_24 : decode cX1_init 24 = .ok (.new 9, 3) := by decide +kernel
theorem dX1_init_27 : decode cX1_init 27 = .ok (.dup, 1) := by decide +kernel
theorem dX1_init_28 : decode cX1_init 28 = .ok (.invokespecial 15, 3) := by decide +kernel
theorem dX1_init_31 : decode cX1_init 31 = .ok (.aastore, 1) := by decide +kernel
theorem dX1_init_32 : decode cX1_init 32 = .ok (.iinc 1 1, 3) := by decide +kernel
theorem dX1_init_35 : decode cX1_init 35 = .ok (.goto (-21), 3) := by decide +kernel
theorem dX1_init_38 : decode cX1_init 38 = .ok (.aload_n 0, 1) := by decide +kernel
theorem dX1_init_39 : decode cX1_init 39 = .ok (.bipush 24, 2) := by decide +kernel
theorem dX1_init_41 : decode cX1_init 41 = .ok (.newarray .char, 2) := by decide +kernel
theorem dX1_init_43 : decode cX1_init 43 = .ok (.putfield 16, 3) := by decide +kernel
theorem dX1_init_46 : decode cX1_init 46 = .ok (.aload_n 0, 1) := by decide +kernel
theorem dX1_init_47 : decode cX1_init 47 = .ok (.iconst 0, 1) := by decide +kernel
theorem dX1_init_48 : decode cX1_init 48 = .ok (.putfield 20, 3) := by decide +kernel
theorem dX1_init_51 : decode cX1_init 51 = .ok (.aload_n 0, 1) := by decide +kernel
theorem dX1_init_52 : decode cX1_init 52 = .ok (.dconst 0, 1) := by decide +kernel
theorem dX1_init_53 : decode cX1_init 53 = .ok (.putfield 24, 3) := by decide +kernel
theorem dX1_init_56 : decode cX1_init 56 = .ok (.aload_n 0, 1) := by decide +kernel
theorem dX1_init_57 : decode cX1_init 57 = .ok (.dconst 0, 1) := by decide +kernel
theorem dX1_init_58 : decode cX1_init 58 = .ok (.putfield 28, 3) := by decide +kernel
theorem dX1_init_61 : decode cX1_init 61 = .ok (.aload_n 0, 1) := by decide +kernel
theorem dX1_init_62 : decode cX1_init 62 = .ok (.iconst 0, 1) := by decide +kernel
theorem dX1_init_63 : decode cX1_init 63 = .ok (.putfield 31, 3) := by decide +kernel
theorem dX1_init_66 : decode cX1_init 66 = .ok (.aload_n 0, 1) := by decide +kernel
theorem dX1_init_67 : decode cX1_init 67 = .ok (.iconst 0, 1) := by decide +kernel
theorem dX1_init_68 : decode cX1_init 68 = .ok (.putfield 34, 3) := by decide +kernel
theorem dX1_init_71 : decode cX1_init 71 = .ok (.return_, 1) := by decide +kernel
set_option maxRecDepth 20000 in
theorem ggX1_day_X1_isWholeWithin : GoodIn wsX1_day wsX1_isWholeWithin := goodIn_r _ [12] (by decide +kernel) (by decide +kernel)
set_option maxRecDepth 20000 in
theorem gX1_day_X1_isWholeWithin : GoodIn wsX1_day (va_wsS RX1 39 yX1_isWholeWithin wsX1_isWholeWithin) := goodIn_app (goodIn_of _ (by decide +kernel)) ggX1_day_X1_isWholeWithin
set_option maxRecDepth 20000 in
theorem ggX1_day_X1_monthLength : GoodIn wsX1_day wsX1_monthLength := goodIn_r _ [15, 16, 17, 18, 11, 19] (by decide +kernel) (by decide +kernel)
set_option maxRecDepth 20000 in
theorem gX1_day_X1_monthLength : GoodIn wsX1_day (va_wsS RX1 60 yX1_monthLength wsX1_monthLength) := goodIn_app (goodIn_of _ (by decide +kernel)) ggX1_day_X1_monthLength
set_option maxRecDepth 20000 in
theorem ggX1_day_X1_firstDayOfYear : GoodIn wsX1_day wsX1_firstDayOfYear := goodIn_r _ [22, 23, 24, 25, 26, 27, 28, 29] (by decide +kernel) (by decide +kernel)
set_option maxRecDepth 20000 in
theorem gX1_day_X1_firstDayOfYear : GoodIn wsX1_day (va_wsS RX1 66 yX1_firstDayOfYear wsX1_firstDayOfYear) := goodIn_app (goodIn_of _ (by decide +kernel)) ggX1_day_X1_firstDayOfYear
set_option maxRecDepth 20000 in
theorem ggX1_day_X1_daysBeforeMonth : GoodIn wsX1_day wsX1_daysBeforeMonth := goodIn_r _ [32, 16, 13, 14, 11, 15, 17, 18, 19] (by decide +kernel) (by decide +kernel)
set_option maxRecDepth 20000 in
theorem gX1_day_X1_daysBeforeMonth : GoodIn wsX1_day (va_wsS RX1 70 yX1_daysBeforeMonth wsX1_daysBeforeMonth) := goodIn_app (goodIn_of _ (by decide +kernel)) ggX1_day_X1_daysBeforeMonth
theorem dX1_day_0 : decode cX1_day 0 = .ok (.iload_n 1, 1) := by decide +kernel
theorem dX1_day_1 : decode cX1_day 1 = .ok (.i2l, 1) := by decide +kernel
theorem dX1_day_2 : decode cX1_day 2 = .ok (.lconst 0, 1) := by decide +kernel
theorem dX1_day_3 : decode cX1_day 3 = .ok (.ldc2_w 37, 3) := by decide +kernel
theorem dX1_day_6 : decode cX1_day 6 = .ok (.invokestatic 39, 3) := by decide +kernel
theorem dX1_day_9 : decode cX1_day 9 = .ok (.ifCond .ne 13, 3) := by decide +kernel
theorem dX1_day_12 : decode cX1_day 12 = .ok (.new 43, 3) := by decide +kernel
theorem dX1_day_15 : decode cX1_day 15 = .ok (.dup, 1) := by decide +kernel
theorem dX1_day_16 : decode cX1_day 16 = .ok (.ldc 45, 2) := by decide +kernel
theorem dX1_day_18 : decode cX1_day 18 = .ok (.invokespecial 47, 3) := by decide +kernel
theorem dX1_day_21 : decode cX1_day 21 = .ok (.athrow, 1) := by decide +kernel
theorem dX1_day_22 : decode cX1_day 22 = .ok (.iload_n 2, 1) := by decide +kernel
theorem dX1_day_23 : decode cX1_day 23 = .ok (.i2l, 1) := by decide +kernel
theorem dX1_day_24 : decode cX1_day 24 = .ok (.ldc2_w 50, 3) := by decide +kernel
theorem dX1_day_27 : decode cX1_day 27 = .ok (.ldc2_w 52, 3) := by decide +kernel
theorem dX1_day_30 : decode cX1_day 30 = .ok (.invokestatic 39, 3) := by decide +kernel
theorem dX1_day_33 : decode cX1_day 33 = .ok (.ifCond .ne 13, 3) := by decide +kernel
theorem dX1_day_36 : decode cX1_day 36 = .ok (.new 43, 3) := by decide +kernel
theorem dX1_day_39 : decode cX1_day 39 = .ok (.dup, 1) := by decide +kernel
theorem dX1_day_40 : decode cX1_day 40 = .ok (.ldc 54, 2) := by decide +kernel
theorem dX1_day_42 : decode cX1_day 42 = .ok (.invokespecial 47, 3) := by decide +kernel
theorem dX1_day_45 : decode cX1_day 45 = .ok (.athrow, 1) := by decide +kernel
theorem dX1_day_46 : decode cX1_day 46 = .ok (.iload_n 1, 1) := by decide +kernel
theorem dX1_day_47 : decode cX1_day 47 = .ok (.istore 5, 2) := by decide +kernel
theorem dX1_day_49 : decode cX1_day 49 = .ok (.iload_n 1, 1) := by decide +kernel
theorem dX1_day_50 : decode cX1_day 50 = .ok (.iconst 2, 1) := by decide +kernel
theorem dX1_day_51 : decode cX1_day 51 = .ok (.if_icmp .ne 38, 3) := by decide +kernel
theorem dX1_day_54 : decode cX1_day 54 = .ok (.iload_n 2, 1) := by decide +kernel
theorem dX1_day_55 : decode cX1_day 55 = .ok (.i2l, 1) := by decide +kernel
theorem dX1_day_56 : decode cX1_day 56 = .ok (.ldc2_w 56, 3) := by decide +kernel
theorem dX1_day_59 : decode cX1_day 59 = .ok (.lmul, 1) := by decide +kernel
theorem dX1_day_60 : decode cX1_day 60 = .ok (.iload_n 3, 1) := by decide +kernel
theorem dX1_day_61 : decode cX1_day 61 = .ok (.i2l, 1) := by decide +kernel
theorem dX1_day_62 : decode cX1_day 62 = .ok (.ladd, 1) := by decide +kernel
theorem dX1_day_63 : decode cX1_day 63 = .ok (.ldc2_w 56, 3) := by decide +kernel
theorem dX1_day_66 : decode cX1_day 66 = .ok (.lmul, 1) := by decide +kernel
theorem dX1_day_67 : decode cX1_day 67 = .ok (.iload 4, 2) := by decide +kernel
theorem dX1_day_69 : decode cX1_day 69 = .ok (.i2l, 1) := by decide +kernel
theorem dX1_day_70 : decode cX1_day 70 = .ok (.ladd, 1) := by decide +kernel
theorem dX1_day_71 : decode cX1_day 71 = .ok (.lstore 6, 2) := by decide +kernel
theorem dX1_day_73 : decode cX1_day 73 = .ok (.lload 6, 2) := by decide +kernel
theorem dX1_day_75 : decode cX1_day 75 = .ok (.ldc2_w 58, 3) := by decide +kernel
theorem dX1_day_78 : decode cX1_day 78 = .ok (.lcmp, 1) := by decide +kernel
theorem dX1_day_79 : decode cX1_day 79 = .ok (.ifCond .gt 7, 3) := by decide +kernel
theorem dX1_day_82 : decode cX1_day 82 = .ok (.iconst 0, 1) := by decide +kernel
theorem dX1_day_83 : decode cX1_day 83 = .ok (.goto 4, 3) := by decide +kernel
theorem dX1_day_86 : decode cX1_day 86 = .ok (.iconst 1, 1) := by decide +kernel
theorem dX1_day_87 : decode cX1_day 87 = .ok (.istore 5, 2) := by decide +kernel
theorem dX1_day_89 : decode cX1_day 89 = .ok (.iload 4, 2) := by decide +kernel
theorem dX1_day_91 : decode cX1_day 91 = .ok (.i2l, 1) := by decide +kernel
theorem dX1_day_92 : decode cX1_day 92 = .ok (.lconst 1, 1) := by decide +kernel
theorem dX1_day_93 : decode cX1_day 93 = .ok (.iload 5, 2) := by decide +kernel
theorem dX1_day_95 : decode cX1_day 95 = .ok (.iload_n 2, 1) := by decide +kernel
theorem dX1_day_96 : decode cX1_day 96 = .ok (.iload_n 3, 1) := by decide +kernel
theorem dX1_day_97 : decode cX1_day 97 = .ok (.invokestatic 60, 3) := by decide +kernel
theorem dX1_day_100 : decode cX1_day 100 = .ok (.i2l, 1) := by decide +kernel
theorem dX1_day_101 : decode cX1_day 101 = .ok (.invokestatic 39, 3) := by decide +kernel
theorem dX1_day_104 : decode cX1_day 104 = .ok (.ifCond .ne 13, 3) := by decide +kernel
theorem dX1_day_107 : decode cX1_day 107 = .ok (.new 43, 3) := by decide +kernel
theorem dX1_day_110 : decode cX1_day 110 = .ok (.dup, 1) := by decide +kernel
theorem dX1_day_111 : decode cX1_day 111 = .ok (.ldc 64, 2) := by decide +kernel
theorem dX1_day_113 : decode cX1_day 113 = .ok (.invokespecial 47, 3) := by decide +kernel
theorem dX1_day_116 : decode cX1_day 116 = .ok (.athrow, 1) := by decide +kernel
theorem dX1_day_117 : decode cX1_day 117 = .ok (.iload 5, 2) := by decide +kernel
theorem dX1_day_119 : decode cX1_day 119 = .ok (.iload_n 2, 1) := by decide +kernel
theorem dX1_day_120 : decode cX1_day 120 = .ok (.invokestatic 66, 3) := by decide +kernel
theorem dX1_day_123 : decode cX1_day 123 = .ok (.iload 5, 2) := by decide +kernel
theorem dX1_day_125 : decode cX1_day 125 = .ok (.iload_n 2, 1) := by decide +kernel
theorem dX1_day_126 : decode cX1_day 126 = .ok (.iload_n 3, 1) := by decide +kernel
theorem dX1_day_127 : decode cX1_day 127 = .ok (.invokestatic 70, 3) := by decide +kernel
theorem dX1_day_130 : decode cX1_day 130 = .ok (.i2l, 1) := by decide +kernel
theorem dX1_day_131 : decode cX1_day 131 = .ok (.ladd, 1) := by decide +kernel
theorem dX1_day_132 : decode cX1_day 132 = .ok (.iload 4, 2) := by decide +kernel
theorem dX1_day_134 : decode cX1_day 134 = .ok (.i2l, 1) := by decide +kernel
theorem dX1_day_135 : decode cX1_day 135 = .ok (.ladd, 1) := by decide +kernel
theorem dX1_day_136 : decode cX1_day 136 = .ok (.lconst 1, 1) := by decide +kernel
theorem dX1_day_137 : decode cX1_day 137 = .ok (.lsub, 1) := by decide +kernel
theorem dX1_day_138 : decode cX1_day 138 = .ok (.lstore 6, 2) := by decide +kernel
theorem dX1_day_140 : decode cX1_day 140 = .ok (.iload_n 1, 1) := by decide +kernel
theorem dX1_day_141 : decode cX1_day 141 = .ok (.iconst 2, 1) := by decide +kernel
theorem dX1_day_142 : decode cX1_day 142 = .ok (.if_icmp .ne 28, 3) := by decide +kernel
theorem dX1_day_145 : decode cX1_day 145 = .ok (.iload 5, 2) := by decide +kernel
theorem dX1_day_147 : decode cX1_day 147 = .ok (.iconst 1, 1) := by decide +kernel
theorem dX1_day_148 : decode cX1_day 148 = .ok (.if_icmp .ne 22, 3) := by decide +kernel
theorem dX1_day_151 : decode cX1_day 151 = .ok (.lload 6, 2) := by decide +kernel
theorem dX1_day_153 : decode cX1_day 153 = .ok (.ldc2_w 73, 3) := by decide +kernel
theorem dX1_day_156 : decode cX1_day 156 = .ok (.lcmp, 1) := by decide +kernel
theorem dX1_day_157 : decode cX1_day 157 = .ok (.ifCond .gt 13, 3) := by decide +kernel
theorem dX1_day_160 : decode cX1_day 160 = .ok (.new 43, 3) := by decide +kernel
theorem dX1_day_163 : decode cX1_day 163 = .ok (.dup, 1) := by decide +kernel
theorem dX1_day_164 : decode cX1_day 164 = .ok (.ldc 75, 2) := by decide +kernel
theorem dX1_day_166 : decode cX1_day 166 = .ok (.invokespecial 47, 3) := by decide +kernel
theorem dX1_day_169 : decode cX1_day 169 = .ok (.athrow, 1) := by decide +kernel
theorem dX1_day_170 : decode cX1_day 170 = .ok (.lload 6, 2) := by decide +kernel
theorem dX1_day_172 : decode cX1_day 172 = .ok (.lreturn, 1) := by decide +kernel
set_option maxRecDepth 20000 in
theorem ggX1_date_X1_isWholeWithin : GoodIn wsX1_date wsX1_isWholeWithin := goodIn_r _ [13] (by decide +kernel) (by decide +kernel)
set_option maxRecDepth 20000 in
theorem gX1_date_X1_isWholeWithin : GoodIn wsX1_date (va_wsS RX1 39 yX1_isWholeWithin wsX1_isWholeWithin) := goodIn_app (goodIn_of _ (by decide +kernel)) ggX1_date_X1_isWholeWithin
set_option maxRecDepth 20000 in
theorem ggX1_date_X1_yearOfDay : GoodIn wsX1_date wsX1_yearOfDay := goodIn_r _ [16, 17, 18, 19, 20, 21, 12, 22, 23, 24, 25, 26, 27, 28, 29, 30, 31, 32] (by decide +kernel) (by decide +kernel)
set_option maxRecDepth 20000 in
theorem gX1_date_X1_yearOfDay : GoodIn wsX1_date (va_wsS RX1 87 yX1_yearOfDay wsX1_yearOfDay) := goodIn_app (goodIn_of _ (by decide +kernel)) ggX1_date_X1_yearOfDay
set_option maxRecDepth 20000 in
theorem ggX1_date_X1_firstDayOfYear : GoodIn wsX1_date wsX1_firstDayOfYear := goodIn_r _ [22, 23, 24, 25, 26, 27, 28, 29] (by decide +kernel) (by decide +kernel)
set_option maxRecDepth 20000 in
theorem gX1_date_X1_firstDayOfYear : GoodIn wsX1_date (va_wsS RX1 66 yX1_firstDayOfYear wsX1_firstDayOfYear) := goodIn_app (goodIn_of _ (by decide +kernel)) ggX1_date_X1_firstDayOfYear
set_option maxRecDepth 20000 in
theorem ggX1_date_X1_monthOfDayWithinYear : GoodIn wsX1_date wsX1_monthOfDayWithinYear := goodIn_r _ [35, 36, 37, 38, 12, 39, 40, 41, 42, 43, 44, 45] (by decide +kernel) (by decide +kernel)
set_option maxRecDepth 20000 in
theorem gX1_date_X1_monthOfDayWithinYear : GoodIn wsX1_date (va_wsS RX1 93 yX1_monthOfDayWithinYear wsX1_monthOfDayWithinYear) := goodIn_app (goodIn_of _ (by decide +kernel)) ggX1_date_X1_monthOfDayWithinYear
set_option maxRecDepth 20000 in
theorem ggX1_date_X1_daysBeforeMonth : GoodIn wsX1_date wsX1_daysBeforeMonth := goodIn_r _ [39, 36, 40, 41, 12, 42, 43, 44, 45] (by decide +kernel) (by decide +kernel)
set_option maxRecDepth 20000 in
theorem gX1_date_X1_daysBeforeMonth : GoodIn wsX1_date (va_wsS RX1 70 yX1_daysBeforeMonth wsX1_daysBeforeMonth) := goodIn_app (goodIn_of _ (by decide +kernel)) ggX1_date_X1_daysBeforeMonth
theorem dX1_date_0 : decode cX1_date 0 = .ok (.iload_n 1, 1) := by decide +kernel
theorem dX1_date_1 : decode cX1_date 1 = .ok (.i2l, 1) := by decide +kernel
theorem dX1_date_2 : decode cX1_date 2 = .ok (.lconst 0, 1) := by decide +kernel
theorem dX1_date_3 : decode cX1_date 3 = .ok (.ldc2_w 37, 3) := by decide +kernel
theorem dX1_date_6 : decode cX1_date 6 = .ok (.invokestatic 39, 3) := by decide +kernel
theorem dX1_date_9 : decode cX1_date 9 = .ok (.ifCond .ne 13, 3) := by decide +kernel
theorem dX1_date_12 : decode cX1_date 12 = .ok (.new 43, 3) := by decide +kernel
theorem dX1_date_15 : decode cX1_date 15 = .ok (.dup, 1) := by decide +kernel
theorem dX1_date_16 : decode cX1_date 16 = .ok (.ldc 45, 2) := by decide +kernel
theorem dX1_date_18 : decode cX1_date 18 = .ok (.invokespecial 47, 3) := by decide +kernel
theorem dX1_date_21 : decode cX1_date 21 = .ok (.athrow, 1) := by decide +kernel
theorem dX1_date_22 : decode cX1_date 22 = .ok (.lload_n 2, 1) := by decide +kernel
theorem dX1_date_23 : decode cX1_date 23 = .ok (.ldc2_w 77, 3) := by decide +kernel
theorem dX1_date_26 : decode cX1_date 26 = .ok (.ldc2_w 79, 3) := by decide +kernel
theorem dX1_date_29 : decode cX1_date 29 = .ok (.invokestatic 39, 3) := by decide +kernel
theorem dX1_date_32 : decode cX1_date 32 = .ok (.ifCond .ne 13, 3) := by decide +kernel
theorem dX1_date_35 : decode cX1_date 35 = .ok (.new 43, 3) := by decide +kernel
theorem dX1_date_38 : decode cX1_date 38 = .ok (.dup, 1) := by decide +kernel
theorem dX1_date_39 : decode cX1_date 39 = .ok (.ldc 81, 2) := by decide +kernel
theorem dX1_date_41 : decode cX1_date 41 = .ok (.invokespecial 47, 3) := by decide +kernel
theorem dX1_date_44 : decode cX1_date 44 = .ok (.athrow, 1) := by decide +kernel
theorem dX1_date_45 : decode cX1_date 45 = .ok (.iload 4, 2) := by decide +kernel
theorem dX1_date_47 : decode cX1_date 47 = .ok (.i2l, 1) := by decide +kernel
theorem dX1_date_48 : decode cX1_date 48 = .ok (.lconst 0, 1) := by decide +kernel
theorem dX1_date_49 : decode cX1_date 49 = .ok (.ldc2_w 83, 3) := by decide +kernel
theorem dX1_date_52 : decode cX1_date 52 = .ok (.invokestatic 39, 3) := by decide +kernel
theorem dX1_date_55 : decode cX1_date 55 = .ok (.ifCond .ne 13, 3) := by decide +kernel
theorem dX1_date_58 : decode cX1_date 58 = .ok (.new 43, 3) := by decide +kernel
theorem dX1_date_61 : decode cX1_date 61 = .ok (.dup, 1) := by decide +kernel
theorem dX1_date_62 : decode cX1_date 62 = .ok (.ldc 85, 2) := by decide +kernel
theorem dX1_date_64 : decode cX1_date 64 = .ok (.invokespecial 47, 3) := by decide +kernel
theorem dX1_date_67 : decode cX1_date 67 = .ok (.athrow, 1) := by decide +kernel
theorem dX1_date_68 : decode cX1_date 68 = .ok (.iload_n 1, 1) := by decide +kernel
theorem dX1_date_69 : decode cX1_date 69 = .ok (.istore 5, 2) := by decide +kernel
theorem dX1_date_71 : decode cX1_date 71 = .ok (.iload_n 1, 1) := by decide +kernel
theorem dX1_date_72 : decode cX1_date 72 = .ok (.iconst 2, 1) := by decide +kernel
theorem dX1_date_73 : decode cX1_date 73 = .ok (.if_icmp .ne 18, 3) := by decide +kernel
theorem dX1_date_76 : decode cX1_date 76 = .ok (.lload_n 2, 1) := by decide +kernel
theorem dX1_date_77 : decode cX1_date 77 = .ok (.ldc2_w 73, 3) := by decide +kernel
theorem dX1_date_80 : decode cX1_date 80 = .ok (.lcmp, 1) := by decide +kernel
theorem dX1_date_81 : decode cX1_date 81 = .ok (.ifCond .gt 7, 3) := by decide +kernel
theorem dX1_date_84 : decode cX1_date 84 = .ok (.iconst 0, 1) := by decide +kernel
theorem dX1_date_85 : decode cX1_date 85 = .ok (.goto 4, 3) := by decide +kernel
theorem dX1_date_88 : decode cX1_date 88 = .ok (.iconst 1, 1) := by decide +kernel
theorem dX1_date_89 : decode cX1_date 89 = .ok (.istore 5, 2) := by decide +kernel
theorem dX1_date_91 : decode cX1_date 91 = .ok (.iload 5, 2) := by decide +kernel
theorem dX1_date_93 : decode cX1_date 93 = .ok (.lload_n 2, 1) := by decide +kernel
theorem dX1_date_94 : decode cX1_date 94 = .ok (.invokestatic 87, 3) := by decide +kernel
theorem dX1_date_97 : decode cX1_date 97 = .ok (.istore 6, 2) := by decide +kernel
theorem dX1_date_99 : decode cX1_date 99 = .ok (.iload 6, 2) := by decide +kernel
theorem dX1_date_101 : decode cX1_date 101 = .ok (.i2l, 1) := by decide +kernel
theorem dX1_date_102 : decode cX1_date 102 = .ok (.ldc2_w 50, 3) := by decide +kernel
theorem dX1_date_105 : decode cX1_date 105 = .ok (.ldc2_w 52, 3) := by decide +kernel
theorem dX1_date_108 : decode cX1_date 108 = .ok (.invokestatic 39, 3) := by decide +kernel
theorem dX1_date_111 : decode cX1_date 111 = .ok (.ifCond .ne 13, 3) := by decide +kernel
theorem dX1_date_114 : decode cX1_date 114 = .ok (.new 43, 3) := by decide +kernel
theorem dX1_date_117 : decode cX1_date 117 = .ok (.dup, 1) := by decide +kernel
theorem dX1_date_118 : decode cX1_date 118 = .ok (.ldc 91, 2) := by decide +kernel
theorem dX1_date_120 : decode cX1_date 120 = .ok (.invokespecial 47, 3) := by decide +kernel
theorem dX1_date_123 : decode cX1_date 123 = .ok (.athrow, 1) := by decide +kernel
theorem dX1_date_124 : decode cX1_date 124 = .ok (.iload 4, 2) := by decide +kernel
theorem dX1_date_126 : decode cX1_date 126 = .ok (.ifCond .ne 6, 3) := by decide +kernel
theorem dX1_date_129 : decode cX1_date 129 = .ok (.iload 6, 2) := by decide +kernel
theorem dX1_date_131 : decode cX1_date 131 = .ok (.ireturn, 1) := by decide +kernel
theorem dX1_date_132 : decode cX1_date 132 = .ok (.lload_n 2, 1) := by decide +kernel
theorem dX1_date_133 : decode cX1_date 133 = .ok (.iload 5, 2) := by decide +kernel
theorem dX1_date_135 : decode cX1_date 135 = .ok (.iload 6, 2) := by decide +kernel
theorem dX1_date_137 : decode cX1_date 137 = .ok (.invokestatic 66, 3) := by decide +kernel
theorem dX1_date_140 : decode cX1_date 140 = .ok (.lsub, 1) := by decide +kernel
theorem dX1_date_141 : decode cX1_date 141 = .ok (.l2i, 1) := by decide +kernel
theorem dX1_date_142 : decode cX1_date 142 = .ok (.iconst 1, 1) := by decide +kernel
theorem dX1_date_143 : decode cX1_date 143 = .ok (.iadd, 1) := by decide +kernel
theorem dX1_date_144 : decode cX1_date 144 = .ok (.istore 7, 2) := by decide +kernel
theorem dX1_date_146 : decode cX1_date 146 = .ok (.iload 4, 2) := by decide +kernel
theorem dX1_date_148 : decode cX1_date 148 = .ok (.iconst 3, 1) := by decide +kernel
theorem dX1_date_149 : decode cX1_date 149 = .ok (.if_icmp .ne 45, 3) := by decide +kernel
theorem dX1_date_152 : decode cX1_date 152 = .ok (.iload_n 1, 1) := by decide +kernel
theorem dX1_date_153 : decode cX1_date 153 = .ok (.iconst 2, 1) := by decide +kernel
theorem dX1_date_154 : decode cX1_date 154 = .ok (.if_icmp .ne 21, 3) := by decide +kernel
theorem dX1_date_157 : decode cX1_date 157 = .ok (.iload 5, 2) := by decide +kernel
theorem dX1_date_159 : decode cX1_date 159 = .ok (.iconst 1, 1) := by decide +kernel
theorem dX1_date_160 : decode cX1_date 160 = .ok (.if_icmp .ne 15, 3) := by decide +kernel
theorem dX1_date_163 : decode cX1_date 163 = .ok (.iload 6, 2) := by decide +kernel
theorem dX1_date_165 : decode cX1_date 165 = .ok (.sipush 1582, 3) := by decide +kernel
theorem dX1_date_168 : decode cX1_date 168 = .ok (.if_icmp .ne 7, 3) := by decide +kernel
theorem dX1_date_171 : decode cX1_date 171 = .ok (.iconst 1, 1) := by decide +kernel
theorem dX1_date_172 : decode cX1_date 172 = .ok (.goto 4, 3) := by decide +kernel
theorem dX1_date_175 : decode cX1_date 175 = .ok (.iconst 0, 1) := by decide +kernel
theorem dX1_date_176 : decode cX1_date 176 = .ok (.istore 8, 2) := by decide +kernel
theorem dX1_date_178 : decode cX1_date 178 = .ok (.iload 8, 2) := by decide +kernel
theorem dX1_date_180 : decode cX1_date 180 = .ok (.ifCond .eq 11, 3) := by decide +kernel
theorem dX1_date_183 : decode cX1_date 183 = .ok (.iload 7, 2) := by decide +kernel
theorem dX1_date_185 : decode cX1_date 185 = .ok (.bipush 10, 2) := by decide +kernel
theorem dX1_date_187 : decode cX1_date 187 = .ok (.isub, 1) := by decide +kernel
theorem dX1_date_188 : decode cX1_date 188 = .ok (.goto 5, 3) := by decide +kernel
theorem dX1_date_191 : decode cX1_date 191 = .ok (.iload 7, 2) := by decide +kernel
theorem dX1_date_193 : decode cX1_date 193 = .ok (.ireturn, 1) := by decide +kernel
theorem dX1_date_194 : decode cX1_date 194 = .ok (.iload 5, 2) := by decide +kernel
theorem dX1_date_196 : decode cX1_date 196 = .ok (.iload 6, 2) := by decide +kernel
theorem dX1_date_198 : decode cX1_date 198 = .ok (.iload 7, 2) := by decide +kernel
theorem dX1_date_200 : decode cX1_date 200 = .ok (.invokestatic 93, 3) := by decide +kernel
theorem dX1_date_203 : decode cX1_date 203 = .ok (.istore 8, 2) := by decide +kernel
theorem dX1_date_205 : decode cX1_date 205 = .ok (.iload 4, 2) := by decide +kernel
theorem dX1_date_207 : decode cX1_date 207 = .ok (.iconst 1, 1) := by decide +kernel
theorem dX1_date_208 : decode cX1_date 208 = .ok (.if_icmp .ne 8, 3) := by decide +kernel
theorem dX1_date_211 : decode cX1_date 211 = .ok (.iload 8, 2) := by decide +kernel
theorem dX1_date_213 : decode cX1_date 213 = .ok (.goto 15, 3) := by decide +kernel
theorem dX1_date_216 : decode cX1_date 216 = .ok (.iload 7, 2) := by decide +kernel
theorem dX1_date_218 : decode cX1_date 218 = .ok (.iload 5, 2) := by decide +kernel
theorem dX1_date_220 : decode cX1_date 220 = .ok (.iload 6, 2) := by decide +kernel
theorem dX1_date_222 : decode cX1_date 222 = .ok (.iload 8, 2) := by decide +kernel
theorem dX1_date_224 : decode cX1_date 224 = .ok (.invokestatic 70, 3) := by decide +kernel
theorem dX1_date_227 : decode cX1_date 227 = .ok (.isub, 1) := by decide +kernel
theorem dX1_date_228 : decode cX1_date 228 = .ok (.ireturn, 1) := by decide +kernel
set_option maxRecDepth 20000 in
theorem ggX1_easter_X1_isWholeWithin : GoodIn wsX1_easter wsX1_isWholeWithin := goodIn_r _ [9] (by decide +kernel) (by decide +kernel)
set_option maxRecDepth 20000 in
theorem gX1_easter_X1_isWholeWithin : GoodIn wsX1_easter (va_wsS RX1 39 yX1_isWholeWithin wsX1_isWholeWithin) := goodIn_app (goodIn_of _ (by decide +kernel)) ggX1_easter_X1_isWholeWithin
set_option maxRecDepth 20000 in
theorem ggX1_easter_J9_floorMod_7cf53 : GoodIn wsX1_easter wsJ9_floorMod_7cf53 := goodIn_r _ [13] (by decide +kernel) (by decide +kernel)
set_option maxRecDepth 20000 in
theorem gX1_easter_J9_floorMod_7cf53 : GoodIn wsX1_easter (va_wsS RX1 102 yJ9_floorMod_7cf53 wsJ9_floorMod_7cf53) := goodIn_app (goodIn_of _ (by decide +kernel)) ggX1_easter_J9_floorMod_7cf53
set_option maxRecDepth 20000 in
theorem ggX1_easter_X1_firstDayOfYear : GoodIn wsX1_easter wsX1_firstDayOfYear := goodIn_r _ [16, 17, 18, 19, 20, 21, 12, 22] (by decide +kernel) (by decide +kernel)
set_option maxRecDepth 20000 in
theorem gX1_easter_X1_firstDayOfYear : GoodIn wsX1_easter (va_wsS RX1 66 yX1_firstDayOfYear wsX1_firstDayOfYear) := goodIn_app (goodIn_of _ (by decide +kernel)) ggX1_easter_X1_firstDayOfYear
set_option maxRecDepth 20000 in
theorem ggX1_easter_X1_daysBeforeMonth : GoodIn wsX1_easter wsX1_daysBeforeMonth := goodIn_r _ [25, 26, 27, 28, 8, 29, 30, 31, 32] (by decide +kernel) (by decide +kernel)
set_option maxRecDepth 20000 in
theorem gX1_easter_X1_daysBeforeMonth : GoodIn wsX1_easter (va_wsS RX1 70 yX1_daysBeforeMonth wsX1_daysBeforeMonth) := goodIn_app (goodIn_of _ (by decide +kernel)) ggX1_easter_X1_daysBeforeMonth
theorem dX1_easter_0 : decode cX1_easter 0 = .ok (.iload_n 1, 1) := by decide +kernel
theorem dX1_easter_1 : decode cX1_easter 1 = .ok (.i2l, 1) := by decide +kernel
theorem dX1_easter_2 : decode cX1_easter 2 = .ok (.ldc2_w 96, 3) := by decide +kernel
theorem dX1_easter_5 : decode cX1_easter 5 = .ok (.ldc2_w 98, 3) := by decide +kernel
theorem dX1_easter_8 : decode cX1_easter 8 = .ok (.invokestatic 39, 3) := by decide +kernel
theorem dX1_easter_11 : decode cX1_easter 11 = .ok (.ifCond .ne 13, 3) := by decide +kernel
theorem dX1_easter_14 : decode cX1_easter 14 = .ok (.new 43, 3) := by decide +kernel
theorem dX1_easter_17 : decode cX1_easter 17 = .ok (.dup, 1) := by decide +kernel
theorem dX1_easter_18 : decode cX1_easter 18 = .ok (.ldc 100, 2) := by decide +kernel
theorem dX1_easter_20 : decode cX1_easter 20 = .ok (.invokespecial 47, 3) := by decide +kernel
theorem dX1_easter_23 : decode cX1_easter 23 = .ok (.athrow, 1) := by decide +kernel
theorem dX1_easter_24 : decode cX1_easter 24 = .ok (.iload_n 1, 1) := by decide +kernel
theorem dX1_easter_25 : decode cX1_easter 25 = .ok (.bipush 19, 2) := by decide +kernel
theorem dX1_easter_27 : decode cX1_easter 27 = .ok (.irem, 1) := by decide +kernel
theorem dX1_easter_28 : decode cX1_easter 28 = .ok (.istore_n 2, 1) := by decide +kernel
theorem dX1_easter_29 : decode cX1_easter 29 = .ok (.iload_n 1, 1) := by decide +kernel
theorem dX1_easter_30 : decode cX1_easter 30 = .ok (.bipush 100, 2) := by decide +kernel
theorem dX1_easter_32 : decode cX1_easter 32 = .ok (.idiv, 1) := by decide +kernel
theorem dX1_easter_33 : decode cX1_easter 33 = .ok (.istore_n 3, 1) := by decide +kernel
theorem dX1_easter_34 : decode cX1_easter 34 = .ok (.iload_n 3, 1) := by decide +kernel
theorem dX1_easter_35 : decode cX1_easter 35 = .ok (.iload_n 3, 1) := by decide +kernel
theorem dX1_easter_36 : decode cX1_easter 36 = .ok (.iconst 4, 1) := by decide +kernel
theorem dX1_easter_37 : decode cX1_easter 37 = .ok (.idiv, 1) := by decide +kernel
theorem dX1_easter_38 : decode cX1_easter 38 = .ok (.isub, 1) := by decide +kernel
theorem dX1_easter_39 : decode cX1_easter 39 = .ok (.bipush 8, 2) := by decide +kernel
theorem dX1_easter_41 : decode cX1_easter 41 = .ok (.iload_n 3, 1) := by decide +kernel
theorem dX1_easter_42 : decode cX1_easter 42 = .ok (.imul, 1) := by decide +kernel
theorem dX1_easter_43 : decode cX1_easter 43 = .ok (.bipush 13, 2) := by decide +kernel
theorem dX1_easter_45 : decode cX1_easter 45 = .ok (.iadd, 1) := by decide +kernel
theorem dX1_easter_46 : decode cX1_easter 46 = .ok (.bipush 25, 2) := by decide +kernel
theorem dX1_easter_48 : decode cX1_easter 48 = .ok (.idiv, 1) := by decide +kernel
theorem dX1_easter_49 : decode cX1_easter 49 = .ok (.isub, 1) := by decide +kernel
theorem dX1_easter_50 : decode cX1_easter 50 = .ok (.bipush 19, 2) := by decide +kernel
theorem dX1_easter_52 : decode cX1_easter 52 = .ok (.iload_n 2, 1) := by decide +kernel
theorem dX1_easter_53 : decode cX1_easter 53 = .ok (.imul, 1) := by decide +kernel
theorem dX1_easter_54 : decode cX1_easter 54 = .ok (.iadd, 1) := by decide +kernel
theorem dX1_easter_55 : decode cX1_easter 55 = .ok (.bipush 15, 2) := by decide +kernel
theorem dX1_easter_57 : decode cX1_easter 57 = .ok (.iadd, 1) := by decide +kernel
theorem dX1_easter_58 : decode cX1_easter 58 = .ok (.bipush 30, 2) := by decide +kernel
theorem dX1_easter_60 : decode cX1_easter 60 = .ok (.invokestatic 102, 3) := by decide +kernel
theorem dX1_easter_63 : decode cX1_easter 63 = .ok (.istore 4, 2) := by decide +kernel
theorem dX1_easter_65 : decode cX1_easter 65 = .ok (.iload 4, 2) := by decide +kernel
theorem dX1_easter_67 : decode cX1_easter 67 = .ok (.bipush 28, 2) := by decide +kernel
theorem dX1_easter_69 : decode cX1_easter 69 = .ok (.idiv, 1) := by decide +kernel
theorem dX1_easter_70 : decode cX1_easter 70 = .ok (.istore 5, 2) := by decide +kernel
theorem dX1_easter_72 : decode cX1_easter 72 = .ok (.iload 4, 2) := by decide +kernel
theorem dX1_easter_74 : decode cX1_easter 74 = .ok (.iload 5, 2) := by decide +kernel
theorem dX1_easter_76 : decode cX1_easter 76 = .ok (.iconst 1, 1) := by decide +kernel
theorem dX1_easter_77 : decode cX1_easter 77 = .ok (.iload 5, 2) := by decide +kernel
theorem dX1_easter_79 : decode cX1_easter 79 = .ok (.bipush 29, 2) := by decide +kernel
theorem dX1_easter_81 : decode cX1_easter 81 = .ok (.iload 4, 2) := by decide +kernel
theorem dX1_easter_83 : decode cX1_easter 83 = .ok (.iconst 1, 1) := by decide +kernel
theorem dX1_easter_84 : decode cX1_easter 84 = .ok (.iadd, 1) := by decide +kernel
theorem dX1_easter_85 : decode cX1_easter 85 = .ok (.idiv, 1) := by decide +kernel
theorem dX1_easter_86 : decode cX1_easter 86 = .ok (.imul, 1) := by decide +kernel
theorem dX1_easter_87 : decode cX1_easter 87 = .ok (.bipush 21, 2) := by decide +kernel
theorem dX1_easter_89 : decode cX1_easter 89 = .ok (.iload_n 2, 1) := by decide +kernel
theorem dX1_easter_90 : decode cX1_easter 90 = .ok (.isub, 1) := by decide +kernel
theorem dX1_easter_91 : decode cX1_easter 91 = .ok (.bipush 11, 2) := by decide +kernel
theorem dX1_easter_93 : decode cX1_easter 93 = .ok (.idiv, 1) := by decide +kernel
theorem dX1_easter_94 : decode cX1_easter 94 = .ok (.imul, 1) := by decide +kernel
theorem dX1_easter_95 : decode cX1_easter 95 = .ok (.isub, 1) := by decide +kernel
theorem dX1_easter_96 : decode cX1_easter 96 = .ok (.imul, 1) := by decide +kernel
theorem dX1_easter_97 : decode cX1_easter 97 = .ok (.isub, 1) := by decide +kernel
theorem dX1_easter_98 : decode cX1_easter 98 = .ok (.istore 6, 2) := by decide +kernel
theorem dX1_easter_100 : decode cX1_easter 100 = .ok (.iload_n 1, 1) := by decide +kernel
theorem dX1_easter_101 : decode cX1_easter 101 = .ok (.iload_n 1, 1) := by decide +kernel
theorem dX1_easter_102 : decode cX1_easter 102 = .ok (.iconst 4, 1) := by decide +kernel
theorem dX1_easter_103 : decode cX1_easter 103 = .ok (.idiv, 1) := by decide +kernel
theorem dX1_easter_104 : decode cX1_easter 104 = .ok (.iadd, 1) := by decide +kernel
theorem dX1_easter_105 : decode cX1_easter 105 = .ok (.iload 6, 2) := by decide +kernel
theorem dX1_easter_107 : decode cX1_easter 107 = .ok (.iadd, 1) := by decide +kernel
theorem dX1_easter_108 : decode cX1_easter 108 = .ok (.iconst 2, 1) := by decide +kernel
theorem dX1_easter_109 : decode cX1_easter 109 = .ok (.iadd, 1) := by decide +kernel
theorem dX1_easter_110 : decode cX1_easter 110 = .ok (.iload_n 3, 1) := by decide +kernel
theorem dX1_easter_111 : decode cX1_easter 111 = .ok (.isub, 1) := by decide +kernel
theorem dX1_easter_112 : decode cX1_easter 112 = .ok (.iload_n 3, 1) := by decide +kernel
theorem dX1_easter_113 : decode cX1_easter 113 = .ok (.iconst 4, 1) := by decide +kernel
theorem dX1_easter_114 : decode cX1_easter 114 = .ok (.idiv, 1) := by decide +kernel
theorem dX1_easter_115 : decode cX1_easter 115 = .ok (.iadd, 1) := by decide +kernel
theorem dX1_easter_116 : decode cX1_easter 116 = .ok (.bipush 7, 2) := by decide +kernel
theorem dX1_easter_118 : decode cX1_easter 118 = .ok (.invokestatic 102, 3) := by decide +kernel
theorem dX1_easter_121 : decode cX1_easter 121 = .ok (.istore 7, 2) := by decide +kernel
theorem dX1_easter_123 : decode cX1_easter 123 = .ok (.iload 6, 2) := by decide +kernel
theorem dX1_easter_125 : decode cX1_easter 125 = .ok (.iload 7, 2) := by decide +kernel
theorem dX1_easter_127 : decode cX1_easter 127 = .ok (.isub, 1) := by decide +kernel
theorem dX1_easter_128 : decode cX1_easter 128 = .ok (.istore 8, 2) := by decide +kernel
theorem dX1_easter_130 : decode cX1_easter 130 = .ok (.iconst 1, 1) := by decide +kernel
theorem dX1_easter_131 : decode cX1_easter 131 = .ok (.iload_n 1, 1) := by decide +kernel
theorem dX1_easter_132 : decode cX1_easter 132 = .ok (.invokestatic 66, 3) := by decide +kernel
theorem dX1_easter_135 : decode cX1_easter 135 = .ok (.iconst 1, 1) := by decide +kernel
theorem dX1_easter_136 : decode cX1_easter 136 = .ok (.iload_n 1, 1) := by decide +kernel
theorem dX1_easter_137 : decode cX1_easter 137 = .ok (.iconst 3, 1) := by decide +kernel
theorem dX1_easter_138 : decode cX1_easter 138 = .ok (.invokestatic 70, 3) := by decide +kernel
theorem dX1_easter_141 : decode cX1_easter 141 = .ok (.i2l, 1) := by decide +kernel
theorem dX1_easter_142 : decode cX1_easter 142 = .ok (.ladd, 1) := by decide +kernel
theorem dX1_easter_143 : decode cX1_easter 143 = .ok (.lconst 1, 1) := by decide +kernel
theorem dX1_easter_144 : decode cX1_easter 144 = .ok (.lsub, 1) := by decide +kernel
theorem dX1_easter_145 : decode cX1_easter 145 = .ok (.lstore 9, 2) := by decide +kernel
theorem dX1_easter_147 : decode cX1_easter 147 = .ok (.lload 9, 2) := by decide +kernel
theorem dX1_easter_149 : decode cX1_easter 149 = .ok (.ldc2_w 108, 3) := by decide +kernel
theorem dX1_easter_152 : decode cX1_easter 152 = .ok (.ladd, 1) := by decide +kernel
theorem dX1_easter_153 : decode cX1_easter 153 = .ok (.iload 8, 2) := by decide +kernel
theorem dX1_easter_155 : decode cX1_easter 155 = .ok (.i2l, 1) := by decide +kernel
theorem dX1_easter_156 : decode cX1_easter 156 = .ok (.ladd, 1) := by decide +kernel
theorem dX1_easter_157 : decode cX1_easter 157 = .ok (.lreturn, 1) := by decide +kernel
theorem dX1_isLeap_0 : decode cX1_isLeap 0 = .ok (.iload_n 1, 1) := by decide +kernel
theorem dX1_isLeap_1 : decode cX1_isLeap 1 = .ok (.iconst 4, 1) := by decide +kernel
theorem dX1_isLeap_2 : decode cX1_isLeap 2 = .ok (.irem, 1) := by decide +kernel
theorem dX1_isLeap_3 : decode cX1_isLeap 3 = .ok (.ifCond .eq 5, 3) := by decide +kernel
theorem dX1_isLeap_6 : decode cX1_isLeap 6 = .ok (.iconst 0, 1) := by decide +kernel
theorem dX1_isLeap_7 : decode cX1_isLeap 7 = .ok (.ireturn, 1) := by decide +kernel
theorem dX1_isLeap_8 : decode cX1_isLeap 8 = .ok (.iload_n 0, 1) := by decide +kernel
theorem dX1_isLeap_9 : decode cX1_isLeap 9 = .ok (.ifCond .eq 18, 3) := by decide +kernel
theorem dX1_isLeap_12 : decode cX1_isLeap 12 = .ok (.iload_n 1, 1) := by decide +kernel
theorem dX1_isLeap_13 : decode cX1_isLeap 13 = .ok (.bipush 100, 2) := by decide +kernel
theorem dX1_isLeap_15 : decode cX1_isLeap 15 = .ok (.irem, 1) := by decide +kernel
theorem dX1_isLeap_16 : decode cX1_isLeap 16 = .ok (.ifCond .ne 11, 3) := by decide +kernel
theorem dX1_isLeap_19 : decode cX1_isLeap 19 = .ok (.iload_n 1, 1) := by decide +kernel
theorem dX1_isLeap_20 : decode cX1_isLeap 20 = .ok (.sipush 400, 3) := by decide +kernel
theorem dX1_isLeap_23 : decode cX1_isLeap 23 = .ok (.irem, 1) := by decide +kernel
theorem dX1_isLeap_24 : decode cX1_isLeap 24 = .ok (.ifCond .ne 7, 3) := by decide +kernel
theorem dX1_isLeap_27 : decode cX1_isLeap 27 = .ok (.iconst 1, 1) := by decide +kernel
theorem dX1_isLeap_28 : decode cX1_isLeap 28 = .ok (.goto 4, 3) := by decide +kernel
theorem dX1_isLeap_31 : decode cX1_isLeap 31 = .ok (.iconst 0, 1) := by decide +kernel
theorem dX1_isLeap_32 : decode cX1_isLeap 32 = .ok (.ireturn, 1) := by decide +kernel
set_option maxRecDepth 20000 in
theorem ggX1_monthLength_X1_isLeap : GoodIn wsX1_monthLength wsX1_isLeap := goodIn_r _ [5] (by decide +kernel) (by decide +kernel)
set_option maxRecDepth 20000 in
theorem gX1_monthLength_X1_isLeap : GoodIn wsX1_monthLength (va_wsS RX1 114 yX1_isLeap wsX1_isLeap) := goodIn_app (goodIn_of _ (by decide +kernel)) ggX1_monthLength_X1_isLeap
theorem dX1_monthLength_0 : decode cX1_monthLength 0 = .ok (.iload_n 2, 1) := by decide +kernel
theorem dX1_monthLength_1 : decode cX1_monthLength 1 = .ok (.iconst 1, 1) := by decide +kernel
theorem dX1_monthLength_2 : decode cX1_monthLength 2 = .ok (.if_icmp .lt 11, 3) := by decide +kernel
theorem dX1_monthLength_5 : decode cX1_monthLength 5 = .ok (.iload_n 2, 1) := by decide +kernel
theorem dX1_monthLength_6 : decode cX1_monthLength 6 = .ok (.getstatic 110, 3) := by decide +kernel
theorem dX1_monthLength_9 : decode cX1_monthLength 9 = .ok (.arraylength, 1) := by decide +kernel
theorem dX1_monthLength_10 : decode cX1_monthLength 10 = .ok (.if_icmp .le 5, 3) := by decide +kernel
theorem dX1_monthLength_13 : decode cX1_monthLength 13 = .ok (.iconst 0, 1) := by decide +kernel
theorem dX1_monthLength_14 : decode cX1_monthLength 14 = .ok (.ireturn, 1) := by decide +kernel
theorem dX1_monthLength_15 : decode cX1_monthLength 15 = .ok (.getstatic 110, 3) := by decide +kernel
theorem dX1_monthLength_18 : decode cX1_monthLength 18 = .ok (.iload_n 2, 1) := by decide +kernel
theorem dX1_monthLength_19 : decode cX1_monthLength 19 = .ok (.iconst 1, 1) := by decide +kernel
theorem dX1_monthLength_20 : decode cX1_monthLength 20 = .ok (.isub, 1) := by decide +kernel
theorem dX1_monthLength_21 : decode cX1_monthLength 21 = .ok (.iaload, 1) := by decide +kernel
theorem dX1_monthLength_22 : decode cX1_monthLength 22 = .ok (.istore_n 3, 1) := by decide +kernel
theorem dX1_monthLength_23 : decode cX1_monthLength 23 = .ok (.iload_n 2, 1) := by decide +kernel
theorem dX1_monthLength_24 : decode cX1_monthLength 24 = .ok (.iconst 2, 1) := by decide +kernel
theorem dX1_monthLength_25 : decode cX1_monthLength 25 = .ok (.if_icmp .ne 17, 3) := by decide +kernel
theorem dX1_monthLength_28 : decode cX1_monthLength 28 = .ok (.iload_n 0, 1) := by decide +kernel
theorem dX1_monthLength_29 : decode cX1_monthLength 29 = .ok (.iload_n 1, 1) := by decide +kernel
theorem dX1_monthLength_30 : decode cX1_monthLength 30 = .ok (.invokestatic 114, 3) := by decide +kernel
theorem dX1_monthLength_33 : decode cX1_monthLength 33 = .ok (.ifCond .eq 9, 3) := by decide +kernel
theorem dX1_monthLength_36 : decode cX1_monthLength 36 = .ok (.iload_n 3, 1) := by decide +kernel
theorem dX1_monthLength_37 : decode cX1_monthLength 37 = .ok (.iconst 1, 1) := by decide +kernel
theorem dX1_monthLength_38 : decode cX1_monthLength 38 = .ok (.iadd, 1) := by decide +kernel
theorem dX1_monthLength_39 : decode cX1_monthLength 39 = .ok (.goto 4, 3) := by decide +kernel
theorem dX1_monthLength_42 : decode cX1_monthLength 42 = .ok (.iload_n 3, 1) := by decide +kernel
theorem dX1_monthLength_43 : decode cX1_monthLength 43 = .ok (.ireturn, 1) := by decide +kernel
set_option maxRecDepth 20000 in
theorem ggX1_daysBeforeMonth_X1_monthLength : GoodIn wsX1_daysBeforeMonth wsX1_monthLength := goodIn_r _ [5, 1, 6, 7, 4, 8] (by decide +kernel) (by decide +kernel)
set_option maxRecDepth 20000 in
theorem gX1_daysBeforeMonth_X1_monthLength : GoodIn wsX1_daysBeforeMonth (va_wsS RX1 60 yX1_monthLength wsX1_monthLength) := goodIn_app (goodIn_of _ (by decide +kernel)) ggX1_daysBeforeMonth_X1_monthLength
theorem dX1_daysBeforeMonth_0 : decode cX1_daysBeforeMonth 0 = .ok (.iconst 0, 1) := by decide +kernel
theorem dX1_daysBeforeMonth_1 : decode cX1_daysBeforeMonth 1 = .ok (.istore_n 3, 1) := by decide +kernel
theorem dX1_daysBeforeMonth_2 : decode cX1_daysBeforeMonth 2 = .ok (.iconst 1, 1) := by decide +kernel
theorem dX1_daysBeforeMonth_3 : decode cX1_daysBeforeMonth 3 = .ok (.istore 4, 2) := by decide +kernel
theorem dX1_daysBeforeMonth_5 : decode cX1_daysBeforeMonth 5 = .ok (.iload 4, 2) := by decide +kernel
theorem dX1_daysBeforeMonth_7 : decode cX1_daysBeforeMonth 7 = .ok (.iload_n 2, 1) := by decide +kernel
theorem dX1_daysBeforeMonth_8 : decode cX1_daysBeforeMonth 8 = .ok (.if_icmp .ge 28, 3) := by decide +kernel
theorem dX1_daysBeforeMonth_11 : decode cX1_daysBeforeMonth 11 = .ok (.iload 4, 2) := by decide +kernel
theorem dX1_daysBeforeMonth_13 : decode cX1_daysBeforeMonth 13 = .ok (.getstatic 110, 3) := by decide +kernel
theorem dX1_daysBeforeMonth_16 : decode cX1_daysBeforeMonth 16 = .ok (.arraylength, 1) := by decide +kernel
theorem dX1_daysBeforeMonth_17 : decode cX1_daysBeforeMonth 17 = .ok (.if_icmp .gt 19, 3) := by decide +kernel
theorem dX1_daysBeforeMonth_20 : decode cX1_daysBeforeMonth 20 = .ok (.iload_n 3, 1) := by decide +kernel
theorem dX1_daysBeforeMonth_21 : decode cX1_daysBeforeMonth 21 = .ok (.iload_n 0, 1) := by decide +kernel
theorem dX1_daysBeforeMonth_22 : decode cX1_daysBeforeMonth 22 = .ok (.iload_n 1, 1) := by decide +kernel
theorem dX1_daysBeforeMonth_23 : decode cX1_daysBeforeMonth 23 = .ok (.iload 4, 2) := by decide +kernel
theorem dX1_daysBeforeMonth_25 : decode cX1_daysBeforeMonth 25 = .ok (.invokestatic 60, 3) := by decide +kernel
theorem dX1_daysBeforeMonth_28 : decode cX1_daysBeforeMonth 28 = .ok (.iadd, 1) := by decide +kernel
theorem dX1_daysBeforeMonth_29 : decode cX1_daysBeforeMonth 29 = .ok (.istore_n 3, 1) := by decide +kernel
theorem dX1_daysBeforeMonth_30 : decode cX1_daysBeforeMonth 30 = .ok (.iinc 4 1, 3) := by decide +kernel
theorem dX1_daysBeforeMonth_33 : decode cX1_daysBeforeMonth 33 = .ok (.goto (-28), 3) := by decide +kernel
theorem dX1_daysBeforeMonth_36 : decode cX1_daysBeforeMonth 36 = .ok (.iload_n 3, 1) := by decide +kernel
theorem dX1_daysBeforeMonth_37 : decode cX1_daysBeforeMonth 37 = .ok (.ireturn, 1) := by decide +kernel
set_option maxRecDepth 20000 in
theorem ggX1_monthOfDayWithinYear_X1_daysBeforeMonth : GoodIn wsX1_monthOfDayWithinYear wsX1_daysBeforeMonth := goodIn_r _ [5, 1, 6, 7, 4, 8, 9, 10, 11] (by decide +kernel) (by decide +kernel)
set_option maxRecDepth 20000 in
theorem gX1_monthOfDayWithinYear_X1_daysBeforeMonth : GoodIn wsX1_monthOfDayWithinYear (va_wsS RX1 70 yX1_daysBeforeMonth wsX1_daysBeforeMonth) := goodIn_app (goodIn_of _ (by decide +kernel)) ggX1_monthOfDayWithinYear_X1_daysBeforeMonth
theorem dX1_monthOfDayWithinYear_0 : decode cX1_monthOfDayWithinYear 0 = .ok (.getstatic 110, 3) := by decide +kernel
theorem dX1_monthOfDayWithinYear_3 : decode cX1_monthOfDayWithinYear 3 = .ok (.arraylength, 1) := by decide +kernel
theorem dX1_monthOfDayWithinYear_4 : decode cX1_monthOfDayWithinYear 4 = .ok (.istore_n 3, 1) := by decide +kernel
theorem dX1_monthOfDayWithinYear_5 : decode cX1_monthOfDayWithinYear 5 = .ok (.iload_n 3, 1) := by decide +kernel
theorem dX1_monthOfDayWithinYear_6 : decode cX1_monthOfDayWithinYear 6 = .ok (.iconst 1, 1) := by decide +kernel
theorem dX1_monthOfDayWithinYear_7 : decode cX1_monthOfDayWithinYear 7 = .ok (.if_icmp .le 19, 3) := by decide +kernel
theorem dX1_monthOfDayWithinYear_10 : decode cX1_monthOfDayWithinYear 10 = .ok (.iload_n 0, 1) := by decide +kernel
theorem dX1_monthOfDayWithinYear_11 : decode cX1_monthOfDayWithinYear 11 = .ok (.iload_n 1, 1) := by decide +kernel
theorem dX1_monthOfDayWithinYear_12 : decode cX1_monthOfDayWithinYear 12 = .ok (.iload_n 3, 1) := by decide +kernel
theorem dX1_monthOfDayWithinYear_13 : decode cX1_monthOfDayWithinYear 13 = .ok (.invokestatic 70, 3) := by decide +kernel
theorem dX1_monthOfDayWithinYear_16 : decode cX1_monthOfDayWithinYear 16 = .ok (.iload_n 2, 1) := by decide +kernel
theorem dX1_monthOfDayWithinYear_17 : decode cX1_monthOfDayWithinYear 17 = .ok (.if_icmp .lt 9, 3) := by decide +kernel
theorem dX1_monthOfDayWithinYear_20 : decode cX1_monthOfDayWithinYear 20 = .ok (.iinc 3 (-1), 3) := by decide +kernel
theorem dX1_monthOfDayWithinYear_23 : decode cX1_monthOfDayWithinYear 23 = .ok (.goto (-18), 3) := by decide +kernel
theorem dX1_monthOfDayWithinYear_26 : decode cX1_monthOfDayWithinYear 26 = .ok (.iload_n 3, 1) := by decide +kernel
theorem dX1_monthOfDayWithinYear_27 : decode cX1_monthOfDayWithinYear 27 = .ok (.ireturn, 1) := by decide +kernel
set_option maxRecDepth 20000 in
theorem ggX1_firstDayOfYear_J9_floorDiv_7cf53 : GoodIn wsX1_firstDayOfYear wsJ9_floorDiv_7cf53 := goodIn_r _ [7] (by decide +kernel) (by decide +kernel)
set_option maxRecDepth 20000 in
theorem gX1_firstDayOfYear_J9_floorDiv_7cf53 : GoodIn wsX1_firstDayOfYear (va_wsS RX1 120 yJ9_floorDiv_7cf53 wsJ9_floorDiv_7cf53) := goodIn_app (goodIn_of _ (by decide +kernel)) ggX1_firstDayOfYear_J9_floorDiv_7cf53
theorem dX1_firstDayOfYear_0 : decode cX1_firstDayOfYear 0 = .ok (.ldc2_w 118, 3) := by decide +kernel
theorem dX1_firstDayOfYear_3 : decode cX1_firstDayOfYear 3 = .ok (.iload_n 1, 1) := by decide +kernel
theorem dX1_firstDayOfYear_4 : decode cX1_firstDayOfYear 4 = .ok (.i2l, 1) := by decide +kernel
theorem dX1_firstDayOfYear_5 : decode cX1_firstDayOfYear 5 = .ok (.lmul, 1) := by decide +kernel
theorem dX1_firstDayOfYear_6 : decode cX1_firstDayOfYear 6 = .ok (.iload_n 1, 1) := by decide +kernel
theorem dX1_firstDayOfYear_7 : decode cX1_firstDayOfYear 7 = .ok (.iconst 3, 1) := by decide +kernel
theorem dX1_firstDayOfYear_8 : decode cX1_firstDayOfYear 8 = .ok (.iadd, 1) := by decide +kernel
theorem dX1_firstDayOfYear_9 : decode cX1_firstDayOfYear 9 = .ok (.iconst 4, 1) := by decide +kernel
theorem dX1_firstDayOfYear_10 : decode cX1_firstDayOfYear 10 = .ok (.invokestatic 120, 3) := by decide +kernel
theorem dX1_firstDayOfYear_13 : decode cX1_firstDayOfYear 13 = .ok (.i2l, 1) := by decide +kernel
theorem dX1_firstDayOfYear_14 : decode cX1_firstDayOfYear 14 = .ok (.ladd, 1) := by decide +kernel
theorem dX1_firstDayOfYear_15 : decode cX1_firstDayOfYear 15 = .ok (.lstore_n 2, 1) := by decide +kernel
theorem dX1_firstDayOfYear_16 : decode cX1_firstDayOfYear 16 = .ok (.iload_n 0, 1) := by decide +kernel
theorem dX1_firstDayOfYear_17 : decode cX1_firstDayOfYear 17 = .ok (.ifCond .ne 9, 3) := by decide +kernel
theorem dX1_firstDayOfYear_20 : decode cX1_firstDayOfYear 20 = .ok (.lload_n 2, 1) := by decide +kernel
theorem dX1_firstDayOfYear_21 : decode cX1_firstDayOfYear 21 = .ok (.ldc2_w 123, 3) := by decide +kernel
theorem dX1_firstDayOfYear_24 : decode cX1_firstDayOfYear 24 = .ok (.ladd, 1) := by decide +kernel
theorem dX1_firstDayOfYear_25 : decode cX1_firstDayOfYear 25 = .ok (.lreturn, 1) := by decide +kernel
theorem dX1_firstDayOfYear_26 : decode cX1_firstDayOfYear 26 = .ok (.lload_n 2, 1) := by decide +kernel
theorem dX1_firstDayOfYear_27 : decode cX1_firstDayOfYear 27 = .ok (.iload_n 1, 1) := by decide +kernel
theorem dX1_firstDayOfYear_28 : decode cX1_firstDayOfYear 28 = .ok (.bipush 99, 2) := by decide +kernel
theorem dX1_firstDayOfYear_30 : decode cX1_firstDayOfYear 30 = .ok (.iadd, 1) := by decide +kernel
theorem dX1_firstDayOfYear_31 : decode cX1_firstDayOfYear 31 = .ok (.bipush 100, 2) := by decide +kernel
theorem dX1_firstDayOfYear_33 : decode cX1_firstDayOfYear 33 = .ok (.invokestatic 120, 3) := by decide +kernel
theorem dX1_firstDayOfYear_36 : decode cX1_firstDayOfYear 36 = .ok (.i2l, 1) := by decide +kernel
theorem dX1_firstDayOfYear_37 : decode cX1_firstDayOfYear 37 = .ok (.lsub, 1) := by decide +kernel
theorem dX1_firstDayOfYear_38 : decode cX1_firstDayOfYear 38 = .ok (.iload_n 1, 1) := by decide +kernel
theorem dX1_firstDayOfYear_39 : decode cX1_firstDayOfYear 39 = .ok (.sipush 399, 3) := by decide +kernel
theorem dX1_firstDayOfYear_42 : decode cX1_firstDayOfYear 42 = .ok (.iadd, 1) := by decide +kernel
theorem dX1_firstDayOfYear_43 : decode cX1_firstDayOfYear 43 = .ok (.sipush 400, 3) := by decide +kernel
theorem dX1_firstDayOfYear_46 : decode cX1_firstDayOfYear 46 = .ok (.invokestatic 120, 3) := by decide +kernel
theorem dX1_firstDayOfYear_49 : decode cX1_firstDayOfYear 49 = .ok (.i2l, 1) := by decide +kernel
theorem dX1_firstDayOfYear_50 : decode cX1_firstDayOfYear 50 = .ok (.ladd, 1) := by decide +kernel
theorem dX1_firstDayOfYear_51 : decode cX1_firstDayOfYear 51 = .ok (.ldc2_w 125, 3) := by decide +kernel
theorem dX1_firstDayOfYear_54 : decode cX1_firstDayOfYear 54 = .ok (.ladd, 1) := by decide +kernel
theorem dX1_firstDayOfYear_55 : decode cX1_firstDayOfYear 55 = .ok (.lreturn, 1) := by decide +kernel
set_option maxRecDepth 20000 in
theorem ggX1_yearOfDay_X1_firstDayOfYear : GoodIn wsX1_yearOfDay wsX1_firstDayOfYear := goodIn_r _ [7, 8, 9, 10, 11, 12, 13, 14] (by decide +kernel) (by decide +kernel)
set_option maxRecDepth 20000 in
theorem gX1_yearOfDay_X1_firstDayOfYear : GoodIn wsX1_yearOfDay (va_wsS RX1 66 yX1_firstDayOfYear wsX1_firstDayOfYear) := goodIn_app (goodIn_of _ (by decide +kernel)) ggX1_yearOfDay_X1_firstDayOfYear
set_option maxRecDepth 20000 in
theorem ggX1_yearOfDay_J9_floorDiv_f86c9 : GoodIn wsX1_yearOfDay wsJ9_floorDiv_f86c9 := goodIn_r _ [17] (by decide +kernel) (by decide +kernel)
set_option maxRecDepth 20000 in
theorem gX1_yearOfDay_J9_floorDiv_f86c9 : GoodIn wsX1_yearOfDay (va_wsS RX1 133 yJ9_floorDiv_f86c9 wsJ9_floorDiv_f86c9) := goodIn_app (goodIn_of _ (by decide +kernel)) ggX1_yearOfDay_J9_floorDiv_f86c9
theorem dX1_yearOfDay_0 : decode cX1_yearOfDay 0 = .ok (.iload_n 0, 1) := by decide +kernel
theorem dX1_yearOfDay_1 : decode cX1_yearOfDay 1 = .ok (.ifCond .ne 9, 3) := by decide +kernel
theorem dX1_yearOfDay_4 : decode cX1_yearOfDay 4 = .ok (.ldc2_w 127, 3) := by decide +kernel
theorem dX1_yearOfDay_7 : decode cX1_yearOfDay 7 = .ok (.goto 6, 3) := by decide +kernel
theorem dX1_yearOfDay_10 : decode cX1_yearOfDay 10 = .ok (.ldc2_w 129, 3) := by decide +kernel
theorem dX1_yearOfDay_13 : decode cX1_yearOfDay 13 = .ok (.lstore_n 3, 1) := by decide +kernel
theorem dX1_yearOfDay_14 : decode cX1_yearOfDay 14 = .ok (.lload_n 1, 1) := by decide +kernel
theorem dX1_yearOfDay_15 : decode cX1_yearOfDay 15 = .ok (.iload_n 0, 1) := by decide +kernel
theorem dX1_yearOfDay_16 : decode cX1_yearOfDay 16 = .ok (.iconst 0, 1) := by decide +kernel
theorem dX1_yearOfDay_17 : decode cX1_yearOfDay 17 = .ok (.invokestatic 66, 3) := by decide +kernel
theorem dX1_yearOfDay_20 : decode cX1_yearOfDay 20 = .ok (.lsub, 1) := by decide +kernel
theorem dX1_yearOfDay_21 : decode cX1_yearOfDay 21 = .ok (.lstore 5, 2) := by decide +kernel
theorem dX1_yearOfDay_23 : decode cX1_yearOfDay 23 = .ok (.lload 5, 2) := by decide +kernel
theorem dX1_yearOfDay_25 : decode cX1_yearOfDay 25 = .ok (.ldc2_w 131, 3) := by decide +kernel
theorem dX1_yearOfDay_28 : decode cX1_yearOfDay 28 = .ok (.lmul, 1) := by decide +kernel
theorem dX1_yearOfDay_29 : decode cX1_yearOfDay 29 = .ok (.lload_n 3, 1) := by decide +kernel
theorem dX1_yearOfDay_30 : decode cX1_yearOfDay 30 = .ok (.invokestatic 133, 3) := by decide +kernel
theorem dX1_yearOfDay_33 : decode cX1_yearOfDay 33 = .ok (.l2i, 1) := by decide +kernel
theorem dX1_yearOfDay_34 : decode cX1_yearOfDay 34 = .ok (.istore 7, 2) := by decide +kernel
theorem dX1_yearOfDay_36 : decode cX1_yearOfDay 36 = .ok (.iload_n 0, 1) := by decide +kernel
theorem dX1_yearOfDay_37 : decode cX1_yearOfDay 37 = .ok (.iload 7, 2) := by decide +kernel
theorem dX1_yearOfDay_39 : decode cX1_yearOfDay 39 = .ok (.invokestatic 66, 3) := by decide +kernel
theorem dX1_yearOfDay_42 : decode cX1_yearOfDay 42 = .ok (.lload_n 1, 1) := by decide +kernel
theorem dX1_yearOfDay_43 : decode cX1_yearOfDay 43 = .ok (.lcmp, 1) := by decide +kernel
theorem dX1_yearOfDay_44 : decode cX1_yearOfDay 44 = .ok (.ifCond .le 8, 3) := by decide +kernel
theorem dX1_yearOfDay_47 : decode cX1_yearOfDay 47 = .ok (.iload 7, 2) := by decide +kernel
theorem dX1_yearOfDay_49 : decode cX1_yearOfDay 49 = .ok (.iconst 1, 1) := by decide +kernel
theorem dX1_yearOfDay_50 : decode cX1_yearOfDay 50 = .ok (.isub, 1) := by decide +kernel
theorem dX1_yearOfDay_51 : decode cX1_yearOfDay 51 = .ok (.ireturn, 1) := by decide +kernel
theorem dX1_yearOfDay_52 : decode cX1_yearOfDay 52 = .ok (.iload_n 0, 1) := by decide +kernel
theorem dX1_yearOfDay_53 : decode cX1_yearOfDay 53 = .ok (.iload 7, 2) := by decide +kernel
theorem dX1_yearOfDay_55 : decode cX1_yearOfDay 55 = .ok (.iconst 1, 1) := by decide +kernel
theorem dX1_yearOfDay_56 : decode cX1_yearOfDay 56 = .ok (.iadd, 1) := by decide +kernel
theorem dX1_yearOfDay_57 : decode cX1_yearOfDay 57 = .ok (.invokestatic 66, 3) := by decide +kernel
theorem dX1_yearOfDay_60 : decode cX1_yearOfDay 60 = .ok (.lload_n 1, 1) := by decide +kernel
theorem dX1_yearOfDay_61 : decode cX1_yearOfDay 61 = .ok (.lcmp, 1) := by decide +kernel
theorem dX1_yearOfDay_62 : decode cX1_yearOfDay 62 = .ok (.ifCond .gt 10, 3) := by decide +kernel
theorem dX1_yearOfDay_65 : decode cX1_yearOfDay 65 = .ok (.iload 7, 2) := by decide +kernel
theorem dX1_yearOfDay_67 : decode cX1_yearOfDay 67 = .ok (.iconst 1, 1) := by decide +kernel
theorem dX1_yearOfDay_68 : decode cX1_yearOfDay 68 = .ok (.iadd, 1) := by decide +kernel
theorem dX1_yearOfDay_69 : decode cX1_yearOfDay 69 = .ok (.goto 5, 3) := by decide +kernel
theorem dX1_yearOfDay_72 : decode cX1_yearOfDay 72 = .ok (.iload 7, 2) := by decide +kernel
theorem dX1_yearOfDay_74 : decode cX1_yearOfDay 74 = .ok (.ireturn, 1) := by decide +kernel
set_option maxRecDepth 20000 in
theorem ggX1_orbit_X1_isWithin : GoodIn wsX1_orbit wsX1_isWithin := goodIn_r _ [14] (by decide +kernel) (by decide +kernel)
set_option maxRecDepth 20000 in
theorem gX1_orbit_X1_isWithin : GoodIn wsX1_orbit (va_wsS RX1 145 yX1_isWithin wsX1_isWithin) := goodIn_app (goodIn_of _ (by decide +kernel)) ggX1_orbit_X1_isWithin
theorem dX1_orbit_0 : decode cX1_orbit 0 = .ok (.iload_n 1, 1) := by decide +kernel
theorem dX1_orbit_1 : decode cX1_orbit 1 = .ok (.ifCond .lt 12, 3) := by decide +kernel
theorem dX1_orbit_4 : decode cX1_orbit 4 = .ok (.iload_n 1, 1) := by decide +kernel
theorem dX1_orbit_5 : decode cX1_orbit 5 = .ok (.aload_n 0, 1) := by decide +kernel
theorem dX1_orbit_6 : decode cX1_orbit 6 = .ok (.getfield 11, 3) := by decide +kernel
theorem dX1_orbit_9 : decode cX1_orbit 9 = .ok (.arraylength, 1) := by decide +kernel
theorem dX1_orbit_10 : decode cX1_orbit 10 = .ok (.if_icmp .lt 13, 3) := by decide +kernel
theorem dX1_orbit_13 : decode cX1_orbit 13 = .ok (.new 136, 3) := by decide +kernel
theorem dX1_orbit_16 : decode cX1_orbit 16 = .ok (.dup, 1) := by decide +kernel
theorem dX1_orbit_17 : decode cX1_orbit 17 = .ok (.ldc 138, 2) := by decide +kernel
theorem dX1_orbit_19 : decode cX1_orbit 19 = .ok (.invokespecial 140, 3) := by decide +kernel
theorem dX1_orbit_22 : decode cX1_orbit 22 = .ok (.athrow, 1) := by decide +kernel
theorem dX1_orbit_23 : decode cX1_orbit 23 = .ok (.dload_n 2, 1) := by decide +kernel
theorem dX1_orbit_24 : decode cX1_orbit 24 = .ok (.ldc2_w 141, 3) := by decide +kernel
theorem dX1_orbit_27 : decode cX1_orbit 27 = .ok (.ldc2_w 143, 3) := by decide +kernel
theorem dX1_orbit_30 : decode cX1_orbit 30 = .ok (.invokestatic 145, 3) := by decide +kernel
theorem dX1_orbit_33 : decode cX1_orbit 33 = .ok (.ifCond .eq 43, 3) := by decide +kernel
theorem dX1_orbit_36 : decode cX1_orbit 36 = .ok (.dload 4, 2) := by decide +kernel
theorem dX1_orbit_38 : decode cX1_orbit 38 = .ok (.ldc2_w 149, 3) := by decide +kernel
theorem dX1_orbit_41 : decode cX1_orbit 41 = .ok (.ldc2_w 151, 3) := by decide +kernel
theorem dX1_orbit_44 : decode cX1_orbit 44 = .ok (.invokestatic 145, 3) := by decide +kernel
theorem dX1_orbit_47 : decode cX1_orbit 47 = .ok (.ifCond .eq 29, 3) := by decide +kernel
theorem dX1_orbit_50 : decode cX1_orbit 50 = .ok (.dload 6, 2) := by decide +kernel
theorem dX1_orbit_52 : decode cX1_orbit 52 = .ok (.dconst 0, 1) := by decide +kernel
theorem dX1_orbit_53 : decode cX1_orbit 53 = .ok (.ldc2_w 153, 3) := by decide +kernel
theorem dX1_orbit_56 : decode cX1_orbit 56 = .ok (.invokestatic 145, 3) := by decide +kernel
theorem dX1_orbit_59 : decode cX1_orbit 59 = .ok (.ifCond .eq 17, 3) := by decide +kernel
theorem dX1_orbit_62 : decode cX1_orbit 62 = .ok (.dload 8, 2) := by decide +kernel
theorem dX1_orbit_64 : decode cX1_orbit 64 = .ok (.ldc2_w 141, 3) := by decide +kernel
theorem dX1_orbit_67 : decode cX1_orbit 67 = .ok (.ldc2_w 143, 3) := by decide +kernel
theorem dX1_orbit_70 : decode cX1_orbit 70 = .ok (.invokestatic 145, 3) := by decide +kernel
theorem dX1_orbit_73 : decode cX1_orbit 73 = .ok (.ifCond .ne 13, 3) := by decide +kernel
theorem dX1_orbit_76 : decode cX1_orbit 76 = .ok (.new 43, 3) := by decide +kernel
theorem dX1_orbit_79 : decode cX1_orbit 79 = .ok (.dup, 1) := by decide +kernel
theorem dX1_orbit_80 : decode cX1_orbit 80 = .ok (.ldc 155, 2) := by decide +kernel
theorem dX1_orbit_82 : decode cX1_orbit 82 = .ok (.invokespecial 47, 3) := by decide +kernel
theorem dX1_orbit_85 : decode cX1_orbit 85 = .ok (.athrow, 1) := by decide +kernel
theorem dX1_orbit_86 : decode cX1_orbit 86 = .ok (.aload_n 0, 1) := by decide +kernel
theorem dX1_orbit_87 : decode cX1_orbit 87 = .ok (.getfield 11, 3) := by decide +kernel
theorem dX1_orbit_90 : decode cX1_orbit 90 = .ok (.iload_n 1, 1) := by decide +kernel
theorem dX1_orbit_91 : decode cX1_orbit 91 = .ok (.aaload, 1) := by decide +kernel
theorem dX1_orbit_92 : decode cX1_orbit 92 = .ok (.astore 10, 2) := by decide +kernel
theorem dX1_orbit_94 : decode cX1_orbit 94 = .ok (.aload 10, 2) := by decide +kernel
theorem dX1_orbit_96 : decode cX1_orbit 96 = .ok (.getfield 157, 3) := by decide +kernel
theorem dX1_orbit_99 : decode cX1_orbit 99 = .ok (.ifCond .ne 7, 3) := by decide +kernel
theorem dX1_orbit_102 : decode cX1_orbit 102 = .ok (.iconst 1, 1) := by decide +kernel
theorem dX1_orbit_103 : decode cX1_orbit 103 = .ok (.goto 4, 3) := by decide +kernel
theorem dX1_orbit_106 : decode cX1_orbit 106 = .ok (.iconst 0, 1) := by decide +kernel
theorem dX1_orbit_107 : decode cX1_orbit 107 = .ok (.istore 11, 2) := by decide +kernel
theorem dX1_orbit_109 : decode cX1_orbit 109 = .ok (.aload 10, 2) := by decide +kernel
theorem dX1_orbit_111 : decode cX1_orbit 111 = .ok (.iconst 1, 1) := by decide +kernel
theorem dX1_orbit_112 : decode cX1_orbit 112 = .ok (.putfield 157, 3) := by decide +kernel
theorem dX1_orbit_115 : decode cX1_orbit 115 = .ok (.aload 10, 2) := by decide +kernel
theorem dX1_orbit_117 : decode cX1_orbit 117 = .ok (.dload_n 2, 1) := by decide +kernel
theorem dX1_orbit_118 : decode cX1_orbit 118 = .ok (.putfield 161, 3) := by decide +kernel
theorem dX1_orbit_121 : decode cX1_orbit 121 = .ok (.aload 10, 2) := by decide +kernel
theorem dX1_orbit_123 : decode cX1_orbit 123 = .ok (.dload 4, 2) := by decide +kernel
theorem dX1_orbit_125 : decode cX1_orbit 125 = .ok (.putfield 164, 3) := by decide +kernel
theorem dX1_orbit_128 : decode cX1_orbit 128 = .ok (.aload 10, 2) := by decide +kernel
theorem dX1_orbit_130 : decode cX1_orbit 130 = .ok (.dload 6, 2) := by decide +kernel
theorem dX1_orbit_132 : decode cX1_orbit 132 = .ok (.putfield 167, 3) := by decide +kernel
theorem dX1_orbit_135 : decode cX1_orbit 135 = .ok (.aload 10, 2) := by decide +kernel
theorem dX1_orbit_137 : decode cX1_orbit 137 = .ok (.dload 8, 2) := by decide +kernel
theorem dX1_orbit_139 : decode cX1_orbit 139 = .ok (.putfield 170, 3) := by decide +kernel
theorem dX1_orbit_142 : decode cX1_orbit 142 = .ok (.iload 11, 2) := by decide +kernel
theorem dX1_orbit_144 : decode cX1_orbit 144 = .ok (.ireturn, 1) := by decide +kernel
set_option maxRecDepth 20000 in
theorem ggX1_term_X1_bodyThatIsSet : GoodIn wsX1_term wsX1_bodyThatIsSet := goodIn_ca (goodIn_r _ [16, 17, 18, 19, 36, 37, 38, 39, 40, 41, 42, 26, 27, 28, 29, 30, 31, 32, 33, 34, 35] (by decide +kernel) (by decide +kernel)) (goodIn_sub (fun _ h => List.mem_cons_of_mem _ (List.mem_append_right _ h)) (by decide +kernel))
set_option maxRecDepth 20000 in
theorem gX1_term_X1_bodyThatIsSet : GoodIn wsX1_term (wsV RX1 173 RX1 yX1_bodyThatIsSet wsX1_bodyThatIsSet) := goodIn_app (goodIn_of _ (by decide +kernel)) ggX1_term_X1_bodyThatIsSet
set_option maxRecDepth 20000 in
theorem ggX1_term_X1_isWholeWithin : GoodIn wsX1_term wsX1_isWholeWithin := goodIn_r _ [22] (by decide +kernel) (by decide +kernel)
set_option maxRecDepth 20000 in
theorem gX1_term_X1_isWholeWithin : GoodIn wsX1_term (va_wsS RX1 39 yX1_isWholeWithin wsX1_isWholeWithin) := goodIn_app (goodIn_of _ (by decide +kernel)) ggX1_term_X1_isWholeWithin
set_option maxRecDepth 20000 in
theorem ggX1_term_X1_isWithin : GoodIn wsX1_term wsX1_isWithin := goodIn_r _ [25] (by decide +kernel) (by decide +kernel)
set_option maxRecDepth 20000 in
theorem gX1_term_X1_isWithin : GoodIn wsX1_term (va_wsS RX1 145 yX1_isWithin wsX1_isWithin) := goodIn_app (goodIn_of _ (by decide +kernel)) ggX1_term_X1_isWithin
theorem dX1_term_0 : decode cX1_term 0 = .ok (.aload_n 0, 1) := by decide +kernel
theorem dX1_term_1 : decode cX1_term 1 = .ok (.iload_n 1, 1) := by decide +kernel
theorem dX1_term_2 : decode cX1_term 2 = .ok (.invokevirtual 173, 3) := by decide +kernel
theorem dX1_term_5 : decode cX1_term 5 = .ok (.astore 9, 2) := by decide +kernel
theorem dX1_term_7 : decode cX1_term 7 = .ok (.iload_n 2, 1) := by decide +kernel
theorem dX1_term_8 : decode cX1_term 8 = .ok (.i2l, 1) := by decide +kernel
theorem dX1_term_9 : decode cX1_term 9 = .ok (.lconst 0, 1) := by decide +kernel
theorem dX1_term_10 : decode cX1_term 10 = .ok (.ldc2_w 37, 3) := by decide +kernel
theorem dX1_term_13 : decode cX1_term 13 = .ok (.invokestatic 39, 3) := by decide +kernel
theorem dX1_term_16 : decode cX1_term 16 = .ok (.ifCond .eq 44, 3) := by decide +kernel
theorem dX1_term_19 : decode cX1_term 19 = .ok (.dload_n 3, 1) := by decide +kernel
theorem dX1_term_20 : decode cX1_term 20 = .ok (.ldc2_w 177, 3) := by decide +kernel
theorem dX1_term_23 : decode cX1_term 23 = .ok (.ldc2_w 179, 3) := by decide +kernel
theorem dX1_term_26 : decode cX1_term 26 = .ok (.invokestatic 145, 3) := by decide +kernel
theorem dX1_term_29 : decode cX1_term 29 = .ok (.ifCond .eq 31, 3) := by decide +kernel
theorem dX1_term_32 : decode cX1_term 32 = .ok (.dload 5, 2) := by decide +kernel
theorem dX1_term_34 : decode cX1_term 34 = .ok (.ldc2_w 141, 3) := by decide +kernel
theorem dX1_term_37 : decode cX1_term 37 = .ok (.ldc2_w 143, 3) := by decide +kernel
theorem dX1_term_40 : decode cX1_term 40 = .ok (.invokestatic 145, 3) := by decide +kernel
theorem dX1_term_43 : decode cX1_term 43 = .ok (.ifCond .eq 17, 3) := by decide +kernel
theorem dX1_term_46 : decode cX1_term 46 = .ok (.dload 7, 2) := by decide +kernel
theorem dX1_term_48 : decode cX1_term 48 = .ok (.ldc2_w 149, 3) := by decide +kernel
theorem dX1_term_51 : decode cX1_term 51 = .ok (.ldc2_w 151, 3) := by decide +kernel
theorem dX1_term_54 : decode cX1_term 54 = .ok (.invokestatic 145, 3) := by decide +kernel
theorem dX1_term_57 : decode cX1_term 57 = .ok (.ifCond .ne 13, 3) := by decide +kernel
theorem dX1_term_60 : decode cX1_term 60 = .ok (.new 43, 3) := by decide +kernel
theorem dX1_term_63 : decode cX1_term 63 = .ok (.dup, 1) := by decide +kernel
theorem dX1_term_64 : decode cX1_term 64 = .ok (.ldc 181, 2) := by decide +kernel
theorem dX1_term_66 : decode cX1_term 66 = .ok (.invokespecial 47, 3) := by decide +kernel
theorem dX1_term_69 : decode cX1_term 69 = .ok (.athrow, 1) := by decide +kernel
theorem dX1_term_70 : decode cX1_term 70 = .ok (.aload 9, 2) := by decide +kernel
theorem dX1_term_72 : decode cX1_term 72 = .ok (.getfield 183, 3) := by decide +kernel
theorem dX1_term_75 : decode cX1_term 75 = .ok (.istore 10, 2) := by decide +kernel
theorem dX1_term_77 : decode cX1_term 77 = .ok (.iload 10, 2) := by decide +kernel
theorem dX1_term_79 : decode cX1_term 79 = .ok (.ifCond .lt 10, 3) := by decide +kernel
theorem dX1_term_82 : decode cX1_term 82 = .ok (.iload 10, 2) := by decide +kernel
theorem dX1_term_84 : decode cX1_term 84 = .ok (.bipush 12, 2) := by decide +kernel
theorem dX1_term_86 : decode cX1_term 86 = .ok (.if_icmp .lt 13, 3) := by decide +kernel
theorem dX1_term_89 : decode cX1_term 89 = .ok (.new 186, 3) := by decide +kernel
theorem dX1_term_92 : decode cX1_term 92 = .ok (.dup, 1) := by decide +kernel
theorem dX1_term_93 : decode cX1_term 93 = .ok (.ldc 188, 2) := by decide +kernel
theorem dX1_term_95 : decode cX1_term 95 = .ok (.invokespecial 190, 3) := by decide +kernel
theorem dX1_term_98 : decode cX1_term 98 = .ok (.athrow, 1) := by decide +kernel
theorem dX1_term_99 : decode cX1_term 99 = .ok (.aload 9, 2) := by decide +kernel
theorem dX1_term_101 : decode cX1_term 101 = .ok (.getfield 191, 3) := by decide +kernel
theorem dX1_term_104 : decode cX1_term 104 = .ok (.iload 10, 2) := by decide +kernel
theorem dX1_term_106 : decode cX1_term 106 = .ok (.iload_n 2, 1) := by decide +kernel
theorem dX1_term_107 : decode cX1_term 107 = .ok (.iastore, 1) := by decide +kernel
theorem dX1_term_108 : decode cX1_term 108 = .ok (.aload 9, 2) := by decide +kernel
theorem dX1_term_110 : decode cX1_term 110 = .ok (.getfield 194, 3) := by decide +kernel
theorem dX1_term_113 : decode cX1_term 113 = .ok (.iload 10, 2) := by decide +kernel
theorem dX1_term_115 : decode cX1_term 115 = .ok (.dload_n 3, 1) := by decide +kernel
theorem dX1_term_116 : decode cX1_term 116 = .ok (.dastore, 1) := by decide +kernel
theorem dX1_term_117 : decode cX1_term 117 = .ok (.aload 9, 2) := by decide +kernel
theorem dX1_term_119 : decode cX1_term 119 = .ok (.getfield 198, 3) := by decide +kernel
theorem dX1_term_122 : decode cX1_term 122 = .ok (.iload 10, 2) := by decide +kernel
theorem dX1_term_124 : decode cX1_term 124 = .ok (.dload 5, 2) := by decide +kernel
theorem dX1_term_126 : decode cX1_term 126 = .ok (.dastore, 1) := by decide +kernel
theorem dX1_term_127 : decode cX1_term 127 = .ok (.aload 9, 2) := by decide +kernel
theorem dX1_term_129 : decode cX1_term 129 = .ok (.getfield 201, 3) := by decide +kernel
theorem dX1_term_132 : decode cX1_term 132 = .ok (.iload 10, 2) := by decide +kernel
theorem dX1_term_134 : decode cX1_term 134 = .ok (.dload 7, 2) := by decide +kernel
theorem dX1_term_136 : decode cX1_term 136 = .ok (.dastore, 1) := by decide +kernel
theorem dX1_term_137 : decode cX1_term 137 = .ok (.aload 9, 2) := by decide +kernel
theorem dX1_term_139 : decode cX1_term 139 = .ok (.iload 10, 2) := by decide +kernel
theorem dX1_term_141 : decode cX1_term 141 = .ok (.iconst 1, 1) := by decide +kernel
theorem dX1_term_142 : decode cX1_term 142 = .ok (.iadd, 1) := by decide +kernel
theorem dX1_term_143 : decode cX1_term 143 = .ok (.putfield 183, 3) := by decide +kernel
theorem dX1_term_146 : decode cX1_term 146 = .ok (.aload 9, 2) := by decide +kernel
theorem dX1_term_148 : decode cX1_term 148 = .ok (.getfield 183, 3) := by decide +kernel
theorem dX1_term_151 : decode cX1_term 151 = .ok (.ireturn, 1) := by decide +kernel
set_option maxRecDepth 20000 in
theorem ggX1_observer_X1_isWithin : GoodIn wsX1_observer wsX1_isWithin := goodIn_r _ [12] (by decide +kernel) (by decide +kernel)
set_option maxRecDepth 20000 in
theorem gX1_observer_X1_isWithin : GoodIn wsX1_observer (va_wsS RX1 145 yX1_isWithin wsX1_isWithin) := goodIn_app (goodIn_of _ (by decide +kernel)) ggX1_observer_X1_isWithin
theorem dX1_observer_0 : decode cX1_observer 0 = .ok (.dload_n 1, 1) := by decide +kernel
theorem dX1_observer_1 : decode cX1_observer 1 = .ok (.ldc2_w 204, 3) := by decide +kernel
theorem dX1_observer_4 : decode cX1_observer 4 = .ok (.ldc2_w 206, 3) := by decide +kernel
theorem dX1_observer_7 : decode cX1_observer 7 = .ok (.invokestatic 145, 3) := by decide +kernel
theorem dX1_observer_10 : decode cX1_observer 10 = .ok (.ifCond .eq 16, 3) := by decide +kernel
theorem dX1_observer_13 : decode cX1_observer 13 = .ok (.dload_n 3, 1) := by decide +kernel
theorem dX1_observer_14 : decode cX1_observer 14 = .ok (.ldc2_w 208, 3) := by decide +kernel
theorem dX1_observer_17 : decode cX1_observer 17 = .ok (.ldc2_w 210, 3) := by decide +kernel
theorem dX1_observer_20 : decode cX1_observer 20 = .ok (.invokestatic 145, 3) := by decide +kernel
theorem dX1_observer_23 : decode cX1_observer 23 = .ok (.ifCond .ne 13, 3) := by decide +kernel
theorem dX1_observer_26 : decode cX1_observer 26 = .ok (.new 43, 3) := by decide +kernel
theorem dX1_observer_29 : decode cX1_observer 29 = .ok (.dup, 1) := by decide +kernel
theorem dX1_observer_30 : decode cX1_observer 30 = .ok (.ldc 212, 2) := by decide +kernel
theorem dX1_observer_32 : decode cX1_observer 32 = .ok (.invokespecial 47, 3) := by decide +kernel
theorem dX1_observer_35 : decode cX1_observer 35 = .ok (.athrow, 1) := by decide +kernel
theorem dX1_observer_36 : decode cX1_observer 36 = .ok (.dload_n 1, 1) := by decide +kernel
theorem dX1_observer_37 : decode cX1_observer 37 = .ok (.aload_n 0, 1) := by decide +kernel
theorem dX1_observer_38 : decode cX1_observer 38 = .ok (.getfield 24, 3) := by decide +kernel
theorem dX1_observer_41 : decode cX1_observer 41 = .ok (.dcmp .l, 1) := by decide +kernel
theorem dX1_observer_42 : decode cX1_observer 42 = .ok (.ifCond .ne 12, 3) := by decide +kernel
theorem dX1_observer_45 : decode cX1_observer 45 = .ok (.dload_n 3, 1) := by decide +kernel
theorem dX1_observer_46 : decode cX1_observer 46 = .ok (.aload_n 0, 1) := by decide +kernel
theorem dX1_observer_47 : decode cX1_observer 47 = .ok (.getfield 28, 3) := by decide +kernel
theorem dX1_observer_50 : decode cX1_observer 50 = .ok (.dcmp .l, 1) := by decide +kernel
theorem dX1_observer_51 : decode cX1_observer 51 = .ok (.ifCond .eq 7, 3) := by decide +kernel
theorem dX1_observer_54 : decode cX1_observer 54 = .ok (.iconst 1, 1) := by decide +kernel
theorem dX1_observer_55 : decode cX1_observer 55 = .ok (.goto 4, 3) := by decide +kernel
theorem dX1_observer_58 : decode cX1_observer 58 = .ok (.iconst 0, 1) := by decide +kernel
theorem dX1_observer_59 : decode cX1_observer 59 = .ok (.istore 5, 2) := by decide +kernel
theorem dX1_observer_61 : decode cX1_observer 61 = .ok (.aload_n 0, 1) := by decide +kernel
theorem dX1_observer_62 : decode cX1_observer 62 = .ok (.dload_n 1, 1) := by decide +kernel
theorem dX1_observer_63 : decode cX1_observer 63 = .ok (.putfield 24, 3) := by decide +kernel
theorem dX1_observer_66 : decode cX1_observer 66 = .ok (.aload_n 0, 1) := by decide +kernel
theorem dX1_observer_67 : decode cX1_observer 67 = .ok (.dload_n 3, 1) := by decide +kernel
theorem dX1_observer_68 : decode cX1_observer 68 = .ok (.putfield 28, 3) := by decide +kernel
theorem dX1_observer_71 : decode cX1_observer 71 = .ok (.iload 5, 2) := by decide +kernel
theorem dX1_observer_73 : decode cX1_observer 73 = .ok (.ireturn, 1) := by decide +kernel
theorem dX1_bodyThatIsSet_0 : decode cX1_bodyThatIsSet 0 = .ok (.iload_n 1, 1) := by decide +kernel
theorem dX1_bodyThatIsSet_1 : decode cX1_bodyThatIsSet 1 = .ok (.ifCond .lt 24, 3) := by decide +kernel
theorem dX1_bodyThatIsSet_4 : decode cX1_bodyThatIsSet 4 = .ok (.iload_n 1, 1) := by decide +kernel
theorem dX1_bodyThatIsSet_5 : decode cX1_bodyThatIsSet 5 = .ok (.aload_n 0, 1) := by decide +kernel
theorem dX1_bodyThatIsSet_6 : decode cX1_bodyThatIsSet 6 = .ok (.getfield 11, 3) := by decide +kernel
theorem dX1_bodyThatIsSet_9 : decode cX1_bodyThatIsSet 9 = .ok (.arraylength, 1) := by decide +kernel
theorem dX1_bodyThatIsSet_10 : decode cX1_bodyThatIsSet 10 = .ok (.if_icmp .ge 15, 3) := by decide +kernel
theorem dX1_bodyThatIsSet_13 : decode cX1_bodyThatIsSet 13 = .ok (.aload_n 0, 1) := by decide +kernel
theorem dX1_bodyThatIsSet_14 : decode cX1_bodyThatIsSet 14 = .ok (.getfield 11, 3) := by decide +kernel
theorem dX1_bodyThatIsSet_17 : decode cX1_bodyThatIsSet 17 = .ok (.iload_n 1, 1) := by decide +kernel
theorem dX1_bodyThatIsSet_18 : decode cX1_bodyThatIsSet 18 = .ok (.aaload, 1) := by decide +kernel
theorem dX1_bodyThatIsSet_19 : decode cX1_bodyThatIsSet 19 = .ok (.getfield 157, 3) := by decide +kernel
theorem dX1_bodyThatIsSet_22 : decode cX1_bodyThatIsSet 22 = .ok (.ifCond .ne 13, 3) := by decide +kernel
theorem dX1_bodyThatIsSet_25 : decode cX1_bodyThatIsSet 25 = .ok (.new 214, 3) := by decide +kernel
theorem dX1_bodyThatIsSet_28 : decode cX1_bodyThatIsSet 28 = .ok (.dup, 1) := by decide +kernel
theorem dX1_bodyThatIsSet_29 : decode cX1_bodyThatIsSet 29 = .ok (.ldc 216, 2) := by decide +kernel
theorem dX1_bodyThatIsSet_31 : decode cX1_bodyThatIsSet 31 = .ok (.invokespecial 218, 3) := by decide +kernel
theorem dX1_bodyThatIsSet_34 : decode cX1_bodyThatIsSet 34 = .ok (.athrow, 1) := by decide +kernel
theorem dX1_bodyThatIsSet_35 : decode cX1_bodyThatIsSet 35 = .ok (.aload_n 0, 1) := by decide +kernel
theorem dX1_bodyThatIsSet_36 : decode cX1_bodyThatIsSet 36 = .ok (.getfield 11, 3) := by decide +kernel
theorem dX1_bodyThatIsSet_39 : decode cX1_bodyThatIsSet 39 = .ok (.iload_n 1, 1) := by decide +kernel
theorem dX1_bodyThatIsSet_40 : decode cX1_bodyThatIsSet 40 = .ok (.aaload, 1) := by decide +kernel
theorem dX1_bodyThatIsSet_41 : decode cX1_bodyThatIsSet 41 = .ok (.areturn, 1) := by decide +kernel
set_option maxRecDepth 20000 in
theorem ggX1_longitude_X1_bodyThatIsSet : GoodIn wsX1_longitude wsX1_bodyThatIsSet := goodIn_ca (goodIn_r _ [7, 8, 9, 10, 74, 75, 76, 77, 78, 79, 80, 81, 82, 83, 84, 85, 86, 87, 88, 89, 90] (by decide +kernel) (by decide +kernel)) (goodIn_sub (fun _ h => List.mem_cons_of_mem _ (List.mem_append_left _ (List.mem_append_right _ h))) (by decide +kernel))
set_option maxRecDepth 20000 in
theorem gX1_longitude_X1_bodyThatIsSet : GoodIn wsX1_longitude (wsV RX1 173 RX1 yX1_bodyThatIsSet wsX1_bodyThatIsSet) := goodIn_app (goodIn_of _ (by decide +kernel)) ggX1_longitude_X1_bodyThatIsSet
set_option maxRecDepth 20000 in
theorem ggX1_longitude_X1_isTime : GoodIn wsX1_longitude wsX1_isTime := goodIn_r _ [13, 14, 15, 16, 17, 6, 18] (by decide +kernel) (by decide +kernel)
set_option maxRecDepth 20000 in
theorem gX1_longitude_X1_isTime : GoodIn wsX1_longitude (va_wsS RX1 219 yX1_isTime wsX1_isTime) := goodIn_app (goodIn_of _ (by decide +kernel)) ggX1_longitude_X1_isTime
set_option maxRecDepth 20000 in
theorem ggX1_longitude_X1_longitudeOf : GoodIn wsX1_longitude wsX1_longitudeOf := goodIn_ca (goodIn_r _ [22, 23, 24, 25, 26, 27, 28, 6, 29, 30, 31, 32, 33, 34, 35, 36, 37, 38, 39, 40, 41, 42, 43, 44, 45, 46, 47, 48, 49, 50, 51, 52, 53, 54, 55, 56, 57, 58, 59, 60, 61, 62, 63, 64, 65, 66, 67, 68, 69, 70, 71, 72, 73, 74, 75, 76, 77, 78, 79, 80, 81, 82, 83, 84, 85, 86, 87, 88, 89, 90] (by decide +kernel) (by decide +kernel)) (goodIn_sub (fun _ h => List.mem_cons_of_mem _ (List.mem_append_right _ h)) (by decide +kernel))
set_option maxRecDepth 20000 in
theorem gX1_longitude_X1_longitudeOf : GoodIn wsX1_longitude (wsV RX1 225 RX1 yX1_longitudeOf wsX1_longitudeOf) := goodIn_app (goodIn_of _ (by decide +kernel)) ggX1_longitude_X1_longitudeOf
theorem dX1_longitude_0 : decode cX1_longitude 0 = .ok (.aload_n 0, 1) := by decide +kernel
theorem dX1_longitude_1 : decode cX1_longitude 1 = .ok (.iload_n 1, 1) := by decide +kernel
theorem dX1_longitude_2 : decode cX1_longitude 2 = .ok (.invokevirtual 173, 3) := by decide +kernel
theorem dX1_longitude_5 : decode cX1_longitude 5 = .ok (.astore 4, 2) := by decide +kernel
theorem dX1_longitude_7 : decode cX1_longitude 7 = .ok (.dload_n 2, 1) := by decide +kernel
theorem dX1_longitude_8 : decode cX1_longitude 8 = .ok (.invokestatic 219, 3) := by decide +kernel
theorem dX1_longitude_11 : decode cX1_longitude 11 = .ok (.ifCond .ne 13, 3) := by decide +kernel
theorem dX1_longitude_14 : decode cX1_longitude 14 = .ok (.new 43, 3) := by decide +kernel
theorem dX1_longitude_17 : decode cX1_longitude 17 = .ok (.dup, 1) := by decide +kernel
theorem dX1_longitude_18 : decode cX1_longitude 18 = .ok (.ldc 223, 2) := by decide +kernel
theorem dX1_longitude_20 : decode cX1_longitude 20 = .ok (.invokespecial 47, 3) := by decide +kernel
theorem dX1_longitude_23 : decode cX1_longitude 23 = .ok (.athrow, 1) := by decide +kernel
theorem dX1_longitude_24 : decode cX1_longitude 24 = .ok (.aload_n 0, 1) := by decide +kernel
theorem dX1_longitude_25 : decode cX1_longitude 25 = .ok (.aload 4, 2) := by decide +kernel
theorem dX1_longitude_27 : decode cX1_longitude 27 = .ok (.dload_n 2, 1) := by decide +kernel
theorem dX1_longitude_28 : decode cX1_longitude 28 = .ok (.invokevirtual 225, 3) := by decide +kernel
theorem dX1_longitude_31 : decode cX1_longitude 31 = .ok (.dreturn, 1) := by decide +kernel
set_option maxRecDepth 20000 in
theorem ggX1_height_X1_bodyThatIsSet : GoodIn wsX1_height wsX1_bodyThatIsSet := goodIn_ca (goodIn_r _ [7, 8, 9, 10, 87, 88, 89, 90, 91, 92, 93, 94, 95, 96, 97, 98, 99, 100, 101, 102, 103] (by decide +kernel) (by decide +kernel)) (goodIn_sub (fun _ h => List.mem_cons_of_mem _ (List.mem_append_left _ (List.mem_append_right _ h))) (by decide +kernel))
set_option maxRecDepth 20000 in
theorem gX1_height_X1_bodyThatIsSet : GoodIn wsX1_height (wsV RX1 173 RX1 yX1_bodyThatIsSet wsX1_bodyThatIsSet) := goodIn_app (goodIn_of _ (by decide +kernel)) ggX1_height_X1_bodyThatIsSet
set_option maxRecDepth 20000 in
theorem ggX1_height_X1_isTime : GoodIn wsX1_height wsX1_isTime := goodIn_r _ [13, 14, 15, 16, 17, 6, 18] (by decide +kernel) (by decide +kernel)
set_option maxRecDepth 20000 in
theorem gX1_height_X1_isTime : GoodIn wsX1_height (va_wsS RX1 219 yX1_isTime wsX1_isTime) := goodIn_app (goodIn_of _ (by decide +kernel)) ggX1_height_X1_isTime
set_option maxRecDepth 20000 in
theorem ggX1_height_X1_heightOf : GoodIn wsX1_height wsX1_heightOf := goodIn_ca (goodIn_r _ [22, 23, 24, 25, 26, 27, 28, 29, 6, 30, 31, 32, 33, 34, 35, 36, 37, 38, 39, 40, 41, 42, 43, 44, 45, 46, 47, 48, 49, 50, 51, 52, 53, 54, 55, 56, 57, 58, 59, 60, 61, 62, 63, 64, 65, 66, 67, 68, 69, 70, 71, 72, 73, 74, 75, 76, 77, 78, 79, 80, 81, 82, 83, 84, 85, 86, 87, 88, 89, 90, 91, 92, 93, 94, 95, 96, 97, 98, 99, 100, 101, 102, 103] (by decide +kernel) (by decide +kernel)) (goodIn_sub (fun _ h => List.mem_cons_of_mem _ (List.mem_append_right _ h)) (by decide +kernel))
set_option maxRecDepth 20000 in
theorem gX1_height_X1_heightOf : GoodIn wsX1_height (wsV RX1 229 RX1 yX1_heightOf wsX1_heightOf) := goodIn_app (goodIn_of _ (by decide +kernel)) ggX1_height_X1_heightOf
theorem dX1_height_0 : decode cX1_height 0 = .ok (.aload_n 0, 1) := by decide +kernel
theorem dX1_height_1 : decode cX1_height 1 = .ok (.iload_n 1, 1) := by decide +kernel
theorem dX1_height_2 : decode cX1_height 2 = .ok (.invokevirtual 173, 3) := by decide +kernel
theorem dX1_height_5 : decode cX1_height 5 = .ok (.astore 4, 2) := by decide +kernel
theorem dX1_height_7 : decode cX1_height 7 = .ok (.dload_n 2, 1) := by decide +kernel
theorem dX1_height_8 : decode cX1_height 8 = .ok (.invokestatic 219, 3) := by decide +kernel
theorem dX1_height_11 : decode cX1_height 11 = .ok (.ifCond .ne 13, 3) := by decide +kernel
theorem dX1_height_14 : decode cX1_height 14 = .ok (.new 43, 3) := by decide +kernel
theorem dX1_height_17 : decode cX1_height 17 = .ok (.dup, 1) := by decide +kernel
theorem dX1_height_18 : decode cX1_height 18 = .ok (.ldc 223, 2) := by decide +kernel
theorem dX1_height_20 : decode cX1_height 20 = .ok (.invokespecial 47, 3) := by decide +kernel
theorem dX1_height_23 : decode cX1_height 23 = .ok (.athrow, 1) := by decide +kernel
theorem dX1_height_24 : decode cX1_height 24 = .ok (.aload_n 0, 1) := by decide +kernel
theorem dX1_height_25 : decode cX1_height 25 = .ok (.aload 4, 2) := by decide +kernel
theorem dX1_height_27 : decode cX1_height 27 = .ok (.dload_n 2, 1) := by decide +kernel
theorem dX1_height_28 : decode cX1_height 28 = .ok (.invokevirtual 229, 3) := by decide +kernel
theorem dX1_height_31 : decode cX1_height 31 = .ok (.dreturn, 1) := by decide +kernel
set_option maxRecDepth 20000 in
theorem ggX1_sidereal_X1_isTime : GoodIn wsX1_sidereal wsX1_isTime := goodIn_r _ [6, 7, 8, 9, 10, 5, 11] (by decide +kernel) (by decide +kernel)
set_option maxRecDepth 20000 in
theorem gX1_sidereal_X1_isTime : GoodIn wsX1_sidereal (va_wsS RX1 219 yX1_isTime wsX1_isTime) := goodIn_app (goodIn_of _ (by decide +kernel)) ggX1_sidereal_X1_isTime
set_option maxRecDepth 20000 in
theorem ggX1_sidereal_X1_siderealAngle : GoodIn wsX1_sidereal wsX1_siderealAngle := goodIn_r _ [14, 15, 16, 17, 18, 19, 5, 20, 21] (by decide +kernel) (by decide +kernel)
set_option maxRecDepth 20000 in
theorem gX1_sidereal_X1_siderealAngle : GoodIn wsX1_sidereal (va_wsS RX1 232 yX1_siderealAngle wsX1_siderealAngle) := goodIn_app (goodIn_of _ (by decide +kernel)) ggX1_sidereal_X1_siderealAngle
theorem dX1_sidereal_0 : decode cX1_sidereal 0 = .ok (.dload_n 1, 1) := by decide +kernel
theorem dX1_sidereal_1 : decode cX1_sidereal 1 = .ok (.invokestatic 219, 3) := by decide +kernel
theorem dX1_sidereal_4 : decode cX1_sidereal 4 = .ok (.ifCond .ne 13, 3) := by decide +kernel
theorem dX1_sidereal_7 : decode cX1_sidereal 7 = .ok (.new 43, 3) := by decide +kernel
theorem dX1_sidereal_10 : decode cX1_sidereal 10 = .ok (.dup, 1) := by decide +kernel
theorem dX1_sidereal_11 : decode cX1_sidereal 11 = .ok (.ldc 223, 2) := by decide +kernel
theorem dX1_sidereal_13 : decode cX1_sidereal 13 = .ok (.invokespecial 47, 3) := by decide +kernel
theorem dX1_sidereal_16 : decode cX1_sidereal 16 = .ok (.athrow, 1) := by decide +kernel
theorem dX1_sidereal_17 : decode cX1_sidereal 17 = .ok (.dload_n 1, 1) := by decide +kernel
theorem dX1_sidereal_18 : decode cX1_sidereal 18 = .ok (.invokestatic 232, 3) := by decide +kernel
theorem dX1_sidereal_21 : decode cX1_sidereal 21 = .ok (.dreturn, 1) := by decide +kernel
theorem dX1_count_0 : decode cX1_count 0 = .ok (.iload_n 1, 1) := by decide +kernel
theorem dX1_count_1 : decode cX1_count 1 = .ok (.ifCond .eq 10, 3) := by decide +kernel
theorem dX1_count_4 : decode cX1_count 4 = .ok (.aload_n 0, 1) := by decide +kernel
theorem dX1_count_5 : decode cX1_count 5 = .ok (.getfield 34, 3) := by decide +kernel
theorem dX1_count_8 : decode cX1_count 8 = .ok (.goto 7, 3) := by decide +kernel
theorem dX1_count_11 : decode cX1_count 11 = .ok (.aload_n 0, 1) := by decide +kernel
theorem dX1_count_12 : decode cX1_count 12 = .ok (.getfield 31, 3) := by decide +kernel
theorem dX1_count_15 : decode cX1_count 15 = .ok (.ireturn, 1) := by decide +kernel
set_option maxRecDepth 20000 in
theorem ggX1_longitudeOf_X1_red : GoodIn wsX1_longitudeOf wsX1_red := goodIn_r _ [8, 9, 10] (by decide +kernel) (by decide +kernel)
set_option maxRecDepth 20000 in
theorem gX1_longitudeOf_X1_red : GoodIn wsX1_longitudeOf (va_wsS RX1 236 yX1_red wsX1_red) := goodIn_app (goodIn_of _ (by decide +kernel)) ggX1_longitudeOf_X1_red
set_option maxRecDepth 20000 in
theorem ggX1_longitudeOf_X1_anomalyOf : GoodIn wsX1_longitudeOf wsX1_anomalyOf := goodIn_ca (goodIn_r _ [14, 15, 16, 17, 18, 19, 20, 21, 7, 22, 23, 24, 25, 26, 5, 6, 8, 9, 10, 27, 28, 29, 30, 2, 31, 32, 33, 34, 35, 36, 37, 38, 39, 40, 41, 42, 43, 60, 61, 62, 63, 64, 65, 66, 67, 68, 69, 53, 54, 55, 56, 57, 58, 59] (by decide +kernel) (by decide +kernel)) (goodIn_sub (fun _ h => List.mem_cons_of_mem _ (List.mem_append_right _ h)) (by decide +kernel))
set_option maxRecDepth 20000 in
theorem gX1_longitudeOf_X1_anomalyOf : GoodIn wsX1_longitudeOf (wsV RX1 239 RX1 yX1_anomalyOf wsX1_anomalyOf) := goodIn_app (goodIn_of _ (by decide +kernel)) ggX1_longitudeOf_X1_anomalyOf
set_option maxRecDepth 20000 in
theorem ggX1_longitudeOf_X1_degreesInRadian : GoodIn wsX1_longitudeOf wsX1_degreesInRadian := goodIn_r _ [22, 23] (by decide +kernel) (by decide +kernel)
set_option maxRecDepth 20000 in
theorem gX1_longitudeOf_X1_degreesInRadian : GoodIn wsX1_longitudeOf (va_wsS RX1 242 yX1_degreesInRadian wsX1_degreesInRadian) := goodIn_app (goodIn_of _ (by decide +kernel)) ggX1_longitudeOf_X1_degreesInRadian
set_option maxRecDepth 20000 in
theorem ggX1_longitudeOf_X1_sine : GoodIn wsX1_longitudeOf wsX1_sine := goodIn_r _ [26, 5, 6, 7, 8, 9, 10, 27, 28, 29, 30, 2, 31, 32, 33, 34, 35, 36, 37, 38, 39, 40] (by decide +kernel) (by decide +kernel)
set_option maxRecDepth 20000 in
theorem gX1_longitudeOf_X1_sine : GoodIn wsX1_longitudeOf (va_wsS RX1 246 yX1_sine wsX1_sine) := goodIn_app (goodIn_of _ (by decide +kernel)) ggX1_longitudeOf_X1_sine
set_option maxRecDepth 20000 in
theorem ggX1_longitudeOf_X0_sumOfPower : GoodIn wsX1_longitudeOf wsX0_sumOfPower := goodIn_r _ [47, 48, 49, 50, 51, 52, 42, 7, 43, 5, 6, 8, 9, 10, 27, 28, 29, 30, 2, 31, 32, 33, 34, 35, 36, 37, 38, 39, 40, 60, 61, 62, 63, 64, 65, 66, 67, 68, 69] (by decide +kernel) (by decide +kernel)
set_option maxRecDepth 20000 in
theorem gX1_longitudeOf_X0_sumOfPower_n255 : GoodIn wsX1_longitudeOf (wsX0_sumOfPower) := ggX1_longitudeOf_X0_sumOfPower
theorem dX1_longitudeOf_0 : decode cX1_longitudeOf 0 = .ok (.aload_n 0, 1) := by decide +kernel
theorem dX1_longitudeOf_1 : decode cX1_longitudeOf 1 = .ok (.dup, 1) := by decide +kernel
theorem dX1_longitudeOf_2 : decode cX1_longitudeOf 2 = .ok (.getfield 31, 3) := by decide +kernel
theorem dX1_longitudeOf_5 : decode cX1_longitudeOf 5 = .ok (.iconst 1, 1) := by decide +kernel
theorem dX1_longitudeOf_6 : decode cX1_longitudeOf 6 = .ok (.iadd, 1) := by decide +kernel
theorem dX1_longitudeOf_7 : decode cX1_longitudeOf 7 = .ok (.putfield 31, 3) := by decide +kernel
theorem dX1_longitudeOf_10 : decode cX1_longitudeOf 10 = .ok (.aload_n 1, 1) := by decide +kernel
theorem dX1_longitudeOf_11 : decode cX1_longitudeOf 11 = .ok (.getfield 167, 3) := by decide +kernel
theorem dX1_longitudeOf_14 : decode cX1_longitudeOf 14 = .ok (.dstore 4, 2) := by decide +kernel
theorem dX1_longitudeOf_16 : decode cX1_longitudeOf 16 = .ok (.aload_n 0, 1) := by decide +kernel
theorem dX1_longitudeOf_17 : decode cX1_longitudeOf 17 = .ok (.aload_n 1, 1) := by decide +kernel
theorem dX1_longitudeOf_18 : decode cX1_longitudeOf 18 = .ok (.aload_n 1, 1) := by decide +kernel
theorem dX1_longitudeOf_19 : decode cX1_longitudeOf 19 = .ok (.getfield 161, 3) := by decide +kernel
theorem dX1_longitudeOf_22 : decode cX1_longitudeOf 22 = .ok (.aload_n 1, 1) := by decide +kernel
theorem dX1_longitudeOf_23 : decode cX1_longitudeOf 23 = .ok (.getfield 164, 3) := by decide +kernel
theorem dX1_longitudeOf_26 : decode cX1_longitudeOf 26 = .ok (.dload_n 2, 1) := by decide +kernel
theorem dX1_longitudeOf_27 : decode cX1_longitudeOf 27 = .ok (.dmul, 1) := by decide +kernel
theorem dX1_longitudeOf_28 : decode cX1_longitudeOf 28 = .ok (.dadd, 1) := by decide +kernel
theorem dX1_longitudeOf_29 : decode cX1_longitudeOf 29 = .ok (.aload_n 1, 1) := by decide +kernel
theorem dX1_longitudeOf_30 : decode cX1_longitudeOf 30 = .ok (.getfield 170, 3) := by decide +kernel
theorem dX1_longitudeOf_33 : decode cX1_longitudeOf 33 = .ok (.dsub, 1) := by decide +kernel
theorem dX1_longitudeOf_34 : decode cX1_longitudeOf 34 = .ok (.invokestatic 236, 3) := by decide +kernel
theorem dX1_longitudeOf_37 : decode cX1_longitudeOf 37 = .ok (.invokevirtual 239, 3) := by decide +kernel
theorem dX1_longitudeOf_40 : decode cX1_longitudeOf 40 = .ok (.dstore 6, 2) := by decide +kernel
theorem dX1_longitudeOf_42 : decode cX1_longitudeOf 42 = .ok (.dload 6, 2) := by decide +kernel
theorem dX1_longitudeOf_44 : decode cX1_longitudeOf 44 = .ok (.dload 4, 2) := by decide +kernel
theorem dX1_longitudeOf_46 : decode cX1_longitudeOf 46 = .ok (.invokestatic 242, 3) := by decide +kernel
theorem dX1_longitudeOf_49 : decode cX1_longitudeOf 49 = .ok (.dmul, 1) := by decide +kernel
theorem dX1_longitudeOf_50 : decode cX1_longitudeOf 50 = .ok (.dload 6, 2) := by decide +kernel
theorem dX1_longitudeOf_52 : decode cX1_longitudeOf 52 = .ok (.invokestatic 246, 3) := by decide +kernel
theorem dX1_longitudeOf_55 : decode cX1_longitudeOf 55 = .ok (.dmul, 1) := by decide +kernel
theorem dX1_longitudeOf_56 : decode cX1_longitudeOf 56 = .ok (.dadd, 1) := by decide +kernel
theorem dX1_longitudeOf_57 : decode cX1_longitudeOf 57 = .ok (.ldc2_w 249, 3) := by decide +kernel
theorem dX1_longitudeOf_60 : decode cX1_longitudeOf 60 = .ok (.dload 4, 2) := by decide +kernel
theorem dX1_longitudeOf_62 : decode cX1_longitudeOf 62 = .ok (.dmul, 1) := by decide +kernel
theorem dX1_longitudeOf_63 : decode cX1_longitudeOf 63 = .ok (.dload 4, 2) := by decide +kernel
theorem dX1_longitudeOf_65 : decode cX1_longitudeOf 65 = .ok (.dmul, 1) := by decide +kernel
theorem dX1_longitudeOf_66 : decode cX1_longitudeOf 66 = .ok (.invokestatic 242, 3) := by decide +kernel
theorem dX1_longitudeOf_69 : decode cX1_longitudeOf 69 = .ok (.dmul, 1) := by decide +kernel
theorem dX1_longitudeOf_70 : decode cX1_longitudeOf 70 = .ok (.ldc2_w 251, 3) := by decide +kernel
theorem dX1_longitudeOf_73 : decode cX1_longitudeOf 73 = .ok (.dload 6, 2) := by decide +kernel
theorem dX1_longitudeOf_75 : decode cX1_longitudeOf 75 = .ok (.dmul, 1) := by decide +kernel
theorem dX1_longitudeOf_76 : decode cX1_longitudeOf 76 = .ok (.invokestatic 246, 3) := by decide +kernel
theorem dX1_longitudeOf_79 : decode cX1_longitudeOf 79 = .ok (.dmul, 1) := by decide +kernel
theorem dX1_longitudeOf_80 : decode cX1_longitudeOf 80 = .ok (.dadd, 1) := by decide +kernel
theorem dX1_longitudeOf_81 : decode cX1_longitudeOf 81 = .ok (.dstore 8, 2) := by decide +kernel
theorem dX1_longitudeOf_83 : decode cX1_longitudeOf 83 = .ok (.dload_n 2, 1) := by decide +kernel
theorem dX1_longitudeOf_84 : decode cX1_longitudeOf 84 = .ok (.ldc2_w 253, 3) := by decide +kernel
theorem dX1_longitudeOf_87 : decode cX1_longitudeOf 87 = .ok (.ddiv, 1) := by decide +kernel
theorem dX1_longitudeOf_88 : decode cX1_longitudeOf 88 = .ok (.dstore 10, 2) := by decide +kernel
theorem dX1_longitudeOf_90 : decode cX1_longitudeOf 90 = .ok (.aload_n 1, 1) := by decide +kernel
theorem dX1_longitudeOf_91 : decode cX1_longitudeOf 91 = .ok (.iconst 0, 1) := by decide +kernel
theorem dX1_longitudeOf_92 : decode cX1_longitudeOf 92 = .ok (.dload_n 2, 1) := by decide +kernel
theorem dX1_longitudeOf_93 : decode cX1_longitudeOf 93 = .ok (.invokevirtual 255, 3) := by decide +kernel
theorem dX1_longitudeOf_96 : decode cX1_longitudeOf 96 = .ok (.dload 10, 2) := by decide +kernel
theorem dX1_longitudeOf_98 : decode cX1_longitudeOf 98 = .ok (.aload_n 1, 1) := by decide +kernel
theorem dX1_longitudeOf_99 : decode cX1_longitudeOf 99 = .ok (.iconst 1, 1) := by decide +kernel
theorem dX1_longitudeOf_100 : decode cX1_longitudeOf 100 = .ok (.dload_n 2, 1) := by decide +kernel
theorem dX1_longitudeOf_101 : decode cX1_longitudeOf 101 = .ok (.invokevirtual 255, 3) := by decide +kernel
theorem dX1_longitudeOf_104 : decode cX1_longitudeOf 104 = .ok (.dload 10, 2) := by decide +kernel
theorem dX1_longitudeOf_106 : decode cX1_longitudeOf 106 = .ok (.aload_n 1, 1) := by decide +kernel
theorem dX1_longitudeOf_107 : decode cX1_longitudeOf 107 = .ok (.iconst 2, 1) := by decide +kernel
theorem dX1_longitudeOf_108 : decode cX1_longitudeOf 108 = .ok (.dload_n 2, 1) := by decide +kernel
theorem dX1_longitudeOf_109 : decode cX1_longitudeOf 109 = .ok (.invokevirtual 255, 3) := by decide +kernel
theorem dX1_longitudeOf_112 : decode cX1_longitudeOf 112 = .ok (.dmul, 1) := by decide +kernel
theorem dX1_longitudeOf_113 : decode cX1_longitudeOf 113 = .ok (.dadd, 1) := by decide +kernel
theorem dX1_longitudeOf_114 : decode cX1_longitudeOf 114 = .ok (.dmul, 1) := by decide +kernel
theorem dX1_longitudeOf_115 : decode cX1_longitudeOf 115 = .ok (.dadd, 1) := by decide +kernel
theorem dX1_longitudeOf_116 : decode cX1_longitudeOf 116 = .ok (.dstore 12, 2) := by decide +kernel
theorem dX1_longitudeOf_118 : decode cX1_longitudeOf 118 = .ok (.dload 8, 2) := by decide +kernel
theorem dX1_longitudeOf_120 : decode cX1_longitudeOf 120 = .ok (.aload_n 1, 1) := by decide +kernel
theorem dX1_longitudeOf_121 : decode cX1_longitudeOf 121 = .ok (.getfield 170, 3) := by decide +kernel
theorem dX1_longitudeOf_124 : decode cX1_longitudeOf 124 = .ok (.dadd, 1) := by decide +kernel
theorem dX1_longitudeOf_125 : decode cX1_longitudeOf 125 = .ok (.dload 12, 2) := by decide +kernel
theorem dX1_longitudeOf_127 : decode cX1_longitudeOf 127 = .ok (.dadd, 1) := by decide +kernel
theorem dX1_longitudeOf_128 : decode cX1_longitudeOf 128 = .ok (.invokestatic 236, 3) := by decide +kernel
theorem dX1_longitudeOf_131 : decode cX1_longitudeOf 131 = .ok (.dreturn, 1) := by decide +kernel
set_option maxRecDepth 20000 in
theorem ggX1_anomalyOf_X1_degreesInRadian : GoodIn wsX1_anomalyOf wsX1_degreesInRadian := goodIn_r _ [9, 10] (by decide +kernel) (by decide +kernel)
set_option maxRecDepth 20000 in
theorem gX1_anomalyOf_X1_degreesInRadian : GoodIn wsX1_anomalyOf (va_wsS RX1 242 yX1_degreesInRadian wsX1_degreesInRadian) := goodIn_app (goodIn_of _ (by decide +kernel)) ggX1_anomalyOf_X1_degreesInRadian
set_option maxRecDepth 20000 in
theorem ggX1_anomalyOf_X1_sine : GoodIn wsX1_anomalyOf wsX1_sine := goodIn_r _ [13, 14, 15, 8, 16, 17, 18, 19, 20, 21, 22, 23, 24, 25, 26, 27, 28, 29, 30, 31, 32, 33] (by decide +kernel) (by decide +kernel)
set_option maxRecDepth 20000 in
theorem gX1_anomalyOf_X1_sine : GoodIn wsX1_anomalyOf (va_wsS RX1 246 yX1_sine wsX1_sine) := goodIn_app (goodIn_of _ (by decide +kernel)) ggX1_anomalyOf_X1_sine
set_option maxRecDepth 20000 in
theorem ggX1_anomalyOf_X1_cosine : GoodIn wsX1_anomalyOf wsX1_cosine := goodIn_r _ [36, 14, 15, 8, 16, 17, 18, 19, 20, 21, 22, 23, 24, 25, 26, 27, 28, 29, 30, 31, 32, 33] (by decide +kernel) (by decide +kernel)
set_option maxRecDepth 20000 in
theorem gX1_anomalyOf_X1_cosine : GoodIn wsX1_anomalyOf (va_wsS RX1 259 yX1_cosine wsX1_cosine) := goodIn_app (goodIn_of _ (by decide +kernel)) ggX1_anomalyOf_X1_cosine
theorem dX1_anomalyOf_0 : decode cX1_anomalyOf 0 = .ok (.aload_n 1, 1) := by decide +kernel
theorem dX1_anomalyOf_1 : decode cX1_anomalyOf 1 = .ok (.getfield 167, 3) := by decide +kernel
theorem dX1_anomalyOf_4 : decode cX1_anomalyOf 4 = .ok (.dstore 4, 2) := by decide +kernel
theorem dX1_anomalyOf_6 : decode cX1_anomalyOf 6 = .ok (.dload_n 2, 1) := by decide +kernel
theorem dX1_anomalyOf_7 : decode cX1_anomalyOf 7 = .ok (.dstore 6, 2) := by decide +kernel
theorem dX1_anomalyOf_9 : decode cX1_anomalyOf 9 = .ok (.iconst 0, 1) := by decide +kernel
theorem dX1_anomalyOf_10 : decode cX1_anomalyOf 10 = .ok (.istore 8, 2) := by decide +kernel
theorem dX1_anomalyOf_12 : decode cX1_anomalyOf 12 = .ok (.iload 8, 2) := by decide +kernel
theorem dX1_anomalyOf_14 : decode cX1_anomalyOf 14 = .ok (.iconst 4, 1) := by decide +kernel
theorem dX1_anomalyOf_15 : decode cX1_anomalyOf 15 = .ok (.if_icmp .ge 67, 3) := by decide +kernel
theorem dX1_anomalyOf_18 : decode cX1_anomalyOf 18 = .ok (.dload 6, 2) := by decide +kernel
theorem dX1_anomalyOf_20 : decode cX1_anomalyOf 20 = .ok (.dload 4, 2) := by decide +kernel
theorem dX1_anomalyOf_22 : decode cX1_anomalyOf 22 = .ok (.invokestatic 242, 3) := by decide +kernel
theorem dX1_anomalyOf_25 : decode cX1_anomalyOf 25 = .ok (.dmul, 1) := by decide +kernel
theorem dX1_anomalyOf_26 : decode cX1_anomalyOf 26 = .ok (.dload 6, 2) := by decide +kernel
theorem dX1_anomalyOf_28 : decode cX1_anomalyOf 28 = .ok (.invokestatic 246, 3) := by decide +kernel
theorem dX1_anomalyOf_31 : decode cX1_anomalyOf 31 = .ok (.dmul, 1) := by decide +kernel
theorem dX1_anomalyOf_32 : decode cX1_anomalyOf 32 = .ok (.dsub, 1) := by decide +kernel
theorem dX1_anomalyOf_33 : decode cX1_anomalyOf 33 = .ok (.dload_n 2, 1) := by decide +kernel
theorem dX1_anomalyOf_34 : decode cX1_anomalyOf 34 = .ok (.dsub, 1) := by decide +kernel
theorem dX1_anomalyOf_35 : decode cX1_anomalyOf 35 = .ok (.dconst 1, 1) := by decide +kernel
theorem dX1_anomalyOf_36 : decode cX1_anomalyOf 36 = .ok (.dload 4, 2) := by decide +kernel
theorem dX1_anomalyOf_38 : decode cX1_anomalyOf 38 = .ok (.dload 6, 2) := by decide +kernel
theorem dX1_anomalyOf_40 : decode cX1_anomalyOf 40 = .ok (.invokestatic 259, 3) := by decide +kernel
theorem dX1_anomalyOf_43 : decode cX1_anomalyOf 43 = .ok (.dmul, 1) := by decide +kernel
theorem dX1_anomalyOf_44 : decode cX1_anomalyOf 44 = .ok (.dsub, 1) := by decide +kernel
theorem dX1_anomalyOf_45 : decode cX1_anomalyOf 45 = .ok (.ddiv, 1) := by decide +kernel
theorem dX1_anomalyOf_46 : decode cX1_anomalyOf 46 = .ok (.dstore 9, 2) := by decide +kernel
theorem dX1_anomalyOf_48 : decode cX1_anomalyOf 48 = .ok (.dload 6, 2) := by decide +kernel
theorem dX1_anomalyOf_50 : decode cX1_anomalyOf 50 = .ok (.dload 9, 2) := by decide +kernel
theorem dX1_anomalyOf_52 : decode cX1_anomalyOf 52 = .ok (.dsub, 1) := by decide +kernel
theorem dX1_anomalyOf_53 : decode cX1_anomalyOf 53 = .ok (.dstore 6, 2) := by decide +kernel
theorem dX1_anomalyOf_55 : decode cX1_anomalyOf 55 = .ok (.dload 9, 2) := by decide +kernel
theorem dX1_anomalyOf_57 : decode cX1_anomalyOf 57 = .ok (.ldc2_w 262, 3) := by decide +kernel
theorem dX1_anomalyOf_60 : decode cX1_anomalyOf 60 = .ok (.dcmp .l, 1) := by decide +kernel
theorem dX1_anomalyOf_61 : decode cX1_anomalyOf 61 = .ok (.ifCond .le 15, 3) := by decide +kernel
theorem dX1_anomalyOf_64 : decode cX1_anomalyOf 64 = .ok (.dload 9, 2) := by decide +kernel
theorem dX1_anomalyOf_66 : decode cX1_anomalyOf 66 = .ok (.ldc2_w 264, 3) := by decide +kernel
theorem dX1_anomalyOf_69 : decode cX1_anomalyOf 69 = .ok (.dcmp .g, 1) := by decide +kernel
theorem dX1_anomalyOf_70 : decode cX1_anomalyOf 70 = .ok (.ifCond .ge 6, 3) := by decide +kernel
theorem dX1_anomalyOf_73 : decode cX1_anomalyOf 73 = .ok (.dload 6, 2) := by decide +kernel
theorem dX1_anomalyOf_75 : decode cX1_anomalyOf 75 = .ok (.dreturn, 1) := by decide +kernel
theorem dX1_anomalyOf_76 : decode cX1_anomalyOf 76 = .ok (.iinc 8 1, 3) := by decide +kernel
theorem dX1_anomalyOf_79 : decode cX1_anomalyOf 79 = .ok (.goto (-67), 3) := by decide +kernel
theorem dX1_anomalyOf_82 : decode cX1_anomalyOf 82 = .ok (.aload_n 0, 1) := by decide +kernel
theorem dX1_anomalyOf_83 : decode cX1_anomalyOf 83 = .ok (.dup, 1) := by decide +kernel
theorem dX1_anomalyOf_84 : decode cX1_anomalyOf 84 = .ok (.getfield 34, 3) := by decide +kernel
theorem dX1_anomalyOf_87 : decode cX1_anomalyOf 87 = .ok (.iconst 1, 1) := by decide +kernel
theorem dX1_anomalyOf_88 : decode cX1_anomalyOf 88 = .ok (.iadd, 1) := by decide +kernel
theorem dX1_anomalyOf_89 : decode cX1_anomalyOf 89 = .ok (.putfield 34, 3) := by decide +kernel
theorem dX1_anomalyOf_92 : decode cX1_anomalyOf 92 = .ok (.new 186, 3) := by decide +kernel
theorem dX1_anomalyOf_95 : decode cX1_anomalyOf 95 = .ok (.dup, 1) := by decide +kernel
theorem dX1_anomalyOf_96 : decode cX1_anomalyOf 96 = .ok (.ldc_w 266, 3) := by decide +kernel
theorem dX1_anomalyOf_99 : decode cX1_anomalyOf 99 = .ok (.invokespecial 190, 3) := by decide +kernel
theorem dX1_anomalyOf_102 : decode cX1_anomalyOf 102 = .ok (.athrow, 1) := by decide +kernel
set_option maxRecDepth 20000 in
theorem ggX1_heightOf_X1_longitudeOf : GoodIn wsX1_heightOf wsX1_longitudeOf := goodIn_ca (goodIn_r _ [9, 10, 11, 12, 13, 14, 15, 8, 16, 17, 18, 19, 20, 21, 22, 23, 24, 25, 26, 27, 28, 29, 30, 31, 32, 33, 34, 35, 36, 37, 38, 39, 40, 41, 42, 43, 44, 45, 46, 47, 48, 49, 50, 51, 52, 53, 54, 55, 56, 57, 58, 59, 60, 66, 67, 68, 69, 70, 71, 72, 73, 74, 75, 76, 77, 78, 79, 80, 81, 82] (by decide +kernel) (by decide +kernel)) (goodIn_sub (fun _ h => List.mem_cons_of_mem _ (List.mem_append_right _ h)) (by decide +kernel))
set_option maxRecDepth 20000 in
theorem gX1_heightOf_X1_longitudeOf : GoodIn wsX1_heightOf (wsV RX1 225 RX1 yX1_longitudeOf wsX1_longitudeOf) := goodIn_app (goodIn_of _ (by decide +kernel)) ggX1_heightOf_X1_longitudeOf
set_option maxRecDepth 20000 in
theorem ggX1_heightOf_X1_cosine : GoodIn wsX1_heightOf wsX1_cosine := goodIn_r _ [51, 14, 15, 8, 16, 17, 18, 35, 36, 37, 38, 11, 39, 40, 41, 42, 43, 44, 45, 46, 47, 48] (by decide +kernel) (by decide +kernel)
set_option maxRecDepth 20000 in
theorem gX1_heightOf_X1_cosine : GoodIn wsX1_heightOf (va_wsS RX1 259 yX1_cosine wsX1_cosine) := goodIn_app (goodIn_of _ (by decide +kernel)) ggX1_heightOf_X1_cosine
set_option maxRecDepth 20000 in
theorem ggX1_heightOf_X1_sine : GoodIn wsX1_heightOf wsX1_sine := goodIn_r _ [34, 14, 15, 8, 16, 17, 18, 35, 36, 37, 38, 11, 39, 40, 41, 42, 43, 44, 45, 46, 47, 48] (by decide +kernel) (by decide +kernel)
set_option maxRecDepth 20000 in
theorem gX1_heightOf_X1_sine : GoodIn wsX1_heightOf (va_wsS RX1 246 yX1_sine wsX1_sine) := goodIn_app (goodIn_of _ (by decide +kernel)) ggX1_heightOf_X1_sine
set_option maxRecDepth 20000 in
theorem ggX1_heightOf_X1_siderealAngle : GoodIn wsX1_heightOf wsX1_siderealAngle := goodIn_r _ [63, 64, 65, 18, 14, 15, 8, 16, 17] (by decide +kernel) (by decide +kernel)
set_option maxRecDepth 20000 in
theorem gX1_heightOf_X1_siderealAngle : GoodIn wsX1_heightOf (va_wsS RX1 232 yX1_siderealAngle wsX1_siderealAngle) := goodIn_app (goodIn_of _ (by decide +kernel)) ggX1_heightOf_X1_siderealAngle
theorem dX1_heightOf_0 : decode cX1_heightOf 0 = .ok (.aload_n 0, 1) := by decide +kernel
theorem dX1_heightOf_1 : decode cX1_heightOf 1 = .ok (.aload_n 1, 1) := by decide +kernel
theorem dX1_heightOf_2 : decode cX1_heightOf 2 = .ok (.dload_n 2, 1) := by decide +kernel
theorem dX1_heightOf_3 : decode cX1_heightOf 3 = .ok (.invokevirtual 225, 3) := by decide +kernel
theorem dX1_heightOf_6 : decode cX1_heightOf 6 = .ok (.dstore 4, 2) := by decide +kernel
theorem dX1_heightOf_8 : decode cX1_heightOf 8 = .ok (.dload 4, 2) := by decide +kernel
theorem dX1_heightOf_10 : decode cX1_heightOf 10 = .ok (.invokestatic 259, 3) := by decide +kernel
theorem dX1_heightOf_13 : decode cX1_heightOf 13 = .ok (.dstore 6, 2) := by decide +kernel
theorem dX1_heightOf_15 : decode cX1_heightOf 15 = .ok (.dload 4, 2) := by decide +kernel
theorem dX1_heightOf_17 : decode cX1_heightOf 17 = .ok (.invokestatic 246, 3) := by decide +kernel
theorem dX1_heightOf_20 : decode cX1_heightOf 20 = .ok (.ldc2_w 268, 3) := by decide +kernel
theorem dX1_heightOf_23 : decode cX1_heightOf 23 = .ok (.dmul, 1) := by decide +kernel
theorem dX1_heightOf_24 : decode cX1_heightOf 24 = .ok (.dstore 8, 2) := by decide +kernel
theorem dX1_heightOf_26 : decode cX1_heightOf 26 = .ok (.dload 4, 2) := by decide +kernel
theorem dX1_heightOf_28 : decode cX1_heightOf 28 = .ok (.invokestatic 246, 3) := by decide +kernel
theorem dX1_heightOf_31 : decode cX1_heightOf 31 = .ok (.ldc2_w 270, 3) := by decide +kernel
theorem dX1_heightOf_34 : decode cX1_heightOf 34 = .ok (.dmul, 1) := by decide +kernel
theorem dX1_heightOf_35 : decode cX1_heightOf 35 = .ok (.dstore 10, 2) := by decide +kernel
theorem dX1_heightOf_37 : decode cX1_heightOf 37 = .ok (.dload_n 2, 1) := by decide +kernel
theorem dX1_heightOf_38 : decode cX1_heightOf 38 = .ok (.invokestatic 232, 3) := by decide +kernel
theorem dX1_heightOf_41 : decode cX1_heightOf 41 = .ok (.aload_n 0, 1) := by decide +kernel
theorem dX1_heightOf_42 : decode cX1_heightOf 42 = .ok (.getfield 28, 3) := by decide +kernel
theorem dX1_heightOf_45 : decode cX1_heightOf 45 = .ok (.dadd, 1) := by decide +kernel
theorem dX1_heightOf_46 : decode cX1_heightOf 46 = .ok (.dstore 12, 2) := by decide +kernel
theorem dX1_heightOf_48 : decode cX1_heightOf 48 = .ok (.aload_n 0, 1) := by decide +kernel
theorem dX1_heightOf_49 : decode cX1_heightOf 49 = .ok (.getfield 24, 3) := by decide +kernel
theorem dX1_heightOf_52 : decode cX1_heightOf 52 = .ok (.invokestatic 259, 3) := by decide +kernel
theorem dX1_heightOf_55 : decode cX1_heightOf 55 = .ok (.dload 6, 2) := by decide +kernel
theorem dX1_heightOf_57 : decode cX1_heightOf 57 = .ok (.dload 12, 2) := by decide +kernel
theorem dX1_heightOf_59 : decode cX1_heightOf 59 = .ok (.invokestatic 259, 3) := by decide +kernel
theorem dX1_heightOf_62 : decode cX1_heightOf 62 = .ok (.dmul, 1) := by decide +kernel
theorem dX1_heightOf_63 : decode cX1_heightOf 63 = .ok (.dload 8, 2) := by decide +kernel
theorem dX1_heightOf_65 : decode cX1_heightOf 65 = .ok (.dload 12, 2) := by decide +kernel
theorem dX1_heightOf_67 : decode cX1_heightOf 67 = .ok (.invokestatic 246, 3) := by decide +kernel
theorem dX1_heightOf_70 : decode cX1_heightOf 70 = .ok (.dmul, 1) := by decide +kernel
theorem dX1_heightOf_71 : decode cX1_heightOf 71 = .ok (.dadd, 1) := by decide +kernel
theorem dX1_heightOf_72 : decode cX1_heightOf 72 = .ok (.dmul, 1) := by decide +kernel
theorem dX1_heightOf_73 : decode cX1_heightOf 73 = .ok (.aload_n 0, 1) := by decide +kernel
theorem dX1_heightOf_74 : decode cX1_heightOf 74 = .ok (.getfield 24, 3) := by decide +kernel
theorem dX1_heightOf_77 : decode cX1_heightOf 77 = .ok (.invokestatic 246, 3) := by decide +kernel
theorem dX1_heightOf_80 : decode cX1_heightOf 80 = .ok (.dload 10, 2) := by decide +kernel
theorem dX1_heightOf_82 : decode cX1_heightOf 82 = .ok (.dmul, 1) := by decide +kernel
theorem dX1_heightOf_83 : decode cX1_heightOf 83 = .ok (.dadd, 1) := by decide +kernel
theorem dX1_heightOf_84 : decode cX1_heightOf 84 = .ok (.dreturn, 1) := by decide +kernel
set_option maxRecDepth 20000 in
theorem ggX1_siderealAngle_X1_red : GoodIn wsX1_siderealAngle wsX1_red := goodIn_r _ [7, 8, 3] (by decide +kernel) (by decide +kernel)
set_option maxRecDepth 20000 in
theorem gX1_siderealAngle_X1_red : GoodIn wsX1_siderealAngle (va_wsS RX1 236 yX1_red wsX1_red) := goodIn_app (goodIn_of _ (by decide +kernel)) ggX1_siderealAngle_X1_red
theorem dX1_siderealAngle_0 : decode cX1_siderealAngle 0 = .ok (.ldc2_w 272, 3) := by decide +kernel
theorem dX1_siderealAngle_3 : decode cX1_siderealAngle 3 = .ok (.ldc2_w 274, 3) := by decide +kernel
theorem dX1_siderealAngle_6 : decode cX1_siderealAngle 6 = .ok (.dload_n 0, 1) := by decide +kernel
theorem dX1_siderealAngle_7 : decode cX1_siderealAngle 7 = .ok (.dmul, 1) := by decide +kernel
theorem dX1_siderealAngle_8 : decode cX1_siderealAngle 8 = .ok (.dadd, 1) := by decide +kernel
theorem dX1_siderealAngle_9 : decode cX1_siderealAngle 9 = .ok (.invokestatic 236, 3) := by decide +kernel
theorem dX1_siderealAngle_12 : decode cX1_siderealAngle 12 = .ok (.ldc2_w 143, 3) := by decide +kernel
theorem dX1_siderealAngle_15 : decode cX1_siderealAngle 15 = .ok (.dload_n 0, 1) := by decide +kernel
theorem dX1_siderealAngle_16 : decode cX1_siderealAngle 16 = .ok (.dload_n 0, 1) := by decide +kernel
theorem dX1_siderealAngle_17 : decode cX1_siderealAngle 17 = .ok (.d2l, 1) := by decide +kernel
theorem dX1_siderealAngle_18 : decode cX1_siderealAngle 18 = .ok (.l2d, 1) := by decide +kernel
theorem dX1_siderealAngle_19 : decode cX1_siderealAngle 19 = .ok (.dsub, 1) := by decide +kernel
theorem dX1_siderealAngle_20 : decode cX1_siderealAngle 20 = .ok (.dmul, 1) := by decide +kernel
theorem dX1_siderealAngle_21 : decode cX1_siderealAngle 21 = .ok (.dadd, 1) := by decide +kernel
theorem dX1_siderealAngle_22 : decode cX1_siderealAngle 22 = .ok (.invokestatic 236, 3) := by decide +kernel
theorem dX1_siderealAngle_25 : decode cX1_siderealAngle 25 = .ok (.dreturn, 1) := by decide +kernel
set_option maxRecDepth 20000 in
theorem ggX1_event_X1_isWholeWithin : GoodIn wsX1_event wsX1_isWholeWithin := goodIn_r _ [11] (by decide +kernel) (by decide +kernel)
set_option maxRecDepth 20000 in
theorem gX1_event_X1_isWholeWithin : GoodIn wsX1_event (va_wsS RX1 39 yX1_isWholeWithin wsX1_isWholeWithin) := goodIn_app (goodIn_of _ (by decide +kernel)) ggX1_event_X1_isWholeWithin
set_option maxRecDepth 20000 in
theorem ggX1_event_X1_bodyThatIsSet : GoodIn wsX1_event wsX1_bodyThatIsSet := goodIn_ca (goodIn_r _ [15, 3, 4, 16, 106, 107, 108, 109, 110, 111, 112, 113, 114, 115, 116, 117, 118, 119, 120, 121, 122] (by decide +kernel) (by decide +kernel)) (goodIn_sub (fun _ h => List.mem_cons_of_mem _ (List.mem_append_left _ (List.mem_append_right _ h))) (by decide +kernel))
set_option maxRecDepth 20000 in
theorem gX1_event_X1_bodyThatIsSet : GoodIn wsX1_event (wsV RX1 173 RX1 yX1_bodyThatIsSet wsX1_bodyThatIsSet) := goodIn_app (goodIn_of _ (by decide +kernel)) ggX1_event_X1_bodyThatIsSet
set_option maxRecDepth 20000 in
theorem ggX1_event_X1_partOfGreatestHeight : GoodIn wsX1_event wsX1_partOfGreatestHeight := goodIn_ca (goodIn_r _ [20, 21, 22, 10, 23, 24, 25, 26, 27, 28, 29, 30, 31, 32, 33, 34, 35, 36, 37, 38, 39, 40, 41, 42, 43, 44, 45, 46, 47, 48, 49, 50, 51, 52, 53, 54, 55, 56, 57, 58, 59, 60, 61, 62, 63, 64, 65, 66, 67, 68, 69, 70, 71, 72, 73, 74, 75, 76, 77, 78, 79, 80, 81, 82, 83, 84, 85, 86, 87, 88, 89, 90, 91, 92, 106, 107, 108, 109, 110, 111, 112, 113, 114, 115, 116, 117, 118, 119, 120, 121, 122] (by decide +kernel) (by decide +kernel)) (goodIn_sub (fun _ h => List.mem_cons_of_mem _ (List.mem_append_right _ h)) (by decide +kernel))
set_option maxRecDepth 20000 in
theorem gX1_event_X1_partOfGreatestHeight : GoodIn wsX1_event (wsV RX1 284 RX1 yX1_partOfGreatestHeight wsX1_partOfGreatestHeight) := goodIn_app (goodIn_of _ (by decide +kernel)) ggX1_event_X1_partOfGreatestHeight
set_option maxRecDepth 20000 in
theorem ggX1_event_X1_narrowedToHighest : GoodIn wsX1_event wsX1_narrowedToHighest := goodIn_ca (goodIn_r _ [96, 97, 39, 21, 22, 10, 23, 24, 25, 26, 27, 28, 29, 30, 31, 32, 33, 34, 35, 36, 37, 38, 40, 41, 42, 43, 44, 45, 46, 47, 48, 49, 50, 51, 52, 53, 54, 55, 56, 57, 58, 59, 60, 61, 62, 63, 64, 65, 66, 67, 68, 69, 70, 71, 72, 73, 74, 75, 76, 77, 78, 79, 80, 81, 82, 83, 84, 85, 86, 87, 88, 89, 90, 91, 92, 106, 107, 108, 109, 110, 111, 112, 113, 114, 115, 116, 117, 118, 119, 120, 121, 122] (by decide +kernel) (by decide +kernel)) (goodIn_sub (fun _ h => List.mem_cons_of_mem _ (List.mem_append_right _ h)) (by decide +kernel))
set_option maxRecDepth 20000 in
theorem gX1_event_X1_narrowedToHighest : GoodIn wsX1_event (wsV RX1 288 RX1 yX1_narrowedToHighest wsX1_narrowedToHighest) := goodIn_app (goodIn_of _ (by decide +kernel)) ggX1_event_X1_narrowedToHighest
set_option maxRecDepth 20000 in
theorem ggX1_event_X1_partOfCrossing : GoodIn wsX1_event wsX1_partOfCrossing := goodIn_ca (goodIn_r _ [101, 21, 22, 10, 23, 24, 25, 26, 27, 28, 29, 30, 31, 32, 33, 34, 35, 36, 37, 38, 39, 40, 41, 42, 43, 44, 45, 46, 47, 48, 49, 50, 51, 52, 53, 54, 55, 56, 57, 58, 59, 60, 61, 62, 63, 64, 65, 66, 67, 68, 69, 70, 71, 72, 73, 74, 75, 76, 77, 78, 79, 80, 81, 82, 83, 84, 85, 86, 87, 88, 89, 90, 91, 92, 106, 107, 108, 109, 110, 111, 112, 113, 114, 115, 116, 117, 118, 119, 120, 121, 122] (by decide +kernel) (by decide +kernel)) (goodIn_sub (fun _ h => List.mem_cons_of_mem _ (List.mem_append_right _ h)) (by decide +kernel))
set_option maxRecDepth 20000 in
theorem gX1_event_X1_partOfCrossing : GoodIn wsX1_event (wsV RX1 292 RX1 yX1_partOfCrossing wsX1_partOfCrossing) := goodIn_app (goodIn_of _ (by decide +kernel)) ggX1_event_X1_partOfCrossing
set_option maxRecDepth 20000 in
theorem ggX1_event_X1_narrowedToCrossing : GoodIn wsX1_event wsX1_narrowedToCrossing := goodIn_ca (goodIn_r _ [105, 39, 21, 22, 10, 23, 24, 25, 26, 27, 28, 29, 30, 31, 32, 33, 34, 35, 36, 37, 38, 40, 41, 42, 43, 44, 45, 46, 47, 48, 49, 50, 51, 52, 53, 54, 55, 56, 57, 58, 59, 60, 61, 62, 63, 64, 65, 66, 67, 68, 69, 70, 71, 72, 73, 74, 75, 76, 77, 78, 79, 80, 81, 82, 83, 84, 85, 86, 87, 88, 89, 90, 91, 92, 106, 107, 108, 109, 110, 111, 112, 113, 114, 115, 116, 117, 118, 119, 120, 121, 122] (by decide +kernel) (by decide +kernel)) (goodIn_sub (fun _ h => List.mem_cons_of_mem _ (List.mem_append_right _ h)) (by decide +kernel))
set_option maxRecDepth 20000 in
theorem gX1_event_X1_narrowedToCrossing : GoodIn wsX1_event (wsV RX1 298 RX1 yX1_narrowedToCrossing wsX1_narrowedToCrossing) := goodIn_app (goodIn_of _ (by decide +kernel)) ggX1_event_X1_narrowedToCrossing
theorem dX1_event_0 : decode cX1_event 0 = .ok (.iload_n 2, 1) := by decide +kernel
theorem dX1_event_1 : decode cX1_event 1 = .ok (.i2l, 1) := by decide +kernel
theorem dX1_event_2 : decode cX1_event 2 = .ok (.lconst 0, 1) := by decide +kernel
theorem dX1_event_3 : decode cX1_event 3 = .ok (.ldc2_w 37, 3) := by decide +kernel
theorem dX1_event_6 : decode cX1_event 6 = .ok (.invokestatic 39, 3) := by decide +kernel
theorem dX1_event_9 : decode cX1_event 9 = .ok (.ifCond .ne 14, 3) := by decide +kernel
theorem dX1_event_12 : decode cX1_event 12 = .ok (.new 43, 3) := by decide +kernel
theorem dX1_event_15 : decode cX1_event 15 = .ok (.dup, 1) := by decide +kernel
theorem dX1_event_16 : decode cX1_event 16 = .ok (.ldc_w 276, 3) := by decide +kernel
theorem dX1_event_19 : decode cX1_event 19 = .ok (.invokespecial 47, 3) := by decide +kernel
theorem dX1_event_22 : decode cX1_event 22 = .ok (.athrow, 1) := by decide +kernel
theorem dX1_event_23 : decode cX1_event 23 = .ok (.iload_n 3, 1) := by decide +kernel
theorem dX1_event_24 : decode cX1_event 24 = .ok (.i2l, 1) := by decide +kernel
theorem dX1_event_25 : decode cX1_event 25 = .ok (.ldc2_w 278, 3) := by decide +kernel
theorem dX1_event_28 : decode cX1_event 28 = .ok (.ldc2_w 280, 3) := by decide +kernel
theorem dX1_event_31 : decode cX1_event 31 = .ok (.invokestatic 39, 3) := by decide +kernel
theorem dX1_event_34 : decode cX1_event 34 = .ok (.ifCond .ne 14, 3) := by decide +kernel
theorem dX1_event_37 : decode cX1_event 37 = .ok (.new 43, 3) := by decide +kernel
theorem dX1_event_40 : decode cX1_event 40 = .ok (.dup, 1) := by decide +kernel
theorem dX1_event_41 : decode cX1_event 41 = .ok (.ldc_w 282, 3) := by decide +kernel
theorem dX1_event_44 : decode cX1_event 44 = .ok (.invokespecial 47, 3) := by decide +kernel
theorem dX1_event_47 : decode cX1_event 47 = .ok (.athrow, 1) := by decide +kernel
theorem dX1_event_48 : decode cX1_event 48 = .ok (.aload_n 0, 1) := by decide +kernel
theorem dX1_event_49 : decode cX1_event 49 = .ok (.iload_n 1, 1) := by decide +kernel
theorem dX1_event_50 : decode cX1_event 50 = .ok (.invokevirtual 173, 3) := by decide +kernel
theorem dX1_event_53 : decode cX1_event 53 = .ok (.astore 4, 2) := by decide +kernel
theorem dX1_event_55 : decode cX1_event 55 = .ok (.iload_n 2, 1) := by decide +kernel
theorem dX1_event_56 : decode cX1_event 56 = .ok (.iconst 2, 1) := by decide +kernel
theorem dX1_event_57 : decode cX1_event 57 = .ok (.if_icmp .ne 18, 3) := by decide +kernel
theorem dX1_event_60 : decode cX1_event 60 = .ok (.aload_n 0, 1) := by decide +kernel
theorem dX1_event_61 : decode cX1_event 61 = .ok (.aload 4, 2) := by decide +kernel
theorem dX1_event_63 : decode cX1_event 63 = .ok (.iload_n 3, 1) := by decide +kernel
theorem dX1_event_64 : decode cX1_event 64 = .ok (.aload_n 0, 1) := by decide +kernel
theorem dX1_event_65 : decode cX1_event 65 = .ok (.aload 4, 2) := by decide +kernel
theorem dX1_event_67 : decode cX1_event 67 = .ok (.iload_n 3, 1) := by decide +kernel
theorem dX1_event_68 : decode cX1_event 68 = .ok (.invokevirtual 284, 3) := by decide +kernel
theorem dX1_event_71 : decode cX1_event 71 = .ok (.invokevirtual 288, 3) := by decide +kernel
theorem dX1_event_74 : decode cX1_event 74 = .ok (.dreturn, 1) := by decide +kernel
theorem dX1_event_75 : decode cX1_event 75 = .ok (.iload_n 2, 1) := by decide +kernel
theorem dX1_event_76 : decode cX1_event 76 = .ok (.ifCond .ne 7, 3) := by decide +kernel
theorem dX1_event_79 : decode cX1_event 79 = .ok (.iconst 1, 1) := by decide +kernel
theorem dX1_event_80 : decode cX1_event 80 = .ok (.goto 4, 3) := by decide +kernel
theorem dX1_event_83 : decode cX1_event 83 = .ok (.iconst 0, 1) := by decide +kernel
theorem dX1_event_84 : decode cX1_event 84 = .ok (.istore 5, 2) := by decide +kernel
theorem dX1_event_86 : decode cX1_event 86 = .ok (.aload_n 0, 1) := by decide +kernel
theorem dX1_event_87 : decode cX1_event 87 = .ok (.aload 4, 2) := by decide +kernel
theorem dX1_event_89 : decode cX1_event 89 = .ok (.iload_n 3, 1) := by decide +kernel
theorem dX1_event_90 : decode cX1_event 90 = .ok (.iload 5, 2) := by decide +kernel
theorem dX1_event_92 : decode cX1_event 92 = .ok (.invokevirtual 292, 3) := by decide +kernel
theorem dX1_event_95 : decode cX1_event 95 = .ok (.istore 6, 2) := by decide +kernel
theorem dX1_event_97 : decode cX1_event 97 = .ok (.iload 6, 2) := by decide +kernel
theorem dX1_event_99 : decode cX1_event 99 = .ok (.iconst (-1), 1) := by decide +kernel
theorem dX1_event_100 : decode cX1_event 100 = .ok (.if_icmp .ne 14, 3) := by decide +kernel
theorem dX1_event_103 : decode cX1_event 103 = .ok (.new 214, 3) := by decide +kernel
theorem dX1_event_106 : decode cX1_event 106 = .ok (.dup, 1) := by decide +kernel
theorem dX1_event_107 : decode cX1_event 107 = .ok (.ldc_w 296, 3) := by decide +kernel
theorem dX1_event_110 : decode cX1_event 110 = .ok (.invokespecial 218, 3) := by decide +kernel
theorem dX1_event_113 : decode cX1_event 113 = .ok (.athrow, 1) := by decide +kernel
theorem dX1_event_114 : decode cX1_event 114 = .ok (.aload_n 0, 1) := by decide +kernel
theorem dX1_event_115 : decode cX1_event 115 = .ok (.aload 4, 2) := by decide +kernel
theorem dX1_event_117 : decode cX1_event 117 = .ok (.iload_n 3, 1) := by decide +kernel
theorem dX1_event_118 : decode cX1_event 118 = .ok (.iload 6, 2) := by decide +kernel
theorem dX1_event_120 : decode cX1_event 120 = .ok (.iload 5, 2) := by decide +kernel
theorem dX1_event_122 : decode cX1_event 122 = .ok (.invokevirtual 298, 3) := by decide +kernel
theorem dX1_event_125 : decode cX1_event 125 = .ok (.dreturn, 1) := by decide +kernel
theorem dX1_timeOfPart_0 : decode cX1_timeOfPart 0 = .ok (.iload_n 0, 1) := by decide +kernel
theorem dX1_timeOfPart_1 : decode cX1_timeOfPart 1 = .ok (.i2d, 1) := by decide +kernel
theorem dX1_timeOfPart_2 : decode cX1_timeOfPart 2 = .ok (.iload_n 1, 1) := by decide +kernel
theorem dX1_timeOfPart_3 : decode cX1_timeOfPart 3 = .ok (.i2d, 1) := by decide +kernel
theorem dX1_timeOfPart_4 : decode cX1_timeOfPart 4 = .ok (.ldc2_w 302, 3) := by decide +kernel
theorem dX1_timeOfPart_7 : decode cX1_timeOfPart 7 = .ok (.ddiv, 1) := by decide +kernel
theorem dX1_timeOfPart_8 : decode cX1_timeOfPart 8 = .ok (.dadd, 1) := by decide +kernel
theorem dX1_timeOfPart_9 : decode cX1_timeOfPart 9 = .ok (.dreturn, 1) := by decide +kernel
set_option maxRecDepth 20000 in
theorem ggX1_partOfCrossing_X1_timeOfPart : GoodIn wsX1_partOfCrossing wsX1_timeOfPart := goodIn_r _ [4, 5] (by decide +kernel) (by decide +kernel)
set_option maxRecDepth 20000 in
theorem gX1_partOfCrossing_X1_timeOfPart : GoodIn wsX1_partOfCrossing (va_wsS RX1 304 yX1_timeOfPart wsX1_timeOfPart) := goodIn_app (goodIn_of _ (by decide +kernel)) ggX1_partOfCrossing_X1_timeOfPart
set_option maxRecDepth 20000 in
theorem ggX1_partOfCrossing_X1_heightOf : GoodIn wsX1_partOfCrossing wsX1_heightOf := goodIn_ca (goodIn_r _ [9, 10, 11, 12, 13, 14, 15, 16, 3, 17, 18, 19, 20, 21, 22, 23, 24, 25, 26, 27, 28, 29, 30, 31, 32, 33, 34, 35, 36, 37, 38, 39, 40, 41, 42, 43, 44, 45, 46, 47, 48, 49, 50, 51, 52, 53, 54, 55, 56, 57, 58, 59, 60, 61, 62, 63, 64, 65, 66, 67, 68, 69, 70, 71, 72, 73, 74, 75, 76, 77, 78, 79, 80, 81, 82, 83, 84, 85, 86, 87, 88, 89, 90] (by decide +kernel) (by decide +kernel)) (goodIn_sub (fun _ h => List.mem_cons_of_mem _ (List.mem_append_right _ h)) (by decide +kernel))
set_option maxRecDepth 20000 in
theorem gX1_partOfCrossing_X1_heightOf : GoodIn wsX1_partOfCrossing (wsV RX1 229 RX1 yX1_heightOf wsX1_heightOf) := goodIn_app (goodIn_of _ (by decide +kernel)) ggX1_partOfCrossing_X1_heightOf
theorem dX1_partOfCrossing_0 : decode cX1_partOfCrossing 0 = .ok (.aload_n 0, 1) := by decide +kernel
theorem dX1_partOfCrossing_1 : decode cX1_partOfCrossing 1 = .ok (.aload_n 1, 1) := by decide +kernel
theorem dX1_partOfCrossing_2 : decode cX1_partOfCrossing 2 = .ok (.iload_n 2, 1) := by decide +kernel
theorem dX1_partOfCrossing_3 : decode cX1_partOfCrossing 3 = .ok (.iconst 0, 1) := by decide +kernel
theorem dX1_partOfCrossing_4 : decode cX1_partOfCrossing 4 = .ok (.invokestatic 304, 3) := by decide +kernel
theorem dX1_partOfCrossing_7 : decode cX1_partOfCrossing 7 = .ok (.invokevirtual 229, 3) := by decide +kernel
theorem dX1_partOfCrossing_10 : decode cX1_partOfCrossing 10 = .ok (.dconst 0, 1) := by decide +kernel
theorem dX1_partOfCrossing_11 : decode cX1_partOfCrossing 11 = .ok (.dcmp .l, 1) := by decide +kernel
theorem dX1_partOfCrossing_12 : decode cX1_partOfCrossing 12 = .ok (.ifCond .lt 7, 3) := by decide +kernel
theorem dX1_partOfCrossing_15 : decode cX1_partOfCrossing 15 = .ok (.iconst 1, 1) := by decide +kernel
theorem dX1_partOfCrossing_16 : decode cX1_partOfCrossing 16 = .ok (.goto 4, 3) := by decide +kernel
theorem dX1_partOfCrossing_19 : decode cX1_partOfCrossing 19 = .ok (.iconst 0, 1) := by decide +kernel
theorem dX1_partOfCrossing_20 : decode cX1_partOfCrossing 20 = .ok (.istore 4, 2) := by decide +kernel
theorem dX1_partOfCrossing_22 : decode cX1_partOfCrossing 22 = .ok (.iconst 1, 1) := by decide +kernel
theorem dX1_partOfCrossing_23 : decode cX1_partOfCrossing 23 = .ok (.istore 5, 2) := by decide +kernel
theorem dX1_partOfCrossing_25 : decode cX1_partOfCrossing 25 = .ok (.iload 5, 2) := by decide +kernel
theorem dX1_partOfCrossing_27 : decode cX1_partOfCrossing 27 = .ok (.bipush 16, 2) := by decide +kernel
theorem dX1_partOfCrossing_29 : decode cX1_partOfCrossing 29 = .ok (.if_icmp .gt 51, 3) := by decide +kernel
theorem dX1_partOfCrossing_32 : decode cX1_partOfCrossing 32 = .ok (.aload_n 0, 1) := by decide +kernel
theorem dX1_partOfCrossing_33 : decode cX1_partOfCrossing 33 = .ok (.aload_n 1, 1) := by decide +kernel
theorem dX1_partOfCrossing_34 : decode cX1_partOfCrossing 34 = .ok (.iload_n 2, 1) := by decide +kernel
theorem dX1_partOfCrossing_35 : decode cX1_partOfCrossing 35 = .ok (.iload 5, 2) := by decide +kernel
theorem dX1_partOfCrossing_37 : decode cX1_partOfCrossing 37 = .ok (.invokestatic 304, 3) := by decide +kernel
theorem dX1_partOfCrossing_40 : decode cX1_partOfCrossing 40 = .ok (.invokevirtual 229, 3) := by decide +kernel
theorem dX1_partOfCrossing_43 : decode cX1_partOfCrossing 43 = .ok (.dconst 0, 1) := by decide +kernel
theorem dX1_partOfCrossing_44 : decode cX1_partOfCrossing 44 = .ok (.dcmp .l, 1) := by decide +kernel
theorem dX1_partOfCrossing_45 : decode cX1_partOfCrossing 45 = .ok (.ifCond .lt 7, 3) := by decide +kernel
theorem dX1_partOfCrossing_48 : decode cX1_partOfCrossing 48 = .ok (.iconst 1, 1) := by decide +kernel
theorem dX1_partOfCrossing_49 : decode cX1_partOfCrossing 49 = .ok (.goto 4, 3) := by decide +kernel
theorem dX1_partOfCrossing_52 : decode cX1_partOfCrossing 52 = .ok (.iconst 0, 1) := by decide +kernel
theorem dX1_partOfCrossing_53 : decode cX1_partOfCrossing 53 = .ok (.istore 6, 2) := by decide +kernel
theorem dX1_partOfCrossing_55 : decode cX1_partOfCrossing 55 = .ok (.iload 6, 2) := by decide +kernel
theorem dX1_partOfCrossing_57 : decode cX1_partOfCrossing 57 = .ok (.iload_n 3, 1) := by decide +kernel
theorem dX1_partOfCrossing_58 : decode cX1_partOfCrossing 58 = .ok (.if_icmp .ne 12, 3) := by decide +kernel
theorem dX1_partOfCrossing_61 : decode cX1_partOfCrossing 61 = .ok (.iload 4, 2) := by decide +kernel
theorem dX1_partOfCrossing_63 : decode cX1_partOfCrossing 63 = .ok (.iload_n 3, 1) := by decide +kernel
theorem dX1_partOfCrossing_64 : decode cX1_partOfCrossing 64 = .ok (.if_icmp .eq 6, 3) := by decide +kernel
theorem dX1_partOfCrossing_67 : decode cX1_partOfCrossing 67 = .ok (.iload 5, 2) := by decide +kernel
theorem dX1_partOfCrossing_69 : decode cX1_partOfCrossing 69 = .ok (.ireturn, 1) := by decide +kernel
theorem dX1_partOfCrossing_70 : decode cX1_partOfCrossing 70 = .ok (.iload 6, 2) := by decide +kernel
theorem dX1_partOfCrossing_72 : decode cX1_partOfCrossing 72 = .ok (.istore 4, 2) := by decide +kernel
theorem dX1_partOfCrossing_74 : decode cX1_partOfCrossing 74 = .ok (.iinc 5 1, 3) := by decide +kernel
theorem dX1_partOfCrossing_77 : decode cX1_partOfCrossing 77 = .ok (.goto (-52), 3) := by decide +kernel
theorem dX1_partOfCrossing_80 : decode cX1_partOfCrossing 80 = .ok (.iconst (-1), 1) := by decide +kernel
theorem dX1_partOfCrossing_81 : decode cX1_partOfCrossing 81 = .ok (.ireturn, 1) := by decide +kernel
set_option maxRecDepth 20000 in
theorem ggX1_narrowedToCrossing_X1_timeOfPart : GoodIn wsX1_narrowedToCrossing wsX1_timeOfPart := goodIn_r _ [5, 6] (by decide +kernel) (by decide +kernel)
set_option maxRecDepth 20000 in
theorem gX1_narrowedToCrossing_X1_timeOfPart : GoodIn wsX1_narrowedToCrossing (va_wsS RX1 304 yX1_timeOfPart wsX1_timeOfPart) := goodIn_app (goodIn_of _ (by decide +kernel)) ggX1_narrowedToCrossing_X1_timeOfPart
set_option maxRecDepth 20000 in
theorem ggX1_narrowedToCrossing_X1_heightOf : GoodIn wsX1_narrowedToCrossing wsX1_heightOf := goodIn_ca (goodIn_r _ [10, 11, 12, 13, 14, 15, 16, 17, 4, 18, 19, 20, 1, 21, 22, 23, 24, 25, 26, 27, 28, 29, 30, 31, 32, 33, 34, 35, 36, 37, 38, 39, 40, 41, 42, 43, 44, 45, 46, 47, 48, 49, 50, 51, 52, 53, 54, 55, 56, 57, 58, 59, 60, 61, 62, 63, 64, 65, 66, 67, 68, 69, 70, 71, 72, 73, 74, 75, 76, 77, 78, 79, 80, 81, 82, 83, 84, 85, 86, 87, 88, 89, 90] (by decide +kernel) (by decide +kernel)) (goodIn_sub (fun _ h => List.mem_cons_of_mem _ (List.mem_append_right _ h)) (by decide +kernel))
set_option maxRecDepth 20000 in
theorem gX1_narrowedToCrossing_X1_heightOf : GoodIn wsX1_narrowedToCrossing (wsV RX1 229 RX1 yX1_heightOf wsX1_heightOf) := goodIn_app (goodIn_of _ (by decide +kernel)) ggX1_narrowedToCrossing_X1_heightOf
theorem dX1_narrowedToCrossing_0 : decode cX1_narrowedToCrossing 0 = .ok (.iload_n 2, 1) := by decide +kernel
theorem dX1_narrowedToCrossing_1 : decode cX1_narrowedToCrossing 1 = .ok (.iload_n 3, 1) := by decide +kernel
theorem dX1_narrowedToCrossing_2 : decode cX1_narrowedToCrossing 2 = .ok (.iconst 1, 1) := by decide +kernel
theorem dX1_narrowedToCrossing_3 : decode cX1_narrowedToCrossing 3 = .ok (.isub, 1) := by decide +kernel
theorem dX1_narrowedToCrossing_4 : decode cX1_narrowedToCrossing 4 = .ok (.invokestatic 304, 3) := by decide +kernel
theorem dX1_narrowedToCrossing_7 : decode cX1_narrowedToCrossing 7 = .ok (.dstore 5, 2) := by decide +kernel
theorem dX1_narrowedToCrossing_9 : decode cX1_narrowedToCrossing 9 = .ok (.iload_n 2, 1) := by decide +kernel
theorem dX1_narrowedToCrossing_10 : decode cX1_narrowedToCrossing 10 = .ok (.iload_n 3, 1) := by decide +kernel
theorem dX1_narrowedToCrossing_11 : decode cX1_narrowedToCrossing 11 = .ok (.invokestatic 304, 3) := by decide +kernel
theorem dX1_narrowedToCrossing_14 : decode cX1_narrowedToCrossing 14 = .ok (.dstore 7, 2) := by decide +kernel
theorem dX1_narrowedToCrossing_16 : decode cX1_narrowedToCrossing 16 = .ok (.iconst 0, 1) := by decide +kernel
theorem dX1_narrowedToCrossing_17 : decode cX1_narrowedToCrossing 17 = .ok (.istore 9, 2) := by decide +kernel
theorem dX1_narrowedToCrossing_19 : decode cX1_narrowedToCrossing 19 = .ok (.iload 9, 2) := by decide +kernel
theorem dX1_narrowedToCrossing_21 : decode cX1_narrowedToCrossing 21 = .ok (.bipush 20, 2) := by decide +kernel
theorem dX1_narrowedToCrossing_23 : decode cX1_narrowedToCrossing 23 = .ok (.if_icmp .ge 53, 3) := by decide +kernel
theorem dX1_narrowedToCrossing_26 : decode cX1_narrowedToCrossing 26 = .ok (.dload 5, 2) := by decide +kernel
theorem dX1_narrowedToCrossing_28 : decode cX1_narrowedToCrossing 28 = .ok (.dload 7, 2) := by decide +kernel
theorem dX1_narrowedToCrossing_30 : decode cX1_narrowedToCrossing 30 = .ok (.dadd, 1) := by decide +kernel
theorem dX1_narrowedToCrossing_31 : decode cX1_narrowedToCrossing 31 = .ok (.ldc2_w 251, 3) := by decide +kernel
theorem dX1_narrowedToCrossing_34 : decode cX1_narrowedToCrossing 34 = .ok (.ddiv, 1) := by decide +kernel
theorem dX1_narrowedToCrossing_35 : decode cX1_narrowedToCrossing 35 = .ok (.dstore 10, 2) := by decide +kernel
theorem dX1_narrowedToCrossing_37 : decode cX1_narrowedToCrossing 37 = .ok (.aload_n 0, 1) := by decide +kernel
theorem dX1_narrowedToCrossing_38 : decode cX1_narrowedToCrossing 38 = .ok (.aload_n 1, 1) := by decide +kernel
theorem dX1_narrowedToCrossing_39 : decode cX1_narrowedToCrossing 39 = .ok (.dload 10, 2) := by decide +kernel
theorem dX1_narrowedToCrossing_41 : decode cX1_narrowedToCrossing 41 = .ok (.invokevirtual 229, 3) := by decide +kernel
theorem dX1_narrowedToCrossing_44 : decode cX1_narrowedToCrossing 44 = .ok (.dconst 0, 1) := by decide +kernel
theorem dX1_narrowedToCrossing_45 : decode cX1_narrowedToCrossing 45 = .ok (.dcmp .l, 1) := by decide +kernel
theorem dX1_narrowedToCrossing_46 : decode cX1_narrowedToCrossing 46 = .ok (.ifCond .lt 7, 3) := by decide +kernel
theorem dX1_narrowedToCrossing_49 : decode cX1_narrowedToCrossing 49 = .ok (.iconst 1, 1) := by decide +kernel
theorem dX1_narrowedToCrossing_50 : decode cX1_narrowedToCrossing 50 = .ok (.goto 4, 3) := by decide +kernel
theorem dX1_narrowedToCrossing_53 : decode cX1_narrowedToCrossing 53 = .ok (.iconst 0, 1) := by decide +kernel
theorem dX1_narrowedToCrossing_54 : decode cX1_narrowedToCrossing 54 = .ok (.iload 4, 2) := by decide +kernel
theorem dX1_narrowedToCrossing_56 : decode cX1_narrowedToCrossing 56 = .ok (.if_icmp .ne 10, 3) := by decide +kernel
theorem dX1_narrowedToCrossing_59 : decode cX1_narrowedToCrossing 59 = .ok (.dload 10, 2) := by decide +kernel
theorem dX1_narrowedToCrossing_61 : decode cX1_narrowedToCrossing 61 = .ok (.dstore 7, 2) := by decide +kernel
theorem dX1_narrowedToCrossing_63 : decode cX1_narrowedToCrossing 63 = .ok (.goto 7, 3) := by decide +kernel
theorem dX1_narrowedToCrossing_66 : decode cX1_narrowedToCrossing 66 = .ok (.dload 10, 2) := by decide +kernel
theorem dX1_narrowedToCrossing_68 : decode cX1_narrowedToCrossing 68 = .ok (.dstore 5, 2) := by decide +kernel
theorem dX1_narrowedToCrossing_70 : decode cX1_narrowedToCrossing 70 = .ok (.iinc 9 1, 3) := by decide +kernel
theorem dX1_narrowedToCrossing_73 : decode cX1_narrowedToCrossing 73 = .ok (.goto (-54), 3) := by decide +kernel
theorem dX1_narrowedToCrossing_76 : decode cX1_narrowedToCrossing 76 = .ok (.dload 7, 2) := by decide +kernel
theorem dX1_narrowedToCrossing_78 : decode cX1_narrowedToCrossing 78 = .ok (.dreturn, 1) := by decide +kernel
set_option maxRecDepth 20000 in
theorem ggX1_partOfGreatestHeight_X1_timeOfPart : GoodIn wsX1_partOfGreatestHeight wsX1_timeOfPart := goodIn_r _ [4, 5] (by decide +kernel) (by decide +kernel)
set_option maxRecDepth 20000 in
theorem gX1_partOfGreatestHeight_X1_timeOfPart : GoodIn wsX1_partOfGreatestHeight (va_wsS RX1 304 yX1_timeOfPart wsX1_timeOfPart) := goodIn_app (goodIn_of _ (by decide +kernel)) ggX1_partOfGreatestHeight_X1_timeOfPart
set_option maxRecDepth 20000 in
theorem ggX1_partOfGreatestHeight_X1_heightOf : GoodIn wsX1_partOfGreatestHeight wsX1_heightOf := goodIn_ca (goodIn_r _ [9, 10, 11, 12, 13, 14, 15, 16, 3, 17, 18, 19, 20, 21, 22, 23, 24, 25, 26, 27, 28, 29, 30, 31, 32, 33, 34, 35, 36, 37, 38, 39, 40, 41, 42, 43, 44, 45, 46, 47, 48, 49, 50, 51, 52, 53, 54, 55, 56, 57, 58, 59, 60, 61, 62, 63, 64, 65, 66, 67, 68, 69, 70, 71, 72, 73, 74, 75, 76, 77, 78, 79, 80, 81, 82, 83, 84, 85, 86, 87, 88, 89, 90] (by decide +kernel) (by decide +kernel)) (goodIn_sub (fun _ h => List.mem_cons_of_mem _ (List.mem_append_right _ h)) (by decide +kernel))
set_option maxRecDepth 20000 in
theorem gX1_partOfGreatestHeight_X1_heightOf : GoodIn wsX1_partOfGreatestHeight (wsV RX1 229 RX1 yX1_heightOf wsX1_heightOf) := goodIn_app (goodIn_of _ (by decide +kernel)) ggX1_partOfGreatestHeight_X1_heightOf
theorem dX1_partOfGreatestHeight_0 : decode cX1_partOfGreatestHeight 0 = .ok (.iconst 1, 1) := by decide +kernel
theorem dX1_partOfGreatestHeight_1 : decode cX1_partOfGreatestHeight 1 = .ok (.istore_n 3, 1) := by decide +kernel
theorem dX1_partOfGreatestHeight_2 : decode cX1_partOfGreatestHeight 2 = .ok (.aload_n 0, 1) := by decide +kernel
theorem dX1_partOfGreatestHeight_3 : decode cX1_partOfGreatestHeight 3 = .ok (.aload_n 1, 1) := by decide +kernel
theorem dX1_partOfGreatestHeight_4 : decode cX1_partOfGreatestHeight 4 = .ok (.iload_n 2, 1) := by decide +kernel
theorem dX1_partOfGreatestHeight_5 : decode cX1_partOfGreatestHeight 5 = .ok (.iconst 1, 1) := by decide +kernel
theorem dX1_partOfGreatestHeight_6 : decode cX1_partOfGreatestHeight 6 = .ok (.invokestatic 304, 3) := by decide +kernel
theorem dX1_partOfGreatestHeight_9 : decode cX1_partOfGreatestHeight 9 = .ok (.invokevirtual 229, 3) := by decide +kernel
theorem dX1_partOfGreatestHeight_12 : decode cX1_partOfGreatestHeight 12 = .ok (.dstore 4, 2) := by decide +kernel
theorem dX1_partOfGreatestHeight_14 : decode cX1_partOfGreatestHeight 14 = .ok (.iconst 2, 1) := by decide +kernel
theorem dX1_partOfGreatestHeight_15 : decode cX1_partOfGreatestHeight 15 = .ok (.istore 6, 2) := by decide +kernel
theorem dX1_partOfGreatestHeight_17 : decode cX1_partOfGreatestHeight 17 = .ok (.iload 6, 2) := by decide +kernel
theorem dX1_partOfGreatestHeight_19 : decode cX1_partOfGreatestHeight 19 = .ok (.bipush 16, 2) := by decide +kernel
theorem dX1_partOfGreatestHeight_21 : decode cX1_partOfGreatestHeight 21 = .ok (.if_icmp .ge 37, 3) := by decide +kernel
theorem dX1_partOfGreatestHeight_24 : decode cX1_partOfGreatestHeight 24 = .ok (.aload_n 0, 1) := by decide +kernel
theorem dX1_partOfGreatestHeight_25 : decode cX1_partOfGreatestHeight 25 = .ok (.aload_n 1, 1) := by decide +kernel
theorem dX1_partOfGreatestHeight_26 : decode cX1_partOfGreatestHeight 26 = .ok (.iload_n 2, 1) := by decide +kernel
theorem dX1_partOfGreatestHeight_27 : decode cX1_partOfGreatestHeight 27 = .ok (.iload 6, 2) := by decide +kernel
theorem dX1_partOfGreatestHeight_29 : decode cX1_partOfGreatestHeight 29 = .ok (.invokestatic 304, 3) := by decide +kernel
theorem dX1_partOfGreatestHeight_32 : decode cX1_partOfGreatestHeight 32 = .ok (.invokevirtual 229, 3) := by decide +kernel
theorem dX1_partOfGreatestHeight_35 : decode cX1_partOfGreatestHeight 35 = .ok (.dstore 7, 2) := by decide +kernel
theorem dX1_partOfGreatestHeight_37 : decode cX1_partOfGreatestHeight 37 = .ok (.dload 7, 2) := by decide +kernel
theorem dX1_partOfGreatestHeight_39 : decode cX1_partOfGreatestHeight 39 = .ok (.dload 4, 2) := by decide +kernel
theorem dX1_partOfGreatestHeight_41 : decode cX1_partOfGreatestHeight 41 = .ok (.dcmp .l, 1) := by decide +kernel
theorem dX1_partOfGreatestHeight_42 : decode cX1_partOfGreatestHeight 42 = .ok (.ifCond .le 10, 3) := by decide +kernel
theorem dX1_partOfGreatestHeight_45 : decode cX1_partOfGreatestHeight 45 = .ok (.iload 6, 2) := by decide +kernel
theorem dX1_partOfGreatestHeight_47 : decode cX1_partOfGreatestHeight 47 = .ok (.istore_n 3, 1) := by decide +kernel
theorem dX1_partOfGreatestHeight_48 : decode cX1_partOfGreatestHeight 48 = .ok (.dload 7, 2) := by decide +kernel
theorem dX1_partOfGreatestHeight_50 : decode cX1_partOfGreatestHeight 50 = .ok (.dstore 4, 2) := by decide +kernel
theorem dX1_partOfGreatestHeight_52 : decode cX1_partOfGreatestHeight 52 = .ok (.iinc 6 1, 3) := by decide +kernel
theorem dX1_partOfGreatestHeight_55 : decode cX1_partOfGreatestHeight 55 = .ok (.goto (-38), 3) := by decide +kernel
theorem dX1_partOfGreatestHeight_58 : decode cX1_partOfGreatestHeight 58 = .ok (.iload_n 3, 1) := by decide +kernel
theorem dX1_partOfGreatestHeight_59 : decode cX1_partOfGreatestHeight 59 = .ok (.ireturn, 1) := by decide +kernel
set_option maxRecDepth 20000 in
theorem ggX1_narrowedToHighest_X1_timeOfPart : GoodIn wsX1_narrowedToHighest wsX1_timeOfPart := goodIn_r _ [6, 7] (by decide +kernel) (by decide +kernel)
set_option maxRecDepth 20000 in
theorem gX1_narrowedToHighest_X1_timeOfPart : GoodIn wsX1_narrowedToHighest (va_wsS RX1 304 yX1_timeOfPart wsX1_timeOfPart) := goodIn_app (goodIn_of _ (by decide +kernel)) ggX1_narrowedToHighest_X1_timeOfPart
set_option maxRecDepth 20000 in
theorem ggX1_narrowedToHighest_X1_heightOf : GoodIn wsX1_narrowedToHighest wsX1_heightOf := goodIn_ca (goodIn_r _ [11, 12, 13, 14, 15, 16, 17, 18, 5, 19, 20, 21, 2, 22, 23, 24, 25, 26, 27, 28, 29, 30, 31, 32, 33, 34, 35, 36, 37, 38, 39, 40, 41, 42, 43, 44, 45, 46, 47, 48, 49, 50, 51, 52, 53, 54, 55, 56, 57, 58, 59, 60, 61, 62, 63, 64, 65, 66, 67, 68, 69, 70, 71, 72, 73, 74, 75, 76, 77, 78, 79, 80, 81, 82, 83, 84, 85, 86, 87, 88, 89, 90, 91] (by decide +kernel) (by decide +kernel)) (goodIn_sub (fun _ h => List.mem_cons_of_mem _ (List.mem_append_right _ h)) (by decide +kernel))
set_option maxRecDepth 20000 in
theorem gX1_narrowedToHighest_X1_heightOf : GoodIn wsX1_narrowedToHighest (wsV RX1 229 RX1 yX1_heightOf wsX1_heightOf) := goodIn_app (goodIn_of _ (by decide +kernel)) ggX1_narrowedToHighest_X1_heightOf
theorem dX1_narrowedToHighest_0 : decode cX1_narrowedToHighest 0 = .ok (.iload_n 2, 1) := by decide +kernel
theorem dX1_narrowedToHighest_1 : decode cX1_narrowedToHighest 1 = .ok (.iload_n 3, 1) := by decide +kernel
theorem dX1_narrowedToHighest_2 : decode cX1_narrowedToHighest 2 = .ok (.iconst 1, 1) := by decide +kernel
theorem dX1_narrowedToHighest_3 : decode cX1_narrowedToHighest 3 = .ok (.isub, 1) := by decide +kernel
theorem dX1_narrowedToHighest_4 : decode cX1_narrowedToHighest 4 = .ok (.invokestatic 304, 3) := by decide +kernel
theorem dX1_narrowedToHighest_7 : decode cX1_narrowedToHighest 7 = .ok (.dstore 4, 2) := by decide +kernel
theorem dX1_narrowedToHighest_9 : decode cX1_narrowedToHighest 9 = .ok (.iload_n 2, 1) := by decide +kernel
theorem dX1_narrowedToHighest_10 : decode cX1_narrowedToHighest 10 = .ok (.iload_n 3, 1) := by decide +kernel
theorem dX1_narrowedToHighest_11 : decode cX1_narrowedToHighest 11 = .ok (.iconst 1, 1) := by decide +kernel
theorem dX1_narrowedToHighest_12 : decode cX1_narrowedToHighest 12 = .ok (.iadd, 1) := by decide +kernel
theorem dX1_narrowedToHighest_13 : decode cX1_narrowedToHighest 13 = .ok (.invokestatic 304, 3) := by decide +kernel
theorem dX1_narrowedToHighest_16 : decode cX1_narrowedToHighest 16 = .ok (.dstore 6, 2) := by decide +kernel
theorem dX1_narrowedToHighest_18 : decode cX1_narrowedToHighest 18 = .ok (.iconst 0, 1) := by decide +kernel
theorem dX1_narrowedToHighest_19 : decode cX1_narrowedToHighest 19 = .ok (.istore 8, 2) := by decide +kernel
theorem dX1_narrowedToHighest_21 : decode cX1_narrowedToHighest 21 = .ok (.iload 8, 2) := by decide +kernel
theorem dX1_narrowedToHighest_23 : decode cX1_narrowedToHighest 23 = .ok (.bipush 24, 2) := by decide +kernel
theorem dX1_narrowedToHighest_25 : decode cX1_narrowedToHighest 25 = .ok (.if_icmp .ge 74, 3) := by decide +kernel
theorem dX1_narrowedToHighest_28 : decode cX1_narrowedToHighest 28 = .ok (.dload 4, 2) := by decide +kernel
theorem dX1_narrowedToHighest_30 : decode cX1_narrowedToHighest 30 = .ok (.dload 6, 2) := by decide +kernel
theorem dX1_narrowedToHighest_32 : decode cX1_narrowedToHighest 32 = .ok (.dload 4, 2) := by decide +kernel
theorem dX1_narrowedToHighest_34 : decode cX1_narrowedToHighest 34 = .ok (.dsub, 1) := by decide +kernel
theorem dX1_narrowedToHighest_35 : decode cX1_narrowedToHighest 35 = .ok (.ldc2_w 308, 3) := by decide +kernel
theorem dX1_narrowedToHighest_38 : decode cX1_narrowedToHighest 38 = .ok (.ddiv, 1) := by decide +kernel
theorem dX1_narrowedToHighest_39 : decode cX1_narrowedToHighest 39 = .ok (.dadd, 1) := by decide +kernel
theorem dX1_narrowedToHighest_40 : decode cX1_narrowedToHighest 40 = .ok (.dstore 9, 2) := by decide +kernel
theorem dX1_narrowedToHighest_42 : decode cX1_narrowedToHighest 42 = .ok (.dload 6, 2) := by decide +kernel
theorem dX1_narrowedToHighest_44 : decode cX1_narrowedToHighest 44 = .ok (.dload 6, 2) := by decide +kernel
theorem dX1_narrowedToHighest_46 : decode cX1_narrowedToHighest 46 = .ok (.dload 4, 2) := by decide +kernel
theorem dX1_narrowedToHighest_48 : decode cX1_narrowedToHighest 48 = .ok (.dsub, 1) := by decide +kernel
theorem dX1_narrowedToHighest_49 : decode cX1_narrowedToHighest 49 = .ok (.ldc2_w 308, 3) := by decide +kernel
theorem dX1_narrowedToHighest_52 : decode cX1_narrowedToHighest 52 = .ok (.ddiv, 1) := by decide +kernel
theorem dX1_narrowedToHighest_53 : decode cX1_narrowedToHighest 53 = .ok (.dsub, 1) := by decide +kernel
theorem dX1_narrowedToHighest_54 : decode cX1_narrowedToHighest 54 = .ok (.dstore 11, 2) := by decide +kernel
theorem dX1_narrowedToHighest_56 : decode cX1_narrowedToHighest 56 = .ok (.aload_n 0, 1) := by decide +kernel
theorem dX1_narrowedToHighest_57 : decode cX1_narrowedToHighest 57 = .ok (.aload_n 1, 1) := by decide +kernel
theorem dX1_narrowedToHighest_58 : decode cX1_narrowedToHighest 58 = .ok (.dload 9, 2) := by decide +kernel
theorem dX1_narrowedToHighest_60 : decode cX1_narrowedToHighest 60 = .ok (.invokevirtual 229, 3) := by decide +kernel
theorem dX1_narrowedToHighest_63 : decode cX1_narrowedToHighest 63 = .ok (.dstore 13, 2) := by decide +kernel
theorem dX1_narrowedToHighest_65 : decode cX1_narrowedToHighest 65 = .ok (.aload_n 0, 1) := by decide +kernel
theorem dX1_narrowedToHighest_66 : decode cX1_narrowedToHighest 66 = .ok (.aload_n 1, 1) := by decide +kernel
theorem dX1_narrowedToHighest_67 : decode cX1_narrowedToHighest 67 = .ok (.dload 11, 2) := by decide +kernel
theorem dX1_narrowedToHighest_69 : decode cX1_narrowedToHighest 69 = .ok (.invokevirtual 229, 3) := by decide +kernel
theorem dX1_narrowedToHighest_72 : decode cX1_narrowedToHighest 72 = .ok (.dstore 15, 2) := by decide +kernel
theorem dX1_narrowedToHighest_74 : decode cX1_narrowedToHighest 74 = .ok (.dload 13, 2) := by decide +kernel
theorem dX1_narrowedToHighest_76 : decode cX1_narrowedToHighest 76 = .ok (.dload 15, 2) := by decide +kernel
theorem dX1_narrowedToHighest_78 : decode cX1_narrowedToHighest 78 = .ok (.dcmp .g, 1) := by decide +kernel
theorem dX1_narrowedToHighest_79 : decode cX1_narrowedToHighest 79 = .ok (.ifCond .ge 10, 3) := by decide +kernel
theorem dX1_narrowedToHighest_82 : decode cX1_narrowedToHighest 82 = .ok (.dload 9, 2) := by decide +kernel
theorem dX1_narrowedToHighest_84 : decode cX1_narrowedToHighest 84 = .ok (.dstore 4, 2) := by decide +kernel
theorem dX1_narrowedToHighest_86 : decode cX1_narrowedToHighest 86 = .ok (.goto 7, 3) := by decide +kernel
theorem dX1_narrowedToHighest_89 : decode cX1_narrowedToHighest 89 = .ok (.dload 11, 2) := by decide +kernel
theorem dX1_narrowedToHighest_91 : decode cX1_narrowedToHighest 91 = .ok (.dstore 6, 2) := by decide +kernel
theorem dX1_narrowedToHighest_93 : decode cX1_narrowedToHighest 93 = .ok (.iinc 8 1, 3) := by decide +kernel
theorem dX1_narrowedToHighest_96 : decode cX1_narrowedToHighest 96 = .ok (.goto (-75), 3) := by decide +kernel
theorem dX1_narrowedToHighest_99 : decode cX1_narrowedToHighest 99 = .ok (.dload 4, 2) := by decide +kernel
theorem dX1_narrowedToHighest_101 : decode cX1_narrowedToHighest 101 = .ok (.dload 6, 2) := by decide +kernel
theorem dX1_narrowedToHighest_103 : decode cX1_narrowedToHighest 103 = .ok (.dadd, 1) := by decide +kernel
theorem dX1_narrowedToHighest_104 : decode cX1_narrowedToHighest 104 = .ok (.ldc2_w 251, 3) := by decide +kernel
theorem dX1_narrowedToHighest_107 : decode cX1_narrowedToHighest 107 = .ok (.ddiv, 1) := by decide +kernel
theorem dX1_narrowedToHighest_108 : decode cX1_narrowedToHighest 108 = .ok (.dreturn, 1) := by decide +kernel
set_option maxRecDepth 20000 in
theorem ggX1_write_X1_isWithin : GoodIn wsX1_write wsX1_isWithin := goodIn_r _ [14] (by decide +kernel) (by decide +kernel)
set_option maxRecDepth 20000 in
theorem gX1_write_X1_isWithin : GoodIn wsX1_write (va_wsS RX1 145 yX1_isWithin wsX1_isWithin) := goodIn_app (goodIn_of _ (by decide +kernel)) ggX1_write_X1_isWithin
set_option maxRecDepth 20000 in
theorem ggX1_write_X1_isWholeWithin : GoodIn wsX1_write wsX1_isWholeWithin := goodIn_r _ [17] (by decide +kernel) (by decide +kernel)
set_option maxRecDepth 20000 in
theorem gX1_write_X1_isWholeWithin : GoodIn wsX1_write (va_wsS RX1 39 yX1_isWholeWithin wsX1_isWholeWithin) := goodIn_app (goodIn_of _ (by decide +kernel)) ggX1_write_X1_isWholeWithin
set_option maxRecDepth 20000 in
theorem ggX1_write_X1_tenToThe : GoodIn wsX1_write wsX1_tenToThe := goodIn_r _ [20, 21] (by decide +kernel) (by decide +kernel)
set_option maxRecDepth 20000 in
theorem gX1_write_X1_tenToThe : GoodIn wsX1_write (va_wsS RX1 320 yX1_tenToThe wsX1_tenToThe) := goodIn_app (goodIn_of _ (by decide +kernel)) ggX1_write_X1_tenToThe
set_option maxRecDepth 20000 in
theorem ggX1_write_X1_wholeParts : GoodIn wsX1_write wsX1_wholeParts := goodIn_r _ [24] (by decide +kernel) (by decide +kernel)
set_option maxRecDepth 20000 in
theorem gX1_write_X1_wholeParts : GoodIn wsX1_write (va_wsS RX1 326 yX1_wholeParts wsX1_wholeParts) := goodIn_app (goodIn_of _ (by decide +kernel)) ggX1_write_X1_wholeParts
set_option maxRecDepth 20000 in
theorem ggX1_write_X1_put : GoodIn wsX1_write wsX1_put := goodIn_r _ [28, 8, 29, 36, 37, 38, 39, 40, 41, 42] (by decide +kernel) (by decide +kernel)
set_option maxRecDepth 20000 in
theorem gX1_write_X1_put : GoodIn wsX1_write (wsV RX1 329 RX1 yX1_put wsX1_put) := goodIn_app (goodIn_of _ (by decide +kernel)) ggX1_write_X1_put
set_option maxRecDepth 20000 in
theorem ggX1_write_X1_putNumber : GoodIn wsX1_write wsX1_putNumber := goodIn_r _ [33, 21, 34, 35, 22, 23, 13, 24, 25, 26, 27, 28, 8, 29, 36, 37, 38, 39, 40, 41, 42] (by decide +kernel) (by decide +kernel)
set_option maxRecDepth 20000 in
theorem gX1_write_X1_putNumber : GoodIn wsX1_write (wsV RX1 335 RX1 yX1_putNumber wsX1_putNumber) := goodIn_app (goodIn_of _ (by decide +kernel)) ggX1_write_X1_putNumber
theorem dX1_write_0 : decode cX1_write 0 = .ok (.dload_n 1, 1) := by decide +kernel
theorem dX1_write_1 : decode cX1_write 1 = .ok (.ldc2_w 310, 3) := by decide +kernel
theorem dX1_write_4 : decode cX1_write 4 = .ok (.ldc2_w 312, 3) := by decide +kernel
theorem dX1_write_7 : decode cX1_write 7 = .ok (.invokestatic 145, 3) := by decide +kernel
theorem dX1_write_10 : decode cX1_write 10 = .ok (.ifCond .ne 14, 3) := by decide +kernel
theorem dX1_write_13 : decode cX1_write 13 = .ok (.new 43, 3) := by decide +kernel
theorem dX1_write_16 : decode cX1_write 16 = .ok (.dup, 1) := by decide +kernel
theorem dX1_write_17 : decode cX1_write 17 = .ok (.ldc_w 314, 3) := by decide +kernel
theorem dX1_write_20 : decode cX1_write 20 = .ok (.invokespecial 47, 3) := by decide +kernel
theorem dX1_write_23 : decode cX1_write 23 = .ok (.athrow, 1) := by decide +kernel
theorem dX1_write_24 : decode cX1_write 24 = .ok (.iload_n 3, 1) := by decide +kernel
theorem dX1_write_25 : decode cX1_write 25 = .ok (.i2l, 1) := by decide +kernel
theorem dX1_write_26 : decode cX1_write 26 = .ok (.lconst 0, 1) := by decide +kernel
theorem dX1_write_27 : decode cX1_write 27 = .ok (.ldc2_w 316, 3) := by decide +kernel
theorem dX1_write_30 : decode cX1_write 30 = .ok (.invokestatic 39, 3) := by decide +kernel
theorem dX1_write_33 : decode cX1_write 33 = .ok (.ifCond .ne 14, 3) := by decide +kernel
theorem dX1_write_36 : decode cX1_write 36 = .ok (.new 43, 3) := by decide +kernel
theorem dX1_write_39 : decode cX1_write 39 = .ok (.dup, 1) := by decide +kernel
theorem dX1_write_40 : decode cX1_write 40 = .ok (.ldc_w 318, 3) := by decide +kernel
theorem dX1_write_43 : decode cX1_write 43 = .ok (.invokespecial 47, 3) := by decide +kernel
theorem dX1_write_46 : decode cX1_write 46 = .ok (.athrow, 1) := by decide +kernel
theorem dX1_write_47 : decode cX1_write 47 = .ok (.iload_n 3, 1) := by decide +kernel
theorem dX1_write_48 : decode cX1_write 48 = .ok (.invokestatic 320, 3) := by decide +kernel
theorem dX1_write_51 : decode cX1_write 51 = .ok (.lstore 4, 2) := by decide +kernel
theorem dX1_write_53 : decode cX1_write 53 = .ok (.dload_n 1, 1) := by decide +kernel
theorem dX1_write_54 : decode cX1_write 54 = .ok (.dconst 0, 1) := by decide +kernel
theorem dX1_write_55 : decode cX1_write 55 = .ok (.dcmp .g, 1) := by decide +kernel
theorem dX1_write_56 : decode cX1_write 56 = .ok (.ifCond .ge 8, 3) := by decide +kernel
theorem dX1_write_59 : decode cX1_write 59 = .ok (.dload_n 1, 1) := by decide +kernel
theorem dX1_write_60 : decode cX1_write 60 = .ok (.dneg, 1) := by decide +kernel
theorem dX1_write_61 : decode cX1_write 61 = .ok (.goto 4, 3) := by decide +kernel
theorem dX1_write_64 : decode cX1_write 64 = .ok (.dload_n 1, 1) := by decide +kernel
theorem dX1_write_65 : decode cX1_write 65 = .ok (.dstore 6, 2) := by decide +kernel
theorem dX1_write_67 : decode cX1_write 67 = .ok (.dload 6, 2) := by decide +kernel
theorem dX1_write_69 : decode cX1_write 69 = .ok (.ldc2_w 324, 3) := by decide +kernel
theorem dX1_write_72 : decode cX1_write 72 = .ok (.dmul, 1) := by decide +kernel
theorem dX1_write_73 : decode cX1_write 73 = .ok (.lload 4, 2) := by decide +kernel
theorem dX1_write_75 : decode cX1_write 75 = .ok (.l2d, 1) := by decide +kernel
theorem dX1_write_76 : decode cX1_write 76 = .ok (.dmul, 1) := by decide +kernel
theorem dX1_write_77 : decode cX1_write 77 = .ok (.ldc2_w 249, 3) := by decide +kernel
theorem dX1_write_80 : decode cX1_write 80 = .ok (.dadd, 1) := by decide +kernel
theorem dX1_write_81 : decode cX1_write 81 = .ok (.d2l, 1) := by decide +kernel
theorem dX1_write_82 : decode cX1_write 82 = .ok (.lstore 8, 2) := by decide +kernel
theorem dX1_write_84 : decode cX1_write 84 = .ok (.lload 8, 2) := by decide +kernel
theorem dX1_write_86 : decode cX1_write 86 = .ok (.lload 4, 2) := by decide +kernel
theorem dX1_write_88 : decode cX1_write 88 = .ok (.invokestatic 326, 3) := by decide +kernel
theorem dX1_write_91 : decode cX1_write 91 = .ok (.lstore 10, 2) := by decide +kernel
theorem dX1_write_93 : decode cX1_write 93 = .ok (.aload_n 0, 1) := by decide +kernel
theorem dX1_write_94 : decode cX1_write 94 = .ok (.iconst 0, 1) := by decide +kernel
theorem dX1_write_95 : decode cX1_write 95 = .ok (.putfield 20, 3) := by decide +kernel
theorem dX1_write_98 : decode cX1_write 98 = .ok (.dload_n 1, 1) := by decide +kernel
theorem dX1_write_99 : decode cX1_write 99 = .ok (.dconst 0, 1) := by decide +kernel
theorem dX1_write_100 : decode cX1_write 100 = .ok (.dcmp .g, 1) := by decide +kernel
theorem dX1_write_101 : decode cX1_write 101 = .ok (.ifCond .ge 16, 3) := by decide +kernel
theorem dX1_write_104 : decode cX1_write 104 = .ok (.lload 8, 2) := by decide +kernel
theorem dX1_write_106 : decode cX1_write 106 = .ok (.lconst 0, 1) := by decide +kernel
theorem dX1_write_107 : decode cX1_write 107 = .ok (.lcmp, 1) := by decide +kernel
theorem dX1_write_108 : decode cX1_write 108 = .ok (.ifCond .le 9, 3) := by decide +kernel
theorem dX1_write_111 : decode cX1_write 111 = .ok (.aload_n 0, 1) := by decide +kernel
theorem dX1_write_112 : decode cX1_write 112 = .ok (.bipush 45, 2) := by decide +kernel
theorem dX1_write_114 : decode cX1_write 114 = .ok (.invokevirtual 329, 3) := by decide +kernel
theorem dX1_write_117 : decode cX1_write 117 = .ok (.aload_n 0, 1) := by decide +kernel
theorem dX1_write_118 : decode cX1_write 118 = .ok (.lload 10, 2) := by decide +kernel
theorem dX1_write_120 : decode cX1_write 120 = .ok (.ldc2_w 333, 3) := by decide +kernel
theorem dX1_write_123 : decode cX1_write 123 = .ok (.ldiv, 1) := by decide +kernel
theorem dX1_write_124 : decode cX1_write 124 = .ok (.iconst 1, 1) := by decide +kernel
theorem dX1_write_125 : decode cX1_write 125 = .ok (.invokevirtual 335, 3) := by decide +kernel
theorem dX1_write_128 : decode cX1_write 128 = .ok (.aload_n 0, 1) := by decide +kernel
theorem dX1_write_129 : decode cX1_write 129 = .ok (.bipush 100, 2) := by decide +kernel
theorem dX1_write_131 : decode cX1_write 131 = .ok (.invokevirtual 329, 3) := by decide +kernel
theorem dX1_write_134 : decode cX1_write 134 = .ok (.aload_n 0, 1) := by decide +kernel
theorem dX1_write_135 : decode cX1_write 135 = .ok (.lload 10, 2) := by decide +kernel
theorem dX1_write_137 : decode cX1_write 137 = .ok (.ldc2_w 339, 3) := by decide +kernel
theorem dX1_write_140 : decode cX1_write 140 = .ok (.ldiv, 1) := by decide +kernel
theorem dX1_write_141 : decode cX1_write 141 = .ok (.ldc2_w 339, 3) := by decide +kernel
theorem dX1_write_144 : decode cX1_write 144 = .ok (.lrem, 1) := by decide +kernel
theorem dX1_write_145 : decode cX1_write 145 = .ok (.iconst 2, 1) := by decide +kernel
theorem dX1_write_146 : decode cX1_write 146 = .ok (.invokevirtual 335, 3) := by decide +kernel
theorem dX1_write_149 : decode cX1_write 149 = .ok (.aload_n 0, 1) := by decide +kernel
theorem dX1_write_150 : decode cX1_write 150 = .ok (.bipush 109, 2) := by decide +kernel
theorem dX1_write_152 : decode cX1_write 152 = .ok (.invokevirtual 329, 3) := by decide +kernel
theorem dX1_write_155 : decode cX1_write 155 = .ok (.aload_n 0, 1) := by decide +kernel
theorem dX1_write_156 : decode cX1_write 156 = .ok (.lload 10, 2) := by decide +kernel
theorem dX1_write_158 : decode cX1_write 158 = .ok (.ldc2_w 339, 3) := by decide +kernel
theorem dX1_write_161 : decode cX1_write 161 = .ok (.lrem, 1) := by decide +kernel
theorem dX1_write_162 : decode cX1_write 162 = .ok (.iconst 2, 1) := by decide +kernel
theorem dX1_write_163 : decode cX1_write 163 = .ok (.invokevirtual 335, 3) := by decide +kernel
theorem dX1_write_166 : decode cX1_write 166 = .ok (.iload_n 3, 1) := by decide +kernel
theorem dX1_write_167 : decode cX1_write 167 = .ok (.ifCond .le 22, 3) := by decide +kernel
theorem dX1_write_170 : decode cX1_write 170 = .ok (.aload_n 0, 1) := by decide +kernel
theorem dX1_write_171 : decode cX1_write 171 = .ok (.bipush 46, 2) := by decide +kernel
theorem dX1_write_173 : decode cX1_write 173 = .ok (.invokevirtual 329, 3) := by decide +kernel
theorem dX1_write_176 : decode cX1_write 176 = .ok (.aload_n 0, 1) := by decide +kernel
theorem dX1_write_177 : decode cX1_write 177 = .ok (.lload 8, 2) := by decide +kernel
theorem dX1_write_179 : decode cX1_write 179 = .ok (.lload 10, 2) := by decide +kernel
theorem dX1_write_181 : decode cX1_write 181 = .ok (.lload 4, 2) := by decide +kernel
theorem dX1_write_183 : decode cX1_write 183 = .ok (.lmul, 1) := by decide +kernel
theorem dX1_write_184 : decode cX1_write 184 = .ok (.lsub, 1) := by decide +kernel
theorem dX1_write_185 : decode cX1_write 185 = .ok (.iload_n 3, 1) := by decide +kernel
theorem dX1_write_186 : decode cX1_write 186 = .ok (.invokevirtual 335, 3) := by decide +kernel
theorem dX1_write_189 : decode cX1_write 189 = .ok (.aload_n 0, 1) := by decide +kernel
theorem dX1_write_190 : decode cX1_write 190 = .ok (.bipush 115, 2) := by decide +kernel
theorem dX1_write_192 : decode cX1_write 192 = .ok (.invokevirtual 329, 3) := by decide +kernel
theorem dX1_write_195 : decode cX1_write 195 = .ok (.aload_n 0, 1) := by decide +kernel
theorem dX1_write_196 : decode cX1_write 196 = .ok (.getfield 20, 3) := by decide +kernel
theorem dX1_write_199 : decode cX1_write 199 = .ok (.ireturn, 1) := by decide +kernel
theorem dX1_letter_0 : decode cX1_letter 0 = .ok (.iload_n 1, 1) := by decide +kernel
theorem dX1_letter_1 : decode cX1_letter 1 = .ok (.ifCond .lt 20, 3) := by decide +kernel
theorem dX1_letter_4 : decode cX1_letter 4 = .ok (.iload_n 1, 1) := by decide +kernel
theorem dX1_letter_5 : decode cX1_letter 5 = .ok (.aload_n 0, 1) := by decide +kernel
theorem dX1_letter_6 : decode cX1_letter 6 = .ok (.getfield 20, 3) := by decide +kernel
theorem dX1_letter_9 : decode cX1_letter 9 = .ok (.if_icmp .ge 12, 3) := by decide +kernel
theorem dX1_letter_12 : decode cX1_letter 12 = .ok (.iload_n 1, 1) := by decide +kernel
theorem dX1_letter_13 : decode cX1_letter 13 = .ok (.aload_n 0, 1) := by decide +kernel
theorem dX1_letter_14 : decode cX1_letter 14 = .ok (.getfield 16, 3) := by decide +kernel
theorem dX1_letter_17 : decode cX1_letter 17 = .ok (.arraylength, 1) := by decide +kernel
theorem dX1_letter_18 : decode cX1_letter 18 = .ok (.if_icmp .lt 14, 3) := by decide +kernel
theorem dX1_letter_21 : decode cX1_letter 21 = .ok (.new 136, 3) := by decide +kernel
theorem dX1_letter_24 : decode cX1_letter 24 = .ok (.dup, 1) := by decide +kernel
theorem dX1_letter_25 : decode cX1_letter 25 = .ok (.ldc_w 341, 3) := by decide +kernel
theorem dX1_letter_28 : decode cX1_letter 28 = .ok (.invokespecial 140, 3) := by decide +kernel
theorem dX1_letter_31 : decode cX1_letter 31 = .ok (.athrow, 1) := by decide +kernel
theorem dX1_letter_32 : decode cX1_letter 32 = .ok (.aload_n 0, 1) := by decide +kernel
theorem dX1_letter_33 : decode cX1_letter 33 = .ok (.getfield 16, 3) := by decide +kernel
theorem dX1_letter_36 : decode cX1_letter 36 = .ok (.iload_n 1, 1) := by decide +kernel
theorem dX1_letter_37 : decode cX1_letter 37 = .ok (.caload, 1) := by decide +kernel
theorem dX1_letter_38 : decode cX1_letter 38 = .ok (.ireturn, 1) := by decide +kernel
set_option maxRecDepth 20000 in
theorem ggX1_angle_X1_isWholeWithin : GoodIn wsX1_angle wsX1_isWholeWithin := goodIn_r _ [10] (by decide +kernel) (by decide +kernel)
set_option maxRecDepth 20000 in
theorem gX1_angle_X1_isWholeWithin : GoodIn wsX1_angle (va_wsS RX1 39 yX1_isWholeWithin wsX1_isWholeWithin) := goodIn_app (goodIn_of _ (by decide +kernel)) ggX1_angle_X1_isWholeWithin
theorem dX1_angle_0 : decode cX1_angle 0 = .ok (.iload_n 1, 1) := by decide +kernel
theorem dX1_angle_1 : decode cX1_angle 1 = .ok (.iconst 1, 1) := by decide +kernel
theorem dX1_angle_2 : decode cX1_angle 2 = .ok (.if_icmp .eq 19, 3) := by decide +kernel
theorem dX1_angle_5 : decode cX1_angle 5 = .ok (.iload_n 1, 1) := by decide +kernel
theorem dX1_angle_6 : decode cX1_angle 6 = .ok (.iconst (-1), 1) := by decide +kernel
theorem dX1_angle_7 : decode cX1_angle 7 = .ok (.if_icmp .eq 14, 3) := by decide +kernel
theorem dX1_angle_10 : decode cX1_angle 10 = .ok (.new 43, 3) := by decide +kernel
theorem dX1_angle_13 : decode cX1_angle 13 = .ok (.dup, 1) := by decide +kernel
theorem dX1_angle_14 : decode cX1_angle 14 = .ok (.ldc_w 343, 3) := by decide +kernel
theorem dX1_angle_17 : decode cX1_angle 17 = .ok (.invokespecial 47, 3) := by decide +kernel
theorem dX1_angle_20 : decode cX1_angle 20 = .ok (.athrow, 1) := by decide +kernel
theorem dX1_angle_21 : decode cX1_angle 21 = .ok (.iload_n 2, 1) := by decide +kernel
theorem dX1_angle_22 : decode cX1_angle 22 = .ok (.i2l, 1) := by decide +kernel
theorem dX1_angle_23 : decode cX1_angle 23 = .ok (.lconst 0, 1) := by decide +kernel
theorem dX1_angle_24 : decode cX1_angle 24 = .ok (.ldc2_w 345, 3) := by decide +kernel
theorem dX1_angle_27 : decode cX1_angle 27 = .ok (.invokestatic 39, 3) := by decide +kernel
theorem dX1_angle_30 : decode cX1_angle 30 = .ok (.ifCond .eq 31, 3) := by decide +kernel
theorem dX1_angle_33 : decode cX1_angle 33 = .ok (.iload_n 3, 1) := by decide +kernel
theorem dX1_angle_34 : decode cX1_angle 34 = .ok (.i2l, 1) := by decide +kernel
theorem dX1_angle_35 : decode cX1_angle 35 = .ok (.lconst 0, 1) := by decide +kernel
theorem dX1_angle_36 : decode cX1_angle 36 = .ok (.ldc2_w 347, 3) := by decide +kernel
theorem dX1_angle_39 : decode cX1_angle 39 = .ok (.invokestatic 39, 3) := by decide +kernel
theorem dX1_angle_42 : decode cX1_angle 42 = .ok (.ifCond .eq 19, 3) := by decide +kernel
theorem dX1_angle_45 : decode cX1_angle 45 = .ok (.dload 4, 2) := by decide +kernel
theorem dX1_angle_47 : decode cX1_angle 47 = .ok (.dconst 0, 1) := by decide +kernel
theorem dX1_angle_48 : decode cX1_angle 48 = .ok (.dcmp .l, 1) := by decide +kernel
theorem dX1_angle_49 : decode cX1_angle 49 = .ok (.ifCond .lt 12, 3) := by decide +kernel
theorem dX1_angle_52 : decode cX1_angle 52 = .ok (.dload 4, 2) := by decide +kernel
theorem dX1_angle_54 : decode cX1_angle 54 = .ok (.ldc2_w 349, 3) := by decide +kernel
theorem dX1_angle_57 : decode cX1_angle 57 = .ok (.dcmp .g, 1) := by decide +kernel
theorem dX1_angle_58 : decode cX1_angle 58 = .ok (.ifCond .lt 14, 3) := by decide +kernel
theorem dX1_angle_61 : decode cX1_angle 61 = .ok (.new 43, 3) := by decide +kernel
theorem dX1_angle_64 : decode cX1_angle 64 = .ok (.dup, 1) := by decide +kernel
theorem dX1_angle_65 : decode cX1_angle 65 = .ok (.ldc_w 351, 3) := by decide +kernel
theorem dX1_angle_68 : decode cX1_angle 68 = .ok (.invokespecial 47, 3) := by decide +kernel
theorem dX1_angle_71 : decode cX1_angle 71 = .ok (.athrow, 1) := by decide +kernel
theorem dX1_angle_72 : decode cX1_angle 72 = .ok (.iload_n 1, 1) := by decide +kernel
theorem dX1_angle_73 : decode cX1_angle 73 = .ok (.i2d, 1) := by decide +kernel
theorem dX1_angle_74 : decode cX1_angle 74 = .ok (.iload_n 2, 1) := by decide +kernel
theorem dX1_angle_75 : decode cX1_angle 75 = .ok (.i2d, 1) := by decide +kernel
theorem dX1_angle_76 : decode cX1_angle 76 = .ok (.iload_n 3, 1) := by decide +kernel
theorem dX1_angle_77 : decode cX1_angle 77 = .ok (.i2d, 1) := by decide +kernel
theorem dX1_angle_78 : decode cX1_angle 78 = .ok (.ldc2_w 349, 3) := by decide +kernel
theorem dX1_angle_81 : decode cX1_angle 81 = .ok (.ddiv, 1) := by decide +kernel
theorem dX1_angle_82 : decode cX1_angle 82 = .ok (.dadd, 1) := by decide +kernel
theorem dX1_angle_83 : decode cX1_angle 83 = .ok (.dload 4, 2) := by decide +kernel
theorem dX1_angle_85 : decode cX1_angle 85 = .ok (.ldc2_w 324, 3) := by decide +kernel
theorem dX1_angle_88 : decode cX1_angle 88 = .ok (.ddiv, 1) := by decide +kernel
theorem dX1_angle_89 : decode cX1_angle 89 = .ok (.dadd, 1) := by decide +kernel
theorem dX1_angle_90 : decode cX1_angle 90 = .ok (.dmul, 1) := by decide +kernel
theorem dX1_angle_91 : decode cX1_angle 91 = .ok (.dreturn, 1) := by decide +kernel
theorem dX1_tenToThe_0 : decode cX1_tenToThe 0 = .ok (.iload_n 0, 1) := by decide +kernel
theorem dX1_tenToThe_1 : decode cX1_tenToThe 1 = .ok (.ifCond .lt 19, 3) := by decide +kernel
theorem dX1_tenToThe_4 : decode cX1_tenToThe 4 = .ok (.iload_n 0, 1) := by decide +kernel
theorem dX1_tenToThe_5 : decode cX1_tenToThe 5 = .ok (.getstatic 353, 3) := by decide +kernel
theorem dX1_tenToThe_8 : decode cX1_tenToThe 8 = .ok (.arraylength, 1) := by decide +kernel
theorem dX1_tenToThe_9 : decode cX1_tenToThe 9 = .ok (.if_icmp .ge 11, 3) := by decide +kernel
theorem dX1_tenToThe_12 : decode cX1_tenToThe 12 = .ok (.getstatic 353, 3) := by decide +kernel
theorem dX1_tenToThe_15 : decode cX1_tenToThe 15 = .ok (.iload_n 0, 1) := by decide +kernel
theorem dX1_tenToThe_16 : decode cX1_tenToThe 16 = .ok (.laload, 1) := by decide +kernel
theorem dX1_tenToThe_17 : decode cX1_tenToThe 17 = .ok (.goto 4, 3) := by decide +kernel
theorem dX1_tenToThe_20 : decode cX1_tenToThe 20 = .ok (.lconst 1, 1) := by decide +kernel
theorem dX1_tenToThe_21 : decode cX1_tenToThe 21 = .ok (.lreturn, 1) := by decide +kernel
theorem dX1_wholeParts_0 : decode cX1_wholeParts 0 = .ok (.lload_n 2, 1) := by decide +kernel
theorem dX1_wholeParts_1 : decode cX1_wholeParts 1 = .ok (.lconst 0, 1) := by decide +kernel
theorem dX1_wholeParts_2 : decode cX1_wholeParts 2 = .ok (.lcmp, 1) := by decide +kernel
theorem dX1_wholeParts_3 : decode cX1_wholeParts 3 = .ok (.ifCond .le 9, 3) := by decide +kernel
theorem dX1_wholeParts_6 : decode cX1_wholeParts 6 = .ok (.lload_n 0, 1) := by decide +kernel
theorem dX1_wholeParts_7 : decode cX1_wholeParts 7 = .ok (.lload_n 2, 1) := by decide +kernel
theorem dX1_wholeParts_8 : decode cX1_wholeParts 8 = .ok (.ldiv, 1) := by decide +kernel
theorem dX1_wholeParts_9 : decode cX1_wholeParts 9 = .ok (.goto 4, 3) := by decide +kernel
theorem dX1_wholeParts_12 : decode cX1_wholeParts 12 = .ok (.lload_n 0, 1) := by decide +kernel
theorem dX1_wholeParts_13 : decode cX1_wholeParts 13 = .ok (.lreturn, 1) := by decide +kernel
theorem dX1_put_0 : decode cX1_put 0 = .ok (.aload_n 0, 1) := by decide +kernel
theorem dX1_put_1 : decode cX1_put 1 = .ok (.getfield 20, 3) := by decide +kernel
theorem dX1_put_4 : decode cX1_put 4 = .ok (.ifCond .lt 35, 3) := by decide +kernel
theorem dX1_put_7 : decode cX1_put 7 = .ok (.aload_n 0, 1) := by decide +kernel
theorem dX1_put_8 : decode cX1_put 8 = .ok (.getfield 20, 3) := by decide +kernel
theorem dX1_put_11 : decode cX1_put 11 = .ok (.aload_n 0, 1) := by decide +kernel
theorem dX1_put_12 : decode cX1_put 12 = .ok (.getfield 16, 3) := by decide +kernel
theorem dX1_put_15 : decode cX1_put 15 = .ok (.arraylength, 1) := by decide +kernel
theorem dX1_put_16 : decode cX1_put 16 = .ok (.if_icmp .ge 23, 3) := by decide +kernel
theorem dX1_put_19 : decode cX1_put 19 = .ok (.aload_n 0, 1) := by decide +kernel
theorem dX1_put_20 : decode cX1_put 20 = .ok (.getfield 16, 3) := by decide +kernel
theorem dX1_put_23 : decode cX1_put 23 = .ok (.aload_n 0, 1) := by decide +kernel
theorem dX1_put_24 : decode cX1_put 24 = .ok (.getfield 20, 3) := by decide +kernel
theorem dX1_put_27 : decode cX1_put 27 = .ok (.iload_n 1, 1) := by decide +kernel
theorem dX1_put_28 : decode cX1_put 28 = .ok (.castore, 1) := by decide +kernel
theorem dX1_put_29 : decode cX1_put 29 = .ok (.aload_n 0, 1) := by decide +kernel
theorem dX1_put_30 : decode cX1_put 30 = .ok (.dup, 1) := by decide +kernel
theorem dX1_put_31 : decode cX1_put 31 = .ok (.getfield 20, 3) := by decide +kernel
theorem dX1_put_34 : decode cX1_put 34 = .ok (.iconst 1, 1) := by decide +kernel
theorem dX1_put_35 : decode cX1_put 35 = .ok (.iadd, 1) := by decide +kernel
theorem dX1_put_36 : decode cX1_put 36 = .ok (.putfield 20, 3) := by decide +kernel
theorem dX1_put_39 : decode cX1_put 39 = .ok (.return_, 1) := by decide +kernel
set_option maxRecDepth 20000 in
theorem ggX1_putNumber_X1_wholeParts : GoodIn wsX1_putNumber wsX1_wholeParts := goodIn_r _ [7] (by decide +kernel) (by decide +kernel)
set_option maxRecDepth 20000 in
theorem gX1_putNumber_X1_wholeParts : GoodIn wsX1_putNumber (va_wsS RX1 326 yX1_wholeParts wsX1_wholeParts) := goodIn_app (goodIn_of _ (by decide +kernel)) ggX1_putNumber_X1_wholeParts
set_option maxRecDepth 20000 in
theorem ggX1_putNumber_X1_put : GoodIn wsX1_putNumber wsX1_put := goodIn_r _ [11, 12, 13, 14, 15, 16, 17, 18, 19, 20] (by decide +kernel) (by decide +kernel)
set_option maxRecDepth 20000 in
theorem gX1_putNumber_X1_put : GoodIn wsX1_putNumber (wsV RX1 329 RX1 yX1_put wsX1_put) := goodIn_app (goodIn_of _ (by decide +kernel)) ggX1_putNumber_X1_put
theorem dX1_putNumber_0 : decode cX1_putNumber 0 = .ok (.getstatic 353, 3) := by decide +kernel
theorem dX1_putNumber_3 : decode cX1_putNumber 3 = .ok (.arraylength, 1) := by decide +kernel
theorem dX1_putNumber_4 : decode cX1_putNumber 4 = .ok (.iconst 1, 1) := by decide +kernel
theorem dX1_putNumber_5 : decode cX1_putNumber 5 = .ok (.isub, 1) := by decide +kernel
theorem dX1_putNumber_6 : decode cX1_putNumber 6 = .ok (.istore 4, 2) := by decide +kernel
theorem dX1_putNumber_8 : decode cX1_putNumber 8 = .ok (.iload 4, 2) := by decide +kernel
theorem dX1_putNumber_10 : decode cX1_putNumber 10 = .ok (.ifCond .lt 50, 3) := by decide +kernel
theorem dX1_putNumber_13 : decode cX1_putNumber 13 = .ok (.iload 4, 2) := by decide +kernel
theorem dX1_putNumber_15 : decode cX1_putNumber 15 = .ok (.iload_n 3, 1) := by decide +kernel
theorem dX1_putNumber_16 : decode cX1_putNumber 16 = .ok (.if_icmp .lt 14, 3) := by decide +kernel
theorem dX1_putNumber_19 : decode cX1_putNumber 19 = .ok (.lload_n 1, 1) := by decide +kernel
theorem dX1_putNumber_20 : decode cX1_putNumber 20 = .ok (.getstatic 353, 3) := by decide +kernel
theorem dX1_putNumber_23 : decode cX1_putNumber 23 = .ok (.iload 4, 2) := by decide +kernel
theorem dX1_putNumber_25 : decode cX1_putNumber 25 = .ok (.laload, 1) := by decide +kernel
theorem dX1_putNumber_26 : decode cX1_putNumber 26 = .ok (.lcmp, 1) := by decide +kernel
theorem dX1_putNumber_27 : decode cX1_putNumber 27 = .ok (.ifCond .lt 27, 3) := by decide +kernel
theorem dX1_putNumber_30 : decode cX1_putNumber 30 = .ok (.aload_n 0, 1) := by decide +kernel
theorem dX1_putNumber_31 : decode cX1_putNumber 31 = .ok (.ldc2_w 357, 3) := by decide +kernel
theorem dX1_putNumber_34 : decode cX1_putNumber 34 = .ok (.lload_n 1, 1) := by decide +kernel
theorem dX1_putNumber_35 : decode cX1_putNumber 35 = .ok (.getstatic 353, 3) := by decide +kernel
theorem dX1_putNumber_38 : decode cX1_putNumber 38 = .ok (.iload 4, 2) := by decide +kernel
theorem dX1_putNumber_40 : decode cX1_putNumber 40 = .ok (.laload, 1) := by decide +kernel
theorem dX1_putNumber_41 : decode cX1_putNumber 41 = .ok (.invokestatic 326, 3) := by decide +kernel
theorem dX1_putNumber_44 : decode cX1_putNumber 44 = .ok (.ldc2_w 359, 3) := by decide +kernel
theorem dX1_putNumber_47 : decode cX1_putNumber 47 = .ok (.lrem, 1) := by decide +kernel
theorem dX1_putNumber_48 : decode cX1_putNumber 48 = .ok (.ladd, 1) := by decide +kernel
theorem dX1_putNumber_49 : decode cX1_putNumber 49 = .ok (.l2i, 1) := by decide +kernel
theorem dX1_putNumber_50 : decode cX1_putNumber 50 = .ok (.i2c, 1) := by decide +kernel
theorem dX1_putNumber_51 : decode cX1_putNumber 51 = .ok (.invokevirtual 329, 3) := by decide +kernel
theorem dX1_putNumber_54 : decode cX1_putNumber 54 = .ok (.iinc 4 (-1), 3) := by decide +kernel
theorem dX1_putNumber_57 : decode cX1_putNumber 57 = .ok (.goto (-49), 3) := by decide +kernel
theorem dX1_putNumber_60 : decode cX1_putNumber 60 = .ok (.return_, 1) := by decide +kernel
theorem dX1_isWholeWithin_0 : decode cX1_isWholeWithin 0 = .ok (.lload_n 0, 1) := by decide +kernel
theorem dX1_isWholeWithin_1 : decode cX1_isWholeWithin 1 = .ok (.lload_n 2, 1) := by decide +kernel
theorem dX1_isWholeWithin_2 : decode cX1_isWholeWithin 2 = .ok (.lcmp, 1) := by decide +kernel
theorem dX1_isWholeWithin_3 : decode cX1_isWholeWithin 3 = .ok (.ifCond .lt 14, 3) := by decide +kernel
theorem dX1_isWholeWithin_6 : decode cX1_isWholeWithin 6 = .ok (.lload_n 0, 1) := by decide +kernel
theorem dX1_isWholeWithin_7 : decode cX1_isWholeWithin 7 = .ok (.lload 4, 2) := by decide +kernel
theorem dX1_isWholeWithin_9 : decode cX1_isWholeWithin 9 = .ok (.lcmp, 1) := by decide +kernel
theorem dX1_isWholeWithin_10 : decode cX1_isWholeWithin 10 = .ok (.ifCond .gt 7, 3) := by decide +kernel
theorem dX1_isWholeWithin_13 : decode cX1_isWholeWithin 13 = .ok (.iconst 1, 1) := by decide +kernel
theorem dX1_isWholeWithin_14 : decode cX1_isWholeWithin 14 = .ok (.goto 4, 3) := by decide +kernel
theorem dX1_isWholeWithin_17 : decode cX1_isWholeWithin 17 = .ok (.iconst 0, 1) := by decide +kernel
theorem dX1_isWholeWithin_18 : decode cX1_isWholeWithin 18 = .ok (.ireturn, 1) := by decide +kernel
theorem dX1_isWithin_0 : decode cX1_isWithin 0 = .ok (.dload_n 0, 1) := by decide +kernel
theorem dX1_isWithin_1 : decode cX1_isWithin 1 = .ok (.dload_n 2, 1) := by decide +kernel
theorem dX1_isWithin_2 : decode cX1_isWithin 2 = .ok (.dcmp .l, 1) := by decide +kernel
theorem dX1_isWithin_3 : decode cX1_isWithin 3 = .ok (.ifCond .lt 14, 3) := by decide +kernel
theorem dX1_isWithin_6 : decode cX1_isWithin 6 = .ok (.dload_n 0, 1) := by decide +kernel
theorem dX1_isWithin_7 : decode cX1_isWithin 7 = .ok (.dload 4, 2) := by decide +kernel
theorem dX1_isWithin_9 : decode cX1_isWithin 9 = .ok (.dcmp .g, 1) := by decide +kernel
theorem dX1_isWithin_10 : decode cX1_isWithin 10 = .ok (.ifCond .gt 7, 3) := by decide +kernel
theorem dX1_isWithin_13 : decode cX1_isWithin 13 = .ok (.iconst 1, 1) := by decide +kernel
theorem dX1_isWithin_14 : decode cX1_isWithin 14 = .ok (.goto 4, 3) := by decide +kernel
theorem dX1_isWithin_17 : decode cX1_isWithin 17 = .ok (.iconst 0, 1) := by decide +kernel
theorem dX1_isWithin_18 : decode cX1_isWithin 18 = .ok (.ireturn, 1) := by decide +kernel
set_option maxRecDepth 20000 in
theorem ggX1_isTime_X1_isWithin : GoodIn wsX1_isTime wsX1_isWithin := goodIn_r _ [6] (by decide +kernel) (by decide +kernel)
set_option maxRecDepth 20000 in
theorem gX1_isTime_X1_isWithin : GoodIn wsX1_isTime (va_wsS RX1 145 yX1_isWithin wsX1_isWithin) := goodIn_app (goodIn_of _ (by decide +kernel)) ggX1_isTime_X1_isWithin
theorem dX1_isTime_0 : decode cX1_isTime 0 = .ok (.dload_n 0, 1) := by decide +kernel
theorem dX1_isTime_1 : decode cX1_isTime 1 = .ok (.ldc2_w 361, 3) := by decide +kernel
theorem dX1_isTime_4 : decode cX1_isTime 4 = .ok (.ldc2_w 363, 3) := by decide +kernel
theorem dX1_isTime_7 : decode cX1_isTime 7 = .ok (.invokestatic 145, 3) := by decide +kernel
theorem dX1_isTime_10 : decode cX1_isTime 10 = .ok (.ireturn, 1) := by decide +kernel
theorem dX1_degreesInRadian_0 : decode cX1_degreesInRadian 0 = .ok (.ldc2_w 365, 3) := by decide +kernel
theorem dX1_degreesInRadian_3 : decode cX1_degreesInRadian 3 = .ok (.dreturn, 1) := by decide +kernel
theorem dX1_red_0 : decode cX1_red 0 = .ok (.dload_n 0, 1) := by decide +kernel
theorem dX1_red_1 : decode cX1_red 1 = .ok (.ldc2_w 345, 3) := by decide +kernel
theorem dX1_red_4 : decode cX1_red 4 = .ok (.dload_n 0, 1) := by decide +kernel
theorem dX1_red_5 : decode cX1_red 5 = .ok (.ldc2_w 143, 3) := by decide +kernel
theorem dX1_red_8 : decode cX1_red 8 = .ok (.ddiv, 1) := by decide +kernel
theorem dX1_red_9 : decode cX1_red 9 = .ok (.d2l, 1) := by decide +kernel
theorem dX1_red_10 : decode cX1_red 10 = .ok (.lmul, 1) := by decide +kernel
theorem dX1_red_11 : decode cX1_red 11 = .ok (.l2d, 1) := by decide +kernel
theorem dX1_red_12 : decode cX1_red 12 = .ok (.dsub, 1) := by decide +kernel
theorem dX1_red_13 : decode cX1_red 13 = .ok (.dstore_n 2, 1) := by decide +kernel
theorem dX1_red_14 : decode cX1_red 14 = .ok (.dload_n 2, 1) := by decide +kernel
theorem dX1_red_15 : decode cX1_red 15 = .ok (.dconst 0, 1) := by decide +kernel
theorem dX1_red_16 : decode cX1_red 16 = .ok (.dcmp .g, 1) := by decide +kernel
theorem dX1_red_17 : decode cX1_red 17 = .ok (.ifCond .ge 9, 3) := by decide +kernel
theorem dX1_red_20 : decode cX1_red 20 = .ok (.dload_n 2, 1) := by decide +kernel
theorem dX1_red_21 : decode cX1_red 21 = .ok (.ldc2_w 143, 3) := by decide +kernel
theorem dX1_red_24 : decode cX1_red 24 = .ok (.dadd, 1) := by decide +kernel
theorem dX1_red_25 : decode cX1_red 25 = .ok (.dstore_n 2, 1) := by decide +kernel
theorem dX1_red_26 : decode cX1_red 26 = .ok (.dload_n 2, 1) := by decide +kernel
theorem dX1_red_27 : decode cX1_red 27 = .ok (.ldc2_w 143, 3) := by decide +kernel
theorem dX1_red_30 : decode cX1_red 30 = .ok (.dcmp .l, 1) := by decide +kernel
theorem dX1_red_31 : decode cX1_red 31 = .ok (.ifCond .ne 7, 3) := by decide +kernel
theorem dX1_red_34 : decode cX1_red 34 = .ok (.dconst 0, 1) := by decide +kernel
theorem dX1_red_35 : decode cX1_red 35 = .ok (.goto 4, 3) := by decide +kernel
theorem dX1_red_38 : decode cX1_red 38 = .ok (.dload_n 2, 1) := by decide +kernel
theorem dX1_red_39 : decode cX1_red 39 = .ok (.dreturn, 1) := by decide +kernel
set_option maxRecDepth 20000 in
theorem ggX1_sine_X1_red : GoodIn wsX1_sine wsX1_red := goodIn_r _ [4, 5, 6] (by decide +kernel) (by decide +kernel)
set_option maxRecDepth 20000 in
theorem gX1_sine_X1_red : GoodIn wsX1_sine (va_wsS RX1 236 yX1_red wsX1_red) := goodIn_app (goodIn_of _ (by decide +kernel)) ggX1_sine_X1_red
set_option maxRecDepth 20000 in
theorem ggX1_sine_X1_waveAt : GoodIn wsX1_sine wsX1_waveAt := goodIn_r _ [9, 10, 11, 12, 13, 14, 15, 16, 17, 18, 19, 20, 21] (by decide +kernel) (by decide +kernel)
set_option maxRecDepth 20000 in
theorem gX1_sine_X1_waveAt : GoodIn wsX1_sine (va_wsS RX1 367 yX1_waveAt wsX1_waveAt) := goodIn_app (goodIn_of _ (by decide +kernel)) ggX1_sine_X1_waveAt
theorem dX1_sine_0 : decode cX1_sine 0 = .ok (.dload_n 0, 1) := by decide +kernel
theorem dX1_sine_1 : decode cX1_sine 1 = .ok (.invokestatic 236, 3) := by decide +kernel
theorem dX1_sine_4 : decode cX1_sine 4 = .ok (.iconst 0, 1) := by decide +kernel
theorem dX1_sine_5 : decode cX1_sine 5 = .ok (.invokestatic 367, 3) := by decide +kernel
theorem dX1_sine_8 : decode cX1_sine 8 = .ok (.dreturn, 1) := by decide +kernel
set_option maxRecDepth 20000 in
theorem ggX1_cosine_X1_red : GoodIn wsX1_cosine wsX1_red := goodIn_r _ [4, 5, 6] (by decide +kernel) (by decide +kernel)
set_option maxRecDepth 20000 in
theorem gX1_cosine_X1_red : GoodIn wsX1_cosine (va_wsS RX1 236 yX1_red wsX1_red) := goodIn_app (goodIn_of _ (by decide +kernel)) ggX1_cosine_X1_red
set_option maxRecDepth 20000 in
theorem ggX1_cosine_X1_waveAt : GoodIn wsX1_cosine wsX1_waveAt := goodIn_r _ [9, 10, 11, 12, 13, 14, 15, 16, 17, 18, 19, 20, 21] (by decide +kernel) (by decide +kernel)
set_option maxRecDepth 20000 in
theorem gX1_cosine_X1_waveAt : GoodIn wsX1_cosine (va_wsS RX1 367 yX1_waveAt wsX1_waveAt) := goodIn_app (goodIn_of _ (by decide +kernel)) ggX1_cosine_X1_waveAt
theorem dX1_cosine_0 : decode cX1_cosine 0 = .ok (.dload_n 0, 1) := by decide +kernel
theorem dX1_cosine_1 : decode cX1_cosine 1 = .ok (.invokestatic 236, 3) := by decide +kernel
theorem dX1_cosine_4 : decode cX1_cosine 4 = .ok (.iconst 1, 1) := by decide +kernel
theorem dX1_cosine_5 : decode cX1_cosine 5 = .ok (.invokestatic 367, 3) := by decide +kernel
theorem dX1_cosine_8 : decode cX1_cosine 8 = .ok (.dreturn, 1) := by decide +kernel
theorem dX1_waveAt_0 : decode cX1_waveAt 0 = .ok (.dload_n 0, 1) := by decide +kernel
theorem dX1_waveAt_1 : decode cX1_waveAt 1 = .ok (.ldc2_w 206, 3) := by decide +kernel
theorem dX1_waveAt_4 : decode cX1_waveAt 4 = .ok (.ddiv, 1) := by decide +kernel
theorem dX1_waveAt_5 : decode cX1_waveAt 5 = .ok (.ldc2_w 249, 3) := by decide +kernel
theorem dX1_waveAt_8 : decode cX1_waveAt 8 = .ok (.dadd, 1) := by decide +kernel
theorem dX1_waveAt_9 : decode cX1_waveAt 9 = .ok (.d2i, 1) := by decide +kernel
theorem dX1_waveAt_10 : decode cX1_waveAt 10 = .ok (.istore_n 3, 1) := by decide +kernel
theorem dX1_waveAt_11 : decode cX1_waveAt 11 = .ok (.dload_n 0, 1) := by decide +kernel
theorem dX1_waveAt_12 : decode cX1_waveAt 12 = .ok (.bipush 90, 2) := by decide +kernel
theorem dX1_waveAt_14 : decode cX1_waveAt 14 = .ok (.iload_n 3, 1) := by decide +kernel
theorem dX1_waveAt_15 : decode cX1_waveAt 15 = .ok (.imul, 1) := by decide +kernel
theorem dX1_waveAt_16 : decode cX1_waveAt 16 = .ok (.i2d, 1) := by decide +kernel
theorem dX1_waveAt_17 : decode cX1_waveAt 17 = .ok (.dsub, 1) := by decide +kernel
theorem dX1_waveAt_18 : decode cX1_waveAt 18 = .ok (.ldc2_w 371, 3) := by decide +kernel
theorem dX1_waveAt_21 : decode cX1_waveAt 21 = .ok (.dmul, 1) := by decide +kernel
theorem dX1_waveAt_22 : decode cX1_waveAt 22 = .ok (.dstore 4, 2) := by decide +kernel
theorem dX1_waveAt_24 : decode cX1_waveAt 24 = .ok (.dload 4, 2) := by decide +kernel
theorem dX1_waveAt_26 : decode cX1_waveAt 26 = .ok (.dload 4, 2) := by decide +kernel
theorem dX1_waveAt_28 : decode cX1_waveAt 28 = .ok (.dmul, 1) := by decide +kernel
theorem dX1_waveAt_29 : decode cX1_waveAt 29 = .ok (.dstore 6, 2) := by decide +kernel
theorem dX1_waveAt_31 : decode cX1_waveAt 31 = .ok (.dload 4, 2) := by decide +kernel
theorem dX1_waveAt_33 : decode cX1_waveAt 33 = .ok (.dconst 1, 1) := by decide +kernel
theorem dX1_waveAt_34 : decode cX1_waveAt 34 = .ok (.dload 6, 2) := by decide +kernel
theorem dX1_waveAt_36 : decode cX1_waveAt 36 = .ok (.ldc2_w 373, 3) := by decide +kernel
theorem dX1_waveAt_39 : decode cX1_waveAt 39 = .ok (.dload 6, 2) := by decide +kernel
theorem dX1_waveAt_41 : decode cX1_waveAt 41 = .ok (.ldc2_w 375, 3) := by decide +kernel
theorem dX1_waveAt_44 : decode cX1_waveAt 44 = .ok (.dload 6, 2) := by decide +kernel
theorem dX1_waveAt_46 : decode cX1_waveAt 46 = .ok (.ldc2_w 377, 3) := by decide +kernel
theorem dX1_waveAt_49 : decode cX1_waveAt 49 = .ok (.dload 6, 2) := by decide +kernel
theorem dX1_waveAt_51 : decode cX1_waveAt 51 = .ok (.ldc2_w 379, 3) := by decide +kernel
theorem dX1_waveAt_54 : decode cX1_waveAt 54 = .ok (.dmul, 1) := by decide +kernel
theorem dX1_waveAt_55 : decode cX1_waveAt 55 = .ok (.dadd, 1) := by decide +kernel
theorem dX1_waveAt_56 : decode cX1_waveAt 56 = .ok (.dmul, 1) := by decide +kernel
theorem dX1_waveAt_57 : decode cX1_waveAt 57 = .ok (.dadd, 1) := by decide +kernel
theorem dX1_waveAt_58 : decode cX1_waveAt 58 = .ok (.dmul, 1) := by decide +kernel
theorem dX1_waveAt_59 : decode cX1_waveAt 59 = .ok (.dadd, 1) := by decide +kernel
theorem dX1_waveAt_60 : decode cX1_waveAt 60 = .ok (.dmul, 1) := by decide +kernel
theorem dX1_waveAt_61 : decode cX1_waveAt 61 = .ok (.dadd, 1) := by decide +kernel
theorem dX1_waveAt_62 : decode cX1_waveAt 62 = .ok (.dmul, 1) := by decide +kernel
theorem dX1_waveAt_63 : decode cX1_waveAt 63 = .ok (.dstore 8, 2) := by decide +kernel
theorem dX1_waveAt_65 : decode cX1_waveAt 65 = .ok (.dconst 1, 1) := by decide +kernel
theorem dX1_waveAt_66 : decode cX1_waveAt 66 = .ok (.dload 6, 2) := by decide +kernel
theorem dX1_waveAt_68 : decode cX1_waveAt 68 = .ok (.ldc2_w 381, 3) := by decide +kernel
theorem dX1_waveAt_71 : decode cX1_waveAt 71 = .ok (.dload 6, 2) := by decide +kernel
theorem dX1_waveAt_73 : decode cX1_waveAt 73 = .ok (.ldc2_w 383, 3) := by decide +kernel
theorem dX1_waveAt_76 : decode cX1_waveAt 76 = .ok (.dload 6, 2) := by decide +kernel
theorem dX1_waveAt_78 : decode cX1_waveAt 78 = .ok (.ldc2_w 385, 3) := by decide +kernel
theorem dX1_waveAt_81 : decode cX1_waveAt 81 = .ok (.dload 6, 2) := by decide +kernel
theorem dX1_waveAt_83 : decode cX1_waveAt 83 = .ok (.ldc2_w 387, 3) := by decide +kernel
theorem dX1_waveAt_86 : decode cX1_waveAt 86 = .ok (.dload 6, 2) := by decide +kernel
theorem dX1_waveAt_88 : decode cX1_waveAt 88 = .ok (.ldc2_w 389, 3) := by decide +kernel
theorem dX1_waveAt_91 : decode cX1_waveAt 91 = .ok (.dmul, 1) := by decide +kernel
theorem dX1_waveAt_92 : decode cX1_waveAt 92 = .ok (.dadd, 1) := by decide +kernel
theorem dX1_waveAt_93 : decode cX1_waveAt 93 = .ok (.dmul, 1) := by decide +kernel
theorem dX1_waveAt_94 : decode cX1_waveAt 94 = .ok (.dadd, 1) := by decide +kernel
theorem dX1_waveAt_95 : decode cX1_waveAt 95 = .ok (.dmul, 1) := by decide +kernel
theorem dX1_waveAt_96 : decode cX1_waveAt 96 = .ok (.dadd, 1) := by decide +kernel
theorem dX1_waveAt_97 : decode cX1_waveAt 97 = .ok (.dmul, 1) := by decide +kernel
theorem dX1_waveAt_98 : decode cX1_waveAt 98 = .ok (.dadd, 1) := by decide +kernel
theorem dX1_waveAt_99 : decode cX1_waveAt 99 = .ok (.dmul, 1) := by decide +kernel
theorem dX1_waveAt_100 : decode cX1_waveAt 100 = .ok (.dadd, 1) := by decide +kernel
theorem dX1_waveAt_101 : decode cX1_waveAt 101 = .ok (.dstore 10, 2) := by decide +kernel
theorem dX1_waveAt_103 : decode cX1_waveAt 103 = .ok (.iload_n 3, 1) := by decide +kernel
theorem dX1_waveAt_104 : decode cX1_waveAt 104 = .ok (.iload_n 2, 1) := by decide +kernel
theorem dX1_waveAt_105 : decode cX1_waveAt 105 = .ok (.iadd, 1) := by decide +kernel
theorem dX1_waveAt_106 : decode cX1_waveAt 106 = .ok (.iconst 4, 1) := by decide +kernel
theorem dX1_waveAt_107 : decode cX1_waveAt 107 = .ok (.irem, 1) := by decide +kernel
theorem dX1_waveAt_108 : decode cX1_waveAt 108 = .ok (.istore 12, 2) := by decide +kernel
theorem dX1_waveAt_110 : decode cX1_waveAt 110 = .ok (.iload 12, 2) := by decide +kernel
theorem dX1_waveAt_112 : decode cX1_waveAt 112 = .ok (.iconst 2, 1) := by decide +kernel
theorem dX1_waveAt_113 : decode cX1_waveAt 113 = .ok (.irem, 1) := by decide +kernel
theorem dX1_waveAt_114 : decode cX1_waveAt 114 = .ok (.ifCond .ne 8, 3) := by decide +kernel
theorem dX1_waveAt_117 : decode cX1_waveAt 117 = .ok (.dload 8, 2) := by decide +kernel
theorem dX1_waveAt_119 : decode cX1_waveAt 119 = .ok (.goto 5, 3) := by decide +kernel
theorem dX1_waveAt_122 : decode cX1_waveAt 122 = .ok (.dload 10, 2) := by decide +kernel
theorem dX1_waveAt_124 : decode cX1_waveAt 124 = .ok (.dstore 13, 2) := by decide +kernel
theorem dX1_waveAt_126 : decode cX1_waveAt 126 = .ok (.iload 12, 2) := by decide +kernel
theorem dX1_waveAt_128 : decode cX1_waveAt 128 = .ok (.iconst 2, 1) := by decide +kernel
theorem dX1_waveAt_129 : decode cX1_waveAt 129 = .ok (.if_icmp .ge 8, 3) := by decide +kernel
theorem dX1_waveAt_132 : decode cX1_waveAt 132 = .ok (.dload 13, 2) := by decide +kernel
theorem dX1_waveAt_134 : decode cX1_waveAt 134 = .ok (.goto 6, 3) := by decide +kernel
theorem dX1_waveAt_137 : decode cX1_waveAt 137 = .ok (.dload 13, 2) := by decide +kernel
theorem dX1_waveAt_139 : decode cX1_waveAt 139 = .ok (.dneg, 1) := by decide +kernel
theorem dX1_waveAt_140 : decode cX1_waveAt 140 = .ok (.dreturn, 1) := by decide +kernel
theorem dJ9_floorDiv_7cf53_0 : decode cJ9_floorDiv_7cf53 0 = .ok (.iload_n 0, 1) := by decide +kernel
theorem dJ9_floorDiv_7cf53_1 : decode cJ9_floorDiv_7cf53 1 = .ok (.iload_n 1, 1) := by decide +kernel
theorem dJ9_floorDiv_7cf53_2 : decode cJ9_floorDiv_7cf53 2 = .ok (.idiv, 1) := by decide +kernel
theorem dJ9_floorDiv_7cf53_3 : decode cJ9_floorDiv_7cf53 3 = .ok (.istore_n 2, 1) := by decide +kernel
theorem dJ9_floorDiv_7cf53_4 : decode cJ9_floorDiv_7cf53 4 = .ok (.iload_n 0, 1) := by decide +kernel
theorem dJ9_floorDiv_7cf53_5 : decode cJ9_floorDiv_7cf53 5 = .ok (.iload_n 1, 1) := by decide +kernel
theorem dJ9_floorDiv_7cf53_6 : decode cJ9_floorDiv_7cf53 6 = .ok (.ixor, 1) := by decide +kernel
theorem dJ9_floorDiv_7cf53_7 : decode cJ9_floorDiv_7cf53 7 = .ok (.ifCond .ge 14, 3) := by decide +kernel
theorem dJ9_floorDiv_7cf53_10 : decode cJ9_floorDiv_7cf53 10 = .ok (.iload_n 2, 1) := by decide +kernel
theorem dJ9_floorDiv_7cf53_11 : decode cJ9_floorDiv_7cf53 11 = .ok (.iload_n 1, 1) := by decide +kernel
theorem dJ9_floorDiv_7cf53_12 : decode cJ9_floorDiv_7cf53 12 = .ok (.imul, 1) := by decide +kernel
theorem dJ9_floorDiv_7cf53_13 : decode cJ9_floorDiv_7cf53 13 = .ok (.iload_n 0, 1) := by decide +kernel
theorem dJ9_floorDiv_7cf53_14 : decode cJ9_floorDiv_7cf53 14 = .ok (.if_icmp .eq 7, 3) := by decide +kernel
theorem dJ9_floorDiv_7cf53_17 : decode cJ9_floorDiv_7cf53 17 = .ok (.iload_n 2, 1) := by decide +kernel
theorem dJ9_floorDiv_7cf53_18 : decode cJ9_floorDiv_7cf53 18 = .ok (.iconst 1, 1) := by decide +kernel
theorem dJ9_floorDiv_7cf53_19 : decode cJ9_floorDiv_7cf53 19 = .ok (.isub, 1) := by decide +kernel
theorem dJ9_floorDiv_7cf53_20 : decode cJ9_floorDiv_7cf53 20 = .ok (.ireturn, 1) := by decide +kernel
theorem dJ9_floorDiv_7cf53_21 : decode cJ9_floorDiv_7cf53 21 = .ok (.iload_n 2, 1) := by decide +kernel
theorem dJ9_floorDiv_7cf53_22 : decode cJ9_floorDiv_7cf53 22 = .ok (.ireturn, 1) := by decide +kernel
theorem dJ9_floorDiv_f86c9_0 : decode cJ9_floorDiv_f86c9 0 = .ok (.lload_n 0, 1) := by decide +kernel
theorem dJ9_floorDiv_f86c9_1 : decode cJ9_floorDiv_f86c9 1 = .ok (.lload_n 2, 1) := by decide +kernel
theorem dJ9_floorDiv_f86c9_2 : decode cJ9_floorDiv_f86c9 2 = .ok (.ldiv, 1) := by decide +kernel
theorem dJ9_floorDiv_f86c9_3 : decode cJ9_floorDiv_f86c9 3 = .ok (.lstore 4, 2) := by decide +kernel
theorem dJ9_floorDiv_f86c9_5 : decode cJ9_floorDiv_f86c9 5 = .ok (.lload_n 0, 1) := by decide +kernel
theorem dJ9_floorDiv_f86c9_6 : decode cJ9_floorDiv_f86c9 6 = .ok (.lload_n 2, 1) := by decide +kernel
theorem dJ9_floorDiv_f86c9_7 : decode cJ9_floorDiv_f86c9 7 = .ok (.lxor, 1) := by decide +kernel
theorem dJ9_floorDiv_f86c9_8 : decode cJ9_floorDiv_f86c9 8 = .ok (.lconst 0, 1) := by decide +kernel
theorem dJ9_floorDiv_f86c9_9 : decode cJ9_floorDiv_f86c9 9 = .ok (.lcmp, 1) := by decide +kernel
theorem dJ9_floorDiv_f86c9_10 : decode cJ9_floorDiv_f86c9 10 = .ok (.ifCond .ge 17, 3) := by decide +kernel
theorem dJ9_floorDiv_f86c9_13 : decode cJ9_floorDiv_f86c9 13 = .ok (.lload 4, 2) := by decide +kernel
theorem dJ9_floorDiv_f86c9_15 : decode cJ9_floorDiv_f86c9 15 = .ok (.lload_n 2, 1) := by decide +kernel
theorem dJ9_floorDiv_f86c9_16 : decode cJ9_floorDiv_f86c9 16 = .ok (.lmul, 1) := by decide +kernel
theorem dJ9_floorDiv_f86c9_17 : decode cJ9_floorDiv_f86c9 17 = .ok (.lload_n 0, 1) := by decide +kernel
theorem dJ9_floorDiv_f86c9_18 : decode cJ9_floorDiv_f86c9 18 = .ok (.lcmp, 1) := by decide +kernel
theorem dJ9_floorDiv_f86c9_19 : decode cJ9_floorDiv_f86c9 19 = .ok (.ifCond .eq 8, 3) := by decide +kernel
theorem dJ9_floorDiv_f86c9_22 : decode cJ9_floorDiv_f86c9 22 = .ok (.lload 4, 2) := by decide +kernel
theorem dJ9_floorDiv_f86c9_24 : decode cJ9_floorDiv_f86c9 24 = .ok (.lconst 1, 1) := by decide +kernel
theorem dJ9_floorDiv_f86c9_25 : decode cJ9_floorDiv_f86c9 25 = .ok (.lsub, 1) := by decide +kernel
theorem dJ9_floorDiv_f86c9_26 : decode cJ9_floorDiv_f86c9 26 = .ok (.lreturn, 1) := by decide +kernel
theorem dJ9_floorDiv_f86c9_27 : decode cJ9_floorDiv_f86c9 27 = .ok (.lload 4, 2) := by decide +kernel
theorem dJ9_floorDiv_f86c9_29 : decode cJ9_floorDiv_f86c9 29 = .ok (.lreturn, 1) := by decide +kernel
theorem dJ9_floorMod_7cf53_0 : decode cJ9_floorMod_7cf53 0 = .ok (.iload_n 0, 1) := by decide +kernel
theorem dJ9_floorMod_7cf53_1 : decode cJ9_floorMod_7cf53 1 = .ok (.iload_n 1, 1) := by decide +kernel
theorem dJ9_floorMod_7cf53_2 : decode cJ9_floorMod_7cf53 2 = .ok (.irem, 1) := by decide +kernel
theorem dJ9_floorMod_7cf53_3 : decode cJ9_floorMod_7cf53 3 = .ok (.istore_n 2, 1) := by decide +kernel
theorem dJ9_floorMod_7cf53_4 : decode cJ9_floorMod_7cf53 4 = .ok (.iload_n 0, 1) := by decide +kernel
theorem dJ9_floorMod_7cf53_5 : decode cJ9_floorMod_7cf53 5 = .ok (.iload_n 1, 1) := by decide +kernel
theorem dJ9_floorMod_7cf53_6 : decode cJ9_floorMod_7cf53 6 = .ok (.ixor, 1) := by decide +kernel
theorem dJ9_floorMod_7cf53_7 : decode cJ9_floorMod_7cf53 7 = .ok (.ifCond .ge 11, 3) := by decide +kernel
theorem dJ9_floorMod_7cf53_10 : decode cJ9_floorMod_7cf53 10 = .ok (.iload_n 2, 1) := by decide +kernel
theorem dJ9_floorMod_7cf53_11 : decode cJ9_floorMod_7cf53 11 = .ok (.ifCond .eq 7, 3) := by decide +kernel
theorem dJ9_floorMod_7cf53_14 : decode cJ9_floorMod_7cf53 14 = .ok (.iload_n 2, 1) := by decide +kernel
theorem dJ9_floorMod_7cf53_15 : decode cJ9_floorMod_7cf53 15 = .ok (.iload_n 1, 1) := by decide +kernel
theorem dJ9_floorMod_7cf53_16 : decode cJ9_floorMod_7cf53 16 = .ok (.iadd, 1) := by decide +kernel
theorem dJ9_floorMod_7cf53_17 : decode cJ9_floorMod_7cf53 17 = .ok (.ireturn, 1) := by decide +kernel
theorem dJ9_floorMod_7cf53_18 : decode cJ9_floorMod_7cf53 18 = .ok (.iload_n 2, 1) := by decide +kernel
theorem dJ9_floorMod_7cf53_19 : decode cJ9_floorMod_7cf53 19 = .ok (.ireturn, 1) := by decide +kernel
end
section
theorem dX2_init_0 : decode cX2_init 0 = .ok (.aload_n 0, 1) := by decide +kernel
theorem dX2_init_1 : decode cX2_init 1 = .ok (.invokespecial 1, 3) := by decide +kernel
theorem dX2_init_4 : decode cX2_init 4 = .ok (.aload_n 0, 1) := by decide +kernel
theorem dX2_init_5 : decode cX2_init 5 = .ok (.iconst 4, 1) := by decide +kernel
theorem dX2_init_6 : decode cX2_init 6 = .ok (.newarray .boolean, 2) := by decide +kernel
theorem dX2_init_8 : decode cX2_init 8 = .ok (.putfield 7, 3) := by decide +kernel
theorem dX2_init_11 : decode cX2_init 11 = .ok (.aload_n 0, 1) := by decide +kernel
theorem dX2_init_12 : decode cX2_init 12 = .ok (.bipush 16, 2) := by decide +kernel
theorem dX2_init_14 : decode cX2_init 14 = .ok (.newarray .double, 2) := by decide +kernel
theorem dX2_init_16 : decode cX2_init 16 = .ok (.putfield 13, 3) := by decide +kernel
theorem dX2_init_19 : decode cX2_init 19 = .ok (.aload_n 0, 1) := by decide +kernel
theorem dX2_init_20 : decode cX2_init 20 = .ok (.iconst 4, 1) := by decide +kernel
theorem dX2_init_21 : decode cX2_init 21 = .ok (.newarray .int, 2) := by decide +kernel
theorem dX2_init_23 : decode cX2_init 23 = .ok (.putfield 17, 3) := by decide +kernel
theorem dX2_init_26 : decode cX2_init 26 = .ok (.aload_n 0, 1) := by decide +kernel
theorem dX2_init_27 : decode cX2_init 27 = .ok (.bipush 48, 2) := by decide +kernel
theorem dX2_init_29 : decode cX2_init 29 = .ok (.newarray .int, 2) := by decide +kernel
theorem dX2_init_31 : decode cX2_init 31 = .ok (.putfield 21, 3) := by decide +kernel
theorem dX2_init_34 : decode cX2_init 34 = .ok (.aload_n 0, 1) := by decide +kernel
theorem dX2_init_35 : decode cX2_init 35 = .ok (.sipush 144, 3) := by decide +kernel
theorem dX2_init_38 : decode cX2_init 38 = .ok (.newarray .double, 2) := by decide +kernel
theorem dX2_init_40 : decode cX2_init 40 = .ok (.putfield 24, 3) := by decide +kernel
theorem dX2_init_43 : decode cX2_init 43 = .ok (.aload_n 0, 1) := by decide +kernel
theorem dX2_init_44 : decode cX2_init 44 = .ok (.bipush 40, 2) := by decide +kernel
theorem dX2_init_46 : decode cX2_init 46 = .ok (.newarray .int, 2) := by decide +kernel
theorem dX2_init_48 : decode cX2_init 48 = .ok (.putfield 27, 3) := by decide +kernel
theorem dX2_init_51 : decode cX2_init 51 = .ok (.return_, 1) := by decide +kernel
theorem dX2_thrown_0 : decode cX2_thrown 0 = .ok (.aload_n 0, 1) := by decide +kernel
theorem dX2_thrown_1 : decode cX2_thrown 1 = .ok (.getfield 30, 3) := by decide +kernel
theorem dX2_thrown_4 : decode cX2_thrown 4 = .ok (.ireturn, 1) := by decide +kernel
theorem dX2_fail_0 : decode cX2_fail 0 = .ok (.aload_n 0, 1) := by decide +kernel
theorem dX2_fail_1 : decode cX2_fail 1 = .ok (.iload_n 1, 1) := by decide +kernel
theorem dX2_fail_2 : decode cX2_fail 2 = .ok (.putfield 30, 3) := by decide +kernel
theorem dX2_fail_5 : decode cX2_fail 5 = .ok (.iconst 0, 1) := by decide +kernel
theorem dX2_fail_6 : decode cX2_fail 6 = .ok (.ireturn, 1) := by decide +kernel
theorem dX2_within_0 : decode cX2_within 0 = .ok (.dload_n 0, 1) := by decide +kernel
theorem dX2_within_1 : decode cX2_within 1 = .ok (.dload_n 2, 1) := by decide +kernel
theorem dX2_within_2 : decode cX2_within 2 = .ok (.dcmp .l, 1) := by decide +kernel
theorem dX2_within_3 : decode cX2_within 3 = .ok (.ifCond .lt 14, 3) := by decide +kernel
theorem dX2_within_6 : decode cX2_within 6 = .ok (.dload_n 0, 1) := by decide +kernel
theorem dX2_within_7 : decode cX2_within 7 = .ok (.dload 4, 2) := by decide +kernel
theorem dX2_within_9 : decode cX2_within 9 = .ok (.dcmp .g, 1) := by decide +kernel
theorem dX2_within_10 : decode cX2_within 10 = .ok (.ifCond .gt 7, 3) := by decide +kernel
theorem dX2_within_13 : decode cX2_within 13 = .ok (.iconst 1, 1) := by decide +kernel
theorem dX2_within_14 : decode cX2_within 14 = .ok (.goto 4, 3) := by decide +kernel
theorem dX2_within_17 : decode cX2_within 17 = .ok (.iconst 0, 1) := by decide +kernel
theorem dX2_within_18 : decode cX2_within 18 = .ok (.ireturn, 1) := by decide +kernel
theorem dX2_floor_0 : decode cX2_floor 0 = .ok (.lload_n 0, 1) := by decide +kernel
theorem dX2_floor_1 : decode cX2_floor 1 = .ok (.lconst 0, 1) := by decide +kernel
theorem dX2_floor_2 : decode cX2_floor 2 = .ok (.lcmp, 1) := by decide +kernel
theorem dX2_floor_3 : decode cX2_floor 3 = .ok (.ifCond .lt 9, 3) := by decide +kernel
theorem dX2_floor_6 : decode cX2_floor 6 = .ok (.lload_n 0, 1) := by decide +kernel
theorem dX2_floor_7 : decode cX2_floor 7 = .ok (.lload_n 2, 1) := by decide +kernel
theorem dX2_floor_8 : decode cX2_floor 8 = .ok (.ldiv, 1) := by decide +kernel
theorem dX2_floor_9 : decode cX2_floor 9 = .ok (.goto 11, 3) := by decide +kernel
theorem dX2_floor_12 : decode cX2_floor 12 = .ok (.lload_n 2, 1) := by decide +kernel
theorem dX2_floor_13 : decode cX2_floor 13 = .ok (.lconst 1, 1) := by decide +kernel
theorem dX2_floor_14 : decode cX2_floor 14 = .ok (.lsub, 1) := by decide +kernel
theorem dX2_floor_15 : decode cX2_floor 15 = .ok (.lload_n 0, 1) := by decide +kernel
theorem dX2_floor_16 : decode cX2_floor 16 = .ok (.lsub, 1) := by decide +kernel
theorem dX2_floor_17 : decode cX2_floor 17 = .ok (.lload_n 2, 1) := by decide +kernel
theorem dX2_floor_18 : decode cX2_floor 18 = .ok (.ldiv, 1) := by decide +kernel
theorem dX2_floor_19 : decode cX2_floor 19 = .ok (.lneg, 1) := by decide +kernel
theorem dX2_floor_20 : decode cX2_floor 20 = .ok (.lreturn, 1) := by decide +kernel
set_option maxRecDepth 20000 in
theorem ggX2_before_X2_floor : GoodIn wsX2_before wsX2_floor := goodIn_r _ [11] (by decide +kernel) (by decide +kernel)
set_option maxRecDepth 20000 in
theorem gX2_before_X2_floor : GoodIn wsX2_before (va_wsS RX2 38 yX2_floor wsX2_floor) := goodIn_app (goodIn_of _ (by decide +kernel)) ggX2_before_X2_floor
theorem dX2_before_0 : decode cX2_before 0 = .ok (.lload_n 1, 1) := by decide +kernel
theorem dX2_before_1 : decode cX2_before 1 = .ok (.ldc2_w 34, 3) := by decide +kernel
theorem dX2_before_4 : decode cX2_before 4 = .ok (.ladd, 1) := by decide +kernel
theorem dX2_before_5 : decode cX2_before 5 = .ok (.ldc2_w 36, 3) := by decide +kernel
theorem dX2_before_8 : decode cX2_before 8 = .ok (.invokestatic 38, 3) := by decide +kernel
theorem dX2_before_11 : decode cX2_before 11 = .ok (.lstore_n 3, 1) := by decide +kernel
theorem dX2_before_12 : decode cX2_before 12 = .ok (.ldc2_w 42, 3) := by decide +kernel
theorem dX2_before_15 : decode cX2_before 15 = .ok (.lload_n 1, 1) := by decide +kernel
theorem dX2_before_16 : decode cX2_before 16 = .ok (.lmul, 1) := by decide +kernel
theorem dX2_before_17 : decode cX2_before 17 = .ok (.iload_n 0, 1) := by decide +kernel
theorem dX2_before_18 : decode cX2_before 18 = .ok (.ifCond .ne 7, 3) := by decide +kernel
theorem dX2_before_21 : decode cX2_before 21 = .ok (.lload_n 3, 1) := by decide +kernel
theorem dX2_before_22 : decode cX2_before 22 = .ok (.goto 28, 3) := by decide +kernel
theorem dX2_before_25 : decode cX2_before 25 = .ok (.lload_n 3, 1) := by decide +kernel
theorem dX2_before_26 : decode cX2_before 26 = .ok (.lload_n 1, 1) := by decide +kernel
theorem dX2_before_27 : decode cX2_before 27 = .ok (.ldc2_w 44, 3) := by decide +kernel
theorem dX2_before_30 : decode cX2_before 30 = .ok (.ladd, 1) := by decide +kernel
theorem dX2_before_31 : decode cX2_before 31 = .ok (.ldc2_w 46, 3) := by decide +kernel
theorem dX2_before_34 : decode cX2_before 34 = .ok (.invokestatic 38, 3) := by decide +kernel
theorem dX2_before_37 : decode cX2_before 37 = .ok (.lsub, 1) := by decide +kernel
theorem dX2_before_38 : decode cX2_before 38 = .ok (.lload_n 1, 1) := by decide +kernel
theorem dX2_before_39 : decode cX2_before 39 = .ok (.ldc2_w 48, 3) := by decide +kernel
theorem dX2_before_42 : decode cX2_before 42 = .ok (.ladd, 1) := by decide +kernel
theorem dX2_before_43 : decode cX2_before 43 = .ok (.ldc2_w 50, 3) := by decide +kernel
theorem dX2_before_46 : decode cX2_before 46 = .ok (.invokestatic 38, 3) := by decide +kernel
theorem dX2_before_49 : decode cX2_before 49 = .ok (.ladd, 1) := by decide +kernel
theorem dX2_before_50 : decode cX2_before 50 = .ok (.ladd, 1) := by decide +kernel
theorem dX2_before_51 : decode cX2_before 51 = .ok (.lreturn, 1) := by decide +kernel
set_option maxRecDepth 20000 in
theorem ggX2_leap_X2_before : GoodIn wsX2_leap wsX2_before := goodIn_r _ [5, 6, 7, 8, 9, 10, 11, 12, 13, 14, 4, 15] (by decide +kernel) (by decide +kernel)
set_option maxRecDepth 20000 in
theorem gX2_leap_X2_before : GoodIn wsX2_leap (va_wsS RX2 52 yX2_before wsX2_before) := goodIn_app (goodIn_of _ (by decide +kernel)) ggX2_leap_X2_before
theorem dX2_leap_0 : decode cX2_leap 0 = .ok (.iload_n 0, 1) := by decide +kernel
theorem dX2_leap_1 : decode cX2_leap 1 = .ok (.lload_n 1, 1) := by decide +kernel
theorem dX2_leap_2 : decode cX2_leap 2 = .ok (.lconst 1, 1) := by decide +kernel
theorem dX2_leap_3 : decode cX2_leap 3 = .ok (.ladd, 1) := by decide +kernel
theorem dX2_leap_4 : decode cX2_leap 4 = .ok (.invokestatic 52, 3) := by decide +kernel
theorem dX2_leap_7 : decode cX2_leap 7 = .ok (.iload_n 0, 1) := by decide +kernel
theorem dX2_leap_8 : decode cX2_leap 8 = .ok (.lload_n 1, 1) := by decide +kernel
theorem dX2_leap_9 : decode cX2_leap 9 = .ok (.invokestatic 52, 3) := by decide +kernel
theorem dX2_leap_12 : decode cX2_leap 12 = .ok (.lsub, 1) := by decide +kernel
theorem dX2_leap_13 : decode cX2_leap 13 = .ok (.ldc2_w 56, 3) := by decide +kernel
theorem dX2_leap_16 : decode cX2_leap 16 = .ok (.lcmp, 1) := by decide +kernel
theorem dX2_leap_17 : decode cX2_leap 17 = .ok (.ifCond .ne 7, 3) := by decide +kernel
theorem dX2_leap_20 : decode cX2_leap 20 = .ok (.iconst 1, 1) := by decide +kernel
theorem dX2_leap_21 : decode cX2_leap 21 = .ok (.goto 4, 3) := by decide +kernel
theorem dX2_leap_24 : decode cX2_leap 24 = .ok (.iconst 0, 1) := by decide +kernel
theorem dX2_leap_25 : decode cX2_leap 25 = .ok (.ireturn, 1) := by decide +kernel
set_option maxRecDepth 20000 in
theorem ggX2_length_X2_leap : GoodIn wsX2_length wsX2_leap := goodIn_r _ [4, 5, 6, 7, 3, 8, 9, 10, 11, 12, 13, 14, 15, 16, 17, 18] (by decide +kernel) (by decide +kernel)
set_option maxRecDepth 20000 in
theorem gX2_length_X2_leap : GoodIn wsX2_length (va_wsS RX2 58 yX2_leap wsX2_leap) := goodIn_app (goodIn_of _ (by decide +kernel)) ggX2_length_X2_leap
theorem dX2_length_0 : decode cX2_length 0 = .ok (.iload_n 3, 1) := by decide +kernel
theorem dX2_length_1 : decode cX2_length 1 = .ok (.iconst 2, 1) := by decide +kernel
theorem dX2_length_2 : decode cX2_length 2 = .ok (.if_icmp .ne 19, 3) := by decide +kernel
theorem dX2_length_5 : decode cX2_length 5 = .ok (.iload_n 0, 1) := by decide +kernel
theorem dX2_length_6 : decode cX2_length 6 = .ok (.lload_n 1, 1) := by decide +kernel
theorem dX2_length_7 : decode cX2_length 7 = .ok (.invokestatic 58, 3) := by decide +kernel
theorem dX2_length_10 : decode cX2_length 10 = .ok (.ifCond .eq 8, 3) := by decide +kernel
theorem dX2_length_13 : decode cX2_length 13 = .ok (.bipush 29, 2) := by decide +kernel
theorem dX2_length_15 : decode cX2_length 15 = .ok (.goto 5, 3) := by decide +kernel
theorem dX2_length_18 : decode cX2_length 18 = .ok (.bipush 28, 2) := by decide +kernel
theorem dX2_length_20 : decode cX2_length 20 = .ok (.ireturn, 1) := by decide +kernel
theorem dX2_length_21 : decode cX2_length 21 = .ok (.iload_n 3, 1) := by decide +kernel
theorem dX2_length_22 : decode cX2_length 22 = .ok (.iconst 4, 1) := by decide +kernel
theorem dX2_length_23 : decode cX2_length 23 = .ok (.if_icmp .eq 21, 3) := by decide +kernel
theorem dX2_length_26 : decode cX2_length 26 = .ok (.iload_n 3, 1) := by decide +kernel
theorem dX2_length_27 : decode cX2_length 27 = .ok (.bipush 6, 2) := by decide +kernel
theorem dX2_length_29 : decode cX2_length 29 = .ok (.if_icmp .eq 15, 3) := by decide +kernel
theorem dX2_length_32 : decode cX2_length 32 = .ok (.iload_n 3, 1) := by decide +kernel
theorem dX2_length_33 : decode cX2_length 33 = .ok (.bipush 9, 2) := by decide +kernel
theorem dX2_length_35 : decode cX2_length 35 = .ok (.if_icmp .eq 9, 3) := by decide +kernel
theorem dX2_length_38 : decode cX2_length 38 = .ok (.iload_n 3, 1) := by decide +kernel
theorem dX2_length_39 : decode cX2_length 39 = .ok (.bipush 11, 2) := by decide +kernel
theorem dX2_length_41 : decode cX2_length 41 = .ok (.if_icmp .ne 8, 3) := by decide +kernel
theorem dX2_length_44 : decode cX2_length 44 = .ok (.bipush 30, 2) := by decide +kernel
theorem dX2_length_46 : decode cX2_length 46 = .ok (.goto 5, 3) := by decide +kernel
theorem dX2_length_49 : decode cX2_length 49 = .ok (.bipush 31, 2) := by decide +kernel
theorem dX2_length_51 : decode cX2_length 51 = .ok (.ireturn, 1) := by decide +kernel
set_option maxRecDepth 20000 in
theorem ggX2_newYear_X2_before : GoodIn wsX2_newYear wsX2_before := goodIn_r _ [7, 8, 9, 10, 11, 12, 13, 14, 15, 16, 6, 17] (by decide +kernel) (by decide +kernel)
set_option maxRecDepth 20000 in
theorem gX2_newYear_X2_before : GoodIn wsX2_newYear (va_wsS RX2 52 yX2_before wsX2_before) := goodIn_app (goodIn_of _ (by decide +kernel)) ggX2_newYear_X2_before
theorem dX2_newYear_0 : decode cX2_newYear 0 = .ok (.iload_n 0, 1) := by decide +kernel
theorem dX2_newYear_1 : decode cX2_newYear 1 = .ok (.ifCond .ne 19, 3) := by decide +kernel
theorem dX2_newYear_4 : decode cX2_newYear 4 = .ok (.iconst 0, 1) := by decide +kernel
theorem dX2_newYear_5 : decode cX2_newYear 5 = .ok (.lload_n 1, 1) := by decide +kernel
theorem dX2_newYear_6 : decode cX2_newYear 6 = .ok (.invokestatic 52, 3) := by decide +kernel
theorem dX2_newYear_9 : decode cX2_newYear 9 = .ok (.iconst 0, 1) := by decide +kernel
theorem dX2_newYear_10 : decode cX2_newYear 10 = .ok (.ldc2_w 62, 3) := by decide +kernel
theorem dX2_newYear_13 : decode cX2_newYear 13 = .ok (.invokestatic 52, 3) := by decide +kernel
theorem dX2_newYear_16 : decode cX2_newYear 16 = .ok (.lsub, 1) := by decide +kernel
theorem dX2_newYear_17 : decode cX2_newYear 17 = .ok (.goto 20, 3) := by decide +kernel
theorem dX2_newYear_20 : decode cX2_newYear 20 = .ok (.iconst 1, 1) := by decide +kernel
theorem dX2_newYear_21 : decode cX2_newYear 21 = .ok (.lload_n 1, 1) := by decide +kernel
theorem dX2_newYear_22 : decode cX2_newYear 22 = .ok (.invokestatic 52, 3) := by decide +kernel
theorem dX2_newYear_25 : decode cX2_newYear 25 = .ok (.iconst 1, 1) := by decide +kernel
theorem dX2_newYear_26 : decode cX2_newYear 26 = .ok (.ldc2_w 64, 3) := by decide +kernel
theorem dX2_newYear_29 : decode cX2_newYear 29 = .ok (.invokestatic 52, 3) := by decide +kernel
theorem dX2_newYear_32 : decode cX2_newYear 32 = .ok (.lsub, 1) := by decide +kernel
theorem dX2_newYear_33 : decode cX2_newYear 33 = .ok (.ldc2_w 66, 3) := by decide +kernel
theorem dX2_newYear_36 : decode cX2_newYear 36 = .ok (.lsub, 1) := by decide +kernel
theorem dX2_newYear_37 : decode cX2_newYear 37 = .ok (.lreturn, 1) := by decide +kernel
set_option maxRecDepth 20000 in
theorem ggX2_noDate_X2_length : GoodIn wsX2_noDate wsX2_length := goodIn_r _ [6, 7, 8, 5, 9, 10, 11, 12, 13, 14, 15, 16, 17, 18, 19, 20, 21, 22, 23] (by decide +kernel) (by decide +kernel)
set_option maxRecDepth 20000 in
theorem gX2_noDate_X2_length : GoodIn wsX2_noDate (va_wsS RX2 70 yX2_length wsX2_length) := goodIn_app (goodIn_of _ (by decide +kernel)) ggX2_noDate_X2_length
theorem dX2_noDate_0 : decode cX2_noDate 0 = .ok (.iload_n 1, 1) := by decide +kernel
theorem dX2_noDate_1 : decode cX2_noDate 1 = .ok (.ldc 68, 2) := by decide +kernel
theorem dX2_noDate_3 : decode cX2_noDate 3 = .ok (.if_icmp .lt 36, 3) := by decide +kernel
theorem dX2_noDate_6 : decode cX2_noDate 6 = .ok (.iload_n 1, 1) := by decide +kernel
theorem dX2_noDate_7 : decode cX2_noDate 7 = .ok (.ldc 69, 2) := by decide +kernel
theorem dX2_noDate_9 : decode cX2_noDate 9 = .ok (.if_icmp .gt 30, 3) := by decide +kernel
theorem dX2_noDate_12 : decode cX2_noDate 12 = .ok (.iload_n 2, 1) := by decide +kernel
theorem dX2_noDate_13 : decode cX2_noDate 13 = .ok (.iconst 1, 1) := by decide +kernel
theorem dX2_noDate_14 : decode cX2_noDate 14 = .ok (.if_icmp .lt 25, 3) := by decide +kernel
theorem dX2_noDate_17 : decode cX2_noDate 17 = .ok (.iload_n 2, 1) := by decide +kernel
theorem dX2_noDate_18 : decode cX2_noDate 18 = .ok (.bipush 12, 2) := by decide +kernel
theorem dX2_noDate_20 : decode cX2_noDate 20 = .ok (.if_icmp .gt 19, 3) := by decide +kernel
theorem dX2_noDate_23 : decode cX2_noDate 23 = .ok (.iload_n 3, 1) := by decide +kernel
theorem dX2_noDate_24 : decode cX2_noDate 24 = .ok (.iconst 1, 1) := by decide +kernel
theorem dX2_noDate_25 : decode cX2_noDate 25 = .ok (.if_icmp .lt 14, 3) := by decide +kernel
theorem dX2_noDate_28 : decode cX2_noDate 28 = .ok (.iload_n 3, 1) := by decide +kernel
theorem dX2_noDate_29 : decode cX2_noDate 29 = .ok (.iload_n 0, 1) := by decide +kernel
theorem dX2_noDate_30 : decode cX2_noDate 30 = .ok (.iload_n 1, 1) := by decide +kernel
theorem dX2_noDate_31 : decode cX2_noDate 31 = .ok (.i2l, 1) := by decide +kernel
theorem dX2_noDate_32 : decode cX2_noDate 32 = .ok (.iload_n 2, 1) := by decide +kernel
theorem dX2_noDate_33 : decode cX2_noDate 33 = .ok (.invokestatic 70, 3) := by decide +kernel
theorem dX2_noDate_36 : decode cX2_noDate 36 = .ok (.if_icmp .le 7, 3) := by decide +kernel
theorem dX2_noDate_39 : decode cX2_noDate 39 = .ok (.iconst 1, 1) := by decide +kernel
theorem dX2_noDate_40 : decode cX2_noDate 40 = .ok (.goto 4, 3) := by decide +kernel
theorem dX2_noDate_43 : decode cX2_noDate 43 = .ok (.iconst 0, 1) := by decide +kernel
theorem dX2_noDate_44 : decode cX2_noDate 44 = .ok (.ireturn, 1) := by decide +kernel
set_option maxRecDepth 20000 in
theorem ggX2_number_X2_newYear : GoodIn wsX2_number wsX2_newYear := goodIn_r _ [4, 5, 6, 7, 8, 9, 3, 10, 11, 12, 13, 14, 15, 16, 17, 18, 19, 20] (by decide +kernel) (by decide +kernel)
set_option maxRecDepth 20000 in
theorem gX2_number_X2_newYear : GoodIn wsX2_number (va_wsS RX2 74 yX2_newYear wsX2_newYear) := goodIn_app (goodIn_of _ (by decide +kernel)) ggX2_number_X2_newYear
set_option maxRecDepth 20000 in
theorem ggX2_number_X2_length : GoodIn wsX2_number wsX2_length := goodIn_r _ [23, 24, 25, 3, 26, 27, 8, 9, 10, 11, 12, 13, 14, 15, 16, 17, 18, 19, 20] (by decide +kernel) (by decide +kernel)
set_option maxRecDepth 20000 in
theorem gX2_number_X2_length : GoodIn wsX2_number (va_wsS RX2 70 yX2_length wsX2_length) := goodIn_app (goodIn_of _ (by decide +kernel)) ggX2_number_X2_length
theorem dX2_number_0 : decode cX2_number 0 = .ok (.iload_n 0, 1) := by decide +kernel
theorem dX2_number_1 : decode cX2_number 1 = .ok (.iload_n 1, 1) := by decide +kernel
theorem dX2_number_2 : decode cX2_number 2 = .ok (.i2l, 1) := by decide +kernel
theorem dX2_number_3 : decode cX2_number 3 = .ok (.invokestatic 74, 3) := by decide +kernel
theorem dX2_number_6 : decode cX2_number 6 = .ok (.lstore 4, 2) := by decide +kernel
theorem dX2_number_8 : decode cX2_number 8 = .ok (.iconst 1, 1) := by decide +kernel
theorem dX2_number_9 : decode cX2_number 9 = .ok (.istore 6, 2) := by decide +kernel
theorem dX2_number_11 : decode cX2_number 11 = .ok (.iload 6, 2) := by decide +kernel
theorem dX2_number_13 : decode cX2_number 13 = .ok (.iload_n 2, 1) := by decide +kernel
theorem dX2_number_14 : decode cX2_number 14 = .ok (.if_icmp .ge 23, 3) := by decide +kernel
theorem dX2_number_17 : decode cX2_number 17 = .ok (.lload 4, 2) := by decide +kernel
theorem dX2_number_19 : decode cX2_number 19 = .ok (.iload_n 0, 1) := by decide +kernel
theorem dX2_number_20 : decode cX2_number 20 = .ok (.iload_n 1, 1) := by decide +kernel
theorem dX2_number_21 : decode cX2_number 21 = .ok (.i2l, 1) := by decide +kernel
theorem dX2_number_22 : decode cX2_number 22 = .ok (.iload 6, 2) := by decide +kernel
theorem dX2_number_24 : decode cX2_number 24 = .ok (.invokestatic 70, 3) := by decide +kernel
theorem dX2_number_27 : decode cX2_number 27 = .ok (.i2l, 1) := by decide +kernel
theorem dX2_number_28 : decode cX2_number 28 = .ok (.ladd, 1) := by decide +kernel
theorem dX2_number_29 : decode cX2_number 29 = .ok (.lstore 4, 2) := by decide +kernel
theorem dX2_number_31 : decode cX2_number 31 = .ok (.iinc 6 1, 3) := by decide +kernel
theorem dX2_number_34 : decode cX2_number 34 = .ok (.goto (-23), 3) := by decide +kernel
theorem dX2_number_37 : decode cX2_number 37 = .ok (.lload 4, 2) := by decide +kernel
theorem dX2_number_39 : decode cX2_number 39 = .ok (.iload_n 3, 1) := by decide +kernel
theorem dX2_number_40 : decode cX2_number 40 = .ok (.i2l, 1) := by decide +kernel
theorem dX2_number_41 : decode cX2_number 41 = .ok (.ladd, 1) := by decide +kernel
theorem dX2_number_42 : decode cX2_number 42 = .ok (.lconst 1, 1) := by decide +kernel
theorem dX2_number_43 : decode cX2_number 43 = .ok (.lsub, 1) := by decide +kernel
theorem dX2_number_44 : decode cX2_number 44 = .ok (.lreturn, 1) := by decide +kernel
set_option maxRecDepth 20000 in
theorem ggX2_day_X2_fail : GoodIn wsX2_day wsX2_fail := goodIn_r _ [10, 1, 44, 45, 46, 47, 48, 49, 50, 51, 52, 53, 54, 55, 56] (by decide +kernel) (by decide +kernel)
set_option maxRecDepth 20000 in
theorem gX2_day_X2_fail : GoodIn wsX2_day (wsV RX2 77 RX2 yX2_fail wsX2_fail) := goodIn_app (goodIn_of _ (by decide +kernel)) ggX2_day_X2_fail
set_option maxRecDepth 20000 in
theorem ggX2_day_X2_noDate : GoodIn wsX2_day wsX2_noDate := goodIn_r _ [13, 14, 15, 16, 17, 9, 18, 19, 20, 21, 22, 23, 24, 25, 26, 27, 28, 29, 3, 30, 31, 32, 33, 34] (by decide +kernel) (by decide +kernel)
set_option maxRecDepth 20000 in
theorem gX2_day_X2_noDate : GoodIn wsX2_day (va_wsS RX2 87 yX2_noDate wsX2_noDate) := goodIn_app (goodIn_of _ (by decide +kernel)) ggX2_day_X2_noDate
set_option maxRecDepth 20000 in
theorem ggX2_day_X2_number : GoodIn wsX2_day wsX2_number := goodIn_r _ [37, 38, 39, 9, 40, 41, 42, 43, 23, 24, 25, 26, 27, 28, 29, 3, 30, 31, 32, 33, 34, 16, 17, 18, 19, 20, 21, 22] (by decide +kernel) (by decide +kernel)
set_option maxRecDepth 20000 in
theorem gX2_day_X2_number : GoodIn wsX2_day (va_wsS RX2 91 yX2_number wsX2_number) := goodIn_app (goodIn_of _ (by decide +kernel)) ggX2_day_X2_number
theorem dX2_day_0 : decode cX2_day 0 = .ok (.aload_n 0, 1) := by decide +kernel
theorem dX2_day_1 : decode cX2_day 1 = .ok (.iconst 0, 1) := by decide +kernel
theorem dX2_day_2 : decode cX2_day 2 = .ok (.putfield 30, 3) := by decide +kernel
theorem dX2_day_5 : decode cX2_day 5 = .ok (.iload_n 1, 1) := by decide +kernel
theorem dX2_day_6 : decode cX2_day 6 = .ok (.ifCond .lt 8, 3) := by decide +kernel
theorem dX2_day_9 : decode cX2_day 9 = .ok (.iload_n 1, 1) := by decide +kernel
theorem dX2_day_10 : decode cX2_day 10 = .ok (.iconst 2, 1) := by decide +kernel
theorem dX2_day_11 : decode cX2_day 11 = .ok (.if_icmp .le 10, 3) := by decide +kernel
theorem dX2_day_14 : decode cX2_day 14 = .ok (.aload_n 0, 1) := by decide +kernel
theorem dX2_day_15 : decode cX2_day 15 = .ok (.iconst 1, 1) := by decide +kernel
theorem dX2_day_16 : decode cX2_day 16 = .ok (.invokevirtual 77, 3) := by decide +kernel
theorem dX2_day_19 : decode cX2_day 19 = .ok (.i2l, 1) := by decide +kernel
theorem dX2_day_20 : decode cX2_day 20 = .ok (.lreturn, 1) := by decide +kernel
theorem dX2_day_21 : decode cX2_day 21 = .ok (.iload_n 2, 1) := by decide +kernel
theorem dX2_day_22 : decode cX2_day 22 = .ok (.i2l, 1) := by decide +kernel
theorem dX2_day_23 : decode cX2_day 23 = .ok (.ldc2_w 81, 3) := by decide +kernel
theorem dX2_day_26 : decode cX2_day 26 = .ok (.lmul, 1) := by decide +kernel
theorem dX2_day_27 : decode cX2_day 27 = .ok (.iload_n 3, 1) := by decide +kernel
theorem dX2_day_28 : decode cX2_day 28 = .ok (.i2l, 1) := by decide +kernel
theorem dX2_day_29 : decode cX2_day 29 = .ok (.ldc2_w 46, 3) := by decide +kernel
theorem dX2_day_32 : decode cX2_day 32 = .ok (.lmul, 1) := by decide +kernel
theorem dX2_day_33 : decode cX2_day 33 = .ok (.ladd, 1) := by decide +kernel
theorem dX2_day_34 : decode cX2_day 34 = .ok (.iload 4, 2) := by decide +kernel
theorem dX2_day_36 : decode cX2_day 36 = .ok (.i2l, 1) := by decide +kernel
theorem dX2_day_37 : decode cX2_day 37 = .ok (.ladd, 1) := by decide +kernel
theorem dX2_day_38 : decode cX2_day 38 = .ok (.lstore 5, 2) := by decide +kernel
theorem dX2_day_40 : decode cX2_day 40 = .ok (.iload_n 1, 1) := by decide +kernel
theorem dX2_day_41 : decode cX2_day 41 = .ok (.iconst 2, 1) := by decide +kernel
theorem dX2_day_42 : decode cX2_day 42 = .ok (.if_icmp .ge 7, 3) := by decide +kernel
theorem dX2_day_45 : decode cX2_day 45 = .ok (.iload_n 1, 1) := by decide +kernel
theorem dX2_day_46 : decode cX2_day 46 = .ok (.goto 17, 3) := by decide +kernel
theorem dX2_day_49 : decode cX2_day 49 = .ok (.lload 5, 2) := by decide +kernel
theorem dX2_day_51 : decode cX2_day 51 = .ok (.ldc2_w 83, 3) := by decide +kernel
theorem dX2_day_54 : decode cX2_day 54 = .ok (.lcmp, 1) := by decide +kernel
theorem dX2_day_55 : decode cX2_day 55 = .ok (.ifCond .gt 7, 3) := by decide +kernel
theorem dX2_day_58 : decode cX2_day 58 = .ok (.iconst 0, 1) := by decide +kernel
theorem dX2_day_59 : decode cX2_day 59 = .ok (.goto 4, 3) := by decide +kernel
theorem dX2_day_62 : decode cX2_day 62 = .ok (.iconst 1, 1) := by decide +kernel
theorem dX2_day_63 : decode cX2_day 63 = .ok (.istore 7, 2) := by decide +kernel
theorem dX2_day_65 : decode cX2_day 65 = .ok (.iload_n 1, 1) := by decide +kernel
theorem dX2_day_66 : decode cX2_day 66 = .ok (.iconst 2, 1) := by decide +kernel
theorem dX2_day_67 : decode cX2_day 67 = .ok (.if_icmp .ne 25, 3) := by decide +kernel
theorem dX2_day_70 : decode cX2_day 70 = .ok (.lload 5, 2) := by decide +kernel
theorem dX2_day_72 : decode cX2_day 72 = .ok (.ldc2_w 83, 3) := by decide +kernel
theorem dX2_day_75 : decode cX2_day 75 = .ok (.lcmp, 1) := by decide +kernel
theorem dX2_day_76 : decode cX2_day 76 = .ok (.ifCond .le 16, 3) := by decide +kernel
theorem dX2_day_79 : decode cX2_day 79 = .ok (.lload 5, 2) := by decide +kernel
theorem dX2_day_81 : decode cX2_day 81 = .ok (.ldc2_w 85, 3) := by decide +kernel
theorem dX2_day_84 : decode cX2_day 84 = .ok (.lcmp, 1) := by decide +kernel
theorem dX2_day_85 : decode cX2_day 85 = .ok (.ifCond .ge 7, 3) := by decide +kernel
theorem dX2_day_88 : decode cX2_day 88 = .ok (.iconst 1, 1) := by decide +kernel
theorem dX2_day_89 : decode cX2_day 89 = .ok (.goto 4, 3) := by decide +kernel
theorem dX2_day_92 : decode cX2_day 92 = .ok (.iconst 0, 1) := by decide +kernel
theorem dX2_day_93 : decode cX2_day 93 = .ok (.istore 8, 2) := by decide +kernel
theorem dX2_day_95 : decode cX2_day 95 = .ok (.iload 7, 2) := by decide +kernel
theorem dX2_day_97 : decode cX2_day 97 = .ok (.iload_n 2, 1) := by decide +kernel
theorem dX2_day_98 : decode cX2_day 98 = .ok (.iload_n 3, 1) := by decide +kernel
theorem dX2_day_99 : decode cX2_day 99 = .ok (.iload 4, 2) := by decide +kernel
theorem dX2_day_101 : decode cX2_day 101 = .ok (.invokestatic 87, 3) := by decide +kernel
theorem dX2_day_104 : decode cX2_day 104 = .ok (.ifCond .ne 8, 3) := by decide +kernel
theorem dX2_day_107 : decode cX2_day 107 = .ok (.iload 8, 2) := by decide +kernel
theorem dX2_day_109 : decode cX2_day 109 = .ok (.ifCond .eq 10, 3) := by decide +kernel
theorem dX2_day_112 : decode cX2_day 112 = .ok (.aload_n 0, 1) := by decide +kernel
theorem dX2_day_113 : decode cX2_day 113 = .ok (.iconst 1, 1) := by decide +kernel
theorem dX2_day_114 : decode cX2_day 114 = .ok (.invokevirtual 77, 3) := by decide +kernel
theorem dX2_day_117 : decode cX2_day 117 = .ok (.i2l, 1) := by decide +kernel
theorem dX2_day_118 : decode cX2_day 118 = .ok (.lreturn, 1) := by decide +kernel
theorem dX2_day_119 : decode cX2_day 119 = .ok (.iload 7, 2) := by decide +kernel
theorem dX2_day_121 : decode cX2_day 121 = .ok (.iload_n 2, 1) := by decide +kernel
theorem dX2_day_122 : decode cX2_day 122 = .ok (.iload_n 3, 1) := by decide +kernel
theorem dX2_day_123 : decode cX2_day 123 = .ok (.iload 4, 2) := by decide +kernel
theorem dX2_day_125 : decode cX2_day 125 = .ok (.invokestatic 91, 3) := by decide +kernel
theorem dX2_day_128 : decode cX2_day 128 = .ok (.lreturn, 1) := by decide +kernel
set_option maxRecDepth 20000 in
theorem ggX2_yearOf_X2_floor : GoodIn wsX2_yearOf wsX2_floor := goodIn_r _ [7] (by decide +kernel) (by decide +kernel)
set_option maxRecDepth 20000 in
theorem gX2_yearOf_X2_floor : GoodIn wsX2_yearOf (va_wsS RX2 38 yX2_floor wsX2_floor) := goodIn_app (goodIn_of _ (by decide +kernel)) ggX2_yearOf_X2_floor
set_option maxRecDepth 20000 in
theorem ggX2_yearOf_X2_newYear : GoodIn wsX2_yearOf wsX2_newYear := goodIn_r _ [10, 11, 12, 13, 14, 15, 6, 16, 17, 1, 18, 19, 20, 21, 22, 4, 5, 7] (by decide +kernel) (by decide +kernel)
set_option maxRecDepth 20000 in
theorem gX2_yearOf_X2_newYear : GoodIn wsX2_yearOf (va_wsS RX2 74 yX2_newYear wsX2_newYear) := goodIn_app (goodIn_of _ (by decide +kernel)) ggX2_yearOf_X2_newYear
theorem dX2_yearOf_0 : decode cX2_yearOf 0 = .ok (.lload_n 1, 1) := by decide +kernel
theorem dX2_yearOf_1 : decode cX2_yearOf 1 = .ok (.ldc2_w 36, 3) := by decide +kernel
theorem dX2_yearOf_4 : decode cX2_yearOf 4 = .ok (.lmul, 1) := by decide +kernel
theorem dX2_yearOf_5 : decode cX2_yearOf 5 = .ok (.ldc2_w 95, 3) := by decide +kernel
theorem dX2_yearOf_8 : decode cX2_yearOf 8 = .ok (.invokestatic 38, 3) := by decide +kernel
theorem dX2_yearOf_11 : decode cX2_yearOf 11 = .ok (.ldc2_w 97, 3) := by decide +kernel
theorem dX2_yearOf_14 : decode cX2_yearOf 14 = .ok (.lsub, 1) := by decide +kernel
theorem dX2_yearOf_15 : decode cX2_yearOf 15 = .ok (.lstore_n 3, 1) := by decide +kernel
theorem dX2_yearOf_16 : decode cX2_yearOf 16 = .ok (.iload_n 0, 1) := by decide +kernel
theorem dX2_yearOf_17 : decode cX2_yearOf 17 = .ok (.lload_n 3, 1) := by decide +kernel
theorem dX2_yearOf_18 : decode cX2_yearOf 18 = .ok (.invokestatic 74, 3) := by decide +kernel
theorem dX2_yearOf_21 : decode cX2_yearOf 21 = .ok (.lload_n 1, 1) := by decide +kernel
theorem dX2_yearOf_22 : decode cX2_yearOf 22 = .ok (.lcmp, 1) := by decide +kernel
theorem dX2_yearOf_23 : decode cX2_yearOf 23 = .ok (.ifCond .le 10, 3) := by decide +kernel
theorem dX2_yearOf_26 : decode cX2_yearOf 26 = .ok (.lload_n 3, 1) := by decide +kernel
theorem dX2_yearOf_27 : decode cX2_yearOf 27 = .ok (.lconst 1, 1) := by decide +kernel
theorem dX2_yearOf_28 : decode cX2_yearOf 28 = .ok (.lsub, 1) := by decide +kernel
theorem dX2_yearOf_29 : decode cX2_yearOf 29 = .ok (.lstore_n 3, 1) := by decide +kernel
theorem dX2_yearOf_30 : decode cX2_yearOf 30 = .ok (.goto (-14), 3) := by decide +kernel
theorem dX2_yearOf_33 : decode cX2_yearOf 33 = .ok (.iload_n 0, 1) := by decide +kernel
theorem dX2_yearOf_34 : decode cX2_yearOf 34 = .ok (.lload_n 3, 1) := by decide +kernel
theorem dX2_yearOf_35 : decode cX2_yearOf 35 = .ok (.lconst 1, 1) := by decide +kernel
theorem dX2_yearOf_36 : decode cX2_yearOf 36 = .ok (.ladd, 1) := by decide +kernel
theorem dX2_yearOf_37 : decode cX2_yearOf 37 = .ok (.invokestatic 74, 3) := by decide +kernel
theorem dX2_yearOf_40 : decode cX2_yearOf 40 = .ok (.lload_n 1, 1) := by decide +kernel
theorem dX2_yearOf_41 : decode cX2_yearOf 41 = .ok (.lcmp, 1) := by decide +kernel
theorem dX2_yearOf_42 : decode cX2_yearOf 42 = .ok (.ifCond .gt 10, 3) := by decide +kernel
theorem dX2_yearOf_45 : decode cX2_yearOf 45 = .ok (.lload_n 3, 1) := by decide +kernel
theorem dX2_yearOf_46 : decode cX2_yearOf 46 = .ok (.lconst 1, 1) := by decide +kernel
theorem dX2_yearOf_47 : decode cX2_yearOf 47 = .ok (.ladd, 1) := by decide +kernel
theorem dX2_yearOf_48 : decode cX2_yearOf 48 = .ok (.lstore_n 3, 1) := by decide +kernel
theorem dX2_yearOf_49 : decode cX2_yearOf 49 = .ok (.goto (-16), 3) := by decide +kernel
theorem dX2_yearOf_52 : decode cX2_yearOf 52 = .ok (.lload_n 3, 1) := by decide +kernel
theorem dX2_yearOf_53 : decode cX2_yearOf 53 = .ok (.lreturn, 1) := by decide +kernel
set_option maxRecDepth 20000 in
theorem ggX2_date_X2_fail : GoodIn wsX2_date wsX2_fail := goodIn_r _ [12, 1, 44, 45, 46, 47, 48, 49, 50, 51, 52, 53, 54, 55, 56] (by decide +kernel) (by decide +kernel)
set_option maxRecDepth 20000 in
theorem gX2_date_X2_fail : GoodIn wsX2_date (wsV RX2 77 RX2 yX2_fail wsX2_fail) := goodIn_app (goodIn_of _ (by decide +kernel)) ggX2_date_X2_fail
set_option maxRecDepth 20000 in
theorem ggX2_date_X2_yearOf : GoodIn wsX2_date wsX2_yearOf := goodIn_r _ [15, 16, 17, 18, 19, 20, 11, 21, 22, 23, 24, 25, 26, 27, 28, 29, 30, 31, 32, 33, 34, 35, 36] (by decide +kernel) (by decide +kernel)
set_option maxRecDepth 20000 in
theorem gX2_date_X2_yearOf : GoodIn wsX2_date (va_wsS RX2 105 yX2_yearOf wsX2_yearOf) := goodIn_app (goodIn_of _ (by decide +kernel)) ggX2_date_X2_yearOf
set_option maxRecDepth 20000 in
theorem ggX2_date_X2_newYear : GoodIn wsX2_date wsX2_newYear := goodIn_r _ [24, 25, 26, 27, 28, 29, 11, 30, 31, 16, 32, 33, 34, 35, 36, 19, 20, 21] (by decide +kernel) (by decide +kernel)
set_option maxRecDepth 20000 in
theorem gX2_date_X2_newYear : GoodIn wsX2_date (va_wsS RX2 74 yX2_newYear wsX2_newYear) := goodIn_app (goodIn_of _ (by decide +kernel)) ggX2_date_X2_newYear
set_option maxRecDepth 20000 in
theorem ggX2_date_X2_length : GoodIn wsX2_date wsX2_length := goodIn_r _ [39, 40, 41, 11, 42, 43, 28, 29, 30, 31, 16, 32, 33, 34, 35, 36, 19, 20, 21] (by decide +kernel) (by decide +kernel)
set_option maxRecDepth 20000 in
theorem gX2_date_X2_length : GoodIn wsX2_date (va_wsS RX2 70 yX2_length wsX2_length) := goodIn_app (goodIn_of _ (by decide +kernel)) ggX2_date_X2_length
theorem dX2_date_0 : decode cX2_date 0 = .ok (.aload_n 0, 1) := by decide +kernel
theorem dX2_date_1 : decode cX2_date 1 = .ok (.iconst 0, 1) := by decide +kernel
theorem dX2_date_2 : decode cX2_date 2 = .ok (.putfield 30, 3) := by decide +kernel
theorem dX2_date_5 : decode cX2_date 5 = .ok (.iload_n 1, 1) := by decide +kernel
theorem dX2_date_6 : decode cX2_date 6 = .ok (.ifCond .lt 35, 3) := by decide +kernel
theorem dX2_date_9 : decode cX2_date 9 = .ok (.iload_n 1, 1) := by decide +kernel
theorem dX2_date_10 : decode cX2_date 10 = .ok (.iconst 2, 1) := by decide +kernel
theorem dX2_date_11 : decode cX2_date 11 = .ok (.if_icmp .gt 30, 3) := by decide +kernel
theorem dX2_date_14 : decode cX2_date 14 = .ok (.lload_n 2, 1) := by decide +kernel
theorem dX2_date_15 : decode cX2_date 15 = .ok (.ldc2_w 99, 3) := by decide +kernel
theorem dX2_date_18 : decode cX2_date 18 = .ok (.lcmp, 1) := by decide +kernel
theorem dX2_date_19 : decode cX2_date 19 = .ok (.ifCond .lt 22, 3) := by decide +kernel
theorem dX2_date_22 : decode cX2_date 22 = .ok (.lload_n 2, 1) := by decide +kernel
theorem dX2_date_23 : decode cX2_date 23 = .ok (.ldc2_w 101, 3) := by decide +kernel
theorem dX2_date_26 : decode cX2_date 26 = .ok (.lcmp, 1) := by decide +kernel
theorem dX2_date_27 : decode cX2_date 27 = .ok (.ifCond .gt 14, 3) := by decide +kernel
theorem dX2_date_30 : decode cX2_date 30 = .ok (.iload 4, 2) := by decide +kernel
theorem dX2_date_32 : decode cX2_date 32 = .ok (.ifCond .lt 9, 3) := by decide +kernel
theorem dX2_date_35 : decode cX2_date 35 = .ok (.iload 4, 2) := by decide +kernel
theorem dX2_date_37 : decode cX2_date 37 = .ok (.iconst 3, 1) := by decide +kernel
theorem dX2_date_38 : decode cX2_date 38 = .ok (.if_icmp .le 9, 3) := by decide +kernel
theorem dX2_date_41 : decode cX2_date 41 = .ok (.aload_n 0, 1) := by decide +kernel
theorem dX2_date_42 : decode cX2_date 42 = .ok (.iconst 1, 1) := by decide +kernel
theorem dX2_date_43 : decode cX2_date 43 = .ok (.invokevirtual 77, 3) := by decide +kernel
theorem dX2_date_46 : decode cX2_date 46 = .ok (.ireturn, 1) := by decide +kernel
theorem dX2_date_47 : decode cX2_date 47 = .ok (.iload_n 1, 1) := by decide +kernel
theorem dX2_date_48 : decode cX2_date 48 = .ok (.iconst 2, 1) := by decide +kernel
theorem dX2_date_49 : decode cX2_date 49 = .ok (.if_icmp .ge 7, 3) := by decide +kernel
theorem dX2_date_52 : decode cX2_date 52 = .ok (.iload_n 1, 1) := by decide +kernel
theorem dX2_date_53 : decode cX2_date 53 = .ok (.goto 16, 3) := by decide +kernel
theorem dX2_date_56 : decode cX2_date 56 = .ok (.lload_n 2, 1) := by decide +kernel
theorem dX2_date_57 : decode cX2_date 57 = .ok (.ldc2_w 103, 3) := by decide +kernel
theorem dX2_date_60 : decode cX2_date 60 = .ok (.lcmp, 1) := by decide +kernel
theorem dX2_date_61 : decode cX2_date 61 = .ok (.ifCond .ge 7, 3) := by decide +kernel
theorem dX2_date_64 : decode cX2_date 64 = .ok (.iconst 0, 1) := by decide +kernel
theorem dX2_date_65 : decode cX2_date 65 = .ok (.goto 4, 3) := by decide +kernel
theorem dX2_date_68 : decode cX2_date 68 = .ok (.iconst 1, 1) := by decide +kernel
theorem dX2_date_69 : decode cX2_date 69 = .ok (.istore 5, 2) := by decide +kernel
theorem dX2_date_71 : decode cX2_date 71 = .ok (.iload 5, 2) := by decide +kernel
theorem dX2_date_73 : decode cX2_date 73 = .ok (.lload_n 2, 1) := by decide +kernel
theorem dX2_date_74 : decode cX2_date 74 = .ok (.invokestatic 105, 3) := by decide +kernel
theorem dX2_date_77 : decode cX2_date 77 = .ok (.lstore 6, 2) := by decide +kernel
theorem dX2_date_79 : decode cX2_date 79 = .ok (.lload 6, 2) := by decide +kernel
theorem dX2_date_81 : decode cX2_date 81 = .ok (.ldc2_w 108, 3) := by decide +kernel
theorem dX2_date_84 : decode cX2_date 84 = .ok (.lcmp, 1) := by decide +kernel
theorem dX2_date_85 : decode cX2_date 85 = .ok (.ifCond .lt 12, 3) := by decide +kernel
theorem dX2_date_88 : decode cX2_date 88 = .ok (.lload 6, 2) := by decide +kernel
theorem dX2_date_90 : decode cX2_date 90 = .ok (.ldc2_w 110, 3) := by decide +kernel
theorem dX2_date_93 : decode cX2_date 93 = .ok (.lcmp, 1) := by decide +kernel
theorem dX2_date_94 : decode cX2_date 94 = .ok (.ifCond .le 9, 3) := by decide +kernel
theorem dX2_date_97 : decode cX2_date 97 = .ok (.aload_n 0, 1) := by decide +kernel
theorem dX2_date_98 : decode cX2_date 98 = .ok (.iconst 1, 1) := by decide +kernel
theorem dX2_date_99 : decode cX2_date 99 = .ok (.invokevirtual 77, 3) := by decide +kernel
theorem dX2_date_102 : decode cX2_date 102 = .ok (.ireturn, 1) := by decide +kernel
theorem dX2_date_103 : decode cX2_date 103 = .ok (.lload_n 2, 1) := by decide +kernel
theorem dX2_date_104 : decode cX2_date 104 = .ok (.iload 5, 2) := by decide +kernel
theorem dX2_date_106 : decode cX2_date 106 = .ok (.lload 6, 2) := by decide +kernel
theorem dX2_date_108 : decode cX2_date 108 = .ok (.invokestatic 74, 3) := by decide +kernel
theorem dX2_date_111 : decode cX2_date 111 = .ok (.lsub, 1) := by decide +kernel
theorem dX2_date_112 : decode cX2_date 112 = .ok (.lstore 8, 2) := by decide +kernel
theorem dX2_date_114 : decode cX2_date 114 = .ok (.iconst 1, 1) := by decide +kernel
theorem dX2_date_115 : decode cX2_date 115 = .ok (.istore 10, 2) := by decide +kernel
theorem dX2_date_117 : decode cX2_date 117 = .ok (.lload 8, 2) := by decide +kernel
theorem dX2_date_119 : decode cX2_date 119 = .ok (.iload 5, 2) := by decide +kernel
theorem dX2_date_121 : decode cX2_date 121 = .ok (.lload 6, 2) := by decide +kernel
theorem dX2_date_123 : decode cX2_date 123 = .ok (.iload 10, 2) := by decide +kernel
theorem dX2_date_125 : decode cX2_date 125 = .ok (.invokestatic 70, 3) := by decide +kernel
theorem dX2_date_128 : decode cX2_date 128 = .ok (.i2l, 1) := by decide +kernel
theorem dX2_date_129 : decode cX2_date 129 = .ok (.lcmp, 1) := by decide +kernel
theorem dX2_date_130 : decode cX2_date 130 = .ok (.ifCond .lt 24, 3) := by decide +kernel
theorem dX2_date_133 : decode cX2_date 133 = .ok (.lload 8, 2) := by decide +kernel
theorem dX2_date_135 : decode cX2_date 135 = .ok (.iload 5, 2) := by decide +kernel
theorem dX2_date_137 : decode cX2_date 137 = .ok (.lload 6, 2) := by decide +kernel
theorem dX2_date_139 : decode cX2_date 139 = .ok (.iload 10, 2) := by decide +kernel
theorem dX2_date_141 : decode cX2_date 141 = .ok (.invokestatic 70, 3) := by decide +kernel
theorem dX2_date_144 : decode cX2_date 144 = .ok (.i2l, 1) := by decide +kernel
theorem dX2_date_145 : decode cX2_date 145 = .ok (.lsub, 1) := by decide +kernel
theorem dX2_date_146 : decode cX2_date 146 = .ok (.lstore 8, 2) := by decide +kernel
theorem dX2_date_148 : decode cX2_date 148 = .ok (.iinc 10 1, 3) := by decide +kernel
theorem dX2_date_151 : decode cX2_date 151 = .ok (.goto (-34), 3) := by decide +kernel
theorem dX2_date_154 : decode cX2_date 154 = .ok (.iload 4, 2) := by decide +kernel
theorem dX2_date_156 : decode cX2_date 156 = .ok (.ifCond .ne 7, 3) := by decide +kernel
theorem dX2_date_159 : decode cX2_date 159 = .ok (.lload 6, 2) := by decide +kernel
theorem dX2_date_161 : decode cX2_date 161 = .ok (.l2i, 1) := by decide +kernel
theorem dX2_date_162 : decode cX2_date 162 = .ok (.ireturn, 1) := by decide +kernel
theorem dX2_date_163 : decode cX2_date 163 = .ok (.iload 4, 2) := by decide +kernel
theorem dX2_date_165 : decode cX2_date 165 = .ok (.iconst 1, 1) := by decide +kernel
theorem dX2_date_166 : decode cX2_date 166 = .ok (.if_icmp .ne 6, 3) := by decide +kernel
theorem dX2_date_169 : decode cX2_date 169 = .ok (.iload 10, 2) := by decide +kernel
theorem dX2_date_171 : decode cX2_date 171 = .ok (.ireturn, 1) := by decide +kernel
theorem dX2_date_172 : decode cX2_date 172 = .ok (.iload 4, 2) := by decide +kernel
theorem dX2_date_174 : decode cX2_date 174 = .ok (.iconst 2, 1) := by decide +kernel
theorem dX2_date_175 : decode cX2_date 175 = .ok (.if_icmp .ne 9, 3) := by decide +kernel
theorem dX2_date_178 : decode cX2_date 178 = .ok (.lload 8, 2) := by decide +kernel
theorem dX2_date_180 : decode cX2_date 180 = .ok (.l2i, 1) := by decide +kernel
theorem dX2_date_181 : decode cX2_date 181 = .ok (.iconst 1, 1) := by decide +kernel
theorem dX2_date_182 : decode cX2_date 182 = .ok (.iadd, 1) := by decide +kernel
theorem dX2_date_183 : decode cX2_date 183 = .ok (.ireturn, 1) := by decide +kernel
theorem dX2_date_184 : decode cX2_date 184 = .ok (.iload_n 1, 1) := by decide +kernel
theorem dX2_date_185 : decode cX2_date 185 = .ok (.iconst 2, 1) := by decide +kernel
theorem dX2_date_186 : decode cX2_date 186 = .ok (.if_icmp .ne 16, 3) := by decide +kernel
theorem dX2_date_189 : decode cX2_date 189 = .ok (.lload 6, 2) := by decide +kernel
theorem dX2_date_191 : decode cX2_date 191 = .ok (.ldc2_w 112, 3) := by decide +kernel
theorem dX2_date_194 : decode cX2_date 194 = .ok (.lcmp, 1) := by decide +kernel
theorem dX2_date_195 : decode cX2_date 195 = .ok (.ifCond .gt 7, 3) := by decide +kernel
theorem dX2_date_198 : decode cX2_date 198 = .ok (.iconst 0, 1) := by decide +kernel
theorem dX2_date_199 : decode cX2_date 199 = .ok (.goto 5, 3) := by decide +kernel
theorem dX2_date_202 : decode cX2_date 202 = .ok (.iload 5, 2) := by decide +kernel
theorem dX2_date_204 : decode cX2_date 204 = .ok (.istore 11, 2) := by decide +kernel
theorem dX2_date_206 : decode cX2_date 206 = .ok (.lload_n 2, 1) := by decide +kernel
theorem dX2_date_207 : decode cX2_date 207 = .ok (.iload 11, 2) := by decide +kernel
theorem dX2_date_209 : decode cX2_date 209 = .ok (.lload 6, 2) := by decide +kernel
theorem dX2_date_211 : decode cX2_date 211 = .ok (.invokestatic 74, 3) := by decide +kernel
theorem dX2_date_214 : decode cX2_date 214 = .ok (.lsub, 1) := by decide +kernel
theorem dX2_date_215 : decode cX2_date 215 = .ok (.l2i, 1) := by decide +kernel
theorem dX2_date_216 : decode cX2_date 216 = .ok (.iconst 1, 1) := by decide +kernel
theorem dX2_date_217 : decode cX2_date 217 = .ok (.iadd, 1) := by decide +kernel
theorem dX2_date_218 : decode cX2_date 218 = .ok (.ireturn, 1) := by decide +kernel
set_option maxRecDepth 20000 in
theorem ggX2_easter_X2_fail : GoodIn wsX2_easter wsX2_fail := goodIn_r _ [6, 1, 36, 37, 38, 39, 40, 41, 42, 43, 44, 45, 46, 47, 48] (by decide +kernel) (by decide +kernel)
set_option maxRecDepth 20000 in
theorem gX2_easter_X2_fail : GoodIn wsX2_easter (wsV RX2 77 RX2 yX2_fail wsX2_fail) := goodIn_app (goodIn_of _ (by decide +kernel)) ggX2_easter_X2_fail
set_option maxRecDepth 20000 in
theorem ggX2_easter_X2_number : GoodIn wsX2_easter wsX2_number := goodIn_r _ [9, 10, 11, 5, 12, 13, 14, 15, 16, 17, 18, 19, 20, 21, 22, 23, 24, 25, 26, 27, 28, 29, 30, 31, 32, 33, 34, 35] (by decide +kernel) (by decide +kernel)
set_option maxRecDepth 20000 in
theorem gX2_easter_X2_number : GoodIn wsX2_easter (va_wsS RX2 91 yX2_number wsX2_number) := goodIn_app (goodIn_of _ (by decide +kernel)) ggX2_easter_X2_number
theorem dX2_easter_0 : decode cX2_easter 0 = .ok (.aload_n 0, 1) := by decide +kernel
theorem dX2_easter_1 : decode cX2_easter 1 = .ok (.iconst 0, 1) := by decide +kernel
theorem dX2_easter_2 : decode cX2_easter 2 = .ok (.putfield 30, 3) := by decide +kernel
theorem dX2_easter_5 : decode cX2_easter 5 = .ok (.iload_n 1, 1) := by decide +kernel
theorem dX2_easter_6 : decode cX2_easter 6 = .ok (.sipush 1583, 3) := by decide +kernel
theorem dX2_easter_9 : decode cX2_easter 9 = .ok (.if_icmp .lt 10, 3) := by decide +kernel
theorem dX2_easter_12 : decode cX2_easter 12 = .ok (.iload_n 1, 1) := by decide +kernel
theorem dX2_easter_13 : decode cX2_easter 13 = .ok (.sipush 9999, 3) := by decide +kernel
theorem dX2_easter_16 : decode cX2_easter 16 = .ok (.if_icmp .le 10, 3) := by decide +kernel
theorem dX2_easter_19 : decode cX2_easter 19 = .ok (.aload_n 0, 1) := by decide +kernel
theorem dX2_easter_20 : decode cX2_easter 20 = .ok (.iconst 1, 1) := by decide +kernel
theorem dX2_easter_21 : decode cX2_easter 21 = .ok (.invokevirtual 77, 3) := by decide +kernel
theorem dX2_easter_24 : decode cX2_easter 24 = .ok (.i2l, 1) := by decide +kernel
theorem dX2_easter_25 : decode cX2_easter 25 = .ok (.lreturn, 1) := by decide +kernel
theorem dX2_easter_26 : decode cX2_easter 26 = .ok (.iload_n 1, 1) := by decide +kernel
theorem dX2_easter_27 : decode cX2_easter 27 = .ok (.bipush 19, 2) := by decide +kernel
theorem dX2_easter_29 : decode cX2_easter 29 = .ok (.irem, 1) := by decide +kernel
theorem dX2_easter_30 : decode cX2_easter 30 = .ok (.istore_n 2, 1) := by decide +kernel
theorem dX2_easter_31 : decode cX2_easter 31 = .ok (.iload_n 1, 1) := by decide +kernel
theorem dX2_easter_32 : decode cX2_easter 32 = .ok (.bipush 100, 2) := by decide +kernel
theorem dX2_easter_34 : decode cX2_easter 34 = .ok (.idiv, 1) := by decide +kernel
theorem dX2_easter_35 : decode cX2_easter 35 = .ok (.istore_n 3, 1) := by decide +kernel
theorem dX2_easter_36 : decode cX2_easter 36 = .ok (.iload_n 3, 1) := by decide +kernel
theorem dX2_easter_37 : decode cX2_easter 37 = .ok (.iload_n 3, 1) := by decide +kernel
theorem dX2_easter_38 : decode cX2_easter 38 = .ok (.iconst 4, 1) := by decide +kernel
theorem dX2_easter_39 : decode cX2_easter 39 = .ok (.idiv, 1) := by decide +kernel
theorem dX2_easter_40 : decode cX2_easter 40 = .ok (.isub, 1) := by decide +kernel
theorem dX2_easter_41 : decode cX2_easter 41 = .ok (.bipush 8, 2) := by decide +kernel
theorem dX2_easter_43 : decode cX2_easter 43 = .ok (.iload_n 3, 1) := by decide +kernel
theorem dX2_easter_44 : decode cX2_easter 44 = .ok (.imul, 1) := by decide +kernel
theorem dX2_easter_45 : decode cX2_easter 45 = .ok (.bipush 13, 2) := by decide +kernel
theorem dX2_easter_47 : decode cX2_easter 47 = .ok (.iadd, 1) := by decide +kernel
theorem dX2_easter_48 : decode cX2_easter 48 = .ok (.bipush 25, 2) := by decide +kernel
theorem dX2_easter_50 : decode cX2_easter 50 = .ok (.idiv, 1) := by decide +kernel
theorem dX2_easter_51 : decode cX2_easter 51 = .ok (.isub, 1) := by decide +kernel
theorem dX2_easter_52 : decode cX2_easter 52 = .ok (.bipush 19, 2) := by decide +kernel
theorem dX2_easter_54 : decode cX2_easter 54 = .ok (.iload_n 2, 1) := by decide +kernel
theorem dX2_easter_55 : decode cX2_easter 55 = .ok (.imul, 1) := by decide +kernel
theorem dX2_easter_56 : decode cX2_easter 56 = .ok (.iadd, 1) := by decide +kernel
theorem dX2_easter_57 : decode cX2_easter 57 = .ok (.bipush 15, 2) := by decide +kernel
theorem dX2_easter_59 : decode cX2_easter 59 = .ok (.iadd, 1) := by decide +kernel
theorem dX2_easter_60 : decode cX2_easter 60 = .ok (.bipush 30, 2) := by decide +kernel
theorem dX2_easter_62 : decode cX2_easter 62 = .ok (.irem, 1) := by decide +kernel
theorem dX2_easter_63 : decode cX2_easter 63 = .ok (.istore 4, 2) := by decide +kernel
theorem dX2_easter_65 : decode cX2_easter 65 = .ok (.iload 4, 2) := by decide +kernel
theorem dX2_easter_67 : decode cX2_easter 67 = .ok (.iload 4, 2) := by decide +kernel
theorem dX2_easter_69 : decode cX2_easter 69 = .ok (.bipush 28, 2) := by decide +kernel
theorem dX2_easter_71 : decode cX2_easter 71 = .ok (.idiv, 1) := by decide +kernel
theorem dX2_easter_72 : decode cX2_easter 72 = .ok (.iconst 1, 1) := by decide +kernel
theorem dX2_easter_73 : decode cX2_easter 73 = .ok (.iload 4, 2) := by decide +kernel
theorem dX2_easter_75 : decode cX2_easter 75 = .ok (.bipush 28, 2) := by decide +kernel
theorem dX2_easter_77 : decode cX2_easter 77 = .ok (.idiv, 1) := by decide +kernel
theorem dX2_easter_78 : decode cX2_easter 78 = .ok (.bipush 29, 2) := by decide +kernel
theorem dX2_easter_80 : decode cX2_easter 80 = .ok (.iload 4, 2) := by decide +kernel
theorem dX2_easter_82 : decode cX2_easter 82 = .ok (.iconst 1, 1) := by decide +kernel
theorem dX2_easter_83 : decode cX2_easter 83 = .ok (.iadd, 1) := by decide +kernel
theorem dX2_easter_84 : decode cX2_easter 84 = .ok (.idiv, 1) := by decide +kernel
theorem dX2_easter_85 : decode cX2_easter 85 = .ok (.imul, 1) := by decide +kernel
theorem dX2_easter_86 : decode cX2_easter 86 = .ok (.bipush 21, 2) := by decide +kernel
theorem dX2_easter_88 : decode cX2_easter 88 = .ok (.iload_n 2, 1) := by decide +kernel
theorem dX2_easter_89 : decode cX2_easter 89 = .ok (.isub, 1) := by decide +kernel
theorem dX2_easter_90 : decode cX2_easter 90 = .ok (.bipush 11, 2) := by decide +kernel
theorem dX2_easter_92 : decode cX2_easter 92 = .ok (.idiv, 1) := by decide +kernel
theorem dX2_easter_93 : decode cX2_easter 93 = .ok (.imul, 1) := by decide +kernel
theorem dX2_easter_94 : decode cX2_easter 94 = .ok (.isub, 1) := by decide +kernel
theorem dX2_easter_95 : decode cX2_easter 95 = .ok (.imul, 1) := by decide +kernel
theorem dX2_easter_96 : decode cX2_easter 96 = .ok (.isub, 1) := by decide +kernel
theorem dX2_easter_97 : decode cX2_easter 97 = .ok (.istore 5, 2) := by decide +kernel
theorem dX2_easter_99 : decode cX2_easter 99 = .ok (.iload_n 1, 1) := by decide +kernel
theorem dX2_easter_100 : decode cX2_easter 100 = .ok (.iload_n 1, 1) := by decide +kernel
theorem dX2_easter_101 : decode cX2_easter 101 = .ok (.iconst 4, 1) := by decide +kernel
theorem dX2_easter_102 : decode cX2_easter 102 = .ok (.idiv, 1) := by decide +kernel
theorem dX2_easter_103 : decode cX2_easter 103 = .ok (.iadd, 1) := by decide +kernel
theorem dX2_easter_104 : decode cX2_easter 104 = .ok (.iload 5, 2) := by decide +kernel
theorem dX2_easter_106 : decode cX2_easter 106 = .ok (.iadd, 1) := by decide +kernel
theorem dX2_easter_107 : decode cX2_easter 107 = .ok (.iconst 2, 1) := by decide +kernel
theorem dX2_easter_108 : decode cX2_easter 108 = .ok (.iadd, 1) := by decide +kernel
theorem dX2_easter_109 : decode cX2_easter 109 = .ok (.iload_n 3, 1) := by decide +kernel
theorem dX2_easter_110 : decode cX2_easter 110 = .ok (.isub, 1) := by decide +kernel
theorem dX2_easter_111 : decode cX2_easter 111 = .ok (.iload_n 3, 1) := by decide +kernel
theorem dX2_easter_112 : decode cX2_easter 112 = .ok (.iconst 4, 1) := by decide +kernel
theorem dX2_easter_113 : decode cX2_easter 113 = .ok (.idiv, 1) := by decide +kernel
theorem dX2_easter_114 : decode cX2_easter 114 = .ok (.iadd, 1) := by decide +kernel
theorem dX2_easter_115 : decode cX2_easter 115 = .ok (.bipush 7, 2) := by decide +kernel
theorem dX2_easter_117 : decode cX2_easter 117 = .ok (.irem, 1) := by decide +kernel
theorem dX2_easter_118 : decode cX2_easter 118 = .ok (.istore 6, 2) := by decide +kernel
theorem dX2_easter_120 : decode cX2_easter 120 = .ok (.iconst 1, 1) := by decide +kernel
theorem dX2_easter_121 : decode cX2_easter 121 = .ok (.iload_n 1, 1) := by decide +kernel
theorem dX2_easter_122 : decode cX2_easter 122 = .ok (.iconst 3, 1) := by decide +kernel
theorem dX2_easter_123 : decode cX2_easter 123 = .ok (.bipush 28, 2) := by decide +kernel
theorem dX2_easter_125 : decode cX2_easter 125 = .ok (.invokestatic 91, 3) := by decide +kernel
theorem dX2_easter_128 : decode cX2_easter 128 = .ok (.iload 5, 2) := by decide +kernel
theorem dX2_easter_130 : decode cX2_easter 130 = .ok (.i2l, 1) := by decide +kernel
theorem dX2_easter_131 : decode cX2_easter 131 = .ok (.ladd, 1) := by decide +kernel
theorem dX2_easter_132 : decode cX2_easter 132 = .ok (.iload 6, 2) := by decide +kernel
theorem dX2_easter_134 : decode cX2_easter 134 = .ok (.i2l, 1) := by decide +kernel
theorem dX2_easter_135 : decode cX2_easter 135 = .ok (.lsub, 1) := by decide +kernel
theorem dX2_easter_136 : decode cX2_easter 136 = .ok (.lreturn, 1) := by decide +kernel
theorem dX2_red_0 : decode cX2_red 0 = .ok (.dload_n 0, 1) := by decide +kernel
theorem dX2_red_1 : decode cX2_red 1 = .ok (.ldc2_w 114, 3) := by decide +kernel
theorem dX2_red_4 : decode cX2_red 4 = .ok (.ddiv, 1) := by decide +kernel
theorem dX2_red_5 : decode cX2_red 5 = .ok (.d2l, 1) := by decide +kernel
theorem dX2_red_6 : decode cX2_red 6 = .ok (.l2d, 1) := by decide +kernel
theorem dX2_red_7 : decode cX2_red 7 = .ok (.dstore_n 2, 1) := by decide +kernel
theorem dX2_red_8 : decode cX2_red 8 = .ok (.dload_n 0, 1) := by decide +kernel
theorem dX2_red_9 : decode cX2_red 9 = .ok (.ldc2_w 114, 3) := by decide +kernel
theorem dX2_red_12 : decode cX2_red 12 = .ok (.dload_n 2, 1) := by decide +kernel
theorem dX2_red_13 : decode cX2_red 13 = .ok (.dmul, 1) := by decide +kernel
theorem dX2_red_14 : decode cX2_red 14 = .ok (.dsub, 1) := by decide +kernel
theorem dX2_red_15 : decode cX2_red 15 = .ok (.dstore 4, 2) := by decide +kernel
theorem dX2_red_17 : decode cX2_red 17 = .ok (.dload 4, 2) := by decide +kernel
theorem dX2_red_19 : decode cX2_red 19 = .ok (.dconst 0, 1) := by decide +kernel
theorem dX2_red_20 : decode cX2_red 20 = .ok (.dcmp .g, 1) := by decide +kernel
theorem dX2_red_21 : decode cX2_red 21 = .ok (.ifCond .ge 12, 3) := by decide +kernel
theorem dX2_red_24 : decode cX2_red 24 = .ok (.dload 4, 2) := by decide +kernel
theorem dX2_red_26 : decode cX2_red 26 = .ok (.ldc2_w 114, 3) := by decide +kernel
theorem dX2_red_29 : decode cX2_red 29 = .ok (.dadd, 1) := by decide +kernel
theorem dX2_red_30 : decode cX2_red 30 = .ok (.goto 5, 3) := by decide +kernel
theorem dX2_red_33 : decode cX2_red 33 = .ok (.dload 4, 2) := by decide +kernel
theorem dX2_red_35 : decode cX2_red 35 = .ok (.dstore 4, 2) := by decide +kernel
theorem dX2_red_37 : decode cX2_red 37 = .ok (.dload 4, 2) := by decide +kernel
theorem dX2_red_39 : decode cX2_red 39 = .ok (.ldc2_w 114, 3) := by decide +kernel
theorem dX2_red_42 : decode cX2_red 42 = .ok (.dcmp .l, 1) := by decide +kernel
theorem dX2_red_43 : decode cX2_red 43 = .ok (.ifCond .ne 7, 3) := by decide +kernel
theorem dX2_red_46 : decode cX2_red 46 = .ok (.dconst 0, 1) := by decide +kernel
theorem dX2_red_47 : decode cX2_red 47 = .ok (.goto 5, 3) := by decide +kernel
theorem dX2_red_50 : decode cX2_red 50 = .ok (.dload 4, 2) := by decide +kernel
theorem dX2_red_52 : decode cX2_red 52 = .ok (.dreturn, 1) := by decide +kernel
set_option maxRecDepth 20000 in
theorem ggX2_wave_X2_red : GoodIn wsX2_wave wsX2_red := goodIn_r _ [18, 19] (by decide +kernel) (by decide +kernel)
set_option maxRecDepth 20000 in
theorem gX2_wave_X2_red : GoodIn wsX2_wave (va_wsS RX2 116 yX2_red wsX2_red) := goodIn_app (goodIn_of _ (by decide +kernel)) ggX2_wave_X2_red
theorem dX2_wave_0 : decode cX2_wave 0 = .ok (.dload_n 0, 1) := by decide +kernel
theorem dX2_wave_1 : decode cX2_wave 1 = .ok (.invokestatic 116, 3) := by decide +kernel
theorem dX2_wave_4 : decode cX2_wave 4 = .ok (.dstore_n 3, 1) := by decide +kernel
theorem dX2_wave_5 : decode cX2_wave 5 = .ok (.dload_n 3, 1) := by decide +kernel
theorem dX2_wave_6 : decode cX2_wave 6 = .ok (.ldc2_w 120, 3) := by decide +kernel
theorem dX2_wave_9 : decode cX2_wave 9 = .ok (.ddiv, 1) := by decide +kernel
theorem dX2_wave_10 : decode cX2_wave 10 = .ok (.ldc2_w 122, 3) := by decide +kernel
theorem dX2_wave_13 : decode cX2_wave 13 = .ok (.dadd, 1) := by decide +kernel
theorem dX2_wave_14 : decode cX2_wave 14 = .ok (.d2l, 1) := by decide +kernel
theorem dX2_wave_15 : decode cX2_wave 15 = .ok (.lstore 5, 2) := by decide +kernel
theorem dX2_wave_17 : decode cX2_wave 17 = .ok (.dload_n 3, 1) := by decide +kernel
theorem dX2_wave_18 : decode cX2_wave 18 = .ok (.ldc2_w 120, 3) := by decide +kernel
theorem dX2_wave_21 : decode cX2_wave 21 = .ok (.lload 5, 2) := by decide +kernel
theorem dX2_wave_23 : decode cX2_wave 23 = .ok (.l2d, 1) := by decide +kernel
theorem dX2_wave_24 : decode cX2_wave 24 = .ok (.dmul, 1) := by decide +kernel
theorem dX2_wave_25 : decode cX2_wave 25 = .ok (.dsub, 1) := by decide +kernel
theorem dX2_wave_26 : decode cX2_wave 26 = .ok (.ldc2_w 124, 3) := by decide +kernel
theorem dX2_wave_29 : decode cX2_wave 29 = .ok (.dmul, 1) := by decide +kernel
theorem dX2_wave_30 : decode cX2_wave 30 = .ok (.dstore 7, 2) := by decide +kernel
theorem dX2_wave_32 : decode cX2_wave 32 = .ok (.dload 7, 2) := by decide +kernel
theorem dX2_wave_34 : decode cX2_wave 34 = .ok (.dload 7, 2) := by decide +kernel
theorem dX2_wave_36 : decode cX2_wave 36 = .ok (.dmul, 1) := by decide +kernel
theorem dX2_wave_37 : decode cX2_wave 37 = .ok (.dstore 9, 2) := by decide +kernel
theorem dX2_wave_39 : decode cX2_wave 39 = .ok (.dload 7, 2) := by decide +kernel
theorem dX2_wave_41 : decode cX2_wave 41 = .ok (.dconst 1, 1) := by decide +kernel
theorem dX2_wave_42 : decode cX2_wave 42 = .ok (.dload 9, 2) := by decide +kernel
theorem dX2_wave_44 : decode cX2_wave 44 = .ok (.ldc2_w 126, 3) := by decide +kernel
theorem dX2_wave_47 : decode cX2_wave 47 = .ok (.dload 9, 2) := by decide +kernel
theorem dX2_wave_49 : decode cX2_wave 49 = .ok (.ldc2_w 128, 3) := by decide +kernel
theorem dX2_wave_52 : decode cX2_wave 52 = .ok (.dload 9, 2) := by decide +kernel
theorem dX2_wave_54 : decode cX2_wave 54 = .ok (.ldc2_w 130, 3) := by decide +kernel
theorem dX2_wave_57 : decode cX2_wave 57 = .ok (.dload 9, 2) := by decide +kernel
theorem dX2_wave_59 : decode cX2_wave 59 = .ok (.ldc2_w 132, 3) := by decide +kernel
theorem dX2_wave_62 : decode cX2_wave 62 = .ok (.dmul, 1) := by decide +kernel
theorem dX2_wave_63 : decode cX2_wave 63 = .ok (.dadd, 1) := by decide +kernel
theorem dX2_wave_64 : decode cX2_wave 64 = .ok (.dmul, 1) := by decide +kernel
theorem dX2_wave_65 : decode cX2_wave 65 = .ok (.dadd, 1) := by decide +kernel
theorem dX2_wave_66 : decode cX2_wave 66 = .ok (.dmul, 1) := by decide +kernel
theorem dX2_wave_67 : decode cX2_wave 67 = .ok (.dadd, 1) := by decide +kernel
theorem dX2_wave_68 : decode cX2_wave 68 = .ok (.dmul, 1) := by decide +kernel
theorem dX2_wave_69 : decode cX2_wave 69 = .ok (.dadd, 1) := by decide +kernel
theorem dX2_wave_70 : decode cX2_wave 70 = .ok (.dmul, 1) := by decide +kernel
theorem dX2_wave_71 : decode cX2_wave 71 = .ok (.dstore 11, 2) := by decide +kernel
theorem dX2_wave_73 : decode cX2_wave 73 = .ok (.dconst 1, 1) := by decide +kernel
theorem dX2_wave_74 : decode cX2_wave 74 = .ok (.dload 9, 2) := by decide +kernel
theorem dX2_wave_76 : decode cX2_wave 76 = .ok (.ldc2_w 134, 3) := by decide +kernel
theorem dX2_wave_79 : decode cX2_wave 79 = .ok (.dload 9, 2) := by decide +kernel
theorem dX2_wave_81 : decode cX2_wave 81 = .ok (.ldc2_w 136, 3) := by decide +kernel
theorem dX2_wave_84 : decode cX2_wave 84 = .ok (.dload 9, 2) := by decide +kernel
theorem dX2_wave_86 : decode cX2_wave 86 = .ok (.ldc2_w 138, 3) := by decide +kernel
theorem dX2_wave_89 : decode cX2_wave 89 = .ok (.dload 9, 2) := by decide +kernel
theorem dX2_wave_91 : decode cX2_wave 91 = .ok (.ldc2_w 140, 3) := by decide +kernel
theorem dX2_wave_94 : decode cX2_wave 94 = .ok (.dload 9, 2) := by decide +kernel
theorem dX2_wave_96 : decode cX2_wave 96 = .ok (.ldc2_w 142, 3) := by decide +kernel
theorem dX2_wave_99 : decode cX2_wave 99 = .ok (.dmul, 1) := by decide +kernel
theorem dX2_wave_100 : decode cX2_wave 100 = .ok (.dadd, 1) := by decide +kernel
theorem dX2_wave_101 : decode cX2_wave 101 = .ok (.dmul, 1) := by decide +kernel
theorem dX2_wave_102 : decode cX2_wave 102 = .ok (.dadd, 1) := by decide +kernel
theorem dX2_wave_103 : decode cX2_wave 103 = .ok (.dmul, 1) := by decide +kernel
theorem dX2_wave_104 : decode cX2_wave 104 = .ok (.dadd, 1) := by decide +kernel
theorem dX2_wave_105 : decode cX2_wave 105 = .ok (.dmul, 1) := by decide +kernel
theorem dX2_wave_106 : decode cX2_wave 106 = .ok (.dadd, 1) := by decide +kernel
theorem dX2_wave_107 : decode cX2_wave 107 = .ok (.dmul, 1) := by decide +kernel
theorem dX2_wave_108 : decode cX2_wave 108 = .ok (.dadd, 1) := by decide +kernel
theorem dX2_wave_109 : decode cX2_wave 109 = .ok (.dstore 13, 2) := by decide +kernel
theorem dX2_wave_111 : decode cX2_wave 111 = .ok (.lload 5, 2) := by decide +kernel
theorem dX2_wave_113 : decode cX2_wave 113 = .ok (.ldc2_w 36, 3) := by decide +kernel
theorem dX2_wave_116 : decode cX2_wave 116 = .ok (.lrem, 1) := by decide +kernel
theorem dX2_wave_117 : decode cX2_wave 117 = .ok (.lstore 15, 2) := by decide +kernel
theorem dX2_wave_119 : decode cX2_wave 119 = .ok (.iload_n 2, 1) := by decide +kernel
theorem dX2_wave_120 : decode cX2_wave 120 = .ok (.ifCond .eq 46, 3) := by decide +kernel
theorem dX2_wave_123 : decode cX2_wave 123 = .ok (.lload 15, 2) := by decide +kernel
theorem dX2_wave_125 : decode cX2_wave 125 = .ok (.lconst 0, 1) := by decide +kernel
theorem dX2_wave_126 : decode cX2_wave 126 = .ok (.lcmp, 1) := by decide +kernel
theorem dX2_wave_127 : decode cX2_wave 127 = .ok (.ifCond .ne 8, 3) := by decide +kernel
theorem dX2_wave_130 : decode cX2_wave 130 = .ok (.dload 11, 2) := by decide +kernel
theorem dX2_wave_132 : decode cX2_wave 132 = .ok (.goto 33, 3) := by decide +kernel
theorem dX2_wave_135 : decode cX2_wave 135 = .ok (.lload 15, 2) := by decide +kernel
theorem dX2_wave_137 : decode cX2_wave 137 = .ok (.lconst 1, 1) := by decide +kernel
theorem dX2_wave_138 : decode cX2_wave 138 = .ok (.lcmp, 1) := by decide +kernel
theorem dX2_wave_139 : decode cX2_wave 139 = .ok (.ifCond .ne 8, 3) := by decide +kernel
theorem dX2_wave_142 : decode cX2_wave 142 = .ok (.dload 13, 2) := by decide +kernel
theorem dX2_wave_144 : decode cX2_wave 144 = .ok (.goto 21, 3) := by decide +kernel
theorem dX2_wave_147 : decode cX2_wave 147 = .ok (.lload 15, 2) := by decide +kernel
theorem dX2_wave_149 : decode cX2_wave 149 = .ok (.ldc2_w 144, 3) := by decide +kernel
theorem dX2_wave_152 : decode cX2_wave 152 = .ok (.lcmp, 1) := by decide +kernel
theorem dX2_wave_153 : decode cX2_wave 153 = .ok (.ifCond .ne 9, 3) := by decide +kernel
theorem dX2_wave_156 : decode cX2_wave 156 = .ok (.dload 11, 2) := by decide +kernel
theorem dX2_wave_158 : decode cX2_wave 158 = .ok (.dneg, 1) := by decide +kernel
theorem dX2_wave_159 : decode cX2_wave 159 = .ok (.goto 6, 3) := by decide +kernel
theorem dX2_wave_162 : decode cX2_wave 162 = .ok (.dload 13, 2) := by decide +kernel
theorem dX2_wave_164 : decode cX2_wave 164 = .ok (.dneg, 1) := by decide +kernel
theorem dX2_wave_165 : decode cX2_wave 165 = .ok (.dreturn, 1) := by decide +kernel
theorem dX2_wave_166 : decode cX2_wave 166 = .ok (.lload 15, 2) := by decide +kernel
theorem dX2_wave_168 : decode cX2_wave 168 = .ok (.lconst 0, 1) := by decide +kernel
theorem dX2_wave_169 : decode cX2_wave 169 = .ok (.lcmp, 1) := by decide +kernel
theorem dX2_wave_170 : decode cX2_wave 170 = .ok (.ifCond .ne 8, 3) := by decide +kernel
theorem dX2_wave_173 : decode cX2_wave 173 = .ok (.dload 13, 2) := by decide +kernel
theorem dX2_wave_175 : decode cX2_wave 175 = .ok (.goto 33, 3) := by decide +kernel
theorem dX2_wave_178 : decode cX2_wave 178 = .ok (.lload 15, 2) := by decide +kernel
theorem dX2_wave_180 : decode cX2_wave 180 = .ok (.lconst 1, 1) := by decide +kernel
theorem dX2_wave_181 : decode cX2_wave 181 = .ok (.lcmp, 1) := by decide +kernel
theorem dX2_wave_182 : decode cX2_wave 182 = .ok (.ifCond .ne 9, 3) := by decide +kernel
theorem dX2_wave_185 : decode cX2_wave 185 = .ok (.dload 11, 2) := by decide +kernel
theorem dX2_wave_187 : decode cX2_wave 187 = .ok (.dneg, 1) := by decide +kernel
theorem dX2_wave_188 : decode cX2_wave 188 = .ok (.goto 20, 3) := by decide +kernel
theorem dX2_wave_191 : decode cX2_wave 191 = .ok (.lload 15, 2) := by decide +kernel
theorem dX2_wave_193 : decode cX2_wave 193 = .ok (.ldc2_w 144, 3) := by decide +kernel
theorem dX2_wave_196 : decode cX2_wave 196 = .ok (.lcmp, 1) := by decide +kernel
theorem dX2_wave_197 : decode cX2_wave 197 = .ok (.ifCond .ne 9, 3) := by decide +kernel
theorem dX2_wave_200 : decode cX2_wave 200 = .ok (.dload 13, 2) := by decide +kernel
theorem dX2_wave_202 : decode cX2_wave 202 = .ok (.dneg, 1) := by decide +kernel
theorem dX2_wave_203 : decode cX2_wave 203 = .ok (.goto 5, 3) := by decide +kernel
theorem dX2_wave_206 : decode cX2_wave 206 = .ok (.dload 11, 2) := by decide +kernel
theorem dX2_wave_208 : decode cX2_wave 208 = .ok (.dreturn, 1) := by decide +kernel
set_option maxRecDepth 20000 in
theorem ggX2_sine_X2_wave : GoodIn wsX2_sine wsX2_wave := goodIn_r _ [4, 5, 6, 7, 8, 9, 10, 11, 12, 13, 14, 15, 16, 17, 18, 19, 20, 3, 21, 22] (by decide +kernel) (by decide +kernel)
set_option maxRecDepth 20000 in
theorem gX2_sine_X2_wave : GoodIn wsX2_sine (va_wsS RX2 146 yX2_wave wsX2_wave) := goodIn_app (goodIn_of _ (by decide +kernel)) ggX2_sine_X2_wave
theorem dX2_sine_0 : decode cX2_sine 0 = .ok (.dload_n 0, 1) := by decide +kernel
theorem dX2_sine_1 : decode cX2_sine 1 = .ok (.iconst 1, 1) := by decide +kernel
theorem dX2_sine_2 : decode cX2_sine 2 = .ok (.invokestatic 146, 3) := by decide +kernel
theorem dX2_sine_5 : decode cX2_sine 5 = .ok (.dreturn, 1) := by decide +kernel
set_option maxRecDepth 20000 in
theorem ggX2_cosine_X2_wave : GoodIn wsX2_cosine wsX2_wave := goodIn_r _ [4, 5, 6, 7, 8, 9, 10, 11, 12, 13, 14, 15, 16, 17, 18, 19, 20, 3, 21, 22] (by decide +kernel) (by decide +kernel)
set_option maxRecDepth 20000 in
theorem gX2_cosine_X2_wave : GoodIn wsX2_cosine (va_wsS RX2 146 yX2_wave wsX2_wave) := goodIn_app (goodIn_of _ (by decide +kernel)) ggX2_cosine_X2_wave
theorem dX2_cosine_0 : decode cX2_cosine 0 = .ok (.dload_n 0, 1) := by decide +kernel
theorem dX2_cosine_1 : decode cX2_cosine 1 = .ok (.iconst 0, 1) := by decide +kernel
theorem dX2_cosine_2 : decode cX2_cosine 2 = .ok (.invokestatic 146, 3) := by decide +kernel
theorem dX2_cosine_5 : decode cX2_cosine 5 = .ok (.dreturn, 1) := by decide +kernel
set_option maxRecDepth 20000 in
theorem ggX2_turned_X2_red : GoodIn wsX2_turned wsX2_red := goodIn_r _ [7, 3] (by decide +kernel) (by decide +kernel)
set_option maxRecDepth 20000 in
theorem gX2_turned_X2_red : GoodIn wsX2_turned (va_wsS RX2 116 yX2_red wsX2_red) := goodIn_app (goodIn_of _ (by decide +kernel)) ggX2_turned_X2_red
theorem dX2_turned_0 : decode cX2_turned 0 = .ok (.dload_n 0, 1) := by decide +kernel
theorem dX2_turned_1 : decode cX2_turned 1 = .ok (.d2l, 1) := by decide +kernel
theorem dX2_turned_2 : decode cX2_turned 2 = .ok (.l2d, 1) := by decide +kernel
theorem dX2_turned_3 : decode cX2_turned 3 = .ok (.dstore_n 2, 1) := by decide +kernel
theorem dX2_turned_4 : decode cX2_turned 4 = .ok (.ldc2_w 150, 3) := by decide +kernel
theorem dX2_turned_7 : decode cX2_turned 7 = .ok (.ldc2_w 152, 3) := by decide +kernel
theorem dX2_turned_10 : decode cX2_turned 10 = .ok (.dload_n 0, 1) := by decide +kernel
theorem dX2_turned_11 : decode cX2_turned 11 = .ok (.dmul, 1) := by decide +kernel
theorem dX2_turned_12 : decode cX2_turned 12 = .ok (.dadd, 1) := by decide +kernel
theorem dX2_turned_13 : decode cX2_turned 13 = .ok (.invokestatic 116, 3) := by decide +kernel
theorem dX2_turned_16 : decode cX2_turned 16 = .ok (.ldc2_w 114, 3) := by decide +kernel
theorem dX2_turned_19 : decode cX2_turned 19 = .ok (.dload_n 0, 1) := by decide +kernel
theorem dX2_turned_20 : decode cX2_turned 20 = .ok (.dload_n 2, 1) := by decide +kernel
theorem dX2_turned_21 : decode cX2_turned 21 = .ok (.dsub, 1) := by decide +kernel
theorem dX2_turned_22 : decode cX2_turned 22 = .ok (.dmul, 1) := by decide +kernel
theorem dX2_turned_23 : decode cX2_turned 23 = .ok (.dadd, 1) := by decide +kernel
theorem dX2_turned_24 : decode cX2_turned 24 = .ok (.invokestatic 116, 3) := by decide +kernel
theorem dX2_turned_27 : decode cX2_turned 27 = .ok (.dreturn, 1) := by decide +kernel
set_option maxRecDepth 20000 in
theorem ggX2_orbit_X2_fail : GoodIn wsX2_orbit wsX2_fail := goodIn_r _ [13, 1, 17, 18, 19, 20, 21, 22, 23, 24, 25, 26, 27, 28, 29] (by decide +kernel) (by decide +kernel)
set_option maxRecDepth 20000 in
theorem gX2_orbit_X2_fail : GoodIn wsX2_orbit (wsV RX2 77 RX2 yX2_fail wsX2_fail) := goodIn_app (goodIn_of _ (by decide +kernel)) ggX2_orbit_X2_fail
set_option maxRecDepth 20000 in
theorem ggX2_orbit_X2_within : GoodIn wsX2_orbit wsX2_within := goodIn_r _ [16] (by decide +kernel) (by decide +kernel)
set_option maxRecDepth 20000 in
theorem gX2_orbit_X2_within : GoodIn wsX2_orbit (va_wsS RX2 156 yX2_within wsX2_within) := goodIn_app (goodIn_of _ (by decide +kernel)) ggX2_orbit_X2_within
theorem dX2_orbit_0 : decode cX2_orbit 0 = .ok (.aload_n 0, 1) := by decide +kernel
theorem dX2_orbit_1 : decode cX2_orbit 1 = .ok (.iconst 0, 1) := by decide +kernel
theorem dX2_orbit_2 : decode cX2_orbit 2 = .ok (.putfield 30, 3) := by decide +kernel
theorem dX2_orbit_5 : decode cX2_orbit 5 = .ok (.iload_n 1, 1) := by decide +kernel
theorem dX2_orbit_6 : decode cX2_orbit 6 = .ok (.ifCond .lt 8, 3) := by decide +kernel
theorem dX2_orbit_9 : decode cX2_orbit 9 = .ok (.iload_n 1, 1) := by decide +kernel
theorem dX2_orbit_10 : decode cX2_orbit 10 = .ok (.iconst 3, 1) := by decide +kernel
theorem dX2_orbit_11 : decode cX2_orbit 11 = .ok (.if_icmp .le 17, 3) := by decide +kernel
theorem dX2_orbit_14 : decode cX2_orbit 14 = .ok (.aload_n 0, 1) := by decide +kernel
theorem dX2_orbit_15 : decode cX2_orbit 15 = .ok (.iconst 1, 1) := by decide +kernel
theorem dX2_orbit_16 : decode cX2_orbit 16 = .ok (.invokevirtual 77, 3) := by decide +kernel
theorem dX2_orbit_19 : decode cX2_orbit 19 = .ok (.ifCond .le 7, 3) := by decide +kernel
theorem dX2_orbit_22 : decode cX2_orbit 22 = .ok (.iconst 1, 1) := by decide +kernel
theorem dX2_orbit_23 : decode cX2_orbit 23 = .ok (.goto 4, 3) := by decide +kernel
theorem dX2_orbit_26 : decode cX2_orbit 26 = .ok (.iconst 0, 1) := by decide +kernel
theorem dX2_orbit_27 : decode cX2_orbit 27 = .ok (.ireturn, 1) := by decide +kernel
theorem dX2_orbit_28 : decode cX2_orbit 28 = .ok (.dload_n 2, 1) := by decide +kernel
theorem dX2_orbit_29 : decode cX2_orbit 29 = .ok (.ldc2_w 154, 3) := by decide +kernel
theorem dX2_orbit_32 : decode cX2_orbit 32 = .ok (.ldc2_w 114, 3) := by decide +kernel
theorem dX2_orbit_35 : decode cX2_orbit 35 = .ok (.invokestatic 156, 3) := by decide +kernel
theorem dX2_orbit_38 : decode cX2_orbit 38 = .ok (.ifCond .eq 43, 3) := by decide +kernel
theorem dX2_orbit_41 : decode cX2_orbit 41 = .ok (.dload 8, 2) := by decide +kernel
theorem dX2_orbit_43 : decode cX2_orbit 43 = .ok (.ldc2_w 154, 3) := by decide +kernel
theorem dX2_orbit_46 : decode cX2_orbit 46 = .ok (.ldc2_w 114, 3) := by decide +kernel
theorem dX2_orbit_49 : decode cX2_orbit 49 = .ok (.invokestatic 156, 3) := by decide +kernel
theorem dX2_orbit_52 : decode cX2_orbit 52 = .ok (.ifCond .eq 29, 3) := by decide +kernel
theorem dX2_orbit_55 : decode cX2_orbit 55 = .ok (.dload 4, 2) := by decide +kernel
theorem dX2_orbit_57 : decode cX2_orbit 57 = .ok (.ldc2_w 160, 3) := by decide +kernel
theorem dX2_orbit_60 : decode cX2_orbit 60 = .ok (.ldc2_w 162, 3) := by decide +kernel
theorem dX2_orbit_63 : decode cX2_orbit 63 = .ok (.invokestatic 156, 3) := by decide +kernel
theorem dX2_orbit_66 : decode cX2_orbit 66 = .ok (.ifCond .eq 15, 3) := by decide +kernel
theorem dX2_orbit_69 : decode cX2_orbit 69 = .ok (.dload 6, 2) := by decide +kernel
theorem dX2_orbit_71 : decode cX2_orbit 71 = .ok (.dconst 0, 1) := by decide +kernel
theorem dX2_orbit_72 : decode cX2_orbit 72 = .ok (.ldc2_w 164, 3) := by decide +kernel
theorem dX2_orbit_75 : decode cX2_orbit 75 = .ok (.invokestatic 156, 3) := by decide +kernel
theorem dX2_orbit_78 : decode cX2_orbit 78 = .ok (.ifCond .ne 17, 3) := by decide +kernel
theorem dX2_orbit_81 : decode cX2_orbit 81 = .ok (.aload_n 0, 1) := by decide +kernel
theorem dX2_orbit_82 : decode cX2_orbit 82 = .ok (.iconst 2, 1) := by decide +kernel
theorem dX2_orbit_83 : decode cX2_orbit 83 = .ok (.invokevirtual 77, 3) := by decide +kernel
theorem dX2_orbit_86 : decode cX2_orbit 86 = .ok (.ifCond .le 7, 3) := by decide +kernel
theorem dX2_orbit_89 : decode cX2_orbit 89 = .ok (.iconst 1, 1) := by decide +kernel
theorem dX2_orbit_90 : decode cX2_orbit 90 = .ok (.goto 4, 3) := by decide +kernel
theorem dX2_orbit_93 : decode cX2_orbit 93 = .ok (.iconst 0, 1) := by decide +kernel
theorem dX2_orbit_94 : decode cX2_orbit 94 = .ok (.ireturn, 1) := by decide +kernel
theorem dX2_orbit_95 : decode cX2_orbit 95 = .ok (.aload_n 0, 1) := by decide +kernel
theorem dX2_orbit_96 : decode cX2_orbit 96 = .ok (.getfield 13, 3) := by decide +kernel
theorem dX2_orbit_99 : decode cX2_orbit 99 = .ok (.iconst 4, 1) := by decide +kernel
theorem dX2_orbit_100 : decode cX2_orbit 100 = .ok (.iload_n 1, 1) := by decide +kernel
theorem dX2_orbit_101 : decode cX2_orbit 101 = .ok (.imul, 1) := by decide +kernel
theorem dX2_orbit_102 : decode cX2_orbit 102 = .ok (.dload_n 2, 1) := by decide +kernel
theorem dX2_orbit_103 : decode cX2_orbit 103 = .ok (.dastore, 1) := by decide +kernel
theorem dX2_orbit_104 : decode cX2_orbit 104 = .ok (.aload_n 0, 1) := by decide +kernel
theorem dX2_orbit_105 : decode cX2_orbit 105 = .ok (.getfield 13, 3) := by decide +kernel
theorem dX2_orbit_108 : decode cX2_orbit 108 = .ok (.iconst 4, 1) := by decide +kernel
theorem dX2_orbit_109 : decode cX2_orbit 109 = .ok (.iload_n 1, 1) := by decide +kernel
theorem dX2_orbit_110 : decode cX2_orbit 110 = .ok (.imul, 1) := by decide +kernel
theorem dX2_orbit_111 : decode cX2_orbit 111 = .ok (.iconst 1, 1) := by decide +kernel
theorem dX2_orbit_112 : decode cX2_orbit 112 = .ok (.iadd, 1) := by decide +kernel
theorem dX2_orbit_113 : decode cX2_orbit 113 = .ok (.dload 4, 2) := by decide +kernel
theorem dX2_orbit_115 : decode cX2_orbit 115 = .ok (.dastore, 1) := by decide +kernel
theorem dX2_orbit_116 : decode cX2_orbit 116 = .ok (.aload_n 0, 1) := by decide +kernel
theorem dX2_orbit_117 : decode cX2_orbit 117 = .ok (.getfield 13, 3) := by decide +kernel
theorem dX2_orbit_120 : decode cX2_orbit 120 = .ok (.iconst 4, 1) := by decide +kernel
theorem dX2_orbit_121 : decode cX2_orbit 121 = .ok (.iload_n 1, 1) := by decide +kernel
theorem dX2_orbit_122 : decode cX2_orbit 122 = .ok (.imul, 1) := by decide +kernel
theorem dX2_orbit_123 : decode cX2_orbit 123 = .ok (.iconst 2, 1) := by decide +kernel
theorem dX2_orbit_124 : decode cX2_orbit 124 = .ok (.iadd, 1) := by decide +kernel
theorem dX2_orbit_125 : decode cX2_orbit 125 = .ok (.dload 6, 2) := by decide +kernel
theorem dX2_orbit_127 : decode cX2_orbit 127 = .ok (.dastore, 1) := by decide +kernel
theorem dX2_orbit_128 : decode cX2_orbit 128 = .ok (.aload_n 0, 1) := by decide +kernel
theorem dX2_orbit_129 : decode cX2_orbit 129 = .ok (.getfield 13, 3) := by decide +kernel
theorem dX2_orbit_132 : decode cX2_orbit 132 = .ok (.iconst 4, 1) := by decide +kernel
theorem dX2_orbit_133 : decode cX2_orbit 133 = .ok (.iload_n 1, 1) := by decide +kernel
theorem dX2_orbit_134 : decode cX2_orbit 134 = .ok (.imul, 1) := by decide +kernel
theorem dX2_orbit_135 : decode cX2_orbit 135 = .ok (.iconst 3, 1) := by decide +kernel
theorem dX2_orbit_136 : decode cX2_orbit 136 = .ok (.iadd, 1) := by decide +kernel
theorem dX2_orbit_137 : decode cX2_orbit 137 = .ok (.dload 8, 2) := by decide +kernel
theorem dX2_orbit_139 : decode cX2_orbit 139 = .ok (.dastore, 1) := by decide +kernel
theorem dX2_orbit_140 : decode cX2_orbit 140 = .ok (.aload_n 0, 1) := by decide +kernel
theorem dX2_orbit_141 : decode cX2_orbit 141 = .ok (.getfield 7, 3) := by decide +kernel
theorem dX2_orbit_144 : decode cX2_orbit 144 = .ok (.iload_n 1, 1) := by decide +kernel
theorem dX2_orbit_145 : decode cX2_orbit 145 = .ok (.baload, 1) := by decide +kernel
theorem dX2_orbit_146 : decode cX2_orbit 146 = .ok (.istore 10, 2) := by decide +kernel
theorem dX2_orbit_148 : decode cX2_orbit 148 = .ok (.aload_n 0, 1) := by decide +kernel
theorem dX2_orbit_149 : decode cX2_orbit 149 = .ok (.getfield 7, 3) := by decide +kernel
theorem dX2_orbit_152 : decode cX2_orbit 152 = .ok (.iload_n 1, 1) := by decide +kernel
theorem dX2_orbit_153 : decode cX2_orbit 153 = .ok (.iconst 1, 1) := by decide +kernel
theorem dX2_orbit_154 : decode cX2_orbit 154 = .ok (.bastore, 1) := by decide +kernel
theorem dX2_orbit_155 : decode cX2_orbit 155 = .ok (.iload 10, 2) := by decide +kernel
theorem dX2_orbit_157 : decode cX2_orbit 157 = .ok (.ifCond .ne 7, 3) := by decide +kernel
theorem dX2_orbit_160 : decode cX2_orbit 160 = .ok (.iconst 1, 1) := by decide +kernel
theorem dX2_orbit_161 : decode cX2_orbit 161 = .ok (.goto 4, 3) := by decide +kernel
theorem dX2_orbit_164 : decode cX2_orbit 164 = .ok (.iconst 0, 1) := by decide +kernel
theorem dX2_orbit_165 : decode cX2_orbit 165 = .ok (.ireturn, 1) := by decide +kernel
theorem dX2_noBody_0 : decode cX2_noBody 0 = .ok (.iload_n 1, 1) := by decide +kernel
theorem dX2_noBody_1 : decode cX2_noBody 1 = .ok (.ifCond .lt 17, 3) := by decide +kernel
theorem dX2_noBody_4 : decode cX2_noBody 4 = .ok (.iload_n 1, 1) := by decide +kernel
theorem dX2_noBody_5 : decode cX2_noBody 5 = .ok (.iconst 3, 1) := by decide +kernel
theorem dX2_noBody_6 : decode cX2_noBody 6 = .ok (.if_icmp .gt 12, 3) := by decide +kernel
theorem dX2_noBody_9 : decode cX2_noBody 9 = .ok (.aload_n 0, 1) := by decide +kernel
theorem dX2_noBody_10 : decode cX2_noBody 10 = .ok (.getfield 7, 3) := by decide +kernel
theorem dX2_noBody_13 : decode cX2_noBody 13 = .ok (.iload_n 1, 1) := by decide +kernel
theorem dX2_noBody_14 : decode cX2_noBody 14 = .ok (.baload, 1) := by decide +kernel
theorem dX2_noBody_15 : decode cX2_noBody 15 = .ok (.ifCond .ne 7, 3) := by decide +kernel
theorem dX2_noBody_18 : decode cX2_noBody 18 = .ok (.iconst 1, 1) := by decide +kernel
theorem dX2_noBody_19 : decode cX2_noBody 19 = .ok (.goto 4, 3) := by decide +kernel
theorem dX2_noBody_22 : decode cX2_noBody 22 = .ok (.iconst 0, 1) := by decide +kernel
theorem dX2_noBody_23 : decode cX2_noBody 23 = .ok (.ireturn, 1) := by decide +kernel
set_option maxRecDepth 20000 in
theorem ggX2_term_X2_noBody : GoodIn wsX2_term wsX2_noBody := goodIn_r _ [15, 16, 24, 25, 26, 27, 28, 29, 30, 31, 32, 33, 34, 35, 36] (by decide +kernel) (by decide +kernel)
set_option maxRecDepth 20000 in
theorem gX2_term_X2_noBody : GoodIn wsX2_term (wsV RX2 166 RX2 yX2_noBody wsX2_noBody) := goodIn_app (goodIn_of _ (by decide +kernel)) ggX2_term_X2_noBody
set_option maxRecDepth 20000 in
theorem ggX2_term_X2_fail : GoodIn wsX2_term wsX2_fail := goodIn_r _ [20, 1, 24, 25, 26, 27, 28, 29, 30, 31, 32, 33, 34, 35, 36] (by decide +kernel) (by decide +kernel)
set_option maxRecDepth 20000 in
theorem gX2_term_X2_fail : GoodIn wsX2_term (wsV RX2 77 RX2 yX2_fail wsX2_fail) := goodIn_app (goodIn_of _ (by decide +kernel)) ggX2_term_X2_fail
set_option maxRecDepth 20000 in
theorem ggX2_term_X2_within : GoodIn wsX2_term wsX2_within := goodIn_r _ [23] (by decide +kernel) (by decide +kernel)
set_option maxRecDepth 20000 in
theorem gX2_term_X2_within : GoodIn wsX2_term (va_wsS RX2 156 yX2_within wsX2_within) := goodIn_app (goodIn_of _ (by decide +kernel)) ggX2_term_X2_within
theorem dX2_term_0 : decode cX2_term 0 = .ok (.aload_n 0, 1) := by decide +kernel
theorem dX2_term_1 : decode cX2_term 1 = .ok (.iconst 0, 1) := by decide +kernel
theorem dX2_term_2 : decode cX2_term 2 = .ok (.putfield 30, 3) := by decide +kernel
theorem dX2_term_5 : decode cX2_term 5 = .ok (.aload_n 0, 1) := by decide +kernel
theorem dX2_term_6 : decode cX2_term 6 = .ok (.iload_n 1, 1) := by decide +kernel
theorem dX2_term_7 : decode cX2_term 7 = .ok (.invokevirtual 166, 3) := by decide +kernel
theorem dX2_term_10 : decode cX2_term 10 = .ok (.ifCond .eq 9, 3) := by decide +kernel
theorem dX2_term_13 : decode cX2_term 13 = .ok (.aload_n 0, 1) := by decide +kernel
theorem dX2_term_14 : decode cX2_term 14 = .ok (.iconst 1, 1) := by decide +kernel
theorem dX2_term_15 : decode cX2_term 15 = .ok (.invokevirtual 77, 3) := by decide +kernel
theorem dX2_term_18 : decode cX2_term 18 = .ok (.ireturn, 1) := by decide +kernel
theorem dX2_term_19 : decode cX2_term 19 = .ok (.iload_n 2, 1) := by decide +kernel
theorem dX2_term_20 : decode cX2_term 20 = .ok (.ifCond .lt 49, 3) := by decide +kernel
theorem dX2_term_23 : decode cX2_term 23 = .ok (.iload_n 2, 1) := by decide +kernel
theorem dX2_term_24 : decode cX2_term 24 = .ok (.iconst 2, 1) := by decide +kernel
theorem dX2_term_25 : decode cX2_term 25 = .ok (.if_icmp .gt 44, 3) := by decide +kernel
theorem dX2_term_28 : decode cX2_term 28 = .ok (.dload_n 3, 1) := by decide +kernel
theorem dX2_term_29 : decode cX2_term 29 = .ok (.ldc2_w 170, 3) := by decide +kernel
theorem dX2_term_32 : decode cX2_term 32 = .ok (.ldc2_w 172, 3) := by decide +kernel
theorem dX2_term_35 : decode cX2_term 35 = .ok (.invokestatic 156, 3) := by decide +kernel
theorem dX2_term_38 : decode cX2_term 38 = .ok (.ifCond .eq 31, 3) := by decide +kernel
theorem dX2_term_41 : decode cX2_term 41 = .ok (.dload 5, 2) := by decide +kernel
theorem dX2_term_43 : decode cX2_term 43 = .ok (.ldc2_w 154, 3) := by decide +kernel
theorem dX2_term_46 : decode cX2_term 46 = .ok (.ldc2_w 114, 3) := by decide +kernel
theorem dX2_term_49 : decode cX2_term 49 = .ok (.invokestatic 156, 3) := by decide +kernel
theorem dX2_term_52 : decode cX2_term 52 = .ok (.ifCond .eq 17, 3) := by decide +kernel
theorem dX2_term_55 : decode cX2_term 55 = .ok (.dload 7, 2) := by decide +kernel
theorem dX2_term_57 : decode cX2_term 57 = .ok (.ldc2_w 160, 3) := by decide +kernel
theorem dX2_term_60 : decode cX2_term 60 = .ok (.ldc2_w 162, 3) := by decide +kernel
theorem dX2_term_63 : decode cX2_term 63 = .ok (.invokestatic 156, 3) := by decide +kernel
theorem dX2_term_66 : decode cX2_term 66 = .ok (.ifCond .ne 9, 3) := by decide +kernel
theorem dX2_term_69 : decode cX2_term 69 = .ok (.aload_n 0, 1) := by decide +kernel
theorem dX2_term_70 : decode cX2_term 70 = .ok (.iconst 2, 1) := by decide +kernel
theorem dX2_term_71 : decode cX2_term 71 = .ok (.invokevirtual 77, 3) := by decide +kernel
theorem dX2_term_74 : decode cX2_term 74 = .ok (.ireturn, 1) := by decide +kernel
theorem dX2_term_75 : decode cX2_term 75 = .ok (.aload_n 0, 1) := by decide +kernel
theorem dX2_term_76 : decode cX2_term 76 = .ok (.getfield 17, 3) := by decide +kernel
theorem dX2_term_79 : decode cX2_term 79 = .ok (.iload_n 1, 1) := by decide +kernel
theorem dX2_term_80 : decode cX2_term 80 = .ok (.iaload, 1) := by decide +kernel
theorem dX2_term_81 : decode cX2_term 81 = .ok (.bipush 12, 2) := by decide +kernel
theorem dX2_term_83 : decode cX2_term 83 = .ok (.if_icmp .ne 9, 3) := by decide +kernel
theorem dX2_term_86 : decode cX2_term 86 = .ok (.aload_n 0, 1) := by decide +kernel
theorem dX2_term_87 : decode cX2_term 87 = .ok (.iconst 3, 1) := by decide +kernel
theorem dX2_term_88 : decode cX2_term 88 = .ok (.invokevirtual 77, 3) := by decide +kernel
theorem dX2_term_91 : decode cX2_term 91 = .ok (.ireturn, 1) := by decide +kernel
theorem dX2_term_92 : decode cX2_term 92 = .ok (.bipush 12, 2) := by decide +kernel
theorem dX2_term_94 : decode cX2_term 94 = .ok (.iload_n 1, 1) := by decide +kernel
theorem dX2_term_95 : decode cX2_term 95 = .ok (.imul, 1) := by decide +kernel
theorem dX2_term_96 : decode cX2_term 96 = .ok (.aload_n 0, 1) := by decide +kernel
theorem dX2_term_97 : decode cX2_term 97 = .ok (.getfield 17, 3) := by decide +kernel
theorem dX2_term_100 : decode cX2_term 100 = .ok (.iload_n 1, 1) := by decide +kernel
theorem dX2_term_101 : decode cX2_term 101 = .ok (.iaload, 1) := by decide +kernel
theorem dX2_term_102 : decode cX2_term 102 = .ok (.iadd, 1) := by decide +kernel
theorem dX2_term_103 : decode cX2_term 103 = .ok (.istore 9, 2) := by decide +kernel
theorem dX2_term_105 : decode cX2_term 105 = .ok (.aload_n 0, 1) := by decide +kernel
theorem dX2_term_106 : decode cX2_term 106 = .ok (.getfield 21, 3) := by decide +kernel
theorem dX2_term_109 : decode cX2_term 109 = .ok (.iload 9, 2) := by decide +kernel
theorem dX2_term_111 : decode cX2_term 111 = .ok (.iload_n 2, 1) := by decide +kernel
theorem dX2_term_112 : decode cX2_term 112 = .ok (.iastore, 1) := by decide +kernel
theorem dX2_term_113 : decode cX2_term 113 = .ok (.aload_n 0, 1) := by decide +kernel
theorem dX2_term_114 : decode cX2_term 114 = .ok (.getfield 24, 3) := by decide +kernel
theorem dX2_term_117 : decode cX2_term 117 = .ok (.iconst 3, 1) := by decide +kernel
theorem dX2_term_118 : decode cX2_term 118 = .ok (.iload 9, 2) := by decide +kernel
theorem dX2_term_120 : decode cX2_term 120 = .ok (.imul, 1) := by decide +kernel
theorem dX2_term_121 : decode cX2_term 121 = .ok (.dload_n 3, 1) := by decide +kernel
theorem dX2_term_122 : decode cX2_term 122 = .ok (.dastore, 1) := by decide +kernel
theorem dX2_term_123 : decode cX2_term 123 = .ok (.aload_n 0, 1) := by decide +kernel
theorem dX2_term_124 : decode cX2_term 124 = .ok (.getfield 24, 3) := by decide +kernel
theorem dX2_term_127 : decode cX2_term 127 = .ok (.iconst 3, 1) := by decide +kernel
theorem dX2_term_128 : decode cX2_term 128 = .ok (.iload 9, 2) := by decide +kernel
theorem dX2_term_130 : decode cX2_term 130 = .ok (.imul, 1) := by decide +kernel
theorem dX2_term_131 : decode cX2_term 131 = .ok (.iconst 1, 1) := by decide +kernel
theorem dX2_term_132 : decode cX2_term 132 = .ok (.iadd, 1) := by decide +kernel
theorem dX2_term_133 : decode cX2_term 133 = .ok (.dload 5, 2) := by decide +kernel
theorem dX2_term_135 : decode cX2_term 135 = .ok (.dastore, 1) := by decide +kernel
theorem dX2_term_136 : decode cX2_term 136 = .ok (.aload_n 0, 1) := by decide +kernel
theorem dX2_term_137 : decode cX2_term 137 = .ok (.getfield 24, 3) := by decide +kernel
theorem dX2_term_140 : decode cX2_term 140 = .ok (.iconst 3, 1) := by decide +kernel
theorem dX2_term_141 : decode cX2_term 141 = .ok (.iload 9, 2) := by decide +kernel
theorem dX2_term_143 : decode cX2_term 143 = .ok (.imul, 1) := by decide +kernel
theorem dX2_term_144 : decode cX2_term 144 = .ok (.iconst 2, 1) := by decide +kernel
theorem dX2_term_145 : decode cX2_term 145 = .ok (.iadd, 1) := by decide +kernel
theorem dX2_term_146 : decode cX2_term 146 = .ok (.dload 7, 2) := by decide +kernel
theorem dX2_term_148 : decode cX2_term 148 = .ok (.dastore, 1) := by decide +kernel
theorem dX2_term_149 : decode cX2_term 149 = .ok (.aload_n 0, 1) := by decide +kernel
theorem dX2_term_150 : decode cX2_term 150 = .ok (.getfield 17, 3) := by decide +kernel
theorem dX2_term_153 : decode cX2_term 153 = .ok (.iload_n 1, 1) := by decide +kernel
theorem dX2_term_154 : decode cX2_term 154 = .ok (.dup2, 1) := by decide +kernel
theorem dX2_term_155 : decode cX2_term 155 = .ok (.iaload, 1) := by decide +kernel
theorem dX2_term_156 : decode cX2_term 156 = .ok (.iconst 1, 1) := by decide +kernel
theorem dX2_term_157 : decode cX2_term 157 = .ok (.iadd, 1) := by decide +kernel
theorem dX2_term_158 : decode cX2_term 158 = .ok (.iastore, 1) := by decide +kernel
theorem dX2_term_159 : decode cX2_term 159 = .ok (.aload_n 0, 1) := by decide +kernel
theorem dX2_term_160 : decode cX2_term 160 = .ok (.getfield 17, 3) := by decide +kernel
theorem dX2_term_163 : decode cX2_term 163 = .ok (.iload_n 1, 1) := by decide +kernel
theorem dX2_term_164 : decode cX2_term 164 = .ok (.iaload, 1) := by decide +kernel
theorem dX2_term_165 : decode cX2_term 165 = .ok (.ireturn, 1) := by decide +kernel
set_option maxRecDepth 20000 in
theorem ggX2_observer_X2_within : GoodIn wsX2_observer wsX2_within := goodIn_r _ [11] (by decide +kernel) (by decide +kernel)
set_option maxRecDepth 20000 in
theorem gX2_observer_X2_within : GoodIn wsX2_observer (va_wsS RX2 156 yX2_within wsX2_within) := goodIn_app (goodIn_of _ (by decide +kernel)) ggX2_observer_X2_within
set_option maxRecDepth 20000 in
theorem ggX2_observer_X2_fail : GoodIn wsX2_observer wsX2_fail := goodIn_r _ [15, 1, 16, 17, 18, 19, 20, 21, 22, 23, 24, 25, 26, 27, 28] (by decide +kernel) (by decide +kernel)
set_option maxRecDepth 20000 in
theorem gX2_observer_X2_fail : GoodIn wsX2_observer (wsV RX2 77 RX2 yX2_fail wsX2_fail) := goodIn_app (goodIn_of _ (by decide +kernel)) ggX2_observer_X2_fail
theorem dX2_observer_0 : decode cX2_observer 0 = .ok (.aload_n 0, 1) := by decide +kernel
theorem dX2_observer_1 : decode cX2_observer 1 = .ok (.iconst 0, 1) := by decide +kernel
theorem dX2_observer_2 : decode cX2_observer 2 = .ok (.putfield 30, 3) := by decide +kernel
theorem dX2_observer_5 : decode cX2_observer 5 = .ok (.dload_n 1, 1) := by decide +kernel
theorem dX2_observer_6 : decode cX2_observer 6 = .ok (.ldc2_w 174, 3) := by decide +kernel
theorem dX2_observer_9 : decode cX2_observer 9 = .ok (.ldc2_w 120, 3) := by decide +kernel
theorem dX2_observer_12 : decode cX2_observer 12 = .ok (.invokestatic 156, 3) := by decide +kernel
theorem dX2_observer_15 : decode cX2_observer 15 = .ok (.ifCond .eq 16, 3) := by decide +kernel
theorem dX2_observer_18 : decode cX2_observer 18 = .ok (.dload_n 3, 1) := by decide +kernel
theorem dX2_observer_19 : decode cX2_observer 19 = .ok (.ldc2_w 176, 3) := by decide +kernel
theorem dX2_observer_22 : decode cX2_observer 22 = .ok (.ldc2_w 178, 3) := by decide +kernel
theorem dX2_observer_25 : decode cX2_observer 25 = .ok (.invokestatic 156, 3) := by decide +kernel
theorem dX2_observer_28 : decode cX2_observer 28 = .ok (.ifCond .ne 17, 3) := by decide +kernel
theorem dX2_observer_31 : decode cX2_observer 31 = .ok (.aload_n 0, 1) := by decide +kernel
theorem dX2_observer_32 : decode cX2_observer 32 = .ok (.iconst 1, 1) := by decide +kernel
theorem dX2_observer_33 : decode cX2_observer 33 = .ok (.invokevirtual 77, 3) := by decide +kernel
theorem dX2_observer_36 : decode cX2_observer 36 = .ok (.ifCond .le 7, 3) := by decide +kernel
theorem dX2_observer_39 : decode cX2_observer 39 = .ok (.iconst 1, 1) := by decide +kernel
theorem dX2_observer_40 : decode cX2_observer 40 = .ok (.goto 4, 3) := by decide +kernel
theorem dX2_observer_43 : decode cX2_observer 43 = .ok (.iconst 0, 1) := by decide +kernel
theorem dX2_observer_44 : decode cX2_observer 44 = .ok (.ireturn, 1) := by decide +kernel
theorem dX2_observer_45 : decode cX2_observer 45 = .ok (.dload_n 1, 1) := by decide +kernel
theorem dX2_observer_46 : decode cX2_observer 46 = .ok (.aload_n 0, 1) := by decide +kernel
theorem dX2_observer_47 : decode cX2_observer 47 = .ok (.getfield 180, 3) := by decide +kernel
theorem dX2_observer_50 : decode cX2_observer 50 = .ok (.dcmp .l, 1) := by decide +kernel
theorem dX2_observer_51 : decode cX2_observer 51 = .ok (.ifCond .ne 12, 3) := by decide +kernel
theorem dX2_observer_54 : decode cX2_observer 54 = .ok (.dload_n 3, 1) := by decide +kernel
theorem dX2_observer_55 : decode cX2_observer 55 = .ok (.aload_n 0, 1) := by decide +kernel
theorem dX2_observer_56 : decode cX2_observer 56 = .ok (.getfield 184, 3) := by decide +kernel
theorem dX2_observer_59 : decode cX2_observer 59 = .ok (.dcmp .l, 1) := by decide +kernel
theorem dX2_observer_60 : decode cX2_observer 60 = .ok (.ifCond .eq 7, 3) := by decide +kernel
theorem dX2_observer_63 : decode cX2_observer 63 = .ok (.iconst 1, 1) := by decide +kernel
theorem dX2_observer_64 : decode cX2_observer 64 = .ok (.goto 4, 3) := by decide +kernel
theorem dX2_observer_67 : decode cX2_observer 67 = .ok (.iconst 0, 1) := by decide +kernel
theorem dX2_observer_68 : decode cX2_observer 68 = .ok (.istore 5, 2) := by decide +kernel
theorem dX2_observer_70 : decode cX2_observer 70 = .ok (.aload_n 0, 1) := by decide +kernel
theorem dX2_observer_71 : decode cX2_observer 71 = .ok (.dload_n 1, 1) := by decide +kernel
theorem dX2_observer_72 : decode cX2_observer 72 = .ok (.putfield 180, 3) := by decide +kernel
theorem dX2_observer_75 : decode cX2_observer 75 = .ok (.aload_n 0, 1) := by decide +kernel
theorem dX2_observer_76 : decode cX2_observer 76 = .ok (.dload_n 3, 1) := by decide +kernel
theorem dX2_observer_77 : decode cX2_observer 77 = .ok (.putfield 184, 3) := by decide +kernel
theorem dX2_observer_80 : decode cX2_observer 80 = .ok (.iload 5, 2) := by decide +kernel
theorem dX2_observer_82 : decode cX2_observer 82 = .ok (.ireturn, 1) := by decide +kernel
set_option maxRecDepth 20000 in
theorem ggX2_sum_X2_cosine : GoodIn wsX2_sum wsX2_cosine := goodIn_r _ [7, 8, 9, 6, 10, 11, 12, 13, 14, 15, 16, 17, 18, 19, 20, 21, 22, 23, 24, 25, 26, 27, 28] (by decide +kernel) (by decide +kernel)
set_option maxRecDepth 20000 in
theorem gX2_sum_X2_cosine : GoodIn wsX2_sum (va_wsS RX2 187 yX2_cosine wsX2_cosine) := goodIn_app (goodIn_of _ (by decide +kernel)) ggX2_sum_X2_cosine
theorem dX2_sum_0 : decode cX2_sum 0 = .ok (.dconst 0, 1) := by decide +kernel
theorem dX2_sum_1 : decode cX2_sum 1 = .ok (.dstore 5, 2) := by decide +kernel
theorem dX2_sum_3 : decode cX2_sum 3 = .ok (.bipush 12, 2) := by decide +kernel
theorem dX2_sum_5 : decode cX2_sum 5 = .ok (.iload_n 1, 1) := by decide +kernel
theorem dX2_sum_6 : decode cX2_sum 6 = .ok (.imul, 1) := by decide +kernel
theorem dX2_sum_7 : decode cX2_sum 7 = .ok (.istore 7, 2) := by decide +kernel
theorem dX2_sum_9 : decode cX2_sum 9 = .ok (.iload 7, 2) := by decide +kernel
theorem dX2_sum_11 : decode cX2_sum 11 = .ok (.bipush 12, 2) := by decide +kernel
theorem dX2_sum_13 : decode cX2_sum 13 = .ok (.iload_n 1, 1) := by decide +kernel
theorem dX2_sum_14 : decode cX2_sum 14 = .ok (.imul, 1) := by decide +kernel
theorem dX2_sum_15 : decode cX2_sum 15 = .ok (.aload_n 0, 1) := by decide +kernel
theorem dX2_sum_16 : decode cX2_sum 16 = .ok (.getfield 17, 3) := by decide +kernel
theorem dX2_sum_19 : decode cX2_sum 19 = .ok (.iload_n 1, 1) := by decide +kernel
theorem dX2_sum_20 : decode cX2_sum 20 = .ok (.iaload, 1) := by decide +kernel
theorem dX2_sum_21 : decode cX2_sum 21 = .ok (.iadd, 1) := by decide +kernel
theorem dX2_sum_22 : decode cX2_sum 22 = .ok (.if_icmp .ge 63, 3) := by decide +kernel
theorem dX2_sum_25 : decode cX2_sum 25 = .ok (.aload_n 0, 1) := by decide +kernel
theorem dX2_sum_26 : decode cX2_sum 26 = .ok (.getfield 21, 3) := by decide +kernel
theorem dX2_sum_29 : decode cX2_sum 29 = .ok (.iload 7, 2) := by decide +kernel
theorem dX2_sum_31 : decode cX2_sum 31 = .ok (.iaload, 1) := by decide +kernel
theorem dX2_sum_32 : decode cX2_sum 32 = .ok (.iload_n 2, 1) := by decide +kernel
theorem dX2_sum_33 : decode cX2_sum 33 = .ok (.if_icmp .ne 46, 3) := by decide +kernel
theorem dX2_sum_36 : decode cX2_sum 36 = .ok (.dload 5, 2) := by decide +kernel
theorem dX2_sum_38 : decode cX2_sum 38 = .ok (.aload_n 0, 1) := by decide +kernel
theorem dX2_sum_39 : decode cX2_sum 39 = .ok (.getfield 24, 3) := by decide +kernel
theorem dX2_sum_42 : decode cX2_sum 42 = .ok (.iconst 3, 1) := by decide +kernel
theorem dX2_sum_43 : decode cX2_sum 43 = .ok (.iload 7, 2) := by decide +kernel
theorem dX2_sum_45 : decode cX2_sum 45 = .ok (.imul, 1) := by decide +kernel
theorem dX2_sum_46 : decode cX2_sum 46 = .ok (.daload, 1) := by decide +kernel
theorem dX2_sum_47 : decode cX2_sum 47 = .ok (.aload_n 0, 1) := by decide +kernel
theorem dX2_sum_48 : decode cX2_sum 48 = .ok (.getfield 24, 3) := by decide +kernel
theorem dX2_sum_51 : decode cX2_sum 51 = .ok (.iconst 3, 1) := by decide +kernel
theorem dX2_sum_52 : decode cX2_sum 52 = .ok (.iload 7, 2) := by decide +kernel
theorem dX2_sum_54 : decode cX2_sum 54 = .ok (.imul, 1) := by decide +kernel
theorem dX2_sum_55 : decode cX2_sum 55 = .ok (.iconst 1, 1) := by decide +kernel
theorem dX2_sum_56 : decode cX2_sum 56 = .ok (.iadd, 1) := by decide +kernel
theorem dX2_sum_57 : decode cX2_sum 57 = .ok (.daload, 1) := by decide +kernel
theorem dX2_sum_58 : decode cX2_sum 58 = .ok (.aload_n 0, 1) := by decide +kernel
theorem dX2_sum_59 : decode cX2_sum 59 = .ok (.getfield 24, 3) := by decide +kernel
theorem dX2_sum_62 : decode cX2_sum 62 = .ok (.iconst 3, 1) := by decide +kernel
theorem dX2_sum_63 : decode cX2_sum 63 = .ok (.iload 7, 2) := by decide +kernel
theorem dX2_sum_65 : decode cX2_sum 65 = .ok (.imul, 1) := by decide +kernel
theorem dX2_sum_66 : decode cX2_sum 66 = .ok (.iconst 2, 1) := by decide +kernel
theorem dX2_sum_67 : decode cX2_sum 67 = .ok (.iadd, 1) := by decide +kernel
theorem dX2_sum_68 : decode cX2_sum 68 = .ok (.daload, 1) := by decide +kernel
theorem dX2_sum_69 : decode cX2_sum 69 = .ok (.dload_n 3, 1) := by decide +kernel
theorem dX2_sum_70 : decode cX2_sum 70 = .ok (.dmul, 1) := by decide +kernel
theorem dX2_sum_71 : decode cX2_sum 71 = .ok (.dadd, 1) := by decide +kernel
theorem dX2_sum_72 : decode cX2_sum 72 = .ok (.invokestatic 187, 3) := by decide +kernel
theorem dX2_sum_75 : decode cX2_sum 75 = .ok (.dmul, 1) := by decide +kernel
theorem dX2_sum_76 : decode cX2_sum 76 = .ok (.dadd, 1) := by decide +kernel
theorem dX2_sum_77 : decode cX2_sum 77 = .ok (.dstore 5, 2) := by decide +kernel
theorem dX2_sum_79 : decode cX2_sum 79 = .ok (.iinc 7 1, 3) := by decide +kernel
theorem dX2_sum_82 : decode cX2_sum 82 = .ok (.goto (-73), 3) := by decide +kernel
theorem dX2_sum_85 : decode cX2_sum 85 = .ok (.dload 5, 2) := by decide +kernel
theorem dX2_sum_87 : decode cX2_sum 87 = .ok (.dreturn, 1) := by decide +kernel
set_option maxRecDepth 20000 in
theorem ggX2_along_X2_red : GoodIn wsX2_along wsX2_red := goodIn_r _ [14, 15] (by decide +kernel) (by decide +kernel)
set_option maxRecDepth 20000 in
theorem gX2_along_X2_red : GoodIn wsX2_along (va_wsS RX2 116 yX2_red wsX2_red) := goodIn_app (goodIn_of _ (by decide +kernel)) ggX2_along_X2_red
set_option maxRecDepth 20000 in
theorem ggX2_along_X2_sine : GoodIn wsX2_along wsX2_sine := goodIn_r _ [18, 19, 20, 13, 21, 22, 8, 23, 24, 25, 26, 27, 28, 29, 30, 31, 32, 33, 34, 11, 12, 14, 15] (by decide +kernel) (by decide +kernel)
set_option maxRecDepth 20000 in
theorem gX2_along_X2_sine : GoodIn wsX2_along (va_wsS RX2 192 yX2_sine wsX2_sine) := goodIn_app (goodIn_of _ (by decide +kernel)) ggX2_along_X2_sine
set_option maxRecDepth 20000 in
theorem ggX2_along_X2_cosine : GoodIn wsX2_along wsX2_cosine := goodIn_r _ [37, 19, 20, 13, 21, 22, 8, 23, 24, 25, 26, 27, 28, 29, 30, 31, 32, 33, 34, 11, 12, 14, 15] (by decide +kernel) (by decide +kernel)
set_option maxRecDepth 20000 in
theorem gX2_along_X2_cosine : GoodIn wsX2_along (va_wsS RX2 187 yX2_cosine wsX2_cosine) := goodIn_app (goodIn_of _ (by decide +kernel)) ggX2_along_X2_cosine
set_option maxRecDepth 20000 in
theorem ggX2_along_X2_sum : GoodIn wsX2_along wsX2_sum := goodIn_r _ [41, 42, 43, 44, 35, 36, 13, 37, 19, 20, 21, 22, 8, 23, 24, 25, 26, 27, 28, 29, 30, 31, 32, 33, 34, 11, 12, 14, 15, 45, 46, 47, 48, 49, 50, 51, 52, 53, 54, 55, 56, 57] (by decide +kernel) (by decide +kernel)
set_option maxRecDepth 20000 in
theorem gX2_along_X2_sum : GoodIn wsX2_along (wsV RX2 213 RX2 yX2_sum wsX2_sum) := goodIn_app (goodIn_of _ (by decide +kernel)) ggX2_along_X2_sum
theorem dX2_along_0 : decode cX2_along 0 = .ok (.aload_n 0, 1) := by decide +kernel
theorem dX2_along_1 : decode cX2_along 1 = .ok (.getfield 13, 3) := by decide +kernel
theorem dX2_along_4 : decode cX2_along 4 = .ok (.iconst 4, 1) := by decide +kernel
theorem dX2_along_5 : decode cX2_along 5 = .ok (.iload_n 1, 1) := by decide +kernel
theorem dX2_along_6 : decode cX2_along 6 = .ok (.imul, 1) := by decide +kernel
theorem dX2_along_7 : decode cX2_along 7 = .ok (.iconst 2, 1) := by decide +kernel
theorem dX2_along_8 : decode cX2_along 8 = .ok (.iadd, 1) := by decide +kernel
theorem dX2_along_9 : decode cX2_along 9 = .ok (.daload, 1) := by decide +kernel
theorem dX2_along_10 : decode cX2_along 10 = .ok (.dstore 4, 2) := by decide +kernel
theorem dX2_along_12 : decode cX2_along 12 = .ok (.aload_n 0, 1) := by decide +kernel
theorem dX2_along_13 : decode cX2_along 13 = .ok (.getfield 13, 3) := by decide +kernel
theorem dX2_along_16 : decode cX2_along 16 = .ok (.iconst 4, 1) := by decide +kernel
theorem dX2_along_17 : decode cX2_along 17 = .ok (.iload_n 1, 1) := by decide +kernel
theorem dX2_along_18 : decode cX2_along 18 = .ok (.imul, 1) := by decide +kernel
theorem dX2_along_19 : decode cX2_along 19 = .ok (.iconst 3, 1) := by decide +kernel
theorem dX2_along_20 : decode cX2_along 20 = .ok (.iadd, 1) := by decide +kernel
theorem dX2_along_21 : decode cX2_along 21 = .ok (.daload, 1) := by decide +kernel
theorem dX2_along_22 : decode cX2_along 22 = .ok (.dstore 6, 2) := by decide +kernel
theorem dX2_along_24 : decode cX2_along 24 = .ok (.aload_n 0, 1) := by decide +kernel
theorem dX2_along_25 : decode cX2_along 25 = .ok (.getfield 13, 3) := by decide +kernel
theorem dX2_along_28 : decode cX2_along 28 = .ok (.iconst 4, 1) := by decide +kernel
theorem dX2_along_29 : decode cX2_along 29 = .ok (.iload_n 1, 1) := by decide +kernel
theorem dX2_along_30 : decode cX2_along 30 = .ok (.imul, 1) := by decide +kernel
theorem dX2_along_31 : decode cX2_along 31 = .ok (.daload, 1) := by decide +kernel
theorem dX2_along_32 : decode cX2_along 32 = .ok (.aload_n 0, 1) := by decide +kernel
theorem dX2_along_33 : decode cX2_along 33 = .ok (.getfield 13, 3) := by decide +kernel
theorem dX2_along_36 : decode cX2_along 36 = .ok (.iconst 4, 1) := by decide +kernel
theorem dX2_along_37 : decode cX2_along 37 = .ok (.iload_n 1, 1) := by decide +kernel
theorem dX2_along_38 : decode cX2_along 38 = .ok (.imul, 1) := by decide +kernel
theorem dX2_along_39 : decode cX2_along 39 = .ok (.iconst 1, 1) := by decide +kernel
theorem dX2_along_40 : decode cX2_along 40 = .ok (.iadd, 1) := by decide +kernel
theorem dX2_along_41 : decode cX2_along 41 = .ok (.daload, 1) := by decide +kernel
theorem dX2_along_42 : decode cX2_along 42 = .ok (.dload_n 2, 1) := by decide +kernel
theorem dX2_along_43 : decode cX2_along 43 = .ok (.dmul, 1) := by decide +kernel
theorem dX2_along_44 : decode cX2_along 44 = .ok (.dadd, 1) := by decide +kernel
theorem dX2_along_45 : decode cX2_along 45 = .ok (.dload 6, 2) := by decide +kernel
theorem dX2_along_47 : decode cX2_along 47 = .ok (.dsub, 1) := by decide +kernel
theorem dX2_along_48 : decode cX2_along 48 = .ok (.invokestatic 116, 3) := by decide +kernel
theorem dX2_along_51 : decode cX2_along 51 = .ok (.dstore 8, 2) := by decide +kernel
theorem dX2_along_53 : decode cX2_along 53 = .ok (.dload 8, 2) := by decide +kernel
theorem dX2_along_55 : decode cX2_along 55 = .ok (.dstore 10, 2) := by decide +kernel
theorem dX2_along_57 : decode cX2_along 57 = .ok (.iconst 0, 1) := by decide +kernel
theorem dX2_along_58 : decode cX2_along 58 = .ok (.istore 12, 2) := by decide +kernel
theorem dX2_along_60 : decode cX2_along 60 = .ok (.iconst 0, 1) := by decide +kernel
theorem dX2_along_61 : decode cX2_along 61 = .ok (.istore 13, 2) := by decide +kernel
theorem dX2_along_63 : decode cX2_along 63 = .ok (.iload 13, 2) := by decide +kernel
theorem dX2_along_65 : decode cX2_along 65 = .ok (.iconst 4, 1) := by decide +kernel
theorem dX2_along_66 : decode cX2_along 66 = .ok (.if_icmp .ge 77, 3) := by decide +kernel
theorem dX2_along_69 : decode cX2_along 69 = .ok (.iload 12, 2) := by decide +kernel
theorem dX2_along_71 : decode cX2_along 71 = .ok (.ifCond .ne 72, 3) := by decide +kernel
theorem dX2_along_74 : decode cX2_along 74 = .ok (.dload 10, 2) := by decide +kernel
theorem dX2_along_76 : decode cX2_along 76 = .ok (.dload 4, 2) := by decide +kernel
theorem dX2_along_78 : decode cX2_along 78 = .ok (.ldc2_w 190, 3) := by decide +kernel
theorem dX2_along_81 : decode cX2_along 81 = .ok (.dmul, 1) := by decide +kernel
theorem dX2_along_82 : decode cX2_along 82 = .ok (.dload 10, 2) := by decide +kernel
theorem dX2_along_84 : decode cX2_along 84 = .ok (.invokestatic 192, 3) := by decide +kernel
theorem dX2_along_87 : decode cX2_along 87 = .ok (.dmul, 1) := by decide +kernel
theorem dX2_along_88 : decode cX2_along 88 = .ok (.dsub, 1) := by decide +kernel
theorem dX2_along_89 : decode cX2_along 89 = .ok (.dload 8, 2) := by decide +kernel
theorem dX2_along_91 : decode cX2_along 91 = .ok (.dsub, 1) := by decide +kernel
theorem dX2_along_92 : decode cX2_along 92 = .ok (.dconst 1, 1) := by decide +kernel
theorem dX2_along_93 : decode cX2_along 93 = .ok (.dload 4, 2) := by decide +kernel
theorem dX2_along_95 : decode cX2_along 95 = .ok (.dload 10, 2) := by decide +kernel
theorem dX2_along_97 : decode cX2_along 97 = .ok (.invokestatic 187, 3) := by decide +kernel
theorem dX2_along_100 : decode cX2_along 100 = .ok (.dmul, 1) := by decide +kernel
theorem dX2_along_101 : decode cX2_along 101 = .ok (.dsub, 1) := by decide +kernel
theorem dX2_along_102 : decode cX2_along 102 = .ok (.ddiv, 1) := by decide +kernel
theorem dX2_along_103 : decode cX2_along 103 = .ok (.dstore 14, 2) := by decide +kernel
theorem dX2_along_105 : decode cX2_along 105 = .ok (.dload 10, 2) := by decide +kernel
theorem dX2_along_107 : decode cX2_along 107 = .ok (.dload 14, 2) := by decide +kernel
theorem dX2_along_109 : decode cX2_along 109 = .ok (.dsub, 1) := by decide +kernel
theorem dX2_along_110 : decode cX2_along 110 = .ok (.dstore 10, 2) := by decide +kernel
theorem dX2_along_112 : decode cX2_along 112 = .ok (.dload 14, 2) := by decide +kernel
theorem dX2_along_114 : decode cX2_along 114 = .ok (.ldc2_w 195, 3) := by decide +kernel
theorem dX2_along_117 : decode cX2_along 117 = .ok (.dcmp .l, 1) := by decide +kernel
theorem dX2_along_118 : decode cX2_along 118 = .ok (.ifCond .le 16, 3) := by decide +kernel
theorem dX2_along_121 : decode cX2_along 121 = .ok (.dload 14, 2) := by decide +kernel
theorem dX2_along_123 : decode cX2_along 123 = .ok (.ldc2_w 197, 3) := by decide +kernel
theorem dX2_along_126 : decode cX2_along 126 = .ok (.dcmp .g, 1) := by decide +kernel
theorem dX2_along_127 : decode cX2_along 127 = .ok (.ifCond .ge 7, 3) := by decide +kernel
theorem dX2_along_130 : decode cX2_along 130 = .ok (.iconst 1, 1) := by decide +kernel
theorem dX2_along_131 : decode cX2_along 131 = .ok (.goto 4, 3) := by decide +kernel
theorem dX2_along_134 : decode cX2_along 134 = .ok (.iconst 0, 1) := by decide +kernel
theorem dX2_along_135 : decode cX2_along 135 = .ok (.istore 12, 2) := by decide +kernel
theorem dX2_along_137 : decode cX2_along 137 = .ok (.iinc 13 1, 3) := by decide +kernel
theorem dX2_along_140 : decode cX2_along 140 = .ok (.goto (-77), 3) := by decide +kernel
theorem dX2_along_143 : decode cX2_along 143 = .ok (.aload_n 0, 1) := by decide +kernel
theorem dX2_along_144 : decode cX2_along 144 = .ok (.dup, 1) := by decide +kernel
theorem dX2_along_145 : decode cX2_along 145 = .ok (.getfield 199, 3) := by decide +kernel
theorem dX2_along_148 : decode cX2_along 148 = .ok (.iconst 1, 1) := by decide +kernel
theorem dX2_along_149 : decode cX2_along 149 = .ok (.iadd, 1) := by decide +kernel
theorem dX2_along_150 : decode cX2_along 150 = .ok (.putfield 199, 3) := by decide +kernel
theorem dX2_along_153 : decode cX2_along 153 = .ok (.aload_n 0, 1) := by decide +kernel
theorem dX2_along_154 : decode cX2_along 154 = .ok (.iload 12, 2) := by decide +kernel
theorem dX2_along_156 : decode cX2_along 156 = .ok (.ifCond .ne 7, 3) := by decide +kernel
theorem dX2_along_159 : decode cX2_along 159 = .ok (.iconst 1, 1) := by decide +kernel
theorem dX2_along_160 : decode cX2_along 160 = .ok (.goto 4, 3) := by decide +kernel
theorem dX2_along_163 : decode cX2_along 163 = .ok (.iconst 0, 1) := by decide +kernel
theorem dX2_along_164 : decode cX2_along 164 = .ok (.putfield 202, 3) := by decide +kernel
theorem dX2_along_167 : decode cX2_along 167 = .ok (.aload_n 0, 1) := by decide +kernel
theorem dX2_along_168 : decode cX2_along 168 = .ok (.dup, 1) := by decide +kernel
theorem dX2_along_169 : decode cX2_along 169 = .ok (.getfield 206, 3) := by decide +kernel
theorem dX2_along_172 : decode cX2_along 172 = .ok (.iload 12, 2) := by decide +kernel
theorem dX2_along_174 : decode cX2_along 174 = .ok (.ifCond .eq 7, 3) := by decide +kernel
theorem dX2_along_177 : decode cX2_along 177 = .ok (.iconst 0, 1) := by decide +kernel
theorem dX2_along_178 : decode cX2_along 178 = .ok (.goto 4, 3) := by decide +kernel
theorem dX2_along_181 : decode cX2_along 181 = .ok (.iconst 1, 1) := by decide +kernel
theorem dX2_along_182 : decode cX2_along 182 = .ok (.iadd, 1) := by decide +kernel
theorem dX2_along_183 : decode cX2_along 183 = .ok (.putfield 206, 3) := by decide +kernel
theorem dX2_along_186 : decode cX2_along 186 = .ok (.dload 10, 2) := by decide +kernel
theorem dX2_along_188 : decode cX2_along 188 = .ok (.dload 4, 2) := by decide +kernel
theorem dX2_along_190 : decode cX2_along 190 = .ok (.ldc2_w 190, 3) := by decide +kernel
theorem dX2_along_193 : decode cX2_along 193 = .ok (.dmul, 1) := by decide +kernel
theorem dX2_along_194 : decode cX2_along 194 = .ok (.dload 10, 2) := by decide +kernel
theorem dX2_along_196 : decode cX2_along 196 = .ok (.invokestatic 192, 3) := by decide +kernel
theorem dX2_along_199 : decode cX2_along 199 = .ok (.dmul, 1) := by decide +kernel
theorem dX2_along_200 : decode cX2_along 200 = .ok (.dadd, 1) := by decide +kernel
theorem dX2_along_201 : decode cX2_along 201 = .ok (.ldc2_w 122, 3) := by decide +kernel
theorem dX2_along_204 : decode cX2_along 204 = .ok (.dload 4, 2) := by decide +kernel
theorem dX2_along_206 : decode cX2_along 206 = .ok (.dmul, 1) := by decide +kernel
theorem dX2_along_207 : decode cX2_along 207 = .ok (.dload 4, 2) := by decide +kernel
theorem dX2_along_209 : decode cX2_along 209 = .ok (.dmul, 1) := by decide +kernel
theorem dX2_along_210 : decode cX2_along 210 = .ok (.ldc2_w 190, 3) := by decide +kernel
theorem dX2_along_213 : decode cX2_along 213 = .ok (.dmul, 1) := by decide +kernel
theorem dX2_along_214 : decode cX2_along 214 = .ok (.ldc2_w 209, 3) := by decide +kernel
theorem dX2_along_217 : decode cX2_along 217 = .ok (.dload 10, 2) := by decide +kernel
theorem dX2_along_219 : decode cX2_along 219 = .ok (.dmul, 1) := by decide +kernel
theorem dX2_along_220 : decode cX2_along 220 = .ok (.invokestatic 192, 3) := by decide +kernel
theorem dX2_along_223 : decode cX2_along 223 = .ok (.dmul, 1) := by decide +kernel
theorem dX2_along_224 : decode cX2_along 224 = .ok (.dadd, 1) := by decide +kernel
theorem dX2_along_225 : decode cX2_along 225 = .ok (.dstore 13, 2) := by decide +kernel
theorem dX2_along_227 : decode cX2_along 227 = .ok (.dload_n 2, 1) := by decide +kernel
theorem dX2_along_228 : decode cX2_along 228 = .ok (.ldc2_w 211, 3) := by decide +kernel
theorem dX2_along_231 : decode cX2_along 231 = .ok (.ddiv, 1) := by decide +kernel
theorem dX2_along_232 : decode cX2_along 232 = .ok (.dstore 15, 2) := by decide +kernel
theorem dX2_along_234 : decode cX2_along 234 = .ok (.dload 13, 2) := by decide +kernel
theorem dX2_along_236 : decode cX2_along 236 = .ok (.dload 6, 2) := by decide +kernel
theorem dX2_along_238 : decode cX2_along 238 = .ok (.dadd, 1) := by decide +kernel
theorem dX2_along_239 : decode cX2_along 239 = .ok (.aload_n 0, 1) := by decide +kernel
theorem dX2_along_240 : decode cX2_along 240 = .ok (.iload_n 1, 1) := by decide +kernel
theorem dX2_along_241 : decode cX2_along 241 = .ok (.iconst 0, 1) := by decide +kernel
theorem dX2_along_242 : decode cX2_along 242 = .ok (.dload_n 2, 1) := by decide +kernel
theorem dX2_along_243 : decode cX2_along 243 = .ok (.invokevirtual 213, 3) := by decide +kernel
theorem dX2_along_246 : decode cX2_along 246 = .ok (.dload 15, 2) := by decide +kernel
theorem dX2_along_248 : decode cX2_along 248 = .ok (.aload_n 0, 1) := by decide +kernel
theorem dX2_along_249 : decode cX2_along 249 = .ok (.iload_n 1, 1) := by decide +kernel
theorem dX2_along_250 : decode cX2_along 250 = .ok (.iconst 1, 1) := by decide +kernel
theorem dX2_along_251 : decode cX2_along 251 = .ok (.dload_n 2, 1) := by decide +kernel
theorem dX2_along_252 : decode cX2_along 252 = .ok (.invokevirtual 213, 3) := by decide +kernel
theorem dX2_along_255 : decode cX2_along 255 = .ok (.dload 15, 2) := by decide +kernel
theorem dX2_along_257 : decode cX2_along 257 = .ok (.aload_n 0, 1) := by decide +kernel
theorem dX2_along_258 : decode cX2_along 258 = .ok (.iload_n 1, 1) := by decide +kernel
theorem dX2_along_259 : decode cX2_along 259 = .ok (.iconst 2, 1) := by decide +kernel
theorem dX2_along_260 : decode cX2_along 260 = .ok (.dload_n 2, 1) := by decide +kernel
theorem dX2_along_261 : decode cX2_along 261 = .ok (.invokevirtual 213, 3) := by decide +kernel
theorem dX2_along_264 : decode cX2_along 264 = .ok (.dmul, 1) := by decide +kernel
theorem dX2_along_265 : decode cX2_along 265 = .ok (.dadd, 1) := by decide +kernel
theorem dX2_along_266 : decode cX2_along 266 = .ok (.dmul, 1) := by decide +kernel
theorem dX2_along_267 : decode cX2_along 267 = .ok (.dadd, 1) := by decide +kernel
theorem dX2_along_268 : decode cX2_along 268 = .ok (.dadd, 1) := by decide +kernel
theorem dX2_along_269 : decode cX2_along 269 = .ok (.invokestatic 116, 3) := by decide +kernel
theorem dX2_along_272 : decode cX2_along 272 = .ok (.dreturn, 1) := by decide +kernel
set_option maxRecDepth 20000 in
theorem ggX2_above_X2_along : GoodIn wsX2_above wsX2_along := goodIn_r _ [9, 10, 11, 12, 13, 14, 15, 16, 17, 18, 19, 20, 21, 8, 22, 23, 24, 25, 26, 27, 28, 29, 30, 31, 32, 33, 34, 35, 36, 37, 38, 39, 40, 41, 42, 43, 44, 45, 46, 47, 48, 49, 50, 51, 52, 58, 59, 60, 61, 62, 63, 64, 65, 66, 67, 68, 69, 70] (by decide +kernel) (by decide +kernel)
set_option maxRecDepth 20000 in
theorem gX2_above_X2_along : GoodIn wsX2_above (wsV RX2 217 RX2 yX2_along wsX2_along) := goodIn_app (goodIn_of _ (by decide +kernel)) ggX2_above_X2_along
set_option maxRecDepth 20000 in
theorem ggX2_above_X2_cosine : GoodIn wsX2_above wsX2_cosine := goodIn_r _ [45, 27, 28, 8, 29, 30, 17, 31, 32, 33, 34, 35, 36, 37, 38, 39, 40, 41, 42, 20, 21, 22, 23] (by decide +kernel) (by decide +kernel)
set_option maxRecDepth 20000 in
theorem gX2_above_X2_cosine : GoodIn wsX2_above (va_wsS RX2 187 yX2_cosine wsX2_cosine) := goodIn_app (goodIn_of _ (by decide +kernel)) ggX2_above_X2_cosine
set_option maxRecDepth 20000 in
theorem ggX2_above_X2_sine : GoodIn wsX2_above wsX2_sine := goodIn_r _ [26, 27, 28, 8, 29, 30, 17, 31, 32, 33, 34, 35, 36, 37, 38, 39, 40, 41, 42, 20, 21, 22, 23] (by decide +kernel) (by decide +kernel)
set_option maxRecDepth 20000 in
theorem gX2_above_X2_sine : GoodIn wsX2_above (va_wsS RX2 192 yX2_sine wsX2_sine) := goodIn_app (goodIn_of _ (by decide +kernel)) ggX2_above_X2_sine
set_option maxRecDepth 20000 in
theorem ggX2_above_X2_turned : GoodIn wsX2_above wsX2_turned := goodIn_r _ [55, 56, 57, 23, 20, 21, 8, 22] (by decide +kernel) (by decide +kernel)
set_option maxRecDepth 20000 in
theorem gX2_above_X2_turned : GoodIn wsX2_above (va_wsS RX2 225 yX2_turned wsX2_turned) := goodIn_app (goodIn_of _ (by decide +kernel)) ggX2_above_X2_turned
theorem dX2_above_0 : decode cX2_above 0 = .ok (.aload_n 0, 1) := by decide +kernel
theorem dX2_above_1 : decode cX2_above 1 = .ok (.iload_n 1, 1) := by decide +kernel
theorem dX2_above_2 : decode cX2_above 2 = .ok (.dload_n 2, 1) := by decide +kernel
theorem dX2_above_3 : decode cX2_above 3 = .ok (.invokevirtual 217, 3) := by decide +kernel
theorem dX2_above_6 : decode cX2_above 6 = .ok (.dstore 4, 2) := by decide +kernel
theorem dX2_above_8 : decode cX2_above 8 = .ok (.dload 4, 2) := by decide +kernel
theorem dX2_above_10 : decode cX2_above 10 = .ok (.invokestatic 187, 3) := by decide +kernel
theorem dX2_above_13 : decode cX2_above 13 = .ok (.dstore 6, 2) := by decide +kernel
theorem dX2_above_15 : decode cX2_above 15 = .ok (.dload 4, 2) := by decide +kernel
theorem dX2_above_17 : decode cX2_above 17 = .ok (.invokestatic 192, 3) := by decide +kernel
theorem dX2_above_20 : decode cX2_above 20 = .ok (.ldc2_w 221, 3) := by decide +kernel
theorem dX2_above_23 : decode cX2_above 23 = .ok (.dmul, 1) := by decide +kernel
theorem dX2_above_24 : decode cX2_above 24 = .ok (.dstore 8, 2) := by decide +kernel
theorem dX2_above_26 : decode cX2_above 26 = .ok (.dload 4, 2) := by decide +kernel
theorem dX2_above_28 : decode cX2_above 28 = .ok (.invokestatic 192, 3) := by decide +kernel
theorem dX2_above_31 : decode cX2_above 31 = .ok (.ldc2_w 223, 3) := by decide +kernel
theorem dX2_above_34 : decode cX2_above 34 = .ok (.dmul, 1) := by decide +kernel
theorem dX2_above_35 : decode cX2_above 35 = .ok (.dstore 10, 2) := by decide +kernel
theorem dX2_above_37 : decode cX2_above 37 = .ok (.dload_n 2, 1) := by decide +kernel
theorem dX2_above_38 : decode cX2_above 38 = .ok (.invokestatic 225, 3) := by decide +kernel
theorem dX2_above_41 : decode cX2_above 41 = .ok (.aload_n 0, 1) := by decide +kernel
theorem dX2_above_42 : decode cX2_above 42 = .ok (.getfield 184, 3) := by decide +kernel
theorem dX2_above_45 : decode cX2_above 45 = .ok (.dadd, 1) := by decide +kernel
theorem dX2_above_46 : decode cX2_above 46 = .ok (.dstore 12, 2) := by decide +kernel
theorem dX2_above_48 : decode cX2_above 48 = .ok (.aload_n 0, 1) := by decide +kernel
theorem dX2_above_49 : decode cX2_above 49 = .ok (.getfield 180, 3) := by decide +kernel
theorem dX2_above_52 : decode cX2_above 52 = .ok (.invokestatic 187, 3) := by decide +kernel
theorem dX2_above_55 : decode cX2_above 55 = .ok (.dload 6, 2) := by decide +kernel
theorem dX2_above_57 : decode cX2_above 57 = .ok (.dload 12, 2) := by decide +kernel
theorem dX2_above_59 : decode cX2_above 59 = .ok (.invokestatic 187, 3) := by decide +kernel
theorem dX2_above_62 : decode cX2_above 62 = .ok (.dmul, 1) := by decide +kernel
theorem dX2_above_63 : decode cX2_above 63 = .ok (.dload 8, 2) := by decide +kernel
theorem dX2_above_65 : decode cX2_above 65 = .ok (.dload 12, 2) := by decide +kernel
theorem dX2_above_67 : decode cX2_above 67 = .ok (.invokestatic 192, 3) := by decide +kernel
theorem dX2_above_70 : decode cX2_above 70 = .ok (.dmul, 1) := by decide +kernel
theorem dX2_above_71 : decode cX2_above 71 = .ok (.dadd, 1) := by decide +kernel
theorem dX2_above_72 : decode cX2_above 72 = .ok (.dmul, 1) := by decide +kernel
theorem dX2_above_73 : decode cX2_above 73 = .ok (.aload_n 0, 1) := by decide +kernel
theorem dX2_above_74 : decode cX2_above 74 = .ok (.getfield 180, 3) := by decide +kernel
theorem dX2_above_77 : decode cX2_above 77 = .ok (.invokestatic 192, 3) := by decide +kernel
theorem dX2_above_80 : decode cX2_above 80 = .ok (.dload 10, 2) := by decide +kernel
theorem dX2_above_82 : decode cX2_above 82 = .ok (.dmul, 1) := by decide +kernel
theorem dX2_above_83 : decode cX2_above 83 = .ok (.dadd, 1) := by decide +kernel
theorem dX2_above_84 : decode cX2_above 84 = .ok (.dreturn, 1) := by decide +kernel
set_option maxRecDepth 20000 in
theorem ggX2_bar_X2_noBody : GoodIn wsX2_bar wsX2_noBody := goodIn_r _ [7, 8, 12, 13, 14, 15, 16, 17, 18, 19, 20, 21, 22, 23, 24] (by decide +kernel) (by decide +kernel)
set_option maxRecDepth 20000 in
theorem gX2_bar_X2_noBody : GoodIn wsX2_bar (wsV RX2 166 RX2 yX2_noBody wsX2_noBody) := goodIn_app (goodIn_of _ (by decide +kernel)) ggX2_bar_X2_noBody
set_option maxRecDepth 20000 in
theorem ggX2_bar_X2_within : GoodIn wsX2_bar wsX2_within := goodIn_r _ [11] (by decide +kernel) (by decide +kernel)
set_option maxRecDepth 20000 in
theorem gX2_bar_X2_within : GoodIn wsX2_bar (va_wsS RX2 156 yX2_within wsX2_within) := goodIn_app (goodIn_of _ (by decide +kernel)) ggX2_bar_X2_within
theorem dX2_bar_0 : decode cX2_bar 0 = .ok (.aload_n 0, 1) := by decide +kernel
theorem dX2_bar_1 : decode cX2_bar 1 = .ok (.iload_n 1, 1) := by decide +kernel
theorem dX2_bar_2 : decode cX2_bar 2 = .ok (.invokevirtual 166, 3) := by decide +kernel
theorem dX2_bar_5 : decode cX2_bar 5 = .ok (.ifCond .eq 7, 3) := by decide +kernel
theorem dX2_bar_8 : decode cX2_bar 8 = .ok (.iconst 1, 1) := by decide +kernel
theorem dX2_bar_9 : decode cX2_bar 9 = .ok (.goto 21, 3) := by decide +kernel
theorem dX2_bar_12 : decode cX2_bar 12 = .ok (.dload_n 2, 1) := by decide +kernel
theorem dX2_bar_13 : decode cX2_bar 13 = .ok (.ldc2_w 228, 3) := by decide +kernel
theorem dX2_bar_16 : decode cX2_bar 16 = .ok (.ldc2_w 230, 3) := by decide +kernel
theorem dX2_bar_19 : decode cX2_bar 19 = .ok (.invokestatic 156, 3) := by decide +kernel
theorem dX2_bar_22 : decode cX2_bar 22 = .ok (.ifCond .eq 7, 3) := by decide +kernel
theorem dX2_bar_25 : decode cX2_bar 25 = .ok (.iconst 0, 1) := by decide +kernel
theorem dX2_bar_26 : decode cX2_bar 26 = .ok (.goto 4, 3) := by decide +kernel
theorem dX2_bar_29 : decode cX2_bar 29 = .ok (.iconst 2, 1) := by decide +kernel
theorem dX2_bar_30 : decode cX2_bar 30 = .ok (.ireturn, 1) := by decide +kernel
set_option maxRecDepth 20000 in
theorem ggX2_longitude_X2_bar : GoodIn wsX2_longitude wsX2_bar := goodIn_r _ [7, 8, 9, 10, 11, 12, 6, 13, 14, 15, 16, 17, 64, 65, 66, 67, 68, 69, 70, 71, 72, 73, 74, 75, 76] (by decide +kernel) (by decide +kernel)
set_option maxRecDepth 20000 in
theorem gX2_longitude_X2_bar : GoodIn wsX2_longitude (wsV RX2 232 RX2 yX2_bar wsX2_bar) := goodIn_app (goodIn_of _ (by decide +kernel)) ggX2_longitude_X2_bar
set_option maxRecDepth 20000 in
theorem ggX2_longitude_X2_along : GoodIn wsX2_longitude wsX2_along := goodIn_r _ [21, 22, 23, 24, 25, 26, 2, 27, 28, 29, 30, 31, 32, 6, 33, 34, 35, 36, 37, 38, 39, 40, 41, 42, 43, 44, 45, 46, 47, 48, 49, 50, 51, 52, 53, 54, 55, 56, 57, 58, 59, 60, 61, 62, 63, 64, 65, 66, 67, 68, 69, 70, 71, 72, 73, 74, 75, 76] (by decide +kernel) (by decide +kernel)
set_option maxRecDepth 20000 in
theorem gX2_longitude_X2_along : GoodIn wsX2_longitude (wsV RX2 217 RX2 yX2_along wsX2_along) := goodIn_app (goodIn_of _ (by decide +kernel)) ggX2_longitude_X2_along
theorem dX2_longitude_0 : decode cX2_longitude 0 = .ok (.aload_n 0, 1) := by decide +kernel
theorem dX2_longitude_1 : decode cX2_longitude 1 = .ok (.aload_n 0, 1) := by decide +kernel
theorem dX2_longitude_2 : decode cX2_longitude 2 = .ok (.iload_n 1, 1) := by decide +kernel
theorem dX2_longitude_3 : decode cX2_longitude 3 = .ok (.dload_n 2, 1) := by decide +kernel
theorem dX2_longitude_4 : decode cX2_longitude 4 = .ok (.invokevirtual 232, 3) := by decide +kernel
theorem dX2_longitude_7 : decode cX2_longitude 7 = .ok (.putfield 30, 3) := by decide +kernel
theorem dX2_longitude_10 : decode cX2_longitude 10 = .ok (.aload_n 0, 1) := by decide +kernel
theorem dX2_longitude_11 : decode cX2_longitude 11 = .ok (.getfield 30, 3) := by decide +kernel
theorem dX2_longitude_14 : decode cX2_longitude 14 = .ok (.ifCond .le 5, 3) := by decide +kernel
theorem dX2_longitude_17 : decode cX2_longitude 17 = .ok (.dconst 0, 1) := by decide +kernel
theorem dX2_longitude_18 : decode cX2_longitude 18 = .ok (.dreturn, 1) := by decide +kernel
theorem dX2_longitude_19 : decode cX2_longitude 19 = .ok (.aload_n 0, 1) := by decide +kernel
theorem dX2_longitude_20 : decode cX2_longitude 20 = .ok (.iload_n 1, 1) := by decide +kernel
theorem dX2_longitude_21 : decode cX2_longitude 21 = .ok (.dload_n 2, 1) := by decide +kernel
theorem dX2_longitude_22 : decode cX2_longitude 22 = .ok (.invokevirtual 217, 3) := by decide +kernel
theorem dX2_longitude_25 : decode cX2_longitude 25 = .ok (.dstore 4, 2) := by decide +kernel
theorem dX2_longitude_27 : decode cX2_longitude 27 = .ok (.aload_n 0, 1) := by decide +kernel
theorem dX2_longitude_28 : decode cX2_longitude 28 = .ok (.aload_n 0, 1) := by decide +kernel
theorem dX2_longitude_29 : decode cX2_longitude 29 = .ok (.getfield 202, 3) := by decide +kernel
theorem dX2_longitude_32 : decode cX2_longitude 32 = .ok (.ifCond .eq 7, 3) := by decide +kernel
theorem dX2_longitude_35 : decode cX2_longitude 35 = .ok (.iconst 3, 1) := by decide +kernel
theorem dX2_longitude_36 : decode cX2_longitude 36 = .ok (.goto 4, 3) := by decide +kernel
theorem dX2_longitude_39 : decode cX2_longitude 39 = .ok (.iconst 0, 1) := by decide +kernel
theorem dX2_longitude_40 : decode cX2_longitude 40 = .ok (.putfield 30, 3) := by decide +kernel
theorem dX2_longitude_43 : decode cX2_longitude 43 = .ok (.dload 4, 2) := by decide +kernel
theorem dX2_longitude_45 : decode cX2_longitude 45 = .ok (.dreturn, 1) := by decide +kernel
set_option maxRecDepth 20000 in
theorem ggX2_height_X2_bar : GoodIn wsX2_height wsX2_bar := goodIn_r _ [7, 8, 9, 10, 11, 12, 6, 13, 14, 15, 16, 17, 77, 78, 79, 80, 81, 82, 83, 84, 85, 86, 87, 88, 89] (by decide +kernel) (by decide +kernel)
set_option maxRecDepth 20000 in
theorem gX2_height_X2_bar : GoodIn wsX2_height (wsV RX2 232 RX2 yX2_bar wsX2_bar) := goodIn_app (goodIn_of _ (by decide +kernel)) ggX2_height_X2_bar
set_option maxRecDepth 20000 in
theorem ggX2_height_X2_above : GoodIn wsX2_height wsX2_above := goodIn_r _ [21, 22, 23, 24, 25, 26, 27, 28, 6, 29, 30, 31, 32, 33, 34, 2, 35, 36, 37, 38, 39, 40, 41, 42, 43, 44, 45, 46, 47, 48, 49, 50, 51, 52, 53, 54, 55, 56, 57, 58, 59, 60, 61, 62, 63, 64, 65, 66, 67, 68, 69, 70, 71, 72, 73, 74, 75, 76, 77, 78, 79, 80, 81, 82, 83, 84, 85, 86, 87, 88, 89] (by decide +kernel) (by decide +kernel)
set_option maxRecDepth 20000 in
theorem gX2_height_X2_above : GoodIn wsX2_height (wsV RX2 236 RX2 yX2_above wsX2_above) := goodIn_app (goodIn_of _ (by decide +kernel)) ggX2_height_X2_above
theorem dX2_height_0 : decode cX2_height 0 = .ok (.aload_n 0, 1) := by decide +kernel
theorem dX2_height_1 : decode cX2_height 1 = .ok (.aload_n 0, 1) := by decide +kernel
theorem dX2_height_2 : decode cX2_height 2 = .ok (.iload_n 1, 1) := by decide +kernel
theorem dX2_height_3 : decode cX2_height 3 = .ok (.dload_n 2, 1) := by decide +kernel
theorem dX2_height_4 : decode cX2_height 4 = .ok (.invokevirtual 232, 3) := by decide +kernel
theorem dX2_height_7 : decode cX2_height 7 = .ok (.putfield 30, 3) := by decide +kernel
theorem dX2_height_10 : decode cX2_height 10 = .ok (.aload_n 0, 1) := by decide +kernel
theorem dX2_height_11 : decode cX2_height 11 = .ok (.getfield 30, 3) := by decide +kernel
theorem dX2_height_14 : decode cX2_height 14 = .ok (.ifCond .le 5, 3) := by decide +kernel
theorem dX2_height_17 : decode cX2_height 17 = .ok (.dconst 0, 1) := by decide +kernel
theorem dX2_height_18 : decode cX2_height 18 = .ok (.dreturn, 1) := by decide +kernel
theorem dX2_height_19 : decode cX2_height 19 = .ok (.aload_n 0, 1) := by decide +kernel
theorem dX2_height_20 : decode cX2_height 20 = .ok (.iload_n 1, 1) := by decide +kernel
theorem dX2_height_21 : decode cX2_height 21 = .ok (.dload_n 2, 1) := by decide +kernel
theorem dX2_height_22 : decode cX2_height 22 = .ok (.invokevirtual 236, 3) := by decide +kernel
theorem dX2_height_25 : decode cX2_height 25 = .ok (.dstore 4, 2) := by decide +kernel
theorem dX2_height_27 : decode cX2_height 27 = .ok (.aload_n 0, 1) := by decide +kernel
theorem dX2_height_28 : decode cX2_height 28 = .ok (.aload_n 0, 1) := by decide +kernel
theorem dX2_height_29 : decode cX2_height 29 = .ok (.getfield 202, 3) := by decide +kernel
theorem dX2_height_32 : decode cX2_height 32 = .ok (.ifCond .eq 7, 3) := by decide +kernel
theorem dX2_height_35 : decode cX2_height 35 = .ok (.iconst 3, 1) := by decide +kernel
theorem dX2_height_36 : decode cX2_height 36 = .ok (.goto 4, 3) := by decide +kernel
theorem dX2_height_39 : decode cX2_height 39 = .ok (.iconst 0, 1) := by decide +kernel
theorem dX2_height_40 : decode cX2_height 40 = .ok (.putfield 30, 3) := by decide +kernel
theorem dX2_height_43 : decode cX2_height 43 = .ok (.dload 4, 2) := by decide +kernel
theorem dX2_height_45 : decode cX2_height 45 = .ok (.dreturn, 1) := by decide +kernel
set_option maxRecDepth 20000 in
theorem ggX2_crossing_X2_above : GoodIn wsX2_crossing wsX2_above := goodIn_r _ [7, 8, 9, 10, 11, 12, 13, 14, 6, 15, 16, 17, 18, 19, 20, 2, 21, 22, 1, 23, 24, 25, 26, 27, 28, 29, 30, 31, 32, 33, 34, 35, 36, 37, 38, 39, 40, 41, 42, 43, 44, 45, 46, 47, 48, 49, 50, 51, 52, 53, 54, 55, 56, 57, 58, 59, 60, 61, 62, 63, 64, 65, 66, 67, 68, 69, 70, 71, 72, 73, 74] (by decide +kernel) (by decide +kernel)
set_option maxRecDepth 20000 in
theorem gX2_crossing_X2_above : GoodIn wsX2_crossing (wsV RX2 236 RX2 yX2_above wsX2_above) := goodIn_app (goodIn_of _ (by decide +kernel)) ggX2_crossing_X2_above
theorem dX2_crossing_0 : decode cX2_crossing 0 = .ok (.dload_n 2, 1) := by decide +kernel
theorem dX2_crossing_1 : decode cX2_crossing 1 = .ok (.dstore 7, 2) := by decide +kernel
theorem dX2_crossing_3 : decode cX2_crossing 3 = .ok (.dload 4, 2) := by decide +kernel
theorem dX2_crossing_5 : decode cX2_crossing 5 = .ok (.dstore 9, 2) := by decide +kernel
theorem dX2_crossing_7 : decode cX2_crossing 7 = .ok (.iconst 0, 1) := by decide +kernel
theorem dX2_crossing_8 : decode cX2_crossing 8 = .ok (.istore 11, 2) := by decide +kernel
theorem dX2_crossing_10 : decode cX2_crossing 10 = .ok (.iload 11, 2) := by decide +kernel
theorem dX2_crossing_12 : decode cX2_crossing 12 = .ok (.bipush 20, 2) := by decide +kernel
theorem dX2_crossing_14 : decode cX2_crossing 14 = .ok (.if_icmp .ge 90, 3) := by decide +kernel
theorem dX2_crossing_17 : decode cX2_crossing 17 = .ok (.dload 7, 2) := by decide +kernel
theorem dX2_crossing_19 : decode cX2_crossing 19 = .ok (.dload 9, 2) := by decide +kernel
theorem dX2_crossing_21 : decode cX2_crossing 21 = .ok (.dadd, 1) := by decide +kernel
theorem dX2_crossing_22 : decode cX2_crossing 22 = .ok (.ldc2_w 209, 3) := by decide +kernel
theorem dX2_crossing_25 : decode cX2_crossing 25 = .ok (.ddiv, 1) := by decide +kernel
theorem dX2_crossing_26 : decode cX2_crossing 26 = .ok (.dstore 12, 2) := by decide +kernel
theorem dX2_crossing_28 : decode cX2_crossing 28 = .ok (.aload_n 0, 1) := by decide +kernel
theorem dX2_crossing_29 : decode cX2_crossing 29 = .ok (.iload_n 1, 1) := by decide +kernel
theorem dX2_crossing_30 : decode cX2_crossing 30 = .ok (.dload 12, 2) := by decide +kernel
theorem dX2_crossing_32 : decode cX2_crossing 32 = .ok (.invokevirtual 236, 3) := by decide +kernel
theorem dX2_crossing_35 : decode cX2_crossing 35 = .ok (.dstore 14, 2) := by decide +kernel
theorem dX2_crossing_37 : decode cX2_crossing 37 = .ok (.aload_n 0, 1) := by decide +kernel
theorem dX2_crossing_38 : decode cX2_crossing 38 = .ok (.getfield 202, 3) := by decide +kernel
theorem dX2_crossing_41 : decode cX2_crossing 41 = .ok (.ifCond .eq 5, 3) := by decide +kernel
theorem dX2_crossing_44 : decode cX2_crossing 44 = .ok (.dconst 0, 1) := by decide +kernel
theorem dX2_crossing_45 : decode cX2_crossing 45 = .ok (.dreturn, 1) := by decide +kernel
theorem dX2_crossing_46 : decode cX2_crossing 46 = .ok (.dload 14, 2) := by decide +kernel
theorem dX2_crossing_48 : decode cX2_crossing 48 = .ok (.dconst 0, 1) := by decide +kernel
theorem dX2_crossing_49 : decode cX2_crossing 49 = .ok (.dcmp .l, 1) := by decide +kernel
theorem dX2_crossing_50 : decode cX2_crossing 50 = .ok (.ifCond .lt 7, 3) := by decide +kernel
theorem dX2_crossing_53 : decode cX2_crossing 53 = .ok (.iconst 1, 1) := by decide +kernel
theorem dX2_crossing_54 : decode cX2_crossing 54 = .ok (.goto 4, 3) := by decide +kernel
theorem dX2_crossing_57 : decode cX2_crossing 57 = .ok (.iconst 0, 1) := by decide +kernel
theorem dX2_crossing_58 : decode cX2_crossing 58 = .ok (.iload 6, 2) := by decide +kernel
theorem dX2_crossing_60 : decode cX2_crossing 60 = .ok (.if_icmp .ne 7, 3) := by decide +kernel
theorem dX2_crossing_63 : decode cX2_crossing 63 = .ok (.iconst 1, 1) := by decide +kernel
theorem dX2_crossing_64 : decode cX2_crossing 64 = .ok (.goto 4, 3) := by decide +kernel
theorem dX2_crossing_67 : decode cX2_crossing 67 = .ok (.iconst 0, 1) := by decide +kernel
theorem dX2_crossing_68 : decode cX2_crossing 68 = .ok (.istore 16, 2) := by decide +kernel
theorem dX2_crossing_70 : decode cX2_crossing 70 = .ok (.iload 16, 2) := by decide +kernel
theorem dX2_crossing_72 : decode cX2_crossing 72 = .ok (.ifCond .eq 8, 3) := by decide +kernel
theorem dX2_crossing_75 : decode cX2_crossing 75 = .ok (.dload 12, 2) := by decide +kernel
theorem dX2_crossing_77 : decode cX2_crossing 77 = .ok (.goto 5, 3) := by decide +kernel
theorem dX2_crossing_80 : decode cX2_crossing 80 = .ok (.dload 9, 2) := by decide +kernel
theorem dX2_crossing_82 : decode cX2_crossing 82 = .ok (.dstore 9, 2) := by decide +kernel
theorem dX2_crossing_84 : decode cX2_crossing 84 = .ok (.iload 16, 2) := by decide +kernel
theorem dX2_crossing_86 : decode cX2_crossing 86 = .ok (.ifCond .eq 8, 3) := by decide +kernel
theorem dX2_crossing_89 : decode cX2_crossing 89 = .ok (.dload 7, 2) := by decide +kernel
theorem dX2_crossing_91 : decode cX2_crossing 91 = .ok (.goto 5, 3) := by decide +kernel
theorem dX2_crossing_94 : decode cX2_crossing 94 = .ok (.dload 12, 2) := by decide +kernel
theorem dX2_crossing_96 : decode cX2_crossing 96 = .ok (.dstore 7, 2) := by decide +kernel
theorem dX2_crossing_98 : decode cX2_crossing 98 = .ok (.iinc 11 1, 3) := by decide +kernel
theorem dX2_crossing_101 : decode cX2_crossing 101 = .ok (.goto (-91), 3) := by decide +kernel
theorem dX2_crossing_104 : decode cX2_crossing 104 = .ok (.dload 9, 2) := by decide +kernel
theorem dX2_crossing_106 : decode cX2_crossing 106 = .ok (.dreturn, 1) := by decide +kernel
set_option maxRecDepth 20000 in
theorem ggX2_passes_X2_above : GoodIn wsX2_passes wsX2_above := goodIn_r _ [8, 9, 10, 11, 12, 13, 14, 15, 7, 16, 17, 18, 19, 20, 21, 1, 22, 23, 24, 25, 26, 27, 28, 29, 30, 31, 32, 33, 34, 35, 36, 37, 38, 39, 40, 41, 42, 43, 44, 45, 46, 47, 48, 49, 50, 51, 52, 53, 54, 55, 56, 57, 58, 59, 60, 61, 62, 63, 72, 73, 74, 75, 76, 77, 78, 79, 80, 81, 82, 83, 84] (by decide +kernel) (by decide +kernel)
set_option maxRecDepth 20000 in
theorem gX2_passes_X2_above : GoodIn wsX2_passes (wsV RX2 236 RX2 yX2_above wsX2_above) := goodIn_app (goodIn_of _ (by decide +kernel)) ggX2_passes_X2_above
set_option maxRecDepth 20000 in
theorem ggX2_passes_X2_crossing : GoodIn wsX2_passes wsX2_crossing := goodIn_r _ [67, 24, 1, 4, 5, 6, 7, 8, 9, 10, 11, 12, 13, 14, 15, 16, 17, 18, 19, 20, 21, 22, 23, 25, 26, 27, 28, 29, 30, 31, 32, 33, 34, 35, 36, 37, 38, 39, 40, 41, 42, 43, 44, 45, 46, 47, 48, 49, 50, 51, 52, 53, 54, 55, 56, 57, 58, 59, 60, 61, 62, 63, 72, 73, 74, 75, 76, 77, 78, 79, 80, 81, 82, 83, 84] (by decide +kernel) (by decide +kernel)
set_option maxRecDepth 20000 in
theorem gX2_passes_X2_crossing : GoodIn wsX2_passes (wsV RX2 241 RX2 yX2_crossing wsX2_crossing) := goodIn_app (goodIn_of _ (by decide +kernel)) ggX2_passes_X2_crossing
set_option maxRecDepth 20000 in
theorem ggX2_passes_X2_fail : GoodIn wsX2_passes wsX2_fail := goodIn_r _ [71, 3, 72, 73, 74, 75, 76, 77, 78, 79, 80, 81, 82, 83, 84] (by decide +kernel) (by decide +kernel)
set_option maxRecDepth 20000 in
theorem gX2_passes_X2_fail : GoodIn wsX2_passes (wsV RX2 77 RX2 yX2_fail wsX2_fail) := goodIn_app (goodIn_of _ (by decide +kernel)) ggX2_passes_X2_fail
theorem dX2_passes_0 : decode cX2_passes 0 = .ok (.aload_n 0, 1) := by decide +kernel
theorem dX2_passes_1 : decode cX2_passes 1 = .ok (.iload_n 1, 1) := by decide +kernel
theorem dX2_passes_2 : decode cX2_passes 2 = .ok (.dload_n 2, 1) := by decide +kernel
theorem dX2_passes_3 : decode cX2_passes 3 = .ok (.dconst 0, 1) := by decide +kernel
theorem dX2_passes_4 : decode cX2_passes 4 = .ok (.dadd, 1) := by decide +kernel
theorem dX2_passes_5 : decode cX2_passes 5 = .ok (.invokevirtual 236, 3) := by decide +kernel
theorem dX2_passes_8 : decode cX2_passes 8 = .ok (.dstore 5, 2) := by decide +kernel
theorem dX2_passes_10 : decode cX2_passes 10 = .ok (.iconst 1, 1) := by decide +kernel
theorem dX2_passes_11 : decode cX2_passes 11 = .ok (.istore 7, 2) := by decide +kernel
theorem dX2_passes_13 : decode cX2_passes 13 = .ok (.iload 7, 2) := by decide +kernel
theorem dX2_passes_15 : decode cX2_passes 15 = .ok (.bipush 16, 2) := by decide +kernel
theorem dX2_passes_17 : decode cX2_passes 17 = .ok (.if_icmp .gt 125, 3) := by decide +kernel
theorem dX2_passes_20 : decode cX2_passes 20 = .ok (.aload_n 0, 1) := by decide +kernel
theorem dX2_passes_21 : decode cX2_passes 21 = .ok (.getfield 202, 3) := by decide +kernel
theorem dX2_passes_24 : decode cX2_passes 24 = .ok (.ifCond .ne 118, 3) := by decide +kernel
theorem dX2_passes_27 : decode cX2_passes 27 = .ok (.aload_n 0, 1) := by decide +kernel
theorem dX2_passes_28 : decode cX2_passes 28 = .ok (.iload_n 1, 1) := by decide +kernel
theorem dX2_passes_29 : decode cX2_passes 29 = .ok (.dload_n 2, 1) := by decide +kernel
theorem dX2_passes_30 : decode cX2_passes 30 = .ok (.iload 7, 2) := by decide +kernel
theorem dX2_passes_32 : decode cX2_passes 32 = .ok (.i2d, 1) := by decide +kernel
theorem dX2_passes_33 : decode cX2_passes 33 = .ok (.ldc2_w 239, 3) := by decide +kernel
theorem dX2_passes_36 : decode cX2_passes 36 = .ok (.ddiv, 1) := by decide +kernel
theorem dX2_passes_37 : decode cX2_passes 37 = .ok (.dadd, 1) := by decide +kernel
theorem dX2_passes_38 : decode cX2_passes 38 = .ok (.invokevirtual 236, 3) := by decide +kernel
theorem dX2_passes_41 : decode cX2_passes 41 = .ok (.dstore 8, 2) := by decide +kernel
theorem dX2_passes_43 : decode cX2_passes 43 = .ok (.aload_n 0, 1) := by decide +kernel
theorem dX2_passes_44 : decode cX2_passes 44 = .ok (.getfield 202, 3) := by decide +kernel
theorem dX2_passes_47 : decode cX2_passes 47 = .ok (.ifCond .ne 85, 3) := by decide +kernel
theorem dX2_passes_50 : decode cX2_passes 50 = .ok (.dload 8, 2) := by decide +kernel
theorem dX2_passes_52 : decode cX2_passes 52 = .ok (.dconst 0, 1) := by decide +kernel
theorem dX2_passes_53 : decode cX2_passes 53 = .ok (.dcmp .l, 1) := by decide +kernel
theorem dX2_passes_54 : decode cX2_passes 54 = .ok (.ifCond .lt 7, 3) := by decide +kernel
theorem dX2_passes_57 : decode cX2_passes 57 = .ok (.iconst 1, 1) := by decide +kernel
theorem dX2_passes_58 : decode cX2_passes 58 = .ok (.goto 4, 3) := by decide +kernel
theorem dX2_passes_61 : decode cX2_passes 61 = .ok (.iconst 0, 1) := by decide +kernel
theorem dX2_passes_62 : decode cX2_passes 62 = .ok (.iload 4, 2) := by decide +kernel
theorem dX2_passes_64 : decode cX2_passes 64 = .ok (.if_icmp .ne 68, 3) := by decide +kernel
theorem dX2_passes_67 : decode cX2_passes 67 = .ok (.dload 5, 2) := by decide +kernel
theorem dX2_passes_69 : decode cX2_passes 69 = .ok (.dconst 0, 1) := by decide +kernel
theorem dX2_passes_70 : decode cX2_passes 70 = .ok (.dcmp .l, 1) := by decide +kernel
theorem dX2_passes_71 : decode cX2_passes 71 = .ok (.ifCond .lt 7, 3) := by decide +kernel
theorem dX2_passes_74 : decode cX2_passes 74 = .ok (.iconst 1, 1) := by decide +kernel
theorem dX2_passes_75 : decode cX2_passes 75 = .ok (.goto 4, 3) := by decide +kernel
theorem dX2_passes_78 : decode cX2_passes 78 = .ok (.iconst 0, 1) := by decide +kernel
theorem dX2_passes_79 : decode cX2_passes 79 = .ok (.iload 4, 2) := by decide +kernel
theorem dX2_passes_81 : decode cX2_passes 81 = .ok (.if_icmp .eq 51, 3) := by decide +kernel
theorem dX2_passes_84 : decode cX2_passes 84 = .ok (.aload_n 0, 1) := by decide +kernel
theorem dX2_passes_85 : decode cX2_passes 85 = .ok (.iload_n 1, 1) := by decide +kernel
theorem dX2_passes_86 : decode cX2_passes 86 = .ok (.dload_n 2, 1) := by decide +kernel
theorem dX2_passes_87 : decode cX2_passes 87 = .ok (.iload 7, 2) := by decide +kernel
theorem dX2_passes_89 : decode cX2_passes 89 = .ok (.iconst 1, 1) := by decide +kernel
theorem dX2_passes_90 : decode cX2_passes 90 = .ok (.isub, 1) := by decide +kernel
theorem dX2_passes_91 : decode cX2_passes 91 = .ok (.i2d, 1) := by decide +kernel
theorem dX2_passes_92 : decode cX2_passes 92 = .ok (.ldc2_w 239, 3) := by decide +kernel
theorem dX2_passes_95 : decode cX2_passes 95 = .ok (.ddiv, 1) := by decide +kernel
theorem dX2_passes_96 : decode cX2_passes 96 = .ok (.dadd, 1) := by decide +kernel
theorem dX2_passes_97 : decode cX2_passes 97 = .ok (.dload_n 2, 1) := by decide +kernel
theorem dX2_passes_98 : decode cX2_passes 98 = .ok (.iload 7, 2) := by decide +kernel
theorem dX2_passes_100 : decode cX2_passes 100 = .ok (.i2d, 1) := by decide +kernel
theorem dX2_passes_101 : decode cX2_passes 101 = .ok (.ldc2_w 239, 3) := by decide +kernel
theorem dX2_passes_104 : decode cX2_passes 104 = .ok (.ddiv, 1) := by decide +kernel
theorem dX2_passes_105 : decode cX2_passes 105 = .ok (.dadd, 1) := by decide +kernel
theorem dX2_passes_106 : decode cX2_passes 106 = .ok (.iload 4, 2) := by decide +kernel
theorem dX2_passes_108 : decode cX2_passes 108 = .ok (.invokevirtual 241, 3) := by decide +kernel
theorem dX2_passes_111 : decode cX2_passes 111 = .ok (.dstore 10, 2) := by decide +kernel
theorem dX2_passes_113 : decode cX2_passes 113 = .ok (.aload_n 0, 1) := by decide +kernel
theorem dX2_passes_114 : decode cX2_passes 114 = .ok (.aload_n 0, 1) := by decide +kernel
theorem dX2_passes_115 : decode cX2_passes 115 = .ok (.getfield 202, 3) := by decide +kernel
theorem dX2_passes_118 : decode cX2_passes 118 = .ok (.ifCond .eq 7, 3) := by decide +kernel
theorem dX2_passes_121 : decode cX2_passes 121 = .ok (.iconst 3, 1) := by decide +kernel
theorem dX2_passes_122 : decode cX2_passes 122 = .ok (.goto 4, 3) := by decide +kernel
theorem dX2_passes_125 : decode cX2_passes 125 = .ok (.iconst 0, 1) := by decide +kernel
theorem dX2_passes_126 : decode cX2_passes 126 = .ok (.putfield 30, 3) := by decide +kernel
theorem dX2_passes_129 : decode cX2_passes 129 = .ok (.dload 10, 2) := by decide +kernel
theorem dX2_passes_131 : decode cX2_passes 131 = .ok (.dreturn, 1) := by decide +kernel
theorem dX2_passes_132 : decode cX2_passes 132 = .ok (.dload 8, 2) := by decide +kernel
theorem dX2_passes_134 : decode cX2_passes 134 = .ok (.dstore 5, 2) := by decide +kernel
theorem dX2_passes_136 : decode cX2_passes 136 = .ok (.iinc 7 1, 3) := by decide +kernel
theorem dX2_passes_139 : decode cX2_passes 139 = .ok (.goto (-126), 3) := by decide +kernel
theorem dX2_passes_142 : decode cX2_passes 142 = .ok (.aload_n 0, 1) := by decide +kernel
theorem dX2_passes_143 : decode cX2_passes 143 = .ok (.aload_n 0, 1) := by decide +kernel
theorem dX2_passes_144 : decode cX2_passes 144 = .ok (.getfield 202, 3) := by decide +kernel
theorem dX2_passes_147 : decode cX2_passes 147 = .ok (.ifCond .eq 7, 3) := by decide +kernel
theorem dX2_passes_150 : decode cX2_passes 150 = .ok (.iconst 3, 1) := by decide +kernel
theorem dX2_passes_151 : decode cX2_passes 151 = .ok (.goto 4, 3) := by decide +kernel
theorem dX2_passes_154 : decode cX2_passes 154 = .ok (.iconst 2, 1) := by decide +kernel
theorem dX2_passes_155 : decode cX2_passes 155 = .ok (.invokevirtual 77, 3) := by decide +kernel
theorem dX2_passes_158 : decode cX2_passes 158 = .ok (.i2d, 1) := by decide +kernel
theorem dX2_passes_159 : decode cX2_passes 159 = .ok (.dreturn, 1) := by decide +kernel
set_option maxRecDepth 20000 in
theorem ggX2_highest_X2_above : GoodIn wsX2_highest wsX2_above := goodIn_r _ [9, 10, 11, 12, 13, 14, 15, 16, 8, 17, 18, 19, 20, 21, 22, 1, 23, 24, 4, 25, 26, 27, 28, 29, 30, 31, 32, 33, 34, 35, 36, 37, 38, 39, 40, 41, 42, 43, 44, 45, 46, 47, 48, 49, 50, 51, 52, 53, 54, 55, 56, 57, 58, 59, 60, 61, 62, 63, 69, 70, 71, 72, 73, 74, 75, 76, 77, 78, 79, 80, 81] (by decide +kernel) (by decide +kernel)
set_option maxRecDepth 20000 in
theorem gX2_highest_X2_above : GoodIn wsX2_highest (wsV RX2 236 RX2 yX2_above wsX2_above) := goodIn_app (goodIn_of _ (by decide +kernel)) ggX2_highest_X2_above
set_option maxRecDepth 20000 in
theorem ggX2_highest_X2_fail : GoodIn wsX2_highest wsX2_fail := goodIn_r _ [67, 68, 69, 70, 71, 72, 73, 74, 75, 76, 77, 78, 79, 80, 81] (by decide +kernel) (by decide +kernel)
set_option maxRecDepth 20000 in
theorem gX2_highest_X2_fail : GoodIn wsX2_highest (wsV RX2 77 RX2 yX2_fail wsX2_fail) := goodIn_app (goodIn_of _ (by decide +kernel)) ggX2_highest_X2_fail
theorem dX2_highest_0 : decode cX2_highest 0 = .ok (.iconst 0, 1) := by decide +kernel
theorem dX2_highest_1 : decode cX2_highest 1 = .ok (.istore 4, 2) := by decide +kernel
theorem dX2_highest_3 : decode cX2_highest 3 = .ok (.dconst 0, 1) := by decide +kernel
theorem dX2_highest_4 : decode cX2_highest 4 = .ok (.dstore 5, 2) := by decide +kernel
theorem dX2_highest_6 : decode cX2_highest 6 = .ok (.aload_n 0, 1) := by decide +kernel
theorem dX2_highest_7 : decode cX2_highest 7 = .ok (.iconst 0, 1) := by decide +kernel
theorem dX2_highest_8 : decode cX2_highest 8 = .ok (.putfield 202, 3) := by decide +kernel
theorem dX2_highest_11 : decode cX2_highest 11 = .ok (.iconst 1, 1) := by decide +kernel
theorem dX2_highest_12 : decode cX2_highest 12 = .ok (.istore 7, 2) := by decide +kernel
theorem dX2_highest_14 : decode cX2_highest 14 = .ok (.iload 7, 2) := by decide +kernel
theorem dX2_highest_16 : decode cX2_highest 16 = .ok (.bipush 15, 2) := by decide +kernel
theorem dX2_highest_18 : decode cX2_highest 18 = .ok (.if_icmp .gt 80, 3) := by decide +kernel
theorem dX2_highest_21 : decode cX2_highest 21 = .ok (.aload_n 0, 1) := by decide +kernel
theorem dX2_highest_22 : decode cX2_highest 22 = .ok (.getfield 202, 3) := by decide +kernel
theorem dX2_highest_25 : decode cX2_highest 25 = .ok (.ifCond .ne 73, 3) := by decide +kernel
theorem dX2_highest_28 : decode cX2_highest 28 = .ok (.aload_n 0, 1) := by decide +kernel
theorem dX2_highest_29 : decode cX2_highest 29 = .ok (.iload_n 1, 1) := by decide +kernel
theorem dX2_highest_30 : decode cX2_highest 30 = .ok (.dload_n 2, 1) := by decide +kernel
theorem dX2_highest_31 : decode cX2_highest 31 = .ok (.iload 7, 2) := by decide +kernel
theorem dX2_highest_33 : decode cX2_highest 33 = .ok (.i2d, 1) := by decide +kernel
theorem dX2_highest_34 : decode cX2_highest 34 = .ok (.ldc2_w 239, 3) := by decide +kernel
theorem dX2_highest_37 : decode cX2_highest 37 = .ok (.ddiv, 1) := by decide +kernel
theorem dX2_highest_38 : decode cX2_highest 38 = .ok (.dadd, 1) := by decide +kernel
theorem dX2_highest_39 : decode cX2_highest 39 = .ok (.invokevirtual 236, 3) := by decide +kernel
theorem dX2_highest_42 : decode cX2_highest 42 = .ok (.dstore 8, 2) := by decide +kernel
theorem dX2_highest_44 : decode cX2_highest 44 = .ok (.iload 4, 2) := by decide +kernel
theorem dX2_highest_46 : decode cX2_highest 46 = .ok (.ifCond .eq 11, 3) := by decide +kernel
theorem dX2_highest_49 : decode cX2_highest 49 = .ok (.dload 8, 2) := by decide +kernel
theorem dX2_highest_51 : decode cX2_highest 51 = .ok (.dload 5, 2) := by decide +kernel
theorem dX2_highest_53 : decode cX2_highest 53 = .ok (.dcmp .l, 1) := by decide +kernel
theorem dX2_highest_54 : decode cX2_highest 54 = .ok (.ifCond .le 7, 3) := by decide +kernel
theorem dX2_highest_57 : decode cX2_highest 57 = .ok (.iconst 1, 1) := by decide +kernel
theorem dX2_highest_58 : decode cX2_highest 58 = .ok (.goto 4, 3) := by decide +kernel
theorem dX2_highest_61 : decode cX2_highest 61 = .ok (.iconst 0, 1) := by decide +kernel
theorem dX2_highest_62 : decode cX2_highest 62 = .ok (.istore 10, 2) := by decide +kernel
theorem dX2_highest_64 : decode cX2_highest 64 = .ok (.iload 10, 2) := by decide +kernel
theorem dX2_highest_66 : decode cX2_highest 66 = .ok (.ifCond .eq 8, 3) := by decide +kernel
theorem dX2_highest_69 : decode cX2_highest 69 = .ok (.iload 7, 2) := by decide +kernel
theorem dX2_highest_71 : decode cX2_highest 71 = .ok (.goto 5, 3) := by decide +kernel
theorem dX2_highest_74 : decode cX2_highest 74 = .ok (.iload 4, 2) := by decide +kernel
theorem dX2_highest_76 : decode cX2_highest 76 = .ok (.istore 4, 2) := by decide +kernel
theorem dX2_highest_78 : decode cX2_highest 78 = .ok (.iload 10, 2) := by decide +kernel
theorem dX2_highest_80 : decode cX2_highest 80 = .ok (.ifCond .eq 8, 3) := by decide +kernel
theorem dX2_highest_83 : decode cX2_highest 83 = .ok (.dload 8, 2) := by decide +kernel
theorem dX2_highest_85 : decode cX2_highest 85 = .ok (.goto 5, 3) := by decide +kernel
theorem dX2_highest_88 : decode cX2_highest 88 = .ok (.dload 5, 2) := by decide +kernel
theorem dX2_highest_90 : decode cX2_highest 90 = .ok (.dstore 5, 2) := by decide +kernel
theorem dX2_highest_92 : decode cX2_highest 92 = .ok (.iinc 7 1, 3) := by decide +kernel
theorem dX2_highest_95 : decode cX2_highest 95 = .ok (.goto (-81), 3) := by decide +kernel
theorem dX2_highest_98 : decode cX2_highest 98 = .ok (.dload_n 2, 1) := by decide +kernel
theorem dX2_highest_99 : decode cX2_highest 99 = .ok (.iload 4, 2) := by decide +kernel
theorem dX2_highest_101 : decode cX2_highest 101 = .ok (.iconst 1, 1) := by decide +kernel
theorem dX2_highest_102 : decode cX2_highest 102 = .ok (.isub, 1) := by decide +kernel
theorem dX2_highest_103 : decode cX2_highest 103 = .ok (.i2d, 1) := by decide +kernel
theorem dX2_highest_104 : decode cX2_highest 104 = .ok (.ldc2_w 239, 3) := by decide +kernel
theorem dX2_highest_107 : decode cX2_highest 107 = .ok (.ddiv, 1) := by decide +kernel
theorem dX2_highest_108 : decode cX2_highest 108 = .ok (.dadd, 1) := by decide +kernel
theorem dX2_highest_109 : decode cX2_highest 109 = .ok (.dstore 7, 2) := by decide +kernel
theorem dX2_highest_111 : decode cX2_highest 111 = .ok (.dload_n 2, 1) := by decide +kernel
theorem dX2_highest_112 : decode cX2_highest 112 = .ok (.iload 4, 2) := by decide +kernel
theorem dX2_highest_114 : decode cX2_highest 114 = .ok (.iconst 1, 1) := by decide +kernel
theorem dX2_highest_115 : decode cX2_highest 115 = .ok (.iadd, 1) := by decide +kernel
theorem dX2_highest_116 : decode cX2_highest 116 = .ok (.i2d, 1) := by decide +kernel
theorem dX2_highest_117 : decode cX2_highest 117 = .ok (.ldc2_w 239, 3) := by decide +kernel
theorem dX2_highest_120 : decode cX2_highest 120 = .ok (.ddiv, 1) := by decide +kernel
theorem dX2_highest_121 : decode cX2_highest 121 = .ok (.dadd, 1) := by decide +kernel
theorem dX2_highest_122 : decode cX2_highest 122 = .ok (.dstore 9, 2) := by decide +kernel
theorem dX2_highest_124 : decode cX2_highest 124 = .ok (.iconst 0, 1) := by decide +kernel
theorem dX2_highest_125 : decode cX2_highest 125 = .ok (.istore 11, 2) := by decide +kernel
theorem dX2_highest_127 : decode cX2_highest 127 = .ok (.iload 11, 2) := by decide +kernel
theorem dX2_highest_129 : decode cX2_highest 129 = .ok (.bipush 24, 2) := by decide +kernel
theorem dX2_highest_131 : decode cX2_highest 131 = .ok (.if_icmp .ge 116, 3) := by decide +kernel
theorem dX2_highest_134 : decode cX2_highest 134 = .ok (.aload_n 0, 1) := by decide +kernel
theorem dX2_highest_135 : decode cX2_highest 135 = .ok (.getfield 202, 3) := by decide +kernel
theorem dX2_highest_138 : decode cX2_highest 138 = .ok (.ifCond .ne 109, 3) := by decide +kernel
theorem dX2_highest_141 : decode cX2_highest 141 = .ok (.dload 7, 2) := by decide +kernel
theorem dX2_highest_143 : decode cX2_highest 143 = .ok (.dload 9, 2) := by decide +kernel
theorem dX2_highest_145 : decode cX2_highest 145 = .ok (.dload 7, 2) := by decide +kernel
theorem dX2_highest_147 : decode cX2_highest 147 = .ok (.dsub, 1) := by decide +kernel
theorem dX2_highest_148 : decode cX2_highest 148 = .ok (.ldc2_w 245, 3) := by decide +kernel
theorem dX2_highest_151 : decode cX2_highest 151 = .ok (.ddiv, 1) := by decide +kernel
theorem dX2_highest_152 : decode cX2_highest 152 = .ok (.dadd, 1) := by decide +kernel
theorem dX2_highest_153 : decode cX2_highest 153 = .ok (.dstore 12, 2) := by decide +kernel
theorem dX2_highest_155 : decode cX2_highest 155 = .ok (.dload 9, 2) := by decide +kernel
theorem dX2_highest_157 : decode cX2_highest 157 = .ok (.dload 9, 2) := by decide +kernel
theorem dX2_highest_159 : decode cX2_highest 159 = .ok (.dload 7, 2) := by decide +kernel
theorem dX2_highest_161 : decode cX2_highest 161 = .ok (.dsub, 1) := by decide +kernel
theorem dX2_highest_162 : decode cX2_highest 162 = .ok (.ldc2_w 245, 3) := by decide +kernel
theorem dX2_highest_165 : decode cX2_highest 165 = .ok (.ddiv, 1) := by decide +kernel
theorem dX2_highest_166 : decode cX2_highest 166 = .ok (.dsub, 1) := by decide +kernel
theorem dX2_highest_167 : decode cX2_highest 167 = .ok (.dstore 14, 2) := by decide +kernel
theorem dX2_highest_169 : decode cX2_highest 169 = .ok (.aload_n 0, 1) := by decide +kernel
theorem dX2_highest_170 : decode cX2_highest 170 = .ok (.iload_n 1, 1) := by decide +kernel
theorem dX2_highest_171 : decode cX2_highest 171 = .ok (.dload 12, 2) := by decide +kernel
theorem dX2_highest_173 : decode cX2_highest 173 = .ok (.invokevirtual 236, 3) := by decide +kernel
theorem dX2_highest_176 : decode cX2_highest 176 = .ok (.dstore 16, 2) := by decide +kernel
theorem dX2_highest_178 : decode cX2_highest 178 = .ok (.aload_n 0, 1) := by decide +kernel
theorem dX2_highest_179 : decode cX2_highest 179 = .ok (.getfield 202, 3) := by decide +kernel
theorem dX2_highest_182 : decode cX2_highest 182 = .ok (.ifCond .eq 7, 3) := by decide +kernel
theorem dX2_highest_185 : decode cX2_highest 185 = .ok (.dconst 0, 1) := by decide +kernel
theorem dX2_highest_186 : decode cX2_highest 186 = .ok (.goto 10, 3) := by decide +kernel
theorem dX2_highest_189 : decode cX2_highest 189 = .ok (.aload_n 0, 1) := by decide +kernel
theorem dX2_highest_190 : decode cX2_highest 190 = .ok (.iload_n 1, 1) := by decide +kernel
theorem dX2_highest_191 : decode cX2_highest 191 = .ok (.dload 14, 2) := by decide +kernel
theorem dX2_highest_193 : decode cX2_highest 193 = .ok (.invokevirtual 236, 3) := by decide +kernel
theorem dX2_highest_196 : decode cX2_highest 196 = .ok (.dstore 18, 2) := by decide +kernel
theorem dX2_highest_198 : decode cX2_highest 198 = .ok (.dload 16, 2) := by decide +kernel
theorem dX2_highest_200 : decode cX2_highest 200 = .ok (.dload 18, 2) := by decide +kernel
theorem dX2_highest_202 : decode cX2_highest 202 = .ok (.dcmp .g, 1) := by decide +kernel
theorem dX2_highest_203 : decode cX2_highest 203 = .ok (.ifCond .ge 7, 3) := by decide +kernel
theorem dX2_highest_206 : decode cX2_highest 206 = .ok (.iconst 1, 1) := by decide +kernel
theorem dX2_highest_207 : decode cX2_highest 207 = .ok (.goto 4, 3) := by decide +kernel
theorem dX2_highest_210 : decode cX2_highest 210 = .ok (.iconst 0, 1) := by decide +kernel
theorem dX2_highest_211 : decode cX2_highest 211 = .ok (.istore 20, 2) := by decide +kernel
theorem dX2_highest_213 : decode cX2_highest 213 = .ok (.iload 20, 2) := by decide +kernel
theorem dX2_highest_215 : decode cX2_highest 215 = .ok (.ifCond .eq 8, 3) := by decide +kernel
theorem dX2_highest_218 : decode cX2_highest 218 = .ok (.dload 12, 2) := by decide +kernel
theorem dX2_highest_220 : decode cX2_highest 220 = .ok (.goto 5, 3) := by decide +kernel
theorem dX2_highest_223 : decode cX2_highest 223 = .ok (.dload 7, 2) := by decide +kernel
theorem dX2_highest_225 : decode cX2_highest 225 = .ok (.dstore 7, 2) := by decide +kernel
theorem dX2_highest_227 : decode cX2_highest 227 = .ok (.iload 20, 2) := by decide +kernel
theorem dX2_highest_229 : decode cX2_highest 229 = .ok (.ifCond .eq 8, 3) := by decide +kernel
theorem dX2_highest_232 : decode cX2_highest 232 = .ok (.dload 9, 2) := by decide +kernel
theorem dX2_highest_234 : decode cX2_highest 234 = .ok (.goto 5, 3) := by decide +kernel
theorem dX2_highest_237 : decode cX2_highest 237 = .ok (.dload 14, 2) := by decide +kernel
theorem dX2_highest_239 : decode cX2_highest 239 = .ok (.dstore 9, 2) := by decide +kernel
theorem dX2_highest_241 : decode cX2_highest 241 = .ok (.iinc 11 1, 3) := by decide +kernel
theorem dX2_highest_244 : decode cX2_highest 244 = .ok (.goto (-117), 3) := by decide +kernel
theorem dX2_highest_247 : decode cX2_highest 247 = .ok (.aload_n 0, 1) := by decide +kernel
theorem dX2_highest_248 : decode cX2_highest 248 = .ok (.getfield 202, 3) := by decide +kernel
theorem dX2_highest_251 : decode cX2_highest 251 = .ok (.ifCond .eq 10, 3) := by decide +kernel
theorem dX2_highest_254 : decode cX2_highest 254 = .ok (.aload_n 0, 1) := by decide +kernel
theorem dX2_highest_255 : decode cX2_highest 255 = .ok (.iconst 3, 1) := by decide +kernel
theorem dX2_highest_256 : decode cX2_highest 256 = .ok (.invokevirtual 77, 3) := by decide +kernel
theorem dX2_highest_259 : decode cX2_highest 259 = .ok (.i2d, 1) := by decide +kernel
theorem dX2_highest_260 : decode cX2_highest 260 = .ok (.dreturn, 1) := by decide +kernel
theorem dX2_highest_261 : decode cX2_highest 261 = .ok (.dload 7, 2) := by decide +kernel
theorem dX2_highest_263 : decode cX2_highest 263 = .ok (.dload 9, 2) := by decide +kernel
theorem dX2_highest_265 : decode cX2_highest 265 = .ok (.dadd, 1) := by decide +kernel
theorem dX2_highest_266 : decode cX2_highest 266 = .ok (.ldc2_w 209, 3) := by decide +kernel
theorem dX2_highest_269 : decode cX2_highest 269 = .ok (.ddiv, 1) := by decide +kernel
theorem dX2_highest_270 : decode cX2_highest 270 = .ok (.dreturn, 1) := by decide +kernel
set_option maxRecDepth 20000 in
theorem ggX2_event_X2_fail : GoodIn wsX2_event wsX2_fail := goodIn_r _ [8, 1, 88, 89, 90, 91, 92, 93, 94, 95, 96, 97, 98, 99, 100] (by decide +kernel) (by decide +kernel)
set_option maxRecDepth 20000 in
theorem gX2_event_X2_fail : GoodIn wsX2_event (wsV RX2 77 RX2 yX2_fail wsX2_fail) := goodIn_app (goodIn_of _ (by decide +kernel)) ggX2_event_X2_fail
set_option maxRecDepth 20000 in
theorem ggX2_event_X2_noBody : GoodIn wsX2_event wsX2_noBody := goodIn_r _ [12, 13, 88, 89, 90, 91, 92, 93, 94, 95, 96, 97, 98, 99, 100] (by decide +kernel) (by decide +kernel)
set_option maxRecDepth 20000 in
theorem gX2_event_X2_noBody : GoodIn wsX2_event (wsV RX2 166 RX2 yX2_noBody wsX2_noBody) := goodIn_app (goodIn_of _ (by decide +kernel)) ggX2_event_X2_noBody
set_option maxRecDepth 20000 in
theorem ggX2_event_X2_highest : GoodIn wsX2_event wsX2_highest := goodIn_r _ [17, 18, 19, 20, 21, 22, 23, 24, 7, 25, 26, 27, 28, 29, 30, 31, 32, 33, 34, 35, 36, 37, 38, 39, 40, 41, 42, 43, 44, 45, 46, 47, 48, 49, 50, 51, 52, 53, 54, 55, 56, 57, 58, 59, 60, 61, 62, 63, 64, 65, 66, 67, 68, 69, 70, 71, 72, 73, 74, 75, 76, 77, 78, 79, 4, 5, 6, 8, 1, 88, 89, 90, 91, 92, 93, 94, 95, 96, 97, 98, 99, 100] (by decide +kernel) (by decide +kernel)
set_option maxRecDepth 20000 in
theorem gX2_event_X2_highest : GoodIn wsX2_event (wsV RX2 249 RX2 yX2_highest wsX2_highest) := goodIn_app (goodIn_of _ (by decide +kernel)) ggX2_event_X2_highest
set_option maxRecDepth 20000 in
theorem ggX2_event_X2_passes : GoodIn wsX2_event wsX2_passes := goodIn_r _ [83, 18, 19, 1, 22, 23, 24, 7, 25, 26, 27, 28, 29, 30, 31, 32, 33, 34, 35, 36, 37, 38, 39, 40, 21, 41, 42, 43, 44, 45, 46, 47, 48, 49, 50, 51, 52, 53, 54, 55, 56, 57, 58, 59, 60, 61, 62, 63, 64, 65, 66, 67, 68, 69, 70, 71, 72, 73, 74, 75, 76, 77, 78, 79, 84, 85, 86, 87, 4, 5, 6, 8, 88, 89, 90, 91, 92, 93, 94, 95, 96, 97, 98, 99, 100] (by decide +kernel) (by decide +kernel)
set_option maxRecDepth 20000 in
theorem gX2_event_X2_passes : GoodIn wsX2_event (wsV RX2 252 RX2 yX2_passes wsX2_passes) := goodIn_app (goodIn_of _ (by decide +kernel)) ggX2_event_X2_passes
theorem dX2_event_0 : decode cX2_event 0 = .ok (.aload_n 0, 1) := by decide +kernel
theorem dX2_event_1 : decode cX2_event 1 = .ok (.iconst 0, 1) := by decide +kernel
theorem dX2_event_2 : decode cX2_event 2 = .ok (.putfield 30, 3) := by decide +kernel
theorem dX2_event_5 : decode cX2_event 5 = .ok (.iload_n 2, 1) := by decide +kernel
theorem dX2_event_6 : decode cX2_event 6 = .ok (.ifCond .lt 20, 3) := by decide +kernel
theorem dX2_event_9 : decode cX2_event 9 = .ok (.iload_n 2, 1) := by decide +kernel
theorem dX2_event_10 : decode cX2_event 10 = .ok (.iconst 2, 1) := by decide +kernel
theorem dX2_event_11 : decode cX2_event 11 = .ok (.if_icmp .gt 15, 3) := by decide +kernel
theorem dX2_event_14 : decode cX2_event 14 = .ok (.iload_n 3, 1) := by decide +kernel
theorem dX2_event_15 : decode cX2_event 15 = .ok (.ldc 247, 2) := by decide +kernel
theorem dX2_event_17 : decode cX2_event 17 = .ok (.if_icmp .lt 9, 3) := by decide +kernel
theorem dX2_event_20 : decode cX2_event 20 = .ok (.iload_n 3, 1) := by decide +kernel
theorem dX2_event_21 : decode cX2_event 21 = .ok (.ldc 248, 2) := by decide +kernel
theorem dX2_event_23 : decode cX2_event 23 = .ok (.if_icmp .le 10, 3) := by decide +kernel
theorem dX2_event_26 : decode cX2_event 26 = .ok (.aload_n 0, 1) := by decide +kernel
theorem dX2_event_27 : decode cX2_event 27 = .ok (.iconst 1, 1) := by decide +kernel
theorem dX2_event_28 : decode cX2_event 28 = .ok (.invokevirtual 77, 3) := by decide +kernel
theorem dX2_event_31 : decode cX2_event 31 = .ok (.i2d, 1) := by decide +kernel
theorem dX2_event_32 : decode cX2_event 32 = .ok (.dreturn, 1) := by decide +kernel
theorem dX2_event_33 : decode cX2_event 33 = .ok (.aload_n 0, 1) := by decide +kernel
theorem dX2_event_34 : decode cX2_event 34 = .ok (.iload_n 1, 1) := by decide +kernel
theorem dX2_event_35 : decode cX2_event 35 = .ok (.invokevirtual 166, 3) := by decide +kernel
theorem dX2_event_38 : decode cX2_event 38 = .ok (.ifCond .eq 10, 3) := by decide +kernel
theorem dX2_event_41 : decode cX2_event 41 = .ok (.aload_n 0, 1) := by decide +kernel
theorem dX2_event_42 : decode cX2_event 42 = .ok (.iconst 2, 1) := by decide +kernel
theorem dX2_event_43 : decode cX2_event 43 = .ok (.invokevirtual 77, 3) := by decide +kernel
theorem dX2_event_46 : decode cX2_event 46 = .ok (.i2d, 1) := by decide +kernel
theorem dX2_event_47 : decode cX2_event 47 = .ok (.dreturn, 1) := by decide +kernel
theorem dX2_event_48 : decode cX2_event 48 = .ok (.iload_n 2, 1) := by decide +kernel
theorem dX2_event_49 : decode cX2_event 49 = .ok (.iconst 2, 1) := by decide +kernel
theorem dX2_event_50 : decode cX2_event 50 = .ok (.if_icmp .ne 13, 3) := by decide +kernel
theorem dX2_event_53 : decode cX2_event 53 = .ok (.aload_n 0, 1) := by decide +kernel
theorem dX2_event_54 : decode cX2_event 54 = .ok (.iload_n 1, 1) := by decide +kernel
theorem dX2_event_55 : decode cX2_event 55 = .ok (.iload_n 3, 1) := by decide +kernel
theorem dX2_event_56 : decode cX2_event 56 = .ok (.i2d, 1) := by decide +kernel
theorem dX2_event_57 : decode cX2_event 57 = .ok (.invokevirtual 249, 3) := by decide +kernel
theorem dX2_event_60 : decode cX2_event 60 = .ok (.goto 19, 3) := by decide +kernel
theorem dX2_event_63 : decode cX2_event 63 = .ok (.aload_n 0, 1) := by decide +kernel
theorem dX2_event_64 : decode cX2_event 64 = .ok (.iload_n 1, 1) := by decide +kernel
theorem dX2_event_65 : decode cX2_event 65 = .ok (.iload_n 3, 1) := by decide +kernel
theorem dX2_event_66 : decode cX2_event 66 = .ok (.i2d, 1) := by decide +kernel
theorem dX2_event_67 : decode cX2_event 67 = .ok (.iload_n 2, 1) := by decide +kernel
theorem dX2_event_68 : decode cX2_event 68 = .ok (.ifCond .ne 7, 3) := by decide +kernel
theorem dX2_event_71 : decode cX2_event 71 = .ok (.iconst 1, 1) := by decide +kernel
theorem dX2_event_72 : decode cX2_event 72 = .ok (.goto 4, 3) := by decide +kernel
theorem dX2_event_75 : decode cX2_event 75 = .ok (.iconst 0, 1) := by decide +kernel
theorem dX2_event_76 : decode cX2_event 76 = .ok (.invokevirtual 252, 3) := by decide +kernel
theorem dX2_event_79 : decode cX2_event 79 = .ok (.dreturn, 1) := by decide +kernel
set_option maxRecDepth 20000 in
theorem ggX2_sidereal_X2_within : GoodIn wsX2_sidereal wsX2_within := goodIn_r _ [7] (by decide +kernel) (by decide +kernel)
set_option maxRecDepth 20000 in
theorem gX2_sidereal_X2_within : GoodIn wsX2_sidereal (va_wsS RX2 156 yX2_within wsX2_within) := goodIn_app (goodIn_of _ (by decide +kernel)) ggX2_sidereal_X2_within
set_option maxRecDepth 20000 in
theorem ggX2_sidereal_X2_fail : GoodIn wsX2_sidereal wsX2_fail := goodIn_r _ [11, 1, 21, 22, 23, 24, 25, 26, 27, 28, 29, 30, 31, 32, 33] (by decide +kernel) (by decide +kernel)
set_option maxRecDepth 20000 in
theorem gX2_sidereal_X2_fail : GoodIn wsX2_sidereal (wsV RX2 77 RX2 yX2_fail wsX2_fail) := goodIn_app (goodIn_of _ (by decide +kernel)) ggX2_sidereal_X2_fail
set_option maxRecDepth 20000 in
theorem ggX2_sidereal_X2_turned : GoodIn wsX2_sidereal wsX2_turned := goodIn_r _ [14, 15, 16, 17, 18, 19, 6, 20] (by decide +kernel) (by decide +kernel)
set_option maxRecDepth 20000 in
theorem gX2_sidereal_X2_turned : GoodIn wsX2_sidereal (va_wsS RX2 225 yX2_turned wsX2_turned) := goodIn_app (goodIn_of _ (by decide +kernel)) ggX2_sidereal_X2_turned
theorem dX2_sidereal_0 : decode cX2_sidereal 0 = .ok (.aload_n 0, 1) := by decide +kernel
theorem dX2_sidereal_1 : decode cX2_sidereal 1 = .ok (.iconst 0, 1) := by decide +kernel
theorem dX2_sidereal_2 : decode cX2_sidereal 2 = .ok (.putfield 30, 3) := by decide +kernel
theorem dX2_sidereal_5 : decode cX2_sidereal 5 = .ok (.dload_n 1, 1) := by decide +kernel
theorem dX2_sidereal_6 : decode cX2_sidereal 6 = .ok (.ldc2_w 228, 3) := by decide +kernel
theorem dX2_sidereal_9 : decode cX2_sidereal 9 = .ok (.ldc2_w 230, 3) := by decide +kernel
theorem dX2_sidereal_12 : decode cX2_sidereal 12 = .ok (.invokestatic 156, 3) := by decide +kernel
theorem dX2_sidereal_15 : decode cX2_sidereal 15 = .ok (.ifCond .ne 10, 3) := by decide +kernel
theorem dX2_sidereal_18 : decode cX2_sidereal 18 = .ok (.aload_n 0, 1) := by decide +kernel
theorem dX2_sidereal_19 : decode cX2_sidereal 19 = .ok (.iconst 1, 1) := by decide +kernel
theorem dX2_sidereal_20 : decode cX2_sidereal 20 = .ok (.invokevirtual 77, 3) := by decide +kernel
theorem dX2_sidereal_23 : decode cX2_sidereal 23 = .ok (.i2d, 1) := by decide +kernel
theorem dX2_sidereal_24 : decode cX2_sidereal 24 = .ok (.dreturn, 1) := by decide +kernel
theorem dX2_sidereal_25 : decode cX2_sidereal 25 = .ok (.dload_n 1, 1) := by decide +kernel
theorem dX2_sidereal_26 : decode cX2_sidereal 26 = .ok (.invokestatic 225, 3) := by decide +kernel
theorem dX2_sidereal_29 : decode cX2_sidereal 29 = .ok (.dreturn, 1) := by decide +kernel
theorem dX2_put_0 : decode cX2_put 0 = .ok (.aload_n 0, 1) := by decide +kernel
theorem dX2_put_1 : decode cX2_put 1 = .ok (.getfield 27, 3) := by decide +kernel
theorem dX2_put_4 : decode cX2_put 4 = .ok (.aload_n 0, 1) := by decide +kernel
theorem dX2_put_5 : decode cX2_put 5 = .ok (.getfield 256, 3) := by decide +kernel
theorem dX2_put_8 : decode cX2_put 8 = .ok (.iload_n 1, 1) := by decide +kernel
theorem dX2_put_9 : decode cX2_put 9 = .ok (.iastore, 1) := by decide +kernel
theorem dX2_put_10 : decode cX2_put 10 = .ok (.aload_n 0, 1) := by decide +kernel
theorem dX2_put_11 : decode cX2_put 11 = .ok (.dup, 1) := by decide +kernel
theorem dX2_put_12 : decode cX2_put 12 = .ok (.getfield 256, 3) := by decide +kernel
theorem dX2_put_15 : decode cX2_put 15 = .ok (.iconst 1, 1) := by decide +kernel
theorem dX2_put_16 : decode cX2_put 16 = .ok (.iadd, 1) := by decide +kernel
theorem dX2_put_17 : decode cX2_put 17 = .ok (.putfield 256, 3) := by decide +kernel
theorem dX2_put_20 : decode cX2_put 20 = .ok (.return_, 1) := by decide +kernel
set_option maxRecDepth 20000 in
theorem ggX2_digits_X2_put : GoodIn wsX2_digits wsX2_put := goodIn_r _ [6, 7, 8, 9, 10, 11, 12, 13, 14, 15, 16, 17, 18, 19, 20, 21] (by decide +kernel) (by decide +kernel)
set_option maxRecDepth 20000 in
theorem gX2_digits_X2_put : GoodIn wsX2_digits (wsV RX2 261 RX2 yX2_put wsX2_put) := goodIn_app (goodIn_of _ (by decide +kernel)) ggX2_digits_X2_put
theorem dX2_digits_0 : decode cX2_digits 0 = .ok (.lconst 1, 1) := by decide +kernel
theorem dX2_digits_1 : decode cX2_digits 1 = .ok (.lstore 4, 2) := by decide +kernel
theorem dX2_digits_3 : decode cX2_digits 3 = .ok (.iconst 1, 1) := by decide +kernel
theorem dX2_digits_4 : decode cX2_digits 4 = .ok (.istore 6, 2) := by decide +kernel
theorem dX2_digits_6 : decode cX2_digits 6 = .ok (.iload 6, 2) := by decide +kernel
theorem dX2_digits_8 : decode cX2_digits 8 = .ok (.iload_n 3, 1) := by decide +kernel
theorem dX2_digits_9 : decode cX2_digits 9 = .ok (.if_icmp .lt 14, 3) := by decide +kernel
theorem dX2_digits_12 : decode cX2_digits 12 = .ok (.lload_n 1, 1) := by decide +kernel
theorem dX2_digits_13 : decode cX2_digits 13 = .ok (.lload 4, 2) := by decide +kernel
theorem dX2_digits_15 : decode cX2_digits 15 = .ok (.ldiv, 1) := by decide +kernel
theorem dX2_digits_16 : decode cX2_digits 16 = .ok (.ldc2_w 259, 3) := by decide +kernel
theorem dX2_digits_19 : decode cX2_digits 19 = .ok (.lcmp, 1) := by decide +kernel
theorem dX2_digits_20 : decode cX2_digits 20 = .ok (.ifCond .lt 17, 3) := by decide +kernel
theorem dX2_digits_23 : decode cX2_digits 23 = .ok (.lload 4, 2) := by decide +kernel
theorem dX2_digits_25 : decode cX2_digits 25 = .ok (.ldc2_w 259, 3) := by decide +kernel
theorem dX2_digits_28 : decode cX2_digits 28 = .ok (.lmul, 1) := by decide +kernel
theorem dX2_digits_29 : decode cX2_digits 29 = .ok (.lstore 4, 2) := by decide +kernel
theorem dX2_digits_31 : decode cX2_digits 31 = .ok (.iinc 6 1, 3) := by decide +kernel
theorem dX2_digits_34 : decode cX2_digits 34 = .ok (.goto (-28), 3) := by decide +kernel
theorem dX2_digits_37 : decode cX2_digits 37 = .ok (.lload 4, 2) := by decide +kernel
theorem dX2_digits_39 : decode cX2_digits 39 = .ok (.lstore 7, 2) := by decide +kernel
theorem dX2_digits_41 : decode cX2_digits 41 = .ok (.lload 7, 2) := by decide +kernel
theorem dX2_digits_43 : decode cX2_digits 43 = .ok (.lconst 0, 1) := by decide +kernel
theorem dX2_digits_44 : decode cX2_digits 44 = .ok (.lcmp, 1) := by decide +kernel
theorem dX2_digits_45 : decode cX2_digits 45 = .ok (.ifCond .le 30, 3) := by decide +kernel
theorem dX2_digits_48 : decode cX2_digits 48 = .ok (.aload_n 0, 1) := by decide +kernel
theorem dX2_digits_49 : decode cX2_digits 49 = .ok (.bipush 48, 2) := by decide +kernel
theorem dX2_digits_51 : decode cX2_digits 51 = .ok (.lload_n 1, 1) := by decide +kernel
theorem dX2_digits_52 : decode cX2_digits 52 = .ok (.lload 7, 2) := by decide +kernel
theorem dX2_digits_54 : decode cX2_digits 54 = .ok (.ldiv, 1) := by decide +kernel
theorem dX2_digits_55 : decode cX2_digits 55 = .ok (.ldc2_w 259, 3) := by decide +kernel
theorem dX2_digits_58 : decode cX2_digits 58 = .ok (.lrem, 1) := by decide +kernel
theorem dX2_digits_59 : decode cX2_digits 59 = .ok (.l2i, 1) := by decide +kernel
theorem dX2_digits_60 : decode cX2_digits 60 = .ok (.iadd, 1) := by decide +kernel
theorem dX2_digits_61 : decode cX2_digits 61 = .ok (.invokevirtual 261, 3) := by decide +kernel
theorem dX2_digits_64 : decode cX2_digits 64 = .ok (.lload 7, 2) := by decide +kernel
theorem dX2_digits_66 : decode cX2_digits 66 = .ok (.ldc2_w 259, 3) := by decide +kernel
theorem dX2_digits_69 : decode cX2_digits 69 = .ok (.ldiv, 1) := by decide +kernel
theorem dX2_digits_70 : decode cX2_digits 70 = .ok (.lstore 7, 2) := by decide +kernel
theorem dX2_digits_72 : decode cX2_digits 72 = .ok (.goto (-31), 3) := by decide +kernel
theorem dX2_digits_75 : decode cX2_digits 75 = .ok (.return_, 1) := by decide +kernel
set_option maxRecDepth 20000 in
theorem ggX2_write_X2_within : GoodIn wsX2_write wsX2_within := goodIn_r _ [14] (by decide +kernel) (by decide +kernel)
set_option maxRecDepth 20000 in
theorem gX2_write_X2_within : GoodIn wsX2_write (va_wsS RX2 156 yX2_within wsX2_within) := goodIn_app (goodIn_of _ (by decide +kernel)) ggX2_write_X2_within
set_option maxRecDepth 20000 in
theorem ggX2_write_X2_fail : GoodIn wsX2_write wsX2_fail := goodIn_r _ [18, 1, 28, 29, 30, 31, 32, 33, 34, 35, 36, 37, 38, 39, 40] (by decide +kernel) (by decide +kernel)
set_option maxRecDepth 20000 in
theorem gX2_write_X2_fail : GoodIn wsX2_write (wsV RX2 77 RX2 yX2_fail wsX2_fail) := goodIn_app (goodIn_of _ (by decide +kernel)) ggX2_write_X2_fail
set_option maxRecDepth 20000 in
theorem ggX2_write_X2_put : GoodIn wsX2_write wsX2_put := goodIn_r _ [22, 23, 8, 28, 29, 30, 31, 32, 33, 34, 35, 36, 37, 38, 39, 40] (by decide +kernel) (by decide +kernel)
set_option maxRecDepth 20000 in
theorem gX2_write_X2_put : GoodIn wsX2_write (wsV RX2 261 RX2 yX2_put wsX2_put) := goodIn_app (goodIn_of _ (by decide +kernel)) ggX2_write_X2_put
set_option maxRecDepth 20000 in
theorem ggX2_write_X2_digits : GoodIn wsX2_write wsX2_digits := goodIn_r _ [27, 5, 19, 20, 21, 13, 22, 23, 8, 28, 29, 30, 31, 32, 33, 34, 35, 36, 37, 38, 39, 40] (by decide +kernel) (by decide +kernel)
set_option maxRecDepth 20000 in
theorem gX2_write_X2_digits : GoodIn wsX2_write (wsV RX2 273 RX2 yX2_digits wsX2_digits) := goodIn_app (goodIn_of _ (by decide +kernel)) ggX2_write_X2_digits
theorem dX2_write_0 : decode cX2_write 0 = .ok (.aload_n 0, 1) := by decide +kernel
theorem dX2_write_1 : decode cX2_write 1 = .ok (.iconst 0, 1) := by decide +kernel
theorem dX2_write_2 : decode cX2_write 2 = .ok (.putfield 30, 3) := by decide +kernel
theorem dX2_write_5 : decode cX2_write 5 = .ok (.dload_n 1, 1) := by decide +kernel
theorem dX2_write_6 : decode cX2_write 6 = .ok (.ldc2_w 265, 3) := by decide +kernel
theorem dX2_write_9 : decode cX2_write 9 = .ok (.ldc2_w 267, 3) := by decide +kernel
theorem dX2_write_12 : decode cX2_write 12 = .ok (.invokestatic 156, 3) := by decide +kernel
theorem dX2_write_15 : decode cX2_write 15 = .ok (.ifCond .eq 12, 3) := by decide +kernel
theorem dX2_write_18 : decode cX2_write 18 = .ok (.iload_n 3, 1) := by decide +kernel
theorem dX2_write_19 : decode cX2_write 19 = .ok (.ifCond .lt 8, 3) := by decide +kernel
theorem dX2_write_22 : decode cX2_write 22 = .ok (.iload_n 3, 1) := by decide +kernel
theorem dX2_write_23 : decode cX2_write 23 = .ok (.iconst 4, 1) := by decide +kernel
theorem dX2_write_24 : decode cX2_write 24 = .ok (.if_icmp .le 9, 3) := by decide +kernel
theorem dX2_write_27 : decode cX2_write 27 = .ok (.aload_n 0, 1) := by decide +kernel
theorem dX2_write_28 : decode cX2_write 28 = .ok (.iconst 1, 1) := by decide +kernel
theorem dX2_write_29 : decode cX2_write 29 = .ok (.invokevirtual 77, 3) := by decide +kernel
theorem dX2_write_32 : decode cX2_write 32 = .ok (.ireturn, 1) := by decide +kernel
theorem dX2_write_33 : decode cX2_write 33 = .ok (.dconst 1, 1) := by decide +kernel
theorem dX2_write_34 : decode cX2_write 34 = .ok (.dstore 4, 2) := by decide +kernel
theorem dX2_write_36 : decode cX2_write 36 = .ok (.lconst 1, 1) := by decide +kernel
theorem dX2_write_37 : decode cX2_write 37 = .ok (.lstore 6, 2) := by decide +kernel
theorem dX2_write_39 : decode cX2_write 39 = .ok (.iconst 0, 1) := by decide +kernel
theorem dX2_write_40 : decode cX2_write 40 = .ok (.istore 8, 2) := by decide +kernel
theorem dX2_write_42 : decode cX2_write 42 = .ok (.iload 8, 2) := by decide +kernel
theorem dX2_write_44 : decode cX2_write 44 = .ok (.iload_n 3, 1) := by decide +kernel
theorem dX2_write_45 : decode cX2_write 45 = .ok (.if_icmp .ge 25, 3) := by decide +kernel
theorem dX2_write_48 : decode cX2_write 48 = .ok (.dload 4, 2) := by decide +kernel
theorem dX2_write_50 : decode cX2_write 50 = .ok (.ldc2_w 172, 3) := by decide +kernel
theorem dX2_write_53 : decode cX2_write 53 = .ok (.dmul, 1) := by decide +kernel
theorem dX2_write_54 : decode cX2_write 54 = .ok (.dstore 4, 2) := by decide +kernel
theorem dX2_write_56 : decode cX2_write 56 = .ok (.lload 6, 2) := by decide +kernel
theorem dX2_write_58 : decode cX2_write 58 = .ok (.ldc2_w 259, 3) := by decide +kernel
theorem dX2_write_61 : decode cX2_write 61 = .ok (.lmul, 1) := by decide +kernel
theorem dX2_write_62 : decode cX2_write 62 = .ok (.lstore 6, 2) := by decide +kernel
theorem dX2_write_64 : decode cX2_write 64 = .ok (.iinc 8 1, 3) := by decide +kernel
theorem dX2_write_67 : decode cX2_write 67 = .ok (.goto (-25), 3) := by decide +kernel
theorem dX2_write_70 : decode cX2_write 70 = .ok (.dload_n 1, 1) := by decide +kernel
theorem dX2_write_71 : decode cX2_write 71 = .ok (.dconst 0, 1) := by decide +kernel
theorem dX2_write_72 : decode cX2_write 72 = .ok (.dcmp .g, 1) := by decide +kernel
theorem dX2_write_73 : decode cX2_write 73 = .ok (.ifCond .ge 9, 3) := by decide +kernel
theorem dX2_write_76 : decode cX2_write 76 = .ok (.dconst 0, 1) := by decide +kernel
theorem dX2_write_77 : decode cX2_write 77 = .ok (.dload_n 1, 1) := by decide +kernel
theorem dX2_write_78 : decode cX2_write 78 = .ok (.dsub, 1) := by decide +kernel
theorem dX2_write_79 : decode cX2_write 79 = .ok (.goto 4, 3) := by decide +kernel
theorem dX2_write_82 : decode cX2_write 82 = .ok (.dload_n 1, 1) := by decide +kernel
theorem dX2_write_83 : decode cX2_write 83 = .ok (.dstore 8, 2) := by decide +kernel
theorem dX2_write_85 : decode cX2_write 85 = .ok (.dload 8, 2) := by decide +kernel
theorem dX2_write_87 : decode cX2_write 87 = .ok (.ldc2_w 269, 3) := by decide +kernel
theorem dX2_write_90 : decode cX2_write 90 = .ok (.dmul, 1) := by decide +kernel
theorem dX2_write_91 : decode cX2_write 91 = .ok (.dload 4, 2) := by decide +kernel
theorem dX2_write_93 : decode cX2_write 93 = .ok (.dmul, 1) := by decide +kernel
theorem dX2_write_94 : decode cX2_write 94 = .ok (.ldc2_w 122, 3) := by decide +kernel
theorem dX2_write_97 : decode cX2_write 97 = .ok (.dadd, 1) := by decide +kernel
theorem dX2_write_98 : decode cX2_write 98 = .ok (.d2l, 1) := by decide +kernel
theorem dX2_write_99 : decode cX2_write 99 = .ok (.lstore 10, 2) := by decide +kernel
theorem dX2_write_101 : decode cX2_write 101 = .ok (.aload_n 0, 1) := by decide +kernel
theorem dX2_write_102 : decode cX2_write 102 = .ok (.iconst 0, 1) := by decide +kernel
theorem dX2_write_103 : decode cX2_write 103 = .ok (.putfield 256, 3) := by decide +kernel
theorem dX2_write_106 : decode cX2_write 106 = .ok (.dload_n 1, 1) := by decide +kernel
theorem dX2_write_107 : decode cX2_write 107 = .ok (.dconst 0, 1) := by decide +kernel
theorem dX2_write_108 : decode cX2_write 108 = .ok (.dcmp .g, 1) := by decide +kernel
theorem dX2_write_109 : decode cX2_write 109 = .ok (.ifCond .ge 16, 3) := by decide +kernel
theorem dX2_write_112 : decode cX2_write 112 = .ok (.lload 10, 2) := by decide +kernel
theorem dX2_write_114 : decode cX2_write 114 = .ok (.lconst 0, 1) := by decide +kernel
theorem dX2_write_115 : decode cX2_write 115 = .ok (.lcmp, 1) := by decide +kernel
theorem dX2_write_116 : decode cX2_write 116 = .ok (.ifCond .le 9, 3) := by decide +kernel
theorem dX2_write_119 : decode cX2_write 119 = .ok (.aload_n 0, 1) := by decide +kernel
theorem dX2_write_120 : decode cX2_write 120 = .ok (.bipush 45, 2) := by decide +kernel
theorem dX2_write_122 : decode cX2_write 122 = .ok (.invokevirtual 261, 3) := by decide +kernel
theorem dX2_write_125 : decode cX2_write 125 = .ok (.lload 10, 2) := by decide +kernel
theorem dX2_write_127 : decode cX2_write 127 = .ok (.lload 6, 2) := by decide +kernel
theorem dX2_write_129 : decode cX2_write 129 = .ok (.ldiv, 1) := by decide +kernel
theorem dX2_write_130 : decode cX2_write 130 = .ok (.lstore 12, 2) := by decide +kernel
theorem dX2_write_132 : decode cX2_write 132 = .ok (.aload_n 0, 1) := by decide +kernel
theorem dX2_write_133 : decode cX2_write 133 = .ok (.lload 12, 2) := by decide +kernel
theorem dX2_write_135 : decode cX2_write 135 = .ok (.ldc2_w 271, 3) := by decide +kernel
theorem dX2_write_138 : decode cX2_write 138 = .ok (.ldiv, 1) := by decide +kernel
theorem dX2_write_139 : decode cX2_write 139 = .ok (.iconst 1, 1) := by decide +kernel
theorem dX2_write_140 : decode cX2_write 140 = .ok (.invokevirtual 273, 3) := by decide +kernel
theorem dX2_write_143 : decode cX2_write 143 = .ok (.aload_n 0, 1) := by decide +kernel
theorem dX2_write_144 : decode cX2_write 144 = .ok (.bipush 100, 2) := by decide +kernel
theorem dX2_write_146 : decode cX2_write 146 = .ok (.invokevirtual 261, 3) := by decide +kernel
theorem dX2_write_149 : decode cX2_write 149 = .ok (.aload_n 0, 1) := by decide +kernel
theorem dX2_write_150 : decode cX2_write 150 = .ok (.lload 12, 2) := by decide +kernel
theorem dX2_write_152 : decode cX2_write 152 = .ok (.ldc2_w 277, 3) := by decide +kernel
theorem dX2_write_155 : decode cX2_write 155 = .ok (.ldiv, 1) := by decide +kernel
theorem dX2_write_156 : decode cX2_write 156 = .ok (.ldc2_w 277, 3) := by decide +kernel
theorem dX2_write_159 : decode cX2_write 159 = .ok (.lrem, 1) := by decide +kernel
theorem dX2_write_160 : decode cX2_write 160 = .ok (.iconst 2, 1) := by decide +kernel
theorem dX2_write_161 : decode cX2_write 161 = .ok (.invokevirtual 273, 3) := by decide +kernel
theorem dX2_write_164 : decode cX2_write 164 = .ok (.aload_n 0, 1) := by decide +kernel
theorem dX2_write_165 : decode cX2_write 165 = .ok (.bipush 109, 2) := by decide +kernel
theorem dX2_write_167 : decode cX2_write 167 = .ok (.invokevirtual 261, 3) := by decide +kernel
theorem dX2_write_170 : decode cX2_write 170 = .ok (.aload_n 0, 1) := by decide +kernel
theorem dX2_write_171 : decode cX2_write 171 = .ok (.lload 12, 2) := by decide +kernel
theorem dX2_write_173 : decode cX2_write 173 = .ok (.ldc2_w 277, 3) := by decide +kernel
theorem dX2_write_176 : decode cX2_write 176 = .ok (.lrem, 1) := by decide +kernel
theorem dX2_write_177 : decode cX2_write 177 = .ok (.iconst 2, 1) := by decide +kernel
theorem dX2_write_178 : decode cX2_write 178 = .ok (.invokevirtual 273, 3) := by decide +kernel
theorem dX2_write_181 : decode cX2_write 181 = .ok (.iload_n 3, 1) := by decide +kernel
theorem dX2_write_182 : decode cX2_write 182 = .ok (.ifCond .le 19, 3) := by decide +kernel
theorem dX2_write_185 : decode cX2_write 185 = .ok (.aload_n 0, 1) := by decide +kernel
theorem dX2_write_186 : decode cX2_write 186 = .ok (.bipush 46, 2) := by decide +kernel
theorem dX2_write_188 : decode cX2_write 188 = .ok (.invokevirtual 261, 3) := by decide +kernel
theorem dX2_write_191 : decode cX2_write 191 = .ok (.aload_n 0, 1) := by decide +kernel
theorem dX2_write_192 : decode cX2_write 192 = .ok (.lload 10, 2) := by decide +kernel
theorem dX2_write_194 : decode cX2_write 194 = .ok (.lload 6, 2) := by decide +kernel
theorem dX2_write_196 : decode cX2_write 196 = .ok (.lrem, 1) := by decide +kernel
theorem dX2_write_197 : decode cX2_write 197 = .ok (.iload_n 3, 1) := by decide +kernel
theorem dX2_write_198 : decode cX2_write 198 = .ok (.invokevirtual 273, 3) := by decide +kernel
theorem dX2_write_201 : decode cX2_write 201 = .ok (.aload_n 0, 1) := by decide +kernel
theorem dX2_write_202 : decode cX2_write 202 = .ok (.bipush 115, 2) := by decide +kernel
theorem dX2_write_204 : decode cX2_write 204 = .ok (.invokevirtual 261, 3) := by decide +kernel
theorem dX2_write_207 : decode cX2_write 207 = .ok (.aload_n 0, 1) := by decide +kernel
theorem dX2_write_208 : decode cX2_write 208 = .ok (.getfield 256, 3) := by decide +kernel
theorem dX2_write_211 : decode cX2_write 211 = .ok (.ireturn, 1) := by decide +kernel
set_option maxRecDepth 20000 in
theorem ggX2_letter_X2_fail : GoodIn wsX2_letter wsX2_fail := goodIn_r _ [8, 1, 9, 10, 11, 12, 13, 14, 15, 16, 17, 18, 19, 20, 21] (by decide +kernel) (by decide +kernel)
set_option maxRecDepth 20000 in
theorem gX2_letter_X2_fail : GoodIn wsX2_letter (wsV RX2 77 RX2 yX2_fail wsX2_fail) := goodIn_app (goodIn_of _ (by decide +kernel)) ggX2_letter_X2_fail
theorem dX2_letter_0 : decode cX2_letter 0 = .ok (.aload_n 0, 1) := by decide +kernel
theorem dX2_letter_1 : decode cX2_letter 1 = .ok (.iconst 0, 1) := by decide +kernel
theorem dX2_letter_2 : decode cX2_letter 2 = .ok (.putfield 30, 3) := by decide +kernel
theorem dX2_letter_5 : decode cX2_letter 5 = .ok (.iload_n 1, 1) := by decide +kernel
theorem dX2_letter_6 : decode cX2_letter 6 = .ok (.ifCond .lt 11, 3) := by decide +kernel
theorem dX2_letter_9 : decode cX2_letter 9 = .ok (.iload_n 1, 1) := by decide +kernel
theorem dX2_letter_10 : decode cX2_letter 10 = .ok (.aload_n 0, 1) := by decide +kernel
theorem dX2_letter_11 : decode cX2_letter 11 = .ok (.getfield 256, 3) := by decide +kernel
theorem dX2_letter_14 : decode cX2_letter 14 = .ok (.if_icmp .lt 11, 3) := by decide +kernel
theorem dX2_letter_17 : decode cX2_letter 17 = .ok (.aload_n 0, 1) := by decide +kernel
theorem dX2_letter_18 : decode cX2_letter 18 = .ok (.iconst 1, 1) := by decide +kernel
theorem dX2_letter_19 : decode cX2_letter 19 = .ok (.invokevirtual 77, 3) := by decide +kernel
theorem dX2_letter_22 : decode cX2_letter 22 = .ok (.goto 9, 3) := by decide +kernel
theorem dX2_letter_25 : decode cX2_letter 25 = .ok (.aload_n 0, 1) := by decide +kernel
theorem dX2_letter_26 : decode cX2_letter 26 = .ok (.getfield 27, 3) := by decide +kernel
theorem dX2_letter_29 : decode cX2_letter 29 = .ok (.iload_n 1, 1) := by decide +kernel
theorem dX2_letter_30 : decode cX2_letter 30 = .ok (.iaload, 1) := by decide +kernel
theorem dX2_letter_31 : decode cX2_letter 31 = .ok (.ireturn, 1) := by decide +kernel
set_option maxRecDepth 20000 in
theorem ggX2_angle_X2_fail : GoodIn wsX2_angle wsX2_fail := goodIn_r _ [8, 1, 9, 10, 11, 12, 13, 14, 15, 16, 17, 18, 19, 20, 21] (by decide +kernel) (by decide +kernel)
set_option maxRecDepth 20000 in
theorem gX2_angle_X2_fail : GoodIn wsX2_angle (wsV RX2 77 RX2 yX2_fail wsX2_fail) := goodIn_app (goodIn_of _ (by decide +kernel)) ggX2_angle_X2_fail
theorem dX2_angle_0 : decode cX2_angle 0 = .ok (.aload_n 0, 1) := by decide +kernel
theorem dX2_angle_1 : decode cX2_angle 1 = .ok (.iconst 0, 1) := by decide +kernel
theorem dX2_angle_2 : decode cX2_angle 2 = .ok (.putfield 30, 3) := by decide +kernel
theorem dX2_angle_5 : decode cX2_angle 5 = .ok (.iload_n 1, 1) := by decide +kernel
theorem dX2_angle_6 : decode cX2_angle 6 = .ok (.iconst 1, 1) := by decide +kernel
theorem dX2_angle_7 : decode cX2_angle 7 = .ok (.if_icmp .eq 8, 3) := by decide +kernel
theorem dX2_angle_10 : decode cX2_angle 10 = .ok (.iload_n 1, 1) := by decide +kernel
theorem dX2_angle_11 : decode cX2_angle 11 = .ok (.iconst (-1), 1) := by decide +kernel
theorem dX2_angle_12 : decode cX2_angle 12 = .ok (.if_icmp .ne 40, 3) := by decide +kernel
theorem dX2_angle_15 : decode cX2_angle 15 = .ok (.iload_n 2, 1) := by decide +kernel
theorem dX2_angle_16 : decode cX2_angle 16 = .ok (.ifCond .lt 36, 3) := by decide +kernel
theorem dX2_angle_19 : decode cX2_angle 19 = .ok (.iload_n 2, 1) := by decide +kernel
theorem dX2_angle_20 : decode cX2_angle 20 = .ok (.sipush 360, 3) := by decide +kernel
theorem dX2_angle_23 : decode cX2_angle 23 = .ok (.if_icmp .gt 29, 3) := by decide +kernel
theorem dX2_angle_26 : decode cX2_angle 26 = .ok (.iload_n 3, 1) := by decide +kernel
theorem dX2_angle_27 : decode cX2_angle 27 = .ok (.ifCond .lt 25, 3) := by decide +kernel
theorem dX2_angle_30 : decode cX2_angle 30 = .ok (.iload_n 3, 1) := by decide +kernel
theorem dX2_angle_31 : decode cX2_angle 31 = .ok (.bipush 59, 2) := by decide +kernel
theorem dX2_angle_33 : decode cX2_angle 33 = .ok (.if_icmp .gt 19, 3) := by decide +kernel
theorem dX2_angle_36 : decode cX2_angle 36 = .ok (.dload 4, 2) := by decide +kernel
theorem dX2_angle_38 : decode cX2_angle 38 = .ok (.dconst 0, 1) := by decide +kernel
theorem dX2_angle_39 : decode cX2_angle 39 = .ok (.dcmp .l, 1) := by decide +kernel
theorem dX2_angle_40 : decode cX2_angle 40 = .ok (.ifCond .lt 12, 3) := by decide +kernel
theorem dX2_angle_43 : decode cX2_angle 43 = .ok (.dload 4, 2) := by decide +kernel
theorem dX2_angle_45 : decode cX2_angle 45 = .ok (.ldc2_w 279, 3) := by decide +kernel
theorem dX2_angle_48 : decode cX2_angle 48 = .ok (.dcmp .g, 1) := by decide +kernel
theorem dX2_angle_49 : decode cX2_angle 49 = .ok (.ifCond .lt 10, 3) := by decide +kernel
theorem dX2_angle_52 : decode cX2_angle 52 = .ok (.aload_n 0, 1) := by decide +kernel
theorem dX2_angle_53 : decode cX2_angle 53 = .ok (.iconst 1, 1) := by decide +kernel
theorem dX2_angle_54 : decode cX2_angle 54 = .ok (.invokevirtual 77, 3) := by decide +kernel
theorem dX2_angle_57 : decode cX2_angle 57 = .ok (.i2d, 1) := by decide +kernel
theorem dX2_angle_58 : decode cX2_angle 58 = .ok (.dreturn, 1) := by decide +kernel
theorem dX2_angle_59 : decode cX2_angle 59 = .ok (.iload_n 1, 1) := by decide +kernel
theorem dX2_angle_60 : decode cX2_angle 60 = .ok (.i2d, 1) := by decide +kernel
theorem dX2_angle_61 : decode cX2_angle 61 = .ok (.iload_n 2, 1) := by decide +kernel
theorem dX2_angle_62 : decode cX2_angle 62 = .ok (.i2d, 1) := by decide +kernel
theorem dX2_angle_63 : decode cX2_angle 63 = .ok (.iload_n 3, 1) := by decide +kernel
theorem dX2_angle_64 : decode cX2_angle 64 = .ok (.i2d, 1) := by decide +kernel
theorem dX2_angle_65 : decode cX2_angle 65 = .ok (.ldc2_w 279, 3) := by decide +kernel
theorem dX2_angle_68 : decode cX2_angle 68 = .ok (.ddiv, 1) := by decide +kernel
theorem dX2_angle_69 : decode cX2_angle 69 = .ok (.dadd, 1) := by decide +kernel
theorem dX2_angle_70 : decode cX2_angle 70 = .ok (.dload 4, 2) := by decide +kernel
theorem dX2_angle_72 : decode cX2_angle 72 = .ok (.ldc2_w 269, 3) := by decide +kernel
theorem dX2_angle_75 : decode cX2_angle 75 = .ok (.ddiv, 1) := by decide +kernel
theorem dX2_angle_76 : decode cX2_angle 76 = .ok (.dadd, 1) := by decide +kernel
theorem dX2_angle_77 : decode cX2_angle 77 = .ok (.dmul, 1) := by decide +kernel
theorem dX2_angle_78 : decode cX2_angle 78 = .ok (.dreturn, 1) := by decide +kernel
theorem dX2_count_0 : decode cX2_count 0 = .ok (.aload_n 0, 1) := by decide +kernel
theorem dX2_count_1 : decode cX2_count 1 = .ok (.iconst 0, 1) := by decide +kernel
theorem dX2_count_2 : decode cX2_count 2 = .ok (.putfield 30, 3) := by decide +kernel
theorem dX2_count_5 : decode cX2_count 5 = .ok (.iload_n 1, 1) := by decide +kernel
theorem dX2_count_6 : decode cX2_count 6 = .ok (.ifCond .eq 10, 3) := by decide +kernel
theorem dX2_count_9 : decode cX2_count 9 = .ok (.aload_n 0, 1) := by decide +kernel
theorem dX2_count_10 : decode cX2_count 10 = .ok (.getfield 206, 3) := by decide +kernel
theorem dX2_count_13 : decode cX2_count 13 = .ok (.goto 7, 3) := by decide +kernel
theorem dX2_count_16 : decode cX2_count 16 = .ok (.aload_n 0, 1) := by decide +kernel
theorem dX2_count_17 : decode cX2_count 17 = .ok (.getfield 199, 3) := by decide +kernel
theorem dX2_count_20 : decode cX2_count 20 = .ok (.ireturn, 1) := by decide +kernel
end
section
/-! ===== doubles between bounds: fR x lo hi: x is a finite double, lo * 2^-30 ≤ x ≤ hi * 2^-30 ===== -/
abbrev fz (x : UInt64) : Int := FP.Core.zval FP.Core.b64 (FP.Core.val64 x)
def uu : Nat := 2 ^ 1044
theorem uu_pos : (0 : Int) < (uu : Int) := by
  have h : 0 < uu := Nat.two_pow_pos _
  omega
theorem one_uu : FP.Core.one64 = 1073741824 * uu := by
  unfold FP.Core.one64 uu
  rw [show (1074 : Nat) = 30 + 1044 from rfl, Nat.pow_add, show (2 : Nat) ^ 30 = 1073741824 from rfl]
theorem one_uuI : (FP.Core.one64 : Int) = 1073741824 * (uu : Int) := by rw [one_uu]; exact Int.natCast_mul _ _
def fR (x : UInt64) (lo hi : Int) : Prop := FP.Core.DFin x ∧ lo * (uu : Int) ≤ fz x ∧ fz x ≤ hi * (uu : Int)
def fRb (n : Int) : Bool := decide (n.natAbs < 9007199254740992) || decide (n.natAbs % 1073741824 = 0 ∧ n.natAbs / 1073741824 < 9007199254740992)
def fRep (n : Int) : Prop := ∃ V : UInt64, FP.Core.DFin V ∧ fz V = n * (uu : Int)
theorem fRep_of {n : Int} {m j : Nat} (hm : m < 2 ^ 53) (hj : j ≤ 500) (h : n.natAbs = m * 2 ^ j) : fRep n := by
  have hq : FP.Core.b64.qmin = -1074 := FP.Core.qmin_b64
  have hx : FP.Core.b64.qmax = 971 := by decide
  obtain ⟨c, q, e1, e2⟩ := FP.Core.round_exact FP.Core.good_b64 (decide (n < 0)) (c := m) (q := (j : Int) - 30) hm (by omega) (by omega)
  have hv : FP.Core.val64 (FP.Core.of64 (FP.Core.round FP.Core.b64 (.fin (decide (n < 0)) m ((j : Int) - 30)))) = .fin (decide (n < 0)) c q := by
    rw [FP.Core.val64_of64 (FP.Core.round_fits FP.Core.good_b64 _), e1]
  refine ⟨_, ⟨_, _, _, hv⟩, ?_⟩
  unfold fz
  rw [hv]
  show FP.Core.signed _ (FP.Core.inUnits c q FP.Core.b64.qmin) = _
  rw [e2, hq]
  unfold FP.Core.inUnits
  rw [show ((j : Int) - 30 - -1074).toNat = j + 1044 by omega, Nat.pow_add, ← Nat.mul_assoc, ← h, FP.Core.signed_mul]
  have : FP.Core.signed (decide (n < 0)) n.natAbs = n := by
    unfold FP.Core.signed
    by_cases h0 : n < 0
    · simp only [h0, decide_true, if_true]; omega
    · simp only [h0, decide_false, Bool.false_eq_true, if_false]; omega
  show FP.Core.signed (decide (n < 0)) n.natAbs * _ = _
  rw [this]; rfl
theorem fRb_rep {n : Int} (h : fRb n = true) : fRep n := by
  unfold fRb at h
  rw [Bool.or_eq_true, decide_eq_true_eq, decide_eq_true_eq] at h
  rcases h with h | ⟨h1, h2⟩
  · exact fRep_of (m := n.natAbs) (j := 0) (by omega) (by omega) (by omega)
  · exact fRep_of (m := n.natAbs / 1073741824) (j := 30) (by omega) (by omega) (by omega)
theorem fR_fin {x : UInt64} {a b : Int} (h : fR x a b) : FP.Core.DFin x := h.1
theorem fin_val {x : UInt64} (h : FP.Core.DFin x) : FP.Core.val64 x ≠ .nan := by
  obtain ⟨s, c, q, e⟩ := h
  rw [e]; exact FP.Core.Datum.noConfusion
theorem fin_nn {x : UInt64} (h : FP.Core.DFin x) : vf_n64 x := by
  have h1 := (FP.Core.fin_bits x).mp h
  unfold vf_n64
  rw [UInt64.le_iff_toNat_le, FP.Core.mask_toNat]
  exact Nat.le_of_lt h1
theorem fR_nn {x : UInt64} {a b : Int} (h : fR x a b) : vf_n64 x := fin_nn h.1
theorem fR_mono {x : UInt64} {a b c d : Int} (h : fR x a b) (h1 : c ≤ a) (h2 : b ≤ d) : fR x c d := by
  have hu := uu_pos
  exact ⟨h.1, Int.le_trans (Int.mul_le_mul_of_nonneg_right h1 (Int.le_of_lt hu)) h.2.1, Int.le_trans h.2.2 (Int.mul_le_mul_of_nonneg_right h2 (Int.le_of_lt hu))⟩
theorem fin_between {D : FP.Core.Datum} (hn : D ≠ .nan) {U V : UInt64} (hU : FP.Core.DFin U) (hV : FP.Core.DFin V) (h1 : fz U ≤ FP.Core.zval FP.Core.b64 D) (h2 : FP.Core.zval FP.Core.b64 D ≤ fz V) : ∃ s c q, D = .fin s c q := by
  have a1 := hU.zval_lt
  have a2 := hV.zval_lt
  cases D with
  | nan => exact absurd rfl hn
  | fin s c q => exact ⟨s, c, q, rfl⟩
  | inf s =>
    exfalso
    have e : FP.Core.zval FP.Core.b64 (.inf s) = FP.Core.signed s (FP.Core.b64.tails * 2 ^ (FP.Core.b64.exps - 2)) := rfl
    rw [e] at h1 h2
    unfold fz FP.Core.zval at h1 h2
    generalize FP.Core.b64.tails * 2 ^ (FP.Core.b64.exps - 2) = M at *
    generalize FP.Core.zmag FP.Core.b64 (FP.Core.val64 U) = mU at *
    generalize FP.Core.zmag FP.Core.b64 (FP.Core.val64 V) = mV at *
    generalize FP.Core.sgn (FP.Core.val64 U) = sU at *
    generalize FP.Core.sgn (FP.Core.val64 V) = sV at *
    cases s <;> cases sU <;> cases sV <;> simp only [FP.Core.signed, if_true, Bool.false_eq_true, if_false] at h1 h2 <;> omega
theorem fR_of_round {x : UInt64} {D : FP.Core.Datum} (e : FP.Core.val64 x = D) (hn : D ≠ .nan) {p q : Int} (rp : fRep p) (rq : fRep q)
    (h1 : ∀ V : UInt64, FP.Core.DFin V → fz V = p * (uu : Int) → fz V ≤ FP.Core.zval FP.Core.b64 D) (h2 : ∀ V : UInt64, FP.Core.DFin V → fz V = q * (uu : Int) → FP.Core.zval FP.Core.b64 D ≤ fz V) : fR x p q := by
  obtain ⟨U, fU, eU⟩ := rp
  obtain ⟨V, fV, eV⟩ := rq
  have a1 := h1 U fU eU
  have a2 := h2 V fV eV
  have hf := fin_between hn fU fV a1 a2
  rw [← e] at hf a1 a2
  exact ⟨hf, by rw [← eU]; exact a1, by rw [← eV]; exact a2⟩
theorem round_fin_ne (s : Bool) (c : Nat) (q : Int) : FP.Core.round FP.Core.b64 (.fin s c q) ≠ .nan := FP.Core.roundRatio_ne_nan _ _ _ _ _
theorem fR_add {x y : UInt64} {a b c d : Int} (hx : fR x a b) (hy : fR y c d) (p q : Int) (hp : p ≤ a + c) (hq : b + d ≤ q) (rp : fRb p = true) (rq : fRb q = true) : fR (FP.dadd x y) p q := by
  have hu := uu_pos
  obtain ⟨fx, x1, x2⟩ := hx
  obtain ⟨fy, y1, y2⟩ := hy
  have m1 := Int.mul_le_mul_of_nonneg_right hp (Int.le_of_lt hu)
  have m2 := Int.mul_le_mul_of_nonneg_right hq (Int.le_of_lt hu)
  rw [Int.add_mul] at m1 m2
  refine fR_of_round (FP.Core.val64_dadd x y) ?_ (fRb_rep rp) (fRb_rep rq) ?_ ?_
  · obtain ⟨s, k, j, e⟩ := fx
    obtain ⟨s2, k2, j2, e2⟩ := fy
    rw [e, e2]
    exact round_fin_ne _ _ _
  · intro V fV eV
    exact FP.Core.sum_ge FP.Core.good_b64 fx fy (FP.Core.val64_fits x) (FP.Core.val64_fits y) (FP.Core.val64_fits V) (fin_val fV) (by show fz V ≤ fz x + fz y; omega)
  · intro V fV eV
    exact FP.Core.sum_le FP.Core.good_b64 fx fy (FP.Core.val64_fits x) (FP.Core.val64_fits y) (FP.Core.val64_fits V) (fin_val fV) (by show fz x + fz y ≤ fz V; omega)
theorem fz_neg {x : UInt64} (h : FP.Core.DFin x) : FP.Core.DFin (FP.Core.dneg x) ∧ fz (FP.Core.dneg x) = - fz x := by
  refine ⟨?_, ?_⟩
  · obtain ⟨s, k, j, e⟩ := h
    exact ⟨!s, k, j, by rw [FP.Core.val64_dneg, e]; rfl⟩
  · unfold fz; rw [FP.Core.val64_dneg, FP.Core.zval_negate]
theorem fR_cneg {x : UInt64} {a b : Int} (h : fR x a b) : fR (FP.Core.dneg x) (-b) (-a) := by
  obtain ⟨h1, h2⟩ := fz_neg h.1
  have a1 := h.2.1
  have a2 := h.2.2
  refine ⟨h1, ?_, ?_⟩
  · rw [h2, Int.neg_mul]; omega
  · rw [h2, Int.neg_mul]; omega
theorem neg_eq {x : UInt64} (h : FP.Core.DFin x) : FP.dneg x = FP.Core.dneg x := by
  have hb : (FP.dneg x).toNat = x.toNat + 2 ^ 63 ∨ x.toNat = (FP.dneg x).toNat + 2 ^ 63 := by
    unfold FP.dneg
    rw [UInt64.toNat_xor, show (0x8000000000000000 : UInt64).toNat = 2 ^ 63 from rfl]
    have hx := x.toNat_lt
    by_cases hh : x.toNat < 2 ^ 63
    · left
      have h1 : 2 ^ 63 ^^^ x.toNat = 2 ^ 63 + x.toNat := by
        have := Nat.two_pow_add_eq_or_of_lt hh 1
        apply Nat.eq_of_testBit_eq
        intro i
        rw [Nat.mul_one] at this
        rw [this, Nat.testBit_xor, Nat.testBit_or, Nat.testBit_two_pow]
        by_cases hi : 63 = i
        · subst hi
          rw [Nat.testBit_lt_two_pow hh]; simp
        · simp [hi]
      rw [Nat.xor_comm, h1]; omega
    · right
      have e : x.toNat = 2 ^ 63 + (x.toNat - 2 ^ 63) := by omega
      have hlt : x.toNat - 2 ^ 63 < 2 ^ 63 := by omega
      generalize x.toNat - 2 ^ 63 = y at e hlt
      have h1 : x.toNat = 2 ^ 63 ||| y := by
        have := Nat.two_pow_add_eq_or_of_lt hlt 1
        rw [Nat.mul_one] at this
        rw [e, this]
      have h2 : x.toNat ^^^ 2 ^ 63 = y := by
        rw [h1]
        apply Nat.eq_of_testBit_eq
        intro i
        rw [Nat.testBit_xor, Nat.testBit_or, Nat.testBit_two_pow]
        by_cases hi : 63 = i
        · subst hi
          rw [Nat.testBit_lt_two_pow hlt]; simp
        · simp [hi]
      rw [h2]; omega
  have h2 : FP.Core.val64 (FP.dneg x) = FP.Core.negate (FP.Core.val64 x) := FP.Core.val64_neg_bits (by omega)
  have h3 := FP.Core.val64_dneg x
  refine FP.Core.val64_inj ?_ (h2.trans h3.symm)
  rw [h2]
  exact FP.Core.negate_ne_nan (fin_val h)
theorem fR_neg {x : UInt64} {a b : Int} (h : fR x a b) : fR (FP.dneg x) (-b) (-a) := by
  rw [neg_eq h.1]; exact fR_cneg h
theorem fR_sub {x y : UInt64} {a b c d : Int} (hx : fR x a b) (hy : fR y c d) (p q : Int) (hp : p ≤ a - d) (hq : b - c ≤ q) (rp : fRb p = true) (rq : fRb q = true) : fR (FP.dsub x y) p q := by
  show fR (FP.Core.dsub x y) p q
  rw [FP.Core.dsub_eq]
  exact fR_add hx (fR_cneg hy) p q (by omega) (by omega) rp rq
theorem box_le {X Y A B C D M : Int} (h1 : A ≤ X) (h2 : X ≤ B) (h3 : C ≤ Y) (h4 : Y ≤ D) (k1 : A * C ≤ M) (k2 : A * D ≤ M) (k3 : B * C ≤ M) (k4 : B * D ≤ M) : X * Y ≤ M := by
  have key : ∀ Z : Int, Z * C ≤ M → Z * D ≤ M → Z * Y ≤ M := by
    intro Z z1 z2
    rcases Int.le_total 0 Z with h | h
    · exact Int.le_trans (Int.mul_le_mul_of_nonneg_left h4 h) z2
    · exact Int.le_trans (Int.mul_le_mul_of_nonpos_left h h3) z1
  rcases Int.le_total 0 Y with h | h
  · exact Int.le_trans (Int.mul_le_mul_of_nonneg_right h2 h) (key B k3 k4)
  · exact Int.le_trans (Int.mul_le_mul_of_nonpos_right h1 h) (key A k1 k2)
theorem box_ge {X Y A B C D M : Int} (h1 : A ≤ X) (h2 : X ≤ B) (h3 : C ≤ Y) (h4 : Y ≤ D) (k1 : M ≤ A * C) (k2 : M ≤ A * D) (k3 : M ≤ B * C) (k4 : M ≤ B * D) : M ≤ X * Y := by
  have := box_le (X := -X) (Y := Y) (A := -B) (B := -A) (C := C) (D := D) (M := -M) (by omega) (by omega) h3 h4 (by rw [Int.neg_mul]; omega) (by rw [Int.neg_mul]; omega) (by rw [Int.neg_mul]; omega) (by rw [Int.neg_mul]; omega)
  rw [Int.neg_mul] at this; omega
theorem sq_uu (a c : Int) : a * (uu : Int) * (c * (uu : Int)) = a * c * ((uu : Int) * (uu : Int)) := by
  rw [Int.mul_assoc, Int.mul_left_comm (uu : Int) c, ← Int.mul_assoc]
theorem fR_mulR {x y : UInt64} (fx : FP.Core.DFin x) (fy : FP.Core.DFin y) (p q : Int) (lo : p * (uu : Int) * (FP.Core.one64 : Int) ≤ fz x * fz y) (hi : fz x * fz y ≤ q * (uu : Int) * (FP.Core.one64 : Int)) (rp : fRep p) (rq : fRep q) : fR (FP.dmul x y) p q := by
  obtain ⟨s, k, j, e⟩ := fx
  obtain ⟨t, k2, j2, e2⟩ := fy
  have f1 := FP.Core.val64_fits x
  have f2 := FP.Core.val64_fits y
  rw [e] at f1
  rw [e2] at f2
  obtain ⟨u1, u2, u3⟩ := FP.Core.product_units f1 f2
  have hs : FP.Core.signed (s != t) (FP.Core.inUnits (k * k2) (j + j2) (2 * FP.Core.b64.qmin)) = fz x * fz y := by
    rw [u3, FP.Core.signed_xor]
    unfold fz
    rw [e, e2]; rfl
  have hpow : (FP.Core.b64.qmin - 2 * FP.Core.b64.qmin).toNat = (-FP.Core.b64.qmin).toNat := by
    rw [FP.Core.qmin_b64]; rfl
  have hv : FP.Core.val64 (FP.dmul x y) = FP.Core.round FP.Core.b64 (.fin (s != t) (k * k2) (j + j2)) := by
    rw [show FP.Core.val64 (FP.dmul x y) = _ from FP.Core.val64_dmul x y, e, e2, u1]
  refine fR_of_round hv (round_fin_ne _ _ _) rp rq ?_ ?_
  · intro V fV eV
    refine FP.Core.zval_round_ge FP.Core.good_b64 (e0 := 2 * FP.Core.b64.qmin) (FP.Core.val64_fits V) (fin_val fV) (by rw [FP.Core.qmin_b64]; decide) u2 ?_
    rw [hs, hpow, FP.Core.pow_qmin64]
    show fz V * _ ≤ _
    rw [eV]; exact lo
  · intro V fV eV
    refine FP.Core.zval_round_le FP.Core.good_b64 (e0 := 2 * FP.Core.b64.qmin) (FP.Core.val64_fits V) (fin_val fV) (by rw [FP.Core.qmin_b64]; decide) u2 ?_
    rw [hs, hpow, FP.Core.pow_qmin64]
    show _ ≤ fz V * _
    rw [eV]; exact hi
theorem uu_one (r : Int) : r * (uu : Int) * (FP.Core.one64 : Int) = r * 1073741824 * ((uu : Int) * (uu : Int)) := by
  rw [one_uuI, ← Int.mul_assoc, Int.mul_right_comm r (uu : Int), Int.mul_assoc (r * 1073741824)]
theorem fR_mul {x y : UInt64} {a b c d : Int} (hx : fR x a b) (hy : fR y c d) (p q : Int)
    (hp : p * 1073741824 ≤ a * c ∧ p * 1073741824 ≤ a * d ∧ p * 1073741824 ≤ b * c ∧ p * 1073741824 ≤ b * d)
    (hq : a * c ≤ q * 1073741824 ∧ a * d ≤ q * 1073741824 ∧ b * c ≤ q * 1073741824 ∧ b * d ≤ q * 1073741824) (rp : fRb p = true) (rq : fRb q = true) : fR (FP.dmul x y) p q := by
  have hu := uu_pos
  have huu : (0 : Int) < (uu : Int) * (uu : Int) := Int.mul_pos hu hu
  have hun := Int.le_of_lt huu
  obtain ⟨fx, x1, x2⟩ := hx
  obtain ⟨fy, y1, y2⟩ := hy
  refine fR_mulR fx fy p q ?_ ?_ (fRb_rep rp) (fRb_rep rq)
  · rw [uu_one]
    refine box_ge x1 x2 y1 y2 ?_ ?_ ?_ ?_ <;> rw [sq_uu] <;> exact Int.mul_le_mul_of_nonneg_right (by first | exact hp.1 | exact hp.2.1 | exact hp.2.2.1 | exact hp.2.2.2) hun
  · rw [uu_one]
    refine box_le x1 x2 y1 y2 ?_ ?_ ?_ ?_ <;> rw [sq_uu] <;> exact Int.mul_le_mul_of_nonneg_right (by first | exact hq.1 | exact hq.2.1 | exact hq.2.2.1 | exact hq.2.2.2) hun
theorem fR_sq {x : UInt64} {a b : Int} (hx : fR x a b) (q : Int) (hq : a * a ≤ q * 1073741824 ∧ a * b ≤ q * 1073741824 ∧ b * a ≤ q * 1073741824 ∧ b * b ≤ q * 1073741824) (rq : fRb q = true) : fR (FP.dmul x x) 0 q := by
  have hu := uu_pos
  have huu : (0 : Int) < (uu : Int) * (uu : Int) := Int.mul_pos hu hu
  have hun := Int.le_of_lt huu
  obtain ⟨fx, x1, x2⟩ := hx
  refine fR_mulR fx fx 0 q ?_ ?_ (fRb_rep rfl) (fRb_rep rq)
  · rw [Int.zero_mul, Int.zero_mul]
    rcases Int.le_total 0 (fz x) with h | h
    · exact Int.mul_nonneg h h
    · exact Int.mul_nonneg_of_nonpos_of_nonpos h h
  · rw [uu_one]
    refine box_le x1 x2 x1 x2 ?_ ?_ ?_ ?_ <;> rw [sq_uu] <;> exact Int.mul_le_mul_of_nonneg_right (by first | exact hq.1 | exact hq.2.1 | exact hq.2.2.1 | exact hq.2.2.2) hun
theorem ratio_le {s : Bool} {A B : Nat} {e e0 : Int} {V : UInt64} (hB : 0 < B) (fV : FP.Core.DFin V) (h0 : e0 ≤ FP.Core.b64.qmin) (h0e : e0 ≤ e)
    (h : FP.Core.signed s (FP.Core.inUnits A e e0) ≤ fz V * ((2 ^ (FP.Core.b64.qmin - e0).toNat : Nat) : Int) * (B : Int)) : FP.Core.zval FP.Core.b64 (FP.Core.roundRatio FP.Core.b64 s A B e) ≤ fz V := by
  have hle := FP.Core.zmag_roundRatio_le FP.Core.good_b64 (s := s) (A := A) hB (FP.Core.val64_fits V) (fin_val fV) h0 h0e
  have hge := FP.Core.zmag_roundRatio_ge FP.Core.good_b64 (s := s) (A := A) hB (FP.Core.val64_fits V) h0 h0e
  have hP := Nat.two_pow_pos (FP.Core.b64.qmin - e0).toNat
  unfold fz FP.Core.zval at h ⊢
  rw [FP.Core.sgn_roundRatio]
  rw [← FP.Core.signed_mul, ← FP.Core.signed_mul] at h
  have hz : FP.Core.zmag FP.Core.b64 (FP.Core.val64 V) * 2 ^ (FP.Core.b64.qmin - e0).toNat * B = 0 → FP.Core.zmag FP.Core.b64 (FP.Core.val64 V) = 0 := by
    intro h
    rcases Nat.mul_eq_zero.mp h with h | h
    · rcases Nat.mul_eq_zero.mp h with h | h <;> omega
    · omega
  generalize FP.Core.zmag FP.Core.b64 (FP.Core.val64 V) * 2 ^ (FP.Core.b64.qmin - e0).toNat * B = vP at *
  generalize FP.Core.sgn (FP.Core.val64 V) = t at *
  cases s <;> cases t <;> simp only [FP.Core.signed, if_true, Bool.false_eq_true, if_false] at h ⊢
  · have := hle (by omega); omega
  · have := hle (by omega); have := hz (by omega); omega
  · omega
  · have := hge (by omega); omega
theorem ratio_ge {s : Bool} {A B : Nat} {e e0 : Int} {V : UInt64} (hB : 0 < B) (fV : FP.Core.DFin V) (h0 : e0 ≤ FP.Core.b64.qmin) (h0e : e0 ≤ e)
    (h : fz V * ((2 ^ (FP.Core.b64.qmin - e0).toNat : Nat) : Int) * (B : Int) ≤ FP.Core.signed s (FP.Core.inUnits A e e0)) : fz V ≤ FP.Core.zval FP.Core.b64 (FP.Core.roundRatio FP.Core.b64 s A B e) := by
  obtain ⟨f2, z2⟩ := fz_neg fV
  have h1 := ratio_le (s := !s) (A := A) (B := B) (e := e) (e0 := e0) hB f2 h0 h0e (by
    rw [z2, Int.neg_mul, Int.neg_mul, FP.Core.signed_not]; omega)
  rw [z2, ← FP.Core.negate_roundRatio, FP.Core.zval_negate] at h1
  omega
theorem fR_divR {x y : UInt64} {a b c d : Int} (hx : fR x a b) (hy : fR y c d) (hc : 0 < c) (p q : Int)
    (hp : p * c ≤ a * 1073741824 ∧ p * d ≤ a * 1073741824) (hq : b * 1073741824 ≤ q * c ∧ b * 1073741824 ≤ q * d) (rp : fRep p) (rq : fRep q) : fR (FP.ddiv x y) p q := by
  have hu := uu_pos
  have hun := Int.le_of_lt hu
  obtain ⟨fx, x1, x2⟩ := hx
  obtain ⟨fy, y1, y2⟩ := hy
  have ypos : 0 < fz y := Int.lt_of_lt_of_le (Int.mul_pos hc hu) y1
  have one30 : ∀ r : Int, r * (FP.Core.one64 : Int) = r * 1073741824 * (uu : Int) := by
    intro r; rw [one_uuI, Int.mul_assoc]
  -- p * zy ≤ zx * 2^30, zx * 2^30 ≤ q * zy
  have lo : p * fz y ≤ fz x * 1073741824 := by
    have h1 : p * fz y ≤ a * 1073741824 * (uu : Int) := by
      rcases Int.le_total 0 p with h | h
      · refine Int.le_trans (Int.mul_le_mul_of_nonneg_left y2 h) ?_
        rw [← Int.mul_assoc]; exact Int.mul_le_mul_of_nonneg_right hp.2 hun
      · refine Int.le_trans (Int.mul_le_mul_of_nonpos_left h y1) ?_
        rw [← Int.mul_assoc]; exact Int.mul_le_mul_of_nonneg_right hp.1 hun
    have h2 := Int.mul_le_mul_of_nonneg_right x1 (show (0 : Int) ≤ 1073741824 by omega)
    rw [Int.mul_right_comm] at h2
    exact Int.le_trans h1 h2
  have hi : fz x * 1073741824 ≤ q * fz y := by
    have h1 : b * 1073741824 * (uu : Int) ≤ q * fz y := by
      rcases Int.le_total 0 q with h | h
      · refine Int.le_trans ?_ (Int.mul_le_mul_of_nonneg_left y1 h)
        rw [← Int.mul_assoc]; exact Int.mul_le_mul_of_nonneg_right hq.1 hun
      · refine Int.le_trans ?_ (Int.mul_le_mul_of_nonpos_left h y2)
        rw [← Int.mul_assoc]; exact Int.mul_le_mul_of_nonneg_right hq.2 hun
    have h2 := Int.mul_le_mul_of_nonneg_right x2 (show (0 : Int) ≤ 1073741824 by omega)
    rw [Int.mul_right_comm] at h2
    exact Int.le_trans h2 h1
  obtain ⟨s, k, j, e⟩ := fx
  obtain ⟨t, k2, j2, e2⟩ := fy
  have hqm := FP.Core.qmin_b64
  have hqx : FP.Core.b64.qmax = 971 := by decide
  have f1 := FP.Core.val64_fits x
  have f2 := FP.Core.val64_fits y
  rw [e] at f1
  rw [e2] at f2
  have b1 := f1.2.1
  have b2 := f2.2.1
  have b3 := f2.2.2.1
  rw [hqm] at b1 b2
  rw [hqx] at b3
  have zx : fz x = FP.Core.signed s (k * 2 ^ (j + 1074).toNat) := by
    unfold fz; rw [e]; show FP.Core.signed s (FP.Core.inUnits k j _) = _
    unfold FP.Core.inUnits; rw [hqm]; rfl
  have zy : fz y = FP.Core.signed t (k2 * 2 ^ (j2 + 1074).toNat) := by
    unfold fz; rw [e2]; show FP.Core.signed t (FP.Core.inUnits k2 j2 _) = _
    unfold FP.Core.inUnits; rw [hqm]; rfl
  rw [zy] at ypos
  obtain ⟨zy2, -⟩ := FP.Core.signed_pos ypos
  have ht : t = false := by
    cases t
    · rfl
    · simp only [FP.Core.signed, if_true] at ypos; omega
  have hk2 : 0 < k2 := by
    rcases Nat.eq_zero_or_pos k2 with h | h
    · subst h; rw [Nat.zero_mul] at ypos; rw [FP.Core.signed_zero] at ypos; omega
    · exact h
  rw [zy2] at zy
  subst ht
  have hv : FP.Core.val64 (FP.ddiv x y) = FP.Core.roundRatio FP.Core.b64 s k k2 (j - j2) := by
    rw [show FP.Core.val64 (FP.ddiv x y) = _ from FP.Core.val64_ddiv x y, e, e2]
    simp only [FP.Core.quotient]
    rw [if_neg (by omega)]
    cases s <;> rfl
  have hin : ∀ M : Int, (M * fz y ≤ fz x * (FP.Core.one64 : Int) → M * ((2 ^ (FP.Core.b64.qmin - (-3000)).toNat : Nat) : Int) * (k2 : Int) ≤ FP.Core.signed s (FP.Core.inUnits k (j - j2) (-3000))) ∧
      (fz x * (FP.Core.one64 : Int) ≤ M * fz y → FP.Core.signed s (FP.Core.inUnits k (j - j2) (-3000)) ≤ M * ((2 ^ (FP.Core.b64.qmin - (-3000)).toNat : Nat) : Int) * (k2 : Int)) := by
    intro M
    have hE : FP.Core.signed s (FP.Core.inUnits k (j - j2) (-3000)) * ((2 ^ (j2 + 1074).toNat : Nat) : Int) = fz x * (FP.Core.one64 : Int) * ((2 ^ 1926 : Nat) : Int) := by
      rw [zx, ← FP.Core.signed_mul]
      unfold FP.Core.inUnits FP.Core.one64
      rw [← FP.Core.signed_mul, ← FP.Core.signed_mul]
      have hexp : (j - j2 - -3000).toNat + (j2 + 1074).toNat = (j + 1074).toNat + 1074 + 1926 := by omega
      refine congrArg (FP.Core.signed s) ?_
      rw [Nat.mul_assoc, ← Nat.pow_add, hexp, Nat.pow_add, Nat.pow_add, ← Nat.mul_assoc, ← Nat.mul_assoc]
    have hF : M * ((2 ^ (FP.Core.b64.qmin - (-3000)).toNat : Nat) : Int) * (k2 : Int) * ((2 ^ (j2 + 1074).toNat : Nat) : Int) = M * fz y * ((2 ^ 1926 : Nat) : Int) := by
      rw [zy, hqm, show ((-1074 : Int) - (-3000)).toNat = 1926 by decide, Int.natCast_mul, Int.mul_assoc (M * _), Int.mul_right_comm M, ← Int.mul_assoc]
    have hpos : (0 : Int) < ((2 ^ (j2 + 1074).toNat : Nat) : Int) := by
      have := Nat.two_pow_pos (j2 + 1074).toNat; omega
    have hp2 : (0 : Int) ≤ ((2 ^ 1926 : Nat) : Int) := Int.natCast_nonneg _
    refine ⟨fun h => ?_, fun h => ?_⟩
    · refine Int.le_of_mul_le_mul_right ?_ hpos
      rw [hE, hF]; exact Int.mul_le_mul_of_nonneg_right h hp2
    · refine Int.le_of_mul_le_mul_right ?_ hpos
      rw [hE, hF]; exact Int.mul_le_mul_of_nonneg_right h hp2
  refine fR_of_round hv (FP.Core.roundRatio_ne_nan _ _ _ _ _) rp rq ?_ ?_
  · intro V fV eV
    refine ratio_ge hk2 fV (e0 := -3000) (by rw [hqm]; decide) (by omega) ((hin (fz V)).1 ?_)
    rw [eV, Int.mul_right_comm, one30]
    exact Int.mul_le_mul_of_nonneg_right lo hun
  · intro V fV eV
    refine ratio_le hk2 fV (e0 := -3000) (by rw [hqm]; decide) (by omega) ((hin (fz V)).2 ?_)
    rw [eV, Int.mul_right_comm, one30]
    exact Int.mul_le_mul_of_nonneg_right hi hun
theorem fR_div {x y : UInt64} {a b c d : Int} (hx : fR x a b) (hy : fR y c d) (hc : 0 < c) (p q : Int)
    (hp : p * c ≤ a * 1073741824 ∧ p * d ≤ a * 1073741824) (hq : b * 1073741824 ≤ q * c ∧ b * 1073741824 ≤ q * d) (rp : fRb p = true) (rq : fRb q = true) : fR (FP.ddiv x y) p q := fR_divR hx hy hc p q hp hq (fRb_rep rp) (fRb_rep rq)
/-! constants, whole numbers -/
def fLit (x : UInt64) (lo hi : Int) : Bool := decide (x.toNat % 9223372036854775808 < 9218868437227405312) && decide (lo * (uu : Int) ≤ fz x) && decide (fz x ≤ hi * (uu : Int))
theorem fR_lit {x : UInt64} {lo hi : Int} (h : fLit x lo hi = true) : fR x lo hi := by
  unfold fLit at h
  rw [Bool.and_eq_true, Bool.and_eq_true, decide_eq_true_eq, decide_eq_true_eq, decide_eq_true_eq] at h
  exact ⟨(FP.Core.fin_bits x).mpr h.1.1, h.1.2, h.2⟩
theorem dint_fz {i : Int} {x : UInt64} (h : FP.Core.DInt i x) : FP.Core.DFin x ∧ fz x = i * 1073741824 * (uu : Int) := by
  refine ⟨?_, ?_⟩
  · unfold FP.Core.DInt at h
    cases hv : FP.Core.val64 x with
    | nan => rw [hv] at h; exact h.elim
    | inf s => rw [hv] at h; exact h.elim
    | fin s c q => exact ⟨s, c, q, hv⟩
  · have := FP.Core.DInt_zval h
    rw [one_uuI, ← Int.mul_assoc] at this
    exact this
theorem fR_int {i lo hi : Int} {x : UInt64} (h : FP.Core.DInt i x) (h1 : lo ≤ i) (h2 : i ≤ hi) : fR x (lo * 1073741824) (hi * 1073741824) := by
  obtain ⟨a, b⟩ := dint_fz h
  refine ⟨a, ?_, ?_⟩ <;> rw [b] <;> exact Int.mul_le_mul_of_nonneg_right (by omega) (Int.le_of_lt uu_pos)
theorem fR_i2d (n : Int32) {lo hi : Int} (h1 : lo ≤ n.toInt) (h2 : n.toInt ≤ hi) : fR (FP.i2d n) (lo * 1073741824) (hi * 1073741824) := fR_int (FP.Core.i2d_int n) h1 h2
theorem fR_l2d (n : Int64) {lo hi : Int} (h1 : lo ≤ n.toInt) (h2 : n.toInt ≤ hi) (h3 : -9007199254740992 ≤ lo) (h4 : hi ≤ 9007199254740992) : fR (FP.l2d n) (lo * 1073741824) (hi * 1073741824) := fR_int (FP.Core.l2d_int (by omega)) h1 h2
/-! comparisons -/
abbrev dlt (x y : UInt64) : Prop := FP.dcmp x y = some .lt
abbrev deq (x y : UInt64) : Prop := FP.dcmp x y = some .eq
abbrev dgt (x y : UInt64) : Prop := FP.dcmp x y = some .gt
theorem dlt_fz {x y : UInt64} (hx : FP.Core.DFin x) (hy : FP.Core.DFin y) : dlt x y ↔ fz x < fz y := by
  show FP.Core.dcmp x y = some .lt ↔ _
  rw [FP.Core.dcmp_lt]; exact ⟨fun h => h.2.2, fun h => ⟨fin_val hx, fin_val hy, h⟩⟩
theorem dgt_fz {x y : UInt64} (hx : FP.Core.DFin x) (hy : FP.Core.DFin y) : dgt x y ↔ fz y < fz x := by
  show FP.Core.dcmp x y = some .gt ↔ _
  rw [FP.Core.dcmp_gt]; exact ⟨fun h => h.2.2, fun h => ⟨fin_val hx, fin_val hy, h⟩⟩
theorem deq_fz {x y : UInt64} (hx : FP.Core.DFin x) (hy : FP.Core.DFin y) : deq x y ↔ fz x = fz y := by
  show FP.Core.dcmp x y = some .eq ↔ _
  rw [FP.Core.dcmp_eq]; exact ⟨fun h => h.2.2, fun h => ⟨fin_val hx, fin_val hy, h⟩⟩
/-! a double without what is behind the point -/
theorem trunc_fz {x : UInt64} (hx : FP.Core.DFin x) : ∃ n : Int, FP.Core.signed (FP.Core.sgn (FP.Core.val64 x)) (FP.Core.zmag FP.Core.b64 (FP.Core.val64 x) / FP.Core.one64) = n ∧
    (0 ≤ fz x → 0 ≤ n ∧ n * (FP.Core.one64 : Int) ≤ fz x ∧ fz x < (n + 1) * (FP.Core.one64 : Int)) ∧ (fz x ≤ 0 → n ≤ 0 ∧ fz x ≤ n * (FP.Core.one64 : Int) ∧ (n - 1) * (FP.Core.one64 : Int) < fz x) := by
  refine ⟨_, rfl, ?_⟩
  unfold fz FP.Core.zval
  have h1 := Nat.div_add_mod (FP.Core.zmag FP.Core.b64 (FP.Core.val64 x)) FP.Core.one64
  have h2 := Nat.mod_lt (FP.Core.zmag FP.Core.b64 (FP.Core.val64 x)) FP.Core.one64_pos
  have hp := FP.Core.one64_pos
  generalize FP.Core.zmag FP.Core.b64 (FP.Core.val64 x) = z at *
  generalize hq : z / FP.Core.one64 = n at *
  generalize z % FP.Core.one64 = r at *
  generalize FP.Core.one64 = O at *
  have e1 : ((O * n : Nat) : Int) = (n : Int) * (O : Int) := by rw [Int.natCast_mul, Int.mul_comm]
  have hz : (z : Int) = (n : Int) * (O : Int) + (r : Int) := by rw [← e1]; omega
  have a1 : ((n : Int) + 1) * (O : Int) = (n : Int) * (O : Int) + (O : Int) := by rw [Int.add_mul, Int.one_mul]
  have a2 : (-(n : Int) - 1) * (O : Int) = -((n : Int) * (O : Int)) - (O : Int) := by rw [Int.sub_mul, Int.one_mul, Int.neg_mul]
  have a3 : -(n : Int) * (O : Int) = -((n : Int) * (O : Int)) := Int.neg_mul _ _
  have hn0 : 0 < n → (O : Int) ≤ (n : Int) * (O : Int) := fun h => by
    have := Int.mul_le_mul_of_nonneg_right (show (1 : Int) ≤ (n : Int) by omega) (show (0 : Int) ≤ (O : Int) by omega)
    rw [Int.one_mul] at this; exact this
  have hnz : n = 0 → (n : Int) * (O : Int) = 0 := fun h => by rw [h]; exact Int.zero_mul _
  cases FP.Core.sgn (FP.Core.val64 x)
  · simp only [FP.Core.signed, Bool.false_eq_true, if_false]
    refine ⟨fun _ => ⟨by omega, by omega, by omega⟩, fun h => ?_⟩
    have hn : n = 0 := by
      rcases Nat.eq_zero_or_pos n with h9 | h9
      · exact h9
      · have := hn0 h9; omega
    have := hnz hn
    subst hn
    refine ⟨by omega, by omega, ?_⟩
    have b : (((0 : Nat) : Int) - 1) * (O : Int) = - (O : Int) := by rw [show (((0 : Nat) : Int) - 1) = -1 from rfl, Int.neg_mul, Int.one_mul]
    omega
  · simp only [FP.Core.signed, if_true]
    refine ⟨fun h => ?_, fun _ => ⟨by omega, by omega, by omega⟩⟩
    have hn : n = 0 := by
      rcases Nat.eq_zero_or_pos n with h9 | h9
      · exact h9
      · have := hn0 h9; omega
    have := hnz hn
    subst hn
    have b : (-((0 : Nat) : Int) + 1) * (O : Int) = (O : Int) := by rw [show (-((0 : Nat) : Int) + 1) = 1 from rfl, Int.one_mul]
    exact ⟨by omega, by omega, by omega⟩
end
section
/-! ===== two instructions in one row: a comparison of longs or doubles and the branch behind it ===== -/
abbrev dle (x y : UInt64) : Prop := FP.dcmp x y = some .lt ∨ FP.dcmp x y = some .eq
abbrev dge (x y : UInt64) : Prop := FP.dcmp x y = some .gt ∨ FP.dcmp x y = some .eq
theorem cv_g_ge (o : Option Ordering) : 0 ≤ Op.cmpValue o .g ↔ ¬ o = some .lt := by
  rcases o with _ | o
  · decide
  · cases o <;> decide
theorem cv_g_gt (o : Option Ordering) : 0 < Op.cmpValue o .g ↔ ¬ (o = some .lt ∨ o = some .eq) := by
  rcases o with _ | o
  · decide
  · cases o <;> decide
theorem cv_g_lt (o : Option Ordering) : Op.cmpValue o .g < 0 ↔ o = some .lt := by
  rcases o with _ | o
  · decide
  · cases o <;> decide
theorem cv_l_eq (o : Option Ordering) : Op.cmpValue o .l = 0 ↔ o = some .eq := by
  rcases o with _ | o
  · decide
  · cases o <;> decide
theorem cv_l_le (o : Option Ordering) : Op.cmpValue o .l ≤ 0 ↔ ¬ o = some .gt := by
  rcases o with _ | o
  · decide
  · cases o <;> decide
theorem cv_l_lt (o : Option Ordering) : Op.cmpValue o .l < 0 ↔ ¬ (o = some .gt ∨ o = some .eq) := by
  rcases o with _ | o
  · decide
  · cases o <;> decide
section ZR
variable {p : Program} {l : Launch} {e : Env} {R : Room} {s : State} {m : MethodId} {args : Array Value} {below : List Frame} {meth : Method} {c : Code} {H : Heap} {locs : List Loc} {cells slots : Nat} {Q : State → Prop}
variable {cc : ByteArray} {pc : Nat} {ls : Array Slot} {rest : List Value} {off : Int} {tgt : Nat}
theorem zd_g_ge (hx : p.tables.exec = Jvm.exec) (hb : c.code = cc) {x y : UInt64} (d1 : decode cc pc = .ok (.dcmp .g, 1)) (d2 : decode cc (pc + 1) = .ok (.ifCond .ge off, 3)) (ht : ((pc + 1 : Nat) : Int) + off = (tgt : Int))
    (kt : ¬ dlt x y → W p l e R s m args below meth c H locs cells slots Q (F0 m tgt ls rest)) (kf : dlt x y → W p l e R s m args below meth c H locs cells slots Q (F0 m (pc + 4) ls rest)) : W p l e R s m args below meth c H locs cells slots Q (F0 m pc ls (.double y :: .double x :: rest)) :=
  lv_dcmp hx hb d1 (lv_if_ge hx hb d2 ht (fun h => kt ((cv_g_ge _).mp h)) (fun h => kf (Classical.byContradiction fun q => h ((cv_g_ge _).mpr q))))
theorem zd_g_gt (hx : p.tables.exec = Jvm.exec) (hb : c.code = cc) {x y : UInt64} (d1 : decode cc pc = .ok (.dcmp .g, 1)) (d2 : decode cc (pc + 1) = .ok (.ifCond .gt off, 3)) (ht : ((pc + 1 : Nat) : Int) + off = (tgt : Int))
    (kt : ¬ dle x y → W p l e R s m args below meth c H locs cells slots Q (F0 m tgt ls rest)) (kf : dle x y → W p l e R s m args below meth c H locs cells slots Q (F0 m (pc + 4) ls rest)) : W p l e R s m args below meth c H locs cells slots Q (F0 m pc ls (.double y :: .double x :: rest)) :=
  lv_dcmp hx hb d1 (lv_if_gt hx hb d2 ht (fun h => kt ((cv_g_gt _).mp h)) (fun h => kf (Classical.byContradiction fun q => h ((cv_g_gt _).mpr q))))
theorem zd_g_lt (hx : p.tables.exec = Jvm.exec) (hb : c.code = cc) {x y : UInt64} (d1 : decode cc pc = .ok (.dcmp .g, 1)) (d2 : decode cc (pc + 1) = .ok (.ifCond .lt off, 3)) (ht : ((pc + 1 : Nat) : Int) + off = (tgt : Int))
    (kt : dlt x y → W p l e R s m args below meth c H locs cells slots Q (F0 m tgt ls rest)) (kf : ¬ dlt x y → W p l e R s m args below meth c H locs cells slots Q (F0 m (pc + 4) ls rest)) : W p l e R s m args below meth c H locs cells slots Q (F0 m pc ls (.double y :: .double x :: rest)) :=
  lv_dcmp hx hb d1 (lv_if_lt hx hb d2 ht (fun h => kt ((cv_g_lt _).mp h)) (fun h => kf (fun q => h ((cv_g_lt _).mpr q))))
theorem zd_l_eq (hx : p.tables.exec = Jvm.exec) (hb : c.code = cc) {x y : UInt64} (d1 : decode cc pc = .ok (.dcmp .l, 1)) (d2 : decode cc (pc + 1) = .ok (.ifCond .eq off, 3)) (ht : ((pc + 1 : Nat) : Int) + off = (tgt : Int))
    (kt : deq x y → W p l e R s m args below meth c H locs cells slots Q (F0 m tgt ls rest)) (kf : ¬ deq x y → W p l e R s m args below meth c H locs cells slots Q (F0 m (pc + 4) ls rest)) : W p l e R s m args below meth c H locs cells slots Q (F0 m pc ls (.double y :: .double x :: rest)) :=
  lv_dcmp hx hb d1 (lv_if_eq hx hb d2 ht (fun h => kt ((cv_l_eq _).mp h)) (fun h => kf (fun q => h ((cv_l_eq _).mpr q))))
theorem zd_l_ne (hx : p.tables.exec = Jvm.exec) (hb : c.code = cc) {x y : UInt64} (d1 : decode cc pc = .ok (.dcmp .l, 1)) (d2 : decode cc (pc + 1) = .ok (.ifCond .ne off, 3)) (ht : ((pc + 1 : Nat) : Int) + off = (tgt : Int))
    (kt : ¬ deq x y → W p l e R s m args below meth c H locs cells slots Q (F0 m tgt ls rest)) (kf : deq x y → W p l e R s m args below meth c H locs cells slots Q (F0 m (pc + 4) ls rest)) : W p l e R s m args below meth c H locs cells slots Q (F0 m pc ls (.double y :: .double x :: rest)) :=
  lv_dcmp hx hb d1 (lv_if_ne hx hb d2 ht (fun h => kt (fun q => h ((cv_l_eq _).mpr q))) (fun h => kf ((cv_l_eq _).mp h)))
theorem zd_l_le (hx : p.tables.exec = Jvm.exec) (hb : c.code = cc) {x y : UInt64} (d1 : decode cc pc = .ok (.dcmp .l, 1)) (d2 : decode cc (pc + 1) = .ok (.ifCond .le off, 3)) (ht : ((pc + 1 : Nat) : Int) + off = (tgt : Int))
    (kt : ¬ dgt x y → W p l e R s m args below meth c H locs cells slots Q (F0 m tgt ls rest)) (kf : dgt x y → W p l e R s m args below meth c H locs cells slots Q (F0 m (pc + 4) ls rest)) : W p l e R s m args below meth c H locs cells slots Q (F0 m pc ls (.double y :: .double x :: rest)) :=
  lv_dcmp hx hb d1 (lv_if_le hx hb d2 ht (fun h => kt ((cv_l_le _).mp h)) (fun h => kf (Classical.byContradiction fun q => h ((cv_l_le _).mpr q))))
theorem zd_l_lt (hx : p.tables.exec = Jvm.exec) (hb : c.code = cc) {x y : UInt64} (d1 : decode cc pc = .ok (.dcmp .l, 1)) (d2 : decode cc (pc + 1) = .ok (.ifCond .lt off, 3)) (ht : ((pc + 1 : Nat) : Int) + off = (tgt : Int))
    (kt : ¬ dge x y → W p l e R s m args below meth c H locs cells slots Q (F0 m tgt ls rest)) (kf : dge x y → W p l e R s m args below meth c H locs cells slots Q (F0 m (pc + 4) ls rest)) : W p l e R s m args below meth c H locs cells slots Q (F0 m pc ls (.double y :: .double x :: rest)) :=
  lv_dcmp hx hb d1 (lv_if_lt hx hb d2 ht (fun h => kt ((cv_l_lt _).mp h)) (fun h => kf (Classical.byContradiction fun q => h ((cv_l_lt _).mpr q))))
theorem zl_eq (hx : p.tables.exec = Jvm.exec) (hb : c.code = cc) {x y : Int64} (d1 : decode cc pc = .ok (.lcmp, 1)) (d2 : decode cc (pc + 1) = .ok (.ifCond .eq off, 3)) (ht : ((pc + 1 : Nat) : Int) + off = (tgt : Int))
    (kt : x = y → W p l e R s m args below meth c H locs cells slots Q (F0 m tgt ls rest)) (kf : ¬ x = y → W p l e R s m args below meth c H locs cells slots Q (F0 m (pc + 4) ls rest)) : W p l e R s m args below meth c H locs cells slots Q (F0 m pc ls (.long y :: .long x :: rest)) :=
  W.lcmp hx hb d1 (lv_if_eq hx hb d2 ht (fun h => kt ((lg_cmp_eq _ _).mp h)) (fun h => kf (fun q => h ((lg_cmp_eq _ _).mpr q))))
theorem zl_ne (hx : p.tables.exec = Jvm.exec) (hb : c.code = cc) {x y : Int64} (d1 : decode cc pc = .ok (.lcmp, 1)) (d2 : decode cc (pc + 1) = .ok (.ifCond .ne off, 3)) (ht : ((pc + 1 : Nat) : Int) + off = (tgt : Int))
    (kt : ¬ x = y → W p l e R s m args below meth c H locs cells slots Q (F0 m tgt ls rest)) (kf : x = y → W p l e R s m args below meth c H locs cells slots Q (F0 m (pc + 4) ls rest)) : W p l e R s m args below meth c H locs cells slots Q (F0 m pc ls (.long y :: .long x :: rest)) :=
  W.lcmp hx hb d1 (lv_if_ne hx hb d2 ht (fun h => kt (fun q => h ((lg_cmp_eq _ _).mpr q))) (fun h => kf ((lg_cmp_eq _ _).mp h)))
theorem zl_ge (hx : p.tables.exec = Jvm.exec) (hb : c.code = cc) {x y : Int64} (d1 : decode cc pc = .ok (.lcmp, 1)) (d2 : decode cc (pc + 1) = .ok (.ifCond .ge off, 3)) (ht : ((pc + 1 : Nat) : Int) + off = (tgt : Int))
    (kt : y ≤ x → W p l e R s m args below meth c H locs cells slots Q (F0 m tgt ls rest)) (kf : ¬ y ≤ x → W p l e R s m args below meth c H locs cells slots Q (F0 m (pc + 4) ls rest)) : W p l e R s m args below meth c H locs cells slots Q (F0 m pc ls (.long y :: .long x :: rest)) :=
  W.lcmp hx hb d1 (lv_if_ge hx hb d2 ht (fun h => kt ((lg_cmp_ge _ _).mp h)) (fun h => kf (fun q => h ((lg_cmp_ge _ _).mpr q))))
theorem zl_gt (hx : p.tables.exec = Jvm.exec) (hb : c.code = cc) {x y : Int64} (d1 : decode cc pc = .ok (.lcmp, 1)) (d2 : decode cc (pc + 1) = .ok (.ifCond .gt off, 3)) (ht : ((pc + 1 : Nat) : Int) + off = (tgt : Int))
    (kt : y < x → W p l e R s m args below meth c H locs cells slots Q (F0 m tgt ls rest)) (kf : ¬ y < x → W p l e R s m args below meth c H locs cells slots Q (F0 m (pc + 4) ls rest)) : W p l e R s m args below meth c H locs cells slots Q (F0 m pc ls (.long y :: .long x :: rest)) :=
  W.lcmp hx hb d1 (lv_if_gt hx hb d2 ht (fun h => kt ((lg_cmp_gt _ _).mp h)) (fun h => kf (fun q => h ((lg_cmp_gt _ _).mpr q))))
theorem zl_le (hx : p.tables.exec = Jvm.exec) (hb : c.code = cc) {x y : Int64} (d1 : decode cc pc = .ok (.lcmp, 1)) (d2 : decode cc (pc + 1) = .ok (.ifCond .le off, 3)) (ht : ((pc + 1 : Nat) : Int) + off = (tgt : Int))
    (kt : x ≤ y → W p l e R s m args below meth c H locs cells slots Q (F0 m tgt ls rest)) (kf : ¬ x ≤ y → W p l e R s m args below meth c H locs cells slots Q (F0 m (pc + 4) ls rest)) : W p l e R s m args below meth c H locs cells slots Q (F0 m pc ls (.long y :: .long x :: rest)) :=
  W.lcmp hx hb d1 (lv_if_le hx hb d2 ht (fun h => kt ((lg_cmp_le _ _).mp h)) (fun h => kf (fun q => h ((lg_cmp_le _ _).mpr q))))
theorem zl_lt (hx : p.tables.exec = Jvm.exec) (hb : c.code = cc) {x y : Int64} (d1 : decode cc pc = .ok (.lcmp, 1)) (d2 : decode cc (pc + 1) = .ok (.ifCond .lt off, 3)) (ht : ((pc + 1 : Nat) : Int) + off = (tgt : Int))
    (kt : x < y → W p l e R s m args below meth c H locs cells slots Q (F0 m tgt ls rest)) (kf : ¬ x < y → W p l e R s m args below meth c H locs cells slots Q (F0 m (pc + 4) ls rest)) : W p l e R s m args below meth c H locs cells slots Q (F0 m pc ls (.long y :: .long x :: rest)) :=
  W.lcmp hx hb d1 (lv_if_lt hx hb d2 ht (fun h => kt ((lg_cmp_lt _ _).mp h)) (fun h => kf (fun q => h ((lg_cmp_lt _ _).mpr q))))
end ZR
end
section
/-! ===== RED and the waves: bounds, and that both ways of working them out are one ===== -/
theorem uu_le {a b : Int} (h : a * (uu : Int) ≤ b * (uu : Int)) : a ≤ b := Int.le_of_mul_le_mul_right h uu_pos
theorem uu_lt {a b : Int} (h : a * (uu : Int) < b * (uu : Int)) : a < b := Int.lt_of_mul_lt_mul_right h (Int.le_of_lt uu_pos)
theorem le_uu {a b : Int} (h : a ≤ b) : a * (uu : Int) ≤ b * (uu : Int) := Int.mul_le_mul_of_nonneg_right h (Int.le_of_lt uu_pos)
theorem lt_uu {a b : Int} (h : a < b) : a * (uu : Int) < b * (uu : Int) := Int.mul_lt_mul_of_pos_right h uu_pos
theorem fR_addR {x y : UInt64} (fx : FP.Core.DFin x) (fy : FP.Core.DFin y) (p q : Int) (h1 : p * (uu : Int) ≤ fz x + fz y) (h2 : fz x + fz y ≤ q * (uu : Int)) (rp : fRep p) (rq : fRep q) : fR (FP.dadd x y) p q := by
  refine fR_of_round (FP.Core.val64_dadd x y) ?_ rp rq ?_ ?_
  · obtain ⟨s, k, j, e⟩ := fx
    obtain ⟨s2, k2, j2, e2⟩ := fy
    rw [e, e2]
    exact round_fin_ne _ _ _
  · intro V fV eV
    exact FP.Core.sum_ge FP.Core.good_b64 fx fy (FP.Core.val64_fits x) (FP.Core.val64_fits y) (FP.Core.val64_fits V) (fin_val fV) (by show fz V ≤ fz x + fz y; omega)
  · intro V fV eV
    exact FP.Core.sum_le FP.Core.good_b64 fx fy (FP.Core.val64_fits x) (FP.Core.val64_fits y) (FP.Core.val64_fits V) (fin_val fV) (by show fz x + fz y ≤ fz V; omega)
theorem fR_subR {x y : UInt64} (fx : FP.Core.DFin x) (fy : FP.Core.DFin y) (p q : Int) (h1 : p * (uu : Int) ≤ fz x - fz y) (h2 : fz x - fz y ≤ q * (uu : Int)) (rp : fRep p) (rq : fRep q) : fR (FP.dsub x y) p q := by
  show fR (FP.Core.dsub x y) p q
  rw [FP.Core.dsub_eq]
  obtain ⟨f2, z2⟩ := fz_neg fy
  exact fR_addR fx f2 p q (by rw [z2]; omega) (by rw [z2]; omega) rp rq
theorem fRep_s {n : Int} (h : n.natAbs < 9007199254740992) : fRep n := fRep_of (m := n.natAbs) (j := 0) (by omega) (by omega) (by omega)
theorem fRep_30 {n : Int} (k : Int) (e : n = k * 1073741824) (h : k.natAbs < 9007199254740992) : fRep n := fRep_of (m := k.natAbs) (j := 30) (by omega) (by omega) (by rw [show (2 : Nat) ^ 30 = 1073741824 from rfl]; omega)
theorem fRep_21 {n : Int} (k : Int) (e : n = k * 2097152) (h : k.natAbs < 9007199254740992) : fRep n := fRep_of (m := k.natAbs) (j := 21) (by omega) (by omega) (by rw [show (2 : Nat) ^ 21 = 2097152 from rfl]; omega)
theorem one30 (r : Int) : r * (FP.Core.one64 : Int) = r * 1073741824 * (uu : Int) := by rw [one_uuI, Int.mul_assoc]
/-- a cast to long -/
theorem d2l_tr {x : UInt64} (hx : fR x (-1237940039285380274899124224) 1237940039285380274899124224) : ∃ n : Int, (FP.d2l x).toInt = n ∧ (0 ≤ fz x → 0 ≤ n ∧ n * 1073741824 * (uu : Int) ≤ fz x ∧ fz x < (n + 1) * 1073741824 * (uu : Int)) ∧ (fz x ≤ 0 → n ≤ 0 ∧ fz x ≤ n * 1073741824 * (uu : Int) ∧ (n - 1) * 1073741824 * (uu : Int) < fz x) := by
  obtain ⟨n, e, h1, h2⟩ := trunc_fz hx.1
  rw [one30, one30] at h1 h2
  refine ⟨n, ?_, h1, h2⟩
  have hv := FP.Core.d2l_val (fin_val hx.1)
  rw [e] at hv
  show (FP.Core.d2l x).toInt = n
  rw [hv]
  obtain ⟨-, a1, a2⟩ := hx
  rcases Int.le_total 0 (fz x) with h | h
  · obtain ⟨b1, b2, b3⟩ := h1 h
    have := uu_le (Int.le_trans b2 a2)
    omega
  · obtain ⟨b1, b2, b3⟩ := h2 h
    have := uu_le (Int.le_trans a1 b2)
    omega
/-- a cast to int of what is small -/
theorem d2i_tr {x : UInt64} (hx : fR x (-1152921504606846976) 1152921504606846976) : (FP.d2i x).toInt = (FP.d2l x).toInt := by
  have hv := FP.Core.d2l_val (fin_val hx.1)
  have hi := FP.Core.d2i_val (fin_val hx.1)
  obtain ⟨n, e, h1, h2⟩ := trunc_fz hx.1
  rw [e] at hv hi
  show (FP.Core.d2i x).toInt = (FP.Core.d2l x).toInt
  rw [hv, hi]
  rw [one30, one30] at h1 h2
  obtain ⟨-, a1, a2⟩ := hx
  rcases Int.le_total 0 (fz x) with h | h
  · obtain ⟨b1, b2, b3⟩ := h1 h
    have := uu_le (Int.le_trans b2 a2)
    omega
  · obtain ⟨b1, b2, b3⟩ := h2 h
    have := uu_le (Int.le_trans a1 b2)
    omega
abbrev c360 : UInt64 := 4645040803167600640
def rd_n (x : UInt64) : Int64 := FP.d2l (FP.ddiv x c360)
def rd_v (x : UInt64) : UInt64 := FP.dsub x (FP.dmul c360 (FP.l2d (rd_n x)))
def RED (x : UInt64) : UInt64 := if dlt (rd_v x) FP.dconst0 then (if deq (FP.dadd (rd_v x) c360) c360 then FP.dconst0 else FP.dadd (rd_v x) c360) else (if deq (rd_v x) c360 then FP.dconst0 else rd_v x)
theorem c360_R : fR c360 386547056640 386547056640 := fR_lit (by decide +kernel)
theorem c0_R : fR FP.dconst0 0 0 := fR_lit (by decide +kernel)
theorem c360_int : FP.Core.DInt 360 c360 := by
  have h := FP.Core.l2d_int (a := 360) (by decide)
  rw [show FP.Core.l2d 360 = c360 by decide +kernel] at h
  exact h
theorem fz_c0 : fz FP.dconst0 = 0 := by
  have h := c0_R
  obtain ⟨-, h1, h2⟩ := h
  rw [Int.zero_mul] at h1 h2
  omega
theorem rd_all {x : UInt64} (hx : fR x (-1208925819614629174706176) 1208925819614629174706176) :
    fR (FP.ddiv x c360) (-4722366482869645213696) 4722366482869645213696 ∧ fR (FP.dmul c360 (FP.l2d (rd_n x))) (-4835703278458516698824704) 4835703278458516698824704 ∧
    FP.l2d (360 * rd_n x) = FP.dmul c360 (FP.l2d (rd_n x)) ∧ fR (rd_v x) (-386547056640) 386547056640 ∧
    (dlt (rd_v x) FP.dconst0 → fR (FP.dadd (rd_v x) c360) 0 386547056640) ∧ (¬ dlt (rd_v x) FP.dconst0 → fR (rd_v x) 0 386547056640) := by
  have hc := c360_R
  have hq : fR (FP.ddiv x c360) (-4722366482869645213696) 4722366482869645213696 := fR_div hx hc (by decide) _ _ (by decide) (by decide) rfl rfl
  obtain ⟨n, hn, hpos, hneg⟩ := d2l_tr (fR_mono hq (by decide) (by decide))
  have hn' : (rd_n x).toInt = n := hn
  -- n is small
  have hnb : -4398046511104 ≤ n ∧ n ≤ 4398046511104 := by
    rcases Int.le_total 0 (fz (FP.ddiv x c360)) with h | h
    · obtain ⟨b1, b2, -⟩ := hpos h
      have := uu_le (Int.le_trans b2 hq.2.2)
      omega
    · obtain ⟨b1, b2, -⟩ := hneg h
      have := uu_le (Int.le_trans hq.2.1 b2)
      omega
  have hli : FP.Core.DInt n (FP.l2d (rd_n x)) := by
    have := FP.Core.l2d_int (a := rd_n x) (by rw [hn']; omega)
    rw [hn'] at this
    exact this
  have hmi : FP.Core.DInt (360 * n) (FP.dmul c360 (FP.l2d (rd_n x))) := FP.Core.dmul_int c360_int hli (by omega)
  obtain ⟨fy, zy⟩ := dint_fz hmi
  have hy : fR (FP.dmul c360 (FP.l2d (rd_n x))) (-4835703278458516698824704) 4835703278458516698824704 := by
    refine ⟨fy, ?_, ?_⟩ <;> rw [zy] <;> exact le_uu (by omega)
  have hcls : FP.l2d (360 * rd_n x) = FP.dmul c360 (FP.l2d (rd_n x)) := by
    have h360 : (360 : Int64).toInt = 360 := by decide
    by_cases h0 : rd_n x = 0
    · rw [h0]; decide +kernel
    · have := FP.Core.dmul_l2d (a := 360) (b := rd_n x) (by unfold FP.Core.Small53; decide) (by unfold FP.Core.Small53; rw [hn']; omega) (by decide) h0 (by rw [hn', h360]; omega) (by rw [hn', h360]; omega)
      rw [show FP.Core.l2d 360 = c360 by decide +kernel] at this
      exact this.symm
  have hfx := hx.1
  have hv : fR (rd_v x) (-386547056640) 386547056640 := by
    rcases Int.le_total 0 (fz x) with h | h
    · have hx0 : fR x 0 1208925819614629174706176 := ⟨hfx, by rw [Int.zero_mul]; exact h, hx.2.2⟩
      have hq0 : fR (FP.ddiv x c360) 0 4722366482869645213696 := fR_div hx0 hc (by decide) _ _ (by decide) (by decide) rfl rfl
      have hq1 : 0 ≤ fz (FP.ddiv x c360) := by have := hq0.2.1; rw [Int.zero_mul] at this; exact this
      obtain ⟨b1, b2, b3⟩ := hpos hq1
      have i1 : fz x < 360 * (n + 1) * 1073741824 * (uu : Int) := by
        refine Int.lt_of_not_ge fun hge => ?_
        have hx2 : fR x (360 * (n + 1) * 1073741824) 1208925819614629174706176 := ⟨hfx, hge, hx.2.2⟩
        have := fR_divR hx2 hc (by decide) ((n + 1) * 1073741824) 4722366482869645213696 (by omega) (by decide) (fRep_30 (n + 1) rfl (by omega)) (fRb_rep rfl)
        have := this.2.1
        omega
      have i2 : (360 * n - 1) * 1073741824 * (uu : Int) < fz x := by
        refine Int.lt_of_not_ge fun hge => ?_
        have hz : (0 : Int) * (uu : Int) ≤ (360 * n - 1) * 1073741824 * (uu : Int) := Int.le_trans (by rw [Int.zero_mul]; exact h) hge
        have hn1 := uu_le hz
        have hx2 : fR x 0 ((360 * n - 1) * 1073741824) := ⟨hfx, by rw [Int.zero_mul]; exact h, hge⟩
        have := fR_divR hx2 hc (by decide) 0 (n * 1073741824 - 2097152) (by omega) (by omega) (fRb_rep rfl) (fRep_21 (n * 512 - 1) (by omega) (by omega))
        have h3 := this.2.2
        have := uu_le (Int.le_trans b2 h3)
        omega
      refine fR_subR hfx fy _ _ ?_ ?_ (fRb_rep rfl) (fRb_rep rfl)
      · rw [zy]
        have e : (360 * n - 1) * 1073741824 * (uu : Int) = 360 * n * 1073741824 * (uu : Int) + (-1073741824) * (uu : Int) := by rw [← Int.add_mul]; congr 1; omega
        have : (-386547056640) * (uu : Int) ≤ (-1073741824) * (uu : Int) := le_uu (by omega)
        omega
      · rw [zy]
        have e : 360 * (n + 1) * 1073741824 * (uu : Int) = 360 * n * 1073741824 * (uu : Int) + 386547056640 * (uu : Int) := by rw [← Int.add_mul]; congr 1; omega
        omega
    · have hx0 : fR x (-1208925819614629174706176) 0 := ⟨hfx, hx.2.1, by rw [Int.zero_mul]; exact h⟩
      have hq0 : fR (FP.ddiv x c360) (-4722366482869645213696) 0 := fR_div hx0 hc (by decide) _ _ (by decide) (by decide) rfl rfl
      have hq1 : fz (FP.ddiv x c360) ≤ 0 := by have := hq0.2.2; rw [Int.zero_mul] at this; exact this
      obtain ⟨b1, b2, b3⟩ := hneg hq1
      have i1 : 360 * (n - 1) * 1073741824 * (uu : Int) < fz x := by
        refine Int.lt_of_not_ge fun hge => ?_
        have hx2 : fR x (-1208925819614629174706176) (360 * (n - 1) * 1073741824) := ⟨hfx, hx.2.1, hge⟩
        have := fR_divR hx2 hc (by decide) (-4722366482869645213696) ((n - 1) * 1073741824) (by decide) (by omega) (fRb_rep rfl) (fRep_30 (n - 1) rfl (by omega))
        have := this.2.2
        omega
      have i2 : fz x < (360 * n + 1) * 1073741824 * (uu : Int) := by
        refine Int.lt_of_not_ge fun hge => ?_
        have hz : (360 * n + 1) * 1073741824 * (uu : Int) ≤ (0 : Int) * (uu : Int) := Int.le_trans hge (by rw [Int.zero_mul]; exact h)
        have hn1 := uu_le hz
        have hx2 : fR x ((360 * n + 1) * 1073741824) 0 := ⟨hfx, hge, by rw [Int.zero_mul]; exact h⟩
        have := fR_divR hx2 hc (by decide) (n * 1073741824 + 2097152) 0 (by omega) (by omega) (fRep_21 (n * 512 + 1) (by omega) (by omega)) (fRb_rep rfl)
        have h3 := this.2.1
        have := uu_le (Int.le_trans h3 b2)
        omega
      refine fR_subR hfx fy _ _ ?_ ?_ (fRb_rep rfl) (fRb_rep rfl)
      · rw [zy]
        have e : 360 * (n - 1) * 1073741824 * (uu : Int) = 360 * n * 1073741824 * (uu : Int) + (-386547056640) * (uu : Int) := by rw [← Int.add_mul]; congr 1; omega
        omega
      · rw [zy]
        have e : (360 * n + 1) * 1073741824 * (uu : Int) = 360 * n * 1073741824 * (uu : Int) + 1073741824 * (uu : Int) := by rw [← Int.add_mul]; congr 1; omega
        have : 1073741824 * (uu : Int) ≤ 386547056640 * (uu : Int) := le_uu (by omega)
        omega
  have hz0 := fz_c0
  refine ⟨hq, hy, hcls, hv, fun h => ?_, fun h => ?_⟩
  · have h1 := (dlt_fz hv.1 c0_R.1).mp h
    rw [hz0] at h1
    have zc : fz c360 = 386547056640 * (uu : Int) := Int.le_antisymm hc.2.2 hc.2.1
    refine fR_addR hv.1 hc.1 _ _ ?_ ?_ (fRb_rep rfl) (fRb_rep rfl)
    · rw [zc, Int.zero_mul]; have := hv.2.1; rw [Int.neg_mul] at this; omega
    · rw [zc]; omega
  · have h1 := fun q => h ((dlt_fz hv.1 c0_R.1).mpr q)
    rw [hz0] at h1
    exact ⟨hv.1, by rw [Int.zero_mul]; exact Int.not_lt.mp h1, hv.2.2⟩
theorem RED_R {x : UInt64} (hx : fR x (-1208925819614629174706176) 1208925819614629174706176) : fR (RED x) 0 386547056640 := by
  obtain ⟨-, -, -, -, h1, h2⟩ := rd_all hx
  have h0 := fR_mono c0_R (Int.le_refl 0) (show (0 : Int) ≤ 386547056640 by decide)
  unfold RED
  by_cases h : dlt (rd_v x) FP.dconst0
  · rw [if_pos h]
    split
    · exact h0
    · exact h1 h
  · rw [if_neg h]
    split
    · exact h0
    · exact h2 h
/-! the waves -/
abbrev c90 : UInt64 := 4636033603912859648
abbrev c05 : UInt64 := 4602678819172646912
theorem c90_R : fR c90 96636764160 96636764160 := fR_lit (by decide +kernel)
theorem c05_R : fR c05 536870912 536870912 := fR_lit (by decide +kernel)
def wv_z (x : UInt64) : UInt64 := FP.dadd (FP.ddiv x c90) c05
theorem wv_all {x : UInt64} (hx : fR x 0 386547056640) :
    ∃ n : Int, 0 ≤ n ∧ n ≤ 4 ∧ (FP.d2l (wv_z x)).toInt = n ∧ (FP.d2i (wv_z x)).toInt = n ∧ (90 * n - 46) * 1073741824 * (uu : Int) ≤ fz x ∧ fz x ≤ (90 * n + 46) * 1073741824 * (uu : Int) := by
  have hc := c90_R
  have hd : fR (FP.ddiv x c90) 0 4294967296 := fR_div hx hc (by decide) _ _ (by decide) (by decide) rfl rfl
  have hz : fR (wv_z x) 536870912 4831838208 := fR_add hd c05_R _ _ (by decide) (by decide) rfl rfl
  obtain ⟨n, hn, hpos, -⟩ := d2l_tr (fR_mono hz (by decide) (by decide))
  have hi := d2i_tr (fR_mono hz (by decide) (by decide))
  have z0 : 0 ≤ fz (wv_z x) := Int.le_trans (by have := le_uu (show (0 : Int) ≤ 536870912 by decide); rw [Int.zero_mul] at this; exact this) hz.2.1
  obtain ⟨b1, b2, b3⟩ := hpos z0
  have n4 := uu_le (Int.le_trans b2 hz.2.2)
  refine ⟨n, b1, by omega, hn, by rw [hi, hn], ?_, ?_⟩
  · refine Int.le_of_lt (Int.lt_of_not_ge fun hge => ?_)
    have hzz : (0 : Int) * (uu : Int) ≤ (90 * n - 46) * 1073741824 * (uu : Int) := Int.le_trans hx.2.1 hge
    have := uu_le hzz
    have hx2 : fR x 0 ((90 * n - 46) * 1073741824) := ⟨hx.1, hx.2.1, hge⟩
    have h1 := fR_divR hx2 hc (by decide) 0 (n * 1073741824 - 547356672) (by omega) (by omega) (fRb_rep rfl) (fRep_s (by omega))
    have h2 := fR_addR h1.1 c05_R.1 0 (n * 1073741824 - 10485760) (by
      have a1 := h1.2.1; have a2 := c05_R.2.1; rw [Int.zero_mul] at a1 ⊢
      have := le_uu (show (0 : Int) ≤ 536870912 by decide); rw [Int.zero_mul] at this; omega) (by
      have a1 := h1.2.2; have a2 := c05_R.2.2
      have e : (n * 1073741824 - 10485760) * (uu : Int) = (n * 1073741824 - 547356672) * (uu : Int) + 536870912 * (uu : Int) := by rw [← Int.add_mul]; congr 1; omega
      omega) (fRb_rep rfl) (fRep_s (by omega))
    have := uu_le (Int.le_trans b2 h2.2.2)
    omega
  · refine Int.le_of_lt (Int.lt_of_not_ge fun hge => ?_)
    have hx2 : fR x ((90 * n + 46) * 1073741824) 386547056640 := ⟨hx.1, hge, hx.2.2⟩
    have h1 := fR_divR hx2 hc (by decide) (n * 1073741824 + 547356672) 4294967296 (by omega) (by decide) (fRep_s (by omega)) (fRb_rep rfl)
    have h2 := fR_addR h1.1 c05_R.1 (n * 1073741824 + 1084227584) 4831838208 (by
      have a1 := h1.2.1; have a2 := c05_R.2.1
      have e : (n * 1073741824 + 1084227584) * (uu : Int) = (n * 1073741824 + 547356672) * (uu : Int) + 536870912 * (uu : Int) := by rw [← Int.add_mul]; congr 1; omega
      omega) (by
      have a1 := h1.2.2; have a2 := c05_R.2.2
      have e : 4831838208 * (uu : Int) = 4294967296 * (uu : Int) + 536870912 * (uu : Int) := by rw [← Int.add_mul]; congr 1
      omega) (fRep_s (by omega)) (fRb_rep rfl)
    have h3 : (n + 1) * 1073741824 * (uu : Int) ≤ (n * 1073741824 + 1084227584) * (uu : Int) := le_uu (by omega)
    have h4 : (n * 1073741824 + 1084227584) * (uu : Int) ≤ fz (wv_z x) := h2.2.1
    omega
theorem i64_of {a : Int64} {n : Int} (h : a.toInt = n) : a = Int64.ofInt n := by rw [← h, Int64.ofInt_toInt]
theorem i32_of {a : Int32} {n : Int} (h : a.toInt = n) : a = Int32.ofInt n := by rw [← h, Int32.ofInt_toInt]
/-- the quarter: five cases, and what is left of the angle -/
theorem wv_k {x : UInt64} (hx : fR x 0 386547056640) :
    (FP.i2d (90 * FP.d2i (wv_z x)) = FP.dmul c90 (FP.l2d (FP.d2l (wv_z x))) ∧ fR (FP.dmul c90 (FP.l2d (FP.d2l (wv_z x)))) 0 386547056640 ∧ fR (FP.dsub x (FP.dmul c90 (FP.l2d (FP.d2l (wv_z x))))) (-49392123904) 49392123904) ∧
    ((FP.d2l (wv_z x) = 0 ∧ FP.d2i (wv_z x) = 0) ∨ (FP.d2l (wv_z x) = 1 ∧ FP.d2i (wv_z x) = 1) ∨ (FP.d2l (wv_z x) = 2 ∧ FP.d2i (wv_z x) = 2) ∨ (FP.d2l (wv_z x) = 3 ∧ FP.d2i (wv_z x) = 3) ∨ (FP.d2l (wv_z x) = 4 ∧ FP.d2i (wv_z x) = 4)) := by
  obtain ⟨n, n0, n4, hl, hi, h1, h2⟩ := wv_all hx
  have el := i64_of hl
  have ei := i32_of hi
  have key : ∀ (k : Int) (y : UInt64), fR y (90 * k * 1073741824) (90 * k * 1073741824) → n = k → fR (FP.dsub x y) (-49392123904) 49392123904 := by
    intro k y hy e
    subst e
    have zy : fz y = 90 * n * 1073741824 * (uu : Int) := Int.le_antisymm hy.2.2 hy.2.1
    refine fR_subR hx.1 hy.1 _ _ ?_ ?_ (fRb_rep rfl) (fRb_rep rfl)
    · rw [zy]
      have e : (90 * n - 46) * 1073741824 * (uu : Int) = 90 * n * 1073741824 * (uu : Int) + (-49392123904) * (uu : Int) := by rw [← Int.add_mul]; congr 1; omega
      omega
    · rw [zy]
      have e : (90 * n + 46) * 1073741824 * (uu : Int) = 90 * n * 1073741824 * (uu : Int) + 49392123904 * (uu : Int) := by rw [← Int.add_mul]; congr 1; omega
      omega
  rcases (show n = 0 ∨ n = 1 ∨ n = 2 ∨ n = 3 ∨ n = 4 by omega) with e | e | e | e | e
  · rw [e] at el ei
    rw [el, ei]
    exact ⟨⟨by decide +kernel, fR_lit (by decide +kernel), key 0 _ (fR_lit (by decide +kernel)) e⟩, Or.inl ⟨by decide, by decide⟩⟩
  · rw [e] at el ei
    rw [el, ei]
    exact ⟨⟨by decide +kernel, fR_lit (by decide +kernel), key 1 _ (fR_lit (by decide +kernel)) e⟩, Or.inr (Or.inl ⟨by decide, by decide⟩)⟩
  · rw [e] at el ei
    rw [el, ei]
    exact ⟨⟨by decide +kernel, fR_lit (by decide +kernel), key 2 _ (fR_lit (by decide +kernel)) e⟩, Or.inr (Or.inr (Or.inl ⟨by decide, by decide⟩))⟩
  · rw [e] at el ei
    rw [el, ei]
    exact ⟨⟨by decide +kernel, fR_lit (by decide +kernel), key 3 _ (fR_lit (by decide +kernel)) e⟩, Or.inr (Or.inr (Or.inr (Or.inl ⟨by decide, by decide⟩)))⟩
  · rw [e] at el ei
    rw [el, ei]
    exact ⟨⟨by decide +kernel, fR_lit (by decide +kernel), key 4 _ (fR_lit (by decide +kernel)) e⟩, Or.inr (Or.inr (Or.inr (Or.inr ⟨by decide, by decide⟩)))⟩
end
section
def f_X1_isWholeWithin (x0 : Int64) (x1 : Int64) (x2 : Int64) : Int32 := if x0 < x1 then (0) else (if x2 < x0 then (0) else (1))
set_option maxHeartbeats 4000000 in
set_option maxRecDepth 100000 in
theorem k_X1_isWholeWithin (l : Launch) (x0 : Int64) (x1 : Int64) (x2 : Int64)  : Met l yX1_isWholeWithin wsX1_isWholeWithin ({ frames := 0, cells := 0, slots := 0, locals := 0 }) (fun v _ => v = ([.long x0, .long x1, .long x2] : List Value).toArray) (vp_Si (fun r => r = f_X1_isWholeWithin x0 x1 x2)) 0 0 (fun _ => False) := by
  refine Met.ofW (cc := cX1_isWholeWithin) (maxL := 6) (ret := (some .boolean)) (by decide) rfl ?_
  intro p e s m args below meth c s₁ B hml hv
  obtain rfl := hv
  have hx := B.exec
  have hb := B.bytes
  have hr := B.returns
  have hts := atoms_spec (ws := wsX1_isWholeWithin) B.pre
  have hown : s.vm.findClass RX1 = some m.cls := findClass_of_methodNamed B.named
  have hlocks := B.notSynchronized
  have hl := lv_entry ([.long x0, .long x1, .long x2]) (n := 6) (Nat.le_of_ble_eq_true rfl)
  rw [lg_entry_eq]
  generalize (lg_sl ([.long x0, .long x1, .long x2]) ++ List.replicate (6 - (lg_sl ([.long x0, .long x1, .long x2])).length) Slot.unset).toArray = ls at hl ⊢
  have hl : lv_has ls 6 [(0, .long x0), (2, .long x1), (4, .long x2)] := hl
  refine lv_lload_n hx hb dX1_isWholeWithin_0 rfl (lv_at hl 0 rfl) ?_
  refine lv_lload_n hx hb dX1_isWholeWithin_1 rfl (lv_at hl 1 rfl) ?_
  refine zl_lt (tgt := 17) hx hb dX1_isWholeWithin_2 dX1_isWholeWithin_3 (by decide) (fun c_1 => ?_) (fun c_1 => ?_)
  · refine lv_iconst (v := 0) hx hb dX1_isWholeWithin_17 (by decide) ?_
    exact W.zret hx hb hr rfl (fun t ht _ => ⟨_, rfl, (by unfold f_X1_isWholeWithin; rw [if_pos c_1]), ht⟩) (fun _ h => nomatch h) dX1_isWholeWithin_18
  · refine lv_lload_n hx hb dX1_isWholeWithin_6 rfl (lv_at hl 0 rfl) ?_
    refine lv_lload hx hb dX1_isWholeWithin_7 (lv_at hl 2 rfl) ?_
    refine zl_gt (tgt := 17) hx hb dX1_isWholeWithin_9 dX1_isWholeWithin_10 (by decide) (fun c_2 => ?_) (fun c_2 => ?_)
    · refine lv_iconst (v := 0) hx hb dX1_isWholeWithin_17 (by decide) ?_
      exact W.zret hx hb hr rfl (fun t ht _ => ⟨_, rfl, (by unfold f_X1_isWholeWithin; rw [if_neg c_1, if_pos c_2]), ht⟩) (fun _ h => nomatch h) dX1_isWholeWithin_18
    · refine lv_iconst (v := 1) hx hb dX1_isWholeWithin_13 (by decide) ?_
      refine lv_goto (tgt := 18) hx hb dX1_isWholeWithin_14 (by decide) ?_
      exact W.zret hx hb hr rfl (fun t ht _ => ⟨_, rfl, (by unfold f_X1_isWholeWithin; rw [if_neg c_1, if_neg c_2]), ht⟩) (fun _ h => nomatch h) dX1_isWholeWithin_18
theorem nb_X1_isWholeWithin (x0 : Int64) (x1 : Int64) (x2 : Int64) : narrow .boolean (.int (f_X1_isWholeWithin x0 x1 x2)) = .int (f_X1_isWholeWithin x0 x1 x2) := by
  unfold f_X1_isWholeWithin
  (repeat' split) <;> rfl

def f_X1_isWithin (x0 : UInt64) (x1 : UInt64) (x2 : UInt64) : Int32 := if dge x0 x1 then (if dle x0 x2 then (1) else (0)) else (0)
set_option maxHeartbeats 4000000 in
set_option maxRecDepth 100000 in
theorem k_X1_isWithin (l : Launch) (x0 : UInt64) (x1 : UInt64) (x2 : UInt64)  : Met l yX1_isWithin wsX1_isWithin ({ frames := 0, cells := 0, slots := 0, locals := 0 }) (fun v _ => v = ([.double x0, .double x1, .double x2] : List Value).toArray) (vp_Si (fun r => r = f_X1_isWithin x0 x1 x2)) 0 0 (fun _ => False) := by
  refine Met.ofW (cc := cX1_isWithin) (maxL := 6) (ret := (some .boolean)) (by decide) rfl ?_
  intro p e s m args below meth c s₁ B hml hv
  obtain rfl := hv
  have hx := B.exec
  have hb := B.bytes
  have hr := B.returns
  have hts := atoms_spec (ws := wsX1_isWithin) B.pre
  have hown : s.vm.findClass RX1 = some m.cls := findClass_of_methodNamed B.named
  have hlocks := B.notSynchronized
  have hl := lv_entry ([.double x0, .double x1, .double x2]) (n := 6) (Nat.le_of_ble_eq_true rfl)
  rw [lg_entry_eq]
  generalize (lg_sl ([.double x0, .double x1, .double x2]) ++ List.replicate (6 - (lg_sl ([.double x0, .double x1, .double x2])).length) Slot.unset).toArray = ls at hl ⊢
  have hl : lv_has ls 6 [(0, .double x0), (2, .double x1), (4, .double x2)] := hl
  refine lv_dload_n hx hb dX1_isWithin_0 rfl (lv_at hl 0 rfl) ?_
  refine lv_dload_n hx hb dX1_isWithin_1 rfl (lv_at hl 1 rfl) ?_
  refine zd_l_lt (tgt := 17) hx hb dX1_isWithin_2 dX1_isWithin_3 (by decide) (fun c_1 => ?_) (fun c_1 => ?_)
  · refine lv_iconst (v := 0) hx hb dX1_isWithin_17 (by decide) ?_
    exact W.zret hx hb hr rfl (fun t ht _ => ⟨_, rfl, (by unfold f_X1_isWithin; rw [if_neg c_1]), ht⟩) (fun _ h => nomatch h) dX1_isWithin_18
  · refine lv_dload_n hx hb dX1_isWithin_6 rfl (lv_at hl 0 rfl) ?_
    refine lv_dload hx hb dX1_isWithin_7 (lv_at hl 2 rfl) ?_
    refine zd_g_gt (tgt := 17) hx hb dX1_isWithin_9 dX1_isWithin_10 (by decide) (fun c_2 => ?_) (fun c_2 => ?_)
    · refine lv_iconst (v := 0) hx hb dX1_isWithin_17 (by decide) ?_
      exact W.zret hx hb hr rfl (fun t ht _ => ⟨_, rfl, (by unfold f_X1_isWithin; rw [if_pos c_1, if_neg c_2]), ht⟩) (fun _ h => nomatch h) dX1_isWithin_18
    · refine lv_iconst (v := 1) hx hb dX1_isWithin_13 (by decide) ?_
      refine lv_goto (tgt := 18) hx hb dX1_isWithin_14 (by decide) ?_
      exact W.zret hx hb hr rfl (fun t ht _ => ⟨_, rfl, (by unfold f_X1_isWithin; rw [if_pos c_1, if_pos c_2]), ht⟩) (fun _ h => nomatch h) dX1_isWithin_18
theorem nb_X1_isWithin (x0 : UInt64) (x1 : UInt64) (x2 : UInt64) : narrow .boolean (.int (f_X1_isWithin x0 x1 x2)) = .int (f_X1_isWithin x0 x1 x2) := by
  unfold f_X1_isWithin
  (repeat' split) <;> rfl

def f_X1_isTime (x0 : UInt64) : Int32 := f_X1_isWithin x0 13920209183539462144 4696837146684686336
set_option maxHeartbeats 4000000 in
set_option maxRecDepth 100000 in
theorem k_X1_isTime (l : Launch) (x0 : UInt64)  : Met l yX1_isTime wsX1_isTime ({ frames := 1, cells := 0, slots := 0, locals := 25 }) (fun v _ => v = ([.double x0] : List Value).toArray) (vp_Si (fun r => r = f_X1_isTime x0)) 0 0 (fun _ => False) := by
  refine Met.ofW (cc := cX1_isTime) (maxL := 2) (ret := (some .boolean)) (by decide) rfl ?_
  intro p e s m args below meth c s₁ B hml hv
  obtain rfl := hv
  have hx := B.exec
  have hb := B.bytes
  have hr := B.returns
  have hts := atoms_spec (ws := wsX1_isTime) B.pre
  have hown : s.vm.findClass RX1 = some m.cls := findClass_of_methodNamed B.named
  have hlocks := B.notSynchronized
  have hl := lv_entry ([.double x0]) (n := 2) (Nat.le_of_ble_eq_true rfl)
  rw [lg_entry_eq]
  generalize (lg_sl ([.double x0]) ++ List.replicate (2 - (lg_sl ([.double x0])).length) Slot.unset).toArray = ls at hl ⊢
  have hl : lv_has ls 2 [(0, .double x0)] := hl
  refine lv_dload_n hx hb dX1_isTime_0 rfl (lv_at hl 0 rfl) ?_
  refine lv_ldc2d hx hb hown (hts (.constantDouble RX1 361 (13920209183539462144)) (by decide +kernel)) dX1_isTime_1 ?_
  have r_1 : fR 13920209183539462144 (-1073741824000000) (-1073741824000000) := fR_lit (by decide +kernel)
  refine lv_ldc2d hx hb hown (hts (.constantDouble RX1 363 (4696837146684686336)) (by decide +kernel)) dX1_isTime_4 ?_
  have r_2 : fR 4696837146684686336 1073741824000000 1073741824000000 := fR_lit (by decide +kernel)
  refine vp_callSi (W.runS (As := [.double x0, .double 13920209183539462144, .double 4696837146684686336]) (rest := []) ⟨hx, hb, hml, hown, hts⟩ (k_X1_isWithin l x0 13920209183539462144 4696837146684686336) (va_cwS 3 hts gX1_isTime_X1_isWithin rfl rfl rfl (by decide +kernel) ⟨Nat.le_of_ble_eq_true rfl, Nat.le_of_ble_eq_true rfl⟩) preEq rfl rfl hl.1 rfl (lv_room (Nat.le_of_ble_eq_true rfl)) dX1_isTime_7 ⟨Nat.zero_le _, Nat.zero_le _⟩) (fun r hr9 => ?_)
  obtain rfl := hr9
  exact W.zret hx hb hr (nb_X1_isWithin _ _ _) (fun t ht _ => ⟨_, rfl, rfl, ht⟩) (fun _ h => nomatch h) dX1_isTime_10
theorem nb_X1_isTime (x0 : UInt64) : narrow .boolean (.int (f_X1_isTime x0)) = .int (f_X1_isTime x0) := by
  unfold f_X1_isTime
  exact nb_X1_isWithin _ _ _

def f_X1_degreesInRadian  : UInt64 := 4633260481411531256
set_option maxHeartbeats 4000000 in
set_option maxRecDepth 100000 in
theorem k_X1_degreesInRadian (l : Launch)   : Met l yX1_degreesInRadian wsX1_degreesInRadian ({ frames := 0, cells := 0, slots := 0, locals := 0 }) (fun v _ => v = ([] : List Value).toArray) (vp_Sd (fun r => r = f_X1_degreesInRadian)) 0 0 (fun _ => False) := by
  refine Met.ofW (cc := cX1_degreesInRadian) (maxL := 0) (ret := (some .double)) (by decide) rfl ?_
  intro p e s m args below meth c s₁ B hml hv
  obtain rfl := hv
  have hx := B.exec
  have hb := B.bytes
  have hr := B.returns
  have hts := atoms_spec (ws := wsX1_degreesInRadian) B.pre
  have hown : s.vm.findClass RX1 = some m.cls := findClass_of_methodNamed B.named
  have hlocks := B.notSynchronized
  have hl := lv_entry ([]) (n := 0) (Nat.le_of_ble_eq_true rfl)
  rw [lg_entry_eq]
  generalize (lg_sl ([]) ++ List.replicate (0 - (lg_sl ([])).length) Slot.unset).toArray = ls at hl ⊢
  have hl : lv_has ls 0 [] := hl
  refine lv_ldc2d hx hb hown (hts (.constantDouble RX1 365 (4633260481411531256)) (by decide +kernel)) dX1_degreesInRadian_0 ?_
  have r_1 : fR 4633260481411531256 61520874801 61520874802 := fR_lit (by decide +kernel)
  exact W.dret hx hb hr (fun t ht _ => ⟨_, rfl, rfl, ht⟩) (fun _ h => nomatch h) dX1_degreesInRadian_3

def f_X1_isLeap (x0 : Int32) (x1 : Int32) : Int32 := if (x1 - x1 / 4 * 4) = 0 then (if x0 = 0 then (1) else (if (x1 - x1 / 100 * 100) = 0 then (if (x1 - x1 / 400 * 400) = 0 then (1) else (0)) else (1))) else (0)
set_option maxHeartbeats 4000000 in
set_option maxRecDepth 100000 in
theorem k_X1_isLeap (l : Launch) (x0 : Int32) (x1 : Int32)  : Met l yX1_isLeap wsX1_isLeap ({ frames := 0, cells := 0, slots := 0, locals := 0 }) (fun v _ => v = ([.int x0, .int x1] : List Value).toArray) (vp_Si (fun r => r = f_X1_isLeap x0 x1)) 0 0 (fun _ => False) := by
  refine Met.ofW (cc := cX1_isLeap) (maxL := 2) (ret := (some .boolean)) (by decide) rfl ?_
  intro p e s m args below meth c s₁ B hml hv
  obtain rfl := hv
  have hx := B.exec
  have hb := B.bytes
  have hr := B.returns
  have hts := atoms_spec (ws := wsX1_isLeap) B.pre
  have hown : s.vm.findClass RX1 = some m.cls := findClass_of_methodNamed B.named
  have hlocks := B.notSynchronized
  have hl := lv_entry ([.int x0, .int x1]) (n := 2) (Nat.le_of_ble_eq_true rfl)
  rw [lg_entry_eq]
  generalize (lg_sl ([.int x0, .int x1]) ++ List.replicate (2 - (lg_sl ([.int x0, .int x1])).length) Slot.unset).toArray = ls at hl ⊢
  have hl : lv_has ls 2 [(0, .int x0), (1, .int x1)] := hl
  refine lv_iload_n hx hb dX1_isLeap_0 rfl (lv_at hl 1 rfl) ?_
  refine lv_iconst (v := 4) hx hb dX1_isLeap_1 (by decide) ?_
  refine lv_irem hx hb dX1_isLeap_2 (by decide) ?_
  refine lv_if_eq (tgt := 8) hx hb dX1_isLeap_3 (by decide) (fun c_1 => ?_) (fun c_1 => ?_)
  · refine lv_iload_n hx hb dX1_isLeap_8 rfl (lv_at hl 0 rfl) ?_
    refine lv_if_eq (tgt := 27) hx hb dX1_isLeap_9 (by decide) (fun c_2 => ?_) (fun c_2 => ?_)
    · refine lv_iconst (v := 1) hx hb dX1_isLeap_27 (by decide) ?_
      refine lv_goto (tgt := 32) hx hb dX1_isLeap_28 (by decide) ?_
      exact W.zret hx hb hr rfl (fun t ht _ => ⟨_, rfl, (by unfold f_X1_isLeap; rw [if_pos c_1, if_pos c_2]), ht⟩) (fun _ h => nomatch h) dX1_isLeap_32
    · refine lv_iload_n hx hb dX1_isLeap_12 rfl (lv_at hl 1 rfl) ?_
      refine lv_bipush (v := 100) hx hb dX1_isLeap_13 (by decide) ?_
      refine lv_irem hx hb dX1_isLeap_15 (by decide) ?_
      refine lv_if_ne (tgt := 27) hx hb dX1_isLeap_16 (by decide) (fun c_3 => ?_) (fun c_3 => ?_)
      · refine lv_iconst (v := 1) hx hb dX1_isLeap_27 (by decide) ?_
        refine lv_goto (tgt := 32) hx hb dX1_isLeap_28 (by decide) ?_
        exact W.zret hx hb hr rfl (fun t ht _ => ⟨_, rfl, (by unfold f_X1_isLeap; rw [if_pos c_1, if_neg c_2, if_neg c_3]), ht⟩) (fun _ h => nomatch h) dX1_isLeap_32
      · refine lv_iload_n hx hb dX1_isLeap_19 rfl (lv_at hl 1 rfl) ?_
        refine lv_sipush (v := 400) hx hb dX1_isLeap_20 (by decide) ?_
        refine lv_irem hx hb dX1_isLeap_23 (by decide) ?_
        refine lv_if_ne (tgt := 31) hx hb dX1_isLeap_24 (by decide) (fun c_4 => ?_) (fun c_4 => ?_)
        · refine lv_iconst (v := 0) hx hb dX1_isLeap_31 (by decide) ?_
          exact W.zret hx hb hr rfl (fun t ht _ => ⟨_, rfl, (by unfold f_X1_isLeap; rw [if_pos c_1, if_neg c_2, if_pos c_3, if_neg c_4]), ht⟩) (fun _ h => nomatch h) dX1_isLeap_32
        · refine lv_iconst (v := 1) hx hb dX1_isLeap_27 (by decide) ?_
          refine lv_goto (tgt := 32) hx hb dX1_isLeap_28 (by decide) ?_
          exact W.zret hx hb hr rfl (fun t ht _ => ⟨_, rfl, (by unfold f_X1_isLeap; rw [if_pos c_1, if_neg c_2, if_pos c_3, if_pos c_4]), ht⟩) (fun _ h => nomatch h) dX1_isLeap_32
  · refine lv_iconst (v := 0) hx hb dX1_isLeap_6 (by decide) ?_
    exact W.zret hx hb hr rfl (fun t ht _ => ⟨_, rfl, (by unfold f_X1_isLeap; rw [if_neg c_1]), ht⟩) (fun _ h => nomatch h) dX1_isLeap_7
theorem nb_X1_isLeap (x0 : Int32) (x1 : Int32) : narrow .boolean (.int (f_X1_isLeap x0 x1)) = .int (f_X1_isLeap x0 x1) := by
  unfold f_X1_isLeap
  (repeat' split) <;> rfl

def f_X1_wholeParts (x0 : Int64) (x1 : Int64) : Int64 := if x1 ≤ 0 then (x0) else (x0 / x1)
set_option maxHeartbeats 4000000 in
set_option maxRecDepth 100000 in
theorem k_X1_wholeParts (l : Launch) (x0 : Int64) (x1 : Int64)  : Met l yX1_wholeParts wsX1_wholeParts ({ frames := 0, cells := 0, slots := 0, locals := 0 }) (fun v _ => v = ([.long x0, .long x1] : List Value).toArray) (vp_Sl (fun r => r = f_X1_wholeParts x0 x1)) 0 0 (fun _ => False) := by
  refine Met.ofW (cc := cX1_wholeParts) (maxL := 4) (ret := (some .long)) (by decide) rfl ?_
  intro p e s m args below meth c s₁ B hml hv
  obtain rfl := hv
  have hx := B.exec
  have hb := B.bytes
  have hr := B.returns
  have hts := atoms_spec (ws := wsX1_wholeParts) B.pre
  have hown : s.vm.findClass RX1 = some m.cls := findClass_of_methodNamed B.named
  have hlocks := B.notSynchronized
  have hl := lv_entry ([.long x0, .long x1]) (n := 4) (Nat.le_of_ble_eq_true rfl)
  rw [lg_entry_eq]
  generalize (lg_sl ([.long x0, .long x1]) ++ List.replicate (4 - (lg_sl ([.long x0, .long x1])).length) Slot.unset).toArray = ls at hl ⊢
  have hl : lv_has ls 4 [(0, .long x0), (2, .long x1)] := hl
  refine lv_lload_n hx hb dX1_wholeParts_0 rfl (lv_at hl 1 rfl) ?_
  refine lv_lconst (v := 0) hx hb dX1_wholeParts_1 (by decide) ?_
  refine zl_le (tgt := 12) hx hb dX1_wholeParts_2 dX1_wholeParts_3 (by decide) (fun c_1 => ?_) (fun c_1 => ?_)
  · refine lv_lload_n hx hb dX1_wholeParts_12 rfl (lv_at hl 0 rfl) ?_
    exact W.lret hx hb hr (fun t ht _ => ⟨_, rfl, (by unfold f_X1_wholeParts; rw [if_pos c_1]), ht⟩) (fun _ h => nomatch h) dX1_wholeParts_13
  · refine lv_lload_n hx hb dX1_wholeParts_6 rfl (lv_at hl 0 rfl) ?_
    refine lv_lload_n hx hb dX1_wholeParts_7 rfl (lv_at hl 1 rfl) ?_
    refine lv_ldiv hx hb dX1_wholeParts_8 (fun h => by subst h; exact absurd c_1 (by decide)) ?_
    refine lv_goto (tgt := 13) hx hb dX1_wholeParts_9 (by decide) ?_
    exact W.lret hx hb hr (fun t ht _ => ⟨_, rfl, (by unfold f_X1_wholeParts; rw [if_neg c_1]), ht⟩) (fun _ h => nomatch h) dX1_wholeParts_13

def f_J9_floorDiv_7cf53 (x0 : Int32) (x1 : Int32) : Int32 := if 0 ≤ (x0 ^^^ x1) then (x0 / x1) else (if ((x0 / x1) * x1) = x0 then (x0 / x1) else ((x0 / x1) - 1))
set_option maxHeartbeats 4000000 in
set_option maxRecDepth 100000 in
theorem k_J9_floorDiv_7cf53 (l : Launch) (x0 : Int32) (x1 : Int32) (h0 : ¬ x1 = 0) : Met l yJ9_floorDiv_7cf53 wsJ9_floorDiv_7cf53 ({ frames := 0, cells := 0, slots := 0, locals := 0 }) (fun v _ => v = ([.int x0, .int x1] : List Value).toArray) (vp_Si (fun r => r = f_J9_floorDiv_7cf53 x0 x1)) 0 0 (fun _ => False) := by
  refine va_MetF (cc := cJ9_floorDiv_7cf53) (maxL := 3) (ret := (some .int)) (by decide +kernel) rfl ?_
  intro p e s m args below meth c s₁ B hml hv
  obtain rfl := hv
  have hx := B.exec
  have hb := B.bytes
  have hr := B.returns
  have hts := atoms_spec (ws := wsJ9_floorDiv_7cf53) B.pre
  have hown : s.vm.findClass RJ9 = some m.cls := findClass_of_methodNamed B.named
  have hlocks := B.notSynchronized
  have hl := lv_entry ([.int x0, .int x1]) (n := 3) (Nat.le_of_ble_eq_true rfl)
  rw [lg_entry_eq]
  generalize (lg_sl ([.int x0, .int x1]) ++ List.replicate (3 - (lg_sl ([.int x0, .int x1])).length) Slot.unset).toArray = ls at hl ⊢
  have hl : lv_has ls 3 [(0, .int x0), (1, .int x1)] := hl
  refine lv_iload_n hx hb dJ9_floorDiv_7cf53_0 rfl (lv_at hl 0 rfl) ?_
  refine lv_iload_n hx hb dJ9_floorDiv_7cf53_1 rfl (lv_at hl 1 rfl) ?_
  refine lv_idiv hx hb dJ9_floorDiv_7cf53_2 h0 ?_
  refine lv_istore_n (lv' := [(2, .int (x0 / x1)), (0, .int x0), (1, .int x1)]) hx hb dJ9_floorDiv_7cf53_3 rfl hl (by decide) rfl (fun ls hl => ?_)
  refine lv_iload_n hx hb dJ9_floorDiv_7cf53_4 rfl (lv_at hl 1 rfl) ?_
  refine lv_iload_n hx hb dJ9_floorDiv_7cf53_5 rfl (lv_at hl 2 rfl) ?_
  refine lv_ixor hx hb dJ9_floorDiv_7cf53_6 ?_
  refine lv_if_ge (tgt := 21) hx hb dJ9_floorDiv_7cf53_7 (by decide) (fun c_1 => ?_) (fun c_1 => ?_)
  · refine lv_iload_n hx hb dJ9_floorDiv_7cf53_21 rfl (lv_at hl 0 rfl) ?_
    exact W.iret hx hb hr (fun t ht _ => ⟨_, rfl, (by unfold f_J9_floorDiv_7cf53; rw [if_pos c_1]), ht⟩) (fun _ h => nomatch h) dJ9_floorDiv_7cf53_22
  · refine lv_iload_n hx hb dJ9_floorDiv_7cf53_10 rfl (lv_at hl 0 rfl) ?_
    refine lv_iload_n hx hb dJ9_floorDiv_7cf53_11 rfl (lv_at hl 2 rfl) ?_
    refine lv_imul hx hb dJ9_floorDiv_7cf53_12 ?_
    refine lv_iload_n hx hb dJ9_floorDiv_7cf53_13 rfl (lv_at hl 1 rfl) ?_
    refine lv_icmp_eq (tgt := 21) hx hb dJ9_floorDiv_7cf53_14 (by decide) (fun c_2 => ?_) (fun c_2 => ?_)
    · refine lv_iload_n hx hb dJ9_floorDiv_7cf53_21 rfl (lv_at hl 0 rfl) ?_
      exact W.iret hx hb hr (fun t ht _ => ⟨_, rfl, (by unfold f_J9_floorDiv_7cf53; rw [if_neg c_1, if_pos c_2]), ht⟩) (fun _ h => nomatch h) dJ9_floorDiv_7cf53_22
    · refine lv_iload_n hx hb dJ9_floorDiv_7cf53_17 rfl (lv_at hl 0 rfl) ?_
      refine lv_iconst (v := 1) hx hb dJ9_floorDiv_7cf53_18 (by decide) ?_
      refine lv_isub hx hb dJ9_floorDiv_7cf53_19 ?_
      exact W.iret hx hb hr (fun t ht _ => ⟨_, rfl, (by unfold f_J9_floorDiv_7cf53; rw [if_neg c_1, if_neg c_2]), ht⟩) (fun _ h => nomatch h) dJ9_floorDiv_7cf53_20

def f_J9_floorDiv_f86c9 (x0 : Int64) (x1 : Int64) : Int64 := if 0 ≤ (x0 ^^^ x1) then (x0 / x1) else (if ((x0 / x1) * x1) = x0 then (x0 / x1) else ((x0 / x1) - 1))
set_option maxHeartbeats 4000000 in
set_option maxRecDepth 100000 in
theorem k_J9_floorDiv_f86c9 (l : Launch) (x0 : Int64) (x1 : Int64) (h0 : ¬ x1 = 0) : Met l yJ9_floorDiv_f86c9 wsJ9_floorDiv_f86c9 ({ frames := 0, cells := 0, slots := 0, locals := 0 }) (fun v _ => v = ([.long x0, .long x1] : List Value).toArray) (vp_Sl (fun r => r = f_J9_floorDiv_f86c9 x0 x1)) 0 0 (fun _ => False) := by
  refine va_MetF (cc := cJ9_floorDiv_f86c9) (maxL := 6) (ret := (some .long)) (by decide +kernel) rfl ?_
  intro p e s m args below meth c s₁ B hml hv
  obtain rfl := hv
  have hx := B.exec
  have hb := B.bytes
  have hr := B.returns
  have hts := atoms_spec (ws := wsJ9_floorDiv_f86c9) B.pre
  have hown : s.vm.findClass RJ9 = some m.cls := findClass_of_methodNamed B.named
  have hlocks := B.notSynchronized
  have hl := lv_entry ([.long x0, .long x1]) (n := 6) (Nat.le_of_ble_eq_true rfl)
  rw [lg_entry_eq]
  generalize (lg_sl ([.long x0, .long x1]) ++ List.replicate (6 - (lg_sl ([.long x0, .long x1])).length) Slot.unset).toArray = ls at hl ⊢
  have hl : lv_has ls 6 [(0, .long x0), (2, .long x1)] := hl
  refine lv_lload_n hx hb dJ9_floorDiv_f86c9_0 rfl (lv_at hl 0 rfl) ?_
  refine lv_lload_n hx hb dJ9_floorDiv_f86c9_1 rfl (lv_at hl 1 rfl) ?_
  refine lv_ldiv hx hb dJ9_floorDiv_f86c9_2 h0 ?_
  refine lv_lstore (lv' := [(4, .long (x0 / x1)), (0, .long x0), (2, .long x1)]) hx hb dJ9_floorDiv_f86c9_3 hl (by decide) rfl (fun ls hl => ?_)
  refine lv_lload_n hx hb dJ9_floorDiv_f86c9_5 rfl (lv_at hl 1 rfl) ?_
  refine lv_lload_n hx hb dJ9_floorDiv_f86c9_6 rfl (lv_at hl 2 rfl) ?_
  refine lv_lxor hx hb dJ9_floorDiv_f86c9_7 ?_
  refine lv_lconst (v := 0) hx hb dJ9_floorDiv_f86c9_8 (by decide) ?_
  refine zl_ge (tgt := 27) hx hb dJ9_floorDiv_f86c9_9 dJ9_floorDiv_f86c9_10 (by decide) (fun c_1 => ?_) (fun c_1 => ?_)
  · refine lv_lload hx hb dJ9_floorDiv_f86c9_27 (lv_at hl 0 rfl) ?_
    exact W.lret hx hb hr (fun t ht _ => ⟨_, rfl, (by unfold f_J9_floorDiv_f86c9; rw [if_pos c_1]), ht⟩) (fun _ h => nomatch h) dJ9_floorDiv_f86c9_29
  · refine lv_lload hx hb dJ9_floorDiv_f86c9_13 (lv_at hl 0 rfl) ?_
    refine lv_lload_n hx hb dJ9_floorDiv_f86c9_15 rfl (lv_at hl 2 rfl) ?_
    refine lv_lmul hx hb dJ9_floorDiv_f86c9_16 ?_
    refine lv_lload_n hx hb dJ9_floorDiv_f86c9_17 rfl (lv_at hl 1 rfl) ?_
    refine zl_eq (tgt := 27) hx hb dJ9_floorDiv_f86c9_18 dJ9_floorDiv_f86c9_19 (by decide) (fun c_2 => ?_) (fun c_2 => ?_)
    · refine lv_lload hx hb dJ9_floorDiv_f86c9_27 (lv_at hl 0 rfl) ?_
      exact W.lret hx hb hr (fun t ht _ => ⟨_, rfl, (by unfold f_J9_floorDiv_f86c9; rw [if_neg c_1, if_pos c_2]), ht⟩) (fun _ h => nomatch h) dJ9_floorDiv_f86c9_29
    · refine lv_lload hx hb dJ9_floorDiv_f86c9_22 (lv_at hl 0 rfl) ?_
      refine lv_lconst (v := 1) hx hb dJ9_floorDiv_f86c9_24 (by decide) ?_
      refine lv_lsub hx hb dJ9_floorDiv_f86c9_25 ?_
      exact W.lret hx hb hr (fun t ht _ => ⟨_, rfl, (by unfold f_J9_floorDiv_f86c9; rw [if_neg c_1, if_neg c_2]), ht⟩) (fun _ h => nomatch h) dJ9_floorDiv_f86c9_26

def f_J9_floorMod_7cf53 (x0 : Int32) (x1 : Int32) : Int32 := if 0 ≤ (x0 ^^^ x1) then (x0 - x0 / x1 * x1) else (if (x0 - x0 / x1 * x1) = 0 then (x0 - x0 / x1 * x1) else ((x0 - x0 / x1 * x1) + x1))
set_option maxHeartbeats 4000000 in
set_option maxRecDepth 100000 in
theorem k_J9_floorMod_7cf53 (l : Launch) (x0 : Int32) (x1 : Int32) (h0 : ¬ x1 = 0) : Met l yJ9_floorMod_7cf53 wsJ9_floorMod_7cf53 ({ frames := 0, cells := 0, slots := 0, locals := 0 }) (fun v _ => v = ([.int x0, .int x1] : List Value).toArray) (vp_Si (fun r => r = f_J9_floorMod_7cf53 x0 x1)) 0 0 (fun _ => False) := by
  refine va_MetF (cc := cJ9_floorMod_7cf53) (maxL := 3) (ret := (some .int)) (by decide +kernel) rfl ?_
  intro p e s m args below meth c s₁ B hml hv
  obtain rfl := hv
  have hx := B.exec
  have hb := B.bytes
  have hr := B.returns
  have hts := atoms_spec (ws := wsJ9_floorMod_7cf53) B.pre
  have hown : s.vm.findClass RJ9 = some m.cls := findClass_of_methodNamed B.named
  have hlocks := B.notSynchronized
  have hl := lv_entry ([.int x0, .int x1]) (n := 3) (Nat.le_of_ble_eq_true rfl)
  rw [lg_entry_eq]
  generalize (lg_sl ([.int x0, .int x1]) ++ List.replicate (3 - (lg_sl ([.int x0, .int x1])).length) Slot.unset).toArray = ls at hl ⊢
  have hl : lv_has ls 3 [(0, .int x0), (1, .int x1)] := hl
  refine lv_iload_n hx hb dJ9_floorMod_7cf53_0 rfl (lv_at hl 0 rfl) ?_
  refine lv_iload_n hx hb dJ9_floorMod_7cf53_1 rfl (lv_at hl 1 rfl) ?_
  refine lv_irem hx hb dJ9_floorMod_7cf53_2 h0 ?_
  refine lv_istore_n (lv' := [(2, .int (x0 - x0 / x1 * x1)), (0, .int x0), (1, .int x1)]) hx hb dJ9_floorMod_7cf53_3 rfl hl (by decide) rfl (fun ls hl => ?_)
  refine lv_iload_n hx hb dJ9_floorMod_7cf53_4 rfl (lv_at hl 1 rfl) ?_
  refine lv_iload_n hx hb dJ9_floorMod_7cf53_5 rfl (lv_at hl 2 rfl) ?_
  refine lv_ixor hx hb dJ9_floorMod_7cf53_6 ?_
  refine lv_if_ge (tgt := 18) hx hb dJ9_floorMod_7cf53_7 (by decide) (fun c_1 => ?_) (fun c_1 => ?_)
  · refine lv_iload_n hx hb dJ9_floorMod_7cf53_18 rfl (lv_at hl 0 rfl) ?_
    exact W.iret hx hb hr (fun t ht _ => ⟨_, rfl, (by unfold f_J9_floorMod_7cf53; rw [if_pos c_1]), ht⟩) (fun _ h => nomatch h) dJ9_floorMod_7cf53_19
  · refine lv_iload_n hx hb dJ9_floorMod_7cf53_10 rfl (lv_at hl 0 rfl) ?_
    refine lv_if_eq (tgt := 18) hx hb dJ9_floorMod_7cf53_11 (by decide) (fun c_2 => ?_) (fun c_2 => ?_)
    · refine lv_iload_n hx hb dJ9_floorMod_7cf53_18 rfl (lv_at hl 0 rfl) ?_
      exact W.iret hx hb hr (fun t ht _ => ⟨_, rfl, (by unfold f_J9_floorMod_7cf53; rw [if_neg c_1, if_pos c_2]), ht⟩) (fun _ h => nomatch h) dJ9_floorMod_7cf53_19
    · refine lv_iload_n hx hb dJ9_floorMod_7cf53_14 rfl (lv_at hl 0 rfl) ?_
      refine lv_iload_n hx hb dJ9_floorMod_7cf53_15 rfl (lv_at hl 2 rfl) ?_
      refine lv_iadd hx hb dJ9_floorMod_7cf53_16 ?_
      exact W.iret hx hb hr (fun t ht _ => ⟨_, rfl, (by unfold f_J9_floorMod_7cf53; rw [if_neg c_1, if_neg c_2]), ht⟩) (fun _ h => nomatch h) dJ9_floorMod_7cf53_17

def f_X1_firstDayOfYear_15_0 (x1 : Int32) : Int64 := (365 * (Int32.toInt64 x1)) + (Int32.toInt64 (f_J9_floorDiv_7cf53 (x1 + 3) 4))
def f_X1_firstDayOfYear (x0 : Int32) (x1 : Int32) : Int64 := if x0 = 0 then ((f_X1_firstDayOfYear_15_0 x1) + 1721058) else ((((f_X1_firstDayOfYear_15_0 x1) - (Int32.toInt64 (f_J9_floorDiv_7cf53 (x1 + 99) 100))) + (Int32.toInt64 (f_J9_floorDiv_7cf53 (x1 + 399) 400))) + 1721060)
set_option maxHeartbeats 4000000 in
set_option maxRecDepth 100000 in
theorem k_X1_firstDayOfYear (l : Launch) (x0 : Int32) (x1 : Int32)  : Met l yX1_firstDayOfYear wsX1_firstDayOfYear ({ frames := 1, cells := 0, slots := 0, locals := 22 }) (fun v _ => v = ([.int x0, .int x1] : List Value).toArray) (vp_Sl (fun r => r = f_X1_firstDayOfYear x0 x1)) 0 0 (fun _ => False) := by
  refine Met.ofW (cc := cX1_firstDayOfYear) (maxL := 4) (ret := (some .long)) (by decide) rfl ?_
  intro p e s m args below meth c s₁ B hml hv
  obtain rfl := hv
  have hx := B.exec
  have hb := B.bytes
  have hr := B.returns
  have hts := atoms_spec (ws := wsX1_firstDayOfYear) B.pre
  have hown : s.vm.findClass RX1 = some m.cls := findClass_of_methodNamed B.named
  have hlocks := B.notSynchronized
  have hl := lv_entry ([.int x0, .int x1]) (n := 4) (Nat.le_of_ble_eq_true rfl)
  rw [lg_entry_eq]
  generalize (lg_sl ([.int x0, .int x1]) ++ List.replicate (4 - (lg_sl ([.int x0, .int x1])).length) Slot.unset).toArray = ls at hl ⊢
  have hl : lv_has ls 4 [(0, .int x0), (1, .int x1)] := hl
  refine lv_ldc2 hx hb hown (hts (.constantLong RX1 118 (365)) (by decide +kernel)) dX1_firstDayOfYear_0 ?_
  refine lv_iload_n hx hb dX1_firstDayOfYear_3 rfl (lv_at hl 1 rfl) ?_
  refine lv_i2l hx hb dX1_firstDayOfYear_4 rfl ?_
  refine lv_lmul hx hb dX1_firstDayOfYear_5 ?_
  refine lv_iload_n hx hb dX1_firstDayOfYear_6 rfl (lv_at hl 1 rfl) ?_
  refine lv_iconst (v := 3) hx hb dX1_firstDayOfYear_7 (by decide) ?_
  refine lv_iadd hx hb dX1_firstDayOfYear_8 ?_
  refine lv_iconst (v := 4) hx hb dX1_firstDayOfYear_9 (by decide) ?_
  refine vp_callSi (W.runS (As := [.int (x1 + 3), .int 4]) (rest := [.long (365 * (Int32.toInt64 x1))]) ⟨hx, hb, hml, hown, hts⟩ (k_J9_floorDiv_7cf53 l (x1 + 3) 4 (by decide)) (va_cwS 2 hts gX1_firstDayOfYear_J9_floorDiv_7cf53 rfl rfl rfl (by decide +kernel) ⟨Nat.le_of_ble_eq_true rfl, Nat.le_of_ble_eq_true rfl⟩) preEq rfl rfl hl.1 rfl (lv_room (Nat.le_of_ble_eq_true rfl)) dX1_firstDayOfYear_10 ⟨Nat.zero_le _, Nat.zero_le _⟩) (fun r hr9 => ?_)
  obtain rfl := hr9
  refine lv_i2l hx hb dX1_firstDayOfYear_13 rfl ?_
  refine lv_ladd hx hb dX1_firstDayOfYear_14 ?_
  refine lv_lstore_n (lv' := [(2, .long (f_X1_firstDayOfYear_15_0 x1)), (0, .int x0), (1, .int x1)]) hx hb dX1_firstDayOfYear_15 rfl hl (by decide) rfl (fun ls hl => ?_)
  refine lv_iload_n hx hb dX1_firstDayOfYear_16 rfl (lv_at hl 1 rfl) ?_
  refine lv_if_ne (tgt := 26) hx hb dX1_firstDayOfYear_17 (by decide) (fun c_1 => ?_) (fun c_1 => ?_)
  · refine lv_lload_n hx hb dX1_firstDayOfYear_26 rfl (lv_at hl 0 rfl) ?_
    refine lv_iload_n hx hb dX1_firstDayOfYear_27 rfl (lv_at hl 2 rfl) ?_
    refine lv_bipush (v := 99) hx hb dX1_firstDayOfYear_28 (by decide) ?_
    refine lv_iadd hx hb dX1_firstDayOfYear_30 ?_
    refine lv_bipush (v := 100) hx hb dX1_firstDayOfYear_31 (by decide) ?_
    refine vp_callSi (W.runS (As := [.int (x1 + 99), .int 100]) (rest := [.long (f_X1_firstDayOfYear_15_0 x1)]) ⟨hx, hb, hml, hown, hts⟩ (k_J9_floorDiv_7cf53 l (x1 + 99) 100 (by decide)) (va_cwS 2 hts gX1_firstDayOfYear_J9_floorDiv_7cf53 rfl rfl rfl (by decide +kernel) ⟨Nat.le_of_ble_eq_true rfl, Nat.le_of_ble_eq_true rfl⟩) preEq rfl rfl hl.1 rfl (lv_room (Nat.le_of_ble_eq_true rfl)) dX1_firstDayOfYear_33 ⟨Nat.zero_le _, Nat.zero_le _⟩) (fun r hr9 => ?_)
    obtain rfl := hr9
    refine lv_i2l hx hb dX1_firstDayOfYear_36 rfl ?_
    refine lv_lsub hx hb dX1_firstDayOfYear_37 ?_
    refine lv_iload_n hx hb dX1_firstDayOfYear_38 rfl (lv_at hl 2 rfl) ?_
    refine lv_sipush (v := 399) hx hb dX1_firstDayOfYear_39 (by decide) ?_
    refine lv_iadd hx hb dX1_firstDayOfYear_42 ?_
    refine lv_sipush (v := 400) hx hb dX1_firstDayOfYear_43 (by decide) ?_
    refine vp_callSi (W.runS (As := [.int (x1 + 399), .int 400]) (rest := [.long ((f_X1_firstDayOfYear_15_0 x1) - (Int32.toInt64 (f_J9_floorDiv_7cf53 (x1 + 99) 100)))]) ⟨hx, hb, hml, hown, hts⟩ (k_J9_floorDiv_7cf53 l (x1 + 399) 400 (by decide)) (va_cwS 2 hts gX1_firstDayOfYear_J9_floorDiv_7cf53 rfl rfl rfl (by decide +kernel) ⟨Nat.le_of_ble_eq_true rfl, Nat.le_of_ble_eq_true rfl⟩) preEq rfl rfl hl.1 rfl (lv_room (Nat.le_of_ble_eq_true rfl)) dX1_firstDayOfYear_46 ⟨Nat.zero_le _, Nat.zero_le _⟩) (fun r hr9 => ?_)
    obtain rfl := hr9
    refine lv_i2l hx hb dX1_firstDayOfYear_49 rfl ?_
    refine lv_ladd hx hb dX1_firstDayOfYear_50 ?_
    refine lv_ldc2 hx hb hown (hts (.constantLong RX1 125 (1721060)) (by decide +kernel)) dX1_firstDayOfYear_51 ?_
    refine lv_ladd hx hb dX1_firstDayOfYear_54 ?_
    exact W.lret hx hb hr (fun t ht _ => ⟨_, rfl, (by unfold f_X1_firstDayOfYear; rw [if_neg c_1]), ht⟩) (fun _ h => nomatch h) dX1_firstDayOfYear_55
  · refine lv_lload_n hx hb dX1_firstDayOfYear_20 rfl (lv_at hl 0 rfl) ?_
    refine lv_ldc2 hx hb hown (hts (.constantLong RX1 123 (1721058)) (by decide +kernel)) dX1_firstDayOfYear_21 ?_
    refine lv_ladd hx hb dX1_firstDayOfYear_24 ?_
    exact W.lret hx hb hr (fun t ht _ => ⟨_, rfl, (by unfold f_X1_firstDayOfYear; rw [if_pos c_1]), ht⟩) (fun _ h => nomatch h) dX1_firstDayOfYear_25

def f_X2_within (x0 : UInt64) (x1 : UInt64) (x2 : UInt64) : Int32 := if dge x0 x1 then (if dle x0 x2 then (1) else (0)) else (0)
set_option maxHeartbeats 4000000 in
set_option maxRecDepth 100000 in
theorem k_X2_within (l : Launch) (x0 : UInt64) (x1 : UInt64) (x2 : UInt64)  : Met l yX2_within wsX2_within ({ frames := 0, cells := 0, slots := 0, locals := 0 }) (fun v _ => v = ([.double x0, .double x1, .double x2] : List Value).toArray) (vp_Si (fun r => r = f_X2_within x0 x1 x2)) 0 0 (fun _ => False) := by
  refine Met.ofW (cc := cX2_within) (maxL := 6) (ret := (some .boolean)) (by decide) rfl ?_
  intro p e s m args below meth c s₁ B hml hv
  obtain rfl := hv
  have hx := B.exec
  have hb := B.bytes
  have hr := B.returns
  have hts := atoms_spec (ws := wsX2_within) B.pre
  have hown : s.vm.findClass RX2 = some m.cls := findClass_of_methodNamed B.named
  have hlocks := B.notSynchronized
  have hl := lv_entry ([.double x0, .double x1, .double x2]) (n := 6) (Nat.le_of_ble_eq_true rfl)
  rw [lg_entry_eq]
  generalize (lg_sl ([.double x0, .double x1, .double x2]) ++ List.replicate (6 - (lg_sl ([.double x0, .double x1, .double x2])).length) Slot.unset).toArray = ls at hl ⊢
  have hl : lv_has ls 6 [(0, .double x0), (2, .double x1), (4, .double x2)] := hl
  refine lv_dload_n hx hb dX2_within_0 rfl (lv_at hl 0 rfl) ?_
  refine lv_dload_n hx hb dX2_within_1 rfl (lv_at hl 1 rfl) ?_
  refine zd_l_lt (tgt := 17) hx hb dX2_within_2 dX2_within_3 (by decide) (fun c_1 => ?_) (fun c_1 => ?_)
  · refine lv_iconst (v := 0) hx hb dX2_within_17 (by decide) ?_
    exact W.zret hx hb hr rfl (fun t ht _ => ⟨_, rfl, (by unfold f_X2_within; rw [if_neg c_1]), ht⟩) (fun _ h => nomatch h) dX2_within_18
  · refine lv_dload_n hx hb dX2_within_6 rfl (lv_at hl 0 rfl) ?_
    refine lv_dload hx hb dX2_within_7 (lv_at hl 2 rfl) ?_
    refine zd_g_gt (tgt := 17) hx hb dX2_within_9 dX2_within_10 (by decide) (fun c_2 => ?_) (fun c_2 => ?_)
    · refine lv_iconst (v := 0) hx hb dX2_within_17 (by decide) ?_
      exact W.zret hx hb hr rfl (fun t ht _ => ⟨_, rfl, (by unfold f_X2_within; rw [if_pos c_1, if_neg c_2]), ht⟩) (fun _ h => nomatch h) dX2_within_18
    · refine lv_iconst (v := 1) hx hb dX2_within_13 (by decide) ?_
      refine lv_goto (tgt := 18) hx hb dX2_within_14 (by decide) ?_
      exact W.zret hx hb hr rfl (fun t ht _ => ⟨_, rfl, (by unfold f_X2_within; rw [if_pos c_1, if_pos c_2]), ht⟩) (fun _ h => nomatch h) dX2_within_18
theorem nb_X2_within (x0 : UInt64) (x1 : UInt64) (x2 : UInt64) : narrow .boolean (.int (f_X2_within x0 x1 x2)) = .int (f_X2_within x0 x1 x2) := by
  unfold f_X2_within
  (repeat' split) <;> rfl

def f_X2_floor (x0 : Int64) (x1 : Int64) : Int64 := if x0 < 0 then (-(((x1 - 1) - x0) / x1)) else (x0 / x1)
set_option maxHeartbeats 4000000 in
set_option maxRecDepth 100000 in
theorem k_X2_floor (l : Launch) (x0 : Int64) (x1 : Int64) (h0 : ¬ x1 = 0) : Met l yX2_floor wsX2_floor ({ frames := 0, cells := 0, slots := 0, locals := 0 }) (fun v _ => v = ([.long x0, .long x1] : List Value).toArray) (vp_Sl (fun r => r = f_X2_floor x0 x1)) 0 0 (fun _ => False) := by
  refine Met.ofW (cc := cX2_floor) (maxL := 4) (ret := (some .long)) (by decide) rfl ?_
  intro p e s m args below meth c s₁ B hml hv
  obtain rfl := hv
  have hx := B.exec
  have hb := B.bytes
  have hr := B.returns
  have hts := atoms_spec (ws := wsX2_floor) B.pre
  have hown : s.vm.findClass RX2 = some m.cls := findClass_of_methodNamed B.named
  have hlocks := B.notSynchronized
  have hl := lv_entry ([.long x0, .long x1]) (n := 4) (Nat.le_of_ble_eq_true rfl)
  rw [lg_entry_eq]
  generalize (lg_sl ([.long x0, .long x1]) ++ List.replicate (4 - (lg_sl ([.long x0, .long x1])).length) Slot.unset).toArray = ls at hl ⊢
  have hl : lv_has ls 4 [(0, .long x0), (2, .long x1)] := hl
  refine lv_lload_n hx hb dX2_floor_0 rfl (lv_at hl 0 rfl) ?_
  refine lv_lconst (v := 0) hx hb dX2_floor_1 (by decide) ?_
  refine zl_lt (tgt := 12) hx hb dX2_floor_2 dX2_floor_3 (by decide) (fun c_1 => ?_) (fun c_1 => ?_)
  · refine lv_lload_n hx hb dX2_floor_12 rfl (lv_at hl 1 rfl) ?_
    refine lv_lconst (v := 1) hx hb dX2_floor_13 (by decide) ?_
    refine lv_lsub hx hb dX2_floor_14 ?_
    refine lv_lload_n hx hb dX2_floor_15 rfl (lv_at hl 0 rfl) ?_
    refine lv_lsub hx hb dX2_floor_16 ?_
    refine lv_lload_n hx hb dX2_floor_17 rfl (lv_at hl 1 rfl) ?_
    refine lv_ldiv hx hb dX2_floor_18 h0 ?_
    refine lv_lneg hx hb dX2_floor_19 ?_
    exact W.lret hx hb hr (fun t ht _ => ⟨_, rfl, (by unfold f_X2_floor; rw [if_pos c_1]), ht⟩) (fun _ h => nomatch h) dX2_floor_20
  · refine lv_lload_n hx hb dX2_floor_6 rfl (lv_at hl 0 rfl) ?_
    refine lv_lload_n hx hb dX2_floor_7 rfl (lv_at hl 1 rfl) ?_
    refine lv_ldiv hx hb dX2_floor_8 h0 ?_
    refine lv_goto (tgt := 20) hx hb dX2_floor_9 (by decide) ?_
    exact W.lret hx hb hr (fun t ht _ => ⟨_, rfl, (by unfold f_X2_floor; rw [if_neg c_1]), ht⟩) (fun _ h => nomatch h) dX2_floor_20

def f_X2_before (x0 : Int32) (x1 : Int64) : Int64 := if x0 = 0 then ((365 * x1) + (f_X2_floor (x1 + 3) 4)) else ((365 * x1) + (((f_X2_floor (x1 + 3) 4) - (f_X2_floor (x1 + 99) 100)) + (f_X2_floor (x1 + 399) 400)))
set_option maxHeartbeats 4000000 in
set_option maxRecDepth 100000 in
theorem k_X2_before (l : Launch) (x0 : Int32) (x1 : Int64)  : Met l yX2_before wsX2_before ({ frames := 1, cells := 0, slots := 0, locals := 23 }) (fun v _ => v = ([.int x0, .long x1] : List Value).toArray) (vp_Sl (fun r => r = f_X2_before x0 x1)) 0 0 (fun _ => False) := by
  refine Met.ofW (cc := cX2_before) (maxL := 5) (ret := (some .long)) (by decide) rfl ?_
  intro p e s m args below meth c s₁ B hml hv
  obtain rfl := hv
  have hx := B.exec
  have hb := B.bytes
  have hr := B.returns
  have hts := atoms_spec (ws := wsX2_before) B.pre
  have hown : s.vm.findClass RX2 = some m.cls := findClass_of_methodNamed B.named
  have hlocks := B.notSynchronized
  have hl := lv_entry ([.int x0, .long x1]) (n := 5) (Nat.le_of_ble_eq_true rfl)
  rw [lg_entry_eq]
  generalize (lg_sl ([.int x0, .long x1]) ++ List.replicate (5 - (lg_sl ([.int x0, .long x1])).length) Slot.unset).toArray = ls at hl ⊢
  have hl : lv_has ls 5 [(0, .int x0), (1, .long x1)] := hl
  refine lv_lload_n hx hb dX2_before_0 rfl (lv_at hl 1 rfl) ?_
  refine lv_ldc2 hx hb hown (hts (.constantLong RX2 34 (3)) (by decide +kernel)) dX2_before_1 ?_
  refine lv_ladd hx hb dX2_before_4 ?_
  refine lv_ldc2 hx hb hown (hts (.constantLong RX2 36 (4)) (by decide +kernel)) dX2_before_5 ?_
  refine vp_callSl (W.runS (As := [.long (x1 + 3), .long 4]) (rest := []) ⟨hx, hb, hml, hown, hts⟩ (k_X2_floor l (x1 + 3) 4 (by decide)) (va_cwS 2 hts gX2_before_X2_floor rfl rfl rfl (by decide +kernel) ⟨Nat.le_of_ble_eq_true rfl, Nat.le_of_ble_eq_true rfl⟩) preEq rfl rfl hl.1 rfl (lv_room (Nat.le_of_ble_eq_true rfl)) dX2_before_8 ⟨Nat.zero_le _, Nat.zero_le _⟩) (fun r hr9 => ?_)
  obtain rfl := hr9
  refine lv_lstore_n (lv' := [(3, .long (f_X2_floor (x1 + 3) 4)), (0, .int x0), (1, .long x1)]) hx hb dX2_before_11 rfl hl (by decide) rfl (fun ls hl => ?_)
  refine lv_ldc2 hx hb hown (hts (.constantLong RX2 42 (365)) (by decide +kernel)) dX2_before_12 ?_
  refine lv_lload_n hx hb dX2_before_15 rfl (lv_at hl 2 rfl) ?_
  refine lv_lmul hx hb dX2_before_16 ?_
  refine lv_iload_n hx hb dX2_before_17 rfl (lv_at hl 1 rfl) ?_
  refine lv_if_ne (tgt := 25) hx hb dX2_before_18 (by decide) (fun c_1 => ?_) (fun c_1 => ?_)
  · refine lv_lload_n hx hb dX2_before_25 rfl (lv_at hl 0 rfl) ?_
    refine lv_lload_n hx hb dX2_before_26 rfl (lv_at hl 2 rfl) ?_
    refine lv_ldc2 hx hb hown (hts (.constantLong RX2 44 (99)) (by decide +kernel)) dX2_before_27 ?_
    refine lv_ladd hx hb dX2_before_30 ?_
    refine lv_ldc2 hx hb hown (hts (.constantLong RX2 46 (100)) (by decide +kernel)) dX2_before_31 ?_
    refine vp_callSl (W.runS (As := [.long (x1 + 99), .long 100]) (rest := [.long (f_X2_floor (x1 + 3) 4), .long (365 * x1)]) ⟨hx, hb, hml, hown, hts⟩ (k_X2_floor l (x1 + 99) 100 (by decide)) (va_cwS 2 hts gX2_before_X2_floor rfl rfl rfl (by decide +kernel) ⟨Nat.le_of_ble_eq_true rfl, Nat.le_of_ble_eq_true rfl⟩) preEq rfl rfl hl.1 rfl (lv_room (Nat.le_of_ble_eq_true rfl)) dX2_before_34 ⟨Nat.zero_le _, Nat.zero_le _⟩) (fun r hr9 => ?_)
    obtain rfl := hr9
    refine lv_lsub hx hb dX2_before_37 ?_
    refine lv_lload_n hx hb dX2_before_38 rfl (lv_at hl 2 rfl) ?_
    refine lv_ldc2 hx hb hown (hts (.constantLong RX2 48 (399)) (by decide +kernel)) dX2_before_39 ?_
    refine lv_ladd hx hb dX2_before_42 ?_
    refine lv_ldc2 hx hb hown (hts (.constantLong RX2 50 (400)) (by decide +kernel)) dX2_before_43 ?_
    refine vp_callSl (W.runS (As := [.long (x1 + 399), .long 400]) (rest := [.long ((f_X2_floor (x1 + 3) 4) - (f_X2_floor (x1 + 99) 100)), .long (365 * x1)]) ⟨hx, hb, hml, hown, hts⟩ (k_X2_floor l (x1 + 399) 400 (by decide)) (va_cwS 2 hts gX2_before_X2_floor rfl rfl rfl (by decide +kernel) ⟨Nat.le_of_ble_eq_true rfl, Nat.le_of_ble_eq_true rfl⟩) preEq rfl rfl hl.1 rfl (lv_room (Nat.le_of_ble_eq_true rfl)) dX2_before_46 ⟨Nat.zero_le _, Nat.zero_le _⟩) (fun r hr9 => ?_)
    obtain rfl := hr9
    refine lv_ladd hx hb dX2_before_49 ?_
    refine lv_ladd hx hb dX2_before_50 ?_
    exact W.lret hx hb hr (fun t ht _ => ⟨_, rfl, (by unfold f_X2_before; rw [if_neg c_1]), ht⟩) (fun _ h => nomatch h) dX2_before_51
  · refine lv_lload_n hx hb dX2_before_21 rfl (lv_at hl 0 rfl) ?_
    refine lv_goto (tgt := 50) hx hb dX2_before_22 (by decide) ?_
    refine lv_ladd hx hb dX2_before_50 ?_
    exact W.lret hx hb hr (fun t ht _ => ⟨_, rfl, (by unfold f_X2_before; rw [if_pos c_1]), ht⟩) (fun _ h => nomatch h) dX2_before_51

def f_X2_leap (x0 : Int32) (x1 : Int64) : Int32 := if ((f_X2_before x0 (x1 + 1)) - (f_X2_before x0 x1)) = 366 then (1) else (0)
set_option maxHeartbeats 4000000 in
set_option maxRecDepth 100000 in
theorem k_X2_leap (l : Launch) (x0 : Int32) (x1 : Int64)  : Met l yX2_leap wsX2_leap ({ frames := 2, cells := 0, slots := 0, locals := 47 }) (fun v _ => v = ([.int x0, .long x1] : List Value).toArray) (vp_Si (fun r => r = f_X2_leap x0 x1)) 0 0 (fun _ => False) := by
  refine Met.ofW (cc := cX2_leap) (maxL := 3) (ret := (some .boolean)) (by decide) rfl ?_
  intro p e s m args below meth c s₁ B hml hv
  obtain rfl := hv
  have hx := B.exec
  have hb := B.bytes
  have hr := B.returns
  have hts := atoms_spec (ws := wsX2_leap) B.pre
  have hown : s.vm.findClass RX2 = some m.cls := findClass_of_methodNamed B.named
  have hlocks := B.notSynchronized
  have hl := lv_entry ([.int x0, .long x1]) (n := 3) (Nat.le_of_ble_eq_true rfl)
  rw [lg_entry_eq]
  generalize (lg_sl ([.int x0, .long x1]) ++ List.replicate (3 - (lg_sl ([.int x0, .long x1])).length) Slot.unset).toArray = ls at hl ⊢
  have hl : lv_has ls 3 [(0, .int x0), (1, .long x1)] := hl
  refine lv_iload_n hx hb dX2_leap_0 rfl (lv_at hl 0 rfl) ?_
  refine lv_lload_n hx hb dX2_leap_1 rfl (lv_at hl 1 rfl) ?_
  refine lv_lconst (v := 1) hx hb dX2_leap_2 (by decide) ?_
  refine lv_ladd hx hb dX2_leap_3 ?_
  refine vp_callSl (W.runS (As := [.int x0, .long (x1 + 1)]) (rest := []) ⟨hx, hb, hml, hown, hts⟩ (k_X2_before l x0 (x1 + 1)) (va_cwS 2 hts gX2_leap_X2_before rfl rfl rfl (by decide +kernel) ⟨Nat.le_of_ble_eq_true rfl, Nat.le_of_ble_eq_true rfl⟩) preEq rfl rfl hl.1 rfl (lv_room (Nat.le_of_ble_eq_true rfl)) dX2_leap_4 ⟨Nat.zero_le _, Nat.zero_le _⟩) (fun r hr9 => ?_)
  obtain rfl := hr9
  refine lv_iload_n hx hb dX2_leap_7 rfl (lv_at hl 0 rfl) ?_
  refine lv_lload_n hx hb dX2_leap_8 rfl (lv_at hl 1 rfl) ?_
  refine vp_callSl (W.runS (As := [.int x0, .long x1]) (rest := [.long (f_X2_before x0 (x1 + 1))]) ⟨hx, hb, hml, hown, hts⟩ (k_X2_before l x0 x1) (va_cwS 2 hts gX2_leap_X2_before rfl rfl rfl (by decide +kernel) ⟨Nat.le_of_ble_eq_true rfl, Nat.le_of_ble_eq_true rfl⟩) preEq rfl rfl hl.1 rfl (lv_room (Nat.le_of_ble_eq_true rfl)) dX2_leap_9 ⟨Nat.zero_le _, Nat.zero_le _⟩) (fun r hr9 => ?_)
  obtain rfl := hr9
  refine lv_lsub hx hb dX2_leap_12 ?_
  refine lv_ldc2 hx hb hown (hts (.constantLong RX2 56 (366)) (by decide +kernel)) dX2_leap_13 ?_
  refine zl_ne (tgt := 24) hx hb dX2_leap_16 dX2_leap_17 (by decide) (fun c_1 => ?_) (fun c_1 => ?_)
  · refine lv_iconst (v := 0) hx hb dX2_leap_24 (by decide) ?_
    exact W.zret hx hb hr rfl (fun t ht _ => ⟨_, rfl, (by unfold f_X2_leap; rw [if_neg c_1]), ht⟩) (fun _ h => nomatch h) dX2_leap_25
  · refine lv_iconst (v := 1) hx hb dX2_leap_20 (by decide) ?_
    refine lv_goto (tgt := 25) hx hb dX2_leap_21 (by decide) ?_
    exact W.zret hx hb hr rfl (fun t ht _ => ⟨_, rfl, (by unfold f_X2_leap; rw [if_pos c_1]), ht⟩) (fun _ h => nomatch h) dX2_leap_25
theorem nb_X2_leap (x0 : Int32) (x1 : Int64) : narrow .boolean (.int (f_X2_leap x0 x1)) = .int (f_X2_leap x0 x1) := by
  unfold f_X2_leap
  (repeat' split) <;> rfl

def f_X2_length (x0 : Int32) (x1 : Int64) (x2 : Int32) : Int32 := if x2 = 2 then (if (f_X2_leap x0 x1) = 0 then (28) else (29)) else (if x2 = 4 then (30) else (if x2 = 6 then (30) else (if x2 = 9 then (30) else (if x2 = 11 then (30) else (31)))))
set_option maxHeartbeats 4000000 in
set_option maxRecDepth 100000 in
theorem k_X2_length (l : Launch) (x0 : Int32) (x1 : Int64) (x2 : Int32)  : Met l yX2_length wsX2_length ({ frames := 3, cells := 0, slots := 0, locals := 69 }) (fun v _ => v = ([.int x0, .long x1, .int x2] : List Value).toArray) (vp_Si (fun r => r = f_X2_length x0 x1 x2)) 0 0 (fun _ => False) := by
  refine Met.ofW (cc := cX2_length) (maxL := 4) (ret := (some .int)) (by decide) rfl ?_
  intro p e s m args below meth c s₁ B hml hv
  obtain rfl := hv
  have hx := B.exec
  have hb := B.bytes
  have hr := B.returns
  have hts := atoms_spec (ws := wsX2_length) B.pre
  have hown : s.vm.findClass RX2 = some m.cls := findClass_of_methodNamed B.named
  have hlocks := B.notSynchronized
  have hl := lv_entry ([.int x0, .long x1, .int x2]) (n := 4) (Nat.le_of_ble_eq_true rfl)
  rw [lg_entry_eq]
  generalize (lg_sl ([.int x0, .long x1, .int x2]) ++ List.replicate (4 - (lg_sl ([.int x0, .long x1, .int x2])).length) Slot.unset).toArray = ls at hl ⊢
  have hl : lv_has ls 4 [(0, .int x0), (1, .long x1), (3, .int x2)] := hl
  refine lv_iload_n hx hb dX2_length_0 rfl (lv_at hl 2 rfl) ?_
  refine lv_iconst (v := 2) hx hb dX2_length_1 (by decide) ?_
  refine lv_icmp_ne (tgt := 21) hx hb dX2_length_2 (by decide) (fun c_1 => ?_) (fun c_1 => ?_)
  · refine lv_iload_n hx hb dX2_length_21 rfl (lv_at hl 2 rfl) ?_
    refine lv_iconst (v := 4) hx hb dX2_length_22 (by decide) ?_
    refine lv_icmp_eq (tgt := 44) hx hb dX2_length_23 (by decide) (fun c_2 => ?_) (fun c_2 => ?_)
    · refine lv_bipush (v := 30) hx hb dX2_length_44 (by decide) ?_
      refine lv_goto (tgt := 51) hx hb dX2_length_46 (by decide) ?_
      exact W.iret hx hb hr (fun t ht _ => ⟨_, rfl, (by unfold f_X2_length; rw [if_neg c_1, if_pos c_2]), ht⟩) (fun _ h => nomatch h) dX2_length_51
    · refine lv_iload_n hx hb dX2_length_26 rfl (lv_at hl 2 rfl) ?_
      refine lv_bipush (v := 6) hx hb dX2_length_27 (by decide) ?_
      refine lv_icmp_eq (tgt := 44) hx hb dX2_length_29 (by decide) (fun c_3 => ?_) (fun c_3 => ?_)
      · refine lv_bipush (v := 30) hx hb dX2_length_44 (by decide) ?_
        refine lv_goto (tgt := 51) hx hb dX2_length_46 (by decide) ?_
        exact W.iret hx hb hr (fun t ht _ => ⟨_, rfl, (by unfold f_X2_length; rw [if_neg c_1, if_neg c_2, if_pos c_3]), ht⟩) (fun _ h => nomatch h) dX2_length_51
      · refine lv_iload_n hx hb dX2_length_32 rfl (lv_at hl 2 rfl) ?_
        refine lv_bipush (v := 9) hx hb dX2_length_33 (by decide) ?_
        refine lv_icmp_eq (tgt := 44) hx hb dX2_length_35 (by decide) (fun c_4 => ?_) (fun c_4 => ?_)
        · refine lv_bipush (v := 30) hx hb dX2_length_44 (by decide) ?_
          refine lv_goto (tgt := 51) hx hb dX2_length_46 (by decide) ?_
          exact W.iret hx hb hr (fun t ht _ => ⟨_, rfl, (by unfold f_X2_length; rw [if_neg c_1, if_neg c_2, if_neg c_3, if_pos c_4]), ht⟩) (fun _ h => nomatch h) dX2_length_51
        · refine lv_iload_n hx hb dX2_length_38 rfl (lv_at hl 2 rfl) ?_
          refine lv_bipush (v := 11) hx hb dX2_length_39 (by decide) ?_
          refine lv_icmp_ne (tgt := 49) hx hb dX2_length_41 (by decide) (fun c_5 => ?_) (fun c_5 => ?_)
          · refine lv_bipush (v := 31) hx hb dX2_length_49 (by decide) ?_
            exact W.iret hx hb hr (fun t ht _ => ⟨_, rfl, (by unfold f_X2_length; rw [if_neg c_1, if_neg c_2, if_neg c_3, if_neg c_4, if_neg c_5]), ht⟩) (fun _ h => nomatch h) dX2_length_51
          · refine lv_bipush (v := 30) hx hb dX2_length_44 (by decide) ?_
            refine lv_goto (tgt := 51) hx hb dX2_length_46 (by decide) ?_
            exact W.iret hx hb hr (fun t ht _ => ⟨_, rfl, (by unfold f_X2_length; rw [if_neg c_1, if_neg c_2, if_neg c_3, if_neg c_4, if_pos c_5]), ht⟩) (fun _ h => nomatch h) dX2_length_51
  · refine lv_iload_n hx hb dX2_length_5 rfl (lv_at hl 0 rfl) ?_
    refine lv_lload_n hx hb dX2_length_6 rfl (lv_at hl 1 rfl) ?_
    refine vp_callSi (W.runS (As := [.int x0, .long x1]) (rest := []) ⟨hx, hb, hml, hown, hts⟩ (k_X2_leap l x0 x1) (va_cwS 2 hts gX2_length_X2_leap rfl rfl rfl (by decide +kernel) ⟨Nat.le_of_ble_eq_true rfl, Nat.le_of_ble_eq_true rfl⟩) preEq rfl rfl hl.1 rfl (lv_room (Nat.le_of_ble_eq_true rfl)) dX2_length_7 ⟨Nat.zero_le _, Nat.zero_le _⟩) (fun r hr9 => ?_)
    obtain rfl := hr9
    refine lv_if_eq (tgt := 18) hx hb dX2_length_10 (by decide) (fun c_6 => ?_) (fun c_6 => ?_)
    · refine lv_bipush (v := 28) hx hb dX2_length_18 (by decide) ?_
      exact W.iret hx hb hr (fun t ht _ => ⟨_, rfl, (by unfold f_X2_length; rw [if_pos c_1, if_pos c_6]), ht⟩) (fun _ h => nomatch h) dX2_length_20
    · refine lv_bipush (v := 29) hx hb dX2_length_13 (by decide) ?_
      refine lv_goto (tgt := 20) hx hb dX2_length_15 (by decide) ?_
      exact W.iret hx hb hr (fun t ht _ => ⟨_, rfl, (by unfold f_X2_length; rw [if_pos c_1, if_neg c_6]), ht⟩) (fun _ h => nomatch h) dX2_length_20

def f_X2_newYear (x0 : Int32) (x1 : Int64) : Int64 := if x0 = 0 then ((f_X2_before 0 x1) - (f_X2_before 0 (-4712))) else (((f_X2_before 1 x1) - (f_X2_before 1 (-4713))) - 327)
set_option maxHeartbeats 4000000 in
set_option maxRecDepth 100000 in
theorem k_X2_newYear (l : Launch) (x0 : Int32) (x1 : Int64)  : Met l yX2_newYear wsX2_newYear ({ frames := 2, cells := 0, slots := 0, locals := 47 }) (fun v _ => v = ([.int x0, .long x1] : List Value).toArray) (vp_Sl (fun r => r = f_X2_newYear x0 x1)) 0 0 (fun _ => False) := by
  refine Met.ofW (cc := cX2_newYear) (maxL := 3) (ret := (some .long)) (by decide) rfl ?_
  intro p e s m args below meth c s₁ B hml hv
  obtain rfl := hv
  have hx := B.exec
  have hb := B.bytes
  have hr := B.returns
  have hts := atoms_spec (ws := wsX2_newYear) B.pre
  have hown : s.vm.findClass RX2 = some m.cls := findClass_of_methodNamed B.named
  have hlocks := B.notSynchronized
  have hl := lv_entry ([.int x0, .long x1]) (n := 3) (Nat.le_of_ble_eq_true rfl)
  rw [lg_entry_eq]
  generalize (lg_sl ([.int x0, .long x1]) ++ List.replicate (3 - (lg_sl ([.int x0, .long x1])).length) Slot.unset).toArray = ls at hl ⊢
  have hl : lv_has ls 3 [(0, .int x0), (1, .long x1)] := hl
  refine lv_iload_n hx hb dX2_newYear_0 rfl (lv_at hl 0 rfl) ?_
  refine lv_if_ne (tgt := 20) hx hb dX2_newYear_1 (by decide) (fun c_1 => ?_) (fun c_1 => ?_)
  · refine lv_iconst (v := 1) hx hb dX2_newYear_20 (by decide) ?_
    refine lv_lload_n hx hb dX2_newYear_21 rfl (lv_at hl 1 rfl) ?_
    refine vp_callSl (W.runS (As := [.int 1, .long x1]) (rest := []) ⟨hx, hb, hml, hown, hts⟩ (k_X2_before l 1 x1) (va_cwS 2 hts gX2_newYear_X2_before rfl rfl rfl (by decide +kernel) ⟨Nat.le_of_ble_eq_true rfl, Nat.le_of_ble_eq_true rfl⟩) preEq rfl rfl hl.1 rfl (lv_room (Nat.le_of_ble_eq_true rfl)) dX2_newYear_22 ⟨Nat.zero_le _, Nat.zero_le _⟩) (fun r hr9 => ?_)
    obtain rfl := hr9
    refine lv_iconst (v := 1) hx hb dX2_newYear_25 (by decide) ?_
    refine lv_ldc2 hx hb hown (hts (.constantLong RX2 64 (-4713)) (by decide +kernel)) dX2_newYear_26 ?_
    refine vp_callSl (W.runS (As := [.int 1, .long (-4713)]) (rest := [.long (f_X2_before 1 x1)]) ⟨hx, hb, hml, hown, hts⟩ (k_X2_before l 1 (-4713)) (va_cwS 2 hts gX2_newYear_X2_before rfl rfl rfl (by decide +kernel) ⟨Nat.le_of_ble_eq_true rfl, Nat.le_of_ble_eq_true rfl⟩) preEq rfl rfl hl.1 rfl (lv_room (Nat.le_of_ble_eq_true rfl)) dX2_newYear_29 ⟨Nat.zero_le _, Nat.zero_le _⟩) (fun r hr9 => ?_)
    obtain rfl := hr9
    refine lv_lsub hx hb dX2_newYear_32 ?_
    refine lv_ldc2 hx hb hown (hts (.constantLong RX2 66 (327)) (by decide +kernel)) dX2_newYear_33 ?_
    refine lv_lsub hx hb dX2_newYear_36 ?_
    exact W.lret hx hb hr (fun t ht _ => ⟨_, rfl, (by unfold f_X2_newYear; rw [if_neg c_1]), ht⟩) (fun _ h => nomatch h) dX2_newYear_37
  · refine lv_iconst (v := 0) hx hb dX2_newYear_4 (by decide) ?_
    refine lv_lload_n hx hb dX2_newYear_5 rfl (lv_at hl 1 rfl) ?_
    refine vp_callSl (W.runS (As := [.int 0, .long x1]) (rest := []) ⟨hx, hb, hml, hown, hts⟩ (k_X2_before l 0 x1) (va_cwS 2 hts gX2_newYear_X2_before rfl rfl rfl (by decide +kernel) ⟨Nat.le_of_ble_eq_true rfl, Nat.le_of_ble_eq_true rfl⟩) preEq rfl rfl hl.1 rfl (lv_room (Nat.le_of_ble_eq_true rfl)) dX2_newYear_6 ⟨Nat.zero_le _, Nat.zero_le _⟩) (fun r hr9 => ?_)
    obtain rfl := hr9
    refine lv_iconst (v := 0) hx hb dX2_newYear_9 (by decide) ?_
    refine lv_ldc2 hx hb hown (hts (.constantLong RX2 62 (-4712)) (by decide +kernel)) dX2_newYear_10 ?_
    refine vp_callSl (W.runS (As := [.int 0, .long (-4712)]) (rest := [.long (f_X2_before 0 x1)]) ⟨hx, hb, hml, hown, hts⟩ (k_X2_before l 0 (-4712)) (va_cwS 2 hts gX2_newYear_X2_before rfl rfl rfl (by decide +kernel) ⟨Nat.le_of_ble_eq_true rfl, Nat.le_of_ble_eq_true rfl⟩) preEq rfl rfl hl.1 rfl (lv_room (Nat.le_of_ble_eq_true rfl)) dX2_newYear_13 ⟨Nat.zero_le _, Nat.zero_le _⟩) (fun r hr9 => ?_)
    obtain rfl := hr9
    refine lv_lsub hx hb dX2_newYear_16 ?_
    refine lv_goto (tgt := 37) hx hb dX2_newYear_17 (by decide) ?_
    exact W.lret hx hb hr (fun t ht _ => ⟨_, rfl, (by unfold f_X2_newYear; rw [if_pos c_1]), ht⟩) (fun _ h => nomatch h) dX2_newYear_37

def f_X2_noDate (x0 : Int32) (x1 : Int32) (x2 : Int32) (x3 : Int32) : Int32 := if x1 < (-1000000) then (1) else (if 1000000 < x1 then (1) else (if x2 < 1 then (1) else (if 12 < x2 then (1) else (if x3 < 1 then (1) else (if x3 ≤ (f_X2_length x0 (Int32.toInt64 x1) x2) then (0) else (1))))))
set_option maxHeartbeats 4000000 in
set_option maxRecDepth 100000 in
theorem k_X2_noDate (l : Launch) (x0 : Int32) (x1 : Int32) (x2 : Int32) (x3 : Int32)  : Met l yX2_noDate wsX2_noDate ({ frames := 4, cells := 0, slots := 0, locals := 92 }) (fun v _ => v = ([.int x0, .int x1, .int x2, .int x3] : List Value).toArray) (vp_Si (fun r => r = f_X2_noDate x0 x1 x2 x3)) 0 0 (fun _ => False) := by
  refine Met.ofW (cc := cX2_noDate) (maxL := 4) (ret := (some .boolean)) (by decide) rfl ?_
  intro p e s m args below meth c s₁ B hml hv
  obtain rfl := hv
  have hx := B.exec
  have hb := B.bytes
  have hr := B.returns
  have hts := atoms_spec (ws := wsX2_noDate) B.pre
  have hown : s.vm.findClass RX2 = some m.cls := findClass_of_methodNamed B.named
  have hlocks := B.notSynchronized
  have hl := lv_entry ([.int x0, .int x1, .int x2, .int x3]) (n := 4) (Nat.le_of_ble_eq_true rfl)
  rw [lg_entry_eq]
  generalize (lg_sl ([.int x0, .int x1, .int x2, .int x3]) ++ List.replicate (4 - (lg_sl ([.int x0, .int x1, .int x2, .int x3])).length) Slot.unset).toArray = ls at hl ⊢
  have hl : lv_has ls 4 [(0, .int x0), (1, .int x1), (2, .int x2), (3, .int x3)] := hl
  refine lv_iload_n hx hb dX2_noDate_0 rfl (lv_at hl 1 rfl) ?_
  refine lv_ldc hx hb hown (hts (.constant RX2 68 (-1000000)) (by decide +kernel)) dX2_noDate_1 ?_
  refine lv_icmp_lt (tgt := 39) hx hb dX2_noDate_3 (by decide) (fun c_1 => ?_) (fun c_1 => ?_)
  · refine lv_iconst (v := 1) hx hb dX2_noDate_39 (by decide) ?_
    refine lv_goto (tgt := 44) hx hb dX2_noDate_40 (by decide) ?_
    exact W.zret hx hb hr rfl (fun t ht _ => ⟨_, rfl, (by unfold f_X2_noDate; rw [if_pos c_1]), ht⟩) (fun _ h => nomatch h) dX2_noDate_44
  · refine lv_iload_n hx hb dX2_noDate_6 rfl (lv_at hl 1 rfl) ?_
    refine lv_ldc hx hb hown (hts (.constant RX2 69 (1000000)) (by decide +kernel)) dX2_noDate_7 ?_
    refine lv_icmp_gt (tgt := 39) hx hb dX2_noDate_9 (by decide) (fun c_2 => ?_) (fun c_2 => ?_)
    · refine lv_iconst (v := 1) hx hb dX2_noDate_39 (by decide) ?_
      refine lv_goto (tgt := 44) hx hb dX2_noDate_40 (by decide) ?_
      exact W.zret hx hb hr rfl (fun t ht _ => ⟨_, rfl, (by unfold f_X2_noDate; rw [if_neg c_1, if_pos c_2]), ht⟩) (fun _ h => nomatch h) dX2_noDate_44
    · refine lv_iload_n hx hb dX2_noDate_12 rfl (lv_at hl 2 rfl) ?_
      refine lv_iconst (v := 1) hx hb dX2_noDate_13 (by decide) ?_
      refine lv_icmp_lt (tgt := 39) hx hb dX2_noDate_14 (by decide) (fun c_3 => ?_) (fun c_3 => ?_)
      · refine lv_iconst (v := 1) hx hb dX2_noDate_39 (by decide) ?_
        refine lv_goto (tgt := 44) hx hb dX2_noDate_40 (by decide) ?_
        exact W.zret hx hb hr rfl (fun t ht _ => ⟨_, rfl, (by unfold f_X2_noDate; rw [if_neg c_1, if_neg c_2, if_pos c_3]), ht⟩) (fun _ h => nomatch h) dX2_noDate_44
      · refine lv_iload_n hx hb dX2_noDate_17 rfl (lv_at hl 2 rfl) ?_
        refine lv_bipush (v := 12) hx hb dX2_noDate_18 (by decide) ?_
        refine lv_icmp_gt (tgt := 39) hx hb dX2_noDate_20 (by decide) (fun c_4 => ?_) (fun c_4 => ?_)
        · refine lv_iconst (v := 1) hx hb dX2_noDate_39 (by decide) ?_
          refine lv_goto (tgt := 44) hx hb dX2_noDate_40 (by decide) ?_
          exact W.zret hx hb hr rfl (fun t ht _ => ⟨_, rfl, (by unfold f_X2_noDate; rw [if_neg c_1, if_neg c_2, if_neg c_3, if_pos c_4]), ht⟩) (fun _ h => nomatch h) dX2_noDate_44
        · refine lv_iload_n hx hb dX2_noDate_23 rfl (lv_at hl 3 rfl) ?_
          refine lv_iconst (v := 1) hx hb dX2_noDate_24 (by decide) ?_
          refine lv_icmp_lt (tgt := 39) hx hb dX2_noDate_25 (by decide) (fun c_5 => ?_) (fun c_5 => ?_)
          · refine lv_iconst (v := 1) hx hb dX2_noDate_39 (by decide) ?_
            refine lv_goto (tgt := 44) hx hb dX2_noDate_40 (by decide) ?_
            exact W.zret hx hb hr rfl (fun t ht _ => ⟨_, rfl, (by unfold f_X2_noDate; rw [if_neg c_1, if_neg c_2, if_neg c_3, if_neg c_4, if_pos c_5]), ht⟩) (fun _ h => nomatch h) dX2_noDate_44
          · refine lv_iload_n hx hb dX2_noDate_28 rfl (lv_at hl 3 rfl) ?_
            refine lv_iload_n hx hb dX2_noDate_29 rfl (lv_at hl 0 rfl) ?_
            refine lv_iload_n hx hb dX2_noDate_30 rfl (lv_at hl 1 rfl) ?_
            refine lv_i2l hx hb dX2_noDate_31 rfl ?_
            refine lv_iload_n hx hb dX2_noDate_32 rfl (lv_at hl 2 rfl) ?_
            refine vp_callSi (W.runS (As := [.int x0, .long (Int32.toInt64 x1), .int x2]) (rest := [.int x3]) ⟨hx, hb, hml, hown, hts⟩ (k_X2_length l x0 (Int32.toInt64 x1) x2) (va_cwS 3 hts gX2_noDate_X2_length rfl rfl rfl (by decide +kernel) ⟨Nat.le_of_ble_eq_true rfl, Nat.le_of_ble_eq_true rfl⟩) preEq rfl rfl hl.1 rfl (lv_room (Nat.le_of_ble_eq_true rfl)) dX2_noDate_33 ⟨Nat.zero_le _, Nat.zero_le _⟩) (fun r hr9 => ?_)
            obtain rfl := hr9
            refine lv_icmp_le (tgt := 43) hx hb dX2_noDate_36 (by decide) (fun c_6 => ?_) (fun c_6 => ?_)
            · refine lv_iconst (v := 0) hx hb dX2_noDate_43 (by decide) ?_
              exact W.zret hx hb hr rfl (fun t ht _ => ⟨_, rfl, (by unfold f_X2_noDate; rw [if_neg c_1, if_neg c_2, if_neg c_3, if_neg c_4, if_neg c_5, if_pos c_6]), ht⟩) (fun _ h => nomatch h) dX2_noDate_44
            · refine lv_iconst (v := 1) hx hb dX2_noDate_39 (by decide) ?_
              refine lv_goto (tgt := 44) hx hb dX2_noDate_40 (by decide) ?_
              exact W.zret hx hb hr rfl (fun t ht _ => ⟨_, rfl, (by unfold f_X2_noDate; rw [if_neg c_1, if_neg c_2, if_neg c_3, if_neg c_4, if_neg c_5, if_neg c_6]), ht⟩) (fun _ h => nomatch h) dX2_noDate_44
theorem nb_X2_noDate (x0 : Int32) (x1 : Int32) (x2 : Int32) (x3 : Int32) : narrow .boolean (.int (f_X2_noDate x0 x1 x2 x3)) = .int (f_X2_noDate x0 x1 x2 x3) := by
  unfold f_X2_noDate
  (repeat' split) <;> rfl
end
section
set_option maxHeartbeats 4000000 in
set_option maxRecDepth 100000 in
theorem k_X1_red (l : Launch) (x0 : UInt64) (h0 : fR x0 (-1208925819614629174706176) 1208925819614629174706176) : Met l yX1_red wsX1_red ({ frames := 0, cells := 0, slots := 0, locals := 0 }) (fun v _ => v = ([.double x0] : List Value).toArray) (vp_Sd (fun r => r = RED x0)) 0 0 (fun _ => False) := by
  refine Met.ofW (cc := cX1_red) (maxL := 4) (ret := (some .double)) (by decide) rfl ?_
  intro p e s m args below meth c s₁ B hml hv
  obtain rfl := hv
  have hx := B.exec
  have hb := B.bytes
  have hr := B.returns
  have hts := atoms_spec (ws := wsX1_red) B.pre
  have hown : s.vm.findClass RX1 = some m.cls := findClass_of_methodNamed B.named
  have hlocks := B.notSynchronized
  have hl := lv_entry ([.double x0]) (n := 4) (Nat.le_of_ble_eq_true rfl)
  rw [lg_entry_eq]
  generalize (lg_sl ([.double x0]) ++ List.replicate (4 - (lg_sl ([.double x0])).length) Slot.unset).toArray = ls at hl ⊢
  have hl : lv_has ls 4 [(0, .double x0)] := hl
  obtain ⟨r1, r2, r3, r4, r5, r6⟩ := rd_all h0
  refine lv_dload_n hx hb dX1_red_0 rfl (lv_at hl 0 rfl) ?_
  refine lv_ldc2 hx hb hown (hts (.constantLong RX1 345 (360)) (by decide +kernel)) dX1_red_1 ?_
  refine lv_dload_n hx hb dX1_red_4 rfl (lv_at hl 0 rfl) ?_
  refine lv_ldc2d hx hb hown (hts (.constantDouble RX1 143 (4645040803167600640)) (by decide +kernel)) dX1_red_5 ?_
  have r_1 : fR 4645040803167600640 386547056640 386547056640 := fR_lit (by decide +kernel)
  refine lv_ddiv hx hb dX1_red_8 (fR_nn r1) ?_
  refine lv_d2l hx hb dX1_red_9 ?_
  refine lv_lmul hx hb dX1_red_10 ?_
  refine lv_l2d hx hb dX1_red_11 ?_
  rw [show FP.l2d (360 * FP.d2l (FP.ddiv x0 4645040803167600640)) = FP.dmul c360 (FP.l2d (rd_n x0)) from r3]
  refine lv_dsub hx hb dX1_red_12 (fR_nn r4) ?_
  refine lv_dstore_n (lv' := [(2, .double (rd_v x0)), (0, .double x0)]) hx hb dX1_red_13 rfl hl (by decide) rfl (fun ls hl => ?_)
  refine lv_dload_n hx hb dX1_red_14 rfl (lv_at hl 0 rfl) ?_
  refine lv_dconst0 hx hb dX1_red_15 ?_
  have r_2 : fR FP.dconst0 0 0 := fR_lit (by decide +kernel)
  refine zd_g_ge (tgt := 26) hx hb dX1_red_16 dX1_red_17 (by decide) (fun c_3 => ?_) (fun c_3 => ?_)
  · refine lv_dload_n hx hb dX1_red_26 rfl (lv_at hl 0 rfl) ?_
    refine lv_ldc2d hx hb hown (hts (.constantDouble RX1 143 (4645040803167600640)) (by decide +kernel)) dX1_red_27 ?_
    have r_4 : fR 4645040803167600640 386547056640 386547056640 := fR_lit (by decide +kernel)
    refine zd_l_ne (tgt := 38) hx hb dX1_red_30 dX1_red_31 (by decide) (fun c_5 => ?_) (fun c_5 => ?_)
    · refine lv_dload_n hx hb dX1_red_38 rfl (lv_at hl 0 rfl) ?_
      exact W.dret hx hb hr (fun t ht _ => ⟨_, rfl, (by unfold RED; rw [if_neg c_3, if_neg c_5]), ht⟩) (fun _ h => nomatch h) dX1_red_39
    · refine lv_dconst0 hx hb dX1_red_34 ?_
      have r_6 : fR FP.dconst0 0 0 := fR_lit (by decide +kernel)
      refine lv_goto (tgt := 39) hx hb dX1_red_35 (by decide) ?_
      exact W.dret hx hb hr (fun t ht _ => ⟨_, rfl, (by unfold RED; rw [if_neg c_3, if_pos c_5]), ht⟩) (fun _ h => nomatch h) dX1_red_39
  · refine lv_dload_n hx hb dX1_red_20 rfl (lv_at hl 0 rfl) ?_
    refine lv_ldc2d hx hb hown (hts (.constantDouble RX1 143 (4645040803167600640)) (by decide +kernel)) dX1_red_21 ?_
    have r_7 : fR 4645040803167600640 386547056640 386547056640 := fR_lit (by decide +kernel)
    refine lv_dadd hx hb dX1_red_24 (fR_nn (r5 c_3)) ?_
    refine lv_dstore_n (lv' := [(2, .double (FP.dadd (rd_v x0) 4645040803167600640)), (0, .double x0)]) hx hb dX1_red_25 rfl hl (by decide) rfl (fun ls hl => ?_)
    refine lv_dload_n hx hb dX1_red_26 rfl (lv_at hl 0 rfl) ?_
    refine lv_ldc2d hx hb hown (hts (.constantDouble RX1 143 (4645040803167600640)) (by decide +kernel)) dX1_red_27 ?_
    have r_8 : fR 4645040803167600640 386547056640 386547056640 := fR_lit (by decide +kernel)
    refine zd_l_ne (tgt := 38) hx hb dX1_red_30 dX1_red_31 (by decide) (fun c_9 => ?_) (fun c_9 => ?_)
    · refine lv_dload_n hx hb dX1_red_38 rfl (lv_at hl 0 rfl) ?_
      exact W.dret hx hb hr (fun t ht _ => ⟨_, rfl, (by unfold RED; rw [if_pos c_3, if_neg c_9]), ht⟩) (fun _ h => nomatch h) dX1_red_39
    · refine lv_dconst0 hx hb dX1_red_34 ?_
      have r_10 : fR FP.dconst0 0 0 := fR_lit (by decide +kernel)
      refine lv_goto (tgt := 39) hx hb dX1_red_35 (by decide) ?_
      exact W.dret hx hb hr (fun t ht _ => ⟨_, rfl, (by unfold RED; rw [if_pos c_3, if_pos c_9]), ht⟩) (fun _ h => nomatch h) dX1_red_39

set_option maxHeartbeats 4000000 in
set_option maxRecDepth 100000 in
theorem k_X2_red (l : Launch) (x0 : UInt64) (h0 : fR x0 (-1208925819614629174706176) 1208925819614629174706176) : Met l yX2_red wsX2_red ({ frames := 0, cells := 0, slots := 0, locals := 0 }) (fun v _ => v = ([.double x0] : List Value).toArray) (vp_Sd (fun r => r = RED x0)) 0 0 (fun _ => False) := by
  refine Met.ofW (cc := cX2_red) (maxL := 6) (ret := (some .double)) (by decide) rfl ?_
  intro p e s m args below meth c s₁ B hml hv
  obtain rfl := hv
  have hx := B.exec
  have hb := B.bytes
  have hr := B.returns
  have hts := atoms_spec (ws := wsX2_red) B.pre
  have hown : s.vm.findClass RX2 = some m.cls := findClass_of_methodNamed B.named
  have hlocks := B.notSynchronized
  have hl := lv_entry ([.double x0]) (n := 6) (Nat.le_of_ble_eq_true rfl)
  rw [lg_entry_eq]
  generalize (lg_sl ([.double x0]) ++ List.replicate (6 - (lg_sl ([.double x0])).length) Slot.unset).toArray = ls at hl ⊢
  have hl : lv_has ls 6 [(0, .double x0)] := hl
  obtain ⟨r1, r2, r3, r4, r5, r6⟩ := rd_all h0
  refine lv_dload_n hx hb dX2_red_0 rfl (lv_at hl 0 rfl) ?_
  refine lv_ldc2d hx hb hown (hts (.constantDouble RX2 114 (4645040803167600640)) (by decide +kernel)) dX2_red_1 ?_
  have r_1 : fR 4645040803167600640 386547056640 386547056640 := fR_lit (by decide +kernel)
  refine lv_ddiv hx hb dX2_red_4 (fR_nn r1) ?_
  refine lv_d2l hx hb dX2_red_5 ?_
  refine lv_l2d hx hb dX2_red_6 ?_
  refine lv_dstore_n (lv' := [(2, .double (FP.l2d (rd_n x0))), (0, .double x0)]) hx hb dX2_red_7 rfl hl (by decide) rfl (fun ls hl => ?_)
  refine lv_dload_n hx hb dX2_red_8 rfl (lv_at hl 1 rfl) ?_
  refine lv_ldc2d hx hb hown (hts (.constantDouble RX2 114 (4645040803167600640)) (by decide +kernel)) dX2_red_9 ?_
  have r_2 : fR 4645040803167600640 386547056640 386547056640 := fR_lit (by decide +kernel)
  refine lv_dload_n hx hb dX2_red_12 rfl (lv_at hl 0 rfl) ?_
  refine lv_dmul hx hb dX2_red_13 (fR_nn r2) ?_
  refine lv_dsub hx hb dX2_red_14 (fR_nn r4) ?_
  refine lv_dstore (lv' := [(4, .double (rd_v x0)), (2, .double (FP.l2d (rd_n x0))), (0, .double x0)]) hx hb dX2_red_15 hl (by decide) rfl (fun ls hl => ?_)
  refine lv_dload hx hb dX2_red_17 (lv_at hl 0 rfl) ?_
  refine lv_dconst0 hx hb dX2_red_19 ?_
  have r_3 : fR FP.dconst0 0 0 := fR_lit (by decide +kernel)
  refine zd_g_ge (tgt := 33) hx hb dX2_red_20 dX2_red_21 (by decide) (fun c_4 => ?_) (fun c_4 => ?_)
  · refine lv_dload hx hb dX2_red_33 (lv_at hl 0 rfl) ?_
    refine lv_dstore (lv' := [(4, .double (rd_v x0)), (2, .double (FP.l2d (rd_n x0))), (0, .double x0)]) hx hb dX2_red_35 hl (by decide) rfl (fun ls hl => ?_)
    refine lv_dload hx hb dX2_red_37 (lv_at hl 0 rfl) ?_
    refine lv_ldc2d hx hb hown (hts (.constantDouble RX2 114 (4645040803167600640)) (by decide +kernel)) dX2_red_39 ?_
    have r_5 : fR 4645040803167600640 386547056640 386547056640 := fR_lit (by decide +kernel)
    refine zd_l_ne (tgt := 50) hx hb dX2_red_42 dX2_red_43 (by decide) (fun c_6 => ?_) (fun c_6 => ?_)
    · refine lv_dload hx hb dX2_red_50 (lv_at hl 0 rfl) ?_
      exact W.dret hx hb hr (fun t ht _ => ⟨_, rfl, (by unfold RED; rw [if_neg c_4, if_neg c_6]), ht⟩) (fun _ h => nomatch h) dX2_red_52
    · refine lv_dconst0 hx hb dX2_red_46 ?_
      have r_7 : fR FP.dconst0 0 0 := fR_lit (by decide +kernel)
      refine lv_goto (tgt := 52) hx hb dX2_red_47 (by decide) ?_
      exact W.dret hx hb hr (fun t ht _ => ⟨_, rfl, (by unfold RED; rw [if_neg c_4, if_pos c_6]), ht⟩) (fun _ h => nomatch h) dX2_red_52
  · refine lv_dload hx hb dX2_red_24 (lv_at hl 0 rfl) ?_
    refine lv_ldc2d hx hb hown (hts (.constantDouble RX2 114 (4645040803167600640)) (by decide +kernel)) dX2_red_26 ?_
    have r_8 : fR 4645040803167600640 386547056640 386547056640 := fR_lit (by decide +kernel)
    refine lv_dadd hx hb dX2_red_29 (fR_nn (r5 c_4)) ?_
    refine lv_goto (tgt := 35) hx hb dX2_red_30 (by decide) ?_
    refine lv_dstore (lv' := [(4, .double (FP.dadd (rd_v x0) 4645040803167600640)), (2, .double (FP.l2d (rd_n x0))), (0, .double x0)]) hx hb dX2_red_35 hl (by decide) rfl (fun ls hl => ?_)
    refine lv_dload hx hb dX2_red_37 (lv_at hl 0 rfl) ?_
    refine lv_ldc2d hx hb hown (hts (.constantDouble RX2 114 (4645040803167600640)) (by decide +kernel)) dX2_red_39 ?_
    have r_9 : fR 4645040803167600640 386547056640 386547056640 := fR_lit (by decide +kernel)
    refine zd_l_ne (tgt := 50) hx hb dX2_red_42 dX2_red_43 (by decide) (fun c_10 => ?_) (fun c_10 => ?_)
    · refine lv_dload hx hb dX2_red_50 (lv_at hl 0 rfl) ?_
      exact W.dret hx hb hr (fun t ht _ => ⟨_, rfl, (by unfold RED; rw [if_pos c_4, if_neg c_10]), ht⟩) (fun _ h => nomatch h) dX2_red_52
    · refine lv_dconst0 hx hb dX2_red_46 ?_
      have r_11 : fR FP.dconst0 0 0 := fR_lit (by decide +kernel)
      refine lv_goto (tgt := 52) hx hb dX2_red_47 (by decide) ?_
      exact W.dret hx hb hr (fun t ht _ => ⟨_, rfl, (by unfold RED; rw [if_pos c_4, if_pos c_10]), ht⟩) (fun _ h => nomatch h) dX2_red_52

abbrev cRad : UInt64 := 4580687790476533049
def wv_r (x : UInt64) : UInt64 := FP.dmul (FP.dsub x (FP.dmul c90 (FP.l2d (FP.d2l (wv_z x))))) cRad
def wv_q (x : UInt64) : UInt64 := FP.dmul (wv_r x) (wv_r x)
def wv_u (x : UInt64) : UInt64 := FP.dmul (wv_r x) (FP.dadd FP.dconst1 (FP.dmul (wv_q x) (FP.dadd 13818544856648471893 (FP.dmul (wv_q x) (FP.dadd 4575957461383581969 (FP.dmul (wv_q x) (FP.dadd 13774824197408792602 (FP.dmul (wv_q x) 4523617214285662004))))))))
def wv_v (x : UInt64) : UInt64 := FP.dadd FP.dconst1 (FP.dmul (wv_q x) (FP.dadd 13826050856027422720 (FP.dmul (wv_q x) (FP.dadd 4586165620538955093 (FP.dmul (wv_q x) (FP.dadd 13787419979223755799 (FP.dmul (wv_q x) (FP.dadd 4537941361671905306 (FP.dmul (wv_q x) 13732177094651715420)))))))))
set_option maxRecDepth 100000 in
theorem wv_uv {x0 : UInt64} (h0 : fR x0 0 386547056640) : fR (wv_u x0) (-862055226) 862055226 ∧ fR (wv_v x0) 727690661 1073741824 := by
  obtain ⟨⟨w1, w2, w3⟩, w4⟩ := wv_k h0
  have r_1 : fR 4636033603912859648 96636764160 96636764160 := fR_lit (by decide +kernel)
  have r_2 := fR_div h0 r_1 (by decide) 0 4294967296 (by decide) (by decide) rfl rfl
  have r_3 : fR 4602678819172646912 536870912 536870912 := fR_lit (by decide +kernel)
  have r_4 := fR_add r_2 r_3 536870912 4831838208 (by decide) (by decide) rfl rfl
  have r_5 : fR 4580687790476533049 18740330 18740331 := fR_lit (by decide +kernel)
  have r_6 := fR_mul w3 r_5 (-862055226) 862055226 (by decide) (by decide) rfl rfl
  have r_7 := fR_sq r_6 692102325 (by decide) rfl
  have r_8 : fR FP.dconst1 1073741824 1073741824 := fR_lit (by decide +kernel)
  have r_9 : fR 13818544856648471893 (-178956971) (-178956970) := fR_lit (by decide +kernel)
  have r_10 : fR 4575957461383581969 8947848 8947849 := fR_lit (by decide +kernel)
  have r_11 : fR 13774824197408792602 (-213045) (-213044) := fR_lit (by decide +kernel)
  have r_12 : fR 4523617214285662004 2958 2959 := fR_lit (by decide +kernel)
  have r_13 := fR_mul r_7 r_12 0 1908 (by decide) (by decide) rfl rfl
  have r_14 := fR_add r_11 r_13 (-213045) (-211136) (by decide) (by decide) rfl rfl
  have r_15 := fR_mul r_7 r_14 (-137323) 0 (by decide) (by decide) rfl rfl
  have r_16 := fR_add r_10 r_15 8810525 8947849 (by decide) (by decide) rfl rfl
  have r_17 := fR_mul r_7 r_16 0 5767520 (by decide) (by decide) rfl rfl
  have r_18 := fR_add r_9 r_17 (-178956971) (-173189450) (by decide) (by decide) rfl rfl
  have r_19 := fR_mul r_7 r_18 (-115350388) 0 (by decide) (by decide) rfl rfl
  have r_20 := fR_add r_8 r_19 958391436 1073741824 (by decide) (by decide) rfl rfl
  have r_21 := fR_mul r_6 r_20 (-862055226) 862055226 (by decide) (by decide) rfl rfl
  have r_22 : fR FP.dconst1 1073741824 1073741824 := fR_lit (by decide +kernel)
  have r_23 : fR 13826050856027422720 (-536870912) (-536870912) := fR_lit (by decide +kernel)
  have r_24 : fR 4586165620538955093 44739242 44739243 := fR_lit (by decide +kernel)
  have r_25 : fR 13787419979223755799 (-1491309) (-1491308) := fR_lit (by decide +kernel)
  have r_26 : fR 4537941361671905306 26630 26631 := fR_lit (by decide +kernel)
  have r_27 : fR 13732177094651715420 (-296) (-295) := fR_lit (by decide +kernel)
  have r_28 := fR_mul r_7 r_27 (-191) 0 (by decide) (by decide) rfl rfl
  have r_29 := fR_add r_26 r_28 26439 26631 (by decide) (by decide) rfl rfl
  have r_30 := fR_mul r_7 r_29 0 17166 (by decide) (by decide) rfl rfl
  have r_31 := fR_add r_25 r_30 (-1491309) (-1474142) (by decide) (by decide) rfl rfl
  have r_32 := fR_mul r_7 r_31 (-961254) 0 (by decide) (by decide) rfl rfl
  have r_33 := fR_add r_24 r_32 43777988 44739243 (by decide) (by decide) rfl rfl
  have r_34 := fR_mul r_7 r_33 0 28837598 (by decide) (by decide) rfl rfl
  have r_35 := fR_add r_23 r_34 (-536870912) (-508033314) (by decide) (by decide) rfl rfl
  have r_36 := fR_mul r_7 r_35 (-346051163) 0 (by decide) (by decide) rfl rfl
  have r_37 := fR_add r_22 r_36 727690661 1073741824 (by decide) (by decide) rfl rfl
  exact ⟨r_21, r_37⟩
def f_X1_waveAt_108_0 (x0 : UInt64) (x1 : Int32) : Int32 := ((FP.d2i (wv_z x0)) + x1) - ((FP.d2i (wv_z x0)) + x1) / 4 * 4
def f_X1_waveAt (x0 : UInt64) (x1 : Int32) : UInt64 := if ((f_X1_waveAt_108_0 x0 x1) - (f_X1_waveAt_108_0 x0 x1) / 2 * 2) = 0 then (if 2 ≤ (f_X1_waveAt_108_0 x0 x1) then (FP.dneg (wv_u x0)) else (wv_u x0)) else (if 2 ≤ (f_X1_waveAt_108_0 x0 x1) then (FP.dneg (wv_v x0)) else (wv_v x0))
set_option maxHeartbeats 4000000 in
set_option maxRecDepth 100000 in
theorem k_X1_waveAt (l : Launch) (x0 : UInt64) (x1 : Int32) (h0 : fR x0 0 386547056640) : Met l yX1_waveAt wsX1_waveAt ({ frames := 0, cells := 0, slots := 0, locals := 0 }) (fun v _ => v = ([.double x0, .int x1] : List Value).toArray) (vp_Sd (fun r => r = f_X1_waveAt x0 x1)) 0 0 (fun _ => False) := by
  refine Met.ofW (cc := cX1_waveAt) (maxL := 15) (ret := (some .double)) (by decide) rfl ?_
  intro p e s m args below meth c s₁ B hml hv
  obtain rfl := hv
  have hx := B.exec
  have hb := B.bytes
  have hr := B.returns
  have hts := atoms_spec (ws := wsX1_waveAt) B.pre
  have hown : s.vm.findClass RX1 = some m.cls := findClass_of_methodNamed B.named
  have hlocks := B.notSynchronized
  have hl := lv_entry ([.double x0, .int x1]) (n := 15) (Nat.le_of_ble_eq_true rfl)
  rw [lg_entry_eq]
  generalize (lg_sl ([.double x0, .int x1]) ++ List.replicate (15 - (lg_sl ([.double x0, .int x1])).length) Slot.unset).toArray = ls at hl ⊢
  have hl : lv_has ls 15 [(0, .double x0), (2, .int x1)] := hl
  obtain ⟨⟨w1, w2, w3⟩, w4⟩ := wv_k h0
  refine lv_dload_n hx hb dX1_waveAt_0 rfl (lv_at hl 0 rfl) ?_
  refine lv_ldc2d hx hb hown (hts (.constantDouble RX1 206 (4636033603912859648)) (by decide +kernel)) dX1_waveAt_1 ?_
  have r_1 : fR 4636033603912859648 96636764160 96636764160 := fR_lit (by decide +kernel)
  have r_2 := fR_div h0 r_1 (by decide) 0 4294967296 (by decide) (by decide) rfl rfl
  refine lv_ddiv hx hb dX1_waveAt_4 (fR_nn r_2) ?_
  refine lv_ldc2d hx hb hown (hts (.constantDouble RX1 249 (4602678819172646912)) (by decide +kernel)) dX1_waveAt_5 ?_
  have r_3 : fR 4602678819172646912 536870912 536870912 := fR_lit (by decide +kernel)
  have r_4 := fR_add r_2 r_3 536870912 4831838208 (by decide) (by decide) rfl rfl
  refine lv_dadd hx hb dX1_waveAt_8 (fR_nn r_4) ?_
  refine lv_d2i hx hb dX1_waveAt_9 ?_
  refine lv_istore_n (lv' := [(3, .int (FP.d2i (wv_z x0))), (0, .double x0), (2, .int x1)]) hx hb dX1_waveAt_10 rfl hl (by decide) rfl (fun ls hl => ?_)
  refine lv_dload_n hx hb dX1_waveAt_11 rfl (lv_at hl 1 rfl) ?_
  refine lv_bipush (v := 90) hx hb dX1_waveAt_12 (by decide) ?_
  refine lv_iload_n hx hb dX1_waveAt_14 rfl (lv_at hl 0 rfl) ?_
  refine lv_imul hx hb dX1_waveAt_15 ?_
  refine lv_i2d hx hb dX1_waveAt_16 ?_
  rw [w1]
  refine lv_dsub hx hb dX1_waveAt_17 (fR_nn w3) ?_
  refine lv_ldc2d hx hb hown (hts (.constantDouble RX1 371 (4580687790476533049)) (by decide +kernel)) dX1_waveAt_18 ?_
  have r_5 : fR 4580687790476533049 18740330 18740331 := fR_lit (by decide +kernel)
  have r_6 := fR_mul w3 r_5 (-862055226) 862055226 (by decide) (by decide) rfl rfl
  refine lv_dmul hx hb dX1_waveAt_21 (fR_nn r_6) ?_
  refine lv_dstore (lv' := [(4, .double (wv_r x0)), (3, .int (FP.d2i (wv_z x0))), (0, .double x0), (2, .int x1)]) hx hb dX1_waveAt_22 hl (by decide) rfl (fun ls hl => ?_)
  refine lv_dload hx hb dX1_waveAt_24 (lv_at hl 0 rfl) ?_
  refine lv_dload hx hb dX1_waveAt_26 (lv_at hl 0 rfl) ?_
  have r_7 := fR_sq r_6 692102325 (by decide) rfl
  refine lv_dmul hx hb dX1_waveAt_28 (fR_nn r_7) ?_
  refine lv_dstore (lv' := [(6, .double (wv_q x0)), (4, .double (wv_r x0)), (3, .int (FP.d2i (wv_z x0))), (0, .double x0), (2, .int x1)]) hx hb dX1_waveAt_29 hl (by decide) rfl (fun ls hl => ?_)
  refine lv_dload hx hb dX1_waveAt_31 (lv_at hl 1 rfl) ?_
  refine lv_dconst1 hx hb dX1_waveAt_33 ?_
  have r_8 : fR FP.dconst1 1073741824 1073741824 := fR_lit (by decide +kernel)
  refine lv_dload hx hb dX1_waveAt_34 (lv_at hl 0 rfl) ?_
  refine lv_ldc2d hx hb hown (hts (.constantDouble RX1 373 (13818544856648471893)) (by decide +kernel)) dX1_waveAt_36 ?_
  have r_9 : fR 13818544856648471893 (-178956971) (-178956970) := fR_lit (by decide +kernel)
  refine lv_dload hx hb dX1_waveAt_39 (lv_at hl 0 rfl) ?_
  refine lv_ldc2d hx hb hown (hts (.constantDouble RX1 375 (4575957461383581969)) (by decide +kernel)) dX1_waveAt_41 ?_
  have r_10 : fR 4575957461383581969 8947848 8947849 := fR_lit (by decide +kernel)
  refine lv_dload hx hb dX1_waveAt_44 (lv_at hl 0 rfl) ?_
  refine lv_ldc2d hx hb hown (hts (.constantDouble RX1 377 (13774824197408792602)) (by decide +kernel)) dX1_waveAt_46 ?_
  have r_11 : fR 13774824197408792602 (-213045) (-213044) := fR_lit (by decide +kernel)
  refine lv_dload hx hb dX1_waveAt_49 (lv_at hl 0 rfl) ?_
  refine lv_ldc2d hx hb hown (hts (.constantDouble RX1 379 (4523617214285662004)) (by decide +kernel)) dX1_waveAt_51 ?_
  have r_12 : fR 4523617214285662004 2958 2959 := fR_lit (by decide +kernel)
  have r_13 := fR_mul r_7 r_12 0 1908 (by decide) (by decide) rfl rfl
  refine lv_dmul hx hb dX1_waveAt_54 (fR_nn r_13) ?_
  have r_14 := fR_add r_11 r_13 (-213045) (-211136) (by decide) (by decide) rfl rfl
  refine lv_dadd hx hb dX1_waveAt_55 (fR_nn r_14) ?_
  have r_15 := fR_mul r_7 r_14 (-137323) 0 (by decide) (by decide) rfl rfl
  refine lv_dmul hx hb dX1_waveAt_56 (fR_nn r_15) ?_
  have r_16 := fR_add r_10 r_15 8810525 8947849 (by decide) (by decide) rfl rfl
  refine lv_dadd hx hb dX1_waveAt_57 (fR_nn r_16) ?_
  have r_17 := fR_mul r_7 r_16 0 5767520 (by decide) (by decide) rfl rfl
  refine lv_dmul hx hb dX1_waveAt_58 (fR_nn r_17) ?_
  have r_18 := fR_add r_9 r_17 (-178956971) (-173189450) (by decide) (by decide) rfl rfl
  refine lv_dadd hx hb dX1_waveAt_59 (fR_nn r_18) ?_
  have r_19 := fR_mul r_7 r_18 (-115350388) 0 (by decide) (by decide) rfl rfl
  refine lv_dmul hx hb dX1_waveAt_60 (fR_nn r_19) ?_
  have r_20 := fR_add r_8 r_19 958391436 1073741824 (by decide) (by decide) rfl rfl
  refine lv_dadd hx hb dX1_waveAt_61 (fR_nn r_20) ?_
  have r_21 := fR_mul r_6 r_20 (-862055226) 862055226 (by decide) (by decide) rfl rfl
  refine lv_dmul hx hb dX1_waveAt_62 (fR_nn r_21) ?_
  refine lv_dstore (lv' := [(8, .double (wv_u x0)), (6, .double (wv_q x0)), (4, .double (wv_r x0)), (3, .int (FP.d2i (wv_z x0))), (0, .double x0), (2, .int x1)]) hx hb dX1_waveAt_63 hl (by decide) rfl (fun ls hl => ?_)
  refine lv_dconst1 hx hb dX1_waveAt_65 ?_
  have r_22 : fR FP.dconst1 1073741824 1073741824 := fR_lit (by decide +kernel)
  refine lv_dload hx hb dX1_waveAt_66 (lv_at hl 1 rfl) ?_
  refine lv_ldc2d hx hb hown (hts (.constantDouble RX1 381 (13826050856027422720)) (by decide +kernel)) dX1_waveAt_68 ?_
  have r_23 : fR 13826050856027422720 (-536870912) (-536870912) := fR_lit (by decide +kernel)
  refine lv_dload hx hb dX1_waveAt_71 (lv_at hl 1 rfl) ?_
  refine lv_ldc2d hx hb hown (hts (.constantDouble RX1 383 (4586165620538955093)) (by decide +kernel)) dX1_waveAt_73 ?_
  have r_24 : fR 4586165620538955093 44739242 44739243 := fR_lit (by decide +kernel)
  refine lv_dload hx hb dX1_waveAt_76 (lv_at hl 1 rfl) ?_
  refine lv_ldc2d hx hb hown (hts (.constantDouble RX1 385 (13787419979223755799)) (by decide +kernel)) dX1_waveAt_78 ?_
  have r_25 : fR 13787419979223755799 (-1491309) (-1491308) := fR_lit (by decide +kernel)
  refine lv_dload hx hb dX1_waveAt_81 (lv_at hl 1 rfl) ?_
  refine lv_ldc2d hx hb hown (hts (.constantDouble RX1 387 (4537941361671905306)) (by decide +kernel)) dX1_waveAt_83 ?_
  have r_26 : fR 4537941361671905306 26630 26631 := fR_lit (by decide +kernel)
  refine lv_dload hx hb dX1_waveAt_86 (lv_at hl 1 rfl) ?_
  refine lv_ldc2d hx hb hown (hts (.constantDouble RX1 389 (13732177094651715420)) (by decide +kernel)) dX1_waveAt_88 ?_
  have r_27 : fR 13732177094651715420 (-296) (-295) := fR_lit (by decide +kernel)
  have r_28 := fR_mul r_7 r_27 (-191) 0 (by decide) (by decide) rfl rfl
  refine lv_dmul hx hb dX1_waveAt_91 (fR_nn r_28) ?_
  have r_29 := fR_add r_26 r_28 26439 26631 (by decide) (by decide) rfl rfl
  refine lv_dadd hx hb dX1_waveAt_92 (fR_nn r_29) ?_
  have r_30 := fR_mul r_7 r_29 0 17166 (by decide) (by decide) rfl rfl
  refine lv_dmul hx hb dX1_waveAt_93 (fR_nn r_30) ?_
  have r_31 := fR_add r_25 r_30 (-1491309) (-1474142) (by decide) (by decide) rfl rfl
  refine lv_dadd hx hb dX1_waveAt_94 (fR_nn r_31) ?_
  have r_32 := fR_mul r_7 r_31 (-961254) 0 (by decide) (by decide) rfl rfl
  refine lv_dmul hx hb dX1_waveAt_95 (fR_nn r_32) ?_
  have r_33 := fR_add r_24 r_32 43777988 44739243 (by decide) (by decide) rfl rfl
  refine lv_dadd hx hb dX1_waveAt_96 (fR_nn r_33) ?_
  have r_34 := fR_mul r_7 r_33 0 28837598 (by decide) (by decide) rfl rfl
  refine lv_dmul hx hb dX1_waveAt_97 (fR_nn r_34) ?_
  have r_35 := fR_add r_23 r_34 (-536870912) (-508033314) (by decide) (by decide) rfl rfl
  refine lv_dadd hx hb dX1_waveAt_98 (fR_nn r_35) ?_
  have r_36 := fR_mul r_7 r_35 (-346051163) 0 (by decide) (by decide) rfl rfl
  refine lv_dmul hx hb dX1_waveAt_99 (fR_nn r_36) ?_
  have r_37 := fR_add r_22 r_36 727690661 1073741824 (by decide) (by decide) rfl rfl
  refine lv_dadd hx hb dX1_waveAt_100 (fR_nn r_37) ?_
  refine lv_dstore (lv' := [(10, .double (wv_v x0)), (8, .double (wv_u x0)), (6, .double (wv_q x0)), (4, .double (wv_r x0)), (3, .int (FP.d2i (wv_z x0))), (0, .double x0), (2, .int x1)]) hx hb dX1_waveAt_101 hl (by decide) rfl (fun ls hl => ?_)
  refine lv_iload_n hx hb dX1_waveAt_103 rfl (lv_at hl 4 rfl) ?_
  refine lv_iload_n hx hb dX1_waveAt_104 rfl (lv_at hl 6 rfl) ?_
  refine lv_iadd hx hb dX1_waveAt_105 ?_
  refine lv_iconst (v := 4) hx hb dX1_waveAt_106 (by decide) ?_
  refine lv_irem hx hb dX1_waveAt_107 (by decide) ?_
  refine lv_istore (lv' := [(12, .int (f_X1_waveAt_108_0 x0 x1)), (10, .double (wv_v x0)), (8, .double (wv_u x0)), (6, .double (wv_q x0)), (4, .double (wv_r x0)), (3, .int (FP.d2i (wv_z x0))), (0, .double x0), (2, .int x1)]) hx hb dX1_waveAt_108 hl (by decide) rfl (fun ls hl => ?_)
  refine lv_iload hx hb dX1_waveAt_110 (lv_at hl 0 rfl) ?_
  refine lv_iconst (v := 2) hx hb dX1_waveAt_112 (by decide) ?_
  refine lv_irem hx hb dX1_waveAt_113 (by decide) ?_
  refine lv_if_ne (tgt := 122) hx hb dX1_waveAt_114 (by decide) (fun c_38 => ?_) (fun c_38 => ?_)
  · refine lv_dload hx hb dX1_waveAt_122 (lv_at hl 1 rfl) ?_
    refine lv_dstore (lv' := [(13, .double (wv_v x0)), (12, .int (f_X1_waveAt_108_0 x0 x1)), (10, .double (wv_v x0)), (8, .double (wv_u x0)), (6, .double (wv_q x0)), (4, .double (wv_r x0)), (3, .int (FP.d2i (wv_z x0))), (0, .double x0), (2, .int x1)]) hx hb dX1_waveAt_124 hl (by decide) rfl (fun ls hl => ?_)
    refine lv_iload hx hb dX1_waveAt_126 (lv_at hl 1 rfl) ?_
    refine lv_iconst (v := 2) hx hb dX1_waveAt_128 (by decide) ?_
    refine lv_icmp_ge (tgt := 137) hx hb dX1_waveAt_129 (by decide) (fun c_39 => ?_) (fun c_39 => ?_)
    · refine lv_dload hx hb dX1_waveAt_137 (lv_at hl 0 rfl) ?_
      have r_40 := fR_neg r_37
      refine lv_dneg hx hb dX1_waveAt_139 ?_
      exact W.dret hx hb hr (fun t ht _ => ⟨_, rfl, (by unfold f_X1_waveAt; rw [if_neg c_38, if_pos c_39]), ht⟩) (fun _ h => nomatch h) dX1_waveAt_140
    · refine lv_dload hx hb dX1_waveAt_132 (lv_at hl 0 rfl) ?_
      refine lv_goto (tgt := 140) hx hb dX1_waveAt_134 (by decide) ?_
      exact W.dret hx hb hr (fun t ht _ => ⟨_, rfl, (by unfold f_X1_waveAt; rw [if_neg c_38, if_neg c_39]), ht⟩) (fun _ h => nomatch h) dX1_waveAt_140
  · refine lv_dload hx hb dX1_waveAt_117 (lv_at hl 2 rfl) ?_
    refine lv_goto (tgt := 124) hx hb dX1_waveAt_119 (by decide) ?_
    refine lv_dstore (lv' := [(13, .double (wv_u x0)), (12, .int (f_X1_waveAt_108_0 x0 x1)), (10, .double (wv_v x0)), (8, .double (wv_u x0)), (6, .double (wv_q x0)), (4, .double (wv_r x0)), (3, .int (FP.d2i (wv_z x0))), (0, .double x0), (2, .int x1)]) hx hb dX1_waveAt_124 hl (by decide) rfl (fun ls hl => ?_)
    refine lv_iload hx hb dX1_waveAt_126 (lv_at hl 1 rfl) ?_
    refine lv_iconst (v := 2) hx hb dX1_waveAt_128 (by decide) ?_
    refine lv_icmp_ge (tgt := 137) hx hb dX1_waveAt_129 (by decide) (fun c_41 => ?_) (fun c_41 => ?_)
    · refine lv_dload hx hb dX1_waveAt_137 (lv_at hl 0 rfl) ?_
      have r_42 := fR_neg r_21
      refine lv_dneg hx hb dX1_waveAt_139 ?_
      exact W.dret hx hb hr (fun t ht _ => ⟨_, rfl, (by unfold f_X1_waveAt; rw [if_pos c_38, if_pos c_41]), ht⟩) (fun _ h => nomatch h) dX1_waveAt_140
    · refine lv_dload hx hb dX1_waveAt_132 (lv_at hl 0 rfl) ?_
      refine lv_goto (tgt := 140) hx hb dX1_waveAt_134 (by decide) ?_
      exact W.dret hx hb hr (fun t ht _ => ⟨_, rfl, (by unfold f_X1_waveAt; rw [if_pos c_38, if_neg c_41]), ht⟩) (fun _ h => nomatch h) dX1_waveAt_140

def SIN (x0 : UInt64) : UInt64 := f_X1_waveAt (RED x0) 0
set_option maxHeartbeats 4000000 in
set_option maxRecDepth 100000 in
theorem k_X1_sine (l : Launch) (x0 : UInt64) (h0 : fR x0 (-1208925819614629174706176) 1208925819614629174706176) : Met l yX1_sine wsX1_sine ({ frames := 1, cells := 0, slots := 0, locals := 34 }) (fun v _ => v = ([.double x0] : List Value).toArray) (vp_Sd (fun r => r = SIN x0)) 0 0 (fun _ => False) := by
  refine Met.ofW (cc := cX1_sine) (maxL := 2) (ret := (some .double)) (by decide) rfl ?_
  intro p e s m args below meth c s₁ B hml hv
  obtain rfl := hv
  have hx := B.exec
  have hb := B.bytes
  have hr := B.returns
  have hts := atoms_spec (ws := wsX1_sine) B.pre
  have hown : s.vm.findClass RX1 = some m.cls := findClass_of_methodNamed B.named
  have hlocks := B.notSynchronized
  have hl := lv_entry ([.double x0]) (n := 2) (Nat.le_of_ble_eq_true rfl)
  rw [lg_entry_eq]
  generalize (lg_sl ([.double x0]) ++ List.replicate (2 - (lg_sl ([.double x0])).length) Slot.unset).toArray = ls at hl ⊢
  have hl : lv_has ls 2 [(0, .double x0)] := hl
  refine lv_dload_n hx hb dX1_sine_0 rfl (lv_at hl 0 rfl) ?_
  refine vp_callSd (W.runS (As := [.double x0]) (rest := []) ⟨hx, hb, hml, hown, hts⟩ (k_X1_red l x0 h0) (va_cwS 1 hts gX1_sine_X1_red rfl rfl rfl (by decide +kernel) ⟨Nat.le_of_ble_eq_true rfl, Nat.le_of_ble_eq_true rfl⟩) preEq rfl rfl hl.1 rfl (lv_room (Nat.le_of_ble_eq_true rfl)) dX1_sine_1 ⟨Nat.zero_le _, Nat.zero_le _⟩) (fun r hr9 => ?_)
  obtain rfl := hr9
  have r_1 := RED_R h0
  refine lv_iconst (v := 0) hx hb dX1_sine_4 (by decide) ?_
  refine vp_callSd (W.runS (As := [.double (RED x0), .int 0]) (rest := []) ⟨hx, hb, hml, hown, hts⟩ (k_X1_waveAt l (RED x0) 0 r_1) (va_cwS 2 hts gX1_sine_X1_waveAt rfl rfl rfl (by decide +kernel) ⟨Nat.le_of_ble_eq_true rfl, Nat.le_of_ble_eq_true rfl⟩) preEq rfl rfl hl.1 rfl (lv_room (Nat.le_of_ble_eq_true rfl)) dX1_sine_5 ⟨Nat.zero_le _, Nat.zero_le _⟩) (fun r hr9 => ?_)
  obtain rfl := hr9
  exact W.dret hx hb hr (fun t ht _ => ⟨_, rfl, rfl, ht⟩) (fun _ h => nomatch h) dX1_sine_8

def COS (x0 : UInt64) : UInt64 := f_X1_waveAt (RED x0) 1
set_option maxHeartbeats 4000000 in
set_option maxRecDepth 100000 in
theorem k_X1_cosine (l : Launch) (x0 : UInt64) (h0 : fR x0 (-1208925819614629174706176) 1208925819614629174706176) : Met l yX1_cosine wsX1_cosine ({ frames := 1, cells := 0, slots := 0, locals := 34 }) (fun v _ => v = ([.double x0] : List Value).toArray) (vp_Sd (fun r => r = COS x0)) 0 0 (fun _ => False) := by
  refine Met.ofW (cc := cX1_cosine) (maxL := 2) (ret := (some .double)) (by decide) rfl ?_
  intro p e s m args below meth c s₁ B hml hv
  obtain rfl := hv
  have hx := B.exec
  have hb := B.bytes
  have hr := B.returns
  have hts := atoms_spec (ws := wsX1_cosine) B.pre
  have hown : s.vm.findClass RX1 = some m.cls := findClass_of_methodNamed B.named
  have hlocks := B.notSynchronized
  have hl := lv_entry ([.double x0]) (n := 2) (Nat.le_of_ble_eq_true rfl)
  rw [lg_entry_eq]
  generalize (lg_sl ([.double x0]) ++ List.replicate (2 - (lg_sl ([.double x0])).length) Slot.unset).toArray = ls at hl ⊢
  have hl : lv_has ls 2 [(0, .double x0)] := hl
  refine lv_dload_n hx hb dX1_cosine_0 rfl (lv_at hl 0 rfl) ?_
  refine vp_callSd (W.runS (As := [.double x0]) (rest := []) ⟨hx, hb, hml, hown, hts⟩ (k_X1_red l x0 h0) (va_cwS 1 hts gX1_cosine_X1_red rfl rfl rfl (by decide +kernel) ⟨Nat.le_of_ble_eq_true rfl, Nat.le_of_ble_eq_true rfl⟩) preEq rfl rfl hl.1 rfl (lv_room (Nat.le_of_ble_eq_true rfl)) dX1_cosine_1 ⟨Nat.zero_le _, Nat.zero_le _⟩) (fun r hr9 => ?_)
  obtain rfl := hr9
  have r_1 := RED_R h0
  refine lv_iconst (v := 1) hx hb dX1_cosine_4 (by decide) ?_
  refine vp_callSd (W.runS (As := [.double (RED x0), .int 1]) (rest := []) ⟨hx, hb, hml, hown, hts⟩ (k_X1_waveAt l (RED x0) 1 r_1) (va_cwS 2 hts gX1_cosine_X1_waveAt rfl rfl rfl (by decide +kernel) ⟨Nat.le_of_ble_eq_true rfl, Nat.le_of_ble_eq_true rfl⟩) preEq rfl rfl hl.1 rfl (lv_room (Nat.le_of_ble_eq_true rfl)) dX1_cosine_5 ⟨Nat.zero_le _, Nat.zero_le _⟩) (fun r hr9 => ?_)
  obtain rfl := hr9
  exact W.dret hx hb hr (fun t ht _ => ⟨_, rfl, rfl, ht⟩) (fun _ h => nomatch h) dX1_cosine_8

def f_X2_wave_117_0 (x0 : UInt64) : Int64 := (FP.d2l (wv_z (RED x0))) - (FP.d2l (wv_z (RED x0))) / 4 * 4
def f_X2_wave (x0 : UInt64) (x1 : Int32) : UInt64 := if x1 = 0 then (if (f_X2_wave_117_0 x0) = 0 then (wv_v (RED x0)) else (if (f_X2_wave_117_0 x0) = 1 then (FP.dneg (wv_u (RED x0))) else (if (f_X2_wave_117_0 x0) = 2 then (FP.dneg (wv_v (RED x0))) else (wv_u (RED x0))))) else (if (f_X2_wave_117_0 x0) = 0 then (wv_u (RED x0)) else (if (f_X2_wave_117_0 x0) = 1 then (wv_v (RED x0)) else (if (f_X2_wave_117_0 x0) = 2 then (FP.dneg (wv_u (RED x0))) else (FP.dneg (wv_v (RED x0))))))
set_option maxHeartbeats 4000000 in
set_option maxRecDepth 100000 in
theorem k_X2_wave (l : Launch) (x0 : UInt64) (x1 : Int32) (h0 : fR x0 (-1208925819614629174706176) 1208925819614629174706176) : Met l yX2_wave wsX2_wave ({ frames := 1, cells := 0, slots := 0, locals := 25 }) (fun v _ => v = ([.double x0, .int x1] : List Value).toArray) (vp_Sd (fun r => r = f_X2_wave x0 x1)) 0 0 (fun _ => False) := by
  refine Met.ofW (cc := cX2_wave) (maxL := 17) (ret := (some .double)) (by decide) rfl ?_
  intro p e s m args below meth c s₁ B hml hv
  obtain rfl := hv
  have hx := B.exec
  have hb := B.bytes
  have hr := B.returns
  have hts := atoms_spec (ws := wsX2_wave) B.pre
  have hown : s.vm.findClass RX2 = some m.cls := findClass_of_methodNamed B.named
  have hlocks := B.notSynchronized
  have hl := lv_entry ([.double x0, .int x1]) (n := 17) (Nat.le_of_ble_eq_true rfl)
  rw [lg_entry_eq]
  generalize (lg_sl ([.double x0, .int x1]) ++ List.replicate (17 - (lg_sl ([.double x0, .int x1])).length) Slot.unset).toArray = ls at hl ⊢
  have hl : lv_has ls 17 [(0, .double x0), (2, .int x1)] := hl
  obtain ⟨⟨w1, w2, w3⟩, w4⟩ := wv_k (RED_R h0)
  refine lv_dload_n hx hb dX2_wave_0 rfl (lv_at hl 0 rfl) ?_
  refine vp_callSd (W.runS (As := [.double x0]) (rest := []) ⟨hx, hb, hml, hown, hts⟩ (k_X2_red l x0 h0) (va_cwS 1 hts gX2_wave_X2_red rfl rfl rfl (by decide +kernel) ⟨Nat.le_of_ble_eq_true rfl, Nat.le_of_ble_eq_true rfl⟩) preEq rfl rfl hl.1 rfl (lv_room (Nat.le_of_ble_eq_true rfl)) dX2_wave_1 ⟨Nat.zero_le _, Nat.zero_le _⟩) (fun r hr9 => ?_)
  obtain rfl := hr9
  have r_1 := RED_R h0
  refine lv_dstore_n (lv' := [(3, .double (RED x0)), (0, .double x0), (2, .int x1)]) hx hb dX2_wave_4 rfl hl (by decide) rfl (fun ls hl => ?_)
  refine lv_dload_n hx hb dX2_wave_5 rfl (lv_at hl 0 rfl) ?_
  refine lv_ldc2d hx hb hown (hts (.constantDouble RX2 120 (4636033603912859648)) (by decide +kernel)) dX2_wave_6 ?_
  have r_2 : fR 4636033603912859648 96636764160 96636764160 := fR_lit (by decide +kernel)
  have r_3 := fR_div r_1 r_2 (by decide) 0 4294967296 (by decide) (by decide) rfl rfl
  refine lv_ddiv hx hb dX2_wave_9 (fR_nn r_3) ?_
  refine lv_ldc2d hx hb hown (hts (.constantDouble RX2 122 (4602678819172646912)) (by decide +kernel)) dX2_wave_10 ?_
  have r_4 : fR 4602678819172646912 536870912 536870912 := fR_lit (by decide +kernel)
  have r_5 := fR_add r_3 r_4 536870912 4831838208 (by decide) (by decide) rfl rfl
  refine lv_dadd hx hb dX2_wave_13 (fR_nn r_5) ?_
  refine lv_d2l hx hb dX2_wave_14 ?_
  refine lv_lstore (lv' := [(5, .long (FP.d2l (wv_z (RED x0)))), (3, .double (RED x0)), (0, .double x0), (2, .int x1)]) hx hb dX2_wave_15 hl (by decide) rfl (fun ls hl => ?_)
  refine lv_dload_n hx hb dX2_wave_17 rfl (lv_at hl 1 rfl) ?_
  refine lv_ldc2d hx hb hown (hts (.constantDouble RX2 120 (4636033603912859648)) (by decide +kernel)) dX2_wave_18 ?_
  have r_6 : fR 4636033603912859648 96636764160 96636764160 := fR_lit (by decide +kernel)
  refine lv_lload hx hb dX2_wave_21 (lv_at hl 0 rfl) ?_
  refine lv_l2d hx hb dX2_wave_23 ?_
  refine lv_dmul hx hb dX2_wave_24 (fR_nn w2) ?_
  refine lv_dsub hx hb dX2_wave_25 (fR_nn w3) ?_
  refine lv_ldc2d hx hb hown (hts (.constantDouble RX2 124 (4580687790476533049)) (by decide +kernel)) dX2_wave_26 ?_
  have r_7 : fR 4580687790476533049 18740330 18740331 := fR_lit (by decide +kernel)
  have r_8 := fR_mul w3 r_7 (-862055226) 862055226 (by decide) (by decide) rfl rfl
  refine lv_dmul hx hb dX2_wave_29 (fR_nn r_8) ?_
  refine lv_dstore (lv' := [(7, .double (wv_r (RED x0))), (5, .long (FP.d2l (wv_z (RED x0)))), (3, .double (RED x0)), (0, .double x0), (2, .int x1)]) hx hb dX2_wave_30 hl (by decide) rfl (fun ls hl => ?_)
  refine lv_dload hx hb dX2_wave_32 (lv_at hl 0 rfl) ?_
  refine lv_dload hx hb dX2_wave_34 (lv_at hl 0 rfl) ?_
  have r_9 := fR_sq r_8 692102325 (by decide) rfl
  refine lv_dmul hx hb dX2_wave_36 (fR_nn r_9) ?_
  refine lv_dstore (lv' := [(9, .double (wv_q (RED x0))), (7, .double (wv_r (RED x0))), (5, .long (FP.d2l (wv_z (RED x0)))), (3, .double (RED x0)), (0, .double x0), (2, .int x1)]) hx hb dX2_wave_37 hl (by decide) rfl (fun ls hl => ?_)
  refine lv_dload hx hb dX2_wave_39 (lv_at hl 1 rfl) ?_
  refine lv_dconst1 hx hb dX2_wave_41 ?_
  have r_10 : fR FP.dconst1 1073741824 1073741824 := fR_lit (by decide +kernel)
  refine lv_dload hx hb dX2_wave_42 (lv_at hl 0 rfl) ?_
  refine lv_ldc2d hx hb hown (hts (.constantDouble RX2 126 (13818544856648471893)) (by decide +kernel)) dX2_wave_44 ?_
  have r_11 : fR 13818544856648471893 (-178956971) (-178956970) := fR_lit (by decide +kernel)
  refine lv_dload hx hb dX2_wave_47 (lv_at hl 0 rfl) ?_
  refine lv_ldc2d hx hb hown (hts (.constantDouble RX2 128 (4575957461383581969)) (by decide +kernel)) dX2_wave_49 ?_
  have r_12 : fR 4575957461383581969 8947848 8947849 := fR_lit (by decide +kernel)
  refine lv_dload hx hb dX2_wave_52 (lv_at hl 0 rfl) ?_
  refine lv_ldc2d hx hb hown (hts (.constantDouble RX2 130 (13774824197408792602)) (by decide +kernel)) dX2_wave_54 ?_
  have r_13 : fR 13774824197408792602 (-213045) (-213044) := fR_lit (by decide +kernel)
  refine lv_dload hx hb dX2_wave_57 (lv_at hl 0 rfl) ?_
  refine lv_ldc2d hx hb hown (hts (.constantDouble RX2 132 (4523617214285662004)) (by decide +kernel)) dX2_wave_59 ?_
  have r_14 : fR 4523617214285662004 2958 2959 := fR_lit (by decide +kernel)
  have r_15 := fR_mul r_9 r_14 0 1908 (by decide) (by decide) rfl rfl
  refine lv_dmul hx hb dX2_wave_62 (fR_nn r_15) ?_
  have r_16 := fR_add r_13 r_15 (-213045) (-211136) (by decide) (by decide) rfl rfl
  refine lv_dadd hx hb dX2_wave_63 (fR_nn r_16) ?_
  have r_17 := fR_mul r_9 r_16 (-137323) 0 (by decide) (by decide) rfl rfl
  refine lv_dmul hx hb dX2_wave_64 (fR_nn r_17) ?_
  have r_18 := fR_add r_12 r_17 8810525 8947849 (by decide) (by decide) rfl rfl
  refine lv_dadd hx hb dX2_wave_65 (fR_nn r_18) ?_
  have r_19 := fR_mul r_9 r_18 0 5767520 (by decide) (by decide) rfl rfl
  refine lv_dmul hx hb dX2_wave_66 (fR_nn r_19) ?_
  have r_20 := fR_add r_11 r_19 (-178956971) (-173189450) (by decide) (by decide) rfl rfl
  refine lv_dadd hx hb dX2_wave_67 (fR_nn r_20) ?_
  have r_21 := fR_mul r_9 r_20 (-115350388) 0 (by decide) (by decide) rfl rfl
  refine lv_dmul hx hb dX2_wave_68 (fR_nn r_21) ?_
  have r_22 := fR_add r_10 r_21 958391436 1073741824 (by decide) (by decide) rfl rfl
  refine lv_dadd hx hb dX2_wave_69 (fR_nn r_22) ?_
  have r_23 := fR_mul r_8 r_22 (-862055226) 862055226 (by decide) (by decide) rfl rfl
  refine lv_dmul hx hb dX2_wave_70 (fR_nn r_23) ?_
  refine lv_dstore (lv' := [(11, .double (wv_u (RED x0))), (9, .double (wv_q (RED x0))), (7, .double (wv_r (RED x0))), (5, .long (FP.d2l (wv_z (RED x0)))), (3, .double (RED x0)), (0, .double x0), (2, .int x1)]) hx hb dX2_wave_71 hl (by decide) rfl (fun ls hl => ?_)
  refine lv_dconst1 hx hb dX2_wave_73 ?_
  have r_24 : fR FP.dconst1 1073741824 1073741824 := fR_lit (by decide +kernel)
  refine lv_dload hx hb dX2_wave_74 (lv_at hl 1 rfl) ?_
  refine lv_ldc2d hx hb hown (hts (.constantDouble RX2 134 (13826050856027422720)) (by decide +kernel)) dX2_wave_76 ?_
  have r_25 : fR 13826050856027422720 (-536870912) (-536870912) := fR_lit (by decide +kernel)
  refine lv_dload hx hb dX2_wave_79 (lv_at hl 1 rfl) ?_
  refine lv_ldc2d hx hb hown (hts (.constantDouble RX2 136 (4586165620538955093)) (by decide +kernel)) dX2_wave_81 ?_
  have r_26 : fR 4586165620538955093 44739242 44739243 := fR_lit (by decide +kernel)
  refine lv_dload hx hb dX2_wave_84 (lv_at hl 1 rfl) ?_
  refine lv_ldc2d hx hb hown (hts (.constantDouble RX2 138 (13787419979223755799)) (by decide +kernel)) dX2_wave_86 ?_
  have r_27 : fR 13787419979223755799 (-1491309) (-1491308) := fR_lit (by decide +kernel)
  refine lv_dload hx hb dX2_wave_89 (lv_at hl 1 rfl) ?_
  refine lv_ldc2d hx hb hown (hts (.constantDouble RX2 140 (4537941361671905306)) (by decide +kernel)) dX2_wave_91 ?_
  have r_28 : fR 4537941361671905306 26630 26631 := fR_lit (by decide +kernel)
  refine lv_dload hx hb dX2_wave_94 (lv_at hl 1 rfl) ?_
  refine lv_ldc2d hx hb hown (hts (.constantDouble RX2 142 (13732177094651715420)) (by decide +kernel)) dX2_wave_96 ?_
  have r_29 : fR 13732177094651715420 (-296) (-295) := fR_lit (by decide +kernel)
  have r_30 := fR_mul r_9 r_29 (-191) 0 (by decide) (by decide) rfl rfl
  refine lv_dmul hx hb dX2_wave_99 (fR_nn r_30) ?_
  have r_31 := fR_add r_28 r_30 26439 26631 (by decide) (by decide) rfl rfl
  refine lv_dadd hx hb dX2_wave_100 (fR_nn r_31) ?_
  have r_32 := fR_mul r_9 r_31 0 17166 (by decide) (by decide) rfl rfl
  refine lv_dmul hx hb dX2_wave_101 (fR_nn r_32) ?_
  have r_33 := fR_add r_27 r_32 (-1491309) (-1474142) (by decide) (by decide) rfl rfl
  refine lv_dadd hx hb dX2_wave_102 (fR_nn r_33) ?_
  have r_34 := fR_mul r_9 r_33 (-961254) 0 (by decide) (by decide) rfl rfl
  refine lv_dmul hx hb dX2_wave_103 (fR_nn r_34) ?_
  have r_35 := fR_add r_26 r_34 43777988 44739243 (by decide) (by decide) rfl rfl
  refine lv_dadd hx hb dX2_wave_104 (fR_nn r_35) ?_
  have r_36 := fR_mul r_9 r_35 0 28837598 (by decide) (by decide) rfl rfl
  refine lv_dmul hx hb dX2_wave_105 (fR_nn r_36) ?_
  have r_37 := fR_add r_25 r_36 (-536870912) (-508033314) (by decide) (by decide) rfl rfl
  refine lv_dadd hx hb dX2_wave_106 (fR_nn r_37) ?_
  have r_38 := fR_mul r_9 r_37 (-346051163) 0 (by decide) (by decide) rfl rfl
  refine lv_dmul hx hb dX2_wave_107 (fR_nn r_38) ?_
  have r_39 := fR_add r_24 r_38 727690661 1073741824 (by decide) (by decide) rfl rfl
  refine lv_dadd hx hb dX2_wave_108 (fR_nn r_39) ?_
  refine lv_dstore (lv' := [(13, .double (wv_v (RED x0))), (11, .double (wv_u (RED x0))), (9, .double (wv_q (RED x0))), (7, .double (wv_r (RED x0))), (5, .long (FP.d2l (wv_z (RED x0)))), (3, .double (RED x0)), (0, .double x0), (2, .int x1)]) hx hb dX2_wave_109 hl (by decide) rfl (fun ls hl => ?_)
  refine lv_lload hx hb dX2_wave_111 (lv_at hl 4 rfl) ?_
  refine lv_ldc2 hx hb hown (hts (.constantLong RX2 36 (4)) (by decide +kernel)) dX2_wave_113 ?_
  refine lv_lrem hx hb dX2_wave_116 (by decide) ?_
  refine lv_lstore (lv' := [(15, .long (f_X2_wave_117_0 x0)), (13, .double (wv_v (RED x0))), (11, .double (wv_u (RED x0))), (9, .double (wv_q (RED x0))), (7, .double (wv_r (RED x0))), (5, .long (FP.d2l (wv_z (RED x0)))), (3, .double (RED x0)), (0, .double x0), (2, .int x1)]) hx hb dX2_wave_117 hl (by decide) rfl (fun ls hl => ?_)
  refine lv_iload_n hx hb dX2_wave_119 rfl (lv_at hl 8 rfl) ?_
  refine lv_if_eq (tgt := 166) hx hb dX2_wave_120 (by decide) (fun c_40 => ?_) (fun c_40 => ?_)
  · refine lv_lload hx hb dX2_wave_166 (lv_at hl 0 rfl) ?_
    refine lv_lconst (v := 0) hx hb dX2_wave_168 (by decide) ?_
    refine zl_ne (tgt := 178) hx hb dX2_wave_169 dX2_wave_170 (by decide) (fun c_41 => ?_) (fun c_41 => ?_)
    · refine lv_lload hx hb dX2_wave_178 (lv_at hl 0 rfl) ?_
      refine lv_lconst (v := 1) hx hb dX2_wave_180 (by decide) ?_
      refine zl_ne (tgt := 191) hx hb dX2_wave_181 dX2_wave_182 (by decide) (fun c_42 => ?_) (fun c_42 => ?_)
      · refine lv_lload hx hb dX2_wave_191 (lv_at hl 0 rfl) ?_
        refine lv_ldc2 hx hb hown (hts (.constantLong RX2 144 (2)) (by decide +kernel)) dX2_wave_193 ?_
        refine zl_ne (tgt := 206) hx hb dX2_wave_196 dX2_wave_197 (by decide) (fun c_43 => ?_) (fun c_43 => ?_)
        · refine lv_dload hx hb dX2_wave_206 (lv_at hl 2 rfl) ?_
          exact W.dret hx hb hr (fun t ht _ => ⟨_, rfl, (by unfold f_X2_wave; rw [if_pos c_40, if_neg c_41, if_neg c_42, if_neg c_43]), ht⟩) (fun _ h => nomatch h) dX2_wave_208
        · refine lv_dload hx hb dX2_wave_200 (lv_at hl 1 rfl) ?_
          have r_44 := fR_neg r_39
          refine lv_dneg hx hb dX2_wave_202 ?_
          refine lv_goto (tgt := 208) hx hb dX2_wave_203 (by decide) ?_
          exact W.dret hx hb hr (fun t ht _ => ⟨_, rfl, (by unfold f_X2_wave; rw [if_pos c_40, if_neg c_41, if_neg c_42, if_pos c_43]), ht⟩) (fun _ h => nomatch h) dX2_wave_208
      · refine lv_dload hx hb dX2_wave_185 (lv_at hl 2 rfl) ?_
        have r_45 := fR_neg r_23
        refine lv_dneg hx hb dX2_wave_187 ?_
        refine lv_goto (tgt := 208) hx hb dX2_wave_188 (by decide) ?_
        exact W.dret hx hb hr (fun t ht _ => ⟨_, rfl, (by unfold f_X2_wave; rw [if_pos c_40, if_neg c_41, if_pos c_42]), ht⟩) (fun _ h => nomatch h) dX2_wave_208
    · refine lv_dload hx hb dX2_wave_173 (lv_at hl 1 rfl) ?_
      refine lv_goto (tgt := 208) hx hb dX2_wave_175 (by decide) ?_
      exact W.dret hx hb hr (fun t ht _ => ⟨_, rfl, (by unfold f_X2_wave; rw [if_pos c_40, if_pos c_41]), ht⟩) (fun _ h => nomatch h) dX2_wave_208
  · refine lv_lload hx hb dX2_wave_123 (lv_at hl 0 rfl) ?_
    refine lv_lconst (v := 0) hx hb dX2_wave_125 (by decide) ?_
    refine zl_ne (tgt := 135) hx hb dX2_wave_126 dX2_wave_127 (by decide) (fun c_46 => ?_) (fun c_46 => ?_)
    · refine lv_lload hx hb dX2_wave_135 (lv_at hl 0 rfl) ?_
      refine lv_lconst (v := 1) hx hb dX2_wave_137 (by decide) ?_
      refine zl_ne (tgt := 147) hx hb dX2_wave_138 dX2_wave_139 (by decide) (fun c_47 => ?_) (fun c_47 => ?_)
      · refine lv_lload hx hb dX2_wave_147 (lv_at hl 0 rfl) ?_
        refine lv_ldc2 hx hb hown (hts (.constantLong RX2 144 (2)) (by decide +kernel)) dX2_wave_149 ?_
        refine zl_ne (tgt := 162) hx hb dX2_wave_152 dX2_wave_153 (by decide) (fun c_48 => ?_) (fun c_48 => ?_)
        · refine lv_dload hx hb dX2_wave_162 (lv_at hl 1 rfl) ?_
          have r_49 := fR_neg r_39
          refine lv_dneg hx hb dX2_wave_164 ?_
          exact W.dret hx hb hr (fun t ht _ => ⟨_, rfl, (by unfold f_X2_wave; rw [if_neg c_40, if_neg c_46, if_neg c_47, if_neg c_48]), ht⟩) (fun _ h => nomatch h) dX2_wave_165
        · refine lv_dload hx hb dX2_wave_156 (lv_at hl 2 rfl) ?_
          have r_50 := fR_neg r_23
          refine lv_dneg hx hb dX2_wave_158 ?_
          refine lv_goto (tgt := 165) hx hb dX2_wave_159 (by decide) ?_
          exact W.dret hx hb hr (fun t ht _ => ⟨_, rfl, (by unfold f_X2_wave; rw [if_neg c_40, if_neg c_46, if_neg c_47, if_pos c_48]), ht⟩) (fun _ h => nomatch h) dX2_wave_165
      · refine lv_dload hx hb dX2_wave_142 (lv_at hl 1 rfl) ?_
        refine lv_goto (tgt := 165) hx hb dX2_wave_144 (by decide) ?_
        exact W.dret hx hb hr (fun t ht _ => ⟨_, rfl, (by unfold f_X2_wave; rw [if_neg c_40, if_neg c_46, if_pos c_47]), ht⟩) (fun _ h => nomatch h) dX2_wave_165
    · refine lv_dload hx hb dX2_wave_130 (lv_at hl 2 rfl) ?_
      refine lv_goto (tgt := 165) hx hb dX2_wave_132 (by decide) ?_
      exact W.dret hx hb hr (fun t ht _ => ⟨_, rfl, (by unfold f_X2_wave; rw [if_neg c_40, if_pos c_46]), ht⟩) (fun _ h => nomatch h) dX2_wave_165

theorem f_X2_wave_sin {x0 : UInt64} (h0 : fR x0 (-1208925819614629174706176) 1208925819614629174706176) : f_X2_wave x0 1 = SIN x0 := by
  obtain ⟨-, w4⟩ := wv_k (RED_R h0)
  unfold f_X2_wave SIN f_X1_waveAt f_X2_wave_117_0 f_X1_waveAt_108_0
  rcases w4 with ⟨e1, e2⟩ | ⟨e1, e2⟩ | ⟨e1, e2⟩ | ⟨e1, e2⟩ | ⟨e1, e2⟩ <;> rw [e1, e2] <;> rfl
theorem f_X2_wave_cos {x0 : UInt64} (h0 : fR x0 (-1208925819614629174706176) 1208925819614629174706176) : f_X2_wave x0 0 = COS x0 := by
  obtain ⟨-, w4⟩ := wv_k (RED_R h0)
  unfold f_X2_wave COS f_X1_waveAt f_X2_wave_117_0 f_X1_waveAt_108_0
  rcases w4 with ⟨e1, e2⟩ | ⟨e1, e2⟩ | ⟨e1, e2⟩ | ⟨e1, e2⟩ | ⟨e1, e2⟩ <;> rw [e1, e2] <;> rfl
set_option maxHeartbeats 4000000 in
set_option maxRecDepth 100000 in
theorem k_X2_sine (l : Launch) (x0 : UInt64) (h0 : fR x0 (-1208925819614629174706176) 1208925819614629174706176) : Met l yX2_sine wsX2_sine ({ frames := 2, cells := 0, slots := 0, locals := 61 }) (fun v _ => v = ([.double x0] : List Value).toArray) (vp_Sd (fun r => r = SIN x0)) 0 0 (fun _ => False) := by
  refine Met.ofW (cc := cX2_sine) (maxL := 2) (ret := (some .double)) (by decide) rfl ?_
  intro p e s m args below meth c s₁ B hml hv
  obtain rfl := hv
  have hx := B.exec
  have hb := B.bytes
  have hr := B.returns
  have hts := atoms_spec (ws := wsX2_sine) B.pre
  have hown : s.vm.findClass RX2 = some m.cls := findClass_of_methodNamed B.named
  have hlocks := B.notSynchronized
  have hl := lv_entry ([.double x0]) (n := 2) (Nat.le_of_ble_eq_true rfl)
  rw [lg_entry_eq]
  generalize (lg_sl ([.double x0]) ++ List.replicate (2 - (lg_sl ([.double x0])).length) Slot.unset).toArray = ls at hl ⊢
  have hl : lv_has ls 2 [(0, .double x0)] := hl
  refine lv_dload_n hx hb dX2_sine_0 rfl (lv_at hl 0 rfl) ?_
  refine lv_iconst (v := 1) hx hb dX2_sine_1 (by decide) ?_
  refine vp_callSd (W.runS (As := [.double x0, .int 1]) (rest := []) ⟨hx, hb, hml, hown, hts⟩ (k_X2_wave l x0 1 h0) (va_cwS 2 hts gX2_sine_X2_wave rfl rfl rfl (by decide +kernel) ⟨Nat.le_of_ble_eq_true rfl, Nat.le_of_ble_eq_true rfl⟩) preEq rfl rfl hl.1 rfl (lv_room (Nat.le_of_ble_eq_true rfl)) dX2_sine_2 ⟨Nat.zero_le _, Nat.zero_le _⟩) (fun r hr9 => ?_)
  obtain rfl := hr9
  exact W.dret hx hb hr (fun t ht _ => ⟨_, rfl, (f_X2_wave_sin h0), ht⟩) (fun _ h => nomatch h) dX2_sine_5

set_option maxHeartbeats 4000000 in
set_option maxRecDepth 100000 in
theorem k_X2_cosine (l : Launch) (x0 : UInt64) (h0 : fR x0 (-1208925819614629174706176) 1208925819614629174706176) : Met l yX2_cosine wsX2_cosine ({ frames := 2, cells := 0, slots := 0, locals := 61 }) (fun v _ => v = ([.double x0] : List Value).toArray) (vp_Sd (fun r => r = COS x0)) 0 0 (fun _ => False) := by
  refine Met.ofW (cc := cX2_cosine) (maxL := 2) (ret := (some .double)) (by decide) rfl ?_
  intro p e s m args below meth c s₁ B hml hv
  obtain rfl := hv
  have hx := B.exec
  have hb := B.bytes
  have hr := B.returns
  have hts := atoms_spec (ws := wsX2_cosine) B.pre
  have hown : s.vm.findClass RX2 = some m.cls := findClass_of_methodNamed B.named
  have hlocks := B.notSynchronized
  have hl := lv_entry ([.double x0]) (n := 2) (Nat.le_of_ble_eq_true rfl)
  rw [lg_entry_eq]
  generalize (lg_sl ([.double x0]) ++ List.replicate (2 - (lg_sl ([.double x0])).length) Slot.unset).toArray = ls at hl ⊢
  have hl : lv_has ls 2 [(0, .double x0)] := hl
  refine lv_dload_n hx hb dX2_cosine_0 rfl (lv_at hl 0 rfl) ?_
  refine lv_iconst (v := 0) hx hb dX2_cosine_1 (by decide) ?_
  refine vp_callSd (W.runS (As := [.double x0, .int 0]) (rest := []) ⟨hx, hb, hml, hown, hts⟩ (k_X2_wave l x0 0 h0) (va_cwS 2 hts gX2_cosine_X2_wave rfl rfl rfl (by decide +kernel) ⟨Nat.le_of_ble_eq_true rfl, Nat.le_of_ble_eq_true rfl⟩) preEq rfl rfl hl.1 rfl (lv_room (Nat.le_of_ble_eq_true rfl)) dX2_cosine_2 ⟨Nat.zero_le _, Nat.zero_le _⟩) (fun r hr9 => ?_)
  obtain rfl := hr9
  exact W.dret hx hb hr (fun t ht _ => ⟨_, rfl, (f_X2_wave_cos h0), ht⟩) (fun _ h => nomatch h) dX2_cosine_5

theorem wv_at {x0 : UInt64} (h0 : fR x0 0 386547056640) (j : Int32) : fR (f_X1_waveAt x0 j) (-1073741824) 1073741824 := by
  obtain ⟨hu, hv⟩ := wv_uv h0
  unfold f_X1_waveAt
  repeat' split
  · first | exact fR_mono hu (by decide) (by decide) | exact fR_mono hv (by decide) (by decide) | exact fR_mono (fR_neg hu) (by decide) (by decide) | exact fR_mono (fR_neg hv) (by decide) (by decide)
  · first | exact fR_mono hu (by decide) (by decide) | exact fR_mono hv (by decide) (by decide) | exact fR_mono (fR_neg hu) (by decide) (by decide) | exact fR_mono (fR_neg hv) (by decide) (by decide)
  · first | exact fR_mono hu (by decide) (by decide) | exact fR_mono hv (by decide) (by decide) | exact fR_mono (fR_neg hu) (by decide) (by decide) | exact fR_mono (fR_neg hv) (by decide) (by decide)
  · first | exact fR_mono hu (by decide) (by decide) | exact fR_mono hv (by decide) (by decide) | exact fR_mono (fR_neg hu) (by decide) (by decide) | exact fR_mono (fR_neg hv) (by decide) (by decide)
theorem SIN_R {x : UInt64} (h : fR x (-1208925819614629174706176) 1208925819614629174706176) : fR (SIN x) (-1073741824) 1073741824 := wv_at (RED_R h) _
theorem COS_R {x : UInt64} (h : fR x (-1208925819614629174706176) 1208925819614629174706176) : fR (COS x) (-1073741824) 1073741824 := wv_at (RED_R h) _
theorem whole_R {x : UInt64} (h : fR x (-2251799813685248) 2251799813685248) : fR (FP.l2d (FP.d2l x)) (-2251799813685248) 2251799813685248 := by
  obtain ⟨n, hn, hpos, hneg⟩ := d2l_tr (fR_mono h (by decide) (by decide))
  have hb : -2097152 ≤ n ∧ n ≤ 2097152 := by
    rcases Int.le_total 0 (fz x) with h9 | h9
    · obtain ⟨b1, b2, -⟩ := hpos h9
      have := uu_le (Int.le_trans b2 h.2.2)
      omega
    · obtain ⟨b1, b2, -⟩ := hneg h9
      have := uu_le (Int.le_trans h.2.1 b2)
      omega
  exact fR_mono (fR_l2d (FP.d2l x) (lo := -2097152) (hi := 2097152) (by rw [hn]; omega) (by rw [hn]; omega) (by decide) (by decide)) (by decide) (by decide)
def SID (x0 : UInt64) : UInt64 := RED (FP.dadd (RED (FP.dadd 4643641531568107876 (FP.dmul 4607053141768361126 x0))) (FP.dmul 4645040803167600640 (FP.dsub x0 (FP.l2d (FP.d2l x0)))))
set_option maxHeartbeats 4000000 in
set_option maxRecDepth 100000 in
theorem k_X1_siderealAngle (l : Launch) (x0 : UInt64) (h0 : fR x0 (-2251799813685248) 2251799813685248) : Met l yX1_siderealAngle wsX1_siderealAngle ({ frames := 1, cells := 0, slots := 0, locals := 23 }) (fun v _ => v = ([.double x0] : List Value).toArray) (vp_Sd (fun r => r = SID x0)) 0 0 (fun _ => False) := by
  refine Met.ofW (cc := cX1_siderealAngle) (maxL := 2) (ret := (some .double)) (by decide) rfl ?_
  intro p e s m args below meth c s₁ B hml hv
  obtain rfl := hv
  have hx := B.exec
  have hb := B.bytes
  have hr := B.returns
  have hts := atoms_spec (ws := wsX1_siderealAngle) B.pre
  have hown : s.vm.findClass RX1 = some m.cls := findClass_of_methodNamed B.named
  have hlocks := B.notSynchronized
  have hl := lv_entry ([.double x0]) (n := 2) (Nat.le_of_ble_eq_true rfl)
  rw [lg_entry_eq]
  generalize (lg_sl ([.double x0]) ++ List.replicate (2 - (lg_sl ([.double x0])).length) Slot.unset).toArray = ls at hl ⊢
  have hl : lv_has ls 2 [(0, .double x0)] := hl
  refine lv_ldc2d hx hb hown (hts (.constantDouble RX1 272 (4643641531568107876)) (by decide +kernel)) dX1_siderealAngle_0 ?_
  have r_1 : fR 4643641531568107876 301142295928 301142295929 := fR_lit (by decide +kernel)
  refine lv_ldc2d hx hb hown (hts (.constantDouble RX1 274 (4607053141768361126)) (by decide +kernel)) dX1_siderealAngle_3 ?_
  have r_2 : fR 4607053141768361126 1058330800 1058330801 := fR_lit (by decide +kernel)
  refine lv_dload_n hx hb dX1_siderealAngle_6 rfl (lv_at hl 0 rfl) ?_
  have r_3 := fR_mul r_2 h0 (-2219480555978752) 2219480555978752 (by decide) (by decide) rfl rfl
  refine lv_dmul hx hb dX1_siderealAngle_7 (fR_nn r_3) ?_
  have r_4 := fR_add r_1 r_3 (-2219179413682824) 2219781698274681 (by decide) (by decide) rfl rfl
  refine lv_dadd hx hb dX1_siderealAngle_8 (fR_nn r_4) ?_
  refine vp_callSd (W.runS (As := [.double (FP.dadd 4643641531568107876 (FP.dmul 4607053141768361126 x0))]) (rest := []) ⟨hx, hb, hml, hown, hts⟩ (k_X1_red l (FP.dadd 4643641531568107876 (FP.dmul 4607053141768361126 x0)) (fR_mono r_4 (by decide) (by decide))) (va_cwS 1 hts gX1_siderealAngle_X1_red rfl rfl rfl (by decide +kernel) ⟨Nat.le_of_ble_eq_true rfl, Nat.le_of_ble_eq_true rfl⟩) preEq rfl rfl hl.1 rfl (lv_room (Nat.le_of_ble_eq_true rfl)) dX1_siderealAngle_9 ⟨Nat.zero_le _, Nat.zero_le _⟩) (fun r hr9 => ?_)
  obtain rfl := hr9
  have r_5 := RED_R (fR_mono r_4 (by decide) (by decide))
  refine lv_ldc2d hx hb hown (hts (.constantDouble RX1 143 (4645040803167600640)) (by decide +kernel)) dX1_siderealAngle_12 ?_
  have r_6 : fR 4645040803167600640 386547056640 386547056640 := fR_lit (by decide +kernel)
  refine lv_dload_n hx hb dX1_siderealAngle_15 rfl (lv_at hl 0 rfl) ?_
  refine lv_dload_n hx hb dX1_siderealAngle_16 rfl (lv_at hl 0 rfl) ?_
  refine lv_d2l hx hb dX1_siderealAngle_17 ?_
  refine lv_l2d hx hb dX1_siderealAngle_18 ?_
  have r_7 := fR_sub h0 (whole_R h0) (-4503599627370496) 4503599627370496 (by decide) (by decide) rfl rfl
  refine lv_dsub hx hb dX1_siderealAngle_19 (fR_nn r_7) ?_
  have r_8 := fR_mul r_6 r_7 (-1621295865853378560) 1621295865853378560 (by decide) (by decide) rfl rfl
  refine lv_dmul hx hb dX1_siderealAngle_20 (fR_nn r_8) ?_
  have r_9 := fR_add r_5 r_8 (-1621295865853378560) 1621296252400435200 (by decide) (by decide) rfl rfl
  refine lv_dadd hx hb dX1_siderealAngle_21 (fR_nn r_9) ?_
  refine vp_callSd (W.runS (As := [.double (FP.dadd (RED (FP.dadd 4643641531568107876 (FP.dmul 4607053141768361126 x0))) (FP.dmul 4645040803167600640 (FP.dsub x0 (FP.l2d (FP.d2l x0)))))]) (rest := []) ⟨hx, hb, hml, hown, hts⟩ (k_X1_red l (FP.dadd (RED (FP.dadd 4643641531568107876 (FP.dmul 4607053141768361126 x0))) (FP.dmul 4645040803167600640 (FP.dsub x0 (FP.l2d (FP.d2l x0))))) (fR_mono r_9 (by decide) (by decide))) (va_cwS 1 hts gX1_siderealAngle_X1_red rfl rfl rfl (by decide +kernel) ⟨Nat.le_of_ble_eq_true rfl, Nat.le_of_ble_eq_true rfl⟩) preEq rfl rfl hl.1 rfl (lv_room (Nat.le_of_ble_eq_true rfl)) dX1_siderealAngle_22 ⟨Nat.zero_le _, Nat.zero_le _⟩) (fun r hr9 => ?_)
  obtain rfl := hr9
  have r_10 := RED_R (fR_mono r_9 (by decide) (by decide))
  exact W.dret hx hb hr (fun t ht _ => ⟨_, rfl, rfl, ht⟩) (fun _ h => nomatch h) dX1_siderealAngle_25

set_option maxHeartbeats 4000000 in
set_option maxRecDepth 100000 in
theorem k_X2_turned (l : Launch) (x0 : UInt64) (h0 : fR x0 (-2251799813685248) 2251799813685248) : Met l yX2_turned wsX2_turned ({ frames := 1, cells := 0, slots := 0, locals := 25 }) (fun v _ => v = ([.double x0] : List Value).toArray) (vp_Sd (fun r => r = SID x0)) 0 0 (fun _ => False) := by
  refine Met.ofW (cc := cX2_turned) (maxL := 4) (ret := (some .double)) (by decide) rfl ?_
  intro p e s m args below meth c s₁ B hml hv
  obtain rfl := hv
  have hx := B.exec
  have hb := B.bytes
  have hr := B.returns
  have hts := atoms_spec (ws := wsX2_turned) B.pre
  have hown : s.vm.findClass RX2 = some m.cls := findClass_of_methodNamed B.named
  have hlocks := B.notSynchronized
  have hl := lv_entry ([.double x0]) (n := 4) (Nat.le_of_ble_eq_true rfl)
  rw [lg_entry_eq]
  generalize (lg_sl ([.double x0]) ++ List.replicate (4 - (lg_sl ([.double x0])).length) Slot.unset).toArray = ls at hl ⊢
  have hl : lv_has ls 4 [(0, .double x0)] := hl
  refine lv_dload_n hx hb dX2_turned_0 rfl (lv_at hl 0 rfl) ?_
  refine lv_d2l hx hb dX2_turned_1 ?_
  refine lv_l2d hx hb dX2_turned_2 ?_
  refine lv_dstore_n (lv' := [(2, .double (FP.l2d (FP.d2l x0))), (0, .double x0)]) hx hb dX2_turned_3 rfl hl (by decide) rfl (fun ls hl => ?_)
  refine lv_ldc2d hx hb hown (hts (.constantDouble RX2 150 (4643641531568107876)) (by decide +kernel)) dX2_turned_4 ?_
  have r_1 : fR 4643641531568107876 301142295928 301142295929 := fR_lit (by decide +kernel)
  refine lv_ldc2d hx hb hown (hts (.constantDouble RX2 152 (4607053141768361126)) (by decide +kernel)) dX2_turned_7 ?_
  have r_2 : fR 4607053141768361126 1058330800 1058330801 := fR_lit (by decide +kernel)
  refine lv_dload_n hx hb dX2_turned_10 rfl (lv_at hl 1 rfl) ?_
  have r_3 := fR_mul r_2 h0 (-2219480555978752) 2219480555978752 (by decide) (by decide) rfl rfl
  refine lv_dmul hx hb dX2_turned_11 (fR_nn r_3) ?_
  have r_4 := fR_add r_1 r_3 (-2219179413682824) 2219781698274681 (by decide) (by decide) rfl rfl
  refine lv_dadd hx hb dX2_turned_12 (fR_nn r_4) ?_
  refine vp_callSd (W.runS (As := [.double (FP.dadd 4643641531568107876 (FP.dmul 4607053141768361126 x0))]) (rest := []) ⟨hx, hb, hml, hown, hts⟩ (k_X2_red l (FP.dadd 4643641531568107876 (FP.dmul 4607053141768361126 x0)) (fR_mono r_4 (by decide) (by decide))) (va_cwS 1 hts gX2_turned_X2_red rfl rfl rfl (by decide +kernel) ⟨Nat.le_of_ble_eq_true rfl, Nat.le_of_ble_eq_true rfl⟩) preEq rfl rfl hl.1 rfl (lv_room (Nat.le_of_ble_eq_true rfl)) dX2_turned_13 ⟨Nat.zero_le _, Nat.zero_le _⟩) (fun r hr9 => ?_)
  obtain rfl := hr9
  have r_5 := RED_R (fR_mono r_4 (by decide) (by decide))
  refine lv_ldc2d hx hb hown (hts (.constantDouble RX2 114 (4645040803167600640)) (by decide +kernel)) dX2_turned_16 ?_
  have r_6 : fR 4645040803167600640 386547056640 386547056640 := fR_lit (by decide +kernel)
  refine lv_dload_n hx hb dX2_turned_19 rfl (lv_at hl 1 rfl) ?_
  refine lv_dload_n hx hb dX2_turned_20 rfl (lv_at hl 0 rfl) ?_
  have r_7 := fR_sub h0 (whole_R h0) (-4503599627370496) 4503599627370496 (by decide) (by decide) rfl rfl
  refine lv_dsub hx hb dX2_turned_21 (fR_nn r_7) ?_
  have r_8 := fR_mul r_6 r_7 (-1621295865853378560) 1621295865853378560 (by decide) (by decide) rfl rfl
  refine lv_dmul hx hb dX2_turned_22 (fR_nn r_8) ?_
  have r_9 := fR_add r_5 r_8 (-1621295865853378560) 1621296252400435200 (by decide) (by decide) rfl rfl
  refine lv_dadd hx hb dX2_turned_23 (fR_nn r_9) ?_
  refine vp_callSd (W.runS (As := [.double (FP.dadd (RED (FP.dadd 4643641531568107876 (FP.dmul 4607053141768361126 x0))) (FP.dmul 4645040803167600640 (FP.dsub x0 (FP.l2d (FP.d2l x0)))))]) (rest := []) ⟨hx, hb, hml, hown, hts⟩ (k_X2_red l (FP.dadd (RED (FP.dadd 4643641531568107876 (FP.dmul 4607053141768361126 x0))) (FP.dmul 4645040803167600640 (FP.dsub x0 (FP.l2d (FP.d2l x0))))) (fR_mono r_9 (by decide) (by decide))) (va_cwS 1 hts gX2_turned_X2_red rfl rfl rfl (by decide +kernel) ⟨Nat.le_of_ble_eq_true rfl, Nat.le_of_ble_eq_true rfl⟩) preEq rfl rfl hl.1 rfl (lv_room (Nat.le_of_ble_eq_true rfl)) dX2_turned_24 ⟨Nat.zero_le _, Nat.zero_le _⟩) (fun r hr9 => ?_)
  obtain rfl := hr9
  have r_10 := RED_R (fR_mono r_9 (by decide) (by decide))
  exact W.dret hx hb hr (fun t ht _ => ⟨_, rfl, rfl, ht⟩) (fun _ h => nomatch h) dX2_turned_27

theorem SID_R {x0 : UInt64} (h0 : fR x0 (-2251799813685248) 2251799813685248) : fR (SID x0) 0 386547056640 := by
  have r_1 : fR 4643641531568107876 301142295928 301142295929 := fR_lit (by decide +kernel)
  have r_2 : fR 4607053141768361126 1058330800 1058330801 := fR_lit (by decide +kernel)
  have r_3 := fR_mul r_2 h0 (-2219480555978752) 2219480555978752 (by decide) (by decide) rfl rfl
  have r_4 := fR_add r_1 r_3 (-2219179413682824) 2219781698274681 (by decide) (by decide) rfl rfl
  have r_5 := RED_R (fR_mono r_4 (by decide) (by decide))
  have r_6 : fR 4645040803167600640 386547056640 386547056640 := fR_lit (by decide +kernel)
  have r_7 := fR_sub h0 (whole_R h0) (-4503599627370496) 4503599627370496 (by decide) (by decide) rfl rfl
  have r_8 := fR_mul r_6 r_7 (-1621295865853378560) 1621295865853378560 (by decide) (by decide) rfl rfl
  have r_9 := fR_add r_5 r_8 (-1621295865853378560) 1621296252400435200 (by decide) (by decide) rfl rfl
  have r_10 := RED_R (fR_mono r_9 (by decide) (by decide))
  exact r_10
end
section
/-! ===== the ground: what every contract of the class takes as given of the tables and of cells that nobody writes ===== -/
def gML : Nat → Value := fun j => .int (([31, 28, 31, 30, 31, 30, 31, 31, 30, 31, 30, 31] : List Int32).getD j 0)
def gTN : Nat → Value := fun j => .long (([1, 10, 100, 1000, 10000, 100000] : List Int64).getD j 0)
def xIA : String := "java/lang/IllegalArgumentException"
def xIS : String := "java/lang/IllegalStateException"
def xIO : String := "java/lang/IndexOutOfBoundsException"
def xNS : String := "java/util/NoSuchElementException"
def nestW : List Cond := [.fieldLinkNest RX1 157 "SkyAlmanac$Body" "isSet" "Z" "SkyAlmanac", .fieldLinkNest RX1 161 "SkyAlmanac$Body" "orbitL" "D" "SkyAlmanac", .fieldLinkNest RX1 164 "SkyAlmanac$Body" "orbitN" "D" "SkyAlmanac", .fieldLinkNest RX1 167 "SkyAlmanac$Body" "orbitE" "D" "SkyAlmanac", .fieldLinkNest RX1 170 "SkyAlmanac$Body" "orbitW" "D" "SkyAlmanac", .fieldLinkNest RX1 183 "SkyAlmanac$Body" "terms" "I" "SkyAlmanac", .fieldLinkNest RX1 191 "SkyAlmanac$Body" "powers" "[I" "SkyAlmanac", .fieldLinkNest RX1 194 "SkyAlmanac$Body" "factors" "[D" "SkyAlmanac", .fieldLinkNest RX1 198 "SkyAlmanac$Body" "starts" "[D" "SkyAlmanac", .fieldLinkNest RX1 201 "SkyAlmanac$Body" "speeds" "[D" "SkyAlmanac"]
def nestM : List (String × Nat × MethodName) := [(RX1, 15, yX0_init), (RX1, 255, yX0_sumOfPower), (RX0, 29, yX1_cosine)]
def strW : List (Nat × String) := [(100, "no Easter is told for this year"), (138, "no such body"), (155, "no such orbit"), (181, "no such term"), (188, "the body has all its terms"), (212, "no such place"), (216, "no such body is set"), (223, "the time is out of range"), (266, "the anomaly fails"), (276, "no such kind of event"), (282, "the day is out of range"), (296, "no such event on this day"), (314, "the angle is out of range"), (318, "no such number of places"), (341, "no such letter"), (343, "no such sign"), (351, "no such angle"), (45, "no such calendar"), (54, "no such year"), (64, "no such date"), (75, "this date was left out"), (81, "no such day number"), (85, "no such part of a date"), (91, "the year is out of range")]
/-- words of the tables that a change of the tables along a run keeps -/
def gT (U : State) : Prop := (∀ w ∈ nestW, va_Nw w U) ∧ (∀ q ∈ nestM, va_Nw (.methodLinkNest q.1 q.2.1 q.2.2 "SkyAlmanac") U) ∧ (∀ q ∈ strW, ∃ a, vk_R RX1 q.1 q.2 a U) ∧ (∀ X ∈ [xIA, xIS, xIO, xNS], va_Nw (.castable X X) U) ∧ (∀ Y ∈ ["java/lang/RuntimeException", "java/lang/Exception", "java/lang/Throwable"], va_Nw (.declares (Bundle.initS Y)) U)
/-- cells that nobody writes -/
def gH (tm tt : Nat) (A : Nat → Prop) (U : State) (H : Heap) : Prop :=
  (vx_Zq Bundle.tN "UNASSIGNED_STACK" Bundle.steD A U H ∧ vx_Zq Bundle.tN "SUPPRESSED_SENTINEL" Bundle.listD A U H) ∧
  (va_Z RX1 "MONTH_LENGTHS" "[I" (.ref tm) A U H ∧ va_T .int tm 12 gML A U H) ∧ (va_Z RX1 "TENS" "[J" (.ref tt) A U H ∧ va_T .long tt 6 gTN A U H)
theorem gT.warm {s U : State} (hW : s.WarmedH U.vm) (h : gT s) : gT U := by
  obtain ⟨h1, h2, h3, h4, h5⟩ := h
  refine ⟨fun w hw => ?_, fun q hq => va_Nw.warmM hW (h2 q hq), fun q hq => ?_, fun X hX => va_Nw.warmC hW (h4 X hX), fun X hX => va_Nw.warmD hW (h5 X hX)⟩
  · have := h1 w hw
    simp only [nestW, List.mem_cons, List.not_mem_nil, or_false] at hw
    rcases hw with rfl | rfl | rfl | rfl | rfl | rfl | rfl | rfl | rfl | rfl <;> exact va_Nw.warmF hW this
  · obtain ⟨a, ha⟩ := h3 q hq
    exact ⟨a, vk_R.warm hW ha⟩
theorem gT.same {s U : State} (hv : U.vm = s.vm) (h : gT s) : gT U := by
  obtain ⟨h1, h2, h3, h4, h5⟩ := h
  refine ⟨fun w hw => ?_, fun q hq => va_Nw.same rfl hv.symm (h2 q hq), fun q hq => ?_, fun X hX => va_Nw.same rfl hv.symm (h4 X hX), fun X hX => va_Nw.same rfl hv.symm (h5 X hX)⟩
  · have := h1 w hw
    simp only [nestW, List.mem_cons, List.not_mem_nil, or_false] at hw
    rcases hw with rfl | rfl | rfl | rfl | rfl | rfl | rfl | rfl | rfl | rfl <;> exact va_Nw.same rfl hv.symm this
  · obtain ⟨a, ha⟩ := h3 q hq
    exact ⟨a, vk_R.same hv ha⟩
theorem gH.moved {tm tt : Nat} {A : Nat → Prop} {u U : State} {H : Heap} (hvm : u.vm.Alike U.vm) (h : gH tm tt A u H) : gH tm tt A U H :=
  ⟨⟨vx_Zq.moved hvm h.1.1, vx_Zq.moved hvm h.1.2⟩, ⟨va_Z.moved hvm h.2.1.1, va_T.moved hvm h.2.1.2⟩, ⟨va_Z.moved hvm h.2.2.1, va_T.moved hvm h.2.2.2⟩⟩
theorem gH.kept {tm tt : Nat} {A : Nat → Prop} {U : State} {H H1 : Heap} (h : gH tm tt A U H) (hq : ∀ a : Nat, a < H.size → ¬ A a → H1[a]? = H[a]?) : gH tm tt A U H1 :=
  ⟨⟨vx_Zq.kept h.1.1 hq, vx_Zq.kept h.1.2 hq⟩, ⟨va_Z.kept h.2.1.1 hq, va_T.kept h.2.1.2 hq⟩, ⟨va_Z.kept h.2.2.1 hq, va_T.kept h.2.2.2 hq⟩⟩
theorem gH.narrow {tm tt : Nat} {A B : Nat → Prop} {U : State} {H : Heap} (h : gH tm tt A U H) (hAB : ∀ q, B q → A q) : gH tm tt B U H :=
  ⟨⟨vx_Zq.narrow h.1.1 hAB, vx_Zq.narrow h.1.2 hAB⟩, ⟨va_Z.narrow h.2.1.1 hAB, va_T.narrow h.2.1.2 hAB⟩, ⟨va_Z.narrow h.2.2.1 hAB, va_T.narrow h.2.2.2 hAB⟩⟩
def GE (tm tt : Nat) (A : Nat → Prop) (U : State) (H : Heap) : Prop := gT U ∧ gH tm tt A U H
theorem GE.warm {tm tt : Nat} {A : Nat → Prop} {s U : State} {H : Heap} (hW : s.WarmedH U.vm) (h : GE tm tt A s H) : GE tm tt A U H := ⟨h.1.warm hW, h.2.moved hW.alike⟩
theorem GE.same {tm tt : Nat} {A : Nat → Prop} {s U : State} {H : Heap} (hv : U.vm = s.vm) (h : GE tm tt A s H) : GE tm tt A U H := ⟨h.1.same hv, h.2.moved (by rw [hv]; exact Vm.Alike.refl _)⟩
theorem GE.kept {tm tt : Nat} {A : Nat → Prop} {U : State} {H H1 : Heap} (h : GE tm tt A U H) (hq : ∀ a : Nat, a < H.size → ¬ A a → H1[a]? = H[a]?) : GE tm tt A U H1 := ⟨h.1, h.2.kept hq⟩
theorem GE.narrow {tm tt : Nat} {A B : Nat → Prop} {U : State} {H : Heap} (h : GE tm tt A U H) (hAB : ∀ q, B q → A q) : GE tm tt B U H := ⟨h.1, h.2.narrow hAB⟩
/-- the ground that a callee needs, out of the caller's -/
theorem GE.give {tm tt : Nat} {A B : Nat → Prop} {s U : State} {H : Heap} {locs : List Loc} (h : GE tm tt A s s.heap) (hS : va_S A s.heap H locs) (hAB : ∀ q, B q → A q) (hU : U.heap = H) (hW : s.WarmedH U.vm) : GE tm tt B U U.heap := by
  rw [hU]; exact ((h.kept hS.2.1).narrow hAB).warm hW
/-- the words of a throw -/
def thN : List String := ["java/lang/RuntimeException", "java/lang/Exception"]
def thB (X : String) : List Cond := [.castable X X, .declares (Bundle.initS "java/lang/RuntimeException"), .declares (Bundle.initS "java/lang/Exception"), .declares (Bundle.initS "java/lang/Throwable")]
theorem thB_ok {X : String} (hX : X ∈ [xIA, xIS, xIO, xNS]) {s : State} {args : Array Value} (h : gT s) : ∀ w ∈ thB X, w.before args s = true := by
  obtain ⟨-, -, -, h4, h5⟩ := h
  exact vx_c (va_Nw.use rfl (h4 X hX)) (vx_c (va_Nw.use rfl (h5 _ (by decide))) (vx_c (va_Nw.use rfl (h5 _ (by decide))) (vx_c (va_Nw.use rfl (h5 _ (by decide))) vx_n)))
theorem thg_IA : ∀ w ∈ Cond.classLink RX1 43 xIA :: Cond.initialized xIA :: vx_atS RX1 47 xIA thN, vx_ot w = true := by decide +kernel
theorem thn_IA : ∀ w ∈ (vx_atS RX1 47 xIA thN).filter (fun w => !goodWord w), w ∈ thB xIA := by decide +kernel
theorem tha_IA {s : State} {args : Array Value} (h : gT s) (h1 : ∀ w ∈ (vx_atS RX1 47 xIA thN).filter goodWord, w.before args s = true) : ∀ w ∈ vx_atS RX1 47 xIA thN, w.before args s = true := vx_hat h1 thn_IA (thB_ok (by decide) h)
theorem thg_IS : ∀ w ∈ Cond.classLink RX1 186 xIS :: Cond.initialized xIS :: vx_atS RX1 190 xIS thN, vx_ot w = true := by decide +kernel
theorem thn_IS : ∀ w ∈ (vx_atS RX1 190 xIS thN).filter (fun w => !goodWord w), w ∈ thB xIS := by decide +kernel
theorem tha_IS {s : State} {args : Array Value} (h : gT s) (h1 : ∀ w ∈ (vx_atS RX1 190 xIS thN).filter goodWord, w.before args s = true) : ∀ w ∈ vx_atS RX1 190 xIS thN, w.before args s = true := vx_hat h1 thn_IS (thB_ok (by decide) h)
theorem thg_IO : ∀ w ∈ Cond.classLink RX1 136 xIO :: Cond.initialized xIO :: vx_atS RX1 140 xIO thN, vx_ot w = true := by decide +kernel
theorem thn_IO : ∀ w ∈ (vx_atS RX1 140 xIO thN).filter (fun w => !goodWord w), w ∈ thB xIO := by decide +kernel
theorem tha_IO {s : State} {args : Array Value} (h : gT s) (h1 : ∀ w ∈ (vx_atS RX1 140 xIO thN).filter goodWord, w.before args s = true) : ∀ w ∈ vx_atS RX1 140 xIO thN, w.before args s = true := vx_hat h1 thn_IO (thB_ok (by decide) h)
theorem thg_NS : ∀ w ∈ Cond.classLink RX1 214 xNS :: Cond.initialized xNS :: vx_atS RX1 218 xNS thN, vx_ot w = true := by decide +kernel
theorem thn_NS : ∀ w ∈ (vx_atS RX1 218 xNS thN).filter (fun w => !goodWord w), w ∈ thB xNS := by decide +kernel
theorem tha_NS {s : State} {args : Array Value} (h : gT s) (h1 : ∀ w ∈ (vx_atS RX1 218 xNS thN).filter goodWord, w.before args s = true) : ∀ w ∈ vx_atS RX1 218 xNS thN, w.before args s = true := vx_hat h1 thn_NS (thB_ok (by decide) h)
theorem thf : ∀ n ∈ thN, Bundle.fit n = true := by decide +kernel
theorem thc_IA : Bundle.fit xIA = true := by decide +kernel
theorem thc_IS : Bundle.fit xIS = true := by decide +kernel
theorem thc_IO : Bundle.fit xIO = true := by decide +kernel
theorem thc_NS : Bundle.fit xNS = true := by decide +kernel
theorem gT.str {U : State} (h : gT U) {k : Nat} {tx : String} (hk : (k, tx) ∈ strW) : ∃ a, vk_R RX1 k tx a U := h.2.2.1 (k, tx) hk
end
section
def mlen (i : Int32) : Int32 := ([31, 28, 31, 30, 31, 30, 31, 31, 30, 31, 30, 31] : List Int32).getD i.toNatClampNeg 0
def tens (i : Int32) : Int64 := ([1, 10, 100, 1000, 10000, 100000] : List Int64).getD i.toNatClampNeg 0
theorem ml_in {x : Int32} (h1 : ¬ x < 1) (h2 : x ≤ 12) : vp_in (x - 1) 12 := by
  have h0 : ¬ x < 0 := fun h => h1 (by rw [Int32.lt_iff_toInt_lt] at h ⊢; have : (0 : Int32).toInt = 0 := rfl; have : (1 : Int32).toInt = 1 := rfl; omega)
  obtain ⟨j, hj, rfl⟩ := nI_of2 (M := 12) (n := 12) rfl h0 h2
  have hj1 : 1 ≤ j := by
    rcases Nat.eq_zero_or_pos j with h | h
    · subst h; exact absurd (by decide) h1
    · exact h
  have e : nI j - 1 = nI (j - 1) := by
    have := pk_sub (a := j) (b := 1) hj1
    exact this
  rw [e]
  exact vp_in_nI (by omega) (by decide)
theorem tn_in {x : Int32} (h1 : ¬ x < 0) (h2 : ¬ 6 ≤ x) : vp_in x 6 := by
  have h3 : x ≤ 5 := by rw [Int32.le_iff_toInt_le] at h2 ⊢; have : (6 : Int32).toInt = 6 := rfl; have : (5 : Int32).toInt = 5 := rfl; omega
  obtain ⟨j, hj, rfl⟩ := nI_of2 (M := 5) (n := 5) rfl h1 h3
  exact vp_in_nI (by omega) (by decide)
def f_X1_monthLength (x0 : Int32) (x1 : Int32) (x2 : Int32) : Int32 := if x2 < 1 then (0) else (if x2 ≤ 12 then (if x2 = 2 then (if (f_X1_isLeap x0 x1) = 0 then (mlen (x2 - 1)) else ((mlen (x2 - 1)) + 1)) else (mlen (x2 - 1))) else (0))
set_option maxHeartbeats 4000000 in
set_option maxRecDepth 100000 in
theorem k_X1_monthLength (l : Launch) (tm tt : Nat) (x0 : Int32) (x1 : Int32) (x2 : Int32)  : Met l yX1_monthLength wsX1_monthLength ({ frames := 1, cells := 0, slots := 0, locals := 21 }) (fun v U => v = ([.int x0, .int x1, .int x2] : List Value).toArray ∧ GE tm tt (fun _ => False) U U.heap) (vp_Si (fun r => r = f_X1_monthLength x0 x1 x2)) 0 0 (fun _ => False) := by
  refine Met.ofW (cc := cX1_monthLength) (maxL := 4) (ret := (some .int)) (by decide) rfl ?_
  intro p e s m args below meth c s₁ B hml hv
  obtain ⟨rfl, hE⟩ := hv
  have hS : va_S (fun _ => False) s.heap s.heap [] := va_S.rf
  have hx := B.exec
  have hb := B.bytes
  have hr := B.returns
  have hts := atoms_spec (ws := wsX1_monthLength) B.pre
  have hown : s.vm.findClass RX1 = some m.cls := findClass_of_methodNamed B.named
  have hlocks := B.notSynchronized
  have hl := lv_entry ([.int x0, .int x1, .int x2]) (n := 4) (Nat.le_of_ble_eq_true rfl)
  rw [lg_entry_eq]
  generalize (lg_sl ([.int x0, .int x1, .int x2]) ++ List.replicate (4 - (lg_sl ([.int x0, .int x1, .int x2])).length) Slot.unset).toArray = ls at hl ⊢
  have hl : lv_has ls 4 [(0, .int x0), (1, .int x1), (2, .int x2)] := hl
  refine lv_iload_n hx hb dX1_monthLength_0 rfl (lv_at hl 2 rfl) ?_
  refine lv_iconst (v := 1) hx hb dX1_monthLength_1 (by decide) ?_
  refine lv_icmp_lt (tgt := 13) hx hb dX1_monthLength_2 (by decide) (fun c_1 => ?_) (fun c_1 => ?_)
  · refine lv_iconst (v := 0) hx hb dX1_monthLength_13 (by decide) ?_
    exact W.iret hx hb hr (fun t ht _ => ⟨_, rfl, (by unfold f_X1_monthLength; rw [if_pos c_1]), ht⟩) (fun _ h => nomatch h) dX1_monthLength_14
  · refine lv_iload_n hx hb dX1_monthLength_5 rfl (lv_at hl 2 rfl) ?_
    refine va_gets hx hb hE.2.2.1.1 hS hown (hts (.fieldLink RX1 110 "SkyAlmanac" "MONTH_LENGTHS" "[I") (by decide +kernel)) (fun _ h => h) dX1_monthLength_6 ?_
    refine va_tlen (v := 12) hx hb hE.2.2.1.2 hS (by decide) dX1_monthLength_9 ?_
    refine lv_icmp_le (tgt := 15) hx hb dX1_monthLength_10 (by decide) (fun c_2 => ?_) (fun c_2 => ?_)
    · refine va_gets hx hb hE.2.2.1.1 hS hown (hts (.fieldLink RX1 110 "SkyAlmanac" "MONTH_LENGTHS" "[I") (by decide +kernel)) (fun _ h => h) dX1_monthLength_15 ?_
      refine lv_iload_n hx hb dX1_monthLength_18 rfl (lv_at hl 2 rfl) ?_
      refine lv_iconst (v := 1) hx hb dX1_monthLength_19 (by decide) ?_
      refine lv_isub hx hb dX1_monthLength_20 ?_
      refine va_ti (v := .int (mlen (x2 - 1))) hx hb hE.2.2.1.2 hS (ml_in c_1 c_2) rfl dX1_monthLength_21 ?_
      refine lv_istore_n (lv' := [(3, .int (mlen (x2 - 1))), (0, .int x0), (1, .int x1), (2, .int x2)]) hx hb dX1_monthLength_22 rfl hl (by decide) rfl (fun ls hl => ?_)
      refine lv_iload_n hx hb dX1_monthLength_23 rfl (lv_at hl 3 rfl) ?_
      refine lv_iconst (v := 2) hx hb dX1_monthLength_24 (by decide) ?_
      refine lv_icmp_ne (tgt := 42) hx hb dX1_monthLength_25 (by decide) (fun c_3 => ?_) (fun c_3 => ?_)
      · refine lv_iload_n hx hb dX1_monthLength_42 rfl (lv_at hl 0 rfl) ?_
        exact W.iret hx hb hr (fun t ht _ => ⟨_, rfl, (by unfold f_X1_monthLength; rw [if_neg c_1, if_pos c_2, if_neg c_3]), ht⟩) (fun _ h => nomatch h) dX1_monthLength_43
      · refine lv_iload_n hx hb dX1_monthLength_28 rfl (lv_at hl 1 rfl) ?_
        refine lv_iload_n hx hb dX1_monthLength_29 rfl (lv_at hl 2 rfl) ?_
        refine vp_callSi (W.runS (As := [.int x0, .int x1]) (rest := []) ⟨hx, hb, hml, hown, hts⟩ (k_X1_isLeap l x0 x1) (va_cwS 2 hts gX1_monthLength_X1_isLeap rfl rfl rfl (by decide +kernel) ⟨Nat.le_of_ble_eq_true rfl, Nat.le_of_ble_eq_true rfl⟩) preEq rfl rfl hl.1 rfl (lv_room (Nat.le_of_ble_eq_true rfl)) dX1_monthLength_30 ⟨Nat.zero_le _, Nat.zero_le _⟩) (fun r hr9 => ?_)
        obtain rfl := hr9
        refine lv_if_eq (tgt := 42) hx hb dX1_monthLength_33 (by decide) (fun c_4 => ?_) (fun c_4 => ?_)
        · refine lv_iload_n hx hb dX1_monthLength_42 rfl (lv_at hl 0 rfl) ?_
          exact W.iret hx hb hr (fun t ht _ => ⟨_, rfl, (by unfold f_X1_monthLength; rw [if_neg c_1, if_pos c_2, if_pos c_3, if_pos c_4]), ht⟩) (fun _ h => nomatch h) dX1_monthLength_43
        · refine lv_iload_n hx hb dX1_monthLength_36 rfl (lv_at hl 0 rfl) ?_
          refine lv_iconst (v := 1) hx hb dX1_monthLength_37 (by decide) ?_
          refine lv_iadd hx hb dX1_monthLength_38 ?_
          refine lv_goto (tgt := 43) hx hb dX1_monthLength_39 (by decide) ?_
          exact W.iret hx hb hr (fun t ht _ => ⟨_, rfl, (by unfold f_X1_monthLength; rw [if_neg c_1, if_pos c_2, if_pos c_3, if_neg c_4]), ht⟩) (fun _ h => nomatch h) dX1_monthLength_43
    · refine lv_iconst (v := 0) hx hb dX1_monthLength_13 (by decide) ?_
      exact W.iret hx hb hr (fun t ht _ => ⟨_, rfl, (by unfold f_X1_monthLength; rw [if_neg c_1, if_neg c_2]), ht⟩) (fun _ h => nomatch h) dX1_monthLength_14

def f_X1_tenToThe (x0 : Int32) : Int64 := if x0 < 0 then (1) else (if 6 ≤ x0 then (1) else (tens x0))
set_option maxHeartbeats 4000000 in
set_option maxRecDepth 100000 in
theorem k_X1_tenToThe (l : Launch) (tm tt : Nat) (x0 : Int32)  : Met l yX1_tenToThe wsX1_tenToThe ({ frames := 0, cells := 0, slots := 0, locals := 0 }) (fun v U => v = ([.int x0] : List Value).toArray ∧ GE tm tt (fun _ => False) U U.heap) (vp_Sl (fun r => r = f_X1_tenToThe x0)) 0 0 (fun _ => False) := by
  refine Met.ofW (cc := cX1_tenToThe) (maxL := 1) (ret := (some .long)) (by decide) rfl ?_
  intro p e s m args below meth c s₁ B hml hv
  obtain ⟨rfl, hE⟩ := hv
  have hS : va_S (fun _ => False) s.heap s.heap [] := va_S.rf
  have hx := B.exec
  have hb := B.bytes
  have hr := B.returns
  have hts := atoms_spec (ws := wsX1_tenToThe) B.pre
  have hown : s.vm.findClass RX1 = some m.cls := findClass_of_methodNamed B.named
  have hlocks := B.notSynchronized
  have hl := lv_entry ([.int x0]) (n := 1) (Nat.le_of_ble_eq_true rfl)
  rw [lg_entry_eq]
  generalize (lg_sl ([.int x0]) ++ List.replicate (1 - (lg_sl ([.int x0])).length) Slot.unset).toArray = ls at hl ⊢
  have hl : lv_has ls 1 [(0, .int x0)] := hl
  refine lv_iload_n hx hb dX1_tenToThe_0 rfl (lv_at hl 0 rfl) ?_
  refine lv_if_lt (tgt := 20) hx hb dX1_tenToThe_1 (by decide) (fun c_1 => ?_) (fun c_1 => ?_)
  · refine lv_lconst (v := 1) hx hb dX1_tenToThe_20 (by decide) ?_
    exact W.lret hx hb hr (fun t ht _ => ⟨_, rfl, (by unfold f_X1_tenToThe; rw [if_pos c_1]), ht⟩) (fun _ h => nomatch h) dX1_tenToThe_21
  · refine lv_iload_n hx hb dX1_tenToThe_4 rfl (lv_at hl 0 rfl) ?_
    refine va_gets hx hb hE.2.2.2.1 hS hown (hts (.fieldLink RX1 353 "SkyAlmanac" "TENS" "[J") (by decide +kernel)) (fun _ h => h) dX1_tenToThe_5 ?_
    refine va_tlen (v := 6) hx hb hE.2.2.2.2 hS (by decide) dX1_tenToThe_8 ?_
    refine lv_icmp_ge (tgt := 20) hx hb dX1_tenToThe_9 (by decide) (fun c_2 => ?_) (fun c_2 => ?_)
    · refine lv_lconst (v := 1) hx hb dX1_tenToThe_20 (by decide) ?_
      exact W.lret hx hb hr (fun t ht _ => ⟨_, rfl, (by unfold f_X1_tenToThe; rw [if_neg c_1, if_pos c_2]), ht⟩) (fun _ h => nomatch h) dX1_tenToThe_21
    · refine va_gets hx hb hE.2.2.2.1 hS hown (hts (.fieldLink RX1 353 "SkyAlmanac" "TENS" "[J") (by decide +kernel)) (fun _ h => h) dX1_tenToThe_12 ?_
      refine lv_iload_n hx hb dX1_tenToThe_15 rfl (lv_at hl 0 rfl) ?_
      refine va_tl (v := .long (tens x0)) hx hb hE.2.2.2.2 hS (tn_in c_1 c_2) rfl dX1_tenToThe_16 ?_
      refine lv_goto (tgt := 21) hx hb dX1_tenToThe_17 (by decide) ?_
      exact W.lret hx hb hr (fun t ht _ => ⟨_, rfl, (by unfold f_X1_tenToThe; rw [if_neg c_1, if_neg c_2]), ht⟩) (fun _ h => nomatch h) dX1_tenToThe_21

def f_X1_daysBeforeMonth (x0 : Int32) (x1 : Int32) (x2 : Int32) : Int32 := if x2 ≤ 1 then (0) else (if x2 ≤ 2 then (0 + (f_X1_monthLength x0 x1 1)) else (if x2 ≤ 3 then ((0 + (f_X1_monthLength x0 x1 1)) + (f_X1_monthLength x0 x1 2)) else (if x2 ≤ 4 then (((0 + (f_X1_monthLength x0 x1 1)) + (f_X1_monthLength x0 x1 2)) + (f_X1_monthLength x0 x1 3)) else (if x2 ≤ 5 then ((((0 + (f_X1_monthLength x0 x1 1)) + (f_X1_monthLength x0 x1 2)) + (f_X1_monthLength x0 x1 3)) + (f_X1_monthLength x0 x1 4)) else (if x2 ≤ 6 then (((((0 + (f_X1_monthLength x0 x1 1)) + (f_X1_monthLength x0 x1 2)) + (f_X1_monthLength x0 x1 3)) + (f_X1_monthLength x0 x1 4)) + (f_X1_monthLength x0 x1 5)) else (if x2 ≤ 7 then ((((((0 + (f_X1_monthLength x0 x1 1)) + (f_X1_monthLength x0 x1 2)) + (f_X1_monthLength x0 x1 3)) + (f_X1_monthLength x0 x1 4)) + (f_X1_monthLength x0 x1 5)) + (f_X1_monthLength x0 x1 6)) else (if x2 ≤ 8 then (((((((0 + (f_X1_monthLength x0 x1 1)) + (f_X1_monthLength x0 x1 2)) + (f_X1_monthLength x0 x1 3)) + (f_X1_monthLength x0 x1 4)) + (f_X1_monthLength x0 x1 5)) + (f_X1_monthLength x0 x1 6)) + (f_X1_monthLength x0 x1 7)) else (if x2 ≤ 9 then ((((((((0 + (f_X1_monthLength x0 x1 1)) + (f_X1_monthLength x0 x1 2)) + (f_X1_monthLength x0 x1 3)) + (f_X1_monthLength x0 x1 4)) + (f_X1_monthLength x0 x1 5)) + (f_X1_monthLength x0 x1 6)) + (f_X1_monthLength x0 x1 7)) + (f_X1_monthLength x0 x1 8)) else (if x2 ≤ 10 then (((((((((0 + (f_X1_monthLength x0 x1 1)) + (f_X1_monthLength x0 x1 2)) + (f_X1_monthLength x0 x1 3)) + (f_X1_monthLength x0 x1 4)) + (f_X1_monthLength x0 x1 5)) + (f_X1_monthLength x0 x1 6)) + (f_X1_monthLength x0 x1 7)) + (f_X1_monthLength x0 x1 8)) + (f_X1_monthLength x0 x1 9)) else (if x2 ≤ 11 then ((((((((((0 + (f_X1_monthLength x0 x1 1)) + (f_X1_monthLength x0 x1 2)) + (f_X1_monthLength x0 x1 3)) + (f_X1_monthLength x0 x1 4)) + (f_X1_monthLength x0 x1 5)) + (f_X1_monthLength x0 x1 6)) + (f_X1_monthLength x0 x1 7)) + (f_X1_monthLength x0 x1 8)) + (f_X1_monthLength x0 x1 9)) + (f_X1_monthLength x0 x1 10)) else (if x2 ≤ 12 then (((((((((((0 + (f_X1_monthLength x0 x1 1)) + (f_X1_monthLength x0 x1 2)) + (f_X1_monthLength x0 x1 3)) + (f_X1_monthLength x0 x1 4)) + (f_X1_monthLength x0 x1 5)) + (f_X1_monthLength x0 x1 6)) + (f_X1_monthLength x0 x1 7)) + (f_X1_monthLength x0 x1 8)) + (f_X1_monthLength x0 x1 9)) + (f_X1_monthLength x0 x1 10)) + (f_X1_monthLength x0 x1 11)) else (if x2 ≤ 13 then ((((((((((((0 + (f_X1_monthLength x0 x1 1)) + (f_X1_monthLength x0 x1 2)) + (f_X1_monthLength x0 x1 3)) + (f_X1_monthLength x0 x1 4)) + (f_X1_monthLength x0 x1 5)) + (f_X1_monthLength x0 x1 6)) + (f_X1_monthLength x0 x1 7)) + (f_X1_monthLength x0 x1 8)) + (f_X1_monthLength x0 x1 9)) + (f_X1_monthLength x0 x1 10)) + (f_X1_monthLength x0 x1 11)) + (f_X1_monthLength x0 x1 12)) else ((((((((((((0 + (f_X1_monthLength x0 x1 1)) + (f_X1_monthLength x0 x1 2)) + (f_X1_monthLength x0 x1 3)) + (f_X1_monthLength x0 x1 4)) + (f_X1_monthLength x0 x1 5)) + (f_X1_monthLength x0 x1 6)) + (f_X1_monthLength x0 x1 7)) + (f_X1_monthLength x0 x1 8)) + (f_X1_monthLength x0 x1 9)) + (f_X1_monthLength x0 x1 10)) + (f_X1_monthLength x0 x1 11)) + (f_X1_monthLength x0 x1 12))))))))))))))
set_option maxHeartbeats 4000000 in
set_option maxRecDepth 100000 in
theorem k_X1_daysBeforeMonth (l : Launch) (tm tt : Nat) (x0 : Int32) (x1 : Int32) (x2 : Int32)  : Met l yX1_daysBeforeMonth wsX1_daysBeforeMonth ({ frames := 2, cells := 0, slots := 0, locals := 44 }) (fun v U => v = ([.int x0, .int x1, .int x2] : List Value).toArray ∧ GE tm tt (fun _ => False) U U.heap) (vp_Si (fun r => r = f_X1_daysBeforeMonth x0 x1 x2)) 0 0 (fun _ => False) := by
  refine Met.ofW (cc := cX1_daysBeforeMonth) (maxL := 5) (ret := (some .int)) (by decide) rfl ?_
  intro p e s m args below meth c s₁ B hml hv
  obtain ⟨rfl, hE⟩ := hv
  have hS : va_S (fun _ => False) s.heap s.heap [] := va_S.rf
  have hx := B.exec
  have hb := B.bytes
  have hr := B.returns
  have hts := atoms_spec (ws := wsX1_daysBeforeMonth) B.pre
  have hown : s.vm.findClass RX1 = some m.cls := findClass_of_methodNamed B.named
  have hlocks := B.notSynchronized
  have hl := lv_entry ([.int x0, .int x1, .int x2]) (n := 5) (Nat.le_of_ble_eq_true rfl)
  rw [lg_entry_eq]
  generalize (lg_sl ([.int x0, .int x1, .int x2]) ++ List.replicate (5 - (lg_sl ([.int x0, .int x1, .int x2])).length) Slot.unset).toArray = ls at hl ⊢
  have hl : lv_has ls 5 [(0, .int x0), (1, .int x1), (2, .int x2)] := hl
  refine lv_iconst (v := 0) hx hb dX1_daysBeforeMonth_0 (by decide) ?_
  refine lv_istore_n (lv' := [(3, .int 0), (0, .int x0), (1, .int x1), (2, .int x2)]) hx hb dX1_daysBeforeMonth_1 rfl hl (by decide) rfl (fun ls hl => ?_)
  refine lv_iconst (v := 1) hx hb dX1_daysBeforeMonth_2 (by decide) ?_
  refine lv_istore (lv' := [(4, .int 1), (3, .int 0), (0, .int x0), (1, .int x1), (2, .int x2)]) hx hb dX1_daysBeforeMonth_3 hl (by decide) rfl (fun ls hl => ?_)
  refine lv_iload hx hb dX1_daysBeforeMonth_5 (lv_at hl 0 rfl) ?_
  refine lv_iload_n hx hb dX1_daysBeforeMonth_7 rfl (lv_at hl 4 rfl) ?_
  refine lv_icmp_ge (tgt := 36) hx hb dX1_daysBeforeMonth_8 (by decide) (fun c_1 => ?_) (fun c_1 => ?_)
  · refine lv_iload_n hx hb dX1_daysBeforeMonth_36 rfl (lv_at hl 1 rfl) ?_
    exact W.iret hx hb hr (fun t ht _ => ⟨_, rfl, (by unfold f_X1_daysBeforeMonth; rw [if_pos c_1]), ht⟩) (fun _ h => nomatch h) dX1_daysBeforeMonth_37
  · refine lv_iload hx hb dX1_daysBeforeMonth_11 (lv_at hl 0 rfl) ?_
    refine va_gets hx hb hE.2.2.1.1 hS hown (hts (.fieldLink RX1 110 "SkyAlmanac" "MONTH_LENGTHS" "[I") (by decide +kernel)) (fun _ h => h) dX1_daysBeforeMonth_13 ?_
    refine va_tlen (v := 12) hx hb hE.2.2.1.2 hS (by decide) dX1_daysBeforeMonth_16 ?_
    refine lv_icmp_gt (tgt := 36) hx hb dX1_daysBeforeMonth_17 (by decide) (fun c_2 => absurd c_2 (by decide)) (fun _ => ?_)
    refine lv_iload_n hx hb dX1_daysBeforeMonth_20 rfl (lv_at hl 1 rfl) ?_
    refine lv_iload_n hx hb dX1_daysBeforeMonth_21 rfl (lv_at hl 2 rfl) ?_
    refine lv_iload_n hx hb dX1_daysBeforeMonth_22 rfl (lv_at hl 3 rfl) ?_
    refine lv_iload hx hb dX1_daysBeforeMonth_23 (lv_at hl 0 rfl) ?_
    refine vp_callSi (W.runS (As := [.int x0, .int x1, .int 1]) (rest := [.int 0]) ⟨hx, hb, hml, hown, hts⟩ (k_X1_monthLength l tm tt x0 x1 1) (va_cwS 3 hts gX1_daysBeforeMonth_X1_monthLength rfl rfl rfl (by decide +kernel) ⟨Nat.le_of_ble_eq_true rfl, Nat.le_of_ble_eq_true rfl⟩) ⟨(fun a U g9 mk q => ⟨q.1, GE.same (s := U) (U := U.calling g9 mk a) rfl q.2⟩), fun U hU hW => ⟨rfl, hE.give hS (fun _ h => h.elim) hU hW⟩⟩ rfl rfl hl.1 rfl (lv_room (Nat.le_of_ble_eq_true rfl)) dX1_daysBeforeMonth_25 ⟨Nat.zero_le _, Nat.zero_le _⟩) (fun r hr9 => ?_)
    obtain rfl := hr9
    refine lv_iadd hx hb dX1_daysBeforeMonth_28 ?_
    refine lv_istore_n (lv' := [(3, .int (0 + (f_X1_monthLength x0 x1 1))), (4, .int 1), (0, .int x0), (1, .int x1), (2, .int x2)]) hx hb dX1_daysBeforeMonth_29 rfl hl (by decide) rfl (fun ls hl => ?_)
    refine lv_iinc (v := 2) (lv' := [(4, .int 2), (3, .int (0 + (f_X1_monthLength x0 x1 1))), (0, .int x0), (1, .int x1), (2, .int x2)]) hx hb dX1_daysBeforeMonth_30 hl (k := 1) rfl (by first | rfl | decide) (by decide) rfl (fun ls hl => ?_)
    refine lv_goto (tgt := 5) hx hb dX1_daysBeforeMonth_33 (by decide) ?_
    refine lv_iload hx hb dX1_daysBeforeMonth_5 (lv_at hl 0 rfl) ?_
    refine lv_iload_n hx hb dX1_daysBeforeMonth_7 rfl (lv_at hl 4 rfl) ?_
    refine lv_icmp_ge (tgt := 36) hx hb dX1_daysBeforeMonth_8 (by decide) (fun c_3 => ?_) (fun c_3 => ?_)
    · refine lv_iload_n hx hb dX1_daysBeforeMonth_36 rfl (lv_at hl 1 rfl) ?_
      exact W.iret hx hb hr (fun t ht _ => ⟨_, rfl, (by unfold f_X1_daysBeforeMonth; rw [if_neg c_1, if_pos c_3]), ht⟩) (fun _ h => nomatch h) dX1_daysBeforeMonth_37
    · refine lv_iload hx hb dX1_daysBeforeMonth_11 (lv_at hl 0 rfl) ?_
      refine va_gets hx hb hE.2.2.1.1 hS hown (hts (.fieldLink RX1 110 "SkyAlmanac" "MONTH_LENGTHS" "[I") (by decide +kernel)) (fun _ h => h) dX1_daysBeforeMonth_13 ?_
      refine va_tlen (v := 12) hx hb hE.2.2.1.2 hS (by decide) dX1_daysBeforeMonth_16 ?_
      refine lv_icmp_gt (tgt := 36) hx hb dX1_daysBeforeMonth_17 (by decide) (fun c_4 => absurd c_4 (by decide)) (fun _ => ?_)
      refine lv_iload_n hx hb dX1_daysBeforeMonth_20 rfl (lv_at hl 1 rfl) ?_
      refine lv_iload_n hx hb dX1_daysBeforeMonth_21 rfl (lv_at hl 2 rfl) ?_
      refine lv_iload_n hx hb dX1_daysBeforeMonth_22 rfl (lv_at hl 3 rfl) ?_
      refine lv_iload hx hb dX1_daysBeforeMonth_23 (lv_at hl 0 rfl) ?_
      refine vp_callSi (W.runS (As := [.int x0, .int x1, .int 2]) (rest := [.int (0 + (f_X1_monthLength x0 x1 1))]) ⟨hx, hb, hml, hown, hts⟩ (k_X1_monthLength l tm tt x0 x1 2) (va_cwS 3 hts gX1_daysBeforeMonth_X1_monthLength rfl rfl rfl (by decide +kernel) ⟨Nat.le_of_ble_eq_true rfl, Nat.le_of_ble_eq_true rfl⟩) ⟨(fun a U g9 mk q => ⟨q.1, GE.same (s := U) (U := U.calling g9 mk a) rfl q.2⟩), fun U hU hW => ⟨rfl, hE.give hS (fun _ h => h.elim) hU hW⟩⟩ rfl rfl hl.1 rfl (lv_room (Nat.le_of_ble_eq_true rfl)) dX1_daysBeforeMonth_25 ⟨Nat.zero_le _, Nat.zero_le _⟩) (fun r hr9 => ?_)
      obtain rfl := hr9
      refine lv_iadd hx hb dX1_daysBeforeMonth_28 ?_
      refine lv_istore_n (lv' := [(3, .int ((0 + (f_X1_monthLength x0 x1 1)) + (f_X1_monthLength x0 x1 2))), (4, .int 2), (0, .int x0), (1, .int x1), (2, .int x2)]) hx hb dX1_daysBeforeMonth_29 rfl hl (by decide) rfl (fun ls hl => ?_)
      refine lv_iinc (v := 3) (lv' := [(4, .int 3), (3, .int ((0 + (f_X1_monthLength x0 x1 1)) + (f_X1_monthLength x0 x1 2))), (0, .int x0), (1, .int x1), (2, .int x2)]) hx hb dX1_daysBeforeMonth_30 hl (k := 1) rfl (by first | rfl | decide) (by decide) rfl (fun ls hl => ?_)
      refine lv_goto (tgt := 5) hx hb dX1_daysBeforeMonth_33 (by decide) ?_
      refine lv_iload hx hb dX1_daysBeforeMonth_5 (lv_at hl 0 rfl) ?_
      refine lv_iload_n hx hb dX1_daysBeforeMonth_7 rfl (lv_at hl 4 rfl) ?_
      refine lv_icmp_ge (tgt := 36) hx hb dX1_daysBeforeMonth_8 (by decide) (fun c_5 => ?_) (fun c_5 => ?_)
      · refine lv_iload_n hx hb dX1_daysBeforeMonth_36 rfl (lv_at hl 1 rfl) ?_
        exact W.iret hx hb hr (fun t ht _ => ⟨_, rfl, (by unfold f_X1_daysBeforeMonth; rw [if_neg c_1, if_neg c_3, if_pos c_5]), ht⟩) (fun _ h => nomatch h) dX1_daysBeforeMonth_37
      · refine lv_iload hx hb dX1_daysBeforeMonth_11 (lv_at hl 0 rfl) ?_
        refine va_gets hx hb hE.2.2.1.1 hS hown (hts (.fieldLink RX1 110 "SkyAlmanac" "MONTH_LENGTHS" "[I") (by decide +kernel)) (fun _ h => h) dX1_daysBeforeMonth_13 ?_
        refine va_tlen (v := 12) hx hb hE.2.2.1.2 hS (by decide) dX1_daysBeforeMonth_16 ?_
        refine lv_icmp_gt (tgt := 36) hx hb dX1_daysBeforeMonth_17 (by decide) (fun c_6 => absurd c_6 (by decide)) (fun _ => ?_)
        refine lv_iload_n hx hb dX1_daysBeforeMonth_20 rfl (lv_at hl 1 rfl) ?_
        refine lv_iload_n hx hb dX1_daysBeforeMonth_21 rfl (lv_at hl 2 rfl) ?_
        refine lv_iload_n hx hb dX1_daysBeforeMonth_22 rfl (lv_at hl 3 rfl) ?_
        refine lv_iload hx hb dX1_daysBeforeMonth_23 (lv_at hl 0 rfl) ?_
        refine vp_callSi (W.runS (As := [.int x0, .int x1, .int 3]) (rest := [.int ((0 + (f_X1_monthLength x0 x1 1)) + (f_X1_monthLength x0 x1 2))]) ⟨hx, hb, hml, hown, hts⟩ (k_X1_monthLength l tm tt x0 x1 3) (va_cwS 3 hts gX1_daysBeforeMonth_X1_monthLength rfl rfl rfl (by decide +kernel) ⟨Nat.le_of_ble_eq_true rfl, Nat.le_of_ble_eq_true rfl⟩) ⟨(fun a U g9 mk q => ⟨q.1, GE.same (s := U) (U := U.calling g9 mk a) rfl q.2⟩), fun U hU hW => ⟨rfl, hE.give hS (fun _ h => h.elim) hU hW⟩⟩ rfl rfl hl.1 rfl (lv_room (Nat.le_of_ble_eq_true rfl)) dX1_daysBeforeMonth_25 ⟨Nat.zero_le _, Nat.zero_le _⟩) (fun r hr9 => ?_)
        obtain rfl := hr9
        refine lv_iadd hx hb dX1_daysBeforeMonth_28 ?_
        refine lv_istore_n (lv' := [(3, .int (((0 + (f_X1_monthLength x0 x1 1)) + (f_X1_monthLength x0 x1 2)) + (f_X1_monthLength x0 x1 3))), (4, .int 3), (0, .int x0), (1, .int x1), (2, .int x2)]) hx hb dX1_daysBeforeMonth_29 rfl hl (by decide) rfl (fun ls hl => ?_)
        refine lv_iinc (v := 4) (lv' := [(4, .int 4), (3, .int (((0 + (f_X1_monthLength x0 x1 1)) + (f_X1_monthLength x0 x1 2)) + (f_X1_monthLength x0 x1 3))), (0, .int x0), (1, .int x1), (2, .int x2)]) hx hb dX1_daysBeforeMonth_30 hl (k := 1) rfl (by first | rfl | decide) (by decide) rfl (fun ls hl => ?_)
        refine lv_goto (tgt := 5) hx hb dX1_daysBeforeMonth_33 (by decide) ?_
        refine lv_iload hx hb dX1_daysBeforeMonth_5 (lv_at hl 0 rfl) ?_
        refine lv_iload_n hx hb dX1_daysBeforeMonth_7 rfl (lv_at hl 4 rfl) ?_
        refine lv_icmp_ge (tgt := 36) hx hb dX1_daysBeforeMonth_8 (by decide) (fun c_7 => ?_) (fun c_7 => ?_)
        · refine lv_iload_n hx hb dX1_daysBeforeMonth_36 rfl (lv_at hl 1 rfl) ?_
          exact W.iret hx hb hr (fun t ht _ => ⟨_, rfl, (by unfold f_X1_daysBeforeMonth; rw [if_neg c_1, if_neg c_3, if_neg c_5, if_pos c_7]), ht⟩) (fun _ h => nomatch h) dX1_daysBeforeMonth_37
        · refine lv_iload hx hb dX1_daysBeforeMonth_11 (lv_at hl 0 rfl) ?_
          refine va_gets hx hb hE.2.2.1.1 hS hown (hts (.fieldLink RX1 110 "SkyAlmanac" "MONTH_LENGTHS" "[I") (by decide +kernel)) (fun _ h => h) dX1_daysBeforeMonth_13 ?_
          refine va_tlen (v := 12) hx hb hE.2.2.1.2 hS (by decide) dX1_daysBeforeMonth_16 ?_
          refine lv_icmp_gt (tgt := 36) hx hb dX1_daysBeforeMonth_17 (by decide) (fun c_8 => absurd c_8 (by decide)) (fun _ => ?_)
          refine lv_iload_n hx hb dX1_daysBeforeMonth_20 rfl (lv_at hl 1 rfl) ?_
          refine lv_iload_n hx hb dX1_daysBeforeMonth_21 rfl (lv_at hl 2 rfl) ?_
          refine lv_iload_n hx hb dX1_daysBeforeMonth_22 rfl (lv_at hl 3 rfl) ?_
          refine lv_iload hx hb dX1_daysBeforeMonth_23 (lv_at hl 0 rfl) ?_
          refine vp_callSi (W.runS (As := [.int x0, .int x1, .int 4]) (rest := [.int (((0 + (f_X1_monthLength x0 x1 1)) + (f_X1_monthLength x0 x1 2)) + (f_X1_monthLength x0 x1 3))]) ⟨hx, hb, hml, hown, hts⟩ (k_X1_monthLength l tm tt x0 x1 4) (va_cwS 3 hts gX1_daysBeforeMonth_X1_monthLength rfl rfl rfl (by decide +kernel) ⟨Nat.le_of_ble_eq_true rfl, Nat.le_of_ble_eq_true rfl⟩) ⟨(fun a U g9 mk q => ⟨q.1, GE.same (s := U) (U := U.calling g9 mk a) rfl q.2⟩), fun U hU hW => ⟨rfl, hE.give hS (fun _ h => h.elim) hU hW⟩⟩ rfl rfl hl.1 rfl (lv_room (Nat.le_of_ble_eq_true rfl)) dX1_daysBeforeMonth_25 ⟨Nat.zero_le _, Nat.zero_le _⟩) (fun r hr9 => ?_)
          obtain rfl := hr9
          refine lv_iadd hx hb dX1_daysBeforeMonth_28 ?_
          refine lv_istore_n (lv' := [(3, .int ((((0 + (f_X1_monthLength x0 x1 1)) + (f_X1_monthLength x0 x1 2)) + (f_X1_monthLength x0 x1 3)) + (f_X1_monthLength x0 x1 4))), (4, .int 4), (0, .int x0), (1, .int x1), (2, .int x2)]) hx hb dX1_daysBeforeMonth_29 rfl hl (by decide) rfl (fun ls hl => ?_)
          refine lv_iinc (v := 5) (lv' := [(4, .int 5), (3, .int ((((0 + (f_X1_monthLength x0 x1 1)) + (f_X1_monthLength x0 x1 2)) + (f_X1_monthLength x0 x1 3)) + (f_X1_monthLength x0 x1 4))), (0, .int x0), (1, .int x1), (2, .int x2)]) hx hb dX1_daysBeforeMonth_30 hl (k := 1) rfl (by first | rfl | decide) (by decide) rfl (fun ls hl => ?_)
          refine lv_goto (tgt := 5) hx hb dX1_daysBeforeMonth_33 (by decide) ?_
          refine lv_iload hx hb dX1_daysBeforeMonth_5 (lv_at hl 0 rfl) ?_
          refine lv_iload_n hx hb dX1_daysBeforeMonth_7 rfl (lv_at hl 4 rfl) ?_
          refine lv_icmp_ge (tgt := 36) hx hb dX1_daysBeforeMonth_8 (by decide) (fun c_9 => ?_) (fun c_9 => ?_)
          · refine lv_iload_n hx hb dX1_daysBeforeMonth_36 rfl (lv_at hl 1 rfl) ?_
            exact W.iret hx hb hr (fun t ht _ => ⟨_, rfl, (by unfold f_X1_daysBeforeMonth; rw [if_neg c_1, if_neg c_3, if_neg c_5, if_neg c_7, if_pos c_9]), ht⟩) (fun _ h => nomatch h) dX1_daysBeforeMonth_37
          · refine lv_iload hx hb dX1_daysBeforeMonth_11 (lv_at hl 0 rfl) ?_
            refine va_gets hx hb hE.2.2.1.1 hS hown (hts (.fieldLink RX1 110 "SkyAlmanac" "MONTH_LENGTHS" "[I") (by decide +kernel)) (fun _ h => h) dX1_daysBeforeMonth_13 ?_
            refine va_tlen (v := 12) hx hb hE.2.2.1.2 hS (by decide) dX1_daysBeforeMonth_16 ?_
            refine lv_icmp_gt (tgt := 36) hx hb dX1_daysBeforeMonth_17 (by decide) (fun c_10 => absurd c_10 (by decide)) (fun _ => ?_)
            refine lv_iload_n hx hb dX1_daysBeforeMonth_20 rfl (lv_at hl 1 rfl) ?_
            refine lv_iload_n hx hb dX1_daysBeforeMonth_21 rfl (lv_at hl 2 rfl) ?_
            refine lv_iload_n hx hb dX1_daysBeforeMonth_22 rfl (lv_at hl 3 rfl) ?_
            refine lv_iload hx hb dX1_daysBeforeMonth_23 (lv_at hl 0 rfl) ?_
            refine vp_callSi (W.runS (As := [.int x0, .int x1, .int 5]) (rest := [.int ((((0 + (f_X1_monthLength x0 x1 1)) + (f_X1_monthLength x0 x1 2)) + (f_X1_monthLength x0 x1 3)) + (f_X1_monthLength x0 x1 4))]) ⟨hx, hb, hml, hown, hts⟩ (k_X1_monthLength l tm tt x0 x1 5) (va_cwS 3 hts gX1_daysBeforeMonth_X1_monthLength rfl rfl rfl (by decide +kernel) ⟨Nat.le_of_ble_eq_true rfl, Nat.le_of_ble_eq_true rfl⟩) ⟨(fun a U g9 mk q => ⟨q.1, GE.same (s := U) (U := U.calling g9 mk a) rfl q.2⟩), fun U hU hW => ⟨rfl, hE.give hS (fun _ h => h.elim) hU hW⟩⟩ rfl rfl hl.1 rfl (lv_room (Nat.le_of_ble_eq_true rfl)) dX1_daysBeforeMonth_25 ⟨Nat.zero_le _, Nat.zero_le _⟩) (fun r hr9 => ?_)
            obtain rfl := hr9
            refine lv_iadd hx hb dX1_daysBeforeMonth_28 ?_
            refine lv_istore_n (lv' := [(3, .int (((((0 + (f_X1_monthLength x0 x1 1)) + (f_X1_monthLength x0 x1 2)) + (f_X1_monthLength x0 x1 3)) + (f_X1_monthLength x0 x1 4)) + (f_X1_monthLength x0 x1 5))), (4, .int 5), (0, .int x0), (1, .int x1), (2, .int x2)]) hx hb dX1_daysBeforeMonth_29 rfl hl (by decide) rfl (fun ls hl => ?_)
            refine lv_iinc (v := 6) (lv' := [(4, .int 6), (3, .int (((((0 + (f_X1_monthLength x0 x1 1)) + (f_X1_monthLength x0 x1 2)) + (f_X1_monthLength x0 x1 3)) + (f_X1_monthLength x0 x1 4)) + (f_X1_monthLength x0 x1 5))), (0, .int x0), (1, .int x1), (2, .int x2)]) hx hb dX1_daysBeforeMonth_30 hl (k := 1) rfl (by first | rfl | decide) (by decide) rfl (fun ls hl => ?_)
            refine lv_goto (tgt := 5) hx hb dX1_daysBeforeMonth_33 (by decide) ?_
            refine lv_iload hx hb dX1_daysBeforeMonth_5 (lv_at hl 0 rfl) ?_
            refine lv_iload_n hx hb dX1_daysBeforeMonth_7 rfl (lv_at hl 4 rfl) ?_
            refine lv_icmp_ge (tgt := 36) hx hb dX1_daysBeforeMonth_8 (by decide) (fun c_11 => ?_) (fun c_11 => ?_)
            · refine lv_iload_n hx hb dX1_daysBeforeMonth_36 rfl (lv_at hl 1 rfl) ?_
              exact W.iret hx hb hr (fun t ht _ => ⟨_, rfl, (by unfold f_X1_daysBeforeMonth; rw [if_neg c_1, if_neg c_3, if_neg c_5, if_neg c_7, if_neg c_9, if_pos c_11]), ht⟩) (fun _ h => nomatch h) dX1_daysBeforeMonth_37
            · refine lv_iload hx hb dX1_daysBeforeMonth_11 (lv_at hl 0 rfl) ?_
              refine va_gets hx hb hE.2.2.1.1 hS hown (hts (.fieldLink RX1 110 "SkyAlmanac" "MONTH_LENGTHS" "[I") (by decide +kernel)) (fun _ h => h) dX1_daysBeforeMonth_13 ?_
              refine va_tlen (v := 12) hx hb hE.2.2.1.2 hS (by decide) dX1_daysBeforeMonth_16 ?_
              refine lv_icmp_gt (tgt := 36) hx hb dX1_daysBeforeMonth_17 (by decide) (fun c_12 => absurd c_12 (by decide)) (fun _ => ?_)
              refine lv_iload_n hx hb dX1_daysBeforeMonth_20 rfl (lv_at hl 1 rfl) ?_
              refine lv_iload_n hx hb dX1_daysBeforeMonth_21 rfl (lv_at hl 2 rfl) ?_
              refine lv_iload_n hx hb dX1_daysBeforeMonth_22 rfl (lv_at hl 3 rfl) ?_
              refine lv_iload hx hb dX1_daysBeforeMonth_23 (lv_at hl 0 rfl) ?_
              refine vp_callSi (W.runS (As := [.int x0, .int x1, .int 6]) (rest := [.int (((((0 + (f_X1_monthLength x0 x1 1)) + (f_X1_monthLength x0 x1 2)) + (f_X1_monthLength x0 x1 3)) + (f_X1_monthLength x0 x1 4)) + (f_X1_monthLength x0 x1 5))]) ⟨hx, hb, hml, hown, hts⟩ (k_X1_monthLength l tm tt x0 x1 6) (va_cwS 3 hts gX1_daysBeforeMonth_X1_monthLength rfl rfl rfl (by decide +kernel) ⟨Nat.le_of_ble_eq_true rfl, Nat.le_of_ble_eq_true rfl⟩) ⟨(fun a U g9 mk q => ⟨q.1, GE.same (s := U) (U := U.calling g9 mk a) rfl q.2⟩), fun U hU hW => ⟨rfl, hE.give hS (fun _ h => h.elim) hU hW⟩⟩ rfl rfl hl.1 rfl (lv_room (Nat.le_of_ble_eq_true rfl)) dX1_daysBeforeMonth_25 ⟨Nat.zero_le _, Nat.zero_le _⟩) (fun r hr9 => ?_)
              obtain rfl := hr9
              refine lv_iadd hx hb dX1_daysBeforeMonth_28 ?_
              refine lv_istore_n (lv' := [(3, .int ((((((0 + (f_X1_monthLength x0 x1 1)) + (f_X1_monthLength x0 x1 2)) + (f_X1_monthLength x0 x1 3)) + (f_X1_monthLength x0 x1 4)) + (f_X1_monthLength x0 x1 5)) + (f_X1_monthLength x0 x1 6))), (4, .int 6), (0, .int x0), (1, .int x1), (2, .int x2)]) hx hb dX1_daysBeforeMonth_29 rfl hl (by decide) rfl (fun ls hl => ?_)
              refine lv_iinc (v := 7) (lv' := [(4, .int 7), (3, .int ((((((0 + (f_X1_monthLength x0 x1 1)) + (f_X1_monthLength x0 x1 2)) + (f_X1_monthLength x0 x1 3)) + (f_X1_monthLength x0 x1 4)) + (f_X1_monthLength x0 x1 5)) + (f_X1_monthLength x0 x1 6))), (0, .int x0), (1, .int x1), (2, .int x2)]) hx hb dX1_daysBeforeMonth_30 hl (k := 1) rfl (by first | rfl | decide) (by decide) rfl (fun ls hl => ?_)
              refine lv_goto (tgt := 5) hx hb dX1_daysBeforeMonth_33 (by decide) ?_
              refine lv_iload hx hb dX1_daysBeforeMonth_5 (lv_at hl 0 rfl) ?_
              refine lv_iload_n hx hb dX1_daysBeforeMonth_7 rfl (lv_at hl 4 rfl) ?_
              refine lv_icmp_ge (tgt := 36) hx hb dX1_daysBeforeMonth_8 (by decide) (fun c_13 => ?_) (fun c_13 => ?_)
              · refine lv_iload_n hx hb dX1_daysBeforeMonth_36 rfl (lv_at hl 1 rfl) ?_
                exact W.iret hx hb hr (fun t ht _ => ⟨_, rfl, (by unfold f_X1_daysBeforeMonth; rw [if_neg c_1, if_neg c_3, if_neg c_5, if_neg c_7, if_neg c_9, if_neg c_11, if_pos c_13]), ht⟩) (fun _ h => nomatch h) dX1_daysBeforeMonth_37
              · refine lv_iload hx hb dX1_daysBeforeMonth_11 (lv_at hl 0 rfl) ?_
                refine va_gets hx hb hE.2.2.1.1 hS hown (hts (.fieldLink RX1 110 "SkyAlmanac" "MONTH_LENGTHS" "[I") (by decide +kernel)) (fun _ h => h) dX1_daysBeforeMonth_13 ?_
                refine va_tlen (v := 12) hx hb hE.2.2.1.2 hS (by decide) dX1_daysBeforeMonth_16 ?_
                refine lv_icmp_gt (tgt := 36) hx hb dX1_daysBeforeMonth_17 (by decide) (fun c_14 => absurd c_14 (by decide)) (fun _ => ?_)
                refine lv_iload_n hx hb dX1_daysBeforeMonth_20 rfl (lv_at hl 1 rfl) ?_
                refine lv_iload_n hx hb dX1_daysBeforeMonth_21 rfl (lv_at hl 2 rfl) ?_
                refine lv_iload_n hx hb dX1_daysBeforeMonth_22 rfl (lv_at hl 3 rfl) ?_
                refine lv_iload hx hb dX1_daysBeforeMonth_23 (lv_at hl 0 rfl) ?_
                refine vp_callSi (W.runS (As := [.int x0, .int x1, .int 7]) (rest := [.int ((((((0 + (f_X1_monthLength x0 x1 1)) + (f_X1_monthLength x0 x1 2)) + (f_X1_monthLength x0 x1 3)) + (f_X1_monthLength x0 x1 4)) + (f_X1_monthLength x0 x1 5)) + (f_X1_monthLength x0 x1 6))]) ⟨hx, hb, hml, hown, hts⟩ (k_X1_monthLength l tm tt x0 x1 7) (va_cwS 3 hts gX1_daysBeforeMonth_X1_monthLength rfl rfl rfl (by decide +kernel) ⟨Nat.le_of_ble_eq_true rfl, Nat.le_of_ble_eq_true rfl⟩) ⟨(fun a U g9 mk q => ⟨q.1, GE.same (s := U) (U := U.calling g9 mk a) rfl q.2⟩), fun U hU hW => ⟨rfl, hE.give hS (fun _ h => h.elim) hU hW⟩⟩ rfl rfl hl.1 rfl (lv_room (Nat.le_of_ble_eq_true rfl)) dX1_daysBeforeMonth_25 ⟨Nat.zero_le _, Nat.zero_le _⟩) (fun r hr9 => ?_)
                obtain rfl := hr9
                refine lv_iadd hx hb dX1_daysBeforeMonth_28 ?_
                refine lv_istore_n (lv' := [(3, .int (((((((0 + (f_X1_monthLength x0 x1 1)) + (f_X1_monthLength x0 x1 2)) + (f_X1_monthLength x0 x1 3)) + (f_X1_monthLength x0 x1 4)) + (f_X1_monthLength x0 x1 5)) + (f_X1_monthLength x0 x1 6)) + (f_X1_monthLength x0 x1 7))), (4, .int 7), (0, .int x0), (1, .int x1), (2, .int x2)]) hx hb dX1_daysBeforeMonth_29 rfl hl (by decide) rfl (fun ls hl => ?_)
                refine lv_iinc (v := 8) (lv' := [(4, .int 8), (3, .int (((((((0 + (f_X1_monthLength x0 x1 1)) + (f_X1_monthLength x0 x1 2)) + (f_X1_monthLength x0 x1 3)) + (f_X1_monthLength x0 x1 4)) + (f_X1_monthLength x0 x1 5)) + (f_X1_monthLength x0 x1 6)) + (f_X1_monthLength x0 x1 7))), (0, .int x0), (1, .int x1), (2, .int x2)]) hx hb dX1_daysBeforeMonth_30 hl (k := 1) rfl (by first | rfl | decide) (by decide) rfl (fun ls hl => ?_)
                refine lv_goto (tgt := 5) hx hb dX1_daysBeforeMonth_33 (by decide) ?_
                refine lv_iload hx hb dX1_daysBeforeMonth_5 (lv_at hl 0 rfl) ?_
                refine lv_iload_n hx hb dX1_daysBeforeMonth_7 rfl (lv_at hl 4 rfl) ?_
                refine lv_icmp_ge (tgt := 36) hx hb dX1_daysBeforeMonth_8 (by decide) (fun c_15 => ?_) (fun c_15 => ?_)
                · refine lv_iload_n hx hb dX1_daysBeforeMonth_36 rfl (lv_at hl 1 rfl) ?_
                  exact W.iret hx hb hr (fun t ht _ => ⟨_, rfl, (by unfold f_X1_daysBeforeMonth; rw [if_neg c_1, if_neg c_3, if_neg c_5, if_neg c_7, if_neg c_9, if_neg c_11, if_neg c_13, if_pos c_15]), ht⟩) (fun _ h => nomatch h) dX1_daysBeforeMonth_37
                · refine lv_iload hx hb dX1_daysBeforeMonth_11 (lv_at hl 0 rfl) ?_
                  refine va_gets hx hb hE.2.2.1.1 hS hown (hts (.fieldLink RX1 110 "SkyAlmanac" "MONTH_LENGTHS" "[I") (by decide +kernel)) (fun _ h => h) dX1_daysBeforeMonth_13 ?_
                  refine va_tlen (v := 12) hx hb hE.2.2.1.2 hS (by decide) dX1_daysBeforeMonth_16 ?_
                  refine lv_icmp_gt (tgt := 36) hx hb dX1_daysBeforeMonth_17 (by decide) (fun c_16 => absurd c_16 (by decide)) (fun _ => ?_)
                  refine lv_iload_n hx hb dX1_daysBeforeMonth_20 rfl (lv_at hl 1 rfl) ?_
                  refine lv_iload_n hx hb dX1_daysBeforeMonth_21 rfl (lv_at hl 2 rfl) ?_
                  refine lv_iload_n hx hb dX1_daysBeforeMonth_22 rfl (lv_at hl 3 rfl) ?_
                  refine lv_iload hx hb dX1_daysBeforeMonth_23 (lv_at hl 0 rfl) ?_
                  refine vp_callSi (W.runS (As := [.int x0, .int x1, .int 8]) (rest := [.int (((((((0 + (f_X1_monthLength x0 x1 1)) + (f_X1_monthLength x0 x1 2)) + (f_X1_monthLength x0 x1 3)) + (f_X1_monthLength x0 x1 4)) + (f_X1_monthLength x0 x1 5)) + (f_X1_monthLength x0 x1 6)) + (f_X1_monthLength x0 x1 7))]) ⟨hx, hb, hml, hown, hts⟩ (k_X1_monthLength l tm tt x0 x1 8) (va_cwS 3 hts gX1_daysBeforeMonth_X1_monthLength rfl rfl rfl (by decide +kernel) ⟨Nat.le_of_ble_eq_true rfl, Nat.le_of_ble_eq_true rfl⟩) ⟨(fun a U g9 mk q => ⟨q.1, GE.same (s := U) (U := U.calling g9 mk a) rfl q.2⟩), fun U hU hW => ⟨rfl, hE.give hS (fun _ h => h.elim) hU hW⟩⟩ rfl rfl hl.1 rfl (lv_room (Nat.le_of_ble_eq_true rfl)) dX1_daysBeforeMonth_25 ⟨Nat.zero_le _, Nat.zero_le _⟩) (fun r hr9 => ?_)
                  obtain rfl := hr9
                  refine lv_iadd hx hb dX1_daysBeforeMonth_28 ?_
                  refine lv_istore_n (lv' := [(3, .int ((((((((0 + (f_X1_monthLength x0 x1 1)) + (f_X1_monthLength x0 x1 2)) + (f_X1_monthLength x0 x1 3)) + (f_X1_monthLength x0 x1 4)) + (f_X1_monthLength x0 x1 5)) + (f_X1_monthLength x0 x1 6)) + (f_X1_monthLength x0 x1 7)) + (f_X1_monthLength x0 x1 8))), (4, .int 8), (0, .int x0), (1, .int x1), (2, .int x2)]) hx hb dX1_daysBeforeMonth_29 rfl hl (by decide) rfl (fun ls hl => ?_)
                  refine lv_iinc (v := 9) (lv' := [(4, .int 9), (3, .int ((((((((0 + (f_X1_monthLength x0 x1 1)) + (f_X1_monthLength x0 x1 2)) + (f_X1_monthLength x0 x1 3)) + (f_X1_monthLength x0 x1 4)) + (f_X1_monthLength x0 x1 5)) + (f_X1_monthLength x0 x1 6)) + (f_X1_monthLength x0 x1 7)) + (f_X1_monthLength x0 x1 8))), (0, .int x0), (1, .int x1), (2, .int x2)]) hx hb dX1_daysBeforeMonth_30 hl (k := 1) rfl (by first | rfl | decide) (by decide) rfl (fun ls hl => ?_)
                  refine lv_goto (tgt := 5) hx hb dX1_daysBeforeMonth_33 (by decide) ?_
                  refine lv_iload hx hb dX1_daysBeforeMonth_5 (lv_at hl 0 rfl) ?_
                  refine lv_iload_n hx hb dX1_daysBeforeMonth_7 rfl (lv_at hl 4 rfl) ?_
                  refine lv_icmp_ge (tgt := 36) hx hb dX1_daysBeforeMonth_8 (by decide) (fun c_17 => ?_) (fun c_17 => ?_)
                  · refine lv_iload_n hx hb dX1_daysBeforeMonth_36 rfl (lv_at hl 1 rfl) ?_
                    exact W.iret hx hb hr (fun t ht _ => ⟨_, rfl, (by unfold f_X1_daysBeforeMonth; rw [if_neg c_1, if_neg c_3, if_neg c_5, if_neg c_7, if_neg c_9, if_neg c_11, if_neg c_13, if_neg c_15, if_pos c_17]), ht⟩) (fun _ h => nomatch h) dX1_daysBeforeMonth_37
                  · refine lv_iload hx hb dX1_daysBeforeMonth_11 (lv_at hl 0 rfl) ?_
                    refine va_gets hx hb hE.2.2.1.1 hS hown (hts (.fieldLink RX1 110 "SkyAlmanac" "MONTH_LENGTHS" "[I") (by decide +kernel)) (fun _ h => h) dX1_daysBeforeMonth_13 ?_
                    refine va_tlen (v := 12) hx hb hE.2.2.1.2 hS (by decide) dX1_daysBeforeMonth_16 ?_
                    refine lv_icmp_gt (tgt := 36) hx hb dX1_daysBeforeMonth_17 (by decide) (fun c_18 => absurd c_18 (by decide)) (fun _ => ?_)
                    refine lv_iload_n hx hb dX1_daysBeforeMonth_20 rfl (lv_at hl 1 rfl) ?_
                    refine lv_iload_n hx hb dX1_daysBeforeMonth_21 rfl (lv_at hl 2 rfl) ?_
                    refine lv_iload_n hx hb dX1_daysBeforeMonth_22 rfl (lv_at hl 3 rfl) ?_
                    refine lv_iload hx hb dX1_daysBeforeMonth_23 (lv_at hl 0 rfl) ?_
                    refine vp_callSi (W.runS (As := [.int x0, .int x1, .int 9]) (rest := [.int ((((((((0 + (f_X1_monthLength x0 x1 1)) + (f_X1_monthLength x0 x1 2)) + (f_X1_monthLength x0 x1 3)) + (f_X1_monthLength x0 x1 4)) + (f_X1_monthLength x0 x1 5)) + (f_X1_monthLength x0 x1 6)) + (f_X1_monthLength x0 x1 7)) + (f_X1_monthLength x0 x1 8))]) ⟨hx, hb, hml, hown, hts⟩ (k_X1_monthLength l tm tt x0 x1 9) (va_cwS 3 hts gX1_daysBeforeMonth_X1_monthLength rfl rfl rfl (by decide +kernel) ⟨Nat.le_of_ble_eq_true rfl, Nat.le_of_ble_eq_true rfl⟩) ⟨(fun a U g9 mk q => ⟨q.1, GE.same (s := U) (U := U.calling g9 mk a) rfl q.2⟩), fun U hU hW => ⟨rfl, hE.give hS (fun _ h => h.elim) hU hW⟩⟩ rfl rfl hl.1 rfl (lv_room (Nat.le_of_ble_eq_true rfl)) dX1_daysBeforeMonth_25 ⟨Nat.zero_le _, Nat.zero_le _⟩) (fun r hr9 => ?_)
                    obtain rfl := hr9
                    refine lv_iadd hx hb dX1_daysBeforeMonth_28 ?_
                    refine lv_istore_n (lv' := [(3, .int (((((((((0 + (f_X1_monthLength x0 x1 1)) + (f_X1_monthLength x0 x1 2)) + (f_X1_monthLength x0 x1 3)) + (f_X1_monthLength x0 x1 4)) + (f_X1_monthLength x0 x1 5)) + (f_X1_monthLength x0 x1 6)) + (f_X1_monthLength x0 x1 7)) + (f_X1_monthLength x0 x1 8)) + (f_X1_monthLength x0 x1 9))), (4, .int 9), (0, .int x0), (1, .int x1), (2, .int x2)]) hx hb dX1_daysBeforeMonth_29 rfl hl (by decide) rfl (fun ls hl => ?_)
                    refine lv_iinc (v := 10) (lv' := [(4, .int 10), (3, .int (((((((((0 + (f_X1_monthLength x0 x1 1)) + (f_X1_monthLength x0 x1 2)) + (f_X1_monthLength x0 x1 3)) + (f_X1_monthLength x0 x1 4)) + (f_X1_monthLength x0 x1 5)) + (f_X1_monthLength x0 x1 6)) + (f_X1_monthLength x0 x1 7)) + (f_X1_monthLength x0 x1 8)) + (f_X1_monthLength x0 x1 9))), (0, .int x0), (1, .int x1), (2, .int x2)]) hx hb dX1_daysBeforeMonth_30 hl (k := 1) rfl (by first | rfl | decide) (by decide) rfl (fun ls hl => ?_)
                    refine lv_goto (tgt := 5) hx hb dX1_daysBeforeMonth_33 (by decide) ?_
                    refine lv_iload hx hb dX1_daysBeforeMonth_5 (lv_at hl 0 rfl) ?_
                    refine lv_iload_n hx hb dX1_daysBeforeMonth_7 rfl (lv_at hl 4 rfl) ?_
                    refine lv_icmp_ge (tgt := 36) hx hb dX1_daysBeforeMonth_8 (by decide) (fun c_19 => ?_) (fun c_19 => ?_)
                    · refine lv_iload_n hx hb dX1_daysBeforeMonth_36 rfl (lv_at hl 1 rfl) ?_
                      exact W.iret hx hb hr (fun t ht _ => ⟨_, rfl, (by unfold f_X1_daysBeforeMonth; rw [if_neg c_1, if_neg c_3, if_neg c_5, if_neg c_7, if_neg c_9, if_neg c_11, if_neg c_13, if_neg c_15, if_neg c_17, if_pos c_19]), ht⟩) (fun _ h => nomatch h) dX1_daysBeforeMonth_37
                    · refine lv_iload hx hb dX1_daysBeforeMonth_11 (lv_at hl 0 rfl) ?_
                      refine va_gets hx hb hE.2.2.1.1 hS hown (hts (.fieldLink RX1 110 "SkyAlmanac" "MONTH_LENGTHS" "[I") (by decide +kernel)) (fun _ h => h) dX1_daysBeforeMonth_13 ?_
                      refine va_tlen (v := 12) hx hb hE.2.2.1.2 hS (by decide) dX1_daysBeforeMonth_16 ?_
                      refine lv_icmp_gt (tgt := 36) hx hb dX1_daysBeforeMonth_17 (by decide) (fun c_20 => absurd c_20 (by decide)) (fun _ => ?_)
                      refine lv_iload_n hx hb dX1_daysBeforeMonth_20 rfl (lv_at hl 1 rfl) ?_
                      refine lv_iload_n hx hb dX1_daysBeforeMonth_21 rfl (lv_at hl 2 rfl) ?_
                      refine lv_iload_n hx hb dX1_daysBeforeMonth_22 rfl (lv_at hl 3 rfl) ?_
                      refine lv_iload hx hb dX1_daysBeforeMonth_23 (lv_at hl 0 rfl) ?_
                      refine vp_callSi (W.runS (As := [.int x0, .int x1, .int 10]) (rest := [.int (((((((((0 + (f_X1_monthLength x0 x1 1)) + (f_X1_monthLength x0 x1 2)) + (f_X1_monthLength x0 x1 3)) + (f_X1_monthLength x0 x1 4)) + (f_X1_monthLength x0 x1 5)) + (f_X1_monthLength x0 x1 6)) + (f_X1_monthLength x0 x1 7)) + (f_X1_monthLength x0 x1 8)) + (f_X1_monthLength x0 x1 9))]) ⟨hx, hb, hml, hown, hts⟩ (k_X1_monthLength l tm tt x0 x1 10) (va_cwS 3 hts gX1_daysBeforeMonth_X1_monthLength rfl rfl rfl (by decide +kernel) ⟨Nat.le_of_ble_eq_true rfl, Nat.le_of_ble_eq_true rfl⟩) ⟨(fun a U g9 mk q => ⟨q.1, GE.same (s := U) (U := U.calling g9 mk a) rfl q.2⟩), fun U hU hW => ⟨rfl, hE.give hS (fun _ h => h.elim) hU hW⟩⟩ rfl rfl hl.1 rfl (lv_room (Nat.le_of_ble_eq_true rfl)) dX1_daysBeforeMonth_25 ⟨Nat.zero_le _, Nat.zero_le _⟩) (fun r hr9 => ?_)
                      obtain rfl := hr9
                      refine lv_iadd hx hb dX1_daysBeforeMonth_28 ?_
                      refine lv_istore_n (lv' := [(3, .int ((((((((((0 + (f_X1_monthLength x0 x1 1)) + (f_X1_monthLength x0 x1 2)) + (f_X1_monthLength x0 x1 3)) + (f_X1_monthLength x0 x1 4)) + (f_X1_monthLength x0 x1 5)) + (f_X1_monthLength x0 x1 6)) + (f_X1_monthLength x0 x1 7)) + (f_X1_monthLength x0 x1 8)) + (f_X1_monthLength x0 x1 9)) + (f_X1_monthLength x0 x1 10))), (4, .int 10), (0, .int x0), (1, .int x1), (2, .int x2)]) hx hb dX1_daysBeforeMonth_29 rfl hl (by decide) rfl (fun ls hl => ?_)
                      refine lv_iinc (v := 11) (lv' := [(4, .int 11), (3, .int ((((((((((0 + (f_X1_monthLength x0 x1 1)) + (f_X1_monthLength x0 x1 2)) + (f_X1_monthLength x0 x1 3)) + (f_X1_monthLength x0 x1 4)) + (f_X1_monthLength x0 x1 5)) + (f_X1_monthLength x0 x1 6)) + (f_X1_monthLength x0 x1 7)) + (f_X1_monthLength x0 x1 8)) + (f_X1_monthLength x0 x1 9)) + (f_X1_monthLength x0 x1 10))), (0, .int x0), (1, .int x1), (2, .int x2)]) hx hb dX1_daysBeforeMonth_30 hl (k := 1) rfl (by first | rfl | decide) (by decide) rfl (fun ls hl => ?_)
                      refine lv_goto (tgt := 5) hx hb dX1_daysBeforeMonth_33 (by decide) ?_
                      refine lv_iload hx hb dX1_daysBeforeMonth_5 (lv_at hl 0 rfl) ?_
                      refine lv_iload_n hx hb dX1_daysBeforeMonth_7 rfl (lv_at hl 4 rfl) ?_
                      refine lv_icmp_ge (tgt := 36) hx hb dX1_daysBeforeMonth_8 (by decide) (fun c_21 => ?_) (fun c_21 => ?_)
                      · refine lv_iload_n hx hb dX1_daysBeforeMonth_36 rfl (lv_at hl 1 rfl) ?_
                        exact W.iret hx hb hr (fun t ht _ => ⟨_, rfl, (by unfold f_X1_daysBeforeMonth; rw [if_neg c_1, if_neg c_3, if_neg c_5, if_neg c_7, if_neg c_9, if_neg c_11, if_neg c_13, if_neg c_15, if_neg c_17, if_neg c_19, if_pos c_21]), ht⟩) (fun _ h => nomatch h) dX1_daysBeforeMonth_37
                      · refine lv_iload hx hb dX1_daysBeforeMonth_11 (lv_at hl 0 rfl) ?_
                        refine va_gets hx hb hE.2.2.1.1 hS hown (hts (.fieldLink RX1 110 "SkyAlmanac" "MONTH_LENGTHS" "[I") (by decide +kernel)) (fun _ h => h) dX1_daysBeforeMonth_13 ?_
                        refine va_tlen (v := 12) hx hb hE.2.2.1.2 hS (by decide) dX1_daysBeforeMonth_16 ?_
                        refine lv_icmp_gt (tgt := 36) hx hb dX1_daysBeforeMonth_17 (by decide) (fun c_22 => absurd c_22 (by decide)) (fun _ => ?_)
                        refine lv_iload_n hx hb dX1_daysBeforeMonth_20 rfl (lv_at hl 1 rfl) ?_
                        refine lv_iload_n hx hb dX1_daysBeforeMonth_21 rfl (lv_at hl 2 rfl) ?_
                        refine lv_iload_n hx hb dX1_daysBeforeMonth_22 rfl (lv_at hl 3 rfl) ?_
                        refine lv_iload hx hb dX1_daysBeforeMonth_23 (lv_at hl 0 rfl) ?_
                        refine vp_callSi (W.runS (As := [.int x0, .int x1, .int 11]) (rest := [.int ((((((((((0 + (f_X1_monthLength x0 x1 1)) + (f_X1_monthLength x0 x1 2)) + (f_X1_monthLength x0 x1 3)) + (f_X1_monthLength x0 x1 4)) + (f_X1_monthLength x0 x1 5)) + (f_X1_monthLength x0 x1 6)) + (f_X1_monthLength x0 x1 7)) + (f_X1_monthLength x0 x1 8)) + (f_X1_monthLength x0 x1 9)) + (f_X1_monthLength x0 x1 10))]) ⟨hx, hb, hml, hown, hts⟩ (k_X1_monthLength l tm tt x0 x1 11) (va_cwS 3 hts gX1_daysBeforeMonth_X1_monthLength rfl rfl rfl (by decide +kernel) ⟨Nat.le_of_ble_eq_true rfl, Nat.le_of_ble_eq_true rfl⟩) ⟨(fun a U g9 mk q => ⟨q.1, GE.same (s := U) (U := U.calling g9 mk a) rfl q.2⟩), fun U hU hW => ⟨rfl, hE.give hS (fun _ h => h.elim) hU hW⟩⟩ rfl rfl hl.1 rfl (lv_room (Nat.le_of_ble_eq_true rfl)) dX1_daysBeforeMonth_25 ⟨Nat.zero_le _, Nat.zero_le _⟩) (fun r hr9 => ?_)
                        obtain rfl := hr9
                        refine lv_iadd hx hb dX1_daysBeforeMonth_28 ?_
                        refine lv_istore_n (lv' := [(3, .int (((((((((((0 + (f_X1_monthLength x0 x1 1)) + (f_X1_monthLength x0 x1 2)) + (f_X1_monthLength x0 x1 3)) + (f_X1_monthLength x0 x1 4)) + (f_X1_monthLength x0 x1 5)) + (f_X1_monthLength x0 x1 6)) + (f_X1_monthLength x0 x1 7)) + (f_X1_monthLength x0 x1 8)) + (f_X1_monthLength x0 x1 9)) + (f_X1_monthLength x0 x1 10)) + (f_X1_monthLength x0 x1 11))), (4, .int 11), (0, .int x0), (1, .int x1), (2, .int x2)]) hx hb dX1_daysBeforeMonth_29 rfl hl (by decide) rfl (fun ls hl => ?_)
                        refine lv_iinc (v := 12) (lv' := [(4, .int 12), (3, .int (((((((((((0 + (f_X1_monthLength x0 x1 1)) + (f_X1_monthLength x0 x1 2)) + (f_X1_monthLength x0 x1 3)) + (f_X1_monthLength x0 x1 4)) + (f_X1_monthLength x0 x1 5)) + (f_X1_monthLength x0 x1 6)) + (f_X1_monthLength x0 x1 7)) + (f_X1_monthLength x0 x1 8)) + (f_X1_monthLength x0 x1 9)) + (f_X1_monthLength x0 x1 10)) + (f_X1_monthLength x0 x1 11))), (0, .int x0), (1, .int x1), (2, .int x2)]) hx hb dX1_daysBeforeMonth_30 hl (k := 1) rfl (by first | rfl | decide) (by decide) rfl (fun ls hl => ?_)
                        refine lv_goto (tgt := 5) hx hb dX1_daysBeforeMonth_33 (by decide) ?_
                        refine lv_iload hx hb dX1_daysBeforeMonth_5 (lv_at hl 0 rfl) ?_
                        refine lv_iload_n hx hb dX1_daysBeforeMonth_7 rfl (lv_at hl 4 rfl) ?_
                        refine lv_icmp_ge (tgt := 36) hx hb dX1_daysBeforeMonth_8 (by decide) (fun c_23 => ?_) (fun c_23 => ?_)
                        · refine lv_iload_n hx hb dX1_daysBeforeMonth_36 rfl (lv_at hl 1 rfl) ?_
                          exact W.iret hx hb hr (fun t ht _ => ⟨_, rfl, (by unfold f_X1_daysBeforeMonth; rw [if_neg c_1, if_neg c_3, if_neg c_5, if_neg c_7, if_neg c_9, if_neg c_11, if_neg c_13, if_neg c_15, if_neg c_17, if_neg c_19, if_neg c_21, if_pos c_23]), ht⟩) (fun _ h => nomatch h) dX1_daysBeforeMonth_37
                        · refine lv_iload hx hb dX1_daysBeforeMonth_11 (lv_at hl 0 rfl) ?_
                          refine va_gets hx hb hE.2.2.1.1 hS hown (hts (.fieldLink RX1 110 "SkyAlmanac" "MONTH_LENGTHS" "[I") (by decide +kernel)) (fun _ h => h) dX1_daysBeforeMonth_13 ?_
                          refine va_tlen (v := 12) hx hb hE.2.2.1.2 hS (by decide) dX1_daysBeforeMonth_16 ?_
                          refine lv_icmp_gt (tgt := 36) hx hb dX1_daysBeforeMonth_17 (by decide) (fun c_24 => absurd c_24 (by decide)) (fun _ => ?_)
                          refine lv_iload_n hx hb dX1_daysBeforeMonth_20 rfl (lv_at hl 1 rfl) ?_
                          refine lv_iload_n hx hb dX1_daysBeforeMonth_21 rfl (lv_at hl 2 rfl) ?_
                          refine lv_iload_n hx hb dX1_daysBeforeMonth_22 rfl (lv_at hl 3 rfl) ?_
                          refine lv_iload hx hb dX1_daysBeforeMonth_23 (lv_at hl 0 rfl) ?_
                          refine vp_callSi (W.runS (As := [.int x0, .int x1, .int 12]) (rest := [.int (((((((((((0 + (f_X1_monthLength x0 x1 1)) + (f_X1_monthLength x0 x1 2)) + (f_X1_monthLength x0 x1 3)) + (f_X1_monthLength x0 x1 4)) + (f_X1_monthLength x0 x1 5)) + (f_X1_monthLength x0 x1 6)) + (f_X1_monthLength x0 x1 7)) + (f_X1_monthLength x0 x1 8)) + (f_X1_monthLength x0 x1 9)) + (f_X1_monthLength x0 x1 10)) + (f_X1_monthLength x0 x1 11))]) ⟨hx, hb, hml, hown, hts⟩ (k_X1_monthLength l tm tt x0 x1 12) (va_cwS 3 hts gX1_daysBeforeMonth_X1_monthLength rfl rfl rfl (by decide +kernel) ⟨Nat.le_of_ble_eq_true rfl, Nat.le_of_ble_eq_true rfl⟩) ⟨(fun a U g9 mk q => ⟨q.1, GE.same (s := U) (U := U.calling g9 mk a) rfl q.2⟩), fun U hU hW => ⟨rfl, hE.give hS (fun _ h => h.elim) hU hW⟩⟩ rfl rfl hl.1 rfl (lv_room (Nat.le_of_ble_eq_true rfl)) dX1_daysBeforeMonth_25 ⟨Nat.zero_le _, Nat.zero_le _⟩) (fun r hr9 => ?_)
                          obtain rfl := hr9
                          refine lv_iadd hx hb dX1_daysBeforeMonth_28 ?_
                          refine lv_istore_n (lv' := [(3, .int ((((((((((((0 + (f_X1_monthLength x0 x1 1)) + (f_X1_monthLength x0 x1 2)) + (f_X1_monthLength x0 x1 3)) + (f_X1_monthLength x0 x1 4)) + (f_X1_monthLength x0 x1 5)) + (f_X1_monthLength x0 x1 6)) + (f_X1_monthLength x0 x1 7)) + (f_X1_monthLength x0 x1 8)) + (f_X1_monthLength x0 x1 9)) + (f_X1_monthLength x0 x1 10)) + (f_X1_monthLength x0 x1 11)) + (f_X1_monthLength x0 x1 12))), (4, .int 12), (0, .int x0), (1, .int x1), (2, .int x2)]) hx hb dX1_daysBeforeMonth_29 rfl hl (by decide) rfl (fun ls hl => ?_)
                          refine lv_iinc (v := 13) (lv' := [(4, .int 13), (3, .int ((((((((((((0 + (f_X1_monthLength x0 x1 1)) + (f_X1_monthLength x0 x1 2)) + (f_X1_monthLength x0 x1 3)) + (f_X1_monthLength x0 x1 4)) + (f_X1_monthLength x0 x1 5)) + (f_X1_monthLength x0 x1 6)) + (f_X1_monthLength x0 x1 7)) + (f_X1_monthLength x0 x1 8)) + (f_X1_monthLength x0 x1 9)) + (f_X1_monthLength x0 x1 10)) + (f_X1_monthLength x0 x1 11)) + (f_X1_monthLength x0 x1 12))), (0, .int x0), (1, .int x1), (2, .int x2)]) hx hb dX1_daysBeforeMonth_30 hl (k := 1) rfl (by first | rfl | decide) (by decide) rfl (fun ls hl => ?_)
                          refine lv_goto (tgt := 5) hx hb dX1_daysBeforeMonth_33 (by decide) ?_
                          refine lv_iload hx hb dX1_daysBeforeMonth_5 (lv_at hl 0 rfl) ?_
                          refine lv_iload_n hx hb dX1_daysBeforeMonth_7 rfl (lv_at hl 4 rfl) ?_
                          refine lv_icmp_ge (tgt := 36) hx hb dX1_daysBeforeMonth_8 (by decide) (fun c_25 => ?_) (fun c_25 => ?_)
                          · refine lv_iload_n hx hb dX1_daysBeforeMonth_36 rfl (lv_at hl 1 rfl) ?_
                            exact W.iret hx hb hr (fun t ht _ => ⟨_, rfl, (by unfold f_X1_daysBeforeMonth; rw [if_neg c_1, if_neg c_3, if_neg c_5, if_neg c_7, if_neg c_9, if_neg c_11, if_neg c_13, if_neg c_15, if_neg c_17, if_neg c_19, if_neg c_21, if_neg c_23, if_pos c_25]), ht⟩) (fun _ h => nomatch h) dX1_daysBeforeMonth_37
                          · refine lv_iload hx hb dX1_daysBeforeMonth_11 (lv_at hl 0 rfl) ?_
                            refine va_gets hx hb hE.2.2.1.1 hS hown (hts (.fieldLink RX1 110 "SkyAlmanac" "MONTH_LENGTHS" "[I") (by decide +kernel)) (fun _ h => h) dX1_daysBeforeMonth_13 ?_
                            refine va_tlen (v := 12) hx hb hE.2.2.1.2 hS (by decide) dX1_daysBeforeMonth_16 ?_
                            refine lv_icmp_gt (tgt := 36) hx hb dX1_daysBeforeMonth_17 (by decide) (fun _ => ?_) (fun c_26 => absurd c_26 (by decide))
                            refine lv_iload_n hx hb dX1_daysBeforeMonth_36 rfl (lv_at hl 1 rfl) ?_
                            exact W.iret hx hb hr (fun t ht _ => ⟨_, rfl, (by unfold f_X1_daysBeforeMonth; rw [if_neg c_1, if_neg c_3, if_neg c_5, if_neg c_7, if_neg c_9, if_neg c_11, if_neg c_13, if_neg c_15, if_neg c_17, if_neg c_19, if_neg c_21, if_neg c_23, if_neg c_25]), ht⟩) (fun _ h => nomatch h) dX1_daysBeforeMonth_37

def f_X1_monthOfDayWithinYear (x0 : Int32) (x1 : Int32) (x2 : Int32) : Int32 := if (f_X1_daysBeforeMonth x0 x1 12) < x2 then (12) else (if (f_X1_daysBeforeMonth x0 x1 11) < x2 then (11) else (if (f_X1_daysBeforeMonth x0 x1 10) < x2 then (10) else (if (f_X1_daysBeforeMonth x0 x1 9) < x2 then (9) else (if (f_X1_daysBeforeMonth x0 x1 8) < x2 then (8) else (if (f_X1_daysBeforeMonth x0 x1 7) < x2 then (7) else (if (f_X1_daysBeforeMonth x0 x1 6) < x2 then (6) else (if (f_X1_daysBeforeMonth x0 x1 5) < x2 then (5) else (if (f_X1_daysBeforeMonth x0 x1 4) < x2 then (4) else (if (f_X1_daysBeforeMonth x0 x1 3) < x2 then (3) else (if (f_X1_daysBeforeMonth x0 x1 2) < x2 then (2) else (1)))))))))))
set_option maxHeartbeats 4000000 in
set_option maxRecDepth 100000 in
theorem k_X1_monthOfDayWithinYear (l : Launch) (tm tt : Nat) (x0 : Int32) (x1 : Int32) (x2 : Int32)  : Met l yX1_monthOfDayWithinYear wsX1_monthOfDayWithinYear ({ frames := 3, cells := 0, slots := 0, locals := 68 }) (fun v U => v = ([.int x0, .int x1, .int x2] : List Value).toArray ∧ GE tm tt (fun _ => False) U U.heap) (vp_Si (fun r => r = f_X1_monthOfDayWithinYear x0 x1 x2)) 0 0 (fun _ => False) := by
  refine Met.ofW (cc := cX1_monthOfDayWithinYear) (maxL := 4) (ret := (some .int)) (by decide) rfl ?_
  intro p e s m args below meth c s₁ B hml hv
  obtain ⟨rfl, hE⟩ := hv
  have hS : va_S (fun _ => False) s.heap s.heap [] := va_S.rf
  have hx := B.exec
  have hb := B.bytes
  have hr := B.returns
  have hts := atoms_spec (ws := wsX1_monthOfDayWithinYear) B.pre
  have hown : s.vm.findClass RX1 = some m.cls := findClass_of_methodNamed B.named
  have hlocks := B.notSynchronized
  have hl := lv_entry ([.int x0, .int x1, .int x2]) (n := 4) (Nat.le_of_ble_eq_true rfl)
  rw [lg_entry_eq]
  generalize (lg_sl ([.int x0, .int x1, .int x2]) ++ List.replicate (4 - (lg_sl ([.int x0, .int x1, .int x2])).length) Slot.unset).toArray = ls at hl ⊢
  have hl : lv_has ls 4 [(0, .int x0), (1, .int x1), (2, .int x2)] := hl
  refine va_gets hx hb hE.2.2.1.1 hS hown (hts (.fieldLink RX1 110 "SkyAlmanac" "MONTH_LENGTHS" "[I") (by decide +kernel)) (fun _ h => h) dX1_monthOfDayWithinYear_0 ?_
  refine va_tlen (v := 12) hx hb hE.2.2.1.2 hS (by decide) dX1_monthOfDayWithinYear_3 ?_
  refine lv_istore_n (lv' := [(3, .int 12), (0, .int x0), (1, .int x1), (2, .int x2)]) hx hb dX1_monthOfDayWithinYear_4 rfl hl (by decide) rfl (fun ls hl => ?_)
  refine lv_iload_n hx hb dX1_monthOfDayWithinYear_5 rfl (lv_at hl 0 rfl) ?_
  refine lv_iconst (v := 1) hx hb dX1_monthOfDayWithinYear_6 (by decide) ?_
  refine lv_icmp_le (tgt := 26) hx hb dX1_monthOfDayWithinYear_7 (by decide) (fun c_1 => absurd c_1 (by decide)) (fun _ => ?_)
  refine lv_iload_n hx hb dX1_monthOfDayWithinYear_10 rfl (lv_at hl 1 rfl) ?_
  refine lv_iload_n hx hb dX1_monthOfDayWithinYear_11 rfl (lv_at hl 2 rfl) ?_
  refine lv_iload_n hx hb dX1_monthOfDayWithinYear_12 rfl (lv_at hl 0 rfl) ?_
  refine vp_callSi (W.runS (As := [.int x0, .int x1, .int 12]) (rest := []) ⟨hx, hb, hml, hown, hts⟩ (k_X1_daysBeforeMonth l tm tt x0 x1 12) (va_cwS 3 hts gX1_monthOfDayWithinYear_X1_daysBeforeMonth rfl rfl rfl (by decide +kernel) ⟨Nat.le_of_ble_eq_true rfl, Nat.le_of_ble_eq_true rfl⟩) ⟨(fun a U g9 mk q => ⟨q.1, GE.same (s := U) (U := U.calling g9 mk a) rfl q.2⟩), fun U hU hW => ⟨rfl, hE.give hS (fun _ h => h.elim) hU hW⟩⟩ rfl rfl hl.1 rfl (lv_room (Nat.le_of_ble_eq_true rfl)) dX1_monthOfDayWithinYear_13 ⟨Nat.zero_le _, Nat.zero_le _⟩) (fun r hr9 => ?_)
  obtain rfl := hr9
  refine lv_iload_n hx hb dX1_monthOfDayWithinYear_16 rfl (lv_at hl 3 rfl) ?_
  refine lv_icmp_lt (tgt := 26) hx hb dX1_monthOfDayWithinYear_17 (by decide) (fun c_2 => ?_) (fun c_2 => ?_)
  · refine lv_iload_n hx hb dX1_monthOfDayWithinYear_26 rfl (lv_at hl 0 rfl) ?_
    exact W.iret hx hb hr (fun t ht _ => ⟨_, rfl, (by unfold f_X1_monthOfDayWithinYear; rw [if_pos c_2]), ht⟩) (fun _ h => nomatch h) dX1_monthOfDayWithinYear_27
  · refine lv_iinc (v := 11) (lv' := [(3, .int 11), (0, .int x0), (1, .int x1), (2, .int x2)]) hx hb dX1_monthOfDayWithinYear_20 hl (k := 0) rfl (by first | rfl | decide) (by decide) rfl (fun ls hl => ?_)
    refine lv_goto (tgt := 5) hx hb dX1_monthOfDayWithinYear_23 (by decide) ?_
    refine lv_iload_n hx hb dX1_monthOfDayWithinYear_5 rfl (lv_at hl 0 rfl) ?_
    refine lv_iconst (v := 1) hx hb dX1_monthOfDayWithinYear_6 (by decide) ?_
    refine lv_icmp_le (tgt := 26) hx hb dX1_monthOfDayWithinYear_7 (by decide) (fun c_3 => absurd c_3 (by decide)) (fun _ => ?_)
    refine lv_iload_n hx hb dX1_monthOfDayWithinYear_10 rfl (lv_at hl 1 rfl) ?_
    refine lv_iload_n hx hb dX1_monthOfDayWithinYear_11 rfl (lv_at hl 2 rfl) ?_
    refine lv_iload_n hx hb dX1_monthOfDayWithinYear_12 rfl (lv_at hl 0 rfl) ?_
    refine vp_callSi (W.runS (As := [.int x0, .int x1, .int 11]) (rest := []) ⟨hx, hb, hml, hown, hts⟩ (k_X1_daysBeforeMonth l tm tt x0 x1 11) (va_cwS 3 hts gX1_monthOfDayWithinYear_X1_daysBeforeMonth rfl rfl rfl (by decide +kernel) ⟨Nat.le_of_ble_eq_true rfl, Nat.le_of_ble_eq_true rfl⟩) ⟨(fun a U g9 mk q => ⟨q.1, GE.same (s := U) (U := U.calling g9 mk a) rfl q.2⟩), fun U hU hW => ⟨rfl, hE.give hS (fun _ h => h.elim) hU hW⟩⟩ rfl rfl hl.1 rfl (lv_room (Nat.le_of_ble_eq_true rfl)) dX1_monthOfDayWithinYear_13 ⟨Nat.zero_le _, Nat.zero_le _⟩) (fun r hr9 => ?_)
    obtain rfl := hr9
    refine lv_iload_n hx hb dX1_monthOfDayWithinYear_16 rfl (lv_at hl 3 rfl) ?_
    refine lv_icmp_lt (tgt := 26) hx hb dX1_monthOfDayWithinYear_17 (by decide) (fun c_4 => ?_) (fun c_4 => ?_)
    · refine lv_iload_n hx hb dX1_monthOfDayWithinYear_26 rfl (lv_at hl 0 rfl) ?_
      exact W.iret hx hb hr (fun t ht _ => ⟨_, rfl, (by unfold f_X1_monthOfDayWithinYear; rw [if_neg c_2, if_pos c_4]), ht⟩) (fun _ h => nomatch h) dX1_monthOfDayWithinYear_27
    · refine lv_iinc (v := 10) (lv' := [(3, .int 10), (0, .int x0), (1, .int x1), (2, .int x2)]) hx hb dX1_monthOfDayWithinYear_20 hl (k := 0) rfl (by first | rfl | decide) (by decide) rfl (fun ls hl => ?_)
      refine lv_goto (tgt := 5) hx hb dX1_monthOfDayWithinYear_23 (by decide) ?_
      refine lv_iload_n hx hb dX1_monthOfDayWithinYear_5 rfl (lv_at hl 0 rfl) ?_
      refine lv_iconst (v := 1) hx hb dX1_monthOfDayWithinYear_6 (by decide) ?_
      refine lv_icmp_le (tgt := 26) hx hb dX1_monthOfDayWithinYear_7 (by decide) (fun c_5 => absurd c_5 (by decide)) (fun _ => ?_)
      refine lv_iload_n hx hb dX1_monthOfDayWithinYear_10 rfl (lv_at hl 1 rfl) ?_
      refine lv_iload_n hx hb dX1_monthOfDayWithinYear_11 rfl (lv_at hl 2 rfl) ?_
      refine lv_iload_n hx hb dX1_monthOfDayWithinYear_12 rfl (lv_at hl 0 rfl) ?_
      refine vp_callSi (W.runS (As := [.int x0, .int x1, .int 10]) (rest := []) ⟨hx, hb, hml, hown, hts⟩ (k_X1_daysBeforeMonth l tm tt x0 x1 10) (va_cwS 3 hts gX1_monthOfDayWithinYear_X1_daysBeforeMonth rfl rfl rfl (by decide +kernel) ⟨Nat.le_of_ble_eq_true rfl, Nat.le_of_ble_eq_true rfl⟩) ⟨(fun a U g9 mk q => ⟨q.1, GE.same (s := U) (U := U.calling g9 mk a) rfl q.2⟩), fun U hU hW => ⟨rfl, hE.give hS (fun _ h => h.elim) hU hW⟩⟩ rfl rfl hl.1 rfl (lv_room (Nat.le_of_ble_eq_true rfl)) dX1_monthOfDayWithinYear_13 ⟨Nat.zero_le _, Nat.zero_le _⟩) (fun r hr9 => ?_)
      obtain rfl := hr9
      refine lv_iload_n hx hb dX1_monthOfDayWithinYear_16 rfl (lv_at hl 3 rfl) ?_
      refine lv_icmp_lt (tgt := 26) hx hb dX1_monthOfDayWithinYear_17 (by decide) (fun c_6 => ?_) (fun c_6 => ?_)
      · refine lv_iload_n hx hb dX1_monthOfDayWithinYear_26 rfl (lv_at hl 0 rfl) ?_
        exact W.iret hx hb hr (fun t ht _ => ⟨_, rfl, (by unfold f_X1_monthOfDayWithinYear; rw [if_neg c_2, if_neg c_4, if_pos c_6]), ht⟩) (fun _ h => nomatch h) dX1_monthOfDayWithinYear_27
      · refine lv_iinc (v := 9) (lv' := [(3, .int 9), (0, .int x0), (1, .int x1), (2, .int x2)]) hx hb dX1_monthOfDayWithinYear_20 hl (k := 0) rfl (by first | rfl | decide) (by decide) rfl (fun ls hl => ?_)
        refine lv_goto (tgt := 5) hx hb dX1_monthOfDayWithinYear_23 (by decide) ?_
        refine lv_iload_n hx hb dX1_monthOfDayWithinYear_5 rfl (lv_at hl 0 rfl) ?_
        refine lv_iconst (v := 1) hx hb dX1_monthOfDayWithinYear_6 (by decide) ?_
        refine lv_icmp_le (tgt := 26) hx hb dX1_monthOfDayWithinYear_7 (by decide) (fun c_7 => absurd c_7 (by decide)) (fun _ => ?_)
        refine lv_iload_n hx hb dX1_monthOfDayWithinYear_10 rfl (lv_at hl 1 rfl) ?_
        refine lv_iload_n hx hb dX1_monthOfDayWithinYear_11 rfl (lv_at hl 2 rfl) ?_
        refine lv_iload_n hx hb dX1_monthOfDayWithinYear_12 rfl (lv_at hl 0 rfl) ?_
        refine vp_callSi (W.runS (As := [.int x0, .int x1, .int 9]) (rest := []) ⟨hx, hb, hml, hown, hts⟩ (k_X1_daysBeforeMonth l tm tt x0 x1 9) (va_cwS 3 hts gX1_monthOfDayWithinYear_X1_daysBeforeMonth rfl rfl rfl (by decide +kernel) ⟨Nat.le_of_ble_eq_true rfl, Nat.le_of_ble_eq_true rfl⟩) ⟨(fun a U g9 mk q => ⟨q.1, GE.same (s := U) (U := U.calling g9 mk a) rfl q.2⟩), fun U hU hW => ⟨rfl, hE.give hS (fun _ h => h.elim) hU hW⟩⟩ rfl rfl hl.1 rfl (lv_room (Nat.le_of_ble_eq_true rfl)) dX1_monthOfDayWithinYear_13 ⟨Nat.zero_le _, Nat.zero_le _⟩) (fun r hr9 => ?_)
        obtain rfl := hr9
        refine lv_iload_n hx hb dX1_monthOfDayWithinYear_16 rfl (lv_at hl 3 rfl) ?_
        refine lv_icmp_lt (tgt := 26) hx hb dX1_monthOfDayWithinYear_17 (by decide) (fun c_8 => ?_) (fun c_8 => ?_)
        · refine lv_iload_n hx hb dX1_monthOfDayWithinYear_26 rfl (lv_at hl 0 rfl) ?_
          exact W.iret hx hb hr (fun t ht _ => ⟨_, rfl, (by unfold f_X1_monthOfDayWithinYear; rw [if_neg c_2, if_neg c_4, if_neg c_6, if_pos c_8]), ht⟩) (fun _ h => nomatch h) dX1_monthOfDayWithinYear_27
        · refine lv_iinc (v := 8) (lv' := [(3, .int 8), (0, .int x0), (1, .int x1), (2, .int x2)]) hx hb dX1_monthOfDayWithinYear_20 hl (k := 0) rfl (by first | rfl | decide) (by decide) rfl (fun ls hl => ?_)
          refine lv_goto (tgt := 5) hx hb dX1_monthOfDayWithinYear_23 (by decide) ?_
          refine lv_iload_n hx hb dX1_monthOfDayWithinYear_5 rfl (lv_at hl 0 rfl) ?_
          refine lv_iconst (v := 1) hx hb dX1_monthOfDayWithinYear_6 (by decide) ?_
          refine lv_icmp_le (tgt := 26) hx hb dX1_monthOfDayWithinYear_7 (by decide) (fun c_9 => absurd c_9 (by decide)) (fun _ => ?_)
          refine lv_iload_n hx hb dX1_monthOfDayWithinYear_10 rfl (lv_at hl 1 rfl) ?_
          refine lv_iload_n hx hb dX1_monthOfDayWithinYear_11 rfl (lv_at hl 2 rfl) ?_
          refine lv_iload_n hx hb dX1_monthOfDayWithinYear_12 rfl (lv_at hl 0 rfl) ?_
          refine vp_callSi (W.runS (As := [.int x0, .int x1, .int 8]) (rest := []) ⟨hx, hb, hml, hown, hts⟩ (k_X1_daysBeforeMonth l tm tt x0 x1 8) (va_cwS 3 hts gX1_monthOfDayWithinYear_X1_daysBeforeMonth rfl rfl rfl (by decide +kernel) ⟨Nat.le_of_ble_eq_true rfl, Nat.le_of_ble_eq_true rfl⟩) ⟨(fun a U g9 mk q => ⟨q.1, GE.same (s := U) (U := U.calling g9 mk a) rfl q.2⟩), fun U hU hW => ⟨rfl, hE.give hS (fun _ h => h.elim) hU hW⟩⟩ rfl rfl hl.1 rfl (lv_room (Nat.le_of_ble_eq_true rfl)) dX1_monthOfDayWithinYear_13 ⟨Nat.zero_le _, Nat.zero_le _⟩) (fun r hr9 => ?_)
          obtain rfl := hr9
          refine lv_iload_n hx hb dX1_monthOfDayWithinYear_16 rfl (lv_at hl 3 rfl) ?_
          refine lv_icmp_lt (tgt := 26) hx hb dX1_monthOfDayWithinYear_17 (by decide) (fun c_10 => ?_) (fun c_10 => ?_)
          · refine lv_iload_n hx hb dX1_monthOfDayWithinYear_26 rfl (lv_at hl 0 rfl) ?_
            exact W.iret hx hb hr (fun t ht _ => ⟨_, rfl, (by unfold f_X1_monthOfDayWithinYear; rw [if_neg c_2, if_neg c_4, if_neg c_6, if_neg c_8, if_pos c_10]), ht⟩) (fun _ h => nomatch h) dX1_monthOfDayWithinYear_27
          · refine lv_iinc (v := 7) (lv' := [(3, .int 7), (0, .int x0), (1, .int x1), (2, .int x2)]) hx hb dX1_monthOfDayWithinYear_20 hl (k := 0) rfl (by first | rfl | decide) (by decide) rfl (fun ls hl => ?_)
            refine lv_goto (tgt := 5) hx hb dX1_monthOfDayWithinYear_23 (by decide) ?_
            refine lv_iload_n hx hb dX1_monthOfDayWithinYear_5 rfl (lv_at hl 0 rfl) ?_
            refine lv_iconst (v := 1) hx hb dX1_monthOfDayWithinYear_6 (by decide) ?_
            refine lv_icmp_le (tgt := 26) hx hb dX1_monthOfDayWithinYear_7 (by decide) (fun c_11 => absurd c_11 (by decide)) (fun _ => ?_)
            refine lv_iload_n hx hb dX1_monthOfDayWithinYear_10 rfl (lv_at hl 1 rfl) ?_
            refine lv_iload_n hx hb dX1_monthOfDayWithinYear_11 rfl (lv_at hl 2 rfl) ?_
            refine lv_iload_n hx hb dX1_monthOfDayWithinYear_12 rfl (lv_at hl 0 rfl) ?_
            refine vp_callSi (W.runS (As := [.int x0, .int x1, .int 7]) (rest := []) ⟨hx, hb, hml, hown, hts⟩ (k_X1_daysBeforeMonth l tm tt x0 x1 7) (va_cwS 3 hts gX1_monthOfDayWithinYear_X1_daysBeforeMonth rfl rfl rfl (by decide +kernel) ⟨Nat.le_of_ble_eq_true rfl, Nat.le_of_ble_eq_true rfl⟩) ⟨(fun a U g9 mk q => ⟨q.1, GE.same (s := U) (U := U.calling g9 mk a) rfl q.2⟩), fun U hU hW => ⟨rfl, hE.give hS (fun _ h => h.elim) hU hW⟩⟩ rfl rfl hl.1 rfl (lv_room (Nat.le_of_ble_eq_true rfl)) dX1_monthOfDayWithinYear_13 ⟨Nat.zero_le _, Nat.zero_le _⟩) (fun r hr9 => ?_)
            obtain rfl := hr9
            refine lv_iload_n hx hb dX1_monthOfDayWithinYear_16 rfl (lv_at hl 3 rfl) ?_
            refine lv_icmp_lt (tgt := 26) hx hb dX1_monthOfDayWithinYear_17 (by decide) (fun c_12 => ?_) (fun c_12 => ?_)
            · refine lv_iload_n hx hb dX1_monthOfDayWithinYear_26 rfl (lv_at hl 0 rfl) ?_
              exact W.iret hx hb hr (fun t ht _ => ⟨_, rfl, (by unfold f_X1_monthOfDayWithinYear; rw [if_neg c_2, if_neg c_4, if_neg c_6, if_neg c_8, if_neg c_10, if_pos c_12]), ht⟩) (fun _ h => nomatch h) dX1_monthOfDayWithinYear_27
            · refine lv_iinc (v := 6) (lv' := [(3, .int 6), (0, .int x0), (1, .int x1), (2, .int x2)]) hx hb dX1_monthOfDayWithinYear_20 hl (k := 0) rfl (by first | rfl | decide) (by decide) rfl (fun ls hl => ?_)
              refine lv_goto (tgt := 5) hx hb dX1_monthOfDayWithinYear_23 (by decide) ?_
              refine lv_iload_n hx hb dX1_monthOfDayWithinYear_5 rfl (lv_at hl 0 rfl) ?_
              refine lv_iconst (v := 1) hx hb dX1_monthOfDayWithinYear_6 (by decide) ?_
              refine lv_icmp_le (tgt := 26) hx hb dX1_monthOfDayWithinYear_7 (by decide) (fun c_13 => absurd c_13 (by decide)) (fun _ => ?_)
              refine lv_iload_n hx hb dX1_monthOfDayWithinYear_10 rfl (lv_at hl 1 rfl) ?_
              refine lv_iload_n hx hb dX1_monthOfDayWithinYear_11 rfl (lv_at hl 2 rfl) ?_
              refine lv_iload_n hx hb dX1_monthOfDayWithinYear_12 rfl (lv_at hl 0 rfl) ?_
              refine vp_callSi (W.runS (As := [.int x0, .int x1, .int 6]) (rest := []) ⟨hx, hb, hml, hown, hts⟩ (k_X1_daysBeforeMonth l tm tt x0 x1 6) (va_cwS 3 hts gX1_monthOfDayWithinYear_X1_daysBeforeMonth rfl rfl rfl (by decide +kernel) ⟨Nat.le_of_ble_eq_true rfl, Nat.le_of_ble_eq_true rfl⟩) ⟨(fun a U g9 mk q => ⟨q.1, GE.same (s := U) (U := U.calling g9 mk a) rfl q.2⟩), fun U hU hW => ⟨rfl, hE.give hS (fun _ h => h.elim) hU hW⟩⟩ rfl rfl hl.1 rfl (lv_room (Nat.le_of_ble_eq_true rfl)) dX1_monthOfDayWithinYear_13 ⟨Nat.zero_le _, Nat.zero_le _⟩) (fun r hr9 => ?_)
              obtain rfl := hr9
              refine lv_iload_n hx hb dX1_monthOfDayWithinYear_16 rfl (lv_at hl 3 rfl) ?_
              refine lv_icmp_lt (tgt := 26) hx hb dX1_monthOfDayWithinYear_17 (by decide) (fun c_14 => ?_) (fun c_14 => ?_)
              · refine lv_iload_n hx hb dX1_monthOfDayWithinYear_26 rfl (lv_at hl 0 rfl) ?_
                exact W.iret hx hb hr (fun t ht _ => ⟨_, rfl, (by unfold f_X1_monthOfDayWithinYear; rw [if_neg c_2, if_neg c_4, if_neg c_6, if_neg c_8, if_neg c_10, if_neg c_12, if_pos c_14]), ht⟩) (fun _ h => nomatch h) dX1_monthOfDayWithinYear_27
              · refine lv_iinc (v := 5) (lv' := [(3, .int 5), (0, .int x0), (1, .int x1), (2, .int x2)]) hx hb dX1_monthOfDayWithinYear_20 hl (k := 0) rfl (by first | rfl | decide) (by decide) rfl (fun ls hl => ?_)
                refine lv_goto (tgt := 5) hx hb dX1_monthOfDayWithinYear_23 (by decide) ?_
                refine lv_iload_n hx hb dX1_monthOfDayWithinYear_5 rfl (lv_at hl 0 rfl) ?_
                refine lv_iconst (v := 1) hx hb dX1_monthOfDayWithinYear_6 (by decide) ?_
                refine lv_icmp_le (tgt := 26) hx hb dX1_monthOfDayWithinYear_7 (by decide) (fun c_15 => absurd c_15 (by decide)) (fun _ => ?_)
                refine lv_iload_n hx hb dX1_monthOfDayWithinYear_10 rfl (lv_at hl 1 rfl) ?_
                refine lv_iload_n hx hb dX1_monthOfDayWithinYear_11 rfl (lv_at hl 2 rfl) ?_
                refine lv_iload_n hx hb dX1_monthOfDayWithinYear_12 rfl (lv_at hl 0 rfl) ?_
                refine vp_callSi (W.runS (As := [.int x0, .int x1, .int 5]) (rest := []) ⟨hx, hb, hml, hown, hts⟩ (k_X1_daysBeforeMonth l tm tt x0 x1 5) (va_cwS 3 hts gX1_monthOfDayWithinYear_X1_daysBeforeMonth rfl rfl rfl (by decide +kernel) ⟨Nat.le_of_ble_eq_true rfl, Nat.le_of_ble_eq_true rfl⟩) ⟨(fun a U g9 mk q => ⟨q.1, GE.same (s := U) (U := U.calling g9 mk a) rfl q.2⟩), fun U hU hW => ⟨rfl, hE.give hS (fun _ h => h.elim) hU hW⟩⟩ rfl rfl hl.1 rfl (lv_room (Nat.le_of_ble_eq_true rfl)) dX1_monthOfDayWithinYear_13 ⟨Nat.zero_le _, Nat.zero_le _⟩) (fun r hr9 => ?_)
                obtain rfl := hr9
                refine lv_iload_n hx hb dX1_monthOfDayWithinYear_16 rfl (lv_at hl 3 rfl) ?_
                refine lv_icmp_lt (tgt := 26) hx hb dX1_monthOfDayWithinYear_17 (by decide) (fun c_16 => ?_) (fun c_16 => ?_)
                · refine lv_iload_n hx hb dX1_monthOfDayWithinYear_26 rfl (lv_at hl 0 rfl) ?_
                  exact W.iret hx hb hr (fun t ht _ => ⟨_, rfl, (by unfold f_X1_monthOfDayWithinYear; rw [if_neg c_2, if_neg c_4, if_neg c_6, if_neg c_8, if_neg c_10, if_neg c_12, if_neg c_14, if_pos c_16]), ht⟩) (fun _ h => nomatch h) dX1_monthOfDayWithinYear_27
                · refine lv_iinc (v := 4) (lv' := [(3, .int 4), (0, .int x0), (1, .int x1), (2, .int x2)]) hx hb dX1_monthOfDayWithinYear_20 hl (k := 0) rfl (by first | rfl | decide) (by decide) rfl (fun ls hl => ?_)
                  refine lv_goto (tgt := 5) hx hb dX1_monthOfDayWithinYear_23 (by decide) ?_
                  refine lv_iload_n hx hb dX1_monthOfDayWithinYear_5 rfl (lv_at hl 0 rfl) ?_
                  refine lv_iconst (v := 1) hx hb dX1_monthOfDayWithinYear_6 (by decide) ?_
                  refine lv_icmp_le (tgt := 26) hx hb dX1_monthOfDayWithinYear_7 (by decide) (fun c_17 => absurd c_17 (by decide)) (fun _ => ?_)
                  refine lv_iload_n hx hb dX1_monthOfDayWithinYear_10 rfl (lv_at hl 1 rfl) ?_
                  refine lv_iload_n hx hb dX1_monthOfDayWithinYear_11 rfl (lv_at hl 2 rfl) ?_
                  refine lv_iload_n hx hb dX1_monthOfDayWithinYear_12 rfl (lv_at hl 0 rfl) ?_
                  refine vp_callSi (W.runS (As := [.int x0, .int x1, .int 4]) (rest := []) ⟨hx, hb, hml, hown, hts⟩ (k_X1_daysBeforeMonth l tm tt x0 x1 4) (va_cwS 3 hts gX1_monthOfDayWithinYear_X1_daysBeforeMonth rfl rfl rfl (by decide +kernel) ⟨Nat.le_of_ble_eq_true rfl, Nat.le_of_ble_eq_true rfl⟩) ⟨(fun a U g9 mk q => ⟨q.1, GE.same (s := U) (U := U.calling g9 mk a) rfl q.2⟩), fun U hU hW => ⟨rfl, hE.give hS (fun _ h => h.elim) hU hW⟩⟩ rfl rfl hl.1 rfl (lv_room (Nat.le_of_ble_eq_true rfl)) dX1_monthOfDayWithinYear_13 ⟨Nat.zero_le _, Nat.zero_le _⟩) (fun r hr9 => ?_)
                  obtain rfl := hr9
                  refine lv_iload_n hx hb dX1_monthOfDayWithinYear_16 rfl (lv_at hl 3 rfl) ?_
                  refine lv_icmp_lt (tgt := 26) hx hb dX1_monthOfDayWithinYear_17 (by decide) (fun c_18 => ?_) (fun c_18 => ?_)
                  · refine lv_iload_n hx hb dX1_monthOfDayWithinYear_26 rfl (lv_at hl 0 rfl) ?_
                    exact W.iret hx hb hr (fun t ht _ => ⟨_, rfl, (by unfold f_X1_monthOfDayWithinYear; rw [if_neg c_2, if_neg c_4, if_neg c_6, if_neg c_8, if_neg c_10, if_neg c_12, if_neg c_14, if_neg c_16, if_pos c_18]), ht⟩) (fun _ h => nomatch h) dX1_monthOfDayWithinYear_27
                  · refine lv_iinc (v := 3) (lv' := [(3, .int 3), (0, .int x0), (1, .int x1), (2, .int x2)]) hx hb dX1_monthOfDayWithinYear_20 hl (k := 0) rfl (by first | rfl | decide) (by decide) rfl (fun ls hl => ?_)
                    refine lv_goto (tgt := 5) hx hb dX1_monthOfDayWithinYear_23 (by decide) ?_
                    refine lv_iload_n hx hb dX1_monthOfDayWithinYear_5 rfl (lv_at hl 0 rfl) ?_
                    refine lv_iconst (v := 1) hx hb dX1_monthOfDayWithinYear_6 (by decide) ?_
                    refine lv_icmp_le (tgt := 26) hx hb dX1_monthOfDayWithinYear_7 (by decide) (fun c_19 => absurd c_19 (by decide)) (fun _ => ?_)
                    refine lv_iload_n hx hb dX1_monthOfDayWithinYear_10 rfl (lv_at hl 1 rfl) ?_
                    refine lv_iload_n hx hb dX1_monthOfDayWithinYear_11 rfl (lv_at hl 2 rfl) ?_
                    refine lv_iload_n hx hb dX1_monthOfDayWithinYear_12 rfl (lv_at hl 0 rfl) ?_
                    refine vp_callSi (W.runS (As := [.int x0, .int x1, .int 3]) (rest := []) ⟨hx, hb, hml, hown, hts⟩ (k_X1_daysBeforeMonth l tm tt x0 x1 3) (va_cwS 3 hts gX1_monthOfDayWithinYear_X1_daysBeforeMonth rfl rfl rfl (by decide +kernel) ⟨Nat.le_of_ble_eq_true rfl, Nat.le_of_ble_eq_true rfl⟩) ⟨(fun a U g9 mk q => ⟨q.1, GE.same (s := U) (U := U.calling g9 mk a) rfl q.2⟩), fun U hU hW => ⟨rfl, hE.give hS (fun _ h => h.elim) hU hW⟩⟩ rfl rfl hl.1 rfl (lv_room (Nat.le_of_ble_eq_true rfl)) dX1_monthOfDayWithinYear_13 ⟨Nat.zero_le _, Nat.zero_le _⟩) (fun r hr9 => ?_)
                    obtain rfl := hr9
                    refine lv_iload_n hx hb dX1_monthOfDayWithinYear_16 rfl (lv_at hl 3 rfl) ?_
                    refine lv_icmp_lt (tgt := 26) hx hb dX1_monthOfDayWithinYear_17 (by decide) (fun c_20 => ?_) (fun c_20 => ?_)
                    · refine lv_iload_n hx hb dX1_monthOfDayWithinYear_26 rfl (lv_at hl 0 rfl) ?_
                      exact W.iret hx hb hr (fun t ht _ => ⟨_, rfl, (by unfold f_X1_monthOfDayWithinYear; rw [if_neg c_2, if_neg c_4, if_neg c_6, if_neg c_8, if_neg c_10, if_neg c_12, if_neg c_14, if_neg c_16, if_neg c_18, if_pos c_20]), ht⟩) (fun _ h => nomatch h) dX1_monthOfDayWithinYear_27
                    · refine lv_iinc (v := 2) (lv' := [(3, .int 2), (0, .int x0), (1, .int x1), (2, .int x2)]) hx hb dX1_monthOfDayWithinYear_20 hl (k := 0) rfl (by first | rfl | decide) (by decide) rfl (fun ls hl => ?_)
                      refine lv_goto (tgt := 5) hx hb dX1_monthOfDayWithinYear_23 (by decide) ?_
                      refine lv_iload_n hx hb dX1_monthOfDayWithinYear_5 rfl (lv_at hl 0 rfl) ?_
                      refine lv_iconst (v := 1) hx hb dX1_monthOfDayWithinYear_6 (by decide) ?_
                      refine lv_icmp_le (tgt := 26) hx hb dX1_monthOfDayWithinYear_7 (by decide) (fun c_21 => absurd c_21 (by decide)) (fun _ => ?_)
                      refine lv_iload_n hx hb dX1_monthOfDayWithinYear_10 rfl (lv_at hl 1 rfl) ?_
                      refine lv_iload_n hx hb dX1_monthOfDayWithinYear_11 rfl (lv_at hl 2 rfl) ?_
                      refine lv_iload_n hx hb dX1_monthOfDayWithinYear_12 rfl (lv_at hl 0 rfl) ?_
                      refine vp_callSi (W.runS (As := [.int x0, .int x1, .int 2]) (rest := []) ⟨hx, hb, hml, hown, hts⟩ (k_X1_daysBeforeMonth l tm tt x0 x1 2) (va_cwS 3 hts gX1_monthOfDayWithinYear_X1_daysBeforeMonth rfl rfl rfl (by decide +kernel) ⟨Nat.le_of_ble_eq_true rfl, Nat.le_of_ble_eq_true rfl⟩) ⟨(fun a U g9 mk q => ⟨q.1, GE.same (s := U) (U := U.calling g9 mk a) rfl q.2⟩), fun U hU hW => ⟨rfl, hE.give hS (fun _ h => h.elim) hU hW⟩⟩ rfl rfl hl.1 rfl (lv_room (Nat.le_of_ble_eq_true rfl)) dX1_monthOfDayWithinYear_13 ⟨Nat.zero_le _, Nat.zero_le _⟩) (fun r hr9 => ?_)
                      obtain rfl := hr9
                      refine lv_iload_n hx hb dX1_monthOfDayWithinYear_16 rfl (lv_at hl 3 rfl) ?_
                      refine lv_icmp_lt (tgt := 26) hx hb dX1_monthOfDayWithinYear_17 (by decide) (fun c_22 => ?_) (fun c_22 => ?_)
                      · refine lv_iload_n hx hb dX1_monthOfDayWithinYear_26 rfl (lv_at hl 0 rfl) ?_
                        exact W.iret hx hb hr (fun t ht _ => ⟨_, rfl, (by unfold f_X1_monthOfDayWithinYear; rw [if_neg c_2, if_neg c_4, if_neg c_6, if_neg c_8, if_neg c_10, if_neg c_12, if_neg c_14, if_neg c_16, if_neg c_18, if_neg c_20, if_pos c_22]), ht⟩) (fun _ h => nomatch h) dX1_monthOfDayWithinYear_27
                      · refine lv_iinc (v := 1) (lv' := [(3, .int 1), (0, .int x0), (1, .int x1), (2, .int x2)]) hx hb dX1_monthOfDayWithinYear_20 hl (k := 0) rfl (by first | rfl | decide) (by decide) rfl (fun ls hl => ?_)
                        refine lv_goto (tgt := 5) hx hb dX1_monthOfDayWithinYear_23 (by decide) ?_
                        refine lv_iload_n hx hb dX1_monthOfDayWithinYear_5 rfl (lv_at hl 0 rfl) ?_
                        refine lv_iconst (v := 1) hx hb dX1_monthOfDayWithinYear_6 (by decide) ?_
                        refine lv_icmp_le (tgt := 26) hx hb dX1_monthOfDayWithinYear_7 (by decide) (fun _ => ?_) (fun c_23 => absurd c_23 (by decide))
                        refine lv_iload_n hx hb dX1_monthOfDayWithinYear_26 rfl (lv_at hl 0 rfl) ?_
                        exact W.iret hx hb hr (fun t ht _ => ⟨_, rfl, (by unfold f_X1_monthOfDayWithinYear; rw [if_neg c_2, if_neg c_4, if_neg c_6, if_neg c_8, if_neg c_10, if_neg c_12, if_neg c_14, if_neg c_16, if_neg c_18, if_neg c_20, if_neg c_22]), ht⟩) (fun _ h => nomatch h) dX1_monthOfDayWithinYear_27

def f_X1_yearOfDay_21_0 (x0 : Int32) (x1 : Int64) : Int64 := x1 - (f_X1_firstDayOfYear x0 0)
def f_X1_yearOfDay_34_1 (x0 : Int32) (x1 : Int64) : Int32 := Int64.toInt32 (f_J9_floorDiv_f86c9 ((f_X1_yearOfDay_21_0 x0 x1) * 400) 146097)
def f_X1_yearOfDay_21_2 (x0 : Int32) (x1 : Int64) : Int64 := x1 - (f_X1_firstDayOfYear x0 0)
def f_X1_yearOfDay_34_3 (x0 : Int32) (x1 : Int64) : Int32 := Int64.toInt32 (f_J9_floorDiv_f86c9 ((f_X1_yearOfDay_21_2 x0 x1) * 400) 146100)
def f_X1_yearOfDay (x0 : Int32) (x1 : Int64) : Int32 := if x0 = 0 then (if (f_X1_firstDayOfYear x0 (f_X1_yearOfDay_34_3 x0 x1)) ≤ x1 then (if x1 < (f_X1_firstDayOfYear x0 ((f_X1_yearOfDay_34_3 x0 x1) + 1)) then (f_X1_yearOfDay_34_3 x0 x1) else ((f_X1_yearOfDay_34_3 x0 x1) + 1)) else ((f_X1_yearOfDay_34_3 x0 x1) - 1)) else (if (f_X1_firstDayOfYear x0 (f_X1_yearOfDay_34_1 x0 x1)) ≤ x1 then (if x1 < (f_X1_firstDayOfYear x0 ((f_X1_yearOfDay_34_1 x0 x1) + 1)) then (f_X1_yearOfDay_34_1 x0 x1) else ((f_X1_yearOfDay_34_1 x0 x1) + 1)) else ((f_X1_yearOfDay_34_1 x0 x1) - 1))
set_option maxHeartbeats 4000000 in
set_option maxRecDepth 100000 in
theorem k_X1_yearOfDay (l : Launch) (x0 : Int32) (x1 : Int64)  : Met l yX1_yearOfDay wsX1_yearOfDay ({ frames := 2, cells := 0, slots := 0, locals := 45 }) (fun v _ => v = ([.int x0, .long x1] : List Value).toArray) (vp_Si (fun r => r = f_X1_yearOfDay x0 x1)) 0 0 (fun _ => False) := by
  refine Met.ofW (cc := cX1_yearOfDay) (maxL := 8) (ret := (some .int)) (by decide) rfl ?_
  intro p e s m args below meth c s₁ B hml hv
  obtain rfl := hv
  have hx := B.exec
  have hb := B.bytes
  have hr := B.returns
  have hts := atoms_spec (ws := wsX1_yearOfDay) B.pre
  have hown : s.vm.findClass RX1 = some m.cls := findClass_of_methodNamed B.named
  have hlocks := B.notSynchronized
  have hl := lv_entry ([.int x0, .long x1]) (n := 8) (Nat.le_of_ble_eq_true rfl)
  rw [lg_entry_eq]
  generalize (lg_sl ([.int x0, .long x1]) ++ List.replicate (8 - (lg_sl ([.int x0, .long x1])).length) Slot.unset).toArray = ls at hl ⊢
  have hl : lv_has ls 8 [(0, .int x0), (1, .long x1)] := hl
  refine lv_iload_n hx hb dX1_yearOfDay_0 rfl (lv_at hl 0 rfl) ?_
  refine lv_if_ne (tgt := 10) hx hb dX1_yearOfDay_1 (by decide) (fun c_1 => ?_) (fun c_1 => ?_)
  · refine lv_ldc2 hx hb hown (hts (.constantLong RX1 129 (146097)) (by decide +kernel)) dX1_yearOfDay_10 ?_
    refine lv_lstore_n (lv' := [(3, .long 146097), (0, .int x0), (1, .long x1)]) hx hb dX1_yearOfDay_13 rfl hl (by decide) rfl (fun ls hl => ?_)
    refine lv_lload_n hx hb dX1_yearOfDay_14 rfl (lv_at hl 2 rfl) ?_
    refine lv_iload_n hx hb dX1_yearOfDay_15 rfl (lv_at hl 1 rfl) ?_
    refine lv_iconst (v := 0) hx hb dX1_yearOfDay_16 (by decide) ?_
    refine vp_callSl (W.runS (As := [.int x0, .int 0]) (rest := [.long x1]) ⟨hx, hb, hml, hown, hts⟩ (k_X1_firstDayOfYear l x0 0) (va_cwS 2 hts gX1_yearOfDay_X1_firstDayOfYear rfl rfl rfl (by decide +kernel) ⟨Nat.le_of_ble_eq_true rfl, Nat.le_of_ble_eq_true rfl⟩) preEq rfl rfl hl.1 rfl (lv_room (Nat.le_of_ble_eq_true rfl)) dX1_yearOfDay_17 ⟨Nat.zero_le _, Nat.zero_le _⟩) (fun r hr9 => ?_)
    obtain rfl := hr9
    refine lv_lsub hx hb dX1_yearOfDay_20 ?_
    refine lv_lstore (lv' := [(5, .long (f_X1_yearOfDay_21_0 x0 x1)), (3, .long 146097), (0, .int x0), (1, .long x1)]) hx hb dX1_yearOfDay_21 hl (by decide) rfl (fun ls hl => ?_)
    refine lv_lload hx hb dX1_yearOfDay_23 (lv_at hl 0 rfl) ?_
    refine lv_ldc2 hx hb hown (hts (.constantLong RX1 131 (400)) (by decide +kernel)) dX1_yearOfDay_25 ?_
    refine lv_lmul hx hb dX1_yearOfDay_28 ?_
    refine lv_lload_n hx hb dX1_yearOfDay_29 rfl (lv_at hl 1 rfl) ?_
    refine vp_callSl (W.runS (As := [.long ((f_X1_yearOfDay_21_0 x0 x1) * 400), .long 146097]) (rest := []) ⟨hx, hb, hml, hown, hts⟩ (k_J9_floorDiv_f86c9 l ((f_X1_yearOfDay_21_0 x0 x1) * 400) 146097 (by decide)) (va_cwS 2 hts gX1_yearOfDay_J9_floorDiv_f86c9 rfl rfl rfl (by decide +kernel) ⟨Nat.le_of_ble_eq_true rfl, Nat.le_of_ble_eq_true rfl⟩) preEq rfl rfl hl.1 rfl (lv_room (Nat.le_of_ble_eq_true rfl)) dX1_yearOfDay_30 ⟨Nat.zero_le _, Nat.zero_le _⟩) (fun r hr9 => ?_)
    obtain rfl := hr9
    refine lv_l2i hx hb dX1_yearOfDay_33 rfl ?_
    refine lv_istore (lv' := [(7, .int (f_X1_yearOfDay_34_1 x0 x1)), (5, .long (f_X1_yearOfDay_21_0 x0 x1)), (3, .long 146097), (0, .int x0), (1, .long x1)]) hx hb dX1_yearOfDay_34 hl (by decide) rfl (fun ls hl => ?_)
    refine lv_iload_n hx hb dX1_yearOfDay_36 rfl (lv_at hl 3 rfl) ?_
    refine lv_iload hx hb dX1_yearOfDay_37 (lv_at hl 0 rfl) ?_
    refine vp_callSl (W.runS (As := [.int x0, .int (f_X1_yearOfDay_34_1 x0 x1)]) (rest := []) ⟨hx, hb, hml, hown, hts⟩ (k_X1_firstDayOfYear l x0 (f_X1_yearOfDay_34_1 x0 x1)) (va_cwS 2 hts gX1_yearOfDay_X1_firstDayOfYear rfl rfl rfl (by decide +kernel) ⟨Nat.le_of_ble_eq_true rfl, Nat.le_of_ble_eq_true rfl⟩) preEq rfl rfl hl.1 rfl (lv_room (Nat.le_of_ble_eq_true rfl)) dX1_yearOfDay_39 ⟨Nat.zero_le _, Nat.zero_le _⟩) (fun r hr9 => ?_)
    obtain rfl := hr9
    refine lv_lload_n hx hb dX1_yearOfDay_42 rfl (lv_at hl 4 rfl) ?_
    refine zl_le (tgt := 52) hx hb dX1_yearOfDay_43 dX1_yearOfDay_44 (by decide) (fun c_2 => ?_) (fun c_2 => ?_)
    · refine lv_iload_n hx hb dX1_yearOfDay_52 rfl (lv_at hl 3 rfl) ?_
      refine lv_iload hx hb dX1_yearOfDay_53 (lv_at hl 0 rfl) ?_
      refine lv_iconst (v := 1) hx hb dX1_yearOfDay_55 (by decide) ?_
      refine lv_iadd hx hb dX1_yearOfDay_56 ?_
      refine vp_callSl (W.runS (As := [.int x0, .int ((f_X1_yearOfDay_34_1 x0 x1) + 1)]) (rest := []) ⟨hx, hb, hml, hown, hts⟩ (k_X1_firstDayOfYear l x0 ((f_X1_yearOfDay_34_1 x0 x1) + 1)) (va_cwS 2 hts gX1_yearOfDay_X1_firstDayOfYear rfl rfl rfl (by decide +kernel) ⟨Nat.le_of_ble_eq_true rfl, Nat.le_of_ble_eq_true rfl⟩) preEq rfl rfl hl.1 rfl (lv_room (Nat.le_of_ble_eq_true rfl)) dX1_yearOfDay_57 ⟨Nat.zero_le _, Nat.zero_le _⟩) (fun r hr9 => ?_)
      obtain rfl := hr9
      refine lv_lload_n hx hb dX1_yearOfDay_60 rfl (lv_at hl 4 rfl) ?_
      refine zl_gt (tgt := 72) hx hb dX1_yearOfDay_61 dX1_yearOfDay_62 (by decide) (fun c_3 => ?_) (fun c_3 => ?_)
      · refine lv_iload hx hb dX1_yearOfDay_72 (lv_at hl 0 rfl) ?_
        exact W.iret hx hb hr (fun t ht _ => ⟨_, rfl, (by unfold f_X1_yearOfDay; rw [if_neg c_1, if_pos c_2, if_pos c_3]), ht⟩) (fun _ h => nomatch h) dX1_yearOfDay_74
      · refine lv_iload hx hb dX1_yearOfDay_65 (lv_at hl 0 rfl) ?_
        refine lv_iconst (v := 1) hx hb dX1_yearOfDay_67 (by decide) ?_
        refine lv_iadd hx hb dX1_yearOfDay_68 ?_
        refine lv_goto (tgt := 74) hx hb dX1_yearOfDay_69 (by decide) ?_
        exact W.iret hx hb hr (fun t ht _ => ⟨_, rfl, (by unfold f_X1_yearOfDay; rw [if_neg c_1, if_pos c_2, if_neg c_3]), ht⟩) (fun _ h => nomatch h) dX1_yearOfDay_74
    · refine lv_iload hx hb dX1_yearOfDay_47 (lv_at hl 0 rfl) ?_
      refine lv_iconst (v := 1) hx hb dX1_yearOfDay_49 (by decide) ?_
      refine lv_isub hx hb dX1_yearOfDay_50 ?_
      exact W.iret hx hb hr (fun t ht _ => ⟨_, rfl, (by unfold f_X1_yearOfDay; rw [if_neg c_1, if_neg c_2]), ht⟩) (fun _ h => nomatch h) dX1_yearOfDay_51
  · refine lv_ldc2 hx hb hown (hts (.constantLong RX1 127 (146100)) (by decide +kernel)) dX1_yearOfDay_4 ?_
    refine lv_goto (tgt := 13) hx hb dX1_yearOfDay_7 (by decide) ?_
    refine lv_lstore_n (lv' := [(3, .long 146100), (0, .int x0), (1, .long x1)]) hx hb dX1_yearOfDay_13 rfl hl (by decide) rfl (fun ls hl => ?_)
    refine lv_lload_n hx hb dX1_yearOfDay_14 rfl (lv_at hl 2 rfl) ?_
    refine lv_iload_n hx hb dX1_yearOfDay_15 rfl (lv_at hl 1 rfl) ?_
    refine lv_iconst (v := 0) hx hb dX1_yearOfDay_16 (by decide) ?_
    refine vp_callSl (W.runS (As := [.int x0, .int 0]) (rest := [.long x1]) ⟨hx, hb, hml, hown, hts⟩ (k_X1_firstDayOfYear l x0 0) (va_cwS 2 hts gX1_yearOfDay_X1_firstDayOfYear rfl rfl rfl (by decide +kernel) ⟨Nat.le_of_ble_eq_true rfl, Nat.le_of_ble_eq_true rfl⟩) preEq rfl rfl hl.1 rfl (lv_room (Nat.le_of_ble_eq_true rfl)) dX1_yearOfDay_17 ⟨Nat.zero_le _, Nat.zero_le _⟩) (fun r hr9 => ?_)
    obtain rfl := hr9
    refine lv_lsub hx hb dX1_yearOfDay_20 ?_
    refine lv_lstore (lv' := [(5, .long (f_X1_yearOfDay_21_2 x0 x1)), (3, .long 146100), (0, .int x0), (1, .long x1)]) hx hb dX1_yearOfDay_21 hl (by decide) rfl (fun ls hl => ?_)
    refine lv_lload hx hb dX1_yearOfDay_23 (lv_at hl 0 rfl) ?_
    refine lv_ldc2 hx hb hown (hts (.constantLong RX1 131 (400)) (by decide +kernel)) dX1_yearOfDay_25 ?_
    refine lv_lmul hx hb dX1_yearOfDay_28 ?_
    refine lv_lload_n hx hb dX1_yearOfDay_29 rfl (lv_at hl 1 rfl) ?_
    refine vp_callSl (W.runS (As := [.long ((f_X1_yearOfDay_21_2 x0 x1) * 400), .long 146100]) (rest := []) ⟨hx, hb, hml, hown, hts⟩ (k_J9_floorDiv_f86c9 l ((f_X1_yearOfDay_21_2 x0 x1) * 400) 146100 (by decide)) (va_cwS 2 hts gX1_yearOfDay_J9_floorDiv_f86c9 rfl rfl rfl (by decide +kernel) ⟨Nat.le_of_ble_eq_true rfl, Nat.le_of_ble_eq_true rfl⟩) preEq rfl rfl hl.1 rfl (lv_room (Nat.le_of_ble_eq_true rfl)) dX1_yearOfDay_30 ⟨Nat.zero_le _, Nat.zero_le _⟩) (fun r hr9 => ?_)
    obtain rfl := hr9
    refine lv_l2i hx hb dX1_yearOfDay_33 rfl ?_
    refine lv_istore (lv' := [(7, .int (f_X1_yearOfDay_34_3 x0 x1)), (5, .long (f_X1_yearOfDay_21_2 x0 x1)), (3, .long 146100), (0, .int x0), (1, .long x1)]) hx hb dX1_yearOfDay_34 hl (by decide) rfl (fun ls hl => ?_)
    refine lv_iload_n hx hb dX1_yearOfDay_36 rfl (lv_at hl 3 rfl) ?_
    refine lv_iload hx hb dX1_yearOfDay_37 (lv_at hl 0 rfl) ?_
    refine vp_callSl (W.runS (As := [.int x0, .int (f_X1_yearOfDay_34_3 x0 x1)]) (rest := []) ⟨hx, hb, hml, hown, hts⟩ (k_X1_firstDayOfYear l x0 (f_X1_yearOfDay_34_3 x0 x1)) (va_cwS 2 hts gX1_yearOfDay_X1_firstDayOfYear rfl rfl rfl (by decide +kernel) ⟨Nat.le_of_ble_eq_true rfl, Nat.le_of_ble_eq_true rfl⟩) preEq rfl rfl hl.1 rfl (lv_room (Nat.le_of_ble_eq_true rfl)) dX1_yearOfDay_39 ⟨Nat.zero_le _, Nat.zero_le _⟩) (fun r hr9 => ?_)
    obtain rfl := hr9
    refine lv_lload_n hx hb dX1_yearOfDay_42 rfl (lv_at hl 4 rfl) ?_
    refine zl_le (tgt := 52) hx hb dX1_yearOfDay_43 dX1_yearOfDay_44 (by decide) (fun c_4 => ?_) (fun c_4 => ?_)
    · refine lv_iload_n hx hb dX1_yearOfDay_52 rfl (lv_at hl 3 rfl) ?_
      refine lv_iload hx hb dX1_yearOfDay_53 (lv_at hl 0 rfl) ?_
      refine lv_iconst (v := 1) hx hb dX1_yearOfDay_55 (by decide) ?_
      refine lv_iadd hx hb dX1_yearOfDay_56 ?_
      refine vp_callSl (W.runS (As := [.int x0, .int ((f_X1_yearOfDay_34_3 x0 x1) + 1)]) (rest := []) ⟨hx, hb, hml, hown, hts⟩ (k_X1_firstDayOfYear l x0 ((f_X1_yearOfDay_34_3 x0 x1) + 1)) (va_cwS 2 hts gX1_yearOfDay_X1_firstDayOfYear rfl rfl rfl (by decide +kernel) ⟨Nat.le_of_ble_eq_true rfl, Nat.le_of_ble_eq_true rfl⟩) preEq rfl rfl hl.1 rfl (lv_room (Nat.le_of_ble_eq_true rfl)) dX1_yearOfDay_57 ⟨Nat.zero_le _, Nat.zero_le _⟩) (fun r hr9 => ?_)
      obtain rfl := hr9
      refine lv_lload_n hx hb dX1_yearOfDay_60 rfl (lv_at hl 4 rfl) ?_
      refine zl_gt (tgt := 72) hx hb dX1_yearOfDay_61 dX1_yearOfDay_62 (by decide) (fun c_5 => ?_) (fun c_5 => ?_)
      · refine lv_iload hx hb dX1_yearOfDay_72 (lv_at hl 0 rfl) ?_
        exact W.iret hx hb hr (fun t ht _ => ⟨_, rfl, (by unfold f_X1_yearOfDay; rw [if_pos c_1, if_pos c_4, if_pos c_5]), ht⟩) (fun _ h => nomatch h) dX1_yearOfDay_74
      · refine lv_iload hx hb dX1_yearOfDay_65 (lv_at hl 0 rfl) ?_
        refine lv_iconst (v := 1) hx hb dX1_yearOfDay_67 (by decide) ?_
        refine lv_iadd hx hb dX1_yearOfDay_68 ?_
        refine lv_goto (tgt := 74) hx hb dX1_yearOfDay_69 (by decide) ?_
        exact W.iret hx hb hr (fun t ht _ => ⟨_, rfl, (by unfold f_X1_yearOfDay; rw [if_pos c_1, if_pos c_4, if_neg c_5]), ht⟩) (fun _ h => nomatch h) dX1_yearOfDay_74
    · refine lv_iload hx hb dX1_yearOfDay_47 (lv_at hl 0 rfl) ?_
      refine lv_iconst (v := 1) hx hb dX1_yearOfDay_49 (by decide) ?_
      refine lv_isub hx hb dX1_yearOfDay_50 ?_
      exact W.iret hx hb hr (fun t ht _ => ⟨_, rfl, (by unfold f_X1_yearOfDay; rw [if_pos c_1, if_neg c_4]), ht⟩) (fun _ h => nomatch h) dX1_yearOfDay_51

def f_X2_number (x0 : Int32) (x1 : Int32) (x2 : Int32) (x3 : Int32) : Int64 := if x2 ≤ 1 then (((f_X2_newYear x0 (Int32.toInt64 x1)) + (Int32.toInt64 x3)) - 1) else (if x2 ≤ 2 then ((((f_X2_newYear x0 (Int32.toInt64 x1)) + (Int32.toInt64 (f_X2_length x0 (Int32.toInt64 x1) 1))) + (Int32.toInt64 x3)) - 1) else (if x2 ≤ 3 then (((((f_X2_newYear x0 (Int32.toInt64 x1)) + (Int32.toInt64 (f_X2_length x0 (Int32.toInt64 x1) 1))) + (Int32.toInt64 (f_X2_length x0 (Int32.toInt64 x1) 2))) + (Int32.toInt64 x3)) - 1) else (if x2 ≤ 4 then ((((((f_X2_newYear x0 (Int32.toInt64 x1)) + (Int32.toInt64 (f_X2_length x0 (Int32.toInt64 x1) 1))) + (Int32.toInt64 (f_X2_length x0 (Int32.toInt64 x1) 2))) + (Int32.toInt64 (f_X2_length x0 (Int32.toInt64 x1) 3))) + (Int32.toInt64 x3)) - 1) else (if x2 ≤ 5 then (((((((f_X2_newYear x0 (Int32.toInt64 x1)) + (Int32.toInt64 (f_X2_length x0 (Int32.toInt64 x1) 1))) + (Int32.toInt64 (f_X2_length x0 (Int32.toInt64 x1) 2))) + (Int32.toInt64 (f_X2_length x0 (Int32.toInt64 x1) 3))) + (Int32.toInt64 (f_X2_length x0 (Int32.toInt64 x1) 4))) + (Int32.toInt64 x3)) - 1) else (if x2 ≤ 6 then ((((((((f_X2_newYear x0 (Int32.toInt64 x1)) + (Int32.toInt64 (f_X2_length x0 (Int32.toInt64 x1) 1))) + (Int32.toInt64 (f_X2_length x0 (Int32.toInt64 x1) 2))) + (Int32.toInt64 (f_X2_length x0 (Int32.toInt64 x1) 3))) + (Int32.toInt64 (f_X2_length x0 (Int32.toInt64 x1) 4))) + (Int32.toInt64 (f_X2_length x0 (Int32.toInt64 x1) 5))) + (Int32.toInt64 x3)) - 1) else (if x2 ≤ 7 then (((((((((f_X2_newYear x0 (Int32.toInt64 x1)) + (Int32.toInt64 (f_X2_length x0 (Int32.toInt64 x1) 1))) + (Int32.toInt64 (f_X2_length x0 (Int32.toInt64 x1) 2))) + (Int32.toInt64 (f_X2_length x0 (Int32.toInt64 x1) 3))) + (Int32.toInt64 (f_X2_length x0 (Int32.toInt64 x1) 4))) + (Int32.toInt64 (f_X2_length x0 (Int32.toInt64 x1) 5))) + (Int32.toInt64 (f_X2_length x0 (Int32.toInt64 x1) 6))) + (Int32.toInt64 x3)) - 1) else (if x2 ≤ 8 then ((((((((((f_X2_newYear x0 (Int32.toInt64 x1)) + (Int32.toInt64 (f_X2_length x0 (Int32.toInt64 x1) 1))) + (Int32.toInt64 (f_X2_length x0 (Int32.toInt64 x1) 2))) + (Int32.toInt64 (f_X2_length x0 (Int32.toInt64 x1) 3))) + (Int32.toInt64 (f_X2_length x0 (Int32.toInt64 x1) 4))) + (Int32.toInt64 (f_X2_length x0 (Int32.toInt64 x1) 5))) + (Int32.toInt64 (f_X2_length x0 (Int32.toInt64 x1) 6))) + (Int32.toInt64 (f_X2_length x0 (Int32.toInt64 x1) 7))) + (Int32.toInt64 x3)) - 1) else (if x2 ≤ 9 then (((((((((((f_X2_newYear x0 (Int32.toInt64 x1)) + (Int32.toInt64 (f_X2_length x0 (Int32.toInt64 x1) 1))) + (Int32.toInt64 (f_X2_length x0 (Int32.toInt64 x1) 2))) + (Int32.toInt64 (f_X2_length x0 (Int32.toInt64 x1) 3))) + (Int32.toInt64 (f_X2_length x0 (Int32.toInt64 x1) 4))) + (Int32.toInt64 (f_X2_length x0 (Int32.toInt64 x1) 5))) + (Int32.toInt64 (f_X2_length x0 (Int32.toInt64 x1) 6))) + (Int32.toInt64 (f_X2_length x0 (Int32.toInt64 x1) 7))) + (Int32.toInt64 (f_X2_length x0 (Int32.toInt64 x1) 8))) + (Int32.toInt64 x3)) - 1) else (if x2 ≤ 10 then ((((((((((((f_X2_newYear x0 (Int32.toInt64 x1)) + (Int32.toInt64 (f_X2_length x0 (Int32.toInt64 x1) 1))) + (Int32.toInt64 (f_X2_length x0 (Int32.toInt64 x1) 2))) + (Int32.toInt64 (f_X2_length x0 (Int32.toInt64 x1) 3))) + (Int32.toInt64 (f_X2_length x0 (Int32.toInt64 x1) 4))) + (Int32.toInt64 (f_X2_length x0 (Int32.toInt64 x1) 5))) + (Int32.toInt64 (f_X2_length x0 (Int32.toInt64 x1) 6))) + (Int32.toInt64 (f_X2_length x0 (Int32.toInt64 x1) 7))) + (Int32.toInt64 (f_X2_length x0 (Int32.toInt64 x1) 8))) + (Int32.toInt64 (f_X2_length x0 (Int32.toInt64 x1) 9))) + (Int32.toInt64 x3)) - 1) else (if x2 ≤ 11 then (((((((((((((f_X2_newYear x0 (Int32.toInt64 x1)) + (Int32.toInt64 (f_X2_length x0 (Int32.toInt64 x1) 1))) + (Int32.toInt64 (f_X2_length x0 (Int32.toInt64 x1) 2))) + (Int32.toInt64 (f_X2_length x0 (Int32.toInt64 x1) 3))) + (Int32.toInt64 (f_X2_length x0 (Int32.toInt64 x1) 4))) + (Int32.toInt64 (f_X2_length x0 (Int32.toInt64 x1) 5))) + (Int32.toInt64 (f_X2_length x0 (Int32.toInt64 x1) 6))) + (Int32.toInt64 (f_X2_length x0 (Int32.toInt64 x1) 7))) + (Int32.toInt64 (f_X2_length x0 (Int32.toInt64 x1) 8))) + (Int32.toInt64 (f_X2_length x0 (Int32.toInt64 x1) 9))) + (Int32.toInt64 (f_X2_length x0 (Int32.toInt64 x1) 10))) + (Int32.toInt64 x3)) - 1) else ((((((((((((((f_X2_newYear x0 (Int32.toInt64 x1)) + (Int32.toInt64 (f_X2_length x0 (Int32.toInt64 x1) 1))) + (Int32.toInt64 (f_X2_length x0 (Int32.toInt64 x1) 2))) + (Int32.toInt64 (f_X2_length x0 (Int32.toInt64 x1) 3))) + (Int32.toInt64 (f_X2_length x0 (Int32.toInt64 x1) 4))) + (Int32.toInt64 (f_X2_length x0 (Int32.toInt64 x1) 5))) + (Int32.toInt64 (f_X2_length x0 (Int32.toInt64 x1) 6))) + (Int32.toInt64 (f_X2_length x0 (Int32.toInt64 x1) 7))) + (Int32.toInt64 (f_X2_length x0 (Int32.toInt64 x1) 8))) + (Int32.toInt64 (f_X2_length x0 (Int32.toInt64 x1) 9))) + (Int32.toInt64 (f_X2_length x0 (Int32.toInt64 x1) 10))) + (Int32.toInt64 (f_X2_length x0 (Int32.toInt64 x1) 11))) + (Int32.toInt64 x3)) - 1)))))))))))
set_option maxHeartbeats 4000000 in
set_option maxRecDepth 100000 in
theorem k_X2_number (l : Launch) (x0 : Int32) (x1 : Int32) (x2 : Int32) (x3 : Int32) (h0 : x2 ≤ 12) : Met l yX2_number wsX2_number ({ frames := 4, cells := 0, slots := 0, locals := 92 }) (fun v _ => v = ([.int x0, .int x1, .int x2, .int x3] : List Value).toArray) (vp_Sl (fun r => r = f_X2_number x0 x1 x2 x3)) 0 0 (fun _ => False) := by
  refine Met.ofW (cc := cX2_number) (maxL := 7) (ret := (some .long)) (by decide) rfl ?_
  intro p e s m args below meth c s₁ B hml hv
  obtain rfl := hv
  have hx := B.exec
  have hb := B.bytes
  have hr := B.returns
  have hts := atoms_spec (ws := wsX2_number) B.pre
  have hown : s.vm.findClass RX2 = some m.cls := findClass_of_methodNamed B.named
  have hlocks := B.notSynchronized
  have hl := lv_entry ([.int x0, .int x1, .int x2, .int x3]) (n := 7) (Nat.le_of_ble_eq_true rfl)
  rw [lg_entry_eq]
  generalize (lg_sl ([.int x0, .int x1, .int x2, .int x3]) ++ List.replicate (7 - (lg_sl ([.int x0, .int x1, .int x2, .int x3])).length) Slot.unset).toArray = ls at hl ⊢
  have hl : lv_has ls 7 [(0, .int x0), (1, .int x1), (2, .int x2), (3, .int x3)] := hl
  refine lv_iload_n hx hb dX2_number_0 rfl (lv_at hl 0 rfl) ?_
  refine lv_iload_n hx hb dX2_number_1 rfl (lv_at hl 1 rfl) ?_
  refine lv_i2l hx hb dX2_number_2 rfl ?_
  refine vp_callSl (W.runS (As := [.int x0, .long (Int32.toInt64 x1)]) (rest := []) ⟨hx, hb, hml, hown, hts⟩ (k_X2_newYear l x0 (Int32.toInt64 x1)) (va_cwS 2 hts gX2_number_X2_newYear rfl rfl rfl (by decide +kernel) ⟨Nat.le_of_ble_eq_true rfl, Nat.le_of_ble_eq_true rfl⟩) preEq rfl rfl hl.1 rfl (lv_room (Nat.le_of_ble_eq_true rfl)) dX2_number_3 ⟨Nat.zero_le _, Nat.zero_le _⟩) (fun r hr9 => ?_)
  obtain rfl := hr9
  refine lv_lstore (lv' := [(4, .long (f_X2_newYear x0 (Int32.toInt64 x1))), (0, .int x0), (1, .int x1), (2, .int x2), (3, .int x3)]) hx hb dX2_number_6 hl (by decide) rfl (fun ls hl => ?_)
  refine lv_iconst (v := 1) hx hb dX2_number_8 (by decide) ?_
  refine lv_istore (lv' := [(6, .int 1), (4, .long (f_X2_newYear x0 (Int32.toInt64 x1))), (0, .int x0), (1, .int x1), (2, .int x2), (3, .int x3)]) hx hb dX2_number_9 hl (by decide) rfl (fun ls hl => ?_)
  refine lv_iload hx hb dX2_number_11 (lv_at hl 0 rfl) ?_
  refine lv_iload_n hx hb dX2_number_13 rfl (lv_at hl 4 rfl) ?_
  refine lv_icmp_ge (tgt := 37) hx hb dX2_number_14 (by decide) (fun c_1 => ?_) (fun c_1 => ?_)
  · refine lv_lload hx hb dX2_number_37 (lv_at hl 1 rfl) ?_
    refine lv_iload_n hx hb dX2_number_39 rfl (lv_at hl 5 rfl) ?_
    refine lv_i2l hx hb dX2_number_40 rfl ?_
    refine lv_ladd hx hb dX2_number_41 ?_
    refine lv_lconst (v := 1) hx hb dX2_number_42 (by decide) ?_
    refine lv_lsub hx hb dX2_number_43 ?_
    exact W.lret hx hb hr (fun t ht _ => ⟨_, rfl, (by unfold f_X2_number; rw [if_pos c_1]), ht⟩) (fun _ h => nomatch h) dX2_number_44
  · refine lv_lload hx hb dX2_number_17 (lv_at hl 1 rfl) ?_
    refine lv_iload_n hx hb dX2_number_19 rfl (lv_at hl 2 rfl) ?_
    refine lv_iload_n hx hb dX2_number_20 rfl (lv_at hl 3 rfl) ?_
    refine lv_i2l hx hb dX2_number_21 rfl ?_
    refine lv_iload hx hb dX2_number_22 (lv_at hl 0 rfl) ?_
    refine vp_callSi (W.runS (As := [.int x0, .long (Int32.toInt64 x1), .int 1]) (rest := [.long (f_X2_newYear x0 (Int32.toInt64 x1))]) ⟨hx, hb, hml, hown, hts⟩ (k_X2_length l x0 (Int32.toInt64 x1) 1) (va_cwS 3 hts gX2_number_X2_length rfl rfl rfl (by decide +kernel) ⟨Nat.le_of_ble_eq_true rfl, Nat.le_of_ble_eq_true rfl⟩) preEq rfl rfl hl.1 rfl (lv_room (Nat.le_of_ble_eq_true rfl)) dX2_number_24 ⟨Nat.zero_le _, Nat.zero_le _⟩) (fun r hr9 => ?_)
    obtain rfl := hr9
    refine lv_i2l hx hb dX2_number_27 rfl ?_
    refine lv_ladd hx hb dX2_number_28 ?_
    refine lv_lstore (lv' := [(4, .long ((f_X2_newYear x0 (Int32.toInt64 x1)) + (Int32.toInt64 (f_X2_length x0 (Int32.toInt64 x1) 1)))), (6, .int 1), (0, .int x0), (1, .int x1), (2, .int x2), (3, .int x3)]) hx hb dX2_number_29 hl (by decide) rfl (fun ls hl => ?_)
    refine lv_iinc (v := 2) (lv' := [(6, .int 2), (4, .long ((f_X2_newYear x0 (Int32.toInt64 x1)) + (Int32.toInt64 (f_X2_length x0 (Int32.toInt64 x1) 1)))), (0, .int x0), (1, .int x1), (2, .int x2), (3, .int x3)]) hx hb dX2_number_31 hl (k := 1) rfl (by first | rfl | decide) (by decide) rfl (fun ls hl => ?_)
    refine lv_goto (tgt := 11) hx hb dX2_number_34 (by decide) ?_
    refine lv_iload hx hb dX2_number_11 (lv_at hl 0 rfl) ?_
    refine lv_iload_n hx hb dX2_number_13 rfl (lv_at hl 4 rfl) ?_
    refine lv_icmp_ge (tgt := 37) hx hb dX2_number_14 (by decide) (fun c_2 => ?_) (fun c_2 => ?_)
    · refine lv_lload hx hb dX2_number_37 (lv_at hl 1 rfl) ?_
      refine lv_iload_n hx hb dX2_number_39 rfl (lv_at hl 5 rfl) ?_
      refine lv_i2l hx hb dX2_number_40 rfl ?_
      refine lv_ladd hx hb dX2_number_41 ?_
      refine lv_lconst (v := 1) hx hb dX2_number_42 (by decide) ?_
      refine lv_lsub hx hb dX2_number_43 ?_
      exact W.lret hx hb hr (fun t ht _ => ⟨_, rfl, (by unfold f_X2_number; rw [if_neg c_1, if_pos c_2]), ht⟩) (fun _ h => nomatch h) dX2_number_44
    · refine lv_lload hx hb dX2_number_17 (lv_at hl 1 rfl) ?_
      refine lv_iload_n hx hb dX2_number_19 rfl (lv_at hl 2 rfl) ?_
      refine lv_iload_n hx hb dX2_number_20 rfl (lv_at hl 3 rfl) ?_
      refine lv_i2l hx hb dX2_number_21 rfl ?_
      refine lv_iload hx hb dX2_number_22 (lv_at hl 0 rfl) ?_
      refine vp_callSi (W.runS (As := [.int x0, .long (Int32.toInt64 x1), .int 2]) (rest := [.long ((f_X2_newYear x0 (Int32.toInt64 x1)) + (Int32.toInt64 (f_X2_length x0 (Int32.toInt64 x1) 1)))]) ⟨hx, hb, hml, hown, hts⟩ (k_X2_length l x0 (Int32.toInt64 x1) 2) (va_cwS 3 hts gX2_number_X2_length rfl rfl rfl (by decide +kernel) ⟨Nat.le_of_ble_eq_true rfl, Nat.le_of_ble_eq_true rfl⟩) preEq rfl rfl hl.1 rfl (lv_room (Nat.le_of_ble_eq_true rfl)) dX2_number_24 ⟨Nat.zero_le _, Nat.zero_le _⟩) (fun r hr9 => ?_)
      obtain rfl := hr9
      refine lv_i2l hx hb dX2_number_27 rfl ?_
      refine lv_ladd hx hb dX2_number_28 ?_
      refine lv_lstore (lv' := [(4, .long (((f_X2_newYear x0 (Int32.toInt64 x1)) + (Int32.toInt64 (f_X2_length x0 (Int32.toInt64 x1) 1))) + (Int32.toInt64 (f_X2_length x0 (Int32.toInt64 x1) 2)))), (6, .int 2), (0, .int x0), (1, .int x1), (2, .int x2), (3, .int x3)]) hx hb dX2_number_29 hl (by decide) rfl (fun ls hl => ?_)
      refine lv_iinc (v := 3) (lv' := [(6, .int 3), (4, .long (((f_X2_newYear x0 (Int32.toInt64 x1)) + (Int32.toInt64 (f_X2_length x0 (Int32.toInt64 x1) 1))) + (Int32.toInt64 (f_X2_length x0 (Int32.toInt64 x1) 2)))), (0, .int x0), (1, .int x1), (2, .int x2), (3, .int x3)]) hx hb dX2_number_31 hl (k := 1) rfl (by first | rfl | decide) (by decide) rfl (fun ls hl => ?_)
      refine lv_goto (tgt := 11) hx hb dX2_number_34 (by decide) ?_
      refine lv_iload hx hb dX2_number_11 (lv_at hl 0 rfl) ?_
      refine lv_iload_n hx hb dX2_number_13 rfl (lv_at hl 4 rfl) ?_
      refine lv_icmp_ge (tgt := 37) hx hb dX2_number_14 (by decide) (fun c_3 => ?_) (fun c_3 => ?_)
      · refine lv_lload hx hb dX2_number_37 (lv_at hl 1 rfl) ?_
        refine lv_iload_n hx hb dX2_number_39 rfl (lv_at hl 5 rfl) ?_
        refine lv_i2l hx hb dX2_number_40 rfl ?_
        refine lv_ladd hx hb dX2_number_41 ?_
        refine lv_lconst (v := 1) hx hb dX2_number_42 (by decide) ?_
        refine lv_lsub hx hb dX2_number_43 ?_
        exact W.lret hx hb hr (fun t ht _ => ⟨_, rfl, (by unfold f_X2_number; rw [if_neg c_1, if_neg c_2, if_pos c_3]), ht⟩) (fun _ h => nomatch h) dX2_number_44
      · refine lv_lload hx hb dX2_number_17 (lv_at hl 1 rfl) ?_
        refine lv_iload_n hx hb dX2_number_19 rfl (lv_at hl 2 rfl) ?_
        refine lv_iload_n hx hb dX2_number_20 rfl (lv_at hl 3 rfl) ?_
        refine lv_i2l hx hb dX2_number_21 rfl ?_
        refine lv_iload hx hb dX2_number_22 (lv_at hl 0 rfl) ?_
        refine vp_callSi (W.runS (As := [.int x0, .long (Int32.toInt64 x1), .int 3]) (rest := [.long (((f_X2_newYear x0 (Int32.toInt64 x1)) + (Int32.toInt64 (f_X2_length x0 (Int32.toInt64 x1) 1))) + (Int32.toInt64 (f_X2_length x0 (Int32.toInt64 x1) 2)))]) ⟨hx, hb, hml, hown, hts⟩ (k_X2_length l x0 (Int32.toInt64 x1) 3) (va_cwS 3 hts gX2_number_X2_length rfl rfl rfl (by decide +kernel) ⟨Nat.le_of_ble_eq_true rfl, Nat.le_of_ble_eq_true rfl⟩) preEq rfl rfl hl.1 rfl (lv_room (Nat.le_of_ble_eq_true rfl)) dX2_number_24 ⟨Nat.zero_le _, Nat.zero_le _⟩) (fun r hr9 => ?_)
        obtain rfl := hr9
        refine lv_i2l hx hb dX2_number_27 rfl ?_
        refine lv_ladd hx hb dX2_number_28 ?_
        refine lv_lstore (lv' := [(4, .long ((((f_X2_newYear x0 (Int32.toInt64 x1)) + (Int32.toInt64 (f_X2_length x0 (Int32.toInt64 x1) 1))) + (Int32.toInt64 (f_X2_length x0 (Int32.toInt64 x1) 2))) + (Int32.toInt64 (f_X2_length x0 (Int32.toInt64 x1) 3)))), (6, .int 3), (0, .int x0), (1, .int x1), (2, .int x2), (3, .int x3)]) hx hb dX2_number_29 hl (by decide) rfl (fun ls hl => ?_)
        refine lv_iinc (v := 4) (lv' := [(6, .int 4), (4, .long ((((f_X2_newYear x0 (Int32.toInt64 x1)) + (Int32.toInt64 (f_X2_length x0 (Int32.toInt64 x1) 1))) + (Int32.toInt64 (f_X2_length x0 (Int32.toInt64 x1) 2))) + (Int32.toInt64 (f_X2_length x0 (Int32.toInt64 x1) 3)))), (0, .int x0), (1, .int x1), (2, .int x2), (3, .int x3)]) hx hb dX2_number_31 hl (k := 1) rfl (by first | rfl | decide) (by decide) rfl (fun ls hl => ?_)
        refine lv_goto (tgt := 11) hx hb dX2_number_34 (by decide) ?_
        refine lv_iload hx hb dX2_number_11 (lv_at hl 0 rfl) ?_
        refine lv_iload_n hx hb dX2_number_13 rfl (lv_at hl 4 rfl) ?_
        refine lv_icmp_ge (tgt := 37) hx hb dX2_number_14 (by decide) (fun c_4 => ?_) (fun c_4 => ?_)
        · refine lv_lload hx hb dX2_number_37 (lv_at hl 1 rfl) ?_
          refine lv_iload_n hx hb dX2_number_39 rfl (lv_at hl 5 rfl) ?_
          refine lv_i2l hx hb dX2_number_40 rfl ?_
          refine lv_ladd hx hb dX2_number_41 ?_
          refine lv_lconst (v := 1) hx hb dX2_number_42 (by decide) ?_
          refine lv_lsub hx hb dX2_number_43 ?_
          exact W.lret hx hb hr (fun t ht _ => ⟨_, rfl, (by unfold f_X2_number; rw [if_neg c_1, if_neg c_2, if_neg c_3, if_pos c_4]), ht⟩) (fun _ h => nomatch h) dX2_number_44
        · refine lv_lload hx hb dX2_number_17 (lv_at hl 1 rfl) ?_
          refine lv_iload_n hx hb dX2_number_19 rfl (lv_at hl 2 rfl) ?_
          refine lv_iload_n hx hb dX2_number_20 rfl (lv_at hl 3 rfl) ?_
          refine lv_i2l hx hb dX2_number_21 rfl ?_
          refine lv_iload hx hb dX2_number_22 (lv_at hl 0 rfl) ?_
          refine vp_callSi (W.runS (As := [.int x0, .long (Int32.toInt64 x1), .int 4]) (rest := [.long ((((f_X2_newYear x0 (Int32.toInt64 x1)) + (Int32.toInt64 (f_X2_length x0 (Int32.toInt64 x1) 1))) + (Int32.toInt64 (f_X2_length x0 (Int32.toInt64 x1) 2))) + (Int32.toInt64 (f_X2_length x0 (Int32.toInt64 x1) 3)))]) ⟨hx, hb, hml, hown, hts⟩ (k_X2_length l x0 (Int32.toInt64 x1) 4) (va_cwS 3 hts gX2_number_X2_length rfl rfl rfl (by decide +kernel) ⟨Nat.le_of_ble_eq_true rfl, Nat.le_of_ble_eq_true rfl⟩) preEq rfl rfl hl.1 rfl (lv_room (Nat.le_of_ble_eq_true rfl)) dX2_number_24 ⟨Nat.zero_le _, Nat.zero_le _⟩) (fun r hr9 => ?_)
          obtain rfl := hr9
          refine lv_i2l hx hb dX2_number_27 rfl ?_
          refine lv_ladd hx hb dX2_number_28 ?_
          refine lv_lstore (lv' := [(4, .long (((((f_X2_newYear x0 (Int32.toInt64 x1)) + (Int32.toInt64 (f_X2_length x0 (Int32.toInt64 x1) 1))) + (Int32.toInt64 (f_X2_length x0 (Int32.toInt64 x1) 2))) + (Int32.toInt64 (f_X2_length x0 (Int32.toInt64 x1) 3))) + (Int32.toInt64 (f_X2_length x0 (Int32.toInt64 x1) 4)))), (6, .int 4), (0, .int x0), (1, .int x1), (2, .int x2), (3, .int x3)]) hx hb dX2_number_29 hl (by decide) rfl (fun ls hl => ?_)
          refine lv_iinc (v := 5) (lv' := [(6, .int 5), (4, .long (((((f_X2_newYear x0 (Int32.toInt64 x1)) + (Int32.toInt64 (f_X2_length x0 (Int32.toInt64 x1) 1))) + (Int32.toInt64 (f_X2_length x0 (Int32.toInt64 x1) 2))) + (Int32.toInt64 (f_X2_length x0 (Int32.toInt64 x1) 3))) + (Int32.toInt64 (f_X2_length x0 (Int32.toInt64 x1) 4)))), (0, .int x0), (1, .int x1), (2, .int x2), (3, .int x3)]) hx hb dX2_number_31 hl (k := 1) rfl (by first | rfl | decide) (by decide) rfl (fun ls hl => ?_)
          refine lv_goto (tgt := 11) hx hb dX2_number_34 (by decide) ?_
          refine lv_iload hx hb dX2_number_11 (lv_at hl 0 rfl) ?_
          refine lv_iload_n hx hb dX2_number_13 rfl (lv_at hl 4 rfl) ?_
          refine lv_icmp_ge (tgt := 37) hx hb dX2_number_14 (by decide) (fun c_5 => ?_) (fun c_5 => ?_)
          · refine lv_lload hx hb dX2_number_37 (lv_at hl 1 rfl) ?_
            refine lv_iload_n hx hb dX2_number_39 rfl (lv_at hl 5 rfl) ?_
            refine lv_i2l hx hb dX2_number_40 rfl ?_
            refine lv_ladd hx hb dX2_number_41 ?_
            refine lv_lconst (v := 1) hx hb dX2_number_42 (by decide) ?_
            refine lv_lsub hx hb dX2_number_43 ?_
            exact W.lret hx hb hr (fun t ht _ => ⟨_, rfl, (by unfold f_X2_number; rw [if_neg c_1, if_neg c_2, if_neg c_3, if_neg c_4, if_pos c_5]), ht⟩) (fun _ h => nomatch h) dX2_number_44
          · refine lv_lload hx hb dX2_number_17 (lv_at hl 1 rfl) ?_
            refine lv_iload_n hx hb dX2_number_19 rfl (lv_at hl 2 rfl) ?_
            refine lv_iload_n hx hb dX2_number_20 rfl (lv_at hl 3 rfl) ?_
            refine lv_i2l hx hb dX2_number_21 rfl ?_
            refine lv_iload hx hb dX2_number_22 (lv_at hl 0 rfl) ?_
            refine vp_callSi (W.runS (As := [.int x0, .long (Int32.toInt64 x1), .int 5]) (rest := [.long (((((f_X2_newYear x0 (Int32.toInt64 x1)) + (Int32.toInt64 (f_X2_length x0 (Int32.toInt64 x1) 1))) + (Int32.toInt64 (f_X2_length x0 (Int32.toInt64 x1) 2))) + (Int32.toInt64 (f_X2_length x0 (Int32.toInt64 x1) 3))) + (Int32.toInt64 (f_X2_length x0 (Int32.toInt64 x1) 4)))]) ⟨hx, hb, hml, hown, hts⟩ (k_X2_length l x0 (Int32.toInt64 x1) 5) (va_cwS 3 hts gX2_number_X2_length rfl rfl rfl (by decide +kernel) ⟨Nat.le_of_ble_eq_true rfl, Nat.le_of_ble_eq_true rfl⟩) preEq rfl rfl hl.1 rfl (lv_room (Nat.le_of_ble_eq_true rfl)) dX2_number_24 ⟨Nat.zero_le _, Nat.zero_le _⟩) (fun r hr9 => ?_)
            obtain rfl := hr9
            refine lv_i2l hx hb dX2_number_27 rfl ?_
            refine lv_ladd hx hb dX2_number_28 ?_
            refine lv_lstore (lv' := [(4, .long ((((((f_X2_newYear x0 (Int32.toInt64 x1)) + (Int32.toInt64 (f_X2_length x0 (Int32.toInt64 x1) 1))) + (Int32.toInt64 (f_X2_length x0 (Int32.toInt64 x1) 2))) + (Int32.toInt64 (f_X2_length x0 (Int32.toInt64 x1) 3))) + (Int32.toInt64 (f_X2_length x0 (Int32.toInt64 x1) 4))) + (Int32.toInt64 (f_X2_length x0 (Int32.toInt64 x1) 5)))), (6, .int 5), (0, .int x0), (1, .int x1), (2, .int x2), (3, .int x3)]) hx hb dX2_number_29 hl (by decide) rfl (fun ls hl => ?_)
            refine lv_iinc (v := 6) (lv' := [(6, .int 6), (4, .long ((((((f_X2_newYear x0 (Int32.toInt64 x1)) + (Int32.toInt64 (f_X2_length x0 (Int32.toInt64 x1) 1))) + (Int32.toInt64 (f_X2_length x0 (Int32.toInt64 x1) 2))) + (Int32.toInt64 (f_X2_length x0 (Int32.toInt64 x1) 3))) + (Int32.toInt64 (f_X2_length x0 (Int32.toInt64 x1) 4))) + (Int32.toInt64 (f_X2_length x0 (Int32.toInt64 x1) 5)))), (0, .int x0), (1, .int x1), (2, .int x2), (3, .int x3)]) hx hb dX2_number_31 hl (k := 1) rfl (by first | rfl | decide) (by decide) rfl (fun ls hl => ?_)
            refine lv_goto (tgt := 11) hx hb dX2_number_34 (by decide) ?_
            refine lv_iload hx hb dX2_number_11 (lv_at hl 0 rfl) ?_
            refine lv_iload_n hx hb dX2_number_13 rfl (lv_at hl 4 rfl) ?_
            refine lv_icmp_ge (tgt := 37) hx hb dX2_number_14 (by decide) (fun c_6 => ?_) (fun c_6 => ?_)
            · refine lv_lload hx hb dX2_number_37 (lv_at hl 1 rfl) ?_
              refine lv_iload_n hx hb dX2_number_39 rfl (lv_at hl 5 rfl) ?_
              refine lv_i2l hx hb dX2_number_40 rfl ?_
              refine lv_ladd hx hb dX2_number_41 ?_
              refine lv_lconst (v := 1) hx hb dX2_number_42 (by decide) ?_
              refine lv_lsub hx hb dX2_number_43 ?_
              exact W.lret hx hb hr (fun t ht _ => ⟨_, rfl, (by unfold f_X2_number; rw [if_neg c_1, if_neg c_2, if_neg c_3, if_neg c_4, if_neg c_5, if_pos c_6]), ht⟩) (fun _ h => nomatch h) dX2_number_44
            · refine lv_lload hx hb dX2_number_17 (lv_at hl 1 rfl) ?_
              refine lv_iload_n hx hb dX2_number_19 rfl (lv_at hl 2 rfl) ?_
              refine lv_iload_n hx hb dX2_number_20 rfl (lv_at hl 3 rfl) ?_
              refine lv_i2l hx hb dX2_number_21 rfl ?_
              refine lv_iload hx hb dX2_number_22 (lv_at hl 0 rfl) ?_
              refine vp_callSi (W.runS (As := [.int x0, .long (Int32.toInt64 x1), .int 6]) (rest := [.long ((((((f_X2_newYear x0 (Int32.toInt64 x1)) + (Int32.toInt64 (f_X2_length x0 (Int32.toInt64 x1) 1))) + (Int32.toInt64 (f_X2_length x0 (Int32.toInt64 x1) 2))) + (Int32.toInt64 (f_X2_length x0 (Int32.toInt64 x1) 3))) + (Int32.toInt64 (f_X2_length x0 (Int32.toInt64 x1) 4))) + (Int32.toInt64 (f_X2_length x0 (Int32.toInt64 x1) 5)))]) ⟨hx, hb, hml, hown, hts⟩ (k_X2_length l x0 (Int32.toInt64 x1) 6) (va_cwS 3 hts gX2_number_X2_length rfl rfl rfl (by decide +kernel) ⟨Nat.le_of_ble_eq_true rfl, Nat.le_of_ble_eq_true rfl⟩) preEq rfl rfl hl.1 rfl (lv_room (Nat.le_of_ble_eq_true rfl)) dX2_number_24 ⟨Nat.zero_le _, Nat.zero_le _⟩) (fun r hr9 => ?_)
              obtain rfl := hr9
              refine lv_i2l hx hb dX2_number_27 rfl ?_
              refine lv_ladd hx hb dX2_number_28 ?_
              refine lv_lstore (lv' := [(4, .long (((((((f_X2_newYear x0 (Int32.toInt64 x1)) + (Int32.toInt64 (f_X2_length x0 (Int32.toInt64 x1) 1))) + (Int32.toInt64 (f_X2_length x0 (Int32.toInt64 x1) 2))) + (Int32.toInt64 (f_X2_length x0 (Int32.toInt64 x1) 3))) + (Int32.toInt64 (f_X2_length x0 (Int32.toInt64 x1) 4))) + (Int32.toInt64 (f_X2_length x0 (Int32.toInt64 x1) 5))) + (Int32.toInt64 (f_X2_length x0 (Int32.toInt64 x1) 6)))), (6, .int 6), (0, .int x0), (1, .int x1), (2, .int x2), (3, .int x3)]) hx hb dX2_number_29 hl (by decide) rfl (fun ls hl => ?_)
              refine lv_iinc (v := 7) (lv' := [(6, .int 7), (4, .long (((((((f_X2_newYear x0 (Int32.toInt64 x1)) + (Int32.toInt64 (f_X2_length x0 (Int32.toInt64 x1) 1))) + (Int32.toInt64 (f_X2_length x0 (Int32.toInt64 x1) 2))) + (Int32.toInt64 (f_X2_length x0 (Int32.toInt64 x1) 3))) + (Int32.toInt64 (f_X2_length x0 (Int32.toInt64 x1) 4))) + (Int32.toInt64 (f_X2_length x0 (Int32.toInt64 x1) 5))) + (Int32.toInt64 (f_X2_length x0 (Int32.toInt64 x1) 6)))), (0, .int x0), (1, .int x1), (2, .int x2), (3, .int x3)]) hx hb dX2_number_31 hl (k := 1) rfl (by first | rfl | decide) (by decide) rfl (fun ls hl => ?_)
              refine lv_goto (tgt := 11) hx hb dX2_number_34 (by decide) ?_
              refine lv_iload hx hb dX2_number_11 (lv_at hl 0 rfl) ?_
              refine lv_iload_n hx hb dX2_number_13 rfl (lv_at hl 4 rfl) ?_
              refine lv_icmp_ge (tgt := 37) hx hb dX2_number_14 (by decide) (fun c_7 => ?_) (fun c_7 => ?_)
              · refine lv_lload hx hb dX2_number_37 (lv_at hl 1 rfl) ?_
                refine lv_iload_n hx hb dX2_number_39 rfl (lv_at hl 5 rfl) ?_
                refine lv_i2l hx hb dX2_number_40 rfl ?_
                refine lv_ladd hx hb dX2_number_41 ?_
                refine lv_lconst (v := 1) hx hb dX2_number_42 (by decide) ?_
                refine lv_lsub hx hb dX2_number_43 ?_
                exact W.lret hx hb hr (fun t ht _ => ⟨_, rfl, (by unfold f_X2_number; rw [if_neg c_1, if_neg c_2, if_neg c_3, if_neg c_4, if_neg c_5, if_neg c_6, if_pos c_7]), ht⟩) (fun _ h => nomatch h) dX2_number_44
              · refine lv_lload hx hb dX2_number_17 (lv_at hl 1 rfl) ?_
                refine lv_iload_n hx hb dX2_number_19 rfl (lv_at hl 2 rfl) ?_
                refine lv_iload_n hx hb dX2_number_20 rfl (lv_at hl 3 rfl) ?_
                refine lv_i2l hx hb dX2_number_21 rfl ?_
                refine lv_iload hx hb dX2_number_22 (lv_at hl 0 rfl) ?_
                refine vp_callSi (W.runS (As := [.int x0, .long (Int32.toInt64 x1), .int 7]) (rest := [.long (((((((f_X2_newYear x0 (Int32.toInt64 x1)) + (Int32.toInt64 (f_X2_length x0 (Int32.toInt64 x1) 1))) + (Int32.toInt64 (f_X2_length x0 (Int32.toInt64 x1) 2))) + (Int32.toInt64 (f_X2_length x0 (Int32.toInt64 x1) 3))) + (Int32.toInt64 (f_X2_length x0 (Int32.toInt64 x1) 4))) + (Int32.toInt64 (f_X2_length x0 (Int32.toInt64 x1) 5))) + (Int32.toInt64 (f_X2_length x0 (Int32.toInt64 x1) 6)))]) ⟨hx, hb, hml, hown, hts⟩ (k_X2_length l x0 (Int32.toInt64 x1) 7) (va_cwS 3 hts gX2_number_X2_length rfl rfl rfl (by decide +kernel) ⟨Nat.le_of_ble_eq_true rfl, Nat.le_of_ble_eq_true rfl⟩) preEq rfl rfl hl.1 rfl (lv_room (Nat.le_of_ble_eq_true rfl)) dX2_number_24 ⟨Nat.zero_le _, Nat.zero_le _⟩) (fun r hr9 => ?_)
                obtain rfl := hr9
                refine lv_i2l hx hb dX2_number_27 rfl ?_
                refine lv_ladd hx hb dX2_number_28 ?_
                refine lv_lstore (lv' := [(4, .long ((((((((f_X2_newYear x0 (Int32.toInt64 x1)) + (Int32.toInt64 (f_X2_length x0 (Int32.toInt64 x1) 1))) + (Int32.toInt64 (f_X2_length x0 (Int32.toInt64 x1) 2))) + (Int32.toInt64 (f_X2_length x0 (Int32.toInt64 x1) 3))) + (Int32.toInt64 (f_X2_length x0 (Int32.toInt64 x1) 4))) + (Int32.toInt64 (f_X2_length x0 (Int32.toInt64 x1) 5))) + (Int32.toInt64 (f_X2_length x0 (Int32.toInt64 x1) 6))) + (Int32.toInt64 (f_X2_length x0 (Int32.toInt64 x1) 7)))), (6, .int 7), (0, .int x0), (1, .int x1), (2, .int x2), (3, .int x3)]) hx hb dX2_number_29 hl (by decide) rfl (fun ls hl => ?_)
                refine lv_iinc (v := 8) (lv' := [(6, .int 8), (4, .long ((((((((f_X2_newYear x0 (Int32.toInt64 x1)) + (Int32.toInt64 (f_X2_length x0 (Int32.toInt64 x1) 1))) + (Int32.toInt64 (f_X2_length x0 (Int32.toInt64 x1) 2))) + (Int32.toInt64 (f_X2_length x0 (Int32.toInt64 x1) 3))) + (Int32.toInt64 (f_X2_length x0 (Int32.toInt64 x1) 4))) + (Int32.toInt64 (f_X2_length x0 (Int32.toInt64 x1) 5))) + (Int32.toInt64 (f_X2_length x0 (Int32.toInt64 x1) 6))) + (Int32.toInt64 (f_X2_length x0 (Int32.toInt64 x1) 7)))), (0, .int x0), (1, .int x1), (2, .int x2), (3, .int x3)]) hx hb dX2_number_31 hl (k := 1) rfl (by first | rfl | decide) (by decide) rfl (fun ls hl => ?_)
                refine lv_goto (tgt := 11) hx hb dX2_number_34 (by decide) ?_
                refine lv_iload hx hb dX2_number_11 (lv_at hl 0 rfl) ?_
                refine lv_iload_n hx hb dX2_number_13 rfl (lv_at hl 4 rfl) ?_
                refine lv_icmp_ge (tgt := 37) hx hb dX2_number_14 (by decide) (fun c_8 => ?_) (fun c_8 => ?_)
                · refine lv_lload hx hb dX2_number_37 (lv_at hl 1 rfl) ?_
                  refine lv_iload_n hx hb dX2_number_39 rfl (lv_at hl 5 rfl) ?_
                  refine lv_i2l hx hb dX2_number_40 rfl ?_
                  refine lv_ladd hx hb dX2_number_41 ?_
                  refine lv_lconst (v := 1) hx hb dX2_number_42 (by decide) ?_
                  refine lv_lsub hx hb dX2_number_43 ?_
                  exact W.lret hx hb hr (fun t ht _ => ⟨_, rfl, (by unfold f_X2_number; rw [if_neg c_1, if_neg c_2, if_neg c_3, if_neg c_4, if_neg c_5, if_neg c_6, if_neg c_7, if_pos c_8]), ht⟩) (fun _ h => nomatch h) dX2_number_44
                · refine lv_lload hx hb dX2_number_17 (lv_at hl 1 rfl) ?_
                  refine lv_iload_n hx hb dX2_number_19 rfl (lv_at hl 2 rfl) ?_
                  refine lv_iload_n hx hb dX2_number_20 rfl (lv_at hl 3 rfl) ?_
                  refine lv_i2l hx hb dX2_number_21 rfl ?_
                  refine lv_iload hx hb dX2_number_22 (lv_at hl 0 rfl) ?_
                  refine vp_callSi (W.runS (As := [.int x0, .long (Int32.toInt64 x1), .int 8]) (rest := [.long ((((((((f_X2_newYear x0 (Int32.toInt64 x1)) + (Int32.toInt64 (f_X2_length x0 (Int32.toInt64 x1) 1))) + (Int32.toInt64 (f_X2_length x0 (Int32.toInt64 x1) 2))) + (Int32.toInt64 (f_X2_length x0 (Int32.toInt64 x1) 3))) + (Int32.toInt64 (f_X2_length x0 (Int32.toInt64 x1) 4))) + (Int32.toInt64 (f_X2_length x0 (Int32.toInt64 x1) 5))) + (Int32.toInt64 (f_X2_length x0 (Int32.toInt64 x1) 6))) + (Int32.toInt64 (f_X2_length x0 (Int32.toInt64 x1) 7)))]) ⟨hx, hb, hml, hown, hts⟩ (k_X2_length l x0 (Int32.toInt64 x1) 8) (va_cwS 3 hts gX2_number_X2_length rfl rfl rfl (by decide +kernel) ⟨Nat.le_of_ble_eq_true rfl, Nat.le_of_ble_eq_true rfl⟩) preEq rfl rfl hl.1 rfl (lv_room (Nat.le_of_ble_eq_true rfl)) dX2_number_24 ⟨Nat.zero_le _, Nat.zero_le _⟩) (fun r hr9 => ?_)
                  obtain rfl := hr9
                  refine lv_i2l hx hb dX2_number_27 rfl ?_
                  refine lv_ladd hx hb dX2_number_28 ?_
                  refine lv_lstore (lv' := [(4, .long (((((((((f_X2_newYear x0 (Int32.toInt64 x1)) + (Int32.toInt64 (f_X2_length x0 (Int32.toInt64 x1) 1))) + (Int32.toInt64 (f_X2_length x0 (Int32.toInt64 x1) 2))) + (Int32.toInt64 (f_X2_length x0 (Int32.toInt64 x1) 3))) + (Int32.toInt64 (f_X2_length x0 (Int32.toInt64 x1) 4))) + (Int32.toInt64 (f_X2_length x0 (Int32.toInt64 x1) 5))) + (Int32.toInt64 (f_X2_length x0 (Int32.toInt64 x1) 6))) + (Int32.toInt64 (f_X2_length x0 (Int32.toInt64 x1) 7))) + (Int32.toInt64 (f_X2_length x0 (Int32.toInt64 x1) 8)))), (6, .int 8), (0, .int x0), (1, .int x1), (2, .int x2), (3, .int x3)]) hx hb dX2_number_29 hl (by decide) rfl (fun ls hl => ?_)
                  refine lv_iinc (v := 9) (lv' := [(6, .int 9), (4, .long (((((((((f_X2_newYear x0 (Int32.toInt64 x1)) + (Int32.toInt64 (f_X2_length x0 (Int32.toInt64 x1) 1))) + (Int32.toInt64 (f_X2_length x0 (Int32.toInt64 x1) 2))) + (Int32.toInt64 (f_X2_length x0 (Int32.toInt64 x1) 3))) + (Int32.toInt64 (f_X2_length x0 (Int32.toInt64 x1) 4))) + (Int32.toInt64 (f_X2_length x0 (Int32.toInt64 x1) 5))) + (Int32.toInt64 (f_X2_length x0 (Int32.toInt64 x1) 6))) + (Int32.toInt64 (f_X2_length x0 (Int32.toInt64 x1) 7))) + (Int32.toInt64 (f_X2_length x0 (Int32.toInt64 x1) 8)))), (0, .int x0), (1, .int x1), (2, .int x2), (3, .int x3)]) hx hb dX2_number_31 hl (k := 1) rfl (by first | rfl | decide) (by decide) rfl (fun ls hl => ?_)
                  refine lv_goto (tgt := 11) hx hb dX2_number_34 (by decide) ?_
                  refine lv_iload hx hb dX2_number_11 (lv_at hl 0 rfl) ?_
                  refine lv_iload_n hx hb dX2_number_13 rfl (lv_at hl 4 rfl) ?_
                  refine lv_icmp_ge (tgt := 37) hx hb dX2_number_14 (by decide) (fun c_9 => ?_) (fun c_9 => ?_)
                  · refine lv_lload hx hb dX2_number_37 (lv_at hl 1 rfl) ?_
                    refine lv_iload_n hx hb dX2_number_39 rfl (lv_at hl 5 rfl) ?_
                    refine lv_i2l hx hb dX2_number_40 rfl ?_
                    refine lv_ladd hx hb dX2_number_41 ?_
                    refine lv_lconst (v := 1) hx hb dX2_number_42 (by decide) ?_
                    refine lv_lsub hx hb dX2_number_43 ?_
                    exact W.lret hx hb hr (fun t ht _ => ⟨_, rfl, (by unfold f_X2_number; rw [if_neg c_1, if_neg c_2, if_neg c_3, if_neg c_4, if_neg c_5, if_neg c_6, if_neg c_7, if_neg c_8, if_pos c_9]), ht⟩) (fun _ h => nomatch h) dX2_number_44
                  · refine lv_lload hx hb dX2_number_17 (lv_at hl 1 rfl) ?_
                    refine lv_iload_n hx hb dX2_number_19 rfl (lv_at hl 2 rfl) ?_
                    refine lv_iload_n hx hb dX2_number_20 rfl (lv_at hl 3 rfl) ?_
                    refine lv_i2l hx hb dX2_number_21 rfl ?_
                    refine lv_iload hx hb dX2_number_22 (lv_at hl 0 rfl) ?_
                    refine vp_callSi (W.runS (As := [.int x0, .long (Int32.toInt64 x1), .int 9]) (rest := [.long (((((((((f_X2_newYear x0 (Int32.toInt64 x1)) + (Int32.toInt64 (f_X2_length x0 (Int32.toInt64 x1) 1))) + (Int32.toInt64 (f_X2_length x0 (Int32.toInt64 x1) 2))) + (Int32.toInt64 (f_X2_length x0 (Int32.toInt64 x1) 3))) + (Int32.toInt64 (f_X2_length x0 (Int32.toInt64 x1) 4))) + (Int32.toInt64 (f_X2_length x0 (Int32.toInt64 x1) 5))) + (Int32.toInt64 (f_X2_length x0 (Int32.toInt64 x1) 6))) + (Int32.toInt64 (f_X2_length x0 (Int32.toInt64 x1) 7))) + (Int32.toInt64 (f_X2_length x0 (Int32.toInt64 x1) 8)))]) ⟨hx, hb, hml, hown, hts⟩ (k_X2_length l x0 (Int32.toInt64 x1) 9) (va_cwS 3 hts gX2_number_X2_length rfl rfl rfl (by decide +kernel) ⟨Nat.le_of_ble_eq_true rfl, Nat.le_of_ble_eq_true rfl⟩) preEq rfl rfl hl.1 rfl (lv_room (Nat.le_of_ble_eq_true rfl)) dX2_number_24 ⟨Nat.zero_le _, Nat.zero_le _⟩) (fun r hr9 => ?_)
                    obtain rfl := hr9
                    refine lv_i2l hx hb dX2_number_27 rfl ?_
                    refine lv_ladd hx hb dX2_number_28 ?_
                    refine lv_lstore (lv' := [(4, .long ((((((((((f_X2_newYear x0 (Int32.toInt64 x1)) + (Int32.toInt64 (f_X2_length x0 (Int32.toInt64 x1) 1))) + (Int32.toInt64 (f_X2_length x0 (Int32.toInt64 x1) 2))) + (Int32.toInt64 (f_X2_length x0 (Int32.toInt64 x1) 3))) + (Int32.toInt64 (f_X2_length x0 (Int32.toInt64 x1) 4))) + (Int32.toInt64 (f_X2_length x0 (Int32.toInt64 x1) 5))) + (Int32.toInt64 (f_X2_length x0 (Int32.toInt64 x1) 6))) + (Int32.toInt64 (f_X2_length x0 (Int32.toInt64 x1) 7))) + (Int32.toInt64 (f_X2_length x0 (Int32.toInt64 x1) 8))) + (Int32.toInt64 (f_X2_length x0 (Int32.toInt64 x1) 9)))), (6, .int 9), (0, .int x0), (1, .int x1), (2, .int x2), (3, .int x3)]) hx hb dX2_number_29 hl (by decide) rfl (fun ls hl => ?_)
                    refine lv_iinc (v := 10) (lv' := [(6, .int 10), (4, .long ((((((((((f_X2_newYear x0 (Int32.toInt64 x1)) + (Int32.toInt64 (f_X2_length x0 (Int32.toInt64 x1) 1))) + (Int32.toInt64 (f_X2_length x0 (Int32.toInt64 x1) 2))) + (Int32.toInt64 (f_X2_length x0 (Int32.toInt64 x1) 3))) + (Int32.toInt64 (f_X2_length x0 (Int32.toInt64 x1) 4))) + (Int32.toInt64 (f_X2_length x0 (Int32.toInt64 x1) 5))) + (Int32.toInt64 (f_X2_length x0 (Int32.toInt64 x1) 6))) + (Int32.toInt64 (f_X2_length x0 (Int32.toInt64 x1) 7))) + (Int32.toInt64 (f_X2_length x0 (Int32.toInt64 x1) 8))) + (Int32.toInt64 (f_X2_length x0 (Int32.toInt64 x1) 9)))), (0, .int x0), (1, .int x1), (2, .int x2), (3, .int x3)]) hx hb dX2_number_31 hl (k := 1) rfl (by first | rfl | decide) (by decide) rfl (fun ls hl => ?_)
                    refine lv_goto (tgt := 11) hx hb dX2_number_34 (by decide) ?_
                    refine lv_iload hx hb dX2_number_11 (lv_at hl 0 rfl) ?_
                    refine lv_iload_n hx hb dX2_number_13 rfl (lv_at hl 4 rfl) ?_
                    refine lv_icmp_ge (tgt := 37) hx hb dX2_number_14 (by decide) (fun c_10 => ?_) (fun c_10 => ?_)
                    · refine lv_lload hx hb dX2_number_37 (lv_at hl 1 rfl) ?_
                      refine lv_iload_n hx hb dX2_number_39 rfl (lv_at hl 5 rfl) ?_
                      refine lv_i2l hx hb dX2_number_40 rfl ?_
                      refine lv_ladd hx hb dX2_number_41 ?_
                      refine lv_lconst (v := 1) hx hb dX2_number_42 (by decide) ?_
                      refine lv_lsub hx hb dX2_number_43 ?_
                      exact W.lret hx hb hr (fun t ht _ => ⟨_, rfl, (by unfold f_X2_number; rw [if_neg c_1, if_neg c_2, if_neg c_3, if_neg c_4, if_neg c_5, if_neg c_6, if_neg c_7, if_neg c_8, if_neg c_9, if_pos c_10]), ht⟩) (fun _ h => nomatch h) dX2_number_44
                    · refine lv_lload hx hb dX2_number_17 (lv_at hl 1 rfl) ?_
                      refine lv_iload_n hx hb dX2_number_19 rfl (lv_at hl 2 rfl) ?_
                      refine lv_iload_n hx hb dX2_number_20 rfl (lv_at hl 3 rfl) ?_
                      refine lv_i2l hx hb dX2_number_21 rfl ?_
                      refine lv_iload hx hb dX2_number_22 (lv_at hl 0 rfl) ?_
                      refine vp_callSi (W.runS (As := [.int x0, .long (Int32.toInt64 x1), .int 10]) (rest := [.long ((((((((((f_X2_newYear x0 (Int32.toInt64 x1)) + (Int32.toInt64 (f_X2_length x0 (Int32.toInt64 x1) 1))) + (Int32.toInt64 (f_X2_length x0 (Int32.toInt64 x1) 2))) + (Int32.toInt64 (f_X2_length x0 (Int32.toInt64 x1) 3))) + (Int32.toInt64 (f_X2_length x0 (Int32.toInt64 x1) 4))) + (Int32.toInt64 (f_X2_length x0 (Int32.toInt64 x1) 5))) + (Int32.toInt64 (f_X2_length x0 (Int32.toInt64 x1) 6))) + (Int32.toInt64 (f_X2_length x0 (Int32.toInt64 x1) 7))) + (Int32.toInt64 (f_X2_length x0 (Int32.toInt64 x1) 8))) + (Int32.toInt64 (f_X2_length x0 (Int32.toInt64 x1) 9)))]) ⟨hx, hb, hml, hown, hts⟩ (k_X2_length l x0 (Int32.toInt64 x1) 10) (va_cwS 3 hts gX2_number_X2_length rfl rfl rfl (by decide +kernel) ⟨Nat.le_of_ble_eq_true rfl, Nat.le_of_ble_eq_true rfl⟩) preEq rfl rfl hl.1 rfl (lv_room (Nat.le_of_ble_eq_true rfl)) dX2_number_24 ⟨Nat.zero_le _, Nat.zero_le _⟩) (fun r hr9 => ?_)
                      obtain rfl := hr9
                      refine lv_i2l hx hb dX2_number_27 rfl ?_
                      refine lv_ladd hx hb dX2_number_28 ?_
                      refine lv_lstore (lv' := [(4, .long (((((((((((f_X2_newYear x0 (Int32.toInt64 x1)) + (Int32.toInt64 (f_X2_length x0 (Int32.toInt64 x1) 1))) + (Int32.toInt64 (f_X2_length x0 (Int32.toInt64 x1) 2))) + (Int32.toInt64 (f_X2_length x0 (Int32.toInt64 x1) 3))) + (Int32.toInt64 (f_X2_length x0 (Int32.toInt64 x1) 4))) + (Int32.toInt64 (f_X2_length x0 (Int32.toInt64 x1) 5))) + (Int32.toInt64 (f_X2_length x0 (Int32.toInt64 x1) 6))) + (Int32.toInt64 (f_X2_length x0 (Int32.toInt64 x1) 7))) + (Int32.toInt64 (f_X2_length x0 (Int32.toInt64 x1) 8))) + (Int32.toInt64 (f_X2_length x0 (Int32.toInt64 x1) 9))) + (Int32.toInt64 (f_X2_length x0 (Int32.toInt64 x1) 10)))), (6, .int 10), (0, .int x0), (1, .int x1), (2, .int x2), (3, .int x3)]) hx hb dX2_number_29 hl (by decide) rfl (fun ls hl => ?_)
                      refine lv_iinc (v := 11) (lv' := [(6, .int 11), (4, .long (((((((((((f_X2_newYear x0 (Int32.toInt64 x1)) + (Int32.toInt64 (f_X2_length x0 (Int32.toInt64 x1) 1))) + (Int32.toInt64 (f_X2_length x0 (Int32.toInt64 x1) 2))) + (Int32.toInt64 (f_X2_length x0 (Int32.toInt64 x1) 3))) + (Int32.toInt64 (f_X2_length x0 (Int32.toInt64 x1) 4))) + (Int32.toInt64 (f_X2_length x0 (Int32.toInt64 x1) 5))) + (Int32.toInt64 (f_X2_length x0 (Int32.toInt64 x1) 6))) + (Int32.toInt64 (f_X2_length x0 (Int32.toInt64 x1) 7))) + (Int32.toInt64 (f_X2_length x0 (Int32.toInt64 x1) 8))) + (Int32.toInt64 (f_X2_length x0 (Int32.toInt64 x1) 9))) + (Int32.toInt64 (f_X2_length x0 (Int32.toInt64 x1) 10)))), (0, .int x0), (1, .int x1), (2, .int x2), (3, .int x3)]) hx hb dX2_number_31 hl (k := 1) rfl (by first | rfl | decide) (by decide) rfl (fun ls hl => ?_)
                      refine lv_goto (tgt := 11) hx hb dX2_number_34 (by decide) ?_
                      refine lv_iload hx hb dX2_number_11 (lv_at hl 0 rfl) ?_
                      refine lv_iload_n hx hb dX2_number_13 rfl (lv_at hl 4 rfl) ?_
                      refine lv_icmp_ge (tgt := 37) hx hb dX2_number_14 (by decide) (fun c_11 => ?_) (fun c_11 => ?_)
                      · refine lv_lload hx hb dX2_number_37 (lv_at hl 1 rfl) ?_
                        refine lv_iload_n hx hb dX2_number_39 rfl (lv_at hl 5 rfl) ?_
                        refine lv_i2l hx hb dX2_number_40 rfl ?_
                        refine lv_ladd hx hb dX2_number_41 ?_
                        refine lv_lconst (v := 1) hx hb dX2_number_42 (by decide) ?_
                        refine lv_lsub hx hb dX2_number_43 ?_
                        exact W.lret hx hb hr (fun t ht _ => ⟨_, rfl, (by unfold f_X2_number; rw [if_neg c_1, if_neg c_2, if_neg c_3, if_neg c_4, if_neg c_5, if_neg c_6, if_neg c_7, if_neg c_8, if_neg c_9, if_neg c_10, if_pos c_11]), ht⟩) (fun _ h => nomatch h) dX2_number_44
                      · refine lv_lload hx hb dX2_number_17 (lv_at hl 1 rfl) ?_
                        refine lv_iload_n hx hb dX2_number_19 rfl (lv_at hl 2 rfl) ?_
                        refine lv_iload_n hx hb dX2_number_20 rfl (lv_at hl 3 rfl) ?_
                        refine lv_i2l hx hb dX2_number_21 rfl ?_
                        refine lv_iload hx hb dX2_number_22 (lv_at hl 0 rfl) ?_
                        refine vp_callSi (W.runS (As := [.int x0, .long (Int32.toInt64 x1), .int 11]) (rest := [.long (((((((((((f_X2_newYear x0 (Int32.toInt64 x1)) + (Int32.toInt64 (f_X2_length x0 (Int32.toInt64 x1) 1))) + (Int32.toInt64 (f_X2_length x0 (Int32.toInt64 x1) 2))) + (Int32.toInt64 (f_X2_length x0 (Int32.toInt64 x1) 3))) + (Int32.toInt64 (f_X2_length x0 (Int32.toInt64 x1) 4))) + (Int32.toInt64 (f_X2_length x0 (Int32.toInt64 x1) 5))) + (Int32.toInt64 (f_X2_length x0 (Int32.toInt64 x1) 6))) + (Int32.toInt64 (f_X2_length x0 (Int32.toInt64 x1) 7))) + (Int32.toInt64 (f_X2_length x0 (Int32.toInt64 x1) 8))) + (Int32.toInt64 (f_X2_length x0 (Int32.toInt64 x1) 9))) + (Int32.toInt64 (f_X2_length x0 (Int32.toInt64 x1) 10)))]) ⟨hx, hb, hml, hown, hts⟩ (k_X2_length l x0 (Int32.toInt64 x1) 11) (va_cwS 3 hts gX2_number_X2_length rfl rfl rfl (by decide +kernel) ⟨Nat.le_of_ble_eq_true rfl, Nat.le_of_ble_eq_true rfl⟩) preEq rfl rfl hl.1 rfl (lv_room (Nat.le_of_ble_eq_true rfl)) dX2_number_24 ⟨Nat.zero_le _, Nat.zero_le _⟩) (fun r hr9 => ?_)
                        obtain rfl := hr9
                        refine lv_i2l hx hb dX2_number_27 rfl ?_
                        refine lv_ladd hx hb dX2_number_28 ?_
                        refine lv_lstore (lv' := [(4, .long ((((((((((((f_X2_newYear x0 (Int32.toInt64 x1)) + (Int32.toInt64 (f_X2_length x0 (Int32.toInt64 x1) 1))) + (Int32.toInt64 (f_X2_length x0 (Int32.toInt64 x1) 2))) + (Int32.toInt64 (f_X2_length x0 (Int32.toInt64 x1) 3))) + (Int32.toInt64 (f_X2_length x0 (Int32.toInt64 x1) 4))) + (Int32.toInt64 (f_X2_length x0 (Int32.toInt64 x1) 5))) + (Int32.toInt64 (f_X2_length x0 (Int32.toInt64 x1) 6))) + (Int32.toInt64 (f_X2_length x0 (Int32.toInt64 x1) 7))) + (Int32.toInt64 (f_X2_length x0 (Int32.toInt64 x1) 8))) + (Int32.toInt64 (f_X2_length x0 (Int32.toInt64 x1) 9))) + (Int32.toInt64 (f_X2_length x0 (Int32.toInt64 x1) 10))) + (Int32.toInt64 (f_X2_length x0 (Int32.toInt64 x1) 11)))), (6, .int 11), (0, .int x0), (1, .int x1), (2, .int x2), (3, .int x3)]) hx hb dX2_number_29 hl (by decide) rfl (fun ls hl => ?_)
                        refine lv_iinc (v := 12) (lv' := [(6, .int 12), (4, .long ((((((((((((f_X2_newYear x0 (Int32.toInt64 x1)) + (Int32.toInt64 (f_X2_length x0 (Int32.toInt64 x1) 1))) + (Int32.toInt64 (f_X2_length x0 (Int32.toInt64 x1) 2))) + (Int32.toInt64 (f_X2_length x0 (Int32.toInt64 x1) 3))) + (Int32.toInt64 (f_X2_length x0 (Int32.toInt64 x1) 4))) + (Int32.toInt64 (f_X2_length x0 (Int32.toInt64 x1) 5))) + (Int32.toInt64 (f_X2_length x0 (Int32.toInt64 x1) 6))) + (Int32.toInt64 (f_X2_length x0 (Int32.toInt64 x1) 7))) + (Int32.toInt64 (f_X2_length x0 (Int32.toInt64 x1) 8))) + (Int32.toInt64 (f_X2_length x0 (Int32.toInt64 x1) 9))) + (Int32.toInt64 (f_X2_length x0 (Int32.toInt64 x1) 10))) + (Int32.toInt64 (f_X2_length x0 (Int32.toInt64 x1) 11)))), (0, .int x0), (1, .int x1), (2, .int x2), (3, .int x3)]) hx hb dX2_number_31 hl (k := 1) rfl (by first | rfl | decide) (by decide) rfl (fun ls hl => ?_)
                        refine lv_goto (tgt := 11) hx hb dX2_number_34 (by decide) ?_
                        refine lv_iload hx hb dX2_number_11 (lv_at hl 0 rfl) ?_
                        refine lv_iload_n hx hb dX2_number_13 rfl (lv_at hl 4 rfl) ?_
                        refine lv_icmp_ge (tgt := 37) hx hb dX2_number_14 (by decide) (fun _ => ?_) (fun c_12 => absurd c_12 (fun h => h h0))
                        refine lv_lload hx hb dX2_number_37 (lv_at hl 1 rfl) ?_
                        refine lv_iload_n hx hb dX2_number_39 rfl (lv_at hl 5 rfl) ?_
                        refine lv_i2l hx hb dX2_number_40 rfl ?_
                        refine lv_ladd hx hb dX2_number_41 ?_
                        refine lv_lconst (v := 1) hx hb dX2_number_42 (by decide) ?_
                        refine lv_lsub hx hb dX2_number_43 ?_
                        exact W.lret hx hb hr (fun t ht _ => ⟨_, rfl, (by unfold f_X2_number; rw [if_neg c_1, if_neg c_2, if_neg c_3, if_neg c_4, if_neg c_5, if_neg c_6, if_neg c_7, if_neg c_8, if_neg c_9, if_neg c_10, if_neg c_11]), ht⟩) (fun _ h => nomatch h) dX2_number_44
end
