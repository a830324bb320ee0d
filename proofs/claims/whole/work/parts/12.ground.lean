/-! ===== the ground: what every contract of the class takes as given of the tables and of cells that nobody writes ===== -/
def gML : Nat → Value := fun j => .int (([31, 28, 31, 30, 31, 30, 31, 31, 30, 31, 30, 31] : List Int32).getD j 0)
def gTN : Nat → Value := fun j => .long (([1, 10, 100, 1000, 10000, 100000] : List Int64).getD j 0)
def xIA : String := "java/lang/IllegalArgumentException"
def xIS : String := "java/lang/IllegalStateException"
def xIO : String := "java/lang/IndexOutOfBoundsException"
def xNS : String := "java/util/NoSuchElementException"
def nestW : List Cond := [.fieldLinkNest RX1 157 "SkyAlmanac$Body" "isSet" "Z" "SkyAlmanac", .fieldLinkNest RX1 161 "SkyAlmanac$Body" "orbitL" "D" "SkyAlmanac", .fieldLinkNest RX1 164 "SkyAlmanac$Body" "orbitN" "D" "SkyAlmanac", .fieldLinkNest RX1 167 "SkyAlmanac$Body" "orbitE" "D" "SkyAlmanac", .fieldLinkNest RX1 170 "SkyAlmanac$Body" "orbitW" "D" "SkyAlmanac", .fieldLinkNest RX1 183 "SkyAlmanac$Body" "terms" "I" "SkyAlmanac", .fieldLinkNest RX1 191 "SkyAlmanac$Body" "powers" "[I" "SkyAlmanac", .fieldLinkNest RX1 194 "SkyAlmanac$Body" "factors" "[D" "SkyAlmanac", .fieldLinkNest RX1 198 "SkyAlmanac$Body" "starts" "[D" "SkyAlmanac", .fieldLinkNest RX1 201 "SkyAlmanac$Body" "speeds" "[D" "SkyAlmanac"]
def nestM : List (String × Nat × MethodName) := [(RX1, 15, yX0_init), (RX1, 255, yX0_sumOfPower), (RX0, 29, yX1_cosine)]
def strW : List (Nat × String) := [(100, "no Easter is told for this year"), (138, "no such body"), (155, "no such orbit"), (181, "no such term"), (188, "the body has all its terms"), (212, "no such place"), (216, "no such body is set"), (223, "the time is out of range"), (266, "the anomaly fails"), (276, "no such kind of event"), (282, "the day is out of range"), (296, "no such event on this day"), (314, "the angle is out of range"), (318, "no such number of places"), (341, "no such letter"), (343, "no such sign"), (351, "no such angle"), (45, "no such calendar"), (54, "no such year"), (64, "no such date"), (75, "this date was left out"), (81, "no such day number"), (85, "no such part of a date"), (91, "the year is out of range")]
/-- words of the tables that a change of the tables along a run keeps -/
def gT (U : State) : Prop := (∀ w ∈ nestW, va_Nw w U) ∧ (∀ q ∈ nestM, va_Nw (.methodLinkNest q.1 q.2.1 q.2.2 "SkyAlmanac") U) ∧ (∀ q ∈ strW, ∃ a, vk_R RX1 q.1 q.2 a U) ∧ (∀ X ∈ [xIA, xIS, xIO, xNS], va_Nw (.castable X X) U) ∧ (∀ Y ∈ ["java/lang/RuntimeException", "java/lang/Exception", "java/lang/Throwable"], va_Nw (.declares (Bundle.initS Y)) U)
/-- cells that nobody writes -/
def gH (tm tt : Nat) (A : Nat → Prop) (U : State) (H : Heap) : Prop :=
  (vx_Zq Bundle.tN "UNASSIGNED_STACK" Bundle.steD A U H ∧ vx_Zq Bundle.tN "SUPPRESSED_SENTINEL" Bundle.listD A U H) ∧
  (va_Z RX1 "MONTH_LENGTHS" "[I" (.ref tm) A U H ∧ va_T .int tm 12 gML A U H) ∧ (va_Z RX1 "TENS" "[J" (.ref tt) A U H ∧ va_T .long tt 6 gTN A U H)
theorem gT.warm {s U : State} (hW : s.WarmedH U.vm) (h : gT s) : gT U := by
  obtain ⟨h1, h2, h3, h4, h5⟩ := h
  refine ⟨fun w hw => ?_, fun q hq => va_Nw.warmM hW (h2 q hq), fun q hq => ?_, fun X hX => va_Nw.warmC hW (h4 X hX), fun X hX => va_Nw.warmD hW (h5 X hX)⟩
  · have := h1 w hw
    simp only [nestW, List.mem_cons, List.not_mem_nil, or_false] at hw
    rcases hw with rfl | rfl | rfl | rfl | rfl | rfl | rfl | rfl | rfl | rfl <;> exact va_Nw.warmF hW this
  · obtain ⟨a, ha⟩ := h3 q hq
    exact ⟨a, vk_R.warm hW ha⟩
theorem gT.same {s U : State} (hv : U.vm = s.vm) (h : gT s) : gT U := by
  obtain ⟨h1, h2, h3, h4, h5⟩ := h
  refine ⟨fun w hw => ?_, fun q hq => va_Nw.same rfl hv.symm (h2 q hq), fun q hq => ?_, fun X hX => va_Nw.same rfl hv.symm (h4 X hX), fun X hX => va_Nw.same rfl hv.symm (h5 X hX)⟩
  · have := h1 w hw
    simp only [nestW, List.mem_cons, List.not_mem_nil, or_false] at hw
    rcases hw with rfl | rfl | rfl | rfl | rfl | rfl | rfl | rfl | rfl | rfl <;> exact va_Nw.same rfl hv.symm this
  · obtain ⟨a, ha⟩ := h3 q hq
    exact ⟨a, vk_R.same hv ha⟩
theorem gH.moved {tm tt : Nat} {A : Nat → Prop} {u U : State} {H : Heap} (hvm : u.vm.Alike U.vm) (h : gH tm tt A u H) : gH tm tt A U H :=
  ⟨⟨vx_Zq.moved hvm h.1.1, vx_Zq.moved hvm h.1.2⟩, ⟨va_Z.moved hvm h.2.1.1, va_T.moved hvm h.2.1.2⟩, ⟨va_Z.moved hvm h.2.2.1, va_T.moved hvm h.2.2.2⟩⟩
theorem gH.kept {tm tt : Nat} {A : Nat → Prop} {U : State} {H H1 : Heap} (h : gH tm tt A U H) (hq : ∀ a : Nat, a < H.size → ¬ A a → H1[a]? = H[a]?) : gH tm tt A U H1 :=
  ⟨⟨vx_Zq.kept h.1.1 hq, vx_Zq.kept h.1.2 hq⟩, ⟨va_Z.kept h.2.1.1 hq, va_T.kept h.2.1.2 hq⟩, ⟨va_Z.kept h.2.2.1 hq, va_T.kept h.2.2.2 hq⟩⟩
theorem gH.narrow {tm tt : Nat} {A B : Nat → Prop} {U : State} {H : Heap} (h : gH tm tt A U H) (hAB : ∀ q, B q → A q) : gH tm tt B U H :=
  ⟨⟨vx_Zq.narrow h.1.1 hAB, vx_Zq.narrow h.1.2 hAB⟩, ⟨va_Z.narrow h.2.1.1 hAB, va_T.narrow h.2.1.2 hAB⟩, ⟨va_Z.narrow h.2.2.1 hAB, va_T.narrow h.2.2.2 hAB⟩⟩
def GE (tm tt : Nat) (A : Nat → Prop) (U : State) (H : Heap) : Prop := gT U ∧ gH tm tt A U H
theorem GE.warm {tm tt : Nat} {A : Nat → Prop} {s U : State} {H : Heap} (hW : s.WarmedH U.vm) (h : GE tm tt A s H) : GE tm tt A U H := ⟨h.1.warm hW, h.2.moved hW.alike⟩
theorem GE.same {tm tt : Nat} {A : Nat → Prop} {s U : State} {H : Heap} (hv : U.vm = s.vm) (h : GE tm tt A s H) : GE tm tt A U H := ⟨h.1.same hv, h.2.moved (by rw [hv]; exact Vm.Alike.refl _)⟩
theorem GE.kept {tm tt : Nat} {A : Nat → Prop} {U : State} {H H1 : Heap} (h : GE tm tt A U H) (hq : ∀ a : Nat, a < H.size → ¬ A a → H1[a]? = H[a]?) : GE tm tt A U H1 := ⟨h.1, h.2.kept hq⟩
theorem GE.narrow {tm tt : Nat} {A B : Nat → Prop} {U : State} {H : Heap} (h : GE tm tt A U H) (hAB : ∀ q, B q → A q) : GE tm tt B U H := ⟨h.1, h.2.narrow hAB⟩
/-- the ground that a callee needs, out of the caller's -/
theorem GE.give {tm tt : Nat} {A B : Nat → Prop} {s U : State} {H : Heap} {locs : List Loc} (h : GE tm tt A s s.heap) (hS : va_S A s.heap H locs) (hAB : ∀ q, B q → A q) (hU : U.heap = H) (hW : s.WarmedH U.vm) : GE tm tt B U U.heap := by
  rw [hU]; exact ((h.kept hS.2.1).narrow hAB).warm hW
/-- the words of a throw -/
def thN : List String := ["java/lang/RuntimeException", "java/lang/Exception"]
def thB (X : String) : List Cond := [.castable X X, .declares (Bundle.initS "java/lang/RuntimeException"), .declares (Bundle.initS "java/lang/Exception"), .declares (Bundle.initS "java/lang/Throwable")]
theorem thB_ok {X : String} (hX : X ∈ [xIA, xIS, xIO, xNS]) {s : State} {args : Array Value} (h : gT s) : ∀ w ∈ thB X, w.before args s = true := by
  obtain ⟨-, -, -, h4, h5⟩ := h
  exact vx_c (va_Nw.use rfl (h4 X hX)) (vx_c (va_Nw.use rfl (h5 _ (by decide))) (vx_c (va_Nw.use rfl (h5 _ (by decide))) (vx_c (va_Nw.use rfl (h5 _ (by decide))) vx_n)))
theorem thg_IA : ∀ w ∈ Cond.classLink RX1 43 xIA :: Cond.initialized xIA :: vx_atS RX1 47 xIA thN, vx_ot w = true := by decide +kernel
theorem thn_IA : ∀ w ∈ (vx_atS RX1 47 xIA thN).filter (fun w => !goodWord w), w ∈ thB xIA := by decide +kernel
theorem tha_IA {s : State} {args : Array Value} (h : gT s) (h1 : ∀ w ∈ (vx_atS RX1 47 xIA thN).filter goodWord, w.before args s = true) : ∀ w ∈ vx_atS RX1 47 xIA thN, w.before args s = true := vx_hat h1 thn_IA (thB_ok (by decide) h)
theorem thg_IS : ∀ w ∈ Cond.classLink RX1 186 xIS :: Cond.initialized xIS :: vx_atS RX1 190 xIS thN, vx_ot w = true := by decide +kernel
theorem thn_IS : ∀ w ∈ (vx_atS RX1 190 xIS thN).filter (fun w => !goodWord w), w ∈ thB xIS := by decide +kernel
theorem tha_IS {s : State} {args : Array Value} (h : gT s) (h1 : ∀ w ∈ (vx_atS RX1 190 xIS thN).filter goodWord, w.before args s = true) : ∀ w ∈ vx_atS RX1 190 xIS thN, w.before args s = true := vx_hat h1 thn_IS (thB_ok (by decide) h)
theorem thg_IO : ∀ w ∈ Cond.classLink RX1 136 xIO :: Cond.initialized xIO :: vx_atS RX1 140 xIO thN, vx_ot w = true := by decide +kernel
theorem thn_IO : ∀ w ∈ (vx_atS RX1 140 xIO thN).filter (fun w => !goodWord w), w ∈ thB xIO := by decide +kernel
theorem tha_IO {s : State} {args : Array Value} (h : gT s) (h1 : ∀ w ∈ (vx_atS RX1 140 xIO thN).filter goodWord, w.before args s = true) : ∀ w ∈ vx_atS RX1 140 xIO thN, w.before args s = true := vx_hat h1 thn_IO (thB_ok (by decide) h)
def thN1 : List String := ["java/lang/Exception"]
def xRE : String := "java/lang/RuntimeException"
theorem thg_NS : ∀ w ∈ Cond.classLink RX1 214 xNS :: Cond.initialized xNS :: zt_atS RX1 218 xNS xRE thN1, vx_ot w = true := by decide +kernel
theorem thn_NS : ∀ w ∈ (zt_atS RX1 218 xNS xRE thN1).filter (fun w => !goodWord w), w ∈ thB xNS := by decide +kernel
theorem tha_NS {s : State} {args : Array Value} (h : gT s) (h1 : ∀ w ∈ (zt_atS RX1 218 xNS xRE thN1).filter goodWord, w.before args s = true) : ∀ w ∈ zt_atS RX1 218 xNS xRE thN1, w.before args s = true := vx_hat h1 thn_NS (thB_ok (by decide) h)
theorem thf1 : ∀ n ∈ thN1, Bundle.fit n = true := by decide +kernel
theorem thc_RE : Bundle.fit xRE = true := by decide +kernel
theorem thf : ∀ n ∈ thN, Bundle.fit n = true := by decide +kernel
theorem thc_IA : Bundle.fit xIA = true := by decide +kernel
theorem thc_IS : Bundle.fit xIS = true := by decide +kernel
theorem thc_IO : Bundle.fit xIO = true := by decide +kernel
theorem thc_NS : Bundle.fit xNS = true := by decide +kernel
theorem gT.str {U : State} (h : gT U) {k : Nat} {tx : String} (hk : (k, tx) ∈ strW) : ∃ a, vk_R RX1 k tx a U := h.2.2.1 (k, tx) hk
