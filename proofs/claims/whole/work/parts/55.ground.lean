section
theorem g_nest : ∀ w ∈ nestW, w ∈ lw_tbl ∧ w.onTables = true := by decide +kernel
theorem g_nestM : ∀ q ∈ nestM, Cond.methodLinkNest q.1 q.2.1 q.2.2 "SkyAlmanac" ∈ lw_tbl := by decide +kernel
theorem g_str : ∀ q ∈ strW, Cond.stringRef RX1 q.1 q.2 ∈ lw_tbl := by decide +kernel
theorem g_strx : ∀ q ∈ strW, Cond.exactly (.string RX1 q.1) "java/lang/String" ∈ flatC (Jvm.Cond.and given_1 narrow_1) := by decide +kernel
theorem g_cast : ∀ X ∈ [xIA, xIS, xIO, xNS], Cond.castable X X ∈ lw_tbl := by decide +kernel
theorem g_decl : ∀ Y ∈ ["java/lang/RuntimeException", "java/lang/Exception", "java/lang/Throwable"], Cond.declares (Bundle.initS Y) ∈ lw_tbl := by decide +kernel
theorem g_nc : ∀ q ∈ ncW, Cond.not (.castable q.1 q.2) ∈ flatC (Jvm.Cond.and given_1 narrow_1) := by decide +kernel
theorem g_lays : Cond.laysStatic Bundle.tN "UNASSIGNED_STACK" Bundle.steD ∈ lw_tbl ∧ Cond.laysStatic Bundle.tN "SUPPRESSED_SENTINEL" Bundle.listD ∈ lw_tbl ∧ Cond.laysStatic RX1 "MONTH_LENGTHS" "[I" ∈ lw_tbl ∧ Cond.laysStatic RX1 "TENS" "[J" ∈ lw_tbl ∧ Cond.initialized Bundle.tN ∈ lw_tbl ∧ Cond.initialized RX1 ∈ lw_tbl := by decide +kernel
theorem g_refs : Cond.isRef (.static Bundle.tN "UNASSIGNED_STACK" Bundle.steD) ∈ flatC (Jvm.Cond.and given_1 narrow_1) ∧ Cond.isRef (.static Bundle.tN "SUPPRESSED_SENTINEL" Bundle.listD) ∈ flatC (Jvm.Cond.and given_1 narrow_1) := by decide +kernel
theorem g_ml : Cond.arrayOf (.static RX1 "MONTH_LENGTHS" "[I") .int ∈ flatC (Jvm.Cond.and given_1 narrow_1) ∧ Cond.eq (.length (.static RX1 "MONTH_LENGTHS" "[I")) (.int (Int32.ofNat 12)) ∈ flatC (Jvm.Cond.and given_1 narrow_1) ∧ ∀ j, j < 12 → Cond.eq (.elem (.static RX1 "MONTH_LENGTHS" "[I") (.int (Int32.ofNat j))) (.int (([31, 28, 31, 30, 31, 30, 31, 31, 30, 31, 30, 31] : List Int32).getD j 0)) ∈ flatC (Jvm.Cond.and given_1 narrow_1) := by decide +kernel
theorem g_tn : Cond.arrayOf (.static RX1 "TENS" "[J") .long ∈ flatC (Jvm.Cond.and given_1 narrow_1) ∧ Cond.eq (.length (.static RX1 "TENS" "[J")) (.int (Int32.ofNat 6)) ∈ flatC (Jvm.Cond.and given_1 narrow_1) ∧ ∀ j, j < 6 → Cond.eq (.elem (.static RX1 "TENS" "[J") (.int (Int32.ofNat j))) (.long (([1, 10, 100, 1000, 10000, 100000] : List Int64).getD j 0)) ∈ flatC (Jvm.Cond.and given_1 narrow_1) := by decide +kernel
/-- the ground at the law's entry -/
theorem g_all {s : State} {args : Array Value} {A : Nat → Prop} (hts : ∀ w ∈ lw_tbl, w.before args s = true) (hgv : (Jvm.Cond.and given_1 narrow_1).before args s = true) (hA0 : ∀ a : Nat, a < s.heap.size → ¬ A a) : gN s ∧ ∃ tm tt : Nat, GE tm tt A s s.heap := by
  have hs := flat_of_before _ hgv
  refine ⟨fun q hq => va_Nc.of (hs _ (g_nc q hq)), ?_⟩
  obtain ⟨tm, e1, hT1⟩ := va_Tof (N := 12) (f := gML) (A := A) (by decide) (hs _ g_ml.1) (va_eqt (hs _ g_ml.2.1)) (fun j hj => va_eqt (hs _ (g_ml.2.2 j hj))) hA0
  obtain ⟨tt, e2, hT2⟩ := va_Tof (N := 6) (f := gTN) (A := A) (by decide) (hs _ g_tn.1) (va_eqt (hs _ g_tn.2.1)) (fun j hj => va_eqtl (hs _ (g_tn.2.2 j hj))) hA0
  obtain ⟨l1, l2, l3, l4, i1, i2⟩ := g_lays
  refine ⟨tm, tt, ⟨fun w hw => va_Nw.of (g_nest w hw).2 (hts w (g_nest w hw).1), fun q hq => va_Nw.of rfl (hts _ (g_nestM q hq)), fun q hq => ?_, fun X hX => va_Nw.of rfl (hts _ (g_cast X hX)), fun Y hY => va_Nw.of rfl (hts _ (g_decl Y hY))⟩, ⟨vx_Zqof (hts _ l1) (hts _ i1) (hs _ g_refs.1) hA0, vx_Zqof (hts _ l2) (hts _ i1) (hs _ g_refs.2) hA0⟩, ⟨va_Zof (hts _ l3) (hts _ i2) e1 hA0, hT1⟩, ⟨va_Zof (hts _ l4) (hts _ i2) e2 hA0, hT2⟩⟩
  obtain ⟨a, c, cA, kA, q1, -⟩ := Cond.exactly_spec (args := args) (first := s) (o := none) (s := s) (idx := []) (hs _ (g_strx q hq))
  exact ⟨a, vk_R.of (hts _ (g_str q hq)) q1⟩
theorem g_arr : Cond.arrayClass .int ∈ lw_tbl ∧ Cond.arrayClass .double ∈ lw_tbl ∧ Cond.arrayClass .char ∈ lw_tbl ∧ Cond.arrayClass .boolean ∈ lw_tbl ∧ Cond.arrayClass .long ∈ lw_tbl ∧ Cond.arrayOver (.object "SkyAlmanac$Body") ∈ lw_tbl ∧ Cond.instantiable RX0 10 ∈ lw_tbl ∧ Cond.instantiable RX1 7 ∈ lw_tbl ∧ Cond.instantiable RX2 13 ∈ lw_tbl := by decide +kernel
theorem g_kt {s : State} {args : Array Value} {ty : FieldType} (h : (Cond.arrayClass ty).before args s = true) : ∃ c : ClassId, ArrOfT s c ty ∧ s.vm.findClass ("[" ++ ty.toString) = some c := by
  obtain ⟨c, k, comp, h1, h2, h3⟩ := Cond.arrayClass_spec h
  exact ⟨c, fun n z => ⟨fun k h => (by cases h), k, h2, comp, h3⟩, h1⟩
def cAf (a b c d e f : ClassId) : Nat → ClassId := fun k => match k with
  | 0 => a
  | 1 => b
  | 2 => c
  | 3 => d
  | 4 => e
  | _ => f
def dCf (a b c : ClassId) : Nat → ClassId := fun k => match k with
  | 0 => a
  | 1 => b
  | _ => c
def dIf (a b c : Nat → Nat) : Nat → Nat → Nat := fun k => match k with
  | 0 => a
  | 1 => b
  | _ => c
theorem g_k {s : State} {args : Array Value} (hts : ∀ w ∈ lw_tbl, w.before args s = true) : ∃ (dC : Nat → ClassId) (dI : Nat → Nat → Nat) (cA : Nat → ClassId), va_K (dC, dI) vwCl (WT cA) s := by
  obtain ⟨a1, a2, a3, a4, a5, a6, n0, n1, n2⟩ := g_arr
  obtain ⟨cI, kI, fI⟩ := g_kt (hts _ a1)
  obtain ⟨cD, kD, fD⟩ := g_kt (hts _ a2)
  obtain ⟨cC, kC, fC⟩ := g_kt (hts _ a3)
  obtain ⟨cZ, kZ, fZ⟩ := g_kt (hts _ a4)
  obtain ⟨cJ, kJ, fJ⟩ := g_kt (hts _ a5)
  obtain ⟨comp, cQ, kQ, q1, -, q2, q3, q4⟩ := Cond.arrayOver_spec (hts _ a6)
  obtain ⟨c0, i0, k0⟩ := u_known (C := RX0) (T := TX0) (N := 10) (n := 10) hts inX0 (hts _ n0)
  obtain ⟨c1, i1, k1⟩ := u_known (C := RX1) (T := TX1) (N := 7) (n := 7) hts inX1 (hts _ n1)
  obtain ⟨c2, i2, k2⟩ := u_known (C := RX2) (T := TX2) (N := 13) (n := 13) hts inX2 (hts _ n2)
  refine ⟨dCf c0 c1 c2, dIf i0 i1 i2, cAf cI cD cC cQ cZ cJ, fun k q hq => ?_, fun k q hq => ?_⟩
  · match k, hq with
    | 0, hq => cases hq; exact k0
    | 1, hq => cases hq; exact k1
    | 2, hq => cases hq; exact k2
    | k + 3, hq => simp [vwCl] at hq
  · match k, hq with
    | 0, hq => cases hq; exact ⟨kI, fI⟩
    | 1, hq => cases hq; exact ⟨kD, fD⟩
    | 2, hq => cases hq; exact ⟨kC, fC⟩
    | 3, hq => cases hq; exact ⟨fun n z => ⟨fun k h => (by cases h), kQ, q2, comp, q3⟩, kQ, comp, q2, q3, q1, q4⟩
    | 4, hq => cases hq; exact ⟨kZ, fZ⟩
    | 5, hq => cases hq; exact ⟨kJ, fJ⟩
    | k + 6, hq => simp [WT] at hq
end
