/-! ===== the worlds of the contracts: cells, what a contract takes and leaves ===== -/
abbrev WT (cA : Nat → ClassId) : List (ClassId × FieldType) := [(cA 0, .int), (cA 1, .double), (cA 2, .char), (cA 3, .object "SkyAlmanac$Body"), (cA 4, .boolean), (cA 5, .long)]
abbrev aI (n : Nat) (c : ClassId) (f : Nat → Int32) : va_E := .inl (c, n, .inl f)
abbrev aL (n : Nat) (c : ClassId) (f : Nat → Int64) : va_E := .inl (c, n, .inr (.inl f))
abbrev aD (n : Nat) (c : ClassId) (f : Nat → UInt64) : va_E := .inl (c, n, .inr (.inr (.inr (.inl f))))
abbrev aQ (n : Nat) (c : ClassId) (f : Nat → Option Nat) : va_E := .inl (c, n, .inr (.inr (.inr (.inr f))))
/-- a method that may write its world -/
def PcW (dC : Nat → ClassId) (dI : Nat → Nat → Nat) (cA : Nat → ClassId) (tm tt sz : Nat) (av : List Value) (ws : va_W) : Array Value → State → Prop :=
  va_Pc av (fun U => U.heap.size = sz ∧ va_P (dC, dI) vwCl ws U.heap ∧ va_K (dC, dI) vwCl (WT cA) U ∧ va_D (fun _ => True) ws ∧ GE tm tt (va_A ws sz) U U.heap)
theorem PcW.blind {dC : Nat → ClassId} {dI : Nat → Nat → Nat} {cA : Nat → ClassId} {tm tt sz : Nat} {av : List Value} {ws : va_W} : FrameBlind (PcW dC dI cA tm tt sz av ws) := fun a U g mk q => by
  obtain ⟨q0, q1, qP, qK, qD, qE⟩ := q
  exact ⟨q0, q1, qP, va_K.moved (u := U) (U := U.calling g mk a) (Vm.Alike.refl U.vm) qK, qD, GE.same (s := U) (U := U.calling g mk a) rfl qE⟩
theorem PcW.give {dC : Nat → ClassId} {dI : Nat → Nat → Nat} {cA : Nat → ClassId} {tm tt : Nat} {av : List Value} {ws : va_W} {s : State} {H : Heap} {locs : List Loc} {A B : Nat → Prop} (hPc : va_P (dC, dI) vwCl ws H) (hK : va_K (dC, dI) vwCl (WT cA) s) (hDc : va_D B ws) (hE : GE tm tt A s s.heap) (hS : va_S A s.heap H locs) (hF : ∀ q, va_A ws H.size q → A q) :
    ∀ U : State, U.heap = H → s.WarmedH U.vm → PcW dC dI cA tm tt H.size av ws av.toArray U := fun U hU hW => ⟨rfl, by rw [hU], by rw [hU]; exact hPc, va_K.moved hW.alike hK, hDc.weaken (fun _ _ _ _ => trivial), hE.give hS hF hU hW⟩
/-- a method that only reads its world; it may throw -/
def PcR (dC : Nat → ClassId) (dI : Nat → Nat → Nat) (cA : Nat → ClassId) (tm tt sz : Nat) (av : List Value) (ws : va_W) : Array Value → State → Prop :=
  va_Pc av (fun U => U.heap.size = sz ∧ va_P (dC, dI) vwCl ws U.heap ∧ va_K (dC, dI) vwCl (WT cA) U ∧ GE tm tt (va_A [] sz) U U.heap)
theorem PcR.blind {dC : Nat → ClassId} {dI : Nat → Nat → Nat} {cA : Nat → ClassId} {tm tt sz : Nat} {av : List Value} {ws : va_W} : FrameBlind (PcR dC dI cA tm tt sz av ws) := fun a U g mk q => by
  obtain ⟨q0, q1, qP, qK, qE⟩ := q
  exact ⟨q0, q1, qP, va_K.moved (u := U) (U := U.calling g mk a) (Vm.Alike.refl U.vm) qK, GE.same (s := U) (U := U.calling g mk a) rfl qE⟩
theorem PcR.give {dC : Nat → ClassId} {dI : Nat → Nat → Nat} {cA : Nat → ClassId} {tm tt : Nat} {av : List Value} {ws : va_W} {s : State} {H : Heap} {locs : List Loc} {A : Nat → Prop} (hPc : va_P (dC, dI) vwCl ws H) (hK : va_K (dC, dI) vwCl (WT cA) s) (hE : GE tm tt A s s.heap) (hS : va_S A s.heap H locs) (hF : ∀ q, va_A [] H.size q → A q) :
    ∀ U : State, U.heap = H → s.WarmedH U.vm → PcR dC dI cA tm tt H.size av ws av.toArray U := fun U hU hW => ⟨rfl, by rw [hU], by rw [hU]; exact hPc, va_K.moved hW.alike hK, hE.give hS hF hU hW⟩
/-- a method that only reads its world, and doesn't throw -/
def PcO (dC : Nat → ClassId) (dI : Nat → Nat → Nat) (cA : Nat → ClassId) (tm tt : Nat) (av : List Value) (ws : va_W) : Array Value → State → Prop :=
  va_Pc av (fun U => va_P (dC, dI) vwCl ws U.heap ∧ va_K (dC, dI) vwCl (WT cA) U ∧ GE tm tt (fun _ => False) U U.heap)
theorem PcO.blind {dC : Nat → ClassId} {dI : Nat → Nat → Nat} {cA : Nat → ClassId} {tm tt : Nat} {av : List Value} {ws : va_W} : FrameBlind (PcO dC dI cA tm tt av ws) := fun a U g mk q => by
  obtain ⟨q0, qP, qK, qE⟩ := q
  exact ⟨q0, qP, va_K.moved (u := U) (U := U.calling g mk a) (Vm.Alike.refl U.vm) qK, GE.same (s := U) (U := U.calling g mk a) rfl qE⟩
theorem PcO.give {dC : Nat → ClassId} {dI : Nat → Nat → Nat} {cA : Nat → ClassId} {tm tt : Nat} {av : List Value} {ws : va_W} {s : State} {H : Heap} {locs : List Loc} {A : Nat → Prop} (hPc : va_P (dC, dI) vwCl ws H) (hK : va_K (dC, dI) vwCl (WT cA) s) (hE : GE tm tt A s s.heap) (hS : va_S A s.heap H locs) :
    ∀ U : State, U.heap = H → s.WarmedH U.vm → PcO dC dI cA tm tt av ws av.toArray U := fun U hU hW => ⟨rfl, by rw [hU]; exact hPc, va_K.moved hW.alike hK, hE.give hS (fun _ h => h.elim) hU hW⟩
/-- the world that is left -/
def WB (dC : Nat → ClassId) (dI : Nat → Nat → Nat) (A : Nat → Prop) (ws : va_W) (t : State) : Prop := va_P (dC, dI) vwCl ws t.heap ∧ va_D A ws
theorem PcG.give {tm tt sz : Nat} {av : List Value} {s : State} {H : Heap} {locs : List Loc} {A : Nat → Prop} (hE : GE tm tt A s s.heap) (hS : va_S A s.heap H locs) (hF : ∀ q, va_A [] H.size q → A q) :
    ∀ U : State, U.heap = H → s.WarmedH U.vm → va_Pc av (fun U => U.heap.size = H.size ∧ GE tm tt (va_A [] H.size) U U.heap) av.toArray U := fun U hU hW => ⟨rfl, by rw [hU], hE.give hS hF hU hW⟩
theorem PcG.blind {tm tt sz : Nat} {av : List Value} : FrameBlind (va_Pc av (fun U => U.heap.size = sz ∧ GE tm tt (va_A [] sz) U U.heap)) := fun a U g mk q => by
  obtain ⟨q0, q1, qE⟩ := q
  exact ⟨q0, q1, GE.same (s := U) (U := U.calling g mk a) rfl qE⟩
/-- the world stays where nothing old is written -/
theorem keep_P {D : va_G} {cl : List vw_C} {ws : va_W} {H H1 : Heap} (h : va_P D cl ws H) (hk : ∀ q : Nat, q < H.size → ¬ va_A [] H.size q → H1[q]? = H[q]?) : va_P D cl ws H1 :=
  h.kept (fun k q hq => hk q.1 (h k q hq).lt (fun hA => by
    rcases hA with ⟨j, e, he⟩ | hA
    · simp at he
    · exact absurd (h k q hq).lt (Nat.not_lt.mpr hA)))
theorem free_0 {A : Nat → Prop} {H0 H : Heap} {locs : List Loc} (hS : va_S A H0 H locs) (hA : ∀ q, H0.size ≤ q → A q) : ∀ q, va_A [] H.size q → A q := fun q h => by
  rcases h with ⟨j, e, he⟩ | h
  · simp at he
  · exact hA q (Nat.le_trans hS.1 h)
