section
theorem zm_ofWH {l : Launch} {y : MethodName} {ws ws' : List Cond} {rm : Room} {Pc : Array Value → State → Prop} {Qc : Array Value → State → Outcome → State → Prop} {mc ms : Nat} {free : Addr → Prop} {cc : ByteArray} {maxL : Nat} {ret : Option FieldType} {hh : List (Nat × Nat × Nat × Nat)}
    (hy : plainName y.cls = true) (hw : ws = Cond.codeWith y cc maxL ret hh :: ws')
    (body : ∀ p e s m args below meth c s₁, BodyLoose p l y (headSpec ws rm) cc maxL ret e s m args below meth c s₁ → c.maxLocals = maxL → c.exceptionTable.toList = tableOf hh → Pc args s →
      W p l e (headSpec ws rm).room s m args below meth c s.heap [] 0 0 (MQ below Qc args s mc ms free) (entryFrame m args maxL)) : Met l y ws rm Pc Qc mc ms free := by
  refine MetFree.of_bodyS (code := cc) (maxLocals := maxL) (ret := ret) hy ?_ ?_
  · intro args s m h hn
    obtain ⟨m9, meth, c, hn9, h1, h2, h3, h4, -, h5, h6, -⟩ := Cond.codeWith_spec (atoms_spec (ws := ws) h _ (by rw [hw]; exact List.mem_cons_self))
    cases hn.symm.trans hn9
    exact ⟨meth, c, h1, h2, h3, h4, h5, h6⟩
  · intro p e s m args below meth c s₁ B hml hP _
    have hh0 : s₁.heap = s.heap := by rw [B.state]; rfl
    have htb : c.exceptionTable.toList = tableOf hh := vx_table (x := y) B (atoms_spec (ws := ws) B.pre _ (by rw [hw]; exact List.mem_cons_self))
    obtain ⟨t, a1, o, b1, b2, b3⟩ := body p e s m args below meth c s₁ B hml htb hP s₁ hh0 (Stand.of_body B)
    exact ⟨t, o, a1, b1, b2, ⟨b3.1, b3.2⟩⟩
/-- pairs of classes thrown and caught that are not castable -/
def ncW : List (String × String) := [(xIA, xIO), (xIA, xNS), (xIS, xNS), (xIS, xIA), (xNS, xIA)]
def gN (U : State) : Prop := ∀ q ∈ ncW, va_Nc q.1 q.2 U
theorem gN.moved {u U : State} (hvm : u.vm.Alike U.vm) (h : gN u) : gN U := fun q hq => va_Nc.moved hvm (h q hq)
theorem gN.at {U : State} (h : gN U) {a b : String} (hm : (a, b) ∈ ncW) : va_Nc a b U := h (a, b) hm
def PcL (dC : Nat → ClassId) (dI : Nat → Nat → Nat) (cA : Nat → ClassId) (tm tt sz : Nat) (av : List Value) (ws : va_W) : Array Value → State → Prop := fun v U => PcW dC dI cA tm tt sz av ws v U ∧ gN U
theorem PcL.blind {dC : Nat → ClassId} {dI : Nat → Nat → Nat} {cA : Nat → ClassId} {tm tt sz : Nat} {av : List Value} {ws : va_W} : FrameBlind (PcL dC dI cA tm tt sz av ws) := fun a U g mk q => ⟨PcW.blind a U g mk q.1, gN.moved (u := U) (U := U.calling g mk a) (Vm.Alike.refl U.vm) q.2⟩
theorem PcL.give {dC : Nat → ClassId} {dI : Nat → Nat → Nat} {cA : Nat → ClassId} {tm tt : Nat} {av : List Value} {ws : va_W} {s : State} {H : Heap} {locs : List Loc} {A B : Nat → Prop} (hPc : va_P (dC, dI) vwCl ws H) (hK : va_K (dC, dI) vwCl (WT cA) s) (hDc : va_D B ws) (hE : GE tm tt A s s.heap) (hS : va_S A s.heap H locs) (hF : ∀ q, va_A ws H.size q → A q) (hN : gN s) :
    ∀ U : State, U.heap = H → s.WarmedH U.vm → PcL dC dI cA tm tt H.size av ws av.toArray U := fun U hU hW => ⟨PcW.give hPc hK hDc hE hS hF U hU hW, gN.moved hW.alike hN⟩
theorem err_day {x1 x2 x3 x4 : Int32} {E : String} (h : f_X1_day x1 x2 x3 x4 = .error E) : E = xIA := by
  unfold f_X1_day at h
  repeat' split at h
  all_goals (cases h <;> rfl)
theorem err_date {x1 : Int32} {x2 : Int64} {x3 : Int32} {E : String} (h : f_X1_date x1 x2 x3 = .error E) : E = xIA := by
  unfold f_X1_date at h
  repeat' split at h
  all_goals (cases h <;> rfl)
theorem err_easter {x1 : Int32} {E : String} (h : f_X1_easter x1 = .error E) : E = xIA := by
  unfold f_X1_easter at h
  repeat' split at h
  all_goals (cases h <;> rfl)
theorem err_sidereal {x1 : UInt64} {E : String} (h : f_X1_sidereal x1 = .error E) : E = xIA := by
  unfold f_X1_sidereal at h
  repeat' split at h
  all_goals (cases h <;> rfl)
theorem err_angle {x1 x2 x3 : Int32} {x4 : UInt64} {E : String} (h : f_X1_angle x1 x2 x3 x4 = .error E) : E = xIA := by
  unfold f_X1_angle at h
  repeat' split at h
  all_goals (cases h <;> rfl)
theorem err_observer {la ea x1 x2 : UInt64} {E : String} (h : f_X1_observer la ea x1 x2 = .error E) : E = xIA := by
  unfold f_X1_observer at h
  repeat' split at h
  all_goals (cases h <;> rfl)
theorem err_letter {wl : Int32} {f : Nat → Int32} {x1 : Int32} {E : String} (h : f_X1_letter wl f x1 = .error E) : E = xIO := by
  unfold f_X1_letter at h
  repeat' split at h
  all_goals (cases h <;> rfl)
theorem err_write {x1 : UInt64} {x2 : Int32} {f : Nat → Int32} {E : String} (h : f_X1_write x1 x2 f = .error E) : E = xIA := by
  unfold f_X1_write at h
  repeat' split at h
  all_goals (cases h <;> rfl)
theorem err_orbit {st x1 : Int32} {x2 x3 x4 x5 : UInt64} {E : String} (h : f_X1_orbit st x1 x2 x3 x4 x5 = .error E) : E = xIO ∨ E = xIA := by
  unfold f_X1_orbit at h
  repeat' split at h
  all_goals first | (cases h; exact Or.inl rfl) | (cases h; exact Or.inr rfl) | (cases h; done)
theorem err_term {st : Int32} {k : Nat} {x1 x2 : Int32} {x3 x4 x5 : UInt64} {E : String} (h : f_X1_term st k x1 x2 x3 x4 x5 = .error E) : E = xNS ∨ E = xIA ∨ E = xIS := by
  unfold f_X1_term at h
  cases hb : BTS st x1 with
  | error e =>
    rw [xb_err hb] at h
    cases h
    exact Or.inl (BTS_err hb)
  | ok u =>
    rw [xb_ok hb] at h
    try dsimp only at h
    repeat' split at h
    all_goals first | (cases h; exact Or.inr (Or.inl rfl)) | (cases h; exact Or.inr (Or.inr rfl)) | (cases h; done)
theorem err_lon {st x1 : Int32} {t : UInt64} {r : Except String UInt64} {E : String} (hr : ∀ e, r = .error e → e = xIS) (h : f_X1_lon st x1 t r = .error E) : E = xNS ∨ E = xIA ∨ E = xIS := by
  unfold f_X1_lon at h
  cases hb : BTS st x1 with
  | error e =>
    rw [xb_err hb] at h
    cases h
    exact Or.inl (BTS_err hb)
  | ok u =>
    rw [xb_ok hb] at h
    try dsimp only at h
    split at h
    · cases h; exact Or.inr (Or.inl rfl)
    · exact Or.inr (Or.inr (hr E h))
theorem thenc_err {α β : Type} {x : CE α} {f : α → CE β} {E : String} (h : (thenc x f).2 = .error E) : x.2 = .error E ∨ ∃ v, x.2 = .ok v ∧ (f v).2 = .error E := by
  cases hv : x.2 with
  | error e =>
    rw [thenc_e hv] at h
    have h9 : (Except.error e : Except String β) = .error E := h
    cases h9
    exact Or.inl rfl
  | ok v =>
    unfold thenc at h
    rw [hv] at h
    exact Or.inr ⟨v, rfl, h⟩
theorem err_event {hh : UInt64 → Except String UInt64} (hx : ∀ t e, hh t = .error e → e = xIS) {st x1 x2 x3 : Int32} {E : String} (h : (f_X1_event hh st x1 x2 x3).2 = .error E) : E = xIA ∨ E = xNS ∨ E = xIS := by
  unfold f_X1_event at h
  split at h
  · cases h; exact Or.inl rfl
  · split at h
    · cases h; exact Or.inl rfl
    · cases hb : BTS st x1 with
      | error e =>
        rw [hb] at h
        cases h
        exact Or.inr (Or.inl (BTS_err hb))
      | ok u =>
        rw [hb] at h
        have h : (EVR hh x3 x2).2 = .error E := h
        by_cases c : x2 = 2
        · rw [EVR_H c] at h
          unfold HIGH at h
          rcases thenc_err h with h | ⟨v, -, h⟩
          · exact Or.inr (Or.inr (PGR_x hx h))
          · exact Or.inr (Or.inr (NHR_x hx h))
        · rw [EVR_P c] at h
          unfold PASS at h
          rcases thenc_err h with h | ⟨v, -, h⟩
          · exact Or.inr (Or.inr (PCR_x hx h))
          · split at h
            · cases h; exact Or.inr (Or.inl rfl)
            · exact Or.inr (Or.inr (NCR_x hx h))
theorem cdO_IO {α : Type} : cdO (.error xIO : Except String α) = 1 := by show (if xIO = xIO then (1 : Int32) else 2) = 1; rw [if_pos rfl]
theorem cdO_IA {α : Type} : cdO (.error xIA : Except String α) = 2 := by show (if xIA = xIO then (1 : Int32) else 2) = 2; rw [if_neg (by decide)]
theorem cd3_NS {α : Type} : cd3 (.error xNS : Except String α) = 1 := by show (if xNS = xNS then (1 : Int32) else if xNS = xIA then 2 else 3) = 1; rw [if_pos rfl]
theorem cd3_IA {α : Type} : cd3 (.error xIA : Except String α) = 2 := by show (if xIA = xNS then (1 : Int32) else if xIA = xIA then 2 else 3) = 2; rw [if_neg (by decide), if_pos rfl]
theorem cd3_IS {α : Type} : cd3 (.error xIS : Except String α) = 3 := by show (if xIS = xNS then (1 : Int32) else if xIS = xIA then 2 else 3) = 3; rw [if_neg (by decide), if_neg (by decide)]
theorem cdE_IA {α : Type} : cdE (.error xIA : Except String α) = 1 := by show (if xIA = xIA then (1 : Int32) else if xIA = xNS then 2 else 3) = 1; rw [if_pos rfl]
theorem cdE_NS {α : Type} : cdE (.error xNS : Except String α) = 2 := by show (if xNS = xIA then (1 : Int32) else if xNS = xNS then 2 else 3) = 2; rw [if_neg (by decide), if_pos rfl]
theorem cdE_IS {α : Type} : cdE (.error xIS : Except String α) = 3 := by show (if xIS = xIA then (1 : Int32) else if xIS = xNS then 2 else 3) = 3; rw [if_neg (by decide), if_neg (by decide)]
theorem cd1_ok0 {α : Type} {x : Except String α} (h : cd1 x = 0) : ∃ v, x = .ok v := by
  cases x with
  | error e => exact absurd (show (1 : Int32) = 0 from h) (by decide)
  | ok v => exact ⟨v, rfl⟩
theorem cdO_ok0 {α : Type} {x : Except String α} (h : cdO x = 0) : ∃ v, x = .ok v := by
  cases x with
  | error e =>
    have h : (if e = xIO then (1 : Int32) else 2) = 0 := h
    split at h
    · exact absurd h (by decide)
    · exact absurd h (by decide)
  | ok v => exact ⟨v, rfl⟩
theorem cd3_ok0 {α : Type} {x : Except String α} (h : cd3 x = 0) : ∃ v, x = .ok v := by
  cases x with
  | error e =>
    have h : (if e = xNS then (1 : Int32) else if e = xIA then 2 else 3) = 0 := h
    split at h
    · exact absurd h (by decide)
    · split at h
      · exact absurd h (by decide)
      · exact absurd h (by decide)
  | ok v => exact ⟨v, rfl⟩
theorem cdE_ok0 {α : Type} {x : Except String α} (h : cdE x = 0) : ∃ v, x = .ok v := by
  cases x with
  | error e =>
    have h : (if e = xIA then (1 : Int32) else if e = xNS then 2 else 3) = 0 := h
    split at h
    · exact absurd h (by decide)
    · split at h
      · exact absurd h (by decide)
      · exact absurd h (by decide)
  | ok v => exact ⟨v, rfl⟩
/-- what a call leaves in the law's own row -/
def oJ {α : Type} (x : Except String α) (g : α → Int64) (fo : Nat → Int64) : Nat → Int64 := match x with
  | .ok v => vp_updL fo 0 (g v)
  | .error _ => fo
def oD (x : Except String UInt64) (fo : Nat → UInt64) : Nat → UInt64 := match x with
  | .ok v => vf_upd fo 0 v
  | .error _ => fo
theorem oJ_ok {α : Type} {x : Except String α} {g : α → Int64} {fo : Nat → Int64} {v : α} (h : x = .ok v) : oJ x g fo = vp_updL fo 0 (g v) := by rw [h]; rfl
theorem oJ_er {α : Type} {x : Except String α} {g : α → Int64} {fo : Nat → Int64} {e : String} (h : x = .error e) : oJ x g fo = fo := by rw [h]; rfl
theorem oD_ok {x : Except String UInt64} {fo : Nat → UInt64} {v : UInt64} (h : x = .ok v) : oD x fo = vf_upd fo 0 v := by rw [h]; rfl
theorem oD_er {x : Except String UInt64} {fo : Nat → UInt64} {e : String} (h : x = .error e) : oD x fo = fo := by rw [h]; rfl
theorem oJ_0 {α : Type} {x : Except String α} {g : α → Int64} {fo : Nat → Int64} {v : α} (h : x = .ok v) : oJ x g fo 0 = g v := by rw [oJ_ok h]; unfold vp_updL; rw [if_pos rfl]
theorem oD_0 {x : Except String UInt64} {fo : Nat → UInt64} {v : UInt64} (h : x = .ok v) : oD x fo 0 = v := by rw [oD_ok h]; unfold vf_upd; rw [if_pos rfl]
abbrev bJ (v : Int32) : Int64 := if v = 0 then 0 else 1
theorem cl0 : (0 : Int32).toNatClampNeg = 0 := by decide +kernel
end
