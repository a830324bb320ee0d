theorem ww_eq (x a b : Int64) : f_X1_isWholeWithin x a b = if a.toInt ≤ x.toInt ∧ x.toInt ≤ b.toInt then 1 else 0 := by
  unfold f_X1_isWholeWithin
  by_cases h1 : x < a
  · rw [if_pos h1]; rw [Int64.lt_iff_toInt_lt] at h1; rw [if_neg (by omega)]
  · rw [if_neg h1]; rw [Int64.lt_iff_toInt_lt] at h1
    by_cases h2 : b < x
    · rw [if_pos h2]; rw [Int64.lt_iff_toInt_lt] at h2; rw [if_neg (by omega)]
    · rw [if_neg h2]; rw [Int64.lt_iff_toInt_lt] at h2; rw [if_pos (by omega)]
theorem ww_in {x a b : Int64} (h : ¬ f_X1_isWholeWithin x a b = 0) : a.toInt ≤ x.toInt ∧ x.toInt ≤ b.toInt := by
  rw [ww_eq] at h
  by_cases c : a.toInt ≤ x.toInt ∧ x.toInt ≤ b.toInt
  · exact c
  · rw [if_neg c] at h; exact absurd rfl h
theorem ww_out {x a b : Int64} (h : f_X1_isWholeWithin x a b = 0) : ¬ (a.toInt ≤ x.toInt ∧ x.toInt ≤ b.toInt) := by
  intro c
  rw [ww_eq, if_pos c] at h; exact absurd h (by decide)
theorem ev_d {x : Int32} (h : ¬ f_X1_isWholeWithin (Int32.toInt64 x) (-999999) 999998 = 0) : -1000000 ≤ x.toInt ∧ x.toInt ≤ 1000000 := by
  have h1 := ww_in h
  rw [Int32.toInt_toInt64] at h1
  have e1 : (-999999 : Int64).toInt = -999999 := rfl
  have e2 : (999998 : Int64).toInt = 999998 := rfl
  rw [e1, e2] at h1
  omega
section EV2
variable {hh : UInt64 → Except String UInt64}
theorem pcL_x (hx : ∀ t e, hh t = .error e → e = xIS) {d rs : Int32} : ∀ (n : Nat) (u : Int32) (j : Nat) (e : String), (pcL hh d rs n u j).2 = .error e → e = xIS
  | 0, u, j, e, h => by cases h
  | n + 1, u, j, e, h => by
    unfold pcL at h
    cases hv : hh (TOP d (nI j)) with
    | error x => rw [hv] at h; cases h; exact hx _ _ hv
    | ok v =>
      rw [hv] at h; simp only at h
      split at h
      · split at h
        · exact pcL_x hx n _ _ e h
        · cases h
      · exact pcL_x hx n _ _ e h
theorem PCR_x (hx : ∀ t e, hh t = .error e → e = xIS) {d rs : Int32} {e : String} (h : (PCR hh d rs).2 = .error e) : e = xIS := by
  unfold PCR at h
  cases hv : hh (TOP d 0) with
  | error x => rw [hv] at h; cases h; exact hx _ _ hv
  | ok v => rw [hv] at h; exact pcL_x hx _ _ _ e h
theorem ncL_x (hx : ∀ t e, hh t = .error e → e = xIS) {rs : Int32} : ∀ (n : Nat) (a b : UInt64) (e : String), (ncL hh rs n a b).2 = .error e → e = xIS
  | 0, a, b, e, h => by cases h
  | n + 1, a, b, e, h => by
    unfold ncL at h
    cases hv : hh (MID a b) with
    | error x => rw [hv] at h; cases h; exact hx _ _ hv
    | ok v =>
      rw [hv] at h; simp only at h
      split at h
      · exact ncL_x hx n _ _ e h
      · exact ncL_x hx n _ _ e h
theorem NCR_x (hx : ∀ t e, hh t = .error e → e = xIS) {d p rs : Int32} {e : String} (h : (NCR hh d p rs).2 = .error e) : e = xIS := ncL_x hx _ _ _ e h
theorem pgL_x (hx : ∀ t e, hh t = .error e → e = xIS) {d : Int32} : ∀ (n : Nat) (q : Int32) (g : UInt64) (j : Nat) (e : String), (pgL hh d n q g j).2 = .error e → e = xIS
  | 0, q, g, j, e, h => by cases h
  | n + 1, q, g, j, e, h => by
    unfold pgL at h
    cases hv : hh (TOP d (nI j)) with
    | error x => rw [hv] at h; cases h; exact hx _ _ hv
    | ok v =>
      rw [hv] at h; simp only at h
      split at h
      · exact pgL_x hx n _ _ _ e h
      · exact pgL_x hx n _ _ _ e h
theorem PGR_x (hx : ∀ t e, hh t = .error e → e = xIS) {d : Int32} {e : String} (h : (PGR hh d).2 = .error e) : e = xIS := by
  unfold PGR at h
  cases hv : hh (TOP d 1) with
  | error x => rw [hv] at h; cases h; exact hx _ _ hv
  | ok v => rw [hv] at h; exact pgL_x hx _ _ _ _ e h
theorem nhL_x (hx : ∀ t e, hh t = .error e → e = xIS) : ∀ (n : Nat) (a b : UInt64) (e : String), (nhL hh n a b).2 = .error e → e = xIS
  | 0, a, b, e, h => by cases h
  | n + 1, a, b, e, h => by
    unfold nhL at h
    cases hv : hh (TH1 a b) with
    | error x => rw [hv] at h; cases h; exact hx _ _ hv
    | ok v =>
      rw [hv] at h; simp only at h
      cases hw : hh (TH2 a b) with
      | error x => rw [hw] at h; cases h; exact hx _ _ hw
      | ok w =>
        rw [hw] at h; simp only at h
        split at h
        · exact nhL_x hx n _ _ e h
        · exact nhL_x hx n _ _ e h
theorem NHR_x (hx : ∀ t e, hh t = .error e → e = xIS) {d p : Int32} {e : String} (h : (NHR hh d p).2 = .error e) : e = xIS := nhL_x hx _ _ _ e h
end EV2
section EV3
variable {hh : UInt64 → Except String UInt64}
theorem pcL_r {d rs : Int32} : ∀ (n : Nat) (u : Int32) (j : Nat) (r : Int32), 1 ≤ j → j + n ≤ 17 → (pcL hh d rs n u j).2 = .ok r → r = -1 ∨ (1 ≤ r.toInt ∧ r.toInt ≤ 16)
  | 0, u, j, r, _, _, h => by cases h; exact Or.inl rfl
  | n + 1, u, j, r, h1, h2, h => by
    unfold pcL at h
    cases hv : hh (TOP d (nI j)) with
    | error x => rw [hv] at h; cases h
    | ok v =>
      rw [hv] at h; simp only at h
      split at h
      · split at h
        · exact pcL_r n _ _ r (by omega) (by omega) h
        · cases h; right; rw [nI_toInt (by omega)]; omega
      · exact pcL_r n _ _ r (by omega) (by omega) h
theorem PCR_r {d rs r : Int32} (h : (PCR hh d rs).2 = .ok r) : r = -1 ∨ (1 ≤ r.toInt ∧ r.toInt ≤ 16) := by
  unfold PCR at h
  cases hv : hh (TOP d 0) with
  | error x => rw [hv] at h; cases h
  | ok v => rw [hv] at h; exact pcL_r _ _ _ r (by decide) (by decide) h
theorem pgL_r {d : Int32} : ∀ (n : Nat) (q : Int32) (g : UInt64) (j : Nat) (r : Int32), 1 ≤ j → j + n ≤ 16 → (1 ≤ q.toInt ∧ q.toInt ≤ 15) → (pgL hh d n q g j).2 = .ok r → 1 ≤ r.toInt ∧ r.toInt ≤ 15
  | 0, q, g, j, r, _, _, hq, h => by cases h; exact hq
  | n + 1, q, g, j, r, h1, h2, hq, h => by
    unfold pgL at h
    cases hv : hh (TOP d (nI j)) with
    | error x => rw [hv] at h; cases h
    | ok v =>
      rw [hv] at h; simp only at h
      split at h
      · exact pgL_r n _ _ _ r (by omega) (by omega) (by rw [nI_toInt (by omega)]; omega) h
      · exact pgL_r n _ _ _ r (by omega) (by omega) hq h
theorem PGR_r {d r : Int32} (h : (PGR hh d).2 = .ok r) : 1 ≤ r.toInt ∧ r.toInt ≤ 15 := by
  unfold PGR at h
  cases hv : hh (TOP d 1) with
  | error x => rw [hv] at h; cases h
  | ok v => rw [hv] at h; exact pgL_r _ _ _ _ r (by decide) (by decide) (by decide) h
end EV3
/-- where one answer leads on to another -/
def thenc {α β : Type} (x : CE α) (f : α → CE β) : CE β := match x.2 with
  | .error e => (x.1, .error e)
  | .ok v => addc x.1 (f v)
theorem thenc_e {α β : Type} {x : CE α} {f : α → CE β} {e : String} (h : x.2 = .error e) : thenc x f = (x.1, .error e) := by unfold thenc; rw [h]
theorem thenc_o {α β : Type} {x : CE α} {f : α → CE β} {v : α} (h : x.2 = .ok v) : thenc x f = (x.1 + (f v).1, (f v).2) := by unfold thenc; rw [h]; rfl
def RS (kind : Int32) : Int32 := if kind = 0 then 1 else 0
theorem RS_1 {k : Int32} (c : k = 0) : (1 : Int32) = RS k := by unfold RS; rw [if_pos c]
theorem RS_0 {k : Int32} (c : ¬ k = 0) : (0 : Int32) = RS k := by unfold RS; rw [if_neg c]
def EVR (hh : UInt64 → Except String UInt64) (d kind : Int32) : CE UInt64 := if kind = 2 then thenc (PGR hh d) (fun p => NHR hh d p) else thenc (PCR hh d (RS kind)) (fun p => if p = -1 then (0, .error xNS) else NCR hh d p (RS kind))
def f_X1_event (hh : UInt64 → Except String UInt64) (st x1 x2 x3 : Int32) : CE UInt64 := if f_X1_isWholeWithin (Int32.toInt64 x2) 0 2 = 0 then (0, .error xIA) else if f_X1_isWholeWithin (Int32.toInt64 x3) (-999999) 999998 = 0 then (0, .error xIA) else match BTS st x1 with
  | .error e => (0, .error e)
  | .ok _ => EVR hh x3 x2
theorem ev_e {hh : UInt64 → Except String UInt64} {st x1 x2 x3 : Int32} {e : String} (c1 : ¬ f_X1_isWholeWithin (Int32.toInt64 x2) 0 2 = 0) (c2 : ¬ f_X1_isWholeWithin (Int32.toInt64 x3) (-999999) 999998 = 0) (h : BTS st x1 = .error e) : f_X1_event hh st x1 x2 x3 = (0, .error e) := by
  unfold f_X1_event; rw [if_neg c1, if_neg c2, h]
theorem ev_o {hh : UInt64 → Except String UInt64} {st x1 x2 x3 : Int32} (c1 : ¬ f_X1_isWholeWithin (Int32.toInt64 x2) 0 2 = 0) (c2 : ¬ f_X1_isWholeWithin (Int32.toInt64 x3) (-999999) 999998 = 0) (h : BTS st x1 = .ok ()) : f_X1_event hh st x1 x2 x3 = EVR hh x3 x2 := by
  unfold f_X1_event; rw [if_neg c1, if_neg c2, h]
theorem EVR_2 {hh : UInt64 → Except String UInt64} {d k : Int32} (c : k = 2) : EVR hh d k = thenc (PGR hh d) (fun p => NHR hh d p) := by unfold EVR; rw [if_pos c]
theorem EVR_n {hh : UInt64 → Except String UInt64} {d k : Int32} (c : ¬ k = 2) : EVR hh d k = thenc (PCR hh d (RS k)) (fun p => if p = -1 then (0, .error xNS) else NCR hh d p (RS k)) := by unfold EVR; rw [if_neg c]
theorem wk_add (wk : Int32) (a b : Nat) : wk + nI (a + b) = wk + nI a + nI b := by rw [Int32.add_assoc, nI_add]
set_option maxHeartbeats 4000000 in
set_option maxRecDepth 100000 in
theorem k_X1_event (l : Launch) (hst : l.stackTraces = false) (dC : Nat → ClassId) (dI : Nat → Nat → Nat) (cA : Nat → ClassId) (tm tt sz : Nat) (ax ab aw : Nat) (wl : Int32) (la ea : UInt64) (wk fl : Int32) (bb bp bf bs bv : Nat) (st : Int32) (oL oN oE oW : UInt64) (k : Nat) (pw : Nat → Int32) (fa sa va : Nat → UInt64) (qf : Nat → Option Nat) (x1 : Int32) (x2 : Int32) (x3 : Int32) (hq : ¬ x1 < 0 → x1 < 4 → qf x1.toNatClampNeg = some bb) (hO : oOK oL oN oE oW) (hT : tOK k fa sa va) (hla : fR la (-96636764160) 96636764160) (hea : fR ea (-193273528320) 193273528320) : vx_Met l yX1_event wsX1_event ({ frames := 10, cells := 66, slots := 396, locals := 214 }) (PcW dC dI cA tm tt sz [.ref ax, .int x1, .int x2, .int x3] [(ax, .inr (1, [.ref ab, .ref aw, .int wl, .double la, .double ea, .int wk, .int fl])), (ab, aQ 4 (cA 3) qf), (bb, .inr (0, [.int st, .double oL, .double oN, .double oE, .double oW, .int (nI k), .ref bp, .ref bf, .ref bs, .ref bv])), (bp, aI 12 (cA 0) pw), (bf, aD 12 (cA 1) fa), (bs, aD 12 (cA 1) sa), (bv, aD 12 (cA 1) va)]) (va_Qd (fun r (_ : Unit) => (f_X1_event (HEI la ea oL oN oE oW k pw fa sa va) st x1 x2 x3).2 = .ok r) (fun _ t => WB dC dI (va_A [(ax, .inr (1, [.ref ab, .ref aw, .int wl, .double la, .double ea, .int wk, .int fl])), (ab, aQ 4 (cA 3) qf), (bb, .inr (0, [.int st, .double oL, .double oN, .double oE, .double oW, .int (nI k), .ref bp, .ref bf, .ref bs, .ref bv])), (bp, aI 12 (cA 0) pw), (bf, aD 12 (cA 1) fa), (bs, aD 12 (cA 1) sa), (bv, aD 12 (cA 1) va)] sz) [(ax, .inr (1, [.ref ab, .ref aw, .int wl, .double la, .double ea, .int (wk + nI (f_X1_event (HEI la ea oL oN oE oW k pw fa sa va) st x1 x2 x3).1), .int (fl + cFL (f_X1_event (HEI la ea oL oN oE oW k pw fa sa va) st x1 x2 x3).2)])), (ab, aQ 4 (cA 3) qf), (bb, .inr (0, [.int st, .double oL, .double oN, .double oE, .double oW, .int (nI k), .ref bp, .ref bf, .ref bs, .ref bv])), (bp, aI 12 (cA 0) pw), (bf, aD 12 (cA 1) fa), (bs, aD 12 (cA 1) sa), (bv, aD 12 (cA 1) va)] t) (va_A [(ax, .inr (1, [.ref ab, .ref aw, .int wl, .double la, .double ea, .int wk, .int fl])), (ab, aQ 4 (cA 3) qf), (bb, .inr (0, [.int st, .double oL, .double oN, .double oE, .double oW, .int (nI k), .ref bp, .ref bf, .ref bs, .ref bv])), (bp, aI 12 (cA 0) pw), (bf, aD 12 (cA 1) fa), (bs, aD 12 (cA 1) sa), (bv, aD 12 (cA 1) va)] sz)) (vx_X (fun (_ : Unit) => True) (fun E _ t => (f_X1_event (HEI la ea oL oN oE oW k pw fa sa va) st x1 x2 x3).2 = .error E ∧ WB dC dI (va_A [(ax, .inr (1, [.ref ab, .ref aw, .int wl, .double la, .double ea, .int wk, .int fl])), (ab, aQ 4 (cA 3) qf), (bb, .inr (0, [.int st, .double oL, .double oN, .double oE, .double oW, .int (nI k), .ref bp, .ref bf, .ref bs, .ref bv])), (bp, aI 12 (cA 0) pw), (bf, aD 12 (cA 1) fa), (bs, aD 12 (cA 1) sa), (bv, aD 12 (cA 1) va)] sz) [(ax, .inr (1, [.ref ab, .ref aw, .int wl, .double la, .double ea, .int (wk + nI (f_X1_event (HEI la ea oL oN oE oW k pw fa sa va) st x1 x2 x3).1), .int (fl + cFL (f_X1_event (HEI la ea oL oN oE oW k pw fa sa va) st x1 x2 x3).2)])), (ab, aQ 4 (cA 3) qf), (bb, .inr (0, [.int st, .double oL, .double oN, .double oE, .double oW, .int (nI k), .ref bp, .ref bf, .ref bs, .ref bv])), (bp, aI 12 (cA 0) pw), (bf, aD 12 (cA 1) fa), (bs, aD 12 (cA 1) sa), (bv, aD 12 (cA 1) va)] t) (va_A [(ax, .inr (1, [.ref ab, .ref aw, .int wl, .double la, .double ea, .int wk, .int fl])), (ab, aQ 4 (cA 3) qf), (bb, .inr (0, [.int st, .double oL, .double oN, .double oE, .double oW, .int (nI k), .ref bp, .ref bf, .ref bs, .ref bv])), (bp, aI 12 (cA 0) pw), (bf, aD 12 (cA 1) fa), (bs, aD 12 (cA 1) sa), (bv, aD 12 (cA 1) va)] sz)) 66 396 (va_A [(ax, .inr (1, [.ref ab, .ref aw, .int wl, .double la, .double ea, .int wk, .int fl])), (ab, aQ 4 (cA 3) qf), (bb, .inr (0, [.int st, .double oL, .double oN, .double oE, .double oW, .int (nI k), .ref bp, .ref bf, .ref bs, .ref bv])), (bp, aI 12 (cA 0) pw), (bf, aD 12 (cA 1) fa), (bs, aD 12 (cA 1) sa), (bv, aD 12 (cA 1) va)] sz) := by
  refine vx_ofW (cc := cX1_event) (maxL := 7) (ret := (some .double)) (by decide) rfl ?_
  intro p e s m args below meth c s₁ B hml hnt hv
  obtain ⟨rfl, hsz, hP, hK, hD0, hE⟩ := hv
  subst hsz
  have hD := hD0.self (sz := s.heap.size)
  generalize hAe : va_A [(ax, .inr (1, [.ref ab, .ref aw, .int wl, .double la, .double ea, .int wk, .int fl])), (ab, aQ 4 (cA 3) qf), (bb, .inr (0, [.int st, .double oL, .double oN, .double oE, .double oW, .int (nI k), .ref bp, .ref bf, .ref bs, .ref bv])), (bp, aI 12 (cA 0) pw), (bf, aD 12 (cA 1) fa), (bs, aD 12 (cA 1) sa), (bv, aD 12 (cA 1) va)] s.heap.size = A at hD hE ⊢
  have hA : ∀ q : Nat, s.heap.size ≤ q → A q := fun q h => by rw [← hAe]; exact Or.inr h
  have hS : va_S A s.heap s.heap [] := va_S.rf
  have hP : va_P (dC, dI) vwCl [(ax, .inr (1, [.ref ab, .ref aw, .int wl, .double la, .double ea, .int wk, .int fl])), (ab, aQ 4 (cA 3) qf), (bb, .inr (0, [.int st, .double oL, .double oN, .double oE, .double oW, .int (nI k), .ref bp, .ref bf, .ref bs, .ref bv])), (bp, aI 12 (cA 0) pw), (bf, aD 12 (cA 1) fa), (bs, aD 12 (cA 1) sa), (bv, aD 12 (cA 1) va)] s.heap := hP
  have hx := B.exec
  have hb := B.bytes
  have hr := B.returns
  have hts := atoms_spec (ws := wsX1_event) B.pre
  have hown : s.vm.findClass RX1 = some m.cls := findClass_of_methodNamed B.named
  have hlocks := B.notSynchronized
  have hl := lv_entry ([.ref ax, .int x1, .int x2, .int x3]) (n := 7) (Nat.le_of_ble_eq_true rfl)
  rw [lg_entry_eq]
  generalize (lg_sl ([.ref ax, .int x1, .int x2, .int x3]) ++ List.replicate (7 - (lg_sl ([.ref ax, .int x1, .int x2, .int x3])).length) Slot.unset).toArray = ls at hl ⊢
  have hl : lv_has ls 7 [(0, .ref ax), (1, .int x1), (2, .int x2), (3, .int x3)] := hl
  refine lv_iload_n hx hb dX1_event_0 rfl (lv_at hl 2 rfl) ?_
  refine lv_i2l hx hb dX1_event_1 rfl ?_
  refine lv_lconst (v := 0) hx hb dX1_event_2 (by decide) ?_
  refine lv_ldc2 hx hb hown (hts (.constantLong RX1 37 (2)) (by decide +kernel)) dX1_event_3 ?_
  refine vp_callSi (W.runS (As := [.long (Int32.toInt64 x2), .long 0, .long 2]) (rest := []) ⟨hx, hb, hml, hown, hts⟩ (k_X1_isWholeWithin l (Int32.toInt64 x2) 0 2) (va_cwS 3 hts gX1_event_X1_isWholeWithin rfl rfl rfl (by decide +kernel) ⟨Nat.le_of_ble_eq_true rfl, Nat.le_of_ble_eq_true rfl⟩) preEq rfl rfl hl.1 rfl (lv_room (Nat.le_of_ble_eq_true rfl)) dX1_event_6 ⟨Nat.le_of_ble_eq_true rfl, Nat.le_of_ble_eq_true rfl⟩) (fun r hr9 => ?_)
  obtain rfl := hr9
  refine lv_if_ne (tgt := 23) hx hb dX1_event_9 (by decide) (fun c_1 => ?_) (fun c_1 => ?_)
  · refine lv_iload_n hx hb dX1_event_23 rfl (lv_at hl 3 rfl) ?_
    refine lv_i2l hx hb dX1_event_24 rfl ?_
    refine lv_ldc2 hx hb hown (hts (.constantLong RX1 278 (-999999)) (by decide +kernel)) dX1_event_25 ?_
    refine lv_ldc2 hx hb hown (hts (.constantLong RX1 280 (999998)) (by decide +kernel)) dX1_event_28 ?_
    refine vp_callSi (W.runS (As := [.long (Int32.toInt64 x3), .long (-999999), .long 999998]) (rest := []) ⟨hx, hb, hml, hown, hts⟩ (k_X1_isWholeWithin l (Int32.toInt64 x3) (-999999) 999998) (va_cwS 3 hts gX1_event_X1_isWholeWithin rfl rfl rfl (by decide +kernel) ⟨Nat.le_of_ble_eq_true rfl, Nat.le_of_ble_eq_true rfl⟩) preEq rfl rfl hl.1 rfl (lv_room (Nat.le_of_ble_eq_true rfl)) dX1_event_31 ⟨Nat.le_of_ble_eq_true rfl, Nat.le_of_ble_eq_true rfl⟩) (fun r hr9 => ?_)
    obtain rfl := hr9
    refine lv_if_ne (tgt := 48) hx hb dX1_event_34 (by decide) (fun c_2 => ?_) (fun c_2 => ?_)
    · refine lv_aload_n hx hb dX1_event_48 rfl (lv_at hl 0 rfl) ?_
      refine lv_iload_n hx hb dX1_event_49 rfl (lv_at hl 1 rfl) ?_
      have hPc := hP.sub (ws' := [(ax, .inr (1, [.ref ab, .ref aw, .int wl, .double la, .double ea, .int wk, .int fl])), (ab, aQ 4 (cA 3) qf), (bb, .inr (0, [.int st, .double oL, .double oN, .double oE, .double oW, .int (nI k), .ref bp, .ref bf, .ref bs, .ref bv]))]) [0, 1, 2] rfl
      have hFc := free_0 hS hA
      refine vx_callr (vx_runV (As := [.int x1]) (rest := []) ⟨hx, hb, hml, hown, hts⟩ (k_X1_bodyThatIsSet l hst dC dI cA tm tt _ ax ab aw wl la ea wk fl bb bp bf bs bv st oL oN oE oW k qf x1 hq) (cwV 1 hts gX1_event_X1_bodyThatIsSet rfl rfl rfl (by decide +kernel) ⟨Nat.le_of_ble_eq_true rfl, Nat.le_of_ble_eq_true rfl⟩) ⟨PcR.blind, va_recv hK hPc (ci := 1) (q0 := 0) rfl rfl, PcR.give hPc hK hE hS hFc⟩ rfl rfl hl.1 rfl (lv_room (Nat.le_of_ble_eq_true rfl)) dX1_event_50 ⟨Nat.le_of_ble_eq_true rfl, Nat.le_of_ble_eq_true rfl⟩) hS (fun q _ h => hFc q h) hFc (fun q _ h => hFc q h) (fun E ce q9 u t H locs ht hvm hpx hBX hz1 hk1 hS hce hcv hcl => ?_) (fun u v_3 t H locs ht hvm _ hp_4 hz1 hk1 hS => ?_)
      · have hpx := hBX
        have hP := keep_P hP hk1
        have e1 := BTS_err hpx
        subst e1
        have e0 : f_X1_event (HEI la ea oL oN oE oW k pw fa sa va) st x1 x2 x3 = (0, .error xNS) := ev_e c_1 c_2 hpx
        have hP : va_P (dC, dI) vwCl [(ax, .inr (1, [.ref ab, .ref aw, .int wl, .double la, .double ea, .int (wk + nI (f_X1_event (HEI la ea oL oN oE oW k pw fa sa va) st x1 x2 x3).1), .int (fl + cFL (f_X1_event (HEI la ea oL oN oE oW k pw fa sa va) st x1 x2 x3).2)])), (ab, aQ 4 (cA 3) qf), (bb, .inr (0, [.int st, .double oL, .double oN, .double oE, .double oW, .int (nI k), .ref bp, .ref bf, .ref bs, .ref bv])), (bp, aI 12 (cA 0) pw), (bf, aD 12 (cA 1) fa), (bs, aD 12 (cA 1) sa), (bv, aD 12 (cA 1) va)] H := by rw [e0]; simp only; rw [wk_0, cFL_NS, i0]; exact hP
        have hD : va_D A [(ax, .inr (1, [.ref ab, .ref aw, .int wl, .double la, .double ea, .int (wk + nI (f_X1_event (HEI la ea oL oN oE oW k pw fa sa va) st x1 x2 x3).1), .int (fl + cFL (f_X1_event (HEI la ea oL oN oE oW k pw fa sa va) st x1 x2 x3).2)])), (ab, aQ 4 (cA 3) qf), (bb, .inr (0, [.int st, .double oL, .double oN, .double oE, .double oW, .int (nI k), .ref bp, .ref bf, .ref bs, .ref bv])), (bp, aI 12 (cA 0) pw), (bf, aD 12 (cA 1) fa), (bs, aD 12 (cA 1) sa), (bv, aD 12 (cA 1) va)] := by rw [e0]; simp only; rw [wk_0, cFL_NS, i0]; exact hD
        exact vx_out (fun x hx9 => (hnt x hx9).elim) hlocks hce hcv hcl (fun t ht hvm => ⟨(), trivial, ⟨(by rw [e0]), by rw [ht]; exact hP, hD⟩, hS.F ht⟩) hS.2.2 (Nat.le_of_ble_eq_true rfl) (Nat.le_of_ble_eq_true rfl)
      · have hP := keep_P hP hk1
        have h9 := hp_4.1
        rw [h9]
        have hp_4 := hp_4.2
        refine lv_astore (lv' := [(4, .ref bb), (0, .ref ax), (1, .int x1), (2, .int x2), (3, .int x3)]) hx hb dX1_event_53 hl (by decide) rfl (fun ls hl => ?_)
        refine lv_iload_n hx hb dX1_event_55 rfl (lv_at hl 3 rfl) ?_
        refine lv_iconst (v := 2) hx hb dX1_event_56 (by decide) ?_
        refine lv_icmp_ne (tgt := 75) hx hb dX1_event_57 (by decide) (fun c_5 => ?_) (fun c_5 => ?_)
        · refine lv_iload_n hx hb dX1_event_75 rfl (lv_at hl 3 rfl) ?_
          refine lv_if_ne (tgt := 83) hx hb dX1_event_76 (by decide) (fun c_6 => ?_) (fun c_6 => ?_)
          · refine lv_iconst (v := 0) hx hb dX1_event_83 (by decide) ?_
            rw [show (Value.int 0) = Value.int (RS x2) from congrArg Value.int (RS_0 c_6)]
            refine lv_istore (lv' := [(5, .int (RS x2)), (4, .ref bb), (0, .ref ax), (1, .int x1), (2, .int x2), (3, .int x3)]) hx hb dX1_event_84 hl (by decide) rfl (fun ls hl => ?_)
            refine lv_aload_n hx hb dX1_event_86 rfl (lv_at hl 2 rfl) ?_
            refine lv_aload hx hb dX1_event_87 (lv_at hl 1 rfl) ?_
            refine lv_iload_n hx hb dX1_event_89 rfl (lv_at hl 5 rfl) ?_
            refine lv_iload hx hb dX1_event_90 (lv_at hl 0 rfl) ?_
            have hPc := hP.sub (ws' := [(ax, .inr (1, [.ref ab, .ref aw, .int wl, .double la, .double ea, .int wk, .int fl])), (bb, .inr (0, [.int st, .double oL, .double oN, .double oE, .double oW, .int (nI k), .ref bp, .ref bf, .ref bs, .ref bv])), (bp, aI 12 (cA 0) pw), (bf, aD 12 (cA 1) fa), (bs, aD 12 (cA 1) sa), (bv, aD 12 (cA 1) va)]) [0, 2, 3, 4, 5, 6] rfl
            have hDc := hD.sub (ws' := [(ax, .inr (1, [.ref ab, .ref aw, .int wl, .double la, .double ea, .int wk, .int fl])), (bb, .inr (0, [.int st, .double oL, .double oN, .double oE, .double oW, .int (nI k), .ref bp, .ref bf, .ref bs, .ref bv])), (bp, aI 12 (cA 0) pw), (bf, aD 12 (cA 1) fa), (bs, aD 12 (cA 1) sa), (bv, aD 12 (cA 1) va)]) [0, 2, 3, 4, 5, 6] (by decide) rfl
            have hFc := va_free (wc := [(ax, .inr (1, [.ref ab, .ref aw, .int wl, .double la, .double ea, .int wk, .int fl])), (bb, .inr (0, [.int st, .double oL, .double oN, .double oE, .double oW, .int (nI k), .ref bp, .ref bf, .ref bs, .ref bv])), (bp, aI 12 (cA 0) pw), (bf, aD 12 (cA 1) fa), (bs, aD 12 (cA 1) sa), (bv, aD 12 (cA 1) va)]) hD hS hA [0, 2, 3, 4, 5, 6] rfl
            refine vx_calli (vx_runV (As := [.ref bb, .int x3, .int (RS x2)]) (rest := []) ⟨hx, hb, hml, hown, hts⟩ (k_X1_partOfCrossing l hst dC dI cA tm tt _ ax ab aw wl la ea wk fl bb bp bf bs bv st oL oN oE oW k pw fa sa va x3 (RS x2) hO hT hla hea (ev_d c_2)) (cwV 3 hts gX1_event_X1_partOfCrossing rfl rfl rfl (by decide +kernel) ⟨Nat.le_of_ble_eq_true rfl, Nat.le_of_ble_eq_true rfl⟩) ⟨PcW.blind, va_recv hK hPc (ci := 1) (q0 := 0) rfl rfl, PcW.give hPc hK hDc hE hS hFc⟩ rfl rfl hl.1 rfl (lv_room (Nat.le_of_ble_eq_true rfl)) dX1_event_92 ⟨Nat.le_of_ble_eq_true rfl, Nat.le_of_ble_eq_true rfl⟩) hS (fun q _ h => hFc q h) hFc (fun q _ h => hFc q h) (fun E ce q9 u t H locs ht hvm hpx hBX hz1 hk1 hS hce hcv hcl => ?_) (fun v_7 u t H locs ht hvm hp_8 hB hz1 hk1 hS => ?_)
            · obtain ⟨hpx, hP1, hD1⟩ := hBX
              rw [ht] at hP1
              obtain ⟨hP, hD⟩ := va_join (wr := [(ab, aQ 4 (cA 3) qf)]) (w1 := [(ax, .inr (1, [.ref ab, .ref aw, .int wl, .double la, .double ea, .int (wk + nI (PCR (HEI la ea oL oN oE oW k pw fa sa va) x3 (RS x2)).1), .int (fl + 1)])), (bb, .inr (0, [.int st, .double oL, .double oN, .double oE, .double oW, .int (nI k), .ref bp, .ref bf, .ref bs, .ref bv])), (bp, aI 12 (cA 0) pw), (bf, aD 12 (cA 1) fa), (bs, aD 12 (cA 1) sa), (bv, aD 12 (cA 1) va)]) hP hD [0, 2, 3, 4, 5, 6] [1] rfl rfl (by decide) (by decide) hk1 hFc hP1 hD1
              have hP := hP.sub (ws' := [(ax, .inr (1, [.ref ab, .ref aw, .int wl, .double la, .double ea, .int (wk + nI (PCR (HEI la ea oL oN oE oW k pw fa sa va) x3 (RS x2)).1), .int (fl + 1)])), (ab, aQ 4 (cA 3) qf), (bb, .inr (0, [.int st, .double oL, .double oN, .double oE, .double oW, .int (nI k), .ref bp, .ref bf, .ref bs, .ref bv])), (bp, aI 12 (cA 0) pw), (bf, aD 12 (cA 1) fa), (bs, aD 12 (cA 1) sa), (bv, aD 12 (cA 1) va)]) [1, 0, 2, 3, 4, 5, 6] rfl
              have hD := hD.sub (ws' := [(ax, .inr (1, [.ref ab, .ref aw, .int wl, .double la, .double ea, .int (wk + nI (PCR (HEI la ea oL oN oE oW k pw fa sa va) x3 (RS x2)).1), .int (fl + 1)])), (ab, aQ 4 (cA 3) qf), (bb, .inr (0, [.int st, .double oL, .double oN, .double oE, .double oW, .int (nI k), .ref bp, .ref bf, .ref bs, .ref bv])), (bp, aI 12 (cA 0) pw), (bf, aD 12 (cA 1) fa), (bs, aD 12 (cA 1) sa), (bv, aD 12 (cA 1) va)]) [1, 0, 2, 3, 4, 5, 6] (by decide) rfl
              have e9 := PCR_x (fun t e h => HEI_err h) hpx
              subst e9
              have e0 : f_X1_event (HEI la ea oL oN oE oW k pw fa sa va) st x1 x2 x3 = ((PCR (HEI la ea oL oN oE oW k pw fa sa va) x3 (RS x2)).1, .error xIS) := by rw [ev_o c_1 c_2 hp_4, EVR_n c_5, thenc_e hpx]
              have hP : va_P (dC, dI) vwCl [(ax, .inr (1, [.ref ab, .ref aw, .int wl, .double la, .double ea, .int (wk + nI (f_X1_event (HEI la ea oL oN oE oW k pw fa sa va) st x1 x2 x3).1), .int (fl + cFL (f_X1_event (HEI la ea oL oN oE oW k pw fa sa va) st x1 x2 x3).2)])), (ab, aQ 4 (cA 3) qf), (bb, .inr (0, [.int st, .double oL, .double oN, .double oE, .double oW, .int (nI k), .ref bp, .ref bf, .ref bs, .ref bv])), (bp, aI 12 (cA 0) pw), (bf, aD 12 (cA 1) fa), (bs, aD 12 (cA 1) sa), (bv, aD 12 (cA 1) va)] H := by rw [e0]; simp only; rw [cFL_IS]; exact hP
              have hD : va_D A [(ax, .inr (1, [.ref ab, .ref aw, .int wl, .double la, .double ea, .int (wk + nI (f_X1_event (HEI la ea oL oN oE oW k pw fa sa va) st x1 x2 x3).1), .int (fl + cFL (f_X1_event (HEI la ea oL oN oE oW k pw fa sa va) st x1 x2 x3).2)])), (ab, aQ 4 (cA 3) qf), (bb, .inr (0, [.int st, .double oL, .double oN, .double oE, .double oW, .int (nI k), .ref bp, .ref bf, .ref bs, .ref bv])), (bp, aI 12 (cA 0) pw), (bf, aD 12 (cA 1) fa), (bs, aD 12 (cA 1) sa), (bv, aD 12 (cA 1) va)] := by rw [e0]; simp only; rw [cFL_IS]; exact hD
              exact vx_out (fun x hx9 => (hnt x hx9).elim) hlocks hce hcv hcl (fun t ht hvm => ⟨(), trivial, ⟨(by rw [e0]), by rw [ht]; exact hP, hD⟩, hS.F ht⟩) hS.2.2 (Nat.le_of_ble_eq_true rfl) (Nat.le_of_ble_eq_true rfl)
            · obtain ⟨hP1, hD1⟩ := hB
              rw [ht] at hP1
              obtain ⟨hP, hD⟩ := va_join (wr := [(ab, aQ 4 (cA 3) qf)]) (w1 := [(ax, .inr (1, [.ref ab, .ref aw, .int wl, .double la, .double ea, .int (wk + nI (PCR (HEI la ea oL oN oE oW k pw fa sa va) x3 (RS x2)).1), .int fl])), (bb, .inr (0, [.int st, .double oL, .double oN, .double oE, .double oW, .int (nI k), .ref bp, .ref bf, .ref bs, .ref bv])), (bp, aI 12 (cA 0) pw), (bf, aD 12 (cA 1) fa), (bs, aD 12 (cA 1) sa), (bv, aD 12 (cA 1) va)]) hP hD [0, 2, 3, 4, 5, 6] [1] rfl rfl (by decide) (by decide) hk1 hFc hP1 hD1
              have hP := hP.sub (ws' := [(ax, .inr (1, [.ref ab, .ref aw, .int wl, .double la, .double ea, .int (wk + nI (PCR (HEI la ea oL oN oE oW k pw fa sa va) x3 (RS x2)).1), .int fl])), (ab, aQ 4 (cA 3) qf), (bb, .inr (0, [.int st, .double oL, .double oN, .double oE, .double oW, .int (nI k), .ref bp, .ref bf, .ref bs, .ref bv])), (bp, aI 12 (cA 0) pw), (bf, aD 12 (cA 1) fa), (bs, aD 12 (cA 1) sa), (bv, aD 12 (cA 1) va)]) [1, 0, 2, 3, 4, 5, 6] rfl
              have hD := hD.sub (ws' := [(ax, .inr (1, [.ref ab, .ref aw, .int wl, .double la, .double ea, .int (wk + nI (PCR (HEI la ea oL oN oE oW k pw fa sa va) x3 (RS x2)).1), .int fl])), (ab, aQ 4 (cA 3) qf), (bb, .inr (0, [.int st, .double oL, .double oN, .double oE, .double oW, .int (nI k), .ref bp, .ref bf, .ref bs, .ref bv])), (bp, aI 12 (cA 0) pw), (bf, aD 12 (cA 1) fa), (bs, aD 12 (cA 1) sa), (bv, aD 12 (cA 1) va)]) [1, 0, 2, 3, 4, 5, 6] (by decide) rfl
              refine lv_istore (lv' := [(6, .int v_7), (5, .int (RS x2)), (4, .ref bb), (0, .ref ax), (1, .int x1), (2, .int x2), (3, .int x3)]) hx hb dX1_event_95 hl (by decide) rfl (fun ls hl => ?_)
              refine lv_iload hx hb dX1_event_97 (lv_at hl 0 rfl) ?_
              refine lv_iconst (v := -1) hx hb dX1_event_99 (by decide) ?_
              refine lv_icmp_ne (tgt := 114) hx hb dX1_event_100 (by decide) (fun c_9 => ?_) (fun c_9 => ?_)
              · refine lv_aload_n hx hb dX1_event_114 rfl (lv_at hl 3 rfl) ?_
                refine lv_aload hx hb dX1_event_115 (lv_at hl 2 rfl) ?_
                refine lv_iload_n hx hb dX1_event_117 rfl (lv_at hl 6 rfl) ?_
                refine lv_iload hx hb dX1_event_118 (lv_at hl 0 rfl) ?_
                refine lv_iload hx hb dX1_event_120 (lv_at hl 1 rfl) ?_
                have hPc := hP.sub (ws' := [(ax, .inr (1, [.ref ab, .ref aw, .int wl, .double la, .double ea, .int (wk + nI (PCR (HEI la ea oL oN oE oW k pw fa sa va) x3 (RS x2)).1), .int fl])), (bb, .inr (0, [.int st, .double oL, .double oN, .double oE, .double oW, .int (nI k), .ref bp, .ref bf, .ref bs, .ref bv])), (bp, aI 12 (cA 0) pw), (bf, aD 12 (cA 1) fa), (bs, aD 12 (cA 1) sa), (bv, aD 12 (cA 1) va)]) [0, 2, 3, 4, 5, 6] rfl
                have hDc := hD.sub (ws' := [(ax, .inr (1, [.ref ab, .ref aw, .int wl, .double la, .double ea, .int (wk + nI (PCR (HEI la ea oL oN oE oW k pw fa sa va) x3 (RS x2)).1), .int fl])), (bb, .inr (0, [.int st, .double oL, .double oN, .double oE, .double oW, .int (nI k), .ref bp, .ref bf, .ref bs, .ref bv])), (bp, aI 12 (cA 0) pw), (bf, aD 12 (cA 1) fa), (bs, aD 12 (cA 1) sa), (bv, aD 12 (cA 1) va)]) [0, 2, 3, 4, 5, 6] (by decide) rfl
                have hFc := va_free (wc := [(ax, .inr (1, [.ref ab, .ref aw, .int wl, .double la, .double ea, .int (wk + nI (PCR (HEI la ea oL oN oE oW k pw fa sa va) x3 (RS x2)).1), .int fl])), (bb, .inr (0, [.int st, .double oL, .double oN, .double oE, .double oW, .int (nI k), .ref bp, .ref bf, .ref bs, .ref bv])), (bp, aI 12 (cA 0) pw), (bf, aD 12 (cA 1) fa), (bs, aD 12 (cA 1) sa), (bv, aD 12 (cA 1) va)]) hD hS hA [0, 2, 3, 4, 5, 6] rfl
                refine vx_calld (vx_runV (As := [.ref bb, .int x3, .int v_7, .int (RS x2)]) (rest := []) ⟨hx, hb, hml, hown, hts⟩ (k_X1_narrowedToCrossing l hst dC dI cA tm tt _ ax ab aw wl la ea (wk + nI (PCR (HEI la ea oL oN oE oW k pw fa sa va) x3 (RS x2)).1) fl bb bp bf bs bv st oL oN oE oW k pw fa sa va x3 v_7 (RS x2) hO hT hla hea (ev_d c_2) ((PCR_r hp_8).resolve_left c_9)) (cwV 4 hts gX1_event_X1_narrowedToCrossing rfl rfl rfl (by decide +kernel) ⟨Nat.le_of_ble_eq_true rfl, Nat.le_of_ble_eq_true rfl⟩) ⟨PcW.blind, va_recv hK hPc (ci := 1) (q0 := 0) rfl rfl, PcW.give hPc hK hDc hE hS hFc⟩ rfl rfl hl.1 rfl (lv_room (Nat.le_of_ble_eq_true rfl)) dX1_event_122 ⟨Nat.le_of_ble_eq_true rfl, Nat.le_of_ble_eq_true rfl⟩) hS (fun q _ h => hFc q h) hFc (fun q _ h => hFc q h) (fun E ce q9 u t H locs ht hvm hpx hBX hz1 hk1 hS hce hcv hcl => ?_) (fun v_10 u t H locs ht hvm hp_11 hB hz1 hk1 hS => ?_)
                · obtain ⟨hpx, hP1, hD1⟩ := hBX
                  rw [ht] at hP1
                  obtain ⟨hP, hD⟩ := va_join (wr := [(ab, aQ 4 (cA 3) qf)]) (w1 := [(ax, .inr (1, [.ref ab, .ref aw, .int wl, .double la, .double ea, .int ((wk + nI (PCR (HEI la ea oL oN oE oW k pw fa sa va) x3 (RS x2)).1) + nI (NCR (HEI la ea oL oN oE oW k pw fa sa va) x3 v_7 (RS x2)).1), .int (fl + 1)])), (bb, .inr (0, [.int st, .double oL, .double oN, .double oE, .double oW, .int (nI k), .ref bp, .ref bf, .ref bs, .ref bv])), (bp, aI 12 (cA 0) pw), (bf, aD 12 (cA 1) fa), (bs, aD 12 (cA 1) sa), (bv, aD 12 (cA 1) va)]) hP hD [0, 2, 3, 4, 5, 6] [1] rfl rfl (by decide) (by decide) hk1 hFc hP1 hD1
                  have hP := hP.sub (ws' := [(ax, .inr (1, [.ref ab, .ref aw, .int wl, .double la, .double ea, .int ((wk + nI (PCR (HEI la ea oL oN oE oW k pw fa sa va) x3 (RS x2)).1) + nI (NCR (HEI la ea oL oN oE oW k pw fa sa va) x3 v_7 (RS x2)).1), .int (fl + 1)])), (ab, aQ 4 (cA 3) qf), (bb, .inr (0, [.int st, .double oL, .double oN, .double oE, .double oW, .int (nI k), .ref bp, .ref bf, .ref bs, .ref bv])), (bp, aI 12 (cA 0) pw), (bf, aD 12 (cA 1) fa), (bs, aD 12 (cA 1) sa), (bv, aD 12 (cA 1) va)]) [1, 0, 2, 3, 4, 5, 6] rfl
                  have hD := hD.sub (ws' := [(ax, .inr (1, [.ref ab, .ref aw, .int wl, .double la, .double ea, .int ((wk + nI (PCR (HEI la ea oL oN oE oW k pw fa sa va) x3 (RS x2)).1) + nI (NCR (HEI la ea oL oN oE oW k pw fa sa va) x3 v_7 (RS x2)).1), .int (fl + 1)])), (ab, aQ 4 (cA 3) qf), (bb, .inr (0, [.int st, .double oL, .double oN, .double oE, .double oW, .int (nI k), .ref bp, .ref bf, .ref bs, .ref bv])), (bp, aI 12 (cA 0) pw), (bf, aD 12 (cA 1) fa), (bs, aD 12 (cA 1) sa), (bv, aD 12 (cA 1) va)]) [1, 0, 2, 3, 4, 5, 6] (by decide) rfl
                  have e9 := NCR_x (fun t e h => HEI_err h) hpx
                  subst e9
                  have e0 : f_X1_event (HEI la ea oL oN oE oW k pw fa sa va) st x1 x2 x3 = ((PCR (HEI la ea oL oN oE oW k pw fa sa va) x3 (RS x2)).1 + (NCR (HEI la ea oL oN oE oW k pw fa sa va) x3 v_7 (RS x2)).1, .error xIS) := by rw [ev_o c_1 c_2 hp_4, EVR_n c_5, thenc_o hp_8, if_neg c_9, hpx]
                  have hP : va_P (dC, dI) vwCl [(ax, .inr (1, [.ref ab, .ref aw, .int wl, .double la, .double ea, .int (wk + nI (f_X1_event (HEI la ea oL oN oE oW k pw fa sa va) st x1 x2 x3).1), .int (fl + cFL (f_X1_event (HEI la ea oL oN oE oW k pw fa sa va) st x1 x2 x3).2)])), (ab, aQ 4 (cA 3) qf), (bb, .inr (0, [.int st, .double oL, .double oN, .double oE, .double oW, .int (nI k), .ref bp, .ref bf, .ref bs, .ref bv])), (bp, aI 12 (cA 0) pw), (bf, aD 12 (cA 1) fa), (bs, aD 12 (cA 1) sa), (bv, aD 12 (cA 1) va)] H := by rw [e0]; simp only; rw [wk_add, cFL_IS]; exact hP
                  have hD : va_D A [(ax, .inr (1, [.ref ab, .ref aw, .int wl, .double la, .double ea, .int (wk + nI (f_X1_event (HEI la ea oL oN oE oW k pw fa sa va) st x1 x2 x3).1), .int (fl + cFL (f_X1_event (HEI la ea oL oN oE oW k pw fa sa va) st x1 x2 x3).2)])), (ab, aQ 4 (cA 3) qf), (bb, .inr (0, [.int st, .double oL, .double oN, .double oE, .double oW, .int (nI k), .ref bp, .ref bf, .ref bs, .ref bv])), (bp, aI 12 (cA 0) pw), (bf, aD 12 (cA 1) fa), (bs, aD 12 (cA 1) sa), (bv, aD 12 (cA 1) va)] := by rw [e0]; simp only; rw [wk_add, cFL_IS]; exact hD
                  exact vx_out (fun x hx9 => (hnt x hx9).elim) hlocks hce hcv hcl (fun t ht hvm => ⟨(), trivial, ⟨(by rw [e0]), by rw [ht]; exact hP, hD⟩, hS.F ht⟩) hS.2.2 (Nat.le_of_ble_eq_true rfl) (Nat.le_of_ble_eq_true rfl)
                · obtain ⟨hP1, hD1⟩ := hB
                  rw [ht] at hP1
                  obtain ⟨hP, hD⟩ := va_join (wr := [(ab, aQ 4 (cA 3) qf)]) (w1 := [(ax, .inr (1, [.ref ab, .ref aw, .int wl, .double la, .double ea, .int ((wk + nI (PCR (HEI la ea oL oN oE oW k pw fa sa va) x3 (RS x2)).1) + nI (NCR (HEI la ea oL oN oE oW k pw fa sa va) x3 v_7 (RS x2)).1), .int fl])), (bb, .inr (0, [.int st, .double oL, .double oN, .double oE, .double oW, .int (nI k), .ref bp, .ref bf, .ref bs, .ref bv])), (bp, aI 12 (cA 0) pw), (bf, aD 12 (cA 1) fa), (bs, aD 12 (cA 1) sa), (bv, aD 12 (cA 1) va)]) hP hD [0, 2, 3, 4, 5, 6] [1] rfl rfl (by decide) (by decide) hk1 hFc hP1 hD1
                  have hP := hP.sub (ws' := [(ax, .inr (1, [.ref ab, .ref aw, .int wl, .double la, .double ea, .int ((wk + nI (PCR (HEI la ea oL oN oE oW k pw fa sa va) x3 (RS x2)).1) + nI (NCR (HEI la ea oL oN oE oW k pw fa sa va) x3 v_7 (RS x2)).1), .int fl])), (ab, aQ 4 (cA 3) qf), (bb, .inr (0, [.int st, .double oL, .double oN, .double oE, .double oW, .int (nI k), .ref bp, .ref bf, .ref bs, .ref bv])), (bp, aI 12 (cA 0) pw), (bf, aD 12 (cA 1) fa), (bs, aD 12 (cA 1) sa), (bv, aD 12 (cA 1) va)]) [1, 0, 2, 3, 4, 5, 6] rfl
                  have hD := hD.sub (ws' := [(ax, .inr (1, [.ref ab, .ref aw, .int wl, .double la, .double ea, .int ((wk + nI (PCR (HEI la ea oL oN oE oW k pw fa sa va) x3 (RS x2)).1) + nI (NCR (HEI la ea oL oN oE oW k pw fa sa va) x3 v_7 (RS x2)).1), .int fl])), (ab, aQ 4 (cA 3) qf), (bb, .inr (0, [.int st, .double oL, .double oN, .double oE, .double oW, .int (nI k), .ref bp, .ref bf, .ref bs, .ref bv])), (bp, aI 12 (cA 0) pw), (bf, aD 12 (cA 1) fa), (bs, aD 12 (cA 1) sa), (bv, aD 12 (cA 1) va)]) [1, 0, 2, 3, 4, 5, 6] (by decide) rfl
                  have e0 : f_X1_event (HEI la ea oL oN oE oW k pw fa sa va) st x1 x2 x3 = ((PCR (HEI la ea oL oN oE oW k pw fa sa va) x3 (RS x2)).1 + (NCR (HEI la ea oL oN oE oW k pw fa sa va) x3 v_7 (RS x2)).1, .ok v_10) := by rw [ev_o c_1 c_2 hp_4, EVR_n c_5, thenc_o hp_8, if_neg c_9, hp_11]
                  have hP : va_P (dC, dI) vwCl [(ax, .inr (1, [.ref ab, .ref aw, .int wl, .double la, .double ea, .int (wk + nI (f_X1_event (HEI la ea oL oN oE oW k pw fa sa va) st x1 x2 x3).1), .int (fl + cFL (f_X1_event (HEI la ea oL oN oE oW k pw fa sa va) st x1 x2 x3).2)])), (ab, aQ 4 (cA 3) qf), (bb, .inr (0, [.int st, .double oL, .double oN, .double oE, .double oW, .int (nI k), .ref bp, .ref bf, .ref bs, .ref bv])), (bp, aI 12 (cA 0) pw), (bf, aD 12 (cA 1) fa), (bs, aD 12 (cA 1) sa), (bv, aD 12 (cA 1) va)] H := by rw [e0]; simp only; rw [wk_add, cFL_ok, i0]; exact hP
                  have hD : va_D A [(ax, .inr (1, [.ref ab, .ref aw, .int wl, .double la, .double ea, .int (wk + nI (f_X1_event (HEI la ea oL oN oE oW k pw fa sa va) st x1 x2 x3).1), .int (fl + cFL (f_X1_event (HEI la ea oL oN oE oW k pw fa sa va) st x1 x2 x3).2)])), (ab, aQ 4 (cA 3) qf), (bb, .inr (0, [.int st, .double oL, .double oN, .double oE, .double oW, .int (nI k), .ref bp, .ref bf, .ref bs, .ref bv])), (bp, aI 12 (cA 0) pw), (bf, aD 12 (cA 1) fa), (bs, aD 12 (cA 1) sa), (bv, aD 12 (cA 1) va)] := by rw [e0]; simp only; rw [wk_add, cFL_ok, i0]; exact hD
                  refine W.widen (k := 66) (n := 396) (Nat.le_of_ble_eq_true rfl) (Nat.le_of_ble_eq_true rfl) ?_
                  exact vx_ret (W.dret hx hb hr (fun t ht hW => ⟨⟨_, (), rfl, (by rw [e0]), ⟨by rw [ht]; exact hP, hD⟩⟩, hS.F ht⟩) hS.2.2 dX1_event_125)
              · have e0 : f_X1_event (HEI la ea oL oN oE oW k pw fa sa va) st x1 x2 x3 = ((PCR (HEI la ea oL oN oE oW k pw fa sa va) x3 (RS x2)).1, .error xNS) := by rw [ev_o c_1 c_2 hp_4, EVR_n c_5, thenc_o hp_8, if_pos c_9]; rfl
                have hP : va_P (dC, dI) vwCl [(ax, .inr (1, [.ref ab, .ref aw, .int wl, .double la, .double ea, .int (wk + nI (f_X1_event (HEI la ea oL oN oE oW k pw fa sa va) st x1 x2 x3).1), .int (fl + cFL (f_X1_event (HEI la ea oL oN oE oW k pw fa sa va) st x1 x2 x3).2)])), (ab, aQ 4 (cA 3) qf), (bb, .inr (0, [.int st, .double oL, .double oN, .double oE, .double oW, .int (nI k), .ref bp, .ref bf, .ref bs, .ref bv])), (bp, aI 12 (cA 0) pw), (bf, aD 12 (cA 1) fa), (bs, aD 12 (cA 1) sa), (bv, aD 12 (cA 1) va)] H := by rw [e0]; simp only; rw [cFL_NS, i0]; exact hP
                have hD : va_D A [(ax, .inr (1, [.ref ab, .ref aw, .int wl, .double la, .double ea, .int (wk + nI (f_X1_event (HEI la ea oL oN oE oW k pw fa sa va) st x1 x2 x3).1), .int (fl + cFL (f_X1_event (HEI la ea oL oN oE oW k pw fa sa va) st x1 x2 x3).2)])), (ab, aQ 4 (cA 3) qf), (bb, .inr (0, [.int st, .double oL, .double oN, .double oE, .double oW, .int (nI k), .ref bp, .ref bf, .ref bs, .ref bv])), (bp, aI 12 (cA 0) pw), (bf, aD 12 (cA 1) fa), (bs, aD 12 (cA 1) sa), (bv, aD 12 (cA 1) va)] := by rw [e0]; simp only; rw [cFL_NS, i0]; exact hD
                obtain ⟨sa_12, hsa_12⟩ := hE.1.str (k := 296) (tx := "no such event on this day") (by decide +kernel)
                exact zt_throwSW (rest := []) hx hb hst hown thc_NS thc_RE thf1 (hts (.classLink RX1 214 xNS) (by decide +kernel)) (hts (.initialized xNS) (by decide +kernel)) hsa_12 (tha_NS hE.1 (fun w hw => hts w (List.mem_cons_of_mem _ (List.mem_append_left _ (List.mem_append_right _ hw))))) thg_NS hE.2.1.1 hE.2.1.2 hS (by rw [hml]; exact hl.1) dX1_event_103 dX1_event_106 dX1_event_107 dX1_event_110 dX1_event_113 (fun x hx9 => (hnt x hx9).elim) (Nat.le_of_ble_eq_true rfl) (Nat.le_of_ble_eq_true rfl) (Nat.le_of_ble_eq_true rfl) (Nat.le_of_ble_eq_true rfl) hlocks (fun t hvm hz hk => ⟨(), trivial, ⟨(by rw [e0]), hP.kept (fun k9 q9 hq9 => hk q9.1 (hP k9 q9 hq9).lt), hD⟩, zx_F hS hz hk⟩) hS.2.2 (Nat.le_of_ble_eq_true rfl) (Nat.le_of_ble_eq_true rfl)
          · refine lv_iconst (v := 1) hx hb dX1_event_79 (by decide) ?_
            refine lv_goto (tgt := 84) hx hb dX1_event_80 (by decide) ?_
            rw [show (Value.int 1) = Value.int (RS x2) from congrArg Value.int (RS_1 c_6)]
            refine lv_istore (lv' := [(5, .int (RS x2)), (4, .ref bb), (0, .ref ax), (1, .int x1), (2, .int x2), (3, .int x3)]) hx hb dX1_event_84 hl (by decide) rfl (fun ls hl => ?_)
            refine lv_aload_n hx hb dX1_event_86 rfl (lv_at hl 2 rfl) ?_
            refine lv_aload hx hb dX1_event_87 (lv_at hl 1 rfl) ?_
            refine lv_iload_n hx hb dX1_event_89 rfl (lv_at hl 5 rfl) ?_
            refine lv_iload hx hb dX1_event_90 (lv_at hl 0 rfl) ?_
            have hPc := hP.sub (ws' := [(ax, .inr (1, [.ref ab, .ref aw, .int wl, .double la, .double ea, .int wk, .int fl])), (bb, .inr (0, [.int st, .double oL, .double oN, .double oE, .double oW, .int (nI k), .ref bp, .ref bf, .ref bs, .ref bv])), (bp, aI 12 (cA 0) pw), (bf, aD 12 (cA 1) fa), (bs, aD 12 (cA 1) sa), (bv, aD 12 (cA 1) va)]) [0, 2, 3, 4, 5, 6] rfl
            have hDc := hD.sub (ws' := [(ax, .inr (1, [.ref ab, .ref aw, .int wl, .double la, .double ea, .int wk, .int fl])), (bb, .inr (0, [.int st, .double oL, .double oN, .double oE, .double oW, .int (nI k), .ref bp, .ref bf, .ref bs, .ref bv])), (bp, aI 12 (cA 0) pw), (bf, aD 12 (cA 1) fa), (bs, aD 12 (cA 1) sa), (bv, aD 12 (cA 1) va)]) [0, 2, 3, 4, 5, 6] (by decide) rfl
            have hFc := va_free (wc := [(ax, .inr (1, [.ref ab, .ref aw, .int wl, .double la, .double ea, .int wk, .int fl])), (bb, .inr (0, [.int st, .double oL, .double oN, .double oE, .double oW, .int (nI k), .ref bp, .ref bf, .ref bs, .ref bv])), (bp, aI 12 (cA 0) pw), (bf, aD 12 (cA 1) fa), (bs, aD 12 (cA 1) sa), (bv, aD 12 (cA 1) va)]) hD hS hA [0, 2, 3, 4, 5, 6] rfl
            refine vx_calli (vx_runV (As := [.ref bb, .int x3, .int (RS x2)]) (rest := []) ⟨hx, hb, hml, hown, hts⟩ (k_X1_partOfCrossing l hst dC dI cA tm tt _ ax ab aw wl la ea wk fl bb bp bf bs bv st oL oN oE oW k pw fa sa va x3 (RS x2) hO hT hla hea (ev_d c_2)) (cwV 3 hts gX1_event_X1_partOfCrossing rfl rfl rfl (by decide +kernel) ⟨Nat.le_of_ble_eq_true rfl, Nat.le_of_ble_eq_true rfl⟩) ⟨PcW.blind, va_recv hK hPc (ci := 1) (q0 := 0) rfl rfl, PcW.give hPc hK hDc hE hS hFc⟩ rfl rfl hl.1 rfl (lv_room (Nat.le_of_ble_eq_true rfl)) dX1_event_92 ⟨Nat.le_of_ble_eq_true rfl, Nat.le_of_ble_eq_true rfl⟩) hS (fun q _ h => hFc q h) hFc (fun q _ h => hFc q h) (fun E ce q9 u t H locs ht hvm hpx hBX hz1 hk1 hS hce hcv hcl => ?_) (fun v_13 u t H locs ht hvm hp_14 hB hz1 hk1 hS => ?_)
            · obtain ⟨hpx, hP1, hD1⟩ := hBX
              rw [ht] at hP1
              obtain ⟨hP, hD⟩ := va_join (wr := [(ab, aQ 4 (cA 3) qf)]) (w1 := [(ax, .inr (1, [.ref ab, .ref aw, .int wl, .double la, .double ea, .int (wk + nI (PCR (HEI la ea oL oN oE oW k pw fa sa va) x3 (RS x2)).1), .int (fl + 1)])), (bb, .inr (0, [.int st, .double oL, .double oN, .double oE, .double oW, .int (nI k), .ref bp, .ref bf, .ref bs, .ref bv])), (bp, aI 12 (cA 0) pw), (bf, aD 12 (cA 1) fa), (bs, aD 12 (cA 1) sa), (bv, aD 12 (cA 1) va)]) hP hD [0, 2, 3, 4, 5, 6] [1] rfl rfl (by decide) (by decide) hk1 hFc hP1 hD1
              have hP := hP.sub (ws' := [(ax, .inr (1, [.ref ab, .ref aw, .int wl, .double la, .double ea, .int (wk + nI (PCR (HEI la ea oL oN oE oW k pw fa sa va) x3 (RS x2)).1), .int (fl + 1)])), (ab, aQ 4 (cA 3) qf), (bb, .inr (0, [.int st, .double oL, .double oN, .double oE, .double oW, .int (nI k), .ref bp, .ref bf, .ref bs, .ref bv])), (bp, aI 12 (cA 0) pw), (bf, aD 12 (cA 1) fa), (bs, aD 12 (cA 1) sa), (bv, aD 12 (cA 1) va)]) [1, 0, 2, 3, 4, 5, 6] rfl
              have hD := hD.sub (ws' := [(ax, .inr (1, [.ref ab, .ref aw, .int wl, .double la, .double ea, .int (wk + nI (PCR (HEI la ea oL oN oE oW k pw fa sa va) x3 (RS x2)).1), .int (fl + 1)])), (ab, aQ 4 (cA 3) qf), (bb, .inr (0, [.int st, .double oL, .double oN, .double oE, .double oW, .int (nI k), .ref bp, .ref bf, .ref bs, .ref bv])), (bp, aI 12 (cA 0) pw), (bf, aD 12 (cA 1) fa), (bs, aD 12 (cA 1) sa), (bv, aD 12 (cA 1) va)]) [1, 0, 2, 3, 4, 5, 6] (by decide) rfl
              have e9 := PCR_x (fun t e h => HEI_err h) hpx
              subst e9
              have e0 : f_X1_event (HEI la ea oL oN oE oW k pw fa sa va) st x1 x2 x3 = ((PCR (HEI la ea oL oN oE oW k pw fa sa va) x3 (RS x2)).1, .error xIS) := by rw [ev_o c_1 c_2 hp_4, EVR_n c_5, thenc_e hpx]
              have hP : va_P (dC, dI) vwCl [(ax, .inr (1, [.ref ab, .ref aw, .int wl, .double la, .double ea, .int (wk + nI (f_X1_event (HEI la ea oL oN oE oW k pw fa sa va) st x1 x2 x3).1), .int (fl + cFL (f_X1_event (HEI la ea oL oN oE oW k pw fa sa va) st x1 x2 x3).2)])), (ab, aQ 4 (cA 3) qf), (bb, .inr (0, [.int st, .double oL, .double oN, .double oE, .double oW, .int (nI k), .ref bp, .ref bf, .ref bs, .ref bv])), (bp, aI 12 (cA 0) pw), (bf, aD 12 (cA 1) fa), (bs, aD 12 (cA 1) sa), (bv, aD 12 (cA 1) va)] H := by rw [e0]; simp only; rw [cFL_IS]; exact hP
              have hD : va_D A [(ax, .inr (1, [.ref ab, .ref aw, .int wl, .double la, .double ea, .int (wk + nI (f_X1_event (HEI la ea oL oN oE oW k pw fa sa va) st x1 x2 x3).1), .int (fl + cFL (f_X1_event (HEI la ea oL oN oE oW k pw fa sa va) st x1 x2 x3).2)])), (ab, aQ 4 (cA 3) qf), (bb, .inr (0, [.int st, .double oL, .double oN, .double oE, .double oW, .int (nI k), .ref bp, .ref bf, .ref bs, .ref bv])), (bp, aI 12 (cA 0) pw), (bf, aD 12 (cA 1) fa), (bs, aD 12 (cA 1) sa), (bv, aD 12 (cA 1) va)] := by rw [e0]; simp only; rw [cFL_IS]; exact hD
              exact vx_out (fun x hx9 => (hnt x hx9).elim) hlocks hce hcv hcl (fun t ht hvm => ⟨(), trivial, ⟨(by rw [e0]), by rw [ht]; exact hP, hD⟩, hS.F ht⟩) hS.2.2 (Nat.le_of_ble_eq_true rfl) (Nat.le_of_ble_eq_true rfl)
            · obtain ⟨hP1, hD1⟩ := hB
              rw [ht] at hP1
              obtain ⟨hP, hD⟩ := va_join (wr := [(ab, aQ 4 (cA 3) qf)]) (w1 := [(ax, .inr (1, [.ref ab, .ref aw, .int wl, .double la, .double ea, .int (wk + nI (PCR (HEI la ea oL oN oE oW k pw fa sa va) x3 (RS x2)).1), .int fl])), (bb, .inr (0, [.int st, .double oL, .double oN, .double oE, .double oW, .int (nI k), .ref bp, .ref bf, .ref bs, .ref bv])), (bp, aI 12 (cA 0) pw), (bf, aD 12 (cA 1) fa), (bs, aD 12 (cA 1) sa), (bv, aD 12 (cA 1) va)]) hP hD [0, 2, 3, 4, 5, 6] [1] rfl rfl (by decide) (by decide) hk1 hFc hP1 hD1
              have hP := hP.sub (ws' := [(ax, .inr (1, [.ref ab, .ref aw, .int wl, .double la, .double ea, .int (wk + nI (PCR (HEI la ea oL oN oE oW k pw fa sa va) x3 (RS x2)).1), .int fl])), (ab, aQ 4 (cA 3) qf), (bb, .inr (0, [.int st, .double oL, .double oN, .double oE, .double oW, .int (nI k), .ref bp, .ref bf, .ref bs, .ref bv])), (bp, aI 12 (cA 0) pw), (bf, aD 12 (cA 1) fa), (bs, aD 12 (cA 1) sa), (bv, aD 12 (cA 1) va)]) [1, 0, 2, 3, 4, 5, 6] rfl
              have hD := hD.sub (ws' := [(ax, .inr (1, [.ref ab, .ref aw, .int wl, .double la, .double ea, .int (wk + nI (PCR (HEI la ea oL oN oE oW k pw fa sa va) x3 (RS x2)).1), .int fl])), (ab, aQ 4 (cA 3) qf), (bb, .inr (0, [.int st, .double oL, .double oN, .double oE, .double oW, .int (nI k), .ref bp, .ref bf, .ref bs, .ref bv])), (bp, aI 12 (cA 0) pw), (bf, aD 12 (cA 1) fa), (bs, aD 12 (cA 1) sa), (bv, aD 12 (cA 1) va)]) [1, 0, 2, 3, 4, 5, 6] (by decide) rfl
              refine lv_istore (lv' := [(6, .int v_13), (5, .int (RS x2)), (4, .ref bb), (0, .ref ax), (1, .int x1), (2, .int x2), (3, .int x3)]) hx hb dX1_event_95 hl (by decide) rfl (fun ls hl => ?_)
              refine lv_iload hx hb dX1_event_97 (lv_at hl 0 rfl) ?_
              refine lv_iconst (v := -1) hx hb dX1_event_99 (by decide) ?_
              refine lv_icmp_ne (tgt := 114) hx hb dX1_event_100 (by decide) (fun c_15 => ?_) (fun c_15 => ?_)
              · refine lv_aload_n hx hb dX1_event_114 rfl (lv_at hl 3 rfl) ?_
                refine lv_aload hx hb dX1_event_115 (lv_at hl 2 rfl) ?_
                refine lv_iload_n hx hb dX1_event_117 rfl (lv_at hl 6 rfl) ?_
                refine lv_iload hx hb dX1_event_118 (lv_at hl 0 rfl) ?_
                refine lv_iload hx hb dX1_event_120 (lv_at hl 1 rfl) ?_
                have hPc := hP.sub (ws' := [(ax, .inr (1, [.ref ab, .ref aw, .int wl, .double la, .double ea, .int (wk + nI (PCR (HEI la ea oL oN oE oW k pw fa sa va) x3 (RS x2)).1), .int fl])), (bb, .inr (0, [.int st, .double oL, .double oN, .double oE, .double oW, .int (nI k), .ref bp, .ref bf, .ref bs, .ref bv])), (bp, aI 12 (cA 0) pw), (bf, aD 12 (cA 1) fa), (bs, aD 12 (cA 1) sa), (bv, aD 12 (cA 1) va)]) [0, 2, 3, 4, 5, 6] rfl
                have hDc := hD.sub (ws' := [(ax, .inr (1, [.ref ab, .ref aw, .int wl, .double la, .double ea, .int (wk + nI (PCR (HEI la ea oL oN oE oW k pw fa sa va) x3 (RS x2)).1), .int fl])), (bb, .inr (0, [.int st, .double oL, .double oN, .double oE, .double oW, .int (nI k), .ref bp, .ref bf, .ref bs, .ref bv])), (bp, aI 12 (cA 0) pw), (bf, aD 12 (cA 1) fa), (bs, aD 12 (cA 1) sa), (bv, aD 12 (cA 1) va)]) [0, 2, 3, 4, 5, 6] (by decide) rfl
                have hFc := va_free (wc := [(ax, .inr (1, [.ref ab, .ref aw, .int wl, .double la, .double ea, .int (wk + nI (PCR (HEI la ea oL oN oE oW k pw fa sa va) x3 (RS x2)).1), .int fl])), (bb, .inr (0, [.int st, .double oL, .double oN, .double oE, .double oW, .int (nI k), .ref bp, .ref bf, .ref bs, .ref bv])), (bp, aI 12 (cA 0) pw), (bf, aD 12 (cA 1) fa), (bs, aD 12 (cA 1) sa), (bv, aD 12 (cA 1) va)]) hD hS hA [0, 2, 3, 4, 5, 6] rfl
                refine vx_calld (vx_runV (As := [.ref bb, .int x3, .int v_13, .int (RS x2)]) (rest := []) ⟨hx, hb, hml, hown, hts⟩ (k_X1_narrowedToCrossing l hst dC dI cA tm tt _ ax ab aw wl la ea (wk + nI (PCR (HEI la ea oL oN oE oW k pw fa sa va) x3 (RS x2)).1) fl bb bp bf bs bv st oL oN oE oW k pw fa sa va x3 v_13 (RS x2) hO hT hla hea (ev_d c_2) ((PCR_r hp_14).resolve_left c_15)) (cwV 4 hts gX1_event_X1_narrowedToCrossing rfl rfl rfl (by decide +kernel) ⟨Nat.le_of_ble_eq_true rfl, Nat.le_of_ble_eq_true rfl⟩) ⟨PcW.blind, va_recv hK hPc (ci := 1) (q0 := 0) rfl rfl, PcW.give hPc hK hDc hE hS hFc⟩ rfl rfl hl.1 rfl (lv_room (Nat.le_of_ble_eq_true rfl)) dX1_event_122 ⟨Nat.le_of_ble_eq_true rfl, Nat.le_of_ble_eq_true rfl⟩) hS (fun q _ h => hFc q h) hFc (fun q _ h => hFc q h) (fun E ce q9 u t H locs ht hvm hpx hBX hz1 hk1 hS hce hcv hcl => ?_) (fun v_16 u t H locs ht hvm hp_17 hB hz1 hk1 hS => ?_)
                · obtain ⟨hpx, hP1, hD1⟩ := hBX
                  rw [ht] at hP1
                  obtain ⟨hP, hD⟩ := va_join (wr := [(ab, aQ 4 (cA 3) qf)]) (w1 := [(ax, .inr (1, [.ref ab, .ref aw, .int wl, .double la, .double ea, .int ((wk + nI (PCR (HEI la ea oL oN oE oW k pw fa sa va) x3 (RS x2)).1) + nI (NCR (HEI la ea oL oN oE oW k pw fa sa va) x3 v_13 (RS x2)).1), .int (fl + 1)])), (bb, .inr (0, [.int st, .double oL, .double oN, .double oE, .double oW, .int (nI k), .ref bp, .ref bf, .ref bs, .ref bv])), (bp, aI 12 (cA 0) pw), (bf, aD 12 (cA 1) fa), (bs, aD 12 (cA 1) sa), (bv, aD 12 (cA 1) va)]) hP hD [0, 2, 3, 4, 5, 6] [1] rfl rfl (by decide) (by decide) hk1 hFc hP1 hD1
                  have hP := hP.sub (ws' := [(ax, .inr (1, [.ref ab, .ref aw, .int wl, .double la, .double ea, .int ((wk + nI (PCR (HEI la ea oL oN oE oW k pw fa sa va) x3 (RS x2)).1) + nI (NCR (HEI la ea oL oN oE oW k pw fa sa va) x3 v_13 (RS x2)).1), .int (fl + 1)])), (ab, aQ 4 (cA 3) qf), (bb, .inr (0, [.int st, .double oL, .double oN, .double oE, .double oW, .int (nI k), .ref bp, .ref bf, .ref bs, .ref bv])), (bp, aI 12 (cA 0) pw), (bf, aD 12 (cA 1) fa), (bs, aD 12 (cA 1) sa), (bv, aD 12 (cA 1) va)]) [1, 0, 2, 3, 4, 5, 6] rfl
                  have hD := hD.sub (ws' := [(ax, .inr (1, [.ref ab, .ref aw, .int wl, .double la, .double ea, .int ((wk + nI (PCR (HEI la ea oL oN oE oW k pw fa sa va) x3 (RS x2)).1) + nI (NCR (HEI la ea oL oN oE oW k pw fa sa va) x3 v_13 (RS x2)).1), .int (fl + 1)])), (ab, aQ 4 (cA 3) qf), (bb, .inr (0, [.int st, .double oL, .double oN, .double oE, .double oW, .int (nI k), .ref bp, .ref bf, .ref bs, .ref bv])), (bp, aI 12 (cA 0) pw), (bf, aD 12 (cA 1) fa), (bs, aD 12 (cA 1) sa), (bv, aD 12 (cA 1) va)]) [1, 0, 2, 3, 4, 5, 6] (by decide) rfl
                  have e9 := NCR_x (fun t e h => HEI_err h) hpx
                  subst e9
                  have e0 : f_X1_event (HEI la ea oL oN oE oW k pw fa sa va) st x1 x2 x3 = ((PCR (HEI la ea oL oN oE oW k pw fa sa va) x3 (RS x2)).1 + (NCR (HEI la ea oL oN oE oW k pw fa sa va) x3 v_13 (RS x2)).1, .error xIS) := by rw [ev_o c_1 c_2 hp_4, EVR_n c_5, thenc_o hp_14, if_neg c_15, hpx]
                  have hP : va_P (dC, dI) vwCl [(ax, .inr (1, [.ref ab, .ref aw, .int wl, .double la, .double ea, .int (wk + nI (f_X1_event (HEI la ea oL oN oE oW k pw fa sa va) st x1 x2 x3).1), .int (fl + cFL (f_X1_event (HEI la ea oL oN oE oW k pw fa sa va) st x1 x2 x3).2)])), (ab, aQ 4 (cA 3) qf), (bb, .inr (0, [.int st, .double oL, .double oN, .double oE, .double oW, .int (nI k), .ref bp, .ref bf, .ref bs, .ref bv])), (bp, aI 12 (cA 0) pw), (bf, aD 12 (cA 1) fa), (bs, aD 12 (cA 1) sa), (bv, aD 12 (cA 1) va)] H := by rw [e0]; simp only; rw [wk_add, cFL_IS]; exact hP
                  have hD : va_D A [(ax, .inr (1, [.ref ab, .ref aw, .int wl, .double la, .double ea, .int (wk + nI (f_X1_event (HEI la ea oL oN oE oW k pw fa sa va) st x1 x2 x3).1), .int (fl + cFL (f_X1_event (HEI la ea oL oN oE oW k pw fa sa va) st x1 x2 x3).2)])), (ab, aQ 4 (cA 3) qf), (bb, .inr (0, [.int st, .double oL, .double oN, .double oE, .double oW, .int (nI k), .ref bp, .ref bf, .ref bs, .ref bv])), (bp, aI 12 (cA 0) pw), (bf, aD 12 (cA 1) fa), (bs, aD 12 (cA 1) sa), (bv, aD 12 (cA 1) va)] := by rw [e0]; simp only; rw [wk_add, cFL_IS]; exact hD
                  exact vx_out (fun x hx9 => (hnt x hx9).elim) hlocks hce hcv hcl (fun t ht hvm => ⟨(), trivial, ⟨(by rw [e0]), by rw [ht]; exact hP, hD⟩, hS.F ht⟩) hS.2.2 (Nat.le_of_ble_eq_true rfl) (Nat.le_of_ble_eq_true rfl)
                · obtain ⟨hP1, hD1⟩ := hB
                  rw [ht] at hP1
                  obtain ⟨hP, hD⟩ := va_join (wr := [(ab, aQ 4 (cA 3) qf)]) (w1 := [(ax, .inr (1, [.ref ab, .ref aw, .int wl, .double la, .double ea, .int ((wk + nI (PCR (HEI la ea oL oN oE oW k pw fa sa va) x3 (RS x2)).1) + nI (NCR (HEI la ea oL oN oE oW k pw fa sa va) x3 v_13 (RS x2)).1), .int fl])), (bb, .inr (0, [.int st, .double oL, .double oN, .double oE, .double oW, .int (nI k), .ref bp, .ref bf, .ref bs, .ref bv])), (bp, aI 12 (cA 0) pw), (bf, aD 12 (cA 1) fa), (bs, aD 12 (cA 1) sa), (bv, aD 12 (cA 1) va)]) hP hD [0, 2, 3, 4, 5, 6] [1] rfl rfl (by decide) (by decide) hk1 hFc hP1 hD1
                  have hP := hP.sub (ws' := [(ax, .inr (1, [.ref ab, .ref aw, .int wl, .double la, .double ea, .int ((wk + nI (PCR (HEI la ea oL oN oE oW k pw fa sa va) x3 (RS x2)).1) + nI (NCR (HEI la ea oL oN oE oW k pw fa sa va) x3 v_13 (RS x2)).1), .int fl])), (ab, aQ 4 (cA 3) qf), (bb, .inr (0, [.int st, .double oL, .double oN, .double oE, .double oW, .int (nI k), .ref bp, .ref bf, .ref bs, .ref bv])), (bp, aI 12 (cA 0) pw), (bf, aD 12 (cA 1) fa), (bs, aD 12 (cA 1) sa), (bv, aD 12 (cA 1) va)]) [1, 0, 2, 3, 4, 5, 6] rfl
                  have hD := hD.sub (ws' := [(ax, .inr (1, [.ref ab, .ref aw, .int wl, .double la, .double ea, .int ((wk + nI (PCR (HEI la ea oL oN oE oW k pw fa sa va) x3 (RS x2)).1) + nI (NCR (HEI la ea oL oN oE oW k pw fa sa va) x3 v_13 (RS x2)).1), .int fl])), (ab, aQ 4 (cA 3) qf), (bb, .inr (0, [.int st, .double oL, .double oN, .double oE, .double oW, .int (nI k), .ref bp, .ref bf, .ref bs, .ref bv])), (bp, aI 12 (cA 0) pw), (bf, aD 12 (cA 1) fa), (bs, aD 12 (cA 1) sa), (bv, aD 12 (cA 1) va)]) [1, 0, 2, 3, 4, 5, 6] (by decide) rfl
                  have e0 : f_X1_event (HEI la ea oL oN oE oW k pw fa sa va) st x1 x2 x3 = ((PCR (HEI la ea oL oN oE oW k pw fa sa va) x3 (RS x2)).1 + (NCR (HEI la ea oL oN oE oW k pw fa sa va) x3 v_13 (RS x2)).1, .ok v_16) := by rw [ev_o c_1 c_2 hp_4, EVR_n c_5, thenc_o hp_14, if_neg c_15, hp_17]
                  have hP : va_P (dC, dI) vwCl [(ax, .inr (1, [.ref ab, .ref aw, .int wl, .double la, .double ea, .int (wk + nI (f_X1_event (HEI la ea oL oN oE oW k pw fa sa va) st x1 x2 x3).1), .int (fl + cFL (f_X1_event (HEI la ea oL oN oE oW k pw fa sa va) st x1 x2 x3).2)])), (ab, aQ 4 (cA 3) qf), (bb, .inr (0, [.int st, .double oL, .double oN, .double oE, .double oW, .int (nI k), .ref bp, .ref bf, .ref bs, .ref bv])), (bp, aI 12 (cA 0) pw), (bf, aD 12 (cA 1) fa), (bs, aD 12 (cA 1) sa), (bv, aD 12 (cA 1) va)] H := by rw [e0]; simp only; rw [wk_add, cFL_ok, i0]; exact hP
                  have hD : va_D A [(ax, .inr (1, [.ref ab, .ref aw, .int wl, .double la, .double ea, .int (wk + nI (f_X1_event (HEI la ea oL oN oE oW k pw fa sa va) st x1 x2 x3).1), .int (fl + cFL (f_X1_event (HEI la ea oL oN oE oW k pw fa sa va) st x1 x2 x3).2)])), (ab, aQ 4 (cA 3) qf), (bb, .inr (0, [.int st, .double oL, .double oN, .double oE, .double oW, .int (nI k), .ref bp, .ref bf, .ref bs, .ref bv])), (bp, aI 12 (cA 0) pw), (bf, aD 12 (cA 1) fa), (bs, aD 12 (cA 1) sa), (bv, aD 12 (cA 1) va)] := by rw [e0]; simp only; rw [wk_add, cFL_ok, i0]; exact hD
                  refine W.widen (k := 66) (n := 396) (Nat.le_of_ble_eq_true rfl) (Nat.le_of_ble_eq_true rfl) ?_
                  exact vx_ret (W.dret hx hb hr (fun t ht hW => ⟨⟨_, (), rfl, (by rw [e0]), ⟨by rw [ht]; exact hP, hD⟩⟩, hS.F ht⟩) hS.2.2 dX1_event_125)
              · have e0 : f_X1_event (HEI la ea oL oN oE oW k pw fa sa va) st x1 x2 x3 = ((PCR (HEI la ea oL oN oE oW k pw fa sa va) x3 (RS x2)).1, .error xNS) := by rw [ev_o c_1 c_2 hp_4, EVR_n c_5, thenc_o hp_14, if_pos c_15]; rfl
                have hP : va_P (dC, dI) vwCl [(ax, .inr (1, [.ref ab, .ref aw, .int wl, .double la, .double ea, .int (wk + nI (f_X1_event (HEI la ea oL oN oE oW k pw fa sa va) st x1 x2 x3).1), .int (fl + cFL (f_X1_event (HEI la ea oL oN oE oW k pw fa sa va) st x1 x2 x3).2)])), (ab, aQ 4 (cA 3) qf), (bb, .inr (0, [.int st, .double oL, .double oN, .double oE, .double oW, .int (nI k), .ref bp, .ref bf, .ref bs, .ref bv])), (bp, aI 12 (cA 0) pw), (bf, aD 12 (cA 1) fa), (bs, aD 12 (cA 1) sa), (bv, aD 12 (cA 1) va)] H := by rw [e0]; simp only; rw [cFL_NS, i0]; exact hP
                have hD : va_D A [(ax, .inr (1, [.ref ab, .ref aw, .int wl, .double la, .double ea, .int (wk + nI (f_X1_event (HEI la ea oL oN oE oW k pw fa sa va) st x1 x2 x3).1), .int (fl + cFL (f_X1_event (HEI la ea oL oN oE oW k pw fa sa va) st x1 x2 x3).2)])), (ab, aQ 4 (cA 3) qf), (bb, .inr (0, [.int st, .double oL, .double oN, .double oE, .double oW, .int (nI k), .ref bp, .ref bf, .ref bs, .ref bv])), (bp, aI 12 (cA 0) pw), (bf, aD 12 (cA 1) fa), (bs, aD 12 (cA 1) sa), (bv, aD 12 (cA 1) va)] := by rw [e0]; simp only; rw [cFL_NS, i0]; exact hD
                obtain ⟨sa_18, hsa_18⟩ := hE.1.str (k := 296) (tx := "no such event on this day") (by decide +kernel)
                exact zt_throwSW (rest := []) hx hb hst hown thc_NS thc_RE thf1 (hts (.classLink RX1 214 xNS) (by decide +kernel)) (hts (.initialized xNS) (by decide +kernel)) hsa_18 (tha_NS hE.1 (fun w hw => hts w (List.mem_cons_of_mem _ (List.mem_append_left _ (List.mem_append_right _ hw))))) thg_NS hE.2.1.1 hE.2.1.2 hS (by rw [hml]; exact hl.1) dX1_event_103 dX1_event_106 dX1_event_107 dX1_event_110 dX1_event_113 (fun x hx9 => (hnt x hx9).elim) (Nat.le_of_ble_eq_true rfl) (Nat.le_of_ble_eq_true rfl) (Nat.le_of_ble_eq_true rfl) (Nat.le_of_ble_eq_true rfl) hlocks (fun t hvm hz hk => ⟨(), trivial, ⟨(by rw [e0]), hP.kept (fun k9 q9 hq9 => hk q9.1 (hP k9 q9 hq9).lt), hD⟩, zx_F hS hz hk⟩) hS.2.2 (Nat.le_of_ble_eq_true rfl) (Nat.le_of_ble_eq_true rfl)
        · refine lv_aload_n hx hb dX1_event_60 rfl (lv_at hl 1 rfl) ?_
          refine lv_aload hx hb dX1_event_61 (lv_at hl 0 rfl) ?_
          refine lv_iload_n hx hb dX1_event_63 rfl (lv_at hl 4 rfl) ?_
          refine lv_aload_n hx hb dX1_event_64 rfl (lv_at hl 1 rfl) ?_
          refine lv_aload hx hb dX1_event_65 (lv_at hl 0 rfl) ?_
          refine lv_iload_n hx hb dX1_event_67 rfl (lv_at hl 4 rfl) ?_
          have hPc := hP.sub (ws' := [(ax, .inr (1, [.ref ab, .ref aw, .int wl, .double la, .double ea, .int wk, .int fl])), (bb, .inr (0, [.int st, .double oL, .double oN, .double oE, .double oW, .int (nI k), .ref bp, .ref bf, .ref bs, .ref bv])), (bp, aI 12 (cA 0) pw), (bf, aD 12 (cA 1) fa), (bs, aD 12 (cA 1) sa), (bv, aD 12 (cA 1) va)]) [0, 2, 3, 4, 5, 6] rfl
          have hDc := hD.sub (ws' := [(ax, .inr (1, [.ref ab, .ref aw, .int wl, .double la, .double ea, .int wk, .int fl])), (bb, .inr (0, [.int st, .double oL, .double oN, .double oE, .double oW, .int (nI k), .ref bp, .ref bf, .ref bs, .ref bv])), (bp, aI 12 (cA 0) pw), (bf, aD 12 (cA 1) fa), (bs, aD 12 (cA 1) sa), (bv, aD 12 (cA 1) va)]) [0, 2, 3, 4, 5, 6] (by decide) rfl
          have hFc := va_free (wc := [(ax, .inr (1, [.ref ab, .ref aw, .int wl, .double la, .double ea, .int wk, .int fl])), (bb, .inr (0, [.int st, .double oL, .double oN, .double oE, .double oW, .int (nI k), .ref bp, .ref bf, .ref bs, .ref bv])), (bp, aI 12 (cA 0) pw), (bf, aD 12 (cA 1) fa), (bs, aD 12 (cA 1) sa), (bv, aD 12 (cA 1) va)]) hD hS hA [0, 2, 3, 4, 5, 6] rfl
          refine vx_calli (vx_runV (As := [.ref bb, .int x3]) (rest := [.int x3, .ref bb, .ref ax]) ⟨hx, hb, hml, hown, hts⟩ (k_X1_partOfGreatestHeight l hst dC dI cA tm tt _ ax ab aw wl la ea wk fl bb bp bf bs bv st oL oN oE oW k pw fa sa va x3 hO hT hla hea (ev_d c_2)) (cwV 2 hts gX1_event_X1_partOfGreatestHeight rfl rfl rfl (by decide +kernel) ⟨Nat.le_of_ble_eq_true rfl, Nat.le_of_ble_eq_true rfl⟩) ⟨PcW.blind, va_recv hK hPc (ci := 1) (q0 := 0) rfl rfl, PcW.give hPc hK hDc hE hS hFc⟩ rfl rfl hl.1 rfl (lv_room (Nat.le_of_ble_eq_true rfl)) dX1_event_68 ⟨Nat.le_of_ble_eq_true rfl, Nat.le_of_ble_eq_true rfl⟩) hS (fun q _ h => hFc q h) hFc (fun q _ h => hFc q h) (fun E ce q9 u t H locs ht hvm hpx hBX hz1 hk1 hS hce hcv hcl => ?_) (fun v_19 u t H locs ht hvm hp_20 hB hz1 hk1 hS => ?_)
          · obtain ⟨hpx, hP1, hD1⟩ := hBX
            rw [ht] at hP1
            obtain ⟨hP, hD⟩ := va_join (wr := [(ab, aQ 4 (cA 3) qf)]) (w1 := [(ax, .inr (1, [.ref ab, .ref aw, .int wl, .double la, .double ea, .int (wk + nI (PGR (HEI la ea oL oN oE oW k pw fa sa va) x3).1), .int (fl + 1)])), (bb, .inr (0, [.int st, .double oL, .double oN, .double oE, .double oW, .int (nI k), .ref bp, .ref bf, .ref bs, .ref bv])), (bp, aI 12 (cA 0) pw), (bf, aD 12 (cA 1) fa), (bs, aD 12 (cA 1) sa), (bv, aD 12 (cA 1) va)]) hP hD [0, 2, 3, 4, 5, 6] [1] rfl rfl (by decide) (by decide) hk1 hFc hP1 hD1
            have hP := hP.sub (ws' := [(ax, .inr (1, [.ref ab, .ref aw, .int wl, .double la, .double ea, .int (wk + nI (PGR (HEI la ea oL oN oE oW k pw fa sa va) x3).1), .int (fl + 1)])), (ab, aQ 4 (cA 3) qf), (bb, .inr (0, [.int st, .double oL, .double oN, .double oE, .double oW, .int (nI k), .ref bp, .ref bf, .ref bs, .ref bv])), (bp, aI 12 (cA 0) pw), (bf, aD 12 (cA 1) fa), (bs, aD 12 (cA 1) sa), (bv, aD 12 (cA 1) va)]) [1, 0, 2, 3, 4, 5, 6] rfl
            have hD := hD.sub (ws' := [(ax, .inr (1, [.ref ab, .ref aw, .int wl, .double la, .double ea, .int (wk + nI (PGR (HEI la ea oL oN oE oW k pw fa sa va) x3).1), .int (fl + 1)])), (ab, aQ 4 (cA 3) qf), (bb, .inr (0, [.int st, .double oL, .double oN, .double oE, .double oW, .int (nI k), .ref bp, .ref bf, .ref bs, .ref bv])), (bp, aI 12 (cA 0) pw), (bf, aD 12 (cA 1) fa), (bs, aD 12 (cA 1) sa), (bv, aD 12 (cA 1) va)]) [1, 0, 2, 3, 4, 5, 6] (by decide) rfl
            have e9 := PGR_x (fun t e h => HEI_err h) hpx
            subst e9
            have e0 : f_X1_event (HEI la ea oL oN oE oW k pw fa sa va) st x1 x2 x3 = ((PGR (HEI la ea oL oN oE oW k pw fa sa va) x3).1, .error xIS) := by rw [ev_o c_1 c_2 hp_4, EVR_2 c_5, thenc_e hpx]
            have hP : va_P (dC, dI) vwCl [(ax, .inr (1, [.ref ab, .ref aw, .int wl, .double la, .double ea, .int (wk + nI (f_X1_event (HEI la ea oL oN oE oW k pw fa sa va) st x1 x2 x3).1), .int (fl + cFL (f_X1_event (HEI la ea oL oN oE oW k pw fa sa va) st x1 x2 x3).2)])), (ab, aQ 4 (cA 3) qf), (bb, .inr (0, [.int st, .double oL, .double oN, .double oE, .double oW, .int (nI k), .ref bp, .ref bf, .ref bs, .ref bv])), (bp, aI 12 (cA 0) pw), (bf, aD 12 (cA 1) fa), (bs, aD 12 (cA 1) sa), (bv, aD 12 (cA 1) va)] H := by rw [e0]; simp only; rw [cFL_IS]; exact hP
            have hD : va_D A [(ax, .inr (1, [.ref ab, .ref aw, .int wl, .double la, .double ea, .int (wk + nI (f_X1_event (HEI la ea oL oN oE oW k pw fa sa va) st x1 x2 x3).1), .int (fl + cFL (f_X1_event (HEI la ea oL oN oE oW k pw fa sa va) st x1 x2 x3).2)])), (ab, aQ 4 (cA 3) qf), (bb, .inr (0, [.int st, .double oL, .double oN, .double oE, .double oW, .int (nI k), .ref bp, .ref bf, .ref bs, .ref bv])), (bp, aI 12 (cA 0) pw), (bf, aD 12 (cA 1) fa), (bs, aD 12 (cA 1) sa), (bv, aD 12 (cA 1) va)] := by rw [e0]; simp only; rw [cFL_IS]; exact hD
            exact vx_out (fun x hx9 => (hnt x hx9).elim) hlocks hce hcv hcl (fun t ht hvm => ⟨(), trivial, ⟨(by rw [e0]), by rw [ht]; exact hP, hD⟩, hS.F ht⟩) hS.2.2 (Nat.le_of_ble_eq_true rfl) (Nat.le_of_ble_eq_true rfl)
          · obtain ⟨hP1, hD1⟩ := hB
            rw [ht] at hP1
            obtain ⟨hP, hD⟩ := va_join (wr := [(ab, aQ 4 (cA 3) qf)]) (w1 := [(ax, .inr (1, [.ref ab, .ref aw, .int wl, .double la, .double ea, .int (wk + nI (PGR (HEI la ea oL oN oE oW k pw fa sa va) x3).1), .int fl])), (bb, .inr (0, [.int st, .double oL, .double oN, .double oE, .double oW, .int (nI k), .ref bp, .ref bf, .ref bs, .ref bv])), (bp, aI 12 (cA 0) pw), (bf, aD 12 (cA 1) fa), (bs, aD 12 (cA 1) sa), (bv, aD 12 (cA 1) va)]) hP hD [0, 2, 3, 4, 5, 6] [1] rfl rfl (by decide) (by decide) hk1 hFc hP1 hD1
            have hP := hP.sub (ws' := [(ax, .inr (1, [.ref ab, .ref aw, .int wl, .double la, .double ea, .int (wk + nI (PGR (HEI la ea oL oN oE oW k pw fa sa va) x3).1), .int fl])), (ab, aQ 4 (cA 3) qf), (bb, .inr (0, [.int st, .double oL, .double oN, .double oE, .double oW, .int (nI k), .ref bp, .ref bf, .ref bs, .ref bv])), (bp, aI 12 (cA 0) pw), (bf, aD 12 (cA 1) fa), (bs, aD 12 (cA 1) sa), (bv, aD 12 (cA 1) va)]) [1, 0, 2, 3, 4, 5, 6] rfl
            have hD := hD.sub (ws' := [(ax, .inr (1, [.ref ab, .ref aw, .int wl, .double la, .double ea, .int (wk + nI (PGR (HEI la ea oL oN oE oW k pw fa sa va) x3).1), .int fl])), (ab, aQ 4 (cA 3) qf), (bb, .inr (0, [.int st, .double oL, .double oN, .double oE, .double oW, .int (nI k), .ref bp, .ref bf, .ref bs, .ref bv])), (bp, aI 12 (cA 0) pw), (bf, aD 12 (cA 1) fa), (bs, aD 12 (cA 1) sa), (bv, aD 12 (cA 1) va)]) [1, 0, 2, 3, 4, 5, 6] (by decide) rfl
            have hPc := hP.sub (ws' := [(ax, .inr (1, [.ref ab, .ref aw, .int wl, .double la, .double ea, .int (wk + nI (PGR (HEI la ea oL oN oE oW k pw fa sa va) x3).1), .int fl])), (bb, .inr (0, [.int st, .double oL, .double oN, .double oE, .double oW, .int (nI k), .ref bp, .ref bf, .ref bs, .ref bv])), (bp, aI 12 (cA 0) pw), (bf, aD 12 (cA 1) fa), (bs, aD 12 (cA 1) sa), (bv, aD 12 (cA 1) va)]) [0, 2, 3, 4, 5, 6] rfl
            have hDc := hD.sub (ws' := [(ax, .inr (1, [.ref ab, .ref aw, .int wl, .double la, .double ea, .int (wk + nI (PGR (HEI la ea oL oN oE oW k pw fa sa va) x3).1), .int fl])), (bb, .inr (0, [.int st, .double oL, .double oN, .double oE, .double oW, .int (nI k), .ref bp, .ref bf, .ref bs, .ref bv])), (bp, aI 12 (cA 0) pw), (bf, aD 12 (cA 1) fa), (bs, aD 12 (cA 1) sa), (bv, aD 12 (cA 1) va)]) [0, 2, 3, 4, 5, 6] (by decide) rfl
            have hFc := va_free (wc := [(ax, .inr (1, [.ref ab, .ref aw, .int wl, .double la, .double ea, .int (wk + nI (PGR (HEI la ea oL oN oE oW k pw fa sa va) x3).1), .int fl])), (bb, .inr (0, [.int st, .double oL, .double oN, .double oE, .double oW, .int (nI k), .ref bp, .ref bf, .ref bs, .ref bv])), (bp, aI 12 (cA 0) pw), (bf, aD 12 (cA 1) fa), (bs, aD 12 (cA 1) sa), (bv, aD 12 (cA 1) va)]) hD hS hA [0, 2, 3, 4, 5, 6] rfl
            refine vx_calld (vx_runV (As := [.ref bb, .int x3, .int v_19]) (rest := []) ⟨hx, hb, hml, hown, hts⟩ (k_X1_narrowedToHighest l hst dC dI cA tm tt _ ax ab aw wl la ea (wk + nI (PGR (HEI la ea oL oN oE oW k pw fa sa va) x3).1) fl bb bp bf bs bv st oL oN oE oW k pw fa sa va x3 v_19 hO hT hla hea (ev_d c_2) (PGR_r hp_20)) (cwV 3 hts gX1_event_X1_narrowedToHighest rfl rfl rfl (by decide +kernel) ⟨Nat.le_of_ble_eq_true rfl, Nat.le_of_ble_eq_true rfl⟩) ⟨PcW.blind, va_recv hK hPc (ci := 1) (q0 := 0) rfl rfl, PcW.give hPc hK hDc hE hS hFc⟩ rfl rfl hl.1 rfl (lv_room (Nat.le_of_ble_eq_true rfl)) dX1_event_71 ⟨Nat.le_of_ble_eq_true rfl, Nat.le_of_ble_eq_true rfl⟩) hS (fun q _ h => hFc q h) hFc (fun q _ h => hFc q h) (fun E ce q9 u t H locs ht hvm hpx hBX hz1 hk1 hS hce hcv hcl => ?_) (fun v_21 u t H locs ht hvm hp_22 hB hz1 hk1 hS => ?_)
            · obtain ⟨hpx, hP1, hD1⟩ := hBX
              rw [ht] at hP1
              obtain ⟨hP, hD⟩ := va_join (wr := [(ab, aQ 4 (cA 3) qf)]) (w1 := [(ax, .inr (1, [.ref ab, .ref aw, .int wl, .double la, .double ea, .int ((wk + nI (PGR (HEI la ea oL oN oE oW k pw fa sa va) x3).1) + nI (NHR (HEI la ea oL oN oE oW k pw fa sa va) x3 v_19).1), .int (fl + 1)])), (bb, .inr (0, [.int st, .double oL, .double oN, .double oE, .double oW, .int (nI k), .ref bp, .ref bf, .ref bs, .ref bv])), (bp, aI 12 (cA 0) pw), (bf, aD 12 (cA 1) fa), (bs, aD 12 (cA 1) sa), (bv, aD 12 (cA 1) va)]) hP hD [0, 2, 3, 4, 5, 6] [1] rfl rfl (by decide) (by decide) hk1 hFc hP1 hD1
              have hP := hP.sub (ws' := [(ax, .inr (1, [.ref ab, .ref aw, .int wl, .double la, .double ea, .int ((wk + nI (PGR (HEI la ea oL oN oE oW k pw fa sa va) x3).1) + nI (NHR (HEI la ea oL oN oE oW k pw fa sa va) x3 v_19).1), .int (fl + 1)])), (ab, aQ 4 (cA 3) qf), (bb, .inr (0, [.int st, .double oL, .double oN, .double oE, .double oW, .int (nI k), .ref bp, .ref bf, .ref bs, .ref bv])), (bp, aI 12 (cA 0) pw), (bf, aD 12 (cA 1) fa), (bs, aD 12 (cA 1) sa), (bv, aD 12 (cA 1) va)]) [1, 0, 2, 3, 4, 5, 6] rfl
              have hD := hD.sub (ws' := [(ax, .inr (1, [.ref ab, .ref aw, .int wl, .double la, .double ea, .int ((wk + nI (PGR (HEI la ea oL oN oE oW k pw fa sa va) x3).1) + nI (NHR (HEI la ea oL oN oE oW k pw fa sa va) x3 v_19).1), .int (fl + 1)])), (ab, aQ 4 (cA 3) qf), (bb, .inr (0, [.int st, .double oL, .double oN, .double oE, .double oW, .int (nI k), .ref bp, .ref bf, .ref bs, .ref bv])), (bp, aI 12 (cA 0) pw), (bf, aD 12 (cA 1) fa), (bs, aD 12 (cA 1) sa), (bv, aD 12 (cA 1) va)]) [1, 0, 2, 3, 4, 5, 6] (by decide) rfl
              have e9 := NHR_x (fun t e h => HEI_err h) hpx
              subst e9
              have e0 : f_X1_event (HEI la ea oL oN oE oW k pw fa sa va) st x1 x2 x3 = ((PGR (HEI la ea oL oN oE oW k pw fa sa va) x3).1 + (NHR (HEI la ea oL oN oE oW k pw fa sa va) x3 v_19).1, .error xIS) := by rw [ev_o c_1 c_2 hp_4, EVR_2 c_5, thenc_o hp_20, hpx]
              have hP : va_P (dC, dI) vwCl [(ax, .inr (1, [.ref ab, .ref aw, .int wl, .double la, .double ea, .int (wk + nI (f_X1_event (HEI la ea oL oN oE oW k pw fa sa va) st x1 x2 x3).1), .int (fl + cFL (f_X1_event (HEI la ea oL oN oE oW k pw fa sa va) st x1 x2 x3).2)])), (ab, aQ 4 (cA 3) qf), (bb, .inr (0, [.int st, .double oL, .double oN, .double oE, .double oW, .int (nI k), .ref bp, .ref bf, .ref bs, .ref bv])), (bp, aI 12 (cA 0) pw), (bf, aD 12 (cA 1) fa), (bs, aD 12 (cA 1) sa), (bv, aD 12 (cA 1) va)] H := by rw [e0]; simp only; rw [wk_add, cFL_IS]; exact hP
              have hD : va_D A [(ax, .inr (1, [.ref ab, .ref aw, .int wl, .double la, .double ea, .int (wk + nI (f_X1_event (HEI la ea oL oN oE oW k pw fa sa va) st x1 x2 x3).1), .int (fl + cFL (f_X1_event (HEI la ea oL oN oE oW k pw fa sa va) st x1 x2 x3).2)])), (ab, aQ 4 (cA 3) qf), (bb, .inr (0, [.int st, .double oL, .double oN, .double oE, .double oW, .int (nI k), .ref bp, .ref bf, .ref bs, .ref bv])), (bp, aI 12 (cA 0) pw), (bf, aD 12 (cA 1) fa), (bs, aD 12 (cA 1) sa), (bv, aD 12 (cA 1) va)] := by rw [e0]; simp only; rw [wk_add, cFL_IS]; exact hD
              exact vx_out (fun x hx9 => (hnt x hx9).elim) hlocks hce hcv hcl (fun t ht hvm => ⟨(), trivial, ⟨(by rw [e0]), by rw [ht]; exact hP, hD⟩, hS.F ht⟩) hS.2.2 (Nat.le_of_ble_eq_true rfl) (Nat.le_of_ble_eq_true rfl)
            · obtain ⟨hP1, hD1⟩ := hB
              rw [ht] at hP1
              obtain ⟨hP, hD⟩ := va_join (wr := [(ab, aQ 4 (cA 3) qf)]) (w1 := [(ax, .inr (1, [.ref ab, .ref aw, .int wl, .double la, .double ea, .int ((wk + nI (PGR (HEI la ea oL oN oE oW k pw fa sa va) x3).1) + nI (NHR (HEI la ea oL oN oE oW k pw fa sa va) x3 v_19).1), .int fl])), (bb, .inr (0, [.int st, .double oL, .double oN, .double oE, .double oW, .int (nI k), .ref bp, .ref bf, .ref bs, .ref bv])), (bp, aI 12 (cA 0) pw), (bf, aD 12 (cA 1) fa), (bs, aD 12 (cA 1) sa), (bv, aD 12 (cA 1) va)]) hP hD [0, 2, 3, 4, 5, 6] [1] rfl rfl (by decide) (by decide) hk1 hFc hP1 hD1
              have hP := hP.sub (ws' := [(ax, .inr (1, [.ref ab, .ref aw, .int wl, .double la, .double ea, .int ((wk + nI (PGR (HEI la ea oL oN oE oW k pw fa sa va) x3).1) + nI (NHR (HEI la ea oL oN oE oW k pw fa sa va) x3 v_19).1), .int fl])), (ab, aQ 4 (cA 3) qf), (bb, .inr (0, [.int st, .double oL, .double oN, .double oE, .double oW, .int (nI k), .ref bp, .ref bf, .ref bs, .ref bv])), (bp, aI 12 (cA 0) pw), (bf, aD 12 (cA 1) fa), (bs, aD 12 (cA 1) sa), (bv, aD 12 (cA 1) va)]) [1, 0, 2, 3, 4, 5, 6] rfl
              have hD := hD.sub (ws' := [(ax, .inr (1, [.ref ab, .ref aw, .int wl, .double la, .double ea, .int ((wk + nI (PGR (HEI la ea oL oN oE oW k pw fa sa va) x3).1) + nI (NHR (HEI la ea oL oN oE oW k pw fa sa va) x3 v_19).1), .int fl])), (ab, aQ 4 (cA 3) qf), (bb, .inr (0, [.int st, .double oL, .double oN, .double oE, .double oW, .int (nI k), .ref bp, .ref bf, .ref bs, .ref bv])), (bp, aI 12 (cA 0) pw), (bf, aD 12 (cA 1) fa), (bs, aD 12 (cA 1) sa), (bv, aD 12 (cA 1) va)]) [1, 0, 2, 3, 4, 5, 6] (by decide) rfl
              have e0 : f_X1_event (HEI la ea oL oN oE oW k pw fa sa va) st x1 x2 x3 = ((PGR (HEI la ea oL oN oE oW k pw fa sa va) x3).1 + (NHR (HEI la ea oL oN oE oW k pw fa sa va) x3 v_19).1, .ok v_21) := by rw [ev_o c_1 c_2 hp_4, EVR_2 c_5, thenc_o hp_20, hp_22]
              have hP : va_P (dC, dI) vwCl [(ax, .inr (1, [.ref ab, .ref aw, .int wl, .double la, .double ea, .int (wk + nI (f_X1_event (HEI la ea oL oN oE oW k pw fa sa va) st x1 x2 x3).1), .int (fl + cFL (f_X1_event (HEI la ea oL oN oE oW k pw fa sa va) st x1 x2 x3).2)])), (ab, aQ 4 (cA 3) qf), (bb, .inr (0, [.int st, .double oL, .double oN, .double oE, .double oW, .int (nI k), .ref bp, .ref bf, .ref bs, .ref bv])), (bp, aI 12 (cA 0) pw), (bf, aD 12 (cA 1) fa), (bs, aD 12 (cA 1) sa), (bv, aD 12 (cA 1) va)] H := by rw [e0]; simp only; rw [wk_add, cFL_ok, i0]; exact hP
              have hD : va_D A [(ax, .inr (1, [.ref ab, .ref aw, .int wl, .double la, .double ea, .int (wk + nI (f_X1_event (HEI la ea oL oN oE oW k pw fa sa va) st x1 x2 x3).1), .int (fl + cFL (f_X1_event (HEI la ea oL oN oE oW k pw fa sa va) st x1 x2 x3).2)])), (ab, aQ 4 (cA 3) qf), (bb, .inr (0, [.int st, .double oL, .double oN, .double oE, .double oW, .int (nI k), .ref bp, .ref bf, .ref bs, .ref bv])), (bp, aI 12 (cA 0) pw), (bf, aD 12 (cA 1) fa), (bs, aD 12 (cA 1) sa), (bv, aD 12 (cA 1) va)] := by rw [e0]; simp only; rw [wk_add, cFL_ok, i0]; exact hD
              exact vx_ret (W.dret hx hb hr (fun t ht hW => ⟨⟨_, (), rfl, (by rw [e0]), ⟨by rw [ht]; exact hP, hD⟩⟩, hS.F ht⟩) hS.2.2 dX1_event_74)
    · have e0 : f_X1_event (HEI la ea oL oN oE oW k pw fa sa va) st x1 x2 x3 = (0, .error xIA) := by unfold f_X1_event; rw [if_neg c_1, if_pos c_2]
      have hP : va_P (dC, dI) vwCl [(ax, .inr (1, [.ref ab, .ref aw, .int wl, .double la, .double ea, .int (wk + nI (f_X1_event (HEI la ea oL oN oE oW k pw fa sa va) st x1 x2 x3).1), .int (fl + cFL (f_X1_event (HEI la ea oL oN oE oW k pw fa sa va) st x1 x2 x3).2)])), (ab, aQ 4 (cA 3) qf), (bb, .inr (0, [.int st, .double oL, .double oN, .double oE, .double oW, .int (nI k), .ref bp, .ref bf, .ref bs, .ref bv])), (bp, aI 12 (cA 0) pw), (bf, aD 12 (cA 1) fa), (bs, aD 12 (cA 1) sa), (bv, aD 12 (cA 1) va)] s.heap := by rw [e0]; simp only; rw [wk_0, cFL_IA, i0]; exact hP
      have hD : va_D A [(ax, .inr (1, [.ref ab, .ref aw, .int wl, .double la, .double ea, .int (wk + nI (f_X1_event (HEI la ea oL oN oE oW k pw fa sa va) st x1 x2 x3).1), .int (fl + cFL (f_X1_event (HEI la ea oL oN oE oW k pw fa sa va) st x1 x2 x3).2)])), (ab, aQ 4 (cA 3) qf), (bb, .inr (0, [.int st, .double oL, .double oN, .double oE, .double oW, .int (nI k), .ref bp, .ref bf, .ref bs, .ref bv])), (bp, aI 12 (cA 0) pw), (bf, aD 12 (cA 1) fa), (bs, aD 12 (cA 1) sa), (bv, aD 12 (cA 1) va)] := by rw [e0]; simp only; rw [wk_0, cFL_IA, i0]; exact hD
      obtain ⟨sa_23, hsa_23⟩ := hE.1.str (k := 282) (tx := "the day is out of range") (by decide +kernel)
      exact vx_throwSW (rest := []) hx hb hst hown thc_IA thf (hts (.classLink RX1 43 xIA) (by decide +kernel)) (hts (.initialized xIA) (by decide +kernel)) hsa_23 (tha_IA hE.1 (fun w hw => hts w (List.mem_cons_of_mem _ (List.mem_append_left _ (List.mem_append_left _ (List.mem_append_right _ hw)))))) thg_IA hE.2.1.1 hE.2.1.2 hS (by rw [hml]; exact hl.1) dX1_event_37 dX1_event_40 dX1_event_41 dX1_event_44 dX1_event_47 (fun x hx9 => (hnt x hx9).elim) (Nat.le_of_ble_eq_true rfl) (Nat.le_of_ble_eq_true rfl) (Nat.le_of_ble_eq_true rfl) (Nat.le_of_ble_eq_true rfl) hlocks (fun t hvm hz hk => ⟨(), trivial, ⟨(by rw [e0]), hP.kept (fun k9 q9 hq9 => hk q9.1 (hP k9 q9 hq9).lt), hD⟩, zx_F hS hz hk⟩) hS.2.2 (Nat.le_of_ble_eq_true rfl) (Nat.le_of_ble_eq_true rfl)
  · have e0 : f_X1_event (HEI la ea oL oN oE oW k pw fa sa va) st x1 x2 x3 = (0, .error xIA) := by unfold f_X1_event; rw [if_pos c_1]
    have hP : va_P (dC, dI) vwCl [(ax, .inr (1, [.ref ab, .ref aw, .int wl, .double la, .double ea, .int (wk + nI (f_X1_event (HEI la ea oL oN oE oW k pw fa sa va) st x1 x2 x3).1), .int (fl + cFL (f_X1_event (HEI la ea oL oN oE oW k pw fa sa va) st x1 x2 x3).2)])), (ab, aQ 4 (cA 3) qf), (bb, .inr (0, [.int st, .double oL, .double oN, .double oE, .double oW, .int (nI k), .ref bp, .ref bf, .ref bs, .ref bv])), (bp, aI 12 (cA 0) pw), (bf, aD 12 (cA 1) fa), (bs, aD 12 (cA 1) sa), (bv, aD 12 (cA 1) va)] s.heap := by rw [e0]; simp only; rw [wk_0, cFL_IA, i0]; exact hP
    have hD : va_D A [(ax, .inr (1, [.ref ab, .ref aw, .int wl, .double la, .double ea, .int (wk + nI (f_X1_event (HEI la ea oL oN oE oW k pw fa sa va) st x1 x2 x3).1), .int (fl + cFL (f_X1_event (HEI la ea oL oN oE oW k pw fa sa va) st x1 x2 x3).2)])), (ab, aQ 4 (cA 3) qf), (bb, .inr (0, [.int st, .double oL, .double oN, .double oE, .double oW, .int (nI k), .ref bp, .ref bf, .ref bs, .ref bv])), (bp, aI 12 (cA 0) pw), (bf, aD 12 (cA 1) fa), (bs, aD 12 (cA 1) sa), (bv, aD 12 (cA 1) va)] := by rw [e0]; simp only; rw [wk_0, cFL_IA, i0]; exact hD
    obtain ⟨sa_24, hsa_24⟩ := hE.1.str (k := 276) (tx := "no such kind of event") (by decide +kernel)
    exact vx_throwSW (rest := []) hx hb hst hown thc_IA thf (hts (.classLink RX1 43 xIA) (by decide +kernel)) (hts (.initialized xIA) (by decide +kernel)) hsa_24 (tha_IA hE.1 (fun w hw => hts w (List.mem_cons_of_mem _ (List.mem_append_left _ (List.mem_append_left _ (List.mem_append_right _ hw)))))) thg_IA hE.2.1.1 hE.2.1.2 hS (by rw [hml]; exact hl.1) dX1_event_12 dX1_event_15 dX1_event_16 dX1_event_19 dX1_event_22 (fun x hx9 => (hnt x hx9).elim) (Nat.le_of_ble_eq_true rfl) (Nat.le_of_ble_eq_true rfl) (Nat.le_of_ble_eq_true rfl) (Nat.le_of_ble_eq_true rfl) hlocks (fun t hvm hz hk => ⟨(), trivial, ⟨(by rw [e0]), hP.kept (fun k9 q9 hq9 => hk q9.1 (hP k9 q9 hq9).lt), hD⟩, zx_F hS hz hk⟩) hS.2.2 (Nat.le_of_ble_eq_true rfl) (Nat.le_of_ble_eq_true rfl)
