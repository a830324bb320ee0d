abbrev c2 : UInt64 := 4611686018427387904
abbrev c1000 : UInt64 := 4652007308841189376
def lon_m (oL oN oW t : UInt64) : UInt64 := RED (FP.dsub (FP.dadd oL (FP.dmul oN t)) oW)
def lon_y (e x : UInt64) : UInt64 := FP.dadd (FP.dadd x (FP.dmul (FP.dmul e cDEG) (SIN x))) (FP.dmul (FP.dmul (FP.dmul (FP.dmul c05 e) e) cDEG) (SIN (FP.dmul c2 x)))
def lon_w (k : Nat) (pw : Nat → Int32) (fa sa va : Nat → UInt64) (t : UInt64) : UInt64 := FP.dadd (SUMP pw fa sa va 0 t k) (FP.dmul (FP.ddiv t c1000) (FP.dadd (SUMP pw fa sa va 1 t k) (FP.dmul (FP.ddiv t c1000) (SUMP pw fa sa va 2 t k))))
def lon_r (oE oW : UInt64) (k : Nat) (pw : Nat → Int32) (fa sa va : Nat → UInt64) (t x : UInt64) : UInt64 := RED (FP.dadd (FP.dadd (lon_y oE x) oW) (lon_w k pw fa sa va t))
/-- a body's longitude -/
def LON (oL oN oE oW : UInt64) (k : Nat) (pw : Nat → Int32) (fa sa va : Nat → UInt64) (t : UInt64) : Except String UInt64 := xb (ANOM oE (lon_m oL oN oW t)) (fun x => .ok (lon_r oE oW k pw fa sa va t x))
/-- its height, by its longitude -/
def HGT (la ea t l : UInt64) : UInt64 := FP.dadd (FP.dmul (COS la) (FP.dadd (FP.dmul (COS l) (COS (FP.dadd (SID t) ea))) (FP.dmul (FP.dmul (SIN l) 4606439163290984179) (SIN (FP.dadd (SID t) ea))))) (FP.dmul (SIN la) (FP.dmul (SIN l) 4600837336122831769))
def HEI (la ea oL oN oE oW : UInt64) (k : Nat) (pw : Nat → Int32) (fa sa va : Nat → UInt64) (t : UInt64) : Except String UInt64 := xb (LON oL oN oE oW k pw fa sa va t) (fun l => .ok (HGT la ea t l))
/-- an orbit within the document's ranges -/
def oOK (oL oN oE oW : UInt64) : Prop := fR oL (-386547056640) 386547056640 ∧ fR oN (-107374182400) 107374182400 ∧ fR oE 0 805306368 ∧ fR oW (-386547056640) 386547056640
set_option maxHeartbeats 4000000 in
set_option maxRecDepth 100000 in
theorem k_X1_longitudeOf (l : Launch) (hst : l.stackTraces = false) (dC : Nat → ClassId) (dI : Nat → Nat → Nat) (cA : Nat → ClassId) (tm tt sz : Nat) (ax ab aw : Nat) (wl : Int32) (la ea : UInt64) (wk fl : Int32) (bb bp bf bs bv : Nat) (st : Int32) (oL oN oE oW : UInt64) (k : Nat) (pw : Nat → Int32) (fa sa va : Nat → UInt64) (x2 : UInt64) (hO : oOK oL oN oE oW) (hT : tOK k fa sa va) (h0 : fR x2 (-2251799813685248) 2251799813685248) : vx_Met l yX1_longitudeOf wsX1_longitudeOf ({ frames := 7, cells := 1, slots := 6, locals := 112 }) (PcW dC dI cA tm tt sz [.ref ax, .ref bb, .double x2] [(ax, .inr (1, [.ref ab, .ref aw, .int wl, .double la, .double ea, .int wk, .int fl])), (bb, .inr (0, [.int st, .double oL, .double oN, .double oE, .double oW, .int (nI k), .ref bp, .ref bf, .ref bs, .ref bv])), (bp, aI 12 (cA 0) pw), (bf, aD 12 (cA 1) fa), (bs, aD 12 (cA 1) sa), (bv, aD 12 (cA 1) va)]) (va_Qd (fun r (_ : Unit) => LON oL oN oE oW k pw fa sa va x2 = .ok r) (fun _ t => WB dC dI (va_A [(ax, .inr (1, [.ref ab, .ref aw, .int wl, .double la, .double ea, .int wk, .int fl])), (bb, .inr (0, [.int st, .double oL, .double oN, .double oE, .double oW, .int (nI k), .ref bp, .ref bf, .ref bs, .ref bv])), (bp, aI 12 (cA 0) pw), (bf, aD 12 (cA 1) fa), (bs, aD 12 (cA 1) sa), (bv, aD 12 (cA 1) va)] sz) [(ax, .inr (1, [.ref ab, .ref aw, .int wl, .double la, .double ea, .int (wk + 1), .int fl])), (bb, .inr (0, [.int st, .double oL, .double oN, .double oE, .double oW, .int (nI k), .ref bp, .ref bf, .ref bs, .ref bv])), (bp, aI 12 (cA 0) pw), (bf, aD 12 (cA 1) fa), (bs, aD 12 (cA 1) sa), (bv, aD 12 (cA 1) va)] t) (va_A [(ax, .inr (1, [.ref ab, .ref aw, .int wl, .double la, .double ea, .int wk, .int fl])), (bb, .inr (0, [.int st, .double oL, .double oN, .double oE, .double oW, .int (nI k), .ref bp, .ref bf, .ref bs, .ref bv])), (bp, aI 12 (cA 0) pw), (bf, aD 12 (cA 1) fa), (bs, aD 12 (cA 1) sa), (bv, aD 12 (cA 1) va)] sz)) (vx_X (fun (_ : Unit) => True) (fun E _ t => LON oL oN oE oW k pw fa sa va x2 = .error E ∧ WB dC dI (va_A [(ax, .inr (1, [.ref ab, .ref aw, .int wl, .double la, .double ea, .int wk, .int fl])), (bb, .inr (0, [.int st, .double oL, .double oN, .double oE, .double oW, .int (nI k), .ref bp, .ref bf, .ref bs, .ref bv])), (bp, aI 12 (cA 0) pw), (bf, aD 12 (cA 1) fa), (bs, aD 12 (cA 1) sa), (bv, aD 12 (cA 1) va)] sz) [(ax, .inr (1, [.ref ab, .ref aw, .int wl, .double la, .double ea, .int (wk + 1), .int (fl + 1)])), (bb, .inr (0, [.int st, .double oL, .double oN, .double oE, .double oW, .int (nI k), .ref bp, .ref bf, .ref bs, .ref bv])), (bp, aI 12 (cA 0) pw), (bf, aD 12 (cA 1) fa), (bs, aD 12 (cA 1) sa), (bv, aD 12 (cA 1) va)] t) (va_A [(ax, .inr (1, [.ref ab, .ref aw, .int wl, .double la, .double ea, .int wk, .int fl])), (bb, .inr (0, [.int st, .double oL, .double oN, .double oE, .double oW, .int (nI k), .ref bp, .ref bf, .ref bs, .ref bv])), (bp, aI 12 (cA 0) pw), (bf, aD 12 (cA 1) fa), (bs, aD 12 (cA 1) sa), (bv, aD 12 (cA 1) va)] sz)) 1 6 (va_A [(ax, .inr (1, [.ref ab, .ref aw, .int wl, .double la, .double ea, .int wk, .int fl])), (bb, .inr (0, [.int st, .double oL, .double oN, .double oE, .double oW, .int (nI k), .ref bp, .ref bf, .ref bs, .ref bv])), (bp, aI 12 (cA 0) pw), (bf, aD 12 (cA 1) fa), (bs, aD 12 (cA 1) sa), (bv, aD 12 (cA 1) va)] sz) := by
  refine vx_ofW (cc := cX1_longitudeOf) (maxL := 14) (ret := (some .double)) (by decide) rfl ?_
  intro p e s m args below meth c s₁ B hml hnt hv
  obtain ⟨rfl, hsz, hP, hK, hD0, hE⟩ := hv
  subst hsz
  have hD := hD0.self (sz := s.heap.size)
  generalize hAe : va_A [(ax, .inr (1, [.ref ab, .ref aw, .int wl, .double la, .double ea, .int wk, .int fl])), (bb, .inr (0, [.int st, .double oL, .double oN, .double oE, .double oW, .int (nI k), .ref bp, .ref bf, .ref bs, .ref bv])), (bp, aI 12 (cA 0) pw), (bf, aD 12 (cA 1) fa), (bs, aD 12 (cA 1) sa), (bv, aD 12 (cA 1) va)] s.heap.size = A at hD hE ⊢
  have hA : ∀ q : Nat, s.heap.size ≤ q → A q := fun q h => by rw [← hAe]; exact Or.inr h
  have hS : va_S A s.heap s.heap [] := va_S.rf
  have hP : va_P (dC, dI) vwCl [(ax, .inr (1, [.ref ab, .ref aw, .int wl, .double la, .double ea, .int wk, .int fl])), (bb, .inr (0, [.int st, .double oL, .double oN, .double oE, .double oW, .int (nI k), .ref bp, .ref bf, .ref bs, .ref bv])), (bp, aI 12 (cA 0) pw), (bf, aD 12 (cA 1) fa), (bs, aD 12 (cA 1) sa), (bv, aD 12 (cA 1) va)] s.heap := hP
  have hx := B.exec
  have hb := B.bytes
  have hr := B.returns
  have hts := atoms_spec (ws := wsX1_longitudeOf) B.pre
  have hown : s.vm.findClass RX1 = some m.cls := findClass_of_methodNamed B.named
  have hlocks := B.notSynchronized
  have hl := lv_entry ([.ref ax, .ref bb, .double x2]) (n := 14) (Nat.le_of_ble_eq_true rfl)
  rw [lg_entry_eq]
  generalize (lg_sl ([.ref ax, .ref bb, .double x2]) ++ List.replicate (14 - (lg_sl ([.ref ax, .ref bb, .double x2])).length) Slot.unset).toArray = ls at hl ⊢
  have hl : lv_has ls 14 [(0, .ref ax), (1, .ref bb), (2, .double x2)] := hl
  have hin0 : ∀ w ∈ u_ws RX0 TX0 10, w ∈ wsX1_longitudeOf := by decide +kernel
  have hin1 : ∀ w ∈ u_ws RX1 TX1 7, w ∈ wsX1_longitudeOf := by decide +kernel
  refine lv_aload_n hx hb dX1_longitudeOf_0 rfl (lv_at hl 0 rfl) ?_
  refine lv_dup hx hb dX1_longitudeOf_1 rfl ?_
  refine va_get (D := (dC, dI)) (ci := 1) (v := .int wk) (C := RX1) (T := TX1) (N := 7) hx hb hts hin1 hown hK hP 0 rfl rfl 5 (by decide) (hts (.fieldLink RX1 31 "SkyAlmanac" "longitudesWorkedOut" "I") (by decide +kernel)) (fun _ h9 => h9) rfl dX1_longitudeOf_2 ?_
  refine lv_iconst (v := 1) hx hb dX1_longitudeOf_5 (by decide) ?_
  refine lv_iadd hx hb dX1_longitudeOf_6 ?_
  refine va_put (D := (dC, dI)) (ci := 1) (v := .int (wk + 1)) (ty := .int) (C := RX1) (T := TX1) (N := 7) hx hb hts hin1 tyX1 tyX1_ok nmX1 hown hK hP hD hS 0 rfl rfl 5 (by decide) (hts (.fieldLink RX1 31 "SkyAlmanac" "longitudesWorkedOut" "I") (by decide +kernel)) (fun _ h9 => h9) rfl (by decide +kernel) rfl rfl (Nat.le_of_ble_eq_true rfl) dX1_longitudeOf_7 (fun H locs hP hD hS => ?_)
  have hP : va_P (dC, dI) vwCl [(ax, .inr (1, [.ref ab, .ref aw, .int wl, .double la, .double ea, .int (wk + 1), .int fl])), (bb, .inr (0, [.int st, .double oL, .double oN, .double oE, .double oW, .int (nI k), .ref bp, .ref bf, .ref bs, .ref bv])), (bp, aI 12 (cA 0) pw), (bf, aD 12 (cA 1) fa), (bs, aD 12 (cA 1) sa), (bv, aD 12 (cA 1) va)] H := hP
  have hD : va_D A [(ax, .inr (1, [.ref ab, .ref aw, .int wl, .double la, .double ea, .int (wk + 1), .int fl])), (bb, .inr (0, [.int st, .double oL, .double oN, .double oE, .double oW, .int (nI k), .ref bp, .ref bf, .ref bs, .ref bv])), (bp, aI 12 (cA 0) pw), (bf, aD 12 (cA 1) fa), (bs, aD 12 (cA 1) sa), (bv, aD 12 (cA 1) va)] := hD
  refine lv_aload_n hx hb dX1_longitudeOf_10 rfl (lv_at hl 1 rfl) ?_
  refine va_getN (D := (dC, dI)) (ci := 0) (v := .double oE) (C := RX0) (T := TX0) (N := 10) hx hb hts hin0 hown hK hP 1 rfl rfl 3 (by decide) (va_Nw.use rfl (hE.1.1 (.fieldLinkNest RX1 167 "SkyAlmanac$Body" "orbitE" "D" "SkyAlmanac") (by decide +kernel))) (fun _ h9 => h9) rfl dX1_longitudeOf_11 ?_
  refine lv_dstore (lv' := [(4, .double oE), (0, .ref ax), (1, .ref bb), (2, .double x2)]) hx hb dX1_longitudeOf_14 hl (by decide) rfl (fun ls hl => ?_)
  refine lv_aload_n hx hb dX1_longitudeOf_16 rfl (lv_at hl 1 rfl) ?_
  refine lv_aload_n hx hb dX1_longitudeOf_17 rfl (lv_at hl 2 rfl) ?_
  refine lv_aload_n hx hb dX1_longitudeOf_18 rfl (lv_at hl 2 rfl) ?_
  refine va_getN (D := (dC, dI)) (ci := 0) (v := .double oL) (C := RX0) (T := TX0) (N := 10) hx hb hts hin0 hown hK hP 1 rfl rfl 1 (by decide) (va_Nw.use rfl (hE.1.1 (.fieldLinkNest RX1 161 "SkyAlmanac$Body" "orbitL" "D" "SkyAlmanac") (by decide +kernel))) (fun _ h9 => h9) rfl dX1_longitudeOf_19 ?_
  refine lv_aload_n hx hb dX1_longitudeOf_22 rfl (lv_at hl 2 rfl) ?_
  refine va_getN (D := (dC, dI)) (ci := 0) (v := .double oN) (C := RX0) (T := TX0) (N := 10) hx hb hts hin0 hown hK hP 1 rfl rfl 2 (by decide) (va_Nw.use rfl (hE.1.1 (.fieldLinkNest RX1 164 "SkyAlmanac$Body" "orbitN" "D" "SkyAlmanac") (by decide +kernel))) (fun _ h9 => h9) rfl dX1_longitudeOf_23 ?_
  refine lv_dload_n hx hb dX1_longitudeOf_26 rfl (lv_at hl 3 rfl) ?_
  have r_1 := fR_mul hO.2.1 h0 (-225179981368524800) 225179981368524800 (by decide) (by decide) rfl rfl
  refine lv_dmul hx hb dX1_longitudeOf_27 (fR_nn r_1) ?_
  have r_2 := fR_add hO.1 r_1 (-225180367915581440) 225180367915581440 (by decide) (by decide) rfl rfl
  refine lv_dadd hx hb dX1_longitudeOf_28 (fR_nn r_2) ?_
  refine lv_aload_n hx hb dX1_longitudeOf_29 rfl (lv_at hl 2 rfl) ?_
  refine va_getN (D := (dC, dI)) (ci := 0) (v := .double oW) (C := RX0) (T := TX0) (N := 10) hx hb hts hin0 hown hK hP 1 rfl rfl 4 (by decide) (va_Nw.use rfl (hE.1.1 (.fieldLinkNest RX1 170 "SkyAlmanac$Body" "orbitW" "D" "SkyAlmanac") (by decide +kernel))) (fun _ h9 => h9) rfl dX1_longitudeOf_30 ?_
  have r_3 := fR_sub r_2 hO.2.2.2 (-225180754462638080) 225180754462638080 (by decide) (by decide) rfl rfl
  refine lv_dsub hx hb dX1_longitudeOf_33 (fR_nn r_3) ?_
  refine vp_callSd (W.runS (As := [.double (FP.dsub (FP.dadd oL (FP.dmul oN x2)) oW)]) (rest := [.ref bb, .ref ax]) ⟨hx, hb, hml, hown, hts⟩ (k_X1_red l (FP.dsub (FP.dadd oL (FP.dmul oN x2)) oW) (fR_mono r_3 (by decide) (by decide))) (va_cwS 1 hts gX1_longitudeOf_X1_red rfl rfl rfl (by decide +kernel) ⟨Nat.le_of_ble_eq_true rfl, Nat.le_of_ble_eq_true rfl⟩) preEq rfl rfl hl.1 rfl (lv_room (Nat.le_of_ble_eq_true rfl)) dX1_longitudeOf_34 ⟨Nat.le_of_ble_eq_true rfl, Nat.le_of_ble_eq_true rfl⟩) (fun r hr9 => ?_)
  obtain rfl := hr9
  have r_4 := RED_R (fR_mono r_3 (by decide) (by decide))
  have hm_5 : fR (lon_m oL oN oW x2) 0 386547056640 := r_4
  have hPc := hP.sub (ws' := [(ax, .inr (1, [.ref ab, .ref aw, .int wl, .double la, .double ea, .int (wk + 1), .int fl])), (bb, .inr (0, [.int st, .double oL, .double oN, .double oE, .double oW, .int (nI k), .ref bp, .ref bf, .ref bs, .ref bv]))]) [0, 1] rfl
  have hDc := hD.sub (ws' := [(ax, .inr (1, [.ref ab, .ref aw, .int wl, .double la, .double ea, .int (wk + 1), .int fl])), (bb, .inr (0, [.int st, .double oL, .double oN, .double oE, .double oW, .int (nI k), .ref bp, .ref bf, .ref bs, .ref bv]))]) [0, 1] (by decide) rfl
  have hFc := va_free (wc := [(ax, .inr (1, [.ref ab, .ref aw, .int wl, .double la, .double ea, .int (wk + 1), .int fl])), (bb, .inr (0, [.int st, .double oL, .double oN, .double oE, .double oW, .int (nI k), .ref bp, .ref bf, .ref bs, .ref bv]))]) hD hS hA [0, 1] rfl
  refine vx_calld (vx_runV (As := [.ref bb, .double (lon_m oL oN oW x2)]) (rest := []) ⟨hx, hb, hml, hown, hts⟩ (k_X1_anomalyOf l hst dC dI cA tm tt _ ax ab aw wl la ea (wk + 1) fl bb bp bf bs bv st oL oN oE oW k (lon_m oL oN oW x2) hO.2.2.1 hm_5) (cwV 2 hts gX1_longitudeOf_X1_anomalyOf rfl rfl rfl (by decide +kernel) ⟨Nat.le_of_ble_eq_true rfl, Nat.le_of_ble_eq_true rfl⟩) ⟨PcW.blind, va_recv hK hPc (ci := 1) (q0 := 0) rfl rfl, PcW.give hPc hK hDc hE hS hFc⟩ rfl rfl hl.1 rfl (lv_room (Nat.le_of_ble_eq_true rfl)) dX1_longitudeOf_37 ⟨Nat.le_of_ble_eq_true rfl, Nat.le_of_ble_eq_true rfl⟩) hS (fun q _ h => hFc q h) hFc (fun q _ h => hFc q h) (fun E ce q9 u t H locs ht hvm hpx hBX hz1 hk1 hS hce hcv hcl => ?_) (fun v_6 u t H locs ht hvm hp_7 hB hz1 hk1 hS => ?_)
  · obtain ⟨hpx, hP1, hD1⟩ := hBX
    rw [ht] at hP1
    obtain ⟨hP, hD⟩ := va_join (wr := [(bp, aI 12 (cA 0) pw), (bf, aD 12 (cA 1) fa), (bs, aD 12 (cA 1) sa), (bv, aD 12 (cA 1) va)]) (w1 := [(ax, .inr (1, [.ref ab, .ref aw, .int wl, .double la, .double ea, .int (wk + 1), .int (fl + 1)])), (bb, .inr (0, [.int st, .double oL, .double oN, .double oE, .double oW, .int (nI k), .ref bp, .ref bf, .ref bs, .ref bv]))]) hP hD [0, 1] [2, 3, 4, 5] rfl rfl (by decide) (by decide) hk1 hFc hP1 hD1
    have hP := hP.sub (ws' := [(ax, .inr (1, [.ref ab, .ref aw, .int wl, .double la, .double ea, .int (wk + 1), .int (fl + 1)])), (bb, .inr (0, [.int st, .double oL, .double oN, .double oE, .double oW, .int (nI k), .ref bp, .ref bf, .ref bs, .ref bv])), (bp, aI 12 (cA 0) pw), (bf, aD 12 (cA 1) fa), (bs, aD 12 (cA 1) sa), (bv, aD 12 (cA 1) va)]) [4, 5, 0, 1, 2, 3] rfl
    have hD := hD.sub (ws' := [(ax, .inr (1, [.ref ab, .ref aw, .int wl, .double la, .double ea, .int (wk + 1), .int (fl + 1)])), (bb, .inr (0, [.int st, .double oL, .double oN, .double oE, .double oW, .int (nI k), .ref bp, .ref bf, .ref bs, .ref bv])), (bp, aI 12 (cA 0) pw), (bf, aD 12 (cA 1) fa), (bs, aD 12 (cA 1) sa), (bv, aD 12 (cA 1) va)]) [4, 5, 0, 1, 2, 3] (by decide) rfl
    exact vx_out (fun x hx9 => (hnt x hx9).elim) hlocks hce hcv hcl (fun t ht hvm => ⟨(), trivial, ⟨(by unfold LON; rw [xb_err hpx] <;> rfl), by rw [ht]; exact hP, hD⟩, hS.F ht⟩) hS.2.2 (Nat.le_of_ble_eq_true rfl) (Nat.le_of_ble_eq_true rfl)
  · obtain ⟨hP1, hD1⟩ := hB
    rw [ht] at hP1
    obtain ⟨hP, hD⟩ := va_join (wr := [(bp, aI 12 (cA 0) pw), (bf, aD 12 (cA 1) fa), (bs, aD 12 (cA 1) sa), (bv, aD 12 (cA 1) va)]) (w1 := [(ax, .inr (1, [.ref ab, .ref aw, .int wl, .double la, .double ea, .int (wk + 1), .int fl])), (bb, .inr (0, [.int st, .double oL, .double oN, .double oE, .double oW, .int (nI k), .ref bp, .ref bf, .ref bs, .ref bv]))]) hP hD [0, 1] [2, 3, 4, 5] rfl rfl (by decide) (by decide) hk1 hFc hP1 hD1
    have hP := hP.sub (ws' := [(ax, .inr (1, [.ref ab, .ref aw, .int wl, .double la, .double ea, .int (wk + 1), .int fl])), (bb, .inr (0, [.int st, .double oL, .double oN, .double oE, .double oW, .int (nI k), .ref bp, .ref bf, .ref bs, .ref bv])), (bp, aI 12 (cA 0) pw), (bf, aD 12 (cA 1) fa), (bs, aD 12 (cA 1) sa), (bv, aD 12 (cA 1) va)]) [4, 5, 0, 1, 2, 3] rfl
    have hD := hD.sub (ws' := [(ax, .inr (1, [.ref ab, .ref aw, .int wl, .double la, .double ea, .int (wk + 1), .int fl])), (bb, .inr (0, [.int st, .double oL, .double oN, .double oE, .double oW, .int (nI k), .ref bp, .ref bf, .ref bs, .ref bv])), (bp, aI 12 (cA 0) pw), (bf, aD 12 (cA 1) fa), (bs, aD 12 (cA 1) sa), (bv, aD 12 (cA 1) va)]) [4, 5, 0, 1, 2, 3] (by decide) rfl
    have r_8 := ANOM_R hO.2.2.1 hm_5 hp_7
    refine lv_dstore (lv' := [(6, .double v_6), (4, .double oE), (0, .ref ax), (1, .ref bb), (2, .double x2)]) hx hb dX1_longitudeOf_40 hl (by decide) rfl (fun ls hl => ?_)
    refine lv_dload hx hb dX1_longitudeOf_42 (lv_at hl 0 rfl) ?_
    refine lv_dload hx hb dX1_longitudeOf_44 (lv_at hl 1 rfl) ?_
    refine vp_callSd (W.runS (As := []) (rest := [.double oE, .double v_6]) ⟨hx, hb, hml, hown, hts⟩ (k_X1_degreesInRadian l ) (va_cwS 0 hts gX1_longitudeOf_X1_degreesInRadian rfl rfl rfl (by decide +kernel) ⟨Nat.le_of_ble_eq_true rfl, Nat.le_of_ble_eq_true rfl⟩) preEq rfl rfl hl.1 rfl (lv_room (Nat.le_of_ble_eq_true rfl)) dX1_longitudeOf_46 ⟨Nat.le_of_ble_eq_true rfl, Nat.le_of_ble_eq_true rfl⟩) (fun r hr9 => ?_)
    obtain rfl := hr9
    have r_9 : fR f_X1_degreesInRadian 61520874801 61520874802 := fR_lit (by decide +kernel)
    have r_10 := fR_mul hO.2.2.1 r_9 0 46140656102 (by decide) (by decide) rfl rfl
    refine lv_dmul hx hb dX1_longitudeOf_49 (fR_nn r_10) ?_
    refine lv_dload hx hb dX1_longitudeOf_50 (lv_at hl 0 rfl) ?_
    refine vp_callSd (W.runS (As := [.double v_6]) (rest := [.double (FP.dmul oE f_X1_degreesInRadian), .double v_6]) ⟨hx, hb, hml, hown, hts⟩ (k_X1_sine l v_6 (fR_mono r_8 (by decide) (by decide))) (va_cwS 1 hts gX1_longitudeOf_X1_sine rfl rfl rfl (by decide +kernel) ⟨Nat.le_of_ble_eq_true rfl, Nat.le_of_ble_eq_true rfl⟩) preEq rfl rfl hl.1 rfl (lv_room (Nat.le_of_ble_eq_true rfl)) dX1_longitudeOf_52 ⟨Nat.le_of_ble_eq_true rfl, Nat.le_of_ble_eq_true rfl⟩) (fun r hr9 => ?_)
    obtain rfl := hr9
    have r_11 := SIN_R (fR_mono r_8 (by decide) (by decide))
    have r_12 := fR_mul r_10 r_11 (-46140656102) 46140656102 (by decide) (by decide) rfl rfl
    refine lv_dmul hx hb dX1_longitudeOf_55 (fR_nn r_12) ?_
    have r_13 := fR_add r_8 r_12 (-270429820463750) 270429820463750 (by decide) (by decide) rfl rfl
    refine lv_dadd hx hb dX1_longitudeOf_56 (fR_nn r_13) ?_
    refine lv_ldc2d hx hb hown (hts (.constantDouble RX1 249 (4602678819172646912)) (by decide +kernel)) dX1_longitudeOf_57 ?_
    have r_14 : fR 4602678819172646912 536870912 536870912 := fR_lit (by decide +kernel)
    refine lv_dload hx hb dX1_longitudeOf_60 (lv_at hl 1 rfl) ?_
    have r_15 := fR_mul r_14 hO.2.2.1 0 402653184 (by decide) (by decide) rfl rfl
    refine lv_dmul hx hb dX1_longitudeOf_62 (fR_nn r_15) ?_
    refine lv_dload hx hb dX1_longitudeOf_63 (lv_at hl 1 rfl) ?_
    have r_16 := fR_mul r_15 hO.2.2.1 0 301989888 (by decide) (by decide) rfl rfl
    refine lv_dmul hx hb dX1_longitudeOf_65 (fR_nn r_16) ?_
    refine vp_callSd (W.runS (As := []) (rest := [.double (FP.dmul (FP.dmul 4602678819172646912 oE) oE), .double (FP.dadd v_6 (FP.dmul (FP.dmul oE f_X1_degreesInRadian) (SIN v_6)))]) ⟨hx, hb, hml, hown, hts⟩ (k_X1_degreesInRadian l ) (va_cwS 0 hts gX1_longitudeOf_X1_degreesInRadian rfl rfl rfl (by decide +kernel) ⟨Nat.le_of_ble_eq_true rfl, Nat.le_of_ble_eq_true rfl⟩) preEq rfl rfl hl.1 rfl (lv_room (Nat.le_of_ble_eq_true rfl)) dX1_longitudeOf_66 ⟨Nat.le_of_ble_eq_true rfl, Nat.le_of_ble_eq_true rfl⟩) (fun r hr9 => ?_)
    obtain rfl := hr9
    have r_17 : fR f_X1_degreesInRadian 61520874801 61520874802 := fR_lit (by decide +kernel)
    have r_18 := fR_mul r_16 r_17 0 17302746039 (by decide) (by decide) rfl rfl
    refine lv_dmul hx hb dX1_longitudeOf_69 (fR_nn r_18) ?_
    refine lv_ldc2d hx hb hown (hts (.constantDouble RX1 251 (4611686018427387904)) (by decide +kernel)) dX1_longitudeOf_70 ?_
    have r_19 : fR 4611686018427387904 2147483648 2147483648 := fR_lit (by decide +kernel)
    refine lv_dload hx hb dX1_longitudeOf_73 (lv_at hl 0 rfl) ?_
    have r_20 := fR_mul r_19 r_8 (-540767359615296) 540767359615296 (by decide) (by decide) rfl rfl
    refine lv_dmul hx hb dX1_longitudeOf_75 (fR_nn r_20) ?_
    refine vp_callSd (W.runS (As := [.double (FP.dmul 4611686018427387904 v_6)]) (rest := [.double (FP.dmul (FP.dmul (FP.dmul 4602678819172646912 oE) oE) f_X1_degreesInRadian), .double (FP.dadd v_6 (FP.dmul (FP.dmul oE f_X1_degreesInRadian) (SIN v_6)))]) ⟨hx, hb, hml, hown, hts⟩ (k_X1_sine l (FP.dmul 4611686018427387904 v_6) (fR_mono r_20 (by decide) (by decide))) (va_cwS 1 hts gX1_longitudeOf_X1_sine rfl rfl rfl (by decide +kernel) ⟨Nat.le_of_ble_eq_true rfl, Nat.le_of_ble_eq_true rfl⟩) preEq rfl rfl hl.1 rfl (lv_room (Nat.le_of_ble_eq_true rfl)) dX1_longitudeOf_76 ⟨Nat.le_of_ble_eq_true rfl, Nat.le_of_ble_eq_true rfl⟩) (fun r hr9 => ?_)
    obtain rfl := hr9
    have r_21 := SIN_R (fR_mono r_20 (by decide) (by decide))
    have r_22 := fR_mul r_18 r_21 (-17302746039) 17302746039 (by decide) (by decide) rfl rfl
    refine lv_dmul hx hb dX1_longitudeOf_79 (fR_nn r_22) ?_
    have r_23 := fR_add r_13 r_22 (-270447123209789) 270447123209789 (by decide) (by decide) rfl rfl
    refine lv_dadd hx hb dX1_longitudeOf_80 (fR_nn r_23) ?_
    refine lv_dstore (lv' := [(8, .double (lon_y oE v_6)), (6, .double v_6), (4, .double oE), (0, .ref ax), (1, .ref bb), (2, .double x2)]) hx hb dX1_longitudeOf_81 hl (by decide) rfl (fun ls hl => ?_)
    refine lv_dload_n hx hb dX1_longitudeOf_83 rfl (lv_at hl 5 rfl) ?_
    refine lv_ldc2d hx hb hown (hts (.constantDouble RX1 253 (4652007308841189376)) (by decide +kernel)) dX1_longitudeOf_84 ?_
    have r_24 : fR 4652007308841189376 1073741824000 1073741824000 := fR_lit (by decide +kernel)
    have r_25 := fR_div h0 r_24 (by decide) (-2251799813686) 2251799813686 (by decide) (by decide) rfl rfl
    refine lv_ddiv hx hb dX1_longitudeOf_87 (fR_nn r_25) ?_
    refine lv_dstore (lv' := [(10, .double (FP.ddiv x2 4652007308841189376)), (8, .double (lon_y oE v_6)), (6, .double v_6), (4, .double oE), (0, .ref ax), (1, .ref bb), (2, .double x2)]) hx hb dX1_longitudeOf_88 hl (by decide) rfl (fun ls hl => ?_)
    refine lv_aload_n hx hb dX1_longitudeOf_90 rfl (lv_at hl 5 rfl) ?_
    refine lv_iconst (v := 0) hx hb dX1_longitudeOf_91 (by decide) ?_
    refine lv_dload_n hx hb dX1_longitudeOf_92 rfl (lv_at hl 6 rfl) ?_
    have hPc := hP.sub (ws' := [(bb, .inr (0, [.int st, .double oL, .double oN, .double oE, .double oW, .int (nI k), .ref bp, .ref bf, .ref bs, .ref bv])), (bp, aI 12 (cA 0) pw), (bf, aD 12 (cA 1) fa), (bs, aD 12 (cA 1) sa), (bv, aD 12 (cA 1) va)]) [1, 2, 3, 4, 5] rfl
    refine vp_callSd (va_Run.run (va_runVN (As := [.int 0, .double x2]) (rest := []) ⟨hx, hb, hml, hown, hts⟩ (k_X0_sumOfPower l dC dI cA tm tt bb bp bf bs bv st oL oN oE oW k pw fa sa va 0 x2 h0 hT) ⟨va_cnB 2 hts gX1_longitudeOf_X0_sumOfPower_n255 rfl rfl rfl (hE.1.2.1 (RX1, 255, yX0_sumOfPower) (by decide +kernel)) (hts (.initialized RX0) (by decide +kernel)) (by decide +kernel) ⟨Nat.le_of_ble_eq_true rfl, Nat.le_of_ble_eq_true rfl⟩, hts (.instanceMethod yX0_sumOfPower) (by decide +kernel), hts (.selects RX0 yX0_sumOfPower yX0_sumOfPower) (by decide +kernel)⟩ ⟨PcO.blind, va_recv hK hPc (ci := 0) (q0 := 0) rfl rfl, PcO.give hPc hK hE hS⟩ rfl rfl hl.1 rfl (lv_room (Nat.le_of_ble_eq_true rfl)) dX1_longitudeOf_93 ⟨Nat.le_of_ble_eq_true rfl, Nat.le_of_ble_eq_true rfl⟩)) (fun r hr9 => ?_)
    obtain rfl := hr9
    have r_26 : fR (SUMP pw fa sa va 0 x2 k) (-128849018880) 128849018880 := by
      have hk9 := hT.1
      exact fR_mono (SUMP_R h0 hT k (Nat.le_refl k)) (by omega) (by omega)
    refine lv_dload hx hb dX1_longitudeOf_96 (lv_at hl 0 rfl) ?_
    refine lv_aload_n hx hb dX1_longitudeOf_98 rfl (lv_at hl 5 rfl) ?_
    refine lv_iconst (v := 1) hx hb dX1_longitudeOf_99 (by decide) ?_
    refine lv_dload_n hx hb dX1_longitudeOf_100 rfl (lv_at hl 6 rfl) ?_
    have hPc := hP.sub (ws' := [(bb, .inr (0, [.int st, .double oL, .double oN, .double oE, .double oW, .int (nI k), .ref bp, .ref bf, .ref bs, .ref bv])), (bp, aI 12 (cA 0) pw), (bf, aD 12 (cA 1) fa), (bs, aD 12 (cA 1) sa), (bv, aD 12 (cA 1) va)]) [1, 2, 3, 4, 5] rfl
    refine vp_callSd (va_Run.run (va_runVN (As := [.int 1, .double x2]) (rest := [.double (FP.ddiv x2 4652007308841189376), .double (SUMP pw fa sa va 0 x2 k)]) ⟨hx, hb, hml, hown, hts⟩ (k_X0_sumOfPower l dC dI cA tm tt bb bp bf bs bv st oL oN oE oW k pw fa sa va 1 x2 h0 hT) ⟨va_cnB 2 hts gX1_longitudeOf_X0_sumOfPower_n255 rfl rfl rfl (hE.1.2.1 (RX1, 255, yX0_sumOfPower) (by decide +kernel)) (hts (.initialized RX0) (by decide +kernel)) (by decide +kernel) ⟨Nat.le_of_ble_eq_true rfl, Nat.le_of_ble_eq_true rfl⟩, hts (.instanceMethod yX0_sumOfPower) (by decide +kernel), hts (.selects RX0 yX0_sumOfPower yX0_sumOfPower) (by decide +kernel)⟩ ⟨PcO.blind, va_recv hK hPc (ci := 0) (q0 := 0) rfl rfl, PcO.give hPc hK hE hS⟩ rfl rfl hl.1 rfl (lv_room (Nat.le_of_ble_eq_true rfl)) dX1_longitudeOf_101 ⟨Nat.le_of_ble_eq_true rfl, Nat.le_of_ble_eq_true rfl⟩)) (fun r hr9 => ?_)
    obtain rfl := hr9
    have r_27 : fR (SUMP pw fa sa va 1 x2 k) (-128849018880) 128849018880 := by
      have hk9 := hT.1
      exact fR_mono (SUMP_R h0 hT k (Nat.le_refl k)) (by omega) (by omega)
    refine lv_dload hx hb dX1_longitudeOf_104 (lv_at hl 0 rfl) ?_
    refine lv_aload_n hx hb dX1_longitudeOf_106 rfl (lv_at hl 5 rfl) ?_
    refine lv_iconst (v := 2) hx hb dX1_longitudeOf_107 (by decide) ?_
    refine lv_dload_n hx hb dX1_longitudeOf_108 rfl (lv_at hl 6 rfl) ?_
    have hPc := hP.sub (ws' := [(bb, .inr (0, [.int st, .double oL, .double oN, .double oE, .double oW, .int (nI k), .ref bp, .ref bf, .ref bs, .ref bv])), (bp, aI 12 (cA 0) pw), (bf, aD 12 (cA 1) fa), (bs, aD 12 (cA 1) sa), (bv, aD 12 (cA 1) va)]) [1, 2, 3, 4, 5] rfl
    refine vp_callSd (va_Run.run (va_runVN (As := [.int 2, .double x2]) (rest := [.double (FP.ddiv x2 4652007308841189376), .double (SUMP pw fa sa va 1 x2 k), .double (FP.ddiv x2 4652007308841189376), .double (SUMP pw fa sa va 0 x2 k)]) ⟨hx, hb, hml, hown, hts⟩ (k_X0_sumOfPower l dC dI cA tm tt bb bp bf bs bv st oL oN oE oW k pw fa sa va 2 x2 h0 hT) ⟨va_cnB 2 hts gX1_longitudeOf_X0_sumOfPower_n255 rfl rfl rfl (hE.1.2.1 (RX1, 255, yX0_sumOfPower) (by decide +kernel)) (hts (.initialized RX0) (by decide +kernel)) (by decide +kernel) ⟨Nat.le_of_ble_eq_true rfl, Nat.le_of_ble_eq_true rfl⟩, hts (.instanceMethod yX0_sumOfPower) (by decide +kernel), hts (.selects RX0 yX0_sumOfPower yX0_sumOfPower) (by decide +kernel)⟩ ⟨PcO.blind, va_recv hK hPc (ci := 0) (q0 := 0) rfl rfl, PcO.give hPc hK hE hS⟩ rfl rfl hl.1 rfl (lv_room (Nat.le_of_ble_eq_true rfl)) dX1_longitudeOf_109 ⟨Nat.le_of_ble_eq_true rfl, Nat.le_of_ble_eq_true rfl⟩)) (fun r hr9 => ?_)
    obtain rfl := hr9
    have r_28 : fR (SUMP pw fa sa va 2 x2 k) (-128849018880) 128849018880 := by
      have hk9 := hT.1
      exact fR_mono (SUMP_R h0 hT k (Nat.le_refl k)) (by omega) (by omega)
    have r_29 := fR_mul r_25 r_28 (-270215977642320) 270215977642320 (by decide) (by decide) rfl rfl
    refine lv_dmul hx hb dX1_longitudeOf_112 (fR_nn r_29) ?_
    have r_30 := fR_add r_27 r_29 (-270344826661200) 270344826661200 (by decide) (by decide) rfl rfl
    refine lv_dadd hx hb dX1_longitudeOf_113 (fR_nn r_30) ?_
    have r_31 := fR_mul r_25 r_30 (-566954194381045760) 566954194381045760 (by decide) (by decide) rfl rfl
    refine lv_dmul hx hb dX1_longitudeOf_114 (fR_nn r_31) ?_
    have r_32 := fR_add r_26 r_31 (-566954323230064640) 566954323230064640 (by decide) (by decide) rfl rfl
    refine lv_dadd hx hb dX1_longitudeOf_115 (fR_nn r_32) ?_
    refine lv_dstore (lv' := [(12, .double (lon_w k pw fa sa va x2)), (10, .double (FP.ddiv x2 4652007308841189376)), (8, .double (lon_y oE v_6)), (6, .double v_6), (4, .double oE), (0, .ref ax), (1, .ref bb), (2, .double x2)]) hx hb dX1_longitudeOf_116 hl (by decide) rfl (fun ls hl => ?_)
    refine lv_dload hx hb dX1_longitudeOf_118 (lv_at hl 2 rfl) ?_
    refine lv_aload_n hx hb dX1_longitudeOf_120 rfl (lv_at hl 6 rfl) ?_
    refine va_getN (D := (dC, dI)) (ci := 0) (v := .double oW) (C := RX0) (T := TX0) (N := 10) hx hb hts hin0 hown hK hP 1 rfl rfl 4 (by decide) (va_Nw.use rfl (hE.1.1 (.fieldLinkNest RX1 170 "SkyAlmanac$Body" "orbitW" "D" "SkyAlmanac") (by decide +kernel))) (fun _ h9 => h9) rfl dX1_longitudeOf_121 ?_
    have r_33 := fR_add r_23 hO.2.2.2 (-270833670266429) 270833670266429 (by decide) (by decide) rfl rfl
    refine lv_dadd hx hb dX1_longitudeOf_124 (fR_nn r_33) ?_
    refine lv_dload hx hb dX1_longitudeOf_125 (lv_at hl 0 rfl) ?_
    have r_34 := fR_add r_33 r_32 (-567225157425299456) 567225157425299456 (by decide) (by decide) rfl rfl
    refine lv_dadd hx hb dX1_longitudeOf_127 (fR_nn r_34) ?_
    refine vp_callSd (W.runS (As := [.double (FP.dadd (FP.dadd (lon_y oE v_6) oW) (lon_w k pw fa sa va x2))]) (rest := []) ⟨hx, hb, hml, hown, hts⟩ (k_X1_red l (FP.dadd (FP.dadd (lon_y oE v_6) oW) (lon_w k pw fa sa va x2)) (fR_mono r_34 (by decide) (by decide))) (va_cwS 1 hts gX1_longitudeOf_X1_red rfl rfl rfl (by decide +kernel) ⟨Nat.le_of_ble_eq_true rfl, Nat.le_of_ble_eq_true rfl⟩) preEq rfl rfl hl.1 rfl (lv_room (Nat.le_of_ble_eq_true rfl)) dX1_longitudeOf_128 ⟨Nat.le_of_ble_eq_true rfl, Nat.le_of_ble_eq_true rfl⟩) (fun r hr9 => ?_)
    obtain rfl := hr9
    have r_35 := RED_R (fR_mono r_34 (by decide) (by decide))
    exact vx_ret (W.dret hx hb hr (fun t ht hW => ⟨⟨_, (), rfl, (by unfold LON; rw [xb_ok hp_7] <;> rfl), ⟨by rw [ht]; exact hP, hD⟩⟩, hS.F ht⟩) hS.2.2 dX1_longitudeOf_131)

theorem LON_R {oL oN oE oW : UInt64} {k : Nat} {pw : Nat → Int32} {fa sa va : Nat → UInt64} {t r : UInt64} (hr : LON oL oN oE oW k pw fa sa va t = .ok r) (h : ∀ x, ANOM oE (lon_m oL oN oW t) = .ok x → fR (FP.dadd (FP.dadd (lon_y oE x) oW) (lon_w k pw fa sa va t)) (-1208925819614629174706176) 1208925819614629174706176) : fR r 0 386547056640 := by
  unfold LON at hr
  cases hA : ANOM oE (lon_m oL oN oW t) with
  | error e => rw [xb_err hA] at hr; cases hr
  | ok x => rw [xb_ok hA] at hr; cases hr; exact RED_R (h x hA)
set_option maxRecDepth 100000 in
theorem lon_arg {oL oN oE oW x2 v_6 : UInt64} {k : Nat} {pw : Nat → Int32} {fa sa va : Nat → UInt64} (hO : oOK oL oN oE oW) (hT : tOK k fa sa va) (h0 : fR x2 (-2251799813685248) 2251799813685248) (hp_7 : ANOM oE (lon_m oL oN oW x2) = .ok v_6) : fR (FP.dadd (FP.dadd (lon_y oE v_6) oW) (lon_w k pw fa sa va x2)) (-1208925819614629174706176) 1208925819614629174706176 := by
  have r_1 := fR_mul hO.2.1 h0 (-225179981368524800) 225179981368524800 (by decide) (by decide) rfl rfl
  have r_2 := fR_add hO.1 r_1 (-225180367915581440) 225180367915581440 (by decide) (by decide) rfl rfl
  have r_3 := fR_sub r_2 hO.2.2.2 (-225180754462638080) 225180754462638080 (by decide) (by decide) rfl rfl
  have r_4 := RED_R (fR_mono r_3 (by decide) (by decide))
  have hm_5 : fR (lon_m oL oN oW x2) 0 386547056640 := r_4
  have r_8 := ANOM_R hO.2.2.1 hm_5 hp_7
  have r_9 : fR f_X1_degreesInRadian 61520874801 61520874802 := fR_lit (by decide +kernel)
  have r_10 := fR_mul hO.2.2.1 r_9 0 46140656102 (by decide) (by decide) rfl rfl
  have r_11 := SIN_R (fR_mono r_8 (by decide) (by decide))
  have r_12 := fR_mul r_10 r_11 (-46140656102) 46140656102 (by decide) (by decide) rfl rfl
  have r_13 := fR_add r_8 r_12 (-270429820463750) 270429820463750 (by decide) (by decide) rfl rfl
  have r_14 : fR 4602678819172646912 536870912 536870912 := fR_lit (by decide +kernel)
  have r_15 := fR_mul r_14 hO.2.2.1 0 402653184 (by decide) (by decide) rfl rfl
  have r_16 := fR_mul r_15 hO.2.2.1 0 301989888 (by decide) (by decide) rfl rfl
  have r_17 : fR f_X1_degreesInRadian 61520874801 61520874802 := fR_lit (by decide +kernel)
  have r_18 := fR_mul r_16 r_17 0 17302746039 (by decide) (by decide) rfl rfl
  have r_19 : fR 4611686018427387904 2147483648 2147483648 := fR_lit (by decide +kernel)
  have r_20 := fR_mul r_19 r_8 (-540767359615296) 540767359615296 (by decide) (by decide) rfl rfl
  have r_21 := SIN_R (fR_mono r_20 (by decide) (by decide))
  have r_22 := fR_mul r_18 r_21 (-17302746039) 17302746039 (by decide) (by decide) rfl rfl
  have r_23 := fR_add r_13 r_22 (-270447123209789) 270447123209789 (by decide) (by decide) rfl rfl
  have r_24 : fR 4652007308841189376 1073741824000 1073741824000 := fR_lit (by decide +kernel)
  have r_25 := fR_div h0 r_24 (by decide) (-2251799813686) 2251799813686 (by decide) (by decide) rfl rfl
  have r_26 : fR (SUMP pw fa sa va 0 x2 k) (-128849018880) 128849018880 := by
    have hk9 := hT.1
    exact fR_mono (SUMP_R h0 hT k (Nat.le_refl k)) (by omega) (by omega)
  have r_27 : fR (SUMP pw fa sa va 1 x2 k) (-128849018880) 128849018880 := by
    have hk9 := hT.1
    exact fR_mono (SUMP_R h0 hT k (Nat.le_refl k)) (by omega) (by omega)
  have r_28 : fR (SUMP pw fa sa va 2 x2 k) (-128849018880) 128849018880 := by
    have hk9 := hT.1
    exact fR_mono (SUMP_R h0 hT k (Nat.le_refl k)) (by omega) (by omega)
  have r_29 := fR_mul r_25 r_28 (-270215977642320) 270215977642320 (by decide) (by decide) rfl rfl
  have r_30 := fR_add r_27 r_29 (-270344826661200) 270344826661200 (by decide) (by decide) rfl rfl
  have r_31 := fR_mul r_25 r_30 (-566954194381045760) 566954194381045760 (by decide) (by decide) rfl rfl
  have r_32 := fR_add r_26 r_31 (-566954323230064640) 566954323230064640 (by decide) (by decide) rfl rfl
  have r_33 := fR_add r_23 hO.2.2.2 (-270833670266429) 270833670266429 (by decide) (by decide) rfl rfl
  have r_34 := fR_add r_33 r_32 (-567225157425299456) 567225157425299456 (by decide) (by decide) rfl rfl
  exact fR_mono r_34 (by decide) (by decide)
theorem LON_in {oL oN oE oW x2 r : UInt64} {k : Nat} {pw : Nat → Int32} {fa sa va : Nat → UInt64} (hO : oOK oL oN oE oW) (hT : tOK k fa sa va) (h0 : fR x2 (-2251799813685248) 2251799813685248) (hr : LON oL oN oE oW k pw fa sa va x2 = .ok r) : fR r 0 386547056640 := LON_R hr (fun x hx => lon_arg hO hT h0 hx)
set_option maxHeartbeats 4000000 in
set_option maxRecDepth 100000 in
theorem k_X1_heightOf (l : Launch) (hst : l.stackTraces = false) (dC : Nat → ClassId) (dI : Nat → Nat → Nat) (cA : Nat → ClassId) (tm tt sz : Nat) (ax ab aw : Nat) (wl : Int32) (la ea : UInt64) (wk fl : Int32) (bb bp bf bs bv : Nat) (st : Int32) (oL oN oE oW : UInt64) (k : Nat) (pw : Nat → Int32) (fa sa va : Nat → UInt64) (x2 : UInt64) (hO : oOK oL oN oE oW) (hT : tOK k fa sa va) (hla : fR la (-96636764160) 96636764160) (hea : fR ea (-193273528320) 193273528320) (h0 : fR x2 (-2251799813685248) 2251799813685248) : vx_Met l yX1_heightOf wsX1_heightOf ({ frames := 8, cells := 1, slots := 6, locals := 145 }) (PcW dC dI cA tm tt sz [.ref ax, .ref bb, .double x2] [(ax, .inr (1, [.ref ab, .ref aw, .int wl, .double la, .double ea, .int wk, .int fl])), (bb, .inr (0, [.int st, .double oL, .double oN, .double oE, .double oW, .int (nI k), .ref bp, .ref bf, .ref bs, .ref bv])), (bp, aI 12 (cA 0) pw), (bf, aD 12 (cA 1) fa), (bs, aD 12 (cA 1) sa), (bv, aD 12 (cA 1) va)]) (va_Qd (fun r (_ : Unit) => HEI la ea oL oN oE oW k pw fa sa va x2 = .ok r) (fun _ t => WB dC dI (va_A [(ax, .inr (1, [.ref ab, .ref aw, .int wl, .double la, .double ea, .int wk, .int fl])), (bb, .inr (0, [.int st, .double oL, .double oN, .double oE, .double oW, .int (nI k), .ref bp, .ref bf, .ref bs, .ref bv])), (bp, aI 12 (cA 0) pw), (bf, aD 12 (cA 1) fa), (bs, aD 12 (cA 1) sa), (bv, aD 12 (cA 1) va)] sz) [(ax, .inr (1, [.ref ab, .ref aw, .int wl, .double la, .double ea, .int (wk + 1), .int fl])), (bb, .inr (0, [.int st, .double oL, .double oN, .double oE, .double oW, .int (nI k), .ref bp, .ref bf, .ref bs, .ref bv])), (bp, aI 12 (cA 0) pw), (bf, aD 12 (cA 1) fa), (bs, aD 12 (cA 1) sa), (bv, aD 12 (cA 1) va)] t) (va_A [(ax, .inr (1, [.ref ab, .ref aw, .int wl, .double la, .double ea, .int wk, .int fl])), (bb, .inr (0, [.int st, .double oL, .double oN, .double oE, .double oW, .int (nI k), .ref bp, .ref bf, .ref bs, .ref bv])), (bp, aI 12 (cA 0) pw), (bf, aD 12 (cA 1) fa), (bs, aD 12 (cA 1) sa), (bv, aD 12 (cA 1) va)] sz)) (vx_X (fun (_ : Unit) => True) (fun E _ t => HEI la ea oL oN oE oW k pw fa sa va x2 = .error E ∧ WB dC dI (va_A [(ax, .inr (1, [.ref ab, .ref aw, .int wl, .double la, .double ea, .int wk, .int fl])), (bb, .inr (0, [.int st, .double oL, .double oN, .double oE, .double oW, .int (nI k), .ref bp, .ref bf, .ref bs, .ref bv])), (bp, aI 12 (cA 0) pw), (bf, aD 12 (cA 1) fa), (bs, aD 12 (cA 1) sa), (bv, aD 12 (cA 1) va)] sz) [(ax, .inr (1, [.ref ab, .ref aw, .int wl, .double la, .double ea, .int (wk + 1), .int (fl + 1)])), (bb, .inr (0, [.int st, .double oL, .double oN, .double oE, .double oW, .int (nI k), .ref bp, .ref bf, .ref bs, .ref bv])), (bp, aI 12 (cA 0) pw), (bf, aD 12 (cA 1) fa), (bs, aD 12 (cA 1) sa), (bv, aD 12 (cA 1) va)] t) (va_A [(ax, .inr (1, [.ref ab, .ref aw, .int wl, .double la, .double ea, .int wk, .int fl])), (bb, .inr (0, [.int st, .double oL, .double oN, .double oE, .double oW, .int (nI k), .ref bp, .ref bf, .ref bs, .ref bv])), (bp, aI 12 (cA 0) pw), (bf, aD 12 (cA 1) fa), (bs, aD 12 (cA 1) sa), (bv, aD 12 (cA 1) va)] sz)) 1 6 (va_A [(ax, .inr (1, [.ref ab, .ref aw, .int wl, .double la, .double ea, .int wk, .int fl])), (bb, .inr (0, [.int st, .double oL, .double oN, .double oE, .double oW, .int (nI k), .ref bp, .ref bf, .ref bs, .ref bv])), (bp, aI 12 (cA 0) pw), (bf, aD 12 (cA 1) fa), (bs, aD 12 (cA 1) sa), (bv, aD 12 (cA 1) va)] sz) := by
  refine vx_ofW (cc := cX1_heightOf) (maxL := 14) (ret := (some .double)) (by decide) rfl ?_
  intro p e s m args below meth c s₁ B hml hnt hv
  obtain ⟨rfl, hsz, hP, hK, hD0, hE⟩ := hv
  subst hsz
  have hD := hD0.self (sz := s.heap.size)
  generalize hAe : va_A [(ax, .inr (1, [.ref ab, .ref aw, .int wl, .double la, .double ea, .int wk, .int fl])), (bb, .inr (0, [.int st, .double oL, .double oN, .double oE, .double oW, .int (nI k), .ref bp, .ref bf, .ref bs, .ref bv])), (bp, aI 12 (cA 0) pw), (bf, aD 12 (cA 1) fa), (bs, aD 12 (cA 1) sa), (bv, aD 12 (cA 1) va)] s.heap.size = A at hD hE ⊢
  have hA : ∀ q : Nat, s.heap.size ≤ q → A q := fun q h => by rw [← hAe]; exact Or.inr h
  have hS : va_S A s.heap s.heap [] := va_S.rf
  have hP : va_P (dC, dI) vwCl [(ax, .inr (1, [.ref ab, .ref aw, .int wl, .double la, .double ea, .int wk, .int fl])), (bb, .inr (0, [.int st, .double oL, .double oN, .double oE, .double oW, .int (nI k), .ref bp, .ref bf, .ref bs, .ref bv])), (bp, aI 12 (cA 0) pw), (bf, aD 12 (cA 1) fa), (bs, aD 12 (cA 1) sa), (bv, aD 12 (cA 1) va)] s.heap := hP
  have hx := B.exec
  have hb := B.bytes
  have hr := B.returns
  have hts := atoms_spec (ws := wsX1_heightOf) B.pre
  have hown : s.vm.findClass RX1 = some m.cls := findClass_of_methodNamed B.named
  have hlocks := B.notSynchronized
  have hl := lv_entry ([.ref ax, .ref bb, .double x2]) (n := 14) (Nat.le_of_ble_eq_true rfl)
  rw [lg_entry_eq]
  generalize (lg_sl ([.ref ax, .ref bb, .double x2]) ++ List.replicate (14 - (lg_sl ([.ref ax, .ref bb, .double x2])).length) Slot.unset).toArray = ls at hl ⊢
  have hl : lv_has ls 14 [(0, .ref ax), (1, .ref bb), (2, .double x2)] := hl
  have hin1 : ∀ w ∈ u_ws RX1 TX1 7, w ∈ wsX1_heightOf := by decide +kernel
  refine lv_aload_n hx hb dX1_heightOf_0 rfl (lv_at hl 0 rfl) ?_
  refine lv_aload_n hx hb dX1_heightOf_1 rfl (lv_at hl 1 rfl) ?_
  refine lv_dload_n hx hb dX1_heightOf_2 rfl (lv_at hl 2 rfl) ?_
  have hPc := hP.sub (ws' := [(ax, .inr (1, [.ref ab, .ref aw, .int wl, .double la, .double ea, .int wk, .int fl])), (bb, .inr (0, [.int st, .double oL, .double oN, .double oE, .double oW, .int (nI k), .ref bp, .ref bf, .ref bs, .ref bv])), (bp, aI 12 (cA 0) pw), (bf, aD 12 (cA 1) fa), (bs, aD 12 (cA 1) sa), (bv, aD 12 (cA 1) va)]) [0, 1, 2, 3, 4, 5] rfl
  have hDc := hD.sub (ws' := [(ax, .inr (1, [.ref ab, .ref aw, .int wl, .double la, .double ea, .int wk, .int fl])), (bb, .inr (0, [.int st, .double oL, .double oN, .double oE, .double oW, .int (nI k), .ref bp, .ref bf, .ref bs, .ref bv])), (bp, aI 12 (cA 0) pw), (bf, aD 12 (cA 1) fa), (bs, aD 12 (cA 1) sa), (bv, aD 12 (cA 1) va)]) [0, 1, 2, 3, 4, 5] (by decide) rfl
  have hFc := va_free (wc := [(ax, .inr (1, [.ref ab, .ref aw, .int wl, .double la, .double ea, .int wk, .int fl])), (bb, .inr (0, [.int st, .double oL, .double oN, .double oE, .double oW, .int (nI k), .ref bp, .ref bf, .ref bs, .ref bv])), (bp, aI 12 (cA 0) pw), (bf, aD 12 (cA 1) fa), (bs, aD 12 (cA 1) sa), (bv, aD 12 (cA 1) va)]) hD hS hA [0, 1, 2, 3, 4, 5] rfl
  refine vx_calld (vx_runV (As := [.ref bb, .double x2]) (rest := []) ⟨hx, hb, hml, hown, hts⟩ (k_X1_longitudeOf l hst dC dI cA tm tt _ ax ab aw wl la ea wk fl bb bp bf bs bv st oL oN oE oW k pw fa sa va x2 hO hT h0) (cwV 2 hts gX1_heightOf_X1_longitudeOf rfl rfl rfl (by decide +kernel) ⟨Nat.le_of_ble_eq_true rfl, Nat.le_of_ble_eq_true rfl⟩) ⟨PcW.blind, va_recv hK hPc (ci := 1) (q0 := 0) rfl rfl, PcW.give hPc hK hDc hE hS hFc⟩ rfl rfl hl.1 rfl (lv_room (Nat.le_of_ble_eq_true rfl)) dX1_heightOf_3 ⟨Nat.le_of_ble_eq_true rfl, Nat.le_of_ble_eq_true rfl⟩) hS (fun q _ h => hFc q h) hFc (fun q _ h => hFc q h) (fun E ce q9 u t H locs ht hvm hpx hBX hz1 hk1 hS hce hcv hcl => ?_) (fun v_1 u t H locs ht hvm hp_2 hB hz1 hk1 hS => ?_)
  · obtain ⟨hpx, hP1, hD1⟩ := hBX
    rw [ht] at hP1
    obtain ⟨hP, hD⟩ := va_join (wr := []) (w1 := [(ax, .inr (1, [.ref ab, .ref aw, .int wl, .double la, .double ea, .int (wk + 1), .int (fl + 1)])), (bb, .inr (0, [.int st, .double oL, .double oN, .double oE, .double oW, .int (nI k), .ref bp, .ref bf, .ref bs, .ref bv])), (bp, aI 12 (cA 0) pw), (bf, aD 12 (cA 1) fa), (bs, aD 12 (cA 1) sa), (bv, aD 12 (cA 1) va)]) hP hD [0, 1, 2, 3, 4, 5] [] rfl rfl (by decide) (by decide) hk1 hFc hP1 hD1
    have hP := hP.sub (ws' := [(ax, .inr (1, [.ref ab, .ref aw, .int wl, .double la, .double ea, .int (wk + 1), .int (fl + 1)])), (bb, .inr (0, [.int st, .double oL, .double oN, .double oE, .double oW, .int (nI k), .ref bp, .ref bf, .ref bs, .ref bv])), (bp, aI 12 (cA 0) pw), (bf, aD 12 (cA 1) fa), (bs, aD 12 (cA 1) sa), (bv, aD 12 (cA 1) va)]) [0, 1, 2, 3, 4, 5] rfl
    have hD := hD.sub (ws' := [(ax, .inr (1, [.ref ab, .ref aw, .int wl, .double la, .double ea, .int (wk + 1), .int (fl + 1)])), (bb, .inr (0, [.int st, .double oL, .double oN, .double oE, .double oW, .int (nI k), .ref bp, .ref bf, .ref bs, .ref bv])), (bp, aI 12 (cA 0) pw), (bf, aD 12 (cA 1) fa), (bs, aD 12 (cA 1) sa), (bv, aD 12 (cA 1) va)]) [0, 1, 2, 3, 4, 5] (by decide) rfl
    exact vx_out (fun x hx9 => (hnt x hx9).elim) hlocks hce hcv hcl (fun t ht hvm => ⟨(), trivial, ⟨(by unfold HEI; rw [xb_err hpx] <;> rfl), by rw [ht]; exact hP, hD⟩, hS.F ht⟩) hS.2.2 (Nat.le_of_ble_eq_true rfl) (Nat.le_of_ble_eq_true rfl)
  · obtain ⟨hP1, hD1⟩ := hB
    rw [ht] at hP1
    obtain ⟨hP, hD⟩ := va_join (wr := []) (w1 := [(ax, .inr (1, [.ref ab, .ref aw, .int wl, .double la, .double ea, .int (wk + 1), .int fl])), (bb, .inr (0, [.int st, .double oL, .double oN, .double oE, .double oW, .int (nI k), .ref bp, .ref bf, .ref bs, .ref bv])), (bp, aI 12 (cA 0) pw), (bf, aD 12 (cA 1) fa), (bs, aD 12 (cA 1) sa), (bv, aD 12 (cA 1) va)]) hP hD [0, 1, 2, 3, 4, 5] [] rfl rfl (by decide) (by decide) hk1 hFc hP1 hD1
    have hP := hP.sub (ws' := [(ax, .inr (1, [.ref ab, .ref aw, .int wl, .double la, .double ea, .int (wk + 1), .int fl])), (bb, .inr (0, [.int st, .double oL, .double oN, .double oE, .double oW, .int (nI k), .ref bp, .ref bf, .ref bs, .ref bv])), (bp, aI 12 (cA 0) pw), (bf, aD 12 (cA 1) fa), (bs, aD 12 (cA 1) sa), (bv, aD 12 (cA 1) va)]) [0, 1, 2, 3, 4, 5] rfl
    have hD := hD.sub (ws' := [(ax, .inr (1, [.ref ab, .ref aw, .int wl, .double la, .double ea, .int (wk + 1), .int fl])), (bb, .inr (0, [.int st, .double oL, .double oN, .double oE, .double oW, .int (nI k), .ref bp, .ref bf, .ref bs, .ref bv])), (bp, aI 12 (cA 0) pw), (bf, aD 12 (cA 1) fa), (bs, aD 12 (cA 1) sa), (bv, aD 12 (cA 1) va)]) [0, 1, 2, 3, 4, 5] (by decide) rfl
    have r_3 := LON_in hO hT h0 hp_2
    refine lv_dstore (lv' := [(4, .double v_1), (0, .ref ax), (1, .ref bb), (2, .double x2)]) hx hb dX1_heightOf_6 hl (by decide) rfl (fun ls hl => ?_)
    refine lv_dload hx hb dX1_heightOf_8 (lv_at hl 0 rfl) ?_
    refine vp_callSd (W.runS (As := [.double v_1]) (rest := []) ⟨hx, hb, hml, hown, hts⟩ (k_X1_cosine l v_1 (fR_mono r_3 (by decide) (by decide))) (va_cwS 1 hts gX1_heightOf_X1_cosine rfl rfl rfl (by decide +kernel) ⟨Nat.le_of_ble_eq_true rfl, Nat.le_of_ble_eq_true rfl⟩) preEq rfl rfl hl.1 rfl (lv_room (Nat.le_of_ble_eq_true rfl)) dX1_heightOf_10 ⟨Nat.le_of_ble_eq_true rfl, Nat.le_of_ble_eq_true rfl⟩) (fun r hr9 => ?_)
    obtain rfl := hr9
    have r_4 := COS_R (fR_mono r_3 (by decide) (by decide))
    refine lv_dstore (lv' := [(6, .double (COS v_1)), (4, .double v_1), (0, .ref ax), (1, .ref bb), (2, .double x2)]) hx hb dX1_heightOf_13 hl (by decide) rfl (fun ls hl => ?_)
    refine lv_dload hx hb dX1_heightOf_15 (lv_at hl 1 rfl) ?_
    refine vp_callSd (W.runS (As := [.double v_1]) (rest := []) ⟨hx, hb, hml, hown, hts⟩ (k_X1_sine l v_1 (fR_mono r_3 (by decide) (by decide))) (va_cwS 1 hts gX1_heightOf_X1_sine rfl rfl rfl (by decide +kernel) ⟨Nat.le_of_ble_eq_true rfl, Nat.le_of_ble_eq_true rfl⟩) preEq rfl rfl hl.1 rfl (lv_room (Nat.le_of_ble_eq_true rfl)) dX1_heightOf_17 ⟨Nat.le_of_ble_eq_true rfl, Nat.le_of_ble_eq_true rfl⟩) (fun r hr9 => ?_)
    obtain rfl := hr9
    have r_5 := SIN_R (fR_mono r_3 (by decide) (by decide))
    refine lv_ldc2d hx hb hown (hts (.constantDouble RX1 268 (4606439163290984179)) (by decide +kernel)) dX1_heightOf_20 ?_
    have r_6 : fR 4606439163290984179 985138862 985138863 := fR_lit (by decide +kernel)
    have r_7 := fR_mul r_5 r_6 (-985138863) 985138863 (by decide) (by decide) rfl rfl
    refine lv_dmul hx hb dX1_heightOf_23 (fR_nn r_7) ?_
    refine lv_dstore (lv' := [(8, .double (FP.dmul (SIN v_1) 4606439163290984179)), (6, .double (COS v_1)), (4, .double v_1), (0, .ref ax), (1, .ref bb), (2, .double x2)]) hx hb dX1_heightOf_24 hl (by decide) rfl (fun ls hl => ?_)
    refine lv_dload hx hb dX1_heightOf_26 (lv_at hl 2 rfl) ?_
    refine vp_callSd (W.runS (As := [.double v_1]) (rest := []) ⟨hx, hb, hml, hown, hts⟩ (k_X1_sine l v_1 (fR_mono r_3 (by decide) (by decide))) (va_cwS 1 hts gX1_heightOf_X1_sine rfl rfl rfl (by decide +kernel) ⟨Nat.le_of_ble_eq_true rfl, Nat.le_of_ble_eq_true rfl⟩) preEq rfl rfl hl.1 rfl (lv_room (Nat.le_of_ble_eq_true rfl)) dX1_heightOf_28 ⟨Nat.le_of_ble_eq_true rfl, Nat.le_of_ble_eq_true rfl⟩) (fun r hr9 => ?_)
    obtain rfl := hr9
    have r_8 := SIN_R (fR_mono r_3 (by decide) (by decide))
    refine lv_ldc2d hx hb hown (hts (.constantDouble RX1 270 (4600837336122831769)) (by decide +kernel)) dX1_heightOf_31 ?_
    have r_9 : fR 4600837336122831769 427109968 427109969 := fR_lit (by decide +kernel)
    have r_10 := fR_mul r_8 r_9 (-427109969) 427109969 (by decide) (by decide) rfl rfl
    refine lv_dmul hx hb dX1_heightOf_34 (fR_nn r_10) ?_
    refine lv_dstore (lv' := [(10, .double (FP.dmul (SIN v_1) 4600837336122831769)), (8, .double (FP.dmul (SIN v_1) 4606439163290984179)), (6, .double (COS v_1)), (4, .double v_1), (0, .ref ax), (1, .ref bb), (2, .double x2)]) hx hb dX1_heightOf_35 hl (by decide) rfl (fun ls hl => ?_)
    refine lv_dload_n hx hb dX1_heightOf_37 rfl (lv_at hl 6 rfl) ?_
    refine vp_callSd (W.runS (As := [.double x2]) (rest := []) ⟨hx, hb, hml, hown, hts⟩ (k_X1_siderealAngle l x2 h0) (va_cwS 1 hts gX1_heightOf_X1_siderealAngle rfl rfl rfl (by decide +kernel) ⟨Nat.le_of_ble_eq_true rfl, Nat.le_of_ble_eq_true rfl⟩) preEq rfl rfl hl.1 rfl (lv_room (Nat.le_of_ble_eq_true rfl)) dX1_heightOf_38 ⟨Nat.le_of_ble_eq_true rfl, Nat.le_of_ble_eq_true rfl⟩) (fun r hr9 => ?_)
    obtain rfl := hr9
    have r_11 := SID_R h0
    refine lv_aload_n hx hb dX1_heightOf_41 rfl (lv_at hl 4 rfl) ?_
    refine va_get (D := (dC, dI)) (ci := 1) (v := .double ea) (C := RX1) (T := TX1) (N := 7) hx hb hts hin1 hown hK hP 0 rfl rfl 4 (by decide) (hts (.fieldLink RX1 28 "SkyAlmanac" "eastward" "D") (by decide +kernel)) (fun _ h9 => h9) rfl dX1_heightOf_42 ?_
    have r_12 := fR_add r_11 hea (-193273528320) 579820584960 (by decide) (by decide) rfl rfl
    refine lv_dadd hx hb dX1_heightOf_45 (fR_nn r_12) ?_
    refine lv_dstore (lv' := [(12, .double (FP.dadd (SID x2) ea)), (10, .double (FP.dmul (SIN v_1) 4600837336122831769)), (8, .double (FP.dmul (SIN v_1) 4606439163290984179)), (6, .double (COS v_1)), (4, .double v_1), (0, .ref ax), (1, .ref bb), (2, .double x2)]) hx hb dX1_heightOf_46 hl (by decide) rfl (fun ls hl => ?_)
    refine lv_aload_n hx hb dX1_heightOf_48 rfl (lv_at hl 5 rfl) ?_
    refine va_get (D := (dC, dI)) (ci := 1) (v := .double la) (C := RX1) (T := TX1) (N := 7) hx hb hts hin1 hown hK hP 0 rfl rfl 3 (by decide) (hts (.fieldLink RX1 24 "SkyAlmanac" "latitude" "D") (by decide +kernel)) (fun _ h9 => h9) rfl dX1_heightOf_49 ?_
    refine vp_callSd (W.runS (As := [.double la]) (rest := []) ⟨hx, hb, hml, hown, hts⟩ (k_X1_cosine l la (fR_mono hla (by decide) (by decide))) (va_cwS 1 hts gX1_heightOf_X1_cosine rfl rfl rfl (by decide +kernel) ⟨Nat.le_of_ble_eq_true rfl, Nat.le_of_ble_eq_true rfl⟩) preEq rfl rfl hl.1 rfl (lv_room (Nat.le_of_ble_eq_true rfl)) dX1_heightOf_52 ⟨Nat.le_of_ble_eq_true rfl, Nat.le_of_ble_eq_true rfl⟩) (fun r hr9 => ?_)
    obtain rfl := hr9
    have r_13 := COS_R (fR_mono hla (by decide) (by decide))
    refine lv_dload hx hb dX1_heightOf_55 (lv_at hl 3 rfl) ?_
    refine lv_dload hx hb dX1_heightOf_57 (lv_at hl 0 rfl) ?_
    refine vp_callSd (W.runS (As := [.double (FP.dadd (SID x2) ea)]) (rest := [.double (COS v_1), .double (COS la)]) ⟨hx, hb, hml, hown, hts⟩ (k_X1_cosine l (FP.dadd (SID x2) ea) (fR_mono r_12 (by decide) (by decide))) (va_cwS 1 hts gX1_heightOf_X1_cosine rfl rfl rfl (by decide +kernel) ⟨Nat.le_of_ble_eq_true rfl, Nat.le_of_ble_eq_true rfl⟩) preEq rfl rfl hl.1 rfl (lv_room (Nat.le_of_ble_eq_true rfl)) dX1_heightOf_59 ⟨Nat.le_of_ble_eq_true rfl, Nat.le_of_ble_eq_true rfl⟩) (fun r hr9 => ?_)
    obtain rfl := hr9
    have r_14 := COS_R (fR_mono r_12 (by decide) (by decide))
    have r_15 := fR_mul r_4 r_14 (-1073741824) 1073741824 (by decide) (by decide) rfl rfl
    refine lv_dmul hx hb dX1_heightOf_62 (fR_nn r_15) ?_
    refine lv_dload hx hb dX1_heightOf_63 (lv_at hl 2 rfl) ?_
    refine lv_dload hx hb dX1_heightOf_65 (lv_at hl 0 rfl) ?_
    refine vp_callSd (W.runS (As := [.double (FP.dadd (SID x2) ea)]) (rest := [.double (FP.dmul (SIN v_1) 4606439163290984179), .double (FP.dmul (COS v_1) (COS (FP.dadd (SID x2) ea))), .double (COS la)]) ⟨hx, hb, hml, hown, hts⟩ (k_X1_sine l (FP.dadd (SID x2) ea) (fR_mono r_12 (by decide) (by decide))) (va_cwS 1 hts gX1_heightOf_X1_sine rfl rfl rfl (by decide +kernel) ⟨Nat.le_of_ble_eq_true rfl, Nat.le_of_ble_eq_true rfl⟩) preEq rfl rfl hl.1 rfl (lv_room (Nat.le_of_ble_eq_true rfl)) dX1_heightOf_67 ⟨Nat.le_of_ble_eq_true rfl, Nat.le_of_ble_eq_true rfl⟩) (fun r hr9 => ?_)
    obtain rfl := hr9
    have r_16 := SIN_R (fR_mono r_12 (by decide) (by decide))
    have r_17 := fR_mul r_7 r_16 (-985138863) 985138863 (by decide) (by decide) rfl rfl
    refine lv_dmul hx hb dX1_heightOf_70 (fR_nn r_17) ?_
    have r_18 := fR_add r_15 r_17 (-2058880687) 2058880687 (by decide) (by decide) rfl rfl
    refine lv_dadd hx hb dX1_heightOf_71 (fR_nn r_18) ?_
    have r_19 := fR_mul r_13 r_18 (-2058880687) 2058880687 (by decide) (by decide) rfl rfl
    refine lv_dmul hx hb dX1_heightOf_72 (fR_nn r_19) ?_
    refine lv_aload_n hx hb dX1_heightOf_73 rfl (lv_at hl 5 rfl) ?_
    refine va_get (D := (dC, dI)) (ci := 1) (v := .double la) (C := RX1) (T := TX1) (N := 7) hx hb hts hin1 hown hK hP 0 rfl rfl 3 (by decide) (hts (.fieldLink RX1 24 "SkyAlmanac" "latitude" "D") (by decide +kernel)) (fun _ h9 => h9) rfl dX1_heightOf_74 ?_
    refine vp_callSd (W.runS (As := [.double la]) (rest := [.double (FP.dmul (COS la) (FP.dadd (FP.dmul (COS v_1) (COS (FP.dadd (SID x2) ea))) (FP.dmul (FP.dmul (SIN v_1) 4606439163290984179) (SIN (FP.dadd (SID x2) ea)))))]) ⟨hx, hb, hml, hown, hts⟩ (k_X1_sine l la (fR_mono hla (by decide) (by decide))) (va_cwS 1 hts gX1_heightOf_X1_sine rfl rfl rfl (by decide +kernel) ⟨Nat.le_of_ble_eq_true rfl, Nat.le_of_ble_eq_true rfl⟩) preEq rfl rfl hl.1 rfl (lv_room (Nat.le_of_ble_eq_true rfl)) dX1_heightOf_77 ⟨Nat.le_of_ble_eq_true rfl, Nat.le_of_ble_eq_true rfl⟩) (fun r hr9 => ?_)
    obtain rfl := hr9
    have r_20 := SIN_R (fR_mono hla (by decide) (by decide))
    refine lv_dload hx hb dX1_heightOf_80 (lv_at hl 1 rfl) ?_
    have r_21 := fR_mul r_20 r_10 (-427109969) 427109969 (by decide) (by decide) rfl rfl
    refine lv_dmul hx hb dX1_heightOf_82 (fR_nn r_21) ?_
    have r_22 := fR_add r_19 r_21 (-2485990656) 2485990656 (by decide) (by decide) rfl rfl
    refine lv_dadd hx hb dX1_heightOf_83 (fR_nn r_22) ?_
    exact vx_ret (W.dret hx hb hr (fun t ht hW => ⟨⟨_, (), rfl, (by unfold HEI; rw [xb_ok hp_2] <;> rfl), ⟨by rw [ht]; exact hP, hD⟩⟩, hS.F ht⟩) hS.2.2 dX1_heightOf_84)
