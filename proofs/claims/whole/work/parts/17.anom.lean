def xb {α β : Type} (x : Except String α) (f : α → Except String β) : Except String β := match x with
  | .ok a => f a
  | .error e => .error e
theorem xb_ok {α β : Type} {x : Except String α} {f : α → Except String β} {a : α} (h : x = .ok a) : xb x f = f a := by rw [h]; rfl
theorem xb_err {α β : Type} {x : Except String α} {f : α → Except String β} {e : String} (h : x = .error e) : xb x f = .error e := by rw [h]; rfl
abbrev cDEG : UInt64 := 4633260481411531256
def an_d (e m x : UInt64) : UInt64 := FP.ddiv (FP.dsub (FP.dsub x (FP.dmul (FP.dmul e cDEG) (SIN x))) m) (FP.dsub FP.dconst1 (FP.dmul e (COS x)))
def an_s (e m x : UInt64) : UInt64 := FP.dsub x (an_d e m x)
abbrev an_ok (e m x : UInt64) : Prop := dgt (an_d e m x) 13740701229962882445 ∧ dlt (an_d e m x) 4517329193108106637
def an_x1 (e m : UInt64) : UInt64 := an_s e m m
def an_x2 (e m : UInt64) : UInt64 := an_s e m (an_x1 e m)
def an_x3 (e m : UInt64) : UInt64 := an_s e m (an_x2 e m)
def an_x4 (e m : UInt64) : UInt64 := an_s e m (an_x3 e m)
def ANOM (e m : UInt64) : Except String UInt64 := if an_ok e m m then .ok (an_x1 e m) else if an_ok e m (an_x1 e m) then .ok (an_x2 e m) else if an_ok e m (an_x2 e m) then .ok (an_x3 e m) else if an_ok e m (an_x3 e m) then .ok (an_x4 e m) else .error xIS
set_option maxHeartbeats 4000000 in
set_option maxRecDepth 100000 in
theorem k_X1_anomalyOf (l : Launch) (hst : l.stackTraces = false) (dC : Nat → ClassId) (dI : Nat → Nat → Nat) (cA : Nat → ClassId) (tm tt sz : Nat) (ax ab aw : Nat) (wl : Int32) (la ea : UInt64) (wk fl : Int32) (bb bp bf bs bv : Nat) (st : Int32) (oL oN oE oW : UInt64) (k : Nat) (x2 : UInt64) (he : fR oE 0 805306368) (h0 : fR x2 0 386547056640) : vx_Met l yX1_anomalyOf wsX1_anomalyOf ({ frames := 6, cells := 1, slots := 6, locals := 82 }) (PcW dC dI cA tm tt sz [.ref ax, .ref bb, .double x2] [(ax, .inr (1, [.ref ab, .ref aw, .int wl, .double la, .double ea, .int wk, .int fl])), (bb, .inr (0, [.int st, .double oL, .double oN, .double oE, .double oW, .int (nI k), .ref bp, .ref bf, .ref bs, .ref bv]))]) (va_Qd (fun r (_ : Unit) => ANOM oE x2 = .ok r) (fun _ t => WB dC dI (va_A [(ax, .inr (1, [.ref ab, .ref aw, .int wl, .double la, .double ea, .int wk, .int fl])), (bb, .inr (0, [.int st, .double oL, .double oN, .double oE, .double oW, .int (nI k), .ref bp, .ref bf, .ref bs, .ref bv]))] sz) [(ax, .inr (1, [.ref ab, .ref aw, .int wl, .double la, .double ea, .int wk, .int fl])), (bb, .inr (0, [.int st, .double oL, .double oN, .double oE, .double oW, .int (nI k), .ref bp, .ref bf, .ref bs, .ref bv]))] t) (va_A [(ax, .inr (1, [.ref ab, .ref aw, .int wl, .double la, .double ea, .int wk, .int fl])), (bb, .inr (0, [.int st, .double oL, .double oN, .double oE, .double oW, .int (nI k), .ref bp, .ref bf, .ref bs, .ref bv]))] sz)) (vx_X (fun (_ : Unit) => True) (fun E _ t => ANOM oE x2 = .error E ∧ WB dC dI (va_A [(ax, .inr (1, [.ref ab, .ref aw, .int wl, .double la, .double ea, .int wk, .int fl])), (bb, .inr (0, [.int st, .double oL, .double oN, .double oE, .double oW, .int (nI k), .ref bp, .ref bf, .ref bs, .ref bv]))] sz) [(ax, .inr (1, [.ref ab, .ref aw, .int wl, .double la, .double ea, .int wk, .int (fl + 1)])), (bb, .inr (0, [.int st, .double oL, .double oN, .double oE, .double oW, .int (nI k), .ref bp, .ref bf, .ref bs, .ref bv]))] t) (va_A [(ax, .inr (1, [.ref ab, .ref aw, .int wl, .double la, .double ea, .int wk, .int fl])), (bb, .inr (0, [.int st, .double oL, .double oN, .double oE, .double oW, .int (nI k), .ref bp, .ref bf, .ref bs, .ref bv]))] sz)) 1 6 (va_A [(ax, .inr (1, [.ref ab, .ref aw, .int wl, .double la, .double ea, .int wk, .int fl])), (bb, .inr (0, [.int st, .double oL, .double oN, .double oE, .double oW, .int (nI k), .ref bp, .ref bf, .ref bs, .ref bv]))] sz) := by
  refine vx_ofW (cc := cX1_anomalyOf) (maxL := 11) (ret := (some .double)) (by decide) rfl ?_
  intro p e s m args below meth c s₁ B hml hnt hv
  obtain ⟨rfl, hsz, hP, hK, hD0, hE⟩ := hv
  subst hsz
  have hD := hD0.self (sz := s.heap.size)
  generalize hAe : va_A [(ax, .inr (1, [.ref ab, .ref aw, .int wl, .double la, .double ea, .int wk, .int fl])), (bb, .inr (0, [.int st, .double oL, .double oN, .double oE, .double oW, .int (nI k), .ref bp, .ref bf, .ref bs, .ref bv]))] s.heap.size = A at hD hE ⊢
  have hA : ∀ q : Nat, s.heap.size ≤ q → A q := fun q h => by rw [← hAe]; exact Or.inr h
  have hS : va_S A s.heap s.heap [] := va_S.rf
  have hP : va_P (dC, dI) vwCl [(ax, .inr (1, [.ref ab, .ref aw, .int wl, .double la, .double ea, .int wk, .int fl])), (bb, .inr (0, [.int st, .double oL, .double oN, .double oE, .double oW, .int (nI k), .ref bp, .ref bf, .ref bs, .ref bv]))] s.heap := hP
  have hx := B.exec
  have hb := B.bytes
  have hr := B.returns
  have hts := atoms_spec (ws := wsX1_anomalyOf) B.pre
  have hown : s.vm.findClass RX1 = some m.cls := findClass_of_methodNamed B.named
  have hlocks := B.notSynchronized
  have hl := lv_entry ([.ref ax, .ref bb, .double x2]) (n := 11) (Nat.le_of_ble_eq_true rfl)
  rw [lg_entry_eq]
  generalize (lg_sl ([.ref ax, .ref bb, .double x2]) ++ List.replicate (11 - (lg_sl ([.ref ax, .ref bb, .double x2])).length) Slot.unset).toArray = ls at hl ⊢
  have hl : lv_has ls 11 [(0, .ref ax), (1, .ref bb), (2, .double x2)] := hl
  have hin0 : ∀ w ∈ u_ws RX0 TX0 10, w ∈ wsX1_anomalyOf := by decide +kernel
  have hin1 : ∀ w ∈ u_ws RX1 TX1 7, w ∈ wsX1_anomalyOf := by decide +kernel
  refine W.gen (fun QQ hQQ => ?_)

  refine lv_aload_n hx hb dX1_anomalyOf_0 rfl (lv_at hl 1 rfl) ?_
  refine va_getN (D := (dC, dI)) (ci := 0) (v := .double oE) (C := RX0) (T := TX0) (N := 10) hx hb hts hin0 hown hK hP 1 rfl rfl 3 (by decide) (va_Nw.use rfl (hE.1.1 (.fieldLinkNest RX1 167 "SkyAlmanac$Body" "orbitE" "D" "SkyAlmanac") (by decide +kernel))) (fun _ h9 => h9) rfl dX1_anomalyOf_1 ?_
  refine lv_dstore (lv' := [(4, .double oE), (0, .ref ax), (1, .ref bb), (2, .double x2)]) hx hb dX1_anomalyOf_4 hl (by decide) rfl (fun ls hl => ?_)
  refine lv_dload_n hx hb dX1_anomalyOf_6 rfl (lv_at hl 3 rfl) ?_
  refine lv_dstore (lv' := [(6, .double x2), (4, .double oE), (0, .ref ax), (1, .ref bb), (2, .double x2)]) hx hb dX1_anomalyOf_7 hl (by decide) rfl (fun ls hl => ?_)
  refine lv_iconst (v := 0) hx hb dX1_anomalyOf_9 (by decide) ?_
  refine lv_istore (lv' := [(8, .int 0), (6, .double x2), (4, .double oE), (0, .ref ax), (1, .ref bb), (2, .double x2)]) hx hb dX1_anomalyOf_10 hl (by decide) rfl (fun ls hl => ?_)
  refine lv_iload hx hb dX1_anomalyOf_12 (lv_at hl 0 rfl) ?_
  refine lv_iconst (v := 4) hx hb dX1_anomalyOf_14 (by decide) ?_
  refine lv_icmp_ge (tgt := 82) hx hb dX1_anomalyOf_15 (by decide) (fun c_1 => absurd c_1 (by decide)) (fun _ => ?_)
  refine lv_dload hx hb dX1_anomalyOf_18 (lv_at hl 1 rfl) ?_
  refine lv_dload hx hb dX1_anomalyOf_20 (lv_at hl 2 rfl) ?_
  refine vp_callSd (W.runS (As := []) (rest := [.double oE, .double x2]) ⟨hx, hb, hml, hown, hts⟩ (k_X1_degreesInRadian l ) (va_cwS 0 hts gX1_anomalyOf_X1_degreesInRadian rfl rfl rfl (by decide +kernel) ⟨Nat.le_of_ble_eq_true rfl, Nat.le_of_ble_eq_true rfl⟩) preEq rfl rfl hl.1 rfl (lv_room (Nat.le_of_ble_eq_true rfl)) dX1_anomalyOf_22 ⟨Nat.zero_le _, Nat.zero_le _⟩) (fun r hr9 => ?_)
  obtain rfl := hr9
  have r_2 : fR f_X1_degreesInRadian 61520874801 61520874802 := fR_lit (by decide +kernel)
  have r_3 := fR_mul he r_2 0 46140656102 (by decide) (by decide) rfl rfl
  refine lv_dmul hx hb dX1_anomalyOf_25 (fR_nn r_3) ?_
  refine lv_dload hx hb dX1_anomalyOf_26 (lv_at hl 1 rfl) ?_
  refine vp_callSd (W.runS (As := [.double x2]) (rest := [.double (FP.dmul oE f_X1_degreesInRadian), .double x2]) ⟨hx, hb, hml, hown, hts⟩ (k_X1_sine l x2 (fR_mono h0 (by decide) (by decide))) (va_cwS 1 hts gX1_anomalyOf_X1_sine rfl rfl rfl (by decide +kernel) ⟨Nat.le_of_ble_eq_true rfl, Nat.le_of_ble_eq_true rfl⟩) preEq rfl rfl hl.1 rfl (lv_room (Nat.le_of_ble_eq_true rfl)) dX1_anomalyOf_28 ⟨Nat.zero_le _, Nat.zero_le _⟩) (fun r hr9 => ?_)
  obtain rfl := hr9
  have r_4 := SIN_R (fR_mono h0 (by decide) (by decide))
  have r_5 := fR_mul r_3 r_4 (-46140656102) 46140656102 (by decide) (by decide) rfl rfl
  refine lv_dmul hx hb dX1_anomalyOf_31 (fR_nn r_5) ?_
  have r_6 := fR_sub h0 r_5 (-46140656102) 432687712742 (by decide) (by decide) rfl rfl
  refine lv_dsub hx hb dX1_anomalyOf_32 (fR_nn r_6) ?_
  refine lv_dload_n hx hb dX1_anomalyOf_33 rfl (lv_at hl 5 rfl) ?_
  have r_7 := fR_sub r_6 h0 (-432687712742) 432687712742 (by decide) (by decide) rfl rfl
  refine lv_dsub hx hb dX1_anomalyOf_34 (fR_nn r_7) ?_
  refine lv_dconst1 hx hb dX1_anomalyOf_35 ?_
  have r_8 : fR FP.dconst1 1073741824 1073741824 := fR_lit (by decide +kernel)
  refine lv_dload hx hb dX1_anomalyOf_36 (lv_at hl 2 rfl) ?_
  refine lv_dload hx hb dX1_anomalyOf_38 (lv_at hl 1 rfl) ?_
  refine vp_callSd (W.runS (As := [.double x2]) (rest := [.double oE, .double FP.dconst1, .double (FP.dsub (FP.dsub x2 (FP.dmul (FP.dmul oE f_X1_degreesInRadian) (SIN x2))) x2)]) ⟨hx, hb, hml, hown, hts⟩ (k_X1_cosine l x2 (fR_mono h0 (by decide) (by decide))) (va_cwS 1 hts gX1_anomalyOf_X1_cosine rfl rfl rfl (by decide +kernel) ⟨Nat.le_of_ble_eq_true rfl, Nat.le_of_ble_eq_true rfl⟩) preEq rfl rfl hl.1 rfl (lv_room (Nat.le_of_ble_eq_true rfl)) dX1_anomalyOf_40 ⟨Nat.zero_le _, Nat.zero_le _⟩) (fun r hr9 => ?_)
  obtain rfl := hr9
  have r_9 := COS_R (fR_mono h0 (by decide) (by decide))
  have r_10 := fR_mul he r_9 (-805306368) 805306368 (by decide) (by decide) rfl rfl
  refine lv_dmul hx hb dX1_anomalyOf_43 (fR_nn r_10) ?_
  have r_11 := fR_sub r_8 r_10 268435456 1879048192 (by decide) (by decide) rfl rfl
  refine lv_dsub hx hb dX1_anomalyOf_44 (fR_nn r_11) ?_
  have r_12 := fR_div r_7 r_11 (by decide) (-1730750850968) 1730750850968 (by decide) (by decide) rfl rfl
  refine lv_ddiv hx hb dX1_anomalyOf_45 (fR_nn r_12) ?_
  refine lv_dstore (lv' := [(9, .double (an_d oE x2 x2)), (8, .int 0), (6, .double x2), (4, .double oE), (0, .ref ax), (1, .ref bb), (2, .double x2)]) hx hb dX1_anomalyOf_46 hl (by decide) rfl (fun ls hl => ?_)
  refine lv_dload hx hb dX1_anomalyOf_48 (lv_at hl 2 rfl) ?_
  refine lv_dload hx hb dX1_anomalyOf_50 (lv_at hl 0 rfl) ?_
  have r_13 := fR_sub h0 r_12 (-1730750850968) 2117297907608 (by decide) (by decide) rfl rfl
  refine lv_dsub hx hb dX1_anomalyOf_52 (fR_nn r_13) ?_
  refine lv_dstore (lv' := [(6, .double (an_x1 oE x2)), (9, .double (an_d oE x2 x2)), (8, .int 0), (4, .double oE), (0, .ref ax), (1, .ref bb), (2, .double x2)]) hx hb dX1_anomalyOf_53 hl (by decide) rfl (fun ls hl => ?_)
  have hJ_0 : ¬ an_ok oE x2 x2 → ∀ ls : Array Slot, lv_has ls 11 [(6, .double (an_x1 oE x2)), (9, .double (an_d oE x2 x2)), (8, .int 0), (4, .double oE), (0, .ref ax), (1, .ref bb), (2, .double x2)] → W p l e (headSpec wsX1_anomalyOf ({ frames := 6, cells := 1, slots := 6, locals := 82 })).room s m ([.ref ax, .ref bb, .double x2] : List Value).toArray below meth c s.heap [] 0 0 QQ (F0 m 76 ls []) := by
    intro hno_0 ls hl
    refine lv_iinc (v := 1) (lv' := [(8, .int 1), (6, .double (an_x1 oE x2)), (9, .double (an_d oE x2 x2)), (4, .double oE), (0, .ref ax), (1, .ref bb), (2, .double x2)]) hx hb dX1_anomalyOf_76 hl (k := 2) rfl (by first | rfl | decide) (by decide) rfl (fun ls hl => ?_)
    refine lv_goto (tgt := 12) hx hb dX1_anomalyOf_79 (by decide) ?_
    refine lv_iload hx hb dX1_anomalyOf_12 (lv_at hl 0 rfl) ?_
    refine lv_iconst (v := 4) hx hb dX1_anomalyOf_14 (by decide) ?_
    refine lv_icmp_ge (tgt := 82) hx hb dX1_anomalyOf_15 (by decide) (fun c_14 => absurd c_14 (by decide)) (fun _ => ?_)
    refine lv_dload hx hb dX1_anomalyOf_18 (lv_at hl 1 rfl) ?_
    refine lv_dload hx hb dX1_anomalyOf_20 (lv_at hl 3 rfl) ?_
    refine vp_callSd (W.runS (As := []) (rest := [.double oE, .double (an_x1 oE x2)]) ⟨hx, hb, hml, hown, hts⟩ (k_X1_degreesInRadian l ) (va_cwS 0 hts gX1_anomalyOf_X1_degreesInRadian rfl rfl rfl (by decide +kernel) ⟨Nat.le_of_ble_eq_true rfl, Nat.le_of_ble_eq_true rfl⟩) preEq rfl rfl hl.1 rfl (lv_room (Nat.le_of_ble_eq_true rfl)) dX1_anomalyOf_22 ⟨Nat.zero_le _, Nat.zero_le _⟩) (fun r hr9 => ?_)
    obtain rfl := hr9
    have r_15 : fR f_X1_degreesInRadian 61520874801 61520874802 := fR_lit (by decide +kernel)
    have r_16 := fR_mul he r_15 0 46140656102 (by decide) (by decide) rfl rfl
    refine lv_dmul hx hb dX1_anomalyOf_25 (fR_nn r_16) ?_
    refine lv_dload hx hb dX1_anomalyOf_26 (lv_at hl 1 rfl) ?_
    refine vp_callSd (W.runS (As := [.double (an_x1 oE x2)]) (rest := [.double (FP.dmul oE f_X1_degreesInRadian), .double (an_x1 oE x2)]) ⟨hx, hb, hml, hown, hts⟩ (k_X1_sine l (an_x1 oE x2) (fR_mono r_13 (by decide) (by decide))) (va_cwS 1 hts gX1_anomalyOf_X1_sine rfl rfl rfl (by decide +kernel) ⟨Nat.le_of_ble_eq_true rfl, Nat.le_of_ble_eq_true rfl⟩) preEq rfl rfl hl.1 rfl (lv_room (Nat.le_of_ble_eq_true rfl)) dX1_anomalyOf_28 ⟨Nat.zero_le _, Nat.zero_le _⟩) (fun r hr9 => ?_)
    obtain rfl := hr9
    have r_17 := SIN_R (fR_mono r_13 (by decide) (by decide))
    have r_18 := fR_mul r_16 r_17 (-46140656102) 46140656102 (by decide) (by decide) rfl rfl
    refine lv_dmul hx hb dX1_anomalyOf_31 (fR_nn r_18) ?_
    have r_19 := fR_sub r_13 r_18 (-1776891507070) 2163438563710 (by decide) (by decide) rfl rfl
    refine lv_dsub hx hb dX1_anomalyOf_32 (fR_nn r_19) ?_
    refine lv_dload_n hx hb dX1_anomalyOf_33 rfl (lv_at hl 6 rfl) ?_
    have r_20 := fR_sub r_19 h0 (-2163438563710) 2163438563710 (by decide) (by decide) rfl rfl
    refine lv_dsub hx hb dX1_anomalyOf_34 (fR_nn r_20) ?_
    refine lv_dconst1 hx hb dX1_anomalyOf_35 ?_
    have r_21 : fR FP.dconst1 1073741824 1073741824 := fR_lit (by decide +kernel)
    refine lv_dload hx hb dX1_anomalyOf_36 (lv_at hl 3 rfl) ?_
    refine lv_dload hx hb dX1_anomalyOf_38 (lv_at hl 1 rfl) ?_
    refine vp_callSd (W.runS (As := [.double (an_x1 oE x2)]) (rest := [.double oE, .double FP.dconst1, .double (FP.dsub (FP.dsub (an_x1 oE x2) (FP.dmul (FP.dmul oE f_X1_degreesInRadian) (SIN (an_x1 oE x2)))) x2)]) ⟨hx, hb, hml, hown, hts⟩ (k_X1_cosine l (an_x1 oE x2) (fR_mono r_13 (by decide) (by decide))) (va_cwS 1 hts gX1_anomalyOf_X1_cosine rfl rfl rfl (by decide +kernel) ⟨Nat.le_of_ble_eq_true rfl, Nat.le_of_ble_eq_true rfl⟩) preEq rfl rfl hl.1 rfl (lv_room (Nat.le_of_ble_eq_true rfl)) dX1_anomalyOf_40 ⟨Nat.zero_le _, Nat.zero_le _⟩) (fun r hr9 => ?_)
    obtain rfl := hr9
    have r_22 := COS_R (fR_mono r_13 (by decide) (by decide))
    have r_23 := fR_mul he r_22 (-805306368) 805306368 (by decide) (by decide) rfl rfl
    refine lv_dmul hx hb dX1_anomalyOf_43 (fR_nn r_23) ?_
    have r_24 := fR_sub r_21 r_23 268435456 1879048192 (by decide) (by decide) rfl rfl
    refine lv_dsub hx hb dX1_anomalyOf_44 (fR_nn r_24) ?_
    have r_25 := fR_div r_20 r_24 (by decide) (-8653754254840) 8653754254840 (by decide) (by decide) rfl rfl
    refine lv_ddiv hx hb dX1_anomalyOf_45 (fR_nn r_25) ?_
    refine lv_dstore (lv' := [(9, .double (an_d oE x2 (an_x1 oE x2))), (8, .int 1), (6, .double (an_x1 oE x2)), (4, .double oE), (0, .ref ax), (1, .ref bb), (2, .double x2)]) hx hb dX1_anomalyOf_46 hl (by decide) rfl (fun ls hl => ?_)
    refine lv_dload hx hb dX1_anomalyOf_48 (lv_at hl 2 rfl) ?_
    refine lv_dload hx hb dX1_anomalyOf_50 (lv_at hl 0 rfl) ?_
    have r_26 := fR_sub r_13 r_25 (-10384505105808) 10771052162448 (by decide) (by decide) rfl rfl
    refine lv_dsub hx hb dX1_anomalyOf_52 (fR_nn r_26) ?_
    refine lv_dstore (lv' := [(6, .double (an_x2 oE x2)), (9, .double (an_d oE x2 (an_x1 oE x2))), (8, .int 1), (4, .double oE), (0, .ref ax), (1, .ref bb), (2, .double x2)]) hx hb dX1_anomalyOf_53 hl (by decide) rfl (fun ls hl => ?_)
    have hJ_1 : ¬ an_ok oE x2 (an_x1 oE x2) → ∀ ls : Array Slot, lv_has ls 11 [(6, .double (an_x2 oE x2)), (9, .double (an_d oE x2 (an_x1 oE x2))), (8, .int 1), (4, .double oE), (0, .ref ax), (1, .ref bb), (2, .double x2)] → W p l e (headSpec wsX1_anomalyOf ({ frames := 6, cells := 1, slots := 6, locals := 82 })).room s m ([.ref ax, .ref bb, .double x2] : List Value).toArray below meth c s.heap [] 0 0 QQ (F0 m 76 ls []) := by
      intro hno_1 ls hl
      refine lv_iinc (v := 2) (lv' := [(8, .int 2), (6, .double (an_x2 oE x2)), (9, .double (an_d oE x2 (an_x1 oE x2))), (4, .double oE), (0, .ref ax), (1, .ref bb), (2, .double x2)]) hx hb dX1_anomalyOf_76 hl (k := 2) rfl (by first | rfl | decide) (by decide) rfl (fun ls hl => ?_)
      refine lv_goto (tgt := 12) hx hb dX1_anomalyOf_79 (by decide) ?_
      refine lv_iload hx hb dX1_anomalyOf_12 (lv_at hl 0 rfl) ?_
      refine lv_iconst (v := 4) hx hb dX1_anomalyOf_14 (by decide) ?_
      refine lv_icmp_ge (tgt := 82) hx hb dX1_anomalyOf_15 (by decide) (fun c_27 => absurd c_27 (by decide)) (fun _ => ?_)
      refine lv_dload hx hb dX1_anomalyOf_18 (lv_at hl 1 rfl) ?_
      refine lv_dload hx hb dX1_anomalyOf_20 (lv_at hl 3 rfl) ?_
      refine vp_callSd (W.runS (As := []) (rest := [.double oE, .double (an_x2 oE x2)]) ⟨hx, hb, hml, hown, hts⟩ (k_X1_degreesInRadian l ) (va_cwS 0 hts gX1_anomalyOf_X1_degreesInRadian rfl rfl rfl (by decide +kernel) ⟨Nat.le_of_ble_eq_true rfl, Nat.le_of_ble_eq_true rfl⟩) preEq rfl rfl hl.1 rfl (lv_room (Nat.le_of_ble_eq_true rfl)) dX1_anomalyOf_22 ⟨Nat.zero_le _, Nat.zero_le _⟩) (fun r hr9 => ?_)
      obtain rfl := hr9
      have r_28 : fR f_X1_degreesInRadian 61520874801 61520874802 := fR_lit (by decide +kernel)
      have r_29 := fR_mul he r_28 0 46140656102 (by decide) (by decide) rfl rfl
      refine lv_dmul hx hb dX1_anomalyOf_25 (fR_nn r_29) ?_
      refine lv_dload hx hb dX1_anomalyOf_26 (lv_at hl 1 rfl) ?_
      refine vp_callSd (W.runS (As := [.double (an_x2 oE x2)]) (rest := [.double (FP.dmul oE f_X1_degreesInRadian), .double (an_x2 oE x2)]) ⟨hx, hb, hml, hown, hts⟩ (k_X1_sine l (an_x2 oE x2) (fR_mono r_26 (by decide) (by decide))) (va_cwS 1 hts gX1_anomalyOf_X1_sine rfl rfl rfl (by decide +kernel) ⟨Nat.le_of_ble_eq_true rfl, Nat.le_of_ble_eq_true rfl⟩) preEq rfl rfl hl.1 rfl (lv_room (Nat.le_of_ble_eq_true rfl)) dX1_anomalyOf_28 ⟨Nat.zero_le _, Nat.zero_le _⟩) (fun r hr9 => ?_)
      obtain rfl := hr9
      have r_30 := SIN_R (fR_mono r_26 (by decide) (by decide))
      have r_31 := fR_mul r_29 r_30 (-46140656102) 46140656102 (by decide) (by decide) rfl rfl
      refine lv_dmul hx hb dX1_anomalyOf_31 (fR_nn r_31) ?_
      have r_32 := fR_sub r_26 r_31 (-10430645761910) 10817192818550 (by decide) (by decide) rfl rfl
      refine lv_dsub hx hb dX1_anomalyOf_32 (fR_nn r_32) ?_
      refine lv_dload_n hx hb dX1_anomalyOf_33 rfl (lv_at hl 6 rfl) ?_
      have r_33 := fR_sub r_32 h0 (-10817192818550) 10817192818550 (by decide) (by decide) rfl rfl
      refine lv_dsub hx hb dX1_anomalyOf_34 (fR_nn r_33) ?_
      refine lv_dconst1 hx hb dX1_anomalyOf_35 ?_
      have r_34 : fR FP.dconst1 1073741824 1073741824 := fR_lit (by decide +kernel)
      refine lv_dload hx hb dX1_anomalyOf_36 (lv_at hl 3 rfl) ?_
      refine lv_dload hx hb dX1_anomalyOf_38 (lv_at hl 1 rfl) ?_
      refine vp_callSd (W.runS (As := [.double (an_x2 oE x2)]) (rest := [.double oE, .double FP.dconst1, .double (FP.dsub (FP.dsub (an_x2 oE x2) (FP.dmul (FP.dmul oE f_X1_degreesInRadian) (SIN (an_x2 oE x2)))) x2)]) ⟨hx, hb, hml, hown, hts⟩ (k_X1_cosine l (an_x2 oE x2) (fR_mono r_26 (by decide) (by decide))) (va_cwS 1 hts gX1_anomalyOf_X1_cosine rfl rfl rfl (by decide +kernel) ⟨Nat.le_of_ble_eq_true rfl, Nat.le_of_ble_eq_true rfl⟩) preEq rfl rfl hl.1 rfl (lv_room (Nat.le_of_ble_eq_true rfl)) dX1_anomalyOf_40 ⟨Nat.zero_le _, Nat.zero_le _⟩) (fun r hr9 => ?_)
      obtain rfl := hr9
      have r_35 := COS_R (fR_mono r_26 (by decide) (by decide))
      have r_36 := fR_mul he r_35 (-805306368) 805306368 (by decide) (by decide) rfl rfl
      refine lv_dmul hx hb dX1_anomalyOf_43 (fR_nn r_36) ?_
      have r_37 := fR_sub r_34 r_36 268435456 1879048192 (by decide) (by decide) rfl rfl
      refine lv_dsub hx hb dX1_anomalyOf_44 (fR_nn r_37) ?_
      have r_38 := fR_div r_33 r_37 (by decide) (-43268771274200) 43268771274200 (by decide) (by decide) rfl rfl
      refine lv_ddiv hx hb dX1_anomalyOf_45 (fR_nn r_38) ?_
      refine lv_dstore (lv' := [(9, .double (an_d oE x2 (an_x2 oE x2))), (8, .int 2), (6, .double (an_x2 oE x2)), (4, .double oE), (0, .ref ax), (1, .ref bb), (2, .double x2)]) hx hb dX1_anomalyOf_46 hl (by decide) rfl (fun ls hl => ?_)
      refine lv_dload hx hb dX1_anomalyOf_48 (lv_at hl 2 rfl) ?_
      refine lv_dload hx hb dX1_anomalyOf_50 (lv_at hl 0 rfl) ?_
      have r_39 := fR_sub r_26 r_38 (-53653276380008) 54039823436648 (by decide) (by decide) rfl rfl
      refine lv_dsub hx hb dX1_anomalyOf_52 (fR_nn r_39) ?_
      refine lv_dstore (lv' := [(6, .double (an_x3 oE x2)), (9, .double (an_d oE x2 (an_x2 oE x2))), (8, .int 2), (4, .double oE), (0, .ref ax), (1, .ref bb), (2, .double x2)]) hx hb dX1_anomalyOf_53 hl (by decide) rfl (fun ls hl => ?_)
      have hJ_2 : ¬ an_ok oE x2 (an_x2 oE x2) → ∀ ls : Array Slot, lv_has ls 11 [(6, .double (an_x3 oE x2)), (9, .double (an_d oE x2 (an_x2 oE x2))), (8, .int 2), (4, .double oE), (0, .ref ax), (1, .ref bb), (2, .double x2)] → W p l e (headSpec wsX1_anomalyOf ({ frames := 6, cells := 1, slots := 6, locals := 82 })).room s m ([.ref ax, .ref bb, .double x2] : List Value).toArray below meth c s.heap [] 0 0 QQ (F0 m 76 ls []) := by
        intro hno_2 ls hl
        refine lv_iinc (v := 3) (lv' := [(8, .int 3), (6, .double (an_x3 oE x2)), (9, .double (an_d oE x2 (an_x2 oE x2))), (4, .double oE), (0, .ref ax), (1, .ref bb), (2, .double x2)]) hx hb dX1_anomalyOf_76 hl (k := 2) rfl (by first | rfl | decide) (by decide) rfl (fun ls hl => ?_)
        refine lv_goto (tgt := 12) hx hb dX1_anomalyOf_79 (by decide) ?_
        refine lv_iload hx hb dX1_anomalyOf_12 (lv_at hl 0 rfl) ?_
        refine lv_iconst (v := 4) hx hb dX1_anomalyOf_14 (by decide) ?_
        refine lv_icmp_ge (tgt := 82) hx hb dX1_anomalyOf_15 (by decide) (fun c_40 => absurd c_40 (by decide)) (fun _ => ?_)
        refine lv_dload hx hb dX1_anomalyOf_18 (lv_at hl 1 rfl) ?_
        refine lv_dload hx hb dX1_anomalyOf_20 (lv_at hl 3 rfl) ?_
        refine vp_callSd (W.runS (As := []) (rest := [.double oE, .double (an_x3 oE x2)]) ⟨hx, hb, hml, hown, hts⟩ (k_X1_degreesInRadian l ) (va_cwS 0 hts gX1_anomalyOf_X1_degreesInRadian rfl rfl rfl (by decide +kernel) ⟨Nat.le_of_ble_eq_true rfl, Nat.le_of_ble_eq_true rfl⟩) preEq rfl rfl hl.1 rfl (lv_room (Nat.le_of_ble_eq_true rfl)) dX1_anomalyOf_22 ⟨Nat.zero_le _, Nat.zero_le _⟩) (fun r hr9 => ?_)
        obtain rfl := hr9
        have r_41 : fR f_X1_degreesInRadian 61520874801 61520874802 := fR_lit (by decide +kernel)
        have r_42 := fR_mul he r_41 0 46140656102 (by decide) (by decide) rfl rfl
        refine lv_dmul hx hb dX1_anomalyOf_25 (fR_nn r_42) ?_
        refine lv_dload hx hb dX1_anomalyOf_26 (lv_at hl 1 rfl) ?_
        refine vp_callSd (W.runS (As := [.double (an_x3 oE x2)]) (rest := [.double (FP.dmul oE f_X1_degreesInRadian), .double (an_x3 oE x2)]) ⟨hx, hb, hml, hown, hts⟩ (k_X1_sine l (an_x3 oE x2) (fR_mono r_39 (by decide) (by decide))) (va_cwS 1 hts gX1_anomalyOf_X1_sine rfl rfl rfl (by decide +kernel) ⟨Nat.le_of_ble_eq_true rfl, Nat.le_of_ble_eq_true rfl⟩) preEq rfl rfl hl.1 rfl (lv_room (Nat.le_of_ble_eq_true rfl)) dX1_anomalyOf_28 ⟨Nat.zero_le _, Nat.zero_le _⟩) (fun r hr9 => ?_)
        obtain rfl := hr9
        have r_43 := SIN_R (fR_mono r_39 (by decide) (by decide))
        have r_44 := fR_mul r_42 r_43 (-46140656102) 46140656102 (by decide) (by decide) rfl rfl
        refine lv_dmul hx hb dX1_anomalyOf_31 (fR_nn r_44) ?_
        have r_45 := fR_sub r_39 r_44 (-53699417036110) 54085964092750 (by decide) (by decide) rfl rfl
        refine lv_dsub hx hb dX1_anomalyOf_32 (fR_nn r_45) ?_
        refine lv_dload_n hx hb dX1_anomalyOf_33 rfl (lv_at hl 6 rfl) ?_
        have r_46 := fR_sub r_45 h0 (-54085964092750) 54085964092750 (by decide) (by decide) rfl rfl
        refine lv_dsub hx hb dX1_anomalyOf_34 (fR_nn r_46) ?_
        refine lv_dconst1 hx hb dX1_anomalyOf_35 ?_
        have r_47 : fR FP.dconst1 1073741824 1073741824 := fR_lit (by decide +kernel)
        refine lv_dload hx hb dX1_anomalyOf_36 (lv_at hl 3 rfl) ?_
        refine lv_dload hx hb dX1_anomalyOf_38 (lv_at hl 1 rfl) ?_
        refine vp_callSd (W.runS (As := [.double (an_x3 oE x2)]) (rest := [.double oE, .double FP.dconst1, .double (FP.dsub (FP.dsub (an_x3 oE x2) (FP.dmul (FP.dmul oE f_X1_degreesInRadian) (SIN (an_x3 oE x2)))) x2)]) ⟨hx, hb, hml, hown, hts⟩ (k_X1_cosine l (an_x3 oE x2) (fR_mono r_39 (by decide) (by decide))) (va_cwS 1 hts gX1_anomalyOf_X1_cosine rfl rfl rfl (by decide +kernel) ⟨Nat.le_of_ble_eq_true rfl, Nat.le_of_ble_eq_true rfl⟩) preEq rfl rfl hl.1 rfl (lv_room (Nat.le_of_ble_eq_true rfl)) dX1_anomalyOf_40 ⟨Nat.zero_le _, Nat.zero_le _⟩) (fun r hr9 => ?_)
        obtain rfl := hr9
        have r_48 := COS_R (fR_mono r_39 (by decide) (by decide))
        have r_49 := fR_mul he r_48 (-805306368) 805306368 (by decide) (by decide) rfl rfl
        refine lv_dmul hx hb dX1_anomalyOf_43 (fR_nn r_49) ?_
        have r_50 := fR_sub r_47 r_49 268435456 1879048192 (by decide) (by decide) rfl rfl
        refine lv_dsub hx hb dX1_anomalyOf_44 (fR_nn r_50) ?_
        have r_51 := fR_div r_46 r_50 (by decide) (-216343856371000) 216343856371000 (by decide) (by decide) rfl rfl
        refine lv_ddiv hx hb dX1_anomalyOf_45 (fR_nn r_51) ?_
        refine lv_dstore (lv' := [(9, .double (an_d oE x2 (an_x3 oE x2))), (8, .int 3), (6, .double (an_x3 oE x2)), (4, .double oE), (0, .ref ax), (1, .ref bb), (2, .double x2)]) hx hb dX1_anomalyOf_46 hl (by decide) rfl (fun ls hl => ?_)
        refine lv_dload hx hb dX1_anomalyOf_48 (lv_at hl 2 rfl) ?_
        refine lv_dload hx hb dX1_anomalyOf_50 (lv_at hl 0 rfl) ?_
        have r_52 := fR_sub r_39 r_51 (-269997132751008) 270383679807648 (by decide) (by decide) rfl rfl
        refine lv_dsub hx hb dX1_anomalyOf_52 (fR_nn r_52) ?_
        refine lv_dstore (lv' := [(6, .double (an_x4 oE x2)), (9, .double (an_d oE x2 (an_x3 oE x2))), (8, .int 3), (4, .double oE), (0, .ref ax), (1, .ref bb), (2, .double x2)]) hx hb dX1_anomalyOf_53 hl (by decide) rfl (fun ls hl => ?_)
        have hJ_3 : ¬ an_ok oE x2 (an_x3 oE x2) → ∀ ls : Array Slot, lv_has ls 11 [(6, .double (an_x4 oE x2)), (9, .double (an_d oE x2 (an_x3 oE x2))), (8, .int 3), (4, .double oE), (0, .ref ax), (1, .ref bb), (2, .double x2)] → W p l e (headSpec wsX1_anomalyOf ({ frames := 6, cells := 1, slots := 6, locals := 82 })).room s m ([.ref ax, .ref bb, .double x2] : List Value).toArray below meth c s.heap [] 0 0 QQ (F0 m 76 ls []) := by
          intro hno_3 ls hl
          refine lv_iinc (v := 4) (lv' := [(8, .int 4), (6, .double (an_x4 oE x2)), (9, .double (an_d oE x2 (an_x3 oE x2))), (4, .double oE), (0, .ref ax), (1, .ref bb), (2, .double x2)]) hx hb dX1_anomalyOf_76 hl (k := 2) rfl (by first | rfl | decide) (by decide) rfl (fun ls hl => ?_)
          refine lv_goto (tgt := 12) hx hb dX1_anomalyOf_79 (by decide) ?_
          refine lv_iload hx hb dX1_anomalyOf_12 (lv_at hl 0 rfl) ?_
          refine lv_iconst (v := 4) hx hb dX1_anomalyOf_14 (by decide) ?_
          refine lv_icmp_ge (tgt := 82) hx hb dX1_anomalyOf_15 (by decide) (fun _ => ?_) (fun c_53 => absurd c_53 (by decide))
          refine lv_aload_n hx hb dX1_anomalyOf_82 rfl (lv_at hl 4 rfl) ?_
          refine lv_dup hx hb dX1_anomalyOf_83 rfl ?_
          refine va_get (D := (dC, dI)) (ci := 1) (v := .int fl) (C := RX1) (T := TX1) (N := 7) hx hb hts hin1 hown hK hP 0 rfl rfl 6 (by decide) (hts (.fieldLink RX1 34 "SkyAlmanac" "longitudesFailed" "I") (by decide +kernel)) (fun _ h9 => h9) rfl dX1_anomalyOf_84 ?_
          refine lv_iconst (v := 1) hx hb dX1_anomalyOf_87 (by decide) ?_
          refine lv_iadd hx hb dX1_anomalyOf_88 ?_
          refine va_put (D := (dC, dI)) (ci := 1) (v := .int (fl + 1)) (ty := .int) (C := RX1) (T := TX1) (N := 7) hx hb hts hin1 tyX1 tyX1_ok nmX1 hown hK hP hD hS 0 rfl rfl 6 (by decide) (hts (.fieldLink RX1 34 "SkyAlmanac" "longitudesFailed" "I") (by decide +kernel)) (fun _ h9 => h9) rfl (by decide +kernel) rfl rfl (Nat.le_of_ble_eq_true rfl) dX1_anomalyOf_89 (fun H locs hP hD hS => ?_)
          have hP : va_P (dC, dI) vwCl [(ax, .inr (1, [.ref ab, .ref aw, .int wl, .double la, .double ea, .int wk, .int (fl + 1)])), (bb, .inr (0, [.int st, .double oL, .double oN, .double oE, .double oW, .int (nI k), .ref bp, .ref bf, .ref bs, .ref bv]))] H := hP
          have hD : va_D A [(ax, .inr (1, [.ref ab, .ref aw, .int wl, .double la, .double ea, .int wk, .int (fl + 1)])), (bb, .inr (0, [.int st, .double oL, .double oN, .double oE, .double oW, .int (nI k), .ref bp, .ref bf, .ref bs, .ref bv]))] := hD
          subst hQQ
          obtain ⟨sa_54, hsa_54⟩ := hE.1.str (k := 266) (tx := "the anomaly fails") (by decide +kernel)
          exact vx_throwSW (rest := []) hx hb hst hown thc_IS thf (hts (.classLink RX1 186 xIS) (by decide +kernel)) (hts (.initialized xIS) (by decide +kernel)) hsa_54 (tha_IS hE.1 (fun w hw => hts w (List.mem_cons_of_mem _ (List.mem_append_right _ hw)))) thg_IS hE.2.1.1 hE.2.1.2 hS (by rw [hml]; exact hl.1) dX1_anomalyOf_92 dX1_anomalyOf_95 dX1_anomalyOf_96 dX1_anomalyOf_99 dX1_anomalyOf_102 (fun x hx9 => (hnt x hx9).elim) (Nat.le_of_ble_eq_true rfl) (Nat.le_of_ble_eq_true rfl) (Nat.le_of_ble_eq_true rfl) (Nat.le_of_ble_eq_true rfl) hlocks (fun t hvm hz hk => ⟨(), trivial, ⟨(by unfold ANOM; rw [if_neg hno_0, if_neg hno_1, if_neg hno_2, if_neg hno_3]), hP.kept (fun k9 q9 hq9 => hk q9.1 (hP k9 q9 hq9).lt), hD⟩, zx_F hS hz hk⟩) hS.2.2 (Nat.le_of_ble_eq_true rfl) (Nat.le_of_ble_eq_true rfl)
        refine lv_dload hx hb dX1_anomalyOf_55 (lv_at hl 1 rfl) ?_
        refine lv_ldc2d hx hb hown (hts (.constantDouble RX1 262 (13740701229962882445)) (by decide +kernel)) dX1_anomalyOf_57 ?_
        have r_55 : fR 13740701229962882445 (-1074) (-1073) := fR_lit (by decide +kernel)
        refine zd_l_le (tgt := 76) hx hb dX1_anomalyOf_60 dX1_anomalyOf_61 (by decide) (fun c_56 => ?_) (fun c_56 => ?_)
        · exact hJ_3 (fun h => c_56 h.1) _ hl
        · refine lv_dload hx hb dX1_anomalyOf_64 (lv_at hl 1 rfl) ?_
          refine lv_ldc2d hx hb hown (hts (.constantDouble RX1 264 (4517329193108106637)) (by decide +kernel)) dX1_anomalyOf_66 ?_
          have r_57 : fR 4517329193108106637 1073 1074 := fR_lit (by decide +kernel)
          refine zd_g_ge (tgt := 76) hx hb dX1_anomalyOf_69 dX1_anomalyOf_70 (by decide) (fun c_58 => ?_) (fun c_58 => ?_)
          · exact hJ_3 (fun h => c_58 h.2) _ hl
          · refine lv_dload hx hb dX1_anomalyOf_73 (lv_at hl 0 rfl) ?_
            subst hQQ
            refine W.widen (k := 1) (n := 6) (Nat.le_of_ble_eq_true rfl) (Nat.le_of_ble_eq_true rfl) ?_
            exact vx_ret (W.dret hx hb hr (fun t ht hW => ⟨⟨_, (), rfl, (by unfold ANOM; rw [if_neg hno_0, if_neg hno_1, if_neg hno_2, if_pos ⟨c_56, c_58⟩]), ⟨by rw [ht]; exact hP, hD⟩⟩, hS.F ht⟩) hS.2.2 dX1_anomalyOf_75)
      refine lv_dload hx hb dX1_anomalyOf_55 (lv_at hl 1 rfl) ?_
      refine lv_ldc2d hx hb hown (hts (.constantDouble RX1 262 (13740701229962882445)) (by decide +kernel)) dX1_anomalyOf_57 ?_
      have r_59 : fR 13740701229962882445 (-1074) (-1073) := fR_lit (by decide +kernel)
      refine zd_l_le (tgt := 76) hx hb dX1_anomalyOf_60 dX1_anomalyOf_61 (by decide) (fun c_60 => ?_) (fun c_60 => ?_)
      · exact hJ_2 (fun h => c_60 h.1) _ hl
      · refine lv_dload hx hb dX1_anomalyOf_64 (lv_at hl 1 rfl) ?_
        refine lv_ldc2d hx hb hown (hts (.constantDouble RX1 264 (4517329193108106637)) (by decide +kernel)) dX1_anomalyOf_66 ?_
        have r_61 : fR 4517329193108106637 1073 1074 := fR_lit (by decide +kernel)
        refine zd_g_ge (tgt := 76) hx hb dX1_anomalyOf_69 dX1_anomalyOf_70 (by decide) (fun c_62 => ?_) (fun c_62 => ?_)
        · exact hJ_2 (fun h => c_62 h.2) _ hl
        · refine lv_dload hx hb dX1_anomalyOf_73 (lv_at hl 0 rfl) ?_
          subst hQQ
          refine W.widen (k := 1) (n := 6) (Nat.le_of_ble_eq_true rfl) (Nat.le_of_ble_eq_true rfl) ?_
          exact vx_ret (W.dret hx hb hr (fun t ht hW => ⟨⟨_, (), rfl, (by unfold ANOM; rw [if_neg hno_0, if_neg hno_1, if_pos ⟨c_60, c_62⟩]), ⟨by rw [ht]; exact hP, hD⟩⟩, hS.F ht⟩) hS.2.2 dX1_anomalyOf_75)
    refine lv_dload hx hb dX1_anomalyOf_55 (lv_at hl 1 rfl) ?_
    refine lv_ldc2d hx hb hown (hts (.constantDouble RX1 262 (13740701229962882445)) (by decide +kernel)) dX1_anomalyOf_57 ?_
    have r_63 : fR 13740701229962882445 (-1074) (-1073) := fR_lit (by decide +kernel)
    refine zd_l_le (tgt := 76) hx hb dX1_anomalyOf_60 dX1_anomalyOf_61 (by decide) (fun c_64 => ?_) (fun c_64 => ?_)
    · exact hJ_1 (fun h => c_64 h.1) _ hl
    · refine lv_dload hx hb dX1_anomalyOf_64 (lv_at hl 1 rfl) ?_
      refine lv_ldc2d hx hb hown (hts (.constantDouble RX1 264 (4517329193108106637)) (by decide +kernel)) dX1_anomalyOf_66 ?_
      have r_65 : fR 4517329193108106637 1073 1074 := fR_lit (by decide +kernel)
      refine zd_g_ge (tgt := 76) hx hb dX1_anomalyOf_69 dX1_anomalyOf_70 (by decide) (fun c_66 => ?_) (fun c_66 => ?_)
      · exact hJ_1 (fun h => c_66 h.2) _ hl
      · refine lv_dload hx hb dX1_anomalyOf_73 (lv_at hl 0 rfl) ?_
        subst hQQ
        refine W.widen (k := 1) (n := 6) (Nat.le_of_ble_eq_true rfl) (Nat.le_of_ble_eq_true rfl) ?_
        exact vx_ret (W.dret hx hb hr (fun t ht hW => ⟨⟨_, (), rfl, (by unfold ANOM; rw [if_neg hno_0, if_pos ⟨c_64, c_66⟩]), ⟨by rw [ht]; exact hP, hD⟩⟩, hS.F ht⟩) hS.2.2 dX1_anomalyOf_75)
  refine lv_dload hx hb dX1_anomalyOf_55 (lv_at hl 1 rfl) ?_
  refine lv_ldc2d hx hb hown (hts (.constantDouble RX1 262 (13740701229962882445)) (by decide +kernel)) dX1_anomalyOf_57 ?_
  have r_67 : fR 13740701229962882445 (-1074) (-1073) := fR_lit (by decide +kernel)
  refine zd_l_le (tgt := 76) hx hb dX1_anomalyOf_60 dX1_anomalyOf_61 (by decide) (fun c_68 => ?_) (fun c_68 => ?_)
  · exact hJ_0 (fun h => c_68 h.1) _ hl
  · refine lv_dload hx hb dX1_anomalyOf_64 (lv_at hl 1 rfl) ?_
    refine lv_ldc2d hx hb hown (hts (.constantDouble RX1 264 (4517329193108106637)) (by decide +kernel)) dX1_anomalyOf_66 ?_
    have r_69 : fR 4517329193108106637 1073 1074 := fR_lit (by decide +kernel)
    refine zd_g_ge (tgt := 76) hx hb dX1_anomalyOf_69 dX1_anomalyOf_70 (by decide) (fun c_70 => ?_) (fun c_70 => ?_)
    · exact hJ_0 (fun h => c_70 h.2) _ hl
    · refine lv_dload hx hb dX1_anomalyOf_73 (lv_at hl 0 rfl) ?_
      subst hQQ
      refine W.widen (k := 1) (n := 6) (Nat.le_of_ble_eq_true rfl) (Nat.le_of_ble_eq_true rfl) ?_
      exact vx_ret (W.dret hx hb hr (fun t ht hW => ⟨⟨_, (), rfl, (by unfold ANOM; rw [if_pos ⟨c_68, c_70⟩]), ⟨by rw [ht]; exact hP, hD⟩⟩, hS.F ht⟩) hS.2.2 dX1_anomalyOf_75)

set_option maxRecDepth 100000 in
theorem an_R {oE x2 : UInt64} (he : fR oE 0 805306368) (h0 : fR x2 0 386547056640) : fR (an_x1 oE x2) (-1730750850968) 2117297907608 ∧ fR (an_x2 oE x2) (-10384505105808) 10771052162448 ∧ fR (an_x3 oE x2) (-53653276380008) 54039823436648 ∧ fR (an_x4 oE x2) (-269997132751008) 270383679807648 := by
  have r_2 : fR f_X1_degreesInRadian 61520874801 61520874802 := fR_lit (by decide +kernel)
  have r_3 := fR_mul he r_2 0 46140656102 (by decide) (by decide) rfl rfl
  have r_4 := SIN_R (fR_mono h0 (by decide) (by decide))
  have r_5 := fR_mul r_3 r_4 (-46140656102) 46140656102 (by decide) (by decide) rfl rfl
  have r_6 := fR_sub h0 r_5 (-46140656102) 432687712742 (by decide) (by decide) rfl rfl
  have r_7 := fR_sub r_6 h0 (-432687712742) 432687712742 (by decide) (by decide) rfl rfl
  have r_8 : fR FP.dconst1 1073741824 1073741824 := fR_lit (by decide +kernel)
  have r_9 := COS_R (fR_mono h0 (by decide) (by decide))
  have r_10 := fR_mul he r_9 (-805306368) 805306368 (by decide) (by decide) rfl rfl
  have r_11 := fR_sub r_8 r_10 268435456 1879048192 (by decide) (by decide) rfl rfl
  have r_12 := fR_div r_7 r_11 (by decide) (-1730750850968) 1730750850968 (by decide) (by decide) rfl rfl
  have r_13 := fR_sub h0 r_12 (-1730750850968) 2117297907608 (by decide) (by decide) rfl rfl
  have r_15 : fR f_X1_degreesInRadian 61520874801 61520874802 := fR_lit (by decide +kernel)
  have r_16 := fR_mul he r_15 0 46140656102 (by decide) (by decide) rfl rfl
  have r_17 := SIN_R (fR_mono r_13 (by decide) (by decide))
  have r_18 := fR_mul r_16 r_17 (-46140656102) 46140656102 (by decide) (by decide) rfl rfl
  have r_19 := fR_sub r_13 r_18 (-1776891507070) 2163438563710 (by decide) (by decide) rfl rfl
  have r_20 := fR_sub r_19 h0 (-2163438563710) 2163438563710 (by decide) (by decide) rfl rfl
  have r_21 : fR FP.dconst1 1073741824 1073741824 := fR_lit (by decide +kernel)
  have r_22 := COS_R (fR_mono r_13 (by decide) (by decide))
  have r_23 := fR_mul he r_22 (-805306368) 805306368 (by decide) (by decide) rfl rfl
  have r_24 := fR_sub r_21 r_23 268435456 1879048192 (by decide) (by decide) rfl rfl
  have r_25 := fR_div r_20 r_24 (by decide) (-8653754254840) 8653754254840 (by decide) (by decide) rfl rfl
  have r_26 := fR_sub r_13 r_25 (-10384505105808) 10771052162448 (by decide) (by decide) rfl rfl
  have r_28 : fR f_X1_degreesInRadian 61520874801 61520874802 := fR_lit (by decide +kernel)
  have r_29 := fR_mul he r_28 0 46140656102 (by decide) (by decide) rfl rfl
  have r_30 := SIN_R (fR_mono r_26 (by decide) (by decide))
  have r_31 := fR_mul r_29 r_30 (-46140656102) 46140656102 (by decide) (by decide) rfl rfl
  have r_32 := fR_sub r_26 r_31 (-10430645761910) 10817192818550 (by decide) (by decide) rfl rfl
  have r_33 := fR_sub r_32 h0 (-10817192818550) 10817192818550 (by decide) (by decide) rfl rfl
  have r_34 : fR FP.dconst1 1073741824 1073741824 := fR_lit (by decide +kernel)
  have r_35 := COS_R (fR_mono r_26 (by decide) (by decide))
  have r_36 := fR_mul he r_35 (-805306368) 805306368 (by decide) (by decide) rfl rfl
  have r_37 := fR_sub r_34 r_36 268435456 1879048192 (by decide) (by decide) rfl rfl
  have r_38 := fR_div r_33 r_37 (by decide) (-43268771274200) 43268771274200 (by decide) (by decide) rfl rfl
  have r_39 := fR_sub r_26 r_38 (-53653276380008) 54039823436648 (by decide) (by decide) rfl rfl
  have r_41 : fR f_X1_degreesInRadian 61520874801 61520874802 := fR_lit (by decide +kernel)
  have r_42 := fR_mul he r_41 0 46140656102 (by decide) (by decide) rfl rfl
  have r_43 := SIN_R (fR_mono r_39 (by decide) (by decide))
  have r_44 := fR_mul r_42 r_43 (-46140656102) 46140656102 (by decide) (by decide) rfl rfl
  have r_45 := fR_sub r_39 r_44 (-53699417036110) 54085964092750 (by decide) (by decide) rfl rfl
  have r_46 := fR_sub r_45 h0 (-54085964092750) 54085964092750 (by decide) (by decide) rfl rfl
  have r_47 : fR FP.dconst1 1073741824 1073741824 := fR_lit (by decide +kernel)
  have r_48 := COS_R (fR_mono r_39 (by decide) (by decide))
  have r_49 := fR_mul he r_48 (-805306368) 805306368 (by decide) (by decide) rfl rfl
  have r_50 := fR_sub r_47 r_49 268435456 1879048192 (by decide) (by decide) rfl rfl
  have r_51 := fR_div r_46 r_50 (by decide) (-216343856371000) 216343856371000 (by decide) (by decide) rfl rfl
  have r_52 := fR_sub r_39 r_51 (-269997132751008) 270383679807648 (by decide) (by decide) rfl rfl
  exact ⟨r_13, r_26, r_39, r_52⟩
theorem ANOM_R {oE x2 r : UInt64} (he : fR oE 0 805306368) (h0 : fR x2 0 386547056640) (h : ANOM oE x2 = .ok r) : fR r (-270383679807648) 270383679807648 := by
  obtain ⟨r1, r2, r3, r4⟩ := an_R he h0
  unfold ANOM at h
  split at h
  · cases h; exact fR_mono r1 (by decide) (by decide)
  · split at h
    · cases h; exact fR_mono r2 (by decide) (by decide)
    · split at h
      · cases h; exact fR_mono r3 (by decide) (by decide)
      · split at h
        · cases h; exact fR_mono r4 (by decide) (by decide)
        · cases h