/-- is it a failure? -/
def cFD {α : Type} : Except String α → Int32
  | .error _ => 1
  | .ok _ => 0
theorem LON_x {oL oN oE oW : UInt64} {k : Nat} {pw : Nat → Int32} {fa sa va : Nat → UInt64} {t : UInt64} {x : String} (h : ANOM oE (lon_m oL oN oW t) = .error x) : LON oL oN oE oW k pw fa sa va t = .error x := by unfold LON; rw [xb_err h]
theorem LON_o {oL oN oE oW : UInt64} {k : Nat} {pw : Nat → Int32} {fa sa va : Nat → UInt64} {t x : UInt64} (h : ANOM oE (lon_m oL oN oW t) = .ok x) : LON oL oN oE oW k pw fa sa va t = .ok (lon_r oE oW k pw fa sa va t x) := by unfold LON; rw [xb_ok h]
set_option maxHeartbeats 4000000 in
set_option maxRecDepth 100000 in
theorem k_X2_along (l : Launch) (hst : l.stackTraces = false) (dC : Nat → ClassId) (dI : Nat → Nat → Nat) (cA : Nat → ClassId) (tm tt sz : Nat) (am gs go gt gp gw gl : Nat) (th wo fu : Int32) (la ea : UInt64) (ln fd : Int32) (uf : Nat → UInt64) (tf : Nat → Int32) (pf : Nat → Int32) (wf : Nat → UInt64) (oL oN oE oW : UInt64) (k : Nat) (pw : Nat → Int32) (fa sa va : Nat → UInt64) (x1 : Int32) (x2 : UInt64) (hb1 : ¬ x1 < 0) (hb2 : ¬ 3 < x1) (hR : bR (Int32.toNatClampNeg x1) uf tf pf wf oL oN oE oW k pw fa sa va) (hO : oOK oL oN oE oW) (hT : tOK k fa sa va) (h0 : fR x2 (-2251799813685248) 2251799813685248) : Met l yX2_along wsX2_along ({ frames := 4, cells := 0, slots := 0, locals := 113 }) (PcW dC dI cA tm tt sz [.ref am, .int x1, .double x2] [(am, .inr (2, [.int th, .int wo, .int fu, .ref gs, .ref go, .ref gt, .ref gp, .ref gw, .double la, .double ea, .ref gl, .int ln, .int fd])), (go, aD 16 (cA 1) uf), (gt, aI 4 (cA 0) tf), (gp, aI 48 (cA 0) pf), (gw, aD 144 (cA 1) wf)]) (va_Qd (fun r (_ : Unit) => (∀ v, LON oL oN oE oW k pw fa sa va x2 = .ok v → r = v) ∧ fR r 0 386547056640) (fun _ t => WB dC dI (va_A [(am, .inr (2, [.int th, .int wo, .int fu, .ref gs, .ref go, .ref gt, .ref gp, .ref gw, .double la, .double ea, .ref gl, .int ln, .int fd])), (go, aD 16 (cA 1) uf), (gt, aI 4 (cA 0) tf), (gp, aI 48 (cA 0) pf), (gw, aD 144 (cA 1) wf)] sz) [(am, .inr (2, [.int th, .int (wo + 1), .int (fu + cFL (LON oL oN oE oW k pw fa sa va x2)), .ref gs, .ref go, .ref gt, .ref gp, .ref gw, .double la, .double ea, .ref gl, .int ln, .int (cFD (LON oL oN oE oW k pw fa sa va x2))])), (go, aD 16 (cA 1) uf), (gt, aI 4 (cA 0) tf), (gp, aI 48 (cA 0) pf), (gw, aD 144 (cA 1) wf)] t) (va_A [(am, .inr (2, [.int th, .int wo, .int fu, .ref gs, .ref go, .ref gt, .ref gp, .ref gw, .double la, .double ea, .ref gl, .int ln, .int fd])), (go, aD 16 (cA 1) uf), (gt, aI 4 (cA 0) tf), (gp, aI 48 (cA 0) pf), (gw, aD 144 (cA 1) wf)] sz)) 0 0 (va_A [(am, .inr (2, [.int th, .int wo, .int fu, .ref gs, .ref go, .ref gt, .ref gp, .ref gw, .double la, .double ea, .ref gl, .int ln, .int fd])), (go, aD 16 (cA 1) uf), (gt, aI 4 (cA 0) tf), (gp, aI 48 (cA 0) pf), (gw, aD 144 (cA 1) wf)] sz) := by
  refine Met.ofW (cc := cX2_along) (maxL := 17) (ret := (some .double)) (by decide) rfl ?_
  intro p e s m args below meth c s₁ B hml hv
  obtain ⟨rfl, hsz, hP, hK, hD0, hE⟩ := hv
  subst hsz
  have hD := hD0.self (sz := s.heap.size)
  generalize hAe : va_A [(am, .inr (2, [.int th, .int wo, .int fu, .ref gs, .ref go, .ref gt, .ref gp, .ref gw, .double la, .double ea, .ref gl, .int ln, .int fd])), (go, aD 16 (cA 1) uf), (gt, aI 4 (cA 0) tf), (gp, aI 48 (cA 0) pf), (gw, aD 144 (cA 1) wf)] s.heap.size = A at hD hE ⊢
  have hA : ∀ q : Nat, s.heap.size ≤ q → A q := fun q h => by rw [← hAe]; exact Or.inr h
  have hS : va_S A s.heap s.heap [] := va_S.rf
  have hP : va_P (dC, dI) vwCl [(am, .inr (2, [.int th, .int wo, .int fu, .ref gs, .ref go, .ref gt, .ref gp, .ref gw, .double la, .double ea, .ref gl, .int ln, .int fd])), (go, aD 16 (cA 1) uf), (gt, aI 4 (cA 0) tf), (gp, aI 48 (cA 0) pf), (gw, aD 144 (cA 1) wf)] s.heap := hP
  have hx := B.exec
  have hb := B.bytes
  have hr := B.returns
  have hts := atoms_spec (ws := wsX2_along) B.pre
  have hown : s.vm.findClass RX2 = some m.cls := findClass_of_methodNamed B.named
  have hlocks := B.notSynchronized
  have hl := lv_entry ([.ref am, .int x1, .double x2]) (n := 17) (Nat.le_of_ble_eq_true rfl)
  rw [lg_entry_eq]
  generalize (lg_sl ([.ref am, .int x1, .double x2]) ++ List.replicate (17 - (lg_sl ([.ref am, .int x1, .double x2])).length) Slot.unset).toArray = ls at hl ⊢
  have hl : lv_has ls 17 [(0, .ref am), (1, .int x1), (2, .double x2)] := hl
  have hin2 : ∀ w ∈ u_ws RX2 TX2 13, w ∈ wsX2_along := by decide +kernel
  refine W.gen (fun QQ hQQ => ?_)

  have hb4 := (bN_all hb1 hb2).1
  refine lv_aload_n hx hb dX2_along_0 rfl (lv_at hl 0 rfl) ?_
  refine va_get (D := (dC, dI)) (ci := 2) (v := .ref go) (C := RX2) (T := TX2) (N := 13) hx hb hts hin2 hown hK hP 0 rfl rfl 4 (by decide) (hts (.fieldLink RX2 13 "SkyAlmanacModel" "orbits" "[D") (by decide +kernel)) (fun _ h9 => h9) rfl dX2_along_1 ?_
  refine lv_iconst (v := 4) hx hb dX2_along_4 (by decide) ?_
  refine lv_iload_n hx hb dX2_along_5 rfl (lv_at hl 1 rfl) ?_
  refine lv_imul hx hb dX2_along_6 ?_
  rw [ix4 hb1 hb2]
  refine lv_iconst (v := 2) hx hb dX2_along_7 (by decide) ?_
  refine lv_iadd hx hb dX2_along_8 ?_
  rw [nI_2]
  refine va_dald hx hb hK hP 1 1 rfl rfl (vp_in_nI (show (4 * (Int32.toNatClampNeg x1) + 2) < 16 by have := (bN_all hb1 hb2).1; omega) (by decide)) dX2_along_9 ?_
  rw [nI_clamp (show (4 * (Int32.toNatClampNeg x1) + 2) < 2 ^ 31 by omega)]
  rw [hR.1.2.2.1]
  refine lv_dstore (lv' := [(4, .double oE), (0, .ref am), (1, .int x1), (2, .double x2)]) hx hb dX2_along_10 hl (by decide) rfl (fun ls hl => ?_)
  refine lv_aload_n hx hb dX2_along_12 rfl (lv_at hl 1 rfl) ?_
  refine va_get (D := (dC, dI)) (ci := 2) (v := .ref go) (C := RX2) (T := TX2) (N := 13) hx hb hts hin2 hown hK hP 0 rfl rfl 4 (by decide) (hts (.fieldLink RX2 13 "SkyAlmanacModel" "orbits" "[D") (by decide +kernel)) (fun _ h9 => h9) rfl dX2_along_13 ?_
  refine lv_iconst (v := 4) hx hb dX2_along_16 (by decide) ?_
  refine lv_iload_n hx hb dX2_along_17 rfl (lv_at hl 2 rfl) ?_
  refine lv_imul hx hb dX2_along_18 ?_
  rw [ix4 hb1 hb2]
  refine lv_iconst (v := 3) hx hb dX2_along_19 (by decide) ?_
  refine lv_iadd hx hb dX2_along_20 ?_
  rw [nI_3]
  refine va_dald hx hb hK hP 1 1 rfl rfl (vp_in_nI (show (4 * (Int32.toNatClampNeg x1) + 3) < 16 by have := (bN_all hb1 hb2).1; omega) (by decide)) dX2_along_21 ?_
  rw [nI_clamp (show (4 * (Int32.toNatClampNeg x1) + 3) < 2 ^ 31 by omega)]
  rw [hR.1.2.2.2]
  refine lv_dstore (lv' := [(6, .double oW), (4, .double oE), (0, .ref am), (1, .int x1), (2, .double x2)]) hx hb dX2_along_22 hl (by decide) rfl (fun ls hl => ?_)
  refine lv_aload_n hx hb dX2_along_24 rfl (lv_at hl 2 rfl) ?_
  refine va_get (D := (dC, dI)) (ci := 2) (v := .ref go) (C := RX2) (T := TX2) (N := 13) hx hb hts hin2 hown hK hP 0 rfl rfl 4 (by decide) (hts (.fieldLink RX2 13 "SkyAlmanacModel" "orbits" "[D") (by decide +kernel)) (fun _ h9 => h9) rfl dX2_along_25 ?_
  refine lv_iconst (v := 4) hx hb dX2_along_28 (by decide) ?_
  refine lv_iload_n hx hb dX2_along_29 rfl (lv_at hl 3 rfl) ?_
  refine lv_imul hx hb dX2_along_30 ?_
  rw [ix4 hb1 hb2]
  refine va_dald hx hb hK hP 1 1 rfl rfl (vp_in_nI (show (4 * (Int32.toNatClampNeg x1)) < 16 by have := (bN_all hb1 hb2).1; omega) (by decide)) dX2_along_31 ?_
  rw [nI_clamp (show (4 * (Int32.toNatClampNeg x1)) < 2 ^ 31 by omega)]
  rw [hR.1.1]
  refine lv_aload_n hx hb dX2_along_32 rfl (lv_at hl 2 rfl) ?_
  refine va_get (D := (dC, dI)) (ci := 2) (v := .ref go) (C := RX2) (T := TX2) (N := 13) hx hb hts hin2 hown hK hP 0 rfl rfl 4 (by decide) (hts (.fieldLink RX2 13 "SkyAlmanacModel" "orbits" "[D") (by decide +kernel)) (fun _ h9 => h9) rfl dX2_along_33 ?_
  refine lv_iconst (v := 4) hx hb dX2_along_36 (by decide) ?_
  refine lv_iload_n hx hb dX2_along_37 rfl (lv_at hl 3 rfl) ?_
  refine lv_imul hx hb dX2_along_38 ?_
  rw [ix4 hb1 hb2]
  refine lv_iconst (v := 1) hx hb dX2_along_39 (by decide) ?_
  refine lv_iadd hx hb dX2_along_40 ?_
  rw [nI_1]
  refine va_dald hx hb hK hP 1 1 rfl rfl (vp_in_nI (show (4 * (Int32.toNatClampNeg x1) + 1) < 16 by have := (bN_all hb1 hb2).1; omega) (by decide)) dX2_along_41 ?_
  rw [nI_clamp (show (4 * (Int32.toNatClampNeg x1) + 1) < 2 ^ 31 by omega)]
  rw [hR.1.2.1]
  refine lv_dload_n hx hb dX2_along_42 rfl (lv_at hl 4 rfl) ?_
  have r_1 := fR_mul hO.2.1 h0 (-225179981368524800) 225179981368524800 (by decide) (by decide) rfl rfl
  refine lv_dmul hx hb dX2_along_43 (fR_nn r_1) ?_
  have r_2 := fR_add hO.1 r_1 (-225180367915581440) 225180367915581440 (by decide) (by decide) rfl rfl
  refine lv_dadd hx hb dX2_along_44 (fR_nn r_2) ?_
  refine lv_dload hx hb dX2_along_45 (lv_at hl 0 rfl) ?_
  have r_3 := fR_sub r_2 hO.2.2.2 (-225180754462638080) 225180754462638080 (by decide) (by decide) rfl rfl
  refine lv_dsub hx hb dX2_along_47 (fR_nn r_3) ?_
  refine vp_callSd (W.runS (As := [.double (FP.dsub (FP.dadd oL (FP.dmul oN x2)) oW)]) (rest := []) ⟨hx, hb, hml, hown, hts⟩ (k_X2_red l (FP.dsub (FP.dadd oL (FP.dmul oN x2)) oW) (fR_mono r_3 (by decide) (by decide))) (va_cwS 1 hts gX2_along_X2_red rfl rfl rfl (by decide +kernel) ⟨Nat.le_of_ble_eq_true rfl, Nat.le_of_ble_eq_true rfl⟩) preEq rfl rfl hl.1 rfl (lv_room (Nat.le_of_ble_eq_true rfl)) dX2_along_48 ⟨Nat.le_of_ble_eq_true rfl, Nat.le_of_ble_eq_true rfl⟩) (fun r hr9 => ?_)
  obtain rfl := hr9
  have r_4 := RED_R (fR_mono r_3 (by decide) (by decide))
  refine lv_dstore (lv' := [(8, .double (lon_m oL oN oW x2)), (6, .double oW), (4, .double oE), (0, .ref am), (1, .int x1), (2, .double x2)]) hx hb dX2_along_51 hl (by decide) rfl (fun ls hl => ?_)
  refine lv_dload hx hb dX2_along_53 (lv_at hl 0 rfl) ?_
  refine lv_dstore (lv' := [(10, .double (lon_m oL oN oW x2)), (8, .double (lon_m oL oN oW x2)), (6, .double oW), (4, .double oE), (0, .ref am), (1, .int x1), (2, .double x2)]) hx hb dX2_along_55 hl (by decide) rfl (fun ls hl => ?_)
  have hm9 : fR (lon_m oL oN oW x2) 0 386547056640 := r_4
  obtain ⟨rx1, rx2, rx3, rx4⟩ := an_R hO.2.2.1 hm9
  have hOK : ∀ xe : UInt64, ANOM oE (lon_m oL oN oW x2) = .ok xe → ∀ ls : Array Slot, lv_has ls 17 [(6, .double oW), (4, .double oE), (0, .ref am), (1, .int x1), (2, .double x2), (10, .double xe), (12, .int 1)] → W p l e (headSpec wsX2_along ({ frames := 4, cells := 0, slots := 0, locals := 113 })).room s m ([.ref am, .int x1, .double x2] : List Value).toArray below meth c s.heap [] 0 0 QQ (F0 m 143 ls []) := by
    intro xe hA9 ls hl
    have hxe : fR (xe) (-270383679807648) 270383679807648 := ANOM_R hO.2.2.1 hm9 hA9
    refine lv_aload_n hx hb dX2_along_143 rfl (lv_at hl 2 rfl) ?_
    refine lv_dup hx hb dX2_along_144 rfl ?_
    refine va_get (D := (dC, dI)) (ci := 2) (v := .int wo) (C := RX2) (T := TX2) (N := 13) hx hb hts hin2 hown hK hP 0 rfl rfl 1 (by decide) (hts (.fieldLink RX2 199 "SkyAlmanacModel" "worked" "I") (by decide +kernel)) (fun _ h9 => h9) rfl dX2_along_145 ?_
    refine lv_iconst (v := 1) hx hb dX2_along_148 (by decide) ?_
    refine lv_iadd hx hb dX2_along_149 ?_
    refine va_put (D := (dC, dI)) (ci := 2) (v := .int (wo + 1)) (ty := .int) (C := RX2) (T := TX2) (N := 13) hx hb hts hin2 tyX2 tyX2_ok nmX2 hown hK hP hD hS 0 rfl rfl 1 (by decide) (hts (.fieldLink RX2 199 "SkyAlmanacModel" "worked" "I") (by decide +kernel)) (fun _ h9 => h9) rfl (by decide +kernel) rfl rfl (Nat.le_of_ble_eq_true rfl) dX2_along_150 (fun H locs hP hD hS => ?_)
    have hP : va_P (dC, dI) vwCl [(am, .inr (2, [.int th, .int (wo + 1), .int fu, .ref gs, .ref go, .ref gt, .ref gp, .ref gw, .double la, .double ea, .ref gl, .int ln, .int fd])), (go, aD 16 (cA 1) uf), (gt, aI 4 (cA 0) tf), (gp, aI 48 (cA 0) pf), (gw, aD 144 (cA 1) wf)] H := hP
    have hD : va_D A [(am, .inr (2, [.int th, .int (wo + 1), .int fu, .ref gs, .ref go, .ref gt, .ref gp, .ref gw, .double la, .double ea, .ref gl, .int ln, .int fd])), (go, aD 16 (cA 1) uf), (gt, aI 4 (cA 0) tf), (gp, aI 48 (cA 0) pf), (gw, aD 144 (cA 1) wf)] := hD
    refine lv_aload_n hx hb dX2_along_153 rfl (lv_at hl 2 rfl) ?_
    refine lv_iload hx hb dX2_along_154 (lv_at hl 6 rfl) ?_
    refine lv_if_ne (tgt := 163) hx hb dX2_along_156 (by decide) (fun _ => ?_) (fun c_5 => absurd c_5 (by decide))
    refine lv_iconst (v := 0) hx hb dX2_along_163 (by decide) ?_
    refine va_put (D := (dC, dI)) (ci := 2) (v := .int 0) (ty := .boolean) (C := RX2) (T := TX2) (N := 13) hx hb hts hin2 tyX2 tyX2_ok nmX2 hown hK hP hD hS 0 rfl rfl 12 (by decide) (hts (.fieldLink RX2 202 "SkyAlmanacModel" "failed" "Z") (by decide +kernel)) (fun _ h9 => h9) rfl (by decide +kernel) rfl rfl (Nat.le_of_ble_eq_true rfl) dX2_along_164 (fun H locs hP hD hS => ?_)
    have hP : va_P (dC, dI) vwCl [(am, .inr (2, [.int th, .int (wo + 1), .int fu, .ref gs, .ref go, .ref gt, .ref gp, .ref gw, .double la, .double ea, .ref gl, .int ln, .int 0])), (go, aD 16 (cA 1) uf), (gt, aI 4 (cA 0) tf), (gp, aI 48 (cA 0) pf), (gw, aD 144 (cA 1) wf)] H := hP
    have hD : va_D A [(am, .inr (2, [.int th, .int (wo + 1), .int fu, .ref gs, .ref go, .ref gt, .ref gp, .ref gw, .double la, .double ea, .ref gl, .int ln, .int 0])), (go, aD 16 (cA 1) uf), (gt, aI 4 (cA 0) tf), (gp, aI 48 (cA 0) pf), (gw, aD 144 (cA 1) wf)] := hD
    refine lv_aload_n hx hb dX2_along_167 rfl (lv_at hl 2 rfl) ?_
    refine lv_dup hx hb dX2_along_168 rfl ?_
    refine va_get (D := (dC, dI)) (ci := 2) (v := .int fu) (C := RX2) (T := TX2) (N := 13) hx hb hts hin2 hown hK hP 0 rfl rfl 2 (by decide) (hts (.fieldLink RX2 206 "SkyAlmanacModel" "failures" "I") (by decide +kernel)) (fun _ h9 => h9) rfl dX2_along_169 ?_
    refine lv_iload hx hb dX2_along_172 (lv_at hl 6 rfl) ?_
    refine lv_if_eq (tgt := 181) hx hb dX2_along_174 (by decide) (fun c_6 => absurd c_6 (by decide)) (fun _ => ?_)
    refine lv_iconst (v := 0) hx hb dX2_along_177 (by decide) ?_
    refine lv_goto (tgt := 182) hx hb dX2_along_178 (by decide) ?_
    refine lv_iadd hx hb dX2_along_182 ?_
    refine va_put (D := (dC, dI)) (ci := 2) (v := .int (fu + 0)) (ty := .int) (C := RX2) (T := TX2) (N := 13) hx hb hts hin2 tyX2 tyX2_ok nmX2 hown hK hP hD hS 0 rfl rfl 2 (by decide) (hts (.fieldLink RX2 206 "SkyAlmanacModel" "failures" "I") (by decide +kernel)) (fun _ h9 => h9) rfl (by decide +kernel) rfl rfl (Nat.le_of_ble_eq_true rfl) dX2_along_183 (fun H locs hP hD hS => ?_)
    have hP : va_P (dC, dI) vwCl [(am, .inr (2, [.int th, .int (wo + 1), .int (fu + 0), .ref gs, .ref go, .ref gt, .ref gp, .ref gw, .double la, .double ea, .ref gl, .int ln, .int 0])), (go, aD 16 (cA 1) uf), (gt, aI 4 (cA 0) tf), (gp, aI 48 (cA 0) pf), (gw, aD 144 (cA 1) wf)] H := hP
    have hD : va_D A [(am, .inr (2, [.int th, .int (wo + 1), .int (fu + 0), .ref gs, .ref go, .ref gt, .ref gp, .ref gw, .double la, .double ea, .ref gl, .int ln, .int 0])), (go, aD 16 (cA 1) uf), (gt, aI 4 (cA 0) tf), (gp, aI 48 (cA 0) pf), (gw, aD 144 (cA 1) wf)] := hD
    refine lv_dload hx hb dX2_along_186 (lv_at hl 5 rfl) ?_
    refine lv_dload hx hb dX2_along_188 (lv_at hl 1 rfl) ?_
    refine lv_ldc2d hx hb hown (hts (.constantDouble RX2 190 (4633260481411531256)) (by decide +kernel)) dX2_along_190 ?_
    have r_7 : fR 4633260481411531256 61520874801 61520874802 := fR_lit (by decide +kernel)
    have r_8 := fR_mul hO.2.2.1 r_7 0 46140656102 (by decide) (by decide) rfl rfl
    refine lv_dmul hx hb dX2_along_193 (fR_nn r_8) ?_
    refine lv_dload hx hb dX2_along_194 (lv_at hl 5 rfl) ?_
    refine vp_callSd (W.runS (As := [.double xe]) (rest := [.double (FP.dmul oE 4633260481411531256), .double xe]) ⟨hx, hb, hml, hown, hts⟩ (k_X2_sine l xe (fR_mono hxe (by decide) (by decide))) (va_cwS 1 hts gX2_along_X2_sine rfl rfl rfl (by decide +kernel) ⟨Nat.le_of_ble_eq_true rfl, Nat.le_of_ble_eq_true rfl⟩) preEq rfl rfl hl.1 rfl (lv_room (Nat.le_of_ble_eq_true rfl)) dX2_along_196 ⟨Nat.le_of_ble_eq_true rfl, Nat.le_of_ble_eq_true rfl⟩) (fun r hr9 => ?_)
    obtain rfl := hr9
    have r_9 := SIN_R (fR_mono hxe (by decide) (by decide))
    have r_10 := fR_mul r_8 r_9 (-46140656102) 46140656102 (by decide) (by decide) rfl rfl
    refine lv_dmul hx hb dX2_along_199 (fR_nn r_10) ?_
    have r_11 := fR_add hxe r_10 (-270429820463750) 270429820463750 (by decide) (by decide) rfl rfl
    refine lv_dadd hx hb dX2_along_200 (fR_nn r_11) ?_
    refine lv_ldc2d hx hb hown (hts (.constantDouble RX2 122 (4602678819172646912)) (by decide +kernel)) dX2_along_201 ?_
    have r_12 : fR 4602678819172646912 536870912 536870912 := fR_lit (by decide +kernel)
    refine lv_dload hx hb dX2_along_204 (lv_at hl 1 rfl) ?_
    have r_13 := fR_mul r_12 hO.2.2.1 0 402653184 (by decide) (by decide) rfl rfl
    refine lv_dmul hx hb dX2_along_206 (fR_nn r_13) ?_
    refine lv_dload hx hb dX2_along_207 (lv_at hl 1 rfl) ?_
    have r_14 := fR_mul r_13 hO.2.2.1 0 301989888 (by decide) (by decide) rfl rfl
    refine lv_dmul hx hb dX2_along_209 (fR_nn r_14) ?_
    refine lv_ldc2d hx hb hown (hts (.constantDouble RX2 190 (4633260481411531256)) (by decide +kernel)) dX2_along_210 ?_
    have r_15 : fR 4633260481411531256 61520874801 61520874802 := fR_lit (by decide +kernel)
    have r_16 := fR_mul r_14 r_15 0 17302746039 (by decide) (by decide) rfl rfl
    refine lv_dmul hx hb dX2_along_213 (fR_nn r_16) ?_
    refine lv_ldc2d hx hb hown (hts (.constantDouble RX2 209 (4611686018427387904)) (by decide +kernel)) dX2_along_214 ?_
    have r_17 : fR 4611686018427387904 2147483648 2147483648 := fR_lit (by decide +kernel)
    refine lv_dload hx hb dX2_along_217 (lv_at hl 5 rfl) ?_
    have r_18 := fR_mul r_17 hxe (-540767359615296) 540767359615296 (by decide) (by decide) rfl rfl
    refine lv_dmul hx hb dX2_along_219 (fR_nn r_18) ?_
    refine vp_callSd (W.runS (As := [.double (FP.dmul 4611686018427387904 xe)]) (rest := [.double (FP.dmul (FP.dmul (FP.dmul 4602678819172646912 oE) oE) 4633260481411531256), .double (FP.dadd xe (FP.dmul (FP.dmul oE 4633260481411531256) (SIN xe)))]) ⟨hx, hb, hml, hown, hts⟩ (k_X2_sine l (FP.dmul 4611686018427387904 xe) (fR_mono r_18 (by decide) (by decide))) (va_cwS 1 hts gX2_along_X2_sine rfl rfl rfl (by decide +kernel) ⟨Nat.le_of_ble_eq_true rfl, Nat.le_of_ble_eq_true rfl⟩) preEq rfl rfl hl.1 rfl (lv_room (Nat.le_of_ble_eq_true rfl)) dX2_along_220 ⟨Nat.le_of_ble_eq_true rfl, Nat.le_of_ble_eq_true rfl⟩) (fun r hr9 => ?_)
    obtain rfl := hr9
    have r_19 := SIN_R (fR_mono r_18 (by decide) (by decide))
    have r_20 := fR_mul r_16 r_19 (-17302746039) 17302746039 (by decide) (by decide) rfl rfl
    refine lv_dmul hx hb dX2_along_223 (fR_nn r_20) ?_
    have r_21 := fR_add r_11 r_20 (-270447123209789) 270447123209789 (by decide) (by decide) rfl rfl
    refine lv_dadd hx hb dX2_along_224 (fR_nn r_21) ?_
    refine lv_dstore (lv' := [(13, .double (lon_y oE xe)), (6, .double oW), (4, .double oE), (0, .ref am), (1, .int x1), (2, .double x2), (10, .double xe), (12, .int 1)]) hx hb dX2_along_225 hl (by decide) rfl (fun ls hl => ?_)
    refine lv_dload_n hx hb dX2_along_227 rfl (lv_at hl 5 rfl) ?_
    refine lv_ldc2d hx hb hown (hts (.constantDouble RX2 211 (4652007308841189376)) (by decide +kernel)) dX2_along_228 ?_
    have r_22 : fR 4652007308841189376 1073741824000 1073741824000 := fR_lit (by decide +kernel)
    have r_23 := fR_div h0 r_22 (by decide) (-2251799813686) 2251799813686 (by decide) (by decide) rfl rfl
    refine lv_ddiv hx hb dX2_along_231 (fR_nn r_23) ?_
    refine lv_dstore (lv' := [(15, .double (FP.ddiv x2 4652007308841189376)), (13, .double (lon_y oE xe)), (6, .double oW), (4, .double oE), (0, .ref am), (1, .int x1), (2, .double x2), (10, .double xe), (12, .int 1)]) hx hb dX2_along_232 hl (by decide) rfl (fun ls hl => ?_)
    refine lv_dload hx hb dX2_along_234 (lv_at hl 1 rfl) ?_
    refine lv_dload hx hb dX2_along_236 (lv_at hl 2 rfl) ?_
    have r_24 := fR_add r_21 hO.2.2.2 (-270833670266429) 270833670266429 (by decide) (by decide) rfl rfl
    refine lv_dadd hx hb dX2_along_238 (fR_nn r_24) ?_
    refine lv_aload_n hx hb dX2_along_239 rfl (lv_at hl 4 rfl) ?_
    refine lv_iload_n hx hb dX2_along_240 rfl (lv_at hl 5 rfl) ?_
    refine lv_iconst (v := 0) hx hb dX2_along_241 (by decide) ?_
    refine lv_dload_n hx hb dX2_along_242 rfl (lv_at hl 6 rfl) ?_
    have hPc := hP.sub (ws' := [(am, .inr (2, [.int th, .int (wo + 1), .int (fu + 0), .ref gs, .ref go, .ref gt, .ref gp, .ref gw, .double la, .double ea, .ref gl, .int ln, .int 0])), (gt, aI 4 (cA 0) tf), (gp, aI 48 (cA 0) pf), (gw, aD 144 (cA 1) wf)]) [0, 2, 3, 4] rfl
    refine vp_callSd (W.runV (As := [.int x1, .int 0, .double x2]) (rest := [.double (FP.dadd (lon_y oE xe) oW)]) ⟨hx, hb, hml, hown, hts⟩ (k_X2_sum l dC dI cA tm tt am gs go gt gp gw gl th (wo + 1) (fu + 0) la ea ln 0 tf pf wf uf oL oN oE oW k pw fa sa va x1 0 x2 hb1 hb2 hR hT h0) (cwV 3 hts gX2_along_X2_sum rfl rfl rfl (by decide +kernel) ⟨Nat.le_of_ble_eq_true rfl, Nat.le_of_ble_eq_true rfl⟩) ⟨PcO.blind, va_recv hK hPc (ci := 2) (q0 := 0) rfl rfl, PcO.give hPc hK hE hS⟩ rfl rfl hl.1 rfl (lv_room (Nat.le_of_ble_eq_true rfl)) dX2_along_243 ⟨Nat.le_of_ble_eq_true rfl, Nat.le_of_ble_eq_true rfl⟩) (fun r hr9 => ?_)
    obtain rfl := hr9
    have r_25 : fR (SUMP pw fa sa va 0 x2 k) (-128849018880) 128849018880 := by
      have hk9 := hT.1
      exact fR_mono (SUMP_R h0 hT k (Nat.le_refl k)) (by omega) (by omega)
    refine lv_dload hx hb dX2_along_246 (lv_at hl 0 rfl) ?_
    refine lv_aload_n hx hb dX2_along_248 rfl (lv_at hl 4 rfl) ?_
    refine lv_iload_n hx hb dX2_along_249 rfl (lv_at hl 5 rfl) ?_
    refine lv_iconst (v := 1) hx hb dX2_along_250 (by decide) ?_
    refine lv_dload_n hx hb dX2_along_251 rfl (lv_at hl 6 rfl) ?_
    have hPc := hP.sub (ws' := [(am, .inr (2, [.int th, .int (wo + 1), .int (fu + 0), .ref gs, .ref go, .ref gt, .ref gp, .ref gw, .double la, .double ea, .ref gl, .int ln, .int 0])), (gt, aI 4 (cA 0) tf), (gp, aI 48 (cA 0) pf), (gw, aD 144 (cA 1) wf)]) [0, 2, 3, 4] rfl
    refine vp_callSd (W.runV (As := [.int x1, .int 1, .double x2]) (rest := [.double (FP.ddiv x2 4652007308841189376), .double (SUMP pw fa sa va 0 x2 k), .double (FP.dadd (lon_y oE xe) oW)]) ⟨hx, hb, hml, hown, hts⟩ (k_X2_sum l dC dI cA tm tt am gs go gt gp gw gl th (wo + 1) (fu + 0) la ea ln 0 tf pf wf uf oL oN oE oW k pw fa sa va x1 1 x2 hb1 hb2 hR hT h0) (cwV 3 hts gX2_along_X2_sum rfl rfl rfl (by decide +kernel) ⟨Nat.le_of_ble_eq_true rfl, Nat.le_of_ble_eq_true rfl⟩) ⟨PcO.blind, va_recv hK hPc (ci := 2) (q0 := 0) rfl rfl, PcO.give hPc hK hE hS⟩ rfl rfl hl.1 rfl (lv_room (Nat.le_of_ble_eq_true rfl)) dX2_along_252 ⟨Nat.le_of_ble_eq_true rfl, Nat.le_of_ble_eq_true rfl⟩) (fun r hr9 => ?_)
    obtain rfl := hr9
    have r_26 : fR (SUMP pw fa sa va 1 x2 k) (-128849018880) 128849018880 := by
      have hk9 := hT.1
      exact fR_mono (SUMP_R h0 hT k (Nat.le_refl k)) (by omega) (by omega)
    refine lv_dload hx hb dX2_along_255 (lv_at hl 0 rfl) ?_
    refine lv_aload_n hx hb dX2_along_257 rfl (lv_at hl 4 rfl) ?_
    refine lv_iload_n hx hb dX2_along_258 rfl (lv_at hl 5 rfl) ?_
    refine lv_iconst (v := 2) hx hb dX2_along_259 (by decide) ?_
    refine lv_dload_n hx hb dX2_along_260 rfl (lv_at hl 6 rfl) ?_
    have hPc := hP.sub (ws' := [(am, .inr (2, [.int th, .int (wo + 1), .int (fu + 0), .ref gs, .ref go, .ref gt, .ref gp, .ref gw, .double la, .double ea, .ref gl, .int ln, .int 0])), (gt, aI 4 (cA 0) tf), (gp, aI 48 (cA 0) pf), (gw, aD 144 (cA 1) wf)]) [0, 2, 3, 4] rfl
    refine vp_callSd (zr_runV (Nat.le_of_ble_eq_true rfl) (As := [.int x1, .int 2, .double x2]) (rest := [.double (FP.ddiv x2 4652007308841189376), .double (SUMP pw fa sa va 1 x2 k), .double (FP.ddiv x2 4652007308841189376), .double (SUMP pw fa sa va 0 x2 k), .double (FP.dadd (lon_y oE xe) oW)]) ⟨hx, hb, hml, hown, hts⟩ (k_X2_sum l dC dI cA tm tt am gs go gt gp gw gl th (wo + 1) (fu + 0) la ea ln 0 tf pf wf uf oL oN oE oW k pw fa sa va x1 2 x2 hb1 hb2 hR hT h0) (cwV 3 hts gX2_along_X2_sum rfl rfl rfl (by decide +kernel) ⟨Nat.le_of_ble_eq_true rfl, Nat.le_of_ble_eq_true rfl⟩) ⟨PcO.blind, va_recv hK hPc (ci := 2) (q0 := 0) rfl rfl, PcO.give hPc hK hE hS⟩ rfl rfl hl.1 rfl (zr_room (Nat.le_of_ble_eq_true rfl)) dX2_along_261 ⟨Nat.le_of_ble_eq_true rfl, Nat.le_of_ble_eq_true rfl⟩) (fun r hr9 => ?_)
    obtain rfl := hr9
    have r_27 : fR (SUMP pw fa sa va 2 x2 k) (-128849018880) 128849018880 := by
      have hk9 := hT.1
      exact fR_mono (SUMP_R h0 hT k (Nat.le_refl k)) (by omega) (by omega)
    have r_28 := fR_mul r_23 r_27 (-270215977642320) 270215977642320 (by decide) (by decide) rfl rfl
    refine lv_dmul hx hb dX2_along_264 (fR_nn r_28) ?_
    have r_29 := fR_add r_26 r_28 (-270344826661200) 270344826661200 (by decide) (by decide) rfl rfl
    refine lv_dadd hx hb dX2_along_265 (fR_nn r_29) ?_
    have r_30 := fR_mul r_23 r_29 (-566954194381045760) 566954194381045760 (by decide) (by decide) rfl rfl
    refine lv_dmul hx hb dX2_along_266 (fR_nn r_30) ?_
    have r_31 := fR_add r_25 r_30 (-566954323230064640) 566954323230064640 (by decide) (by decide) rfl rfl
    refine lv_dadd hx hb dX2_along_267 (fR_nn r_31) ?_
    have r_32 := fR_add r_24 r_31 (-567225157425299456) 567225157425299456 (by decide) (by decide) rfl rfl
    refine lv_dadd hx hb dX2_along_268 (fR_nn r_32) ?_
    refine vp_callSd (W.runS (As := [.double (FP.dadd (FP.dadd (lon_y oE xe) oW) (lon_w k pw fa sa va x2))]) (rest := []) ⟨hx, hb, hml, hown, hts⟩ (k_X2_red l (FP.dadd (FP.dadd (lon_y oE xe) oW) (lon_w k pw fa sa va x2)) (fR_mono r_32 (by decide) (by decide))) (va_cwS 1 hts gX2_along_X2_red rfl rfl rfl (by decide +kernel) ⟨Nat.le_of_ble_eq_true rfl, Nat.le_of_ble_eq_true rfl⟩) preEq rfl rfl hl.1 rfl (lv_room (Nat.le_of_ble_eq_true rfl)) dX2_along_269 ⟨Nat.le_of_ble_eq_true rfl, Nat.le_of_ble_eq_true rfl⟩) (fun r hr9 => ?_)
    obtain rfl := hr9
    have r_33 := RED_R (fR_mono r_32 (by decide) (by decide))
    have e9 : LON oL oN oE oW k pw fa sa va x2 = .ok (lon_r oE oW k pw fa sa va x2 xe) := LON_o hA9
    have hP : va_P (dC, dI) vwCl [(am, .inr (2, [.int th, .int (wo + 1), .int (fu + cFL (LON oL oN oE oW k pw fa sa va x2)), .ref gs, .ref go, .ref gt, .ref gp, .ref gw, .double la, .double ea, .ref gl, .int ln, .int (cFD (LON oL oN oE oW k pw fa sa va x2))])), (go, aD 16 (cA 1) uf), (gt, aI 4 (cA 0) tf), (gp, aI 48 (cA 0) pf), (gw, aD 144 (cA 1) wf)] H := by rw [e9]; rw [cFL_ok]; exact hP
    have hD : va_D A [(am, .inr (2, [.int th, .int (wo + 1), .int (fu + cFL (LON oL oN oE oW k pw fa sa va x2)), .ref gs, .ref go, .ref gt, .ref gp, .ref gw, .double la, .double ea, .ref gl, .int ln, .int (cFD (LON oL oN oE oW k pw fa sa va x2))])), (go, aD 16 (cA 1) uf), (gt, aI 4 (cA 0) tf), (gp, aI 48 (cA 0) pf), (gw, aD 144 (cA 1) wf)] := by rw [e9]; rw [cFL_ok]; exact hD
    subst hQQ
    exact W.dret hx hb hr (fun t ht hW => ⟨⟨_, (), rfl, ⟨(fun v hv => by rw [e9] at hv; cases hv; rfl), r_33⟩, ⟨by rw [ht]; exact hP, hD⟩⟩, hS.F ht⟩) hS.2.2 dX2_along_272
  have hBAD : ANOM oE (lon_m oL oN oW x2) = .error xIS → ∀ ls : Array Slot, lv_has ls 17 [(6, .double oW), (4, .double oE), (0, .ref am), (1, .int x1), (2, .double x2), (10, .double (an_x4 oE (lon_m oL oN oW x2))), (12, .int 0)] → W p l e (headSpec wsX2_along ({ frames := 4, cells := 0, slots := 0, locals := 113 })).room s m ([.ref am, .int x1, .double x2] : List Value).toArray below meth c s.heap [] 0 0 QQ (F0 m 143 ls []) := by
    intro hA9 ls hl
    have hxe : fR (an_x4 oE (lon_m oL oN oW x2)) (-270383679807648) 270383679807648 := fR_mono rx4 (by decide) (by decide)
    refine lv_aload_n hx hb dX2_along_143 rfl (lv_at hl 2 rfl) ?_
    refine lv_dup hx hb dX2_along_144 rfl ?_
    refine va_get (D := (dC, dI)) (ci := 2) (v := .int wo) (C := RX2) (T := TX2) (N := 13) hx hb hts hin2 hown hK hP 0 rfl rfl 1 (by decide) (hts (.fieldLink RX2 199 "SkyAlmanacModel" "worked" "I") (by decide +kernel)) (fun _ h9 => h9) rfl dX2_along_145 ?_
    refine lv_iconst (v := 1) hx hb dX2_along_148 (by decide) ?_
    refine lv_iadd hx hb dX2_along_149 ?_
    refine va_put (D := (dC, dI)) (ci := 2) (v := .int (wo + 1)) (ty := .int) (C := RX2) (T := TX2) (N := 13) hx hb hts hin2 tyX2 tyX2_ok nmX2 hown hK hP hD hS 0 rfl rfl 1 (by decide) (hts (.fieldLink RX2 199 "SkyAlmanacModel" "worked" "I") (by decide +kernel)) (fun _ h9 => h9) rfl (by decide +kernel) rfl rfl (Nat.le_of_ble_eq_true rfl) dX2_along_150 (fun H locs hP hD hS => ?_)
    have hP : va_P (dC, dI) vwCl [(am, .inr (2, [.int th, .int (wo + 1), .int fu, .ref gs, .ref go, .ref gt, .ref gp, .ref gw, .double la, .double ea, .ref gl, .int ln, .int fd])), (go, aD 16 (cA 1) uf), (gt, aI 4 (cA 0) tf), (gp, aI 48 (cA 0) pf), (gw, aD 144 (cA 1) wf)] H := hP
    have hD : va_D A [(am, .inr (2, [.int th, .int (wo + 1), .int fu, .ref gs, .ref go, .ref gt, .ref gp, .ref gw, .double la, .double ea, .ref gl, .int ln, .int fd])), (go, aD 16 (cA 1) uf), (gt, aI 4 (cA 0) tf), (gp, aI 48 (cA 0) pf), (gw, aD 144 (cA 1) wf)] := hD
    refine lv_aload_n hx hb dX2_along_153 rfl (lv_at hl 2 rfl) ?_
    refine lv_iload hx hb dX2_along_154 (lv_at hl 6 rfl) ?_
    refine lv_if_ne (tgt := 163) hx hb dX2_along_156 (by decide) (fun c_34 => absurd c_34 (by decide)) (fun _ => ?_)
    refine lv_iconst (v := 1) hx hb dX2_along_159 (by decide) ?_
    refine lv_goto (tgt := 164) hx hb dX2_along_160 (by decide) ?_
    refine va_put (D := (dC, dI)) (ci := 2) (v := .int 1) (ty := .boolean) (C := RX2) (T := TX2) (N := 13) hx hb hts hin2 tyX2 tyX2_ok nmX2 hown hK hP hD hS 0 rfl rfl 12 (by decide) (hts (.fieldLink RX2 202 "SkyAlmanacModel" "failed" "Z") (by decide +kernel)) (fun _ h9 => h9) rfl (by decide +kernel) rfl rfl (Nat.le_of_ble_eq_true rfl) dX2_along_164 (fun H locs hP hD hS => ?_)
    have hP : va_P (dC, dI) vwCl [(am, .inr (2, [.int th, .int (wo + 1), .int fu, .ref gs, .ref go, .ref gt, .ref gp, .ref gw, .double la, .double ea, .ref gl, .int ln, .int 1])), (go, aD 16 (cA 1) uf), (gt, aI 4 (cA 0) tf), (gp, aI 48 (cA 0) pf), (gw, aD 144 (cA 1) wf)] H := hP
    have hD : va_D A [(am, .inr (2, [.int th, .int (wo + 1), .int fu, .ref gs, .ref go, .ref gt, .ref gp, .ref gw, .double la, .double ea, .ref gl, .int ln, .int 1])), (go, aD 16 (cA 1) uf), (gt, aI 4 (cA 0) tf), (gp, aI 48 (cA 0) pf), (gw, aD 144 (cA 1) wf)] := hD
    refine lv_aload_n hx hb dX2_along_167 rfl (lv_at hl 2 rfl) ?_
    refine lv_dup hx hb dX2_along_168 rfl ?_
    refine va_get (D := (dC, dI)) (ci := 2) (v := .int fu) (C := RX2) (T := TX2) (N := 13) hx hb hts hin2 hown hK hP 0 rfl rfl 2 (by decide) (hts (.fieldLink RX2 206 "SkyAlmanacModel" "failures" "I") (by decide +kernel)) (fun _ h9 => h9) rfl dX2_along_169 ?_
    refine lv_iload hx hb dX2_along_172 (lv_at hl 6 rfl) ?_
    refine lv_if_eq (tgt := 181) hx hb dX2_along_174 (by decide) (fun _ => ?_) (fun c_35 => absurd c_35 (by decide))
    refine lv_iconst (v := 1) hx hb dX2_along_181 (by decide) ?_
    refine lv_iadd hx hb dX2_along_182 ?_
    refine va_put (D := (dC, dI)) (ci := 2) (v := .int (fu + 1)) (ty := .int) (C := RX2) (T := TX2) (N := 13) hx hb hts hin2 tyX2 tyX2_ok nmX2 hown hK hP hD hS 0 rfl rfl 2 (by decide) (hts (.fieldLink RX2 206 "SkyAlmanacModel" "failures" "I") (by decide +kernel)) (fun _ h9 => h9) rfl (by decide +kernel) rfl rfl (Nat.le_of_ble_eq_true rfl) dX2_along_183 (fun H locs hP hD hS => ?_)
    have hP : va_P (dC, dI) vwCl [(am, .inr (2, [.int th, .int (wo + 1), .int (fu + 1), .ref gs, .ref go, .ref gt, .ref gp, .ref gw, .double la, .double ea, .ref gl, .int ln, .int 1])), (go, aD 16 (cA 1) uf), (gt, aI 4 (cA 0) tf), (gp, aI 48 (cA 0) pf), (gw, aD 144 (cA 1) wf)] H := hP
    have hD : va_D A [(am, .inr (2, [.int th, .int (wo + 1), .int (fu + 1), .ref gs, .ref go, .ref gt, .ref gp, .ref gw, .double la, .double ea, .ref gl, .int ln, .int 1])), (go, aD 16 (cA 1) uf), (gt, aI 4 (cA 0) tf), (gp, aI 48 (cA 0) pf), (gw, aD 144 (cA 1) wf)] := hD
    refine lv_dload hx hb dX2_along_186 (lv_at hl 5 rfl) ?_
    refine lv_dload hx hb dX2_along_188 (lv_at hl 1 rfl) ?_
    refine lv_ldc2d hx hb hown (hts (.constantDouble RX2 190 (4633260481411531256)) (by decide +kernel)) dX2_along_190 ?_
    have r_36 : fR 4633260481411531256 61520874801 61520874802 := fR_lit (by decide +kernel)
    have r_37 := fR_mul hO.2.2.1 r_36 0 46140656102 (by decide) (by decide) rfl rfl
    refine lv_dmul hx hb dX2_along_193 (fR_nn r_37) ?_
    refine lv_dload hx hb dX2_along_194 (lv_at hl 5 rfl) ?_
    refine vp_callSd (W.runS (As := [.double (an_x4 oE (lon_m oL oN oW x2))]) (rest := [.double (FP.dmul oE 4633260481411531256), .double (an_x4 oE (lon_m oL oN oW x2))]) ⟨hx, hb, hml, hown, hts⟩ (k_X2_sine l (an_x4 oE (lon_m oL oN oW x2)) (fR_mono hxe (by decide) (by decide))) (va_cwS 1 hts gX2_along_X2_sine rfl rfl rfl (by decide +kernel) ⟨Nat.le_of_ble_eq_true rfl, Nat.le_of_ble_eq_true rfl⟩) preEq rfl rfl hl.1 rfl (lv_room (Nat.le_of_ble_eq_true rfl)) dX2_along_196 ⟨Nat.le_of_ble_eq_true rfl, Nat.le_of_ble_eq_true rfl⟩) (fun r hr9 => ?_)
    obtain rfl := hr9
    have r_38 := SIN_R (fR_mono hxe (by decide) (by decide))
    have r_39 := fR_mul r_37 r_38 (-46140656102) 46140656102 (by decide) (by decide) rfl rfl
    refine lv_dmul hx hb dX2_along_199 (fR_nn r_39) ?_
    have r_40 := fR_add hxe r_39 (-270429820463750) 270429820463750 (by decide) (by decide) rfl rfl
    refine lv_dadd hx hb dX2_along_200 (fR_nn r_40) ?_
    refine lv_ldc2d hx hb hown (hts (.constantDouble RX2 122 (4602678819172646912)) (by decide +kernel)) dX2_along_201 ?_
    have r_41 : fR 4602678819172646912 536870912 536870912 := fR_lit (by decide +kernel)
    refine lv_dload hx hb dX2_along_204 (lv_at hl 1 rfl) ?_
    have r_42 := fR_mul r_41 hO.2.2.1 0 402653184 (by decide) (by decide) rfl rfl
    refine lv_dmul hx hb dX2_along_206 (fR_nn r_42) ?_
    refine lv_dload hx hb dX2_along_207 (lv_at hl 1 rfl) ?_
    have r_43 := fR_mul r_42 hO.2.2.1 0 301989888 (by decide) (by decide) rfl rfl
    refine lv_dmul hx hb dX2_along_209 (fR_nn r_43) ?_
    refine lv_ldc2d hx hb hown (hts (.constantDouble RX2 190 (4633260481411531256)) (by decide +kernel)) dX2_along_210 ?_
    have r_44 : fR 4633260481411531256 61520874801 61520874802 := fR_lit (by decide +kernel)
    have r_45 := fR_mul r_43 r_44 0 17302746039 (by decide) (by decide) rfl rfl
    refine lv_dmul hx hb dX2_along_213 (fR_nn r_45) ?_
    refine lv_ldc2d hx hb hown (hts (.constantDouble RX2 209 (4611686018427387904)) (by decide +kernel)) dX2_along_214 ?_
    have r_46 : fR 4611686018427387904 2147483648 2147483648 := fR_lit (by decide +kernel)
    refine lv_dload hx hb dX2_along_217 (lv_at hl 5 rfl) ?_
    have r_47 := fR_mul r_46 hxe (-540767359615296) 540767359615296 (by decide) (by decide) rfl rfl
    refine lv_dmul hx hb dX2_along_219 (fR_nn r_47) ?_
    refine vp_callSd (W.runS (As := [.double (FP.dmul 4611686018427387904 (an_x4 oE (lon_m oL oN oW x2)))]) (rest := [.double (FP.dmul (FP.dmul (FP.dmul 4602678819172646912 oE) oE) 4633260481411531256), .double (FP.dadd (an_x4 oE (lon_m oL oN oW x2)) (FP.dmul (FP.dmul oE 4633260481411531256) (SIN (an_x4 oE (lon_m oL oN oW x2)))))]) ⟨hx, hb, hml, hown, hts⟩ (k_X2_sine l (FP.dmul 4611686018427387904 (an_x4 oE (lon_m oL oN oW x2))) (fR_mono r_47 (by decide) (by decide))) (va_cwS 1 hts gX2_along_X2_sine rfl rfl rfl (by decide +kernel) ⟨Nat.le_of_ble_eq_true rfl, Nat.le_of_ble_eq_true rfl⟩) preEq rfl rfl hl.1 rfl (lv_room (Nat.le_of_ble_eq_true rfl)) dX2_along_220 ⟨Nat.le_of_ble_eq_true rfl, Nat.le_of_ble_eq_true rfl⟩) (fun r hr9 => ?_)
    obtain rfl := hr9
    have r_48 := SIN_R (fR_mono r_47 (by decide) (by decide))
    have r_49 := fR_mul r_45 r_48 (-17302746039) 17302746039 (by decide) (by decide) rfl rfl
    refine lv_dmul hx hb dX2_along_223 (fR_nn r_49) ?_
    have r_50 := fR_add r_40 r_49 (-270447123209789) 270447123209789 (by decide) (by decide) rfl rfl
    refine lv_dadd hx hb dX2_along_224 (fR_nn r_50) ?_
    refine lv_dstore (lv' := [(13, .double (lon_y oE (an_x4 oE (lon_m oL oN oW x2)))), (6, .double oW), (4, .double oE), (0, .ref am), (1, .int x1), (2, .double x2), (10, .double (an_x4 oE (lon_m oL oN oW x2))), (12, .int 0)]) hx hb dX2_along_225 hl (by decide) rfl (fun ls hl => ?_)
    refine lv_dload_n hx hb dX2_along_227 rfl (lv_at hl 5 rfl) ?_
    refine lv_ldc2d hx hb hown (hts (.constantDouble RX2 211 (4652007308841189376)) (by decide +kernel)) dX2_along_228 ?_
    have r_51 : fR 4652007308841189376 1073741824000 1073741824000 := fR_lit (by decide +kernel)
    have r_52 := fR_div h0 r_51 (by decide) (-2251799813686) 2251799813686 (by decide) (by decide) rfl rfl
    refine lv_ddiv hx hb dX2_along_231 (fR_nn r_52) ?_
    refine lv_dstore (lv' := [(15, .double (FP.ddiv x2 4652007308841189376)), (13, .double (lon_y oE (an_x4 oE (lon_m oL oN oW x2)))), (6, .double oW), (4, .double oE), (0, .ref am), (1, .int x1), (2, .double x2), (10, .double (an_x4 oE (lon_m oL oN oW x2))), (12, .int 0)]) hx hb dX2_along_232 hl (by decide) rfl (fun ls hl => ?_)
    refine lv_dload hx hb dX2_along_234 (lv_at hl 1 rfl) ?_
    refine lv_dload hx hb dX2_along_236 (lv_at hl 2 rfl) ?_
    have r_53 := fR_add r_50 hO.2.2.2 (-270833670266429) 270833670266429 (by decide) (by decide) rfl rfl
    refine lv_dadd hx hb dX2_along_238 (fR_nn r_53) ?_
    refine lv_aload_n hx hb dX2_along_239 rfl (lv_at hl 4 rfl) ?_
    refine lv_iload_n hx hb dX2_along_240 rfl (lv_at hl 5 rfl) ?_
    refine lv_iconst (v := 0) hx hb dX2_along_241 (by decide) ?_
    refine lv_dload_n hx hb dX2_along_242 rfl (lv_at hl 6 rfl) ?_
    have hPc := hP.sub (ws' := [(am, .inr (2, [.int th, .int (wo + 1), .int (fu + 1), .ref gs, .ref go, .ref gt, .ref gp, .ref gw, .double la, .double ea, .ref gl, .int ln, .int 1])), (gt, aI 4 (cA 0) tf), (gp, aI 48 (cA 0) pf), (gw, aD 144 (cA 1) wf)]) [0, 2, 3, 4] rfl
    refine vp_callSd (W.runV (As := [.int x1, .int 0, .double x2]) (rest := [.double (FP.dadd (lon_y oE (an_x4 oE (lon_m oL oN oW x2))) oW)]) ⟨hx, hb, hml, hown, hts⟩ (k_X2_sum l dC dI cA tm tt am gs go gt gp gw gl th (wo + 1) (fu + 1) la ea ln 1 tf pf wf uf oL oN oE oW k pw fa sa va x1 0 x2 hb1 hb2 hR hT h0) (cwV 3 hts gX2_along_X2_sum rfl rfl rfl (by decide +kernel) ⟨Nat.le_of_ble_eq_true rfl, Nat.le_of_ble_eq_true rfl⟩) ⟨PcO.blind, va_recv hK hPc (ci := 2) (q0 := 0) rfl rfl, PcO.give hPc hK hE hS⟩ rfl rfl hl.1 rfl (lv_room (Nat.le_of_ble_eq_true rfl)) dX2_along_243 ⟨Nat.le_of_ble_eq_true rfl, Nat.le_of_ble_eq_true rfl⟩) (fun r hr9 => ?_)
    obtain rfl := hr9
    have r_54 : fR (SUMP pw fa sa va 0 x2 k) (-128849018880) 128849018880 := by
      have hk9 := hT.1
      exact fR_mono (SUMP_R h0 hT k (Nat.le_refl k)) (by omega) (by omega)
    refine lv_dload hx hb dX2_along_246 (lv_at hl 0 rfl) ?_
    refine lv_aload_n hx hb dX2_along_248 rfl (lv_at hl 4 rfl) ?_
    refine lv_iload_n hx hb dX2_along_249 rfl (lv_at hl 5 rfl) ?_
    refine lv_iconst (v := 1) hx hb dX2_along_250 (by decide) ?_
    refine lv_dload_n hx hb dX2_along_251 rfl (lv_at hl 6 rfl) ?_
    have hPc := hP.sub (ws' := [(am, .inr (2, [.int th, .int (wo + 1), .int (fu + 1), .ref gs, .ref go, .ref gt, .ref gp, .ref gw, .double la, .double ea, .ref gl, .int ln, .int 1])), (gt, aI 4 (cA 0) tf), (gp, aI 48 (cA 0) pf), (gw, aD 144 (cA 1) wf)]) [0, 2, 3, 4] rfl
    refine vp_callSd (W.runV (As := [.int x1, .int 1, .double x2]) (rest := [.double (FP.ddiv x2 4652007308841189376), .double (SUMP pw fa sa va 0 x2 k), .double (FP.dadd (lon_y oE (an_x4 oE (lon_m oL oN oW x2))) oW)]) ⟨hx, hb, hml, hown, hts⟩ (k_X2_sum l dC dI cA tm tt am gs go gt gp gw gl th (wo + 1) (fu + 1) la ea ln 1 tf pf wf uf oL oN oE oW k pw fa sa va x1 1 x2 hb1 hb2 hR hT h0) (cwV 3 hts gX2_along_X2_sum rfl rfl rfl (by decide +kernel) ⟨Nat.le_of_ble_eq_true rfl, Nat.le_of_ble_eq_true rfl⟩) ⟨PcO.blind, va_recv hK hPc (ci := 2) (q0 := 0) rfl rfl, PcO.give hPc hK hE hS⟩ rfl rfl hl.1 rfl (lv_room (Nat.le_of_ble_eq_true rfl)) dX2_along_252 ⟨Nat.le_of_ble_eq_true rfl, Nat.le_of_ble_eq_true rfl⟩) (fun r hr9 => ?_)
    obtain rfl := hr9
    have r_55 : fR (SUMP pw fa sa va 1 x2 k) (-128849018880) 128849018880 := by
      have hk9 := hT.1
      exact fR_mono (SUMP_R h0 hT k (Nat.le_refl k)) (by omega) (by omega)
    refine lv_dload hx hb dX2_along_255 (lv_at hl 0 rfl) ?_
    refine lv_aload_n hx hb dX2_along_257 rfl (lv_at hl 4 rfl) ?_
    refine lv_iload_n hx hb dX2_along_258 rfl (lv_at hl 5 rfl) ?_
    refine lv_iconst (v := 2) hx hb dX2_along_259 (by decide) ?_
    refine lv_dload_n hx hb dX2_along_260 rfl (lv_at hl 6 rfl) ?_
    have hPc := hP.sub (ws' := [(am, .inr (2, [.int th, .int (wo + 1), .int (fu + 1), .ref gs, .ref go, .ref gt, .ref gp, .ref gw, .double la, .double ea, .ref gl, .int ln, .int 1])), (gt, aI 4 (cA 0) tf), (gp, aI 48 (cA 0) pf), (gw, aD 144 (cA 1) wf)]) [0, 2, 3, 4] rfl
    refine vp_callSd (zr_runV (Nat.le_of_ble_eq_true rfl) (As := [.int x1, .int 2, .double x2]) (rest := [.double (FP.ddiv x2 4652007308841189376), .double (SUMP pw fa sa va 1 x2 k), .double (FP.ddiv x2 4652007308841189376), .double (SUMP pw fa sa va 0 x2 k), .double (FP.dadd (lon_y oE (an_x4 oE (lon_m oL oN oW x2))) oW)]) ⟨hx, hb, hml, hown, hts⟩ (k_X2_sum l dC dI cA tm tt am gs go gt gp gw gl th (wo + 1) (fu + 1) la ea ln 1 tf pf wf uf oL oN oE oW k pw fa sa va x1 2 x2 hb1 hb2 hR hT h0) (cwV 3 hts gX2_along_X2_sum rfl rfl rfl (by decide +kernel) ⟨Nat.le_of_ble_eq_true rfl, Nat.le_of_ble_eq_true rfl⟩) ⟨PcO.blind, va_recv hK hPc (ci := 2) (q0 := 0) rfl rfl, PcO.give hPc hK hE hS⟩ rfl rfl hl.1 rfl (zr_room (Nat.le_of_ble_eq_true rfl)) dX2_along_261 ⟨Nat.le_of_ble_eq_true rfl, Nat.le_of_ble_eq_true rfl⟩) (fun r hr9 => ?_)
    obtain rfl := hr9
    have r_56 : fR (SUMP pw fa sa va 2 x2 k) (-128849018880) 128849018880 := by
      have hk9 := hT.1
      exact fR_mono (SUMP_R h0 hT k (Nat.le_refl k)) (by omega) (by omega)
    have r_57 := fR_mul r_52 r_56 (-270215977642320) 270215977642320 (by decide) (by decide) rfl rfl
    refine lv_dmul hx hb dX2_along_264 (fR_nn r_57) ?_
    have r_58 := fR_add r_55 r_57 (-270344826661200) 270344826661200 (by decide) (by decide) rfl rfl
    refine lv_dadd hx hb dX2_along_265 (fR_nn r_58) ?_
    have r_59 := fR_mul r_52 r_58 (-566954194381045760) 566954194381045760 (by decide) (by decide) rfl rfl
    refine lv_dmul hx hb dX2_along_266 (fR_nn r_59) ?_
    have r_60 := fR_add r_54 r_59 (-566954323230064640) 566954323230064640 (by decide) (by decide) rfl rfl
    refine lv_dadd hx hb dX2_along_267 (fR_nn r_60) ?_
    have r_61 := fR_add r_53 r_60 (-567225157425299456) 567225157425299456 (by decide) (by decide) rfl rfl
    refine lv_dadd hx hb dX2_along_268 (fR_nn r_61) ?_
    refine vp_callSd (W.runS (As := [.double (FP.dadd (FP.dadd (lon_y oE (an_x4 oE (lon_m oL oN oW x2))) oW) (lon_w k pw fa sa va x2))]) (rest := []) ⟨hx, hb, hml, hown, hts⟩ (k_X2_red l (FP.dadd (FP.dadd (lon_y oE (an_x4 oE (lon_m oL oN oW x2))) oW) (lon_w k pw fa sa va x2)) (fR_mono r_61 (by decide) (by decide))) (va_cwS 1 hts gX2_along_X2_red rfl rfl rfl (by decide +kernel) ⟨Nat.le_of_ble_eq_true rfl, Nat.le_of_ble_eq_true rfl⟩) preEq rfl rfl hl.1 rfl (lv_room (Nat.le_of_ble_eq_true rfl)) dX2_along_269 ⟨Nat.le_of_ble_eq_true rfl, Nat.le_of_ble_eq_true rfl⟩) (fun r hr9 => ?_)
    obtain rfl := hr9
    have r_62 := RED_R (fR_mono r_61 (by decide) (by decide))
    have e9 : LON oL oN oE oW k pw fa sa va x2 = .error xIS := LON_x hA9
    have hP : va_P (dC, dI) vwCl [(am, .inr (2, [.int th, .int (wo + 1), .int (fu + cFL (LON oL oN oE oW k pw fa sa va x2)), .ref gs, .ref go, .ref gt, .ref gp, .ref gw, .double la, .double ea, .ref gl, .int ln, .int (cFD (LON oL oN oE oW k pw fa sa va x2))])), (go, aD 16 (cA 1) uf), (gt, aI 4 (cA 0) tf), (gp, aI 48 (cA 0) pf), (gw, aD 144 (cA 1) wf)] H := by rw [e9]; rw [cFL_IS]; exact hP
    have hD : va_D A [(am, .inr (2, [.int th, .int (wo + 1), .int (fu + cFL (LON oL oN oE oW k pw fa sa va x2)), .ref gs, .ref go, .ref gt, .ref gp, .ref gw, .double la, .double ea, .ref gl, .int ln, .int (cFD (LON oL oN oE oW k pw fa sa va x2))])), (go, aD 16 (cA 1) uf), (gt, aI 4 (cA 0) tf), (gp, aI 48 (cA 0) pf), (gw, aD 144 (cA 1) wf)] := by rw [e9]; rw [cFL_IS]; exact hD
    subst hQQ
    exact W.dret hx hb hr (fun t ht hW => ⟨⟨_, (), rfl, ⟨(fun v hv => by rw [e9] at hv; cases hv), r_62⟩, ⟨by rw [ht]; exact hP, hD⟩⟩, hS.F ht⟩) hS.2.2 dX2_along_272
  refine lv_iconst (v := 0) hx hb dX2_along_57 (by decide) ?_
  refine lv_istore (lv' := [(12, .int 0), (10, .double (lon_m oL oN oW x2)), (8, .double (lon_m oL oN oW x2)), (6, .double oW), (4, .double oE), (0, .ref am), (1, .int x1), (2, .double x2)]) hx hb dX2_along_58 hl (by decide) rfl (fun ls hl => ?_)
  refine lv_iconst (v := 0) hx hb dX2_along_60 (by decide) ?_
  refine lv_istore (lv' := [(13, .int 0), (12, .int 0), (10, .double (lon_m oL oN oW x2)), (8, .double (lon_m oL oN oW x2)), (6, .double oW), (4, .double oE), (0, .ref am), (1, .int x1), (2, .double x2)]) hx hb dX2_along_61 hl (by decide) rfl (fun ls hl => ?_)
  refine lv_iload hx hb dX2_along_63 (lv_at hl 0 rfl) ?_
  refine lv_iconst (v := 4) hx hb dX2_along_65 (by decide) ?_
  refine lv_icmp_ge (tgt := 143) hx hb dX2_along_66 (by decide) (fun c_63 => absurd c_63 (by decide)) (fun _ => ?_)
  refine lv_iload hx hb dX2_along_69 (lv_at hl 1 rfl) ?_
  refine lv_if_ne (tgt := 143) hx hb dX2_along_71 (by decide) (fun c_64 => absurd c_64 (by decide)) (fun _ => ?_)
  refine lv_dload hx hb dX2_along_74 (lv_at hl 2 rfl) ?_
  refine lv_dload hx hb dX2_along_76 (lv_at hl 5 rfl) ?_
  refine lv_ldc2d hx hb hown (hts (.constantDouble RX2 190 (4633260481411531256)) (by decide +kernel)) dX2_along_78 ?_
  have r_65 : fR 4633260481411531256 61520874801 61520874802 := fR_lit (by decide +kernel)
  have r_66 := fR_mul hO.2.2.1 r_65 0 46140656102 (by decide) (by decide) rfl rfl
  refine lv_dmul hx hb dX2_along_81 (fR_nn r_66) ?_
  refine lv_dload hx hb dX2_along_82 (lv_at hl 2 rfl) ?_
  refine vp_callSd (W.runS (As := [.double (lon_m oL oN oW x2)]) (rest := [.double (FP.dmul oE 4633260481411531256), .double (lon_m oL oN oW x2)]) ⟨hx, hb, hml, hown, hts⟩ (k_X2_sine l (lon_m oL oN oW x2) (fR_mono r_4 (by decide) (by decide))) (va_cwS 1 hts gX2_along_X2_sine rfl rfl rfl (by decide +kernel) ⟨Nat.le_of_ble_eq_true rfl, Nat.le_of_ble_eq_true rfl⟩) preEq rfl rfl hl.1 rfl (lv_room (Nat.le_of_ble_eq_true rfl)) dX2_along_84 ⟨Nat.le_of_ble_eq_true rfl, Nat.le_of_ble_eq_true rfl⟩) (fun r hr9 => ?_)
  obtain rfl := hr9
  have r_67 := SIN_R (fR_mono r_4 (by decide) (by decide))
  have r_68 := fR_mul r_66 r_67 (-46140656102) 46140656102 (by decide) (by decide) rfl rfl
  refine lv_dmul hx hb dX2_along_87 (fR_nn r_68) ?_
  have r_69 := fR_sub r_4 r_68 (-46140656102) 432687712742 (by decide) (by decide) rfl rfl
  refine lv_dsub hx hb dX2_along_88 (fR_nn r_69) ?_
  refine lv_dload hx hb dX2_along_89 (lv_at hl 3 rfl) ?_
  have r_70 := fR_sub r_69 r_4 (-432687712742) 432687712742 (by decide) (by decide) rfl rfl
  refine lv_dsub hx hb dX2_along_91 (fR_nn r_70) ?_
  refine lv_dconst1 hx hb dX2_along_92 ?_
  have r_71 : fR FP.dconst1 1073741824 1073741824 := fR_lit (by decide +kernel)
  refine lv_dload hx hb dX2_along_93 (lv_at hl 5 rfl) ?_
  refine lv_dload hx hb dX2_along_95 (lv_at hl 2 rfl) ?_
  refine vp_callSd (W.runS (As := [.double (lon_m oL oN oW x2)]) (rest := [.double oE, .double FP.dconst1, .double (FP.dsub (FP.dsub (lon_m oL oN oW x2) (FP.dmul (FP.dmul oE 4633260481411531256) (SIN (lon_m oL oN oW x2)))) (lon_m oL oN oW x2))]) ⟨hx, hb, hml, hown, hts⟩ (k_X2_cosine l (lon_m oL oN oW x2) (fR_mono r_4 (by decide) (by decide))) (va_cwS 1 hts gX2_along_X2_cosine rfl rfl rfl (by decide +kernel) ⟨Nat.le_of_ble_eq_true rfl, Nat.le_of_ble_eq_true rfl⟩) preEq rfl rfl hl.1 rfl (lv_room (Nat.le_of_ble_eq_true rfl)) dX2_along_97 ⟨Nat.le_of_ble_eq_true rfl, Nat.le_of_ble_eq_true rfl⟩) (fun r hr9 => ?_)
  obtain rfl := hr9
  have r_72 := COS_R (fR_mono r_4 (by decide) (by decide))
  have r_73 := fR_mul hO.2.2.1 r_72 (-805306368) 805306368 (by decide) (by decide) rfl rfl
  refine lv_dmul hx hb dX2_along_100 (fR_nn r_73) ?_
  have r_74 := fR_sub r_71 r_73 268435456 1879048192 (by decide) (by decide) rfl rfl
  refine lv_dsub hx hb dX2_along_101 (fR_nn r_74) ?_
  have r_75 := fR_div r_70 r_74 (by decide) (-1730750850968) 1730750850968 (by decide) (by decide) rfl rfl
  refine lv_ddiv hx hb dX2_along_102 (fR_nn r_75) ?_
  refine lv_dstore (lv' := [(14, .double (an_d oE (lon_m oL oN oW x2) (lon_m oL oN oW x2))), (13, .int 0), (12, .int 0), (10, .double (lon_m oL oN oW x2)), (8, .double (lon_m oL oN oW x2)), (6, .double oW), (4, .double oE), (0, .ref am), (1, .int x1), (2, .double x2)]) hx hb dX2_along_103 hl (by decide) rfl (fun ls hl => ?_)
  refine lv_dload hx hb dX2_along_105 (lv_at hl 3 rfl) ?_
  refine lv_dload hx hb dX2_along_107 (lv_at hl 0 rfl) ?_
  have r_76 := fR_sub r_4 r_75 (-1730750850968) 2117297907608 (by decide) (by decide) rfl rfl
  refine lv_dsub hx hb dX2_along_109 (fR_nn r_76) ?_
  refine lv_dstore (lv' := [(10, .double (an_x1 oE (lon_m oL oN oW x2))), (14, .double (an_d oE (lon_m oL oN oW x2) (lon_m oL oN oW x2))), (13, .int 0), (12, .int 0), (8, .double (lon_m oL oN oW x2)), (6, .double oW), (4, .double oE), (0, .ref am), (1, .int x1), (2, .double x2)]) hx hb dX2_along_110 hl (by decide) rfl (fun ls hl => ?_)
  have hJ_0 : ¬ an_ok oE (lon_m oL oN oW x2) (lon_m oL oN oW x2) → ∀ ls : Array Slot, lv_has ls 17 [(10, .double (an_x1 oE (lon_m oL oN oW x2))), (14, .double (an_d oE (lon_m oL oN oW x2) (lon_m oL oN oW x2))), (13, .int 0), (12, .int 0), (8, .double (lon_m oL oN oW x2)), (6, .double oW), (4, .double oE), (0, .ref am), (1, .int x1), (2, .double x2)] → W p l e (headSpec wsX2_along ({ frames := 4, cells := 0, slots := 0, locals := 113 })).room s m ([.ref am, .int x1, .double x2] : List Value).toArray below meth c s.heap [] 0 0 QQ (F0 m 134 ls []) := by
    intro hno_0 ls hl
    refine lv_iconst (v := 0) hx hb dX2_along_134 (by decide) ?_
    refine lv_istore (lv' := [(12, .int 0), (10, .double (an_x1 oE (lon_m oL oN oW x2))), (14, .double (an_d oE (lon_m oL oN oW x2) (lon_m oL oN oW x2))), (13, .int 0), (8, .double (lon_m oL oN oW x2)), (6, .double oW), (4, .double oE), (0, .ref am), (1, .int x1), (2, .double x2)]) hx hb dX2_along_135 hl (by decide) rfl (fun ls hl => ?_)
    refine lv_iinc (v := 1) (lv' := [(13, .int 1), (12, .int 0), (10, .double (an_x1 oE (lon_m oL oN oW x2))), (14, .double (an_d oE (lon_m oL oN oW x2) (lon_m oL oN oW x2))), (8, .double (lon_m oL oN oW x2)), (6, .double oW), (4, .double oE), (0, .ref am), (1, .int x1), (2, .double x2)]) hx hb dX2_along_137 hl (k := 3) rfl (by first | rfl | decide) (by decide) rfl (fun ls hl => ?_)
    refine lv_goto (tgt := 63) hx hb dX2_along_140 (by decide) ?_
    refine lv_iload hx hb dX2_along_63 (lv_at hl 0 rfl) ?_
    refine lv_iconst (v := 4) hx hb dX2_along_65 (by decide) ?_
    refine lv_icmp_ge (tgt := 143) hx hb dX2_along_66 (by decide) (fun c_77 => absurd c_77 (by decide)) (fun _ => ?_)
    refine lv_iload hx hb dX2_along_69 (lv_at hl 1 rfl) ?_
    refine lv_if_ne (tgt := 143) hx hb dX2_along_71 (by decide) (fun c_78 => absurd c_78 (by decide)) (fun _ => ?_)
    refine lv_dload hx hb dX2_along_74 (lv_at hl 2 rfl) ?_
    refine lv_dload hx hb dX2_along_76 (lv_at hl 6 rfl) ?_
    refine lv_ldc2d hx hb hown (hts (.constantDouble RX2 190 (4633260481411531256)) (by decide +kernel)) dX2_along_78 ?_
    have r_79 : fR 4633260481411531256 61520874801 61520874802 := fR_lit (by decide +kernel)
    have r_80 := fR_mul hO.2.2.1 r_79 0 46140656102 (by decide) (by decide) rfl rfl
    refine lv_dmul hx hb dX2_along_81 (fR_nn r_80) ?_
    refine lv_dload hx hb dX2_along_82 (lv_at hl 2 rfl) ?_
    refine vp_callSd (W.runS (As := [.double (an_x1 oE (lon_m oL oN oW x2))]) (rest := [.double (FP.dmul oE 4633260481411531256), .double (an_x1 oE (lon_m oL oN oW x2))]) ⟨hx, hb, hml, hown, hts⟩ (k_X2_sine l (an_x1 oE (lon_m oL oN oW x2)) (fR_mono rx1 (by decide) (by decide))) (va_cwS 1 hts gX2_along_X2_sine rfl rfl rfl (by decide +kernel) ⟨Nat.le_of_ble_eq_true rfl, Nat.le_of_ble_eq_true rfl⟩) preEq rfl rfl hl.1 rfl (lv_room (Nat.le_of_ble_eq_true rfl)) dX2_along_84 ⟨Nat.le_of_ble_eq_true rfl, Nat.le_of_ble_eq_true rfl⟩) (fun r hr9 => ?_)
    obtain rfl := hr9
    have r_81 := SIN_R (fR_mono rx1 (by decide) (by decide))
    have r_82 := fR_mul r_80 r_81 (-46140656102) 46140656102 (by decide) (by decide) rfl rfl
    refine lv_dmul hx hb dX2_along_87 (fR_nn r_82) ?_
    have r_83 := fR_sub rx1 r_82 (-1776891507070) 2163438563710 (by decide) (by decide) rfl rfl
    refine lv_dsub hx hb dX2_along_88 (fR_nn r_83) ?_
    refine lv_dload hx hb dX2_along_89 (lv_at hl 4 rfl) ?_
    have r_84 := fR_sub r_83 r_4 (-2163438563710) 2163438563710 (by decide) (by decide) rfl rfl
    refine lv_dsub hx hb dX2_along_91 (fR_nn r_84) ?_
    refine lv_dconst1 hx hb dX2_along_92 ?_
    have r_85 : fR FP.dconst1 1073741824 1073741824 := fR_lit (by decide +kernel)
    refine lv_dload hx hb dX2_along_93 (lv_at hl 6 rfl) ?_
    refine lv_dload hx hb dX2_along_95 (lv_at hl 2 rfl) ?_
    refine vp_callSd (W.runS (As := [.double (an_x1 oE (lon_m oL oN oW x2))]) (rest := [.double oE, .double FP.dconst1, .double (FP.dsub (FP.dsub (an_x1 oE (lon_m oL oN oW x2)) (FP.dmul (FP.dmul oE 4633260481411531256) (SIN (an_x1 oE (lon_m oL oN oW x2))))) (lon_m oL oN oW x2))]) ⟨hx, hb, hml, hown, hts⟩ (k_X2_cosine l (an_x1 oE (lon_m oL oN oW x2)) (fR_mono rx1 (by decide) (by decide))) (va_cwS 1 hts gX2_along_X2_cosine rfl rfl rfl (by decide +kernel) ⟨Nat.le_of_ble_eq_true rfl, Nat.le_of_ble_eq_true rfl⟩) preEq rfl rfl hl.1 rfl (lv_room (Nat.le_of_ble_eq_true rfl)) dX2_along_97 ⟨Nat.le_of_ble_eq_true rfl, Nat.le_of_ble_eq_true rfl⟩) (fun r hr9 => ?_)
    obtain rfl := hr9
    have r_86 := COS_R (fR_mono rx1 (by decide) (by decide))
    have r_87 := fR_mul hO.2.2.1 r_86 (-805306368) 805306368 (by decide) (by decide) rfl rfl
    refine lv_dmul hx hb dX2_along_100 (fR_nn r_87) ?_
    have r_88 := fR_sub r_85 r_87 268435456 1879048192 (by decide) (by decide) rfl rfl
    refine lv_dsub hx hb dX2_along_101 (fR_nn r_88) ?_
    have r_89 := fR_div r_84 r_88 (by decide) (-8653754254840) 8653754254840 (by decide) (by decide) rfl rfl
    refine lv_ddiv hx hb dX2_along_102 (fR_nn r_89) ?_
    refine lv_dstore (lv' := [(14, .double (an_d oE (lon_m oL oN oW x2) (an_x1 oE (lon_m oL oN oW x2)))), (13, .int 1), (12, .int 0), (10, .double (an_x1 oE (lon_m oL oN oW x2))), (8, .double (lon_m oL oN oW x2)), (6, .double oW), (4, .double oE), (0, .ref am), (1, .int x1), (2, .double x2)]) hx hb dX2_along_103 hl (by decide) rfl (fun ls hl => ?_)
    refine lv_dload hx hb dX2_along_105 (lv_at hl 3 rfl) ?_
    refine lv_dload hx hb dX2_along_107 (lv_at hl 0 rfl) ?_
    have r_90 := fR_sub rx1 r_89 (-10384505105808) 10771052162448 (by decide) (by decide) rfl rfl
    refine lv_dsub hx hb dX2_along_109 (fR_nn r_90) ?_
    refine lv_dstore (lv' := [(10, .double (an_x2 oE (lon_m oL oN oW x2))), (14, .double (an_d oE (lon_m oL oN oW x2) (an_x1 oE (lon_m oL oN oW x2)))), (13, .int 1), (12, .int 0), (8, .double (lon_m oL oN oW x2)), (6, .double oW), (4, .double oE), (0, .ref am), (1, .int x1), (2, .double x2)]) hx hb dX2_along_110 hl (by decide) rfl (fun ls hl => ?_)
    have hJ_1 : ¬ an_ok oE (lon_m oL oN oW x2) (an_x1 oE (lon_m oL oN oW x2)) → ∀ ls : Array Slot, lv_has ls 17 [(10, .double (an_x2 oE (lon_m oL oN oW x2))), (14, .double (an_d oE (lon_m oL oN oW x2) (an_x1 oE (lon_m oL oN oW x2)))), (13, .int 1), (12, .int 0), (8, .double (lon_m oL oN oW x2)), (6, .double oW), (4, .double oE), (0, .ref am), (1, .int x1), (2, .double x2)] → W p l e (headSpec wsX2_along ({ frames := 4, cells := 0, slots := 0, locals := 113 })).room s m ([.ref am, .int x1, .double x2] : List Value).toArray below meth c s.heap [] 0 0 QQ (F0 m 134 ls []) := by
      intro hno_1 ls hl
      refine lv_iconst (v := 0) hx hb dX2_along_134 (by decide) ?_
      refine lv_istore (lv' := [(12, .int 0), (10, .double (an_x2 oE (lon_m oL oN oW x2))), (14, .double (an_d oE (lon_m oL oN oW x2) (an_x1 oE (lon_m oL oN oW x2)))), (13, .int 1), (8, .double (lon_m oL oN oW x2)), (6, .double oW), (4, .double oE), (0, .ref am), (1, .int x1), (2, .double x2)]) hx hb dX2_along_135 hl (by decide) rfl (fun ls hl => ?_)
      refine lv_iinc (v := 2) (lv' := [(13, .int 2), (12, .int 0), (10, .double (an_x2 oE (lon_m oL oN oW x2))), (14, .double (an_d oE (lon_m oL oN oW x2) (an_x1 oE (lon_m oL oN oW x2)))), (8, .double (lon_m oL oN oW x2)), (6, .double oW), (4, .double oE), (0, .ref am), (1, .int x1), (2, .double x2)]) hx hb dX2_along_137 hl (k := 3) rfl (by first | rfl | decide) (by decide) rfl (fun ls hl => ?_)
      refine lv_goto (tgt := 63) hx hb dX2_along_140 (by decide) ?_
      refine lv_iload hx hb dX2_along_63 (lv_at hl 0 rfl) ?_
      refine lv_iconst (v := 4) hx hb dX2_along_65 (by decide) ?_
      refine lv_icmp_ge (tgt := 143) hx hb dX2_along_66 (by decide) (fun c_91 => absurd c_91 (by decide)) (fun _ => ?_)
      refine lv_iload hx hb dX2_along_69 (lv_at hl 1 rfl) ?_
      refine lv_if_ne (tgt := 143) hx hb dX2_along_71 (by decide) (fun c_92 => absurd c_92 (by decide)) (fun _ => ?_)
      refine lv_dload hx hb dX2_along_74 (lv_at hl 2 rfl) ?_
      refine lv_dload hx hb dX2_along_76 (lv_at hl 6 rfl) ?_
      refine lv_ldc2d hx hb hown (hts (.constantDouble RX2 190 (4633260481411531256)) (by decide +kernel)) dX2_along_78 ?_
      have r_93 : fR 4633260481411531256 61520874801 61520874802 := fR_lit (by decide +kernel)
      have r_94 := fR_mul hO.2.2.1 r_93 0 46140656102 (by decide) (by decide) rfl rfl
      refine lv_dmul hx hb dX2_along_81 (fR_nn r_94) ?_
      refine lv_dload hx hb dX2_along_82 (lv_at hl 2 rfl) ?_
      refine vp_callSd (W.runS (As := [.double (an_x2 oE (lon_m oL oN oW x2))]) (rest := [.double (FP.dmul oE 4633260481411531256), .double (an_x2 oE (lon_m oL oN oW x2))]) ⟨hx, hb, hml, hown, hts⟩ (k_X2_sine l (an_x2 oE (lon_m oL oN oW x2)) (fR_mono rx2 (by decide) (by decide))) (va_cwS 1 hts gX2_along_X2_sine rfl rfl rfl (by decide +kernel) ⟨Nat.le_of_ble_eq_true rfl, Nat.le_of_ble_eq_true rfl⟩) preEq rfl rfl hl.1 rfl (lv_room (Nat.le_of_ble_eq_true rfl)) dX2_along_84 ⟨Nat.le_of_ble_eq_true rfl, Nat.le_of_ble_eq_true rfl⟩) (fun r hr9 => ?_)
      obtain rfl := hr9
      have r_95 := SIN_R (fR_mono rx2 (by decide) (by decide))
      have r_96 := fR_mul r_94 r_95 (-46140656102) 46140656102 (by decide) (by decide) rfl rfl
      refine lv_dmul hx hb dX2_along_87 (fR_nn r_96) ?_
      have r_97 := fR_sub rx2 r_96 (-10430645761910) 10817192818550 (by decide) (by decide) rfl rfl
      refine lv_dsub hx hb dX2_along_88 (fR_nn r_97) ?_
      refine lv_dload hx hb dX2_along_89 (lv_at hl 4 rfl) ?_
      have r_98 := fR_sub r_97 r_4 (-10817192818550) 10817192818550 (by decide) (by decide) rfl rfl
      refine lv_dsub hx hb dX2_along_91 (fR_nn r_98) ?_
      refine lv_dconst1 hx hb dX2_along_92 ?_
      have r_99 : fR FP.dconst1 1073741824 1073741824 := fR_lit (by decide +kernel)
      refine lv_dload hx hb dX2_along_93 (lv_at hl 6 rfl) ?_
      refine lv_dload hx hb dX2_along_95 (lv_at hl 2 rfl) ?_
      refine vp_callSd (W.runS (As := [.double (an_x2 oE (lon_m oL oN oW x2))]) (rest := [.double oE, .double FP.dconst1, .double (FP.dsub (FP.dsub (an_x2 oE (lon_m oL oN oW x2)) (FP.dmul (FP.dmul oE 4633260481411531256) (SIN (an_x2 oE (lon_m oL oN oW x2))))) (lon_m oL oN oW x2))]) ⟨hx, hb, hml, hown, hts⟩ (k_X2_cosine l (an_x2 oE (lon_m oL oN oW x2)) (fR_mono rx2 (by decide) (by decide))) (va_cwS 1 hts gX2_along_X2_cosine rfl rfl rfl (by decide +kernel) ⟨Nat.le_of_ble_eq_true rfl, Nat.le_of_ble_eq_true rfl⟩) preEq rfl rfl hl.1 rfl (lv_room (Nat.le_of_ble_eq_true rfl)) dX2_along_97 ⟨Nat.le_of_ble_eq_true rfl, Nat.le_of_ble_eq_true rfl⟩) (fun r hr9 => ?_)
      obtain rfl := hr9
      have r_100 := COS_R (fR_mono rx2 (by decide) (by decide))
      have r_101 := fR_mul hO.2.2.1 r_100 (-805306368) 805306368 (by decide) (by decide) rfl rfl
      refine lv_dmul hx hb dX2_along_100 (fR_nn r_101) ?_
      have r_102 := fR_sub r_99 r_101 268435456 1879048192 (by decide) (by decide) rfl rfl
      refine lv_dsub hx hb dX2_along_101 (fR_nn r_102) ?_
      have r_103 := fR_div r_98 r_102 (by decide) (-43268771274200) 43268771274200 (by decide) (by decide) rfl rfl
      refine lv_ddiv hx hb dX2_along_102 (fR_nn r_103) ?_
      refine lv_dstore (lv' := [(14, .double (an_d oE (lon_m oL oN oW x2) (an_x2 oE (lon_m oL oN oW x2)))), (13, .int 2), (12, .int 0), (10, .double (an_x2 oE (lon_m oL oN oW x2))), (8, .double (lon_m oL oN oW x2)), (6, .double oW), (4, .double oE), (0, .ref am), (1, .int x1), (2, .double x2)]) hx hb dX2_along_103 hl (by decide) rfl (fun ls hl => ?_)
      refine lv_dload hx hb dX2_along_105 (lv_at hl 3 rfl) ?_
      refine lv_dload hx hb dX2_along_107 (lv_at hl 0 rfl) ?_
      have r_104 := fR_sub rx2 r_103 (-53653276380008) 54039823436648 (by decide) (by decide) rfl rfl
      refine lv_dsub hx hb dX2_along_109 (fR_nn r_104) ?_
      refine lv_dstore (lv' := [(10, .double (an_x3 oE (lon_m oL oN oW x2))), (14, .double (an_d oE (lon_m oL oN oW x2) (an_x2 oE (lon_m oL oN oW x2)))), (13, .int 2), (12, .int 0), (8, .double (lon_m oL oN oW x2)), (6, .double oW), (4, .double oE), (0, .ref am), (1, .int x1), (2, .double x2)]) hx hb dX2_along_110 hl (by decide) rfl (fun ls hl => ?_)
      have hJ_2 : ¬ an_ok oE (lon_m oL oN oW x2) (an_x2 oE (lon_m oL oN oW x2)) → ∀ ls : Array Slot, lv_has ls 17 [(10, .double (an_x3 oE (lon_m oL oN oW x2))), (14, .double (an_d oE (lon_m oL oN oW x2) (an_x2 oE (lon_m oL oN oW x2)))), (13, .int 2), (12, .int 0), (8, .double (lon_m oL oN oW x2)), (6, .double oW), (4, .double oE), (0, .ref am), (1, .int x1), (2, .double x2)] → W p l e (headSpec wsX2_along ({ frames := 4, cells := 0, slots := 0, locals := 113 })).room s m ([.ref am, .int x1, .double x2] : List Value).toArray below meth c s.heap [] 0 0 QQ (F0 m 134 ls []) := by
        intro hno_2 ls hl
        refine lv_iconst (v := 0) hx hb dX2_along_134 (by decide) ?_
        refine lv_istore (lv' := [(12, .int 0), (10, .double (an_x3 oE (lon_m oL oN oW x2))), (14, .double (an_d oE (lon_m oL oN oW x2) (an_x2 oE (lon_m oL oN oW x2)))), (13, .int 2), (8, .double (lon_m oL oN oW x2)), (6, .double oW), (4, .double oE), (0, .ref am), (1, .int x1), (2, .double x2)]) hx hb dX2_along_135 hl (by decide) rfl (fun ls hl => ?_)
        refine lv_iinc (v := 3) (lv' := [(13, .int 3), (12, .int 0), (10, .double (an_x3 oE (lon_m oL oN oW x2))), (14, .double (an_d oE (lon_m oL oN oW x2) (an_x2 oE (lon_m oL oN oW x2)))), (8, .double (lon_m oL oN oW x2)), (6, .double oW), (4, .double oE), (0, .ref am), (1, .int x1), (2, .double x2)]) hx hb dX2_along_137 hl (k := 3) rfl (by first | rfl | decide) (by decide) rfl (fun ls hl => ?_)
        refine lv_goto (tgt := 63) hx hb dX2_along_140 (by decide) ?_
        refine lv_iload hx hb dX2_along_63 (lv_at hl 0 rfl) ?_
        refine lv_iconst (v := 4) hx hb dX2_along_65 (by decide) ?_
        refine lv_icmp_ge (tgt := 143) hx hb dX2_along_66 (by decide) (fun c_105 => absurd c_105 (by decide)) (fun _ => ?_)
        refine lv_iload hx hb dX2_along_69 (lv_at hl 1 rfl) ?_
        refine lv_if_ne (tgt := 143) hx hb dX2_along_71 (by decide) (fun c_106 => absurd c_106 (by decide)) (fun _ => ?_)
        refine lv_dload hx hb dX2_along_74 (lv_at hl 2 rfl) ?_
        refine lv_dload hx hb dX2_along_76 (lv_at hl 6 rfl) ?_
        refine lv_ldc2d hx hb hown (hts (.constantDouble RX2 190 (4633260481411531256)) (by decide +kernel)) dX2_along_78 ?_
        have r_107 : fR 4633260481411531256 61520874801 61520874802 := fR_lit (by decide +kernel)
        have r_108 := fR_mul hO.2.2.1 r_107 0 46140656102 (by decide) (by decide) rfl rfl
        refine lv_dmul hx hb dX2_along_81 (fR_nn r_108) ?_
        refine lv_dload hx hb dX2_along_82 (lv_at hl 2 rfl) ?_
        refine vp_callSd (W.runS (As := [.double (an_x3 oE (lon_m oL oN oW x2))]) (rest := [.double (FP.dmul oE 4633260481411531256), .double (an_x3 oE (lon_m oL oN oW x2))]) ⟨hx, hb, hml, hown, hts⟩ (k_X2_sine l (an_x3 oE (lon_m oL oN oW x2)) (fR_mono rx3 (by decide) (by decide))) (va_cwS 1 hts gX2_along_X2_sine rfl rfl rfl (by decide +kernel) ⟨Nat.le_of_ble_eq_true rfl, Nat.le_of_ble_eq_true rfl⟩) preEq rfl rfl hl.1 rfl (lv_room (Nat.le_of_ble_eq_true rfl)) dX2_along_84 ⟨Nat.le_of_ble_eq_true rfl, Nat.le_of_ble_eq_true rfl⟩) (fun r hr9 => ?_)
        obtain rfl := hr9
        have r_109 := SIN_R (fR_mono rx3 (by decide) (by decide))
        have r_110 := fR_mul r_108 r_109 (-46140656102) 46140656102 (by decide) (by decide) rfl rfl
        refine lv_dmul hx hb dX2_along_87 (fR_nn r_110) ?_
        have r_111 := fR_sub rx3 r_110 (-53699417036110) 54085964092750 (by decide) (by decide) rfl rfl
        refine lv_dsub hx hb dX2_along_88 (fR_nn r_111) ?_
        refine lv_dload hx hb dX2_along_89 (lv_at hl 4 rfl) ?_
        have r_112 := fR_sub r_111 r_4 (-54085964092750) 54085964092750 (by decide) (by decide) rfl rfl
        refine lv_dsub hx hb dX2_along_91 (fR_nn r_112) ?_
        refine lv_dconst1 hx hb dX2_along_92 ?_
        have r_113 : fR FP.dconst1 1073741824 1073741824 := fR_lit (by decide +kernel)
        refine lv_dload hx hb dX2_along_93 (lv_at hl 6 rfl) ?_
        refine lv_dload hx hb dX2_along_95 (lv_at hl 2 rfl) ?_
        refine vp_callSd (W.runS (As := [.double (an_x3 oE (lon_m oL oN oW x2))]) (rest := [.double oE, .double FP.dconst1, .double (FP.dsub (FP.dsub (an_x3 oE (lon_m oL oN oW x2)) (FP.dmul (FP.dmul oE 4633260481411531256) (SIN (an_x3 oE (lon_m oL oN oW x2))))) (lon_m oL oN oW x2))]) ⟨hx, hb, hml, hown, hts⟩ (k_X2_cosine l (an_x3 oE (lon_m oL oN oW x2)) (fR_mono rx3 (by decide) (by decide))) (va_cwS 1 hts gX2_along_X2_cosine rfl rfl rfl (by decide +kernel) ⟨Nat.le_of_ble_eq_true rfl, Nat.le_of_ble_eq_true rfl⟩) preEq rfl rfl hl.1 rfl (lv_room (Nat.le_of_ble_eq_true rfl)) dX2_along_97 ⟨Nat.le_of_ble_eq_true rfl, Nat.le_of_ble_eq_true rfl⟩) (fun r hr9 => ?_)
        obtain rfl := hr9
        have r_114 := COS_R (fR_mono rx3 (by decide) (by decide))
        have r_115 := fR_mul hO.2.2.1 r_114 (-805306368) 805306368 (by decide) (by decide) rfl rfl
        refine lv_dmul hx hb dX2_along_100 (fR_nn r_115) ?_
        have r_116 := fR_sub r_113 r_115 268435456 1879048192 (by decide) (by decide) rfl rfl
        refine lv_dsub hx hb dX2_along_101 (fR_nn r_116) ?_
        have r_117 := fR_div r_112 r_116 (by decide) (-216343856371000) 216343856371000 (by decide) (by decide) rfl rfl
        refine lv_ddiv hx hb dX2_along_102 (fR_nn r_117) ?_
        refine lv_dstore (lv' := [(14, .double (an_d oE (lon_m oL oN oW x2) (an_x3 oE (lon_m oL oN oW x2)))), (13, .int 3), (12, .int 0), (10, .double (an_x3 oE (lon_m oL oN oW x2))), (8, .double (lon_m oL oN oW x2)), (6, .double oW), (4, .double oE), (0, .ref am), (1, .int x1), (2, .double x2)]) hx hb dX2_along_103 hl (by decide) rfl (fun ls hl => ?_)
        refine lv_dload hx hb dX2_along_105 (lv_at hl 3 rfl) ?_
        refine lv_dload hx hb dX2_along_107 (lv_at hl 0 rfl) ?_
        have r_118 := fR_sub rx3 r_117 (-269997132751008) 270383679807648 (by decide) (by decide) rfl rfl
        refine lv_dsub hx hb dX2_along_109 (fR_nn r_118) ?_
        refine lv_dstore (lv' := [(10, .double (an_x4 oE (lon_m oL oN oW x2))), (14, .double (an_d oE (lon_m oL oN oW x2) (an_x3 oE (lon_m oL oN oW x2)))), (13, .int 3), (12, .int 0), (8, .double (lon_m oL oN oW x2)), (6, .double oW), (4, .double oE), (0, .ref am), (1, .int x1), (2, .double x2)]) hx hb dX2_along_110 hl (by decide) rfl (fun ls hl => ?_)
        have hJ_3 : ¬ an_ok oE (lon_m oL oN oW x2) (an_x3 oE (lon_m oL oN oW x2)) → ∀ ls : Array Slot, lv_has ls 17 [(10, .double (an_x4 oE (lon_m oL oN oW x2))), (14, .double (an_d oE (lon_m oL oN oW x2) (an_x3 oE (lon_m oL oN oW x2)))), (13, .int 3), (12, .int 0), (8, .double (lon_m oL oN oW x2)), (6, .double oW), (4, .double oE), (0, .ref am), (1, .int x1), (2, .double x2)] → W p l e (headSpec wsX2_along ({ frames := 4, cells := 0, slots := 0, locals := 113 })).room s m ([.ref am, .int x1, .double x2] : List Value).toArray below meth c s.heap [] 0 0 QQ (F0 m 134 ls []) := by
          intro hno_3 ls hl
          refine lv_iconst (v := 0) hx hb dX2_along_134 (by decide) ?_
          refine lv_istore (lv' := [(12, .int 0), (10, .double (an_x4 oE (lon_m oL oN oW x2))), (14, .double (an_d oE (lon_m oL oN oW x2) (an_x3 oE (lon_m oL oN oW x2)))), (13, .int 3), (8, .double (lon_m oL oN oW x2)), (6, .double oW), (4, .double oE), (0, .ref am), (1, .int x1), (2, .double x2)]) hx hb dX2_along_135 hl (by decide) rfl (fun ls hl => ?_)
          refine lv_iinc (v := 4) (lv' := [(13, .int 4), (12, .int 0), (10, .double (an_x4 oE (lon_m oL oN oW x2))), (14, .double (an_d oE (lon_m oL oN oW x2) (an_x3 oE (lon_m oL oN oW x2)))), (8, .double (lon_m oL oN oW x2)), (6, .double oW), (4, .double oE), (0, .ref am), (1, .int x1), (2, .double x2)]) hx hb dX2_along_137 hl (k := 3) rfl (by first | rfl | decide) (by decide) rfl (fun ls hl => ?_)
          refine lv_goto (tgt := 63) hx hb dX2_along_140 (by decide) ?_
          refine lv_iload hx hb dX2_along_63 (lv_at hl 0 rfl) ?_
          refine lv_iconst (v := 4) hx hb dX2_along_65 (by decide) ?_
          refine lv_icmp_ge (tgt := 143) hx hb dX2_along_66 (by decide) (fun _ => ?_) (fun c_119 => absurd c_119 (by decide))
          exact hBAD (by unfold ANOM; rw [if_neg hno_0, if_neg hno_1, if_neg hno_2, if_neg hno_3]) _ (lv_sub hl [5, 6, 7, 8, 9, 2, 1] rfl)
        refine lv_dload hx hb dX2_along_112 (lv_at hl 1 rfl) ?_
        refine lv_ldc2d hx hb hown (hts (.constantDouble RX2 195 (13740701229962882445)) (by decide +kernel)) dX2_along_114 ?_
        have r_120 : fR 13740701229962882445 (-1074) (-1073) := fR_lit (by decide +kernel)
        refine zd_l_le (tgt := 134) hx hb dX2_along_117 dX2_along_118 (by decide) (fun c_121 => ?_) (fun c_121 => ?_)
        · exact hJ_3 (fun h => c_121 h.1) _ hl
        · refine lv_dload hx hb dX2_along_121 (lv_at hl 1 rfl) ?_
          refine lv_ldc2d hx hb hown (hts (.constantDouble RX2 197 (4517329193108106637)) (by decide +kernel)) dX2_along_123 ?_
          have r_122 : fR 4517329193108106637 1073 1074 := fR_lit (by decide +kernel)
          refine zd_g_ge (tgt := 134) hx hb dX2_along_126 dX2_along_127 (by decide) (fun c_123 => ?_) (fun c_123 => ?_)
          · exact hJ_3 (fun h => c_123 h.2) _ hl
          · refine lv_iconst (v := 1) hx hb dX2_along_130 (by decide) ?_
            refine lv_goto (tgt := 135) hx hb dX2_along_131 (by decide) ?_
            refine lv_istore (lv' := [(12, .int 1), (10, .double (an_x4 oE (lon_m oL oN oW x2))), (14, .double (an_d oE (lon_m oL oN oW x2) (an_x3 oE (lon_m oL oN oW x2)))), (13, .int 3), (8, .double (lon_m oL oN oW x2)), (6, .double oW), (4, .double oE), (0, .ref am), (1, .int x1), (2, .double x2)]) hx hb dX2_along_135 hl (by decide) rfl (fun ls hl => ?_)
            refine lv_iinc (v := 4) (lv' := [(13, .int 4), (12, .int 1), (10, .double (an_x4 oE (lon_m oL oN oW x2))), (14, .double (an_d oE (lon_m oL oN oW x2) (an_x3 oE (lon_m oL oN oW x2)))), (8, .double (lon_m oL oN oW x2)), (6, .double oW), (4, .double oE), (0, .ref am), (1, .int x1), (2, .double x2)]) hx hb dX2_along_137 hl (k := 3) rfl (by first | rfl | decide) (by decide) rfl (fun ls hl => ?_)
            refine lv_goto (tgt := 63) hx hb dX2_along_140 (by decide) ?_
            refine lv_iload hx hb dX2_along_63 (lv_at hl 0 rfl) ?_
            refine lv_iconst (v := 4) hx hb dX2_along_65 (by decide) ?_
            refine lv_icmp_ge (tgt := 143) hx hb dX2_along_66 (by decide) (fun _ => ?_) (fun c_124 => absurd c_124 (by decide))
            exact hOK _ (by unfold ANOM; rw [if_neg hno_0, if_neg hno_1, if_neg hno_2, if_pos ⟨c_121, c_123⟩]) _ (lv_sub hl [5, 6, 7, 8, 9, 2, 1] rfl)
      refine lv_dload hx hb dX2_along_112 (lv_at hl 1 rfl) ?_
      refine lv_ldc2d hx hb hown (hts (.constantDouble RX2 195 (13740701229962882445)) (by decide +kernel)) dX2_along_114 ?_
      have r_125 : fR 13740701229962882445 (-1074) (-1073) := fR_lit (by decide +kernel)
      refine zd_l_le (tgt := 134) hx hb dX2_along_117 dX2_along_118 (by decide) (fun c_126 => ?_) (fun c_126 => ?_)
      · exact hJ_2 (fun h => c_126 h.1) _ hl
      · refine lv_dload hx hb dX2_along_121 (lv_at hl 1 rfl) ?_
        refine lv_ldc2d hx hb hown (hts (.constantDouble RX2 197 (4517329193108106637)) (by decide +kernel)) dX2_along_123 ?_
        have r_127 : fR 4517329193108106637 1073 1074 := fR_lit (by decide +kernel)
        refine zd_g_ge (tgt := 134) hx hb dX2_along_126 dX2_along_127 (by decide) (fun c_128 => ?_) (fun c_128 => ?_)
        · exact hJ_2 (fun h => c_128 h.2) _ hl
        · refine lv_iconst (v := 1) hx hb dX2_along_130 (by decide) ?_
          refine lv_goto (tgt := 135) hx hb dX2_along_131 (by decide) ?_
          refine lv_istore (lv' := [(12, .int 1), (10, .double (an_x3 oE (lon_m oL oN oW x2))), (14, .double (an_d oE (lon_m oL oN oW x2) (an_x2 oE (lon_m oL oN oW x2)))), (13, .int 2), (8, .double (lon_m oL oN oW x2)), (6, .double oW), (4, .double oE), (0, .ref am), (1, .int x1), (2, .double x2)]) hx hb dX2_along_135 hl (by decide) rfl (fun ls hl => ?_)
          refine lv_iinc (v := 3) (lv' := [(13, .int 3), (12, .int 1), (10, .double (an_x3 oE (lon_m oL oN oW x2))), (14, .double (an_d oE (lon_m oL oN oW x2) (an_x2 oE (lon_m oL oN oW x2)))), (8, .double (lon_m oL oN oW x2)), (6, .double oW), (4, .double oE), (0, .ref am), (1, .int x1), (2, .double x2)]) hx hb dX2_along_137 hl (k := 3) rfl (by first | rfl | decide) (by decide) rfl (fun ls hl => ?_)
          refine lv_goto (tgt := 63) hx hb dX2_along_140 (by decide) ?_
          refine lv_iload hx hb dX2_along_63 (lv_at hl 0 rfl) ?_
          refine lv_iconst (v := 4) hx hb dX2_along_65 (by decide) ?_
          refine lv_icmp_ge (tgt := 143) hx hb dX2_along_66 (by decide) (fun c_129 => absurd c_129 (by decide)) (fun _ => ?_)
          refine lv_iload hx hb dX2_along_69 (lv_at hl 1 rfl) ?_
          refine lv_if_ne (tgt := 143) hx hb dX2_along_71 (by decide) (fun _ => ?_) (fun c_130 => absurd c_130 (by decide))
          exact hOK _ (by unfold ANOM; rw [if_neg hno_0, if_neg hno_1, if_pos ⟨c_126, c_128⟩]) _ (lv_sub hl [5, 6, 7, 8, 9, 2, 1] rfl)
    refine lv_dload hx hb dX2_along_112 (lv_at hl 1 rfl) ?_
    refine lv_ldc2d hx hb hown (hts (.constantDouble RX2 195 (13740701229962882445)) (by decide +kernel)) dX2_along_114 ?_
    have r_131 : fR 13740701229962882445 (-1074) (-1073) := fR_lit (by decide +kernel)
    refine zd_l_le (tgt := 134) hx hb dX2_along_117 dX2_along_118 (by decide) (fun c_132 => ?_) (fun c_132 => ?_)
    · exact hJ_1 (fun h => c_132 h.1) _ hl
    · refine lv_dload hx hb dX2_along_121 (lv_at hl 1 rfl) ?_
      refine lv_ldc2d hx hb hown (hts (.constantDouble RX2 197 (4517329193108106637)) (by decide +kernel)) dX2_along_123 ?_
      have r_133 : fR 4517329193108106637 1073 1074 := fR_lit (by decide +kernel)
      refine zd_g_ge (tgt := 134) hx hb dX2_along_126 dX2_along_127 (by decide) (fun c_134 => ?_) (fun c_134 => ?_)
      · exact hJ_1 (fun h => c_134 h.2) _ hl
      · refine lv_iconst (v := 1) hx hb dX2_along_130 (by decide) ?_
        refine lv_goto (tgt := 135) hx hb dX2_along_131 (by decide) ?_
        refine lv_istore (lv' := [(12, .int 1), (10, .double (an_x2 oE (lon_m oL oN oW x2))), (14, .double (an_d oE (lon_m oL oN oW x2) (an_x1 oE (lon_m oL oN oW x2)))), (13, .int 1), (8, .double (lon_m oL oN oW x2)), (6, .double oW), (4, .double oE), (0, .ref am), (1, .int x1), (2, .double x2)]) hx hb dX2_along_135 hl (by decide) rfl (fun ls hl => ?_)
        refine lv_iinc (v := 2) (lv' := [(13, .int 2), (12, .int 1), (10, .double (an_x2 oE (lon_m oL oN oW x2))), (14, .double (an_d oE (lon_m oL oN oW x2) (an_x1 oE (lon_m oL oN oW x2)))), (8, .double (lon_m oL oN oW x2)), (6, .double oW), (4, .double oE), (0, .ref am), (1, .int x1), (2, .double x2)]) hx hb dX2_along_137 hl (k := 3) rfl (by first | rfl | decide) (by decide) rfl (fun ls hl => ?_)
        refine lv_goto (tgt := 63) hx hb dX2_along_140 (by decide) ?_
        refine lv_iload hx hb dX2_along_63 (lv_at hl 0 rfl) ?_
        refine lv_iconst (v := 4) hx hb dX2_along_65 (by decide) ?_
        refine lv_icmp_ge (tgt := 143) hx hb dX2_along_66 (by decide) (fun c_135 => absurd c_135 (by decide)) (fun _ => ?_)
        refine lv_iload hx hb dX2_along_69 (lv_at hl 1 rfl) ?_
        refine lv_if_ne (tgt := 143) hx hb dX2_along_71 (by decide) (fun _ => ?_) (fun c_136 => absurd c_136 (by decide))
        exact hOK _ (by unfold ANOM; rw [if_neg hno_0, if_pos ⟨c_132, c_134⟩]) _ (lv_sub hl [5, 6, 7, 8, 9, 2, 1] rfl)
  refine lv_dload hx hb dX2_along_112 (lv_at hl 1 rfl) ?_
  refine lv_ldc2d hx hb hown (hts (.constantDouble RX2 195 (13740701229962882445)) (by decide +kernel)) dX2_along_114 ?_
  have r_137 : fR 13740701229962882445 (-1074) (-1073) := fR_lit (by decide +kernel)
  refine zd_l_le (tgt := 134) hx hb dX2_along_117 dX2_along_118 (by decide) (fun c_138 => ?_) (fun c_138 => ?_)
  · exact hJ_0 (fun h => c_138 h.1) _ hl
  · refine lv_dload hx hb dX2_along_121 (lv_at hl 1 rfl) ?_
    refine lv_ldc2d hx hb hown (hts (.constantDouble RX2 197 (4517329193108106637)) (by decide +kernel)) dX2_along_123 ?_
    have r_139 : fR 4517329193108106637 1073 1074 := fR_lit (by decide +kernel)
    refine zd_g_ge (tgt := 134) hx hb dX2_along_126 dX2_along_127 (by decide) (fun c_140 => ?_) (fun c_140 => ?_)
    · exact hJ_0 (fun h => c_140 h.2) _ hl
    · refine lv_iconst (v := 1) hx hb dX2_along_130 (by decide) ?_
      refine lv_goto (tgt := 135) hx hb dX2_along_131 (by decide) ?_
      refine lv_istore (lv' := [(12, .int 1), (10, .double (an_x1 oE (lon_m oL oN oW x2))), (14, .double (an_d oE (lon_m oL oN oW x2) (lon_m oL oN oW x2))), (13, .int 0), (8, .double (lon_m oL oN oW x2)), (6, .double oW), (4, .double oE), (0, .ref am), (1, .int x1), (2, .double x2)]) hx hb dX2_along_135 hl (by decide) rfl (fun ls hl => ?_)
      refine lv_iinc (v := 1) (lv' := [(13, .int 1), (12, .int 1), (10, .double (an_x1 oE (lon_m oL oN oW x2))), (14, .double (an_d oE (lon_m oL oN oW x2) (lon_m oL oN oW x2))), (8, .double (lon_m oL oN oW x2)), (6, .double oW), (4, .double oE), (0, .ref am), (1, .int x1), (2, .double x2)]) hx hb dX2_along_137 hl (k := 3) rfl (by first | rfl | decide) (by decide) rfl (fun ls hl => ?_)
      refine lv_goto (tgt := 63) hx hb dX2_along_140 (by decide) ?_
      refine lv_iload hx hb dX2_along_63 (lv_at hl 0 rfl) ?_
      refine lv_iconst (v := 4) hx hb dX2_along_65 (by decide) ?_
      refine lv_icmp_ge (tgt := 143) hx hb dX2_along_66 (by decide) (fun c_141 => absurd c_141 (by decide)) (fun _ => ?_)
      refine lv_iload hx hb dX2_along_69 (lv_at hl 1 rfl) ?_
      refine lv_if_ne (tgt := 143) hx hb dX2_along_71 (by decide) (fun _ => ?_) (fun c_142 => absurd c_142 (by decide))
      exact hOK _ (by unfold ANOM; rw [if_pos ⟨c_138, c_140⟩]) _ (lv_sub hl [5, 6, 7, 8, 9, 2, 1] rfl)
