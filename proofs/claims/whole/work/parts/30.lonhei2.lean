theorem HEI_o {la ea oL oN oE oW : UInt64} {k : Nat} {pw : Nat → Int32} {fa sa va : Nat → UInt64} {t v r : UInt64} (hv : HEI la ea oL oN oE oW k pw fa sa va t = .ok v) (h : ∀ v, LON oL oN oE oW k pw fa sa va t = .ok v → r = v) : HGT la ea t r = v := by
  unfold HEI at hv
  cases hA : LON oL oN oE oW k pw fa sa va t with
  | error e => rw [xb_err hA] at hv; cases hv
  | ok x => rw [xb_ok hA] at hv; cases hv; rw [h x hA]
set_option maxHeartbeats 4000000 in
set_option maxRecDepth 100000 in
theorem k_X2_above (l : Launch) (hst : l.stackTraces = false) (dC : Nat → ClassId) (dI : Nat → Nat → Nat) (cA : Nat → ClassId) (tm tt sz : Nat) (am gs go gt gp gw gl : Nat) (th wo fu : Int32) (la ea : UInt64) (ln fd : Int32) (uf : Nat → UInt64) (tf : Nat → Int32) (pf : Nat → Int32) (wf : Nat → UInt64) (oL oN oE oW : UInt64) (k : Nat) (pw : Nat → Int32) (fa sa va : Nat → UInt64) (x1 : Int32) (x2 : UInt64) (hb1 : ¬ x1 < 0) (hb2 : ¬ 3 < x1) (hR : bR (Int32.toNatClampNeg x1) uf tf pf wf oL oN oE oW k pw fa sa va) (hO : oOK oL oN oE oW) (hT : tOK k fa sa va) (h0 : fR x2 (-2251799813685248) 2251799813685248) (hla : fR la (-96636764160) 96636764160) (hea : fR ea (-193273528320) 193273528320) : Met l yX2_above wsX2_above ({ frames := 5, cells := 0, slots := 0, locals := 149 }) (PcW dC dI cA tm tt sz [.ref am, .int x1, .double x2] [(am, .inr (2, [.int th, .int wo, .int fu, .ref gs, .ref go, .ref gt, .ref gp, .ref gw, .double la, .double ea, .ref gl, .int ln, .int fd])), (go, aD 16 (cA 1) uf), (gt, aI 4 (cA 0) tf), (gp, aI 48 (cA 0) pf), (gw, aD 144 (cA 1) wf)]) (va_Qd (fun r (_ : Unit) => ∀ v, HEI la ea oL oN oE oW k pw fa sa va x2 = .ok v → r = v) (fun _ t => WB dC dI (va_A [(am, .inr (2, [.int th, .int wo, .int fu, .ref gs, .ref go, .ref gt, .ref gp, .ref gw, .double la, .double ea, .ref gl, .int ln, .int fd])), (go, aD 16 (cA 1) uf), (gt, aI 4 (cA 0) tf), (gp, aI 48 (cA 0) pf), (gw, aD 144 (cA 1) wf)] sz) [(am, .inr (2, [.int th, .int (wo + 1), .int (fu + cFL (LON oL oN oE oW k pw fa sa va x2)), .ref gs, .ref go, .ref gt, .ref gp, .ref gw, .double la, .double ea, .ref gl, .int ln, .int (cFD (LON oL oN oE oW k pw fa sa va x2))])), (go, aD 16 (cA 1) uf), (gt, aI 4 (cA 0) tf), (gp, aI 48 (cA 0) pf), (gw, aD 144 (cA 1) wf)] t) (va_A [(am, .inr (2, [.int th, .int wo, .int fu, .ref gs, .ref go, .ref gt, .ref gp, .ref gw, .double la, .double ea, .ref gl, .int ln, .int fd])), (go, aD 16 (cA 1) uf), (gt, aI 4 (cA 0) tf), (gp, aI 48 (cA 0) pf), (gw, aD 144 (cA 1) wf)] sz)) 0 0 (va_A [(am, .inr (2, [.int th, .int wo, .int fu, .ref gs, .ref go, .ref gt, .ref gp, .ref gw, .double la, .double ea, .ref gl, .int ln, .int fd])), (go, aD 16 (cA 1) uf), (gt, aI 4 (cA 0) tf), (gp, aI 48 (cA 0) pf), (gw, aD 144 (cA 1) wf)] sz) := by
  refine Met.ofW (cc := cX2_above) (maxL := 14) (ret := (some .double)) (by decide) rfl ?_
  intro p e s m args below meth c s₁ B hml hv
  obtain ⟨rfl, hsz, hP, hK, hD0, hE⟩ := hv
  subst hsz
  have hD := hD0.self (sz := s.heap.size)
  generalize hAe : va_A [(am, .inr (2, [.int th, .int wo, .int fu, .ref gs, .ref go, .ref gt, .ref gp, .ref gw, .double la, .double ea, .ref gl, .int ln, .int fd])), (go, aD 16 (cA 1) uf), (gt, aI 4 (cA 0) tf), (gp, aI 48 (cA 0) pf), (gw, aD 144 (cA 1) wf)] s.heap.size = A at hD hE ⊢
  have hA : ∀ q : Nat, s.heap.size ≤ q → A q := fun q h => by rw [← hAe]; exact Or.inr h
  have hS : va_S A s.heap s.heap [] := va_S.rf
  have hP : va_P (dC, dI) vwCl [(am, .inr (2, [.int th, .int wo, .int fu, .ref gs, .ref go, .ref gt, .ref gp, .ref gw, .double la, .double ea, .ref gl, .int ln, .int fd])), (go, aD 16 (cA 1) uf), (gt, aI 4 (cA 0) tf), (gp, aI 48 (cA 0) pf), (gw, aD 144 (cA 1) wf)] s.heap := hP
  have hx := B.exec
  have hb := B.bytes
  have hr := B.returns
  have hts := atoms_spec (ws := wsX2_above) B.pre
  have hown : s.vm.findClass RX2 = some m.cls := findClass_of_methodNamed B.named
  have hlocks := B.notSynchronized
  have hl := lv_entry ([.ref am, .int x1, .double x2]) (n := 14) (Nat.le_of_ble_eq_true rfl)
  rw [lg_entry_eq]
  generalize (lg_sl ([.ref am, .int x1, .double x2]) ++ List.replicate (14 - (lg_sl ([.ref am, .int x1, .double x2])).length) Slot.unset).toArray = ls at hl ⊢
  have hl : lv_has ls 14 [(0, .ref am), (1, .int x1), (2, .double x2)] := hl
  have hin2 : ∀ w ∈ u_ws RX2 TX2 13, w ∈ wsX2_above := by decide +kernel
  refine lv_aload_n hx hb dX2_above_0 rfl (lv_at hl 0 rfl) ?_
  refine lv_iload_n hx hb dX2_above_1 rfl (lv_at hl 1 rfl) ?_
  refine lv_dload_n hx hb dX2_above_2 rfl (lv_at hl 2 rfl) ?_
  have hPc := hP.sub (ws' := [(am, .inr (2, [.int th, .int wo, .int fu, .ref gs, .ref go, .ref gt, .ref gp, .ref gw, .double la, .double ea, .ref gl, .int ln, .int fd])), (go, aD 16 (cA 1) uf), (gt, aI 4 (cA 0) tf), (gp, aI 48 (cA 0) pf), (gw, aD 144 (cA 1) wf)]) [0, 1, 2, 3, 4] rfl
  have hDc := hD.sub (ws' := [(am, .inr (2, [.int th, .int wo, .int fu, .ref gs, .ref go, .ref gt, .ref gp, .ref gw, .double la, .double ea, .ref gl, .int ln, .int fd])), (go, aD 16 (cA 1) uf), (gt, aI 4 (cA 0) tf), (gp, aI 48 (cA 0) pf), (gw, aD 144 (cA 1) wf)]) [0, 1, 2, 3, 4] (by decide) rfl
  have hFc := va_free (wc := [(am, .inr (2, [.int th, .int wo, .int fu, .ref gs, .ref go, .ref gt, .ref gp, .ref gw, .double la, .double ea, .ref gl, .int ln, .int fd])), (go, aD 16 (cA 1) uf), (gt, aI 4 (cA 0) tf), (gp, aI 48 (cA 0) pf), (gw, aD 144 (cA 1) wf)]) hD hS hA [0, 1, 2, 3, 4] rfl
  refine va_calld (va_runV (As := [.int x1, .double x2]) (rest := []) ⟨hx, hb, hml, hown, hts⟩ (k_X2_along l hst dC dI cA tm tt _ am gs go gt gp gw gl th wo fu la ea ln fd uf tf pf wf oL oN oE oW k pw fa sa va x1 x2 hb1 hb2 hR hO hT h0) (cwV 2 hts gX2_above_X2_along rfl rfl rfl (by decide +kernel) ⟨Nat.le_of_ble_eq_true rfl, Nat.le_of_ble_eq_true rfl⟩) ⟨PcW.blind, va_recv hK hPc (ci := 2) (q0 := 0) rfl rfl, PcW.give hPc hK hDc hE hS hFc⟩ rfl rfl hl.1 rfl (lv_room (Nat.le_of_ble_eq_true rfl)) dX2_above_3 ⟨Nat.le_of_ble_eq_true rfl, Nat.le_of_ble_eq_true rfl⟩) hS (fun q _ h => hFc q h) hFc (fun v_1 u t H locs ht hvm hp_2 hB hz1 hk1 hS => ?_)
  obtain ⟨hP1, hD1⟩ := hB
  rw [ht] at hP1
  obtain ⟨hP, hD⟩ := va_join (wr := []) (w1 := [(am, .inr (2, [.int th, .int (wo + 1), .int (fu + cFL (LON oL oN oE oW k pw fa sa va x2)), .ref gs, .ref go, .ref gt, .ref gp, .ref gw, .double la, .double ea, .ref gl, .int ln, .int (cFD (LON oL oN oE oW k pw fa sa va x2))])), (go, aD 16 (cA 1) uf), (gt, aI 4 (cA 0) tf), (gp, aI 48 (cA 0) pf), (gw, aD 144 (cA 1) wf)]) hP hD [0, 1, 2, 3, 4] [] rfl rfl (by decide) (by decide) hk1 hFc hP1 hD1
  have hP := hP.sub (ws' := [(am, .inr (2, [.int th, .int (wo + 1), .int (fu + cFL (LON oL oN oE oW k pw fa sa va x2)), .ref gs, .ref go, .ref gt, .ref gp, .ref gw, .double la, .double ea, .ref gl, .int ln, .int (cFD (LON oL oN oE oW k pw fa sa va x2))])), (go, aD 16 (cA 1) uf), (gt, aI 4 (cA 0) tf), (gp, aI 48 (cA 0) pf), (gw, aD 144 (cA 1) wf)]) [0, 1, 2, 3, 4] rfl
  have hD := hD.sub (ws' := [(am, .inr (2, [.int th, .int (wo + 1), .int (fu + cFL (LON oL oN oE oW k pw fa sa va x2)), .ref gs, .ref go, .ref gt, .ref gp, .ref gw, .double la, .double ea, .ref gl, .int ln, .int (cFD (LON oL oN oE oW k pw fa sa va x2))])), (go, aD 16 (cA 1) uf), (gt, aI 4 (cA 0) tf), (gp, aI 48 (cA 0) pf), (gw, aD 144 (cA 1) wf)]) [0, 1, 2, 3, 4] (by decide) rfl
  refine lv_dstore (lv' := [(4, .double v_1), (0, .ref am), (1, .int x1), (2, .double x2)]) hx hb dX2_above_6 hl (by decide) rfl (fun ls hl => ?_)
  refine lv_dload hx hb dX2_above_8 (lv_at hl 0 rfl) ?_
  refine vp_callSd (W.runS (As := [.double v_1]) (rest := []) ⟨hx, hb, hml, hown, hts⟩ (k_X2_cosine l v_1 (fR_mono hp_2.2 (by decide) (by decide))) (va_cwS 1 hts gX2_above_X2_cosine rfl rfl rfl (by decide +kernel) ⟨Nat.le_of_ble_eq_true rfl, Nat.le_of_ble_eq_true rfl⟩) preEq rfl rfl hl.1 rfl (lv_room (Nat.le_of_ble_eq_true rfl)) dX2_above_10 ⟨Nat.le_of_ble_eq_true rfl, Nat.le_of_ble_eq_true rfl⟩) (fun r hr9 => ?_)
  obtain rfl := hr9
  have r_3 := COS_R (fR_mono hp_2.2 (by decide) (by decide))
  refine lv_dstore (lv' := [(6, .double (COS v_1)), (4, .double v_1), (0, .ref am), (1, .int x1), (2, .double x2)]) hx hb dX2_above_13 hl (by decide) rfl (fun ls hl => ?_)
  refine lv_dload hx hb dX2_above_15 (lv_at hl 1 rfl) ?_
  refine vp_callSd (W.runS (As := [.double v_1]) (rest := []) ⟨hx, hb, hml, hown, hts⟩ (k_X2_sine l v_1 (fR_mono hp_2.2 (by decide) (by decide))) (va_cwS 1 hts gX2_above_X2_sine rfl rfl rfl (by decide +kernel) ⟨Nat.le_of_ble_eq_true rfl, Nat.le_of_ble_eq_true rfl⟩) preEq rfl rfl hl.1 rfl (lv_room (Nat.le_of_ble_eq_true rfl)) dX2_above_17 ⟨Nat.le_of_ble_eq_true rfl, Nat.le_of_ble_eq_true rfl⟩) (fun r hr9 => ?_)
  obtain rfl := hr9
  have r_4 := SIN_R (fR_mono hp_2.2 (by decide) (by decide))
  refine lv_ldc2d hx hb hown (hts (.constantDouble RX2 221 (4606439163290984179)) (by decide +kernel)) dX2_above_20 ?_
  have r_5 : fR 4606439163290984179 985138862 985138863 := fR_lit (by decide +kernel)
  have r_6 := fR_mul r_4 r_5 (-985138863) 985138863 (by decide) (by decide) rfl rfl
  refine lv_dmul hx hb dX2_above_23 (fR_nn r_6) ?_
  refine lv_dstore (lv' := [(8, .double (FP.dmul (SIN v_1) 4606439163290984179)), (6, .double (COS v_1)), (4, .double v_1), (0, .ref am), (1, .int x1), (2, .double x2)]) hx hb dX2_above_24 hl (by decide) rfl (fun ls hl => ?_)
  refine lv_dload hx hb dX2_above_26 (lv_at hl 2 rfl) ?_
  refine vp_callSd (W.runS (As := [.double v_1]) (rest := []) ⟨hx, hb, hml, hown, hts⟩ (k_X2_sine l v_1 (fR_mono hp_2.2 (by decide) (by decide))) (va_cwS 1 hts gX2_above_X2_sine rfl rfl rfl (by decide +kernel) ⟨Nat.le_of_ble_eq_true rfl, Nat.le_of_ble_eq_true rfl⟩) preEq rfl rfl hl.1 rfl (lv_room (Nat.le_of_ble_eq_true rfl)) dX2_above_28 ⟨Nat.le_of_ble_eq_true rfl, Nat.le_of_ble_eq_true rfl⟩) (fun r hr9 => ?_)
  obtain rfl := hr9
  have r_7 := SIN_R (fR_mono hp_2.2 (by decide) (by decide))
  refine lv_ldc2d hx hb hown (hts (.constantDouble RX2 223 (4600837336122831769)) (by decide +kernel)) dX2_above_31 ?_
  have r_8 : fR 4600837336122831769 427109968 427109969 := fR_lit (by decide +kernel)
  have r_9 := fR_mul r_7 r_8 (-427109969) 427109969 (by decide) (by decide) rfl rfl
  refine lv_dmul hx hb dX2_above_34 (fR_nn r_9) ?_
  refine lv_dstore (lv' := [(10, .double (FP.dmul (SIN v_1) 4600837336122831769)), (8, .double (FP.dmul (SIN v_1) 4606439163290984179)), (6, .double (COS v_1)), (4, .double v_1), (0, .ref am), (1, .int x1), (2, .double x2)]) hx hb dX2_above_35 hl (by decide) rfl (fun ls hl => ?_)
  refine lv_dload_n hx hb dX2_above_37 rfl (lv_at hl 6 rfl) ?_
  refine vp_callSd (W.runS (As := [.double x2]) (rest := []) ⟨hx, hb, hml, hown, hts⟩ (k_X2_turned l x2 h0) (va_cwS 1 hts gX2_above_X2_turned rfl rfl rfl (by decide +kernel) ⟨Nat.le_of_ble_eq_true rfl, Nat.le_of_ble_eq_true rfl⟩) preEq rfl rfl hl.1 rfl (lv_room (Nat.le_of_ble_eq_true rfl)) dX2_above_38 ⟨Nat.le_of_ble_eq_true rfl, Nat.le_of_ble_eq_true rfl⟩) (fun r hr9 => ?_)
  obtain rfl := hr9
  have r_10 := SID_R h0
  refine lv_aload_n hx hb dX2_above_41 rfl (lv_at hl 4 rfl) ?_
  refine va_get (D := (dC, dI)) (ci := 2) (v := .double ea) (C := RX2) (T := TX2) (N := 13) hx hb hts hin2 hown hK hP 0 rfl rfl 9 (by decide) (hts (.fieldLink RX2 184 "SkyAlmanacModel" "east" "D") (by decide +kernel)) (fun _ h9 => h9) rfl dX2_above_42 ?_
  have r_11 := fR_add r_10 hea (-193273528320) 579820584960 (by decide) (by decide) rfl rfl
  refine lv_dadd hx hb dX2_above_45 (fR_nn r_11) ?_
  refine lv_dstore (lv' := [(12, .double (FP.dadd (SID x2) ea)), (10, .double (FP.dmul (SIN v_1) 4600837336122831769)), (8, .double (FP.dmul (SIN v_1) 4606439163290984179)), (6, .double (COS v_1)), (4, .double v_1), (0, .ref am), (1, .int x1), (2, .double x2)]) hx hb dX2_above_46 hl (by decide) rfl (fun ls hl => ?_)
  refine lv_aload_n hx hb dX2_above_48 rfl (lv_at hl 5 rfl) ?_
  refine va_get (D := (dC, dI)) (ci := 2) (v := .double la) (C := RX2) (T := TX2) (N := 13) hx hb hts hin2 hown hK hP 0 rfl rfl 8 (by decide) (hts (.fieldLink RX2 180 "SkyAlmanacModel" "latitude" "D") (by decide +kernel)) (fun _ h9 => h9) rfl dX2_above_49 ?_
  refine vp_callSd (W.runS (As := [.double la]) (rest := []) ⟨hx, hb, hml, hown, hts⟩ (k_X2_cosine l la (fR_mono hla (by decide) (by decide))) (va_cwS 1 hts gX2_above_X2_cosine rfl rfl rfl (by decide +kernel) ⟨Nat.le_of_ble_eq_true rfl, Nat.le_of_ble_eq_true rfl⟩) preEq rfl rfl hl.1 rfl (lv_room (Nat.le_of_ble_eq_true rfl)) dX2_above_52 ⟨Nat.le_of_ble_eq_true rfl, Nat.le_of_ble_eq_true rfl⟩) (fun r hr9 => ?_)
  obtain rfl := hr9
  have r_12 := COS_R (fR_mono hla (by decide) (by decide))
  refine lv_dload hx hb dX2_above_55 (lv_at hl 3 rfl) ?_
  refine lv_dload hx hb dX2_above_57 (lv_at hl 0 rfl) ?_
  refine vp_callSd (W.runS (As := [.double (FP.dadd (SID x2) ea)]) (rest := [.double (COS v_1), .double (COS la)]) ⟨hx, hb, hml, hown, hts⟩ (k_X2_cosine l (FP.dadd (SID x2) ea) (fR_mono r_11 (by decide) (by decide))) (va_cwS 1 hts gX2_above_X2_cosine rfl rfl rfl (by decide +kernel) ⟨Nat.le_of_ble_eq_true rfl, Nat.le_of_ble_eq_true rfl⟩) preEq rfl rfl hl.1 rfl (lv_room (Nat.le_of_ble_eq_true rfl)) dX2_above_59 ⟨Nat.le_of_ble_eq_true rfl, Nat.le_of_ble_eq_true rfl⟩) (fun r hr9 => ?_)
  obtain rfl := hr9
  have r_13 := COS_R (fR_mono r_11 (by decide) (by decide))
  have r_14 := fR_mul r_3 r_13 (-1073741824) 1073741824 (by decide) (by decide) rfl rfl
  refine lv_dmul hx hb dX2_above_62 (fR_nn r_14) ?_
  refine lv_dload hx hb dX2_above_63 (lv_at hl 2 rfl) ?_
  refine lv_dload hx hb dX2_above_65 (lv_at hl 0 rfl) ?_
  refine vp_callSd (W.runS (As := [.double (FP.dadd (SID x2) ea)]) (rest := [.double (FP.dmul (SIN v_1) 4606439163290984179), .double (FP.dmul (COS v_1) (COS (FP.dadd (SID x2) ea))), .double (COS la)]) ⟨hx, hb, hml, hown, hts⟩ (k_X2_sine l (FP.dadd (SID x2) ea) (fR_mono r_11 (by decide) (by decide))) (va_cwS 1 hts gX2_above_X2_sine rfl rfl rfl (by decide +kernel) ⟨Nat.le_of_ble_eq_true rfl, Nat.le_of_ble_eq_true rfl⟩) preEq rfl rfl hl.1 rfl (lv_room (Nat.le_of_ble_eq_true rfl)) dX2_above_67 ⟨Nat.le_of_ble_eq_true rfl, Nat.le_of_ble_eq_true rfl⟩) (fun r hr9 => ?_)
  obtain rfl := hr9
  have r_15 := SIN_R (fR_mono r_11 (by decide) (by decide))
  have r_16 := fR_mul r_6 r_15 (-985138863) 985138863 (by decide) (by decide) rfl rfl
  refine lv_dmul hx hb dX2_above_70 (fR_nn r_16) ?_
  have r_17 := fR_add r_14 r_16 (-2058880687) 2058880687 (by decide) (by decide) rfl rfl
  refine lv_dadd hx hb dX2_above_71 (fR_nn r_17) ?_
  have r_18 := fR_mul r_12 r_17 (-2058880687) 2058880687 (by decide) (by decide) rfl rfl
  refine lv_dmul hx hb dX2_above_72 (fR_nn r_18) ?_
  refine lv_aload_n hx hb dX2_above_73 rfl (lv_at hl 5 rfl) ?_
  refine va_get (D := (dC, dI)) (ci := 2) (v := .double la) (C := RX2) (T := TX2) (N := 13) hx hb hts hin2 hown hK hP 0 rfl rfl 8 (by decide) (hts (.fieldLink RX2 180 "SkyAlmanacModel" "latitude" "D") (by decide +kernel)) (fun _ h9 => h9) rfl dX2_above_74 ?_
  refine vp_callSd (W.runS (As := [.double la]) (rest := [.double (FP.dmul (COS la) (FP.dadd (FP.dmul (COS v_1) (COS (FP.dadd (SID x2) ea))) (FP.dmul (FP.dmul (SIN v_1) 4606439163290984179) (SIN (FP.dadd (SID x2) ea)))))]) ⟨hx, hb, hml, hown, hts⟩ (k_X2_sine l la (fR_mono hla (by decide) (by decide))) (va_cwS 1 hts gX2_above_X2_sine rfl rfl rfl (by decide +kernel) ⟨Nat.le_of_ble_eq_true rfl, Nat.le_of_ble_eq_true rfl⟩) preEq rfl rfl hl.1 rfl (lv_room (Nat.le_of_ble_eq_true rfl)) dX2_above_77 ⟨Nat.le_of_ble_eq_true rfl, Nat.le_of_ble_eq_true rfl⟩) (fun r hr9 => ?_)
  obtain rfl := hr9
  have r_19 := SIN_R (fR_mono hla (by decide) (by decide))
  refine lv_dload hx hb dX2_above_80 (lv_at hl 1 rfl) ?_
  have r_20 := fR_mul r_19 r_9 (-427109969) 427109969 (by decide) (by decide) rfl rfl
  refine lv_dmul hx hb dX2_above_82 (fR_nn r_20) ?_
  have r_21 := fR_add r_18 r_20 (-2485990656) 2485990656 (by decide) (by decide) rfl rfl
  refine lv_dadd hx hb dX2_above_83 (fR_nn r_21) ?_
  exact W.dret hx hb hr (fun t ht hW => ⟨⟨_, (), rfl, (fun v hv => HEI_o hv hp_2.1), ⟨by rw [ht]; exact hP, hD⟩⟩, hS.F ht⟩) hS.2.2 dX2_above_84

def cd3 {α : Type} : Except String α → Int32
  | .ok _ => 0
  | .error e => if e = xNS then 1 else if e = xIA then 2 else 3
theorem lt43 {x : Int32} : (4 ≤ x) ↔ 3 < x := by
  rw [Int32.le_iff_toInt_le, Int32.lt_iff_toInt_lt]
  have : (4 : Int32).toInt = 4 := rfl
  have : (3 : Int32).toInt = 3 := rfl
  omega
theorem NB_bad {sf : Nat → Int32} {x1 : Int32} (h : ¬ NB sf x1 = 0) : BTS (sf x1.toNatClampNeg) x1 = .error xNS := by
  unfold BTS
  by_cases c1 : x1 < 0
  · rw [if_pos c1]
  · rw [if_neg c1]
    by_cases c2 : 4 ≤ x1
    · rw [if_pos c2]
    · rw [if_neg c2]
      by_cases c3 : sf x1.toNatClampNeg = 0
      · rw [if_pos c3]
      · exact absurd (by unfold NB; rw [if_neg c1, if_neg (fun h => c2 (lt43.mpr h)), if_neg c3]) h
theorem NB_ok {sf : Nat → Int32} {x1 : Int32} (h : NB sf x1 = 0) : BTS (sf x1.toNatClampNeg) x1 = .ok () := by
  obtain ⟨a, b, c⟩ := NB_0 h
  unfold BTS; rw [if_neg a, if_neg (fun h => b (lt43.mp h)), if_neg c]
theorem lon_bad {sf : Nat → Int32} {x1 : Int32} {t : UInt64} {r : Except String UInt64} (h : ¬ f_X2_bar sf x1 t ≤ 0) : cd3 (f_X1_lon (sf x1.toNatClampNeg) x1 t r) = f_X2_bar sf x1 t ∧ cWK (sf x1.toNatClampNeg) x1 t = 0 ∧ cFL (f_X1_lon (sf x1.toNatClampNeg) x1 t r) = 0 ∧ ∀ v, f_X1_lon (sf x1.toNatClampNeg) x1 t r ≠ .ok v := by
  unfold f_X2_bar at h ⊢
  by_cases c : NB sf x1 = 0
  · rw [if_pos c] at h ⊢
    by_cases c2 : f_X2_within t 13920209183539462144 4696837146684686336 = 0
    · rw [if_pos c2] at h ⊢
      have hb := NB_ok c
      have e : f_X1_lon (sf x1.toNatClampNeg) x1 t r = .error xIA := by unfold f_X1_lon; rw [xb_ok hb, if_pos (show f_X1_isTime t = 0 from c2)]
      rw [e]
      exact ⟨rfl, cWK_0 hb c2, rfl, fun v hv => by cases hv⟩
    · rw [if_neg c2] at h; exact absurd (by decide) h
  · rw [if_neg c] at h ⊢
    have hb := NB_bad c
    have e : f_X1_lon (sf x1.toNatClampNeg) x1 t r = .error xNS := by unfold f_X1_lon; rw [xb_err hb]
    rw [e]
    exact ⟨rfl, cWK_e hb, rfl, fun v hv => by cases hv⟩
theorem lon_good {sf : Nat → Int32} {x1 : Int32} {t : UInt64} {r : Except String UInt64} (h : f_X2_bar sf x1 t ≤ 0) : (¬ x1 < 0 ∧ ¬ 3 < x1) ∧ ¬ f_X1_isTime t = 0 ∧ f_X1_lon (sf x1.toNatClampNeg) x1 t r = r ∧ cWK (sf x1.toNatClampNeg) x1 t = 1 := by
  unfold f_X2_bar at h
  by_cases c : NB sf x1 = 0
  · rw [if_pos c] at h
    by_cases c2 : f_X2_within t 13920209183539462144 4696837146684686336 = 0
    · rw [if_pos c2] at h; exact absurd h (by decide)
    · have hb := NB_ok c
      obtain ⟨a, b, -⟩ := NB_0 c
      exact ⟨⟨a, b⟩, c2, by unfold f_X1_lon; rw [xb_ok hb, if_neg (show ¬ f_X1_isTime t = 0 from c2)], cWK_1 hb c2⟩
  · rw [if_neg c] at h; exact absurd h (by decide)
theorem cd3_0 {α : Type} {r : Except String α} (h : cFD r = 0) : cd3 r = 0 := by
  cases r with
  | error e => exact absurd (show (1 : Int32) = 0 from h) (by decide)
  | ok v => rfl
theorem cd3_3 {α : Type} {r : Except String α} (h : ¬ cFD r = 0) (hx : ∀ e, r = .error e → e = xIS) : cd3 r = 3 := by
  cases r with
  | error e => rw [hx e rfl]; rfl
  | ok v => exact absurd rfl h
theorem cFL_FD {α β : Type} {r : Except String α} {q : Except String β} (h : ∀ e, r = .error e ↔ q = .error e) : cFL r = cFL q ∧ cFD r = cFD q := by
  cases r with
  | error e => rw [(h e).mp rfl]; exact ⟨rfl, rfl⟩
  | ok v =>
    cases q with
    | error e => exact absurd ((h e).mpr rfl) (fun h => by cases h)
    | ok w => exact ⟨rfl, rfl⟩
theorem HEI_iff {la ea oL oN oE oW : UInt64} {k : Nat} {pw : Nat → Int32} {fa sa va : Nat → UInt64} {t : UInt64} (e : String) : LON oL oN oE oW k pw fa sa va t = .error e ↔ HEI la ea oL oN oE oW k pw fa sa va t = .error e := by
  unfold HEI
  cases hA : LON oL oN oE oW k pw fa sa va t with
  | error x => exact Iff.rfl
  | ok x => exact ⟨(fun h => by cases h), (fun h => by cases h)⟩
set_option maxHeartbeats 4000000 in
set_option maxRecDepth 100000 in
theorem k_X2_longitude (l : Launch) (hst : l.stackTraces = false) (dC : Nat → ClassId) (dI : Nat → Nat → Nat) (cA : Nat → ClassId) (tm tt sz : Nat) (am gs go gt gp gw gl : Nat) (th wo fu : Int32) (la ea : UInt64) (ln fd : Int32) (sf : Nat → Int32) (uf : Nat → UInt64) (tf : Nat → Int32) (pf : Nat → Int32) (wf : Nat → UInt64) (oL oN oE oW : UInt64) (k : Nat) (pw : Nat → Int32) (fa sa va : Nat → UInt64) (x1 : Int32) (x2 : UInt64) (hR9 : ¬ x1 < 0 → ¬ 3 < x1 → bR (Int32.toNatClampNeg x1) uf tf pf wf oL oN oE oW k pw fa sa va) (hO : oOK oL oN oE oW) (hT : tOK k fa sa va) (hF : fR x2 (-1208925819614629174706176) 1208925819614629174706176) : Met l yX2_longitude wsX2_longitude ({ frames := 5, cells := 0, slots := 0, locals := 149 }) (PcW dC dI cA tm tt sz [.ref am, .int x1, .double x2] [(am, .inr (2, [.int th, .int wo, .int fu, .ref gs, .ref go, .ref gt, .ref gp, .ref gw, .double la, .double ea, .ref gl, .int ln, .int fd])), (gs, aI 4 (cA 4) sf), (go, aD 16 (cA 1) uf), (gt, aI 4 (cA 0) tf), (gp, aI 48 (cA 0) pf), (gw, aD 144 (cA 1) wf)]) (va_Qd (fun r (_ : Unit) => ∀ v, f_X1_lon (sf (Int32.toNatClampNeg x1)) x1 x2 (LON oL oN oE oW k pw fa sa va x2) = .ok v → r = v) (fun _ t => WB dC dI (va_A [(am, .inr (2, [.int th, .int wo, .int fu, .ref gs, .ref go, .ref gt, .ref gp, .ref gw, .double la, .double ea, .ref gl, .int ln, .int fd])), (gs, aI 4 (cA 4) sf), (go, aD 16 (cA 1) uf), (gt, aI 4 (cA 0) tf), (gp, aI 48 (cA 0) pf), (gw, aD 144 (cA 1) wf)] sz) [(am, .inr (2, [.int (cd3 (f_X1_lon (sf (Int32.toNatClampNeg x1)) x1 x2 (LON oL oN oE oW k pw fa sa va x2))), .int (wo + cWK (sf (Int32.toNatClampNeg x1)) x1 x2), .int (fu + cFL (f_X1_lon (sf (Int32.toNatClampNeg x1)) x1 x2 (LON oL oN oE oW k pw fa sa va x2))), .ref gs, .ref go, .ref gt, .ref gp, .ref gw, .double la, .double ea, .ref gl, .int ln, .int (if f_X2_bar sf x1 x2 ≤ 0 then cFD (LON oL oN oE oW k pw fa sa va x2) else fd)])), (gs, aI 4 (cA 4) sf), (go, aD 16 (cA 1) uf), (gt, aI 4 (cA 0) tf), (gp, aI 48 (cA 0) pf), (gw, aD 144 (cA 1) wf)] t) (va_A [(am, .inr (2, [.int th, .int wo, .int fu, .ref gs, .ref go, .ref gt, .ref gp, .ref gw, .double la, .double ea, .ref gl, .int ln, .int fd])), (gs, aI 4 (cA 4) sf), (go, aD 16 (cA 1) uf), (gt, aI 4 (cA 0) tf), (gp, aI 48 (cA 0) pf), (gw, aD 144 (cA 1) wf)] sz)) 0 0 (va_A [(am, .inr (2, [.int th, .int wo, .int fu, .ref gs, .ref go, .ref gt, .ref gp, .ref gw, .double la, .double ea, .ref gl, .int ln, .int fd])), (gs, aI 4 (cA 4) sf), (go, aD 16 (cA 1) uf), (gt, aI 4 (cA 0) tf), (gp, aI 48 (cA 0) pf), (gw, aD 144 (cA 1) wf)] sz) := by
  refine Met.ofW (cc := cX2_longitude) (maxL := 6) (ret := (some .double)) (by decide) rfl ?_
  intro p e s m args below meth c s₁ B hml hv
  obtain ⟨rfl, hsz, hP, hK, hD0, hE⟩ := hv
  subst hsz
  have hD := hD0.self (sz := s.heap.size)
  generalize hAe : va_A [(am, .inr (2, [.int th, .int wo, .int fu, .ref gs, .ref go, .ref gt, .ref gp, .ref gw, .double la, .double ea, .ref gl, .int ln, .int fd])), (gs, aI 4 (cA 4) sf), (go, aD 16 (cA 1) uf), (gt, aI 4 (cA 0) tf), (gp, aI 48 (cA 0) pf), (gw, aD 144 (cA 1) wf)] s.heap.size = A at hD hE ⊢
  have hA : ∀ q : Nat, s.heap.size ≤ q → A q := fun q h => by rw [← hAe]; exact Or.inr h
  have hS : va_S A s.heap s.heap [] := va_S.rf
  have hP : va_P (dC, dI) vwCl [(am, .inr (2, [.int th, .int wo, .int fu, .ref gs, .ref go, .ref gt, .ref gp, .ref gw, .double la, .double ea, .ref gl, .int ln, .int fd])), (gs, aI 4 (cA 4) sf), (go, aD 16 (cA 1) uf), (gt, aI 4 (cA 0) tf), (gp, aI 48 (cA 0) pf), (gw, aD 144 (cA 1) wf)] s.heap := hP
  have hx := B.exec
  have hb := B.bytes
  have hr := B.returns
  have hts := atoms_spec (ws := wsX2_longitude) B.pre
  have hown : s.vm.findClass RX2 = some m.cls := findClass_of_methodNamed B.named
  have hlocks := B.notSynchronized
  have hl := lv_entry ([.ref am, .int x1, .double x2]) (n := 6) (Nat.le_of_ble_eq_true rfl)
  rw [lg_entry_eq]
  generalize (lg_sl ([.ref am, .int x1, .double x2]) ++ List.replicate (6 - (lg_sl ([.ref am, .int x1, .double x2])).length) Slot.unset).toArray = ls at hl ⊢
  have hl : lv_has ls 6 [(0, .ref am), (1, .int x1), (2, .double x2)] := hl
  have hin2 : ∀ w ∈ u_ws RX2 TX2 13, w ∈ wsX2_longitude := by decide +kernel
  refine lv_aload_n hx hb dX2_longitude_0 rfl (lv_at hl 0 rfl) ?_
  refine lv_aload_n hx hb dX2_longitude_1 rfl (lv_at hl 0 rfl) ?_
  refine lv_iload_n hx hb dX2_longitude_2 rfl (lv_at hl 1 rfl) ?_
  refine lv_dload_n hx hb dX2_longitude_3 rfl (lv_at hl 2 rfl) ?_
  have hPc := hP.sub (ws' := [(am, .inr (2, [.int th, .int wo, .int fu, .ref gs, .ref go, .ref gt, .ref gp, .ref gw, .double la, .double ea, .ref gl, .int ln, .int fd])), (gs, aI 4 (cA 4) sf)]) [0, 1] rfl
  refine vp_callSi (W.runV (As := [.int x1, .double x2]) (rest := [.ref am]) ⟨hx, hb, hml, hown, hts⟩ (k_X2_bar l dC dI cA tm tt am gs go gt gp gw gl th wo fu la ea ln fd sf x1 x2) (cwV 2 hts gX2_longitude_X2_bar rfl rfl rfl (by decide +kernel) ⟨Nat.le_of_ble_eq_true rfl, Nat.le_of_ble_eq_true rfl⟩) ⟨PcO.blind, va_recv hK hPc (ci := 2) (q0 := 0) rfl rfl, PcO.give hPc hK hE hS⟩ rfl rfl hl.1 rfl (lv_room (Nat.le_of_ble_eq_true rfl)) dX2_longitude_4 ⟨Nat.le_of_ble_eq_true rfl, Nat.le_of_ble_eq_true rfl⟩) (fun r hr9 => ?_)
  obtain rfl := hr9
  refine va_put (D := (dC, dI)) (ci := 2) (v := .int (f_X2_bar sf x1 x2)) (ty := .int) (C := RX2) (T := TX2) (N := 13) hx hb hts hin2 tyX2 tyX2_ok nmX2 hown hK hP hD hS 0 rfl rfl 0 (by decide) (hts (.fieldLink RX2 30 "SkyAlmanacModel" "thrown" "I") (by decide +kernel)) (fun _ h9 => h9) rfl (by decide +kernel) rfl rfl (Nat.le_of_ble_eq_true rfl) dX2_longitude_7 (fun H locs hP hD hS => ?_)
  have hP : va_P (dC, dI) vwCl [(am, .inr (2, [.int (f_X2_bar sf x1 x2), .int wo, .int fu, .ref gs, .ref go, .ref gt, .ref gp, .ref gw, .double la, .double ea, .ref gl, .int ln, .int fd])), (gs, aI 4 (cA 4) sf), (go, aD 16 (cA 1) uf), (gt, aI 4 (cA 0) tf), (gp, aI 48 (cA 0) pf), (gw, aD 144 (cA 1) wf)] H := hP
  have hD : va_D A [(am, .inr (2, [.int (f_X2_bar sf x1 x2), .int wo, .int fu, .ref gs, .ref go, .ref gt, .ref gp, .ref gw, .double la, .double ea, .ref gl, .int ln, .int fd])), (gs, aI 4 (cA 4) sf), (go, aD 16 (cA 1) uf), (gt, aI 4 (cA 0) tf), (gp, aI 48 (cA 0) pf), (gw, aD 144 (cA 1) wf)] := hD
  refine lv_aload_n hx hb dX2_longitude_10 rfl (lv_at hl 0 rfl) ?_
  refine va_get (D := (dC, dI)) (ci := 2) (v := .int (f_X2_bar sf x1 x2)) (C := RX2) (T := TX2) (N := 13) hx hb hts hin2 hown hK hP 0 rfl rfl 0 (by decide) (hts (.fieldLink RX2 30 "SkyAlmanacModel" "thrown" "I") (by decide +kernel)) (fun _ h9 => h9) rfl dX2_longitude_11 ?_
  refine lv_if_le (tgt := 19) hx hb dX2_longitude_14 (by decide) (fun c_1 => ?_) (fun c_1 => ?_)
  · obtain ⟨⟨hb1, hb2⟩, q2, q3, q4⟩ := lon_good (r := LON oL oN oE oW k pw fa sa va x2) c_1
    have hR := hR9 hb1 hb2
    have h0 := fR_mono (c := -2251799813685248) (d := 2251799813685248) (tm_R hF q2) (by decide) (by decide)
    refine lv_aload_n hx hb dX2_longitude_19 rfl (lv_at hl 0 rfl) ?_
    refine lv_iload_n hx hb dX2_longitude_20 rfl (lv_at hl 1 rfl) ?_
    refine lv_dload_n hx hb dX2_longitude_21 rfl (lv_at hl 2 rfl) ?_
    have hPc := hP.sub (ws' := [(am, .inr (2, [.int (f_X2_bar sf x1 x2), .int wo, .int fu, .ref gs, .ref go, .ref gt, .ref gp, .ref gw, .double la, .double ea, .ref gl, .int ln, .int fd])), (go, aD 16 (cA 1) uf), (gt, aI 4 (cA 0) tf), (gp, aI 48 (cA 0) pf), (gw, aD 144 (cA 1) wf)]) [0, 2, 3, 4, 5] rfl
    have hDc := hD.sub (ws' := [(am, .inr (2, [.int (f_X2_bar sf x1 x2), .int wo, .int fu, .ref gs, .ref go, .ref gt, .ref gp, .ref gw, .double la, .double ea, .ref gl, .int ln, .int fd])), (go, aD 16 (cA 1) uf), (gt, aI 4 (cA 0) tf), (gp, aI 48 (cA 0) pf), (gw, aD 144 (cA 1) wf)]) [0, 2, 3, 4, 5] (by decide) rfl
    have hFc := va_free (wc := [(am, .inr (2, [.int (f_X2_bar sf x1 x2), .int wo, .int fu, .ref gs, .ref go, .ref gt, .ref gp, .ref gw, .double la, .double ea, .ref gl, .int ln, .int fd])), (go, aD 16 (cA 1) uf), (gt, aI 4 (cA 0) tf), (gp, aI 48 (cA 0) pf), (gw, aD 144 (cA 1) wf)]) hD hS hA [0, 2, 3, 4, 5] rfl
    refine va_calld (va_runV (As := [.int x1, .double x2]) (rest := []) ⟨hx, hb, hml, hown, hts⟩ (k_X2_along l hst dC dI cA tm tt _ am gs go gt gp gw gl (f_X2_bar sf x1 x2) wo fu la ea ln fd uf tf pf wf oL oN oE oW k pw fa sa va x1 x2 hb1 hb2 hR hO hT h0) (cwV 2 hts gX2_longitude_X2_along rfl rfl rfl (by decide +kernel) ⟨Nat.le_of_ble_eq_true rfl, Nat.le_of_ble_eq_true rfl⟩) ⟨PcW.blind, va_recv hK hPc (ci := 2) (q0 := 0) rfl rfl, PcW.give hPc hK hDc hE hS hFc⟩ rfl rfl hl.1 rfl (lv_room (Nat.le_of_ble_eq_true rfl)) dX2_longitude_22 ⟨Nat.le_of_ble_eq_true rfl, Nat.le_of_ble_eq_true rfl⟩) hS (fun q _ h => hFc q h) hFc (fun v_2 u t H locs ht hvm hp_3 hB hz1 hk1 hS => ?_)
    obtain ⟨hP1, hD1⟩ := hB
    rw [ht] at hP1
    obtain ⟨hP, hD⟩ := va_join (wr := [(gs, aI 4 (cA 4) sf)]) (w1 := [(am, .inr (2, [.int (f_X2_bar sf x1 x2), .int (wo + 1), .int (fu + cFL (LON oL oN oE oW k pw fa sa va x2)), .ref gs, .ref go, .ref gt, .ref gp, .ref gw, .double la, .double ea, .ref gl, .int ln, .int (cFD (LON oL oN oE oW k pw fa sa va x2))])), (go, aD 16 (cA 1) uf), (gt, aI 4 (cA 0) tf), (gp, aI 48 (cA 0) pf), (gw, aD 144 (cA 1) wf)]) hP hD [0, 2, 3, 4, 5] [1] rfl rfl (by decide) (by decide) hk1 hFc hP1 hD1
    have hP := hP.sub (ws' := [(am, .inr (2, [.int (f_X2_bar sf x1 x2), .int (wo + 1), .int (fu + cFL (LON oL oN oE oW k pw fa sa va x2)), .ref gs, .ref go, .ref gt, .ref gp, .ref gw, .double la, .double ea, .ref gl, .int ln, .int (cFD (LON oL oN oE oW k pw fa sa va x2))])), (gs, aI 4 (cA 4) sf), (go, aD 16 (cA 1) uf), (gt, aI 4 (cA 0) tf), (gp, aI 48 (cA 0) pf), (gw, aD 144 (cA 1) wf)]) [1, 0, 2, 3, 4, 5] rfl
    have hD := hD.sub (ws' := [(am, .inr (2, [.int (f_X2_bar sf x1 x2), .int (wo + 1), .int (fu + cFL (LON oL oN oE oW k pw fa sa va x2)), .ref gs, .ref go, .ref gt, .ref gp, .ref gw, .double la, .double ea, .ref gl, .int ln, .int (cFD (LON oL oN oE oW k pw fa sa va x2))])), (gs, aI 4 (cA 4) sf), (go, aD 16 (cA 1) uf), (gt, aI 4 (cA 0) tf), (gp, aI 48 (cA 0) pf), (gw, aD 144 (cA 1) wf)]) [1, 0, 2, 3, 4, 5] (by decide) rfl
    refine lv_dstore (lv' := [(4, .double v_2), (0, .ref am), (1, .int x1), (2, .double x2)]) hx hb dX2_longitude_25 hl (by decide) rfl (fun ls hl => ?_)
    refine lv_aload_n hx hb dX2_longitude_27 rfl (lv_at hl 1 rfl) ?_
    refine lv_aload_n hx hb dX2_longitude_28 rfl (lv_at hl 1 rfl) ?_
    refine va_get (D := (dC, dI)) (ci := 2) (v := .int (cFD (LON oL oN oE oW k pw fa sa va x2))) (C := RX2) (T := TX2) (N := 13) hx hb hts hin2 hown hK hP 0 rfl rfl 12 (by decide) (hts (.fieldLink RX2 202 "SkyAlmanacModel" "failed" "Z") (by decide +kernel)) (fun _ h9 => h9) rfl dX2_longitude_29 ?_
    refine lv_if_eq (tgt := 39) hx hb dX2_longitude_32 (by decide) (fun c_4 => ?_) (fun c_4 => ?_)
    · refine lv_iconst (v := 0) hx hb dX2_longitude_39 (by decide) ?_
      refine va_put (D := (dC, dI)) (ci := 2) (v := .int 0) (ty := .int) (C := RX2) (T := TX2) (N := 13) hx hb hts hin2 tyX2 tyX2_ok nmX2 hown hK hP hD hS 0 rfl rfl 0 (by decide) (hts (.fieldLink RX2 30 "SkyAlmanacModel" "thrown" "I") (by decide +kernel)) (fun _ h9 => h9) rfl (by decide +kernel) rfl rfl (Nat.le_of_ble_eq_true rfl) dX2_longitude_40 (fun H locs hP hD hS => ?_)
      have hP : va_P (dC, dI) vwCl [(am, .inr (2, [.int 0, .int (wo + 1), .int (fu + cFL (LON oL oN oE oW k pw fa sa va x2)), .ref gs, .ref go, .ref gt, .ref gp, .ref gw, .double la, .double ea, .ref gl, .int ln, .int (cFD (LON oL oN oE oW k pw fa sa va x2))])), (gs, aI 4 (cA 4) sf), (go, aD 16 (cA 1) uf), (gt, aI 4 (cA 0) tf), (gp, aI 48 (cA 0) pf), (gw, aD 144 (cA 1) wf)] H := hP
      have hD : va_D A [(am, .inr (2, [.int 0, .int (wo + 1), .int (fu + cFL (LON oL oN oE oW k pw fa sa va x2)), .ref gs, .ref go, .ref gt, .ref gp, .ref gw, .double la, .double ea, .ref gl, .int ln, .int (cFD (LON oL oN oE oW k pw fa sa va x2))])), (gs, aI 4 (cA 4) sf), (go, aD 16 (cA 1) uf), (gt, aI 4 (cA 0) tf), (gp, aI 48 (cA 0) pf), (gw, aD 144 (cA 1) wf)] := hD
      have hP : va_P (dC, dI) vwCl [(am, .inr (2, [.int (cd3 (f_X1_lon (sf (Int32.toNatClampNeg x1)) x1 x2 (LON oL oN oE oW k pw fa sa va x2))), .int (wo + cWK (sf (Int32.toNatClampNeg x1)) x1 x2), .int (fu + cFL (f_X1_lon (sf (Int32.toNatClampNeg x1)) x1 x2 (LON oL oN oE oW k pw fa sa va x2))), .ref gs, .ref go, .ref gt, .ref gp, .ref gw, .double la, .double ea, .ref gl, .int ln, .int (if f_X2_bar sf x1 x2 ≤ 0 then cFD (LON oL oN oE oW k pw fa sa va x2) else fd)])), (gs, aI 4 (cA 4) sf), (go, aD 16 (cA 1) uf), (gt, aI 4 (cA 0) tf), (gp, aI 48 (cA 0) pf), (gw, aD 144 (cA 1) wf)] H := by rw [q3, q4, if_pos c_1, show cd3 (LON oL oN oE oW k pw fa sa va x2) = 0 from cd3_0 c_4]; exact hP
      have hD : va_D A [(am, .inr (2, [.int (cd3 (f_X1_lon (sf (Int32.toNatClampNeg x1)) x1 x2 (LON oL oN oE oW k pw fa sa va x2))), .int (wo + cWK (sf (Int32.toNatClampNeg x1)) x1 x2), .int (fu + cFL (f_X1_lon (sf (Int32.toNatClampNeg x1)) x1 x2 (LON oL oN oE oW k pw fa sa va x2))), .ref gs, .ref go, .ref gt, .ref gp, .ref gw, .double la, .double ea, .ref gl, .int ln, .int (if f_X2_bar sf x1 x2 ≤ 0 then cFD (LON oL oN oE oW k pw fa sa va x2) else fd)])), (gs, aI 4 (cA 4) sf), (go, aD 16 (cA 1) uf), (gt, aI 4 (cA 0) tf), (gp, aI 48 (cA 0) pf), (gw, aD 144 (cA 1) wf)] := by rw [q3, q4, if_pos c_1, show cd3 (LON oL oN oE oW k pw fa sa va x2) = 0 from cd3_0 c_4]; exact hD
      refine lv_dload hx hb dX2_longitude_43 (lv_at hl 0 rfl) ?_
      exact W.dret hx hb hr (fun t ht hW => ⟨⟨_, (), rfl, (fun v hv => hp_3.1 v (q3 ▸ hv)), ⟨by rw [ht]; exact hP, hD⟩⟩, hS.F ht⟩) hS.2.2 dX2_longitude_45
    · refine lv_iconst (v := 3) hx hb dX2_longitude_35 (by decide) ?_
      refine lv_goto (tgt := 40) hx hb dX2_longitude_36 (by decide) ?_
      refine va_put (D := (dC, dI)) (ci := 2) (v := .int 3) (ty := .int) (C := RX2) (T := TX2) (N := 13) hx hb hts hin2 tyX2 tyX2_ok nmX2 hown hK hP hD hS 0 rfl rfl 0 (by decide) (hts (.fieldLink RX2 30 "SkyAlmanacModel" "thrown" "I") (by decide +kernel)) (fun _ h9 => h9) rfl (by decide +kernel) rfl rfl (Nat.le_of_ble_eq_true rfl) dX2_longitude_40 (fun H locs hP hD hS => ?_)
      have hP : va_P (dC, dI) vwCl [(am, .inr (2, [.int 3, .int (wo + 1), .int (fu + cFL (LON oL oN oE oW k pw fa sa va x2)), .ref gs, .ref go, .ref gt, .ref gp, .ref gw, .double la, .double ea, .ref gl, .int ln, .int (cFD (LON oL oN oE oW k pw fa sa va x2))])), (gs, aI 4 (cA 4) sf), (go, aD 16 (cA 1) uf), (gt, aI 4 (cA 0) tf), (gp, aI 48 (cA 0) pf), (gw, aD 144 (cA 1) wf)] H := hP
      have hD : va_D A [(am, .inr (2, [.int 3, .int (wo + 1), .int (fu + cFL (LON oL oN oE oW k pw fa sa va x2)), .ref gs, .ref go, .ref gt, .ref gp, .ref gw, .double la, .double ea, .ref gl, .int ln, .int (cFD (LON oL oN oE oW k pw fa sa va x2))])), (gs, aI 4 (cA 4) sf), (go, aD 16 (cA 1) uf), (gt, aI 4 (cA 0) tf), (gp, aI 48 (cA 0) pf), (gw, aD 144 (cA 1) wf)] := hD
      have hP : va_P (dC, dI) vwCl [(am, .inr (2, [.int (cd3 (f_X1_lon (sf (Int32.toNatClampNeg x1)) x1 x2 (LON oL oN oE oW k pw fa sa va x2))), .int (wo + cWK (sf (Int32.toNatClampNeg x1)) x1 x2), .int (fu + cFL (f_X1_lon (sf (Int32.toNatClampNeg x1)) x1 x2 (LON oL oN oE oW k pw fa sa va x2))), .ref gs, .ref go, .ref gt, .ref gp, .ref gw, .double la, .double ea, .ref gl, .int ln, .int (if f_X2_bar sf x1 x2 ≤ 0 then cFD (LON oL oN oE oW k pw fa sa va x2) else fd)])), (gs, aI 4 (cA 4) sf), (go, aD 16 (cA 1) uf), (gt, aI 4 (cA 0) tf), (gp, aI 48 (cA 0) pf), (gw, aD 144 (cA 1) wf)] H := by rw [q3, q4, if_pos c_1, show cd3 (LON oL oN oE oW k pw fa sa va x2) = 3 from cd3_3 c_4 (fun e he => LON_err he)]; exact hP
      have hD : va_D A [(am, .inr (2, [.int (cd3 (f_X1_lon (sf (Int32.toNatClampNeg x1)) x1 x2 (LON oL oN oE oW k pw fa sa va x2))), .int (wo + cWK (sf (Int32.toNatClampNeg x1)) x1 x2), .int (fu + cFL (f_X1_lon (sf (Int32.toNatClampNeg x1)) x1 x2 (LON oL oN oE oW k pw fa sa va x2))), .ref gs, .ref go, .ref gt, .ref gp, .ref gw, .double la, .double ea, .ref gl, .int ln, .int (if f_X2_bar sf x1 x2 ≤ 0 then cFD (LON oL oN oE oW k pw fa sa va x2) else fd)])), (gs, aI 4 (cA 4) sf), (go, aD 16 (cA 1) uf), (gt, aI 4 (cA 0) tf), (gp, aI 48 (cA 0) pf), (gw, aD 144 (cA 1) wf)] := by rw [q3, q4, if_pos c_1, show cd3 (LON oL oN oE oW k pw fa sa va x2) = 3 from cd3_3 c_4 (fun e he => LON_err he)]; exact hD
      refine lv_dload hx hb dX2_longitude_43 (lv_at hl 0 rfl) ?_
      exact W.dret hx hb hr (fun t ht hW => ⟨⟨_, (), rfl, (fun v hv => hp_3.1 v (q3 ▸ hv)), ⟨by rw [ht]; exact hP, hD⟩⟩, hS.F ht⟩) hS.2.2 dX2_longitude_45
  · obtain ⟨q1, q2, q3, q4⟩ := lon_bad (r := LON oL oN oE oW k pw fa sa va x2) c_1
    have hP : va_P (dC, dI) vwCl [(am, .inr (2, [.int (cd3 (f_X1_lon (sf (Int32.toNatClampNeg x1)) x1 x2 (LON oL oN oE oW k pw fa sa va x2))), .int (wo + cWK (sf (Int32.toNatClampNeg x1)) x1 x2), .int (fu + cFL (f_X1_lon (sf (Int32.toNatClampNeg x1)) x1 x2 (LON oL oN oE oW k pw fa sa va x2))), .ref gs, .ref go, .ref gt, .ref gp, .ref gw, .double la, .double ea, .ref gl, .int ln, .int (if f_X2_bar sf x1 x2 ≤ 0 then cFD (LON oL oN oE oW k pw fa sa va x2) else fd)])), (gs, aI 4 (cA 4) sf), (go, aD 16 (cA 1) uf), (gt, aI 4 (cA 0) tf), (gp, aI 48 (cA 0) pf), (gw, aD 144 (cA 1) wf)] H := by rw [q1, q2, q3, if_neg c_1, i0, i0]; exact hP
    have hD : va_D A [(am, .inr (2, [.int (cd3 (f_X1_lon (sf (Int32.toNatClampNeg x1)) x1 x2 (LON oL oN oE oW k pw fa sa va x2))), .int (wo + cWK (sf (Int32.toNatClampNeg x1)) x1 x2), .int (fu + cFL (f_X1_lon (sf (Int32.toNatClampNeg x1)) x1 x2 (LON oL oN oE oW k pw fa sa va x2))), .ref gs, .ref go, .ref gt, .ref gp, .ref gw, .double la, .double ea, .ref gl, .int ln, .int (if f_X2_bar sf x1 x2 ≤ 0 then cFD (LON oL oN oE oW k pw fa sa va x2) else fd)])), (gs, aI 4 (cA 4) sf), (go, aD 16 (cA 1) uf), (gt, aI 4 (cA 0) tf), (gp, aI 48 (cA 0) pf), (gw, aD 144 (cA 1) wf)] := by rw [q1, q2, q3, if_neg c_1, i0, i0]; exact hD
    refine lv_dconst0 hx hb dX2_longitude_17 ?_
    have r_5 : fR FP.dconst0 0 0 := fR_lit (by decide +kernel)
    exact W.dret hx hb hr (fun t ht hW => ⟨⟨_, (), rfl, (fun v hv => absurd hv (q4 v)), ⟨by rw [ht]; exact hP, hD⟩⟩, hS.F ht⟩) hS.2.2 dX2_longitude_18

set_option maxHeartbeats 4000000 in
set_option maxRecDepth 100000 in
theorem k_X2_height (l : Launch) (hst : l.stackTraces = false) (dC : Nat → ClassId) (dI : Nat → Nat → Nat) (cA : Nat → ClassId) (tm tt sz : Nat) (am gs go gt gp gw gl : Nat) (th wo fu : Int32) (la ea : UInt64) (ln fd : Int32) (sf : Nat → Int32) (uf : Nat → UInt64) (tf : Nat → Int32) (pf : Nat → Int32) (wf : Nat → UInt64) (oL oN oE oW : UInt64) (k : Nat) (pw : Nat → Int32) (fa sa va : Nat → UInt64) (x1 : Int32) (x2 : UInt64) (hR9 : ¬ x1 < 0 → ¬ 3 < x1 → bR (Int32.toNatClampNeg x1) uf tf pf wf oL oN oE oW k pw fa sa va) (hO : oOK oL oN oE oW) (hT : tOK k fa sa va) (hla : fR la (-96636764160) 96636764160) (hea : fR ea (-193273528320) 193273528320) (hF : fR x2 (-1208925819614629174706176) 1208925819614629174706176) : Met l yX2_height wsX2_height ({ frames := 6, cells := 0, slots := 0, locals := 182 }) (PcW dC dI cA tm tt sz [.ref am, .int x1, .double x2] [(am, .inr (2, [.int th, .int wo, .int fu, .ref gs, .ref go, .ref gt, .ref gp, .ref gw, .double la, .double ea, .ref gl, .int ln, .int fd])), (gs, aI 4 (cA 4) sf), (go, aD 16 (cA 1) uf), (gt, aI 4 (cA 0) tf), (gp, aI 48 (cA 0) pf), (gw, aD 144 (cA 1) wf)]) (va_Qd (fun r (_ : Unit) => ∀ v, f_X1_lon (sf (Int32.toNatClampNeg x1)) x1 x2 (HEI la ea oL oN oE oW k pw fa sa va x2) = .ok v → r = v) (fun _ t => WB dC dI (va_A [(am, .inr (2, [.int th, .int wo, .int fu, .ref gs, .ref go, .ref gt, .ref gp, .ref gw, .double la, .double ea, .ref gl, .int ln, .int fd])), (gs, aI 4 (cA 4) sf), (go, aD 16 (cA 1) uf), (gt, aI 4 (cA 0) tf), (gp, aI 48 (cA 0) pf), (gw, aD 144 (cA 1) wf)] sz) [(am, .inr (2, [.int (cd3 (f_X1_lon (sf (Int32.toNatClampNeg x1)) x1 x2 (HEI la ea oL oN oE oW k pw fa sa va x2))), .int (wo + cWK (sf (Int32.toNatClampNeg x1)) x1 x2), .int (fu + cFL (f_X1_lon (sf (Int32.toNatClampNeg x1)) x1 x2 (HEI la ea oL oN oE oW k pw fa sa va x2))), .ref gs, .ref go, .ref gt, .ref gp, .ref gw, .double la, .double ea, .ref gl, .int ln, .int (if f_X2_bar sf x1 x2 ≤ 0 then cFD (LON oL oN oE oW k pw fa sa va x2) else fd)])), (gs, aI 4 (cA 4) sf), (go, aD 16 (cA 1) uf), (gt, aI 4 (cA 0) tf), (gp, aI 48 (cA 0) pf), (gw, aD 144 (cA 1) wf)] t) (va_A [(am, .inr (2, [.int th, .int wo, .int fu, .ref gs, .ref go, .ref gt, .ref gp, .ref gw, .double la, .double ea, .ref gl, .int ln, .int fd])), (gs, aI 4 (cA 4) sf), (go, aD 16 (cA 1) uf), (gt, aI 4 (cA 0) tf), (gp, aI 48 (cA 0) pf), (gw, aD 144 (cA 1) wf)] sz)) 0 0 (va_A [(am, .inr (2, [.int th, .int wo, .int fu, .ref gs, .ref go, .ref gt, .ref gp, .ref gw, .double la, .double ea, .ref gl, .int ln, .int fd])), (gs, aI 4 (cA 4) sf), (go, aD 16 (cA 1) uf), (gt, aI 4 (cA 0) tf), (gp, aI 48 (cA 0) pf), (gw, aD 144 (cA 1) wf)] sz) := by
  refine Met.ofW (cc := cX2_height) (maxL := 6) (ret := (some .double)) (by decide) rfl ?_
  intro p e s m args below meth c s₁ B hml hv
  obtain ⟨rfl, hsz, hP, hK, hD0, hE⟩ := hv
  subst hsz
  have hD := hD0.self (sz := s.heap.size)
  generalize hAe : va_A [(am, .inr (2, [.int th, .int wo, .int fu, .ref gs, .ref go, .ref gt, .ref gp, .ref gw, .double la, .double ea, .ref gl, .int ln, .int fd])), (gs, aI 4 (cA 4) sf), (go, aD 16 (cA 1) uf), (gt, aI 4 (cA 0) tf), (gp, aI 48 (cA 0) pf), (gw, aD 144 (cA 1) wf)] s.heap.size = A at hD hE ⊢
  have hA : ∀ q : Nat, s.heap.size ≤ q → A q := fun q h => by rw [← hAe]; exact Or.inr h
  have hS : va_S A s.heap s.heap [] := va_S.rf
  have hP : va_P (dC, dI) vwCl [(am, .inr (2, [.int th, .int wo, .int fu, .ref gs, .ref go, .ref gt, .ref gp, .ref gw, .double la, .double ea, .ref gl, .int ln, .int fd])), (gs, aI 4 (cA 4) sf), (go, aD 16 (cA 1) uf), (gt, aI 4 (cA 0) tf), (gp, aI 48 (cA 0) pf), (gw, aD 144 (cA 1) wf)] s.heap := hP
  have hx := B.exec
  have hb := B.bytes
  have hr := B.returns
  have hts := atoms_spec (ws := wsX2_height) B.pre
  have hown : s.vm.findClass RX2 = some m.cls := findClass_of_methodNamed B.named
  have hlocks := B.notSynchronized
  have hl := lv_entry ([.ref am, .int x1, .double x2]) (n := 6) (Nat.le_of_ble_eq_true rfl)
  rw [lg_entry_eq]
  generalize (lg_sl ([.ref am, .int x1, .double x2]) ++ List.replicate (6 - (lg_sl ([.ref am, .int x1, .double x2])).length) Slot.unset).toArray = ls at hl ⊢
  have hl : lv_has ls 6 [(0, .ref am), (1, .int x1), (2, .double x2)] := hl
  have hin2 : ∀ w ∈ u_ws RX2 TX2 13, w ∈ wsX2_height := by decide +kernel
  refine lv_aload_n hx hb dX2_height_0 rfl (lv_at hl 0 rfl) ?_
  refine lv_aload_n hx hb dX2_height_1 rfl (lv_at hl 0 rfl) ?_
  refine lv_iload_n hx hb dX2_height_2 rfl (lv_at hl 1 rfl) ?_
  refine lv_dload_n hx hb dX2_height_3 rfl (lv_at hl 2 rfl) ?_
  have hPc := hP.sub (ws' := [(am, .inr (2, [.int th, .int wo, .int fu, .ref gs, .ref go, .ref gt, .ref gp, .ref gw, .double la, .double ea, .ref gl, .int ln, .int fd])), (gs, aI 4 (cA 4) sf)]) [0, 1] rfl
  refine vp_callSi (W.runV (As := [.int x1, .double x2]) (rest := [.ref am]) ⟨hx, hb, hml, hown, hts⟩ (k_X2_bar l dC dI cA tm tt am gs go gt gp gw gl th wo fu la ea ln fd sf x1 x2) (cwV 2 hts gX2_height_X2_bar rfl rfl rfl (by decide +kernel) ⟨Nat.le_of_ble_eq_true rfl, Nat.le_of_ble_eq_true rfl⟩) ⟨PcO.blind, va_recv hK hPc (ci := 2) (q0 := 0) rfl rfl, PcO.give hPc hK hE hS⟩ rfl rfl hl.1 rfl (lv_room (Nat.le_of_ble_eq_true rfl)) dX2_height_4 ⟨Nat.le_of_ble_eq_true rfl, Nat.le_of_ble_eq_true rfl⟩) (fun r hr9 => ?_)
  obtain rfl := hr9
  refine va_put (D := (dC, dI)) (ci := 2) (v := .int (f_X2_bar sf x1 x2)) (ty := .int) (C := RX2) (T := TX2) (N := 13) hx hb hts hin2 tyX2 tyX2_ok nmX2 hown hK hP hD hS 0 rfl rfl 0 (by decide) (hts (.fieldLink RX2 30 "SkyAlmanacModel" "thrown" "I") (by decide +kernel)) (fun _ h9 => h9) rfl (by decide +kernel) rfl rfl (Nat.le_of_ble_eq_true rfl) dX2_height_7 (fun H locs hP hD hS => ?_)
  have hP : va_P (dC, dI) vwCl [(am, .inr (2, [.int (f_X2_bar sf x1 x2), .int wo, .int fu, .ref gs, .ref go, .ref gt, .ref gp, .ref gw, .double la, .double ea, .ref gl, .int ln, .int fd])), (gs, aI 4 (cA 4) sf), (go, aD 16 (cA 1) uf), (gt, aI 4 (cA 0) tf), (gp, aI 48 (cA 0) pf), (gw, aD 144 (cA 1) wf)] H := hP
  have hD : va_D A [(am, .inr (2, [.int (f_X2_bar sf x1 x2), .int wo, .int fu, .ref gs, .ref go, .ref gt, .ref gp, .ref gw, .double la, .double ea, .ref gl, .int ln, .int fd])), (gs, aI 4 (cA 4) sf), (go, aD 16 (cA 1) uf), (gt, aI 4 (cA 0) tf), (gp, aI 48 (cA 0) pf), (gw, aD 144 (cA 1) wf)] := hD
  refine lv_aload_n hx hb dX2_height_10 rfl (lv_at hl 0 rfl) ?_
  refine va_get (D := (dC, dI)) (ci := 2) (v := .int (f_X2_bar sf x1 x2)) (C := RX2) (T := TX2) (N := 13) hx hb hts hin2 hown hK hP 0 rfl rfl 0 (by decide) (hts (.fieldLink RX2 30 "SkyAlmanacModel" "thrown" "I") (by decide +kernel)) (fun _ h9 => h9) rfl dX2_height_11 ?_
  refine lv_if_le (tgt := 19) hx hb dX2_height_14 (by decide) (fun c_1 => ?_) (fun c_1 => ?_)
  · obtain ⟨⟨hb1, hb2⟩, q2, q3, q4⟩ := lon_good (r := HEI la ea oL oN oE oW k pw fa sa va x2) c_1
    have hR := hR9 hb1 hb2
    have h0 := fR_mono (c := -2251799813685248) (d := 2251799813685248) (tm_R hF q2) (by decide) (by decide)
    refine lv_aload_n hx hb dX2_height_19 rfl (lv_at hl 0 rfl) ?_
    refine lv_iload_n hx hb dX2_height_20 rfl (lv_at hl 1 rfl) ?_
    refine lv_dload_n hx hb dX2_height_21 rfl (lv_at hl 2 rfl) ?_
    have hPc := hP.sub (ws' := [(am, .inr (2, [.int (f_X2_bar sf x1 x2), .int wo, .int fu, .ref gs, .ref go, .ref gt, .ref gp, .ref gw, .double la, .double ea, .ref gl, .int ln, .int fd])), (go, aD 16 (cA 1) uf), (gt, aI 4 (cA 0) tf), (gp, aI 48 (cA 0) pf), (gw, aD 144 (cA 1) wf)]) [0, 2, 3, 4, 5] rfl
    have hDc := hD.sub (ws' := [(am, .inr (2, [.int (f_X2_bar sf x1 x2), .int wo, .int fu, .ref gs, .ref go, .ref gt, .ref gp, .ref gw, .double la, .double ea, .ref gl, .int ln, .int fd])), (go, aD 16 (cA 1) uf), (gt, aI 4 (cA 0) tf), (gp, aI 48 (cA 0) pf), (gw, aD 144 (cA 1) wf)]) [0, 2, 3, 4, 5] (by decide) rfl
    have hFc := va_free (wc := [(am, .inr (2, [.int (f_X2_bar sf x1 x2), .int wo, .int fu, .ref gs, .ref go, .ref gt, .ref gp, .ref gw, .double la, .double ea, .ref gl, .int ln, .int fd])), (go, aD 16 (cA 1) uf), (gt, aI 4 (cA 0) tf), (gp, aI 48 (cA 0) pf), (gw, aD 144 (cA 1) wf)]) hD hS hA [0, 2, 3, 4, 5] rfl
    refine va_calld (va_runV (As := [.int x1, .double x2]) (rest := []) ⟨hx, hb, hml, hown, hts⟩ (k_X2_above l hst dC dI cA tm tt _ am gs go gt gp gw gl (f_X2_bar sf x1 x2) wo fu la ea ln fd uf tf pf wf oL oN oE oW k pw fa sa va x1 x2 hb1 hb2 hR hO hT h0 hla hea) (cwV 2 hts gX2_height_X2_above rfl rfl rfl (by decide +kernel) ⟨Nat.le_of_ble_eq_true rfl, Nat.le_of_ble_eq_true rfl⟩) ⟨PcW.blind, va_recv hK hPc (ci := 2) (q0 := 0) rfl rfl, PcW.give hPc hK hDc hE hS hFc⟩ rfl rfl hl.1 rfl (lv_room (Nat.le_of_ble_eq_true rfl)) dX2_height_22 ⟨Nat.le_of_ble_eq_true rfl, Nat.le_of_ble_eq_true rfl⟩) hS (fun q _ h => hFc q h) hFc (fun v_2 u t H locs ht hvm hp_3 hB hz1 hk1 hS => ?_)
    obtain ⟨hP1, hD1⟩ := hB
    rw [ht] at hP1
    obtain ⟨hP, hD⟩ := va_join (wr := [(gs, aI 4 (cA 4) sf)]) (w1 := [(am, .inr (2, [.int (f_X2_bar sf x1 x2), .int (wo + 1), .int (fu + cFL (LON oL oN oE oW k pw fa sa va x2)), .ref gs, .ref go, .ref gt, .ref gp, .ref gw, .double la, .double ea, .ref gl, .int ln, .int (cFD (LON oL oN oE oW k pw fa sa va x2))])), (go, aD 16 (cA 1) uf), (gt, aI 4 (cA 0) tf), (gp, aI 48 (cA 0) pf), (gw, aD 144 (cA 1) wf)]) hP hD [0, 2, 3, 4, 5] [1] rfl rfl (by decide) (by decide) hk1 hFc hP1 hD1
    have hP := hP.sub (ws' := [(am, .inr (2, [.int (f_X2_bar sf x1 x2), .int (wo + 1), .int (fu + cFL (LON oL oN oE oW k pw fa sa va x2)), .ref gs, .ref go, .ref gt, .ref gp, .ref gw, .double la, .double ea, .ref gl, .int ln, .int (cFD (LON oL oN oE oW k pw fa sa va x2))])), (gs, aI 4 (cA 4) sf), (go, aD 16 (cA 1) uf), (gt, aI 4 (cA 0) tf), (gp, aI 48 (cA 0) pf), (gw, aD 144 (cA 1) wf)]) [1, 0, 2, 3, 4, 5] rfl
    have hD := hD.sub (ws' := [(am, .inr (2, [.int (f_X2_bar sf x1 x2), .int (wo + 1), .int (fu + cFL (LON oL oN oE oW k pw fa sa va x2)), .ref gs, .ref go, .ref gt, .ref gp, .ref gw, .double la, .double ea, .ref gl, .int ln, .int (cFD (LON oL oN oE oW k pw fa sa va x2))])), (gs, aI 4 (cA 4) sf), (go, aD 16 (cA 1) uf), (gt, aI 4 (cA 0) tf), (gp, aI 48 (cA 0) pf), (gw, aD 144 (cA 1) wf)]) [1, 0, 2, 3, 4, 5] (by decide) rfl
    refine lv_dstore (lv' := [(4, .double v_2), (0, .ref am), (1, .int x1), (2, .double x2)]) hx hb dX2_height_25 hl (by decide) rfl (fun ls hl => ?_)
    refine lv_aload_n hx hb dX2_height_27 rfl (lv_at hl 1 rfl) ?_
    refine lv_aload_n hx hb dX2_height_28 rfl (lv_at hl 1 rfl) ?_
    refine va_get (D := (dC, dI)) (ci := 2) (v := .int (cFD (LON oL oN oE oW k pw fa sa va x2))) (C := RX2) (T := TX2) (N := 13) hx hb hts hin2 hown hK hP 0 rfl rfl 12 (by decide) (hts (.fieldLink RX2 202 "SkyAlmanacModel" "failed" "Z") (by decide +kernel)) (fun _ h9 => h9) rfl dX2_height_29 ?_
    refine lv_if_eq (tgt := 39) hx hb dX2_height_32 (by decide) (fun c_4 => ?_) (fun c_4 => ?_)
    · refine lv_iconst (v := 0) hx hb dX2_height_39 (by decide) ?_
      refine va_put (D := (dC, dI)) (ci := 2) (v := .int 0) (ty := .int) (C := RX2) (T := TX2) (N := 13) hx hb hts hin2 tyX2 tyX2_ok nmX2 hown hK hP hD hS 0 rfl rfl 0 (by decide) (hts (.fieldLink RX2 30 "SkyAlmanacModel" "thrown" "I") (by decide +kernel)) (fun _ h9 => h9) rfl (by decide +kernel) rfl rfl (Nat.le_of_ble_eq_true rfl) dX2_height_40 (fun H locs hP hD hS => ?_)
      have hP : va_P (dC, dI) vwCl [(am, .inr (2, [.int 0, .int (wo + 1), .int (fu + cFL (LON oL oN oE oW k pw fa sa va x2)), .ref gs, .ref go, .ref gt, .ref gp, .ref gw, .double la, .double ea, .ref gl, .int ln, .int (cFD (LON oL oN oE oW k pw fa sa va x2))])), (gs, aI 4 (cA 4) sf), (go, aD 16 (cA 1) uf), (gt, aI 4 (cA 0) tf), (gp, aI 48 (cA 0) pf), (gw, aD 144 (cA 1) wf)] H := hP
      have hD : va_D A [(am, .inr (2, [.int 0, .int (wo + 1), .int (fu + cFL (LON oL oN oE oW k pw fa sa va x2)), .ref gs, .ref go, .ref gt, .ref gp, .ref gw, .double la, .double ea, .ref gl, .int ln, .int (cFD (LON oL oN oE oW k pw fa sa va x2))])), (gs, aI 4 (cA 4) sf), (go, aD 16 (cA 1) uf), (gt, aI 4 (cA 0) tf), (gp, aI 48 (cA 0) pf), (gw, aD 144 (cA 1) wf)] := hD
      have hcf := cFL_FD (fun e => HEI_iff (la := la) (ea := ea) (oL := oL) (oN := oN) (oE := oE) (oW := oW) (k := k) (pw := pw) (fa := fa) (sa := sa) (va := va) (t := x2) e)
      have hP : va_P (dC, dI) vwCl [(am, .inr (2, [.int (cd3 (f_X1_lon (sf (Int32.toNatClampNeg x1)) x1 x2 (HEI la ea oL oN oE oW k pw fa sa va x2))), .int (wo + cWK (sf (Int32.toNatClampNeg x1)) x1 x2), .int (fu + cFL (f_X1_lon (sf (Int32.toNatClampNeg x1)) x1 x2 (HEI la ea oL oN oE oW k pw fa sa va x2))), .ref gs, .ref go, .ref gt, .ref gp, .ref gw, .double la, .double ea, .ref gl, .int ln, .int (if f_X2_bar sf x1 x2 ≤ 0 then cFD (LON oL oN oE oW k pw fa sa va x2) else fd)])), (gs, aI 4 (cA 4) sf), (go, aD 16 (cA 1) uf), (gt, aI 4 (cA 0) tf), (gp, aI 48 (cA 0) pf), (gw, aD 144 (cA 1) wf)] H := by rw [q3, q4, if_pos c_1, show cd3 (HEI la ea oL oN oE oW k pw fa sa va x2) = 0 from cd3_0 (hcf.2 ▸ c_4), ← hcf.1]; exact hP
      have hD : va_D A [(am, .inr (2, [.int (cd3 (f_X1_lon (sf (Int32.toNatClampNeg x1)) x1 x2 (HEI la ea oL oN oE oW k pw fa sa va x2))), .int (wo + cWK (sf (Int32.toNatClampNeg x1)) x1 x2), .int (fu + cFL (f_X1_lon (sf (Int32.toNatClampNeg x1)) x1 x2 (HEI la ea oL oN oE oW k pw fa sa va x2))), .ref gs, .ref go, .ref gt, .ref gp, .ref gw, .double la, .double ea, .ref gl, .int ln, .int (if f_X2_bar sf x1 x2 ≤ 0 then cFD (LON oL oN oE oW k pw fa sa va x2) else fd)])), (gs, aI 4 (cA 4) sf), (go, aD 16 (cA 1) uf), (gt, aI 4 (cA 0) tf), (gp, aI 48 (cA 0) pf), (gw, aD 144 (cA 1) wf)] := by rw [q3, q4, if_pos c_1, show cd3 (HEI la ea oL oN oE oW k pw fa sa va x2) = 0 from cd3_0 (hcf.2 ▸ c_4), ← hcf.1]; exact hD
      refine lv_dload hx hb dX2_height_43 (lv_at hl 0 rfl) ?_
      exact W.dret hx hb hr (fun t ht hW => ⟨⟨_, (), rfl, (fun v hv => hp_3 v (q3 ▸ hv)), ⟨by rw [ht]; exact hP, hD⟩⟩, hS.F ht⟩) hS.2.2 dX2_height_45
    · refine lv_iconst (v := 3) hx hb dX2_height_35 (by decide) ?_
      refine lv_goto (tgt := 40) hx hb dX2_height_36 (by decide) ?_
      refine va_put (D := (dC, dI)) (ci := 2) (v := .int 3) (ty := .int) (C := RX2) (T := TX2) (N := 13) hx hb hts hin2 tyX2 tyX2_ok nmX2 hown hK hP hD hS 0 rfl rfl 0 (by decide) (hts (.fieldLink RX2 30 "SkyAlmanacModel" "thrown" "I") (by decide +kernel)) (fun _ h9 => h9) rfl (by decide +kernel) rfl rfl (Nat.le_of_ble_eq_true rfl) dX2_height_40 (fun H locs hP hD hS => ?_)
      have hP : va_P (dC, dI) vwCl [(am, .inr (2, [.int 3, .int (wo + 1), .int (fu + cFL (LON oL oN oE oW k pw fa sa va x2)), .ref gs, .ref go, .ref gt, .ref gp, .ref gw, .double la, .double ea, .ref gl, .int ln, .int (cFD (LON oL oN oE oW k pw fa sa va x2))])), (gs, aI 4 (cA 4) sf), (go, aD 16 (cA 1) uf), (gt, aI 4 (cA 0) tf), (gp, aI 48 (cA 0) pf), (gw, aD 144 (cA 1) wf)] H := hP
      have hD : va_D A [(am, .inr (2, [.int 3, .int (wo + 1), .int (fu + cFL (LON oL oN oE oW k pw fa sa va x2)), .ref gs, .ref go, .ref gt, .ref gp, .ref gw, .double la, .double ea, .ref gl, .int ln, .int (cFD (LON oL oN oE oW k pw fa sa va x2))])), (gs, aI 4 (cA 4) sf), (go, aD 16 (cA 1) uf), (gt, aI 4 (cA 0) tf), (gp, aI 48 (cA 0) pf), (gw, aD 144 (cA 1) wf)] := hD
      have hcf := cFL_FD (fun e => HEI_iff (la := la) (ea := ea) (oL := oL) (oN := oN) (oE := oE) (oW := oW) (k := k) (pw := pw) (fa := fa) (sa := sa) (va := va) (t := x2) e)
      have hP : va_P (dC, dI) vwCl [(am, .inr (2, [.int (cd3 (f_X1_lon (sf (Int32.toNatClampNeg x1)) x1 x2 (HEI la ea oL oN oE oW k pw fa sa va x2))), .int (wo + cWK (sf (Int32.toNatClampNeg x1)) x1 x2), .int (fu + cFL (f_X1_lon (sf (Int32.toNatClampNeg x1)) x1 x2 (HEI la ea oL oN oE oW k pw fa sa va x2))), .ref gs, .ref go, .ref gt, .ref gp, .ref gw, .double la, .double ea, .ref gl, .int ln, .int (if f_X2_bar sf x1 x2 ≤ 0 then cFD (LON oL oN oE oW k pw fa sa va x2) else fd)])), (gs, aI 4 (cA 4) sf), (go, aD 16 (cA 1) uf), (gt, aI 4 (cA 0) tf), (gp, aI 48 (cA 0) pf), (gw, aD 144 (cA 1) wf)] H := by rw [q3, q4, if_pos c_1, show cd3 (HEI la ea oL oN oE oW k pw fa sa va x2) = 3 from cd3_3 (hcf.2 ▸ c_4) (fun e he => HEI_err he), ← hcf.1]; exact hP
      have hD : va_D A [(am, .inr (2, [.int (cd3 (f_X1_lon (sf (Int32.toNatClampNeg x1)) x1 x2 (HEI la ea oL oN oE oW k pw fa sa va x2))), .int (wo + cWK (sf (Int32.toNatClampNeg x1)) x1 x2), .int (fu + cFL (f_X1_lon (sf (Int32.toNatClampNeg x1)) x1 x2 (HEI la ea oL oN oE oW k pw fa sa va x2))), .ref gs, .ref go, .ref gt, .ref gp, .ref gw, .double la, .double ea, .ref gl, .int ln, .int (if f_X2_bar sf x1 x2 ≤ 0 then cFD (LON oL oN oE oW k pw fa sa va x2) else fd)])), (gs, aI 4 (cA 4) sf), (go, aD 16 (cA 1) uf), (gt, aI 4 (cA 0) tf), (gp, aI 48 (cA 0) pf), (gw, aD 144 (cA 1) wf)] := by rw [q3, q4, if_pos c_1, show cd3 (HEI la ea oL oN oE oW k pw fa sa va x2) = 3 from cd3_3 (hcf.2 ▸ c_4) (fun e he => HEI_err he), ← hcf.1]; exact hD
      refine lv_dload hx hb dX2_height_43 (lv_at hl 0 rfl) ?_
      exact W.dret hx hb hr (fun t ht hW => ⟨⟨_, (), rfl, (fun v hv => hp_3 v (q3 ▸ hv)), ⟨by rw [ht]; exact hP, hD⟩⟩, hS.F ht⟩) hS.2.2 dX2_height_45
  · obtain ⟨q1, q2, q3, q4⟩ := lon_bad (r := HEI la ea oL oN oE oW k pw fa sa va x2) c_1
    have hP : va_P (dC, dI) vwCl [(am, .inr (2, [.int (cd3 (f_X1_lon (sf (Int32.toNatClampNeg x1)) x1 x2 (HEI la ea oL oN oE oW k pw fa sa va x2))), .int (wo + cWK (sf (Int32.toNatClampNeg x1)) x1 x2), .int (fu + cFL (f_X1_lon (sf (Int32.toNatClampNeg x1)) x1 x2 (HEI la ea oL oN oE oW k pw fa sa va x2))), .ref gs, .ref go, .ref gt, .ref gp, .ref gw, .double la, .double ea, .ref gl, .int ln, .int (if f_X2_bar sf x1 x2 ≤ 0 then cFD (LON oL oN oE oW k pw fa sa va x2) else fd)])), (gs, aI 4 (cA 4) sf), (go, aD 16 (cA 1) uf), (gt, aI 4 (cA 0) tf), (gp, aI 48 (cA 0) pf), (gw, aD 144 (cA 1) wf)] H := by rw [q1, q2, q3, if_neg c_1, i0, i0]; exact hP
    have hD : va_D A [(am, .inr (2, [.int (cd3 (f_X1_lon (sf (Int32.toNatClampNeg x1)) x1 x2 (HEI la ea oL oN oE oW k pw fa sa va x2))), .int (wo + cWK (sf (Int32.toNatClampNeg x1)) x1 x2), .int (fu + cFL (f_X1_lon (sf (Int32.toNatClampNeg x1)) x1 x2 (HEI la ea oL oN oE oW k pw fa sa va x2))), .ref gs, .ref go, .ref gt, .ref gp, .ref gw, .double la, .double ea, .ref gl, .int ln, .int (if f_X2_bar sf x1 x2 ≤ 0 then cFD (LON oL oN oE oW k pw fa sa va x2) else fd)])), (gs, aI 4 (cA 4) sf), (go, aD 16 (cA 1) uf), (gt, aI 4 (cA 0) tf), (gp, aI 48 (cA 0) pf), (gw, aD 144 (cA 1) wf)] := by rw [q1, q2, q3, if_neg c_1, i0, i0]; exact hD
    refine lv_dconst0 hx hb dX2_height_17 ?_
    have r_5 : fR FP.dconst0 0 0 := fR_lit (by decide +kernel)
    exact W.dret hx hb hr (fun t ht hW => ⟨⟨_, (), rfl, (fun v hv => absurd hv (q4 v)), ⟨by rw [ht]; exact hP, hD⟩⟩, hS.F ht⟩) hS.2.2 dX2_height_18
