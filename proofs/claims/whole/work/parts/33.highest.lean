def HIGH (hh : UInt64 → Except String UInt64) (d : Int32) : CE UInt64 := thenc (PGR hh d) (fun p => NHR hh d p)
theorem HIGH_e {hh : UInt64 → Except String UInt64} {d : Int32} {n : Nat} {e : String} (h : PGR hh d = (n, .error e)) : HIGH hh d = (n, .error e) := by
  unfold HIGH; rw [thenc_e (show (PGR hh d).2 = .error e by rw [h]), h]
theorem HIGH_o {hh : UInt64 → Except String UInt64} {d p : Int32} {n : Nat} (h : PGR hh d = (n, .ok p)) : HIGH hh d = addc n (NHR hh d p) := by
  unfold HIGH; rw [thenc_o (show (PGR hh d).2 = .ok p by rw [h]), h]; rfl
theorem bi_ne {x : Int32} (h : 1 ≤ x.toInt ∧ x.toInt ≤ 15) : ¬ x = 0 := fun h9 => by
  rw [h9] at h
  have : (0 : Int32).toInt = 0 := rfl
  omega
theorem nI_b15 {j : Nat} (h1 : 1 ≤ j) (h2 : j ≤ 15) : 1 ≤ (nI j).toInt ∧ (nI j).toInt ≤ 15 := by rw [nI_toInt (by omega)]; omega
theorem nI_le15 {j : Nat} (h : j ≤ 15) : ¬ (15 : Int32) < nI j := by
  rw [Int32.lt_iff_toInt_lt, nI_toInt (by omega)]
  have : (15 : Int32).toInt = 15 := rfl
  omega
set_option maxHeartbeats 4000000 in
set_option maxRecDepth 100000 in
theorem k_X2_highest (l : Launch) (hst : l.stackTraces = false) (dC : Nat → ClassId) (dI : Nat → Nat → Nat) (cA : Nat → ClassId) (tm tt sz : Nat) (am gs go gt gp gw gl : Nat) (th wo fu : Int32) (la ea : UInt64) (ln fd : Int32) (uf : Nat → UInt64) (tf : Nat → Int32) (pf : Nat → Int32) (wf : Nat → UInt64) (oL oN oE oW : UInt64) (k : Nat) (pw : Nat → Int32) (fa sa va : Nat → UInt64) (x1 : Int32) (x2 : UInt64) (hb1 : ¬ x1 < 0) (hb2 : ¬ 3 < x1) (hR : bR (Int32.toNatClampNeg x1) uf tf pf wf oL oN oE oW k pw fa sa va) (hO : oOK oL oN oE oW) (hT : tOK k fa sa va) (hla : fR la (-96636764160) 96636764160) (hea : fR ea (-193273528320) 193273528320) (dd : Int32) (hx2 : x2 = FP.i2d dd) (hd : -1000000 ≤ dd.toInt ∧ dd.toInt ≤ 1000000) (hth0 : th = 0) : Met l yX2_highest wsX2_highest ({ frames := 6, cells := 0, slots := 0, locals := 182 }) (PcW dC dI cA tm tt sz [.ref am, .int x1, .double x2] [(am, .inr (2, [.int th, .int wo, .int fu, .ref gs, .ref go, .ref gt, .ref gp, .ref gw, .double la, .double ea, .ref gl, .int ln, .int fd])), (go, aD 16 (cA 1) uf), (gt, aI 4 (cA 0) tf), (gp, aI 48 (cA 0) pf), (gw, aD 144 (cA 1) wf)]) (va_Qd (fun r (_ : Unit) => ∀ v, (HIGH (HEI la ea oL oN oE oW k pw fa sa va) dd).2 = .ok v → r = v) (fun _ t => WB dC dI (va_A [(am, .inr (2, [.int th, .int wo, .int fu, .ref gs, .ref go, .ref gt, .ref gp, .ref gw, .double la, .double ea, .ref gl, .int ln, .int fd])), (go, aD 16 (cA 1) uf), (gt, aI 4 (cA 0) tf), (gp, aI 48 (cA 0) pf), (gw, aD 144 (cA 1) wf)] sz) [(am, .inr (2, [.int (cdE (HIGH (HEI la ea oL oN oE oW k pw fa sa va) dd).2), .int (wo + nI (HIGH (HEI la ea oL oN oE oW k pw fa sa va) dd).1), .int (fu + cFL (HIGH (HEI la ea oL oN oE oW k pw fa sa va) dd).2), .ref gs, .ref go, .ref gt, .ref gp, .ref gw, .double la, .double ea, .ref gl, .int ln, .int (cFL (HIGH (HEI la ea oL oN oE oW k pw fa sa va) dd).2)])), (go, aD 16 (cA 1) uf), (gt, aI 4 (cA 0) tf), (gp, aI 48 (cA 0) pf), (gw, aD 144 (cA 1) wf)] t) (va_A [(am, .inr (2, [.int th, .int wo, .int fu, .ref gs, .ref go, .ref gt, .ref gp, .ref gw, .double la, .double ea, .ref gl, .int ln, .int fd])), (go, aD 16 (cA 1) uf), (gt, aI 4 (cA 0) tf), (gp, aI 48 (cA 0) pf), (gw, aD 144 (cA 1) wf)] sz)) 0 0 (va_A [(am, .inr (2, [.int th, .int wo, .int fu, .ref gs, .ref go, .ref gt, .ref gp, .ref gw, .double la, .double ea, .ref gl, .int ln, .int fd])), (go, aD 16 (cA 1) uf), (gt, aI 4 (cA 0) tf), (gp, aI 48 (cA 0) pf), (gw, aD 144 (cA 1) wf)] sz) := by
  refine Met.ofW (cc := cX2_highest) (maxL := 21) (ret := (some .double)) (by decide) rfl ?_
  intro p e s m args below meth c s₁ B hml hv
  obtain ⟨rfl, hsz, hP, hK, hD0, hE⟩ := hv
  subst hsz
  have hD := hD0.self (sz := s.heap.size)
  generalize hAe : va_A [(am, .inr (2, [.int th, .int wo, .int fu, .ref gs, .ref go, .ref gt, .ref gp, .ref gw, .double la, .double ea, .ref gl, .int ln, .int fd])), (go, aD 16 (cA 1) uf), (gt, aI 4 (cA 0) tf), (gp, aI 48 (cA 0) pf), (gw, aD 144 (cA 1) wf)] s.heap.size = A at hD hE ⊢
  have hA : ∀ q : Nat, s.heap.size ≤ q → A q := fun q h => by rw [← hAe]; exact Or.inr h
  have hS : va_S A s.heap s.heap [] := va_S.rf
  have hP : va_P (dC, dI) vwCl [(am, .inr (2, [.int th, .int wo, .int fu, .ref gs, .ref go, .ref gt, .ref gp, .ref gw, .double la, .double ea, .ref gl, .int ln, .int fd])), (go, aD 16 (cA 1) uf), (gt, aI 4 (cA 0) tf), (gp, aI 48 (cA 0) pf), (gw, aD 144 (cA 1) wf)] s.heap := hP
  have hx := B.exec
  have hb := B.bytes
  have hr := B.returns
  have hts := atoms_spec (ws := wsX2_highest) B.pre
  have hown : s.vm.findClass RX2 = some m.cls := findClass_of_methodNamed B.named
  have hlocks := B.notSynchronized
  have hl := lv_entry ([.ref am, .int x1, .double x2]) (n := 21) (Nat.le_of_ble_eq_true rfl)
  rw [lg_entry_eq]
  generalize (lg_sl ([.ref am, .int x1, .double x2]) ++ List.replicate (21 - (lg_sl ([.ref am, .int x1, .double x2])).length) Slot.unset).toArray = ls at hl ⊢
  have hl : lv_has ls 21 [(0, .ref am), (1, .int x1), (2, .double x2)] := hl
  have hin2 : ∀ w ∈ u_ws RX2 TX2 13, w ∈ wsX2_highest := by decide +kernel
  refine W.gen (fun QQ hQQ => ?_)

  have hx2R : fR x2 (-2305843009213693952) 2305843009213693952 := by rw [hx2]; exact i2d_R dd
  have hloop127 : ∀ (n : Nat) (j : Nat) (ta tb : UInt64), 25 - j ≤ n → j ≤ 24 → fR ta ((dd.toInt * 1073741824) - wd j) ((dd.toInt * 1073741824) + wd j) → fR tb ((dd.toInt * 1073741824) - wd j) ((dd.toInt * 1073741824) + wd j) → HIGH (HEI la ea oL oN oE oW k pw fa sa va) dd = addc (15 + 2 * j) (nhL (HEI la ea oL oN oE oW k pw fa sa va) (24 - j) ta tb) → ∀ (H : Heap) (locs : List Loc) (ls : Array Slot), va_P (dC, dI) vwCl [(am, .inr (2, [.int th, .int (wo + nI (15 + 2 * j)), .int fu, .ref gs, .ref go, .ref gt, .ref gp, .ref gw, .double la, .double ea, .ref gl, .int ln, .int 0])), (go, aD 16 (cA 1) uf), (gt, aI 4 (cA 0) tf), (gp, aI 48 (cA 0) pf), (gw, aD 144 (cA 1) wf)] H → va_D A [(am, .inr (2, [.int th, .int (wo + nI (15 + 2 * j)), .int fu, .ref gs, .ref go, .ref gt, .ref gp, .ref gw, .double la, .double ea, .ref gl, .int ln, .int 0])), (go, aD 16 (cA 1) uf), (gt, aI 4 (cA 0) tf), (gp, aI 48 (cA 0) pf), (gw, aD 144 (cA 1) wf)] → va_S A s.heap H locs → lv_has ls 21 [(0, .ref am), (1, .int x1), (7, .double ta), (9, .double tb), (11, .int (nI j))] → W p l e (headSpec wsX2_highest ({ frames := 6, cells := 0, slots := 0, locals := 182 })).room s m ([.ref am, .int x1, .double x2] : List Value).toArray below meth c H locs (0) (0) QQ (F0 m 127 ls []) := by
    intro n
    induction n with
    | zero =>
      intro j ta tb hf hj ha hb9 hQ
      exact absurd hf (by omega)
    | succ n ih =>
      intro j ta tb hf hj ha hb9 hQ H locs ls hP hD hS hl
      have hwi := wd_in j (by omega)
      refine lv_iload hx hb dX2_highest_127 (lv_at hl 4 rfl) ?_
      refine lv_bipush (v := 24) hx hb dX2_highest_129 (by decide) ?_
      refine lv_icmp_ge (tgt := 247) hx hb dX2_highest_131 (by decide) (fun c_1 => ?_) (fun c_1 => ?_)
      · refine lv_aload_n hx hb dX2_highest_247 rfl (lv_at hl 0 rfl) ?_
        refine va_get (D := (dC, dI)) (ci := 2) (v := .int 0) (C := RX2) (T := TX2) (N := 13) hx hb hts hin2 hown hK hP 0 rfl rfl 12 (by decide) (hts (.fieldLink RX2 202 "SkyAlmanacModel" "failed" "Z") (by decide +kernel)) (fun _ h9 => h9) rfl dX2_highest_248 ?_
        refine lv_if_eq (tgt := 261) hx hb dX2_highest_251 (by decide) (fun _ => ?_) (fun c_2 => absurd c_2 (by decide))
        have hj9 : j = 24 := by
          rcases Nat.lt_or_ge j 24 with h9 | h9
          · exact absurd c_1 (nI_lt24 (by omega))
          · omega
        have hm := mid_R ha hb9 (by omega) (by omega) (by omega)
        have e8 : HIGH (HEI la ea oL oN oE oW k pw fa sa va) dd = (15 + 2 * j, .ok (MID ta tb)) := by rw [hQ, hj9]; rfl
        have hP : va_P (dC, dI) vwCl [(am, .inr (2, [.int (cdE (HIGH (HEI la ea oL oN oE oW k pw fa sa va) dd).2), .int (wo + nI (HIGH (HEI la ea oL oN oE oW k pw fa sa va) dd).1), .int (fu + cFL (HIGH (HEI la ea oL oN oE oW k pw fa sa va) dd).2), .ref gs, .ref go, .ref gt, .ref gp, .ref gw, .double la, .double ea, .ref gl, .int ln, .int (cFL (HIGH (HEI la ea oL oN oE oW k pw fa sa va) dd).2)])), (go, aD 16 (cA 1) uf), (gt, aI 4 (cA 0) tf), (gp, aI 48 (cA 0) pf), (gw, aD 144 (cA 1) wf)] H := by rw [e8]; simp only; rw [cFL_ok, i0, show cdE (.ok (MID ta tb) : Except String UInt64) = th from hth0.symm]; exact hP
        have hD : va_D A [(am, .inr (2, [.int (cdE (HIGH (HEI la ea oL oN oE oW k pw fa sa va) dd).2), .int (wo + nI (HIGH (HEI la ea oL oN oE oW k pw fa sa va) dd).1), .int (fu + cFL (HIGH (HEI la ea oL oN oE oW k pw fa sa va) dd).2), .ref gs, .ref go, .ref gt, .ref gp, .ref gw, .double la, .double ea, .ref gl, .int ln, .int (cFL (HIGH (HEI la ea oL oN oE oW k pw fa sa va) dd).2)])), (go, aD 16 (cA 1) uf), (gt, aI 4 (cA 0) tf), (gp, aI 48 (cA 0) pf), (gw, aD 144 (cA 1) wf)] := by rw [e8]; simp only; rw [cFL_ok, i0, show cdE (.ok (MID ta tb) : Except String UInt64) = th from hth0.symm]; exact hD
        refine lv_dload hx hb dX2_highest_261 (lv_at hl 2 rfl) ?_
        refine lv_dload hx hb dX2_highest_263 (lv_at hl 3 rfl) ?_
        refine lv_dadd hx hb dX2_highest_265 (fR_nn hm.2) ?_
        refine lv_ldc2d hx hb hown (hts (.constantDouble RX2 209 (4611686018427387904)) (by decide +kernel)) dX2_highest_266 ?_
        have r_3 : fR 4611686018427387904 2147483648 2147483648 := fR_lit (by decide +kernel)
        refine lv_ddiv hx hb dX2_highest_269 (fR_nn hm.1) ?_
        subst hQQ
        exact W.dret hx hb hr (fun t ht hW => ⟨⟨_, (), rfl, (fun v hv => by rw [e8] at hv; cases hv; rfl), ⟨by rw [ht]; exact hP, hD⟩⟩, hS.F ht⟩) hS.2.2 dX2_highest_270
      · refine lv_aload_n hx hb dX2_highest_134 rfl (lv_at hl 0 rfl) ?_
        refine va_get (D := (dC, dI)) (ci := 2) (v := .int 0) (C := RX2) (T := TX2) (N := 13) hx hb hts hin2 hown hK hP 0 rfl rfl 12 (by decide) (hts (.fieldLink RX2 202 "SkyAlmanacModel" "failed" "Z") (by decide +kernel)) (fun _ h9 => h9) rfl dX2_highest_135 ?_
        refine lv_if_ne (tgt := 247) hx hb dX2_highest_138 (by decide) (fun c_4 => absurd c_4 (by decide)) (fun _ => ?_)
        have hj6 := nI_ge_ (b := 24) (n := 24) rfl (by omega) c_1
        have hw := wd_ok j hj6
        have hth := th_R ha hb9 hw.1 (by omega) (by omega) hw.2.2.1 (wd (j + 1)) hw.2.1 hw.2.2.2
        have hwj := wd_in (j + 1) (by omega)
        refine lv_dload hx hb dX2_highest_141 (lv_at hl 2 rfl) ?_
        refine lv_dload hx hb dX2_highest_143 (lv_at hl 3 rfl) ?_
        refine lv_dload hx hb dX2_highest_145 (lv_at hl 2 rfl) ?_
        refine lv_dsub hx hb dX2_highest_147 (fR_nn hth.1) ?_
        refine lv_ldc2d hx hb hown (hts (.constantDouble RX2 245 (4613937818241073152)) (by decide +kernel)) dX2_highest_148 ?_
        have r_5 : fR 4613937818241073152 3221225472 3221225472 := fR_lit (by decide +kernel)
        refine lv_ddiv hx hb dX2_highest_151 (fR_nn hth.2.1) ?_
        refine lv_dadd hx hb dX2_highest_152 (fR_nn hth.2.2.1) ?_
        refine lv_dstore (lv' := [(12, .double (TH1 ta tb)), (0, .ref am), (1, .int x1), (7, .double ta), (9, .double tb), (11, .int (nI j))]) hx hb dX2_highest_153 hl (by decide) rfl (fun ls hl => ?_)
        refine lv_dload hx hb dX2_highest_155 (lv_at hl 4 rfl) ?_
        refine lv_dload hx hb dX2_highest_157 (lv_at hl 4 rfl) ?_
        refine lv_dload hx hb dX2_highest_159 (lv_at hl 3 rfl) ?_
        refine lv_dsub hx hb dX2_highest_161 (fR_nn hth.1) ?_
        refine lv_ldc2d hx hb hown (hts (.constantDouble RX2 245 (4613937818241073152)) (by decide +kernel)) dX2_highest_162 ?_
        have r_6 : fR 4613937818241073152 3221225472 3221225472 := fR_lit (by decide +kernel)
        refine lv_ddiv hx hb dX2_highest_165 (fR_nn hth.2.1) ?_
        refine lv_dsub hx hb dX2_highest_166 (fR_nn hth.2.2.2) ?_
        refine lv_dstore (lv' := [(14, .double (TH2 ta tb)), (12, .double (TH1 ta tb)), (0, .ref am), (1, .int x1), (7, .double ta), (9, .double tb), (11, .int (nI j))]) hx hb dX2_highest_167 hl (by decide) rfl (fun ls hl => ?_)
        refine lv_aload_n hx hb dX2_highest_169 rfl (lv_at hl 2 rfl) ?_
        refine lv_iload_n hx hb dX2_highest_170 rfl (lv_at hl 3 rfl) ?_
        refine lv_dload hx hb dX2_highest_171 (lv_at hl 1 rfl) ?_
        have hPc := hP.sub (ws' := [(am, .inr (2, [.int th, .int (wo + nI (15 + 2 * j)), .int fu, .ref gs, .ref go, .ref gt, .ref gp, .ref gw, .double la, .double ea, .ref gl, .int ln, .int 0])), (go, aD 16 (cA 1) uf), (gt, aI 4 (cA 0) tf), (gp, aI 48 (cA 0) pf), (gw, aD 144 (cA 1) wf)]) [0, 1, 2, 3, 4] rfl
        have hDc := hD.sub (ws' := [(am, .inr (2, [.int th, .int (wo + nI (15 + 2 * j)), .int fu, .ref gs, .ref go, .ref gt, .ref gp, .ref gw, .double la, .double ea, .ref gl, .int ln, .int 0])), (go, aD 16 (cA 1) uf), (gt, aI 4 (cA 0) tf), (gp, aI 48 (cA 0) pf), (gw, aD 144 (cA 1) wf)]) [0, 1, 2, 3, 4] (by decide) rfl
        have hFc := va_free (wc := [(am, .inr (2, [.int th, .int (wo + nI (15 + 2 * j)), .int fu, .ref gs, .ref go, .ref gt, .ref gp, .ref gw, .double la, .double ea, .ref gl, .int ln, .int 0])), (go, aD 16 (cA 1) uf), (gt, aI 4 (cA 0) tf), (gp, aI 48 (cA 0) pf), (gw, aD 144 (cA 1) wf)]) hD hS hA [0, 1, 2, 3, 4] rfl
        refine va_calld (va_runV (As := [.int x1, .double (TH1 ta tb)]) (rest := []) ⟨hx, hb, hml, hown, hts⟩ (k_X2_above l hst dC dI cA tm tt _ am gs go gt gp gw gl th (wo + nI (15 + 2 * j)) fu la ea ln 0 uf tf pf wf oL oN oE oW k pw fa sa va x1 (TH1 ta tb) hb1 hb2 hR hO hT (fR_mono hth.2.2.1 (by omega) (by omega)) hla hea) (cwV 2 hts gX2_highest_X2_above rfl rfl rfl (by decide +kernel) ⟨Nat.le_of_ble_eq_true rfl, Nat.le_of_ble_eq_true rfl⟩) ⟨PcW.blind, va_recv hK hPc (ci := 2) (q0 := 0) rfl rfl, PcW.give hPc hK hDc hE hS hFc⟩ rfl rfl hl.1 rfl (lv_room (Nat.le_of_ble_eq_true rfl)) dX2_highest_173 ⟨Nat.le_of_ble_eq_true rfl, Nat.le_of_ble_eq_true rfl⟩) hS (fun q _ h => hFc q h) hFc (fun v_7 u t H locs ht hvm hp_8 hB hz1 hk1 hS => ?_)
        obtain ⟨hP1, hD1⟩ := hB
        rw [ht] at hP1
        obtain ⟨hP, hD⟩ := va_join (wr := []) (w1 := [(am, .inr (2, [.int th, .int ((wo + nI (15 + 2 * j)) + 1), .int (fu + cFL (LON oL oN oE oW k pw fa sa va (TH1 ta tb))), .ref gs, .ref go, .ref gt, .ref gp, .ref gw, .double la, .double ea, .ref gl, .int ln, .int (cFD (LON oL oN oE oW k pw fa sa va (TH1 ta tb)))])), (go, aD 16 (cA 1) uf), (gt, aI 4 (cA 0) tf), (gp, aI 48 (cA 0) pf), (gw, aD 144 (cA 1) wf)]) hP hD [0, 1, 2, 3, 4] [] rfl rfl (by decide) (by decide) hk1 hFc hP1 hD1
        have hP := hP.sub (ws' := [(am, .inr (2, [.int th, .int ((wo + nI (15 + 2 * j)) + 1), .int (fu + cFL (LON oL oN oE oW k pw fa sa va (TH1 ta tb))), .ref gs, .ref go, .ref gt, .ref gp, .ref gw, .double la, .double ea, .ref gl, .int ln, .int (cFD (LON oL oN oE oW k pw fa sa va (TH1 ta tb)))])), (go, aD 16 (cA 1) uf), (gt, aI 4 (cA 0) tf), (gp, aI 48 (cA 0) pf), (gw, aD 144 (cA 1) wf)]) [0, 1, 2, 3, 4] rfl
        have hD := hD.sub (ws' := [(am, .inr (2, [.int th, .int ((wo + nI (15 + 2 * j)) + 1), .int (fu + cFL (LON oL oN oE oW k pw fa sa va (TH1 ta tb))), .ref gs, .ref go, .ref gt, .ref gp, .ref gw, .double la, .double ea, .ref gl, .int ln, .int (cFD (LON oL oN oE oW k pw fa sa va (TH1 ta tb)))])), (go, aD 16 (cA 1) uf), (gt, aI 4 (cA 0) tf), (gp, aI 48 (cA 0) pf), (gw, aD 144 (cA 1) wf)]) [0, 1, 2, 3, 4] (by decide) rfl
        refine lv_dstore (lv' := [(16, .double v_7), (14, .double (TH2 ta tb)), (12, .double (TH1 ta tb)), (0, .ref am), (1, .int x1), (7, .double ta), (9, .double tb), (11, .int (nI j))]) hx hb dX2_highest_176 hl (by decide) rfl (fun ls hl => ?_)
        refine lv_aload_n hx hb dX2_highest_178 rfl (lv_at hl 3 rfl) ?_
        refine va_get (D := (dC, dI)) (ci := 2) (v := .int (cFD (LON oL oN oE oW k pw fa sa va (TH1 ta tb)))) (C := RX2) (T := TX2) (N := 13) hx hb hts hin2 hown hK hP 0 rfl rfl 12 (by decide) (hts (.fieldLink RX2 202 "SkyAlmanacModel" "failed" "Z") (by decide +kernel)) (fun _ h9 => h9) rfl dX2_highest_179 ?_
        refine lv_if_eq (tgt := 189) hx hb dX2_highest_182 (by decide) (fun c_9 => ?_) (fun c_9 => ?_)
        · obtain ⟨hq1, hcf1⟩ := ab_ok hp_8 c_9
          rw [hcf1, c_9, i0] at hP hD
          have hP : va_P (dC, dI) vwCl [(am, .inr (2, [.int th, .int (wo + nI (15 + 2 * j + 1)), .int fu, .ref gs, .ref go, .ref gt, .ref gp, .ref gw, .double la, .double ea, .ref gl, .int ln, .int 0])), (go, aD 16 (cA 1) uf), (gt, aI 4 (cA 0) tf), (gp, aI 48 (cA 0) pf), (gw, aD 144 (cA 1) wf)] H := by rw [wk_s]; exact hP
          have hD : va_D A [(am, .inr (2, [.int th, .int (wo + nI (15 + 2 * j + 1)), .int fu, .ref gs, .ref go, .ref gt, .ref gp, .ref gw, .double la, .double ea, .ref gl, .int ln, .int 0])), (go, aD 16 (cA 1) uf), (gt, aI 4 (cA 0) tf), (gp, aI 48 (cA 0) pf), (gw, aD 144 (cA 1) wf)] := by rw [wk_s]; exact hD
          refine lv_aload_n hx hb dX2_highest_189 rfl (lv_at hl 3 rfl) ?_
          refine lv_iload_n hx hb dX2_highest_190 rfl (lv_at hl 4 rfl) ?_
          refine lv_dload hx hb dX2_highest_191 (lv_at hl 1 rfl) ?_
          have hPc := hP.sub (ws' := [(am, .inr (2, [.int th, .int (wo + nI (15 + 2 * j + 1)), .int fu, .ref gs, .ref go, .ref gt, .ref gp, .ref gw, .double la, .double ea, .ref gl, .int ln, .int 0])), (go, aD 16 (cA 1) uf), (gt, aI 4 (cA 0) tf), (gp, aI 48 (cA 0) pf), (gw, aD 144 (cA 1) wf)]) [0, 1, 2, 3, 4] rfl
          have hDc := hD.sub (ws' := [(am, .inr (2, [.int th, .int (wo + nI (15 + 2 * j + 1)), .int fu, .ref gs, .ref go, .ref gt, .ref gp, .ref gw, .double la, .double ea, .ref gl, .int ln, .int 0])), (go, aD 16 (cA 1) uf), (gt, aI 4 (cA 0) tf), (gp, aI 48 (cA 0) pf), (gw, aD 144 (cA 1) wf)]) [0, 1, 2, 3, 4] (by decide) rfl
          have hFc := va_free (wc := [(am, .inr (2, [.int th, .int (wo + nI (15 + 2 * j + 1)), .int fu, .ref gs, .ref go, .ref gt, .ref gp, .ref gw, .double la, .double ea, .ref gl, .int ln, .int 0])), (go, aD 16 (cA 1) uf), (gt, aI 4 (cA 0) tf), (gp, aI 48 (cA 0) pf), (gw, aD 144 (cA 1) wf)]) hD hS hA [0, 1, 2, 3, 4] rfl
          refine va_calld (va_runV (As := [.int x1, .double (TH2 ta tb)]) (rest := []) ⟨hx, hb, hml, hown, hts⟩ (k_X2_above l hst dC dI cA tm tt _ am gs go gt gp gw gl th (wo + nI (15 + 2 * j + 1)) fu la ea ln 0 uf tf pf wf oL oN oE oW k pw fa sa va x1 (TH2 ta tb) hb1 hb2 hR hO hT (fR_mono hth.2.2.2 (by omega) (by omega)) hla hea) (cwV 2 hts gX2_highest_X2_above rfl rfl rfl (by decide +kernel) ⟨Nat.le_of_ble_eq_true rfl, Nat.le_of_ble_eq_true rfl⟩) ⟨PcW.blind, va_recv hK hPc (ci := 2) (q0 := 0) rfl rfl, PcW.give hPc hK hDc hE hS hFc⟩ rfl rfl hl.1 rfl (lv_room (Nat.le_of_ble_eq_true rfl)) dX2_highest_193 ⟨Nat.le_of_ble_eq_true rfl, Nat.le_of_ble_eq_true rfl⟩) hS (fun q _ h => hFc q h) hFc (fun v_10 u t H locs ht hvm hp_11 hB hz1 hk1 hS => ?_)
          obtain ⟨hP1, hD1⟩ := hB
          rw [ht] at hP1
          obtain ⟨hP, hD⟩ := va_join (wr := []) (w1 := [(am, .inr (2, [.int th, .int ((wo + nI (15 + 2 * j + 1)) + 1), .int (fu + cFL (LON oL oN oE oW k pw fa sa va (TH2 ta tb))), .ref gs, .ref go, .ref gt, .ref gp, .ref gw, .double la, .double ea, .ref gl, .int ln, .int (cFD (LON oL oN oE oW k pw fa sa va (TH2 ta tb)))])), (go, aD 16 (cA 1) uf), (gt, aI 4 (cA 0) tf), (gp, aI 48 (cA 0) pf), (gw, aD 144 (cA 1) wf)]) hP hD [0, 1, 2, 3, 4] [] rfl rfl (by decide) (by decide) hk1 hFc hP1 hD1
          have hP := hP.sub (ws' := [(am, .inr (2, [.int th, .int ((wo + nI (15 + 2 * j + 1)) + 1), .int (fu + cFL (LON oL oN oE oW k pw fa sa va (TH2 ta tb))), .ref gs, .ref go, .ref gt, .ref gp, .ref gw, .double la, .double ea, .ref gl, .int ln, .int (cFD (LON oL oN oE oW k pw fa sa va (TH2 ta tb)))])), (go, aD 16 (cA 1) uf), (gt, aI 4 (cA 0) tf), (gp, aI 48 (cA 0) pf), (gw, aD 144 (cA 1) wf)]) [0, 1, 2, 3, 4] rfl
          have hD := hD.sub (ws' := [(am, .inr (2, [.int th, .int ((wo + nI (15 + 2 * j + 1)) + 1), .int (fu + cFL (LON oL oN oE oW k pw fa sa va (TH2 ta tb))), .ref gs, .ref go, .ref gt, .ref gp, .ref gw, .double la, .double ea, .ref gl, .int ln, .int (cFD (LON oL oN oE oW k pw fa sa va (TH2 ta tb)))])), (go, aD 16 (cA 1) uf), (gt, aI 4 (cA 0) tf), (gp, aI 48 (cA 0) pf), (gw, aD 144 (cA 1) wf)]) [0, 1, 2, 3, 4] (by decide) rfl
          refine lv_dstore (lv' := [(18, .double v_10), (16, .double v_7), (14, .double (TH2 ta tb)), (12, .double (TH1 ta tb)), (0, .ref am), (1, .int x1), (7, .double ta), (9, .double tb), (11, .int (nI j))]) hx hb dX2_highest_196 hl (by decide) rfl (fun ls hl => ?_)
          refine lv_dload hx hb dX2_highest_198 (lv_at hl 1 rfl) ?_
          refine lv_dload hx hb dX2_highest_200 (lv_at hl 0 rfl) ?_
          refine zd_g_ge (tgt := 210) hx hb dX2_highest_202 dX2_highest_203 (by decide) (fun c_12 => ?_) (fun c_12 => ?_)
          · refine lv_iconst (v := 0) hx hb dX2_highest_210 (by decide) ?_
            refine lv_istore (lv' := [(20, .int 0), (18, .double v_10), (16, .double v_7), (14, .double (TH2 ta tb)), (12, .double (TH1 ta tb)), (0, .ref am), (1, .int x1), (7, .double ta), (9, .double tb), (11, .int (nI j))]) hx hb dX2_highest_211 hl (by decide) rfl (fun ls hl => ?_)
            refine lv_iload hx hb dX2_highest_213 (lv_at hl 0 rfl) ?_
            refine lv_if_eq (tgt := 223) hx hb dX2_highest_215 (by decide) (fun _ => ?_) (fun c_13 => absurd c_13 (by decide))
            refine lv_dload hx hb dX2_highest_223 (lv_at hl 7 rfl) ?_
            refine lv_dstore (lv' := [(7, .double ta), (20, .int 0), (18, .double v_10), (16, .double v_7), (14, .double (TH2 ta tb)), (12, .double (TH1 ta tb)), (0, .ref am), (1, .int x1), (9, .double tb), (11, .int (nI j))]) hx hb dX2_highest_225 hl (by decide) rfl (fun ls hl => ?_)
            refine lv_iload hx hb dX2_highest_227 (lv_at hl 1 rfl) ?_
            refine lv_if_eq (tgt := 237) hx hb dX2_highest_229 (by decide) (fun _ => ?_) (fun c_14 => absurd c_14 (by decide))
            refine lv_dload hx hb dX2_highest_237 (lv_at hl 4 rfl) ?_
            refine lv_dstore (lv' := [(9, .double (TH2 ta tb)), (7, .double ta), (20, .int 0), (18, .double v_10), (16, .double v_7), (14, .double (TH2 ta tb)), (12, .double (TH1 ta tb)), (0, .ref am), (1, .int x1), (11, .int (nI j))]) hx hb dX2_highest_239 hl (by decide) rfl (fun ls hl => ?_)
            refine lv_iinc (v := nI (j + 1)) (lv' := [(11, .int (nI (j + 1))), (9, .double (TH2 ta tb)), (7, .double ta), (20, .int 0), (18, .double v_10), (16, .double v_7), (14, .double (TH2 ta tb)), (12, .double (TH1 ta tb)), (0, .ref am), (1, .int x1)]) hx hb dX2_highest_241 hl (k := 9) rfl (nI_1 _) (by decide) rfl (fun ls hl => ?_)
            refine lv_goto (tgt := 127) hx hb dX2_highest_244 (by decide) ?_
            by_cases hc2 : cFD (LON oL oN oE oW k pw fa sa va (TH2 ta tb)) = 0
            · obtain ⟨hq2, hcf2⟩ := ab_ok hp_11 hc2
              rw [hcf2, hc2, i0] at hP hD
              have hP : va_P (dC, dI) vwCl [(am, .inr (2, [.int th, .int (wo + nI (15 + 2 * (j + 1))), .int fu, .ref gs, .ref go, .ref gt, .ref gp, .ref gw, .double la, .double ea, .ref gl, .int ln, .int 0])), (go, aD 16 (cA 1) uf), (gt, aI 4 (cA 0) tf), (gp, aI 48 (cA 0) pf), (gw, aD 144 (cA 1) wf)] H := by rw [show 15 + 2 * (j + 1) = 15 + 2 * j + 1 + 1 by omega, wk_s]; exact hP
              have hD : va_D A [(am, .inr (2, [.int th, .int (wo + nI (15 + 2 * (j + 1))), .int fu, .ref gs, .ref go, .ref gt, .ref gp, .ref gw, .double la, .double ea, .ref gl, .int ln, .int 0])), (go, aD 16 (cA 1) uf), (gt, aI 4 (cA 0) tf), (gp, aI 48 (cA 0) pf), (gw, aD 144 (cA 1) wf)] := by rw [show 15 + 2 * (j + 1) = 15 + 2 * j + 1 + 1 by omega, wk_s]; exact hD
              exact ih (j + 1) (ta) (TH2 ta tb) (by omega) (by omega) (fR_mono ha (by omega) (by omega)) hth.2.2.2 (by rw [hQ, nhL_0 (show j < 24 by omega) hq1 hq2 c_12, addc_addc, show 15 + 2 * j + 2 = 15 + 2 * (j + 1) by omega]) _ _ _ hP hD hS (lv_sub hl [8, 9, 2, 1, 0] rfl)
            · obtain ⟨hq2, hcf2, hcd2⟩ := ab_er la ea hc2
              rw [hcf2, hcd2] at hP hD
              have e8 : HIGH (HEI la ea oL oN oE oW k pw fa sa va) dd = (15 + 2 * j + 1 + 1, .error xIS) := by rw [hQ, nhL_e2 (show j < 24 by omega) hq1 hq2]; rfl
              have hP : va_P (dC, dI) vwCl [(am, .inr (2, [.int th, .int (wo + nI (15 + 2 * j + 1 + 1)), .int (fu + 1), .ref gs, .ref go, .ref gt, .ref gp, .ref gw, .double la, .double ea, .ref gl, .int ln, .int 1])), (go, aD 16 (cA 1) uf), (gt, aI 4 (cA 0) tf), (gp, aI 48 (cA 0) pf), (gw, aD 144 (cA 1) wf)] H := by rw [wk_s]; exact hP
              have hD : va_D A [(am, .inr (2, [.int th, .int (wo + nI (15 + 2 * j + 1 + 1)), .int (fu + 1), .ref gs, .ref go, .ref gt, .ref gp, .ref gw, .double la, .double ea, .ref gl, .int ln, .int 1])), (go, aD 16 (cA 1) uf), (gt, aI 4 (cA 0) tf), (gp, aI 48 (cA 0) pf), (gw, aD 144 (cA 1) wf)] := by rw [wk_s]; exact hD
              refine lv_iload hx hb dX2_highest_127 (lv_at hl 0 rfl) ?_
              refine lv_bipush (v := 24) hx hb dX2_highest_129 (by decide) ?_
              refine lv_icmp_ge (tgt := 247) hx hb dX2_highest_131 (by decide) (fun c_15 => ?_) (fun c_15 => ?_)
              · refine lv_aload_n hx hb dX2_highest_247 rfl (lv_at hl 8 rfl) ?_
                refine va_get (D := (dC, dI)) (ci := 2) (v := .int 1) (C := RX2) (T := TX2) (N := 13) hx hb hts hin2 hown hK hP 0 rfl rfl 12 (by decide) (hts (.fieldLink RX2 202 "SkyAlmanacModel" "failed" "Z") (by decide +kernel)) (fun _ h9 => h9) rfl dX2_highest_248 ?_
                refine lv_if_eq (tgt := 261) hx hb dX2_highest_251 (by decide) (fun c_16 => absurd c_16 (by decide)) (fun _ => ?_)
                refine lv_aload_n hx hb dX2_highest_254 rfl (lv_at hl 8 rfl) ?_
                refine lv_iconst (v := 3) hx hb dX2_highest_255 (by decide) ?_
                have hPc := hP.sub (ws' := [(am, .inr (2, [.int th, .int (wo + nI (15 + 2 * j + 1 + 1)), .int (fu + 1), .ref gs, .ref go, .ref gt, .ref gp, .ref gw, .double la, .double ea, .ref gl, .int ln, .int 1]))]) [0] rfl
                have hDc := hD.sub (ws' := [(am, .inr (2, [.int th, .int (wo + nI (15 + 2 * j + 1 + 1)), .int (fu + 1), .ref gs, .ref go, .ref gt, .ref gp, .ref gw, .double la, .double ea, .ref gl, .int ln, .int 1]))]) [0] (by decide) rfl
                have hFc := va_free (wc := [(am, .inr (2, [.int th, .int (wo + nI (15 + 2 * j + 1 + 1)), .int (fu + 1), .ref gs, .ref go, .ref gt, .ref gp, .ref gw, .double la, .double ea, .ref gl, .int ln, .int 1]))]) hD hS hA [0] rfl
                refine va_calli (va_runV (As := [.int 3]) (rest := []) ⟨hx, hb, hml, hown, hts⟩ (k_X2_fail l hst dC dI cA tm tt _ am gs go gt gp gw gl th (wo + nI (15 + 2 * j + 1 + 1)) (fu + 1) la ea ln 1 3) (cwV 1 hts gX2_highest_X2_fail rfl rfl rfl (by decide +kernel) ⟨Nat.le_of_ble_eq_true rfl, Nat.le_of_ble_eq_true rfl⟩) ⟨PcW.blind, va_recv hK hPc (ci := 2) (q0 := 0) rfl rfl, PcW.give hPc hK hDc hE hS hFc⟩ rfl rfl hl.1 rfl (lv_room (Nat.le_of_ble_eq_true rfl)) dX2_highest_256 ⟨Nat.le_of_ble_eq_true rfl, Nat.le_of_ble_eq_true rfl⟩) hS (fun q _ h => hFc q h) hFc (fun v_17 u t H locs ht hvm hp_18 hB hz1 hk1 hS => ?_)
                obtain ⟨hP1, hD1⟩ := hB
                rw [ht] at hP1
                obtain ⟨hP, hD⟩ := va_join (wr := [(go, aD 16 (cA 1) uf), (gt, aI 4 (cA 0) tf), (gp, aI 48 (cA 0) pf), (gw, aD 144 (cA 1) wf)]) (w1 := [(am, .inr (2, [.int 3, .int (wo + nI (15 + 2 * j + 1 + 1)), .int (fu + 1), .ref gs, .ref go, .ref gt, .ref gp, .ref gw, .double la, .double ea, .ref gl, .int ln, .int 1]))]) hP hD [0] [1, 2, 3, 4] rfl rfl (by decide) (by decide) hk1 hFc hP1 hD1
                have hP := hP.sub (ws' := [(am, .inr (2, [.int 3, .int (wo + nI (15 + 2 * j + 1 + 1)), .int (fu + 1), .ref gs, .ref go, .ref gt, .ref gp, .ref gw, .double la, .double ea, .ref gl, .int ln, .int 1])), (go, aD 16 (cA 1) uf), (gt, aI 4 (cA 0) tf), (gp, aI 48 (cA 0) pf), (gw, aD 144 (cA 1) wf)]) [4, 0, 1, 2, 3] rfl
                have hD := hD.sub (ws' := [(am, .inr (2, [.int 3, .int (wo + nI (15 + 2 * j + 1 + 1)), .int (fu + 1), .ref gs, .ref go, .ref gt, .ref gp, .ref gw, .double la, .double ea, .ref gl, .int ln, .int 1])), (go, aD 16 (cA 1) uf), (gt, aI 4 (cA 0) tf), (gp, aI 48 (cA 0) pf), (gw, aD 144 (cA 1) wf)]) [4, 0, 1, 2, 3] (by decide) rfl
                obtain rfl := hp_18
                refine lv_i2d hx hb dX2_highest_259 ?_
                have hP : va_P (dC, dI) vwCl [(am, .inr (2, [.int (cdE (HIGH (HEI la ea oL oN oE oW k pw fa sa va) dd).2), .int (wo + nI (HIGH (HEI la ea oL oN oE oW k pw fa sa va) dd).1), .int (fu + cFL (HIGH (HEI la ea oL oN oE oW k pw fa sa va) dd).2), .ref gs, .ref go, .ref gt, .ref gp, .ref gw, .double la, .double ea, .ref gl, .int ln, .int (cFL (HIGH (HEI la ea oL oN oE oW k pw fa sa va) dd).2)])), (go, aD 16 (cA 1) uf), (gt, aI 4 (cA 0) tf), (gp, aI 48 (cA 0) pf), (gw, aD 144 (cA 1) wf)] H := by rw [e8]; simp only; rw [show cdE (.error xIS : Except String UInt64) = 3 from rfl, cFL_IS]; exact hP
                have hD : va_D A [(am, .inr (2, [.int (cdE (HIGH (HEI la ea oL oN oE oW k pw fa sa va) dd).2), .int (wo + nI (HIGH (HEI la ea oL oN oE oW k pw fa sa va) dd).1), .int (fu + cFL (HIGH (HEI la ea oL oN oE oW k pw fa sa va) dd).2), .ref gs, .ref go, .ref gt, .ref gp, .ref gw, .double la, .double ea, .ref gl, .int ln, .int (cFL (HIGH (HEI la ea oL oN oE oW k pw fa sa va) dd).2)])), (go, aD 16 (cA 1) uf), (gt, aI 4 (cA 0) tf), (gp, aI 48 (cA 0) pf), (gw, aD 144 (cA 1) wf)] := by rw [e8]; simp only; rw [show cdE (.error xIS : Except String UInt64) = 3 from rfl, cFL_IS]; exact hD
                subst hQQ
                exact W.dret hx hb hr (fun t ht hW => ⟨⟨_, (), rfl, (fun v hv => by rw [e8] at hv; cases hv), ⟨by rw [ht]; exact hP, hD⟩⟩, hS.F ht⟩) hS.2.2 dX2_highest_260
              · refine lv_aload_n hx hb dX2_highest_134 rfl (lv_at hl 8 rfl) ?_
                refine va_get (D := (dC, dI)) (ci := 2) (v := .int 1) (C := RX2) (T := TX2) (N := 13) hx hb hts hin2 hown hK hP 0 rfl rfl 12 (by decide) (hts (.fieldLink RX2 202 "SkyAlmanacModel" "failed" "Z") (by decide +kernel)) (fun _ h9 => h9) rfl dX2_highest_135 ?_
                refine lv_if_ne (tgt := 247) hx hb dX2_highest_138 (by decide) (fun _ => ?_) (fun c_19 => absurd c_19 (by decide))
                refine lv_aload_n hx hb dX2_highest_247 rfl (lv_at hl 8 rfl) ?_
                refine va_get (D := (dC, dI)) (ci := 2) (v := .int 1) (C := RX2) (T := TX2) (N := 13) hx hb hts hin2 hown hK hP 0 rfl rfl 12 (by decide) (hts (.fieldLink RX2 202 "SkyAlmanacModel" "failed" "Z") (by decide +kernel)) (fun _ h9 => h9) rfl dX2_highest_248 ?_
                refine lv_if_eq (tgt := 261) hx hb dX2_highest_251 (by decide) (fun c_20 => absurd c_20 (by decide)) (fun _ => ?_)
                refine lv_aload_n hx hb dX2_highest_254 rfl (lv_at hl 8 rfl) ?_
                refine lv_iconst (v := 3) hx hb dX2_highest_255 (by decide) ?_
                have hPc := hP.sub (ws' := [(am, .inr (2, [.int th, .int (wo + nI (15 + 2 * j + 1 + 1)), .int (fu + 1), .ref gs, .ref go, .ref gt, .ref gp, .ref gw, .double la, .double ea, .ref gl, .int ln, .int 1]))]) [0] rfl
                have hDc := hD.sub (ws' := [(am, .inr (2, [.int th, .int (wo + nI (15 + 2 * j + 1 + 1)), .int (fu + 1), .ref gs, .ref go, .ref gt, .ref gp, .ref gw, .double la, .double ea, .ref gl, .int ln, .int 1]))]) [0] (by decide) rfl
                have hFc := va_free (wc := [(am, .inr (2, [.int th, .int (wo + nI (15 + 2 * j + 1 + 1)), .int (fu + 1), .ref gs, .ref go, .ref gt, .ref gp, .ref gw, .double la, .double ea, .ref gl, .int ln, .int 1]))]) hD hS hA [0] rfl
                refine va_calli (va_runV (As := [.int 3]) (rest := []) ⟨hx, hb, hml, hown, hts⟩ (k_X2_fail l hst dC dI cA tm tt _ am gs go gt gp gw gl th (wo + nI (15 + 2 * j + 1 + 1)) (fu + 1) la ea ln 1 3) (cwV 1 hts gX2_highest_X2_fail rfl rfl rfl (by decide +kernel) ⟨Nat.le_of_ble_eq_true rfl, Nat.le_of_ble_eq_true rfl⟩) ⟨PcW.blind, va_recv hK hPc (ci := 2) (q0 := 0) rfl rfl, PcW.give hPc hK hDc hE hS hFc⟩ rfl rfl hl.1 rfl (lv_room (Nat.le_of_ble_eq_true rfl)) dX2_highest_256 ⟨Nat.le_of_ble_eq_true rfl, Nat.le_of_ble_eq_true rfl⟩) hS (fun q _ h => hFc q h) hFc (fun v_21 u t H locs ht hvm hp_22 hB hz1 hk1 hS => ?_)
                obtain ⟨hP1, hD1⟩ := hB
                rw [ht] at hP1
                obtain ⟨hP, hD⟩ := va_join (wr := [(go, aD 16 (cA 1) uf), (gt, aI 4 (cA 0) tf), (gp, aI 48 (cA 0) pf), (gw, aD 144 (cA 1) wf)]) (w1 := [(am, .inr (2, [.int 3, .int (wo + nI (15 + 2 * j + 1 + 1)), .int (fu + 1), .ref gs, .ref go, .ref gt, .ref gp, .ref gw, .double la, .double ea, .ref gl, .int ln, .int 1]))]) hP hD [0] [1, 2, 3, 4] rfl rfl (by decide) (by decide) hk1 hFc hP1 hD1
                have hP := hP.sub (ws' := [(am, .inr (2, [.int 3, .int (wo + nI (15 + 2 * j + 1 + 1)), .int (fu + 1), .ref gs, .ref go, .ref gt, .ref gp, .ref gw, .double la, .double ea, .ref gl, .int ln, .int 1])), (go, aD 16 (cA 1) uf), (gt, aI 4 (cA 0) tf), (gp, aI 48 (cA 0) pf), (gw, aD 144 (cA 1) wf)]) [4, 0, 1, 2, 3] rfl
                have hD := hD.sub (ws' := [(am, .inr (2, [.int 3, .int (wo + nI (15 + 2 * j + 1 + 1)), .int (fu + 1), .ref gs, .ref go, .ref gt, .ref gp, .ref gw, .double la, .double ea, .ref gl, .int ln, .int 1])), (go, aD 16 (cA 1) uf), (gt, aI 4 (cA 0) tf), (gp, aI 48 (cA 0) pf), (gw, aD 144 (cA 1) wf)]) [4, 0, 1, 2, 3] (by decide) rfl
                obtain rfl := hp_22
                refine lv_i2d hx hb dX2_highest_259 ?_
                have hP : va_P (dC, dI) vwCl [(am, .inr (2, [.int (cdE (HIGH (HEI la ea oL oN oE oW k pw fa sa va) dd).2), .int (wo + nI (HIGH (HEI la ea oL oN oE oW k pw fa sa va) dd).1), .int (fu + cFL (HIGH (HEI la ea oL oN oE oW k pw fa sa va) dd).2), .ref gs, .ref go, .ref gt, .ref gp, .ref gw, .double la, .double ea, .ref gl, .int ln, .int (cFL (HIGH (HEI la ea oL oN oE oW k pw fa sa va) dd).2)])), (go, aD 16 (cA 1) uf), (gt, aI 4 (cA 0) tf), (gp, aI 48 (cA 0) pf), (gw, aD 144 (cA 1) wf)] H := by rw [e8]; simp only; rw [show cdE (.error xIS : Except String UInt64) = 3 from rfl, cFL_IS]; exact hP
                have hD : va_D A [(am, .inr (2, [.int (cdE (HIGH (HEI la ea oL oN oE oW k pw fa sa va) dd).2), .int (wo + nI (HIGH (HEI la ea oL oN oE oW k pw fa sa va) dd).1), .int (fu + cFL (HIGH (HEI la ea oL oN oE oW k pw fa sa va) dd).2), .ref gs, .ref go, .ref gt, .ref gp, .ref gw, .double la, .double ea, .ref gl, .int ln, .int (cFL (HIGH (HEI la ea oL oN oE oW k pw fa sa va) dd).2)])), (go, aD 16 (cA 1) uf), (gt, aI 4 (cA 0) tf), (gp, aI 48 (cA 0) pf), (gw, aD 144 (cA 1) wf)] := by rw [e8]; simp only; rw [show cdE (.error xIS : Except String UInt64) = 3 from rfl, cFL_IS]; exact hD
                subst hQQ
                exact W.dret hx hb hr (fun t ht hW => ⟨⟨_, (), rfl, (fun v hv => by rw [e8] at hv; cases hv), ⟨by rw [ht]; exact hP, hD⟩⟩, hS.F ht⟩) hS.2.2 dX2_highest_260
          · refine lv_iconst (v := 1) hx hb dX2_highest_206 (by decide) ?_
            refine lv_goto (tgt := 211) hx hb dX2_highest_207 (by decide) ?_
            refine lv_istore (lv' := [(20, .int 1), (18, .double v_10), (16, .double v_7), (14, .double (TH2 ta tb)), (12, .double (TH1 ta tb)), (0, .ref am), (1, .int x1), (7, .double ta), (9, .double tb), (11, .int (nI j))]) hx hb dX2_highest_211 hl (by decide) rfl (fun ls hl => ?_)
            refine lv_iload hx hb dX2_highest_213 (lv_at hl 0 rfl) ?_
            refine lv_if_eq (tgt := 223) hx hb dX2_highest_215 (by decide) (fun c_23 => absurd c_23 (by decide)) (fun _ => ?_)
            refine lv_dload hx hb dX2_highest_218 (lv_at hl 4 rfl) ?_
            refine lv_goto (tgt := 225) hx hb dX2_highest_220 (by decide) ?_
            refine lv_dstore (lv' := [(7, .double (TH1 ta tb)), (20, .int 1), (18, .double v_10), (16, .double v_7), (14, .double (TH2 ta tb)), (12, .double (TH1 ta tb)), (0, .ref am), (1, .int x1), (9, .double tb), (11, .int (nI j))]) hx hb dX2_highest_225 hl (by decide) rfl (fun ls hl => ?_)
            refine lv_iload hx hb dX2_highest_227 (lv_at hl 1 rfl) ?_
            refine lv_if_eq (tgt := 237) hx hb dX2_highest_229 (by decide) (fun c_24 => absurd c_24 (by decide)) (fun _ => ?_)
            refine lv_dload hx hb dX2_highest_232 (lv_at hl 8 rfl) ?_
            refine lv_goto (tgt := 239) hx hb dX2_highest_234 (by decide) ?_
            refine lv_dstore (lv' := [(9, .double tb), (7, .double (TH1 ta tb)), (20, .int 1), (18, .double v_10), (16, .double v_7), (14, .double (TH2 ta tb)), (12, .double (TH1 ta tb)), (0, .ref am), (1, .int x1), (11, .int (nI j))]) hx hb dX2_highest_239 hl (by decide) rfl (fun ls hl => ?_)
            refine lv_iinc (v := nI (j + 1)) (lv' := [(11, .int (nI (j + 1))), (9, .double tb), (7, .double (TH1 ta tb)), (20, .int 1), (18, .double v_10), (16, .double v_7), (14, .double (TH2 ta tb)), (12, .double (TH1 ta tb)), (0, .ref am), (1, .int x1)]) hx hb dX2_highest_241 hl (k := 9) rfl (nI_1 _) (by decide) rfl (fun ls hl => ?_)
            refine lv_goto (tgt := 127) hx hb dX2_highest_244 (by decide) ?_
            by_cases hc2 : cFD (LON oL oN oE oW k pw fa sa va (TH2 ta tb)) = 0
            · obtain ⟨hq2, hcf2⟩ := ab_ok hp_11 hc2
              rw [hcf2, hc2, i0] at hP hD
              have hP : va_P (dC, dI) vwCl [(am, .inr (2, [.int th, .int (wo + nI (15 + 2 * (j + 1))), .int fu, .ref gs, .ref go, .ref gt, .ref gp, .ref gw, .double la, .double ea, .ref gl, .int ln, .int 0])), (go, aD 16 (cA 1) uf), (gt, aI 4 (cA 0) tf), (gp, aI 48 (cA 0) pf), (gw, aD 144 (cA 1) wf)] H := by rw [show 15 + 2 * (j + 1) = 15 + 2 * j + 1 + 1 by omega, wk_s]; exact hP
              have hD : va_D A [(am, .inr (2, [.int th, .int (wo + nI (15 + 2 * (j + 1))), .int fu, .ref gs, .ref go, .ref gt, .ref gp, .ref gw, .double la, .double ea, .ref gl, .int ln, .int 0])), (go, aD 16 (cA 1) uf), (gt, aI 4 (cA 0) tf), (gp, aI 48 (cA 0) pf), (gw, aD 144 (cA 1) wf)] := by rw [show 15 + 2 * (j + 1) = 15 + 2 * j + 1 + 1 by omega, wk_s]; exact hD
              exact ih (j + 1) (TH1 ta tb) (tb) (by omega) (by omega) hth.2.2.1 (fR_mono hb9 (by omega) (by omega)) (by rw [hQ, nhL_1 (show j < 24 by omega) hq1 hq2 c_12, addc_addc, show 15 + 2 * j + 2 = 15 + 2 * (j + 1) by omega]) _ _ _ hP hD hS (lv_sub hl [8, 9, 2, 1, 0] rfl)
            · obtain ⟨hq2, hcf2, hcd2⟩ := ab_er la ea hc2
              rw [hcf2, hcd2] at hP hD
              have e8 : HIGH (HEI la ea oL oN oE oW k pw fa sa va) dd = (15 + 2 * j + 1 + 1, .error xIS) := by rw [hQ, nhL_e2 (show j < 24 by omega) hq1 hq2]; rfl
              have hP : va_P (dC, dI) vwCl [(am, .inr (2, [.int th, .int (wo + nI (15 + 2 * j + 1 + 1)), .int (fu + 1), .ref gs, .ref go, .ref gt, .ref gp, .ref gw, .double la, .double ea, .ref gl, .int ln, .int 1])), (go, aD 16 (cA 1) uf), (gt, aI 4 (cA 0) tf), (gp, aI 48 (cA 0) pf), (gw, aD 144 (cA 1) wf)] H := by rw [wk_s]; exact hP
              have hD : va_D A [(am, .inr (2, [.int th, .int (wo + nI (15 + 2 * j + 1 + 1)), .int (fu + 1), .ref gs, .ref go, .ref gt, .ref gp, .ref gw, .double la, .double ea, .ref gl, .int ln, .int 1])), (go, aD 16 (cA 1) uf), (gt, aI 4 (cA 0) tf), (gp, aI 48 (cA 0) pf), (gw, aD 144 (cA 1) wf)] := by rw [wk_s]; exact hD
              refine lv_iload hx hb dX2_highest_127 (lv_at hl 0 rfl) ?_
              refine lv_bipush (v := 24) hx hb dX2_highest_129 (by decide) ?_
              refine lv_icmp_ge (tgt := 247) hx hb dX2_highest_131 (by decide) (fun c_25 => ?_) (fun c_25 => ?_)
              · refine lv_aload_n hx hb dX2_highest_247 rfl (lv_at hl 8 rfl) ?_
                refine va_get (D := (dC, dI)) (ci := 2) (v := .int 1) (C := RX2) (T := TX2) (N := 13) hx hb hts hin2 hown hK hP 0 rfl rfl 12 (by decide) (hts (.fieldLink RX2 202 "SkyAlmanacModel" "failed" "Z") (by decide +kernel)) (fun _ h9 => h9) rfl dX2_highest_248 ?_
                refine lv_if_eq (tgt := 261) hx hb dX2_highest_251 (by decide) (fun c_26 => absurd c_26 (by decide)) (fun _ => ?_)
                refine lv_aload_n hx hb dX2_highest_254 rfl (lv_at hl 8 rfl) ?_
                refine lv_iconst (v := 3) hx hb dX2_highest_255 (by decide) ?_
                have hPc := hP.sub (ws' := [(am, .inr (2, [.int th, .int (wo + nI (15 + 2 * j + 1 + 1)), .int (fu + 1), .ref gs, .ref go, .ref gt, .ref gp, .ref gw, .double la, .double ea, .ref gl, .int ln, .int 1]))]) [0] rfl
                have hDc := hD.sub (ws' := [(am, .inr (2, [.int th, .int (wo + nI (15 + 2 * j + 1 + 1)), .int (fu + 1), .ref gs, .ref go, .ref gt, .ref gp, .ref gw, .double la, .double ea, .ref gl, .int ln, .int 1]))]) [0] (by decide) rfl
                have hFc := va_free (wc := [(am, .inr (2, [.int th, .int (wo + nI (15 + 2 * j + 1 + 1)), .int (fu + 1), .ref gs, .ref go, .ref gt, .ref gp, .ref gw, .double la, .double ea, .ref gl, .int ln, .int 1]))]) hD hS hA [0] rfl
                refine va_calli (va_runV (As := [.int 3]) (rest := []) ⟨hx, hb, hml, hown, hts⟩ (k_X2_fail l hst dC dI cA tm tt _ am gs go gt gp gw gl th (wo + nI (15 + 2 * j + 1 + 1)) (fu + 1) la ea ln 1 3) (cwV 1 hts gX2_highest_X2_fail rfl rfl rfl (by decide +kernel) ⟨Nat.le_of_ble_eq_true rfl, Nat.le_of_ble_eq_true rfl⟩) ⟨PcW.blind, va_recv hK hPc (ci := 2) (q0 := 0) rfl rfl, PcW.give hPc hK hDc hE hS hFc⟩ rfl rfl hl.1 rfl (lv_room (Nat.le_of_ble_eq_true rfl)) dX2_highest_256 ⟨Nat.le_of_ble_eq_true rfl, Nat.le_of_ble_eq_true rfl⟩) hS (fun q _ h => hFc q h) hFc (fun v_27 u t H locs ht hvm hp_28 hB hz1 hk1 hS => ?_)
                obtain ⟨hP1, hD1⟩ := hB
                rw [ht] at hP1
                obtain ⟨hP, hD⟩ := va_join (wr := [(go, aD 16 (cA 1) uf), (gt, aI 4 (cA 0) tf), (gp, aI 48 (cA 0) pf), (gw, aD 144 (cA 1) wf)]) (w1 := [(am, .inr (2, [.int 3, .int (wo + nI (15 + 2 * j + 1 + 1)), .int (fu + 1), .ref gs, .ref go, .ref gt, .ref gp, .ref gw, .double la, .double ea, .ref gl, .int ln, .int 1]))]) hP hD [0] [1, 2, 3, 4] rfl rfl (by decide) (by decide) hk1 hFc hP1 hD1
                have hP := hP.sub (ws' := [(am, .inr (2, [.int 3, .int (wo + nI (15 + 2 * j + 1 + 1)), .int (fu + 1), .ref gs, .ref go, .ref gt, .ref gp, .ref gw, .double la, .double ea, .ref gl, .int ln, .int 1])), (go, aD 16 (cA 1) uf), (gt, aI 4 (cA 0) tf), (gp, aI 48 (cA 0) pf), (gw, aD 144 (cA 1) wf)]) [4, 0, 1, 2, 3] rfl
                have hD := hD.sub (ws' := [(am, .inr (2, [.int 3, .int (wo + nI (15 + 2 * j + 1 + 1)), .int (fu + 1), .ref gs, .ref go, .ref gt, .ref gp, .ref gw, .double la, .double ea, .ref gl, .int ln, .int 1])), (go, aD 16 (cA 1) uf), (gt, aI 4 (cA 0) tf), (gp, aI 48 (cA 0) pf), (gw, aD 144 (cA 1) wf)]) [4, 0, 1, 2, 3] (by decide) rfl
                obtain rfl := hp_28
                refine lv_i2d hx hb dX2_highest_259 ?_
                have hP : va_P (dC, dI) vwCl [(am, .inr (2, [.int (cdE (HIGH (HEI la ea oL oN oE oW k pw fa sa va) dd).2), .int (wo + nI (HIGH (HEI la ea oL oN oE oW k pw fa sa va) dd).1), .int (fu + cFL (HIGH (HEI la ea oL oN oE oW k pw fa sa va) dd).2), .ref gs, .ref go, .ref gt, .ref gp, .ref gw, .double la, .double ea, .ref gl, .int ln, .int (cFL (HIGH (HEI la ea oL oN oE oW k pw fa sa va) dd).2)])), (go, aD 16 (cA 1) uf), (gt, aI 4 (cA 0) tf), (gp, aI 48 (cA 0) pf), (gw, aD 144 (cA 1) wf)] H := by rw [e8]; simp only; rw [show cdE (.error xIS : Except String UInt64) = 3 from rfl, cFL_IS]; exact hP
                have hD : va_D A [(am, .inr (2, [.int (cdE (HIGH (HEI la ea oL oN oE oW k pw fa sa va) dd).2), .int (wo + nI (HIGH (HEI la ea oL oN oE oW k pw fa sa va) dd).1), .int (fu + cFL (HIGH (HEI la ea oL oN oE oW k pw fa sa va) dd).2), .ref gs, .ref go, .ref gt, .ref gp, .ref gw, .double la, .double ea, .ref gl, .int ln, .int (cFL (HIGH (HEI la ea oL oN oE oW k pw fa sa va) dd).2)])), (go, aD 16 (cA 1) uf), (gt, aI 4 (cA 0) tf), (gp, aI 48 (cA 0) pf), (gw, aD 144 (cA 1) wf)] := by rw [e8]; simp only; rw [show cdE (.error xIS : Except String UInt64) = 3 from rfl, cFL_IS]; exact hD
                subst hQQ
                exact W.dret hx hb hr (fun t ht hW => ⟨⟨_, (), rfl, (fun v hv => by rw [e8] at hv; cases hv), ⟨by rw [ht]; exact hP, hD⟩⟩, hS.F ht⟩) hS.2.2 dX2_highest_260
              · refine lv_aload_n hx hb dX2_highest_134 rfl (lv_at hl 8 rfl) ?_
                refine va_get (D := (dC, dI)) (ci := 2) (v := .int 1) (C := RX2) (T := TX2) (N := 13) hx hb hts hin2 hown hK hP 0 rfl rfl 12 (by decide) (hts (.fieldLink RX2 202 "SkyAlmanacModel" "failed" "Z") (by decide +kernel)) (fun _ h9 => h9) rfl dX2_highest_135 ?_
                refine lv_if_ne (tgt := 247) hx hb dX2_highest_138 (by decide) (fun _ => ?_) (fun c_29 => absurd c_29 (by decide))
                refine lv_aload_n hx hb dX2_highest_247 rfl (lv_at hl 8 rfl) ?_
                refine va_get (D := (dC, dI)) (ci := 2) (v := .int 1) (C := RX2) (T := TX2) (N := 13) hx hb hts hin2 hown hK hP 0 rfl rfl 12 (by decide) (hts (.fieldLink RX2 202 "SkyAlmanacModel" "failed" "Z") (by decide +kernel)) (fun _ h9 => h9) rfl dX2_highest_248 ?_
                refine lv_if_eq (tgt := 261) hx hb dX2_highest_251 (by decide) (fun c_30 => absurd c_30 (by decide)) (fun _ => ?_)
                refine lv_aload_n hx hb dX2_highest_254 rfl (lv_at hl 8 rfl) ?_
                refine lv_iconst (v := 3) hx hb dX2_highest_255 (by decide) ?_
                have hPc := hP.sub (ws' := [(am, .inr (2, [.int th, .int (wo + nI (15 + 2 * j + 1 + 1)), .int (fu + 1), .ref gs, .ref go, .ref gt, .ref gp, .ref gw, .double la, .double ea, .ref gl, .int ln, .int 1]))]) [0] rfl
                have hDc := hD.sub (ws' := [(am, .inr (2, [.int th, .int (wo + nI (15 + 2 * j + 1 + 1)), .int (fu + 1), .ref gs, .ref go, .ref gt, .ref gp, .ref gw, .double la, .double ea, .ref gl, .int ln, .int 1]))]) [0] (by decide) rfl
                have hFc := va_free (wc := [(am, .inr (2, [.int th, .int (wo + nI (15 + 2 * j + 1 + 1)), .int (fu + 1), .ref gs, .ref go, .ref gt, .ref gp, .ref gw, .double la, .double ea, .ref gl, .int ln, .int 1]))]) hD hS hA [0] rfl
                refine va_calli (va_runV (As := [.int 3]) (rest := []) ⟨hx, hb, hml, hown, hts⟩ (k_X2_fail l hst dC dI cA tm tt _ am gs go gt gp gw gl th (wo + nI (15 + 2 * j + 1 + 1)) (fu + 1) la ea ln 1 3) (cwV 1 hts gX2_highest_X2_fail rfl rfl rfl (by decide +kernel) ⟨Nat.le_of_ble_eq_true rfl, Nat.le_of_ble_eq_true rfl⟩) ⟨PcW.blind, va_recv hK hPc (ci := 2) (q0 := 0) rfl rfl, PcW.give hPc hK hDc hE hS hFc⟩ rfl rfl hl.1 rfl (lv_room (Nat.le_of_ble_eq_true rfl)) dX2_highest_256 ⟨Nat.le_of_ble_eq_true rfl, Nat.le_of_ble_eq_true rfl⟩) hS (fun q _ h => hFc q h) hFc (fun v_31 u t H locs ht hvm hp_32 hB hz1 hk1 hS => ?_)
                obtain ⟨hP1, hD1⟩ := hB
                rw [ht] at hP1
                obtain ⟨hP, hD⟩ := va_join (wr := [(go, aD 16 (cA 1) uf), (gt, aI 4 (cA 0) tf), (gp, aI 48 (cA 0) pf), (gw, aD 144 (cA 1) wf)]) (w1 := [(am, .inr (2, [.int 3, .int (wo + nI (15 + 2 * j + 1 + 1)), .int (fu + 1), .ref gs, .ref go, .ref gt, .ref gp, .ref gw, .double la, .double ea, .ref gl, .int ln, .int 1]))]) hP hD [0] [1, 2, 3, 4] rfl rfl (by decide) (by decide) hk1 hFc hP1 hD1
                have hP := hP.sub (ws' := [(am, .inr (2, [.int 3, .int (wo + nI (15 + 2 * j + 1 + 1)), .int (fu + 1), .ref gs, .ref go, .ref gt, .ref gp, .ref gw, .double la, .double ea, .ref gl, .int ln, .int 1])), (go, aD 16 (cA 1) uf), (gt, aI 4 (cA 0) tf), (gp, aI 48 (cA 0) pf), (gw, aD 144 (cA 1) wf)]) [4, 0, 1, 2, 3] rfl
                have hD := hD.sub (ws' := [(am, .inr (2, [.int 3, .int (wo + nI (15 + 2 * j + 1 + 1)), .int (fu + 1), .ref gs, .ref go, .ref gt, .ref gp, .ref gw, .double la, .double ea, .ref gl, .int ln, .int 1])), (go, aD 16 (cA 1) uf), (gt, aI 4 (cA 0) tf), (gp, aI 48 (cA 0) pf), (gw, aD 144 (cA 1) wf)]) [4, 0, 1, 2, 3] (by decide) rfl
                obtain rfl := hp_32
                refine lv_i2d hx hb dX2_highest_259 ?_
                have hP : va_P (dC, dI) vwCl [(am, .inr (2, [.int (cdE (HIGH (HEI la ea oL oN oE oW k pw fa sa va) dd).2), .int (wo + nI (HIGH (HEI la ea oL oN oE oW k pw fa sa va) dd).1), .int (fu + cFL (HIGH (HEI la ea oL oN oE oW k pw fa sa va) dd).2), .ref gs, .ref go, .ref gt, .ref gp, .ref gw, .double la, .double ea, .ref gl, .int ln, .int (cFL (HIGH (HEI la ea oL oN oE oW k pw fa sa va) dd).2)])), (go, aD 16 (cA 1) uf), (gt, aI 4 (cA 0) tf), (gp, aI 48 (cA 0) pf), (gw, aD 144 (cA 1) wf)] H := by rw [e8]; simp only; rw [show cdE (.error xIS : Except String UInt64) = 3 from rfl, cFL_IS]; exact hP
                have hD : va_D A [(am, .inr (2, [.int (cdE (HIGH (HEI la ea oL oN oE oW k pw fa sa va) dd).2), .int (wo + nI (HIGH (HEI la ea oL oN oE oW k pw fa sa va) dd).1), .int (fu + cFL (HIGH (HEI la ea oL oN oE oW k pw fa sa va) dd).2), .ref gs, .ref go, .ref gt, .ref gp, .ref gw, .double la, .double ea, .ref gl, .int ln, .int (cFL (HIGH (HEI la ea oL oN oE oW k pw fa sa va) dd).2)])), (go, aD 16 (cA 1) uf), (gt, aI 4 (cA 0) tf), (gp, aI 48 (cA 0) pf), (gw, aD 144 (cA 1) wf)] := by rw [e8]; simp only; rw [show cdE (.error xIS : Except String UInt64) = 3 from rfl, cFL_IS]; exact hD
                subst hQQ
                exact W.dret hx hb hr (fun t ht hW => ⟨⟨_, (), rfl, (fun v hv => by rw [e8] at hv; cases hv), ⟨by rw [ht]; exact hP, hD⟩⟩, hS.F ht⟩) hS.2.2 dX2_highest_260
        · obtain ⟨hq, hcf, hcd⟩ := ab_er la ea c_9
          rw [hcf, hcd] at hP hD
          have e8 : HIGH (HEI la ea oL oN oE oW k pw fa sa va) dd = (15 + 2 * j + 1, .error xIS) := by rw [hQ, nhL_e1 (show j < 24 by omega) hq]; rfl
          have hP : va_P (dC, dI) vwCl [(am, .inr (2, [.int th, .int (wo + nI (15 + 2 * j + 1)), .int (fu + 1), .ref gs, .ref go, .ref gt, .ref gp, .ref gw, .double la, .double ea, .ref gl, .int ln, .int 1])), (go, aD 16 (cA 1) uf), (gt, aI 4 (cA 0) tf), (gp, aI 48 (cA 0) pf), (gw, aD 144 (cA 1) wf)] H := by rw [wk_s]; exact hP
          have hD : va_D A [(am, .inr (2, [.int th, .int (wo + nI (15 + 2 * j + 1)), .int (fu + 1), .ref gs, .ref go, .ref gt, .ref gp, .ref gw, .double la, .double ea, .ref gl, .int ln, .int 1])), (go, aD 16 (cA 1) uf), (gt, aI 4 (cA 0) tf), (gp, aI 48 (cA 0) pf), (gw, aD 144 (cA 1) wf)] := by rw [wk_s]; exact hD
          refine lv_dconst0 hx hb dX2_highest_185 ?_
          have r_33 : fR FP.dconst0 0 0 := fR_lit (by decide +kernel)
          refine lv_goto (tgt := 196) hx hb dX2_highest_186 (by decide) ?_
          refine lv_dstore (lv' := [(18, .double FP.dconst0), (16, .double v_7), (14, .double (TH2 ta tb)), (12, .double (TH1 ta tb)), (0, .ref am), (1, .int x1), (7, .double ta), (9, .double tb), (11, .int (nI j))]) hx hb dX2_highest_196 hl (by decide) rfl (fun ls hl => ?_)
          refine lv_dload hx hb dX2_highest_198 (lv_at hl 1 rfl) ?_
          refine lv_dload hx hb dX2_highest_200 (lv_at hl 0 rfl) ?_
          refine zd_g_ge (tgt := 210) hx hb dX2_highest_202 dX2_highest_203 (by decide) (fun c_34 => ?_) (fun c_34 => ?_)
          · refine lv_iconst (v := 0) hx hb dX2_highest_210 (by decide) ?_
            refine lv_istore (lv' := [(20, .int 0), (18, .double FP.dconst0), (16, .double v_7), (14, .double (TH2 ta tb)), (12, .double (TH1 ta tb)), (0, .ref am), (1, .int x1), (7, .double ta), (9, .double tb), (11, .int (nI j))]) hx hb dX2_highest_211 hl (by decide) rfl (fun ls hl => ?_)
            refine lv_iload hx hb dX2_highest_213 (lv_at hl 0 rfl) ?_
            refine lv_if_eq (tgt := 223) hx hb dX2_highest_215 (by decide) (fun _ => ?_) (fun c_35 => absurd c_35 (by decide))
            refine lv_dload hx hb dX2_highest_223 (lv_at hl 7 rfl) ?_
            refine lv_dstore (lv' := [(7, .double ta), (20, .int 0), (18, .double FP.dconst0), (16, .double v_7), (14, .double (TH2 ta tb)), (12, .double (TH1 ta tb)), (0, .ref am), (1, .int x1), (9, .double tb), (11, .int (nI j))]) hx hb dX2_highest_225 hl (by decide) rfl (fun ls hl => ?_)
            refine lv_iload hx hb dX2_highest_227 (lv_at hl 1 rfl) ?_
            refine lv_if_eq (tgt := 237) hx hb dX2_highest_229 (by decide) (fun _ => ?_) (fun c_36 => absurd c_36 (by decide))
            refine lv_dload hx hb dX2_highest_237 (lv_at hl 4 rfl) ?_
            refine lv_dstore (lv' := [(9, .double (TH2 ta tb)), (7, .double ta), (20, .int 0), (18, .double FP.dconst0), (16, .double v_7), (14, .double (TH2 ta tb)), (12, .double (TH1 ta tb)), (0, .ref am), (1, .int x1), (11, .int (nI j))]) hx hb dX2_highest_239 hl (by decide) rfl (fun ls hl => ?_)
            refine lv_iinc (v := nI (j + 1)) (lv' := [(11, .int (nI (j + 1))), (9, .double (TH2 ta tb)), (7, .double ta), (20, .int 0), (18, .double FP.dconst0), (16, .double v_7), (14, .double (TH2 ta tb)), (12, .double (TH1 ta tb)), (0, .ref am), (1, .int x1)]) hx hb dX2_highest_241 hl (k := 9) rfl (nI_1 _) (by decide) rfl (fun ls hl => ?_)
            refine lv_goto (tgt := 127) hx hb dX2_highest_244 (by decide) ?_
            refine lv_iload hx hb dX2_highest_127 (lv_at hl 0 rfl) ?_
            refine lv_bipush (v := 24) hx hb dX2_highest_129 (by decide) ?_
            refine lv_icmp_ge (tgt := 247) hx hb dX2_highest_131 (by decide) (fun c_37 => ?_) (fun c_37 => ?_)
            · refine lv_aload_n hx hb dX2_highest_247 rfl (lv_at hl 8 rfl) ?_
              refine va_get (D := (dC, dI)) (ci := 2) (v := .int 1) (C := RX2) (T := TX2) (N := 13) hx hb hts hin2 hown hK hP 0 rfl rfl 12 (by decide) (hts (.fieldLink RX2 202 "SkyAlmanacModel" "failed" "Z") (by decide +kernel)) (fun _ h9 => h9) rfl dX2_highest_248 ?_
              refine lv_if_eq (tgt := 261) hx hb dX2_highest_251 (by decide) (fun c_38 => absurd c_38 (by decide)) (fun _ => ?_)
              refine lv_aload_n hx hb dX2_highest_254 rfl (lv_at hl 8 rfl) ?_
              refine lv_iconst (v := 3) hx hb dX2_highest_255 (by decide) ?_
              have hPc := hP.sub (ws' := [(am, .inr (2, [.int th, .int (wo + nI (15 + 2 * j + 1)), .int (fu + 1), .ref gs, .ref go, .ref gt, .ref gp, .ref gw, .double la, .double ea, .ref gl, .int ln, .int 1]))]) [0] rfl
              have hDc := hD.sub (ws' := [(am, .inr (2, [.int th, .int (wo + nI (15 + 2 * j + 1)), .int (fu + 1), .ref gs, .ref go, .ref gt, .ref gp, .ref gw, .double la, .double ea, .ref gl, .int ln, .int 1]))]) [0] (by decide) rfl
              have hFc := va_free (wc := [(am, .inr (2, [.int th, .int (wo + nI (15 + 2 * j + 1)), .int (fu + 1), .ref gs, .ref go, .ref gt, .ref gp, .ref gw, .double la, .double ea, .ref gl, .int ln, .int 1]))]) hD hS hA [0] rfl
              refine va_calli (va_runV (As := [.int 3]) (rest := []) ⟨hx, hb, hml, hown, hts⟩ (k_X2_fail l hst dC dI cA tm tt _ am gs go gt gp gw gl th (wo + nI (15 + 2 * j + 1)) (fu + 1) la ea ln 1 3) (cwV 1 hts gX2_highest_X2_fail rfl rfl rfl (by decide +kernel) ⟨Nat.le_of_ble_eq_true rfl, Nat.le_of_ble_eq_true rfl⟩) ⟨PcW.blind, va_recv hK hPc (ci := 2) (q0 := 0) rfl rfl, PcW.give hPc hK hDc hE hS hFc⟩ rfl rfl hl.1 rfl (lv_room (Nat.le_of_ble_eq_true rfl)) dX2_highest_256 ⟨Nat.le_of_ble_eq_true rfl, Nat.le_of_ble_eq_true rfl⟩) hS (fun q _ h => hFc q h) hFc (fun v_39 u t H locs ht hvm hp_40 hB hz1 hk1 hS => ?_)
              obtain ⟨hP1, hD1⟩ := hB
              rw [ht] at hP1
              obtain ⟨hP, hD⟩ := va_join (wr := [(go, aD 16 (cA 1) uf), (gt, aI 4 (cA 0) tf), (gp, aI 48 (cA 0) pf), (gw, aD 144 (cA 1) wf)]) (w1 := [(am, .inr (2, [.int 3, .int (wo + nI (15 + 2 * j + 1)), .int (fu + 1), .ref gs, .ref go, .ref gt, .ref gp, .ref gw, .double la, .double ea, .ref gl, .int ln, .int 1]))]) hP hD [0] [1, 2, 3, 4] rfl rfl (by decide) (by decide) hk1 hFc hP1 hD1
              have hP := hP.sub (ws' := [(am, .inr (2, [.int 3, .int (wo + nI (15 + 2 * j + 1)), .int (fu + 1), .ref gs, .ref go, .ref gt, .ref gp, .ref gw, .double la, .double ea, .ref gl, .int ln, .int 1])), (go, aD 16 (cA 1) uf), (gt, aI 4 (cA 0) tf), (gp, aI 48 (cA 0) pf), (gw, aD 144 (cA 1) wf)]) [4, 0, 1, 2, 3] rfl
              have hD := hD.sub (ws' := [(am, .inr (2, [.int 3, .int (wo + nI (15 + 2 * j + 1)), .int (fu + 1), .ref gs, .ref go, .ref gt, .ref gp, .ref gw, .double la, .double ea, .ref gl, .int ln, .int 1])), (go, aD 16 (cA 1) uf), (gt, aI 4 (cA 0) tf), (gp, aI 48 (cA 0) pf), (gw, aD 144 (cA 1) wf)]) [4, 0, 1, 2, 3] (by decide) rfl
              obtain rfl := hp_40
              refine lv_i2d hx hb dX2_highest_259 ?_
              have hP : va_P (dC, dI) vwCl [(am, .inr (2, [.int (cdE (HIGH (HEI la ea oL oN oE oW k pw fa sa va) dd).2), .int (wo + nI (HIGH (HEI la ea oL oN oE oW k pw fa sa va) dd).1), .int (fu + cFL (HIGH (HEI la ea oL oN oE oW k pw fa sa va) dd).2), .ref gs, .ref go, .ref gt, .ref gp, .ref gw, .double la, .double ea, .ref gl, .int ln, .int (cFL (HIGH (HEI la ea oL oN oE oW k pw fa sa va) dd).2)])), (go, aD 16 (cA 1) uf), (gt, aI 4 (cA 0) tf), (gp, aI 48 (cA 0) pf), (gw, aD 144 (cA 1) wf)] H := by rw [e8]; simp only; rw [show cdE (.error xIS : Except String UInt64) = 3 from rfl, cFL_IS]; exact hP
              have hD : va_D A [(am, .inr (2, [.int (cdE (HIGH (HEI la ea oL oN oE oW k pw fa sa va) dd).2), .int (wo + nI (HIGH (HEI la ea oL oN oE oW k pw fa sa va) dd).1), .int (fu + cFL (HIGH (HEI la ea oL oN oE oW k pw fa sa va) dd).2), .ref gs, .ref go, .ref gt, .ref gp, .ref gw, .double la, .double ea, .ref gl, .int ln, .int (cFL (HIGH (HEI la ea oL oN oE oW k pw fa sa va) dd).2)])), (go, aD 16 (cA 1) uf), (gt, aI 4 (cA 0) tf), (gp, aI 48 (cA 0) pf), (gw, aD 144 (cA 1) wf)] := by rw [e8]; simp only; rw [show cdE (.error xIS : Except String UInt64) = 3 from rfl, cFL_IS]; exact hD
              subst hQQ
              exact W.dret hx hb hr (fun t ht hW => ⟨⟨_, (), rfl, (fun v hv => by rw [e8] at hv; cases hv), ⟨by rw [ht]; exact hP, hD⟩⟩, hS.F ht⟩) hS.2.2 dX2_highest_260
            · refine lv_aload_n hx hb dX2_highest_134 rfl (lv_at hl 8 rfl) ?_
              refine va_get (D := (dC, dI)) (ci := 2) (v := .int 1) (C := RX2) (T := TX2) (N := 13) hx hb hts hin2 hown hK hP 0 rfl rfl 12 (by decide) (hts (.fieldLink RX2 202 "SkyAlmanacModel" "failed" "Z") (by decide +kernel)) (fun _ h9 => h9) rfl dX2_highest_135 ?_
              refine lv_if_ne (tgt := 247) hx hb dX2_highest_138 (by decide) (fun _ => ?_) (fun c_41 => absurd c_41 (by decide))
              refine lv_aload_n hx hb dX2_highest_247 rfl (lv_at hl 8 rfl) ?_
              refine va_get (D := (dC, dI)) (ci := 2) (v := .int 1) (C := RX2) (T := TX2) (N := 13) hx hb hts hin2 hown hK hP 0 rfl rfl 12 (by decide) (hts (.fieldLink RX2 202 "SkyAlmanacModel" "failed" "Z") (by decide +kernel)) (fun _ h9 => h9) rfl dX2_highest_248 ?_
              refine lv_if_eq (tgt := 261) hx hb dX2_highest_251 (by decide) (fun c_42 => absurd c_42 (by decide)) (fun _ => ?_)
              refine lv_aload_n hx hb dX2_highest_254 rfl (lv_at hl 8 rfl) ?_
              refine lv_iconst (v := 3) hx hb dX2_highest_255 (by decide) ?_
              have hPc := hP.sub (ws' := [(am, .inr (2, [.int th, .int (wo + nI (15 + 2 * j + 1)), .int (fu + 1), .ref gs, .ref go, .ref gt, .ref gp, .ref gw, .double la, .double ea, .ref gl, .int ln, .int 1]))]) [0] rfl
              have hDc := hD.sub (ws' := [(am, .inr (2, [.int th, .int (wo + nI (15 + 2 * j + 1)), .int (fu + 1), .ref gs, .ref go, .ref gt, .ref gp, .ref gw, .double la, .double ea, .ref gl, .int ln, .int 1]))]) [0] (by decide) rfl
              have hFc := va_free (wc := [(am, .inr (2, [.int th, .int (wo + nI (15 + 2 * j + 1)), .int (fu + 1), .ref gs, .ref go, .ref gt, .ref gp, .ref gw, .double la, .double ea, .ref gl, .int ln, .int 1]))]) hD hS hA [0] rfl
              refine va_calli (va_runV (As := [.int 3]) (rest := []) ⟨hx, hb, hml, hown, hts⟩ (k_X2_fail l hst dC dI cA tm tt _ am gs go gt gp gw gl th (wo + nI (15 + 2 * j + 1)) (fu + 1) la ea ln 1 3) (cwV 1 hts gX2_highest_X2_fail rfl rfl rfl (by decide +kernel) ⟨Nat.le_of_ble_eq_true rfl, Nat.le_of_ble_eq_true rfl⟩) ⟨PcW.blind, va_recv hK hPc (ci := 2) (q0 := 0) rfl rfl, PcW.give hPc hK hDc hE hS hFc⟩ rfl rfl hl.1 rfl (lv_room (Nat.le_of_ble_eq_true rfl)) dX2_highest_256 ⟨Nat.le_of_ble_eq_true rfl, Nat.le_of_ble_eq_true rfl⟩) hS (fun q _ h => hFc q h) hFc (fun v_43 u t H locs ht hvm hp_44 hB hz1 hk1 hS => ?_)
              obtain ⟨hP1, hD1⟩ := hB
              rw [ht] at hP1
              obtain ⟨hP, hD⟩ := va_join (wr := [(go, aD 16 (cA 1) uf), (gt, aI 4 (cA 0) tf), (gp, aI 48 (cA 0) pf), (gw, aD 144 (cA 1) wf)]) (w1 := [(am, .inr (2, [.int 3, .int (wo + nI (15 + 2 * j + 1)), .int (fu + 1), .ref gs, .ref go, .ref gt, .ref gp, .ref gw, .double la, .double ea, .ref gl, .int ln, .int 1]))]) hP hD [0] [1, 2, 3, 4] rfl rfl (by decide) (by decide) hk1 hFc hP1 hD1
              have hP := hP.sub (ws' := [(am, .inr (2, [.int 3, .int (wo + nI (15 + 2 * j + 1)), .int (fu + 1), .ref gs, .ref go, .ref gt, .ref gp, .ref gw, .double la, .double ea, .ref gl, .int ln, .int 1])), (go, aD 16 (cA 1) uf), (gt, aI 4 (cA 0) tf), (gp, aI 48 (cA 0) pf), (gw, aD 144 (cA 1) wf)]) [4, 0, 1, 2, 3] rfl
              have hD := hD.sub (ws' := [(am, .inr (2, [.int 3, .int (wo + nI (15 + 2 * j + 1)), .int (fu + 1), .ref gs, .ref go, .ref gt, .ref gp, .ref gw, .double la, .double ea, .ref gl, .int ln, .int 1])), (go, aD 16 (cA 1) uf), (gt, aI 4 (cA 0) tf), (gp, aI 48 (cA 0) pf), (gw, aD 144 (cA 1) wf)]) [4, 0, 1, 2, 3] (by decide) rfl
              obtain rfl := hp_44
              refine lv_i2d hx hb dX2_highest_259 ?_
              have hP : va_P (dC, dI) vwCl [(am, .inr (2, [.int (cdE (HIGH (HEI la ea oL oN oE oW k pw fa sa va) dd).2), .int (wo + nI (HIGH (HEI la ea oL oN oE oW k pw fa sa va) dd).1), .int (fu + cFL (HIGH (HEI la ea oL oN oE oW k pw fa sa va) dd).2), .ref gs, .ref go, .ref gt, .ref gp, .ref gw, .double la, .double ea, .ref gl, .int ln, .int (cFL (HIGH (HEI la ea oL oN oE oW k pw fa sa va) dd).2)])), (go, aD 16 (cA 1) uf), (gt, aI 4 (cA 0) tf), (gp, aI 48 (cA 0) pf), (gw, aD 144 (cA 1) wf)] H := by rw [e8]; simp only; rw [show cdE (.error xIS : Except String UInt64) = 3 from rfl, cFL_IS]; exact hP
              have hD : va_D A [(am, .inr (2, [.int (cdE (HIGH (HEI la ea oL oN oE oW k pw fa sa va) dd).2), .int (wo + nI (HIGH (HEI la ea oL oN oE oW k pw fa sa va) dd).1), .int (fu + cFL (HIGH (HEI la ea oL oN oE oW k pw fa sa va) dd).2), .ref gs, .ref go, .ref gt, .ref gp, .ref gw, .double la, .double ea, .ref gl, .int ln, .int (cFL (HIGH (HEI la ea oL oN oE oW k pw fa sa va) dd).2)])), (go, aD 16 (cA 1) uf), (gt, aI 4 (cA 0) tf), (gp, aI 48 (cA 0) pf), (gw, aD 144 (cA 1) wf)] := by rw [e8]; simp only; rw [show cdE (.error xIS : Except String UInt64) = 3 from rfl, cFL_IS]; exact hD
              subst hQQ
              exact W.dret hx hb hr (fun t ht hW => ⟨⟨_, (), rfl, (fun v hv => by rw [e8] at hv; cases hv), ⟨by rw [ht]; exact hP, hD⟩⟩, hS.F ht⟩) hS.2.2 dX2_highest_260
          · refine lv_iconst (v := 1) hx hb dX2_highest_206 (by decide) ?_
            refine lv_goto (tgt := 211) hx hb dX2_highest_207 (by decide) ?_
            refine lv_istore (lv' := [(20, .int 1), (18, .double FP.dconst0), (16, .double v_7), (14, .double (TH2 ta tb)), (12, .double (TH1 ta tb)), (0, .ref am), (1, .int x1), (7, .double ta), (9, .double tb), (11, .int (nI j))]) hx hb dX2_highest_211 hl (by decide) rfl (fun ls hl => ?_)
            refine lv_iload hx hb dX2_highest_213 (lv_at hl 0 rfl) ?_
            refine lv_if_eq (tgt := 223) hx hb dX2_highest_215 (by decide) (fun c_45 => absurd c_45 (by decide)) (fun _ => ?_)
            refine lv_dload hx hb dX2_highest_218 (lv_at hl 4 rfl) ?_
            refine lv_goto (tgt := 225) hx hb dX2_highest_220 (by decide) ?_
            refine lv_dstore (lv' := [(7, .double (TH1 ta tb)), (20, .int 1), (18, .double FP.dconst0), (16, .double v_7), (14, .double (TH2 ta tb)), (12, .double (TH1 ta tb)), (0, .ref am), (1, .int x1), (9, .double tb), (11, .int (nI j))]) hx hb dX2_highest_225 hl (by decide) rfl (fun ls hl => ?_)
            refine lv_iload hx hb dX2_highest_227 (lv_at hl 1 rfl) ?_
            refine lv_if_eq (tgt := 237) hx hb dX2_highest_229 (by decide) (fun c_46 => absurd c_46 (by decide)) (fun _ => ?_)
            refine lv_dload hx hb dX2_highest_232 (lv_at hl 8 rfl) ?_
            refine lv_goto (tgt := 239) hx hb dX2_highest_234 (by decide) ?_
            refine lv_dstore (lv' := [(9, .double tb), (7, .double (TH1 ta tb)), (20, .int 1), (18, .double FP.dconst0), (16, .double v_7), (14, .double (TH2 ta tb)), (12, .double (TH1 ta tb)), (0, .ref am), (1, .int x1), (11, .int (nI j))]) hx hb dX2_highest_239 hl (by decide) rfl (fun ls hl => ?_)
            refine lv_iinc (v := nI (j + 1)) (lv' := [(11, .int (nI (j + 1))), (9, .double tb), (7, .double (TH1 ta tb)), (20, .int 1), (18, .double FP.dconst0), (16, .double v_7), (14, .double (TH2 ta tb)), (12, .double (TH1 ta tb)), (0, .ref am), (1, .int x1)]) hx hb dX2_highest_241 hl (k := 9) rfl (nI_1 _) (by decide) rfl (fun ls hl => ?_)
            refine lv_goto (tgt := 127) hx hb dX2_highest_244 (by decide) ?_
            refine lv_iload hx hb dX2_highest_127 (lv_at hl 0 rfl) ?_
            refine lv_bipush (v := 24) hx hb dX2_highest_129 (by decide) ?_
            refine lv_icmp_ge (tgt := 247) hx hb dX2_highest_131 (by decide) (fun c_47 => ?_) (fun c_47 => ?_)
            · refine lv_aload_n hx hb dX2_highest_247 rfl (lv_at hl 8 rfl) ?_
              refine va_get (D := (dC, dI)) (ci := 2) (v := .int 1) (C := RX2) (T := TX2) (N := 13) hx hb hts hin2 hown hK hP 0 rfl rfl 12 (by decide) (hts (.fieldLink RX2 202 "SkyAlmanacModel" "failed" "Z") (by decide +kernel)) (fun _ h9 => h9) rfl dX2_highest_248 ?_
              refine lv_if_eq (tgt := 261) hx hb dX2_highest_251 (by decide) (fun c_48 => absurd c_48 (by decide)) (fun _ => ?_)
              refine lv_aload_n hx hb dX2_highest_254 rfl (lv_at hl 8 rfl) ?_
              refine lv_iconst (v := 3) hx hb dX2_highest_255 (by decide) ?_
              have hPc := hP.sub (ws' := [(am, .inr (2, [.int th, .int (wo + nI (15 + 2 * j + 1)), .int (fu + 1), .ref gs, .ref go, .ref gt, .ref gp, .ref gw, .double la, .double ea, .ref gl, .int ln, .int 1]))]) [0] rfl
              have hDc := hD.sub (ws' := [(am, .inr (2, [.int th, .int (wo + nI (15 + 2 * j + 1)), .int (fu + 1), .ref gs, .ref go, .ref gt, .ref gp, .ref gw, .double la, .double ea, .ref gl, .int ln, .int 1]))]) [0] (by decide) rfl
              have hFc := va_free (wc := [(am, .inr (2, [.int th, .int (wo + nI (15 + 2 * j + 1)), .int (fu + 1), .ref gs, .ref go, .ref gt, .ref gp, .ref gw, .double la, .double ea, .ref gl, .int ln, .int 1]))]) hD hS hA [0] rfl
              refine va_calli (va_runV (As := [.int 3]) (rest := []) ⟨hx, hb, hml, hown, hts⟩ (k_X2_fail l hst dC dI cA tm tt _ am gs go gt gp gw gl th (wo + nI (15 + 2 * j + 1)) (fu + 1) la ea ln 1 3) (cwV 1 hts gX2_highest_X2_fail rfl rfl rfl (by decide +kernel) ⟨Nat.le_of_ble_eq_true rfl, Nat.le_of_ble_eq_true rfl⟩) ⟨PcW.blind, va_recv hK hPc (ci := 2) (q0 := 0) rfl rfl, PcW.give hPc hK hDc hE hS hFc⟩ rfl rfl hl.1 rfl (lv_room (Nat.le_of_ble_eq_true rfl)) dX2_highest_256 ⟨Nat.le_of_ble_eq_true rfl, Nat.le_of_ble_eq_true rfl⟩) hS (fun q _ h => hFc q h) hFc (fun v_49 u t H locs ht hvm hp_50 hB hz1 hk1 hS => ?_)
              obtain ⟨hP1, hD1⟩ := hB
              rw [ht] at hP1
              obtain ⟨hP, hD⟩ := va_join (wr := [(go, aD 16 (cA 1) uf), (gt, aI 4 (cA 0) tf), (gp, aI 48 (cA 0) pf), (gw, aD 144 (cA 1) wf)]) (w1 := [(am, .inr (2, [.int 3, .int (wo + nI (15 + 2 * j + 1)), .int (fu + 1), .ref gs, .ref go, .ref gt, .ref gp, .ref gw, .double la, .double ea, .ref gl, .int ln, .int 1]))]) hP hD [0] [1, 2, 3, 4] rfl rfl (by decide) (by decide) hk1 hFc hP1 hD1
              have hP := hP.sub (ws' := [(am, .inr (2, [.int 3, .int (wo + nI (15 + 2 * j + 1)), .int (fu + 1), .ref gs, .ref go, .ref gt, .ref gp, .ref gw, .double la, .double ea, .ref gl, .int ln, .int 1])), (go, aD 16 (cA 1) uf), (gt, aI 4 (cA 0) tf), (gp, aI 48 (cA 0) pf), (gw, aD 144 (cA 1) wf)]) [4, 0, 1, 2, 3] rfl
              have hD := hD.sub (ws' := [(am, .inr (2, [.int 3, .int (wo + nI (15 + 2 * j + 1)), .int (fu + 1), .ref gs, .ref go, .ref gt, .ref gp, .ref gw, .double la, .double ea, .ref gl, .int ln, .int 1])), (go, aD 16 (cA 1) uf), (gt, aI 4 (cA 0) tf), (gp, aI 48 (cA 0) pf), (gw, aD 144 (cA 1) wf)]) [4, 0, 1, 2, 3] (by decide) rfl
              obtain rfl := hp_50
              refine lv_i2d hx hb dX2_highest_259 ?_
              have hP : va_P (dC, dI) vwCl [(am, .inr (2, [.int (cdE (HIGH (HEI la ea oL oN oE oW k pw fa sa va) dd).2), .int (wo + nI (HIGH (HEI la ea oL oN oE oW k pw fa sa va) dd).1), .int (fu + cFL (HIGH (HEI la ea oL oN oE oW k pw fa sa va) dd).2), .ref gs, .ref go, .ref gt, .ref gp, .ref gw, .double la, .double ea, .ref gl, .int ln, .int (cFL (HIGH (HEI la ea oL oN oE oW k pw fa sa va) dd).2)])), (go, aD 16 (cA 1) uf), (gt, aI 4 (cA 0) tf), (gp, aI 48 (cA 0) pf), (gw, aD 144 (cA 1) wf)] H := by rw [e8]; simp only; rw [show cdE (.error xIS : Except String UInt64) = 3 from rfl, cFL_IS]; exact hP
              have hD : va_D A [(am, .inr (2, [.int (cdE (HIGH (HEI la ea oL oN oE oW k pw fa sa va) dd).2), .int (wo + nI (HIGH (HEI la ea oL oN oE oW k pw fa sa va) dd).1), .int (fu + cFL (HIGH (HEI la ea oL oN oE oW k pw fa sa va) dd).2), .ref gs, .ref go, .ref gt, .ref gp, .ref gw, .double la, .double ea, .ref gl, .int ln, .int (cFL (HIGH (HEI la ea oL oN oE oW k pw fa sa va) dd).2)])), (go, aD 16 (cA 1) uf), (gt, aI 4 (cA 0) tf), (gp, aI 48 (cA 0) pf), (gw, aD 144 (cA 1) wf)] := by rw [e8]; simp only; rw [show cdE (.error xIS : Except String UInt64) = 3 from rfl, cFL_IS]; exact hD
              subst hQQ
              exact W.dret hx hb hr (fun t ht hW => ⟨⟨_, (), rfl, (fun v hv => by rw [e8] at hv; cases hv), ⟨by rw [ht]; exact hP, hD⟩⟩, hS.F ht⟩) hS.2.2 dX2_highest_260
            · refine lv_aload_n hx hb dX2_highest_134 rfl (lv_at hl 8 rfl) ?_
              refine va_get (D := (dC, dI)) (ci := 2) (v := .int 1) (C := RX2) (T := TX2) (N := 13) hx hb hts hin2 hown hK hP 0 rfl rfl 12 (by decide) (hts (.fieldLink RX2 202 "SkyAlmanacModel" "failed" "Z") (by decide +kernel)) (fun _ h9 => h9) rfl dX2_highest_135 ?_
              refine lv_if_ne (tgt := 247) hx hb dX2_highest_138 (by decide) (fun _ => ?_) (fun c_51 => absurd c_51 (by decide))
              refine lv_aload_n hx hb dX2_highest_247 rfl (lv_at hl 8 rfl) ?_
              refine va_get (D := (dC, dI)) (ci := 2) (v := .int 1) (C := RX2) (T := TX2) (N := 13) hx hb hts hin2 hown hK hP 0 rfl rfl 12 (by decide) (hts (.fieldLink RX2 202 "SkyAlmanacModel" "failed" "Z") (by decide +kernel)) (fun _ h9 => h9) rfl dX2_highest_248 ?_
              refine lv_if_eq (tgt := 261) hx hb dX2_highest_251 (by decide) (fun c_52 => absurd c_52 (by decide)) (fun _ => ?_)
              refine lv_aload_n hx hb dX2_highest_254 rfl (lv_at hl 8 rfl) ?_
              refine lv_iconst (v := 3) hx hb dX2_highest_255 (by decide) ?_
              have hPc := hP.sub (ws' := [(am, .inr (2, [.int th, .int (wo + nI (15 + 2 * j + 1)), .int (fu + 1), .ref gs, .ref go, .ref gt, .ref gp, .ref gw, .double la, .double ea, .ref gl, .int ln, .int 1]))]) [0] rfl
              have hDc := hD.sub (ws' := [(am, .inr (2, [.int th, .int (wo + nI (15 + 2 * j + 1)), .int (fu + 1), .ref gs, .ref go, .ref gt, .ref gp, .ref gw, .double la, .double ea, .ref gl, .int ln, .int 1]))]) [0] (by decide) rfl
              have hFc := va_free (wc := [(am, .inr (2, [.int th, .int (wo + nI (15 + 2 * j + 1)), .int (fu + 1), .ref gs, .ref go, .ref gt, .ref gp, .ref gw, .double la, .double ea, .ref gl, .int ln, .int 1]))]) hD hS hA [0] rfl
              refine va_calli (va_runV (As := [.int 3]) (rest := []) ⟨hx, hb, hml, hown, hts⟩ (k_X2_fail l hst dC dI cA tm tt _ am gs go gt gp gw gl th (wo + nI (15 + 2 * j + 1)) (fu + 1) la ea ln 1 3) (cwV 1 hts gX2_highest_X2_fail rfl rfl rfl (by decide +kernel) ⟨Nat.le_of_ble_eq_true rfl, Nat.le_of_ble_eq_true rfl⟩) ⟨PcW.blind, va_recv hK hPc (ci := 2) (q0 := 0) rfl rfl, PcW.give hPc hK hDc hE hS hFc⟩ rfl rfl hl.1 rfl (lv_room (Nat.le_of_ble_eq_true rfl)) dX2_highest_256 ⟨Nat.le_of_ble_eq_true rfl, Nat.le_of_ble_eq_true rfl⟩) hS (fun q _ h => hFc q h) hFc (fun v_53 u t H locs ht hvm hp_54 hB hz1 hk1 hS => ?_)
              obtain ⟨hP1, hD1⟩ := hB
              rw [ht] at hP1
              obtain ⟨hP, hD⟩ := va_join (wr := [(go, aD 16 (cA 1) uf), (gt, aI 4 (cA 0) tf), (gp, aI 48 (cA 0) pf), (gw, aD 144 (cA 1) wf)]) (w1 := [(am, .inr (2, [.int 3, .int (wo + nI (15 + 2 * j + 1)), .int (fu + 1), .ref gs, .ref go, .ref gt, .ref gp, .ref gw, .double la, .double ea, .ref gl, .int ln, .int 1]))]) hP hD [0] [1, 2, 3, 4] rfl rfl (by decide) (by decide) hk1 hFc hP1 hD1
              have hP := hP.sub (ws' := [(am, .inr (2, [.int 3, .int (wo + nI (15 + 2 * j + 1)), .int (fu + 1), .ref gs, .ref go, .ref gt, .ref gp, .ref gw, .double la, .double ea, .ref gl, .int ln, .int 1])), (go, aD 16 (cA 1) uf), (gt, aI 4 (cA 0) tf), (gp, aI 48 (cA 0) pf), (gw, aD 144 (cA 1) wf)]) [4, 0, 1, 2, 3] rfl
              have hD := hD.sub (ws' := [(am, .inr (2, [.int 3, .int (wo + nI (15 + 2 * j + 1)), .int (fu + 1), .ref gs, .ref go, .ref gt, .ref gp, .ref gw, .double la, .double ea, .ref gl, .int ln, .int 1])), (go, aD 16 (cA 1) uf), (gt, aI 4 (cA 0) tf), (gp, aI 48 (cA 0) pf), (gw, aD 144 (cA 1) wf)]) [4, 0, 1, 2, 3] (by decide) rfl
              obtain rfl := hp_54
              refine lv_i2d hx hb dX2_highest_259 ?_
              have hP : va_P (dC, dI) vwCl [(am, .inr (2, [.int (cdE (HIGH (HEI la ea oL oN oE oW k pw fa sa va) dd).2), .int (wo + nI (HIGH (HEI la ea oL oN oE oW k pw fa sa va) dd).1), .int (fu + cFL (HIGH (HEI la ea oL oN oE oW k pw fa sa va) dd).2), .ref gs, .ref go, .ref gt, .ref gp, .ref gw, .double la, .double ea, .ref gl, .int ln, .int (cFL (HIGH (HEI la ea oL oN oE oW k pw fa sa va) dd).2)])), (go, aD 16 (cA 1) uf), (gt, aI 4 (cA 0) tf), (gp, aI 48 (cA 0) pf), (gw, aD 144 (cA 1) wf)] H := by rw [e8]; simp only; rw [show cdE (.error xIS : Except String UInt64) = 3 from rfl, cFL_IS]; exact hP
              have hD : va_D A [(am, .inr (2, [.int (cdE (HIGH (HEI la ea oL oN oE oW k pw fa sa va) dd).2), .int (wo + nI (HIGH (HEI la ea oL oN oE oW k pw fa sa va) dd).1), .int (fu + cFL (HIGH (HEI la ea oL oN oE oW k pw fa sa va) dd).2), .ref gs, .ref go, .ref gt, .ref gp, .ref gw, .double la, .double ea, .ref gl, .int ln, .int (cFL (HIGH (HEI la ea oL oN oE oW k pw fa sa va) dd).2)])), (go, aD 16 (cA 1) uf), (gt, aI 4 (cA 0) tf), (gp, aI 48 (cA 0) pf), (gw, aD 144 (cA 1) wf)] := by rw [e8]; simp only; rw [show cdE (.error xIS : Except String UInt64) = 3 from rfl, cFL_IS]; exact hD
              subst hQQ
              exact W.dret hx hb hr (fun t ht hW => ⟨⟨_, (), rfl, (fun v hv => by rw [e8] at hv; cases hv), ⟨by rw [ht]; exact hP, hD⟩⟩, hS.F ht⟩) hS.2.2 dX2_highest_260
  have hloop14 : ∀ (n : Nat) (j : Nat) (bi : Int32) (gv : UInt64), 17 - j ≤ n → j ≤ 16 → 2 ≤ j → (1 ≤ bi.toInt ∧ bi.toInt ≤ 15) → PGR (HEI la ea oL oN oE oW k pw fa sa va) dd = addc (j - 1) (pgL (HEI la ea oL oN oE oW k pw fa sa va) dd (16 - j) bi gv j) → ∀ (H : Heap) (locs : List Loc) (ls : Array Slot), va_P (dC, dI) vwCl [(am, .inr (2, [.int th, .int (wo + nI (j - 1)), .int fu, .ref gs, .ref go, .ref gt, .ref gp, .ref gw, .double la, .double ea, .ref gl, .int ln, .int 0])), (go, aD 16 (cA 1) uf), (gt, aI 4 (cA 0) tf), (gp, aI 48 (cA 0) pf), (gw, aD 144 (cA 1) wf)] H → va_D A [(am, .inr (2, [.int th, .int (wo + nI (j - 1)), .int fu, .ref gs, .ref go, .ref gt, .ref gp, .ref gw, .double la, .double ea, .ref gl, .int ln, .int 0])), (go, aD 16 (cA 1) uf), (gt, aI 4 (cA 0) tf), (gp, aI 48 (cA 0) pf), (gw, aD 144 (cA 1) wf)] → va_S A s.heap H locs → lv_has ls 21 [(0, .ref am), (1, .int x1), (2, .double x2), (4, .int bi), (5, .double gv), (7, .int (nI j))] → W p l e (headSpec wsX2_highest ({ frames := 6, cells := 0, slots := 0, locals := 182 })).room s m ([.ref am, .int x1, .double x2] : List Value).toArray below meth c H locs (0) (0) QQ (F0 m 14 ls []) := by
    intro n
    induction n with
    | zero =>
      intro j bi gv hf hj hj2 hbi hQ
      exact absurd hf (by omega)
    | succ n ih =>
      intro j bi gv hf hj hj2 hbi hQ H locs ls hP hD hS hl
      refine lv_iload hx hb dX2_highest_14 (lv_at hl 5 rfl) ?_
      refine lv_bipush (v := 15) hx hb dX2_highest_16 (by decide) ?_
      refine lv_icmp_gt (tgt := 98) hx hb dX2_highest_18 (by decide) (fun c_55 => ?_) (fun c_55 => ?_)
      · have hj9 : j = 16 := by
          rcases Nat.lt_or_ge j 16 with h9 | h9
          · exact absurd c_55 (nI_le15 (by omega))
          · omega
        have e9 : PGR (HEI la ea oL oN oE oW k pw fa sa va) dd = (15, .ok bi) := by rw [hQ, hj9]; rfl
        have hP : va_P (dC, dI) vwCl [(am, .inr (2, [.int th, .int (wo + nI (15 + 2 * 0)), .int fu, .ref gs, .ref go, .ref gt, .ref gp, .ref gw, .double la, .double ea, .ref gl, .int ln, .int 0])), (go, aD 16 (cA 1) uf), (gt, aI 4 (cA 0) tf), (gp, aI 48 (cA 0) pf), (gw, aD 144 (cA 1) wf)] H := by rw [show 15 + 2 * 0 = j - 1 by omega]; exact hP
        have hD : va_D A [(am, .inr (2, [.int th, .int (wo + nI (15 + 2 * 0)), .int fu, .ref gs, .ref go, .ref gt, .ref gp, .ref gw, .double la, .double ea, .ref gl, .int ln, .int 0])), (go, aD 16 (cA 1) uf), (gt, aI 4 (cA 0) tf), (gp, aI 48 (cA 0) pf), (gw, aD 144 (cA 1) wf)] := by rw [show 15 + 2 * 0 = j - 1 by omega]; exact hD
        refine lv_dload_n hx hb dX2_highest_98 rfl (lv_at hl 2 rfl) ?_
        refine lv_iload hx hb dX2_highest_99 (lv_at hl 3 rfl) ?_
        refine lv_iconst (v := 1) hx hb dX2_highest_101 (by decide) ?_
        refine lv_isub hx hb dX2_highest_102 ?_
        refine lv_i2d hx hb dX2_highest_103 ?_
        refine lv_ldc2d hx hb hown (hts (.constantDouble RX2 239 (4625196817309499392)) (by decide +kernel)) dX2_highest_104 ?_
        have r_56 : fR 4625196817309499392 17179869184 17179869184 := fR_lit (by decide +kernel)
        have r_57 := fR_div (i2d_R (bi - 1)) r_56 (by decide) (-144115188075855872) 144115188075855872 (by decide) (by decide) rfl rfl
        refine lv_ddiv hx hb dX2_highest_107 (fR_nn r_57) ?_
        have r_58 := fR_add hx2R r_57 (-2449958197289549824) 2449958197289549824 (by decide) (by decide) rfl rfl
        refine lv_dadd hx hb dX2_highest_108 (fR_nn r_58) ?_
        rw [show FP.dadd x2 (FP.ddiv (FP.i2d (bi - 1)) 4625196817309499392) = TOP dd (bi - 1) from by rw [hx2]; rfl]
        refine lv_dstore (lv' := [(7, .double (TOP dd (bi - 1))), (0, .ref am), (1, .int x1), (2, .double x2), (4, .int bi), (5, .double gv)]) hx hb dX2_highest_109 hl (by decide) rfl (fun ls hl => ?_)
        refine lv_dload_n hx hb dX2_highest_111 rfl (lv_at hl 3 rfl) ?_
        refine lv_iload hx hb dX2_highest_112 (lv_at hl 4 rfl) ?_
        refine lv_iconst (v := 1) hx hb dX2_highest_114 (by decide) ?_
        refine lv_iadd hx hb dX2_highest_115 ?_
        refine lv_i2d hx hb dX2_highest_116 ?_
        refine lv_ldc2d hx hb hown (hts (.constantDouble RX2 239 (4625196817309499392)) (by decide +kernel)) dX2_highest_117 ?_
        have r_59 : fR 4625196817309499392 17179869184 17179869184 := fR_lit (by decide +kernel)
        have r_60 := fR_div (i2d_R (bi + 1)) r_59 (by decide) (-144115188075855872) 144115188075855872 (by decide) (by decide) rfl rfl
        refine lv_ddiv hx hb dX2_highest_120 (fR_nn r_60) ?_
        have r_61 := fR_add hx2R r_60 (-2449958197289549824) 2449958197289549824 (by decide) (by decide) rfl rfl
        refine lv_dadd hx hb dX2_highest_121 (fR_nn r_61) ?_
        rw [show FP.dadd x2 (FP.ddiv (FP.i2d (bi + 1)) 4625196817309499392) = TOP dd (bi + 1) from by rw [hx2]; rfl]
        refine lv_dstore (lv' := [(9, .double (TOP dd (bi + 1))), (7, .double (TOP dd (bi - 1))), (0, .ref am), (1, .int x1), (2, .double x2), (4, .int bi), (5, .double gv)]) hx hb dX2_highest_122 hl (by decide) rfl (fun ls hl => ?_)
        refine lv_iconst (v := 0) hx hb dX2_highest_124 (by decide) ?_
        refine lv_istore (lv' := [(11, .int (nI 0)), (9, .double (TOP dd (bi + 1))), (7, .double (TOP dd (bi - 1))), (0, .ref am), (1, .int x1), (2, .double x2), (4, .int bi), (5, .double gv)]) hx hb dX2_highest_125 hl (by decide) rfl (fun ls hl => ?_)
        exact hloop127 25 0 _ _ (by decide) (by decide) (fR_mono (top_R hd (p_1 ⟨hbi.1, by omega⟩)) (by rw [wd_0]; omega) (by rw [wd_0]; omega)) (fR_mono (top_R hd (p_3 hbi)) (by rw [wd_0]; omega) (by rw [wd_0]; omega)) (by rw [HIGH_o e9]; rfl) _ _ _ hP hD hS (lv_sub hl [3, 4, 2, 1, 0] rfl)
      · have hj6 := nI_gt_ (b := 15) (n := 15) rfl (by omega) c_55
        refine lv_aload_n hx hb dX2_highest_21 rfl (lv_at hl 0 rfl) ?_
        refine va_get (D := (dC, dI)) (ci := 2) (v := .int 0) (C := RX2) (T := TX2) (N := 13) hx hb hts hin2 hown hK hP 0 rfl rfl 12 (by decide) (hts (.fieldLink RX2 202 "SkyAlmanacModel" "failed" "Z") (by decide +kernel)) (fun _ h9 => h9) rfl dX2_highest_22 ?_
        refine lv_if_ne (tgt := 98) hx hb dX2_highest_25 (by decide) (fun c_62 => absurd c_62 (by decide)) (fun _ => ?_)
        refine lv_aload_n hx hb dX2_highest_28 rfl (lv_at hl 0 rfl) ?_
        refine lv_iload_n hx hb dX2_highest_29 rfl (lv_at hl 1 rfl) ?_
        refine lv_dload_n hx hb dX2_highest_30 rfl (lv_at hl 2 rfl) ?_
        refine lv_iload hx hb dX2_highest_31 (lv_at hl 5 rfl) ?_
        refine lv_i2d hx hb dX2_highest_33 ?_
        refine lv_ldc2d hx hb hown (hts (.constantDouble RX2 239 (4625196817309499392)) (by decide +kernel)) dX2_highest_34 ?_
        have r_63 : fR 4625196817309499392 17179869184 17179869184 := fR_lit (by decide +kernel)
        have r_64 := fR_div (i2d_R (nI j)) r_63 (by decide) (-144115188075855872) 144115188075855872 (by decide) (by decide) rfl rfl
        refine lv_ddiv hx hb dX2_highest_37 (fR_nn r_64) ?_
        have r_65 := fR_add hx2R r_64 (-2449958197289549824) 2449958197289549824 (by decide) (by decide) rfl rfl
        refine lv_dadd hx hb dX2_highest_38 (fR_nn r_65) ?_
        rw [show FP.dadd x2 (FP.ddiv (FP.i2d (nI j)) 4625196817309499392) = TOP dd (nI j) from by rw [hx2]; rfl]
        have hPc := hP.sub (ws' := [(am, .inr (2, [.int th, .int (wo + nI (j - 1)), .int fu, .ref gs, .ref go, .ref gt, .ref gp, .ref gw, .double la, .double ea, .ref gl, .int ln, .int 0])), (go, aD 16 (cA 1) uf), (gt, aI 4 (cA 0) tf), (gp, aI 48 (cA 0) pf), (gw, aD 144 (cA 1) wf)]) [0, 1, 2, 3, 4] rfl
        have hDc := hD.sub (ws' := [(am, .inr (2, [.int th, .int (wo + nI (j - 1)), .int fu, .ref gs, .ref go, .ref gt, .ref gp, .ref gw, .double la, .double ea, .ref gl, .int ln, .int 0])), (go, aD 16 (cA 1) uf), (gt, aI 4 (cA 0) tf), (gp, aI 48 (cA 0) pf), (gw, aD 144 (cA 1) wf)]) [0, 1, 2, 3, 4] (by decide) rfl
        have hFc := va_free (wc := [(am, .inr (2, [.int th, .int (wo + nI (j - 1)), .int fu, .ref gs, .ref go, .ref gt, .ref gp, .ref gw, .double la, .double ea, .ref gl, .int ln, .int 0])), (go, aD 16 (cA 1) uf), (gt, aI 4 (cA 0) tf), (gp, aI 48 (cA 0) pf), (gw, aD 144 (cA 1) wf)]) hD hS hA [0, 1, 2, 3, 4] rfl
        refine va_calld (va_runV (As := [.int x1, .double (TOP dd (nI j))]) (rest := []) ⟨hx, hb, hml, hown, hts⟩ (k_X2_above l hst dC dI cA tm tt _ am gs go gt gp gw gl th (wo + nI (j - 1)) fu la ea ln 0 uf tf pf wf oL oN oE oW k pw fa sa va x1 (TOP dd (nI j)) hb1 hb2 hR hO hT (fR_mono (top_R hd (nI_b (show j ≤ 16 by omega))) (by omega) (by omega)) hla hea) (cwV 2 hts gX2_highest_X2_above rfl rfl rfl (by decide +kernel) ⟨Nat.le_of_ble_eq_true rfl, Nat.le_of_ble_eq_true rfl⟩) ⟨PcW.blind, va_recv hK hPc (ci := 2) (q0 := 0) rfl rfl, PcW.give hPc hK hDc hE hS hFc⟩ rfl rfl hl.1 rfl (lv_room (Nat.le_of_ble_eq_true rfl)) dX2_highest_39 ⟨Nat.le_of_ble_eq_true rfl, Nat.le_of_ble_eq_true rfl⟩) hS (fun q _ h => hFc q h) hFc (fun v_66 u t H locs ht hvm hp_67 hB hz1 hk1 hS => ?_)
        obtain ⟨hP1, hD1⟩ := hB
        rw [ht] at hP1
        obtain ⟨hP, hD⟩ := va_join (wr := []) (w1 := [(am, .inr (2, [.int th, .int ((wo + nI (j - 1)) + 1), .int (fu + cFL (LON oL oN oE oW k pw fa sa va (TOP dd (nI j)))), .ref gs, .ref go, .ref gt, .ref gp, .ref gw, .double la, .double ea, .ref gl, .int ln, .int (cFD (LON oL oN oE oW k pw fa sa va (TOP dd (nI j))))])), (go, aD 16 (cA 1) uf), (gt, aI 4 (cA 0) tf), (gp, aI 48 (cA 0) pf), (gw, aD 144 (cA 1) wf)]) hP hD [0, 1, 2, 3, 4] [] rfl rfl (by decide) (by decide) hk1 hFc hP1 hD1
        have hP := hP.sub (ws' := [(am, .inr (2, [.int th, .int ((wo + nI (j - 1)) + 1), .int (fu + cFL (LON oL oN oE oW k pw fa sa va (TOP dd (nI j)))), .ref gs, .ref go, .ref gt, .ref gp, .ref gw, .double la, .double ea, .ref gl, .int ln, .int (cFD (LON oL oN oE oW k pw fa sa va (TOP dd (nI j))))])), (go, aD 16 (cA 1) uf), (gt, aI 4 (cA 0) tf), (gp, aI 48 (cA 0) pf), (gw, aD 144 (cA 1) wf)]) [0, 1, 2, 3, 4] rfl
        have hD := hD.sub (ws' := [(am, .inr (2, [.int th, .int ((wo + nI (j - 1)) + 1), .int (fu + cFL (LON oL oN oE oW k pw fa sa va (TOP dd (nI j)))), .ref gs, .ref go, .ref gt, .ref gp, .ref gw, .double la, .double ea, .ref gl, .int ln, .int (cFD (LON oL oN oE oW k pw fa sa va (TOP dd (nI j))))])), (go, aD 16 (cA 1) uf), (gt, aI 4 (cA 0) tf), (gp, aI 48 (cA 0) pf), (gw, aD 144 (cA 1) wf)]) [0, 1, 2, 3, 4] (by decide) rfl
        refine lv_dstore (lv' := [(8, .double v_66), (0, .ref am), (1, .int x1), (2, .double x2), (4, .int bi), (5, .double gv), (7, .int (nI j))]) hx hb dX2_highest_42 hl (by decide) rfl (fun ls hl => ?_)
        refine lv_iload hx hb dX2_highest_44 (lv_at hl 4 rfl) ?_
        refine lv_if_eq (tgt := 57) hx hb dX2_highest_46 (by decide) (fun c_68 => absurd c_68 (bi_ne hbi)) (fun _ => ?_)
        refine lv_dload hx hb dX2_highest_49 (lv_at hl 0 rfl) ?_
        refine lv_dload hx hb dX2_highest_51 (lv_at hl 5 rfl) ?_
        refine zd_l_le (tgt := 61) hx hb dX2_highest_53 dX2_highest_54 (by decide) (fun c_69 => ?_) (fun c_69 => ?_)
        · refine lv_iconst (v := 0) hx hb dX2_highest_61 (by decide) ?_
          refine lv_istore (lv' := [(10, .int 0), (8, .double v_66), (0, .ref am), (1, .int x1), (2, .double x2), (4, .int bi), (5, .double gv), (7, .int (nI j))]) hx hb dX2_highest_62 hl (by decide) rfl (fun ls hl => ?_)
          refine lv_iload hx hb dX2_highest_64 (lv_at hl 0 rfl) ?_
          refine lv_if_eq (tgt := 74) hx hb dX2_highest_66 (by decide) (fun _ => ?_) (fun c_70 => absurd c_70 (by decide))
          refine lv_iload hx hb dX2_highest_74 (lv_at hl 5 rfl) ?_
          refine lv_istore (lv' := [(4, .int bi), (10, .int 0), (8, .double v_66), (0, .ref am), (1, .int x1), (2, .double x2), (5, .double gv), (7, .int (nI j))]) hx hb dX2_highest_76 hl (by decide) rfl (fun ls hl => ?_)
          refine lv_iload hx hb dX2_highest_78 (lv_at hl 1 rfl) ?_
          refine lv_if_eq (tgt := 88) hx hb dX2_highest_80 (by decide) (fun _ => ?_) (fun c_71 => absurd c_71 (by decide))
          refine lv_dload hx hb dX2_highest_88 (lv_at hl 6 rfl) ?_
          refine lv_dstore (lv' := [(5, .double gv), (4, .int bi), (10, .int 0), (8, .double v_66), (0, .ref am), (1, .int x1), (2, .double x2), (7, .int (nI j))]) hx hb dX2_highest_90 hl (by decide) rfl (fun ls hl => ?_)
          refine lv_iinc (v := nI (j + 1)) (lv' := [(7, .int (nI (j + 1))), (5, .double gv), (4, .int bi), (10, .int 0), (8, .double v_66), (0, .ref am), (1, .int x1), (2, .double x2)]) hx hb dX2_highest_92 hl (k := 7) rfl (nI_1 _) (by decide) rfl (fun ls hl => ?_)
          refine lv_goto (tgt := 14) hx hb dX2_highest_95 (by decide) ?_
          by_cases hc1 : cFD (LON oL oN oE oW k pw fa sa va (TOP dd (nI j))) = 0
          · obtain ⟨hq, hcf⟩ := ab_ok hp_67 hc1
            rw [hcf, hc1, i0] at hP hD
            have hP : va_P (dC, dI) vwCl [(am, .inr (2, [.int th, .int (wo + nI (j + 1 - 1)), .int fu, .ref gs, .ref go, .ref gt, .ref gp, .ref gw, .double la, .double ea, .ref gl, .int ln, .int 0])), (go, aD 16 (cA 1) uf), (gt, aI 4 (cA 0) tf), (gp, aI 48 (cA 0) pf), (gw, aD 144 (cA 1) wf)] H := by rw [show j + 1 - 1 = j - 1 + 1 by omega, wk_s]; exact hP
            have hD : va_D A [(am, .inr (2, [.int th, .int (wo + nI (j + 1 - 1)), .int fu, .ref gs, .ref go, .ref gt, .ref gp, .ref gw, .double la, .double ea, .ref gl, .int ln, .int 0])), (go, aD 16 (cA 1) uf), (gt, aI 4 (cA 0) tf), (gp, aI 48 (cA 0) pf), (gw, aD 144 (cA 1) wf)] := by rw [show j + 1 - 1 = j - 1 + 1 by omega, wk_s]; exact hD
            exact ih (j + 1) (bi) (gv) (by omega) (by omega) (by omega) hbi (by rw [hQ, pgL_0 (show j < 16 by omega) hq c_69, addc_addc, show j - 1 + 1 = j + 1 - 1 by omega]) _ _ _ hP hD hS (lv_sub hl [5, 6, 7, 2, 1, 0] rfl)
          · obtain ⟨hq, hcf, hcd⟩ := ab_er la ea hc1
            rw [hcf, hcd] at hP hD
            have e8 := HIGH_e (show PGR (HEI la ea oL oN oE oW k pw fa sa va) dd = (j, .error xIS) by rw [hQ, pgL_e (show j < 16 by omega) hq]; exact Prod.ext (by show j - 1 + 1 = j; omega) rfl)
            have hP : va_P (dC, dI) vwCl [(am, .inr (2, [.int th, .int (wo + nI j), .int (fu + 1), .ref gs, .ref go, .ref gt, .ref gp, .ref gw, .double la, .double ea, .ref gl, .int ln, .int 1])), (go, aD 16 (cA 1) uf), (gt, aI 4 (cA 0) tf), (gp, aI 48 (cA 0) pf), (gw, aD 144 (cA 1) wf)] H := by rw [show j = j - 1 + 1 by omega, wk_s]; exact hP
            have hD : va_D A [(am, .inr (2, [.int th, .int (wo + nI j), .int (fu + 1), .ref gs, .ref go, .ref gt, .ref gp, .ref gw, .double la, .double ea, .ref gl, .int ln, .int 1])), (go, aD 16 (cA 1) uf), (gt, aI 4 (cA 0) tf), (gp, aI 48 (cA 0) pf), (gw, aD 144 (cA 1) wf)] := by rw [show j = j - 1 + 1 by omega, wk_s]; exact hD
            refine lv_iload hx hb dX2_highest_14 (lv_at hl 0 rfl) ?_
            refine lv_bipush (v := 15) hx hb dX2_highest_16 (by decide) ?_
            refine lv_icmp_gt (tgt := 98) hx hb dX2_highest_18 (by decide) (fun c_72 => ?_) (fun c_72 => ?_)
            · refine lv_dload_n hx hb dX2_highest_98 rfl (lv_at hl 7 rfl) ?_
              refine lv_iload hx hb dX2_highest_99 (lv_at hl 2 rfl) ?_
              refine lv_iconst (v := 1) hx hb dX2_highest_101 (by decide) ?_
              refine lv_isub hx hb dX2_highest_102 ?_
              refine lv_i2d hx hb dX2_highest_103 ?_
              refine lv_ldc2d hx hb hown (hts (.constantDouble RX2 239 (4625196817309499392)) (by decide +kernel)) dX2_highest_104 ?_
              have r_73 : fR 4625196817309499392 17179869184 17179869184 := fR_lit (by decide +kernel)
              have r_74 := fR_div (i2d_R (bi - 1)) r_73 (by decide) (-144115188075855872) 144115188075855872 (by decide) (by decide) rfl rfl
              refine lv_ddiv hx hb dX2_highest_107 (fR_nn r_74) ?_
              have r_75 := fR_add hx2R r_74 (-2449958197289549824) 2449958197289549824 (by decide) (by decide) rfl rfl
              refine lv_dadd hx hb dX2_highest_108 (fR_nn r_75) ?_
              refine lv_dstore (lv' := [(7, .double (FP.dadd x2 (FP.ddiv (FP.i2d (bi - 1)) 4625196817309499392))), (5, .double gv), (4, .int bi), (10, .int 0), (0, .ref am), (1, .int x1), (2, .double x2)]) hx hb dX2_highest_109 hl (by decide) rfl (fun ls hl => ?_)
              refine lv_dload_n hx hb dX2_highest_111 rfl (lv_at hl 6 rfl) ?_
              refine lv_iload hx hb dX2_highest_112 (lv_at hl 2 rfl) ?_
              refine lv_iconst (v := 1) hx hb dX2_highest_114 (by decide) ?_
              refine lv_iadd hx hb dX2_highest_115 ?_
              refine lv_i2d hx hb dX2_highest_116 ?_
              refine lv_ldc2d hx hb hown (hts (.constantDouble RX2 239 (4625196817309499392)) (by decide +kernel)) dX2_highest_117 ?_
              have r_76 : fR 4625196817309499392 17179869184 17179869184 := fR_lit (by decide +kernel)
              have r_77 := fR_div (i2d_R (bi + 1)) r_76 (by decide) (-144115188075855872) 144115188075855872 (by decide) (by decide) rfl rfl
              refine lv_ddiv hx hb dX2_highest_120 (fR_nn r_77) ?_
              have r_78 := fR_add hx2R r_77 (-2449958197289549824) 2449958197289549824 (by decide) (by decide) rfl rfl
              refine lv_dadd hx hb dX2_highest_121 (fR_nn r_78) ?_
              refine lv_dstore (lv' := [(9, .double (FP.dadd x2 (FP.ddiv (FP.i2d (bi + 1)) 4625196817309499392))), (7, .double (FP.dadd x2 (FP.ddiv (FP.i2d (bi - 1)) 4625196817309499392))), (5, .double gv), (4, .int bi), (0, .ref am), (1, .int x1), (2, .double x2)]) hx hb dX2_highest_122 hl (by decide) rfl (fun ls hl => ?_)
              refine lv_iconst (v := 0) hx hb dX2_highest_124 (by decide) ?_
              refine lv_istore (lv' := [(11, .int (nI 0)), (9, .double (FP.dadd x2 (FP.ddiv (FP.i2d (bi + 1)) 4625196817309499392))), (7, .double (FP.dadd x2 (FP.ddiv (FP.i2d (bi - 1)) 4625196817309499392))), (5, .double gv), (4, .int bi), (0, .ref am), (1, .int x1), (2, .double x2)]) hx hb dX2_highest_125 hl (by decide) rfl (fun ls hl => ?_)
              refine lv_iload hx hb dX2_highest_127 (lv_at hl 0 rfl) ?_
              refine lv_bipush (v := 24) hx hb dX2_highest_129 (by decide) ?_
              refine lv_icmp_ge (tgt := 247) hx hb dX2_highest_131 (by decide) (fun c_79 => ?_) (fun c_79 => ?_)
              · refine lv_aload_n hx hb dX2_highest_247 rfl (lv_at hl 5 rfl) ?_
                refine va_get (D := (dC, dI)) (ci := 2) (v := .int 1) (C := RX2) (T := TX2) (N := 13) hx hb hts hin2 hown hK hP 0 rfl rfl 12 (by decide) (hts (.fieldLink RX2 202 "SkyAlmanacModel" "failed" "Z") (by decide +kernel)) (fun _ h9 => h9) rfl dX2_highest_248 ?_
                refine lv_if_eq (tgt := 261) hx hb dX2_highest_251 (by decide) (fun c_80 => absurd c_80 (by decide)) (fun _ => ?_)
                refine lv_aload_n hx hb dX2_highest_254 rfl (lv_at hl 5 rfl) ?_
                refine lv_iconst (v := 3) hx hb dX2_highest_255 (by decide) ?_
                have hPc := hP.sub (ws' := [(am, .inr (2, [.int th, .int (wo + nI j), .int (fu + 1), .ref gs, .ref go, .ref gt, .ref gp, .ref gw, .double la, .double ea, .ref gl, .int ln, .int 1]))]) [0] rfl
                have hDc := hD.sub (ws' := [(am, .inr (2, [.int th, .int (wo + nI j), .int (fu + 1), .ref gs, .ref go, .ref gt, .ref gp, .ref gw, .double la, .double ea, .ref gl, .int ln, .int 1]))]) [0] (by decide) rfl
                have hFc := va_free (wc := [(am, .inr (2, [.int th, .int (wo + nI j), .int (fu + 1), .ref gs, .ref go, .ref gt, .ref gp, .ref gw, .double la, .double ea, .ref gl, .int ln, .int 1]))]) hD hS hA [0] rfl
                refine va_calli (va_runV (As := [.int 3]) (rest := []) ⟨hx, hb, hml, hown, hts⟩ (k_X2_fail l hst dC dI cA tm tt _ am gs go gt gp gw gl th (wo + nI j) (fu + 1) la ea ln 1 3) (cwV 1 hts gX2_highest_X2_fail rfl rfl rfl (by decide +kernel) ⟨Nat.le_of_ble_eq_true rfl, Nat.le_of_ble_eq_true rfl⟩) ⟨PcW.blind, va_recv hK hPc (ci := 2) (q0 := 0) rfl rfl, PcW.give hPc hK hDc hE hS hFc⟩ rfl rfl hl.1 rfl (lv_room (Nat.le_of_ble_eq_true rfl)) dX2_highest_256 ⟨Nat.le_of_ble_eq_true rfl, Nat.le_of_ble_eq_true rfl⟩) hS (fun q _ h => hFc q h) hFc (fun v_81 u t H locs ht hvm hp_82 hB hz1 hk1 hS => ?_)
                obtain ⟨hP1, hD1⟩ := hB
                rw [ht] at hP1
                obtain ⟨hP, hD⟩ := va_join (wr := [(go, aD 16 (cA 1) uf), (gt, aI 4 (cA 0) tf), (gp, aI 48 (cA 0) pf), (gw, aD 144 (cA 1) wf)]) (w1 := [(am, .inr (2, [.int 3, .int (wo + nI j), .int (fu + 1), .ref gs, .ref go, .ref gt, .ref gp, .ref gw, .double la, .double ea, .ref gl, .int ln, .int 1]))]) hP hD [0] [1, 2, 3, 4] rfl rfl (by decide) (by decide) hk1 hFc hP1 hD1
                have hP := hP.sub (ws' := [(am, .inr (2, [.int 3, .int (wo + nI j), .int (fu + 1), .ref gs, .ref go, .ref gt, .ref gp, .ref gw, .double la, .double ea, .ref gl, .int ln, .int 1])), (go, aD 16 (cA 1) uf), (gt, aI 4 (cA 0) tf), (gp, aI 48 (cA 0) pf), (gw, aD 144 (cA 1) wf)]) [4, 0, 1, 2, 3] rfl
                have hD := hD.sub (ws' := [(am, .inr (2, [.int 3, .int (wo + nI j), .int (fu + 1), .ref gs, .ref go, .ref gt, .ref gp, .ref gw, .double la, .double ea, .ref gl, .int ln, .int 1])), (go, aD 16 (cA 1) uf), (gt, aI 4 (cA 0) tf), (gp, aI 48 (cA 0) pf), (gw, aD 144 (cA 1) wf)]) [4, 0, 1, 2, 3] (by decide) rfl
                obtain rfl := hp_82
                refine lv_i2d hx hb dX2_highest_259 ?_
                have hP : va_P (dC, dI) vwCl [(am, .inr (2, [.int (cdE (HIGH (HEI la ea oL oN oE oW k pw fa sa va) dd).2), .int (wo + nI (HIGH (HEI la ea oL oN oE oW k pw fa sa va) dd).1), .int (fu + cFL (HIGH (HEI la ea oL oN oE oW k pw fa sa va) dd).2), .ref gs, .ref go, .ref gt, .ref gp, .ref gw, .double la, .double ea, .ref gl, .int ln, .int (cFL (HIGH (HEI la ea oL oN oE oW k pw fa sa va) dd).2)])), (go, aD 16 (cA 1) uf), (gt, aI 4 (cA 0) tf), (gp, aI 48 (cA 0) pf), (gw, aD 144 (cA 1) wf)] H := by rw [e8]; simp only; rw [show cdE (.error xIS : Except String UInt64) = 3 from rfl, cFL_IS]; exact hP
                have hD : va_D A [(am, .inr (2, [.int (cdE (HIGH (HEI la ea oL oN oE oW k pw fa sa va) dd).2), .int (wo + nI (HIGH (HEI la ea oL oN oE oW k pw fa sa va) dd).1), .int (fu + cFL (HIGH (HEI la ea oL oN oE oW k pw fa sa va) dd).2), .ref gs, .ref go, .ref gt, .ref gp, .ref gw, .double la, .double ea, .ref gl, .int ln, .int (cFL (HIGH (HEI la ea oL oN oE oW k pw fa sa va) dd).2)])), (go, aD 16 (cA 1) uf), (gt, aI 4 (cA 0) tf), (gp, aI 48 (cA 0) pf), (gw, aD 144 (cA 1) wf)] := by rw [e8]; simp only; rw [show cdE (.error xIS : Except String UInt64) = 3 from rfl, cFL_IS]; exact hD
                subst hQQ
                exact W.dret hx hb hr (fun t ht hW => ⟨⟨_, (), rfl, (fun v hv => by rw [e8] at hv; cases hv), ⟨by rw [ht]; exact hP, hD⟩⟩, hS.F ht⟩) hS.2.2 dX2_highest_260
              · refine lv_aload_n hx hb dX2_highest_134 rfl (lv_at hl 5 rfl) ?_
                refine va_get (D := (dC, dI)) (ci := 2) (v := .int 1) (C := RX2) (T := TX2) (N := 13) hx hb hts hin2 hown hK hP 0 rfl rfl 12 (by decide) (hts (.fieldLink RX2 202 "SkyAlmanacModel" "failed" "Z") (by decide +kernel)) (fun _ h9 => h9) rfl dX2_highest_135 ?_
                refine lv_if_ne (tgt := 247) hx hb dX2_highest_138 (by decide) (fun _ => ?_) (fun c_83 => absurd c_83 (by decide))
                refine lv_aload_n hx hb dX2_highest_247 rfl (lv_at hl 5 rfl) ?_
                refine va_get (D := (dC, dI)) (ci := 2) (v := .int 1) (C := RX2) (T := TX2) (N := 13) hx hb hts hin2 hown hK hP 0 rfl rfl 12 (by decide) (hts (.fieldLink RX2 202 "SkyAlmanacModel" "failed" "Z") (by decide +kernel)) (fun _ h9 => h9) rfl dX2_highest_248 ?_
                refine lv_if_eq (tgt := 261) hx hb dX2_highest_251 (by decide) (fun c_84 => absurd c_84 (by decide)) (fun _ => ?_)
                refine lv_aload_n hx hb dX2_highest_254 rfl (lv_at hl 5 rfl) ?_
                refine lv_iconst (v := 3) hx hb dX2_highest_255 (by decide) ?_
                have hPc := hP.sub (ws' := [(am, .inr (2, [.int th, .int (wo + nI j), .int (fu + 1), .ref gs, .ref go, .ref gt, .ref gp, .ref gw, .double la, .double ea, .ref gl, .int ln, .int 1]))]) [0] rfl
                have hDc := hD.sub (ws' := [(am, .inr (2, [.int th, .int (wo + nI j), .int (fu + 1), .ref gs, .ref go, .ref gt, .ref gp, .ref gw, .double la, .double ea, .ref gl, .int ln, .int 1]))]) [0] (by decide) rfl
                have hFc := va_free (wc := [(am, .inr (2, [.int th, .int (wo + nI j), .int (fu + 1), .ref gs, .ref go, .ref gt, .ref gp, .ref gw, .double la, .double ea, .ref gl, .int ln, .int 1]))]) hD hS hA [0] rfl
                refine va_calli (va_runV (As := [.int 3]) (rest := []) ⟨hx, hb, hml, hown, hts⟩ (k_X2_fail l hst dC dI cA tm tt _ am gs go gt gp gw gl th (wo + nI j) (fu + 1) la ea ln 1 3) (cwV 1 hts gX2_highest_X2_fail rfl rfl rfl (by decide +kernel) ⟨Nat.le_of_ble_eq_true rfl, Nat.le_of_ble_eq_true rfl⟩) ⟨PcW.blind, va_recv hK hPc (ci := 2) (q0 := 0) rfl rfl, PcW.give hPc hK hDc hE hS hFc⟩ rfl rfl hl.1 rfl (lv_room (Nat.le_of_ble_eq_true rfl)) dX2_highest_256 ⟨Nat.le_of_ble_eq_true rfl, Nat.le_of_ble_eq_true rfl⟩) hS (fun q _ h => hFc q h) hFc (fun v_85 u t H locs ht hvm hp_86 hB hz1 hk1 hS => ?_)
                obtain ⟨hP1, hD1⟩ := hB
                rw [ht] at hP1
                obtain ⟨hP, hD⟩ := va_join (wr := [(go, aD 16 (cA 1) uf), (gt, aI 4 (cA 0) tf), (gp, aI 48 (cA 0) pf), (gw, aD 144 (cA 1) wf)]) (w1 := [(am, .inr (2, [.int 3, .int (wo + nI j), .int (fu + 1), .ref gs, .ref go, .ref gt, .ref gp, .ref gw, .double la, .double ea, .ref gl, .int ln, .int 1]))]) hP hD [0] [1, 2, 3, 4] rfl rfl (by decide) (by decide) hk1 hFc hP1 hD1
                have hP := hP.sub (ws' := [(am, .inr (2, [.int 3, .int (wo + nI j), .int (fu + 1), .ref gs, .ref go, .ref gt, .ref gp, .ref gw, .double la, .double ea, .ref gl, .int ln, .int 1])), (go, aD 16 (cA 1) uf), (gt, aI 4 (cA 0) tf), (gp, aI 48 (cA 0) pf), (gw, aD 144 (cA 1) wf)]) [4, 0, 1, 2, 3] rfl
                have hD := hD.sub (ws' := [(am, .inr (2, [.int 3, .int (wo + nI j), .int (fu + 1), .ref gs, .ref go, .ref gt, .ref gp, .ref gw, .double la, .double ea, .ref gl, .int ln, .int 1])), (go, aD 16 (cA 1) uf), (gt, aI 4 (cA 0) tf), (gp, aI 48 (cA 0) pf), (gw, aD 144 (cA 1) wf)]) [4, 0, 1, 2, 3] (by decide) rfl
                obtain rfl := hp_86
                refine lv_i2d hx hb dX2_highest_259 ?_
                have hP : va_P (dC, dI) vwCl [(am, .inr (2, [.int (cdE (HIGH (HEI la ea oL oN oE oW k pw fa sa va) dd).2), .int (wo + nI (HIGH (HEI la ea oL oN oE oW k pw fa sa va) dd).1), .int (fu + cFL (HIGH (HEI la ea oL oN oE oW k pw fa sa va) dd).2), .ref gs, .ref go, .ref gt, .ref gp, .ref gw, .double la, .double ea, .ref gl, .int ln, .int (cFL (HIGH (HEI la ea oL oN oE oW k pw fa sa va) dd).2)])), (go, aD 16 (cA 1) uf), (gt, aI 4 (cA 0) tf), (gp, aI 48 (cA 0) pf), (gw, aD 144 (cA 1) wf)] H := by rw [e8]; simp only; rw [show cdE (.error xIS : Except String UInt64) = 3 from rfl, cFL_IS]; exact hP
                have hD : va_D A [(am, .inr (2, [.int (cdE (HIGH (HEI la ea oL oN oE oW k pw fa sa va) dd).2), .int (wo + nI (HIGH (HEI la ea oL oN oE oW k pw fa sa va) dd).1), .int (fu + cFL (HIGH (HEI la ea oL oN oE oW k pw fa sa va) dd).2), .ref gs, .ref go, .ref gt, .ref gp, .ref gw, .double la, .double ea, .ref gl, .int ln, .int (cFL (HIGH (HEI la ea oL oN oE oW k pw fa sa va) dd).2)])), (go, aD 16 (cA 1) uf), (gt, aI 4 (cA 0) tf), (gp, aI 48 (cA 0) pf), (gw, aD 144 (cA 1) wf)] := by rw [e8]; simp only; rw [show cdE (.error xIS : Except String UInt64) = 3 from rfl, cFL_IS]; exact hD
                subst hQQ
                exact W.dret hx hb hr (fun t ht hW => ⟨⟨_, (), rfl, (fun v hv => by rw [e8] at hv; cases hv), ⟨by rw [ht]; exact hP, hD⟩⟩, hS.F ht⟩) hS.2.2 dX2_highest_260
            · refine lv_aload_n hx hb dX2_highest_21 rfl (lv_at hl 5 rfl) ?_
              refine va_get (D := (dC, dI)) (ci := 2) (v := .int 1) (C := RX2) (T := TX2) (N := 13) hx hb hts hin2 hown hK hP 0 rfl rfl 12 (by decide) (hts (.fieldLink RX2 202 "SkyAlmanacModel" "failed" "Z") (by decide +kernel)) (fun _ h9 => h9) rfl dX2_highest_22 ?_
              refine lv_if_ne (tgt := 98) hx hb dX2_highest_25 (by decide) (fun _ => ?_) (fun c_87 => absurd c_87 (by decide))
              refine lv_dload_n hx hb dX2_highest_98 rfl (lv_at hl 7 rfl) ?_
              refine lv_iload hx hb dX2_highest_99 (lv_at hl 2 rfl) ?_
              refine lv_iconst (v := 1) hx hb dX2_highest_101 (by decide) ?_
              refine lv_isub hx hb dX2_highest_102 ?_
              refine lv_i2d hx hb dX2_highest_103 ?_
              refine lv_ldc2d hx hb hown (hts (.constantDouble RX2 239 (4625196817309499392)) (by decide +kernel)) dX2_highest_104 ?_
              have r_88 : fR 4625196817309499392 17179869184 17179869184 := fR_lit (by decide +kernel)
              have r_89 := fR_div (i2d_R (bi - 1)) r_88 (by decide) (-144115188075855872) 144115188075855872 (by decide) (by decide) rfl rfl
              refine lv_ddiv hx hb dX2_highest_107 (fR_nn r_89) ?_
              have r_90 := fR_add hx2R r_89 (-2449958197289549824) 2449958197289549824 (by decide) (by decide) rfl rfl
              refine lv_dadd hx hb dX2_highest_108 (fR_nn r_90) ?_
              refine lv_dstore (lv' := [(7, .double (FP.dadd x2 (FP.ddiv (FP.i2d (bi - 1)) 4625196817309499392))), (5, .double gv), (4, .int bi), (10, .int 0), (0, .ref am), (1, .int x1), (2, .double x2)]) hx hb dX2_highest_109 hl (by decide) rfl (fun ls hl => ?_)
              refine lv_dload_n hx hb dX2_highest_111 rfl (lv_at hl 6 rfl) ?_
              refine lv_iload hx hb dX2_highest_112 (lv_at hl 2 rfl) ?_
              refine lv_iconst (v := 1) hx hb dX2_highest_114 (by decide) ?_
              refine lv_iadd hx hb dX2_highest_115 ?_
              refine lv_i2d hx hb dX2_highest_116 ?_
              refine lv_ldc2d hx hb hown (hts (.constantDouble RX2 239 (4625196817309499392)) (by decide +kernel)) dX2_highest_117 ?_
              have r_91 : fR 4625196817309499392 17179869184 17179869184 := fR_lit (by decide +kernel)
              have r_92 := fR_div (i2d_R (bi + 1)) r_91 (by decide) (-144115188075855872) 144115188075855872 (by decide) (by decide) rfl rfl
              refine lv_ddiv hx hb dX2_highest_120 (fR_nn r_92) ?_
              have r_93 := fR_add hx2R r_92 (-2449958197289549824) 2449958197289549824 (by decide) (by decide) rfl rfl
              refine lv_dadd hx hb dX2_highest_121 (fR_nn r_93) ?_
              refine lv_dstore (lv' := [(9, .double (FP.dadd x2 (FP.ddiv (FP.i2d (bi + 1)) 4625196817309499392))), (7, .double (FP.dadd x2 (FP.ddiv (FP.i2d (bi - 1)) 4625196817309499392))), (5, .double gv), (4, .int bi), (0, .ref am), (1, .int x1), (2, .double x2)]) hx hb dX2_highest_122 hl (by decide) rfl (fun ls hl => ?_)
              refine lv_iconst (v := 0) hx hb dX2_highest_124 (by decide) ?_
              refine lv_istore (lv' := [(11, .int (nI 0)), (9, .double (FP.dadd x2 (FP.ddiv (FP.i2d (bi + 1)) 4625196817309499392))), (7, .double (FP.dadd x2 (FP.ddiv (FP.i2d (bi - 1)) 4625196817309499392))), (5, .double gv), (4, .int bi), (0, .ref am), (1, .int x1), (2, .double x2)]) hx hb dX2_highest_125 hl (by decide) rfl (fun ls hl => ?_)
              refine lv_iload hx hb dX2_highest_127 (lv_at hl 0 rfl) ?_
              refine lv_bipush (v := 24) hx hb dX2_highest_129 (by decide) ?_
              refine lv_icmp_ge (tgt := 247) hx hb dX2_highest_131 (by decide) (fun c_94 => ?_) (fun c_94 => ?_)
              · refine lv_aload_n hx hb dX2_highest_247 rfl (lv_at hl 5 rfl) ?_
                refine va_get (D := (dC, dI)) (ci := 2) (v := .int 1) (C := RX2) (T := TX2) (N := 13) hx hb hts hin2 hown hK hP 0 rfl rfl 12 (by decide) (hts (.fieldLink RX2 202 "SkyAlmanacModel" "failed" "Z") (by decide +kernel)) (fun _ h9 => h9) rfl dX2_highest_248 ?_
                refine lv_if_eq (tgt := 261) hx hb dX2_highest_251 (by decide) (fun c_95 => absurd c_95 (by decide)) (fun _ => ?_)
                refine lv_aload_n hx hb dX2_highest_254 rfl (lv_at hl 5 rfl) ?_
                refine lv_iconst (v := 3) hx hb dX2_highest_255 (by decide) ?_
                have hPc := hP.sub (ws' := [(am, .inr (2, [.int th, .int (wo + nI j), .int (fu + 1), .ref gs, .ref go, .ref gt, .ref gp, .ref gw, .double la, .double ea, .ref gl, .int ln, .int 1]))]) [0] rfl
                have hDc := hD.sub (ws' := [(am, .inr (2, [.int th, .int (wo + nI j), .int (fu + 1), .ref gs, .ref go, .ref gt, .ref gp, .ref gw, .double la, .double ea, .ref gl, .int ln, .int 1]))]) [0] (by decide) rfl
                have hFc := va_free (wc := [(am, .inr (2, [.int th, .int (wo + nI j), .int (fu + 1), .ref gs, .ref go, .ref gt, .ref gp, .ref gw, .double la, .double ea, .ref gl, .int ln, .int 1]))]) hD hS hA [0] rfl
                refine va_calli (va_runV (As := [.int 3]) (rest := []) ⟨hx, hb, hml, hown, hts⟩ (k_X2_fail l hst dC dI cA tm tt _ am gs go gt gp gw gl th (wo + nI j) (fu + 1) la ea ln 1 3) (cwV 1 hts gX2_highest_X2_fail rfl rfl rfl (by decide +kernel) ⟨Nat.le_of_ble_eq_true rfl, Nat.le_of_ble_eq_true rfl⟩) ⟨PcW.blind, va_recv hK hPc (ci := 2) (q0 := 0) rfl rfl, PcW.give hPc hK hDc hE hS hFc⟩ rfl rfl hl.1 rfl (lv_room (Nat.le_of_ble_eq_true rfl)) dX2_highest_256 ⟨Nat.le_of_ble_eq_true rfl, Nat.le_of_ble_eq_true rfl⟩) hS (fun q _ h => hFc q h) hFc (fun v_96 u t H locs ht hvm hp_97 hB hz1 hk1 hS => ?_)
                obtain ⟨hP1, hD1⟩ := hB
                rw [ht] at hP1
                obtain ⟨hP, hD⟩ := va_join (wr := [(go, aD 16 (cA 1) uf), (gt, aI 4 (cA 0) tf), (gp, aI 48 (cA 0) pf), (gw, aD 144 (cA 1) wf)]) (w1 := [(am, .inr (2, [.int 3, .int (wo + nI j), .int (fu + 1), .ref gs, .ref go, .ref gt, .ref gp, .ref gw, .double la, .double ea, .ref gl, .int ln, .int 1]))]) hP hD [0] [1, 2, 3, 4] rfl rfl (by decide) (by decide) hk1 hFc hP1 hD1
                have hP := hP.sub (ws' := [(am, .inr (2, [.int 3, .int (wo + nI j), .int (fu + 1), .ref gs, .ref go, .ref gt, .ref gp, .ref gw, .double la, .double ea, .ref gl, .int ln, .int 1])), (go, aD 16 (cA 1) uf), (gt, aI 4 (cA 0) tf), (gp, aI 48 (cA 0) pf), (gw, aD 144 (cA 1) wf)]) [4, 0, 1, 2, 3] rfl
                have hD := hD.sub (ws' := [(am, .inr (2, [.int 3, .int (wo + nI j), .int (fu + 1), .ref gs, .ref go, .ref gt, .ref gp, .ref gw, .double la, .double ea, .ref gl, .int ln, .int 1])), (go, aD 16 (cA 1) uf), (gt, aI 4 (cA 0) tf), (gp, aI 48 (cA 0) pf), (gw, aD 144 (cA 1) wf)]) [4, 0, 1, 2, 3] (by decide) rfl
                obtain rfl := hp_97
                refine lv_i2d hx hb dX2_highest_259 ?_
                have hP : va_P (dC, dI) vwCl [(am, .inr (2, [.int (cdE (HIGH (HEI la ea oL oN oE oW k pw fa sa va) dd).2), .int (wo + nI (HIGH (HEI la ea oL oN oE oW k pw fa sa va) dd).1), .int (fu + cFL (HIGH (HEI la ea oL oN oE oW k pw fa sa va) dd).2), .ref gs, .ref go, .ref gt, .ref gp, .ref gw, .double la, .double ea, .ref gl, .int ln, .int (cFL (HIGH (HEI la ea oL oN oE oW k pw fa sa va) dd).2)])), (go, aD 16 (cA 1) uf), (gt, aI 4 (cA 0) tf), (gp, aI 48 (cA 0) pf), (gw, aD 144 (cA 1) wf)] H := by rw [e8]; simp only; rw [show cdE (.error xIS : Except String UInt64) = 3 from rfl, cFL_IS]; exact hP
                have hD : va_D A [(am, .inr (2, [.int (cdE (HIGH (HEI la ea oL oN oE oW k pw fa sa va) dd).2), .int (wo + nI (HIGH (HEI la ea oL oN oE oW k pw fa sa va) dd).1), .int (fu + cFL (HIGH (HEI la ea oL oN oE oW k pw fa sa va) dd).2), .ref gs, .ref go, .ref gt, .ref gp, .ref gw, .double la, .double ea, .ref gl, .int ln, .int (cFL (HIGH (HEI la ea oL oN oE oW k pw fa sa va) dd).2)])), (go, aD 16 (cA 1) uf), (gt, aI 4 (cA 0) tf), (gp, aI 48 (cA 0) pf), (gw, aD 144 (cA 1) wf)] := by rw [e8]; simp only; rw [show cdE (.error xIS : Except String UInt64) = 3 from rfl, cFL_IS]; exact hD
                subst hQQ
                exact W.dret hx hb hr (fun t ht hW => ⟨⟨_, (), rfl, (fun v hv => by rw [e8] at hv; cases hv), ⟨by rw [ht]; exact hP, hD⟩⟩, hS.F ht⟩) hS.2.2 dX2_highest_260
              · refine lv_aload_n hx hb dX2_highest_134 rfl (lv_at hl 5 rfl) ?_
                refine va_get (D := (dC, dI)) (ci := 2) (v := .int 1) (C := RX2) (T := TX2) (N := 13) hx hb hts hin2 hown hK hP 0 rfl rfl 12 (by decide) (hts (.fieldLink RX2 202 "SkyAlmanacModel" "failed" "Z") (by decide +kernel)) (fun _ h9 => h9) rfl dX2_highest_135 ?_
                refine lv_if_ne (tgt := 247) hx hb dX2_highest_138 (by decide) (fun _ => ?_) (fun c_98 => absurd c_98 (by decide))
                refine lv_aload_n hx hb dX2_highest_247 rfl (lv_at hl 5 rfl) ?_
                refine va_get (D := (dC, dI)) (ci := 2) (v := .int 1) (C := RX2) (T := TX2) (N := 13) hx hb hts hin2 hown hK hP 0 rfl rfl 12 (by decide) (hts (.fieldLink RX2 202 "SkyAlmanacModel" "failed" "Z") (by decide +kernel)) (fun _ h9 => h9) rfl dX2_highest_248 ?_
                refine lv_if_eq (tgt := 261) hx hb dX2_highest_251 (by decide) (fun c_99 => absurd c_99 (by decide)) (fun _ => ?_)
                refine lv_aload_n hx hb dX2_highest_254 rfl (lv_at hl 5 rfl) ?_
                refine lv_iconst (v := 3) hx hb dX2_highest_255 (by decide) ?_
                have hPc := hP.sub (ws' := [(am, .inr (2, [.int th, .int (wo + nI j), .int (fu + 1), .ref gs, .ref go, .ref gt, .ref gp, .ref gw, .double la, .double ea, .ref gl, .int ln, .int 1]))]) [0] rfl
                have hDc := hD.sub (ws' := [(am, .inr (2, [.int th, .int (wo + nI j), .int (fu + 1), .ref gs, .ref go, .ref gt, .ref gp, .ref gw, .double la, .double ea, .ref gl, .int ln, .int 1]))]) [0] (by decide) rfl
                have hFc := va_free (wc := [(am, .inr (2, [.int th, .int (wo + nI j), .int (fu + 1), .ref gs, .ref go, .ref gt, .ref gp, .ref gw, .double la, .double ea, .ref gl, .int ln, .int 1]))]) hD hS hA [0] rfl
                refine va_calli (va_runV (As := [.int 3]) (rest := []) ⟨hx, hb, hml, hown, hts⟩ (k_X2_fail l hst dC dI cA tm tt _ am gs go gt gp gw gl th (wo + nI j) (fu + 1) la ea ln 1 3) (cwV 1 hts gX2_highest_X2_fail rfl rfl rfl (by decide +kernel) ⟨Nat.le_of_ble_eq_true rfl, Nat.le_of_ble_eq_true rfl⟩) ⟨PcW.blind, va_recv hK hPc (ci := 2) (q0 := 0) rfl rfl, PcW.give hPc hK hDc hE hS hFc⟩ rfl rfl hl.1 rfl (lv_room (Nat.le_of_ble_eq_true rfl)) dX2_highest_256 ⟨Nat.le_of_ble_eq_true rfl, Nat.le_of_ble_eq_true rfl⟩) hS (fun q _ h => hFc q h) hFc (fun v_100 u t H locs ht hvm hp_101 hB hz1 hk1 hS => ?_)
                obtain ⟨hP1, hD1⟩ := hB
                rw [ht] at hP1
                obtain ⟨hP, hD⟩ := va_join (wr := [(go, aD 16 (cA 1) uf), (gt, aI 4 (cA 0) tf), (gp, aI 48 (cA 0) pf), (gw, aD 144 (cA 1) wf)]) (w1 := [(am, .inr (2, [.int 3, .int (wo + nI j), .int (fu + 1), .ref gs, .ref go, .ref gt, .ref gp, .ref gw, .double la, .double ea, .ref gl, .int ln, .int 1]))]) hP hD [0] [1, 2, 3, 4] rfl rfl (by decide) (by decide) hk1 hFc hP1 hD1
                have hP := hP.sub (ws' := [(am, .inr (2, [.int 3, .int (wo + nI j), .int (fu + 1), .ref gs, .ref go, .ref gt, .ref gp, .ref gw, .double la, .double ea, .ref gl, .int ln, .int 1])), (go, aD 16 (cA 1) uf), (gt, aI 4 (cA 0) tf), (gp, aI 48 (cA 0) pf), (gw, aD 144 (cA 1) wf)]) [4, 0, 1, 2, 3] rfl
                have hD := hD.sub (ws' := [(am, .inr (2, [.int 3, .int (wo + nI j), .int (fu + 1), .ref gs, .ref go, .ref gt, .ref gp, .ref gw, .double la, .double ea, .ref gl, .int ln, .int 1])), (go, aD 16 (cA 1) uf), (gt, aI 4 (cA 0) tf), (gp, aI 48 (cA 0) pf), (gw, aD 144 (cA 1) wf)]) [4, 0, 1, 2, 3] (by decide) rfl
                obtain rfl := hp_101
                refine lv_i2d hx hb dX2_highest_259 ?_
                have hP : va_P (dC, dI) vwCl [(am, .inr (2, [.int (cdE (HIGH (HEI la ea oL oN oE oW k pw fa sa va) dd).2), .int (wo + nI (HIGH (HEI la ea oL oN oE oW k pw fa sa va) dd).1), .int (fu + cFL (HIGH (HEI la ea oL oN oE oW k pw fa sa va) dd).2), .ref gs, .ref go, .ref gt, .ref gp, .ref gw, .double la, .double ea, .ref gl, .int ln, .int (cFL (HIGH (HEI la ea oL oN oE oW k pw fa sa va) dd).2)])), (go, aD 16 (cA 1) uf), (gt, aI 4 (cA 0) tf), (gp, aI 48 (cA 0) pf), (gw, aD 144 (cA 1) wf)] H := by rw [e8]; simp only; rw [show cdE (.error xIS : Except String UInt64) = 3 from rfl, cFL_IS]; exact hP
                have hD : va_D A [(am, .inr (2, [.int (cdE (HIGH (HEI la ea oL oN oE oW k pw fa sa va) dd).2), .int (wo + nI (HIGH (HEI la ea oL oN oE oW k pw fa sa va) dd).1), .int (fu + cFL (HIGH (HEI la ea oL oN oE oW k pw fa sa va) dd).2), .ref gs, .ref go, .ref gt, .ref gp, .ref gw, .double la, .double ea, .ref gl, .int ln, .int (cFL (HIGH (HEI la ea oL oN oE oW k pw fa sa va) dd).2)])), (go, aD 16 (cA 1) uf), (gt, aI 4 (cA 0) tf), (gp, aI 48 (cA 0) pf), (gw, aD 144 (cA 1) wf)] := by rw [e8]; simp only; rw [show cdE (.error xIS : Except String UInt64) = 3 from rfl, cFL_IS]; exact hD
                subst hQQ
                exact W.dret hx hb hr (fun t ht hW => ⟨⟨_, (), rfl, (fun v hv => by rw [e8] at hv; cases hv), ⟨by rw [ht]; exact hP, hD⟩⟩, hS.F ht⟩) hS.2.2 dX2_highest_260
        · refine lv_iconst (v := 1) hx hb dX2_highest_57 (by decide) ?_
          refine lv_goto (tgt := 62) hx hb dX2_highest_58 (by decide) ?_
          refine lv_istore (lv' := [(10, .int 1), (8, .double v_66), (0, .ref am), (1, .int x1), (2, .double x2), (4, .int bi), (5, .double gv), (7, .int (nI j))]) hx hb dX2_highest_62 hl (by decide) rfl (fun ls hl => ?_)
          refine lv_iload hx hb dX2_highest_64 (lv_at hl 0 rfl) ?_
          refine lv_if_eq (tgt := 74) hx hb dX2_highest_66 (by decide) (fun c_102 => absurd c_102 (by decide)) (fun _ => ?_)
          refine lv_iload hx hb dX2_highest_69 (lv_at hl 7 rfl) ?_
          refine lv_goto (tgt := 76) hx hb dX2_highest_71 (by decide) ?_
          refine lv_istore (lv' := [(4, .int (nI j)), (10, .int 1), (8, .double v_66), (0, .ref am), (1, .int x1), (2, .double x2), (5, .double gv), (7, .int (nI j))]) hx hb dX2_highest_76 hl (by decide) rfl (fun ls hl => ?_)
          refine lv_iload hx hb dX2_highest_78 (lv_at hl 1 rfl) ?_
          refine lv_if_eq (tgt := 88) hx hb dX2_highest_80 (by decide) (fun c_103 => absurd c_103 (by decide)) (fun _ => ?_)
          refine lv_dload hx hb dX2_highest_83 (lv_at hl 2 rfl) ?_
          refine lv_goto (tgt := 90) hx hb dX2_highest_85 (by decide) ?_
          refine lv_dstore (lv' := [(5, .double v_66), (4, .int (nI j)), (10, .int 1), (8, .double v_66), (0, .ref am), (1, .int x1), (2, .double x2), (7, .int (nI j))]) hx hb dX2_highest_90 hl (by decide) rfl (fun ls hl => ?_)
          refine lv_iinc (v := nI (j + 1)) (lv' := [(7, .int (nI (j + 1))), (5, .double v_66), (4, .int (nI j)), (10, .int 1), (8, .double v_66), (0, .ref am), (1, .int x1), (2, .double x2)]) hx hb dX2_highest_92 hl (k := 7) rfl (nI_1 _) (by decide) rfl (fun ls hl => ?_)
          refine lv_goto (tgt := 14) hx hb dX2_highest_95 (by decide) ?_
          by_cases hc1 : cFD (LON oL oN oE oW k pw fa sa va (TOP dd (nI j))) = 0
          · obtain ⟨hq, hcf⟩ := ab_ok hp_67 hc1
            rw [hcf, hc1, i0] at hP hD
            have hP : va_P (dC, dI) vwCl [(am, .inr (2, [.int th, .int (wo + nI (j + 1 - 1)), .int fu, .ref gs, .ref go, .ref gt, .ref gp, .ref gw, .double la, .double ea, .ref gl, .int ln, .int 0])), (go, aD 16 (cA 1) uf), (gt, aI 4 (cA 0) tf), (gp, aI 48 (cA 0) pf), (gw, aD 144 (cA 1) wf)] H := by rw [show j + 1 - 1 = j - 1 + 1 by omega, wk_s]; exact hP
            have hD : va_D A [(am, .inr (2, [.int th, .int (wo + nI (j + 1 - 1)), .int fu, .ref gs, .ref go, .ref gt, .ref gp, .ref gw, .double la, .double ea, .ref gl, .int ln, .int 0])), (go, aD 16 (cA 1) uf), (gt, aI 4 (cA 0) tf), (gp, aI 48 (cA 0) pf), (gw, aD 144 (cA 1) wf)] := by rw [show j + 1 - 1 = j - 1 + 1 by omega, wk_s]; exact hD
            exact ih (j + 1) (nI j) (v_66) (by omega) (by omega) (by omega) (nI_b15 (by omega) (by omega)) (by rw [hQ, pgL_1 (show j < 16 by omega) hq c_69, addc_addc, show j - 1 + 1 = j + 1 - 1 by omega]) _ _ _ hP hD hS (lv_sub hl [5, 6, 7, 2, 1, 0] rfl)
          · obtain ⟨hq, hcf, hcd⟩ := ab_er la ea hc1
            rw [hcf, hcd] at hP hD
            have e8 := HIGH_e (show PGR (HEI la ea oL oN oE oW k pw fa sa va) dd = (j, .error xIS) by rw [hQ, pgL_e (show j < 16 by omega) hq]; exact Prod.ext (by show j - 1 + 1 = j; omega) rfl)
            have hP : va_P (dC, dI) vwCl [(am, .inr (2, [.int th, .int (wo + nI j), .int (fu + 1), .ref gs, .ref go, .ref gt, .ref gp, .ref gw, .double la, .double ea, .ref gl, .int ln, .int 1])), (go, aD 16 (cA 1) uf), (gt, aI 4 (cA 0) tf), (gp, aI 48 (cA 0) pf), (gw, aD 144 (cA 1) wf)] H := by rw [show j = j - 1 + 1 by omega, wk_s]; exact hP
            have hD : va_D A [(am, .inr (2, [.int th, .int (wo + nI j), .int (fu + 1), .ref gs, .ref go, .ref gt, .ref gp, .ref gw, .double la, .double ea, .ref gl, .int ln, .int 1])), (go, aD 16 (cA 1) uf), (gt, aI 4 (cA 0) tf), (gp, aI 48 (cA 0) pf), (gw, aD 144 (cA 1) wf)] := by rw [show j = j - 1 + 1 by omega, wk_s]; exact hD
            refine lv_iload hx hb dX2_highest_14 (lv_at hl 0 rfl) ?_
            refine lv_bipush (v := 15) hx hb dX2_highest_16 (by decide) ?_
            refine lv_icmp_gt (tgt := 98) hx hb dX2_highest_18 (by decide) (fun c_104 => ?_) (fun c_104 => ?_)
            · refine lv_dload_n hx hb dX2_highest_98 rfl (lv_at hl 7 rfl) ?_
              refine lv_iload hx hb dX2_highest_99 (lv_at hl 2 rfl) ?_
              refine lv_iconst (v := 1) hx hb dX2_highest_101 (by decide) ?_
              refine lv_isub hx hb dX2_highest_102 ?_
              refine lv_i2d hx hb dX2_highest_103 ?_
              refine lv_ldc2d hx hb hown (hts (.constantDouble RX2 239 (4625196817309499392)) (by decide +kernel)) dX2_highest_104 ?_
              have r_105 : fR 4625196817309499392 17179869184 17179869184 := fR_lit (by decide +kernel)
              have r_106 := fR_div (i2d_R ((nI j) - 1)) r_105 (by decide) (-144115188075855872) 144115188075855872 (by decide) (by decide) rfl rfl
              refine lv_ddiv hx hb dX2_highest_107 (fR_nn r_106) ?_
              have r_107 := fR_add hx2R r_106 (-2449958197289549824) 2449958197289549824 (by decide) (by decide) rfl rfl
              refine lv_dadd hx hb dX2_highest_108 (fR_nn r_107) ?_
              refine lv_dstore (lv' := [(7, .double (FP.dadd x2 (FP.ddiv (FP.i2d ((nI j) - 1)) 4625196817309499392))), (5, .double v_66), (4, .int (nI j)), (10, .int 1), (0, .ref am), (1, .int x1), (2, .double x2)]) hx hb dX2_highest_109 hl (by decide) rfl (fun ls hl => ?_)
              refine lv_dload_n hx hb dX2_highest_111 rfl (lv_at hl 6 rfl) ?_
              refine lv_iload hx hb dX2_highest_112 (lv_at hl 2 rfl) ?_
              refine lv_iconst (v := 1) hx hb dX2_highest_114 (by decide) ?_
              refine lv_iadd hx hb dX2_highest_115 ?_
              refine lv_i2d hx hb dX2_highest_116 ?_
              refine lv_ldc2d hx hb hown (hts (.constantDouble RX2 239 (4625196817309499392)) (by decide +kernel)) dX2_highest_117 ?_
              have r_108 : fR 4625196817309499392 17179869184 17179869184 := fR_lit (by decide +kernel)
              have r_109 := fR_div (i2d_R ((nI j) + 1)) r_108 (by decide) (-144115188075855872) 144115188075855872 (by decide) (by decide) rfl rfl
              refine lv_ddiv hx hb dX2_highest_120 (fR_nn r_109) ?_
              have r_110 := fR_add hx2R r_109 (-2449958197289549824) 2449958197289549824 (by decide) (by decide) rfl rfl
              refine lv_dadd hx hb dX2_highest_121 (fR_nn r_110) ?_
              refine lv_dstore (lv' := [(9, .double (FP.dadd x2 (FP.ddiv (FP.i2d ((nI j) + 1)) 4625196817309499392))), (7, .double (FP.dadd x2 (FP.ddiv (FP.i2d ((nI j) - 1)) 4625196817309499392))), (5, .double v_66), (4, .int (nI j)), (0, .ref am), (1, .int x1), (2, .double x2)]) hx hb dX2_highest_122 hl (by decide) rfl (fun ls hl => ?_)
              refine lv_iconst (v := 0) hx hb dX2_highest_124 (by decide) ?_
              refine lv_istore (lv' := [(11, .int (nI 0)), (9, .double (FP.dadd x2 (FP.ddiv (FP.i2d ((nI j) + 1)) 4625196817309499392))), (7, .double (FP.dadd x2 (FP.ddiv (FP.i2d ((nI j) - 1)) 4625196817309499392))), (5, .double v_66), (4, .int (nI j)), (0, .ref am), (1, .int x1), (2, .double x2)]) hx hb dX2_highest_125 hl (by decide) rfl (fun ls hl => ?_)
              refine lv_iload hx hb dX2_highest_127 (lv_at hl 0 rfl) ?_
              refine lv_bipush (v := 24) hx hb dX2_highest_129 (by decide) ?_
              refine lv_icmp_ge (tgt := 247) hx hb dX2_highest_131 (by decide) (fun c_111 => ?_) (fun c_111 => ?_)
              · refine lv_aload_n hx hb dX2_highest_247 rfl (lv_at hl 5 rfl) ?_
                refine va_get (D := (dC, dI)) (ci := 2) (v := .int 1) (C := RX2) (T := TX2) (N := 13) hx hb hts hin2 hown hK hP 0 rfl rfl 12 (by decide) (hts (.fieldLink RX2 202 "SkyAlmanacModel" "failed" "Z") (by decide +kernel)) (fun _ h9 => h9) rfl dX2_highest_248 ?_
                refine lv_if_eq (tgt := 261) hx hb dX2_highest_251 (by decide) (fun c_112 => absurd c_112 (by decide)) (fun _ => ?_)
                refine lv_aload_n hx hb dX2_highest_254 rfl (lv_at hl 5 rfl) ?_
                refine lv_iconst (v := 3) hx hb dX2_highest_255 (by decide) ?_
                have hPc := hP.sub (ws' := [(am, .inr (2, [.int th, .int (wo + nI j), .int (fu + 1), .ref gs, .ref go, .ref gt, .ref gp, .ref gw, .double la, .double ea, .ref gl, .int ln, .int 1]))]) [0] rfl
                have hDc := hD.sub (ws' := [(am, .inr (2, [.int th, .int (wo + nI j), .int (fu + 1), .ref gs, .ref go, .ref gt, .ref gp, .ref gw, .double la, .double ea, .ref gl, .int ln, .int 1]))]) [0] (by decide) rfl
                have hFc := va_free (wc := [(am, .inr (2, [.int th, .int (wo + nI j), .int (fu + 1), .ref gs, .ref go, .ref gt, .ref gp, .ref gw, .double la, .double ea, .ref gl, .int ln, .int 1]))]) hD hS hA [0] rfl
                refine va_calli (va_runV (As := [.int 3]) (rest := []) ⟨hx, hb, hml, hown, hts⟩ (k_X2_fail l hst dC dI cA tm tt _ am gs go gt gp gw gl th (wo + nI j) (fu + 1) la ea ln 1 3) (cwV 1 hts gX2_highest_X2_fail rfl rfl rfl (by decide +kernel) ⟨Nat.le_of_ble_eq_true rfl, Nat.le_of_ble_eq_true rfl⟩) ⟨PcW.blind, va_recv hK hPc (ci := 2) (q0 := 0) rfl rfl, PcW.give hPc hK hDc hE hS hFc⟩ rfl rfl hl.1 rfl (lv_room (Nat.le_of_ble_eq_true rfl)) dX2_highest_256 ⟨Nat.le_of_ble_eq_true rfl, Nat.le_of_ble_eq_true rfl⟩) hS (fun q _ h => hFc q h) hFc (fun v_113 u t H locs ht hvm hp_114 hB hz1 hk1 hS => ?_)
                obtain ⟨hP1, hD1⟩ := hB
                rw [ht] at hP1
                obtain ⟨hP, hD⟩ := va_join (wr := [(go, aD 16 (cA 1) uf), (gt, aI 4 (cA 0) tf), (gp, aI 48 (cA 0) pf), (gw, aD 144 (cA 1) wf)]) (w1 := [(am, .inr (2, [.int 3, .int (wo + nI j), .int (fu + 1), .ref gs, .ref go, .ref gt, .ref gp, .ref gw, .double la, .double ea, .ref gl, .int ln, .int 1]))]) hP hD [0] [1, 2, 3, 4] rfl rfl (by decide) (by decide) hk1 hFc hP1 hD1
                have hP := hP.sub (ws' := [(am, .inr (2, [.int 3, .int (wo + nI j), .int (fu + 1), .ref gs, .ref go, .ref gt, .ref gp, .ref gw, .double la, .double ea, .ref gl, .int ln, .int 1])), (go, aD 16 (cA 1) uf), (gt, aI 4 (cA 0) tf), (gp, aI 48 (cA 0) pf), (gw, aD 144 (cA 1) wf)]) [4, 0, 1, 2, 3] rfl
                have hD := hD.sub (ws' := [(am, .inr (2, [.int 3, .int (wo + nI j), .int (fu + 1), .ref gs, .ref go, .ref gt, .ref gp, .ref gw, .double la, .double ea, .ref gl, .int ln, .int 1])), (go, aD 16 (cA 1) uf), (gt, aI 4 (cA 0) tf), (gp, aI 48 (cA 0) pf), (gw, aD 144 (cA 1) wf)]) [4, 0, 1, 2, 3] (by decide) rfl
                obtain rfl := hp_114
                refine lv_i2d hx hb dX2_highest_259 ?_
                have hP : va_P (dC, dI) vwCl [(am, .inr (2, [.int (cdE (HIGH (HEI la ea oL oN oE oW k pw fa sa va) dd).2), .int (wo + nI (HIGH (HEI la ea oL oN oE oW k pw fa sa va) dd).1), .int (fu + cFL (HIGH (HEI la ea oL oN oE oW k pw fa sa va) dd).2), .ref gs, .ref go, .ref gt, .ref gp, .ref gw, .double la, .double ea, .ref gl, .int ln, .int (cFL (HIGH (HEI la ea oL oN oE oW k pw fa sa va) dd).2)])), (go, aD 16 (cA 1) uf), (gt, aI 4 (cA 0) tf), (gp, aI 48 (cA 0) pf), (gw, aD 144 (cA 1) wf)] H := by rw [e8]; simp only; rw [show cdE (.error xIS : Except String UInt64) = 3 from rfl, cFL_IS]; exact hP
                have hD : va_D A [(am, .inr (2, [.int (cdE (HIGH (HEI la ea oL oN oE oW k pw fa sa va) dd).2), .int (wo + nI (HIGH (HEI la ea oL oN oE oW k pw fa sa va) dd).1), .int (fu + cFL (HIGH (HEI la ea oL oN oE oW k pw fa sa va) dd).2), .ref gs, .ref go, .ref gt, .ref gp, .ref gw, .double la, .double ea, .ref gl, .int ln, .int (cFL (HIGH (HEI la ea oL oN oE oW k pw fa sa va) dd).2)])), (go, aD 16 (cA 1) uf), (gt, aI 4 (cA 0) tf), (gp, aI 48 (cA 0) pf), (gw, aD 144 (cA 1) wf)] := by rw [e8]; simp only; rw [show cdE (.error xIS : Except String UInt64) = 3 from rfl, cFL_IS]; exact hD
                subst hQQ
                exact W.dret hx hb hr (fun t ht hW => ⟨⟨_, (), rfl, (fun v hv => by rw [e8] at hv; cases hv), ⟨by rw [ht]; exact hP, hD⟩⟩, hS.F ht⟩) hS.2.2 dX2_highest_260
              · refine lv_aload_n hx hb dX2_highest_134 rfl (lv_at hl 5 rfl) ?_
                refine va_get (D := (dC, dI)) (ci := 2) (v := .int 1) (C := RX2) (T := TX2) (N := 13) hx hb hts hin2 hown hK hP 0 rfl rfl 12 (by decide) (hts (.fieldLink RX2 202 "SkyAlmanacModel" "failed" "Z") (by decide +kernel)) (fun _ h9 => h9) rfl dX2_highest_135 ?_
                refine lv_if_ne (tgt := 247) hx hb dX2_highest_138 (by decide) (fun _ => ?_) (fun c_115 => absurd c_115 (by decide))
                refine lv_aload_n hx hb dX2_highest_247 rfl (lv_at hl 5 rfl) ?_
                refine va_get (D := (dC, dI)) (ci := 2) (v := .int 1) (C := RX2) (T := TX2) (N := 13) hx hb hts hin2 hown hK hP 0 rfl rfl 12 (by decide) (hts (.fieldLink RX2 202 "SkyAlmanacModel" "failed" "Z") (by decide +kernel)) (fun _ h9 => h9) rfl dX2_highest_248 ?_
                refine lv_if_eq (tgt := 261) hx hb dX2_highest_251 (by decide) (fun c_116 => absurd c_116 (by decide)) (fun _ => ?_)
                refine lv_aload_n hx hb dX2_highest_254 rfl (lv_at hl 5 rfl) ?_
                refine lv_iconst (v := 3) hx hb dX2_highest_255 (by decide) ?_
                have hPc := hP.sub (ws' := [(am, .inr (2, [.int th, .int (wo + nI j), .int (fu + 1), .ref gs, .ref go, .ref gt, .ref gp, .ref gw, .double la, .double ea, .ref gl, .int ln, .int 1]))]) [0] rfl
                have hDc := hD.sub (ws' := [(am, .inr (2, [.int th, .int (wo + nI j), .int (fu + 1), .ref gs, .ref go, .ref gt, .ref gp, .ref gw, .double la, .double ea, .ref gl, .int ln, .int 1]))]) [0] (by decide) rfl
                have hFc := va_free (wc := [(am, .inr (2, [.int th, .int (wo + nI j), .int (fu + 1), .ref gs, .ref go, .ref gt, .ref gp, .ref gw, .double la, .double ea, .ref gl, .int ln, .int 1]))]) hD hS hA [0] rfl
                refine va_calli (va_runV (As := [.int 3]) (rest := []) ⟨hx, hb, hml, hown, hts⟩ (k_X2_fail l hst dC dI cA tm tt _ am gs go gt gp gw gl th (wo + nI j) (fu + 1) la ea ln 1 3) (cwV 1 hts gX2_highest_X2_fail rfl rfl rfl (by decide +kernel) ⟨Nat.le_of_ble_eq_true rfl, Nat.le_of_ble_eq_true rfl⟩) ⟨PcW.blind, va_recv hK hPc (ci := 2) (q0 := 0) rfl rfl, PcW.give hPc hK hDc hE hS hFc⟩ rfl rfl hl.1 rfl (lv_room (Nat.le_of_ble_eq_true rfl)) dX2_highest_256 ⟨Nat.le_of_ble_eq_true rfl, Nat.le_of_ble_eq_true rfl⟩) hS (fun q _ h => hFc q h) hFc (fun v_117 u t H locs ht hvm hp_118 hB hz1 hk1 hS => ?_)
                obtain ⟨hP1, hD1⟩ := hB
                rw [ht] at hP1
                obtain ⟨hP, hD⟩ := va_join (wr := [(go, aD 16 (cA 1) uf), (gt, aI 4 (cA 0) tf), (gp, aI 48 (cA 0) pf), (gw, aD 144 (cA 1) wf)]) (w1 := [(am, .inr (2, [.int 3, .int (wo + nI j), .int (fu + 1), .ref gs, .ref go, .ref gt, .ref gp, .ref gw, .double la, .double ea, .ref gl, .int ln, .int 1]))]) hP hD [0] [1, 2, 3, 4] rfl rfl (by decide) (by decide) hk1 hFc hP1 hD1
                have hP := hP.sub (ws' := [(am, .inr (2, [.int 3, .int (wo + nI j), .int (fu + 1), .ref gs, .ref go, .ref gt, .ref gp, .ref gw, .double la, .double ea, .ref gl, .int ln, .int 1])), (go, aD 16 (cA 1) uf), (gt, aI 4 (cA 0) tf), (gp, aI 48 (cA 0) pf), (gw, aD 144 (cA 1) wf)]) [4, 0, 1, 2, 3] rfl
                have hD := hD.sub (ws' := [(am, .inr (2, [.int 3, .int (wo + nI j), .int (fu + 1), .ref gs, .ref go, .ref gt, .ref gp, .ref gw, .double la, .double ea, .ref gl, .int ln, .int 1])), (go, aD 16 (cA 1) uf), (gt, aI 4 (cA 0) tf), (gp, aI 48 (cA 0) pf), (gw, aD 144 (cA 1) wf)]) [4, 0, 1, 2, 3] (by decide) rfl
                obtain rfl := hp_118
                refine lv_i2d hx hb dX2_highest_259 ?_
                have hP : va_P (dC, dI) vwCl [(am, .inr (2, [.int (cdE (HIGH (HEI la ea oL oN oE oW k pw fa sa va) dd).2), .int (wo + nI (HIGH (HEI la ea oL oN oE oW k pw fa sa va) dd).1), .int (fu + cFL (HIGH (HEI la ea oL oN oE oW k pw fa sa va) dd).2), .ref gs, .ref go, .ref gt, .ref gp, .ref gw, .double la, .double ea, .ref gl, .int ln, .int (cFL (HIGH (HEI la ea oL oN oE oW k pw fa sa va) dd).2)])), (go, aD 16 (cA 1) uf), (gt, aI 4 (cA 0) tf), (gp, aI 48 (cA 0) pf), (gw, aD 144 (cA 1) wf)] H := by rw [e8]; simp only; rw [show cdE (.error xIS : Except String UInt64) = 3 from rfl, cFL_IS]; exact hP
                have hD : va_D A [(am, .inr (2, [.int (cdE (HIGH (HEI la ea oL oN oE oW k pw fa sa va) dd).2), .int (wo + nI (HIGH (HEI la ea oL oN oE oW k pw fa sa va) dd).1), .int (fu + cFL (HIGH (HEI la ea oL oN oE oW k pw fa sa va) dd).2), .ref gs, .ref go, .ref gt, .ref gp, .ref gw, .double la, .double ea, .ref gl, .int ln, .int (cFL (HIGH (HEI la ea oL oN oE oW k pw fa sa va) dd).2)])), (go, aD 16 (cA 1) uf), (gt, aI 4 (cA 0) tf), (gp, aI 48 (cA 0) pf), (gw, aD 144 (cA 1) wf)] := by rw [e8]; simp only; rw [show cdE (.error xIS : Except String UInt64) = 3 from rfl, cFL_IS]; exact hD
                subst hQQ
                exact W.dret hx hb hr (fun t ht hW => ⟨⟨_, (), rfl, (fun v hv => by rw [e8] at hv; cases hv), ⟨by rw [ht]; exact hP, hD⟩⟩, hS.F ht⟩) hS.2.2 dX2_highest_260
            · refine lv_aload_n hx hb dX2_highest_21 rfl (lv_at hl 5 rfl) ?_
              refine va_get (D := (dC, dI)) (ci := 2) (v := .int 1) (C := RX2) (T := TX2) (N := 13) hx hb hts hin2 hown hK hP 0 rfl rfl 12 (by decide) (hts (.fieldLink RX2 202 "SkyAlmanacModel" "failed" "Z") (by decide +kernel)) (fun _ h9 => h9) rfl dX2_highest_22 ?_
              refine lv_if_ne (tgt := 98) hx hb dX2_highest_25 (by decide) (fun _ => ?_) (fun c_119 => absurd c_119 (by decide))
              refine lv_dload_n hx hb dX2_highest_98 rfl (lv_at hl 7 rfl) ?_
              refine lv_iload hx hb dX2_highest_99 (lv_at hl 2 rfl) ?_
              refine lv_iconst (v := 1) hx hb dX2_highest_101 (by decide) ?_
              refine lv_isub hx hb dX2_highest_102 ?_
              refine lv_i2d hx hb dX2_highest_103 ?_
              refine lv_ldc2d hx hb hown (hts (.constantDouble RX2 239 (4625196817309499392)) (by decide +kernel)) dX2_highest_104 ?_
              have r_120 : fR 4625196817309499392 17179869184 17179869184 := fR_lit (by decide +kernel)
              have r_121 := fR_div (i2d_R ((nI j) - 1)) r_120 (by decide) (-144115188075855872) 144115188075855872 (by decide) (by decide) rfl rfl
              refine lv_ddiv hx hb dX2_highest_107 (fR_nn r_121) ?_
              have r_122 := fR_add hx2R r_121 (-2449958197289549824) 2449958197289549824 (by decide) (by decide) rfl rfl
              refine lv_dadd hx hb dX2_highest_108 (fR_nn r_122) ?_
              refine lv_dstore (lv' := [(7, .double (FP.dadd x2 (FP.ddiv (FP.i2d ((nI j) - 1)) 4625196817309499392))), (5, .double v_66), (4, .int (nI j)), (10, .int 1), (0, .ref am), (1, .int x1), (2, .double x2)]) hx hb dX2_highest_109 hl (by decide) rfl (fun ls hl => ?_)
              refine lv_dload_n hx hb dX2_highest_111 rfl (lv_at hl 6 rfl) ?_
              refine lv_iload hx hb dX2_highest_112 (lv_at hl 2 rfl) ?_
              refine lv_iconst (v := 1) hx hb dX2_highest_114 (by decide) ?_
              refine lv_iadd hx hb dX2_highest_115 ?_
              refine lv_i2d hx hb dX2_highest_116 ?_
              refine lv_ldc2d hx hb hown (hts (.constantDouble RX2 239 (4625196817309499392)) (by decide +kernel)) dX2_highest_117 ?_
              have r_123 : fR 4625196817309499392 17179869184 17179869184 := fR_lit (by decide +kernel)
              have r_124 := fR_div (i2d_R ((nI j) + 1)) r_123 (by decide) (-144115188075855872) 144115188075855872 (by decide) (by decide) rfl rfl
              refine lv_ddiv hx hb dX2_highest_120 (fR_nn r_124) ?_
              have r_125 := fR_add hx2R r_124 (-2449958197289549824) 2449958197289549824 (by decide) (by decide) rfl rfl
              refine lv_dadd hx hb dX2_highest_121 (fR_nn r_125) ?_
              refine lv_dstore (lv' := [(9, .double (FP.dadd x2 (FP.ddiv (FP.i2d ((nI j) + 1)) 4625196817309499392))), (7, .double (FP.dadd x2 (FP.ddiv (FP.i2d ((nI j) - 1)) 4625196817309499392))), (5, .double v_66), (4, .int (nI j)), (0, .ref am), (1, .int x1), (2, .double x2)]) hx hb dX2_highest_122 hl (by decide) rfl (fun ls hl => ?_)
              refine lv_iconst (v := 0) hx hb dX2_highest_124 (by decide) ?_
              refine lv_istore (lv' := [(11, .int (nI 0)), (9, .double (FP.dadd x2 (FP.ddiv (FP.i2d ((nI j) + 1)) 4625196817309499392))), (7, .double (FP.dadd x2 (FP.ddiv (FP.i2d ((nI j) - 1)) 4625196817309499392))), (5, .double v_66), (4, .int (nI j)), (0, .ref am), (1, .int x1), (2, .double x2)]) hx hb dX2_highest_125 hl (by decide) rfl (fun ls hl => ?_)
              refine lv_iload hx hb dX2_highest_127 (lv_at hl 0 rfl) ?_
              refine lv_bipush (v := 24) hx hb dX2_highest_129 (by decide) ?_
              refine lv_icmp_ge (tgt := 247) hx hb dX2_highest_131 (by decide) (fun c_126 => ?_) (fun c_126 => ?_)
              · refine lv_aload_n hx hb dX2_highest_247 rfl (lv_at hl 5 rfl) ?_
                refine va_get (D := (dC, dI)) (ci := 2) (v := .int 1) (C := RX2) (T := TX2) (N := 13) hx hb hts hin2 hown hK hP 0 rfl rfl 12 (by decide) (hts (.fieldLink RX2 202 "SkyAlmanacModel" "failed" "Z") (by decide +kernel)) (fun _ h9 => h9) rfl dX2_highest_248 ?_
                refine lv_if_eq (tgt := 261) hx hb dX2_highest_251 (by decide) (fun c_127 => absurd c_127 (by decide)) (fun _ => ?_)
                refine lv_aload_n hx hb dX2_highest_254 rfl (lv_at hl 5 rfl) ?_
                refine lv_iconst (v := 3) hx hb dX2_highest_255 (by decide) ?_
                have hPc := hP.sub (ws' := [(am, .inr (2, [.int th, .int (wo + nI j), .int (fu + 1), .ref gs, .ref go, .ref gt, .ref gp, .ref gw, .double la, .double ea, .ref gl, .int ln, .int 1]))]) [0] rfl
                have hDc := hD.sub (ws' := [(am, .inr (2, [.int th, .int (wo + nI j), .int (fu + 1), .ref gs, .ref go, .ref gt, .ref gp, .ref gw, .double la, .double ea, .ref gl, .int ln, .int 1]))]) [0] (by decide) rfl
                have hFc := va_free (wc := [(am, .inr (2, [.int th, .int (wo + nI j), .int (fu + 1), .ref gs, .ref go, .ref gt, .ref gp, .ref gw, .double la, .double ea, .ref gl, .int ln, .int 1]))]) hD hS hA [0] rfl
                refine va_calli (va_runV (As := [.int 3]) (rest := []) ⟨hx, hb, hml, hown, hts⟩ (k_X2_fail l hst dC dI cA tm tt _ am gs go gt gp gw gl th (wo + nI j) (fu + 1) la ea ln 1 3) (cwV 1 hts gX2_highest_X2_fail rfl rfl rfl (by decide +kernel) ⟨Nat.le_of_ble_eq_true rfl, Nat.le_of_ble_eq_true rfl⟩) ⟨PcW.blind, va_recv hK hPc (ci := 2) (q0 := 0) rfl rfl, PcW.give hPc hK hDc hE hS hFc⟩ rfl rfl hl.1 rfl (lv_room (Nat.le_of_ble_eq_true rfl)) dX2_highest_256 ⟨Nat.le_of_ble_eq_true rfl, Nat.le_of_ble_eq_true rfl⟩) hS (fun q _ h => hFc q h) hFc (fun v_128 u t H locs ht hvm hp_129 hB hz1 hk1 hS => ?_)
                obtain ⟨hP1, hD1⟩ := hB
                rw [ht] at hP1
                obtain ⟨hP, hD⟩ := va_join (wr := [(go, aD 16 (cA 1) uf), (gt, aI 4 (cA 0) tf), (gp, aI 48 (cA 0) pf), (gw, aD 144 (cA 1) wf)]) (w1 := [(am, .inr (2, [.int 3, .int (wo + nI j), .int (fu + 1), .ref gs, .ref go, .ref gt, .ref gp, .ref gw, .double la, .double ea, .ref gl, .int ln, .int 1]))]) hP hD [0] [1, 2, 3, 4] rfl rfl (by decide) (by decide) hk1 hFc hP1 hD1
                have hP := hP.sub (ws' := [(am, .inr (2, [.int 3, .int (wo + nI j), .int (fu + 1), .ref gs, .ref go, .ref gt, .ref gp, .ref gw, .double la, .double ea, .ref gl, .int ln, .int 1])), (go, aD 16 (cA 1) uf), (gt, aI 4 (cA 0) tf), (gp, aI 48 (cA 0) pf), (gw, aD 144 (cA 1) wf)]) [4, 0, 1, 2, 3] rfl
                have hD := hD.sub (ws' := [(am, .inr (2, [.int 3, .int (wo + nI j), .int (fu + 1), .ref gs, .ref go, .ref gt, .ref gp, .ref gw, .double la, .double ea, .ref gl, .int ln, .int 1])), (go, aD 16 (cA 1) uf), (gt, aI 4 (cA 0) tf), (gp, aI 48 (cA 0) pf), (gw, aD 144 (cA 1) wf)]) [4, 0, 1, 2, 3] (by decide) rfl
                obtain rfl := hp_129
                refine lv_i2d hx hb dX2_highest_259 ?_
                have hP : va_P (dC, dI) vwCl [(am, .inr (2, [.int (cdE (HIGH (HEI la ea oL oN oE oW k pw fa sa va) dd).2), .int (wo + nI (HIGH (HEI la ea oL oN oE oW k pw fa sa va) dd).1), .int (fu + cFL (HIGH (HEI la ea oL oN oE oW k pw fa sa va) dd).2), .ref gs, .ref go, .ref gt, .ref gp, .ref gw, .double la, .double ea, .ref gl, .int ln, .int (cFL (HIGH (HEI la ea oL oN oE oW k pw fa sa va) dd).2)])), (go, aD 16 (cA 1) uf), (gt, aI 4 (cA 0) tf), (gp, aI 48 (cA 0) pf), (gw, aD 144 (cA 1) wf)] H := by rw [e8]; simp only; rw [show cdE (.error xIS : Except String UInt64) = 3 from rfl, cFL_IS]; exact hP
                have hD : va_D A [(am, .inr (2, [.int (cdE (HIGH (HEI la ea oL oN oE oW k pw fa sa va) dd).2), .int (wo + nI (HIGH (HEI la ea oL oN oE oW k pw fa sa va) dd).1), .int (fu + cFL (HIGH (HEI la ea oL oN oE oW k pw fa sa va) dd).2), .ref gs, .ref go, .ref gt, .ref gp, .ref gw, .double la, .double ea, .ref gl, .int ln, .int (cFL (HIGH (HEI la ea oL oN oE oW k pw fa sa va) dd).2)])), (go, aD 16 (cA 1) uf), (gt, aI 4 (cA 0) tf), (gp, aI 48 (cA 0) pf), (gw, aD 144 (cA 1) wf)] := by rw [e8]; simp only; rw [show cdE (.error xIS : Except String UInt64) = 3 from rfl, cFL_IS]; exact hD
                subst hQQ
                exact W.dret hx hb hr (fun t ht hW => ⟨⟨_, (), rfl, (fun v hv => by rw [e8] at hv; cases hv), ⟨by rw [ht]; exact hP, hD⟩⟩, hS.F ht⟩) hS.2.2 dX2_highest_260
              · refine lv_aload_n hx hb dX2_highest_134 rfl (lv_at hl 5 rfl) ?_
                refine va_get (D := (dC, dI)) (ci := 2) (v := .int 1) (C := RX2) (T := TX2) (N := 13) hx hb hts hin2 hown hK hP 0 rfl rfl 12 (by decide) (hts (.fieldLink RX2 202 "SkyAlmanacModel" "failed" "Z") (by decide +kernel)) (fun _ h9 => h9) rfl dX2_highest_135 ?_
                refine lv_if_ne (tgt := 247) hx hb dX2_highest_138 (by decide) (fun _ => ?_) (fun c_130 => absurd c_130 (by decide))
                refine lv_aload_n hx hb dX2_highest_247 rfl (lv_at hl 5 rfl) ?_
                refine va_get (D := (dC, dI)) (ci := 2) (v := .int 1) (C := RX2) (T := TX2) (N := 13) hx hb hts hin2 hown hK hP 0 rfl rfl 12 (by decide) (hts (.fieldLink RX2 202 "SkyAlmanacModel" "failed" "Z") (by decide +kernel)) (fun _ h9 => h9) rfl dX2_highest_248 ?_
                refine lv_if_eq (tgt := 261) hx hb dX2_highest_251 (by decide) (fun c_131 => absurd c_131 (by decide)) (fun _ => ?_)
                refine lv_aload_n hx hb dX2_highest_254 rfl (lv_at hl 5 rfl) ?_
                refine lv_iconst (v := 3) hx hb dX2_highest_255 (by decide) ?_
                have hPc := hP.sub (ws' := [(am, .inr (2, [.int th, .int (wo + nI j), .int (fu + 1), .ref gs, .ref go, .ref gt, .ref gp, .ref gw, .double la, .double ea, .ref gl, .int ln, .int 1]))]) [0] rfl
                have hDc := hD.sub (ws' := [(am, .inr (2, [.int th, .int (wo + nI j), .int (fu + 1), .ref gs, .ref go, .ref gt, .ref gp, .ref gw, .double la, .double ea, .ref gl, .int ln, .int 1]))]) [0] (by decide) rfl
                have hFc := va_free (wc := [(am, .inr (2, [.int th, .int (wo + nI j), .int (fu + 1), .ref gs, .ref go, .ref gt, .ref gp, .ref gw, .double la, .double ea, .ref gl, .int ln, .int 1]))]) hD hS hA [0] rfl
                refine va_calli (va_runV (As := [.int 3]) (rest := []) ⟨hx, hb, hml, hown, hts⟩ (k_X2_fail l hst dC dI cA tm tt _ am gs go gt gp gw gl th (wo + nI j) (fu + 1) la ea ln 1 3) (cwV 1 hts gX2_highest_X2_fail rfl rfl rfl (by decide +kernel) ⟨Nat.le_of_ble_eq_true rfl, Nat.le_of_ble_eq_true rfl⟩) ⟨PcW.blind, va_recv hK hPc (ci := 2) (q0 := 0) rfl rfl, PcW.give hPc hK hDc hE hS hFc⟩ rfl rfl hl.1 rfl (lv_room (Nat.le_of_ble_eq_true rfl)) dX2_highest_256 ⟨Nat.le_of_ble_eq_true rfl, Nat.le_of_ble_eq_true rfl⟩) hS (fun q _ h => hFc q h) hFc (fun v_132 u t H locs ht hvm hp_133 hB hz1 hk1 hS => ?_)
                obtain ⟨hP1, hD1⟩ := hB
                rw [ht] at hP1
                obtain ⟨hP, hD⟩ := va_join (wr := [(go, aD 16 (cA 1) uf), (gt, aI 4 (cA 0) tf), (gp, aI 48 (cA 0) pf), (gw, aD 144 (cA 1) wf)]) (w1 := [(am, .inr (2, [.int 3, .int (wo + nI j), .int (fu + 1), .ref gs, .ref go, .ref gt, .ref gp, .ref gw, .double la, .double ea, .ref gl, .int ln, .int 1]))]) hP hD [0] [1, 2, 3, 4] rfl rfl (by decide) (by decide) hk1 hFc hP1 hD1
                have hP := hP.sub (ws' := [(am, .inr (2, [.int 3, .int (wo + nI j), .int (fu + 1), .ref gs, .ref go, .ref gt, .ref gp, .ref gw, .double la, .double ea, .ref gl, .int ln, .int 1])), (go, aD 16 (cA 1) uf), (gt, aI 4 (cA 0) tf), (gp, aI 48 (cA 0) pf), (gw, aD 144 (cA 1) wf)]) [4, 0, 1, 2, 3] rfl
                have hD := hD.sub (ws' := [(am, .inr (2, [.int 3, .int (wo + nI j), .int (fu + 1), .ref gs, .ref go, .ref gt, .ref gp, .ref gw, .double la, .double ea, .ref gl, .int ln, .int 1])), (go, aD 16 (cA 1) uf), (gt, aI 4 (cA 0) tf), (gp, aI 48 (cA 0) pf), (gw, aD 144 (cA 1) wf)]) [4, 0, 1, 2, 3] (by decide) rfl
                obtain rfl := hp_133
                refine lv_i2d hx hb dX2_highest_259 ?_
                have hP : va_P (dC, dI) vwCl [(am, .inr (2, [.int (cdE (HIGH (HEI la ea oL oN oE oW k pw fa sa va) dd).2), .int (wo + nI (HIGH (HEI la ea oL oN oE oW k pw fa sa va) dd).1), .int (fu + cFL (HIGH (HEI la ea oL oN oE oW k pw fa sa va) dd).2), .ref gs, .ref go, .ref gt, .ref gp, .ref gw, .double la, .double ea, .ref gl, .int ln, .int (cFL (HIGH (HEI la ea oL oN oE oW k pw fa sa va) dd).2)])), (go, aD 16 (cA 1) uf), (gt, aI 4 (cA 0) tf), (gp, aI 48 (cA 0) pf), (gw, aD 144 (cA 1) wf)] H := by rw [e8]; simp only; rw [show cdE (.error xIS : Except String UInt64) = 3 from rfl, cFL_IS]; exact hP
                have hD : va_D A [(am, .inr (2, [.int (cdE (HIGH (HEI la ea oL oN oE oW k pw fa sa va) dd).2), .int (wo + nI (HIGH (HEI la ea oL oN oE oW k pw fa sa va) dd).1), .int (fu + cFL (HIGH (HEI la ea oL oN oE oW k pw fa sa va) dd).2), .ref gs, .ref go, .ref gt, .ref gp, .ref gw, .double la, .double ea, .ref gl, .int ln, .int (cFL (HIGH (HEI la ea oL oN oE oW k pw fa sa va) dd).2)])), (go, aD 16 (cA 1) uf), (gt, aI 4 (cA 0) tf), (gp, aI 48 (cA 0) pf), (gw, aD 144 (cA 1) wf)] := by rw [e8]; simp only; rw [show cdE (.error xIS : Except String UInt64) = 3 from rfl, cFL_IS]; exact hD
                subst hQQ
                exact W.dret hx hb hr (fun t ht hW => ⟨⟨_, (), rfl, (fun v hv => by rw [e8] at hv; cases hv), ⟨by rw [ht]; exact hP, hD⟩⟩, hS.F ht⟩) hS.2.2 dX2_highest_260
  refine lv_iconst (v := 0) hx hb dX2_highest_0 (by decide) ?_
  refine lv_istore (lv' := [(4, .int 0), (0, .ref am), (1, .int x1), (2, .double x2)]) hx hb dX2_highest_1 hl (by decide) rfl (fun ls hl => ?_)
  refine lv_dconst0 hx hb dX2_highest_3 ?_
  have r_134 : fR FP.dconst0 0 0 := fR_lit (by decide +kernel)
  refine lv_dstore (lv' := [(5, .double FP.dconst0), (4, .int 0), (0, .ref am), (1, .int x1), (2, .double x2)]) hx hb dX2_highest_4 hl (by decide) rfl (fun ls hl => ?_)
  refine lv_aload_n hx hb dX2_highest_6 rfl (lv_at hl 2 rfl) ?_
  refine lv_iconst (v := 0) hx hb dX2_highest_7 (by decide) ?_
  refine va_put (D := (dC, dI)) (ci := 2) (v := .int 0) (ty := .boolean) (C := RX2) (T := TX2) (N := 13) hx hb hts hin2 tyX2 tyX2_ok nmX2 hown hK hP hD hS 0 rfl rfl 12 (by decide) (hts (.fieldLink RX2 202 "SkyAlmanacModel" "failed" "Z") (by decide +kernel)) (fun _ h9 => h9) rfl (by decide +kernel) rfl rfl (Nat.le_of_ble_eq_true rfl) dX2_highest_8 (fun H locs hP hD hS => ?_)
  have hP : va_P (dC, dI) vwCl [(am, .inr (2, [.int th, .int wo, .int fu, .ref gs, .ref go, .ref gt, .ref gp, .ref gw, .double la, .double ea, .ref gl, .int ln, .int 0])), (go, aD 16 (cA 1) uf), (gt, aI 4 (cA 0) tf), (gp, aI 48 (cA 0) pf), (gw, aD 144 (cA 1) wf)] H := hP
  have hD : va_D A [(am, .inr (2, [.int th, .int wo, .int fu, .ref gs, .ref go, .ref gt, .ref gp, .ref gw, .double la, .double ea, .ref gl, .int ln, .int 0])), (go, aD 16 (cA 1) uf), (gt, aI 4 (cA 0) tf), (gp, aI 48 (cA 0) pf), (gw, aD 144 (cA 1) wf)] := hD
  refine lv_iconst (v := 1) hx hb dX2_highest_11 (by decide) ?_
  refine lv_istore (lv' := [(7, .int 1), (5, .double FP.dconst0), (4, .int 0), (0, .ref am), (1, .int x1), (2, .double x2)]) hx hb dX2_highest_12 hl (by decide) rfl (fun ls hl => ?_)
  refine lv_iload hx hb dX2_highest_14 (lv_at hl 0 rfl) ?_
  refine lv_bipush (v := 15) hx hb dX2_highest_16 (by decide) ?_
  refine lv_icmp_gt (tgt := 98) hx hb dX2_highest_18 (by decide) (fun c_135 => absurd c_135 (by decide)) (fun _ => ?_)
  refine lv_aload_n hx hb dX2_highest_21 rfl (lv_at hl 3 rfl) ?_
  refine va_get (D := (dC, dI)) (ci := 2) (v := .int 0) (C := RX2) (T := TX2) (N := 13) hx hb hts hin2 hown hK hP 0 rfl rfl 12 (by decide) (hts (.fieldLink RX2 202 "SkyAlmanacModel" "failed" "Z") (by decide +kernel)) (fun _ h9 => h9) rfl dX2_highest_22 ?_
  refine lv_if_ne (tgt := 98) hx hb dX2_highest_25 (by decide) (fun c_136 => absurd c_136 (by decide)) (fun _ => ?_)
  refine lv_aload_n hx hb dX2_highest_28 rfl (lv_at hl 3 rfl) ?_
  refine lv_iload_n hx hb dX2_highest_29 rfl (lv_at hl 4 rfl) ?_
  refine lv_dload_n hx hb dX2_highest_30 rfl (lv_at hl 5 rfl) ?_
  refine lv_iload hx hb dX2_highest_31 (lv_at hl 0 rfl) ?_
  refine lv_i2d hx hb dX2_highest_33 ?_
  refine lv_ldc2d hx hb hown (hts (.constantDouble RX2 239 (4625196817309499392)) (by decide +kernel)) dX2_highest_34 ?_
  have r_137 : fR 4625196817309499392 17179869184 17179869184 := fR_lit (by decide +kernel)
  have r_138 := fR_div (i2d_R 1) r_137 (by decide) (-144115188075855872) 144115188075855872 (by decide) (by decide) rfl rfl
  refine lv_ddiv hx hb dX2_highest_37 (fR_nn r_138) ?_
  have r_139 := fR_add hx2R r_138 (-2449958197289549824) 2449958197289549824 (by decide) (by decide) rfl rfl
  refine lv_dadd hx hb dX2_highest_38 (fR_nn r_139) ?_
  rw [show FP.dadd x2 (FP.ddiv (FP.i2d 1) 4625196817309499392) = TOP dd 1 from by rw [hx2]; rfl]
  have hPc := hP.sub (ws' := [(am, .inr (2, [.int th, .int wo, .int fu, .ref gs, .ref go, .ref gt, .ref gp, .ref gw, .double la, .double ea, .ref gl, .int ln, .int 0])), (go, aD 16 (cA 1) uf), (gt, aI 4 (cA 0) tf), (gp, aI 48 (cA 0) pf), (gw, aD 144 (cA 1) wf)]) [0, 1, 2, 3, 4] rfl
  have hDc := hD.sub (ws' := [(am, .inr (2, [.int th, .int wo, .int fu, .ref gs, .ref go, .ref gt, .ref gp, .ref gw, .double la, .double ea, .ref gl, .int ln, .int 0])), (go, aD 16 (cA 1) uf), (gt, aI 4 (cA 0) tf), (gp, aI 48 (cA 0) pf), (gw, aD 144 (cA 1) wf)]) [0, 1, 2, 3, 4] (by decide) rfl
  have hFc := va_free (wc := [(am, .inr (2, [.int th, .int wo, .int fu, .ref gs, .ref go, .ref gt, .ref gp, .ref gw, .double la, .double ea, .ref gl, .int ln, .int 0])), (go, aD 16 (cA 1) uf), (gt, aI 4 (cA 0) tf), (gp, aI 48 (cA 0) pf), (gw, aD 144 (cA 1) wf)]) hD hS hA [0, 1, 2, 3, 4] rfl
  refine va_calld (va_runV (As := [.int x1, .double (TOP dd 1)]) (rest := []) ⟨hx, hb, hml, hown, hts⟩ (k_X2_above l hst dC dI cA tm tt _ am gs go gt gp gw gl th wo fu la ea ln 0 uf tf pf wf oL oN oE oW k pw fa sa va x1 (TOP dd 1) hb1 hb2 hR hO hT (fR_mono (top_R hd ⟨by decide, by decide⟩) (by omega) (by omega)) hla hea) (cwV 2 hts gX2_highest_X2_above rfl rfl rfl (by decide +kernel) ⟨Nat.le_of_ble_eq_true rfl, Nat.le_of_ble_eq_true rfl⟩) ⟨PcW.blind, va_recv hK hPc (ci := 2) (q0 := 0) rfl rfl, PcW.give hPc hK hDc hE hS hFc⟩ rfl rfl hl.1 rfl (lv_room (Nat.le_of_ble_eq_true rfl)) dX2_highest_39 ⟨Nat.le_of_ble_eq_true rfl, Nat.le_of_ble_eq_true rfl⟩) hS (fun q _ h => hFc q h) hFc (fun v_140 u t H locs ht hvm hp_141 hB hz1 hk1 hS => ?_)
  obtain ⟨hP1, hD1⟩ := hB
  rw [ht] at hP1
  obtain ⟨hP, hD⟩ := va_join (wr := []) (w1 := [(am, .inr (2, [.int th, .int (wo + 1), .int (fu + cFL (LON oL oN oE oW k pw fa sa va (TOP dd 1))), .ref gs, .ref go, .ref gt, .ref gp, .ref gw, .double la, .double ea, .ref gl, .int ln, .int (cFD (LON oL oN oE oW k pw fa sa va (TOP dd 1)))])), (go, aD 16 (cA 1) uf), (gt, aI 4 (cA 0) tf), (gp, aI 48 (cA 0) pf), (gw, aD 144 (cA 1) wf)]) hP hD [0, 1, 2, 3, 4] [] rfl rfl (by decide) (by decide) hk1 hFc hP1 hD1
  have hP := hP.sub (ws' := [(am, .inr (2, [.int th, .int (wo + 1), .int (fu + cFL (LON oL oN oE oW k pw fa sa va (TOP dd 1))), .ref gs, .ref go, .ref gt, .ref gp, .ref gw, .double la, .double ea, .ref gl, .int ln, .int (cFD (LON oL oN oE oW k pw fa sa va (TOP dd 1)))])), (go, aD 16 (cA 1) uf), (gt, aI 4 (cA 0) tf), (gp, aI 48 (cA 0) pf), (gw, aD 144 (cA 1) wf)]) [0, 1, 2, 3, 4] rfl
  have hD := hD.sub (ws' := [(am, .inr (2, [.int th, .int (wo + 1), .int (fu + cFL (LON oL oN oE oW k pw fa sa va (TOP dd 1))), .ref gs, .ref go, .ref gt, .ref gp, .ref gw, .double la, .double ea, .ref gl, .int ln, .int (cFD (LON oL oN oE oW k pw fa sa va (TOP dd 1)))])), (go, aD 16 (cA 1) uf), (gt, aI 4 (cA 0) tf), (gp, aI 48 (cA 0) pf), (gw, aD 144 (cA 1) wf)]) [0, 1, 2, 3, 4] (by decide) rfl
  refine lv_dstore (lv' := [(8, .double v_140), (7, .int 1), (5, .double FP.dconst0), (4, .int 0), (0, .ref am), (1, .int x1), (2, .double x2)]) hx hb dX2_highest_42 hl (by decide) rfl (fun ls hl => ?_)
  refine lv_iload hx hb dX2_highest_44 (lv_at hl 3 rfl) ?_
  refine lv_if_eq (tgt := 57) hx hb dX2_highest_46 (by decide) (fun _ => ?_) (fun c_142 => absurd c_142 (by decide))
  refine lv_iconst (v := 1) hx hb dX2_highest_57 (by decide) ?_
  refine lv_goto (tgt := 62) hx hb dX2_highest_58 (by decide) ?_
  refine lv_istore (lv' := [(10, .int 1), (8, .double v_140), (7, .int 1), (5, .double FP.dconst0), (4, .int 0), (0, .ref am), (1, .int x1), (2, .double x2)]) hx hb dX2_highest_62 hl (by decide) rfl (fun ls hl => ?_)
  refine lv_iload hx hb dX2_highest_64 (lv_at hl 0 rfl) ?_
  refine lv_if_eq (tgt := 74) hx hb dX2_highest_66 (by decide) (fun c_143 => absurd c_143 (by decide)) (fun _ => ?_)
  refine lv_iload hx hb dX2_highest_69 (lv_at hl 2 rfl) ?_
  refine lv_goto (tgt := 76) hx hb dX2_highest_71 (by decide) ?_
  refine lv_istore (lv' := [(4, .int 1), (10, .int 1), (8, .double v_140), (7, .int 1), (5, .double FP.dconst0), (0, .ref am), (1, .int x1), (2, .double x2)]) hx hb dX2_highest_76 hl (by decide) rfl (fun ls hl => ?_)
  refine lv_iload hx hb dX2_highest_78 (lv_at hl 1 rfl) ?_
  refine lv_if_eq (tgt := 88) hx hb dX2_highest_80 (by decide) (fun c_144 => absurd c_144 (by decide)) (fun _ => ?_)
  refine lv_dload hx hb dX2_highest_83 (lv_at hl 2 rfl) ?_
  refine lv_goto (tgt := 90) hx hb dX2_highest_85 (by decide) ?_
  refine lv_dstore (lv' := [(5, .double v_140), (4, .int 1), (10, .int 1), (8, .double v_140), (7, .int 1), (0, .ref am), (1, .int x1), (2, .double x2)]) hx hb dX2_highest_90 hl (by decide) rfl (fun ls hl => ?_)
  refine lv_iinc (v := 2) (lv' := [(7, .int 2), (5, .double v_140), (4, .int 1), (10, .int 1), (8, .double v_140), (0, .ref am), (1, .int x1), (2, .double x2)]) hx hb dX2_highest_92 hl (k := 4) rfl (by first | rfl | decide) (by decide) rfl (fun ls hl => ?_)
  refine lv_goto (tgt := 14) hx hb dX2_highest_95 (by decide) ?_
  by_cases hc1 : cFD (LON oL oN oE oW k pw fa sa va (TOP dd 1)) = 0
  · obtain ⟨hq, hcf⟩ := ab_ok hp_141 hc1
    rw [hcf, hc1, i0] at hP hD
    have hP : va_P (dC, dI) vwCl [(am, .inr (2, [.int th, .int (wo + nI (2 - 1)), .int fu, .ref gs, .ref go, .ref gt, .ref gp, .ref gw, .double la, .double ea, .ref gl, .int ln, .int 0])), (go, aD 16 (cA 1) uf), (gt, aI 4 (cA 0) tf), (gp, aI 48 (cA 0) pf), (gw, aD 144 (cA 1) wf)] H := by rw [show wo + nI (2 - 1) = wo + 1 from rfl]; exact hP
    have hD : va_D A [(am, .inr (2, [.int th, .int (wo + nI (2 - 1)), .int fu, .ref gs, .ref go, .ref gt, .ref gp, .ref gw, .double la, .double ea, .ref gl, .int ln, .int 0])), (go, aD 16 (cA 1) uf), (gt, aI 4 (cA 0) tf), (gp, aI 48 (cA 0) pf), (gw, aD 144 (cA 1) wf)] := by rw [show wo + nI (2 - 1) = wo + 1 from rfl]; exact hD
    exact hloop14 17 2 _ _ (by decide) (by decide) (by decide) (by decide) (PGR_o hq) _ _ _ hP hD hS (lv_sub hl [5, 6, 7, 2, 1, 0] rfl)
  · obtain ⟨hq, hcf, hcd⟩ := ab_er la ea hc1
    rw [hcf, hcd] at hP hD
    have e8 := HIGH_e (show PGR (HEI la ea oL oN oE oW k pw fa sa va) dd = (1, .error xIS) from PGR_e hq)
    have hP : va_P (dC, dI) vwCl [(am, .inr (2, [.int th, .int (wo + nI 1), .int (fu + 1), .ref gs, .ref go, .ref gt, .ref gp, .ref gw, .double la, .double ea, .ref gl, .int ln, .int 1])), (go, aD 16 (cA 1) uf), (gt, aI 4 (cA 0) tf), (gp, aI 48 (cA 0) pf), (gw, aD 144 (cA 1) wf)] H := by rw [wk_1]; exact hP
    have hD : va_D A [(am, .inr (2, [.int th, .int (wo + nI 1), .int (fu + 1), .ref gs, .ref go, .ref gt, .ref gp, .ref gw, .double la, .double ea, .ref gl, .int ln, .int 1])), (go, aD 16 (cA 1) uf), (gt, aI 4 (cA 0) tf), (gp, aI 48 (cA 0) pf), (gw, aD 144 (cA 1) wf)] := by rw [wk_1]; exact hD
    refine lv_iload hx hb dX2_highest_14 (lv_at hl 0 rfl) ?_
    refine lv_bipush (v := 15) hx hb dX2_highest_16 (by decide) ?_
    refine lv_icmp_gt (tgt := 98) hx hb dX2_highest_18 (by decide) (fun c_145 => absurd c_145 (by decide)) (fun _ => ?_)
    refine lv_aload_n hx hb dX2_highest_21 rfl (lv_at hl 5 rfl) ?_
    refine va_get (D := (dC, dI)) (ci := 2) (v := .int 1) (C := RX2) (T := TX2) (N := 13) hx hb hts hin2 hown hK hP 0 rfl rfl 12 (by decide) (hts (.fieldLink RX2 202 "SkyAlmanacModel" "failed" "Z") (by decide +kernel)) (fun _ h9 => h9) rfl dX2_highest_22 ?_
    refine lv_if_ne (tgt := 98) hx hb dX2_highest_25 (by decide) (fun _ => ?_) (fun c_146 => absurd c_146 (by decide))
    refine lv_dload_n hx hb dX2_highest_98 rfl (lv_at hl 7 rfl) ?_
    refine lv_iload hx hb dX2_highest_99 (lv_at hl 2 rfl) ?_
    refine lv_iconst (v := 1) hx hb dX2_highest_101 (by decide) ?_
    refine lv_isub hx hb dX2_highest_102 ?_
    refine lv_i2d hx hb dX2_highest_103 ?_
    refine lv_ldc2d hx hb hown (hts (.constantDouble RX2 239 (4625196817309499392)) (by decide +kernel)) dX2_highest_104 ?_
    have r_147 : fR 4625196817309499392 17179869184 17179869184 := fR_lit (by decide +kernel)
    have r_148 := fR_div (i2d_R (1 - 1)) r_147 (by decide) (-144115188075855872) 144115188075855872 (by decide) (by decide) rfl rfl
    refine lv_ddiv hx hb dX2_highest_107 (fR_nn r_148) ?_
    have r_149 := fR_add hx2R r_148 (-2449958197289549824) 2449958197289549824 (by decide) (by decide) rfl rfl
    refine lv_dadd hx hb dX2_highest_108 (fR_nn r_149) ?_
    refine lv_dstore (lv' := [(7, .double (FP.dadd x2 (FP.ddiv (FP.i2d (1 - 1)) 4625196817309499392))), (5, .double v_140), (4, .int 1), (10, .int 1), (0, .ref am), (1, .int x1), (2, .double x2)]) hx hb dX2_highest_109 hl (by decide) rfl (fun ls hl => ?_)
    refine lv_dload_n hx hb dX2_highest_111 rfl (lv_at hl 6 rfl) ?_
    refine lv_iload hx hb dX2_highest_112 (lv_at hl 2 rfl) ?_
    refine lv_iconst (v := 1) hx hb dX2_highest_114 (by decide) ?_
    refine lv_iadd hx hb dX2_highest_115 ?_
    refine lv_i2d hx hb dX2_highest_116 ?_
    refine lv_ldc2d hx hb hown (hts (.constantDouble RX2 239 (4625196817309499392)) (by decide +kernel)) dX2_highest_117 ?_
    have r_150 : fR 4625196817309499392 17179869184 17179869184 := fR_lit (by decide +kernel)
    have r_151 := fR_div (i2d_R (1 + 1)) r_150 (by decide) (-144115188075855872) 144115188075855872 (by decide) (by decide) rfl rfl
    refine lv_ddiv hx hb dX2_highest_120 (fR_nn r_151) ?_
    have r_152 := fR_add hx2R r_151 (-2449958197289549824) 2449958197289549824 (by decide) (by decide) rfl rfl
    refine lv_dadd hx hb dX2_highest_121 (fR_nn r_152) ?_
    refine lv_dstore (lv' := [(9, .double (FP.dadd x2 (FP.ddiv (FP.i2d (1 + 1)) 4625196817309499392))), (7, .double (FP.dadd x2 (FP.ddiv (FP.i2d (1 - 1)) 4625196817309499392))), (5, .double v_140), (4, .int 1), (0, .ref am), (1, .int x1), (2, .double x2)]) hx hb dX2_highest_122 hl (by decide) rfl (fun ls hl => ?_)
    refine lv_iconst (v := 0) hx hb dX2_highest_124 (by decide) ?_
    refine lv_istore (lv' := [(11, .int (nI 0)), (9, .double (FP.dadd x2 (FP.ddiv (FP.i2d (1 + 1)) 4625196817309499392))), (7, .double (FP.dadd x2 (FP.ddiv (FP.i2d (1 - 1)) 4625196817309499392))), (5, .double v_140), (4, .int 1), (0, .ref am), (1, .int x1), (2, .double x2)]) hx hb dX2_highest_125 hl (by decide) rfl (fun ls hl => ?_)
    refine lv_iload hx hb dX2_highest_127 (lv_at hl 0 rfl) ?_
    refine lv_bipush (v := 24) hx hb dX2_highest_129 (by decide) ?_
    refine lv_icmp_ge (tgt := 247) hx hb dX2_highest_131 (by decide) (fun c_153 => ?_) (fun c_153 => ?_)
    · refine lv_aload_n hx hb dX2_highest_247 rfl (lv_at hl 5 rfl) ?_
      refine va_get (D := (dC, dI)) (ci := 2) (v := .int 1) (C := RX2) (T := TX2) (N := 13) hx hb hts hin2 hown hK hP 0 rfl rfl 12 (by decide) (hts (.fieldLink RX2 202 "SkyAlmanacModel" "failed" "Z") (by decide +kernel)) (fun _ h9 => h9) rfl dX2_highest_248 ?_
      refine lv_if_eq (tgt := 261) hx hb dX2_highest_251 (by decide) (fun c_154 => absurd c_154 (by decide)) (fun _ => ?_)
      refine lv_aload_n hx hb dX2_highest_254 rfl (lv_at hl 5 rfl) ?_
      refine lv_iconst (v := 3) hx hb dX2_highest_255 (by decide) ?_
      have hPc := hP.sub (ws' := [(am, .inr (2, [.int th, .int (wo + nI 1), .int (fu + 1), .ref gs, .ref go, .ref gt, .ref gp, .ref gw, .double la, .double ea, .ref gl, .int ln, .int 1]))]) [0] rfl
      have hDc := hD.sub (ws' := [(am, .inr (2, [.int th, .int (wo + nI 1), .int (fu + 1), .ref gs, .ref go, .ref gt, .ref gp, .ref gw, .double la, .double ea, .ref gl, .int ln, .int 1]))]) [0] (by decide) rfl
      have hFc := va_free (wc := [(am, .inr (2, [.int th, .int (wo + nI 1), .int (fu + 1), .ref gs, .ref go, .ref gt, .ref gp, .ref gw, .double la, .double ea, .ref gl, .int ln, .int 1]))]) hD hS hA [0] rfl
      refine va_calli (va_runV (As := [.int 3]) (rest := []) ⟨hx, hb, hml, hown, hts⟩ (k_X2_fail l hst dC dI cA tm tt _ am gs go gt gp gw gl th (wo + nI 1) (fu + 1) la ea ln 1 3) (cwV 1 hts gX2_highest_X2_fail rfl rfl rfl (by decide +kernel) ⟨Nat.le_of_ble_eq_true rfl, Nat.le_of_ble_eq_true rfl⟩) ⟨PcW.blind, va_recv hK hPc (ci := 2) (q0 := 0) rfl rfl, PcW.give hPc hK hDc hE hS hFc⟩ rfl rfl hl.1 rfl (lv_room (Nat.le_of_ble_eq_true rfl)) dX2_highest_256 ⟨Nat.le_of_ble_eq_true rfl, Nat.le_of_ble_eq_true rfl⟩) hS (fun q _ h => hFc q h) hFc (fun v_155 u t H locs ht hvm hp_156 hB hz1 hk1 hS => ?_)
      obtain ⟨hP1, hD1⟩ := hB
      rw [ht] at hP1
      obtain ⟨hP, hD⟩ := va_join (wr := [(go, aD 16 (cA 1) uf), (gt, aI 4 (cA 0) tf), (gp, aI 48 (cA 0) pf), (gw, aD 144 (cA 1) wf)]) (w1 := [(am, .inr (2, [.int 3, .int (wo + nI 1), .int (fu + 1), .ref gs, .ref go, .ref gt, .ref gp, .ref gw, .double la, .double ea, .ref gl, .int ln, .int 1]))]) hP hD [0] [1, 2, 3, 4] rfl rfl (by decide) (by decide) hk1 hFc hP1 hD1
      have hP := hP.sub (ws' := [(am, .inr (2, [.int 3, .int (wo + nI 1), .int (fu + 1), .ref gs, .ref go, .ref gt, .ref gp, .ref gw, .double la, .double ea, .ref gl, .int ln, .int 1])), (go, aD 16 (cA 1) uf), (gt, aI 4 (cA 0) tf), (gp, aI 48 (cA 0) pf), (gw, aD 144 (cA 1) wf)]) [4, 0, 1, 2, 3] rfl
      have hD := hD.sub (ws' := [(am, .inr (2, [.int 3, .int (wo + nI 1), .int (fu + 1), .ref gs, .ref go, .ref gt, .ref gp, .ref gw, .double la, .double ea, .ref gl, .int ln, .int 1])), (go, aD 16 (cA 1) uf), (gt, aI 4 (cA 0) tf), (gp, aI 48 (cA 0) pf), (gw, aD 144 (cA 1) wf)]) [4, 0, 1, 2, 3] (by decide) rfl
      obtain rfl := hp_156
      refine lv_i2d hx hb dX2_highest_259 ?_
      have hP : va_P (dC, dI) vwCl [(am, .inr (2, [.int (cdE (HIGH (HEI la ea oL oN oE oW k pw fa sa va) dd).2), .int (wo + nI (HIGH (HEI la ea oL oN oE oW k pw fa sa va) dd).1), .int (fu + cFL (HIGH (HEI la ea oL oN oE oW k pw fa sa va) dd).2), .ref gs, .ref go, .ref gt, .ref gp, .ref gw, .double la, .double ea, .ref gl, .int ln, .int (cFL (HIGH (HEI la ea oL oN oE oW k pw fa sa va) dd).2)])), (go, aD 16 (cA 1) uf), (gt, aI 4 (cA 0) tf), (gp, aI 48 (cA 0) pf), (gw, aD 144 (cA 1) wf)] H := by rw [e8]; simp only; rw [show cdE (.error xIS : Except String UInt64) = 3 from rfl, cFL_IS]; exact hP
      have hD : va_D A [(am, .inr (2, [.int (cdE (HIGH (HEI la ea oL oN oE oW k pw fa sa va) dd).2), .int (wo + nI (HIGH (HEI la ea oL oN oE oW k pw fa sa va) dd).1), .int (fu + cFL (HIGH (HEI la ea oL oN oE oW k pw fa sa va) dd).2), .ref gs, .ref go, .ref gt, .ref gp, .ref gw, .double la, .double ea, .ref gl, .int ln, .int (cFL (HIGH (HEI la ea oL oN oE oW k pw fa sa va) dd).2)])), (go, aD 16 (cA 1) uf), (gt, aI 4 (cA 0) tf), (gp, aI 48 (cA 0) pf), (gw, aD 144 (cA 1) wf)] := by rw [e8]; simp only; rw [show cdE (.error xIS : Except String UInt64) = 3 from rfl, cFL_IS]; exact hD
      subst hQQ
      exact W.dret hx hb hr (fun t ht hW => ⟨⟨_, (), rfl, (fun v hv => by rw [e8] at hv; cases hv), ⟨by rw [ht]; exact hP, hD⟩⟩, hS.F ht⟩) hS.2.2 dX2_highest_260
    · refine lv_aload_n hx hb dX2_highest_134 rfl (lv_at hl 5 rfl) ?_
      refine va_get (D := (dC, dI)) (ci := 2) (v := .int 1) (C := RX2) (T := TX2) (N := 13) hx hb hts hin2 hown hK hP 0 rfl rfl 12 (by decide) (hts (.fieldLink RX2 202 "SkyAlmanacModel" "failed" "Z") (by decide +kernel)) (fun _ h9 => h9) rfl dX2_highest_135 ?_
      refine lv_if_ne (tgt := 247) hx hb dX2_highest_138 (by decide) (fun _ => ?_) (fun c_157 => absurd c_157 (by decide))
      refine lv_aload_n hx hb dX2_highest_247 rfl (lv_at hl 5 rfl) ?_
      refine va_get (D := (dC, dI)) (ci := 2) (v := .int 1) (C := RX2) (T := TX2) (N := 13) hx hb hts hin2 hown hK hP 0 rfl rfl 12 (by decide) (hts (.fieldLink RX2 202 "SkyAlmanacModel" "failed" "Z") (by decide +kernel)) (fun _ h9 => h9) rfl dX2_highest_248 ?_
      refine lv_if_eq (tgt := 261) hx hb dX2_highest_251 (by decide) (fun c_158 => absurd c_158 (by decide)) (fun _ => ?_)
      refine lv_aload_n hx hb dX2_highest_254 rfl (lv_at hl 5 rfl) ?_
      refine lv_iconst (v := 3) hx hb dX2_highest_255 (by decide) ?_
      have hPc := hP.sub (ws' := [(am, .inr (2, [.int th, .int (wo + nI 1), .int (fu + 1), .ref gs, .ref go, .ref gt, .ref gp, .ref gw, .double la, .double ea, .ref gl, .int ln, .int 1]))]) [0] rfl
      have hDc := hD.sub (ws' := [(am, .inr (2, [.int th, .int (wo + nI 1), .int (fu + 1), .ref gs, .ref go, .ref gt, .ref gp, .ref gw, .double la, .double ea, .ref gl, .int ln, .int 1]))]) [0] (by decide) rfl
      have hFc := va_free (wc := [(am, .inr (2, [.int th, .int (wo + nI 1), .int (fu + 1), .ref gs, .ref go, .ref gt, .ref gp, .ref gw, .double la, .double ea, .ref gl, .int ln, .int 1]))]) hD hS hA [0] rfl
      refine va_calli (va_runV (As := [.int 3]) (rest := []) ⟨hx, hb, hml, hown, hts⟩ (k_X2_fail l hst dC dI cA tm tt _ am gs go gt gp gw gl th (wo + nI 1) (fu + 1) la ea ln 1 3) (cwV 1 hts gX2_highest_X2_fail rfl rfl rfl (by decide +kernel) ⟨Nat.le_of_ble_eq_true rfl, Nat.le_of_ble_eq_true rfl⟩) ⟨PcW.blind, va_recv hK hPc (ci := 2) (q0 := 0) rfl rfl, PcW.give hPc hK hDc hE hS hFc⟩ rfl rfl hl.1 rfl (lv_room (Nat.le_of_ble_eq_true rfl)) dX2_highest_256 ⟨Nat.le_of_ble_eq_true rfl, Nat.le_of_ble_eq_true rfl⟩) hS (fun q _ h => hFc q h) hFc (fun v_159 u t H locs ht hvm hp_160 hB hz1 hk1 hS => ?_)
      obtain ⟨hP1, hD1⟩ := hB
      rw [ht] at hP1
      obtain ⟨hP, hD⟩ := va_join (wr := [(go, aD 16 (cA 1) uf), (gt, aI 4 (cA 0) tf), (gp, aI 48 (cA 0) pf), (gw, aD 144 (cA 1) wf)]) (w1 := [(am, .inr (2, [.int 3, .int (wo + nI 1), .int (fu + 1), .ref gs, .ref go, .ref gt, .ref gp, .ref gw, .double la, .double ea, .ref gl, .int ln, .int 1]))]) hP hD [0] [1, 2, 3, 4] rfl rfl (by decide) (by decide) hk1 hFc hP1 hD1
      have hP := hP.sub (ws' := [(am, .inr (2, [.int 3, .int (wo + nI 1), .int (fu + 1), .ref gs, .ref go, .ref gt, .ref gp, .ref gw, .double la, .double ea, .ref gl, .int ln, .int 1])), (go, aD 16 (cA 1) uf), (gt, aI 4 (cA 0) tf), (gp, aI 48 (cA 0) pf), (gw, aD 144 (cA 1) wf)]) [4, 0, 1, 2, 3] rfl
      have hD := hD.sub (ws' := [(am, .inr (2, [.int 3, .int (wo + nI 1), .int (fu + 1), .ref gs, .ref go, .ref gt, .ref gp, .ref gw, .double la, .double ea, .ref gl, .int ln, .int 1])), (go, aD 16 (cA 1) uf), (gt, aI 4 (cA 0) tf), (gp, aI 48 (cA 0) pf), (gw, aD 144 (cA 1) wf)]) [4, 0, 1, 2, 3] (by decide) rfl
      obtain rfl := hp_160
      refine lv_i2d hx hb dX2_highest_259 ?_
      have hP : va_P (dC, dI) vwCl [(am, .inr (2, [.int (cdE (HIGH (HEI la ea oL oN oE oW k pw fa sa va) dd).2), .int (wo + nI (HIGH (HEI la ea oL oN oE oW k pw fa sa va) dd).1), .int (fu + cFL (HIGH (HEI la ea oL oN oE oW k pw fa sa va) dd).2), .ref gs, .ref go, .ref gt, .ref gp, .ref gw, .double la, .double ea, .ref gl, .int ln, .int (cFL (HIGH (HEI la ea oL oN oE oW k pw fa sa va) dd).2)])), (go, aD 16 (cA 1) uf), (gt, aI 4 (cA 0) tf), (gp, aI 48 (cA 0) pf), (gw, aD 144 (cA 1) wf)] H := by rw [e8]; simp only; rw [show cdE (.error xIS : Except String UInt64) = 3 from rfl, cFL_IS]; exact hP
      have hD : va_D A [(am, .inr (2, [.int (cdE (HIGH (HEI la ea oL oN oE oW k pw fa sa va) dd).2), .int (wo + nI (HIGH (HEI la ea oL oN oE oW k pw fa sa va) dd).1), .int (fu + cFL (HIGH (HEI la ea oL oN oE oW k pw fa sa va) dd).2), .ref gs, .ref go, .ref gt, .ref gp, .ref gw, .double la, .double ea, .ref gl, .int ln, .int (cFL (HIGH (HEI la ea oL oN oE oW k pw fa sa va) dd).2)])), (go, aD 16 (cA 1) uf), (gt, aI 4 (cA 0) tf), (gp, aI 48 (cA 0) pf), (gw, aD 144 (cA 1) wf)] := by rw [e8]; simp only; rw [show cdE (.error xIS : Except String UInt64) = 3 from rfl, cFL_IS]; exact hD
      subst hQQ
      exact W.dret hx hb hr (fun t ht hW => ⟨⟨_, (), rfl, (fun v hv => by rw [e8] at hv; cases hv), ⟨by rw [ht]; exact hP, hD⟩⟩, hS.F ht⟩) hS.2.2 dX2_highest_260
