theorem ab_ok {la ea oL oN oE oW : UInt64} {k : Nat} {pw : Nat → Int32} {fa sa va : Nat → UInt64} {t r : UInt64} (h : ∀ v, HEI la ea oL oN oE oW k pw fa sa va t = .ok v → r = v) (c : cFD (LON oL oN oE oW k pw fa sa va t) = 0) : HEI la ea oL oN oE oW k pw fa sa va t = .ok r ∧ cFL (LON oL oN oE oW k pw fa sa va t) = 0 := by
  cases hA : LON oL oN oE oW k pw fa sa va t with
  | error e => rw [hA] at c; exact absurd (show (1 : Int32) = 0 from c) (by decide)
  | ok v =>
    refine ⟨?_, rfl⟩
    have e : HEI la ea oL oN oE oW k pw fa sa va t = .ok (HGT la ea t v) := by unfold HEI; rw [xb_ok hA]
    rw [e, h _ e]
theorem ab_er (la ea : UInt64) {oL oN oE oW : UInt64} {k : Nat} {pw : Nat → Int32} {fa sa va : Nat → UInt64} {t : UInt64} (c : ¬ cFD (LON oL oN oE oW k pw fa sa va t) = 0) : HEI la ea oL oN oE oW k pw fa sa va t = .error xIS ∧ cFL (LON oL oN oE oW k pw fa sa va t) = 1 ∧ cFD (LON oL oN oE oW k pw fa sa va t) = 1 := by
  cases hA : LON oL oN oE oW k pw fa sa va t with
  | error e =>
    have e1 := LON_err hA
    subst e1
    exact ⟨by unfold HEI; rw [xb_err hA], rfl, rfl⟩
  | ok v => rw [hA] at c; exact absurd rfl c
theorem nc_fd {hh : UInt64 → Except String UInt64} {rs : Int32} {a b : UInt64} {n : Nat} {x : CE UInt64} {v : UInt64} (h : x = (n, .ok v)) : cFL x.2 = 0 := by rw [h]; rfl
set_option maxHeartbeats 4000000 in
set_option maxRecDepth 100000 in
theorem k_X2_crossing (l : Launch) (hst : l.stackTraces = false) (dC : Nat → ClassId) (dI : Nat → Nat → Nat) (cA : Nat → ClassId) (tm tt sz : Nat) (am gs go gt gp gw gl : Nat) (th wo fu : Int32) (la ea : UInt64) (ln fd : Int32) (uf : Nat → UInt64) (tf : Nat → Int32) (pf : Nat → Int32) (wf : Nat → UInt64) (oL oN oE oW : UInt64) (k : Nat) (pw : Nat → Int32) (fa sa va : Nat → UInt64) (x1 : Int32) (x2 : UInt64) (x3 : UInt64) (x4 : Int32) (hb1 : ¬ x1 < 0) (hb2 : ¬ 3 < x1) (hR : bR (Int32.toNatClampNeg x1) uf tf pf wf oL oN oE oW k pw fa sa va) (hO : oOK oL oN oE oW) (hT : tOK k fa sa va) (hla : fR la (-96636764160) 96636764160) (hea : fR ea (-193273528320) 193273528320) (lo hi : Int) (hlo : -2251799813685248 ≤ lo) (hhi : hi ≤ 2251799813685248) (hlh : lo ≤ hi) (ha2 : fR x2 lo hi) (ha3 : fR x3 lo hi) : Met l yX2_crossing wsX2_crossing ({ frames := 6, cells := 0, slots := 0, locals := 182 }) (PcW dC dI cA tm tt sz [.ref am, .int x1, .double x2, .double x3, .int x4] [(am, .inr (2, [.int th, .int wo, .int fu, .ref gs, .ref go, .ref gt, .ref gp, .ref gw, .double la, .double ea, .ref gl, .int ln, .int fd])), (go, aD 16 (cA 1) uf), (gt, aI 4 (cA 0) tf), (gp, aI 48 (cA 0) pf), (gw, aD 144 (cA 1) wf)]) (va_Qd (fun r (_ : Unit) => ∀ v, (ncL (HEI la ea oL oN oE oW k pw fa sa va) x4 20 x2 x3).2 = .ok v → r = v) (fun _ t => WB dC dI (va_A [(am, .inr (2, [.int th, .int wo, .int fu, .ref gs, .ref go, .ref gt, .ref gp, .ref gw, .double la, .double ea, .ref gl, .int ln, .int fd])), (go, aD 16 (cA 1) uf), (gt, aI 4 (cA 0) tf), (gp, aI 48 (cA 0) pf), (gw, aD 144 (cA 1) wf)] sz) [(am, .inr (2, [.int th, .int (wo + nI (ncL (HEI la ea oL oN oE oW k pw fa sa va) x4 20 x2 x3).1), .int (fu + cFL (ncL (HEI la ea oL oN oE oW k pw fa sa va) x4 20 x2 x3).2), .ref gs, .ref go, .ref gt, .ref gp, .ref gw, .double la, .double ea, .ref gl, .int ln, .int (cFL (ncL (HEI la ea oL oN oE oW k pw fa sa va) x4 20 x2 x3).2)])), (go, aD 16 (cA 1) uf), (gt, aI 4 (cA 0) tf), (gp, aI 48 (cA 0) pf), (gw, aD 144 (cA 1) wf)] t) (va_A [(am, .inr (2, [.int th, .int wo, .int fu, .ref gs, .ref go, .ref gt, .ref gp, .ref gw, .double la, .double ea, .ref gl, .int ln, .int fd])), (go, aD 16 (cA 1) uf), (gt, aI 4 (cA 0) tf), (gp, aI 48 (cA 0) pf), (gw, aD 144 (cA 1) wf)] sz)) 0 0 (va_A [(am, .inr (2, [.int th, .int wo, .int fu, .ref gs, .ref go, .ref gt, .ref gp, .ref gw, .double la, .double ea, .ref gl, .int ln, .int fd])), (go, aD 16 (cA 1) uf), (gt, aI 4 (cA 0) tf), (gp, aI 48 (cA 0) pf), (gw, aD 144 (cA 1) wf)] sz) := by
  refine Met.ofW (cc := cX2_crossing) (maxL := 17) (ret := (some .double)) (by decide) rfl ?_
  intro p e s m args below meth c s₁ B hml hv
  obtain ⟨rfl, hsz, hP, hK, hD0, hE⟩ := hv
  subst hsz
  have hD := hD0.self (sz := s.heap.size)
  generalize hAe : va_A [(am, .inr (2, [.int th, .int wo, .int fu, .ref gs, .ref go, .ref gt, .ref gp, .ref gw, .double la, .double ea, .ref gl, .int ln, .int fd])), (go, aD 16 (cA 1) uf), (gt, aI 4 (cA 0) tf), (gp, aI 48 (cA 0) pf), (gw, aD 144 (cA 1) wf)] s.heap.size = A at hD hE ⊢
  have hA : ∀ q : Nat, s.heap.size ≤ q → A q := fun q h => by rw [← hAe]; exact Or.inr h
  have hS : va_S A s.heap s.heap [] := va_S.rf
  have hP : va_P (dC, dI) vwCl [(am, .inr (2, [.int th, .int wo, .int fu, .ref gs, .ref go, .ref gt, .ref gp, .ref gw, .double la, .double ea, .ref gl, .int ln, .int fd])), (go, aD 16 (cA 1) uf), (gt, aI 4 (cA 0) tf), (gp, aI 48 (cA 0) pf), (gw, aD 144 (cA 1) wf)] s.heap := hP
  have hx := B.exec
  have hb := B.bytes
  have hr := B.returns
  have hts := atoms_spec (ws := wsX2_crossing) B.pre
  have hown : s.vm.findClass RX2 = some m.cls := findClass_of_methodNamed B.named
  have hlocks := B.notSynchronized
  have hl := lv_entry ([.ref am, .int x1, .double x2, .double x3, .int x4]) (n := 17) (Nat.le_of_ble_eq_true rfl)
  rw [lg_entry_eq]
  generalize (lg_sl ([.ref am, .int x1, .double x2, .double x3, .int x4]) ++ List.replicate (17 - (lg_sl ([.ref am, .int x1, .double x2, .double x3, .int x4])).length) Slot.unset).toArray = ls at hl ⊢
  have hl : lv_has ls 17 [(0, .ref am), (1, .int x1), (2, .double x2), (4, .double x3), (6, .int x4)] := hl
  have hin2 : ∀ w ∈ u_ws RX2 TX2 13, w ∈ wsX2_crossing := by decide +kernel
  refine W.gen (fun QQ hQQ => ?_)

  have hloop10 : ∀ (n : Nat) (j : Nat) (ta tb : UInt64) (fdv : Int32), 21 - j ≤ n → j ≤ 20 → (1 ≤ j → fdv = 0) → fR ta lo hi → fR tb lo hi → ncL (HEI la ea oL oN oE oW k pw fa sa va) x4 20 x2 x3 = addc j (ncL (HEI la ea oL oN oE oW k pw fa sa va) x4 (20 - j) ta tb) → ∀ (H : Heap) (locs : List Loc) (ls : Array Slot), va_P (dC, dI) vwCl [(am, .inr (2, [.int th, .int (wo + nI j), .int fu, .ref gs, .ref go, .ref gt, .ref gp, .ref gw, .double la, .double ea, .ref gl, .int ln, .int fdv])), (go, aD 16 (cA 1) uf), (gt, aI 4 (cA 0) tf), (gp, aI 48 (cA 0) pf), (gw, aD 144 (cA 1) wf)] H → va_D A [(am, .inr (2, [.int th, .int (wo + nI j), .int fu, .ref gs, .ref go, .ref gt, .ref gp, .ref gw, .double la, .double ea, .ref gl, .int ln, .int fdv])), (go, aD 16 (cA 1) uf), (gt, aI 4 (cA 0) tf), (gp, aI 48 (cA 0) pf), (gw, aD 144 (cA 1) wf)] → va_S A s.heap H locs → lv_has ls 17 [(0, .ref am), (1, .int x1), (6, .int x4), (7, .double ta), (9, .double tb), (11, .int (nI j))] → W p l e (headSpec wsX2_crossing ({ frames := 6, cells := 0, slots := 0, locals := 182 })).room s m ([.ref am, .int x1, .double x2, .double x3, .int x4] : List Value).toArray below meth c H locs (0) (0) QQ (F0 m 10 ls []) := by
    intro n
    induction n with
    | zero =>
      intro j ta tb fdv hf hj hfd ha hb9 hQ
      exact absurd hf (by omega)
    | succ n ih =>
      intro j ta tb fdv hf hj hfd ha hb9 hQ H locs ls hP hD hS hl
      refine lv_iload hx hb dX2_crossing_10 (lv_at hl 5 rfl) ?_
      refine lv_bipush (v := 20) hx hb dX2_crossing_12 (by decide) ?_
      refine lv_icmp_ge (tgt := 104) hx hb dX2_crossing_14 (by decide) (fun c_1 => ?_) (fun c_1 => ?_)
      · have hj9 : j = 20 := by
          rcases Nat.lt_or_ge j 20 with h9 | h9
          · exact absurd c_1 (nI_lt20 (by omega))
          · omega
        have e0 : ncL (HEI la ea oL oN oE oW k pw fa sa va) x4 20 x2 x3 = (j, .ok tb) := by rw [hQ, hj9]; rfl
        have hf0 := hfd (by omega)
        subst hf0
        have hP : va_P (dC, dI) vwCl [(am, .inr (2, [.int th, .int (wo + nI (ncL (HEI la ea oL oN oE oW k pw fa sa va) x4 20 x2 x3).1), .int (fu + cFL (ncL (HEI la ea oL oN oE oW k pw fa sa va) x4 20 x2 x3).2), .ref gs, .ref go, .ref gt, .ref gp, .ref gw, .double la, .double ea, .ref gl, .int ln, .int (cFL (ncL (HEI la ea oL oN oE oW k pw fa sa va) x4 20 x2 x3).2)])), (go, aD 16 (cA 1) uf), (gt, aI 4 (cA 0) tf), (gp, aI 48 (cA 0) pf), (gw, aD 144 (cA 1) wf)] H := by rw [e0]; simp only; rw [cFL_ok, i0]; exact hP
        have hD : va_D A [(am, .inr (2, [.int th, .int (wo + nI (ncL (HEI la ea oL oN oE oW k pw fa sa va) x4 20 x2 x3).1), .int (fu + cFL (ncL (HEI la ea oL oN oE oW k pw fa sa va) x4 20 x2 x3).2), .ref gs, .ref go, .ref gt, .ref gp, .ref gw, .double la, .double ea, .ref gl, .int ln, .int (cFL (ncL (HEI la ea oL oN oE oW k pw fa sa va) x4 20 x2 x3).2)])), (go, aD 16 (cA 1) uf), (gt, aI 4 (cA 0) tf), (gp, aI 48 (cA 0) pf), (gw, aD 144 (cA 1) wf)] := by rw [e0]; simp only; rw [cFL_ok, i0]; exact hD
        refine lv_dload hx hb dX2_crossing_104 (lv_at hl 4 rfl) ?_
        subst hQQ
        exact W.dret hx hb hr (fun t ht hW => ⟨⟨_, (), rfl, (fun v hv => by rw [e0] at hv; cases hv; rfl), ⟨by rw [ht]; exact hP, hD⟩⟩, hS.F ht⟩) hS.2.2 dX2_crossing_106
      · have hj6 := nI_ge_ (b := 20) (n := 20) rfl (by omega) c_1
        have hm := mid_R ha hb9 (by omega) (by omega) hlh
        refine lv_dload hx hb dX2_crossing_17 (lv_at hl 3 rfl) ?_
        refine lv_dload hx hb dX2_crossing_19 (lv_at hl 4 rfl) ?_
        refine lv_dadd hx hb dX2_crossing_21 (fR_nn hm.2) ?_
        refine lv_ldc2d hx hb hown (hts (.constantDouble RX2 209 (4611686018427387904)) (by decide +kernel)) dX2_crossing_22 ?_
        have r_2 : fR 4611686018427387904 2147483648 2147483648 := fR_lit (by decide +kernel)
        refine lv_ddiv hx hb dX2_crossing_25 (fR_nn hm.1) ?_
        refine lv_dstore (lv' := [(12, .double (MID ta tb)), (0, .ref am), (1, .int x1), (6, .int x4), (7, .double ta), (9, .double tb), (11, .int (nI j))]) hx hb dX2_crossing_26 hl (by decide) rfl (fun ls hl => ?_)
        refine lv_aload_n hx hb dX2_crossing_28 rfl (lv_at hl 1 rfl) ?_
        refine lv_iload_n hx hb dX2_crossing_29 rfl (lv_at hl 2 rfl) ?_
        refine lv_dload hx hb dX2_crossing_30 (lv_at hl 0 rfl) ?_
        have hPc := hP.sub (ws' := [(am, .inr (2, [.int th, .int (wo + nI j), .int fu, .ref gs, .ref go, .ref gt, .ref gp, .ref gw, .double la, .double ea, .ref gl, .int ln, .int fdv])), (go, aD 16 (cA 1) uf), (gt, aI 4 (cA 0) tf), (gp, aI 48 (cA 0) pf), (gw, aD 144 (cA 1) wf)]) [0, 1, 2, 3, 4] rfl
        have hDc := hD.sub (ws' := [(am, .inr (2, [.int th, .int (wo + nI j), .int fu, .ref gs, .ref go, .ref gt, .ref gp, .ref gw, .double la, .double ea, .ref gl, .int ln, .int fdv])), (go, aD 16 (cA 1) uf), (gt, aI 4 (cA 0) tf), (gp, aI 48 (cA 0) pf), (gw, aD 144 (cA 1) wf)]) [0, 1, 2, 3, 4] (by decide) rfl
        have hFc := va_free (wc := [(am, .inr (2, [.int th, .int (wo + nI j), .int fu, .ref gs, .ref go, .ref gt, .ref gp, .ref gw, .double la, .double ea, .ref gl, .int ln, .int fdv])), (go, aD 16 (cA 1) uf), (gt, aI 4 (cA 0) tf), (gp, aI 48 (cA 0) pf), (gw, aD 144 (cA 1) wf)]) hD hS hA [0, 1, 2, 3, 4] rfl
        refine va_calld (va_runV (As := [.int x1, .double (MID ta tb)]) (rest := []) ⟨hx, hb, hml, hown, hts⟩ (k_X2_above l hst dC dI cA tm tt _ am gs go gt gp gw gl th (wo + nI j) fu la ea ln fdv uf tf pf wf oL oN oE oW k pw fa sa va x1 (MID ta tb) hb1 hb2 hR hO hT (fR_mono hm.1 hlo hhi) hla hea) (cwV 2 hts gX2_crossing_X2_above rfl rfl rfl (by decide +kernel) ⟨Nat.le_of_ble_eq_true rfl, Nat.le_of_ble_eq_true rfl⟩) ⟨PcW.blind, va_recv hK hPc (ci := 2) (q0 := 0) rfl rfl, PcW.give hPc hK hDc hE hS hFc⟩ rfl rfl hl.1 rfl (lv_room (Nat.le_of_ble_eq_true rfl)) dX2_crossing_32 ⟨Nat.le_of_ble_eq_true rfl, Nat.le_of_ble_eq_true rfl⟩) hS (fun q _ h => hFc q h) hFc (fun v_3 u t H locs ht hvm hp_4 hB hz1 hk1 hS => ?_)
        obtain ⟨hP1, hD1⟩ := hB
        rw [ht] at hP1
        obtain ⟨hP, hD⟩ := va_join (wr := []) (w1 := [(am, .inr (2, [.int th, .int ((wo + nI j) + 1), .int (fu + cFL (LON oL oN oE oW k pw fa sa va (MID ta tb))), .ref gs, .ref go, .ref gt, .ref gp, .ref gw, .double la, .double ea, .ref gl, .int ln, .int (cFD (LON oL oN oE oW k pw fa sa va (MID ta tb)))])), (go, aD 16 (cA 1) uf), (gt, aI 4 (cA 0) tf), (gp, aI 48 (cA 0) pf), (gw, aD 144 (cA 1) wf)]) hP hD [0, 1, 2, 3, 4] [] rfl rfl (by decide) (by decide) hk1 hFc hP1 hD1
        have hP := hP.sub (ws' := [(am, .inr (2, [.int th, .int ((wo + nI j) + 1), .int (fu + cFL (LON oL oN oE oW k pw fa sa va (MID ta tb))), .ref gs, .ref go, .ref gt, .ref gp, .ref gw, .double la, .double ea, .ref gl, .int ln, .int (cFD (LON oL oN oE oW k pw fa sa va (MID ta tb)))])), (go, aD 16 (cA 1) uf), (gt, aI 4 (cA 0) tf), (gp, aI 48 (cA 0) pf), (gw, aD 144 (cA 1) wf)]) [0, 1, 2, 3, 4] rfl
        have hD := hD.sub (ws' := [(am, .inr (2, [.int th, .int ((wo + nI j) + 1), .int (fu + cFL (LON oL oN oE oW k pw fa sa va (MID ta tb))), .ref gs, .ref go, .ref gt, .ref gp, .ref gw, .double la, .double ea, .ref gl, .int ln, .int (cFD (LON oL oN oE oW k pw fa sa va (MID ta tb)))])), (go, aD 16 (cA 1) uf), (gt, aI 4 (cA 0) tf), (gp, aI 48 (cA 0) pf), (gw, aD 144 (cA 1) wf)]) [0, 1, 2, 3, 4] (by decide) rfl
        refine lv_dstore (lv' := [(14, .double v_3), (12, .double (MID ta tb)), (0, .ref am), (1, .int x1), (6, .int x4), (7, .double ta), (9, .double tb), (11, .int (nI j))]) hx hb dX2_crossing_35 hl (by decide) rfl (fun ls hl => ?_)
        refine lv_aload_n hx hb dX2_crossing_37 rfl (lv_at hl 2 rfl) ?_
        refine va_get (D := (dC, dI)) (ci := 2) (v := .int (cFD (LON oL oN oE oW k pw fa sa va (MID ta tb)))) (C := RX2) (T := TX2) (N := 13) hx hb hts hin2 hown hK hP 0 rfl rfl 12 (by decide) (hts (.fieldLink RX2 202 "SkyAlmanacModel" "failed" "Z") (by decide +kernel)) (fun _ h9 => h9) rfl dX2_crossing_38 ?_
        refine lv_if_eq (tgt := 46) hx hb dX2_crossing_41 (by decide) (fun c_5 => ?_) (fun c_5 => ?_)
        · obtain ⟨hq, hcf⟩ := ab_ok hp_4 c_5
          rw [hcf, c_5, i0] at hP hD
          have hP : va_P (dC, dI) vwCl [(am, .inr (2, [.int th, .int (wo + nI (j + 1)), .int fu, .ref gs, .ref go, .ref gt, .ref gp, .ref gw, .double la, .double ea, .ref gl, .int ln, .int 0])), (go, aD 16 (cA 1) uf), (gt, aI 4 (cA 0) tf), (gp, aI 48 (cA 0) pf), (gw, aD 144 (cA 1) wf)] H := by rw [wk_s]; exact hP
          have hD : va_D A [(am, .inr (2, [.int th, .int (wo + nI (j + 1)), .int fu, .ref gs, .ref go, .ref gt, .ref gp, .ref gw, .double la, .double ea, .ref gl, .int ln, .int 0])), (go, aD 16 (cA 1) uf), (gt, aI 4 (cA 0) tf), (gp, aI 48 (cA 0) pf), (gw, aD 144 (cA 1) wf)] := by rw [wk_s]; exact hD
          refine lv_dload hx hb dX2_crossing_46 (lv_at hl 0 rfl) ?_
          refine lv_dconst0 hx hb dX2_crossing_48 ?_
          have r_6 : fR FP.dconst0 0 0 := fR_lit (by decide +kernel)
          refine zd_l_lt (tgt := 57) hx hb dX2_crossing_49 dX2_crossing_50 (by decide) (fun c_7 => ?_) (fun c_7 => ?_)
          · refine lv_iconst (v := 0) hx hb dX2_crossing_57 (by decide) ?_
            rw [show (Value.int 0) = Value.int (UP v_3) from congrArg Value.int (UP_0 c_7)]
            refine lv_iload hx hb dX2_crossing_58 (lv_at hl 4 rfl) ?_
            refine lv_icmp_ne (tgt := 67) hx hb dX2_crossing_60 (by decide) (fun c_8 => ?_) (fun c_8 => ?_)
            · refine lv_iconst (v := 0) hx hb dX2_crossing_67 (by decide) ?_
              refine lv_istore (lv' := [(16, .int 0), (14, .double v_3), (12, .double (MID ta tb)), (0, .ref am), (1, .int x1), (6, .int x4), (7, .double ta), (9, .double tb), (11, .int (nI j))]) hx hb dX2_crossing_68 hl (by decide) rfl (fun ls hl => ?_)
              refine lv_iload hx hb dX2_crossing_70 (lv_at hl 0 rfl) ?_
              refine lv_if_eq (tgt := 80) hx hb dX2_crossing_72 (by decide) (fun _ => ?_) (fun c_9 => absurd c_9 (by decide))
              refine lv_dload hx hb dX2_crossing_80 (lv_at hl 7 rfl) ?_
              refine lv_dstore (lv' := [(9, .double tb), (16, .int 0), (14, .double v_3), (12, .double (MID ta tb)), (0, .ref am), (1, .int x1), (6, .int x4), (7, .double ta), (11, .int (nI j))]) hx hb dX2_crossing_82 hl (by decide) rfl (fun ls hl => ?_)
              refine lv_iload hx hb dX2_crossing_84 (lv_at hl 1 rfl) ?_
              refine lv_if_eq (tgt := 94) hx hb dX2_crossing_86 (by decide) (fun _ => ?_) (fun c_10 => absurd c_10 (by decide))
              refine lv_dload hx hb dX2_crossing_94 (lv_at hl 3 rfl) ?_
              refine lv_dstore (lv' := [(7, .double (MID ta tb)), (9, .double tb), (16, .int 0), (14, .double v_3), (12, .double (MID ta tb)), (0, .ref am), (1, .int x1), (6, .int x4), (11, .int (nI j))]) hx hb dX2_crossing_96 hl (by decide) rfl (fun ls hl => ?_)
              refine lv_iinc (v := nI (j + 1)) (lv' := [(11, .int (nI (j + 1))), (7, .double (MID ta tb)), (9, .double tb), (16, .int 0), (14, .double v_3), (12, .double (MID ta tb)), (0, .ref am), (1, .int x1), (6, .int x4)]) hx hb dX2_crossing_98 hl (k := 8) rfl (nI_1 _) (by decide) rfl (fun ls hl => ?_)
              refine lv_goto (tgt := 10) hx hb dX2_crossing_101 (by decide) ?_
              exact ih (j + 1) (MID ta tb) (tb) 0 (by omega) (by omega) (fun _ => rfl) hm.1 hb9 (by rw [hQ, ncL_0 (show j < 20 by omega) hq c_8, addc_addc]) _ _ _ hP hD hS (lv_sub hl [6, 7, 8, 1, 2, 0] rfl)
            · refine lv_iconst (v := 1) hx hb dX2_crossing_63 (by decide) ?_
              refine lv_goto (tgt := 68) hx hb dX2_crossing_64 (by decide) ?_
              refine lv_istore (lv' := [(16, .int 1), (14, .double v_3), (12, .double (MID ta tb)), (0, .ref am), (1, .int x1), (6, .int x4), (7, .double ta), (9, .double tb), (11, .int (nI j))]) hx hb dX2_crossing_68 hl (by decide) rfl (fun ls hl => ?_)
              refine lv_iload hx hb dX2_crossing_70 (lv_at hl 0 rfl) ?_
              refine lv_if_eq (tgt := 80) hx hb dX2_crossing_72 (by decide) (fun c_11 => absurd c_11 (by decide)) (fun _ => ?_)
              refine lv_dload hx hb dX2_crossing_75 (lv_at hl 2 rfl) ?_
              refine lv_goto (tgt := 82) hx hb dX2_crossing_77 (by decide) ?_
              refine lv_dstore (lv' := [(9, .double (MID ta tb)), (16, .int 1), (14, .double v_3), (12, .double (MID ta tb)), (0, .ref am), (1, .int x1), (6, .int x4), (7, .double ta), (11, .int (nI j))]) hx hb dX2_crossing_82 hl (by decide) rfl (fun ls hl => ?_)
              refine lv_iload hx hb dX2_crossing_84 (lv_at hl 1 rfl) ?_
              refine lv_if_eq (tgt := 94) hx hb dX2_crossing_86 (by decide) (fun c_12 => absurd c_12 (by decide)) (fun _ => ?_)
              refine lv_dload hx hb dX2_crossing_89 (lv_at hl 7 rfl) ?_
              refine lv_goto (tgt := 96) hx hb dX2_crossing_91 (by decide) ?_
              refine lv_dstore (lv' := [(7, .double ta), (9, .double (MID ta tb)), (16, .int 1), (14, .double v_3), (12, .double (MID ta tb)), (0, .ref am), (1, .int x1), (6, .int x4), (11, .int (nI j))]) hx hb dX2_crossing_96 hl (by decide) rfl (fun ls hl => ?_)
              refine lv_iinc (v := nI (j + 1)) (lv' := [(11, .int (nI (j + 1))), (7, .double ta), (9, .double (MID ta tb)), (16, .int 1), (14, .double v_3), (12, .double (MID ta tb)), (0, .ref am), (1, .int x1), (6, .int x4)]) hx hb dX2_crossing_98 hl (k := 8) rfl (nI_1 _) (by decide) rfl (fun ls hl => ?_)
              refine lv_goto (tgt := 10) hx hb dX2_crossing_101 (by decide) ?_
              exact ih (j + 1) (ta) (MID ta tb) 0 (by omega) (by omega) (fun _ => rfl) ha hm.1 (by rw [hQ, ncL_1 (show j < 20 by omega) hq c_8, addc_addc]) _ _ _ hP hD hS (lv_sub hl [6, 7, 8, 1, 2, 0] rfl)
          · refine lv_iconst (v := 1) hx hb dX2_crossing_53 (by decide) ?_
            refine lv_goto (tgt := 58) hx hb dX2_crossing_54 (by decide) ?_
            rw [show (Value.int 1) = Value.int (UP v_3) from congrArg Value.int (UP_1 c_7)]
            refine lv_iload hx hb dX2_crossing_58 (lv_at hl 4 rfl) ?_
            refine lv_icmp_ne (tgt := 67) hx hb dX2_crossing_60 (by decide) (fun c_13 => ?_) (fun c_13 => ?_)
            · refine lv_iconst (v := 0) hx hb dX2_crossing_67 (by decide) ?_
              refine lv_istore (lv' := [(16, .int 0), (14, .double v_3), (12, .double (MID ta tb)), (0, .ref am), (1, .int x1), (6, .int x4), (7, .double ta), (9, .double tb), (11, .int (nI j))]) hx hb dX2_crossing_68 hl (by decide) rfl (fun ls hl => ?_)
              refine lv_iload hx hb dX2_crossing_70 (lv_at hl 0 rfl) ?_
              refine lv_if_eq (tgt := 80) hx hb dX2_crossing_72 (by decide) (fun _ => ?_) (fun c_14 => absurd c_14 (by decide))
              refine lv_dload hx hb dX2_crossing_80 (lv_at hl 7 rfl) ?_
              refine lv_dstore (lv' := [(9, .double tb), (16, .int 0), (14, .double v_3), (12, .double (MID ta tb)), (0, .ref am), (1, .int x1), (6, .int x4), (7, .double ta), (11, .int (nI j))]) hx hb dX2_crossing_82 hl (by decide) rfl (fun ls hl => ?_)
              refine lv_iload hx hb dX2_crossing_84 (lv_at hl 1 rfl) ?_
              refine lv_if_eq (tgt := 94) hx hb dX2_crossing_86 (by decide) (fun _ => ?_) (fun c_15 => absurd c_15 (by decide))
              refine lv_dload hx hb dX2_crossing_94 (lv_at hl 3 rfl) ?_
              refine lv_dstore (lv' := [(7, .double (MID ta tb)), (9, .double tb), (16, .int 0), (14, .double v_3), (12, .double (MID ta tb)), (0, .ref am), (1, .int x1), (6, .int x4), (11, .int (nI j))]) hx hb dX2_crossing_96 hl (by decide) rfl (fun ls hl => ?_)
              refine lv_iinc (v := nI (j + 1)) (lv' := [(11, .int (nI (j + 1))), (7, .double (MID ta tb)), (9, .double tb), (16, .int 0), (14, .double v_3), (12, .double (MID ta tb)), (0, .ref am), (1, .int x1), (6, .int x4)]) hx hb dX2_crossing_98 hl (k := 8) rfl (nI_1 _) (by decide) rfl (fun ls hl => ?_)
              refine lv_goto (tgt := 10) hx hb dX2_crossing_101 (by decide) ?_
              exact ih (j + 1) (MID ta tb) (tb) 0 (by omega) (by omega) (fun _ => rfl) hm.1 hb9 (by rw [hQ, ncL_0 (show j < 20 by omega) hq c_13, addc_addc]) _ _ _ hP hD hS (lv_sub hl [6, 7, 8, 1, 2, 0] rfl)
            · refine lv_iconst (v := 1) hx hb dX2_crossing_63 (by decide) ?_
              refine lv_goto (tgt := 68) hx hb dX2_crossing_64 (by decide) ?_
              refine lv_istore (lv' := [(16, .int 1), (14, .double v_3), (12, .double (MID ta tb)), (0, .ref am), (1, .int x1), (6, .int x4), (7, .double ta), (9, .double tb), (11, .int (nI j))]) hx hb dX2_crossing_68 hl (by decide) rfl (fun ls hl => ?_)
              refine lv_iload hx hb dX2_crossing_70 (lv_at hl 0 rfl) ?_
              refine lv_if_eq (tgt := 80) hx hb dX2_crossing_72 (by decide) (fun c_16 => absurd c_16 (by decide)) (fun _ => ?_)
              refine lv_dload hx hb dX2_crossing_75 (lv_at hl 2 rfl) ?_
              refine lv_goto (tgt := 82) hx hb dX2_crossing_77 (by decide) ?_
              refine lv_dstore (lv' := [(9, .double (MID ta tb)), (16, .int 1), (14, .double v_3), (12, .double (MID ta tb)), (0, .ref am), (1, .int x1), (6, .int x4), (7, .double ta), (11, .int (nI j))]) hx hb dX2_crossing_82 hl (by decide) rfl (fun ls hl => ?_)
              refine lv_iload hx hb dX2_crossing_84 (lv_at hl 1 rfl) ?_
              refine lv_if_eq (tgt := 94) hx hb dX2_crossing_86 (by decide) (fun c_17 => absurd c_17 (by decide)) (fun _ => ?_)
              refine lv_dload hx hb dX2_crossing_89 (lv_at hl 7 rfl) ?_
              refine lv_goto (tgt := 96) hx hb dX2_crossing_91 (by decide) ?_
              refine lv_dstore (lv' := [(7, .double ta), (9, .double (MID ta tb)), (16, .int 1), (14, .double v_3), (12, .double (MID ta tb)), (0, .ref am), (1, .int x1), (6, .int x4), (11, .int (nI j))]) hx hb dX2_crossing_96 hl (by decide) rfl (fun ls hl => ?_)
              refine lv_iinc (v := nI (j + 1)) (lv' := [(11, .int (nI (j + 1))), (7, .double ta), (9, .double (MID ta tb)), (16, .int 1), (14, .double v_3), (12, .double (MID ta tb)), (0, .ref am), (1, .int x1), (6, .int x4)]) hx hb dX2_crossing_98 hl (k := 8) rfl (nI_1 _) (by decide) rfl (fun ls hl => ?_)
              refine lv_goto (tgt := 10) hx hb dX2_crossing_101 (by decide) ?_
              exact ih (j + 1) (ta) (MID ta tb) 0 (by omega) (by omega) (fun _ => rfl) ha hm.1 (by rw [hQ, ncL_1 (show j < 20 by omega) hq c_13, addc_addc]) _ _ _ hP hD hS (lv_sub hl [6, 7, 8, 1, 2, 0] rfl)
        · obtain ⟨hq, hcf, hcd⟩ := ab_er la ea c_5
          rw [hcf, hcd] at hP hD
          have e0 : ncL (HEI la ea oL oN oE oW k pw fa sa va) x4 20 x2 x3 = (j + 1, .error xIS) := by rw [hQ, ncL_e (show j < 20 by omega) hq]; rfl
          have hP : va_P (dC, dI) vwCl [(am, .inr (2, [.int th, .int (wo + nI (ncL (HEI la ea oL oN oE oW k pw fa sa va) x4 20 x2 x3).1), .int (fu + cFL (ncL (HEI la ea oL oN oE oW k pw fa sa va) x4 20 x2 x3).2), .ref gs, .ref go, .ref gt, .ref gp, .ref gw, .double la, .double ea, .ref gl, .int ln, .int (cFL (ncL (HEI la ea oL oN oE oW k pw fa sa va) x4 20 x2 x3).2)])), (go, aD 16 (cA 1) uf), (gt, aI 4 (cA 0) tf), (gp, aI 48 (cA 0) pf), (gw, aD 144 (cA 1) wf)] H := by rw [e0]; simp only; rw [wk_s, cFL_IS]; exact hP
          have hD : va_D A [(am, .inr (2, [.int th, .int (wo + nI (ncL (HEI la ea oL oN oE oW k pw fa sa va) x4 20 x2 x3).1), .int (fu + cFL (ncL (HEI la ea oL oN oE oW k pw fa sa va) x4 20 x2 x3).2), .ref gs, .ref go, .ref gt, .ref gp, .ref gw, .double la, .double ea, .ref gl, .int ln, .int (cFL (ncL (HEI la ea oL oN oE oW k pw fa sa va) x4 20 x2 x3).2)])), (go, aD 16 (cA 1) uf), (gt, aI 4 (cA 0) tf), (gp, aI 48 (cA 0) pf), (gw, aD 144 (cA 1) wf)] := by rw [e0]; simp only; rw [wk_s, cFL_IS]; exact hD
          refine lv_dconst0 hx hb dX2_crossing_44 ?_
          have r_18 : fR FP.dconst0 0 0 := fR_lit (by decide +kernel)
          subst hQQ
          exact W.dret hx hb hr (fun t ht hW => ⟨⟨_, (), rfl, (fun v hv => by rw [e0] at hv; cases hv), ⟨by rw [ht]; exact hP, hD⟩⟩, hS.F ht⟩) hS.2.2 dX2_crossing_45
  refine lv_dload_n hx hb dX2_crossing_0 rfl (lv_at hl 2 rfl) ?_
  refine lv_dstore (lv' := [(7, .double x2), (0, .ref am), (1, .int x1), (2, .double x2), (4, .double x3), (6, .int x4)]) hx hb dX2_crossing_1 hl (by decide) rfl (fun ls hl => ?_)
  refine lv_dload hx hb dX2_crossing_3 (lv_at hl 4 rfl) ?_
  refine lv_dstore (lv' := [(9, .double x3), (7, .double x2), (0, .ref am), (1, .int x1), (2, .double x2), (4, .double x3), (6, .int x4)]) hx hb dX2_crossing_5 hl (by decide) rfl (fun ls hl => ?_)
  refine lv_iconst (v := 0) hx hb dX2_crossing_7 (by decide) ?_
  refine lv_istore (lv' := [(11, .int (nI 0)), (9, .double x3), (7, .double x2), (0, .ref am), (1, .int x1), (2, .double x2), (4, .double x3), (6, .int x4)]) hx hb dX2_crossing_8 hl (by decide) rfl (fun ls hl => ?_)
  have hP : va_P (dC, dI) vwCl [(am, .inr (2, [.int th, .int (wo + nI 0), .int fu, .ref gs, .ref go, .ref gt, .ref gp, .ref gw, .double la, .double ea, .ref gl, .int ln, .int fd])), (go, aD 16 (cA 1) uf), (gt, aI 4 (cA 0) tf), (gp, aI 48 (cA 0) pf), (gw, aD 144 (cA 1) wf)] s.heap := by rw [wk_0]; exact hP
  have hD : va_D A [(am, .inr (2, [.int th, .int (wo + nI 0), .int fu, .ref gs, .ref go, .ref gt, .ref gp, .ref gw, .double la, .double ea, .ref gl, .int ln, .int fd])), (go, aD 16 (cA 1) uf), (gt, aI 4 (cA 0) tf), (gp, aI 48 (cA 0) pf), (gw, aD 144 (cA 1) wf)] := by rw [wk_0]; exact hD
  exact hloop10 21 0 _ _ fd (by decide) (by decide) (fun h => absurd h (by decide)) ha2 ha3 (by show _ = addc 0 _; unfold addc; simp only [Nat.zero_add]) _ _ _ hP hD hS (lv_sub hl [3, 4, 7, 2, 1, 0] rfl)
