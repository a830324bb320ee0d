def cdE {α : Type} : Except String α → Int32
  | .ok _ => 0
  | .error e => if e = xIA then 1 else if e = xNS then 2 else 3
theorem cdE_0 {α : Type} {x : Except String α} (h : cFL x = 0) (hx : ∀ e, x = .error e → e = xIS) : cdE x = 0 := by
  cases x with
  | error e => rw [hx e rfl] at h; exact absurd (show (1 : Int32) = 0 from h) (by decide)
  | ok v => rfl
theorem cdE_3 {α : Type} {x : Except String α} (h : ¬ cFL x = 0) (hx : ∀ e, x = .error e → e = xIS) : cdE x = 3 := by
  cases x with
  | error e => rw [hx e rfl]; rfl
  | ok v => exact absurd rfl h
def PASS (hh : UInt64 → Except String UInt64) (d rs : Int32) : CE UInt64 := thenc (PCR hh d rs) (fun p => if p = -1 then (0, .error xNS) else NCR hh d p rs)
theorem PASS_e {hh : UInt64 → Except String UInt64} {d rs : Int32} {n : Nat} {e : String} (h : PCR hh d rs = (n, .error e)) : PASS hh d rs = (n, .error e) := by
  unfold PASS; rw [thenc_e (show (PCR hh d rs).2 = .error e by rw [h]), h]
theorem PASS_n {hh : UInt64 → Except String UInt64} {d rs : Int32} {n : Nat} (h : PCR hh d rs = (n, .ok (-1))) : PASS hh d rs = (n, .error xNS) := by
  unfold PASS; rw [thenc_o (show (PCR hh d rs).2 = .ok (-1) by rw [h]), h]; rfl
theorem PASS_h {hh : UInt64 → Except String UInt64} {d rs p : Int32} {n : Nat} (h : PCR hh d rs = (n, .ok p)) (hp : ¬ p = -1) : PASS hh d rs = (n + (NCR hh d p rs).1, (NCR hh d p rs).2) := by
  unfold PASS; rw [thenc_o (show (PCR hh d rs).2 = .ok p by rw [h]), h]; simp only; rw [if_neg hp]
theorem nI_nm1 {j : Nat} (h : j ≤ 100) : ¬ nI j = -1 := fun h9 => by
  have h8 := congrArg Int32.toInt h9
  rw [nI_toInt (by omega)] at h8
  have : (-1 : Int32).toInt = -1 := rfl
  omega
theorem top0 (d : Int32) : FP.dadd (FP.i2d d) FP.dconst0 = TOP d 0 := by
  show _ = FP.dadd (FP.i2d d) (FP.ddiv (FP.i2d 0) 4625196817309499392)
  rw [show FP.ddiv (FP.i2d 0) 4625196817309499392 = FP.dconst0 by decide +kernel]
theorem nI_b2 {j : Nat} (h1 : 1 ≤ j) (h2 : j ≤ 16) : 1 ≤ (nI j).toInt ∧ (nI j).toInt ≤ 16 := by rw [nI_toInt (by omega)]; omega
set_option maxHeartbeats 4000000 in
set_option maxRecDepth 100000 in
theorem k_X2_passes (l : Launch) (hst : l.stackTraces = false) (dC : Nat → ClassId) (dI : Nat → Nat → Nat) (cA : Nat → ClassId) (tm tt sz : Nat) (am gs go gt gp gw gl : Nat) (th wo fu : Int32) (la ea : UInt64) (ln fd : Int32) (uf : Nat → UInt64) (tf : Nat → Int32) (pf : Nat → Int32) (wf : Nat → UInt64) (oL oN oE oW : UInt64) (k : Nat) (pw : Nat → Int32) (fa sa va : Nat → UInt64) (x1 : Int32) (x2 : UInt64) (x3 : Int32) (hb1 : ¬ x1 < 0) (hb2 : ¬ 3 < x1) (hR : bR (Int32.toNatClampNeg x1) uf tf pf wf oL oN oE oW k pw fa sa va) (hO : oOK oL oN oE oW) (hT : tOK k fa sa va) (hla : fR la (-96636764160) 96636764160) (hea : fR ea (-193273528320) 193273528320) (dd : Int32) (hx2 : x2 = FP.i2d dd) (hd : -1000000 ≤ dd.toInt ∧ dd.toInt ≤ 1000000) : Met l yX2_passes wsX2_passes ({ frames := 7, cells := 0, slots := 0, locals := 218 }) (PcW dC dI cA tm tt sz [.ref am, .int x1, .double x2, .int x3] [(am, .inr (2, [.int th, .int wo, .int fu, .ref gs, .ref go, .ref gt, .ref gp, .ref gw, .double la, .double ea, .ref gl, .int ln, .int fd])), (go, aD 16 (cA 1) uf), (gt, aI 4 (cA 0) tf), (gp, aI 48 (cA 0) pf), (gw, aD 144 (cA 1) wf)]) (va_Qd (fun r (_ : Unit) => ∀ v, (PASS (HEI la ea oL oN oE oW k pw fa sa va) dd x3).2 = .ok v → r = v) (fun _ t => WB dC dI (va_A [(am, .inr (2, [.int th, .int wo, .int fu, .ref gs, .ref go, .ref gt, .ref gp, .ref gw, .double la, .double ea, .ref gl, .int ln, .int fd])), (go, aD 16 (cA 1) uf), (gt, aI 4 (cA 0) tf), (gp, aI 48 (cA 0) pf), (gw, aD 144 (cA 1) wf)] sz) [(am, .inr (2, [.int (cdE (PASS (HEI la ea oL oN oE oW k pw fa sa va) dd x3).2), .int (wo + nI (PASS (HEI la ea oL oN oE oW k pw fa sa va) dd x3).1), .int (fu + cFL (PASS (HEI la ea oL oN oE oW k pw fa sa va) dd x3).2), .ref gs, .ref go, .ref gt, .ref gp, .ref gw, .double la, .double ea, .ref gl, .int ln, .int (cFL (PASS (HEI la ea oL oN oE oW k pw fa sa va) dd x3).2)])), (go, aD 16 (cA 1) uf), (gt, aI 4 (cA 0) tf), (gp, aI 48 (cA 0) pf), (gw, aD 144 (cA 1) wf)] t) (va_A [(am, .inr (2, [.int th, .int wo, .int fu, .ref gs, .ref go, .ref gt, .ref gp, .ref gw, .double la, .double ea, .ref gl, .int ln, .int fd])), (go, aD 16 (cA 1) uf), (gt, aI 4 (cA 0) tf), (gp, aI 48 (cA 0) pf), (gw, aD 144 (cA 1) wf)] sz)) 0 0 (va_A [(am, .inr (2, [.int th, .int wo, .int fu, .ref gs, .ref go, .ref gt, .ref gp, .ref gw, .double la, .double ea, .ref gl, .int ln, .int fd])), (go, aD 16 (cA 1) uf), (gt, aI 4 (cA 0) tf), (gp, aI 48 (cA 0) pf), (gw, aD 144 (cA 1) wf)] sz) := by
  refine Met.ofW (cc := cX2_passes) (maxL := 12) (ret := (some .double)) (by decide) rfl ?_
  intro p e s m args below meth c s₁ B hml hv
  obtain ⟨rfl, hsz, hP, hK, hD0, hE⟩ := hv
  subst hsz
  have hD := hD0.self (sz := s.heap.size)
  generalize hAe : va_A [(am, .inr (2, [.int th, .int wo, .int fu, .ref gs, .ref go, .ref gt, .ref gp, .ref gw, .double la, .double ea, .ref gl, .int ln, .int fd])), (go, aD 16 (cA 1) uf), (gt, aI 4 (cA 0) tf), (gp, aI 48 (cA 0) pf), (gw, aD 144 (cA 1) wf)] s.heap.size = A at hD hE ⊢
  have hA : ∀ q : Nat, s.heap.size ≤ q → A q := fun q h => by rw [← hAe]; exact Or.inr h
  have hS : va_S A s.heap s.heap [] := va_S.rf
  have hP : va_P (dC, dI) vwCl [(am, .inr (2, [.int th, .int wo, .int fu, .ref gs, .ref go, .ref gt, .ref gp, .ref gw, .double la, .double ea, .ref gl, .int ln, .int fd])), (go, aD 16 (cA 1) uf), (gt, aI 4 (cA 0) tf), (gp, aI 48 (cA 0) pf), (gw, aD 144 (cA 1) wf)] s.heap := hP
  have hx := B.exec
  have hb := B.bytes
  have hr := B.returns
  have hts := atoms_spec (ws := wsX2_passes) B.pre
  have hown : s.vm.findClass RX2 = some m.cls := findClass_of_methodNamed B.named
  have hlocks := B.notSynchronized
  have hl := lv_entry ([.ref am, .int x1, .double x2, .int x3]) (n := 12) (Nat.le_of_ble_eq_true rfl)
  rw [lg_entry_eq]
  generalize (lg_sl ([.ref am, .int x1, .double x2, .int x3]) ++ List.replicate (12 - (lg_sl ([.ref am, .int x1, .double x2, .int x3])).length) Slot.unset).toArray = ls at hl ⊢
  have hl : lv_has ls 12 [(0, .ref am), (1, .int x1), (2, .double x2), (4, .int x3)] := hl
  have hin2 : ∀ w ∈ u_ws RX2 TX2 13, w ∈ wsX2_passes := by decide +kernel
  refine W.gen (fun QQ hQQ => ?_)

  have hx2R : fR x2 (-2305843009213693952) 2305843009213693952 := by rw [hx2]; exact i2d_R dd
  have hloop13 : ∀ (n : Nat) (j : Nat) (lst : UInt64), 18 - j ≤ n → j ≤ 17 → 1 ≤ j → PCR (HEI la ea oL oN oE oW k pw fa sa va) dd x3 = addc j (pcL (HEI la ea oL oN oE oW k pw fa sa va) dd x3 (17 - j) (UP lst) j) → ∀ (H : Heap) (locs : List Loc) (ls : Array Slot), va_P (dC, dI) vwCl [(am, .inr (2, [.int th, .int (wo + nI j), .int fu, .ref gs, .ref go, .ref gt, .ref gp, .ref gw, .double la, .double ea, .ref gl, .int ln, .int 0])), (go, aD 16 (cA 1) uf), (gt, aI 4 (cA 0) tf), (gp, aI 48 (cA 0) pf), (gw, aD 144 (cA 1) wf)] H → va_D A [(am, .inr (2, [.int th, .int (wo + nI j), .int fu, .ref gs, .ref go, .ref gt, .ref gp, .ref gw, .double la, .double ea, .ref gl, .int ln, .int 0])), (go, aD 16 (cA 1) uf), (gt, aI 4 (cA 0) tf), (gp, aI 48 (cA 0) pf), (gw, aD 144 (cA 1) wf)] → va_S A s.heap H locs → lv_has ls 12 [(0, .ref am), (1, .int x1), (2, .double x2), (4, .int x3), (5, .double lst), (7, .int (nI j))] → W p l e (headSpec wsX2_passes ({ frames := 7, cells := 0, slots := 0, locals := 218 })).room s m ([.ref am, .int x1, .double x2, .int x3] : List Value).toArray below meth c H locs (0) (0) QQ (F0 m 13 ls []) := by
    intro n
    induction n with
    | zero =>
      intro j lst hf hj hj1 hQ
      exact absurd hf (by omega)
    | succ n ih =>
      intro j lst hf hj hj1 hQ H locs ls hP hD hS hl
      refine lv_iload hx hb dX2_passes_13 (lv_at hl 5 rfl) ?_
      refine lv_bipush (v := 16) hx hb dX2_passes_15 (by decide) ?_
      refine lv_icmp_gt (tgt := 142) hx hb dX2_passes_17 (by decide) (fun c_1 => ?_) (fun c_1 => ?_)
      · have hj9 : j = 17 := by
          rcases Nat.lt_or_ge j 17 with h9 | h9
          · exact absurd c_1 (nI_le16 (by omega))
          · omega
        have e9 : PCR (HEI la ea oL oN oE oW k pw fa sa va) dd x3 = (j, .ok (-1)) := by rw [hQ, hj9]; rfl
        refine lv_aload_n hx hb dX2_passes_142 rfl (lv_at hl 0 rfl) ?_
        refine lv_aload_n hx hb dX2_passes_143 rfl (lv_at hl 0 rfl) ?_
        refine va_get (D := (dC, dI)) (ci := 2) (v := .int 0) (C := RX2) (T := TX2) (N := 13) hx hb hts hin2 hown hK hP 0 rfl rfl 12 (by decide) (hts (.fieldLink RX2 202 "SkyAlmanacModel" "failed" "Z") (by decide +kernel)) (fun _ h9 => h9) rfl dX2_passes_144 ?_
        refine lv_if_eq (tgt := 154) hx hb dX2_passes_147 (by decide) (fun _ => ?_) (fun c_2 => absurd c_2 (by decide))
        refine lv_iconst (v := 2) hx hb dX2_passes_154 (by decide) ?_
        have hPc := hP.sub (ws' := [(am, .inr (2, [.int th, .int (wo + nI j), .int fu, .ref gs, .ref go, .ref gt, .ref gp, .ref gw, .double la, .double ea, .ref gl, .int ln, .int 0]))]) [0] rfl
        have hDc := hD.sub (ws' := [(am, .inr (2, [.int th, .int (wo + nI j), .int fu, .ref gs, .ref go, .ref gt, .ref gp, .ref gw, .double la, .double ea, .ref gl, .int ln, .int 0]))]) [0] (by decide) rfl
        have hFc := va_free (wc := [(am, .inr (2, [.int th, .int (wo + nI j), .int fu, .ref gs, .ref go, .ref gt, .ref gp, .ref gw, .double la, .double ea, .ref gl, .int ln, .int 0]))]) hD hS hA [0] rfl
        refine va_calli (va_runV (As := [.int 2]) (rest := []) ⟨hx, hb, hml, hown, hts⟩ (k_X2_fail l hst dC dI cA tm tt _ am gs go gt gp gw gl th (wo + nI j) fu la ea ln 0 2) (cwV 1 hts gX2_passes_X2_fail rfl rfl rfl (by decide +kernel) ⟨Nat.le_of_ble_eq_true rfl, Nat.le_of_ble_eq_true rfl⟩) ⟨PcW.blind, va_recv hK hPc (ci := 2) (q0 := 0) rfl rfl, PcW.give hPc hK hDc hE hS hFc⟩ rfl rfl hl.1 rfl (lv_room (Nat.le_of_ble_eq_true rfl)) dX2_passes_155 ⟨Nat.le_of_ble_eq_true rfl, Nat.le_of_ble_eq_true rfl⟩) hS (fun q _ h => hFc q h) hFc (fun v_3 u t H locs ht hvm hp_4 hB hz1 hk1 hS => ?_)
        obtain ⟨hP1, hD1⟩ := hB
        rw [ht] at hP1
        obtain ⟨hP, hD⟩ := va_join (wr := [(go, aD 16 (cA 1) uf), (gt, aI 4 (cA 0) tf), (gp, aI 48 (cA 0) pf), (gw, aD 144 (cA 1) wf)]) (w1 := [(am, .inr (2, [.int 2, .int (wo + nI j), .int fu, .ref gs, .ref go, .ref gt, .ref gp, .ref gw, .double la, .double ea, .ref gl, .int ln, .int 0]))]) hP hD [0] [1, 2, 3, 4] rfl rfl (by decide) (by decide) hk1 hFc hP1 hD1
        have hP := hP.sub (ws' := [(am, .inr (2, [.int 2, .int (wo + nI j), .int fu, .ref gs, .ref go, .ref gt, .ref gp, .ref gw, .double la, .double ea, .ref gl, .int ln, .int 0])), (go, aD 16 (cA 1) uf), (gt, aI 4 (cA 0) tf), (gp, aI 48 (cA 0) pf), (gw, aD 144 (cA 1) wf)]) [4, 0, 1, 2, 3] rfl
        have hD := hD.sub (ws' := [(am, .inr (2, [.int 2, .int (wo + nI j), .int fu, .ref gs, .ref go, .ref gt, .ref gp, .ref gw, .double la, .double ea, .ref gl, .int ln, .int 0])), (go, aD 16 (cA 1) uf), (gt, aI 4 (cA 0) tf), (gp, aI 48 (cA 0) pf), (gw, aD 144 (cA 1) wf)]) [4, 0, 1, 2, 3] (by decide) rfl
        obtain rfl := hp_4
        refine lv_i2d hx hb dX2_passes_158 ?_
        have e8 := PASS_n e9
        have hP : va_P (dC, dI) vwCl [(am, .inr (2, [.int (cdE (PASS (HEI la ea oL oN oE oW k pw fa sa va) dd x3).2), .int (wo + nI (PASS (HEI la ea oL oN oE oW k pw fa sa va) dd x3).1), .int (fu + cFL (PASS (HEI la ea oL oN oE oW k pw fa sa va) dd x3).2), .ref gs, .ref go, .ref gt, .ref gp, .ref gw, .double la, .double ea, .ref gl, .int ln, .int (cFL (PASS (HEI la ea oL oN oE oW k pw fa sa va) dd x3).2)])), (go, aD 16 (cA 1) uf), (gt, aI 4 (cA 0) tf), (gp, aI 48 (cA 0) pf), (gw, aD 144 (cA 1) wf)] H := by rw [e8]; simp only; rw [show cdE (.error xNS : Except String UInt64) = 2 from rfl, cFL_NS, i0]; exact hP
        have hD : va_D A [(am, .inr (2, [.int (cdE (PASS (HEI la ea oL oN oE oW k pw fa sa va) dd x3).2), .int (wo + nI (PASS (HEI la ea oL oN oE oW k pw fa sa va) dd x3).1), .int (fu + cFL (PASS (HEI la ea oL oN oE oW k pw fa sa va) dd x3).2), .ref gs, .ref go, .ref gt, .ref gp, .ref gw, .double la, .double ea, .ref gl, .int ln, .int (cFL (PASS (HEI la ea oL oN oE oW k pw fa sa va) dd x3).2)])), (go, aD 16 (cA 1) uf), (gt, aI 4 (cA 0) tf), (gp, aI 48 (cA 0) pf), (gw, aD 144 (cA 1) wf)] := by rw [e8]; simp only; rw [show cdE (.error xNS : Except String UInt64) = 2 from rfl, cFL_NS, i0]; exact hD
        subst hQQ
        exact W.dret hx hb hr (fun t ht hW => ⟨⟨_, (), rfl, (fun v hv => by rw [e8] at hv; cases hv), ⟨by rw [ht]; exact hP, hD⟩⟩, hS.F ht⟩) hS.2.2 dX2_passes_159
      · have hj6 := nI_gt_ (b := 16) (n := 16) rfl (by omega) c_1
        refine lv_aload_n hx hb dX2_passes_20 rfl (lv_at hl 0 rfl) ?_
        refine va_get (D := (dC, dI)) (ci := 2) (v := .int 0) (C := RX2) (T := TX2) (N := 13) hx hb hts hin2 hown hK hP 0 rfl rfl 12 (by decide) (hts (.fieldLink RX2 202 "SkyAlmanacModel" "failed" "Z") (by decide +kernel)) (fun _ h9 => h9) rfl dX2_passes_21 ?_
        refine lv_if_ne (tgt := 142) hx hb dX2_passes_24 (by decide) (fun c_5 => absurd c_5 (by decide)) (fun _ => ?_)
        refine lv_aload_n hx hb dX2_passes_27 rfl (lv_at hl 0 rfl) ?_
        refine lv_iload_n hx hb dX2_passes_28 rfl (lv_at hl 1 rfl) ?_
        refine lv_dload_n hx hb dX2_passes_29 rfl (lv_at hl 2 rfl) ?_
        refine lv_iload hx hb dX2_passes_30 (lv_at hl 5 rfl) ?_
        refine lv_i2d hx hb dX2_passes_32 ?_
        refine lv_ldc2d hx hb hown (hts (.constantDouble RX2 239 (4625196817309499392)) (by decide +kernel)) dX2_passes_33 ?_
        have r_6 : fR 4625196817309499392 17179869184 17179869184 := fR_lit (by decide +kernel)
        have r_7 := fR_div (i2d_R (nI j)) r_6 (by decide) (-144115188075855872) 144115188075855872 (by decide) (by decide) rfl rfl
        refine lv_ddiv hx hb dX2_passes_36 (fR_nn r_7) ?_
        have r_8 := fR_add hx2R r_7 (-2449958197289549824) 2449958197289549824 (by decide) (by decide) rfl rfl
        refine lv_dadd hx hb dX2_passes_37 (fR_nn r_8) ?_
        rw [show FP.dadd x2 (FP.ddiv (FP.i2d (nI j)) 4625196817309499392) = TOP dd (nI j) from by rw [hx2]; rfl]
        have hPc := hP.sub (ws' := [(am, .inr (2, [.int th, .int (wo + nI j), .int fu, .ref gs, .ref go, .ref gt, .ref gp, .ref gw, .double la, .double ea, .ref gl, .int ln, .int 0])), (go, aD 16 (cA 1) uf), (gt, aI 4 (cA 0) tf), (gp, aI 48 (cA 0) pf), (gw, aD 144 (cA 1) wf)]) [0, 1, 2, 3, 4] rfl
        have hDc := hD.sub (ws' := [(am, .inr (2, [.int th, .int (wo + nI j), .int fu, .ref gs, .ref go, .ref gt, .ref gp, .ref gw, .double la, .double ea, .ref gl, .int ln, .int 0])), (go, aD 16 (cA 1) uf), (gt, aI 4 (cA 0) tf), (gp, aI 48 (cA 0) pf), (gw, aD 144 (cA 1) wf)]) [0, 1, 2, 3, 4] (by decide) rfl
        have hFc := va_free (wc := [(am, .inr (2, [.int th, .int (wo + nI j), .int fu, .ref gs, .ref go, .ref gt, .ref gp, .ref gw, .double la, .double ea, .ref gl, .int ln, .int 0])), (go, aD 16 (cA 1) uf), (gt, aI 4 (cA 0) tf), (gp, aI 48 (cA 0) pf), (gw, aD 144 (cA 1) wf)]) hD hS hA [0, 1, 2, 3, 4] rfl
        refine va_calld (va_runV (As := [.int x1, .double (TOP dd (nI j))]) (rest := []) ⟨hx, hb, hml, hown, hts⟩ (k_X2_above l hst dC dI cA tm tt _ am gs go gt gp gw gl th (wo + nI j) fu la ea ln 0 uf tf pf wf oL oN oE oW k pw fa sa va x1 (TOP dd (nI j)) hb1 hb2 hR hO hT (fR_mono (top_R hd (nI_b (show j ≤ 16 by omega))) (by omega) (by omega)) hla hea) (cwV 2 hts gX2_passes_X2_above rfl rfl rfl (by decide +kernel) ⟨Nat.le_of_ble_eq_true rfl, Nat.le_of_ble_eq_true rfl⟩) ⟨PcW.blind, va_recv hK hPc (ci := 2) (q0 := 0) rfl rfl, PcW.give hPc hK hDc hE hS hFc⟩ rfl rfl hl.1 rfl (lv_room (Nat.le_of_ble_eq_true rfl)) dX2_passes_38 ⟨Nat.le_of_ble_eq_true rfl, Nat.le_of_ble_eq_true rfl⟩) hS (fun q _ h => hFc q h) hFc (fun v_9 u t H locs ht hvm hp_10 hB hz1 hk1 hS => ?_)
        obtain ⟨hP1, hD1⟩ := hB
        rw [ht] at hP1
        obtain ⟨hP, hD⟩ := va_join (wr := []) (w1 := [(am, .inr (2, [.int th, .int ((wo + nI j) + 1), .int (fu + cFL (LON oL oN oE oW k pw fa sa va (TOP dd (nI j)))), .ref gs, .ref go, .ref gt, .ref gp, .ref gw, .double la, .double ea, .ref gl, .int ln, .int (cFD (LON oL oN oE oW k pw fa sa va (TOP dd (nI j))))])), (go, aD 16 (cA 1) uf), (gt, aI 4 (cA 0) tf), (gp, aI 48 (cA 0) pf), (gw, aD 144 (cA 1) wf)]) hP hD [0, 1, 2, 3, 4] [] rfl rfl (by decide) (by decide) hk1 hFc hP1 hD1
        have hP := hP.sub (ws' := [(am, .inr (2, [.int th, .int ((wo + nI j) + 1), .int (fu + cFL (LON oL oN oE oW k pw fa sa va (TOP dd (nI j)))), .ref gs, .ref go, .ref gt, .ref gp, .ref gw, .double la, .double ea, .ref gl, .int ln, .int (cFD (LON oL oN oE oW k pw fa sa va (TOP dd (nI j))))])), (go, aD 16 (cA 1) uf), (gt, aI 4 (cA 0) tf), (gp, aI 48 (cA 0) pf), (gw, aD 144 (cA 1) wf)]) [0, 1, 2, 3, 4] rfl
        have hD := hD.sub (ws' := [(am, .inr (2, [.int th, .int ((wo + nI j) + 1), .int (fu + cFL (LON oL oN oE oW k pw fa sa va (TOP dd (nI j)))), .ref gs, .ref go, .ref gt, .ref gp, .ref gw, .double la, .double ea, .ref gl, .int ln, .int (cFD (LON oL oN oE oW k pw fa sa va (TOP dd (nI j))))])), (go, aD 16 (cA 1) uf), (gt, aI 4 (cA 0) tf), (gp, aI 48 (cA 0) pf), (gw, aD 144 (cA 1) wf)]) [0, 1, 2, 3, 4] (by decide) rfl
        refine lv_dstore (lv' := [(8, .double v_9), (0, .ref am), (1, .int x1), (2, .double x2), (4, .int x3), (5, .double lst), (7, .int (nI j))]) hx hb dX2_passes_41 hl (by decide) rfl (fun ls hl => ?_)
        refine lv_aload_n hx hb dX2_passes_43 rfl (lv_at hl 1 rfl) ?_
        refine va_get (D := (dC, dI)) (ci := 2) (v := .int (cFD (LON oL oN oE oW k pw fa sa va (TOP dd (nI j))))) (C := RX2) (T := TX2) (N := 13) hx hb hts hin2 hown hK hP 0 rfl rfl 12 (by decide) (hts (.fieldLink RX2 202 "SkyAlmanacModel" "failed" "Z") (by decide +kernel)) (fun _ h9 => h9) rfl dX2_passes_44 ?_
        refine lv_if_ne (tgt := 132) hx hb dX2_passes_47 (by decide) (fun c_11 => ?_) (fun c_11 => ?_)
        · obtain ⟨hq, hcf, hcd⟩ := ab_er la ea c_11
          rw [hcf, hcd] at hP hD
          have hP : va_P (dC, dI) vwCl [(am, .inr (2, [.int th, .int (wo + nI (j + 1)), .int (fu + 1), .ref gs, .ref go, .ref gt, .ref gp, .ref gw, .double la, .double ea, .ref gl, .int ln, .int 1])), (go, aD 16 (cA 1) uf), (gt, aI 4 (cA 0) tf), (gp, aI 48 (cA 0) pf), (gw, aD 144 (cA 1) wf)] H := by rw [wk_s]; exact hP
          have hD : va_D A [(am, .inr (2, [.int th, .int (wo + nI (j + 1)), .int (fu + 1), .ref gs, .ref go, .ref gt, .ref gp, .ref gw, .double la, .double ea, .ref gl, .int ln, .int 1])), (go, aD 16 (cA 1) uf), (gt, aI 4 (cA 0) tf), (gp, aI 48 (cA 0) pf), (gw, aD 144 (cA 1) wf)] := by rw [wk_s]; exact hD
          have e9 : PCR (HEI la ea oL oN oE oW k pw fa sa va) dd x3 = (j + 1, .error xIS) := by rw [hQ, pcL_e (show j < 17 by omega) hq]; rfl
          refine lv_dload hx hb dX2_passes_132 (lv_at hl 0 rfl) ?_
          refine lv_dstore (lv' := [(5, .double v_9), (8, .double v_9), (0, .ref am), (1, .int x1), (2, .double x2), (4, .int x3), (7, .int (nI j))]) hx hb dX2_passes_134 hl (by decide) rfl (fun ls hl => ?_)
          refine lv_iinc (v := nI (j + 1)) (lv' := [(7, .int (nI (j + 1))), (5, .double v_9), (8, .double v_9), (0, .ref am), (1, .int x1), (2, .double x2), (4, .int x3)]) hx hb dX2_passes_136 hl (k := 6) rfl (nI_1 _) (by decide) rfl (fun ls hl => ?_)
          refine lv_goto (tgt := 13) hx hb dX2_passes_139 (by decide) ?_
          refine lv_iload hx hb dX2_passes_13 (lv_at hl 0 rfl) ?_
          refine lv_bipush (v := 16) hx hb dX2_passes_15 (by decide) ?_
          refine lv_icmp_gt (tgt := 142) hx hb dX2_passes_17 (by decide) (fun c_12 => ?_) (fun c_12 => ?_)
          · refine lv_aload_n hx hb dX2_passes_142 rfl (lv_at hl 3 rfl) ?_
            refine lv_aload_n hx hb dX2_passes_143 rfl (lv_at hl 3 rfl) ?_
            refine va_get (D := (dC, dI)) (ci := 2) (v := .int 1) (C := RX2) (T := TX2) (N := 13) hx hb hts hin2 hown hK hP 0 rfl rfl 12 (by decide) (hts (.fieldLink RX2 202 "SkyAlmanacModel" "failed" "Z") (by decide +kernel)) (fun _ h9 => h9) rfl dX2_passes_144 ?_
            refine lv_if_eq (tgt := 154) hx hb dX2_passes_147 (by decide) (fun c_13 => absurd c_13 (by decide)) (fun _ => ?_)
            refine lv_iconst (v := 3) hx hb dX2_passes_150 (by decide) ?_
            refine lv_goto (tgt := 155) hx hb dX2_passes_151 (by decide) ?_
            have hPc := hP.sub (ws' := [(am, .inr (2, [.int th, .int (wo + nI (j + 1)), .int (fu + 1), .ref gs, .ref go, .ref gt, .ref gp, .ref gw, .double la, .double ea, .ref gl, .int ln, .int 1]))]) [0] rfl
            have hDc := hD.sub (ws' := [(am, .inr (2, [.int th, .int (wo + nI (j + 1)), .int (fu + 1), .ref gs, .ref go, .ref gt, .ref gp, .ref gw, .double la, .double ea, .ref gl, .int ln, .int 1]))]) [0] (by decide) rfl
            have hFc := va_free (wc := [(am, .inr (2, [.int th, .int (wo + nI (j + 1)), .int (fu + 1), .ref gs, .ref go, .ref gt, .ref gp, .ref gw, .double la, .double ea, .ref gl, .int ln, .int 1]))]) hD hS hA [0] rfl
            refine va_calli (va_runV (As := [.int 3]) (rest := []) ⟨hx, hb, hml, hown, hts⟩ (k_X2_fail l hst dC dI cA tm tt _ am gs go gt gp gw gl th (wo + nI (j + 1)) (fu + 1) la ea ln 1 3) (cwV 1 hts gX2_passes_X2_fail rfl rfl rfl (by decide +kernel) ⟨Nat.le_of_ble_eq_true rfl, Nat.le_of_ble_eq_true rfl⟩) ⟨PcW.blind, va_recv hK hPc (ci := 2) (q0 := 0) rfl rfl, PcW.give hPc hK hDc hE hS hFc⟩ rfl rfl hl.1 rfl (lv_room (Nat.le_of_ble_eq_true rfl)) dX2_passes_155 ⟨Nat.le_of_ble_eq_true rfl, Nat.le_of_ble_eq_true rfl⟩) hS (fun q _ h => hFc q h) hFc (fun v_14 u t H locs ht hvm hp_15 hB hz1 hk1 hS => ?_)
            obtain ⟨hP1, hD1⟩ := hB
            rw [ht] at hP1
            obtain ⟨hP, hD⟩ := va_join (wr := [(go, aD 16 (cA 1) uf), (gt, aI 4 (cA 0) tf), (gp, aI 48 (cA 0) pf), (gw, aD 144 (cA 1) wf)]) (w1 := [(am, .inr (2, [.int 3, .int (wo + nI (j + 1)), .int (fu + 1), .ref gs, .ref go, .ref gt, .ref gp, .ref gw, .double la, .double ea, .ref gl, .int ln, .int 1]))]) hP hD [0] [1, 2, 3, 4] rfl rfl (by decide) (by decide) hk1 hFc hP1 hD1
            have hP := hP.sub (ws' := [(am, .inr (2, [.int 3, .int (wo + nI (j + 1)), .int (fu + 1), .ref gs, .ref go, .ref gt, .ref gp, .ref gw, .double la, .double ea, .ref gl, .int ln, .int 1])), (go, aD 16 (cA 1) uf), (gt, aI 4 (cA 0) tf), (gp, aI 48 (cA 0) pf), (gw, aD 144 (cA 1) wf)]) [4, 0, 1, 2, 3] rfl
            have hD := hD.sub (ws' := [(am, .inr (2, [.int 3, .int (wo + nI (j + 1)), .int (fu + 1), .ref gs, .ref go, .ref gt, .ref gp, .ref gw, .double la, .double ea, .ref gl, .int ln, .int 1])), (go, aD 16 (cA 1) uf), (gt, aI 4 (cA 0) tf), (gp, aI 48 (cA 0) pf), (gw, aD 144 (cA 1) wf)]) [4, 0, 1, 2, 3] (by decide) rfl
            obtain rfl := hp_15
            refine lv_i2d hx hb dX2_passes_158 ?_
            have e8 := PASS_e e9
            have hP : va_P (dC, dI) vwCl [(am, .inr (2, [.int (cdE (PASS (HEI la ea oL oN oE oW k pw fa sa va) dd x3).2), .int (wo + nI (PASS (HEI la ea oL oN oE oW k pw fa sa va) dd x3).1), .int (fu + cFL (PASS (HEI la ea oL oN oE oW k pw fa sa va) dd x3).2), .ref gs, .ref go, .ref gt, .ref gp, .ref gw, .double la, .double ea, .ref gl, .int ln, .int (cFL (PASS (HEI la ea oL oN oE oW k pw fa sa va) dd x3).2)])), (go, aD 16 (cA 1) uf), (gt, aI 4 (cA 0) tf), (gp, aI 48 (cA 0) pf), (gw, aD 144 (cA 1) wf)] H := by rw [e8]; simp only; rw [show cdE (.error xIS : Except String UInt64) = 3 from rfl, cFL_IS]; exact hP
            have hD : va_D A [(am, .inr (2, [.int (cdE (PASS (HEI la ea oL oN oE oW k pw fa sa va) dd x3).2), .int (wo + nI (PASS (HEI la ea oL oN oE oW k pw fa sa va) dd x3).1), .int (fu + cFL (PASS (HEI la ea oL oN oE oW k pw fa sa va) dd x3).2), .ref gs, .ref go, .ref gt, .ref gp, .ref gw, .double la, .double ea, .ref gl, .int ln, .int (cFL (PASS (HEI la ea oL oN oE oW k pw fa sa va) dd x3).2)])), (go, aD 16 (cA 1) uf), (gt, aI 4 (cA 0) tf), (gp, aI 48 (cA 0) pf), (gw, aD 144 (cA 1) wf)] := by rw [e8]; simp only; rw [show cdE (.error xIS : Except String UInt64) = 3 from rfl, cFL_IS]; exact hD
            subst hQQ
            exact W.dret hx hb hr (fun t ht hW => ⟨⟨_, (), rfl, (fun v hv => by rw [e8] at hv; cases hv), ⟨by rw [ht]; exact hP, hD⟩⟩, hS.F ht⟩) hS.2.2 dX2_passes_159
          · refine lv_aload_n hx hb dX2_passes_20 rfl (lv_at hl 3 rfl) ?_
            refine va_get (D := (dC, dI)) (ci := 2) (v := .int 1) (C := RX2) (T := TX2) (N := 13) hx hb hts hin2 hown hK hP 0 rfl rfl 12 (by decide) (hts (.fieldLink RX2 202 "SkyAlmanacModel" "failed" "Z") (by decide +kernel)) (fun _ h9 => h9) rfl dX2_passes_21 ?_
            refine lv_if_ne (tgt := 142) hx hb dX2_passes_24 (by decide) (fun _ => ?_) (fun c_16 => absurd c_16 (by decide))
            refine lv_aload_n hx hb dX2_passes_142 rfl (lv_at hl 3 rfl) ?_
            refine lv_aload_n hx hb dX2_passes_143 rfl (lv_at hl 3 rfl) ?_
            refine va_get (D := (dC, dI)) (ci := 2) (v := .int 1) (C := RX2) (T := TX2) (N := 13) hx hb hts hin2 hown hK hP 0 rfl rfl 12 (by decide) (hts (.fieldLink RX2 202 "SkyAlmanacModel" "failed" "Z") (by decide +kernel)) (fun _ h9 => h9) rfl dX2_passes_144 ?_
            refine lv_if_eq (tgt := 154) hx hb dX2_passes_147 (by decide) (fun c_17 => absurd c_17 (by decide)) (fun _ => ?_)
            refine lv_iconst (v := 3) hx hb dX2_passes_150 (by decide) ?_
            refine lv_goto (tgt := 155) hx hb dX2_passes_151 (by decide) ?_
            have hPc := hP.sub (ws' := [(am, .inr (2, [.int th, .int (wo + nI (j + 1)), .int (fu + 1), .ref gs, .ref go, .ref gt, .ref gp, .ref gw, .double la, .double ea, .ref gl, .int ln, .int 1]))]) [0] rfl
            have hDc := hD.sub (ws' := [(am, .inr (2, [.int th, .int (wo + nI (j + 1)), .int (fu + 1), .ref gs, .ref go, .ref gt, .ref gp, .ref gw, .double la, .double ea, .ref gl, .int ln, .int 1]))]) [0] (by decide) rfl
            have hFc := va_free (wc := [(am, .inr (2, [.int th, .int (wo + nI (j + 1)), .int (fu + 1), .ref gs, .ref go, .ref gt, .ref gp, .ref gw, .double la, .double ea, .ref gl, .int ln, .int 1]))]) hD hS hA [0] rfl
            refine va_calli (va_runV (As := [.int 3]) (rest := []) ⟨hx, hb, hml, hown, hts⟩ (k_X2_fail l hst dC dI cA tm tt _ am gs go gt gp gw gl th (wo + nI (j + 1)) (fu + 1) la ea ln 1 3) (cwV 1 hts gX2_passes_X2_fail rfl rfl rfl (by decide +kernel) ⟨Nat.le_of_ble_eq_true rfl, Nat.le_of_ble_eq_true rfl⟩) ⟨PcW.blind, va_recv hK hPc (ci := 2) (q0 := 0) rfl rfl, PcW.give hPc hK hDc hE hS hFc⟩ rfl rfl hl.1 rfl (lv_room (Nat.le_of_ble_eq_true rfl)) dX2_passes_155 ⟨Nat.le_of_ble_eq_true rfl, Nat.le_of_ble_eq_true rfl⟩) hS (fun q _ h => hFc q h) hFc (fun v_18 u t H locs ht hvm hp_19 hB hz1 hk1 hS => ?_)
            obtain ⟨hP1, hD1⟩ := hB
            rw [ht] at hP1
            obtain ⟨hP, hD⟩ := va_join (wr := [(go, aD 16 (cA 1) uf), (gt, aI 4 (cA 0) tf), (gp, aI 48 (cA 0) pf), (gw, aD 144 (cA 1) wf)]) (w1 := [(am, .inr (2, [.int 3, .int (wo + nI (j + 1)), .int (fu + 1), .ref gs, .ref go, .ref gt, .ref gp, .ref gw, .double la, .double ea, .ref gl, .int ln, .int 1]))]) hP hD [0] [1, 2, 3, 4] rfl rfl (by decide) (by decide) hk1 hFc hP1 hD1
            have hP := hP.sub (ws' := [(am, .inr (2, [.int 3, .int (wo + nI (j + 1)), .int (fu + 1), .ref gs, .ref go, .ref gt, .ref gp, .ref gw, .double la, .double ea, .ref gl, .int ln, .int 1])), (go, aD 16 (cA 1) uf), (gt, aI 4 (cA 0) tf), (gp, aI 48 (cA 0) pf), (gw, aD 144 (cA 1) wf)]) [4, 0, 1, 2, 3] rfl
            have hD := hD.sub (ws' := [(am, .inr (2, [.int 3, .int (wo + nI (j + 1)), .int (fu + 1), .ref gs, .ref go, .ref gt, .ref gp, .ref gw, .double la, .double ea, .ref gl, .int ln, .int 1])), (go, aD 16 (cA 1) uf), (gt, aI 4 (cA 0) tf), (gp, aI 48 (cA 0) pf), (gw, aD 144 (cA 1) wf)]) [4, 0, 1, 2, 3] (by decide) rfl
            obtain rfl := hp_19
            refine lv_i2d hx hb dX2_passes_158 ?_
            have e8 := PASS_e e9
            have hP : va_P (dC, dI) vwCl [(am, .inr (2, [.int (cdE (PASS (HEI la ea oL oN oE oW k pw fa sa va) dd x3).2), .int (wo + nI (PASS (HEI la ea oL oN oE oW k pw fa sa va) dd x3).1), .int (fu + cFL (PASS (HEI la ea oL oN oE oW k pw fa sa va) dd x3).2), .ref gs, .ref go, .ref gt, .ref gp, .ref gw, .double la, .double ea, .ref gl, .int ln, .int (cFL (PASS (HEI la ea oL oN oE oW k pw fa sa va) dd x3).2)])), (go, aD 16 (cA 1) uf), (gt, aI 4 (cA 0) tf), (gp, aI 48 (cA 0) pf), (gw, aD 144 (cA 1) wf)] H := by rw [e8]; simp only; rw [show cdE (.error xIS : Except String UInt64) = 3 from rfl, cFL_IS]; exact hP
            have hD : va_D A [(am, .inr (2, [.int (cdE (PASS (HEI la ea oL oN oE oW k pw fa sa va) dd x3).2), .int (wo + nI (PASS (HEI la ea oL oN oE oW k pw fa sa va) dd x3).1), .int (fu + cFL (PASS (HEI la ea oL oN oE oW k pw fa sa va) dd x3).2), .ref gs, .ref go, .ref gt, .ref gp, .ref gw, .double la, .double ea, .ref gl, .int ln, .int (cFL (PASS (HEI la ea oL oN oE oW k pw fa sa va) dd x3).2)])), (go, aD 16 (cA 1) uf), (gt, aI 4 (cA 0) tf), (gp, aI 48 (cA 0) pf), (gw, aD 144 (cA 1) wf)] := by rw [e8]; simp only; rw [show cdE (.error xIS : Except String UInt64) = 3 from rfl, cFL_IS]; exact hD
            subst hQQ
            exact W.dret hx hb hr (fun t ht hW => ⟨⟨_, (), rfl, (fun v hv => by rw [e8] at hv; cases hv), ⟨by rw [ht]; exact hP, hD⟩⟩, hS.F ht⟩) hS.2.2 dX2_passes_159
        · obtain ⟨hq, hcf⟩ := ab_ok hp_10 c_11
          rw [hcf, c_11, i0] at hP hD
          have hP : va_P (dC, dI) vwCl [(am, .inr (2, [.int th, .int (wo + nI (j + 1)), .int fu, .ref gs, .ref go, .ref gt, .ref gp, .ref gw, .double la, .double ea, .ref gl, .int ln, .int 0])), (go, aD 16 (cA 1) uf), (gt, aI 4 (cA 0) tf), (gp, aI 48 (cA 0) pf), (gw, aD 144 (cA 1) wf)] H := by rw [wk_s]; exact hP
          have hD : va_D A [(am, .inr (2, [.int th, .int (wo + nI (j + 1)), .int fu, .ref gs, .ref go, .ref gt, .ref gp, .ref gw, .double la, .double ea, .ref gl, .int ln, .int 0])), (go, aD 16 (cA 1) uf), (gt, aI 4 (cA 0) tf), (gp, aI 48 (cA 0) pf), (gw, aD 144 (cA 1) wf)] := by rw [wk_s]; exact hD
          refine lv_dload hx hb dX2_passes_50 (lv_at hl 0 rfl) ?_
          refine lv_dconst0 hx hb dX2_passes_52 ?_
          have r_20 : fR FP.dconst0 0 0 := fR_lit (by decide +kernel)
          refine zd_l_lt (tgt := 61) hx hb dX2_passes_53 dX2_passes_54 (by decide) (fun c_21 => ?_) (fun c_21 => ?_)
          · refine lv_iconst (v := 0) hx hb dX2_passes_61 (by decide) ?_
            rw [show (Value.int 0) = Value.int (UP v_9) from congrArg Value.int (UP_0 c_21)]
            refine lv_iload hx hb dX2_passes_62 (lv_at hl 4 rfl) ?_
            refine lv_icmp_ne (tgt := 132) hx hb dX2_passes_64 (by decide) (fun c_22 => ?_) (fun c_22 => ?_)
            · refine lv_dload hx hb dX2_passes_132 (lv_at hl 0 rfl) ?_
              refine lv_dstore (lv' := [(5, .double v_9), (8, .double v_9), (0, .ref am), (1, .int x1), (2, .double x2), (4, .int x3), (7, .int (nI j))]) hx hb dX2_passes_134 hl (by decide) rfl (fun ls hl => ?_)
              refine lv_iinc (v := nI (j + 1)) (lv' := [(7, .int (nI (j + 1))), (5, .double v_9), (8, .double v_9), (0, .ref am), (1, .int x1), (2, .double x2), (4, .int x3)]) hx hb dX2_passes_136 hl (k := 6) rfl (nI_1 _) (by decide) rfl (fun ls hl => ?_)
              refine lv_goto (tgt := 13) hx hb dX2_passes_139 (by decide) ?_
              exact ih (j + 1) (v_9) (by omega) (by omega) (by omega) (by rw [hQ, pcL_go1 (show j < 17 by omega) hq c_22, addc_addc]) _ _ _ hP hD hS (lv_sub hl [3, 4, 5, 6, 1, 0] rfl)
            · refine lv_dload hx hb dX2_passes_67 (lv_at hl 5 rfl) ?_
              refine lv_dconst0 hx hb dX2_passes_69 ?_
              have r_23 : fR FP.dconst0 0 0 := fR_lit (by decide +kernel)
              refine zd_l_lt (tgt := 78) hx hb dX2_passes_70 dX2_passes_71 (by decide) (fun c_24 => ?_) (fun c_24 => ?_)
              · refine lv_iconst (v := 0) hx hb dX2_passes_78 (by decide) ?_
                rw [show (Value.int 0) = Value.int (UP lst) from congrArg Value.int (UP_0 c_24)]
                refine lv_iload hx hb dX2_passes_79 (lv_at hl 4 rfl) ?_
                refine lv_icmp_eq (tgt := 132) hx hb dX2_passes_81 (by decide) (fun c_25 => ?_) (fun c_25 => ?_)
                · refine lv_dload hx hb dX2_passes_132 (lv_at hl 0 rfl) ?_
                  refine lv_dstore (lv' := [(5, .double v_9), (8, .double v_9), (0, .ref am), (1, .int x1), (2, .double x2), (4, .int x3), (7, .int (nI j))]) hx hb dX2_passes_134 hl (by decide) rfl (fun ls hl => ?_)
                  refine lv_iinc (v := nI (j + 1)) (lv' := [(7, .int (nI (j + 1))), (5, .double v_9), (8, .double v_9), (0, .ref am), (1, .int x1), (2, .double x2), (4, .int x3)]) hx hb dX2_passes_136 hl (k := 6) rfl (nI_1 _) (by decide) rfl (fun ls hl => ?_)
                  refine lv_goto (tgt := 13) hx hb dX2_passes_139 (by decide) ?_
                  exact ih (j + 1) (v_9) (by omega) (by omega) (by omega) (by rw [hQ, pcL_go2 (show j < 17 by omega) hq c_25, addc_addc]) _ _ _ hP hD hS (lv_sub hl [3, 4, 5, 6, 1, 0] rfl)
                · have e9 : PCR (HEI la ea oL oN oE oW k pw fa sa va) dd x3 = (j + 1, .ok (nI j)) := by rw [hQ, pcL_hit (show j < 17 by omega) hq c_22 c_25]; rfl
                  have e8 := PASS_h e9 (nI_nm1 (by omega))
                  refine lv_aload_n hx hb dX2_passes_84 rfl (lv_at hl 1 rfl) ?_
                  refine lv_iload_n hx hb dX2_passes_85 rfl (lv_at hl 2 rfl) ?_
                  refine lv_dload_n hx hb dX2_passes_86 rfl (lv_at hl 3 rfl) ?_
                  refine lv_iload hx hb dX2_passes_87 (lv_at hl 6 rfl) ?_
                  refine lv_iconst (v := 1) hx hb dX2_passes_89 (by decide) ?_
                  refine lv_isub hx hb dX2_passes_90 ?_
                  refine lv_i2d hx hb dX2_passes_91 ?_
                  refine lv_ldc2d hx hb hown (hts (.constantDouble RX2 239 (4625196817309499392)) (by decide +kernel)) dX2_passes_92 ?_
                  have r_26 : fR 4625196817309499392 17179869184 17179869184 := fR_lit (by decide +kernel)
                  have r_27 := fR_div (i2d_R ((nI j) - 1)) r_26 (by decide) (-144115188075855872) 144115188075855872 (by decide) (by decide) rfl rfl
                  refine lv_ddiv hx hb dX2_passes_95 (fR_nn r_27) ?_
                  have r_28 := fR_add hx2R r_27 (-2449958197289549824) 2449958197289549824 (by decide) (by decide) rfl rfl
                  refine lv_dadd hx hb dX2_passes_96 (fR_nn r_28) ?_
                  rw [show FP.dadd x2 (FP.ddiv (FP.i2d (nI j - 1)) 4625196817309499392) = TOP dd (nI j - 1) from by rw [hx2]; rfl]
                  refine lv_dload_n hx hb dX2_passes_97 rfl (lv_at hl 3 rfl) ?_
                  refine lv_iload hx hb dX2_passes_98 (lv_at hl 6 rfl) ?_
                  refine lv_i2d hx hb dX2_passes_100 ?_
                  refine lv_ldc2d hx hb hown (hts (.constantDouble RX2 239 (4625196817309499392)) (by decide +kernel)) dX2_passes_101 ?_
                  have r_29 : fR 4625196817309499392 17179869184 17179869184 := fR_lit (by decide +kernel)
                  have r_30 := fR_div (i2d_R (nI j)) r_29 (by decide) (-144115188075855872) 144115188075855872 (by decide) (by decide) rfl rfl
                  refine lv_ddiv hx hb dX2_passes_104 (fR_nn r_30) ?_
                  have r_31 := fR_add hx2R r_30 (-2449958197289549824) 2449958197289549824 (by decide) (by decide) rfl rfl
                  refine lv_dadd hx hb dX2_passes_105 (fR_nn r_31) ?_
                  rw [show FP.dadd x2 (FP.ddiv (FP.i2d (nI j)) 4625196817309499392) = TOP dd (nI j) from by rw [hx2]; rfl]
                  refine lv_iload hx hb dX2_passes_106 (lv_at hl 4 rfl) ?_
                  have hPc := hP.sub (ws' := [(am, .inr (2, [.int th, .int (wo + nI (j + 1)), .int fu, .ref gs, .ref go, .ref gt, .ref gp, .ref gw, .double la, .double ea, .ref gl, .int ln, .int 0])), (go, aD 16 (cA 1) uf), (gt, aI 4 (cA 0) tf), (gp, aI 48 (cA 0) pf), (gw, aD 144 (cA 1) wf)]) [0, 1, 2, 3, 4] rfl
                  have hDc := hD.sub (ws' := [(am, .inr (2, [.int th, .int (wo + nI (j + 1)), .int fu, .ref gs, .ref go, .ref gt, .ref gp, .ref gw, .double la, .double ea, .ref gl, .int ln, .int 0])), (go, aD 16 (cA 1) uf), (gt, aI 4 (cA 0) tf), (gp, aI 48 (cA 0) pf), (gw, aD 144 (cA 1) wf)]) [0, 1, 2, 3, 4] (by decide) rfl
                  have hFc := va_free (wc := [(am, .inr (2, [.int th, .int (wo + nI (j + 1)), .int fu, .ref gs, .ref go, .ref gt, .ref gp, .ref gw, .double la, .double ea, .ref gl, .int ln, .int 0])), (go, aD 16 (cA 1) uf), (gt, aI 4 (cA 0) tf), (gp, aI 48 (cA 0) pf), (gw, aD 144 (cA 1) wf)]) hD hS hA [0, 1, 2, 3, 4] rfl
                  refine va_calld (va_runV (As := [.int x1, .double (TOP dd (nI j - 1)), .double (TOP dd (nI j)), .int x3]) (rest := []) ⟨hx, hb, hml, hown, hts⟩ (k_X2_crossing l hst dC dI cA tm tt _ am gs go gt gp gw gl th (wo + nI (j + 1)) fu la ea ln 0 uf tf pf wf oL oN oE oW k pw fa sa va x1 (TOP dd (nI j - 1)) (TOP dd (nI j)) x3 hb1 hb2 hR hO hT hla hea (dd.toInt * 1073741824) ((dd.toInt * 1073741824) + 1073741824) (by omega) (by omega) (by omega) (top_R hd (p_1 (nI_b2 hj1 hj6))) (top_R hd (nI_b (show j ≤ 16 by omega)))) (cwV 4 hts gX2_passes_X2_crossing rfl rfl rfl (by decide +kernel) ⟨Nat.le_of_ble_eq_true rfl, Nat.le_of_ble_eq_true rfl⟩) ⟨PcW.blind, va_recv hK hPc (ci := 2) (q0 := 0) rfl rfl, PcW.give hPc hK hDc hE hS hFc⟩ rfl rfl hl.1 rfl (lv_room (Nat.le_of_ble_eq_true rfl)) dX2_passes_108 ⟨Nat.le_of_ble_eq_true rfl, Nat.le_of_ble_eq_true rfl⟩) hS (fun q _ h => hFc q h) hFc (fun v_32 u t H locs ht hvm hp_33 hB hz1 hk1 hS => ?_)
                  obtain ⟨hP1, hD1⟩ := hB
                  rw [ht] at hP1
                  obtain ⟨hP, hD⟩ := va_join (wr := []) (w1 := [(am, .inr (2, [.int th, .int ((wo + nI (j + 1)) + nI (NCR (HEI la ea oL oN oE oW k pw fa sa va) dd (nI j) x3).1), .int (fu + cFL (NCR (HEI la ea oL oN oE oW k pw fa sa va) dd (nI j) x3).2), .ref gs, .ref go, .ref gt, .ref gp, .ref gw, .double la, .double ea, .ref gl, .int ln, .int (cFL (NCR (HEI la ea oL oN oE oW k pw fa sa va) dd (nI j) x3).2)])), (go, aD 16 (cA 1) uf), (gt, aI 4 (cA 0) tf), (gp, aI 48 (cA 0) pf), (gw, aD 144 (cA 1) wf)]) hP hD [0, 1, 2, 3, 4] [] rfl rfl (by decide) (by decide) hk1 hFc hP1 hD1
                  have hP := hP.sub (ws' := [(am, .inr (2, [.int th, .int ((wo + nI (j + 1)) + nI (NCR (HEI la ea oL oN oE oW k pw fa sa va) dd (nI j) x3).1), .int (fu + cFL (NCR (HEI la ea oL oN oE oW k pw fa sa va) dd (nI j) x3).2), .ref gs, .ref go, .ref gt, .ref gp, .ref gw, .double la, .double ea, .ref gl, .int ln, .int (cFL (NCR (HEI la ea oL oN oE oW k pw fa sa va) dd (nI j) x3).2)])), (go, aD 16 (cA 1) uf), (gt, aI 4 (cA 0) tf), (gp, aI 48 (cA 0) pf), (gw, aD 144 (cA 1) wf)]) [0, 1, 2, 3, 4] rfl
                  have hD := hD.sub (ws' := [(am, .inr (2, [.int th, .int ((wo + nI (j + 1)) + nI (NCR (HEI la ea oL oN oE oW k pw fa sa va) dd (nI j) x3).1), .int (fu + cFL (NCR (HEI la ea oL oN oE oW k pw fa sa va) dd (nI j) x3).2), .ref gs, .ref go, .ref gt, .ref gp, .ref gw, .double la, .double ea, .ref gl, .int ln, .int (cFL (NCR (HEI la ea oL oN oE oW k pw fa sa va) dd (nI j) x3).2)])), (go, aD 16 (cA 1) uf), (gt, aI 4 (cA 0) tf), (gp, aI 48 (cA 0) pf), (gw, aD 144 (cA 1) wf)]) [0, 1, 2, 3, 4] (by decide) rfl
                  refine lv_dstore (lv' := [(10, .double v_32), (8, .double v_9), (0, .ref am), (1, .int x1), (2, .double x2), (4, .int x3), (5, .double lst), (7, .int (nI j))]) hx hb dX2_passes_111 hl (by decide) rfl (fun ls hl => ?_)
                  refine lv_aload_n hx hb dX2_passes_113 rfl (lv_at hl 2 rfl) ?_
                  refine lv_aload_n hx hb dX2_passes_114 rfl (lv_at hl 2 rfl) ?_
                  refine va_get (D := (dC, dI)) (ci := 2) (v := .int (cFL (NCR (HEI la ea oL oN oE oW k pw fa sa va) dd (nI j) x3).2)) (C := RX2) (T := TX2) (N := 13) hx hb hts hin2 hown hK hP 0 rfl rfl 12 (by decide) (hts (.fieldLink RX2 202 "SkyAlmanacModel" "failed" "Z") (by decide +kernel)) (fun _ h9 => h9) rfl dX2_passes_115 ?_
                  refine lv_if_eq (tgt := 125) hx hb dX2_passes_118 (by decide) (fun c_34 => ?_) (fun c_34 => ?_)
                  · refine lv_iconst (v := 0) hx hb dX2_passes_125 (by decide) ?_
                    refine va_put (D := (dC, dI)) (ci := 2) (v := .int 0) (ty := .int) (C := RX2) (T := TX2) (N := 13) hx hb hts hin2 tyX2 tyX2_ok nmX2 hown hK hP hD hS 0 rfl rfl 0 (by decide) (hts (.fieldLink RX2 30 "SkyAlmanacModel" "thrown" "I") (by decide +kernel)) (fun _ h9 => h9) rfl (by decide +kernel) rfl rfl (Nat.le_of_ble_eq_true rfl) dX2_passes_126 (fun H locs hP hD hS => ?_)
                    have hP : va_P (dC, dI) vwCl [(am, .inr (2, [.int 0, .int ((wo + nI (j + 1)) + nI (NCR (HEI la ea oL oN oE oW k pw fa sa va) dd (nI j) x3).1), .int (fu + cFL (NCR (HEI la ea oL oN oE oW k pw fa sa va) dd (nI j) x3).2), .ref gs, .ref go, .ref gt, .ref gp, .ref gw, .double la, .double ea, .ref gl, .int ln, .int (cFL (NCR (HEI la ea oL oN oE oW k pw fa sa va) dd (nI j) x3).2)])), (go, aD 16 (cA 1) uf), (gt, aI 4 (cA 0) tf), (gp, aI 48 (cA 0) pf), (gw, aD 144 (cA 1) wf)] H := hP
                    have hD : va_D A [(am, .inr (2, [.int 0, .int ((wo + nI (j + 1)) + nI (NCR (HEI la ea oL oN oE oW k pw fa sa va) dd (nI j) x3).1), .int (fu + cFL (NCR (HEI la ea oL oN oE oW k pw fa sa va) dd (nI j) x3).2), .ref gs, .ref go, .ref gt, .ref gp, .ref gw, .double la, .double ea, .ref gl, .int ln, .int (cFL (NCR (HEI la ea oL oN oE oW k pw fa sa va) dd (nI j) x3).2)])), (go, aD 16 (cA 1) uf), (gt, aI 4 (cA 0) tf), (gp, aI 48 (cA 0) pf), (gw, aD 144 (cA 1) wf)] := hD
                    have hP : va_P (dC, dI) vwCl [(am, .inr (2, [.int (cdE (PASS (HEI la ea oL oN oE oW k pw fa sa va) dd x3).2), .int (wo + nI (PASS (HEI la ea oL oN oE oW k pw fa sa va) dd x3).1), .int (fu + cFL (PASS (HEI la ea oL oN oE oW k pw fa sa va) dd x3).2), .ref gs, .ref go, .ref gt, .ref gp, .ref gw, .double la, .double ea, .ref gl, .int ln, .int (cFL (PASS (HEI la ea oL oN oE oW k pw fa sa va) dd x3).2)])), (go, aD 16 (cA 1) uf), (gt, aI 4 (cA 0) tf), (gp, aI 48 (cA 0) pf), (gw, aD 144 (cA 1) wf)] H := by rw [e8]; simp only; rw [wk_add, cdE_0 c_34 (fun e h => NCR_x (fun t e h => HEI_err h) h)]; exact hP
                    have hD : va_D A [(am, .inr (2, [.int (cdE (PASS (HEI la ea oL oN oE oW k pw fa sa va) dd x3).2), .int (wo + nI (PASS (HEI la ea oL oN oE oW k pw fa sa va) dd x3).1), .int (fu + cFL (PASS (HEI la ea oL oN oE oW k pw fa sa va) dd x3).2), .ref gs, .ref go, .ref gt, .ref gp, .ref gw, .double la, .double ea, .ref gl, .int ln, .int (cFL (PASS (HEI la ea oL oN oE oW k pw fa sa va) dd x3).2)])), (go, aD 16 (cA 1) uf), (gt, aI 4 (cA 0) tf), (gp, aI 48 (cA 0) pf), (gw, aD 144 (cA 1) wf)] := by rw [e8]; simp only; rw [wk_add, cdE_0 c_34 (fun e h => NCR_x (fun t e h => HEI_err h) h)]; exact hD
                    refine lv_dload hx hb dX2_passes_129 (lv_at hl 0 rfl) ?_
                    subst hQQ
                    exact W.dret hx hb hr (fun t ht hW => ⟨⟨_, (), rfl, (fun v hv => hp_33 v (by rw [e8] at hv; exact hv)), ⟨by rw [ht]; exact hP, hD⟩⟩, hS.F ht⟩) hS.2.2 dX2_passes_131
                  · refine lv_iconst (v := 3) hx hb dX2_passes_121 (by decide) ?_
                    refine lv_goto (tgt := 126) hx hb dX2_passes_122 (by decide) ?_
                    refine va_put (D := (dC, dI)) (ci := 2) (v := .int 3) (ty := .int) (C := RX2) (T := TX2) (N := 13) hx hb hts hin2 tyX2 tyX2_ok nmX2 hown hK hP hD hS 0 rfl rfl 0 (by decide) (hts (.fieldLink RX2 30 "SkyAlmanacModel" "thrown" "I") (by decide +kernel)) (fun _ h9 => h9) rfl (by decide +kernel) rfl rfl (Nat.le_of_ble_eq_true rfl) dX2_passes_126 (fun H locs hP hD hS => ?_)
                    have hP : va_P (dC, dI) vwCl [(am, .inr (2, [.int 3, .int ((wo + nI (j + 1)) + nI (NCR (HEI la ea oL oN oE oW k pw fa sa va) dd (nI j) x3).1), .int (fu + cFL (NCR (HEI la ea oL oN oE oW k pw fa sa va) dd (nI j) x3).2), .ref gs, .ref go, .ref gt, .ref gp, .ref gw, .double la, .double ea, .ref gl, .int ln, .int (cFL (NCR (HEI la ea oL oN oE oW k pw fa sa va) dd (nI j) x3).2)])), (go, aD 16 (cA 1) uf), (gt, aI 4 (cA 0) tf), (gp, aI 48 (cA 0) pf), (gw, aD 144 (cA 1) wf)] H := hP
                    have hD : va_D A [(am, .inr (2, [.int 3, .int ((wo + nI (j + 1)) + nI (NCR (HEI la ea oL oN oE oW k pw fa sa va) dd (nI j) x3).1), .int (fu + cFL (NCR (HEI la ea oL oN oE oW k pw fa sa va) dd (nI j) x3).2), .ref gs, .ref go, .ref gt, .ref gp, .ref gw, .double la, .double ea, .ref gl, .int ln, .int (cFL (NCR (HEI la ea oL oN oE oW k pw fa sa va) dd (nI j) x3).2)])), (go, aD 16 (cA 1) uf), (gt, aI 4 (cA 0) tf), (gp, aI 48 (cA 0) pf), (gw, aD 144 (cA 1) wf)] := hD
                    have hP : va_P (dC, dI) vwCl [(am, .inr (2, [.int (cdE (PASS (HEI la ea oL oN oE oW k pw fa sa va) dd x3).2), .int (wo + nI (PASS (HEI la ea oL oN oE oW k pw fa sa va) dd x3).1), .int (fu + cFL (PASS (HEI la ea oL oN oE oW k pw fa sa va) dd x3).2), .ref gs, .ref go, .ref gt, .ref gp, .ref gw, .double la, .double ea, .ref gl, .int ln, .int (cFL (PASS (HEI la ea oL oN oE oW k pw fa sa va) dd x3).2)])), (go, aD 16 (cA 1) uf), (gt, aI 4 (cA 0) tf), (gp, aI 48 (cA 0) pf), (gw, aD 144 (cA 1) wf)] H := by rw [e8]; simp only; rw [wk_add, cdE_3 c_34 (fun e h => NCR_x (fun t e h => HEI_err h) h)]; exact hP
                    have hD : va_D A [(am, .inr (2, [.int (cdE (PASS (HEI la ea oL oN oE oW k pw fa sa va) dd x3).2), .int (wo + nI (PASS (HEI la ea oL oN oE oW k pw fa sa va) dd x3).1), .int (fu + cFL (PASS (HEI la ea oL oN oE oW k pw fa sa va) dd x3).2), .ref gs, .ref go, .ref gt, .ref gp, .ref gw, .double la, .double ea, .ref gl, .int ln, .int (cFL (PASS (HEI la ea oL oN oE oW k pw fa sa va) dd x3).2)])), (go, aD 16 (cA 1) uf), (gt, aI 4 (cA 0) tf), (gp, aI 48 (cA 0) pf), (gw, aD 144 (cA 1) wf)] := by rw [e8]; simp only; rw [wk_add, cdE_3 c_34 (fun e h => NCR_x (fun t e h => HEI_err h) h)]; exact hD
                    refine lv_dload hx hb dX2_passes_129 (lv_at hl 0 rfl) ?_
                    subst hQQ
                    exact W.dret hx hb hr (fun t ht hW => ⟨⟨_, (), rfl, (fun v hv => hp_33 v (by rw [e8] at hv; exact hv)), ⟨by rw [ht]; exact hP, hD⟩⟩, hS.F ht⟩) hS.2.2 dX2_passes_131
              · refine lv_iconst (v := 1) hx hb dX2_passes_74 (by decide) ?_
                refine lv_goto (tgt := 79) hx hb dX2_passes_75 (by decide) ?_
                rw [show (Value.int 1) = Value.int (UP lst) from congrArg Value.int (UP_1 c_24)]
                refine lv_iload hx hb dX2_passes_79 (lv_at hl 4 rfl) ?_
                refine lv_icmp_eq (tgt := 132) hx hb dX2_passes_81 (by decide) (fun c_35 => ?_) (fun c_35 => ?_)
                · refine lv_dload hx hb dX2_passes_132 (lv_at hl 0 rfl) ?_
                  refine lv_dstore (lv' := [(5, .double v_9), (8, .double v_9), (0, .ref am), (1, .int x1), (2, .double x2), (4, .int x3), (7, .int (nI j))]) hx hb dX2_passes_134 hl (by decide) rfl (fun ls hl => ?_)
                  refine lv_iinc (v := nI (j + 1)) (lv' := [(7, .int (nI (j + 1))), (5, .double v_9), (8, .double v_9), (0, .ref am), (1, .int x1), (2, .double x2), (4, .int x3)]) hx hb dX2_passes_136 hl (k := 6) rfl (nI_1 _) (by decide) rfl (fun ls hl => ?_)
                  refine lv_goto (tgt := 13) hx hb dX2_passes_139 (by decide) ?_
                  exact ih (j + 1) (v_9) (by omega) (by omega) (by omega) (by rw [hQ, pcL_go2 (show j < 17 by omega) hq c_35, addc_addc]) _ _ _ hP hD hS (lv_sub hl [3, 4, 5, 6, 1, 0] rfl)
                · have e9 : PCR (HEI la ea oL oN oE oW k pw fa sa va) dd x3 = (j + 1, .ok (nI j)) := by rw [hQ, pcL_hit (show j < 17 by omega) hq c_22 c_35]; rfl
                  have e8 := PASS_h e9 (nI_nm1 (by omega))
                  refine lv_aload_n hx hb dX2_passes_84 rfl (lv_at hl 1 rfl) ?_
                  refine lv_iload_n hx hb dX2_passes_85 rfl (lv_at hl 2 rfl) ?_
                  refine lv_dload_n hx hb dX2_passes_86 rfl (lv_at hl 3 rfl) ?_
                  refine lv_iload hx hb dX2_passes_87 (lv_at hl 6 rfl) ?_
                  refine lv_iconst (v := 1) hx hb dX2_passes_89 (by decide) ?_
                  refine lv_isub hx hb dX2_passes_90 ?_
                  refine lv_i2d hx hb dX2_passes_91 ?_
                  refine lv_ldc2d hx hb hown (hts (.constantDouble RX2 239 (4625196817309499392)) (by decide +kernel)) dX2_passes_92 ?_
                  have r_36 : fR 4625196817309499392 17179869184 17179869184 := fR_lit (by decide +kernel)
                  have r_37 := fR_div (i2d_R ((nI j) - 1)) r_36 (by decide) (-144115188075855872) 144115188075855872 (by decide) (by decide) rfl rfl
                  refine lv_ddiv hx hb dX2_passes_95 (fR_nn r_37) ?_
                  have r_38 := fR_add hx2R r_37 (-2449958197289549824) 2449958197289549824 (by decide) (by decide) rfl rfl
                  refine lv_dadd hx hb dX2_passes_96 (fR_nn r_38) ?_
                  rw [show FP.dadd x2 (FP.ddiv (FP.i2d (nI j - 1)) 4625196817309499392) = TOP dd (nI j - 1) from by rw [hx2]; rfl]
                  refine lv_dload_n hx hb dX2_passes_97 rfl (lv_at hl 3 rfl) ?_
                  refine lv_iload hx hb dX2_passes_98 (lv_at hl 6 rfl) ?_
                  refine lv_i2d hx hb dX2_passes_100 ?_
                  refine lv_ldc2d hx hb hown (hts (.constantDouble RX2 239 (4625196817309499392)) (by decide +kernel)) dX2_passes_101 ?_
                  have r_39 : fR 4625196817309499392 17179869184 17179869184 := fR_lit (by decide +kernel)
                  have r_40 := fR_div (i2d_R (nI j)) r_39 (by decide) (-144115188075855872) 144115188075855872 (by decide) (by decide) rfl rfl
                  refine lv_ddiv hx hb dX2_passes_104 (fR_nn r_40) ?_
                  have r_41 := fR_add hx2R r_40 (-2449958197289549824) 2449958197289549824 (by decide) (by decide) rfl rfl
                  refine lv_dadd hx hb dX2_passes_105 (fR_nn r_41) ?_
                  rw [show FP.dadd x2 (FP.ddiv (FP.i2d (nI j)) 4625196817309499392) = TOP dd (nI j) from by rw [hx2]; rfl]
                  refine lv_iload hx hb dX2_passes_106 (lv_at hl 4 rfl) ?_
                  have hPc := hP.sub (ws' := [(am, .inr (2, [.int th, .int (wo + nI (j + 1)), .int fu, .ref gs, .ref go, .ref gt, .ref gp, .ref gw, .double la, .double ea, .ref gl, .int ln, .int 0])), (go, aD 16 (cA 1) uf), (gt, aI 4 (cA 0) tf), (gp, aI 48 (cA 0) pf), (gw, aD 144 (cA 1) wf)]) [0, 1, 2, 3, 4] rfl
                  have hDc := hD.sub (ws' := [(am, .inr (2, [.int th, .int (wo + nI (j + 1)), .int fu, .ref gs, .ref go, .ref gt, .ref gp, .ref gw, .double la, .double ea, .ref gl, .int ln, .int 0])), (go, aD 16 (cA 1) uf), (gt, aI 4 (cA 0) tf), (gp, aI 48 (cA 0) pf), (gw, aD 144 (cA 1) wf)]) [0, 1, 2, 3, 4] (by decide) rfl
                  have hFc := va_free (wc := [(am, .inr (2, [.int th, .int (wo + nI (j + 1)), .int fu, .ref gs, .ref go, .ref gt, .ref gp, .ref gw, .double la, .double ea, .ref gl, .int ln, .int 0])), (go, aD 16 (cA 1) uf), (gt, aI 4 (cA 0) tf), (gp, aI 48 (cA 0) pf), (gw, aD 144 (cA 1) wf)]) hD hS hA [0, 1, 2, 3, 4] rfl
                  refine va_calld (va_runV (As := [.int x1, .double (TOP dd (nI j - 1)), .double (TOP dd (nI j)), .int x3]) (rest := []) ⟨hx, hb, hml, hown, hts⟩ (k_X2_crossing l hst dC dI cA tm tt _ am gs go gt gp gw gl th (wo + nI (j + 1)) fu la ea ln 0 uf tf pf wf oL oN oE oW k pw fa sa va x1 (TOP dd (nI j - 1)) (TOP dd (nI j)) x3 hb1 hb2 hR hO hT hla hea (dd.toInt * 1073741824) ((dd.toInt * 1073741824) + 1073741824) (by omega) (by omega) (by omega) (top_R hd (p_1 (nI_b2 hj1 hj6))) (top_R hd (nI_b (show j ≤ 16 by omega)))) (cwV 4 hts gX2_passes_X2_crossing rfl rfl rfl (by decide +kernel) ⟨Nat.le_of_ble_eq_true rfl, Nat.le_of_ble_eq_true rfl⟩) ⟨PcW.blind, va_recv hK hPc (ci := 2) (q0 := 0) rfl rfl, PcW.give hPc hK hDc hE hS hFc⟩ rfl rfl hl.1 rfl (lv_room (Nat.le_of_ble_eq_true rfl)) dX2_passes_108 ⟨Nat.le_of_ble_eq_true rfl, Nat.le_of_ble_eq_true rfl⟩) hS (fun q _ h => hFc q h) hFc (fun v_42 u t H locs ht hvm hp_43 hB hz1 hk1 hS => ?_)
                  obtain ⟨hP1, hD1⟩ := hB
                  rw [ht] at hP1
                  obtain ⟨hP, hD⟩ := va_join (wr := []) (w1 := [(am, .inr (2, [.int th, .int ((wo + nI (j + 1)) + nI (NCR (HEI la ea oL oN oE oW k pw fa sa va) dd (nI j) x3).1), .int (fu + cFL (NCR (HEI la ea oL oN oE oW k pw fa sa va) dd (nI j) x3).2), .ref gs, .ref go, .ref gt, .ref gp, .ref gw, .double la, .double ea, .ref gl, .int ln, .int (cFL (NCR (HEI la ea oL oN oE oW k pw fa sa va) dd (nI j) x3).2)])), (go, aD 16 (cA 1) uf), (gt, aI 4 (cA 0) tf), (gp, aI 48 (cA 0) pf), (gw, aD 144 (cA 1) wf)]) hP hD [0, 1, 2, 3, 4] [] rfl rfl (by decide) (by decide) hk1 hFc hP1 hD1
                  have hP := hP.sub (ws' := [(am, .inr (2, [.int th, .int ((wo + nI (j + 1)) + nI (NCR (HEI la ea oL oN oE oW k pw fa sa va) dd (nI j) x3).1), .int (fu + cFL (NCR (HEI la ea oL oN oE oW k pw fa sa va) dd (nI j) x3).2), .ref gs, .ref go, .ref gt, .ref gp, .ref gw, .double la, .double ea, .ref gl, .int ln, .int (cFL (NCR (HEI la ea oL oN oE oW k pw fa sa va) dd (nI j) x3).2)])), (go, aD 16 (cA 1) uf), (gt, aI 4 (cA 0) tf), (gp, aI 48 (cA 0) pf), (gw, aD 144 (cA 1) wf)]) [0, 1, 2, 3, 4] rfl
                  have hD := hD.sub (ws' := [(am, .inr (2, [.int th, .int ((wo + nI (j + 1)) + nI (NCR (HEI la ea oL oN oE oW k pw fa sa va) dd (nI j) x3).1), .int (fu + cFL (NCR (HEI la ea oL oN oE oW k pw fa sa va) dd (nI j) x3).2), .ref gs, .ref go, .ref gt, .ref gp, .ref gw, .double la, .double ea, .ref gl, .int ln, .int (cFL (NCR (HEI la ea oL oN oE oW k pw fa sa va) dd (nI j) x3).2)])), (go, aD 16 (cA 1) uf), (gt, aI 4 (cA 0) tf), (gp, aI 48 (cA 0) pf), (gw, aD 144 (cA 1) wf)]) [0, 1, 2, 3, 4] (by decide) rfl
                  refine lv_dstore (lv' := [(10, .double v_42), (8, .double v_9), (0, .ref am), (1, .int x1), (2, .double x2), (4, .int x3), (5, .double lst), (7, .int (nI j))]) hx hb dX2_passes_111 hl (by decide) rfl (fun ls hl => ?_)
                  refine lv_aload_n hx hb dX2_passes_113 rfl (lv_at hl 2 rfl) ?_
                  refine lv_aload_n hx hb dX2_passes_114 rfl (lv_at hl 2 rfl) ?_
                  refine va_get (D := (dC, dI)) (ci := 2) (v := .int (cFL (NCR (HEI la ea oL oN oE oW k pw fa sa va) dd (nI j) x3).2)) (C := RX2) (T := TX2) (N := 13) hx hb hts hin2 hown hK hP 0 rfl rfl 12 (by decide) (hts (.fieldLink RX2 202 "SkyAlmanacModel" "failed" "Z") (by decide +kernel)) (fun _ h9 => h9) rfl dX2_passes_115 ?_
                  refine lv_if_eq (tgt := 125) hx hb dX2_passes_118 (by decide) (fun c_44 => ?_) (fun c_44 => ?_)
                  · refine lv_iconst (v := 0) hx hb dX2_passes_125 (by decide) ?_
                    refine va_put (D := (dC, dI)) (ci := 2) (v := .int 0) (ty := .int) (C := RX2) (T := TX2) (N := 13) hx hb hts hin2 tyX2 tyX2_ok nmX2 hown hK hP hD hS 0 rfl rfl 0 (by decide) (hts (.fieldLink RX2 30 "SkyAlmanacModel" "thrown" "I") (by decide +kernel)) (fun _ h9 => h9) rfl (by decide +kernel) rfl rfl (Nat.le_of_ble_eq_true rfl) dX2_passes_126 (fun H locs hP hD hS => ?_)
                    have hP : va_P (dC, dI) vwCl [(am, .inr (2, [.int 0, .int ((wo + nI (j + 1)) + nI (NCR (HEI la ea oL oN oE oW k pw fa sa va) dd (nI j) x3).1), .int (fu + cFL (NCR (HEI la ea oL oN oE oW k pw fa sa va) dd (nI j) x3).2), .ref gs, .ref go, .ref gt, .ref gp, .ref gw, .double la, .double ea, .ref gl, .int ln, .int (cFL (NCR (HEI la ea oL oN oE oW k pw fa sa va) dd (nI j) x3).2)])), (go, aD 16 (cA 1) uf), (gt, aI 4 (cA 0) tf), (gp, aI 48 (cA 0) pf), (gw, aD 144 (cA 1) wf)] H := hP
                    have hD : va_D A [(am, .inr (2, [.int 0, .int ((wo + nI (j + 1)) + nI (NCR (HEI la ea oL oN oE oW k pw fa sa va) dd (nI j) x3).1), .int (fu + cFL (NCR (HEI la ea oL oN oE oW k pw fa sa va) dd (nI j) x3).2), .ref gs, .ref go, .ref gt, .ref gp, .ref gw, .double la, .double ea, .ref gl, .int ln, .int (cFL (NCR (HEI la ea oL oN oE oW k pw fa sa va) dd (nI j) x3).2)])), (go, aD 16 (cA 1) uf), (gt, aI 4 (cA 0) tf), (gp, aI 48 (cA 0) pf), (gw, aD 144 (cA 1) wf)] := hD
                    have hP : va_P (dC, dI) vwCl [(am, .inr (2, [.int (cdE (PASS (HEI la ea oL oN oE oW k pw fa sa va) dd x3).2), .int (wo + nI (PASS (HEI la ea oL oN oE oW k pw fa sa va) dd x3).1), .int (fu + cFL (PASS (HEI la ea oL oN oE oW k pw fa sa va) dd x3).2), .ref gs, .ref go, .ref gt, .ref gp, .ref gw, .double la, .double ea, .ref gl, .int ln, .int (cFL (PASS (HEI la ea oL oN oE oW k pw fa sa va) dd x3).2)])), (go, aD 16 (cA 1) uf), (gt, aI 4 (cA 0) tf), (gp, aI 48 (cA 0) pf), (gw, aD 144 (cA 1) wf)] H := by rw [e8]; simp only; rw [wk_add, cdE_0 c_44 (fun e h => NCR_x (fun t e h => HEI_err h) h)]; exact hP
                    have hD : va_D A [(am, .inr (2, [.int (cdE (PASS (HEI la ea oL oN oE oW k pw fa sa va) dd x3).2), .int (wo + nI (PASS (HEI la ea oL oN oE oW k pw fa sa va) dd x3).1), .int (fu + cFL (PASS (HEI la ea oL oN oE oW k pw fa sa va) dd x3).2), .ref gs, .ref go, .ref gt, .ref gp, .ref gw, .double la, .double ea, .ref gl, .int ln, .int (cFL (PASS (HEI la ea oL oN oE oW k pw fa sa va) dd x3).2)])), (go, aD 16 (cA 1) uf), (gt, aI 4 (cA 0) tf), (gp, aI 48 (cA 0) pf), (gw, aD 144 (cA 1) wf)] := by rw [e8]; simp only; rw [wk_add, cdE_0 c_44 (fun e h => NCR_x (fun t e h => HEI_err h) h)]; exact hD
                    refine lv_dload hx hb dX2_passes_129 (lv_at hl 0 rfl) ?_
                    subst hQQ
                    exact W.dret hx hb hr (fun t ht hW => ⟨⟨_, (), rfl, (fun v hv => hp_43 v (by rw [e8] at hv; exact hv)), ⟨by rw [ht]; exact hP, hD⟩⟩, hS.F ht⟩) hS.2.2 dX2_passes_131
                  · refine lv_iconst (v := 3) hx hb dX2_passes_121 (by decide) ?_
                    refine lv_goto (tgt := 126) hx hb dX2_passes_122 (by decide) ?_
                    refine va_put (D := (dC, dI)) (ci := 2) (v := .int 3) (ty := .int) (C := RX2) (T := TX2) (N := 13) hx hb hts hin2 tyX2 tyX2_ok nmX2 hown hK hP hD hS 0 rfl rfl 0 (by decide) (hts (.fieldLink RX2 30 "SkyAlmanacModel" "thrown" "I") (by decide +kernel)) (fun _ h9 => h9) rfl (by decide +kernel) rfl rfl (Nat.le_of_ble_eq_true rfl) dX2_passes_126 (fun H locs hP hD hS => ?_)
                    have hP : va_P (dC, dI) vwCl [(am, .inr (2, [.int 3, .int ((wo + nI (j + 1)) + nI (NCR (HEI la ea oL oN oE oW k pw fa sa va) dd (nI j) x3).1), .int (fu + cFL (NCR (HEI la ea oL oN oE oW k pw fa sa va) dd (nI j) x3).2), .ref gs, .ref go, .ref gt, .ref gp, .ref gw, .double la, .double ea, .ref gl, .int ln, .int (cFL (NCR (HEI la ea oL oN oE oW k pw fa sa va) dd (nI j) x3).2)])), (go, aD 16 (cA 1) uf), (gt, aI 4 (cA 0) tf), (gp, aI 48 (cA 0) pf), (gw, aD 144 (cA 1) wf)] H := hP
                    have hD : va_D A [(am, .inr (2, [.int 3, .int ((wo + nI (j + 1)) + nI (NCR (HEI la ea oL oN oE oW k pw fa sa va) dd (nI j) x3).1), .int (fu + cFL (NCR (HEI la ea oL oN oE oW k pw fa sa va) dd (nI j) x3).2), .ref gs, .ref go, .ref gt, .ref gp, .ref gw, .double la, .double ea, .ref gl, .int ln, .int (cFL (NCR (HEI la ea oL oN oE oW k pw fa sa va) dd (nI j) x3).2)])), (go, aD 16 (cA 1) uf), (gt, aI 4 (cA 0) tf), (gp, aI 48 (cA 0) pf), (gw, aD 144 (cA 1) wf)] := hD
                    have hP : va_P (dC, dI) vwCl [(am, .inr (2, [.int (cdE (PASS (HEI la ea oL oN oE oW k pw fa sa va) dd x3).2), .int (wo + nI (PASS (HEI la ea oL oN oE oW k pw fa sa va) dd x3).1), .int (fu + cFL (PASS (HEI la ea oL oN oE oW k pw fa sa va) dd x3).2), .ref gs, .ref go, .ref gt, .ref gp, .ref gw, .double la, .double ea, .ref gl, .int ln, .int (cFL (PASS (HEI la ea oL oN oE oW k pw fa sa va) dd x3).2)])), (go, aD 16 (cA 1) uf), (gt, aI 4 (cA 0) tf), (gp, aI 48 (cA 0) pf), (gw, aD 144 (cA 1) wf)] H := by rw [e8]; simp only; rw [wk_add, cdE_3 c_44 (fun e h => NCR_x (fun t e h => HEI_err h) h)]; exact hP
                    have hD : va_D A [(am, .inr (2, [.int (cdE (PASS (HEI la ea oL oN oE oW k pw fa sa va) dd x3).2), .int (wo + nI (PASS (HEI la ea oL oN oE oW k pw fa sa va) dd x3).1), .int (fu + cFL (PASS (HEI la ea oL oN oE oW k pw fa sa va) dd x3).2), .ref gs, .ref go, .ref gt, .ref gp, .ref gw, .double la, .double ea, .ref gl, .int ln, .int (cFL (PASS (HEI la ea oL oN oE oW k pw fa sa va) dd x3).2)])), (go, aD 16 (cA 1) uf), (gt, aI 4 (cA 0) tf), (gp, aI 48 (cA 0) pf), (gw, aD 144 (cA 1) wf)] := by rw [e8]; simp only; rw [wk_add, cdE_3 c_44 (fun e h => NCR_x (fun t e h => HEI_err h) h)]; exact hD
                    refine lv_dload hx hb dX2_passes_129 (lv_at hl 0 rfl) ?_
                    subst hQQ
                    exact W.dret hx hb hr (fun t ht hW => ⟨⟨_, (), rfl, (fun v hv => hp_43 v (by rw [e8] at hv; exact hv)), ⟨by rw [ht]; exact hP, hD⟩⟩, hS.F ht⟩) hS.2.2 dX2_passes_131
          · refine lv_iconst (v := 1) hx hb dX2_passes_57 (by decide) ?_
            refine lv_goto (tgt := 62) hx hb dX2_passes_58 (by decide) ?_
            rw [show (Value.int 1) = Value.int (UP v_9) from congrArg Value.int (UP_1 c_21)]
            refine lv_iload hx hb dX2_passes_62 (lv_at hl 4 rfl) ?_
            refine lv_icmp_ne (tgt := 132) hx hb dX2_passes_64 (by decide) (fun c_45 => ?_) (fun c_45 => ?_)
            · refine lv_dload hx hb dX2_passes_132 (lv_at hl 0 rfl) ?_
              refine lv_dstore (lv' := [(5, .double v_9), (8, .double v_9), (0, .ref am), (1, .int x1), (2, .double x2), (4, .int x3), (7, .int (nI j))]) hx hb dX2_passes_134 hl (by decide) rfl (fun ls hl => ?_)
              refine lv_iinc (v := nI (j + 1)) (lv' := [(7, .int (nI (j + 1))), (5, .double v_9), (8, .double v_9), (0, .ref am), (1, .int x1), (2, .double x2), (4, .int x3)]) hx hb dX2_passes_136 hl (k := 6) rfl (nI_1 _) (by decide) rfl (fun ls hl => ?_)
              refine lv_goto (tgt := 13) hx hb dX2_passes_139 (by decide) ?_
              exact ih (j + 1) (v_9) (by omega) (by omega) (by omega) (by rw [hQ, pcL_go1 (show j < 17 by omega) hq c_45, addc_addc]) _ _ _ hP hD hS (lv_sub hl [3, 4, 5, 6, 1, 0] rfl)
            · refine lv_dload hx hb dX2_passes_67 (lv_at hl 5 rfl) ?_
              refine lv_dconst0 hx hb dX2_passes_69 ?_
              have r_46 : fR FP.dconst0 0 0 := fR_lit (by decide +kernel)
              refine zd_l_lt (tgt := 78) hx hb dX2_passes_70 dX2_passes_71 (by decide) (fun c_47 => ?_) (fun c_47 => ?_)
              · refine lv_iconst (v := 0) hx hb dX2_passes_78 (by decide) ?_
                rw [show (Value.int 0) = Value.int (UP lst) from congrArg Value.int (UP_0 c_47)]
                refine lv_iload hx hb dX2_passes_79 (lv_at hl 4 rfl) ?_
                refine lv_icmp_eq (tgt := 132) hx hb dX2_passes_81 (by decide) (fun c_48 => ?_) (fun c_48 => ?_)
                · refine lv_dload hx hb dX2_passes_132 (lv_at hl 0 rfl) ?_
                  refine lv_dstore (lv' := [(5, .double v_9), (8, .double v_9), (0, .ref am), (1, .int x1), (2, .double x2), (4, .int x3), (7, .int (nI j))]) hx hb dX2_passes_134 hl (by decide) rfl (fun ls hl => ?_)
                  refine lv_iinc (v := nI (j + 1)) (lv' := [(7, .int (nI (j + 1))), (5, .double v_9), (8, .double v_9), (0, .ref am), (1, .int x1), (2, .double x2), (4, .int x3)]) hx hb dX2_passes_136 hl (k := 6) rfl (nI_1 _) (by decide) rfl (fun ls hl => ?_)
                  refine lv_goto (tgt := 13) hx hb dX2_passes_139 (by decide) ?_
                  exact ih (j + 1) (v_9) (by omega) (by omega) (by omega) (by rw [hQ, pcL_go2 (show j < 17 by omega) hq c_48, addc_addc]) _ _ _ hP hD hS (lv_sub hl [3, 4, 5, 6, 1, 0] rfl)
                · have e9 : PCR (HEI la ea oL oN oE oW k pw fa sa va) dd x3 = (j + 1, .ok (nI j)) := by rw [hQ, pcL_hit (show j < 17 by omega) hq c_45 c_48]; rfl
                  have e8 := PASS_h e9 (nI_nm1 (by omega))
                  refine lv_aload_n hx hb dX2_passes_84 rfl (lv_at hl 1 rfl) ?_
                  refine lv_iload_n hx hb dX2_passes_85 rfl (lv_at hl 2 rfl) ?_
                  refine lv_dload_n hx hb dX2_passes_86 rfl (lv_at hl 3 rfl) ?_
                  refine lv_iload hx hb dX2_passes_87 (lv_at hl 6 rfl) ?_
                  refine lv_iconst (v := 1) hx hb dX2_passes_89 (by decide) ?_
                  refine lv_isub hx hb dX2_passes_90 ?_
                  refine lv_i2d hx hb dX2_passes_91 ?_
                  refine lv_ldc2d hx hb hown (hts (.constantDouble RX2 239 (4625196817309499392)) (by decide +kernel)) dX2_passes_92 ?_
                  have r_49 : fR 4625196817309499392 17179869184 17179869184 := fR_lit (by decide +kernel)
                  have r_50 := fR_div (i2d_R ((nI j) - 1)) r_49 (by decide) (-144115188075855872) 144115188075855872 (by decide) (by decide) rfl rfl
                  refine lv_ddiv hx hb dX2_passes_95 (fR_nn r_50) ?_
                  have r_51 := fR_add hx2R r_50 (-2449958197289549824) 2449958197289549824 (by decide) (by decide) rfl rfl
                  refine lv_dadd hx hb dX2_passes_96 (fR_nn r_51) ?_
                  rw [show FP.dadd x2 (FP.ddiv (FP.i2d (nI j - 1)) 4625196817309499392) = TOP dd (nI j - 1) from by rw [hx2]; rfl]
                  refine lv_dload_n hx hb dX2_passes_97 rfl (lv_at hl 3 rfl) ?_
                  refine lv_iload hx hb dX2_passes_98 (lv_at hl 6 rfl) ?_
                  refine lv_i2d hx hb dX2_passes_100 ?_
                  refine lv_ldc2d hx hb hown (hts (.constantDouble RX2 239 (4625196817309499392)) (by decide +kernel)) dX2_passes_101 ?_
                  have r_52 : fR 4625196817309499392 17179869184 17179869184 := fR_lit (by decide +kernel)
                  have r_53 := fR_div (i2d_R (nI j)) r_52 (by decide) (-144115188075855872) 144115188075855872 (by decide) (by decide) rfl rfl
                  refine lv_ddiv hx hb dX2_passes_104 (fR_nn r_53) ?_
                  have r_54 := fR_add hx2R r_53 (-2449958197289549824) 2449958197289549824 (by decide) (by decide) rfl rfl
                  refine lv_dadd hx hb dX2_passes_105 (fR_nn r_54) ?_
                  rw [show FP.dadd x2 (FP.ddiv (FP.i2d (nI j)) 4625196817309499392) = TOP dd (nI j) from by rw [hx2]; rfl]
                  refine lv_iload hx hb dX2_passes_106 (lv_at hl 4 rfl) ?_
                  have hPc := hP.sub (ws' := [(am, .inr (2, [.int th, .int (wo + nI (j + 1)), .int fu, .ref gs, .ref go, .ref gt, .ref gp, .ref gw, .double la, .double ea, .ref gl, .int ln, .int 0])), (go, aD 16 (cA 1) uf), (gt, aI 4 (cA 0) tf), (gp, aI 48 (cA 0) pf), (gw, aD 144 (cA 1) wf)]) [0, 1, 2, 3, 4] rfl
                  have hDc := hD.sub (ws' := [(am, .inr (2, [.int th, .int (wo + nI (j + 1)), .int fu, .ref gs, .ref go, .ref gt, .ref gp, .ref gw, .double la, .double ea, .ref gl, .int ln, .int 0])), (go, aD 16 (cA 1) uf), (gt, aI 4 (cA 0) tf), (gp, aI 48 (cA 0) pf), (gw, aD 144 (cA 1) wf)]) [0, 1, 2, 3, 4] (by decide) rfl
                  have hFc := va_free (wc := [(am, .inr (2, [.int th, .int (wo + nI (j + 1)), .int fu, .ref gs, .ref go, .ref gt, .ref gp, .ref gw, .double la, .double ea, .ref gl, .int ln, .int 0])), (go, aD 16 (cA 1) uf), (gt, aI 4 (cA 0) tf), (gp, aI 48 (cA 0) pf), (gw, aD 144 (cA 1) wf)]) hD hS hA [0, 1, 2, 3, 4] rfl
                  refine va_calld (va_runV (As := [.int x1, .double (TOP dd (nI j - 1)), .double (TOP dd (nI j)), .int x3]) (rest := []) ⟨hx, hb, hml, hown, hts⟩ (k_X2_crossing l hst dC dI cA tm tt _ am gs go gt gp gw gl th (wo + nI (j + 1)) fu la ea ln 0 uf tf pf wf oL oN oE oW k pw fa sa va x1 (TOP dd (nI j - 1)) (TOP dd (nI j)) x3 hb1 hb2 hR hO hT hla hea (dd.toInt * 1073741824) ((dd.toInt * 1073741824) + 1073741824) (by omega) (by omega) (by omega) (top_R hd (p_1 (nI_b2 hj1 hj6))) (top_R hd (nI_b (show j ≤ 16 by omega)))) (cwV 4 hts gX2_passes_X2_crossing rfl rfl rfl (by decide +kernel) ⟨Nat.le_of_ble_eq_true rfl, Nat.le_of_ble_eq_true rfl⟩) ⟨PcW.blind, va_recv hK hPc (ci := 2) (q0 := 0) rfl rfl, PcW.give hPc hK hDc hE hS hFc⟩ rfl rfl hl.1 rfl (lv_room (Nat.le_of_ble_eq_true rfl)) dX2_passes_108 ⟨Nat.le_of_ble_eq_true rfl, Nat.le_of_ble_eq_true rfl⟩) hS (fun q _ h => hFc q h) hFc (fun v_55 u t H locs ht hvm hp_56 hB hz1 hk1 hS => ?_)
                  obtain ⟨hP1, hD1⟩ := hB
                  rw [ht] at hP1
                  obtain ⟨hP, hD⟩ := va_join (wr := []) (w1 := [(am, .inr (2, [.int th, .int ((wo + nI (j + 1)) + nI (NCR (HEI la ea oL oN oE oW k pw fa sa va) dd (nI j) x3).1), .int (fu + cFL (NCR (HEI la ea oL oN oE oW k pw fa sa va) dd (nI j) x3).2), .ref gs, .ref go, .ref gt, .ref gp, .ref gw, .double la, .double ea, .ref gl, .int ln, .int (cFL (NCR (HEI la ea oL oN oE oW k pw fa sa va) dd (nI j) x3).2)])), (go, aD 16 (cA 1) uf), (gt, aI 4 (cA 0) tf), (gp, aI 48 (cA 0) pf), (gw, aD 144 (cA 1) wf)]) hP hD [0, 1, 2, 3, 4] [] rfl rfl (by decide) (by decide) hk1 hFc hP1 hD1
                  have hP := hP.sub (ws' := [(am, .inr (2, [.int th, .int ((wo + nI (j + 1)) + nI (NCR (HEI la ea oL oN oE oW k pw fa sa va) dd (nI j) x3).1), .int (fu + cFL (NCR (HEI la ea oL oN oE oW k pw fa sa va) dd (nI j) x3).2), .ref gs, .ref go, .ref gt, .ref gp, .ref gw, .double la, .double ea, .ref gl, .int ln, .int (cFL (NCR (HEI la ea oL oN oE oW k pw fa sa va) dd (nI j) x3).2)])), (go, aD 16 (cA 1) uf), (gt, aI 4 (cA 0) tf), (gp, aI 48 (cA 0) pf), (gw, aD 144 (cA 1) wf)]) [0, 1, 2, 3, 4] rfl
                  have hD := hD.sub (ws' := [(am, .inr (2, [.int th, .int ((wo + nI (j + 1)) + nI (NCR (HEI la ea oL oN oE oW k pw fa sa va) dd (nI j) x3).1), .int (fu + cFL (NCR (HEI la ea oL oN oE oW k pw fa sa va) dd (nI j) x3).2), .ref gs, .ref go, .ref gt, .ref gp, .ref gw, .double la, .double ea, .ref gl, .int ln, .int (cFL (NCR (HEI la ea oL oN oE oW k pw fa sa va) dd (nI j) x3).2)])), (go, aD 16 (cA 1) uf), (gt, aI 4 (cA 0) tf), (gp, aI 48 (cA 0) pf), (gw, aD 144 (cA 1) wf)]) [0, 1, 2, 3, 4] (by decide) rfl
                  refine lv_dstore (lv' := [(10, .double v_55), (8, .double v_9), (0, .ref am), (1, .int x1), (2, .double x2), (4, .int x3), (5, .double lst), (7, .int (nI j))]) hx hb dX2_passes_111 hl (by decide) rfl (fun ls hl => ?_)
                  refine lv_aload_n hx hb dX2_passes_113 rfl (lv_at hl 2 rfl) ?_
                  refine lv_aload_n hx hb dX2_passes_114 rfl (lv_at hl 2 rfl) ?_
                  refine va_get (D := (dC, dI)) (ci := 2) (v := .int (cFL (NCR (HEI la ea oL oN oE oW k pw fa sa va) dd (nI j) x3).2)) (C := RX2) (T := TX2) (N := 13) hx hb hts hin2 hown hK hP 0 rfl rfl 12 (by decide) (hts (.fieldLink RX2 202 "SkyAlmanacModel" "failed" "Z") (by decide +kernel)) (fun _ h9 => h9) rfl dX2_passes_115 ?_
                  refine lv_if_eq (tgt := 125) hx hb dX2_passes_118 (by decide) (fun c_57 => ?_) (fun c_57 => ?_)
                  · refine lv_iconst (v := 0) hx hb dX2_passes_125 (by decide) ?_
                    refine va_put (D := (dC, dI)) (ci := 2) (v := .int 0) (ty := .int) (C := RX2) (T := TX2) (N := 13) hx hb hts hin2 tyX2 tyX2_ok nmX2 hown hK hP hD hS 0 rfl rfl 0 (by decide) (hts (.fieldLink RX2 30 "SkyAlmanacModel" "thrown" "I") (by decide +kernel)) (fun _ h9 => h9) rfl (by decide +kernel) rfl rfl (Nat.le_of_ble_eq_true rfl) dX2_passes_126 (fun H locs hP hD hS => ?_)
                    have hP : va_P (dC, dI) vwCl [(am, .inr (2, [.int 0, .int ((wo + nI (j + 1)) + nI (NCR (HEI la ea oL oN oE oW k pw fa sa va) dd (nI j) x3).1), .int (fu + cFL (NCR (HEI la ea oL oN oE oW k pw fa sa va) dd (nI j) x3).2), .ref gs, .ref go, .ref gt, .ref gp, .ref gw, .double la, .double ea, .ref gl, .int ln, .int (cFL (NCR (HEI la ea oL oN oE oW k pw fa sa va) dd (nI j) x3).2)])), (go, aD 16 (cA 1) uf), (gt, aI 4 (cA 0) tf), (gp, aI 48 (cA 0) pf), (gw, aD 144 (cA 1) wf)] H := hP
                    have hD : va_D A [(am, .inr (2, [.int 0, .int ((wo + nI (j + 1)) + nI (NCR (HEI la ea oL oN oE oW k pw fa sa va) dd (nI j) x3).1), .int (fu + cFL (NCR (HEI la ea oL oN oE oW k pw fa sa va) dd (nI j) x3).2), .ref gs, .ref go, .ref gt, .ref gp, .ref gw, .double la, .double ea, .ref gl, .int ln, .int (cFL (NCR (HEI la ea oL oN oE oW k pw fa sa va) dd (nI j) x3).2)])), (go, aD 16 (cA 1) uf), (gt, aI 4 (cA 0) tf), (gp, aI 48 (cA 0) pf), (gw, aD 144 (cA 1) wf)] := hD
                    have hP : va_P (dC, dI) vwCl [(am, .inr (2, [.int (cdE (PASS (HEI la ea oL oN oE oW k pw fa sa va) dd x3).2), .int (wo + nI (PASS (HEI la ea oL oN oE oW k pw fa sa va) dd x3).1), .int (fu + cFL (PASS (HEI la ea oL oN oE oW k pw fa sa va) dd x3).2), .ref gs, .ref go, .ref gt, .ref gp, .ref gw, .double la, .double ea, .ref gl, .int ln, .int (cFL (PASS (HEI la ea oL oN oE oW k pw fa sa va) dd x3).2)])), (go, aD 16 (cA 1) uf), (gt, aI 4 (cA 0) tf), (gp, aI 48 (cA 0) pf), (gw, aD 144 (cA 1) wf)] H := by rw [e8]; simp only; rw [wk_add, cdE_0 c_57 (fun e h => NCR_x (fun t e h => HEI_err h) h)]; exact hP
                    have hD : va_D A [(am, .inr (2, [.int (cdE (PASS (HEI la ea oL oN oE oW k pw fa sa va) dd x3).2), .int (wo + nI (PASS (HEI la ea oL oN oE oW k pw fa sa va) dd x3).1), .int (fu + cFL (PASS (HEI la ea oL oN oE oW k pw fa sa va) dd x3).2), .ref gs, .ref go, .ref gt, .ref gp, .ref gw, .double la, .double ea, .ref gl, .int ln, .int (cFL (PASS (HEI la ea oL oN oE oW k pw fa sa va) dd x3).2)])), (go, aD 16 (cA 1) uf), (gt, aI 4 (cA 0) tf), (gp, aI 48 (cA 0) pf), (gw, aD 144 (cA 1) wf)] := by rw [e8]; simp only; rw [wk_add, cdE_0 c_57 (fun e h => NCR_x (fun t e h => HEI_err h) h)]; exact hD
                    refine lv_dload hx hb dX2_passes_129 (lv_at hl 0 rfl) ?_
                    subst hQQ
                    exact W.dret hx hb hr (fun t ht hW => ⟨⟨_, (), rfl, (fun v hv => hp_56 v (by rw [e8] at hv; exact hv)), ⟨by rw [ht]; exact hP, hD⟩⟩, hS.F ht⟩) hS.2.2 dX2_passes_131
                  · refine lv_iconst (v := 3) hx hb dX2_passes_121 (by decide) ?_
                    refine lv_goto (tgt := 126) hx hb dX2_passes_122 (by decide) ?_
                    refine va_put (D := (dC, dI)) (ci := 2) (v := .int 3) (ty := .int) (C := RX2) (T := TX2) (N := 13) hx hb hts hin2 tyX2 tyX2_ok nmX2 hown hK hP hD hS 0 rfl rfl 0 (by decide) (hts (.fieldLink RX2 30 "SkyAlmanacModel" "thrown" "I") (by decide +kernel)) (fun _ h9 => h9) rfl (by decide +kernel) rfl rfl (Nat.le_of_ble_eq_true rfl) dX2_passes_126 (fun H locs hP hD hS => ?_)
                    have hP : va_P (dC, dI) vwCl [(am, .inr (2, [.int 3, .int ((wo + nI (j + 1)) + nI (NCR (HEI la ea oL oN oE oW k pw fa sa va) dd (nI j) x3).1), .int (fu + cFL (NCR (HEI la ea oL oN oE oW k pw fa sa va) dd (nI j) x3).2), .ref gs, .ref go, .ref gt, .ref gp, .ref gw, .double la, .double ea, .ref gl, .int ln, .int (cFL (NCR (HEI la ea oL oN oE oW k pw fa sa va) dd (nI j) x3).2)])), (go, aD 16 (cA 1) uf), (gt, aI 4 (cA 0) tf), (gp, aI 48 (cA 0) pf), (gw, aD 144 (cA 1) wf)] H := hP
                    have hD : va_D A [(am, .inr (2, [.int 3, .int ((wo + nI (j + 1)) + nI (NCR (HEI la ea oL oN oE oW k pw fa sa va) dd (nI j) x3).1), .int (fu + cFL (NCR (HEI la ea oL oN oE oW k pw fa sa va) dd (nI j) x3).2), .ref gs, .ref go, .ref gt, .ref gp, .ref gw, .double la, .double ea, .ref gl, .int ln, .int (cFL (NCR (HEI la ea oL oN oE oW k pw fa sa va) dd (nI j) x3).2)])), (go, aD 16 (cA 1) uf), (gt, aI 4 (cA 0) tf), (gp, aI 48 (cA 0) pf), (gw, aD 144 (cA 1) wf)] := hD
                    have hP : va_P (dC, dI) vwCl [(am, .inr (2, [.int (cdE (PASS (HEI la ea oL oN oE oW k pw fa sa va) dd x3).2), .int (wo + nI (PASS (HEI la ea oL oN oE oW k pw fa sa va) dd x3).1), .int (fu + cFL (PASS (HEI la ea oL oN oE oW k pw fa sa va) dd x3).2), .ref gs, .ref go, .ref gt, .ref gp, .ref gw, .double la, .double ea, .ref gl, .int ln, .int (cFL (PASS (HEI la ea oL oN oE oW k pw fa sa va) dd x3).2)])), (go, aD 16 (cA 1) uf), (gt, aI 4 (cA 0) tf), (gp, aI 48 (cA 0) pf), (gw, aD 144 (cA 1) wf)] H := by rw [e8]; simp only; rw [wk_add, cdE_3 c_57 (fun e h => NCR_x (fun t e h => HEI_err h) h)]; exact hP
                    have hD : va_D A [(am, .inr (2, [.int (cdE (PASS (HEI la ea oL oN oE oW k pw fa sa va) dd x3).2), .int (wo + nI (PASS (HEI la ea oL oN oE oW k pw fa sa va) dd x3).1), .int (fu + cFL (PASS (HEI la ea oL oN oE oW k pw fa sa va) dd x3).2), .ref gs, .ref go, .ref gt, .ref gp, .ref gw, .double la, .double ea, .ref gl, .int ln, .int (cFL (PASS (HEI la ea oL oN oE oW k pw fa sa va) dd x3).2)])), (go, aD 16 (cA 1) uf), (gt, aI 4 (cA 0) tf), (gp, aI 48 (cA 0) pf), (gw, aD 144 (cA 1) wf)] := by rw [e8]; simp only; rw [wk_add, cdE_3 c_57 (fun e h => NCR_x (fun t e h => HEI_err h) h)]; exact hD
                    refine lv_dload hx hb dX2_passes_129 (lv_at hl 0 rfl) ?_
                    subst hQQ
                    exact W.dret hx hb hr (fun t ht hW => ⟨⟨_, (), rfl, (fun v hv => hp_56 v (by rw [e8] at hv; exact hv)), ⟨by rw [ht]; exact hP, hD⟩⟩, hS.F ht⟩) hS.2.2 dX2_passes_131
              · refine lv_iconst (v := 1) hx hb dX2_passes_74 (by decide) ?_
                refine lv_goto (tgt := 79) hx hb dX2_passes_75 (by decide) ?_
                rw [show (Value.int 1) = Value.int (UP lst) from congrArg Value.int (UP_1 c_47)]
                refine lv_iload hx hb dX2_passes_79 (lv_at hl 4 rfl) ?_
                refine lv_icmp_eq (tgt := 132) hx hb dX2_passes_81 (by decide) (fun c_58 => ?_) (fun c_58 => ?_)
                · refine lv_dload hx hb dX2_passes_132 (lv_at hl 0 rfl) ?_
                  refine lv_dstore (lv' := [(5, .double v_9), (8, .double v_9), (0, .ref am), (1, .int x1), (2, .double x2), (4, .int x3), (7, .int (nI j))]) hx hb dX2_passes_134 hl (by decide) rfl (fun ls hl => ?_)
                  refine lv_iinc (v := nI (j + 1)) (lv' := [(7, .int (nI (j + 1))), (5, .double v_9), (8, .double v_9), (0, .ref am), (1, .int x1), (2, .double x2), (4, .int x3)]) hx hb dX2_passes_136 hl (k := 6) rfl (nI_1 _) (by decide) rfl (fun ls hl => ?_)
                  refine lv_goto (tgt := 13) hx hb dX2_passes_139 (by decide) ?_
                  exact ih (j + 1) (v_9) (by omega) (by omega) (by omega) (by rw [hQ, pcL_go2 (show j < 17 by omega) hq c_58, addc_addc]) _ _ _ hP hD hS (lv_sub hl [3, 4, 5, 6, 1, 0] rfl)
                · have e9 : PCR (HEI la ea oL oN oE oW k pw fa sa va) dd x3 = (j + 1, .ok (nI j)) := by rw [hQ, pcL_hit (show j < 17 by omega) hq c_45 c_58]; rfl
                  have e8 := PASS_h e9 (nI_nm1 (by omega))
                  refine lv_aload_n hx hb dX2_passes_84 rfl (lv_at hl 1 rfl) ?_
                  refine lv_iload_n hx hb dX2_passes_85 rfl (lv_at hl 2 rfl) ?_
                  refine lv_dload_n hx hb dX2_passes_86 rfl (lv_at hl 3 rfl) ?_
                  refine lv_iload hx hb dX2_passes_87 (lv_at hl 6 rfl) ?_
                  refine lv_iconst (v := 1) hx hb dX2_passes_89 (by decide) ?_
                  refine lv_isub hx hb dX2_passes_90 ?_
                  refine lv_i2d hx hb dX2_passes_91 ?_
                  refine lv_ldc2d hx hb hown (hts (.constantDouble RX2 239 (4625196817309499392)) (by decide +kernel)) dX2_passes_92 ?_
                  have r_59 : fR 4625196817309499392 17179869184 17179869184 := fR_lit (by decide +kernel)
                  have r_60 := fR_div (i2d_R ((nI j) - 1)) r_59 (by decide) (-144115188075855872) 144115188075855872 (by decide) (by decide) rfl rfl
                  refine lv_ddiv hx hb dX2_passes_95 (fR_nn r_60) ?_
                  have r_61 := fR_add hx2R r_60 (-2449958197289549824) 2449958197289549824 (by decide) (by decide) rfl rfl
                  refine lv_dadd hx hb dX2_passes_96 (fR_nn r_61) ?_
                  rw [show FP.dadd x2 (FP.ddiv (FP.i2d (nI j - 1)) 4625196817309499392) = TOP dd (nI j - 1) from by rw [hx2]; rfl]
                  refine lv_dload_n hx hb dX2_passes_97 rfl (lv_at hl 3 rfl) ?_
                  refine lv_iload hx hb dX2_passes_98 (lv_at hl 6 rfl) ?_
                  refine lv_i2d hx hb dX2_passes_100 ?_
                  refine lv_ldc2d hx hb hown (hts (.constantDouble RX2 239 (4625196817309499392)) (by decide +kernel)) dX2_passes_101 ?_
                  have r_62 : fR 4625196817309499392 17179869184 17179869184 := fR_lit (by decide +kernel)
                  have r_63 := fR_div (i2d_R (nI j)) r_62 (by decide) (-144115188075855872) 144115188075855872 (by decide) (by decide) rfl rfl
                  refine lv_ddiv hx hb dX2_passes_104 (fR_nn r_63) ?_
                  have r_64 := fR_add hx2R r_63 (-2449958197289549824) 2449958197289549824 (by decide) (by decide) rfl rfl
                  refine lv_dadd hx hb dX2_passes_105 (fR_nn r_64) ?_
                  rw [show FP.dadd x2 (FP.ddiv (FP.i2d (nI j)) 4625196817309499392) = TOP dd (nI j) from by rw [hx2]; rfl]
                  refine lv_iload hx hb dX2_passes_106 (lv_at hl 4 rfl) ?_
                  have hPc := hP.sub (ws' := [(am, .inr (2, [.int th, .int (wo + nI (j + 1)), .int fu, .ref gs, .ref go, .ref gt, .ref gp, .ref gw, .double la, .double ea, .ref gl, .int ln, .int 0])), (go, aD 16 (cA 1) uf), (gt, aI 4 (cA 0) tf), (gp, aI 48 (cA 0) pf), (gw, aD 144 (cA 1) wf)]) [0, 1, 2, 3, 4] rfl
                  have hDc := hD.sub (ws' := [(am, .inr (2, [.int th, .int (wo + nI (j + 1)), .int fu, .ref gs, .ref go, .ref gt, .ref gp, .ref gw, .double la, .double ea, .ref gl, .int ln, .int 0])), (go, aD 16 (cA 1) uf), (gt, aI 4 (cA 0) tf), (gp, aI 48 (cA 0) pf), (gw, aD 144 (cA 1) wf)]) [0, 1, 2, 3, 4] (by decide) rfl
                  have hFc := va_free (wc := [(am, .inr (2, [.int th, .int (wo + nI (j + 1)), .int fu, .ref gs, .ref go, .ref gt, .ref gp, .ref gw, .double la, .double ea, .ref gl, .int ln, .int 0])), (go, aD 16 (cA 1) uf), (gt, aI 4 (cA 0) tf), (gp, aI 48 (cA 0) pf), (gw, aD 144 (cA 1) wf)]) hD hS hA [0, 1, 2, 3, 4] rfl
                  refine va_calld (va_runV (As := [.int x1, .double (TOP dd (nI j - 1)), .double (TOP dd (nI j)), .int x3]) (rest := []) ⟨hx, hb, hml, hown, hts⟩ (k_X2_crossing l hst dC dI cA tm tt _ am gs go gt gp gw gl th (wo + nI (j + 1)) fu la ea ln 0 uf tf pf wf oL oN oE oW k pw fa sa va x1 (TOP dd (nI j - 1)) (TOP dd (nI j)) x3 hb1 hb2 hR hO hT hla hea (dd.toInt * 1073741824) ((dd.toInt * 1073741824) + 1073741824) (by omega) (by omega) (by omega) (top_R hd (p_1 (nI_b2 hj1 hj6))) (top_R hd (nI_b (show j ≤ 16 by omega)))) (cwV 4 hts gX2_passes_X2_crossing rfl rfl rfl (by decide +kernel) ⟨Nat.le_of_ble_eq_true rfl, Nat.le_of_ble_eq_true rfl⟩) ⟨PcW.blind, va_recv hK hPc (ci := 2) (q0 := 0) rfl rfl, PcW.give hPc hK hDc hE hS hFc⟩ rfl rfl hl.1 rfl (lv_room (Nat.le_of_ble_eq_true rfl)) dX2_passes_108 ⟨Nat.le_of_ble_eq_true rfl, Nat.le_of_ble_eq_true rfl⟩) hS (fun q _ h => hFc q h) hFc (fun v_65 u t H locs ht hvm hp_66 hB hz1 hk1 hS => ?_)
                  obtain ⟨hP1, hD1⟩ := hB
                  rw [ht] at hP1
                  obtain ⟨hP, hD⟩ := va_join (wr := []) (w1 := [(am, .inr (2, [.int th, .int ((wo + nI (j + 1)) + nI (NCR (HEI la ea oL oN oE oW k pw fa sa va) dd (nI j) x3).1), .int (fu + cFL (NCR (HEI la ea oL oN oE oW k pw fa sa va) dd (nI j) x3).2), .ref gs, .ref go, .ref gt, .ref gp, .ref gw, .double la, .double ea, .ref gl, .int ln, .int (cFL (NCR (HEI la ea oL oN oE oW k pw fa sa va) dd (nI j) x3).2)])), (go, aD 16 (cA 1) uf), (gt, aI 4 (cA 0) tf), (gp, aI 48 (cA 0) pf), (gw, aD 144 (cA 1) wf)]) hP hD [0, 1, 2, 3, 4] [] rfl rfl (by decide) (by decide) hk1 hFc hP1 hD1
                  have hP := hP.sub (ws' := [(am, .inr (2, [.int th, .int ((wo + nI (j + 1)) + nI (NCR (HEI la ea oL oN oE oW k pw fa sa va) dd (nI j) x3).1), .int (fu + cFL (NCR (HEI la ea oL oN oE oW k pw fa sa va) dd (nI j) x3).2), .ref gs, .ref go, .ref gt, .ref gp, .ref gw, .double la, .double ea, .ref gl, .int ln, .int (cFL (NCR (HEI la ea oL oN oE oW k pw fa sa va) dd (nI j) x3).2)])), (go, aD 16 (cA 1) uf), (gt, aI 4 (cA 0) tf), (gp, aI 48 (cA 0) pf), (gw, aD 144 (cA 1) wf)]) [0, 1, 2, 3, 4] rfl
                  have hD := hD.sub (ws' := [(am, .inr (2, [.int th, .int ((wo + nI (j + 1)) + nI (NCR (HEI la ea oL oN oE oW k pw fa sa va) dd (nI j) x3).1), .int (fu + cFL (NCR (HEI la ea oL oN oE oW k pw fa sa va) dd (nI j) x3).2), .ref gs, .ref go, .ref gt, .ref gp, .ref gw, .double la, .double ea, .ref gl, .int ln, .int (cFL (NCR (HEI la ea oL oN oE oW k pw fa sa va) dd (nI j) x3).2)])), (go, aD 16 (cA 1) uf), (gt, aI 4 (cA 0) tf), (gp, aI 48 (cA 0) pf), (gw, aD 144 (cA 1) wf)]) [0, 1, 2, 3, 4] (by decide) rfl
                  refine lv_dstore (lv' := [(10, .double v_65), (8, .double v_9), (0, .ref am), (1, .int x1), (2, .double x2), (4, .int x3), (5, .double lst), (7, .int (nI j))]) hx hb dX2_passes_111 hl (by decide) rfl (fun ls hl => ?_)
                  refine lv_aload_n hx hb dX2_passes_113 rfl (lv_at hl 2 rfl) ?_
                  refine lv_aload_n hx hb dX2_passes_114 rfl (lv_at hl 2 rfl) ?_
                  refine va_get (D := (dC, dI)) (ci := 2) (v := .int (cFL (NCR (HEI la ea oL oN oE oW k pw fa sa va) dd (nI j) x3).2)) (C := RX2) (T := TX2) (N := 13) hx hb hts hin2 hown hK hP 0 rfl rfl 12 (by decide) (hts (.fieldLink RX2 202 "SkyAlmanacModel" "failed" "Z") (by decide +kernel)) (fun _ h9 => h9) rfl dX2_passes_115 ?_
                  refine lv_if_eq (tgt := 125) hx hb dX2_passes_118 (by decide) (fun c_67 => ?_) (fun c_67 => ?_)
                  · refine lv_iconst (v := 0) hx hb dX2_passes_125 (by decide) ?_
                    refine va_put (D := (dC, dI)) (ci := 2) (v := .int 0) (ty := .int) (C := RX2) (T := TX2) (N := 13) hx hb hts hin2 tyX2 tyX2_ok nmX2 hown hK hP hD hS 0 rfl rfl 0 (by decide) (hts (.fieldLink RX2 30 "SkyAlmanacModel" "thrown" "I") (by decide +kernel)) (fun _ h9 => h9) rfl (by decide +kernel) rfl rfl (Nat.le_of_ble_eq_true rfl) dX2_passes_126 (fun H locs hP hD hS => ?_)
                    have hP : va_P (dC, dI) vwCl [(am, .inr (2, [.int 0, .int ((wo + nI (j + 1)) + nI (NCR (HEI la ea oL oN oE oW k pw fa sa va) dd (nI j) x3).1), .int (fu + cFL (NCR (HEI la ea oL oN oE oW k pw fa sa va) dd (nI j) x3).2), .ref gs, .ref go, .ref gt, .ref gp, .ref gw, .double la, .double ea, .ref gl, .int ln, .int (cFL (NCR (HEI la ea oL oN oE oW k pw fa sa va) dd (nI j) x3).2)])), (go, aD 16 (cA 1) uf), (gt, aI 4 (cA 0) tf), (gp, aI 48 (cA 0) pf), (gw, aD 144 (cA 1) wf)] H := hP
                    have hD : va_D A [(am, .inr (2, [.int 0, .int ((wo + nI (j + 1)) + nI (NCR (HEI la ea oL oN oE oW k pw fa sa va) dd (nI j) x3).1), .int (fu + cFL (NCR (HEI la ea oL oN oE oW k pw fa sa va) dd (nI j) x3).2), .ref gs, .ref go, .ref gt, .ref gp, .ref gw, .double la, .double ea, .ref gl, .int ln, .int (cFL (NCR (HEI la ea oL oN oE oW k pw fa sa va) dd (nI j) x3).2)])), (go, aD 16 (cA 1) uf), (gt, aI 4 (cA 0) tf), (gp, aI 48 (cA 0) pf), (gw, aD 144 (cA 1) wf)] := hD
                    have hP : va_P (dC, dI) vwCl [(am, .inr (2, [.int (cdE (PASS (HEI la ea oL oN oE oW k pw fa sa va) dd x3).2), .int (wo + nI (PASS (HEI la ea oL oN oE oW k pw fa sa va) dd x3).1), .int (fu + cFL (PASS (HEI la ea oL oN oE oW k pw fa sa va) dd x3).2), .ref gs, .ref go, .ref gt, .ref gp, .ref gw, .double la, .double ea, .ref gl, .int ln, .int (cFL (PASS (HEI la ea oL oN oE oW k pw fa sa va) dd x3).2)])), (go, aD 16 (cA 1) uf), (gt, aI 4 (cA 0) tf), (gp, aI 48 (cA 0) pf), (gw, aD 144 (cA 1) wf)] H := by rw [e8]; simp only; rw [wk_add, cdE_0 c_67 (fun e h => NCR_x (fun t e h => HEI_err h) h)]; exact hP
                    have hD : va_D A [(am, .inr (2, [.int (cdE (PASS (HEI la ea oL oN oE oW k pw fa sa va) dd x3).2), .int (wo + nI (PASS (HEI la ea oL oN oE oW k pw fa sa va) dd x3).1), .int (fu + cFL (PASS (HEI la ea oL oN oE oW k pw fa sa va) dd x3).2), .ref gs, .ref go, .ref gt, .ref gp, .ref gw, .double la, .double ea, .ref gl, .int ln, .int (cFL (PASS (HEI la ea oL oN oE oW k pw fa sa va) dd x3).2)])), (go, aD 16 (cA 1) uf), (gt, aI 4 (cA 0) tf), (gp, aI 48 (cA 0) pf), (gw, aD 144 (cA 1) wf)] := by rw [e8]; simp only; rw [wk_add, cdE_0 c_67 (fun e h => NCR_x (fun t e h => HEI_err h) h)]; exact hD
                    refine lv_dload hx hb dX2_passes_129 (lv_at hl 0 rfl) ?_
                    subst hQQ
                    exact W.dret hx hb hr (fun t ht hW => ⟨⟨_, (), rfl, (fun v hv => hp_66 v (by rw [e8] at hv; exact hv)), ⟨by rw [ht]; exact hP, hD⟩⟩, hS.F ht⟩) hS.2.2 dX2_passes_131
                  · refine lv_iconst (v := 3) hx hb dX2_passes_121 (by decide) ?_
                    refine lv_goto (tgt := 126) hx hb dX2_passes_122 (by decide) ?_
                    refine va_put (D := (dC, dI)) (ci := 2) (v := .int 3) (ty := .int) (C := RX2) (T := TX2) (N := 13) hx hb hts hin2 tyX2 tyX2_ok nmX2 hown hK hP hD hS 0 rfl rfl 0 (by decide) (hts (.fieldLink RX2 30 "SkyAlmanacModel" "thrown" "I") (by decide +kernel)) (fun _ h9 => h9) rfl (by decide +kernel) rfl rfl (Nat.le_of_ble_eq_true rfl) dX2_passes_126 (fun H locs hP hD hS => ?_)
                    have hP : va_P (dC, dI) vwCl [(am, .inr (2, [.int 3, .int ((wo + nI (j + 1)) + nI (NCR (HEI la ea oL oN oE oW k pw fa sa va) dd (nI j) x3).1), .int (fu + cFL (NCR (HEI la ea oL oN oE oW k pw fa sa va) dd (nI j) x3).2), .ref gs, .ref go, .ref gt, .ref gp, .ref gw, .double la, .double ea, .ref gl, .int ln, .int (cFL (NCR (HEI la ea oL oN oE oW k pw fa sa va) dd (nI j) x3).2)])), (go, aD 16 (cA 1) uf), (gt, aI 4 (cA 0) tf), (gp, aI 48 (cA 0) pf), (gw, aD 144 (cA 1) wf)] H := hP
                    have hD : va_D A [(am, .inr (2, [.int 3, .int ((wo + nI (j + 1)) + nI (NCR (HEI la ea oL oN oE oW k pw fa sa va) dd (nI j) x3).1), .int (fu + cFL (NCR (HEI la ea oL oN oE oW k pw fa sa va) dd (nI j) x3).2), .ref gs, .ref go, .ref gt, .ref gp, .ref gw, .double la, .double ea, .ref gl, .int ln, .int (cFL (NCR (HEI la ea oL oN oE oW k pw fa sa va) dd (nI j) x3).2)])), (go, aD 16 (cA 1) uf), (gt, aI 4 (cA 0) tf), (gp, aI 48 (cA 0) pf), (gw, aD 144 (cA 1) wf)] := hD
                    have hP : va_P (dC, dI) vwCl [(am, .inr (2, [.int (cdE (PASS (HEI la ea oL oN oE oW k pw fa sa va) dd x3).2), .int (wo + nI (PASS (HEI la ea oL oN oE oW k pw fa sa va) dd x3).1), .int (fu + cFL (PASS (HEI la ea oL oN oE oW k pw fa sa va) dd x3).2), .ref gs, .ref go, .ref gt, .ref gp, .ref gw, .double la, .double ea, .ref gl, .int ln, .int (cFL (PASS (HEI la ea oL oN oE oW k pw fa sa va) dd x3).2)])), (go, aD 16 (cA 1) uf), (gt, aI 4 (cA 0) tf), (gp, aI 48 (cA 0) pf), (gw, aD 144 (cA 1) wf)] H := by rw [e8]; simp only; rw [wk_add, cdE_3 c_67 (fun e h => NCR_x (fun t e h => HEI_err h) h)]; exact hP
                    have hD : va_D A [(am, .inr (2, [.int (cdE (PASS (HEI la ea oL oN oE oW k pw fa sa va) dd x3).2), .int (wo + nI (PASS (HEI la ea oL oN oE oW k pw fa sa va) dd x3).1), .int (fu + cFL (PASS (HEI la ea oL oN oE oW k pw fa sa va) dd x3).2), .ref gs, .ref go, .ref gt, .ref gp, .ref gw, .double la, .double ea, .ref gl, .int ln, .int (cFL (PASS (HEI la ea oL oN oE oW k pw fa sa va) dd x3).2)])), (go, aD 16 (cA 1) uf), (gt, aI 4 (cA 0) tf), (gp, aI 48 (cA 0) pf), (gw, aD 144 (cA 1) wf)] := by rw [e8]; simp only; rw [wk_add, cdE_3 c_67 (fun e h => NCR_x (fun t e h => HEI_err h) h)]; exact hD
                    refine lv_dload hx hb dX2_passes_129 (lv_at hl 0 rfl) ?_
                    subst hQQ
                    exact W.dret hx hb hr (fun t ht hW => ⟨⟨_, (), rfl, (fun v hv => hp_66 v (by rw [e8] at hv; exact hv)), ⟨by rw [ht]; exact hP, hD⟩⟩, hS.F ht⟩) hS.2.2 dX2_passes_131
  refine lv_aload_n hx hb dX2_passes_0 rfl (lv_at hl 0 rfl) ?_
  refine lv_iload_n hx hb dX2_passes_1 rfl (lv_at hl 1 rfl) ?_
  refine lv_dload_n hx hb dX2_passes_2 rfl (lv_at hl 2 rfl) ?_
  refine lv_dconst0 hx hb dX2_passes_3 ?_
  have r_68 : fR FP.dconst0 0 0 := fR_lit (by decide +kernel)
  have r_69 := fR_add hx2R r_68 (-2305843009213693952) 2305843009213693952 (by decide) (by decide) rfl rfl
  refine lv_dadd hx hb dX2_passes_4 (fR_nn r_69) ?_
  rw [show FP.dadd x2 FP.dconst0 = TOP dd 0 from by rw [hx2]; exact top0 dd]
  have hPc := hP.sub (ws' := [(am, .inr (2, [.int th, .int wo, .int fu, .ref gs, .ref go, .ref gt, .ref gp, .ref gw, .double la, .double ea, .ref gl, .int ln, .int fd])), (go, aD 16 (cA 1) uf), (gt, aI 4 (cA 0) tf), (gp, aI 48 (cA 0) pf), (gw, aD 144 (cA 1) wf)]) [0, 1, 2, 3, 4] rfl
  have hDc := hD.sub (ws' := [(am, .inr (2, [.int th, .int wo, .int fu, .ref gs, .ref go, .ref gt, .ref gp, .ref gw, .double la, .double ea, .ref gl, .int ln, .int fd])), (go, aD 16 (cA 1) uf), (gt, aI 4 (cA 0) tf), (gp, aI 48 (cA 0) pf), (gw, aD 144 (cA 1) wf)]) [0, 1, 2, 3, 4] (by decide) rfl
  have hFc := va_free (wc := [(am, .inr (2, [.int th, .int wo, .int fu, .ref gs, .ref go, .ref gt, .ref gp, .ref gw, .double la, .double ea, .ref gl, .int ln, .int fd])), (go, aD 16 (cA 1) uf), (gt, aI 4 (cA 0) tf), (gp, aI 48 (cA 0) pf), (gw, aD 144 (cA 1) wf)]) hD hS hA [0, 1, 2, 3, 4] rfl
  refine va_calld (va_runV (As := [.int x1, .double (TOP dd 0)]) (rest := []) ⟨hx, hb, hml, hown, hts⟩ (k_X2_above l hst dC dI cA tm tt _ am gs go gt gp gw gl th wo fu la ea ln fd uf tf pf wf oL oN oE oW k pw fa sa va x1 (TOP dd 0) hb1 hb2 hR hO hT (fR_mono (top_R hd ⟨by decide, by decide⟩) (by omega) (by omega)) hla hea) (cwV 2 hts gX2_passes_X2_above rfl rfl rfl (by decide +kernel) ⟨Nat.le_of_ble_eq_true rfl, Nat.le_of_ble_eq_true rfl⟩) ⟨PcW.blind, va_recv hK hPc (ci := 2) (q0 := 0) rfl rfl, PcW.give hPc hK hDc hE hS hFc⟩ rfl rfl hl.1 rfl (lv_room (Nat.le_of_ble_eq_true rfl)) dX2_passes_5 ⟨Nat.le_of_ble_eq_true rfl, Nat.le_of_ble_eq_true rfl⟩) hS (fun q _ h => hFc q h) hFc (fun v_70 u t H locs ht hvm hp_71 hB hz1 hk1 hS => ?_)
  obtain ⟨hP1, hD1⟩ := hB
  rw [ht] at hP1
  obtain ⟨hP, hD⟩ := va_join (wr := []) (w1 := [(am, .inr (2, [.int th, .int (wo + 1), .int (fu + cFL (LON oL oN oE oW k pw fa sa va (TOP dd 0))), .ref gs, .ref go, .ref gt, .ref gp, .ref gw, .double la, .double ea, .ref gl, .int ln, .int (cFD (LON oL oN oE oW k pw fa sa va (TOP dd 0)))])), (go, aD 16 (cA 1) uf), (gt, aI 4 (cA 0) tf), (gp, aI 48 (cA 0) pf), (gw, aD 144 (cA 1) wf)]) hP hD [0, 1, 2, 3, 4] [] rfl rfl (by decide) (by decide) hk1 hFc hP1 hD1
  have hP := hP.sub (ws' := [(am, .inr (2, [.int th, .int (wo + 1), .int (fu + cFL (LON oL oN oE oW k pw fa sa va (TOP dd 0))), .ref gs, .ref go, .ref gt, .ref gp, .ref gw, .double la, .double ea, .ref gl, .int ln, .int (cFD (LON oL oN oE oW k pw fa sa va (TOP dd 0)))])), (go, aD 16 (cA 1) uf), (gt, aI 4 (cA 0) tf), (gp, aI 48 (cA 0) pf), (gw, aD 144 (cA 1) wf)]) [0, 1, 2, 3, 4] rfl
  have hD := hD.sub (ws' := [(am, .inr (2, [.int th, .int (wo + 1), .int (fu + cFL (LON oL oN oE oW k pw fa sa va (TOP dd 0))), .ref gs, .ref go, .ref gt, .ref gp, .ref gw, .double la, .double ea, .ref gl, .int ln, .int (cFD (LON oL oN oE oW k pw fa sa va (TOP dd 0)))])), (go, aD 16 (cA 1) uf), (gt, aI 4 (cA 0) tf), (gp, aI 48 (cA 0) pf), (gw, aD 144 (cA 1) wf)]) [0, 1, 2, 3, 4] (by decide) rfl
  by_cases hc0 : cFD (LON oL oN oE oW k pw fa sa va (TOP dd 0)) = 0
  · obtain ⟨hq, hcf⟩ := ab_ok hp_71 hc0
    rw [hcf, hc0, i0] at hP hD
    have hP : va_P (dC, dI) vwCl [(am, .inr (2, [.int th, .int (wo + nI 1), .int fu, .ref gs, .ref go, .ref gt, .ref gp, .ref gw, .double la, .double ea, .ref gl, .int ln, .int 0])), (go, aD 16 (cA 1) uf), (gt, aI 4 (cA 0) tf), (gp, aI 48 (cA 0) pf), (gw, aD 144 (cA 1) wf)] H := by rw [wk_1]; exact hP
    have hD : va_D A [(am, .inr (2, [.int th, .int (wo + nI 1), .int fu, .ref gs, .ref go, .ref gt, .ref gp, .ref gw, .double la, .double ea, .ref gl, .int ln, .int 0])), (go, aD 16 (cA 1) uf), (gt, aI 4 (cA 0) tf), (gp, aI 48 (cA 0) pf), (gw, aD 144 (cA 1) wf)] := by rw [wk_1]; exact hD
    have hQ0 := PCR_o (rs := x3) hq
    refine lv_dstore (lv' := [(5, .double v_70), (0, .ref am), (1, .int x1), (2, .double x2), (4, .int x3)]) hx hb dX2_passes_8 hl (by decide) rfl (fun ls hl => ?_)
    refine lv_iconst (v := 1) hx hb dX2_passes_10 (by decide) ?_
    refine lv_istore (lv' := [(7, .int (nI 1)), (5, .double v_70), (0, .ref am), (1, .int x1), (2, .double x2), (4, .int x3)]) hx hb dX2_passes_11 hl (by decide) rfl (fun ls hl => ?_)
    exact hloop13 18 1 _ (by decide) (by decide) (by decide) hQ0 _ _ _ hP hD hS (lv_sub hl [2, 3, 4, 5, 1, 0] rfl)
  · obtain ⟨hq, hcf, hcd⟩ := ab_er la ea hc0
    rw [hcf, hcd] at hP hD
    have hP : va_P (dC, dI) vwCl [(am, .inr (2, [.int th, .int (wo + nI 1), .int (fu + 1), .ref gs, .ref go, .ref gt, .ref gp, .ref gw, .double la, .double ea, .ref gl, .int ln, .int 1])), (go, aD 16 (cA 1) uf), (gt, aI 4 (cA 0) tf), (gp, aI 48 (cA 0) pf), (gw, aD 144 (cA 1) wf)] H := by rw [wk_1]; exact hP
    have hD : va_D A [(am, .inr (2, [.int th, .int (wo + nI 1), .int (fu + 1), .ref gs, .ref go, .ref gt, .ref gp, .ref gw, .double la, .double ea, .ref gl, .int ln, .int 1])), (go, aD 16 (cA 1) uf), (gt, aI 4 (cA 0) tf), (gp, aI 48 (cA 0) pf), (gw, aD 144 (cA 1) wf)] := by rw [wk_1]; exact hD
    have e9 : PCR (HEI la ea oL oN oE oW k pw fa sa va) dd x3 = (1, .error xIS) := PCR_e hq
    refine lv_dstore (lv' := [(5, .double v_70), (0, .ref am), (1, .int x1), (2, .double x2), (4, .int x3)]) hx hb dX2_passes_8 hl (by decide) rfl (fun ls hl => ?_)
    refine lv_iconst (v := 1) hx hb dX2_passes_10 (by decide) ?_
    refine lv_istore (lv' := [(7, .int (nI 1)), (5, .double v_70), (0, .ref am), (1, .int x1), (2, .double x2), (4, .int x3)]) hx hb dX2_passes_11 hl (by decide) rfl (fun ls hl => ?_)
    refine lv_iload hx hb dX2_passes_13 (lv_at hl 0 rfl) ?_
    refine lv_bipush (v := 16) hx hb dX2_passes_15 (by decide) ?_
    refine lv_icmp_gt (tgt := 142) hx hb dX2_passes_17 (by decide) (fun c_72 => ?_) (fun c_72 => ?_)
    · refine lv_aload_n hx hb dX2_passes_142 rfl (lv_at hl 2 rfl) ?_
      refine lv_aload_n hx hb dX2_passes_143 rfl (lv_at hl 2 rfl) ?_
      refine va_get (D := (dC, dI)) (ci := 2) (v := .int 1) (C := RX2) (T := TX2) (N := 13) hx hb hts hin2 hown hK hP 0 rfl rfl 12 (by decide) (hts (.fieldLink RX2 202 "SkyAlmanacModel" "failed" "Z") (by decide +kernel)) (fun _ h9 => h9) rfl dX2_passes_144 ?_
      refine lv_if_eq (tgt := 154) hx hb dX2_passes_147 (by decide) (fun c_73 => absurd c_73 (by decide)) (fun _ => ?_)
      refine lv_iconst (v := 3) hx hb dX2_passes_150 (by decide) ?_
      refine lv_goto (tgt := 155) hx hb dX2_passes_151 (by decide) ?_
      have hPc := hP.sub (ws' := [(am, .inr (2, [.int th, .int (wo + nI 1), .int (fu + 1), .ref gs, .ref go, .ref gt, .ref gp, .ref gw, .double la, .double ea, .ref gl, .int ln, .int 1]))]) [0] rfl
      have hDc := hD.sub (ws' := [(am, .inr (2, [.int th, .int (wo + nI 1), .int (fu + 1), .ref gs, .ref go, .ref gt, .ref gp, .ref gw, .double la, .double ea, .ref gl, .int ln, .int 1]))]) [0] (by decide) rfl
      have hFc := va_free (wc := [(am, .inr (2, [.int th, .int (wo + nI 1), .int (fu + 1), .ref gs, .ref go, .ref gt, .ref gp, .ref gw, .double la, .double ea, .ref gl, .int ln, .int 1]))]) hD hS hA [0] rfl
      refine va_calli (va_runV (As := [.int 3]) (rest := []) ⟨hx, hb, hml, hown, hts⟩ (k_X2_fail l hst dC dI cA tm tt _ am gs go gt gp gw gl th (wo + nI 1) (fu + 1) la ea ln 1 3) (cwV 1 hts gX2_passes_X2_fail rfl rfl rfl (by decide +kernel) ⟨Nat.le_of_ble_eq_true rfl, Nat.le_of_ble_eq_true rfl⟩) ⟨PcW.blind, va_recv hK hPc (ci := 2) (q0 := 0) rfl rfl, PcW.give hPc hK hDc hE hS hFc⟩ rfl rfl hl.1 rfl (lv_room (Nat.le_of_ble_eq_true rfl)) dX2_passes_155 ⟨Nat.le_of_ble_eq_true rfl, Nat.le_of_ble_eq_true rfl⟩) hS (fun q _ h => hFc q h) hFc (fun v_74 u t H locs ht hvm hp_75 hB hz1 hk1 hS => ?_)
      obtain ⟨hP1, hD1⟩ := hB
      rw [ht] at hP1
      obtain ⟨hP, hD⟩ := va_join (wr := [(go, aD 16 (cA 1) uf), (gt, aI 4 (cA 0) tf), (gp, aI 48 (cA 0) pf), (gw, aD 144 (cA 1) wf)]) (w1 := [(am, .inr (2, [.int 3, .int (wo + nI 1), .int (fu + 1), .ref gs, .ref go, .ref gt, .ref gp, .ref gw, .double la, .double ea, .ref gl, .int ln, .int 1]))]) hP hD [0] [1, 2, 3, 4] rfl rfl (by decide) (by decide) hk1 hFc hP1 hD1
      have hP := hP.sub (ws' := [(am, .inr (2, [.int 3, .int (wo + nI 1), .int (fu + 1), .ref gs, .ref go, .ref gt, .ref gp, .ref gw, .double la, .double ea, .ref gl, .int ln, .int 1])), (go, aD 16 (cA 1) uf), (gt, aI 4 (cA 0) tf), (gp, aI 48 (cA 0) pf), (gw, aD 144 (cA 1) wf)]) [4, 0, 1, 2, 3] rfl
      have hD := hD.sub (ws' := [(am, .inr (2, [.int 3, .int (wo + nI 1), .int (fu + 1), .ref gs, .ref go, .ref gt, .ref gp, .ref gw, .double la, .double ea, .ref gl, .int ln, .int 1])), (go, aD 16 (cA 1) uf), (gt, aI 4 (cA 0) tf), (gp, aI 48 (cA 0) pf), (gw, aD 144 (cA 1) wf)]) [4, 0, 1, 2, 3] (by decide) rfl
      obtain rfl := hp_75
      refine lv_i2d hx hb dX2_passes_158 ?_
      have e8 := PASS_e e9
      have hP : va_P (dC, dI) vwCl [(am, .inr (2, [.int (cdE (PASS (HEI la ea oL oN oE oW k pw fa sa va) dd x3).2), .int (wo + nI (PASS (HEI la ea oL oN oE oW k pw fa sa va) dd x3).1), .int (fu + cFL (PASS (HEI la ea oL oN oE oW k pw fa sa va) dd x3).2), .ref gs, .ref go, .ref gt, .ref gp, .ref gw, .double la, .double ea, .ref gl, .int ln, .int (cFL (PASS (HEI la ea oL oN oE oW k pw fa sa va) dd x3).2)])), (go, aD 16 (cA 1) uf), (gt, aI 4 (cA 0) tf), (gp, aI 48 (cA 0) pf), (gw, aD 144 (cA 1) wf)] H := by rw [e8]; simp only; rw [show cdE (.error xIS : Except String UInt64) = 3 from rfl, cFL_IS]; exact hP
      have hD : va_D A [(am, .inr (2, [.int (cdE (PASS (HEI la ea oL oN oE oW k pw fa sa va) dd x3).2), .int (wo + nI (PASS (HEI la ea oL oN oE oW k pw fa sa va) dd x3).1), .int (fu + cFL (PASS (HEI la ea oL oN oE oW k pw fa sa va) dd x3).2), .ref gs, .ref go, .ref gt, .ref gp, .ref gw, .double la, .double ea, .ref gl, .int ln, .int (cFL (PASS (HEI la ea oL oN oE oW k pw fa sa va) dd x3).2)])), (go, aD 16 (cA 1) uf), (gt, aI 4 (cA 0) tf), (gp, aI 48 (cA 0) pf), (gw, aD 144 (cA 1) wf)] := by rw [e8]; simp only; rw [show cdE (.error xIS : Except String UInt64) = 3 from rfl, cFL_IS]; exact hD
      subst hQQ
      exact W.dret hx hb hr (fun t ht hW => ⟨⟨_, (), rfl, (fun v hv => by rw [e8] at hv; cases hv), ⟨by rw [ht]; exact hP, hD⟩⟩, hS.F ht⟩) hS.2.2 dX2_passes_159
    · refine lv_aload_n hx hb dX2_passes_20 rfl (lv_at hl 2 rfl) ?_
      refine va_get (D := (dC, dI)) (ci := 2) (v := .int 1) (C := RX2) (T := TX2) (N := 13) hx hb hts hin2 hown hK hP 0 rfl rfl 12 (by decide) (hts (.fieldLink RX2 202 "SkyAlmanacModel" "failed" "Z") (by decide +kernel)) (fun _ h9 => h9) rfl dX2_passes_21 ?_
      refine lv_if_ne (tgt := 142) hx hb dX2_passes_24 (by decide) (fun _ => ?_) (fun c_76 => absurd c_76 (by decide))
      refine lv_aload_n hx hb dX2_passes_142 rfl (lv_at hl 2 rfl) ?_
      refine lv_aload_n hx hb dX2_passes_143 rfl (lv_at hl 2 rfl) ?_
      refine va_get (D := (dC, dI)) (ci := 2) (v := .int 1) (C := RX2) (T := TX2) (N := 13) hx hb hts hin2 hown hK hP 0 rfl rfl 12 (by decide) (hts (.fieldLink RX2 202 "SkyAlmanacModel" "failed" "Z") (by decide +kernel)) (fun _ h9 => h9) rfl dX2_passes_144 ?_
      refine lv_if_eq (tgt := 154) hx hb dX2_passes_147 (by decide) (fun c_77 => absurd c_77 (by decide)) (fun _ => ?_)
      refine lv_iconst (v := 3) hx hb dX2_passes_150 (by decide) ?_
      refine lv_goto (tgt := 155) hx hb dX2_passes_151 (by decide) ?_
      have hPc := hP.sub (ws' := [(am, .inr (2, [.int th, .int (wo + nI 1), .int (fu + 1), .ref gs, .ref go, .ref gt, .ref gp, .ref gw, .double la, .double ea, .ref gl, .int ln, .int 1]))]) [0] rfl
      have hDc := hD.sub (ws' := [(am, .inr (2, [.int th, .int (wo + nI 1), .int (fu + 1), .ref gs, .ref go, .ref gt, .ref gp, .ref gw, .double la, .double ea, .ref gl, .int ln, .int 1]))]) [0] (by decide) rfl
      have hFc := va_free (wc := [(am, .inr (2, [.int th, .int (wo + nI 1), .int (fu + 1), .ref gs, .ref go, .ref gt, .ref gp, .ref gw, .double la, .double ea, .ref gl, .int ln, .int 1]))]) hD hS hA [0] rfl
      refine va_calli (va_runV (As := [.int 3]) (rest := []) ⟨hx, hb, hml, hown, hts⟩ (k_X2_fail l hst dC dI cA tm tt _ am gs go gt gp gw gl th (wo + nI 1) (fu + 1) la ea ln 1 3) (cwV 1 hts gX2_passes_X2_fail rfl rfl rfl (by decide +kernel) ⟨Nat.le_of_ble_eq_true rfl, Nat.le_of_ble_eq_true rfl⟩) ⟨PcW.blind, va_recv hK hPc (ci := 2) (q0 := 0) rfl rfl, PcW.give hPc hK hDc hE hS hFc⟩ rfl rfl hl.1 rfl (lv_room (Nat.le_of_ble_eq_true rfl)) dX2_passes_155 ⟨Nat.le_of_ble_eq_true rfl, Nat.le_of_ble_eq_true rfl⟩) hS (fun q _ h => hFc q h) hFc (fun v_78 u t H locs ht hvm hp_79 hB hz1 hk1 hS => ?_)
      obtain ⟨hP1, hD1⟩ := hB
      rw [ht] at hP1
      obtain ⟨hP, hD⟩ := va_join (wr := [(go, aD 16 (cA 1) uf), (gt, aI 4 (cA 0) tf), (gp, aI 48 (cA 0) pf), (gw, aD 144 (cA 1) wf)]) (w1 := [(am, .inr (2, [.int 3, .int (wo + nI 1), .int (fu + 1), .ref gs, .ref go, .ref gt, .ref gp, .ref gw, .double la, .double ea, .ref gl, .int ln, .int 1]))]) hP hD [0] [1, 2, 3, 4] rfl rfl (by decide) (by decide) hk1 hFc hP1 hD1
      have hP := hP.sub (ws' := [(am, .inr (2, [.int 3, .int (wo + nI 1), .int (fu + 1), .ref gs, .ref go, .ref gt, .ref gp, .ref gw, .double la, .double ea, .ref gl, .int ln, .int 1])), (go, aD 16 (cA 1) uf), (gt, aI 4 (cA 0) tf), (gp, aI 48 (cA 0) pf), (gw, aD 144 (cA 1) wf)]) [4, 0, 1, 2, 3] rfl
      have hD := hD.sub (ws' := [(am, .inr (2, [.int 3, .int (wo + nI 1), .int (fu + 1), .ref gs, .ref go, .ref gt, .ref gp, .ref gw, .double la, .double ea, .ref gl, .int ln, .int 1])), (go, aD 16 (cA 1) uf), (gt, aI 4 (cA 0) tf), (gp, aI 48 (cA 0) pf), (gw, aD 144 (cA 1) wf)]) [4, 0, 1, 2, 3] (by decide) rfl
      obtain rfl := hp_79
      refine lv_i2d hx hb dX2_passes_158 ?_
      have e8 := PASS_e e9
      have hP : va_P (dC, dI) vwCl [(am, .inr (2, [.int (cdE (PASS (HEI la ea oL oN oE oW k pw fa sa va) dd x3).2), .int (wo + nI (PASS (HEI la ea oL oN oE oW k pw fa sa va) dd x3).1), .int (fu + cFL (PASS (HEI la ea oL oN oE oW k pw fa sa va) dd x3).2), .ref gs, .ref go, .ref gt, .ref gp, .ref gw, .double la, .double ea, .ref gl, .int ln, .int (cFL (PASS (HEI la ea oL oN oE oW k pw fa sa va) dd x3).2)])), (go, aD 16 (cA 1) uf), (gt, aI 4 (cA 0) tf), (gp, aI 48 (cA 0) pf), (gw, aD 144 (cA 1) wf)] H := by rw [e8]; simp only; rw [show cdE (.error xIS : Except String UInt64) = 3 from rfl, cFL_IS]; exact hP
      have hD : va_D A [(am, .inr (2, [.int (cdE (PASS (HEI la ea oL oN oE oW k pw fa sa va) dd x3).2), .int (wo + nI (PASS (HEI la ea oL oN oE oW k pw fa sa va) dd x3).1), .int (fu + cFL (PASS (HEI la ea oL oN oE oW k pw fa sa va) dd x3).2), .ref gs, .ref go, .ref gt, .ref gp, .ref gw, .double la, .double ea, .ref gl, .int ln, .int (cFL (PASS (HEI la ea oL oN oE oW k pw fa sa va) dd x3).2)])), (go, aD 16 (cA 1) uf), (gt, aI 4 (cA 0) tf), (gp, aI 48 (cA 0) pf), (gw, aD 144 (cA 1) wf)] := by rw [e8]; simp only; rw [show cdE (.error xIS : Except String UInt64) = 3 from rfl, cFL_IS]; exact hD
      subst hQQ
      exact W.dret hx hb hr (fun t ht hW => ⟨⟨_, (), rfl, (fun v hv => by rw [e8] at hv; cases hv), ⟨by rw [ht]; exact hP, hD⟩⟩, hS.F ht⟩) hS.2.2 dX2_passes_159
