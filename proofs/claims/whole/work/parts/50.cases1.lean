section
set_option maxHeartbeats 4000000 in
set_option maxRecDepth 100000 in
theorem cs_day {p : Program} {l : Launch} {e : Env} {s : State} {m : MethodId} {below : List Frame} {meth : Method} {c : Code} {b L : Nat} {xs : Nat → Int32} {Q : State → Prop} {A : Nat → Prop} {dC : Nat → ClassId} {dI : Nat → Nat → Nat} {cA : Nat → ClassId} {tm tt i Cn Sn : Nat} (hst : l.stackTraces = false) (C0 : LX p s m c b L xs dC dI cA tm tt A) (hi : i + 6 ≤ L) (hL : L ≤ 3072) (hC : Cn + 66 ≤ 620239) (hSn : Sn + 396 ≤ 7235387) (ax ab aw : Nat) (wl : Int32) (la ea : UInt64) (wk fl : Int32) (am gs go gt gp gw gl : Nat) (th : Int32) (ln fd : Int32) (ao ad : Nat) (fo : Nat → Int64) (x1 : Int32) (hx1 : x1 = xs (Int32.toNatClampNeg (nI i + 1))) (x2 : Int32) (hx2 : x2 = xs (Int32.toNatClampNeg (nI i + 2))) (x3 : Int32) (hx3 : x3 = xs (Int32.toNatClampNeg (nI i + 3))) (x4 : Int32) (hx4 : x4 = xs (Int32.toNatClampNeg (nI i + 4)))  (R : va_W) {H : Heap} {locs : List Loc} {ls : Array Slot} (hP : va_P (dC, dI) vwCl ([(ax, .inr (1, [.ref ab, .ref aw, .int wl, .double la, .double ea, .int wk, .int fl])), (ao, aL 1 (cA 5) fo)] ++ ([(am, .inr (2, [.int th, .int wk, .int fl, .ref gs, .ref go, .ref gt, .ref gp, .ref gw, .double la, .double ea, .ref gl, .int ln, .int fd]))] ++ R)) H) (hD : va_D A ([(ax, .inr (1, [.ref ab, .ref aw, .int wl, .double la, .double ea, .int wk, .int fl])), (ao, aL 1 (cA 5) fo)] ++ ([(am, .inr (2, [.int th, .int wk, .int fl, .ref gs, .ref go, .ref gt, .ref gp, .ref gw, .double la, .double ea, .ref gl, .int ln, .int fd]))] ++ R))) (hS : va_S A s.heap H locs) (hl : lv_has ls 9 [(0, .ref b), (1, .ref ax), (2, .ref am), (3, .ref ao), (4, .ref ad), (5, .int (nI i))])
    (kk : ∀ (H : Heap) (locs : List Loc) (ls : Array Slot), va_P (dC, dI) vwCl ([(ax, .inr (1, [.ref ab, .ref aw, .int wl, .double la, .double ea, .int wk, .int fl])), (ao, aL 1 (cA 5) (oJ (f_X1_day x1 x2 x3 x4) (fun v => v) fo))] ++ ([(am, .inr (2, [.int ((f_X2_day  x1 x2 x3 x4).2), .int wk, .int fl, .ref gs, .ref go, .ref gt, .ref gp, .ref gw, .double la, .double ea, .ref gl, .int ln, .int fd]))] ++ R)) H → va_D A ([(ax, .inr (1, [.ref ab, .ref aw, .int wl, .double la, .double ea, .int wk, .int fl])), (ao, aL 1 (cA 5) (oJ (f_X1_day x1 x2 x3 x4) (fun v => v) fo))] ++ ([(am, .inr (2, [.int ((f_X2_day  x1 x2 x3 x4).2), .int wk, .int fl, .ref gs, .ref go, .ref gt, .ref gp, .ref gw, .double la, .double ea, .ref gl, .int ln, .int fd]))] ++ R)) → va_S A s.heap H locs → lv_has ls 9 [(0, .ref b), (1, .ref ax), (2, .ref am), (3, .ref ao), (4, .ref ad), (5, .int (nI i))] → W p l e room_1 s m #[Value.ref b] below meth c H locs (Cn + 66) (Sn + 396) Q (F0 m 1438 ls []))
    : W p l e room_1 s m #[Value.ref b] below meth c H locs Cn Sn Q (F0 m 116 ls []) := by
  obtain ⟨hx, hb, hml, hown, hts, hX, hbl, hbA, hA, hE, hN, hK⟩ := C0
  have e9 := eq_day x1 x2 x3 x4
  refine lv_aload_n hx hb dL_law_116 rfl (lv_at hl 1 rfl) ?_
  refine lv_aload_n hx hb dL_law_117 rfl (lv_at hl 0 rfl) ?_
  refine lv_iload hx hb dL_law_118 (lv_at hl 5 rfl) ?_
  refine lv_iconst (v := 1) hx hb dL_law_120 (by decide) ?_
  refine lv_iadd hx hb dL_law_121 ?_
  refine va_sld hx hb hX hbl hbA hS (ix_in 1 rfl hi hL (by decide)) dL_law_122 ?_
  rw [← hx1]
  refine lv_aload_n hx hb dL_law_123 rfl (lv_at hl 0 rfl) ?_
  refine lv_iload hx hb dL_law_124 (lv_at hl 5 rfl) ?_
  refine lv_iconst (v := 2) hx hb dL_law_126 (by decide) ?_
  refine lv_iadd hx hb dL_law_127 ?_
  refine va_sld hx hb hX hbl hbA hS (ix_in 2 rfl hi hL (by decide)) dL_law_128 ?_
  rw [← hx2]
  refine lv_aload_n hx hb dL_law_129 rfl (lv_at hl 0 rfl) ?_
  refine lv_iload hx hb dL_law_130 (lv_at hl 5 rfl) ?_
  refine lv_iconst (v := 3) hx hb dL_law_132 (by decide) ?_
  refine lv_iadd hx hb dL_law_133 ?_
  refine va_sld hx hb hX hbl hbA hS (ix_in 3 rfl hi hL (by decide)) dL_law_134 ?_
  rw [← hx3]
  refine lv_aload_n hx hb dL_law_135 rfl (lv_at hl 0 rfl) ?_
  refine lv_iload hx hb dL_law_136 (lv_at hl 5 rfl) ?_
  refine lv_iconst (v := 4) hx hb dL_law_138 (by decide) ?_
  refine lv_iadd hx hb dL_law_139 ?_
  refine va_sld hx hb hX hbl hbA hS (ix_in 4 rfl hi hL (by decide)) dL_law_140 ?_
  rw [← hx4]
  refine lv_aload_n hx hb dL_law_141 rfl (lv_at hl 3 rfl) ?_
  have hPc := hP.sub (ws' := [(ax, .inr (1, [.ref ab, .ref aw, .int wl, .double la, .double ea, .int wk, .int fl])), (ao, aL 1 (cA 5) fo)]) [0, 1] rfl
  have hDc := hD.sub (ws' := [(ax, .inr (1, [.ref ab, .ref aw, .int wl, .double la, .double ea, .int wk, .int fl])), (ao, aL 1 (cA 5) fo)]) [0, 1] (by decide) rfl
  have hFc := va_free (wc := [(ax, .inr (1, [.ref ab, .ref aw, .int wl, .double la, .double ea, .int wk, .int fl])), (ao, aL 1 (cA 5) fo)]) hD hS hA [0, 1] rfl
  refine va_calli (vx_runSW (As := [.ref ax, .int x1, .int x2, .int x3, .int x4, .ref ao]) (rest := []) ⟨hx, hb, hml, hown, hts⟩ (k_L_day l hst dC dI cA tm tt _ ax ab aw wl la ea wk fl ao fo x1 x2 x3 x4 ) (vx_cwSW 6 hts gL_law_L_day rfl rfl rfl (by decide +kernel) ⟨Nat.le_of_ble_eq_true rfl, Nat.le_of_ble_eq_true rfl⟩) ⟨PcL.blind, PcL.give hPc hK hDc hE hS hFc hN⟩ rfl rfl hl.1 rfl (lv_room (Nat.le_of_ble_eq_true rfl)) dL_law_142 ⟨(show Cn + 1 ≤ 620239 by omega), (show Sn + 6 ≤ 7235387 by omega)⟩) hS (fun q _ h => hFc q h) hFc (fun r6 u t H locs ht hvm hr6 hB hz1 hk1 hS => ?_)
  subst hr6
  obtain ⟨hP1, hD1⟩ := hB
  rw [ht] at hP1
  obtain ⟨hP, hD⟩ := zj hP hD hk1 hFc hP1 hD1
  have hP : va_P (dC, dI) vwCl ([(ax, .inr (1, [.ref ab, .ref aw, .int wl, .double la, .double ea, .int wk, .int fl])), (ao, aL 1 (cA 5) (oJ (f_X1_day x1 x2 x3 x4) (fun v => v) fo))] ++ ([(am, .inr (2, [.int th, .int wk, .int fl, .ref gs, .ref go, .ref gt, .ref gp, .ref gw, .double la, .double ea, .ref gl, .int ln, .int fd]))] ++ R)) H := hP
  have hD : va_D A ([(ax, .inr (1, [.ref ab, .ref aw, .int wl, .double la, .double ea, .int wk, .int fl])), (ao, aL 1 (cA 5) (oJ (f_X1_day x1 x2 x3 x4) (fun v => v) fo))] ++ ([(am, .inr (2, [.int th, .int wk, .int fl, .ref gs, .ref go, .ref gt, .ref gp, .ref gw, .double la, .double ea, .ref gl, .int ln, .int fd]))] ++ R)) := hD
  obtain ⟨hP, hD⟩ := sw hP hD
  have hP : va_P (dC, dI) vwCl ([(am, .inr (2, [.int th, .int wk, .int fl, .ref gs, .ref go, .ref gt, .ref gp, .ref gw, .double la, .double ea, .ref gl, .int ln, .int fd]))] ++ ([(ax, .inr (1, [.ref ab, .ref aw, .int wl, .double la, .double ea, .int wk, .int fl])), (ao, aL 1 (cA 5) (oJ (f_X1_day x1 x2 x3 x4) (fun v => v) fo))] ++ R)) H := hP
  have hD : va_D A ([(am, .inr (2, [.int th, .int wk, .int fl, .ref gs, .ref go, .ref gt, .ref gp, .ref gw, .double la, .double ea, .ref gl, .int ln, .int fd]))] ++ ([(ax, .inr (1, [.ref ab, .ref aw, .int wl, .double la, .double ea, .int wk, .int fl])), (ao, aL 1 (cA 5) (oJ (f_X1_day x1 x2 x3 x4) (fun v => v) fo))] ++ R)) := hD
  refine lv_istore (lv' := [(6, .int (cd1 (f_X1_day x1 x2 x3 x4))), (0, .ref b), (1, .ref ax), (2, .ref am), (3, .ref ao), (4, .ref ad), (5, .int (nI i))]) hx hb dL_law_145 hl (by decide) rfl (fun ls hl => ?_)
  refine lv_aload_n hx hb dL_law_147 rfl (lv_at hl 3 rfl) ?_
  refine lv_aload_n hx hb dL_law_148 rfl (lv_at hl 1 rfl) ?_
  refine lv_iload hx hb dL_law_149 (lv_at hl 6 rfl) ?_
  refine lv_iconst (v := 1) hx hb dL_law_151 (by decide) ?_
  refine lv_iadd hx hb dL_law_152 ?_
  refine va_sld hx hb hX hbl hbA hS (ix_in 1 rfl hi hL (by decide)) dL_law_153 ?_
  rw [← hx1]
  refine lv_aload_n hx hb dL_law_154 rfl (lv_at hl 1 rfl) ?_
  refine lv_iload hx hb dL_law_155 (lv_at hl 6 rfl) ?_
  refine lv_iconst (v := 2) hx hb dL_law_157 (by decide) ?_
  refine lv_iadd hx hb dL_law_158 ?_
  refine va_sld hx hb hX hbl hbA hS (ix_in 2 rfl hi hL (by decide)) dL_law_159 ?_
  rw [← hx2]
  refine lv_aload_n hx hb dL_law_160 rfl (lv_at hl 1 rfl) ?_
  refine lv_iload hx hb dL_law_161 (lv_at hl 6 rfl) ?_
  refine lv_iconst (v := 3) hx hb dL_law_163 (by decide) ?_
  refine lv_iadd hx hb dL_law_164 ?_
  refine va_sld hx hb hX hbl hbA hS (ix_in 3 rfl hi hL (by decide)) dL_law_165 ?_
  rw [← hx3]
  refine lv_aload_n hx hb dL_law_166 rfl (lv_at hl 1 rfl) ?_
  refine lv_iload hx hb dL_law_167 (lv_at hl 6 rfl) ?_
  refine lv_iconst (v := 4) hx hb dL_law_169 (by decide) ?_
  refine lv_iadd hx hb dL_law_170 ?_
  refine va_sld hx hb hX hbl hbA hS (ix_in 4 rfl hi hL (by decide)) dL_law_171 ?_
  rw [← hx4]
  have hPc := hP.sub (ws' := [(am, .inr (2, [.int th, .int wk, .int fl, .ref gs, .ref go, .ref gt, .ref gp, .ref gw, .double la, .double ea, .ref gl, .int ln, .int fd]))]) [0] rfl
  have hDc := hD.sub (ws' := [(am, .inr (2, [.int th, .int wk, .int fl, .ref gs, .ref go, .ref gt, .ref gp, .ref gw, .double la, .double ea, .ref gl, .int ln, .int fd]))]) [0] (by decide) rfl
  have hFc := va_free (wc := [(am, .inr (2, [.int th, .int wk, .int fl, .ref gs, .ref go, .ref gt, .ref gp, .ref gw, .double la, .double ea, .ref gl, .int ln, .int fd]))]) hD hS hA [0] rfl
  refine va_calll (va_runV (As := [.int x1, .int x2, .int x3, .int x4]) (rest := []) ⟨hx, hb, hml, hown, hts⟩ (k_X2_day l hst dC dI cA tm tt _ am gs go gt gp gw gl th wk fl la ea ln fd x1 x2 x3 x4 ) (cwV 4 hts gL_law_X2_day rfl rfl rfl (by decide +kernel) ⟨Nat.le_of_ble_eq_true rfl, Nat.le_of_ble_eq_true rfl⟩) ⟨PcW.blind, va_recv hK hPc (ci := 2) (q0 := 0) rfl rfl, PcW.give hPc hK hDc hE hS hFc⟩ rfl rfl hl.1 rfl (lv_room (Nat.le_of_ble_eq_true rfl)) dL_law_172 ⟨(show Cn + 1 ≤ 620239 by omega), (show Sn + 6 ≤ 7235387 by omega)⟩) hS (fun q _ h => hFc q h) hFc (fun r7 u t H locs ht hvm hr7 hB hz1 hk1 hS => ?_)
  subst hr7
  obtain ⟨hP1, hD1⟩ := hB
  rw [ht] at hP1
  obtain ⟨hP, hD⟩ := zj hP hD hk1 hFc hP1 hD1
  have hP : va_P (dC, dI) vwCl ([(am, .inr (2, [.int ((f_X2_day  x1 x2 x3 x4).2), .int wk, .int fl, .ref gs, .ref go, .ref gt, .ref gp, .ref gw, .double la, .double ea, .ref gl, .int ln, .int fd]))] ++ ([(ax, .inr (1, [.ref ab, .ref aw, .int wl, .double la, .double ea, .int wk, .int fl])), (ao, aL 1 (cA 5) (oJ (f_X1_day x1 x2 x3 x4) (fun v => v) fo))] ++ R)) H := hP
  have hD : va_D A ([(am, .inr (2, [.int ((f_X2_day  x1 x2 x3 x4).2), .int wk, .int fl, .ref gs, .ref go, .ref gt, .ref gp, .ref gw, .double la, .double ea, .ref gl, .int ln, .int fd]))] ++ ([(ax, .inr (1, [.ref ab, .ref aw, .int wl, .double la, .double ea, .int wk, .int fl])), (ao, aL 1 (cA 5) (oJ (f_X1_day x1 x2 x3 x4) (fun v => v) fo))] ++ R)) := hD
  refine lv_lstore (lv' := [(7, .long ((f_X2_day  x1 x2 x3 x4).1)), (6, .int (cd1 (f_X1_day x1 x2 x3 x4))), (0, .ref b), (1, .ref ax), (2, .ref am), (3, .ref ao), (4, .ref ad), (5, .int (nI i))]) hx hb dL_law_175 hl (by decide) rfl (fun ls hl => ?_)
  refine lv_aload_n hx hb dL_law_177 rfl (lv_at hl 4 rfl) ?_
  have hPc := hP.sub (ws' := [(am, .inr (2, [.int ((f_X2_day  x1 x2 x3 x4).2), .int wk, .int fl, .ref gs, .ref go, .ref gt, .ref gp, .ref gw, .double la, .double ea, .ref gl, .int ln, .int fd]))]) [0] rfl
  refine vp_callSi (W.runV (As := []) (rest := []) ⟨hx, hb, hml, hown, hts⟩ (k_X2_thrown l dC dI cA tm tt am gs go gt gp gw gl ((f_X2_day  x1 x2 x3 x4).2) wk fl la ea ln fd) (cwV 0 hts gL_law_X2_thrown rfl rfl rfl (by decide +kernel) ⟨Nat.le_of_ble_eq_true rfl, Nat.le_of_ble_eq_true rfl⟩) ⟨PcO.blind, va_recv hK hPc (ci := 2) (q0 := 0) rfl rfl, PcO.give hPc hK hE hS⟩ rfl rfl hl.1 rfl (lv_room (Nat.le_of_ble_eq_true rfl)) dL_law_178 ⟨(show Cn + 1 ≤ 620239 by omega), (show Sn + 6 ≤ 7235387 by omega)⟩) (fun r hr9 => ?_)
  obtain rfl := hr9
  refine lv_iload hx hb dL_law_181 (lv_at hl 1 rfl) ?_
  refine lv_icmp_eq (tgt := 188) hx hb dL_law_183 (by decide) (fun _ => ?_) (fun c_1 => absurd c_1 (fun h => h e9.1))
  refine lv_iload hx hb dL_law_188 (lv_at hl 1 rfl) ?_
  refine lv_if_ne (tgt := 204) hx hb dL_law_190 (by decide) (fun c_2 => ?_) (fun c_2 => ?_)
  · refine lv_goto (tgt := 1438) hx hb dL_law_204 (by decide) ?_
    obtain ⟨hP, hD⟩ := sw hP hD
    have hP : va_P (dC, dI) vwCl ([(ax, .inr (1, [.ref ab, .ref aw, .int wl, .double la, .double ea, .int wk, .int fl])), (ao, aL 1 (cA 5) (oJ (f_X1_day x1 x2 x3 x4) (fun v => v) fo))] ++ ([(am, .inr (2, [.int ((f_X2_day  x1 x2 x3 x4).2), .int wk, .int fl, .ref gs, .ref go, .ref gt, .ref gp, .ref gw, .double la, .double ea, .ref gl, .int ln, .int fd]))] ++ R)) H := hP
    have hD : va_D A ([(ax, .inr (1, [.ref ab, .ref aw, .int wl, .double la, .double ea, .int wk, .int fl])), (ao, aL 1 (cA 5) (oJ (f_X1_day x1 x2 x3 x4) (fun v => v) fo))] ++ ([(am, .inr (2, [.int ((f_X2_day  x1 x2 x3 x4).2), .int wk, .int fl, .ref gs, .ref go, .ref gt, .ref gp, .ref gw, .double la, .double ea, .ref gl, .int ln, .int fd]))] ++ R)) := hD
    refine W.widen (k := Cn + 66) (n := Sn + 396) (by omega) (by omega) ?_
    exact kk _ _ _ hP hD hS (lv_sub hl [2, 3, 4, 5, 6, 7] rfl)
  · obtain ⟨v9, hv9⟩ := cd1_ok0 c_2
    have e7 : (f_X2_day  x1 x2 x3 x4).1 = v9 := e9.2 v9 hv9
    refine lv_aload_n hx hb dL_law_193 rfl (lv_at hl 5 rfl) ?_
    refine lv_iconst (v := 0) hx hb dL_law_194 (by decide) ?_
    refine va_lald hx hb hK hP 2 5 rfl rfl (show ¬ ((0 : Int32) < 0 ∨ 1 ≤ (0 : Int32).toNatClampNeg) by decide +kernel) dL_law_195 ?_
    rw [show (oJ (f_X1_day x1 x2 x3 x4) (fun v => v) fo) ((0 : Int32).toNatClampNeg) = v9 from by rw [cl0]; exact oJ_0 hv9]
    refine lv_lload hx hb dL_law_196 (lv_at hl 0 rfl) ?_
    refine zl_eq (tgt := 204) hx hb dL_law_198 dL_law_199 (by decide) (fun _ => ?_) (fun c_3 => absurd c_3 (fun h => h (by rw [e7])))
    refine lv_goto (tgt := 1438) hx hb dL_law_204 (by decide) ?_
    obtain ⟨hP, hD⟩ := sw hP hD
    have hP : va_P (dC, dI) vwCl ([(ax, .inr (1, [.ref ab, .ref aw, .int wl, .double la, .double ea, .int wk, .int fl])), (ao, aL 1 (cA 5) (oJ (f_X1_day x1 x2 x3 x4) (fun v => v) fo))] ++ ([(am, .inr (2, [.int ((f_X2_day  x1 x2 x3 x4).2), .int wk, .int fl, .ref gs, .ref go, .ref gt, .ref gp, .ref gw, .double la, .double ea, .ref gl, .int ln, .int fd]))] ++ R)) H := hP
    have hD : va_D A ([(ax, .inr (1, [.ref ab, .ref aw, .int wl, .double la, .double ea, .int wk, .int fl])), (ao, aL 1 (cA 5) (oJ (f_X1_day x1 x2 x3 x4) (fun v => v) fo))] ++ ([(am, .inr (2, [.int ((f_X2_day  x1 x2 x3 x4).2), .int wk, .int fl, .ref gs, .ref go, .ref gt, .ref gp, .ref gw, .double la, .double ea, .ref gl, .int ln, .int fd]))] ++ R)) := hD
    refine W.widen (k := Cn + 66) (n := Sn + 396) (by omega) (by omega) ?_
    exact kk _ _ _ hP hD hS (lv_sub hl [2, 3, 4, 5, 6, 7] rfl)
set_option maxHeartbeats 4000000 in
set_option maxRecDepth 100000 in
theorem cs_easter {p : Program} {l : Launch} {e : Env} {s : State} {m : MethodId} {below : List Frame} {meth : Method} {c : Code} {b L : Nat} {xs : Nat → Int32} {Q : State → Prop} {A : Nat → Prop} {dC : Nat → ClassId} {dI : Nat → Nat → Nat} {cA : Nat → ClassId} {tm tt i Cn Sn : Nat} (hst : l.stackTraces = false) (C0 : LX p s m c b L xs dC dI cA tm tt A) (hi : i + 6 ≤ L) (hL : L ≤ 3072) (hC : Cn + 66 ≤ 620239) (hSn : Sn + 396 ≤ 7235387) (ax ab aw : Nat) (wl : Int32) (la ea : UInt64) (wk fl : Int32) (am gs go gt gp gw gl : Nat) (th : Int32) (ln fd : Int32) (ao ad : Nat) (fo : Nat → Int64) (x1 : Int32) (hx1 : x1 = xs (Int32.toNatClampNeg (nI i + 1)))  (R : va_W) {H : Heap} {locs : List Loc} {ls : Array Slot} (hP : va_P (dC, dI) vwCl ([(ax, .inr (1, [.ref ab, .ref aw, .int wl, .double la, .double ea, .int wk, .int fl])), (ao, aL 1 (cA 5) fo)] ++ ([(am, .inr (2, [.int th, .int wk, .int fl, .ref gs, .ref go, .ref gt, .ref gp, .ref gw, .double la, .double ea, .ref gl, .int ln, .int fd]))] ++ R)) H) (hD : va_D A ([(ax, .inr (1, [.ref ab, .ref aw, .int wl, .double la, .double ea, .int wk, .int fl])), (ao, aL 1 (cA 5) fo)] ++ ([(am, .inr (2, [.int th, .int wk, .int fl, .ref gs, .ref go, .ref gt, .ref gp, .ref gw, .double la, .double ea, .ref gl, .int ln, .int fd]))] ++ R))) (hS : va_S A s.heap H locs) (hl : lv_has ls 9 [(0, .ref b), (1, .ref ax), (2, .ref am), (3, .ref ao), (4, .ref ad), (5, .int (nI i))])
    (kk : ∀ (H : Heap) (locs : List Loc) (ls : Array Slot), va_P (dC, dI) vwCl ([(ax, .inr (1, [.ref ab, .ref aw, .int wl, .double la, .double ea, .int wk, .int fl])), (ao, aL 1 (cA 5) (oJ (f_X1_easter x1) (fun v => v) fo))] ++ ([(am, .inr (2, [.int ((f_X2_easter  x1).2), .int wk, .int fl, .ref gs, .ref go, .ref gt, .ref gp, .ref gw, .double la, .double ea, .ref gl, .int ln, .int fd]))] ++ R)) H → va_D A ([(ax, .inr (1, [.ref ab, .ref aw, .int wl, .double la, .double ea, .int wk, .int fl])), (ao, aL 1 (cA 5) (oJ (f_X1_easter x1) (fun v => v) fo))] ++ ([(am, .inr (2, [.int ((f_X2_easter  x1).2), .int wk, .int fl, .ref gs, .ref go, .ref gt, .ref gp, .ref gw, .double la, .double ea, .ref gl, .int ln, .int fd]))] ++ R)) → va_S A s.heap H locs → lv_has ls 9 [(0, .ref b), (1, .ref ax), (2, .ref am), (3, .ref ao), (4, .ref ad), (5, .int (nI i))] → W p l e room_1 s m #[Value.ref b] below meth c H locs (Cn + 66) (Sn + 396) Q (F0 m 1438 ls []))
    : W p l e room_1 s m #[Value.ref b] below meth c H locs Cn Sn Q (F0 m 319 ls []) := by
  obtain ⟨hx, hb, hml, hown, hts, hX, hbl, hbA, hA, hE, hN, hK⟩ := C0
  have e9 := eq_easter x1
  refine lv_aload_n hx hb dL_law_319 rfl (lv_at hl 1 rfl) ?_
  refine lv_aload_n hx hb dL_law_320 rfl (lv_at hl 0 rfl) ?_
  refine lv_iload hx hb dL_law_321 (lv_at hl 5 rfl) ?_
  refine lv_iconst (v := 1) hx hb dL_law_323 (by decide) ?_
  refine lv_iadd hx hb dL_law_324 ?_
  refine va_sld hx hb hX hbl hbA hS (ix_in 1 rfl hi hL (by decide)) dL_law_325 ?_
  rw [← hx1]
  refine lv_aload_n hx hb dL_law_326 rfl (lv_at hl 3 rfl) ?_
  have hPc := hP.sub (ws' := [(ax, .inr (1, [.ref ab, .ref aw, .int wl, .double la, .double ea, .int wk, .int fl])), (ao, aL 1 (cA 5) fo)]) [0, 1] rfl
  have hDc := hD.sub (ws' := [(ax, .inr (1, [.ref ab, .ref aw, .int wl, .double la, .double ea, .int wk, .int fl])), (ao, aL 1 (cA 5) fo)]) [0, 1] (by decide) rfl
  have hFc := va_free (wc := [(ax, .inr (1, [.ref ab, .ref aw, .int wl, .double la, .double ea, .int wk, .int fl])), (ao, aL 1 (cA 5) fo)]) hD hS hA [0, 1] rfl
  refine va_calli (vx_runSW (As := [.ref ax, .int x1, .ref ao]) (rest := []) ⟨hx, hb, hml, hown, hts⟩ (k_L_easter l hst dC dI cA tm tt _ ax ab aw wl la ea wk fl ao fo x1 ) (vx_cwSW 3 hts gL_law_L_easter rfl rfl rfl (by decide +kernel) ⟨Nat.le_of_ble_eq_true rfl, Nat.le_of_ble_eq_true rfl⟩) ⟨PcL.blind, PcL.give hPc hK hDc hE hS hFc hN⟩ rfl rfl hl.1 rfl (lv_room (Nat.le_of_ble_eq_true rfl)) dL_law_327 ⟨(show Cn + 1 ≤ 620239 by omega), (show Sn + 6 ≤ 7235387 by omega)⟩) hS (fun q _ h => hFc q h) hFc (fun r6 u t H locs ht hvm hr6 hB hz1 hk1 hS => ?_)
  subst hr6
  obtain ⟨hP1, hD1⟩ := hB
  rw [ht] at hP1
  obtain ⟨hP, hD⟩ := zj hP hD hk1 hFc hP1 hD1
  have hP : va_P (dC, dI) vwCl ([(ax, .inr (1, [.ref ab, .ref aw, .int wl, .double la, .double ea, .int wk, .int fl])), (ao, aL 1 (cA 5) (oJ (f_X1_easter x1) (fun v => v) fo))] ++ ([(am, .inr (2, [.int th, .int wk, .int fl, .ref gs, .ref go, .ref gt, .ref gp, .ref gw, .double la, .double ea, .ref gl, .int ln, .int fd]))] ++ R)) H := hP
  have hD : va_D A ([(ax, .inr (1, [.ref ab, .ref aw, .int wl, .double la, .double ea, .int wk, .int fl])), (ao, aL 1 (cA 5) (oJ (f_X1_easter x1) (fun v => v) fo))] ++ ([(am, .inr (2, [.int th, .int wk, .int fl, .ref gs, .ref go, .ref gt, .ref gp, .ref gw, .double la, .double ea, .ref gl, .int ln, .int fd]))] ++ R)) := hD
  obtain ⟨hP, hD⟩ := sw hP hD
  have hP : va_P (dC, dI) vwCl ([(am, .inr (2, [.int th, .int wk, .int fl, .ref gs, .ref go, .ref gt, .ref gp, .ref gw, .double la, .double ea, .ref gl, .int ln, .int fd]))] ++ ([(ax, .inr (1, [.ref ab, .ref aw, .int wl, .double la, .double ea, .int wk, .int fl])), (ao, aL 1 (cA 5) (oJ (f_X1_easter x1) (fun v => v) fo))] ++ R)) H := hP
  have hD : va_D A ([(am, .inr (2, [.int th, .int wk, .int fl, .ref gs, .ref go, .ref gt, .ref gp, .ref gw, .double la, .double ea, .ref gl, .int ln, .int fd]))] ++ ([(ax, .inr (1, [.ref ab, .ref aw, .int wl, .double la, .double ea, .int wk, .int fl])), (ao, aL 1 (cA 5) (oJ (f_X1_easter x1) (fun v => v) fo))] ++ R)) := hD
  refine lv_istore (lv' := [(6, .int (cd1 (f_X1_easter x1))), (0, .ref b), (1, .ref ax), (2, .ref am), (3, .ref ao), (4, .ref ad), (5, .int (nI i))]) hx hb dL_law_330 hl (by decide) rfl (fun ls hl => ?_)
  refine lv_aload_n hx hb dL_law_332 rfl (lv_at hl 3 rfl) ?_
  refine lv_aload_n hx hb dL_law_333 rfl (lv_at hl 1 rfl) ?_
  refine lv_iload hx hb dL_law_334 (lv_at hl 6 rfl) ?_
  refine lv_iconst (v := 1) hx hb dL_law_336 (by decide) ?_
  refine lv_iadd hx hb dL_law_337 ?_
  refine va_sld hx hb hX hbl hbA hS (ix_in 1 rfl hi hL (by decide)) dL_law_338 ?_
  rw [← hx1]
  have hPc := hP.sub (ws' := [(am, .inr (2, [.int th, .int wk, .int fl, .ref gs, .ref go, .ref gt, .ref gp, .ref gw, .double la, .double ea, .ref gl, .int ln, .int fd]))]) [0] rfl
  have hDc := hD.sub (ws' := [(am, .inr (2, [.int th, .int wk, .int fl, .ref gs, .ref go, .ref gt, .ref gp, .ref gw, .double la, .double ea, .ref gl, .int ln, .int fd]))]) [0] (by decide) rfl
  have hFc := va_free (wc := [(am, .inr (2, [.int th, .int wk, .int fl, .ref gs, .ref go, .ref gt, .ref gp, .ref gw, .double la, .double ea, .ref gl, .int ln, .int fd]))]) hD hS hA [0] rfl
  refine va_calll (va_runV (As := [.int x1]) (rest := []) ⟨hx, hb, hml, hown, hts⟩ (k_X2_easter l hst dC dI cA tm tt _ am gs go gt gp gw gl th wk fl la ea ln fd x1 ) (cwV 1 hts gL_law_X2_easter rfl rfl rfl (by decide +kernel) ⟨Nat.le_of_ble_eq_true rfl, Nat.le_of_ble_eq_true rfl⟩) ⟨PcW.blind, va_recv hK hPc (ci := 2) (q0 := 0) rfl rfl, PcW.give hPc hK hDc hE hS hFc⟩ rfl rfl hl.1 rfl (lv_room (Nat.le_of_ble_eq_true rfl)) dL_law_339 ⟨(show Cn + 1 ≤ 620239 by omega), (show Sn + 6 ≤ 7235387 by omega)⟩) hS (fun q _ h => hFc q h) hFc (fun r7 u t H locs ht hvm hr7 hB hz1 hk1 hS => ?_)
  subst hr7
  obtain ⟨hP1, hD1⟩ := hB
  rw [ht] at hP1
  obtain ⟨hP, hD⟩ := zj hP hD hk1 hFc hP1 hD1
  have hP : va_P (dC, dI) vwCl ([(am, .inr (2, [.int ((f_X2_easter  x1).2), .int wk, .int fl, .ref gs, .ref go, .ref gt, .ref gp, .ref gw, .double la, .double ea, .ref gl, .int ln, .int fd]))] ++ ([(ax, .inr (1, [.ref ab, .ref aw, .int wl, .double la, .double ea, .int wk, .int fl])), (ao, aL 1 (cA 5) (oJ (f_X1_easter x1) (fun v => v) fo))] ++ R)) H := hP
  have hD : va_D A ([(am, .inr (2, [.int ((f_X2_easter  x1).2), .int wk, .int fl, .ref gs, .ref go, .ref gt, .ref gp, .ref gw, .double la, .double ea, .ref gl, .int ln, .int fd]))] ++ ([(ax, .inr (1, [.ref ab, .ref aw, .int wl, .double la, .double ea, .int wk, .int fl])), (ao, aL 1 (cA 5) (oJ (f_X1_easter x1) (fun v => v) fo))] ++ R)) := hD
  refine lv_lstore (lv' := [(7, .long ((f_X2_easter  x1).1)), (6, .int (cd1 (f_X1_easter x1))), (0, .ref b), (1, .ref ax), (2, .ref am), (3, .ref ao), (4, .ref ad), (5, .int (nI i))]) hx hb dL_law_342 hl (by decide) rfl (fun ls hl => ?_)
  refine lv_aload_n hx hb dL_law_344 rfl (lv_at hl 4 rfl) ?_
  have hPc := hP.sub (ws' := [(am, .inr (2, [.int ((f_X2_easter  x1).2), .int wk, .int fl, .ref gs, .ref go, .ref gt, .ref gp, .ref gw, .double la, .double ea, .ref gl, .int ln, .int fd]))]) [0] rfl
  refine vp_callSi (W.runV (As := []) (rest := []) ⟨hx, hb, hml, hown, hts⟩ (k_X2_thrown l dC dI cA tm tt am gs go gt gp gw gl ((f_X2_easter  x1).2) wk fl la ea ln fd) (cwV 0 hts gL_law_X2_thrown rfl rfl rfl (by decide +kernel) ⟨Nat.le_of_ble_eq_true rfl, Nat.le_of_ble_eq_true rfl⟩) ⟨PcO.blind, va_recv hK hPc (ci := 2) (q0 := 0) rfl rfl, PcO.give hPc hK hE hS⟩ rfl rfl hl.1 rfl (lv_room (Nat.le_of_ble_eq_true rfl)) dL_law_345 ⟨(show Cn + 1 ≤ 620239 by omega), (show Sn + 6 ≤ 7235387 by omega)⟩) (fun r hr9 => ?_)
  obtain rfl := hr9
  refine lv_iload hx hb dL_law_348 (lv_at hl 1 rfl) ?_
  refine lv_icmp_eq (tgt := 355) hx hb dL_law_350 (by decide) (fun _ => ?_) (fun c_1 => absurd c_1 (fun h => h e9.1))
  refine lv_iload hx hb dL_law_355 (lv_at hl 1 rfl) ?_
  refine lv_if_ne (tgt := 371) hx hb dL_law_357 (by decide) (fun c_2 => ?_) (fun c_2 => ?_)
  · refine lv_goto (tgt := 1438) hx hb dL_law_371 (by decide) ?_
    obtain ⟨hP, hD⟩ := sw hP hD
    have hP : va_P (dC, dI) vwCl ([(ax, .inr (1, [.ref ab, .ref aw, .int wl, .double la, .double ea, .int wk, .int fl])), (ao, aL 1 (cA 5) (oJ (f_X1_easter x1) (fun v => v) fo))] ++ ([(am, .inr (2, [.int ((f_X2_easter  x1).2), .int wk, .int fl, .ref gs, .ref go, .ref gt, .ref gp, .ref gw, .double la, .double ea, .ref gl, .int ln, .int fd]))] ++ R)) H := hP
    have hD : va_D A ([(ax, .inr (1, [.ref ab, .ref aw, .int wl, .double la, .double ea, .int wk, .int fl])), (ao, aL 1 (cA 5) (oJ (f_X1_easter x1) (fun v => v) fo))] ++ ([(am, .inr (2, [.int ((f_X2_easter  x1).2), .int wk, .int fl, .ref gs, .ref go, .ref gt, .ref gp, .ref gw, .double la, .double ea, .ref gl, .int ln, .int fd]))] ++ R)) := hD
    refine W.widen (k := Cn + 66) (n := Sn + 396) (by omega) (by omega) ?_
    exact kk _ _ _ hP hD hS (lv_sub hl [2, 3, 4, 5, 6, 7] rfl)
  · obtain ⟨v9, hv9⟩ := cd1_ok0 c_2
    have e7 : (f_X2_easter  x1).1 = v9 := e9.2 v9 hv9
    refine lv_aload_n hx hb dL_law_360 rfl (lv_at hl 5 rfl) ?_
    refine lv_iconst (v := 0) hx hb dL_law_361 (by decide) ?_
    refine va_lald hx hb hK hP 2 5 rfl rfl (show ¬ ((0 : Int32) < 0 ∨ 1 ≤ (0 : Int32).toNatClampNeg) by decide +kernel) dL_law_362 ?_
    rw [show (oJ (f_X1_easter x1) (fun v => v) fo) ((0 : Int32).toNatClampNeg) = v9 from by rw [cl0]; exact oJ_0 hv9]
    refine lv_lload hx hb dL_law_363 (lv_at hl 0 rfl) ?_
    refine zl_eq (tgt := 371) hx hb dL_law_365 dL_law_366 (by decide) (fun _ => ?_) (fun c_3 => absurd c_3 (fun h => h (by rw [e7])))
    refine lv_goto (tgt := 1438) hx hb dL_law_371 (by decide) ?_
    obtain ⟨hP, hD⟩ := sw hP hD
    have hP : va_P (dC, dI) vwCl ([(ax, .inr (1, [.ref ab, .ref aw, .int wl, .double la, .double ea, .int wk, .int fl])), (ao, aL 1 (cA 5) (oJ (f_X1_easter x1) (fun v => v) fo))] ++ ([(am, .inr (2, [.int ((f_X2_easter  x1).2), .int wk, .int fl, .ref gs, .ref go, .ref gt, .ref gp, .ref gw, .double la, .double ea, .ref gl, .int ln, .int fd]))] ++ R)) H := hP
    have hD : va_D A ([(ax, .inr (1, [.ref ab, .ref aw, .int wl, .double la, .double ea, .int wk, .int fl])), (ao, aL 1 (cA 5) (oJ (f_X1_easter x1) (fun v => v) fo))] ++ ([(am, .inr (2, [.int ((f_X2_easter  x1).2), .int wk, .int fl, .ref gs, .ref go, .ref gt, .ref gp, .ref gw, .double la, .double ea, .ref gl, .int ln, .int fd]))] ++ R)) := hD
    refine W.widen (k := Cn + 66) (n := Sn + 396) (by omega) (by omega) ?_
    exact kk _ _ _ hP hD hS (lv_sub hl [2, 3, 4, 5, 6, 7] rfl)
set_option maxHeartbeats 4000000 in
set_option maxRecDepth 100000 in
theorem cs_sidereal {p : Program} {l : Launch} {e : Env} {s : State} {m : MethodId} {below : List Frame} {meth : Method} {c : Code} {b L : Nat} {xs : Nat → Int32} {Q : State → Prop} {A : Nat → Prop} {dC : Nat → ClassId} {dI : Nat → Nat → Nat} {cA : Nat → ClassId} {tm tt i Cn Sn : Nat} (hst : l.stackTraces = false) (C0 : LX p s m c b L xs dC dI cA tm tt A) (hi : i + 6 ≤ L) (hL : L ≤ 3072) (hC : Cn + 66 ≤ 620239) (hSn : Sn + 396 ≤ 7235387) (ax ab aw : Nat) (wl : Int32) (la ea : UInt64) (wk fl : Int32) (am gs go gt gp gw gl : Nat) (th : Int32) (ln fd : Int32) (ao ad : Nat) (fq : Nat → UInt64) (x1 : Int32) (hx1 : x1 = xs (Int32.toNatClampNeg (nI i + 1))) (y1 : UInt64) (hy1 : y1 = FP.dmul (FP.i2d x1) 4593671619917905920)  (R : va_W) {H : Heap} {locs : List Loc} {ls : Array Slot} (hP : va_P (dC, dI) vwCl ([(ax, .inr (1, [.ref ab, .ref aw, .int wl, .double la, .double ea, .int wk, .int fl])), (ad, aD 1 (cA 1) fq)] ++ ([(am, .inr (2, [.int th, .int wk, .int fl, .ref gs, .ref go, .ref gt, .ref gp, .ref gw, .double la, .double ea, .ref gl, .int ln, .int fd]))] ++ R)) H) (hD : va_D A ([(ax, .inr (1, [.ref ab, .ref aw, .int wl, .double la, .double ea, .int wk, .int fl])), (ad, aD 1 (cA 1) fq)] ++ ([(am, .inr (2, [.int th, .int wk, .int fl, .ref gs, .ref go, .ref gt, .ref gp, .ref gw, .double la, .double ea, .ref gl, .int ln, .int fd]))] ++ R))) (hS : va_S A s.heap H locs) (hl : lv_has ls 9 [(0, .ref b), (1, .ref ax), (2, .ref am), (3, .ref ao), (4, .ref ad), (5, .int (nI i))])
    (kk : ∀ (H : Heap) (locs : List Loc) (ls : Array Slot), va_P (dC, dI) vwCl ([(ax, .inr (1, [.ref ab, .ref aw, .int wl, .double la, .double ea, .int wk, .int fl])), (ad, aD 1 (cA 1) (oD (f_X1_sidereal y1) fq))] ++ ([(am, .inr (2, [.int ((f_X2_sidereal  y1).2), .int wk, .int fl, .ref gs, .ref go, .ref gt, .ref gp, .ref gw, .double la, .double ea, .ref gl, .int ln, .int fd]))] ++ R)) H → va_D A ([(ax, .inr (1, [.ref ab, .ref aw, .int wl, .double la, .double ea, .int wk, .int fl])), (ad, aD 1 (cA 1) (oD (f_X1_sidereal y1) fq))] ++ ([(am, .inr (2, [.int ((f_X2_sidereal  y1).2), .int wk, .int fl, .ref gs, .ref go, .ref gt, .ref gp, .ref gw, .double la, .double ea, .ref gl, .int ln, .int fd]))] ++ R)) → va_S A s.heap H locs → lv_has ls 9 [(0, .ref b), (1, .ref ax), (2, .ref am), (3, .ref ao), (4, .ref ad), (5, .int (nI i))] → W p l e room_1 s m #[Value.ref b] below meth c H locs (Cn + 66) (Sn + 396) Q (F0 m 1438 ls []))
    : W p l e room_1 s m #[Value.ref b] below meth c H locs Cn Sn Q (F0 m 1053 ls []) := by
  obtain ⟨hx, hb, hml, hown, hts, hX, hbl, hbA, hA, hE, hN, hK⟩ := C0
  have e9 := eq_sidereal y1
  refine lv_aload_n hx hb dL_law_1053 rfl (lv_at hl 1 rfl) ?_
  refine lv_aload_n hx hb dL_law_1054 rfl (lv_at hl 0 rfl) ?_
  refine lv_iload hx hb dL_law_1055 (lv_at hl 5 rfl) ?_
  refine lv_iconst (v := 1) hx hb dL_law_1057 (by decide) ?_
  refine lv_iadd hx hb dL_law_1058 ?_
  refine va_sld hx hb hX hbl hbA hS (ix_in 1 rfl hi hL (by decide)) dL_law_1059 ?_
  rw [← hx1]
  refine lv_i2d hx hb dL_law_1060 ?_
  refine lv_ldc2d hx hb hown (hts _ cw92) dL_law_1061 ?_
  refine lv_dmul hx hb dL_law_1064 (fR_nn (e8_R x1)) ?_
  rw [← hy1]
  refine lv_aload hx hb dL_law_1065 (lv_at hl 4 rfl) ?_
  have hPc := hP.sub (ws' := [(ax, .inr (1, [.ref ab, .ref aw, .int wl, .double la, .double ea, .int wk, .int fl])), (ad, aD 1 (cA 1) fq)]) [0, 1] rfl
  have hDc := hD.sub (ws' := [(ax, .inr (1, [.ref ab, .ref aw, .int wl, .double la, .double ea, .int wk, .int fl])), (ad, aD 1 (cA 1) fq)]) [0, 1] (by decide) rfl
  have hFc := va_free (wc := [(ax, .inr (1, [.ref ab, .ref aw, .int wl, .double la, .double ea, .int wk, .int fl])), (ad, aD 1 (cA 1) fq)]) hD hS hA [0, 1] rfl
  refine va_calli (vx_runSW (As := [.ref ax, .double y1, .ref ad]) (rest := []) ⟨hx, hb, hml, hown, hts⟩ (k_L_sidereal l hst dC dI cA tm tt _ ax ab aw wl la ea wk fl ad fq y1 (by rw [hy1]; exact e8_R x1)) (vx_cwSW 3 hts gL_law_L_sidereal rfl rfl rfl (by decide +kernel) ⟨Nat.le_of_ble_eq_true rfl, Nat.le_of_ble_eq_true rfl⟩) ⟨PcL.blind, PcL.give hPc hK hDc hE hS hFc hN⟩ rfl rfl hl.1 rfl (lv_room (Nat.le_of_ble_eq_true rfl)) dL_law_1067 ⟨(show Cn + 1 ≤ 620239 by omega), (show Sn + 6 ≤ 7235387 by omega)⟩) hS (fun q _ h => hFc q h) hFc (fun r6 u t H locs ht hvm hr6 hB hz1 hk1 hS => ?_)
  subst hr6
  obtain ⟨hP1, hD1⟩ := hB
  rw [ht] at hP1
  obtain ⟨hP, hD⟩ := zj hP hD hk1 hFc hP1 hD1
  have hP : va_P (dC, dI) vwCl ([(ax, .inr (1, [.ref ab, .ref aw, .int wl, .double la, .double ea, .int wk, .int fl])), (ad, aD 1 (cA 1) (oD (f_X1_sidereal y1) fq))] ++ ([(am, .inr (2, [.int th, .int wk, .int fl, .ref gs, .ref go, .ref gt, .ref gp, .ref gw, .double la, .double ea, .ref gl, .int ln, .int fd]))] ++ R)) H := hP
  have hD : va_D A ([(ax, .inr (1, [.ref ab, .ref aw, .int wl, .double la, .double ea, .int wk, .int fl])), (ad, aD 1 (cA 1) (oD (f_X1_sidereal y1) fq))] ++ ([(am, .inr (2, [.int th, .int wk, .int fl, .ref gs, .ref go, .ref gt, .ref gp, .ref gw, .double la, .double ea, .ref gl, .int ln, .int fd]))] ++ R)) := hD
  obtain ⟨hP, hD⟩ := sw hP hD
  have hP : va_P (dC, dI) vwCl ([(am, .inr (2, [.int th, .int wk, .int fl, .ref gs, .ref go, .ref gt, .ref gp, .ref gw, .double la, .double ea, .ref gl, .int ln, .int fd]))] ++ ([(ax, .inr (1, [.ref ab, .ref aw, .int wl, .double la, .double ea, .int wk, .int fl])), (ad, aD 1 (cA 1) (oD (f_X1_sidereal y1) fq))] ++ R)) H := hP
  have hD : va_D A ([(am, .inr (2, [.int th, .int wk, .int fl, .ref gs, .ref go, .ref gt, .ref gp, .ref gw, .double la, .double ea, .ref gl, .int ln, .int fd]))] ++ ([(ax, .inr (1, [.ref ab, .ref aw, .int wl, .double la, .double ea, .int wk, .int fl])), (ad, aD 1 (cA 1) (oD (f_X1_sidereal y1) fq))] ++ R)) := hD
  refine lv_istore (lv' := [(6, .int (cd1 (f_X1_sidereal y1))), (0, .ref b), (1, .ref ax), (2, .ref am), (3, .ref ao), (4, .ref ad), (5, .int (nI i))]) hx hb dL_law_1070 hl (by decide) rfl (fun ls hl => ?_)
  refine lv_aload_n hx hb dL_law_1072 rfl (lv_at hl 3 rfl) ?_
  refine lv_aload_n hx hb dL_law_1073 rfl (lv_at hl 1 rfl) ?_
  refine lv_iload hx hb dL_law_1074 (lv_at hl 6 rfl) ?_
  refine lv_iconst (v := 1) hx hb dL_law_1076 (by decide) ?_
  refine lv_iadd hx hb dL_law_1077 ?_
  refine va_sld hx hb hX hbl hbA hS (ix_in 1 rfl hi hL (by decide)) dL_law_1078 ?_
  rw [← hx1]
  refine lv_i2d hx hb dL_law_1079 ?_
  refine lv_ldc2d hx hb hown (hts _ cw92) dL_law_1080 ?_
  refine lv_dmul hx hb dL_law_1083 (fR_nn (e8_R x1)) ?_
  rw [← hy1]
  have hPc := hP.sub (ws' := [(am, .inr (2, [.int th, .int wk, .int fl, .ref gs, .ref go, .ref gt, .ref gp, .ref gw, .double la, .double ea, .ref gl, .int ln, .int fd]))]) [0] rfl
  have hDc := hD.sub (ws' := [(am, .inr (2, [.int th, .int wk, .int fl, .ref gs, .ref go, .ref gt, .ref gp, .ref gw, .double la, .double ea, .ref gl, .int ln, .int fd]))]) [0] (by decide) rfl
  have hFc := va_free (wc := [(am, .inr (2, [.int th, .int wk, .int fl, .ref gs, .ref go, .ref gt, .ref gp, .ref gw, .double la, .double ea, .ref gl, .int ln, .int fd]))]) hD hS hA [0] rfl
  refine va_calld (va_runV (As := [.double y1]) (rest := []) ⟨hx, hb, hml, hown, hts⟩ (k_X2_sidereal l hst dC dI cA tm tt _ am gs go gt gp gw gl th wk fl la ea ln fd y1 (by rw [hy1]; exact e8_R x1)) (cwV 1 hts gL_law_X2_sidereal rfl rfl rfl (by decide +kernel) ⟨Nat.le_of_ble_eq_true rfl, Nat.le_of_ble_eq_true rfl⟩) ⟨PcW.blind, va_recv hK hPc (ci := 2) (q0 := 0) rfl rfl, PcW.give hPc hK hDc hE hS hFc⟩ rfl rfl hl.1 rfl (lv_room (Nat.le_of_ble_eq_true rfl)) dL_law_1084 ⟨(show Cn + 1 ≤ 620239 by omega), (show Sn + 6 ≤ 7235387 by omega)⟩) hS (fun q _ h => hFc q h) hFc (fun r7 u t H locs ht hvm hr7 hB hz1 hk1 hS => ?_)
  subst hr7
  obtain ⟨hP1, hD1⟩ := hB
  rw [ht] at hP1
  obtain ⟨hP, hD⟩ := zj hP hD hk1 hFc hP1 hD1
  have hP : va_P (dC, dI) vwCl ([(am, .inr (2, [.int ((f_X2_sidereal  y1).2), .int wk, .int fl, .ref gs, .ref go, .ref gt, .ref gp, .ref gw, .double la, .double ea, .ref gl, .int ln, .int fd]))] ++ ([(ax, .inr (1, [.ref ab, .ref aw, .int wl, .double la, .double ea, .int wk, .int fl])), (ad, aD 1 (cA 1) (oD (f_X1_sidereal y1) fq))] ++ R)) H := hP
  have hD : va_D A ([(am, .inr (2, [.int ((f_X2_sidereal  y1).2), .int wk, .int fl, .ref gs, .ref go, .ref gt, .ref gp, .ref gw, .double la, .double ea, .ref gl, .int ln, .int fd]))] ++ ([(ax, .inr (1, [.ref ab, .ref aw, .int wl, .double la, .double ea, .int wk, .int fl])), (ad, aD 1 (cA 1) (oD (f_X1_sidereal y1) fq))] ++ R)) := hD
  refine lv_dstore (lv' := [(7, .double ((f_X2_sidereal  y1).1)), (6, .int (cd1 (f_X1_sidereal y1))), (0, .ref b), (1, .ref ax), (2, .ref am), (3, .ref ao), (4, .ref ad), (5, .int (nI i))]) hx hb dL_law_1087 hl (by decide) rfl (fun ls hl => ?_)
  refine lv_aload_n hx hb dL_law_1089 rfl (lv_at hl 4 rfl) ?_
  have hPc := hP.sub (ws' := [(am, .inr (2, [.int ((f_X2_sidereal  y1).2), .int wk, .int fl, .ref gs, .ref go, .ref gt, .ref gp, .ref gw, .double la, .double ea, .ref gl, .int ln, .int fd]))]) [0] rfl
  refine vp_callSi (W.runV (As := []) (rest := []) ⟨hx, hb, hml, hown, hts⟩ (k_X2_thrown l dC dI cA tm tt am gs go gt gp gw gl ((f_X2_sidereal  y1).2) wk fl la ea ln fd) (cwV 0 hts gL_law_X2_thrown rfl rfl rfl (by decide +kernel) ⟨Nat.le_of_ble_eq_true rfl, Nat.le_of_ble_eq_true rfl⟩) ⟨PcO.blind, va_recv hK hPc (ci := 2) (q0 := 0) rfl rfl, PcO.give hPc hK hE hS⟩ rfl rfl hl.1 rfl (lv_room (Nat.le_of_ble_eq_true rfl)) dL_law_1090 ⟨(show Cn + 1 ≤ 620239 by omega), (show Sn + 6 ≤ 7235387 by omega)⟩) (fun r hr9 => ?_)
  obtain rfl := hr9
  refine lv_iload hx hb dL_law_1093 (lv_at hl 1 rfl) ?_
  refine lv_icmp_eq (tgt := 1100) hx hb dL_law_1095 (by decide) (fun _ => ?_) (fun c_1 => absurd c_1 (fun h => h e9.1))
  refine lv_iload hx hb dL_law_1100 (lv_at hl 1 rfl) ?_
  refine lv_if_ne (tgt := 1137) hx hb dL_law_1102 (by decide) (fun c_2 => ?_) (fun c_2 => ?_)
  · refine lv_goto (tgt := 1438) hx hb dL_law_1137 (by decide) ?_
    obtain ⟨hP, hD⟩ := sw hP hD
    have hP : va_P (dC, dI) vwCl ([(ax, .inr (1, [.ref ab, .ref aw, .int wl, .double la, .double ea, .int wk, .int fl])), (ad, aD 1 (cA 1) (oD (f_X1_sidereal y1) fq))] ++ ([(am, .inr (2, [.int ((f_X2_sidereal  y1).2), .int wk, .int fl, .ref gs, .ref go, .ref gt, .ref gp, .ref gw, .double la, .double ea, .ref gl, .int ln, .int fd]))] ++ R)) H := hP
    have hD : va_D A ([(ax, .inr (1, [.ref ab, .ref aw, .int wl, .double la, .double ea, .int wk, .int fl])), (ad, aD 1 (cA 1) (oD (f_X1_sidereal y1) fq))] ++ ([(am, .inr (2, [.int ((f_X2_sidereal  y1).2), .int wk, .int fl, .ref gs, .ref go, .ref gt, .ref gp, .ref gw, .double la, .double ea, .ref gl, .int ln, .int fd]))] ++ R)) := hD
    refine W.widen (k := Cn + 66) (n := Sn + 396) (by omega) (by omega) ?_
    exact kk _ _ _ hP hD hS (lv_sub hl [2, 3, 4, 5, 6, 7] rfl)
  · obtain ⟨v9, hv9⟩ := cd1_ok0 c_2
    have e7 : (f_X2_sidereal  y1).1 = v9 := e9.2 v9 hv9
    refine lv_aload hx hb dL_law_1105 (lv_at hl 6 rfl) ?_
    refine lv_iconst (v := 0) hx hb dL_law_1107 (by decide) ?_
    refine va_dald hx hb hK hP 2 1 rfl rfl (show ¬ ((0 : Int32) < 0 ∨ 1 ≤ (0 : Int32).toNatClampNeg) by decide +kernel) dL_law_1108 ?_
    rw [show (oD (f_X1_sidereal y1) fq) ((0 : Int32).toNatClampNeg) = v9 from by rw [cl0]; exact oD_0 hv9]
    refine lv_dload hx hb dL_law_1109 (lv_at hl 0 rfl) ?_
    refine zd_l_eq (tgt := 1137) hx hb dL_law_1111 dL_law_1112 (by decide) (fun c_3 => ?_) (fun c_3 => ?_)
    · refine lv_goto (tgt := 1438) hx hb dL_law_1137 (by decide) ?_
      obtain ⟨hP, hD⟩ := sw hP hD
      have hP : va_P (dC, dI) vwCl ([(ax, .inr (1, [.ref ab, .ref aw, .int wl, .double la, .double ea, .int wk, .int fl])), (ad, aD 1 (cA 1) (oD (f_X1_sidereal y1) fq))] ++ ([(am, .inr (2, [.int ((f_X2_sidereal  y1).2), .int wk, .int fl, .ref gs, .ref go, .ref gt, .ref gp, .ref gw, .double la, .double ea, .ref gl, .int ln, .int fd]))] ++ R)) H := hP
      have hD : va_D A ([(ax, .inr (1, [.ref ab, .ref aw, .int wl, .double la, .double ea, .int wk, .int fl])), (ad, aD 1 (cA 1) (oD (f_X1_sidereal y1) fq))] ++ ([(am, .inr (2, [.int ((f_X2_sidereal  y1).2), .int wk, .int fl, .ref gs, .ref go, .ref gt, .ref gp, .ref gw, .double la, .double ea, .ref gl, .int ln, .int fd]))] ++ R)) := hD
      refine W.widen (k := Cn + 66) (n := Sn + 396) (by omega) (by omega) ?_
      exact kk _ _ _ hP hD hS (lv_sub hl [2, 3, 4, 5, 6, 7] rfl)
    · refine lv_aload hx hb dL_law_1115 (lv_at hl 6 rfl) ?_
      refine lv_iconst (v := 0) hx hb dL_law_1117 (by decide) ?_
      refine va_dald hx hb hK hP 2 1 rfl rfl (show ¬ ((0 : Int32) < 0 ∨ 1 ≤ (0 : Int32).toNatClampNeg) by decide +kernel) dL_law_1118 ?_
      rw [show (oD (f_X1_sidereal y1) fq) ((0 : Int32).toNatClampNeg) = v9 from by rw [cl0]; exact oD_0 hv9]
      refine lv_aload hx hb dL_law_1119 (lv_at hl 6 rfl) ?_
      refine lv_iconst (v := 0) hx hb dL_law_1121 (by decide) ?_
      refine va_dald hx hb hK hP 2 1 rfl rfl (show ¬ ((0 : Int32) < 0 ∨ 1 ≤ (0 : Int32).toNatClampNeg) by decide +kernel) dL_law_1122 ?_
      rw [show (oD (f_X1_sidereal y1) fq) ((0 : Int32).toNatClampNeg) = v9 from by rw [cl0]; exact oD_0 hv9]
      refine zd_l_eq (tgt := 1135) hx hb dL_law_1123 dL_law_1124 (by decide) (fun c_4 => absurd c_4 (dq_1 e7 c_3)) (fun _ => ?_)
      refine lv_dload hx hb dL_law_1127 (lv_at hl 0 rfl) ?_
      refine lv_dload hx hb dL_law_1129 (lv_at hl 0 rfl) ?_
      refine zd_l_ne (tgt := 1137) hx hb dL_law_1131 dL_law_1132 (by decide) (fun _ => ?_) (fun c_5 => absurd c_5 (dq_2 e7 c_3))
      refine lv_goto (tgt := 1438) hx hb dL_law_1137 (by decide) ?_
      obtain ⟨hP, hD⟩ := sw hP hD
      have hP : va_P (dC, dI) vwCl ([(ax, .inr (1, [.ref ab, .ref aw, .int wl, .double la, .double ea, .int wk, .int fl])), (ad, aD 1 (cA 1) (oD (f_X1_sidereal y1) fq))] ++ ([(am, .inr (2, [.int ((f_X2_sidereal  y1).2), .int wk, .int fl, .ref gs, .ref go, .ref gt, .ref gp, .ref gw, .double la, .double ea, .ref gl, .int ln, .int fd]))] ++ R)) H := hP
      have hD : va_D A ([(ax, .inr (1, [.ref ab, .ref aw, .int wl, .double la, .double ea, .int wk, .int fl])), (ad, aD 1 (cA 1) (oD (f_X1_sidereal y1) fq))] ++ ([(am, .inr (2, [.int ((f_X2_sidereal  y1).2), .int wk, .int fl, .ref gs, .ref go, .ref gt, .ref gp, .ref gw, .double la, .double ea, .ref gl, .int ln, .int fd]))] ++ R)) := hD
      refine W.widen (k := Cn + 66) (n := Sn + 396) (by omega) (by omega) ?_
      exact kk _ _ _ hP hD hS (lv_sub hl [2, 3, 4, 5, 6, 7] rfl)
set_option maxHeartbeats 4000000 in
set_option maxRecDepth 100000 in
theorem cs_angle {p : Program} {l : Launch} {e : Env} {s : State} {m : MethodId} {below : List Frame} {meth : Method} {c : Code} {b L : Nat} {xs : Nat → Int32} {Q : State → Prop} {A : Nat → Prop} {dC : Nat → ClassId} {dI : Nat → Nat → Nat} {cA : Nat → ClassId} {tm tt i Cn Sn : Nat} (hst : l.stackTraces = false) (C0 : LX p s m c b L xs dC dI cA tm tt A) (hi : i + 6 ≤ L) (hL : L ≤ 3072) (hC : Cn + 66 ≤ 620239) (hSn : Sn + 396 ≤ 7235387) (ax ab aw : Nat) (wl : Int32) (la ea : UInt64) (wk fl : Int32) (am gs go gt gp gw gl : Nat) (th : Int32) (ln fd : Int32) (ao ad : Nat) (fq : Nat → UInt64) (x1 : Int32) (hx1 : x1 = xs (Int32.toNatClampNeg (nI i + 1))) (x2 : Int32) (hx2 : x2 = xs (Int32.toNatClampNeg (nI i + 2))) (x3 : Int32) (hx3 : x3 = xs (Int32.toNatClampNeg (nI i + 3))) (x4 : Int32) (hx4 : x4 = xs (Int32.toNatClampNeg (nI i + 4))) (y4 : UInt64) (hy4 : y4 = FP.dmul (FP.i2d x4) 4593671619917905920)  (R : va_W) {H : Heap} {locs : List Loc} {ls : Array Slot} (hP : va_P (dC, dI) vwCl ([(ax, .inr (1, [.ref ab, .ref aw, .int wl, .double la, .double ea, .int wk, .int fl])), (ad, aD 1 (cA 1) fq)] ++ ([(am, .inr (2, [.int th, .int wk, .int fl, .ref gs, .ref go, .ref gt, .ref gp, .ref gw, .double la, .double ea, .ref gl, .int ln, .int fd]))] ++ R)) H) (hD : va_D A ([(ax, .inr (1, [.ref ab, .ref aw, .int wl, .double la, .double ea, .int wk, .int fl])), (ad, aD 1 (cA 1) fq)] ++ ([(am, .inr (2, [.int th, .int wk, .int fl, .ref gs, .ref go, .ref gt, .ref gp, .ref gw, .double la, .double ea, .ref gl, .int ln, .int fd]))] ++ R))) (hS : va_S A s.heap H locs) (hl : lv_has ls 9 [(0, .ref b), (1, .ref ax), (2, .ref am), (3, .ref ao), (4, .ref ad), (5, .int (nI i))])
    (kk : ∀ (H : Heap) (locs : List Loc) (ls : Array Slot), va_P (dC, dI) vwCl ([(ax, .inr (1, [.ref ab, .ref aw, .int wl, .double la, .double ea, .int wk, .int fl])), (ad, aD 1 (cA 1) (oD (f_X1_angle x1 x2 x3 y4) fq))] ++ ([(am, .inr (2, [.int ((f_X2_angle  x1 x2 x3 y4).2), .int wk, .int fl, .ref gs, .ref go, .ref gt, .ref gp, .ref gw, .double la, .double ea, .ref gl, .int ln, .int fd]))] ++ R)) H → va_D A ([(ax, .inr (1, [.ref ab, .ref aw, .int wl, .double la, .double ea, .int wk, .int fl])), (ad, aD 1 (cA 1) (oD (f_X1_angle x1 x2 x3 y4) fq))] ++ ([(am, .inr (2, [.int ((f_X2_angle  x1 x2 x3 y4).2), .int wk, .int fl, .ref gs, .ref go, .ref gt, .ref gp, .ref gw, .double la, .double ea, .ref gl, .int ln, .int fd]))] ++ R)) → va_S A s.heap H locs → lv_has ls 9 [(0, .ref b), (1, .ref ax), (2, .ref am), (3, .ref ao), (4, .ref ad), (5, .int (nI i))] → W p l e room_1 s m #[Value.ref b] below meth c H locs (Cn + 66) (Sn + 396) Q (F0 m 1438 ls []))
    : W p l e room_1 s m #[Value.ref b] below meth c H locs Cn Sn Q (F0 m 1274 ls []) := by
  obtain ⟨hx, hb, hml, hown, hts, hX, hbl, hbA, hA, hE, hN, hK⟩ := C0
  have e9 := eq_angle x1 x2 x3 y4
  refine lv_aload_n hx hb dL_law_1274 rfl (lv_at hl 1 rfl) ?_
  refine lv_aload_n hx hb dL_law_1275 rfl (lv_at hl 0 rfl) ?_
  refine lv_iload hx hb dL_law_1276 (lv_at hl 5 rfl) ?_
  refine lv_iconst (v := 1) hx hb dL_law_1278 (by decide) ?_
  refine lv_iadd hx hb dL_law_1279 ?_
  refine va_sld hx hb hX hbl hbA hS (ix_in 1 rfl hi hL (by decide)) dL_law_1280 ?_
  rw [← hx1]
  refine lv_aload_n hx hb dL_law_1281 rfl (lv_at hl 0 rfl) ?_
  refine lv_iload hx hb dL_law_1282 (lv_at hl 5 rfl) ?_
  refine lv_iconst (v := 2) hx hb dL_law_1284 (by decide) ?_
  refine lv_iadd hx hb dL_law_1285 ?_
  refine va_sld hx hb hX hbl hbA hS (ix_in 2 rfl hi hL (by decide)) dL_law_1286 ?_
  rw [← hx2]
  refine lv_aload_n hx hb dL_law_1287 rfl (lv_at hl 0 rfl) ?_
  refine lv_iload hx hb dL_law_1288 (lv_at hl 5 rfl) ?_
  refine lv_iconst (v := 3) hx hb dL_law_1290 (by decide) ?_
  refine lv_iadd hx hb dL_law_1291 ?_
  refine va_sld hx hb hX hbl hbA hS (ix_in 3 rfl hi hL (by decide)) dL_law_1292 ?_
  rw [← hx3]
  refine lv_aload_n hx hb dL_law_1293 rfl (lv_at hl 0 rfl) ?_
  refine lv_iload hx hb dL_law_1294 (lv_at hl 5 rfl) ?_
  refine lv_iconst (v := 4) hx hb dL_law_1296 (by decide) ?_
  refine lv_iadd hx hb dL_law_1297 ?_
  refine va_sld hx hb hX hbl hbA hS (ix_in 4 rfl hi hL (by decide)) dL_law_1298 ?_
  rw [← hx4]
  refine lv_i2d hx hb dL_law_1299 ?_
  refine lv_ldc2d hx hb hown (hts _ cw92) dL_law_1300 ?_
  refine lv_dmul hx hb dL_law_1303 (fR_nn (e8_R x4)) ?_
  rw [← hy4]
  refine lv_aload hx hb dL_law_1304 (lv_at hl 4 rfl) ?_
  have hPc := hP.sub (ws' := [(ax, .inr (1, [.ref ab, .ref aw, .int wl, .double la, .double ea, .int wk, .int fl])), (ad, aD 1 (cA 1) fq)]) [0, 1] rfl
  have hDc := hD.sub (ws' := [(ax, .inr (1, [.ref ab, .ref aw, .int wl, .double la, .double ea, .int wk, .int fl])), (ad, aD 1 (cA 1) fq)]) [0, 1] (by decide) rfl
  have hFc := va_free (wc := [(ax, .inr (1, [.ref ab, .ref aw, .int wl, .double la, .double ea, .int wk, .int fl])), (ad, aD 1 (cA 1) fq)]) hD hS hA [0, 1] rfl
  refine va_calli (vx_runSW (As := [.ref ax, .int x1, .int x2, .int x3, .double y4, .ref ad]) (rest := []) ⟨hx, hb, hml, hown, hts⟩ (k_L_angle l hst dC dI cA tm tt _ ax ab aw wl la ea wk fl ad fq x1 x2 x3 y4 (by rw [hy4]; exact e8_R x4)) (vx_cwSW 6 hts gL_law_L_angle rfl rfl rfl (by decide +kernel) ⟨Nat.le_of_ble_eq_true rfl, Nat.le_of_ble_eq_true rfl⟩) ⟨PcL.blind, PcL.give hPc hK hDc hE hS hFc hN⟩ rfl rfl hl.1 rfl (lv_room (Nat.le_of_ble_eq_true rfl)) dL_law_1306 ⟨(show Cn + 1 ≤ 620239 by omega), (show Sn + 6 ≤ 7235387 by omega)⟩) hS (fun q _ h => hFc q h) hFc (fun r6 u t H locs ht hvm hr6 hB hz1 hk1 hS => ?_)
  subst hr6
  obtain ⟨hP1, hD1⟩ := hB
  rw [ht] at hP1
  obtain ⟨hP, hD⟩ := zj hP hD hk1 hFc hP1 hD1
  have hP : va_P (dC, dI) vwCl ([(ax, .inr (1, [.ref ab, .ref aw, .int wl, .double la, .double ea, .int wk, .int fl])), (ad, aD 1 (cA 1) (oD (f_X1_angle x1 x2 x3 y4) fq))] ++ ([(am, .inr (2, [.int th, .int wk, .int fl, .ref gs, .ref go, .ref gt, .ref gp, .ref gw, .double la, .double ea, .ref gl, .int ln, .int fd]))] ++ R)) H := hP
  have hD : va_D A ([(ax, .inr (1, [.ref ab, .ref aw, .int wl, .double la, .double ea, .int wk, .int fl])), (ad, aD 1 (cA 1) (oD (f_X1_angle x1 x2 x3 y4) fq))] ++ ([(am, .inr (2, [.int th, .int wk, .int fl, .ref gs, .ref go, .ref gt, .ref gp, .ref gw, .double la, .double ea, .ref gl, .int ln, .int fd]))] ++ R)) := hD
  obtain ⟨hP, hD⟩ := sw hP hD
  have hP : va_P (dC, dI) vwCl ([(am, .inr (2, [.int th, .int wk, .int fl, .ref gs, .ref go, .ref gt, .ref gp, .ref gw, .double la, .double ea, .ref gl, .int ln, .int fd]))] ++ ([(ax, .inr (1, [.ref ab, .ref aw, .int wl, .double la, .double ea, .int wk, .int fl])), (ad, aD 1 (cA 1) (oD (f_X1_angle x1 x2 x3 y4) fq))] ++ R)) H := hP
  have hD : va_D A ([(am, .inr (2, [.int th, .int wk, .int fl, .ref gs, .ref go, .ref gt, .ref gp, .ref gw, .double la, .double ea, .ref gl, .int ln, .int fd]))] ++ ([(ax, .inr (1, [.ref ab, .ref aw, .int wl, .double la, .double ea, .int wk, .int fl])), (ad, aD 1 (cA 1) (oD (f_X1_angle x1 x2 x3 y4) fq))] ++ R)) := hD
  refine lv_istore (lv' := [(6, .int (cd1 (f_X1_angle x1 x2 x3 y4))), (0, .ref b), (1, .ref ax), (2, .ref am), (3, .ref ao), (4, .ref ad), (5, .int (nI i))]) hx hb dL_law_1309 hl (by decide) rfl (fun ls hl => ?_)
  refine lv_aload_n hx hb dL_law_1311 rfl (lv_at hl 3 rfl) ?_
  refine lv_aload_n hx hb dL_law_1312 rfl (lv_at hl 1 rfl) ?_
  refine lv_iload hx hb dL_law_1313 (lv_at hl 6 rfl) ?_
  refine lv_iconst (v := 1) hx hb dL_law_1315 (by decide) ?_
  refine lv_iadd hx hb dL_law_1316 ?_
  refine va_sld hx hb hX hbl hbA hS (ix_in 1 rfl hi hL (by decide)) dL_law_1317 ?_
  rw [← hx1]
  refine lv_aload_n hx hb dL_law_1318 rfl (lv_at hl 1 rfl) ?_
  refine lv_iload hx hb dL_law_1319 (lv_at hl 6 rfl) ?_
  refine lv_iconst (v := 2) hx hb dL_law_1321 (by decide) ?_
  refine lv_iadd hx hb dL_law_1322 ?_
  refine va_sld hx hb hX hbl hbA hS (ix_in 2 rfl hi hL (by decide)) dL_law_1323 ?_
  rw [← hx2]
  refine lv_aload_n hx hb dL_law_1324 rfl (lv_at hl 1 rfl) ?_
  refine lv_iload hx hb dL_law_1325 (lv_at hl 6 rfl) ?_
  refine lv_iconst (v := 3) hx hb dL_law_1327 (by decide) ?_
  refine lv_iadd hx hb dL_law_1328 ?_
  refine va_sld hx hb hX hbl hbA hS (ix_in 3 rfl hi hL (by decide)) dL_law_1329 ?_
  rw [← hx3]
  refine lv_aload_n hx hb dL_law_1330 rfl (lv_at hl 1 rfl) ?_
  refine lv_iload hx hb dL_law_1331 (lv_at hl 6 rfl) ?_
  refine lv_iconst (v := 4) hx hb dL_law_1333 (by decide) ?_
  refine lv_iadd hx hb dL_law_1334 ?_
  refine va_sld hx hb hX hbl hbA hS (ix_in 4 rfl hi hL (by decide)) dL_law_1335 ?_
  rw [← hx4]
  refine lv_i2d hx hb dL_law_1336 ?_
  refine lv_ldc2d hx hb hown (hts _ cw92) dL_law_1337 ?_
  refine lv_dmul hx hb dL_law_1340 (fR_nn (e8_R x4)) ?_
  rw [← hy4]
  have hPc := hP.sub (ws' := [(am, .inr (2, [.int th, .int wk, .int fl, .ref gs, .ref go, .ref gt, .ref gp, .ref gw, .double la, .double ea, .ref gl, .int ln, .int fd]))]) [0] rfl
  have hDc := hD.sub (ws' := [(am, .inr (2, [.int th, .int wk, .int fl, .ref gs, .ref go, .ref gt, .ref gp, .ref gw, .double la, .double ea, .ref gl, .int ln, .int fd]))]) [0] (by decide) rfl
  have hFc := va_free (wc := [(am, .inr (2, [.int th, .int wk, .int fl, .ref gs, .ref go, .ref gt, .ref gp, .ref gw, .double la, .double ea, .ref gl, .int ln, .int fd]))]) hD hS hA [0] rfl
  refine va_calld (va_runV (As := [.int x1, .int x2, .int x3, .double y4]) (rest := []) ⟨hx, hb, hml, hown, hts⟩ (k_X2_angle l hst dC dI cA tm tt _ am gs go gt gp gw gl th wk fl la ea ln fd x1 x2 x3 y4 (by rw [hy4]; exact e8_R x4)) (cwV 4 hts gL_law_X2_angle rfl rfl rfl (by decide +kernel) ⟨Nat.le_of_ble_eq_true rfl, Nat.le_of_ble_eq_true rfl⟩) ⟨PcW.blind, va_recv hK hPc (ci := 2) (q0 := 0) rfl rfl, PcW.give hPc hK hDc hE hS hFc⟩ rfl rfl hl.1 rfl (lv_room (Nat.le_of_ble_eq_true rfl)) dL_law_1341 ⟨(show Cn + 1 ≤ 620239 by omega), (show Sn + 6 ≤ 7235387 by omega)⟩) hS (fun q _ h => hFc q h) hFc (fun r7 u t H locs ht hvm hr7 hB hz1 hk1 hS => ?_)
  subst hr7
  obtain ⟨hP1, hD1⟩ := hB
  rw [ht] at hP1
  obtain ⟨hP, hD⟩ := zj hP hD hk1 hFc hP1 hD1
  have hP : va_P (dC, dI) vwCl ([(am, .inr (2, [.int ((f_X2_angle  x1 x2 x3 y4).2), .int wk, .int fl, .ref gs, .ref go, .ref gt, .ref gp, .ref gw, .double la, .double ea, .ref gl, .int ln, .int fd]))] ++ ([(ax, .inr (1, [.ref ab, .ref aw, .int wl, .double la, .double ea, .int wk, .int fl])), (ad, aD 1 (cA 1) (oD (f_X1_angle x1 x2 x3 y4) fq))] ++ R)) H := hP
  have hD : va_D A ([(am, .inr (2, [.int ((f_X2_angle  x1 x2 x3 y4).2), .int wk, .int fl, .ref gs, .ref go, .ref gt, .ref gp, .ref gw, .double la, .double ea, .ref gl, .int ln, .int fd]))] ++ ([(ax, .inr (1, [.ref ab, .ref aw, .int wl, .double la, .double ea, .int wk, .int fl])), (ad, aD 1 (cA 1) (oD (f_X1_angle x1 x2 x3 y4) fq))] ++ R)) := hD
  refine lv_dstore (lv' := [(7, .double ((f_X2_angle  x1 x2 x3 y4).1)), (6, .int (cd1 (f_X1_angle x1 x2 x3 y4))), (0, .ref b), (1, .ref ax), (2, .ref am), (3, .ref ao), (4, .ref ad), (5, .int (nI i))]) hx hb dL_law_1344 hl (by decide) rfl (fun ls hl => ?_)
  refine lv_aload_n hx hb dL_law_1346 rfl (lv_at hl 4 rfl) ?_
  have hPc := hP.sub (ws' := [(am, .inr (2, [.int ((f_X2_angle  x1 x2 x3 y4).2), .int wk, .int fl, .ref gs, .ref go, .ref gt, .ref gp, .ref gw, .double la, .double ea, .ref gl, .int ln, .int fd]))]) [0] rfl
  refine vp_callSi (W.runV (As := []) (rest := []) ⟨hx, hb, hml, hown, hts⟩ (k_X2_thrown l dC dI cA tm tt am gs go gt gp gw gl ((f_X2_angle  x1 x2 x3 y4).2) wk fl la ea ln fd) (cwV 0 hts gL_law_X2_thrown rfl rfl rfl (by decide +kernel) ⟨Nat.le_of_ble_eq_true rfl, Nat.le_of_ble_eq_true rfl⟩) ⟨PcO.blind, va_recv hK hPc (ci := 2) (q0 := 0) rfl rfl, PcO.give hPc hK hE hS⟩ rfl rfl hl.1 rfl (lv_room (Nat.le_of_ble_eq_true rfl)) dL_law_1347 ⟨(show Cn + 1 ≤ 620239 by omega), (show Sn + 6 ≤ 7235387 by omega)⟩) (fun r hr9 => ?_)
  obtain rfl := hr9
  refine lv_iload hx hb dL_law_1350 (lv_at hl 1 rfl) ?_
  refine lv_icmp_eq (tgt := 1357) hx hb dL_law_1352 (by decide) (fun _ => ?_) (fun c_1 => absurd c_1 (fun h => h e9.1))
  refine lv_iload hx hb dL_law_1357 (lv_at hl 1 rfl) ?_
  refine lv_if_ne (tgt := 1394) hx hb dL_law_1359 (by decide) (fun c_2 => ?_) (fun c_2 => ?_)
  · refine lv_goto (tgt := 1438) hx hb dL_law_1394 (by decide) ?_
    obtain ⟨hP, hD⟩ := sw hP hD
    have hP : va_P (dC, dI) vwCl ([(ax, .inr (1, [.ref ab, .ref aw, .int wl, .double la, .double ea, .int wk, .int fl])), (ad, aD 1 (cA 1) (oD (f_X1_angle x1 x2 x3 y4) fq))] ++ ([(am, .inr (2, [.int ((f_X2_angle  x1 x2 x3 y4).2), .int wk, .int fl, .ref gs, .ref go, .ref gt, .ref gp, .ref gw, .double la, .double ea, .ref gl, .int ln, .int fd]))] ++ R)) H := hP
    have hD : va_D A ([(ax, .inr (1, [.ref ab, .ref aw, .int wl, .double la, .double ea, .int wk, .int fl])), (ad, aD 1 (cA 1) (oD (f_X1_angle x1 x2 x3 y4) fq))] ++ ([(am, .inr (2, [.int ((f_X2_angle  x1 x2 x3 y4).2), .int wk, .int fl, .ref gs, .ref go, .ref gt, .ref gp, .ref gw, .double la, .double ea, .ref gl, .int ln, .int fd]))] ++ R)) := hD
    refine W.widen (k := Cn + 66) (n := Sn + 396) (by omega) (by omega) ?_
    exact kk _ _ _ hP hD hS (lv_sub hl [2, 3, 4, 5, 6, 7] rfl)
  · obtain ⟨v9, hv9⟩ := cd1_ok0 c_2
    have e7 : (f_X2_angle  x1 x2 x3 y4).1 = v9 := e9.2 v9 hv9
    refine lv_aload hx hb dL_law_1362 (lv_at hl 6 rfl) ?_
    refine lv_iconst (v := 0) hx hb dL_law_1364 (by decide) ?_
    refine va_dald hx hb hK hP 2 1 rfl rfl (show ¬ ((0 : Int32) < 0 ∨ 1 ≤ (0 : Int32).toNatClampNeg) by decide +kernel) dL_law_1365 ?_
    rw [show (oD (f_X1_angle x1 x2 x3 y4) fq) ((0 : Int32).toNatClampNeg) = v9 from by rw [cl0]; exact oD_0 hv9]
    refine lv_dload hx hb dL_law_1366 (lv_at hl 0 rfl) ?_
    refine zd_l_eq (tgt := 1394) hx hb dL_law_1368 dL_law_1369 (by decide) (fun c_3 => ?_) (fun c_3 => ?_)
    · refine lv_goto (tgt := 1438) hx hb dL_law_1394 (by decide) ?_
      obtain ⟨hP, hD⟩ := sw hP hD
      have hP : va_P (dC, dI) vwCl ([(ax, .inr (1, [.ref ab, .ref aw, .int wl, .double la, .double ea, .int wk, .int fl])), (ad, aD 1 (cA 1) (oD (f_X1_angle x1 x2 x3 y4) fq))] ++ ([(am, .inr (2, [.int ((f_X2_angle  x1 x2 x3 y4).2), .int wk, .int fl, .ref gs, .ref go, .ref gt, .ref gp, .ref gw, .double la, .double ea, .ref gl, .int ln, .int fd]))] ++ R)) H := hP
      have hD : va_D A ([(ax, .inr (1, [.ref ab, .ref aw, .int wl, .double la, .double ea, .int wk, .int fl])), (ad, aD 1 (cA 1) (oD (f_X1_angle x1 x2 x3 y4) fq))] ++ ([(am, .inr (2, [.int ((f_X2_angle  x1 x2 x3 y4).2), .int wk, .int fl, .ref gs, .ref go, .ref gt, .ref gp, .ref gw, .double la, .double ea, .ref gl, .int ln, .int fd]))] ++ R)) := hD
      refine W.widen (k := Cn + 66) (n := Sn + 396) (by omega) (by omega) ?_
      exact kk _ _ _ hP hD hS (lv_sub hl [2, 3, 4, 5, 6, 7] rfl)
    · refine lv_aload hx hb dL_law_1372 (lv_at hl 6 rfl) ?_
      refine lv_iconst (v := 0) hx hb dL_law_1374 (by decide) ?_
      refine va_dald hx hb hK hP 2 1 rfl rfl (show ¬ ((0 : Int32) < 0 ∨ 1 ≤ (0 : Int32).toNatClampNeg) by decide +kernel) dL_law_1375 ?_
      rw [show (oD (f_X1_angle x1 x2 x3 y4) fq) ((0 : Int32).toNatClampNeg) = v9 from by rw [cl0]; exact oD_0 hv9]
      refine lv_aload hx hb dL_law_1376 (lv_at hl 6 rfl) ?_
      refine lv_iconst (v := 0) hx hb dL_law_1378 (by decide) ?_
      refine va_dald hx hb hK hP 2 1 rfl rfl (show ¬ ((0 : Int32) < 0 ∨ 1 ≤ (0 : Int32).toNatClampNeg) by decide +kernel) dL_law_1379 ?_
      rw [show (oD (f_X1_angle x1 x2 x3 y4) fq) ((0 : Int32).toNatClampNeg) = v9 from by rw [cl0]; exact oD_0 hv9]
      refine zd_l_eq (tgt := 1392) hx hb dL_law_1380 dL_law_1381 (by decide) (fun c_4 => absurd c_4 (dq_1 e7 c_3)) (fun _ => ?_)
      refine lv_dload hx hb dL_law_1384 (lv_at hl 0 rfl) ?_
      refine lv_dload hx hb dL_law_1386 (lv_at hl 0 rfl) ?_
      refine zd_l_ne (tgt := 1394) hx hb dL_law_1388 dL_law_1389 (by decide) (fun _ => ?_) (fun c_5 => absurd c_5 (dq_2 e7 c_3))
      refine lv_goto (tgt := 1438) hx hb dL_law_1394 (by decide) ?_
      obtain ⟨hP, hD⟩ := sw hP hD
      have hP : va_P (dC, dI) vwCl ([(ax, .inr (1, [.ref ab, .ref aw, .int wl, .double la, .double ea, .int wk, .int fl])), (ad, aD 1 (cA 1) (oD (f_X1_angle x1 x2 x3 y4) fq))] ++ ([(am, .inr (2, [.int ((f_X2_angle  x1 x2 x3 y4).2), .int wk, .int fl, .ref gs, .ref go, .ref gt, .ref gp, .ref gw, .double la, .double ea, .ref gl, .int ln, .int fd]))] ++ R)) H := hP
      have hD : va_D A ([(ax, .inr (1, [.ref ab, .ref aw, .int wl, .double la, .double ea, .int wk, .int fl])), (ad, aD 1 (cA 1) (oD (f_X1_angle x1 x2 x3 y4) fq))] ++ ([(am, .inr (2, [.int ((f_X2_angle  x1 x2 x3 y4).2), .int wk, .int fl, .ref gs, .ref go, .ref gt, .ref gp, .ref gw, .double la, .double ea, .ref gl, .int ln, .int fd]))] ++ R)) := hD
      refine W.widen (k := Cn + 66) (n := Sn + 396) (by omega) (by omega) ?_
      exact kk _ _ _ hP hD hS (lv_sub hl [2, 3, 4, 5, 6, 7] rfl)
set_option maxHeartbeats 4000000 in
set_option maxRecDepth 100000 in
theorem cs_date {p : Program} {l : Launch} {e : Env} {s : State} {m : MethodId} {below : List Frame} {meth : Method} {c : Code} {b L : Nat} {xs : Nat → Int32} {Q : State → Prop} {A : Nat → Prop} {dC : Nat → ClassId} {dI : Nat → Nat → Nat} {cA : Nat → ClassId} {tm tt i Cn Sn : Nat} (hst : l.stackTraces = false) (C0 : LX p s m c b L xs dC dI cA tm tt A) (hi : i + 6 ≤ L) (hL : L ≤ 3072) (hC : Cn + 66 ≤ 620239) (hSn : Sn + 396 ≤ 7235387) (ax ab aw : Nat) (wl : Int32) (la ea : UInt64) (wk fl : Int32) (am gs go gt gp gw gl : Nat) (th : Int32) (ln fd : Int32) (ao ad : Nat) (fo : Nat → Int64) (x1 : Int32) (hx1 : x1 = xs (Int32.toNatClampNeg (nI i + 1))) (x2 : Int32) (hx2 : x2 = xs (Int32.toNatClampNeg (nI i + 2))) (x3 : Int32) (hx3 : x3 = xs (Int32.toNatClampNeg (nI i + 3))) (x4 : Int32) (hx4 : x4 = xs (Int32.toNatClampNeg (nI i + 4))) (z : Int64) (hz : z = (Int32.toInt64 x2 <<< (Int32.toInt64 32 &&& 63)) ||| (Int32.toInt64 x3 &&& 4294967295)) (R : va_W) {H : Heap} {locs : List Loc} {ls : Array Slot} (hP : va_P (dC, dI) vwCl ([(ax, .inr (1, [.ref ab, .ref aw, .int wl, .double la, .double ea, .int wk, .int fl])), (ao, aL 1 (cA 5) fo)] ++ ([(am, .inr (2, [.int th, .int wk, .int fl, .ref gs, .ref go, .ref gt, .ref gp, .ref gw, .double la, .double ea, .ref gl, .int ln, .int fd]))] ++ R)) H) (hD : va_D A ([(ax, .inr (1, [.ref ab, .ref aw, .int wl, .double la, .double ea, .int wk, .int fl])), (ao, aL 1 (cA 5) fo)] ++ ([(am, .inr (2, [.int th, .int wk, .int fl, .ref gs, .ref go, .ref gt, .ref gp, .ref gw, .double la, .double ea, .ref gl, .int ln, .int fd]))] ++ R))) (hS : va_S A s.heap H locs) (hl : lv_has ls 9 [(0, .ref b), (1, .ref ax), (2, .ref am), (3, .ref ao), (4, .ref ad), (5, .int (nI i))])
    (kk : ∀ (H : Heap) (locs : List Loc) (ls : Array Slot), va_P (dC, dI) vwCl ([(ax, .inr (1, [.ref ab, .ref aw, .int wl, .double la, .double ea, .int wk, .int fl])), (ao, aL 1 (cA 5) (oJ (f_X1_date x1 z x4) Int32.toInt64 fo))] ++ ([(am, .inr (2, [.int (cd1 (f_X1_date x1 z x4)), .int wk, .int fl, .ref gs, .ref go, .ref gt, .ref gp, .ref gw, .double la, .double ea, .ref gl, .int ln, .int fd]))] ++ R)) H → va_D A ([(ax, .inr (1, [.ref ab, .ref aw, .int wl, .double la, .double ea, .int wk, .int fl])), (ao, aL 1 (cA 5) (oJ (f_X1_date x1 z x4) Int32.toInt64 fo))] ++ ([(am, .inr (2, [.int (cd1 (f_X1_date x1 z x4)), .int wk, .int fl, .ref gs, .ref go, .ref gt, .ref gp, .ref gw, .double la, .double ea, .ref gl, .int ln, .int fd]))] ++ R)) → va_S A s.heap H locs → lv_has ls 9 [(0, .ref b), (1, .ref ax), (2, .ref am), (3, .ref ao), (4, .ref ad), (5, .int (nI i))] → W p l e room_1 s m #[Value.ref b] below meth c H locs (Cn + 66) (Sn + 396) Q (F0 m 1438 ls []))
    : W p l e room_1 s m #[Value.ref b] below meth c H locs Cn Sn Q (F0 m 207 ls []) := by
  obtain ⟨hx, hb, hml, hown, hts, hX, hbl, hbA, hA, hE, hN, hK⟩ := C0
  refine lv_aload_n hx hb dL_law_207 rfl (lv_at hl 1 rfl) ?_
  refine lv_aload_n hx hb dL_law_208 rfl (lv_at hl 0 rfl) ?_
  refine lv_iload hx hb dL_law_209 (lv_at hl 5 rfl) ?_
  refine lv_iconst (v := 1) hx hb dL_law_211 (by decide) ?_
  refine lv_iadd hx hb dL_law_212 ?_
  refine va_sld hx hb hX hbl hbA hS (ix_in 1 rfl hi hL (by decide)) dL_law_213 ?_
  rw [← hx1]
  refine lv_aload_n hx hb dL_law_214 rfl (lv_at hl 0 rfl) ?_
  refine lv_iload hx hb dL_law_215 (lv_at hl 5 rfl) ?_
  refine lv_iconst (v := 2) hx hb dL_law_217 (by decide) ?_
  refine lv_iadd hx hb dL_law_218 ?_
  refine va_sld hx hb hX hbl hbA hS (ix_in 2 rfl hi hL (by decide)) dL_law_219 ?_
  rw [← hx2]
  refine lv_i2l hx hb dL_law_220 rfl ?_
  refine lv_bipush (v := 32) hx hb dL_law_221 (by decide) ?_
  refine lv_lshl hx hb dL_law_223 rfl ?_
  refine lv_aload_n hx hb dL_law_224 rfl (lv_at hl 0 rfl) ?_
  refine lv_iload hx hb dL_law_225 (lv_at hl 5 rfl) ?_
  refine lv_iconst (v := 3) hx hb dL_law_227 (by decide) ?_
  refine lv_iadd hx hb dL_law_228 ?_
  refine va_sld hx hb hX hbl hbA hS (ix_in 3 rfl hi hL (by decide)) dL_law_229 ?_
  rw [← hx3]
  refine lv_i2l hx hb dL_law_230 rfl ?_
  refine lv_ldc2 hx hb hown (hts _ cw82) dL_law_231 ?_
  refine lv_land hx hb dL_law_234 ?_
  refine lv_lor hx hb dL_law_235 ?_
  rw [← hz]
  refine lv_aload_n hx hb dL_law_236 rfl (lv_at hl 0 rfl) ?_
  refine lv_iload hx hb dL_law_237 (lv_at hl 5 rfl) ?_
  refine lv_iconst (v := 4) hx hb dL_law_239 (by decide) ?_
  refine lv_iadd hx hb dL_law_240 ?_
  refine va_sld hx hb hX hbl hbA hS (ix_in 4 rfl hi hL (by decide)) dL_law_241 ?_
  rw [← hx4]
  refine lv_aload_n hx hb dL_law_242 rfl (lv_at hl 3 rfl) ?_
  have hPc := hP.sub (ws' := [(ax, .inr (1, [.ref ab, .ref aw, .int wl, .double la, .double ea, .int wk, .int fl])), (ao, aL 1 (cA 5) fo)]) [0, 1] rfl
  have hDc := hD.sub (ws' := [(ax, .inr (1, [.ref ab, .ref aw, .int wl, .double la, .double ea, .int wk, .int fl])), (ao, aL 1 (cA 5) fo)]) [0, 1] (by decide) rfl
  have hFc := va_free (wc := [(ax, .inr (1, [.ref ab, .ref aw, .int wl, .double la, .double ea, .int wk, .int fl])), (ao, aL 1 (cA 5) fo)]) hD hS hA [0, 1] rfl
  refine va_calli (vx_runSW (As := [.ref ax, .int x1, .long z, .int x4, .ref ao]) (rest := []) ⟨hx, hb, hml, hown, hts⟩ (k_L_date l hst dC dI cA tm tt _ ax ab aw wl la ea wk fl ao fo x1 z x4) (vx_cwSW 5 hts gL_law_L_date rfl rfl rfl (by decide +kernel) ⟨Nat.le_of_ble_eq_true rfl, Nat.le_of_ble_eq_true rfl⟩) ⟨PcL.blind, PcL.give hPc hK hDc hE hS hFc hN⟩ rfl rfl hl.1 rfl (lv_room (Nat.le_of_ble_eq_true rfl)) dL_law_243 ⟨(show Cn + 1 ≤ 620239 by omega), (show Sn + 6 ≤ 7235387 by omega)⟩) hS (fun q _ h => hFc q h) hFc (fun r6 u t H locs ht hvm hr6 hB hz1 hk1 hS => ?_)
  subst hr6
  obtain ⟨hP1, hD1⟩ := hB
  rw [ht] at hP1
  obtain ⟨hP, hD⟩ := zj hP hD hk1 hFc hP1 hD1
  have hP : va_P (dC, dI) vwCl ([(ax, .inr (1, [.ref ab, .ref aw, .int wl, .double la, .double ea, .int wk, .int fl])), (ao, aL 1 (cA 5) (oJ (f_X1_date x1 z x4) Int32.toInt64 fo))] ++ ([(am, .inr (2, [.int th, .int wk, .int fl, .ref gs, .ref go, .ref gt, .ref gp, .ref gw, .double la, .double ea, .ref gl, .int ln, .int fd]))] ++ R)) H := hP
  have hD : va_D A ([(ax, .inr (1, [.ref ab, .ref aw, .int wl, .double la, .double ea, .int wk, .int fl])), (ao, aL 1 (cA 5) (oJ (f_X1_date x1 z x4) Int32.toInt64 fo))] ++ ([(am, .inr (2, [.int th, .int wk, .int fl, .ref gs, .ref go, .ref gt, .ref gp, .ref gw, .double la, .double ea, .ref gl, .int ln, .int fd]))] ++ R)) := hD
  obtain ⟨hP, hD⟩ := sw hP hD
  have hP : va_P (dC, dI) vwCl ([(am, .inr (2, [.int th, .int wk, .int fl, .ref gs, .ref go, .ref gt, .ref gp, .ref gw, .double la, .double ea, .ref gl, .int ln, .int fd]))] ++ ([(ax, .inr (1, [.ref ab, .ref aw, .int wl, .double la, .double ea, .int wk, .int fl])), (ao, aL 1 (cA 5) (oJ (f_X1_date x1 z x4) Int32.toInt64 fo))] ++ R)) H := hP
  have hD : va_D A ([(am, .inr (2, [.int th, .int wk, .int fl, .ref gs, .ref go, .ref gt, .ref gp, .ref gw, .double la, .double ea, .ref gl, .int ln, .int fd]))] ++ ([(ax, .inr (1, [.ref ab, .ref aw, .int wl, .double la, .double ea, .int wk, .int fl])), (ao, aL 1 (cA 5) (oJ (f_X1_date x1 z x4) Int32.toInt64 fo))] ++ R)) := hD
  refine lv_istore (lv' := [(6, .int (cd1 (f_X1_date x1 z x4))), (0, .ref b), (1, .ref ax), (2, .ref am), (3, .ref ao), (4, .ref ad), (5, .int (nI i))]) hx hb dL_law_246 hl (by decide) rfl (fun ls hl => ?_)
  refine lv_aload_n hx hb dL_law_248 rfl (lv_at hl 3 rfl) ?_
  refine lv_aload_n hx hb dL_law_249 rfl (lv_at hl 1 rfl) ?_
  refine lv_iload hx hb dL_law_250 (lv_at hl 6 rfl) ?_
  refine lv_iconst (v := 1) hx hb dL_law_252 (by decide) ?_
  refine lv_iadd hx hb dL_law_253 ?_
  refine va_sld hx hb hX hbl hbA hS (ix_in 1 rfl hi hL (by decide)) dL_law_254 ?_
  rw [← hx1]
  refine lv_aload_n hx hb dL_law_255 rfl (lv_at hl 1 rfl) ?_
  refine lv_iload hx hb dL_law_256 (lv_at hl 6 rfl) ?_
  refine lv_iconst (v := 2) hx hb dL_law_258 (by decide) ?_
  refine lv_iadd hx hb dL_law_259 ?_
  refine va_sld hx hb hX hbl hbA hS (ix_in 2 rfl hi hL (by decide)) dL_law_260 ?_
  rw [← hx2]
  refine lv_i2l hx hb dL_law_261 rfl ?_
  refine lv_bipush (v := 32) hx hb dL_law_262 (by decide) ?_
  refine lv_lshl hx hb dL_law_264 rfl ?_
  refine lv_aload_n hx hb dL_law_265 rfl (lv_at hl 1 rfl) ?_
  refine lv_iload hx hb dL_law_266 (lv_at hl 6 rfl) ?_
  refine lv_iconst (v := 3) hx hb dL_law_268 (by decide) ?_
  refine lv_iadd hx hb dL_law_269 ?_
  refine va_sld hx hb hX hbl hbA hS (ix_in 3 rfl hi hL (by decide)) dL_law_270 ?_
  rw [← hx3]
  refine lv_i2l hx hb dL_law_271 rfl ?_
  refine lv_ldc2 hx hb hown (hts _ cw82) dL_law_272 ?_
  refine lv_land hx hb dL_law_275 ?_
  refine lv_lor hx hb dL_law_276 ?_
  rw [← hz]
  refine lv_aload_n hx hb dL_law_277 rfl (lv_at hl 1 rfl) ?_
  refine lv_iload hx hb dL_law_278 (lv_at hl 6 rfl) ?_
  refine lv_iconst (v := 4) hx hb dL_law_280 (by decide) ?_
  refine lv_iadd hx hb dL_law_281 ?_
  refine va_sld hx hb hX hbl hbA hS (ix_in 4 rfl hi hL (by decide)) dL_law_282 ?_
  rw [← hx4]
  have hPc := hP.sub (ws' := [(am, .inr (2, [.int th, .int wk, .int fl, .ref gs, .ref go, .ref gt, .ref gp, .ref gw, .double la, .double ea, .ref gl, .int ln, .int fd]))]) [0] rfl
  have hDc := hD.sub (ws' := [(am, .inr (2, [.int th, .int wk, .int fl, .ref gs, .ref go, .ref gt, .ref gp, .ref gw, .double la, .double ea, .ref gl, .int ln, .int fd]))]) [0] (by decide) rfl
  have hFc := va_free (wc := [(am, .inr (2, [.int th, .int wk, .int fl, .ref gs, .ref go, .ref gt, .ref gp, .ref gw, .double la, .double ea, .ref gl, .int ln, .int fd]))]) hD hS hA [0] rfl
  refine va_calli (va_runV (As := [.int x1, .long z, .int x4]) (rest := []) ⟨hx, hb, hml, hown, hts⟩ (k_X2_date l hst dC dI cA tm tt _ am gs go gt gp gw gl th wk fl la ea ln fd x1 z x4) (cwV 3 hts gL_law_X2_date rfl rfl rfl (by decide +kernel) ⟨Nat.le_of_ble_eq_true rfl, Nat.le_of_ble_eq_true rfl⟩) ⟨PcW.blind, va_recv hK hPc (ci := 2) (q0 := 0) rfl rfl, PcW.give hPc hK hDc hE hS hFc⟩ rfl rfl hl.1 rfl (lv_room (Nat.le_of_ble_eq_true rfl)) dL_law_283 ⟨(show Cn + 1 ≤ 620239 by omega), (show Sn + 6 ≤ 7235387 by omega)⟩) hS (fun q _ h => hFc q h) hFc (fun r7 u t H locs ht hvm hr7 hB hz1 hk1 hS => ?_)
  obtain ⟨hP1, hD1⟩ := hB
  rw [ht] at hP1
  obtain ⟨hP, hD⟩ := zj hP hD hk1 hFc hP1 hD1
  have hP : va_P (dC, dI) vwCl ([(am, .inr (2, [.int (cd1 (f_X1_date x1 z x4)), .int wk, .int fl, .ref gs, .ref go, .ref gt, .ref gp, .ref gw, .double la, .double ea, .ref gl, .int ln, .int fd]))] ++ ([(ax, .inr (1, [.ref ab, .ref aw, .int wl, .double la, .double ea, .int wk, .int fl])), (ao, aL 1 (cA 5) (oJ (f_X1_date x1 z x4) Int32.toInt64 fo))] ++ R)) H := hP
  have hD : va_D A ([(am, .inr (2, [.int (cd1 (f_X1_date x1 z x4)), .int wk, .int fl, .ref gs, .ref go, .ref gt, .ref gp, .ref gw, .double la, .double ea, .ref gl, .int ln, .int fd]))] ++ ([(ax, .inr (1, [.ref ab, .ref aw, .int wl, .double la, .double ea, .int wk, .int fl])), (ao, aL 1 (cA 5) (oJ (f_X1_date x1 z x4) Int32.toInt64 fo))] ++ R)) := hD
  refine lv_istore (lv' := [(7, .int r7), (6, .int (cd1 (f_X1_date x1 z x4))), (0, .ref b), (1, .ref ax), (2, .ref am), (3, .ref ao), (4, .ref ad), (5, .int (nI i))]) hx hb dL_law_286 hl (by decide) rfl (fun ls hl => ?_)
  refine lv_aload_n hx hb dL_law_288 rfl (lv_at hl 4 rfl) ?_
  have hPc := hP.sub (ws' := [(am, .inr (2, [.int (cd1 (f_X1_date x1 z x4)), .int wk, .int fl, .ref gs, .ref go, .ref gt, .ref gp, .ref gw, .double la, .double ea, .ref gl, .int ln, .int fd]))]) [0] rfl
  refine vp_callSi (W.runV (As := []) (rest := []) ⟨hx, hb, hml, hown, hts⟩ (k_X2_thrown l dC dI cA tm tt am gs go gt gp gw gl (cd1 (f_X1_date x1 z x4)) wk fl la ea ln fd) (cwV 0 hts gL_law_X2_thrown rfl rfl rfl (by decide +kernel) ⟨Nat.le_of_ble_eq_true rfl, Nat.le_of_ble_eq_true rfl⟩) ⟨PcO.blind, va_recv hK hPc (ci := 2) (q0 := 0) rfl rfl, PcO.give hPc hK hE hS⟩ rfl rfl hl.1 rfl (lv_room (Nat.le_of_ble_eq_true rfl)) dL_law_289 ⟨(show Cn + 1 ≤ 620239 by omega), (show Sn + 6 ≤ 7235387 by omega)⟩) (fun r hr9 => ?_)
  obtain rfl := hr9
  refine lv_iload hx hb dL_law_292 (lv_at hl 1 rfl) ?_
  refine lv_icmp_eq (tgt := 299) hx hb dL_law_294 (by decide) (fun _ => ?_) (fun c_1 => absurd c_1 (fun h => h rfl))
  refine lv_iload hx hb dL_law_299 (lv_at hl 1 rfl) ?_
  refine lv_if_ne (tgt := 316) hx hb dL_law_301 (by decide) (fun c_2 => ?_) (fun c_2 => ?_)
  · refine lv_goto (tgt := 1438) hx hb dL_law_316 (by decide) ?_
    obtain ⟨hP, hD⟩ := sw hP hD
    have hP : va_P (dC, dI) vwCl ([(ax, .inr (1, [.ref ab, .ref aw, .int wl, .double la, .double ea, .int wk, .int fl])), (ao, aL 1 (cA 5) (oJ (f_X1_date x1 z x4) Int32.toInt64 fo))] ++ ([(am, .inr (2, [.int (cd1 (f_X1_date x1 z x4)), .int wk, .int fl, .ref gs, .ref go, .ref gt, .ref gp, .ref gw, .double la, .double ea, .ref gl, .int ln, .int fd]))] ++ R)) H := hP
    have hD : va_D A ([(ax, .inr (1, [.ref ab, .ref aw, .int wl, .double la, .double ea, .int wk, .int fl])), (ao, aL 1 (cA 5) (oJ (f_X1_date x1 z x4) Int32.toInt64 fo))] ++ ([(am, .inr (2, [.int (cd1 (f_X1_date x1 z x4)), .int wk, .int fl, .ref gs, .ref go, .ref gt, .ref gp, .ref gw, .double la, .double ea, .ref gl, .int ln, .int fd]))] ++ R)) := hD
    refine W.widen (k := Cn + 66) (n := Sn + 396) (by omega) (by omega) ?_
    exact kk _ _ _ hP hD hS (lv_sub hl [2, 3, 4, 5, 6, 7] rfl)
  · obtain ⟨v9, hv9⟩ := cd1_ok0 c_2
    have e7 : r7 = v9 := hr7 v9 hv9
    refine lv_aload_n hx hb dL_law_304 rfl (lv_at hl 5 rfl) ?_
    refine lv_iconst (v := 0) hx hb dL_law_305 (by decide) ?_
    refine va_lald hx hb hK hP 2 5 rfl rfl (show ¬ ((0 : Int32) < 0 ∨ 1 ≤ (0 : Int32).toNatClampNeg) by decide +kernel) dL_law_306 ?_
    rw [show (oJ (f_X1_date x1 z x4) Int32.toInt64 fo) ((0 : Int32).toNatClampNeg) = Int32.toInt64 v9 from by rw [cl0]; exact oJ_0 hv9]
    refine lv_iload hx hb dL_law_307 (lv_at hl 0 rfl) ?_
    refine lv_i2l hx hb dL_law_309 rfl ?_
    refine zl_eq (tgt := 316) hx hb dL_law_310 dL_law_311 (by decide) (fun _ => ?_) (fun c_3 => absurd c_3 (fun h => h (by rw [e7])))
    refine lv_goto (tgt := 1438) hx hb dL_law_316 (by decide) ?_
    obtain ⟨hP, hD⟩ := sw hP hD
    have hP : va_P (dC, dI) vwCl ([(ax, .inr (1, [.ref ab, .ref aw, .int wl, .double la, .double ea, .int wk, .int fl])), (ao, aL 1 (cA 5) (oJ (f_X1_date x1 z x4) Int32.toInt64 fo))] ++ ([(am, .inr (2, [.int (cd1 (f_X1_date x1 z x4)), .int wk, .int fl, .ref gs, .ref go, .ref gt, .ref gp, .ref gw, .double la, .double ea, .ref gl, .int ln, .int fd]))] ++ R)) H := hP
    have hD : va_D A ([(ax, .inr (1, [.ref ab, .ref aw, .int wl, .double la, .double ea, .int wk, .int fl])), (ao, aL 1 (cA 5) (oJ (f_X1_date x1 z x4) Int32.toInt64 fo))] ++ ([(am, .inr (2, [.int (cd1 (f_X1_date x1 z x4)), .int wk, .int fl, .ref gs, .ref go, .ref gt, .ref gp, .ref gw, .double la, .double ea, .ref gl, .int ln, .int fd]))] ++ R)) := hD
    refine W.widen (k := Cn + 66) (n := Sn + 396) (by omega) (by omega) ?_
    exact kk _ _ _ hP hD hS (lv_sub hl [2, 3, 4, 5, 6, 7] rfl)
set_option maxHeartbeats 4000000 in
set_option maxRecDepth 100000 in
theorem cs_observer {p : Program} {l : Launch} {e : Env} {s : State} {m : MethodId} {below : List Frame} {meth : Method} {c : Code} {b L : Nat} {xs : Nat → Int32} {Q : State → Prop} {A : Nat → Prop} {dC : Nat → ClassId} {dI : Nat → Nat → Nat} {cA : Nat → ClassId} {tm tt i Cn Sn : Nat} (hst : l.stackTraces = false) (C0 : LX p s m c b L xs dC dI cA tm tt A) (hi : i + 6 ≤ L) (hL : L ≤ 3072) (hC : Cn + 66 ≤ 620239) (hSn : Sn + 396 ≤ 7235387) (ax ab aw : Nat) (wl : Int32) (la ea : UInt64) (wk fl : Int32) (am gs go gt gp gw gl : Nat) (th : Int32) (ln fd : Int32) (ao ad : Nat) (fo : Nat → Int64) (x1 : Int32) (hx1 : x1 = xs (Int32.toNatClampNeg (nI i + 1))) (x2 : Int32) (hx2 : x2 = xs (Int32.toNatClampNeg (nI i + 2))) (y1 : UInt64) (hy1 : y1 = FP.dmul (FP.i2d x1) 4593671619917905920) (y2 : UInt64) (hy2 : y2 = FP.dmul (FP.i2d x2) 4593671619917905920)  (R : va_W) {H : Heap} {locs : List Loc} {ls : Array Slot} (hP : va_P (dC, dI) vwCl ([(ax, .inr (1, [.ref ab, .ref aw, .int wl, .double la, .double ea, .int wk, .int fl])), (ao, aL 1 (cA 5) fo)] ++ ([(am, .inr (2, [.int th, .int wk, .int fl, .ref gs, .ref go, .ref gt, .ref gp, .ref gw, .double la, .double ea, .ref gl, .int ln, .int fd]))] ++ R)) H) (hD : va_D A ([(ax, .inr (1, [.ref ab, .ref aw, .int wl, .double la, .double ea, .int wk, .int fl])), (ao, aL 1 (cA 5) fo)] ++ ([(am, .inr (2, [.int th, .int wk, .int fl, .ref gs, .ref go, .ref gt, .ref gp, .ref gw, .double la, .double ea, .ref gl, .int ln, .int fd]))] ++ R))) (hS : va_S A s.heap H locs) (hl : lv_has ls 9 [(0, .ref b), (1, .ref ax), (2, .ref am), (3, .ref ao), (4, .ref ad), (5, .int (nI i))])
    (kk : ∀ (H : Heap) (locs : List Loc) (ls : Array Slot), va_P (dC, dI) vwCl ([(ax, .inr (1, [.ref ab, .ref aw, .int wl, .double (if cd1 (f_X1_observer la ea y1 y2) = 0 then y1 else la), .double (if cd1 (f_X1_observer la ea y1 y2) = 0 then y2 else ea), .int wk, .int fl])), (ao, aL 1 (cA 5) (oJ (f_X1_observer la ea y1 y2) bJ fo))] ++ ([(am, .inr (2, [.int (cd1 (f_X1_observer la ea y1 y2)), .int wk, .int fl, .ref gs, .ref go, .ref gt, .ref gp, .ref gw, .double (if cd1 (f_X1_observer la ea y1 y2) = 0 then y1 else la), .double (if cd1 (f_X1_observer la ea y1 y2) = 0 then y2 else ea), .ref gl, .int ln, .int fd]))] ++ R)) H → va_D A ([(ax, .inr (1, [.ref ab, .ref aw, .int wl, .double (if cd1 (f_X1_observer la ea y1 y2) = 0 then y1 else la), .double (if cd1 (f_X1_observer la ea y1 y2) = 0 then y2 else ea), .int wk, .int fl])), (ao, aL 1 (cA 5) (oJ (f_X1_observer la ea y1 y2) bJ fo))] ++ ([(am, .inr (2, [.int (cd1 (f_X1_observer la ea y1 y2)), .int wk, .int fl, .ref gs, .ref go, .ref gt, .ref gp, .ref gw, .double (if cd1 (f_X1_observer la ea y1 y2) = 0 then y1 else la), .double (if cd1 (f_X1_observer la ea y1 y2) = 0 then y2 else ea), .ref gl, .int ln, .int fd]))] ++ R)) → va_S A s.heap H locs → lv_has ls 9 [(0, .ref b), (1, .ref ax), (2, .ref am), (3, .ref ao), (4, .ref ad), (5, .int (nI i))] → W p l e room_1 s m #[Value.ref b] below meth c H locs (Cn + 66) (Sn + 396) Q (F0 m 1438 ls []))
    : W p l e room_1 s m #[Value.ref b] below meth c H locs Cn Sn Q (F0 m 659 ls []) := by
  obtain ⟨hx, hb, hml, hown, hts, hX, hbl, hbA, hA, hE, hN, hK⟩ := C0
  have e9 := eq_observer la ea y1 y2
  refine lv_aload_n hx hb dL_law_659 rfl (lv_at hl 1 rfl) ?_
  refine lv_aload_n hx hb dL_law_660 rfl (lv_at hl 0 rfl) ?_
  refine lv_iload hx hb dL_law_661 (lv_at hl 5 rfl) ?_
  refine lv_iconst (v := 1) hx hb dL_law_663 (by decide) ?_
  refine lv_iadd hx hb dL_law_664 ?_
  refine va_sld hx hb hX hbl hbA hS (ix_in 1 rfl hi hL (by decide)) dL_law_665 ?_
  rw [← hx1]
  refine lv_i2d hx hb dL_law_666 ?_
  refine lv_ldc2d hx hb hown (hts _ cw92) dL_law_667 ?_
  refine lv_dmul hx hb dL_law_670 (fR_nn (e8_R x1)) ?_
  rw [← hy1]
  refine lv_aload_n hx hb dL_law_671 rfl (lv_at hl 0 rfl) ?_
  refine lv_iload hx hb dL_law_672 (lv_at hl 5 rfl) ?_
  refine lv_iconst (v := 2) hx hb dL_law_674 (by decide) ?_
  refine lv_iadd hx hb dL_law_675 ?_
  refine va_sld hx hb hX hbl hbA hS (ix_in 2 rfl hi hL (by decide)) dL_law_676 ?_
  rw [← hx2]
  refine lv_i2d hx hb dL_law_677 ?_
  refine lv_ldc2d hx hb hown (hts _ cw92) dL_law_678 ?_
  refine lv_dmul hx hb dL_law_681 (fR_nn (e8_R x2)) ?_
  rw [← hy2]
  refine lv_aload_n hx hb dL_law_682 rfl (lv_at hl 3 rfl) ?_
  have hPc := hP.sub (ws' := [(ax, .inr (1, [.ref ab, .ref aw, .int wl, .double la, .double ea, .int wk, .int fl])), (ao, aL 1 (cA 5) fo)]) [0, 1] rfl
  have hDc := hD.sub (ws' := [(ax, .inr (1, [.ref ab, .ref aw, .int wl, .double la, .double ea, .int wk, .int fl])), (ao, aL 1 (cA 5) fo)]) [0, 1] (by decide) rfl
  have hFc := va_free (wc := [(ax, .inr (1, [.ref ab, .ref aw, .int wl, .double la, .double ea, .int wk, .int fl])), (ao, aL 1 (cA 5) fo)]) hD hS hA [0, 1] rfl
  refine va_calli (vx_runSW (As := [.ref ax, .double y1, .double y2, .ref ao]) (rest := []) ⟨hx, hb, hml, hown, hts⟩ (k_L_observer l hst dC dI cA tm tt _ ax ab aw wl la ea wk fl ao fo y1 y2) (vx_cwSW 4 hts gL_law_L_observer rfl rfl rfl (by decide +kernel) ⟨Nat.le_of_ble_eq_true rfl, Nat.le_of_ble_eq_true rfl⟩) ⟨PcL.blind, PcL.give hPc hK hDc hE hS hFc hN⟩ rfl rfl hl.1 rfl (lv_room (Nat.le_of_ble_eq_true rfl)) dL_law_683 ⟨(show Cn + 1 ≤ 620239 by omega), (show Sn + 6 ≤ 7235387 by omega)⟩) hS (fun q _ h => hFc q h) hFc (fun r6 u t H locs ht hvm hr6 hB hz1 hk1 hS => ?_)
  subst hr6
  obtain ⟨hP1, hD1⟩ := hB
  rw [ht] at hP1
  obtain ⟨hP, hD⟩ := zj hP hD hk1 hFc hP1 hD1
  have hP : va_P (dC, dI) vwCl ([(ax, .inr (1, [.ref ab, .ref aw, .int wl, .double (if cd1 (f_X1_observer la ea y1 y2) = 0 then y1 else la), .double (if cd1 (f_X1_observer la ea y1 y2) = 0 then y2 else ea), .int wk, .int fl])), (ao, aL 1 (cA 5) (oJ (f_X1_observer la ea y1 y2) bJ fo))] ++ ([(am, .inr (2, [.int th, .int wk, .int fl, .ref gs, .ref go, .ref gt, .ref gp, .ref gw, .double la, .double ea, .ref gl, .int ln, .int fd]))] ++ R)) H := hP
  have hD : va_D A ([(ax, .inr (1, [.ref ab, .ref aw, .int wl, .double (if cd1 (f_X1_observer la ea y1 y2) = 0 then y1 else la), .double (if cd1 (f_X1_observer la ea y1 y2) = 0 then y2 else ea), .int wk, .int fl])), (ao, aL 1 (cA 5) (oJ (f_X1_observer la ea y1 y2) bJ fo))] ++ ([(am, .inr (2, [.int th, .int wk, .int fl, .ref gs, .ref go, .ref gt, .ref gp, .ref gw, .double la, .double ea, .ref gl, .int ln, .int fd]))] ++ R)) := hD
  obtain ⟨hP, hD⟩ := sw hP hD
  have hP : va_P (dC, dI) vwCl ([(am, .inr (2, [.int th, .int wk, .int fl, .ref gs, .ref go, .ref gt, .ref gp, .ref gw, .double la, .double ea, .ref gl, .int ln, .int fd]))] ++ ([(ax, .inr (1, [.ref ab, .ref aw, .int wl, .double (if cd1 (f_X1_observer la ea y1 y2) = 0 then y1 else la), .double (if cd1 (f_X1_observer la ea y1 y2) = 0 then y2 else ea), .int wk, .int fl])), (ao, aL 1 (cA 5) (oJ (f_X1_observer la ea y1 y2) bJ fo))] ++ R)) H := hP
  have hD : va_D A ([(am, .inr (2, [.int th, .int wk, .int fl, .ref gs, .ref go, .ref gt, .ref gp, .ref gw, .double la, .double ea, .ref gl, .int ln, .int fd]))] ++ ([(ax, .inr (1, [.ref ab, .ref aw, .int wl, .double (if cd1 (f_X1_observer la ea y1 y2) = 0 then y1 else la), .double (if cd1 (f_X1_observer la ea y1 y2) = 0 then y2 else ea), .int wk, .int fl])), (ao, aL 1 (cA 5) (oJ (f_X1_observer la ea y1 y2) bJ fo))] ++ R)) := hD
  refine lv_istore (lv' := [(6, .int (cd1 (f_X1_observer la ea y1 y2))), (0, .ref b), (1, .ref ax), (2, .ref am), (3, .ref ao), (4, .ref ad), (5, .int (nI i))]) hx hb dL_law_686 hl (by decide) rfl (fun ls hl => ?_)
  refine lv_aload_n hx hb dL_law_688 rfl (lv_at hl 3 rfl) ?_
  refine lv_aload_n hx hb dL_law_689 rfl (lv_at hl 1 rfl) ?_
  refine lv_iload hx hb dL_law_690 (lv_at hl 6 rfl) ?_
  refine lv_iconst (v := 1) hx hb dL_law_692 (by decide) ?_
  refine lv_iadd hx hb dL_law_693 ?_
  refine va_sld hx hb hX hbl hbA hS (ix_in 1 rfl hi hL (by decide)) dL_law_694 ?_
  rw [← hx1]
  refine lv_i2d hx hb dL_law_695 ?_
  refine lv_ldc2d hx hb hown (hts _ cw92) dL_law_696 ?_
  refine lv_dmul hx hb dL_law_699 (fR_nn (e8_R x1)) ?_
  rw [← hy1]
  refine lv_aload_n hx hb dL_law_700 rfl (lv_at hl 1 rfl) ?_
  refine lv_iload hx hb dL_law_701 (lv_at hl 6 rfl) ?_
  refine lv_iconst (v := 2) hx hb dL_law_703 (by decide) ?_
  refine lv_iadd hx hb dL_law_704 ?_
  refine va_sld hx hb hX hbl hbA hS (ix_in 2 rfl hi hL (by decide)) dL_law_705 ?_
  rw [← hx2]
  refine lv_i2d hx hb dL_law_706 ?_
  refine lv_ldc2d hx hb hown (hts _ cw92) dL_law_707 ?_
  refine lv_dmul hx hb dL_law_710 (fR_nn (e8_R x2)) ?_
  rw [← hy2]
  have hPc := hP.sub (ws' := [(am, .inr (2, [.int th, .int wk, .int fl, .ref gs, .ref go, .ref gt, .ref gp, .ref gw, .double la, .double ea, .ref gl, .int ln, .int fd]))]) [0] rfl
  have hDc := hD.sub (ws' := [(am, .inr (2, [.int th, .int wk, .int fl, .ref gs, .ref go, .ref gt, .ref gp, .ref gw, .double la, .double ea, .ref gl, .int ln, .int fd]))]) [0] (by decide) rfl
  have hFc := va_free (wc := [(am, .inr (2, [.int th, .int wk, .int fl, .ref gs, .ref go, .ref gt, .ref gp, .ref gw, .double la, .double ea, .ref gl, .int ln, .int fd]))]) hD hS hA [0] rfl
  refine va_calli (va_runV (As := [.double y1, .double y2]) (rest := []) ⟨hx, hb, hml, hown, hts⟩ (k_X2_observer l hst dC dI cA tm tt _ am gs go gt gp gw gl th wk fl la ea ln fd y1 y2) (cwV 2 hts gL_law_X2_observer rfl rfl rfl (by decide +kernel) ⟨Nat.le_of_ble_eq_true rfl, Nat.le_of_ble_eq_true rfl⟩) ⟨PcW.blind, va_recv hK hPc (ci := 2) (q0 := 0) rfl rfl, PcW.give hPc hK hDc hE hS hFc⟩ rfl rfl hl.1 rfl (lv_room (Nat.le_of_ble_eq_true rfl)) dL_law_711 ⟨(show Cn + 1 ≤ 620239 by omega), (show Sn + 6 ≤ 7235387 by omega)⟩) hS (fun q _ h => hFc q h) hFc (fun r7 u t H locs ht hvm hr7 hB hz1 hk1 hS => ?_)
  subst hr7
  obtain ⟨hP1, hD1⟩ := hB
  rw [ht] at hP1
  obtain ⟨hP, hD⟩ := zj hP hD hk1 hFc hP1 hD1
  have hP : va_P (dC, dI) vwCl ([(am, .inr (2, [.int ((f_X2_observer la ea y1 y2).2), .int wk, .int fl, .ref gs, .ref go, .ref gt, .ref gp, .ref gw, .double (if (f_X2_observer la ea y1 y2).2 = 0 then y1 else la), .double (if (f_X2_observer la ea y1 y2).2 = 0 then y2 else ea), .ref gl, .int ln, .int fd]))] ++ ([(ax, .inr (1, [.ref ab, .ref aw, .int wl, .double (if cd1 (f_X1_observer la ea y1 y2) = 0 then y1 else la), .double (if cd1 (f_X1_observer la ea y1 y2) = 0 then y2 else ea), .int wk, .int fl])), (ao, aL 1 (cA 5) (oJ (f_X1_observer la ea y1 y2) bJ fo))] ++ R)) H := hP
  have hD : va_D A ([(am, .inr (2, [.int ((f_X2_observer la ea y1 y2).2), .int wk, .int fl, .ref gs, .ref go, .ref gt, .ref gp, .ref gw, .double (if (f_X2_observer la ea y1 y2).2 = 0 then y1 else la), .double (if (f_X2_observer la ea y1 y2).2 = 0 then y2 else ea), .ref gl, .int ln, .int fd]))] ++ ([(ax, .inr (1, [.ref ab, .ref aw, .int wl, .double (if cd1 (f_X1_observer la ea y1 y2) = 0 then y1 else la), .double (if cd1 (f_X1_observer la ea y1 y2) = 0 then y2 else ea), .int wk, .int fl])), (ao, aL 1 (cA 5) (oJ (f_X1_observer la ea y1 y2) bJ fo))] ++ R)) := hD
  refine lv_istore (lv' := [(7, .int ((f_X2_observer la ea y1 y2).1)), (6, .int (cd1 (f_X1_observer la ea y1 y2))), (0, .ref b), (1, .ref ax), (2, .ref am), (3, .ref ao), (4, .ref ad), (5, .int (nI i))]) hx hb dL_law_714 hl (by decide) rfl (fun ls hl => ?_)
  refine lv_aload_n hx hb dL_law_716 rfl (lv_at hl 4 rfl) ?_
  have hPc := hP.sub (ws' := [(am, .inr (2, [.int ((f_X2_observer la ea y1 y2).2), .int wk, .int fl, .ref gs, .ref go, .ref gt, .ref gp, .ref gw, .double (if (f_X2_observer la ea y1 y2).2 = 0 then y1 else la), .double (if (f_X2_observer la ea y1 y2).2 = 0 then y2 else ea), .ref gl, .int ln, .int fd]))]) [0] rfl
  refine vp_callSi (W.runV (As := []) (rest := []) ⟨hx, hb, hml, hown, hts⟩ (k_X2_thrown l dC dI cA tm tt am gs go gt gp gw gl ((f_X2_observer la ea y1 y2).2) wk fl (if (f_X2_observer la ea y1 y2).2 = 0 then y1 else la) (if (f_X2_observer la ea y1 y2).2 = 0 then y2 else ea) ln fd) (cwV 0 hts gL_law_X2_thrown rfl rfl rfl (by decide +kernel) ⟨Nat.le_of_ble_eq_true rfl, Nat.le_of_ble_eq_true rfl⟩) ⟨PcO.blind, va_recv hK hPc (ci := 2) (q0 := 0) rfl rfl, PcO.give hPc hK hE hS⟩ rfl rfl hl.1 rfl (lv_room (Nat.le_of_ble_eq_true rfl)) dL_law_717 ⟨(show Cn + 1 ≤ 620239 by omega), (show Sn + 6 ≤ 7235387 by omega)⟩) (fun r hr9 => ?_)
  obtain rfl := hr9
  refine lv_iload hx hb dL_law_720 (lv_at hl 1 rfl) ?_
  refine lv_icmp_eq (tgt := 727) hx hb dL_law_722 (by decide) (fun _ => ?_) (fun c_1 => absurd c_1 (fun h => h e9.1))
  refine lv_iload hx hb dL_law_727 (lv_at hl 1 rfl) ?_
  refine lv_if_ne (tgt := 751) hx hb dL_law_729 (by decide) (fun c_2 => ?_) (fun c_2 => ?_)
  · refine lv_goto (tgt := 1438) hx hb dL_law_751 (by decide) ?_
    obtain ⟨hP, hD⟩ := sw hP hD
    have hP : va_P (dC, dI) vwCl ([(ax, .inr (1, [.ref ab, .ref aw, .int wl, .double (if cd1 (f_X1_observer la ea y1 y2) = 0 then y1 else la), .double (if cd1 (f_X1_observer la ea y1 y2) = 0 then y2 else ea), .int wk, .int fl])), (ao, aL 1 (cA 5) (oJ (f_X1_observer la ea y1 y2) bJ fo))] ++ ([(am, .inr (2, [.int ((f_X2_observer la ea y1 y2).2), .int wk, .int fl, .ref gs, .ref go, .ref gt, .ref gp, .ref gw, .double (if (f_X2_observer la ea y1 y2).2 = 0 then y1 else la), .double (if (f_X2_observer la ea y1 y2).2 = 0 then y2 else ea), .ref gl, .int ln, .int fd]))] ++ R)) H := hP
    have hD : va_D A ([(ax, .inr (1, [.ref ab, .ref aw, .int wl, .double (if cd1 (f_X1_observer la ea y1 y2) = 0 then y1 else la), .double (if cd1 (f_X1_observer la ea y1 y2) = 0 then y2 else ea), .int wk, .int fl])), (ao, aL 1 (cA 5) (oJ (f_X1_observer la ea y1 y2) bJ fo))] ++ ([(am, .inr (2, [.int ((f_X2_observer la ea y1 y2).2), .int wk, .int fl, .ref gs, .ref go, .ref gt, .ref gp, .ref gw, .double (if (f_X2_observer la ea y1 y2).2 = 0 then y1 else la), .double (if (f_X2_observer la ea y1 y2).2 = 0 then y2 else ea), .ref gl, .int ln, .int fd]))] ++ R)) := hD
    rw [e9.1] at hP hD
    have hP : va_P (dC, dI) vwCl ([(ax, .inr (1, [.ref ab, .ref aw, .int wl, .double (if cd1 (f_X1_observer la ea y1 y2) = 0 then y1 else la), .double (if cd1 (f_X1_observer la ea y1 y2) = 0 then y2 else ea), .int wk, .int fl])), (ao, aL 1 (cA 5) (oJ (f_X1_observer la ea y1 y2) bJ fo))] ++ ([(am, .inr (2, [.int (cd1 (f_X1_observer la ea y1 y2)), .int wk, .int fl, .ref gs, .ref go, .ref gt, .ref gp, .ref gw, .double (if cd1 (f_X1_observer la ea y1 y2) = 0 then y1 else la), .double (if cd1 (f_X1_observer la ea y1 y2) = 0 then y2 else ea), .ref gl, .int ln, .int fd]))] ++ R)) H := hP
    have hD : va_D A ([(ax, .inr (1, [.ref ab, .ref aw, .int wl, .double (if cd1 (f_X1_observer la ea y1 y2) = 0 then y1 else la), .double (if cd1 (f_X1_observer la ea y1 y2) = 0 then y2 else ea), .int wk, .int fl])), (ao, aL 1 (cA 5) (oJ (f_X1_observer la ea y1 y2) bJ fo))] ++ ([(am, .inr (2, [.int (cd1 (f_X1_observer la ea y1 y2)), .int wk, .int fl, .ref gs, .ref go, .ref gt, .ref gp, .ref gw, .double (if cd1 (f_X1_observer la ea y1 y2) = 0 then y1 else la), .double (if cd1 (f_X1_observer la ea y1 y2) = 0 then y2 else ea), .ref gl, .int ln, .int fd]))] ++ R)) := hD
    refine W.widen (k := Cn + 66) (n := Sn + 396) (by omega) (by omega) ?_
    exact kk _ _ _ hP hD hS (lv_sub hl [2, 3, 4, 5, 6, 7] rfl)
  · obtain ⟨v9, hv9⟩ := cd1_ok0 c_2
    have e7 : (f_X2_observer la ea y1 y2).1 = v9 := e9.2 v9 hv9
    refine lv_aload_n hx hb dL_law_732 rfl (lv_at hl 5 rfl) ?_
    refine lv_iconst (v := 0) hx hb dL_law_733 (by decide) ?_
    refine va_lald hx hb hK hP 2 5 rfl rfl (show ¬ ((0 : Int32) < 0 ∨ 1 ≤ (0 : Int32).toNatClampNeg) by decide +kernel) dL_law_734 ?_
    rw [show (oJ (f_X1_observer la ea y1 y2) bJ fo) ((0 : Int32).toNatClampNeg) = bJ v9 from by rw [cl0]; exact oJ_0 hv9]
    refine lv_iload hx hb dL_law_735 (lv_at hl 0 rfl) ?_
    refine lv_if_eq (tgt := 744) hx hb dL_law_737 (by decide) (fun c_3 => ?_) (fun c_3 => ?_)
    · refine lv_lconst (v := 0) hx hb dL_law_744 (by decide) ?_
      refine zl_eq (tgt := 751) hx hb dL_law_745 dL_law_746 (by decide) (fun _ => ?_) (fun c_4 => absurd c_4 (fun h => h (bJ0 e7 c_3)))
      refine lv_goto (tgt := 1438) hx hb dL_law_751 (by decide) ?_
      obtain ⟨hP, hD⟩ := sw hP hD
      have hP : va_P (dC, dI) vwCl ([(ax, .inr (1, [.ref ab, .ref aw, .int wl, .double (if cd1 (f_X1_observer la ea y1 y2) = 0 then y1 else la), .double (if cd1 (f_X1_observer la ea y1 y2) = 0 then y2 else ea), .int wk, .int fl])), (ao, aL 1 (cA 5) (oJ (f_X1_observer la ea y1 y2) bJ fo))] ++ ([(am, .inr (2, [.int ((f_X2_observer la ea y1 y2).2), .int wk, .int fl, .ref gs, .ref go, .ref gt, .ref gp, .ref gw, .double (if (f_X2_observer la ea y1 y2).2 = 0 then y1 else la), .double (if (f_X2_observer la ea y1 y2).2 = 0 then y2 else ea), .ref gl, .int ln, .int fd]))] ++ R)) H := hP
      have hD : va_D A ([(ax, .inr (1, [.ref ab, .ref aw, .int wl, .double (if cd1 (f_X1_observer la ea y1 y2) = 0 then y1 else la), .double (if cd1 (f_X1_observer la ea y1 y2) = 0 then y2 else ea), .int wk, .int fl])), (ao, aL 1 (cA 5) (oJ (f_X1_observer la ea y1 y2) bJ fo))] ++ ([(am, .inr (2, [.int ((f_X2_observer la ea y1 y2).2), .int wk, .int fl, .ref gs, .ref go, .ref gt, .ref gp, .ref gw, .double (if (f_X2_observer la ea y1 y2).2 = 0 then y1 else la), .double (if (f_X2_observer la ea y1 y2).2 = 0 then y2 else ea), .ref gl, .int ln, .int fd]))] ++ R)) := hD
      rw [e9.1] at hP hD
      have hP : va_P (dC, dI) vwCl ([(ax, .inr (1, [.ref ab, .ref aw, .int wl, .double (if cd1 (f_X1_observer la ea y1 y2) = 0 then y1 else la), .double (if cd1 (f_X1_observer la ea y1 y2) = 0 then y2 else ea), .int wk, .int fl])), (ao, aL 1 (cA 5) (oJ (f_X1_observer la ea y1 y2) bJ fo))] ++ ([(am, .inr (2, [.int (cd1 (f_X1_observer la ea y1 y2)), .int wk, .int fl, .ref gs, .ref go, .ref gt, .ref gp, .ref gw, .double (if cd1 (f_X1_observer la ea y1 y2) = 0 then y1 else la), .double (if cd1 (f_X1_observer la ea y1 y2) = 0 then y2 else ea), .ref gl, .int ln, .int fd]))] ++ R)) H := hP
      have hD : va_D A ([(ax, .inr (1, [.ref ab, .ref aw, .int wl, .double (if cd1 (f_X1_observer la ea y1 y2) = 0 then y1 else la), .double (if cd1 (f_X1_observer la ea y1 y2) = 0 then y2 else ea), .int wk, .int fl])), (ao, aL 1 (cA 5) (oJ (f_X1_observer la ea y1 y2) bJ fo))] ++ ([(am, .inr (2, [.int (cd1 (f_X1_observer la ea y1 y2)), .int wk, .int fl, .ref gs, .ref go, .ref gt, .ref gp, .ref gw, .double (if cd1 (f_X1_observer la ea y1 y2) = 0 then y1 else la), .double (if cd1 (f_X1_observer la ea y1 y2) = 0 then y2 else ea), .ref gl, .int ln, .int fd]))] ++ R)) := hD
      refine W.widen (k := Cn + 66) (n := Sn + 396) (by omega) (by omega) ?_
      exact kk _ _ _ hP hD hS (lv_sub hl [2, 3, 4, 5, 6, 7] rfl)
    · refine lv_lconst (v := 1) hx hb dL_law_740 (by decide) ?_
      refine lv_goto (tgt := 745) hx hb dL_law_741 (by decide) ?_
      refine zl_eq (tgt := 751) hx hb dL_law_745 dL_law_746 (by decide) (fun _ => ?_) (fun c_5 => absurd c_5 (fun h => h (bJ1 e7 c_3)))
      refine lv_goto (tgt := 1438) hx hb dL_law_751 (by decide) ?_
      obtain ⟨hP, hD⟩ := sw hP hD
      have hP : va_P (dC, dI) vwCl ([(ax, .inr (1, [.ref ab, .ref aw, .int wl, .double (if cd1 (f_X1_observer la ea y1 y2) = 0 then y1 else la), .double (if cd1 (f_X1_observer la ea y1 y2) = 0 then y2 else ea), .int wk, .int fl])), (ao, aL 1 (cA 5) (oJ (f_X1_observer la ea y1 y2) bJ fo))] ++ ([(am, .inr (2, [.int ((f_X2_observer la ea y1 y2).2), .int wk, .int fl, .ref gs, .ref go, .ref gt, .ref gp, .ref gw, .double (if (f_X2_observer la ea y1 y2).2 = 0 then y1 else la), .double (if (f_X2_observer la ea y1 y2).2 = 0 then y2 else ea), .ref gl, .int ln, .int fd]))] ++ R)) H := hP
      have hD : va_D A ([(ax, .inr (1, [.ref ab, .ref aw, .int wl, .double (if cd1 (f_X1_observer la ea y1 y2) = 0 then y1 else la), .double (if cd1 (f_X1_observer la ea y1 y2) = 0 then y2 else ea), .int wk, .int fl])), (ao, aL 1 (cA 5) (oJ (f_X1_observer la ea y1 y2) bJ fo))] ++ ([(am, .inr (2, [.int ((f_X2_observer la ea y1 y2).2), .int wk, .int fl, .ref gs, .ref go, .ref gt, .ref gp, .ref gw, .double (if (f_X2_observer la ea y1 y2).2 = 0 then y1 else la), .double (if (f_X2_observer la ea y1 y2).2 = 0 then y2 else ea), .ref gl, .int ln, .int fd]))] ++ R)) := hD
      rw [e9.1] at hP hD
      have hP : va_P (dC, dI) vwCl ([(ax, .inr (1, [.ref ab, .ref aw, .int wl, .double (if cd1 (f_X1_observer la ea y1 y2) = 0 then y1 else la), .double (if cd1 (f_X1_observer la ea y1 y2) = 0 then y2 else ea), .int wk, .int fl])), (ao, aL 1 (cA 5) (oJ (f_X1_observer la ea y1 y2) bJ fo))] ++ ([(am, .inr (2, [.int (cd1 (f_X1_observer la ea y1 y2)), .int wk, .int fl, .ref gs, .ref go, .ref gt, .ref gp, .ref gw, .double (if cd1 (f_X1_observer la ea y1 y2) = 0 then y1 else la), .double (if cd1 (f_X1_observer la ea y1 y2) = 0 then y2 else ea), .ref gl, .int ln, .int fd]))] ++ R)) H := hP
      have hD : va_D A ([(ax, .inr (1, [.ref ab, .ref aw, .int wl, .double (if cd1 (f_X1_observer la ea y1 y2) = 0 then y1 else la), .double (if cd1 (f_X1_observer la ea y1 y2) = 0 then y2 else ea), .int wk, .int fl])), (ao, aL 1 (cA 5) (oJ (f_X1_observer la ea y1 y2) bJ fo))] ++ ([(am, .inr (2, [.int (cd1 (f_X1_observer la ea y1 y2)), .int wk, .int fl, .ref gs, .ref go, .ref gt, .ref gp, .ref gw, .double (if cd1 (f_X1_observer la ea y1 y2) = 0 then y1 else la), .double (if cd1 (f_X1_observer la ea y1 y2) = 0 then y2 else ea), .ref gl, .int ln, .int fd]))] ++ R)) := hD
      refine W.widen (k := Cn + 66) (n := Sn + 396) (by omega) (by omega) ?_
      exact kk _ _ _ hP hD hS (lv_sub hl [2, 3, 4, 5, 6, 7] rfl)
set_option maxHeartbeats 4000000 in
set_option maxRecDepth 100000 in
theorem cs_letter {p : Program} {l : Launch} {e : Env} {s : State} {m : MethodId} {below : List Frame} {meth : Method} {c : Code} {b L : Nat} {xs : Nat → Int32} {Q : State → Prop} {A : Nat → Prop} {dC : Nat → ClassId} {dI : Nat → Nat → Nat} {cA : Nat → ClassId} {tm tt i Cn Sn : Nat} (hst : l.stackTraces = false) (C0 : LX p s m c b L xs dC dI cA tm tt A) (hi : i + 6 ≤ L) (hL : L ≤ 3072) (hC : Cn + 66 ≤ 620239) (hSn : Sn + 396 ≤ 7235387) (ax ab aw : Nat) (kw : Nat) (la ea : UInt64) (wk fl : Int32) (f : Nat → Int32) (am gs go gt gp gw gl : Nat) (th : Int32) (fd : Int32) (lf : Nat → Int32) (ao ad : Nat) (fo : Nat → Int64) (x1 : Int32) (hx1 : x1 = xs (Int32.toNatClampNeg (nI i + 1))) (hkw : kw ≤ 24) (hlf : ∀ j, j < kw → f j = lf j) (R : va_W) {H : Heap} {locs : List Loc} {ls : Array Slot} (hP : va_P (dC, dI) vwCl ([(ax, .inr (1, [.ref ab, .ref aw, .int (nI kw), .double la, .double ea, .int wk, .int fl])), (aw, aI 24 (cA 2) f), (ao, aL 1 (cA 5) fo)] ++ ([(am, .inr (2, [.int th, .int wk, .int fl, .ref gs, .ref go, .ref gt, .ref gp, .ref gw, .double la, .double ea, .ref gl, .int (nI kw), .int fd])), (gl, aI 40 (cA 0) lf)] ++ R)) H) (hD : va_D A ([(ax, .inr (1, [.ref ab, .ref aw, .int (nI kw), .double la, .double ea, .int wk, .int fl])), (aw, aI 24 (cA 2) f), (ao, aL 1 (cA 5) fo)] ++ ([(am, .inr (2, [.int th, .int wk, .int fl, .ref gs, .ref go, .ref gt, .ref gp, .ref gw, .double la, .double ea, .ref gl, .int (nI kw), .int fd])), (gl, aI 40 (cA 0) lf)] ++ R))) (hS : va_S A s.heap H locs) (hl : lv_has ls 9 [(0, .ref b), (1, .ref ax), (2, .ref am), (3, .ref ao), (4, .ref ad), (5, .int (nI i))])
    (kk : ∀ (H : Heap) (locs : List Loc) (ls : Array Slot), va_P (dC, dI) vwCl ([(ax, .inr (1, [.ref ab, .ref aw, .int (nI kw), .double la, .double ea, .int wk, .int fl])), (aw, aI 24 (cA 2) f), (ao, aL 1 (cA 5) (oJ (f_X1_letter (nI kw) f x1) Int32.toInt64 fo))] ++ ([(am, .inr (2, [.int ((f_X2_letter (nI kw) lf x1).2), .int wk, .int fl, .ref gs, .ref go, .ref gt, .ref gp, .ref gw, .double la, .double ea, .ref gl, .int (nI kw), .int fd])), (gl, aI 40 (cA 0) lf)] ++ R)) H → va_D A ([(ax, .inr (1, [.ref ab, .ref aw, .int (nI kw), .double la, .double ea, .int wk, .int fl])), (aw, aI 24 (cA 2) f), (ao, aL 1 (cA 5) (oJ (f_X1_letter (nI kw) f x1) Int32.toInt64 fo))] ++ ([(am, .inr (2, [.int ((f_X2_letter (nI kw) lf x1).2), .int wk, .int fl, .ref gs, .ref go, .ref gt, .ref gp, .ref gw, .double la, .double ea, .ref gl, .int (nI kw), .int fd])), (gl, aI 40 (cA 0) lf)] ++ R)) → va_S A s.heap H locs → lv_has ls 9 [(0, .ref b), (1, .ref ax), (2, .ref am), (3, .ref ao), (4, .ref ad), (5, .int (nI i))] → W p l e room_1 s m #[Value.ref b] below meth c H locs (Cn + 66) (Sn + 396) Q (F0 m 1438 ls []))
    : W p l e room_1 s m #[Value.ref b] below meth c H locs Cn Sn Q (F0 m 1218 ls []) := by
  obtain ⟨hx, hb, hml, hown, hts, hX, hbl, hbA, hA, hE, hN, hK⟩ := C0
  have e9 := eq_letter x1 hkw hlf
  refine lv_aload_n hx hb dL_law_1218 rfl (lv_at hl 1 rfl) ?_
  refine lv_aload_n hx hb dL_law_1219 rfl (lv_at hl 0 rfl) ?_
  refine lv_iload hx hb dL_law_1220 (lv_at hl 5 rfl) ?_
  refine lv_iconst (v := 1) hx hb dL_law_1222 (by decide) ?_
  refine lv_iadd hx hb dL_law_1223 ?_
  refine va_sld hx hb hX hbl hbA hS (ix_in 1 rfl hi hL (by decide)) dL_law_1224 ?_
  rw [← hx1]
  refine lv_aload_n hx hb dL_law_1225 rfl (lv_at hl 3 rfl) ?_
  have hPc := hP.sub (ws' := [(ax, .inr (1, [.ref ab, .ref aw, .int (nI kw), .double la, .double ea, .int wk, .int fl])), (aw, aI 24 (cA 2) f), (ao, aL 1 (cA 5) fo)]) [0, 1, 2] rfl
  have hDc := hD.sub (ws' := [(ax, .inr (1, [.ref ab, .ref aw, .int (nI kw), .double la, .double ea, .int wk, .int fl])), (aw, aI 24 (cA 2) f), (ao, aL 1 (cA 5) fo)]) [0, 1, 2] (by decide) rfl
  have hFc := va_free (wc := [(ax, .inr (1, [.ref ab, .ref aw, .int (nI kw), .double la, .double ea, .int wk, .int fl])), (aw, aI 24 (cA 2) f), (ao, aL 1 (cA 5) fo)]) hD hS hA [0, 1, 2] rfl
  refine va_calli (vx_runSW (As := [.ref ax, .int x1, .ref ao]) (rest := []) ⟨hx, hb, hml, hown, hts⟩ (k_L_letter l hst dC dI cA tm tt _ ax ab aw (nI kw) la ea wk fl f ao fo x1) (vx_cwSW 3 hts gL_law_L_letter rfl rfl rfl (by decide +kernel) ⟨Nat.le_of_ble_eq_true rfl, Nat.le_of_ble_eq_true rfl⟩) ⟨PcL.blind, PcL.give hPc hK hDc hE hS hFc hN⟩ rfl rfl hl.1 rfl (lv_room (Nat.le_of_ble_eq_true rfl)) dL_law_1226 ⟨(show Cn + 1 ≤ 620239 by omega), (show Sn + 6 ≤ 7235387 by omega)⟩) hS (fun q _ h => hFc q h) hFc (fun r6 u t H locs ht hvm hr6 hB hz1 hk1 hS => ?_)
  subst hr6
  obtain ⟨hP1, hD1⟩ := hB
  rw [ht] at hP1
  obtain ⟨hP, hD⟩ := zj hP hD hk1 hFc hP1 hD1
  have hP : va_P (dC, dI) vwCl ([(ax, .inr (1, [.ref ab, .ref aw, .int (nI kw), .double la, .double ea, .int wk, .int fl])), (aw, aI 24 (cA 2) f), (ao, aL 1 (cA 5) (oJ (f_X1_letter (nI kw) f x1) Int32.toInt64 fo))] ++ ([(am, .inr (2, [.int th, .int wk, .int fl, .ref gs, .ref go, .ref gt, .ref gp, .ref gw, .double la, .double ea, .ref gl, .int (nI kw), .int fd])), (gl, aI 40 (cA 0) lf)] ++ R)) H := hP
  have hD : va_D A ([(ax, .inr (1, [.ref ab, .ref aw, .int (nI kw), .double la, .double ea, .int wk, .int fl])), (aw, aI 24 (cA 2) f), (ao, aL 1 (cA 5) (oJ (f_X1_letter (nI kw) f x1) Int32.toInt64 fo))] ++ ([(am, .inr (2, [.int th, .int wk, .int fl, .ref gs, .ref go, .ref gt, .ref gp, .ref gw, .double la, .double ea, .ref gl, .int (nI kw), .int fd])), (gl, aI 40 (cA 0) lf)] ++ R)) := hD
  obtain ⟨hP, hD⟩ := sw hP hD
  have hP : va_P (dC, dI) vwCl ([(am, .inr (2, [.int th, .int wk, .int fl, .ref gs, .ref go, .ref gt, .ref gp, .ref gw, .double la, .double ea, .ref gl, .int (nI kw), .int fd])), (gl, aI 40 (cA 0) lf)] ++ ([(ax, .inr (1, [.ref ab, .ref aw, .int (nI kw), .double la, .double ea, .int wk, .int fl])), (aw, aI 24 (cA 2) f), (ao, aL 1 (cA 5) (oJ (f_X1_letter (nI kw) f x1) Int32.toInt64 fo))] ++ R)) H := hP
  have hD : va_D A ([(am, .inr (2, [.int th, .int wk, .int fl, .ref gs, .ref go, .ref gt, .ref gp, .ref gw, .double la, .double ea, .ref gl, .int (nI kw), .int fd])), (gl, aI 40 (cA 0) lf)] ++ ([(ax, .inr (1, [.ref ab, .ref aw, .int (nI kw), .double la, .double ea, .int wk, .int fl])), (aw, aI 24 (cA 2) f), (ao, aL 1 (cA 5) (oJ (f_X1_letter (nI kw) f x1) Int32.toInt64 fo))] ++ R)) := hD
  refine lv_istore (lv' := [(6, .int (cd1 (f_X1_letter (nI kw) f x1))), (0, .ref b), (1, .ref ax), (2, .ref am), (3, .ref ao), (4, .ref ad), (5, .int (nI i))]) hx hb dL_law_1229 hl (by decide) rfl (fun ls hl => ?_)
  refine lv_aload_n hx hb dL_law_1231 rfl (lv_at hl 3 rfl) ?_
  refine lv_aload_n hx hb dL_law_1232 rfl (lv_at hl 1 rfl) ?_
  refine lv_iload hx hb dL_law_1233 (lv_at hl 6 rfl) ?_
  refine lv_iconst (v := 1) hx hb dL_law_1235 (by decide) ?_
  refine lv_iadd hx hb dL_law_1236 ?_
  refine va_sld hx hb hX hbl hbA hS (ix_in 1 rfl hi hL (by decide)) dL_law_1237 ?_
  rw [← hx1]
  have hPc := hP.sub (ws' := [(am, .inr (2, [.int th, .int wk, .int fl, .ref gs, .ref go, .ref gt, .ref gp, .ref gw, .double la, .double ea, .ref gl, .int (nI kw), .int fd])), (gl, aI 40 (cA 0) lf)]) [0, 1] rfl
  have hDc := hD.sub (ws' := [(am, .inr (2, [.int th, .int wk, .int fl, .ref gs, .ref go, .ref gt, .ref gp, .ref gw, .double la, .double ea, .ref gl, .int (nI kw), .int fd])), (gl, aI 40 (cA 0) lf)]) [0, 1] (by decide) rfl
  have hFc := va_free (wc := [(am, .inr (2, [.int th, .int wk, .int fl, .ref gs, .ref go, .ref gt, .ref gp, .ref gw, .double la, .double ea, .ref gl, .int (nI kw), .int fd])), (gl, aI 40 (cA 0) lf)]) hD hS hA [0, 1] rfl
  refine va_calli (va_runV (As := [.int x1]) (rest := []) ⟨hx, hb, hml, hown, hts⟩ (k_X2_letter l hst dC dI cA tm tt _ am gs go gt gp gw gl th wk fl la ea (nI kw) fd lf x1 (show nI kw ≤ nI 40 from nI_le (by omega) (by decide))) (cwV 1 hts gL_law_X2_letter rfl rfl rfl (by decide +kernel) ⟨Nat.le_of_ble_eq_true rfl, Nat.le_of_ble_eq_true rfl⟩) ⟨PcW.blind, va_recv hK hPc (ci := 2) (q0 := 0) rfl rfl, PcW.give hPc hK hDc hE hS hFc⟩ rfl rfl hl.1 rfl (lv_room (Nat.le_of_ble_eq_true rfl)) dL_law_1238 ⟨(show Cn + 1 ≤ 620239 by omega), (show Sn + 6 ≤ 7235387 by omega)⟩) hS (fun q _ h => hFc q h) hFc (fun r7 u t H locs ht hvm hr7 hB hz1 hk1 hS => ?_)
  subst hr7
  obtain ⟨hP1, hD1⟩ := hB
  rw [ht] at hP1
  obtain ⟨hP, hD⟩ := zj hP hD hk1 hFc hP1 hD1
  have hP : va_P (dC, dI) vwCl ([(am, .inr (2, [.int ((f_X2_letter (nI kw) lf x1).2), .int wk, .int fl, .ref gs, .ref go, .ref gt, .ref gp, .ref gw, .double la, .double ea, .ref gl, .int (nI kw), .int fd])), (gl, aI 40 (cA 0) lf)] ++ ([(ax, .inr (1, [.ref ab, .ref aw, .int (nI kw), .double la, .double ea, .int wk, .int fl])), (aw, aI 24 (cA 2) f), (ao, aL 1 (cA 5) (oJ (f_X1_letter (nI kw) f x1) Int32.toInt64 fo))] ++ R)) H := hP
  have hD : va_D A ([(am, .inr (2, [.int ((f_X2_letter (nI kw) lf x1).2), .int wk, .int fl, .ref gs, .ref go, .ref gt, .ref gp, .ref gw, .double la, .double ea, .ref gl, .int (nI kw), .int fd])), (gl, aI 40 (cA 0) lf)] ++ ([(ax, .inr (1, [.ref ab, .ref aw, .int (nI kw), .double la, .double ea, .int wk, .int fl])), (aw, aI 24 (cA 2) f), (ao, aL 1 (cA 5) (oJ (f_X1_letter (nI kw) f x1) Int32.toInt64 fo))] ++ R)) := hD
  refine lv_istore (lv' := [(7, .int ((f_X2_letter (nI kw) lf x1).1)), (6, .int (cd1 (f_X1_letter (nI kw) f x1))), (0, .ref b), (1, .ref ax), (2, .ref am), (3, .ref ao), (4, .ref ad), (5, .int (nI i))]) hx hb dL_law_1241 hl (by decide) rfl (fun ls hl => ?_)
  refine lv_aload_n hx hb dL_law_1243 rfl (lv_at hl 4 rfl) ?_
  have hPc := hP.sub (ws' := [(am, .inr (2, [.int ((f_X2_letter (nI kw) lf x1).2), .int wk, .int fl, .ref gs, .ref go, .ref gt, .ref gp, .ref gw, .double la, .double ea, .ref gl, .int (nI kw), .int fd]))]) [0] rfl
  refine vp_callSi (W.runV (As := []) (rest := []) ⟨hx, hb, hml, hown, hts⟩ (k_X2_thrown l dC dI cA tm tt am gs go gt gp gw gl ((f_X2_letter (nI kw) lf x1).2) wk fl la ea (nI kw) fd) (cwV 0 hts gL_law_X2_thrown rfl rfl rfl (by decide +kernel) ⟨Nat.le_of_ble_eq_true rfl, Nat.le_of_ble_eq_true rfl⟩) ⟨PcO.blind, va_recv hK hPc (ci := 2) (q0 := 0) rfl rfl, PcO.give hPc hK hE hS⟩ rfl rfl hl.1 rfl (lv_room (Nat.le_of_ble_eq_true rfl)) dL_law_1244 ⟨(show Cn + 1 ≤ 620239 by omega), (show Sn + 6 ≤ 7235387 by omega)⟩) (fun r hr9 => ?_)
  obtain rfl := hr9
  refine lv_iload hx hb dL_law_1247 (lv_at hl 1 rfl) ?_
  refine lv_icmp_eq (tgt := 1254) hx hb dL_law_1249 (by decide) (fun _ => ?_) (fun c_1 => absurd c_1 (fun h => h e9.1))
  refine lv_iload hx hb dL_law_1254 (lv_at hl 1 rfl) ?_
  refine lv_if_ne (tgt := 1271) hx hb dL_law_1256 (by decide) (fun c_2 => ?_) (fun c_2 => ?_)
  · refine lv_goto (tgt := 1438) hx hb dL_law_1271 (by decide) ?_
    obtain ⟨hP, hD⟩ := sw hP hD
    have hP : va_P (dC, dI) vwCl ([(ax, .inr (1, [.ref ab, .ref aw, .int (nI kw), .double la, .double ea, .int wk, .int fl])), (aw, aI 24 (cA 2) f), (ao, aL 1 (cA 5) (oJ (f_X1_letter (nI kw) f x1) Int32.toInt64 fo))] ++ ([(am, .inr (2, [.int ((f_X2_letter (nI kw) lf x1).2), .int wk, .int fl, .ref gs, .ref go, .ref gt, .ref gp, .ref gw, .double la, .double ea, .ref gl, .int (nI kw), .int fd])), (gl, aI 40 (cA 0) lf)] ++ R)) H := hP
    have hD : va_D A ([(ax, .inr (1, [.ref ab, .ref aw, .int (nI kw), .double la, .double ea, .int wk, .int fl])), (aw, aI 24 (cA 2) f), (ao, aL 1 (cA 5) (oJ (f_X1_letter (nI kw) f x1) Int32.toInt64 fo))] ++ ([(am, .inr (2, [.int ((f_X2_letter (nI kw) lf x1).2), .int wk, .int fl, .ref gs, .ref go, .ref gt, .ref gp, .ref gw, .double la, .double ea, .ref gl, .int (nI kw), .int fd])), (gl, aI 40 (cA 0) lf)] ++ R)) := hD
    refine W.widen (k := Cn + 66) (n := Sn + 396) (by omega) (by omega) ?_
    exact kk _ _ _ hP hD hS (lv_sub hl [2, 3, 4, 5, 6, 7] rfl)
  · obtain ⟨v9, hv9⟩ := cd1_ok0 c_2
    have e7 : (f_X2_letter (nI kw) lf x1).1 = v9 := e9.2 v9 hv9
    refine lv_aload_n hx hb dL_law_1259 rfl (lv_at hl 5 rfl) ?_
    refine lv_iconst (v := 0) hx hb dL_law_1260 (by decide) ?_
    refine va_lald hx hb hK hP 4 5 rfl rfl (show ¬ ((0 : Int32) < 0 ∨ 1 ≤ (0 : Int32).toNatClampNeg) by decide +kernel) dL_law_1261 ?_
    rw [show (oJ (f_X1_letter (nI kw) f x1) Int32.toInt64 fo) ((0 : Int32).toNatClampNeg) = Int32.toInt64 v9 from by rw [cl0]; exact oJ_0 hv9]
    refine lv_iload hx hb dL_law_1262 (lv_at hl 0 rfl) ?_
    refine lv_i2l hx hb dL_law_1264 rfl ?_
    refine zl_eq (tgt := 1271) hx hb dL_law_1265 dL_law_1266 (by decide) (fun _ => ?_) (fun c_3 => absurd c_3 (fun h => h (by rw [e7])))
    refine lv_goto (tgt := 1438) hx hb dL_law_1271 (by decide) ?_
    obtain ⟨hP, hD⟩ := sw hP hD
    have hP : va_P (dC, dI) vwCl ([(ax, .inr (1, [.ref ab, .ref aw, .int (nI kw), .double la, .double ea, .int wk, .int fl])), (aw, aI 24 (cA 2) f), (ao, aL 1 (cA 5) (oJ (f_X1_letter (nI kw) f x1) Int32.toInt64 fo))] ++ ([(am, .inr (2, [.int ((f_X2_letter (nI kw) lf x1).2), .int wk, .int fl, .ref gs, .ref go, .ref gt, .ref gp, .ref gw, .double la, .double ea, .ref gl, .int (nI kw), .int fd])), (gl, aI 40 (cA 0) lf)] ++ R)) H := hP
    have hD : va_D A ([(ax, .inr (1, [.ref ab, .ref aw, .int (nI kw), .double la, .double ea, .int wk, .int fl])), (aw, aI 24 (cA 2) f), (ao, aL 1 (cA 5) (oJ (f_X1_letter (nI kw) f x1) Int32.toInt64 fo))] ++ ([(am, .inr (2, [.int ((f_X2_letter (nI kw) lf x1).2), .int wk, .int fl, .ref gs, .ref go, .ref gt, .ref gp, .ref gw, .double la, .double ea, .ref gl, .int (nI kw), .int fd])), (gl, aI 40 (cA 0) lf)] ++ R)) := hD
    refine W.widen (k := Cn + 66) (n := Sn + 396) (by omega) (by omega) ?_
    exact kk _ _ _ hP hD hS (lv_sub hl [2, 3, 4, 5, 6, 7] rfl)
theorem wr_cd (x1 : UInt64) (x2 : Int32) (f g : Nat → Int32) : cd1 (f_X1_write x1 x2 f) = cd1 (f_X1_write x1 x2 g) := by
  unfold f_X1_write
  split
  · rfl
  · split
    · rfl
    · show (0 : Int32) = 0; rfl
theorem wr_ok {x1 : UInt64} {x2 : Int32} {f g : Nat → Int32} {v : Int32} (h : f_X1_write x1 x2 f = .ok v) : f_X1_write x1 x2 g = .ok v := by
  unfold f_X1_write at h ⊢
  split at h
  · cases h
  · rename_i c1
    rw [if_neg c1]
    split at h
    · cases h
    · rename_i c2
      rw [if_neg c2, ← (WRT_E x1 x2 f g).1]
      exact h
theorem nI_ite {c : Prop} {d : Decidable c} {a b : Nat} : @ite _ c d (nI a) (nI b) = nI (@ite _ c d a b) := by
  by_cases h : c
  · rw [if_pos h, if_pos h]
  · rw [if_neg h, if_neg h]
set_option maxHeartbeats 4000000 in
set_option maxRecDepth 100000 in
theorem cs_write {p : Program} {l : Launch} {e : Env} {s : State} {m : MethodId} {below : List Frame} {meth : Method} {c : Code} {b L : Nat} {xs : Nat → Int32} {Q : State → Prop} {A : Nat → Prop} {dC : Nat → ClassId} {dI : Nat → Nat → Nat} {cA : Nat → ClassId} {tm tt i Cn Sn : Nat} (hst : l.stackTraces = false) (C0 : LX p s m c b L xs dC dI cA tm tt A) (hi : i + 6 ≤ L) (hL : L ≤ 3072) (hC : Cn + 66 ≤ 620239) (hSn : Sn + 396 ≤ 7235387) (ax ab aw : Nat) (kw : Nat) (la ea : UInt64) (wk fl : Int32) (f0 : Nat → Int32) (am gs go gt gp gw gl : Nat) (th : Int32) (fd : Int32) (lf : Nat → Int32) (ao ad : Nat) (fo : Nat → Int64) (x1 : Int32) (hx1 : x1 = xs (Int32.toNatClampNeg (nI i + 1))) (x2 : Int32) (hx2 : x2 = xs (Int32.toNatClampNeg (nI i + 2))) (y1 : UInt64) (hy1 : y1 = FP.dmul (FP.i2d x1) 4593671619917905920)  (R : va_W) {H : Heap} {locs : List Loc} {ls : Array Slot} (hP : va_P (dC, dI) vwCl ([(ax, .inr (1, [.ref ab, .ref aw, .int (nI kw), .double la, .double ea, .int wk, .int fl])), (aw, aI 24 (cA 2) f0), (ao, aL 1 (cA 5) fo)] ++ ([(am, .inr (2, [.int th, .int wk, .int fl, .ref gs, .ref go, .ref gt, .ref gp, .ref gw, .double la, .double ea, .ref gl, .int (nI kw), .int fd])), (gl, aI 40 (cA 0) lf)] ++ R)) H) (hD : va_D A ([(ax, .inr (1, [.ref ab, .ref aw, .int (nI kw), .double la, .double ea, .int wk, .int fl])), (aw, aI 24 (cA 2) f0), (ao, aL 1 (cA 5) fo)] ++ ([(am, .inr (2, [.int th, .int wk, .int fl, .ref gs, .ref go, .ref gt, .ref gp, .ref gw, .double la, .double ea, .ref gl, .int (nI kw), .int fd])), (gl, aI 40 (cA 0) lf)] ++ R))) (hS : va_S A s.heap H locs) (hl : lv_has ls 9 [(0, .ref b), (1, .ref ax), (2, .ref am), (3, .ref ao), (4, .ref ad), (5, .int (nI i))])
    (kk : ∀ (H : Heap) (locs : List Loc) (ls : Array Slot), va_P (dC, dI) vwCl ([(ax, .inr (1, [.ref ab, .ref aw, .int (nI (if cd1 (f_X1_write y1 x2 f0) = 0 then (WRT y1 x2 f0).1 else kw)), .double la, .double ea, .int wk, .int fl])), (aw, aI 24 (cA 2) (if cd1 (f_X1_write y1 x2 f0) = 0 then (WRT y1 x2 f0).2 else f0)), (ao, aL 1 (cA 5) (oJ (f_X1_write y1 x2 f0) Int32.toInt64 fo))] ++ ([(am, .inr (2, [.int (cd1 (f_X1_write y1 x2 f0)), .int wk, .int fl, .ref gs, .ref go, .ref gt, .ref gp, .ref gw, .double la, .double ea, .ref gl, .int (nI (if cd1 (f_X1_write y1 x2 f0) = 0 then (WRT y1 x2 f0).1 else kw)), .int fd])), (gl, aI 40 (cA 0) (if cd1 (f_X1_write y1 x2 f0) = 0 then (WRT y1 x2 lf).2 else lf))] ++ R)) H → va_D A ([(ax, .inr (1, [.ref ab, .ref aw, .int (nI (if cd1 (f_X1_write y1 x2 f0) = 0 then (WRT y1 x2 f0).1 else kw)), .double la, .double ea, .int wk, .int fl])), (aw, aI 24 (cA 2) (if cd1 (f_X1_write y1 x2 f0) = 0 then (WRT y1 x2 f0).2 else f0)), (ao, aL 1 (cA 5) (oJ (f_X1_write y1 x2 f0) Int32.toInt64 fo))] ++ ([(am, .inr (2, [.int (cd1 (f_X1_write y1 x2 f0)), .int wk, .int fl, .ref gs, .ref go, .ref gt, .ref gp, .ref gw, .double la, .double ea, .ref gl, .int (nI (if cd1 (f_X1_write y1 x2 f0) = 0 then (WRT y1 x2 f0).1 else kw)), .int fd])), (gl, aI 40 (cA 0) (if cd1 (f_X1_write y1 x2 f0) = 0 then (WRT y1 x2 lf).2 else lf))] ++ R)) → va_S A s.heap H locs → lv_has ls 9 [(0, .ref b), (1, .ref ax), (2, .ref am), (3, .ref ao), (4, .ref ad), (5, .int (nI i))] → W p l e room_1 s m #[Value.ref b] below meth c H locs (Cn + 66) (Sn + 396) Q (F0 m 1438 ls []))
    : W p l e room_1 s m #[Value.ref b] below meth c H locs Cn Sn Q (F0 m 1140 ls []) := by
  obtain ⟨hx, hb, hml, hown, hts, hX, hbl, hbA, hA, hE, hN, hK⟩ := C0
  refine lv_aload_n hx hb dL_law_1140 rfl (lv_at hl 1 rfl) ?_
  refine lv_aload_n hx hb dL_law_1141 rfl (lv_at hl 0 rfl) ?_
  refine lv_iload hx hb dL_law_1142 (lv_at hl 5 rfl) ?_
  refine lv_iconst (v := 1) hx hb dL_law_1144 (by decide) ?_
  refine lv_iadd hx hb dL_law_1145 ?_
  refine va_sld hx hb hX hbl hbA hS (ix_in 1 rfl hi hL (by decide)) dL_law_1146 ?_
  rw [← hx1]
  refine lv_i2d hx hb dL_law_1147 ?_
  refine lv_ldc2d hx hb hown (hts _ cw92) dL_law_1148 ?_
  refine lv_dmul hx hb dL_law_1151 (fR_nn (e8_R x1)) ?_
  rw [← hy1]
  refine lv_aload_n hx hb dL_law_1152 rfl (lv_at hl 0 rfl) ?_
  refine lv_iload hx hb dL_law_1153 (lv_at hl 5 rfl) ?_
  refine lv_iconst (v := 2) hx hb dL_law_1155 (by decide) ?_
  refine lv_iadd hx hb dL_law_1156 ?_
  refine va_sld hx hb hX hbl hbA hS (ix_in 2 rfl hi hL (by decide)) dL_law_1157 ?_
  rw [← hx2]
  refine lv_aload_n hx hb dL_law_1158 rfl (lv_at hl 3 rfl) ?_
  have hPc := hP.sub (ws' := [(ax, .inr (1, [.ref ab, .ref aw, .int (nI kw), .double la, .double ea, .int wk, .int fl])), (aw, aI 24 (cA 2) f0), (ao, aL 1 (cA 5) fo)]) [0, 1, 2] rfl
  have hDc := hD.sub (ws' := [(ax, .inr (1, [.ref ab, .ref aw, .int (nI kw), .double la, .double ea, .int wk, .int fl])), (aw, aI 24 (cA 2) f0), (ao, aL 1 (cA 5) fo)]) [0, 1, 2] (by decide) rfl
  have hFc := va_free (wc := [(ax, .inr (1, [.ref ab, .ref aw, .int (nI kw), .double la, .double ea, .int wk, .int fl])), (aw, aI 24 (cA 2) f0), (ao, aL 1 (cA 5) fo)]) hD hS hA [0, 1, 2] rfl
  refine va_calli (vx_runSW (As := [.ref ax, .double y1, .int x2, .ref ao]) (rest := []) ⟨hx, hb, hml, hown, hts⟩ (k_L_write l hst dC dI cA tm tt _ ax ab aw (nI kw) la ea wk fl f0 ao fo y1 x2 (by rw [hy1]; exact e8_B x1)) (vx_cwSW 4 hts gL_law_L_write rfl rfl rfl (by decide +kernel) ⟨Nat.le_of_ble_eq_true rfl, Nat.le_of_ble_eq_true rfl⟩) ⟨PcL.blind, PcL.give hPc hK hDc hE hS hFc hN⟩ rfl rfl hl.1 rfl (lv_room (Nat.le_of_ble_eq_true rfl)) dL_law_1159 ⟨(show Cn + 1 ≤ 620239 by omega), (show Sn + 6 ≤ 7235387 by omega)⟩) hS (fun q _ h => hFc q h) hFc (fun r6 u t H locs ht hvm hr6 hB hz1 hk1 hS => ?_)
  subst hr6
  obtain ⟨hP1, hD1⟩ := hB
  rw [ht] at hP1
  obtain ⟨hP, hD⟩ := zj hP hD hk1 hFc hP1 hD1
  have hP : va_P (dC, dI) vwCl ([(ax, .inr (1, [.ref ab, .ref aw, .int (if cd1 (f_X1_write y1 x2 f0) = 0 then nI (WRT y1 x2 f0).1 else nI kw), .double la, .double ea, .int wk, .int fl])), (aw, aI 24 (cA 2) (if cd1 (f_X1_write y1 x2 f0) = 0 then (WRT y1 x2 f0).2 else f0)), (ao, aL 1 (cA 5) (oJ (f_X1_write y1 x2 f0) Int32.toInt64 fo))] ++ ([(am, .inr (2, [.int th, .int wk, .int fl, .ref gs, .ref go, .ref gt, .ref gp, .ref gw, .double la, .double ea, .ref gl, .int (nI kw), .int fd])), (gl, aI 40 (cA 0) lf)] ++ R)) H := hP
  have hD : va_D A ([(ax, .inr (1, [.ref ab, .ref aw, .int (if cd1 (f_X1_write y1 x2 f0) = 0 then nI (WRT y1 x2 f0).1 else nI kw), .double la, .double ea, .int wk, .int fl])), (aw, aI 24 (cA 2) (if cd1 (f_X1_write y1 x2 f0) = 0 then (WRT y1 x2 f0).2 else f0)), (ao, aL 1 (cA 5) (oJ (f_X1_write y1 x2 f0) Int32.toInt64 fo))] ++ ([(am, .inr (2, [.int th, .int wk, .int fl, .ref gs, .ref go, .ref gt, .ref gp, .ref gw, .double la, .double ea, .ref gl, .int (nI kw), .int fd])), (gl, aI 40 (cA 0) lf)] ++ R)) := hD
  obtain ⟨hP, hD⟩ := sw hP hD
  have hP : va_P (dC, dI) vwCl ([(am, .inr (2, [.int th, .int wk, .int fl, .ref gs, .ref go, .ref gt, .ref gp, .ref gw, .double la, .double ea, .ref gl, .int (nI kw), .int fd])), (gl, aI 40 (cA 0) lf)] ++ ([(ax, .inr (1, [.ref ab, .ref aw, .int (if cd1 (f_X1_write y1 x2 f0) = 0 then nI (WRT y1 x2 f0).1 else nI kw), .double la, .double ea, .int wk, .int fl])), (aw, aI 24 (cA 2) (if cd1 (f_X1_write y1 x2 f0) = 0 then (WRT y1 x2 f0).2 else f0)), (ao, aL 1 (cA 5) (oJ (f_X1_write y1 x2 f0) Int32.toInt64 fo))] ++ R)) H := hP
  have hD : va_D A ([(am, .inr (2, [.int th, .int wk, .int fl, .ref gs, .ref go, .ref gt, .ref gp, .ref gw, .double la, .double ea, .ref gl, .int (nI kw), .int fd])), (gl, aI 40 (cA 0) lf)] ++ ([(ax, .inr (1, [.ref ab, .ref aw, .int (if cd1 (f_X1_write y1 x2 f0) = 0 then nI (WRT y1 x2 f0).1 else nI kw), .double la, .double ea, .int wk, .int fl])), (aw, aI 24 (cA 2) (if cd1 (f_X1_write y1 x2 f0) = 0 then (WRT y1 x2 f0).2 else f0)), (ao, aL 1 (cA 5) (oJ (f_X1_write y1 x2 f0) Int32.toInt64 fo))] ++ R)) := hD
  refine lv_istore (lv' := [(6, .int (cd1 (f_X1_write y1 x2 f0))), (0, .ref b), (1, .ref ax), (2, .ref am), (3, .ref ao), (4, .ref ad), (5, .int (nI i))]) hx hb dL_law_1162 hl (by decide) rfl (fun ls hl => ?_)
  refine lv_aload_n hx hb dL_law_1164 rfl (lv_at hl 3 rfl) ?_
  refine lv_aload_n hx hb dL_law_1165 rfl (lv_at hl 1 rfl) ?_
  refine lv_iload hx hb dL_law_1166 (lv_at hl 6 rfl) ?_
  refine lv_iconst (v := 1) hx hb dL_law_1168 (by decide) ?_
  refine lv_iadd hx hb dL_law_1169 ?_
  refine va_sld hx hb hX hbl hbA hS (ix_in 1 rfl hi hL (by decide)) dL_law_1170 ?_
  rw [← hx1]
  refine lv_i2d hx hb dL_law_1171 ?_
  refine lv_ldc2d hx hb hown (hts _ cw92) dL_law_1172 ?_
  refine lv_dmul hx hb dL_law_1175 (fR_nn (e8_R x1)) ?_
  rw [← hy1]
  refine lv_aload_n hx hb dL_law_1176 rfl (lv_at hl 1 rfl) ?_
  refine lv_iload hx hb dL_law_1177 (lv_at hl 6 rfl) ?_
  refine lv_iconst (v := 2) hx hb dL_law_1179 (by decide) ?_
  refine lv_iadd hx hb dL_law_1180 ?_
  refine va_sld hx hb hX hbl hbA hS (ix_in 2 rfl hi hL (by decide)) dL_law_1181 ?_
  rw [← hx2]
  have hPc := hP.sub (ws' := [(am, .inr (2, [.int th, .int wk, .int fl, .ref gs, .ref go, .ref gt, .ref gp, .ref gw, .double la, .double ea, .ref gl, .int (nI kw), .int fd])), (gl, aI 40 (cA 0) lf)]) [0, 1] rfl
  have hDc := hD.sub (ws' := [(am, .inr (2, [.int th, .int wk, .int fl, .ref gs, .ref go, .ref gt, .ref gp, .ref gw, .double la, .double ea, .ref gl, .int (nI kw), .int fd])), (gl, aI 40 (cA 0) lf)]) [0, 1] (by decide) rfl
  have hFc := va_free (wc := [(am, .inr (2, [.int th, .int wk, .int fl, .ref gs, .ref go, .ref gt, .ref gp, .ref gw, .double la, .double ea, .ref gl, .int (nI kw), .int fd])), (gl, aI 40 (cA 0) lf)]) hD hS hA [0, 1] rfl
  refine va_calli (va_runV (As := [.double y1, .int x2]) (rest := []) ⟨hx, hb, hml, hown, hts⟩ (k_X2_write l hst dC dI cA tm tt _ am gs go gt gp gw gl th wk fl la ea (nI kw) fd lf y1 x2 (by rw [hy1]; exact e8_B x1)) (cwV 2 hts gL_law_X2_write rfl rfl rfl (by decide +kernel) ⟨Nat.le_of_ble_eq_true rfl, Nat.le_of_ble_eq_true rfl⟩) ⟨PcW.blind, va_recv hK hPc (ci := 2) (q0 := 0) rfl rfl, PcW.give hPc hK hDc hE hS hFc⟩ rfl rfl hl.1 rfl (lv_room (Nat.le_of_ble_eq_true rfl)) dL_law_1182 ⟨(show Cn + 1 ≤ 620239 by omega), (show Sn + 6 ≤ 7235387 by omega)⟩) hS (fun q _ h => hFc q h) hFc (fun r7 u t H locs ht hvm hr7 hB hz1 hk1 hS => ?_)
  obtain ⟨hP1, hD1⟩ := hB
  rw [ht] at hP1
  obtain ⟨hP, hD⟩ := zj hP hD hk1 hFc hP1 hD1
  have hP : va_P (dC, dI) vwCl ([(am, .inr (2, [.int (cd1 (f_X1_write y1 x2 lf)), .int wk, .int fl, .ref gs, .ref go, .ref gt, .ref gp, .ref gw, .double la, .double ea, .ref gl, .int (if cd1 (f_X1_write y1 x2 lf) = 0 then nI (WRT y1 x2 lf).1 else nI kw), .int fd])), (gl, aI 40 (cA 0) (if cd1 (f_X1_write y1 x2 lf) = 0 then (WRT y1 x2 lf).2 else lf))] ++ ([(ax, .inr (1, [.ref ab, .ref aw, .int (if cd1 (f_X1_write y1 x2 f0) = 0 then nI (WRT y1 x2 f0).1 else nI kw), .double la, .double ea, .int wk, .int fl])), (aw, aI 24 (cA 2) (if cd1 (f_X1_write y1 x2 f0) = 0 then (WRT y1 x2 f0).2 else f0)), (ao, aL 1 (cA 5) (oJ (f_X1_write y1 x2 f0) Int32.toInt64 fo))] ++ R)) H := hP
  have hD : va_D A ([(am, .inr (2, [.int (cd1 (f_X1_write y1 x2 lf)), .int wk, .int fl, .ref gs, .ref go, .ref gt, .ref gp, .ref gw, .double la, .double ea, .ref gl, .int (if cd1 (f_X1_write y1 x2 lf) = 0 then nI (WRT y1 x2 lf).1 else nI kw), .int fd])), (gl, aI 40 (cA 0) (if cd1 (f_X1_write y1 x2 lf) = 0 then (WRT y1 x2 lf).2 else lf))] ++ ([(ax, .inr (1, [.ref ab, .ref aw, .int (if cd1 (f_X1_write y1 x2 f0) = 0 then nI (WRT y1 x2 f0).1 else nI kw), .double la, .double ea, .int wk, .int fl])), (aw, aI 24 (cA 2) (if cd1 (f_X1_write y1 x2 f0) = 0 then (WRT y1 x2 f0).2 else f0)), (ao, aL 1 (cA 5) (oJ (f_X1_write y1 x2 f0) Int32.toInt64 fo))] ++ R)) := hD
  refine lv_istore (lv' := [(7, .int r7), (6, .int (cd1 (f_X1_write y1 x2 f0))), (0, .ref b), (1, .ref ax), (2, .ref am), (3, .ref ao), (4, .ref ad), (5, .int (nI i))]) hx hb dL_law_1185 hl (by decide) rfl (fun ls hl => ?_)
  refine lv_aload_n hx hb dL_law_1187 rfl (lv_at hl 4 rfl) ?_
  have hPc := hP.sub (ws' := [(am, .inr (2, [.int (cd1 (f_X1_write y1 x2 lf)), .int wk, .int fl, .ref gs, .ref go, .ref gt, .ref gp, .ref gw, .double la, .double ea, .ref gl, .int (if cd1 (f_X1_write y1 x2 lf) = 0 then nI (WRT y1 x2 lf).1 else nI kw), .int fd]))]) [0] rfl
  refine vp_callSi (W.runV (As := []) (rest := []) ⟨hx, hb, hml, hown, hts⟩ (k_X2_thrown l dC dI cA tm tt am gs go gt gp gw gl (cd1 (f_X1_write y1 x2 lf)) wk fl la ea (if cd1 (f_X1_write y1 x2 lf) = 0 then nI (WRT y1 x2 lf).1 else nI kw) fd) (cwV 0 hts gL_law_X2_thrown rfl rfl rfl (by decide +kernel) ⟨Nat.le_of_ble_eq_true rfl, Nat.le_of_ble_eq_true rfl⟩) ⟨PcO.blind, va_recv hK hPc (ci := 2) (q0 := 0) rfl rfl, PcO.give hPc hK hE hS⟩ rfl rfl hl.1 rfl (lv_room (Nat.le_of_ble_eq_true rfl)) dL_law_1188 ⟨(show Cn + 1 ≤ 620239 by omega), (show Sn + 6 ≤ 7235387 by omega)⟩) (fun r hr9 => ?_)
  obtain rfl := hr9
  refine lv_iload hx hb dL_law_1191 (lv_at hl 1 rfl) ?_
  refine lv_icmp_eq (tgt := 1198) hx hb dL_law_1193 (by decide) (fun _ => ?_) (fun c_1 => absurd c_1 (fun h => h (wr_cd y1 x2 lf f0)))
  refine lv_iload hx hb dL_law_1198 (lv_at hl 1 rfl) ?_
  refine lv_if_ne (tgt := 1215) hx hb dL_law_1200 (by decide) (fun c_2 => ?_) (fun c_2 => ?_)
  · refine lv_goto (tgt := 1438) hx hb dL_law_1215 (by decide) ?_
    obtain ⟨hP, hD⟩ := sw hP hD
    have hP : va_P (dC, dI) vwCl ([(ax, .inr (1, [.ref ab, .ref aw, .int (if cd1 (f_X1_write y1 x2 f0) = 0 then nI (WRT y1 x2 f0).1 else nI kw), .double la, .double ea, .int wk, .int fl])), (aw, aI 24 (cA 2) (if cd1 (f_X1_write y1 x2 f0) = 0 then (WRT y1 x2 f0).2 else f0)), (ao, aL 1 (cA 5) (oJ (f_X1_write y1 x2 f0) Int32.toInt64 fo))] ++ ([(am, .inr (2, [.int (cd1 (f_X1_write y1 x2 lf)), .int wk, .int fl, .ref gs, .ref go, .ref gt, .ref gp, .ref gw, .double la, .double ea, .ref gl, .int (if cd1 (f_X1_write y1 x2 lf) = 0 then nI (WRT y1 x2 lf).1 else nI kw), .int fd])), (gl, aI 40 (cA 0) (if cd1 (f_X1_write y1 x2 lf) = 0 then (WRT y1 x2 lf).2 else lf))] ++ R)) H := hP
    have hD : va_D A ([(ax, .inr (1, [.ref ab, .ref aw, .int (if cd1 (f_X1_write y1 x2 f0) = 0 then nI (WRT y1 x2 f0).1 else nI kw), .double la, .double ea, .int wk, .int fl])), (aw, aI 24 (cA 2) (if cd1 (f_X1_write y1 x2 f0) = 0 then (WRT y1 x2 f0).2 else f0)), (ao, aL 1 (cA 5) (oJ (f_X1_write y1 x2 f0) Int32.toInt64 fo))] ++ ([(am, .inr (2, [.int (cd1 (f_X1_write y1 x2 lf)), .int wk, .int fl, .ref gs, .ref go, .ref gt, .ref gp, .ref gw, .double la, .double ea, .ref gl, .int (if cd1 (f_X1_write y1 x2 lf) = 0 then nI (WRT y1 x2 lf).1 else nI kw), .int fd])), (gl, aI 40 (cA 0) (if cd1 (f_X1_write y1 x2 lf) = 0 then (WRT y1 x2 lf).2 else lf))] ++ R)) := hD
    rw [wr_cd y1 x2 lf f0, ← (WRT_E y1 x2 f0 lf).1, nI_ite] at hP hD
    have hP : va_P (dC, dI) vwCl ([(ax, .inr (1, [.ref ab, .ref aw, .int (nI (if cd1 (f_X1_write y1 x2 f0) = 0 then (WRT y1 x2 f0).1 else kw)), .double la, .double ea, .int wk, .int fl])), (aw, aI 24 (cA 2) (if cd1 (f_X1_write y1 x2 f0) = 0 then (WRT y1 x2 f0).2 else f0)), (ao, aL 1 (cA 5) (oJ (f_X1_write y1 x2 f0) Int32.toInt64 fo))] ++ ([(am, .inr (2, [.int (cd1 (f_X1_write y1 x2 f0)), .int wk, .int fl, .ref gs, .ref go, .ref gt, .ref gp, .ref gw, .double la, .double ea, .ref gl, .int (nI (if cd1 (f_X1_write y1 x2 f0) = 0 then (WRT y1 x2 f0).1 else kw)), .int fd])), (gl, aI 40 (cA 0) (if cd1 (f_X1_write y1 x2 f0) = 0 then (WRT y1 x2 lf).2 else lf))] ++ R)) H := hP
    have hD : va_D A ([(ax, .inr (1, [.ref ab, .ref aw, .int (nI (if cd1 (f_X1_write y1 x2 f0) = 0 then (WRT y1 x2 f0).1 else kw)), .double la, .double ea, .int wk, .int fl])), (aw, aI 24 (cA 2) (if cd1 (f_X1_write y1 x2 f0) = 0 then (WRT y1 x2 f0).2 else f0)), (ao, aL 1 (cA 5) (oJ (f_X1_write y1 x2 f0) Int32.toInt64 fo))] ++ ([(am, .inr (2, [.int (cd1 (f_X1_write y1 x2 f0)), .int wk, .int fl, .ref gs, .ref go, .ref gt, .ref gp, .ref gw, .double la, .double ea, .ref gl, .int (nI (if cd1 (f_X1_write y1 x2 f0) = 0 then (WRT y1 x2 f0).1 else kw)), .int fd])), (gl, aI 40 (cA 0) (if cd1 (f_X1_write y1 x2 f0) = 0 then (WRT y1 x2 lf).2 else lf))] ++ R)) := hD
    refine W.widen (k := Cn + 66) (n := Sn + 396) (by omega) (by omega) ?_
    exact kk _ _ _ hP hD hS (lv_sub hl [2, 3, 4, 5, 6, 7] rfl)
  · obtain ⟨v9, hv9⟩ := cd1_ok0 c_2
    have e7 : r7 = v9 := hr7 v9 (wr_ok hv9)
    refine lv_aload_n hx hb dL_law_1203 rfl (lv_at hl 5 rfl) ?_
    refine lv_iconst (v := 0) hx hb dL_law_1204 (by decide) ?_
    refine va_lald hx hb hK hP 4 5 rfl rfl (show ¬ ((0 : Int32) < 0 ∨ 1 ≤ (0 : Int32).toNatClampNeg) by decide +kernel) dL_law_1205 ?_
    rw [show (oJ (f_X1_write y1 x2 f0) Int32.toInt64 fo) ((0 : Int32).toNatClampNeg) = Int32.toInt64 v9 from by rw [cl0]; exact oJ_0 hv9]
    refine lv_iload hx hb dL_law_1206 (lv_at hl 0 rfl) ?_
    refine lv_i2l hx hb dL_law_1208 rfl ?_
    refine zl_eq (tgt := 1215) hx hb dL_law_1209 dL_law_1210 (by decide) (fun _ => ?_) (fun c_3 => absurd c_3 (fun h => h (by rw [e7])))
    refine lv_goto (tgt := 1438) hx hb dL_law_1215 (by decide) ?_
    obtain ⟨hP, hD⟩ := sw hP hD
    have hP : va_P (dC, dI) vwCl ([(ax, .inr (1, [.ref ab, .ref aw, .int (if cd1 (f_X1_write y1 x2 f0) = 0 then nI (WRT y1 x2 f0).1 else nI kw), .double la, .double ea, .int wk, .int fl])), (aw, aI 24 (cA 2) (if cd1 (f_X1_write y1 x2 f0) = 0 then (WRT y1 x2 f0).2 else f0)), (ao, aL 1 (cA 5) (oJ (f_X1_write y1 x2 f0) Int32.toInt64 fo))] ++ ([(am, .inr (2, [.int (cd1 (f_X1_write y1 x2 lf)), .int wk, .int fl, .ref gs, .ref go, .ref gt, .ref gp, .ref gw, .double la, .double ea, .ref gl, .int (if cd1 (f_X1_write y1 x2 lf) = 0 then nI (WRT y1 x2 lf).1 else nI kw), .int fd])), (gl, aI 40 (cA 0) (if cd1 (f_X1_write y1 x2 lf) = 0 then (WRT y1 x2 lf).2 else lf))] ++ R)) H := hP
    have hD : va_D A ([(ax, .inr (1, [.ref ab, .ref aw, .int (if cd1 (f_X1_write y1 x2 f0) = 0 then nI (WRT y1 x2 f0).1 else nI kw), .double la, .double ea, .int wk, .int fl])), (aw, aI 24 (cA 2) (if cd1 (f_X1_write y1 x2 f0) = 0 then (WRT y1 x2 f0).2 else f0)), (ao, aL 1 (cA 5) (oJ (f_X1_write y1 x2 f0) Int32.toInt64 fo))] ++ ([(am, .inr (2, [.int (cd1 (f_X1_write y1 x2 lf)), .int wk, .int fl, .ref gs, .ref go, .ref gt, .ref gp, .ref gw, .double la, .double ea, .ref gl, .int (if cd1 (f_X1_write y1 x2 lf) = 0 then nI (WRT y1 x2 lf).1 else nI kw), .int fd])), (gl, aI 40 (cA 0) (if cd1 (f_X1_write y1 x2 lf) = 0 then (WRT y1 x2 lf).2 else lf))] ++ R)) := hD
    rw [wr_cd y1 x2 lf f0, ← (WRT_E y1 x2 f0 lf).1, nI_ite] at hP hD
    have hP : va_P (dC, dI) vwCl ([(ax, .inr (1, [.ref ab, .ref aw, .int (nI (if cd1 (f_X1_write y1 x2 f0) = 0 then (WRT y1 x2 f0).1 else kw)), .double la, .double ea, .int wk, .int fl])), (aw, aI 24 (cA 2) (if cd1 (f_X1_write y1 x2 f0) = 0 then (WRT y1 x2 f0).2 else f0)), (ao, aL 1 (cA 5) (oJ (f_X1_write y1 x2 f0) Int32.toInt64 fo))] ++ ([(am, .inr (2, [.int (cd1 (f_X1_write y1 x2 f0)), .int wk, .int fl, .ref gs, .ref go, .ref gt, .ref gp, .ref gw, .double la, .double ea, .ref gl, .int (nI (if cd1 (f_X1_write y1 x2 f0) = 0 then (WRT y1 x2 f0).1 else kw)), .int fd])), (gl, aI 40 (cA 0) (if cd1 (f_X1_write y1 x2 f0) = 0 then (WRT y1 x2 lf).2 else lf))] ++ R)) H := hP
    have hD : va_D A ([(ax, .inr (1, [.ref ab, .ref aw, .int (nI (if cd1 (f_X1_write y1 x2 f0) = 0 then (WRT y1 x2 f0).1 else kw)), .double la, .double ea, .int wk, .int fl])), (aw, aI 24 (cA 2) (if cd1 (f_X1_write y1 x2 f0) = 0 then (WRT y1 x2 f0).2 else f0)), (ao, aL 1 (cA 5) (oJ (f_X1_write y1 x2 f0) Int32.toInt64 fo))] ++ ([(am, .inr (2, [.int (cd1 (f_X1_write y1 x2 f0)), .int wk, .int fl, .ref gs, .ref go, .ref gt, .ref gp, .ref gw, .double la, .double ea, .ref gl, .int (nI (if cd1 (f_X1_write y1 x2 f0) = 0 then (WRT y1 x2 f0).1 else kw)), .int fd])), (gl, aI 40 (cA 0) (if cd1 (f_X1_write y1 x2 f0) = 0 then (WRT y1 x2 lf).2 else lf))] ++ R)) := hD
    refine W.widen (k := Cn + 66) (n := Sn + 396) (by omega) (by omega) ?_
    exact kk _ _ _ hP hD hS (lv_sub hl [2, 3, 4, 5, 6, 7] rfl)
end
