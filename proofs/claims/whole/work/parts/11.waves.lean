set_option maxHeartbeats 4000000 in
set_option maxRecDepth 100000 in
theorem k_X1_red (l : Launch) (x0 : UInt64) (h0 : fR x0 (-1208925819614629174706176) 1208925819614629174706176) : Met l yX1_red wsX1_red ({ frames := 0, cells := 0, slots := 0, locals := 0 }) (fun v _ => v = ([.double x0] : List Value).toArray) (vp_Sd (fun r => r = RED x0)) 0 0 (fun _ => False) := by
  refine Met.ofW (cc := cX1_red) (maxL := 4) (ret := (some .double)) (by decide) rfl ?_
  intro p e s m args below meth c s₁ B hml hv
  obtain rfl := hv
  have hx := B.exec
  have hb := B.bytes
  have hr := B.returns
  have hts := atoms_spec (ws := wsX1_red) B.pre
  have hown : s.vm.findClass RX1 = some m.cls := findClass_of_methodNamed B.named
  have hlocks := B.notSynchronized
  have hl := lv_entry ([.double x0]) (n := 4) (Nat.le_of_ble_eq_true rfl)
  rw [lg_entry_eq]
  generalize (lg_sl ([.double x0]) ++ List.replicate (4 - (lg_sl ([.double x0])).length) Slot.unset).toArray = ls at hl ⊢
  have hl : lv_has ls 4 [(0, .double x0)] := hl
  obtain ⟨r1, r2, r3, r4, r5, r6⟩ := rd_all h0
  refine lv_dload_n hx hb dX1_red_0 rfl (lv_at hl 0 rfl) ?_
  refine lv_ldc2 hx hb hown (hts (.constantLong RX1 345 (360)) (by decide +kernel)) dX1_red_1 ?_
  refine lv_dload_n hx hb dX1_red_4 rfl (lv_at hl 0 rfl) ?_
  refine lv_ldc2d hx hb hown (hts (.constantDouble RX1 143 (4645040803167600640)) (by decide +kernel)) dX1_red_5 ?_
  have r_1 : fR 4645040803167600640 386547056640 386547056640 := fR_lit (by decide +kernel)
  refine lv_ddiv hx hb dX1_red_8 (fR_nn r1) ?_
  refine lv_d2l hx hb dX1_red_9 ?_
  refine lv_lmul hx hb dX1_red_10 ?_
  refine lv_l2d hx hb dX1_red_11 ?_
  rw [show FP.l2d (360 * FP.d2l (FP.ddiv x0 4645040803167600640)) = FP.dmul c360 (FP.l2d (rd_n x0)) from r3]
  refine lv_dsub hx hb dX1_red_12 (fR_nn r4) ?_
  refine lv_dstore_n (lv' := [(2, .double (rd_v x0)), (0, .double x0)]) hx hb dX1_red_13 rfl hl (by decide) rfl (fun ls hl => ?_)
  refine lv_dload_n hx hb dX1_red_14 rfl (lv_at hl 0 rfl) ?_
  refine lv_dconst0 hx hb dX1_red_15 ?_
  have r_2 : fR FP.dconst0 0 0 := fR_lit (by decide +kernel)
  refine zd_g_ge (tgt := 26) hx hb dX1_red_16 dX1_red_17 (by decide) (fun c_3 => ?_) (fun c_3 => ?_)
  · refine lv_dload_n hx hb dX1_red_26 rfl (lv_at hl 0 rfl) ?_
    refine lv_ldc2d hx hb hown (hts (.constantDouble RX1 143 (4645040803167600640)) (by decide +kernel)) dX1_red_27 ?_
    have r_4 : fR 4645040803167600640 386547056640 386547056640 := fR_lit (by decide +kernel)
    refine zd_l_ne (tgt := 38) hx hb dX1_red_30 dX1_red_31 (by decide) (fun c_5 => ?_) (fun c_5 => ?_)
    · refine lv_dload_n hx hb dX1_red_38 rfl (lv_at hl 0 rfl) ?_
      exact W.dret hx hb hr (fun t ht _ => ⟨_, rfl, (by unfold RED; rw [if_neg c_3, if_neg c_5]), ht⟩) (fun _ h => nomatch h) dX1_red_39
    · refine lv_dconst0 hx hb dX1_red_34 ?_
      have r_6 : fR FP.dconst0 0 0 := fR_lit (by decide +kernel)
      refine lv_goto (tgt := 39) hx hb dX1_red_35 (by decide) ?_
      exact W.dret hx hb hr (fun t ht _ => ⟨_, rfl, (by unfold RED; rw [if_neg c_3, if_pos c_5]), ht⟩) (fun _ h => nomatch h) dX1_red_39
  · refine lv_dload_n hx hb dX1_red_20 rfl (lv_at hl 0 rfl) ?_
    refine lv_ldc2d hx hb hown (hts (.constantDouble RX1 143 (4645040803167600640)) (by decide +kernel)) dX1_red_21 ?_
    have r_7 : fR 4645040803167600640 386547056640 386547056640 := fR_lit (by decide +kernel)
    refine lv_dadd hx hb dX1_red_24 (fR_nn (r5 c_3)) ?_
    refine lv_dstore_n (lv' := [(2, .double (FP.dadd (rd_v x0) 4645040803167600640)), (0, .double x0)]) hx hb dX1_red_25 rfl hl (by decide) rfl (fun ls hl => ?_)
    refine lv_dload_n hx hb dX1_red_26 rfl (lv_at hl 0 rfl) ?_
    refine lv_ldc2d hx hb hown (hts (.constantDouble RX1 143 (4645040803167600640)) (by decide +kernel)) dX1_red_27 ?_
    have r_8 : fR 4645040803167600640 386547056640 386547056640 := fR_lit (by decide +kernel)
    refine zd_l_ne (tgt := 38) hx hb dX1_red_30 dX1_red_31 (by decide) (fun c_9 => ?_) (fun c_9 => ?_)
    · refine lv_dload_n hx hb dX1_red_38 rfl (lv_at hl 0 rfl) ?_
      exact W.dret hx hb hr (fun t ht _ => ⟨_, rfl, (by unfold RED; rw [if_pos c_3, if_neg c_9]), ht⟩) (fun _ h => nomatch h) dX1_red_39
    · refine lv_dconst0 hx hb dX1_red_34 ?_
      have r_10 : fR FP.dconst0 0 0 := fR_lit (by decide +kernel)
      refine lv_goto (tgt := 39) hx hb dX1_red_35 (by decide) ?_
      exact W.dret hx hb hr (fun t ht _ => ⟨_, rfl, (by unfold RED; rw [if_pos c_3, if_pos c_9]), ht⟩) (fun _ h => nomatch h) dX1_red_39

set_option maxHeartbeats 4000000 in
set_option maxRecDepth 100000 in
theorem k_X2_red (l : Launch) (x0 : UInt64) (h0 : fR x0 (-1208925819614629174706176) 1208925819614629174706176) : Met l yX2_red wsX2_red ({ frames := 0, cells := 0, slots := 0, locals := 0 }) (fun v _ => v = ([.double x0] : List Value).toArray) (vp_Sd (fun r => r = RED x0)) 0 0 (fun _ => False) := by
  refine Met.ofW (cc := cX2_red) (maxL := 6) (ret := (some .double)) (by decide) rfl ?_
  intro p e s m args below meth c s₁ B hml hv
  obtain rfl := hv
  have hx := B.exec
  have hb := B.bytes
  have hr := B.returns
  have hts := atoms_spec (ws := wsX2_red) B.pre
  have hown : s.vm.findClass RX2 = some m.cls := findClass_of_methodNamed B.named
  have hlocks := B.notSynchronized
  have hl := lv_entry ([.double x0]) (n := 6) (Nat.le_of_ble_eq_true rfl)
  rw [lg_entry_eq]
  generalize (lg_sl ([.double x0]) ++ List.replicate (6 - (lg_sl ([.double x0])).length) Slot.unset).toArray = ls at hl ⊢
  have hl : lv_has ls 6 [(0, .double x0)] := hl
  obtain ⟨r1, r2, r3, r4, r5, r6⟩ := rd_all h0
  refine lv_dload_n hx hb dX2_red_0 rfl (lv_at hl 0 rfl) ?_
  refine lv_ldc2d hx hb hown (hts (.constantDouble RX2 114 (4645040803167600640)) (by decide +kernel)) dX2_red_1 ?_
  have r_1 : fR 4645040803167600640 386547056640 386547056640 := fR_lit (by decide +kernel)
  refine lv_ddiv hx hb dX2_red_4 (fR_nn r1) ?_
  refine lv_d2l hx hb dX2_red_5 ?_
  refine lv_l2d hx hb dX2_red_6 ?_
  refine lv_dstore_n (lv' := [(2, .double (FP.l2d (rd_n x0))), (0, .double x0)]) hx hb dX2_red_7 rfl hl (by decide) rfl (fun ls hl => ?_)
  refine lv_dload_n hx hb dX2_red_8 rfl (lv_at hl 1 rfl) ?_
  refine lv_ldc2d hx hb hown (hts (.constantDouble RX2 114 (4645040803167600640)) (by decide +kernel)) dX2_red_9 ?_
  have r_2 : fR 4645040803167600640 386547056640 386547056640 := fR_lit (by decide +kernel)
  refine lv_dload_n hx hb dX2_red_12 rfl (lv_at hl 0 rfl) ?_
  refine lv_dmul hx hb dX2_red_13 (fR_nn r2) ?_
  refine lv_dsub hx hb dX2_red_14 (fR_nn r4) ?_
  refine lv_dstore (lv' := [(4, .double (rd_v x0)), (2, .double (FP.l2d (rd_n x0))), (0, .double x0)]) hx hb dX2_red_15 hl (by decide) rfl (fun ls hl => ?_)
  refine lv_dload hx hb dX2_red_17 (lv_at hl 0 rfl) ?_
  refine lv_dconst0 hx hb dX2_red_19 ?_
  have r_3 : fR FP.dconst0 0 0 := fR_lit (by decide +kernel)
  refine zd_g_ge (tgt := 33) hx hb dX2_red_20 dX2_red_21 (by decide) (fun c_4 => ?_) (fun c_4 => ?_)
  · refine lv_dload hx hb dX2_red_33 (lv_at hl 0 rfl) ?_
    refine lv_dstore (lv' := [(4, .double (rd_v x0)), (2, .double (FP.l2d (rd_n x0))), (0, .double x0)]) hx hb dX2_red_35 hl (by decide) rfl (fun ls hl => ?_)
    refine lv_dload hx hb dX2_red_37 (lv_at hl 0 rfl) ?_
    refine lv_ldc2d hx hb hown (hts (.constantDouble RX2 114 (4645040803167600640)) (by decide +kernel)) dX2_red_39 ?_
    have r_5 : fR 4645040803167600640 386547056640 386547056640 := fR_lit (by decide +kernel)
    refine zd_l_ne (tgt := 50) hx hb dX2_red_42 dX2_red_43 (by decide) (fun c_6 => ?_) (fun c_6 => ?_)
    · refine lv_dload hx hb dX2_red_50 (lv_at hl 0 rfl) ?_
      exact W.dret hx hb hr (fun t ht _ => ⟨_, rfl, (by unfold RED; rw [if_neg c_4, if_neg c_6]), ht⟩) (fun _ h => nomatch h) dX2_red_52
    · refine lv_dconst0 hx hb dX2_red_46 ?_
      have r_7 : fR FP.dconst0 0 0 := fR_lit (by decide +kernel)
      refine lv_goto (tgt := 52) hx hb dX2_red_47 (by decide) ?_
      exact W.dret hx hb hr (fun t ht _ => ⟨_, rfl, (by unfold RED; rw [if_neg c_4, if_pos c_6]), ht⟩) (fun _ h => nomatch h) dX2_red_52
  · refine lv_dload hx hb dX2_red_24 (lv_at hl 0 rfl) ?_
    refine lv_ldc2d hx hb hown (hts (.constantDouble RX2 114 (4645040803167600640)) (by decide +kernel)) dX2_red_26 ?_
    have r_8 : fR 4645040803167600640 386547056640 386547056640 := fR_lit (by decide +kernel)
    refine lv_dadd hx hb dX2_red_29 (fR_nn (r5 c_4)) ?_
    refine lv_goto (tgt := 35) hx hb dX2_red_30 (by decide) ?_
    refine lv_dstore (lv' := [(4, .double (FP.dadd (rd_v x0) 4645040803167600640)), (2, .double (FP.l2d (rd_n x0))), (0, .double x0)]) hx hb dX2_red_35 hl (by decide) rfl (fun ls hl => ?_)
    refine lv_dload hx hb dX2_red_37 (lv_at hl 0 rfl) ?_
    refine lv_ldc2d hx hb hown (hts (.constantDouble RX2 114 (4645040803167600640)) (by decide +kernel)) dX2_red_39 ?_
    have r_9 : fR 4645040803167600640 386547056640 386547056640 := fR_lit (by decide +kernel)
    refine zd_l_ne (tgt := 50) hx hb dX2_red_42 dX2_red_43 (by decide) (fun c_10 => ?_) (fun c_10 => ?_)
    · refine lv_dload hx hb dX2_red_50 (lv_at hl 0 rfl) ?_
      exact W.dret hx hb hr (fun t ht _ => ⟨_, rfl, (by unfold RED; rw [if_pos c_4, if_neg c_10]), ht⟩) (fun _ h => nomatch h) dX2_red_52
    · refine lv_dconst0 hx hb dX2_red_46 ?_
      have r_11 : fR FP.dconst0 0 0 := fR_lit (by decide +kernel)
      refine lv_goto (tgt := 52) hx hb dX2_red_47 (by decide) ?_
      exact W.dret hx hb hr (fun t ht _ => ⟨_, rfl, (by unfold RED; rw [if_pos c_4, if_pos c_10]), ht⟩) (fun _ h => nomatch h) dX2_red_52

abbrev cRad : UInt64 := 4580687790476533049
def wv_r (x : UInt64) : UInt64 := FP.dmul (FP.dsub x (FP.dmul c90 (FP.l2d (FP.d2l (wv_z x))))) cRad
def wv_q (x : UInt64) : UInt64 := FP.dmul (wv_r x) (wv_r x)
def wv_u (x : UInt64) : UInt64 := FP.dmul (wv_r x) (FP.dadd FP.dconst1 (FP.dmul (wv_q x) (FP.dadd 13818544856648471893 (FP.dmul (wv_q x) (FP.dadd 4575957461383581969 (FP.dmul (wv_q x) (FP.dadd 13774824197408792602 (FP.dmul (wv_q x) 4523617214285662004))))))))
def wv_v (x : UInt64) : UInt64 := FP.dadd FP.dconst1 (FP.dmul (wv_q x) (FP.dadd 13826050856027422720 (FP.dmul (wv_q x) (FP.dadd 4586165620538955093 (FP.dmul (wv_q x) (FP.dadd 13787419979223755799 (FP.dmul (wv_q x) (FP.dadd 4537941361671905306 (FP.dmul (wv_q x) 13732177094651715420)))))))))
set_option maxRecDepth 100000 in
theorem wv_uv {x0 : UInt64} (h0 : fR x0 0 386547056640) : fR (wv_u x0) (-862055226) 862055226 ∧ fR (wv_v x0) 727690661 1073741824 := by
  obtain ⟨⟨w1, w2, w3⟩, w4⟩ := wv_k h0
  have r_1 : fR 4636033603912859648 96636764160 96636764160 := fR_lit (by decide +kernel)
  have r_2 := fR_div h0 r_1 (by decide) 0 4294967296 (by decide) (by decide) rfl rfl
  have r_3 : fR 4602678819172646912 536870912 536870912 := fR_lit (by decide +kernel)
  have r_4 := fR_add r_2 r_3 536870912 4831838208 (by decide) (by decide) rfl rfl
  have r_5 : fR 4580687790476533049 18740330 18740331 := fR_lit (by decide +kernel)
  have r_6 := fR_mul w3 r_5 (-862055226) 862055226 (by decide) (by decide) rfl rfl
  have r_7 := fR_sq r_6 692102325 (by decide) rfl
  have r_8 : fR FP.dconst1 1073741824 1073741824 := fR_lit (by decide +kernel)
  have r_9 : fR 13818544856648471893 (-178956971) (-178956970) := fR_lit (by decide +kernel)
  have r_10 : fR 4575957461383581969 8947848 8947849 := fR_lit (by decide +kernel)
  have r_11 : fR 13774824197408792602 (-213045) (-213044) := fR_lit (by decide +kernel)
  have r_12 : fR 4523617214285662004 2958 2959 := fR_lit (by decide +kernel)
  have r_13 := fR_mul r_7 r_12 0 1908 (by decide) (by decide) rfl rfl
  have r_14 := fR_add r_11 r_13 (-213045) (-211136) (by decide) (by decide) rfl rfl
  have r_15 := fR_mul r_7 r_14 (-137323) 0 (by decide) (by decide) rfl rfl
  have r_16 := fR_add r_10 r_15 8810525 8947849 (by decide) (by decide) rfl rfl
  have r_17 := fR_mul r_7 r_16 0 5767520 (by decide) (by decide) rfl rfl
  have r_18 := fR_add r_9 r_17 (-178956971) (-173189450) (by decide) (by decide) rfl rfl
  have r_19 := fR_mul r_7 r_18 (-115350388) 0 (by decide) (by decide) rfl rfl
  have r_20 := fR_add r_8 r_19 958391436 1073741824 (by decide) (by decide) rfl rfl
  have r_21 := fR_mul r_6 r_20 (-862055226) 862055226 (by decide) (by decide) rfl rfl
  have r_22 : fR FP.dconst1 1073741824 1073741824 := fR_lit (by decide +kernel)
  have r_23 : fR 13826050856027422720 (-536870912) (-536870912) := fR_lit (by decide +kernel)
  have r_24 : fR 4586165620538955093 44739242 44739243 := fR_lit (by decide +kernel)
  have r_25 : fR 13787419979223755799 (-1491309) (-1491308) := fR_lit (by decide +kernel)
  have r_26 : fR 4537941361671905306 26630 26631 := fR_lit (by decide +kernel)
  have r_27 : fR 13732177094651715420 (-296) (-295) := fR_lit (by decide +kernel)
  have r_28 := fR_mul r_7 r_27 (-191) 0 (by decide) (by decide) rfl rfl
  have r_29 := fR_add r_26 r_28 26439 26631 (by decide) (by decide) rfl rfl
  have r_30 := fR_mul r_7 r_29 0 17166 (by decide) (by decide) rfl rfl
  have r_31 := fR_add r_25 r_30 (-1491309) (-1474142) (by decide) (by decide) rfl rfl
  have r_32 := fR_mul r_7 r_31 (-961254) 0 (by decide) (by decide) rfl rfl
  have r_33 := fR_add r_24 r_32 43777988 44739243 (by decide) (by decide) rfl rfl
  have r_34 := fR_mul r_7 r_33 0 28837598 (by decide) (by decide) rfl rfl
  have r_35 := fR_add r_23 r_34 (-536870912) (-508033314) (by decide) (by decide) rfl rfl
  have r_36 := fR_mul r_7 r_35 (-346051163) 0 (by decide) (by decide) rfl rfl
  have r_37 := fR_add r_22 r_36 727690661 1073741824 (by decide) (by decide) rfl rfl
  exact ⟨r_21, r_37⟩
def f_X1_waveAt_108_0 (x0 : UInt64) (x1 : Int32) : Int32 := ((FP.d2i (wv_z x0)) + x1) - ((FP.d2i (wv_z x0)) + x1) / 4 * 4
def f_X1_waveAt (x0 : UInt64) (x1 : Int32) : UInt64 := if ((f_X1_waveAt_108_0 x0 x1) - (f_X1_waveAt_108_0 x0 x1) / 2 * 2) = 0 then (if 2 ≤ (f_X1_waveAt_108_0 x0 x1) then (FP.dneg (wv_u x0)) else (wv_u x0)) else (if 2 ≤ (f_X1_waveAt_108_0 x0 x1) then (FP.dneg (wv_v x0)) else (wv_v x0))
set_option maxHeartbeats 4000000 in
set_option maxRecDepth 100000 in
theorem k_X1_waveAt (l : Launch) (x0 : UInt64) (x1 : Int32) (h0 : fR x0 0 386547056640) : Met l yX1_waveAt wsX1_waveAt ({ frames := 0, cells := 0, slots := 0, locals := 0 }) (fun v _ => v = ([.double x0, .int x1] : List Value).toArray) (vp_Sd (fun r => r = f_X1_waveAt x0 x1)) 0 0 (fun _ => False) := by
  refine Met.ofW (cc := cX1_waveAt) (maxL := 15) (ret := (some .double)) (by decide) rfl ?_
  intro p e s m args below meth c s₁ B hml hv
  obtain rfl := hv
  have hx := B.exec
  have hb := B.bytes
  have hr := B.returns
  have hts := atoms_spec (ws := wsX1_waveAt) B.pre
  have hown : s.vm.findClass RX1 = some m.cls := findClass_of_methodNamed B.named
  have hlocks := B.notSynchronized
  have hl := lv_entry ([.double x0, .int x1]) (n := 15) (Nat.le_of_ble_eq_true rfl)
  rw [lg_entry_eq]
  generalize (lg_sl ([.double x0, .int x1]) ++ List.replicate (15 - (lg_sl ([.double x0, .int x1])).length) Slot.unset).toArray = ls at hl ⊢
  have hl : lv_has ls 15 [(0, .double x0), (2, .int x1)] := hl
  obtain ⟨⟨w1, w2, w3⟩, w4⟩ := wv_k h0
  refine lv_dload_n hx hb dX1_waveAt_0 rfl (lv_at hl 0 rfl) ?_
  refine lv_ldc2d hx hb hown (hts (.constantDouble RX1 206 (4636033603912859648)) (by decide +kernel)) dX1_waveAt_1 ?_
  have r_1 : fR 4636033603912859648 96636764160 96636764160 := fR_lit (by decide +kernel)
  have r_2 := fR_div h0 r_1 (by decide) 0 4294967296 (by decide) (by decide) rfl rfl
  refine lv_ddiv hx hb dX1_waveAt_4 (fR_nn r_2) ?_
  refine lv_ldc2d hx hb hown (hts (.constantDouble RX1 249 (4602678819172646912)) (by decide +kernel)) dX1_waveAt_5 ?_
  have r_3 : fR 4602678819172646912 536870912 536870912 := fR_lit (by decide +kernel)
  have r_4 := fR_add r_2 r_3 536870912 4831838208 (by decide) (by decide) rfl rfl
  refine lv_dadd hx hb dX1_waveAt_8 (fR_nn r_4) ?_
  refine lv_d2i hx hb dX1_waveAt_9 ?_
  refine lv_istore_n (lv' := [(3, .int (FP.d2i (wv_z x0))), (0, .double x0), (2, .int x1)]) hx hb dX1_waveAt_10 rfl hl (by decide) rfl (fun ls hl => ?_)
  refine lv_dload_n hx hb dX1_waveAt_11 rfl (lv_at hl 1 rfl) ?_
  refine lv_bipush (v := 90) hx hb dX1_waveAt_12 (by decide) ?_
  refine lv_iload_n hx hb dX1_waveAt_14 rfl (lv_at hl 0 rfl) ?_
  refine lv_imul hx hb dX1_waveAt_15 ?_
  refine lv_i2d hx hb dX1_waveAt_16 ?_
  rw [w1]
  refine lv_dsub hx hb dX1_waveAt_17 (fR_nn w3) ?_
  refine lv_ldc2d hx hb hown (hts (.constantDouble RX1 371 (4580687790476533049)) (by decide +kernel)) dX1_waveAt_18 ?_
  have r_5 : fR 4580687790476533049 18740330 18740331 := fR_lit (by decide +kernel)
  have r_6 := fR_mul w3 r_5 (-862055226) 862055226 (by decide) (by decide) rfl rfl
  refine lv_dmul hx hb dX1_waveAt_21 (fR_nn r_6) ?_
  refine lv_dstore (lv' := [(4, .double (wv_r x0)), (3, .int (FP.d2i (wv_z x0))), (0, .double x0), (2, .int x1)]) hx hb dX1_waveAt_22 hl (by decide) rfl (fun ls hl => ?_)
  refine lv_dload hx hb dX1_waveAt_24 (lv_at hl 0 rfl) ?_
  refine lv_dload hx hb dX1_waveAt_26 (lv_at hl 0 rfl) ?_
  have r_7 := fR_sq r_6 692102325 (by decide) rfl
  refine lv_dmul hx hb dX1_waveAt_28 (fR_nn r_7) ?_
  refine lv_dstore (lv' := [(6, .double (wv_q x0)), (4, .double (wv_r x0)), (3, .int (FP.d2i (wv_z x0))), (0, .double x0), (2, .int x1)]) hx hb dX1_waveAt_29 hl (by decide) rfl (fun ls hl => ?_)
  refine lv_dload hx hb dX1_waveAt_31 (lv_at hl 1 rfl) ?_
  refine lv_dconst1 hx hb dX1_waveAt_33 ?_
  have r_8 : fR FP.dconst1 1073741824 1073741824 := fR_lit (by decide +kernel)
  refine lv_dload hx hb dX1_waveAt_34 (lv_at hl 0 rfl) ?_
  refine lv_ldc2d hx hb hown (hts (.constantDouble RX1 373 (13818544856648471893)) (by decide +kernel)) dX1_waveAt_36 ?_
  have r_9 : fR 13818544856648471893 (-178956971) (-178956970) := fR_lit (by decide +kernel)
  refine lv_dload hx hb dX1_waveAt_39 (lv_at hl 0 rfl) ?_
  refine lv_ldc2d hx hb hown (hts (.constantDouble RX1 375 (4575957461383581969)) (by decide +kernel)) dX1_waveAt_41 ?_
  have r_10 : fR 4575957461383581969 8947848 8947849 := fR_lit (by decide +kernel)
  refine lv_dload hx hb dX1_waveAt_44 (lv_at hl 0 rfl) ?_
  refine lv_ldc2d hx hb hown (hts (.constantDouble RX1 377 (13774824197408792602)) (by decide +kernel)) dX1_waveAt_46 ?_
  have r_11 : fR 13774824197408792602 (-213045) (-213044) := fR_lit (by decide +kernel)
  refine lv_dload hx hb dX1_waveAt_49 (lv_at hl 0 rfl) ?_
  refine lv_ldc2d hx hb hown (hts (.constantDouble RX1 379 (4523617214285662004)) (by decide +kernel)) dX1_waveAt_51 ?_
  have r_12 : fR 4523617214285662004 2958 2959 := fR_lit (by decide +kernel)
  have r_13 := fR_mul r_7 r_12 0 1908 (by decide) (by decide) rfl rfl
  refine lv_dmul hx hb dX1_waveAt_54 (fR_nn r_13) ?_
  have r_14 := fR_add r_11 r_13 (-213045) (-211136) (by decide) (by decide) rfl rfl
  refine lv_dadd hx hb dX1_waveAt_55 (fR_nn r_14) ?_
  have r_15 := fR_mul r_7 r_14 (-137323) 0 (by decide) (by decide) rfl rfl
  refine lv_dmul hx hb dX1_waveAt_56 (fR_nn r_15) ?_
  have r_16 := fR_add r_10 r_15 8810525 8947849 (by decide) (by decide) rfl rfl
  refine lv_dadd hx hb dX1_waveAt_57 (fR_nn r_16) ?_
  have r_17 := fR_mul r_7 r_16 0 5767520 (by decide) (by decide) rfl rfl
  refine lv_dmul hx hb dX1_waveAt_58 (fR_nn r_17) ?_
  have r_18 := fR_add r_9 r_17 (-178956971) (-173189450) (by decide) (by decide) rfl rfl
  refine lv_dadd hx hb dX1_waveAt_59 (fR_nn r_18) ?_
  have r_19 := fR_mul r_7 r_18 (-115350388) 0 (by decide) (by decide) rfl rfl
  refine lv_dmul hx hb dX1_waveAt_60 (fR_nn r_19) ?_
  have r_20 := fR_add r_8 r_19 958391436 1073741824 (by decide) (by decide) rfl rfl
  refine lv_dadd hx hb dX1_waveAt_61 (fR_nn r_20) ?_
  have r_21 := fR_mul r_6 r_20 (-862055226) 862055226 (by decide) (by decide) rfl rfl
  refine lv_dmul hx hb dX1_waveAt_62 (fR_nn r_21) ?_
  refine lv_dstore (lv' := [(8, .double (wv_u x0)), (6, .double (wv_q x0)), (4, .double (wv_r x0)), (3, .int (FP.d2i (wv_z x0))), (0, .double x0), (2, .int x1)]) hx hb dX1_waveAt_63 hl (by decide) rfl (fun ls hl => ?_)
  refine lv_dconst1 hx hb dX1_waveAt_65 ?_
  have r_22 : fR FP.dconst1 1073741824 1073741824 := fR_lit (by decide +kernel)
  refine lv_dload hx hb dX1_waveAt_66 (lv_at hl 1 rfl) ?_
  refine lv_ldc2d hx hb hown (hts (.constantDouble RX1 381 (13826050856027422720)) (by decide +kernel)) dX1_waveAt_68 ?_
  have r_23 : fR 13826050856027422720 (-536870912) (-536870912) := fR_lit (by decide +kernel)
  refine lv_dload hx hb dX1_waveAt_71 (lv_at hl 1 rfl) ?_
  refine lv_ldc2d hx hb hown (hts (.constantDouble RX1 383 (4586165620538955093)) (by decide +kernel)) dX1_waveAt_73 ?_
  have r_24 : fR 4586165620538955093 44739242 44739243 := fR_lit (by decide +kernel)
  refine lv_dload hx hb dX1_waveAt_76 (lv_at hl 1 rfl) ?_
  refine lv_ldc2d hx hb hown (hts (.constantDouble RX1 385 (13787419979223755799)) (by decide +kernel)) dX1_waveAt_78 ?_
  have r_25 : fR 13787419979223755799 (-1491309) (-1491308) := fR_lit (by decide +kernel)
  refine lv_dload hx hb dX1_waveAt_81 (lv_at hl 1 rfl) ?_
  refine lv_ldc2d hx hb hown (hts (.constantDouble RX1 387 (4537941361671905306)) (by decide +kernel)) dX1_waveAt_83 ?_
  have r_26 : fR 4537941361671905306 26630 26631 := fR_lit (by decide +kernel)
  refine lv_dload hx hb dX1_waveAt_86 (lv_at hl 1 rfl) ?_
  refine lv_ldc2d hx hb hown (hts (.constantDouble RX1 389 (13732177094651715420)) (by decide +kernel)) dX1_waveAt_88 ?_
  have r_27 : fR 13732177094651715420 (-296) (-295) := fR_lit (by decide +kernel)
  have r_28 := fR_mul r_7 r_27 (-191) 0 (by decide) (by decide) rfl rfl
  refine lv_dmul hx hb dX1_waveAt_91 (fR_nn r_28) ?_
  have r_29 := fR_add r_26 r_28 26439 26631 (by decide) (by decide) rfl rfl
  refine lv_dadd hx hb dX1_waveAt_92 (fR_nn r_29) ?_
  have r_30 := fR_mul r_7 r_29 0 17166 (by decide) (by decide) rfl rfl
  refine lv_dmul hx hb dX1_waveAt_93 (fR_nn r_30) ?_
  have r_31 := fR_add r_25 r_30 (-1491309) (-1474142) (by decide) (by decide) rfl rfl
  refine lv_dadd hx hb dX1_waveAt_94 (fR_nn r_31) ?_
  have r_32 := fR_mul r_7 r_31 (-961254) 0 (by decide) (by decide) rfl rfl
  refine lv_dmul hx hb dX1_waveAt_95 (fR_nn r_32) ?_
  have r_33 := fR_add r_24 r_32 43777988 44739243 (by decide) (by decide) rfl rfl
  refine lv_dadd hx hb dX1_waveAt_96 (fR_nn r_33) ?_
  have r_34 := fR_mul r_7 r_33 0 28837598 (by decide) (by decide) rfl rfl
  refine lv_dmul hx hb dX1_waveAt_97 (fR_nn r_34) ?_
  have r_35 := fR_add r_23 r_34 (-536870912) (-508033314) (by decide) (by decide) rfl rfl
  refine lv_dadd hx hb dX1_waveAt_98 (fR_nn r_35) ?_
  have r_36 := fR_mul r_7 r_35 (-346051163) 0 (by decide) (by decide) rfl rfl
  refine lv_dmul hx hb dX1_waveAt_99 (fR_nn r_36) ?_
  have r_37 := fR_add r_22 r_36 727690661 1073741824 (by decide) (by decide) rfl rfl
  refine lv_dadd hx hb dX1_waveAt_100 (fR_nn r_37) ?_
  refine lv_dstore (lv' := [(10, .double (wv_v x0)), (8, .double (wv_u x0)), (6, .double (wv_q x0)), (4, .double (wv_r x0)), (3, .int (FP.d2i (wv_z x0))), (0, .double x0), (2, .int x1)]) hx hb dX1_waveAt_101 hl (by decide) rfl (fun ls hl => ?_)
  refine lv_iload_n hx hb dX1_waveAt_103 rfl (lv_at hl 4 rfl) ?_
  refine lv_iload_n hx hb dX1_waveAt_104 rfl (lv_at hl 6 rfl) ?_
  refine lv_iadd hx hb dX1_waveAt_105 ?_
  refine lv_iconst (v := 4) hx hb dX1_waveAt_106 (by decide) ?_
  refine lv_irem hx hb dX1_waveAt_107 (by decide) ?_
  refine lv_istore (lv' := [(12, .int (f_X1_waveAt_108_0 x0 x1)), (10, .double (wv_v x0)), (8, .double (wv_u x0)), (6, .double (wv_q x0)), (4, .double (wv_r x0)), (3, .int (FP.d2i (wv_z x0))), (0, .double x0), (2, .int x1)]) hx hb dX1_waveAt_108 hl (by decide) rfl (fun ls hl => ?_)
  refine lv_iload hx hb dX1_waveAt_110 (lv_at hl 0 rfl) ?_
  refine lv_iconst (v := 2) hx hb dX1_waveAt_112 (by decide) ?_
  refine lv_irem hx hb dX1_waveAt_113 (by decide) ?_
  refine lv_if_ne (tgt := 122) hx hb dX1_waveAt_114 (by decide) (fun c_38 => ?_) (fun c_38 => ?_)
  · refine lv_dload hx hb dX1_waveAt_122 (lv_at hl 1 rfl) ?_
    refine lv_dstore (lv' := [(13, .double (wv_v x0)), (12, .int (f_X1_waveAt_108_0 x0 x1)), (10, .double (wv_v x0)), (8, .double (wv_u x0)), (6, .double (wv_q x0)), (4, .double (wv_r x0)), (3, .int (FP.d2i (wv_z x0))), (0, .double x0), (2, .int x1)]) hx hb dX1_waveAt_124 hl (by decide) rfl (fun ls hl => ?_)
    refine lv_iload hx hb dX1_waveAt_126 (lv_at hl 1 rfl) ?_
    refine lv_iconst (v := 2) hx hb dX1_waveAt_128 (by decide) ?_
    refine lv_icmp_ge (tgt := 137) hx hb dX1_waveAt_129 (by decide) (fun c_39 => ?_) (fun c_39 => ?_)
    · refine lv_dload hx hb dX1_waveAt_137 (lv_at hl 0 rfl) ?_
      have r_40 := fR_neg r_37
      refine lv_dneg hx hb dX1_waveAt_139 ?_
      exact W.dret hx hb hr (fun t ht _ => ⟨_, rfl, (by unfold f_X1_waveAt; rw [if_neg c_38, if_pos c_39]), ht⟩) (fun _ h => nomatch h) dX1_waveAt_140
    · refine lv_dload hx hb dX1_waveAt_132 (lv_at hl 0 rfl) ?_
      refine lv_goto (tgt := 140) hx hb dX1_waveAt_134 (by decide) ?_
      exact W.dret hx hb hr (fun t ht _ => ⟨_, rfl, (by unfold f_X1_waveAt; rw [if_neg c_38, if_neg c_39]), ht⟩) (fun _ h => nomatch h) dX1_waveAt_140
  · refine lv_dload hx hb dX1_waveAt_117 (lv_at hl 2 rfl) ?_
    refine lv_goto (tgt := 124) hx hb dX1_waveAt_119 (by decide) ?_
    refine lv_dstore (lv' := [(13, .double (wv_u x0)), (12, .int (f_X1_waveAt_108_0 x0 x1)), (10, .double (wv_v x0)), (8, .double (wv_u x0)), (6, .double (wv_q x0)), (4, .double (wv_r x0)), (3, .int (FP.d2i (wv_z x0))), (0, .double x0), (2, .int x1)]) hx hb dX1_waveAt_124 hl (by decide) rfl (fun ls hl => ?_)
    refine lv_iload hx hb dX1_waveAt_126 (lv_at hl 1 rfl) ?_
    refine lv_iconst (v := 2) hx hb dX1_waveAt_128 (by decide) ?_
    refine lv_icmp_ge (tgt := 137) hx hb dX1_waveAt_129 (by decide) (fun c_41 => ?_) (fun c_41 => ?_)
    · refine lv_dload hx hb dX1_waveAt_137 (lv_at hl 0 rfl) ?_
      have r_42 := fR_neg r_21
      refine lv_dneg hx hb dX1_waveAt_139 ?_
      exact W.dret hx hb hr (fun t ht _ => ⟨_, rfl, (by unfold f_X1_waveAt; rw [if_pos c_38, if_pos c_41]), ht⟩) (fun _ h => nomatch h) dX1_waveAt_140
    · refine lv_dload hx hb dX1_waveAt_132 (lv_at hl 0 rfl) ?_
      refine lv_goto (tgt := 140) hx hb dX1_waveAt_134 (by decide) ?_
      exact W.dret hx hb hr (fun t ht _ => ⟨_, rfl, (by unfold f_X1_waveAt; rw [if_pos c_38, if_neg c_41]), ht⟩) (fun _ h => nomatch h) dX1_waveAt_140

def SIN (x0 : UInt64) : UInt64 := f_X1_waveAt (RED x0) 0
set_option maxHeartbeats 4000000 in
set_option maxRecDepth 100000 in
theorem k_X1_sine (l : Launch) (x0 : UInt64) (h0 : fR x0 (-1208925819614629174706176) 1208925819614629174706176) : Met l yX1_sine wsX1_sine ({ frames := 1, cells := 0, slots := 0, locals := 34 }) (fun v _ => v = ([.double x0] : List Value).toArray) (vp_Sd (fun r => r = SIN x0)) 0 0 (fun _ => False) := by
  refine Met.ofW (cc := cX1_sine) (maxL := 2) (ret := (some .double)) (by decide) rfl ?_
  intro p e s m args below meth c s₁ B hml hv
  obtain rfl := hv
  have hx := B.exec
  have hb := B.bytes
  have hr := B.returns
  have hts := atoms_spec (ws := wsX1_sine) B.pre
  have hown : s.vm.findClass RX1 = some m.cls := findClass_of_methodNamed B.named
  have hlocks := B.notSynchronized
  have hl := lv_entry ([.double x0]) (n := 2) (Nat.le_of_ble_eq_true rfl)
  rw [lg_entry_eq]
  generalize (lg_sl ([.double x0]) ++ List.replicate (2 - (lg_sl ([.double x0])).length) Slot.unset).toArray = ls at hl ⊢
  have hl : lv_has ls 2 [(0, .double x0)] := hl
  refine lv_dload_n hx hb dX1_sine_0 rfl (lv_at hl 0 rfl) ?_
  refine vp_callSd (W.runS (As := [.double x0]) (rest := []) ⟨hx, hb, hml, hown, hts⟩ (k_X1_red l x0 h0) (va_cwS 1 hts gX1_sine_X1_red rfl rfl rfl (by decide +kernel) ⟨Nat.le_of_ble_eq_true rfl, Nat.le_of_ble_eq_true rfl⟩) preEq rfl rfl hl.1 rfl (lv_room (Nat.le_of_ble_eq_true rfl)) dX1_sine_1 ⟨Nat.zero_le _, Nat.zero_le _⟩) (fun r hr9 => ?_)
  obtain rfl := hr9
  have r_1 := RED_R h0
  refine lv_iconst (v := 0) hx hb dX1_sine_4 (by decide) ?_
  refine vp_callSd (W.runS (As := [.double (RED x0), .int 0]) (rest := []) ⟨hx, hb, hml, hown, hts⟩ (k_X1_waveAt l (RED x0) 0 r_1) (va_cwS 2 hts gX1_sine_X1_waveAt rfl rfl rfl (by decide +kernel) ⟨Nat.le_of_ble_eq_true rfl, Nat.le_of_ble_eq_true rfl⟩) preEq rfl rfl hl.1 rfl (lv_room (Nat.le_of_ble_eq_true rfl)) dX1_sine_5 ⟨Nat.zero_le _, Nat.zero_le _⟩) (fun r hr9 => ?_)
  obtain rfl := hr9
  exact W.dret hx hb hr (fun t ht _ => ⟨_, rfl, rfl, ht⟩) (fun _ h => nomatch h) dX1_sine_8

def COS (x0 : UInt64) : UInt64 := f_X1_waveAt (RED x0) 1
set_option maxHeartbeats 4000000 in
set_option maxRecDepth 100000 in
theorem k_X1_cosine (l : Launch) (x0 : UInt64) (h0 : fR x0 (-1208925819614629174706176) 1208925819614629174706176) : Met l yX1_cosine wsX1_cosine ({ frames := 1, cells := 0, slots := 0, locals := 34 }) (fun v _ => v = ([.double x0] : List Value).toArray) (vp_Sd (fun r => r = COS x0)) 0 0 (fun _ => False) := by
  refine Met.ofW (cc := cX1_cosine) (maxL := 2) (ret := (some .double)) (by decide) rfl ?_
  intro p e s m args below meth c s₁ B hml hv
  obtain rfl := hv
  have hx := B.exec
  have hb := B.bytes
  have hr := B.returns
  have hts := atoms_spec (ws := wsX1_cosine) B.pre
  have hown : s.vm.findClass RX1 = some m.cls := findClass_of_methodNamed B.named
  have hlocks := B.notSynchronized
  have hl := lv_entry ([.double x0]) (n := 2) (Nat.le_of_ble_eq_true rfl)
  rw [lg_entry_eq]
  generalize (lg_sl ([.double x0]) ++ List.replicate (2 - (lg_sl ([.double x0])).length) Slot.unset).toArray = ls at hl ⊢
  have hl : lv_has ls 2 [(0, .double x0)] := hl
  refine lv_dload_n hx hb dX1_cosine_0 rfl (lv_at hl 0 rfl) ?_
  refine vp_callSd (W.runS (As := [.double x0]) (rest := []) ⟨hx, hb, hml, hown, hts⟩ (k_X1_red l x0 h0) (va_cwS 1 hts gX1_cosine_X1_red rfl rfl rfl (by decide +kernel) ⟨Nat.le_of_ble_eq_true rfl, Nat.le_of_ble_eq_true rfl⟩) preEq rfl rfl hl.1 rfl (lv_room (Nat.le_of_ble_eq_true rfl)) dX1_cosine_1 ⟨Nat.zero_le _, Nat.zero_le _⟩) (fun r hr9 => ?_)
  obtain rfl := hr9
  have r_1 := RED_R h0
  refine lv_iconst (v := 1) hx hb dX1_cosine_4 (by decide) ?_
  refine vp_callSd (W.runS (As := [.double (RED x0), .int 1]) (rest := []) ⟨hx, hb, hml, hown, hts⟩ (k_X1_waveAt l (RED x0) 1 r_1) (va_cwS 2 hts gX1_cosine_X1_waveAt rfl rfl rfl (by decide +kernel) ⟨Nat.le_of_ble_eq_true rfl, Nat.le_of_ble_eq_true rfl⟩) preEq rfl rfl hl.1 rfl (lv_room (Nat.le_of_ble_eq_true rfl)) dX1_cosine_5 ⟨Nat.zero_le _, Nat.zero_le _⟩) (fun r hr9 => ?_)
  obtain rfl := hr9
  exact W.dret hx hb hr (fun t ht _ => ⟨_, rfl, rfl, ht⟩) (fun _ h => nomatch h) dX1_cosine_8

def f_X2_wave_117_0 (x0 : UInt64) : Int64 := (FP.d2l (wv_z (RED x0))) - (FP.d2l (wv_z (RED x0))) / 4 * 4
def f_X2_wave (x0 : UInt64) (x1 : Int32) : UInt64 := if x1 = 0 then (if (f_X2_wave_117_0 x0) = 0 then (wv_v (RED x0)) else (if (f_X2_wave_117_0 x0) = 1 then (FP.dneg (wv_u (RED x0))) else (if (f_X2_wave_117_0 x0) = 2 then (FP.dneg (wv_v (RED x0))) else (wv_u (RED x0))))) else (if (f_X2_wave_117_0 x0) = 0 then (wv_u (RED x0)) else (if (f_X2_wave_117_0 x0) = 1 then (wv_v (RED x0)) else (if (f_X2_wave_117_0 x0) = 2 then (FP.dneg (wv_u (RED x0))) else (FP.dneg (wv_v (RED x0))))))
set_option maxHeartbeats 4000000 in
set_option maxRecDepth 100000 in
theorem k_X2_wave (l : Launch) (x0 : UInt64) (x1 : Int32) (h0 : fR x0 (-1208925819614629174706176) 1208925819614629174706176) : Met l yX2_wave wsX2_wave ({ frames := 1, cells := 0, slots := 0, locals := 25 }) (fun v _ => v = ([.double x0, .int x1] : List Value).toArray) (vp_Sd (fun r => r = f_X2_wave x0 x1)) 0 0 (fun _ => False) := by
  refine Met.ofW (cc := cX2_wave) (maxL := 17) (ret := (some .double)) (by decide) rfl ?_
  intro p e s m args below meth c s₁ B hml hv
  obtain rfl := hv
  have hx := B.exec
  have hb := B.bytes
  have hr := B.returns
  have hts := atoms_spec (ws := wsX2_wave) B.pre
  have hown : s.vm.findClass RX2 = some m.cls := findClass_of_methodNamed B.named
  have hlocks := B.notSynchronized
  have hl := lv_entry ([.double x0, .int x1]) (n := 17) (Nat.le_of_ble_eq_true rfl)
  rw [lg_entry_eq]
  generalize (lg_sl ([.double x0, .int x1]) ++ List.replicate (17 - (lg_sl ([.double x0, .int x1])).length) Slot.unset).toArray = ls at hl ⊢
  have hl : lv_has ls 17 [(0, .double x0), (2, .int x1)] := hl
  obtain ⟨⟨w1, w2, w3⟩, w4⟩ := wv_k (RED_R h0)
  refine lv_dload_n hx hb dX2_wave_0 rfl (lv_at hl 0 rfl) ?_
  refine vp_callSd (W.runS (As := [.double x0]) (rest := []) ⟨hx, hb, hml, hown, hts⟩ (k_X2_red l x0 h0) (va_cwS 1 hts gX2_wave_X2_red rfl rfl rfl (by decide +kernel) ⟨Nat.le_of_ble_eq_true rfl, Nat.le_of_ble_eq_true rfl⟩) preEq rfl rfl hl.1 rfl (lv_room (Nat.le_of_ble_eq_true rfl)) dX2_wave_1 ⟨Nat.zero_le _, Nat.zero_le _⟩) (fun r hr9 => ?_)
  obtain rfl := hr9
  have r_1 := RED_R h0
  refine lv_dstore_n (lv' := [(3, .double (RED x0)), (0, .double x0), (2, .int x1)]) hx hb dX2_wave_4 rfl hl (by decide) rfl (fun ls hl => ?_)
  refine lv_dload_n hx hb dX2_wave_5 rfl (lv_at hl 0 rfl) ?_
  refine lv_ldc2d hx hb hown (hts (.constantDouble RX2 120 (4636033603912859648)) (by decide +kernel)) dX2_wave_6 ?_
  have r_2 : fR 4636033603912859648 96636764160 96636764160 := fR_lit (by decide +kernel)
  have r_3 := fR_div r_1 r_2 (by decide) 0 4294967296 (by decide) (by decide) rfl rfl
  refine lv_ddiv hx hb dX2_wave_9 (fR_nn r_3) ?_
  refine lv_ldc2d hx hb hown (hts (.constantDouble RX2 122 (4602678819172646912)) (by decide +kernel)) dX2_wave_10 ?_
  have r_4 : fR 4602678819172646912 536870912 536870912 := fR_lit (by decide +kernel)
  have r_5 := fR_add r_3 r_4 536870912 4831838208 (by decide) (by decide) rfl rfl
  refine lv_dadd hx hb dX2_wave_13 (fR_nn r_5) ?_
  refine lv_d2l hx hb dX2_wave_14 ?_
  refine lv_lstore (lv' := [(5, .long (FP.d2l (wv_z (RED x0)))), (3, .double (RED x0)), (0, .double x0), (2, .int x1)]) hx hb dX2_wave_15 hl (by decide) rfl (fun ls hl => ?_)
  refine lv_dload_n hx hb dX2_wave_17 rfl (lv_at hl 1 rfl) ?_
  refine lv_ldc2d hx hb hown (hts (.constantDouble RX2 120 (4636033603912859648)) (by decide +kernel)) dX2_wave_18 ?_
  have r_6 : fR 4636033603912859648 96636764160 96636764160 := fR_lit (by decide +kernel)
  refine lv_lload hx hb dX2_wave_21 (lv_at hl 0 rfl) ?_
  refine lv_l2d hx hb dX2_wave_23 ?_
  refine lv_dmul hx hb dX2_wave_24 (fR_nn w2) ?_
  refine lv_dsub hx hb dX2_wave_25 (fR_nn w3) ?_
  refine lv_ldc2d hx hb hown (hts (.constantDouble RX2 124 (4580687790476533049)) (by decide +kernel)) dX2_wave_26 ?_
  have r_7 : fR 4580687790476533049 18740330 18740331 := fR_lit (by decide +kernel)
  have r_8 := fR_mul w3 r_7 (-862055226) 862055226 (by decide) (by decide) rfl rfl
  refine lv_dmul hx hb dX2_wave_29 (fR_nn r_8) ?_
  refine lv_dstore (lv' := [(7, .double (wv_r (RED x0))), (5, .long (FP.d2l (wv_z (RED x0)))), (3, .double (RED x0)), (0, .double x0), (2, .int x1)]) hx hb dX2_wave_30 hl (by decide) rfl (fun ls hl => ?_)
  refine lv_dload hx hb dX2_wave_32 (lv_at hl 0 rfl) ?_
  refine lv_dload hx hb dX2_wave_34 (lv_at hl 0 rfl) ?_
  have r_9 := fR_sq r_8 692102325 (by decide) rfl
  refine lv_dmul hx hb dX2_wave_36 (fR_nn r_9) ?_
  refine lv_dstore (lv' := [(9, .double (wv_q (RED x0))), (7, .double (wv_r (RED x0))), (5, .long (FP.d2l (wv_z (RED x0)))), (3, .double (RED x0)), (0, .double x0), (2, .int x1)]) hx hb dX2_wave_37 hl (by decide) rfl (fun ls hl => ?_)
  refine lv_dload hx hb dX2_wave_39 (lv_at hl 1 rfl) ?_
  refine lv_dconst1 hx hb dX2_wave_41 ?_
  have r_10 : fR FP.dconst1 1073741824 1073741824 := fR_lit (by decide +kernel)
  refine lv_dload hx hb dX2_wave_42 (lv_at hl 0 rfl) ?_
  refine lv_ldc2d hx hb hown (hts (.constantDouble RX2 126 (13818544856648471893)) (by decide +kernel)) dX2_wave_44 ?_
  have r_11 : fR 13818544856648471893 (-178956971) (-178956970) := fR_lit (by decide +kernel)
  refine lv_dload hx hb dX2_wave_47 (lv_at hl 0 rfl) ?_
  refine lv_ldc2d hx hb hown (hts (.constantDouble RX2 128 (4575957461383581969)) (by decide +kernel)) dX2_wave_49 ?_
  have r_12 : fR 4575957461383581969 8947848 8947849 := fR_lit (by decide +kernel)
  refine lv_dload hx hb dX2_wave_52 (lv_at hl 0 rfl) ?_
  refine lv_ldc2d hx hb hown (hts (.constantDouble RX2 130 (13774824197408792602)) (by decide +kernel)) dX2_wave_54 ?_
  have r_13 : fR 13774824197408792602 (-213045) (-213044) := fR_lit (by decide +kernel)
  refine lv_dload hx hb dX2_wave_57 (lv_at hl 0 rfl) ?_
  refine lv_ldc2d hx hb hown (hts (.constantDouble RX2 132 (4523617214285662004)) (by decide +kernel)) dX2_wave_59 ?_
  have r_14 : fR 4523617214285662004 2958 2959 := fR_lit (by decide +kernel)
  have r_15 := fR_mul r_9 r_14 0 1908 (by decide) (by decide) rfl rfl
  refine lv_dmul hx hb dX2_wave_62 (fR_nn r_15) ?_
  have r_16 := fR_add r_13 r_15 (-213045) (-211136) (by decide) (by decide) rfl rfl
  refine lv_dadd hx hb dX2_wave_63 (fR_nn r_16) ?_
  have r_17 := fR_mul r_9 r_16 (-137323) 0 (by decide) (by decide) rfl rfl
  refine lv_dmul hx hb dX2_wave_64 (fR_nn r_17) ?_
  have r_18 := fR_add r_12 r_17 8810525 8947849 (by decide) (by decide) rfl rfl
  refine lv_dadd hx hb dX2_wave_65 (fR_nn r_18) ?_
  have r_19 := fR_mul r_9 r_18 0 5767520 (by decide) (by decide) rfl rfl
  refine lv_dmul hx hb dX2_wave_66 (fR_nn r_19) ?_
  have r_20 := fR_add r_11 r_19 (-178956971) (-173189450) (by decide) (by decide) rfl rfl
  refine lv_dadd hx hb dX2_wave_67 (fR_nn r_20) ?_
  have r_21 := fR_mul r_9 r_20 (-115350388) 0 (by decide) (by decide) rfl rfl
  refine lv_dmul hx hb dX2_wave_68 (fR_nn r_21) ?_
  have r_22 := fR_add r_10 r_21 958391436 1073741824 (by decide) (by decide) rfl rfl
  refine lv_dadd hx hb dX2_wave_69 (fR_nn r_22) ?_
  have r_23 := fR_mul r_8 r_22 (-862055226) 862055226 (by decide) (by decide) rfl rfl
  refine lv_dmul hx hb dX2_wave_70 (fR_nn r_23) ?_
  refine lv_dstore (lv' := [(11, .double (wv_u (RED x0))), (9, .double (wv_q (RED x0))), (7, .double (wv_r (RED x0))), (5, .long (FP.d2l (wv_z (RED x0)))), (3, .double (RED x0)), (0, .double x0), (2, .int x1)]) hx hb dX2_wave_71 hl (by decide) rfl (fun ls hl => ?_)
  refine lv_dconst1 hx hb dX2_wave_73 ?_
  have r_24 : fR FP.dconst1 1073741824 1073741824 := fR_lit (by decide +kernel)
  refine lv_dload hx hb dX2_wave_74 (lv_at hl 1 rfl) ?_
  refine lv_ldc2d hx hb hown (hts (.constantDouble RX2 134 (13826050856027422720)) (by decide +kernel)) dX2_wave_76 ?_
  have r_25 : fR 13826050856027422720 (-536870912) (-536870912) := fR_lit (by decide +kernel)
  refine lv_dload hx hb dX2_wave_79 (lv_at hl 1 rfl) ?_
  refine lv_ldc2d hx hb hown (hts (.constantDouble RX2 136 (4586165620538955093)) (by decide +kernel)) dX2_wave_81 ?_
  have r_26 : fR 4586165620538955093 44739242 44739243 := fR_lit (by decide +kernel)
  refine lv_dload hx hb dX2_wave_84 (lv_at hl 1 rfl) ?_
  refine lv_ldc2d hx hb hown (hts (.constantDouble RX2 138 (13787419979223755799)) (by decide +kernel)) dX2_wave_86 ?_
  have r_27 : fR 13787419979223755799 (-1491309) (-1491308) := fR_lit (by decide +kernel)
  refine lv_dload hx hb dX2_wave_89 (lv_at hl 1 rfl) ?_
  refine lv_ldc2d hx hb hown (hts (.constantDouble RX2 140 (4537941361671905306)) (by decide +kernel)) dX2_wave_91 ?_
  have r_28 : fR 4537941361671905306 26630 26631 := fR_lit (by decide +kernel)
  refine lv_dload hx hb dX2_wave_94 (lv_at hl 1 rfl) ?_
  refine lv_ldc2d hx hb hown (hts (.constantDouble RX2 142 (13732177094651715420)) (by decide +kernel)) dX2_wave_96 ?_
  have r_29 : fR 13732177094651715420 (-296) (-295) := fR_lit (by decide +kernel)
  have r_30 := fR_mul r_9 r_29 (-191) 0 (by decide) (by decide) rfl rfl
  refine lv_dmul hx hb dX2_wave_99 (fR_nn r_30) ?_
  have r_31 := fR_add r_28 r_30 26439 26631 (by decide) (by decide) rfl rfl
  refine lv_dadd hx hb dX2_wave_100 (fR_nn r_31) ?_
  have r_32 := fR_mul r_9 r_31 0 17166 (by decide) (by decide) rfl rfl
  refine lv_dmul hx hb dX2_wave_101 (fR_nn r_32) ?_
  have r_33 := fR_add r_27 r_32 (-1491309) (-1474142) (by decide) (by decide) rfl rfl
  refine lv_dadd hx hb dX2_wave_102 (fR_nn r_33) ?_
  have r_34 := fR_mul r_9 r_33 (-961254) 0 (by decide) (by decide) rfl rfl
  refine lv_dmul hx hb dX2_wave_103 (fR_nn r_34) ?_
  have r_35 := fR_add r_26 r_34 43777988 44739243 (by decide) (by decide) rfl rfl
  refine lv_dadd hx hb dX2_wave_104 (fR_nn r_35) ?_
  have r_36 := fR_mul r_9 r_35 0 28837598 (by decide) (by decide) rfl rfl
  refine lv_dmul hx hb dX2_wave_105 (fR_nn r_36) ?_
  have r_37 := fR_add r_25 r_36 (-536870912) (-508033314) (by decide) (by decide) rfl rfl
  refine lv_dadd hx hb dX2_wave_106 (fR_nn r_37) ?_
  have r_38 := fR_mul r_9 r_37 (-346051163) 0 (by decide) (by decide) rfl rfl
  refine lv_dmul hx hb dX2_wave_107 (fR_nn r_38) ?_
  have r_39 := fR_add r_24 r_38 727690661 1073741824 (by decide) (by decide) rfl rfl
  refine lv_dadd hx hb dX2_wave_108 (fR_nn r_39) ?_
  refine lv_dstore (lv' := [(13, .double (wv_v (RED x0))), (11, .double (wv_u (RED x0))), (9, .double (wv_q (RED x0))), (7, .double (wv_r (RED x0))), (5, .long (FP.d2l (wv_z (RED x0)))), (3, .double (RED x0)), (0, .double x0), (2, .int x1)]) hx hb dX2_wave_109 hl (by decide) rfl (fun ls hl => ?_)
  refine lv_lload hx hb dX2_wave_111 (lv_at hl 4 rfl) ?_
  refine lv_ldc2 hx hb hown (hts (.constantLong RX2 36 (4)) (by decide +kernel)) dX2_wave_113 ?_
  refine lv_lrem hx hb dX2_wave_116 (by decide) ?_
  refine lv_lstore (lv' := [(15, .long (f_X2_wave_117_0 x0)), (13, .double (wv_v (RED x0))), (11, .double (wv_u (RED x0))), (9, .double (wv_q (RED x0))), (7, .double (wv_r (RED x0))), (5, .long (FP.d2l (wv_z (RED x0)))), (3, .double (RED x0)), (0, .double x0), (2, .int x1)]) hx hb dX2_wave_117 hl (by decide) rfl (fun ls hl => ?_)
  refine lv_iload_n hx hb dX2_wave_119 rfl (lv_at hl 8 rfl) ?_
  refine lv_if_eq (tgt := 166) hx hb dX2_wave_120 (by decide) (fun c_40 => ?_) (fun c_40 => ?_)
  · refine lv_lload hx hb dX2_wave_166 (lv_at hl 0 rfl) ?_
    refine lv_lconst (v := 0) hx hb dX2_wave_168 (by decide) ?_
    refine zl_ne (tgt := 178) hx hb dX2_wave_169 dX2_wave_170 (by decide) (fun c_41 => ?_) (fun c_41 => ?_)
    · refine lv_lload hx hb dX2_wave_178 (lv_at hl 0 rfl) ?_
      refine lv_lconst (v := 1) hx hb dX2_wave_180 (by decide) ?_
      refine zl_ne (tgt := 191) hx hb dX2_wave_181 dX2_wave_182 (by decide) (fun c_42 => ?_) (fun c_42 => ?_)
      · refine lv_lload hx hb dX2_wave_191 (lv_at hl 0 rfl) ?_
        refine lv_ldc2 hx hb hown (hts (.constantLong RX2 144 (2)) (by decide +kernel)) dX2_wave_193 ?_
        refine zl_ne (tgt := 206) hx hb dX2_wave_196 dX2_wave_197 (by decide) (fun c_43 => ?_) (fun c_43 => ?_)
        · refine lv_dload hx hb dX2_wave_206 (lv_at hl 2 rfl) ?_
          exact W.dret hx hb hr (fun t ht _ => ⟨_, rfl, (by unfold f_X2_wave; rw [if_pos c_40, if_neg c_41, if_neg c_42, if_neg c_43]), ht⟩) (fun _ h => nomatch h) dX2_wave_208
        · refine lv_dload hx hb dX2_wave_200 (lv_at hl 1 rfl) ?_
          have r_44 := fR_neg r_39
          refine lv_dneg hx hb dX2_wave_202 ?_
          refine lv_goto (tgt := 208) hx hb dX2_wave_203 (by decide) ?_
          exact W.dret hx hb hr (fun t ht _ => ⟨_, rfl, (by unfold f_X2_wave; rw [if_pos c_40, if_neg c_41, if_neg c_42, if_pos c_43]), ht⟩) (fun _ h => nomatch h) dX2_wave_208
      · refine lv_dload hx hb dX2_wave_185 (lv_at hl 2 rfl) ?_
        have r_45 := fR_neg r_23
        refine lv_dneg hx hb dX2_wave_187 ?_
        refine lv_goto (tgt := 208) hx hb dX2_wave_188 (by decide) ?_
        exact W.dret hx hb hr (fun t ht _ => ⟨_, rfl, (by unfold f_X2_wave; rw [if_pos c_40, if_neg c_41, if_pos c_42]), ht⟩) (fun _ h => nomatch h) dX2_wave_208
    · refine lv_dload hx hb dX2_wave_173 (lv_at hl 1 rfl) ?_
      refine lv_goto (tgt := 208) hx hb dX2_wave_175 (by decide) ?_
      exact W.dret hx hb hr (fun t ht _ => ⟨_, rfl, (by unfold f_X2_wave; rw [if_pos c_40, if_pos c_41]), ht⟩) (fun _ h => nomatch h) dX2_wave_208
  · refine lv_lload hx hb dX2_wave_123 (lv_at hl 0 rfl) ?_
    refine lv_lconst (v := 0) hx hb dX2_wave_125 (by decide) ?_
    refine zl_ne (tgt := 135) hx hb dX2_wave_126 dX2_wave_127 (by decide) (fun c_46 => ?_) (fun c_46 => ?_)
    · refine lv_lload hx hb dX2_wave_135 (lv_at hl 0 rfl) ?_
      refine lv_lconst (v := 1) hx hb dX2_wave_137 (by decide) ?_
      refine zl_ne (tgt := 147) hx hb dX2_wave_138 dX2_wave_139 (by decide) (fun c_47 => ?_) (fun c_47 => ?_)
      · refine lv_lload hx hb dX2_wave_147 (lv_at hl 0 rfl) ?_
        refine lv_ldc2 hx hb hown (hts (.constantLong RX2 144 (2)) (by decide +kernel)) dX2_wave_149 ?_
        refine zl_ne (tgt := 162) hx hb dX2_wave_152 dX2_wave_153 (by decide) (fun c_48 => ?_) (fun c_48 => ?_)
        · refine lv_dload hx hb dX2_wave_162 (lv_at hl 1 rfl) ?_
          have r_49 := fR_neg r_39
          refine lv_dneg hx hb dX2_wave_164 ?_
          exact W.dret hx hb hr (fun t ht _ => ⟨_, rfl, (by unfold f_X2_wave; rw [if_neg c_40, if_neg c_46, if_neg c_47, if_neg c_48]), ht⟩) (fun _ h => nomatch h) dX2_wave_165
        · refine lv_dload hx hb dX2_wave_156 (lv_at hl 2 rfl) ?_
          have r_50 := fR_neg r_23
          refine lv_dneg hx hb dX2_wave_158 ?_
          refine lv_goto (tgt := 165) hx hb dX2_wave_159 (by decide) ?_
          exact W.dret hx hb hr (fun t ht _ => ⟨_, rfl, (by unfold f_X2_wave; rw [if_neg c_40, if_neg c_46, if_neg c_47, if_pos c_48]), ht⟩) (fun _ h => nomatch h) dX2_wave_165
      · refine lv_dload hx hb dX2_wave_142 (lv_at hl 1 rfl) ?_
        refine lv_goto (tgt := 165) hx hb dX2_wave_144 (by decide) ?_
        exact W.dret hx hb hr (fun t ht _ => ⟨_, rfl, (by unfold f_X2_wave; rw [if_neg c_40, if_neg c_46, if_pos c_47]), ht⟩) (fun _ h => nomatch h) dX2_wave_165
    · refine lv_dload hx hb dX2_wave_130 (lv_at hl 2 rfl) ?_
      refine lv_goto (tgt := 165) hx hb dX2_wave_132 (by decide) ?_
      exact W.dret hx hb hr (fun t ht _ => ⟨_, rfl, (by unfold f_X2_wave; rw [if_neg c_40, if_pos c_46]), ht⟩) (fun _ h => nomatch h) dX2_wave_165

theorem f_X2_wave_sin {x0 : UInt64} (h0 : fR x0 (-1208925819614629174706176) 1208925819614629174706176) : f_X2_wave x0 1 = SIN x0 := by
  obtain ⟨-, w4⟩ := wv_k (RED_R h0)
  unfold f_X2_wave SIN f_X1_waveAt f_X2_wave_117_0 f_X1_waveAt_108_0
  rcases w4 with ⟨e1, e2⟩ | ⟨e1, e2⟩ | ⟨e1, e2⟩ | ⟨e1, e2⟩ | ⟨e1, e2⟩ <;> rw [e1, e2] <;> rfl
theorem f_X2_wave_cos {x0 : UInt64} (h0 : fR x0 (-1208925819614629174706176) 1208925819614629174706176) : f_X2_wave x0 0 = COS x0 := by
  obtain ⟨-, w4⟩ := wv_k (RED_R h0)
  unfold f_X2_wave COS f_X1_waveAt f_X2_wave_117_0 f_X1_waveAt_108_0
  rcases w4 with ⟨e1, e2⟩ | ⟨e1, e2⟩ | ⟨e1, e2⟩ | ⟨e1, e2⟩ | ⟨e1, e2⟩ <;> rw [e1, e2] <;> rfl
set_option maxHeartbeats 4000000 in
set_option maxRecDepth 100000 in
theorem k_X2_sine (l : Launch) (x0 : UInt64) (h0 : fR x0 (-1208925819614629174706176) 1208925819614629174706176) : Met l yX2_sine wsX2_sine ({ frames := 2, cells := 0, slots := 0, locals := 61 }) (fun v _ => v = ([.double x0] : List Value).toArray) (vp_Sd (fun r => r = SIN x0)) 0 0 (fun _ => False) := by
  refine Met.ofW (cc := cX2_sine) (maxL := 2) (ret := (some .double)) (by decide) rfl ?_
  intro p e s m args below meth c s₁ B hml hv
  obtain rfl := hv
  have hx := B.exec
  have hb := B.bytes
  have hr := B.returns
  have hts := atoms_spec (ws := wsX2_sine) B.pre
  have hown : s.vm.findClass RX2 = some m.cls := findClass_of_methodNamed B.named
  have hlocks := B.notSynchronized
  have hl := lv_entry ([.double x0]) (n := 2) (Nat.le_of_ble_eq_true rfl)
  rw [lg_entry_eq]
  generalize (lg_sl ([.double x0]) ++ List.replicate (2 - (lg_sl ([.double x0])).length) Slot.unset).toArray = ls at hl ⊢
  have hl : lv_has ls 2 [(0, .double x0)] := hl
  refine lv_dload_n hx hb dX2_sine_0 rfl (lv_at hl 0 rfl) ?_
  refine lv_iconst (v := 1) hx hb dX2_sine_1 (by decide) ?_
  refine vp_callSd (W.runS (As := [.double x0, .int 1]) (rest := []) ⟨hx, hb, hml, hown, hts⟩ (k_X2_wave l x0 1 h0) (va_cwS 2 hts gX2_sine_X2_wave rfl rfl rfl (by decide +kernel) ⟨Nat.le_of_ble_eq_true rfl, Nat.le_of_ble_eq_true rfl⟩) preEq rfl rfl hl.1 rfl (lv_room (Nat.le_of_ble_eq_true rfl)) dX2_sine_2 ⟨Nat.zero_le _, Nat.zero_le _⟩) (fun r hr9 => ?_)
  obtain rfl := hr9
  exact W.dret hx hb hr (fun t ht _ => ⟨_, rfl, (f_X2_wave_sin h0), ht⟩) (fun _ h => nomatch h) dX2_sine_5

set_option maxHeartbeats 4000000 in
set_option maxRecDepth 100000 in
theorem k_X2_cosine (l : Launch) (x0 : UInt64) (h0 : fR x0 (-1208925819614629174706176) 1208925819614629174706176) : Met l yX2_cosine wsX2_cosine ({ frames := 2, cells := 0, slots := 0, locals := 61 }) (fun v _ => v = ([.double x0] : List Value).toArray) (vp_Sd (fun r => r = COS x0)) 0 0 (fun _ => False) := by
  refine Met.ofW (cc := cX2_cosine) (maxL := 2) (ret := (some .double)) (by decide) rfl ?_
  intro p e s m args below meth c s₁ B hml hv
  obtain rfl := hv
  have hx := B.exec
  have hb := B.bytes
  have hr := B.returns
  have hts := atoms_spec (ws := wsX2_cosine) B.pre
  have hown : s.vm.findClass RX2 = some m.cls := findClass_of_methodNamed B.named
  have hlocks := B.notSynchronized
  have hl := lv_entry ([.double x0]) (n := 2) (Nat.le_of_ble_eq_true rfl)
  rw [lg_entry_eq]
  generalize (lg_sl ([.double x0]) ++ List.replicate (2 - (lg_sl ([.double x0])).length) Slot.unset).toArray = ls at hl ⊢
  have hl : lv_has ls 2 [(0, .double x0)] := hl
  refine lv_dload_n hx hb dX2_cosine_0 rfl (lv_at hl 0 rfl) ?_
  refine lv_iconst (v := 0) hx hb dX2_cosine_1 (by decide) ?_
  refine vp_callSd (W.runS (As := [.double x0, .int 0]) (rest := []) ⟨hx, hb, hml, hown, hts⟩ (k_X2_wave l x0 0 h0) (va_cwS 2 hts gX2_cosine_X2_wave rfl rfl rfl (by decide +kernel) ⟨Nat.le_of_ble_eq_true rfl, Nat.le_of_ble_eq_true rfl⟩) preEq rfl rfl hl.1 rfl (lv_room (Nat.le_of_ble_eq_true rfl)) dX2_cosine_2 ⟨Nat.zero_le _, Nat.zero_le _⟩) (fun r hr9 => ?_)
  obtain rfl := hr9
  exact W.dret hx hb hr (fun t ht _ => ⟨_, rfl, (f_X2_wave_cos h0), ht⟩) (fun _ h => nomatch h) dX2_cosine_5

theorem wv_at {x0 : UInt64} (h0 : fR x0 0 386547056640) (j : Int32) : fR (f_X1_waveAt x0 j) (-1073741824) 1073741824 := by
  obtain ⟨hu, hv⟩ := wv_uv h0
  unfold f_X1_waveAt
  repeat' split
  · first | exact fR_mono hu (by decide) (by decide) | exact fR_mono hv (by decide) (by decide) | exact fR_mono (fR_neg hu) (by decide) (by decide) | exact fR_mono (fR_neg hv) (by decide) (by decide)
  · first | exact fR_mono hu (by decide) (by decide) | exact fR_mono hv (by decide) (by decide) | exact fR_mono (fR_neg hu) (by decide) (by decide) | exact fR_mono (fR_neg hv) (by decide) (by decide)
  · first | exact fR_mono hu (by decide) (by decide) | exact fR_mono hv (by decide) (by decide) | exact fR_mono (fR_neg hu) (by decide) (by decide) | exact fR_mono (fR_neg hv) (by decide) (by decide)
  · first | exact fR_mono hu (by decide) (by decide) | exact fR_mono hv (by decide) (by decide) | exact fR_mono (fR_neg hu) (by decide) (by decide) | exact fR_mono (fR_neg hv) (by decide) (by decide)
theorem SIN_R {x : UInt64} (h : fR x (-1208925819614629174706176) 1208925819614629174706176) : fR (SIN x) (-1073741824) 1073741824 := wv_at (RED_R h) _
theorem COS_R {x : UInt64} (h : fR x (-1208925819614629174706176) 1208925819614629174706176) : fR (COS x) (-1073741824) 1073741824 := wv_at (RED_R h) _
theorem whole_R {x : UInt64} (h : fR x (-2251799813685248) 2251799813685248) : fR (FP.l2d (FP.d2l x)) (-2251799813685248) 2251799813685248 := by
  obtain ⟨n, hn, hpos, hneg⟩ := d2l_tr (fR_mono h (by decide) (by decide))
  have hb : -2097152 ≤ n ∧ n ≤ 2097152 := by
    rcases Int.le_total 0 (fz x) with h9 | h9
    · obtain ⟨b1, b2, -⟩ := hpos h9
      have := uu_le (Int.le_trans b2 h.2.2)
      omega
    · obtain ⟨b1, b2, -⟩ := hneg h9
      have := uu_le (Int.le_trans h.2.1 b2)
      omega
  exact fR_mono (fR_l2d (FP.d2l x) (lo := -2097152) (hi := 2097152) (by rw [hn]; omega) (by rw [hn]; omega) (by decide) (by decide)) (by decide) (by decide)
def SID (x0 : UInt64) : UInt64 := RED (FP.dadd (RED (FP.dadd 4643641531568107876 (FP.dmul 4607053141768361126 x0))) (FP.dmul 4645040803167600640 (FP.dsub x0 (FP.l2d (FP.d2l x0)))))
set_option maxHeartbeats 4000000 in
set_option maxRecDepth 100000 in
theorem k_X1_siderealAngle (l : Launch) (x0 : UInt64) (h0 : fR x0 (-2251799813685248) 2251799813685248) : Met l yX1_siderealAngle wsX1_siderealAngle ({ frames := 1, cells := 0, slots := 0, locals := 23 }) (fun v _ => v = ([.double x0] : List Value).toArray) (vp_Sd (fun r => r = SID x0)) 0 0 (fun _ => False) := by
  refine Met.ofW (cc := cX1_siderealAngle) (maxL := 2) (ret := (some .double)) (by decide) rfl ?_
  intro p e s m args below meth c s₁ B hml hv
  obtain rfl := hv
  have hx := B.exec
  have hb := B.bytes
  have hr := B.returns
  have hts := atoms_spec (ws := wsX1_siderealAngle) B.pre
  have hown : s.vm.findClass RX1 = some m.cls := findClass_of_methodNamed B.named
  have hlocks := B.notSynchronized
  have hl := lv_entry ([.double x0]) (n := 2) (Nat.le_of_ble_eq_true rfl)
  rw [lg_entry_eq]
  generalize (lg_sl ([.double x0]) ++ List.replicate (2 - (lg_sl ([.double x0])).length) Slot.unset).toArray = ls at hl ⊢
  have hl : lv_has ls 2 [(0, .double x0)] := hl
  refine lv_ldc2d hx hb hown (hts (.constantDouble RX1 272 (4643641531568107876)) (by decide +kernel)) dX1_siderealAngle_0 ?_
  have r_1 : fR 4643641531568107876 301142295928 301142295929 := fR_lit (by decide +kernel)
  refine lv_ldc2d hx hb hown (hts (.constantDouble RX1 274 (4607053141768361126)) (by decide +kernel)) dX1_siderealAngle_3 ?_
  have r_2 : fR 4607053141768361126 1058330800 1058330801 := fR_lit (by decide +kernel)
  refine lv_dload_n hx hb dX1_siderealAngle_6 rfl (lv_at hl 0 rfl) ?_
  have r_3 := fR_mul r_2 h0 (-2219480555978752) 2219480555978752 (by decide) (by decide) rfl rfl
  refine lv_dmul hx hb dX1_siderealAngle_7 (fR_nn r_3) ?_
  have r_4 := fR_add r_1 r_3 (-2219179413682824) 2219781698274681 (by decide) (by decide) rfl rfl
  refine lv_dadd hx hb dX1_siderealAngle_8 (fR_nn r_4) ?_
  refine vp_callSd (W.runS (As := [.double (FP.dadd 4643641531568107876 (FP.dmul 4607053141768361126 x0))]) (rest := []) ⟨hx, hb, hml, hown, hts⟩ (k_X1_red l (FP.dadd 4643641531568107876 (FP.dmul 4607053141768361126 x0)) (fR_mono r_4 (by decide) (by decide))) (va_cwS 1 hts gX1_siderealAngle_X1_red rfl rfl rfl (by decide +kernel) ⟨Nat.le_of_ble_eq_true rfl, Nat.le_of_ble_eq_true rfl⟩) preEq rfl rfl hl.1 rfl (lv_room (Nat.le_of_ble_eq_true rfl)) dX1_siderealAngle_9 ⟨Nat.zero_le _, Nat.zero_le _⟩) (fun r hr9 => ?_)
  obtain rfl := hr9
  have r_5 := RED_R (fR_mono r_4 (by decide) (by decide))
  refine lv_ldc2d hx hb hown (hts (.constantDouble RX1 143 (4645040803167600640)) (by decide +kernel)) dX1_siderealAngle_12 ?_
  have r_6 : fR 4645040803167600640 386547056640 386547056640 := fR_lit (by decide +kernel)
  refine lv_dload_n hx hb dX1_siderealAngle_15 rfl (lv_at hl 0 rfl) ?_
  refine lv_dload_n hx hb dX1_siderealAngle_16 rfl (lv_at hl 0 rfl) ?_
  refine lv_d2l hx hb dX1_siderealAngle_17 ?_
  refine lv_l2d hx hb dX1_siderealAngle_18 ?_
  have r_7 := fR_sub h0 (whole_R h0) (-4503599627370496) 4503599627370496 (by decide) (by decide) rfl rfl
  refine lv_dsub hx hb dX1_siderealAngle_19 (fR_nn r_7) ?_
  have r_8 := fR_mul r_6 r_7 (-1621295865853378560) 1621295865853378560 (by decide) (by decide) rfl rfl
  refine lv_dmul hx hb dX1_siderealAngle_20 (fR_nn r_8) ?_
  have r_9 := fR_add r_5 r_8 (-1621295865853378560) 1621296252400435200 (by decide) (by decide) rfl rfl
  refine lv_dadd hx hb dX1_siderealAngle_21 (fR_nn r_9) ?_
  refine vp_callSd (W.runS (As := [.double (FP.dadd (RED (FP.dadd 4643641531568107876 (FP.dmul 4607053141768361126 x0))) (FP.dmul 4645040803167600640 (FP.dsub x0 (FP.l2d (FP.d2l x0)))))]) (rest := []) ⟨hx, hb, hml, hown, hts⟩ (k_X1_red l (FP.dadd (RED (FP.dadd 4643641531568107876 (FP.dmul 4607053141768361126 x0))) (FP.dmul 4645040803167600640 (FP.dsub x0 (FP.l2d (FP.d2l x0))))) (fR_mono r_9 (by decide) (by decide))) (va_cwS 1 hts gX1_siderealAngle_X1_red rfl rfl rfl (by decide +kernel) ⟨Nat.le_of_ble_eq_true rfl, Nat.le_of_ble_eq_true rfl⟩) preEq rfl rfl hl.1 rfl (lv_room (Nat.le_of_ble_eq_true rfl)) dX1_siderealAngle_22 ⟨Nat.zero_le _, Nat.zero_le _⟩) (fun r hr9 => ?_)
  obtain rfl := hr9
  have r_10 := RED_R (fR_mono r_9 (by decide) (by decide))
  exact W.dret hx hb hr (fun t ht _ => ⟨_, rfl, rfl, ht⟩) (fun _ h => nomatch h) dX1_siderealAngle_25

set_option maxHeartbeats 4000000 in
set_option maxRecDepth 100000 in
theorem k_X2_turned (l : Launch) (x0 : UInt64) (h0 : fR x0 (-2251799813685248) 2251799813685248) : Met l yX2_turned wsX2_turned ({ frames := 1, cells := 0, slots := 0, locals := 25 }) (fun v _ => v = ([.double x0] : List Value).toArray) (vp_Sd (fun r => r = SID x0)) 0 0 (fun _ => False) := by
  refine Met.ofW (cc := cX2_turned) (maxL := 4) (ret := (some .double)) (by decide) rfl ?_
  intro p e s m args below meth c s₁ B hml hv
  obtain rfl := hv
  have hx := B.exec
  have hb := B.bytes
  have hr := B.returns
  have hts := atoms_spec (ws := wsX2_turned) B.pre
  have hown : s.vm.findClass RX2 = some m.cls := findClass_of_methodNamed B.named
  have hlocks := B.notSynchronized
  have hl := lv_entry ([.double x0]) (n := 4) (Nat.le_of_ble_eq_true rfl)
  rw [lg_entry_eq]
  generalize (lg_sl ([.double x0]) ++ List.replicate (4 - (lg_sl ([.double x0])).length) Slot.unset).toArray = ls at hl ⊢
  have hl : lv_has ls 4 [(0, .double x0)] := hl
  refine lv_dload_n hx hb dX2_turned_0 rfl (lv_at hl 0 rfl) ?_
  refine lv_d2l hx hb dX2_turned_1 ?_
  refine lv_l2d hx hb dX2_turned_2 ?_
  refine lv_dstore_n (lv' := [(2, .double (FP.l2d (FP.d2l x0))), (0, .double x0)]) hx hb dX2_turned_3 rfl hl (by decide) rfl (fun ls hl => ?_)
  refine lv_ldc2d hx hb hown (hts (.constantDouble RX2 150 (4643641531568107876)) (by decide +kernel)) dX2_turned_4 ?_
  have r_1 : fR 4643641531568107876 301142295928 301142295929 := fR_lit (by decide +kernel)
  refine lv_ldc2d hx hb hown (hts (.constantDouble RX2 152 (4607053141768361126)) (by decide +kernel)) dX2_turned_7 ?_
  have r_2 : fR 4607053141768361126 1058330800 1058330801 := fR_lit (by decide +kernel)
  refine lv_dload_n hx hb dX2_turned_10 rfl (lv_at hl 1 rfl) ?_
  have r_3 := fR_mul r_2 h0 (-2219480555978752) 2219480555978752 (by decide) (by decide) rfl rfl
  refine lv_dmul hx hb dX2_turned_11 (fR_nn r_3) ?_
  have r_4 := fR_add r_1 r_3 (-2219179413682824) 2219781698274681 (by decide) (by decide) rfl rfl
  refine lv_dadd hx hb dX2_turned_12 (fR_nn r_4) ?_
  refine vp_callSd (W.runS (As := [.double (FP.dadd 4643641531568107876 (FP.dmul 4607053141768361126 x0))]) (rest := []) ⟨hx, hb, hml, hown, hts⟩ (k_X2_red l (FP.dadd 4643641531568107876 (FP.dmul 4607053141768361126 x0)) (fR_mono r_4 (by decide) (by decide))) (va_cwS 1 hts gX2_turned_X2_red rfl rfl rfl (by decide +kernel) ⟨Nat.le_of_ble_eq_true rfl, Nat.le_of_ble_eq_true rfl⟩) preEq rfl rfl hl.1 rfl (lv_room (Nat.le_of_ble_eq_true rfl)) dX2_turned_13 ⟨Nat.zero_le _, Nat.zero_le _⟩) (fun r hr9 => ?_)
  obtain rfl := hr9
  have r_5 := RED_R (fR_mono r_4 (by decide) (by decide))
  refine lv_ldc2d hx hb hown (hts (.constantDouble RX2 114 (4645040803167600640)) (by decide +kernel)) dX2_turned_16 ?_
  have r_6 : fR 4645040803167600640 386547056640 386547056640 := fR_lit (by decide +kernel)
  refine lv_dload_n hx hb dX2_turned_19 rfl (lv_at hl 1 rfl) ?_
  refine lv_dload_n hx hb dX2_turned_20 rfl (lv_at hl 0 rfl) ?_
  have r_7 := fR_sub h0 (whole_R h0) (-4503599627370496) 4503599627370496 (by decide) (by decide) rfl rfl
  refine lv_dsub hx hb dX2_turned_21 (fR_nn r_7) ?_
  have r_8 := fR_mul r_6 r_7 (-1621295865853378560) 1621295865853378560 (by decide) (by decide) rfl rfl
  refine lv_dmul hx hb dX2_turned_22 (fR_nn r_8) ?_
  have r_9 := fR_add r_5 r_8 (-1621295865853378560) 1621296252400435200 (by decide) (by decide) rfl rfl
  refine lv_dadd hx hb dX2_turned_23 (fR_nn r_9) ?_
  refine vp_callSd (W.runS (As := [.double (FP.dadd (RED (FP.dadd 4643641531568107876 (FP.dmul 4607053141768361126 x0))) (FP.dmul 4645040803167600640 (FP.dsub x0 (FP.l2d (FP.d2l x0)))))]) (rest := []) ⟨hx, hb, hml, hown, hts⟩ (k_X2_red l (FP.dadd (RED (FP.dadd 4643641531568107876 (FP.dmul 4607053141768361126 x0))) (FP.dmul 4645040803167600640 (FP.dsub x0 (FP.l2d (FP.d2l x0))))) (fR_mono r_9 (by decide) (by decide))) (va_cwS 1 hts gX2_turned_X2_red rfl rfl rfl (by decide +kernel) ⟨Nat.le_of_ble_eq_true rfl, Nat.le_of_ble_eq_true rfl⟩) preEq rfl rfl hl.1 rfl (lv_room (Nat.le_of_ble_eq_true rfl)) dX2_turned_24 ⟨Nat.zero_le _, Nat.zero_le _⟩) (fun r hr9 => ?_)
  obtain rfl := hr9
  have r_10 := RED_R (fR_mono r_9 (by decide) (by decide))
  exact W.dret hx hb hr (fun t ht _ => ⟨_, rfl, rfl, ht⟩) (fun _ h => nomatch h) dX2_turned_27

theorem SID_R {x0 : UInt64} (h0 : fR x0 (-2251799813685248) 2251799813685248) : fR (SID x0) 0 386547056640 := by
  have r_1 : fR 4643641531568107876 301142295928 301142295929 := fR_lit (by decide +kernel)
  have r_2 : fR 4607053141768361126 1058330800 1058330801 := fR_lit (by decide +kernel)
  have r_3 := fR_mul r_2 h0 (-2219480555978752) 2219480555978752 (by decide) (by decide) rfl rfl
  have r_4 := fR_add r_1 r_3 (-2219179413682824) 2219781698274681 (by decide) (by decide) rfl rfl
  have r_5 := RED_R (fR_mono r_4 (by decide) (by decide))
  have r_6 : fR 4645040803167600640 386547056640 386547056640 := fR_lit (by decide +kernel)
  have r_7 := fR_sub h0 (whole_R h0) (-4503599627370496) 4503599627370496 (by decide) (by decide) rfl rfl
  have r_8 := fR_mul r_6 r_7 (-1621295865853378560) 1621295865853378560 (by decide) (by decide) rfl rfl
  have r_9 := fR_add r_5 r_8 (-1621295865853378560) 1621296252400435200 (by decide) (by decide) rfl rfl
  have r_10 := RED_R (fR_mono r_9 (by decide) (by decide))
  exact r_10