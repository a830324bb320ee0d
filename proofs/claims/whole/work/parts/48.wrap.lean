section
theorem oJ_okC {α : Type} {x : Except String α} {g : α → Int64} {fo : Nat → Int64} {v : α} (h : x = .ok v) : oJ x g fo = vp_updL fo ((0 : Int32).toNatClampNeg) (g v) := by rw [cl0]; exact oJ_ok h
theorem oD_okC {x : Except String UInt64} {fo : Nat → UInt64} {v : UInt64} (h : x = .ok v) : oD x fo = vf_upd fo ((0 : Int32).toNatClampNeg) v := by rw [cl0]; exact oD_ok h
set_option maxHeartbeats 4000000 in
set_option maxRecDepth 100000 in
theorem k_L_day (l : Launch) (hst : l.stackTraces = false) (dC : Nat → ClassId) (dI : Nat → Nat → Nat) (cA : Nat → ClassId) (tm tt sz : Nat) (ax ab aw : Nat) (wl : Int32) (la ea : UInt64) (wk fl : Int32) (ao : Nat) (fo : Nat → Int64) (x1 : Int32) (x2 : Int32) (x3 : Int32) (x4 : Int32)  : Met l yL_day wsL_day ({ frames := 7, cells := 1, slots := 6, locals := 109 }) (PcL dC dI cA tm tt sz [.ref ax, .int x1, .int x2, .int x3, .int x4, .ref ao] [(ax, .inr (1, [.ref ab, .ref aw, .int wl, .double la, .double ea, .int wk, .int fl])), (ao, aL 1 (cA 5) fo)]) (va_Qi (fun r (_ : Unit) => r = cd1 (f_X1_day x1 x2 x3 x4)) (fun _ t => WB dC dI (va_A [(ax, .inr (1, [.ref ab, .ref aw, .int wl, .double la, .double ea, .int wk, .int fl])), (ao, aL 1 (cA 5) fo)] sz) [(ax, .inr (1, [.ref ab, .ref aw, .int wl, .double la, .double ea, .int wk, .int fl])), (ao, aL 1 (cA 5) (oJ (f_X1_day x1 x2 x3 x4) (fun v => v) fo))] t) (va_A [(ax, .inr (1, [.ref ab, .ref aw, .int wl, .double la, .double ea, .int wk, .int fl])), (ao, aL 1 (cA 5) fo)] sz)) 1 6 (va_A [(ax, .inr (1, [.ref ab, .ref aw, .int wl, .double la, .double ea, .int wk, .int fl])), (ao, aL 1 (cA 5) fo)] sz) := by
  refine zm_ofWH (cc := cL_day) (maxL := 7) (ret := (some .int)) (by decide) rfl ?_
  intro p e s m args below meth c s₁ B hml htb hv
  obtain ⟨⟨rfl, hsz, hP, hK, hD0, hE⟩, hN⟩ := hv
  subst hsz
  have hD := hD0.self (sz := s.heap.size)
  generalize hAe : va_A [(ax, .inr (1, [.ref ab, .ref aw, .int wl, .double la, .double ea, .int wk, .int fl])), (ao, aL 1 (cA 5) fo)] s.heap.size = A at hD hE ⊢
  have hA : ∀ q : Nat, s.heap.size ≤ q → A q := fun q h => by rw [← hAe]; exact Or.inr h
  have hS : va_S A s.heap s.heap [] := va_S.rf
  have hP : va_P (dC, dI) vwCl [(ax, .inr (1, [.ref ab, .ref aw, .int wl, .double la, .double ea, .int wk, .int fl])), (ao, aL 1 (cA 5) fo)] s.heap := hP
  have hx := B.exec
  have hb := B.bytes
  have hr := B.returns
  have hts := atoms_spec (ws := wsL_day) B.pre
  have hown : s.vm.findClass RL = some m.cls := findClass_of_methodNamed B.named
  have hlocks := B.notSynchronized
  have hl := lv_entry ([.ref ax, .int x1, .int x2, .int x3, .int x4, .ref ao]) (n := 7) (Nat.le_of_ble_eq_true rfl)
  rw [lg_entry_eq]
  generalize (lg_sl ([.ref ax, .int x1, .int x2, .int x3, .int x4, .ref ao]) ++ List.replicate (7 - (lg_sl ([.ref ax, .int x1, .int x2, .int x3, .int x4, .ref ao])).length) Slot.unset).toArray = ls at hl ⊢
  have hl : lv_has ls 7 [(0, .ref ax), (1, .int x1), (2, .int x2), (3, .int x3), (4, .int x4), (5, .ref ao)] := hl
  refine lv_aload hx hb dL_day_0 (lv_at hl 5 rfl) ?_
  refine lv_iconst (v := 0) hx hb dL_day_2 (by decide) ?_
  refine lv_aload_n hx hb dL_day_3 rfl (lv_at hl 0 rfl) ?_
  refine lv_iload_n hx hb dL_day_4 rfl (lv_at hl 1 rfl) ?_
  refine lv_iload_n hx hb dL_day_5 rfl (lv_at hl 2 rfl) ?_
  refine lv_iload_n hx hb dL_day_6 rfl (lv_at hl 3 rfl) ?_
  refine lv_iload hx hb dL_day_7 (lv_at hl 4 rfl) ?_
  have hPc := hP.sub (ws' := [(ax, .inr (1, [.ref ab, .ref aw, .int wl, .double la, .double ea, .int wk, .int fl]))]) [0] rfl
  have hFc := free_0 hS hA
  refine vx_calll (vx_runV (As := [.int x1, .int x2, .int x3, .int x4]) (rest := [.int 0, .ref ao]) ⟨hx, hb, hml, hown, hts⟩ (k_X1_day l hst tm tt _ ax x1 x2 x3 x4) (cwV 4 hts gL_day_X1_day rfl rfl rfl (by decide +kernel) ⟨Nat.le_of_ble_eq_true rfl, Nat.le_of_ble_eq_true rfl⟩) ⟨PcG.blind, va_recv hK hPc (ci := 1) (q0 := 0) rfl rfl, PcG.give (sz := 0) hE hS hFc⟩ rfl rfl hl.1 rfl (lv_room (Nat.le_of_ble_eq_true rfl)) dL_day_9 ⟨Nat.le_of_ble_eq_true rfl, Nat.le_of_ble_eq_true rfl⟩) hS (fun q _ h => hFc q h) hFc (fun q _ h => hFc q h) (fun E ce q9 u t H locs ht hvm hpx hBX hz1 hk1 hS hce hcv hcl => ?_) (fun v_1 u t H locs ht hvm hp_2 hB hz1 hk1 hS => ?_)
  · have hpx := hBX
    have hP := keep_P hP hk1
    obtain rfl := err_day hpx
    refine vx_catch (own := RL) (name := xIA) hown [] ⟨0, 13, 16, 13⟩ [] (htb.trans rfl) (fun z hz => absurd hz List.not_mem_nil) (by decide) (by decide) (hts (.classLink RL 13 xIA) (by decide +kernel)) (va_Nw.use rfl (hE.1.2.2.2.1 xIA (by decide))) hce hcv hcl ?_
    have hcd : cd1 (f_X1_day x1 x2 x3 x4) = 1 := by rw [hpx]; rfl
    have hP : va_P (dC, dI) vwCl [(ax, .inr (1, [.ref ab, .ref aw, .int wl, .double la, .double ea, .int wk, .int fl])), (ao, aL 1 (cA 5) (oJ (f_X1_day x1 x2 x3 x4) (fun v => v) fo))] H := by rw [oJ_er hpx]; exact hP
    have hD : va_D A [(ax, .inr (1, [.ref ab, .ref aw, .int wl, .double la, .double ea, .int wk, .int fl])), (ao, aL 1 (cA 5) (oJ (f_X1_day x1 x2 x3 x4) (fun v => v) fo))] := by rw [oJ_er hpx]; exact hD
    refine lv_astore (lv' := [(6, .ref q9), (0, .ref ax), (1, .int x1), (2, .int x2), (3, .int x3), (4, .int x4), (5, .ref ao)]) hx hb dL_day_16 hl (by decide) rfl (fun ls hl => ?_)
    refine lv_iconst (v := 1) hx hb dL_day_18 (by decide) ?_
    exact W.iret hx hb hr (fun t ht hW => ⟨⟨_, (), rfl, hcd.symm, ⟨by rw [ht]; exact hP, hD⟩⟩, hS.F ht⟩) hS.2.2 dL_day_19
  · have hP := keep_P hP hk1
    refine va_last hx hb hK hP hD hS 1 5 rfl rfl (show ¬ ((0 : Int32) < 0 ∨ 1 ≤ (0 : Int32).toNatClampNeg) by decide +kernel) dL_day_12 (fun H locs hP hD hS => ?_)
    have hP : va_P (dC, dI) vwCl [(ax, .inr (1, [.ref ab, .ref aw, .int wl, .double la, .double ea, .int wk, .int fl])), (ao, aL 1 (cA 5) (vp_updL fo ((0 : Int32).toNatClampNeg) v_1))] H := hP
    have hD : va_D A [(ax, .inr (1, [.ref ab, .ref aw, .int wl, .double la, .double ea, .int wk, .int fl])), (ao, aL 1 (cA 5) (vp_updL fo ((0 : Int32).toNatClampNeg) v_1))] := hD
    refine lv_goto (tgt := 20) hx hb dL_day_13 (by decide) ?_
    have hcd : cd1 (f_X1_day x1 x2 x3 x4) = 0 := by rw [hp_2]; rfl
    have hP : va_P (dC, dI) vwCl [(ax, .inr (1, [.ref ab, .ref aw, .int wl, .double la, .double ea, .int wk, .int fl])), (ao, aL 1 (cA 5) (oJ (f_X1_day x1 x2 x3 x4) (fun v => v) fo))] H := by rw [oJ_okC hp_2]; exact hP
    have hD : va_D A [(ax, .inr (1, [.ref ab, .ref aw, .int wl, .double la, .double ea, .int wk, .int fl])), (ao, aL 1 (cA 5) (oJ (f_X1_day x1 x2 x3 x4) (fun v => v) fo))] := by rw [oJ_okC hp_2]; exact hD
    refine lv_iconst (v := 0) hx hb dL_day_20 (by decide) ?_
    exact W.iret hx hb hr (fun t ht hW => ⟨⟨_, (), rfl, hcd.symm, ⟨by rw [ht]; exact hP, hD⟩⟩, hS.F ht⟩) hS.2.2 dL_day_21

set_option maxHeartbeats 4000000 in
set_option maxRecDepth 100000 in
theorem k_L_date (l : Launch) (hst : l.stackTraces = false) (dC : Nat → ClassId) (dI : Nat → Nat → Nat) (cA : Nat → ClassId) (tm tt sz : Nat) (ax ab aw : Nat) (wl : Int32) (la ea : UInt64) (wk fl : Int32) (ao : Nat) (fo : Nat → Int64) (x1 : Int32) (x2 : Int64) (x3 : Int32)  : Met l yL_date wsL_date ({ frames := 7, cells := 1, slots := 6, locals := 119 }) (PcL dC dI cA tm tt sz [.ref ax, .int x1, .long x2, .int x3, .ref ao] [(ax, .inr (1, [.ref ab, .ref aw, .int wl, .double la, .double ea, .int wk, .int fl])), (ao, aL 1 (cA 5) fo)]) (va_Qi (fun r (_ : Unit) => r = cd1 (f_X1_date x1 x2 x3)) (fun _ t => WB dC dI (va_A [(ax, .inr (1, [.ref ab, .ref aw, .int wl, .double la, .double ea, .int wk, .int fl])), (ao, aL 1 (cA 5) fo)] sz) [(ax, .inr (1, [.ref ab, .ref aw, .int wl, .double la, .double ea, .int wk, .int fl])), (ao, aL 1 (cA 5) (oJ (f_X1_date x1 x2 x3) Int32.toInt64 fo))] t) (va_A [(ax, .inr (1, [.ref ab, .ref aw, .int wl, .double la, .double ea, .int wk, .int fl])), (ao, aL 1 (cA 5) fo)] sz)) 1 6 (va_A [(ax, .inr (1, [.ref ab, .ref aw, .int wl, .double la, .double ea, .int wk, .int fl])), (ao, aL 1 (cA 5) fo)] sz) := by
  refine zm_ofWH (cc := cL_date) (maxL := 7) (ret := (some .int)) (by decide) rfl ?_
  intro p e s m args below meth c s₁ B hml htb hv
  obtain ⟨⟨rfl, hsz, hP, hK, hD0, hE⟩, hN⟩ := hv
  subst hsz
  have hD := hD0.self (sz := s.heap.size)
  generalize hAe : va_A [(ax, .inr (1, [.ref ab, .ref aw, .int wl, .double la, .double ea, .int wk, .int fl])), (ao, aL 1 (cA 5) fo)] s.heap.size = A at hD hE ⊢
  have hA : ∀ q : Nat, s.heap.size ≤ q → A q := fun q h => by rw [← hAe]; exact Or.inr h
  have hS : va_S A s.heap s.heap [] := va_S.rf
  have hP : va_P (dC, dI) vwCl [(ax, .inr (1, [.ref ab, .ref aw, .int wl, .double la, .double ea, .int wk, .int fl])), (ao, aL 1 (cA 5) fo)] s.heap := hP
  have hx := B.exec
  have hb := B.bytes
  have hr := B.returns
  have hts := atoms_spec (ws := wsL_date) B.pre
  have hown : s.vm.findClass RL = some m.cls := findClass_of_methodNamed B.named
  have hlocks := B.notSynchronized
  have hl := lv_entry ([.ref ax, .int x1, .long x2, .int x3, .ref ao]) (n := 7) (Nat.le_of_ble_eq_true rfl)
  rw [lg_entry_eq]
  generalize (lg_sl ([.ref ax, .int x1, .long x2, .int x3, .ref ao]) ++ List.replicate (7 - (lg_sl ([.ref ax, .int x1, .long x2, .int x3, .ref ao])).length) Slot.unset).toArray = ls at hl ⊢
  have hl : lv_has ls 7 [(0, .ref ax), (1, .int x1), (2, .long x2), (4, .int x3), (5, .ref ao)] := hl
  refine lv_aload hx hb dL_date_0 (lv_at hl 4 rfl) ?_
  refine lv_iconst (v := 0) hx hb dL_date_2 (by decide) ?_
  refine lv_aload_n hx hb dL_date_3 rfl (lv_at hl 0 rfl) ?_
  refine lv_iload_n hx hb dL_date_4 rfl (lv_at hl 1 rfl) ?_
  refine lv_lload_n hx hb dL_date_5 rfl (lv_at hl 2 rfl) ?_
  refine lv_iload hx hb dL_date_6 (lv_at hl 3 rfl) ?_
  have hPc := hP.sub (ws' := [(ax, .inr (1, [.ref ab, .ref aw, .int wl, .double la, .double ea, .int wk, .int fl]))]) [0] rfl
  have hFc := free_0 hS hA
  refine vx_calli (vx_runV (As := [.int x1, .long x2, .int x3]) (rest := [.int 0, .ref ao]) ⟨hx, hb, hml, hown, hts⟩ (k_X1_date l hst tm tt _ ax x1 x2 x3) (cwV 3 hts gL_date_X1_date rfl rfl rfl (by decide +kernel) ⟨Nat.le_of_ble_eq_true rfl, Nat.le_of_ble_eq_true rfl⟩) ⟨PcG.blind, va_recv hK hPc (ci := 1) (q0 := 0) rfl rfl, PcG.give (sz := 0) hE hS hFc⟩ rfl rfl hl.1 rfl (lv_room (Nat.le_of_ble_eq_true rfl)) dL_date_8 ⟨Nat.le_of_ble_eq_true rfl, Nat.le_of_ble_eq_true rfl⟩) hS (fun q _ h => hFc q h) hFc (fun q _ h => hFc q h) (fun E ce q9 u t H locs ht hvm hpx hBX hz1 hk1 hS hce hcv hcl => ?_) (fun v_1 u t H locs ht hvm hp_2 hB hz1 hk1 hS => ?_)
  · have hpx := hBX
    have hP := keep_P hP hk1
    obtain rfl := err_date hpx
    refine vx_catch (own := RL) (name := xIA) hown [] ⟨0, 13, 16, 13⟩ [] (htb.trans rfl) (fun z hz => absurd hz List.not_mem_nil) (by decide) (by decide) (hts (.classLink RL 13 xIA) (by decide +kernel)) (va_Nw.use rfl (hE.1.2.2.2.1 xIA (by decide))) hce hcv hcl ?_
    have hcd : cd1 (f_X1_date x1 x2 x3) = 1 := by rw [hpx]; rfl
    have hP : va_P (dC, dI) vwCl [(ax, .inr (1, [.ref ab, .ref aw, .int wl, .double la, .double ea, .int wk, .int fl])), (ao, aL 1 (cA 5) (oJ (f_X1_date x1 x2 x3) Int32.toInt64 fo))] H := by rw [oJ_er hpx]; exact hP
    have hD : va_D A [(ax, .inr (1, [.ref ab, .ref aw, .int wl, .double la, .double ea, .int wk, .int fl])), (ao, aL 1 (cA 5) (oJ (f_X1_date x1 x2 x3) Int32.toInt64 fo))] := by rw [oJ_er hpx]; exact hD
    refine lv_astore (lv' := [(6, .ref q9), (0, .ref ax), (1, .int x1), (2, .long x2), (4, .int x3), (5, .ref ao)]) hx hb dL_date_16 hl (by decide) rfl (fun ls hl => ?_)
    refine lv_iconst (v := 1) hx hb dL_date_18 (by decide) ?_
    exact W.iret hx hb hr (fun t ht hW => ⟨⟨_, (), rfl, hcd.symm, ⟨by rw [ht]; exact hP, hD⟩⟩, hS.F ht⟩) hS.2.2 dL_date_19
  · have hP := keep_P hP hk1
    refine lv_i2l hx hb dL_date_11 rfl ?_
    refine va_last hx hb hK hP hD hS 1 5 rfl rfl (show ¬ ((0 : Int32) < 0 ∨ 1 ≤ (0 : Int32).toNatClampNeg) by decide +kernel) dL_date_12 (fun H locs hP hD hS => ?_)
    have hP : va_P (dC, dI) vwCl [(ax, .inr (1, [.ref ab, .ref aw, .int wl, .double la, .double ea, .int wk, .int fl])), (ao, aL 1 (cA 5) (vp_updL fo ((0 : Int32).toNatClampNeg) (Int32.toInt64 v_1)))] H := hP
    have hD : va_D A [(ax, .inr (1, [.ref ab, .ref aw, .int wl, .double la, .double ea, .int wk, .int fl])), (ao, aL 1 (cA 5) (vp_updL fo ((0 : Int32).toNatClampNeg) (Int32.toInt64 v_1)))] := hD
    refine lv_goto (tgt := 20) hx hb dL_date_13 (by decide) ?_
    have hcd : cd1 (f_X1_date x1 x2 x3) = 0 := by rw [hp_2]; rfl
    have hP : va_P (dC, dI) vwCl [(ax, .inr (1, [.ref ab, .ref aw, .int wl, .double la, .double ea, .int wk, .int fl])), (ao, aL 1 (cA 5) (oJ (f_X1_date x1 x2 x3) Int32.toInt64 fo))] H := by rw [oJ_okC hp_2]; exact hP
    have hD : va_D A [(ax, .inr (1, [.ref ab, .ref aw, .int wl, .double la, .double ea, .int wk, .int fl])), (ao, aL 1 (cA 5) (oJ (f_X1_date x1 x2 x3) Int32.toInt64 fo))] := by rw [oJ_okC hp_2]; exact hD
    refine lv_iconst (v := 0) hx hb dL_date_20 (by decide) ?_
    exact W.iret hx hb hr (fun t ht hW => ⟨⟨_, (), rfl, hcd.symm, ⟨by rw [ht]; exact hP, hD⟩⟩, hS.F ht⟩) hS.2.2 dL_date_21

set_option maxHeartbeats 4000000 in
set_option maxRecDepth 100000 in
theorem k_L_easter (l : Launch) (hst : l.stackTraces = false) (dC : Nat → ClassId) (dI : Nat → Nat → Nat) (cA : Nat → ClassId) (tm tt sz : Nat) (ax ab aw : Nat) (wl : Int32) (la ea : UInt64) (wk fl : Int32) (ao : Nat) (fo : Nat → Int64) (x1 : Int32)  : Met l yL_easter wsL_easter ({ frames := 7, cells := 1, slots := 6, locals := 112 }) (PcL dC dI cA tm tt sz [.ref ax, .int x1, .ref ao] [(ax, .inr (1, [.ref ab, .ref aw, .int wl, .double la, .double ea, .int wk, .int fl])), (ao, aL 1 (cA 5) fo)]) (va_Qi (fun r (_ : Unit) => r = cd1 (f_X1_easter x1)) (fun _ t => WB dC dI (va_A [(ax, .inr (1, [.ref ab, .ref aw, .int wl, .double la, .double ea, .int wk, .int fl])), (ao, aL 1 (cA 5) fo)] sz) [(ax, .inr (1, [.ref ab, .ref aw, .int wl, .double la, .double ea, .int wk, .int fl])), (ao, aL 1 (cA 5) (oJ (f_X1_easter x1) (fun v => v) fo))] t) (va_A [(ax, .inr (1, [.ref ab, .ref aw, .int wl, .double la, .double ea, .int wk, .int fl])), (ao, aL 1 (cA 5) fo)] sz)) 1 6 (va_A [(ax, .inr (1, [.ref ab, .ref aw, .int wl, .double la, .double ea, .int wk, .int fl])), (ao, aL 1 (cA 5) fo)] sz) := by
  refine zm_ofWH (cc := cL_easter) (maxL := 4) (ret := (some .int)) (by decide) rfl ?_
  intro p e s m args below meth c s₁ B hml htb hv
  obtain ⟨⟨rfl, hsz, hP, hK, hD0, hE⟩, hN⟩ := hv
  subst hsz
  have hD := hD0.self (sz := s.heap.size)
  generalize hAe : va_A [(ax, .inr (1, [.ref ab, .ref aw, .int wl, .double la, .double ea, .int wk, .int fl])), (ao, aL 1 (cA 5) fo)] s.heap.size = A at hD hE ⊢
  have hA : ∀ q : Nat, s.heap.size ≤ q → A q := fun q h => by rw [← hAe]; exact Or.inr h
  have hS : va_S A s.heap s.heap [] := va_S.rf
  have hP : va_P (dC, dI) vwCl [(ax, .inr (1, [.ref ab, .ref aw, .int wl, .double la, .double ea, .int wk, .int fl])), (ao, aL 1 (cA 5) fo)] s.heap := hP
  have hx := B.exec
  have hb := B.bytes
  have hr := B.returns
  have hts := atoms_spec (ws := wsL_easter) B.pre
  have hown : s.vm.findClass RL = some m.cls := findClass_of_methodNamed B.named
  have hlocks := B.notSynchronized
  have hl := lv_entry ([.ref ax, .int x1, .ref ao]) (n := 4) (Nat.le_of_ble_eq_true rfl)
  rw [lg_entry_eq]
  generalize (lg_sl ([.ref ax, .int x1, .ref ao]) ++ List.replicate (4 - (lg_sl ([.ref ax, .int x1, .ref ao])).length) Slot.unset).toArray = ls at hl ⊢
  have hl : lv_has ls 4 [(0, .ref ax), (1, .int x1), (2, .ref ao)] := hl
  refine lv_aload_n hx hb dL_easter_0 rfl (lv_at hl 2 rfl) ?_
  refine lv_iconst (v := 0) hx hb dL_easter_1 (by decide) ?_
  refine lv_aload_n hx hb dL_easter_2 rfl (lv_at hl 0 rfl) ?_
  refine lv_iload_n hx hb dL_easter_3 rfl (lv_at hl 1 rfl) ?_
  have hPc := hP.sub (ws' := [(ax, .inr (1, [.ref ab, .ref aw, .int wl, .double la, .double ea, .int wk, .int fl]))]) [0] rfl
  have hFc := free_0 hS hA
  refine vx_calll (vx_runV (As := [.int x1]) (rest := [.int 0, .ref ao]) ⟨hx, hb, hml, hown, hts⟩ (k_X1_easter l hst tm tt _ ax x1) (cwV 1 hts gL_easter_X1_easter rfl rfl rfl (by decide +kernel) ⟨Nat.le_of_ble_eq_true rfl, Nat.le_of_ble_eq_true rfl⟩) ⟨PcG.blind, va_recv hK hPc (ci := 1) (q0 := 0) rfl rfl, PcG.give (sz := 0) hE hS hFc⟩ rfl rfl hl.1 rfl (lv_room (Nat.le_of_ble_eq_true rfl)) dL_easter_4 ⟨Nat.le_of_ble_eq_true rfl, Nat.le_of_ble_eq_true rfl⟩) hS (fun q _ h => hFc q h) hFc (fun q _ h => hFc q h) (fun E ce q9 u t H locs ht hvm hpx hBX hz1 hk1 hS hce hcv hcl => ?_) (fun v_1 u t H locs ht hvm hp_2 hB hz1 hk1 hS => ?_)
  · have hpx := hBX
    have hP := keep_P hP hk1
    obtain rfl := err_easter hpx
    refine vx_catch (own := RL) (name := xIA) hown [] ⟨0, 8, 11, 13⟩ [] (htb.trans rfl) (fun z hz => absurd hz List.not_mem_nil) (by decide) (by decide) (hts (.classLink RL 13 xIA) (by decide +kernel)) (va_Nw.use rfl (hE.1.2.2.2.1 xIA (by decide))) hce hcv hcl ?_
    have hcd : cd1 (f_X1_easter x1) = 1 := by rw [hpx]; rfl
    have hP : va_P (dC, dI) vwCl [(ax, .inr (1, [.ref ab, .ref aw, .int wl, .double la, .double ea, .int wk, .int fl])), (ao, aL 1 (cA 5) (oJ (f_X1_easter x1) (fun v => v) fo))] H := by rw [oJ_er hpx]; exact hP
    have hD : va_D A [(ax, .inr (1, [.ref ab, .ref aw, .int wl, .double la, .double ea, .int wk, .int fl])), (ao, aL 1 (cA 5) (oJ (f_X1_easter x1) (fun v => v) fo))] := by rw [oJ_er hpx]; exact hD
    refine lv_astore_n (lv' := [(3, .ref q9), (0, .ref ax), (1, .int x1), (2, .ref ao)]) hx hb dL_easter_11 rfl hl (by decide) rfl (fun ls hl => ?_)
    refine lv_iconst (v := 1) hx hb dL_easter_12 (by decide) ?_
    exact W.iret hx hb hr (fun t ht hW => ⟨⟨_, (), rfl, hcd.symm, ⟨by rw [ht]; exact hP, hD⟩⟩, hS.F ht⟩) hS.2.2 dL_easter_13
  · have hP := keep_P hP hk1
    refine va_last hx hb hK hP hD hS 1 5 rfl rfl (show ¬ ((0 : Int32) < 0 ∨ 1 ≤ (0 : Int32).toNatClampNeg) by decide +kernel) dL_easter_7 (fun H locs hP hD hS => ?_)
    have hP : va_P (dC, dI) vwCl [(ax, .inr (1, [.ref ab, .ref aw, .int wl, .double la, .double ea, .int wk, .int fl])), (ao, aL 1 (cA 5) (vp_updL fo ((0 : Int32).toNatClampNeg) v_1))] H := hP
    have hD : va_D A [(ax, .inr (1, [.ref ab, .ref aw, .int wl, .double la, .double ea, .int wk, .int fl])), (ao, aL 1 (cA 5) (vp_updL fo ((0 : Int32).toNatClampNeg) v_1))] := hD
    refine lv_goto (tgt := 14) hx hb dL_easter_8 (by decide) ?_
    have hcd : cd1 (f_X1_easter x1) = 0 := by rw [hp_2]; rfl
    have hP : va_P (dC, dI) vwCl [(ax, .inr (1, [.ref ab, .ref aw, .int wl, .double la, .double ea, .int wk, .int fl])), (ao, aL 1 (cA 5) (oJ (f_X1_easter x1) (fun v => v) fo))] H := by rw [oJ_okC hp_2]; exact hP
    have hD : va_D A [(ax, .inr (1, [.ref ab, .ref aw, .int wl, .double la, .double ea, .int wk, .int fl])), (ao, aL 1 (cA 5) (oJ (f_X1_easter x1) (fun v => v) fo))] := by rw [oJ_okC hp_2]; exact hD
    refine lv_iconst (v := 0) hx hb dL_easter_14 (by decide) ?_
    exact W.iret hx hb hr (fun t ht hW => ⟨⟨_, (), rfl, hcd.symm, ⟨by rw [ht]; exact hP, hD⟩⟩, hS.F ht⟩) hS.2.2 dL_easter_15

set_option maxHeartbeats 4000000 in
set_option maxRecDepth 100000 in
theorem k_L_sidereal (l : Launch) (hst : l.stackTraces = false) (dC : Nat → ClassId) (dI : Nat → Nat → Nat) (cA : Nat → ClassId) (tm tt sz : Nat) (ax ab aw : Nat) (wl : Int32) (la ea : UInt64) (wk fl : Int32) (ao : Nat) (fo : Nat → UInt64) (x1 : UInt64) (h0 : fR x1 (-288230376151711744) 288230376151711744) : Met l yL_sidereal wsL_sidereal ({ frames := 7, cells := 1, slots := 6, locals := 104 }) (PcL dC dI cA tm tt sz [.ref ax, .double x1, .ref ao] [(ax, .inr (1, [.ref ab, .ref aw, .int wl, .double la, .double ea, .int wk, .int fl])), (ao, aD 1 (cA 1) fo)]) (va_Qi (fun r (_ : Unit) => r = cd1 (f_X1_sidereal x1)) (fun _ t => WB dC dI (va_A [(ax, .inr (1, [.ref ab, .ref aw, .int wl, .double la, .double ea, .int wk, .int fl])), (ao, aD 1 (cA 1) fo)] sz) [(ax, .inr (1, [.ref ab, .ref aw, .int wl, .double la, .double ea, .int wk, .int fl])), (ao, aD 1 (cA 1) (oD (f_X1_sidereal x1) fo))] t) (va_A [(ax, .inr (1, [.ref ab, .ref aw, .int wl, .double la, .double ea, .int wk, .int fl])), (ao, aD 1 (cA 1) fo)] sz)) 1 6 (va_A [(ax, .inr (1, [.ref ab, .ref aw, .int wl, .double la, .double ea, .int wk, .int fl])), (ao, aD 1 (cA 1) fo)] sz) := by
  refine zm_ofWH (cc := cL_sidereal) (maxL := 5) (ret := (some .int)) (by decide) rfl ?_
  intro p e s m args below meth c s₁ B hml htb hv
  obtain ⟨⟨rfl, hsz, hP, hK, hD0, hE⟩, hN⟩ := hv
  subst hsz
  have hD := hD0.self (sz := s.heap.size)
  generalize hAe : va_A [(ax, .inr (1, [.ref ab, .ref aw, .int wl, .double la, .double ea, .int wk, .int fl])), (ao, aD 1 (cA 1) fo)] s.heap.size = A at hD hE ⊢
  have hA : ∀ q : Nat, s.heap.size ≤ q → A q := fun q h => by rw [← hAe]; exact Or.inr h
  have hS : va_S A s.heap s.heap [] := va_S.rf
  have hP : va_P (dC, dI) vwCl [(ax, .inr (1, [.ref ab, .ref aw, .int wl, .double la, .double ea, .int wk, .int fl])), (ao, aD 1 (cA 1) fo)] s.heap := hP
  have hx := B.exec
  have hb := B.bytes
  have hr := B.returns
  have hts := atoms_spec (ws := wsL_sidereal) B.pre
  have hown : s.vm.findClass RL = some m.cls := findClass_of_methodNamed B.named
  have hlocks := B.notSynchronized
  have hl := lv_entry ([.ref ax, .double x1, .ref ao]) (n := 5) (Nat.le_of_ble_eq_true rfl)
  rw [lg_entry_eq]
  generalize (lg_sl ([.ref ax, .double x1, .ref ao]) ++ List.replicate (5 - (lg_sl ([.ref ax, .double x1, .ref ao])).length) Slot.unset).toArray = ls at hl ⊢
  have hl : lv_has ls 5 [(0, .ref ax), (1, .double x1), (3, .ref ao)] := hl
  refine lv_aload_n hx hb dL_sidereal_0 rfl (lv_at hl 2 rfl) ?_
  refine lv_iconst (v := 0) hx hb dL_sidereal_1 (by decide) ?_
  refine lv_aload_n hx hb dL_sidereal_2 rfl (lv_at hl 0 rfl) ?_
  refine lv_dload_n hx hb dL_sidereal_3 rfl (lv_at hl 1 rfl) ?_
  have hPc := hP.sub (ws' := [(ax, .inr (1, [.ref ab, .ref aw, .int wl, .double la, .double ea, .int wk, .int fl]))]) [0] rfl
  have hFc := free_0 hS hA
  refine vx_calld (vx_runV (As := [.double x1]) (rest := [.int 0, .ref ao]) ⟨hx, hb, hml, hown, hts⟩ (k_X1_sidereal l hst tm tt _ ax x1 h0) (cwV 1 hts gL_sidereal_X1_sidereal rfl rfl rfl (by decide +kernel) ⟨Nat.le_of_ble_eq_true rfl, Nat.le_of_ble_eq_true rfl⟩) ⟨PcG.blind, va_recv hK hPc (ci := 1) (q0 := 0) rfl rfl, PcG.give (sz := 0) hE hS hFc⟩ rfl rfl hl.1 rfl (lv_room (Nat.le_of_ble_eq_true rfl)) dL_sidereal_4 ⟨Nat.le_of_ble_eq_true rfl, Nat.le_of_ble_eq_true rfl⟩) hS (fun q _ h => hFc q h) hFc (fun q _ h => hFc q h) (fun E ce q9 u t H locs ht hvm hpx hBX hz1 hk1 hS hce hcv hcl => ?_) (fun v_1 u t H locs ht hvm hp_2 hB hz1 hk1 hS => ?_)
  · have hpx := hBX
    have hP := keep_P hP hk1
    obtain rfl := err_sidereal hpx
    refine vx_catch (own := RL) (name := xIA) hown [] ⟨0, 8, 11, 13⟩ [] (htb.trans rfl) (fun z hz => absurd hz List.not_mem_nil) (by decide) (by decide) (hts (.classLink RL 13 xIA) (by decide +kernel)) (va_Nw.use rfl (hE.1.2.2.2.1 xIA (by decide))) hce hcv hcl ?_
    have hcd : cd1 (f_X1_sidereal x1) = 1 := by rw [hpx]; rfl
    have hP : va_P (dC, dI) vwCl [(ax, .inr (1, [.ref ab, .ref aw, .int wl, .double la, .double ea, .int wk, .int fl])), (ao, aD 1 (cA 1) (oD (f_X1_sidereal x1) fo))] H := by rw [oD_er hpx]; exact hP
    have hD : va_D A [(ax, .inr (1, [.ref ab, .ref aw, .int wl, .double la, .double ea, .int wk, .int fl])), (ao, aD 1 (cA 1) (oD (f_X1_sidereal x1) fo))] := by rw [oD_er hpx]; exact hD
    refine lv_astore (lv' := [(4, .ref q9), (0, .ref ax), (1, .double x1), (3, .ref ao)]) hx hb dL_sidereal_11 hl (by decide) rfl (fun ls hl => ?_)
    refine lv_iconst (v := 1) hx hb dL_sidereal_13 (by decide) ?_
    exact W.iret hx hb hr (fun t ht hW => ⟨⟨_, (), rfl, hcd.symm, ⟨by rw [ht]; exact hP, hD⟩⟩, hS.F ht⟩) hS.2.2 dL_sidereal_14
  · have hP := keep_P hP hk1
    refine va_dast hx hb hK hP hD hS 1 1 rfl rfl (show ¬ ((0 : Int32) < 0 ∨ 1 ≤ (0 : Int32).toNatClampNeg) by decide +kernel) dL_sidereal_7 (fun H locs hP hD hS => ?_)
    have hP : va_P (dC, dI) vwCl [(ax, .inr (1, [.ref ab, .ref aw, .int wl, .double la, .double ea, .int wk, .int fl])), (ao, aD 1 (cA 1) (vf_upd fo ((0 : Int32).toNatClampNeg) v_1))] H := hP
    have hD : va_D A [(ax, .inr (1, [.ref ab, .ref aw, .int wl, .double la, .double ea, .int wk, .int fl])), (ao, aD 1 (cA 1) (vf_upd fo ((0 : Int32).toNatClampNeg) v_1))] := hD
    refine lv_goto (tgt := 15) hx hb dL_sidereal_8 (by decide) ?_
    have hcd : cd1 (f_X1_sidereal x1) = 0 := by rw [hp_2]; rfl
    have hP : va_P (dC, dI) vwCl [(ax, .inr (1, [.ref ab, .ref aw, .int wl, .double la, .double ea, .int wk, .int fl])), (ao, aD 1 (cA 1) (oD (f_X1_sidereal x1) fo))] H := by rw [oD_okC hp_2]; exact hP
    have hD : va_D A [(ax, .inr (1, [.ref ab, .ref aw, .int wl, .double la, .double ea, .int wk, .int fl])), (ao, aD 1 (cA 1) (oD (f_X1_sidereal x1) fo))] := by rw [oD_okC hp_2]; exact hD
    refine lv_iconst (v := 0) hx hb dL_sidereal_15 (by decide) ?_
    exact W.iret hx hb hr (fun t ht hW => ⟨⟨_, (), rfl, hcd.symm, ⟨by rw [ht]; exact hP, hD⟩⟩, hS.F ht⟩) hS.2.2 dL_sidereal_16

set_option maxHeartbeats 4000000 in
set_option maxRecDepth 100000 in
theorem k_L_angle (l : Launch) (hst : l.stackTraces = false) (dC : Nat → ClassId) (dI : Nat → Nat → Nat) (cA : Nat → ClassId) (tm tt sz : Nat) (ax ab aw : Nat) (wl : Int32) (la ea : UInt64) (wk fl : Int32) (ao : Nat) (fo : Nat → UInt64) (x1 : Int32) (x2 : Int32) (x3 : Int32) (x4 : UInt64) (h0 : fR x4 (-288230376151711744) 288230376151711744) : Met l yL_angle wsL_angle ({ frames := 7, cells := 1, slots := 6, locals := 107 }) (PcL dC dI cA tm tt sz [.ref ax, .int x1, .int x2, .int x3, .double x4, .ref ao] [(ax, .inr (1, [.ref ab, .ref aw, .int wl, .double la, .double ea, .int wk, .int fl])), (ao, aD 1 (cA 1) fo)]) (va_Qi (fun r (_ : Unit) => r = cd1 (f_X1_angle x1 x2 x3 x4)) (fun _ t => WB dC dI (va_A [(ax, .inr (1, [.ref ab, .ref aw, .int wl, .double la, .double ea, .int wk, .int fl])), (ao, aD 1 (cA 1) fo)] sz) [(ax, .inr (1, [.ref ab, .ref aw, .int wl, .double la, .double ea, .int wk, .int fl])), (ao, aD 1 (cA 1) (oD (f_X1_angle x1 x2 x3 x4) fo))] t) (va_A [(ax, .inr (1, [.ref ab, .ref aw, .int wl, .double la, .double ea, .int wk, .int fl])), (ao, aD 1 (cA 1) fo)] sz)) 1 6 (va_A [(ax, .inr (1, [.ref ab, .ref aw, .int wl, .double la, .double ea, .int wk, .int fl])), (ao, aD 1 (cA 1) fo)] sz) := by
  refine zm_ofWH (cc := cL_angle) (maxL := 8) (ret := (some .int)) (by decide) rfl ?_
  intro p e s m args below meth c s₁ B hml htb hv
  obtain ⟨⟨rfl, hsz, hP, hK, hD0, hE⟩, hN⟩ := hv
  subst hsz
  have hD := hD0.self (sz := s.heap.size)
  generalize hAe : va_A [(ax, .inr (1, [.ref ab, .ref aw, .int wl, .double la, .double ea, .int wk, .int fl])), (ao, aD 1 (cA 1) fo)] s.heap.size = A at hD hE ⊢
  have hA : ∀ q : Nat, s.heap.size ≤ q → A q := fun q h => by rw [← hAe]; exact Or.inr h
  have hS : va_S A s.heap s.heap [] := va_S.rf
  have hP : va_P (dC, dI) vwCl [(ax, .inr (1, [.ref ab, .ref aw, .int wl, .double la, .double ea, .int wk, .int fl])), (ao, aD 1 (cA 1) fo)] s.heap := hP
  have hx := B.exec
  have hb := B.bytes
  have hr := B.returns
  have hts := atoms_spec (ws := wsL_angle) B.pre
  have hown : s.vm.findClass RL = some m.cls := findClass_of_methodNamed B.named
  have hlocks := B.notSynchronized
  have hl := lv_entry ([.ref ax, .int x1, .int x2, .int x3, .double x4, .ref ao]) (n := 8) (Nat.le_of_ble_eq_true rfl)
  rw [lg_entry_eq]
  generalize (lg_sl ([.ref ax, .int x1, .int x2, .int x3, .double x4, .ref ao]) ++ List.replicate (8 - (lg_sl ([.ref ax, .int x1, .int x2, .int x3, .double x4, .ref ao])).length) Slot.unset).toArray = ls at hl ⊢
  have hl : lv_has ls 8 [(0, .ref ax), (1, .int x1), (2, .int x2), (3, .int x3), (4, .double x4), (6, .ref ao)] := hl
  refine lv_aload hx hb dL_angle_0 (lv_at hl 5 rfl) ?_
  refine lv_iconst (v := 0) hx hb dL_angle_2 (by decide) ?_
  refine lv_aload_n hx hb dL_angle_3 rfl (lv_at hl 0 rfl) ?_
  refine lv_iload_n hx hb dL_angle_4 rfl (lv_at hl 1 rfl) ?_
  refine lv_iload_n hx hb dL_angle_5 rfl (lv_at hl 2 rfl) ?_
  refine lv_iload_n hx hb dL_angle_6 rfl (lv_at hl 3 rfl) ?_
  refine lv_dload hx hb dL_angle_7 (lv_at hl 4 rfl) ?_
  have hPc := hP.sub (ws' := [(ax, .inr (1, [.ref ab, .ref aw, .int wl, .double la, .double ea, .int wk, .int fl]))]) [0] rfl
  have hFc := free_0 hS hA
  refine vx_calld (vx_runV (As := [.int x1, .int x2, .int x3, .double x4]) (rest := [.int 0, .ref ao]) ⟨hx, hb, hml, hown, hts⟩ (k_X1_angle l hst tm tt _ ax x1 x2 x3 x4 h0) (cwV 4 hts gL_angle_X1_angle rfl rfl rfl (by decide +kernel) ⟨Nat.le_of_ble_eq_true rfl, Nat.le_of_ble_eq_true rfl⟩) ⟨PcG.blind, va_recv hK hPc (ci := 1) (q0 := 0) rfl rfl, PcG.give (sz := 0) hE hS hFc⟩ rfl rfl hl.1 rfl (lv_room (Nat.le_of_ble_eq_true rfl)) dL_angle_9 ⟨Nat.le_of_ble_eq_true rfl, Nat.le_of_ble_eq_true rfl⟩) hS (fun q _ h => hFc q h) hFc (fun q _ h => hFc q h) (fun E ce q9 u t H locs ht hvm hpx hBX hz1 hk1 hS hce hcv hcl => ?_) (fun v_1 u t H locs ht hvm hp_2 hB hz1 hk1 hS => ?_)
  · have hpx := hBX
    have hP := keep_P hP hk1
    obtain rfl := err_angle hpx
    refine vx_catch (own := RL) (name := xIA) hown [] ⟨0, 13, 16, 13⟩ [] (htb.trans rfl) (fun z hz => absurd hz List.not_mem_nil) (by decide) (by decide) (hts (.classLink RL 13 xIA) (by decide +kernel)) (va_Nw.use rfl (hE.1.2.2.2.1 xIA (by decide))) hce hcv hcl ?_
    have hcd : cd1 (f_X1_angle x1 x2 x3 x4) = 1 := by rw [hpx]; rfl
    have hP : va_P (dC, dI) vwCl [(ax, .inr (1, [.ref ab, .ref aw, .int wl, .double la, .double ea, .int wk, .int fl])), (ao, aD 1 (cA 1) (oD (f_X1_angle x1 x2 x3 x4) fo))] H := by rw [oD_er hpx]; exact hP
    have hD : va_D A [(ax, .inr (1, [.ref ab, .ref aw, .int wl, .double la, .double ea, .int wk, .int fl])), (ao, aD 1 (cA 1) (oD (f_X1_angle x1 x2 x3 x4) fo))] := by rw [oD_er hpx]; exact hD
    refine lv_astore (lv' := [(7, .ref q9), (0, .ref ax), (1, .int x1), (2, .int x2), (3, .int x3), (4, .double x4), (6, .ref ao)]) hx hb dL_angle_16 hl (by decide) rfl (fun ls hl => ?_)
    refine lv_iconst (v := 1) hx hb dL_angle_18 (by decide) ?_
    exact W.iret hx hb hr (fun t ht hW => ⟨⟨_, (), rfl, hcd.symm, ⟨by rw [ht]; exact hP, hD⟩⟩, hS.F ht⟩) hS.2.2 dL_angle_19
  · have hP := keep_P hP hk1
    refine va_dast hx hb hK hP hD hS 1 1 rfl rfl (show ¬ ((0 : Int32) < 0 ∨ 1 ≤ (0 : Int32).toNatClampNeg) by decide +kernel) dL_angle_12 (fun H locs hP hD hS => ?_)
    have hP : va_P (dC, dI) vwCl [(ax, .inr (1, [.ref ab, .ref aw, .int wl, .double la, .double ea, .int wk, .int fl])), (ao, aD 1 (cA 1) (vf_upd fo ((0 : Int32).toNatClampNeg) v_1))] H := hP
    have hD : va_D A [(ax, .inr (1, [.ref ab, .ref aw, .int wl, .double la, .double ea, .int wk, .int fl])), (ao, aD 1 (cA 1) (vf_upd fo ((0 : Int32).toNatClampNeg) v_1))] := hD
    refine lv_goto (tgt := 20) hx hb dL_angle_13 (by decide) ?_
    have hcd : cd1 (f_X1_angle x1 x2 x3 x4) = 0 := by rw [hp_2]; rfl
    have hP : va_P (dC, dI) vwCl [(ax, .inr (1, [.ref ab, .ref aw, .int wl, .double la, .double ea, .int wk, .int fl])), (ao, aD 1 (cA 1) (oD (f_X1_angle x1 x2 x3 x4) fo))] H := by rw [oD_okC hp_2]; exact hP
    have hD : va_D A [(ax, .inr (1, [.ref ab, .ref aw, .int wl, .double la, .double ea, .int wk, .int fl])), (ao, aD 1 (cA 1) (oD (f_X1_angle x1 x2 x3 x4) fo))] := by rw [oD_okC hp_2]; exact hD
    refine lv_iconst (v := 0) hx hb dL_angle_20 (by decide) ?_
    exact W.iret hx hb hr (fun t ht hW => ⟨⟨_, (), rfl, hcd.symm, ⟨by rw [ht]; exact hP, hD⟩⟩, hS.F ht⟩) hS.2.2 dL_angle_21

set_option maxHeartbeats 4000000 in
set_option maxRecDepth 100000 in
theorem k_L_observer (l : Launch) (hst : l.stackTraces = false) (dC : Nat → ClassId) (dI : Nat → Nat → Nat) (cA : Nat → ClassId) (tm tt sz : Nat) (ax ab aw : Nat) (wl : Int32) (la ea : UInt64) (wk fl : Int32) (ao : Nat) (fo : Nat → Int64) (x1 : UInt64) (x2 : UInt64)  : Met l yL_observer wsL_observer ({ frames := 7, cells := 1, slots := 6, locals := 107 }) (PcL dC dI cA tm tt sz [.ref ax, .double x1, .double x2, .ref ao] [(ax, .inr (1, [.ref ab, .ref aw, .int wl, .double la, .double ea, .int wk, .int fl])), (ao, aL 1 (cA 5) fo)]) (va_Qi (fun r (_ : Unit) => r = cd1 (f_X1_observer la ea x1 x2)) (fun _ t => WB dC dI (va_A [(ax, .inr (1, [.ref ab, .ref aw, .int wl, .double la, .double ea, .int wk, .int fl])), (ao, aL 1 (cA 5) fo)] sz) [(ax, .inr (1, [.ref ab, .ref aw, .int wl, .double (if cd1 (f_X1_observer la ea x1 x2) = 0 then x1 else la), .double (if cd1 (f_X1_observer la ea x1 x2) = 0 then x2 else ea), .int wk, .int fl])), (ao, aL 1 (cA 5) (oJ (f_X1_observer la ea x1 x2) bJ fo))] t) (va_A [(ax, .inr (1, [.ref ab, .ref aw, .int wl, .double la, .double ea, .int wk, .int fl])), (ao, aL 1 (cA 5) fo)] sz)) 1 6 (va_A [(ax, .inr (1, [.ref ab, .ref aw, .int wl, .double la, .double ea, .int wk, .int fl])), (ao, aL 1 (cA 5) fo)] sz) := by
  refine zm_ofWH (cc := cL_observer) (maxL := 7) (ret := (some .int)) (by decide) rfl ?_
  intro p e s m args below meth c s₁ B hml htb hv
  obtain ⟨⟨rfl, hsz, hP, hK, hD0, hE⟩, hN⟩ := hv
  subst hsz
  have hD := hD0.self (sz := s.heap.size)
  generalize hAe : va_A [(ax, .inr (1, [.ref ab, .ref aw, .int wl, .double la, .double ea, .int wk, .int fl])), (ao, aL 1 (cA 5) fo)] s.heap.size = A at hD hE ⊢
  have hA : ∀ q : Nat, s.heap.size ≤ q → A q := fun q h => by rw [← hAe]; exact Or.inr h
  have hS : va_S A s.heap s.heap [] := va_S.rf
  have hP : va_P (dC, dI) vwCl [(ax, .inr (1, [.ref ab, .ref aw, .int wl, .double la, .double ea, .int wk, .int fl])), (ao, aL 1 (cA 5) fo)] s.heap := hP
  have hx := B.exec
  have hb := B.bytes
  have hr := B.returns
  have hts := atoms_spec (ws := wsL_observer) B.pre
  have hown : s.vm.findClass RL = some m.cls := findClass_of_methodNamed B.named
  have hlocks := B.notSynchronized
  have hl := lv_entry ([.ref ax, .double x1, .double x2, .ref ao]) (n := 7) (Nat.le_of_ble_eq_true rfl)
  rw [lg_entry_eq]
  generalize (lg_sl ([.ref ax, .double x1, .double x2, .ref ao]) ++ List.replicate (7 - (lg_sl ([.ref ax, .double x1, .double x2, .ref ao])).length) Slot.unset).toArray = ls at hl ⊢
  have hl : lv_has ls 7 [(0, .ref ax), (1, .double x1), (3, .double x2), (5, .ref ao)] := hl
  refine lv_aload hx hb dL_observer_0 (lv_at hl 3 rfl) ?_
  refine lv_iconst (v := 0) hx hb dL_observer_2 (by decide) ?_
  refine lv_aload_n hx hb dL_observer_3 rfl (lv_at hl 0 rfl) ?_
  refine lv_dload_n hx hb dL_observer_4 rfl (lv_at hl 1 rfl) ?_
  refine lv_dload_n hx hb dL_observer_5 rfl (lv_at hl 2 rfl) ?_
  have hPc := hP.sub (ws' := [(ax, .inr (1, [.ref ab, .ref aw, .int wl, .double la, .double ea, .int wk, .int fl]))]) [0] rfl
  have hDc := hD.sub (ws' := [(ax, .inr (1, [.ref ab, .ref aw, .int wl, .double la, .double ea, .int wk, .int fl]))]) [0] (by decide) rfl
  have hFc := va_free (wc := [(ax, .inr (1, [.ref ab, .ref aw, .int wl, .double la, .double ea, .int wk, .int fl]))]) hD hS hA [0] rfl
  refine vx_calli (vx_runV (As := [.double x1, .double x2]) (rest := [.int 0, .ref ao]) ⟨hx, hb, hml, hown, hts⟩ (k_X1_observer l hst dC dI cA tm tt _ ax ab aw wl la ea wk fl x1 x2) (cwV 2 hts gL_observer_X1_observer rfl rfl rfl (by decide +kernel) ⟨Nat.le_of_ble_eq_true rfl, Nat.le_of_ble_eq_true rfl⟩) ⟨PcW.blind, va_recv hK hPc (ci := 1) (q0 := 0) rfl rfl, PcW.give hPc hK hDc hE hS hFc⟩ rfl rfl hl.1 rfl (lv_room (Nat.le_of_ble_eq_true rfl)) dL_observer_6 ⟨Nat.le_of_ble_eq_true rfl, Nat.le_of_ble_eq_true rfl⟩) hS (fun q _ h => hFc q h) hFc (fun q _ h => hFc q h) (fun E ce q9 u t H locs ht hvm hpx hBX hz1 hk1 hS hce hcv hcl => ?_) (fun v_1 u t H locs ht hvm hp_2 hB hz1 hk1 hS => ?_)
  · obtain ⟨hpx, hP1, hD1⟩ := hBX
    rw [ht] at hP1
    obtain ⟨hP, hD⟩ := va_join (wr := [(ao, aL 1 (cA 5) fo)]) (w1 := [(ax, .inr (1, [.ref ab, .ref aw, .int wl, .double la, .double ea, .int wk, .int fl]))]) hP hD [0] [1] rfl rfl (by decide) (by decide) hk1 hFc hP1 hD1
    have hP := hP.sub (ws' := [(ax, .inr (1, [.ref ab, .ref aw, .int wl, .double la, .double ea, .int wk, .int fl])), (ao, aL 1 (cA 5) fo)]) [1, 0] rfl
    have hD := hD.sub (ws' := [(ax, .inr (1, [.ref ab, .ref aw, .int wl, .double la, .double ea, .int wk, .int fl])), (ao, aL 1 (cA 5) fo)]) [1, 0] (by decide) rfl
    obtain rfl := err_observer hpx
    refine vx_catch (own := RL) (name := xIA) hown [] ⟨0, 18, 21, 13⟩ [] (htb.trans rfl) (fun z hz => absurd hz List.not_mem_nil) (by decide) (by decide) (hts (.classLink RL 13 xIA) (by decide +kernel)) (va_Nw.use rfl (hE.1.2.2.2.1 xIA (by decide))) hce hcv hcl ?_
    have hcd : cd1 (f_X1_observer la ea x1 x2) = 1 := by rw [hpx]; rfl
    have hP : va_P (dC, dI) vwCl [(ax, .inr (1, [.ref ab, .ref aw, .int wl, .double (if cd1 (f_X1_observer la ea x1 x2) = 0 then x1 else la), .double (if cd1 (f_X1_observer la ea x1 x2) = 0 then x2 else ea), .int wk, .int fl])), (ao, aL 1 (cA 5) (oJ (f_X1_observer la ea x1 x2) bJ fo))] H := by simp only [if_neg (show ¬ cd1 (f_X1_observer la ea x1 x2) = 0 by rw [hcd]; decide), oJ_er hpx]; exact hP
    have hD : va_D A [(ax, .inr (1, [.ref ab, .ref aw, .int wl, .double (if cd1 (f_X1_observer la ea x1 x2) = 0 then x1 else la), .double (if cd1 (f_X1_observer la ea x1 x2) = 0 then x2 else ea), .int wk, .int fl])), (ao, aL 1 (cA 5) (oJ (f_X1_observer la ea x1 x2) bJ fo))] := by simp only [if_neg (show ¬ cd1 (f_X1_observer la ea x1 x2) = 0 by rw [hcd]; decide), oJ_er hpx]; exact hD
    refine lv_astore (lv' := [(6, .ref q9), (0, .ref ax), (1, .double x1), (3, .double x2), (5, .ref ao)]) hx hb dL_observer_21 hl (by decide) rfl (fun ls hl => ?_)
    refine lv_iconst (v := 1) hx hb dL_observer_23 (by decide) ?_
    exact W.iret hx hb hr (fun t ht hW => ⟨⟨_, (), rfl, hcd.symm, ⟨by rw [ht]; exact hP, hD⟩⟩, hS.F ht⟩) hS.2.2 dL_observer_24
  · obtain ⟨hP1, hD1⟩ := hB
    rw [ht] at hP1
    obtain ⟨hP, hD⟩ := va_join (wr := [(ao, aL 1 (cA 5) fo)]) (w1 := [(ax, .inr (1, [.ref ab, .ref aw, .int wl, .double x1, .double x2, .int wk, .int fl]))]) hP hD [0] [1] rfl rfl (by decide) (by decide) hk1 hFc hP1 hD1
    have hP := hP.sub (ws' := [(ax, .inr (1, [.ref ab, .ref aw, .int wl, .double x1, .double x2, .int wk, .int fl])), (ao, aL 1 (cA 5) fo)]) [1, 0] rfl
    have hD := hD.sub (ws' := [(ax, .inr (1, [.ref ab, .ref aw, .int wl, .double x1, .double x2, .int wk, .int fl])), (ao, aL 1 (cA 5) fo)]) [1, 0] (by decide) rfl
    refine lv_if_eq (tgt := 16) hx hb dL_observer_9 (by decide) (fun c_3 => ?_) (fun c_3 => ?_)
    · refine lv_lconst (v := 0) hx hb dL_observer_16 (by decide) ?_
      refine va_last hx hb hK hP hD hS 1 5 rfl rfl (show ¬ ((0 : Int32) < 0 ∨ 1 ≤ (0 : Int32).toNatClampNeg) by decide +kernel) dL_observer_17 (fun H locs hP hD hS => ?_)
      have hP : va_P (dC, dI) vwCl [(ax, .inr (1, [.ref ab, .ref aw, .int wl, .double x1, .double x2, .int wk, .int fl])), (ao, aL 1 (cA 5) (vp_updL fo ((0 : Int32).toNatClampNeg) 0))] H := hP
      have hD : va_D A [(ax, .inr (1, [.ref ab, .ref aw, .int wl, .double x1, .double x2, .int wk, .int fl])), (ao, aL 1 (cA 5) (vp_updL fo ((0 : Int32).toNatClampNeg) 0))] := hD
      refine lv_goto (tgt := 25) hx hb dL_observer_18 (by decide) ?_
      have hcd : cd1 (f_X1_observer la ea x1 x2) = 0 := by rw [hp_2]; rfl
      have hP : va_P (dC, dI) vwCl [(ax, .inr (1, [.ref ab, .ref aw, .int wl, .double (if cd1 (f_X1_observer la ea x1 x2) = 0 then x1 else la), .double (if cd1 (f_X1_observer la ea x1 x2) = 0 then x2 else ea), .int wk, .int fl])), (ao, aL 1 (cA 5) (oJ (f_X1_observer la ea x1 x2) bJ fo))] H := by simp only [if_pos hcd]; rw [oJ_okC hp_2, show bJ v_1 = 0 from if_pos c_3]; exact hP
      have hD : va_D A [(ax, .inr (1, [.ref ab, .ref aw, .int wl, .double (if cd1 (f_X1_observer la ea x1 x2) = 0 then x1 else la), .double (if cd1 (f_X1_observer la ea x1 x2) = 0 then x2 else ea), .int wk, .int fl])), (ao, aL 1 (cA 5) (oJ (f_X1_observer la ea x1 x2) bJ fo))] := by simp only [if_pos hcd]; rw [oJ_okC hp_2, show bJ v_1 = 0 from if_pos c_3]; exact hD
      refine lv_iconst (v := 0) hx hb dL_observer_25 (by decide) ?_
      exact W.iret hx hb hr (fun t ht hW => ⟨⟨_, (), rfl, hcd.symm, ⟨by rw [ht]; exact hP, hD⟩⟩, hS.F ht⟩) hS.2.2 dL_observer_26
    · refine lv_lconst (v := 1) hx hb dL_observer_12 (by decide) ?_
      refine lv_goto (tgt := 17) hx hb dL_observer_13 (by decide) ?_
      refine va_last hx hb hK hP hD hS 1 5 rfl rfl (show ¬ ((0 : Int32) < 0 ∨ 1 ≤ (0 : Int32).toNatClampNeg) by decide +kernel) dL_observer_17 (fun H locs hP hD hS => ?_)
      have hP : va_P (dC, dI) vwCl [(ax, .inr (1, [.ref ab, .ref aw, .int wl, .double x1, .double x2, .int wk, .int fl])), (ao, aL 1 (cA 5) (vp_updL fo ((0 : Int32).toNatClampNeg) 1))] H := hP
      have hD : va_D A [(ax, .inr (1, [.ref ab, .ref aw, .int wl, .double x1, .double x2, .int wk, .int fl])), (ao, aL 1 (cA 5) (vp_updL fo ((0 : Int32).toNatClampNeg) 1))] := hD
      refine lv_goto (tgt := 25) hx hb dL_observer_18 (by decide) ?_
      have hcd : cd1 (f_X1_observer la ea x1 x2) = 0 := by rw [hp_2]; rfl
      have hP : va_P (dC, dI) vwCl [(ax, .inr (1, [.ref ab, .ref aw, .int wl, .double (if cd1 (f_X1_observer la ea x1 x2) = 0 then x1 else la), .double (if cd1 (f_X1_observer la ea x1 x2) = 0 then x2 else ea), .int wk, .int fl])), (ao, aL 1 (cA 5) (oJ (f_X1_observer la ea x1 x2) bJ fo))] H := by simp only [if_pos hcd]; rw [oJ_okC hp_2, show bJ v_1 = 1 from if_neg c_3]; exact hP
      have hD : va_D A [(ax, .inr (1, [.ref ab, .ref aw, .int wl, .double (if cd1 (f_X1_observer la ea x1 x2) = 0 then x1 else la), .double (if cd1 (f_X1_observer la ea x1 x2) = 0 then x2 else ea), .int wk, .int fl])), (ao, aL 1 (cA 5) (oJ (f_X1_observer la ea x1 x2) bJ fo))] := by simp only [if_pos hcd]; rw [oJ_okC hp_2, show bJ v_1 = 1 from if_neg c_3]; exact hD
      refine lv_iconst (v := 0) hx hb dL_observer_25 (by decide) ?_
      exact W.iret hx hb hr (fun t ht hW => ⟨⟨_, (), rfl, hcd.symm, ⟨by rw [ht]; exact hP, hD⟩⟩, hS.F ht⟩) hS.2.2 dL_observer_26

set_option maxHeartbeats 4000000 in
set_option maxRecDepth 100000 in
theorem k_L_letter (l : Launch) (hst : l.stackTraces = false) (dC : Nat → ClassId) (dI : Nat → Nat → Nat) (cA : Nat → ClassId) (tm tt sz : Nat) (ax ab aw : Nat) (wl : Int32) (la ea : UInt64) (wk fl : Int32) (f : Nat → Int32) (ao : Nat) (fo : Nat → Int64) (x1 : Int32)  : Met l yL_letter wsL_letter ({ frames := 7, cells := 1, slots := 6, locals := 103 }) (PcL dC dI cA tm tt sz [.ref ax, .int x1, .ref ao] [(ax, .inr (1, [.ref ab, .ref aw, .int wl, .double la, .double ea, .int wk, .int fl])), (aw, aI 24 (cA 2) f), (ao, aL 1 (cA 5) fo)]) (va_Qi (fun r (_ : Unit) => r = cd1 (f_X1_letter wl f x1)) (fun _ t => WB dC dI (va_A [(ax, .inr (1, [.ref ab, .ref aw, .int wl, .double la, .double ea, .int wk, .int fl])), (aw, aI 24 (cA 2) f), (ao, aL 1 (cA 5) fo)] sz) [(ax, .inr (1, [.ref ab, .ref aw, .int wl, .double la, .double ea, .int wk, .int fl])), (aw, aI 24 (cA 2) f), (ao, aL 1 (cA 5) (oJ (f_X1_letter wl f x1) Int32.toInt64 fo))] t) (va_A [(ax, .inr (1, [.ref ab, .ref aw, .int wl, .double la, .double ea, .int wk, .int fl])), (aw, aI 24 (cA 2) f), (ao, aL 1 (cA 5) fo)] sz)) 1 6 (va_A [(ax, .inr (1, [.ref ab, .ref aw, .int wl, .double la, .double ea, .int wk, .int fl])), (aw, aI 24 (cA 2) f), (ao, aL 1 (cA 5) fo)] sz) := by
  refine zm_ofWH (cc := cL_letter) (maxL := 4) (ret := (some .int)) (by decide) rfl ?_
  intro p e s m args below meth c s₁ B hml htb hv
  obtain ⟨⟨rfl, hsz, hP, hK, hD0, hE⟩, hN⟩ := hv
  subst hsz
  have hD := hD0.self (sz := s.heap.size)
  generalize hAe : va_A [(ax, .inr (1, [.ref ab, .ref aw, .int wl, .double la, .double ea, .int wk, .int fl])), (aw, aI 24 (cA 2) f), (ao, aL 1 (cA 5) fo)] s.heap.size = A at hD hE ⊢
  have hA : ∀ q : Nat, s.heap.size ≤ q → A q := fun q h => by rw [← hAe]; exact Or.inr h
  have hS : va_S A s.heap s.heap [] := va_S.rf
  have hP : va_P (dC, dI) vwCl [(ax, .inr (1, [.ref ab, .ref aw, .int wl, .double la, .double ea, .int wk, .int fl])), (aw, aI 24 (cA 2) f), (ao, aL 1 (cA 5) fo)] s.heap := hP
  have hx := B.exec
  have hb := B.bytes
  have hr := B.returns
  have hts := atoms_spec (ws := wsL_letter) B.pre
  have hown : s.vm.findClass RL = some m.cls := findClass_of_methodNamed B.named
  have hlocks := B.notSynchronized
  have hl := lv_entry ([.ref ax, .int x1, .ref ao]) (n := 4) (Nat.le_of_ble_eq_true rfl)
  rw [lg_entry_eq]
  generalize (lg_sl ([.ref ax, .int x1, .ref ao]) ++ List.replicate (4 - (lg_sl ([.ref ax, .int x1, .ref ao])).length) Slot.unset).toArray = ls at hl ⊢
  have hl : lv_has ls 4 [(0, .ref ax), (1, .int x1), (2, .ref ao)] := hl
  refine lv_aload_n hx hb dL_letter_0 rfl (lv_at hl 2 rfl) ?_
  refine lv_iconst (v := 0) hx hb dL_letter_1 (by decide) ?_
  refine lv_aload_n hx hb dL_letter_2 rfl (lv_at hl 0 rfl) ?_
  refine lv_iload_n hx hb dL_letter_3 rfl (lv_at hl 1 rfl) ?_
  have hPc := hP.sub (ws' := [(ax, .inr (1, [.ref ab, .ref aw, .int wl, .double la, .double ea, .int wk, .int fl])), (aw, aI 24 (cA 2) f)]) [0, 1] rfl
  have hFc := free_0 hS hA
  refine vx_calli (vx_runV (As := [.int x1]) (rest := [.int 0, .ref ao]) ⟨hx, hb, hml, hown, hts⟩ (k_X1_letter l hst dC dI cA tm tt _ ax ab aw wl la ea wk fl f x1) (cwV 1 hts gL_letter_X1_letter rfl rfl rfl (by decide +kernel) ⟨Nat.le_of_ble_eq_true rfl, Nat.le_of_ble_eq_true rfl⟩) ⟨PcR.blind, va_recv hK hPc (ci := 1) (q0 := 0) rfl rfl, PcR.give hPc hK hE hS hFc⟩ rfl rfl hl.1 rfl (lv_room (Nat.le_of_ble_eq_true rfl)) dL_letter_4 ⟨Nat.le_of_ble_eq_true rfl, Nat.le_of_ble_eq_true rfl⟩) hS (fun q _ h => hFc q h) hFc (fun q _ h => hFc q h) (fun E ce q9 u t H locs ht hvm hpx hBX hz1 hk1 hS hce hcv hcl => ?_) (fun v_1 u t H locs ht hvm hp_2 hB hz1 hk1 hS => ?_)
  · have hpx := hBX
    have hP := keep_P hP hk1
    obtain rfl := err_letter hpx
    refine vx_catch (own := RL) (name := xIO) hown [] ⟨0, 9, 12, 27⟩ [] (htb.trans rfl) (fun z hz => absurd hz List.not_mem_nil) (by decide) (by decide) (hts (.classLink RL 27 xIO) (by decide +kernel)) (va_Nw.use rfl (hE.1.2.2.2.1 xIO (by decide))) hce hcv hcl ?_
    have hcd : cd1 (f_X1_letter wl f x1) = 1 := by rw [hpx]; rfl
    have hP : va_P (dC, dI) vwCl [(ax, .inr (1, [.ref ab, .ref aw, .int wl, .double la, .double ea, .int wk, .int fl])), (aw, aI 24 (cA 2) f), (ao, aL 1 (cA 5) (oJ (f_X1_letter wl f x1) Int32.toInt64 fo))] H := by rw [oJ_er hpx]; exact hP
    have hD : va_D A [(ax, .inr (1, [.ref ab, .ref aw, .int wl, .double la, .double ea, .int wk, .int fl])), (aw, aI 24 (cA 2) f), (ao, aL 1 (cA 5) (oJ (f_X1_letter wl f x1) Int32.toInt64 fo))] := by rw [oJ_er hpx]; exact hD
    refine lv_astore_n (lv' := [(3, .ref q9), (0, .ref ax), (1, .int x1), (2, .ref ao)]) hx hb dL_letter_12 rfl hl (by decide) rfl (fun ls hl => ?_)
    refine lv_iconst (v := 1) hx hb dL_letter_13 (by decide) ?_
    exact W.iret hx hb hr (fun t ht hW => ⟨⟨_, (), rfl, hcd.symm, ⟨by rw [ht]; exact hP, hD⟩⟩, hS.F ht⟩) hS.2.2 dL_letter_14
  · have hP := keep_P hP hk1
    refine lv_i2l hx hb dL_letter_7 rfl ?_
    refine va_last hx hb hK hP hD hS 2 5 rfl rfl (show ¬ ((0 : Int32) < 0 ∨ 1 ≤ (0 : Int32).toNatClampNeg) by decide +kernel) dL_letter_8 (fun H locs hP hD hS => ?_)
    have hP : va_P (dC, dI) vwCl [(ax, .inr (1, [.ref ab, .ref aw, .int wl, .double la, .double ea, .int wk, .int fl])), (aw, aI 24 (cA 2) f), (ao, aL 1 (cA 5) (vp_updL fo ((0 : Int32).toNatClampNeg) (Int32.toInt64 v_1)))] H := hP
    have hD : va_D A [(ax, .inr (1, [.ref ab, .ref aw, .int wl, .double la, .double ea, .int wk, .int fl])), (aw, aI 24 (cA 2) f), (ao, aL 1 (cA 5) (vp_updL fo ((0 : Int32).toNatClampNeg) (Int32.toInt64 v_1)))] := hD
    refine lv_goto (tgt := 15) hx hb dL_letter_9 (by decide) ?_
    have hcd : cd1 (f_X1_letter wl f x1) = 0 := by rw [hp_2]; rfl
    have hP : va_P (dC, dI) vwCl [(ax, .inr (1, [.ref ab, .ref aw, .int wl, .double la, .double ea, .int wk, .int fl])), (aw, aI 24 (cA 2) f), (ao, aL 1 (cA 5) (oJ (f_X1_letter wl f x1) Int32.toInt64 fo))] H := by rw [oJ_okC hp_2]; exact hP
    have hD : va_D A [(ax, .inr (1, [.ref ab, .ref aw, .int wl, .double la, .double ea, .int wk, .int fl])), (aw, aI 24 (cA 2) f), (ao, aL 1 (cA 5) (oJ (f_X1_letter wl f x1) Int32.toInt64 fo))] := by rw [oJ_okC hp_2]; exact hD
    refine lv_iconst (v := 0) hx hb dL_letter_15 (by decide) ?_
    exact W.iret hx hb hr (fun t ht hW => ⟨⟨_, (), rfl, hcd.symm, ⟨by rw [ht]; exact hP, hD⟩⟩, hS.F ht⟩) hS.2.2 dL_letter_16

set_option maxHeartbeats 4000000 in
set_option maxRecDepth 100000 in
theorem k_L_write (l : Launch) (hst : l.stackTraces = false) (dC : Nat → ClassId) (dI : Nat → Nat → Nat) (cA : Nat → ClassId) (tm tt sz : Nat) (ax ab aw : Nat) (wl : Int32) (la ea : UInt64) (wk fl : Int32) (f0 : Nat → Int32) (ao : Nat) (fo : Nat → Int64) (x1 : UInt64) (x2 : Int32) (hF : fR x1 (-1208925819614629174706176) 1208925819614629174706176) : Met l yL_write wsL_write ({ frames := 7, cells := 1, slots := 6, locals := 113 }) (PcL dC dI cA tm tt sz [.ref ax, .double x1, .int x2, .ref ao] [(ax, .inr (1, [.ref ab, .ref aw, .int wl, .double la, .double ea, .int wk, .int fl])), (aw, aI 24 (cA 2) f0), (ao, aL 1 (cA 5) fo)]) (va_Qi (fun r (_ : Unit) => r = cd1 (f_X1_write x1 x2 f0)) (fun _ t => WB dC dI (va_A [(ax, .inr (1, [.ref ab, .ref aw, .int wl, .double la, .double ea, .int wk, .int fl])), (aw, aI 24 (cA 2) f0), (ao, aL 1 (cA 5) fo)] sz) [(ax, .inr (1, [.ref ab, .ref aw, .int (if cd1 (f_X1_write x1 x2 f0) = 0 then nI (WRT x1 x2 f0).1 else wl), .double la, .double ea, .int wk, .int fl])), (aw, aI 24 (cA 2) (if cd1 (f_X1_write x1 x2 f0) = 0 then (WRT x1 x2 f0).2 else f0)), (ao, aL 1 (cA 5) (oJ (f_X1_write x1 x2 f0) Int32.toInt64 fo))] t) (va_A [(ax, .inr (1, [.ref ab, .ref aw, .int wl, .double la, .double ea, .int wk, .int fl])), (aw, aI 24 (cA 2) f0), (ao, aL 1 (cA 5) fo)] sz)) 1 6 (va_A [(ax, .inr (1, [.ref ab, .ref aw, .int wl, .double la, .double ea, .int wk, .int fl])), (aw, aI 24 (cA 2) f0), (ao, aL 1 (cA 5) fo)] sz) := by
  refine zm_ofWH (cc := cL_write) (maxL := 6) (ret := (some .int)) (by decide) rfl ?_
  intro p e s m args below meth c s₁ B hml htb hv
  obtain ⟨⟨rfl, hsz, hP, hK, hD0, hE⟩, hN⟩ := hv
  subst hsz
  have hD := hD0.self (sz := s.heap.size)
  generalize hAe : va_A [(ax, .inr (1, [.ref ab, .ref aw, .int wl, .double la, .double ea, .int wk, .int fl])), (aw, aI 24 (cA 2) f0), (ao, aL 1 (cA 5) fo)] s.heap.size = A at hD hE ⊢
  have hA : ∀ q : Nat, s.heap.size ≤ q → A q := fun q h => by rw [← hAe]; exact Or.inr h
  have hS : va_S A s.heap s.heap [] := va_S.rf
  have hP : va_P (dC, dI) vwCl [(ax, .inr (1, [.ref ab, .ref aw, .int wl, .double la, .double ea, .int wk, .int fl])), (aw, aI 24 (cA 2) f0), (ao, aL 1 (cA 5) fo)] s.heap := hP
  have hx := B.exec
  have hb := B.bytes
  have hr := B.returns
  have hts := atoms_spec (ws := wsL_write) B.pre
  have hown : s.vm.findClass RL = some m.cls := findClass_of_methodNamed B.named
  have hlocks := B.notSynchronized
  have hl := lv_entry ([.ref ax, .double x1, .int x2, .ref ao]) (n := 6) (Nat.le_of_ble_eq_true rfl)
  rw [lg_entry_eq]
  generalize (lg_sl ([.ref ax, .double x1, .int x2, .ref ao]) ++ List.replicate (6 - (lg_sl ([.ref ax, .double x1, .int x2, .ref ao])).length) Slot.unset).toArray = ls at hl ⊢
  have hl : lv_has ls 6 [(0, .ref ax), (1, .double x1), (3, .int x2), (4, .ref ao)] := hl
  refine lv_aload hx hb dL_write_0 (lv_at hl 3 rfl) ?_
  refine lv_iconst (v := 0) hx hb dL_write_2 (by decide) ?_
  refine lv_aload_n hx hb dL_write_3 rfl (lv_at hl 0 rfl) ?_
  refine lv_dload_n hx hb dL_write_4 rfl (lv_at hl 1 rfl) ?_
  refine lv_iload_n hx hb dL_write_5 rfl (lv_at hl 2 rfl) ?_
  have hPc := hP.sub (ws' := [(ax, .inr (1, [.ref ab, .ref aw, .int wl, .double la, .double ea, .int wk, .int fl])), (aw, aI 24 (cA 2) f0)]) [0, 1] rfl
  have hDc := hD.sub (ws' := [(ax, .inr (1, [.ref ab, .ref aw, .int wl, .double la, .double ea, .int wk, .int fl])), (aw, aI 24 (cA 2) f0)]) [0, 1] (by decide) rfl
  have hFc := va_free (wc := [(ax, .inr (1, [.ref ab, .ref aw, .int wl, .double la, .double ea, .int wk, .int fl])), (aw, aI 24 (cA 2) f0)]) hD hS hA [0, 1] rfl
  refine vx_calli (vx_runV (As := [.double x1, .int x2]) (rest := [.int 0, .ref ao]) ⟨hx, hb, hml, hown, hts⟩ (k_X1_write l hst dC dI cA tm tt _ ax ab aw wl la ea wk fl f0 x1 x2 hF) (cwV 2 hts gL_write_X1_write rfl rfl rfl (by decide +kernel) ⟨Nat.le_of_ble_eq_true rfl, Nat.le_of_ble_eq_true rfl⟩) ⟨PcW.blind, va_recv hK hPc (ci := 1) (q0 := 0) rfl rfl, PcW.give hPc hK hDc hE hS hFc⟩ rfl rfl hl.1 rfl (lv_room (Nat.le_of_ble_eq_true rfl)) dL_write_6 ⟨Nat.le_of_ble_eq_true rfl, Nat.le_of_ble_eq_true rfl⟩) hS (fun q _ h => hFc q h) hFc (fun q _ h => hFc q h) (fun E ce q9 u t H locs ht hvm hpx hBX hz1 hk1 hS hce hcv hcl => ?_) (fun v_1 u t H locs ht hvm hp_2 hB hz1 hk1 hS => ?_)
  · obtain ⟨hpx, hP1, hD1⟩ := hBX
    rw [ht] at hP1
    obtain ⟨hP, hD⟩ := va_join (wr := [(ao, aL 1 (cA 5) fo)]) (w1 := [(ax, .inr (1, [.ref ab, .ref aw, .int wl, .double la, .double ea, .int wk, .int fl])), (aw, aI 24 (cA 2) f0)]) hP hD [0, 1] [2] rfl rfl (by decide) (by decide) hk1 hFc hP1 hD1
    have hP := hP.sub (ws' := [(ax, .inr (1, [.ref ab, .ref aw, .int wl, .double la, .double ea, .int wk, .int fl])), (aw, aI 24 (cA 2) f0), (ao, aL 1 (cA 5) fo)]) [1, 2, 0] rfl
    have hD := hD.sub (ws' := [(ax, .inr (1, [.ref ab, .ref aw, .int wl, .double la, .double ea, .int wk, .int fl])), (aw, aI 24 (cA 2) f0), (ao, aL 1 (cA 5) fo)]) [1, 2, 0] (by decide) rfl
    obtain rfl := err_write hpx
    refine vx_catch (own := RL) (name := xIA) hown [] ⟨0, 11, 14, 13⟩ [] (htb.trans rfl) (fun z hz => absurd hz List.not_mem_nil) (by decide) (by decide) (hts (.classLink RL 13 xIA) (by decide +kernel)) (va_Nw.use rfl (hE.1.2.2.2.1 xIA (by decide))) hce hcv hcl ?_
    have hcd : cd1 (f_X1_write x1 x2 f0) = 1 := by rw [hpx]; rfl
    have hP : va_P (dC, dI) vwCl [(ax, .inr (1, [.ref ab, .ref aw, .int (if cd1 (f_X1_write x1 x2 f0) = 0 then nI (WRT x1 x2 f0).1 else wl), .double la, .double ea, .int wk, .int fl])), (aw, aI 24 (cA 2) (if cd1 (f_X1_write x1 x2 f0) = 0 then (WRT x1 x2 f0).2 else f0)), (ao, aL 1 (cA 5) (oJ (f_X1_write x1 x2 f0) Int32.toInt64 fo))] H := by simp only [if_neg (show ¬ cd1 (f_X1_write x1 x2 f0) = 0 by rw [hcd]; decide), oJ_er hpx]; exact hP
    have hD : va_D A [(ax, .inr (1, [.ref ab, .ref aw, .int (if cd1 (f_X1_write x1 x2 f0) = 0 then nI (WRT x1 x2 f0).1 else wl), .double la, .double ea, .int wk, .int fl])), (aw, aI 24 (cA 2) (if cd1 (f_X1_write x1 x2 f0) = 0 then (WRT x1 x2 f0).2 else f0)), (ao, aL 1 (cA 5) (oJ (f_X1_write x1 x2 f0) Int32.toInt64 fo))] := by simp only [if_neg (show ¬ cd1 (f_X1_write x1 x2 f0) = 0 by rw [hcd]; decide), oJ_er hpx]; exact hD
    refine lv_astore (lv' := [(5, .ref q9), (0, .ref ax), (1, .double x1), (3, .int x2), (4, .ref ao)]) hx hb dL_write_14 hl (by decide) rfl (fun ls hl => ?_)
    refine lv_iconst (v := 1) hx hb dL_write_16 (by decide) ?_
    exact W.iret hx hb hr (fun t ht hW => ⟨⟨_, (), rfl, hcd.symm, ⟨by rw [ht]; exact hP, hD⟩⟩, hS.F ht⟩) hS.2.2 dL_write_17
  · obtain ⟨hP1, hD1⟩ := hB
    rw [ht] at hP1
    obtain ⟨hP, hD⟩ := va_join (wr := [(ao, aL 1 (cA 5) fo)]) (w1 := [(ax, .inr (1, [.ref ab, .ref aw, .int (nI (WRT x1 x2 f0).1), .double la, .double ea, .int wk, .int fl])), (aw, aI 24 (cA 2) ((WRT x1 x2 f0).2))]) hP hD [0, 1] [2] rfl rfl (by decide) (by decide) hk1 hFc hP1 hD1
    have hP := hP.sub (ws' := [(ax, .inr (1, [.ref ab, .ref aw, .int (nI (WRT x1 x2 f0).1), .double la, .double ea, .int wk, .int fl])), (aw, aI 24 (cA 2) ((WRT x1 x2 f0).2)), (ao, aL 1 (cA 5) fo)]) [1, 2, 0] rfl
    have hD := hD.sub (ws' := [(ax, .inr (1, [.ref ab, .ref aw, .int (nI (WRT x1 x2 f0).1), .double la, .double ea, .int wk, .int fl])), (aw, aI 24 (cA 2) ((WRT x1 x2 f0).2)), (ao, aL 1 (cA 5) fo)]) [1, 2, 0] (by decide) rfl
    refine lv_i2l hx hb dL_write_9 rfl ?_
    refine va_last hx hb hK hP hD hS 2 5 rfl rfl (show ¬ ((0 : Int32) < 0 ∨ 1 ≤ (0 : Int32).toNatClampNeg) by decide +kernel) dL_write_10 (fun H locs hP hD hS => ?_)
    have hP : va_P (dC, dI) vwCl [(ax, .inr (1, [.ref ab, .ref aw, .int (nI (WRT x1 x2 f0).1), .double la, .double ea, .int wk, .int fl])), (aw, aI 24 (cA 2) ((WRT x1 x2 f0).2)), (ao, aL 1 (cA 5) (vp_updL fo ((0 : Int32).toNatClampNeg) (Int32.toInt64 v_1)))] H := hP
    have hD : va_D A [(ax, .inr (1, [.ref ab, .ref aw, .int (nI (WRT x1 x2 f0).1), .double la, .double ea, .int wk, .int fl])), (aw, aI 24 (cA 2) ((WRT x1 x2 f0).2)), (ao, aL 1 (cA 5) (vp_updL fo ((0 : Int32).toNatClampNeg) (Int32.toInt64 v_1)))] := hD
    refine lv_goto (tgt := 18) hx hb dL_write_11 (by decide) ?_
    have hcd : cd1 (f_X1_write x1 x2 f0) = 0 := by rw [hp_2]; rfl
    have hP : va_P (dC, dI) vwCl [(ax, .inr (1, [.ref ab, .ref aw, .int (if cd1 (f_X1_write x1 x2 f0) = 0 then nI (WRT x1 x2 f0).1 else wl), .double la, .double ea, .int wk, .int fl])), (aw, aI 24 (cA 2) (if cd1 (f_X1_write x1 x2 f0) = 0 then (WRT x1 x2 f0).2 else f0)), (ao, aL 1 (cA 5) (oJ (f_X1_write x1 x2 f0) Int32.toInt64 fo))] H := by simp only [if_pos hcd]; rw [oJ_okC hp_2]; exact hP
    have hD : va_D A [(ax, .inr (1, [.ref ab, .ref aw, .int (if cd1 (f_X1_write x1 x2 f0) = 0 then nI (WRT x1 x2 f0).1 else wl), .double la, .double ea, .int wk, .int fl])), (aw, aI 24 (cA 2) (if cd1 (f_X1_write x1 x2 f0) = 0 then (WRT x1 x2 f0).2 else f0)), (ao, aL 1 (cA 5) (oJ (f_X1_write x1 x2 f0) Int32.toInt64 fo))] := by simp only [if_pos hcd]; rw [oJ_okC hp_2]; exact hD
    refine lv_iconst (v := 0) hx hb dL_write_18 (by decide) ?_
    exact W.iret hx hb hr (fun t ht hW => ⟨⟨_, (), rfl, hcd.symm, ⟨by rw [ht]; exact hP, hD⟩⟩, hS.F ht⟩) hS.2.2 dL_write_19

set_option maxHeartbeats 4000000 in
set_option maxRecDepth 100000 in
theorem k_L_orbit (l : Launch) (hst : l.stackTraces = false) (dC : Nat → ClassId) (dI : Nat → Nat → Nat) (cA : Nat → ClassId) (tm tt sz : Nat) (ax ab aw : Nat) (wl : Int32) (la ea : UInt64) (wk fl : Int32) (bb bp bf bs bv : Nat) (st : Int32) (oL oN oE oW : UInt64) (k : Nat) (qf : Nat → Option Nat) (ao : Nat) (fo : Nat → Int64) (x1 : Int32) (x2 : UInt64) (x3 : UInt64) (x4 : UInt64) (x5 : UInt64) (hq : ¬ x1 < 0 → x1 < 4 → qf x1.toNatClampNeg = some bb) : Met l yL_orbit wsL_orbit ({ frames := 7, cells := 1, slots := 6, locals := 113 }) (PcL dC dI cA tm tt sz [.ref ax, .int x1, .double x2, .double x3, .double x4, .double x5, .ref ao] [(ax, .inr (1, [.ref ab, .ref aw, .int wl, .double la, .double ea, .int wk, .int fl])), (ab, aQ 4 (cA 3) qf), (bb, .inr (0, [.int st, .double oL, .double oN, .double oE, .double oW, .int (nI k), .ref bp, .ref bf, .ref bs, .ref bv])), (ao, aL 1 (cA 5) fo)]) (va_Qi (fun r (_ : Unit) => r = cdO (f_X1_orbit st x1 x2 x3 x4 x5)) (fun _ t => WB dC dI (va_A [(ax, .inr (1, [.ref ab, .ref aw, .int wl, .double la, .double ea, .int wk, .int fl])), (ab, aQ 4 (cA 3) qf), (bb, .inr (0, [.int st, .double oL, .double oN, .double oE, .double oW, .int (nI k), .ref bp, .ref bf, .ref bs, .ref bv])), (ao, aL 1 (cA 5) fo)] sz) [(ax, .inr (1, [.ref ab, .ref aw, .int wl, .double la, .double ea, .int wk, .int fl])), (ab, aQ 4 (cA 3) qf), (bb, .inr (0, [.int (if cdO (f_X1_orbit st x1 x2 x3 x4 x5) = 0 then 1 else st), .double (if cdO (f_X1_orbit st x1 x2 x3 x4 x5) = 0 then x2 else oL), .double (if cdO (f_X1_orbit st x1 x2 x3 x4 x5) = 0 then x3 else oN), .double (if cdO (f_X1_orbit st x1 x2 x3 x4 x5) = 0 then x4 else oE), .double (if cdO (f_X1_orbit st x1 x2 x3 x4 x5) = 0 then x5 else oW), .int (nI k), .ref bp, .ref bf, .ref bs, .ref bv])), (ao, aL 1 (cA 5) (oJ (f_X1_orbit st x1 x2 x3 x4 x5) bJ fo))] t) (va_A [(ax, .inr (1, [.ref ab, .ref aw, .int wl, .double la, .double ea, .int wk, .int fl])), (ab, aQ 4 (cA 3) qf), (bb, .inr (0, [.int st, .double oL, .double oN, .double oE, .double oW, .int (nI k), .ref bp, .ref bf, .ref bs, .ref bv])), (ao, aL 1 (cA 5) fo)] sz)) 1 6 (va_A [(ax, .inr (1, [.ref ab, .ref aw, .int wl, .double la, .double ea, .int wk, .int fl])), (ab, aQ 4 (cA 3) qf), (bb, .inr (0, [.int st, .double oL, .double oN, .double oE, .double oW, .int (nI k), .ref bp, .ref bf, .ref bs, .ref bv])), (ao, aL 1 (cA 5) fo)] sz) := by
  refine zm_ofWH (cc := cL_orbit) (maxL := 12) (ret := (some .int)) (by decide) rfl ?_
  intro p e s m args below meth c s₁ B hml htb hv
  obtain ⟨⟨rfl, hsz, hP, hK, hD0, hE⟩, hN⟩ := hv
  subst hsz
  have hD := hD0.self (sz := s.heap.size)
  generalize hAe : va_A [(ax, .inr (1, [.ref ab, .ref aw, .int wl, .double la, .double ea, .int wk, .int fl])), (ab, aQ 4 (cA 3) qf), (bb, .inr (0, [.int st, .double oL, .double oN, .double oE, .double oW, .int (nI k), .ref bp, .ref bf, .ref bs, .ref bv])), (ao, aL 1 (cA 5) fo)] s.heap.size = A at hD hE ⊢
  have hA : ∀ q : Nat, s.heap.size ≤ q → A q := fun q h => by rw [← hAe]; exact Or.inr h
  have hS : va_S A s.heap s.heap [] := va_S.rf
  have hP : va_P (dC, dI) vwCl [(ax, .inr (1, [.ref ab, .ref aw, .int wl, .double la, .double ea, .int wk, .int fl])), (ab, aQ 4 (cA 3) qf), (bb, .inr (0, [.int st, .double oL, .double oN, .double oE, .double oW, .int (nI k), .ref bp, .ref bf, .ref bs, .ref bv])), (ao, aL 1 (cA 5) fo)] s.heap := hP
  have hx := B.exec
  have hb := B.bytes
  have hr := B.returns
  have hts := atoms_spec (ws := wsL_orbit) B.pre
  have hown : s.vm.findClass RL = some m.cls := findClass_of_methodNamed B.named
  have hlocks := B.notSynchronized
  have hl := lv_entry ([.ref ax, .int x1, .double x2, .double x3, .double x4, .double x5, .ref ao]) (n := 12) (Nat.le_of_ble_eq_true rfl)
  rw [lg_entry_eq]
  generalize (lg_sl ([.ref ax, .int x1, .double x2, .double x3, .double x4, .double x5, .ref ao]) ++ List.replicate (12 - (lg_sl ([.ref ax, .int x1, .double x2, .double x3, .double x4, .double x5, .ref ao])).length) Slot.unset).toArray = ls at hl ⊢
  have hl : lv_has ls 12 [(0, .ref ax), (1, .int x1), (2, .double x2), (4, .double x3), (6, .double x4), (8, .double x5), (10, .ref ao)] := hl
  refine lv_aload hx hb dL_orbit_0 (lv_at hl 6 rfl) ?_
  refine lv_iconst (v := 0) hx hb dL_orbit_2 (by decide) ?_
  refine lv_aload_n hx hb dL_orbit_3 rfl (lv_at hl 0 rfl) ?_
  refine lv_iload_n hx hb dL_orbit_4 rfl (lv_at hl 1 rfl) ?_
  refine lv_dload_n hx hb dL_orbit_5 rfl (lv_at hl 2 rfl) ?_
  refine lv_dload hx hb dL_orbit_6 (lv_at hl 3 rfl) ?_
  refine lv_dload hx hb dL_orbit_8 (lv_at hl 4 rfl) ?_
  refine lv_dload hx hb dL_orbit_10 (lv_at hl 5 rfl) ?_
  have hPc := hP.sub (ws' := [(ax, .inr (1, [.ref ab, .ref aw, .int wl, .double la, .double ea, .int wk, .int fl])), (ab, aQ 4 (cA 3) qf), (bb, .inr (0, [.int st, .double oL, .double oN, .double oE, .double oW, .int (nI k), .ref bp, .ref bf, .ref bs, .ref bv]))]) [0, 1, 2] rfl
  have hDc := hD.sub (ws' := [(ax, .inr (1, [.ref ab, .ref aw, .int wl, .double la, .double ea, .int wk, .int fl])), (ab, aQ 4 (cA 3) qf), (bb, .inr (0, [.int st, .double oL, .double oN, .double oE, .double oW, .int (nI k), .ref bp, .ref bf, .ref bs, .ref bv]))]) [0, 1, 2] (by decide) rfl
  have hFc := va_free (wc := [(ax, .inr (1, [.ref ab, .ref aw, .int wl, .double la, .double ea, .int wk, .int fl])), (ab, aQ 4 (cA 3) qf), (bb, .inr (0, [.int st, .double oL, .double oN, .double oE, .double oW, .int (nI k), .ref bp, .ref bf, .ref bs, .ref bv]))]) hD hS hA [0, 1, 2] rfl
  refine vx_calli (vx_runV (As := [.int x1, .double x2, .double x3, .double x4, .double x5]) (rest := [.int 0, .ref ao]) ⟨hx, hb, hml, hown, hts⟩ (k_X1_orbit l hst dC dI cA tm tt _ ax ab aw wl la ea wk fl bb bp bf bs bv st oL oN oE oW k qf x1 x2 x3 x4 x5 hq) (cwV 5 hts gL_orbit_X1_orbit rfl rfl rfl (by decide +kernel) ⟨Nat.le_of_ble_eq_true rfl, Nat.le_of_ble_eq_true rfl⟩) ⟨PcW.blind, va_recv hK hPc (ci := 1) (q0 := 0) rfl rfl, PcW.give hPc hK hDc hE hS hFc⟩ rfl rfl hl.1 rfl (lv_room (Nat.le_of_ble_eq_true rfl)) dL_orbit_12 ⟨Nat.le_of_ble_eq_true rfl, Nat.le_of_ble_eq_true rfl⟩) hS (fun q _ h => hFc q h) hFc (fun q _ h => hFc q h) (fun E ce q9 u t H locs ht hvm hpx hBX hz1 hk1 hS hce hcv hcl => ?_) (fun v_1 u t H locs ht hvm hp_2 hB hz1 hk1 hS => ?_)
  · obtain ⟨hpx, hP1, hD1⟩ := hBX
    rw [ht] at hP1
    obtain ⟨hP, hD⟩ := va_join (wr := [(ao, aL 1 (cA 5) fo)]) (w1 := [(ax, .inr (1, [.ref ab, .ref aw, .int wl, .double la, .double ea, .int wk, .int fl])), (ab, aQ 4 (cA 3) qf), (bb, .inr (0, [.int st, .double oL, .double oN, .double oE, .double oW, .int (nI k), .ref bp, .ref bf, .ref bs, .ref bv]))]) hP hD [0, 1, 2] [3] rfl rfl (by decide) (by decide) hk1 hFc hP1 hD1
    have hP := hP.sub (ws' := [(ax, .inr (1, [.ref ab, .ref aw, .int wl, .double la, .double ea, .int wk, .int fl])), (ab, aQ 4 (cA 3) qf), (bb, .inr (0, [.int st, .double oL, .double oN, .double oE, .double oW, .int (nI k), .ref bp, .ref bf, .ref bs, .ref bv])), (ao, aL 1 (cA 5) fo)]) [1, 2, 3, 0] rfl
    have hD := hD.sub (ws' := [(ax, .inr (1, [.ref ab, .ref aw, .int wl, .double la, .double ea, .int wk, .int fl])), (ab, aQ 4 (cA 3) qf), (bb, .inr (0, [.int st, .double oL, .double oN, .double oE, .double oW, .int (nI k), .ref bp, .ref bf, .ref bs, .ref bv])), (ao, aL 1 (cA 5) fo)]) [1, 2, 3, 0] (by decide) rfl
    rcases err_orbit hpx with rfl | rfl
    · refine vx_catch (own := RL) (name := xIO) hown [] ⟨0, 24, 27, 27⟩ [⟨0, 24, 31, 13⟩] (htb.trans rfl) (fun z hz => absurd hz List.not_mem_nil) (by decide) (by decide) (hts (.classLink RL 27 xIO) (by decide +kernel)) (va_Nw.use rfl (hE.1.2.2.2.1 xIO (by decide))) hce hcv hcl ?_
      have hcd : cdO (f_X1_orbit st x1 x2 x3 x4 x5) = 1 := by rw [hpx]; exact cdO_IO
      have hP : va_P (dC, dI) vwCl [(ax, .inr (1, [.ref ab, .ref aw, .int wl, .double la, .double ea, .int wk, .int fl])), (ab, aQ 4 (cA 3) qf), (bb, .inr (0, [.int (if cdO (f_X1_orbit st x1 x2 x3 x4 x5) = 0 then 1 else st), .double (if cdO (f_X1_orbit st x1 x2 x3 x4 x5) = 0 then x2 else oL), .double (if cdO (f_X1_orbit st x1 x2 x3 x4 x5) = 0 then x3 else oN), .double (if cdO (f_X1_orbit st x1 x2 x3 x4 x5) = 0 then x4 else oE), .double (if cdO (f_X1_orbit st x1 x2 x3 x4 x5) = 0 then x5 else oW), .int (nI k), .ref bp, .ref bf, .ref bs, .ref bv])), (ao, aL 1 (cA 5) (oJ (f_X1_orbit st x1 x2 x3 x4 x5) bJ fo))] H := by simp only [if_neg (show ¬ cdO (f_X1_orbit st x1 x2 x3 x4 x5) = 0 by rw [hcd]; decide), oJ_er hpx]; exact hP
      have hD : va_D A [(ax, .inr (1, [.ref ab, .ref aw, .int wl, .double la, .double ea, .int wk, .int fl])), (ab, aQ 4 (cA 3) qf), (bb, .inr (0, [.int (if cdO (f_X1_orbit st x1 x2 x3 x4 x5) = 0 then 1 else st), .double (if cdO (f_X1_orbit st x1 x2 x3 x4 x5) = 0 then x2 else oL), .double (if cdO (f_X1_orbit st x1 x2 x3 x4 x5) = 0 then x3 else oN), .double (if cdO (f_X1_orbit st x1 x2 x3 x4 x5) = 0 then x4 else oE), .double (if cdO (f_X1_orbit st x1 x2 x3 x4 x5) = 0 then x5 else oW), .int (nI k), .ref bp, .ref bf, .ref bs, .ref bv])), (ao, aL 1 (cA 5) (oJ (f_X1_orbit st x1 x2 x3 x4 x5) bJ fo))] := by simp only [if_neg (show ¬ cdO (f_X1_orbit st x1 x2 x3 x4 x5) = 0 by rw [hcd]; decide), oJ_er hpx]; exact hD
      refine lv_astore (lv' := [(11, .ref q9), (0, .ref ax), (1, .int x1), (2, .double x2), (4, .double x3), (6, .double x4), (8, .double x5), (10, .ref ao)]) hx hb dL_orbit_27 hl (by decide) rfl (fun ls hl => ?_)
      refine lv_iconst (v := 1) hx hb dL_orbit_29 (by decide) ?_
      exact W.iret hx hb hr (fun t ht hW => ⟨⟨_, (), rfl, hcd.symm, ⟨by rw [ht]; exact hP, hD⟩⟩, hS.F ht⟩) hS.2.2 dL_orbit_30
    · refine vx_catch (own := RL) (name := xIA) hown [⟨0, 24, 27, 27⟩] ⟨0, 24, 31, 13⟩ [] (htb.trans rfl) (fun z hz => by rw [List.mem_singleton] at hz; subst hz; exact Or.inr ⟨by decide, xIO, hts (.classLink RL 27 xIO) (by decide +kernel), hN.at (by decide)⟩) (by decide) (by decide) (hts (.classLink RL 13 xIA) (by decide +kernel)) (va_Nw.use rfl (hE.1.2.2.2.1 xIA (by decide))) hce hcv hcl ?_
      have hcd : cdO (f_X1_orbit st x1 x2 x3 x4 x5) = 2 := by rw [hpx]; exact cdO_IA
      have hP : va_P (dC, dI) vwCl [(ax, .inr (1, [.ref ab, .ref aw, .int wl, .double la, .double ea, .int wk, .int fl])), (ab, aQ 4 (cA 3) qf), (bb, .inr (0, [.int (if cdO (f_X1_orbit st x1 x2 x3 x4 x5) = 0 then 1 else st), .double (if cdO (f_X1_orbit st x1 x2 x3 x4 x5) = 0 then x2 else oL), .double (if cdO (f_X1_orbit st x1 x2 x3 x4 x5) = 0 then x3 else oN), .double (if cdO (f_X1_orbit st x1 x2 x3 x4 x5) = 0 then x4 else oE), .double (if cdO (f_X1_orbit st x1 x2 x3 x4 x5) = 0 then x5 else oW), .int (nI k), .ref bp, .ref bf, .ref bs, .ref bv])), (ao, aL 1 (cA 5) (oJ (f_X1_orbit st x1 x2 x3 x4 x5) bJ fo))] H := by simp only [if_neg (show ¬ cdO (f_X1_orbit st x1 x2 x3 x4 x5) = 0 by rw [hcd]; decide), oJ_er hpx]; exact hP
      have hD : va_D A [(ax, .inr (1, [.ref ab, .ref aw, .int wl, .double la, .double ea, .int wk, .int fl])), (ab, aQ 4 (cA 3) qf), (bb, .inr (0, [.int (if cdO (f_X1_orbit st x1 x2 x3 x4 x5) = 0 then 1 else st), .double (if cdO (f_X1_orbit st x1 x2 x3 x4 x5) = 0 then x2 else oL), .double (if cdO (f_X1_orbit st x1 x2 x3 x4 x5) = 0 then x3 else oN), .double (if cdO (f_X1_orbit st x1 x2 x3 x4 x5) = 0 then x4 else oE), .double (if cdO (f_X1_orbit st x1 x2 x3 x4 x5) = 0 then x5 else oW), .int (nI k), .ref bp, .ref bf, .ref bs, .ref bv])), (ao, aL 1 (cA 5) (oJ (f_X1_orbit st x1 x2 x3 x4 x5) bJ fo))] := by simp only [if_neg (show ¬ cdO (f_X1_orbit st x1 x2 x3 x4 x5) = 0 by rw [hcd]; decide), oJ_er hpx]; exact hD
      refine lv_astore (lv' := [(11, .ref q9), (0, .ref ax), (1, .int x1), (2, .double x2), (4, .double x3), (6, .double x4), (8, .double x5), (10, .ref ao)]) hx hb dL_orbit_31 hl (by decide) rfl (fun ls hl => ?_)
      refine lv_iconst (v := 2) hx hb dL_orbit_33 (by decide) ?_
      exact W.iret hx hb hr (fun t ht hW => ⟨⟨_, (), rfl, hcd.symm, ⟨by rw [ht]; exact hP, hD⟩⟩, hS.F ht⟩) hS.2.2 dL_orbit_34
  · obtain ⟨hP1, hD1⟩ := hB
    rw [ht] at hP1
    obtain ⟨hP, hD⟩ := va_join (wr := [(ao, aL 1 (cA 5) fo)]) (w1 := [(ax, .inr (1, [.ref ab, .ref aw, .int wl, .double la, .double ea, .int wk, .int fl])), (ab, aQ 4 (cA 3) qf), (bb, .inr (0, [.int 1, .double x2, .double x3, .double x4, .double x5, .int (nI k), .ref bp, .ref bf, .ref bs, .ref bv]))]) hP hD [0, 1, 2] [3] rfl rfl (by decide) (by decide) hk1 hFc hP1 hD1
    have hP := hP.sub (ws' := [(ax, .inr (1, [.ref ab, .ref aw, .int wl, .double la, .double ea, .int wk, .int fl])), (ab, aQ 4 (cA 3) qf), (bb, .inr (0, [.int 1, .double x2, .double x3, .double x4, .double x5, .int (nI k), .ref bp, .ref bf, .ref bs, .ref bv])), (ao, aL 1 (cA 5) fo)]) [1, 2, 3, 0] rfl
    have hD := hD.sub (ws' := [(ax, .inr (1, [.ref ab, .ref aw, .int wl, .double la, .double ea, .int wk, .int fl])), (ab, aQ 4 (cA 3) qf), (bb, .inr (0, [.int 1, .double x2, .double x3, .double x4, .double x5, .int (nI k), .ref bp, .ref bf, .ref bs, .ref bv])), (ao, aL 1 (cA 5) fo)]) [1, 2, 3, 0] (by decide) rfl
    refine lv_if_eq (tgt := 22) hx hb dL_orbit_15 (by decide) (fun c_3 => ?_) (fun c_3 => ?_)
    · refine lv_lconst (v := 0) hx hb dL_orbit_22 (by decide) ?_
      refine va_last hx hb hK hP hD hS 3 5 rfl rfl (show ¬ ((0 : Int32) < 0 ∨ 1 ≤ (0 : Int32).toNatClampNeg) by decide +kernel) dL_orbit_23 (fun H locs hP hD hS => ?_)
      have hP : va_P (dC, dI) vwCl [(ax, .inr (1, [.ref ab, .ref aw, .int wl, .double la, .double ea, .int wk, .int fl])), (ab, aQ 4 (cA 3) qf), (bb, .inr (0, [.int 1, .double x2, .double x3, .double x4, .double x5, .int (nI k), .ref bp, .ref bf, .ref bs, .ref bv])), (ao, aL 1 (cA 5) (vp_updL fo ((0 : Int32).toNatClampNeg) 0))] H := hP
      have hD : va_D A [(ax, .inr (1, [.ref ab, .ref aw, .int wl, .double la, .double ea, .int wk, .int fl])), (ab, aQ 4 (cA 3) qf), (bb, .inr (0, [.int 1, .double x2, .double x3, .double x4, .double x5, .int (nI k), .ref bp, .ref bf, .ref bs, .ref bv])), (ao, aL 1 (cA 5) (vp_updL fo ((0 : Int32).toNatClampNeg) 0))] := hD
      refine lv_goto (tgt := 35) hx hb dL_orbit_24 (by decide) ?_
      have hcd : cdO (f_X1_orbit st x1 x2 x3 x4 x5) = 0 := by rw [hp_2]; rfl
      have hP : va_P (dC, dI) vwCl [(ax, .inr (1, [.ref ab, .ref aw, .int wl, .double la, .double ea, .int wk, .int fl])), (ab, aQ 4 (cA 3) qf), (bb, .inr (0, [.int (if cdO (f_X1_orbit st x1 x2 x3 x4 x5) = 0 then 1 else st), .double (if cdO (f_X1_orbit st x1 x2 x3 x4 x5) = 0 then x2 else oL), .double (if cdO (f_X1_orbit st x1 x2 x3 x4 x5) = 0 then x3 else oN), .double (if cdO (f_X1_orbit st x1 x2 x3 x4 x5) = 0 then x4 else oE), .double (if cdO (f_X1_orbit st x1 x2 x3 x4 x5) = 0 then x5 else oW), .int (nI k), .ref bp, .ref bf, .ref bs, .ref bv])), (ao, aL 1 (cA 5) (oJ (f_X1_orbit st x1 x2 x3 x4 x5) bJ fo))] H := by simp only [if_pos hcd]; rw [oJ_okC hp_2, show bJ v_1 = 0 from if_pos c_3]; exact hP
      have hD : va_D A [(ax, .inr (1, [.ref ab, .ref aw, .int wl, .double la, .double ea, .int wk, .int fl])), (ab, aQ 4 (cA 3) qf), (bb, .inr (0, [.int (if cdO (f_X1_orbit st x1 x2 x3 x4 x5) = 0 then 1 else st), .double (if cdO (f_X1_orbit st x1 x2 x3 x4 x5) = 0 then x2 else oL), .double (if cdO (f_X1_orbit st x1 x2 x3 x4 x5) = 0 then x3 else oN), .double (if cdO (f_X1_orbit st x1 x2 x3 x4 x5) = 0 then x4 else oE), .double (if cdO (f_X1_orbit st x1 x2 x3 x4 x5) = 0 then x5 else oW), .int (nI k), .ref bp, .ref bf, .ref bs, .ref bv])), (ao, aL 1 (cA 5) (oJ (f_X1_orbit st x1 x2 x3 x4 x5) bJ fo))] := by simp only [if_pos hcd]; rw [oJ_okC hp_2, show bJ v_1 = 0 from if_pos c_3]; exact hD
      refine lv_iconst (v := 0) hx hb dL_orbit_35 (by decide) ?_
      exact W.iret hx hb hr (fun t ht hW => ⟨⟨_, (), rfl, hcd.symm, ⟨by rw [ht]; exact hP, hD⟩⟩, hS.F ht⟩) hS.2.2 dL_orbit_36
    · refine lv_lconst (v := 1) hx hb dL_orbit_18 (by decide) ?_
      refine lv_goto (tgt := 23) hx hb dL_orbit_19 (by decide) ?_
      refine va_last hx hb hK hP hD hS 3 5 rfl rfl (show ¬ ((0 : Int32) < 0 ∨ 1 ≤ (0 : Int32).toNatClampNeg) by decide +kernel) dL_orbit_23 (fun H locs hP hD hS => ?_)
      have hP : va_P (dC, dI) vwCl [(ax, .inr (1, [.ref ab, .ref aw, .int wl, .double la, .double ea, .int wk, .int fl])), (ab, aQ 4 (cA 3) qf), (bb, .inr (0, [.int 1, .double x2, .double x3, .double x4, .double x5, .int (nI k), .ref bp, .ref bf, .ref bs, .ref bv])), (ao, aL 1 (cA 5) (vp_updL fo ((0 : Int32).toNatClampNeg) 1))] H := hP
      have hD : va_D A [(ax, .inr (1, [.ref ab, .ref aw, .int wl, .double la, .double ea, .int wk, .int fl])), (ab, aQ 4 (cA 3) qf), (bb, .inr (0, [.int 1, .double x2, .double x3, .double x4, .double x5, .int (nI k), .ref bp, .ref bf, .ref bs, .ref bv])), (ao, aL 1 (cA 5) (vp_updL fo ((0 : Int32).toNatClampNeg) 1))] := hD
      refine lv_goto (tgt := 35) hx hb dL_orbit_24 (by decide) ?_
      have hcd : cdO (f_X1_orbit st x1 x2 x3 x4 x5) = 0 := by rw [hp_2]; rfl
      have hP : va_P (dC, dI) vwCl [(ax, .inr (1, [.ref ab, .ref aw, .int wl, .double la, .double ea, .int wk, .int fl])), (ab, aQ 4 (cA 3) qf), (bb, .inr (0, [.int (if cdO (f_X1_orbit st x1 x2 x3 x4 x5) = 0 then 1 else st), .double (if cdO (f_X1_orbit st x1 x2 x3 x4 x5) = 0 then x2 else oL), .double (if cdO (f_X1_orbit st x1 x2 x3 x4 x5) = 0 then x3 else oN), .double (if cdO (f_X1_orbit st x1 x2 x3 x4 x5) = 0 then x4 else oE), .double (if cdO (f_X1_orbit st x1 x2 x3 x4 x5) = 0 then x5 else oW), .int (nI k), .ref bp, .ref bf, .ref bs, .ref bv])), (ao, aL 1 (cA 5) (oJ (f_X1_orbit st x1 x2 x3 x4 x5) bJ fo))] H := by simp only [if_pos hcd]; rw [oJ_okC hp_2, show bJ v_1 = 1 from if_neg c_3]; exact hP
      have hD : va_D A [(ax, .inr (1, [.ref ab, .ref aw, .int wl, .double la, .double ea, .int wk, .int fl])), (ab, aQ 4 (cA 3) qf), (bb, .inr (0, [.int (if cdO (f_X1_orbit st x1 x2 x3 x4 x5) = 0 then 1 else st), .double (if cdO (f_X1_orbit st x1 x2 x3 x4 x5) = 0 then x2 else oL), .double (if cdO (f_X1_orbit st x1 x2 x3 x4 x5) = 0 then x3 else oN), .double (if cdO (f_X1_orbit st x1 x2 x3 x4 x5) = 0 then x4 else oE), .double (if cdO (f_X1_orbit st x1 x2 x3 x4 x5) = 0 then x5 else oW), .int (nI k), .ref bp, .ref bf, .ref bs, .ref bv])), (ao, aL 1 (cA 5) (oJ (f_X1_orbit st x1 x2 x3 x4 x5) bJ fo))] := by simp only [if_pos hcd]; rw [oJ_okC hp_2, show bJ v_1 = 1 from if_neg c_3]; exact hD
      refine lv_iconst (v := 0) hx hb dL_orbit_35 (by decide) ?_
      exact W.iret hx hb hr (fun t ht hW => ⟨⟨_, (), rfl, hcd.symm, ⟨by rw [ht]; exact hP, hD⟩⟩, hS.F ht⟩) hS.2.2 dL_orbit_36

set_option maxHeartbeats 4000000 in
set_option maxRecDepth 100000 in
theorem k_L_term (l : Launch) (hst : l.stackTraces = false) (dC : Nat → ClassId) (dI : Nat → Nat → Nat) (cA : Nat → ClassId) (tm tt sz : Nat) (ax ab aw : Nat) (wl : Int32) (la ea : UInt64) (wk fl : Int32) (bb bp bf bs bv : Nat) (st : Int32) (oL oN oE oW : UInt64) (k : Nat) (pw : Nat → Int32) (fa sa va : Nat → UInt64) (qf : Nat → Option Nat) (ao : Nat) (fo : Nat → Int64) (x1 : Int32) (x2 : Int32) (x3 : UInt64) (x4 : UInt64) (x5 : UInt64) (hq : ¬ x1 < 0 → x1 < 4 → qf x1.toNatClampNeg = some bb) (hk12 : k ≤ 12) : Met l yL_term wsL_term ({ frames := 8, cells := 2, slots := 12, locals := 133 }) (PcL dC dI cA tm tt sz [.ref ax, .int x1, .int x2, .double x3, .double x4, .double x5, .ref ao] [(ax, .inr (1, [.ref ab, .ref aw, .int wl, .double la, .double ea, .int wk, .int fl])), (ab, aQ 4 (cA 3) qf), (bb, .inr (0, [.int st, .double oL, .double oN, .double oE, .double oW, .int (nI k), .ref bp, .ref bf, .ref bs, .ref bv])), (bp, aI 12 (cA 0) pw), (bf, aD 12 (cA 1) fa), (bs, aD 12 (cA 1) sa), (bv, aD 12 (cA 1) va), (ao, aL 1 (cA 5) fo)]) (va_Qi (fun r (_ : Unit) => r = cd3 (f_X1_term st k x1 x2 x3 x4 x5)) (fun _ t => WB dC dI (va_A [(ax, .inr (1, [.ref ab, .ref aw, .int wl, .double la, .double ea, .int wk, .int fl])), (ab, aQ 4 (cA 3) qf), (bb, .inr (0, [.int st, .double oL, .double oN, .double oE, .double oW, .int (nI k), .ref bp, .ref bf, .ref bs, .ref bv])), (bp, aI 12 (cA 0) pw), (bf, aD 12 (cA 1) fa), (bs, aD 12 (cA 1) sa), (bv, aD 12 (cA 1) va), (ao, aL 1 (cA 5) fo)] sz) [(ax, .inr (1, [.ref ab, .ref aw, .int wl, .double la, .double ea, .int wk, .int fl])), (ab, aQ 4 (cA 3) qf), (bb, .inr (0, [.int st, .double oL, .double oN, .double oE, .double oW, .int (nI (if cd3 (f_X1_term st k x1 x2 x3 x4 x5) = 0 then k + 1 else k)), .ref bp, .ref bf, .ref bs, .ref bv])), (bp, aI 12 (cA 0) (if cd3 (f_X1_term st k x1 x2 x3 x4 x5) = 0 then upd pw k x2 else pw)), (bf, aD 12 (cA 1) (if cd3 (f_X1_term st k x1 x2 x3 x4 x5) = 0 then vf_upd fa k x3 else fa)), (bs, aD 12 (cA 1) (if cd3 (f_X1_term st k x1 x2 x3 x4 x5) = 0 then vf_upd sa k x4 else sa)), (bv, aD 12 (cA 1) (if cd3 (f_X1_term st k x1 x2 x3 x4 x5) = 0 then vf_upd va k x5 else va)), (ao, aL 1 (cA 5) (oJ (f_X1_term st k x1 x2 x3 x4 x5) Int32.toInt64 fo))] t) (va_A [(ax, .inr (1, [.ref ab, .ref aw, .int wl, .double la, .double ea, .int wk, .int fl])), (ab, aQ 4 (cA 3) qf), (bb, .inr (0, [.int st, .double oL, .double oN, .double oE, .double oW, .int (nI k), .ref bp, .ref bf, .ref bs, .ref bv])), (bp, aI 12 (cA 0) pw), (bf, aD 12 (cA 1) fa), (bs, aD 12 (cA 1) sa), (bv, aD 12 (cA 1) va), (ao, aL 1 (cA 5) fo)] sz)) 2 12 (va_A [(ax, .inr (1, [.ref ab, .ref aw, .int wl, .double la, .double ea, .int wk, .int fl])), (ab, aQ 4 (cA 3) qf), (bb, .inr (0, [.int st, .double oL, .double oN, .double oE, .double oW, .int (nI k), .ref bp, .ref bf, .ref bs, .ref bv])), (bp, aI 12 (cA 0) pw), (bf, aD 12 (cA 1) fa), (bs, aD 12 (cA 1) sa), (bv, aD 12 (cA 1) va), (ao, aL 1 (cA 5) fo)] sz) := by
  refine zm_ofWH (cc := cL_term) (maxL := 11) (ret := (some .int)) (by decide) rfl ?_
  intro p e s m args below meth c s₁ B hml htb hv
  obtain ⟨⟨rfl, hsz, hP, hK, hD0, hE⟩, hN⟩ := hv
  subst hsz
  have hD := hD0.self (sz := s.heap.size)
  generalize hAe : va_A [(ax, .inr (1, [.ref ab, .ref aw, .int wl, .double la, .double ea, .int wk, .int fl])), (ab, aQ 4 (cA 3) qf), (bb, .inr (0, [.int st, .double oL, .double oN, .double oE, .double oW, .int (nI k), .ref bp, .ref bf, .ref bs, .ref bv])), (bp, aI 12 (cA 0) pw), (bf, aD 12 (cA 1) fa), (bs, aD 12 (cA 1) sa), (bv, aD 12 (cA 1) va), (ao, aL 1 (cA 5) fo)] s.heap.size = A at hD hE ⊢
  have hA : ∀ q : Nat, s.heap.size ≤ q → A q := fun q h => by rw [← hAe]; exact Or.inr h
  have hS : va_S A s.heap s.heap [] := va_S.rf
  have hP : va_P (dC, dI) vwCl [(ax, .inr (1, [.ref ab, .ref aw, .int wl, .double la, .double ea, .int wk, .int fl])), (ab, aQ 4 (cA 3) qf), (bb, .inr (0, [.int st, .double oL, .double oN, .double oE, .double oW, .int (nI k), .ref bp, .ref bf, .ref bs, .ref bv])), (bp, aI 12 (cA 0) pw), (bf, aD 12 (cA 1) fa), (bs, aD 12 (cA 1) sa), (bv, aD 12 (cA 1) va), (ao, aL 1 (cA 5) fo)] s.heap := hP
  have hx := B.exec
  have hb := B.bytes
  have hr := B.returns
  have hts := atoms_spec (ws := wsL_term) B.pre
  have hown : s.vm.findClass RL = some m.cls := findClass_of_methodNamed B.named
  have hlocks := B.notSynchronized
  have hl := lv_entry ([.ref ax, .int x1, .int x2, .double x3, .double x4, .double x5, .ref ao]) (n := 11) (Nat.le_of_ble_eq_true rfl)
  rw [lg_entry_eq]
  generalize (lg_sl ([.ref ax, .int x1, .int x2, .double x3, .double x4, .double x5, .ref ao]) ++ List.replicate (11 - (lg_sl ([.ref ax, .int x1, .int x2, .double x3, .double x4, .double x5, .ref ao])).length) Slot.unset).toArray = ls at hl ⊢
  have hl : lv_has ls 11 [(0, .ref ax), (1, .int x1), (2, .int x2), (3, .double x3), (5, .double x4), (7, .double x5), (9, .ref ao)] := hl
  refine lv_aload hx hb dL_term_0 (lv_at hl 6 rfl) ?_
  refine lv_iconst (v := 0) hx hb dL_term_2 (by decide) ?_
  refine lv_aload_n hx hb dL_term_3 rfl (lv_at hl 0 rfl) ?_
  refine lv_iload_n hx hb dL_term_4 rfl (lv_at hl 1 rfl) ?_
  refine lv_iload_n hx hb dL_term_5 rfl (lv_at hl 2 rfl) ?_
  refine lv_dload_n hx hb dL_term_6 rfl (lv_at hl 3 rfl) ?_
  refine lv_dload hx hb dL_term_7 (lv_at hl 4 rfl) ?_
  refine lv_dload hx hb dL_term_9 (lv_at hl 5 rfl) ?_
  have hPc := hP.sub (ws' := [(ax, .inr (1, [.ref ab, .ref aw, .int wl, .double la, .double ea, .int wk, .int fl])), (ab, aQ 4 (cA 3) qf), (bb, .inr (0, [.int st, .double oL, .double oN, .double oE, .double oW, .int (nI k), .ref bp, .ref bf, .ref bs, .ref bv])), (bp, aI 12 (cA 0) pw), (bf, aD 12 (cA 1) fa), (bs, aD 12 (cA 1) sa), (bv, aD 12 (cA 1) va)]) [0, 1, 2, 3, 4, 5, 6] rfl
  have hDc := hD.sub (ws' := [(ax, .inr (1, [.ref ab, .ref aw, .int wl, .double la, .double ea, .int wk, .int fl])), (ab, aQ 4 (cA 3) qf), (bb, .inr (0, [.int st, .double oL, .double oN, .double oE, .double oW, .int (nI k), .ref bp, .ref bf, .ref bs, .ref bv])), (bp, aI 12 (cA 0) pw), (bf, aD 12 (cA 1) fa), (bs, aD 12 (cA 1) sa), (bv, aD 12 (cA 1) va)]) [0, 1, 2, 3, 4, 5, 6] (by decide) rfl
  have hFc := va_free (wc := [(ax, .inr (1, [.ref ab, .ref aw, .int wl, .double la, .double ea, .int wk, .int fl])), (ab, aQ 4 (cA 3) qf), (bb, .inr (0, [.int st, .double oL, .double oN, .double oE, .double oW, .int (nI k), .ref bp, .ref bf, .ref bs, .ref bv])), (bp, aI 12 (cA 0) pw), (bf, aD 12 (cA 1) fa), (bs, aD 12 (cA 1) sa), (bv, aD 12 (cA 1) va)]) hD hS hA [0, 1, 2, 3, 4, 5, 6] rfl
  refine vx_calli (vx_runV (As := [.int x1, .int x2, .double x3, .double x4, .double x5]) (rest := [.int 0, .ref ao]) ⟨hx, hb, hml, hown, hts⟩ (k_X1_term l hst dC dI cA tm tt _ ax ab aw wl la ea wk fl bb bp bf bs bv st oL oN oE oW k pw fa sa va qf x1 x2 x3 x4 x5 hq hk12) (cwV 5 hts gL_term_X1_term rfl rfl rfl (by decide +kernel) ⟨Nat.le_of_ble_eq_true rfl, Nat.le_of_ble_eq_true rfl⟩) ⟨PcW.blind, va_recv hK hPc (ci := 1) (q0 := 0) rfl rfl, PcW.give hPc hK hDc hE hS hFc⟩ rfl rfl hl.1 rfl (lv_room (Nat.le_of_ble_eq_true rfl)) dL_term_11 ⟨Nat.le_of_ble_eq_true rfl, Nat.le_of_ble_eq_true rfl⟩) hS (fun q _ h => hFc q h) hFc (fun q _ h => hFc q h) (fun E ce q9 u t H locs ht hvm hpx hBX hz1 hk1 hS hce hcv hcl => ?_) (fun v_1 u t H locs ht hvm hp_2 hB hz1 hk1 hS => ?_)
  · obtain ⟨hpx, hP1, hD1⟩ := hBX
    rw [ht] at hP1
    obtain ⟨hP, hD⟩ := va_join (wr := [(ao, aL 1 (cA 5) fo)]) (w1 := [(ax, .inr (1, [.ref ab, .ref aw, .int wl, .double la, .double ea, .int wk, .int fl])), (ab, aQ 4 (cA 3) qf), (bb, .inr (0, [.int st, .double oL, .double oN, .double oE, .double oW, .int (nI k), .ref bp, .ref bf, .ref bs, .ref bv])), (bp, aI 12 (cA 0) pw), (bf, aD 12 (cA 1) fa), (bs, aD 12 (cA 1) sa), (bv, aD 12 (cA 1) va)]) hP hD [0, 1, 2, 3, 4, 5, 6] [7] rfl rfl (by decide) (by decide) hk1 hFc hP1 hD1
    have hP := hP.sub (ws' := [(ax, .inr (1, [.ref ab, .ref aw, .int wl, .double la, .double ea, .int wk, .int fl])), (ab, aQ 4 (cA 3) qf), (bb, .inr (0, [.int st, .double oL, .double oN, .double oE, .double oW, .int (nI k), .ref bp, .ref bf, .ref bs, .ref bv])), (bp, aI 12 (cA 0) pw), (bf, aD 12 (cA 1) fa), (bs, aD 12 (cA 1) sa), (bv, aD 12 (cA 1) va), (ao, aL 1 (cA 5) fo)]) [1, 2, 3, 4, 5, 6, 7, 0] rfl
    have hD := hD.sub (ws' := [(ax, .inr (1, [.ref ab, .ref aw, .int wl, .double la, .double ea, .int wk, .int fl])), (ab, aQ 4 (cA 3) qf), (bb, .inr (0, [.int st, .double oL, .double oN, .double oE, .double oW, .int (nI k), .ref bp, .ref bf, .ref bs, .ref bv])), (bp, aI 12 (cA 0) pw), (bf, aD 12 (cA 1) fa), (bs, aD 12 (cA 1) sa), (bv, aD 12 (cA 1) va), (ao, aL 1 (cA 5) fo)]) [1, 2, 3, 4, 5, 6, 7, 0] (by decide) rfl
    rcases err_term hpx with rfl | rfl | rfl
    · refine vx_catch (own := RL) (name := xNS) hown [] ⟨0, 16, 19, 33⟩ [⟨0, 16, 23, 13⟩, ⟨0, 16, 27, 35⟩] (htb.trans rfl) (fun z hz => absurd hz List.not_mem_nil) (by decide) (by decide) (hts (.classLink RL 33 xNS) (by decide +kernel)) (va_Nw.use rfl (hE.1.2.2.2.1 xNS (by decide))) hce hcv hcl ?_
      have hcd : cd3 (f_X1_term st k x1 x2 x3 x4 x5) = 1 := by rw [hpx]; exact cd3_NS
      have hP : va_P (dC, dI) vwCl [(ax, .inr (1, [.ref ab, .ref aw, .int wl, .double la, .double ea, .int wk, .int fl])), (ab, aQ 4 (cA 3) qf), (bb, .inr (0, [.int st, .double oL, .double oN, .double oE, .double oW, .int (nI (if cd3 (f_X1_term st k x1 x2 x3 x4 x5) = 0 then k + 1 else k)), .ref bp, .ref bf, .ref bs, .ref bv])), (bp, aI 12 (cA 0) (if cd3 (f_X1_term st k x1 x2 x3 x4 x5) = 0 then upd pw k x2 else pw)), (bf, aD 12 (cA 1) (if cd3 (f_X1_term st k x1 x2 x3 x4 x5) = 0 then vf_upd fa k x3 else fa)), (bs, aD 12 (cA 1) (if cd3 (f_X1_term st k x1 x2 x3 x4 x5) = 0 then vf_upd sa k x4 else sa)), (bv, aD 12 (cA 1) (if cd3 (f_X1_term st k x1 x2 x3 x4 x5) = 0 then vf_upd va k x5 else va)), (ao, aL 1 (cA 5) (oJ (f_X1_term st k x1 x2 x3 x4 x5) Int32.toInt64 fo))] H := by simp only [if_neg (show ¬ cd3 (f_X1_term st k x1 x2 x3 x4 x5) = 0 by rw [hcd]; decide), oJ_er hpx]; exact hP
      have hD : va_D A [(ax, .inr (1, [.ref ab, .ref aw, .int wl, .double la, .double ea, .int wk, .int fl])), (ab, aQ 4 (cA 3) qf), (bb, .inr (0, [.int st, .double oL, .double oN, .double oE, .double oW, .int (nI (if cd3 (f_X1_term st k x1 x2 x3 x4 x5) = 0 then k + 1 else k)), .ref bp, .ref bf, .ref bs, .ref bv])), (bp, aI 12 (cA 0) (if cd3 (f_X1_term st k x1 x2 x3 x4 x5) = 0 then upd pw k x2 else pw)), (bf, aD 12 (cA 1) (if cd3 (f_X1_term st k x1 x2 x3 x4 x5) = 0 then vf_upd fa k x3 else fa)), (bs, aD 12 (cA 1) (if cd3 (f_X1_term st k x1 x2 x3 x4 x5) = 0 then vf_upd sa k x4 else sa)), (bv, aD 12 (cA 1) (if cd3 (f_X1_term st k x1 x2 x3 x4 x5) = 0 then vf_upd va k x5 else va)), (ao, aL 1 (cA 5) (oJ (f_X1_term st k x1 x2 x3 x4 x5) Int32.toInt64 fo))] := by simp only [if_neg (show ¬ cd3 (f_X1_term st k x1 x2 x3 x4 x5) = 0 by rw [hcd]; decide), oJ_er hpx]; exact hD
      refine lv_astore (lv' := [(10, .ref q9), (0, .ref ax), (1, .int x1), (2, .int x2), (3, .double x3), (5, .double x4), (7, .double x5), (9, .ref ao)]) hx hb dL_term_19 hl (by decide) rfl (fun ls hl => ?_)
      refine lv_iconst (v := 1) hx hb dL_term_21 (by decide) ?_
      exact W.iret hx hb hr (fun t ht hW => ⟨⟨_, (), rfl, hcd.symm, ⟨by rw [ht]; exact hP, hD⟩⟩, hS.F ht⟩) hS.2.2 dL_term_22
    · refine vx_catch (own := RL) (name := xIA) hown [⟨0, 16, 19, 33⟩] ⟨0, 16, 23, 13⟩ [⟨0, 16, 27, 35⟩] (htb.trans rfl) (fun z hz => by rw [List.mem_singleton] at hz; subst hz; exact Or.inr ⟨by decide, xNS, hts (.classLink RL 33 xNS) (by decide +kernel), hN.at (by decide)⟩) (by decide) (by decide) (hts (.classLink RL 13 xIA) (by decide +kernel)) (va_Nw.use rfl (hE.1.2.2.2.1 xIA (by decide))) hce hcv hcl ?_
      have hcd : cd3 (f_X1_term st k x1 x2 x3 x4 x5) = 2 := by rw [hpx]; exact cd3_IA
      have hP : va_P (dC, dI) vwCl [(ax, .inr (1, [.ref ab, .ref aw, .int wl, .double la, .double ea, .int wk, .int fl])), (ab, aQ 4 (cA 3) qf), (bb, .inr (0, [.int st, .double oL, .double oN, .double oE, .double oW, .int (nI (if cd3 (f_X1_term st k x1 x2 x3 x4 x5) = 0 then k + 1 else k)), .ref bp, .ref bf, .ref bs, .ref bv])), (bp, aI 12 (cA 0) (if cd3 (f_X1_term st k x1 x2 x3 x4 x5) = 0 then upd pw k x2 else pw)), (bf, aD 12 (cA 1) (if cd3 (f_X1_term st k x1 x2 x3 x4 x5) = 0 then vf_upd fa k x3 else fa)), (bs, aD 12 (cA 1) (if cd3 (f_X1_term st k x1 x2 x3 x4 x5) = 0 then vf_upd sa k x4 else sa)), (bv, aD 12 (cA 1) (if cd3 (f_X1_term st k x1 x2 x3 x4 x5) = 0 then vf_upd va k x5 else va)), (ao, aL 1 (cA 5) (oJ (f_X1_term st k x1 x2 x3 x4 x5) Int32.toInt64 fo))] H := by simp only [if_neg (show ¬ cd3 (f_X1_term st k x1 x2 x3 x4 x5) = 0 by rw [hcd]; decide), oJ_er hpx]; exact hP
      have hD : va_D A [(ax, .inr (1, [.ref ab, .ref aw, .int wl, .double la, .double ea, .int wk, .int fl])), (ab, aQ 4 (cA 3) qf), (bb, .inr (0, [.int st, .double oL, .double oN, .double oE, .double oW, .int (nI (if cd3 (f_X1_term st k x1 x2 x3 x4 x5) = 0 then k + 1 else k)), .ref bp, .ref bf, .ref bs, .ref bv])), (bp, aI 12 (cA 0) (if cd3 (f_X1_term st k x1 x2 x3 x4 x5) = 0 then upd pw k x2 else pw)), (bf, aD 12 (cA 1) (if cd3 (f_X1_term st k x1 x2 x3 x4 x5) = 0 then vf_upd fa k x3 else fa)), (bs, aD 12 (cA 1) (if cd3 (f_X1_term st k x1 x2 x3 x4 x5) = 0 then vf_upd sa k x4 else sa)), (bv, aD 12 (cA 1) (if cd3 (f_X1_term st k x1 x2 x3 x4 x5) = 0 then vf_upd va k x5 else va)), (ao, aL 1 (cA 5) (oJ (f_X1_term st k x1 x2 x3 x4 x5) Int32.toInt64 fo))] := by simp only [if_neg (show ¬ cd3 (f_X1_term st k x1 x2 x3 x4 x5) = 0 by rw [hcd]; decide), oJ_er hpx]; exact hD
      refine lv_astore (lv' := [(10, .ref q9), (0, .ref ax), (1, .int x1), (2, .int x2), (3, .double x3), (5, .double x4), (7, .double x5), (9, .ref ao)]) hx hb dL_term_23 hl (by decide) rfl (fun ls hl => ?_)
      refine lv_iconst (v := 2) hx hb dL_term_25 (by decide) ?_
      exact W.iret hx hb hr (fun t ht hW => ⟨⟨_, (), rfl, hcd.symm, ⟨by rw [ht]; exact hP, hD⟩⟩, hS.F ht⟩) hS.2.2 dL_term_26
    · refine vx_catch (own := RL) (name := xIS) hown [⟨0, 16, 19, 33⟩, ⟨0, 16, 23, 13⟩] ⟨0, 16, 27, 35⟩ [] (htb.trans rfl) (fun z hz => by
          rcases List.mem_cons.mp hz with h9 | h9
          · subst h9; exact Or.inr ⟨by decide, xNS, hts (.classLink RL 33 xNS) (by decide +kernel), hN.at (by decide)⟩
          · rw [List.mem_singleton] at h9; subst h9; exact Or.inr ⟨by decide, xIA, hts (.classLink RL 13 xIA) (by decide +kernel), hN.at (by decide)⟩) (by decide) (by decide) (hts (.classLink RL 35 xIS) (by decide +kernel)) (va_Nw.use rfl (hE.1.2.2.2.1 xIS (by decide))) hce hcv hcl ?_
      have hcd : cd3 (f_X1_term st k x1 x2 x3 x4 x5) = 3 := by rw [hpx]; exact cd3_IS
      have hP : va_P (dC, dI) vwCl [(ax, .inr (1, [.ref ab, .ref aw, .int wl, .double la, .double ea, .int wk, .int fl])), (ab, aQ 4 (cA 3) qf), (bb, .inr (0, [.int st, .double oL, .double oN, .double oE, .double oW, .int (nI (if cd3 (f_X1_term st k x1 x2 x3 x4 x5) = 0 then k + 1 else k)), .ref bp, .ref bf, .ref bs, .ref bv])), (bp, aI 12 (cA 0) (if cd3 (f_X1_term st k x1 x2 x3 x4 x5) = 0 then upd pw k x2 else pw)), (bf, aD 12 (cA 1) (if cd3 (f_X1_term st k x1 x2 x3 x4 x5) = 0 then vf_upd fa k x3 else fa)), (bs, aD 12 (cA 1) (if cd3 (f_X1_term st k x1 x2 x3 x4 x5) = 0 then vf_upd sa k x4 else sa)), (bv, aD 12 (cA 1) (if cd3 (f_X1_term st k x1 x2 x3 x4 x5) = 0 then vf_upd va k x5 else va)), (ao, aL 1 (cA 5) (oJ (f_X1_term st k x1 x2 x3 x4 x5) Int32.toInt64 fo))] H := by simp only [if_neg (show ¬ cd3 (f_X1_term st k x1 x2 x3 x4 x5) = 0 by rw [hcd]; decide), oJ_er hpx]; exact hP
      have hD : va_D A [(ax, .inr (1, [.ref ab, .ref aw, .int wl, .double la, .double ea, .int wk, .int fl])), (ab, aQ 4 (cA 3) qf), (bb, .inr (0, [.int st, .double oL, .double oN, .double oE, .double oW, .int (nI (if cd3 (f_X1_term st k x1 x2 x3 x4 x5) = 0 then k + 1 else k)), .ref bp, .ref bf, .ref bs, .ref bv])), (bp, aI 12 (cA 0) (if cd3 (f_X1_term st k x1 x2 x3 x4 x5) = 0 then upd pw k x2 else pw)), (bf, aD 12 (cA 1) (if cd3 (f_X1_term st k x1 x2 x3 x4 x5) = 0 then vf_upd fa k x3 else fa)), (bs, aD 12 (cA 1) (if cd3 (f_X1_term st k x1 x2 x3 x4 x5) = 0 then vf_upd sa k x4 else sa)), (bv, aD 12 (cA 1) (if cd3 (f_X1_term st k x1 x2 x3 x4 x5) = 0 then vf_upd va k x5 else va)), (ao, aL 1 (cA 5) (oJ (f_X1_term st k x1 x2 x3 x4 x5) Int32.toInt64 fo))] := by simp only [if_neg (show ¬ cd3 (f_X1_term st k x1 x2 x3 x4 x5) = 0 by rw [hcd]; decide), oJ_er hpx]; exact hD
      refine lv_astore (lv' := [(10, .ref q9), (0, .ref ax), (1, .int x1), (2, .int x2), (3, .double x3), (5, .double x4), (7, .double x5), (9, .ref ao)]) hx hb dL_term_27 hl (by decide) rfl (fun ls hl => ?_)
      refine lv_iconst (v := 3) hx hb dL_term_29 (by decide) ?_
      exact W.iret hx hb hr (fun t ht hW => ⟨⟨_, (), rfl, hcd.symm, ⟨by rw [ht]; exact hP, hD⟩⟩, hS.F ht⟩) hS.2.2 dL_term_30
  · obtain ⟨hP1, hD1⟩ := hB
    rw [ht] at hP1
    obtain ⟨hP, hD⟩ := va_join (wr := [(ao, aL 1 (cA 5) fo)]) (w1 := [(ax, .inr (1, [.ref ab, .ref aw, .int wl, .double la, .double ea, .int wk, .int fl])), (ab, aQ 4 (cA 3) qf), (bb, .inr (0, [.int st, .double oL, .double oN, .double oE, .double oW, .int (nI (k + 1)), .ref bp, .ref bf, .ref bs, .ref bv])), (bp, aI 12 (cA 0) (upd pw k x2)), (bf, aD 12 (cA 1) (vf_upd fa k x3)), (bs, aD 12 (cA 1) (vf_upd sa k x4)), (bv, aD 12 (cA 1) (vf_upd va k x5))]) hP hD [0, 1, 2, 3, 4, 5, 6] [7] rfl rfl (by decide) (by decide) hk1 hFc hP1 hD1
    have hP := hP.sub (ws' := [(ax, .inr (1, [.ref ab, .ref aw, .int wl, .double la, .double ea, .int wk, .int fl])), (ab, aQ 4 (cA 3) qf), (bb, .inr (0, [.int st, .double oL, .double oN, .double oE, .double oW, .int (nI (k + 1)), .ref bp, .ref bf, .ref bs, .ref bv])), (bp, aI 12 (cA 0) (upd pw k x2)), (bf, aD 12 (cA 1) (vf_upd fa k x3)), (bs, aD 12 (cA 1) (vf_upd sa k x4)), (bv, aD 12 (cA 1) (vf_upd va k x5)), (ao, aL 1 (cA 5) fo)]) [1, 2, 3, 4, 5, 6, 7, 0] rfl
    have hD := hD.sub (ws' := [(ax, .inr (1, [.ref ab, .ref aw, .int wl, .double la, .double ea, .int wk, .int fl])), (ab, aQ 4 (cA 3) qf), (bb, .inr (0, [.int st, .double oL, .double oN, .double oE, .double oW, .int (nI (k + 1)), .ref bp, .ref bf, .ref bs, .ref bv])), (bp, aI 12 (cA 0) (upd pw k x2)), (bf, aD 12 (cA 1) (vf_upd fa k x3)), (bs, aD 12 (cA 1) (vf_upd sa k x4)), (bv, aD 12 (cA 1) (vf_upd va k x5)), (ao, aL 1 (cA 5) fo)]) [1, 2, 3, 4, 5, 6, 7, 0] (by decide) rfl
    refine lv_i2l hx hb dL_term_14 rfl ?_
    refine va_last hx hb hK hP hD hS 7 5 rfl rfl (show ¬ ((0 : Int32) < 0 ∨ 1 ≤ (0 : Int32).toNatClampNeg) by decide +kernel) dL_term_15 (fun H locs hP hD hS => ?_)
    have hP : va_P (dC, dI) vwCl [(ax, .inr (1, [.ref ab, .ref aw, .int wl, .double la, .double ea, .int wk, .int fl])), (ab, aQ 4 (cA 3) qf), (bb, .inr (0, [.int st, .double oL, .double oN, .double oE, .double oW, .int (nI (k + 1)), .ref bp, .ref bf, .ref bs, .ref bv])), (bp, aI 12 (cA 0) (upd pw k x2)), (bf, aD 12 (cA 1) (vf_upd fa k x3)), (bs, aD 12 (cA 1) (vf_upd sa k x4)), (bv, aD 12 (cA 1) (vf_upd va k x5)), (ao, aL 1 (cA 5) (vp_updL fo ((0 : Int32).toNatClampNeg) (Int32.toInt64 v_1)))] H := hP
    have hD : va_D A [(ax, .inr (1, [.ref ab, .ref aw, .int wl, .double la, .double ea, .int wk, .int fl])), (ab, aQ 4 (cA 3) qf), (bb, .inr (0, [.int st, .double oL, .double oN, .double oE, .double oW, .int (nI (k + 1)), .ref bp, .ref bf, .ref bs, .ref bv])), (bp, aI 12 (cA 0) (upd pw k x2)), (bf, aD 12 (cA 1) (vf_upd fa k x3)), (bs, aD 12 (cA 1) (vf_upd sa k x4)), (bv, aD 12 (cA 1) (vf_upd va k x5)), (ao, aL 1 (cA 5) (vp_updL fo ((0 : Int32).toNatClampNeg) (Int32.toInt64 v_1)))] := hD
    refine lv_goto (tgt := 31) hx hb dL_term_16 (by decide) ?_
    have hcd : cd3 (f_X1_term st k x1 x2 x3 x4 x5) = 0 := by rw [hp_2]; rfl
    have hP : va_P (dC, dI) vwCl [(ax, .inr (1, [.ref ab, .ref aw, .int wl, .double la, .double ea, .int wk, .int fl])), (ab, aQ 4 (cA 3) qf), (bb, .inr (0, [.int st, .double oL, .double oN, .double oE, .double oW, .int (nI (if cd3 (f_X1_term st k x1 x2 x3 x4 x5) = 0 then k + 1 else k)), .ref bp, .ref bf, .ref bs, .ref bv])), (bp, aI 12 (cA 0) (if cd3 (f_X1_term st k x1 x2 x3 x4 x5) = 0 then upd pw k x2 else pw)), (bf, aD 12 (cA 1) (if cd3 (f_X1_term st k x1 x2 x3 x4 x5) = 0 then vf_upd fa k x3 else fa)), (bs, aD 12 (cA 1) (if cd3 (f_X1_term st k x1 x2 x3 x4 x5) = 0 then vf_upd sa k x4 else sa)), (bv, aD 12 (cA 1) (if cd3 (f_X1_term st k x1 x2 x3 x4 x5) = 0 then vf_upd va k x5 else va)), (ao, aL 1 (cA 5) (oJ (f_X1_term st k x1 x2 x3 x4 x5) Int32.toInt64 fo))] H := by simp only [if_pos hcd]; rw [oJ_okC hp_2]; exact hP
    have hD : va_D A [(ax, .inr (1, [.ref ab, .ref aw, .int wl, .double la, .double ea, .int wk, .int fl])), (ab, aQ 4 (cA 3) qf), (bb, .inr (0, [.int st, .double oL, .double oN, .double oE, .double oW, .int (nI (if cd3 (f_X1_term st k x1 x2 x3 x4 x5) = 0 then k + 1 else k)), .ref bp, .ref bf, .ref bs, .ref bv])), (bp, aI 12 (cA 0) (if cd3 (f_X1_term st k x1 x2 x3 x4 x5) = 0 then upd pw k x2 else pw)), (bf, aD 12 (cA 1) (if cd3 (f_X1_term st k x1 x2 x3 x4 x5) = 0 then vf_upd fa k x3 else fa)), (bs, aD 12 (cA 1) (if cd3 (f_X1_term st k x1 x2 x3 x4 x5) = 0 then vf_upd sa k x4 else sa)), (bv, aD 12 (cA 1) (if cd3 (f_X1_term st k x1 x2 x3 x4 x5) = 0 then vf_upd va k x5 else va)), (ao, aL 1 (cA 5) (oJ (f_X1_term st k x1 x2 x3 x4 x5) Int32.toInt64 fo))] := by simp only [if_pos hcd]; rw [oJ_okC hp_2]; exact hD
    refine lv_iconst (v := 0) hx hb dL_term_31 (by decide) ?_
    exact W.iret hx hb hr (fun t ht hW => ⟨⟨_, (), rfl, hcd.symm, ⟨by rw [ht]; exact hP, hD⟩⟩, hS.F ht⟩) hS.2.2 dL_term_32

set_option maxHeartbeats 4000000 in
set_option maxRecDepth 100000 in
theorem k_L_longitude (l : Launch) (hst : l.stackTraces = false) (dC : Nat → ClassId) (dI : Nat → Nat → Nat) (cA : Nat → ClassId) (tm tt sz : Nat) (ax ab aw : Nat) (wl : Int32) (la ea : UInt64) (wk fl : Int32) (bb bp bf bs bv : Nat) (st : Int32) (oL oN oE oW : UInt64) (k : Nat) (pw : Nat → Int32) (fa sa va : Nat → UInt64) (qf : Nat → Option Nat) (ao : Nat) (fo : Nat → UInt64) (x1 : Int32) (x2 : UInt64) (hq : ¬ x1 < 0 → x1 < 4 → qf x1.toNatClampNeg = some bb) (hO : oOK oL oN oE oW) (hT : tOK k fa sa va) (hF : fR x2 (-1208925819614629174706176) 1208925819614629174706176) : Met l yL_longitude wsL_longitude ({ frames := 9, cells := 2, slots := 12, locals := 169 }) (PcL dC dI cA tm tt sz [.ref ax, .int x1, .double x2, .ref ao] [(ax, .inr (1, [.ref ab, .ref aw, .int wl, .double la, .double ea, .int wk, .int fl])), (ab, aQ 4 (cA 3) qf), (bb, .inr (0, [.int st, .double oL, .double oN, .double oE, .double oW, .int (nI k), .ref bp, .ref bf, .ref bs, .ref bv])), (bp, aI 12 (cA 0) pw), (bf, aD 12 (cA 1) fa), (bs, aD 12 (cA 1) sa), (bv, aD 12 (cA 1) va), (ao, aD 1 (cA 1) fo)]) (va_Qi (fun r (_ : Unit) => r = cd3 (f_X1_lon st x1 x2 (LON oL oN oE oW k pw fa sa va x2))) (fun _ t => WB dC dI (va_A [(ax, .inr (1, [.ref ab, .ref aw, .int wl, .double la, .double ea, .int wk, .int fl])), (ab, aQ 4 (cA 3) qf), (bb, .inr (0, [.int st, .double oL, .double oN, .double oE, .double oW, .int (nI k), .ref bp, .ref bf, .ref bs, .ref bv])), (bp, aI 12 (cA 0) pw), (bf, aD 12 (cA 1) fa), (bs, aD 12 (cA 1) sa), (bv, aD 12 (cA 1) va), (ao, aD 1 (cA 1) fo)] sz) [(ax, .inr (1, [.ref ab, .ref aw, .int wl, .double la, .double ea, .int (wk + cWK st x1 x2), .int (fl + cFL (f_X1_lon st x1 x2 (LON oL oN oE oW k pw fa sa va x2)))])), (ab, aQ 4 (cA 3) qf), (bb, .inr (0, [.int st, .double oL, .double oN, .double oE, .double oW, .int (nI k), .ref bp, .ref bf, .ref bs, .ref bv])), (bp, aI 12 (cA 0) pw), (bf, aD 12 (cA 1) fa), (bs, aD 12 (cA 1) sa), (bv, aD 12 (cA 1) va), (ao, aD 1 (cA 1) (oD (f_X1_lon st x1 x2 (LON oL oN oE oW k pw fa sa va x2)) fo))] t) (va_A [(ax, .inr (1, [.ref ab, .ref aw, .int wl, .double la, .double ea, .int wk, .int fl])), (ab, aQ 4 (cA 3) qf), (bb, .inr (0, [.int st, .double oL, .double oN, .double oE, .double oW, .int (nI k), .ref bp, .ref bf, .ref bs, .ref bv])), (bp, aI 12 (cA 0) pw), (bf, aD 12 (cA 1) fa), (bs, aD 12 (cA 1) sa), (bv, aD 12 (cA 1) va), (ao, aD 1 (cA 1) fo)] sz)) 2 12 (va_A [(ax, .inr (1, [.ref ab, .ref aw, .int wl, .double la, .double ea, .int wk, .int fl])), (ab, aQ 4 (cA 3) qf), (bb, .inr (0, [.int st, .double oL, .double oN, .double oE, .double oW, .int (nI k), .ref bp, .ref bf, .ref bs, .ref bv])), (bp, aI 12 (cA 0) pw), (bf, aD 12 (cA 1) fa), (bs, aD 12 (cA 1) sa), (bv, aD 12 (cA 1) va), (ao, aD 1 (cA 1) fo)] sz) := by
  refine zm_ofWH (cc := cL_longitude) (maxL := 6) (ret := (some .int)) (by decide) rfl ?_
  intro p e s m args below meth c s₁ B hml htb hv
  obtain ⟨⟨rfl, hsz, hP, hK, hD0, hE⟩, hN⟩ := hv
  subst hsz
  have hD := hD0.self (sz := s.heap.size)
  generalize hAe : va_A [(ax, .inr (1, [.ref ab, .ref aw, .int wl, .double la, .double ea, .int wk, .int fl])), (ab, aQ 4 (cA 3) qf), (bb, .inr (0, [.int st, .double oL, .double oN, .double oE, .double oW, .int (nI k), .ref bp, .ref bf, .ref bs, .ref bv])), (bp, aI 12 (cA 0) pw), (bf, aD 12 (cA 1) fa), (bs, aD 12 (cA 1) sa), (bv, aD 12 (cA 1) va), (ao, aD 1 (cA 1) fo)] s.heap.size = A at hD hE ⊢
  have hA : ∀ q : Nat, s.heap.size ≤ q → A q := fun q h => by rw [← hAe]; exact Or.inr h
  have hS : va_S A s.heap s.heap [] := va_S.rf
  have hP : va_P (dC, dI) vwCl [(ax, .inr (1, [.ref ab, .ref aw, .int wl, .double la, .double ea, .int wk, .int fl])), (ab, aQ 4 (cA 3) qf), (bb, .inr (0, [.int st, .double oL, .double oN, .double oE, .double oW, .int (nI k), .ref bp, .ref bf, .ref bs, .ref bv])), (bp, aI 12 (cA 0) pw), (bf, aD 12 (cA 1) fa), (bs, aD 12 (cA 1) sa), (bv, aD 12 (cA 1) va), (ao, aD 1 (cA 1) fo)] s.heap := hP
  have hx := B.exec
  have hb := B.bytes
  have hr := B.returns
  have hts := atoms_spec (ws := wsL_longitude) B.pre
  have hown : s.vm.findClass RL = some m.cls := findClass_of_methodNamed B.named
  have hlocks := B.notSynchronized
  have hl := lv_entry ([.ref ax, .int x1, .double x2, .ref ao]) (n := 6) (Nat.le_of_ble_eq_true rfl)
  rw [lg_entry_eq]
  generalize (lg_sl ([.ref ax, .int x1, .double x2, .ref ao]) ++ List.replicate (6 - (lg_sl ([.ref ax, .int x1, .double x2, .ref ao])).length) Slot.unset).toArray = ls at hl ⊢
  have hl : lv_has ls 6 [(0, .ref ax), (1, .int x1), (2, .double x2), (4, .ref ao)] := hl
  refine lv_aload hx hb dL_longitude_0 (lv_at hl 3 rfl) ?_
  refine lv_iconst (v := 0) hx hb dL_longitude_2 (by decide) ?_
  refine lv_aload_n hx hb dL_longitude_3 rfl (lv_at hl 0 rfl) ?_
  refine lv_iload_n hx hb dL_longitude_4 rfl (lv_at hl 1 rfl) ?_
  refine lv_dload_n hx hb dL_longitude_5 rfl (lv_at hl 2 rfl) ?_
  have hPc := hP.sub (ws' := [(ax, .inr (1, [.ref ab, .ref aw, .int wl, .double la, .double ea, .int wk, .int fl])), (ab, aQ 4 (cA 3) qf), (bb, .inr (0, [.int st, .double oL, .double oN, .double oE, .double oW, .int (nI k), .ref bp, .ref bf, .ref bs, .ref bv])), (bp, aI 12 (cA 0) pw), (bf, aD 12 (cA 1) fa), (bs, aD 12 (cA 1) sa), (bv, aD 12 (cA 1) va)]) [0, 1, 2, 3, 4, 5, 6] rfl
  have hDc := hD.sub (ws' := [(ax, .inr (1, [.ref ab, .ref aw, .int wl, .double la, .double ea, .int wk, .int fl])), (ab, aQ 4 (cA 3) qf), (bb, .inr (0, [.int st, .double oL, .double oN, .double oE, .double oW, .int (nI k), .ref bp, .ref bf, .ref bs, .ref bv])), (bp, aI 12 (cA 0) pw), (bf, aD 12 (cA 1) fa), (bs, aD 12 (cA 1) sa), (bv, aD 12 (cA 1) va)]) [0, 1, 2, 3, 4, 5, 6] (by decide) rfl
  have hFc := va_free (wc := [(ax, .inr (1, [.ref ab, .ref aw, .int wl, .double la, .double ea, .int wk, .int fl])), (ab, aQ 4 (cA 3) qf), (bb, .inr (0, [.int st, .double oL, .double oN, .double oE, .double oW, .int (nI k), .ref bp, .ref bf, .ref bs, .ref bv])), (bp, aI 12 (cA 0) pw), (bf, aD 12 (cA 1) fa), (bs, aD 12 (cA 1) sa), (bv, aD 12 (cA 1) va)]) hD hS hA [0, 1, 2, 3, 4, 5, 6] rfl
  refine vx_calld (vx_runV (As := [.int x1, .double x2]) (rest := [.int 0, .ref ao]) ⟨hx, hb, hml, hown, hts⟩ (k_X1_longitude l hst dC dI cA tm tt _ ax ab aw wl la ea wk fl bb bp bf bs bv st oL oN oE oW k pw fa sa va qf x1 x2 hq hO hT hF) (cwV 2 hts gL_longitude_X1_longitude rfl rfl rfl (by decide +kernel) ⟨Nat.le_of_ble_eq_true rfl, Nat.le_of_ble_eq_true rfl⟩) ⟨PcW.blind, va_recv hK hPc (ci := 1) (q0 := 0) rfl rfl, PcW.give hPc hK hDc hE hS hFc⟩ rfl rfl hl.1 rfl (lv_room (Nat.le_of_ble_eq_true rfl)) dL_longitude_6 ⟨Nat.le_of_ble_eq_true rfl, Nat.le_of_ble_eq_true rfl⟩) hS (fun q _ h => hFc q h) hFc (fun q _ h => hFc q h) (fun E ce q9 u t H locs ht hvm hpx hBX hz1 hk1 hS hce hcv hcl => ?_) (fun v_1 u t H locs ht hvm hp_2 hB hz1 hk1 hS => ?_)
  · obtain ⟨hpx, hP1, hD1⟩ := hBX
    rw [ht] at hP1
    obtain ⟨hP, hD⟩ := va_join (wr := [(ao, aD 1 (cA 1) fo)]) (w1 := [(ax, .inr (1, [.ref ab, .ref aw, .int wl, .double la, .double ea, .int (wk + cWK st x1 x2), .int (fl + cFL (f_X1_lon st x1 x2 (LON oL oN oE oW k pw fa sa va x2)))])), (ab, aQ 4 (cA 3) qf), (bb, .inr (0, [.int st, .double oL, .double oN, .double oE, .double oW, .int (nI k), .ref bp, .ref bf, .ref bs, .ref bv])), (bp, aI 12 (cA 0) pw), (bf, aD 12 (cA 1) fa), (bs, aD 12 (cA 1) sa), (bv, aD 12 (cA 1) va)]) hP hD [0, 1, 2, 3, 4, 5, 6] [7] rfl rfl (by decide) (by decide) hk1 hFc hP1 hD1
    have hP := hP.sub (ws' := [(ax, .inr (1, [.ref ab, .ref aw, .int wl, .double la, .double ea, .int (wk + cWK st x1 x2), .int (fl + cFL (f_X1_lon st x1 x2 (LON oL oN oE oW k pw fa sa va x2)))])), (ab, aQ 4 (cA 3) qf), (bb, .inr (0, [.int st, .double oL, .double oN, .double oE, .double oW, .int (nI k), .ref bp, .ref bf, .ref bs, .ref bv])), (bp, aI 12 (cA 0) pw), (bf, aD 12 (cA 1) fa), (bs, aD 12 (cA 1) sa), (bv, aD 12 (cA 1) va), (ao, aD 1 (cA 1) fo)]) [1, 2, 3, 4, 5, 6, 7, 0] rfl
    have hD := hD.sub (ws' := [(ax, .inr (1, [.ref ab, .ref aw, .int wl, .double la, .double ea, .int (wk + cWK st x1 x2), .int (fl + cFL (f_X1_lon st x1 x2 (LON oL oN oE oW k pw fa sa va x2)))])), (ab, aQ 4 (cA 3) qf), (bb, .inr (0, [.int st, .double oL, .double oN, .double oE, .double oW, .int (nI k), .ref bp, .ref bf, .ref bs, .ref bv])), (bp, aI 12 (cA 0) pw), (bf, aD 12 (cA 1) fa), (bs, aD 12 (cA 1) sa), (bv, aD 12 (cA 1) va), (ao, aD 1 (cA 1) fo)]) [1, 2, 3, 4, 5, 6, 7, 0] (by decide) rfl
    rcases err_lon (fun e h => LON_err h) hpx with rfl | rfl | rfl
    · refine vx_catch (own := RL) (name := xNS) hown [] ⟨0, 10, 13, 33⟩ [⟨0, 10, 17, 13⟩, ⟨0, 10, 21, 35⟩] (htb.trans rfl) (fun z hz => absurd hz List.not_mem_nil) (by decide) (by decide) (hts (.classLink RL 33 xNS) (by decide +kernel)) (va_Nw.use rfl (hE.1.2.2.2.1 xNS (by decide))) hce hcv hcl ?_
      have hcd : cd3 (f_X1_lon st x1 x2 (LON oL oN oE oW k pw fa sa va x2)) = 1 := by rw [hpx]; exact cd3_NS
      have hP : va_P (dC, dI) vwCl [(ax, .inr (1, [.ref ab, .ref aw, .int wl, .double la, .double ea, .int (wk + cWK st x1 x2), .int (fl + cFL (f_X1_lon st x1 x2 (LON oL oN oE oW k pw fa sa va x2)))])), (ab, aQ 4 (cA 3) qf), (bb, .inr (0, [.int st, .double oL, .double oN, .double oE, .double oW, .int (nI k), .ref bp, .ref bf, .ref bs, .ref bv])), (bp, aI 12 (cA 0) pw), (bf, aD 12 (cA 1) fa), (bs, aD 12 (cA 1) sa), (bv, aD 12 (cA 1) va), (ao, aD 1 (cA 1) (oD (f_X1_lon st x1 x2 (LON oL oN oE oW k pw fa sa va x2)) fo))] H := by rw [oD_er hpx]; exact hP
      have hD : va_D A [(ax, .inr (1, [.ref ab, .ref aw, .int wl, .double la, .double ea, .int (wk + cWK st x1 x2), .int (fl + cFL (f_X1_lon st x1 x2 (LON oL oN oE oW k pw fa sa va x2)))])), (ab, aQ 4 (cA 3) qf), (bb, .inr (0, [.int st, .double oL, .double oN, .double oE, .double oW, .int (nI k), .ref bp, .ref bf, .ref bs, .ref bv])), (bp, aI 12 (cA 0) pw), (bf, aD 12 (cA 1) fa), (bs, aD 12 (cA 1) sa), (bv, aD 12 (cA 1) va), (ao, aD 1 (cA 1) (oD (f_X1_lon st x1 x2 (LON oL oN oE oW k pw fa sa va x2)) fo))] := by rw [oD_er hpx]; exact hD
      refine lv_astore (lv' := [(5, .ref q9), (0, .ref ax), (1, .int x1), (2, .double x2), (4, .ref ao)]) hx hb dL_longitude_13 hl (by decide) rfl (fun ls hl => ?_)
      refine lv_iconst (v := 1) hx hb dL_longitude_15 (by decide) ?_
      exact W.iret hx hb hr (fun t ht hW => ⟨⟨_, (), rfl, hcd.symm, ⟨by rw [ht]; exact hP, hD⟩⟩, hS.F ht⟩) hS.2.2 dL_longitude_16
    · refine vx_catch (own := RL) (name := xIA) hown [⟨0, 10, 13, 33⟩] ⟨0, 10, 17, 13⟩ [⟨0, 10, 21, 35⟩] (htb.trans rfl) (fun z hz => by rw [List.mem_singleton] at hz; subst hz; exact Or.inr ⟨by decide, xNS, hts (.classLink RL 33 xNS) (by decide +kernel), hN.at (by decide)⟩) (by decide) (by decide) (hts (.classLink RL 13 xIA) (by decide +kernel)) (va_Nw.use rfl (hE.1.2.2.2.1 xIA (by decide))) hce hcv hcl ?_
      have hcd : cd3 (f_X1_lon st x1 x2 (LON oL oN oE oW k pw fa sa va x2)) = 2 := by rw [hpx]; exact cd3_IA
      have hP : va_P (dC, dI) vwCl [(ax, .inr (1, [.ref ab, .ref aw, .int wl, .double la, .double ea, .int (wk + cWK st x1 x2), .int (fl + cFL (f_X1_lon st x1 x2 (LON oL oN oE oW k pw fa sa va x2)))])), (ab, aQ 4 (cA 3) qf), (bb, .inr (0, [.int st, .double oL, .double oN, .double oE, .double oW, .int (nI k), .ref bp, .ref bf, .ref bs, .ref bv])), (bp, aI 12 (cA 0) pw), (bf, aD 12 (cA 1) fa), (bs, aD 12 (cA 1) sa), (bv, aD 12 (cA 1) va), (ao, aD 1 (cA 1) (oD (f_X1_lon st x1 x2 (LON oL oN oE oW k pw fa sa va x2)) fo))] H := by rw [oD_er hpx]; exact hP
      have hD : va_D A [(ax, .inr (1, [.ref ab, .ref aw, .int wl, .double la, .double ea, .int (wk + cWK st x1 x2), .int (fl + cFL (f_X1_lon st x1 x2 (LON oL oN oE oW k pw fa sa va x2)))])), (ab, aQ 4 (cA 3) qf), (bb, .inr (0, [.int st, .double oL, .double oN, .double oE, .double oW, .int (nI k), .ref bp, .ref bf, .ref bs, .ref bv])), (bp, aI 12 (cA 0) pw), (bf, aD 12 (cA 1) fa), (bs, aD 12 (cA 1) sa), (bv, aD 12 (cA 1) va), (ao, aD 1 (cA 1) (oD (f_X1_lon st x1 x2 (LON oL oN oE oW k pw fa sa va x2)) fo))] := by rw [oD_er hpx]; exact hD
      refine lv_astore (lv' := [(5, .ref q9), (0, .ref ax), (1, .int x1), (2, .double x2), (4, .ref ao)]) hx hb dL_longitude_17 hl (by decide) rfl (fun ls hl => ?_)
      refine lv_iconst (v := 2) hx hb dL_longitude_19 (by decide) ?_
      exact W.iret hx hb hr (fun t ht hW => ⟨⟨_, (), rfl, hcd.symm, ⟨by rw [ht]; exact hP, hD⟩⟩, hS.F ht⟩) hS.2.2 dL_longitude_20
    · refine vx_catch (own := RL) (name := xIS) hown [⟨0, 10, 13, 33⟩, ⟨0, 10, 17, 13⟩] ⟨0, 10, 21, 35⟩ [] (htb.trans rfl) (fun z hz => by
          rcases List.mem_cons.mp hz with h9 | h9
          · subst h9; exact Or.inr ⟨by decide, xNS, hts (.classLink RL 33 xNS) (by decide +kernel), hN.at (by decide)⟩
          · rw [List.mem_singleton] at h9; subst h9; exact Or.inr ⟨by decide, xIA, hts (.classLink RL 13 xIA) (by decide +kernel), hN.at (by decide)⟩) (by decide) (by decide) (hts (.classLink RL 35 xIS) (by decide +kernel)) (va_Nw.use rfl (hE.1.2.2.2.1 xIS (by decide))) hce hcv hcl ?_
      have hcd : cd3 (f_X1_lon st x1 x2 (LON oL oN oE oW k pw fa sa va x2)) = 3 := by rw [hpx]; exact cd3_IS
      have hP : va_P (dC, dI) vwCl [(ax, .inr (1, [.ref ab, .ref aw, .int wl, .double la, .double ea, .int (wk + cWK st x1 x2), .int (fl + cFL (f_X1_lon st x1 x2 (LON oL oN oE oW k pw fa sa va x2)))])), (ab, aQ 4 (cA 3) qf), (bb, .inr (0, [.int st, .double oL, .double oN, .double oE, .double oW, .int (nI k), .ref bp, .ref bf, .ref bs, .ref bv])), (bp, aI 12 (cA 0) pw), (bf, aD 12 (cA 1) fa), (bs, aD 12 (cA 1) sa), (bv, aD 12 (cA 1) va), (ao, aD 1 (cA 1) (oD (f_X1_lon st x1 x2 (LON oL oN oE oW k pw fa sa va x2)) fo))] H := by rw [oD_er hpx]; exact hP
      have hD : va_D A [(ax, .inr (1, [.ref ab, .ref aw, .int wl, .double la, .double ea, .int (wk + cWK st x1 x2), .int (fl + cFL (f_X1_lon st x1 x2 (LON oL oN oE oW k pw fa sa va x2)))])), (ab, aQ 4 (cA 3) qf), (bb, .inr (0, [.int st, .double oL, .double oN, .double oE, .double oW, .int (nI k), .ref bp, .ref bf, .ref bs, .ref bv])), (bp, aI 12 (cA 0) pw), (bf, aD 12 (cA 1) fa), (bs, aD 12 (cA 1) sa), (bv, aD 12 (cA 1) va), (ao, aD 1 (cA 1) (oD (f_X1_lon st x1 x2 (LON oL oN oE oW k pw fa sa va x2)) fo))] := by rw [oD_er hpx]; exact hD
      refine lv_astore (lv' := [(5, .ref q9), (0, .ref ax), (1, .int x1), (2, .double x2), (4, .ref ao)]) hx hb dL_longitude_21 hl (by decide) rfl (fun ls hl => ?_)
      refine lv_iconst (v := 3) hx hb dL_longitude_23 (by decide) ?_
      exact W.iret hx hb hr (fun t ht hW => ⟨⟨_, (), rfl, hcd.symm, ⟨by rw [ht]; exact hP, hD⟩⟩, hS.F ht⟩) hS.2.2 dL_longitude_24
  · obtain ⟨hP1, hD1⟩ := hB
    rw [ht] at hP1
    obtain ⟨hP, hD⟩ := va_join (wr := [(ao, aD 1 (cA 1) fo)]) (w1 := [(ax, .inr (1, [.ref ab, .ref aw, .int wl, .double la, .double ea, .int (wk + cWK st x1 x2), .int (fl + cFL (f_X1_lon st x1 x2 (LON oL oN oE oW k pw fa sa va x2)))])), (ab, aQ 4 (cA 3) qf), (bb, .inr (0, [.int st, .double oL, .double oN, .double oE, .double oW, .int (nI k), .ref bp, .ref bf, .ref bs, .ref bv])), (bp, aI 12 (cA 0) pw), (bf, aD 12 (cA 1) fa), (bs, aD 12 (cA 1) sa), (bv, aD 12 (cA 1) va)]) hP hD [0, 1, 2, 3, 4, 5, 6] [7] rfl rfl (by decide) (by decide) hk1 hFc hP1 hD1
    have hP := hP.sub (ws' := [(ax, .inr (1, [.ref ab, .ref aw, .int wl, .double la, .double ea, .int (wk + cWK st x1 x2), .int (fl + cFL (f_X1_lon st x1 x2 (LON oL oN oE oW k pw fa sa va x2)))])), (ab, aQ 4 (cA 3) qf), (bb, .inr (0, [.int st, .double oL, .double oN, .double oE, .double oW, .int (nI k), .ref bp, .ref bf, .ref bs, .ref bv])), (bp, aI 12 (cA 0) pw), (bf, aD 12 (cA 1) fa), (bs, aD 12 (cA 1) sa), (bv, aD 12 (cA 1) va), (ao, aD 1 (cA 1) fo)]) [1, 2, 3, 4, 5, 6, 7, 0] rfl
    have hD := hD.sub (ws' := [(ax, .inr (1, [.ref ab, .ref aw, .int wl, .double la, .double ea, .int (wk + cWK st x1 x2), .int (fl + cFL (f_X1_lon st x1 x2 (LON oL oN oE oW k pw fa sa va x2)))])), (ab, aQ 4 (cA 3) qf), (bb, .inr (0, [.int st, .double oL, .double oN, .double oE, .double oW, .int (nI k), .ref bp, .ref bf, .ref bs, .ref bv])), (bp, aI 12 (cA 0) pw), (bf, aD 12 (cA 1) fa), (bs, aD 12 (cA 1) sa), (bv, aD 12 (cA 1) va), (ao, aD 1 (cA 1) fo)]) [1, 2, 3, 4, 5, 6, 7, 0] (by decide) rfl
    refine va_dast hx hb hK hP hD hS 7 1 rfl rfl (show ¬ ((0 : Int32) < 0 ∨ 1 ≤ (0 : Int32).toNatClampNeg) by decide +kernel) dL_longitude_9 (fun H locs hP hD hS => ?_)
    have hP : va_P (dC, dI) vwCl [(ax, .inr (1, [.ref ab, .ref aw, .int wl, .double la, .double ea, .int (wk + cWK st x1 x2), .int (fl + cFL (f_X1_lon st x1 x2 (LON oL oN oE oW k pw fa sa va x2)))])), (ab, aQ 4 (cA 3) qf), (bb, .inr (0, [.int st, .double oL, .double oN, .double oE, .double oW, .int (nI k), .ref bp, .ref bf, .ref bs, .ref bv])), (bp, aI 12 (cA 0) pw), (bf, aD 12 (cA 1) fa), (bs, aD 12 (cA 1) sa), (bv, aD 12 (cA 1) va), (ao, aD 1 (cA 1) (vf_upd fo ((0 : Int32).toNatClampNeg) v_1))] H := hP
    have hD : va_D A [(ax, .inr (1, [.ref ab, .ref aw, .int wl, .double la, .double ea, .int (wk + cWK st x1 x2), .int (fl + cFL (f_X1_lon st x1 x2 (LON oL oN oE oW k pw fa sa va x2)))])), (ab, aQ 4 (cA 3) qf), (bb, .inr (0, [.int st, .double oL, .double oN, .double oE, .double oW, .int (nI k), .ref bp, .ref bf, .ref bs, .ref bv])), (bp, aI 12 (cA 0) pw), (bf, aD 12 (cA 1) fa), (bs, aD 12 (cA 1) sa), (bv, aD 12 (cA 1) va), (ao, aD 1 (cA 1) (vf_upd fo ((0 : Int32).toNatClampNeg) v_1))] := hD
    refine lv_goto (tgt := 25) hx hb dL_longitude_10 (by decide) ?_
    have hcd : cd3 (f_X1_lon st x1 x2 (LON oL oN oE oW k pw fa sa va x2)) = 0 := by rw [hp_2]; rfl
    have hP : va_P (dC, dI) vwCl [(ax, .inr (1, [.ref ab, .ref aw, .int wl, .double la, .double ea, .int (wk + cWK st x1 x2), .int (fl + cFL (f_X1_lon st x1 x2 (LON oL oN oE oW k pw fa sa va x2)))])), (ab, aQ 4 (cA 3) qf), (bb, .inr (0, [.int st, .double oL, .double oN, .double oE, .double oW, .int (nI k), .ref bp, .ref bf, .ref bs, .ref bv])), (bp, aI 12 (cA 0) pw), (bf, aD 12 (cA 1) fa), (bs, aD 12 (cA 1) sa), (bv, aD 12 (cA 1) va), (ao, aD 1 (cA 1) (oD (f_X1_lon st x1 x2 (LON oL oN oE oW k pw fa sa va x2)) fo))] H := by rw [oD_okC hp_2]; exact hP
    have hD : va_D A [(ax, .inr (1, [.ref ab, .ref aw, .int wl, .double la, .double ea, .int (wk + cWK st x1 x2), .int (fl + cFL (f_X1_lon st x1 x2 (LON oL oN oE oW k pw fa sa va x2)))])), (ab, aQ 4 (cA 3) qf), (bb, .inr (0, [.int st, .double oL, .double oN, .double oE, .double oW, .int (nI k), .ref bp, .ref bf, .ref bs, .ref bv])), (bp, aI 12 (cA 0) pw), (bf, aD 12 (cA 1) fa), (bs, aD 12 (cA 1) sa), (bv, aD 12 (cA 1) va), (ao, aD 1 (cA 1) (oD (f_X1_lon st x1 x2 (LON oL oN oE oW k pw fa sa va x2)) fo))] := by rw [oD_okC hp_2]; exact hD
    refine lv_iconst (v := 0) hx hb dL_longitude_25 (by decide) ?_
    exact W.iret hx hb hr (fun t ht hW => ⟨⟨_, (), rfl, hcd.symm, ⟨by rw [ht]; exact hP, hD⟩⟩, hS.F ht⟩) hS.2.2 dL_longitude_26

set_option maxHeartbeats 4000000 in
set_option maxRecDepth 100000 in
theorem k_L_height (l : Launch) (hst : l.stackTraces = false) (dC : Nat → ClassId) (dI : Nat → Nat → Nat) (cA : Nat → ClassId) (tm tt sz : Nat) (ax ab aw : Nat) (wl : Int32) (la ea : UInt64) (wk fl : Int32) (bb bp bf bs bv : Nat) (st : Int32) (oL oN oE oW : UInt64) (k : Nat) (pw : Nat → Int32) (fa sa va : Nat → UInt64) (qf : Nat → Option Nat) (ao : Nat) (fo : Nat → UInt64) (x1 : Int32) (x2 : UInt64) (hq : ¬ x1 < 0 → x1 < 4 → qf x1.toNatClampNeg = some bb) (hO : oOK oL oN oE oW) (hT : tOK k fa sa va) (hla : fR la (-96636764160) 96636764160) (hea : fR ea (-193273528320) 193273528320) (hF : fR x2 (-1208925819614629174706176) 1208925819614629174706176) : Met l yL_height wsL_height ({ frames := 10, cells := 2, slots := 12, locals := 202 }) (PcL dC dI cA tm tt sz [.ref ax, .int x1, .double x2, .ref ao] [(ax, .inr (1, [.ref ab, .ref aw, .int wl, .double la, .double ea, .int wk, .int fl])), (ab, aQ 4 (cA 3) qf), (bb, .inr (0, [.int st, .double oL, .double oN, .double oE, .double oW, .int (nI k), .ref bp, .ref bf, .ref bs, .ref bv])), (bp, aI 12 (cA 0) pw), (bf, aD 12 (cA 1) fa), (bs, aD 12 (cA 1) sa), (bv, aD 12 (cA 1) va), (ao, aD 1 (cA 1) fo)]) (va_Qi (fun r (_ : Unit) => r = cd3 (f_X1_lon st x1 x2 (HEI la ea oL oN oE oW k pw fa sa va x2))) (fun _ t => WB dC dI (va_A [(ax, .inr (1, [.ref ab, .ref aw, .int wl, .double la, .double ea, .int wk, .int fl])), (ab, aQ 4 (cA 3) qf), (bb, .inr (0, [.int st, .double oL, .double oN, .double oE, .double oW, .int (nI k), .ref bp, .ref bf, .ref bs, .ref bv])), (bp, aI 12 (cA 0) pw), (bf, aD 12 (cA 1) fa), (bs, aD 12 (cA 1) sa), (bv, aD 12 (cA 1) va), (ao, aD 1 (cA 1) fo)] sz) [(ax, .inr (1, [.ref ab, .ref aw, .int wl, .double la, .double ea, .int (wk + cWK st x1 x2), .int (fl + cFL (f_X1_lon st x1 x2 (HEI la ea oL oN oE oW k pw fa sa va x2)))])), (ab, aQ 4 (cA 3) qf), (bb, .inr (0, [.int st, .double oL, .double oN, .double oE, .double oW, .int (nI k), .ref bp, .ref bf, .ref bs, .ref bv])), (bp, aI 12 (cA 0) pw), (bf, aD 12 (cA 1) fa), (bs, aD 12 (cA 1) sa), (bv, aD 12 (cA 1) va), (ao, aD 1 (cA 1) (oD (f_X1_lon st x1 x2 (HEI la ea oL oN oE oW k pw fa sa va x2)) fo))] t) (va_A [(ax, .inr (1, [.ref ab, .ref aw, .int wl, .double la, .double ea, .int wk, .int fl])), (ab, aQ 4 (cA 3) qf), (bb, .inr (0, [.int st, .double oL, .double oN, .double oE, .double oW, .int (nI k), .ref bp, .ref bf, .ref bs, .ref bv])), (bp, aI 12 (cA 0) pw), (bf, aD 12 (cA 1) fa), (bs, aD 12 (cA 1) sa), (bv, aD 12 (cA 1) va), (ao, aD 1 (cA 1) fo)] sz)) 2 12 (va_A [(ax, .inr (1, [.ref ab, .ref aw, .int wl, .double la, .double ea, .int wk, .int fl])), (ab, aQ 4 (cA 3) qf), (bb, .inr (0, [.int st, .double oL, .double oN, .double oE, .double oW, .int (nI k), .ref bp, .ref bf, .ref bs, .ref bv])), (bp, aI 12 (cA 0) pw), (bf, aD 12 (cA 1) fa), (bs, aD 12 (cA 1) sa), (bv, aD 12 (cA 1) va), (ao, aD 1 (cA 1) fo)] sz) := by
  refine zm_ofWH (cc := cL_height) (maxL := 6) (ret := (some .int)) (by decide) rfl ?_
  intro p e s m args below meth c s₁ B hml htb hv
  obtain ⟨⟨rfl, hsz, hP, hK, hD0, hE⟩, hN⟩ := hv
  subst hsz
  have hD := hD0.self (sz := s.heap.size)
  generalize hAe : va_A [(ax, .inr (1, [.ref ab, .ref aw, .int wl, .double la, .double ea, .int wk, .int fl])), (ab, aQ 4 (cA 3) qf), (bb, .inr (0, [.int st, .double oL, .double oN, .double oE, .double oW, .int (nI k), .ref bp, .ref bf, .ref bs, .ref bv])), (bp, aI 12 (cA 0) pw), (bf, aD 12 (cA 1) fa), (bs, aD 12 (cA 1) sa), (bv, aD 12 (cA 1) va), (ao, aD 1 (cA 1) fo)] s.heap.size = A at hD hE ⊢
  have hA : ∀ q : Nat, s.heap.size ≤ q → A q := fun q h => by rw [← hAe]; exact Or.inr h
  have hS : va_S A s.heap s.heap [] := va_S.rf
  have hP : va_P (dC, dI) vwCl [(ax, .inr (1, [.ref ab, .ref aw, .int wl, .double la, .double ea, .int wk, .int fl])), (ab, aQ 4 (cA 3) qf), (bb, .inr (0, [.int st, .double oL, .double oN, .double oE, .double oW, .int (nI k), .ref bp, .ref bf, .ref bs, .ref bv])), (bp, aI 12 (cA 0) pw), (bf, aD 12 (cA 1) fa), (bs, aD 12 (cA 1) sa), (bv, aD 12 (cA 1) va), (ao, aD 1 (cA 1) fo)] s.heap := hP
  have hx := B.exec
  have hb := B.bytes
  have hr := B.returns
  have hts := atoms_spec (ws := wsL_height) B.pre
  have hown : s.vm.findClass RL = some m.cls := findClass_of_methodNamed B.named
  have hlocks := B.notSynchronized
  have hl := lv_entry ([.ref ax, .int x1, .double x2, .ref ao]) (n := 6) (Nat.le_of_ble_eq_true rfl)
  rw [lg_entry_eq]
  generalize (lg_sl ([.ref ax, .int x1, .double x2, .ref ao]) ++ List.replicate (6 - (lg_sl ([.ref ax, .int x1, .double x2, .ref ao])).length) Slot.unset).toArray = ls at hl ⊢
  have hl : lv_has ls 6 [(0, .ref ax), (1, .int x1), (2, .double x2), (4, .ref ao)] := hl
  refine lv_aload hx hb dL_height_0 (lv_at hl 3 rfl) ?_
  refine lv_iconst (v := 0) hx hb dL_height_2 (by decide) ?_
  refine lv_aload_n hx hb dL_height_3 rfl (lv_at hl 0 rfl) ?_
  refine lv_iload_n hx hb dL_height_4 rfl (lv_at hl 1 rfl) ?_
  refine lv_dload_n hx hb dL_height_5 rfl (lv_at hl 2 rfl) ?_
  have hPc := hP.sub (ws' := [(ax, .inr (1, [.ref ab, .ref aw, .int wl, .double la, .double ea, .int wk, .int fl])), (ab, aQ 4 (cA 3) qf), (bb, .inr (0, [.int st, .double oL, .double oN, .double oE, .double oW, .int (nI k), .ref bp, .ref bf, .ref bs, .ref bv])), (bp, aI 12 (cA 0) pw), (bf, aD 12 (cA 1) fa), (bs, aD 12 (cA 1) sa), (bv, aD 12 (cA 1) va)]) [0, 1, 2, 3, 4, 5, 6] rfl
  have hDc := hD.sub (ws' := [(ax, .inr (1, [.ref ab, .ref aw, .int wl, .double la, .double ea, .int wk, .int fl])), (ab, aQ 4 (cA 3) qf), (bb, .inr (0, [.int st, .double oL, .double oN, .double oE, .double oW, .int (nI k), .ref bp, .ref bf, .ref bs, .ref bv])), (bp, aI 12 (cA 0) pw), (bf, aD 12 (cA 1) fa), (bs, aD 12 (cA 1) sa), (bv, aD 12 (cA 1) va)]) [0, 1, 2, 3, 4, 5, 6] (by decide) rfl
  have hFc := va_free (wc := [(ax, .inr (1, [.ref ab, .ref aw, .int wl, .double la, .double ea, .int wk, .int fl])), (ab, aQ 4 (cA 3) qf), (bb, .inr (0, [.int st, .double oL, .double oN, .double oE, .double oW, .int (nI k), .ref bp, .ref bf, .ref bs, .ref bv])), (bp, aI 12 (cA 0) pw), (bf, aD 12 (cA 1) fa), (bs, aD 12 (cA 1) sa), (bv, aD 12 (cA 1) va)]) hD hS hA [0, 1, 2, 3, 4, 5, 6] rfl
  refine vx_calld (vx_runV (As := [.int x1, .double x2]) (rest := [.int 0, .ref ao]) ⟨hx, hb, hml, hown, hts⟩ (k_X1_height l hst dC dI cA tm tt _ ax ab aw wl la ea wk fl bb bp bf bs bv st oL oN oE oW k pw fa sa va qf x1 x2 hq hO hT hla hea hF) (cwV 2 hts gL_height_X1_height rfl rfl rfl (by decide +kernel) ⟨Nat.le_of_ble_eq_true rfl, Nat.le_of_ble_eq_true rfl⟩) ⟨PcW.blind, va_recv hK hPc (ci := 1) (q0 := 0) rfl rfl, PcW.give hPc hK hDc hE hS hFc⟩ rfl rfl hl.1 rfl (lv_room (Nat.le_of_ble_eq_true rfl)) dL_height_6 ⟨Nat.le_of_ble_eq_true rfl, Nat.le_of_ble_eq_true rfl⟩) hS (fun q _ h => hFc q h) hFc (fun q _ h => hFc q h) (fun E ce q9 u t H locs ht hvm hpx hBX hz1 hk1 hS hce hcv hcl => ?_) (fun v_1 u t H locs ht hvm hp_2 hB hz1 hk1 hS => ?_)
  · obtain ⟨hpx, hP1, hD1⟩ := hBX
    rw [ht] at hP1
    obtain ⟨hP, hD⟩ := va_join (wr := [(ao, aD 1 (cA 1) fo)]) (w1 := [(ax, .inr (1, [.ref ab, .ref aw, .int wl, .double la, .double ea, .int (wk + cWK st x1 x2), .int (fl + cFL (f_X1_lon st x1 x2 (HEI la ea oL oN oE oW k pw fa sa va x2)))])), (ab, aQ 4 (cA 3) qf), (bb, .inr (0, [.int st, .double oL, .double oN, .double oE, .double oW, .int (nI k), .ref bp, .ref bf, .ref bs, .ref bv])), (bp, aI 12 (cA 0) pw), (bf, aD 12 (cA 1) fa), (bs, aD 12 (cA 1) sa), (bv, aD 12 (cA 1) va)]) hP hD [0, 1, 2, 3, 4, 5, 6] [7] rfl rfl (by decide) (by decide) hk1 hFc hP1 hD1
    have hP := hP.sub (ws' := [(ax, .inr (1, [.ref ab, .ref aw, .int wl, .double la, .double ea, .int (wk + cWK st x1 x2), .int (fl + cFL (f_X1_lon st x1 x2 (HEI la ea oL oN oE oW k pw fa sa va x2)))])), (ab, aQ 4 (cA 3) qf), (bb, .inr (0, [.int st, .double oL, .double oN, .double oE, .double oW, .int (nI k), .ref bp, .ref bf, .ref bs, .ref bv])), (bp, aI 12 (cA 0) pw), (bf, aD 12 (cA 1) fa), (bs, aD 12 (cA 1) sa), (bv, aD 12 (cA 1) va), (ao, aD 1 (cA 1) fo)]) [1, 2, 3, 4, 5, 6, 7, 0] rfl
    have hD := hD.sub (ws' := [(ax, .inr (1, [.ref ab, .ref aw, .int wl, .double la, .double ea, .int (wk + cWK st x1 x2), .int (fl + cFL (f_X1_lon st x1 x2 (HEI la ea oL oN oE oW k pw fa sa va x2)))])), (ab, aQ 4 (cA 3) qf), (bb, .inr (0, [.int st, .double oL, .double oN, .double oE, .double oW, .int (nI k), .ref bp, .ref bf, .ref bs, .ref bv])), (bp, aI 12 (cA 0) pw), (bf, aD 12 (cA 1) fa), (bs, aD 12 (cA 1) sa), (bv, aD 12 (cA 1) va), (ao, aD 1 (cA 1) fo)]) [1, 2, 3, 4, 5, 6, 7, 0] (by decide) rfl
    rcases err_lon (fun e h => HEI_err h) hpx with rfl | rfl | rfl
    · refine vx_catch (own := RL) (name := xNS) hown [] ⟨0, 10, 13, 33⟩ [⟨0, 10, 17, 13⟩, ⟨0, 10, 21, 35⟩] (htb.trans rfl) (fun z hz => absurd hz List.not_mem_nil) (by decide) (by decide) (hts (.classLink RL 33 xNS) (by decide +kernel)) (va_Nw.use rfl (hE.1.2.2.2.1 xNS (by decide))) hce hcv hcl ?_
      have hcd : cd3 (f_X1_lon st x1 x2 (HEI la ea oL oN oE oW k pw fa sa va x2)) = 1 := by rw [hpx]; exact cd3_NS
      have hP : va_P (dC, dI) vwCl [(ax, .inr (1, [.ref ab, .ref aw, .int wl, .double la, .double ea, .int (wk + cWK st x1 x2), .int (fl + cFL (f_X1_lon st x1 x2 (HEI la ea oL oN oE oW k pw fa sa va x2)))])), (ab, aQ 4 (cA 3) qf), (bb, .inr (0, [.int st, .double oL, .double oN, .double oE, .double oW, .int (nI k), .ref bp, .ref bf, .ref bs, .ref bv])), (bp, aI 12 (cA 0) pw), (bf, aD 12 (cA 1) fa), (bs, aD 12 (cA 1) sa), (bv, aD 12 (cA 1) va), (ao, aD 1 (cA 1) (oD (f_X1_lon st x1 x2 (HEI la ea oL oN oE oW k pw fa sa va x2)) fo))] H := by rw [oD_er hpx]; exact hP
      have hD : va_D A [(ax, .inr (1, [.ref ab, .ref aw, .int wl, .double la, .double ea, .int (wk + cWK st x1 x2), .int (fl + cFL (f_X1_lon st x1 x2 (HEI la ea oL oN oE oW k pw fa sa va x2)))])), (ab, aQ 4 (cA 3) qf), (bb, .inr (0, [.int st, .double oL, .double oN, .double oE, .double oW, .int (nI k), .ref bp, .ref bf, .ref bs, .ref bv])), (bp, aI 12 (cA 0) pw), (bf, aD 12 (cA 1) fa), (bs, aD 12 (cA 1) sa), (bv, aD 12 (cA 1) va), (ao, aD 1 (cA 1) (oD (f_X1_lon st x1 x2 (HEI la ea oL oN oE oW k pw fa sa va x2)) fo))] := by rw [oD_er hpx]; exact hD
      refine lv_astore (lv' := [(5, .ref q9), (0, .ref ax), (1, .int x1), (2, .double x2), (4, .ref ao)]) hx hb dL_height_13 hl (by decide) rfl (fun ls hl => ?_)
      refine lv_iconst (v := 1) hx hb dL_height_15 (by decide) ?_
      exact W.iret hx hb hr (fun t ht hW => ⟨⟨_, (), rfl, hcd.symm, ⟨by rw [ht]; exact hP, hD⟩⟩, hS.F ht⟩) hS.2.2 dL_height_16
    · refine vx_catch (own := RL) (name := xIA) hown [⟨0, 10, 13, 33⟩] ⟨0, 10, 17, 13⟩ [⟨0, 10, 21, 35⟩] (htb.trans rfl) (fun z hz => by rw [List.mem_singleton] at hz; subst hz; exact Or.inr ⟨by decide, xNS, hts (.classLink RL 33 xNS) (by decide +kernel), hN.at (by decide)⟩) (by decide) (by decide) (hts (.classLink RL 13 xIA) (by decide +kernel)) (va_Nw.use rfl (hE.1.2.2.2.1 xIA (by decide))) hce hcv hcl ?_
      have hcd : cd3 (f_X1_lon st x1 x2 (HEI la ea oL oN oE oW k pw fa sa va x2)) = 2 := by rw [hpx]; exact cd3_IA
      have hP : va_P (dC, dI) vwCl [(ax, .inr (1, [.ref ab, .ref aw, .int wl, .double la, .double ea, .int (wk + cWK st x1 x2), .int (fl + cFL (f_X1_lon st x1 x2 (HEI la ea oL oN oE oW k pw fa sa va x2)))])), (ab, aQ 4 (cA 3) qf), (bb, .inr (0, [.int st, .double oL, .double oN, .double oE, .double oW, .int (nI k), .ref bp, .ref bf, .ref bs, .ref bv])), (bp, aI 12 (cA 0) pw), (bf, aD 12 (cA 1) fa), (bs, aD 12 (cA 1) sa), (bv, aD 12 (cA 1) va), (ao, aD 1 (cA 1) (oD (f_X1_lon st x1 x2 (HEI la ea oL oN oE oW k pw fa sa va x2)) fo))] H := by rw [oD_er hpx]; exact hP
      have hD : va_D A [(ax, .inr (1, [.ref ab, .ref aw, .int wl, .double la, .double ea, .int (wk + cWK st x1 x2), .int (fl + cFL (f_X1_lon st x1 x2 (HEI la ea oL oN oE oW k pw fa sa va x2)))])), (ab, aQ 4 (cA 3) qf), (bb, .inr (0, [.int st, .double oL, .double oN, .double oE, .double oW, .int (nI k), .ref bp, .ref bf, .ref bs, .ref bv])), (bp, aI 12 (cA 0) pw), (bf, aD 12 (cA 1) fa), (bs, aD 12 (cA 1) sa), (bv, aD 12 (cA 1) va), (ao, aD 1 (cA 1) (oD (f_X1_lon st x1 x2 (HEI la ea oL oN oE oW k pw fa sa va x2)) fo))] := by rw [oD_er hpx]; exact hD
      refine lv_astore (lv' := [(5, .ref q9), (0, .ref ax), (1, .int x1), (2, .double x2), (4, .ref ao)]) hx hb dL_height_17 hl (by decide) rfl (fun ls hl => ?_)
      refine lv_iconst (v := 2) hx hb dL_height_19 (by decide) ?_
      exact W.iret hx hb hr (fun t ht hW => ⟨⟨_, (), rfl, hcd.symm, ⟨by rw [ht]; exact hP, hD⟩⟩, hS.F ht⟩) hS.2.2 dL_height_20
    · refine vx_catch (own := RL) (name := xIS) hown [⟨0, 10, 13, 33⟩, ⟨0, 10, 17, 13⟩] ⟨0, 10, 21, 35⟩ [] (htb.trans rfl) (fun z hz => by
          rcases List.mem_cons.mp hz with h9 | h9
          · subst h9; exact Or.inr ⟨by decide, xNS, hts (.classLink RL 33 xNS) (by decide +kernel), hN.at (by decide)⟩
          · rw [List.mem_singleton] at h9; subst h9; exact Or.inr ⟨by decide, xIA, hts (.classLink RL 13 xIA) (by decide +kernel), hN.at (by decide)⟩) (by decide) (by decide) (hts (.classLink RL 35 xIS) (by decide +kernel)) (va_Nw.use rfl (hE.1.2.2.2.1 xIS (by decide))) hce hcv hcl ?_
      have hcd : cd3 (f_X1_lon st x1 x2 (HEI la ea oL oN oE oW k pw fa sa va x2)) = 3 := by rw [hpx]; exact cd3_IS
      have hP : va_P (dC, dI) vwCl [(ax, .inr (1, [.ref ab, .ref aw, .int wl, .double la, .double ea, .int (wk + cWK st x1 x2), .int (fl + cFL (f_X1_lon st x1 x2 (HEI la ea oL oN oE oW k pw fa sa va x2)))])), (ab, aQ 4 (cA 3) qf), (bb, .inr (0, [.int st, .double oL, .double oN, .double oE, .double oW, .int (nI k), .ref bp, .ref bf, .ref bs, .ref bv])), (bp, aI 12 (cA 0) pw), (bf, aD 12 (cA 1) fa), (bs, aD 12 (cA 1) sa), (bv, aD 12 (cA 1) va), (ao, aD 1 (cA 1) (oD (f_X1_lon st x1 x2 (HEI la ea oL oN oE oW k pw fa sa va x2)) fo))] H := by rw [oD_er hpx]; exact hP
      have hD : va_D A [(ax, .inr (1, [.ref ab, .ref aw, .int wl, .double la, .double ea, .int (wk + cWK st x1 x2), .int (fl + cFL (f_X1_lon st x1 x2 (HEI la ea oL oN oE oW k pw fa sa va x2)))])), (ab, aQ 4 (cA 3) qf), (bb, .inr (0, [.int st, .double oL, .double oN, .double oE, .double oW, .int (nI k), .ref bp, .ref bf, .ref bs, .ref bv])), (bp, aI 12 (cA 0) pw), (bf, aD 12 (cA 1) fa), (bs, aD 12 (cA 1) sa), (bv, aD 12 (cA 1) va), (ao, aD 1 (cA 1) (oD (f_X1_lon st x1 x2 (HEI la ea oL oN oE oW k pw fa sa va x2)) fo))] := by rw [oD_er hpx]; exact hD
      refine lv_astore (lv' := [(5, .ref q9), (0, .ref ax), (1, .int x1), (2, .double x2), (4, .ref ao)]) hx hb dL_height_21 hl (by decide) rfl (fun ls hl => ?_)
      refine lv_iconst (v := 3) hx hb dL_height_23 (by decide) ?_
      exact W.iret hx hb hr (fun t ht hW => ⟨⟨_, (), rfl, hcd.symm, ⟨by rw [ht]; exact hP, hD⟩⟩, hS.F ht⟩) hS.2.2 dL_height_24
  · obtain ⟨hP1, hD1⟩ := hB
    rw [ht] at hP1
    obtain ⟨hP, hD⟩ := va_join (wr := [(ao, aD 1 (cA 1) fo)]) (w1 := [(ax, .inr (1, [.ref ab, .ref aw, .int wl, .double la, .double ea, .int (wk + cWK st x1 x2), .int (fl + cFL (f_X1_lon st x1 x2 (HEI la ea oL oN oE oW k pw fa sa va x2)))])), (ab, aQ 4 (cA 3) qf), (bb, .inr (0, [.int st, .double oL, .double oN, .double oE, .double oW, .int (nI k), .ref bp, .ref bf, .ref bs, .ref bv])), (bp, aI 12 (cA 0) pw), (bf, aD 12 (cA 1) fa), (bs, aD 12 (cA 1) sa), (bv, aD 12 (cA 1) va)]) hP hD [0, 1, 2, 3, 4, 5, 6] [7] rfl rfl (by decide) (by decide) hk1 hFc hP1 hD1
    have hP := hP.sub (ws' := [(ax, .inr (1, [.ref ab, .ref aw, .int wl, .double la, .double ea, .int (wk + cWK st x1 x2), .int (fl + cFL (f_X1_lon st x1 x2 (HEI la ea oL oN oE oW k pw fa sa va x2)))])), (ab, aQ 4 (cA 3) qf), (bb, .inr (0, [.int st, .double oL, .double oN, .double oE, .double oW, .int (nI k), .ref bp, .ref bf, .ref bs, .ref bv])), (bp, aI 12 (cA 0) pw), (bf, aD 12 (cA 1) fa), (bs, aD 12 (cA 1) sa), (bv, aD 12 (cA 1) va), (ao, aD 1 (cA 1) fo)]) [1, 2, 3, 4, 5, 6, 7, 0] rfl
    have hD := hD.sub (ws' := [(ax, .inr (1, [.ref ab, .ref aw, .int wl, .double la, .double ea, .int (wk + cWK st x1 x2), .int (fl + cFL (f_X1_lon st x1 x2 (HEI la ea oL oN oE oW k pw fa sa va x2)))])), (ab, aQ 4 (cA 3) qf), (bb, .inr (0, [.int st, .double oL, .double oN, .double oE, .double oW, .int (nI k), .ref bp, .ref bf, .ref bs, .ref bv])), (bp, aI 12 (cA 0) pw), (bf, aD 12 (cA 1) fa), (bs, aD 12 (cA 1) sa), (bv, aD 12 (cA 1) va), (ao, aD 1 (cA 1) fo)]) [1, 2, 3, 4, 5, 6, 7, 0] (by decide) rfl
    refine va_dast hx hb hK hP hD hS 7 1 rfl rfl (show ¬ ((0 : Int32) < 0 ∨ 1 ≤ (0 : Int32).toNatClampNeg) by decide +kernel) dL_height_9 (fun H locs hP hD hS => ?_)
    have hP : va_P (dC, dI) vwCl [(ax, .inr (1, [.ref ab, .ref aw, .int wl, .double la, .double ea, .int (wk + cWK st x1 x2), .int (fl + cFL (f_X1_lon st x1 x2 (HEI la ea oL oN oE oW k pw fa sa va x2)))])), (ab, aQ 4 (cA 3) qf), (bb, .inr (0, [.int st, .double oL, .double oN, .double oE, .double oW, .int (nI k), .ref bp, .ref bf, .ref bs, .ref bv])), (bp, aI 12 (cA 0) pw), (bf, aD 12 (cA 1) fa), (bs, aD 12 (cA 1) sa), (bv, aD 12 (cA 1) va), (ao, aD 1 (cA 1) (vf_upd fo ((0 : Int32).toNatClampNeg) v_1))] H := hP
    have hD : va_D A [(ax, .inr (1, [.ref ab, .ref aw, .int wl, .double la, .double ea, .int (wk + cWK st x1 x2), .int (fl + cFL (f_X1_lon st x1 x2 (HEI la ea oL oN oE oW k pw fa sa va x2)))])), (ab, aQ 4 (cA 3) qf), (bb, .inr (0, [.int st, .double oL, .double oN, .double oE, .double oW, .int (nI k), .ref bp, .ref bf, .ref bs, .ref bv])), (bp, aI 12 (cA 0) pw), (bf, aD 12 (cA 1) fa), (bs, aD 12 (cA 1) sa), (bv, aD 12 (cA 1) va), (ao, aD 1 (cA 1) (vf_upd fo ((0 : Int32).toNatClampNeg) v_1))] := hD
    refine lv_goto (tgt := 25) hx hb dL_height_10 (by decide) ?_
    have hcd : cd3 (f_X1_lon st x1 x2 (HEI la ea oL oN oE oW k pw fa sa va x2)) = 0 := by rw [hp_2]; rfl
    have hP : va_P (dC, dI) vwCl [(ax, .inr (1, [.ref ab, .ref aw, .int wl, .double la, .double ea, .int (wk + cWK st x1 x2), .int (fl + cFL (f_X1_lon st x1 x2 (HEI la ea oL oN oE oW k pw fa sa va x2)))])), (ab, aQ 4 (cA 3) qf), (bb, .inr (0, [.int st, .double oL, .double oN, .double oE, .double oW, .int (nI k), .ref bp, .ref bf, .ref bs, .ref bv])), (bp, aI 12 (cA 0) pw), (bf, aD 12 (cA 1) fa), (bs, aD 12 (cA 1) sa), (bv, aD 12 (cA 1) va), (ao, aD 1 (cA 1) (oD (f_X1_lon st x1 x2 (HEI la ea oL oN oE oW k pw fa sa va x2)) fo))] H := by rw [oD_okC hp_2]; exact hP
    have hD : va_D A [(ax, .inr (1, [.ref ab, .ref aw, .int wl, .double la, .double ea, .int (wk + cWK st x1 x2), .int (fl + cFL (f_X1_lon st x1 x2 (HEI la ea oL oN oE oW k pw fa sa va x2)))])), (ab, aQ 4 (cA 3) qf), (bb, .inr (0, [.int st, .double oL, .double oN, .double oE, .double oW, .int (nI k), .ref bp, .ref bf, .ref bs, .ref bv])), (bp, aI 12 (cA 0) pw), (bf, aD 12 (cA 1) fa), (bs, aD 12 (cA 1) sa), (bv, aD 12 (cA 1) va), (ao, aD 1 (cA 1) (oD (f_X1_lon st x1 x2 (HEI la ea oL oN oE oW k pw fa sa va x2)) fo))] := by rw [oD_okC hp_2]; exact hD
    refine lv_iconst (v := 0) hx hb dL_height_25 (by decide) ?_
    exact W.iret hx hb hr (fun t ht hW => ⟨⟨_, (), rfl, hcd.symm, ⟨by rw [ht]; exact hP, hD⟩⟩, hS.F ht⟩) hS.2.2 dL_height_26

set_option maxHeartbeats 4000000 in
set_option maxRecDepth 100000 in
theorem k_L_event (l : Launch) (hst : l.stackTraces = false) (dC : Nat → ClassId) (dI : Nat → Nat → Nat) (cA : Nat → ClassId) (tm tt sz : Nat) (ax ab aw : Nat) (wl : Int32) (la ea : UInt64) (wk fl : Int32) (bb bp bf bs bv : Nat) (st : Int32) (oL oN oE oW : UInt64) (k : Nat) (pw : Nat → Int32) (fa sa va : Nat → UInt64) (qf : Nat → Option Nat) (ao : Nat) (fo : Nat → UInt64) (x1 : Int32) (x2 : Int32) (x3 : Int32) (hq : ¬ x1 < 0 → x1 < 4 → qf x1.toNatClampNeg = some bb) (hO : oOK oL oN oE oW) (hT : tOK k fa sa va) (hla : fR la (-96636764160) 96636764160) (hea : fR ea (-193273528320) 193273528320) : Met l yL_event wsL_event ({ frames := 11, cells := 66, slots := 396, locals := 240 }) (PcL dC dI cA tm tt sz [.ref ax, .int x1, .int x2, .int x3, .ref ao] [(ax, .inr (1, [.ref ab, .ref aw, .int wl, .double la, .double ea, .int wk, .int fl])), (ab, aQ 4 (cA 3) qf), (bb, .inr (0, [.int st, .double oL, .double oN, .double oE, .double oW, .int (nI k), .ref bp, .ref bf, .ref bs, .ref bv])), (bp, aI 12 (cA 0) pw), (bf, aD 12 (cA 1) fa), (bs, aD 12 (cA 1) sa), (bv, aD 12 (cA 1) va), (ao, aD 1 (cA 1) fo)]) (va_Qi (fun r (_ : Unit) => r = cdE ((f_X1_event (HEI la ea oL oN oE oW k pw fa sa va) st x1 x2 x3).2)) (fun _ t => WB dC dI (va_A [(ax, .inr (1, [.ref ab, .ref aw, .int wl, .double la, .double ea, .int wk, .int fl])), (ab, aQ 4 (cA 3) qf), (bb, .inr (0, [.int st, .double oL, .double oN, .double oE, .double oW, .int (nI k), .ref bp, .ref bf, .ref bs, .ref bv])), (bp, aI 12 (cA 0) pw), (bf, aD 12 (cA 1) fa), (bs, aD 12 (cA 1) sa), (bv, aD 12 (cA 1) va), (ao, aD 1 (cA 1) fo)] sz) [(ax, .inr (1, [.ref ab, .ref aw, .int wl, .double la, .double ea, .int (wk + nI (f_X1_event (HEI la ea oL oN oE oW k pw fa sa va) st x1 x2 x3).1), .int (fl + cFL (f_X1_event (HEI la ea oL oN oE oW k pw fa sa va) st x1 x2 x3).2)])), (ab, aQ 4 (cA 3) qf), (bb, .inr (0, [.int st, .double oL, .double oN, .double oE, .double oW, .int (nI k), .ref bp, .ref bf, .ref bs, .ref bv])), (bp, aI 12 (cA 0) pw), (bf, aD 12 (cA 1) fa), (bs, aD 12 (cA 1) sa), (bv, aD 12 (cA 1) va), (ao, aD 1 (cA 1) (oD ((f_X1_event (HEI la ea oL oN oE oW k pw fa sa va) st x1 x2 x3).2) fo))] t) (va_A [(ax, .inr (1, [.ref ab, .ref aw, .int wl, .double la, .double ea, .int wk, .int fl])), (ab, aQ 4 (cA 3) qf), (bb, .inr (0, [.int st, .double oL, .double oN, .double oE, .double oW, .int (nI k), .ref bp, .ref bf, .ref bs, .ref bv])), (bp, aI 12 (cA 0) pw), (bf, aD 12 (cA 1) fa), (bs, aD 12 (cA 1) sa), (bv, aD 12 (cA 1) va), (ao, aD 1 (cA 1) fo)] sz)) 66 396 (va_A [(ax, .inr (1, [.ref ab, .ref aw, .int wl, .double la, .double ea, .int wk, .int fl])), (ab, aQ 4 (cA 3) qf), (bb, .inr (0, [.int st, .double oL, .double oN, .double oE, .double oW, .int (nI k), .ref bp, .ref bf, .ref bs, .ref bv])), (bp, aI 12 (cA 0) pw), (bf, aD 12 (cA 1) fa), (bs, aD 12 (cA 1) sa), (bv, aD 12 (cA 1) va), (ao, aD 1 (cA 1) fo)] sz) := by
  refine zm_ofWH (cc := cL_event) (maxL := 6) (ret := (some .int)) (by decide) rfl ?_
  intro p e s m args below meth c s₁ B hml htb hv
  obtain ⟨⟨rfl, hsz, hP, hK, hD0, hE⟩, hN⟩ := hv
  subst hsz
  have hD := hD0.self (sz := s.heap.size)
  generalize hAe : va_A [(ax, .inr (1, [.ref ab, .ref aw, .int wl, .double la, .double ea, .int wk, .int fl])), (ab, aQ 4 (cA 3) qf), (bb, .inr (0, [.int st, .double oL, .double oN, .double oE, .double oW, .int (nI k), .ref bp, .ref bf, .ref bs, .ref bv])), (bp, aI 12 (cA 0) pw), (bf, aD 12 (cA 1) fa), (bs, aD 12 (cA 1) sa), (bv, aD 12 (cA 1) va), (ao, aD 1 (cA 1) fo)] s.heap.size = A at hD hE ⊢
  have hA : ∀ q : Nat, s.heap.size ≤ q → A q := fun q h => by rw [← hAe]; exact Or.inr h
  have hS : va_S A s.heap s.heap [] := va_S.rf
  have hP : va_P (dC, dI) vwCl [(ax, .inr (1, [.ref ab, .ref aw, .int wl, .double la, .double ea, .int wk, .int fl])), (ab, aQ 4 (cA 3) qf), (bb, .inr (0, [.int st, .double oL, .double oN, .double oE, .double oW, .int (nI k), .ref bp, .ref bf, .ref bs, .ref bv])), (bp, aI 12 (cA 0) pw), (bf, aD 12 (cA 1) fa), (bs, aD 12 (cA 1) sa), (bv, aD 12 (cA 1) va), (ao, aD 1 (cA 1) fo)] s.heap := hP
  have hx := B.exec
  have hb := B.bytes
  have hr := B.returns
  have hts := atoms_spec (ws := wsL_event) B.pre
  have hown : s.vm.findClass RL = some m.cls := findClass_of_methodNamed B.named
  have hlocks := B.notSynchronized
  have hl := lv_entry ([.ref ax, .int x1, .int x2, .int x3, .ref ao]) (n := 6) (Nat.le_of_ble_eq_true rfl)
  rw [lg_entry_eq]
  generalize (lg_sl ([.ref ax, .int x1, .int x2, .int x3, .ref ao]) ++ List.replicate (6 - (lg_sl ([.ref ax, .int x1, .int x2, .int x3, .ref ao])).length) Slot.unset).toArray = ls at hl ⊢
  have hl : lv_has ls 6 [(0, .ref ax), (1, .int x1), (2, .int x2), (3, .int x3), (4, .ref ao)] := hl
  refine lv_aload hx hb dL_event_0 (lv_at hl 4 rfl) ?_
  refine lv_iconst (v := 0) hx hb dL_event_2 (by decide) ?_
  refine lv_aload_n hx hb dL_event_3 rfl (lv_at hl 0 rfl) ?_
  refine lv_iload_n hx hb dL_event_4 rfl (lv_at hl 1 rfl) ?_
  refine lv_iload_n hx hb dL_event_5 rfl (lv_at hl 2 rfl) ?_
  refine lv_iload_n hx hb dL_event_6 rfl (lv_at hl 3 rfl) ?_
  have hPc := hP.sub (ws' := [(ax, .inr (1, [.ref ab, .ref aw, .int wl, .double la, .double ea, .int wk, .int fl])), (ab, aQ 4 (cA 3) qf), (bb, .inr (0, [.int st, .double oL, .double oN, .double oE, .double oW, .int (nI k), .ref bp, .ref bf, .ref bs, .ref bv])), (bp, aI 12 (cA 0) pw), (bf, aD 12 (cA 1) fa), (bs, aD 12 (cA 1) sa), (bv, aD 12 (cA 1) va)]) [0, 1, 2, 3, 4, 5, 6] rfl
  have hDc := hD.sub (ws' := [(ax, .inr (1, [.ref ab, .ref aw, .int wl, .double la, .double ea, .int wk, .int fl])), (ab, aQ 4 (cA 3) qf), (bb, .inr (0, [.int st, .double oL, .double oN, .double oE, .double oW, .int (nI k), .ref bp, .ref bf, .ref bs, .ref bv])), (bp, aI 12 (cA 0) pw), (bf, aD 12 (cA 1) fa), (bs, aD 12 (cA 1) sa), (bv, aD 12 (cA 1) va)]) [0, 1, 2, 3, 4, 5, 6] (by decide) rfl
  have hFc := va_free (wc := [(ax, .inr (1, [.ref ab, .ref aw, .int wl, .double la, .double ea, .int wk, .int fl])), (ab, aQ 4 (cA 3) qf), (bb, .inr (0, [.int st, .double oL, .double oN, .double oE, .double oW, .int (nI k), .ref bp, .ref bf, .ref bs, .ref bv])), (bp, aI 12 (cA 0) pw), (bf, aD 12 (cA 1) fa), (bs, aD 12 (cA 1) sa), (bv, aD 12 (cA 1) va)]) hD hS hA [0, 1, 2, 3, 4, 5, 6] rfl
  refine vx_calld (vx_runV (As := [.int x1, .int x2, .int x3]) (rest := [.int 0, .ref ao]) ⟨hx, hb, hml, hown, hts⟩ (k_X1_event l hst dC dI cA tm tt _ ax ab aw wl la ea wk fl bb bp bf bs bv st oL oN oE oW k pw fa sa va qf x1 x2 x3 hq hO hT hla hea) (cwV 3 hts gL_event_X1_event rfl rfl rfl (by decide +kernel) ⟨Nat.le_of_ble_eq_true rfl, Nat.le_of_ble_eq_true rfl⟩) ⟨PcW.blind, va_recv hK hPc (ci := 1) (q0 := 0) rfl rfl, PcW.give hPc hK hDc hE hS hFc⟩ rfl rfl hl.1 rfl (lv_room (Nat.le_of_ble_eq_true rfl)) dL_event_7 ⟨Nat.le_of_ble_eq_true rfl, Nat.le_of_ble_eq_true rfl⟩) hS (fun q _ h => hFc q h) hFc (fun q _ h => hFc q h) (fun E ce q9 u t H locs ht hvm hpx hBX hz1 hk1 hS hce hcv hcl => ?_) (fun v_1 u t H locs ht hvm hp_2 hB hz1 hk1 hS => ?_)
  · obtain ⟨hpx, hP1, hD1⟩ := hBX
    rw [ht] at hP1
    obtain ⟨hP, hD⟩ := va_join (wr := [(ao, aD 1 (cA 1) fo)]) (w1 := [(ax, .inr (1, [.ref ab, .ref aw, .int wl, .double la, .double ea, .int (wk + nI (f_X1_event (HEI la ea oL oN oE oW k pw fa sa va) st x1 x2 x3).1), .int (fl + cFL (f_X1_event (HEI la ea oL oN oE oW k pw fa sa va) st x1 x2 x3).2)])), (ab, aQ 4 (cA 3) qf), (bb, .inr (0, [.int st, .double oL, .double oN, .double oE, .double oW, .int (nI k), .ref bp, .ref bf, .ref bs, .ref bv])), (bp, aI 12 (cA 0) pw), (bf, aD 12 (cA 1) fa), (bs, aD 12 (cA 1) sa), (bv, aD 12 (cA 1) va)]) hP hD [0, 1, 2, 3, 4, 5, 6] [7] rfl rfl (by decide) (by decide) hk1 hFc hP1 hD1
    have hP := hP.sub (ws' := [(ax, .inr (1, [.ref ab, .ref aw, .int wl, .double la, .double ea, .int (wk + nI (f_X1_event (HEI la ea oL oN oE oW k pw fa sa va) st x1 x2 x3).1), .int (fl + cFL (f_X1_event (HEI la ea oL oN oE oW k pw fa sa va) st x1 x2 x3).2)])), (ab, aQ 4 (cA 3) qf), (bb, .inr (0, [.int st, .double oL, .double oN, .double oE, .double oW, .int (nI k), .ref bp, .ref bf, .ref bs, .ref bv])), (bp, aI 12 (cA 0) pw), (bf, aD 12 (cA 1) fa), (bs, aD 12 (cA 1) sa), (bv, aD 12 (cA 1) va), (ao, aD 1 (cA 1) fo)]) [1, 2, 3, 4, 5, 6, 7, 0] rfl
    have hD := hD.sub (ws' := [(ax, .inr (1, [.ref ab, .ref aw, .int wl, .double la, .double ea, .int (wk + nI (f_X1_event (HEI la ea oL oN oE oW k pw fa sa va) st x1 x2 x3).1), .int (fl + cFL (f_X1_event (HEI la ea oL oN oE oW k pw fa sa va) st x1 x2 x3).2)])), (ab, aQ 4 (cA 3) qf), (bb, .inr (0, [.int st, .double oL, .double oN, .double oE, .double oW, .int (nI k), .ref bp, .ref bf, .ref bs, .ref bv])), (bp, aI 12 (cA 0) pw), (bf, aD 12 (cA 1) fa), (bs, aD 12 (cA 1) sa), (bv, aD 12 (cA 1) va), (ao, aD 1 (cA 1) fo)]) [1, 2, 3, 4, 5, 6, 7, 0] (by decide) rfl
    rcases err_event (fun t e h => HEI_err h) hpx with rfl | rfl | rfl
    · refine vx_catch (own := RL) (name := xIA) hown [] ⟨0, 11, 14, 13⟩ [⟨0, 11, 18, 33⟩, ⟨0, 11, 22, 35⟩] (htb.trans rfl) (fun z hz => absurd hz List.not_mem_nil) (by decide) (by decide) (hts (.classLink RL 13 xIA) (by decide +kernel)) (va_Nw.use rfl (hE.1.2.2.2.1 xIA (by decide))) hce hcv hcl ?_
      have hcd : cdE ((f_X1_event (HEI la ea oL oN oE oW k pw fa sa va) st x1 x2 x3).2) = 1 := by rw [hpx]; exact cdE_IA
      have hP : va_P (dC, dI) vwCl [(ax, .inr (1, [.ref ab, .ref aw, .int wl, .double la, .double ea, .int (wk + nI (f_X1_event (HEI la ea oL oN oE oW k pw fa sa va) st x1 x2 x3).1), .int (fl + cFL (f_X1_event (HEI la ea oL oN oE oW k pw fa sa va) st x1 x2 x3).2)])), (ab, aQ 4 (cA 3) qf), (bb, .inr (0, [.int st, .double oL, .double oN, .double oE, .double oW, .int (nI k), .ref bp, .ref bf, .ref bs, .ref bv])), (bp, aI 12 (cA 0) pw), (bf, aD 12 (cA 1) fa), (bs, aD 12 (cA 1) sa), (bv, aD 12 (cA 1) va), (ao, aD 1 (cA 1) (oD ((f_X1_event (HEI la ea oL oN oE oW k pw fa sa va) st x1 x2 x3).2) fo))] H := by rw [oD_er hpx]; exact hP
      have hD : va_D A [(ax, .inr (1, [.ref ab, .ref aw, .int wl, .double la, .double ea, .int (wk + nI (f_X1_event (HEI la ea oL oN oE oW k pw fa sa va) st x1 x2 x3).1), .int (fl + cFL (f_X1_event (HEI la ea oL oN oE oW k pw fa sa va) st x1 x2 x3).2)])), (ab, aQ 4 (cA 3) qf), (bb, .inr (0, [.int st, .double oL, .double oN, .double oE, .double oW, .int (nI k), .ref bp, .ref bf, .ref bs, .ref bv])), (bp, aI 12 (cA 0) pw), (bf, aD 12 (cA 1) fa), (bs, aD 12 (cA 1) sa), (bv, aD 12 (cA 1) va), (ao, aD 1 (cA 1) (oD ((f_X1_event (HEI la ea oL oN oE oW k pw fa sa va) st x1 x2 x3).2) fo))] := by rw [oD_er hpx]; exact hD
      refine lv_astore (lv' := [(5, .ref q9), (0, .ref ax), (1, .int x1), (2, .int x2), (3, .int x3), (4, .ref ao)]) hx hb dL_event_14 hl (by decide) rfl (fun ls hl => ?_)
      refine lv_iconst (v := 1) hx hb dL_event_16 (by decide) ?_
      exact W.iret hx hb hr (fun t ht hW => ⟨⟨_, (), rfl, hcd.symm, ⟨by rw [ht]; exact hP, hD⟩⟩, hS.F ht⟩) hS.2.2 dL_event_17
    · refine vx_catch (own := RL) (name := xNS) hown [⟨0, 11, 14, 13⟩] ⟨0, 11, 18, 33⟩ [⟨0, 11, 22, 35⟩] (htb.trans rfl) (fun z hz => by rw [List.mem_singleton] at hz; subst hz; exact Or.inr ⟨by decide, xIA, hts (.classLink RL 13 xIA) (by decide +kernel), hN.at (by decide)⟩) (by decide) (by decide) (hts (.classLink RL 33 xNS) (by decide +kernel)) (va_Nw.use rfl (hE.1.2.2.2.1 xNS (by decide))) hce hcv hcl ?_
      have hcd : cdE ((f_X1_event (HEI la ea oL oN oE oW k pw fa sa va) st x1 x2 x3).2) = 2 := by rw [hpx]; exact cdE_NS
      have hP : va_P (dC, dI) vwCl [(ax, .inr (1, [.ref ab, .ref aw, .int wl, .double la, .double ea, .int (wk + nI (f_X1_event (HEI la ea oL oN oE oW k pw fa sa va) st x1 x2 x3).1), .int (fl + cFL (f_X1_event (HEI la ea oL oN oE oW k pw fa sa va) st x1 x2 x3).2)])), (ab, aQ 4 (cA 3) qf), (bb, .inr (0, [.int st, .double oL, .double oN, .double oE, .double oW, .int (nI k), .ref bp, .ref bf, .ref bs, .ref bv])), (bp, aI 12 (cA 0) pw), (bf, aD 12 (cA 1) fa), (bs, aD 12 (cA 1) sa), (bv, aD 12 (cA 1) va), (ao, aD 1 (cA 1) (oD ((f_X1_event (HEI la ea oL oN oE oW k pw fa sa va) st x1 x2 x3).2) fo))] H := by rw [oD_er hpx]; exact hP
      have hD : va_D A [(ax, .inr (1, [.ref ab, .ref aw, .int wl, .double la, .double ea, .int (wk + nI (f_X1_event (HEI la ea oL oN oE oW k pw fa sa va) st x1 x2 x3).1), .int (fl + cFL (f_X1_event (HEI la ea oL oN oE oW k pw fa sa va) st x1 x2 x3).2)])), (ab, aQ 4 (cA 3) qf), (bb, .inr (0, [.int st, .double oL, .double oN, .double oE, .double oW, .int (nI k), .ref bp, .ref bf, .ref bs, .ref bv])), (bp, aI 12 (cA 0) pw), (bf, aD 12 (cA 1) fa), (bs, aD 12 (cA 1) sa), (bv, aD 12 (cA 1) va), (ao, aD 1 (cA 1) (oD ((f_X1_event (HEI la ea oL oN oE oW k pw fa sa va) st x1 x2 x3).2) fo))] := by rw [oD_er hpx]; exact hD
      refine lv_astore (lv' := [(5, .ref q9), (0, .ref ax), (1, .int x1), (2, .int x2), (3, .int x3), (4, .ref ao)]) hx hb dL_event_18 hl (by decide) rfl (fun ls hl => ?_)
      refine lv_iconst (v := 2) hx hb dL_event_20 (by decide) ?_
      exact W.iret hx hb hr (fun t ht hW => ⟨⟨_, (), rfl, hcd.symm, ⟨by rw [ht]; exact hP, hD⟩⟩, hS.F ht⟩) hS.2.2 dL_event_21
    · refine vx_catch (own := RL) (name := xIS) hown [⟨0, 11, 14, 13⟩, ⟨0, 11, 18, 33⟩] ⟨0, 11, 22, 35⟩ [] (htb.trans rfl) (fun z hz => by
          rcases List.mem_cons.mp hz with h9 | h9
          · subst h9; exact Or.inr ⟨by decide, xIA, hts (.classLink RL 13 xIA) (by decide +kernel), hN.at (by decide)⟩
          · rw [List.mem_singleton] at h9; subst h9; exact Or.inr ⟨by decide, xNS, hts (.classLink RL 33 xNS) (by decide +kernel), hN.at (by decide)⟩) (by decide) (by decide) (hts (.classLink RL 35 xIS) (by decide +kernel)) (va_Nw.use rfl (hE.1.2.2.2.1 xIS (by decide))) hce hcv hcl ?_
      have hcd : cdE ((f_X1_event (HEI la ea oL oN oE oW k pw fa sa va) st x1 x2 x3).2) = 3 := by rw [hpx]; exact cdE_IS
      have hP : va_P (dC, dI) vwCl [(ax, .inr (1, [.ref ab, .ref aw, .int wl, .double la, .double ea, .int (wk + nI (f_X1_event (HEI la ea oL oN oE oW k pw fa sa va) st x1 x2 x3).1), .int (fl + cFL (f_X1_event (HEI la ea oL oN oE oW k pw fa sa va) st x1 x2 x3).2)])), (ab, aQ 4 (cA 3) qf), (bb, .inr (0, [.int st, .double oL, .double oN, .double oE, .double oW, .int (nI k), .ref bp, .ref bf, .ref bs, .ref bv])), (bp, aI 12 (cA 0) pw), (bf, aD 12 (cA 1) fa), (bs, aD 12 (cA 1) sa), (bv, aD 12 (cA 1) va), (ao, aD 1 (cA 1) (oD ((f_X1_event (HEI la ea oL oN oE oW k pw fa sa va) st x1 x2 x3).2) fo))] H := by rw [oD_er hpx]; exact hP
      have hD : va_D A [(ax, .inr (1, [.ref ab, .ref aw, .int wl, .double la, .double ea, .int (wk + nI (f_X1_event (HEI la ea oL oN oE oW k pw fa sa va) st x1 x2 x3).1), .int (fl + cFL (f_X1_event (HEI la ea oL oN oE oW k pw fa sa va) st x1 x2 x3).2)])), (ab, aQ 4 (cA 3) qf), (bb, .inr (0, [.int st, .double oL, .double oN, .double oE, .double oW, .int (nI k), .ref bp, .ref bf, .ref bs, .ref bv])), (bp, aI 12 (cA 0) pw), (bf, aD 12 (cA 1) fa), (bs, aD 12 (cA 1) sa), (bv, aD 12 (cA 1) va), (ao, aD 1 (cA 1) (oD ((f_X1_event (HEI la ea oL oN oE oW k pw fa sa va) st x1 x2 x3).2) fo))] := by rw [oD_er hpx]; exact hD
      refine lv_astore (lv' := [(5, .ref q9), (0, .ref ax), (1, .int x1), (2, .int x2), (3, .int x3), (4, .ref ao)]) hx hb dL_event_22 hl (by decide) rfl (fun ls hl => ?_)
      refine lv_iconst (v := 3) hx hb dL_event_24 (by decide) ?_
      exact W.iret hx hb hr (fun t ht hW => ⟨⟨_, (), rfl, hcd.symm, ⟨by rw [ht]; exact hP, hD⟩⟩, hS.F ht⟩) hS.2.2 dL_event_25
  · obtain ⟨hP1, hD1⟩ := hB
    rw [ht] at hP1
    obtain ⟨hP, hD⟩ := va_join (wr := [(ao, aD 1 (cA 1) fo)]) (w1 := [(ax, .inr (1, [.ref ab, .ref aw, .int wl, .double la, .double ea, .int (wk + nI (f_X1_event (HEI la ea oL oN oE oW k pw fa sa va) st x1 x2 x3).1), .int (fl + cFL (f_X1_event (HEI la ea oL oN oE oW k pw fa sa va) st x1 x2 x3).2)])), (ab, aQ 4 (cA 3) qf), (bb, .inr (0, [.int st, .double oL, .double oN, .double oE, .double oW, .int (nI k), .ref bp, .ref bf, .ref bs, .ref bv])), (bp, aI 12 (cA 0) pw), (bf, aD 12 (cA 1) fa), (bs, aD 12 (cA 1) sa), (bv, aD 12 (cA 1) va)]) hP hD [0, 1, 2, 3, 4, 5, 6] [7] rfl rfl (by decide) (by decide) hk1 hFc hP1 hD1
    have hP := hP.sub (ws' := [(ax, .inr (1, [.ref ab, .ref aw, .int wl, .double la, .double ea, .int (wk + nI (f_X1_event (HEI la ea oL oN oE oW k pw fa sa va) st x1 x2 x3).1), .int (fl + cFL (f_X1_event (HEI la ea oL oN oE oW k pw fa sa va) st x1 x2 x3).2)])), (ab, aQ 4 (cA 3) qf), (bb, .inr (0, [.int st, .double oL, .double oN, .double oE, .double oW, .int (nI k), .ref bp, .ref bf, .ref bs, .ref bv])), (bp, aI 12 (cA 0) pw), (bf, aD 12 (cA 1) fa), (bs, aD 12 (cA 1) sa), (bv, aD 12 (cA 1) va), (ao, aD 1 (cA 1) fo)]) [1, 2, 3, 4, 5, 6, 7, 0] rfl
    have hD := hD.sub (ws' := [(ax, .inr (1, [.ref ab, .ref aw, .int wl, .double la, .double ea, .int (wk + nI (f_X1_event (HEI la ea oL oN oE oW k pw fa sa va) st x1 x2 x3).1), .int (fl + cFL (f_X1_event (HEI la ea oL oN oE oW k pw fa sa va) st x1 x2 x3).2)])), (ab, aQ 4 (cA 3) qf), (bb, .inr (0, [.int st, .double oL, .double oN, .double oE, .double oW, .int (nI k), .ref bp, .ref bf, .ref bs, .ref bv])), (bp, aI 12 (cA 0) pw), (bf, aD 12 (cA 1) fa), (bs, aD 12 (cA 1) sa), (bv, aD 12 (cA 1) va), (ao, aD 1 (cA 1) fo)]) [1, 2, 3, 4, 5, 6, 7, 0] (by decide) rfl
    refine va_dast hx hb hK hP hD hS 7 1 rfl rfl (show ¬ ((0 : Int32) < 0 ∨ 1 ≤ (0 : Int32).toNatClampNeg) by decide +kernel) dL_event_10 (fun H locs hP hD hS => ?_)
    have hP : va_P (dC, dI) vwCl [(ax, .inr (1, [.ref ab, .ref aw, .int wl, .double la, .double ea, .int (wk + nI (f_X1_event (HEI la ea oL oN oE oW k pw fa sa va) st x1 x2 x3).1), .int (fl + cFL (f_X1_event (HEI la ea oL oN oE oW k pw fa sa va) st x1 x2 x3).2)])), (ab, aQ 4 (cA 3) qf), (bb, .inr (0, [.int st, .double oL, .double oN, .double oE, .double oW, .int (nI k), .ref bp, .ref bf, .ref bs, .ref bv])), (bp, aI 12 (cA 0) pw), (bf, aD 12 (cA 1) fa), (bs, aD 12 (cA 1) sa), (bv, aD 12 (cA 1) va), (ao, aD 1 (cA 1) (vf_upd fo ((0 : Int32).toNatClampNeg) v_1))] H := hP
    have hD : va_D A [(ax, .inr (1, [.ref ab, .ref aw, .int wl, .double la, .double ea, .int (wk + nI (f_X1_event (HEI la ea oL oN oE oW k pw fa sa va) st x1 x2 x3).1), .int (fl + cFL (f_X1_event (HEI la ea oL oN oE oW k pw fa sa va) st x1 x2 x3).2)])), (ab, aQ 4 (cA 3) qf), (bb, .inr (0, [.int st, .double oL, .double oN, .double oE, .double oW, .int (nI k), .ref bp, .ref bf, .ref bs, .ref bv])), (bp, aI 12 (cA 0) pw), (bf, aD 12 (cA 1) fa), (bs, aD 12 (cA 1) sa), (bv, aD 12 (cA 1) va), (ao, aD 1 (cA 1) (vf_upd fo ((0 : Int32).toNatClampNeg) v_1))] := hD
    refine lv_goto (tgt := 26) hx hb dL_event_11 (by decide) ?_
    have hcd : cdE ((f_X1_event (HEI la ea oL oN oE oW k pw fa sa va) st x1 x2 x3).2) = 0 := by rw [hp_2]; rfl
    have hP : va_P (dC, dI) vwCl [(ax, .inr (1, [.ref ab, .ref aw, .int wl, .double la, .double ea, .int (wk + nI (f_X1_event (HEI la ea oL oN oE oW k pw fa sa va) st x1 x2 x3).1), .int (fl + cFL (f_X1_event (HEI la ea oL oN oE oW k pw fa sa va) st x1 x2 x3).2)])), (ab, aQ 4 (cA 3) qf), (bb, .inr (0, [.int st, .double oL, .double oN, .double oE, .double oW, .int (nI k), .ref bp, .ref bf, .ref bs, .ref bv])), (bp, aI 12 (cA 0) pw), (bf, aD 12 (cA 1) fa), (bs, aD 12 (cA 1) sa), (bv, aD 12 (cA 1) va), (ao, aD 1 (cA 1) (oD ((f_X1_event (HEI la ea oL oN oE oW k pw fa sa va) st x1 x2 x3).2) fo))] H := by rw [oD_okC hp_2]; exact hP
    have hD : va_D A [(ax, .inr (1, [.ref ab, .ref aw, .int wl, .double la, .double ea, .int (wk + nI (f_X1_event (HEI la ea oL oN oE oW k pw fa sa va) st x1 x2 x3).1), .int (fl + cFL (f_X1_event (HEI la ea oL oN oE oW k pw fa sa va) st x1 x2 x3).2)])), (ab, aQ 4 (cA 3) qf), (bb, .inr (0, [.int st, .double oL, .double oN, .double oE, .double oW, .int (nI k), .ref bp, .ref bf, .ref bs, .ref bv])), (bp, aI 12 (cA 0) pw), (bf, aD 12 (cA 1) fa), (bs, aD 12 (cA 1) sa), (bv, aD 12 (cA 1) va), (ao, aD 1 (cA 1) (oD ((f_X1_event (HEI la ea oL oN oE oW k pw fa sa va) st x1 x2 x3).2) fo))] := by rw [oD_okC hp_2]; exact hD
    refine lv_iconst (v := 0) hx hb dL_event_26 (by decide) ?_
    exact W.iret hx hb hr (fun t ht hW => ⟨⟨_, (), rfl, hcd.symm, ⟨by rw [ht]; exact hP, hD⟩⟩, hS.F ht⟩) hS.2.2 dL_event_27

end
