theorem W.gen {p : Program} {l : Launch} {e : Env} {R : Room} {s : State} {m : MethodId} {args : Array Value} {below : List Frame} {meth : Method} {c : Code} {H : Heap} {locs : List Loc} {cells slots : Nat} {Q : State → Prop} {g : JFrame} (h : ∀ Q' : State → Prop, Q' = Q → W p l e R s m args below meth c H locs cells slots Q' g) : W p l e R s m args below meth c H locs cells slots Q g := h Q rfl
set_option maxHeartbeats 4000000 in
set_option maxRecDepth 100000 in
theorem k_X1_count (l : Launch) (dC : Nat → ClassId) (dI : Nat → Nat → Nat) (cA : Nat → ClassId) (tm tt : Nat) (ax ab aw : Nat) (wl : Int32) (la ea : UInt64) (wk fl : Int32) (x1 : Int32)  : Met l yX1_count wsX1_count ({ frames := 0, cells := 0, slots := 0, locals := 0 }) (PcO dC dI cA tm tt [.ref ax, .int x1] [(ax, .inr (1, [.ref ab, .ref aw, .int wl, .double la, .double ea, .int wk, .int fl]))]) (vp_Si (fun r => r = if x1 = 0 then wk else fl)) 0 0 (fun _ => False) := by
  refine Met.ofW (cc := cX1_count) (maxL := 2) (ret := (some .int)) (by decide) rfl ?_
  intro p e s m args below meth c s₁ B hml hv
  obtain ⟨rfl, hP, hK, hE⟩ := hv
  have hS : va_S (fun _ => False) s.heap s.heap [] := va_S.rf
  have hx := B.exec
  have hb := B.bytes
  have hr := B.returns
  have hts := atoms_spec (ws := wsX1_count) B.pre
  have hown : s.vm.findClass RX1 = some m.cls := findClass_of_methodNamed B.named
  have hlocks := B.notSynchronized
  have hl := lv_entry ([.ref ax, .int x1]) (n := 2) (Nat.le_of_ble_eq_true rfl)
  rw [lg_entry_eq]
  generalize (lg_sl ([.ref ax, .int x1]) ++ List.replicate (2 - (lg_sl ([.ref ax, .int x1])).length) Slot.unset).toArray = ls at hl ⊢
  have hl : lv_has ls 2 [(0, .ref ax), (1, .int x1)] := hl
  have hin1 : ∀ w ∈ u_ws RX1 TX1 7, w ∈ wsX1_count := by decide +kernel
  refine lv_iload_n hx hb dX1_count_0 rfl (lv_at hl 1 rfl) ?_
  refine lv_if_eq (tgt := 11) hx hb dX1_count_1 (by decide) (fun c_1 => ?_) (fun c_1 => ?_)
  · refine lv_aload_n hx hb dX1_count_11 rfl (lv_at hl 0 rfl) ?_
    refine va_get (D := (dC, dI)) (ci := 1) (v := .int wk) (C := RX1) (T := TX1) (N := 7) hx hb hts hin1 hown hK hP 0 rfl rfl 5 (by decide) (hts (.fieldLink RX1 31 "SkyAlmanac" "longitudesWorkedOut" "I") (by decide +kernel)) (fun _ h9 => h9) rfl dX1_count_12 ?_
    exact W.iret hx hb hr (fun t ht _ => ⟨_, rfl, (by rw [if_pos c_1]), ht⟩) (fun _ h => nomatch h) dX1_count_15
  · refine lv_aload_n hx hb dX1_count_4 rfl (lv_at hl 0 rfl) ?_
    refine va_get (D := (dC, dI)) (ci := 1) (v := .int fl) (C := RX1) (T := TX1) (N := 7) hx hb hts hin1 hown hK hP 0 rfl rfl 6 (by decide) (hts (.fieldLink RX1 34 "SkyAlmanac" "longitudesFailed" "I") (by decide +kernel)) (fun _ h9 => h9) rfl dX1_count_5 ?_
    refine lv_goto (tgt := 15) hx hb dX1_count_8 (by decide) ?_
    exact W.iret hx hb hr (fun t ht _ => ⟨_, rfl, (by rw [if_neg c_1]), ht⟩) (fun _ h => nomatch h) dX1_count_15

def f_X1_observer (la ea x1 x2 : UInt64) : Except String Int32 := if f_X1_isWithin x1 13859405640767635456 4636033603912859648 = 0 then .error xIA else if f_X1_isWithin x2 13863909240395005952 4640537203540230144 = 0 then .error xIA else if deq x1 la then (if deq x2 ea then .ok 0 else .ok 1) else .ok 1
set_option maxHeartbeats 4000000 in
set_option maxRecDepth 100000 in
theorem k_X1_observer (l : Launch) (hst : l.stackTraces = false) (dC : Nat → ClassId) (dI : Nat → Nat → Nat) (cA : Nat → ClassId) (tm tt sz : Nat) (ax ab aw : Nat) (wl : Int32) (la ea : UInt64) (wk fl : Int32) (x1 : UInt64) (x2 : UInt64)  : vx_Met l yX1_observer wsX1_observer ({ frames := 6, cells := 1, slots := 6, locals := 82 }) (PcW dC dI cA tm tt sz [.ref ax, .double x1, .double x2] [(ax, .inr (1, [.ref ab, .ref aw, .int wl, .double la, .double ea, .int wk, .int fl]))]) (va_Qi (fun r (_ : Unit) => f_X1_observer la ea x1 x2 = .ok r) (fun _ t => WB dC dI (va_A [(ax, .inr (1, [.ref ab, .ref aw, .int wl, .double la, .double ea, .int wk, .int fl]))] sz) [(ax, .inr (1, [.ref ab, .ref aw, .int wl, .double x1, .double x2, .int wk, .int fl]))] t) (va_A [(ax, .inr (1, [.ref ab, .ref aw, .int wl, .double la, .double ea, .int wk, .int fl]))] sz)) (vx_X (fun (_ : Unit) => True) (fun E _ t => f_X1_observer la ea x1 x2 = .error E ∧ WB dC dI (va_A [(ax, .inr (1, [.ref ab, .ref aw, .int wl, .double la, .double ea, .int wk, .int fl]))] sz) [(ax, .inr (1, [.ref ab, .ref aw, .int wl, .double la, .double ea, .int wk, .int fl]))] t) (va_A [(ax, .inr (1, [.ref ab, .ref aw, .int wl, .double la, .double ea, .int wk, .int fl]))] sz)) 1 6 (va_A [(ax, .inr (1, [.ref ab, .ref aw, .int wl, .double la, .double ea, .int wk, .int fl]))] sz) := by
  refine vx_ofW (cc := cX1_observer) (maxL := 6) (ret := (some .boolean)) (by decide) rfl ?_
  intro p e s m args below meth c s₁ B hml hnt hv
  obtain ⟨rfl, hsz, hP, hK, hD0, hE⟩ := hv
  subst hsz
  have hD := hD0.self (sz := s.heap.size)
  generalize hAe : va_A [(ax, .inr (1, [.ref ab, .ref aw, .int wl, .double la, .double ea, .int wk, .int fl]))] s.heap.size = A at hD hE ⊢
  have hA : ∀ q : Nat, s.heap.size ≤ q → A q := fun q h => by rw [← hAe]; exact Or.inr h
  have hS : va_S A s.heap s.heap [] := va_S.rf
  have hP : va_P (dC, dI) vwCl [(ax, .inr (1, [.ref ab, .ref aw, .int wl, .double la, .double ea, .int wk, .int fl]))] s.heap := hP
  have hx := B.exec
  have hb := B.bytes
  have hr := B.returns
  have hts := atoms_spec (ws := wsX1_observer) B.pre
  have hown : s.vm.findClass RX1 = some m.cls := findClass_of_methodNamed B.named
  have hlocks := B.notSynchronized
  have hl := lv_entry ([.ref ax, .double x1, .double x2]) (n := 6) (Nat.le_of_ble_eq_true rfl)
  rw [lg_entry_eq]
  generalize (lg_sl ([.ref ax, .double x1, .double x2]) ++ List.replicate (6 - (lg_sl ([.ref ax, .double x1, .double x2])).length) Slot.unset).toArray = ls at hl ⊢
  have hl : lv_has ls 6 [(0, .ref ax), (1, .double x1), (3, .double x2)] := hl
  have hin1 : ∀ w ∈ u_ws RX1 TX1 7, w ∈ wsX1_observer := by decide +kernel
  refine lv_dload_n hx hb dX1_observer_0 rfl (lv_at hl 1 rfl) ?_
  refine lv_ldc2d hx hb hown (hts (.constantDouble RX1 204 (13859405640767635456)) (by decide +kernel)) dX1_observer_1 ?_
  have r_1 : fR 13859405640767635456 (-96636764160) (-96636764160) := fR_lit (by decide +kernel)
  refine lv_ldc2d hx hb hown (hts (.constantDouble RX1 206 (4636033603912859648)) (by decide +kernel)) dX1_observer_4 ?_
  have r_2 : fR 4636033603912859648 96636764160 96636764160 := fR_lit (by decide +kernel)
  refine vp_callSi (W.runS (As := [.double x1, .double 13859405640767635456, .double 4636033603912859648]) (rest := []) ⟨hx, hb, hml, hown, hts⟩ (k_X1_isWithin l x1 13859405640767635456 4636033603912859648) (va_cwS 3 hts gX1_observer_X1_isWithin rfl rfl rfl (by decide +kernel) ⟨Nat.le_of_ble_eq_true rfl, Nat.le_of_ble_eq_true rfl⟩) preEq rfl rfl hl.1 rfl (lv_room (Nat.le_of_ble_eq_true rfl)) dX1_observer_7 ⟨Nat.zero_le _, Nat.zero_le _⟩) (fun r hr9 => ?_)
  obtain rfl := hr9
  refine lv_if_eq (tgt := 26) hx hb dX1_observer_10 (by decide) (fun c_3 => ?_) (fun c_3 => ?_)
  · obtain ⟨sa_4, hsa_4⟩ := hE.1.str (k := 212) (tx := "no such place") (by decide +kernel)
    exact vx_throwS (rest := []) hx hb hst hown thc_IA thf (hts (.classLink RX1 43 xIA) (by decide +kernel)) (hts (.initialized xIA) (by decide +kernel)) hsa_4 (tha_IA hE.1 (fun w hw => hts w (List.mem_cons_of_mem _ (List.mem_append_right _ hw)))) thg_IA hE.2.1.1 hE.2.1.2 hS (by rw [hml]; exact hl.1) dX1_observer_26 dX1_observer_29 dX1_observer_30 dX1_observer_32 dX1_observer_35 (fun x hx9 => (hnt x hx9).elim) (Nat.le_of_ble_eq_true rfl) (Nat.le_of_ble_eq_true rfl) (Nat.le_of_ble_eq_true rfl) (Nat.le_of_ble_eq_true rfl) hlocks (fun t hvm hz hk => ⟨(), trivial, ⟨(by unfold f_X1_observer; rw [if_pos c_3]), hP.kept (fun k9 q9 hq9 => hk q9.1 (hP k9 q9 hq9).lt), hD⟩, zx_F hS hz hk⟩) hS.2.2 (Nat.le_of_ble_eq_true rfl) (Nat.le_of_ble_eq_true rfl)
  · refine lv_dload_n hx hb dX1_observer_13 rfl (lv_at hl 2 rfl) ?_
    refine lv_ldc2d hx hb hown (hts (.constantDouble RX1 208 (13863909240395005952)) (by decide +kernel)) dX1_observer_14 ?_
    have r_5 : fR 13863909240395005952 (-193273528320) (-193273528320) := fR_lit (by decide +kernel)
    refine lv_ldc2d hx hb hown (hts (.constantDouble RX1 210 (4640537203540230144)) (by decide +kernel)) dX1_observer_17 ?_
    have r_6 : fR 4640537203540230144 193273528320 193273528320 := fR_lit (by decide +kernel)
    refine vp_callSi (W.runS (As := [.double x2, .double 13863909240395005952, .double 4640537203540230144]) (rest := []) ⟨hx, hb, hml, hown, hts⟩ (k_X1_isWithin l x2 13863909240395005952 4640537203540230144) (va_cwS 3 hts gX1_observer_X1_isWithin rfl rfl rfl (by decide +kernel) ⟨Nat.le_of_ble_eq_true rfl, Nat.le_of_ble_eq_true rfl⟩) preEq rfl rfl hl.1 rfl (lv_room (Nat.le_of_ble_eq_true rfl)) dX1_observer_20 ⟨Nat.zero_le _, Nat.zero_le _⟩) (fun r hr9 => ?_)
    obtain rfl := hr9
    refine lv_if_ne (tgt := 36) hx hb dX1_observer_23 (by decide) (fun c_7 => ?_) (fun c_7 => ?_)
    · refine lv_dload_n hx hb dX1_observer_36 rfl (lv_at hl 1 rfl) ?_
      refine lv_aload_n hx hb dX1_observer_37 rfl (lv_at hl 0 rfl) ?_
      refine va_get (D := (dC, dI)) (ci := 1) (v := .double la) (C := RX1) (T := TX1) (N := 7) hx hb hts hin1 hown hK hP 0 rfl rfl 3 (by decide) (hts (.fieldLink RX1 24 "SkyAlmanac" "latitude" "D") (by decide +kernel)) (fun _ h9 => h9) rfl dX1_observer_38 ?_
      refine zd_l_ne (tgt := 54) hx hb dX1_observer_41 dX1_observer_42 (by decide) (fun c_8 => ?_) (fun c_8 => ?_)
      · refine lv_iconst (v := 1) hx hb dX1_observer_54 (by decide) ?_
        refine lv_goto (tgt := 59) hx hb dX1_observer_55 (by decide) ?_
        refine lv_istore (lv' := [(5, .int 1), (0, .ref ax), (1, .double x1), (3, .double x2)]) hx hb dX1_observer_59 hl (by decide) rfl (fun ls hl => ?_)
        refine lv_aload_n hx hb dX1_observer_61 rfl (lv_at hl 1 rfl) ?_
        refine lv_dload_n hx hb dX1_observer_62 rfl (lv_at hl 2 rfl) ?_
        refine va_put (D := (dC, dI)) (ci := 1) (v := .double x1) (ty := .double) (C := RX1) (T := TX1) (N := 7) hx hb hts hin1 tyX1 tyX1_ok nmX1 hown hK hP hD hS 0 rfl rfl 3 (by decide) (hts (.fieldLink RX1 24 "SkyAlmanac" "latitude" "D") (by decide +kernel)) (fun _ h9 => h9) rfl (by decide +kernel) rfl rfl (Nat.le_of_ble_eq_true rfl) dX1_observer_63 (fun H locs hP hD hS => ?_)
        have hP : va_P (dC, dI) vwCl [(ax, .inr (1, [.ref ab, .ref aw, .int wl, .double x1, .double ea, .int wk, .int fl]))] H := hP
        have hD : va_D A [(ax, .inr (1, [.ref ab, .ref aw, .int wl, .double x1, .double ea, .int wk, .int fl]))] := hD
        refine lv_aload_n hx hb dX1_observer_66 rfl (lv_at hl 1 rfl) ?_
        refine lv_dload_n hx hb dX1_observer_67 rfl (lv_at hl 3 rfl) ?_
        refine va_put (D := (dC, dI)) (ci := 1) (v := .double x2) (ty := .double) (C := RX1) (T := TX1) (N := 7) hx hb hts hin1 tyX1 tyX1_ok nmX1 hown hK hP hD hS 0 rfl rfl 4 (by decide) (hts (.fieldLink RX1 28 "SkyAlmanac" "eastward" "D") (by decide +kernel)) (fun _ h9 => h9) rfl (by decide +kernel) rfl rfl (Nat.le_of_ble_eq_true rfl) dX1_observer_68 (fun H locs hP hD hS => ?_)
        have hP : va_P (dC, dI) vwCl [(ax, .inr (1, [.ref ab, .ref aw, .int wl, .double x1, .double x2, .int wk, .int fl]))] H := hP
        have hD : va_D A [(ax, .inr (1, [.ref ab, .ref aw, .int wl, .double x1, .double x2, .int wk, .int fl]))] := hD
        refine lv_iload hx hb dX1_observer_71 (lv_at hl 0 rfl) ?_
        refine W.widen (k := 1) (n := 6) (Nat.le_of_ble_eq_true rfl) (Nat.le_of_ble_eq_true rfl) ?_
        exact vx_ret (W.zret hx hb hr rfl (fun t ht hW => ⟨⟨_, (), rfl, (by unfold f_X1_observer; rw [if_neg c_3, if_neg c_7, if_neg c_8]), ⟨by rw [ht]; exact hP, hD⟩⟩, hS.F ht⟩) hS.2.2 dX1_observer_73)
      · refine lv_dload_n hx hb dX1_observer_45 rfl (lv_at hl 2 rfl) ?_
        refine lv_aload_n hx hb dX1_observer_46 rfl (lv_at hl 0 rfl) ?_
        refine va_get (D := (dC, dI)) (ci := 1) (v := .double ea) (C := RX1) (T := TX1) (N := 7) hx hb hts hin1 hown hK hP 0 rfl rfl 4 (by decide) (hts (.fieldLink RX1 28 "SkyAlmanac" "eastward" "D") (by decide +kernel)) (fun _ h9 => h9) rfl dX1_observer_47 ?_
        refine zd_l_eq (tgt := 58) hx hb dX1_observer_50 dX1_observer_51 (by decide) (fun c_9 => ?_) (fun c_9 => ?_)
        · refine lv_iconst (v := 0) hx hb dX1_observer_58 (by decide) ?_
          refine lv_istore (lv' := [(5, .int 0), (0, .ref ax), (1, .double x1), (3, .double x2)]) hx hb dX1_observer_59 hl (by decide) rfl (fun ls hl => ?_)
          refine lv_aload_n hx hb dX1_observer_61 rfl (lv_at hl 1 rfl) ?_
          refine lv_dload_n hx hb dX1_observer_62 rfl (lv_at hl 2 rfl) ?_
          refine va_put (D := (dC, dI)) (ci := 1) (v := .double x1) (ty := .double) (C := RX1) (T := TX1) (N := 7) hx hb hts hin1 tyX1 tyX1_ok nmX1 hown hK hP hD hS 0 rfl rfl 3 (by decide) (hts (.fieldLink RX1 24 "SkyAlmanac" "latitude" "D") (by decide +kernel)) (fun _ h9 => h9) rfl (by decide +kernel) rfl rfl (Nat.le_of_ble_eq_true rfl) dX1_observer_63 (fun H locs hP hD hS => ?_)
          have hP : va_P (dC, dI) vwCl [(ax, .inr (1, [.ref ab, .ref aw, .int wl, .double x1, .double ea, .int wk, .int fl]))] H := hP
          have hD : va_D A [(ax, .inr (1, [.ref ab, .ref aw, .int wl, .double x1, .double ea, .int wk, .int fl]))] := hD
          refine lv_aload_n hx hb dX1_observer_66 rfl (lv_at hl 1 rfl) ?_
          refine lv_dload_n hx hb dX1_observer_67 rfl (lv_at hl 3 rfl) ?_
          refine va_put (D := (dC, dI)) (ci := 1) (v := .double x2) (ty := .double) (C := RX1) (T := TX1) (N := 7) hx hb hts hin1 tyX1 tyX1_ok nmX1 hown hK hP hD hS 0 rfl rfl 4 (by decide) (hts (.fieldLink RX1 28 "SkyAlmanac" "eastward" "D") (by decide +kernel)) (fun _ h9 => h9) rfl (by decide +kernel) rfl rfl (Nat.le_of_ble_eq_true rfl) dX1_observer_68 (fun H locs hP hD hS => ?_)
          have hP : va_P (dC, dI) vwCl [(ax, .inr (1, [.ref ab, .ref aw, .int wl, .double x1, .double x2, .int wk, .int fl]))] H := hP
          have hD : va_D A [(ax, .inr (1, [.ref ab, .ref aw, .int wl, .double x1, .double x2, .int wk, .int fl]))] := hD
          refine lv_iload hx hb dX1_observer_71 (lv_at hl 0 rfl) ?_
          refine W.widen (k := 1) (n := 6) (Nat.le_of_ble_eq_true rfl) (Nat.le_of_ble_eq_true rfl) ?_
          exact vx_ret (W.zret hx hb hr rfl (fun t ht hW => ⟨⟨_, (), rfl, (by unfold f_X1_observer; rw [if_neg c_3, if_neg c_7, if_pos c_8, if_pos c_9]), ⟨by rw [ht]; exact hP, hD⟩⟩, hS.F ht⟩) hS.2.2 dX1_observer_73)
        · refine lv_iconst (v := 1) hx hb dX1_observer_54 (by decide) ?_
          refine lv_goto (tgt := 59) hx hb dX1_observer_55 (by decide) ?_
          refine lv_istore (lv' := [(5, .int 1), (0, .ref ax), (1, .double x1), (3, .double x2)]) hx hb dX1_observer_59 hl (by decide) rfl (fun ls hl => ?_)
          refine lv_aload_n hx hb dX1_observer_61 rfl (lv_at hl 1 rfl) ?_
          refine lv_dload_n hx hb dX1_observer_62 rfl (lv_at hl 2 rfl) ?_
          refine va_put (D := (dC, dI)) (ci := 1) (v := .double x1) (ty := .double) (C := RX1) (T := TX1) (N := 7) hx hb hts hin1 tyX1 tyX1_ok nmX1 hown hK hP hD hS 0 rfl rfl 3 (by decide) (hts (.fieldLink RX1 24 "SkyAlmanac" "latitude" "D") (by decide +kernel)) (fun _ h9 => h9) rfl (by decide +kernel) rfl rfl (Nat.le_of_ble_eq_true rfl) dX1_observer_63 (fun H locs hP hD hS => ?_)
          have hP : va_P (dC, dI) vwCl [(ax, .inr (1, [.ref ab, .ref aw, .int wl, .double x1, .double ea, .int wk, .int fl]))] H := hP
          have hD : va_D A [(ax, .inr (1, [.ref ab, .ref aw, .int wl, .double x1, .double ea, .int wk, .int fl]))] := hD
          refine lv_aload_n hx hb dX1_observer_66 rfl (lv_at hl 1 rfl) ?_
          refine lv_dload_n hx hb dX1_observer_67 rfl (lv_at hl 3 rfl) ?_
          refine va_put (D := (dC, dI)) (ci := 1) (v := .double x2) (ty := .double) (C := RX1) (T := TX1) (N := 7) hx hb hts hin1 tyX1 tyX1_ok nmX1 hown hK hP hD hS 0 rfl rfl 4 (by decide) (hts (.fieldLink RX1 28 "SkyAlmanac" "eastward" "D") (by decide +kernel)) (fun _ h9 => h9) rfl (by decide +kernel) rfl rfl (Nat.le_of_ble_eq_true rfl) dX1_observer_68 (fun H locs hP hD hS => ?_)
          have hP : va_P (dC, dI) vwCl [(ax, .inr (1, [.ref ab, .ref aw, .int wl, .double x1, .double x2, .int wk, .int fl]))] H := hP
          have hD : va_D A [(ax, .inr (1, [.ref ab, .ref aw, .int wl, .double x1, .double x2, .int wk, .int fl]))] := hD
          refine lv_iload hx hb dX1_observer_71 (lv_at hl 0 rfl) ?_
          refine W.widen (k := 1) (n := 6) (Nat.le_of_ble_eq_true rfl) (Nat.le_of_ble_eq_true rfl) ?_
          exact vx_ret (W.zret hx hb hr rfl (fun t ht hW => ⟨⟨_, (), rfl, (by unfold f_X1_observer; rw [if_neg c_3, if_neg c_7, if_pos c_8, if_neg c_9]), ⟨by rw [ht]; exact hP, hD⟩⟩, hS.F ht⟩) hS.2.2 dX1_observer_73)
    · obtain ⟨sa_10, hsa_10⟩ := hE.1.str (k := 212) (tx := "no such place") (by decide +kernel)
      exact vx_throwS (rest := []) hx hb hst hown thc_IA thf (hts (.classLink RX1 43 xIA) (by decide +kernel)) (hts (.initialized xIA) (by decide +kernel)) hsa_10 (tha_IA hE.1 (fun w hw => hts w (List.mem_cons_of_mem _ (List.mem_append_right _ hw)))) thg_IA hE.2.1.1 hE.2.1.2 hS (by rw [hml]; exact hl.1) dX1_observer_26 dX1_observer_29 dX1_observer_30 dX1_observer_32 dX1_observer_35 (fun x hx9 => (hnt x hx9).elim) (Nat.le_of_ble_eq_true rfl) (Nat.le_of_ble_eq_true rfl) (Nat.le_of_ble_eq_true rfl) (Nat.le_of_ble_eq_true rfl) hlocks (fun t hvm hz hk => ⟨(), trivial, ⟨(by unfold f_X1_observer; rw [if_neg c_3, if_pos c_7]), hP.kept (fun k9 q9 hq9 => hk q9.1 (hP k9 q9 hq9).lt), hD⟩, zx_F hS hz hk⟩) hS.2.2 (Nat.le_of_ble_eq_true rfl) (Nat.le_of_ble_eq_true rfl)

set_option maxHeartbeats 4000000 in
set_option maxRecDepth 100000 in
theorem k_X1_put (l : Launch) (hst : l.stackTraces = false) (dC : Nat → ClassId) (dI : Nat → Nat → Nat) (cA : Nat → ClassId) (tm tt sz : Nat) (ax ab aw : Nat) (k : Nat) (la ea : UInt64) (wk fl : Int32) (f : Nat → Int32) (x1 : Int32) (hk : k < 24) : Met l yX1_put wsX1_put ({ frames := 0, cells := 0, slots := 0, locals := 0 }) (PcW dC dI cA tm tt sz [.ref ax, .int x1] [(ax, .inr (1, [.ref ab, .ref aw, .int (nI k), .double la, .double ea, .int wk, .int fl])), (aw, aI 24 (cA 2) f)]) (va_Qv (fun (_ : Unit) => True) (fun _ t => WB dC dI (va_A [(ax, .inr (1, [.ref ab, .ref aw, .int (nI k), .double la, .double ea, .int wk, .int fl])), (aw, aI 24 (cA 2) f)] sz) [(ax, .inr (1, [.ref ab, .ref aw, .int (nI (k + 1)), .double la, .double ea, .int wk, .int fl])), (aw, aI 24 (cA 2) (upd f k (vp_nar .char x1)))] t) (va_A [(ax, .inr (1, [.ref ab, .ref aw, .int (nI k), .double la, .double ea, .int wk, .int fl])), (aw, aI 24 (cA 2) f)] sz)) 0 0 (va_A [(ax, .inr (1, [.ref ab, .ref aw, .int (nI k), .double la, .double ea, .int wk, .int fl])), (aw, aI 24 (cA 2) f)] sz) := by
  refine Met.ofW (cc := cX1_put) (maxL := 2) (ret := none) (by decide) rfl ?_
  intro p e s m args below meth c s₁ B hml hv
  obtain ⟨rfl, hsz, hP, hK, hD0, hE⟩ := hv
  subst hsz
  have hD := hD0.self (sz := s.heap.size)
  generalize hAe : va_A [(ax, .inr (1, [.ref ab, .ref aw, .int (nI k), .double la, .double ea, .int wk, .int fl])), (aw, aI 24 (cA 2) f)] s.heap.size = A at hD hE ⊢
  have hA : ∀ q : Nat, s.heap.size ≤ q → A q := fun q h => by rw [← hAe]; exact Or.inr h
  have hS : va_S A s.heap s.heap [] := va_S.rf
  have hP : va_P (dC, dI) vwCl [(ax, .inr (1, [.ref ab, .ref aw, .int (nI k), .double la, .double ea, .int wk, .int fl])), (aw, aI 24 (cA 2) f)] s.heap := hP
  have hx := B.exec
  have hb := B.bytes
  have hr := B.returns
  have hts := atoms_spec (ws := wsX1_put) B.pre
  have hown : s.vm.findClass RX1 = some m.cls := findClass_of_methodNamed B.named
  have hlocks := B.notSynchronized
  have hl := lv_entry ([.ref ax, .int x1]) (n := 2) (Nat.le_of_ble_eq_true rfl)
  rw [lg_entry_eq]
  generalize (lg_sl ([.ref ax, .int x1]) ++ List.replicate (2 - (lg_sl ([.ref ax, .int x1])).length) Slot.unset).toArray = ls at hl ⊢
  have hl : lv_has ls 2 [(0, .ref ax), (1, .int x1)] := hl
  have hin1 : ∀ w ∈ u_ws RX1 TX1 7, w ∈ wsX1_put := by decide +kernel
  refine lv_aload_n hx hb dX1_put_0 rfl (lv_at hl 0 rfl) ?_
  refine va_get (D := (dC, dI)) (ci := 1) (v := .int (nI k)) (C := RX1) (T := TX1) (N := 7) hx hb hts hin1 hown hK hP 0 rfl rfl 2 (by decide) (hts (.fieldLink RX1 20 "SkyAlmanac" "writtenLength" "I") (by decide +kernel)) (fun _ h9 => h9) rfl dX1_put_1 ?_
  refine lv_if_lt (tgt := 39) hx hb dX1_put_4 (by decide) (fun c_1 => absurd c_1 (nI_pos (by omega))) (fun _ => ?_)
  refine lv_aload_n hx hb dX1_put_7 rfl (lv_at hl 0 rfl) ?_
  refine va_get (D := (dC, dI)) (ci := 1) (v := .int (nI k)) (C := RX1) (T := TX1) (N := 7) hx hb hts hin1 hown hK hP 0 rfl rfl 2 (by decide) (hts (.fieldLink RX1 20 "SkyAlmanac" "writtenLength" "I") (by decide +kernel)) (fun _ h9 => h9) rfl dX1_put_8 ?_
  refine lv_aload_n hx hb dX1_put_11 rfl (lv_at hl 0 rfl) ?_
  refine va_get (D := (dC, dI)) (ci := 1) (v := .ref aw) (C := RX1) (T := TX1) (N := 7) hx hb hts hin1 hown hK hP 0 rfl rfl 1 (by decide) (hts (.fieldLink RX1 16 "SkyAlmanac" "written" "[C") (by decide +kernel)) (fun _ h9 => h9) rfl dX1_put_12 ?_
  refine va_alen (v := 24) hx hb hK hP 1 2 rfl rfl rfl dX1_put_15 ?_
  refine lv_icmp_ge (tgt := 39) hx hb dX1_put_16 (by decide) (fun c_2 => absurd c_2 (nI_ge (b := 24) hk (by decide))) (fun _ => ?_)
  refine lv_aload_n hx hb dX1_put_19 rfl (lv_at hl 0 rfl) ?_
  refine va_get (D := (dC, dI)) (ci := 1) (v := .ref aw) (C := RX1) (T := TX1) (N := 7) hx hb hts hin1 hown hK hP 0 rfl rfl 1 (by decide) (hts (.fieldLink RX1 16 "SkyAlmanac" "written" "[C") (by decide +kernel)) (fun _ h9 => h9) rfl dX1_put_20 ?_
  refine lv_aload_n hx hb dX1_put_23 rfl (lv_at hl 0 rfl) ?_
  refine va_get (D := (dC, dI)) (ci := 1) (v := .int (nI k)) (C := RX1) (T := TX1) (N := 7) hx hb hts hin1 hown hK hP 0 rfl rfl 2 (by decide) (hts (.fieldLink RX1 20 "SkyAlmanac" "writtenLength" "I") (by decide +kernel)) (fun _ h9 => h9) rfl dX1_put_24 ?_
  refine lv_iload_n hx hb dX1_put_27 rfl (lv_at hl 1 rfl) ?_
  refine va_cast hx hb hK hP hD hS 1 2 rfl rfl (vp_in_nI hk (by decide)) dX1_put_28 (fun H locs hP hD hS => ?_)
  rw [nI_clamp (show k < 2 ^ 31 by omega)] at hP hD
  have hP : va_P (dC, dI) vwCl [(ax, .inr (1, [.ref ab, .ref aw, .int (nI k), .double la, .double ea, .int wk, .int fl])), (aw, aI 24 (cA 2) (upd f k (vp_nar .char x1)))] H := hP
  have hD : va_D A [(ax, .inr (1, [.ref ab, .ref aw, .int (nI k), .double la, .double ea, .int wk, .int fl])), (aw, aI 24 (cA 2) (upd f k (vp_nar .char x1)))] := hD
  refine lv_aload_n hx hb dX1_put_29 rfl (lv_at hl 0 rfl) ?_
  refine lv_dup hx hb dX1_put_30 rfl ?_
  refine va_get (D := (dC, dI)) (ci := 1) (v := .int (nI k)) (C := RX1) (T := TX1) (N := 7) hx hb hts hin1 hown hK hP 0 rfl rfl 2 (by decide) (hts (.fieldLink RX1 20 "SkyAlmanac" "writtenLength" "I") (by decide +kernel)) (fun _ h9 => h9) rfl dX1_put_31 ?_
  refine lv_iconst (v := 1) hx hb dX1_put_34 (by decide) ?_
  refine lv_iadd hx hb dX1_put_35 ?_
  rw [nI_1]
  refine va_put (D := (dC, dI)) (ci := 1) (v := .int (nI (k + 1))) (ty := .int) (C := RX1) (T := TX1) (N := 7) hx hb hts hin1 tyX1 tyX1_ok nmX1 hown hK hP hD hS 0 rfl rfl 2 (by decide) (hts (.fieldLink RX1 20 "SkyAlmanac" "writtenLength" "I") (by decide +kernel)) (fun _ h9 => h9) rfl (by decide +kernel) rfl rfl (Nat.le_of_ble_eq_true rfl) dX1_put_36 (fun H locs hP hD hS => ?_)
  have hP : va_P (dC, dI) vwCl [(ax, .inr (1, [.ref ab, .ref aw, .int (nI (k + 1)), .double la, .double ea, .int wk, .int fl])), (aw, aI 24 (cA 2) (upd f k (vp_nar .char x1)))] H := hP
  have hD : va_D A [(ax, .inr (1, [.ref ab, .ref aw, .int (nI (k + 1)), .double la, .double ea, .int wk, .int fl])), (aw, aI 24 (cA 2) (upd f k (vp_nar .char x1)))] := hD
  exact W.vret hx hb hr (fun t ht hW => ⟨⟨(), rfl, trivial, ⟨by rw [ht]; exact hP, hD⟩⟩, hS.F ht⟩) hS.2.2 dX1_put_39

def f_X1_letter (wl : Int32) (f : Nat → Int32) (x1 : Int32) : Except String Int32 := if x1 < 0 then .error xIO else if wl ≤ x1 then .error xIO else if x1 < 24 then .ok (f x1.toNatClampNeg) else .error xIO
theorem lt_in {x : Int32} {n : Nat} {m : Int32} (hm : m.toInt = n) (h1 : ¬ x < 0) (h2 : x < m) : vp_in x n := by
  rw [vp_in_iff]
  rw [Int32.lt_iff_toInt_lt] at h1 h2
  have : (0 : Int32).toInt = 0 := rfl
  omega
set_option maxHeartbeats 4000000 in
set_option maxRecDepth 100000 in
theorem k_X1_letter (l : Launch) (hst : l.stackTraces = false) (dC : Nat → ClassId) (dI : Nat → Nat → Nat) (cA : Nat → ClassId) (tm tt sz : Nat) (ax ab aw : Nat) (wl : Int32) (la ea : UInt64) (wk fl : Int32) (f : Nat → Int32) (x1 : Int32)  : vx_Met l yX1_letter wsX1_letter ({ frames := 6, cells := 1, slots := 6, locals := 82 }) (PcR dC dI cA tm tt sz [.ref ax, .int x1] [(ax, .inr (1, [.ref ab, .ref aw, .int wl, .double la, .double ea, .int wk, .int fl])), (aw, aI 24 (cA 2) f)]) (va_Qi (fun r (_ : Unit) => f_X1_letter wl f x1 = .ok r) (fun _ _ => True) (va_A [] sz)) (vx_X (fun (_ : Unit) => True) (fun E _ t => f_X1_letter wl f x1 = .error E) (va_A [] sz)) 1 6 (va_A [] sz) := by
  refine vx_ofW (cc := cX1_letter) (maxL := 2) (ret := (some .int)) (by decide) rfl ?_
  intro p e s m args below meth c s₁ B hml hnt hv
  obtain ⟨rfl, hsz, hP, hK, hE⟩ := hv
  subst hsz
  have hS : va_S (va_A [] s.heap.size) s.heap s.heap [] := va_S.rf
  have hA : ∀ q : Nat, s.heap.size ≤ q → va_A [] s.heap.size q := fun q h => Or.inr h
  have hx := B.exec
  have hb := B.bytes
  have hr := B.returns
  have hts := atoms_spec (ws := wsX1_letter) B.pre
  have hown : s.vm.findClass RX1 = some m.cls := findClass_of_methodNamed B.named
  have hlocks := B.notSynchronized
  have hl := lv_entry ([.ref ax, .int x1]) (n := 2) (Nat.le_of_ble_eq_true rfl)
  rw [lg_entry_eq]
  generalize (lg_sl ([.ref ax, .int x1]) ++ List.replicate (2 - (lg_sl ([.ref ax, .int x1])).length) Slot.unset).toArray = ls at hl ⊢
  have hl : lv_has ls 2 [(0, .ref ax), (1, .int x1)] := hl
  have hin1 : ∀ w ∈ u_ws RX1 TX1 7, w ∈ wsX1_letter := by decide +kernel
  refine lv_iload_n hx hb dX1_letter_0 rfl (lv_at hl 1 rfl) ?_
  refine lv_if_lt (tgt := 21) hx hb dX1_letter_1 (by decide) (fun c_1 => ?_) (fun c_1 => ?_)
  · obtain ⟨sa_2, hsa_2⟩ := hE.1.str (k := 341) (tx := "no such letter") (by decide +kernel)
    exact vx_throwSW (rest := []) hx hb hst hown thc_IO thf (hts (.classLink RX1 136 xIO) (by decide +kernel)) (hts (.initialized xIO) (by decide +kernel)) hsa_2 (tha_IO hE.1 (fun w hw => hts w (List.mem_cons_of_mem _ (List.mem_append_right _ hw)))) thg_IO hE.2.1.1 hE.2.1.2 hS (by rw [hml]; exact hl.1) dX1_letter_21 dX1_letter_24 dX1_letter_25 dX1_letter_28 dX1_letter_31 (fun x hx9 => (hnt x hx9).elim) (Nat.le_of_ble_eq_true rfl) (Nat.le_of_ble_eq_true rfl) (Nat.le_of_ble_eq_true rfl) (Nat.le_of_ble_eq_true rfl) hlocks (fun t hvm hz hk => ⟨(), trivial, (by unfold f_X1_letter; rw [if_pos c_1]), zx_F hS hz hk⟩) hS.2.2 (Nat.le_of_ble_eq_true rfl) (Nat.le_of_ble_eq_true rfl)
  · refine lv_iload_n hx hb dX1_letter_4 rfl (lv_at hl 1 rfl) ?_
    refine lv_aload_n hx hb dX1_letter_5 rfl (lv_at hl 0 rfl) ?_
    refine va_get (D := (dC, dI)) (ci := 1) (v := .int wl) (C := RX1) (T := TX1) (N := 7) hx hb hts hin1 hown hK hP 0 rfl rfl 2 (by decide) (hts (.fieldLink RX1 20 "SkyAlmanac" "writtenLength" "I") (by decide +kernel)) (fun _ h9 => h9) rfl dX1_letter_6 ?_
    refine lv_icmp_ge (tgt := 21) hx hb dX1_letter_9 (by decide) (fun c_3 => ?_) (fun c_3 => ?_)
    · obtain ⟨sa_4, hsa_4⟩ := hE.1.str (k := 341) (tx := "no such letter") (by decide +kernel)
      exact vx_throwSW (rest := []) hx hb hst hown thc_IO thf (hts (.classLink RX1 136 xIO) (by decide +kernel)) (hts (.initialized xIO) (by decide +kernel)) hsa_4 (tha_IO hE.1 (fun w hw => hts w (List.mem_cons_of_mem _ (List.mem_append_right _ hw)))) thg_IO hE.2.1.1 hE.2.1.2 hS (by rw [hml]; exact hl.1) dX1_letter_21 dX1_letter_24 dX1_letter_25 dX1_letter_28 dX1_letter_31 (fun x hx9 => (hnt x hx9).elim) (Nat.le_of_ble_eq_true rfl) (Nat.le_of_ble_eq_true rfl) (Nat.le_of_ble_eq_true rfl) (Nat.le_of_ble_eq_true rfl) hlocks (fun t hvm hz hk => ⟨(), trivial, (by unfold f_X1_letter; rw [if_neg c_1, if_pos c_3]), zx_F hS hz hk⟩) hS.2.2 (Nat.le_of_ble_eq_true rfl) (Nat.le_of_ble_eq_true rfl)
    · refine lv_iload_n hx hb dX1_letter_12 rfl (lv_at hl 1 rfl) ?_
      refine lv_aload_n hx hb dX1_letter_13 rfl (lv_at hl 0 rfl) ?_
      refine va_get (D := (dC, dI)) (ci := 1) (v := .ref aw) (C := RX1) (T := TX1) (N := 7) hx hb hts hin1 hown hK hP 0 rfl rfl 1 (by decide) (hts (.fieldLink RX1 16 "SkyAlmanac" "written" "[C") (by decide +kernel)) (fun _ h9 => h9) rfl dX1_letter_14 ?_
      refine va_alen (v := 24) hx hb hK hP 1 2 rfl rfl rfl dX1_letter_17 ?_
      refine lv_icmp_lt (tgt := 32) hx hb dX1_letter_18 (by decide) (fun c_5 => ?_) (fun c_5 => ?_)
      · refine lv_aload_n hx hb dX1_letter_32 rfl (lv_at hl 0 rfl) ?_
        refine va_get (D := (dC, dI)) (ci := 1) (v := .ref aw) (C := RX1) (T := TX1) (N := 7) hx hb hts hin1 hown hK hP 0 rfl rfl 1 (by decide) (hts (.fieldLink RX1 16 "SkyAlmanac" "written" "[C") (by decide +kernel)) (fun _ h9 => h9) rfl dX1_letter_33 ?_
        refine lv_iload_n hx hb dX1_letter_36 rfl (lv_at hl 1 rfl) ?_
        refine va_cald hx hb hK hP 1 2 rfl rfl (lt_in (m := 24) rfl c_1 c_5) dX1_letter_37 ?_
        refine W.widen (k := 1) (n := 6) (Nat.le_of_ble_eq_true rfl) (Nat.le_of_ble_eq_true rfl) ?_
        exact vx_ret (W.iret hx hb hr (fun t ht hW => ⟨⟨_, (), rfl, (by unfold f_X1_letter; rw [if_neg c_1, if_neg c_3, if_pos c_5]), trivial⟩, hS.F ht⟩) hS.2.2 dX1_letter_38)
      · obtain ⟨sa_6, hsa_6⟩ := hE.1.str (k := 341) (tx := "no such letter") (by decide +kernel)
        exact vx_throwSW (rest := []) hx hb hst hown thc_IO thf (hts (.classLink RX1 136 xIO) (by decide +kernel)) (hts (.initialized xIO) (by decide +kernel)) hsa_6 (tha_IO hE.1 (fun w hw => hts w (List.mem_cons_of_mem _ (List.mem_append_right _ hw)))) thg_IO hE.2.1.1 hE.2.1.2 hS (by rw [hml]; exact hl.1) dX1_letter_21 dX1_letter_24 dX1_letter_25 dX1_letter_28 dX1_letter_31 (fun x hx9 => (hnt x hx9).elim) (Nat.le_of_ble_eq_true rfl) (Nat.le_of_ble_eq_true rfl) (Nat.le_of_ble_eq_true rfl) (Nat.le_of_ble_eq_true rfl) hlocks (fun t hvm hz hk => ⟨(), trivial, (by unfold f_X1_letter; rw [if_neg c_1, if_neg c_3, if_neg c_5]), zx_F hS hz hk⟩) hS.2.2 (Nat.le_of_ble_eq_true rfl) (Nat.le_of_ble_eq_true rfl)

/-- the sum over the first k terms of power p at t -/
def SUMP (pw : Nat → Int32) (fa sa va : Nat → UInt64) (p : Int32) (t : UInt64) : Nat → UInt64
  | 0 => FP.dconst0
  | k + 1 => if pw k = p then FP.dadd (SUMP pw fa sa va p t k) (FP.dmul (fa k) (COS (FP.dadd (sa k) (FP.dmul (va k) t)))) else SUMP pw fa sa va p t k
/-- the terms are within the document's ranges -/
def tOK (k : Nat) (fa sa va : Nat → UInt64) : Prop := k ≤ 12 ∧ ∀ j, j < k → fR (fa j) (-10737418240) 10737418240 ∧ fR (sa j) (-386547056640) 386547056640 ∧ fR (va j) (-107374182400) 107374182400
theorem ix_eq {i k : Nat} (h : nI k ≤ nI i) (hi : i ≤ k) (hk : k ≤ 12) : i = k := by
  have h8 := (nI_leI (by omega) (by omega)).mp h
  omega
theorem fRb_s {n : Int} (h : n.natAbs < 9007199254740992) : fRb n = true := by
  unfold fRb; rw [decide_eq_true h]; rfl
set_option maxRecDepth 100000 in
theorem tm_step {fj sj vj t : UInt64} (h1 : fR fj (-10737418240) 10737418240) (h2 : fR sj (-386547056640) 386547056640) (h3 : fR vj (-107374182400) 107374182400) (ht : fR t (-2251799813685248) 2251799813685248) :
    fR (FP.dmul vj t) (-225179981368524800) 225179981368524800 ∧ fR (FP.dadd sj (FP.dmul vj t)) (-225180367915581440) 225180367915581440 := by
  have a := fR_mul h3 ht (-225179981368524800) 225179981368524800 (by decide) (by decide) rfl rfl
  exact ⟨a, fR_add h2 a (-225180367915581440) 225180367915581440 (by decide) (by decide) rfl rfl⟩
theorem SUMP_R {pw : Nat → Int32} {fa sa va : Nat → UInt64} {p : Int32} {t : UInt64} {k : Nat} (ht : fR t (-2251799813685248) 2251799813685248) (h : tOK k fa sa va) : ∀ j, j ≤ k → fR (SUMP pw fa sa va p t j) (-(10737418240 * (j : Int))) (10737418240 * (j : Int)) := by
  intro j
  induction j with
  | zero => intro _; exact fR_mono c0_R (by omega) (by omega)
  | succ j ih =>
    intro hj
    have hi := ih (by omega)
    have hk := h.1
    obtain ⟨h1, h2, h3⟩ := h.2 j (by omega)
    obtain ⟨-, h5⟩ := tm_step h1 h2 h3 ht
    have hc := COS_R (fR_mono h5 (by decide) (by decide))
    have hm := fR_mul h1 hc (-10737418240) 10737418240 (by decide) (by decide) rfl rfl
    unfold SUMP
    split
    · exact fR_add hi hm _ _ (by omega) (by omega) (fRb_s (by omega)) (fRb_s (by omega))
    · exact fR_mono hi (by omega) (by omega)
set_option maxHeartbeats 4000000 in
set_option maxRecDepth 100000 in
theorem k_X0_sumOfPower (l : Launch) (dC : Nat → ClassId) (dI : Nat → Nat → Nat) (cA : Nat → ClassId) (tm tt : Nat) (bb bp bf bs bv : Nat) (st : Int32) (oL oN oE oW : UInt64) (k : Nat) (pw : Nat → Int32) (fa sa va : Nat → UInt64) (x1 : Int32) (x2 : UInt64) (h0 : fR x2 (-2251799813685248) 2251799813685248) (hT : tOK k fa sa va) : Met l yX0_sumOfPower wsX0_sumOfPower ({ frames := 2, cells := 0, slots := 0, locals := 55 }) (PcO dC dI cA tm tt [.ref bb, .int x1, .double x2] [(bb, .inr (0, [.int st, .double oL, .double oN, .double oE, .double oW, .int (nI k), .ref bp, .ref bf, .ref bs, .ref bv])), (bp, aI 12 (cA 0) pw), (bf, aD 12 (cA 1) fa), (bs, aD 12 (cA 1) sa), (bv, aD 12 (cA 1) va)]) (vp_Sd (fun r => r = SUMP pw fa sa va x1 x2 k)) 0 0 (fun _ => False) := by
  refine Met.ofW (cc := cX0_sumOfPower) (maxL := 7) (ret := (some .double)) (by decide) rfl ?_
  intro p e s m args below meth c s₁ B hml hv
  obtain ⟨rfl, hP, hK, hE⟩ := hv
  have hS : va_S (fun _ => False) s.heap s.heap [] := va_S.rf
  have hx := B.exec
  have hb := B.bytes
  have hr := B.returns
  have hts := atoms_spec (ws := wsX0_sumOfPower) B.pre
  have hown : s.vm.findClass RX0 = some m.cls := findClass_of_methodNamed B.named
  have hlocks := B.notSynchronized
  have hl := lv_entry ([.ref bb, .int x1, .double x2]) (n := 7) (Nat.le_of_ble_eq_true rfl)
  rw [lg_entry_eq]
  generalize (lg_sl ([.ref bb, .int x1, .double x2]) ++ List.replicate (7 - (lg_sl ([.ref bb, .int x1, .double x2])).length) Slot.unset).toArray = ls at hl ⊢
  have hl : lv_has ls 7 [(0, .ref bb), (1, .int x1), (2, .double x2)] := hl
  have hin0 : ∀ w ∈ u_ws RX0 TX0 10, w ∈ wsX0_sumOfPower := by decide +kernel
  refine W.gen (fun QQ hQQ => ?_)

  refine lv_dconst0 hx hb dX0_sumOfPower_0 ?_
  have r_1 : fR FP.dconst0 0 0 := fR_lit (by decide +kernel)
  refine lv_dstore (lv' := [(4, .double FP.dconst0), (0, .ref bb), (1, .int x1), (2, .double x2)]) hx hb dX0_sumOfPower_1 hl (by decide) rfl (fun ls hl => ?_)
  refine lv_iconst (v := 0) hx hb dX0_sumOfPower_3 (by decide) ?_
  refine lv_istore (lv' := [(6, .int (nI 0)), (4, .double FP.dconst0), (0, .ref bb), (1, .int x1), (2, .double x2)]) hx hb dX0_sumOfPower_4 hl (by decide) rfl (fun ls hl => ?_)
  have hloop : ∀ (n : Nat) (i : Nat), k + 1 ≤ i + n → i ≤ k → ∀ (ls : Array Slot), lv_has ls 7 [(0, .ref bb), (1, .int x1), (2, .double x2), (4, .double (SUMP pw fa sa va x1 x2 i)), (6, .int (nI i))] → W p l e (headSpec wsX0_sumOfPower ({ frames := 2, cells := 0, slots := 0, locals := 55 })).room s m ([.ref bb, .int x1, .double x2] : List Value).toArray below meth c s.heap [] 0 0 QQ (F0 m 6 ls []) := by
    intro n
    induction n with
    | zero =>
      intro i hf hi
      exact absurd hf (by omega)
    | succ n ih =>
      intro i hf hi ls hl
      refine lv_iload hx hb dX0_sumOfPower_6 (lv_at hl 4 rfl) ?_
      refine lv_aload_n hx hb dX0_sumOfPower_8 rfl (lv_at hl 0 rfl) ?_
      refine va_get (D := (dC, dI)) (ci := 0) (v := .int (nI k)) (C := RX0) (T := TX0) (N := 10) hx hb hts hin0 hown hK hP 0 rfl rfl 5 (by decide) (hts (.fieldLink RX0 25 "SkyAlmanac$Body" "terms" "I") (by decide +kernel)) (fun _ h9 => h9) rfl dX0_sumOfPower_9 ?_
      refine lv_icmp_ge (tgt := 72) hx hb dX0_sumOfPower_12 (by decide) (fun c_2 => ?_) (fun c_2 => ?_)
      · refine lv_dload hx hb dX0_sumOfPower_72 (lv_at hl 3 rfl) ?_
        subst hQQ
        exact W.dret hx hb hr (fun t ht _ => ⟨_, rfl, (by rw [ix_eq c_2 hi hT.1]), ht⟩) (fun _ h => nomatch h) dX0_sumOfPower_74
      · have hk12 := hT.1
        have hik : i < k := by
          rcases Nat.lt_or_ge i k with h9 | h9
          · exact h9
          · exact absurd (nI_le h9 (by omega)) c_2
        have hj := hT.2 i hik
        refine lv_iload hx hb dX0_sumOfPower_15 (lv_at hl 4 rfl) ?_
        refine lv_bipush (v := 12) hx hb dX0_sumOfPower_17 (by decide) ?_
        refine lv_icmp_ge (tgt := 72) hx hb dX0_sumOfPower_19 (by decide) (fun c_3 => absurd c_3 (nI_ge (b := 12) (show i < 12 by omega) (by decide))) (fun _ => ?_)
        refine lv_aload_n hx hb dX0_sumOfPower_22 rfl (lv_at hl 0 rfl) ?_
        refine va_get (D := (dC, dI)) (ci := 0) (v := .ref bp) (C := RX0) (T := TX0) (N := 10) hx hb hts hin0 hown hK hP 0 rfl rfl 6 (by decide) (hts (.fieldLink RX0 9 "SkyAlmanac$Body" "powers" "[I") (by decide +kernel)) (fun _ h9 => h9) rfl dX0_sumOfPower_23 ?_
        refine lv_iload hx hb dX0_sumOfPower_26 (lv_at hl 4 rfl) ?_
        refine va_iald hx hb hK hP 1 0 rfl rfl (vp_in_nI (show i < 12 by omega) (by decide)) dX0_sumOfPower_28 ?_
        rw [nI_clamp (show i < 2 ^ 31 by omega)]
        refine lv_iload_n hx hb dX0_sumOfPower_29 rfl (lv_at hl 1 rfl) ?_
        refine lv_icmp_ne (tgt := 66) hx hb dX0_sumOfPower_30 (by decide) (fun c_4 => ?_) (fun c_4 => ?_)
        · have hl : lv_has ls 7 [(0, .ref bb), (1, .int x1), (2, .double x2), (4, .double (SUMP pw fa sa va x1 x2 (i + 1))), (6, .int (nI i))] := by
            unfold SUMP; rw [if_neg c_4]; exact hl
          refine lv_iinc (v := nI (i + 1)) (lv' := [(6, .int (nI (i + 1))), (0, .ref bb), (1, .int x1), (2, .double x2), (4, .double (SUMP pw fa sa va x1 x2 (i + 1)))]) hx hb dX0_sumOfPower_66 hl (k := 4) rfl (nI_1 _) (by decide) rfl (fun ls hl => ?_)
          refine lv_goto (tgt := 6) hx hb dX0_sumOfPower_69 (by decide) ?_
          exact ih (i + 1) (by omega) (by omega) _ (lv_sub hl [1, 2, 3, 4, 0] rfl)
        · refine lv_dload hx hb dX0_sumOfPower_33 (lv_at hl 3 rfl) ?_
          refine lv_aload_n hx hb dX0_sumOfPower_35 rfl (lv_at hl 0 rfl) ?_
          refine va_get (D := (dC, dI)) (ci := 0) (v := .ref bf) (C := RX0) (T := TX0) (N := 10) hx hb hts hin0 hown hK hP 0 rfl rfl 7 (by decide) (hts (.fieldLink RX0 15 "SkyAlmanac$Body" "factors" "[D") (by decide +kernel)) (fun _ h9 => h9) rfl dX0_sumOfPower_36 ?_
          refine lv_iload hx hb dX0_sumOfPower_39 (lv_at hl 4 rfl) ?_
          refine va_dald hx hb hK hP 2 1 rfl rfl (vp_in_nI (show i < 12 by omega) (by decide)) dX0_sumOfPower_41 ?_
          rw [nI_clamp (show i < 2 ^ 31 by omega)]
          refine lv_aload_n hx hb dX0_sumOfPower_42 rfl (lv_at hl 0 rfl) ?_
          refine va_get (D := (dC, dI)) (ci := 0) (v := .ref bs) (C := RX0) (T := TX0) (N := 10) hx hb hts hin0 hown hK hP 0 rfl rfl 8 (by decide) (hts (.fieldLink RX0 19 "SkyAlmanac$Body" "starts" "[D") (by decide +kernel)) (fun _ h9 => h9) rfl dX0_sumOfPower_43 ?_
          refine lv_iload hx hb dX0_sumOfPower_46 (lv_at hl 4 rfl) ?_
          refine va_dald hx hb hK hP 3 1 rfl rfl (vp_in_nI (show i < 12 by omega) (by decide)) dX0_sumOfPower_48 ?_
          rw [nI_clamp (show i < 2 ^ 31 by omega)]
          refine lv_aload_n hx hb dX0_sumOfPower_49 rfl (lv_at hl 0 rfl) ?_
          refine va_get (D := (dC, dI)) (ci := 0) (v := .ref bv) (C := RX0) (T := TX0) (N := 10) hx hb hts hin0 hown hK hP 0 rfl rfl 9 (by decide) (hts (.fieldLink RX0 22 "SkyAlmanac$Body" "speeds" "[D") (by decide +kernel)) (fun _ h9 => h9) rfl dX0_sumOfPower_50 ?_
          refine lv_iload hx hb dX0_sumOfPower_53 (lv_at hl 4 rfl) ?_
          refine va_dald hx hb hK hP 4 1 rfl rfl (vp_in_nI (show i < 12 by omega) (by decide)) dX0_sumOfPower_55 ?_
          rw [nI_clamp (show i < 2 ^ 31 by omega)]
          refine lv_dload_n hx hb dX0_sumOfPower_56 rfl (lv_at hl 2 rfl) ?_
          have r_5 := fR_mul hj.2.2 h0 (-225179981368524800) 225179981368524800 (by decide) (by decide) rfl rfl
          refine lv_dmul hx hb dX0_sumOfPower_57 (fR_nn r_5) ?_
          have r_6 := fR_add hj.2.1 r_5 (-225180367915581440) 225180367915581440 (by decide) (by decide) rfl rfl
          refine lv_dadd hx hb dX0_sumOfPower_58 (fR_nn r_6) ?_
          refine vp_callSd (va_Run.run (va_runSN (As := [.double (FP.dadd (sa i) (FP.dmul (va i) x2))]) (rest := [.double (fa i), .double (SUMP pw fa sa va x1 x2 i)]) ⟨hx, hb, hml, hown, hts⟩ (k_X1_cosine l (FP.dadd (sa i) (FP.dmul (va i) x2)) (fR_mono r_6 (by decide) (by decide))) ⟨va_cnB 1 hts gX0_sumOfPower_X1_cosine_n29 rfl rfl rfl (hE.1.2.1 (RX0, 29, yX1_cosine) (by decide +kernel)) (hts (.initialized RX1) (by decide +kernel)) (by decide +kernel) ⟨Nat.le_of_ble_eq_true rfl, Nat.le_of_ble_eq_true rfl⟩, hts (.static yX1_cosine) (by decide +kernel), trivial⟩ preEq rfl rfl hl.1 rfl (lv_room (Nat.le_of_ble_eq_true rfl)) dX0_sumOfPower_59 ⟨Nat.zero_le _, Nat.zero_le _⟩)) (fun r hr9 => ?_)
          obtain rfl := hr9
          have r_7 := COS_R (fR_mono r_6 (by decide) (by decide))
          have r_8 := fR_mul hj.1 r_7 (-10737418240) 10737418240 (by decide) (by decide) rfl rfl
          refine lv_dmul hx hb dX0_sumOfPower_62 (fR_nn r_8) ?_
          refine lv_dadd hx hb dX0_sumOfPower_63 (fR_nn (fR_add (SUMP_R h0 hT i hi) r_8 _ _ (Int.le_refl _) (Int.le_refl _) (fRb_s (by omega)) (fRb_s (by omega)))) ?_
          refine lv_dstore (lv' := [(4, .double (FP.dadd (SUMP pw fa sa va x1 x2 i) (FP.dmul (fa i) (COS (FP.dadd (sa i) (FP.dmul (va i) x2)))))), (0, .ref bb), (1, .int x1), (2, .double x2), (6, .int (nI i))]) hx hb dX0_sumOfPower_64 hl (by decide) rfl (fun ls hl => ?_)
          have hl : lv_has ls 7 [(4, .double (SUMP pw fa sa va x1 x2 (i + 1))), (0, .ref bb), (1, .int x1), (2, .double x2), (6, .int (nI i))] := by
            unfold SUMP; rw [if_pos c_4]; exact hl
          refine lv_iinc (v := nI (i + 1)) (lv' := [(6, .int (nI (i + 1))), (4, .double (SUMP pw fa sa va x1 x2 (i + 1))), (0, .ref bb), (1, .int x1), (2, .double x2)]) hx hb dX0_sumOfPower_66 hl (k := 4) rfl (nI_1 _) (by decide) rfl (fun ls hl => ?_)
          refine lv_goto (tgt := 6) hx hb dX0_sumOfPower_69 (by decide) ?_
          exact ih (i + 1) (by omega) (by omega) _ (lv_sub hl [2, 3, 4, 1, 0] rfl)
  exact hloop (k + 1) 0 (by omega) (by omega) _ (lv_sub hl [2, 3, 4, 1, 0] rfl)
