def cd1 {α : Type} : Except String α → Int32
  | .ok _ => 0
  | .error _ => 1
theorem le_eq {x a b : Int32} (hb : b.toInt + 1 = a.toInt) (h1 : x ≤ a) (h2 : ¬ x ≤ b) : x = a := by
  rw [Int32.le_iff_toInt_le] at h1 h2
  exact Int32.toInt_inj.mp (by omega)
theorem le_eq0 {x : Int32} (h1 : x ≤ 0) (h2 : ¬ x < 0) : x = 0 := by
  rw [Int32.le_iff_toInt_le] at h1
  rw [Int32.lt_iff_toInt_lt] at h2
  exact Int32.toInt_inj.mp (by omega)
theorem x2_in2 {x : Int32} (h1 : ¬ x < 0) (h2 : x ≤ 4) : 0 ≤ x.toInt ∧ x.toInt ≤ 4 := by
  rw [Int32.lt_iff_toInt_lt] at h1
  rw [Int32.le_iff_toInt_le] at h2
  have : (0 : Int32).toInt = 0 := rfl
  have : (4 : Int32).toInt = 4 := rfl
  omega
theorem fw_e1 {x1 : UInt64} {x2 : Int32} {f : Nat → Int32} (c : f_X1_isWithin x1 13904980397738950656 4681608360884174848 = 0) : f_X1_write x1 x2 f = .error xIA := by unfold f_X1_write; rw [if_pos c]
theorem fw_e2 {x1 : UInt64} {x2 : Int32} {f : Nat → Int32} (c : ¬ f_X1_isWithin x1 13904980397738950656 4681608360884174848 = 0) (h : x2 < 0 ∨ 4 < x2) : f_X1_write x1 x2 f = .error xIA := by unfold f_X1_write; rw [if_neg c, if_pos ((ww32 rfl rfl).mpr h)]
theorem fw_o {x1 : UInt64} {x2 : Int32} {f : Nat → Int32} (c : ¬ f_X1_isWithin x1 13904980397738950656 4681608360884174848 = 0) (h1 : ¬ x2 < 0) (h2 : ¬ 4 < x2) : f_X1_write x1 x2 f = .ok (nI (WRT x1 x2 f).1) := by unfold f_X1_write; rw [if_neg c, if_neg (fun h9 => ((ww32 rfl rfl).mp h9).elim h1 h2)]
set_option maxHeartbeats 4000000 in
set_option maxRecDepth 100000 in
theorem k_X2_write (l : Launch) (hst : l.stackTraces = false) (dC : Nat → ClassId) (dI : Nat → Nat → Nat) (cA : Nat → ClassId) (tm tt sz : Nat) (am gs go gt gp gw gl : Nat) (th wo fu : Int32) (la ea : UInt64) (ln fd : Int32) (lf : Nat → Int32) (x1 : UInt64) (x2 : Int32) (hF : fR x1 (-1208925819614629174706176) 1208925819614629174706176) : Met l yX2_write wsX2_write ({ frames := 2, cells := 0, slots := 0, locals := 49 }) (PcW dC dI cA tm tt sz [.ref am, .double x1, .int x2] [(am, .inr (2, [.int th, .int wo, .int fu, .ref gs, .ref go, .ref gt, .ref gp, .ref gw, .double la, .double ea, .ref gl, .int ln, .int fd])), (gl, aI 40 (cA 0) lf)]) (va_Qi (fun r (_ : Unit) => ∀ v, f_X1_write x1 x2 lf = .ok v → r = v) (fun _ t => WB dC dI (va_A [(am, .inr (2, [.int th, .int wo, .int fu, .ref gs, .ref go, .ref gt, .ref gp, .ref gw, .double la, .double ea, .ref gl, .int ln, .int fd])), (gl, aI 40 (cA 0) lf)] sz) [(am, .inr (2, [.int (cd1 (f_X1_write x1 x2 lf)), .int wo, .int fu, .ref gs, .ref go, .ref gt, .ref gp, .ref gw, .double la, .double ea, .ref gl, .int (if cd1 (f_X1_write x1 x2 lf) = 0 then nI (WRT x1 x2 lf).1 else ln), .int fd])), (gl, aI 40 (cA 0) (if cd1 (f_X1_write x1 x2 lf) = 0 then (WRT x1 x2 lf).2 else lf))] t) (va_A [(am, .inr (2, [.int th, .int wo, .int fu, .ref gs, .ref go, .ref gt, .ref gp, .ref gw, .double la, .double ea, .ref gl, .int ln, .int fd])), (gl, aI 40 (cA 0) lf)] sz)) 0 0 (va_A [(am, .inr (2, [.int th, .int wo, .int fu, .ref gs, .ref go, .ref gt, .ref gp, .ref gw, .double la, .double ea, .ref gl, .int ln, .int fd])), (gl, aI 40 (cA 0) lf)] sz) := by
  refine Met.ofW (cc := cX2_write) (maxL := 14) (ret := (some .int)) (by decide) rfl ?_
  intro p e s m args below meth c s₁ B hml hv
  obtain ⟨rfl, hsz, hP, hK, hD0, hE⟩ := hv
  subst hsz
  have hD := hD0.self (sz := s.heap.size)
  generalize hAe : va_A [(am, .inr (2, [.int th, .int wo, .int fu, .ref gs, .ref go, .ref gt, .ref gp, .ref gw, .double la, .double ea, .ref gl, .int ln, .int fd])), (gl, aI 40 (cA 0) lf)] s.heap.size = A at hD hE ⊢
  have hA : ∀ q : Nat, s.heap.size ≤ q → A q := fun q h => by rw [← hAe]; exact Or.inr h
  have hS : va_S A s.heap s.heap [] := va_S.rf
  have hP : va_P (dC, dI) vwCl [(am, .inr (2, [.int th, .int wo, .int fu, .ref gs, .ref go, .ref gt, .ref gp, .ref gw, .double la, .double ea, .ref gl, .int ln, .int fd])), (gl, aI 40 (cA 0) lf)] s.heap := hP
  have hx := B.exec
  have hb := B.bytes
  have hr := B.returns
  have hts := atoms_spec (ws := wsX2_write) B.pre
  have hown : s.vm.findClass RX2 = some m.cls := findClass_of_methodNamed B.named
  have hlocks := B.notSynchronized
  have hl := lv_entry ([.ref am, .double x1, .int x2]) (n := 14) (Nat.le_of_ble_eq_true rfl)
  rw [lg_entry_eq]
  generalize (lg_sl ([.ref am, .double x1, .int x2]) ++ List.replicate (14 - (lg_sl ([.ref am, .double x1, .int x2])).length) Slot.unset).toArray = ls at hl ⊢
  have hl : lv_has ls 14 [(0, .ref am), (1, .double x1), (3, .int x2)] := hl
  have hin2 : ∀ w ∈ u_ws RX2 TX2 13, w ∈ wsX2_write := by decide +kernel
  refine W.gen (fun QQ hQQ => ?_)

  refine lv_aload_n hx hb dX2_write_0 rfl (lv_at hl 0 rfl) ?_
  refine lv_iconst (v := 0) hx hb dX2_write_1 (by decide) ?_
  refine va_put (D := (dC, dI)) (ci := 2) (v := .int 0) (ty := .int) (C := RX2) (T := TX2) (N := 13) hx hb hts hin2 tyX2 tyX2_ok nmX2 hown hK hP hD hS 0 rfl rfl 0 (by decide) (hts (.fieldLink RX2 30 "SkyAlmanacModel" "thrown" "I") (by decide +kernel)) (fun _ h9 => h9) rfl (by decide +kernel) rfl rfl (Nat.le_of_ble_eq_true rfl) dX2_write_2 (fun H locs hP hD hS => ?_)
  have hP : va_P (dC, dI) vwCl [(am, .inr (2, [.int 0, .int wo, .int fu, .ref gs, .ref go, .ref gt, .ref gp, .ref gw, .double la, .double ea, .ref gl, .int ln, .int fd])), (gl, aI 40 (cA 0) lf)] H := hP
  have hD : va_D A [(am, .inr (2, [.int 0, .int wo, .int fu, .ref gs, .ref go, .ref gt, .ref gp, .ref gw, .double la, .double ea, .ref gl, .int ln, .int fd])), (gl, aI 40 (cA 0) lf)] := hD
  refine lv_dload_n hx hb dX2_write_5 rfl (lv_at hl 1 rfl) ?_
  refine lv_ldc2d hx hb hown (hts (.constantDouble RX2 265 (13904980397738950656)) (by decide +kernel)) dX2_write_6 ?_
  have r_1 : fR 13904980397738950656 (-107374182400000) (-107374182400000) := fR_lit (by decide +kernel)
  refine lv_ldc2d hx hb hown (hts (.constantDouble RX2 267 (4681608360884174848)) (by decide +kernel)) dX2_write_9 ?_
  have r_2 : fR 4681608360884174848 107374182400000 107374182400000 := fR_lit (by decide +kernel)
  refine vp_callSi (W.runS (As := [.double x1, .double 13904980397738950656, .double 4681608360884174848]) (rest := []) ⟨hx, hb, hml, hown, hts⟩ (k_X2_within l x1 13904980397738950656 4681608360884174848) (va_cwS 3 hts gX2_write_X2_within rfl rfl rfl (by decide +kernel) ⟨Nat.le_of_ble_eq_true rfl, Nat.le_of_ble_eq_true rfl⟩) preEq rfl rfl hl.1 rfl (lv_room (Nat.le_of_ble_eq_true rfl)) dX2_write_12 ⟨Nat.le_of_ble_eq_true rfl, Nat.le_of_ble_eq_true rfl⟩) (fun r hr9 => ?_)
  obtain rfl := hr9
  refine lv_if_eq (tgt := 27) hx hb dX2_write_15 (by decide) (fun c_3 => ?_) (fun c_3 => ?_)
  · have e0 : f_X1_write x1 x2 lf = .error xIA := fw_e1 c_3
    refine lv_aload_n hx hb dX2_write_27 rfl (lv_at hl 0 rfl) ?_
    refine lv_iconst (v := 1) hx hb dX2_write_28 (by decide) ?_
    have hPc := hP.sub (ws' := [(am, .inr (2, [.int 0, .int wo, .int fu, .ref gs, .ref go, .ref gt, .ref gp, .ref gw, .double la, .double ea, .ref gl, .int ln, .int fd]))]) [0] rfl
    have hDc := hD.sub (ws' := [(am, .inr (2, [.int 0, .int wo, .int fu, .ref gs, .ref go, .ref gt, .ref gp, .ref gw, .double la, .double ea, .ref gl, .int ln, .int fd]))]) [0] (by decide) rfl
    have hFc := va_free (wc := [(am, .inr (2, [.int 0, .int wo, .int fu, .ref gs, .ref go, .ref gt, .ref gp, .ref gw, .double la, .double ea, .ref gl, .int ln, .int fd]))]) hD hS hA [0] rfl
    refine va_calli (va_runV (As := [.int 1]) (rest := []) ⟨hx, hb, hml, hown, hts⟩ (k_X2_fail l hst dC dI cA tm tt _ am gs go gt gp gw gl 0 wo fu la ea ln fd 1) (cwV 1 hts gX2_write_X2_fail rfl rfl rfl (by decide +kernel) ⟨Nat.le_of_ble_eq_true rfl, Nat.le_of_ble_eq_true rfl⟩) ⟨PcW.blind, va_recv hK hPc (ci := 2) (q0 := 0) rfl rfl, PcW.give hPc hK hDc hE hS hFc⟩ rfl rfl hl.1 rfl (lv_room (Nat.le_of_ble_eq_true rfl)) dX2_write_29 ⟨Nat.le_of_ble_eq_true rfl, Nat.le_of_ble_eq_true rfl⟩) hS (fun q _ h => hFc q h) hFc (fun v_4 u t H locs ht hvm hp_5 hB hz1 hk1 hS => ?_)
    obtain ⟨hP1, hD1⟩ := hB
    rw [ht] at hP1
    obtain ⟨hP, hD⟩ := va_join (wr := [(gl, aI 40 (cA 0) lf)]) (w1 := [(am, .inr (2, [.int 1, .int wo, .int fu, .ref gs, .ref go, .ref gt, .ref gp, .ref gw, .double la, .double ea, .ref gl, .int ln, .int fd]))]) hP hD [0] [1] rfl rfl (by decide) (by decide) hk1 hFc hP1 hD1
    have hP := hP.sub (ws' := [(am, .inr (2, [.int 1, .int wo, .int fu, .ref gs, .ref go, .ref gt, .ref gp, .ref gw, .double la, .double ea, .ref gl, .int ln, .int fd])), (gl, aI 40 (cA 0) lf)]) [1, 0] rfl
    have hD := hD.sub (ws' := [(am, .inr (2, [.int 1, .int wo, .int fu, .ref gs, .ref go, .ref gt, .ref gp, .ref gw, .double la, .double ea, .ref gl, .int ln, .int fd])), (gl, aI 40 (cA 0) lf)]) [1, 0] (by decide) rfl
    obtain rfl := hp_5
    have e1 : cd1 (f_X1_write x1 x2 lf) = 1 := by rw [e0]; rfl
    have hP : va_P (dC, dI) vwCl [(am, .inr (2, [.int (cd1 (f_X1_write x1 x2 lf)), .int wo, .int fu, .ref gs, .ref go, .ref gt, .ref gp, .ref gw, .double la, .double ea, .ref gl, .int (if cd1 (f_X1_write x1 x2 lf) = 0 then nI (WRT x1 x2 lf).1 else ln), .int fd])), (gl, aI 40 (cA 0) (if cd1 (f_X1_write x1 x2 lf) = 0 then (WRT x1 x2 lf).2 else lf))] H := by simp only [if_neg (show ¬ cd1 (f_X1_write x1 x2 lf) = 0 by rw [e1]; decide)]; rw [e1]; exact hP
    have hD : va_D A [(am, .inr (2, [.int (cd1 (f_X1_write x1 x2 lf)), .int wo, .int fu, .ref gs, .ref go, .ref gt, .ref gp, .ref gw, .double la, .double ea, .ref gl, .int (if cd1 (f_X1_write x1 x2 lf) = 0 then nI (WRT x1 x2 lf).1 else ln), .int fd])), (gl, aI 40 (cA 0) (if cd1 (f_X1_write x1 x2 lf) = 0 then (WRT x1 x2 lf).2 else lf))] := by simp only [if_neg (show ¬ cd1 (f_X1_write x1 x2 lf) = 0 by rw [e1]; decide)]; rw [e1]; exact hD
    subst hQQ
    exact W.iret hx hb hr (fun t ht hW => ⟨⟨_, (), rfl, (fun v hv => by rw [e0] at hv; cases hv), ⟨by rw [ht]; exact hP, hD⟩⟩, hS.F ht⟩) hS.2.2 dX2_write_32
  · refine lv_iload_n hx hb dX2_write_18 rfl (lv_at hl 2 rfl) ?_
    refine lv_if_lt (tgt := 27) hx hb dX2_write_19 (by decide) (fun c_6 => ?_) (fun c_6 => ?_)
    · have e0 : f_X1_write x1 x2 lf = .error xIA := fw_e2 c_3 (Or.inl c_6)
      refine lv_aload_n hx hb dX2_write_27 rfl (lv_at hl 0 rfl) ?_
      refine lv_iconst (v := 1) hx hb dX2_write_28 (by decide) ?_
      have hPc := hP.sub (ws' := [(am, .inr (2, [.int 0, .int wo, .int fu, .ref gs, .ref go, .ref gt, .ref gp, .ref gw, .double la, .double ea, .ref gl, .int ln, .int fd]))]) [0] rfl
      have hDc := hD.sub (ws' := [(am, .inr (2, [.int 0, .int wo, .int fu, .ref gs, .ref go, .ref gt, .ref gp, .ref gw, .double la, .double ea, .ref gl, .int ln, .int fd]))]) [0] (by decide) rfl
      have hFc := va_free (wc := [(am, .inr (2, [.int 0, .int wo, .int fu, .ref gs, .ref go, .ref gt, .ref gp, .ref gw, .double la, .double ea, .ref gl, .int ln, .int fd]))]) hD hS hA [0] rfl
      refine va_calli (va_runV (As := [.int 1]) (rest := []) ⟨hx, hb, hml, hown, hts⟩ (k_X2_fail l hst dC dI cA tm tt _ am gs go gt gp gw gl 0 wo fu la ea ln fd 1) (cwV 1 hts gX2_write_X2_fail rfl rfl rfl (by decide +kernel) ⟨Nat.le_of_ble_eq_true rfl, Nat.le_of_ble_eq_true rfl⟩) ⟨PcW.blind, va_recv hK hPc (ci := 2) (q0 := 0) rfl rfl, PcW.give hPc hK hDc hE hS hFc⟩ rfl rfl hl.1 rfl (lv_room (Nat.le_of_ble_eq_true rfl)) dX2_write_29 ⟨Nat.le_of_ble_eq_true rfl, Nat.le_of_ble_eq_true rfl⟩) hS (fun q _ h => hFc q h) hFc (fun v_7 u t H locs ht hvm hp_8 hB hz1 hk1 hS => ?_)
      obtain ⟨hP1, hD1⟩ := hB
      rw [ht] at hP1
      obtain ⟨hP, hD⟩ := va_join (wr := [(gl, aI 40 (cA 0) lf)]) (w1 := [(am, .inr (2, [.int 1, .int wo, .int fu, .ref gs, .ref go, .ref gt, .ref gp, .ref gw, .double la, .double ea, .ref gl, .int ln, .int fd]))]) hP hD [0] [1] rfl rfl (by decide) (by decide) hk1 hFc hP1 hD1
      have hP := hP.sub (ws' := [(am, .inr (2, [.int 1, .int wo, .int fu, .ref gs, .ref go, .ref gt, .ref gp, .ref gw, .double la, .double ea, .ref gl, .int ln, .int fd])), (gl, aI 40 (cA 0) lf)]) [1, 0] rfl
      have hD := hD.sub (ws' := [(am, .inr (2, [.int 1, .int wo, .int fu, .ref gs, .ref go, .ref gt, .ref gp, .ref gw, .double la, .double ea, .ref gl, .int ln, .int fd])), (gl, aI 40 (cA 0) lf)]) [1, 0] (by decide) rfl
      obtain rfl := hp_8
      have e1 : cd1 (f_X1_write x1 x2 lf) = 1 := by rw [e0]; rfl
      have hP : va_P (dC, dI) vwCl [(am, .inr (2, [.int (cd1 (f_X1_write x1 x2 lf)), .int wo, .int fu, .ref gs, .ref go, .ref gt, .ref gp, .ref gw, .double la, .double ea, .ref gl, .int (if cd1 (f_X1_write x1 x2 lf) = 0 then nI (WRT x1 x2 lf).1 else ln), .int fd])), (gl, aI 40 (cA 0) (if cd1 (f_X1_write x1 x2 lf) = 0 then (WRT x1 x2 lf).2 else lf))] H := by simp only [if_neg (show ¬ cd1 (f_X1_write x1 x2 lf) = 0 by rw [e1]; decide)]; rw [e1]; exact hP
      have hD : va_D A [(am, .inr (2, [.int (cd1 (f_X1_write x1 x2 lf)), .int wo, .int fu, .ref gs, .ref go, .ref gt, .ref gp, .ref gw, .double la, .double ea, .ref gl, .int (if cd1 (f_X1_write x1 x2 lf) = 0 then nI (WRT x1 x2 lf).1 else ln), .int fd])), (gl, aI 40 (cA 0) (if cd1 (f_X1_write x1 x2 lf) = 0 then (WRT x1 x2 lf).2 else lf))] := by simp only [if_neg (show ¬ cd1 (f_X1_write x1 x2 lf) = 0 by rw [e1]; decide)]; rw [e1]; exact hD
      subst hQQ
      exact W.iret hx hb hr (fun t ht hW => ⟨⟨_, (), rfl, (fun v hv => by rw [e0] at hv; cases hv), ⟨by rw [ht]; exact hP, hD⟩⟩, hS.F ht⟩) hS.2.2 dX2_write_32
    · refine lv_iload_n hx hb dX2_write_22 rfl (lv_at hl 2 rfl) ?_
      refine lv_iconst (v := 4) hx hb dX2_write_23 (by decide) ?_
      refine lv_icmp_le (tgt := 33) hx hb dX2_write_24 (by decide) (fun c_9 => ?_) (fun c_9 => ?_)
      · have e0 : f_X1_write x1 x2 lf = .ok (nI (WRT x1 x2 lf).1) := fw_o c_3 c_6 (le_nlt c_9)
        have h1w : fR x1 (-107374182400000) 107374182400000 := win_R hF c_3 (fR_lit (by decide +kernel) : fR 13904980397738950656 (-107374182400000) (-107374182400000)) (fR_lit (by decide +kernel) : fR 4681608360884174848 107374182400000 107374182400000)
        have h2w := x2_in2 c_6 c_9
        obtain ⟨ha1, ha2, ha3, ha4, hl1, hl2_, hl4, hl6, hl8, hl9⟩ := wr_all lf h1w h2w
        obtain ⟨hs1, hs2, hu1, hu2⟩ := wu_all h1w h2w
        have ham := WAM_R h1w
        have hl2 := fR_l2d (f_X1_tenToThe x2) (lo := 1) (hi := 10000) hs1 hs2 (by decide) (by decide)
        have hws : WS x1 x2 = WU x1 x2 / f_X1_tenToThe x2 := wp_eq (by omega)
        have ht0 : ¬ f_X1_tenToThe x2 = 0 := fun h => by rw [h] at hs1; exact absurd hs1 (by decide)
        have hJ70 : ∀ (H : Heap) (locs : List Loc) (ls : Array Slot), va_P (dC, dI) vwCl [(am, .inr (2, [.int 0, .int wo, .int fu, .ref gs, .ref go, .ref gt, .ref gp, .ref gw, .double la, .double ea, .ref gl, .int ln, .int fd])), (gl, aI 40 (cA 0) lf)] H → va_D A [(am, .inr (2, [.int 0, .int wo, .int fu, .ref gs, .ref go, .ref gt, .ref gp, .ref gw, .double la, .double ea, .ref gl, .int ln, .int fd])), (gl, aI 40 (cA 0) lf)] → va_S A s.heap H locs → lv_has ls 14 [(0, .ref am), (1, .double x1), (3, .int x2), (4, .double (FP.l2d (f_X1_tenToThe x2))), (6, .long (f_X1_tenToThe x2))] → W p l e (headSpec wsX2_write ({ frames := 2, cells := 0, slots := 0, locals := 49 })).room s m ([.ref am, .double x1, .int x2] : List Value).toArray below meth c H locs (0) (0) QQ (F0 m 70 ls []) := by
          intro H locs ls hP hD hS hl
          have hJ83 : ∀ (H : Heap) (locs : List Loc) (ls : Array Slot), va_P (dC, dI) vwCl [(am, .inr (2, [.int 0, .int wo, .int fu, .ref gs, .ref go, .ref gt, .ref gp, .ref gw, .double la, .double ea, .ref gl, .int ln, .int fd])), (gl, aI 40 (cA 0) lf)] H → va_D A [(am, .inr (2, [.int 0, .int wo, .int fu, .ref gs, .ref go, .ref gt, .ref gp, .ref gw, .double la, .double ea, .ref gl, .int ln, .int fd])), (gl, aI 40 (cA 0) lf)] → va_S A s.heap H locs → lv_has ls 14 [(0, .ref am), (1, .double x1), (3, .int x2), (4, .double (FP.l2d (f_X1_tenToThe x2))), (6, .long (f_X1_tenToThe x2))] → W p l e (headSpec wsX2_write ({ frames := 2, cells := 0, slots := 0, locals := 49 })).room s m ([.ref am, .double x1, .int x2] : List Value).toArray below meth c H locs (0) (0) QQ (F0 m 83 ls [.double (WAM x1)]) := by
            intro H locs ls hP hD hS hl
            refine lv_dstore (lv' := [(8, .double (WAM x1)), (0, .ref am), (1, .double x1), (3, .int x2), (4, .double (FP.l2d (f_X1_tenToThe x2))), (6, .long (f_X1_tenToThe x2))]) hx hb dX2_write_83 hl (by decide) rfl (fun ls hl => ?_)
            refine lv_dload hx hb dX2_write_85 (lv_at hl 0 rfl) ?_
            refine lv_ldc2d hx hb hown (hts (.constantDouble RX2 269 (4660134898793709568)) (by decide +kernel)) dX2_write_87 ?_
            have r_10 : fR 4660134898793709568 3865470566400 3865470566400 := fR_lit (by decide +kernel)
            have r_11 := fR_mul ham r_10 0 386547056640000000 (by decide) (by decide) rfl rfl
            refine lv_dmul hx hb dX2_write_90 (fR_nn r_11) ?_
            refine lv_dload hx hb dX2_write_91 (lv_at hl 4 rfl) ?_
            have r_12 := fR_mul r_11 hl2 0 3865470566400000000000 (by decide) (by decide) rfl rfl
            refine lv_dmul hx hb dX2_write_93 (fR_nn r_12) ?_
            refine lv_ldc2d hx hb hown (hts (.constantDouble RX2 122 (4602678819172646912)) (by decide +kernel)) dX2_write_94 ?_
            have r_13 : fR 4602678819172646912 536870912 536870912 := fR_lit (by decide +kernel)
            have r_14 := fR_add r_12 r_13 536870912 3865470566401073741824 (by decide) (by decide) rfl rfl
            refine lv_dadd hx hb dX2_write_97 (fR_nn r_14) ?_
            refine lv_d2l hx hb dX2_write_98 ?_
            refine lv_lstore (lv' := [(10, .long (WU x1 x2)), (8, .double (WAM x1)), (0, .ref am), (1, .double x1), (3, .int x2), (4, .double (FP.l2d (f_X1_tenToThe x2))), (6, .long (f_X1_tenToThe x2))]) hx hb dX2_write_99 hl (by decide) rfl (fun ls hl => ?_)
            refine lv_aload_n hx hb dX2_write_101 rfl (lv_at hl 2 rfl) ?_
            refine lv_iconst (v := 0) hx hb dX2_write_102 (by decide) ?_
            refine va_put (D := (dC, dI)) (ci := 2) (v := .int 0) (ty := .int) (C := RX2) (T := TX2) (N := 13) hx hb hts hin2 tyX2 tyX2_ok nmX2 hown hK hP hD hS 0 rfl rfl 11 (by decide) (hts (.fieldLink RX2 256 "SkyAlmanacModel" "letters" "I") (by decide +kernel)) (fun _ h9 => h9) rfl (by decide +kernel) rfl rfl (Nat.le_of_ble_eq_true rfl) dX2_write_103 (fun H locs hP hD hS => ?_)
            have hP : va_P (dC, dI) vwCl [(am, .inr (2, [.int 0, .int wo, .int fu, .ref gs, .ref go, .ref gt, .ref gp, .ref gw, .double la, .double ea, .ref gl, .int 0, .int fd])), (gl, aI 40 (cA 0) lf)] H := hP
            have hD : va_D A [(am, .inr (2, [.int 0, .int wo, .int fu, .ref gs, .ref go, .ref gt, .ref gp, .ref gw, .double la, .double ea, .ref gl, .int 0, .int fd])), (gl, aI 40 (cA 0) lf)] := hD
            have hP : va_P (dC, dI) vwCl [(am, .inr (2, [.int 0, .int wo, .int fu, .ref gs, .ref go, .ref gt, .ref gp, .ref gw, .double la, .double ea, .ref gl, .int (nI ((0, lf) : TX).1), .int fd])), (gl, aI 40 (cA 0) (((0, lf) : TX).2))] H := by rw [show nI ((0, lf) : TX).1 = 0 from nI_0]; exact hP
            have hD : va_D A [(am, .inr (2, [.int 0, .int wo, .int fu, .ref gs, .ref go, .ref gt, .ref gp, .ref gw, .double la, .double ea, .ref gl, .int (nI ((0, lf) : TX).1), .int fd])), (gl, aI 40 (cA 0) (((0, lf) : TX).2))] := by rw [show nI ((0, lf) : TX).1 = 0 from nI_0]; exact hD
            have hJ125 : ∀ (H : Heap) (locs : List Loc) (ls : Array Slot), va_P (dC, dI) vwCl [(am, .inr (2, [.int 0, .int wo, .int fu, .ref gs, .ref go, .ref gt, .ref gp, .ref gw, .double la, .double ea, .ref gl, .int (nI (wt1 x1 x2 lf).1), .int fd])), (gl, aI 40 (cA 0) ((wt1 x1 x2 lf).2))] H → va_D A [(am, .inr (2, [.int 0, .int wo, .int fu, .ref gs, .ref go, .ref gt, .ref gp, .ref gw, .double la, .double ea, .ref gl, .int (nI (wt1 x1 x2 lf).1), .int fd])), (gl, aI 40 (cA 0) ((wt1 x1 x2 lf).2))] → va_S A s.heap H locs → lv_has ls 14 [(10, .long (WU x1 x2)), (0, .ref am), (1, .double x1), (3, .int x2), (6, .long (f_X1_tenToThe x2))] → W p l e (headSpec wsX2_write ({ frames := 2, cells := 0, slots := 0, locals := 49 })).room s m ([.ref am, .double x1, .int x2] : List Value).toArray below meth c H locs (0) (0) QQ (F0 m 125 ls []) := by
              intro H locs ls hP hD hS hl
              refine lv_lload hx hb dX2_write_125 (lv_at hl 0 rfl) ?_
              refine lv_lload hx hb dX2_write_127 (lv_at hl 4 rfl) ?_
              refine lv_ldiv hx hb dX2_write_129 ht0 ?_
              rw [show WU x1 x2 / f_X1_tenToThe x2 = WS x1 x2 from hws.symm]
              refine lv_lstore (lv' := [(12, .long (WS x1 x2)), (10, .long (WU x1 x2)), (0, .ref am), (1, .double x1), (3, .int x2), (6, .long (f_X1_tenToThe x2))]) hx hb dX2_write_130 hl (by decide) rfl (fun ls hl => ?_)
              refine lv_aload_n hx hb dX2_write_132 rfl (lv_at hl 2 rfl) ?_
              refine lv_lload hx hb dX2_write_133 (lv_at hl 0 rfl) ?_
              refine lv_ldc2 hx hb hown (hts (.constantLong RX2 271 (3600)) (by decide +kernel)) dX2_write_135 ?_
              refine lv_ldiv hx hb dX2_write_138 (by decide) ?_
              refine lv_iconst (v := 1) hx hb dX2_write_139 (by decide) ?_
              have hPc := hP.sub (ws' := [(am, .inr (2, [.int 0, .int wo, .int fu, .ref gs, .ref go, .ref gt, .ref gp, .ref gw, .double la, .double ea, .ref gl, .int (nI (wt1 x1 x2 lf).1), .int fd])), (gl, aI 40 (cA 0) ((wt1 x1 x2 lf).2))]) [0, 1] rfl
              have hDc := hD.sub (ws' := [(am, .inr (2, [.int 0, .int wo, .int fu, .ref gs, .ref go, .ref gt, .ref gp, .ref gw, .double la, .double ea, .ref gl, .int (nI (wt1 x1 x2 lf).1), .int fd])), (gl, aI 40 (cA 0) ((wt1 x1 x2 lf).2))]) [0, 1] (by decide) rfl
              have hFc := va_free (wc := [(am, .inr (2, [.int 0, .int wo, .int fu, .ref gs, .ref go, .ref gt, .ref gp, .ref gw, .double la, .double ea, .ref gl, .int (nI (wt1 x1 x2 lf).1), .int fd])), (gl, aI 40 (cA 0) ((wt1 x1 x2 lf).2))]) hD hS hA [0, 1] rfl
              refine va_callv (va_runV (As := [.long ((WS x1 x2) / 3600), .int 1]) (rest := []) ⟨hx, hb, hml, hown, hts⟩ (k_X2_digits l hst dC dI cA tm tt _ am gs go gt gp gw gl 0 wo fu la ea fd (wt1 x1 x2 lf) ((WS x1 x2) / 3600) 1 ha1.1 (by omega) (by decide) (by decide) (by omega)) (cwV 2 hts gX2_write_X2_digits rfl rfl rfl (by decide +kernel) ⟨Nat.le_of_ble_eq_true rfl, Nat.le_of_ble_eq_true rfl⟩) ⟨PcW.blind, va_recv hK hPc (ci := 2) (q0 := 0) rfl rfl, PcW.give hPc hK hDc hE hS hFc⟩ rfl rfl hl.1 rfl (lv_room (Nat.le_of_ble_eq_true rfl)) dX2_write_140 ⟨Nat.le_of_ble_eq_true rfl, Nat.le_of_ble_eq_true rfl⟩) hS (fun q _ h => hFc q h) hFc (fun u t H locs ht hvm hp_16 hB hz1 hk1 hS => ?_)
              obtain ⟨hP1, hD1⟩ := hB
              rw [ht] at hP1
              obtain ⟨hP, hD⟩ := va_join (wr := []) (w1 := [(am, .inr (2, [.int 0, .int wo, .int fu, .ref gs, .ref go, .ref gt, .ref gp, .ref gw, .double la, .double ea, .ref gl, .int (nI (pnL ((WS x1 x2) / 3600) 1 6 (wt1 x1 x2 lf)).1), .int fd])), (gl, aI 40 (cA 0) ((pnL ((WS x1 x2) / 3600) 1 6 (wt1 x1 x2 lf)).2))]) hP hD [0, 1] [] rfl rfl (by decide) (by decide) hk1 hFc hP1 hD1
              have hP := hP.sub (ws' := [(am, .inr (2, [.int 0, .int wo, .int fu, .ref gs, .ref go, .ref gt, .ref gp, .ref gw, .double la, .double ea, .ref gl, .int (nI (pnL ((WS x1 x2) / 3600) 1 6 (wt1 x1 x2 lf)).1), .int fd])), (gl, aI 40 (cA 0) ((pnL ((WS x1 x2) / 3600) 1 6 (wt1 x1 x2 lf)).2))]) [0, 1] rfl
              have hD := hD.sub (ws' := [(am, .inr (2, [.int 0, .int wo, .int fu, .ref gs, .ref go, .ref gt, .ref gp, .ref gw, .double la, .double ea, .ref gl, .int (nI (pnL ((WS x1 x2) / 3600) 1 6 (wt1 x1 x2 lf)).1), .int fd])), (gl, aI 40 (cA 0) ((pnL ((WS x1 x2) / 3600) 1 6 (wt1 x1 x2 lf)).2))]) [0, 1] (by decide) rfl
              have hP : va_P (dC, dI) vwCl [(am, .inr (2, [.int 0, .int wo, .int fu, .ref gs, .ref go, .ref gt, .ref gp, .ref gw, .double la, .double ea, .ref gl, .int (nI (wt2 x1 x2 lf).1), .int fd])), (gl, aI 40 (cA 0) ((wt2 x1 x2 lf).2))] H := hP
              have hD : va_D A [(am, .inr (2, [.int 0, .int wo, .int fu, .ref gs, .ref go, .ref gt, .ref gp, .ref gw, .double la, .double ea, .ref gl, .int (nI (wt2 x1 x2 lf).1), .int fd])), (gl, aI 40 (cA 0) ((wt2 x1 x2 lf).2))] := hD
              refine lv_aload_n hx hb dX2_write_143 rfl (lv_at hl 2 rfl) ?_
              refine lv_bipush (v := 100) hx hb dX2_write_144 (by decide) ?_
              have hPc := hP.sub (ws' := [(am, .inr (2, [.int 0, .int wo, .int fu, .ref gs, .ref go, .ref gt, .ref gp, .ref gw, .double la, .double ea, .ref gl, .int (nI (wt2 x1 x2 lf).1), .int fd])), (gl, aI 40 (cA 0) ((wt2 x1 x2 lf).2))]) [0, 1] rfl
              have hDc := hD.sub (ws' := [(am, .inr (2, [.int 0, .int wo, .int fu, .ref gs, .ref go, .ref gt, .ref gp, .ref gw, .double la, .double ea, .ref gl, .int (nI (wt2 x1 x2 lf).1), .int fd])), (gl, aI 40 (cA 0) ((wt2 x1 x2 lf).2))]) [0, 1] (by decide) rfl
              have hFc := va_free (wc := [(am, .inr (2, [.int 0, .int wo, .int fu, .ref gs, .ref go, .ref gt, .ref gp, .ref gw, .double la, .double ea, .ref gl, .int (nI (wt2 x1 x2 lf).1), .int fd])), (gl, aI 40 (cA 0) ((wt2 x1 x2 lf).2))]) hD hS hA [0, 1] rfl
              refine va_callv (va_runV (As := [.int 100]) (rest := []) ⟨hx, hb, hml, hown, hts⟩ (k_X2_put l hst dC dI cA tm tt _ am gs go gt gp gw gl 0 wo fu la ea fd (wt2 x1 x2 lf) 100 (by omega)) (cwV 1 hts gX2_write_X2_put rfl rfl rfl (by decide +kernel) ⟨Nat.le_of_ble_eq_true rfl, Nat.le_of_ble_eq_true rfl⟩) ⟨PcW.blind, va_recv hK hPc (ci := 2) (q0 := 0) rfl rfl, PcW.give hPc hK hDc hE hS hFc⟩ rfl rfl hl.1 rfl (lv_room (Nat.le_of_ble_eq_true rfl)) dX2_write_146 ⟨Nat.le_of_ble_eq_true rfl, Nat.le_of_ble_eq_true rfl⟩) hS (fun q _ h => hFc q h) hFc (fun u t H locs ht hvm hp_18 hB hz1 hk1 hS => ?_)
              obtain ⟨hP1, hD1⟩ := hB
              rw [ht] at hP1
              obtain ⟨hP, hD⟩ := va_join (wr := []) (w1 := [(am, .inr (2, [.int 0, .int wo, .int fu, .ref gs, .ref go, .ref gt, .ref gp, .ref gw, .double la, .double ea, .ref gl, .int (nI ((wt2 x1 x2 lf).1 + 1)), .int fd])), (gl, aI 40 (cA 0) (upd (wt2 x1 x2 lf).2 (wt2 x1 x2 lf).1 100))]) hP hD [0, 1] [] rfl rfl (by decide) (by decide) hk1 hFc hP1 hD1
              have hP := hP.sub (ws' := [(am, .inr (2, [.int 0, .int wo, .int fu, .ref gs, .ref go, .ref gt, .ref gp, .ref gw, .double la, .double ea, .ref gl, .int (nI ((wt2 x1 x2 lf).1 + 1)), .int fd])), (gl, aI 40 (cA 0) (upd (wt2 x1 x2 lf).2 (wt2 x1 x2 lf).1 100))]) [0, 1] rfl
              have hD := hD.sub (ws' := [(am, .inr (2, [.int 0, .int wo, .int fu, .ref gs, .ref go, .ref gt, .ref gp, .ref gw, .double la, .double ea, .ref gl, .int (nI ((wt2 x1 x2 lf).1 + 1)), .int fd])), (gl, aI 40 (cA 0) (upd (wt2 x1 x2 lf).2 (wt2 x1 x2 lf).1 100))]) [0, 1] (by decide) rfl
              have hP : va_P (dC, dI) vwCl [(am, .inr (2, [.int 0, .int wo, .int fu, .ref gs, .ref go, .ref gt, .ref gp, .ref gw, .double la, .double ea, .ref gl, .int (nI (tput (wt2 x1 x2 lf) 100).1), .int fd])), (gl, aI 40 (cA 0) ((tput (wt2 x1 x2 lf) 100).2))] H := hP
              have hD : va_D A [(am, .inr (2, [.int 0, .int wo, .int fu, .ref gs, .ref go, .ref gt, .ref gp, .ref gw, .double la, .double ea, .ref gl, .int (nI (tput (wt2 x1 x2 lf) 100).1), .int fd])), (gl, aI 40 (cA 0) ((tput (wt2 x1 x2 lf) 100).2))] := hD
              refine lv_aload_n hx hb dX2_write_149 rfl (lv_at hl 2 rfl) ?_
              refine lv_lload hx hb dX2_write_150 (lv_at hl 0 rfl) ?_
              refine lv_ldc2 hx hb hown (hts (.constantLong RX2 277 (60)) (by decide +kernel)) dX2_write_152 ?_
              refine lv_ldiv hx hb dX2_write_155 (by decide) ?_
              refine lv_ldc2 hx hb hown (hts (.constantLong RX2 277 (60)) (by decide +kernel)) dX2_write_156 ?_
              refine lv_lrem hx hb dX2_write_159 (by decide) ?_
              refine lv_iconst (v := 2) hx hb dX2_write_160 (by decide) ?_
              have hPc := hP.sub (ws' := [(am, .inr (2, [.int 0, .int wo, .int fu, .ref gs, .ref go, .ref gt, .ref gp, .ref gw, .double la, .double ea, .ref gl, .int (nI (tput (wt2 x1 x2 lf) 100).1), .int fd])), (gl, aI 40 (cA 0) ((tput (wt2 x1 x2 lf) 100).2))]) [0, 1] rfl
              have hDc := hD.sub (ws' := [(am, .inr (2, [.int 0, .int wo, .int fu, .ref gs, .ref go, .ref gt, .ref gp, .ref gw, .double la, .double ea, .ref gl, .int (nI (tput (wt2 x1 x2 lf) 100).1), .int fd])), (gl, aI 40 (cA 0) ((tput (wt2 x1 x2 lf) 100).2))]) [0, 1] (by decide) rfl
              have hFc := va_free (wc := [(am, .inr (2, [.int 0, .int wo, .int fu, .ref gs, .ref go, .ref gt, .ref gp, .ref gw, .double la, .double ea, .ref gl, .int (nI (tput (wt2 x1 x2 lf) 100).1), .int fd])), (gl, aI 40 (cA 0) ((tput (wt2 x1 x2 lf) 100).2))]) hD hS hA [0, 1] rfl
              refine va_callv (va_runV (As := [.long (((WS x1 x2) / 60) - ((WS x1 x2) / 60) / 60 * 60), .int 2]) (rest := []) ⟨hx, hb, hml, hown, hts⟩ (k_X2_digits l hst dC dI cA tm tt _ am gs go gt gp gw gl 0 wo fu la ea fd (tput (wt2 x1 x2 lf) 100) (((WS x1 x2) / 60) - ((WS x1 x2) / 60) / 60 * 60) 2 ha2.1 (by omega) (by decide) (by decide) (by show (wt2 x1 x2 lf).1 + 1 + 6 ≤ 40; omega)) (cwV 2 hts gX2_write_X2_digits rfl rfl rfl (by decide +kernel) ⟨Nat.le_of_ble_eq_true rfl, Nat.le_of_ble_eq_true rfl⟩) ⟨PcW.blind, va_recv hK hPc (ci := 2) (q0 := 0) rfl rfl, PcW.give hPc hK hDc hE hS hFc⟩ rfl rfl hl.1 rfl (lv_room (Nat.le_of_ble_eq_true rfl)) dX2_write_161 ⟨Nat.le_of_ble_eq_true rfl, Nat.le_of_ble_eq_true rfl⟩) hS (fun q _ h => hFc q h) hFc (fun u t H locs ht hvm hp_20 hB hz1 hk1 hS => ?_)
              obtain ⟨hP1, hD1⟩ := hB
              rw [ht] at hP1
              obtain ⟨hP, hD⟩ := va_join (wr := []) (w1 := [(am, .inr (2, [.int 0, .int wo, .int fu, .ref gs, .ref go, .ref gt, .ref gp, .ref gw, .double la, .double ea, .ref gl, .int (nI (pnL (((WS x1 x2) / 60) - ((WS x1 x2) / 60) / 60 * 60) 2 6 (tput (wt2 x1 x2 lf) 100)).1), .int fd])), (gl, aI 40 (cA 0) ((pnL (((WS x1 x2) / 60) - ((WS x1 x2) / 60) / 60 * 60) 2 6 (tput (wt2 x1 x2 lf) 100)).2))]) hP hD [0, 1] [] rfl rfl (by decide) (by decide) hk1 hFc hP1 hD1
              have hP := hP.sub (ws' := [(am, .inr (2, [.int 0, .int wo, .int fu, .ref gs, .ref go, .ref gt, .ref gp, .ref gw, .double la, .double ea, .ref gl, .int (nI (pnL (((WS x1 x2) / 60) - ((WS x1 x2) / 60) / 60 * 60) 2 6 (tput (wt2 x1 x2 lf) 100)).1), .int fd])), (gl, aI 40 (cA 0) ((pnL (((WS x1 x2) / 60) - ((WS x1 x2) / 60) / 60 * 60) 2 6 (tput (wt2 x1 x2 lf) 100)).2))]) [0, 1] rfl
              have hD := hD.sub (ws' := [(am, .inr (2, [.int 0, .int wo, .int fu, .ref gs, .ref go, .ref gt, .ref gp, .ref gw, .double la, .double ea, .ref gl, .int (nI (pnL (((WS x1 x2) / 60) - ((WS x1 x2) / 60) / 60 * 60) 2 6 (tput (wt2 x1 x2 lf) 100)).1), .int fd])), (gl, aI 40 (cA 0) ((pnL (((WS x1 x2) / 60) - ((WS x1 x2) / 60) / 60 * 60) 2 6 (tput (wt2 x1 x2 lf) 100)).2))]) [0, 1] (by decide) rfl
              have hP : va_P (dC, dI) vwCl [(am, .inr (2, [.int 0, .int wo, .int fu, .ref gs, .ref go, .ref gt, .ref gp, .ref gw, .double la, .double ea, .ref gl, .int (nI (wt4 x1 x2 lf).1), .int fd])), (gl, aI 40 (cA 0) ((wt4 x1 x2 lf).2))] H := hP
              have hD : va_D A [(am, .inr (2, [.int 0, .int wo, .int fu, .ref gs, .ref go, .ref gt, .ref gp, .ref gw, .double la, .double ea, .ref gl, .int (nI (wt4 x1 x2 lf).1), .int fd])), (gl, aI 40 (cA 0) ((wt4 x1 x2 lf).2))] := hD
              refine lv_aload_n hx hb dX2_write_164 rfl (lv_at hl 2 rfl) ?_
              refine lv_bipush (v := 109) hx hb dX2_write_165 (by decide) ?_
              have hPc := hP.sub (ws' := [(am, .inr (2, [.int 0, .int wo, .int fu, .ref gs, .ref go, .ref gt, .ref gp, .ref gw, .double la, .double ea, .ref gl, .int (nI (wt4 x1 x2 lf).1), .int fd])), (gl, aI 40 (cA 0) ((wt4 x1 x2 lf).2))]) [0, 1] rfl
              have hDc := hD.sub (ws' := [(am, .inr (2, [.int 0, .int wo, .int fu, .ref gs, .ref go, .ref gt, .ref gp, .ref gw, .double la, .double ea, .ref gl, .int (nI (wt4 x1 x2 lf).1), .int fd])), (gl, aI 40 (cA 0) ((wt4 x1 x2 lf).2))]) [0, 1] (by decide) rfl
              have hFc := va_free (wc := [(am, .inr (2, [.int 0, .int wo, .int fu, .ref gs, .ref go, .ref gt, .ref gp, .ref gw, .double la, .double ea, .ref gl, .int (nI (wt4 x1 x2 lf).1), .int fd])), (gl, aI 40 (cA 0) ((wt4 x1 x2 lf).2))]) hD hS hA [0, 1] rfl
              refine va_callv (va_runV (As := [.int 109]) (rest := []) ⟨hx, hb, hml, hown, hts⟩ (k_X2_put l hst dC dI cA tm tt _ am gs go gt gp gw gl 0 wo fu la ea fd (wt4 x1 x2 lf) 109 (by omega)) (cwV 1 hts gX2_write_X2_put rfl rfl rfl (by decide +kernel) ⟨Nat.le_of_ble_eq_true rfl, Nat.le_of_ble_eq_true rfl⟩) ⟨PcW.blind, va_recv hK hPc (ci := 2) (q0 := 0) rfl rfl, PcW.give hPc hK hDc hE hS hFc⟩ rfl rfl hl.1 rfl (lv_room (Nat.le_of_ble_eq_true rfl)) dX2_write_167 ⟨Nat.le_of_ble_eq_true rfl, Nat.le_of_ble_eq_true rfl⟩) hS (fun q _ h => hFc q h) hFc (fun u t H locs ht hvm hp_22 hB hz1 hk1 hS => ?_)
              obtain ⟨hP1, hD1⟩ := hB
              rw [ht] at hP1
              obtain ⟨hP, hD⟩ := va_join (wr := []) (w1 := [(am, .inr (2, [.int 0, .int wo, .int fu, .ref gs, .ref go, .ref gt, .ref gp, .ref gw, .double la, .double ea, .ref gl, .int (nI ((wt4 x1 x2 lf).1 + 1)), .int fd])), (gl, aI 40 (cA 0) (upd (wt4 x1 x2 lf).2 (wt4 x1 x2 lf).1 109))]) hP hD [0, 1] [] rfl rfl (by decide) (by decide) hk1 hFc hP1 hD1
              have hP := hP.sub (ws' := [(am, .inr (2, [.int 0, .int wo, .int fu, .ref gs, .ref go, .ref gt, .ref gp, .ref gw, .double la, .double ea, .ref gl, .int (nI ((wt4 x1 x2 lf).1 + 1)), .int fd])), (gl, aI 40 (cA 0) (upd (wt4 x1 x2 lf).2 (wt4 x1 x2 lf).1 109))]) [0, 1] rfl
              have hD := hD.sub (ws' := [(am, .inr (2, [.int 0, .int wo, .int fu, .ref gs, .ref go, .ref gt, .ref gp, .ref gw, .double la, .double ea, .ref gl, .int (nI ((wt4 x1 x2 lf).1 + 1)), .int fd])), (gl, aI 40 (cA 0) (upd (wt4 x1 x2 lf).2 (wt4 x1 x2 lf).1 109))]) [0, 1] (by decide) rfl
              have hP : va_P (dC, dI) vwCl [(am, .inr (2, [.int 0, .int wo, .int fu, .ref gs, .ref go, .ref gt, .ref gp, .ref gw, .double la, .double ea, .ref gl, .int (nI (tput (wt4 x1 x2 lf) 109).1), .int fd])), (gl, aI 40 (cA 0) ((tput (wt4 x1 x2 lf) 109).2))] H := hP
              have hD : va_D A [(am, .inr (2, [.int 0, .int wo, .int fu, .ref gs, .ref go, .ref gt, .ref gp, .ref gw, .double la, .double ea, .ref gl, .int (nI (tput (wt4 x1 x2 lf) 109).1), .int fd])), (gl, aI 40 (cA 0) ((tput (wt4 x1 x2 lf) 109).2))] := hD
              refine lv_aload_n hx hb dX2_write_170 rfl (lv_at hl 2 rfl) ?_
              refine lv_lload hx hb dX2_write_171 (lv_at hl 0 rfl) ?_
              refine lv_ldc2 hx hb hown (hts (.constantLong RX2 277 (60)) (by decide +kernel)) dX2_write_173 ?_
              refine lv_lrem hx hb dX2_write_176 (by decide) ?_
              refine lv_iconst (v := 2) hx hb dX2_write_177 (by decide) ?_
              have hPc := hP.sub (ws' := [(am, .inr (2, [.int 0, .int wo, .int fu, .ref gs, .ref go, .ref gt, .ref gp, .ref gw, .double la, .double ea, .ref gl, .int (nI (tput (wt4 x1 x2 lf) 109).1), .int fd])), (gl, aI 40 (cA 0) ((tput (wt4 x1 x2 lf) 109).2))]) [0, 1] rfl
              have hDc := hD.sub (ws' := [(am, .inr (2, [.int 0, .int wo, .int fu, .ref gs, .ref go, .ref gt, .ref gp, .ref gw, .double la, .double ea, .ref gl, .int (nI (tput (wt4 x1 x2 lf) 109).1), .int fd])), (gl, aI 40 (cA 0) ((tput (wt4 x1 x2 lf) 109).2))]) [0, 1] (by decide) rfl
              have hFc := va_free (wc := [(am, .inr (2, [.int 0, .int wo, .int fu, .ref gs, .ref go, .ref gt, .ref gp, .ref gw, .double la, .double ea, .ref gl, .int (nI (tput (wt4 x1 x2 lf) 109).1), .int fd])), (gl, aI 40 (cA 0) ((tput (wt4 x1 x2 lf) 109).2))]) hD hS hA [0, 1] rfl
              refine va_callv (va_runV (As := [.long ((WS x1 x2) - (WS x1 x2) / 60 * 60), .int 2]) (rest := []) ⟨hx, hb, hml, hown, hts⟩ (k_X2_digits l hst dC dI cA tm tt _ am gs go gt gp gw gl 0 wo fu la ea fd (tput (wt4 x1 x2 lf) 109) ((WS x1 x2) - (WS x1 x2) / 60 * 60) 2 ha3.1 (by omega) (by decide) (by decide) (by show (wt4 x1 x2 lf).1 + 1 + 6 ≤ 40; omega)) (cwV 2 hts gX2_write_X2_digits rfl rfl rfl (by decide +kernel) ⟨Nat.le_of_ble_eq_true rfl, Nat.le_of_ble_eq_true rfl⟩) ⟨PcW.blind, va_recv hK hPc (ci := 2) (q0 := 0) rfl rfl, PcW.give hPc hK hDc hE hS hFc⟩ rfl rfl hl.1 rfl (lv_room (Nat.le_of_ble_eq_true rfl)) dX2_write_178 ⟨Nat.le_of_ble_eq_true rfl, Nat.le_of_ble_eq_true rfl⟩) hS (fun q _ h => hFc q h) hFc (fun u t H locs ht hvm hp_24 hB hz1 hk1 hS => ?_)
              obtain ⟨hP1, hD1⟩ := hB
              rw [ht] at hP1
              obtain ⟨hP, hD⟩ := va_join (wr := []) (w1 := [(am, .inr (2, [.int 0, .int wo, .int fu, .ref gs, .ref go, .ref gt, .ref gp, .ref gw, .double la, .double ea, .ref gl, .int (nI (pnL ((WS x1 x2) - (WS x1 x2) / 60 * 60) 2 6 (tput (wt4 x1 x2 lf) 109)).1), .int fd])), (gl, aI 40 (cA 0) ((pnL ((WS x1 x2) - (WS x1 x2) / 60 * 60) 2 6 (tput (wt4 x1 x2 lf) 109)).2))]) hP hD [0, 1] [] rfl rfl (by decide) (by decide) hk1 hFc hP1 hD1
              have hP := hP.sub (ws' := [(am, .inr (2, [.int 0, .int wo, .int fu, .ref gs, .ref go, .ref gt, .ref gp, .ref gw, .double la, .double ea, .ref gl, .int (nI (pnL ((WS x1 x2) - (WS x1 x2) / 60 * 60) 2 6 (tput (wt4 x1 x2 lf) 109)).1), .int fd])), (gl, aI 40 (cA 0) ((pnL ((WS x1 x2) - (WS x1 x2) / 60 * 60) 2 6 (tput (wt4 x1 x2 lf) 109)).2))]) [0, 1] rfl
              have hD := hD.sub (ws' := [(am, .inr (2, [.int 0, .int wo, .int fu, .ref gs, .ref go, .ref gt, .ref gp, .ref gw, .double la, .double ea, .ref gl, .int (nI (pnL ((WS x1 x2) - (WS x1 x2) / 60 * 60) 2 6 (tput (wt4 x1 x2 lf) 109)).1), .int fd])), (gl, aI 40 (cA 0) ((pnL ((WS x1 x2) - (WS x1 x2) / 60 * 60) 2 6 (tput (wt4 x1 x2 lf) 109)).2))]) [0, 1] (by decide) rfl
              have hP : va_P (dC, dI) vwCl [(am, .inr (2, [.int 0, .int wo, .int fu, .ref gs, .ref go, .ref gt, .ref gp, .ref gw, .double la, .double ea, .ref gl, .int (nI (wt6 x1 x2 lf).1), .int fd])), (gl, aI 40 (cA 0) ((wt6 x1 x2 lf).2))] H := hP
              have hD : va_D A [(am, .inr (2, [.int 0, .int wo, .int fu, .ref gs, .ref go, .ref gt, .ref gp, .ref gw, .double la, .double ea, .ref gl, .int (nI (wt6 x1 x2 lf).1), .int fd])), (gl, aI 40 (cA 0) ((wt6 x1 x2 lf).2))] := hD
              have hJ201 : ∀ (H : Heap) (locs : List Loc) (ls : Array Slot), va_P (dC, dI) vwCl [(am, .inr (2, [.int 0, .int wo, .int fu, .ref gs, .ref go, .ref gt, .ref gp, .ref gw, .double la, .double ea, .ref gl, .int (nI (wt9 x1 x2 lf).1), .int fd])), (gl, aI 40 (cA 0) ((wt9 x1 x2 lf).2))] H → va_D A [(am, .inr (2, [.int 0, .int wo, .int fu, .ref gs, .ref go, .ref gt, .ref gp, .ref gw, .double la, .double ea, .ref gl, .int (nI (wt9 x1 x2 lf).1), .int fd])), (gl, aI 40 (cA 0) ((wt9 x1 x2 lf).2))] → va_S A s.heap H locs → lv_has ls 14 [(0, .ref am), (1, .double x1), (3, .int x2)] → W p l e (headSpec wsX2_write ({ frames := 2, cells := 0, slots := 0, locals := 49 })).room s m ([.ref am, .double x1, .int x2] : List Value).toArray below meth c H locs (0) (0) QQ (F0 m 201 ls []) := by
                intro H locs ls hP hD hS hl
                refine lv_aload_n hx hb dX2_write_201 rfl (lv_at hl 0 rfl) ?_
                refine lv_bipush (v := 115) hx hb dX2_write_202 (by decide) ?_
                have hPc := hP.sub (ws' := [(am, .inr (2, [.int 0, .int wo, .int fu, .ref gs, .ref go, .ref gt, .ref gp, .ref gw, .double la, .double ea, .ref gl, .int (nI (wt9 x1 x2 lf).1), .int fd])), (gl, aI 40 (cA 0) ((wt9 x1 x2 lf).2))]) [0, 1] rfl
                have hDc := hD.sub (ws' := [(am, .inr (2, [.int 0, .int wo, .int fu, .ref gs, .ref go, .ref gt, .ref gp, .ref gw, .double la, .double ea, .ref gl, .int (nI (wt9 x1 x2 lf).1), .int fd])), (gl, aI 40 (cA 0) ((wt9 x1 x2 lf).2))]) [0, 1] (by decide) rfl
                have hFc := va_free (wc := [(am, .inr (2, [.int 0, .int wo, .int fu, .ref gs, .ref go, .ref gt, .ref gp, .ref gw, .double la, .double ea, .ref gl, .int (nI (wt9 x1 x2 lf).1), .int fd])), (gl, aI 40 (cA 0) ((wt9 x1 x2 lf).2))]) hD hS hA [0, 1] rfl
                refine va_callv (va_runV (As := [.int 115]) (rest := []) ⟨hx, hb, hml, hown, hts⟩ (k_X2_put l hst dC dI cA tm tt _ am gs go gt gp gw gl 0 wo fu la ea fd (wt9 x1 x2 lf) 115 (by omega)) (cwV 1 hts gX2_write_X2_put rfl rfl rfl (by decide +kernel) ⟨Nat.le_of_ble_eq_true rfl, Nat.le_of_ble_eq_true rfl⟩) ⟨PcW.blind, va_recv hK hPc (ci := 2) (q0 := 0) rfl rfl, PcW.give hPc hK hDc hE hS hFc⟩ rfl rfl hl.1 rfl (lv_room (Nat.le_of_ble_eq_true rfl)) dX2_write_204 ⟨Nat.le_of_ble_eq_true rfl, Nat.le_of_ble_eq_true rfl⟩) hS (fun q _ h => hFc q h) hFc (fun u t H locs ht hvm hp_26 hB hz1 hk1 hS => ?_)
                obtain ⟨hP1, hD1⟩ := hB
                rw [ht] at hP1
                obtain ⟨hP, hD⟩ := va_join (wr := []) (w1 := [(am, .inr (2, [.int 0, .int wo, .int fu, .ref gs, .ref go, .ref gt, .ref gp, .ref gw, .double la, .double ea, .ref gl, .int (nI ((wt9 x1 x2 lf).1 + 1)), .int fd])), (gl, aI 40 (cA 0) (upd (wt9 x1 x2 lf).2 (wt9 x1 x2 lf).1 115))]) hP hD [0, 1] [] rfl rfl (by decide) (by decide) hk1 hFc hP1 hD1
                have hP := hP.sub (ws' := [(am, .inr (2, [.int 0, .int wo, .int fu, .ref gs, .ref go, .ref gt, .ref gp, .ref gw, .double la, .double ea, .ref gl, .int (nI ((wt9 x1 x2 lf).1 + 1)), .int fd])), (gl, aI 40 (cA 0) (upd (wt9 x1 x2 lf).2 (wt9 x1 x2 lf).1 115))]) [0, 1] rfl
                have hD := hD.sub (ws' := [(am, .inr (2, [.int 0, .int wo, .int fu, .ref gs, .ref go, .ref gt, .ref gp, .ref gw, .double la, .double ea, .ref gl, .int (nI ((wt9 x1 x2 lf).1 + 1)), .int fd])), (gl, aI 40 (cA 0) (upd (wt9 x1 x2 lf).2 (wt9 x1 x2 lf).1 115))]) [0, 1] (by decide) rfl
                have hP : va_P (dC, dI) vwCl [(am, .inr (2, [.int 0, .int wo, .int fu, .ref gs, .ref go, .ref gt, .ref gp, .ref gw, .double la, .double ea, .ref gl, .int (nI (tput (wt9 x1 x2 lf) 115).1), .int fd])), (gl, aI 40 (cA 0) ((tput (wt9 x1 x2 lf) 115).2))] H := hP
                have hD : va_D A [(am, .inr (2, [.int 0, .int wo, .int fu, .ref gs, .ref go, .ref gt, .ref gp, .ref gw, .double la, .double ea, .ref gl, .int (nI (tput (wt9 x1 x2 lf) 115).1), .int fd])), (gl, aI 40 (cA 0) ((tput (wt9 x1 x2 lf) 115).2))] := hD
                refine lv_aload_n hx hb dX2_write_207 rfl (lv_at hl 0 rfl) ?_
                refine va_get (D := (dC, dI)) (ci := 2) (v := .int (nI (tput (wt9 x1 x2 lf) 115).1)) (C := RX2) (T := TX2) (N := 13) hx hb hts hin2 hown hK hP 0 rfl rfl 11 (by decide) (hts (.fieldLink RX2 256 "SkyAlmanacModel" "letters" "I") (by decide +kernel)) (fun _ h9 => h9) rfl dX2_write_208 ?_
                have e1 : cd1 (f_X1_write x1 x2 lf) = 0 := by rw [e0]; rfl
                have hP : va_P (dC, dI) vwCl [(am, .inr (2, [.int (cd1 (f_X1_write x1 x2 lf)), .int wo, .int fu, .ref gs, .ref go, .ref gt, .ref gp, .ref gw, .double la, .double ea, .ref gl, .int (if cd1 (f_X1_write x1 x2 lf) = 0 then nI (WRT x1 x2 lf).1 else ln), .int fd])), (gl, aI 40 (cA 0) (if cd1 (f_X1_write x1 x2 lf) = 0 then (WRT x1 x2 lf).2 else lf))] H := by simp only [if_pos e1]; rw [e1]; exact hP
                have hD : va_D A [(am, .inr (2, [.int (cd1 (f_X1_write x1 x2 lf)), .int wo, .int fu, .ref gs, .ref go, .ref gt, .ref gp, .ref gw, .double la, .double ea, .ref gl, .int (if cd1 (f_X1_write x1 x2 lf) = 0 then nI (WRT x1 x2 lf).1 else ln), .int fd])), (gl, aI 40 (cA 0) (if cd1 (f_X1_write x1 x2 lf) = 0 then (WRT x1 x2 lf).2 else lf))] := by simp only [if_pos e1]; rw [e1]; exact hD
                subst hQQ
                exact W.iret hx hb hr (fun t ht hW => ⟨⟨_, (), rfl, (fun v hv => by rw [e0] at hv; cases hv; rfl), ⟨by rw [ht]; exact hP, hD⟩⟩, hS.F ht⟩) hS.2.2 dX2_write_211
              refine lv_iload_n hx hb dX2_write_181 rfl (lv_at hl 4 rfl) ?_
              refine lv_if_le (tgt := 201) hx hb dX2_write_182 (by decide) (fun c_27 => ?_) (fun c_27 => ?_)
              · have hP : va_P (dC, dI) vwCl [(am, .inr (2, [.int 0, .int wo, .int fu, .ref gs, .ref go, .ref gt, .ref gp, .ref gw, .double la, .double ea, .ref gl, .int (nI (wt9 x1 x2 lf).1), .int fd])), (gl, aI 40 (cA 0) ((wt9 x1 x2 lf).2))] H := by rw [show wt9 x1 x2 lf = wt6 x1 x2 lf by unfold wt9; rw [if_pos c_27]]; exact hP
                have hD : va_D A [(am, .inr (2, [.int 0, .int wo, .int fu, .ref gs, .ref go, .ref gt, .ref gp, .ref gw, .double la, .double ea, .ref gl, .int (nI (wt9 x1 x2 lf).1), .int fd])), (gl, aI 40 (cA 0) ((wt9 x1 x2 lf).2))] := by rw [show wt9 x1 x2 lf = wt6 x1 x2 lf by unfold wt9; rw [if_pos c_27]]; exact hD
                exact hJ201 _ _ _ hP hD hS (lv_sub hl [2, 3, 4] rfl)
              · refine lv_aload_n hx hb dX2_write_185 rfl (lv_at hl 2 rfl) ?_
                refine lv_bipush (v := 46) hx hb dX2_write_186 (by decide) ?_
                have hPc := hP.sub (ws' := [(am, .inr (2, [.int 0, .int wo, .int fu, .ref gs, .ref go, .ref gt, .ref gp, .ref gw, .double la, .double ea, .ref gl, .int (nI (wt6 x1 x2 lf).1), .int fd])), (gl, aI 40 (cA 0) ((wt6 x1 x2 lf).2))]) [0, 1] rfl
                have hDc := hD.sub (ws' := [(am, .inr (2, [.int 0, .int wo, .int fu, .ref gs, .ref go, .ref gt, .ref gp, .ref gw, .double la, .double ea, .ref gl, .int (nI (wt6 x1 x2 lf).1), .int fd])), (gl, aI 40 (cA 0) ((wt6 x1 x2 lf).2))]) [0, 1] (by decide) rfl
                have hFc := va_free (wc := [(am, .inr (2, [.int 0, .int wo, .int fu, .ref gs, .ref go, .ref gt, .ref gp, .ref gw, .double la, .double ea, .ref gl, .int (nI (wt6 x1 x2 lf).1), .int fd])), (gl, aI 40 (cA 0) ((wt6 x1 x2 lf).2))]) hD hS hA [0, 1] rfl
                refine va_callv (va_runV (As := [.int 46]) (rest := []) ⟨hx, hb, hml, hown, hts⟩ (k_X2_put l hst dC dI cA tm tt _ am gs go gt gp gw gl 0 wo fu la ea fd (wt6 x1 x2 lf) 46 (by omega)) (cwV 1 hts gX2_write_X2_put rfl rfl rfl (by decide +kernel) ⟨Nat.le_of_ble_eq_true rfl, Nat.le_of_ble_eq_true rfl⟩) ⟨PcW.blind, va_recv hK hPc (ci := 2) (q0 := 0) rfl rfl, PcW.give hPc hK hDc hE hS hFc⟩ rfl rfl hl.1 rfl (lv_room (Nat.le_of_ble_eq_true rfl)) dX2_write_188 ⟨Nat.le_of_ble_eq_true rfl, Nat.le_of_ble_eq_true rfl⟩) hS (fun q _ h => hFc q h) hFc (fun u t H locs ht hvm hp_29 hB hz1 hk1 hS => ?_)
                obtain ⟨hP1, hD1⟩ := hB
                rw [ht] at hP1
                obtain ⟨hP, hD⟩ := va_join (wr := []) (w1 := [(am, .inr (2, [.int 0, .int wo, .int fu, .ref gs, .ref go, .ref gt, .ref gp, .ref gw, .double la, .double ea, .ref gl, .int (nI ((wt6 x1 x2 lf).1 + 1)), .int fd])), (gl, aI 40 (cA 0) (upd (wt6 x1 x2 lf).2 (wt6 x1 x2 lf).1 46))]) hP hD [0, 1] [] rfl rfl (by decide) (by decide) hk1 hFc hP1 hD1
                have hP := hP.sub (ws' := [(am, .inr (2, [.int 0, .int wo, .int fu, .ref gs, .ref go, .ref gt, .ref gp, .ref gw, .double la, .double ea, .ref gl, .int (nI ((wt6 x1 x2 lf).1 + 1)), .int fd])), (gl, aI 40 (cA 0) (upd (wt6 x1 x2 lf).2 (wt6 x1 x2 lf).1 46))]) [0, 1] rfl
                have hD := hD.sub (ws' := [(am, .inr (2, [.int 0, .int wo, .int fu, .ref gs, .ref go, .ref gt, .ref gp, .ref gw, .double la, .double ea, .ref gl, .int (nI ((wt6 x1 x2 lf).1 + 1)), .int fd])), (gl, aI 40 (cA 0) (upd (wt6 x1 x2 lf).2 (wt6 x1 x2 lf).1 46))]) [0, 1] (by decide) rfl
                have hP : va_P (dC, dI) vwCl [(am, .inr (2, [.int 0, .int wo, .int fu, .ref gs, .ref go, .ref gt, .ref gp, .ref gw, .double la, .double ea, .ref gl, .int (nI (tput (wt6 x1 x2 lf) 46).1), .int fd])), (gl, aI 40 (cA 0) ((tput (wt6 x1 x2 lf) 46).2))] H := hP
                have hD : va_D A [(am, .inr (2, [.int 0, .int wo, .int fu, .ref gs, .ref go, .ref gt, .ref gp, .ref gw, .double la, .double ea, .ref gl, .int (nI (tput (wt6 x1 x2 lf) 46).1), .int fd])), (gl, aI 40 (cA 0) ((tput (wt6 x1 x2 lf) 46).2))] := hD
                refine lv_aload_n hx hb dX2_write_191 rfl (lv_at hl 2 rfl) ?_
                refine lv_lload hx hb dX2_write_192 (lv_at hl 1 rfl) ?_
                refine lv_lload hx hb dX2_write_194 (lv_at hl 5 rfl) ?_
                refine lv_lrem hx hb dX2_write_196 ht0 ?_
                rw [show WU x1 x2 - WU x1 x2 / f_X1_tenToThe x2 * f_X1_tenToThe x2 = WU x1 x2 - WS x1 x2 * f_X1_tenToThe x2 by rw [hws]]
                refine lv_iload_n hx hb dX2_write_197 rfl (lv_at hl 4 rfl) ?_
                have hPc := hP.sub (ws' := [(am, .inr (2, [.int 0, .int wo, .int fu, .ref gs, .ref go, .ref gt, .ref gp, .ref gw, .double la, .double ea, .ref gl, .int (nI (tput (wt6 x1 x2 lf) 46).1), .int fd])), (gl, aI 40 (cA 0) ((tput (wt6 x1 x2 lf) 46).2))]) [0, 1] rfl
                have hDc := hD.sub (ws' := [(am, .inr (2, [.int 0, .int wo, .int fu, .ref gs, .ref go, .ref gt, .ref gp, .ref gw, .double la, .double ea, .ref gl, .int (nI (tput (wt6 x1 x2 lf) 46).1), .int fd])), (gl, aI 40 (cA 0) ((tput (wt6 x1 x2 lf) 46).2))]) [0, 1] (by decide) rfl
                have hFc := va_free (wc := [(am, .inr (2, [.int 0, .int wo, .int fu, .ref gs, .ref go, .ref gt, .ref gp, .ref gw, .double la, .double ea, .ref gl, .int (nI (tput (wt6 x1 x2 lf) 46).1), .int fd])), (gl, aI 40 (cA 0) ((tput (wt6 x1 x2 lf) 46).2))]) hD hS hA [0, 1] rfl
                refine va_callv (va_runV (As := [.long (WU x1 x2 - WS x1 x2 * f_X1_tenToThe x2), .int x2]) (rest := []) ⟨hx, hb, hml, hown, hts⟩ (k_X2_digits l hst dC dI cA tm tt _ am gs go gt gp gw gl 0 wo fu la ea fd (tput (wt6 x1 x2 lf) 46) (WU x1 x2 - WS x1 x2 * f_X1_tenToThe x2) x2 ha4.1 (by omega) (nle_lt2 c_27) (by omega) (by show (wt6 x1 x2 lf).1 + 1 + 6 ≤ 40; omega)) (cwV 2 hts gX2_write_X2_digits rfl rfl rfl (by decide +kernel) ⟨Nat.le_of_ble_eq_true rfl, Nat.le_of_ble_eq_true rfl⟩) ⟨PcW.blind, va_recv hK hPc (ci := 2) (q0 := 0) rfl rfl, PcW.give hPc hK hDc hE hS hFc⟩ rfl rfl hl.1 rfl (lv_room (Nat.le_of_ble_eq_true rfl)) dX2_write_198 ⟨Nat.le_of_ble_eq_true rfl, Nat.le_of_ble_eq_true rfl⟩) hS (fun q _ h => hFc q h) hFc (fun u t H locs ht hvm hp_31 hB hz1 hk1 hS => ?_)
                obtain ⟨hP1, hD1⟩ := hB
                rw [ht] at hP1
                obtain ⟨hP, hD⟩ := va_join (wr := []) (w1 := [(am, .inr (2, [.int 0, .int wo, .int fu, .ref gs, .ref go, .ref gt, .ref gp, .ref gw, .double la, .double ea, .ref gl, .int (nI (pnL (WU x1 x2 - WS x1 x2 * f_X1_tenToThe x2) x2 6 (tput (wt6 x1 x2 lf) 46)).1), .int fd])), (gl, aI 40 (cA 0) ((pnL (WU x1 x2 - WS x1 x2 * f_X1_tenToThe x2) x2 6 (tput (wt6 x1 x2 lf) 46)).2))]) hP hD [0, 1] [] rfl rfl (by decide) (by decide) hk1 hFc hP1 hD1
                have hP := hP.sub (ws' := [(am, .inr (2, [.int 0, .int wo, .int fu, .ref gs, .ref go, .ref gt, .ref gp, .ref gw, .double la, .double ea, .ref gl, .int (nI (pnL (WU x1 x2 - WS x1 x2 * f_X1_tenToThe x2) x2 6 (tput (wt6 x1 x2 lf) 46)).1), .int fd])), (gl, aI 40 (cA 0) ((pnL (WU x1 x2 - WS x1 x2 * f_X1_tenToThe x2) x2 6 (tput (wt6 x1 x2 lf) 46)).2))]) [0, 1] rfl
                have hD := hD.sub (ws' := [(am, .inr (2, [.int 0, .int wo, .int fu, .ref gs, .ref go, .ref gt, .ref gp, .ref gw, .double la, .double ea, .ref gl, .int (nI (pnL (WU x1 x2 - WS x1 x2 * f_X1_tenToThe x2) x2 6 (tput (wt6 x1 x2 lf) 46)).1), .int fd])), (gl, aI 40 (cA 0) ((pnL (WU x1 x2 - WS x1 x2 * f_X1_tenToThe x2) x2 6 (tput (wt6 x1 x2 lf) 46)).2))]) [0, 1] (by decide) rfl
                have hP : va_P (dC, dI) vwCl [(am, .inr (2, [.int 0, .int wo, .int fu, .ref gs, .ref go, .ref gt, .ref gp, .ref gw, .double la, .double ea, .ref gl, .int (nI (wt8 x1 x2 lf).1), .int fd])), (gl, aI 40 (cA 0) ((wt8 x1 x2 lf).2))] H := hP
                have hD : va_D A [(am, .inr (2, [.int 0, .int wo, .int fu, .ref gs, .ref go, .ref gt, .ref gp, .ref gw, .double la, .double ea, .ref gl, .int (nI (wt8 x1 x2 lf).1), .int fd])), (gl, aI 40 (cA 0) ((wt8 x1 x2 lf).2))] := hD
                have hP : va_P (dC, dI) vwCl [(am, .inr (2, [.int 0, .int wo, .int fu, .ref gs, .ref go, .ref gt, .ref gp, .ref gw, .double la, .double ea, .ref gl, .int (nI (wt9 x1 x2 lf).1), .int fd])), (gl, aI 40 (cA 0) ((wt9 x1 x2 lf).2))] H := by rw [show wt9 x1 x2 lf = wt8 x1 x2 lf by unfold wt9; rw [if_neg c_27]]; exact hP
                have hD : va_D A [(am, .inr (2, [.int 0, .int wo, .int fu, .ref gs, .ref go, .ref gt, .ref gp, .ref gw, .double la, .double ea, .ref gl, .int (nI (wt9 x1 x2 lf).1), .int fd])), (gl, aI 40 (cA 0) ((wt9 x1 x2 lf).2))] := by rw [show wt9 x1 x2 lf = wt8 x1 x2 lf by unfold wt9; rw [if_neg c_27]]; exact hD
                exact hJ201 _ _ _ hP hD hS (lv_sub hl [2, 3, 4] rfl)
            refine lv_dload_n hx hb dX2_write_106 rfl (lv_at hl 3 rfl) ?_
            refine lv_dconst0 hx hb dX2_write_107 ?_
            have r_32 : fR FP.dconst0 0 0 := fR_lit (by decide +kernel)
            refine zd_g_ge (tgt := 125) hx hb dX2_write_108 dX2_write_109 (by decide) (fun c_33 => ?_) (fun c_33 => ?_)
            · have hP : va_P (dC, dI) vwCl [(am, .inr (2, [.int 0, .int wo, .int fu, .ref gs, .ref go, .ref gt, .ref gp, .ref gw, .double la, .double ea, .ref gl, .int (nI (wt1 x1 x2 lf).1), .int fd])), (gl, aI 40 (cA 0) ((wt1 x1 x2 lf).2))] H := by rw [show wt1 x1 x2 lf = ((0, lf) : TX) by unfold wt1; rw [if_neg c_33]]; exact hP
              have hD : va_D A [(am, .inr (2, [.int 0, .int wo, .int fu, .ref gs, .ref go, .ref gt, .ref gp, .ref gw, .double la, .double ea, .ref gl, .int (nI (wt1 x1 x2 lf).1), .int fd])), (gl, aI 40 (cA 0) ((wt1 x1 x2 lf).2))] := by rw [show wt1 x1 x2 lf = ((0, lf) : TX) by unfold wt1; rw [if_neg c_33]]; exact hD
              exact hJ125 _ _ _ hP hD hS (lv_sub hl [0, 2, 3, 4, 6] rfl)
            · refine lv_lload hx hb dX2_write_112 (lv_at hl 0 rfl) ?_
              refine lv_lconst (v := 0) hx hb dX2_write_114 (by decide) ?_
              refine zl_le (tgt := 125) hx hb dX2_write_115 dX2_write_116 (by decide) (fun c_34 => ?_) (fun c_34 => ?_)
              · have hP : va_P (dC, dI) vwCl [(am, .inr (2, [.int 0, .int wo, .int fu, .ref gs, .ref go, .ref gt, .ref gp, .ref gw, .double la, .double ea, .ref gl, .int (nI (wt1 x1 x2 lf).1), .int fd])), (gl, aI 40 (cA 0) ((wt1 x1 x2 lf).2))] H := by rw [show wt1 x1 x2 lf = ((0, lf) : TX) by unfold wt1; rw [if_pos c_33, if_pos c_34]]; exact hP
                have hD : va_D A [(am, .inr (2, [.int 0, .int wo, .int fu, .ref gs, .ref go, .ref gt, .ref gp, .ref gw, .double la, .double ea, .ref gl, .int (nI (wt1 x1 x2 lf).1), .int fd])), (gl, aI 40 (cA 0) ((wt1 x1 x2 lf).2))] := by rw [show wt1 x1 x2 lf = ((0, lf) : TX) by unfold wt1; rw [if_pos c_33, if_pos c_34]]; exact hD
                exact hJ125 _ _ _ hP hD hS (lv_sub hl [0, 2, 3, 4, 6] rfl)
              · refine lv_aload_n hx hb dX2_write_119 rfl (lv_at hl 2 rfl) ?_
                refine lv_bipush (v := 45) hx hb dX2_write_120 (by decide) ?_
                have hPc := hP.sub (ws' := [(am, .inr (2, [.int 0, .int wo, .int fu, .ref gs, .ref go, .ref gt, .ref gp, .ref gw, .double la, .double ea, .ref gl, .int (nI ((0, lf) : TX).1), .int fd])), (gl, aI 40 (cA 0) (((0, lf) : TX).2))]) [0, 1] rfl
                have hDc := hD.sub (ws' := [(am, .inr (2, [.int 0, .int wo, .int fu, .ref gs, .ref go, .ref gt, .ref gp, .ref gw, .double la, .double ea, .ref gl, .int (nI ((0, lf) : TX).1), .int fd])), (gl, aI 40 (cA 0) (((0, lf) : TX).2))]) [0, 1] (by decide) rfl
                have hFc := va_free (wc := [(am, .inr (2, [.int 0, .int wo, .int fu, .ref gs, .ref go, .ref gt, .ref gp, .ref gw, .double la, .double ea, .ref gl, .int (nI ((0, lf) : TX).1), .int fd])), (gl, aI 40 (cA 0) (((0, lf) : TX).2))]) hD hS hA [0, 1] rfl
                refine va_callv (va_runV (As := [.int 45]) (rest := []) ⟨hx, hb, hml, hown, hts⟩ (k_X2_put l hst dC dI cA tm tt _ am gs go gt gp gw gl 0 wo fu la ea fd ((0, lf) : TX) 45 (show 0 < 40 by decide)) (cwV 1 hts gX2_write_X2_put rfl rfl rfl (by decide +kernel) ⟨Nat.le_of_ble_eq_true rfl, Nat.le_of_ble_eq_true rfl⟩) ⟨PcW.blind, va_recv hK hPc (ci := 2) (q0 := 0) rfl rfl, PcW.give hPc hK hDc hE hS hFc⟩ rfl rfl hl.1 rfl (lv_room (Nat.le_of_ble_eq_true rfl)) dX2_write_122 ⟨Nat.le_of_ble_eq_true rfl, Nat.le_of_ble_eq_true rfl⟩) hS (fun q _ h => hFc q h) hFc (fun u t H locs ht hvm hp_36 hB hz1 hk1 hS => ?_)
                obtain ⟨hP1, hD1⟩ := hB
                rw [ht] at hP1
                obtain ⟨hP, hD⟩ := va_join (wr := []) (w1 := [(am, .inr (2, [.int 0, .int wo, .int fu, .ref gs, .ref go, .ref gt, .ref gp, .ref gw, .double la, .double ea, .ref gl, .int (nI (((0, lf) : TX).1 + 1)), .int fd])), (gl, aI 40 (cA 0) (upd ((0, lf) : TX).2 ((0, lf) : TX).1 45))]) hP hD [0, 1] [] rfl rfl (by decide) (by decide) hk1 hFc hP1 hD1
                have hP := hP.sub (ws' := [(am, .inr (2, [.int 0, .int wo, .int fu, .ref gs, .ref go, .ref gt, .ref gp, .ref gw, .double la, .double ea, .ref gl, .int (nI (((0, lf) : TX).1 + 1)), .int fd])), (gl, aI 40 (cA 0) (upd ((0, lf) : TX).2 ((0, lf) : TX).1 45))]) [0, 1] rfl
                have hD := hD.sub (ws' := [(am, .inr (2, [.int 0, .int wo, .int fu, .ref gs, .ref go, .ref gt, .ref gp, .ref gw, .double la, .double ea, .ref gl, .int (nI (((0, lf) : TX).1 + 1)), .int fd])), (gl, aI 40 (cA 0) (upd ((0, lf) : TX).2 ((0, lf) : TX).1 45))]) [0, 1] (by decide) rfl
                have hP : va_P (dC, dI) vwCl [(am, .inr (2, [.int 0, .int wo, .int fu, .ref gs, .ref go, .ref gt, .ref gp, .ref gw, .double la, .double ea, .ref gl, .int (nI (tput ((0, lf) : TX) 45).1), .int fd])), (gl, aI 40 (cA 0) ((tput ((0, lf) : TX) 45).2))] H := hP
                have hD : va_D A [(am, .inr (2, [.int 0, .int wo, .int fu, .ref gs, .ref go, .ref gt, .ref gp, .ref gw, .double la, .double ea, .ref gl, .int (nI (tput ((0, lf) : TX) 45).1), .int fd])), (gl, aI 40 (cA 0) ((tput ((0, lf) : TX) 45).2))] := hD
                have hP : va_P (dC, dI) vwCl [(am, .inr (2, [.int 0, .int wo, .int fu, .ref gs, .ref go, .ref gt, .ref gp, .ref gw, .double la, .double ea, .ref gl, .int (nI (wt1 x1 x2 lf).1), .int fd])), (gl, aI 40 (cA 0) ((wt1 x1 x2 lf).2))] H := by rw [show wt1 x1 x2 lf = tput (0, lf) 45 by unfold wt1; rw [if_pos c_33, if_neg c_34]]; exact hP
                have hD : va_D A [(am, .inr (2, [.int 0, .int wo, .int fu, .ref gs, .ref go, .ref gt, .ref gp, .ref gw, .double la, .double ea, .ref gl, .int (nI (wt1 x1 x2 lf).1), .int fd])), (gl, aI 40 (cA 0) ((wt1 x1 x2 lf).2))] := by rw [show wt1 x1 x2 lf = tput (0, lf) 45 by unfold wt1; rw [if_pos c_33, if_neg c_34]]; exact hD
                exact hJ125 _ _ _ hP hD hS (lv_sub hl [0, 2, 3, 4, 6] rfl)
          refine lv_dload_n hx hb dX2_write_70 rfl (lv_at hl 1 rfl) ?_
          refine lv_dconst0 hx hb dX2_write_71 ?_
          have r_37 : fR FP.dconst0 0 0 := fR_lit (by decide +kernel)
          refine zd_g_ge (tgt := 82) hx hb dX2_write_72 dX2_write_73 (by decide) (fun c_38 => ?_) (fun c_38 => ?_)
          · refine lv_dload_n hx hb dX2_write_82 rfl (lv_at hl 1 rfl) ?_
            refine W.stk (st := [.double x1]) (st' := [.double (WAM x1)]) (congrArg (fun x => [Value.double x]) (by unfold WAM; rw [if_neg c_38])) ?_
            exact hJ83 _ _ _ hP hD hS (lv_sub hl [0, 1, 2, 3, 4] rfl)
          · refine lv_dconst0 hx hb dX2_write_76 ?_
            have r_39 : fR FP.dconst0 0 0 := fR_lit (by decide +kernel)
            refine lv_dload_n hx hb dX2_write_77 rfl (lv_at hl 1 rfl) ?_
            have r_40 := fR_sub r_39 h1w (-107374182400000) 107374182400000 (by decide) (by decide) rfl rfl
            refine lv_dsub hx hb dX2_write_78 (fR_nn r_40) ?_
            refine lv_goto (tgt := 83) hx hb dX2_write_79 (by decide) ?_
            refine W.stk (st := [.double (FP.dsub FP.dconst0 x1)]) (st' := [.double (WAM x1)]) (congrArg (fun x => [Value.double x]) (by unfold WAM; rw [if_pos c_38]; exact sub0 h1w.1 c_38)) ?_
            exact hJ83 _ _ _ hP hD hS (lv_sub hl [0, 1, 2, 3, 4] rfl)
        refine lv_dconst1 hx hb dX2_write_33 ?_
        have r_41 : fR FP.dconst1 1073741824 1073741824 := fR_lit (by decide +kernel)
        refine lv_dstore (lv' := [(4, .double FP.dconst1), (0, .ref am), (1, .double x1), (3, .int x2)]) hx hb dX2_write_34 hl (by decide) rfl (fun ls hl => ?_)
        refine lv_lconst (v := 1) hx hb dX2_write_36 (by decide) ?_
        refine lv_lstore (lv' := [(6, .long 1), (4, .double FP.dconst1), (0, .ref am), (1, .double x1), (3, .int x2)]) hx hb dX2_write_37 hl (by decide) rfl (fun ls hl => ?_)
        refine lv_iconst (v := 0) hx hb dX2_write_39 (by decide) ?_
        refine lv_istore (lv' := [(8, .int 0), (6, .long 1), (4, .double FP.dconst1), (0, .ref am), (1, .double x1), (3, .int x2)]) hx hb dX2_write_40 hl (by decide) rfl (fun ls hl => ?_)
        refine lv_iload hx hb dX2_write_42 (lv_at hl 0 rfl) ?_
        refine lv_iload_n hx hb dX2_write_44 rfl (lv_at hl 5 rfl) ?_
        refine lv_icmp_ge (tgt := 70) hx hb dX2_write_45 (by decide) (fun c_42 => ?_) (fun c_42 => ?_)
        · have ek : x2 = 0 := le_eq0 c_42 c_6
          have hl : lv_has ls 14 [(8, .int 0), (6, .long (f_X1_tenToThe x2)), (4, .double (FP.l2d (f_X1_tenToThe x2))), (0, .ref am), (1, .double x1), (3, .int x2)] := by
            rw [show FP.l2d (f_X1_tenToThe x2) = FP.dconst1 by rw [ek]; decide +kernel, show f_X1_tenToThe x2 = 1 by rw [ek]; decide +kernel]; exact hl
          exact hJ70 _ _ _ hP hD hS (lv_sub hl [3, 4, 5, 2, 1] rfl)
        · refine lv_dload hx hb dX2_write_48 (lv_at hl 2 rfl) ?_
          refine lv_ldc2d hx hb hown (hts (.constantDouble RX2 172 (4621819117588971520)) (by decide +kernel)) dX2_write_50 ?_
          have r_43 : fR 4621819117588971520 10737418240 10737418240 := fR_lit (by decide +kernel)
          have r_44 := fR_mul r_41 r_43 10737418240 10737418240 (by decide) (by decide) rfl rfl
          refine lv_dmul hx hb dX2_write_53 (fR_nn r_44) ?_
          refine lv_dstore (lv' := [(4, .double (FP.dmul FP.dconst1 4621819117588971520)), (8, .int 0), (6, .long 1), (0, .ref am), (1, .double x1), (3, .int x2)]) hx hb dX2_write_54 hl (by decide) rfl (fun ls hl => ?_)
          refine lv_lload hx hb dX2_write_56 (lv_at hl 2 rfl) ?_
          refine lv_ldc2 hx hb hown (hts (.constantLong RX2 259 (10)) (by decide +kernel)) dX2_write_58 ?_
          refine lv_lmul hx hb dX2_write_61 ?_
          refine lv_lstore (lv' := [(6, .long (1 * 10)), (4, .double (FP.dmul FP.dconst1 4621819117588971520)), (8, .int 0), (0, .ref am), (1, .double x1), (3, .int x2)]) hx hb dX2_write_62 hl (by decide) rfl (fun ls hl => ?_)
          refine lv_iinc (v := 1) (lv' := [(8, .int 1), (6, .long (1 * 10)), (4, .double (FP.dmul FP.dconst1 4621819117588971520)), (0, .ref am), (1, .double x1), (3, .int x2)]) hx hb dX2_write_64 hl (k := 2) rfl (by first | rfl | decide) (by decide) rfl (fun ls hl => ?_)
          refine lv_goto (tgt := 42) hx hb dX2_write_67 (by decide) ?_
          refine lv_iload hx hb dX2_write_42 (lv_at hl 0 rfl) ?_
          refine lv_iload_n hx hb dX2_write_44 rfl (lv_at hl 5 rfl) ?_
          refine lv_icmp_ge (tgt := 70) hx hb dX2_write_45 (by decide) (fun c_45 => ?_) (fun c_45 => ?_)
          · have ek : x2 = 1 := le_eq (a := 1) (b := 0) rfl c_45 c_42
            have hl : lv_has ls 14 [(8, .int 1), (6, .long (f_X1_tenToThe x2)), (4, .double (FP.l2d (f_X1_tenToThe x2))), (0, .ref am), (1, .double x1), (3, .int x2)] := by
              rw [show FP.l2d (f_X1_tenToThe x2) = FP.dmul FP.dconst1 4621819117588971520 by rw [ek]; decide +kernel, show f_X1_tenToThe x2 = 1 * 10 by rw [ek]; decide +kernel]; exact hl
            exact hJ70 _ _ _ hP hD hS (lv_sub hl [3, 4, 5, 2, 1] rfl)
          · refine lv_dload hx hb dX2_write_48 (lv_at hl 2 rfl) ?_
            refine lv_ldc2d hx hb hown (hts (.constantDouble RX2 172 (4621819117588971520)) (by decide +kernel)) dX2_write_50 ?_
            have r_46 : fR 4621819117588971520 10737418240 10737418240 := fR_lit (by decide +kernel)
            have r_47 := fR_mul r_44 r_46 107374182400 107374182400 (by decide) (by decide) rfl rfl
            refine lv_dmul hx hb dX2_write_53 (fR_nn r_47) ?_
            refine lv_dstore (lv' := [(4, .double (FP.dmul (FP.dmul FP.dconst1 4621819117588971520) 4621819117588971520)), (8, .int 1), (6, .long (1 * 10)), (0, .ref am), (1, .double x1), (3, .int x2)]) hx hb dX2_write_54 hl (by decide) rfl (fun ls hl => ?_)
            refine lv_lload hx hb dX2_write_56 (lv_at hl 2 rfl) ?_
            refine lv_ldc2 hx hb hown (hts (.constantLong RX2 259 (10)) (by decide +kernel)) dX2_write_58 ?_
            refine lv_lmul hx hb dX2_write_61 ?_
            refine lv_lstore (lv' := [(6, .long ((1 * 10) * 10)), (4, .double (FP.dmul (FP.dmul FP.dconst1 4621819117588971520) 4621819117588971520)), (8, .int 1), (0, .ref am), (1, .double x1), (3, .int x2)]) hx hb dX2_write_62 hl (by decide) rfl (fun ls hl => ?_)
            refine lv_iinc (v := 2) (lv' := [(8, .int 2), (6, .long ((1 * 10) * 10)), (4, .double (FP.dmul (FP.dmul FP.dconst1 4621819117588971520) 4621819117588971520)), (0, .ref am), (1, .double x1), (3, .int x2)]) hx hb dX2_write_64 hl (k := 2) rfl (by first | rfl | decide) (by decide) rfl (fun ls hl => ?_)
            refine lv_goto (tgt := 42) hx hb dX2_write_67 (by decide) ?_
            refine lv_iload hx hb dX2_write_42 (lv_at hl 0 rfl) ?_
            refine lv_iload_n hx hb dX2_write_44 rfl (lv_at hl 5 rfl) ?_
            refine lv_icmp_ge (tgt := 70) hx hb dX2_write_45 (by decide) (fun c_48 => ?_) (fun c_48 => ?_)
            · have ek : x2 = 2 := le_eq (a := 2) (b := 1) rfl c_48 c_45
              have hl : lv_has ls 14 [(8, .int 2), (6, .long (f_X1_tenToThe x2)), (4, .double (FP.l2d (f_X1_tenToThe x2))), (0, .ref am), (1, .double x1), (3, .int x2)] := by
                rw [show FP.l2d (f_X1_tenToThe x2) = FP.dmul (FP.dmul FP.dconst1 4621819117588971520) 4621819117588971520 by rw [ek]; decide +kernel, show f_X1_tenToThe x2 = (1 * 10) * 10 by rw [ek]; decide +kernel]; exact hl
              exact hJ70 _ _ _ hP hD hS (lv_sub hl [3, 4, 5, 2, 1] rfl)
            · refine lv_dload hx hb dX2_write_48 (lv_at hl 2 rfl) ?_
              refine lv_ldc2d hx hb hown (hts (.constantDouble RX2 172 (4621819117588971520)) (by decide +kernel)) dX2_write_50 ?_
              have r_49 : fR 4621819117588971520 10737418240 10737418240 := fR_lit (by decide +kernel)
              have r_50 := fR_mul r_47 r_49 1073741824000 1073741824000 (by decide) (by decide) rfl rfl
              refine lv_dmul hx hb dX2_write_53 (fR_nn r_50) ?_
              refine lv_dstore (lv' := [(4, .double (FP.dmul (FP.dmul (FP.dmul FP.dconst1 4621819117588971520) 4621819117588971520) 4621819117588971520)), (8, .int 2), (6, .long ((1 * 10) * 10)), (0, .ref am), (1, .double x1), (3, .int x2)]) hx hb dX2_write_54 hl (by decide) rfl (fun ls hl => ?_)
              refine lv_lload hx hb dX2_write_56 (lv_at hl 2 rfl) ?_
              refine lv_ldc2 hx hb hown (hts (.constantLong RX2 259 (10)) (by decide +kernel)) dX2_write_58 ?_
              refine lv_lmul hx hb dX2_write_61 ?_
              refine lv_lstore (lv' := [(6, .long (((1 * 10) * 10) * 10)), (4, .double (FP.dmul (FP.dmul (FP.dmul FP.dconst1 4621819117588971520) 4621819117588971520) 4621819117588971520)), (8, .int 2), (0, .ref am), (1, .double x1), (3, .int x2)]) hx hb dX2_write_62 hl (by decide) rfl (fun ls hl => ?_)
              refine lv_iinc (v := 3) (lv' := [(8, .int 3), (6, .long (((1 * 10) * 10) * 10)), (4, .double (FP.dmul (FP.dmul (FP.dmul FP.dconst1 4621819117588971520) 4621819117588971520) 4621819117588971520)), (0, .ref am), (1, .double x1), (3, .int x2)]) hx hb dX2_write_64 hl (k := 2) rfl (by first | rfl | decide) (by decide) rfl (fun ls hl => ?_)
              refine lv_goto (tgt := 42) hx hb dX2_write_67 (by decide) ?_
              refine lv_iload hx hb dX2_write_42 (lv_at hl 0 rfl) ?_
              refine lv_iload_n hx hb dX2_write_44 rfl (lv_at hl 5 rfl) ?_
              refine lv_icmp_ge (tgt := 70) hx hb dX2_write_45 (by decide) (fun c_51 => ?_) (fun c_51 => ?_)
              · have ek : x2 = 3 := le_eq (a := 3) (b := 2) rfl c_51 c_48
                have hl : lv_has ls 14 [(8, .int 3), (6, .long (f_X1_tenToThe x2)), (4, .double (FP.l2d (f_X1_tenToThe x2))), (0, .ref am), (1, .double x1), (3, .int x2)] := by
                  rw [show FP.l2d (f_X1_tenToThe x2) = FP.dmul (FP.dmul (FP.dmul FP.dconst1 4621819117588971520) 4621819117588971520) 4621819117588971520 by rw [ek]; decide +kernel, show f_X1_tenToThe x2 = ((1 * 10) * 10) * 10 by rw [ek]; decide +kernel]; exact hl
                exact hJ70 _ _ _ hP hD hS (lv_sub hl [3, 4, 5, 2, 1] rfl)
              · refine lv_dload hx hb dX2_write_48 (lv_at hl 2 rfl) ?_
                refine lv_ldc2d hx hb hown (hts (.constantDouble RX2 172 (4621819117588971520)) (by decide +kernel)) dX2_write_50 ?_
                have r_52 : fR 4621819117588971520 10737418240 10737418240 := fR_lit (by decide +kernel)
                have r_53 := fR_mul r_50 r_52 10737418240000 10737418240000 (by decide) (by decide) rfl rfl
                refine lv_dmul hx hb dX2_write_53 (fR_nn r_53) ?_
                refine lv_dstore (lv' := [(4, .double (FP.dmul (FP.dmul (FP.dmul (FP.dmul FP.dconst1 4621819117588971520) 4621819117588971520) 4621819117588971520) 4621819117588971520)), (8, .int 3), (6, .long (((1 * 10) * 10) * 10)), (0, .ref am), (1, .double x1), (3, .int x2)]) hx hb dX2_write_54 hl (by decide) rfl (fun ls hl => ?_)
                refine lv_lload hx hb dX2_write_56 (lv_at hl 2 rfl) ?_
                refine lv_ldc2 hx hb hown (hts (.constantLong RX2 259 (10)) (by decide +kernel)) dX2_write_58 ?_
                refine lv_lmul hx hb dX2_write_61 ?_
                refine lv_lstore (lv' := [(6, .long ((((1 * 10) * 10) * 10) * 10)), (4, .double (FP.dmul (FP.dmul (FP.dmul (FP.dmul FP.dconst1 4621819117588971520) 4621819117588971520) 4621819117588971520) 4621819117588971520)), (8, .int 3), (0, .ref am), (1, .double x1), (3, .int x2)]) hx hb dX2_write_62 hl (by decide) rfl (fun ls hl => ?_)
                refine lv_iinc (v := 4) (lv' := [(8, .int 4), (6, .long ((((1 * 10) * 10) * 10) * 10)), (4, .double (FP.dmul (FP.dmul (FP.dmul (FP.dmul FP.dconst1 4621819117588971520) 4621819117588971520) 4621819117588971520) 4621819117588971520)), (0, .ref am), (1, .double x1), (3, .int x2)]) hx hb dX2_write_64 hl (k := 2) rfl (by first | rfl | decide) (by decide) rfl (fun ls hl => ?_)
                refine lv_goto (tgt := 42) hx hb dX2_write_67 (by decide) ?_
                refine lv_iload hx hb dX2_write_42 (lv_at hl 0 rfl) ?_
                refine lv_iload_n hx hb dX2_write_44 rfl (lv_at hl 5 rfl) ?_
                refine lv_icmp_ge (tgt := 70) hx hb dX2_write_45 (by decide) (fun _ => ?_) (fun c_54 => absurd c_54 (fun h => h c_9))
                have ek : x2 = 4 := le_eq (a := 4) (b := 3) rfl c_9 c_51
                have hl : lv_has ls 14 [(8, .int 4), (6, .long (f_X1_tenToThe x2)), (4, .double (FP.l2d (f_X1_tenToThe x2))), (0, .ref am), (1, .double x1), (3, .int x2)] := by
                  rw [show FP.l2d (f_X1_tenToThe x2) = FP.dmul (FP.dmul (FP.dmul (FP.dmul FP.dconst1 4621819117588971520) 4621819117588971520) 4621819117588971520) 4621819117588971520 by rw [ek]; decide +kernel, show f_X1_tenToThe x2 = (((1 * 10) * 10) * 10) * 10 by rw [ek]; decide +kernel]; exact hl
                exact hJ70 _ _ _ hP hD hS (lv_sub hl [3, 4, 5, 2, 1] rfl)
      · have e0 : f_X1_write x1 x2 lf = .error xIA := fw_e2 c_3 (Or.inr (nle_lt2 c_9))
        refine lv_aload_n hx hb dX2_write_27 rfl (lv_at hl 0 rfl) ?_
        refine lv_iconst (v := 1) hx hb dX2_write_28 (by decide) ?_
        have hPc := hP.sub (ws' := [(am, .inr (2, [.int 0, .int wo, .int fu, .ref gs, .ref go, .ref gt, .ref gp, .ref gw, .double la, .double ea, .ref gl, .int ln, .int fd]))]) [0] rfl
        have hDc := hD.sub (ws' := [(am, .inr (2, [.int 0, .int wo, .int fu, .ref gs, .ref go, .ref gt, .ref gp, .ref gw, .double la, .double ea, .ref gl, .int ln, .int fd]))]) [0] (by decide) rfl
        have hFc := va_free (wc := [(am, .inr (2, [.int 0, .int wo, .int fu, .ref gs, .ref go, .ref gt, .ref gp, .ref gw, .double la, .double ea, .ref gl, .int ln, .int fd]))]) hD hS hA [0] rfl
        refine va_calli (va_runV (As := [.int 1]) (rest := []) ⟨hx, hb, hml, hown, hts⟩ (k_X2_fail l hst dC dI cA tm tt _ am gs go gt gp gw gl 0 wo fu la ea ln fd 1) (cwV 1 hts gX2_write_X2_fail rfl rfl rfl (by decide +kernel) ⟨Nat.le_of_ble_eq_true rfl, Nat.le_of_ble_eq_true rfl⟩) ⟨PcW.blind, va_recv hK hPc (ci := 2) (q0 := 0) rfl rfl, PcW.give hPc hK hDc hE hS hFc⟩ rfl rfl hl.1 rfl (lv_room (Nat.le_of_ble_eq_true rfl)) dX2_write_29 ⟨Nat.le_of_ble_eq_true rfl, Nat.le_of_ble_eq_true rfl⟩) hS (fun q _ h => hFc q h) hFc (fun v_55 u t H locs ht hvm hp_56 hB hz1 hk1 hS => ?_)
        obtain ⟨hP1, hD1⟩ := hB
        rw [ht] at hP1
        obtain ⟨hP, hD⟩ := va_join (wr := [(gl, aI 40 (cA 0) lf)]) (w1 := [(am, .inr (2, [.int 1, .int wo, .int fu, .ref gs, .ref go, .ref gt, .ref gp, .ref gw, .double la, .double ea, .ref gl, .int ln, .int fd]))]) hP hD [0] [1] rfl rfl (by decide) (by decide) hk1 hFc hP1 hD1
        have hP := hP.sub (ws' := [(am, .inr (2, [.int 1, .int wo, .int fu, .ref gs, .ref go, .ref gt, .ref gp, .ref gw, .double la, .double ea, .ref gl, .int ln, .int fd])), (gl, aI 40 (cA 0) lf)]) [1, 0] rfl
        have hD := hD.sub (ws' := [(am, .inr (2, [.int 1, .int wo, .int fu, .ref gs, .ref go, .ref gt, .ref gp, .ref gw, .double la, .double ea, .ref gl, .int ln, .int fd])), (gl, aI 40 (cA 0) lf)]) [1, 0] (by decide) rfl
        obtain rfl := hp_56
        have e1 : cd1 (f_X1_write x1 x2 lf) = 1 := by rw [e0]; rfl
        have hP : va_P (dC, dI) vwCl [(am, .inr (2, [.int (cd1 (f_X1_write x1 x2 lf)), .int wo, .int fu, .ref gs, .ref go, .ref gt, .ref gp, .ref gw, .double la, .double ea, .ref gl, .int (if cd1 (f_X1_write x1 x2 lf) = 0 then nI (WRT x1 x2 lf).1 else ln), .int fd])), (gl, aI 40 (cA 0) (if cd1 (f_X1_write x1 x2 lf) = 0 then (WRT x1 x2 lf).2 else lf))] H := by simp only [if_neg (show ¬ cd1 (f_X1_write x1 x2 lf) = 0 by rw [e1]; decide)]; rw [e1]; exact hP
        have hD : va_D A [(am, .inr (2, [.int (cd1 (f_X1_write x1 x2 lf)), .int wo, .int fu, .ref gs, .ref go, .ref gt, .ref gp, .ref gw, .double la, .double ea, .ref gl, .int (if cd1 (f_X1_write x1 x2 lf) = 0 then nI (WRT x1 x2 lf).1 else ln), .int fd])), (gl, aI 40 (cA 0) (if cd1 (f_X1_write x1 x2 lf) = 0 then (WRT x1 x2 lf).2 else lf))] := by simp only [if_neg (show ¬ cd1 (f_X1_write x1 x2 lf) = 0 by rw [e1]; decide)]; rw [e1]; exact hD
        subst hQQ
        exact W.iret hx hb hr (fun t ht hW => ⟨⟨_, (), rfl, (fun v hv => by rw [e0] at hv; cases hv), ⟨by rw [ht]; exact hP, hD⟩⟩, hS.F ht⟩) hS.2.2 dX2_write_32
