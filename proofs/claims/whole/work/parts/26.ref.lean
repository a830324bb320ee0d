set_option maxHeartbeats 4000000 in
set_option maxRecDepth 100000 in
theorem k_X2_fail (l : Launch) (hst : l.stackTraces = false) (dC : Nat → ClassId) (dI : Nat → Nat → Nat) (cA : Nat → ClassId) (tm tt sz : Nat) (am gs go gt gp gw gl : Nat) (th wo fu : Int32) (la ea : UInt64) (ln fd : Int32) (x1 : Int32)  : Met l yX2_fail wsX2_fail ({ frames := 0, cells := 0, slots := 0, locals := 0 }) (PcW dC dI cA tm tt sz [.ref am, .int x1] [(am, .inr (2, [.int th, .int wo, .int fu, .ref gs, .ref go, .ref gt, .ref gp, .ref gw, .double la, .double ea, .ref gl, .int ln, .int fd]))]) (va_Qi (fun r (_ : Unit) => r = 0) (fun _ t => WB dC dI (va_A [(am, .inr (2, [.int th, .int wo, .int fu, .ref gs, .ref go, .ref gt, .ref gp, .ref gw, .double la, .double ea, .ref gl, .int ln, .int fd]))] sz) [(am, .inr (2, [.int x1, .int wo, .int fu, .ref gs, .ref go, .ref gt, .ref gp, .ref gw, .double la, .double ea, .ref gl, .int ln, .int fd]))] t) (va_A [(am, .inr (2, [.int th, .int wo, .int fu, .ref gs, .ref go, .ref gt, .ref gp, .ref gw, .double la, .double ea, .ref gl, .int ln, .int fd]))] sz)) 0 0 (va_A [(am, .inr (2, [.int th, .int wo, .int fu, .ref gs, .ref go, .ref gt, .ref gp, .ref gw, .double la, .double ea, .ref gl, .int ln, .int fd]))] sz) := by
  refine Met.ofW (cc := cX2_fail) (maxL := 2) (ret := (some .int)) (by decide) rfl ?_
  intro p e s m args below meth c s₁ B hml hv
  obtain ⟨rfl, hsz, hP, hK, hD0, hE⟩ := hv
  subst hsz
  have hD := hD0.self (sz := s.heap.size)
  generalize hAe : va_A [(am, .inr (2, [.int th, .int wo, .int fu, .ref gs, .ref go, .ref gt, .ref gp, .ref gw, .double la, .double ea, .ref gl, .int ln, .int fd]))] s.heap.size = A at hD hE ⊢
  have hA : ∀ q : Nat, s.heap.size ≤ q → A q := fun q h => by rw [← hAe]; exact Or.inr h
  have hS : va_S A s.heap s.heap [] := va_S.rf
  have hP : va_P (dC, dI) vwCl [(am, .inr (2, [.int th, .int wo, .int fu, .ref gs, .ref go, .ref gt, .ref gp, .ref gw, .double la, .double ea, .ref gl, .int ln, .int fd]))] s.heap := hP
  have hx := B.exec
  have hb := B.bytes
  have hr := B.returns
  have hts := atoms_spec (ws := wsX2_fail) B.pre
  have hown : s.vm.findClass RX2 = some m.cls := findClass_of_methodNamed B.named
  have hlocks := B.notSynchronized
  have hl := lv_entry ([.ref am, .int x1]) (n := 2) (Nat.le_of_ble_eq_true rfl)
  rw [lg_entry_eq]
  generalize (lg_sl ([.ref am, .int x1]) ++ List.replicate (2 - (lg_sl ([.ref am, .int x1])).length) Slot.unset).toArray = ls at hl ⊢
  have hl : lv_has ls 2 [(0, .ref am), (1, .int x1)] := hl
  have hin2 : ∀ w ∈ u_ws RX2 TX2 13, w ∈ wsX2_fail := by decide +kernel
  refine lv_aload_n hx hb dX2_fail_0 rfl (lv_at hl 0 rfl) ?_
  refine lv_iload_n hx hb dX2_fail_1 rfl (lv_at hl 1 rfl) ?_
  refine va_put (D := (dC, dI)) (ci := 2) (v := .int x1) (ty := .int) (C := RX2) (T := TX2) (N := 13) hx hb hts hin2 tyX2 tyX2_ok nmX2 hown hK hP hD hS 0 rfl rfl 0 (by decide) (hts (.fieldLink RX2 30 "SkyAlmanacModel" "thrown" "I") (by decide +kernel)) (fun _ h9 => h9) rfl (by decide +kernel) rfl rfl (Nat.le_of_ble_eq_true rfl) dX2_fail_2 (fun H locs hP hD hS => ?_)
  have hP : va_P (dC, dI) vwCl [(am, .inr (2, [.int x1, .int wo, .int fu, .ref gs, .ref go, .ref gt, .ref gp, .ref gw, .double la, .double ea, .ref gl, .int ln, .int fd]))] H := hP
  have hD : va_D A [(am, .inr (2, [.int x1, .int wo, .int fu, .ref gs, .ref go, .ref gt, .ref gp, .ref gw, .double la, .double ea, .ref gl, .int ln, .int fd]))] := hD
  refine lv_iconst (v := 0) hx hb dX2_fail_5 (by decide) ?_
  exact W.iret hx hb hr (fun t ht hW => ⟨⟨_, (), rfl, rfl, ⟨by rw [ht]; exact hP, hD⟩⟩, hS.F ht⟩) hS.2.2 dX2_fail_6

set_option maxHeartbeats 4000000 in
set_option maxRecDepth 100000 in
theorem k_X2_thrown (l : Launch) (dC : Nat → ClassId) (dI : Nat → Nat → Nat) (cA : Nat → ClassId) (tm tt : Nat) (am gs go gt gp gw gl : Nat) (th wo fu : Int32) (la ea : UInt64) (ln fd : Int32)   : Met l yX2_thrown wsX2_thrown ({ frames := 0, cells := 0, slots := 0, locals := 0 }) (PcO dC dI cA tm tt [.ref am] [(am, .inr (2, [.int th, .int wo, .int fu, .ref gs, .ref go, .ref gt, .ref gp, .ref gw, .double la, .double ea, .ref gl, .int ln, .int fd]))]) (vp_Si (fun r => r = th)) 0 0 (fun _ => False) := by
  refine Met.ofW (cc := cX2_thrown) (maxL := 1) (ret := (some .int)) (by decide) rfl ?_
  intro p e s m args below meth c s₁ B hml hv
  obtain ⟨rfl, hP, hK, hE⟩ := hv
  have hS : va_S (fun _ => False) s.heap s.heap [] := va_S.rf
  have hx := B.exec
  have hb := B.bytes
  have hr := B.returns
  have hts := atoms_spec (ws := wsX2_thrown) B.pre
  have hown : s.vm.findClass RX2 = some m.cls := findClass_of_methodNamed B.named
  have hlocks := B.notSynchronized
  have hl := lv_entry ([.ref am]) (n := 1) (Nat.le_of_ble_eq_true rfl)
  rw [lg_entry_eq]
  generalize (lg_sl ([.ref am]) ++ List.replicate (1 - (lg_sl ([.ref am])).length) Slot.unset).toArray = ls at hl ⊢
  have hl : lv_has ls 1 [(0, .ref am)] := hl
  have hin2 : ∀ w ∈ u_ws RX2 TX2 13, w ∈ wsX2_thrown := by decide +kernel
  refine lv_aload_n hx hb dX2_thrown_0 rfl (lv_at hl 0 rfl) ?_
  refine va_get (D := (dC, dI)) (ci := 2) (v := .int th) (C := RX2) (T := TX2) (N := 13) hx hb hts hin2 hown hK hP 0 rfl rfl 0 (by decide) (hts (.fieldLink RX2 30 "SkyAlmanacModel" "thrown" "I") (by decide +kernel)) (fun _ h9 => h9) rfl dX2_thrown_1 ?_
  exact W.iret hx hb hr (fun t ht _ => ⟨_, rfl, rfl, ht⟩) (fun _ h => nomatch h) dX2_thrown_4

theorem gt_in {x : Int32} (h1 : ¬ x < 0) (h2 : ¬ 3 < x) : vp_in x 4 := by
  refine ge_in (m := 4) rfl h1 (fun h => h2 ?_)
  rw [Int32.le_iff_toInt_le] at h
  rw [Int32.lt_iff_toInt_lt]
  have : (4 : Int32).toInt = 4 := rfl
  have : (3 : Int32).toInt = 3 := rfl
  omega
theorem le_in {x : Int32} (h1 : ¬ x < 0) (h2 : x ≤ 3) : ¬ 3 < x := by
  rw [Int32.le_iff_toInt_le] at h2
  rw [Int32.lt_iff_toInt_lt]; omega
theorem bN_all {x : Int32} (h1 : ¬ x < 0) (h2 : ¬ 3 < x) : x.toNatClampNeg < 4 ∧ x = nI x.toNatClampNeg := by
  have h := gt_in h1 h2
  rw [vp_in_iff] at h
  have e : x.toNatClampNeg = x.toInt.toNat := rfl
  refine ⟨by rw [e]; omega, ?_⟩
  refine Int32.toInt_inj.mp ?_
  rw [nI_toInt (by rw [e]; omega), e]; omega
theorem nI_mul (a b : Nat) : nI a * nI b = nI (a * b) := (Int32.ofNat_mul a b).symm
theorem ix4 {x : Int32} (h1 : ¬ x < 0) (h2 : ¬ 3 < x) : 4 * x = nI (4 * x.toNatClampNeg) := by
  conv => lhs; rw [(bN_all h1 h2).2]
  exact nI_mul 4 _
theorem ix12 {x : Int32} (h1 : ¬ x < 0) (h2 : ¬ 3 < x) : 12 * x = nI (12 * x.toNatClampNeg) := by
  conv => lhs; rw [(bN_all h1 h2).2]
  exact nI_mul 12 _
theorem ix3 (k : Nat) : 3 * nI k = nI (3 * k) := nI_mul 3 k
theorem nI_2 (a : Nat) : nI a + 2 = nI (a + 2) := nI_add a 2
theorem nI_3 (a : Nat) : nI a + 3 = nI (a + 3) := nI_add a 3
def NB (sf : Nat → Int32) (x1 : Int32) : Int32 := if x1 < 0 then 1 else if 3 < x1 then 1 else if sf x1.toNatClampNeg = 0 then 1 else 0
theorem NB_0 {sf : Nat → Int32} {x1 : Int32} (h : NB sf x1 = 0) : ¬ x1 < 0 ∧ ¬ 3 < x1 ∧ ¬ sf x1.toNatClampNeg = 0 := by
  unfold NB at h
  split at h
  · cases h
  · rename_i a
    split at h
    · cases h
    · rename_i b
      split at h
      · cases h
      · rename_i c
        exact ⟨a, b, c⟩
set_option maxHeartbeats 4000000 in
set_option maxRecDepth 100000 in
theorem k_X2_noBody (l : Launch) (dC : Nat → ClassId) (dI : Nat → Nat → Nat) (cA : Nat → ClassId) (tm tt : Nat) (am gs go gt gp gw gl : Nat) (th wo fu : Int32) (la ea : UInt64) (ln fd : Int32) (sf : Nat → Int32) (x1 : Int32)  : Met l yX2_noBody wsX2_noBody ({ frames := 0, cells := 0, slots := 0, locals := 0 }) (PcO dC dI cA tm tt [.ref am, .int x1] [(am, .inr (2, [.int th, .int wo, .int fu, .ref gs, .ref go, .ref gt, .ref gp, .ref gw, .double la, .double ea, .ref gl, .int ln, .int fd])), (gs, aI 4 (cA 4) sf)]) (vp_Si (fun r => r = NB sf x1)) 0 0 (fun _ => False) := by
  refine Met.ofW (cc := cX2_noBody) (maxL := 2) (ret := (some .boolean)) (by decide) rfl ?_
  intro p e s m args below meth c s₁ B hml hv
  obtain ⟨rfl, hP, hK, hE⟩ := hv
  have hS : va_S (fun _ => False) s.heap s.heap [] := va_S.rf
  have hx := B.exec
  have hb := B.bytes
  have hr := B.returns
  have hts := atoms_spec (ws := wsX2_noBody) B.pre
  have hown : s.vm.findClass RX2 = some m.cls := findClass_of_methodNamed B.named
  have hlocks := B.notSynchronized
  have hl := lv_entry ([.ref am, .int x1]) (n := 2) (Nat.le_of_ble_eq_true rfl)
  rw [lg_entry_eq]
  generalize (lg_sl ([.ref am, .int x1]) ++ List.replicate (2 - (lg_sl ([.ref am, .int x1])).length) Slot.unset).toArray = ls at hl ⊢
  have hl : lv_has ls 2 [(0, .ref am), (1, .int x1)] := hl
  have hin2 : ∀ w ∈ u_ws RX2 TX2 13, w ∈ wsX2_noBody := by decide +kernel
  refine lv_iload_n hx hb dX2_noBody_0 rfl (lv_at hl 1 rfl) ?_
  refine lv_if_lt (tgt := 18) hx hb dX2_noBody_1 (by decide) (fun c_1 => ?_) (fun c_1 => ?_)
  · refine lv_iconst (v := 1) hx hb dX2_noBody_18 (by decide) ?_
    refine lv_goto (tgt := 23) hx hb dX2_noBody_19 (by decide) ?_
    exact W.zret hx hb hr rfl (fun t ht _ => ⟨_, rfl, (by unfold NB; rw [if_pos c_1]), ht⟩) (fun _ h => nomatch h) dX2_noBody_23
  · refine lv_iload_n hx hb dX2_noBody_4 rfl (lv_at hl 1 rfl) ?_
    refine lv_iconst (v := 3) hx hb dX2_noBody_5 (by decide) ?_
    refine lv_icmp_gt (tgt := 18) hx hb dX2_noBody_6 (by decide) (fun c_2 => ?_) (fun c_2 => ?_)
    · refine lv_iconst (v := 1) hx hb dX2_noBody_18 (by decide) ?_
      refine lv_goto (tgt := 23) hx hb dX2_noBody_19 (by decide) ?_
      exact W.zret hx hb hr rfl (fun t ht _ => ⟨_, rfl, (by unfold NB; rw [if_neg c_1, if_pos c_2]), ht⟩) (fun _ h => nomatch h) dX2_noBody_23
    · refine lv_aload_n hx hb dX2_noBody_9 rfl (lv_at hl 0 rfl) ?_
      refine va_get (D := (dC, dI)) (ci := 2) (v := .ref gs) (C := RX2) (T := TX2) (N := 13) hx hb hts hin2 hown hK hP 0 rfl rfl 3 (by decide) (hts (.fieldLink RX2 7 "SkyAlmanacModel" "set" "[Z") (by decide +kernel)) (fun _ h9 => h9) rfl dX2_noBody_10 ?_
      refine lv_iload_n hx hb dX2_noBody_13 rfl (lv_at hl 1 rfl) ?_
      refine va_zald hx hb hK hP 1 4 rfl rfl (gt_in c_1 c_2) dX2_noBody_14 ?_
      refine lv_if_ne (tgt := 22) hx hb dX2_noBody_15 (by decide) (fun c_3 => ?_) (fun c_3 => ?_)
      · refine lv_iconst (v := 0) hx hb dX2_noBody_22 (by decide) ?_
        exact W.zret hx hb hr rfl (fun t ht _ => ⟨_, rfl, (by unfold NB; rw [if_neg c_1, if_neg c_2, if_neg c_3]), ht⟩) (fun _ h => nomatch h) dX2_noBody_23
      · refine lv_iconst (v := 1) hx hb dX2_noBody_18 (by decide) ?_
        refine lv_goto (tgt := 23) hx hb dX2_noBody_19 (by decide) ?_
        exact W.zret hx hb hr rfl (fun t ht _ => ⟨_, rfl, (by unfold NB; rw [if_neg c_1, if_neg c_2, if_pos c_3]), ht⟩) (fun _ h => nomatch h) dX2_noBody_23

def f_X2_bar (sf : Nat → Int32) (x1 : Int32) (x2 : UInt64) : Int32 := if NB sf x1 = 0 then (if f_X2_within x2 13920209183539462144 4696837146684686336 = 0 then 2 else 0) else 1
set_option maxHeartbeats 4000000 in
set_option maxRecDepth 100000 in
theorem k_X2_bar (l : Launch) (dC : Nat → ClassId) (dI : Nat → Nat → Nat) (cA : Nat → ClassId) (tm tt : Nat) (am gs go gt gp gw gl : Nat) (th wo fu : Int32) (la ea : UInt64) (ln fd : Int32) (sf : Nat → Int32) (x1 : Int32) (x2 : UInt64)  : Met l yX2_bar wsX2_bar ({ frames := 1, cells := 0, slots := 0, locals := 25 }) (PcO dC dI cA tm tt [.ref am, .int x1, .double x2] [(am, .inr (2, [.int th, .int wo, .int fu, .ref gs, .ref go, .ref gt, .ref gp, .ref gw, .double la, .double ea, .ref gl, .int ln, .int fd])), (gs, aI 4 (cA 4) sf)]) (vp_Si (fun r => r = f_X2_bar sf x1 x2)) 0 0 (fun _ => False) := by
  refine Met.ofW (cc := cX2_bar) (maxL := 4) (ret := (some .int)) (by decide) rfl ?_
  intro p e s m args below meth c s₁ B hml hv
  obtain ⟨rfl, hP, hK, hE⟩ := hv
  have hS : va_S (fun _ => False) s.heap s.heap [] := va_S.rf
  have hx := B.exec
  have hb := B.bytes
  have hr := B.returns
  have hts := atoms_spec (ws := wsX2_bar) B.pre
  have hown : s.vm.findClass RX2 = some m.cls := findClass_of_methodNamed B.named
  have hlocks := B.notSynchronized
  have hl := lv_entry ([.ref am, .int x1, .double x2]) (n := 4) (Nat.le_of_ble_eq_true rfl)
  rw [lg_entry_eq]
  generalize (lg_sl ([.ref am, .int x1, .double x2]) ++ List.replicate (4 - (lg_sl ([.ref am, .int x1, .double x2])).length) Slot.unset).toArray = ls at hl ⊢
  have hl : lv_has ls 4 [(0, .ref am), (1, .int x1), (2, .double x2)] := hl
  refine lv_aload_n hx hb dX2_bar_0 rfl (lv_at hl 0 rfl) ?_
  refine lv_iload_n hx hb dX2_bar_1 rfl (lv_at hl 1 rfl) ?_
  have hPc := hP.sub (ws' := [(am, .inr (2, [.int th, .int wo, .int fu, .ref gs, .ref go, .ref gt, .ref gp, .ref gw, .double la, .double ea, .ref gl, .int ln, .int fd])), (gs, aI 4 (cA 4) sf)]) [0, 1] rfl
  refine vp_callSi (W.runV (As := [.int x1]) (rest := []) ⟨hx, hb, hml, hown, hts⟩ (k_X2_noBody l dC dI cA tm tt am gs go gt gp gw gl th wo fu la ea ln fd sf x1) (cwV 1 hts gX2_bar_X2_noBody rfl rfl rfl (by decide +kernel) ⟨Nat.le_of_ble_eq_true rfl, Nat.le_of_ble_eq_true rfl⟩) ⟨PcO.blind, va_recv hK hPc (ci := 2) (q0 := 0) rfl rfl, PcO.give hPc hK hE hS⟩ rfl rfl hl.1 rfl (lv_room (Nat.le_of_ble_eq_true rfl)) dX2_bar_2 ⟨Nat.zero_le _, Nat.zero_le _⟩) (fun r hr9 => ?_)
  obtain rfl := hr9
  refine lv_if_eq (tgt := 12) hx hb dX2_bar_5 (by decide) (fun c_1 => ?_) (fun c_1 => ?_)
  · refine lv_dload_n hx hb dX2_bar_12 rfl (lv_at hl 2 rfl) ?_
    refine lv_ldc2d hx hb hown (hts (.constantDouble RX2 228 (13920209183539462144)) (by decide +kernel)) dX2_bar_13 ?_
    have r_2 : fR 13920209183539462144 (-1073741824000000) (-1073741824000000) := fR_lit (by decide +kernel)
    refine lv_ldc2d hx hb hown (hts (.constantDouble RX2 230 (4696837146684686336)) (by decide +kernel)) dX2_bar_16 ?_
    have r_3 : fR 4696837146684686336 1073741824000000 1073741824000000 := fR_lit (by decide +kernel)
    refine vp_callSi (W.runS (As := [.double x2, .double 13920209183539462144, .double 4696837146684686336]) (rest := []) ⟨hx, hb, hml, hown, hts⟩ (k_X2_within l x2 13920209183539462144 4696837146684686336) (va_cwS 3 hts gX2_bar_X2_within rfl rfl rfl (by decide +kernel) ⟨Nat.le_of_ble_eq_true rfl, Nat.le_of_ble_eq_true rfl⟩) preEq rfl rfl hl.1 rfl (lv_room (Nat.le_of_ble_eq_true rfl)) dX2_bar_19 ⟨Nat.zero_le _, Nat.zero_le _⟩) (fun r hr9 => ?_)
    obtain rfl := hr9
    refine lv_if_eq (tgt := 29) hx hb dX2_bar_22 (by decide) (fun c_4 => ?_) (fun c_4 => ?_)
    · refine lv_iconst (v := 2) hx hb dX2_bar_29 (by decide) ?_
      exact W.iret hx hb hr (fun t ht _ => ⟨_, rfl, (by unfold f_X2_bar; rw [if_pos c_1, if_pos c_4]), ht⟩) (fun _ h => nomatch h) dX2_bar_30
    · refine lv_iconst (v := 0) hx hb dX2_bar_25 (by decide) ?_
      refine lv_goto (tgt := 30) hx hb dX2_bar_26 (by decide) ?_
      exact W.iret hx hb hr (fun t ht _ => ⟨_, rfl, (by unfold f_X2_bar; rw [if_pos c_1, if_neg c_4]), ht⟩) (fun _ h => nomatch h) dX2_bar_30
  · refine lv_iconst (v := 1) hx hb dX2_bar_8 (by decide) ?_
    refine lv_goto (tgt := 30) hx hb dX2_bar_9 (by decide) ?_
    exact W.iret hx hb hr (fun t ht _ => ⟨_, rfl, (by unfold f_X2_bar; rw [if_neg c_1]), ht⟩) (fun _ h => nomatch h) dX2_bar_30

theorem nd_12 {x0 x1 x2 x3 : Int32} (h : f_X2_noDate x0 x1 x2 x3 = 0) : x2 ≤ 12 := by
  unfold f_X2_noDate at h
  repeat' (split at h)
  all_goals first | (exact absurd h (by decide)) | skip
  rename_i a b
  first | exact nlt_le (by assumption)
def f_X2_day  (x1 : Int32) (x2 : Int32) (x3 : Int32) (x4 : Int32) : Int64 × Int32 := if x1 < 0 then ((Int32.toInt64 0, 1)) else (if x1 ≤ 2 then (if 2 ≤ x1 then (if 15821004 < ((((Int32.toInt64 x2) * 10000) + ((Int32.toInt64 x3) * 100)) + (Int32.toInt64 x4)) then (if x1 = 2 then (if ((((Int32.toInt64 x2) * 10000) + ((Int32.toInt64 x3) * 100)) + (Int32.toInt64 x4)) ≤ 15821004 then (if (f_X2_noDate 1 x2 x3 x4) = 0 then ((f_X2_number 1 x2 x3 x4, 0)) else ((Int32.toInt64 0, 1))) else (if 15821015 ≤ ((((Int32.toInt64 x2) * 10000) + ((Int32.toInt64 x3) * 100)) + (Int32.toInt64 x4)) then (if (f_X2_noDate 1 x2 x3 x4) = 0 then ((f_X2_number 1 x2 x3 x4, 0)) else ((Int32.toInt64 0, 1))) else (if (f_X2_noDate 1 x2 x3 x4) = 0 then ((Int32.toInt64 0, 1)) else ((Int32.toInt64 0, 1))))) else (if (f_X2_noDate 1 x2 x3 x4) = 0 then ((f_X2_number 1 x2 x3 x4, 0)) else ((Int32.toInt64 0, 1)))) else (if x1 = 2 then (if ((((Int32.toInt64 x2) * 10000) + ((Int32.toInt64 x3) * 100)) + (Int32.toInt64 x4)) ≤ 15821004 then (if (f_X2_noDate 0 x2 x3 x4) = 0 then ((f_X2_number 0 x2 x3 x4, 0)) else ((Int32.toInt64 0, 1))) else (if 15821015 ≤ ((((Int32.toInt64 x2) * 10000) + ((Int32.toInt64 x3) * 100)) + (Int32.toInt64 x4)) then (if (f_X2_noDate 0 x2 x3 x4) = 0 then ((f_X2_number 0 x2 x3 x4, 0)) else ((Int32.toInt64 0, 1))) else (if (f_X2_noDate 0 x2 x3 x4) = 0 then ((Int32.toInt64 0, 1)) else ((Int32.toInt64 0, 1))))) else (if (f_X2_noDate 0 x2 x3 x4) = 0 then ((f_X2_number 0 x2 x3 x4, 0)) else ((Int32.toInt64 0, 1))))) else (if x1 = 2 then (if ((((Int32.toInt64 x2) * 10000) + ((Int32.toInt64 x3) * 100)) + (Int32.toInt64 x4)) ≤ 15821004 then (if (f_X2_noDate x1 x2 x3 x4) = 0 then ((f_X2_number x1 x2 x3 x4, 0)) else ((Int32.toInt64 0, 1))) else (if 15821015 ≤ ((((Int32.toInt64 x2) * 10000) + ((Int32.toInt64 x3) * 100)) + (Int32.toInt64 x4)) then (if (f_X2_noDate x1 x2 x3 x4) = 0 then ((f_X2_number x1 x2 x3 x4, 0)) else ((Int32.toInt64 0, 1))) else (if (f_X2_noDate x1 x2 x3 x4) = 0 then ((Int32.toInt64 0, 1)) else ((Int32.toInt64 0, 1))))) else (if (f_X2_noDate x1 x2 x3 x4) = 0 then ((f_X2_number x1 x2 x3 x4, 0)) else ((Int32.toInt64 0, 1))))) else ((Int32.toInt64 0, 1)))
set_option maxHeartbeats 4000000 in
set_option maxRecDepth 100000 in
theorem k_X2_day (l : Launch) (hst : l.stackTraces = false) (dC : Nat → ClassId) (dI : Nat → Nat → Nat) (cA : Nat → ClassId) (tm tt sz : Nat) (am gs go gt gp gw gl : Nat) (th wo fu : Int32) (la ea : UInt64) (ln fd : Int32) (x1 : Int32) (x2 : Int32) (x3 : Int32) (x4 : Int32)  : Met l yX2_day wsX2_day ({ frames := 5, cells := 0, slots := 0, locals := 118 }) (PcW dC dI cA tm tt sz [.ref am, .int x1, .int x2, .int x3, .int x4] [(am, .inr (2, [.int th, .int wo, .int fu, .ref gs, .ref go, .ref gt, .ref gp, .ref gw, .double la, .double ea, .ref gl, .int ln, .int fd]))]) (va_Ql (fun r (_ : Unit) => (f_X2_day  x1 x2 x3 x4).1 = r) (fun _ t => WB dC dI (va_A [(am, .inr (2, [.int th, .int wo, .int fu, .ref gs, .ref go, .ref gt, .ref gp, .ref gw, .double la, .double ea, .ref gl, .int ln, .int fd]))] sz) [(am, .inr (2, [.int ((f_X2_day  x1 x2 x3 x4).2), .int wo, .int fu, .ref gs, .ref go, .ref gt, .ref gp, .ref gw, .double la, .double ea, .ref gl, .int ln, .int fd]))] t) (va_A [(am, .inr (2, [.int th, .int wo, .int fu, .ref gs, .ref go, .ref gt, .ref gp, .ref gw, .double la, .double ea, .ref gl, .int ln, .int fd]))] sz)) 0 0 (va_A [(am, .inr (2, [.int th, .int wo, .int fu, .ref gs, .ref go, .ref gt, .ref gp, .ref gw, .double la, .double ea, .ref gl, .int ln, .int fd]))] sz) := by
  refine Met.ofW (cc := cX2_day) (maxL := 9) (ret := (some .long)) (by decide) rfl ?_
  intro p e s m args below meth c s₁ B hml hv
  obtain ⟨rfl, hsz, hP, hK, hD0, hE⟩ := hv
  subst hsz
  have hD := hD0.self (sz := s.heap.size)
  generalize hAe : va_A [(am, .inr (2, [.int th, .int wo, .int fu, .ref gs, .ref go, .ref gt, .ref gp, .ref gw, .double la, .double ea, .ref gl, .int ln, .int fd]))] s.heap.size = A at hD hE ⊢
  have hA : ∀ q : Nat, s.heap.size ≤ q → A q := fun q h => by rw [← hAe]; exact Or.inr h
  have hS : va_S A s.heap s.heap [] := va_S.rf
  have hP : va_P (dC, dI) vwCl [(am, .inr (2, [.int th, .int wo, .int fu, .ref gs, .ref go, .ref gt, .ref gp, .ref gw, .double la, .double ea, .ref gl, .int ln, .int fd]))] s.heap := hP
  have hx := B.exec
  have hb := B.bytes
  have hr := B.returns
  have hts := atoms_spec (ws := wsX2_day) B.pre
  have hown : s.vm.findClass RX2 = some m.cls := findClass_of_methodNamed B.named
  have hlocks := B.notSynchronized
  have hl := lv_entry ([.ref am, .int x1, .int x2, .int x3, .int x4]) (n := 9) (Nat.le_of_ble_eq_true rfl)
  rw [lg_entry_eq]
  generalize (lg_sl ([.ref am, .int x1, .int x2, .int x3, .int x4]) ++ List.replicate (9 - (lg_sl ([.ref am, .int x1, .int x2, .int x3, .int x4])).length) Slot.unset).toArray = ls at hl ⊢
  have hl : lv_has ls 9 [(0, .ref am), (1, .int x1), (2, .int x2), (3, .int x3), (4, .int x4)] := hl
  have hin2 : ∀ w ∈ u_ws RX2 TX2 13, w ∈ wsX2_day := by decide +kernel
  refine lv_aload_n hx hb dX2_day_0 rfl (lv_at hl 0 rfl) ?_
  refine lv_iconst (v := 0) hx hb dX2_day_1 (by decide) ?_
  refine va_put (D := (dC, dI)) (ci := 2) (v := .int 0) (ty := .int) (C := RX2) (T := TX2) (N := 13) hx hb hts hin2 tyX2 tyX2_ok nmX2 hown hK hP hD hS 0 rfl rfl 0 (by decide) (hts (.fieldLink RX2 30 "SkyAlmanacModel" "thrown" "I") (by decide +kernel)) (fun _ h9 => h9) rfl (by decide +kernel) rfl rfl (Nat.le_of_ble_eq_true rfl) dX2_day_2 (fun H locs hP hD hS => ?_)
  have hP : va_P (dC, dI) vwCl [(am, .inr (2, [.int 0, .int wo, .int fu, .ref gs, .ref go, .ref gt, .ref gp, .ref gw, .double la, .double ea, .ref gl, .int ln, .int fd]))] H := hP
  have hD : va_D A [(am, .inr (2, [.int 0, .int wo, .int fu, .ref gs, .ref go, .ref gt, .ref gp, .ref gw, .double la, .double ea, .ref gl, .int ln, .int fd]))] := hD
  refine lv_iload_n hx hb dX2_day_5 rfl (lv_at hl 1 rfl) ?_
  refine lv_if_lt (tgt := 14) hx hb dX2_day_6 (by decide) (fun c_1 => ?_) (fun c_1 => ?_)
  · refine lv_aload_n hx hb dX2_day_14 rfl (lv_at hl 0 rfl) ?_
    refine lv_iconst (v := 1) hx hb dX2_day_15 (by decide) ?_
    have hPc := hP.sub (ws' := [(am, .inr (2, [.int 0, .int wo, .int fu, .ref gs, .ref go, .ref gt, .ref gp, .ref gw, .double la, .double ea, .ref gl, .int ln, .int fd]))]) [0] rfl
    have hDc := hD.sub (ws' := [(am, .inr (2, [.int 0, .int wo, .int fu, .ref gs, .ref go, .ref gt, .ref gp, .ref gw, .double la, .double ea, .ref gl, .int ln, .int fd]))]) [0] (by decide) rfl
    have hFc := va_free (wc := [(am, .inr (2, [.int 0, .int wo, .int fu, .ref gs, .ref go, .ref gt, .ref gp, .ref gw, .double la, .double ea, .ref gl, .int ln, .int fd]))]) hD hS hA [0] rfl
    refine va_calli (va_runV (As := [.int 1]) (rest := []) ⟨hx, hb, hml, hown, hts⟩ (k_X2_fail l hst dC dI cA tm tt _ am gs go gt gp gw gl 0 wo fu la ea ln fd 1) (cwV 1 hts gX2_day_X2_fail rfl rfl rfl (by decide +kernel) ⟨Nat.le_of_ble_eq_true rfl, Nat.le_of_ble_eq_true rfl⟩) ⟨PcW.blind, va_recv hK hPc (ci := 2) (q0 := 0) rfl rfl, PcW.give hPc hK hDc hE hS hFc⟩ rfl rfl hl.1 rfl (lv_room (Nat.le_of_ble_eq_true rfl)) dX2_day_16 ⟨Nat.le_of_ble_eq_true rfl, Nat.le_of_ble_eq_true rfl⟩) hS (fun q _ h => hFc q h) hFc (fun v_2 u t H locs ht hvm hp_3 hB hz1 hk1 hS => ?_)
    obtain ⟨hP1, hD1⟩ := hB
    rw [ht] at hP1
    obtain ⟨hP, hD⟩ := va_join (wr := []) (w1 := [(am, .inr (2, [.int 1, .int wo, .int fu, .ref gs, .ref go, .ref gt, .ref gp, .ref gw, .double la, .double ea, .ref gl, .int ln, .int fd]))]) hP hD [0] [] rfl rfl (by decide) (by decide) hk1 hFc hP1 hD1
    have hP := hP.sub (ws' := [(am, .inr (2, [.int 1, .int wo, .int fu, .ref gs, .ref go, .ref gt, .ref gp, .ref gw, .double la, .double ea, .ref gl, .int ln, .int fd]))]) [0] rfl
    have hD := hD.sub (ws' := [(am, .inr (2, [.int 1, .int wo, .int fu, .ref gs, .ref go, .ref gt, .ref gp, .ref gw, .double la, .double ea, .ref gl, .int ln, .int fd]))]) [0] (by decide) rfl
    obtain rfl := hp_3
    refine lv_i2l hx hb dX2_day_19 rfl ?_
    have e0 : f_X2_day  x1 x2 x3 x4 = (Int32.toInt64 0, 1) := by unfold f_X2_day; rw [if_pos c_1]
    have e1 : (f_X2_day  x1 x2 x3 x4).2 = 1 := by rw [e0]
    have hP : va_P (dC, dI) vwCl [(am, .inr (2, [.int ((f_X2_day  x1 x2 x3 x4).2), .int wo, .int fu, .ref gs, .ref go, .ref gt, .ref gp, .ref gw, .double la, .double ea, .ref gl, .int ln, .int fd]))] H := by rw [e1]; exact hP
    have hD : va_D A [(am, .inr (2, [.int ((f_X2_day  x1 x2 x3 x4).2), .int wo, .int fu, .ref gs, .ref go, .ref gt, .ref gp, .ref gw, .double la, .double ea, .ref gl, .int ln, .int fd]))] := by rw [e1]; exact hD
    exact W.lret hx hb hr (fun t ht hW => ⟨⟨_, (), rfl, (congrArg Prod.fst e0), ⟨by rw [ht]; exact hP, hD⟩⟩, hS.F ht⟩) hS.2.2 dX2_day_20
  · refine lv_iload_n hx hb dX2_day_9 rfl (lv_at hl 1 rfl) ?_
    refine lv_iconst (v := 2) hx hb dX2_day_10 (by decide) ?_
    refine lv_icmp_le (tgt := 21) hx hb dX2_day_11 (by decide) (fun c_4 => ?_) (fun c_4 => ?_)
    · refine lv_iload_n hx hb dX2_day_21 rfl (lv_at hl 2 rfl) ?_
      refine lv_i2l hx hb dX2_day_22 rfl ?_
      refine lv_ldc2 hx hb hown (hts (.constantLong RX2 81 (10000)) (by decide +kernel)) dX2_day_23 ?_
      refine lv_lmul hx hb dX2_day_26 ?_
      refine lv_iload_n hx hb dX2_day_27 rfl (lv_at hl 3 rfl) ?_
      refine lv_i2l hx hb dX2_day_28 rfl ?_
      refine lv_ldc2 hx hb hown (hts (.constantLong RX2 46 (100)) (by decide +kernel)) dX2_day_29 ?_
      refine lv_lmul hx hb dX2_day_32 ?_
      refine lv_ladd hx hb dX2_day_33 ?_
      refine lv_iload hx hb dX2_day_34 (lv_at hl 4 rfl) ?_
      refine lv_i2l hx hb dX2_day_36 rfl ?_
      refine lv_ladd hx hb dX2_day_37 ?_
      refine lv_lstore (lv' := [(5, .long ((((Int32.toInt64 x2) * 10000) + ((Int32.toInt64 x3) * 100)) + (Int32.toInt64 x4))), (0, .ref am), (1, .int x1), (2, .int x2), (3, .int x3), (4, .int x4)]) hx hb dX2_day_38 hl (by decide) rfl (fun ls hl => ?_)
      refine lv_iload_n hx hb dX2_day_40 rfl (lv_at hl 2 rfl) ?_
      refine lv_iconst (v := 2) hx hb dX2_day_41 (by decide) ?_
      refine lv_icmp_ge (tgt := 49) hx hb dX2_day_42 (by decide) (fun c_5 => ?_) (fun c_5 => ?_)
      · refine lv_lload hx hb dX2_day_49 (lv_at hl 0 rfl) ?_
        refine lv_ldc2 hx hb hown (hts (.constantLong RX2 83 (15821004)) (by decide +kernel)) dX2_day_51 ?_
        refine zl_gt (tgt := 62) hx hb dX2_day_54 dX2_day_55 (by decide) (fun c_6 => ?_) (fun c_6 => ?_)
        · refine lv_iconst (v := 1) hx hb dX2_day_62 (by decide) ?_
          refine lv_istore (lv' := [(7, .int 1), (5, .long ((((Int32.toInt64 x2) * 10000) + ((Int32.toInt64 x3) * 100)) + (Int32.toInt64 x4))), (0, .ref am), (1, .int x1), (2, .int x2), (3, .int x3), (4, .int x4)]) hx hb dX2_day_63 hl (by decide) rfl (fun ls hl => ?_)
          refine lv_iload_n hx hb dX2_day_65 rfl (lv_at hl 3 rfl) ?_
          refine lv_iconst (v := 2) hx hb dX2_day_66 (by decide) ?_
          refine lv_icmp_ne (tgt := 92) hx hb dX2_day_67 (by decide) (fun c_7 => ?_) (fun c_7 => ?_)
          · refine lv_iconst (v := 0) hx hb dX2_day_92 (by decide) ?_
            refine lv_istore (lv' := [(8, .int 0), (7, .int 1), (5, .long ((((Int32.toInt64 x2) * 10000) + ((Int32.toInt64 x3) * 100)) + (Int32.toInt64 x4))), (0, .ref am), (1, .int x1), (2, .int x2), (3, .int x3), (4, .int x4)]) hx hb dX2_day_93 hl (by decide) rfl (fun ls hl => ?_)
            refine lv_iload hx hb dX2_day_95 (lv_at hl 1 rfl) ?_
            refine lv_iload_n hx hb dX2_day_97 rfl (lv_at hl 5 rfl) ?_
            refine lv_iload_n hx hb dX2_day_98 rfl (lv_at hl 6 rfl) ?_
            refine lv_iload hx hb dX2_day_99 (lv_at hl 7 rfl) ?_
            refine vp_callSi (W.runS (As := [.int 1, .int x2, .int x3, .int x4]) (rest := []) ⟨hx, hb, hml, hown, hts⟩ (k_X2_noDate l 1 x2 x3 x4) (va_cwS 4 hts gX2_day_X2_noDate rfl rfl rfl (by decide +kernel) ⟨Nat.le_of_ble_eq_true rfl, Nat.le_of_ble_eq_true rfl⟩) preEq rfl rfl hl.1 rfl (lv_room (Nat.le_of_ble_eq_true rfl)) dX2_day_101 ⟨Nat.le_of_ble_eq_true rfl, Nat.le_of_ble_eq_true rfl⟩) (fun r hr9 => ?_)
            obtain rfl := hr9
            refine lv_if_ne (tgt := 112) hx hb dX2_day_104 (by decide) (fun c_8 => ?_) (fun c_8 => ?_)
            · refine lv_aload_n hx hb dX2_day_112 rfl (lv_at hl 3 rfl) ?_
              refine lv_iconst (v := 1) hx hb dX2_day_113 (by decide) ?_
              have hPc := hP.sub (ws' := [(am, .inr (2, [.int 0, .int wo, .int fu, .ref gs, .ref go, .ref gt, .ref gp, .ref gw, .double la, .double ea, .ref gl, .int ln, .int fd]))]) [0] rfl
              have hDc := hD.sub (ws' := [(am, .inr (2, [.int 0, .int wo, .int fu, .ref gs, .ref go, .ref gt, .ref gp, .ref gw, .double la, .double ea, .ref gl, .int ln, .int fd]))]) [0] (by decide) rfl
              have hFc := va_free (wc := [(am, .inr (2, [.int 0, .int wo, .int fu, .ref gs, .ref go, .ref gt, .ref gp, .ref gw, .double la, .double ea, .ref gl, .int ln, .int fd]))]) hD hS hA [0] rfl
              refine va_calli (va_runV (As := [.int 1]) (rest := []) ⟨hx, hb, hml, hown, hts⟩ (k_X2_fail l hst dC dI cA tm tt _ am gs go gt gp gw gl 0 wo fu la ea ln fd 1) (cwV 1 hts gX2_day_X2_fail rfl rfl rfl (by decide +kernel) ⟨Nat.le_of_ble_eq_true rfl, Nat.le_of_ble_eq_true rfl⟩) ⟨PcW.blind, va_recv hK hPc (ci := 2) (q0 := 0) rfl rfl, PcW.give hPc hK hDc hE hS hFc⟩ rfl rfl hl.1 rfl (lv_room (Nat.le_of_ble_eq_true rfl)) dX2_day_114 ⟨Nat.le_of_ble_eq_true rfl, Nat.le_of_ble_eq_true rfl⟩) hS (fun q _ h => hFc q h) hFc (fun v_9 u t H locs ht hvm hp_10 hB hz1 hk1 hS => ?_)
              obtain ⟨hP1, hD1⟩ := hB
              rw [ht] at hP1
              obtain ⟨hP, hD⟩ := va_join (wr := []) (w1 := [(am, .inr (2, [.int 1, .int wo, .int fu, .ref gs, .ref go, .ref gt, .ref gp, .ref gw, .double la, .double ea, .ref gl, .int ln, .int fd]))]) hP hD [0] [] rfl rfl (by decide) (by decide) hk1 hFc hP1 hD1
              have hP := hP.sub (ws' := [(am, .inr (2, [.int 1, .int wo, .int fu, .ref gs, .ref go, .ref gt, .ref gp, .ref gw, .double la, .double ea, .ref gl, .int ln, .int fd]))]) [0] rfl
              have hD := hD.sub (ws' := [(am, .inr (2, [.int 1, .int wo, .int fu, .ref gs, .ref go, .ref gt, .ref gp, .ref gw, .double la, .double ea, .ref gl, .int ln, .int fd]))]) [0] (by decide) rfl
              obtain rfl := hp_10
              refine lv_i2l hx hb dX2_day_117 rfl ?_
              have e0 : f_X2_day  x1 x2 x3 x4 = (Int32.toInt64 0, 1) := by unfold f_X2_day; rw [if_neg c_1, if_pos c_4, if_pos c_5, if_pos c_6, if_neg c_7, if_neg c_8]
              have e1 : (f_X2_day  x1 x2 x3 x4).2 = 1 := by rw [e0]
              have hP : va_P (dC, dI) vwCl [(am, .inr (2, [.int ((f_X2_day  x1 x2 x3 x4).2), .int wo, .int fu, .ref gs, .ref go, .ref gt, .ref gp, .ref gw, .double la, .double ea, .ref gl, .int ln, .int fd]))] H := by rw [e1]; exact hP
              have hD : va_D A [(am, .inr (2, [.int ((f_X2_day  x1 x2 x3 x4).2), .int wo, .int fu, .ref gs, .ref go, .ref gt, .ref gp, .ref gw, .double la, .double ea, .ref gl, .int ln, .int fd]))] := by rw [e1]; exact hD
              exact W.lret hx hb hr (fun t ht hW => ⟨⟨_, (), rfl, (congrArg Prod.fst e0), ⟨by rw [ht]; exact hP, hD⟩⟩, hS.F ht⟩) hS.2.2 dX2_day_118
            · refine lv_iload hx hb dX2_day_107 (lv_at hl 0 rfl) ?_
              refine lv_if_eq (tgt := 119) hx hb dX2_day_109 (by decide) (fun _ => ?_) (fun c_11 => absurd c_11 (by decide))
              refine lv_iload hx hb dX2_day_119 (lv_at hl 1 rfl) ?_
              refine lv_iload_n hx hb dX2_day_121 rfl (lv_at hl 5 rfl) ?_
              refine lv_iload_n hx hb dX2_day_122 rfl (lv_at hl 6 rfl) ?_
              refine lv_iload hx hb dX2_day_123 (lv_at hl 7 rfl) ?_
              refine vp_callSl (W.runS (As := [.int 1, .int x2, .int x3, .int x4]) (rest := []) ⟨hx, hb, hml, hown, hts⟩ (k_X2_number l 1 x2 x3 x4 (nd_12 c_8)) (va_cwS 4 hts gX2_day_X2_number rfl rfl rfl (by decide +kernel) ⟨Nat.le_of_ble_eq_true rfl, Nat.le_of_ble_eq_true rfl⟩) preEq rfl rfl hl.1 rfl (lv_room (Nat.le_of_ble_eq_true rfl)) dX2_day_125 ⟨Nat.le_of_ble_eq_true rfl, Nat.le_of_ble_eq_true rfl⟩) (fun r hr9 => ?_)
              obtain rfl := hr9
              have e0 : f_X2_day  x1 x2 x3 x4 = (f_X2_number 1 x2 x3 x4, 0) := by unfold f_X2_day; rw [if_neg c_1, if_pos c_4, if_pos c_5, if_pos c_6, if_neg c_7, if_pos c_8]
              have e1 : (f_X2_day  x1 x2 x3 x4).2 = 0 := by rw [e0]
              have hP : va_P (dC, dI) vwCl [(am, .inr (2, [.int ((f_X2_day  x1 x2 x3 x4).2), .int wo, .int fu, .ref gs, .ref go, .ref gt, .ref gp, .ref gw, .double la, .double ea, .ref gl, .int ln, .int fd]))] H := by rw [e1]; exact hP
              have hD : va_D A [(am, .inr (2, [.int ((f_X2_day  x1 x2 x3 x4).2), .int wo, .int fu, .ref gs, .ref go, .ref gt, .ref gp, .ref gw, .double la, .double ea, .ref gl, .int ln, .int fd]))] := by rw [e1]; exact hD
              exact W.lret hx hb hr (fun t ht hW => ⟨⟨_, (), rfl, (congrArg Prod.fst e0), ⟨by rw [ht]; exact hP, hD⟩⟩, hS.F ht⟩) hS.2.2 dX2_day_128
          · refine lv_lload hx hb dX2_day_70 (lv_at hl 1 rfl) ?_
            refine lv_ldc2 hx hb hown (hts (.constantLong RX2 83 (15821004)) (by decide +kernel)) dX2_day_72 ?_
            refine zl_le (tgt := 92) hx hb dX2_day_75 dX2_day_76 (by decide) (fun c_12 => ?_) (fun c_12 => ?_)
            · refine lv_iconst (v := 0) hx hb dX2_day_92 (by decide) ?_
              refine lv_istore (lv' := [(8, .int 0), (7, .int 1), (5, .long ((((Int32.toInt64 x2) * 10000) + ((Int32.toInt64 x3) * 100)) + (Int32.toInt64 x4))), (0, .ref am), (1, .int x1), (2, .int x2), (3, .int x3), (4, .int x4)]) hx hb dX2_day_93 hl (by decide) rfl (fun ls hl => ?_)
              refine lv_iload hx hb dX2_day_95 (lv_at hl 1 rfl) ?_
              refine lv_iload_n hx hb dX2_day_97 rfl (lv_at hl 5 rfl) ?_
              refine lv_iload_n hx hb dX2_day_98 rfl (lv_at hl 6 rfl) ?_
              refine lv_iload hx hb dX2_day_99 (lv_at hl 7 rfl) ?_
              refine vp_callSi (W.runS (As := [.int 1, .int x2, .int x3, .int x4]) (rest := []) ⟨hx, hb, hml, hown, hts⟩ (k_X2_noDate l 1 x2 x3 x4) (va_cwS 4 hts gX2_day_X2_noDate rfl rfl rfl (by decide +kernel) ⟨Nat.le_of_ble_eq_true rfl, Nat.le_of_ble_eq_true rfl⟩) preEq rfl rfl hl.1 rfl (lv_room (Nat.le_of_ble_eq_true rfl)) dX2_day_101 ⟨Nat.le_of_ble_eq_true rfl, Nat.le_of_ble_eq_true rfl⟩) (fun r hr9 => ?_)
              obtain rfl := hr9
              refine lv_if_ne (tgt := 112) hx hb dX2_day_104 (by decide) (fun c_13 => ?_) (fun c_13 => ?_)
              · refine lv_aload_n hx hb dX2_day_112 rfl (lv_at hl 3 rfl) ?_
                refine lv_iconst (v := 1) hx hb dX2_day_113 (by decide) ?_
                have hPc := hP.sub (ws' := [(am, .inr (2, [.int 0, .int wo, .int fu, .ref gs, .ref go, .ref gt, .ref gp, .ref gw, .double la, .double ea, .ref gl, .int ln, .int fd]))]) [0] rfl
                have hDc := hD.sub (ws' := [(am, .inr (2, [.int 0, .int wo, .int fu, .ref gs, .ref go, .ref gt, .ref gp, .ref gw, .double la, .double ea, .ref gl, .int ln, .int fd]))]) [0] (by decide) rfl
                have hFc := va_free (wc := [(am, .inr (2, [.int 0, .int wo, .int fu, .ref gs, .ref go, .ref gt, .ref gp, .ref gw, .double la, .double ea, .ref gl, .int ln, .int fd]))]) hD hS hA [0] rfl
                refine va_calli (va_runV (As := [.int 1]) (rest := []) ⟨hx, hb, hml, hown, hts⟩ (k_X2_fail l hst dC dI cA tm tt _ am gs go gt gp gw gl 0 wo fu la ea ln fd 1) (cwV 1 hts gX2_day_X2_fail rfl rfl rfl (by decide +kernel) ⟨Nat.le_of_ble_eq_true rfl, Nat.le_of_ble_eq_true rfl⟩) ⟨PcW.blind, va_recv hK hPc (ci := 2) (q0 := 0) rfl rfl, PcW.give hPc hK hDc hE hS hFc⟩ rfl rfl hl.1 rfl (lv_room (Nat.le_of_ble_eq_true rfl)) dX2_day_114 ⟨Nat.le_of_ble_eq_true rfl, Nat.le_of_ble_eq_true rfl⟩) hS (fun q _ h => hFc q h) hFc (fun v_14 u t H locs ht hvm hp_15 hB hz1 hk1 hS => ?_)
                obtain ⟨hP1, hD1⟩ := hB
                rw [ht] at hP1
                obtain ⟨hP, hD⟩ := va_join (wr := []) (w1 := [(am, .inr (2, [.int 1, .int wo, .int fu, .ref gs, .ref go, .ref gt, .ref gp, .ref gw, .double la, .double ea, .ref gl, .int ln, .int fd]))]) hP hD [0] [] rfl rfl (by decide) (by decide) hk1 hFc hP1 hD1
                have hP := hP.sub (ws' := [(am, .inr (2, [.int 1, .int wo, .int fu, .ref gs, .ref go, .ref gt, .ref gp, .ref gw, .double la, .double ea, .ref gl, .int ln, .int fd]))]) [0] rfl
                have hD := hD.sub (ws' := [(am, .inr (2, [.int 1, .int wo, .int fu, .ref gs, .ref go, .ref gt, .ref gp, .ref gw, .double la, .double ea, .ref gl, .int ln, .int fd]))]) [0] (by decide) rfl
                obtain rfl := hp_15
                refine lv_i2l hx hb dX2_day_117 rfl ?_
                have e0 : f_X2_day  x1 x2 x3 x4 = (Int32.toInt64 0, 1) := by unfold f_X2_day; rw [if_neg c_1, if_pos c_4, if_pos c_5, if_pos c_6, if_pos c_7, if_pos c_12, if_neg c_13]
                have e1 : (f_X2_day  x1 x2 x3 x4).2 = 1 := by rw [e0]
                have hP : va_P (dC, dI) vwCl [(am, .inr (2, [.int ((f_X2_day  x1 x2 x3 x4).2), .int wo, .int fu, .ref gs, .ref go, .ref gt, .ref gp, .ref gw, .double la, .double ea, .ref gl, .int ln, .int fd]))] H := by rw [e1]; exact hP
                have hD : va_D A [(am, .inr (2, [.int ((f_X2_day  x1 x2 x3 x4).2), .int wo, .int fu, .ref gs, .ref go, .ref gt, .ref gp, .ref gw, .double la, .double ea, .ref gl, .int ln, .int fd]))] := by rw [e1]; exact hD
                exact W.lret hx hb hr (fun t ht hW => ⟨⟨_, (), rfl, (congrArg Prod.fst e0), ⟨by rw [ht]; exact hP, hD⟩⟩, hS.F ht⟩) hS.2.2 dX2_day_118
              · refine lv_iload hx hb dX2_day_107 (lv_at hl 0 rfl) ?_
                refine lv_if_eq (tgt := 119) hx hb dX2_day_109 (by decide) (fun _ => ?_) (fun c_16 => absurd c_16 (by decide))
                refine lv_iload hx hb dX2_day_119 (lv_at hl 1 rfl) ?_
                refine lv_iload_n hx hb dX2_day_121 rfl (lv_at hl 5 rfl) ?_
                refine lv_iload_n hx hb dX2_day_122 rfl (lv_at hl 6 rfl) ?_
                refine lv_iload hx hb dX2_day_123 (lv_at hl 7 rfl) ?_
                refine vp_callSl (W.runS (As := [.int 1, .int x2, .int x3, .int x4]) (rest := []) ⟨hx, hb, hml, hown, hts⟩ (k_X2_number l 1 x2 x3 x4 (nd_12 c_13)) (va_cwS 4 hts gX2_day_X2_number rfl rfl rfl (by decide +kernel) ⟨Nat.le_of_ble_eq_true rfl, Nat.le_of_ble_eq_true rfl⟩) preEq rfl rfl hl.1 rfl (lv_room (Nat.le_of_ble_eq_true rfl)) dX2_day_125 ⟨Nat.le_of_ble_eq_true rfl, Nat.le_of_ble_eq_true rfl⟩) (fun r hr9 => ?_)
                obtain rfl := hr9
                have e0 : f_X2_day  x1 x2 x3 x4 = (f_X2_number 1 x2 x3 x4, 0) := by unfold f_X2_day; rw [if_neg c_1, if_pos c_4, if_pos c_5, if_pos c_6, if_pos c_7, if_pos c_12, if_pos c_13]
                have e1 : (f_X2_day  x1 x2 x3 x4).2 = 0 := by rw [e0]
                have hP : va_P (dC, dI) vwCl [(am, .inr (2, [.int ((f_X2_day  x1 x2 x3 x4).2), .int wo, .int fu, .ref gs, .ref go, .ref gt, .ref gp, .ref gw, .double la, .double ea, .ref gl, .int ln, .int fd]))] H := by rw [e1]; exact hP
                have hD : va_D A [(am, .inr (2, [.int ((f_X2_day  x1 x2 x3 x4).2), .int wo, .int fu, .ref gs, .ref go, .ref gt, .ref gp, .ref gw, .double la, .double ea, .ref gl, .int ln, .int fd]))] := by rw [e1]; exact hD
                exact W.lret hx hb hr (fun t ht hW => ⟨⟨_, (), rfl, (congrArg Prod.fst e0), ⟨by rw [ht]; exact hP, hD⟩⟩, hS.F ht⟩) hS.2.2 dX2_day_128
            · refine lv_lload hx hb dX2_day_79 (lv_at hl 1 rfl) ?_
              refine lv_ldc2 hx hb hown (hts (.constantLong RX2 85 (15821015)) (by decide +kernel)) dX2_day_81 ?_
              refine zl_ge (tgt := 92) hx hb dX2_day_84 dX2_day_85 (by decide) (fun c_17 => ?_) (fun c_17 => ?_)
              · refine lv_iconst (v := 0) hx hb dX2_day_92 (by decide) ?_
                refine lv_istore (lv' := [(8, .int 0), (7, .int 1), (5, .long ((((Int32.toInt64 x2) * 10000) + ((Int32.toInt64 x3) * 100)) + (Int32.toInt64 x4))), (0, .ref am), (1, .int x1), (2, .int x2), (3, .int x3), (4, .int x4)]) hx hb dX2_day_93 hl (by decide) rfl (fun ls hl => ?_)
                refine lv_iload hx hb dX2_day_95 (lv_at hl 1 rfl) ?_
                refine lv_iload_n hx hb dX2_day_97 rfl (lv_at hl 5 rfl) ?_
                refine lv_iload_n hx hb dX2_day_98 rfl (lv_at hl 6 rfl) ?_
                refine lv_iload hx hb dX2_day_99 (lv_at hl 7 rfl) ?_
                refine vp_callSi (W.runS (As := [.int 1, .int x2, .int x3, .int x4]) (rest := []) ⟨hx, hb, hml, hown, hts⟩ (k_X2_noDate l 1 x2 x3 x4) (va_cwS 4 hts gX2_day_X2_noDate rfl rfl rfl (by decide +kernel) ⟨Nat.le_of_ble_eq_true rfl, Nat.le_of_ble_eq_true rfl⟩) preEq rfl rfl hl.1 rfl (lv_room (Nat.le_of_ble_eq_true rfl)) dX2_day_101 ⟨Nat.le_of_ble_eq_true rfl, Nat.le_of_ble_eq_true rfl⟩) (fun r hr9 => ?_)
                obtain rfl := hr9
                refine lv_if_ne (tgt := 112) hx hb dX2_day_104 (by decide) (fun c_18 => ?_) (fun c_18 => ?_)
                · refine lv_aload_n hx hb dX2_day_112 rfl (lv_at hl 3 rfl) ?_
                  refine lv_iconst (v := 1) hx hb dX2_day_113 (by decide) ?_
                  have hPc := hP.sub (ws' := [(am, .inr (2, [.int 0, .int wo, .int fu, .ref gs, .ref go, .ref gt, .ref gp, .ref gw, .double la, .double ea, .ref gl, .int ln, .int fd]))]) [0] rfl
                  have hDc := hD.sub (ws' := [(am, .inr (2, [.int 0, .int wo, .int fu, .ref gs, .ref go, .ref gt, .ref gp, .ref gw, .double la, .double ea, .ref gl, .int ln, .int fd]))]) [0] (by decide) rfl
                  have hFc := va_free (wc := [(am, .inr (2, [.int 0, .int wo, .int fu, .ref gs, .ref go, .ref gt, .ref gp, .ref gw, .double la, .double ea, .ref gl, .int ln, .int fd]))]) hD hS hA [0] rfl
                  refine va_calli (va_runV (As := [.int 1]) (rest := []) ⟨hx, hb, hml, hown, hts⟩ (k_X2_fail l hst dC dI cA tm tt _ am gs go gt gp gw gl 0 wo fu la ea ln fd 1) (cwV 1 hts gX2_day_X2_fail rfl rfl rfl (by decide +kernel) ⟨Nat.le_of_ble_eq_true rfl, Nat.le_of_ble_eq_true rfl⟩) ⟨PcW.blind, va_recv hK hPc (ci := 2) (q0 := 0) rfl rfl, PcW.give hPc hK hDc hE hS hFc⟩ rfl rfl hl.1 rfl (lv_room (Nat.le_of_ble_eq_true rfl)) dX2_day_114 ⟨Nat.le_of_ble_eq_true rfl, Nat.le_of_ble_eq_true rfl⟩) hS (fun q _ h => hFc q h) hFc (fun v_19 u t H locs ht hvm hp_20 hB hz1 hk1 hS => ?_)
                  obtain ⟨hP1, hD1⟩ := hB
                  rw [ht] at hP1
                  obtain ⟨hP, hD⟩ := va_join (wr := []) (w1 := [(am, .inr (2, [.int 1, .int wo, .int fu, .ref gs, .ref go, .ref gt, .ref gp, .ref gw, .double la, .double ea, .ref gl, .int ln, .int fd]))]) hP hD [0] [] rfl rfl (by decide) (by decide) hk1 hFc hP1 hD1
                  have hP := hP.sub (ws' := [(am, .inr (2, [.int 1, .int wo, .int fu, .ref gs, .ref go, .ref gt, .ref gp, .ref gw, .double la, .double ea, .ref gl, .int ln, .int fd]))]) [0] rfl
                  have hD := hD.sub (ws' := [(am, .inr (2, [.int 1, .int wo, .int fu, .ref gs, .ref go, .ref gt, .ref gp, .ref gw, .double la, .double ea, .ref gl, .int ln, .int fd]))]) [0] (by decide) rfl
                  obtain rfl := hp_20
                  refine lv_i2l hx hb dX2_day_117 rfl ?_
                  have e0 : f_X2_day  x1 x2 x3 x4 = (Int32.toInt64 0, 1) := by unfold f_X2_day; rw [if_neg c_1, if_pos c_4, if_pos c_5, if_pos c_6, if_pos c_7, if_neg c_12, if_pos c_17, if_neg c_18]
                  have e1 : (f_X2_day  x1 x2 x3 x4).2 = 1 := by rw [e0]
                  have hP : va_P (dC, dI) vwCl [(am, .inr (2, [.int ((f_X2_day  x1 x2 x3 x4).2), .int wo, .int fu, .ref gs, .ref go, .ref gt, .ref gp, .ref gw, .double la, .double ea, .ref gl, .int ln, .int fd]))] H := by rw [e1]; exact hP
                  have hD : va_D A [(am, .inr (2, [.int ((f_X2_day  x1 x2 x3 x4).2), .int wo, .int fu, .ref gs, .ref go, .ref gt, .ref gp, .ref gw, .double la, .double ea, .ref gl, .int ln, .int fd]))] := by rw [e1]; exact hD
                  exact W.lret hx hb hr (fun t ht hW => ⟨⟨_, (), rfl, (congrArg Prod.fst e0), ⟨by rw [ht]; exact hP, hD⟩⟩, hS.F ht⟩) hS.2.2 dX2_day_118
                · refine lv_iload hx hb dX2_day_107 (lv_at hl 0 rfl) ?_
                  refine lv_if_eq (tgt := 119) hx hb dX2_day_109 (by decide) (fun _ => ?_) (fun c_21 => absurd c_21 (by decide))
                  refine lv_iload hx hb dX2_day_119 (lv_at hl 1 rfl) ?_
                  refine lv_iload_n hx hb dX2_day_121 rfl (lv_at hl 5 rfl) ?_
                  refine lv_iload_n hx hb dX2_day_122 rfl (lv_at hl 6 rfl) ?_
                  refine lv_iload hx hb dX2_day_123 (lv_at hl 7 rfl) ?_
                  refine vp_callSl (W.runS (As := [.int 1, .int x2, .int x3, .int x4]) (rest := []) ⟨hx, hb, hml, hown, hts⟩ (k_X2_number l 1 x2 x3 x4 (nd_12 c_18)) (va_cwS 4 hts gX2_day_X2_number rfl rfl rfl (by decide +kernel) ⟨Nat.le_of_ble_eq_true rfl, Nat.le_of_ble_eq_true rfl⟩) preEq rfl rfl hl.1 rfl (lv_room (Nat.le_of_ble_eq_true rfl)) dX2_day_125 ⟨Nat.le_of_ble_eq_true rfl, Nat.le_of_ble_eq_true rfl⟩) (fun r hr9 => ?_)
                  obtain rfl := hr9
                  have e0 : f_X2_day  x1 x2 x3 x4 = (f_X2_number 1 x2 x3 x4, 0) := by unfold f_X2_day; rw [if_neg c_1, if_pos c_4, if_pos c_5, if_pos c_6, if_pos c_7, if_neg c_12, if_pos c_17, if_pos c_18]
                  have e1 : (f_X2_day  x1 x2 x3 x4).2 = 0 := by rw [e0]
                  have hP : va_P (dC, dI) vwCl [(am, .inr (2, [.int ((f_X2_day  x1 x2 x3 x4).2), .int wo, .int fu, .ref gs, .ref go, .ref gt, .ref gp, .ref gw, .double la, .double ea, .ref gl, .int ln, .int fd]))] H := by rw [e1]; exact hP
                  have hD : va_D A [(am, .inr (2, [.int ((f_X2_day  x1 x2 x3 x4).2), .int wo, .int fu, .ref gs, .ref go, .ref gt, .ref gp, .ref gw, .double la, .double ea, .ref gl, .int ln, .int fd]))] := by rw [e1]; exact hD
                  exact W.lret hx hb hr (fun t ht hW => ⟨⟨_, (), rfl, (congrArg Prod.fst e0), ⟨by rw [ht]; exact hP, hD⟩⟩, hS.F ht⟩) hS.2.2 dX2_day_128
              · refine lv_iconst (v := 1) hx hb dX2_day_88 (by decide) ?_
                refine lv_goto (tgt := 93) hx hb dX2_day_89 (by decide) ?_
                refine lv_istore (lv' := [(8, .int 1), (7, .int 1), (5, .long ((((Int32.toInt64 x2) * 10000) + ((Int32.toInt64 x3) * 100)) + (Int32.toInt64 x4))), (0, .ref am), (1, .int x1), (2, .int x2), (3, .int x3), (4, .int x4)]) hx hb dX2_day_93 hl (by decide) rfl (fun ls hl => ?_)
                refine lv_iload hx hb dX2_day_95 (lv_at hl 1 rfl) ?_
                refine lv_iload_n hx hb dX2_day_97 rfl (lv_at hl 5 rfl) ?_
                refine lv_iload_n hx hb dX2_day_98 rfl (lv_at hl 6 rfl) ?_
                refine lv_iload hx hb dX2_day_99 (lv_at hl 7 rfl) ?_
                refine vp_callSi (W.runS (As := [.int 1, .int x2, .int x3, .int x4]) (rest := []) ⟨hx, hb, hml, hown, hts⟩ (k_X2_noDate l 1 x2 x3 x4) (va_cwS 4 hts gX2_day_X2_noDate rfl rfl rfl (by decide +kernel) ⟨Nat.le_of_ble_eq_true rfl, Nat.le_of_ble_eq_true rfl⟩) preEq rfl rfl hl.1 rfl (lv_room (Nat.le_of_ble_eq_true rfl)) dX2_day_101 ⟨Nat.le_of_ble_eq_true rfl, Nat.le_of_ble_eq_true rfl⟩) (fun r hr9 => ?_)
                obtain rfl := hr9
                refine lv_if_ne (tgt := 112) hx hb dX2_day_104 (by decide) (fun c_22 => ?_) (fun c_22 => ?_)
                · refine lv_aload_n hx hb dX2_day_112 rfl (lv_at hl 3 rfl) ?_
                  refine lv_iconst (v := 1) hx hb dX2_day_113 (by decide) ?_
                  have hPc := hP.sub (ws' := [(am, .inr (2, [.int 0, .int wo, .int fu, .ref gs, .ref go, .ref gt, .ref gp, .ref gw, .double la, .double ea, .ref gl, .int ln, .int fd]))]) [0] rfl
                  have hDc := hD.sub (ws' := [(am, .inr (2, [.int 0, .int wo, .int fu, .ref gs, .ref go, .ref gt, .ref gp, .ref gw, .double la, .double ea, .ref gl, .int ln, .int fd]))]) [0] (by decide) rfl
                  have hFc := va_free (wc := [(am, .inr (2, [.int 0, .int wo, .int fu, .ref gs, .ref go, .ref gt, .ref gp, .ref gw, .double la, .double ea, .ref gl, .int ln, .int fd]))]) hD hS hA [0] rfl
                  refine va_calli (va_runV (As := [.int 1]) (rest := []) ⟨hx, hb, hml, hown, hts⟩ (k_X2_fail l hst dC dI cA tm tt _ am gs go gt gp gw gl 0 wo fu la ea ln fd 1) (cwV 1 hts gX2_day_X2_fail rfl rfl rfl (by decide +kernel) ⟨Nat.le_of_ble_eq_true rfl, Nat.le_of_ble_eq_true rfl⟩) ⟨PcW.blind, va_recv hK hPc (ci := 2) (q0 := 0) rfl rfl, PcW.give hPc hK hDc hE hS hFc⟩ rfl rfl hl.1 rfl (lv_room (Nat.le_of_ble_eq_true rfl)) dX2_day_114 ⟨Nat.le_of_ble_eq_true rfl, Nat.le_of_ble_eq_true rfl⟩) hS (fun q _ h => hFc q h) hFc (fun v_23 u t H locs ht hvm hp_24 hB hz1 hk1 hS => ?_)
                  obtain ⟨hP1, hD1⟩ := hB
                  rw [ht] at hP1
                  obtain ⟨hP, hD⟩ := va_join (wr := []) (w1 := [(am, .inr (2, [.int 1, .int wo, .int fu, .ref gs, .ref go, .ref gt, .ref gp, .ref gw, .double la, .double ea, .ref gl, .int ln, .int fd]))]) hP hD [0] [] rfl rfl (by decide) (by decide) hk1 hFc hP1 hD1
                  have hP := hP.sub (ws' := [(am, .inr (2, [.int 1, .int wo, .int fu, .ref gs, .ref go, .ref gt, .ref gp, .ref gw, .double la, .double ea, .ref gl, .int ln, .int fd]))]) [0] rfl
                  have hD := hD.sub (ws' := [(am, .inr (2, [.int 1, .int wo, .int fu, .ref gs, .ref go, .ref gt, .ref gp, .ref gw, .double la, .double ea, .ref gl, .int ln, .int fd]))]) [0] (by decide) rfl
                  obtain rfl := hp_24
                  refine lv_i2l hx hb dX2_day_117 rfl ?_
                  have e0 : f_X2_day  x1 x2 x3 x4 = (Int32.toInt64 0, 1) := by unfold f_X2_day; rw [if_neg c_1, if_pos c_4, if_pos c_5, if_pos c_6, if_pos c_7, if_neg c_12, if_neg c_17, if_neg c_22]
                  have e1 : (f_X2_day  x1 x2 x3 x4).2 = 1 := by rw [e0]
                  have hP : va_P (dC, dI) vwCl [(am, .inr (2, [.int ((f_X2_day  x1 x2 x3 x4).2), .int wo, .int fu, .ref gs, .ref go, .ref gt, .ref gp, .ref gw, .double la, .double ea, .ref gl, .int ln, .int fd]))] H := by rw [e1]; exact hP
                  have hD : va_D A [(am, .inr (2, [.int ((f_X2_day  x1 x2 x3 x4).2), .int wo, .int fu, .ref gs, .ref go, .ref gt, .ref gp, .ref gw, .double la, .double ea, .ref gl, .int ln, .int fd]))] := by rw [e1]; exact hD
                  exact W.lret hx hb hr (fun t ht hW => ⟨⟨_, (), rfl, (congrArg Prod.fst e0), ⟨by rw [ht]; exact hP, hD⟩⟩, hS.F ht⟩) hS.2.2 dX2_day_118
                · refine lv_iload hx hb dX2_day_107 (lv_at hl 0 rfl) ?_
                  refine lv_if_eq (tgt := 119) hx hb dX2_day_109 (by decide) (fun c_25 => absurd c_25 (by decide)) (fun _ => ?_)
                  refine lv_aload_n hx hb dX2_day_112 rfl (lv_at hl 3 rfl) ?_
                  refine lv_iconst (v := 1) hx hb dX2_day_113 (by decide) ?_
                  have hPc := hP.sub (ws' := [(am, .inr (2, [.int 0, .int wo, .int fu, .ref gs, .ref go, .ref gt, .ref gp, .ref gw, .double la, .double ea, .ref gl, .int ln, .int fd]))]) [0] rfl
                  have hDc := hD.sub (ws' := [(am, .inr (2, [.int 0, .int wo, .int fu, .ref gs, .ref go, .ref gt, .ref gp, .ref gw, .double la, .double ea, .ref gl, .int ln, .int fd]))]) [0] (by decide) rfl
                  have hFc := va_free (wc := [(am, .inr (2, [.int 0, .int wo, .int fu, .ref gs, .ref go, .ref gt, .ref gp, .ref gw, .double la, .double ea, .ref gl, .int ln, .int fd]))]) hD hS hA [0] rfl
                  refine va_calli (va_runV (As := [.int 1]) (rest := []) ⟨hx, hb, hml, hown, hts⟩ (k_X2_fail l hst dC dI cA tm tt _ am gs go gt gp gw gl 0 wo fu la ea ln fd 1) (cwV 1 hts gX2_day_X2_fail rfl rfl rfl (by decide +kernel) ⟨Nat.le_of_ble_eq_true rfl, Nat.le_of_ble_eq_true rfl⟩) ⟨PcW.blind, va_recv hK hPc (ci := 2) (q0 := 0) rfl rfl, PcW.give hPc hK hDc hE hS hFc⟩ rfl rfl hl.1 rfl (lv_room (Nat.le_of_ble_eq_true rfl)) dX2_day_114 ⟨Nat.le_of_ble_eq_true rfl, Nat.le_of_ble_eq_true rfl⟩) hS (fun q _ h => hFc q h) hFc (fun v_26 u t H locs ht hvm hp_27 hB hz1 hk1 hS => ?_)
                  obtain ⟨hP1, hD1⟩ := hB
                  rw [ht] at hP1
                  obtain ⟨hP, hD⟩ := va_join (wr := []) (w1 := [(am, .inr (2, [.int 1, .int wo, .int fu, .ref gs, .ref go, .ref gt, .ref gp, .ref gw, .double la, .double ea, .ref gl, .int ln, .int fd]))]) hP hD [0] [] rfl rfl (by decide) (by decide) hk1 hFc hP1 hD1
                  have hP := hP.sub (ws' := [(am, .inr (2, [.int 1, .int wo, .int fu, .ref gs, .ref go, .ref gt, .ref gp, .ref gw, .double la, .double ea, .ref gl, .int ln, .int fd]))]) [0] rfl
                  have hD := hD.sub (ws' := [(am, .inr (2, [.int 1, .int wo, .int fu, .ref gs, .ref go, .ref gt, .ref gp, .ref gw, .double la, .double ea, .ref gl, .int ln, .int fd]))]) [0] (by decide) rfl
                  obtain rfl := hp_27
                  refine lv_i2l hx hb dX2_day_117 rfl ?_
                  have e0 : f_X2_day  x1 x2 x3 x4 = (Int32.toInt64 0, 1) := by unfold f_X2_day; rw [if_neg c_1, if_pos c_4, if_pos c_5, if_pos c_6, if_pos c_7, if_neg c_12, if_neg c_17, if_pos c_22]
                  have e1 : (f_X2_day  x1 x2 x3 x4).2 = 1 := by rw [e0]
                  have hP : va_P (dC, dI) vwCl [(am, .inr (2, [.int ((f_X2_day  x1 x2 x3 x4).2), .int wo, .int fu, .ref gs, .ref go, .ref gt, .ref gp, .ref gw, .double la, .double ea, .ref gl, .int ln, .int fd]))] H := by rw [e1]; exact hP
                  have hD : va_D A [(am, .inr (2, [.int ((f_X2_day  x1 x2 x3 x4).2), .int wo, .int fu, .ref gs, .ref go, .ref gt, .ref gp, .ref gw, .double la, .double ea, .ref gl, .int ln, .int fd]))] := by rw [e1]; exact hD
                  exact W.lret hx hb hr (fun t ht hW => ⟨⟨_, (), rfl, (congrArg Prod.fst e0), ⟨by rw [ht]; exact hP, hD⟩⟩, hS.F ht⟩) hS.2.2 dX2_day_118
        · refine lv_iconst (v := 0) hx hb dX2_day_58 (by decide) ?_
          refine lv_goto (tgt := 63) hx hb dX2_day_59 (by decide) ?_
          refine lv_istore (lv' := [(7, .int 0), (5, .long ((((Int32.toInt64 x2) * 10000) + ((Int32.toInt64 x3) * 100)) + (Int32.toInt64 x4))), (0, .ref am), (1, .int x1), (2, .int x2), (3, .int x3), (4, .int x4)]) hx hb dX2_day_63 hl (by decide) rfl (fun ls hl => ?_)
          refine lv_iload_n hx hb dX2_day_65 rfl (lv_at hl 3 rfl) ?_
          refine lv_iconst (v := 2) hx hb dX2_day_66 (by decide) ?_
          refine lv_icmp_ne (tgt := 92) hx hb dX2_day_67 (by decide) (fun c_28 => ?_) (fun c_28 => ?_)
          · refine lv_iconst (v := 0) hx hb dX2_day_92 (by decide) ?_
            refine lv_istore (lv' := [(8, .int 0), (7, .int 0), (5, .long ((((Int32.toInt64 x2) * 10000) + ((Int32.toInt64 x3) * 100)) + (Int32.toInt64 x4))), (0, .ref am), (1, .int x1), (2, .int x2), (3, .int x3), (4, .int x4)]) hx hb dX2_day_93 hl (by decide) rfl (fun ls hl => ?_)
            refine lv_iload hx hb dX2_day_95 (lv_at hl 1 rfl) ?_
            refine lv_iload_n hx hb dX2_day_97 rfl (lv_at hl 5 rfl) ?_
            refine lv_iload_n hx hb dX2_day_98 rfl (lv_at hl 6 rfl) ?_
            refine lv_iload hx hb dX2_day_99 (lv_at hl 7 rfl) ?_
            refine vp_callSi (W.runS (As := [.int 0, .int x2, .int x3, .int x4]) (rest := []) ⟨hx, hb, hml, hown, hts⟩ (k_X2_noDate l 0 x2 x3 x4) (va_cwS 4 hts gX2_day_X2_noDate rfl rfl rfl (by decide +kernel) ⟨Nat.le_of_ble_eq_true rfl, Nat.le_of_ble_eq_true rfl⟩) preEq rfl rfl hl.1 rfl (lv_room (Nat.le_of_ble_eq_true rfl)) dX2_day_101 ⟨Nat.le_of_ble_eq_true rfl, Nat.le_of_ble_eq_true rfl⟩) (fun r hr9 => ?_)
            obtain rfl := hr9
            refine lv_if_ne (tgt := 112) hx hb dX2_day_104 (by decide) (fun c_29 => ?_) (fun c_29 => ?_)
            · refine lv_aload_n hx hb dX2_day_112 rfl (lv_at hl 3 rfl) ?_
              refine lv_iconst (v := 1) hx hb dX2_day_113 (by decide) ?_
              have hPc := hP.sub (ws' := [(am, .inr (2, [.int 0, .int wo, .int fu, .ref gs, .ref go, .ref gt, .ref gp, .ref gw, .double la, .double ea, .ref gl, .int ln, .int fd]))]) [0] rfl
              have hDc := hD.sub (ws' := [(am, .inr (2, [.int 0, .int wo, .int fu, .ref gs, .ref go, .ref gt, .ref gp, .ref gw, .double la, .double ea, .ref gl, .int ln, .int fd]))]) [0] (by decide) rfl
              have hFc := va_free (wc := [(am, .inr (2, [.int 0, .int wo, .int fu, .ref gs, .ref go, .ref gt, .ref gp, .ref gw, .double la, .double ea, .ref gl, .int ln, .int fd]))]) hD hS hA [0] rfl
              refine va_calli (va_runV (As := [.int 1]) (rest := []) ⟨hx, hb, hml, hown, hts⟩ (k_X2_fail l hst dC dI cA tm tt _ am gs go gt gp gw gl 0 wo fu la ea ln fd 1) (cwV 1 hts gX2_day_X2_fail rfl rfl rfl (by decide +kernel) ⟨Nat.le_of_ble_eq_true rfl, Nat.le_of_ble_eq_true rfl⟩) ⟨PcW.blind, va_recv hK hPc (ci := 2) (q0 := 0) rfl rfl, PcW.give hPc hK hDc hE hS hFc⟩ rfl rfl hl.1 rfl (lv_room (Nat.le_of_ble_eq_true rfl)) dX2_day_114 ⟨Nat.le_of_ble_eq_true rfl, Nat.le_of_ble_eq_true rfl⟩) hS (fun q _ h => hFc q h) hFc (fun v_30 u t H locs ht hvm hp_31 hB hz1 hk1 hS => ?_)
              obtain ⟨hP1, hD1⟩ := hB
              rw [ht] at hP1
              obtain ⟨hP, hD⟩ := va_join (wr := []) (w1 := [(am, .inr (2, [.int 1, .int wo, .int fu, .ref gs, .ref go, .ref gt, .ref gp, .ref gw, .double la, .double ea, .ref gl, .int ln, .int fd]))]) hP hD [0] [] rfl rfl (by decide) (by decide) hk1 hFc hP1 hD1
              have hP := hP.sub (ws' := [(am, .inr (2, [.int 1, .int wo, .int fu, .ref gs, .ref go, .ref gt, .ref gp, .ref gw, .double la, .double ea, .ref gl, .int ln, .int fd]))]) [0] rfl
              have hD := hD.sub (ws' := [(am, .inr (2, [.int 1, .int wo, .int fu, .ref gs, .ref go, .ref gt, .ref gp, .ref gw, .double la, .double ea, .ref gl, .int ln, .int fd]))]) [0] (by decide) rfl
              obtain rfl := hp_31
              refine lv_i2l hx hb dX2_day_117 rfl ?_
              have e0 : f_X2_day  x1 x2 x3 x4 = (Int32.toInt64 0, 1) := by unfold f_X2_day; rw [if_neg c_1, if_pos c_4, if_pos c_5, if_neg c_6, if_neg c_28, if_neg c_29]
              have e1 : (f_X2_day  x1 x2 x3 x4).2 = 1 := by rw [e0]
              have hP : va_P (dC, dI) vwCl [(am, .inr (2, [.int ((f_X2_day  x1 x2 x3 x4).2), .int wo, .int fu, .ref gs, .ref go, .ref gt, .ref gp, .ref gw, .double la, .double ea, .ref gl, .int ln, .int fd]))] H := by rw [e1]; exact hP
              have hD : va_D A [(am, .inr (2, [.int ((f_X2_day  x1 x2 x3 x4).2), .int wo, .int fu, .ref gs, .ref go, .ref gt, .ref gp, .ref gw, .double la, .double ea, .ref gl, .int ln, .int fd]))] := by rw [e1]; exact hD
              exact W.lret hx hb hr (fun t ht hW => ⟨⟨_, (), rfl, (congrArg Prod.fst e0), ⟨by rw [ht]; exact hP, hD⟩⟩, hS.F ht⟩) hS.2.2 dX2_day_118
            · refine lv_iload hx hb dX2_day_107 (lv_at hl 0 rfl) ?_
              refine lv_if_eq (tgt := 119) hx hb dX2_day_109 (by decide) (fun _ => ?_) (fun c_32 => absurd c_32 (by decide))
              refine lv_iload hx hb dX2_day_119 (lv_at hl 1 rfl) ?_
              refine lv_iload_n hx hb dX2_day_121 rfl (lv_at hl 5 rfl) ?_
              refine lv_iload_n hx hb dX2_day_122 rfl (lv_at hl 6 rfl) ?_
              refine lv_iload hx hb dX2_day_123 (lv_at hl 7 rfl) ?_
              refine vp_callSl (W.runS (As := [.int 0, .int x2, .int x3, .int x4]) (rest := []) ⟨hx, hb, hml, hown, hts⟩ (k_X2_number l 0 x2 x3 x4 (nd_12 c_29)) (va_cwS 4 hts gX2_day_X2_number rfl rfl rfl (by decide +kernel) ⟨Nat.le_of_ble_eq_true rfl, Nat.le_of_ble_eq_true rfl⟩) preEq rfl rfl hl.1 rfl (lv_room (Nat.le_of_ble_eq_true rfl)) dX2_day_125 ⟨Nat.le_of_ble_eq_true rfl, Nat.le_of_ble_eq_true rfl⟩) (fun r hr9 => ?_)
              obtain rfl := hr9
              have e0 : f_X2_day  x1 x2 x3 x4 = (f_X2_number 0 x2 x3 x4, 0) := by unfold f_X2_day; rw [if_neg c_1, if_pos c_4, if_pos c_5, if_neg c_6, if_neg c_28, if_pos c_29]
              have e1 : (f_X2_day  x1 x2 x3 x4).2 = 0 := by rw [e0]
              have hP : va_P (dC, dI) vwCl [(am, .inr (2, [.int ((f_X2_day  x1 x2 x3 x4).2), .int wo, .int fu, .ref gs, .ref go, .ref gt, .ref gp, .ref gw, .double la, .double ea, .ref gl, .int ln, .int fd]))] H := by rw [e1]; exact hP
              have hD : va_D A [(am, .inr (2, [.int ((f_X2_day  x1 x2 x3 x4).2), .int wo, .int fu, .ref gs, .ref go, .ref gt, .ref gp, .ref gw, .double la, .double ea, .ref gl, .int ln, .int fd]))] := by rw [e1]; exact hD
              exact W.lret hx hb hr (fun t ht hW => ⟨⟨_, (), rfl, (congrArg Prod.fst e0), ⟨by rw [ht]; exact hP, hD⟩⟩, hS.F ht⟩) hS.2.2 dX2_day_128
          · refine lv_lload hx hb dX2_day_70 (lv_at hl 1 rfl) ?_
            refine lv_ldc2 hx hb hown (hts (.constantLong RX2 83 (15821004)) (by decide +kernel)) dX2_day_72 ?_
            refine zl_le (tgt := 92) hx hb dX2_day_75 dX2_day_76 (by decide) (fun c_33 => ?_) (fun c_33 => ?_)
            · refine lv_iconst (v := 0) hx hb dX2_day_92 (by decide) ?_
              refine lv_istore (lv' := [(8, .int 0), (7, .int 0), (5, .long ((((Int32.toInt64 x2) * 10000) + ((Int32.toInt64 x3) * 100)) + (Int32.toInt64 x4))), (0, .ref am), (1, .int x1), (2, .int x2), (3, .int x3), (4, .int x4)]) hx hb dX2_day_93 hl (by decide) rfl (fun ls hl => ?_)
              refine lv_iload hx hb dX2_day_95 (lv_at hl 1 rfl) ?_
              refine lv_iload_n hx hb dX2_day_97 rfl (lv_at hl 5 rfl) ?_
              refine lv_iload_n hx hb dX2_day_98 rfl (lv_at hl 6 rfl) ?_
              refine lv_iload hx hb dX2_day_99 (lv_at hl 7 rfl) ?_
              refine vp_callSi (W.runS (As := [.int 0, .int x2, .int x3, .int x4]) (rest := []) ⟨hx, hb, hml, hown, hts⟩ (k_X2_noDate l 0 x2 x3 x4) (va_cwS 4 hts gX2_day_X2_noDate rfl rfl rfl (by decide +kernel) ⟨Nat.le_of_ble_eq_true rfl, Nat.le_of_ble_eq_true rfl⟩) preEq rfl rfl hl.1 rfl (lv_room (Nat.le_of_ble_eq_true rfl)) dX2_day_101 ⟨Nat.le_of_ble_eq_true rfl, Nat.le_of_ble_eq_true rfl⟩) (fun r hr9 => ?_)
              obtain rfl := hr9
              refine lv_if_ne (tgt := 112) hx hb dX2_day_104 (by decide) (fun c_34 => ?_) (fun c_34 => ?_)
              · refine lv_aload_n hx hb dX2_day_112 rfl (lv_at hl 3 rfl) ?_
                refine lv_iconst (v := 1) hx hb dX2_day_113 (by decide) ?_
                have hPc := hP.sub (ws' := [(am, .inr (2, [.int 0, .int wo, .int fu, .ref gs, .ref go, .ref gt, .ref gp, .ref gw, .double la, .double ea, .ref gl, .int ln, .int fd]))]) [0] rfl
                have hDc := hD.sub (ws' := [(am, .inr (2, [.int 0, .int wo, .int fu, .ref gs, .ref go, .ref gt, .ref gp, .ref gw, .double la, .double ea, .ref gl, .int ln, .int fd]))]) [0] (by decide) rfl
                have hFc := va_free (wc := [(am, .inr (2, [.int 0, .int wo, .int fu, .ref gs, .ref go, .ref gt, .ref gp, .ref gw, .double la, .double ea, .ref gl, .int ln, .int fd]))]) hD hS hA [0] rfl
                refine va_calli (va_runV (As := [.int 1]) (rest := []) ⟨hx, hb, hml, hown, hts⟩ (k_X2_fail l hst dC dI cA tm tt _ am gs go gt gp gw gl 0 wo fu la ea ln fd 1) (cwV 1 hts gX2_day_X2_fail rfl rfl rfl (by decide +kernel) ⟨Nat.le_of_ble_eq_true rfl, Nat.le_of_ble_eq_true rfl⟩) ⟨PcW.blind, va_recv hK hPc (ci := 2) (q0 := 0) rfl rfl, PcW.give hPc hK hDc hE hS hFc⟩ rfl rfl hl.1 rfl (lv_room (Nat.le_of_ble_eq_true rfl)) dX2_day_114 ⟨Nat.le_of_ble_eq_true rfl, Nat.le_of_ble_eq_true rfl⟩) hS (fun q _ h => hFc q h) hFc (fun v_35 u t H locs ht hvm hp_36 hB hz1 hk1 hS => ?_)
                obtain ⟨hP1, hD1⟩ := hB
                rw [ht] at hP1
                obtain ⟨hP, hD⟩ := va_join (wr := []) (w1 := [(am, .inr (2, [.int 1, .int wo, .int fu, .ref gs, .ref go, .ref gt, .ref gp, .ref gw, .double la, .double ea, .ref gl, .int ln, .int fd]))]) hP hD [0] [] rfl rfl (by decide) (by decide) hk1 hFc hP1 hD1
                have hP := hP.sub (ws' := [(am, .inr (2, [.int 1, .int wo, .int fu, .ref gs, .ref go, .ref gt, .ref gp, .ref gw, .double la, .double ea, .ref gl, .int ln, .int fd]))]) [0] rfl
                have hD := hD.sub (ws' := [(am, .inr (2, [.int 1, .int wo, .int fu, .ref gs, .ref go, .ref gt, .ref gp, .ref gw, .double la, .double ea, .ref gl, .int ln, .int fd]))]) [0] (by decide) rfl
                obtain rfl := hp_36
                refine lv_i2l hx hb dX2_day_117 rfl ?_
                have e0 : f_X2_day  x1 x2 x3 x4 = (Int32.toInt64 0, 1) := by unfold f_X2_day; rw [if_neg c_1, if_pos c_4, if_pos c_5, if_neg c_6, if_pos c_28, if_pos c_33, if_neg c_34]
                have e1 : (f_X2_day  x1 x2 x3 x4).2 = 1 := by rw [e0]
                have hP : va_P (dC, dI) vwCl [(am, .inr (2, [.int ((f_X2_day  x1 x2 x3 x4).2), .int wo, .int fu, .ref gs, .ref go, .ref gt, .ref gp, .ref gw, .double la, .double ea, .ref gl, .int ln, .int fd]))] H := by rw [e1]; exact hP
                have hD : va_D A [(am, .inr (2, [.int ((f_X2_day  x1 x2 x3 x4).2), .int wo, .int fu, .ref gs, .ref go, .ref gt, .ref gp, .ref gw, .double la, .double ea, .ref gl, .int ln, .int fd]))] := by rw [e1]; exact hD
                exact W.lret hx hb hr (fun t ht hW => ⟨⟨_, (), rfl, (congrArg Prod.fst e0), ⟨by rw [ht]; exact hP, hD⟩⟩, hS.F ht⟩) hS.2.2 dX2_day_118
              · refine lv_iload hx hb dX2_day_107 (lv_at hl 0 rfl) ?_
                refine lv_if_eq (tgt := 119) hx hb dX2_day_109 (by decide) (fun _ => ?_) (fun c_37 => absurd c_37 (by decide))
                refine lv_iload hx hb dX2_day_119 (lv_at hl 1 rfl) ?_
                refine lv_iload_n hx hb dX2_day_121 rfl (lv_at hl 5 rfl) ?_
                refine lv_iload_n hx hb dX2_day_122 rfl (lv_at hl 6 rfl) ?_
                refine lv_iload hx hb dX2_day_123 (lv_at hl 7 rfl) ?_
                refine vp_callSl (W.runS (As := [.int 0, .int x2, .int x3, .int x4]) (rest := []) ⟨hx, hb, hml, hown, hts⟩ (k_X2_number l 0 x2 x3 x4 (nd_12 c_34)) (va_cwS 4 hts gX2_day_X2_number rfl rfl rfl (by decide +kernel) ⟨Nat.le_of_ble_eq_true rfl, Nat.le_of_ble_eq_true rfl⟩) preEq rfl rfl hl.1 rfl (lv_room (Nat.le_of_ble_eq_true rfl)) dX2_day_125 ⟨Nat.le_of_ble_eq_true rfl, Nat.le_of_ble_eq_true rfl⟩) (fun r hr9 => ?_)
                obtain rfl := hr9
                have e0 : f_X2_day  x1 x2 x3 x4 = (f_X2_number 0 x2 x3 x4, 0) := by unfold f_X2_day; rw [if_neg c_1, if_pos c_4, if_pos c_5, if_neg c_6, if_pos c_28, if_pos c_33, if_pos c_34]
                have e1 : (f_X2_day  x1 x2 x3 x4).2 = 0 := by rw [e0]
                have hP : va_P (dC, dI) vwCl [(am, .inr (2, [.int ((f_X2_day  x1 x2 x3 x4).2), .int wo, .int fu, .ref gs, .ref go, .ref gt, .ref gp, .ref gw, .double la, .double ea, .ref gl, .int ln, .int fd]))] H := by rw [e1]; exact hP
                have hD : va_D A [(am, .inr (2, [.int ((f_X2_day  x1 x2 x3 x4).2), .int wo, .int fu, .ref gs, .ref go, .ref gt, .ref gp, .ref gw, .double la, .double ea, .ref gl, .int ln, .int fd]))] := by rw [e1]; exact hD
                exact W.lret hx hb hr (fun t ht hW => ⟨⟨_, (), rfl, (congrArg Prod.fst e0), ⟨by rw [ht]; exact hP, hD⟩⟩, hS.F ht⟩) hS.2.2 dX2_day_128
            · refine lv_lload hx hb dX2_day_79 (lv_at hl 1 rfl) ?_
              refine lv_ldc2 hx hb hown (hts (.constantLong RX2 85 (15821015)) (by decide +kernel)) dX2_day_81 ?_
              refine zl_ge (tgt := 92) hx hb dX2_day_84 dX2_day_85 (by decide) (fun c_38 => ?_) (fun c_38 => ?_)
              · refine lv_iconst (v := 0) hx hb dX2_day_92 (by decide) ?_
                refine lv_istore (lv' := [(8, .int 0), (7, .int 0), (5, .long ((((Int32.toInt64 x2) * 10000) + ((Int32.toInt64 x3) * 100)) + (Int32.toInt64 x4))), (0, .ref am), (1, .int x1), (2, .int x2), (3, .int x3), (4, .int x4)]) hx hb dX2_day_93 hl (by decide) rfl (fun ls hl => ?_)
                refine lv_iload hx hb dX2_day_95 (lv_at hl 1 rfl) ?_
                refine lv_iload_n hx hb dX2_day_97 rfl (lv_at hl 5 rfl) ?_
                refine lv_iload_n hx hb dX2_day_98 rfl (lv_at hl 6 rfl) ?_
                refine lv_iload hx hb dX2_day_99 (lv_at hl 7 rfl) ?_
                refine vp_callSi (W.runS (As := [.int 0, .int x2, .int x3, .int x4]) (rest := []) ⟨hx, hb, hml, hown, hts⟩ (k_X2_noDate l 0 x2 x3 x4) (va_cwS 4 hts gX2_day_X2_noDate rfl rfl rfl (by decide +kernel) ⟨Nat.le_of_ble_eq_true rfl, Nat.le_of_ble_eq_true rfl⟩) preEq rfl rfl hl.1 rfl (lv_room (Nat.le_of_ble_eq_true rfl)) dX2_day_101 ⟨Nat.le_of_ble_eq_true rfl, Nat.le_of_ble_eq_true rfl⟩) (fun r hr9 => ?_)
                obtain rfl := hr9
                refine lv_if_ne (tgt := 112) hx hb dX2_day_104 (by decide) (fun c_39 => ?_) (fun c_39 => ?_)
                · refine lv_aload_n hx hb dX2_day_112 rfl (lv_at hl 3 rfl) ?_
                  refine lv_iconst (v := 1) hx hb dX2_day_113 (by decide) ?_
                  have hPc := hP.sub (ws' := [(am, .inr (2, [.int 0, .int wo, .int fu, .ref gs, .ref go, .ref gt, .ref gp, .ref gw, .double la, .double ea, .ref gl, .int ln, .int fd]))]) [0] rfl
                  have hDc := hD.sub (ws' := [(am, .inr (2, [.int 0, .int wo, .int fu, .ref gs, .ref go, .ref gt, .ref gp, .ref gw, .double la, .double ea, .ref gl, .int ln, .int fd]))]) [0] (by decide) rfl
                  have hFc := va_free (wc := [(am, .inr (2, [.int 0, .int wo, .int fu, .ref gs, .ref go, .ref gt, .ref gp, .ref gw, .double la, .double ea, .ref gl, .int ln, .int fd]))]) hD hS hA [0] rfl
                  refine va_calli (va_runV (As := [.int 1]) (rest := []) ⟨hx, hb, hml, hown, hts⟩ (k_X2_fail l hst dC dI cA tm tt _ am gs go gt gp gw gl 0 wo fu la ea ln fd 1) (cwV 1 hts gX2_day_X2_fail rfl rfl rfl (by decide +kernel) ⟨Nat.le_of_ble_eq_true rfl, Nat.le_of_ble_eq_true rfl⟩) ⟨PcW.blind, va_recv hK hPc (ci := 2) (q0 := 0) rfl rfl, PcW.give hPc hK hDc hE hS hFc⟩ rfl rfl hl.1 rfl (lv_room (Nat.le_of_ble_eq_true rfl)) dX2_day_114 ⟨Nat.le_of_ble_eq_true rfl, Nat.le_of_ble_eq_true rfl⟩) hS (fun q _ h => hFc q h) hFc (fun v_40 u t H locs ht hvm hp_41 hB hz1 hk1 hS => ?_)
                  obtain ⟨hP1, hD1⟩ := hB
                  rw [ht] at hP1
                  obtain ⟨hP, hD⟩ := va_join (wr := []) (w1 := [(am, .inr (2, [.int 1, .int wo, .int fu, .ref gs, .ref go, .ref gt, .ref gp, .ref gw, .double la, .double ea, .ref gl, .int ln, .int fd]))]) hP hD [0] [] rfl rfl (by decide) (by decide) hk1 hFc hP1 hD1
                  have hP := hP.sub (ws' := [(am, .inr (2, [.int 1, .int wo, .int fu, .ref gs, .ref go, .ref gt, .ref gp, .ref gw, .double la, .double ea, .ref gl, .int ln, .int fd]))]) [0] rfl
                  have hD := hD.sub (ws' := [(am, .inr (2, [.int 1, .int wo, .int fu, .ref gs, .ref go, .ref gt, .ref gp, .ref gw, .double la, .double ea, .ref gl, .int ln, .int fd]))]) [0] (by decide) rfl
                  obtain rfl := hp_41
                  refine lv_i2l hx hb dX2_day_117 rfl ?_
                  have e0 : f_X2_day  x1 x2 x3 x4 = (Int32.toInt64 0, 1) := by unfold f_X2_day; rw [if_neg c_1, if_pos c_4, if_pos c_5, if_neg c_6, if_pos c_28, if_neg c_33, if_pos c_38, if_neg c_39]
                  have e1 : (f_X2_day  x1 x2 x3 x4).2 = 1 := by rw [e0]
                  have hP : va_P (dC, dI) vwCl [(am, .inr (2, [.int ((f_X2_day  x1 x2 x3 x4).2), .int wo, .int fu, .ref gs, .ref go, .ref gt, .ref gp, .ref gw, .double la, .double ea, .ref gl, .int ln, .int fd]))] H := by rw [e1]; exact hP
                  have hD : va_D A [(am, .inr (2, [.int ((f_X2_day  x1 x2 x3 x4).2), .int wo, .int fu, .ref gs, .ref go, .ref gt, .ref gp, .ref gw, .double la, .double ea, .ref gl, .int ln, .int fd]))] := by rw [e1]; exact hD
                  exact W.lret hx hb hr (fun t ht hW => ⟨⟨_, (), rfl, (congrArg Prod.fst e0), ⟨by rw [ht]; exact hP, hD⟩⟩, hS.F ht⟩) hS.2.2 dX2_day_118
                · refine lv_iload hx hb dX2_day_107 (lv_at hl 0 rfl) ?_
                  refine lv_if_eq (tgt := 119) hx hb dX2_day_109 (by decide) (fun _ => ?_) (fun c_42 => absurd c_42 (by decide))
                  refine lv_iload hx hb dX2_day_119 (lv_at hl 1 rfl) ?_
                  refine lv_iload_n hx hb dX2_day_121 rfl (lv_at hl 5 rfl) ?_
                  refine lv_iload_n hx hb dX2_day_122 rfl (lv_at hl 6 rfl) ?_
                  refine lv_iload hx hb dX2_day_123 (lv_at hl 7 rfl) ?_
                  refine vp_callSl (W.runS (As := [.int 0, .int x2, .int x3, .int x4]) (rest := []) ⟨hx, hb, hml, hown, hts⟩ (k_X2_number l 0 x2 x3 x4 (nd_12 c_39)) (va_cwS 4 hts gX2_day_X2_number rfl rfl rfl (by decide +kernel) ⟨Nat.le_of_ble_eq_true rfl, Nat.le_of_ble_eq_true rfl⟩) preEq rfl rfl hl.1 rfl (lv_room (Nat.le_of_ble_eq_true rfl)) dX2_day_125 ⟨Nat.le_of_ble_eq_true rfl, Nat.le_of_ble_eq_true rfl⟩) (fun r hr9 => ?_)
                  obtain rfl := hr9
                  have e0 : f_X2_day  x1 x2 x3 x4 = (f_X2_number 0 x2 x3 x4, 0) := by unfold f_X2_day; rw [if_neg c_1, if_pos c_4, if_pos c_5, if_neg c_6, if_pos c_28, if_neg c_33, if_pos c_38, if_pos c_39]
                  have e1 : (f_X2_day  x1 x2 x3 x4).2 = 0 := by rw [e0]
                  have hP : va_P (dC, dI) vwCl [(am, .inr (2, [.int ((f_X2_day  x1 x2 x3 x4).2), .int wo, .int fu, .ref gs, .ref go, .ref gt, .ref gp, .ref gw, .double la, .double ea, .ref gl, .int ln, .int fd]))] H := by rw [e1]; exact hP
                  have hD : va_D A [(am, .inr (2, [.int ((f_X2_day  x1 x2 x3 x4).2), .int wo, .int fu, .ref gs, .ref go, .ref gt, .ref gp, .ref gw, .double la, .double ea, .ref gl, .int ln, .int fd]))] := by rw [e1]; exact hD
                  exact W.lret hx hb hr (fun t ht hW => ⟨⟨_, (), rfl, (congrArg Prod.fst e0), ⟨by rw [ht]; exact hP, hD⟩⟩, hS.F ht⟩) hS.2.2 dX2_day_128
              · refine lv_iconst (v := 1) hx hb dX2_day_88 (by decide) ?_
                refine lv_goto (tgt := 93) hx hb dX2_day_89 (by decide) ?_
                refine lv_istore (lv' := [(8, .int 1), (7, .int 0), (5, .long ((((Int32.toInt64 x2) * 10000) + ((Int32.toInt64 x3) * 100)) + (Int32.toInt64 x4))), (0, .ref am), (1, .int x1), (2, .int x2), (3, .int x3), (4, .int x4)]) hx hb dX2_day_93 hl (by decide) rfl (fun ls hl => ?_)
                refine lv_iload hx hb dX2_day_95 (lv_at hl 1 rfl) ?_
                refine lv_iload_n hx hb dX2_day_97 rfl (lv_at hl 5 rfl) ?_
                refine lv_iload_n hx hb dX2_day_98 rfl (lv_at hl 6 rfl) ?_
                refine lv_iload hx hb dX2_day_99 (lv_at hl 7 rfl) ?_
                refine vp_callSi (W.runS (As := [.int 0, .int x2, .int x3, .int x4]) (rest := []) ⟨hx, hb, hml, hown, hts⟩ (k_X2_noDate l 0 x2 x3 x4) (va_cwS 4 hts gX2_day_X2_noDate rfl rfl rfl (by decide +kernel) ⟨Nat.le_of_ble_eq_true rfl, Nat.le_of_ble_eq_true rfl⟩) preEq rfl rfl hl.1 rfl (lv_room (Nat.le_of_ble_eq_true rfl)) dX2_day_101 ⟨Nat.le_of_ble_eq_true rfl, Nat.le_of_ble_eq_true rfl⟩) (fun r hr9 => ?_)
                obtain rfl := hr9
                refine lv_if_ne (tgt := 112) hx hb dX2_day_104 (by decide) (fun c_43 => ?_) (fun c_43 => ?_)
                · refine lv_aload_n hx hb dX2_day_112 rfl (lv_at hl 3 rfl) ?_
                  refine lv_iconst (v := 1) hx hb dX2_day_113 (by decide) ?_
                  have hPc := hP.sub (ws' := [(am, .inr (2, [.int 0, .int wo, .int fu, .ref gs, .ref go, .ref gt, .ref gp, .ref gw, .double la, .double ea, .ref gl, .int ln, .int fd]))]) [0] rfl
                  have hDc := hD.sub (ws' := [(am, .inr (2, [.int 0, .int wo, .int fu, .ref gs, .ref go, .ref gt, .ref gp, .ref gw, .double la, .double ea, .ref gl, .int ln, .int fd]))]) [0] (by decide) rfl
                  have hFc := va_free (wc := [(am, .inr (2, [.int 0, .int wo, .int fu, .ref gs, .ref go, .ref gt, .ref gp, .ref gw, .double la, .double ea, .ref gl, .int ln, .int fd]))]) hD hS hA [0] rfl
                  refine va_calli (va_runV (As := [.int 1]) (rest := []) ⟨hx, hb, hml, hown, hts⟩ (k_X2_fail l hst dC dI cA tm tt _ am gs go gt gp gw gl 0 wo fu la ea ln fd 1) (cwV 1 hts gX2_day_X2_fail rfl rfl rfl (by decide +kernel) ⟨Nat.le_of_ble_eq_true rfl, Nat.le_of_ble_eq_true rfl⟩) ⟨PcW.blind, va_recv hK hPc (ci := 2) (q0 := 0) rfl rfl, PcW.give hPc hK hDc hE hS hFc⟩ rfl rfl hl.1 rfl (lv_room (Nat.le_of_ble_eq_true rfl)) dX2_day_114 ⟨Nat.le_of_ble_eq_true rfl, Nat.le_of_ble_eq_true rfl⟩) hS (fun q _ h => hFc q h) hFc (fun v_44 u t H locs ht hvm hp_45 hB hz1 hk1 hS => ?_)
                  obtain ⟨hP1, hD1⟩ := hB
                  rw [ht] at hP1
                  obtain ⟨hP, hD⟩ := va_join (wr := []) (w1 := [(am, .inr (2, [.int 1, .int wo, .int fu, .ref gs, .ref go, .ref gt, .ref gp, .ref gw, .double la, .double ea, .ref gl, .int ln, .int fd]))]) hP hD [0] [] rfl rfl (by decide) (by decide) hk1 hFc hP1 hD1
                  have hP := hP.sub (ws' := [(am, .inr (2, [.int 1, .int wo, .int fu, .ref gs, .ref go, .ref gt, .ref gp, .ref gw, .double la, .double ea, .ref gl, .int ln, .int fd]))]) [0] rfl
                  have hD := hD.sub (ws' := [(am, .inr (2, [.int 1, .int wo, .int fu, .ref gs, .ref go, .ref gt, .ref gp, .ref gw, .double la, .double ea, .ref gl, .int ln, .int fd]))]) [0] (by decide) rfl
                  obtain rfl := hp_45
                  refine lv_i2l hx hb dX2_day_117 rfl ?_
                  have e0 : f_X2_day  x1 x2 x3 x4 = (Int32.toInt64 0, 1) := by unfold f_X2_day; rw [if_neg c_1, if_pos c_4, if_pos c_5, if_neg c_6, if_pos c_28, if_neg c_33, if_neg c_38, if_neg c_43]
                  have e1 : (f_X2_day  x1 x2 x3 x4).2 = 1 := by rw [e0]
                  have hP : va_P (dC, dI) vwCl [(am, .inr (2, [.int ((f_X2_day  x1 x2 x3 x4).2), .int wo, .int fu, .ref gs, .ref go, .ref gt, .ref gp, .ref gw, .double la, .double ea, .ref gl, .int ln, .int fd]))] H := by rw [e1]; exact hP
                  have hD : va_D A [(am, .inr (2, [.int ((f_X2_day  x1 x2 x3 x4).2), .int wo, .int fu, .ref gs, .ref go, .ref gt, .ref gp, .ref gw, .double la, .double ea, .ref gl, .int ln, .int fd]))] := by rw [e1]; exact hD
                  exact W.lret hx hb hr (fun t ht hW => ⟨⟨_, (), rfl, (congrArg Prod.fst e0), ⟨by rw [ht]; exact hP, hD⟩⟩, hS.F ht⟩) hS.2.2 dX2_day_118
                · refine lv_iload hx hb dX2_day_107 (lv_at hl 0 rfl) ?_
                  refine lv_if_eq (tgt := 119) hx hb dX2_day_109 (by decide) (fun c_46 => absurd c_46 (by decide)) (fun _ => ?_)
                  refine lv_aload_n hx hb dX2_day_112 rfl (lv_at hl 3 rfl) ?_
                  refine lv_iconst (v := 1) hx hb dX2_day_113 (by decide) ?_
                  have hPc := hP.sub (ws' := [(am, .inr (2, [.int 0, .int wo, .int fu, .ref gs, .ref go, .ref gt, .ref gp, .ref gw, .double la, .double ea, .ref gl, .int ln, .int fd]))]) [0] rfl
                  have hDc := hD.sub (ws' := [(am, .inr (2, [.int 0, .int wo, .int fu, .ref gs, .ref go, .ref gt, .ref gp, .ref gw, .double la, .double ea, .ref gl, .int ln, .int fd]))]) [0] (by decide) rfl
                  have hFc := va_free (wc := [(am, .inr (2, [.int 0, .int wo, .int fu, .ref gs, .ref go, .ref gt, .ref gp, .ref gw, .double la, .double ea, .ref gl, .int ln, .int fd]))]) hD hS hA [0] rfl
                  refine va_calli (va_runV (As := [.int 1]) (rest := []) ⟨hx, hb, hml, hown, hts⟩ (k_X2_fail l hst dC dI cA tm tt _ am gs go gt gp gw gl 0 wo fu la ea ln fd 1) (cwV 1 hts gX2_day_X2_fail rfl rfl rfl (by decide +kernel) ⟨Nat.le_of_ble_eq_true rfl, Nat.le_of_ble_eq_true rfl⟩) ⟨PcW.blind, va_recv hK hPc (ci := 2) (q0 := 0) rfl rfl, PcW.give hPc hK hDc hE hS hFc⟩ rfl rfl hl.1 rfl (lv_room (Nat.le_of_ble_eq_true rfl)) dX2_day_114 ⟨Nat.le_of_ble_eq_true rfl, Nat.le_of_ble_eq_true rfl⟩) hS (fun q _ h => hFc q h) hFc (fun v_47 u t H locs ht hvm hp_48 hB hz1 hk1 hS => ?_)
                  obtain ⟨hP1, hD1⟩ := hB
                  rw [ht] at hP1
                  obtain ⟨hP, hD⟩ := va_join (wr := []) (w1 := [(am, .inr (2, [.int 1, .int wo, .int fu, .ref gs, .ref go, .ref gt, .ref gp, .ref gw, .double la, .double ea, .ref gl, .int ln, .int fd]))]) hP hD [0] [] rfl rfl (by decide) (by decide) hk1 hFc hP1 hD1
                  have hP := hP.sub (ws' := [(am, .inr (2, [.int 1, .int wo, .int fu, .ref gs, .ref go, .ref gt, .ref gp, .ref gw, .double la, .double ea, .ref gl, .int ln, .int fd]))]) [0] rfl
                  have hD := hD.sub (ws' := [(am, .inr (2, [.int 1, .int wo, .int fu, .ref gs, .ref go, .ref gt, .ref gp, .ref gw, .double la, .double ea, .ref gl, .int ln, .int fd]))]) [0] (by decide) rfl
                  obtain rfl := hp_48
                  refine lv_i2l hx hb dX2_day_117 rfl ?_
                  have e0 : f_X2_day  x1 x2 x3 x4 = (Int32.toInt64 0, 1) := by unfold f_X2_day; rw [if_neg c_1, if_pos c_4, if_pos c_5, if_neg c_6, if_pos c_28, if_neg c_33, if_neg c_38, if_pos c_43]
                  have e1 : (f_X2_day  x1 x2 x3 x4).2 = 1 := by rw [e0]
                  have hP : va_P (dC, dI) vwCl [(am, .inr (2, [.int ((f_X2_day  x1 x2 x3 x4).2), .int wo, .int fu, .ref gs, .ref go, .ref gt, .ref gp, .ref gw, .double la, .double ea, .ref gl, .int ln, .int fd]))] H := by rw [e1]; exact hP
                  have hD : va_D A [(am, .inr (2, [.int ((f_X2_day  x1 x2 x3 x4).2), .int wo, .int fu, .ref gs, .ref go, .ref gt, .ref gp, .ref gw, .double la, .double ea, .ref gl, .int ln, .int fd]))] := by rw [e1]; exact hD
                  exact W.lret hx hb hr (fun t ht hW => ⟨⟨_, (), rfl, (congrArg Prod.fst e0), ⟨by rw [ht]; exact hP, hD⟩⟩, hS.F ht⟩) hS.2.2 dX2_day_118
      · refine lv_iload_n hx hb dX2_day_45 rfl (lv_at hl 2 rfl) ?_
        refine lv_goto (tgt := 63) hx hb dX2_day_46 (by decide) ?_
        refine lv_istore (lv' := [(7, .int x1), (5, .long ((((Int32.toInt64 x2) * 10000) + ((Int32.toInt64 x3) * 100)) + (Int32.toInt64 x4))), (0, .ref am), (1, .int x1), (2, .int x2), (3, .int x3), (4, .int x4)]) hx hb dX2_day_63 hl (by decide) rfl (fun ls hl => ?_)
        refine lv_iload_n hx hb dX2_day_65 rfl (lv_at hl 3 rfl) ?_
        refine lv_iconst (v := 2) hx hb dX2_day_66 (by decide) ?_
        refine lv_icmp_ne (tgt := 92) hx hb dX2_day_67 (by decide) (fun c_49 => ?_) (fun c_49 => ?_)
        · refine lv_iconst (v := 0) hx hb dX2_day_92 (by decide) ?_
          refine lv_istore (lv' := [(8, .int 0), (7, .int x1), (5, .long ((((Int32.toInt64 x2) * 10000) + ((Int32.toInt64 x3) * 100)) + (Int32.toInt64 x4))), (0, .ref am), (1, .int x1), (2, .int x2), (3, .int x3), (4, .int x4)]) hx hb dX2_day_93 hl (by decide) rfl (fun ls hl => ?_)
          refine lv_iload hx hb dX2_day_95 (lv_at hl 1 rfl) ?_
          refine lv_iload_n hx hb dX2_day_97 rfl (lv_at hl 5 rfl) ?_
          refine lv_iload_n hx hb dX2_day_98 rfl (lv_at hl 6 rfl) ?_
          refine lv_iload hx hb dX2_day_99 (lv_at hl 7 rfl) ?_
          refine vp_callSi (W.runS (As := [.int x1, .int x2, .int x3, .int x4]) (rest := []) ⟨hx, hb, hml, hown, hts⟩ (k_X2_noDate l x1 x2 x3 x4) (va_cwS 4 hts gX2_day_X2_noDate rfl rfl rfl (by decide +kernel) ⟨Nat.le_of_ble_eq_true rfl, Nat.le_of_ble_eq_true rfl⟩) preEq rfl rfl hl.1 rfl (lv_room (Nat.le_of_ble_eq_true rfl)) dX2_day_101 ⟨Nat.le_of_ble_eq_true rfl, Nat.le_of_ble_eq_true rfl⟩) (fun r hr9 => ?_)
          obtain rfl := hr9
          refine lv_if_ne (tgt := 112) hx hb dX2_day_104 (by decide) (fun c_50 => ?_) (fun c_50 => ?_)
          · refine lv_aload_n hx hb dX2_day_112 rfl (lv_at hl 3 rfl) ?_
            refine lv_iconst (v := 1) hx hb dX2_day_113 (by decide) ?_
            have hPc := hP.sub (ws' := [(am, .inr (2, [.int 0, .int wo, .int fu, .ref gs, .ref go, .ref gt, .ref gp, .ref gw, .double la, .double ea, .ref gl, .int ln, .int fd]))]) [0] rfl
            have hDc := hD.sub (ws' := [(am, .inr (2, [.int 0, .int wo, .int fu, .ref gs, .ref go, .ref gt, .ref gp, .ref gw, .double la, .double ea, .ref gl, .int ln, .int fd]))]) [0] (by decide) rfl
            have hFc := va_free (wc := [(am, .inr (2, [.int 0, .int wo, .int fu, .ref gs, .ref go, .ref gt, .ref gp, .ref gw, .double la, .double ea, .ref gl, .int ln, .int fd]))]) hD hS hA [0] rfl
            refine va_calli (va_runV (As := [.int 1]) (rest := []) ⟨hx, hb, hml, hown, hts⟩ (k_X2_fail l hst dC dI cA tm tt _ am gs go gt gp gw gl 0 wo fu la ea ln fd 1) (cwV 1 hts gX2_day_X2_fail rfl rfl rfl (by decide +kernel) ⟨Nat.le_of_ble_eq_true rfl, Nat.le_of_ble_eq_true rfl⟩) ⟨PcW.blind, va_recv hK hPc (ci := 2) (q0 := 0) rfl rfl, PcW.give hPc hK hDc hE hS hFc⟩ rfl rfl hl.1 rfl (lv_room (Nat.le_of_ble_eq_true rfl)) dX2_day_114 ⟨Nat.le_of_ble_eq_true rfl, Nat.le_of_ble_eq_true rfl⟩) hS (fun q _ h => hFc q h) hFc (fun v_51 u t H locs ht hvm hp_52 hB hz1 hk1 hS => ?_)
            obtain ⟨hP1, hD1⟩ := hB
            rw [ht] at hP1
            obtain ⟨hP, hD⟩ := va_join (wr := []) (w1 := [(am, .inr (2, [.int 1, .int wo, .int fu, .ref gs, .ref go, .ref gt, .ref gp, .ref gw, .double la, .double ea, .ref gl, .int ln, .int fd]))]) hP hD [0] [] rfl rfl (by decide) (by decide) hk1 hFc hP1 hD1
            have hP := hP.sub (ws' := [(am, .inr (2, [.int 1, .int wo, .int fu, .ref gs, .ref go, .ref gt, .ref gp, .ref gw, .double la, .double ea, .ref gl, .int ln, .int fd]))]) [0] rfl
            have hD := hD.sub (ws' := [(am, .inr (2, [.int 1, .int wo, .int fu, .ref gs, .ref go, .ref gt, .ref gp, .ref gw, .double la, .double ea, .ref gl, .int ln, .int fd]))]) [0] (by decide) rfl
            obtain rfl := hp_52
            refine lv_i2l hx hb dX2_day_117 rfl ?_
            have e0 : f_X2_day  x1 x2 x3 x4 = (Int32.toInt64 0, 1) := by unfold f_X2_day; rw [if_neg c_1, if_pos c_4, if_neg c_5, if_neg c_49, if_neg c_50]
            have e1 : (f_X2_day  x1 x2 x3 x4).2 = 1 := by rw [e0]
            have hP : va_P (dC, dI) vwCl [(am, .inr (2, [.int ((f_X2_day  x1 x2 x3 x4).2), .int wo, .int fu, .ref gs, .ref go, .ref gt, .ref gp, .ref gw, .double la, .double ea, .ref gl, .int ln, .int fd]))] H := by rw [e1]; exact hP
            have hD : va_D A [(am, .inr (2, [.int ((f_X2_day  x1 x2 x3 x4).2), .int wo, .int fu, .ref gs, .ref go, .ref gt, .ref gp, .ref gw, .double la, .double ea, .ref gl, .int ln, .int fd]))] := by rw [e1]; exact hD
            exact W.lret hx hb hr (fun t ht hW => ⟨⟨_, (), rfl, (congrArg Prod.fst e0), ⟨by rw [ht]; exact hP, hD⟩⟩, hS.F ht⟩) hS.2.2 dX2_day_118
          · refine lv_iload hx hb dX2_day_107 (lv_at hl 0 rfl) ?_
            refine lv_if_eq (tgt := 119) hx hb dX2_day_109 (by decide) (fun _ => ?_) (fun c_53 => absurd c_53 (by decide))
            refine lv_iload hx hb dX2_day_119 (lv_at hl 1 rfl) ?_
            refine lv_iload_n hx hb dX2_day_121 rfl (lv_at hl 5 rfl) ?_
            refine lv_iload_n hx hb dX2_day_122 rfl (lv_at hl 6 rfl) ?_
            refine lv_iload hx hb dX2_day_123 (lv_at hl 7 rfl) ?_
            refine vp_callSl (W.runS (As := [.int x1, .int x2, .int x3, .int x4]) (rest := []) ⟨hx, hb, hml, hown, hts⟩ (k_X2_number l x1 x2 x3 x4 (nd_12 c_50)) (va_cwS 4 hts gX2_day_X2_number rfl rfl rfl (by decide +kernel) ⟨Nat.le_of_ble_eq_true rfl, Nat.le_of_ble_eq_true rfl⟩) preEq rfl rfl hl.1 rfl (lv_room (Nat.le_of_ble_eq_true rfl)) dX2_day_125 ⟨Nat.le_of_ble_eq_true rfl, Nat.le_of_ble_eq_true rfl⟩) (fun r hr9 => ?_)
            obtain rfl := hr9
            have e0 : f_X2_day  x1 x2 x3 x4 = (f_X2_number x1 x2 x3 x4, 0) := by unfold f_X2_day; rw [if_neg c_1, if_pos c_4, if_neg c_5, if_neg c_49, if_pos c_50]
            have e1 : (f_X2_day  x1 x2 x3 x4).2 = 0 := by rw [e0]
            have hP : va_P (dC, dI) vwCl [(am, .inr (2, [.int ((f_X2_day  x1 x2 x3 x4).2), .int wo, .int fu, .ref gs, .ref go, .ref gt, .ref gp, .ref gw, .double la, .double ea, .ref gl, .int ln, .int fd]))] H := by rw [e1]; exact hP
            have hD : va_D A [(am, .inr (2, [.int ((f_X2_day  x1 x2 x3 x4).2), .int wo, .int fu, .ref gs, .ref go, .ref gt, .ref gp, .ref gw, .double la, .double ea, .ref gl, .int ln, .int fd]))] := by rw [e1]; exact hD
            exact W.lret hx hb hr (fun t ht hW => ⟨⟨_, (), rfl, (congrArg Prod.fst e0), ⟨by rw [ht]; exact hP, hD⟩⟩, hS.F ht⟩) hS.2.2 dX2_day_128
        · refine lv_lload hx hb dX2_day_70 (lv_at hl 1 rfl) ?_
          refine lv_ldc2 hx hb hown (hts (.constantLong RX2 83 (15821004)) (by decide +kernel)) dX2_day_72 ?_
          refine zl_le (tgt := 92) hx hb dX2_day_75 dX2_day_76 (by decide) (fun c_54 => ?_) (fun c_54 => ?_)
          · refine lv_iconst (v := 0) hx hb dX2_day_92 (by decide) ?_
            refine lv_istore (lv' := [(8, .int 0), (7, .int x1), (5, .long ((((Int32.toInt64 x2) * 10000) + ((Int32.toInt64 x3) * 100)) + (Int32.toInt64 x4))), (0, .ref am), (1, .int x1), (2, .int x2), (3, .int x3), (4, .int x4)]) hx hb dX2_day_93 hl (by decide) rfl (fun ls hl => ?_)
            refine lv_iload hx hb dX2_day_95 (lv_at hl 1 rfl) ?_
            refine lv_iload_n hx hb dX2_day_97 rfl (lv_at hl 5 rfl) ?_
            refine lv_iload_n hx hb dX2_day_98 rfl (lv_at hl 6 rfl) ?_
            refine lv_iload hx hb dX2_day_99 (lv_at hl 7 rfl) ?_
            refine vp_callSi (W.runS (As := [.int x1, .int x2, .int x3, .int x4]) (rest := []) ⟨hx, hb, hml, hown, hts⟩ (k_X2_noDate l x1 x2 x3 x4) (va_cwS 4 hts gX2_day_X2_noDate rfl rfl rfl (by decide +kernel) ⟨Nat.le_of_ble_eq_true rfl, Nat.le_of_ble_eq_true rfl⟩) preEq rfl rfl hl.1 rfl (lv_room (Nat.le_of_ble_eq_true rfl)) dX2_day_101 ⟨Nat.le_of_ble_eq_true rfl, Nat.le_of_ble_eq_true rfl⟩) (fun r hr9 => ?_)
            obtain rfl := hr9
            refine lv_if_ne (tgt := 112) hx hb dX2_day_104 (by decide) (fun c_55 => ?_) (fun c_55 => ?_)
            · refine lv_aload_n hx hb dX2_day_112 rfl (lv_at hl 3 rfl) ?_
              refine lv_iconst (v := 1) hx hb dX2_day_113 (by decide) ?_
              have hPc := hP.sub (ws' := [(am, .inr (2, [.int 0, .int wo, .int fu, .ref gs, .ref go, .ref gt, .ref gp, .ref gw, .double la, .double ea, .ref gl, .int ln, .int fd]))]) [0] rfl
              have hDc := hD.sub (ws' := [(am, .inr (2, [.int 0, .int wo, .int fu, .ref gs, .ref go, .ref gt, .ref gp, .ref gw, .double la, .double ea, .ref gl, .int ln, .int fd]))]) [0] (by decide) rfl
              have hFc := va_free (wc := [(am, .inr (2, [.int 0, .int wo, .int fu, .ref gs, .ref go, .ref gt, .ref gp, .ref gw, .double la, .double ea, .ref gl, .int ln, .int fd]))]) hD hS hA [0] rfl
              refine va_calli (va_runV (As := [.int 1]) (rest := []) ⟨hx, hb, hml, hown, hts⟩ (k_X2_fail l hst dC dI cA tm tt _ am gs go gt gp gw gl 0 wo fu la ea ln fd 1) (cwV 1 hts gX2_day_X2_fail rfl rfl rfl (by decide +kernel) ⟨Nat.le_of_ble_eq_true rfl, Nat.le_of_ble_eq_true rfl⟩) ⟨PcW.blind, va_recv hK hPc (ci := 2) (q0 := 0) rfl rfl, PcW.give hPc hK hDc hE hS hFc⟩ rfl rfl hl.1 rfl (lv_room (Nat.le_of_ble_eq_true rfl)) dX2_day_114 ⟨Nat.le_of_ble_eq_true rfl, Nat.le_of_ble_eq_true rfl⟩) hS (fun q _ h => hFc q h) hFc (fun v_56 u t H locs ht hvm hp_57 hB hz1 hk1 hS => ?_)
              obtain ⟨hP1, hD1⟩ := hB
              rw [ht] at hP1
              obtain ⟨hP, hD⟩ := va_join (wr := []) (w1 := [(am, .inr (2, [.int 1, .int wo, .int fu, .ref gs, .ref go, .ref gt, .ref gp, .ref gw, .double la, .double ea, .ref gl, .int ln, .int fd]))]) hP hD [0] [] rfl rfl (by decide) (by decide) hk1 hFc hP1 hD1
              have hP := hP.sub (ws' := [(am, .inr (2, [.int 1, .int wo, .int fu, .ref gs, .ref go, .ref gt, .ref gp, .ref gw, .double la, .double ea, .ref gl, .int ln, .int fd]))]) [0] rfl
              have hD := hD.sub (ws' := [(am, .inr (2, [.int 1, .int wo, .int fu, .ref gs, .ref go, .ref gt, .ref gp, .ref gw, .double la, .double ea, .ref gl, .int ln, .int fd]))]) [0] (by decide) rfl
              obtain rfl := hp_57
              refine lv_i2l hx hb dX2_day_117 rfl ?_
              have e0 : f_X2_day  x1 x2 x3 x4 = (Int32.toInt64 0, 1) := by unfold f_X2_day; rw [if_neg c_1, if_pos c_4, if_neg c_5, if_pos c_49, if_pos c_54, if_neg c_55]
              have e1 : (f_X2_day  x1 x2 x3 x4).2 = 1 := by rw [e0]
              have hP : va_P (dC, dI) vwCl [(am, .inr (2, [.int ((f_X2_day  x1 x2 x3 x4).2), .int wo, .int fu, .ref gs, .ref go, .ref gt, .ref gp, .ref gw, .double la, .double ea, .ref gl, .int ln, .int fd]))] H := by rw [e1]; exact hP
              have hD : va_D A [(am, .inr (2, [.int ((f_X2_day  x1 x2 x3 x4).2), .int wo, .int fu, .ref gs, .ref go, .ref gt, .ref gp, .ref gw, .double la, .double ea, .ref gl, .int ln, .int fd]))] := by rw [e1]; exact hD
              exact W.lret hx hb hr (fun t ht hW => ⟨⟨_, (), rfl, (congrArg Prod.fst e0), ⟨by rw [ht]; exact hP, hD⟩⟩, hS.F ht⟩) hS.2.2 dX2_day_118
            · refine lv_iload hx hb dX2_day_107 (lv_at hl 0 rfl) ?_
              refine lv_if_eq (tgt := 119) hx hb dX2_day_109 (by decide) (fun _ => ?_) (fun c_58 => absurd c_58 (by decide))
              refine lv_iload hx hb dX2_day_119 (lv_at hl 1 rfl) ?_
              refine lv_iload_n hx hb dX2_day_121 rfl (lv_at hl 5 rfl) ?_
              refine lv_iload_n hx hb dX2_day_122 rfl (lv_at hl 6 rfl) ?_
              refine lv_iload hx hb dX2_day_123 (lv_at hl 7 rfl) ?_
              refine vp_callSl (W.runS (As := [.int x1, .int x2, .int x3, .int x4]) (rest := []) ⟨hx, hb, hml, hown, hts⟩ (k_X2_number l x1 x2 x3 x4 (nd_12 c_55)) (va_cwS 4 hts gX2_day_X2_number rfl rfl rfl (by decide +kernel) ⟨Nat.le_of_ble_eq_true rfl, Nat.le_of_ble_eq_true rfl⟩) preEq rfl rfl hl.1 rfl (lv_room (Nat.le_of_ble_eq_true rfl)) dX2_day_125 ⟨Nat.le_of_ble_eq_true rfl, Nat.le_of_ble_eq_true rfl⟩) (fun r hr9 => ?_)
              obtain rfl := hr9
              have e0 : f_X2_day  x1 x2 x3 x4 = (f_X2_number x1 x2 x3 x4, 0) := by unfold f_X2_day; rw [if_neg c_1, if_pos c_4, if_neg c_5, if_pos c_49, if_pos c_54, if_pos c_55]
              have e1 : (f_X2_day  x1 x2 x3 x4).2 = 0 := by rw [e0]
              have hP : va_P (dC, dI) vwCl [(am, .inr (2, [.int ((f_X2_day  x1 x2 x3 x4).2), .int wo, .int fu, .ref gs, .ref go, .ref gt, .ref gp, .ref gw, .double la, .double ea, .ref gl, .int ln, .int fd]))] H := by rw [e1]; exact hP
              have hD : va_D A [(am, .inr (2, [.int ((f_X2_day  x1 x2 x3 x4).2), .int wo, .int fu, .ref gs, .ref go, .ref gt, .ref gp, .ref gw, .double la, .double ea, .ref gl, .int ln, .int fd]))] := by rw [e1]; exact hD
              exact W.lret hx hb hr (fun t ht hW => ⟨⟨_, (), rfl, (congrArg Prod.fst e0), ⟨by rw [ht]; exact hP, hD⟩⟩, hS.F ht⟩) hS.2.2 dX2_day_128
          · refine lv_lload hx hb dX2_day_79 (lv_at hl 1 rfl) ?_
            refine lv_ldc2 hx hb hown (hts (.constantLong RX2 85 (15821015)) (by decide +kernel)) dX2_day_81 ?_
            refine zl_ge (tgt := 92) hx hb dX2_day_84 dX2_day_85 (by decide) (fun c_59 => ?_) (fun c_59 => ?_)
            · refine lv_iconst (v := 0) hx hb dX2_day_92 (by decide) ?_
              refine lv_istore (lv' := [(8, .int 0), (7, .int x1), (5, .long ((((Int32.toInt64 x2) * 10000) + ((Int32.toInt64 x3) * 100)) + (Int32.toInt64 x4))), (0, .ref am), (1, .int x1), (2, .int x2), (3, .int x3), (4, .int x4)]) hx hb dX2_day_93 hl (by decide) rfl (fun ls hl => ?_)
              refine lv_iload hx hb dX2_day_95 (lv_at hl 1 rfl) ?_
              refine lv_iload_n hx hb dX2_day_97 rfl (lv_at hl 5 rfl) ?_
              refine lv_iload_n hx hb dX2_day_98 rfl (lv_at hl 6 rfl) ?_
              refine lv_iload hx hb dX2_day_99 (lv_at hl 7 rfl) ?_
              refine vp_callSi (W.runS (As := [.int x1, .int x2, .int x3, .int x4]) (rest := []) ⟨hx, hb, hml, hown, hts⟩ (k_X2_noDate l x1 x2 x3 x4) (va_cwS 4 hts gX2_day_X2_noDate rfl rfl rfl (by decide +kernel) ⟨Nat.le_of_ble_eq_true rfl, Nat.le_of_ble_eq_true rfl⟩) preEq rfl rfl hl.1 rfl (lv_room (Nat.le_of_ble_eq_true rfl)) dX2_day_101 ⟨Nat.le_of_ble_eq_true rfl, Nat.le_of_ble_eq_true rfl⟩) (fun r hr9 => ?_)
              obtain rfl := hr9
              refine lv_if_ne (tgt := 112) hx hb dX2_day_104 (by decide) (fun c_60 => ?_) (fun c_60 => ?_)
              · refine lv_aload_n hx hb dX2_day_112 rfl (lv_at hl 3 rfl) ?_
                refine lv_iconst (v := 1) hx hb dX2_day_113 (by decide) ?_
                have hPc := hP.sub (ws' := [(am, .inr (2, [.int 0, .int wo, .int fu, .ref gs, .ref go, .ref gt, .ref gp, .ref gw, .double la, .double ea, .ref gl, .int ln, .int fd]))]) [0] rfl
                have hDc := hD.sub (ws' := [(am, .inr (2, [.int 0, .int wo, .int fu, .ref gs, .ref go, .ref gt, .ref gp, .ref gw, .double la, .double ea, .ref gl, .int ln, .int fd]))]) [0] (by decide) rfl
                have hFc := va_free (wc := [(am, .inr (2, [.int 0, .int wo, .int fu, .ref gs, .ref go, .ref gt, .ref gp, .ref gw, .double la, .double ea, .ref gl, .int ln, .int fd]))]) hD hS hA [0] rfl
                refine va_calli (va_runV (As := [.int 1]) (rest := []) ⟨hx, hb, hml, hown, hts⟩ (k_X2_fail l hst dC dI cA tm tt _ am gs go gt gp gw gl 0 wo fu la ea ln fd 1) (cwV 1 hts gX2_day_X2_fail rfl rfl rfl (by decide +kernel) ⟨Nat.le_of_ble_eq_true rfl, Nat.le_of_ble_eq_true rfl⟩) ⟨PcW.blind, va_recv hK hPc (ci := 2) (q0 := 0) rfl rfl, PcW.give hPc hK hDc hE hS hFc⟩ rfl rfl hl.1 rfl (lv_room (Nat.le_of_ble_eq_true rfl)) dX2_day_114 ⟨Nat.le_of_ble_eq_true rfl, Nat.le_of_ble_eq_true rfl⟩) hS (fun q _ h => hFc q h) hFc (fun v_61 u t H locs ht hvm hp_62 hB hz1 hk1 hS => ?_)
                obtain ⟨hP1, hD1⟩ := hB
                rw [ht] at hP1
                obtain ⟨hP, hD⟩ := va_join (wr := []) (w1 := [(am, .inr (2, [.int 1, .int wo, .int fu, .ref gs, .ref go, .ref gt, .ref gp, .ref gw, .double la, .double ea, .ref gl, .int ln, .int fd]))]) hP hD [0] [] rfl rfl (by decide) (by decide) hk1 hFc hP1 hD1
                have hP := hP.sub (ws' := [(am, .inr (2, [.int 1, .int wo, .int fu, .ref gs, .ref go, .ref gt, .ref gp, .ref gw, .double la, .double ea, .ref gl, .int ln, .int fd]))]) [0] rfl
                have hD := hD.sub (ws' := [(am, .inr (2, [.int 1, .int wo, .int fu, .ref gs, .ref go, .ref gt, .ref gp, .ref gw, .double la, .double ea, .ref gl, .int ln, .int fd]))]) [0] (by decide) rfl
                obtain rfl := hp_62
                refine lv_i2l hx hb dX2_day_117 rfl ?_
                have e0 : f_X2_day  x1 x2 x3 x4 = (Int32.toInt64 0, 1) := by unfold f_X2_day; rw [if_neg c_1, if_pos c_4, if_neg c_5, if_pos c_49, if_neg c_54, if_pos c_59, if_neg c_60]
                have e1 : (f_X2_day  x1 x2 x3 x4).2 = 1 := by rw [e0]
                have hP : va_P (dC, dI) vwCl [(am, .inr (2, [.int ((f_X2_day  x1 x2 x3 x4).2), .int wo, .int fu, .ref gs, .ref go, .ref gt, .ref gp, .ref gw, .double la, .double ea, .ref gl, .int ln, .int fd]))] H := by rw [e1]; exact hP
                have hD : va_D A [(am, .inr (2, [.int ((f_X2_day  x1 x2 x3 x4).2), .int wo, .int fu, .ref gs, .ref go, .ref gt, .ref gp, .ref gw, .double la, .double ea, .ref gl, .int ln, .int fd]))] := by rw [e1]; exact hD
                exact W.lret hx hb hr (fun t ht hW => ⟨⟨_, (), rfl, (congrArg Prod.fst e0), ⟨by rw [ht]; exact hP, hD⟩⟩, hS.F ht⟩) hS.2.2 dX2_day_118
              · refine lv_iload hx hb dX2_day_107 (lv_at hl 0 rfl) ?_
                refine lv_if_eq (tgt := 119) hx hb dX2_day_109 (by decide) (fun _ => ?_) (fun c_63 => absurd c_63 (by decide))
                refine lv_iload hx hb dX2_day_119 (lv_at hl 1 rfl) ?_
                refine lv_iload_n hx hb dX2_day_121 rfl (lv_at hl 5 rfl) ?_
                refine lv_iload_n hx hb dX2_day_122 rfl (lv_at hl 6 rfl) ?_
                refine lv_iload hx hb dX2_day_123 (lv_at hl 7 rfl) ?_
                refine vp_callSl (W.runS (As := [.int x1, .int x2, .int x3, .int x4]) (rest := []) ⟨hx, hb, hml, hown, hts⟩ (k_X2_number l x1 x2 x3 x4 (nd_12 c_60)) (va_cwS 4 hts gX2_day_X2_number rfl rfl rfl (by decide +kernel) ⟨Nat.le_of_ble_eq_true rfl, Nat.le_of_ble_eq_true rfl⟩) preEq rfl rfl hl.1 rfl (lv_room (Nat.le_of_ble_eq_true rfl)) dX2_day_125 ⟨Nat.le_of_ble_eq_true rfl, Nat.le_of_ble_eq_true rfl⟩) (fun r hr9 => ?_)
                obtain rfl := hr9
                have e0 : f_X2_day  x1 x2 x3 x4 = (f_X2_number x1 x2 x3 x4, 0) := by unfold f_X2_day; rw [if_neg c_1, if_pos c_4, if_neg c_5, if_pos c_49, if_neg c_54, if_pos c_59, if_pos c_60]
                have e1 : (f_X2_day  x1 x2 x3 x4).2 = 0 := by rw [e0]
                have hP : va_P (dC, dI) vwCl [(am, .inr (2, [.int ((f_X2_day  x1 x2 x3 x4).2), .int wo, .int fu, .ref gs, .ref go, .ref gt, .ref gp, .ref gw, .double la, .double ea, .ref gl, .int ln, .int fd]))] H := by rw [e1]; exact hP
                have hD : va_D A [(am, .inr (2, [.int ((f_X2_day  x1 x2 x3 x4).2), .int wo, .int fu, .ref gs, .ref go, .ref gt, .ref gp, .ref gw, .double la, .double ea, .ref gl, .int ln, .int fd]))] := by rw [e1]; exact hD
                exact W.lret hx hb hr (fun t ht hW => ⟨⟨_, (), rfl, (congrArg Prod.fst e0), ⟨by rw [ht]; exact hP, hD⟩⟩, hS.F ht⟩) hS.2.2 dX2_day_128
            · refine lv_iconst (v := 1) hx hb dX2_day_88 (by decide) ?_
              refine lv_goto (tgt := 93) hx hb dX2_day_89 (by decide) ?_
              refine lv_istore (lv' := [(8, .int 1), (7, .int x1), (5, .long ((((Int32.toInt64 x2) * 10000) + ((Int32.toInt64 x3) * 100)) + (Int32.toInt64 x4))), (0, .ref am), (1, .int x1), (2, .int x2), (3, .int x3), (4, .int x4)]) hx hb dX2_day_93 hl (by decide) rfl (fun ls hl => ?_)
              refine lv_iload hx hb dX2_day_95 (lv_at hl 1 rfl) ?_
              refine lv_iload_n hx hb dX2_day_97 rfl (lv_at hl 5 rfl) ?_
              refine lv_iload_n hx hb dX2_day_98 rfl (lv_at hl 6 rfl) ?_
              refine lv_iload hx hb dX2_day_99 (lv_at hl 7 rfl) ?_
              refine vp_callSi (W.runS (As := [.int x1, .int x2, .int x3, .int x4]) (rest := []) ⟨hx, hb, hml, hown, hts⟩ (k_X2_noDate l x1 x2 x3 x4) (va_cwS 4 hts gX2_day_X2_noDate rfl rfl rfl (by decide +kernel) ⟨Nat.le_of_ble_eq_true rfl, Nat.le_of_ble_eq_true rfl⟩) preEq rfl rfl hl.1 rfl (lv_room (Nat.le_of_ble_eq_true rfl)) dX2_day_101 ⟨Nat.le_of_ble_eq_true rfl, Nat.le_of_ble_eq_true rfl⟩) (fun r hr9 => ?_)
              obtain rfl := hr9
              refine lv_if_ne (tgt := 112) hx hb dX2_day_104 (by decide) (fun c_64 => ?_) (fun c_64 => ?_)
              · refine lv_aload_n hx hb dX2_day_112 rfl (lv_at hl 3 rfl) ?_
                refine lv_iconst (v := 1) hx hb dX2_day_113 (by decide) ?_
                have hPc := hP.sub (ws' := [(am, .inr (2, [.int 0, .int wo, .int fu, .ref gs, .ref go, .ref gt, .ref gp, .ref gw, .double la, .double ea, .ref gl, .int ln, .int fd]))]) [0] rfl
                have hDc := hD.sub (ws' := [(am, .inr (2, [.int 0, .int wo, .int fu, .ref gs, .ref go, .ref gt, .ref gp, .ref gw, .double la, .double ea, .ref gl, .int ln, .int fd]))]) [0] (by decide) rfl
                have hFc := va_free (wc := [(am, .inr (2, [.int 0, .int wo, .int fu, .ref gs, .ref go, .ref gt, .ref gp, .ref gw, .double la, .double ea, .ref gl, .int ln, .int fd]))]) hD hS hA [0] rfl
                refine va_calli (va_runV (As := [.int 1]) (rest := []) ⟨hx, hb, hml, hown, hts⟩ (k_X2_fail l hst dC dI cA tm tt _ am gs go gt gp gw gl 0 wo fu la ea ln fd 1) (cwV 1 hts gX2_day_X2_fail rfl rfl rfl (by decide +kernel) ⟨Nat.le_of_ble_eq_true rfl, Nat.le_of_ble_eq_true rfl⟩) ⟨PcW.blind, va_recv hK hPc (ci := 2) (q0 := 0) rfl rfl, PcW.give hPc hK hDc hE hS hFc⟩ rfl rfl hl.1 rfl (lv_room (Nat.le_of_ble_eq_true rfl)) dX2_day_114 ⟨Nat.le_of_ble_eq_true rfl, Nat.le_of_ble_eq_true rfl⟩) hS (fun q _ h => hFc q h) hFc (fun v_65 u t H locs ht hvm hp_66 hB hz1 hk1 hS => ?_)
                obtain ⟨hP1, hD1⟩ := hB
                rw [ht] at hP1
                obtain ⟨hP, hD⟩ := va_join (wr := []) (w1 := [(am, .inr (2, [.int 1, .int wo, .int fu, .ref gs, .ref go, .ref gt, .ref gp, .ref gw, .double la, .double ea, .ref gl, .int ln, .int fd]))]) hP hD [0] [] rfl rfl (by decide) (by decide) hk1 hFc hP1 hD1
                have hP := hP.sub (ws' := [(am, .inr (2, [.int 1, .int wo, .int fu, .ref gs, .ref go, .ref gt, .ref gp, .ref gw, .double la, .double ea, .ref gl, .int ln, .int fd]))]) [0] rfl
                have hD := hD.sub (ws' := [(am, .inr (2, [.int 1, .int wo, .int fu, .ref gs, .ref go, .ref gt, .ref gp, .ref gw, .double la, .double ea, .ref gl, .int ln, .int fd]))]) [0] (by decide) rfl
                obtain rfl := hp_66
                refine lv_i2l hx hb dX2_day_117 rfl ?_
                have e0 : f_X2_day  x1 x2 x3 x4 = (Int32.toInt64 0, 1) := by unfold f_X2_day; rw [if_neg c_1, if_pos c_4, if_neg c_5, if_pos c_49, if_neg c_54, if_neg c_59, if_neg c_64]
                have e1 : (f_X2_day  x1 x2 x3 x4).2 = 1 := by rw [e0]
                have hP : va_P (dC, dI) vwCl [(am, .inr (2, [.int ((f_X2_day  x1 x2 x3 x4).2), .int wo, .int fu, .ref gs, .ref go, .ref gt, .ref gp, .ref gw, .double la, .double ea, .ref gl, .int ln, .int fd]))] H := by rw [e1]; exact hP
                have hD : va_D A [(am, .inr (2, [.int ((f_X2_day  x1 x2 x3 x4).2), .int wo, .int fu, .ref gs, .ref go, .ref gt, .ref gp, .ref gw, .double la, .double ea, .ref gl, .int ln, .int fd]))] := by rw [e1]; exact hD
                exact W.lret hx hb hr (fun t ht hW => ⟨⟨_, (), rfl, (congrArg Prod.fst e0), ⟨by rw [ht]; exact hP, hD⟩⟩, hS.F ht⟩) hS.2.2 dX2_day_118
              · refine lv_iload hx hb dX2_day_107 (lv_at hl 0 rfl) ?_
                refine lv_if_eq (tgt := 119) hx hb dX2_day_109 (by decide) (fun c_67 => absurd c_67 (by decide)) (fun _ => ?_)
                refine lv_aload_n hx hb dX2_day_112 rfl (lv_at hl 3 rfl) ?_
                refine lv_iconst (v := 1) hx hb dX2_day_113 (by decide) ?_
                have hPc := hP.sub (ws' := [(am, .inr (2, [.int 0, .int wo, .int fu, .ref gs, .ref go, .ref gt, .ref gp, .ref gw, .double la, .double ea, .ref gl, .int ln, .int fd]))]) [0] rfl
                have hDc := hD.sub (ws' := [(am, .inr (2, [.int 0, .int wo, .int fu, .ref gs, .ref go, .ref gt, .ref gp, .ref gw, .double la, .double ea, .ref gl, .int ln, .int fd]))]) [0] (by decide) rfl
                have hFc := va_free (wc := [(am, .inr (2, [.int 0, .int wo, .int fu, .ref gs, .ref go, .ref gt, .ref gp, .ref gw, .double la, .double ea, .ref gl, .int ln, .int fd]))]) hD hS hA [0] rfl
                refine va_calli (va_runV (As := [.int 1]) (rest := []) ⟨hx, hb, hml, hown, hts⟩ (k_X2_fail l hst dC dI cA tm tt _ am gs go gt gp gw gl 0 wo fu la ea ln fd 1) (cwV 1 hts gX2_day_X2_fail rfl rfl rfl (by decide +kernel) ⟨Nat.le_of_ble_eq_true rfl, Nat.le_of_ble_eq_true rfl⟩) ⟨PcW.blind, va_recv hK hPc (ci := 2) (q0 := 0) rfl rfl, PcW.give hPc hK hDc hE hS hFc⟩ rfl rfl hl.1 rfl (lv_room (Nat.le_of_ble_eq_true rfl)) dX2_day_114 ⟨Nat.le_of_ble_eq_true rfl, Nat.le_of_ble_eq_true rfl⟩) hS (fun q _ h => hFc q h) hFc (fun v_68 u t H locs ht hvm hp_69 hB hz1 hk1 hS => ?_)
                obtain ⟨hP1, hD1⟩ := hB
                rw [ht] at hP1
                obtain ⟨hP, hD⟩ := va_join (wr := []) (w1 := [(am, .inr (2, [.int 1, .int wo, .int fu, .ref gs, .ref go, .ref gt, .ref gp, .ref gw, .double la, .double ea, .ref gl, .int ln, .int fd]))]) hP hD [0] [] rfl rfl (by decide) (by decide) hk1 hFc hP1 hD1
                have hP := hP.sub (ws' := [(am, .inr (2, [.int 1, .int wo, .int fu, .ref gs, .ref go, .ref gt, .ref gp, .ref gw, .double la, .double ea, .ref gl, .int ln, .int fd]))]) [0] rfl
                have hD := hD.sub (ws' := [(am, .inr (2, [.int 1, .int wo, .int fu, .ref gs, .ref go, .ref gt, .ref gp, .ref gw, .double la, .double ea, .ref gl, .int ln, .int fd]))]) [0] (by decide) rfl
                obtain rfl := hp_69
                refine lv_i2l hx hb dX2_day_117 rfl ?_
                have e0 : f_X2_day  x1 x2 x3 x4 = (Int32.toInt64 0, 1) := by unfold f_X2_day; rw [if_neg c_1, if_pos c_4, if_neg c_5, if_pos c_49, if_neg c_54, if_neg c_59, if_pos c_64]
                have e1 : (f_X2_day  x1 x2 x3 x4).2 = 1 := by rw [e0]
                have hP : va_P (dC, dI) vwCl [(am, .inr (2, [.int ((f_X2_day  x1 x2 x3 x4).2), .int wo, .int fu, .ref gs, .ref go, .ref gt, .ref gp, .ref gw, .double la, .double ea, .ref gl, .int ln, .int fd]))] H := by rw [e1]; exact hP
                have hD : va_D A [(am, .inr (2, [.int ((f_X2_day  x1 x2 x3 x4).2), .int wo, .int fu, .ref gs, .ref go, .ref gt, .ref gp, .ref gw, .double la, .double ea, .ref gl, .int ln, .int fd]))] := by rw [e1]; exact hD
                exact W.lret hx hb hr (fun t ht hW => ⟨⟨_, (), rfl, (congrArg Prod.fst e0), ⟨by rw [ht]; exact hP, hD⟩⟩, hS.F ht⟩) hS.2.2 dX2_day_118
    · refine lv_aload_n hx hb dX2_day_14 rfl (lv_at hl 0 rfl) ?_
      refine lv_iconst (v := 1) hx hb dX2_day_15 (by decide) ?_
      have hPc := hP.sub (ws' := [(am, .inr (2, [.int 0, .int wo, .int fu, .ref gs, .ref go, .ref gt, .ref gp, .ref gw, .double la, .double ea, .ref gl, .int ln, .int fd]))]) [0] rfl
      have hDc := hD.sub (ws' := [(am, .inr (2, [.int 0, .int wo, .int fu, .ref gs, .ref go, .ref gt, .ref gp, .ref gw, .double la, .double ea, .ref gl, .int ln, .int fd]))]) [0] (by decide) rfl
      have hFc := va_free (wc := [(am, .inr (2, [.int 0, .int wo, .int fu, .ref gs, .ref go, .ref gt, .ref gp, .ref gw, .double la, .double ea, .ref gl, .int ln, .int fd]))]) hD hS hA [0] rfl
      refine va_calli (va_runV (As := [.int 1]) (rest := []) ⟨hx, hb, hml, hown, hts⟩ (k_X2_fail l hst dC dI cA tm tt _ am gs go gt gp gw gl 0 wo fu la ea ln fd 1) (cwV 1 hts gX2_day_X2_fail rfl rfl rfl (by decide +kernel) ⟨Nat.le_of_ble_eq_true rfl, Nat.le_of_ble_eq_true rfl⟩) ⟨PcW.blind, va_recv hK hPc (ci := 2) (q0 := 0) rfl rfl, PcW.give hPc hK hDc hE hS hFc⟩ rfl rfl hl.1 rfl (lv_room (Nat.le_of_ble_eq_true rfl)) dX2_day_16 ⟨Nat.le_of_ble_eq_true rfl, Nat.le_of_ble_eq_true rfl⟩) hS (fun q _ h => hFc q h) hFc (fun v_70 u t H locs ht hvm hp_71 hB hz1 hk1 hS => ?_)
      obtain ⟨hP1, hD1⟩ := hB
      rw [ht] at hP1
      obtain ⟨hP, hD⟩ := va_join (wr := []) (w1 := [(am, .inr (2, [.int 1, .int wo, .int fu, .ref gs, .ref go, .ref gt, .ref gp, .ref gw, .double la, .double ea, .ref gl, .int ln, .int fd]))]) hP hD [0] [] rfl rfl (by decide) (by decide) hk1 hFc hP1 hD1
      have hP := hP.sub (ws' := [(am, .inr (2, [.int 1, .int wo, .int fu, .ref gs, .ref go, .ref gt, .ref gp, .ref gw, .double la, .double ea, .ref gl, .int ln, .int fd]))]) [0] rfl
      have hD := hD.sub (ws' := [(am, .inr (2, [.int 1, .int wo, .int fu, .ref gs, .ref go, .ref gt, .ref gp, .ref gw, .double la, .double ea, .ref gl, .int ln, .int fd]))]) [0] (by decide) rfl
      obtain rfl := hp_71
      refine lv_i2l hx hb dX2_day_19 rfl ?_
      have e0 : f_X2_day  x1 x2 x3 x4 = (Int32.toInt64 0, 1) := by unfold f_X2_day; rw [if_neg c_1, if_neg c_4]
      have e1 : (f_X2_day  x1 x2 x3 x4).2 = 1 := by rw [e0]
      have hP : va_P (dC, dI) vwCl [(am, .inr (2, [.int ((f_X2_day  x1 x2 x3 x4).2), .int wo, .int fu, .ref gs, .ref go, .ref gt, .ref gp, .ref gw, .double la, .double ea, .ref gl, .int ln, .int fd]))] H := by rw [e1]; exact hP
      have hD : va_D A [(am, .inr (2, [.int ((f_X2_day  x1 x2 x3 x4).2), .int wo, .int fu, .ref gs, .ref go, .ref gt, .ref gp, .ref gw, .double la, .double ea, .ref gl, .int ln, .int fd]))] := by rw [e1]; exact hD
      exact W.lret hx hb hr (fun t ht hW => ⟨⟨_, (), rfl, (congrArg Prod.fst e0), ⟨by rw [ht]; exact hP, hD⟩⟩, hS.F ht⟩) hS.2.2 dX2_day_20

def f_X2_sidereal  (x1 : UInt64) : UInt64 × Int32 := if (f_X2_within x1 13920209183539462144 4696837146684686336) = 0 then ((FP.i2d 0, 1)) else ((SID x1, 0))
set_option maxHeartbeats 4000000 in
set_option maxRecDepth 100000 in
theorem k_X2_sidereal (l : Launch) (hst : l.stackTraces = false) (dC : Nat → ClassId) (dI : Nat → Nat → Nat) (cA : Nat → ClassId) (tm tt sz : Nat) (am gs go gt gp gw gl : Nat) (th wo fu : Int32) (la ea : UInt64) (ln fd : Int32) (x1 : UInt64) (h0 : fR x1 (-288230376151711744) 288230376151711744) : Met l yX2_sidereal wsX2_sidereal ({ frames := 2, cells := 0, slots := 0, locals := 48 }) (PcW dC dI cA tm tt sz [.ref am, .double x1] [(am, .inr (2, [.int th, .int wo, .int fu, .ref gs, .ref go, .ref gt, .ref gp, .ref gw, .double la, .double ea, .ref gl, .int ln, .int fd]))]) (va_Qd (fun r (_ : Unit) => (f_X2_sidereal  x1).1 = r) (fun _ t => WB dC dI (va_A [(am, .inr (2, [.int th, .int wo, .int fu, .ref gs, .ref go, .ref gt, .ref gp, .ref gw, .double la, .double ea, .ref gl, .int ln, .int fd]))] sz) [(am, .inr (2, [.int ((f_X2_sidereal  x1).2), .int wo, .int fu, .ref gs, .ref go, .ref gt, .ref gp, .ref gw, .double la, .double ea, .ref gl, .int ln, .int fd]))] t) (va_A [(am, .inr (2, [.int th, .int wo, .int fu, .ref gs, .ref go, .ref gt, .ref gp, .ref gw, .double la, .double ea, .ref gl, .int ln, .int fd]))] sz)) 0 0 (va_A [(am, .inr (2, [.int th, .int wo, .int fu, .ref gs, .ref go, .ref gt, .ref gp, .ref gw, .double la, .double ea, .ref gl, .int ln, .int fd]))] sz) := by
  refine Met.ofW (cc := cX2_sidereal) (maxL := 3) (ret := (some .double)) (by decide) rfl ?_
  intro p e s m args below meth c s₁ B hml hv
  obtain ⟨rfl, hsz, hP, hK, hD0, hE⟩ := hv
  subst hsz
  have hD := hD0.self (sz := s.heap.size)
  generalize hAe : va_A [(am, .inr (2, [.int th, .int wo, .int fu, .ref gs, .ref go, .ref gt, .ref gp, .ref gw, .double la, .double ea, .ref gl, .int ln, .int fd]))] s.heap.size = A at hD hE ⊢
  have hA : ∀ q : Nat, s.heap.size ≤ q → A q := fun q h => by rw [← hAe]; exact Or.inr h
  have hS : va_S A s.heap s.heap [] := va_S.rf
  have hP : va_P (dC, dI) vwCl [(am, .inr (2, [.int th, .int wo, .int fu, .ref gs, .ref go, .ref gt, .ref gp, .ref gw, .double la, .double ea, .ref gl, .int ln, .int fd]))] s.heap := hP
  have hx := B.exec
  have hb := B.bytes
  have hr := B.returns
  have hts := atoms_spec (ws := wsX2_sidereal) B.pre
  have hown : s.vm.findClass RX2 = some m.cls := findClass_of_methodNamed B.named
  have hlocks := B.notSynchronized
  have hl := lv_entry ([.ref am, .double x1]) (n := 3) (Nat.le_of_ble_eq_true rfl)
  rw [lg_entry_eq]
  generalize (lg_sl ([.ref am, .double x1]) ++ List.replicate (3 - (lg_sl ([.ref am, .double x1])).length) Slot.unset).toArray = ls at hl ⊢
  have hl : lv_has ls 3 [(0, .ref am), (1, .double x1)] := hl
  have hin2 : ∀ w ∈ u_ws RX2 TX2 13, w ∈ wsX2_sidereal := by decide +kernel
  refine lv_aload_n hx hb dX2_sidereal_0 rfl (lv_at hl 0 rfl) ?_
  refine lv_iconst (v := 0) hx hb dX2_sidereal_1 (by decide) ?_
  refine va_put (D := (dC, dI)) (ci := 2) (v := .int 0) (ty := .int) (C := RX2) (T := TX2) (N := 13) hx hb hts hin2 tyX2 tyX2_ok nmX2 hown hK hP hD hS 0 rfl rfl 0 (by decide) (hts (.fieldLink RX2 30 "SkyAlmanacModel" "thrown" "I") (by decide +kernel)) (fun _ h9 => h9) rfl (by decide +kernel) rfl rfl (Nat.le_of_ble_eq_true rfl) dX2_sidereal_2 (fun H locs hP hD hS => ?_)
  have hP : va_P (dC, dI) vwCl [(am, .inr (2, [.int 0, .int wo, .int fu, .ref gs, .ref go, .ref gt, .ref gp, .ref gw, .double la, .double ea, .ref gl, .int ln, .int fd]))] H := hP
  have hD : va_D A [(am, .inr (2, [.int 0, .int wo, .int fu, .ref gs, .ref go, .ref gt, .ref gp, .ref gw, .double la, .double ea, .ref gl, .int ln, .int fd]))] := hD
  refine lv_dload_n hx hb dX2_sidereal_5 rfl (lv_at hl 1 rfl) ?_
  refine lv_ldc2d hx hb hown (hts (.constantDouble RX2 228 (13920209183539462144)) (by decide +kernel)) dX2_sidereal_6 ?_
  have r_1 : fR 13920209183539462144 (-1073741824000000) (-1073741824000000) := fR_lit (by decide +kernel)
  refine lv_ldc2d hx hb hown (hts (.constantDouble RX2 230 (4696837146684686336)) (by decide +kernel)) dX2_sidereal_9 ?_
  have r_2 : fR 4696837146684686336 1073741824000000 1073741824000000 := fR_lit (by decide +kernel)
  refine vp_callSi (W.runS (As := [.double x1, .double 13920209183539462144, .double 4696837146684686336]) (rest := []) ⟨hx, hb, hml, hown, hts⟩ (k_X2_within l x1 13920209183539462144 4696837146684686336) (va_cwS 3 hts gX2_sidereal_X2_within rfl rfl rfl (by decide +kernel) ⟨Nat.le_of_ble_eq_true rfl, Nat.le_of_ble_eq_true rfl⟩) preEq rfl rfl hl.1 rfl (lv_room (Nat.le_of_ble_eq_true rfl)) dX2_sidereal_12 ⟨Nat.le_of_ble_eq_true rfl, Nat.le_of_ble_eq_true rfl⟩) (fun r hr9 => ?_)
  obtain rfl := hr9
  refine lv_if_ne (tgt := 25) hx hb dX2_sidereal_15 (by decide) (fun c_3 => ?_) (fun c_3 => ?_)
  · refine lv_dload_n hx hb dX2_sidereal_25 rfl (lv_at hl 1 rfl) ?_
    refine vp_callSd (W.runS (As := [.double x1]) (rest := []) ⟨hx, hb, hml, hown, hts⟩ (k_X2_turned l x1 (fR_mono (win_R h0 c_3 (fR_lit (by decide +kernel) : fR 13920209183539462144 (-1073741824000000) (-1073741824000000)) (fR_lit (by decide +kernel) : fR 4696837146684686336 1073741824000000 1073741824000000)) (by decide) (by decide))) (va_cwS 1 hts gX2_sidereal_X2_turned rfl rfl rfl (by decide +kernel) ⟨Nat.le_of_ble_eq_true rfl, Nat.le_of_ble_eq_true rfl⟩) preEq rfl rfl hl.1 rfl (lv_room (Nat.le_of_ble_eq_true rfl)) dX2_sidereal_26 ⟨Nat.le_of_ble_eq_true rfl, Nat.le_of_ble_eq_true rfl⟩) (fun r hr9 => ?_)
    obtain rfl := hr9
    have e0 : f_X2_sidereal  x1 = (SID x1, 0) := by unfold f_X2_sidereal; rw [if_neg c_3]
    have e1 : (f_X2_sidereal  x1).2 = 0 := by rw [e0]
    have hP : va_P (dC, dI) vwCl [(am, .inr (2, [.int ((f_X2_sidereal  x1).2), .int wo, .int fu, .ref gs, .ref go, .ref gt, .ref gp, .ref gw, .double la, .double ea, .ref gl, .int ln, .int fd]))] H := by rw [e1]; exact hP
    have hD : va_D A [(am, .inr (2, [.int ((f_X2_sidereal  x1).2), .int wo, .int fu, .ref gs, .ref go, .ref gt, .ref gp, .ref gw, .double la, .double ea, .ref gl, .int ln, .int fd]))] := by rw [e1]; exact hD
    exact W.dret hx hb hr (fun t ht hW => ⟨⟨_, (), rfl, (congrArg Prod.fst e0), ⟨by rw [ht]; exact hP, hD⟩⟩, hS.F ht⟩) hS.2.2 dX2_sidereal_29
  · refine lv_aload_n hx hb dX2_sidereal_18 rfl (lv_at hl 0 rfl) ?_
    refine lv_iconst (v := 1) hx hb dX2_sidereal_19 (by decide) ?_
    have hPc := hP.sub (ws' := [(am, .inr (2, [.int 0, .int wo, .int fu, .ref gs, .ref go, .ref gt, .ref gp, .ref gw, .double la, .double ea, .ref gl, .int ln, .int fd]))]) [0] rfl
    have hDc := hD.sub (ws' := [(am, .inr (2, [.int 0, .int wo, .int fu, .ref gs, .ref go, .ref gt, .ref gp, .ref gw, .double la, .double ea, .ref gl, .int ln, .int fd]))]) [0] (by decide) rfl
    have hFc := va_free (wc := [(am, .inr (2, [.int 0, .int wo, .int fu, .ref gs, .ref go, .ref gt, .ref gp, .ref gw, .double la, .double ea, .ref gl, .int ln, .int fd]))]) hD hS hA [0] rfl
    refine va_calli (va_runV (As := [.int 1]) (rest := []) ⟨hx, hb, hml, hown, hts⟩ (k_X2_fail l hst dC dI cA tm tt _ am gs go gt gp gw gl 0 wo fu la ea ln fd 1) (cwV 1 hts gX2_sidereal_X2_fail rfl rfl rfl (by decide +kernel) ⟨Nat.le_of_ble_eq_true rfl, Nat.le_of_ble_eq_true rfl⟩) ⟨PcW.blind, va_recv hK hPc (ci := 2) (q0 := 0) rfl rfl, PcW.give hPc hK hDc hE hS hFc⟩ rfl rfl hl.1 rfl (lv_room (Nat.le_of_ble_eq_true rfl)) dX2_sidereal_20 ⟨Nat.le_of_ble_eq_true rfl, Nat.le_of_ble_eq_true rfl⟩) hS (fun q _ h => hFc q h) hFc (fun v_4 u t H locs ht hvm hp_5 hB hz1 hk1 hS => ?_)
    obtain ⟨hP1, hD1⟩ := hB
    rw [ht] at hP1
    obtain ⟨hP, hD⟩ := va_join (wr := []) (w1 := [(am, .inr (2, [.int 1, .int wo, .int fu, .ref gs, .ref go, .ref gt, .ref gp, .ref gw, .double la, .double ea, .ref gl, .int ln, .int fd]))]) hP hD [0] [] rfl rfl (by decide) (by decide) hk1 hFc hP1 hD1
    have hP := hP.sub (ws' := [(am, .inr (2, [.int 1, .int wo, .int fu, .ref gs, .ref go, .ref gt, .ref gp, .ref gw, .double la, .double ea, .ref gl, .int ln, .int fd]))]) [0] rfl
    have hD := hD.sub (ws' := [(am, .inr (2, [.int 1, .int wo, .int fu, .ref gs, .ref go, .ref gt, .ref gp, .ref gw, .double la, .double ea, .ref gl, .int ln, .int fd]))]) [0] (by decide) rfl
    obtain rfl := hp_5
    refine lv_i2d hx hb dX2_sidereal_23 ?_
    have e0 : f_X2_sidereal  x1 = (FP.i2d 0, 1) := by unfold f_X2_sidereal; rw [if_pos c_3]
    have e1 : (f_X2_sidereal  x1).2 = 1 := by rw [e0]
    have hP : va_P (dC, dI) vwCl [(am, .inr (2, [.int ((f_X2_sidereal  x1).2), .int wo, .int fu, .ref gs, .ref go, .ref gt, .ref gp, .ref gw, .double la, .double ea, .ref gl, .int ln, .int fd]))] H := by rw [e1]; exact hP
    have hD : va_D A [(am, .inr (2, [.int ((f_X2_sidereal  x1).2), .int wo, .int fu, .ref gs, .ref go, .ref gt, .ref gp, .ref gw, .double la, .double ea, .ref gl, .int ln, .int fd]))] := by rw [e1]; exact hD
    exact W.dret hx hb hr (fun t ht hW => ⟨⟨_, (), rfl, (congrArg Prod.fst e0), ⟨by rw [ht]; exact hP, hD⟩⟩, hS.F ht⟩) hS.2.2 dX2_sidereal_24

def f_X2_count (wo fu : Int32) (x1 : Int32) : Int32 × Int32 := if x1 = 0 then ((wo, 0)) else ((fu, 0))
set_option maxHeartbeats 4000000 in
set_option maxRecDepth 100000 in
theorem k_X2_count (l : Launch) (hst : l.stackTraces = false) (dC : Nat → ClassId) (dI : Nat → Nat → Nat) (cA : Nat → ClassId) (tm tt sz : Nat) (am gs go gt gp gw gl : Nat) (th wo fu : Int32) (la ea : UInt64) (ln fd : Int32) (x1 : Int32)  : Met l yX2_count wsX2_count ({ frames := 0, cells := 0, slots := 0, locals := 0 }) (PcW dC dI cA tm tt sz [.ref am, .int x1] [(am, .inr (2, [.int th, .int wo, .int fu, .ref gs, .ref go, .ref gt, .ref gp, .ref gw, .double la, .double ea, .ref gl, .int ln, .int fd]))]) (va_Qi (fun r (_ : Unit) => (f_X2_count wo fu x1).1 = r) (fun _ t => WB dC dI (va_A [(am, .inr (2, [.int th, .int wo, .int fu, .ref gs, .ref go, .ref gt, .ref gp, .ref gw, .double la, .double ea, .ref gl, .int ln, .int fd]))] sz) [(am, .inr (2, [.int ((f_X2_count wo fu x1).2), .int wo, .int fu, .ref gs, .ref go, .ref gt, .ref gp, .ref gw, .double la, .double ea, .ref gl, .int ln, .int fd]))] t) (va_A [(am, .inr (2, [.int th, .int wo, .int fu, .ref gs, .ref go, .ref gt, .ref gp, .ref gw, .double la, .double ea, .ref gl, .int ln, .int fd]))] sz)) 0 0 (va_A [(am, .inr (2, [.int th, .int wo, .int fu, .ref gs, .ref go, .ref gt, .ref gp, .ref gw, .double la, .double ea, .ref gl, .int ln, .int fd]))] sz) := by
  refine Met.ofW (cc := cX2_count) (maxL := 2) (ret := (some .int)) (by decide) rfl ?_
  intro p e s m args below meth c s₁ B hml hv
  obtain ⟨rfl, hsz, hP, hK, hD0, hE⟩ := hv
  subst hsz
  have hD := hD0.self (sz := s.heap.size)
  generalize hAe : va_A [(am, .inr (2, [.int th, .int wo, .int fu, .ref gs, .ref go, .ref gt, .ref gp, .ref gw, .double la, .double ea, .ref gl, .int ln, .int fd]))] s.heap.size = A at hD hE ⊢
  have hA : ∀ q : Nat, s.heap.size ≤ q → A q := fun q h => by rw [← hAe]; exact Or.inr h
  have hS : va_S A s.heap s.heap [] := va_S.rf
  have hP : va_P (dC, dI) vwCl [(am, .inr (2, [.int th, .int wo, .int fu, .ref gs, .ref go, .ref gt, .ref gp, .ref gw, .double la, .double ea, .ref gl, .int ln, .int fd]))] s.heap := hP
  have hx := B.exec
  have hb := B.bytes
  have hr := B.returns
  have hts := atoms_spec (ws := wsX2_count) B.pre
  have hown : s.vm.findClass RX2 = some m.cls := findClass_of_methodNamed B.named
  have hlocks := B.notSynchronized
  have hl := lv_entry ([.ref am, .int x1]) (n := 2) (Nat.le_of_ble_eq_true rfl)
  rw [lg_entry_eq]
  generalize (lg_sl ([.ref am, .int x1]) ++ List.replicate (2 - (lg_sl ([.ref am, .int x1])).length) Slot.unset).toArray = ls at hl ⊢
  have hl : lv_has ls 2 [(0, .ref am), (1, .int x1)] := hl
  have hin2 : ∀ w ∈ u_ws RX2 TX2 13, w ∈ wsX2_count := by decide +kernel
  refine lv_aload_n hx hb dX2_count_0 rfl (lv_at hl 0 rfl) ?_
  refine lv_iconst (v := 0) hx hb dX2_count_1 (by decide) ?_
  refine va_put (D := (dC, dI)) (ci := 2) (v := .int 0) (ty := .int) (C := RX2) (T := TX2) (N := 13) hx hb hts hin2 tyX2 tyX2_ok nmX2 hown hK hP hD hS 0 rfl rfl 0 (by decide) (hts (.fieldLink RX2 30 "SkyAlmanacModel" "thrown" "I") (by decide +kernel)) (fun _ h9 => h9) rfl (by decide +kernel) rfl rfl (Nat.le_of_ble_eq_true rfl) dX2_count_2 (fun H locs hP hD hS => ?_)
  have hP : va_P (dC, dI) vwCl [(am, .inr (2, [.int 0, .int wo, .int fu, .ref gs, .ref go, .ref gt, .ref gp, .ref gw, .double la, .double ea, .ref gl, .int ln, .int fd]))] H := hP
  have hD : va_D A [(am, .inr (2, [.int 0, .int wo, .int fu, .ref gs, .ref go, .ref gt, .ref gp, .ref gw, .double la, .double ea, .ref gl, .int ln, .int fd]))] := hD
  refine lv_iload_n hx hb dX2_count_5 rfl (lv_at hl 1 rfl) ?_
  refine lv_if_eq (tgt := 16) hx hb dX2_count_6 (by decide) (fun c_1 => ?_) (fun c_1 => ?_)
  · refine lv_aload_n hx hb dX2_count_16 rfl (lv_at hl 0 rfl) ?_
    refine va_get (D := (dC, dI)) (ci := 2) (v := .int wo) (C := RX2) (T := TX2) (N := 13) hx hb hts hin2 hown hK hP 0 rfl rfl 1 (by decide) (hts (.fieldLink RX2 199 "SkyAlmanacModel" "worked" "I") (by decide +kernel)) (fun _ h9 => h9) rfl dX2_count_17 ?_
    have e0 : f_X2_count wo fu x1 = (wo, 0) := by unfold f_X2_count; rw [if_pos c_1]
    have e1 : (f_X2_count wo fu x1).2 = 0 := by rw [e0]
    have hP : va_P (dC, dI) vwCl [(am, .inr (2, [.int ((f_X2_count wo fu x1).2), .int wo, .int fu, .ref gs, .ref go, .ref gt, .ref gp, .ref gw, .double la, .double ea, .ref gl, .int ln, .int fd]))] H := by rw [e1]; exact hP
    have hD : va_D A [(am, .inr (2, [.int ((f_X2_count wo fu x1).2), .int wo, .int fu, .ref gs, .ref go, .ref gt, .ref gp, .ref gw, .double la, .double ea, .ref gl, .int ln, .int fd]))] := by rw [e1]; exact hD
    exact W.iret hx hb hr (fun t ht hW => ⟨⟨_, (), rfl, (congrArg Prod.fst e0), ⟨by rw [ht]; exact hP, hD⟩⟩, hS.F ht⟩) hS.2.2 dX2_count_20
  · refine lv_aload_n hx hb dX2_count_9 rfl (lv_at hl 0 rfl) ?_
    refine va_get (D := (dC, dI)) (ci := 2) (v := .int fu) (C := RX2) (T := TX2) (N := 13) hx hb hts hin2 hown hK hP 0 rfl rfl 2 (by decide) (hts (.fieldLink RX2 206 "SkyAlmanacModel" "failures" "I") (by decide +kernel)) (fun _ h9 => h9) rfl dX2_count_10 ?_
    refine lv_goto (tgt := 20) hx hb dX2_count_13 (by decide) ?_
    have e0 : f_X2_count wo fu x1 = (fu, 0) := by unfold f_X2_count; rw [if_neg c_1]
    have e1 : (f_X2_count wo fu x1).2 = 0 := by rw [e0]
    have hP : va_P (dC, dI) vwCl [(am, .inr (2, [.int ((f_X2_count wo fu x1).2), .int wo, .int fu, .ref gs, .ref go, .ref gt, .ref gp, .ref gw, .double la, .double ea, .ref gl, .int ln, .int fd]))] H := by rw [e1]; exact hP
    have hD : va_D A [(am, .inr (2, [.int ((f_X2_count wo fu x1).2), .int wo, .int fu, .ref gs, .ref go, .ref gt, .ref gp, .ref gw, .double la, .double ea, .ref gl, .int ln, .int fd]))] := by rw [e1]; exact hD
    exact W.iret hx hb hr (fun t ht hW => ⟨⟨_, (), rfl, (congrArg Prod.fst e0), ⟨by rw [ht]; exact hP, hD⟩⟩, hS.F ht⟩) hS.2.2 dX2_count_20

theorem le40_in {x ln : Int32} (hk : ln ≤ 40) (h1 : ¬ x < 0) (h2 : x < ln) : vp_in x 40 := by
  refine lt_in (m := 40) rfl h1 ?_
  rw [Int32.le_iff_toInt_le] at hk
  rw [Int32.lt_iff_toInt_lt] at h2 ⊢; omega
def f_X2_letter (ln : Int32) (lf : Nat → Int32) (x1 : Int32) : Int32 × Int32 := if x1 < 0 then ((0, 1)) else (if x1 < ln then ((lf (Int32.toNatClampNeg x1), 0)) else ((0, 1)))
set_option maxHeartbeats 4000000 in
set_option maxRecDepth 100000 in
theorem k_X2_letter (l : Launch) (hst : l.stackTraces = false) (dC : Nat → ClassId) (dI : Nat → Nat → Nat) (cA : Nat → ClassId) (tm tt sz : Nat) (am gs go gt gp gw gl : Nat) (th wo fu : Int32) (la ea : UInt64) (ln fd : Int32) (lf : Nat → Int32) (x1 : Int32) (hk : ln ≤ 40) : Met l yX2_letter wsX2_letter ({ frames := 1, cells := 0, slots := 0, locals := 21 }) (PcW dC dI cA tm tt sz [.ref am, .int x1] [(am, .inr (2, [.int th, .int wo, .int fu, .ref gs, .ref go, .ref gt, .ref gp, .ref gw, .double la, .double ea, .ref gl, .int ln, .int fd])), (gl, aI 40 (cA 0) lf)]) (va_Qi (fun r (_ : Unit) => (f_X2_letter ln lf x1).1 = r) (fun _ t => WB dC dI (va_A [(am, .inr (2, [.int th, .int wo, .int fu, .ref gs, .ref go, .ref gt, .ref gp, .ref gw, .double la, .double ea, .ref gl, .int ln, .int fd])), (gl, aI 40 (cA 0) lf)] sz) [(am, .inr (2, [.int ((f_X2_letter ln lf x1).2), .int wo, .int fu, .ref gs, .ref go, .ref gt, .ref gp, .ref gw, .double la, .double ea, .ref gl, .int ln, .int fd])), (gl, aI 40 (cA 0) lf)] t) (va_A [(am, .inr (2, [.int th, .int wo, .int fu, .ref gs, .ref go, .ref gt, .ref gp, .ref gw, .double la, .double ea, .ref gl, .int ln, .int fd])), (gl, aI 40 (cA 0) lf)] sz)) 0 0 (va_A [(am, .inr (2, [.int th, .int wo, .int fu, .ref gs, .ref go, .ref gt, .ref gp, .ref gw, .double la, .double ea, .ref gl, .int ln, .int fd])), (gl, aI 40 (cA 0) lf)] sz) := by
  refine Met.ofW (cc := cX2_letter) (maxL := 2) (ret := (some .int)) (by decide) rfl ?_
  intro p e s m args below meth c s₁ B hml hv
  obtain ⟨rfl, hsz, hP, hK, hD0, hE⟩ := hv
  subst hsz
  have hD := hD0.self (sz := s.heap.size)
  generalize hAe : va_A [(am, .inr (2, [.int th, .int wo, .int fu, .ref gs, .ref go, .ref gt, .ref gp, .ref gw, .double la, .double ea, .ref gl, .int ln, .int fd])), (gl, aI 40 (cA 0) lf)] s.heap.size = A at hD hE ⊢
  have hA : ∀ q : Nat, s.heap.size ≤ q → A q := fun q h => by rw [← hAe]; exact Or.inr h
  have hS : va_S A s.heap s.heap [] := va_S.rf
  have hP : va_P (dC, dI) vwCl [(am, .inr (2, [.int th, .int wo, .int fu, .ref gs, .ref go, .ref gt, .ref gp, .ref gw, .double la, .double ea, .ref gl, .int ln, .int fd])), (gl, aI 40 (cA 0) lf)] s.heap := hP
  have hx := B.exec
  have hb := B.bytes
  have hr := B.returns
  have hts := atoms_spec (ws := wsX2_letter) B.pre
  have hown : s.vm.findClass RX2 = some m.cls := findClass_of_methodNamed B.named
  have hlocks := B.notSynchronized
  have hl := lv_entry ([.ref am, .int x1]) (n := 2) (Nat.le_of_ble_eq_true rfl)
  rw [lg_entry_eq]
  generalize (lg_sl ([.ref am, .int x1]) ++ List.replicate (2 - (lg_sl ([.ref am, .int x1])).length) Slot.unset).toArray = ls at hl ⊢
  have hl : lv_has ls 2 [(0, .ref am), (1, .int x1)] := hl
  have hin2 : ∀ w ∈ u_ws RX2 TX2 13, w ∈ wsX2_letter := by decide +kernel
  refine lv_aload_n hx hb dX2_letter_0 rfl (lv_at hl 0 rfl) ?_
  refine lv_iconst (v := 0) hx hb dX2_letter_1 (by decide) ?_
  refine va_put (D := (dC, dI)) (ci := 2) (v := .int 0) (ty := .int) (C := RX2) (T := TX2) (N := 13) hx hb hts hin2 tyX2 tyX2_ok nmX2 hown hK hP hD hS 0 rfl rfl 0 (by decide) (hts (.fieldLink RX2 30 "SkyAlmanacModel" "thrown" "I") (by decide +kernel)) (fun _ h9 => h9) rfl (by decide +kernel) rfl rfl (Nat.le_of_ble_eq_true rfl) dX2_letter_2 (fun H locs hP hD hS => ?_)
  have hP : va_P (dC, dI) vwCl [(am, .inr (2, [.int 0, .int wo, .int fu, .ref gs, .ref go, .ref gt, .ref gp, .ref gw, .double la, .double ea, .ref gl, .int ln, .int fd])), (gl, aI 40 (cA 0) lf)] H := hP
  have hD : va_D A [(am, .inr (2, [.int 0, .int wo, .int fu, .ref gs, .ref go, .ref gt, .ref gp, .ref gw, .double la, .double ea, .ref gl, .int ln, .int fd])), (gl, aI 40 (cA 0) lf)] := hD
  refine lv_iload_n hx hb dX2_letter_5 rfl (lv_at hl 1 rfl) ?_
  refine lv_if_lt (tgt := 17) hx hb dX2_letter_6 (by decide) (fun c_1 => ?_) (fun c_1 => ?_)
  · refine lv_aload_n hx hb dX2_letter_17 rfl (lv_at hl 0 rfl) ?_
    refine lv_iconst (v := 1) hx hb dX2_letter_18 (by decide) ?_
    have hPc := hP.sub (ws' := [(am, .inr (2, [.int 0, .int wo, .int fu, .ref gs, .ref go, .ref gt, .ref gp, .ref gw, .double la, .double ea, .ref gl, .int ln, .int fd]))]) [0] rfl
    have hDc := hD.sub (ws' := [(am, .inr (2, [.int 0, .int wo, .int fu, .ref gs, .ref go, .ref gt, .ref gp, .ref gw, .double la, .double ea, .ref gl, .int ln, .int fd]))]) [0] (by decide) rfl
    have hFc := va_free (wc := [(am, .inr (2, [.int 0, .int wo, .int fu, .ref gs, .ref go, .ref gt, .ref gp, .ref gw, .double la, .double ea, .ref gl, .int ln, .int fd]))]) hD hS hA [0] rfl
    refine va_calli (va_runV (As := [.int 1]) (rest := []) ⟨hx, hb, hml, hown, hts⟩ (k_X2_fail l hst dC dI cA tm tt _ am gs go gt gp gw gl 0 wo fu la ea ln fd 1) (cwV 1 hts gX2_letter_X2_fail rfl rfl rfl (by decide +kernel) ⟨Nat.le_of_ble_eq_true rfl, Nat.le_of_ble_eq_true rfl⟩) ⟨PcW.blind, va_recv hK hPc (ci := 2) (q0 := 0) rfl rfl, PcW.give hPc hK hDc hE hS hFc⟩ rfl rfl hl.1 rfl (lv_room (Nat.le_of_ble_eq_true rfl)) dX2_letter_19 ⟨Nat.le_of_ble_eq_true rfl, Nat.le_of_ble_eq_true rfl⟩) hS (fun q _ h => hFc q h) hFc (fun v_2 u t H locs ht hvm hp_3 hB hz1 hk1 hS => ?_)
    obtain ⟨hP1, hD1⟩ := hB
    rw [ht] at hP1
    obtain ⟨hP, hD⟩ := va_join (wr := [(gl, aI 40 (cA 0) lf)]) (w1 := [(am, .inr (2, [.int 1, .int wo, .int fu, .ref gs, .ref go, .ref gt, .ref gp, .ref gw, .double la, .double ea, .ref gl, .int ln, .int fd]))]) hP hD [0] [1] rfl rfl (by decide) (by decide) hk1 hFc hP1 hD1
    have hP := hP.sub (ws' := [(am, .inr (2, [.int 1, .int wo, .int fu, .ref gs, .ref go, .ref gt, .ref gp, .ref gw, .double la, .double ea, .ref gl, .int ln, .int fd])), (gl, aI 40 (cA 0) lf)]) [1, 0] rfl
    have hD := hD.sub (ws' := [(am, .inr (2, [.int 1, .int wo, .int fu, .ref gs, .ref go, .ref gt, .ref gp, .ref gw, .double la, .double ea, .ref gl, .int ln, .int fd])), (gl, aI 40 (cA 0) lf)]) [1, 0] (by decide) rfl
    obtain rfl := hp_3
    refine lv_goto (tgt := 31) hx hb dX2_letter_22 (by decide) ?_
    have e0 : f_X2_letter ln lf x1 = (0, 1) := by unfold f_X2_letter; rw [if_pos c_1]
    have e1 : (f_X2_letter ln lf x1).2 = 1 := by rw [e0]
    have hP : va_P (dC, dI) vwCl [(am, .inr (2, [.int ((f_X2_letter ln lf x1).2), .int wo, .int fu, .ref gs, .ref go, .ref gt, .ref gp, .ref gw, .double la, .double ea, .ref gl, .int ln, .int fd])), (gl, aI 40 (cA 0) lf)] H := by rw [e1]; exact hP
    have hD : va_D A [(am, .inr (2, [.int ((f_X2_letter ln lf x1).2), .int wo, .int fu, .ref gs, .ref go, .ref gt, .ref gp, .ref gw, .double la, .double ea, .ref gl, .int ln, .int fd])), (gl, aI 40 (cA 0) lf)] := by rw [e1]; exact hD
    exact W.iret hx hb hr (fun t ht hW => ⟨⟨_, (), rfl, (congrArg Prod.fst e0), ⟨by rw [ht]; exact hP, hD⟩⟩, hS.F ht⟩) hS.2.2 dX2_letter_31
  · refine lv_iload_n hx hb dX2_letter_9 rfl (lv_at hl 1 rfl) ?_
    refine lv_aload_n hx hb dX2_letter_10 rfl (lv_at hl 0 rfl) ?_
    refine va_get (D := (dC, dI)) (ci := 2) (v := .int ln) (C := RX2) (T := TX2) (N := 13) hx hb hts hin2 hown hK hP 0 rfl rfl 11 (by decide) (hts (.fieldLink RX2 256 "SkyAlmanacModel" "letters" "I") (by decide +kernel)) (fun _ h9 => h9) rfl dX2_letter_11 ?_
    refine lv_icmp_lt (tgt := 25) hx hb dX2_letter_14 (by decide) (fun c_4 => ?_) (fun c_4 => ?_)
    · refine lv_aload_n hx hb dX2_letter_25 rfl (lv_at hl 0 rfl) ?_
      refine va_get (D := (dC, dI)) (ci := 2) (v := .ref gl) (C := RX2) (T := TX2) (N := 13) hx hb hts hin2 hown hK hP 0 rfl rfl 10 (by decide) (hts (.fieldLink RX2 27 "SkyAlmanacModel" "written" "[I") (by decide +kernel)) (fun _ h9 => h9) rfl dX2_letter_26 ?_
      refine lv_iload_n hx hb dX2_letter_29 rfl (lv_at hl 1 rfl) ?_
      refine va_iald hx hb hK hP 1 0 rfl rfl (le40_in hk c_1 c_4) dX2_letter_30 ?_
      have e0 : f_X2_letter ln lf x1 = (lf (Int32.toNatClampNeg x1), 0) := by unfold f_X2_letter; rw [if_neg c_1, if_pos c_4]
      have e1 : (f_X2_letter ln lf x1).2 = 0 := by rw [e0]
      have hP : va_P (dC, dI) vwCl [(am, .inr (2, [.int ((f_X2_letter ln lf x1).2), .int wo, .int fu, .ref gs, .ref go, .ref gt, .ref gp, .ref gw, .double la, .double ea, .ref gl, .int ln, .int fd])), (gl, aI 40 (cA 0) lf)] H := by rw [e1]; exact hP
      have hD : va_D A [(am, .inr (2, [.int ((f_X2_letter ln lf x1).2), .int wo, .int fu, .ref gs, .ref go, .ref gt, .ref gp, .ref gw, .double la, .double ea, .ref gl, .int ln, .int fd])), (gl, aI 40 (cA 0) lf)] := by rw [e1]; exact hD
      exact W.iret hx hb hr (fun t ht hW => ⟨⟨_, (), rfl, (congrArg Prod.fst e0), ⟨by rw [ht]; exact hP, hD⟩⟩, hS.F ht⟩) hS.2.2 dX2_letter_31
    · refine lv_aload_n hx hb dX2_letter_17 rfl (lv_at hl 0 rfl) ?_
      refine lv_iconst (v := 1) hx hb dX2_letter_18 (by decide) ?_
      have hPc := hP.sub (ws' := [(am, .inr (2, [.int 0, .int wo, .int fu, .ref gs, .ref go, .ref gt, .ref gp, .ref gw, .double la, .double ea, .ref gl, .int ln, .int fd]))]) [0] rfl
      have hDc := hD.sub (ws' := [(am, .inr (2, [.int 0, .int wo, .int fu, .ref gs, .ref go, .ref gt, .ref gp, .ref gw, .double la, .double ea, .ref gl, .int ln, .int fd]))]) [0] (by decide) rfl
      have hFc := va_free (wc := [(am, .inr (2, [.int 0, .int wo, .int fu, .ref gs, .ref go, .ref gt, .ref gp, .ref gw, .double la, .double ea, .ref gl, .int ln, .int fd]))]) hD hS hA [0] rfl
      refine va_calli (va_runV (As := [.int 1]) (rest := []) ⟨hx, hb, hml, hown, hts⟩ (k_X2_fail l hst dC dI cA tm tt _ am gs go gt gp gw gl 0 wo fu la ea ln fd 1) (cwV 1 hts gX2_letter_X2_fail rfl rfl rfl (by decide +kernel) ⟨Nat.le_of_ble_eq_true rfl, Nat.le_of_ble_eq_true rfl⟩) ⟨PcW.blind, va_recv hK hPc (ci := 2) (q0 := 0) rfl rfl, PcW.give hPc hK hDc hE hS hFc⟩ rfl rfl hl.1 rfl (lv_room (Nat.le_of_ble_eq_true rfl)) dX2_letter_19 ⟨Nat.le_of_ble_eq_true rfl, Nat.le_of_ble_eq_true rfl⟩) hS (fun q _ h => hFc q h) hFc (fun v_5 u t H locs ht hvm hp_6 hB hz1 hk1 hS => ?_)
      obtain ⟨hP1, hD1⟩ := hB
      rw [ht] at hP1
      obtain ⟨hP, hD⟩ := va_join (wr := [(gl, aI 40 (cA 0) lf)]) (w1 := [(am, .inr (2, [.int 1, .int wo, .int fu, .ref gs, .ref go, .ref gt, .ref gp, .ref gw, .double la, .double ea, .ref gl, .int ln, .int fd]))]) hP hD [0] [1] rfl rfl (by decide) (by decide) hk1 hFc hP1 hD1
      have hP := hP.sub (ws' := [(am, .inr (2, [.int 1, .int wo, .int fu, .ref gs, .ref go, .ref gt, .ref gp, .ref gw, .double la, .double ea, .ref gl, .int ln, .int fd])), (gl, aI 40 (cA 0) lf)]) [1, 0] rfl
      have hD := hD.sub (ws' := [(am, .inr (2, [.int 1, .int wo, .int fu, .ref gs, .ref go, .ref gt, .ref gp, .ref gw, .double la, .double ea, .ref gl, .int ln, .int fd])), (gl, aI 40 (cA 0) lf)]) [1, 0] (by decide) rfl
      obtain rfl := hp_6
      refine lv_goto (tgt := 31) hx hb dX2_letter_22 (by decide) ?_
      have e0 : f_X2_letter ln lf x1 = (0, 1) := by unfold f_X2_letter; rw [if_neg c_1, if_neg c_4]
      have e1 : (f_X2_letter ln lf x1).2 = 1 := by rw [e0]
      have hP : va_P (dC, dI) vwCl [(am, .inr (2, [.int ((f_X2_letter ln lf x1).2), .int wo, .int fu, .ref gs, .ref go, .ref gt, .ref gp, .ref gw, .double la, .double ea, .ref gl, .int ln, .int fd])), (gl, aI 40 (cA 0) lf)] H := by rw [e1]; exact hP
      have hD : va_D A [(am, .inr (2, [.int ((f_X2_letter ln lf x1).2), .int wo, .int fu, .ref gs, .ref go, .ref gt, .ref gp, .ref gw, .double la, .double ea, .ref gl, .int ln, .int fd])), (gl, aI 40 (cA 0) lf)] := by rw [e1]; exact hD
      exact W.iret hx hb hr (fun t ht hW => ⟨⟨_, (), rfl, (congrArg Prod.fst e0), ⟨by rw [ht]; exact hP, hD⟩⟩, hS.F ht⟩) hS.2.2 dX2_letter_31

def f_X2_observer (la ea : UInt64) (x1 : UInt64) (x2 : UInt64) : Int32 × Int32 := if (f_X2_within x1 13859405640767635456 4636033603912859648) = 0 then ((0, 1)) else (if (f_X2_within x2 13863909240395005952 4640537203540230144) = 0 then ((0, 1)) else (if deq x1 la then (if deq x2 ea then ((0, 0)) else ((1, 0))) else ((1, 0))))
set_option maxHeartbeats 4000000 in
set_option maxRecDepth 100000 in
theorem k_X2_observer (l : Launch) (hst : l.stackTraces = false) (dC : Nat → ClassId) (dI : Nat → Nat → Nat) (cA : Nat → ClassId) (tm tt sz : Nat) (am gs go gt gp gw gl : Nat) (th wo fu : Int32) (la ea : UInt64) (ln fd : Int32) (x1 : UInt64) (x2 : UInt64)  : Met l yX2_observer wsX2_observer ({ frames := 1, cells := 0, slots := 0, locals := 25 }) (PcW dC dI cA tm tt sz [.ref am, .double x1, .double x2] [(am, .inr (2, [.int th, .int wo, .int fu, .ref gs, .ref go, .ref gt, .ref gp, .ref gw, .double la, .double ea, .ref gl, .int ln, .int fd]))]) (va_Qi (fun r (_ : Unit) => (f_X2_observer la ea x1 x2).1 = r) (fun _ t => WB dC dI (va_A [(am, .inr (2, [.int th, .int wo, .int fu, .ref gs, .ref go, .ref gt, .ref gp, .ref gw, .double la, .double ea, .ref gl, .int ln, .int fd]))] sz) [(am, .inr (2, [.int ((f_X2_observer la ea x1 x2).2), .int wo, .int fu, .ref gs, .ref go, .ref gt, .ref gp, .ref gw, .double (if (f_X2_observer la ea x1 x2).2 = 0 then x1 else la), .double (if (f_X2_observer la ea x1 x2).2 = 0 then x2 else ea), .ref gl, .int ln, .int fd]))] t) (va_A [(am, .inr (2, [.int th, .int wo, .int fu, .ref gs, .ref go, .ref gt, .ref gp, .ref gw, .double la, .double ea, .ref gl, .int ln, .int fd]))] sz)) 0 0 (va_A [(am, .inr (2, [.int th, .int wo, .int fu, .ref gs, .ref go, .ref gt, .ref gp, .ref gw, .double la, .double ea, .ref gl, .int ln, .int fd]))] sz) := by
  refine Met.ofW (cc := cX2_observer) (maxL := 6) (ret := (some .boolean)) (by decide) rfl ?_
  intro p e s m args below meth c s₁ B hml hv
  obtain ⟨rfl, hsz, hP, hK, hD0, hE⟩ := hv
  subst hsz
  have hD := hD0.self (sz := s.heap.size)
  generalize hAe : va_A [(am, .inr (2, [.int th, .int wo, .int fu, .ref gs, .ref go, .ref gt, .ref gp, .ref gw, .double la, .double ea, .ref gl, .int ln, .int fd]))] s.heap.size = A at hD hE ⊢
  have hA : ∀ q : Nat, s.heap.size ≤ q → A q := fun q h => by rw [← hAe]; exact Or.inr h
  have hS : va_S A s.heap s.heap [] := va_S.rf
  have hP : va_P (dC, dI) vwCl [(am, .inr (2, [.int th, .int wo, .int fu, .ref gs, .ref go, .ref gt, .ref gp, .ref gw, .double la, .double ea, .ref gl, .int ln, .int fd]))] s.heap := hP
  have hx := B.exec
  have hb := B.bytes
  have hr := B.returns
  have hts := atoms_spec (ws := wsX2_observer) B.pre
  have hown : s.vm.findClass RX2 = some m.cls := findClass_of_methodNamed B.named
  have hlocks := B.notSynchronized
  have hl := lv_entry ([.ref am, .double x1, .double x2]) (n := 6) (Nat.le_of_ble_eq_true rfl)
  rw [lg_entry_eq]
  generalize (lg_sl ([.ref am, .double x1, .double x2]) ++ List.replicate (6 - (lg_sl ([.ref am, .double x1, .double x2])).length) Slot.unset).toArray = ls at hl ⊢
  have hl : lv_has ls 6 [(0, .ref am), (1, .double x1), (3, .double x2)] := hl
  have hin2 : ∀ w ∈ u_ws RX2 TX2 13, w ∈ wsX2_observer := by decide +kernel
  refine lv_aload_n hx hb dX2_observer_0 rfl (lv_at hl 0 rfl) ?_
  refine lv_iconst (v := 0) hx hb dX2_observer_1 (by decide) ?_
  refine va_put (D := (dC, dI)) (ci := 2) (v := .int 0) (ty := .int) (C := RX2) (T := TX2) (N := 13) hx hb hts hin2 tyX2 tyX2_ok nmX2 hown hK hP hD hS 0 rfl rfl 0 (by decide) (hts (.fieldLink RX2 30 "SkyAlmanacModel" "thrown" "I") (by decide +kernel)) (fun _ h9 => h9) rfl (by decide +kernel) rfl rfl (Nat.le_of_ble_eq_true rfl) dX2_observer_2 (fun H locs hP hD hS => ?_)
  have hP : va_P (dC, dI) vwCl [(am, .inr (2, [.int 0, .int wo, .int fu, .ref gs, .ref go, .ref gt, .ref gp, .ref gw, .double la, .double ea, .ref gl, .int ln, .int fd]))] H := hP
  have hD : va_D A [(am, .inr (2, [.int 0, .int wo, .int fu, .ref gs, .ref go, .ref gt, .ref gp, .ref gw, .double la, .double ea, .ref gl, .int ln, .int fd]))] := hD
  refine lv_dload_n hx hb dX2_observer_5 rfl (lv_at hl 1 rfl) ?_
  refine lv_ldc2d hx hb hown (hts (.constantDouble RX2 174 (13859405640767635456)) (by decide +kernel)) dX2_observer_6 ?_
  have r_1 : fR 13859405640767635456 (-96636764160) (-96636764160) := fR_lit (by decide +kernel)
  refine lv_ldc2d hx hb hown (hts (.constantDouble RX2 120 (4636033603912859648)) (by decide +kernel)) dX2_observer_9 ?_
  have r_2 : fR 4636033603912859648 96636764160 96636764160 := fR_lit (by decide +kernel)
  refine vp_callSi (W.runS (As := [.double x1, .double 13859405640767635456, .double 4636033603912859648]) (rest := []) ⟨hx, hb, hml, hown, hts⟩ (k_X2_within l x1 13859405640767635456 4636033603912859648) (va_cwS 3 hts gX2_observer_X2_within rfl rfl rfl (by decide +kernel) ⟨Nat.le_of_ble_eq_true rfl, Nat.le_of_ble_eq_true rfl⟩) preEq rfl rfl hl.1 rfl (lv_room (Nat.le_of_ble_eq_true rfl)) dX2_observer_12 ⟨Nat.le_of_ble_eq_true rfl, Nat.le_of_ble_eq_true rfl⟩) (fun r hr9 => ?_)
  obtain rfl := hr9
  refine lv_if_eq (tgt := 31) hx hb dX2_observer_15 (by decide) (fun c_3 => ?_) (fun c_3 => ?_)
  · refine lv_aload_n hx hb dX2_observer_31 rfl (lv_at hl 0 rfl) ?_
    refine lv_iconst (v := 1) hx hb dX2_observer_32 (by decide) ?_
    have hPc := hP.sub (ws' := [(am, .inr (2, [.int 0, .int wo, .int fu, .ref gs, .ref go, .ref gt, .ref gp, .ref gw, .double la, .double ea, .ref gl, .int ln, .int fd]))]) [0] rfl
    have hDc := hD.sub (ws' := [(am, .inr (2, [.int 0, .int wo, .int fu, .ref gs, .ref go, .ref gt, .ref gp, .ref gw, .double la, .double ea, .ref gl, .int ln, .int fd]))]) [0] (by decide) rfl
    have hFc := va_free (wc := [(am, .inr (2, [.int 0, .int wo, .int fu, .ref gs, .ref go, .ref gt, .ref gp, .ref gw, .double la, .double ea, .ref gl, .int ln, .int fd]))]) hD hS hA [0] rfl
    refine va_calli (va_runV (As := [.int 1]) (rest := []) ⟨hx, hb, hml, hown, hts⟩ (k_X2_fail l hst dC dI cA tm tt _ am gs go gt gp gw gl 0 wo fu la ea ln fd 1) (cwV 1 hts gX2_observer_X2_fail rfl rfl rfl (by decide +kernel) ⟨Nat.le_of_ble_eq_true rfl, Nat.le_of_ble_eq_true rfl⟩) ⟨PcW.blind, va_recv hK hPc (ci := 2) (q0 := 0) rfl rfl, PcW.give hPc hK hDc hE hS hFc⟩ rfl rfl hl.1 rfl (lv_room (Nat.le_of_ble_eq_true rfl)) dX2_observer_33 ⟨Nat.le_of_ble_eq_true rfl, Nat.le_of_ble_eq_true rfl⟩) hS (fun q _ h => hFc q h) hFc (fun v_4 u t H locs ht hvm hp_5 hB hz1 hk1 hS => ?_)
    obtain ⟨hP1, hD1⟩ := hB
    rw [ht] at hP1
    obtain ⟨hP, hD⟩ := va_join (wr := []) (w1 := [(am, .inr (2, [.int 1, .int wo, .int fu, .ref gs, .ref go, .ref gt, .ref gp, .ref gw, .double la, .double ea, .ref gl, .int ln, .int fd]))]) hP hD [0] [] rfl rfl (by decide) (by decide) hk1 hFc hP1 hD1
    have hP := hP.sub (ws' := [(am, .inr (2, [.int 1, .int wo, .int fu, .ref gs, .ref go, .ref gt, .ref gp, .ref gw, .double la, .double ea, .ref gl, .int ln, .int fd]))]) [0] rfl
    have hD := hD.sub (ws' := [(am, .inr (2, [.int 1, .int wo, .int fu, .ref gs, .ref go, .ref gt, .ref gp, .ref gw, .double la, .double ea, .ref gl, .int ln, .int fd]))]) [0] (by decide) rfl
    obtain rfl := hp_5
    refine lv_if_le (tgt := 43) hx hb dX2_observer_36 (by decide) (fun _ => ?_) (fun c_6 => absurd c_6 (by decide))
    refine lv_iconst (v := 0) hx hb dX2_observer_43 (by decide) ?_
    have e0 : f_X2_observer la ea x1 x2 = (0, 1) := by unfold f_X2_observer; rw [if_pos c_3]
    have e1 : (f_X2_observer la ea x1 x2).2 = 1 := by rw [e0]
    have hP : va_P (dC, dI) vwCl [(am, .inr (2, [.int ((f_X2_observer la ea x1 x2).2), .int wo, .int fu, .ref gs, .ref go, .ref gt, .ref gp, .ref gw, .double (if (f_X2_observer la ea x1 x2).2 = 0 then x1 else la), .double (if (f_X2_observer la ea x1 x2).2 = 0 then x2 else ea), .ref gl, .int ln, .int fd]))] H := by simp only [if_neg (show ¬ (f_X2_observer la ea x1 x2).2 = 0 by rw [e1]; decide)]; rw [e1]; exact hP
    have hD : va_D A [(am, .inr (2, [.int ((f_X2_observer la ea x1 x2).2), .int wo, .int fu, .ref gs, .ref go, .ref gt, .ref gp, .ref gw, .double (if (f_X2_observer la ea x1 x2).2 = 0 then x1 else la), .double (if (f_X2_observer la ea x1 x2).2 = 0 then x2 else ea), .ref gl, .int ln, .int fd]))] := by simp only [if_neg (show ¬ (f_X2_observer la ea x1 x2).2 = 0 by rw [e1]; decide)]; rw [e1]; exact hD
    exact W.zret hx hb hr rfl (fun t ht hW => ⟨⟨_, (), rfl, (congrArg Prod.fst e0), ⟨by rw [ht]; exact hP, hD⟩⟩, hS.F ht⟩) hS.2.2 dX2_observer_44
  · refine lv_dload_n hx hb dX2_observer_18 rfl (lv_at hl 2 rfl) ?_
    refine lv_ldc2d hx hb hown (hts (.constantDouble RX2 176 (13863909240395005952)) (by decide +kernel)) dX2_observer_19 ?_
    have r_7 : fR 13863909240395005952 (-193273528320) (-193273528320) := fR_lit (by decide +kernel)
    refine lv_ldc2d hx hb hown (hts (.constantDouble RX2 178 (4640537203540230144)) (by decide +kernel)) dX2_observer_22 ?_
    have r_8 : fR 4640537203540230144 193273528320 193273528320 := fR_lit (by decide +kernel)
    refine vp_callSi (W.runS (As := [.double x2, .double 13863909240395005952, .double 4640537203540230144]) (rest := []) ⟨hx, hb, hml, hown, hts⟩ (k_X2_within l x2 13863909240395005952 4640537203540230144) (va_cwS 3 hts gX2_observer_X2_within rfl rfl rfl (by decide +kernel) ⟨Nat.le_of_ble_eq_true rfl, Nat.le_of_ble_eq_true rfl⟩) preEq rfl rfl hl.1 rfl (lv_room (Nat.le_of_ble_eq_true rfl)) dX2_observer_25 ⟨Nat.le_of_ble_eq_true rfl, Nat.le_of_ble_eq_true rfl⟩) (fun r hr9 => ?_)
    obtain rfl := hr9
    refine lv_if_ne (tgt := 45) hx hb dX2_observer_28 (by decide) (fun c_9 => ?_) (fun c_9 => ?_)
    · refine lv_dload_n hx hb dX2_observer_45 rfl (lv_at hl 1 rfl) ?_
      refine lv_aload_n hx hb dX2_observer_46 rfl (lv_at hl 0 rfl) ?_
      refine va_get (D := (dC, dI)) (ci := 2) (v := .double la) (C := RX2) (T := TX2) (N := 13) hx hb hts hin2 hown hK hP 0 rfl rfl 8 (by decide) (hts (.fieldLink RX2 180 "SkyAlmanacModel" "latitude" "D") (by decide +kernel)) (fun _ h9 => h9) rfl dX2_observer_47 ?_
      refine zd_l_ne (tgt := 63) hx hb dX2_observer_50 dX2_observer_51 (by decide) (fun c_10 => ?_) (fun c_10 => ?_)
      · refine lv_iconst (v := 1) hx hb dX2_observer_63 (by decide) ?_
        refine lv_goto (tgt := 68) hx hb dX2_observer_64 (by decide) ?_
        refine lv_istore (lv' := [(5, .int 1), (0, .ref am), (1, .double x1), (3, .double x2)]) hx hb dX2_observer_68 hl (by decide) rfl (fun ls hl => ?_)
        refine lv_aload_n hx hb dX2_observer_70 rfl (lv_at hl 1 rfl) ?_
        refine lv_dload_n hx hb dX2_observer_71 rfl (lv_at hl 2 rfl) ?_
        refine va_put (D := (dC, dI)) (ci := 2) (v := .double x1) (ty := .double) (C := RX2) (T := TX2) (N := 13) hx hb hts hin2 tyX2 tyX2_ok nmX2 hown hK hP hD hS 0 rfl rfl 8 (by decide) (hts (.fieldLink RX2 180 "SkyAlmanacModel" "latitude" "D") (by decide +kernel)) (fun _ h9 => h9) rfl (by decide +kernel) rfl rfl (Nat.le_of_ble_eq_true rfl) dX2_observer_72 (fun H locs hP hD hS => ?_)
        have hP : va_P (dC, dI) vwCl [(am, .inr (2, [.int 0, .int wo, .int fu, .ref gs, .ref go, .ref gt, .ref gp, .ref gw, .double x1, .double ea, .ref gl, .int ln, .int fd]))] H := hP
        have hD : va_D A [(am, .inr (2, [.int 0, .int wo, .int fu, .ref gs, .ref go, .ref gt, .ref gp, .ref gw, .double x1, .double ea, .ref gl, .int ln, .int fd]))] := hD
        refine lv_aload_n hx hb dX2_observer_75 rfl (lv_at hl 1 rfl) ?_
        refine lv_dload_n hx hb dX2_observer_76 rfl (lv_at hl 3 rfl) ?_
        refine va_put (D := (dC, dI)) (ci := 2) (v := .double x2) (ty := .double) (C := RX2) (T := TX2) (N := 13) hx hb hts hin2 tyX2 tyX2_ok nmX2 hown hK hP hD hS 0 rfl rfl 9 (by decide) (hts (.fieldLink RX2 184 "SkyAlmanacModel" "east" "D") (by decide +kernel)) (fun _ h9 => h9) rfl (by decide +kernel) rfl rfl (Nat.le_of_ble_eq_true rfl) dX2_observer_77 (fun H locs hP hD hS => ?_)
        have hP : va_P (dC, dI) vwCl [(am, .inr (2, [.int 0, .int wo, .int fu, .ref gs, .ref go, .ref gt, .ref gp, .ref gw, .double x1, .double x2, .ref gl, .int ln, .int fd]))] H := hP
        have hD : va_D A [(am, .inr (2, [.int 0, .int wo, .int fu, .ref gs, .ref go, .ref gt, .ref gp, .ref gw, .double x1, .double x2, .ref gl, .int ln, .int fd]))] := hD
        refine lv_iload hx hb dX2_observer_80 (lv_at hl 0 rfl) ?_
        have e0 : f_X2_observer la ea x1 x2 = (1, 0) := by unfold f_X2_observer; rw [if_neg c_3, if_neg c_9, if_neg c_10]
        have e1 : (f_X2_observer la ea x1 x2).2 = 0 := by rw [e0]
        have hP : va_P (dC, dI) vwCl [(am, .inr (2, [.int ((f_X2_observer la ea x1 x2).2), .int wo, .int fu, .ref gs, .ref go, .ref gt, .ref gp, .ref gw, .double (if (f_X2_observer la ea x1 x2).2 = 0 then x1 else la), .double (if (f_X2_observer la ea x1 x2).2 = 0 then x2 else ea), .ref gl, .int ln, .int fd]))] H := by simp only [if_pos e1]; rw [e1]; exact hP
        have hD : va_D A [(am, .inr (2, [.int ((f_X2_observer la ea x1 x2).2), .int wo, .int fu, .ref gs, .ref go, .ref gt, .ref gp, .ref gw, .double (if (f_X2_observer la ea x1 x2).2 = 0 then x1 else la), .double (if (f_X2_observer la ea x1 x2).2 = 0 then x2 else ea), .ref gl, .int ln, .int fd]))] := by simp only [if_pos e1]; rw [e1]; exact hD
        exact W.zret hx hb hr rfl (fun t ht hW => ⟨⟨_, (), rfl, (congrArg Prod.fst e0), ⟨by rw [ht]; exact hP, hD⟩⟩, hS.F ht⟩) hS.2.2 dX2_observer_82
      · refine lv_dload_n hx hb dX2_observer_54 rfl (lv_at hl 2 rfl) ?_
        refine lv_aload_n hx hb dX2_observer_55 rfl (lv_at hl 0 rfl) ?_
        refine va_get (D := (dC, dI)) (ci := 2) (v := .double ea) (C := RX2) (T := TX2) (N := 13) hx hb hts hin2 hown hK hP 0 rfl rfl 9 (by decide) (hts (.fieldLink RX2 184 "SkyAlmanacModel" "east" "D") (by decide +kernel)) (fun _ h9 => h9) rfl dX2_observer_56 ?_
        refine zd_l_eq (tgt := 67) hx hb dX2_observer_59 dX2_observer_60 (by decide) (fun c_11 => ?_) (fun c_11 => ?_)
        · refine lv_iconst (v := 0) hx hb dX2_observer_67 (by decide) ?_
          refine lv_istore (lv' := [(5, .int 0), (0, .ref am), (1, .double x1), (3, .double x2)]) hx hb dX2_observer_68 hl (by decide) rfl (fun ls hl => ?_)
          refine lv_aload_n hx hb dX2_observer_70 rfl (lv_at hl 1 rfl) ?_
          refine lv_dload_n hx hb dX2_observer_71 rfl (lv_at hl 2 rfl) ?_
          refine va_put (D := (dC, dI)) (ci := 2) (v := .double x1) (ty := .double) (C := RX2) (T := TX2) (N := 13) hx hb hts hin2 tyX2 tyX2_ok nmX2 hown hK hP hD hS 0 rfl rfl 8 (by decide) (hts (.fieldLink RX2 180 "SkyAlmanacModel" "latitude" "D") (by decide +kernel)) (fun _ h9 => h9) rfl (by decide +kernel) rfl rfl (Nat.le_of_ble_eq_true rfl) dX2_observer_72 (fun H locs hP hD hS => ?_)
          have hP : va_P (dC, dI) vwCl [(am, .inr (2, [.int 0, .int wo, .int fu, .ref gs, .ref go, .ref gt, .ref gp, .ref gw, .double x1, .double ea, .ref gl, .int ln, .int fd]))] H := hP
          have hD : va_D A [(am, .inr (2, [.int 0, .int wo, .int fu, .ref gs, .ref go, .ref gt, .ref gp, .ref gw, .double x1, .double ea, .ref gl, .int ln, .int fd]))] := hD
          refine lv_aload_n hx hb dX2_observer_75 rfl (lv_at hl 1 rfl) ?_
          refine lv_dload_n hx hb dX2_observer_76 rfl (lv_at hl 3 rfl) ?_
          refine va_put (D := (dC, dI)) (ci := 2) (v := .double x2) (ty := .double) (C := RX2) (T := TX2) (N := 13) hx hb hts hin2 tyX2 tyX2_ok nmX2 hown hK hP hD hS 0 rfl rfl 9 (by decide) (hts (.fieldLink RX2 184 "SkyAlmanacModel" "east" "D") (by decide +kernel)) (fun _ h9 => h9) rfl (by decide +kernel) rfl rfl (Nat.le_of_ble_eq_true rfl) dX2_observer_77 (fun H locs hP hD hS => ?_)
          have hP : va_P (dC, dI) vwCl [(am, .inr (2, [.int 0, .int wo, .int fu, .ref gs, .ref go, .ref gt, .ref gp, .ref gw, .double x1, .double x2, .ref gl, .int ln, .int fd]))] H := hP
          have hD : va_D A [(am, .inr (2, [.int 0, .int wo, .int fu, .ref gs, .ref go, .ref gt, .ref gp, .ref gw, .double x1, .double x2, .ref gl, .int ln, .int fd]))] := hD
          refine lv_iload hx hb dX2_observer_80 (lv_at hl 0 rfl) ?_
          have e0 : f_X2_observer la ea x1 x2 = (0, 0) := by unfold f_X2_observer; rw [if_neg c_3, if_neg c_9, if_pos c_10, if_pos c_11]
          have e1 : (f_X2_observer la ea x1 x2).2 = 0 := by rw [e0]
          have hP : va_P (dC, dI) vwCl [(am, .inr (2, [.int ((f_X2_observer la ea x1 x2).2), .int wo, .int fu, .ref gs, .ref go, .ref gt, .ref gp, .ref gw, .double (if (f_X2_observer la ea x1 x2).2 = 0 then x1 else la), .double (if (f_X2_observer la ea x1 x2).2 = 0 then x2 else ea), .ref gl, .int ln, .int fd]))] H := by simp only [if_pos e1]; rw [e1]; exact hP
          have hD : va_D A [(am, .inr (2, [.int ((f_X2_observer la ea x1 x2).2), .int wo, .int fu, .ref gs, .ref go, .ref gt, .ref gp, .ref gw, .double (if (f_X2_observer la ea x1 x2).2 = 0 then x1 else la), .double (if (f_X2_observer la ea x1 x2).2 = 0 then x2 else ea), .ref gl, .int ln, .int fd]))] := by simp only [if_pos e1]; rw [e1]; exact hD
          exact W.zret hx hb hr rfl (fun t ht hW => ⟨⟨_, (), rfl, (congrArg Prod.fst e0), ⟨by rw [ht]; exact hP, hD⟩⟩, hS.F ht⟩) hS.2.2 dX2_observer_82
        · refine lv_iconst (v := 1) hx hb dX2_observer_63 (by decide) ?_
          refine lv_goto (tgt := 68) hx hb dX2_observer_64 (by decide) ?_
          refine lv_istore (lv' := [(5, .int 1), (0, .ref am), (1, .double x1), (3, .double x2)]) hx hb dX2_observer_68 hl (by decide) rfl (fun ls hl => ?_)
          refine lv_aload_n hx hb dX2_observer_70 rfl (lv_at hl 1 rfl) ?_
          refine lv_dload_n hx hb dX2_observer_71 rfl (lv_at hl 2 rfl) ?_
          refine va_put (D := (dC, dI)) (ci := 2) (v := .double x1) (ty := .double) (C := RX2) (T := TX2) (N := 13) hx hb hts hin2 tyX2 tyX2_ok nmX2 hown hK hP hD hS 0 rfl rfl 8 (by decide) (hts (.fieldLink RX2 180 "SkyAlmanacModel" "latitude" "D") (by decide +kernel)) (fun _ h9 => h9) rfl (by decide +kernel) rfl rfl (Nat.le_of_ble_eq_true rfl) dX2_observer_72 (fun H locs hP hD hS => ?_)
          have hP : va_P (dC, dI) vwCl [(am, .inr (2, [.int 0, .int wo, .int fu, .ref gs, .ref go, .ref gt, .ref gp, .ref gw, .double x1, .double ea, .ref gl, .int ln, .int fd]))] H := hP
          have hD : va_D A [(am, .inr (2, [.int 0, .int wo, .int fu, .ref gs, .ref go, .ref gt, .ref gp, .ref gw, .double x1, .double ea, .ref gl, .int ln, .int fd]))] := hD
          refine lv_aload_n hx hb dX2_observer_75 rfl (lv_at hl 1 rfl) ?_
          refine lv_dload_n hx hb dX2_observer_76 rfl (lv_at hl 3 rfl) ?_
          refine va_put (D := (dC, dI)) (ci := 2) (v := .double x2) (ty := .double) (C := RX2) (T := TX2) (N := 13) hx hb hts hin2 tyX2 tyX2_ok nmX2 hown hK hP hD hS 0 rfl rfl 9 (by decide) (hts (.fieldLink RX2 184 "SkyAlmanacModel" "east" "D") (by decide +kernel)) (fun _ h9 => h9) rfl (by decide +kernel) rfl rfl (Nat.le_of_ble_eq_true rfl) dX2_observer_77 (fun H locs hP hD hS => ?_)
          have hP : va_P (dC, dI) vwCl [(am, .inr (2, [.int 0, .int wo, .int fu, .ref gs, .ref go, .ref gt, .ref gp, .ref gw, .double x1, .double x2, .ref gl, .int ln, .int fd]))] H := hP
          have hD : va_D A [(am, .inr (2, [.int 0, .int wo, .int fu, .ref gs, .ref go, .ref gt, .ref gp, .ref gw, .double x1, .double x2, .ref gl, .int ln, .int fd]))] := hD
          refine lv_iload hx hb dX2_observer_80 (lv_at hl 0 rfl) ?_
          have e0 : f_X2_observer la ea x1 x2 = (1, 0) := by unfold f_X2_observer; rw [if_neg c_3, if_neg c_9, if_pos c_10, if_neg c_11]
          have e1 : (f_X2_observer la ea x1 x2).2 = 0 := by rw [e0]
          have hP : va_P (dC, dI) vwCl [(am, .inr (2, [.int ((f_X2_observer la ea x1 x2).2), .int wo, .int fu, .ref gs, .ref go, .ref gt, .ref gp, .ref gw, .double (if (f_X2_observer la ea x1 x2).2 = 0 then x1 else la), .double (if (f_X2_observer la ea x1 x2).2 = 0 then x2 else ea), .ref gl, .int ln, .int fd]))] H := by simp only [if_pos e1]; rw [e1]; exact hP
          have hD : va_D A [(am, .inr (2, [.int ((f_X2_observer la ea x1 x2).2), .int wo, .int fu, .ref gs, .ref go, .ref gt, .ref gp, .ref gw, .double (if (f_X2_observer la ea x1 x2).2 = 0 then x1 else la), .double (if (f_X2_observer la ea x1 x2).2 = 0 then x2 else ea), .ref gl, .int ln, .int fd]))] := by simp only [if_pos e1]; rw [e1]; exact hD
          exact W.zret hx hb hr rfl (fun t ht hW => ⟨⟨_, (), rfl, (congrArg Prod.fst e0), ⟨by rw [ht]; exact hP, hD⟩⟩, hS.F ht⟩) hS.2.2 dX2_observer_82
    · refine lv_aload_n hx hb dX2_observer_31 rfl (lv_at hl 0 rfl) ?_
      refine lv_iconst (v := 1) hx hb dX2_observer_32 (by decide) ?_
      have hPc := hP.sub (ws' := [(am, .inr (2, [.int 0, .int wo, .int fu, .ref gs, .ref go, .ref gt, .ref gp, .ref gw, .double la, .double ea, .ref gl, .int ln, .int fd]))]) [0] rfl
      have hDc := hD.sub (ws' := [(am, .inr (2, [.int 0, .int wo, .int fu, .ref gs, .ref go, .ref gt, .ref gp, .ref gw, .double la, .double ea, .ref gl, .int ln, .int fd]))]) [0] (by decide) rfl
      have hFc := va_free (wc := [(am, .inr (2, [.int 0, .int wo, .int fu, .ref gs, .ref go, .ref gt, .ref gp, .ref gw, .double la, .double ea, .ref gl, .int ln, .int fd]))]) hD hS hA [0] rfl
      refine va_calli (va_runV (As := [.int 1]) (rest := []) ⟨hx, hb, hml, hown, hts⟩ (k_X2_fail l hst dC dI cA tm tt _ am gs go gt gp gw gl 0 wo fu la ea ln fd 1) (cwV 1 hts gX2_observer_X2_fail rfl rfl rfl (by decide +kernel) ⟨Nat.le_of_ble_eq_true rfl, Nat.le_of_ble_eq_true rfl⟩) ⟨PcW.blind, va_recv hK hPc (ci := 2) (q0 := 0) rfl rfl, PcW.give hPc hK hDc hE hS hFc⟩ rfl rfl hl.1 rfl (lv_room (Nat.le_of_ble_eq_true rfl)) dX2_observer_33 ⟨Nat.le_of_ble_eq_true rfl, Nat.le_of_ble_eq_true rfl⟩) hS (fun q _ h => hFc q h) hFc (fun v_12 u t H locs ht hvm hp_13 hB hz1 hk1 hS => ?_)
      obtain ⟨hP1, hD1⟩ := hB
      rw [ht] at hP1
      obtain ⟨hP, hD⟩ := va_join (wr := []) (w1 := [(am, .inr (2, [.int 1, .int wo, .int fu, .ref gs, .ref go, .ref gt, .ref gp, .ref gw, .double la, .double ea, .ref gl, .int ln, .int fd]))]) hP hD [0] [] rfl rfl (by decide) (by decide) hk1 hFc hP1 hD1
      have hP := hP.sub (ws' := [(am, .inr (2, [.int 1, .int wo, .int fu, .ref gs, .ref go, .ref gt, .ref gp, .ref gw, .double la, .double ea, .ref gl, .int ln, .int fd]))]) [0] rfl
      have hD := hD.sub (ws' := [(am, .inr (2, [.int 1, .int wo, .int fu, .ref gs, .ref go, .ref gt, .ref gp, .ref gw, .double la, .double ea, .ref gl, .int ln, .int fd]))]) [0] (by decide) rfl
      obtain rfl := hp_13
      refine lv_if_le (tgt := 43) hx hb dX2_observer_36 (by decide) (fun _ => ?_) (fun c_14 => absurd c_14 (by decide))
      refine lv_iconst (v := 0) hx hb dX2_observer_43 (by decide) ?_
      have e0 : f_X2_observer la ea x1 x2 = (0, 1) := by unfold f_X2_observer; rw [if_neg c_3, if_pos c_9]
      have e1 : (f_X2_observer la ea x1 x2).2 = 1 := by rw [e0]
      have hP : va_P (dC, dI) vwCl [(am, .inr (2, [.int ((f_X2_observer la ea x1 x2).2), .int wo, .int fu, .ref gs, .ref go, .ref gt, .ref gp, .ref gw, .double (if (f_X2_observer la ea x1 x2).2 = 0 then x1 else la), .double (if (f_X2_observer la ea x1 x2).2 = 0 then x2 else ea), .ref gl, .int ln, .int fd]))] H := by simp only [if_neg (show ¬ (f_X2_observer la ea x1 x2).2 = 0 by rw [e1]; decide)]; rw [e1]; exact hP
      have hD : va_D A [(am, .inr (2, [.int ((f_X2_observer la ea x1 x2).2), .int wo, .int fu, .ref gs, .ref go, .ref gt, .ref gp, .ref gw, .double (if (f_X2_observer la ea x1 x2).2 = 0 then x1 else la), .double (if (f_X2_observer la ea x1 x2).2 = 0 then x2 else ea), .ref gl, .int ln, .int fd]))] := by simp only [if_neg (show ¬ (f_X2_observer la ea x1 x2).2 = 0 by rw [e1]; decide)]; rw [e1]; exact hD
      exact W.zret hx hb hr rfl (fun t ht hW => ⟨⟨_, (), rfl, (congrArg Prod.fst e0), ⟨by rw [ht]; exact hP, hD⟩⟩, hS.F ht⟩) hS.2.2 dX2_observer_44
