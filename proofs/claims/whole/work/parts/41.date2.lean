theorem dt_bad {x1 : Int32} {x2 : Int64} {x3 : Int32} (h : x1 < 0 ∨ 2 < x1 ∨ x2 < -400000000 ∨ 400000000 < x2 ∨ x3 < 0 ∨ 3 < x3) : f_X1_date x1 x2 x3 = .error xIA := by
  have w1 : f_X1_isWholeWithin (Int32.toInt64 x1) 0 2 = 0 ↔ (x1 < 0 ∨ 2 < x1) := ww32 rfl rfl
  have w3 : f_X1_isWholeWithin (Int32.toInt64 x3) 0 3 = 0 ↔ (x3 < 0 ∨ 3 < x3) := ww32 rfl rfl
  have w2 : (x2 < -400000000 ∨ 400000000 < x2) → f_X1_isWholeWithin x2 (-400000000) 400000000 = 0 := by
    intro h
    rw [ww_eq, if_neg]
    rw [Int64.lt_iff_toInt_lt, Int64.lt_iff_toInt_lt] at h
    omega
  unfold f_X1_date
  by_cases c1 : f_X1_isWholeWithin (Int32.toInt64 x1) 0 2 = 0
  · rw [if_pos c1]
  · rw [if_neg c1]
    by_cases c2 : f_X1_isWholeWithin x2 (-400000000) 400000000 = 0
    · rw [if_pos c2]
    · rw [if_neg c2]
      by_cases c3 : f_X1_isWholeWithin (Int32.toInt64 x3) 0 3 = 0
      · rw [if_pos c3]
      · exfalso
        rcases h with h | h | h | h | h | h
        · exact c1 (w1.mpr (Or.inl h))
        · exact c1 (w1.mpr (Or.inr h))
        · exact c2 (w2 (Or.inl h))
        · exact c2 (w2 (Or.inr h))
        · exact c3 (w3.mpr (Or.inl h))
        · exact c3 (w3.mpr (Or.inr h))
theorem b64 {x : Int64} (h1 : ¬ x < -400000000) (h2 : ¬ 400000000 < x) : -400000000 ≤ x.toInt ∧ x.toInt ≤ 400000000 := by
  rw [Int64.lt_iff_toInt_lt] at h1 h2
  have : (-400000000 : Int64).toInt = -400000000 := rfl
  have : (400000000 : Int64).toInt = 400000000 := rfl
  omega
theorem yr_bad {y : Int32} (h : Int32.toInt64 y < -1000000 ∨ 1000000 < Int32.toInt64 y) : f_X1_isWholeWithin (Int32.toInt64 y) (-1000000) 1000000 = 0 := by
  rw [ww_eq, if_neg]
  rw [Int64.lt_iff_toInt_lt, Int64.lt_iff_toInt_lt] at h
  omega
theorem yr_ok {y : Int32} (h1 : ¬ Int32.toInt64 y < -1000000) (h2 : ¬ 1000000 < Int32.toInt64 y) : ¬ f_X1_isWholeWithin (Int32.toInt64 y) (-1000000) 1000000 = 0 := fun h => by
  have := ww_out h
  rw [Int64.lt_iff_toInt_lt] at h1 h2
  omega
theorem l2i_i2l (y : Int32) : Int64.toInt32 (Int32.toInt64 y) = y := by
  refine Int32.toInt_inj.mp ?_
  have h1 := y.le_toInt
  have h2 := y.toInt_lt
  have e := Int32.toInt_toInt64 y
  rw [l2i_toInt (by rw [e]; omega) (by rw [e]; omega), e]
theorem nlt64 {x y : Int64} (h : ¬ x < y) : y ≤ x := by
  rw [Int64.lt_iff_toInt_lt] at h; rw [Int64.le_iff_toInt_le]; omega
theorem le64n {x y : Int64} (h : x ≤ y) : ¬ y < x := by
  rw [Int64.le_iff_toInt_le] at h; rw [Int64.lt_iff_toInt_lt]; omega
theorem nle64 {x y : Int64} (h : ¬ x ≤ y) : y < x := by
  rw [Int64.le_iff_toInt_le] at h; rw [Int64.lt_iff_toInt_lt]; omega
/-- one month on -/
theorem mo_on {r : Int32} {x2 rs : Int64} (hd : -400000000 ≤ x2.toInt ∧ x2.toInt ≤ 400000000) {j : Nat} (hj : j < 12) (hrs : rs.toInt = x2.toInt - nyI r (dtY r x2).toInt - cum (f_X1_isLeap r (dtY r x2)) j) (c : ¬ rs < Int32.toInt64 (f_X2_length r (YOF r x2) (nI (j + 1)))) :
    j + 1 < 12 ∧ (rs - Int32.toInt64 (f_X2_length r (YOF r x2) (nI (j + 1)))).toInt = x2.toInt - nyI r (dtY r x2).toInt - cum (f_X1_isLeap r (dtY r x2)) (j + 1) ∧ cum (f_X1_isLeap r (dtY r x2)) (j + 1) ≤ x2.toInt - nyI r (dtY r x2).toInt := by
  obtain ⟨-, -, -, e3, -⟩ := dt_env (r := r) hd
  obtain ⟨l1, l2, l3⟩ := dt_len (r := r) hd hj
  have hl := lp_02 (r := r) (y := dtY r x2)
  have hc := cum_le (r := r) (y := dtY r x2) hj
  rw [Int64.lt_iff_toInt_lt, l1] at c
  refine ⟨?_, ?_, by omega⟩
  · rcases Nat.lt_or_ge (j + 1) 12 with h | h
    · exact h
    · have ej : j = 11 := by omega
      subst ej
      have : cum (f_X1_isLeap r (dtY r x2)) (11 + 1) = 365 + (f_X1_isLeap r (dtY r x2)).toInt := cum_12 (f_X1_isLeap r (dtY r x2))
      omega
  · rw [s64 (by rw [l1]; omega) (by rw [l1]; omega), l1]; omega
theorem mo_end {r : Int32} {x2 rs : Int64} (hd : -400000000 ≤ x2.toInt ∧ x2.toInt ≤ 400000000) {j : Nat} (hj : j < 12) (hrs : rs.toInt = x2.toInt - nyI r (dtY r x2).toInt - cum (f_X1_isLeap r (dtY r x2)) j) (c : rs < Int32.toInt64 (f_X2_length r (YOF r x2) (nI (j + 1)))) : x2.toInt - nyI r (dtY r x2).toInt < cum (f_X1_isLeap r (dtY r x2)) (j + 1) := by
  obtain ⟨l1, l2, l3⟩ := dt_len (r := r) hd hj
  rw [Int64.lt_iff_toInt_lt, l1] at c
  omega
theorem x3_3 {x : Int32} (h1 : ¬ x < 0) (h2 : x ≤ 3) (h3 : ¬ x = 0) (h4 : ¬ x = 1) (h5 : ¬ x = 2) : x = 3 := by
  have e : ∀ y : Int32, x.toInt = y.toInt → x = y := fun y h => Int32.toInt_inj.mp h
  rw [Int32.lt_iff_toInt_lt] at h1
  rw [Int32.le_iff_toInt_le] at h2
  have : (3 : Int32).toInt = 3 := rfl
  have : (0 : Int32).toInt = 0 := rfl
  have : x.toInt = 0 ∨ x.toInt = 1 ∨ x.toInt = 2 ∨ x.toInt = 3 := by omega
  rcases this with h | h | h | h
  · exact absurd (e 0 h) h3
  · exact absurd (e 1 h) h4
  · exact absurd (e 2 h) h5
  · exact e 3 h
set_option maxHeartbeats 4000000 in
set_option maxRecDepth 100000 in
theorem k_X2_date (l : Launch) (hst : l.stackTraces = false) (dC : Nat → ClassId) (dI : Nat → Nat → Nat) (cA : Nat → ClassId) (tm tt sz : Nat) (am gs go gt gp gw gl : Nat) (th wo fu : Int32) (la ea : UInt64) (ln fd : Int32) (x1 : Int32) (x2 : Int64) (x3 : Int32)  : Met l yX2_date wsX2_date ({ frames := 4, cells := 0, slots := 0, locals := 93 }) (PcW dC dI cA tm tt sz [.ref am, .int x1, .long x2, .int x3] [(am, .inr (2, [.int th, .int wo, .int fu, .ref gs, .ref go, .ref gt, .ref gp, .ref gw, .double la, .double ea, .ref gl, .int ln, .int fd]))]) (va_Qi (fun r (_ : Unit) => ∀ v, f_X1_date x1 x2 x3 = .ok v → r = v) (fun _ t => WB dC dI (va_A [(am, .inr (2, [.int th, .int wo, .int fu, .ref gs, .ref go, .ref gt, .ref gp, .ref gw, .double la, .double ea, .ref gl, .int ln, .int fd]))] sz) [(am, .inr (2, [.int (cd1 (f_X1_date x1 x2 x3)), .int wo, .int fu, .ref gs, .ref go, .ref gt, .ref gp, .ref gw, .double la, .double ea, .ref gl, .int ln, .int fd]))] t) (va_A [(am, .inr (2, [.int th, .int wo, .int fu, .ref gs, .ref go, .ref gt, .ref gp, .ref gw, .double la, .double ea, .ref gl, .int ln, .int fd]))] sz)) 0 0 (va_A [(am, .inr (2, [.int th, .int wo, .int fu, .ref gs, .ref go, .ref gt, .ref gp, .ref gw, .double la, .double ea, .ref gl, .int ln, .int fd]))] sz) := by
  refine Met.ofW (cc := cX2_date) (maxL := 12) (ret := (some .int)) (by decide) rfl ?_
  intro p e s m args below meth c s₁ B hml hv
  obtain ⟨rfl, hsz, hP, hK, hD0, hE⟩ := hv
  subst hsz
  have hD := hD0.self (sz := s.heap.size)
  generalize hAe : va_A [(am, .inr (2, [.int th, .int wo, .int fu, .ref gs, .ref go, .ref gt, .ref gp, .ref gw, .double la, .double ea, .ref gl, .int ln, .int fd]))] s.heap.size = A at hD hE ⊢
  have hA : ∀ q : Nat, s.heap.size ≤ q → A q := fun q h => by rw [← hAe]; exact Or.inr h
  have hS : va_S A s.heap s.heap [] := va_S.rf
  have hP : va_P (dC, dI) vwCl [(am, .inr (2, [.int th, .int wo, .int fu, .ref gs, .ref go, .ref gt, .ref gp, .ref gw, .double la, .double ea, .ref gl, .int ln, .int fd]))] s.heap := hP
  have hx := B.exec
  have hb := B.bytes
  have hr := B.returns
  have hts := atoms_spec (ws := wsX2_date) B.pre
  have hown : s.vm.findClass RX2 = some m.cls := findClass_of_methodNamed B.named
  have hlocks := B.notSynchronized
  have hl := lv_entry ([.ref am, .int x1, .long x2, .int x3]) (n := 12) (Nat.le_of_ble_eq_true rfl)
  rw [lg_entry_eq]
  generalize (lg_sl ([.ref am, .int x1, .long x2, .int x3]) ++ List.replicate (12 - (lg_sl ([.ref am, .int x1, .long x2, .int x3])).length) Slot.unset).toArray = ls at hl ⊢
  have hl : lv_has ls 12 [(0, .ref am), (1, .int x1), (2, .long x2), (4, .int x3)] := hl
  have hin2 : ∀ w ∈ u_ws RX2 TX2 13, w ∈ wsX2_date := by decide +kernel
  refine W.gen (fun QQ hQQ => ?_)

  refine lv_aload_n hx hb dX2_date_0 rfl (lv_at hl 0 rfl) ?_
  refine lv_iconst (v := 0) hx hb dX2_date_1 (by decide) ?_
  refine va_put (D := (dC, dI)) (ci := 2) (v := .int 0) (ty := .int) (C := RX2) (T := TX2) (N := 13) hx hb hts hin2 tyX2 tyX2_ok nmX2 hown hK hP hD hS 0 rfl rfl 0 (by decide) (hts (.fieldLink RX2 30 "SkyAlmanacModel" "thrown" "I") (by decide +kernel)) (fun _ h9 => h9) rfl (by decide +kernel) rfl rfl (Nat.le_of_ble_eq_true rfl) dX2_date_2 (fun H locs hP hD hS => ?_)
  have hP : va_P (dC, dI) vwCl [(am, .inr (2, [.int 0, .int wo, .int fu, .ref gs, .ref go, .ref gt, .ref gp, .ref gw, .double la, .double ea, .ref gl, .int ln, .int fd]))] H := hP
  have hD : va_D A [(am, .inr (2, [.int 0, .int wo, .int fu, .ref gs, .ref go, .ref gt, .ref gp, .ref gw, .double la, .double ea, .ref gl, .int ln, .int fd]))] := hD
  refine lv_iload_n hx hb dX2_date_5 rfl (lv_at hl 1 rfl) ?_
  refine lv_if_lt (tgt := 41) hx hb dX2_date_6 (by decide) (fun c_1 => ?_) (fun c_1 => ?_)
  · have e0 : f_X1_date x1 x2 x3 = .error xIA := dt_bad (Or.inl c_1)
    refine lv_aload_n hx hb dX2_date_41 rfl (lv_at hl 0 rfl) ?_
    refine lv_iconst (v := 1) hx hb dX2_date_42 (by decide) ?_
    have hPc := hP.sub (ws' := [(am, .inr (2, [.int 0, .int wo, .int fu, .ref gs, .ref go, .ref gt, .ref gp, .ref gw, .double la, .double ea, .ref gl, .int ln, .int fd]))]) [0] rfl
    have hDc := hD.sub (ws' := [(am, .inr (2, [.int 0, .int wo, .int fu, .ref gs, .ref go, .ref gt, .ref gp, .ref gw, .double la, .double ea, .ref gl, .int ln, .int fd]))]) [0] (by decide) rfl
    have hFc := va_free (wc := [(am, .inr (2, [.int 0, .int wo, .int fu, .ref gs, .ref go, .ref gt, .ref gp, .ref gw, .double la, .double ea, .ref gl, .int ln, .int fd]))]) hD hS hA [0] rfl
    refine va_calli (va_runV (As := [.int 1]) (rest := []) ⟨hx, hb, hml, hown, hts⟩ (k_X2_fail l hst dC dI cA tm tt _ am gs go gt gp gw gl 0 wo fu la ea ln fd 1) (cwV 1 hts gX2_date_X2_fail rfl rfl rfl (by decide +kernel) ⟨Nat.le_of_ble_eq_true rfl, Nat.le_of_ble_eq_true rfl⟩) ⟨PcW.blind, va_recv hK hPc (ci := 2) (q0 := 0) rfl rfl, PcW.give hPc hK hDc hE hS hFc⟩ rfl rfl hl.1 rfl (lv_room (Nat.le_of_ble_eq_true rfl)) dX2_date_43 ⟨Nat.le_of_ble_eq_true rfl, Nat.le_of_ble_eq_true rfl⟩) hS (fun q _ h => hFc q h) hFc (fun v_2 u t H locs ht hvm hp_3 hB hz1 hk1 hS => ?_)
    obtain ⟨hP1, hD1⟩ := hB
    rw [ht] at hP1
    obtain ⟨hP, hD⟩ := va_join (wr := []) (w1 := [(am, .inr (2, [.int 1, .int wo, .int fu, .ref gs, .ref go, .ref gt, .ref gp, .ref gw, .double la, .double ea, .ref gl, .int ln, .int fd]))]) hP hD [0] [] rfl rfl (by decide) (by decide) hk1 hFc hP1 hD1
    have hP := hP.sub (ws' := [(am, .inr (2, [.int 1, .int wo, .int fu, .ref gs, .ref go, .ref gt, .ref gp, .ref gw, .double la, .double ea, .ref gl, .int ln, .int fd]))]) [0] rfl
    have hD := hD.sub (ws' := [(am, .inr (2, [.int 1, .int wo, .int fu, .ref gs, .ref go, .ref gt, .ref gp, .ref gw, .double la, .double ea, .ref gl, .int ln, .int fd]))]) [0] (by decide) rfl
    obtain rfl := hp_3
    have e1 : cd1 (f_X1_date x1 x2 x3) = 1 := by rw [e0]; rfl
    have hP : va_P (dC, dI) vwCl [(am, .inr (2, [.int (cd1 (f_X1_date x1 x2 x3)), .int wo, .int fu, .ref gs, .ref go, .ref gt, .ref gp, .ref gw, .double la, .double ea, .ref gl, .int ln, .int fd]))] H := by rw [e1]; exact hP
    have hD : va_D A [(am, .inr (2, [.int (cd1 (f_X1_date x1 x2 x3)), .int wo, .int fu, .ref gs, .ref go, .ref gt, .ref gp, .ref gw, .double la, .double ea, .ref gl, .int ln, .int fd]))] := by rw [e1]; exact hD
    subst hQQ
    exact W.iret hx hb hr (fun t ht hW => ⟨⟨_, (), rfl, (fun v hv => by rw [e0] at hv; cases hv), ⟨by rw [ht]; exact hP, hD⟩⟩, hS.F ht⟩) hS.2.2 dX2_date_46
  · refine lv_iload_n hx hb dX2_date_9 rfl (lv_at hl 1 rfl) ?_
    refine lv_iconst (v := 2) hx hb dX2_date_10 (by decide) ?_
    refine lv_icmp_gt (tgt := 41) hx hb dX2_date_11 (by decide) (fun c_4 => ?_) (fun c_4 => ?_)
    · have e0 : f_X1_date x1 x2 x3 = .error xIA := dt_bad (Or.inr (Or.inl c_4))
      refine lv_aload_n hx hb dX2_date_41 rfl (lv_at hl 0 rfl) ?_
      refine lv_iconst (v := 1) hx hb dX2_date_42 (by decide) ?_
      have hPc := hP.sub (ws' := [(am, .inr (2, [.int 0, .int wo, .int fu, .ref gs, .ref go, .ref gt, .ref gp, .ref gw, .double la, .double ea, .ref gl, .int ln, .int fd]))]) [0] rfl
      have hDc := hD.sub (ws' := [(am, .inr (2, [.int 0, .int wo, .int fu, .ref gs, .ref go, .ref gt, .ref gp, .ref gw, .double la, .double ea, .ref gl, .int ln, .int fd]))]) [0] (by decide) rfl
      have hFc := va_free (wc := [(am, .inr (2, [.int 0, .int wo, .int fu, .ref gs, .ref go, .ref gt, .ref gp, .ref gw, .double la, .double ea, .ref gl, .int ln, .int fd]))]) hD hS hA [0] rfl
      refine va_calli (va_runV (As := [.int 1]) (rest := []) ⟨hx, hb, hml, hown, hts⟩ (k_X2_fail l hst dC dI cA tm tt _ am gs go gt gp gw gl 0 wo fu la ea ln fd 1) (cwV 1 hts gX2_date_X2_fail rfl rfl rfl (by decide +kernel) ⟨Nat.le_of_ble_eq_true rfl, Nat.le_of_ble_eq_true rfl⟩) ⟨PcW.blind, va_recv hK hPc (ci := 2) (q0 := 0) rfl rfl, PcW.give hPc hK hDc hE hS hFc⟩ rfl rfl hl.1 rfl (lv_room (Nat.le_of_ble_eq_true rfl)) dX2_date_43 ⟨Nat.le_of_ble_eq_true rfl, Nat.le_of_ble_eq_true rfl⟩) hS (fun q _ h => hFc q h) hFc (fun v_5 u t H locs ht hvm hp_6 hB hz1 hk1 hS => ?_)
      obtain ⟨hP1, hD1⟩ := hB
      rw [ht] at hP1
      obtain ⟨hP, hD⟩ := va_join (wr := []) (w1 := [(am, .inr (2, [.int 1, .int wo, .int fu, .ref gs, .ref go, .ref gt, .ref gp, .ref gw, .double la, .double ea, .ref gl, .int ln, .int fd]))]) hP hD [0] [] rfl rfl (by decide) (by decide) hk1 hFc hP1 hD1
      have hP := hP.sub (ws' := [(am, .inr (2, [.int 1, .int wo, .int fu, .ref gs, .ref go, .ref gt, .ref gp, .ref gw, .double la, .double ea, .ref gl, .int ln, .int fd]))]) [0] rfl
      have hD := hD.sub (ws' := [(am, .inr (2, [.int 1, .int wo, .int fu, .ref gs, .ref go, .ref gt, .ref gp, .ref gw, .double la, .double ea, .ref gl, .int ln, .int fd]))]) [0] (by decide) rfl
      obtain rfl := hp_6
      have e1 : cd1 (f_X1_date x1 x2 x3) = 1 := by rw [e0]; rfl
      have hP : va_P (dC, dI) vwCl [(am, .inr (2, [.int (cd1 (f_X1_date x1 x2 x3)), .int wo, .int fu, .ref gs, .ref go, .ref gt, .ref gp, .ref gw, .double la, .double ea, .ref gl, .int ln, .int fd]))] H := by rw [e1]; exact hP
      have hD : va_D A [(am, .inr (2, [.int (cd1 (f_X1_date x1 x2 x3)), .int wo, .int fu, .ref gs, .ref go, .ref gt, .ref gp, .ref gw, .double la, .double ea, .ref gl, .int ln, .int fd]))] := by rw [e1]; exact hD
      subst hQQ
      exact W.iret hx hb hr (fun t ht hW => ⟨⟨_, (), rfl, (fun v hv => by rw [e0] at hv; cases hv), ⟨by rw [ht]; exact hP, hD⟩⟩, hS.F ht⟩) hS.2.2 dX2_date_46
    · refine lv_lload_n hx hb dX2_date_14 rfl (lv_at hl 2 rfl) ?_
      refine lv_ldc2 hx hb hown (hts (.constantLong RX2 99 (-400000000)) (by decide +kernel)) dX2_date_15 ?_
      refine zl_lt (tgt := 41) hx hb dX2_date_18 dX2_date_19 (by decide) (fun c_7 => ?_) (fun c_7 => ?_)
      · have e0 : f_X1_date x1 x2 x3 = .error xIA := dt_bad (Or.inr (Or.inr (Or.inl c_7)))
        refine lv_aload_n hx hb dX2_date_41 rfl (lv_at hl 0 rfl) ?_
        refine lv_iconst (v := 1) hx hb dX2_date_42 (by decide) ?_
        have hPc := hP.sub (ws' := [(am, .inr (2, [.int 0, .int wo, .int fu, .ref gs, .ref go, .ref gt, .ref gp, .ref gw, .double la, .double ea, .ref gl, .int ln, .int fd]))]) [0] rfl
        have hDc := hD.sub (ws' := [(am, .inr (2, [.int 0, .int wo, .int fu, .ref gs, .ref go, .ref gt, .ref gp, .ref gw, .double la, .double ea, .ref gl, .int ln, .int fd]))]) [0] (by decide) rfl
        have hFc := va_free (wc := [(am, .inr (2, [.int 0, .int wo, .int fu, .ref gs, .ref go, .ref gt, .ref gp, .ref gw, .double la, .double ea, .ref gl, .int ln, .int fd]))]) hD hS hA [0] rfl
        refine va_calli (va_runV (As := [.int 1]) (rest := []) ⟨hx, hb, hml, hown, hts⟩ (k_X2_fail l hst dC dI cA tm tt _ am gs go gt gp gw gl 0 wo fu la ea ln fd 1) (cwV 1 hts gX2_date_X2_fail rfl rfl rfl (by decide +kernel) ⟨Nat.le_of_ble_eq_true rfl, Nat.le_of_ble_eq_true rfl⟩) ⟨PcW.blind, va_recv hK hPc (ci := 2) (q0 := 0) rfl rfl, PcW.give hPc hK hDc hE hS hFc⟩ rfl rfl hl.1 rfl (lv_room (Nat.le_of_ble_eq_true rfl)) dX2_date_43 ⟨Nat.le_of_ble_eq_true rfl, Nat.le_of_ble_eq_true rfl⟩) hS (fun q _ h => hFc q h) hFc (fun v_8 u t H locs ht hvm hp_9 hB hz1 hk1 hS => ?_)
        obtain ⟨hP1, hD1⟩ := hB
        rw [ht] at hP1
        obtain ⟨hP, hD⟩ := va_join (wr := []) (w1 := [(am, .inr (2, [.int 1, .int wo, .int fu, .ref gs, .ref go, .ref gt, .ref gp, .ref gw, .double la, .double ea, .ref gl, .int ln, .int fd]))]) hP hD [0] [] rfl rfl (by decide) (by decide) hk1 hFc hP1 hD1
        have hP := hP.sub (ws' := [(am, .inr (2, [.int 1, .int wo, .int fu, .ref gs, .ref go, .ref gt, .ref gp, .ref gw, .double la, .double ea, .ref gl, .int ln, .int fd]))]) [0] rfl
        have hD := hD.sub (ws' := [(am, .inr (2, [.int 1, .int wo, .int fu, .ref gs, .ref go, .ref gt, .ref gp, .ref gw, .double la, .double ea, .ref gl, .int ln, .int fd]))]) [0] (by decide) rfl
        obtain rfl := hp_9
        have e1 : cd1 (f_X1_date x1 x2 x3) = 1 := by rw [e0]; rfl
        have hP : va_P (dC, dI) vwCl [(am, .inr (2, [.int (cd1 (f_X1_date x1 x2 x3)), .int wo, .int fu, .ref gs, .ref go, .ref gt, .ref gp, .ref gw, .double la, .double ea, .ref gl, .int ln, .int fd]))] H := by rw [e1]; exact hP
        have hD : va_D A [(am, .inr (2, [.int (cd1 (f_X1_date x1 x2 x3)), .int wo, .int fu, .ref gs, .ref go, .ref gt, .ref gp, .ref gw, .double la, .double ea, .ref gl, .int ln, .int fd]))] := by rw [e1]; exact hD
        subst hQQ
        exact W.iret hx hb hr (fun t ht hW => ⟨⟨_, (), rfl, (fun v hv => by rw [e0] at hv; cases hv), ⟨by rw [ht]; exact hP, hD⟩⟩, hS.F ht⟩) hS.2.2 dX2_date_46
      · refine lv_lload_n hx hb dX2_date_22 rfl (lv_at hl 2 rfl) ?_
        refine lv_ldc2 hx hb hown (hts (.constantLong RX2 101 (400000000)) (by decide +kernel)) dX2_date_23 ?_
        refine zl_gt (tgt := 41) hx hb dX2_date_26 dX2_date_27 (by decide) (fun c_10 => ?_) (fun c_10 => ?_)
        · have e0 : f_X1_date x1 x2 x3 = .error xIA := dt_bad (Or.inr (Or.inr (Or.inr (Or.inl c_10))))
          refine lv_aload_n hx hb dX2_date_41 rfl (lv_at hl 0 rfl) ?_
          refine lv_iconst (v := 1) hx hb dX2_date_42 (by decide) ?_
          have hPc := hP.sub (ws' := [(am, .inr (2, [.int 0, .int wo, .int fu, .ref gs, .ref go, .ref gt, .ref gp, .ref gw, .double la, .double ea, .ref gl, .int ln, .int fd]))]) [0] rfl
          have hDc := hD.sub (ws' := [(am, .inr (2, [.int 0, .int wo, .int fu, .ref gs, .ref go, .ref gt, .ref gp, .ref gw, .double la, .double ea, .ref gl, .int ln, .int fd]))]) [0] (by decide) rfl
          have hFc := va_free (wc := [(am, .inr (2, [.int 0, .int wo, .int fu, .ref gs, .ref go, .ref gt, .ref gp, .ref gw, .double la, .double ea, .ref gl, .int ln, .int fd]))]) hD hS hA [0] rfl
          refine va_calli (va_runV (As := [.int 1]) (rest := []) ⟨hx, hb, hml, hown, hts⟩ (k_X2_fail l hst dC dI cA tm tt _ am gs go gt gp gw gl 0 wo fu la ea ln fd 1) (cwV 1 hts gX2_date_X2_fail rfl rfl rfl (by decide +kernel) ⟨Nat.le_of_ble_eq_true rfl, Nat.le_of_ble_eq_true rfl⟩) ⟨PcW.blind, va_recv hK hPc (ci := 2) (q0 := 0) rfl rfl, PcW.give hPc hK hDc hE hS hFc⟩ rfl rfl hl.1 rfl (lv_room (Nat.le_of_ble_eq_true rfl)) dX2_date_43 ⟨Nat.le_of_ble_eq_true rfl, Nat.le_of_ble_eq_true rfl⟩) hS (fun q _ h => hFc q h) hFc (fun v_11 u t H locs ht hvm hp_12 hB hz1 hk1 hS => ?_)
          obtain ⟨hP1, hD1⟩ := hB
          rw [ht] at hP1
          obtain ⟨hP, hD⟩ := va_join (wr := []) (w1 := [(am, .inr (2, [.int 1, .int wo, .int fu, .ref gs, .ref go, .ref gt, .ref gp, .ref gw, .double la, .double ea, .ref gl, .int ln, .int fd]))]) hP hD [0] [] rfl rfl (by decide) (by decide) hk1 hFc hP1 hD1
          have hP := hP.sub (ws' := [(am, .inr (2, [.int 1, .int wo, .int fu, .ref gs, .ref go, .ref gt, .ref gp, .ref gw, .double la, .double ea, .ref gl, .int ln, .int fd]))]) [0] rfl
          have hD := hD.sub (ws' := [(am, .inr (2, [.int 1, .int wo, .int fu, .ref gs, .ref go, .ref gt, .ref gp, .ref gw, .double la, .double ea, .ref gl, .int ln, .int fd]))]) [0] (by decide) rfl
          obtain rfl := hp_12
          have e1 : cd1 (f_X1_date x1 x2 x3) = 1 := by rw [e0]; rfl
          have hP : va_P (dC, dI) vwCl [(am, .inr (2, [.int (cd1 (f_X1_date x1 x2 x3)), .int wo, .int fu, .ref gs, .ref go, .ref gt, .ref gp, .ref gw, .double la, .double ea, .ref gl, .int ln, .int fd]))] H := by rw [e1]; exact hP
          have hD : va_D A [(am, .inr (2, [.int (cd1 (f_X1_date x1 x2 x3)), .int wo, .int fu, .ref gs, .ref go, .ref gt, .ref gp, .ref gw, .double la, .double ea, .ref gl, .int ln, .int fd]))] := by rw [e1]; exact hD
          subst hQQ
          exact W.iret hx hb hr (fun t ht hW => ⟨⟨_, (), rfl, (fun v hv => by rw [e0] at hv; cases hv), ⟨by rw [ht]; exact hP, hD⟩⟩, hS.F ht⟩) hS.2.2 dX2_date_46
        · refine lv_iload hx hb dX2_date_30 (lv_at hl 3 rfl) ?_
          refine lv_if_lt (tgt := 41) hx hb dX2_date_32 (by decide) (fun c_13 => ?_) (fun c_13 => ?_)
          · have e0 : f_X1_date x1 x2 x3 = .error xIA := dt_bad (Or.inr (Or.inr (Or.inr (Or.inr (Or.inl c_13)))))
            refine lv_aload_n hx hb dX2_date_41 rfl (lv_at hl 0 rfl) ?_
            refine lv_iconst (v := 1) hx hb dX2_date_42 (by decide) ?_
            have hPc := hP.sub (ws' := [(am, .inr (2, [.int 0, .int wo, .int fu, .ref gs, .ref go, .ref gt, .ref gp, .ref gw, .double la, .double ea, .ref gl, .int ln, .int fd]))]) [0] rfl
            have hDc := hD.sub (ws' := [(am, .inr (2, [.int 0, .int wo, .int fu, .ref gs, .ref go, .ref gt, .ref gp, .ref gw, .double la, .double ea, .ref gl, .int ln, .int fd]))]) [0] (by decide) rfl
            have hFc := va_free (wc := [(am, .inr (2, [.int 0, .int wo, .int fu, .ref gs, .ref go, .ref gt, .ref gp, .ref gw, .double la, .double ea, .ref gl, .int ln, .int fd]))]) hD hS hA [0] rfl
            refine va_calli (va_runV (As := [.int 1]) (rest := []) ⟨hx, hb, hml, hown, hts⟩ (k_X2_fail l hst dC dI cA tm tt _ am gs go gt gp gw gl 0 wo fu la ea ln fd 1) (cwV 1 hts gX2_date_X2_fail rfl rfl rfl (by decide +kernel) ⟨Nat.le_of_ble_eq_true rfl, Nat.le_of_ble_eq_true rfl⟩) ⟨PcW.blind, va_recv hK hPc (ci := 2) (q0 := 0) rfl rfl, PcW.give hPc hK hDc hE hS hFc⟩ rfl rfl hl.1 rfl (lv_room (Nat.le_of_ble_eq_true rfl)) dX2_date_43 ⟨Nat.le_of_ble_eq_true rfl, Nat.le_of_ble_eq_true rfl⟩) hS (fun q _ h => hFc q h) hFc (fun v_14 u t H locs ht hvm hp_15 hB hz1 hk1 hS => ?_)
            obtain ⟨hP1, hD1⟩ := hB
            rw [ht] at hP1
            obtain ⟨hP, hD⟩ := va_join (wr := []) (w1 := [(am, .inr (2, [.int 1, .int wo, .int fu, .ref gs, .ref go, .ref gt, .ref gp, .ref gw, .double la, .double ea, .ref gl, .int ln, .int fd]))]) hP hD [0] [] rfl rfl (by decide) (by decide) hk1 hFc hP1 hD1
            have hP := hP.sub (ws' := [(am, .inr (2, [.int 1, .int wo, .int fu, .ref gs, .ref go, .ref gt, .ref gp, .ref gw, .double la, .double ea, .ref gl, .int ln, .int fd]))]) [0] rfl
            have hD := hD.sub (ws' := [(am, .inr (2, [.int 1, .int wo, .int fu, .ref gs, .ref go, .ref gt, .ref gp, .ref gw, .double la, .double ea, .ref gl, .int ln, .int fd]))]) [0] (by decide) rfl
            obtain rfl := hp_15
            have e1 : cd1 (f_X1_date x1 x2 x3) = 1 := by rw [e0]; rfl
            have hP : va_P (dC, dI) vwCl [(am, .inr (2, [.int (cd1 (f_X1_date x1 x2 x3)), .int wo, .int fu, .ref gs, .ref go, .ref gt, .ref gp, .ref gw, .double la, .double ea, .ref gl, .int ln, .int fd]))] H := by rw [e1]; exact hP
            have hD : va_D A [(am, .inr (2, [.int (cd1 (f_X1_date x1 x2 x3)), .int wo, .int fu, .ref gs, .ref go, .ref gt, .ref gp, .ref gw, .double la, .double ea, .ref gl, .int ln, .int fd]))] := by rw [e1]; exact hD
            subst hQQ
            exact W.iret hx hb hr (fun t ht hW => ⟨⟨_, (), rfl, (fun v hv => by rw [e0] at hv; cases hv), ⟨by rw [ht]; exact hP, hD⟩⟩, hS.F ht⟩) hS.2.2 dX2_date_46
          · refine lv_iload hx hb dX2_date_35 (lv_at hl 3 rfl) ?_
            refine lv_iconst (v := 3) hx hb dX2_date_37 (by decide) ?_
            refine lv_icmp_le (tgt := 47) hx hb dX2_date_38 (by decide) (fun c_16 => ?_) (fun c_16 => ?_)
            · have hd := b64 c_7 c_10
              have eD : f_X1_date x1 x2 x3 = DTE x1 (BYr x1 x2) x2 x3 := dt_eq c_1 c_4 hd.1 hd.2 c_13 (le_nlt c_16)
              have a1 := c_1
              have a2 := c_4
              have hJ69 : ∀ (H : Heap) (locs : List Loc) (ls : Array Slot), va_P (dC, dI) vwCl [(am, .inr (2, [.int 0, .int wo, .int fu, .ref gs, .ref go, .ref gt, .ref gp, .ref gw, .double la, .double ea, .ref gl, .int ln, .int fd]))] H → va_D A [(am, .inr (2, [.int 0, .int wo, .int fu, .ref gs, .ref go, .ref gt, .ref gp, .ref gw, .double la, .double ea, .ref gl, .int ln, .int fd]))] → va_S A s.heap H locs → lv_has ls 12 [(0, .ref am), (1, .int x1), (2, .long x2), (4, .int x3)] → W p l e (headSpec wsX2_date ({ frames := 4, cells := 0, slots := 0, locals := 93 })).room s m ([.ref am, .int x1, .long x2, .int x3] : List Value).toArray below meth c H locs (0) (0) QQ (F0 m 69 ls [.int (BYr x1 x2)]) := by
                intro H locs ls hP hD hS hl
                refine lv_istore (lv' := [(5, .int (BYr x1 x2)), (0, .ref am), (1, .int x1), (2, .long x2), (4, .int x3)]) hx hb dX2_date_69 hl (by decide) rfl (fun ls hl => ?_)
                refine lv_iload hx hb dX2_date_71 (lv_at hl 0 rfl) ?_
                refine lv_lload_n hx hb dX2_date_73 rfl (lv_at hl 3 rfl) ?_
                refine vp_callSl (W.runS (As := [.int (BYr x1 x2), .long x2]) (rest := []) ⟨hx, hb, hml, hown, hts⟩ (k_X2_yearOf l (BYr x1 x2) x2 hd) (va_cwS 2 hts gX2_date_X2_yearOf rfl rfl rfl (by decide +kernel) ⟨Nat.le_of_ble_eq_true rfl, Nat.le_of_ble_eq_true rfl⟩) preEq rfl rfl hl.1 rfl (lv_room (Nat.le_of_ble_eq_true rfl)) dX2_date_74 ⟨Nat.le_of_ble_eq_true rfl, Nat.le_of_ble_eq_true rfl⟩) (fun r hr9 => ?_)
                obtain rfl := hr9
                refine lv_lstore (lv' := [(6, .long (YOF (BYr x1 x2) x2)), (5, .int (BYr x1 x2)), (0, .ref am), (1, .int x1), (2, .long x2), (4, .int x3)]) hx hb dX2_date_77 hl (by decide) rfl (fun ls hl => ?_)
                refine lv_lload hx hb dX2_date_79 (lv_at hl 0 rfl) ?_
                refine lv_ldc2 hx hb hown (hts (.constantLong RX2 108 (-1000000)) (by decide +kernel)) dX2_date_81 ?_
                refine zl_lt (tgt := 97) hx hb dX2_date_84 dX2_date_85 (by decide) (fun c_17 => ?_) (fun c_17 => ?_)
                · have e0 : f_X1_date x1 x2 x3 = .error xIA := by rw [eD]; unfold DTE; rw [if_pos (yr_bad (Or.inl c_17))]
                  refine lv_aload_n hx hb dX2_date_97 rfl (lv_at hl 2 rfl) ?_
                  refine lv_iconst (v := 1) hx hb dX2_date_98 (by decide) ?_
                  have hPc := hP.sub (ws' := [(am, .inr (2, [.int 0, .int wo, .int fu, .ref gs, .ref go, .ref gt, .ref gp, .ref gw, .double la, .double ea, .ref gl, .int ln, .int fd]))]) [0] rfl
                  have hDc := hD.sub (ws' := [(am, .inr (2, [.int 0, .int wo, .int fu, .ref gs, .ref go, .ref gt, .ref gp, .ref gw, .double la, .double ea, .ref gl, .int ln, .int fd]))]) [0] (by decide) rfl
                  have hFc := va_free (wc := [(am, .inr (2, [.int 0, .int wo, .int fu, .ref gs, .ref go, .ref gt, .ref gp, .ref gw, .double la, .double ea, .ref gl, .int ln, .int fd]))]) hD hS hA [0] rfl
                  refine va_calli (va_runV (As := [.int 1]) (rest := []) ⟨hx, hb, hml, hown, hts⟩ (k_X2_fail l hst dC dI cA tm tt _ am gs go gt gp gw gl 0 wo fu la ea ln fd 1) (cwV 1 hts gX2_date_X2_fail rfl rfl rfl (by decide +kernel) ⟨Nat.le_of_ble_eq_true rfl, Nat.le_of_ble_eq_true rfl⟩) ⟨PcW.blind, va_recv hK hPc (ci := 2) (q0 := 0) rfl rfl, PcW.give hPc hK hDc hE hS hFc⟩ rfl rfl hl.1 rfl (lv_room (Nat.le_of_ble_eq_true rfl)) dX2_date_99 ⟨Nat.le_of_ble_eq_true rfl, Nat.le_of_ble_eq_true rfl⟩) hS (fun q _ h => hFc q h) hFc (fun v_18 u t H locs ht hvm hp_19 hB hz1 hk1 hS => ?_)
                  obtain ⟨hP1, hD1⟩ := hB
                  rw [ht] at hP1
                  obtain ⟨hP, hD⟩ := va_join (wr := []) (w1 := [(am, .inr (2, [.int 1, .int wo, .int fu, .ref gs, .ref go, .ref gt, .ref gp, .ref gw, .double la, .double ea, .ref gl, .int ln, .int fd]))]) hP hD [0] [] rfl rfl (by decide) (by decide) hk1 hFc hP1 hD1
                  have hP := hP.sub (ws' := [(am, .inr (2, [.int 1, .int wo, .int fu, .ref gs, .ref go, .ref gt, .ref gp, .ref gw, .double la, .double ea, .ref gl, .int ln, .int fd]))]) [0] rfl
                  have hD := hD.sub (ws' := [(am, .inr (2, [.int 1, .int wo, .int fu, .ref gs, .ref go, .ref gt, .ref gp, .ref gw, .double la, .double ea, .ref gl, .int ln, .int fd]))]) [0] (by decide) rfl
                  obtain rfl := hp_19
                  have e1 : cd1 (f_X1_date x1 x2 x3) = 1 := by rw [e0]; rfl
                  have hP : va_P (dC, dI) vwCl [(am, .inr (2, [.int (cd1 (f_X1_date x1 x2 x3)), .int wo, .int fu, .ref gs, .ref go, .ref gt, .ref gp, .ref gw, .double la, .double ea, .ref gl, .int ln, .int fd]))] H := by rw [e1]; exact hP
                  have hD : va_D A [(am, .inr (2, [.int (cd1 (f_X1_date x1 x2 x3)), .int wo, .int fu, .ref gs, .ref go, .ref gt, .ref gp, .ref gw, .double la, .double ea, .ref gl, .int ln, .int fd]))] := by rw [e1]; exact hD
                  subst hQQ
                  exact W.iret hx hb hr (fun t ht hW => ⟨⟨_, (), rfl, (fun v hv => by rw [e0] at hv; cases hv), ⟨by rw [ht]; exact hP, hD⟩⟩, hS.F ht⟩) hS.2.2 dX2_date_102
                · refine lv_lload hx hb dX2_date_88 (lv_at hl 0 rfl) ?_
                  refine lv_ldc2 hx hb hown (hts (.constantLong RX2 110 (1000000)) (by decide +kernel)) dX2_date_90 ?_
                  refine zl_le (tgt := 103) hx hb dX2_date_93 dX2_date_94 (by decide) (fun c_20 => ?_) (fun c_20 => ?_)
                  · have hyr := yr_ok (y := dtY (BYr x1 x2) x2) c_17 (le64n c_20)
                    have hen := dt_env (r := BYr x1 x2) hd
                    have hloop117 : ∀ (n : Nat) (j : Nat) (rs : Int64), 12 - j < n → j < 12 → rs.toInt = x2.toInt - nyI (BYr x1 x2) (dtY (BYr x1 x2) x2).toInt - cum (f_X1_isLeap (BYr x1 x2) (dtY (BYr x1 x2) x2)) j → cum (f_X1_isLeap (BYr x1 x2) (dtY (BYr x1 x2) x2)) j ≤ x2.toInt - nyI (BYr x1 x2) (dtY (BYr x1 x2) x2).toInt → ∀ (H : Heap) (locs : List Loc) (ls : Array Slot), va_P (dC, dI) vwCl [(am, .inr (2, [.int 0, .int wo, .int fu, .ref gs, .ref go, .ref gt, .ref gp, .ref gw, .double la, .double ea, .ref gl, .int ln, .int fd]))] H → va_D A [(am, .inr (2, [.int 0, .int wo, .int fu, .ref gs, .ref go, .ref gt, .ref gp, .ref gw, .double la, .double ea, .ref gl, .int ln, .int fd]))] → va_S A s.heap H locs → lv_has ls 12 [(0, .ref am), (1, .int x1), (2, .long x2), (4, .int x3), (5, .int (BYr x1 x2)), (6, .long (YOF (BYr x1 x2) x2)), (8, .long rs), (10, .int (nI (j + 1)))] → W p l e (headSpec wsX2_date ({ frames := 4, cells := 0, slots := 0, locals := 93 })).room s m ([.ref am, .int x1, .long x2, .int x3] : List Value).toArray below meth c H locs (0) (0) QQ (F0 m 117 ls []) := by
                      intro n
                      induction n with
                      | zero =>
                        intro j rs hf hj hrs hge
                        exact absurd hf (by omega)
                      | succ n ih =>
                        intro j rs hf hj hrs hge H locs ls hP hD hS hl
                        refine lv_lload hx hb dX2_date_117 (lv_at hl 6 rfl) ?_
                        refine lv_iload hx hb dX2_date_119 (lv_at hl 4 rfl) ?_
                        refine lv_lload hx hb dX2_date_121 (lv_at hl 5 rfl) ?_
                        refine lv_iload hx hb dX2_date_123 (lv_at hl 7 rfl) ?_
                        refine vp_callSi (W.runS (As := [.int (BYr x1 x2), .long (YOF (BYr x1 x2) x2), .int (nI (j + 1))]) (rest := [.long rs]) ⟨hx, hb, hml, hown, hts⟩ (k_X2_length l (BYr x1 x2) (YOF (BYr x1 x2) x2) (nI (j + 1))) (va_cwS 3 hts gX2_date_X2_length rfl rfl rfl (by decide +kernel) ⟨Nat.le_of_ble_eq_true rfl, Nat.le_of_ble_eq_true rfl⟩) preEq rfl rfl hl.1 rfl (lv_room (Nat.le_of_ble_eq_true rfl)) dX2_date_125 ⟨Nat.le_of_ble_eq_true rfl, Nat.le_of_ble_eq_true rfl⟩) (fun r hr9 => ?_)
                        obtain rfl := hr9
                        refine lv_i2l hx hb dX2_date_128 rfl ?_
                        refine zl_lt (tgt := 154) hx hb dX2_date_129 dX2_date_130 (by decide) (fun c_21 => ?_) (fun c_21 => ?_)
                        · have hlt := mo_end hd hj hrs c_21
                          refine lv_iload hx hb dX2_date_154 (lv_at hl 3 rfl) ?_
                          refine lv_if_ne (tgt := 163) hx hb dX2_date_156 (by decide) (fun c_22 => ?_) (fun c_22 => ?_)
                          · refine lv_iload hx hb dX2_date_163 (lv_at hl 3 rfl) ?_
                            refine lv_iconst (v := 1) hx hb dX2_date_165 (by decide) ?_
                            refine lv_icmp_ne (tgt := 172) hx hb dX2_date_166 (by decide) (fun c_23 => ?_) (fun c_23 => ?_)
                            · refine lv_iload hx hb dX2_date_172 (lv_at hl 3 rfl) ?_
                              refine lv_iconst (v := 2) hx hb dX2_date_174 (by decide) ?_
                              refine lv_icmp_ne (tgt := 184) hx hb dX2_date_175 (by decide) (fun c_24 => ?_) (fun c_24 => ?_)
                              · refine lv_iload_n hx hb dX2_date_184 rfl (lv_at hl 1 rfl) ?_
                                refine lv_iconst (v := 2) hx hb dX2_date_185 (by decide) ?_
                                refine lv_icmp_ne (tgt := 202) hx hb dX2_date_186 (by decide) (fun c_25 => ?_) (fun c_25 => ?_)
                                · refine lv_iload hx hb dX2_date_202 (lv_at hl 4 rfl) ?_
                                  refine lv_istore (lv' := [(11, .int (BYr x1 x2)), (0, .ref am), (1, .int x1), (2, .long x2), (4, .int x3), (5, .int (BYr x1 x2)), (6, .long (YOF (BYr x1 x2) x2)), (8, .long rs), (10, .int (nI (j + 1)))]) hx hb dX2_date_204 hl (by decide) rfl (fun ls hl => ?_)
                                  refine lv_lload_n hx hb dX2_date_206 rfl (lv_at hl 3 rfl) ?_
                                  refine lv_iload hx hb dX2_date_207 (lv_at hl 0 rfl) ?_
                                  refine lv_lload hx hb dX2_date_209 (lv_at hl 6 rfl) ?_
                                  refine vp_callSl (W.runS (As := [.int (BYr x1 x2), .long (YOF (BYr x1 x2) x2)]) (rest := [.long x2]) ⟨hx, hb, hml, hown, hts⟩ (k_X2_newYear l (BYr x1 x2) (YOF (BYr x1 x2) x2)) (va_cwS 2 hts gX2_date_X2_newYear rfl rfl rfl (by decide +kernel) ⟨Nat.le_of_ble_eq_true rfl, Nat.le_of_ble_eq_true rfl⟩) preEq rfl rfl hl.1 rfl (lv_room (Nat.le_of_ble_eq_true rfl)) dX2_date_211 ⟨Nat.le_of_ble_eq_true rfl, Nat.le_of_ble_eq_true rfl⟩) (fun r hr9 => ?_)
                                  obtain rfl := hr9
                                  refine lv_lsub hx hb dX2_date_214 ?_
                                  refine lv_l2i hx hb dX2_date_215 rfl ?_
                                  refine lv_iconst (v := 1) hx hb dX2_date_216 (by decide) ?_
                                  refine lv_iadd hx hb dX2_date_217 ?_
                                  have h3 := x3_3 c_13 c_16 c_22 c_23 c_24
                                  have e0 : f_X1_date x1 x2 x3 = .ok (if x1 = 2 ∧ BYr x1 x2 = 1 ∧ dtY (BYr x1 x2) x2 = 1582 then dtW (BYr x1 x2) x2 - 10 else dtW (BYr x1 x2) x2) := by rw [eD]; unfold DTE; rw [if_neg hyr, if_neg c_22, if_pos h3]; split <;> rfl
                                  have e1 : cd1 (f_X1_date x1 x2 x3) = 0 := by rw [e0]; rfl
                                  have hP : va_P (dC, dI) vwCl [(am, .inr (2, [.int (cd1 (f_X1_date x1 x2 x3)), .int wo, .int fu, .ref gs, .ref go, .ref gt, .ref gp, .ref gw, .double la, .double ea, .ref gl, .int ln, .int fd]))] H := by rw [e1]; exact hP
                                  have hD : va_D A [(am, .inr (2, [.int (cd1 (f_X1_date x1 x2 x3)), .int wo, .int fu, .ref gs, .ref go, .ref gt, .ref gp, .ref gw, .double la, .double ea, .ref gl, .int ln, .int fd]))] := by rw [e1]; exact hD
                                  subst hQQ
                                  exact W.iret hx hb hr (fun t ht hW => ⟨⟨_, (), rfl, (fun v hv => by rw [e0] at hv; cases hv; exact dt_3 a1 a2 hd (fr := BYr x1 x2) (by rw [if_neg c_25])), ⟨by rw [ht]; exact hP, hD⟩⟩, hS.F ht⟩) hS.2.2 dX2_date_218
                                · refine lv_lload hx hb dX2_date_189 (lv_at hl 5 rfl) ?_
                                  refine lv_ldc2 hx hb hown (hts (.constantLong RX2 112 (1582)) (by decide +kernel)) dX2_date_191 ?_
                                  refine zl_gt (tgt := 202) hx hb dX2_date_194 dX2_date_195 (by decide) (fun c_26 => ?_) (fun c_26 => ?_)
                                  · refine lv_iload hx hb dX2_date_202 (lv_at hl 4 rfl) ?_
                                    refine lv_istore (lv' := [(11, .int (BYr x1 x2)), (0, .ref am), (1, .int x1), (2, .long x2), (4, .int x3), (5, .int (BYr x1 x2)), (6, .long (YOF (BYr x1 x2) x2)), (8, .long rs), (10, .int (nI (j + 1)))]) hx hb dX2_date_204 hl (by decide) rfl (fun ls hl => ?_)
                                    refine lv_lload_n hx hb dX2_date_206 rfl (lv_at hl 3 rfl) ?_
                                    refine lv_iload hx hb dX2_date_207 (lv_at hl 0 rfl) ?_
                                    refine lv_lload hx hb dX2_date_209 (lv_at hl 6 rfl) ?_
                                    refine vp_callSl (W.runS (As := [.int (BYr x1 x2), .long (YOF (BYr x1 x2) x2)]) (rest := [.long x2]) ⟨hx, hb, hml, hown, hts⟩ (k_X2_newYear l (BYr x1 x2) (YOF (BYr x1 x2) x2)) (va_cwS 2 hts gX2_date_X2_newYear rfl rfl rfl (by decide +kernel) ⟨Nat.le_of_ble_eq_true rfl, Nat.le_of_ble_eq_true rfl⟩) preEq rfl rfl hl.1 rfl (lv_room (Nat.le_of_ble_eq_true rfl)) dX2_date_211 ⟨Nat.le_of_ble_eq_true rfl, Nat.le_of_ble_eq_true rfl⟩) (fun r hr9 => ?_)
                                    obtain rfl := hr9
                                    refine lv_lsub hx hb dX2_date_214 ?_
                                    refine lv_l2i hx hb dX2_date_215 rfl ?_
                                    refine lv_iconst (v := 1) hx hb dX2_date_216 (by decide) ?_
                                    refine lv_iadd hx hb dX2_date_217 ?_
                                    have h3 := x3_3 c_13 c_16 c_22 c_23 c_24
                                    have e0 : f_X1_date x1 x2 x3 = .ok (if x1 = 2 ∧ BYr x1 x2 = 1 ∧ dtY (BYr x1 x2) x2 = 1582 then dtW (BYr x1 x2) x2 - 10 else dtW (BYr x1 x2) x2) := by rw [eD]; unfold DTE; rw [if_neg hyr, if_neg c_22, if_pos h3]; split <;> rfl
                                    have e1 : cd1 (f_X1_date x1 x2 x3) = 0 := by rw [e0]; rfl
                                    have hP : va_P (dC, dI) vwCl [(am, .inr (2, [.int (cd1 (f_X1_date x1 x2 x3)), .int wo, .int fu, .ref gs, .ref go, .ref gt, .ref gp, .ref gw, .double la, .double ea, .ref gl, .int ln, .int fd]))] H := by rw [e1]; exact hP
                                    have hD : va_D A [(am, .inr (2, [.int (cd1 (f_X1_date x1 x2 x3)), .int wo, .int fu, .ref gs, .ref go, .ref gt, .ref gp, .ref gw, .double la, .double ea, .ref gl, .int ln, .int fd]))] := by rw [e1]; exact hD
                                    subst hQQ
                                    exact W.iret hx hb hr (fun t ht hW => ⟨⟨_, (), rfl, (fun v hv => by rw [e0] at hv; cases hv; exact dt_3 a1 a2 hd (fr := BYr x1 x2) (by rw [if_pos c_25, if_neg (fun h => le64n h c_26)])), ⟨by rw [ht]; exact hP, hD⟩⟩, hS.F ht⟩) hS.2.2 dX2_date_218
                                  · refine lv_iconst (v := 0) hx hb dX2_date_198 (by decide) ?_
                                    refine lv_goto (tgt := 204) hx hb dX2_date_199 (by decide) ?_
                                    refine lv_istore (lv' := [(11, .int 0), (0, .ref am), (1, .int x1), (2, .long x2), (4, .int x3), (5, .int (BYr x1 x2)), (6, .long (YOF (BYr x1 x2) x2)), (8, .long rs), (10, .int (nI (j + 1)))]) hx hb dX2_date_204 hl (by decide) rfl (fun ls hl => ?_)
                                    refine lv_lload_n hx hb dX2_date_206 rfl (lv_at hl 3 rfl) ?_
                                    refine lv_iload hx hb dX2_date_207 (lv_at hl 0 rfl) ?_
                                    refine lv_lload hx hb dX2_date_209 (lv_at hl 6 rfl) ?_
                                    refine vp_callSl (W.runS (As := [.int 0, .long (YOF (BYr x1 x2) x2)]) (rest := [.long x2]) ⟨hx, hb, hml, hown, hts⟩ (k_X2_newYear l 0 (YOF (BYr x1 x2) x2)) (va_cwS 2 hts gX2_date_X2_newYear rfl rfl rfl (by decide +kernel) ⟨Nat.le_of_ble_eq_true rfl, Nat.le_of_ble_eq_true rfl⟩) preEq rfl rfl hl.1 rfl (lv_room (Nat.le_of_ble_eq_true rfl)) dX2_date_211 ⟨Nat.le_of_ble_eq_true rfl, Nat.le_of_ble_eq_true rfl⟩) (fun r hr9 => ?_)
                                    obtain rfl := hr9
                                    refine lv_lsub hx hb dX2_date_214 ?_
                                    refine lv_l2i hx hb dX2_date_215 rfl ?_
                                    refine lv_iconst (v := 1) hx hb dX2_date_216 (by decide) ?_
                                    refine lv_iadd hx hb dX2_date_217 ?_
                                    have h3 := x3_3 c_13 c_16 c_22 c_23 c_24
                                    have e0 : f_X1_date x1 x2 x3 = .ok (if x1 = 2 ∧ BYr x1 x2 = 1 ∧ dtY (BYr x1 x2) x2 = 1582 then dtW (BYr x1 x2) x2 - 10 else dtW (BYr x1 x2) x2) := by rw [eD]; unfold DTE; rw [if_neg hyr, if_neg c_22, if_pos h3]; split <;> rfl
                                    have e1 : cd1 (f_X1_date x1 x2 x3) = 0 := by rw [e0]; rfl
                                    have hP : va_P (dC, dI) vwCl [(am, .inr (2, [.int (cd1 (f_X1_date x1 x2 x3)), .int wo, .int fu, .ref gs, .ref go, .ref gt, .ref gp, .ref gw, .double la, .double ea, .ref gl, .int ln, .int fd]))] H := by rw [e1]; exact hP
                                    have hD : va_D A [(am, .inr (2, [.int (cd1 (f_X1_date x1 x2 x3)), .int wo, .int fu, .ref gs, .ref go, .ref gt, .ref gp, .ref gw, .double la, .double ea, .ref gl, .int ln, .int fd]))] := by rw [e1]; exact hD
                                    subst hQQ
                                    exact W.iret hx hb hr (fun t ht hW => ⟨⟨_, (), rfl, (fun v hv => by rw [e0] at hv; cases hv; exact dt_3 a1 a2 hd (fr := 0) (by rw [if_pos c_25, if_pos (nlt64 c_26)])), ⟨by rw [ht]; exact hP, hD⟩⟩, hS.F ht⟩) hS.2.2 dX2_date_218
                              · refine lv_lload hx hb dX2_date_178 (lv_at hl 6 rfl) ?_
                                refine lv_l2i hx hb dX2_date_180 rfl ?_
                                refine lv_iconst (v := 1) hx hb dX2_date_181 (by decide) ?_
                                refine lv_iadd hx hb dX2_date_182 ?_
                                have e0 : f_X1_date x1 x2 x3 = .ok (dtW (BYr x1 x2) x2 - f_X1_daysBeforeMonth (BYr x1 x2) (dtY (BYr x1 x2) x2) (dtM (BYr x1 x2) x2)) := by rw [eD]; unfold DTE; rw [if_neg hyr, if_neg c_22, if_neg (by rw [c_24]; decide), if_neg c_23]
                                have e1 : cd1 (f_X1_date x1 x2 x3) = 0 := by rw [e0]; rfl
                                have hP : va_P (dC, dI) vwCl [(am, .inr (2, [.int (cd1 (f_X1_date x1 x2 x3)), .int wo, .int fu, .ref gs, .ref go, .ref gt, .ref gp, .ref gw, .double la, .double ea, .ref gl, .int ln, .int fd]))] H := by rw [e1]; exact hP
                                have hD : va_D A [(am, .inr (2, [.int (cd1 (f_X1_date x1 x2 x3)), .int wo, .int fu, .ref gs, .ref go, .ref gt, .ref gp, .ref gw, .double la, .double ea, .ref gl, .int ln, .int fd]))] := by rw [e1]; exact hD
                                subst hQQ
                                exact W.iret hx hb hr (fun t ht hW => ⟨⟨_, (), rfl, (fun v hv => by rw [e0] at hv; cases hv; exact dt_2 hd hj hrs hge hlt), ⟨by rw [ht]; exact hP, hD⟩⟩, hS.F ht⟩) hS.2.2 dX2_date_183
                            · refine lv_iload hx hb dX2_date_169 (lv_at hl 7 rfl) ?_
                              have e0 : f_X1_date x1 x2 x3 = .ok (dtM (BYr x1 x2) x2) := by rw [eD]; unfold DTE; rw [if_neg hyr, if_neg c_22, if_neg (by rw [c_23]; decide), if_pos c_23]
                              have e1 : cd1 (f_X1_date x1 x2 x3) = 0 := by rw [e0]; rfl
                              have hP : va_P (dC, dI) vwCl [(am, .inr (2, [.int (cd1 (f_X1_date x1 x2 x3)), .int wo, .int fu, .ref gs, .ref go, .ref gt, .ref gp, .ref gw, .double la, .double ea, .ref gl, .int ln, .int fd]))] H := by rw [e1]; exact hP
                              have hD : va_D A [(am, .inr (2, [.int (cd1 (f_X1_date x1 x2 x3)), .int wo, .int fu, .ref gs, .ref go, .ref gt, .ref gp, .ref gw, .double la, .double ea, .ref gl, .int ln, .int fd]))] := by rw [e1]; exact hD
                              subst hQQ
                              exact W.iret hx hb hr (fun t ht hW => ⟨⟨_, (), rfl, (fun v hv => by rw [e0] at hv; cases hv; exact (dt_M hd hj hge hlt).symm), ⟨by rw [ht]; exact hP, hD⟩⟩, hS.F ht⟩) hS.2.2 dX2_date_171
                          · refine lv_lload hx hb dX2_date_159 (lv_at hl 5 rfl) ?_
                            refine lv_l2i hx hb dX2_date_161 rfl ?_
                            have e0 : f_X1_date x1 x2 x3 = .ok (dtY (BYr x1 x2) x2) := by rw [eD]; unfold DTE; rw [if_neg hyr, if_pos c_22]
                            have e1 : cd1 (f_X1_date x1 x2 x3) = 0 := by rw [e0]; rfl
                            have hP : va_P (dC, dI) vwCl [(am, .inr (2, [.int (cd1 (f_X1_date x1 x2 x3)), .int wo, .int fu, .ref gs, .ref go, .ref gt, .ref gp, .ref gw, .double la, .double ea, .ref gl, .int ln, .int fd]))] H := by rw [e1]; exact hP
                            have hD : va_D A [(am, .inr (2, [.int (cd1 (f_X1_date x1 x2 x3)), .int wo, .int fu, .ref gs, .ref go, .ref gt, .ref gp, .ref gw, .double la, .double ea, .ref gl, .int ln, .int fd]))] := by rw [e1]; exact hD
                            subst hQQ
                            exact W.iret hx hb hr (fun t ht hW => ⟨⟨_, (), rfl, (fun v hv => by rw [e0] at hv; cases hv; exact l2i_i2l _), ⟨by rw [ht]; exact hP, hD⟩⟩, hS.F ht⟩) hS.2.2 dX2_date_162
                        · refine lv_lload hx hb dX2_date_133 (lv_at hl 6 rfl) ?_
                          refine lv_iload hx hb dX2_date_135 (lv_at hl 4 rfl) ?_
                          refine lv_lload hx hb dX2_date_137 (lv_at hl 5 rfl) ?_
                          refine lv_iload hx hb dX2_date_139 (lv_at hl 7 rfl) ?_
                          refine vp_callSi (W.runS (As := [.int (BYr x1 x2), .long (YOF (BYr x1 x2) x2), .int (nI (j + 1))]) (rest := [.long rs]) ⟨hx, hb, hml, hown, hts⟩ (k_X2_length l (BYr x1 x2) (YOF (BYr x1 x2) x2) (nI (j + 1))) (va_cwS 3 hts gX2_date_X2_length rfl rfl rfl (by decide +kernel) ⟨Nat.le_of_ble_eq_true rfl, Nat.le_of_ble_eq_true rfl⟩) preEq rfl rfl hl.1 rfl (lv_room (Nat.le_of_ble_eq_true rfl)) dX2_date_141 ⟨Nat.le_of_ble_eq_true rfl, Nat.le_of_ble_eq_true rfl⟩) (fun r hr9 => ?_)
                          obtain rfl := hr9
                          refine lv_i2l hx hb dX2_date_144 rfl ?_
                          refine lv_lsub hx hb dX2_date_145 ?_
                          refine lv_lstore (lv' := [(8, .long (rs - (Int32.toInt64 (f_X2_length (BYr x1 x2) (YOF (BYr x1 x2) x2) (nI (j + 1)))))), (0, .ref am), (1, .int x1), (2, .long x2), (4, .int x3), (5, .int (BYr x1 x2)), (6, .long (YOF (BYr x1 x2) x2)), (10, .int (nI (j + 1)))]) hx hb dX2_date_146 hl (by decide) rfl (fun ls hl => ?_)
                          refine lv_iinc (v := nI (j + 1 + 1)) (lv' := [(10, .int (nI (j + 1 + 1))), (8, .long (rs - (Int32.toInt64 (f_X2_length (BYr x1 x2) (YOF (BYr x1 x2) x2) (nI (j + 1)))))), (0, .ref am), (1, .int x1), (2, .long x2), (4, .int x3), (5, .int (BYr x1 x2)), (6, .long (YOF (BYr x1 x2) x2))]) hx hb dX2_date_148 hl (k := 7) rfl (nI_1 _) (by decide) rfl (fun ls hl => ?_)
                          refine lv_goto (tgt := 117) hx hb dX2_date_151 (by decide) ?_
                          obtain ⟨q1, q2, q3⟩ := mo_on hd hj hrs c_21
                          exact ih (j + 1) _ (by omega) q1 q2 q3 _ _ _ hP hD hS (lv_sub hl [2, 3, 4, 5, 6, 7, 1, 0] rfl)
                    refine lv_lload_n hx hb dX2_date_103 rfl (lv_at hl 4 rfl) ?_
                    refine lv_iload hx hb dX2_date_104 (lv_at hl 1 rfl) ?_
                    refine lv_lload hx hb dX2_date_106 (lv_at hl 0 rfl) ?_
                    refine vp_callSl (W.runS (As := [.int (BYr x1 x2), .long (YOF (BYr x1 x2) x2)]) (rest := [.long x2]) ⟨hx, hb, hml, hown, hts⟩ (k_X2_newYear l (BYr x1 x2) (YOF (BYr x1 x2) x2)) (va_cwS 2 hts gX2_date_X2_newYear rfl rfl rfl (by decide +kernel) ⟨Nat.le_of_ble_eq_true rfl, Nat.le_of_ble_eq_true rfl⟩) preEq rfl rfl hl.1 rfl (lv_room (Nat.le_of_ble_eq_true rfl)) dX2_date_108 ⟨Nat.le_of_ble_eq_true rfl, Nat.le_of_ble_eq_true rfl⟩) (fun r hr9 => ?_)
                    obtain rfl := hr9
                    refine lv_lsub hx hb dX2_date_111 ?_
                    refine lv_lstore (lv' := [(8, .long (x2 - (f_X2_newYear (BYr x1 x2) (YOF (BYr x1 x2) x2)))), (6, .long (YOF (BYr x1 x2) x2)), (5, .int (BYr x1 x2)), (0, .ref am), (1, .int x1), (2, .long x2), (4, .int x3)]) hx hb dX2_date_112 hl (by decide) rfl (fun ls hl => ?_)
                    refine lv_iconst (v := 1) hx hb dX2_date_114 (by decide) ?_
                    refine lv_istore (lv' := [(10, .int (nI (0 + 1))), (8, .long (x2 - (f_X2_newYear (BYr x1 x2) (YOF (BYr x1 x2) x2)))), (6, .long (YOF (BYr x1 x2) x2)), (5, .int (BYr x1 x2)), (0, .ref am), (1, .int x1), (2, .long x2), (4, .int x3)]) hx hb dX2_date_115 hl (by decide) rfl (fun ls hl => ?_)
                    exact hloop117 13 0 _ (by decide) (by decide) (by rw [cum_0, hen.2.1]; omega) (by rw [cum_0]; exact hen.2.2.2.1.1) _ _ _ hP hD hS (lv_sub hl [4, 5, 6, 7, 3, 2, 1, 0] rfl)
                  · have e0 : f_X1_date x1 x2 x3 = .error xIA := by rw [eD]; unfold DTE; rw [if_pos (yr_bad (Or.inr (nle64 c_20)))]
                    refine lv_aload_n hx hb dX2_date_97 rfl (lv_at hl 2 rfl) ?_
                    refine lv_iconst (v := 1) hx hb dX2_date_98 (by decide) ?_
                    have hPc := hP.sub (ws' := [(am, .inr (2, [.int 0, .int wo, .int fu, .ref gs, .ref go, .ref gt, .ref gp, .ref gw, .double la, .double ea, .ref gl, .int ln, .int fd]))]) [0] rfl
                    have hDc := hD.sub (ws' := [(am, .inr (2, [.int 0, .int wo, .int fu, .ref gs, .ref go, .ref gt, .ref gp, .ref gw, .double la, .double ea, .ref gl, .int ln, .int fd]))]) [0] (by decide) rfl
                    have hFc := va_free (wc := [(am, .inr (2, [.int 0, .int wo, .int fu, .ref gs, .ref go, .ref gt, .ref gp, .ref gw, .double la, .double ea, .ref gl, .int ln, .int fd]))]) hD hS hA [0] rfl
                    refine va_calli (va_runV (As := [.int 1]) (rest := []) ⟨hx, hb, hml, hown, hts⟩ (k_X2_fail l hst dC dI cA tm tt _ am gs go gt gp gw gl 0 wo fu la ea ln fd 1) (cwV 1 hts gX2_date_X2_fail rfl rfl rfl (by decide +kernel) ⟨Nat.le_of_ble_eq_true rfl, Nat.le_of_ble_eq_true rfl⟩) ⟨PcW.blind, va_recv hK hPc (ci := 2) (q0 := 0) rfl rfl, PcW.give hPc hK hDc hE hS hFc⟩ rfl rfl hl.1 rfl (lv_room (Nat.le_of_ble_eq_true rfl)) dX2_date_99 ⟨Nat.le_of_ble_eq_true rfl, Nat.le_of_ble_eq_true rfl⟩) hS (fun q _ h => hFc q h) hFc (fun v_27 u t H locs ht hvm hp_28 hB hz1 hk1 hS => ?_)
                    obtain ⟨hP1, hD1⟩ := hB
                    rw [ht] at hP1
                    obtain ⟨hP, hD⟩ := va_join (wr := []) (w1 := [(am, .inr (2, [.int 1, .int wo, .int fu, .ref gs, .ref go, .ref gt, .ref gp, .ref gw, .double la, .double ea, .ref gl, .int ln, .int fd]))]) hP hD [0] [] rfl rfl (by decide) (by decide) hk1 hFc hP1 hD1
                    have hP := hP.sub (ws' := [(am, .inr (2, [.int 1, .int wo, .int fu, .ref gs, .ref go, .ref gt, .ref gp, .ref gw, .double la, .double ea, .ref gl, .int ln, .int fd]))]) [0] rfl
                    have hD := hD.sub (ws' := [(am, .inr (2, [.int 1, .int wo, .int fu, .ref gs, .ref go, .ref gt, .ref gp, .ref gw, .double la, .double ea, .ref gl, .int ln, .int fd]))]) [0] (by decide) rfl
                    obtain rfl := hp_28
                    have e1 : cd1 (f_X1_date x1 x2 x3) = 1 := by rw [e0]; rfl
                    have hP : va_P (dC, dI) vwCl [(am, .inr (2, [.int (cd1 (f_X1_date x1 x2 x3)), .int wo, .int fu, .ref gs, .ref go, .ref gt, .ref gp, .ref gw, .double la, .double ea, .ref gl, .int ln, .int fd]))] H := by rw [e1]; exact hP
                    have hD : va_D A [(am, .inr (2, [.int (cd1 (f_X1_date x1 x2 x3)), .int wo, .int fu, .ref gs, .ref go, .ref gt, .ref gp, .ref gw, .double la, .double ea, .ref gl, .int ln, .int fd]))] := by rw [e1]; exact hD
                    subst hQQ
                    exact W.iret hx hb hr (fun t ht hW => ⟨⟨_, (), rfl, (fun v hv => by rw [e0] at hv; cases hv), ⟨by rw [ht]; exact hP, hD⟩⟩, hS.F ht⟩) hS.2.2 dX2_date_102
              refine lv_iload_n hx hb dX2_date_47 rfl (lv_at hl 1 rfl) ?_
              refine lv_iconst (v := 2) hx hb dX2_date_48 (by decide) ?_
              refine lv_icmp_ge (tgt := 56) hx hb dX2_date_49 (by decide) (fun c_29 => ?_) (fun c_29 => ?_)
              · refine lv_lload_n hx hb dX2_date_56 rfl (lv_at hl 2 rfl) ?_
                refine lv_ldc2 hx hb hown (hts (.constantLong RX2 103 (2299161)) (by decide +kernel)) dX2_date_57 ?_
                refine zl_ge (tgt := 68) hx hb dX2_date_60 dX2_date_61 (by decide) (fun c_30 => ?_) (fun c_30 => ?_)
                · refine lv_iconst (v := 1) hx hb dX2_date_68 (by decide) ?_
                  refine W.stk (st := [.int 1]) (st' := [.int (BYr x1 x2)]) (congrArg (fun x => [Value.int x]) (show 1 = BYr x1 x2 from (show BYr x1 x2 = 1 by unfold BYr; rw [if_neg (fun h => le_nlt c_29 h), if_neg (le64n c_30)]).symm)) ?_
                  exact hJ69 _ _ _ hP hD hS (lv_sub hl [0, 1, 2, 3] rfl)
                · refine lv_iconst (v := 0) hx hb dX2_date_64 (by decide) ?_
                  refine lv_goto (tgt := 69) hx hb dX2_date_65 (by decide) ?_
                  refine W.stk (st := [.int 0]) (st' := [.int (BYr x1 x2)]) (congrArg (fun x => [Value.int x]) (show 0 = BYr x1 x2 from (show BYr x1 x2 = 0 by unfold BYr; rw [if_neg (fun h => le_nlt c_29 h), if_pos (nle64 c_30)]).symm)) ?_
                  exact hJ69 _ _ _ hP hD hS (lv_sub hl [0, 1, 2, 3] rfl)
              · refine lv_iload_n hx hb dX2_date_52 rfl (lv_at hl 1 rfl) ?_
                refine lv_goto (tgt := 69) hx hb dX2_date_53 (by decide) ?_
                refine W.stk (st := [.int x1]) (st' := [.int (BYr x1 x2)]) (congrArg (fun x => [Value.int x]) (show x1 = BYr x1 x2 from (show BYr x1 x2 = x1 by unfold BYr; rw [if_pos (nle_lt c_29)]).symm)) ?_
                exact hJ69 _ _ _ hP hD hS (lv_sub hl [0, 1, 2, 3] rfl)
            · have e0 : f_X1_date x1 x2 x3 = .error xIA := dt_bad (Or.inr (Or.inr (Or.inr (Or.inr (Or.inr ((nle_lt2 c_16)))))))
              refine lv_aload_n hx hb dX2_date_41 rfl (lv_at hl 0 rfl) ?_
              refine lv_iconst (v := 1) hx hb dX2_date_42 (by decide) ?_
              have hPc := hP.sub (ws' := [(am, .inr (2, [.int 0, .int wo, .int fu, .ref gs, .ref go, .ref gt, .ref gp, .ref gw, .double la, .double ea, .ref gl, .int ln, .int fd]))]) [0] rfl
              have hDc := hD.sub (ws' := [(am, .inr (2, [.int 0, .int wo, .int fu, .ref gs, .ref go, .ref gt, .ref gp, .ref gw, .double la, .double ea, .ref gl, .int ln, .int fd]))]) [0] (by decide) rfl
              have hFc := va_free (wc := [(am, .inr (2, [.int 0, .int wo, .int fu, .ref gs, .ref go, .ref gt, .ref gp, .ref gw, .double la, .double ea, .ref gl, .int ln, .int fd]))]) hD hS hA [0] rfl
              refine va_calli (va_runV (As := [.int 1]) (rest := []) ⟨hx, hb, hml, hown, hts⟩ (k_X2_fail l hst dC dI cA tm tt _ am gs go gt gp gw gl 0 wo fu la ea ln fd 1) (cwV 1 hts gX2_date_X2_fail rfl rfl rfl (by decide +kernel) ⟨Nat.le_of_ble_eq_true rfl, Nat.le_of_ble_eq_true rfl⟩) ⟨PcW.blind, va_recv hK hPc (ci := 2) (q0 := 0) rfl rfl, PcW.give hPc hK hDc hE hS hFc⟩ rfl rfl hl.1 rfl (lv_room (Nat.le_of_ble_eq_true rfl)) dX2_date_43 ⟨Nat.le_of_ble_eq_true rfl, Nat.le_of_ble_eq_true rfl⟩) hS (fun q _ h => hFc q h) hFc (fun v_31 u t H locs ht hvm hp_32 hB hz1 hk1 hS => ?_)
              obtain ⟨hP1, hD1⟩ := hB
              rw [ht] at hP1
              obtain ⟨hP, hD⟩ := va_join (wr := []) (w1 := [(am, .inr (2, [.int 1, .int wo, .int fu, .ref gs, .ref go, .ref gt, .ref gp, .ref gw, .double la, .double ea, .ref gl, .int ln, .int fd]))]) hP hD [0] [] rfl rfl (by decide) (by decide) hk1 hFc hP1 hD1
              have hP := hP.sub (ws' := [(am, .inr (2, [.int 1, .int wo, .int fu, .ref gs, .ref go, .ref gt, .ref gp, .ref gw, .double la, .double ea, .ref gl, .int ln, .int fd]))]) [0] rfl
              have hD := hD.sub (ws' := [(am, .inr (2, [.int 1, .int wo, .int fu, .ref gs, .ref go, .ref gt, .ref gp, .ref gw, .double la, .double ea, .ref gl, .int ln, .int fd]))]) [0] (by decide) rfl
              obtain rfl := hp_32
              have e1 : cd1 (f_X1_date x1 x2 x3) = 1 := by rw [e0]; rfl
              have hP : va_P (dC, dI) vwCl [(am, .inr (2, [.int (cd1 (f_X1_date x1 x2 x3)), .int wo, .int fu, .ref gs, .ref go, .ref gt, .ref gp, .ref gw, .double la, .double ea, .ref gl, .int ln, .int fd]))] H := by rw [e1]; exact hP
              have hD : va_D A [(am, .inr (2, [.int (cd1 (f_X1_date x1 x2 x3)), .int wo, .int fu, .ref gs, .ref go, .ref gt, .ref gp, .ref gw, .double la, .double ea, .ref gl, .int ln, .int fd]))] := by rw [e1]; exact hD
              subst hQQ
              exact W.iret hx hb hr (fun t ht hW => ⟨⟨_, (), rfl, (fun v hv => by rw [e0] at hv; cases hv), ⟨by rw [ht]; exact hP, hD⟩⟩, hS.F ht⟩) hS.2.2 dX2_date_46
