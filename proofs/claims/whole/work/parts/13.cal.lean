def mlen (i : Int32) : Int32 := ([31, 28, 31, 30, 31, 30, 31, 31, 30, 31, 30, 31] : List Int32).getD i.toNatClampNeg 0
def tens (i : Int32) : Int64 := ([1, 10, 100, 1000, 10000, 100000] : List Int64).getD i.toNatClampNeg 0
theorem ml_in {x : Int32} (h1 : ¬ x < 1) (h2 : x ≤ 12) : vp_in (x - 1) 12 := by
  have h0 : ¬ x < 0 := fun h => h1 (by rw [Int32.lt_iff_toInt_lt] at h ⊢; have : (0 : Int32).toInt = 0 := rfl; have : (1 : Int32).toInt = 1 := rfl; omega)
  obtain ⟨j, hj, rfl⟩ := nI_of2 (M := 12) (n := 12) rfl h0 h2
  have hj1 : 1 ≤ j := by
    rcases Nat.eq_zero_or_pos j with h | h
    · subst h; exact absurd (by decide) h1
    · exact h
  have e : nI j - 1 = nI (j - 1) := by
    have := pk_sub (a := j) (b := 1) hj1
    exact this
  rw [e]
  exact vp_in_nI (by omega) (by decide)
theorem tn_in {x : Int32} (h1 : ¬ x < 0) (h2 : ¬ 6 ≤ x) : vp_in x 6 := by
  have h3 : x ≤ 5 := by rw [Int32.le_iff_toInt_le] at h2 ⊢; have : (6 : Int32).toInt = 6 := rfl; have : (5 : Int32).toInt = 5 := rfl; omega
  obtain ⟨j, hj, rfl⟩ := nI_of2 (M := 5) (n := 5) rfl h1 h3
  exact vp_in_nI (by omega) (by decide)
def f_X1_monthLength (x0 : Int32) (x1 : Int32) (x2 : Int32) : Int32 := if x2 < 1 then (0) else (if x2 ≤ 12 then (if x2 = 2 then (if (f_X1_isLeap x0 x1) = 0 then (mlen (x2 - 1)) else ((mlen (x2 - 1)) + 1)) else (mlen (x2 - 1))) else (0))
set_option maxHeartbeats 4000000 in
set_option maxRecDepth 100000 in
theorem k_X1_monthLength (l : Launch) (tm tt : Nat) (x0 : Int32) (x1 : Int32) (x2 : Int32)  : Met l yX1_monthLength wsX1_monthLength ({ frames := 1, cells := 0, slots := 0, locals := 21 }) (fun v U => v = ([.int x0, .int x1, .int x2] : List Value).toArray ∧ GE tm tt (fun _ => False) U U.heap) (vp_Si (fun r => r = f_X1_monthLength x0 x1 x2)) 0 0 (fun _ => False) := by
  refine Met.ofW (cc := cX1_monthLength) (maxL := 4) (ret := (some .int)) (by decide) rfl ?_
  intro p e s m args below meth c s₁ B hml hv
  obtain ⟨rfl, hE⟩ := hv
  have hS : va_S (fun _ => False) s.heap s.heap [] := va_S.rf
  have hx := B.exec
  have hb := B.bytes
  have hr := B.returns
  have hts := atoms_spec (ws := wsX1_monthLength) B.pre
  have hown : s.vm.findClass RX1 = some m.cls := findClass_of_methodNamed B.named
  have hlocks := B.notSynchronized
  have hl := lv_entry ([.int x0, .int x1, .int x2]) (n := 4) (Nat.le_of_ble_eq_true rfl)
  rw [lg_entry_eq]
  generalize (lg_sl ([.int x0, .int x1, .int x2]) ++ List.replicate (4 - (lg_sl ([.int x0, .int x1, .int x2])).length) Slot.unset).toArray = ls at hl ⊢
  have hl : lv_has ls 4 [(0, .int x0), (1, .int x1), (2, .int x2)] := hl
  refine lv_iload_n hx hb dX1_monthLength_0 rfl (lv_at hl 2 rfl) ?_
  refine lv_iconst (v := 1) hx hb dX1_monthLength_1 (by decide) ?_
  refine lv_icmp_lt (tgt := 13) hx hb dX1_monthLength_2 (by decide) (fun c_1 => ?_) (fun c_1 => ?_)
  · refine lv_iconst (v := 0) hx hb dX1_monthLength_13 (by decide) ?_
    exact W.iret hx hb hr (fun t ht _ => ⟨_, rfl, (by unfold f_X1_monthLength; rw [if_pos c_1]), ht⟩) (fun _ h => nomatch h) dX1_monthLength_14
  · refine lv_iload_n hx hb dX1_monthLength_5 rfl (lv_at hl 2 rfl) ?_
    refine va_gets hx hb hE.2.2.1.1 hS hown (hts (.fieldLink RX1 110 "SkyAlmanac" "MONTH_LENGTHS" "[I") (by decide +kernel)) (fun _ h => h) dX1_monthLength_6 ?_
    refine va_tlen (v := 12) hx hb hE.2.2.1.2 hS (by decide) dX1_monthLength_9 ?_
    refine lv_icmp_le (tgt := 15) hx hb dX1_monthLength_10 (by decide) (fun c_2 => ?_) (fun c_2 => ?_)
    · refine va_gets hx hb hE.2.2.1.1 hS hown (hts (.fieldLink RX1 110 "SkyAlmanac" "MONTH_LENGTHS" "[I") (by decide +kernel)) (fun _ h => h) dX1_monthLength_15 ?_
      refine lv_iload_n hx hb dX1_monthLength_18 rfl (lv_at hl 2 rfl) ?_
      refine lv_iconst (v := 1) hx hb dX1_monthLength_19 (by decide) ?_
      refine lv_isub hx hb dX1_monthLength_20 ?_
      refine va_ti (v := .int (mlen (x2 - 1))) hx hb hE.2.2.1.2 hS (ml_in c_1 c_2) rfl dX1_monthLength_21 ?_
      refine lv_istore_n (lv' := [(3, .int (mlen (x2 - 1))), (0, .int x0), (1, .int x1), (2, .int x2)]) hx hb dX1_monthLength_22 rfl hl (by decide) rfl (fun ls hl => ?_)
      refine lv_iload_n hx hb dX1_monthLength_23 rfl (lv_at hl 3 rfl) ?_
      refine lv_iconst (v := 2) hx hb dX1_monthLength_24 (by decide) ?_
      refine lv_icmp_ne (tgt := 42) hx hb dX1_monthLength_25 (by decide) (fun c_3 => ?_) (fun c_3 => ?_)
      · refine lv_iload_n hx hb dX1_monthLength_42 rfl (lv_at hl 0 rfl) ?_
        exact W.iret hx hb hr (fun t ht _ => ⟨_, rfl, (by unfold f_X1_monthLength; rw [if_neg c_1, if_pos c_2, if_neg c_3]), ht⟩) (fun _ h => nomatch h) dX1_monthLength_43
      · refine lv_iload_n hx hb dX1_monthLength_28 rfl (lv_at hl 1 rfl) ?_
        refine lv_iload_n hx hb dX1_monthLength_29 rfl (lv_at hl 2 rfl) ?_
        refine vp_callSi (W.runS (As := [.int x0, .int x1]) (rest := []) ⟨hx, hb, hml, hown, hts⟩ (k_X1_isLeap l x0 x1) (va_cwS 2 hts gX1_monthLength_X1_isLeap rfl rfl rfl (by decide +kernel) ⟨Nat.le_of_ble_eq_true rfl, Nat.le_of_ble_eq_true rfl⟩) preEq rfl rfl hl.1 rfl (lv_room (Nat.le_of_ble_eq_true rfl)) dX1_monthLength_30 ⟨Nat.zero_le _, Nat.zero_le _⟩) (fun r hr9 => ?_)
        obtain rfl := hr9
        refine lv_if_eq (tgt := 42) hx hb dX1_monthLength_33 (by decide) (fun c_4 => ?_) (fun c_4 => ?_)
        · refine lv_iload_n hx hb dX1_monthLength_42 rfl (lv_at hl 0 rfl) ?_
          exact W.iret hx hb hr (fun t ht _ => ⟨_, rfl, (by unfold f_X1_monthLength; rw [if_neg c_1, if_pos c_2, if_pos c_3, if_pos c_4]), ht⟩) (fun _ h => nomatch h) dX1_monthLength_43
        · refine lv_iload_n hx hb dX1_monthLength_36 rfl (lv_at hl 0 rfl) ?_
          refine lv_iconst (v := 1) hx hb dX1_monthLength_37 (by decide) ?_
          refine lv_iadd hx hb dX1_monthLength_38 ?_
          refine lv_goto (tgt := 43) hx hb dX1_monthLength_39 (by decide) ?_
          exact W.iret hx hb hr (fun t ht _ => ⟨_, rfl, (by unfold f_X1_monthLength; rw [if_neg c_1, if_pos c_2, if_pos c_3, if_neg c_4]), ht⟩) (fun _ h => nomatch h) dX1_monthLength_43
    · refine lv_iconst (v := 0) hx hb dX1_monthLength_13 (by decide) ?_
      exact W.iret hx hb hr (fun t ht _ => ⟨_, rfl, (by unfold f_X1_monthLength; rw [if_neg c_1, if_neg c_2]), ht⟩) (fun _ h => nomatch h) dX1_monthLength_14

def f_X1_tenToThe (x0 : Int32) : Int64 := if x0 < 0 then (1) else (if 6 ≤ x0 then (1) else (tens x0))
set_option maxHeartbeats 4000000 in
set_option maxRecDepth 100000 in
theorem k_X1_tenToThe (l : Launch) (tm tt : Nat) (x0 : Int32)  : Met l yX1_tenToThe wsX1_tenToThe ({ frames := 0, cells := 0, slots := 0, locals := 0 }) (fun v U => v = ([.int x0] : List Value).toArray ∧ GE tm tt (fun _ => False) U U.heap) (vp_Sl (fun r => r = f_X1_tenToThe x0)) 0 0 (fun _ => False) := by
  refine Met.ofW (cc := cX1_tenToThe) (maxL := 1) (ret := (some .long)) (by decide) rfl ?_
  intro p e s m args below meth c s₁ B hml hv
  obtain ⟨rfl, hE⟩ := hv
  have hS : va_S (fun _ => False) s.heap s.heap [] := va_S.rf
  have hx := B.exec
  have hb := B.bytes
  have hr := B.returns
  have hts := atoms_spec (ws := wsX1_tenToThe) B.pre
  have hown : s.vm.findClass RX1 = some m.cls := findClass_of_methodNamed B.named
  have hlocks := B.notSynchronized
  have hl := lv_entry ([.int x0]) (n := 1) (Nat.le_of_ble_eq_true rfl)
  rw [lg_entry_eq]
  generalize (lg_sl ([.int x0]) ++ List.replicate (1 - (lg_sl ([.int x0])).length) Slot.unset).toArray = ls at hl ⊢
  have hl : lv_has ls 1 [(0, .int x0)] := hl
  refine lv_iload_n hx hb dX1_tenToThe_0 rfl (lv_at hl 0 rfl) ?_
  refine lv_if_lt (tgt := 20) hx hb dX1_tenToThe_1 (by decide) (fun c_1 => ?_) (fun c_1 => ?_)
  · refine lv_lconst (v := 1) hx hb dX1_tenToThe_20 (by decide) ?_
    exact W.lret hx hb hr (fun t ht _ => ⟨_, rfl, (by unfold f_X1_tenToThe; rw [if_pos c_1]), ht⟩) (fun _ h => nomatch h) dX1_tenToThe_21
  · refine lv_iload_n hx hb dX1_tenToThe_4 rfl (lv_at hl 0 rfl) ?_
    refine va_gets hx hb hE.2.2.2.1 hS hown (hts (.fieldLink RX1 353 "SkyAlmanac" "TENS" "[J") (by decide +kernel)) (fun _ h => h) dX1_tenToThe_5 ?_
    refine va_tlen (v := 6) hx hb hE.2.2.2.2 hS (by decide) dX1_tenToThe_8 ?_
    refine lv_icmp_ge (tgt := 20) hx hb dX1_tenToThe_9 (by decide) (fun c_2 => ?_) (fun c_2 => ?_)
    · refine lv_lconst (v := 1) hx hb dX1_tenToThe_20 (by decide) ?_
      exact W.lret hx hb hr (fun t ht _ => ⟨_, rfl, (by unfold f_X1_tenToThe; rw [if_neg c_1, if_pos c_2]), ht⟩) (fun _ h => nomatch h) dX1_tenToThe_21
    · refine va_gets hx hb hE.2.2.2.1 hS hown (hts (.fieldLink RX1 353 "SkyAlmanac" "TENS" "[J") (by decide +kernel)) (fun _ h => h) dX1_tenToThe_12 ?_
      refine lv_iload_n hx hb dX1_tenToThe_15 rfl (lv_at hl 0 rfl) ?_
      refine va_tl (v := .long (tens x0)) hx hb hE.2.2.2.2 hS (tn_in c_1 c_2) rfl dX1_tenToThe_16 ?_
      refine lv_goto (tgt := 21) hx hb dX1_tenToThe_17 (by decide) ?_
      exact W.lret hx hb hr (fun t ht _ => ⟨_, rfl, (by unfold f_X1_tenToThe; rw [if_neg c_1, if_neg c_2]), ht⟩) (fun _ h => nomatch h) dX1_tenToThe_21

def f_X1_daysBeforeMonth (x0 : Int32) (x1 : Int32) (x2 : Int32) : Int32 := if x2 ≤ 1 then (0) else (if x2 ≤ 2 then (0 + (f_X1_monthLength x0 x1 1)) else (if x2 ≤ 3 then ((0 + (f_X1_monthLength x0 x1 1)) + (f_X1_monthLength x0 x1 2)) else (if x2 ≤ 4 then (((0 + (f_X1_monthLength x0 x1 1)) + (f_X1_monthLength x0 x1 2)) + (f_X1_monthLength x0 x1 3)) else (if x2 ≤ 5 then ((((0 + (f_X1_monthLength x0 x1 1)) + (f_X1_monthLength x0 x1 2)) + (f_X1_monthLength x0 x1 3)) + (f_X1_monthLength x0 x1 4)) else (if x2 ≤ 6 then (((((0 + (f_X1_monthLength x0 x1 1)) + (f_X1_monthLength x0 x1 2)) + (f_X1_monthLength x0 x1 3)) + (f_X1_monthLength x0 x1 4)) + (f_X1_monthLength x0 x1 5)) else (if x2 ≤ 7 then ((((((0 + (f_X1_monthLength x0 x1 1)) + (f_X1_monthLength x0 x1 2)) + (f_X1_monthLength x0 x1 3)) + (f_X1_monthLength x0 x1 4)) + (f_X1_monthLength x0 x1 5)) + (f_X1_monthLength x0 x1 6)) else (if x2 ≤ 8 then (((((((0 + (f_X1_monthLength x0 x1 1)) + (f_X1_monthLength x0 x1 2)) + (f_X1_monthLength x0 x1 3)) + (f_X1_monthLength x0 x1 4)) + (f_X1_monthLength x0 x1 5)) + (f_X1_monthLength x0 x1 6)) + (f_X1_monthLength x0 x1 7)) else (if x2 ≤ 9 then ((((((((0 + (f_X1_monthLength x0 x1 1)) + (f_X1_monthLength x0 x1 2)) + (f_X1_monthLength x0 x1 3)) + (f_X1_monthLength x0 x1 4)) + (f_X1_monthLength x0 x1 5)) + (f_X1_monthLength x0 x1 6)) + (f_X1_monthLength x0 x1 7)) + (f_X1_monthLength x0 x1 8)) else (if x2 ≤ 10 then (((((((((0 + (f_X1_monthLength x0 x1 1)) + (f_X1_monthLength x0 x1 2)) + (f_X1_monthLength x0 x1 3)) + (f_X1_monthLength x0 x1 4)) + (f_X1_monthLength x0 x1 5)) + (f_X1_monthLength x0 x1 6)) + (f_X1_monthLength x0 x1 7)) + (f_X1_monthLength x0 x1 8)) + (f_X1_monthLength x0 x1 9)) else (if x2 ≤ 11 then ((((((((((0 + (f_X1_monthLength x0 x1 1)) + (f_X1_monthLength x0 x1 2)) + (f_X1_monthLength x0 x1 3)) + (f_X1_monthLength x0 x1 4)) + (f_X1_monthLength x0 x1 5)) + (f_X1_monthLength x0 x1 6)) + (f_X1_monthLength x0 x1 7)) + (f_X1_monthLength x0 x1 8)) + (f_X1_monthLength x0 x1 9)) + (f_X1_monthLength x0 x1 10)) else (if x2 ≤ 12 then (((((((((((0 + (f_X1_monthLength x0 x1 1)) + (f_X1_monthLength x0 x1 2)) + (f_X1_monthLength x0 x1 3)) + (f_X1_monthLength x0 x1 4)) + (f_X1_monthLength x0 x1 5)) + (f_X1_monthLength x0 x1 6)) + (f_X1_monthLength x0 x1 7)) + (f_X1_monthLength x0 x1 8)) + (f_X1_monthLength x0 x1 9)) + (f_X1_monthLength x0 x1 10)) + (f_X1_monthLength x0 x1 11)) else (if x2 ≤ 13 then ((((((((((((0 + (f_X1_monthLength x0 x1 1)) + (f_X1_monthLength x0 x1 2)) + (f_X1_monthLength x0 x1 3)) + (f_X1_monthLength x0 x1 4)) + (f_X1_monthLength x0 x1 5)) + (f_X1_monthLength x0 x1 6)) + (f_X1_monthLength x0 x1 7)) + (f_X1_monthLength x0 x1 8)) + (f_X1_monthLength x0 x1 9)) + (f_X1_monthLength x0 x1 10)) + (f_X1_monthLength x0 x1 11)) + (f_X1_monthLength x0 x1 12)) else ((((((((((((0 + (f_X1_monthLength x0 x1 1)) + (f_X1_monthLength x0 x1 2)) + (f_X1_monthLength x0 x1 3)) + (f_X1_monthLength x0 x1 4)) + (f_X1_monthLength x0 x1 5)) + (f_X1_monthLength x0 x1 6)) + (f_X1_monthLength x0 x1 7)) + (f_X1_monthLength x0 x1 8)) + (f_X1_monthLength x0 x1 9)) + (f_X1_monthLength x0 x1 10)) + (f_X1_monthLength x0 x1 11)) + (f_X1_monthLength x0 x1 12))))))))))))))
set_option maxHeartbeats 4000000 in
set_option maxRecDepth 100000 in
theorem k_X1_daysBeforeMonth (l : Launch) (tm tt : Nat) (x0 : Int32) (x1 : Int32) (x2 : Int32)  : Met l yX1_daysBeforeMonth wsX1_daysBeforeMonth ({ frames := 2, cells := 0, slots := 0, locals := 44 }) (fun v U => v = ([.int x0, .int x1, .int x2] : List Value).toArray ∧ GE tm tt (fun _ => False) U U.heap) (vp_Si (fun r => r = f_X1_daysBeforeMonth x0 x1 x2)) 0 0 (fun _ => False) := by
  refine Met.ofW (cc := cX1_daysBeforeMonth) (maxL := 5) (ret := (some .int)) (by decide) rfl ?_
  intro p e s m args below meth c s₁ B hml hv
  obtain ⟨rfl, hE⟩ := hv
  have hS : va_S (fun _ => False) s.heap s.heap [] := va_S.rf
  have hx := B.exec
  have hb := B.bytes
  have hr := B.returns
  have hts := atoms_spec (ws := wsX1_daysBeforeMonth) B.pre
  have hown : s.vm.findClass RX1 = some m.cls := findClass_of_methodNamed B.named
  have hlocks := B.notSynchronized
  have hl := lv_entry ([.int x0, .int x1, .int x2]) (n := 5) (Nat.le_of_ble_eq_true rfl)
  rw [lg_entry_eq]
  generalize (lg_sl ([.int x0, .int x1, .int x2]) ++ List.replicate (5 - (lg_sl ([.int x0, .int x1, .int x2])).length) Slot.unset).toArray = ls at hl ⊢
  have hl : lv_has ls 5 [(0, .int x0), (1, .int x1), (2, .int x2)] := hl
  refine lv_iconst (v := 0) hx hb dX1_daysBeforeMonth_0 (by decide) ?_
  refine lv_istore_n (lv' := [(3, .int 0), (0, .int x0), (1, .int x1), (2, .int x2)]) hx hb dX1_daysBeforeMonth_1 rfl hl (by decide) rfl (fun ls hl => ?_)
  refine lv_iconst (v := 1) hx hb dX1_daysBeforeMonth_2 (by decide) ?_
  refine lv_istore (lv' := [(4, .int 1), (3, .int 0), (0, .int x0), (1, .int x1), (2, .int x2)]) hx hb dX1_daysBeforeMonth_3 hl (by decide) rfl (fun ls hl => ?_)
  refine lv_iload hx hb dX1_daysBeforeMonth_5 (lv_at hl 0 rfl) ?_
  refine lv_iload_n hx hb dX1_daysBeforeMonth_7 rfl (lv_at hl 4 rfl) ?_
  refine lv_icmp_ge (tgt := 36) hx hb dX1_daysBeforeMonth_8 (by decide) (fun c_1 => ?_) (fun c_1 => ?_)
  · refine lv_iload_n hx hb dX1_daysBeforeMonth_36 rfl (lv_at hl 1 rfl) ?_
    exact W.iret hx hb hr (fun t ht _ => ⟨_, rfl, (by unfold f_X1_daysBeforeMonth; rw [if_pos c_1]), ht⟩) (fun _ h => nomatch h) dX1_daysBeforeMonth_37
  · refine lv_iload hx hb dX1_daysBeforeMonth_11 (lv_at hl 0 rfl) ?_
    refine va_gets hx hb hE.2.2.1.1 hS hown (hts (.fieldLink RX1 110 "SkyAlmanac" "MONTH_LENGTHS" "[I") (by decide +kernel)) (fun _ h => h) dX1_daysBeforeMonth_13 ?_
    refine va_tlen (v := 12) hx hb hE.2.2.1.2 hS (by decide) dX1_daysBeforeMonth_16 ?_
    refine lv_icmp_gt (tgt := 36) hx hb dX1_daysBeforeMonth_17 (by decide) (fun c_2 => absurd c_2 (by decide)) (fun _ => ?_)
    refine lv_iload_n hx hb dX1_daysBeforeMonth_20 rfl (lv_at hl 1 rfl) ?_
    refine lv_iload_n hx hb dX1_daysBeforeMonth_21 rfl (lv_at hl 2 rfl) ?_
    refine lv_iload_n hx hb dX1_daysBeforeMonth_22 rfl (lv_at hl 3 rfl) ?_
    refine lv_iload hx hb dX1_daysBeforeMonth_23 (lv_at hl 0 rfl) ?_
    refine vp_callSi (W.runS (As := [.int x0, .int x1, .int 1]) (rest := [.int 0]) ⟨hx, hb, hml, hown, hts⟩ (k_X1_monthLength l tm tt x0 x1 1) (va_cwS 3 hts gX1_daysBeforeMonth_X1_monthLength rfl rfl rfl (by decide +kernel) ⟨Nat.le_of_ble_eq_true rfl, Nat.le_of_ble_eq_true rfl⟩) ⟨(fun a U g9 mk q => ⟨q.1, GE.same (s := U) (U := U.calling g9 mk a) rfl q.2⟩), fun U hU hW => ⟨rfl, hE.give hS (fun _ h => h.elim) hU hW⟩⟩ rfl rfl hl.1 rfl (lv_room (Nat.le_of_ble_eq_true rfl)) dX1_daysBeforeMonth_25 ⟨Nat.zero_le _, Nat.zero_le _⟩) (fun r hr9 => ?_)
    obtain rfl := hr9
    refine lv_iadd hx hb dX1_daysBeforeMonth_28 ?_
    refine lv_istore_n (lv' := [(3, .int (0 + (f_X1_monthLength x0 x1 1))), (4, .int 1), (0, .int x0), (1, .int x1), (2, .int x2)]) hx hb dX1_daysBeforeMonth_29 rfl hl (by decide) rfl (fun ls hl => ?_)
    refine lv_iinc (v := 2) (lv' := [(4, .int 2), (3, .int (0 + (f_X1_monthLength x0 x1 1))), (0, .int x0), (1, .int x1), (2, .int x2)]) hx hb dX1_daysBeforeMonth_30 hl (k := 1) rfl (by first | rfl | decide) (by decide) rfl (fun ls hl => ?_)
    refine lv_goto (tgt := 5) hx hb dX1_daysBeforeMonth_33 (by decide) ?_
    refine lv_iload hx hb dX1_daysBeforeMonth_5 (lv_at hl 0 rfl) ?_
    refine lv_iload_n hx hb dX1_daysBeforeMonth_7 rfl (lv_at hl 4 rfl) ?_
    refine lv_icmp_ge (tgt := 36) hx hb dX1_daysBeforeMonth_8 (by decide) (fun c_3 => ?_) (fun c_3 => ?_)
    · refine lv_iload_n hx hb dX1_daysBeforeMonth_36 rfl (lv_at hl 1 rfl) ?_
      exact W.iret hx hb hr (fun t ht _ => ⟨_, rfl, (by unfold f_X1_daysBeforeMonth; rw [if_neg c_1, if_pos c_3]), ht⟩) (fun _ h => nomatch h) dX1_daysBeforeMonth_37
    · refine lv_iload hx hb dX1_daysBeforeMonth_11 (lv_at hl 0 rfl) ?_
      refine va_gets hx hb hE.2.2.1.1 hS hown (hts (.fieldLink RX1 110 "SkyAlmanac" "MONTH_LENGTHS" "[I") (by decide +kernel)) (fun _ h => h) dX1_daysBeforeMonth_13 ?_
      refine va_tlen (v := 12) hx hb hE.2.2.1.2 hS (by decide) dX1_daysBeforeMonth_16 ?_
      refine lv_icmp_gt (tgt := 36) hx hb dX1_daysBeforeMonth_17 (by decide) (fun c_4 => absurd c_4 (by decide)) (fun _ => ?_)
      refine lv_iload_n hx hb dX1_daysBeforeMonth_20 rfl (lv_at hl 1 rfl) ?_
      refine lv_iload_n hx hb dX1_daysBeforeMonth_21 rfl (lv_at hl 2 rfl) ?_
      refine lv_iload_n hx hb dX1_daysBeforeMonth_22 rfl (lv_at hl 3 rfl) ?_
      refine lv_iload hx hb dX1_daysBeforeMonth_23 (lv_at hl 0 rfl) ?_
      refine vp_callSi (W.runS (As := [.int x0, .int x1, .int 2]) (rest := [.int (0 + (f_X1_monthLength x0 x1 1))]) ⟨hx, hb, hml, hown, hts⟩ (k_X1_monthLength l tm tt x0 x1 2) (va_cwS 3 hts gX1_daysBeforeMonth_X1_monthLength rfl rfl rfl (by decide +kernel) ⟨Nat.le_of_ble_eq_true rfl, Nat.le_of_ble_eq_true rfl⟩) ⟨(fun a U g9 mk q => ⟨q.1, GE.same (s := U) (U := U.calling g9 mk a) rfl q.2⟩), fun U hU hW => ⟨rfl, hE.give hS (fun _ h => h.elim) hU hW⟩⟩ rfl rfl hl.1 rfl (lv_room (Nat.le_of_ble_eq_true rfl)) dX1_daysBeforeMonth_25 ⟨Nat.zero_le _, Nat.zero_le _⟩) (fun r hr9 => ?_)
      obtain rfl := hr9
      refine lv_iadd hx hb dX1_daysBeforeMonth_28 ?_
      refine lv_istore_n (lv' := [(3, .int ((0 + (f_X1_monthLength x0 x1 1)) + (f_X1_monthLength x0 x1 2))), (4, .int 2), (0, .int x0), (1, .int x1), (2, .int x2)]) hx hb dX1_daysBeforeMonth_29 rfl hl (by decide) rfl (fun ls hl => ?_)
      refine lv_iinc (v := 3) (lv' := [(4, .int 3), (3, .int ((0 + (f_X1_monthLength x0 x1 1)) + (f_X1_monthLength x0 x1 2))), (0, .int x0), (1, .int x1), (2, .int x2)]) hx hb dX1_daysBeforeMonth_30 hl (k := 1) rfl (by first | rfl | decide) (by decide) rfl (fun ls hl => ?_)
      refine lv_goto (tgt := 5) hx hb dX1_daysBeforeMonth_33 (by decide) ?_
      refine lv_iload hx hb dX1_daysBeforeMonth_5 (lv_at hl 0 rfl) ?_
      refine lv_iload_n hx hb dX1_daysBeforeMonth_7 rfl (lv_at hl 4 rfl) ?_
      refine lv_icmp_ge (tgt := 36) hx hb dX1_daysBeforeMonth_8 (by decide) (fun c_5 => ?_) (fun c_5 => ?_)
      · refine lv_iload_n hx hb dX1_daysBeforeMonth_36 rfl (lv_at hl 1 rfl) ?_
        exact W.iret hx hb hr (fun t ht _ => ⟨_, rfl, (by unfold f_X1_daysBeforeMonth; rw [if_neg c_1, if_neg c_3, if_pos c_5]), ht⟩) (fun _ h => nomatch h) dX1_daysBeforeMonth_37
      · refine lv_iload hx hb dX1_daysBeforeMonth_11 (lv_at hl 0 rfl) ?_
        refine va_gets hx hb hE.2.2.1.1 hS hown (hts (.fieldLink RX1 110 "SkyAlmanac" "MONTH_LENGTHS" "[I") (by decide +kernel)) (fun _ h => h) dX1_daysBeforeMonth_13 ?_
        refine va_tlen (v := 12) hx hb hE.2.2.1.2 hS (by decide) dX1_daysBeforeMonth_16 ?_
        refine lv_icmp_gt (tgt := 36) hx hb dX1_daysBeforeMonth_17 (by decide) (fun c_6 => absurd c_6 (by decide)) (fun _ => ?_)
        refine lv_iload_n hx hb dX1_daysBeforeMonth_20 rfl (lv_at hl 1 rfl) ?_
        refine lv_iload_n hx hb dX1_daysBeforeMonth_21 rfl (lv_at hl 2 rfl) ?_
        refine lv_iload_n hx hb dX1_daysBeforeMonth_22 rfl (lv_at hl 3 rfl) ?_
        refine lv_iload hx hb dX1_daysBeforeMonth_23 (lv_at hl 0 rfl) ?_
        refine vp_callSi (W.runS (As := [.int x0, .int x1, .int 3]) (rest := [.int ((0 + (f_X1_monthLength x0 x1 1)) + (f_X1_monthLength x0 x1 2))]) ⟨hx, hb, hml, hown, hts⟩ (k_X1_monthLength l tm tt x0 x1 3) (va_cwS 3 hts gX1_daysBeforeMonth_X1_monthLength rfl rfl rfl (by decide +kernel) ⟨Nat.le_of_ble_eq_true rfl, Nat.le_of_ble_eq_true rfl⟩) ⟨(fun a U g9 mk q => ⟨q.1, GE.same (s := U) (U := U.calling g9 mk a) rfl q.2⟩), fun U hU hW => ⟨rfl, hE.give hS (fun _ h => h.elim) hU hW⟩⟩ rfl rfl hl.1 rfl (lv_room (Nat.le_of_ble_eq_true rfl)) dX1_daysBeforeMonth_25 ⟨Nat.zero_le _, Nat.zero_le _⟩) (fun r hr9 => ?_)
        obtain rfl := hr9
        refine lv_iadd hx hb dX1_daysBeforeMonth_28 ?_
        refine lv_istore_n (lv' := [(3, .int (((0 + (f_X1_monthLength x0 x1 1)) + (f_X1_monthLength x0 x1 2)) + (f_X1_monthLength x0 x1 3))), (4, .int 3), (0, .int x0), (1, .int x1), (2, .int x2)]) hx hb dX1_daysBeforeMonth_29 rfl hl (by decide) rfl (fun ls hl => ?_)
        refine lv_iinc (v := 4) (lv' := [(4, .int 4), (3, .int (((0 + (f_X1_monthLength x0 x1 1)) + (f_X1_monthLength x0 x1 2)) + (f_X1_monthLength x0 x1 3))), (0, .int x0), (1, .int x1), (2, .int x2)]) hx hb dX1_daysBeforeMonth_30 hl (k := 1) rfl (by first | rfl | decide) (by decide) rfl (fun ls hl => ?_)
        refine lv_goto (tgt := 5) hx hb dX1_daysBeforeMonth_33 (by decide) ?_
        refine lv_iload hx hb dX1_daysBeforeMonth_5 (lv_at hl 0 rfl) ?_
        refine lv_iload_n hx hb dX1_daysBeforeMonth_7 rfl (lv_at hl 4 rfl) ?_
        refine lv_icmp_ge (tgt := 36) hx hb dX1_daysBeforeMonth_8 (by decide) (fun c_7 => ?_) (fun c_7 => ?_)
        · refine lv_iload_n hx hb dX1_daysBeforeMonth_36 rfl (lv_at hl 1 rfl) ?_
          exact W.iret hx hb hr (fun t ht _ => ⟨_, rfl, (by unfold f_X1_daysBeforeMonth; rw [if_neg c_1, if_neg c_3, if_neg c_5, if_pos c_7]), ht⟩) (fun _ h => nomatch h) dX1_daysBeforeMonth_37
        · refine lv_iload hx hb dX1_daysBeforeMonth_11 (lv_at hl 0 rfl) ?_
          refine va_gets hx hb hE.2.2.1.1 hS hown (hts (.fieldLink RX1 110 "SkyAlmanac" "MONTH_LENGTHS" "[I") (by decide +kernel)) (fun _ h => h) dX1_daysBeforeMonth_13 ?_
          refine va_tlen (v := 12) hx hb hE.2.2.1.2 hS (by decide) dX1_daysBeforeMonth_16 ?_
          refine lv_icmp_gt (tgt := 36) hx hb dX1_daysBeforeMonth_17 (by decide) (fun c_8 => absurd c_8 (by decide)) (fun _ => ?_)
          refine lv_iload_n hx hb dX1_daysBeforeMonth_20 rfl (lv_at hl 1 rfl) ?_
          refine lv_iload_n hx hb dX1_daysBeforeMonth_21 rfl (lv_at hl 2 rfl) ?_
          refine lv_iload_n hx hb dX1_daysBeforeMonth_22 rfl (lv_at hl 3 rfl) ?_
          refine lv_iload hx hb dX1_daysBeforeMonth_23 (lv_at hl 0 rfl) ?_
          refine vp_callSi (W.runS (As := [.int x0, .int x1, .int 4]) (rest := [.int (((0 + (f_X1_monthLength x0 x1 1)) + (f_X1_monthLength x0 x1 2)) + (f_X1_monthLength x0 x1 3))]) ⟨hx, hb, hml, hown, hts⟩ (k_X1_monthLength l tm tt x0 x1 4) (va_cwS 3 hts gX1_daysBeforeMonth_X1_monthLength rfl rfl rfl (by decide +kernel) ⟨Nat.le_of_ble_eq_true rfl, Nat.le_of_ble_eq_true rfl⟩) ⟨(fun a U g9 mk q => ⟨q.1, GE.same (s := U) (U := U.calling g9 mk a) rfl q.2⟩), fun U hU hW => ⟨rfl, hE.give hS (fun _ h => h.elim) hU hW⟩⟩ rfl rfl hl.1 rfl (lv_room (Nat.le_of_ble_eq_true rfl)) dX1_daysBeforeMonth_25 ⟨Nat.zero_le _, Nat.zero_le _⟩) (fun r hr9 => ?_)
          obtain rfl := hr9
          refine lv_iadd hx hb dX1_daysBeforeMonth_28 ?_
          refine lv_istore_n (lv' := [(3, .int ((((0 + (f_X1_monthLength x0 x1 1)) + (f_X1_monthLength x0 x1 2)) + (f_X1_monthLength x0 x1 3)) + (f_X1_monthLength x0 x1 4))), (4, .int 4), (0, .int x0), (1, .int x1), (2, .int x2)]) hx hb dX1_daysBeforeMonth_29 rfl hl (by decide) rfl (fun ls hl => ?_)
          refine lv_iinc (v := 5) (lv' := [(4, .int 5), (3, .int ((((0 + (f_X1_monthLength x0 x1 1)) + (f_X1_monthLength x0 x1 2)) + (f_X1_monthLength x0 x1 3)) + (f_X1_monthLength x0 x1 4))), (0, .int x0), (1, .int x1), (2, .int x2)]) hx hb dX1_daysBeforeMonth_30 hl (k := 1) rfl (by first | rfl | decide) (by decide) rfl (fun ls hl => ?_)
          refine lv_goto (tgt := 5) hx hb dX1_daysBeforeMonth_33 (by decide) ?_
          refine lv_iload hx hb dX1_daysBeforeMonth_5 (lv_at hl 0 rfl) ?_
          refine lv_iload_n hx hb dX1_daysBeforeMonth_7 rfl (lv_at hl 4 rfl) ?_
          refine lv_icmp_ge (tgt := 36) hx hb dX1_daysBeforeMonth_8 (by decide) (fun c_9 => ?_) (fun c_9 => ?_)
          · refine lv_iload_n hx hb dX1_daysBeforeMonth_36 rfl (lv_at hl 1 rfl) ?_
            exact W.iret hx hb hr (fun t ht _ => ⟨_, rfl, (by unfold f_X1_daysBeforeMonth; rw [if_neg c_1, if_neg c_3, if_neg c_5, if_neg c_7, if_pos c_9]), ht⟩) (fun _ h => nomatch h) dX1_daysBeforeMonth_37
          · refine lv_iload hx hb dX1_daysBeforeMonth_11 (lv_at hl 0 rfl) ?_
            refine va_gets hx hb hE.2.2.1.1 hS hown (hts (.fieldLink RX1 110 "SkyAlmanac" "MONTH_LENGTHS" "[I") (by decide +kernel)) (fun _ h => h) dX1_daysBeforeMonth_13 ?_
            refine va_tlen (v := 12) hx hb hE.2.2.1.2 hS (by decide) dX1_daysBeforeMonth_16 ?_
            refine lv_icmp_gt (tgt := 36) hx hb dX1_daysBeforeMonth_17 (by decide) (fun c_10 => absurd c_10 (by decide)) (fun _ => ?_)
            refine lv_iload_n hx hb dX1_daysBeforeMonth_20 rfl (lv_at hl 1 rfl) ?_
            refine lv_iload_n hx hb dX1_daysBeforeMonth_21 rfl (lv_at hl 2 rfl) ?_
            refine lv_iload_n hx hb dX1_daysBeforeMonth_22 rfl (lv_at hl 3 rfl) ?_
            refine lv_iload hx hb dX1_daysBeforeMonth_23 (lv_at hl 0 rfl) ?_
            refine vp_callSi (W.runS (As := [.int x0, .int x1, .int 5]) (rest := [.int ((((0 + (f_X1_monthLength x0 x1 1)) + (f_X1_monthLength x0 x1 2)) + (f_X1_monthLength x0 x1 3)) + (f_X1_monthLength x0 x1 4))]) ⟨hx, hb, hml, hown, hts⟩ (k_X1_monthLength l tm tt x0 x1 5) (va_cwS 3 hts gX1_daysBeforeMonth_X1_monthLength rfl rfl rfl (by decide +kernel) ⟨Nat.le_of_ble_eq_true rfl, Nat.le_of_ble_eq_true rfl⟩) ⟨(fun a U g9 mk q => ⟨q.1, GE.same (s := U) (U := U.calling g9 mk a) rfl q.2⟩), fun U hU hW => ⟨rfl, hE.give hS (fun _ h => h.elim) hU hW⟩⟩ rfl rfl hl.1 rfl (lv_room (Nat.le_of_ble_eq_true rfl)) dX1_daysBeforeMonth_25 ⟨Nat.zero_le _, Nat.zero_le _⟩) (fun r hr9 => ?_)
            obtain rfl := hr9
            refine lv_iadd hx hb dX1_daysBeforeMonth_28 ?_
            refine lv_istore_n (lv' := [(3, .int (((((0 + (f_X1_monthLength x0 x1 1)) + (f_X1_monthLength x0 x1 2)) + (f_X1_monthLength x0 x1 3)) + (f_X1_monthLength x0 x1 4)) + (f_X1_monthLength x0 x1 5))), (4, .int 5), (0, .int x0), (1, .int x1), (2, .int x2)]) hx hb dX1_daysBeforeMonth_29 rfl hl (by decide) rfl (fun ls hl => ?_)
            refine lv_iinc (v := 6) (lv' := [(4, .int 6), (3, .int (((((0 + (f_X1_monthLength x0 x1 1)) + (f_X1_monthLength x0 x1 2)) + (f_X1_monthLength x0 x1 3)) + (f_X1_monthLength x0 x1 4)) + (f_X1_monthLength x0 x1 5))), (0, .int x0), (1, .int x1), (2, .int x2)]) hx hb dX1_daysBeforeMonth_30 hl (k := 1) rfl (by first | rfl | decide) (by decide) rfl (fun ls hl => ?_)
            refine lv_goto (tgt := 5) hx hb dX1_daysBeforeMonth_33 (by decide) ?_
            refine lv_iload hx hb dX1_daysBeforeMonth_5 (lv_at hl 0 rfl) ?_
            refine lv_iload_n hx hb dX1_daysBeforeMonth_7 rfl (lv_at hl 4 rfl) ?_
            refine lv_icmp_ge (tgt := 36) hx hb dX1_daysBeforeMonth_8 (by decide) (fun c_11 => ?_) (fun c_11 => ?_)
            · refine lv_iload_n hx hb dX1_daysBeforeMonth_36 rfl (lv_at hl 1 rfl) ?_
              exact W.iret hx hb hr (fun t ht _ => ⟨_, rfl, (by unfold f_X1_daysBeforeMonth; rw [if_neg c_1, if_neg c_3, if_neg c_5, if_neg c_7, if_neg c_9, if_pos c_11]), ht⟩) (fun _ h => nomatch h) dX1_daysBeforeMonth_37
            · refine lv_iload hx hb dX1_daysBeforeMonth_11 (lv_at hl 0 rfl) ?_
              refine va_gets hx hb hE.2.2.1.1 hS hown (hts (.fieldLink RX1 110 "SkyAlmanac" "MONTH_LENGTHS" "[I") (by decide +kernel)) (fun _ h => h) dX1_daysBeforeMonth_13 ?_
              refine va_tlen (v := 12) hx hb hE.2.2.1.2 hS (by decide) dX1_daysBeforeMonth_16 ?_
              refine lv_icmp_gt (tgt := 36) hx hb dX1_daysBeforeMonth_17 (by decide) (fun c_12 => absurd c_12 (by decide)) (fun _ => ?_)
              refine lv_iload_n hx hb dX1_daysBeforeMonth_20 rfl (lv_at hl 1 rfl) ?_
              refine lv_iload_n hx hb dX1_daysBeforeMonth_21 rfl (lv_at hl 2 rfl) ?_
              refine lv_iload_n hx hb dX1_daysBeforeMonth_22 rfl (lv_at hl 3 rfl) ?_
              refine lv_iload hx hb dX1_daysBeforeMonth_23 (lv_at hl 0 rfl) ?_
              refine vp_callSi (W.runS (As := [.int x0, .int x1, .int 6]) (rest := [.int (((((0 + (f_X1_monthLength x0 x1 1)) + (f_X1_monthLength x0 x1 2)) + (f_X1_monthLength x0 x1 3)) + (f_X1_monthLength x0 x1 4)) + (f_X1_monthLength x0 x1 5))]) ⟨hx, hb, hml, hown, hts⟩ (k_X1_monthLength l tm tt x0 x1 6) (va_cwS 3 hts gX1_daysBeforeMonth_X1_monthLength rfl rfl rfl (by decide +kernel) ⟨Nat.le_of_ble_eq_true rfl, Nat.le_of_ble_eq_true rfl⟩) ⟨(fun a U g9 mk q => ⟨q.1, GE.same (s := U) (U := U.calling g9 mk a) rfl q.2⟩), fun U hU hW => ⟨rfl, hE.give hS (fun _ h => h.elim) hU hW⟩⟩ rfl rfl hl.1 rfl (lv_room (Nat.le_of_ble_eq_true rfl)) dX1_daysBeforeMonth_25 ⟨Nat.zero_le _, Nat.zero_le _⟩) (fun r hr9 => ?_)
              obtain rfl := hr9
              refine lv_iadd hx hb dX1_daysBeforeMonth_28 ?_
              refine lv_istore_n (lv' := [(3, .int ((((((0 + (f_X1_monthLength x0 x1 1)) + (f_X1_monthLength x0 x1 2)) + (f_X1_monthLength x0 x1 3)) + (f_X1_monthLength x0 x1 4)) + (f_X1_monthLength x0 x1 5)) + (f_X1_monthLength x0 x1 6))), (4, .int 6), (0, .int x0), (1, .int x1), (2, .int x2)]) hx hb dX1_daysBeforeMonth_29 rfl hl (by decide) rfl (fun ls hl => ?_)
              refine lv_iinc (v := 7) (lv' := [(4, .int 7), (3, .int ((((((0 + (f_X1_monthLength x0 x1 1)) + (f_X1_monthLength x0 x1 2)) + (f_X1_monthLength x0 x1 3)) + (f_X1_monthLength x0 x1 4)) + (f_X1_monthLength x0 x1 5)) + (f_X1_monthLength x0 x1 6))), (0, .int x0), (1, .int x1), (2, .int x2)]) hx hb dX1_daysBeforeMonth_30 hl (k := 1) rfl (by first | rfl | decide) (by decide) rfl (fun ls hl => ?_)
              refine lv_goto (tgt := 5) hx hb dX1_daysBeforeMonth_33 (by decide) ?_
              refine lv_iload hx hb dX1_daysBeforeMonth_5 (lv_at hl 0 rfl) ?_
              refine lv_iload_n hx hb dX1_daysBeforeMonth_7 rfl (lv_at hl 4 rfl) ?_
              refine lv_icmp_ge (tgt := 36) hx hb dX1_daysBeforeMonth_8 (by decide) (fun c_13 => ?_) (fun c_13 => ?_)
              · refine lv_iload_n hx hb dX1_daysBeforeMonth_36 rfl (lv_at hl 1 rfl) ?_
                exact W.iret hx hb hr (fun t ht _ => ⟨_, rfl, (by unfold f_X1_daysBeforeMonth; rw [if_neg c_1, if_neg c_3, if_neg c_5, if_neg c_7, if_neg c_9, if_neg c_11, if_pos c_13]), ht⟩) (fun _ h => nomatch h) dX1_daysBeforeMonth_37
              · refine lv_iload hx hb dX1_daysBeforeMonth_11 (lv_at hl 0 rfl) ?_
                refine va_gets hx hb hE.2.2.1.1 hS hown (hts (.fieldLink RX1 110 "SkyAlmanac" "MONTH_LENGTHS" "[I") (by decide +kernel)) (fun _ h => h) dX1_daysBeforeMonth_13 ?_
                refine va_tlen (v := 12) hx hb hE.2.2.1.2 hS (by decide) dX1_daysBeforeMonth_16 ?_
                refine lv_icmp_gt (tgt := 36) hx hb dX1_daysBeforeMonth_17 (by decide) (fun c_14 => absurd c_14 (by decide)) (fun _ => ?_)
                refine lv_iload_n hx hb dX1_daysBeforeMonth_20 rfl (lv_at hl 1 rfl) ?_
                refine lv_iload_n hx hb dX1_daysBeforeMonth_21 rfl (lv_at hl 2 rfl) ?_
                refine lv_iload_n hx hb dX1_daysBeforeMonth_22 rfl (lv_at hl 3 rfl) ?_
                refine lv_iload hx hb dX1_daysBeforeMonth_23 (lv_at hl 0 rfl) ?_
                refine vp_callSi (W.runS (As := [.int x0, .int x1, .int 7]) (rest := [.int ((((((0 + (f_X1_monthLength x0 x1 1)) + (f_X1_monthLength x0 x1 2)) + (f_X1_monthLength x0 x1 3)) + (f_X1_monthLength x0 x1 4)) + (f_X1_monthLength x0 x1 5)) + (f_X1_monthLength x0 x1 6))]) ⟨hx, hb, hml, hown, hts⟩ (k_X1_monthLength l tm tt x0 x1 7) (va_cwS 3 hts gX1_daysBeforeMonth_X1_monthLength rfl rfl rfl (by decide +kernel) ⟨Nat.le_of_ble_eq_true rfl, Nat.le_of_ble_eq_true rfl⟩) ⟨(fun a U g9 mk q => ⟨q.1, GE.same (s := U) (U := U.calling g9 mk a) rfl q.2⟩), fun U hU hW => ⟨rfl, hE.give hS (fun _ h => h.elim) hU hW⟩⟩ rfl rfl hl.1 rfl (lv_room (Nat.le_of_ble_eq_true rfl)) dX1_daysBeforeMonth_25 ⟨Nat.zero_le _, Nat.zero_le _⟩) (fun r hr9 => ?_)
                obtain rfl := hr9
                refine lv_iadd hx hb dX1_daysBeforeMonth_28 ?_
                refine lv_istore_n (lv' := [(3, .int (((((((0 + (f_X1_monthLength x0 x1 1)) + (f_X1_monthLength x0 x1 2)) + (f_X1_monthLength x0 x1 3)) + (f_X1_monthLength x0 x1 4)) + (f_X1_monthLength x0 x1 5)) + (f_X1_monthLength x0 x1 6)) + (f_X1_monthLength x0 x1 7))), (4, .int 7), (0, .int x0), (1, .int x1), (2, .int x2)]) hx hb dX1_daysBeforeMonth_29 rfl hl (by decide) rfl (fun ls hl => ?_)
                refine lv_iinc (v := 8) (lv' := [(4, .int 8), (3, .int (((((((0 + (f_X1_monthLength x0 x1 1)) + (f_X1_monthLength x0 x1 2)) + (f_X1_monthLength x0 x1 3)) + (f_X1_monthLength x0 x1 4)) + (f_X1_monthLength x0 x1 5)) + (f_X1_monthLength x0 x1 6)) + (f_X1_monthLength x0 x1 7))), (0, .int x0), (1, .int x1), (2, .int x2)]) hx hb dX1_daysBeforeMonth_30 hl (k := 1) rfl (by first | rfl | decide) (by decide) rfl (fun ls hl => ?_)
                refine lv_goto (tgt := 5) hx hb dX1_daysBeforeMonth_33 (by decide) ?_
                refine lv_iload hx hb dX1_daysBeforeMonth_5 (lv_at hl 0 rfl) ?_
                refine lv_iload_n hx hb dX1_daysBeforeMonth_7 rfl (lv_at hl 4 rfl) ?_
                refine lv_icmp_ge (tgt := 36) hx hb dX1_daysBeforeMonth_8 (by decide) (fun c_15 => ?_) (fun c_15 => ?_)
                · refine lv_iload_n hx hb dX1_daysBeforeMonth_36 rfl (lv_at hl 1 rfl) ?_
                  exact W.iret hx hb hr (fun t ht _ => ⟨_, rfl, (by unfold f_X1_daysBeforeMonth; rw [if_neg c_1, if_neg c_3, if_neg c_5, if_neg c_7, if_neg c_9, if_neg c_11, if_neg c_13, if_pos c_15]), ht⟩) (fun _ h => nomatch h) dX1_daysBeforeMonth_37
                · refine lv_iload hx hb dX1_daysBeforeMonth_11 (lv_at hl 0 rfl) ?_
                  refine va_gets hx hb hE.2.2.1.1 hS hown (hts (.fieldLink RX1 110 "SkyAlmanac" "MONTH_LENGTHS" "[I") (by decide +kernel)) (fun _ h => h) dX1_daysBeforeMonth_13 ?_
                  refine va_tlen (v := 12) hx hb hE.2.2.1.2 hS (by decide) dX1_daysBeforeMonth_16 ?_
                  refine lv_icmp_gt (tgt := 36) hx hb dX1_daysBeforeMonth_17 (by decide) (fun c_16 => absurd c_16 (by decide)) (fun _ => ?_)
                  refine lv_iload_n hx hb dX1_daysBeforeMonth_20 rfl (lv_at hl 1 rfl) ?_
                  refine lv_iload_n hx hb dX1_daysBeforeMonth_21 rfl (lv_at hl 2 rfl) ?_
                  refine lv_iload_n hx hb dX1_daysBeforeMonth_22 rfl (lv_at hl 3 rfl) ?_
                  refine lv_iload hx hb dX1_daysBeforeMonth_23 (lv_at hl 0 rfl) ?_
                  refine vp_callSi (W.runS (As := [.int x0, .int x1, .int 8]) (rest := [.int (((((((0 + (f_X1_monthLength x0 x1 1)) + (f_X1_monthLength x0 x1 2)) + (f_X1_monthLength x0 x1 3)) + (f_X1_monthLength x0 x1 4)) + (f_X1_monthLength x0 x1 5)) + (f_X1_monthLength x0 x1 6)) + (f_X1_monthLength x0 x1 7))]) ⟨hx, hb, hml, hown, hts⟩ (k_X1_monthLength l tm tt x0 x1 8) (va_cwS 3 hts gX1_daysBeforeMonth_X1_monthLength rfl rfl rfl (by decide +kernel) ⟨Nat.le_of_ble_eq_true rfl, Nat.le_of_ble_eq_true rfl⟩) ⟨(fun a U g9 mk q => ⟨q.1, GE.same (s := U) (U := U.calling g9 mk a) rfl q.2⟩), fun U hU hW => ⟨rfl, hE.give hS (fun _ h => h.elim) hU hW⟩⟩ rfl rfl hl.1 rfl (lv_room (Nat.le_of_ble_eq_true rfl)) dX1_daysBeforeMonth_25 ⟨Nat.zero_le _, Nat.zero_le _⟩) (fun r hr9 => ?_)
                  obtain rfl := hr9
                  refine lv_iadd hx hb dX1_daysBeforeMonth_28 ?_
                  refine lv_istore_n (lv' := [(3, .int ((((((((0 + (f_X1_monthLength x0 x1 1)) + (f_X1_monthLength x0 x1 2)) + (f_X1_monthLength x0 x1 3)) + (f_X1_monthLength x0 x1 4)) + (f_X1_monthLength x0 x1 5)) + (f_X1_monthLength x0 x1 6)) + (f_X1_monthLength x0 x1 7)) + (f_X1_monthLength x0 x1 8))), (4, .int 8), (0, .int x0), (1, .int x1), (2, .int x2)]) hx hb dX1_daysBeforeMonth_29 rfl hl (by decide) rfl (fun ls hl => ?_)
                  refine lv_iinc (v := 9) (lv' := [(4, .int 9), (3, .int ((((((((0 + (f_X1_monthLength x0 x1 1)) + (f_X1_monthLength x0 x1 2)) + (f_X1_monthLength x0 x1 3)) + (f_X1_monthLength x0 x1 4)) + (f_X1_monthLength x0 x1 5)) + (f_X1_monthLength x0 x1 6)) + (f_X1_monthLength x0 x1 7)) + (f_X1_monthLength x0 x1 8))), (0, .int x0), (1, .int x1), (2, .int x2)]) hx hb dX1_daysBeforeMonth_30 hl (k := 1) rfl (by first | rfl | decide) (by decide) rfl (fun ls hl => ?_)
                  refine lv_goto (tgt := 5) hx hb dX1_daysBeforeMonth_33 (by decide) ?_
                  refine lv_iload hx hb dX1_daysBeforeMonth_5 (lv_at hl 0 rfl) ?_
                  refine lv_iload_n hx hb dX1_daysBeforeMonth_7 rfl (lv_at hl 4 rfl) ?_
                  refine lv_icmp_ge (tgt := 36) hx hb dX1_daysBeforeMonth_8 (by decide) (fun c_17 => ?_) (fun c_17 => ?_)
                  · refine lv_iload_n hx hb dX1_daysBeforeMonth_36 rfl (lv_at hl 1 rfl) ?_
                    exact W.iret hx hb hr (fun t ht _ => ⟨_, rfl, (by unfold f_X1_daysBeforeMonth; rw [if_neg c_1, if_neg c_3, if_neg c_5, if_neg c_7, if_neg c_9, if_neg c_11, if_neg c_13, if_neg c_15, if_pos c_17]), ht⟩) (fun _ h => nomatch h) dX1_daysBeforeMonth_37
                  · refine lv_iload hx hb dX1_daysBeforeMonth_11 (lv_at hl 0 rfl) ?_
                    refine va_gets hx hb hE.2.2.1.1 hS hown (hts (.fieldLink RX1 110 "SkyAlmanac" "MONTH_LENGTHS" "[I") (by decide +kernel)) (fun _ h => h) dX1_daysBeforeMonth_13 ?_
                    refine va_tlen (v := 12) hx hb hE.2.2.1.2 hS (by decide) dX1_daysBeforeMonth_16 ?_
                    refine lv_icmp_gt (tgt := 36) hx hb dX1_daysBeforeMonth_17 (by decide) (fun c_18 => absurd c_18 (by decide)) (fun _ => ?_)
                    refine lv_iload_n hx hb dX1_daysBeforeMonth_20 rfl (lv_at hl 1 rfl) ?_
                    refine lv_iload_n hx hb dX1_daysBeforeMonth_21 rfl (lv_at hl 2 rfl) ?_
                    refine lv_iload_n hx hb dX1_daysBeforeMonth_22 rfl (lv_at hl 3 rfl) ?_
                    refine lv_iload hx hb dX1_daysBeforeMonth_23 (lv_at hl 0 rfl) ?_
                    refine vp_callSi (W.runS (As := [.int x0, .int x1, .int 9]) (rest := [.int ((((((((0 + (f_X1_monthLength x0 x1 1)) + (f_X1_monthLength x0 x1 2)) + (f_X1_monthLength x0 x1 3)) + (f_X1_monthLength x0 x1 4)) + (f_X1_monthLength x0 x1 5)) + (f_X1_monthLength x0 x1 6)) + (f_X1_monthLength x0 x1 7)) + (f_X1_monthLength x0 x1 8))]) ⟨hx, hb, hml, hown, hts⟩ (k_X1_monthLength l tm tt x0 x1 9) (va_cwS 3 hts gX1_daysBeforeMonth_X1_monthLength rfl rfl rfl (by decide +kernel) ⟨Nat.le_of_ble_eq_true rfl, Nat.le_of_ble_eq_true rfl⟩) ⟨(fun a U g9 mk q => ⟨q.1, GE.same (s := U) (U := U.calling g9 mk a) rfl q.2⟩), fun U hU hW => ⟨rfl, hE.give hS (fun _ h => h.elim) hU hW⟩⟩ rfl rfl hl.1 rfl (lv_room (Nat.le_of_ble_eq_true rfl)) dX1_daysBeforeMonth_25 ⟨Nat.zero_le _, Nat.zero_le _⟩) (fun r hr9 => ?_)
                    obtain rfl := hr9
                    refine lv_iadd hx hb dX1_daysBeforeMonth_28 ?_
                    refine lv_istore_n (lv' := [(3, .int (((((((((0 + (f_X1_monthLength x0 x1 1)) + (f_X1_monthLength x0 x1 2)) + (f_X1_monthLength x0 x1 3)) + (f_X1_monthLength x0 x1 4)) + (f_X1_monthLength x0 x1 5)) + (f_X1_monthLength x0 x1 6)) + (f_X1_monthLength x0 x1 7)) + (f_X1_monthLength x0 x1 8)) + (f_X1_monthLength x0 x1 9))), (4, .int 9), (0, .int x0), (1, .int x1), (2, .int x2)]) hx hb dX1_daysBeforeMonth_29 rfl hl (by decide) rfl (fun ls hl => ?_)
                    refine lv_iinc (v := 10) (lv' := [(4, .int 10), (3, .int (((((((((0 + (f_X1_monthLength x0 x1 1)) + (f_X1_monthLength x0 x1 2)) + (f_X1_monthLength x0 x1 3)) + (f_X1_monthLength x0 x1 4)) + (f_X1_monthLength x0 x1 5)) + (f_X1_monthLength x0 x1 6)) + (f_X1_monthLength x0 x1 7)) + (f_X1_monthLength x0 x1 8)) + (f_X1_monthLength x0 x1 9))), (0, .int x0), (1, .int x1), (2, .int x2)]) hx hb dX1_daysBeforeMonth_30 hl (k := 1) rfl (by first | rfl | decide) (by decide) rfl (fun ls hl => ?_)
                    refine lv_goto (tgt := 5) hx hb dX1_daysBeforeMonth_33 (by decide) ?_
                    refine lv_iload hx hb dX1_daysBeforeMonth_5 (lv_at hl 0 rfl) ?_
                    refine lv_iload_n hx hb dX1_daysBeforeMonth_7 rfl (lv_at hl 4 rfl) ?_
                    refine lv_icmp_ge (tgt := 36) hx hb dX1_daysBeforeMonth_8 (by decide) (fun c_19 => ?_) (fun c_19 => ?_)
                    · refine lv_iload_n hx hb dX1_daysBeforeMonth_36 rfl (lv_at hl 1 rfl) ?_
                      exact W.iret hx hb hr (fun t ht _ => ⟨_, rfl, (by unfold f_X1_daysBeforeMonth; rw [if_neg c_1, if_neg c_3, if_neg c_5, if_neg c_7, if_neg c_9, if_neg c_11, if_neg c_13, if_neg c_15, if_neg c_17, if_pos c_19]), ht⟩) (fun _ h => nomatch h) dX1_daysBeforeMonth_37
                    · refine lv_iload hx hb dX1_daysBeforeMonth_11 (lv_at hl 0 rfl) ?_
                      refine va_gets hx hb hE.2.2.1.1 hS hown (hts (.fieldLink RX1 110 "SkyAlmanac" "MONTH_LENGTHS" "[I") (by decide +kernel)) (fun _ h => h) dX1_daysBeforeMonth_13 ?_
                      refine va_tlen (v := 12) hx hb hE.2.2.1.2 hS (by decide) dX1_daysBeforeMonth_16 ?_
                      refine lv_icmp_gt (tgt := 36) hx hb dX1_daysBeforeMonth_17 (by decide) (fun c_20 => absurd c_20 (by decide)) (fun _ => ?_)
                      refine lv_iload_n hx hb dX1_daysBeforeMonth_20 rfl (lv_at hl 1 rfl) ?_
                      refine lv_iload_n hx hb dX1_daysBeforeMonth_21 rfl (lv_at hl 2 rfl) ?_
                      refine lv_iload_n hx hb dX1_daysBeforeMonth_22 rfl (lv_at hl 3 rfl) ?_
                      refine lv_iload hx hb dX1_daysBeforeMonth_23 (lv_at hl 0 rfl) ?_
                      refine vp_callSi (W.runS (As := [.int x0, .int x1, .int 10]) (rest := [.int (((((((((0 + (f_X1_monthLength x0 x1 1)) + (f_X1_monthLength x0 x1 2)) + (f_X1_monthLength x0 x1 3)) + (f_X1_monthLength x0 x1 4)) + (f_X1_monthLength x0 x1 5)) + (f_X1_monthLength x0 x1 6)) + (f_X1_monthLength x0 x1 7)) + (f_X1_monthLength x0 x1 8)) + (f_X1_monthLength x0 x1 9))]) ⟨hx, hb, hml, hown, hts⟩ (k_X1_monthLength l tm tt x0 x1 10) (va_cwS 3 hts gX1_daysBeforeMonth_X1_monthLength rfl rfl rfl (by decide +kernel) ⟨Nat.le_of_ble_eq_true rfl, Nat.le_of_ble_eq_true rfl⟩) ⟨(fun a U g9 mk q => ⟨q.1, GE.same (s := U) (U := U.calling g9 mk a) rfl q.2⟩), fun U hU hW => ⟨rfl, hE.give hS (fun _ h => h.elim) hU hW⟩⟩ rfl rfl hl.1 rfl (lv_room (Nat.le_of_ble_eq_true rfl)) dX1_daysBeforeMonth_25 ⟨Nat.zero_le _, Nat.zero_le _⟩) (fun r hr9 => ?_)
                      obtain rfl := hr9
                      refine lv_iadd hx hb dX1_daysBeforeMonth_28 ?_
                      refine lv_istore_n (lv' := [(3, .int ((((((((((0 + (f_X1_monthLength x0 x1 1)) + (f_X1_monthLength x0 x1 2)) + (f_X1_monthLength x0 x1 3)) + (f_X1_monthLength x0 x1 4)) + (f_X1_monthLength x0 x1 5)) + (f_X1_monthLength x0 x1 6)) + (f_X1_monthLength x0 x1 7)) + (f_X1_monthLength x0 x1 8)) + (f_X1_monthLength x0 x1 9)) + (f_X1_monthLength x0 x1 10))), (4, .int 10), (0, .int x0), (1, .int x1), (2, .int x2)]) hx hb dX1_daysBeforeMonth_29 rfl hl (by decide) rfl (fun ls hl => ?_)
                      refine lv_iinc (v := 11) (lv' := [(4, .int 11), (3, .int ((((((((((0 + (f_X1_monthLength x0 x1 1)) + (f_X1_monthLength x0 x1 2)) + (f_X1_monthLength x0 x1 3)) + (f_X1_monthLength x0 x1 4)) + (f_X1_monthLength x0 x1 5)) + (f_X1_monthLength x0 x1 6)) + (f_X1_monthLength x0 x1 7)) + (f_X1_monthLength x0 x1 8)) + (f_X1_monthLength x0 x1 9)) + (f_X1_monthLength x0 x1 10))), (0, .int x0), (1, .int x1), (2, .int x2)]) hx hb dX1_daysBeforeMonth_30 hl (k := 1) rfl (by first | rfl | decide) (by decide) rfl (fun ls hl => ?_)
                      refine lv_goto (tgt := 5) hx hb dX1_daysBeforeMonth_33 (by decide) ?_
                      refine lv_iload hx hb dX1_daysBeforeMonth_5 (lv_at hl 0 rfl) ?_
                      refine lv_iload_n hx hb dX1_daysBeforeMonth_7 rfl (lv_at hl 4 rfl) ?_
                      refine lv_icmp_ge (tgt := 36) hx hb dX1_daysBeforeMonth_8 (by decide) (fun c_21 => ?_) (fun c_21 => ?_)
                      · refine lv_iload_n hx hb dX1_daysBeforeMonth_36 rfl (lv_at hl 1 rfl) ?_
                        exact W.iret hx hb hr (fun t ht _ => ⟨_, rfl, (by unfold f_X1_daysBeforeMonth; rw [if_neg c_1, if_neg c_3, if_neg c_5, if_neg c_7, if_neg c_9, if_neg c_11, if_neg c_13, if_neg c_15, if_neg c_17, if_neg c_19, if_pos c_21]), ht⟩) (fun _ h => nomatch h) dX1_daysBeforeMonth_37
                      · refine lv_iload hx hb dX1_daysBeforeMonth_11 (lv_at hl 0 rfl) ?_
                        refine va_gets hx hb hE.2.2.1.1 hS hown (hts (.fieldLink RX1 110 "SkyAlmanac" "MONTH_LENGTHS" "[I") (by decide +kernel)) (fun _ h => h) dX1_daysBeforeMonth_13 ?_
                        refine va_tlen (v := 12) hx hb hE.2.2.1.2 hS (by decide) dX1_daysBeforeMonth_16 ?_
                        refine lv_icmp_gt (tgt := 36) hx hb dX1_daysBeforeMonth_17 (by decide) (fun c_22 => absurd c_22 (by decide)) (fun _ => ?_)
                        refine lv_iload_n hx hb dX1_daysBeforeMonth_20 rfl (lv_at hl 1 rfl) ?_
                        refine lv_iload_n hx hb dX1_daysBeforeMonth_21 rfl (lv_at hl 2 rfl) ?_
                        refine lv_iload_n hx hb dX1_daysBeforeMonth_22 rfl (lv_at hl 3 rfl) ?_
                        refine lv_iload hx hb dX1_daysBeforeMonth_23 (lv_at hl 0 rfl) ?_
                        refine vp_callSi (W.runS (As := [.int x0, .int x1, .int 11]) (rest := [.int ((((((((((0 + (f_X1_monthLength x0 x1 1)) + (f_X1_monthLength x0 x1 2)) + (f_X1_monthLength x0 x1 3)) + (f_X1_monthLength x0 x1 4)) + (f_X1_monthLength x0 x1 5)) + (f_X1_monthLength x0 x1 6)) + (f_X1_monthLength x0 x1 7)) + (f_X1_monthLength x0 x1 8)) + (f_X1_monthLength x0 x1 9)) + (f_X1_monthLength x0 x1 10))]) ⟨hx, hb, hml, hown, hts⟩ (k_X1_monthLength l tm tt x0 x1 11) (va_cwS 3 hts gX1_daysBeforeMonth_X1_monthLength rfl rfl rfl (by decide +kernel) ⟨Nat.le_of_ble_eq_true rfl, Nat.le_of_ble_eq_true rfl⟩) ⟨(fun a U g9 mk q => ⟨q.1, GE.same (s := U) (U := U.calling g9 mk a) rfl q.2⟩), fun U hU hW => ⟨rfl, hE.give hS (fun _ h => h.elim) hU hW⟩⟩ rfl rfl hl.1 rfl (lv_room (Nat.le_of_ble_eq_true rfl)) dX1_daysBeforeMonth_25 ⟨Nat.zero_le _, Nat.zero_le _⟩) (fun r hr9 => ?_)
                        obtain rfl := hr9
                        refine lv_iadd hx hb dX1_daysBeforeMonth_28 ?_
                        refine lv_istore_n (lv' := [(3, .int (((((((((((0 + (f_X1_monthLength x0 x1 1)) + (f_X1_monthLength x0 x1 2)) + (f_X1_monthLength x0 x1 3)) + (f_X1_monthLength x0 x1 4)) + (f_X1_monthLength x0 x1 5)) + (f_X1_monthLength x0 x1 6)) + (f_X1_monthLength x0 x1 7)) + (f_X1_monthLength x0 x1 8)) + (f_X1_monthLength x0 x1 9)) + (f_X1_monthLength x0 x1 10)) + (f_X1_monthLength x0 x1 11))), (4, .int 11), (0, .int x0), (1, .int x1), (2, .int x2)]) hx hb dX1_daysBeforeMonth_29 rfl hl (by decide) rfl (fun ls hl => ?_)
                        refine lv_iinc (v := 12) (lv' := [(4, .int 12), (3, .int (((((((((((0 + (f_X1_monthLength x0 x1 1)) + (f_X1_monthLength x0 x1 2)) + (f_X1_monthLength x0 x1 3)) + (f_X1_monthLength x0 x1 4)) + (f_X1_monthLength x0 x1 5)) + (f_X1_monthLength x0 x1 6)) + (f_X1_monthLength x0 x1 7)) + (f_X1_monthLength x0 x1 8)) + (f_X1_monthLength x0 x1 9)) + (f_X1_monthLength x0 x1 10)) + (f_X1_monthLength x0 x1 11))), (0, .int x0), (1, .int x1), (2, .int x2)]) hx hb dX1_daysBeforeMonth_30 hl (k := 1) rfl (by first | rfl | decide) (by decide) rfl (fun ls hl => ?_)
                        refine lv_goto (tgt := 5) hx hb dX1_daysBeforeMonth_33 (by decide) ?_
                        refine lv_iload hx hb dX1_daysBeforeMonth_5 (lv_at hl 0 rfl) ?_
                        refine lv_iload_n hx hb dX1_daysBeforeMonth_7 rfl (lv_at hl 4 rfl) ?_
                        refine lv_icmp_ge (tgt := 36) hx hb dX1_daysBeforeMonth_8 (by decide) (fun c_23 => ?_) (fun c_23 => ?_)
                        · refine lv_iload_n hx hb dX1_daysBeforeMonth_36 rfl (lv_at hl 1 rfl) ?_
                          exact W.iret hx hb hr (fun t ht _ => ⟨_, rfl, (by unfold f_X1_daysBeforeMonth; rw [if_neg c_1, if_neg c_3, if_neg c_5, if_neg c_7, if_neg c_9, if_neg c_11, if_neg c_13, if_neg c_15, if_neg c_17, if_neg c_19, if_neg c_21, if_pos c_23]), ht⟩) (fun _ h => nomatch h) dX1_daysBeforeMonth_37
                        · refine lv_iload hx hb dX1_daysBeforeMonth_11 (lv_at hl 0 rfl) ?_
                          refine va_gets hx hb hE.2.2.1.1 hS hown (hts (.fieldLink RX1 110 "SkyAlmanac" "MONTH_LENGTHS" "[I") (by decide +kernel)) (fun _ h => h) dX1_daysBeforeMonth_13 ?_
                          refine va_tlen (v := 12) hx hb hE.2.2.1.2 hS (by decide) dX1_daysBeforeMonth_16 ?_
                          refine lv_icmp_gt (tgt := 36) hx hb dX1_daysBeforeMonth_17 (by decide) (fun c_24 => absurd c_24 (by decide)) (fun _ => ?_)
                          refine lv_iload_n hx hb dX1_daysBeforeMonth_20 rfl (lv_at hl 1 rfl) ?_
                          refine lv_iload_n hx hb dX1_daysBeforeMonth_21 rfl (lv_at hl 2 rfl) ?_
                          refine lv_iload_n hx hb dX1_daysBeforeMonth_22 rfl (lv_at hl 3 rfl) ?_
                          refine lv_iload hx hb dX1_daysBeforeMonth_23 (lv_at hl 0 rfl) ?_
                          refine vp_callSi (W.runS (As := [.int x0, .int x1, .int 12]) (rest := [.int (((((((((((0 + (f_X1_monthLength x0 x1 1)) + (f_X1_monthLength x0 x1 2)) + (f_X1_monthLength x0 x1 3)) + (f_X1_monthLength x0 x1 4)) + (f_X1_monthLength x0 x1 5)) + (f_X1_monthLength x0 x1 6)) + (f_X1_monthLength x0 x1 7)) + (f_X1_monthLength x0 x1 8)) + (f_X1_monthLength x0 x1 9)) + (f_X1_monthLength x0 x1 10)) + (f_X1_monthLength x0 x1 11))]) ⟨hx, hb, hml, hown, hts⟩ (k_X1_monthLength l tm tt x0 x1 12) (va_cwS 3 hts gX1_daysBeforeMonth_X1_monthLength rfl rfl rfl (by decide +kernel) ⟨Nat.le_of_ble_eq_true rfl, Nat.le_of_ble_eq_true rfl⟩) ⟨(fun a U g9 mk q => ⟨q.1, GE.same (s := U) (U := U.calling g9 mk a) rfl q.2⟩), fun U hU hW => ⟨rfl, hE.give hS (fun _ h => h.elim) hU hW⟩⟩ rfl rfl hl.1 rfl (lv_room (Nat.le_of_ble_eq_true rfl)) dX1_daysBeforeMonth_25 ⟨Nat.zero_le _, Nat.zero_le _⟩) (fun r hr9 => ?_)
                          obtain rfl := hr9
                          refine lv_iadd hx hb dX1_daysBeforeMonth_28 ?_
                          refine lv_istore_n (lv' := [(3, .int ((((((((((((0 + (f_X1_monthLength x0 x1 1)) + (f_X1_monthLength x0 x1 2)) + (f_X1_monthLength x0 x1 3)) + (f_X1_monthLength x0 x1 4)) + (f_X1_monthLength x0 x1 5)) + (f_X1_monthLength x0 x1 6)) + (f_X1_monthLength x0 x1 7)) + (f_X1_monthLength x0 x1 8)) + (f_X1_monthLength x0 x1 9)) + (f_X1_monthLength x0 x1 10)) + (f_X1_monthLength x0 x1 11)) + (f_X1_monthLength x0 x1 12))), (4, .int 12), (0, .int x0), (1, .int x1), (2, .int x2)]) hx hb dX1_daysBeforeMonth_29 rfl hl (by decide) rfl (fun ls hl => ?_)
                          refine lv_iinc (v := 13) (lv' := [(4, .int 13), (3, .int ((((((((((((0 + (f_X1_monthLength x0 x1 1)) + (f_X1_monthLength x0 x1 2)) + (f_X1_monthLength x0 x1 3)) + (f_X1_monthLength x0 x1 4)) + (f_X1_monthLength x0 x1 5)) + (f_X1_monthLength x0 x1 6)) + (f_X1_monthLength x0 x1 7)) + (f_X1_monthLength x0 x1 8)) + (f_X1_monthLength x0 x1 9)) + (f_X1_monthLength x0 x1 10)) + (f_X1_monthLength x0 x1 11)) + (f_X1_monthLength x0 x1 12))), (0, .int x0), (1, .int x1), (2, .int x2)]) hx hb dX1_daysBeforeMonth_30 hl (k := 1) rfl (by first | rfl | decide) (by decide) rfl (fun ls hl => ?_)
                          refine lv_goto (tgt := 5) hx hb dX1_daysBeforeMonth_33 (by decide) ?_
                          refine lv_iload hx hb dX1_daysBeforeMonth_5 (lv_at hl 0 rfl) ?_
                          refine lv_iload_n hx hb dX1_daysBeforeMonth_7 rfl (lv_at hl 4 rfl) ?_
                          refine lv_icmp_ge (tgt := 36) hx hb dX1_daysBeforeMonth_8 (by decide) (fun c_25 => ?_) (fun c_25 => ?_)
                          · refine lv_iload_n hx hb dX1_daysBeforeMonth_36 rfl (lv_at hl 1 rfl) ?_
                            exact W.iret hx hb hr (fun t ht _ => ⟨_, rfl, (by unfold f_X1_daysBeforeMonth; rw [if_neg c_1, if_neg c_3, if_neg c_5, if_neg c_7, if_neg c_9, if_neg c_11, if_neg c_13, if_neg c_15, if_neg c_17, if_neg c_19, if_neg c_21, if_neg c_23, if_pos c_25]), ht⟩) (fun _ h => nomatch h) dX1_daysBeforeMonth_37
                          · refine lv_iload hx hb dX1_daysBeforeMonth_11 (lv_at hl 0 rfl) ?_
                            refine va_gets hx hb hE.2.2.1.1 hS hown (hts (.fieldLink RX1 110 "SkyAlmanac" "MONTH_LENGTHS" "[I") (by decide +kernel)) (fun _ h => h) dX1_daysBeforeMonth_13 ?_
                            refine va_tlen (v := 12) hx hb hE.2.2.1.2 hS (by decide) dX1_daysBeforeMonth_16 ?_
                            refine lv_icmp_gt (tgt := 36) hx hb dX1_daysBeforeMonth_17 (by decide) (fun _ => ?_) (fun c_26 => absurd c_26 (by decide))
                            refine lv_iload_n hx hb dX1_daysBeforeMonth_36 rfl (lv_at hl 1 rfl) ?_
                            exact W.iret hx hb hr (fun t ht _ => ⟨_, rfl, (by unfold f_X1_daysBeforeMonth; rw [if_neg c_1, if_neg c_3, if_neg c_5, if_neg c_7, if_neg c_9, if_neg c_11, if_neg c_13, if_neg c_15, if_neg c_17, if_neg c_19, if_neg c_21, if_neg c_23, if_neg c_25]), ht⟩) (fun _ h => nomatch h) dX1_daysBeforeMonth_37

def f_X1_monthOfDayWithinYear (x0 : Int32) (x1 : Int32) (x2 : Int32) : Int32 := if (f_X1_daysBeforeMonth x0 x1 12) < x2 then (12) else (if (f_X1_daysBeforeMonth x0 x1 11) < x2 then (11) else (if (f_X1_daysBeforeMonth x0 x1 10) < x2 then (10) else (if (f_X1_daysBeforeMonth x0 x1 9) < x2 then (9) else (if (f_X1_daysBeforeMonth x0 x1 8) < x2 then (8) else (if (f_X1_daysBeforeMonth x0 x1 7) < x2 then (7) else (if (f_X1_daysBeforeMonth x0 x1 6) < x2 then (6) else (if (f_X1_daysBeforeMonth x0 x1 5) < x2 then (5) else (if (f_X1_daysBeforeMonth x0 x1 4) < x2 then (4) else (if (f_X1_daysBeforeMonth x0 x1 3) < x2 then (3) else (if (f_X1_daysBeforeMonth x0 x1 2) < x2 then (2) else (1)))))))))))
set_option maxHeartbeats 4000000 in
set_option maxRecDepth 100000 in
theorem k_X1_monthOfDayWithinYear (l : Launch) (tm tt : Nat) (x0 : Int32) (x1 : Int32) (x2 : Int32)  : Met l yX1_monthOfDayWithinYear wsX1_monthOfDayWithinYear ({ frames := 3, cells := 0, slots := 0, locals := 68 }) (fun v U => v = ([.int x0, .int x1, .int x2] : List Value).toArray ∧ GE tm tt (fun _ => False) U U.heap) (vp_Si (fun r => r = f_X1_monthOfDayWithinYear x0 x1 x2)) 0 0 (fun _ => False) := by
  refine Met.ofW (cc := cX1_monthOfDayWithinYear) (maxL := 4) (ret := (some .int)) (by decide) rfl ?_
  intro p e s m args below meth c s₁ B hml hv
  obtain ⟨rfl, hE⟩ := hv
  have hS : va_S (fun _ => False) s.heap s.heap [] := va_S.rf
  have hx := B.exec
  have hb := B.bytes
  have hr := B.returns
  have hts := atoms_spec (ws := wsX1_monthOfDayWithinYear) B.pre
  have hown : s.vm.findClass RX1 = some m.cls := findClass_of_methodNamed B.named
  have hlocks := B.notSynchronized
  have hl := lv_entry ([.int x0, .int x1, .int x2]) (n := 4) (Nat.le_of_ble_eq_true rfl)
  rw [lg_entry_eq]
  generalize (lg_sl ([.int x0, .int x1, .int x2]) ++ List.replicate (4 - (lg_sl ([.int x0, .int x1, .int x2])).length) Slot.unset).toArray = ls at hl ⊢
  have hl : lv_has ls 4 [(0, .int x0), (1, .int x1), (2, .int x2)] := hl
  refine va_gets hx hb hE.2.2.1.1 hS hown (hts (.fieldLink RX1 110 "SkyAlmanac" "MONTH_LENGTHS" "[I") (by decide +kernel)) (fun _ h => h) dX1_monthOfDayWithinYear_0 ?_
  refine va_tlen (v := 12) hx hb hE.2.2.1.2 hS (by decide) dX1_monthOfDayWithinYear_3 ?_
  refine lv_istore_n (lv' := [(3, .int 12), (0, .int x0), (1, .int x1), (2, .int x2)]) hx hb dX1_monthOfDayWithinYear_4 rfl hl (by decide) rfl (fun ls hl => ?_)
  refine lv_iload_n hx hb dX1_monthOfDayWithinYear_5 rfl (lv_at hl 0 rfl) ?_
  refine lv_iconst (v := 1) hx hb dX1_monthOfDayWithinYear_6 (by decide) ?_
  refine lv_icmp_le (tgt := 26) hx hb dX1_monthOfDayWithinYear_7 (by decide) (fun c_1 => absurd c_1 (by decide)) (fun _ => ?_)
  refine lv_iload_n hx hb dX1_monthOfDayWithinYear_10 rfl (lv_at hl 1 rfl) ?_
  refine lv_iload_n hx hb dX1_monthOfDayWithinYear_11 rfl (lv_at hl 2 rfl) ?_
  refine lv_iload_n hx hb dX1_monthOfDayWithinYear_12 rfl (lv_at hl 0 rfl) ?_
  refine vp_callSi (W.runS (As := [.int x0, .int x1, .int 12]) (rest := []) ⟨hx, hb, hml, hown, hts⟩ (k_X1_daysBeforeMonth l tm tt x0 x1 12) (va_cwS 3 hts gX1_monthOfDayWithinYear_X1_daysBeforeMonth rfl rfl rfl (by decide +kernel) ⟨Nat.le_of_ble_eq_true rfl, Nat.le_of_ble_eq_true rfl⟩) ⟨(fun a U g9 mk q => ⟨q.1, GE.same (s := U) (U := U.calling g9 mk a) rfl q.2⟩), fun U hU hW => ⟨rfl, hE.give hS (fun _ h => h.elim) hU hW⟩⟩ rfl rfl hl.1 rfl (lv_room (Nat.le_of_ble_eq_true rfl)) dX1_monthOfDayWithinYear_13 ⟨Nat.zero_le _, Nat.zero_le _⟩) (fun r hr9 => ?_)
  obtain rfl := hr9
  refine lv_iload_n hx hb dX1_monthOfDayWithinYear_16 rfl (lv_at hl 3 rfl) ?_
  refine lv_icmp_lt (tgt := 26) hx hb dX1_monthOfDayWithinYear_17 (by decide) (fun c_2 => ?_) (fun c_2 => ?_)
  · refine lv_iload_n hx hb dX1_monthOfDayWithinYear_26 rfl (lv_at hl 0 rfl) ?_
    exact W.iret hx hb hr (fun t ht _ => ⟨_, rfl, (by unfold f_X1_monthOfDayWithinYear; rw [if_pos c_2]), ht⟩) (fun _ h => nomatch h) dX1_monthOfDayWithinYear_27
  · refine lv_iinc (v := 11) (lv' := [(3, .int 11), (0, .int x0), (1, .int x1), (2, .int x2)]) hx hb dX1_monthOfDayWithinYear_20 hl (k := 0) rfl (by first | rfl | decide) (by decide) rfl (fun ls hl => ?_)
    refine lv_goto (tgt := 5) hx hb dX1_monthOfDayWithinYear_23 (by decide) ?_
    refine lv_iload_n hx hb dX1_monthOfDayWithinYear_5 rfl (lv_at hl 0 rfl) ?_
    refine lv_iconst (v := 1) hx hb dX1_monthOfDayWithinYear_6 (by decide) ?_
    refine lv_icmp_le (tgt := 26) hx hb dX1_monthOfDayWithinYear_7 (by decide) (fun c_3 => absurd c_3 (by decide)) (fun _ => ?_)
    refine lv_iload_n hx hb dX1_monthOfDayWithinYear_10 rfl (lv_at hl 1 rfl) ?_
    refine lv_iload_n hx hb dX1_monthOfDayWithinYear_11 rfl (lv_at hl 2 rfl) ?_
    refine lv_iload_n hx hb dX1_monthOfDayWithinYear_12 rfl (lv_at hl 0 rfl) ?_
    refine vp_callSi (W.runS (As := [.int x0, .int x1, .int 11]) (rest := []) ⟨hx, hb, hml, hown, hts⟩ (k_X1_daysBeforeMonth l tm tt x0 x1 11) (va_cwS 3 hts gX1_monthOfDayWithinYear_X1_daysBeforeMonth rfl rfl rfl (by decide +kernel) ⟨Nat.le_of_ble_eq_true rfl, Nat.le_of_ble_eq_true rfl⟩) ⟨(fun a U g9 mk q => ⟨q.1, GE.same (s := U) (U := U.calling g9 mk a) rfl q.2⟩), fun U hU hW => ⟨rfl, hE.give hS (fun _ h => h.elim) hU hW⟩⟩ rfl rfl hl.1 rfl (lv_room (Nat.le_of_ble_eq_true rfl)) dX1_monthOfDayWithinYear_13 ⟨Nat.zero_le _, Nat.zero_le _⟩) (fun r hr9 => ?_)
    obtain rfl := hr9
    refine lv_iload_n hx hb dX1_monthOfDayWithinYear_16 rfl (lv_at hl 3 rfl) ?_
    refine lv_icmp_lt (tgt := 26) hx hb dX1_monthOfDayWithinYear_17 (by decide) (fun c_4 => ?_) (fun c_4 => ?_)
    · refine lv_iload_n hx hb dX1_monthOfDayWithinYear_26 rfl (lv_at hl 0 rfl) ?_
      exact W.iret hx hb hr (fun t ht _ => ⟨_, rfl, (by unfold f_X1_monthOfDayWithinYear; rw [if_neg c_2, if_pos c_4]), ht⟩) (fun _ h => nomatch h) dX1_monthOfDayWithinYear_27
    · refine lv_iinc (v := 10) (lv' := [(3, .int 10), (0, .int x0), (1, .int x1), (2, .int x2)]) hx hb dX1_monthOfDayWithinYear_20 hl (k := 0) rfl (by first | rfl | decide) (by decide) rfl (fun ls hl => ?_)
      refine lv_goto (tgt := 5) hx hb dX1_monthOfDayWithinYear_23 (by decide) ?_
      refine lv_iload_n hx hb dX1_monthOfDayWithinYear_5 rfl (lv_at hl 0 rfl) ?_
      refine lv_iconst (v := 1) hx hb dX1_monthOfDayWithinYear_6 (by decide) ?_
      refine lv_icmp_le (tgt := 26) hx hb dX1_monthOfDayWithinYear_7 (by decide) (fun c_5 => absurd c_5 (by decide)) (fun _ => ?_)
      refine lv_iload_n hx hb dX1_monthOfDayWithinYear_10 rfl (lv_at hl 1 rfl) ?_
      refine lv_iload_n hx hb dX1_monthOfDayWithinYear_11 rfl (lv_at hl 2 rfl) ?_
      refine lv_iload_n hx hb dX1_monthOfDayWithinYear_12 rfl (lv_at hl 0 rfl) ?_
      refine vp_callSi (W.runS (As := [.int x0, .int x1, .int 10]) (rest := []) ⟨hx, hb, hml, hown, hts⟩ (k_X1_daysBeforeMonth l tm tt x0 x1 10) (va_cwS 3 hts gX1_monthOfDayWithinYear_X1_daysBeforeMonth rfl rfl rfl (by decide +kernel) ⟨Nat.le_of_ble_eq_true rfl, Nat.le_of_ble_eq_true rfl⟩) ⟨(fun a U g9 mk q => ⟨q.1, GE.same (s := U) (U := U.calling g9 mk a) rfl q.2⟩), fun U hU hW => ⟨rfl, hE.give hS (fun _ h => h.elim) hU hW⟩⟩ rfl rfl hl.1 rfl (lv_room (Nat.le_of_ble_eq_true rfl)) dX1_monthOfDayWithinYear_13 ⟨Nat.zero_le _, Nat.zero_le _⟩) (fun r hr9 => ?_)
      obtain rfl := hr9
      refine lv_iload_n hx hb dX1_monthOfDayWithinYear_16 rfl (lv_at hl 3 rfl) ?_
      refine lv_icmp_lt (tgt := 26) hx hb dX1_monthOfDayWithinYear_17 (by decide) (fun c_6 => ?_) (fun c_6 => ?_)
      · refine lv_iload_n hx hb dX1_monthOfDayWithinYear_26 rfl (lv_at hl 0 rfl) ?_
        exact W.iret hx hb hr (fun t ht _ => ⟨_, rfl, (by unfold f_X1_monthOfDayWithinYear; rw [if_neg c_2, if_neg c_4, if_pos c_6]), ht⟩) (fun _ h => nomatch h) dX1_monthOfDayWithinYear_27
      · refine lv_iinc (v := 9) (lv' := [(3, .int 9), (0, .int x0), (1, .int x1), (2, .int x2)]) hx hb dX1_monthOfDayWithinYear_20 hl (k := 0) rfl (by first | rfl | decide) (by decide) rfl (fun ls hl => ?_)
        refine lv_goto (tgt := 5) hx hb dX1_monthOfDayWithinYear_23 (by decide) ?_
        refine lv_iload_n hx hb dX1_monthOfDayWithinYear_5 rfl (lv_at hl 0 rfl) ?_
        refine lv_iconst (v := 1) hx hb dX1_monthOfDayWithinYear_6 (by decide) ?_
        refine lv_icmp_le (tgt := 26) hx hb dX1_monthOfDayWithinYear_7 (by decide) (fun c_7 => absurd c_7 (by decide)) (fun _ => ?_)
        refine lv_iload_n hx hb dX1_monthOfDayWithinYear_10 rfl (lv_at hl 1 rfl) ?_
        refine lv_iload_n hx hb dX1_monthOfDayWithinYear_11 rfl (lv_at hl 2 rfl) ?_
        refine lv_iload_n hx hb dX1_monthOfDayWithinYear_12 rfl (lv_at hl 0 rfl) ?_
        refine vp_callSi (W.runS (As := [.int x0, .int x1, .int 9]) (rest := []) ⟨hx, hb, hml, hown, hts⟩ (k_X1_daysBeforeMonth l tm tt x0 x1 9) (va_cwS 3 hts gX1_monthOfDayWithinYear_X1_daysBeforeMonth rfl rfl rfl (by decide +kernel) ⟨Nat.le_of_ble_eq_true rfl, Nat.le_of_ble_eq_true rfl⟩) ⟨(fun a U g9 mk q => ⟨q.1, GE.same (s := U) (U := U.calling g9 mk a) rfl q.2⟩), fun U hU hW => ⟨rfl, hE.give hS (fun _ h => h.elim) hU hW⟩⟩ rfl rfl hl.1 rfl (lv_room (Nat.le_of_ble_eq_true rfl)) dX1_monthOfDayWithinYear_13 ⟨Nat.zero_le _, Nat.zero_le _⟩) (fun r hr9 => ?_)
        obtain rfl := hr9
        refine lv_iload_n hx hb dX1_monthOfDayWithinYear_16 rfl (lv_at hl 3 rfl) ?_
        refine lv_icmp_lt (tgt := 26) hx hb dX1_monthOfDayWithinYear_17 (by decide) (fun c_8 => ?_) (fun c_8 => ?_)
        · refine lv_iload_n hx hb dX1_monthOfDayWithinYear_26 rfl (lv_at hl 0 rfl) ?_
          exact W.iret hx hb hr (fun t ht _ => ⟨_, rfl, (by unfold f_X1_monthOfDayWithinYear; rw [if_neg c_2, if_neg c_4, if_neg c_6, if_pos c_8]), ht⟩) (fun _ h => nomatch h) dX1_monthOfDayWithinYear_27
        · refine lv_iinc (v := 8) (lv' := [(3, .int 8), (0, .int x0), (1, .int x1), (2, .int x2)]) hx hb dX1_monthOfDayWithinYear_20 hl (k := 0) rfl (by first | rfl | decide) (by decide) rfl (fun ls hl => ?_)
          refine lv_goto (tgt := 5) hx hb dX1_monthOfDayWithinYear_23 (by decide) ?_
          refine lv_iload_n hx hb dX1_monthOfDayWithinYear_5 rfl (lv_at hl 0 rfl) ?_
          refine lv_iconst (v := 1) hx hb dX1_monthOfDayWithinYear_6 (by decide) ?_
          refine lv_icmp_le (tgt := 26) hx hb dX1_monthOfDayWithinYear_7 (by decide) (fun c_9 => absurd c_9 (by decide)) (fun _ => ?_)
          refine lv_iload_n hx hb dX1_monthOfDayWithinYear_10 rfl (lv_at hl 1 rfl) ?_
          refine lv_iload_n hx hb dX1_monthOfDayWithinYear_11 rfl (lv_at hl 2 rfl) ?_
          refine lv_iload_n hx hb dX1_monthOfDayWithinYear_12 rfl (lv_at hl 0 rfl) ?_
          refine vp_callSi (W.runS (As := [.int x0, .int x1, .int 8]) (rest := []) ⟨hx, hb, hml, hown, hts⟩ (k_X1_daysBeforeMonth l tm tt x0 x1 8) (va_cwS 3 hts gX1_monthOfDayWithinYear_X1_daysBeforeMonth rfl rfl rfl (by decide +kernel) ⟨Nat.le_of_ble_eq_true rfl, Nat.le_of_ble_eq_true rfl⟩) ⟨(fun a U g9 mk q => ⟨q.1, GE.same (s := U) (U := U.calling g9 mk a) rfl q.2⟩), fun U hU hW => ⟨rfl, hE.give hS (fun _ h => h.elim) hU hW⟩⟩ rfl rfl hl.1 rfl (lv_room (Nat.le_of_ble_eq_true rfl)) dX1_monthOfDayWithinYear_13 ⟨Nat.zero_le _, Nat.zero_le _⟩) (fun r hr9 => ?_)
          obtain rfl := hr9
          refine lv_iload_n hx hb dX1_monthOfDayWithinYear_16 rfl (lv_at hl 3 rfl) ?_
          refine lv_icmp_lt (tgt := 26) hx hb dX1_monthOfDayWithinYear_17 (by decide) (fun c_10 => ?_) (fun c_10 => ?_)
          · refine lv_iload_n hx hb dX1_monthOfDayWithinYear_26 rfl (lv_at hl 0 rfl) ?_
            exact W.iret hx hb hr (fun t ht _ => ⟨_, rfl, (by unfold f_X1_monthOfDayWithinYear; rw [if_neg c_2, if_neg c_4, if_neg c_6, if_neg c_8, if_pos c_10]), ht⟩) (fun _ h => nomatch h) dX1_monthOfDayWithinYear_27
          · refine lv_iinc (v := 7) (lv' := [(3, .int 7), (0, .int x0), (1, .int x1), (2, .int x2)]) hx hb dX1_monthOfDayWithinYear_20 hl (k := 0) rfl (by first | rfl | decide) (by decide) rfl (fun ls hl => ?_)
            refine lv_goto (tgt := 5) hx hb dX1_monthOfDayWithinYear_23 (by decide) ?_
            refine lv_iload_n hx hb dX1_monthOfDayWithinYear_5 rfl (lv_at hl 0 rfl) ?_
            refine lv_iconst (v := 1) hx hb dX1_monthOfDayWithinYear_6 (by decide) ?_
            refine lv_icmp_le (tgt := 26) hx hb dX1_monthOfDayWithinYear_7 (by decide) (fun c_11 => absurd c_11 (by decide)) (fun _ => ?_)
            refine lv_iload_n hx hb dX1_monthOfDayWithinYear_10 rfl (lv_at hl 1 rfl) ?_
            refine lv_iload_n hx hb dX1_monthOfDayWithinYear_11 rfl (lv_at hl 2 rfl) ?_
            refine lv_iload_n hx hb dX1_monthOfDayWithinYear_12 rfl (lv_at hl 0 rfl) ?_
            refine vp_callSi (W.runS (As := [.int x0, .int x1, .int 7]) (rest := []) ⟨hx, hb, hml, hown, hts⟩ (k_X1_daysBeforeMonth l tm tt x0 x1 7) (va_cwS 3 hts gX1_monthOfDayWithinYear_X1_daysBeforeMonth rfl rfl rfl (by decide +kernel) ⟨Nat.le_of_ble_eq_true rfl, Nat.le_of_ble_eq_true rfl⟩) ⟨(fun a U g9 mk q => ⟨q.1, GE.same (s := U) (U := U.calling g9 mk a) rfl q.2⟩), fun U hU hW => ⟨rfl, hE.give hS (fun _ h => h.elim) hU hW⟩⟩ rfl rfl hl.1 rfl (lv_room (Nat.le_of_ble_eq_true rfl)) dX1_monthOfDayWithinYear_13 ⟨Nat.zero_le _, Nat.zero_le _⟩) (fun r hr9 => ?_)
            obtain rfl := hr9
            refine lv_iload_n hx hb dX1_monthOfDayWithinYear_16 rfl (lv_at hl 3 rfl) ?_
            refine lv_icmp_lt (tgt := 26) hx hb dX1_monthOfDayWithinYear_17 (by decide) (fun c_12 => ?_) (fun c_12 => ?_)
            · refine lv_iload_n hx hb dX1_monthOfDayWithinYear_26 rfl (lv_at hl 0 rfl) ?_
              exact W.iret hx hb hr (fun t ht _ => ⟨_, rfl, (by unfold f_X1_monthOfDayWithinYear; rw [if_neg c_2, if_neg c_4, if_neg c_6, if_neg c_8, if_neg c_10, if_pos c_12]), ht⟩) (fun _ h => nomatch h) dX1_monthOfDayWithinYear_27
            · refine lv_iinc (v := 6) (lv' := [(3, .int 6), (0, .int x0), (1, .int x1), (2, .int x2)]) hx hb dX1_monthOfDayWithinYear_20 hl (k := 0) rfl (by first | rfl | decide) (by decide) rfl (fun ls hl => ?_)
              refine lv_goto (tgt := 5) hx hb dX1_monthOfDayWithinYear_23 (by decide) ?_
              refine lv_iload_n hx hb dX1_monthOfDayWithinYear_5 rfl (lv_at hl 0 rfl) ?_
              refine lv_iconst (v := 1) hx hb dX1_monthOfDayWithinYear_6 (by decide) ?_
              refine lv_icmp_le (tgt := 26) hx hb dX1_monthOfDayWithinYear_7 (by decide) (fun c_13 => absurd c_13 (by decide)) (fun _ => ?_)
              refine lv_iload_n hx hb dX1_monthOfDayWithinYear_10 rfl (lv_at hl 1 rfl) ?_
              refine lv_iload_n hx hb dX1_monthOfDayWithinYear_11 rfl (lv_at hl 2 rfl) ?_
              refine lv_iload_n hx hb dX1_monthOfDayWithinYear_12 rfl (lv_at hl 0 rfl) ?_
              refine vp_callSi (W.runS (As := [.int x0, .int x1, .int 6]) (rest := []) ⟨hx, hb, hml, hown, hts⟩ (k_X1_daysBeforeMonth l tm tt x0 x1 6) (va_cwS 3 hts gX1_monthOfDayWithinYear_X1_daysBeforeMonth rfl rfl rfl (by decide +kernel) ⟨Nat.le_of_ble_eq_true rfl, Nat.le_of_ble_eq_true rfl⟩) ⟨(fun a U g9 mk q => ⟨q.1, GE.same (s := U) (U := U.calling g9 mk a) rfl q.2⟩), fun U hU hW => ⟨rfl, hE.give hS (fun _ h => h.elim) hU hW⟩⟩ rfl rfl hl.1 rfl (lv_room (Nat.le_of_ble_eq_true rfl)) dX1_monthOfDayWithinYear_13 ⟨Nat.zero_le _, Nat.zero_le _⟩) (fun r hr9 => ?_)
              obtain rfl := hr9
              refine lv_iload_n hx hb dX1_monthOfDayWithinYear_16 rfl (lv_at hl 3 rfl) ?_
              refine lv_icmp_lt (tgt := 26) hx hb dX1_monthOfDayWithinYear_17 (by decide) (fun c_14 => ?_) (fun c_14 => ?_)
              · refine lv_iload_n hx hb dX1_monthOfDayWithinYear_26 rfl (lv_at hl 0 rfl) ?_
                exact W.iret hx hb hr (fun t ht _ => ⟨_, rfl, (by unfold f_X1_monthOfDayWithinYear; rw [if_neg c_2, if_neg c_4, if_neg c_6, if_neg c_8, if_neg c_10, if_neg c_12, if_pos c_14]), ht⟩) (fun _ h => nomatch h) dX1_monthOfDayWithinYear_27
              · refine lv_iinc (v := 5) (lv' := [(3, .int 5), (0, .int x0), (1, .int x1), (2, .int x2)]) hx hb dX1_monthOfDayWithinYear_20 hl (k := 0) rfl (by first | rfl | decide) (by decide) rfl (fun ls hl => ?_)
                refine lv_goto (tgt := 5) hx hb dX1_monthOfDayWithinYear_23 (by decide) ?_
                refine lv_iload_n hx hb dX1_monthOfDayWithinYear_5 rfl (lv_at hl 0 rfl) ?_
                refine lv_iconst (v := 1) hx hb dX1_monthOfDayWithinYear_6 (by decide) ?_
                refine lv_icmp_le (tgt := 26) hx hb dX1_monthOfDayWithinYear_7 (by decide) (fun c_15 => absurd c_15 (by decide)) (fun _ => ?_)
                refine lv_iload_n hx hb dX1_monthOfDayWithinYear_10 rfl (lv_at hl 1 rfl) ?_
                refine lv_iload_n hx hb dX1_monthOfDayWithinYear_11 rfl (lv_at hl 2 rfl) ?_
                refine lv_iload_n hx hb dX1_monthOfDayWithinYear_12 rfl (lv_at hl 0 rfl) ?_
                refine vp_callSi (W.runS (As := [.int x0, .int x1, .int 5]) (rest := []) ⟨hx, hb, hml, hown, hts⟩ (k_X1_daysBeforeMonth l tm tt x0 x1 5) (va_cwS 3 hts gX1_monthOfDayWithinYear_X1_daysBeforeMonth rfl rfl rfl (by decide +kernel) ⟨Nat.le_of_ble_eq_true rfl, Nat.le_of_ble_eq_true rfl⟩) ⟨(fun a U g9 mk q => ⟨q.1, GE.same (s := U) (U := U.calling g9 mk a) rfl q.2⟩), fun U hU hW => ⟨rfl, hE.give hS (fun _ h => h.elim) hU hW⟩⟩ rfl rfl hl.1 rfl (lv_room (Nat.le_of_ble_eq_true rfl)) dX1_monthOfDayWithinYear_13 ⟨Nat.zero_le _, Nat.zero_le _⟩) (fun r hr9 => ?_)
                obtain rfl := hr9
                refine lv_iload_n hx hb dX1_monthOfDayWithinYear_16 rfl (lv_at hl 3 rfl) ?_
                refine lv_icmp_lt (tgt := 26) hx hb dX1_monthOfDayWithinYear_17 (by decide) (fun c_16 => ?_) (fun c_16 => ?_)
                · refine lv_iload_n hx hb dX1_monthOfDayWithinYear_26 rfl (lv_at hl 0 rfl) ?_
                  exact W.iret hx hb hr (fun t ht _ => ⟨_, rfl, (by unfold f_X1_monthOfDayWithinYear; rw [if_neg c_2, if_neg c_4, if_neg c_6, if_neg c_8, if_neg c_10, if_neg c_12, if_neg c_14, if_pos c_16]), ht⟩) (fun _ h => nomatch h) dX1_monthOfDayWithinYear_27
                · refine lv_iinc (v := 4) (lv' := [(3, .int 4), (0, .int x0), (1, .int x1), (2, .int x2)]) hx hb dX1_monthOfDayWithinYear_20 hl (k := 0) rfl (by first | rfl | decide) (by decide) rfl (fun ls hl => ?_)
                  refine lv_goto (tgt := 5) hx hb dX1_monthOfDayWithinYear_23 (by decide) ?_
                  refine lv_iload_n hx hb dX1_monthOfDayWithinYear_5 rfl (lv_at hl 0 rfl) ?_
                  refine lv_iconst (v := 1) hx hb dX1_monthOfDayWithinYear_6 (by decide) ?_
                  refine lv_icmp_le (tgt := 26) hx hb dX1_monthOfDayWithinYear_7 (by decide) (fun c_17 => absurd c_17 (by decide)) (fun _ => ?_)
                  refine lv_iload_n hx hb dX1_monthOfDayWithinYear_10 rfl (lv_at hl 1 rfl) ?_
                  refine lv_iload_n hx hb dX1_monthOfDayWithinYear_11 rfl (lv_at hl 2 rfl) ?_
                  refine lv_iload_n hx hb dX1_monthOfDayWithinYear_12 rfl (lv_at hl 0 rfl) ?_
                  refine vp_callSi (W.runS (As := [.int x0, .int x1, .int 4]) (rest := []) ⟨hx, hb, hml, hown, hts⟩ (k_X1_daysBeforeMonth l tm tt x0 x1 4) (va_cwS 3 hts gX1_monthOfDayWithinYear_X1_daysBeforeMonth rfl rfl rfl (by decide +kernel) ⟨Nat.le_of_ble_eq_true rfl, Nat.le_of_ble_eq_true rfl⟩) ⟨(fun a U g9 mk q => ⟨q.1, GE.same (s := U) (U := U.calling g9 mk a) rfl q.2⟩), fun U hU hW => ⟨rfl, hE.give hS (fun _ h => h.elim) hU hW⟩⟩ rfl rfl hl.1 rfl (lv_room (Nat.le_of_ble_eq_true rfl)) dX1_monthOfDayWithinYear_13 ⟨Nat.zero_le _, Nat.zero_le _⟩) (fun r hr9 => ?_)
                  obtain rfl := hr9
                  refine lv_iload_n hx hb dX1_monthOfDayWithinYear_16 rfl (lv_at hl 3 rfl) ?_
                  refine lv_icmp_lt (tgt := 26) hx hb dX1_monthOfDayWithinYear_17 (by decide) (fun c_18 => ?_) (fun c_18 => ?_)
                  · refine lv_iload_n hx hb dX1_monthOfDayWithinYear_26 rfl (lv_at hl 0 rfl) ?_
                    exact W.iret hx hb hr (fun t ht _ => ⟨_, rfl, (by unfold f_X1_monthOfDayWithinYear; rw [if_neg c_2, if_neg c_4, if_neg c_6, if_neg c_8, if_neg c_10, if_neg c_12, if_neg c_14, if_neg c_16, if_pos c_18]), ht⟩) (fun _ h => nomatch h) dX1_monthOfDayWithinYear_27
                  · refine lv_iinc (v := 3) (lv' := [(3, .int 3), (0, .int x0), (1, .int x1), (2, .int x2)]) hx hb dX1_monthOfDayWithinYear_20 hl (k := 0) rfl (by first | rfl | decide) (by decide) rfl (fun ls hl => ?_)
                    refine lv_goto (tgt := 5) hx hb dX1_monthOfDayWithinYear_23 (by decide) ?_
                    refine lv_iload_n hx hb dX1_monthOfDayWithinYear_5 rfl (lv_at hl 0 rfl) ?_
                    refine lv_iconst (v := 1) hx hb dX1_monthOfDayWithinYear_6 (by decide) ?_
                    refine lv_icmp_le (tgt := 26) hx hb dX1_monthOfDayWithinYear_7 (by decide) (fun c_19 => absurd c_19 (by decide)) (fun _ => ?_)
                    refine lv_iload_n hx hb dX1_monthOfDayWithinYear_10 rfl (lv_at hl 1 rfl) ?_
                    refine lv_iload_n hx hb dX1_monthOfDayWithinYear_11 rfl (lv_at hl 2 rfl) ?_
                    refine lv_iload_n hx hb dX1_monthOfDayWithinYear_12 rfl (lv_at hl 0 rfl) ?_
                    refine vp_callSi (W.runS (As := [.int x0, .int x1, .int 3]) (rest := []) ⟨hx, hb, hml, hown, hts⟩ (k_X1_daysBeforeMonth l tm tt x0 x1 3) (va_cwS 3 hts gX1_monthOfDayWithinYear_X1_daysBeforeMonth rfl rfl rfl (by decide +kernel) ⟨Nat.le_of_ble_eq_true rfl, Nat.le_of_ble_eq_true rfl⟩) ⟨(fun a U g9 mk q => ⟨q.1, GE.same (s := U) (U := U.calling g9 mk a) rfl q.2⟩), fun U hU hW => ⟨rfl, hE.give hS (fun _ h => h.elim) hU hW⟩⟩ rfl rfl hl.1 rfl (lv_room (Nat.le_of_ble_eq_true rfl)) dX1_monthOfDayWithinYear_13 ⟨Nat.zero_le _, Nat.zero_le _⟩) (fun r hr9 => ?_)
                    obtain rfl := hr9
                    refine lv_iload_n hx hb dX1_monthOfDayWithinYear_16 rfl (lv_at hl 3 rfl) ?_
                    refine lv_icmp_lt (tgt := 26) hx hb dX1_monthOfDayWithinYear_17 (by decide) (fun c_20 => ?_) (fun c_20 => ?_)
                    · refine lv_iload_n hx hb dX1_monthOfDayWithinYear_26 rfl (lv_at hl 0 rfl) ?_
                      exact W.iret hx hb hr (fun t ht _ => ⟨_, rfl, (by unfold f_X1_monthOfDayWithinYear; rw [if_neg c_2, if_neg c_4, if_neg c_6, if_neg c_8, if_neg c_10, if_neg c_12, if_neg c_14, if_neg c_16, if_neg c_18, if_pos c_20]), ht⟩) (fun _ h => nomatch h) dX1_monthOfDayWithinYear_27
                    · refine lv_iinc (v := 2) (lv' := [(3, .int 2), (0, .int x0), (1, .int x1), (2, .int x2)]) hx hb dX1_monthOfDayWithinYear_20 hl (k := 0) rfl (by first | rfl | decide) (by decide) rfl (fun ls hl => ?_)
                      refine lv_goto (tgt := 5) hx hb dX1_monthOfDayWithinYear_23 (by decide) ?_
                      refine lv_iload_n hx hb dX1_monthOfDayWithinYear_5 rfl (lv_at hl 0 rfl) ?_
                      refine lv_iconst (v := 1) hx hb dX1_monthOfDayWithinYear_6 (by decide) ?_
                      refine lv_icmp_le (tgt := 26) hx hb dX1_monthOfDayWithinYear_7 (by decide) (fun c_21 => absurd c_21 (by decide)) (fun _ => ?_)
                      refine lv_iload_n hx hb dX1_monthOfDayWithinYear_10 rfl (lv_at hl 1 rfl) ?_
                      refine lv_iload_n hx hb dX1_monthOfDayWithinYear_11 rfl (lv_at hl 2 rfl) ?_
                      refine lv_iload_n hx hb dX1_monthOfDayWithinYear_12 rfl (lv_at hl 0 rfl) ?_
                      refine vp_callSi (W.runS (As := [.int x0, .int x1, .int 2]) (rest := []) ⟨hx, hb, hml, hown, hts⟩ (k_X1_daysBeforeMonth l tm tt x0 x1 2) (va_cwS 3 hts gX1_monthOfDayWithinYear_X1_daysBeforeMonth rfl rfl rfl (by decide +kernel) ⟨Nat.le_of_ble_eq_true rfl, Nat.le_of_ble_eq_true rfl⟩) ⟨(fun a U g9 mk q => ⟨q.1, GE.same (s := U) (U := U.calling g9 mk a) rfl q.2⟩), fun U hU hW => ⟨rfl, hE.give hS (fun _ h => h.elim) hU hW⟩⟩ rfl rfl hl.1 rfl (lv_room (Nat.le_of_ble_eq_true rfl)) dX1_monthOfDayWithinYear_13 ⟨Nat.zero_le _, Nat.zero_le _⟩) (fun r hr9 => ?_)
                      obtain rfl := hr9
                      refine lv_iload_n hx hb dX1_monthOfDayWithinYear_16 rfl (lv_at hl 3 rfl) ?_
                      refine lv_icmp_lt (tgt := 26) hx hb dX1_monthOfDayWithinYear_17 (by decide) (fun c_22 => ?_) (fun c_22 => ?_)
                      · refine lv_iload_n hx hb dX1_monthOfDayWithinYear_26 rfl (lv_at hl 0 rfl) ?_
                        exact W.iret hx hb hr (fun t ht _ => ⟨_, rfl, (by unfold f_X1_monthOfDayWithinYear; rw [if_neg c_2, if_neg c_4, if_neg c_6, if_neg c_8, if_neg c_10, if_neg c_12, if_neg c_14, if_neg c_16, if_neg c_18, if_neg c_20, if_pos c_22]), ht⟩) (fun _ h => nomatch h) dX1_monthOfDayWithinYear_27
                      · refine lv_iinc (v := 1) (lv' := [(3, .int 1), (0, .int x0), (1, .int x1), (2, .int x2)]) hx hb dX1_monthOfDayWithinYear_20 hl (k := 0) rfl (by first | rfl | decide) (by decide) rfl (fun ls hl => ?_)
                        refine lv_goto (tgt := 5) hx hb dX1_monthOfDayWithinYear_23 (by decide) ?_
                        refine lv_iload_n hx hb dX1_monthOfDayWithinYear_5 rfl (lv_at hl 0 rfl) ?_
                        refine lv_iconst (v := 1) hx hb dX1_monthOfDayWithinYear_6 (by decide) ?_
                        refine lv_icmp_le (tgt := 26) hx hb dX1_monthOfDayWithinYear_7 (by decide) (fun _ => ?_) (fun c_23 => absurd c_23 (by decide))
                        refine lv_iload_n hx hb dX1_monthOfDayWithinYear_26 rfl (lv_at hl 0 rfl) ?_
                        exact W.iret hx hb hr (fun t ht _ => ⟨_, rfl, (by unfold f_X1_monthOfDayWithinYear; rw [if_neg c_2, if_neg c_4, if_neg c_6, if_neg c_8, if_neg c_10, if_neg c_12, if_neg c_14, if_neg c_16, if_neg c_18, if_neg c_20, if_neg c_22]), ht⟩) (fun _ h => nomatch h) dX1_monthOfDayWithinYear_27

def f_X1_yearOfDay_21_0 (x0 : Int32) (x1 : Int64) : Int64 := x1 - (f_X1_firstDayOfYear x0 0)
def f_X1_yearOfDay_34_1 (x0 : Int32) (x1 : Int64) : Int32 := Int64.toInt32 (f_J9_floorDiv_f86c9 ((f_X1_yearOfDay_21_0 x0 x1) * 400) 146097)
def f_X1_yearOfDay_21_2 (x0 : Int32) (x1 : Int64) : Int64 := x1 - (f_X1_firstDayOfYear x0 0)
def f_X1_yearOfDay_34_3 (x0 : Int32) (x1 : Int64) : Int32 := Int64.toInt32 (f_J9_floorDiv_f86c9 ((f_X1_yearOfDay_21_2 x0 x1) * 400) 146100)
def f_X1_yearOfDay (x0 : Int32) (x1 : Int64) : Int32 := if x0 = 0 then (if (f_X1_firstDayOfYear x0 (f_X1_yearOfDay_34_3 x0 x1)) ≤ x1 then (if x1 < (f_X1_firstDayOfYear x0 ((f_X1_yearOfDay_34_3 x0 x1) + 1)) then (f_X1_yearOfDay_34_3 x0 x1) else ((f_X1_yearOfDay_34_3 x0 x1) + 1)) else ((f_X1_yearOfDay_34_3 x0 x1) - 1)) else (if (f_X1_firstDayOfYear x0 (f_X1_yearOfDay_34_1 x0 x1)) ≤ x1 then (if x1 < (f_X1_firstDayOfYear x0 ((f_X1_yearOfDay_34_1 x0 x1) + 1)) then (f_X1_yearOfDay_34_1 x0 x1) else ((f_X1_yearOfDay_34_1 x0 x1) + 1)) else ((f_X1_yearOfDay_34_1 x0 x1) - 1))
set_option maxHeartbeats 4000000 in
set_option maxRecDepth 100000 in
theorem k_X1_yearOfDay (l : Launch) (x0 : Int32) (x1 : Int64)  : Met l yX1_yearOfDay wsX1_yearOfDay ({ frames := 2, cells := 0, slots := 0, locals := 45 }) (fun v _ => v = ([.int x0, .long x1] : List Value).toArray) (vp_Si (fun r => r = f_X1_yearOfDay x0 x1)) 0 0 (fun _ => False) := by
  refine Met.ofW (cc := cX1_yearOfDay) (maxL := 8) (ret := (some .int)) (by decide) rfl ?_
  intro p e s m args below meth c s₁ B hml hv
  obtain rfl := hv
  have hx := B.exec
  have hb := B.bytes
  have hr := B.returns
  have hts := atoms_spec (ws := wsX1_yearOfDay) B.pre
  have hown : s.vm.findClass RX1 = some m.cls := findClass_of_methodNamed B.named
  have hlocks := B.notSynchronized
  have hl := lv_entry ([.int x0, .long x1]) (n := 8) (Nat.le_of_ble_eq_true rfl)
  rw [lg_entry_eq]
  generalize (lg_sl ([.int x0, .long x1]) ++ List.replicate (8 - (lg_sl ([.int x0, .long x1])).length) Slot.unset).toArray = ls at hl ⊢
  have hl : lv_has ls 8 [(0, .int x0), (1, .long x1)] := hl
  refine lv_iload_n hx hb dX1_yearOfDay_0 rfl (lv_at hl 0 rfl) ?_
  refine lv_if_ne (tgt := 10) hx hb dX1_yearOfDay_1 (by decide) (fun c_1 => ?_) (fun c_1 => ?_)
  · refine lv_ldc2 hx hb hown (hts (.constantLong RX1 129 (146097)) (by decide +kernel)) dX1_yearOfDay_10 ?_
    refine lv_lstore_n (lv' := [(3, .long 146097), (0, .int x0), (1, .long x1)]) hx hb dX1_yearOfDay_13 rfl hl (by decide) rfl (fun ls hl => ?_)
    refine lv_lload_n hx hb dX1_yearOfDay_14 rfl (lv_at hl 2 rfl) ?_
    refine lv_iload_n hx hb dX1_yearOfDay_15 rfl (lv_at hl 1 rfl) ?_
    refine lv_iconst (v := 0) hx hb dX1_yearOfDay_16 (by decide) ?_
    refine vp_callSl (W.runS (As := [.int x0, .int 0]) (rest := [.long x1]) ⟨hx, hb, hml, hown, hts⟩ (k_X1_firstDayOfYear l x0 0) (va_cwS 2 hts gX1_yearOfDay_X1_firstDayOfYear rfl rfl rfl (by decide +kernel) ⟨Nat.le_of_ble_eq_true rfl, Nat.le_of_ble_eq_true rfl⟩) preEq rfl rfl hl.1 rfl (lv_room (Nat.le_of_ble_eq_true rfl)) dX1_yearOfDay_17 ⟨Nat.zero_le _, Nat.zero_le _⟩) (fun r hr9 => ?_)
    obtain rfl := hr9
    refine lv_lsub hx hb dX1_yearOfDay_20 ?_
    refine lv_lstore (lv' := [(5, .long (f_X1_yearOfDay_21_0 x0 x1)), (3, .long 146097), (0, .int x0), (1, .long x1)]) hx hb dX1_yearOfDay_21 hl (by decide) rfl (fun ls hl => ?_)
    refine lv_lload hx hb dX1_yearOfDay_23 (lv_at hl 0 rfl) ?_
    refine lv_ldc2 hx hb hown (hts (.constantLong RX1 131 (400)) (by decide +kernel)) dX1_yearOfDay_25 ?_
    refine lv_lmul hx hb dX1_yearOfDay_28 ?_
    refine lv_lload_n hx hb dX1_yearOfDay_29 rfl (lv_at hl 1 rfl) ?_
    refine vp_callSl (W.runS (As := [.long ((f_X1_yearOfDay_21_0 x0 x1) * 400), .long 146097]) (rest := []) ⟨hx, hb, hml, hown, hts⟩ (k_J9_floorDiv_f86c9 l ((f_X1_yearOfDay_21_0 x0 x1) * 400) 146097 (by decide)) (va_cwS 2 hts gX1_yearOfDay_J9_floorDiv_f86c9 rfl rfl rfl (by decide +kernel) ⟨Nat.le_of_ble_eq_true rfl, Nat.le_of_ble_eq_true rfl⟩) preEq rfl rfl hl.1 rfl (lv_room (Nat.le_of_ble_eq_true rfl)) dX1_yearOfDay_30 ⟨Nat.zero_le _, Nat.zero_le _⟩) (fun r hr9 => ?_)
    obtain rfl := hr9
    refine lv_l2i hx hb dX1_yearOfDay_33 rfl ?_
    refine lv_istore (lv' := [(7, .int (f_X1_yearOfDay_34_1 x0 x1)), (5, .long (f_X1_yearOfDay_21_0 x0 x1)), (3, .long 146097), (0, .int x0), (1, .long x1)]) hx hb dX1_yearOfDay_34 hl (by decide) rfl (fun ls hl => ?_)
    refine lv_iload_n hx hb dX1_yearOfDay_36 rfl (lv_at hl 3 rfl) ?_
    refine lv_iload hx hb dX1_yearOfDay_37 (lv_at hl 0 rfl) ?_
    refine vp_callSl (W.runS (As := [.int x0, .int (f_X1_yearOfDay_34_1 x0 x1)]) (rest := []) ⟨hx, hb, hml, hown, hts⟩ (k_X1_firstDayOfYear l x0 (f_X1_yearOfDay_34_1 x0 x1)) (va_cwS 2 hts gX1_yearOfDay_X1_firstDayOfYear rfl rfl rfl (by decide +kernel) ⟨Nat.le_of_ble_eq_true rfl, Nat.le_of_ble_eq_true rfl⟩) preEq rfl rfl hl.1 rfl (lv_room (Nat.le_of_ble_eq_true rfl)) dX1_yearOfDay_39 ⟨Nat.zero_le _, Nat.zero_le _⟩) (fun r hr9 => ?_)
    obtain rfl := hr9
    refine lv_lload_n hx hb dX1_yearOfDay_42 rfl (lv_at hl 4 rfl) ?_
    refine zl_le (tgt := 52) hx hb dX1_yearOfDay_43 dX1_yearOfDay_44 (by decide) (fun c_2 => ?_) (fun c_2 => ?_)
    · refine lv_iload_n hx hb dX1_yearOfDay_52 rfl (lv_at hl 3 rfl) ?_
      refine lv_iload hx hb dX1_yearOfDay_53 (lv_at hl 0 rfl) ?_
      refine lv_iconst (v := 1) hx hb dX1_yearOfDay_55 (by decide) ?_
      refine lv_iadd hx hb dX1_yearOfDay_56 ?_
      refine vp_callSl (W.runS (As := [.int x0, .int ((f_X1_yearOfDay_34_1 x0 x1) + 1)]) (rest := []) ⟨hx, hb, hml, hown, hts⟩ (k_X1_firstDayOfYear l x0 ((f_X1_yearOfDay_34_1 x0 x1) + 1)) (va_cwS 2 hts gX1_yearOfDay_X1_firstDayOfYear rfl rfl rfl (by decide +kernel) ⟨Nat.le_of_ble_eq_true rfl, Nat.le_of_ble_eq_true rfl⟩) preEq rfl rfl hl.1 rfl (lv_room (Nat.le_of_ble_eq_true rfl)) dX1_yearOfDay_57 ⟨Nat.zero_le _, Nat.zero_le _⟩) (fun r hr9 => ?_)
      obtain rfl := hr9
      refine lv_lload_n hx hb dX1_yearOfDay_60 rfl (lv_at hl 4 rfl) ?_
      refine zl_gt (tgt := 72) hx hb dX1_yearOfDay_61 dX1_yearOfDay_62 (by decide) (fun c_3 => ?_) (fun c_3 => ?_)
      · refine lv_iload hx hb dX1_yearOfDay_72 (lv_at hl 0 rfl) ?_
        exact W.iret hx hb hr (fun t ht _ => ⟨_, rfl, (by unfold f_X1_yearOfDay; rw [if_neg c_1, if_pos c_2, if_pos c_3]), ht⟩) (fun _ h => nomatch h) dX1_yearOfDay_74
      · refine lv_iload hx hb dX1_yearOfDay_65 (lv_at hl 0 rfl) ?_
        refine lv_iconst (v := 1) hx hb dX1_yearOfDay_67 (by decide) ?_
        refine lv_iadd hx hb dX1_yearOfDay_68 ?_
        refine lv_goto (tgt := 74) hx hb dX1_yearOfDay_69 (by decide) ?_
        exact W.iret hx hb hr (fun t ht _ => ⟨_, rfl, (by unfold f_X1_yearOfDay; rw [if_neg c_1, if_pos c_2, if_neg c_3]), ht⟩) (fun _ h => nomatch h) dX1_yearOfDay_74
    · refine lv_iload hx hb dX1_yearOfDay_47 (lv_at hl 0 rfl) ?_
      refine lv_iconst (v := 1) hx hb dX1_yearOfDay_49 (by decide) ?_
      refine lv_isub hx hb dX1_yearOfDay_50 ?_
      exact W.iret hx hb hr (fun t ht _ => ⟨_, rfl, (by unfold f_X1_yearOfDay; rw [if_neg c_1, if_neg c_2]), ht⟩) (fun _ h => nomatch h) dX1_yearOfDay_51
  · refine lv_ldc2 hx hb hown (hts (.constantLong RX1 127 (146100)) (by decide +kernel)) dX1_yearOfDay_4 ?_
    refine lv_goto (tgt := 13) hx hb dX1_yearOfDay_7 (by decide) ?_
    refine lv_lstore_n (lv' := [(3, .long 146100), (0, .int x0), (1, .long x1)]) hx hb dX1_yearOfDay_13 rfl hl (by decide) rfl (fun ls hl => ?_)
    refine lv_lload_n hx hb dX1_yearOfDay_14 rfl (lv_at hl 2 rfl) ?_
    refine lv_iload_n hx hb dX1_yearOfDay_15 rfl (lv_at hl 1 rfl) ?_
    refine lv_iconst (v := 0) hx hb dX1_yearOfDay_16 (by decide) ?_
    refine vp_callSl (W.runS (As := [.int x0, .int 0]) (rest := [.long x1]) ⟨hx, hb, hml, hown, hts⟩ (k_X1_firstDayOfYear l x0 0) (va_cwS 2 hts gX1_yearOfDay_X1_firstDayOfYear rfl rfl rfl (by decide +kernel) ⟨Nat.le_of_ble_eq_true rfl, Nat.le_of_ble_eq_true rfl⟩) preEq rfl rfl hl.1 rfl (lv_room (Nat.le_of_ble_eq_true rfl)) dX1_yearOfDay_17 ⟨Nat.zero_le _, Nat.zero_le _⟩) (fun r hr9 => ?_)
    obtain rfl := hr9
    refine lv_lsub hx hb dX1_yearOfDay_20 ?_
    refine lv_lstore (lv' := [(5, .long (f_X1_yearOfDay_21_2 x0 x1)), (3, .long 146100), (0, .int x0), (1, .long x1)]) hx hb dX1_yearOfDay_21 hl (by decide) rfl (fun ls hl => ?_)
    refine lv_lload hx hb dX1_yearOfDay_23 (lv_at hl 0 rfl) ?_
    refine lv_ldc2 hx hb hown (hts (.constantLong RX1 131 (400)) (by decide +kernel)) dX1_yearOfDay_25 ?_
    refine lv_lmul hx hb dX1_yearOfDay_28 ?_
    refine lv_lload_n hx hb dX1_yearOfDay_29 rfl (lv_at hl 1 rfl) ?_
    refine vp_callSl (W.runS (As := [.long ((f_X1_yearOfDay_21_2 x0 x1) * 400), .long 146100]) (rest := []) ⟨hx, hb, hml, hown, hts⟩ (k_J9_floorDiv_f86c9 l ((f_X1_yearOfDay_21_2 x0 x1) * 400) 146100 (by decide)) (va_cwS 2 hts gX1_yearOfDay_J9_floorDiv_f86c9 rfl rfl rfl (by decide +kernel) ⟨Nat.le_of_ble_eq_true rfl, Nat.le_of_ble_eq_true rfl⟩) preEq rfl rfl hl.1 rfl (lv_room (Nat.le_of_ble_eq_true rfl)) dX1_yearOfDay_30 ⟨Nat.zero_le _, Nat.zero_le _⟩) (fun r hr9 => ?_)
    obtain rfl := hr9
    refine lv_l2i hx hb dX1_yearOfDay_33 rfl ?_
    refine lv_istore (lv' := [(7, .int (f_X1_yearOfDay_34_3 x0 x1)), (5, .long (f_X1_yearOfDay_21_2 x0 x1)), (3, .long 146100), (0, .int x0), (1, .long x1)]) hx hb dX1_yearOfDay_34 hl (by decide) rfl (fun ls hl => ?_)
    refine lv_iload_n hx hb dX1_yearOfDay_36 rfl (lv_at hl 3 rfl) ?_
    refine lv_iload hx hb dX1_yearOfDay_37 (lv_at hl 0 rfl) ?_
    refine vp_callSl (W.runS (As := [.int x0, .int (f_X1_yearOfDay_34_3 x0 x1)]) (rest := []) ⟨hx, hb, hml, hown, hts⟩ (k_X1_firstDayOfYear l x0 (f_X1_yearOfDay_34_3 x0 x1)) (va_cwS 2 hts gX1_yearOfDay_X1_firstDayOfYear rfl rfl rfl (by decide +kernel) ⟨Nat.le_of_ble_eq_true rfl, Nat.le_of_ble_eq_true rfl⟩) preEq rfl rfl hl.1 rfl (lv_room (Nat.le_of_ble_eq_true rfl)) dX1_yearOfDay_39 ⟨Nat.zero_le _, Nat.zero_le _⟩) (fun r hr9 => ?_)
    obtain rfl := hr9
    refine lv_lload_n hx hb dX1_yearOfDay_42 rfl (lv_at hl 4 rfl) ?_
    refine zl_le (tgt := 52) hx hb dX1_yearOfDay_43 dX1_yearOfDay_44 (by decide) (fun c_4 => ?_) (fun c_4 => ?_)
    · refine lv_iload_n hx hb dX1_yearOfDay_52 rfl (lv_at hl 3 rfl) ?_
      refine lv_iload hx hb dX1_yearOfDay_53 (lv_at hl 0 rfl) ?_
      refine lv_iconst (v := 1) hx hb dX1_yearOfDay_55 (by decide) ?_
      refine lv_iadd hx hb dX1_yearOfDay_56 ?_
      refine vp_callSl (W.runS (As := [.int x0, .int ((f_X1_yearOfDay_34_3 x0 x1) + 1)]) (rest := []) ⟨hx, hb, hml, hown, hts⟩ (k_X1_firstDayOfYear l x0 ((f_X1_yearOfDay_34_3 x0 x1) + 1)) (va_cwS 2 hts gX1_yearOfDay_X1_firstDayOfYear rfl rfl rfl (by decide +kernel) ⟨Nat.le_of_ble_eq_true rfl, Nat.le_of_ble_eq_true rfl⟩) preEq rfl rfl hl.1 rfl (lv_room (Nat.le_of_ble_eq_true rfl)) dX1_yearOfDay_57 ⟨Nat.zero_le _, Nat.zero_le _⟩) (fun r hr9 => ?_)
      obtain rfl := hr9
      refine lv_lload_n hx hb dX1_yearOfDay_60 rfl (lv_at hl 4 rfl) ?_
      refine zl_gt (tgt := 72) hx hb dX1_yearOfDay_61 dX1_yearOfDay_62 (by decide) (fun c_5 => ?_) (fun c_5 => ?_)
      · refine lv_iload hx hb dX1_yearOfDay_72 (lv_at hl 0 rfl) ?_
        exact W.iret hx hb hr (fun t ht _ => ⟨_, rfl, (by unfold f_X1_yearOfDay; rw [if_pos c_1, if_pos c_4, if_pos c_5]), ht⟩) (fun _ h => nomatch h) dX1_yearOfDay_74
      · refine lv_iload hx hb dX1_yearOfDay_65 (lv_at hl 0 rfl) ?_
        refine lv_iconst (v := 1) hx hb dX1_yearOfDay_67 (by decide) ?_
        refine lv_iadd hx hb dX1_yearOfDay_68 ?_
        refine lv_goto (tgt := 74) hx hb dX1_yearOfDay_69 (by decide) ?_
        exact W.iret hx hb hr (fun t ht _ => ⟨_, rfl, (by unfold f_X1_yearOfDay; rw [if_pos c_1, if_pos c_4, if_neg c_5]), ht⟩) (fun _ h => nomatch h) dX1_yearOfDay_74
    · refine lv_iload hx hb dX1_yearOfDay_47 (lv_at hl 0 rfl) ?_
      refine lv_iconst (v := 1) hx hb dX1_yearOfDay_49 (by decide) ?_
      refine lv_isub hx hb dX1_yearOfDay_50 ?_
      exact W.iret hx hb hr (fun t ht _ => ⟨_, rfl, (by unfold f_X1_yearOfDay; rw [if_pos c_1, if_neg c_4]), ht⟩) (fun _ h => nomatch h) dX1_yearOfDay_51

def f_X2_number (x0 : Int32) (x1 : Int32) (x2 : Int32) (x3 : Int32) : Int64 := if x2 ≤ 1 then (((f_X2_newYear x0 (Int32.toInt64 x1)) + (Int32.toInt64 x3)) - 1) else (if x2 ≤ 2 then ((((f_X2_newYear x0 (Int32.toInt64 x1)) + (Int32.toInt64 (f_X2_length x0 (Int32.toInt64 x1) 1))) + (Int32.toInt64 x3)) - 1) else (if x2 ≤ 3 then (((((f_X2_newYear x0 (Int32.toInt64 x1)) + (Int32.toInt64 (f_X2_length x0 (Int32.toInt64 x1) 1))) + (Int32.toInt64 (f_X2_length x0 (Int32.toInt64 x1) 2))) + (Int32.toInt64 x3)) - 1) else (if x2 ≤ 4 then ((((((f_X2_newYear x0 (Int32.toInt64 x1)) + (Int32.toInt64 (f_X2_length x0 (Int32.toInt64 x1) 1))) + (Int32.toInt64 (f_X2_length x0 (Int32.toInt64 x1) 2))) + (Int32.toInt64 (f_X2_length x0 (Int32.toInt64 x1) 3))) + (Int32.toInt64 x3)) - 1) else (if x2 ≤ 5 then (((((((f_X2_newYear x0 (Int32.toInt64 x1)) + (Int32.toInt64 (f_X2_length x0 (Int32.toInt64 x1) 1))) + (Int32.toInt64 (f_X2_length x0 (Int32.toInt64 x1) 2))) + (Int32.toInt64 (f_X2_length x0 (Int32.toInt64 x1) 3))) + (Int32.toInt64 (f_X2_length x0 (Int32.toInt64 x1) 4))) + (Int32.toInt64 x3)) - 1) else (if x2 ≤ 6 then ((((((((f_X2_newYear x0 (Int32.toInt64 x1)) + (Int32.toInt64 (f_X2_length x0 (Int32.toInt64 x1) 1))) + (Int32.toInt64 (f_X2_length x0 (Int32.toInt64 x1) 2))) + (Int32.toInt64 (f_X2_length x0 (Int32.toInt64 x1) 3))) + (Int32.toInt64 (f_X2_length x0 (Int32.toInt64 x1) 4))) + (Int32.toInt64 (f_X2_length x0 (Int32.toInt64 x1) 5))) + (Int32.toInt64 x3)) - 1) else (if x2 ≤ 7 then (((((((((f_X2_newYear x0 (Int32.toInt64 x1)) + (Int32.toInt64 (f_X2_length x0 (Int32.toInt64 x1) 1))) + (Int32.toInt64 (f_X2_length x0 (Int32.toInt64 x1) 2))) + (Int32.toInt64 (f_X2_length x0 (Int32.toInt64 x1) 3))) + (Int32.toInt64 (f_X2_length x0 (Int32.toInt64 x1) 4))) + (Int32.toInt64 (f_X2_length x0 (Int32.toInt64 x1) 5))) + (Int32.toInt64 (f_X2_length x0 (Int32.toInt64 x1) 6))) + (Int32.toInt64 x3)) - 1) else (if x2 ≤ 8 then ((((((((((f_X2_newYear x0 (Int32.toInt64 x1)) + (Int32.toInt64 (f_X2_length x0 (Int32.toInt64 x1) 1))) + (Int32.toInt64 (f_X2_length x0 (Int32.toInt64 x1) 2))) + (Int32.toInt64 (f_X2_length x0 (Int32.toInt64 x1) 3))) + (Int32.toInt64 (f_X2_length x0 (Int32.toInt64 x1) 4))) + (Int32.toInt64 (f_X2_length x0 (Int32.toInt64 x1) 5))) + (Int32.toInt64 (f_X2_length x0 (Int32.toInt64 x1) 6))) + (Int32.toInt64 (f_X2_length x0 (Int32.toInt64 x1) 7))) + (Int32.toInt64 x3)) - 1) else (if x2 ≤ 9 then (((((((((((f_X2_newYear x0 (Int32.toInt64 x1)) + (Int32.toInt64 (f_X2_length x0 (Int32.toInt64 x1) 1))) + (Int32.toInt64 (f_X2_length x0 (Int32.toInt64 x1) 2))) + (Int32.toInt64 (f_X2_length x0 (Int32.toInt64 x1) 3))) + (Int32.toInt64 (f_X2_length x0 (Int32.toInt64 x1) 4))) + (Int32.toInt64 (f_X2_length x0 (Int32.toInt64 x1) 5))) + (Int32.toInt64 (f_X2_length x0 (Int32.toInt64 x1) 6))) + (Int32.toInt64 (f_X2_length x0 (Int32.toInt64 x1) 7))) + (Int32.toInt64 (f_X2_length x0 (Int32.toInt64 x1) 8))) + (Int32.toInt64 x3)) - 1) else (if x2 ≤ 10 then ((((((((((((f_X2_newYear x0 (Int32.toInt64 x1)) + (Int32.toInt64 (f_X2_length x0 (Int32.toInt64 x1) 1))) + (Int32.toInt64 (f_X2_length x0 (Int32.toInt64 x1) 2))) + (Int32.toInt64 (f_X2_length x0 (Int32.toInt64 x1) 3))) + (Int32.toInt64 (f_X2_length x0 (Int32.toInt64 x1) 4))) + (Int32.toInt64 (f_X2_length x0 (Int32.toInt64 x1) 5))) + (Int32.toInt64 (f_X2_length x0 (Int32.toInt64 x1) 6))) + (Int32.toInt64 (f_X2_length x0 (Int32.toInt64 x1) 7))) + (Int32.toInt64 (f_X2_length x0 (Int32.toInt64 x1) 8))) + (Int32.toInt64 (f_X2_length x0 (Int32.toInt64 x1) 9))) + (Int32.toInt64 x3)) - 1) else (if x2 ≤ 11 then (((((((((((((f_X2_newYear x0 (Int32.toInt64 x1)) + (Int32.toInt64 (f_X2_length x0 (Int32.toInt64 x1) 1))) + (Int32.toInt64 (f_X2_length x0 (Int32.toInt64 x1) 2))) + (Int32.toInt64 (f_X2_length x0 (Int32.toInt64 x1) 3))) + (Int32.toInt64 (f_X2_length x0 (Int32.toInt64 x1) 4))) + (Int32.toInt64 (f_X2_length x0 (Int32.toInt64 x1) 5))) + (Int32.toInt64 (f_X2_length x0 (Int32.toInt64 x1) 6))) + (Int32.toInt64 (f_X2_length x0 (Int32.toInt64 x1) 7))) + (Int32.toInt64 (f_X2_length x0 (Int32.toInt64 x1) 8))) + (Int32.toInt64 (f_X2_length x0 (Int32.toInt64 x1) 9))) + (Int32.toInt64 (f_X2_length x0 (Int32.toInt64 x1) 10))) + (Int32.toInt64 x3)) - 1) else ((((((((((((((f_X2_newYear x0 (Int32.toInt64 x1)) + (Int32.toInt64 (f_X2_length x0 (Int32.toInt64 x1) 1))) + (Int32.toInt64 (f_X2_length x0 (Int32.toInt64 x1) 2))) + (Int32.toInt64 (f_X2_length x0 (Int32.toInt64 x1) 3))) + (Int32.toInt64 (f_X2_length x0 (Int32.toInt64 x1) 4))) + (Int32.toInt64 (f_X2_length x0 (Int32.toInt64 x1) 5))) + (Int32.toInt64 (f_X2_length x0 (Int32.toInt64 x1) 6))) + (Int32.toInt64 (f_X2_length x0 (Int32.toInt64 x1) 7))) + (Int32.toInt64 (f_X2_length x0 (Int32.toInt64 x1) 8))) + (Int32.toInt64 (f_X2_length x0 (Int32.toInt64 x1) 9))) + (Int32.toInt64 (f_X2_length x0 (Int32.toInt64 x1) 10))) + (Int32.toInt64 (f_X2_length x0 (Int32.toInt64 x1) 11))) + (Int32.toInt64 x3)) - 1)))))))))))
set_option maxHeartbeats 4000000 in
set_option maxRecDepth 100000 in
theorem k_X2_number (l : Launch) (x0 : Int32) (x1 : Int32) (x2 : Int32) (x3 : Int32) (h0 : x2 ≤ 12) : Met l yX2_number wsX2_number ({ frames := 4, cells := 0, slots := 0, locals := 92 }) (fun v _ => v = ([.int x0, .int x1, .int x2, .int x3] : List Value).toArray) (vp_Sl (fun r => r = f_X2_number x0 x1 x2 x3)) 0 0 (fun _ => False) := by
  refine Met.ofW (cc := cX2_number) (maxL := 7) (ret := (some .long)) (by decide) rfl ?_
  intro p e s m args below meth c s₁ B hml hv
  obtain rfl := hv
  have hx := B.exec
  have hb := B.bytes
  have hr := B.returns
  have hts := atoms_spec (ws := wsX2_number) B.pre
  have hown : s.vm.findClass RX2 = some m.cls := findClass_of_methodNamed B.named
  have hlocks := B.notSynchronized
  have hl := lv_entry ([.int x0, .int x1, .int x2, .int x3]) (n := 7) (Nat.le_of_ble_eq_true rfl)
  rw [lg_entry_eq]
  generalize (lg_sl ([.int x0, .int x1, .int x2, .int x3]) ++ List.replicate (7 - (lg_sl ([.int x0, .int x1, .int x2, .int x3])).length) Slot.unset).toArray = ls at hl ⊢
  have hl : lv_has ls 7 [(0, .int x0), (1, .int x1), (2, .int x2), (3, .int x3)] := hl
  refine lv_iload_n hx hb dX2_number_0 rfl (lv_at hl 0 rfl) ?_
  refine lv_iload_n hx hb dX2_number_1 rfl (lv_at hl 1 rfl) ?_
  refine lv_i2l hx hb dX2_number_2 rfl ?_
  refine vp_callSl (W.runS (As := [.int x0, .long (Int32.toInt64 x1)]) (rest := []) ⟨hx, hb, hml, hown, hts⟩ (k_X2_newYear l x0 (Int32.toInt64 x1)) (va_cwS 2 hts gX2_number_X2_newYear rfl rfl rfl (by decide +kernel) ⟨Nat.le_of_ble_eq_true rfl, Nat.le_of_ble_eq_true rfl⟩) preEq rfl rfl hl.1 rfl (lv_room (Nat.le_of_ble_eq_true rfl)) dX2_number_3 ⟨Nat.zero_le _, Nat.zero_le _⟩) (fun r hr9 => ?_)
  obtain rfl := hr9
  refine lv_lstore (lv' := [(4, .long (f_X2_newYear x0 (Int32.toInt64 x1))), (0, .int x0), (1, .int x1), (2, .int x2), (3, .int x3)]) hx hb dX2_number_6 hl (by decide) rfl (fun ls hl => ?_)
  refine lv_iconst (v := 1) hx hb dX2_number_8 (by decide) ?_
  refine lv_istore (lv' := [(6, .int 1), (4, .long (f_X2_newYear x0 (Int32.toInt64 x1))), (0, .int x0), (1, .int x1), (2, .int x2), (3, .int x3)]) hx hb dX2_number_9 hl (by decide) rfl (fun ls hl => ?_)
  refine lv_iload hx hb dX2_number_11 (lv_at hl 0 rfl) ?_
  refine lv_iload_n hx hb dX2_number_13 rfl (lv_at hl 4 rfl) ?_
  refine lv_icmp_ge (tgt := 37) hx hb dX2_number_14 (by decide) (fun c_1 => ?_) (fun c_1 => ?_)
  · refine lv_lload hx hb dX2_number_37 (lv_at hl 1 rfl) ?_
    refine lv_iload_n hx hb dX2_number_39 rfl (lv_at hl 5 rfl) ?_
    refine lv_i2l hx hb dX2_number_40 rfl ?_
    refine lv_ladd hx hb dX2_number_41 ?_
    refine lv_lconst (v := 1) hx hb dX2_number_42 (by decide) ?_
    refine lv_lsub hx hb dX2_number_43 ?_
    exact W.lret hx hb hr (fun t ht _ => ⟨_, rfl, (by unfold f_X2_number; rw [if_pos c_1]), ht⟩) (fun _ h => nomatch h) dX2_number_44
  · refine lv_lload hx hb dX2_number_17 (lv_at hl 1 rfl) ?_
    refine lv_iload_n hx hb dX2_number_19 rfl (lv_at hl 2 rfl) ?_
    refine lv_iload_n hx hb dX2_number_20 rfl (lv_at hl 3 rfl) ?_
    refine lv_i2l hx hb dX2_number_21 rfl ?_
    refine lv_iload hx hb dX2_number_22 (lv_at hl 0 rfl) ?_
    refine vp_callSi (W.runS (As := [.int x0, .long (Int32.toInt64 x1), .int 1]) (rest := [.long (f_X2_newYear x0 (Int32.toInt64 x1))]) ⟨hx, hb, hml, hown, hts⟩ (k_X2_length l x0 (Int32.toInt64 x1) 1) (va_cwS 3 hts gX2_number_X2_length rfl rfl rfl (by decide +kernel) ⟨Nat.le_of_ble_eq_true rfl, Nat.le_of_ble_eq_true rfl⟩) preEq rfl rfl hl.1 rfl (lv_room (Nat.le_of_ble_eq_true rfl)) dX2_number_24 ⟨Nat.zero_le _, Nat.zero_le _⟩) (fun r hr9 => ?_)
    obtain rfl := hr9
    refine lv_i2l hx hb dX2_number_27 rfl ?_
    refine lv_ladd hx hb dX2_number_28 ?_
    refine lv_lstore (lv' := [(4, .long ((f_X2_newYear x0 (Int32.toInt64 x1)) + (Int32.toInt64 (f_X2_length x0 (Int32.toInt64 x1) 1)))), (6, .int 1), (0, .int x0), (1, .int x1), (2, .int x2), (3, .int x3)]) hx hb dX2_number_29 hl (by decide) rfl (fun ls hl => ?_)
    refine lv_iinc (v := 2) (lv' := [(6, .int 2), (4, .long ((f_X2_newYear x0 (Int32.toInt64 x1)) + (Int32.toInt64 (f_X2_length x0 (Int32.toInt64 x1) 1)))), (0, .int x0), (1, .int x1), (2, .int x2), (3, .int x3)]) hx hb dX2_number_31 hl (k := 1) rfl (by first | rfl | decide) (by decide) rfl (fun ls hl => ?_)
    refine lv_goto (tgt := 11) hx hb dX2_number_34 (by decide) ?_
    refine lv_iload hx hb dX2_number_11 (lv_at hl 0 rfl) ?_
    refine lv_iload_n hx hb dX2_number_13 rfl (lv_at hl 4 rfl) ?_
    refine lv_icmp_ge (tgt := 37) hx hb dX2_number_14 (by decide) (fun c_2 => ?_) (fun c_2 => ?_)
    · refine lv_lload hx hb dX2_number_37 (lv_at hl 1 rfl) ?_
      refine lv_iload_n hx hb dX2_number_39 rfl (lv_at hl 5 rfl) ?_
      refine lv_i2l hx hb dX2_number_40 rfl ?_
      refine lv_ladd hx hb dX2_number_41 ?_
      refine lv_lconst (v := 1) hx hb dX2_number_42 (by decide) ?_
      refine lv_lsub hx hb dX2_number_43 ?_
      exact W.lret hx hb hr (fun t ht _ => ⟨_, rfl, (by unfold f_X2_number; rw [if_neg c_1, if_pos c_2]), ht⟩) (fun _ h => nomatch h) dX2_number_44
    · refine lv_lload hx hb dX2_number_17 (lv_at hl 1 rfl) ?_
      refine lv_iload_n hx hb dX2_number_19 rfl (lv_at hl 2 rfl) ?_
      refine lv_iload_n hx hb dX2_number_20 rfl (lv_at hl 3 rfl) ?_
      refine lv_i2l hx hb dX2_number_21 rfl ?_
      refine lv_iload hx hb dX2_number_22 (lv_at hl 0 rfl) ?_
      refine vp_callSi (W.runS (As := [.int x0, .long (Int32.toInt64 x1), .int 2]) (rest := [.long ((f_X2_newYear x0 (Int32.toInt64 x1)) + (Int32.toInt64 (f_X2_length x0 (Int32.toInt64 x1) 1)))]) ⟨hx, hb, hml, hown, hts⟩ (k_X2_length l x0 (Int32.toInt64 x1) 2) (va_cwS 3 hts gX2_number_X2_length rfl rfl rfl (by decide +kernel) ⟨Nat.le_of_ble_eq_true rfl, Nat.le_of_ble_eq_true rfl⟩) preEq rfl rfl hl.1 rfl (lv_room (Nat.le_of_ble_eq_true rfl)) dX2_number_24 ⟨Nat.zero_le _, Nat.zero_le _⟩) (fun r hr9 => ?_)
      obtain rfl := hr9
      refine lv_i2l hx hb dX2_number_27 rfl ?_
      refine lv_ladd hx hb dX2_number_28 ?_
      refine lv_lstore (lv' := [(4, .long (((f_X2_newYear x0 (Int32.toInt64 x1)) + (Int32.toInt64 (f_X2_length x0 (Int32.toInt64 x1) 1))) + (Int32.toInt64 (f_X2_length x0 (Int32.toInt64 x1) 2)))), (6, .int 2), (0, .int x0), (1, .int x1), (2, .int x2), (3, .int x3)]) hx hb dX2_number_29 hl (by decide) rfl (fun ls hl => ?_)
      refine lv_iinc (v := 3) (lv' := [(6, .int 3), (4, .long (((f_X2_newYear x0 (Int32.toInt64 x1)) + (Int32.toInt64 (f_X2_length x0 (Int32.toInt64 x1) 1))) + (Int32.toInt64 (f_X2_length x0 (Int32.toInt64 x1) 2)))), (0, .int x0), (1, .int x1), (2, .int x2), (3, .int x3)]) hx hb dX2_number_31 hl (k := 1) rfl (by first | rfl | decide) (by decide) rfl (fun ls hl => ?_)
      refine lv_goto (tgt := 11) hx hb dX2_number_34 (by decide) ?_
      refine lv_iload hx hb dX2_number_11 (lv_at hl 0 rfl) ?_
      refine lv_iload_n hx hb dX2_number_13 rfl (lv_at hl 4 rfl) ?_
      refine lv_icmp_ge (tgt := 37) hx hb dX2_number_14 (by decide) (fun c_3 => ?_) (fun c_3 => ?_)
      · refine lv_lload hx hb dX2_number_37 (lv_at hl 1 rfl) ?_
        refine lv_iload_n hx hb dX2_number_39 rfl (lv_at hl 5 rfl) ?_
        refine lv_i2l hx hb dX2_number_40 rfl ?_
        refine lv_ladd hx hb dX2_number_41 ?_
        refine lv_lconst (v := 1) hx hb dX2_number_42 (by decide) ?_
        refine lv_lsub hx hb dX2_number_43 ?_
        exact W.lret hx hb hr (fun t ht _ => ⟨_, rfl, (by unfold f_X2_number; rw [if_neg c_1, if_neg c_2, if_pos c_3]), ht⟩) (fun _ h => nomatch h) dX2_number_44
      · refine lv_lload hx hb dX2_number_17 (lv_at hl 1 rfl) ?_
        refine lv_iload_n hx hb dX2_number_19 rfl (lv_at hl 2 rfl) ?_
        refine lv_iload_n hx hb dX2_number_20 rfl (lv_at hl 3 rfl) ?_
        refine lv_i2l hx hb dX2_number_21 rfl ?_
        refine lv_iload hx hb dX2_number_22 (lv_at hl 0 rfl) ?_
        refine vp_callSi (W.runS (As := [.int x0, .long (Int32.toInt64 x1), .int 3]) (rest := [.long (((f_X2_newYear x0 (Int32.toInt64 x1)) + (Int32.toInt64 (f_X2_length x0 (Int32.toInt64 x1) 1))) + (Int32.toInt64 (f_X2_length x0 (Int32.toInt64 x1) 2)))]) ⟨hx, hb, hml, hown, hts⟩ (k_X2_length l x0 (Int32.toInt64 x1) 3) (va_cwS 3 hts gX2_number_X2_length rfl rfl rfl (by decide +kernel) ⟨Nat.le_of_ble_eq_true rfl, Nat.le_of_ble_eq_true rfl⟩) preEq rfl rfl hl.1 rfl (lv_room (Nat.le_of_ble_eq_true rfl)) dX2_number_24 ⟨Nat.zero_le _, Nat.zero_le _⟩) (fun r hr9 => ?_)
        obtain rfl := hr9
        refine lv_i2l hx hb dX2_number_27 rfl ?_
        refine lv_ladd hx hb dX2_number_28 ?_
        refine lv_lstore (lv' := [(4, .long ((((f_X2_newYear x0 (Int32.toInt64 x1)) + (Int32.toInt64 (f_X2_length x0 (Int32.toInt64 x1) 1))) + (Int32.toInt64 (f_X2_length x0 (Int32.toInt64 x1) 2))) + (Int32.toInt64 (f_X2_length x0 (Int32.toInt64 x1) 3)))), (6, .int 3), (0, .int x0), (1, .int x1), (2, .int x2), (3, .int x3)]) hx hb dX2_number_29 hl (by decide) rfl (fun ls hl => ?_)
        refine lv_iinc (v := 4) (lv' := [(6, .int 4), (4, .long ((((f_X2_newYear x0 (Int32.toInt64 x1)) + (Int32.toInt64 (f_X2_length x0 (Int32.toInt64 x1) 1))) + (Int32.toInt64 (f_X2_length x0 (Int32.toInt64 x1) 2))) + (Int32.toInt64 (f_X2_length x0 (Int32.toInt64 x1) 3)))), (0, .int x0), (1, .int x1), (2, .int x2), (3, .int x3)]) hx hb dX2_number_31 hl (k := 1) rfl (by first | rfl | decide) (by decide) rfl (fun ls hl => ?_)
        refine lv_goto (tgt := 11) hx hb dX2_number_34 (by decide) ?_
        refine lv_iload hx hb dX2_number_11 (lv_at hl 0 rfl) ?_
        refine lv_iload_n hx hb dX2_number_13 rfl (lv_at hl 4 rfl) ?_
        refine lv_icmp_ge (tgt := 37) hx hb dX2_number_14 (by decide) (fun c_4 => ?_) (fun c_4 => ?_)
        · refine lv_lload hx hb dX2_number_37 (lv_at hl 1 rfl) ?_
          refine lv_iload_n hx hb dX2_number_39 rfl (lv_at hl 5 rfl) ?_
          refine lv_i2l hx hb dX2_number_40 rfl ?_
          refine lv_ladd hx hb dX2_number_41 ?_
          refine lv_lconst (v := 1) hx hb dX2_number_42 (by decide) ?_
          refine lv_lsub hx hb dX2_number_43 ?_
          exact W.lret hx hb hr (fun t ht _ => ⟨_, rfl, (by unfold f_X2_number; rw [if_neg c_1, if_neg c_2, if_neg c_3, if_pos c_4]), ht⟩) (fun _ h => nomatch h) dX2_number_44
        · refine lv_lload hx hb dX2_number_17 (lv_at hl 1 rfl) ?_
          refine lv_iload_n hx hb dX2_number_19 rfl (lv_at hl 2 rfl) ?_
          refine lv_iload_n hx hb dX2_number_20 rfl (lv_at hl 3 rfl) ?_
          refine lv_i2l hx hb dX2_number_21 rfl ?_
          refine lv_iload hx hb dX2_number_22 (lv_at hl 0 rfl) ?_
          refine vp_callSi (W.runS (As := [.int x0, .long (Int32.toInt64 x1), .int 4]) (rest := [.long ((((f_X2_newYear x0 (Int32.toInt64 x1)) + (Int32.toInt64 (f_X2_length x0 (Int32.toInt64 x1) 1))) + (Int32.toInt64 (f_X2_length x0 (Int32.toInt64 x1) 2))) + (Int32.toInt64 (f_X2_length x0 (Int32.toInt64 x1) 3)))]) ⟨hx, hb, hml, hown, hts⟩ (k_X2_length l x0 (Int32.toInt64 x1) 4) (va_cwS 3 hts gX2_number_X2_length rfl rfl rfl (by decide +kernel) ⟨Nat.le_of_ble_eq_true rfl, Nat.le_of_ble_eq_true rfl⟩) preEq rfl rfl hl.1 rfl (lv_room (Nat.le_of_ble_eq_true rfl)) dX2_number_24 ⟨Nat.zero_le _, Nat.zero_le _⟩) (fun r hr9 => ?_)
          obtain rfl := hr9
          refine lv_i2l hx hb dX2_number_27 rfl ?_
          refine lv_ladd hx hb dX2_number_28 ?_
          refine lv_lstore (lv' := [(4, .long (((((f_X2_newYear x0 (Int32.toInt64 x1)) + (Int32.toInt64 (f_X2_length x0 (Int32.toInt64 x1) 1))) + (Int32.toInt64 (f_X2_length x0 (Int32.toInt64 x1) 2))) + (Int32.toInt64 (f_X2_length x0 (Int32.toInt64 x1) 3))) + (Int32.toInt64 (f_X2_length x0 (Int32.toInt64 x1) 4)))), (6, .int 4), (0, .int x0), (1, .int x1), (2, .int x2), (3, .int x3)]) hx hb dX2_number_29 hl (by decide) rfl (fun ls hl => ?_)
          refine lv_iinc (v := 5) (lv' := [(6, .int 5), (4, .long (((((f_X2_newYear x0 (Int32.toInt64 x1)) + (Int32.toInt64 (f_X2_length x0 (Int32.toInt64 x1) 1))) + (Int32.toInt64 (f_X2_length x0 (Int32.toInt64 x1) 2))) + (Int32.toInt64 (f_X2_length x0 (Int32.toInt64 x1) 3))) + (Int32.toInt64 (f_X2_length x0 (Int32.toInt64 x1) 4)))), (0, .int x0), (1, .int x1), (2, .int x2), (3, .int x3)]) hx hb dX2_number_31 hl (k := 1) rfl (by first | rfl | decide) (by decide) rfl (fun ls hl => ?_)
          refine lv_goto (tgt := 11) hx hb dX2_number_34 (by decide) ?_
          refine lv_iload hx hb dX2_number_11 (lv_at hl 0 rfl) ?_
          refine lv_iload_n hx hb dX2_number_13 rfl (lv_at hl 4 rfl) ?_
          refine lv_icmp_ge (tgt := 37) hx hb dX2_number_14 (by decide) (fun c_5 => ?_) (fun c_5 => ?_)
          · refine lv_lload hx hb dX2_number_37 (lv_at hl 1 rfl) ?_
            refine lv_iload_n hx hb dX2_number_39 rfl (lv_at hl 5 rfl) ?_
            refine lv_i2l hx hb dX2_number_40 rfl ?_
            refine lv_ladd hx hb dX2_number_41 ?_
            refine lv_lconst (v := 1) hx hb dX2_number_42 (by decide) ?_
            refine lv_lsub hx hb dX2_number_43 ?_
            exact W.lret hx hb hr (fun t ht _ => ⟨_, rfl, (by unfold f_X2_number; rw [if_neg c_1, if_neg c_2, if_neg c_3, if_neg c_4, if_pos c_5]), ht⟩) (fun _ h => nomatch h) dX2_number_44
          · refine lv_lload hx hb dX2_number_17 (lv_at hl 1 rfl) ?_
            refine lv_iload_n hx hb dX2_number_19 rfl (lv_at hl 2 rfl) ?_
            refine lv_iload_n hx hb dX2_number_20 rfl (lv_at hl 3 rfl) ?_
            refine lv_i2l hx hb dX2_number_21 rfl ?_
            refine lv_iload hx hb dX2_number_22 (lv_at hl 0 rfl) ?_
            refine vp_callSi (W.runS (As := [.int x0, .long (Int32.toInt64 x1), .int 5]) (rest := [.long (((((f_X2_newYear x0 (Int32.toInt64 x1)) + (Int32.toInt64 (f_X2_length x0 (Int32.toInt64 x1) 1))) + (Int32.toInt64 (f_X2_length x0 (Int32.toInt64 x1) 2))) + (Int32.toInt64 (f_X2_length x0 (Int32.toInt64 x1) 3))) + (Int32.toInt64 (f_X2_length x0 (Int32.toInt64 x1) 4)))]) ⟨hx, hb, hml, hown, hts⟩ (k_X2_length l x0 (Int32.toInt64 x1) 5) (va_cwS 3 hts gX2_number_X2_length rfl rfl rfl (by decide +kernel) ⟨Nat.le_of_ble_eq_true rfl, Nat.le_of_ble_eq_true rfl⟩) preEq rfl rfl hl.1 rfl (lv_room (Nat.le_of_ble_eq_true rfl)) dX2_number_24 ⟨Nat.zero_le _, Nat.zero_le _⟩) (fun r hr9 => ?_)
            obtain rfl := hr9
            refine lv_i2l hx hb dX2_number_27 rfl ?_
            refine lv_ladd hx hb dX2_number_28 ?_
            refine lv_lstore (lv' := [(4, .long ((((((f_X2_newYear x0 (Int32.toInt64 x1)) + (Int32.toInt64 (f_X2_length x0 (Int32.toInt64 x1) 1))) + (Int32.toInt64 (f_X2_length x0 (Int32.toInt64 x1) 2))) + (Int32.toInt64 (f_X2_length x0 (Int32.toInt64 x1) 3))) + (Int32.toInt64 (f_X2_length x0 (Int32.toInt64 x1) 4))) + (Int32.toInt64 (f_X2_length x0 (Int32.toInt64 x1) 5)))), (6, .int 5), (0, .int x0), (1, .int x1), (2, .int x2), (3, .int x3)]) hx hb dX2_number_29 hl (by decide) rfl (fun ls hl => ?_)
            refine lv_iinc (v := 6) (lv' := [(6, .int 6), (4, .long ((((((f_X2_newYear x0 (Int32.toInt64 x1)) + (Int32.toInt64 (f_X2_length x0 (Int32.toInt64 x1) 1))) + (Int32.toInt64 (f_X2_length x0 (Int32.toInt64 x1) 2))) + (Int32.toInt64 (f_X2_length x0 (Int32.toInt64 x1) 3))) + (Int32.toInt64 (f_X2_length x0 (Int32.toInt64 x1) 4))) + (Int32.toInt64 (f_X2_length x0 (Int32.toInt64 x1) 5)))), (0, .int x0), (1, .int x1), (2, .int x2), (3, .int x3)]) hx hb dX2_number_31 hl (k := 1) rfl (by first | rfl | decide) (by decide) rfl (fun ls hl => ?_)
            refine lv_goto (tgt := 11) hx hb dX2_number_34 (by decide) ?_
            refine lv_iload hx hb dX2_number_11 (lv_at hl 0 rfl) ?_
            refine lv_iload_n hx hb dX2_number_13 rfl (lv_at hl 4 rfl) ?_
            refine lv_icmp_ge (tgt := 37) hx hb dX2_number_14 (by decide) (fun c_6 => ?_) (fun c_6 => ?_)
            · refine lv_lload hx hb dX2_number_37 (lv_at hl 1 rfl) ?_
              refine lv_iload_n hx hb dX2_number_39 rfl (lv_at hl 5 rfl) ?_
              refine lv_i2l hx hb dX2_number_40 rfl ?_
              refine lv_ladd hx hb dX2_number_41 ?_
              refine lv_lconst (v := 1) hx hb dX2_number_42 (by decide) ?_
              refine lv_lsub hx hb dX2_number_43 ?_
              exact W.lret hx hb hr (fun t ht _ => ⟨_, rfl, (by unfold f_X2_number; rw [if_neg c_1, if_neg c_2, if_neg c_3, if_neg c_4, if_neg c_5, if_pos c_6]), ht⟩) (fun _ h => nomatch h) dX2_number_44
            · refine lv_lload hx hb dX2_number_17 (lv_at hl 1 rfl) ?_
              refine lv_iload_n hx hb dX2_number_19 rfl (lv_at hl 2 rfl) ?_
              refine lv_iload_n hx hb dX2_number_20 rfl (lv_at hl 3 rfl) ?_
              refine lv_i2l hx hb dX2_number_21 rfl ?_
              refine lv_iload hx hb dX2_number_22 (lv_at hl 0 rfl) ?_
              refine vp_callSi (W.runS (As := [.int x0, .long (Int32.toInt64 x1), .int 6]) (rest := [.long ((((((f_X2_newYear x0 (Int32.toInt64 x1)) + (Int32.toInt64 (f_X2_length x0 (Int32.toInt64 x1) 1))) + (Int32.toInt64 (f_X2_length x0 (Int32.toInt64 x1) 2))) + (Int32.toInt64 (f_X2_length x0 (Int32.toInt64 x1) 3))) + (Int32.toInt64 (f_X2_length x0 (Int32.toInt64 x1) 4))) + (Int32.toInt64 (f_X2_length x0 (Int32.toInt64 x1) 5)))]) ⟨hx, hb, hml, hown, hts⟩ (k_X2_length l x0 (Int32.toInt64 x1) 6) (va_cwS 3 hts gX2_number_X2_length rfl rfl rfl (by decide +kernel) ⟨Nat.le_of_ble_eq_true rfl, Nat.le_of_ble_eq_true rfl⟩) preEq rfl rfl hl.1 rfl (lv_room (Nat.le_of_ble_eq_true rfl)) dX2_number_24 ⟨Nat.zero_le _, Nat.zero_le _⟩) (fun r hr9 => ?_)
              obtain rfl := hr9
              refine lv_i2l hx hb dX2_number_27 rfl ?_
              refine lv_ladd hx hb dX2_number_28 ?_
              refine lv_lstore (lv' := [(4, .long (((((((f_X2_newYear x0 (Int32.toInt64 x1)) + (Int32.toInt64 (f_X2_length x0 (Int32.toInt64 x1) 1))) + (Int32.toInt64 (f_X2_length x0 (Int32.toInt64 x1) 2))) + (Int32.toInt64 (f_X2_length x0 (Int32.toInt64 x1) 3))) + (Int32.toInt64 (f_X2_length x0 (Int32.toInt64 x1) 4))) + (Int32.toInt64 (f_X2_length x0 (Int32.toInt64 x1) 5))) + (Int32.toInt64 (f_X2_length x0 (Int32.toInt64 x1) 6)))), (6, .int 6), (0, .int x0), (1, .int x1), (2, .int x2), (3, .int x3)]) hx hb dX2_number_29 hl (by decide) rfl (fun ls hl => ?_)
              refine lv_iinc (v := 7) (lv' := [(6, .int 7), (4, .long (((((((f_X2_newYear x0 (Int32.toInt64 x1)) + (Int32.toInt64 (f_X2_length x0 (Int32.toInt64 x1) 1))) + (Int32.toInt64 (f_X2_length x0 (Int32.toInt64 x1) 2))) + (Int32.toInt64 (f_X2_length x0 (Int32.toInt64 x1) 3))) + (Int32.toInt64 (f_X2_length x0 (Int32.toInt64 x1) 4))) + (Int32.toInt64 (f_X2_length x0 (Int32.toInt64 x1) 5))) + (Int32.toInt64 (f_X2_length x0 (Int32.toInt64 x1) 6)))), (0, .int x0), (1, .int x1), (2, .int x2), (3, .int x3)]) hx hb dX2_number_31 hl (k := 1) rfl (by first | rfl | decide) (by decide) rfl (fun ls hl => ?_)
              refine lv_goto (tgt := 11) hx hb dX2_number_34 (by decide) ?_
              refine lv_iload hx hb dX2_number_11 (lv_at hl 0 rfl) ?_
              refine lv_iload_n hx hb dX2_number_13 rfl (lv_at hl 4 rfl) ?_
              refine lv_icmp_ge (tgt := 37) hx hb dX2_number_14 (by decide) (fun c_7 => ?_) (fun c_7 => ?_)
              · refine lv_lload hx hb dX2_number_37 (lv_at hl 1 rfl) ?_
                refine lv_iload_n hx hb dX2_number_39 rfl (lv_at hl 5 rfl) ?_
                refine lv_i2l hx hb dX2_number_40 rfl ?_
                refine lv_ladd hx hb dX2_number_41 ?_
                refine lv_lconst (v := 1) hx hb dX2_number_42 (by decide) ?_
                refine lv_lsub hx hb dX2_number_43 ?_
                exact W.lret hx hb hr (fun t ht _ => ⟨_, rfl, (by unfold f_X2_number; rw [if_neg c_1, if_neg c_2, if_neg c_3, if_neg c_4, if_neg c_5, if_neg c_6, if_pos c_7]), ht⟩) (fun _ h => nomatch h) dX2_number_44
              · refine lv_lload hx hb dX2_number_17 (lv_at hl 1 rfl) ?_
                refine lv_iload_n hx hb dX2_number_19 rfl (lv_at hl 2 rfl) ?_
                refine lv_iload_n hx hb dX2_number_20 rfl (lv_at hl 3 rfl) ?_
                refine lv_i2l hx hb dX2_number_21 rfl ?_
                refine lv_iload hx hb dX2_number_22 (lv_at hl 0 rfl) ?_
                refine vp_callSi (W.runS (As := [.int x0, .long (Int32.toInt64 x1), .int 7]) (rest := [.long (((((((f_X2_newYear x0 (Int32.toInt64 x1)) + (Int32.toInt64 (f_X2_length x0 (Int32.toInt64 x1) 1))) + (Int32.toInt64 (f_X2_length x0 (Int32.toInt64 x1) 2))) + (Int32.toInt64 (f_X2_length x0 (Int32.toInt64 x1) 3))) + (Int32.toInt64 (f_X2_length x0 (Int32.toInt64 x1) 4))) + (Int32.toInt64 (f_X2_length x0 (Int32.toInt64 x1) 5))) + (Int32.toInt64 (f_X2_length x0 (Int32.toInt64 x1) 6)))]) ⟨hx, hb, hml, hown, hts⟩ (k_X2_length l x0 (Int32.toInt64 x1) 7) (va_cwS 3 hts gX2_number_X2_length rfl rfl rfl (by decide +kernel) ⟨Nat.le_of_ble_eq_true rfl, Nat.le_of_ble_eq_true rfl⟩) preEq rfl rfl hl.1 rfl (lv_room (Nat.le_of_ble_eq_true rfl)) dX2_number_24 ⟨Nat.zero_le _, Nat.zero_le _⟩) (fun r hr9 => ?_)
                obtain rfl := hr9
                refine lv_i2l hx hb dX2_number_27 rfl ?_
                refine lv_ladd hx hb dX2_number_28 ?_
                refine lv_lstore (lv' := [(4, .long ((((((((f_X2_newYear x0 (Int32.toInt64 x1)) + (Int32.toInt64 (f_X2_length x0 (Int32.toInt64 x1) 1))) + (Int32.toInt64 (f_X2_length x0 (Int32.toInt64 x1) 2))) + (Int32.toInt64 (f_X2_length x0 (Int32.toInt64 x1) 3))) + (Int32.toInt64 (f_X2_length x0 (Int32.toInt64 x1) 4))) + (Int32.toInt64 (f_X2_length x0 (Int32.toInt64 x1) 5))) + (Int32.toInt64 (f_X2_length x0 (Int32.toInt64 x1) 6))) + (Int32.toInt64 (f_X2_length x0 (Int32.toInt64 x1) 7)))), (6, .int 7), (0, .int x0), (1, .int x1), (2, .int x2), (3, .int x3)]) hx hb dX2_number_29 hl (by decide) rfl (fun ls hl => ?_)
                refine lv_iinc (v := 8) (lv' := [(6, .int 8), (4, .long ((((((((f_X2_newYear x0 (Int32.toInt64 x1)) + (Int32.toInt64 (f_X2_length x0 (Int32.toInt64 x1) 1))) + (Int32.toInt64 (f_X2_length x0 (Int32.toInt64 x1) 2))) + (Int32.toInt64 (f_X2_length x0 (Int32.toInt64 x1) 3))) + (Int32.toInt64 (f_X2_length x0 (Int32.toInt64 x1) 4))) + (Int32.toInt64 (f_X2_length x0 (Int32.toInt64 x1) 5))) + (Int32.toInt64 (f_X2_length x0 (Int32.toInt64 x1) 6))) + (Int32.toInt64 (f_X2_length x0 (Int32.toInt64 x1) 7)))), (0, .int x0), (1, .int x1), (2, .int x2), (3, .int x3)]) hx hb dX2_number_31 hl (k := 1) rfl (by first | rfl | decide) (by decide) rfl (fun ls hl => ?_)
                refine lv_goto (tgt := 11) hx hb dX2_number_34 (by decide) ?_
                refine lv_iload hx hb dX2_number_11 (lv_at hl 0 rfl) ?_
                refine lv_iload_n hx hb dX2_number_13 rfl (lv_at hl 4 rfl) ?_
                refine lv_icmp_ge (tgt := 37) hx hb dX2_number_14 (by decide) (fun c_8 => ?_) (fun c_8 => ?_)
                · refine lv_lload hx hb dX2_number_37 (lv_at hl 1 rfl) ?_
                  refine lv_iload_n hx hb dX2_number_39 rfl (lv_at hl 5 rfl) ?_
                  refine lv_i2l hx hb dX2_number_40 rfl ?_
                  refine lv_ladd hx hb dX2_number_41 ?_
                  refine lv_lconst (v := 1) hx hb dX2_number_42 (by decide) ?_
                  refine lv_lsub hx hb dX2_number_43 ?_
                  exact W.lret hx hb hr (fun t ht _ => ⟨_, rfl, (by unfold f_X2_number; rw [if_neg c_1, if_neg c_2, if_neg c_3, if_neg c_4, if_neg c_5, if_neg c_6, if_neg c_7, if_pos c_8]), ht⟩) (fun _ h => nomatch h) dX2_number_44
                · refine lv_lload hx hb dX2_number_17 (lv_at hl 1 rfl) ?_
                  refine lv_iload_n hx hb dX2_number_19 rfl (lv_at hl 2 rfl) ?_
                  refine lv_iload_n hx hb dX2_number_20 rfl (lv_at hl 3 rfl) ?_
                  refine lv_i2l hx hb dX2_number_21 rfl ?_
                  refine lv_iload hx hb dX2_number_22 (lv_at hl 0 rfl) ?_
                  refine vp_callSi (W.runS (As := [.int x0, .long (Int32.toInt64 x1), .int 8]) (rest := [.long ((((((((f_X2_newYear x0 (Int32.toInt64 x1)) + (Int32.toInt64 (f_X2_length x0 (Int32.toInt64 x1) 1))) + (Int32.toInt64 (f_X2_length x0 (Int32.toInt64 x1) 2))) + (Int32.toInt64 (f_X2_length x0 (Int32.toInt64 x1) 3))) + (Int32.toInt64 (f_X2_length x0 (Int32.toInt64 x1) 4))) + (Int32.toInt64 (f_X2_length x0 (Int32.toInt64 x1) 5))) + (Int32.toInt64 (f_X2_length x0 (Int32.toInt64 x1) 6))) + (Int32.toInt64 (f_X2_length x0 (Int32.toInt64 x1) 7)))]) ⟨hx, hb, hml, hown, hts⟩ (k_X2_length l x0 (Int32.toInt64 x1) 8) (va_cwS 3 hts gX2_number_X2_length rfl rfl rfl (by decide +kernel) ⟨Nat.le_of_ble_eq_true rfl, Nat.le_of_ble_eq_true rfl⟩) preEq rfl rfl hl.1 rfl (lv_room (Nat.le_of_ble_eq_true rfl)) dX2_number_24 ⟨Nat.zero_le _, Nat.zero_le _⟩) (fun r hr9 => ?_)
                  obtain rfl := hr9
                  refine lv_i2l hx hb dX2_number_27 rfl ?_
                  refine lv_ladd hx hb dX2_number_28 ?_
                  refine lv_lstore (lv' := [(4, .long (((((((((f_X2_newYear x0 (Int32.toInt64 x1)) + (Int32.toInt64 (f_X2_length x0 (Int32.toInt64 x1) 1))) + (Int32.toInt64 (f_X2_length x0 (Int32.toInt64 x1) 2))) + (Int32.toInt64 (f_X2_length x0 (Int32.toInt64 x1) 3))) + (Int32.toInt64 (f_X2_length x0 (Int32.toInt64 x1) 4))) + (Int32.toInt64 (f_X2_length x0 (Int32.toInt64 x1) 5))) + (Int32.toInt64 (f_X2_length x0 (Int32.toInt64 x1) 6))) + (Int32.toInt64 (f_X2_length x0 (Int32.toInt64 x1) 7))) + (Int32.toInt64 (f_X2_length x0 (Int32.toInt64 x1) 8)))), (6, .int 8), (0, .int x0), (1, .int x1), (2, .int x2), (3, .int x3)]) hx hb dX2_number_29 hl (by decide) rfl (fun ls hl => ?_)
                  refine lv_iinc (v := 9) (lv' := [(6, .int 9), (4, .long (((((((((f_X2_newYear x0 (Int32.toInt64 x1)) + (Int32.toInt64 (f_X2_length x0 (Int32.toInt64 x1) 1))) + (Int32.toInt64 (f_X2_length x0 (Int32.toInt64 x1) 2))) + (Int32.toInt64 (f_X2_length x0 (Int32.toInt64 x1) 3))) + (Int32.toInt64 (f_X2_length x0 (Int32.toInt64 x1) 4))) + (Int32.toInt64 (f_X2_length x0 (Int32.toInt64 x1) 5))) + (Int32.toInt64 (f_X2_length x0 (Int32.toInt64 x1) 6))) + (Int32.toInt64 (f_X2_length x0 (Int32.toInt64 x1) 7))) + (Int32.toInt64 (f_X2_length x0 (Int32.toInt64 x1) 8)))), (0, .int x0), (1, .int x1), (2, .int x2), (3, .int x3)]) hx hb dX2_number_31 hl (k := 1) rfl (by first | rfl | decide) (by decide) rfl (fun ls hl => ?_)
                  refine lv_goto (tgt := 11) hx hb dX2_number_34 (by decide) ?_
                  refine lv_iload hx hb dX2_number_11 (lv_at hl 0 rfl) ?_
                  refine lv_iload_n hx hb dX2_number_13 rfl (lv_at hl 4 rfl) ?_
                  refine lv_icmp_ge (tgt := 37) hx hb dX2_number_14 (by decide) (fun c_9 => ?_) (fun c_9 => ?_)
                  · refine lv_lload hx hb dX2_number_37 (lv_at hl 1 rfl) ?_
                    refine lv_iload_n hx hb dX2_number_39 rfl (lv_at hl 5 rfl) ?_
                    refine lv_i2l hx hb dX2_number_40 rfl ?_
                    refine lv_ladd hx hb dX2_number_41 ?_
                    refine lv_lconst (v := 1) hx hb dX2_number_42 (by decide) ?_
                    refine lv_lsub hx hb dX2_number_43 ?_
                    exact W.lret hx hb hr (fun t ht _ => ⟨_, rfl, (by unfold f_X2_number; rw [if_neg c_1, if_neg c_2, if_neg c_3, if_neg c_4, if_neg c_5, if_neg c_6, if_neg c_7, if_neg c_8, if_pos c_9]), ht⟩) (fun _ h => nomatch h) dX2_number_44
                  · refine lv_lload hx hb dX2_number_17 (lv_at hl 1 rfl) ?_
                    refine lv_iload_n hx hb dX2_number_19 rfl (lv_at hl 2 rfl) ?_
                    refine lv_iload_n hx hb dX2_number_20 rfl (lv_at hl 3 rfl) ?_
                    refine lv_i2l hx hb dX2_number_21 rfl ?_
                    refine lv_iload hx hb dX2_number_22 (lv_at hl 0 rfl) ?_
                    refine vp_callSi (W.runS (As := [.int x0, .long (Int32.toInt64 x1), .int 9]) (rest := [.long (((((((((f_X2_newYear x0 (Int32.toInt64 x1)) + (Int32.toInt64 (f_X2_length x0 (Int32.toInt64 x1) 1))) + (Int32.toInt64 (f_X2_length x0 (Int32.toInt64 x1) 2))) + (Int32.toInt64 (f_X2_length x0 (Int32.toInt64 x1) 3))) + (Int32.toInt64 (f_X2_length x0 (Int32.toInt64 x1) 4))) + (Int32.toInt64 (f_X2_length x0 (Int32.toInt64 x1) 5))) + (Int32.toInt64 (f_X2_length x0 (Int32.toInt64 x1) 6))) + (Int32.toInt64 (f_X2_length x0 (Int32.toInt64 x1) 7))) + (Int32.toInt64 (f_X2_length x0 (Int32.toInt64 x1) 8)))]) ⟨hx, hb, hml, hown, hts⟩ (k_X2_length l x0 (Int32.toInt64 x1) 9) (va_cwS 3 hts gX2_number_X2_length rfl rfl rfl (by decide +kernel) ⟨Nat.le_of_ble_eq_true rfl, Nat.le_of_ble_eq_true rfl⟩) preEq rfl rfl hl.1 rfl (lv_room (Nat.le_of_ble_eq_true rfl)) dX2_number_24 ⟨Nat.zero_le _, Nat.zero_le _⟩) (fun r hr9 => ?_)
                    obtain rfl := hr9
                    refine lv_i2l hx hb dX2_number_27 rfl ?_
                    refine lv_ladd hx hb dX2_number_28 ?_
                    refine lv_lstore (lv' := [(4, .long ((((((((((f_X2_newYear x0 (Int32.toInt64 x1)) + (Int32.toInt64 (f_X2_length x0 (Int32.toInt64 x1) 1))) + (Int32.toInt64 (f_X2_length x0 (Int32.toInt64 x1) 2))) + (Int32.toInt64 (f_X2_length x0 (Int32.toInt64 x1) 3))) + (Int32.toInt64 (f_X2_length x0 (Int32.toInt64 x1) 4))) + (Int32.toInt64 (f_X2_length x0 (Int32.toInt64 x1) 5))) + (Int32.toInt64 (f_X2_length x0 (Int32.toInt64 x1) 6))) + (Int32.toInt64 (f_X2_length x0 (Int32.toInt64 x1) 7))) + (Int32.toInt64 (f_X2_length x0 (Int32.toInt64 x1) 8))) + (Int32.toInt64 (f_X2_length x0 (Int32.toInt64 x1) 9)))), (6, .int 9), (0, .int x0), (1, .int x1), (2, .int x2), (3, .int x3)]) hx hb dX2_number_29 hl (by decide) rfl (fun ls hl => ?_)
                    refine lv_iinc (v := 10) (lv' := [(6, .int 10), (4, .long ((((((((((f_X2_newYear x0 (Int32.toInt64 x1)) + (Int32.toInt64 (f_X2_length x0 (Int32.toInt64 x1) 1))) + (Int32.toInt64 (f_X2_length x0 (Int32.toInt64 x1) 2))) + (Int32.toInt64 (f_X2_length x0 (Int32.toInt64 x1) 3))) + (Int32.toInt64 (f_X2_length x0 (Int32.toInt64 x1) 4))) + (Int32.toInt64 (f_X2_length x0 (Int32.toInt64 x1) 5))) + (Int32.toInt64 (f_X2_length x0 (Int32.toInt64 x1) 6))) + (Int32.toInt64 (f_X2_length x0 (Int32.toInt64 x1) 7))) + (Int32.toInt64 (f_X2_length x0 (Int32.toInt64 x1) 8))) + (Int32.toInt64 (f_X2_length x0 (Int32.toInt64 x1) 9)))), (0, .int x0), (1, .int x1), (2, .int x2), (3, .int x3)]) hx hb dX2_number_31 hl (k := 1) rfl (by first | rfl | decide) (by decide) rfl (fun ls hl => ?_)
                    refine lv_goto (tgt := 11) hx hb dX2_number_34 (by decide) ?_
                    refine lv_iload hx hb dX2_number_11 (lv_at hl 0 rfl) ?_
                    refine lv_iload_n hx hb dX2_number_13 rfl (lv_at hl 4 rfl) ?_
                    refine lv_icmp_ge (tgt := 37) hx hb dX2_number_14 (by decide) (fun c_10 => ?_) (fun c_10 => ?_)
                    · refine lv_lload hx hb dX2_number_37 (lv_at hl 1 rfl) ?_
                      refine lv_iload_n hx hb dX2_number_39 rfl (lv_at hl 5 rfl) ?_
                      refine lv_i2l hx hb dX2_number_40 rfl ?_
                      refine lv_ladd hx hb dX2_number_41 ?_
                      refine lv_lconst (v := 1) hx hb dX2_number_42 (by decide) ?_
                      refine lv_lsub hx hb dX2_number_43 ?_
                      exact W.lret hx hb hr (fun t ht _ => ⟨_, rfl, (by unfold f_X2_number; rw [if_neg c_1, if_neg c_2, if_neg c_3, if_neg c_4, if_neg c_5, if_neg c_6, if_neg c_7, if_neg c_8, if_neg c_9, if_pos c_10]), ht⟩) (fun _ h => nomatch h) dX2_number_44
                    · refine lv_lload hx hb dX2_number_17 (lv_at hl 1 rfl) ?_
                      refine lv_iload_n hx hb dX2_number_19 rfl (lv_at hl 2 rfl) ?_
                      refine lv_iload_n hx hb dX2_number_20 rfl (lv_at hl 3 rfl) ?_
                      refine lv_i2l hx hb dX2_number_21 rfl ?_
                      refine lv_iload hx hb dX2_number_22 (lv_at hl 0 rfl) ?_
                      refine vp_callSi (W.runS (As := [.int x0, .long (Int32.toInt64 x1), .int 10]) (rest := [.long ((((((((((f_X2_newYear x0 (Int32.toInt64 x1)) + (Int32.toInt64 (f_X2_length x0 (Int32.toInt64 x1) 1))) + (Int32.toInt64 (f_X2_length x0 (Int32.toInt64 x1) 2))) + (Int32.toInt64 (f_X2_length x0 (Int32.toInt64 x1) 3))) + (Int32.toInt64 (f_X2_length x0 (Int32.toInt64 x1) 4))) + (Int32.toInt64 (f_X2_length x0 (Int32.toInt64 x1) 5))) + (Int32.toInt64 (f_X2_length x0 (Int32.toInt64 x1) 6))) + (Int32.toInt64 (f_X2_length x0 (Int32.toInt64 x1) 7))) + (Int32.toInt64 (f_X2_length x0 (Int32.toInt64 x1) 8))) + (Int32.toInt64 (f_X2_length x0 (Int32.toInt64 x1) 9)))]) ⟨hx, hb, hml, hown, hts⟩ (k_X2_length l x0 (Int32.toInt64 x1) 10) (va_cwS 3 hts gX2_number_X2_length rfl rfl rfl (by decide +kernel) ⟨Nat.le_of_ble_eq_true rfl, Nat.le_of_ble_eq_true rfl⟩) preEq rfl rfl hl.1 rfl (lv_room (Nat.le_of_ble_eq_true rfl)) dX2_number_24 ⟨Nat.zero_le _, Nat.zero_le _⟩) (fun r hr9 => ?_)
                      obtain rfl := hr9
                      refine lv_i2l hx hb dX2_number_27 rfl ?_
                      refine lv_ladd hx hb dX2_number_28 ?_
                      refine lv_lstore (lv' := [(4, .long (((((((((((f_X2_newYear x0 (Int32.toInt64 x1)) + (Int32.toInt64 (f_X2_length x0 (Int32.toInt64 x1) 1))) + (Int32.toInt64 (f_X2_length x0 (Int32.toInt64 x1) 2))) + (Int32.toInt64 (f_X2_length x0 (Int32.toInt64 x1) 3))) + (Int32.toInt64 (f_X2_length x0 (Int32.toInt64 x1) 4))) + (Int32.toInt64 (f_X2_length x0 (Int32.toInt64 x1) 5))) + (Int32.toInt64 (f_X2_length x0 (Int32.toInt64 x1) 6))) + (Int32.toInt64 (f_X2_length x0 (Int32.toInt64 x1) 7))) + (Int32.toInt64 (f_X2_length x0 (Int32.toInt64 x1) 8))) + (Int32.toInt64 (f_X2_length x0 (Int32.toInt64 x1) 9))) + (Int32.toInt64 (f_X2_length x0 (Int32.toInt64 x1) 10)))), (6, .int 10), (0, .int x0), (1, .int x1), (2, .int x2), (3, .int x3)]) hx hb dX2_number_29 hl (by decide) rfl (fun ls hl => ?_)
                      refine lv_iinc (v := 11) (lv' := [(6, .int 11), (4, .long (((((((((((f_X2_newYear x0 (Int32.toInt64 x1)) + (Int32.toInt64 (f_X2_length x0 (Int32.toInt64 x1) 1))) + (Int32.toInt64 (f_X2_length x0 (Int32.toInt64 x1) 2))) + (Int32.toInt64 (f_X2_length x0 (Int32.toInt64 x1) 3))) + (Int32.toInt64 (f_X2_length x0 (Int32.toInt64 x1) 4))) + (Int32.toInt64 (f_X2_length x0 (Int32.toInt64 x1) 5))) + (Int32.toInt64 (f_X2_length x0 (Int32.toInt64 x1) 6))) + (Int32.toInt64 (f_X2_length x0 (Int32.toInt64 x1) 7))) + (Int32.toInt64 (f_X2_length x0 (Int32.toInt64 x1) 8))) + (Int32.toInt64 (f_X2_length x0 (Int32.toInt64 x1) 9))) + (Int32.toInt64 (f_X2_length x0 (Int32.toInt64 x1) 10)))), (0, .int x0), (1, .int x1), (2, .int x2), (3, .int x3)]) hx hb dX2_number_31 hl (k := 1) rfl (by first | rfl | decide) (by decide) rfl (fun ls hl => ?_)
                      refine lv_goto (tgt := 11) hx hb dX2_number_34 (by decide) ?_
                      refine lv_iload hx hb dX2_number_11 (lv_at hl 0 rfl) ?_
                      refine lv_iload_n hx hb dX2_number_13 rfl (lv_at hl 4 rfl) ?_
                      refine lv_icmp_ge (tgt := 37) hx hb dX2_number_14 (by decide) (fun c_11 => ?_) (fun c_11 => ?_)
                      · refine lv_lload hx hb dX2_number_37 (lv_at hl 1 rfl) ?_
                        refine lv_iload_n hx hb dX2_number_39 rfl (lv_at hl 5 rfl) ?_
                        refine lv_i2l hx hb dX2_number_40 rfl ?_
                        refine lv_ladd hx hb dX2_number_41 ?_
                        refine lv_lconst (v := 1) hx hb dX2_number_42 (by decide) ?_
                        refine lv_lsub hx hb dX2_number_43 ?_
                        exact W.lret hx hb hr (fun t ht _ => ⟨_, rfl, (by unfold f_X2_number; rw [if_neg c_1, if_neg c_2, if_neg c_3, if_neg c_4, if_neg c_5, if_neg c_6, if_neg c_7, if_neg c_8, if_neg c_9, if_neg c_10, if_pos c_11]), ht⟩) (fun _ h => nomatch h) dX2_number_44
                      · refine lv_lload hx hb dX2_number_17 (lv_at hl 1 rfl) ?_
                        refine lv_iload_n hx hb dX2_number_19 rfl (lv_at hl 2 rfl) ?_
                        refine lv_iload_n hx hb dX2_number_20 rfl (lv_at hl 3 rfl) ?_
                        refine lv_i2l hx hb dX2_number_21 rfl ?_
                        refine lv_iload hx hb dX2_number_22 (lv_at hl 0 rfl) ?_
                        refine vp_callSi (W.runS (As := [.int x0, .long (Int32.toInt64 x1), .int 11]) (rest := [.long (((((((((((f_X2_newYear x0 (Int32.toInt64 x1)) + (Int32.toInt64 (f_X2_length x0 (Int32.toInt64 x1) 1))) + (Int32.toInt64 (f_X2_length x0 (Int32.toInt64 x1) 2))) + (Int32.toInt64 (f_X2_length x0 (Int32.toInt64 x1) 3))) + (Int32.toInt64 (f_X2_length x0 (Int32.toInt64 x1) 4))) + (Int32.toInt64 (f_X2_length x0 (Int32.toInt64 x1) 5))) + (Int32.toInt64 (f_X2_length x0 (Int32.toInt64 x1) 6))) + (Int32.toInt64 (f_X2_length x0 (Int32.toInt64 x1) 7))) + (Int32.toInt64 (f_X2_length x0 (Int32.toInt64 x1) 8))) + (Int32.toInt64 (f_X2_length x0 (Int32.toInt64 x1) 9))) + (Int32.toInt64 (f_X2_length x0 (Int32.toInt64 x1) 10)))]) ⟨hx, hb, hml, hown, hts⟩ (k_X2_length l x0 (Int32.toInt64 x1) 11) (va_cwS 3 hts gX2_number_X2_length rfl rfl rfl (by decide +kernel) ⟨Nat.le_of_ble_eq_true rfl, Nat.le_of_ble_eq_true rfl⟩) preEq rfl rfl hl.1 rfl (lv_room (Nat.le_of_ble_eq_true rfl)) dX2_number_24 ⟨Nat.zero_le _, Nat.zero_le _⟩) (fun r hr9 => ?_)
                        obtain rfl := hr9
                        refine lv_i2l hx hb dX2_number_27 rfl ?_
                        refine lv_ladd hx hb dX2_number_28 ?_
                        refine lv_lstore (lv' := [(4, .long ((((((((((((f_X2_newYear x0 (Int32.toInt64 x1)) + (Int32.toInt64 (f_X2_length x0 (Int32.toInt64 x1) 1))) + (Int32.toInt64 (f_X2_length x0 (Int32.toInt64 x1) 2))) + (Int32.toInt64 (f_X2_length x0 (Int32.toInt64 x1) 3))) + (Int32.toInt64 (f_X2_length x0 (Int32.toInt64 x1) 4))) + (Int32.toInt64 (f_X2_length x0 (Int32.toInt64 x1) 5))) + (Int32.toInt64 (f_X2_length x0 (Int32.toInt64 x1) 6))) + (Int32.toInt64 (f_X2_length x0 (Int32.toInt64 x1) 7))) + (Int32.toInt64 (f_X2_length x0 (Int32.toInt64 x1) 8))) + (Int32.toInt64 (f_X2_length x0 (Int32.toInt64 x1) 9))) + (Int32.toInt64 (f_X2_length x0 (Int32.toInt64 x1) 10))) + (Int32.toInt64 (f_X2_length x0 (Int32.toInt64 x1) 11)))), (6, .int 11), (0, .int x0), (1, .int x1), (2, .int x2), (3, .int x3)]) hx hb dX2_number_29 hl (by decide) rfl (fun ls hl => ?_)
                        refine lv_iinc (v := 12) (lv' := [(6, .int 12), (4, .long ((((((((((((f_X2_newYear x0 (Int32.toInt64 x1)) + (Int32.toInt64 (f_X2_length x0 (Int32.toInt64 x1) 1))) + (Int32.toInt64 (f_X2_length x0 (Int32.toInt64 x1) 2))) + (Int32.toInt64 (f_X2_length x0 (Int32.toInt64 x1) 3))) + (Int32.toInt64 (f_X2_length x0 (Int32.toInt64 x1) 4))) + (Int32.toInt64 (f_X2_length x0 (Int32.toInt64 x1) 5))) + (Int32.toInt64 (f_X2_length x0 (Int32.toInt64 x1) 6))) + (Int32.toInt64 (f_X2_length x0 (Int32.toInt64 x1) 7))) + (Int32.toInt64 (f_X2_length x0 (Int32.toInt64 x1) 8))) + (Int32.toInt64 (f_X2_length x0 (Int32.toInt64 x1) 9))) + (Int32.toInt64 (f_X2_length x0 (Int32.toInt64 x1) 10))) + (Int32.toInt64 (f_X2_length x0 (Int32.toInt64 x1) 11)))), (0, .int x0), (1, .int x1), (2, .int x2), (3, .int x3)]) hx hb dX2_number_31 hl (k := 1) rfl (by first | rfl | decide) (by decide) rfl (fun ls hl => ?_)
                        refine lv_goto (tgt := 11) hx hb dX2_number_34 (by decide) ?_
                        refine lv_iload hx hb dX2_number_11 (lv_at hl 0 rfl) ?_
                        refine lv_iload_n hx hb dX2_number_13 rfl (lv_at hl 4 rfl) ?_
                        refine lv_icmp_ge (tgt := 37) hx hb dX2_number_14 (by decide) (fun _ => ?_) (fun c_12 => absurd c_12 (fun h => h h0))
                        refine lv_lload hx hb dX2_number_37 (lv_at hl 1 rfl) ?_
                        refine lv_iload_n hx hb dX2_number_39 rfl (lv_at hl 5 rfl) ?_
                        refine lv_i2l hx hb dX2_number_40 rfl ?_
                        refine lv_ladd hx hb dX2_number_41 ?_
                        refine lv_lconst (v := 1) hx hb dX2_number_42 (by decide) ?_
                        refine lv_lsub hx hb dX2_number_43 ?_
                        exact W.lret hx hb hr (fun t ht _ => ⟨_, rfl, (by unfold f_X2_number; rw [if_neg c_1, if_neg c_2, if_neg c_3, if_neg c_4, if_neg c_5, if_neg c_6, if_neg c_7, if_neg c_8, if_neg c_9, if_neg c_10, if_neg c_11]), ht⟩) (fun _ h => nomatch h) dX2_number_44
