def f_X1_isWholeWithin (x0 : Int64) (x1 : Int64) (x2 : Int64) : Int32 := if x0 < x1 then (0) else (if x2 < x0 then (0) else (1))
set_option maxHeartbeats 4000000 in
set_option maxRecDepth 100000 in
theorem k_X1_isWholeWithin (l : Launch) (x0 : Int64) (x1 : Int64) (x2 : Int64)  : Met l yX1_isWholeWithin wsX1_isWholeWithin ({ frames := 0, cells := 0, slots := 0, locals := 0 }) (fun v _ => v = ([.long x0, .long x1, .long x2] : List Value).toArray) (vp_Si (fun r => r = f_X1_isWholeWithin x0 x1 x2)) 0 0 (fun _ => False) := by
  refine Met.ofW (cc := cX1_isWholeWithin) (maxL := 6) (ret := (some .boolean)) (by decide) rfl ?_
  intro p e s m args below meth c s₁ B hml hv
  obtain rfl := hv
  have hx := B.exec
  have hb := B.bytes
  have hr := B.returns
  have hts := atoms_spec (ws := wsX1_isWholeWithin) B.pre
  have hown : s.vm.findClass RX1 = some m.cls := findClass_of_methodNamed B.named
  have hlocks := B.notSynchronized
  have hl := lv_entry ([.long x0, .long x1, .long x2]) (n := 6) (Nat.le_of_ble_eq_true rfl)
  rw [lg_entry_eq]
  generalize (lg_sl ([.long x0, .long x1, .long x2]) ++ List.replicate (6 - (lg_sl ([.long x0, .long x1, .long x2])).length) Slot.unset).toArray = ls at hl ⊢
  have hl : lv_has ls 6 [(0, .long x0), (2, .long x1), (4, .long x2)] := hl
  refine lv_lload_n hx hb dX1_isWholeWithin_0 rfl (lv_at hl 0 rfl) ?_
  refine lv_lload_n hx hb dX1_isWholeWithin_1 rfl (lv_at hl 1 rfl) ?_
  refine zl_lt (tgt := 17) hx hb dX1_isWholeWithin_2 dX1_isWholeWithin_3 (by decide) (fun c_1 => ?_) (fun c_1 => ?_)
  · refine lv_iconst (v := 0) hx hb dX1_isWholeWithin_17 (by decide) ?_
    exact W.zret hx hb hr rfl (fun t ht _ => ⟨_, rfl, (by unfold f_X1_isWholeWithin; rw [if_pos c_1]), ht⟩) (fun _ h => nomatch h) dX1_isWholeWithin_18
  · refine lv_lload_n hx hb dX1_isWholeWithin_6 rfl (lv_at hl 0 rfl) ?_
    refine lv_lload hx hb dX1_isWholeWithin_7 (lv_at hl 2 rfl) ?_
    refine zl_gt (tgt := 17) hx hb dX1_isWholeWithin_9 dX1_isWholeWithin_10 (by decide) (fun c_2 => ?_) (fun c_2 => ?_)
    · refine lv_iconst (v := 0) hx hb dX1_isWholeWithin_17 (by decide) ?_
      exact W.zret hx hb hr rfl (fun t ht _ => ⟨_, rfl, (by unfold f_X1_isWholeWithin; rw [if_neg c_1, if_pos c_2]), ht⟩) (fun _ h => nomatch h) dX1_isWholeWithin_18
    · refine lv_iconst (v := 1) hx hb dX1_isWholeWithin_13 (by decide) ?_
      refine lv_goto (tgt := 18) hx hb dX1_isWholeWithin_14 (by decide) ?_
      exact W.zret hx hb hr rfl (fun t ht _ => ⟨_, rfl, (by unfold f_X1_isWholeWithin; rw [if_neg c_1, if_neg c_2]), ht⟩) (fun _ h => nomatch h) dX1_isWholeWithin_18
theorem nb_X1_isWholeWithin (x0 : Int64) (x1 : Int64) (x2 : Int64) : narrow .boolean (.int (f_X1_isWholeWithin x0 x1 x2)) = .int (f_X1_isWholeWithin x0 x1 x2) := by
  unfold f_X1_isWholeWithin
  (repeat' split) <;> rfl

def f_X1_isWithin (x0 : UInt64) (x1 : UInt64) (x2 : UInt64) : Int32 := if dge x0 x1 then (if dle x0 x2 then (1) else (0)) else (0)
set_option maxHeartbeats 4000000 in
set_option maxRecDepth 100000 in
theorem k_X1_isWithin (l : Launch) (x0 : UInt64) (x1 : UInt64) (x2 : UInt64)  : Met l yX1_isWithin wsX1_isWithin ({ frames := 0, cells := 0, slots := 0, locals := 0 }) (fun v _ => v = ([.double x0, .double x1, .double x2] : List Value).toArray) (vp_Si (fun r => r = f_X1_isWithin x0 x1 x2)) 0 0 (fun _ => False) := by
  refine Met.ofW (cc := cX1_isWithin) (maxL := 6) (ret := (some .boolean)) (by decide) rfl ?_
  intro p e s m args below meth c s₁ B hml hv
  obtain rfl := hv
  have hx := B.exec
  have hb := B.bytes
  have hr := B.returns
  have hts := atoms_spec (ws := wsX1_isWithin) B.pre
  have hown : s.vm.findClass RX1 = some m.cls := findClass_of_methodNamed B.named
  have hlocks := B.notSynchronized
  have hl := lv_entry ([.double x0, .double x1, .double x2]) (n := 6) (Nat.le_of_ble_eq_true rfl)
  rw [lg_entry_eq]
  generalize (lg_sl ([.double x0, .double x1, .double x2]) ++ List.replicate (6 - (lg_sl ([.double x0, .double x1, .double x2])).length) Slot.unset).toArray = ls at hl ⊢
  have hl : lv_has ls 6 [(0, .double x0), (2, .double x1), (4, .double x2)] := hl
  refine lv_dload_n hx hb dX1_isWithin_0 rfl (lv_at hl 0 rfl) ?_
  refine lv_dload_n hx hb dX1_isWithin_1 rfl (lv_at hl 1 rfl) ?_
  refine zd_l_lt (tgt := 17) hx hb dX1_isWithin_2 dX1_isWithin_3 (by decide) (fun c_1 => ?_) (fun c_1 => ?_)
  · refine lv_iconst (v := 0) hx hb dX1_isWithin_17 (by decide) ?_
    exact W.zret hx hb hr rfl (fun t ht _ => ⟨_, rfl, (by unfold f_X1_isWithin; rw [if_neg c_1]), ht⟩) (fun _ h => nomatch h) dX1_isWithin_18
  · refine lv_dload_n hx hb dX1_isWithin_6 rfl (lv_at hl 0 rfl) ?_
    refine lv_dload hx hb dX1_isWithin_7 (lv_at hl 2 rfl) ?_
    refine zd_g_gt (tgt := 17) hx hb dX1_isWithin_9 dX1_isWithin_10 (by decide) (fun c_2 => ?_) (fun c_2 => ?_)
    · refine lv_iconst (v := 0) hx hb dX1_isWithin_17 (by decide) ?_
      exact W.zret hx hb hr rfl (fun t ht _ => ⟨_, rfl, (by unfold f_X1_isWithin; rw [if_pos c_1, if_neg c_2]), ht⟩) (fun _ h => nomatch h) dX1_isWithin_18
    · refine lv_iconst (v := 1) hx hb dX1_isWithin_13 (by decide) ?_
      refine lv_goto (tgt := 18) hx hb dX1_isWithin_14 (by decide) ?_
      exact W.zret hx hb hr rfl (fun t ht _ => ⟨_, rfl, (by unfold f_X1_isWithin; rw [if_pos c_1, if_pos c_2]), ht⟩) (fun _ h => nomatch h) dX1_isWithin_18
theorem nb_X1_isWithin (x0 : UInt64) (x1 : UInt64) (x2 : UInt64) : narrow .boolean (.int (f_X1_isWithin x0 x1 x2)) = .int (f_X1_isWithin x0 x1 x2) := by
  unfold f_X1_isWithin
  (repeat' split) <;> rfl

def f_X1_isTime (x0 : UInt64) : Int32 := f_X1_isWithin x0 13920209183539462144 4696837146684686336
set_option maxHeartbeats 4000000 in
set_option maxRecDepth 100000 in
theorem k_X1_isTime (l : Launch) (x0 : UInt64)  : Met l yX1_isTime wsX1_isTime ({ frames := 1, cells := 0, slots := 0, locals := 25 }) (fun v _ => v = ([.double x0] : List Value).toArray) (vp_Si (fun r => r = f_X1_isTime x0)) 0 0 (fun _ => False) := by
  refine Met.ofW (cc := cX1_isTime) (maxL := 2) (ret := (some .boolean)) (by decide) rfl ?_
  intro p e s m args below meth c s₁ B hml hv
  obtain rfl := hv
  have hx := B.exec
  have hb := B.bytes
  have hr := B.returns
  have hts := atoms_spec (ws := wsX1_isTime) B.pre
  have hown : s.vm.findClass RX1 = some m.cls := findClass_of_methodNamed B.named
  have hlocks := B.notSynchronized
  have hl := lv_entry ([.double x0]) (n := 2) (Nat.le_of_ble_eq_true rfl)
  rw [lg_entry_eq]
  generalize (lg_sl ([.double x0]) ++ List.replicate (2 - (lg_sl ([.double x0])).length) Slot.unset).toArray = ls at hl ⊢
  have hl : lv_has ls 2 [(0, .double x0)] := hl
  refine lv_dload_n hx hb dX1_isTime_0 rfl (lv_at hl 0 rfl) ?_
  refine lv_ldc2d hx hb hown (hts (.constantDouble RX1 361 (13920209183539462144)) (by decide +kernel)) dX1_isTime_1 ?_
  have r_1 : fR 13920209183539462144 (-1073741824000000) (-1073741824000000) := fR_lit (by decide +kernel)
  refine lv_ldc2d hx hb hown (hts (.constantDouble RX1 363 (4696837146684686336)) (by decide +kernel)) dX1_isTime_4 ?_
  have r_2 : fR 4696837146684686336 1073741824000000 1073741824000000 := fR_lit (by decide +kernel)
  refine vp_callSi (W.runS (As := [.double x0, .double 13920209183539462144, .double 4696837146684686336]) (rest := []) ⟨hx, hb, hml, hown, hts⟩ (k_X1_isWithin l x0 13920209183539462144 4696837146684686336) (va_cwS 3 hts gX1_isTime_X1_isWithin rfl rfl rfl (by decide +kernel) ⟨Nat.le_of_ble_eq_true rfl, Nat.le_of_ble_eq_true rfl⟩) preEq rfl rfl hl.1 rfl (lv_room (Nat.le_of_ble_eq_true rfl)) dX1_isTime_7 ⟨Nat.zero_le _, Nat.zero_le _⟩) (fun r hr9 => ?_)
  obtain rfl := hr9
  exact W.zret hx hb hr (nb_X1_isWithin _ _ _) (fun t ht _ => ⟨_, rfl, rfl, ht⟩) (fun _ h => nomatch h) dX1_isTime_10
theorem nb_X1_isTime (x0 : UInt64) : narrow .boolean (.int (f_X1_isTime x0)) = .int (f_X1_isTime x0) := by
  unfold f_X1_isTime
  exact nb_X1_isWithin _ _ _

def f_X1_degreesInRadian  : UInt64 := 4633260481411531256
set_option maxHeartbeats 4000000 in
set_option maxRecDepth 100000 in
theorem k_X1_degreesInRadian (l : Launch)   : Met l yX1_degreesInRadian wsX1_degreesInRadian ({ frames := 0, cells := 0, slots := 0, locals := 0 }) (fun v _ => v = ([] : List Value).toArray) (vp_Sd (fun r => r = f_X1_degreesInRadian)) 0 0 (fun _ => False) := by
  refine Met.ofW (cc := cX1_degreesInRadian) (maxL := 0) (ret := (some .double)) (by decide) rfl ?_
  intro p e s m args below meth c s₁ B hml hv
  obtain rfl := hv
  have hx := B.exec
  have hb := B.bytes
  have hr := B.returns
  have hts := atoms_spec (ws := wsX1_degreesInRadian) B.pre
  have hown : s.vm.findClass RX1 = some m.cls := findClass_of_methodNamed B.named
  have hlocks := B.notSynchronized
  have hl := lv_entry ([]) (n := 0) (Nat.le_of_ble_eq_true rfl)
  rw [lg_entry_eq]
  generalize (lg_sl ([]) ++ List.replicate (0 - (lg_sl ([])).length) Slot.unset).toArray = ls at hl ⊢
  have hl : lv_has ls 0 [] := hl
  refine lv_ldc2d hx hb hown (hts (.constantDouble RX1 365 (4633260481411531256)) (by decide +kernel)) dX1_degreesInRadian_0 ?_
  have r_1 : fR 4633260481411531256 61520874801 61520874802 := fR_lit (by decide +kernel)
  exact W.dret hx hb hr (fun t ht _ => ⟨_, rfl, rfl, ht⟩) (fun _ h => nomatch h) dX1_degreesInRadian_3

def f_X1_isLeap (x0 : Int32) (x1 : Int32) : Int32 := if (x1 - x1 / 4 * 4) = 0 then (if x0 = 0 then (1) else (if (x1 - x1 / 100 * 100) = 0 then (if (x1 - x1 / 400 * 400) = 0 then (1) else (0)) else (1))) else (0)
set_option maxHeartbeats 4000000 in
set_option maxRecDepth 100000 in
theorem k_X1_isLeap (l : Launch) (x0 : Int32) (x1 : Int32)  : Met l yX1_isLeap wsX1_isLeap ({ frames := 0, cells := 0, slots := 0, locals := 0 }) (fun v _ => v = ([.int x0, .int x1] : List Value).toArray) (vp_Si (fun r => r = f_X1_isLeap x0 x1)) 0 0 (fun _ => False) := by
  refine Met.ofW (cc := cX1_isLeap) (maxL := 2) (ret := (some .boolean)) (by decide) rfl ?_
  intro p e s m args below meth c s₁ B hml hv
  obtain rfl := hv
  have hx := B.exec
  have hb := B.bytes
  have hr := B.returns
  have hts := atoms_spec (ws := wsX1_isLeap) B.pre
  have hown : s.vm.findClass RX1 = some m.cls := findClass_of_methodNamed B.named
  have hlocks := B.notSynchronized
  have hl := lv_entry ([.int x0, .int x1]) (n := 2) (Nat.le_of_ble_eq_true rfl)
  rw [lg_entry_eq]
  generalize (lg_sl ([.int x0, .int x1]) ++ List.replicate (2 - (lg_sl ([.int x0, .int x1])).length) Slot.unset).toArray = ls at hl ⊢
  have hl : lv_has ls 2 [(0, .int x0), (1, .int x1)] := hl
  refine lv_iload_n hx hb dX1_isLeap_0 rfl (lv_at hl 1 rfl) ?_
  refine lv_iconst (v := 4) hx hb dX1_isLeap_1 (by decide) ?_
  refine lv_irem hx hb dX1_isLeap_2 (by decide) ?_
  refine lv_if_eq (tgt := 8) hx hb dX1_isLeap_3 (by decide) (fun c_1 => ?_) (fun c_1 => ?_)
  · refine lv_iload_n hx hb dX1_isLeap_8 rfl (lv_at hl 0 rfl) ?_
    refine lv_if_eq (tgt := 27) hx hb dX1_isLeap_9 (by decide) (fun c_2 => ?_) (fun c_2 => ?_)
    · refine lv_iconst (v := 1) hx hb dX1_isLeap_27 (by decide) ?_
      refine lv_goto (tgt := 32) hx hb dX1_isLeap_28 (by decide) ?_
      exact W.zret hx hb hr rfl (fun t ht _ => ⟨_, rfl, (by unfold f_X1_isLeap; rw [if_pos c_1, if_pos c_2]), ht⟩) (fun _ h => nomatch h) dX1_isLeap_32
    · refine lv_iload_n hx hb dX1_isLeap_12 rfl (lv_at hl 1 rfl) ?_
      refine lv_bipush (v := 100) hx hb dX1_isLeap_13 (by decide) ?_
      refine lv_irem hx hb dX1_isLeap_15 (by decide) ?_
      refine lv_if_ne (tgt := 27) hx hb dX1_isLeap_16 (by decide) (fun c_3 => ?_) (fun c_3 => ?_)
      · refine lv_iconst (v := 1) hx hb dX1_isLeap_27 (by decide) ?_
        refine lv_goto (tgt := 32) hx hb dX1_isLeap_28 (by decide) ?_
        exact W.zret hx hb hr rfl (fun t ht _ => ⟨_, rfl, (by unfold f_X1_isLeap; rw [if_pos c_1, if_neg c_2, if_neg c_3]), ht⟩) (fun _ h => nomatch h) dX1_isLeap_32
      · refine lv_iload_n hx hb dX1_isLeap_19 rfl (lv_at hl 1 rfl) ?_
        refine lv_sipush (v := 400) hx hb dX1_isLeap_20 (by decide) ?_
        refine lv_irem hx hb dX1_isLeap_23 (by decide) ?_
        refine lv_if_ne (tgt := 31) hx hb dX1_isLeap_24 (by decide) (fun c_4 => ?_) (fun c_4 => ?_)
        · refine lv_iconst (v := 0) hx hb dX1_isLeap_31 (by decide) ?_
          exact W.zret hx hb hr rfl (fun t ht _ => ⟨_, rfl, (by unfold f_X1_isLeap; rw [if_pos c_1, if_neg c_2, if_pos c_3, if_neg c_4]), ht⟩) (fun _ h => nomatch h) dX1_isLeap_32
        · refine lv_iconst (v := 1) hx hb dX1_isLeap_27 (by decide) ?_
          refine lv_goto (tgt := 32) hx hb dX1_isLeap_28 (by decide) ?_
          exact W.zret hx hb hr rfl (fun t ht _ => ⟨_, rfl, (by unfold f_X1_isLeap; rw [if_pos c_1, if_neg c_2, if_pos c_3, if_pos c_4]), ht⟩) (fun _ h => nomatch h) dX1_isLeap_32
  · refine lv_iconst (v := 0) hx hb dX1_isLeap_6 (by decide) ?_
    exact W.zret hx hb hr rfl (fun t ht _ => ⟨_, rfl, (by unfold f_X1_isLeap; rw [if_neg c_1]), ht⟩) (fun _ h => nomatch h) dX1_isLeap_7
theorem nb_X1_isLeap (x0 : Int32) (x1 : Int32) : narrow .boolean (.int (f_X1_isLeap x0 x1)) = .int (f_X1_isLeap x0 x1) := by
  unfold f_X1_isLeap
  (repeat' split) <;> rfl

def f_X1_wholeParts (x0 : Int64) (x1 : Int64) : Int64 := if x1 ≤ 0 then (x0) else (x0 / x1)
set_option maxHeartbeats 4000000 in
set_option maxRecDepth 100000 in
theorem k_X1_wholeParts (l : Launch) (x0 : Int64) (x1 : Int64)  : Met l yX1_wholeParts wsX1_wholeParts ({ frames := 0, cells := 0, slots := 0, locals := 0 }) (fun v _ => v = ([.long x0, .long x1] : List Value).toArray) (vp_Sl (fun r => r = f_X1_wholeParts x0 x1)) 0 0 (fun _ => False) := by
  refine Met.ofW (cc := cX1_wholeParts) (maxL := 4) (ret := (some .long)) (by decide) rfl ?_
  intro p e s m args below meth c s₁ B hml hv
  obtain rfl := hv
  have hx := B.exec
  have hb := B.bytes
  have hr := B.returns
  have hts := atoms_spec (ws := wsX1_wholeParts) B.pre
  have hown : s.vm.findClass RX1 = some m.cls := findClass_of_methodNamed B.named
  have hlocks := B.notSynchronized
  have hl := lv_entry ([.long x0, .long x1]) (n := 4) (Nat.le_of_ble_eq_true rfl)
  rw [lg_entry_eq]
  generalize (lg_sl ([.long x0, .long x1]) ++ List.replicate (4 - (lg_sl ([.long x0, .long x1])).length) Slot.unset).toArray = ls at hl ⊢
  have hl : lv_has ls 4 [(0, .long x0), (2, .long x1)] := hl
  refine lv_lload_n hx hb dX1_wholeParts_0 rfl (lv_at hl 1 rfl) ?_
  refine lv_lconst (v := 0) hx hb dX1_wholeParts_1 (by decide) ?_
  refine zl_le (tgt := 12) hx hb dX1_wholeParts_2 dX1_wholeParts_3 (by decide) (fun c_1 => ?_) (fun c_1 => ?_)
  · refine lv_lload_n hx hb dX1_wholeParts_12 rfl (lv_at hl 0 rfl) ?_
    exact W.lret hx hb hr (fun t ht _ => ⟨_, rfl, (by unfold f_X1_wholeParts; rw [if_pos c_1]), ht⟩) (fun _ h => nomatch h) dX1_wholeParts_13
  · refine lv_lload_n hx hb dX1_wholeParts_6 rfl (lv_at hl 0 rfl) ?_
    refine lv_lload_n hx hb dX1_wholeParts_7 rfl (lv_at hl 1 rfl) ?_
    refine lv_ldiv hx hb dX1_wholeParts_8 (fun h => by subst h; exact absurd c_1 (by decide)) ?_
    refine lv_goto (tgt := 13) hx hb dX1_wholeParts_9 (by decide) ?_
    exact W.lret hx hb hr (fun t ht _ => ⟨_, rfl, (by unfold f_X1_wholeParts; rw [if_neg c_1]), ht⟩) (fun _ h => nomatch h) dX1_wholeParts_13

def f_J9_floorDiv_7cf53 (x0 : Int32) (x1 : Int32) : Int32 := if 0 ≤ (x0 ^^^ x1) then (x0 / x1) else (if ((x0 / x1) * x1) = x0 then (x0 / x1) else ((x0 / x1) - 1))
set_option maxHeartbeats 4000000 in
set_option maxRecDepth 100000 in
theorem k_J9_floorDiv_7cf53 (l : Launch) (x0 : Int32) (x1 : Int32) (h0 : ¬ x1 = 0) : Met l yJ9_floorDiv_7cf53 wsJ9_floorDiv_7cf53 ({ frames := 0, cells := 0, slots := 0, locals := 0 }) (fun v _ => v = ([.int x0, .int x1] : List Value).toArray) (vp_Si (fun r => r = f_J9_floorDiv_7cf53 x0 x1)) 0 0 (fun _ => False) := by
  refine va_MetF (cc := cJ9_floorDiv_7cf53) (maxL := 3) (ret := (some .int)) (by decide +kernel) rfl ?_
  intro p e s m args below meth c s₁ B hml hv
  obtain rfl := hv
  have hx := B.exec
  have hb := B.bytes
  have hr := B.returns
  have hts := atoms_spec (ws := wsJ9_floorDiv_7cf53) B.pre
  have hown : s.vm.findClass RJ9 = some m.cls := findClass_of_methodNamed B.named
  have hlocks := B.notSynchronized
  have hl := lv_entry ([.int x0, .int x1]) (n := 3) (Nat.le_of_ble_eq_true rfl)
  rw [lg_entry_eq]
  generalize (lg_sl ([.int x0, .int x1]) ++ List.replicate (3 - (lg_sl ([.int x0, .int x1])).length) Slot.unset).toArray = ls at hl ⊢
  have hl : lv_has ls 3 [(0, .int x0), (1, .int x1)] := hl
  refine lv_iload_n hx hb dJ9_floorDiv_7cf53_0 rfl (lv_at hl 0 rfl) ?_
  refine lv_iload_n hx hb dJ9_floorDiv_7cf53_1 rfl (lv_at hl 1 rfl) ?_
  refine lv_idiv hx hb dJ9_floorDiv_7cf53_2 h0 ?_
  refine lv_istore_n (lv' := [(2, .int (x0 / x1)), (0, .int x0), (1, .int x1)]) hx hb dJ9_floorDiv_7cf53_3 rfl hl (by decide) rfl (fun ls hl => ?_)
  refine lv_iload_n hx hb dJ9_floorDiv_7cf53_4 rfl (lv_at hl 1 rfl) ?_
  refine lv_iload_n hx hb dJ9_floorDiv_7cf53_5 rfl (lv_at hl 2 rfl) ?_
  refine lv_ixor hx hb dJ9_floorDiv_7cf53_6 ?_
  refine lv_if_ge (tgt := 21) hx hb dJ9_floorDiv_7cf53_7 (by decide) (fun c_1 => ?_) (fun c_1 => ?_)
  · refine lv_iload_n hx hb dJ9_floorDiv_7cf53_21 rfl (lv_at hl 0 rfl) ?_
    exact W.iret hx hb hr (fun t ht _ => ⟨_, rfl, (by unfold f_J9_floorDiv_7cf53; rw [if_pos c_1]), ht⟩) (fun _ h => nomatch h) dJ9_floorDiv_7cf53_22
  · refine lv_iload_n hx hb dJ9_floorDiv_7cf53_10 rfl (lv_at hl 0 rfl) ?_
    refine lv_iload_n hx hb dJ9_floorDiv_7cf53_11 rfl (lv_at hl 2 rfl) ?_
    refine lv_imul hx hb dJ9_floorDiv_7cf53_12 ?_
    refine lv_iload_n hx hb dJ9_floorDiv_7cf53_13 rfl (lv_at hl 1 rfl) ?_
    refine lv_icmp_eq (tgt := 21) hx hb dJ9_floorDiv_7cf53_14 (by decide) (fun c_2 => ?_) (fun c_2 => ?_)
    · refine lv_iload_n hx hb dJ9_floorDiv_7cf53_21 rfl (lv_at hl 0 rfl) ?_
      exact W.iret hx hb hr (fun t ht _ => ⟨_, rfl, (by unfold f_J9_floorDiv_7cf53; rw [if_neg c_1, if_pos c_2]), ht⟩) (fun _ h => nomatch h) dJ9_floorDiv_7cf53_22
    · refine lv_iload_n hx hb dJ9_floorDiv_7cf53_17 rfl (lv_at hl 0 rfl) ?_
      refine lv_iconst (v := 1) hx hb dJ9_floorDiv_7cf53_18 (by decide) ?_
      refine lv_isub hx hb dJ9_floorDiv_7cf53_19 ?_
      exact W.iret hx hb hr (fun t ht _ => ⟨_, rfl, (by unfold f_J9_floorDiv_7cf53; rw [if_neg c_1, if_neg c_2]), ht⟩) (fun _ h => nomatch h) dJ9_floorDiv_7cf53_20

def f_J9_floorDiv_f86c9 (x0 : Int64) (x1 : Int64) : Int64 := if 0 ≤ (x0 ^^^ x1) then (x0 / x1) else (if ((x0 / x1) * x1) = x0 then (x0 / x1) else ((x0 / x1) - 1))
set_option maxHeartbeats 4000000 in
set_option maxRecDepth 100000 in
theorem k_J9_floorDiv_f86c9 (l : Launch) (x0 : Int64) (x1 : Int64) (h0 : ¬ x1 = 0) : Met l yJ9_floorDiv_f86c9 wsJ9_floorDiv_f86c9 ({ frames := 0, cells := 0, slots := 0, locals := 0 }) (fun v _ => v = ([.long x0, .long x1] : List Value).toArray) (vp_Sl (fun r => r = f_J9_floorDiv_f86c9 x0 x1)) 0 0 (fun _ => False) := by
  refine va_MetF (cc := cJ9_floorDiv_f86c9) (maxL := 6) (ret := (some .long)) (by decide +kernel) rfl ?_
  intro p e s m args below meth c s₁ B hml hv
  obtain rfl := hv
  have hx := B.exec
  have hb := B.bytes
  have hr := B.returns
  have hts := atoms_spec (ws := wsJ9_floorDiv_f86c9) B.pre
  have hown : s.vm.findClass RJ9 = some m.cls := findClass_of_methodNamed B.named
  have hlocks := B.notSynchronized
  have hl := lv_entry ([.long x0, .long x1]) (n := 6) (Nat.le_of_ble_eq_true rfl)
  rw [lg_entry_eq]
  generalize (lg_sl ([.long x0, .long x1]) ++ List.replicate (6 - (lg_sl ([.long x0, .long x1])).length) Slot.unset).toArray = ls at hl ⊢
  have hl : lv_has ls 6 [(0, .long x0), (2, .long x1)] := hl
  refine lv_lload_n hx hb dJ9_floorDiv_f86c9_0 rfl (lv_at hl 0 rfl) ?_
  refine lv_lload_n hx hb dJ9_floorDiv_f86c9_1 rfl (lv_at hl 1 rfl) ?_
  refine lv_ldiv hx hb dJ9_floorDiv_f86c9_2 h0 ?_
  refine lv_lstore (lv' := [(4, .long (x0 / x1)), (0, .long x0), (2, .long x1)]) hx hb dJ9_floorDiv_f86c9_3 hl (by decide) rfl (fun ls hl => ?_)
  refine lv_lload_n hx hb dJ9_floorDiv_f86c9_5 rfl (lv_at hl 1 rfl) ?_
  refine lv_lload_n hx hb dJ9_floorDiv_f86c9_6 rfl (lv_at hl 2 rfl) ?_
  refine lv_lxor hx hb dJ9_floorDiv_f86c9_7 ?_
  refine lv_lconst (v := 0) hx hb dJ9_floorDiv_f86c9_8 (by decide) ?_
  refine zl_ge (tgt := 27) hx hb dJ9_floorDiv_f86c9_9 dJ9_floorDiv_f86c9_10 (by decide) (fun c_1 => ?_) (fun c_1 => ?_)
  · refine lv_lload hx hb dJ9_floorDiv_f86c9_27 (lv_at hl 0 rfl) ?_
    exact W.lret hx hb hr (fun t ht _ => ⟨_, rfl, (by unfold f_J9_floorDiv_f86c9; rw [if_pos c_1]), ht⟩) (fun _ h => nomatch h) dJ9_floorDiv_f86c9_29
  · refine lv_lload hx hb dJ9_floorDiv_f86c9_13 (lv_at hl 0 rfl) ?_
    refine lv_lload_n hx hb dJ9_floorDiv_f86c9_15 rfl (lv_at hl 2 rfl) ?_
    refine lv_lmul hx hb dJ9_floorDiv_f86c9_16 ?_
    refine lv_lload_n hx hb dJ9_floorDiv_f86c9_17 rfl (lv_at hl 1 rfl) ?_
    refine zl_eq (tgt := 27) hx hb dJ9_floorDiv_f86c9_18 dJ9_floorDiv_f86c9_19 (by decide) (fun c_2 => ?_) (fun c_2 => ?_)
    · refine lv_lload hx hb dJ9_floorDiv_f86c9_27 (lv_at hl 0 rfl) ?_
      exact W.lret hx hb hr (fun t ht _ => ⟨_, rfl, (by unfold f_J9_floorDiv_f86c9; rw [if_neg c_1, if_pos c_2]), ht⟩) (fun _ h => nomatch h) dJ9_floorDiv_f86c9_29
    · refine lv_lload hx hb dJ9_floorDiv_f86c9_22 (lv_at hl 0 rfl) ?_
      refine lv_lconst (v := 1) hx hb dJ9_floorDiv_f86c9_24 (by decide) ?_
      refine lv_lsub hx hb dJ9_floorDiv_f86c9_25 ?_
      exact W.lret hx hb hr (fun t ht _ => ⟨_, rfl, (by unfold f_J9_floorDiv_f86c9; rw [if_neg c_1, if_neg c_2]), ht⟩) (fun _ h => nomatch h) dJ9_floorDiv_f86c9_26

def f_J9_floorMod_7cf53 (x0 : Int32) (x1 : Int32) : Int32 := if 0 ≤ (x0 ^^^ x1) then (x0 - x0 / x1 * x1) else (if (x0 - x0 / x1 * x1) = 0 then (x0 - x0 / x1 * x1) else ((x0 - x0 / x1 * x1) + x1))
set_option maxHeartbeats 4000000 in
set_option maxRecDepth 100000 in
theorem k_J9_floorMod_7cf53 (l : Launch) (x0 : Int32) (x1 : Int32) (h0 : ¬ x1 = 0) : Met l yJ9_floorMod_7cf53 wsJ9_floorMod_7cf53 ({ frames := 0, cells := 0, slots := 0, locals := 0 }) (fun v _ => v = ([.int x0, .int x1] : List Value).toArray) (vp_Si (fun r => r = f_J9_floorMod_7cf53 x0 x1)) 0 0 (fun _ => False) := by
  refine va_MetF (cc := cJ9_floorMod_7cf53) (maxL := 3) (ret := (some .int)) (by decide +kernel) rfl ?_
  intro p e s m args below meth c s₁ B hml hv
  obtain rfl := hv
  have hx := B.exec
  have hb := B.bytes
  have hr := B.returns
  have hts := atoms_spec (ws := wsJ9_floorMod_7cf53) B.pre
  have hown : s.vm.findClass RJ9 = some m.cls := findClass_of_methodNamed B.named
  have hlocks := B.notSynchronized
  have hl := lv_entry ([.int x0, .int x1]) (n := 3) (Nat.le_of_ble_eq_true rfl)
  rw [lg_entry_eq]
  generalize (lg_sl ([.int x0, .int x1]) ++ List.replicate (3 - (lg_sl ([.int x0, .int x1])).length) Slot.unset).toArray = ls at hl ⊢
  have hl : lv_has ls 3 [(0, .int x0), (1, .int x1)] := hl
  refine lv_iload_n hx hb dJ9_floorMod_7cf53_0 rfl (lv_at hl 0 rfl) ?_
  refine lv_iload_n hx hb dJ9_floorMod_7cf53_1 rfl (lv_at hl 1 rfl) ?_
  refine lv_irem hx hb dJ9_floorMod_7cf53_2 h0 ?_
  refine lv_istore_n (lv' := [(2, .int (x0 - x0 / x1 * x1)), (0, .int x0), (1, .int x1)]) hx hb dJ9_floorMod_7cf53_3 rfl hl (by decide) rfl (fun ls hl => ?_)
  refine lv_iload_n hx hb dJ9_floorMod_7cf53_4 rfl (lv_at hl 1 rfl) ?_
  refine lv_iload_n hx hb dJ9_floorMod_7cf53_5 rfl (lv_at hl 2 rfl) ?_
  refine lv_ixor hx hb dJ9_floorMod_7cf53_6 ?_
  refine lv_if_ge (tgt := 18) hx hb dJ9_floorMod_7cf53_7 (by decide) (fun c_1 => ?_) (fun c_1 => ?_)
  · refine lv_iload_n hx hb dJ9_floorMod_7cf53_18 rfl (lv_at hl 0 rfl) ?_
    exact W.iret hx hb hr (fun t ht _ => ⟨_, rfl, (by unfold f_J9_floorMod_7cf53; rw [if_pos c_1]), ht⟩) (fun _ h => nomatch h) dJ9_floorMod_7cf53_19
  · refine lv_iload_n hx hb dJ9_floorMod_7cf53_10 rfl (lv_at hl 0 rfl) ?_
    refine lv_if_eq (tgt := 18) hx hb dJ9_floorMod_7cf53_11 (by decide) (fun c_2 => ?_) (fun c_2 => ?_)
    · refine lv_iload_n hx hb dJ9_floorMod_7cf53_18 rfl (lv_at hl 0 rfl) ?_
      exact W.iret hx hb hr (fun t ht _ => ⟨_, rfl, (by unfold f_J9_floorMod_7cf53; rw [if_neg c_1, if_pos c_2]), ht⟩) (fun _ h => nomatch h) dJ9_floorMod_7cf53_19
    · refine lv_iload_n hx hb dJ9_floorMod_7cf53_14 rfl (lv_at hl 0 rfl) ?_
      refine lv_iload_n hx hb dJ9_floorMod_7cf53_15 rfl (lv_at hl 2 rfl) ?_
      refine lv_iadd hx hb dJ9_floorMod_7cf53_16 ?_
      exact W.iret hx hb hr (fun t ht _ => ⟨_, rfl, (by unfold f_J9_floorMod_7cf53; rw [if_neg c_1, if_neg c_2]), ht⟩) (fun _ h => nomatch h) dJ9_floorMod_7cf53_17

def f_X1_firstDayOfYear_15_0 (x1 : Int32) : Int64 := (365 * (Int32.toInt64 x1)) + (Int32.toInt64 (f_J9_floorDiv_7cf53 (x1 + 3) 4))
def f_X1_firstDayOfYear (x0 : Int32) (x1 : Int32) : Int64 := if x0 = 0 then ((f_X1_firstDayOfYear_15_0 x1) + 1721058) else ((((f_X1_firstDayOfYear_15_0 x1) - (Int32.toInt64 (f_J9_floorDiv_7cf53 (x1 + 99) 100))) + (Int32.toInt64 (f_J9_floorDiv_7cf53 (x1 + 399) 400))) + 1721060)
set_option maxHeartbeats 4000000 in
set_option maxRecDepth 100000 in
theorem k_X1_firstDayOfYear (l : Launch) (x0 : Int32) (x1 : Int32)  : Met l yX1_firstDayOfYear wsX1_firstDayOfYear ({ frames := 1, cells := 0, slots := 0, locals := 22 }) (fun v _ => v = ([.int x0, .int x1] : List Value).toArray) (vp_Sl (fun r => r = f_X1_firstDayOfYear x0 x1)) 0 0 (fun _ => False) := by
  refine Met.ofW (cc := cX1_firstDayOfYear) (maxL := 4) (ret := (some .long)) (by decide) rfl ?_
  intro p e s m args below meth c s₁ B hml hv
  obtain rfl := hv
  have hx := B.exec
  have hb := B.bytes
  have hr := B.returns
  have hts := atoms_spec (ws := wsX1_firstDayOfYear) B.pre
  have hown : s.vm.findClass RX1 = some m.cls := findClass_of_methodNamed B.named
  have hlocks := B.notSynchronized
  have hl := lv_entry ([.int x0, .int x1]) (n := 4) (Nat.le_of_ble_eq_true rfl)
  rw [lg_entry_eq]
  generalize (lg_sl ([.int x0, .int x1]) ++ List.replicate (4 - (lg_sl ([.int x0, .int x1])).length) Slot.unset).toArray = ls at hl ⊢
  have hl : lv_has ls 4 [(0, .int x0), (1, .int x1)] := hl
  refine lv_ldc2 hx hb hown (hts (.constantLong RX1 118 (365)) (by decide +kernel)) dX1_firstDayOfYear_0 ?_
  refine lv_iload_n hx hb dX1_firstDayOfYear_3 rfl (lv_at hl 1 rfl) ?_
  refine lv_i2l hx hb dX1_firstDayOfYear_4 rfl ?_
  refine lv_lmul hx hb dX1_firstDayOfYear_5 ?_
  refine lv_iload_n hx hb dX1_firstDayOfYear_6 rfl (lv_at hl 1 rfl) ?_
  refine lv_iconst (v := 3) hx hb dX1_firstDayOfYear_7 (by decide) ?_
  refine lv_iadd hx hb dX1_firstDayOfYear_8 ?_
  refine lv_iconst (v := 4) hx hb dX1_firstDayOfYear_9 (by decide) ?_
  refine vp_callSi (W.runS (As := [.int (x1 + 3), .int 4]) (rest := [.long (365 * (Int32.toInt64 x1))]) ⟨hx, hb, hml, hown, hts⟩ (k_J9_floorDiv_7cf53 l (x1 + 3) 4 (by decide)) (va_cwS 2 hts gX1_firstDayOfYear_J9_floorDiv_7cf53 rfl rfl rfl (by decide +kernel) ⟨Nat.le_of_ble_eq_true rfl, Nat.le_of_ble_eq_true rfl⟩) preEq rfl rfl hl.1 rfl (lv_room (Nat.le_of_ble_eq_true rfl)) dX1_firstDayOfYear_10 ⟨Nat.zero_le _, Nat.zero_le _⟩) (fun r hr9 => ?_)
  obtain rfl := hr9
  refine lv_i2l hx hb dX1_firstDayOfYear_13 rfl ?_
  refine lv_ladd hx hb dX1_firstDayOfYear_14 ?_
  refine lv_lstore_n (lv' := [(2, .long (f_X1_firstDayOfYear_15_0 x1)), (0, .int x0), (1, .int x1)]) hx hb dX1_firstDayOfYear_15 rfl hl (by decide) rfl (fun ls hl => ?_)
  refine lv_iload_n hx hb dX1_firstDayOfYear_16 rfl (lv_at hl 1 rfl) ?_
  refine lv_if_ne (tgt := 26) hx hb dX1_firstDayOfYear_17 (by decide) (fun c_1 => ?_) (fun c_1 => ?_)
  · refine lv_lload_n hx hb dX1_firstDayOfYear_26 rfl (lv_at hl 0 rfl) ?_
    refine lv_iload_n hx hb dX1_firstDayOfYear_27 rfl (lv_at hl 2 rfl) ?_
    refine lv_bipush (v := 99) hx hb dX1_firstDayOfYear_28 (by decide) ?_
    refine lv_iadd hx hb dX1_firstDayOfYear_30 ?_
    refine lv_bipush (v := 100) hx hb dX1_firstDayOfYear_31 (by decide) ?_
    refine vp_callSi (W.runS (As := [.int (x1 + 99), .int 100]) (rest := [.long (f_X1_firstDayOfYear_15_0 x1)]) ⟨hx, hb, hml, hown, hts⟩ (k_J9_floorDiv_7cf53 l (x1 + 99) 100 (by decide)) (va_cwS 2 hts gX1_firstDayOfYear_J9_floorDiv_7cf53 rfl rfl rfl (by decide +kernel) ⟨Nat.le_of_ble_eq_true rfl, Nat.le_of_ble_eq_true rfl⟩) preEq rfl rfl hl.1 rfl (lv_room (Nat.le_of_ble_eq_true rfl)) dX1_firstDayOfYear_33 ⟨Nat.zero_le _, Nat.zero_le _⟩) (fun r hr9 => ?_)
    obtain rfl := hr9
    refine lv_i2l hx hb dX1_firstDayOfYear_36 rfl ?_
    refine lv_lsub hx hb dX1_firstDayOfYear_37 ?_
    refine lv_iload_n hx hb dX1_firstDayOfYear_38 rfl (lv_at hl 2 rfl) ?_
    refine lv_sipush (v := 399) hx hb dX1_firstDayOfYear_39 (by decide) ?_
    refine lv_iadd hx hb dX1_firstDayOfYear_42 ?_
    refine lv_sipush (v := 400) hx hb dX1_firstDayOfYear_43 (by decide) ?_
    refine vp_callSi (W.runS (As := [.int (x1 + 399), .int 400]) (rest := [.long ((f_X1_firstDayOfYear_15_0 x1) - (Int32.toInt64 (f_J9_floorDiv_7cf53 (x1 + 99) 100)))]) ⟨hx, hb, hml, hown, hts⟩ (k_J9_floorDiv_7cf53 l (x1 + 399) 400 (by decide)) (va_cwS 2 hts gX1_firstDayOfYear_J9_floorDiv_7cf53 rfl rfl rfl (by decide +kernel) ⟨Nat.le_of_ble_eq_true rfl, Nat.le_of_ble_eq_true rfl⟩) preEq rfl rfl hl.1 rfl (lv_room (Nat.le_of_ble_eq_true rfl)) dX1_firstDayOfYear_46 ⟨Nat.zero_le _, Nat.zero_le _⟩) (fun r hr9 => ?_)
    obtain rfl := hr9
    refine lv_i2l hx hb dX1_firstDayOfYear_49 rfl ?_
    refine lv_ladd hx hb dX1_firstDayOfYear_50 ?_
    refine lv_ldc2 hx hb hown (hts (.constantLong RX1 125 (1721060)) (by decide +kernel)) dX1_firstDayOfYear_51 ?_
    refine lv_ladd hx hb dX1_firstDayOfYear_54 ?_
    exact W.lret hx hb hr (fun t ht _ => ⟨_, rfl, (by unfold f_X1_firstDayOfYear; rw [if_neg c_1]), ht⟩) (fun _ h => nomatch h) dX1_firstDayOfYear_55
  · refine lv_lload_n hx hb dX1_firstDayOfYear_20 rfl (lv_at hl 0 rfl) ?_
    refine lv_ldc2 hx hb hown (hts (.constantLong RX1 123 (1721058)) (by decide +kernel)) dX1_firstDayOfYear_21 ?_
    refine lv_ladd hx hb dX1_firstDayOfYear_24 ?_
    exact W.lret hx hb hr (fun t ht _ => ⟨_, rfl, (by unfold f_X1_firstDayOfYear; rw [if_pos c_1]), ht⟩) (fun _ h => nomatch h) dX1_firstDayOfYear_25

def f_X2_within (x0 : UInt64) (x1 : UInt64) (x2 : UInt64) : Int32 := if dge x0 x1 then (if dle x0 x2 then (1) else (0)) else (0)
set_option maxHeartbeats 4000000 in
set_option maxRecDepth 100000 in
theorem k_X2_within (l : Launch) (x0 : UInt64) (x1 : UInt64) (x2 : UInt64)  : Met l yX2_within wsX2_within ({ frames := 0, cells := 0, slots := 0, locals := 0 }) (fun v _ => v = ([.double x0, .double x1, .double x2] : List Value).toArray) (vp_Si (fun r => r = f_X2_within x0 x1 x2)) 0 0 (fun _ => False) := by
  refine Met.ofW (cc := cX2_within) (maxL := 6) (ret := (some .boolean)) (by decide) rfl ?_
  intro p e s m args below meth c s₁ B hml hv
  obtain rfl := hv
  have hx := B.exec
  have hb := B.bytes
  have hr := B.returns
  have hts := atoms_spec (ws := wsX2_within) B.pre
  have hown : s.vm.findClass RX2 = some m.cls := findClass_of_methodNamed B.named
  have hlocks := B.notSynchronized
  have hl := lv_entry ([.double x0, .double x1, .double x2]) (n := 6) (Nat.le_of_ble_eq_true rfl)
  rw [lg_entry_eq]
  generalize (lg_sl ([.double x0, .double x1, .double x2]) ++ List.replicate (6 - (lg_sl ([.double x0, .double x1, .double x2])).length) Slot.unset).toArray = ls at hl ⊢
  have hl : lv_has ls 6 [(0, .double x0), (2, .double x1), (4, .double x2)] := hl
  refine lv_dload_n hx hb dX2_within_0 rfl (lv_at hl 0 rfl) ?_
  refine lv_dload_n hx hb dX2_within_1 rfl (lv_at hl 1 rfl) ?_
  refine zd_l_lt (tgt := 17) hx hb dX2_within_2 dX2_within_3 (by decide) (fun c_1 => ?_) (fun c_1 => ?_)
  · refine lv_iconst (v := 0) hx hb dX2_within_17 (by decide) ?_
    exact W.zret hx hb hr rfl (fun t ht _ => ⟨_, rfl, (by unfold f_X2_within; rw [if_neg c_1]), ht⟩) (fun _ h => nomatch h) dX2_within_18
  · refine lv_dload_n hx hb dX2_within_6 rfl (lv_at hl 0 rfl) ?_
    refine lv_dload hx hb dX2_within_7 (lv_at hl 2 rfl) ?_
    refine zd_g_gt (tgt := 17) hx hb dX2_within_9 dX2_within_10 (by decide) (fun c_2 => ?_) (fun c_2 => ?_)
    · refine lv_iconst (v := 0) hx hb dX2_within_17 (by decide) ?_
      exact W.zret hx hb hr rfl (fun t ht _ => ⟨_, rfl, (by unfold f_X2_within; rw [if_pos c_1, if_neg c_2]), ht⟩) (fun _ h => nomatch h) dX2_within_18
    · refine lv_iconst (v := 1) hx hb dX2_within_13 (by decide) ?_
      refine lv_goto (tgt := 18) hx hb dX2_within_14 (by decide) ?_
      exact W.zret hx hb hr rfl (fun t ht _ => ⟨_, rfl, (by unfold f_X2_within; rw [if_pos c_1, if_pos c_2]), ht⟩) (fun _ h => nomatch h) dX2_within_18
theorem nb_X2_within (x0 : UInt64) (x1 : UInt64) (x2 : UInt64) : narrow .boolean (.int (f_X2_within x0 x1 x2)) = .int (f_X2_within x0 x1 x2) := by
  unfold f_X2_within
  (repeat' split) <;> rfl

def f_X2_floor (x0 : Int64) (x1 : Int64) : Int64 := if x0 < 0 then (-(((x1 - 1) - x0) / x1)) else (x0 / x1)
set_option maxHeartbeats 4000000 in
set_option maxRecDepth 100000 in
theorem k_X2_floor (l : Launch) (x0 : Int64) (x1 : Int64) (h0 : ¬ x1 = 0) : Met l yX2_floor wsX2_floor ({ frames := 0, cells := 0, slots := 0, locals := 0 }) (fun v _ => v = ([.long x0, .long x1] : List Value).toArray) (vp_Sl (fun r => r = f_X2_floor x0 x1)) 0 0 (fun _ => False) := by
  refine Met.ofW (cc := cX2_floor) (maxL := 4) (ret := (some .long)) (by decide) rfl ?_
  intro p e s m args below meth c s₁ B hml hv
  obtain rfl := hv
  have hx := B.exec
  have hb := B.bytes
  have hr := B.returns
  have hts := atoms_spec (ws := wsX2_floor) B.pre
  have hown : s.vm.findClass RX2 = some m.cls := findClass_of_methodNamed B.named
  have hlocks := B.notSynchronized
  have hl := lv_entry ([.long x0, .long x1]) (n := 4) (Nat.le_of_ble_eq_true rfl)
  rw [lg_entry_eq]
  generalize (lg_sl ([.long x0, .long x1]) ++ List.replicate (4 - (lg_sl ([.long x0, .long x1])).length) Slot.unset).toArray = ls at hl ⊢
  have hl : lv_has ls 4 [(0, .long x0), (2, .long x1)] := hl
  refine lv_lload_n hx hb dX2_floor_0 rfl (lv_at hl 0 rfl) ?_
  refine lv_lconst (v := 0) hx hb dX2_floor_1 (by decide) ?_
  refine zl_lt (tgt := 12) hx hb dX2_floor_2 dX2_floor_3 (by decide) (fun c_1 => ?_) (fun c_1 => ?_)
  · refine lv_lload_n hx hb dX2_floor_12 rfl (lv_at hl 1 rfl) ?_
    refine lv_lconst (v := 1) hx hb dX2_floor_13 (by decide) ?_
    refine lv_lsub hx hb dX2_floor_14 ?_
    refine lv_lload_n hx hb dX2_floor_15 rfl (lv_at hl 0 rfl) ?_
    refine lv_lsub hx hb dX2_floor_16 ?_
    refine lv_lload_n hx hb dX2_floor_17 rfl (lv_at hl 1 rfl) ?_
    refine lv_ldiv hx hb dX2_floor_18 h0 ?_
    refine lv_lneg hx hb dX2_floor_19 ?_
    exact W.lret hx hb hr (fun t ht _ => ⟨_, rfl, (by unfold f_X2_floor; rw [if_pos c_1]), ht⟩) (fun _ h => nomatch h) dX2_floor_20
  · refine lv_lload_n hx hb dX2_floor_6 rfl (lv_at hl 0 rfl) ?_
    refine lv_lload_n hx hb dX2_floor_7 rfl (lv_at hl 1 rfl) ?_
    refine lv_ldiv hx hb dX2_floor_8 h0 ?_
    refine lv_goto (tgt := 20) hx hb dX2_floor_9 (by decide) ?_
    exact W.lret hx hb hr (fun t ht _ => ⟨_, rfl, (by unfold f_X2_floor; rw [if_neg c_1]), ht⟩) (fun _ h => nomatch h) dX2_floor_20

def f_X2_before (x0 : Int32) (x1 : Int64) : Int64 := if x0 = 0 then ((365 * x1) + (f_X2_floor (x1 + 3) 4)) else ((365 * x1) + (((f_X2_floor (x1 + 3) 4) - (f_X2_floor (x1 + 99) 100)) + (f_X2_floor (x1 + 399) 400)))
set_option maxHeartbeats 4000000 in
set_option maxRecDepth 100000 in
theorem k_X2_before (l : Launch) (x0 : Int32) (x1 : Int64)  : Met l yX2_before wsX2_before ({ frames := 1, cells := 0, slots := 0, locals := 23 }) (fun v _ => v = ([.int x0, .long x1] : List Value).toArray) (vp_Sl (fun r => r = f_X2_before x0 x1)) 0 0 (fun _ => False) := by
  refine Met.ofW (cc := cX2_before) (maxL := 5) (ret := (some .long)) (by decide) rfl ?_
  intro p e s m args below meth c s₁ B hml hv
  obtain rfl := hv
  have hx := B.exec
  have hb := B.bytes
  have hr := B.returns
  have hts := atoms_spec (ws := wsX2_before) B.pre
  have hown : s.vm.findClass RX2 = some m.cls := findClass_of_methodNamed B.named
  have hlocks := B.notSynchronized
  have hl := lv_entry ([.int x0, .long x1]) (n := 5) (Nat.le_of_ble_eq_true rfl)
  rw [lg_entry_eq]
  generalize (lg_sl ([.int x0, .long x1]) ++ List.replicate (5 - (lg_sl ([.int x0, .long x1])).length) Slot.unset).toArray = ls at hl ⊢
  have hl : lv_has ls 5 [(0, .int x0), (1, .long x1)] := hl
  refine lv_lload_n hx hb dX2_before_0 rfl (lv_at hl 1 rfl) ?_
  refine lv_ldc2 hx hb hown (hts (.constantLong RX2 34 (3)) (by decide +kernel)) dX2_before_1 ?_
  refine lv_ladd hx hb dX2_before_4 ?_
  refine lv_ldc2 hx hb hown (hts (.constantLong RX2 36 (4)) (by decide +kernel)) dX2_before_5 ?_
  refine vp_callSl (W.runS (As := [.long (x1 + 3), .long 4]) (rest := []) ⟨hx, hb, hml, hown, hts⟩ (k_X2_floor l (x1 + 3) 4 (by decide)) (va_cwS 2 hts gX2_before_X2_floor rfl rfl rfl (by decide +kernel) ⟨Nat.le_of_ble_eq_true rfl, Nat.le_of_ble_eq_true rfl⟩) preEq rfl rfl hl.1 rfl (lv_room (Nat.le_of_ble_eq_true rfl)) dX2_before_8 ⟨Nat.zero_le _, Nat.zero_le _⟩) (fun r hr9 => ?_)
  obtain rfl := hr9
  refine lv_lstore_n (lv' := [(3, .long (f_X2_floor (x1 + 3) 4)), (0, .int x0), (1, .long x1)]) hx hb dX2_before_11 rfl hl (by decide) rfl (fun ls hl => ?_)
  refine lv_ldc2 hx hb hown (hts (.constantLong RX2 42 (365)) (by decide +kernel)) dX2_before_12 ?_
  refine lv_lload_n hx hb dX2_before_15 rfl (lv_at hl 2 rfl) ?_
  refine lv_lmul hx hb dX2_before_16 ?_
  refine lv_iload_n hx hb dX2_before_17 rfl (lv_at hl 1 rfl) ?_
  refine lv_if_ne (tgt := 25) hx hb dX2_before_18 (by decide) (fun c_1 => ?_) (fun c_1 => ?_)
  · refine lv_lload_n hx hb dX2_before_25 rfl (lv_at hl 0 rfl) ?_
    refine lv_lload_n hx hb dX2_before_26 rfl (lv_at hl 2 rfl) ?_
    refine lv_ldc2 hx hb hown (hts (.constantLong RX2 44 (99)) (by decide +kernel)) dX2_before_27 ?_
    refine lv_ladd hx hb dX2_before_30 ?_
    refine lv_ldc2 hx hb hown (hts (.constantLong RX2 46 (100)) (by decide +kernel)) dX2_before_31 ?_
    refine vp_callSl (W.runS (As := [.long (x1 + 99), .long 100]) (rest := [.long (f_X2_floor (x1 + 3) 4), .long (365 * x1)]) ⟨hx, hb, hml, hown, hts⟩ (k_X2_floor l (x1 + 99) 100 (by decide)) (va_cwS 2 hts gX2_before_X2_floor rfl rfl rfl (by decide +kernel) ⟨Nat.le_of_ble_eq_true rfl, Nat.le_of_ble_eq_true rfl⟩) preEq rfl rfl hl.1 rfl (lv_room (Nat.le_of_ble_eq_true rfl)) dX2_before_34 ⟨Nat.zero_le _, Nat.zero_le _⟩) (fun r hr9 => ?_)
    obtain rfl := hr9
    refine lv_lsub hx hb dX2_before_37 ?_
    refine lv_lload_n hx hb dX2_before_38 rfl (lv_at hl 2 rfl) ?_
    refine lv_ldc2 hx hb hown (hts (.constantLong RX2 48 (399)) (by decide +kernel)) dX2_before_39 ?_
    refine lv_ladd hx hb dX2_before_42 ?_
    refine lv_ldc2 hx hb hown (hts (.constantLong RX2 50 (400)) (by decide +kernel)) dX2_before_43 ?_
    refine vp_callSl (W.runS (As := [.long (x1 + 399), .long 400]) (rest := [.long ((f_X2_floor (x1 + 3) 4) - (f_X2_floor (x1 + 99) 100)), .long (365 * x1)]) ⟨hx, hb, hml, hown, hts⟩ (k_X2_floor l (x1 + 399) 400 (by decide)) (va_cwS 2 hts gX2_before_X2_floor rfl rfl rfl (by decide +kernel) ⟨Nat.le_of_ble_eq_true rfl, Nat.le_of_ble_eq_true rfl⟩) preEq rfl rfl hl.1 rfl (lv_room (Nat.le_of_ble_eq_true rfl)) dX2_before_46 ⟨Nat.zero_le _, Nat.zero_le _⟩) (fun r hr9 => ?_)
    obtain rfl := hr9
    refine lv_ladd hx hb dX2_before_49 ?_
    refine lv_ladd hx hb dX2_before_50 ?_
    exact W.lret hx hb hr (fun t ht _ => ⟨_, rfl, (by unfold f_X2_before; rw [if_neg c_1]), ht⟩) (fun _ h => nomatch h) dX2_before_51
  · refine lv_lload_n hx hb dX2_before_21 rfl (lv_at hl 0 rfl) ?_
    refine lv_goto (tgt := 50) hx hb dX2_before_22 (by decide) ?_
    refine lv_ladd hx hb dX2_before_50 ?_
    exact W.lret hx hb hr (fun t ht _ => ⟨_, rfl, (by unfold f_X2_before; rw [if_pos c_1]), ht⟩) (fun _ h => nomatch h) dX2_before_51

def f_X2_leap (x0 : Int32) (x1 : Int64) : Int32 := if ((f_X2_before x0 (x1 + 1)) - (f_X2_before x0 x1)) = 366 then (1) else (0)
set_option maxHeartbeats 4000000 in
set_option maxRecDepth 100000 in
theorem k_X2_leap (l : Launch) (x0 : Int32) (x1 : Int64)  : Met l yX2_leap wsX2_leap ({ frames := 2, cells := 0, slots := 0, locals := 47 }) (fun v _ => v = ([.int x0, .long x1] : List Value).toArray) (vp_Si (fun r => r = f_X2_leap x0 x1)) 0 0 (fun _ => False) := by
  refine Met.ofW (cc := cX2_leap) (maxL := 3) (ret := (some .boolean)) (by decide) rfl ?_
  intro p e s m args below meth c s₁ B hml hv
  obtain rfl := hv
  have hx := B.exec
  have hb := B.bytes
  have hr := B.returns
  have hts := atoms_spec (ws := wsX2_leap) B.pre
  have hown : s.vm.findClass RX2 = some m.cls := findClass_of_methodNamed B.named
  have hlocks := B.notSynchronized
  have hl := lv_entry ([.int x0, .long x1]) (n := 3) (Nat.le_of_ble_eq_true rfl)
  rw [lg_entry_eq]
  generalize (lg_sl ([.int x0, .long x1]) ++ List.replicate (3 - (lg_sl ([.int x0, .long x1])).length) Slot.unset).toArray = ls at hl ⊢
  have hl : lv_has ls 3 [(0, .int x0), (1, .long x1)] := hl
  refine lv_iload_n hx hb dX2_leap_0 rfl (lv_at hl 0 rfl) ?_
  refine lv_lload_n hx hb dX2_leap_1 rfl (lv_at hl 1 rfl) ?_
  refine lv_lconst (v := 1) hx hb dX2_leap_2 (by decide) ?_
  refine lv_ladd hx hb dX2_leap_3 ?_
  refine vp_callSl (W.runS (As := [.int x0, .long (x1 + 1)]) (rest := []) ⟨hx, hb, hml, hown, hts⟩ (k_X2_before l x0 (x1 + 1)) (va_cwS 2 hts gX2_leap_X2_before rfl rfl rfl (by decide +kernel) ⟨Nat.le_of_ble_eq_true rfl, Nat.le_of_ble_eq_true rfl⟩) preEq rfl rfl hl.1 rfl (lv_room (Nat.le_of_ble_eq_true rfl)) dX2_leap_4 ⟨Nat.zero_le _, Nat.zero_le _⟩) (fun r hr9 => ?_)
  obtain rfl := hr9
  refine lv_iload_n hx hb dX2_leap_7 rfl (lv_at hl 0 rfl) ?_
  refine lv_lload_n hx hb dX2_leap_8 rfl (lv_at hl 1 rfl) ?_
  refine vp_callSl (W.runS (As := [.int x0, .long x1]) (rest := [.long (f_X2_before x0 (x1 + 1))]) ⟨hx, hb, hml, hown, hts⟩ (k_X2_before l x0 x1) (va_cwS 2 hts gX2_leap_X2_before rfl rfl rfl (by decide +kernel) ⟨Nat.le_of_ble_eq_true rfl, Nat.le_of_ble_eq_true rfl⟩) preEq rfl rfl hl.1 rfl (lv_room (Nat.le_of_ble_eq_true rfl)) dX2_leap_9 ⟨Nat.zero_le _, Nat.zero_le _⟩) (fun r hr9 => ?_)
  obtain rfl := hr9
  refine lv_lsub hx hb dX2_leap_12 ?_
  refine lv_ldc2 hx hb hown (hts (.constantLong RX2 56 (366)) (by decide +kernel)) dX2_leap_13 ?_
  refine zl_ne (tgt := 24) hx hb dX2_leap_16 dX2_leap_17 (by decide) (fun c_1 => ?_) (fun c_1 => ?_)
  · refine lv_iconst (v := 0) hx hb dX2_leap_24 (by decide) ?_
    exact W.zret hx hb hr rfl (fun t ht _ => ⟨_, rfl, (by unfold f_X2_leap; rw [if_neg c_1]), ht⟩) (fun _ h => nomatch h) dX2_leap_25
  · refine lv_iconst (v := 1) hx hb dX2_leap_20 (by decide) ?_
    refine lv_goto (tgt := 25) hx hb dX2_leap_21 (by decide) ?_
    exact W.zret hx hb hr rfl (fun t ht _ => ⟨_, rfl, (by unfold f_X2_leap; rw [if_pos c_1]), ht⟩) (fun _ h => nomatch h) dX2_leap_25
theorem nb_X2_leap (x0 : Int32) (x1 : Int64) : narrow .boolean (.int (f_X2_leap x0 x1)) = .int (f_X2_leap x0 x1) := by
  unfold f_X2_leap
  (repeat' split) <;> rfl

def f_X2_length (x0 : Int32) (x1 : Int64) (x2 : Int32) : Int32 := if x2 = 2 then (if (f_X2_leap x0 x1) = 0 then (28) else (29)) else (if x2 = 4 then (30) else (if x2 = 6 then (30) else (if x2 = 9 then (30) else (if x2 = 11 then (30) else (31)))))
set_option maxHeartbeats 4000000 in
set_option maxRecDepth 100000 in
theorem k_X2_length (l : Launch) (x0 : Int32) (x1 : Int64) (x2 : Int32)  : Met l yX2_length wsX2_length ({ frames := 3, cells := 0, slots := 0, locals := 69 }) (fun v _ => v = ([.int x0, .long x1, .int x2] : List Value).toArray) (vp_Si (fun r => r = f_X2_length x0 x1 x2)) 0 0 (fun _ => False) := by
  refine Met.ofW (cc := cX2_length) (maxL := 4) (ret := (some .int)) (by decide) rfl ?_
  intro p e s m args below meth c s₁ B hml hv
  obtain rfl := hv
  have hx := B.exec
  have hb := B.bytes
  have hr := B.returns
  have hts := atoms_spec (ws := wsX2_length) B.pre
  have hown : s.vm.findClass RX2 = some m.cls := findClass_of_methodNamed B.named
  have hlocks := B.notSynchronized
  have hl := lv_entry ([.int x0, .long x1, .int x2]) (n := 4) (Nat.le_of_ble_eq_true rfl)
  rw [lg_entry_eq]
  generalize (lg_sl ([.int x0, .long x1, .int x2]) ++ List.replicate (4 - (lg_sl ([.int x0, .long x1, .int x2])).length) Slot.unset).toArray = ls at hl ⊢
  have hl : lv_has ls 4 [(0, .int x0), (1, .long x1), (3, .int x2)] := hl
  refine lv_iload_n hx hb dX2_length_0 rfl (lv_at hl 2 rfl) ?_
  refine lv_iconst (v := 2) hx hb dX2_length_1 (by decide) ?_
  refine lv_icmp_ne (tgt := 21) hx hb dX2_length_2 (by decide) (fun c_1 => ?_) (fun c_1 => ?_)
  · refine lv_iload_n hx hb dX2_length_21 rfl (lv_at hl 2 rfl) ?_
    refine lv_iconst (v := 4) hx hb dX2_length_22 (by decide) ?_
    refine lv_icmp_eq (tgt := 44) hx hb dX2_length_23 (by decide) (fun c_2 => ?_) (fun c_2 => ?_)
    · refine lv_bipush (v := 30) hx hb dX2_length_44 (by decide) ?_
      refine lv_goto (tgt := 51) hx hb dX2_length_46 (by decide) ?_
      exact W.iret hx hb hr (fun t ht _ => ⟨_, rfl, (by unfold f_X2_length; rw [if_neg c_1, if_pos c_2]), ht⟩) (fun _ h => nomatch h) dX2_length_51
    · refine lv_iload_n hx hb dX2_length_26 rfl (lv_at hl 2 rfl) ?_
      refine lv_bipush (v := 6) hx hb dX2_length_27 (by decide) ?_
      refine lv_icmp_eq (tgt := 44) hx hb dX2_length_29 (by decide) (fun c_3 => ?_) (fun c_3 => ?_)
      · refine lv_bipush (v := 30) hx hb dX2_length_44 (by decide) ?_
        refine lv_goto (tgt := 51) hx hb dX2_length_46 (by decide) ?_
        exact W.iret hx hb hr (fun t ht _ => ⟨_, rfl, (by unfold f_X2_length; rw [if_neg c_1, if_neg c_2, if_pos c_3]), ht⟩) (fun _ h => nomatch h) dX2_length_51
      · refine lv_iload_n hx hb dX2_length_32 rfl (lv_at hl 2 rfl) ?_
        refine lv_bipush (v := 9) hx hb dX2_length_33 (by decide) ?_
        refine lv_icmp_eq (tgt := 44) hx hb dX2_length_35 (by decide) (fun c_4 => ?_) (fun c_4 => ?_)
        · refine lv_bipush (v := 30) hx hb dX2_length_44 (by decide) ?_
          refine lv_goto (tgt := 51) hx hb dX2_length_46 (by decide) ?_
          exact W.iret hx hb hr (fun t ht _ => ⟨_, rfl, (by unfold f_X2_length; rw [if_neg c_1, if_neg c_2, if_neg c_3, if_pos c_4]), ht⟩) (fun _ h => nomatch h) dX2_length_51
        · refine lv_iload_n hx hb dX2_length_38 rfl (lv_at hl 2 rfl) ?_
          refine lv_bipush (v := 11) hx hb dX2_length_39 (by decide) ?_
          refine lv_icmp_ne (tgt := 49) hx hb dX2_length_41 (by decide) (fun c_5 => ?_) (fun c_5 => ?_)
          · refine lv_bipush (v := 31) hx hb dX2_length_49 (by decide) ?_
            exact W.iret hx hb hr (fun t ht _ => ⟨_, rfl, (by unfold f_X2_length; rw [if_neg c_1, if_neg c_2, if_neg c_3, if_neg c_4, if_neg c_5]), ht⟩) (fun _ h => nomatch h) dX2_length_51
          · refine lv_bipush (v := 30) hx hb dX2_length_44 (by decide) ?_
            refine lv_goto (tgt := 51) hx hb dX2_length_46 (by decide) ?_
            exact W.iret hx hb hr (fun t ht _ => ⟨_, rfl, (by unfold f_X2_length; rw [if_neg c_1, if_neg c_2, if_neg c_3, if_neg c_4, if_pos c_5]), ht⟩) (fun _ h => nomatch h) dX2_length_51
  · refine lv_iload_n hx hb dX2_length_5 rfl (lv_at hl 0 rfl) ?_
    refine lv_lload_n hx hb dX2_length_6 rfl (lv_at hl 1 rfl) ?_
    refine vp_callSi (W.runS (As := [.int x0, .long x1]) (rest := []) ⟨hx, hb, hml, hown, hts⟩ (k_X2_leap l x0 x1) (va_cwS 2 hts gX2_length_X2_leap rfl rfl rfl (by decide +kernel) ⟨Nat.le_of_ble_eq_true rfl, Nat.le_of_ble_eq_true rfl⟩) preEq rfl rfl hl.1 rfl (lv_room (Nat.le_of_ble_eq_true rfl)) dX2_length_7 ⟨Nat.zero_le _, Nat.zero_le _⟩) (fun r hr9 => ?_)
    obtain rfl := hr9
    refine lv_if_eq (tgt := 18) hx hb dX2_length_10 (by decide) (fun c_6 => ?_) (fun c_6 => ?_)
    · refine lv_bipush (v := 28) hx hb dX2_length_18 (by decide) ?_
      exact W.iret hx hb hr (fun t ht _ => ⟨_, rfl, (by unfold f_X2_length; rw [if_pos c_1, if_pos c_6]), ht⟩) (fun _ h => nomatch h) dX2_length_20
    · refine lv_bipush (v := 29) hx hb dX2_length_13 (by decide) ?_
      refine lv_goto (tgt := 20) hx hb dX2_length_15 (by decide) ?_
      exact W.iret hx hb hr (fun t ht _ => ⟨_, rfl, (by unfold f_X2_length; rw [if_pos c_1, if_neg c_6]), ht⟩) (fun _ h => nomatch h) dX2_length_20

def f_X2_newYear (x0 : Int32) (x1 : Int64) : Int64 := if x0 = 0 then ((f_X2_before 0 x1) - (f_X2_before 0 (-4712))) else (((f_X2_before 1 x1) - (f_X2_before 1 (-4713))) - 327)
set_option maxHeartbeats 4000000 in
set_option maxRecDepth 100000 in
theorem k_X2_newYear (l : Launch) (x0 : Int32) (x1 : Int64)  : Met l yX2_newYear wsX2_newYear ({ frames := 2, cells := 0, slots := 0, locals := 47 }) (fun v _ => v = ([.int x0, .long x1] : List Value).toArray) (vp_Sl (fun r => r = f_X2_newYear x0 x1)) 0 0 (fun _ => False) := by
  refine Met.ofW (cc := cX2_newYear) (maxL := 3) (ret := (some .long)) (by decide) rfl ?_
  intro p e s m args below meth c s₁ B hml hv
  obtain rfl := hv
  have hx := B.exec
  have hb := B.bytes
  have hr := B.returns
  have hts := atoms_spec (ws := wsX2_newYear) B.pre
  have hown : s.vm.findClass RX2 = some m.cls := findClass_of_methodNamed B.named
  have hlocks := B.notSynchronized
  have hl := lv_entry ([.int x0, .long x1]) (n := 3) (Nat.le_of_ble_eq_true rfl)
  rw [lg_entry_eq]
  generalize (lg_sl ([.int x0, .long x1]) ++ List.replicate (3 - (lg_sl ([.int x0, .long x1])).length) Slot.unset).toArray = ls at hl ⊢
  have hl : lv_has ls 3 [(0, .int x0), (1, .long x1)] := hl
  refine lv_iload_n hx hb dX2_newYear_0 rfl (lv_at hl 0 rfl) ?_
  refine lv_if_ne (tgt := 20) hx hb dX2_newYear_1 (by decide) (fun c_1 => ?_) (fun c_1 => ?_)
  · refine lv_iconst (v := 1) hx hb dX2_newYear_20 (by decide) ?_
    refine lv_lload_n hx hb dX2_newYear_21 rfl (lv_at hl 1 rfl) ?_
    refine vp_callSl (W.runS (As := [.int 1, .long x1]) (rest := []) ⟨hx, hb, hml, hown, hts⟩ (k_X2_before l 1 x1) (va_cwS 2 hts gX2_newYear_X2_before rfl rfl rfl (by decide +kernel) ⟨Nat.le_of_ble_eq_true rfl, Nat.le_of_ble_eq_true rfl⟩) preEq rfl rfl hl.1 rfl (lv_room (Nat.le_of_ble_eq_true rfl)) dX2_newYear_22 ⟨Nat.zero_le _, Nat.zero_le _⟩) (fun r hr9 => ?_)
    obtain rfl := hr9
    refine lv_iconst (v := 1) hx hb dX2_newYear_25 (by decide) ?_
    refine lv_ldc2 hx hb hown (hts (.constantLong RX2 64 (-4713)) (by decide +kernel)) dX2_newYear_26 ?_
    refine vp_callSl (W.runS (As := [.int 1, .long (-4713)]) (rest := [.long (f_X2_before 1 x1)]) ⟨hx, hb, hml, hown, hts⟩ (k_X2_before l 1 (-4713)) (va_cwS 2 hts gX2_newYear_X2_before rfl rfl rfl (by decide +kernel) ⟨Nat.le_of_ble_eq_true rfl, Nat.le_of_ble_eq_true rfl⟩) preEq rfl rfl hl.1 rfl (lv_room (Nat.le_of_ble_eq_true rfl)) dX2_newYear_29 ⟨Nat.zero_le _, Nat.zero_le _⟩) (fun r hr9 => ?_)
    obtain rfl := hr9
    refine lv_lsub hx hb dX2_newYear_32 ?_
    refine lv_ldc2 hx hb hown (hts (.constantLong RX2 66 (327)) (by decide +kernel)) dX2_newYear_33 ?_
    refine lv_lsub hx hb dX2_newYear_36 ?_
    exact W.lret hx hb hr (fun t ht _ => ⟨_, rfl, (by unfold f_X2_newYear; rw [if_neg c_1]), ht⟩) (fun _ h => nomatch h) dX2_newYear_37
  · refine lv_iconst (v := 0) hx hb dX2_newYear_4 (by decide) ?_
    refine lv_lload_n hx hb dX2_newYear_5 rfl (lv_at hl 1 rfl) ?_
    refine vp_callSl (W.runS (As := [.int 0, .long x1]) (rest := []) ⟨hx, hb, hml, hown, hts⟩ (k_X2_before l 0 x1) (va_cwS 2 hts gX2_newYear_X2_before rfl rfl rfl (by decide +kernel) ⟨Nat.le_of_ble_eq_true rfl, Nat.le_of_ble_eq_true rfl⟩) preEq rfl rfl hl.1 rfl (lv_room (Nat.le_of_ble_eq_true rfl)) dX2_newYear_6 ⟨Nat.zero_le _, Nat.zero_le _⟩) (fun r hr9 => ?_)
    obtain rfl := hr9
    refine lv_iconst (v := 0) hx hb dX2_newYear_9 (by decide) ?_
    refine lv_ldc2 hx hb hown (hts (.constantLong RX2 62 (-4712)) (by decide +kernel)) dX2_newYear_10 ?_
    refine vp_callSl (W.runS (As := [.int 0, .long (-4712)]) (rest := [.long (f_X2_before 0 x1)]) ⟨hx, hb, hml, hown, hts⟩ (k_X2_before l 0 (-4712)) (va_cwS 2 hts gX2_newYear_X2_before rfl rfl rfl (by decide +kernel) ⟨Nat.le_of_ble_eq_true rfl, Nat.le_of_ble_eq_true rfl⟩) preEq rfl rfl hl.1 rfl (lv_room (Nat.le_of_ble_eq_true rfl)) dX2_newYear_13 ⟨Nat.zero_le _, Nat.zero_le _⟩) (fun r hr9 => ?_)
    obtain rfl := hr9
    refine lv_lsub hx hb dX2_newYear_16 ?_
    refine lv_goto (tgt := 37) hx hb dX2_newYear_17 (by decide) ?_
    exact W.lret hx hb hr (fun t ht _ => ⟨_, rfl, (by unfold f_X2_newYear; rw [if_pos c_1]), ht⟩) (fun _ h => nomatch h) dX2_newYear_37

def f_X2_noDate (x0 : Int32) (x1 : Int32) (x2 : Int32) (x3 : Int32) : Int32 := if x1 < (-1000000) then (1) else (if 1000000 < x1 then (1) else (if x2 < 1 then (1) else (if 12 < x2 then (1) else (if x3 < 1 then (1) else (if x3 ≤ (f_X2_length x0 (Int32.toInt64 x1) x2) then (0) else (1))))))
set_option maxHeartbeats 4000000 in
set_option maxRecDepth 100000 in
theorem k_X2_noDate (l : Launch) (x0 : Int32) (x1 : Int32) (x2 : Int32) (x3 : Int32)  : Met l yX2_noDate wsX2_noDate ({ frames := 4, cells := 0, slots := 0, locals := 92 }) (fun v _ => v = ([.int x0, .int x1, .int x2, .int x3] : List Value).toArray) (vp_Si (fun r => r = f_X2_noDate x0 x1 x2 x3)) 0 0 (fun _ => False) := by
  refine Met.ofW (cc := cX2_noDate) (maxL := 4) (ret := (some .boolean)) (by decide) rfl ?_
  intro p e s m args below meth c s₁ B hml hv
  obtain rfl := hv
  have hx := B.exec
  have hb := B.bytes
  have hr := B.returns
  have hts := atoms_spec (ws := wsX2_noDate) B.pre
  have hown : s.vm.findClass RX2 = some m.cls := findClass_of_methodNamed B.named
  have hlocks := B.notSynchronized
  have hl := lv_entry ([.int x0, .int x1, .int x2, .int x3]) (n := 4) (Nat.le_of_ble_eq_true rfl)
  rw [lg_entry_eq]
  generalize (lg_sl ([.int x0, .int x1, .int x2, .int x3]) ++ List.replicate (4 - (lg_sl ([.int x0, .int x1, .int x2, .int x3])).length) Slot.unset).toArray = ls at hl ⊢
  have hl : lv_has ls 4 [(0, .int x0), (1, .int x1), (2, .int x2), (3, .int x3)] := hl
  refine lv_iload_n hx hb dX2_noDate_0 rfl (lv_at hl 1 rfl) ?_
  refine lv_ldc hx hb hown (hts (.constant RX2 68 (-1000000)) (by decide +kernel)) dX2_noDate_1 ?_
  refine lv_icmp_lt (tgt := 39) hx hb dX2_noDate_3 (by decide) (fun c_1 => ?_) (fun c_1 => ?_)
  · refine lv_iconst (v := 1) hx hb dX2_noDate_39 (by decide) ?_
    refine lv_goto (tgt := 44) hx hb dX2_noDate_40 (by decide) ?_
    exact W.zret hx hb hr rfl (fun t ht _ => ⟨_, rfl, (by unfold f_X2_noDate; rw [if_pos c_1]), ht⟩) (fun _ h => nomatch h) dX2_noDate_44
  · refine lv_iload_n hx hb dX2_noDate_6 rfl (lv_at hl 1 rfl) ?_
    refine lv_ldc hx hb hown (hts (.constant RX2 69 (1000000)) (by decide +kernel)) dX2_noDate_7 ?_
    refine lv_icmp_gt (tgt := 39) hx hb dX2_noDate_9 (by decide) (fun c_2 => ?_) (fun c_2 => ?_)
    · refine lv_iconst (v := 1) hx hb dX2_noDate_39 (by decide) ?_
      refine lv_goto (tgt := 44) hx hb dX2_noDate_40 (by decide) ?_
      exact W.zret hx hb hr rfl (fun t ht _ => ⟨_, rfl, (by unfold f_X2_noDate; rw [if_neg c_1, if_pos c_2]), ht⟩) (fun _ h => nomatch h) dX2_noDate_44
    · refine lv_iload_n hx hb dX2_noDate_12 rfl (lv_at hl 2 rfl) ?_
      refine lv_iconst (v := 1) hx hb dX2_noDate_13 (by decide) ?_
      refine lv_icmp_lt (tgt := 39) hx hb dX2_noDate_14 (by decide) (fun c_3 => ?_) (fun c_3 => ?_)
      · refine lv_iconst (v := 1) hx hb dX2_noDate_39 (by decide) ?_
        refine lv_goto (tgt := 44) hx hb dX2_noDate_40 (by decide) ?_
        exact W.zret hx hb hr rfl (fun t ht _ => ⟨_, rfl, (by unfold f_X2_noDate; rw [if_neg c_1, if_neg c_2, if_pos c_3]), ht⟩) (fun _ h => nomatch h) dX2_noDate_44
      · refine lv_iload_n hx hb dX2_noDate_17 rfl (lv_at hl 2 rfl) ?_
        refine lv_bipush (v := 12) hx hb dX2_noDate_18 (by decide) ?_
        refine lv_icmp_gt (tgt := 39) hx hb dX2_noDate_20 (by decide) (fun c_4 => ?_) (fun c_4 => ?_)
        · refine lv_iconst (v := 1) hx hb dX2_noDate_39 (by decide) ?_
          refine lv_goto (tgt := 44) hx hb dX2_noDate_40 (by decide) ?_
          exact W.zret hx hb hr rfl (fun t ht _ => ⟨_, rfl, (by unfold f_X2_noDate; rw [if_neg c_1, if_neg c_2, if_neg c_3, if_pos c_4]), ht⟩) (fun _ h => nomatch h) dX2_noDate_44
        · refine lv_iload_n hx hb dX2_noDate_23 rfl (lv_at hl 3 rfl) ?_
          refine lv_iconst (v := 1) hx hb dX2_noDate_24 (by decide) ?_
          refine lv_icmp_lt (tgt := 39) hx hb dX2_noDate_25 (by decide) (fun c_5 => ?_) (fun c_5 => ?_)
          · refine lv_iconst (v := 1) hx hb dX2_noDate_39 (by decide) ?_
            refine lv_goto (tgt := 44) hx hb dX2_noDate_40 (by decide) ?_
            exact W.zret hx hb hr rfl (fun t ht _ => ⟨_, rfl, (by unfold f_X2_noDate; rw [if_neg c_1, if_neg c_2, if_neg c_3, if_neg c_4, if_pos c_5]), ht⟩) (fun _ h => nomatch h) dX2_noDate_44
          · refine lv_iload_n hx hb dX2_noDate_28 rfl (lv_at hl 3 rfl) ?_
            refine lv_iload_n hx hb dX2_noDate_29 rfl (lv_at hl 0 rfl) ?_
            refine lv_iload_n hx hb dX2_noDate_30 rfl (lv_at hl 1 rfl) ?_
            refine lv_i2l hx hb dX2_noDate_31 rfl ?_
            refine lv_iload_n hx hb dX2_noDate_32 rfl (lv_at hl 2 rfl) ?_
            refine vp_callSi (W.runS (As := [.int x0, .long (Int32.toInt64 x1), .int x2]) (rest := [.int x3]) ⟨hx, hb, hml, hown, hts⟩ (k_X2_length l x0 (Int32.toInt64 x1) x2) (va_cwS 3 hts gX2_noDate_X2_length rfl rfl rfl (by decide +kernel) ⟨Nat.le_of_ble_eq_true rfl, Nat.le_of_ble_eq_true rfl⟩) preEq rfl rfl hl.1 rfl (lv_room (Nat.le_of_ble_eq_true rfl)) dX2_noDate_33 ⟨Nat.zero_le _, Nat.zero_le _⟩) (fun r hr9 => ?_)
            obtain rfl := hr9
            refine lv_icmp_le (tgt := 43) hx hb dX2_noDate_36 (by decide) (fun c_6 => ?_) (fun c_6 => ?_)
            · refine lv_iconst (v := 0) hx hb dX2_noDate_43 (by decide) ?_
              exact W.zret hx hb hr rfl (fun t ht _ => ⟨_, rfl, (by unfold f_X2_noDate; rw [if_neg c_1, if_neg c_2, if_neg c_3, if_neg c_4, if_neg c_5, if_pos c_6]), ht⟩) (fun _ h => nomatch h) dX2_noDate_44
            · refine lv_iconst (v := 1) hx hb dX2_noDate_39 (by decide) ?_
              refine lv_goto (tgt := 44) hx hb dX2_noDate_40 (by decide) ?_
              exact W.zret hx hb hr rfl (fun t ht _ => ⟨_, rfl, (by unfold f_X2_noDate; rw [if_neg c_1, if_neg c_2, if_neg c_3, if_neg c_4, if_neg c_5, if_neg c_6]), ht⟩) (fun _ h => nomatch h) dX2_noDate_44
theorem nb_X2_noDate (x0 : Int32) (x1 : Int32) (x2 : Int32) (x3 : Int32) : narrow .boolean (.int (f_X2_noDate x0 x1 x2 x3)) = .int (f_X2_noDate x0 x1 x2 x3) := by
  unfold f_X2_noDate
  (repeat' split) <;> rfl
