theorem xor_neg64 {a b : Int64} (hb : 0 ≤ b.toInt) : (0 ≤ a ^^^ b) ↔ 0 ≤ a.toInt := by
  rw [Int64.le_iff_toInt_le, show (0 : Int64).toInt = 0 from rfl]
  have e : (a ^^^ b).toInt = (a.toBitVec ^^^ b.toBitVec).toInt := rfl
  have h1 : (a.toBitVec ^^^ b.toBitVec).msb = (a.toBitVec.msb ^^ b.toBitVec.msb) := BitVec.msb_xor
  rw [BitVec.msb_eq_toInt, BitVec.msb_eq_toInt, BitVec.msb_eq_toInt] at h1
  have ha : a.toInt = a.toBitVec.toInt := rfl
  have hb' : b.toInt = b.toBitVec.toInt := rfl
  rw [e, ha]
  rw [hb'] at hb
  have h2 : decide (b.toBitVec.toInt < 0) = false := decide_eq_false (by omega)
  rw [h2, Bool.xor_false] at h1
  constructor
  · intro h
    have : decide ((a.toBitVec ^^^ b.toBitVec).toInt < 0) = false := decide_eq_false (by omega)
    rw [this] at h1
    have := of_decide_eq_false h1.symm
    omega
  · intro h
    have : decide (a.toBitVec.toInt < 0) = false := decide_eq_false (by omega)
    rw [this] at h1
    have := of_decide_eq_false h1
    omega
theorem ml_rem64 {a b : Int64} (hb : 0 < b.toInt) : (a / b * b).toInt = a.toInt.tdiv b.toInt * b.toInt := by
  have h1 := d64 (a := a) hb
  have h2 := Int.tdiv_mul_add_tmod a.toInt b.toInt
  have h3 := Int.tmod_lt_of_pos a.toInt hb
  have h4 := Int.lt_tmod_of_pos a.toInt hb
  have ha := a.le_toInt
  have ha2 := a.toInt_lt
  have hb2 := b.toInt_lt
  rw [m64, h1]
  · rw [h1]
    rcases Int.le_total 0 a.toInt with h | h
    · have := Int.tmod_nonneg b.toInt h; omega
    · have h9 := Int.tmod_nonneg b.toInt (show 0 ≤ -a.toInt by omega); rw [Int.neg_tmod] at h9; omega
  · rw [h1]
    rcases Int.le_total 0 a.toInt with h | h
    · have := Int.tmod_nonneg b.toInt h; omega
    · have h9 := Int.tmod_nonneg b.toInt (show 0 ≤ -a.toInt by omega); rw [Int.neg_tmod] at h9; omega
theorem fdv64 {a b : Int64} (hb : 0 < b.toInt) (ha : -9223372036854775807 ≤ a.toInt) : (f_J9_floorDiv_f86c9 a b).toInt = a.toInt / b.toInt := by
  have hq := d64 (a := a) hb
  have hm := ml_rem64 (a := a) hb
  have h2 := Int.tdiv_mul_add_tmod a.toInt b.toInt
  have h3 := Int.tmod_lt_of_pos a.toInt hb
  have h4 := Int.lt_tmod_of_pos a.toInt hb
  have hb2 := b.toInt_lt
  obtain ⟨f1, f2, f3⟩ := fl_of (x := a.toInt) hb h2 (fun h => Int.tmod_nonneg b.toInt h) (fun h => by have h9 := Int.tmod_nonneg b.toInt (show 0 ≤ -a.toInt by omega); rw [Int.neg_tmod] at h9; omega) h3 h4
  unfold f_J9_floorDiv_f86c9
  by_cases hx : 0 ≤ a ^^^ b
  · rw [if_pos hx, hq, f1 ((xor_neg64 (by omega)).mp hx)]
  · have hx2 : a.toInt < 0 := by
      rcases Int.lt_or_le a.toInt 0 with h | h
      · exact h
      · exact absurd ((xor_neg64 (by omega)).mpr h) hx
    rw [if_neg hx]
    by_cases hz : a / b * b = a
    · rw [if_pos hz]
      rw [hz] at hm
      rw [hq, f2 hx2 (by omega)]
    · rw [if_neg hz]
      have hne : a.toInt.tmod b.toInt ≠ 0 := fun h => hz (Int64.toInt_inj.mp (by rw [hm]; omega))
      have hge : a.toInt ≤ a.toInt.tdiv b.toInt := by
        obtain ⟨-, t2⟩ := tdiv_spec a.toInt b.toInt hb
        rw [t2 hx2]
        have := Int.ediv_le_self b.toInt (show 0 ≤ -a.toInt by omega)
        omega
      have e1 : (1 : Int64).toInt = 1 := rfl
      have hneg : a.toInt.tdiv b.toInt ≤ 0 := by
        obtain ⟨-, t2⟩ := tdiv_spec a.toInt b.toInt hb
        rw [t2 hx2]
        have := Int.ediv_nonneg (show 0 ≤ -a.toInt by omega) (show 0 ≤ b.toInt by omega)
        omega
      rw [s64 (by rw [hq, e1]; omega) (by rw [hq, e1]; omega), hq, e1, f3 hx2 hne]
theorem ny_mono {r : Int32} {a b : Int} (h : a < b) : nyI r (a + 1) ≤ nyI r b := by
  unfold nyI
  by_cases c : r = 0
  · rw [if_pos c, if_pos c]; omega
  · rw [if_neg c, if_neg c]; omega
theorem ny_uniq {r : Int32} {a b d : Int} (h1 : nyI r a ≤ d) (h2 : d < nyI r (a + 1)) (h3 : nyI r b ≤ d) (h4 : d < nyI r (b + 1)) : a = b := by
  rcases Int.lt_trichotomy a b with h | h | h
  · have := ny_mono (r := r) h; omega
  · exact h
  · have := ny_mono (r := r) h; omega
theorem ny_bd {r : Int32} {y d : Int} (hd : -400000000 ≤ d ∧ d ≤ 400000000) : (nyI r y ≤ d → y ≤ 1100000) ∧ (d < nyI r (y + 1) → -1110000 ≤ y) := by
  unfold nyI
  by_cases c : r = 0
  · rw [if_pos c, if_pos c]; exact ⟨fun h => by omega, fun h => by omega⟩
  · rw [if_neg c, if_neg c]; exact ⟨fun h => by omega, fun h => by omega⟩
/-- the mean year misses by one at the most -/
theorem mean_0 {d Y : Int} (h : Y = (d - 1721058) * 400 / 146100) : nyI 0 (Y - 1) ≤ d ∧ d < nyI 0 (Y + 2) := by
  unfold nyI
  rw [if_pos rfl, if_pos rfl]; omega
theorem mean_1 {r : Int32} (hr : ¬ r = 0) {d Y : Int} (h : Y = (d - 1721060) * 400 / 146097) : nyI r (Y - 1) ≤ d ∧ d < nyI r (Y + 2) := by
  unfold nyI
  rw [if_neg hr, if_neg hr]; omega
theorem yd_pick {r y0 : Int32} {x1 : Int64} (hd : -400000000 ≤ x1.toInt ∧ x1.toInt ≤ 400000000) (hy : -1200000 ≤ y0.toInt ∧ y0.toInt ≤ 1200000) (h1 : nyI r (y0.toInt - 1) ≤ x1.toInt) (h2 : x1.toInt < nyI r (y0.toInt + 2)) :
    let y := if f_X1_firstDayOfYear r y0 ≤ x1 then (if x1 < f_X1_firstDayOfYear r (y0 + 1) then y0 else y0 + 1) else y0 - 1
    nyI r y.toInt ≤ x1.toInt ∧ x1.toInt < nyI r (y.toInt + 1) := by
  have e1 : (1 : Int32).toInt = 1 := rfl
  have ep : (y0 + 1).toInt = y0.toInt + 1 := by rw [a32 (by omega) (by omega), e1]
  have em : (y0 - 1).toInt = y0.toInt - 1 := by rw [s32 (by omega) (by omega), e1]
  have f0 := fd_I (r := r) (y := y0) (by omega) (by omega)
  have f1 := fd_I (r := r) (y := y0 + 1) (by omega) (by omega)
  rw [ep] at f1
  intro y
  show nyI r (if f_X1_firstDayOfYear r y0 ≤ x1 then (if x1 < f_X1_firstDayOfYear r (y0 + 1) then y0 else y0 + 1) else y0 - 1).toInt ≤ _ ∧ _ < nyI r ((if f_X1_firstDayOfYear r y0 ≤ x1 then (if x1 < f_X1_firstDayOfYear r (y0 + 1) then y0 else y0 + 1) else y0 - 1).toInt + 1)
  by_cases c : f_X1_firstDayOfYear r y0 ≤ x1
  · rw [if_pos c]
    rw [Int64.le_iff_toInt_le, f0] at c
    by_cases c2 : x1 < f_X1_firstDayOfYear r (y0 + 1)
    · rw [if_pos c2]
      rw [Int64.lt_iff_toInt_lt, f1] at c2
      exact ⟨c, c2⟩
    · rw [if_neg c2]
      rw [Int64.lt_iff_toInt_lt, f1] at c2
      rw [ep]
      refine ⟨by omega, ?_⟩
      rw [show y0.toInt + 1 + 1 = y0.toInt + 2 by omega]; exact h2
  · rw [if_neg c]
    rw [Int64.le_iff_toInt_le, f0] at c
    rw [em]
    refine ⟨h1, ?_⟩
    rw [show y0.toInt - 1 + 1 = y0.toInt by omega]; omega
theorem yd_I {r : Int32} {x1 : Int64} (hd : -400000000 ≤ x1.toInt ∧ x1.toInt ≤ 400000000) : nyI r (f_X1_yearOfDay r x1).toInt ≤ x1.toInt ∧ x1.toInt < nyI r ((f_X1_yearOfDay r x1).toInt + 1) := by
  have e400 : (400 : Int64).toInt = 400 := rfl
  unfold f_X1_yearOfDay
  by_cases c : r = 0
  · rw [if_pos c]
    have f0 : (f_X1_firstDayOfYear r 0).toInt = 1721058 := by rw [c]; decide +kernel
    have s1 : (f_X1_yearOfDay_21_2 r x1).toInt = x1.toInt - 1721058 := by unfold f_X1_yearOfDay_21_2; rw [s64 (by rw [f0]; omega) (by rw [f0]; omega), f0]
    have s2 : (f_X1_yearOfDay_21_2 r x1 * 400).toInt = (x1.toInt - 1721058) * 400 := by rw [m64 (by rw [s1, e400]; omega) (by rw [s1, e400]; omega), s1, e400]
    have s3 : (f_J9_floorDiv_f86c9 (f_X1_yearOfDay_21_2 r x1 * 400) 146100).toInt = (x1.toInt - 1721058) * 400 / 146100 := by rw [fdv64 (by decide) (by rw [s2]; omega), s2]; rfl
    have s4 : (f_X1_yearOfDay_34_3 r x1).toInt = (x1.toInt - 1721058) * 400 / 146100 := by unfold f_X1_yearOfDay_34_3; rw [l2i_toInt (by rw [s3]; omega) (by rw [s3]; omega), s3]
    have m := mean_0 s4
    rw [← c] at m
    exact yd_pick hd (by rw [s4]; omega) m.1 m.2
  · rw [if_neg c]
    have f0 : (f_X1_firstDayOfYear r 0).toInt = 1721060 := by
      rw [fd_I (by decide) (by decide)]; unfold nyI; rw [if_neg c]; rfl
    have s1 : (f_X1_yearOfDay_21_0 r x1).toInt = x1.toInt - 1721060 := by unfold f_X1_yearOfDay_21_0; rw [s64 (by rw [f0]; omega) (by rw [f0]; omega), f0]
    have s2 : (f_X1_yearOfDay_21_0 r x1 * 400).toInt = (x1.toInt - 1721060) * 400 := by rw [m64 (by rw [s1, e400]; omega) (by rw [s1, e400]; omega), s1, e400]
    have s3 : (f_J9_floorDiv_f86c9 (f_X1_yearOfDay_21_0 r x1 * 400) 146097).toInt = (x1.toInt - 1721060) * 400 / 146097 := by rw [fdv64 (by decide) (by rw [s2]; omega), s2]; rfl
    have s4 : (f_X1_yearOfDay_34_1 r x1).toInt = (x1.toInt - 1721060) * 400 / 146097 := by unfold f_X1_yearOfDay_34_1; rw [l2i_toInt (by rw [s3]; omega) (by rw [s3]; omega), s3]
    have m := mean_1 c s4
    exact yd_pick hd (by rw [s4]; omega) m.1 m.2
theorem yo_le {r : Int32} {y x1 : Int64} (hb : -1200000 ≤ y.toInt ∧ y.toInt ≤ 1200000) (c : f_X2_newYear r y ≤ x1) : nyI r y.toInt ≤ x1.toInt := by
  rw [Int64.le_iff_toInt_le, ny_I (by omega) (by omega)] at c; exact c
theorem yo_dn {r : Int32} {y x1 : Int64} (hd : -400000000 ≤ x1.toInt ∧ x1.toInt ≤ 400000000) (hb : -1200000 ≤ y.toInt ∧ y.toInt ≤ 1200000) (c : ¬ f_X2_newYear r y ≤ x1) : (y - 1).toInt = y.toInt - 1 ∧ (-1200000 ≤ (y - 1).toInt ∧ (y - 1).toInt ≤ 1200000) := by
  rw [Int64.le_iff_toInt_le, ny_I (by omega) (by omega)] at c
  have e1 : (1 : Int64).toInt = 1 := rfl
  have e : (y - 1).toInt = y.toInt - 1 := by rw [s64 (by omega) (by omega), e1]
  have := (ny_bd (r := r) (y := y.toInt - 1) hd).2 (by rw [show y.toInt - 1 + 1 = y.toInt by omega]; omega)
  rw [e]; omega
theorem yo_up {r : Int32} {y x1 : Int64} (hd : -400000000 ≤ x1.toInt ∧ x1.toInt ≤ 400000000) (hb : -1200000 ≤ y.toInt ∧ y.toInt ≤ 1200000) (c : ¬ x1 < f_X2_newYear r (y + 1)) : (y + 1).toInt = y.toInt + 1 ∧ (-1200000 ≤ (y + 1).toInt ∧ (y + 1).toInt ≤ 1200000) ∧ nyI r (y + 1).toInt ≤ x1.toInt := by
  have e1 : (1 : Int64).toInt = 1 := rfl
  have e : (y + 1).toInt = y.toInt + 1 := by rw [a64 (by omega) (by omega), e1]
  rw [Int64.lt_iff_toInt_lt, ny_I (by omega) (by omega)] at c
  have c' : nyI r (y + 1).toInt ≤ x1.toInt := by omega
  have := (ny_bd (r := r) hd).1 c'
  refine ⟨e, by omega, c'⟩
theorem yo_0 {x1 : Int64} (hd : -400000000 ≤ x1.toInt ∧ x1.toInt ≤ 400000000) : -1200000 ≤ (f_X2_floor (x1 * 4) 1461 - 4713).toInt ∧ (f_X2_floor (x1 * 4) 1461 - 4713).toInt ≤ 1200000 := by
  have e4 : (4 : Int64).toInt = 4 := rfl
  have e5 : (1461 : Int64).toInt = 1461 := rfl
  have e6 : (4713 : Int64).toInt = 4713 := rfl
  have a : (x1 * 4).toInt = x1.toInt * 4 := by rw [m64 (by rw [e4]; omega) (by rw [e4]; omega), e4]
  have b : (f_X2_floor (x1 * 4) 1461).toInt = x1.toInt * 4 / 1461 := by rw [flr64 (by decide) (by omega) (by omega) (by decide), a, e5]
  rw [s64 (by rw [b, e6]; omega) (by rw [b, e6]; omega), b, e6]; omega
theorem yo_end {r : Int32} {y x1 : Int64} (hd : -400000000 ≤ x1.toInt ∧ x1.toInt ≤ 400000000) (hb : -1200000 ≤ y.toInt ∧ y.toInt ≤ 1200000) (hle : nyI r y.toInt ≤ x1.toInt) (c : x1 < f_X2_newYear r (y + 1)) : y = Int32.toInt64 (f_X1_yearOfDay r x1) := by
  have e1 : (1 : Int64).toInt = 1 := rfl
  have e : (y + 1).toInt = y.toInt + 1 := by rw [a64 (by omega) (by omega), e1]
  rw [Int64.lt_iff_toInt_lt, ny_I (by omega) (by omega), e] at c
  have h := yd_I (r := r) hd
  refine Int64.toInt_inj.mp ?_
  rw [Int32.toInt_toInt64]
  exact ny_uniq hle (by omega) h.1 h.2
def YOF (r : Int32) (x1 : Int64) : Int64 := Int32.toInt64 (f_X1_yearOfDay r x1)
set_option maxHeartbeats 4000000 in
set_option maxRecDepth 100000 in
theorem k_X2_yearOf (l : Launch) (x0 : Int32) (x1 : Int64) (hd : -400000000 ≤ x1.toInt ∧ x1.toInt ≤ 400000000) : Met l yX2_yearOf wsX2_yearOf ({ frames := 3, cells := 0, slots := 0, locals := 69 }) (fun v _ => v = ([.int x0, .long x1] : List Value).toArray) (vp_Sl (fun r => r = YOF x0 x1)) 0 0 (fun _ => False) := by
  refine Met.ofW (cc := cX2_yearOf) (maxL := 5) (ret := (some .long)) (by decide) rfl ?_
  intro p e s m args below meth c s₁ B hml hv
  obtain rfl := hv
  have hx := B.exec
  have hb := B.bytes
  have hr := B.returns
  have hts := atoms_spec (ws := wsX2_yearOf) B.pre
  have hown : s.vm.findClass RX2 = some m.cls := findClass_of_methodNamed B.named
  have hlocks := B.notSynchronized
  have hl := lv_entry ([.int x0, .long x1]) (n := 5) (Nat.le_of_ble_eq_true rfl)
  rw [lg_entry_eq]
  generalize (lg_sl ([.int x0, .long x1]) ++ List.replicate (5 - (lg_sl ([.int x0, .long x1])).length) Slot.unset).toArray = ls at hl ⊢
  have hl : lv_has ls 5 [(0, .int x0), (1, .long x1)] := hl
  refine W.gen (fun QQ hQQ => ?_)
  have hloop33 : ∀ (n : Nat) (y : Int64), (1300001 - y.toInt).toNat < n → (-1200000 ≤ y.toInt ∧ y.toInt ≤ 1200000) → nyI x0 y.toInt ≤ x1.toInt → ∀ (ls : Array Slot), lv_has ls 5 [(0, .int x0), (1, .long x1), (3, .long y)] → W p l e (headSpec wsX2_yearOf ({ frames := 3, cells := 0, slots := 0, locals := 69 })).room s m ([.int x0, .long x1] : List Value).toArray below meth c s.heap [] (0) (0) QQ (F0 m 33 ls []) := by
    intro n
    induction n with
    | zero =>
      intro y hf hyb hle
      exact absurd hf (by omega)
    | succ n ih =>
      intro y hf hyb hle ls hl
      refine lv_iload_n hx hb dX2_yearOf_33 rfl (lv_at hl 0 rfl) ?_
      refine lv_lload_n hx hb dX2_yearOf_34 rfl (lv_at hl 2 rfl) ?_
      refine lv_lconst (v := 1) hx hb dX2_yearOf_35 (by decide) ?_
      refine lv_ladd hx hb dX2_yearOf_36 ?_
      refine vp_callSl (W.runS (As := [.int x0, .long (y + 1)]) (rest := []) ⟨hx, hb, hml, hown, hts⟩ (k_X2_newYear l x0 (y + 1)) (va_cwS 2 hts gX2_yearOf_X2_newYear rfl rfl rfl (by decide +kernel) ⟨Nat.le_of_ble_eq_true rfl, Nat.le_of_ble_eq_true rfl⟩) preEq rfl rfl hl.1 rfl (lv_room (Nat.le_of_ble_eq_true rfl)) dX2_yearOf_37 ⟨Nat.zero_le _, Nat.zero_le _⟩) (fun r hr9 => ?_)
      obtain rfl := hr9
      refine lv_lload_n hx hb dX2_yearOf_40 rfl (lv_at hl 1 rfl) ?_
      refine zl_gt (tgt := 52) hx hb dX2_yearOf_41 dX2_yearOf_42 (by decide) (fun c_1 => ?_) (fun c_1 => ?_)
      · refine lv_lload_n hx hb dX2_yearOf_52 rfl (lv_at hl 2 rfl) ?_
        subst hQQ
        exact W.lret hx hb hr (fun t ht _ => ⟨_, rfl, (yo_end hd hyb hle c_1), ht⟩) (fun _ h => nomatch h) dX2_yearOf_53
      · refine lv_lload_n hx hb dX2_yearOf_45 rfl (lv_at hl 2 rfl) ?_
        refine lv_lconst (v := 1) hx hb dX2_yearOf_46 (by decide) ?_
        refine lv_ladd hx hb dX2_yearOf_47 ?_
        refine lv_lstore_n (lv' := [(3, .long (y + 1)), (0, .int x0), (1, .long x1)]) hx hb dX2_yearOf_48 rfl hl (by decide) rfl (fun ls hl => ?_)
        refine lv_goto (tgt := 33) hx hb dX2_yearOf_49 (by decide) ?_
        obtain ⟨q1, q2, q3⟩ := yo_up hd hyb c_1
        exact ih (y + 1) (by omega) q2 q3 _ (lv_sub hl [1, 2, 0] rfl)
  have hloop16 : ∀ (n : Nat) (y : Int64), (y.toInt + 1300001).toNat < n → (-1200000 ≤ y.toInt ∧ y.toInt ≤ 1200000) → ∀ (ls : Array Slot), lv_has ls 5 [(0, .int x0), (1, .long x1), (3, .long y)] → W p l e (headSpec wsX2_yearOf ({ frames := 3, cells := 0, slots := 0, locals := 69 })).room s m ([.int x0, .long x1] : List Value).toArray below meth c s.heap [] (0) (0) QQ (F0 m 16 ls []) := by
    intro n
    induction n with
    | zero =>
      intro y hf hyb
      exact absurd hf (by omega)
    | succ n ih =>
      intro y hf hyb ls hl
      refine lv_iload_n hx hb dX2_yearOf_16 rfl (lv_at hl 0 rfl) ?_
      refine lv_lload_n hx hb dX2_yearOf_17 rfl (lv_at hl 2 rfl) ?_
      refine vp_callSl (W.runS (As := [.int x0, .long y]) (rest := []) ⟨hx, hb, hml, hown, hts⟩ (k_X2_newYear l x0 y) (va_cwS 2 hts gX2_yearOf_X2_newYear rfl rfl rfl (by decide +kernel) ⟨Nat.le_of_ble_eq_true rfl, Nat.le_of_ble_eq_true rfl⟩) preEq rfl rfl hl.1 rfl (lv_room (Nat.le_of_ble_eq_true rfl)) dX2_yearOf_18 ⟨Nat.zero_le _, Nat.zero_le _⟩) (fun r hr9 => ?_)
      obtain rfl := hr9
      refine lv_lload_n hx hb dX2_yearOf_21 rfl (lv_at hl 1 rfl) ?_
      refine zl_le (tgt := 33) hx hb dX2_yearOf_22 dX2_yearOf_23 (by decide) (fun c_2 => ?_) (fun c_2 => ?_)
      · exact hloop33 _ y (Nat.lt_succ_self _) hyb (yo_le hyb c_2) _ (lv_sub hl [0, 1, 2] rfl)
      · refine lv_lload_n hx hb dX2_yearOf_26 rfl (lv_at hl 2 rfl) ?_
        refine lv_lconst (v := 1) hx hb dX2_yearOf_27 (by decide) ?_
        refine lv_lsub hx hb dX2_yearOf_28 ?_
        refine lv_lstore_n (lv' := [(3, .long (y - 1)), (0, .int x0), (1, .long x1)]) hx hb dX2_yearOf_29 rfl hl (by decide) rfl (fun ls hl => ?_)
        refine lv_goto (tgt := 16) hx hb dX2_yearOf_30 (by decide) ?_
        obtain ⟨q1, q2⟩ := yo_dn hd hyb c_2
        exact ih (y - 1) (by omega) q2 _ (lv_sub hl [1, 2, 0] rfl)
  refine lv_lload_n hx hb dX2_yearOf_0 rfl (lv_at hl 1 rfl) ?_
  refine lv_ldc2 hx hb hown (hts (.constantLong RX2 36 (4)) (by decide +kernel)) dX2_yearOf_1 ?_
  refine lv_lmul hx hb dX2_yearOf_4 ?_
  refine lv_ldc2 hx hb hown (hts (.constantLong RX2 95 (1461)) (by decide +kernel)) dX2_yearOf_5 ?_
  refine vp_callSl (W.runS (As := [.long (x1 * 4), .long 1461]) (rest := []) ⟨hx, hb, hml, hown, hts⟩ (k_X2_floor l (x1 * 4) 1461 (by decide)) (va_cwS 2 hts gX2_yearOf_X2_floor rfl rfl rfl (by decide +kernel) ⟨Nat.le_of_ble_eq_true rfl, Nat.le_of_ble_eq_true rfl⟩) preEq rfl rfl hl.1 rfl (lv_room (Nat.le_of_ble_eq_true rfl)) dX2_yearOf_8 ⟨Nat.zero_le _, Nat.zero_le _⟩) (fun r hr9 => ?_)
  obtain rfl := hr9
  refine lv_ldc2 hx hb hown (hts (.constantLong RX2 97 (4713)) (by decide +kernel)) dX2_yearOf_11 ?_
  refine lv_lsub hx hb dX2_yearOf_14 ?_
  refine lv_lstore_n (lv' := [(3, .long ((f_X2_floor (x1 * 4) 1461) - 4713)), (0, .int x0), (1, .long x1)]) hx hb dX2_yearOf_15 rfl hl (by decide) rfl (fun ls hl => ?_)
  have q1 := yo_0 hd
  exact hloop16 _ ((f_X2_floor (x1 * 4) 1461) - 4713) (Nat.lt_succ_self _) q1 _ (lv_sub hl [1, 2, 0] rfl)
