theorem zx_F {A : Nat → Prop} {s t : State} {H : Heap} {locs : List Loc} (hS : va_S A s.heap H locs) (hz : H.size ≤ t.heap.size) (hk : ∀ q : Nat, q < H.size → t.heap[q]? = H[q]?) : va_F A s t :=
  ⟨Nat.le_trans hS.1 hz, fun q h1 h2 => by rw [hk q (Nat.lt_of_lt_of_le h1 hS.1)]; exact hS.2.1 q h1 h2⟩
theorem xor_neg {a b : Int32} (hb : 0 ≤ b.toInt) : (0 ≤ a ^^^ b) ↔ 0 ≤ a.toInt := by
  rw [Int32.le_iff_toInt_le, show (0 : Int32).toInt = 0 from rfl]
  have e : (a ^^^ b).toInt = (a.toBitVec ^^^ b.toBitVec).toInt := rfl
  have h1 : (a.toBitVec ^^^ b.toBitVec).msb = (a.toBitVec.msb ^^ b.toBitVec.msb) := BitVec.msb_xor
  rw [BitVec.msb_eq_toInt, BitVec.msb_eq_toInt, BitVec.msb_eq_toInt] at h1
  have ha : a.toInt = a.toBitVec.toInt := rfl
  have hb' : b.toInt = b.toBitVec.toInt := rfl
  rw [e, ha]
  rw [hb'] at hb
  have h2 : decide (b.toBitVec.toInt < 0) = false := decide_eq_false (by omega)
  rw [h2, Bool.xor_false] at h1
  constructor
  · intro h
    have : decide ((a.toBitVec ^^^ b.toBitVec).toInt < 0) = false := decide_eq_false (by omega)
    rw [this] at h1
    have := of_decide_eq_false h1.symm
    omega
  · intro h
    have : decide (a.toBitVec.toInt < 0) = false := decide_eq_false (by omega)
    rw [this] at h1
    have := of_decide_eq_false h1
    omega
theorem a32 {a b : Int32} (h1 : -2147483648 ≤ a.toInt + b.toInt) (h2 : a.toInt + b.toInt < 2147483648) : (a + b).toInt = a.toInt + b.toInt := by
  rw [Int32.toInt_add, Int.bmod_eq_of_le (by omega) (by omega)]
theorem s32 {a b : Int32} (h1 : -2147483648 ≤ a.toInt - b.toInt) (h2 : a.toInt - b.toInt < 2147483648) : (a - b).toInt = a.toInt - b.toInt := by
  rw [Int32.toInt_sub, Int.bmod_eq_of_le (by omega) (by omega)]
theorem m32 {a b : Int32} (h1 : -2147483648 ≤ a.toInt * b.toInt) (h2 : a.toInt * b.toInt < 2147483648) : (a * b).toInt = a.toInt * b.toInt := by
  rw [Int32.toInt_mul, Int.bmod_eq_of_le (by omega) (by omega)]
theorem a64 {a b : Int64} (h1 : -9223372036854775808 ≤ a.toInt + b.toInt) (h2 : a.toInt + b.toInt < 9223372036854775808) : (a + b).toInt = a.toInt + b.toInt := by
  rw [Int64.toInt_add, Int.bmod_eq_of_le (by omega) (by omega)]
theorem s64 {a b : Int64} (h1 : -9223372036854775808 ≤ a.toInt - b.toInt) (h2 : a.toInt - b.toInt < 9223372036854775808) : (a - b).toInt = a.toInt - b.toInt := by
  rw [Int64.toInt_sub, Int.bmod_eq_of_le (by omega) (by omega)]
theorem m64 {a b : Int64} (h1 : -9223372036854775808 ≤ a.toInt * b.toInt) (h2 : a.toInt * b.toInt < 9223372036854775808) : (a * b).toInt = a.toInt * b.toInt := by
  rw [Int64.toInt_mul, Int.bmod_eq_of_le (by omega) (by omega)]
theorem l2i_toInt {a : Int64} (h1 : -2147483648 ≤ a.toInt) (h2 : a.toInt < 2147483648) : a.toInt32.toInt = a.toInt := by
  rw [Int64.toInt_toInt32, Int.bmod_eq_of_le (by omega) (by omega)]
/-- a quotient of ints, rounded to 0, in words that omega reads -/
theorem tdiv_spec (x d : Int) (hd : 0 < d) : (0 ≤ x → x.tdiv d = x / d) ∧ (x < 0 → x.tdiv d = -((-x) / d)) := by
  constructor
  · intro h; exact Int.tdiv_eq_ediv_of_nonneg h
  · intro h
    have := Int.neg_tdiv (-x) d
    rw [Int.neg_neg] at this
    rw [this, Int.tdiv_eq_ediv_of_nonneg (by omega)]
theorem d32 {a b : Int32} (hb : 0 < b.toInt) : (a / b).toInt = a.toInt.tdiv b.toInt := Int32.toInt_div_of_ne_right a b (fun h => by rw [h] at hb; exact absurd hb (by decide))
theorem d64 {a b : Int64} (hb : 0 < b.toInt) : (a / b).toInt = a.toInt.tdiv b.toInt := Int64.toInt_div_of_ne_right a b (fun h => by rw [h] at hb; exact absurd hb (by decide))
theorem rem32 {a b : Int32} (hb : 0 < b.toInt) : (a - a / b * b).toInt = a.toInt.tmod b.toInt := by
  have h1 := d32 (a := a) hb
  have h2 := Int.tdiv_mul_add_tmod a.toInt b.toInt
  have h3 := Int.tmod_lt_of_pos a.toInt hb
  have h4 := Int.lt_tmod_of_pos a.toInt hb
  have ha := a.le_toInt
  have ha2 := a.toInt_lt
  have hb2 := b.toInt_lt
  have hm : (a / b * b).toInt = a.toInt.tdiv b.toInt * b.toInt := by
    rw [m32, h1]
    · rw [h1]
      rcases Int.le_total 0 a.toInt with h | h
      · have := Int.tmod_nonneg b.toInt h; omega
      · have h9 := Int.tmod_nonneg b.toInt (show 0 ≤ -a.toInt by omega); rw [Int.neg_tmod] at h9; omega
    · rw [h1]
      rcases Int.le_total 0 a.toInt with h | h
      · have := Int.tmod_nonneg b.toInt h; omega
      · have h9 := Int.tmod_nonneg b.toInt (show 0 ≤ -a.toInt by omega); rw [Int.neg_tmod] at h9; omega
  rw [s32, hm]
  · omega
  · rw [hm]; omega
  · rw [hm]; omega
theorem fm_spec {a b : Int32} (hb : 0 < b.toInt) : (f_J9_floorMod_7cf53 a b).toInt = a.toInt % b.toInt := by
  have hr := rem32 (a := a) hb
  have h3 := Int.tmod_lt_of_pos a.toInt hb
  have h4 := Int.lt_tmod_of_pos a.toInt hb
  have hb2 := b.toInt_lt
  have h6 : a.toInt.tmod b.toInt = if 0 ≤ a.toInt ∨ b.toInt ∣ a.toInt then a.toInt % b.toInt else a.toInt % b.toInt - b.toInt := by
    rw [Int.tmod_eq_emod]
    split
    · omega
    · have : (b.toInt.natAbs : Int) = b.toInt := by omega
      omega
  have h7 := Int.emod_nonneg a.toInt (show b.toInt ≠ 0 by omega)
  have h8 := Int.emod_lt_of_pos a.toInt hb
  unfold f_J9_floorMod_7cf53
  by_cases hx : 0 ≤ a ^^^ b
  · rw [if_pos hx, hr, h6, if_pos (Or.inl ((xor_neg (by omega)).mp hx))]
  · rw [if_neg hx]
    by_cases hz : a - a / b * b = 0
    · rw [if_pos hz]
      have h9 : a.toInt.tmod b.toInt = 0 := by rw [← hr, hz]; rfl
      rw [hr, h9]
      rw [h9] at h6
      split at h6 <;> omega
    · have hnz : ¬ a.toInt.tmod b.toInt = 0 := fun h => hz (Int32.toInt_inj.mp (by rw [hr, h]; rfl))
      have hx2 : ¬ 0 ≤ a.toInt := fun h => hx ((xor_neg (by omega)).mpr h)
      rw [if_neg hz, a32 (by rw [hr]; omega) (by rw [hr]; omega), hr]
      rw [h6] at hnz ⊢
      by_cases hd : 0 ≤ a.toInt ∨ b.toInt ∣ a.toInt
      · rw [if_pos hd] at hnz
        rcases hd with hd | hd
        · exact absurd hd hx2
        · exact absurd (Int.emod_eq_zero_of_dvd hd) hnz
      · rw [if_neg hd]; omega
theorem es_ne (x : Int32) : ¬ f_J9_floorMod_7cf53 x 30 + 1 = 0 := by
  have h := fm_spec (a := x) (b := 30) (by decide)
  have h30 : (30 : Int32).toInt = 30 := rfl
  rw [h30] at h
  intro h1
  have h2 : (f_J9_floorMod_7cf53 x 30 + 1).toInt = (f_J9_floorMod_7cf53 x 30).toInt + 1 := a32 (by rw [h, show (1 : Int32).toInt = 1 from rfl]; omega) (by rw [h, show (1 : Int32).toInt = 1 from rfl]; omega)
  rw [h1, show (0 : Int32).toInt = 0 from rfl] at h2
  omega
def f_X1_day_138_0 (x1 : Int32) (x2 : Int32) (x3 : Int32) (x4 : Int32) : Int64 := (((f_X1_firstDayOfYear x1 x2) + (Int32.toInt64 (f_X1_daysBeforeMonth x1 x2 x3))) + (Int32.toInt64 x4)) - 1
def f_X1_day_71_1 (x2 : Int32) (x3 : Int32) (x4 : Int32) : Int64 := ((((Int32.toInt64 x2) * 100) + (Int32.toInt64 x3)) * 100) + (Int32.toInt64 x4)
def f_X1_day_138_2 (x2 : Int32) (x3 : Int32) (x4 : Int32) : Int64 := (((f_X1_firstDayOfYear 1 x2) + (Int32.toInt64 (f_X1_daysBeforeMonth 1 x2 x3))) + (Int32.toInt64 x4)) - 1
def f_X1_day_138_3 (x2 : Int32) (x3 : Int32) (x4 : Int32) : Int64 := (((f_X1_firstDayOfYear 0 x2) + (Int32.toInt64 (f_X1_daysBeforeMonth 0 x2 x3))) + (Int32.toInt64 x4)) - 1
def f_X1_day (x1 : Int32) (x2 : Int32) (x3 : Int32) (x4 : Int32) : Except String Int64 := if (f_X1_isWholeWithin (Int32.toInt64 x1) 0 2) = 0 then (Except.error xIA) else (if (f_X1_isWholeWithin (Int32.toInt64 x2) (-1000000) 1000000) = 0 then (Except.error xIA) else (if x1 = 2 then (if 15821004 < (f_X1_day_71_1 x2 x3 x4) then (if (f_X1_isWholeWithin (Int32.toInt64 x4) 1 (Int32.toInt64 (f_X1_monthLength 1 x2 x3))) = 0 then (Except.error xIA) else (if x1 = 2 then (if 2299160 < (f_X1_day_138_2 x2 x3 x4) then (Except.ok (f_X1_day_138_2 x2 x3 x4)) else (Except.error xIA)) else (Except.ok (f_X1_day_138_2 x2 x3 x4)))) else (if (f_X1_isWholeWithin (Int32.toInt64 x4) 1 (Int32.toInt64 (f_X1_monthLength 0 x2 x3))) = 0 then (Except.error xIA) else (if x1 = 2 then (Except.ok (f_X1_day_138_3 x2 x3 x4)) else (Except.ok (f_X1_day_138_3 x2 x3 x4))))) else (if (f_X1_isWholeWithin (Int32.toInt64 x4) 1 (Int32.toInt64 (f_X1_monthLength x1 x2 x3))) = 0 then (Except.error xIA) else (if x1 = 2 then (if x1 = 1 then (if 2299160 < (f_X1_day_138_0 x1 x2 x3 x4) then (Except.ok (f_X1_day_138_0 x1 x2 x3 x4)) else (Except.error xIA)) else (Except.ok (f_X1_day_138_0 x1 x2 x3 x4))) else (Except.ok (f_X1_day_138_0 x1 x2 x3 x4))))))
set_option maxHeartbeats 4000000 in
set_option maxRecDepth 100000 in
theorem k_X1_day (l : Launch) (hst : l.stackTraces = false) (tm tt sz q0 : Nat) (x1 : Int32) (x2 : Int32) (x3 : Int32) (x4 : Int32)  : vx_Met l yX1_day wsX1_day ({ frames := 6, cells := 1, slots := 6, locals := 82 }) (va_Pc [.ref q0, .int x1, .int x2, .int x3, .int x4] (fun U => U.heap.size = sz ∧ GE tm tt (va_A [] sz) U U.heap)) (va_Ql (fun r (_ : Unit) => f_X1_day x1 x2 x3 x4 = .ok r) (fun _ _ => True) (va_A [] sz)) (vx_X (fun (_ : Unit) => True) (fun E _ _ => f_X1_day x1 x2 x3 x4 = .error E) (va_A [] sz)) 1 6 (va_A [] sz) := by
  refine vx_ofW (cc := cX1_day) (maxL := 8) (ret := (some .long)) (by decide) rfl ?_
  intro p e s m args below meth c s₁ B hml hnt hv
  obtain ⟨rfl, hsz, hE⟩ := hv
  subst hsz
  have hS : va_S (va_A [] s.heap.size) s.heap s.heap [] := va_S.rf
  have hx := B.exec
  have hb := B.bytes
  have hr := B.returns
  have hts := atoms_spec (ws := wsX1_day) B.pre
  have hown : s.vm.findClass RX1 = some m.cls := findClass_of_methodNamed B.named
  have hlocks := B.notSynchronized
  have hl := lv_entry ([.ref q0, .int x1, .int x2, .int x3, .int x4]) (n := 8) (Nat.le_of_ble_eq_true rfl)
  rw [lg_entry_eq]
  generalize (lg_sl ([.ref q0, .int x1, .int x2, .int x3, .int x4]) ++ List.replicate (8 - (lg_sl ([.ref q0, .int x1, .int x2, .int x3, .int x4])).length) Slot.unset).toArray = ls at hl ⊢
  have hl : lv_has ls 8 [(0, .ref q0), (1, .int x1), (2, .int x2), (3, .int x3), (4, .int x4)] := hl
  refine lv_iload_n hx hb dX1_day_0 rfl (lv_at hl 1 rfl) ?_
  refine lv_i2l hx hb dX1_day_1 rfl ?_
  refine lv_lconst (v := 0) hx hb dX1_day_2 (by decide) ?_
  refine lv_ldc2 hx hb hown (hts (.constantLong RX1 37 (2)) (by decide +kernel)) dX1_day_3 ?_
  refine vp_callSi (W.runS (As := [.long (Int32.toInt64 x1), .long 0, .long 2]) (rest := []) ⟨hx, hb, hml, hown, hts⟩ (k_X1_isWholeWithin l (Int32.toInt64 x1) 0 2) (va_cwS 3 hts gX1_day_X1_isWholeWithin rfl rfl rfl (by decide +kernel) ⟨Nat.le_of_ble_eq_true rfl, Nat.le_of_ble_eq_true rfl⟩) preEq rfl rfl hl.1 rfl (lv_room (Nat.le_of_ble_eq_true rfl)) dX1_day_6 ⟨Nat.zero_le _, Nat.zero_le _⟩) (fun r hr9 => ?_)
  obtain rfl := hr9
  refine lv_if_ne (tgt := 22) hx hb dX1_day_9 (by decide) (fun c_1 => ?_) (fun c_1 => ?_)
  · refine lv_iload_n hx hb dX1_day_22 rfl (lv_at hl 2 rfl) ?_
    refine lv_i2l hx hb dX1_day_23 rfl ?_
    refine lv_ldc2 hx hb hown (hts (.constantLong RX1 50 (-1000000)) (by decide +kernel)) dX1_day_24 ?_
    refine lv_ldc2 hx hb hown (hts (.constantLong RX1 52 (1000000)) (by decide +kernel)) dX1_day_27 ?_
    refine vp_callSi (W.runS (As := [.long (Int32.toInt64 x2), .long (-1000000), .long 1000000]) (rest := []) ⟨hx, hb, hml, hown, hts⟩ (k_X1_isWholeWithin l (Int32.toInt64 x2) (-1000000) 1000000) (va_cwS 3 hts gX1_day_X1_isWholeWithin rfl rfl rfl (by decide +kernel) ⟨Nat.le_of_ble_eq_true rfl, Nat.le_of_ble_eq_true rfl⟩) preEq rfl rfl hl.1 rfl (lv_room (Nat.le_of_ble_eq_true rfl)) dX1_day_30 ⟨Nat.zero_le _, Nat.zero_le _⟩) (fun r hr9 => ?_)
    obtain rfl := hr9
    refine lv_if_ne (tgt := 46) hx hb dX1_day_33 (by decide) (fun c_2 => ?_) (fun c_2 => ?_)
    · refine lv_iload_n hx hb dX1_day_46 rfl (lv_at hl 1 rfl) ?_
      refine lv_istore (lv' := [(5, .int x1), (0, .ref q0), (1, .int x1), (2, .int x2), (3, .int x3), (4, .int x4)]) hx hb dX1_day_47 hl (by decide) rfl (fun ls hl => ?_)
      refine lv_iload_n hx hb dX1_day_49 rfl (lv_at hl 2 rfl) ?_
      refine lv_iconst (v := 2) hx hb dX1_day_50 (by decide) ?_
      refine lv_icmp_ne (tgt := 89) hx hb dX1_day_51 (by decide) (fun c_3 => ?_) (fun c_3 => ?_)
      · refine lv_iload hx hb dX1_day_89 (lv_at hl 5 rfl) ?_
        refine lv_i2l hx hb dX1_day_91 rfl ?_
        refine lv_lconst (v := 1) hx hb dX1_day_92 (by decide) ?_
        refine lv_iload hx hb dX1_day_93 (lv_at hl 0 rfl) ?_
        refine lv_iload_n hx hb dX1_day_95 rfl (lv_at hl 3 rfl) ?_
        refine lv_iload_n hx hb dX1_day_96 rfl (lv_at hl 4 rfl) ?_
        refine vp_callSi (W.runS (As := [.int x1, .int x2, .int x3]) (rest := [.long 1, .long (Int32.toInt64 x4)]) ⟨hx, hb, hml, hown, hts⟩ (k_X1_monthLength l tm tt x1 x2 x3) (va_cwS 3 hts gX1_day_X1_monthLength rfl rfl rfl (by decide +kernel) ⟨Nat.le_of_ble_eq_true rfl, Nat.le_of_ble_eq_true rfl⟩) ⟨(fun a U g9 mk q => ⟨q.1, GE.same (s := U) (U := U.calling g9 mk a) rfl q.2⟩), fun U hU hW => ⟨rfl, hE.give hS (fun _ h => h.elim) hU hW⟩⟩ rfl rfl hl.1 rfl (lv_room (Nat.le_of_ble_eq_true rfl)) dX1_day_97 ⟨Nat.zero_le _, Nat.zero_le _⟩) (fun r hr9 => ?_)
        obtain rfl := hr9
        refine lv_i2l hx hb dX1_day_100 rfl ?_
        refine vp_callSi (W.runS (As := [.long (Int32.toInt64 x4), .long 1, .long (Int32.toInt64 (f_X1_monthLength x1 x2 x3))]) (rest := []) ⟨hx, hb, hml, hown, hts⟩ (k_X1_isWholeWithin l (Int32.toInt64 x4) 1 (Int32.toInt64 (f_X1_monthLength x1 x2 x3))) (va_cwS 3 hts gX1_day_X1_isWholeWithin rfl rfl rfl (by decide +kernel) ⟨Nat.le_of_ble_eq_true rfl, Nat.le_of_ble_eq_true rfl⟩) preEq rfl rfl hl.1 rfl (lv_room (Nat.le_of_ble_eq_true rfl)) dX1_day_101 ⟨Nat.zero_le _, Nat.zero_le _⟩) (fun r hr9 => ?_)
        obtain rfl := hr9
        refine lv_if_ne (tgt := 117) hx hb dX1_day_104 (by decide) (fun c_4 => ?_) (fun c_4 => ?_)
        · refine lv_iload hx hb dX1_day_117 (lv_at hl 0 rfl) ?_
          refine lv_iload_n hx hb dX1_day_119 rfl (lv_at hl 3 rfl) ?_
          refine vp_callSl (W.runS (As := [.int x1, .int x2]) (rest := []) ⟨hx, hb, hml, hown, hts⟩ (k_X1_firstDayOfYear l x1 x2) (va_cwS 2 hts gX1_day_X1_firstDayOfYear rfl rfl rfl (by decide +kernel) ⟨Nat.le_of_ble_eq_true rfl, Nat.le_of_ble_eq_true rfl⟩) preEq rfl rfl hl.1 rfl (lv_room (Nat.le_of_ble_eq_true rfl)) dX1_day_120 ⟨Nat.zero_le _, Nat.zero_le _⟩) (fun r hr9 => ?_)
          obtain rfl := hr9
          refine lv_iload hx hb dX1_day_123 (lv_at hl 0 rfl) ?_
          refine lv_iload_n hx hb dX1_day_125 rfl (lv_at hl 3 rfl) ?_
          refine lv_iload_n hx hb dX1_day_126 rfl (lv_at hl 4 rfl) ?_
          refine vp_callSi (W.runS (As := [.int x1, .int x2, .int x3]) (rest := [.long (f_X1_firstDayOfYear x1 x2)]) ⟨hx, hb, hml, hown, hts⟩ (k_X1_daysBeforeMonth l tm tt x1 x2 x3) (va_cwS 3 hts gX1_day_X1_daysBeforeMonth rfl rfl rfl (by decide +kernel) ⟨Nat.le_of_ble_eq_true rfl, Nat.le_of_ble_eq_true rfl⟩) ⟨(fun a U g9 mk q => ⟨q.1, GE.same (s := U) (U := U.calling g9 mk a) rfl q.2⟩), fun U hU hW => ⟨rfl, hE.give hS (fun _ h => h.elim) hU hW⟩⟩ rfl rfl hl.1 rfl (lv_room (Nat.le_of_ble_eq_true rfl)) dX1_day_127 ⟨Nat.zero_le _, Nat.zero_le _⟩) (fun r hr9 => ?_)
          obtain rfl := hr9
          refine lv_i2l hx hb dX1_day_130 rfl ?_
          refine lv_ladd hx hb dX1_day_131 ?_
          refine lv_iload hx hb dX1_day_132 (lv_at hl 5 rfl) ?_
          refine lv_i2l hx hb dX1_day_134 rfl ?_
          refine lv_ladd hx hb dX1_day_135 ?_
          refine lv_lconst (v := 1) hx hb dX1_day_136 (by decide) ?_
          refine lv_lsub hx hb dX1_day_137 ?_
          refine lv_lstore (lv' := [(6, .long (f_X1_day_138_0 x1 x2 x3 x4)), (5, .int x1), (0, .ref q0), (1, .int x1), (2, .int x2), (3, .int x3), (4, .int x4)]) hx hb dX1_day_138 hl (by decide) rfl (fun ls hl => ?_)
          refine lv_iload_n hx hb dX1_day_140 rfl (lv_at hl 3 rfl) ?_
          refine lv_iconst (v := 2) hx hb dX1_day_141 (by decide) ?_
          refine lv_icmp_ne (tgt := 170) hx hb dX1_day_142 (by decide) (fun c_5 => ?_) (fun c_5 => ?_)
          · refine lv_lload hx hb dX1_day_170 (lv_at hl 0 rfl) ?_
            refine W.widen (k := 1) (n := 6) (Nat.le_of_ble_eq_true rfl) (Nat.le_of_ble_eq_true rfl) ?_
            exact vx_ret (W.lret hx hb hr (fun t ht hW => ⟨⟨_, (), rfl, (by unfold f_X1_day; rw [if_neg c_1, if_neg c_2, if_neg c_3, if_neg c_4, if_neg c_5]), trivial⟩, hS.F ht⟩) hS.2.2 dX1_day_172)
          · refine lv_iload hx hb dX1_day_145 (lv_at hl 1 rfl) ?_
            refine lv_iconst (v := 1) hx hb dX1_day_147 (by decide) ?_
            refine lv_icmp_ne (tgt := 170) hx hb dX1_day_148 (by decide) (fun c_6 => ?_) (fun c_6 => ?_)
            · refine lv_lload hx hb dX1_day_170 (lv_at hl 0 rfl) ?_
              refine W.widen (k := 1) (n := 6) (Nat.le_of_ble_eq_true rfl) (Nat.le_of_ble_eq_true rfl) ?_
              exact vx_ret (W.lret hx hb hr (fun t ht hW => ⟨⟨_, (), rfl, (by unfold f_X1_day; rw [if_neg c_1, if_neg c_2, if_neg c_3, if_neg c_4, if_pos c_5, if_neg c_6]), trivial⟩, hS.F ht⟩) hS.2.2 dX1_day_172)
            · refine lv_lload hx hb dX1_day_151 (lv_at hl 0 rfl) ?_
              refine lv_ldc2 hx hb hown (hts (.constantLong RX1 73 (2299160)) (by decide +kernel)) dX1_day_153 ?_
              refine zl_gt (tgt := 170) hx hb dX1_day_156 dX1_day_157 (by decide) (fun c_7 => ?_) (fun c_7 => ?_)
              · refine lv_lload hx hb dX1_day_170 (lv_at hl 0 rfl) ?_
                refine W.widen (k := 1) (n := 6) (Nat.le_of_ble_eq_true rfl) (Nat.le_of_ble_eq_true rfl) ?_
                exact vx_ret (W.lret hx hb hr (fun t ht hW => ⟨⟨_, (), rfl, (by unfold f_X1_day; rw [if_neg c_1, if_neg c_2, if_neg c_3, if_neg c_4, if_pos c_5, if_pos c_6, if_pos c_7]), trivial⟩, hS.F ht⟩) hS.2.2 dX1_day_172)
              · obtain ⟨sa_8, hsa_8⟩ := hE.1.str (k := 75) (tx := "this date was left out") (by decide +kernel)
                exact vx_throwS (rest := []) hx hb hst hown thc_IA thf (hts (.classLink RX1 43 xIA) (by decide +kernel)) (hts (.initialized xIA) (by decide +kernel)) hsa_8 (tha_IA hE.1 (fun w hw => hts w (List.mem_cons_of_mem _ (List.mem_append_right _ hw)))) thg_IA hE.2.1.1 hE.2.1.2 hS (by rw [hml]; exact hl.1) dX1_day_160 dX1_day_163 dX1_day_164 dX1_day_166 dX1_day_169 (fun x hx9 => (hnt x hx9).elim) (Nat.le_of_ble_eq_true rfl) (Nat.le_of_ble_eq_true rfl) (Nat.le_of_ble_eq_true rfl) (Nat.le_of_ble_eq_true rfl) hlocks (fun t hvm hz hk => ⟨(), trivial, (by unfold f_X1_day; rw [if_neg c_1, if_neg c_2, if_neg c_3, if_neg c_4, if_pos c_5, if_pos c_6, if_neg c_7]), zx_F hS hz hk⟩) hS.2.2 (Nat.le_of_ble_eq_true rfl) (Nat.le_of_ble_eq_true rfl)
        · obtain ⟨sa_9, hsa_9⟩ := hE.1.str (k := 64) (tx := "no such date") (by decide +kernel)
          exact vx_throwS (rest := []) hx hb hst hown thc_IA thf (hts (.classLink RX1 43 xIA) (by decide +kernel)) (hts (.initialized xIA) (by decide +kernel)) hsa_9 (tha_IA hE.1 (fun w hw => hts w (List.mem_cons_of_mem _ (List.mem_append_right _ hw)))) thg_IA hE.2.1.1 hE.2.1.2 hS (by rw [hml]; exact hl.1) dX1_day_107 dX1_day_110 dX1_day_111 dX1_day_113 dX1_day_116 (fun x hx9 => (hnt x hx9).elim) (Nat.le_of_ble_eq_true rfl) (Nat.le_of_ble_eq_true rfl) (Nat.le_of_ble_eq_true rfl) (Nat.le_of_ble_eq_true rfl) hlocks (fun t hvm hz hk => ⟨(), trivial, (by unfold f_X1_day; rw [if_neg c_1, if_neg c_2, if_neg c_3, if_pos c_4]), zx_F hS hz hk⟩) hS.2.2 (Nat.le_of_ble_eq_true rfl) (Nat.le_of_ble_eq_true rfl)
      · refine lv_iload_n hx hb dX1_day_54 rfl (lv_at hl 3 rfl) ?_
        refine lv_i2l hx hb dX1_day_55 rfl ?_
        refine lv_ldc2 hx hb hown (hts (.constantLong RX1 56 (100)) (by decide +kernel)) dX1_day_56 ?_
        refine lv_lmul hx hb dX1_day_59 ?_
        refine lv_iload_n hx hb dX1_day_60 rfl (lv_at hl 4 rfl) ?_
        refine lv_i2l hx hb dX1_day_61 rfl ?_
        refine lv_ladd hx hb dX1_day_62 ?_
        refine lv_ldc2 hx hb hown (hts (.constantLong RX1 56 (100)) (by decide +kernel)) dX1_day_63 ?_
        refine lv_lmul hx hb dX1_day_66 ?_
        refine lv_iload hx hb dX1_day_67 (lv_at hl 5 rfl) ?_
        refine lv_i2l hx hb dX1_day_69 rfl ?_
        refine lv_ladd hx hb dX1_day_70 ?_
        refine lv_lstore (lv' := [(6, .long (f_X1_day_71_1 x2 x3 x4)), (5, .int x1), (0, .ref q0), (1, .int x1), (2, .int x2), (3, .int x3), (4, .int x4)]) hx hb dX1_day_71 hl (by decide) rfl (fun ls hl => ?_)
        refine lv_lload hx hb dX1_day_73 (lv_at hl 0 rfl) ?_
        refine lv_ldc2 hx hb hown (hts (.constantLong RX1 58 (15821004)) (by decide +kernel)) dX1_day_75 ?_
        refine zl_gt (tgt := 86) hx hb dX1_day_78 dX1_day_79 (by decide) (fun c_10 => ?_) (fun c_10 => ?_)
        · refine lv_iconst (v := 1) hx hb dX1_day_86 (by decide) ?_
          refine lv_istore (lv' := [(5, .int 1), (6, .long (f_X1_day_71_1 x2 x3 x4)), (0, .ref q0), (1, .int x1), (2, .int x2), (3, .int x3), (4, .int x4)]) hx hb dX1_day_87 hl (by decide) rfl (fun ls hl => ?_)
          refine lv_iload hx hb dX1_day_89 (lv_at hl 6 rfl) ?_
          refine lv_i2l hx hb dX1_day_91 rfl ?_
          refine lv_lconst (v := 1) hx hb dX1_day_92 (by decide) ?_
          refine lv_iload hx hb dX1_day_93 (lv_at hl 0 rfl) ?_
          refine lv_iload_n hx hb dX1_day_95 rfl (lv_at hl 4 rfl) ?_
          refine lv_iload_n hx hb dX1_day_96 rfl (lv_at hl 5 rfl) ?_
          refine vp_callSi (W.runS (As := [.int 1, .int x2, .int x3]) (rest := [.long 1, .long (Int32.toInt64 x4)]) ⟨hx, hb, hml, hown, hts⟩ (k_X1_monthLength l tm tt 1 x2 x3) (va_cwS 3 hts gX1_day_X1_monthLength rfl rfl rfl (by decide +kernel) ⟨Nat.le_of_ble_eq_true rfl, Nat.le_of_ble_eq_true rfl⟩) ⟨(fun a U g9 mk q => ⟨q.1, GE.same (s := U) (U := U.calling g9 mk a) rfl q.2⟩), fun U hU hW => ⟨rfl, hE.give hS (fun _ h => h.elim) hU hW⟩⟩ rfl rfl hl.1 rfl (lv_room (Nat.le_of_ble_eq_true rfl)) dX1_day_97 ⟨Nat.zero_le _, Nat.zero_le _⟩) (fun r hr9 => ?_)
          obtain rfl := hr9
          refine lv_i2l hx hb dX1_day_100 rfl ?_
          refine vp_callSi (W.runS (As := [.long (Int32.toInt64 x4), .long 1, .long (Int32.toInt64 (f_X1_monthLength 1 x2 x3))]) (rest := []) ⟨hx, hb, hml, hown, hts⟩ (k_X1_isWholeWithin l (Int32.toInt64 x4) 1 (Int32.toInt64 (f_X1_monthLength 1 x2 x3))) (va_cwS 3 hts gX1_day_X1_isWholeWithin rfl rfl rfl (by decide +kernel) ⟨Nat.le_of_ble_eq_true rfl, Nat.le_of_ble_eq_true rfl⟩) preEq rfl rfl hl.1 rfl (lv_room (Nat.le_of_ble_eq_true rfl)) dX1_day_101 ⟨Nat.zero_le _, Nat.zero_le _⟩) (fun r hr9 => ?_)
          obtain rfl := hr9
          refine lv_if_ne (tgt := 117) hx hb dX1_day_104 (by decide) (fun c_11 => ?_) (fun c_11 => ?_)
          · refine lv_iload hx hb dX1_day_117 (lv_at hl 0 rfl) ?_
            refine lv_iload_n hx hb dX1_day_119 rfl (lv_at hl 4 rfl) ?_
            refine vp_callSl (W.runS (As := [.int 1, .int x2]) (rest := []) ⟨hx, hb, hml, hown, hts⟩ (k_X1_firstDayOfYear l 1 x2) (va_cwS 2 hts gX1_day_X1_firstDayOfYear rfl rfl rfl (by decide +kernel) ⟨Nat.le_of_ble_eq_true rfl, Nat.le_of_ble_eq_true rfl⟩) preEq rfl rfl hl.1 rfl (lv_room (Nat.le_of_ble_eq_true rfl)) dX1_day_120 ⟨Nat.zero_le _, Nat.zero_le _⟩) (fun r hr9 => ?_)
            obtain rfl := hr9
            refine lv_iload hx hb dX1_day_123 (lv_at hl 0 rfl) ?_
            refine lv_iload_n hx hb dX1_day_125 rfl (lv_at hl 4 rfl) ?_
            refine lv_iload_n hx hb dX1_day_126 rfl (lv_at hl 5 rfl) ?_
            refine vp_callSi (W.runS (As := [.int 1, .int x2, .int x3]) (rest := [.long (f_X1_firstDayOfYear 1 x2)]) ⟨hx, hb, hml, hown, hts⟩ (k_X1_daysBeforeMonth l tm tt 1 x2 x3) (va_cwS 3 hts gX1_day_X1_daysBeforeMonth rfl rfl rfl (by decide +kernel) ⟨Nat.le_of_ble_eq_true rfl, Nat.le_of_ble_eq_true rfl⟩) ⟨(fun a U g9 mk q => ⟨q.1, GE.same (s := U) (U := U.calling g9 mk a) rfl q.2⟩), fun U hU hW => ⟨rfl, hE.give hS (fun _ h => h.elim) hU hW⟩⟩ rfl rfl hl.1 rfl (lv_room (Nat.le_of_ble_eq_true rfl)) dX1_day_127 ⟨Nat.zero_le _, Nat.zero_le _⟩) (fun r hr9 => ?_)
            obtain rfl := hr9
            refine lv_i2l hx hb dX1_day_130 rfl ?_
            refine lv_ladd hx hb dX1_day_131 ?_
            refine lv_iload hx hb dX1_day_132 (lv_at hl 6 rfl) ?_
            refine lv_i2l hx hb dX1_day_134 rfl ?_
            refine lv_ladd hx hb dX1_day_135 ?_
            refine lv_lconst (v := 1) hx hb dX1_day_136 (by decide) ?_
            refine lv_lsub hx hb dX1_day_137 ?_
            refine lv_lstore (lv' := [(6, .long (f_X1_day_138_2 x2 x3 x4)), (5, .int 1), (0, .ref q0), (1, .int x1), (2, .int x2), (3, .int x3), (4, .int x4)]) hx hb dX1_day_138 hl (by decide) rfl (fun ls hl => ?_)
            refine lv_iload_n hx hb dX1_day_140 rfl (lv_at hl 3 rfl) ?_
            refine lv_iconst (v := 2) hx hb dX1_day_141 (by decide) ?_
            refine lv_icmp_ne (tgt := 170) hx hb dX1_day_142 (by decide) (fun c_12 => ?_) (fun c_12 => ?_)
            · refine lv_lload hx hb dX1_day_170 (lv_at hl 0 rfl) ?_
              refine W.widen (k := 1) (n := 6) (Nat.le_of_ble_eq_true rfl) (Nat.le_of_ble_eq_true rfl) ?_
              exact vx_ret (W.lret hx hb hr (fun t ht hW => ⟨⟨_, (), rfl, (by unfold f_X1_day; rw [if_neg c_1, if_neg c_2, if_pos c_3, if_pos c_10, if_neg c_11, if_neg c_12]), trivial⟩, hS.F ht⟩) hS.2.2 dX1_day_172)
            · refine lv_iload hx hb dX1_day_145 (lv_at hl 1 rfl) ?_
              refine lv_iconst (v := 1) hx hb dX1_day_147 (by decide) ?_
              refine lv_icmp_ne (tgt := 170) hx hb dX1_day_148 (by decide) (fun c_13 => absurd c_13 (by decide)) (fun _ => ?_)
              refine lv_lload hx hb dX1_day_151 (lv_at hl 0 rfl) ?_
              refine lv_ldc2 hx hb hown (hts (.constantLong RX1 73 (2299160)) (by decide +kernel)) dX1_day_153 ?_
              refine zl_gt (tgt := 170) hx hb dX1_day_156 dX1_day_157 (by decide) (fun c_14 => ?_) (fun c_14 => ?_)
              · refine lv_lload hx hb dX1_day_170 (lv_at hl 0 rfl) ?_
                refine W.widen (k := 1) (n := 6) (Nat.le_of_ble_eq_true rfl) (Nat.le_of_ble_eq_true rfl) ?_
                exact vx_ret (W.lret hx hb hr (fun t ht hW => ⟨⟨_, (), rfl, (by unfold f_X1_day; rw [if_neg c_1, if_neg c_2, if_pos c_3, if_pos c_10, if_neg c_11, if_pos c_12, if_pos c_14]), trivial⟩, hS.F ht⟩) hS.2.2 dX1_day_172)
              · obtain ⟨sa_15, hsa_15⟩ := hE.1.str (k := 75) (tx := "this date was left out") (by decide +kernel)
                exact vx_throwS (rest := []) hx hb hst hown thc_IA thf (hts (.classLink RX1 43 xIA) (by decide +kernel)) (hts (.initialized xIA) (by decide +kernel)) hsa_15 (tha_IA hE.1 (fun w hw => hts w (List.mem_cons_of_mem _ (List.mem_append_right _ hw)))) thg_IA hE.2.1.1 hE.2.1.2 hS (by rw [hml]; exact hl.1) dX1_day_160 dX1_day_163 dX1_day_164 dX1_day_166 dX1_day_169 (fun x hx9 => (hnt x hx9).elim) (Nat.le_of_ble_eq_true rfl) (Nat.le_of_ble_eq_true rfl) (Nat.le_of_ble_eq_true rfl) (Nat.le_of_ble_eq_true rfl) hlocks (fun t hvm hz hk => ⟨(), trivial, (by unfold f_X1_day; rw [if_neg c_1, if_neg c_2, if_pos c_3, if_pos c_10, if_neg c_11, if_pos c_12, if_neg c_14]), zx_F hS hz hk⟩) hS.2.2 (Nat.le_of_ble_eq_true rfl) (Nat.le_of_ble_eq_true rfl)
          · obtain ⟨sa_16, hsa_16⟩ := hE.1.str (k := 64) (tx := "no such date") (by decide +kernel)
            exact vx_throwS (rest := []) hx hb hst hown thc_IA thf (hts (.classLink RX1 43 xIA) (by decide +kernel)) (hts (.initialized xIA) (by decide +kernel)) hsa_16 (tha_IA hE.1 (fun w hw => hts w (List.mem_cons_of_mem _ (List.mem_append_right _ hw)))) thg_IA hE.2.1.1 hE.2.1.2 hS (by rw [hml]; exact hl.1) dX1_day_107 dX1_day_110 dX1_day_111 dX1_day_113 dX1_day_116 (fun x hx9 => (hnt x hx9).elim) (Nat.le_of_ble_eq_true rfl) (Nat.le_of_ble_eq_true rfl) (Nat.le_of_ble_eq_true rfl) (Nat.le_of_ble_eq_true rfl) hlocks (fun t hvm hz hk => ⟨(), trivial, (by unfold f_X1_day; rw [if_neg c_1, if_neg c_2, if_pos c_3, if_pos c_10, if_pos c_11]), zx_F hS hz hk⟩) hS.2.2 (Nat.le_of_ble_eq_true rfl) (Nat.le_of_ble_eq_true rfl)
        · refine lv_iconst (v := 0) hx hb dX1_day_82 (by decide) ?_
          refine lv_goto (tgt := 87) hx hb dX1_day_83 (by decide) ?_
          refine lv_istore (lv' := [(5, .int 0), (6, .long (f_X1_day_71_1 x2 x3 x4)), (0, .ref q0), (1, .int x1), (2, .int x2), (3, .int x3), (4, .int x4)]) hx hb dX1_day_87 hl (by decide) rfl (fun ls hl => ?_)
          refine lv_iload hx hb dX1_day_89 (lv_at hl 6 rfl) ?_
          refine lv_i2l hx hb dX1_day_91 rfl ?_
          refine lv_lconst (v := 1) hx hb dX1_day_92 (by decide) ?_
          refine lv_iload hx hb dX1_day_93 (lv_at hl 0 rfl) ?_
          refine lv_iload_n hx hb dX1_day_95 rfl (lv_at hl 4 rfl) ?_
          refine lv_iload_n hx hb dX1_day_96 rfl (lv_at hl 5 rfl) ?_
          refine vp_callSi (W.runS (As := [.int 0, .int x2, .int x3]) (rest := [.long 1, .long (Int32.toInt64 x4)]) ⟨hx, hb, hml, hown, hts⟩ (k_X1_monthLength l tm tt 0 x2 x3) (va_cwS 3 hts gX1_day_X1_monthLength rfl rfl rfl (by decide +kernel) ⟨Nat.le_of_ble_eq_true rfl, Nat.le_of_ble_eq_true rfl⟩) ⟨(fun a U g9 mk q => ⟨q.1, GE.same (s := U) (U := U.calling g9 mk a) rfl q.2⟩), fun U hU hW => ⟨rfl, hE.give hS (fun _ h => h.elim) hU hW⟩⟩ rfl rfl hl.1 rfl (lv_room (Nat.le_of_ble_eq_true rfl)) dX1_day_97 ⟨Nat.zero_le _, Nat.zero_le _⟩) (fun r hr9 => ?_)
          obtain rfl := hr9
          refine lv_i2l hx hb dX1_day_100 rfl ?_
          refine vp_callSi (W.runS (As := [.long (Int32.toInt64 x4), .long 1, .long (Int32.toInt64 (f_X1_monthLength 0 x2 x3))]) (rest := []) ⟨hx, hb, hml, hown, hts⟩ (k_X1_isWholeWithin l (Int32.toInt64 x4) 1 (Int32.toInt64 (f_X1_monthLength 0 x2 x3))) (va_cwS 3 hts gX1_day_X1_isWholeWithin rfl rfl rfl (by decide +kernel) ⟨Nat.le_of_ble_eq_true rfl, Nat.le_of_ble_eq_true rfl⟩) preEq rfl rfl hl.1 rfl (lv_room (Nat.le_of_ble_eq_true rfl)) dX1_day_101 ⟨Nat.zero_le _, Nat.zero_le _⟩) (fun r hr9 => ?_)
          obtain rfl := hr9
          refine lv_if_ne (tgt := 117) hx hb dX1_day_104 (by decide) (fun c_17 => ?_) (fun c_17 => ?_)
          · refine lv_iload hx hb dX1_day_117 (lv_at hl 0 rfl) ?_
            refine lv_iload_n hx hb dX1_day_119 rfl (lv_at hl 4 rfl) ?_
            refine vp_callSl (W.runS (As := [.int 0, .int x2]) (rest := []) ⟨hx, hb, hml, hown, hts⟩ (k_X1_firstDayOfYear l 0 x2) (va_cwS 2 hts gX1_day_X1_firstDayOfYear rfl rfl rfl (by decide +kernel) ⟨Nat.le_of_ble_eq_true rfl, Nat.le_of_ble_eq_true rfl⟩) preEq rfl rfl hl.1 rfl (lv_room (Nat.le_of_ble_eq_true rfl)) dX1_day_120 ⟨Nat.zero_le _, Nat.zero_le _⟩) (fun r hr9 => ?_)
            obtain rfl := hr9
            refine lv_iload hx hb dX1_day_123 (lv_at hl 0 rfl) ?_
            refine lv_iload_n hx hb dX1_day_125 rfl (lv_at hl 4 rfl) ?_
            refine lv_iload_n hx hb dX1_day_126 rfl (lv_at hl 5 rfl) ?_
            refine vp_callSi (W.runS (As := [.int 0, .int x2, .int x3]) (rest := [.long (f_X1_firstDayOfYear 0 x2)]) ⟨hx, hb, hml, hown, hts⟩ (k_X1_daysBeforeMonth l tm tt 0 x2 x3) (va_cwS 3 hts gX1_day_X1_daysBeforeMonth rfl rfl rfl (by decide +kernel) ⟨Nat.le_of_ble_eq_true rfl, Nat.le_of_ble_eq_true rfl⟩) ⟨(fun a U g9 mk q => ⟨q.1, GE.same (s := U) (U := U.calling g9 mk a) rfl q.2⟩), fun U hU hW => ⟨rfl, hE.give hS (fun _ h => h.elim) hU hW⟩⟩ rfl rfl hl.1 rfl (lv_room (Nat.le_of_ble_eq_true rfl)) dX1_day_127 ⟨Nat.zero_le _, Nat.zero_le _⟩) (fun r hr9 => ?_)
            obtain rfl := hr9
            refine lv_i2l hx hb dX1_day_130 rfl ?_
            refine lv_ladd hx hb dX1_day_131 ?_
            refine lv_iload hx hb dX1_day_132 (lv_at hl 6 rfl) ?_
            refine lv_i2l hx hb dX1_day_134 rfl ?_
            refine lv_ladd hx hb dX1_day_135 ?_
            refine lv_lconst (v := 1) hx hb dX1_day_136 (by decide) ?_
            refine lv_lsub hx hb dX1_day_137 ?_
            refine lv_lstore (lv' := [(6, .long (f_X1_day_138_3 x2 x3 x4)), (5, .int 0), (0, .ref q0), (1, .int x1), (2, .int x2), (3, .int x3), (4, .int x4)]) hx hb dX1_day_138 hl (by decide) rfl (fun ls hl => ?_)
            refine lv_iload_n hx hb dX1_day_140 rfl (lv_at hl 3 rfl) ?_
            refine lv_iconst (v := 2) hx hb dX1_day_141 (by decide) ?_
            refine lv_icmp_ne (tgt := 170) hx hb dX1_day_142 (by decide) (fun c_18 => ?_) (fun c_18 => ?_)
            · refine lv_lload hx hb dX1_day_170 (lv_at hl 0 rfl) ?_
              refine W.widen (k := 1) (n := 6) (Nat.le_of_ble_eq_true rfl) (Nat.le_of_ble_eq_true rfl) ?_
              exact vx_ret (W.lret hx hb hr (fun t ht hW => ⟨⟨_, (), rfl, (by unfold f_X1_day; rw [if_neg c_1, if_neg c_2, if_pos c_3, if_neg c_10, if_neg c_17, if_neg c_18]), trivial⟩, hS.F ht⟩) hS.2.2 dX1_day_172)
            · refine lv_iload hx hb dX1_day_145 (lv_at hl 1 rfl) ?_
              refine lv_iconst (v := 1) hx hb dX1_day_147 (by decide) ?_
              refine lv_icmp_ne (tgt := 170) hx hb dX1_day_148 (by decide) (fun _ => ?_) (fun c_19 => absurd c_19 (by decide))
              refine lv_lload hx hb dX1_day_170 (lv_at hl 0 rfl) ?_
              refine W.widen (k := 1) (n := 6) (Nat.le_of_ble_eq_true rfl) (Nat.le_of_ble_eq_true rfl) ?_
              exact vx_ret (W.lret hx hb hr (fun t ht hW => ⟨⟨_, (), rfl, (by unfold f_X1_day; rw [if_neg c_1, if_neg c_2, if_pos c_3, if_neg c_10, if_neg c_17, if_pos c_18]), trivial⟩, hS.F ht⟩) hS.2.2 dX1_day_172)
          · obtain ⟨sa_20, hsa_20⟩ := hE.1.str (k := 64) (tx := "no such date") (by decide +kernel)
            exact vx_throwS (rest := []) hx hb hst hown thc_IA thf (hts (.classLink RX1 43 xIA) (by decide +kernel)) (hts (.initialized xIA) (by decide +kernel)) hsa_20 (tha_IA hE.1 (fun w hw => hts w (List.mem_cons_of_mem _ (List.mem_append_right _ hw)))) thg_IA hE.2.1.1 hE.2.1.2 hS (by rw [hml]; exact hl.1) dX1_day_107 dX1_day_110 dX1_day_111 dX1_day_113 dX1_day_116 (fun x hx9 => (hnt x hx9).elim) (Nat.le_of_ble_eq_true rfl) (Nat.le_of_ble_eq_true rfl) (Nat.le_of_ble_eq_true rfl) (Nat.le_of_ble_eq_true rfl) hlocks (fun t hvm hz hk => ⟨(), trivial, (by unfold f_X1_day; rw [if_neg c_1, if_neg c_2, if_pos c_3, if_neg c_10, if_pos c_17]), zx_F hS hz hk⟩) hS.2.2 (Nat.le_of_ble_eq_true rfl) (Nat.le_of_ble_eq_true rfl)
    · obtain ⟨sa_21, hsa_21⟩ := hE.1.str (k := 54) (tx := "no such year") (by decide +kernel)
      exact vx_throwS (rest := []) hx hb hst hown thc_IA thf (hts (.classLink RX1 43 xIA) (by decide +kernel)) (hts (.initialized xIA) (by decide +kernel)) hsa_21 (tha_IA hE.1 (fun w hw => hts w (List.mem_cons_of_mem _ (List.mem_append_right _ hw)))) thg_IA hE.2.1.1 hE.2.1.2 hS (by rw [hml]; exact hl.1) dX1_day_36 dX1_day_39 dX1_day_40 dX1_day_42 dX1_day_45 (fun x hx9 => (hnt x hx9).elim) (Nat.le_of_ble_eq_true rfl) (Nat.le_of_ble_eq_true rfl) (Nat.le_of_ble_eq_true rfl) (Nat.le_of_ble_eq_true rfl) hlocks (fun t hvm hz hk => ⟨(), trivial, (by unfold f_X1_day; rw [if_neg c_1, if_pos c_2]), zx_F hS hz hk⟩) hS.2.2 (Nat.le_of_ble_eq_true rfl) (Nat.le_of_ble_eq_true rfl)
  · obtain ⟨sa_22, hsa_22⟩ := hE.1.str (k := 45) (tx := "no such calendar") (by decide +kernel)
    exact vx_throwS (rest := []) hx hb hst hown thc_IA thf (hts (.classLink RX1 43 xIA) (by decide +kernel)) (hts (.initialized xIA) (by decide +kernel)) hsa_22 (tha_IA hE.1 (fun w hw => hts w (List.mem_cons_of_mem _ (List.mem_append_right _ hw)))) thg_IA hE.2.1.1 hE.2.1.2 hS (by rw [hml]; exact hl.1) dX1_day_12 dX1_day_15 dX1_day_16 dX1_day_18 dX1_day_21 (fun x hx9 => (hnt x hx9).elim) (Nat.le_of_ble_eq_true rfl) (Nat.le_of_ble_eq_true rfl) (Nat.le_of_ble_eq_true rfl) (Nat.le_of_ble_eq_true rfl) hlocks (fun t hvm hz hk => ⟨(), trivial, (by unfold f_X1_day; rw [if_pos c_1]), zx_F hS hz hk⟩) hS.2.2 (Nat.le_of_ble_eq_true rfl) (Nat.le_of_ble_eq_true rfl)

def f_X1_date_144_0 (x1 : Int32) (x2 : Int64) : Int32 := (Int64.toInt32 (x2 - (f_X1_firstDayOfYear x1 (f_X1_yearOfDay x1 x2)))) + 1
def f_X1_date_203_1 (x1 : Int32) (x2 : Int64) : Int32 := f_X1_monthOfDayWithinYear x1 (f_X1_yearOfDay x1 x2) (f_X1_date_144_0 x1 x2)
def f_X1_date_144_2 (x2 : Int64) : Int32 := (Int64.toInt32 (x2 - (f_X1_firstDayOfYear 1 (f_X1_yearOfDay 1 x2)))) + 1
def f_X1_date_203_3 (x2 : Int64) : Int32 := f_X1_monthOfDayWithinYear 1 (f_X1_yearOfDay 1 x2) (f_X1_date_144_2 x2)
def f_X1_date_144_4 (x2 : Int64) : Int32 := (Int64.toInt32 (x2 - (f_X1_firstDayOfYear 0 (f_X1_yearOfDay 0 x2)))) + 1
def f_X1_date_203_5 (x2 : Int64) : Int32 := f_X1_monthOfDayWithinYear 0 (f_X1_yearOfDay 0 x2) (f_X1_date_144_4 x2)
def f_X1_date (x1 : Int32) (x2 : Int64) (x3 : Int32) : Except String Int32 := if (f_X1_isWholeWithin (Int32.toInt64 x1) 0 2) = 0 then (Except.error xIA) else (if (f_X1_isWholeWithin x2 (-400000000) 400000000) = 0 then (Except.error xIA) else (if (f_X1_isWholeWithin (Int32.toInt64 x3) 0 3) = 0 then (Except.error xIA) else (if x1 = 2 then (if 2299160 < x2 then (if (f_X1_isWholeWithin (Int32.toInt64 (f_X1_yearOfDay 1 x2)) (-1000000) 1000000) = 0 then (Except.error xIA) else (if x3 = 0 then (Except.ok (f_X1_yearOfDay 1 x2)) else (if x3 = 3 then (if x1 = 2 then (if (f_X1_yearOfDay 1 x2) = 1582 then (Except.ok ((f_X1_date_144_2 x2) - 10)) else (Except.ok (f_X1_date_144_2 x2))) else (Except.ok (f_X1_date_144_2 x2))) else (if x3 = 1 then (Except.ok (f_X1_date_203_3 x2)) else (Except.ok ((f_X1_date_144_2 x2) - (f_X1_daysBeforeMonth 1 (f_X1_yearOfDay 1 x2) (f_X1_date_203_3 x2)))))))) else (if (f_X1_isWholeWithin (Int32.toInt64 (f_X1_yearOfDay 0 x2)) (-1000000) 1000000) = 0 then (Except.error xIA) else (if x3 = 0 then (Except.ok (f_X1_yearOfDay 0 x2)) else (if x3 = 3 then (if x1 = 2 then (Except.ok (f_X1_date_144_4 x2)) else (Except.ok (f_X1_date_144_4 x2))) else (if x3 = 1 then (Except.ok (f_X1_date_203_5 x2)) else (Except.ok ((f_X1_date_144_4 x2) - (f_X1_daysBeforeMonth 0 (f_X1_yearOfDay 0 x2) (f_X1_date_203_5 x2))))))))) else (if (f_X1_isWholeWithin (Int32.toInt64 (f_X1_yearOfDay x1 x2)) (-1000000) 1000000) = 0 then (Except.error xIA) else (if x3 = 0 then (Except.ok (f_X1_yearOfDay x1 x2)) else (if x3 = 3 then (if x1 = 2 then (if x1 = 1 then (if (f_X1_yearOfDay x1 x2) = 1582 then (Except.ok ((f_X1_date_144_0 x1 x2) - 10)) else (Except.ok (f_X1_date_144_0 x1 x2))) else (Except.ok (f_X1_date_144_0 x1 x2))) else (Except.ok (f_X1_date_144_0 x1 x2))) else (if x3 = 1 then (Except.ok (f_X1_date_203_1 x1 x2)) else (Except.ok ((f_X1_date_144_0 x1 x2) - (f_X1_daysBeforeMonth x1 (f_X1_yearOfDay x1 x2) (f_X1_date_203_1 x1 x2)))))))))))
set_option maxHeartbeats 4000000 in
set_option maxRecDepth 100000 in
theorem k_X1_date (l : Launch) (hst : l.stackTraces = false) (tm tt sz q0 : Nat) (x1 : Int32) (x2 : Int64) (x3 : Int32)  : vx_Met l yX1_date wsX1_date ({ frames := 6, cells := 1, slots := 6, locals := 91 }) (va_Pc [.ref q0, .int x1, .long x2, .int x3] (fun U => U.heap.size = sz ∧ GE tm tt (va_A [] sz) U U.heap)) (va_Qi (fun r (_ : Unit) => f_X1_date x1 x2 x3 = .ok r) (fun _ _ => True) (va_A [] sz)) (vx_X (fun (_ : Unit) => True) (fun E _ _ => f_X1_date x1 x2 x3 = .error E) (va_A [] sz)) 1 6 (va_A [] sz) := by
  refine vx_ofW (cc := cX1_date) (maxL := 9) (ret := (some .int)) (by decide) rfl ?_
  intro p e s m args below meth c s₁ B hml hnt hv
  obtain ⟨rfl, hsz, hE⟩ := hv
  subst hsz
  have hS : va_S (va_A [] s.heap.size) s.heap s.heap [] := va_S.rf
  have hx := B.exec
  have hb := B.bytes
  have hr := B.returns
  have hts := atoms_spec (ws := wsX1_date) B.pre
  have hown : s.vm.findClass RX1 = some m.cls := findClass_of_methodNamed B.named
  have hlocks := B.notSynchronized
  have hl := lv_entry ([.ref q0, .int x1, .long x2, .int x3]) (n := 9) (Nat.le_of_ble_eq_true rfl)
  rw [lg_entry_eq]
  generalize (lg_sl ([.ref q0, .int x1, .long x2, .int x3]) ++ List.replicate (9 - (lg_sl ([.ref q0, .int x1, .long x2, .int x3])).length) Slot.unset).toArray = ls at hl ⊢
  have hl : lv_has ls 9 [(0, .ref q0), (1, .int x1), (2, .long x2), (4, .int x3)] := hl
  refine lv_iload_n hx hb dX1_date_0 rfl (lv_at hl 1 rfl) ?_
  refine lv_i2l hx hb dX1_date_1 rfl ?_
  refine lv_lconst (v := 0) hx hb dX1_date_2 (by decide) ?_
  refine lv_ldc2 hx hb hown (hts (.constantLong RX1 37 (2)) (by decide +kernel)) dX1_date_3 ?_
  refine vp_callSi (W.runS (As := [.long (Int32.toInt64 x1), .long 0, .long 2]) (rest := []) ⟨hx, hb, hml, hown, hts⟩ (k_X1_isWholeWithin l (Int32.toInt64 x1) 0 2) (va_cwS 3 hts gX1_date_X1_isWholeWithin rfl rfl rfl (by decide +kernel) ⟨Nat.le_of_ble_eq_true rfl, Nat.le_of_ble_eq_true rfl⟩) preEq rfl rfl hl.1 rfl (lv_room (Nat.le_of_ble_eq_true rfl)) dX1_date_6 ⟨Nat.zero_le _, Nat.zero_le _⟩) (fun r hr9 => ?_)
  obtain rfl := hr9
  refine lv_if_ne (tgt := 22) hx hb dX1_date_9 (by decide) (fun c_1 => ?_) (fun c_1 => ?_)
  · refine lv_lload_n hx hb dX1_date_22 rfl (lv_at hl 2 rfl) ?_
    refine lv_ldc2 hx hb hown (hts (.constantLong RX1 77 (-400000000)) (by decide +kernel)) dX1_date_23 ?_
    refine lv_ldc2 hx hb hown (hts (.constantLong RX1 79 (400000000)) (by decide +kernel)) dX1_date_26 ?_
    refine vp_callSi (W.runS (As := [.long x2, .long (-400000000), .long 400000000]) (rest := []) ⟨hx, hb, hml, hown, hts⟩ (k_X1_isWholeWithin l x2 (-400000000) 400000000) (va_cwS 3 hts gX1_date_X1_isWholeWithin rfl rfl rfl (by decide +kernel) ⟨Nat.le_of_ble_eq_true rfl, Nat.le_of_ble_eq_true rfl⟩) preEq rfl rfl hl.1 rfl (lv_room (Nat.le_of_ble_eq_true rfl)) dX1_date_29 ⟨Nat.zero_le _, Nat.zero_le _⟩) (fun r hr9 => ?_)
    obtain rfl := hr9
    refine lv_if_ne (tgt := 45) hx hb dX1_date_32 (by decide) (fun c_2 => ?_) (fun c_2 => ?_)
    · refine lv_iload hx hb dX1_date_45 (lv_at hl 3 rfl) ?_
      refine lv_i2l hx hb dX1_date_47 rfl ?_
      refine lv_lconst (v := 0) hx hb dX1_date_48 (by decide) ?_
      refine lv_ldc2 hx hb hown (hts (.constantLong RX1 83 (3)) (by decide +kernel)) dX1_date_49 ?_
      refine vp_callSi (W.runS (As := [.long (Int32.toInt64 x3), .long 0, .long 3]) (rest := []) ⟨hx, hb, hml, hown, hts⟩ (k_X1_isWholeWithin l (Int32.toInt64 x3) 0 3) (va_cwS 3 hts gX1_date_X1_isWholeWithin rfl rfl rfl (by decide +kernel) ⟨Nat.le_of_ble_eq_true rfl, Nat.le_of_ble_eq_true rfl⟩) preEq rfl rfl hl.1 rfl (lv_room (Nat.le_of_ble_eq_true rfl)) dX1_date_52 ⟨Nat.zero_le _, Nat.zero_le _⟩) (fun r hr9 => ?_)
      obtain rfl := hr9
      refine lv_if_ne (tgt := 68) hx hb dX1_date_55 (by decide) (fun c_3 => ?_) (fun c_3 => ?_)
      · refine lv_iload_n hx hb dX1_date_68 rfl (lv_at hl 1 rfl) ?_
        refine lv_istore (lv' := [(5, .int x1), (0, .ref q0), (1, .int x1), (2, .long x2), (4, .int x3)]) hx hb dX1_date_69 hl (by decide) rfl (fun ls hl => ?_)
        refine lv_iload_n hx hb dX1_date_71 rfl (lv_at hl 2 rfl) ?_
        refine lv_iconst (v := 2) hx hb dX1_date_72 (by decide) ?_
        refine lv_icmp_ne (tgt := 91) hx hb dX1_date_73 (by decide) (fun c_4 => ?_) (fun c_4 => ?_)
        · refine lv_iload hx hb dX1_date_91 (lv_at hl 0 rfl) ?_
          refine lv_lload_n hx hb dX1_date_93 rfl (lv_at hl 3 rfl) ?_
          refine vp_callSi (W.runS (As := [.int x1, .long x2]) (rest := []) ⟨hx, hb, hml, hown, hts⟩ (k_X1_yearOfDay l x1 x2) (va_cwS 2 hts gX1_date_X1_yearOfDay rfl rfl rfl (by decide +kernel) ⟨Nat.le_of_ble_eq_true rfl, Nat.le_of_ble_eq_true rfl⟩) preEq rfl rfl hl.1 rfl (lv_room (Nat.le_of_ble_eq_true rfl)) dX1_date_94 ⟨Nat.zero_le _, Nat.zero_le _⟩) (fun r hr9 => ?_)
          obtain rfl := hr9
          refine lv_istore (lv' := [(6, .int (f_X1_yearOfDay x1 x2)), (5, .int x1), (0, .ref q0), (1, .int x1), (2, .long x2), (4, .int x3)]) hx hb dX1_date_97 hl (by decide) rfl (fun ls hl => ?_)
          refine lv_iload hx hb dX1_date_99 (lv_at hl 0 rfl) ?_
          refine lv_i2l hx hb dX1_date_101 rfl ?_
          refine lv_ldc2 hx hb hown (hts (.constantLong RX1 50 (-1000000)) (by decide +kernel)) dX1_date_102 ?_
          refine lv_ldc2 hx hb hown (hts (.constantLong RX1 52 (1000000)) (by decide +kernel)) dX1_date_105 ?_
          refine vp_callSi (W.runS (As := [.long (Int32.toInt64 (f_X1_yearOfDay x1 x2)), .long (-1000000), .long 1000000]) (rest := []) ⟨hx, hb, hml, hown, hts⟩ (k_X1_isWholeWithin l (Int32.toInt64 (f_X1_yearOfDay x1 x2)) (-1000000) 1000000) (va_cwS 3 hts gX1_date_X1_isWholeWithin rfl rfl rfl (by decide +kernel) ⟨Nat.le_of_ble_eq_true rfl, Nat.le_of_ble_eq_true rfl⟩) preEq rfl rfl hl.1 rfl (lv_room (Nat.le_of_ble_eq_true rfl)) dX1_date_108 ⟨Nat.zero_le _, Nat.zero_le _⟩) (fun r hr9 => ?_)
          obtain rfl := hr9
          refine lv_if_ne (tgt := 124) hx hb dX1_date_111 (by decide) (fun c_5 => ?_) (fun c_5 => ?_)
          · refine lv_iload hx hb dX1_date_124 (lv_at hl 5 rfl) ?_
            refine lv_if_ne (tgt := 132) hx hb dX1_date_126 (by decide) (fun c_6 => ?_) (fun c_6 => ?_)
            · refine lv_lload_n hx hb dX1_date_132 rfl (lv_at hl 4 rfl) ?_
              refine lv_iload hx hb dX1_date_133 (lv_at hl 1 rfl) ?_
              refine lv_iload hx hb dX1_date_135 (lv_at hl 0 rfl) ?_
              refine vp_callSl (W.runS (As := [.int x1, .int (f_X1_yearOfDay x1 x2)]) (rest := [.long x2]) ⟨hx, hb, hml, hown, hts⟩ (k_X1_firstDayOfYear l x1 (f_X1_yearOfDay x1 x2)) (va_cwS 2 hts gX1_date_X1_firstDayOfYear rfl rfl rfl (by decide +kernel) ⟨Nat.le_of_ble_eq_true rfl, Nat.le_of_ble_eq_true rfl⟩) preEq rfl rfl hl.1 rfl (lv_room (Nat.le_of_ble_eq_true rfl)) dX1_date_137 ⟨Nat.zero_le _, Nat.zero_le _⟩) (fun r hr9 => ?_)
              obtain rfl := hr9
              refine lv_lsub hx hb dX1_date_140 ?_
              refine lv_l2i hx hb dX1_date_141 rfl ?_
              refine lv_iconst (v := 1) hx hb dX1_date_142 (by decide) ?_
              refine lv_iadd hx hb dX1_date_143 ?_
              refine lv_istore (lv' := [(7, .int (f_X1_date_144_0 x1 x2)), (6, .int (f_X1_yearOfDay x1 x2)), (5, .int x1), (0, .ref q0), (1, .int x1), (2, .long x2), (4, .int x3)]) hx hb dX1_date_144 hl (by decide) rfl (fun ls hl => ?_)
              refine lv_iload hx hb dX1_date_146 (lv_at hl 6 rfl) ?_
              refine lv_iconst (v := 3) hx hb dX1_date_148 (by decide) ?_
              refine lv_icmp_ne (tgt := 194) hx hb dX1_date_149 (by decide) (fun c_7 => ?_) (fun c_7 => ?_)
              · refine lv_iload hx hb dX1_date_194 (lv_at hl 2 rfl) ?_
                refine lv_iload hx hb dX1_date_196 (lv_at hl 1 rfl) ?_
                refine lv_iload hx hb dX1_date_198 (lv_at hl 0 rfl) ?_
                refine vp_callSi (W.runS (As := [.int x1, .int (f_X1_yearOfDay x1 x2), .int (f_X1_date_144_0 x1 x2)]) (rest := []) ⟨hx, hb, hml, hown, hts⟩ (k_X1_monthOfDayWithinYear l tm tt x1 (f_X1_yearOfDay x1 x2) (f_X1_date_144_0 x1 x2)) (va_cwS 3 hts gX1_date_X1_monthOfDayWithinYear rfl rfl rfl (by decide +kernel) ⟨Nat.le_of_ble_eq_true rfl, Nat.le_of_ble_eq_true rfl⟩) ⟨(fun a U g9 mk q => ⟨q.1, GE.same (s := U) (U := U.calling g9 mk a) rfl q.2⟩), fun U hU hW => ⟨rfl, hE.give hS (fun _ h => h.elim) hU hW⟩⟩ rfl rfl hl.1 rfl (lv_room (Nat.le_of_ble_eq_true rfl)) dX1_date_200 ⟨Nat.zero_le _, Nat.zero_le _⟩) (fun r hr9 => ?_)
                obtain rfl := hr9
                refine lv_istore (lv' := [(8, .int (f_X1_date_203_1 x1 x2)), (7, .int (f_X1_date_144_0 x1 x2)), (6, .int (f_X1_yearOfDay x1 x2)), (5, .int x1), (0, .ref q0), (1, .int x1), (2, .long x2), (4, .int x3)]) hx hb dX1_date_203 hl (by decide) rfl (fun ls hl => ?_)
                refine lv_iload hx hb dX1_date_205 (lv_at hl 7 rfl) ?_
                refine lv_iconst (v := 1) hx hb dX1_date_207 (by decide) ?_
                refine lv_icmp_ne (tgt := 216) hx hb dX1_date_208 (by decide) (fun c_8 => ?_) (fun c_8 => ?_)
                · refine lv_iload hx hb dX1_date_216 (lv_at hl 1 rfl) ?_
                  refine lv_iload hx hb dX1_date_218 (lv_at hl 3 rfl) ?_
                  refine lv_iload hx hb dX1_date_220 (lv_at hl 2 rfl) ?_
                  refine lv_iload hx hb dX1_date_222 (lv_at hl 0 rfl) ?_
                  refine vp_callSi (W.runS (As := [.int x1, .int (f_X1_yearOfDay x1 x2), .int (f_X1_date_203_1 x1 x2)]) (rest := [.int (f_X1_date_144_0 x1 x2)]) ⟨hx, hb, hml, hown, hts⟩ (k_X1_daysBeforeMonth l tm tt x1 (f_X1_yearOfDay x1 x2) (f_X1_date_203_1 x1 x2)) (va_cwS 3 hts gX1_date_X1_daysBeforeMonth rfl rfl rfl (by decide +kernel) ⟨Nat.le_of_ble_eq_true rfl, Nat.le_of_ble_eq_true rfl⟩) ⟨(fun a U g9 mk q => ⟨q.1, GE.same (s := U) (U := U.calling g9 mk a) rfl q.2⟩), fun U hU hW => ⟨rfl, hE.give hS (fun _ h => h.elim) hU hW⟩⟩ rfl rfl hl.1 rfl (lv_room (Nat.le_of_ble_eq_true rfl)) dX1_date_224 ⟨Nat.zero_le _, Nat.zero_le _⟩) (fun r hr9 => ?_)
                  obtain rfl := hr9
                  refine lv_isub hx hb dX1_date_227 ?_
                  refine W.widen (k := 1) (n := 6) (Nat.le_of_ble_eq_true rfl) (Nat.le_of_ble_eq_true rfl) ?_
                  exact vx_ret (W.iret hx hb hr (fun t ht hW => ⟨⟨_, (), rfl, (by unfold f_X1_date; rw [if_neg c_1, if_neg c_2, if_neg c_3, if_neg c_4, if_neg c_5, if_neg c_6, if_neg c_7, if_neg c_8]), trivial⟩, hS.F ht⟩) hS.2.2 dX1_date_228)
                · refine lv_iload hx hb dX1_date_211 (lv_at hl 0 rfl) ?_
                  refine lv_goto (tgt := 228) hx hb dX1_date_213 (by decide) ?_
                  refine W.widen (k := 1) (n := 6) (Nat.le_of_ble_eq_true rfl) (Nat.le_of_ble_eq_true rfl) ?_
                  exact vx_ret (W.iret hx hb hr (fun t ht hW => ⟨⟨_, (), rfl, (by unfold f_X1_date; rw [if_neg c_1, if_neg c_2, if_neg c_3, if_neg c_4, if_neg c_5, if_neg c_6, if_neg c_7, if_pos c_8]), trivial⟩, hS.F ht⟩) hS.2.2 dX1_date_228)
              · refine lv_iload_n hx hb dX1_date_152 rfl (lv_at hl 4 rfl) ?_
                refine lv_iconst (v := 2) hx hb dX1_date_153 (by decide) ?_
                refine lv_icmp_ne (tgt := 175) hx hb dX1_date_154 (by decide) (fun c_9 => ?_) (fun c_9 => ?_)
                · refine lv_iconst (v := 0) hx hb dX1_date_175 (by decide) ?_
                  refine lv_istore (lv' := [(8, .int 0), (7, .int (f_X1_date_144_0 x1 x2)), (6, .int (f_X1_yearOfDay x1 x2)), (5, .int x1), (0, .ref q0), (1, .int x1), (2, .long x2), (4, .int x3)]) hx hb dX1_date_176 hl (by decide) rfl (fun ls hl => ?_)
                  refine lv_iload hx hb dX1_date_178 (lv_at hl 0 rfl) ?_
                  refine lv_if_eq (tgt := 191) hx hb dX1_date_180 (by decide) (fun _ => ?_) (fun c_10 => absurd c_10 (by decide))
                  refine lv_iload hx hb dX1_date_191 (lv_at hl 1 rfl) ?_
                  refine W.widen (k := 1) (n := 6) (Nat.le_of_ble_eq_true rfl) (Nat.le_of_ble_eq_true rfl) ?_
                  exact vx_ret (W.iret hx hb hr (fun t ht hW => ⟨⟨_, (), rfl, (by unfold f_X1_date; rw [if_neg c_1, if_neg c_2, if_neg c_3, if_neg c_4, if_neg c_5, if_neg c_6, if_pos c_7, if_neg c_9]), trivial⟩, hS.F ht⟩) hS.2.2 dX1_date_193)
                · refine lv_iload hx hb dX1_date_157 (lv_at hl 2 rfl) ?_
                  refine lv_iconst (v := 1) hx hb dX1_date_159 (by decide) ?_
                  refine lv_icmp_ne (tgt := 175) hx hb dX1_date_160 (by decide) (fun c_11 => ?_) (fun c_11 => ?_)
                  · refine lv_iconst (v := 0) hx hb dX1_date_175 (by decide) ?_
                    refine lv_istore (lv' := [(8, .int 0), (7, .int (f_X1_date_144_0 x1 x2)), (6, .int (f_X1_yearOfDay x1 x2)), (5, .int x1), (0, .ref q0), (1, .int x1), (2, .long x2), (4, .int x3)]) hx hb dX1_date_176 hl (by decide) rfl (fun ls hl => ?_)
                    refine lv_iload hx hb dX1_date_178 (lv_at hl 0 rfl) ?_
                    refine lv_if_eq (tgt := 191) hx hb dX1_date_180 (by decide) (fun _ => ?_) (fun c_12 => absurd c_12 (by decide))
                    refine lv_iload hx hb dX1_date_191 (lv_at hl 1 rfl) ?_
                    refine W.widen (k := 1) (n := 6) (Nat.le_of_ble_eq_true rfl) (Nat.le_of_ble_eq_true rfl) ?_
                    exact vx_ret (W.iret hx hb hr (fun t ht hW => ⟨⟨_, (), rfl, (by unfold f_X1_date; rw [if_neg c_1, if_neg c_2, if_neg c_3, if_neg c_4, if_neg c_5, if_neg c_6, if_pos c_7, if_pos c_9, if_neg c_11]), trivial⟩, hS.F ht⟩) hS.2.2 dX1_date_193)
                  · refine lv_iload hx hb dX1_date_163 (lv_at hl 1 rfl) ?_
                    refine lv_sipush (v := 1582) hx hb dX1_date_165 (by decide) ?_
                    refine lv_icmp_ne (tgt := 175) hx hb dX1_date_168 (by decide) (fun c_13 => ?_) (fun c_13 => ?_)
                    · refine lv_iconst (v := 0) hx hb dX1_date_175 (by decide) ?_
                      refine lv_istore (lv' := [(8, .int 0), (7, .int (f_X1_date_144_0 x1 x2)), (6, .int (f_X1_yearOfDay x1 x2)), (5, .int x1), (0, .ref q0), (1, .int x1), (2, .long x2), (4, .int x3)]) hx hb dX1_date_176 hl (by decide) rfl (fun ls hl => ?_)
                      refine lv_iload hx hb dX1_date_178 (lv_at hl 0 rfl) ?_
                      refine lv_if_eq (tgt := 191) hx hb dX1_date_180 (by decide) (fun _ => ?_) (fun c_14 => absurd c_14 (by decide))
                      refine lv_iload hx hb dX1_date_191 (lv_at hl 1 rfl) ?_
                      refine W.widen (k := 1) (n := 6) (Nat.le_of_ble_eq_true rfl) (Nat.le_of_ble_eq_true rfl) ?_
                      exact vx_ret (W.iret hx hb hr (fun t ht hW => ⟨⟨_, (), rfl, (by unfold f_X1_date; rw [if_neg c_1, if_neg c_2, if_neg c_3, if_neg c_4, if_neg c_5, if_neg c_6, if_pos c_7, if_pos c_9, if_pos c_11, if_neg c_13]), trivial⟩, hS.F ht⟩) hS.2.2 dX1_date_193)
                    · refine lv_iconst (v := 1) hx hb dX1_date_171 (by decide) ?_
                      refine lv_goto (tgt := 176) hx hb dX1_date_172 (by decide) ?_
                      refine lv_istore (lv' := [(8, .int 1), (7, .int (f_X1_date_144_0 x1 x2)), (6, .int (f_X1_yearOfDay x1 x2)), (5, .int x1), (0, .ref q0), (1, .int x1), (2, .long x2), (4, .int x3)]) hx hb dX1_date_176 hl (by decide) rfl (fun ls hl => ?_)
                      refine lv_iload hx hb dX1_date_178 (lv_at hl 0 rfl) ?_
                      refine lv_if_eq (tgt := 191) hx hb dX1_date_180 (by decide) (fun c_15 => absurd c_15 (by decide)) (fun _ => ?_)
                      refine lv_iload hx hb dX1_date_183 (lv_at hl 1 rfl) ?_
                      refine lv_bipush (v := 10) hx hb dX1_date_185 (by decide) ?_
                      refine lv_isub hx hb dX1_date_187 ?_
                      refine lv_goto (tgt := 193) hx hb dX1_date_188 (by decide) ?_
                      refine W.widen (k := 1) (n := 6) (Nat.le_of_ble_eq_true rfl) (Nat.le_of_ble_eq_true rfl) ?_
                      exact vx_ret (W.iret hx hb hr (fun t ht hW => ⟨⟨_, (), rfl, (by unfold f_X1_date; rw [if_neg c_1, if_neg c_2, if_neg c_3, if_neg c_4, if_neg c_5, if_neg c_6, if_pos c_7, if_pos c_9, if_pos c_11, if_pos c_13]), trivial⟩, hS.F ht⟩) hS.2.2 dX1_date_193)
            · refine lv_iload hx hb dX1_date_129 (lv_at hl 0 rfl) ?_
              refine W.widen (k := 1) (n := 6) (Nat.le_of_ble_eq_true rfl) (Nat.le_of_ble_eq_true rfl) ?_
              exact vx_ret (W.iret hx hb hr (fun t ht hW => ⟨⟨_, (), rfl, (by unfold f_X1_date; rw [if_neg c_1, if_neg c_2, if_neg c_3, if_neg c_4, if_neg c_5, if_pos c_6]), trivial⟩, hS.F ht⟩) hS.2.2 dX1_date_131)
          · obtain ⟨sa_16, hsa_16⟩ := hE.1.str (k := 91) (tx := "the year is out of range") (by decide +kernel)
            exact vx_throwS (rest := []) hx hb hst hown thc_IA thf (hts (.classLink RX1 43 xIA) (by decide +kernel)) (hts (.initialized xIA) (by decide +kernel)) hsa_16 (tha_IA hE.1 (fun w hw => hts w (List.mem_cons_of_mem _ (List.mem_append_right _ hw)))) thg_IA hE.2.1.1 hE.2.1.2 hS (by rw [hml]; exact hl.1) dX1_date_114 dX1_date_117 dX1_date_118 dX1_date_120 dX1_date_123 (fun x hx9 => (hnt x hx9).elim) (Nat.le_of_ble_eq_true rfl) (Nat.le_of_ble_eq_true rfl) (Nat.le_of_ble_eq_true rfl) (Nat.le_of_ble_eq_true rfl) hlocks (fun t hvm hz hk => ⟨(), trivial, (by unfold f_X1_date; rw [if_neg c_1, if_neg c_2, if_neg c_3, if_neg c_4, if_pos c_5]), zx_F hS hz hk⟩) hS.2.2 (Nat.le_of_ble_eq_true rfl) (Nat.le_of_ble_eq_true rfl)
        · refine lv_lload_n hx hb dX1_date_76 rfl (lv_at hl 3 rfl) ?_
          refine lv_ldc2 hx hb hown (hts (.constantLong RX1 73 (2299160)) (by decide +kernel)) dX1_date_77 ?_
          refine zl_gt (tgt := 88) hx hb dX1_date_80 dX1_date_81 (by decide) (fun c_17 => ?_) (fun c_17 => ?_)
          · refine lv_iconst (v := 1) hx hb dX1_date_88 (by decide) ?_
            refine lv_istore (lv' := [(5, .int 1), (0, .ref q0), (1, .int x1), (2, .long x2), (4, .int x3)]) hx hb dX1_date_89 hl (by decide) rfl (fun ls hl => ?_)
            refine lv_iload hx hb dX1_date_91 (lv_at hl 0 rfl) ?_
            refine lv_lload_n hx hb dX1_date_93 rfl (lv_at hl 3 rfl) ?_
            refine vp_callSi (W.runS (As := [.int 1, .long x2]) (rest := []) ⟨hx, hb, hml, hown, hts⟩ (k_X1_yearOfDay l 1 x2) (va_cwS 2 hts gX1_date_X1_yearOfDay rfl rfl rfl (by decide +kernel) ⟨Nat.le_of_ble_eq_true rfl, Nat.le_of_ble_eq_true rfl⟩) preEq rfl rfl hl.1 rfl (lv_room (Nat.le_of_ble_eq_true rfl)) dX1_date_94 ⟨Nat.zero_le _, Nat.zero_le _⟩) (fun r hr9 => ?_)
            obtain rfl := hr9
            refine lv_istore (lv' := [(6, .int (f_X1_yearOfDay 1 x2)), (5, .int 1), (0, .ref q0), (1, .int x1), (2, .long x2), (4, .int x3)]) hx hb dX1_date_97 hl (by decide) rfl (fun ls hl => ?_)
            refine lv_iload hx hb dX1_date_99 (lv_at hl 0 rfl) ?_
            refine lv_i2l hx hb dX1_date_101 rfl ?_
            refine lv_ldc2 hx hb hown (hts (.constantLong RX1 50 (-1000000)) (by decide +kernel)) dX1_date_102 ?_
            refine lv_ldc2 hx hb hown (hts (.constantLong RX1 52 (1000000)) (by decide +kernel)) dX1_date_105 ?_
            refine vp_callSi (W.runS (As := [.long (Int32.toInt64 (f_X1_yearOfDay 1 x2)), .long (-1000000), .long 1000000]) (rest := []) ⟨hx, hb, hml, hown, hts⟩ (k_X1_isWholeWithin l (Int32.toInt64 (f_X1_yearOfDay 1 x2)) (-1000000) 1000000) (va_cwS 3 hts gX1_date_X1_isWholeWithin rfl rfl rfl (by decide +kernel) ⟨Nat.le_of_ble_eq_true rfl, Nat.le_of_ble_eq_true rfl⟩) preEq rfl rfl hl.1 rfl (lv_room (Nat.le_of_ble_eq_true rfl)) dX1_date_108 ⟨Nat.zero_le _, Nat.zero_le _⟩) (fun r hr9 => ?_)
            obtain rfl := hr9
            refine lv_if_ne (tgt := 124) hx hb dX1_date_111 (by decide) (fun c_18 => ?_) (fun c_18 => ?_)
            · refine lv_iload hx hb dX1_date_124 (lv_at hl 5 rfl) ?_
              refine lv_if_ne (tgt := 132) hx hb dX1_date_126 (by decide) (fun c_19 => ?_) (fun c_19 => ?_)
              · refine lv_lload_n hx hb dX1_date_132 rfl (lv_at hl 4 rfl) ?_
                refine lv_iload hx hb dX1_date_133 (lv_at hl 1 rfl) ?_
                refine lv_iload hx hb dX1_date_135 (lv_at hl 0 rfl) ?_
                refine vp_callSl (W.runS (As := [.int 1, .int (f_X1_yearOfDay 1 x2)]) (rest := [.long x2]) ⟨hx, hb, hml, hown, hts⟩ (k_X1_firstDayOfYear l 1 (f_X1_yearOfDay 1 x2)) (va_cwS 2 hts gX1_date_X1_firstDayOfYear rfl rfl rfl (by decide +kernel) ⟨Nat.le_of_ble_eq_true rfl, Nat.le_of_ble_eq_true rfl⟩) preEq rfl rfl hl.1 rfl (lv_room (Nat.le_of_ble_eq_true rfl)) dX1_date_137 ⟨Nat.zero_le _, Nat.zero_le _⟩) (fun r hr9 => ?_)
                obtain rfl := hr9
                refine lv_lsub hx hb dX1_date_140 ?_
                refine lv_l2i hx hb dX1_date_141 rfl ?_
                refine lv_iconst (v := 1) hx hb dX1_date_142 (by decide) ?_
                refine lv_iadd hx hb dX1_date_143 ?_
                refine lv_istore (lv' := [(7, .int (f_X1_date_144_2 x2)), (6, .int (f_X1_yearOfDay 1 x2)), (5, .int 1), (0, .ref q0), (1, .int x1), (2, .long x2), (4, .int x3)]) hx hb dX1_date_144 hl (by decide) rfl (fun ls hl => ?_)
                refine lv_iload hx hb dX1_date_146 (lv_at hl 6 rfl) ?_
                refine lv_iconst (v := 3) hx hb dX1_date_148 (by decide) ?_
                refine lv_icmp_ne (tgt := 194) hx hb dX1_date_149 (by decide) (fun c_20 => ?_) (fun c_20 => ?_)
                · refine lv_iload hx hb dX1_date_194 (lv_at hl 2 rfl) ?_
                  refine lv_iload hx hb dX1_date_196 (lv_at hl 1 rfl) ?_
                  refine lv_iload hx hb dX1_date_198 (lv_at hl 0 rfl) ?_
                  refine vp_callSi (W.runS (As := [.int 1, .int (f_X1_yearOfDay 1 x2), .int (f_X1_date_144_2 x2)]) (rest := []) ⟨hx, hb, hml, hown, hts⟩ (k_X1_monthOfDayWithinYear l tm tt 1 (f_X1_yearOfDay 1 x2) (f_X1_date_144_2 x2)) (va_cwS 3 hts gX1_date_X1_monthOfDayWithinYear rfl rfl rfl (by decide +kernel) ⟨Nat.le_of_ble_eq_true rfl, Nat.le_of_ble_eq_true rfl⟩) ⟨(fun a U g9 mk q => ⟨q.1, GE.same (s := U) (U := U.calling g9 mk a) rfl q.2⟩), fun U hU hW => ⟨rfl, hE.give hS (fun _ h => h.elim) hU hW⟩⟩ rfl rfl hl.1 rfl (lv_room (Nat.le_of_ble_eq_true rfl)) dX1_date_200 ⟨Nat.zero_le _, Nat.zero_le _⟩) (fun r hr9 => ?_)
                  obtain rfl := hr9
                  refine lv_istore (lv' := [(8, .int (f_X1_date_203_3 x2)), (7, .int (f_X1_date_144_2 x2)), (6, .int (f_X1_yearOfDay 1 x2)), (5, .int 1), (0, .ref q0), (1, .int x1), (2, .long x2), (4, .int x3)]) hx hb dX1_date_203 hl (by decide) rfl (fun ls hl => ?_)
                  refine lv_iload hx hb dX1_date_205 (lv_at hl 7 rfl) ?_
                  refine lv_iconst (v := 1) hx hb dX1_date_207 (by decide) ?_
                  refine lv_icmp_ne (tgt := 216) hx hb dX1_date_208 (by decide) (fun c_21 => ?_) (fun c_21 => ?_)
                  · refine lv_iload hx hb dX1_date_216 (lv_at hl 1 rfl) ?_
                    refine lv_iload hx hb dX1_date_218 (lv_at hl 3 rfl) ?_
                    refine lv_iload hx hb dX1_date_220 (lv_at hl 2 rfl) ?_
                    refine lv_iload hx hb dX1_date_222 (lv_at hl 0 rfl) ?_
                    refine vp_callSi (W.runS (As := [.int 1, .int (f_X1_yearOfDay 1 x2), .int (f_X1_date_203_3 x2)]) (rest := [.int (f_X1_date_144_2 x2)]) ⟨hx, hb, hml, hown, hts⟩ (k_X1_daysBeforeMonth l tm tt 1 (f_X1_yearOfDay 1 x2) (f_X1_date_203_3 x2)) (va_cwS 3 hts gX1_date_X1_daysBeforeMonth rfl rfl rfl (by decide +kernel) ⟨Nat.le_of_ble_eq_true rfl, Nat.le_of_ble_eq_true rfl⟩) ⟨(fun a U g9 mk q => ⟨q.1, GE.same (s := U) (U := U.calling g9 mk a) rfl q.2⟩), fun U hU hW => ⟨rfl, hE.give hS (fun _ h => h.elim) hU hW⟩⟩ rfl rfl hl.1 rfl (lv_room (Nat.le_of_ble_eq_true rfl)) dX1_date_224 ⟨Nat.zero_le _, Nat.zero_le _⟩) (fun r hr9 => ?_)
                    obtain rfl := hr9
                    refine lv_isub hx hb dX1_date_227 ?_
                    refine W.widen (k := 1) (n := 6) (Nat.le_of_ble_eq_true rfl) (Nat.le_of_ble_eq_true rfl) ?_
                    exact vx_ret (W.iret hx hb hr (fun t ht hW => ⟨⟨_, (), rfl, (by unfold f_X1_date; rw [if_neg c_1, if_neg c_2, if_neg c_3, if_pos c_4, if_pos c_17, if_neg c_18, if_neg c_19, if_neg c_20, if_neg c_21]), trivial⟩, hS.F ht⟩) hS.2.2 dX1_date_228)
                  · refine lv_iload hx hb dX1_date_211 (lv_at hl 0 rfl) ?_
                    refine lv_goto (tgt := 228) hx hb dX1_date_213 (by decide) ?_
                    refine W.widen (k := 1) (n := 6) (Nat.le_of_ble_eq_true rfl) (Nat.le_of_ble_eq_true rfl) ?_
                    exact vx_ret (W.iret hx hb hr (fun t ht hW => ⟨⟨_, (), rfl, (by unfold f_X1_date; rw [if_neg c_1, if_neg c_2, if_neg c_3, if_pos c_4, if_pos c_17, if_neg c_18, if_neg c_19, if_neg c_20, if_pos c_21]), trivial⟩, hS.F ht⟩) hS.2.2 dX1_date_228)
                · refine lv_iload_n hx hb dX1_date_152 rfl (lv_at hl 4 rfl) ?_
                  refine lv_iconst (v := 2) hx hb dX1_date_153 (by decide) ?_
                  refine lv_icmp_ne (tgt := 175) hx hb dX1_date_154 (by decide) (fun c_22 => ?_) (fun c_22 => ?_)
                  · refine lv_iconst (v := 0) hx hb dX1_date_175 (by decide) ?_
                    refine lv_istore (lv' := [(8, .int 0), (7, .int (f_X1_date_144_2 x2)), (6, .int (f_X1_yearOfDay 1 x2)), (5, .int 1), (0, .ref q0), (1, .int x1), (2, .long x2), (4, .int x3)]) hx hb dX1_date_176 hl (by decide) rfl (fun ls hl => ?_)
                    refine lv_iload hx hb dX1_date_178 (lv_at hl 0 rfl) ?_
                    refine lv_if_eq (tgt := 191) hx hb dX1_date_180 (by decide) (fun _ => ?_) (fun c_23 => absurd c_23 (by decide))
                    refine lv_iload hx hb dX1_date_191 (lv_at hl 1 rfl) ?_
                    refine W.widen (k := 1) (n := 6) (Nat.le_of_ble_eq_true rfl) (Nat.le_of_ble_eq_true rfl) ?_
                    exact vx_ret (W.iret hx hb hr (fun t ht hW => ⟨⟨_, (), rfl, (by unfold f_X1_date; rw [if_neg c_1, if_neg c_2, if_neg c_3, if_pos c_4, if_pos c_17, if_neg c_18, if_neg c_19, if_pos c_20, if_neg c_22]), trivial⟩, hS.F ht⟩) hS.2.2 dX1_date_193)
                  · refine lv_iload hx hb dX1_date_157 (lv_at hl 2 rfl) ?_
                    refine lv_iconst (v := 1) hx hb dX1_date_159 (by decide) ?_
                    refine lv_icmp_ne (tgt := 175) hx hb dX1_date_160 (by decide) (fun c_24 => absurd c_24 (by decide)) (fun _ => ?_)
                    refine lv_iload hx hb dX1_date_163 (lv_at hl 1 rfl) ?_
                    refine lv_sipush (v := 1582) hx hb dX1_date_165 (by decide) ?_
                    refine lv_icmp_ne (tgt := 175) hx hb dX1_date_168 (by decide) (fun c_25 => ?_) (fun c_25 => ?_)
                    · refine lv_iconst (v := 0) hx hb dX1_date_175 (by decide) ?_
                      refine lv_istore (lv' := [(8, .int 0), (7, .int (f_X1_date_144_2 x2)), (6, .int (f_X1_yearOfDay 1 x2)), (5, .int 1), (0, .ref q0), (1, .int x1), (2, .long x2), (4, .int x3)]) hx hb dX1_date_176 hl (by decide) rfl (fun ls hl => ?_)
                      refine lv_iload hx hb dX1_date_178 (lv_at hl 0 rfl) ?_
                      refine lv_if_eq (tgt := 191) hx hb dX1_date_180 (by decide) (fun _ => ?_) (fun c_26 => absurd c_26 (by decide))
                      refine lv_iload hx hb dX1_date_191 (lv_at hl 1 rfl) ?_
                      refine W.widen (k := 1) (n := 6) (Nat.le_of_ble_eq_true rfl) (Nat.le_of_ble_eq_true rfl) ?_
                      exact vx_ret (W.iret hx hb hr (fun t ht hW => ⟨⟨_, (), rfl, (by unfold f_X1_date; rw [if_neg c_1, if_neg c_2, if_neg c_3, if_pos c_4, if_pos c_17, if_neg c_18, if_neg c_19, if_pos c_20, if_pos c_22, if_neg c_25]), trivial⟩, hS.F ht⟩) hS.2.2 dX1_date_193)
                    · refine lv_iconst (v := 1) hx hb dX1_date_171 (by decide) ?_
                      refine lv_goto (tgt := 176) hx hb dX1_date_172 (by decide) ?_
                      refine lv_istore (lv' := [(8, .int 1), (7, .int (f_X1_date_144_2 x2)), (6, .int (f_X1_yearOfDay 1 x2)), (5, .int 1), (0, .ref q0), (1, .int x1), (2, .long x2), (4, .int x3)]) hx hb dX1_date_176 hl (by decide) rfl (fun ls hl => ?_)
                      refine lv_iload hx hb dX1_date_178 (lv_at hl 0 rfl) ?_
                      refine lv_if_eq (tgt := 191) hx hb dX1_date_180 (by decide) (fun c_27 => absurd c_27 (by decide)) (fun _ => ?_)
                      refine lv_iload hx hb dX1_date_183 (lv_at hl 1 rfl) ?_
                      refine lv_bipush (v := 10) hx hb dX1_date_185 (by decide) ?_
                      refine lv_isub hx hb dX1_date_187 ?_
                      refine lv_goto (tgt := 193) hx hb dX1_date_188 (by decide) ?_
                      refine W.widen (k := 1) (n := 6) (Nat.le_of_ble_eq_true rfl) (Nat.le_of_ble_eq_true rfl) ?_
                      exact vx_ret (W.iret hx hb hr (fun t ht hW => ⟨⟨_, (), rfl, (by unfold f_X1_date; rw [if_neg c_1, if_neg c_2, if_neg c_3, if_pos c_4, if_pos c_17, if_neg c_18, if_neg c_19, if_pos c_20, if_pos c_22, if_pos c_25]), trivial⟩, hS.F ht⟩) hS.2.2 dX1_date_193)
              · refine lv_iload hx hb dX1_date_129 (lv_at hl 0 rfl) ?_
                refine W.widen (k := 1) (n := 6) (Nat.le_of_ble_eq_true rfl) (Nat.le_of_ble_eq_true rfl) ?_
                exact vx_ret (W.iret hx hb hr (fun t ht hW => ⟨⟨_, (), rfl, (by unfold f_X1_date; rw [if_neg c_1, if_neg c_2, if_neg c_3, if_pos c_4, if_pos c_17, if_neg c_18, if_pos c_19]), trivial⟩, hS.F ht⟩) hS.2.2 dX1_date_131)
            · obtain ⟨sa_28, hsa_28⟩ := hE.1.str (k := 91) (tx := "the year is out of range") (by decide +kernel)
              exact vx_throwS (rest := []) hx hb hst hown thc_IA thf (hts (.classLink RX1 43 xIA) (by decide +kernel)) (hts (.initialized xIA) (by decide +kernel)) hsa_28 (tha_IA hE.1 (fun w hw => hts w (List.mem_cons_of_mem _ (List.mem_append_right _ hw)))) thg_IA hE.2.1.1 hE.2.1.2 hS (by rw [hml]; exact hl.1) dX1_date_114 dX1_date_117 dX1_date_118 dX1_date_120 dX1_date_123 (fun x hx9 => (hnt x hx9).elim) (Nat.le_of_ble_eq_true rfl) (Nat.le_of_ble_eq_true rfl) (Nat.le_of_ble_eq_true rfl) (Nat.le_of_ble_eq_true rfl) hlocks (fun t hvm hz hk => ⟨(), trivial, (by unfold f_X1_date; rw [if_neg c_1, if_neg c_2, if_neg c_3, if_pos c_4, if_pos c_17, if_pos c_18]), zx_F hS hz hk⟩) hS.2.2 (Nat.le_of_ble_eq_true rfl) (Nat.le_of_ble_eq_true rfl)
          · refine lv_iconst (v := 0) hx hb dX1_date_84 (by decide) ?_
            refine lv_goto (tgt := 89) hx hb dX1_date_85 (by decide) ?_
            refine lv_istore (lv' := [(5, .int 0), (0, .ref q0), (1, .int x1), (2, .long x2), (4, .int x3)]) hx hb dX1_date_89 hl (by decide) rfl (fun ls hl => ?_)
            refine lv_iload hx hb dX1_date_91 (lv_at hl 0 rfl) ?_
            refine lv_lload_n hx hb dX1_date_93 rfl (lv_at hl 3 rfl) ?_
            refine vp_callSi (W.runS (As := [.int 0, .long x2]) (rest := []) ⟨hx, hb, hml, hown, hts⟩ (k_X1_yearOfDay l 0 x2) (va_cwS 2 hts gX1_date_X1_yearOfDay rfl rfl rfl (by decide +kernel) ⟨Nat.le_of_ble_eq_true rfl, Nat.le_of_ble_eq_true rfl⟩) preEq rfl rfl hl.1 rfl (lv_room (Nat.le_of_ble_eq_true rfl)) dX1_date_94 ⟨Nat.zero_le _, Nat.zero_le _⟩) (fun r hr9 => ?_)
            obtain rfl := hr9
            refine lv_istore (lv' := [(6, .int (f_X1_yearOfDay 0 x2)), (5, .int 0), (0, .ref q0), (1, .int x1), (2, .long x2), (4, .int x3)]) hx hb dX1_date_97 hl (by decide) rfl (fun ls hl => ?_)
            refine lv_iload hx hb dX1_date_99 (lv_at hl 0 rfl) ?_
            refine lv_i2l hx hb dX1_date_101 rfl ?_
            refine lv_ldc2 hx hb hown (hts (.constantLong RX1 50 (-1000000)) (by decide +kernel)) dX1_date_102 ?_
            refine lv_ldc2 hx hb hown (hts (.constantLong RX1 52 (1000000)) (by decide +kernel)) dX1_date_105 ?_
            refine vp_callSi (W.runS (As := [.long (Int32.toInt64 (f_X1_yearOfDay 0 x2)), .long (-1000000), .long 1000000]) (rest := []) ⟨hx, hb, hml, hown, hts⟩ (k_X1_isWholeWithin l (Int32.toInt64 (f_X1_yearOfDay 0 x2)) (-1000000) 1000000) (va_cwS 3 hts gX1_date_X1_isWholeWithin rfl rfl rfl (by decide +kernel) ⟨Nat.le_of_ble_eq_true rfl, Nat.le_of_ble_eq_true rfl⟩) preEq rfl rfl hl.1 rfl (lv_room (Nat.le_of_ble_eq_true rfl)) dX1_date_108 ⟨Nat.zero_le _, Nat.zero_le _⟩) (fun r hr9 => ?_)
            obtain rfl := hr9
            refine lv_if_ne (tgt := 124) hx hb dX1_date_111 (by decide) (fun c_29 => ?_) (fun c_29 => ?_)
            · refine lv_iload hx hb dX1_date_124 (lv_at hl 5 rfl) ?_
              refine lv_if_ne (tgt := 132) hx hb dX1_date_126 (by decide) (fun c_30 => ?_) (fun c_30 => ?_)
              · refine lv_lload_n hx hb dX1_date_132 rfl (lv_at hl 4 rfl) ?_
                refine lv_iload hx hb dX1_date_133 (lv_at hl 1 rfl) ?_
                refine lv_iload hx hb dX1_date_135 (lv_at hl 0 rfl) ?_
                refine vp_callSl (W.runS (As := [.int 0, .int (f_X1_yearOfDay 0 x2)]) (rest := [.long x2]) ⟨hx, hb, hml, hown, hts⟩ (k_X1_firstDayOfYear l 0 (f_X1_yearOfDay 0 x2)) (va_cwS 2 hts gX1_date_X1_firstDayOfYear rfl rfl rfl (by decide +kernel) ⟨Nat.le_of_ble_eq_true rfl, Nat.le_of_ble_eq_true rfl⟩) preEq rfl rfl hl.1 rfl (lv_room (Nat.le_of_ble_eq_true rfl)) dX1_date_137 ⟨Nat.zero_le _, Nat.zero_le _⟩) (fun r hr9 => ?_)
                obtain rfl := hr9
                refine lv_lsub hx hb dX1_date_140 ?_
                refine lv_l2i hx hb dX1_date_141 rfl ?_
                refine lv_iconst (v := 1) hx hb dX1_date_142 (by decide) ?_
                refine lv_iadd hx hb dX1_date_143 ?_
                refine lv_istore (lv' := [(7, .int (f_X1_date_144_4 x2)), (6, .int (f_X1_yearOfDay 0 x2)), (5, .int 0), (0, .ref q0), (1, .int x1), (2, .long x2), (4, .int x3)]) hx hb dX1_date_144 hl (by decide) rfl (fun ls hl => ?_)
                refine lv_iload hx hb dX1_date_146 (lv_at hl 6 rfl) ?_
                refine lv_iconst (v := 3) hx hb dX1_date_148 (by decide) ?_
                refine lv_icmp_ne (tgt := 194) hx hb dX1_date_149 (by decide) (fun c_31 => ?_) (fun c_31 => ?_)
                · refine lv_iload hx hb dX1_date_194 (lv_at hl 2 rfl) ?_
                  refine lv_iload hx hb dX1_date_196 (lv_at hl 1 rfl) ?_
                  refine lv_iload hx hb dX1_date_198 (lv_at hl 0 rfl) ?_
                  refine vp_callSi (W.runS (As := [.int 0, .int (f_X1_yearOfDay 0 x2), .int (f_X1_date_144_4 x2)]) (rest := []) ⟨hx, hb, hml, hown, hts⟩ (k_X1_monthOfDayWithinYear l tm tt 0 (f_X1_yearOfDay 0 x2) (f_X1_date_144_4 x2)) (va_cwS 3 hts gX1_date_X1_monthOfDayWithinYear rfl rfl rfl (by decide +kernel) ⟨Nat.le_of_ble_eq_true rfl, Nat.le_of_ble_eq_true rfl⟩) ⟨(fun a U g9 mk q => ⟨q.1, GE.same (s := U) (U := U.calling g9 mk a) rfl q.2⟩), fun U hU hW => ⟨rfl, hE.give hS (fun _ h => h.elim) hU hW⟩⟩ rfl rfl hl.1 rfl (lv_room (Nat.le_of_ble_eq_true rfl)) dX1_date_200 ⟨Nat.zero_le _, Nat.zero_le _⟩) (fun r hr9 => ?_)
                  obtain rfl := hr9
                  refine lv_istore (lv' := [(8, .int (f_X1_date_203_5 x2)), (7, .int (f_X1_date_144_4 x2)), (6, .int (f_X1_yearOfDay 0 x2)), (5, .int 0), (0, .ref q0), (1, .int x1), (2, .long x2), (4, .int x3)]) hx hb dX1_date_203 hl (by decide) rfl (fun ls hl => ?_)
                  refine lv_iload hx hb dX1_date_205 (lv_at hl 7 rfl) ?_
                  refine lv_iconst (v := 1) hx hb dX1_date_207 (by decide) ?_
                  refine lv_icmp_ne (tgt := 216) hx hb dX1_date_208 (by decide) (fun c_32 => ?_) (fun c_32 => ?_)
                  · refine lv_iload hx hb dX1_date_216 (lv_at hl 1 rfl) ?_
                    refine lv_iload hx hb dX1_date_218 (lv_at hl 3 rfl) ?_
                    refine lv_iload hx hb dX1_date_220 (lv_at hl 2 rfl) ?_
                    refine lv_iload hx hb dX1_date_222 (lv_at hl 0 rfl) ?_
                    refine vp_callSi (W.runS (As := [.int 0, .int (f_X1_yearOfDay 0 x2), .int (f_X1_date_203_5 x2)]) (rest := [.int (f_X1_date_144_4 x2)]) ⟨hx, hb, hml, hown, hts⟩ (k_X1_daysBeforeMonth l tm tt 0 (f_X1_yearOfDay 0 x2) (f_X1_date_203_5 x2)) (va_cwS 3 hts gX1_date_X1_daysBeforeMonth rfl rfl rfl (by decide +kernel) ⟨Nat.le_of_ble_eq_true rfl, Nat.le_of_ble_eq_true rfl⟩) ⟨(fun a U g9 mk q => ⟨q.1, GE.same (s := U) (U := U.calling g9 mk a) rfl q.2⟩), fun U hU hW => ⟨rfl, hE.give hS (fun _ h => h.elim) hU hW⟩⟩ rfl rfl hl.1 rfl (lv_room (Nat.le_of_ble_eq_true rfl)) dX1_date_224 ⟨Nat.zero_le _, Nat.zero_le _⟩) (fun r hr9 => ?_)
                    obtain rfl := hr9
                    refine lv_isub hx hb dX1_date_227 ?_
                    refine W.widen (k := 1) (n := 6) (Nat.le_of_ble_eq_true rfl) (Nat.le_of_ble_eq_true rfl) ?_
                    exact vx_ret (W.iret hx hb hr (fun t ht hW => ⟨⟨_, (), rfl, (by unfold f_X1_date; rw [if_neg c_1, if_neg c_2, if_neg c_3, if_pos c_4, if_neg c_17, if_neg c_29, if_neg c_30, if_neg c_31, if_neg c_32]), trivial⟩, hS.F ht⟩) hS.2.2 dX1_date_228)
                  · refine lv_iload hx hb dX1_date_211 (lv_at hl 0 rfl) ?_
                    refine lv_goto (tgt := 228) hx hb dX1_date_213 (by decide) ?_
                    refine W.widen (k := 1) (n := 6) (Nat.le_of_ble_eq_true rfl) (Nat.le_of_ble_eq_true rfl) ?_
                    exact vx_ret (W.iret hx hb hr (fun t ht hW => ⟨⟨_, (), rfl, (by unfold f_X1_date; rw [if_neg c_1, if_neg c_2, if_neg c_3, if_pos c_4, if_neg c_17, if_neg c_29, if_neg c_30, if_neg c_31, if_pos c_32]), trivial⟩, hS.F ht⟩) hS.2.2 dX1_date_228)
                · refine lv_iload_n hx hb dX1_date_152 rfl (lv_at hl 4 rfl) ?_
                  refine lv_iconst (v := 2) hx hb dX1_date_153 (by decide) ?_
                  refine lv_icmp_ne (tgt := 175) hx hb dX1_date_154 (by decide) (fun c_33 => ?_) (fun c_33 => ?_)
                  · refine lv_iconst (v := 0) hx hb dX1_date_175 (by decide) ?_
                    refine lv_istore (lv' := [(8, .int 0), (7, .int (f_X1_date_144_4 x2)), (6, .int (f_X1_yearOfDay 0 x2)), (5, .int 0), (0, .ref q0), (1, .int x1), (2, .long x2), (4, .int x3)]) hx hb dX1_date_176 hl (by decide) rfl (fun ls hl => ?_)
                    refine lv_iload hx hb dX1_date_178 (lv_at hl 0 rfl) ?_
                    refine lv_if_eq (tgt := 191) hx hb dX1_date_180 (by decide) (fun _ => ?_) (fun c_34 => absurd c_34 (by decide))
                    refine lv_iload hx hb dX1_date_191 (lv_at hl 1 rfl) ?_
                    refine W.widen (k := 1) (n := 6) (Nat.le_of_ble_eq_true rfl) (Nat.le_of_ble_eq_true rfl) ?_
                    exact vx_ret (W.iret hx hb hr (fun t ht hW => ⟨⟨_, (), rfl, (by unfold f_X1_date; rw [if_neg c_1, if_neg c_2, if_neg c_3, if_pos c_4, if_neg c_17, if_neg c_29, if_neg c_30, if_pos c_31, if_neg c_33]), trivial⟩, hS.F ht⟩) hS.2.2 dX1_date_193)
                  · refine lv_iload hx hb dX1_date_157 (lv_at hl 2 rfl) ?_
                    refine lv_iconst (v := 1) hx hb dX1_date_159 (by decide) ?_
                    refine lv_icmp_ne (tgt := 175) hx hb dX1_date_160 (by decide) (fun _ => ?_) (fun c_35 => absurd c_35 (by decide))
                    refine lv_iconst (v := 0) hx hb dX1_date_175 (by decide) ?_
                    refine lv_istore (lv' := [(8, .int 0), (7, .int (f_X1_date_144_4 x2)), (6, .int (f_X1_yearOfDay 0 x2)), (5, .int 0), (0, .ref q0), (1, .int x1), (2, .long x2), (4, .int x3)]) hx hb dX1_date_176 hl (by decide) rfl (fun ls hl => ?_)
                    refine lv_iload hx hb dX1_date_178 (lv_at hl 0 rfl) ?_
                    refine lv_if_eq (tgt := 191) hx hb dX1_date_180 (by decide) (fun _ => ?_) (fun c_36 => absurd c_36 (by decide))
                    refine lv_iload hx hb dX1_date_191 (lv_at hl 1 rfl) ?_
                    refine W.widen (k := 1) (n := 6) (Nat.le_of_ble_eq_true rfl) (Nat.le_of_ble_eq_true rfl) ?_
                    exact vx_ret (W.iret hx hb hr (fun t ht hW => ⟨⟨_, (), rfl, (by unfold f_X1_date; rw [if_neg c_1, if_neg c_2, if_neg c_3, if_pos c_4, if_neg c_17, if_neg c_29, if_neg c_30, if_pos c_31, if_pos c_33]), trivial⟩, hS.F ht⟩) hS.2.2 dX1_date_193)
              · refine lv_iload hx hb dX1_date_129 (lv_at hl 0 rfl) ?_
                refine W.widen (k := 1) (n := 6) (Nat.le_of_ble_eq_true rfl) (Nat.le_of_ble_eq_true rfl) ?_
                exact vx_ret (W.iret hx hb hr (fun t ht hW => ⟨⟨_, (), rfl, (by unfold f_X1_date; rw [if_neg c_1, if_neg c_2, if_neg c_3, if_pos c_4, if_neg c_17, if_neg c_29, if_pos c_30]), trivial⟩, hS.F ht⟩) hS.2.2 dX1_date_131)
            · obtain ⟨sa_37, hsa_37⟩ := hE.1.str (k := 91) (tx := "the year is out of range") (by decide +kernel)
              exact vx_throwS (rest := []) hx hb hst hown thc_IA thf (hts (.classLink RX1 43 xIA) (by decide +kernel)) (hts (.initialized xIA) (by decide +kernel)) hsa_37 (tha_IA hE.1 (fun w hw => hts w (List.mem_cons_of_mem _ (List.mem_append_right _ hw)))) thg_IA hE.2.1.1 hE.2.1.2 hS (by rw [hml]; exact hl.1) dX1_date_114 dX1_date_117 dX1_date_118 dX1_date_120 dX1_date_123 (fun x hx9 => (hnt x hx9).elim) (Nat.le_of_ble_eq_true rfl) (Nat.le_of_ble_eq_true rfl) (Nat.le_of_ble_eq_true rfl) (Nat.le_of_ble_eq_true rfl) hlocks (fun t hvm hz hk => ⟨(), trivial, (by unfold f_X1_date; rw [if_neg c_1, if_neg c_2, if_neg c_3, if_pos c_4, if_neg c_17, if_pos c_29]), zx_F hS hz hk⟩) hS.2.2 (Nat.le_of_ble_eq_true rfl) (Nat.le_of_ble_eq_true rfl)
      · obtain ⟨sa_38, hsa_38⟩ := hE.1.str (k := 85) (tx := "no such part of a date") (by decide +kernel)
        exact vx_throwS (rest := []) hx hb hst hown thc_IA thf (hts (.classLink RX1 43 xIA) (by decide +kernel)) (hts (.initialized xIA) (by decide +kernel)) hsa_38 (tha_IA hE.1 (fun w hw => hts w (List.mem_cons_of_mem _ (List.mem_append_right _ hw)))) thg_IA hE.2.1.1 hE.2.1.2 hS (by rw [hml]; exact hl.1) dX1_date_58 dX1_date_61 dX1_date_62 dX1_date_64 dX1_date_67 (fun x hx9 => (hnt x hx9).elim) (Nat.le_of_ble_eq_true rfl) (Nat.le_of_ble_eq_true rfl) (Nat.le_of_ble_eq_true rfl) (Nat.le_of_ble_eq_true rfl) hlocks (fun t hvm hz hk => ⟨(), trivial, (by unfold f_X1_date; rw [if_neg c_1, if_neg c_2, if_pos c_3]), zx_F hS hz hk⟩) hS.2.2 (Nat.le_of_ble_eq_true rfl) (Nat.le_of_ble_eq_true rfl)
    · obtain ⟨sa_39, hsa_39⟩ := hE.1.str (k := 81) (tx := "no such day number") (by decide +kernel)
      exact vx_throwS (rest := []) hx hb hst hown thc_IA thf (hts (.classLink RX1 43 xIA) (by decide +kernel)) (hts (.initialized xIA) (by decide +kernel)) hsa_39 (tha_IA hE.1 (fun w hw => hts w (List.mem_cons_of_mem _ (List.mem_append_right _ hw)))) thg_IA hE.2.1.1 hE.2.1.2 hS (by rw [hml]; exact hl.1) dX1_date_35 dX1_date_38 dX1_date_39 dX1_date_41 dX1_date_44 (fun x hx9 => (hnt x hx9).elim) (Nat.le_of_ble_eq_true rfl) (Nat.le_of_ble_eq_true rfl) (Nat.le_of_ble_eq_true rfl) (Nat.le_of_ble_eq_true rfl) hlocks (fun t hvm hz hk => ⟨(), trivial, (by unfold f_X1_date; rw [if_neg c_1, if_pos c_2]), zx_F hS hz hk⟩) hS.2.2 (Nat.le_of_ble_eq_true rfl) (Nat.le_of_ble_eq_true rfl)
  · obtain ⟨sa_40, hsa_40⟩ := hE.1.str (k := 45) (tx := "no such calendar") (by decide +kernel)
    exact vx_throwS (rest := []) hx hb hst hown thc_IA thf (hts (.classLink RX1 43 xIA) (by decide +kernel)) (hts (.initialized xIA) (by decide +kernel)) hsa_40 (tha_IA hE.1 (fun w hw => hts w (List.mem_cons_of_mem _ (List.mem_append_right _ hw)))) thg_IA hE.2.1.1 hE.2.1.2 hS (by rw [hml]; exact hl.1) dX1_date_12 dX1_date_15 dX1_date_16 dX1_date_18 dX1_date_21 (fun x hx9 => (hnt x hx9).elim) (Nat.le_of_ble_eq_true rfl) (Nat.le_of_ble_eq_true rfl) (Nat.le_of_ble_eq_true rfl) (Nat.le_of_ble_eq_true rfl) hlocks (fun t hvm hz hk => ⟨(), trivial, (by unfold f_X1_date; rw [if_pos c_1]), zx_F hS hz hk⟩) hS.2.2 (Nat.le_of_ble_eq_true rfl) (Nat.le_of_ble_eq_true rfl)

def f_X1_easter_63_0 (x1 : Int32) : Int32 := f_J9_floorMod_7cf53 (((((x1 / 100) - ((x1 / 100) / 4)) - (((8 * (x1 / 100)) + 13) / 25)) + (19 * (x1 - x1 / 19 * 19))) + 15) 30
def f_X1_easter_70_1 (x1 : Int32) : Int32 := (f_X1_easter_63_0 x1) / 28
def f_X1_easter_98_2 (x1 : Int32) : Int32 := (f_X1_easter_63_0 x1) - ((f_X1_easter_70_1 x1) * (1 - (((f_X1_easter_70_1 x1) * (29 / ((f_X1_easter_63_0 x1) + 1))) * ((21 - (x1 - x1 / 19 * 19)) / 11))))
def f_X1_easter_121_3 (x1 : Int32) : Int32 := f_J9_floorMod_7cf53 (((((x1 + (x1 / 4)) + (f_X1_easter_98_2 x1)) + 2) - (x1 / 100)) + ((x1 / 100) / 4)) 7
def f_X1_easter_128_4 (x1 : Int32) : Int32 := (f_X1_easter_98_2 x1) - (f_X1_easter_121_3 x1)
def f_X1_easter_145_5 (x1 : Int32) : Int64 := ((f_X1_firstDayOfYear 1 x1) + (Int32.toInt64 (f_X1_daysBeforeMonth 1 x1 3))) - 1
def f_X1_easter (x1 : Int32) : Except String Int64 := if (f_X1_isWholeWithin (Int32.toInt64 x1) 1583 9999) = 0 then (Except.error xIA) else (Except.ok (((f_X1_easter_145_5 x1) + 28) + (Int32.toInt64 (f_X1_easter_128_4 x1))))
set_option maxHeartbeats 4000000 in
set_option maxRecDepth 100000 in
theorem k_X1_easter (l : Launch) (hst : l.stackTraces = false) (tm tt sz q0 : Nat) (x1 : Int32)  : vx_Met l yX1_easter wsX1_easter ({ frames := 6, cells := 1, slots := 6, locals := 82 }) (va_Pc [.ref q0, .int x1] (fun U => U.heap.size = sz ∧ GE tm tt (va_A [] sz) U U.heap)) (va_Ql (fun r (_ : Unit) => f_X1_easter x1 = .ok r) (fun _ _ => True) (va_A [] sz)) (vx_X (fun (_ : Unit) => True) (fun E _ _ => f_X1_easter x1 = .error E) (va_A [] sz)) 1 6 (va_A [] sz) := by
  refine vx_ofW (cc := cX1_easter) (maxL := 11) (ret := (some .long)) (by decide) rfl ?_
  intro p e s m args below meth c s₁ B hml hnt hv
  obtain ⟨rfl, hsz, hE⟩ := hv
  subst hsz
  have hS : va_S (va_A [] s.heap.size) s.heap s.heap [] := va_S.rf
  have hx := B.exec
  have hb := B.bytes
  have hr := B.returns
  have hts := atoms_spec (ws := wsX1_easter) B.pre
  have hown : s.vm.findClass RX1 = some m.cls := findClass_of_methodNamed B.named
  have hlocks := B.notSynchronized
  have hl := lv_entry ([.ref q0, .int x1]) (n := 11) (Nat.le_of_ble_eq_true rfl)
  rw [lg_entry_eq]
  generalize (lg_sl ([.ref q0, .int x1]) ++ List.replicate (11 - (lg_sl ([.ref q0, .int x1])).length) Slot.unset).toArray = ls at hl ⊢
  have hl : lv_has ls 11 [(0, .ref q0), (1, .int x1)] := hl
  refine lv_iload_n hx hb dX1_easter_0 rfl (lv_at hl 1 rfl) ?_
  refine lv_i2l hx hb dX1_easter_1 rfl ?_
  refine lv_ldc2 hx hb hown (hts (.constantLong RX1 96 (1583)) (by decide +kernel)) dX1_easter_2 ?_
  refine lv_ldc2 hx hb hown (hts (.constantLong RX1 98 (9999)) (by decide +kernel)) dX1_easter_5 ?_
  refine vp_callSi (W.runS (As := [.long (Int32.toInt64 x1), .long 1583, .long 9999]) (rest := []) ⟨hx, hb, hml, hown, hts⟩ (k_X1_isWholeWithin l (Int32.toInt64 x1) 1583 9999) (va_cwS 3 hts gX1_easter_X1_isWholeWithin rfl rfl rfl (by decide +kernel) ⟨Nat.le_of_ble_eq_true rfl, Nat.le_of_ble_eq_true rfl⟩) preEq rfl rfl hl.1 rfl (lv_room (Nat.le_of_ble_eq_true rfl)) dX1_easter_8 ⟨Nat.zero_le _, Nat.zero_le _⟩) (fun r hr9 => ?_)
  obtain rfl := hr9
  refine lv_if_ne (tgt := 24) hx hb dX1_easter_11 (by decide) (fun c_1 => ?_) (fun c_1 => ?_)
  · refine lv_iload_n hx hb dX1_easter_24 rfl (lv_at hl 1 rfl) ?_
    refine lv_bipush (v := 19) hx hb dX1_easter_25 (by decide) ?_
    refine lv_irem hx hb dX1_easter_27 (by decide) ?_
    refine lv_istore_n (lv' := [(2, .int (x1 - x1 / 19 * 19)), (0, .ref q0), (1, .int x1)]) hx hb dX1_easter_28 rfl hl (by decide) rfl (fun ls hl => ?_)
    refine lv_iload_n hx hb dX1_easter_29 rfl (lv_at hl 2 rfl) ?_
    refine lv_bipush (v := 100) hx hb dX1_easter_30 (by decide) ?_
    refine lv_idiv hx hb dX1_easter_32 (by decide) ?_
    refine lv_istore_n (lv' := [(3, .int (x1 / 100)), (2, .int (x1 - x1 / 19 * 19)), (0, .ref q0), (1, .int x1)]) hx hb dX1_easter_33 rfl hl (by decide) rfl (fun ls hl => ?_)
    refine lv_iload_n hx hb dX1_easter_34 rfl (lv_at hl 0 rfl) ?_
    refine lv_iload_n hx hb dX1_easter_35 rfl (lv_at hl 0 rfl) ?_
    refine lv_iconst (v := 4) hx hb dX1_easter_36 (by decide) ?_
    refine lv_idiv hx hb dX1_easter_37 (by decide) ?_
    refine lv_isub hx hb dX1_easter_38 ?_
    refine lv_bipush (v := 8) hx hb dX1_easter_39 (by decide) ?_
    refine lv_iload_n hx hb dX1_easter_41 rfl (lv_at hl 0 rfl) ?_
    refine lv_imul hx hb dX1_easter_42 ?_
    refine lv_bipush (v := 13) hx hb dX1_easter_43 (by decide) ?_
    refine lv_iadd hx hb dX1_easter_45 ?_
    refine lv_bipush (v := 25) hx hb dX1_easter_46 (by decide) ?_
    refine lv_idiv hx hb dX1_easter_48 (by decide) ?_
    refine lv_isub hx hb dX1_easter_49 ?_
    refine lv_bipush (v := 19) hx hb dX1_easter_50 (by decide) ?_
    refine lv_iload_n hx hb dX1_easter_52 rfl (lv_at hl 1 rfl) ?_
    refine lv_imul hx hb dX1_easter_53 ?_
    refine lv_iadd hx hb dX1_easter_54 ?_
    refine lv_bipush (v := 15) hx hb dX1_easter_55 (by decide) ?_
    refine lv_iadd hx hb dX1_easter_57 ?_
    refine lv_bipush (v := 30) hx hb dX1_easter_58 (by decide) ?_
    refine vp_callSi (W.runS (As := [.int (((((x1 / 100) - ((x1 / 100) / 4)) - (((8 * (x1 / 100)) + 13) / 25)) + (19 * (x1 - x1 / 19 * 19))) + 15), .int 30]) (rest := []) ⟨hx, hb, hml, hown, hts⟩ (k_J9_floorMod_7cf53 l (((((x1 / 100) - ((x1 / 100) / 4)) - (((8 * (x1 / 100)) + 13) / 25)) + (19 * (x1 - x1 / 19 * 19))) + 15) 30 (by decide)) (va_cwS 2 hts gX1_easter_J9_floorMod_7cf53 rfl rfl rfl (by decide +kernel) ⟨Nat.le_of_ble_eq_true rfl, Nat.le_of_ble_eq_true rfl⟩) preEq rfl rfl hl.1 rfl (lv_room (Nat.le_of_ble_eq_true rfl)) dX1_easter_60 ⟨Nat.zero_le _, Nat.zero_le _⟩) (fun r hr9 => ?_)
    obtain rfl := hr9
    refine lv_istore (lv' := [(4, .int (f_X1_easter_63_0 x1)), (3, .int (x1 / 100)), (2, .int (x1 - x1 / 19 * 19)), (0, .ref q0), (1, .int x1)]) hx hb dX1_easter_63 hl (by decide) rfl (fun ls hl => ?_)
    refine lv_iload hx hb dX1_easter_65 (lv_at hl 0 rfl) ?_
    refine lv_bipush (v := 28) hx hb dX1_easter_67 (by decide) ?_
    refine lv_idiv hx hb dX1_easter_69 (by decide) ?_
    refine lv_istore (lv' := [(5, .int (f_X1_easter_70_1 x1)), (4, .int (f_X1_easter_63_0 x1)), (3, .int (x1 / 100)), (2, .int (x1 - x1 / 19 * 19)), (0, .ref q0), (1, .int x1)]) hx hb dX1_easter_70 hl (by decide) rfl (fun ls hl => ?_)
    refine lv_iload hx hb dX1_easter_72 (lv_at hl 1 rfl) ?_
    refine lv_iload hx hb dX1_easter_74 (lv_at hl 0 rfl) ?_
    refine lv_iconst (v := 1) hx hb dX1_easter_76 (by decide) ?_
    refine lv_iload hx hb dX1_easter_77 (lv_at hl 0 rfl) ?_
    refine lv_bipush (v := 29) hx hb dX1_easter_79 (by decide) ?_
    refine lv_iload hx hb dX1_easter_81 (lv_at hl 1 rfl) ?_
    refine lv_iconst (v := 1) hx hb dX1_easter_83 (by decide) ?_
    refine lv_iadd hx hb dX1_easter_84 ?_
    refine lv_idiv hx hb dX1_easter_85 (es_ne _) ?_
    refine lv_imul hx hb dX1_easter_86 ?_
    refine lv_bipush (v := 21) hx hb dX1_easter_87 (by decide) ?_
    refine lv_iload_n hx hb dX1_easter_89 rfl (lv_at hl 3 rfl) ?_
    refine lv_isub hx hb dX1_easter_90 ?_
    refine lv_bipush (v := 11) hx hb dX1_easter_91 (by decide) ?_
    refine lv_idiv hx hb dX1_easter_93 (by decide) ?_
    refine lv_imul hx hb dX1_easter_94 ?_
    refine lv_isub hx hb dX1_easter_95 ?_
    refine lv_imul hx hb dX1_easter_96 ?_
    refine lv_isub hx hb dX1_easter_97 ?_
    refine lv_istore (lv' := [(6, .int (f_X1_easter_98_2 x1)), (5, .int (f_X1_easter_70_1 x1)), (4, .int (f_X1_easter_63_0 x1)), (3, .int (x1 / 100)), (2, .int (x1 - x1 / 19 * 19)), (0, .ref q0), (1, .int x1)]) hx hb dX1_easter_98 hl (by decide) rfl (fun ls hl => ?_)
    refine lv_iload_n hx hb dX1_easter_100 rfl (lv_at hl 6 rfl) ?_
    refine lv_iload_n hx hb dX1_easter_101 rfl (lv_at hl 6 rfl) ?_
    refine lv_iconst (v := 4) hx hb dX1_easter_102 (by decide) ?_
    refine lv_idiv hx hb dX1_easter_103 (by decide) ?_
    refine lv_iadd hx hb dX1_easter_104 ?_
    refine lv_iload hx hb dX1_easter_105 (lv_at hl 0 rfl) ?_
    refine lv_iadd hx hb dX1_easter_107 ?_
    refine lv_iconst (v := 2) hx hb dX1_easter_108 (by decide) ?_
    refine lv_iadd hx hb dX1_easter_109 ?_
    refine lv_iload_n hx hb dX1_easter_110 rfl (lv_at hl 3 rfl) ?_
    refine lv_isub hx hb dX1_easter_111 ?_
    refine lv_iload_n hx hb dX1_easter_112 rfl (lv_at hl 3 rfl) ?_
    refine lv_iconst (v := 4) hx hb dX1_easter_113 (by decide) ?_
    refine lv_idiv hx hb dX1_easter_114 (by decide) ?_
    refine lv_iadd hx hb dX1_easter_115 ?_
    refine lv_bipush (v := 7) hx hb dX1_easter_116 (by decide) ?_
    refine vp_callSi (W.runS (As := [.int (((((x1 + (x1 / 4)) + (f_X1_easter_98_2 x1)) + 2) - (x1 / 100)) + ((x1 / 100) / 4)), .int 7]) (rest := []) ⟨hx, hb, hml, hown, hts⟩ (k_J9_floorMod_7cf53 l (((((x1 + (x1 / 4)) + (f_X1_easter_98_2 x1)) + 2) - (x1 / 100)) + ((x1 / 100) / 4)) 7 (by decide)) (va_cwS 2 hts gX1_easter_J9_floorMod_7cf53 rfl rfl rfl (by decide +kernel) ⟨Nat.le_of_ble_eq_true rfl, Nat.le_of_ble_eq_true rfl⟩) preEq rfl rfl hl.1 rfl (lv_room (Nat.le_of_ble_eq_true rfl)) dX1_easter_118 ⟨Nat.zero_le _, Nat.zero_le _⟩) (fun r hr9 => ?_)
    obtain rfl := hr9
    refine lv_istore (lv' := [(7, .int (f_X1_easter_121_3 x1)), (6, .int (f_X1_easter_98_2 x1)), (5, .int (f_X1_easter_70_1 x1)), (4, .int (f_X1_easter_63_0 x1)), (3, .int (x1 / 100)), (2, .int (x1 - x1 / 19 * 19)), (0, .ref q0), (1, .int x1)]) hx hb dX1_easter_121 hl (by decide) rfl (fun ls hl => ?_)
    refine lv_iload hx hb dX1_easter_123 (lv_at hl 1 rfl) ?_
    refine lv_iload hx hb dX1_easter_125 (lv_at hl 0 rfl) ?_
    refine lv_isub hx hb dX1_easter_127 ?_
    refine lv_istore (lv' := [(8, .int (f_X1_easter_128_4 x1)), (7, .int (f_X1_easter_121_3 x1)), (6, .int (f_X1_easter_98_2 x1)), (5, .int (f_X1_easter_70_1 x1)), (4, .int (f_X1_easter_63_0 x1)), (3, .int (x1 / 100)), (2, .int (x1 - x1 / 19 * 19)), (0, .ref q0), (1, .int x1)]) hx hb dX1_easter_128 hl (by decide) rfl (fun ls hl => ?_)
    refine lv_iconst (v := 1) hx hb dX1_easter_130 (by decide) ?_
    refine lv_iload_n hx hb dX1_easter_131 rfl (lv_at hl 8 rfl) ?_
    refine vp_callSl (W.runS (As := [.int 1, .int x1]) (rest := []) ⟨hx, hb, hml, hown, hts⟩ (k_X1_firstDayOfYear l 1 x1) (va_cwS 2 hts gX1_easter_X1_firstDayOfYear rfl rfl rfl (by decide +kernel) ⟨Nat.le_of_ble_eq_true rfl, Nat.le_of_ble_eq_true rfl⟩) preEq rfl rfl hl.1 rfl (lv_room (Nat.le_of_ble_eq_true rfl)) dX1_easter_132 ⟨Nat.zero_le _, Nat.zero_le _⟩) (fun r hr9 => ?_)
    obtain rfl := hr9
    refine lv_iconst (v := 1) hx hb dX1_easter_135 (by decide) ?_
    refine lv_iload_n hx hb dX1_easter_136 rfl (lv_at hl 8 rfl) ?_
    refine lv_iconst (v := 3) hx hb dX1_easter_137 (by decide) ?_
    refine vp_callSi (W.runS (As := [.int 1, .int x1, .int 3]) (rest := [.long (f_X1_firstDayOfYear 1 x1)]) ⟨hx, hb, hml, hown, hts⟩ (k_X1_daysBeforeMonth l tm tt 1 x1 3) (va_cwS 3 hts gX1_easter_X1_daysBeforeMonth rfl rfl rfl (by decide +kernel) ⟨Nat.le_of_ble_eq_true rfl, Nat.le_of_ble_eq_true rfl⟩) ⟨(fun a U g9 mk q => ⟨q.1, GE.same (s := U) (U := U.calling g9 mk a) rfl q.2⟩), fun U hU hW => ⟨rfl, hE.give hS (fun _ h => h.elim) hU hW⟩⟩ rfl rfl hl.1 rfl (lv_room (Nat.le_of_ble_eq_true rfl)) dX1_easter_138 ⟨Nat.zero_le _, Nat.zero_le _⟩) (fun r hr9 => ?_)
    obtain rfl := hr9
    refine lv_i2l hx hb dX1_easter_141 rfl ?_
    refine lv_ladd hx hb dX1_easter_142 ?_
    refine lv_lconst (v := 1) hx hb dX1_easter_143 (by decide) ?_
    refine lv_lsub hx hb dX1_easter_144 ?_
    refine lv_lstore (lv' := [(9, .long (f_X1_easter_145_5 x1)), (8, .int (f_X1_easter_128_4 x1)), (7, .int (f_X1_easter_121_3 x1)), (6, .int (f_X1_easter_98_2 x1)), (5, .int (f_X1_easter_70_1 x1)), (4, .int (f_X1_easter_63_0 x1)), (3, .int (x1 / 100)), (2, .int (x1 - x1 / 19 * 19)), (0, .ref q0), (1, .int x1)]) hx hb dX1_easter_145 hl (by decide) rfl (fun ls hl => ?_)
    refine lv_lload hx hb dX1_easter_147 (lv_at hl 0 rfl) ?_
    refine lv_ldc2 hx hb hown (hts (.constantLong RX1 108 (28)) (by decide +kernel)) dX1_easter_149 ?_
    refine lv_ladd hx hb dX1_easter_152 ?_
    refine lv_iload hx hb dX1_easter_153 (lv_at hl 1 rfl) ?_
    refine lv_i2l hx hb dX1_easter_155 rfl ?_
    refine lv_ladd hx hb dX1_easter_156 ?_
    refine W.widen (k := 1) (n := 6) (Nat.le_of_ble_eq_true rfl) (Nat.le_of_ble_eq_true rfl) ?_
    exact vx_ret (W.lret hx hb hr (fun t ht hW => ⟨⟨_, (), rfl, (by unfold f_X1_easter; rw [if_neg c_1]), trivial⟩, hS.F ht⟩) hS.2.2 dX1_easter_157)
  · obtain ⟨sa_2, hsa_2⟩ := hE.1.str (k := 100) (tx := "no Easter is told for this year") (by decide +kernel)
    exact vx_throwS (rest := []) hx hb hst hown thc_IA thf (hts (.classLink RX1 43 xIA) (by decide +kernel)) (hts (.initialized xIA) (by decide +kernel)) hsa_2 (tha_IA hE.1 (fun w hw => hts w (List.mem_cons_of_mem _ (List.mem_append_right _ hw)))) thg_IA hE.2.1.1 hE.2.1.2 hS (by rw [hml]; exact hl.1) dX1_easter_14 dX1_easter_17 dX1_easter_18 dX1_easter_20 dX1_easter_23 (fun x hx9 => (hnt x hx9).elim) (Nat.le_of_ble_eq_true rfl) (Nat.le_of_ble_eq_true rfl) (Nat.le_of_ble_eq_true rfl) (Nat.le_of_ble_eq_true rfl) hlocks (fun t hvm hz hk => ⟨(), trivial, (by unfold f_X1_easter; rw [if_pos c_1]), zx_F hS hz hk⟩) hS.2.2 (Nat.le_of_ble_eq_true rfl) (Nat.le_of_ble_eq_true rfl)

theorem tm_R {x : UInt64} {a b : Int} (h : fR x a b) (h1 : ¬ f_X1_isTime x = 0) : fR x (-1073741824000000) 1073741824000000 := by
  unfold f_X1_isTime f_X1_isWithin at h1
  have r1 : fR 13920209183539462144 (-1073741824000000) (-1073741824000000) := fR_lit (by decide +kernel)
  have r2 : fR 4696837146684686336 1073741824000000 1073741824000000 := fR_lit (by decide +kernel)
  by_cases c1 : dge x 13920209183539462144
  · rw [if_pos c1] at h1
    by_cases c2 : dle x 4696837146684686336
    · obtain ⟨-, -, e1⟩ := FP.Core.dcmp_ge.mp c1
      obtain ⟨-, -, e2⟩ := FP.Core.dcmp_le.mp c2
      exact ⟨h.1, Int.le_trans r1.2.1 e1, Int.le_trans e2 r2.2.2⟩
    · rw [if_neg c2] at h1; exact absurd rfl h1
  · rw [if_neg c1] at h1; exact absurd rfl h1
def f_X1_sidereal (x1 : UInt64) : Except String UInt64 := if (f_X1_isTime x1) = 0 then (Except.error xIA) else (Except.ok (SID x1))
set_option maxHeartbeats 4000000 in
set_option maxRecDepth 100000 in
theorem k_X1_sidereal (l : Launch) (hst : l.stackTraces = false) (tm tt sz q0 : Nat) (x1 : UInt64) (h0 : fR x1 (-288230376151711744) 288230376151711744) : vx_Met l yX1_sidereal wsX1_sidereal ({ frames := 6, cells := 1, slots := 6, locals := 82 }) (va_Pc [.ref q0, .double x1] (fun U => U.heap.size = sz ∧ GE tm tt (va_A [] sz) U U.heap)) (va_Qd (fun r (_ : Unit) => f_X1_sidereal x1 = .ok r) (fun _ _ => True) (va_A [] sz)) (vx_X (fun (_ : Unit) => True) (fun E _ _ => f_X1_sidereal x1 = .error E) (va_A [] sz)) 1 6 (va_A [] sz) := by
  refine vx_ofW (cc := cX1_sidereal) (maxL := 3) (ret := (some .double)) (by decide) rfl ?_
  intro p e s m args below meth c s₁ B hml hnt hv
  obtain ⟨rfl, hsz, hE⟩ := hv
  subst hsz
  have hS : va_S (va_A [] s.heap.size) s.heap s.heap [] := va_S.rf
  have hx := B.exec
  have hb := B.bytes
  have hr := B.returns
  have hts := atoms_spec (ws := wsX1_sidereal) B.pre
  have hown : s.vm.findClass RX1 = some m.cls := findClass_of_methodNamed B.named
  have hlocks := B.notSynchronized
  have hl := lv_entry ([.ref q0, .double x1]) (n := 3) (Nat.le_of_ble_eq_true rfl)
  rw [lg_entry_eq]
  generalize (lg_sl ([.ref q0, .double x1]) ++ List.replicate (3 - (lg_sl ([.ref q0, .double x1])).length) Slot.unset).toArray = ls at hl ⊢
  have hl : lv_has ls 3 [(0, .ref q0), (1, .double x1)] := hl
  refine lv_dload_n hx hb dX1_sidereal_0 rfl (lv_at hl 1 rfl) ?_
  refine vp_callSi (W.runS (As := [.double x1]) (rest := []) ⟨hx, hb, hml, hown, hts⟩ (k_X1_isTime l x1) (va_cwS 1 hts gX1_sidereal_X1_isTime rfl rfl rfl (by decide +kernel) ⟨Nat.le_of_ble_eq_true rfl, Nat.le_of_ble_eq_true rfl⟩) preEq rfl rfl hl.1 rfl (lv_room (Nat.le_of_ble_eq_true rfl)) dX1_sidereal_1 ⟨Nat.zero_le _, Nat.zero_le _⟩) (fun r hr9 => ?_)
  obtain rfl := hr9
  refine lv_if_ne (tgt := 17) hx hb dX1_sidereal_4 (by decide) (fun c_1 => ?_) (fun c_1 => ?_)
  · refine lv_dload_n hx hb dX1_sidereal_17 rfl (lv_at hl 1 rfl) ?_
    have r_2 := tm_R h0 c_1
    refine vp_callSd (W.runS (As := [.double x1]) (rest := []) ⟨hx, hb, hml, hown, hts⟩ (k_X1_siderealAngle l x1 (fR_mono r_2 (by decide) (by decide))) (va_cwS 1 hts gX1_sidereal_X1_siderealAngle rfl rfl rfl (by decide +kernel) ⟨Nat.le_of_ble_eq_true rfl, Nat.le_of_ble_eq_true rfl⟩) preEq rfl rfl hl.1 rfl (lv_room (Nat.le_of_ble_eq_true rfl)) dX1_sidereal_18 ⟨Nat.zero_le _, Nat.zero_le _⟩) (fun r hr9 => ?_)
    obtain rfl := hr9
    have r_3 := SID_R (fR_mono r_2 (by decide) (by decide))
    refine W.widen (k := 1) (n := 6) (Nat.le_of_ble_eq_true rfl) (Nat.le_of_ble_eq_true rfl) ?_
    exact vx_ret (W.dret hx hb hr (fun t ht hW => ⟨⟨_, (), rfl, (by unfold f_X1_sidereal; rw [if_neg c_1]), trivial⟩, hS.F ht⟩) hS.2.2 dX1_sidereal_21)
  · obtain ⟨sa_4, hsa_4⟩ := hE.1.str (k := 223) (tx := "the time is out of range") (by decide +kernel)
    exact vx_throwS (rest := []) hx hb hst hown thc_IA thf (hts (.classLink RX1 43 xIA) (by decide +kernel)) (hts (.initialized xIA) (by decide +kernel)) hsa_4 (tha_IA hE.1 (fun w hw => hts w (List.mem_cons_of_mem _ (List.mem_append_right _ hw)))) thg_IA hE.2.1.1 hE.2.1.2 hS (by rw [hml]; exact hl.1) dX1_sidereal_7 dX1_sidereal_10 dX1_sidereal_11 dX1_sidereal_13 dX1_sidereal_16 (fun x hx9 => (hnt x hx9).elim) (Nat.le_of_ble_eq_true rfl) (Nat.le_of_ble_eq_true rfl) (Nat.le_of_ble_eq_true rfl) (Nat.le_of_ble_eq_true rfl) hlocks (fun t hvm hz hk => ⟨(), trivial, (by unfold f_X1_sidereal; rw [if_pos c_1]), zx_F hS hz hk⟩) hS.2.2 (Nat.le_of_ble_eq_true rfl) (Nat.le_of_ble_eq_true rfl)

theorem i2d_R (n : Int32) : fR (FP.i2d n) (-2305843009213693952) 2305843009213693952 := by
  have h1 := n.le_toInt
  have h2 := n.toInt_lt
  exact fR_mono (fR_i2d n (lo := -2147483648) (hi := 2147483648) (by omega) (by omega)) (by decide) (by decide)
def f_X1_angle (x1 : Int32) (x2 : Int32) (x3 : Int32) (x4 : UInt64) : Except String UInt64 := if x1 = 1 then (if (f_X1_isWholeWithin (Int32.toInt64 x2) 0 360) = 0 then (Except.error xIA) else (if (f_X1_isWholeWithin (Int32.toInt64 x3) 0 59) = 0 then (Except.error xIA) else (if dge x4 FP.dconst0 then (if dlt x4 4633641066610819072 then (Except.ok (FP.dmul (FP.i2d x1) (FP.dadd (FP.dadd (FP.i2d x2) (FP.ddiv (FP.i2d x3) 4633641066610819072)) (FP.ddiv x4 4660134898793709568)))) else (Except.error xIA)) else (Except.error xIA)))) else (if x1 = (-1) then (if (f_X1_isWholeWithin (Int32.toInt64 x2) 0 360) = 0 then (Except.error xIA) else (if (f_X1_isWholeWithin (Int32.toInt64 x3) 0 59) = 0 then (Except.error xIA) else (if dge x4 FP.dconst0 then (if dlt x4 4633641066610819072 then (Except.ok (FP.dmul (FP.i2d x1) (FP.dadd (FP.dadd (FP.i2d x2) (FP.ddiv (FP.i2d x3) 4633641066610819072)) (FP.ddiv x4 4660134898793709568)))) else (Except.error xIA)) else (Except.error xIA)))) else (Except.error xIA))
set_option maxHeartbeats 4000000 in
set_option maxRecDepth 100000 in
theorem k_X1_angle (l : Launch) (hst : l.stackTraces = false) (tm tt sz q0 : Nat) (x1 : Int32) (x2 : Int32) (x3 : Int32) (x4 : UInt64) (h0 : fR x4 (-288230376151711744) 288230376151711744) : vx_Met l yX1_angle wsX1_angle ({ frames := 6, cells := 1, slots := 6, locals := 82 }) (va_Pc [.ref q0, .int x1, .int x2, .int x3, .double x4] (fun U => U.heap.size = sz ∧ GE tm tt (va_A [] sz) U U.heap)) (va_Qd (fun r (_ : Unit) => f_X1_angle x1 x2 x3 x4 = .ok r) (fun _ _ => True) (va_A [] sz)) (vx_X (fun (_ : Unit) => True) (fun E _ _ => f_X1_angle x1 x2 x3 x4 = .error E) (va_A [] sz)) 1 6 (va_A [] sz) := by
  refine vx_ofW (cc := cX1_angle) (maxL := 6) (ret := (some .double)) (by decide) rfl ?_
  intro p e s m args below meth c s₁ B hml hnt hv
  obtain ⟨rfl, hsz, hE⟩ := hv
  subst hsz
  have hS : va_S (va_A [] s.heap.size) s.heap s.heap [] := va_S.rf
  have hx := B.exec
  have hb := B.bytes
  have hr := B.returns
  have hts := atoms_spec (ws := wsX1_angle) B.pre
  have hown : s.vm.findClass RX1 = some m.cls := findClass_of_methodNamed B.named
  have hlocks := B.notSynchronized
  have hl := lv_entry ([.ref q0, .int x1, .int x2, .int x3, .double x4]) (n := 6) (Nat.le_of_ble_eq_true rfl)
  rw [lg_entry_eq]
  generalize (lg_sl ([.ref q0, .int x1, .int x2, .int x3, .double x4]) ++ List.replicate (6 - (lg_sl ([.ref q0, .int x1, .int x2, .int x3, .double x4])).length) Slot.unset).toArray = ls at hl ⊢
  have hl : lv_has ls 6 [(0, .ref q0), (1, .int x1), (2, .int x2), (3, .int x3), (4, .double x4)] := hl
  refine lv_iload_n hx hb dX1_angle_0 rfl (lv_at hl 1 rfl) ?_
  refine lv_iconst (v := 1) hx hb dX1_angle_1 (by decide) ?_
  refine lv_icmp_eq (tgt := 21) hx hb dX1_angle_2 (by decide) (fun c_1 => ?_) (fun c_1 => ?_)
  · refine lv_iload_n hx hb dX1_angle_21 rfl (lv_at hl 2 rfl) ?_
    refine lv_i2l hx hb dX1_angle_22 rfl ?_
    refine lv_lconst (v := 0) hx hb dX1_angle_23 (by decide) ?_
    refine lv_ldc2 hx hb hown (hts (.constantLong RX1 345 (360)) (by decide +kernel)) dX1_angle_24 ?_
    refine vp_callSi (W.runS (As := [.long (Int32.toInt64 x2), .long 0, .long 360]) (rest := []) ⟨hx, hb, hml, hown, hts⟩ (k_X1_isWholeWithin l (Int32.toInt64 x2) 0 360) (va_cwS 3 hts gX1_angle_X1_isWholeWithin rfl rfl rfl (by decide +kernel) ⟨Nat.le_of_ble_eq_true rfl, Nat.le_of_ble_eq_true rfl⟩) preEq rfl rfl hl.1 rfl (lv_room (Nat.le_of_ble_eq_true rfl)) dX1_angle_27 ⟨Nat.zero_le _, Nat.zero_le _⟩) (fun r hr9 => ?_)
    obtain rfl := hr9
    refine lv_if_eq (tgt := 61) hx hb dX1_angle_30 (by decide) (fun c_2 => ?_) (fun c_2 => ?_)
    · obtain ⟨sa_3, hsa_3⟩ := hE.1.str (k := 351) (tx := "no such angle") (by decide +kernel)
      exact vx_throwSW (rest := []) hx hb hst hown thc_IA thf (hts (.classLink RX1 43 xIA) (by decide +kernel)) (hts (.initialized xIA) (by decide +kernel)) hsa_3 (tha_IA hE.1 (fun w hw => hts w (List.mem_cons_of_mem _ (List.mem_append_right _ hw)))) thg_IA hE.2.1.1 hE.2.1.2 hS (by rw [hml]; exact hl.1) dX1_angle_61 dX1_angle_64 dX1_angle_65 dX1_angle_68 dX1_angle_71 (fun x hx9 => (hnt x hx9).elim) (Nat.le_of_ble_eq_true rfl) (Nat.le_of_ble_eq_true rfl) (Nat.le_of_ble_eq_true rfl) (Nat.le_of_ble_eq_true rfl) hlocks (fun t hvm hz hk => ⟨(), trivial, (by unfold f_X1_angle; rw [if_pos c_1, if_pos c_2]), zx_F hS hz hk⟩) hS.2.2 (Nat.le_of_ble_eq_true rfl) (Nat.le_of_ble_eq_true rfl)
    · refine lv_iload_n hx hb dX1_angle_33 rfl (lv_at hl 3 rfl) ?_
      refine lv_i2l hx hb dX1_angle_34 rfl ?_
      refine lv_lconst (v := 0) hx hb dX1_angle_35 (by decide) ?_
      refine lv_ldc2 hx hb hown (hts (.constantLong RX1 347 (59)) (by decide +kernel)) dX1_angle_36 ?_
      refine vp_callSi (W.runS (As := [.long (Int32.toInt64 x3), .long 0, .long 59]) (rest := []) ⟨hx, hb, hml, hown, hts⟩ (k_X1_isWholeWithin l (Int32.toInt64 x3) 0 59) (va_cwS 3 hts gX1_angle_X1_isWholeWithin rfl rfl rfl (by decide +kernel) ⟨Nat.le_of_ble_eq_true rfl, Nat.le_of_ble_eq_true rfl⟩) preEq rfl rfl hl.1 rfl (lv_room (Nat.le_of_ble_eq_true rfl)) dX1_angle_39 ⟨Nat.zero_le _, Nat.zero_le _⟩) (fun r hr9 => ?_)
      obtain rfl := hr9
      refine lv_if_eq (tgt := 61) hx hb dX1_angle_42 (by decide) (fun c_4 => ?_) (fun c_4 => ?_)
      · obtain ⟨sa_5, hsa_5⟩ := hE.1.str (k := 351) (tx := "no such angle") (by decide +kernel)
        exact vx_throwSW (rest := []) hx hb hst hown thc_IA thf (hts (.classLink RX1 43 xIA) (by decide +kernel)) (hts (.initialized xIA) (by decide +kernel)) hsa_5 (tha_IA hE.1 (fun w hw => hts w (List.mem_cons_of_mem _ (List.mem_append_right _ hw)))) thg_IA hE.2.1.1 hE.2.1.2 hS (by rw [hml]; exact hl.1) dX1_angle_61 dX1_angle_64 dX1_angle_65 dX1_angle_68 dX1_angle_71 (fun x hx9 => (hnt x hx9).elim) (Nat.le_of_ble_eq_true rfl) (Nat.le_of_ble_eq_true rfl) (Nat.le_of_ble_eq_true rfl) (Nat.le_of_ble_eq_true rfl) hlocks (fun t hvm hz hk => ⟨(), trivial, (by unfold f_X1_angle; rw [if_pos c_1, if_neg c_2, if_pos c_4]), zx_F hS hz hk⟩) hS.2.2 (Nat.le_of_ble_eq_true rfl) (Nat.le_of_ble_eq_true rfl)
      · refine lv_dload hx hb dX1_angle_45 (lv_at hl 4 rfl) ?_
        refine lv_dconst0 hx hb dX1_angle_47 ?_
        have r_6 : fR FP.dconst0 0 0 := fR_lit (by decide +kernel)
        refine zd_l_lt (tgt := 61) hx hb dX1_angle_48 dX1_angle_49 (by decide) (fun c_7 => ?_) (fun c_7 => ?_)
        · obtain ⟨sa_8, hsa_8⟩ := hE.1.str (k := 351) (tx := "no such angle") (by decide +kernel)
          exact vx_throwSW (rest := []) hx hb hst hown thc_IA thf (hts (.classLink RX1 43 xIA) (by decide +kernel)) (hts (.initialized xIA) (by decide +kernel)) hsa_8 (tha_IA hE.1 (fun w hw => hts w (List.mem_cons_of_mem _ (List.mem_append_right _ hw)))) thg_IA hE.2.1.1 hE.2.1.2 hS (by rw [hml]; exact hl.1) dX1_angle_61 dX1_angle_64 dX1_angle_65 dX1_angle_68 dX1_angle_71 (fun x hx9 => (hnt x hx9).elim) (Nat.le_of_ble_eq_true rfl) (Nat.le_of_ble_eq_true rfl) (Nat.le_of_ble_eq_true rfl) (Nat.le_of_ble_eq_true rfl) hlocks (fun t hvm hz hk => ⟨(), trivial, (by unfold f_X1_angle; rw [if_pos c_1, if_neg c_2, if_neg c_4, if_neg c_7]), zx_F hS hz hk⟩) hS.2.2 (Nat.le_of_ble_eq_true rfl) (Nat.le_of_ble_eq_true rfl)
        · refine lv_dload hx hb dX1_angle_52 (lv_at hl 4 rfl) ?_
          refine lv_ldc2d hx hb hown (hts (.constantDouble RX1 349 (4633641066610819072)) (by decide +kernel)) dX1_angle_54 ?_
          have r_9 : fR 4633641066610819072 64424509440 64424509440 := fR_lit (by decide +kernel)
          refine zd_g_lt (tgt := 72) hx hb dX1_angle_57 dX1_angle_58 (by decide) (fun c_10 => ?_) (fun c_10 => ?_)
          · refine lv_iload_n hx hb dX1_angle_72 rfl (lv_at hl 1 rfl) ?_
            have r_11 : fR (FP.i2d x1) (-1073741824) 1073741824 := fR_mono (fR_i2d x1 (lo := -1) (hi := 1) (by rw [c_1]; decide) (by rw [c_1]; decide)) (by decide) (by decide)
            refine lv_i2d hx hb dX1_angle_73 ?_
            refine lv_iload_n hx hb dX1_angle_74 rfl (lv_at hl 2 rfl) ?_
            refine lv_i2d hx hb dX1_angle_75 ?_
            refine lv_iload_n hx hb dX1_angle_76 rfl (lv_at hl 3 rfl) ?_
            refine lv_i2d hx hb dX1_angle_77 ?_
            refine lv_ldc2d hx hb hown (hts (.constantDouble RX1 349 (4633641066610819072)) (by decide +kernel)) dX1_angle_78 ?_
            have r_12 : fR 4633641066610819072 64424509440 64424509440 := fR_lit (by decide +kernel)
            have r_13 := fR_div (i2d_R x3) r_12 (by decide) (-38430717750804480) 38430717750804480 (by decide) (by decide) rfl rfl
            refine lv_ddiv hx hb dX1_angle_81 (fR_nn r_13) ?_
            have r_14 := fR_add (i2d_R x2) r_13 (-2344273726964498432) 2344273726964498432 (by decide) (by decide) rfl rfl
            refine lv_dadd hx hb dX1_angle_82 (fR_nn r_14) ?_
            refine lv_dload hx hb dX1_angle_83 (lv_at hl 4 rfl) ?_
            refine lv_ldc2d hx hb hown (hts (.constantDouble RX1 324 (4660134898793709568)) (by decide +kernel)) dX1_angle_85 ?_
            have r_15 : fR 4660134898793709568 3865470566400 3865470566400 := fR_lit (by decide +kernel)
            have r_16 := fR_div h0 r_15 (by decide) (-80063993375476) 80063993375476 (by decide) (by decide) rfl rfl
            refine lv_ddiv hx hb dX1_angle_88 (fR_nn r_16) ?_
            have r_17 := fR_add r_14 r_16 (-2344353791597346816) 2344353791597346816 (by decide) (by decide) rfl rfl
            refine lv_dadd hx hb dX1_angle_89 (fR_nn r_17) ?_
            have r_18 := fR_mul r_11 r_17 (-2344353791597346816) 2344353791597346816 (by decide) (by decide) rfl rfl
            refine lv_dmul hx hb dX1_angle_90 (fR_nn r_18) ?_
            refine W.widen (k := 1) (n := 6) (Nat.le_of_ble_eq_true rfl) (Nat.le_of_ble_eq_true rfl) ?_
            exact vx_ret (W.dret hx hb hr (fun t ht hW => ⟨⟨_, (), rfl, (by unfold f_X1_angle; rw [if_pos c_1, if_neg c_2, if_neg c_4, if_pos c_7, if_pos c_10]), trivial⟩, hS.F ht⟩) hS.2.2 dX1_angle_91)
          · obtain ⟨sa_19, hsa_19⟩ := hE.1.str (k := 351) (tx := "no such angle") (by decide +kernel)
            exact vx_throwSW (rest := []) hx hb hst hown thc_IA thf (hts (.classLink RX1 43 xIA) (by decide +kernel)) (hts (.initialized xIA) (by decide +kernel)) hsa_19 (tha_IA hE.1 (fun w hw => hts w (List.mem_cons_of_mem _ (List.mem_append_right _ hw)))) thg_IA hE.2.1.1 hE.2.1.2 hS (by rw [hml]; exact hl.1) dX1_angle_61 dX1_angle_64 dX1_angle_65 dX1_angle_68 dX1_angle_71 (fun x hx9 => (hnt x hx9).elim) (Nat.le_of_ble_eq_true rfl) (Nat.le_of_ble_eq_true rfl) (Nat.le_of_ble_eq_true rfl) (Nat.le_of_ble_eq_true rfl) hlocks (fun t hvm hz hk => ⟨(), trivial, (by unfold f_X1_angle; rw [if_pos c_1, if_neg c_2, if_neg c_4, if_pos c_7, if_neg c_10]), zx_F hS hz hk⟩) hS.2.2 (Nat.le_of_ble_eq_true rfl) (Nat.le_of_ble_eq_true rfl)
  · refine lv_iload_n hx hb dX1_angle_5 rfl (lv_at hl 1 rfl) ?_
    refine lv_iconst (v := -1) hx hb dX1_angle_6 (by decide) ?_
    refine lv_icmp_eq (tgt := 21) hx hb dX1_angle_7 (by decide) (fun c_20 => ?_) (fun c_20 => ?_)
    · refine lv_iload_n hx hb dX1_angle_21 rfl (lv_at hl 2 rfl) ?_
      refine lv_i2l hx hb dX1_angle_22 rfl ?_
      refine lv_lconst (v := 0) hx hb dX1_angle_23 (by decide) ?_
      refine lv_ldc2 hx hb hown (hts (.constantLong RX1 345 (360)) (by decide +kernel)) dX1_angle_24 ?_
      refine vp_callSi (W.runS (As := [.long (Int32.toInt64 x2), .long 0, .long 360]) (rest := []) ⟨hx, hb, hml, hown, hts⟩ (k_X1_isWholeWithin l (Int32.toInt64 x2) 0 360) (va_cwS 3 hts gX1_angle_X1_isWholeWithin rfl rfl rfl (by decide +kernel) ⟨Nat.le_of_ble_eq_true rfl, Nat.le_of_ble_eq_true rfl⟩) preEq rfl rfl hl.1 rfl (lv_room (Nat.le_of_ble_eq_true rfl)) dX1_angle_27 ⟨Nat.zero_le _, Nat.zero_le _⟩) (fun r hr9 => ?_)
      obtain rfl := hr9
      refine lv_if_eq (tgt := 61) hx hb dX1_angle_30 (by decide) (fun c_21 => ?_) (fun c_21 => ?_)
      · obtain ⟨sa_22, hsa_22⟩ := hE.1.str (k := 351) (tx := "no such angle") (by decide +kernel)
        exact vx_throwSW (rest := []) hx hb hst hown thc_IA thf (hts (.classLink RX1 43 xIA) (by decide +kernel)) (hts (.initialized xIA) (by decide +kernel)) hsa_22 (tha_IA hE.1 (fun w hw => hts w (List.mem_cons_of_mem _ (List.mem_append_right _ hw)))) thg_IA hE.2.1.1 hE.2.1.2 hS (by rw [hml]; exact hl.1) dX1_angle_61 dX1_angle_64 dX1_angle_65 dX1_angle_68 dX1_angle_71 (fun x hx9 => (hnt x hx9).elim) (Nat.le_of_ble_eq_true rfl) (Nat.le_of_ble_eq_true rfl) (Nat.le_of_ble_eq_true rfl) (Nat.le_of_ble_eq_true rfl) hlocks (fun t hvm hz hk => ⟨(), trivial, (by unfold f_X1_angle; rw [if_neg c_1, if_pos c_20, if_pos c_21]), zx_F hS hz hk⟩) hS.2.2 (Nat.le_of_ble_eq_true rfl) (Nat.le_of_ble_eq_true rfl)
      · refine lv_iload_n hx hb dX1_angle_33 rfl (lv_at hl 3 rfl) ?_
        refine lv_i2l hx hb dX1_angle_34 rfl ?_
        refine lv_lconst (v := 0) hx hb dX1_angle_35 (by decide) ?_
        refine lv_ldc2 hx hb hown (hts (.constantLong RX1 347 (59)) (by decide +kernel)) dX1_angle_36 ?_
        refine vp_callSi (W.runS (As := [.long (Int32.toInt64 x3), .long 0, .long 59]) (rest := []) ⟨hx, hb, hml, hown, hts⟩ (k_X1_isWholeWithin l (Int32.toInt64 x3) 0 59) (va_cwS 3 hts gX1_angle_X1_isWholeWithin rfl rfl rfl (by decide +kernel) ⟨Nat.le_of_ble_eq_true rfl, Nat.le_of_ble_eq_true rfl⟩) preEq rfl rfl hl.1 rfl (lv_room (Nat.le_of_ble_eq_true rfl)) dX1_angle_39 ⟨Nat.zero_le _, Nat.zero_le _⟩) (fun r hr9 => ?_)
        obtain rfl := hr9
        refine lv_if_eq (tgt := 61) hx hb dX1_angle_42 (by decide) (fun c_23 => ?_) (fun c_23 => ?_)
        · obtain ⟨sa_24, hsa_24⟩ := hE.1.str (k := 351) (tx := "no such angle") (by decide +kernel)
          exact vx_throwSW (rest := []) hx hb hst hown thc_IA thf (hts (.classLink RX1 43 xIA) (by decide +kernel)) (hts (.initialized xIA) (by decide +kernel)) hsa_24 (tha_IA hE.1 (fun w hw => hts w (List.mem_cons_of_mem _ (List.mem_append_right _ hw)))) thg_IA hE.2.1.1 hE.2.1.2 hS (by rw [hml]; exact hl.1) dX1_angle_61 dX1_angle_64 dX1_angle_65 dX1_angle_68 dX1_angle_71 (fun x hx9 => (hnt x hx9).elim) (Nat.le_of_ble_eq_true rfl) (Nat.le_of_ble_eq_true rfl) (Nat.le_of_ble_eq_true rfl) (Nat.le_of_ble_eq_true rfl) hlocks (fun t hvm hz hk => ⟨(), trivial, (by unfold f_X1_angle; rw [if_neg c_1, if_pos c_20, if_neg c_21, if_pos c_23]), zx_F hS hz hk⟩) hS.2.2 (Nat.le_of_ble_eq_true rfl) (Nat.le_of_ble_eq_true rfl)
        · refine lv_dload hx hb dX1_angle_45 (lv_at hl 4 rfl) ?_
          refine lv_dconst0 hx hb dX1_angle_47 ?_
          have r_25 : fR FP.dconst0 0 0 := fR_lit (by decide +kernel)
          refine zd_l_lt (tgt := 61) hx hb dX1_angle_48 dX1_angle_49 (by decide) (fun c_26 => ?_) (fun c_26 => ?_)
          · obtain ⟨sa_27, hsa_27⟩ := hE.1.str (k := 351) (tx := "no such angle") (by decide +kernel)
            exact vx_throwSW (rest := []) hx hb hst hown thc_IA thf (hts (.classLink RX1 43 xIA) (by decide +kernel)) (hts (.initialized xIA) (by decide +kernel)) hsa_27 (tha_IA hE.1 (fun w hw => hts w (List.mem_cons_of_mem _ (List.mem_append_right _ hw)))) thg_IA hE.2.1.1 hE.2.1.2 hS (by rw [hml]; exact hl.1) dX1_angle_61 dX1_angle_64 dX1_angle_65 dX1_angle_68 dX1_angle_71 (fun x hx9 => (hnt x hx9).elim) (Nat.le_of_ble_eq_true rfl) (Nat.le_of_ble_eq_true rfl) (Nat.le_of_ble_eq_true rfl) (Nat.le_of_ble_eq_true rfl) hlocks (fun t hvm hz hk => ⟨(), trivial, (by unfold f_X1_angle; rw [if_neg c_1, if_pos c_20, if_neg c_21, if_neg c_23, if_neg c_26]), zx_F hS hz hk⟩) hS.2.2 (Nat.le_of_ble_eq_true rfl) (Nat.le_of_ble_eq_true rfl)
          · refine lv_dload hx hb dX1_angle_52 (lv_at hl 4 rfl) ?_
            refine lv_ldc2d hx hb hown (hts (.constantDouble RX1 349 (4633641066610819072)) (by decide +kernel)) dX1_angle_54 ?_
            have r_28 : fR 4633641066610819072 64424509440 64424509440 := fR_lit (by decide +kernel)
            refine zd_g_lt (tgt := 72) hx hb dX1_angle_57 dX1_angle_58 (by decide) (fun c_29 => ?_) (fun c_29 => ?_)
            · refine lv_iload_n hx hb dX1_angle_72 rfl (lv_at hl 1 rfl) ?_
              have r_30 : fR (FP.i2d x1) (-1073741824) 1073741824 := fR_mono (fR_i2d x1 (lo := -1) (hi := 1) (by rw [c_20]; decide) (by rw [c_20]; decide)) (by decide) (by decide)
              refine lv_i2d hx hb dX1_angle_73 ?_
              refine lv_iload_n hx hb dX1_angle_74 rfl (lv_at hl 2 rfl) ?_
              refine lv_i2d hx hb dX1_angle_75 ?_
              refine lv_iload_n hx hb dX1_angle_76 rfl (lv_at hl 3 rfl) ?_
              refine lv_i2d hx hb dX1_angle_77 ?_
              refine lv_ldc2d hx hb hown (hts (.constantDouble RX1 349 (4633641066610819072)) (by decide +kernel)) dX1_angle_78 ?_
              have r_31 : fR 4633641066610819072 64424509440 64424509440 := fR_lit (by decide +kernel)
              have r_32 := fR_div (i2d_R x3) r_31 (by decide) (-38430717750804480) 38430717750804480 (by decide) (by decide) rfl rfl
              refine lv_ddiv hx hb dX1_angle_81 (fR_nn r_32) ?_
              have r_33 := fR_add (i2d_R x2) r_32 (-2344273726964498432) 2344273726964498432 (by decide) (by decide) rfl rfl
              refine lv_dadd hx hb dX1_angle_82 (fR_nn r_33) ?_
              refine lv_dload hx hb dX1_angle_83 (lv_at hl 4 rfl) ?_
              refine lv_ldc2d hx hb hown (hts (.constantDouble RX1 324 (4660134898793709568)) (by decide +kernel)) dX1_angle_85 ?_
              have r_34 : fR 4660134898793709568 3865470566400 3865470566400 := fR_lit (by decide +kernel)
              have r_35 := fR_div h0 r_34 (by decide) (-80063993375476) 80063993375476 (by decide) (by decide) rfl rfl
              refine lv_ddiv hx hb dX1_angle_88 (fR_nn r_35) ?_
              have r_36 := fR_add r_33 r_35 (-2344353791597346816) 2344353791597346816 (by decide) (by decide) rfl rfl
              refine lv_dadd hx hb dX1_angle_89 (fR_nn r_36) ?_
              have r_37 := fR_mul r_30 r_36 (-2344353791597346816) 2344353791597346816 (by decide) (by decide) rfl rfl
              refine lv_dmul hx hb dX1_angle_90 (fR_nn r_37) ?_
              refine W.widen (k := 1) (n := 6) (Nat.le_of_ble_eq_true rfl) (Nat.le_of_ble_eq_true rfl) ?_
              exact vx_ret (W.dret hx hb hr (fun t ht hW => ⟨⟨_, (), rfl, (by unfold f_X1_angle; rw [if_neg c_1, if_pos c_20, if_neg c_21, if_neg c_23, if_pos c_26, if_pos c_29]), trivial⟩, hS.F ht⟩) hS.2.2 dX1_angle_91)
            · obtain ⟨sa_38, hsa_38⟩ := hE.1.str (k := 351) (tx := "no such angle") (by decide +kernel)
              exact vx_throwSW (rest := []) hx hb hst hown thc_IA thf (hts (.classLink RX1 43 xIA) (by decide +kernel)) (hts (.initialized xIA) (by decide +kernel)) hsa_38 (tha_IA hE.1 (fun w hw => hts w (List.mem_cons_of_mem _ (List.mem_append_right _ hw)))) thg_IA hE.2.1.1 hE.2.1.2 hS (by rw [hml]; exact hl.1) dX1_angle_61 dX1_angle_64 dX1_angle_65 dX1_angle_68 dX1_angle_71 (fun x hx9 => (hnt x hx9).elim) (Nat.le_of_ble_eq_true rfl) (Nat.le_of_ble_eq_true rfl) (Nat.le_of_ble_eq_true rfl) (Nat.le_of_ble_eq_true rfl) hlocks (fun t hvm hz hk => ⟨(), trivial, (by unfold f_X1_angle; rw [if_neg c_1, if_pos c_20, if_neg c_21, if_neg c_23, if_pos c_26, if_neg c_29]), zx_F hS hz hk⟩) hS.2.2 (Nat.le_of_ble_eq_true rfl) (Nat.le_of_ble_eq_true rfl)
    · obtain ⟨sa_39, hsa_39⟩ := hE.1.str (k := 343) (tx := "no such sign") (by decide +kernel)
      exact vx_throwSW (rest := []) hx hb hst hown thc_IA thf (hts (.classLink RX1 43 xIA) (by decide +kernel)) (hts (.initialized xIA) (by decide +kernel)) hsa_39 (tha_IA hE.1 (fun w hw => hts w (List.mem_cons_of_mem _ (List.mem_append_right _ hw)))) thg_IA hE.2.1.1 hE.2.1.2 hS (by rw [hml]; exact hl.1) dX1_angle_10 dX1_angle_13 dX1_angle_14 dX1_angle_17 dX1_angle_20 (fun x hx9 => (hnt x hx9).elim) (Nat.le_of_ble_eq_true rfl) (Nat.le_of_ble_eq_true rfl) (Nat.le_of_ble_eq_true rfl) (Nat.le_of_ble_eq_true rfl) hlocks (fun t hvm hz hk => ⟨(), trivial, (by unfold f_X1_angle; rw [if_neg c_1, if_neg c_20]), zx_F hS hz hk⟩) hS.2.2 (Nat.le_of_ble_eq_true rfl) (Nat.le_of_ble_eq_true rfl)
