theorem fd_I {r y : Int32} (h1 : -1500000 ≤ y.toInt) (h2 : y.toInt ≤ 1500000) : (f_X1_firstDayOfYear r y).toInt = nyI r y.toInt := by
  have e3 : (3 : Int32).toInt = 3 := rfl
  have e99 : (99 : Int32).toInt = 99 := rfl
  have e399 : (399 : Int32).toInt = 399 := rfl
  have e4 : (4 : Int32).toInt = 4 := rfl
  have e100 : (100 : Int32).toInt = 100 := rfl
  have e400 : (400 : Int32).toInt = 400 := rfl
  have e365 : (365 : Int64).toInt = 365 := rfl
  have a1 : (y + 3).toInt = y.toInt + 3 := by rw [a32 (by omega) (by omega), e3]
  have a2 : (y + 99).toInt = y.toInt + 99 := by rw [a32 (by omega) (by omega), e99]
  have a3 : (y + 399).toInt = y.toInt + 399 := by rw [a32 (by omega) (by omega), e399]
  have b1 : (f_J9_floorDiv_7cf53 (y + 3) 4).toInt = (y.toInt + 3) / 4 := by rw [fdv32 (by decide) (by omega), a1, e4]
  have b2 : (f_J9_floorDiv_7cf53 (y + 99) 100).toInt = (y.toInt + 99) / 100 := by rw [fdv32 (by decide) (by omega), a2, e100]
  have b3 : (f_J9_floorDiv_7cf53 (y + 399) 400).toInt = (y.toInt + 399) / 400 := by rw [fdv32 (by decide) (by omega), a3, e400]
  have c0 : (365 * Int32.toInt64 y).toInt = 365 * y.toInt := by rw [m64 (by rw [Int32.toInt_toInt64, e365]; omega) (by rw [Int32.toInt_toInt64, e365]; omega), Int32.toInt_toInt64, e365]
  have c1 : (f_X1_firstDayOfYear_15_0 y).toInt = 365 * y.toInt + (y.toInt + 3) / 4 := by
    unfold f_X1_firstDayOfYear_15_0
    rw [a64 (by rw [c0, Int32.toInt_toInt64, b1]; omega) (by rw [c0, Int32.toInt_toInt64, b1]; omega), c0, Int32.toInt_toInt64, b1]
  unfold f_X1_firstDayOfYear nyI
  have k1 : (1721058 : Int64).toInt = 1721058 := rfl
  have k2 : (1721060 : Int64).toInt = 1721060 := rfl
  by_cases c : r = 0
  · rw [if_pos c, if_pos c, a64 (by rw [c1, k1]; omega) (by rw [c1, k1]; omega), c1, k1]
  · rw [if_neg c, if_neg c]
    have d1 : (f_X1_firstDayOfYear_15_0 y - Int32.toInt64 (f_J9_floorDiv_7cf53 (y + 99) 100)).toInt = 365 * y.toInt + (y.toInt + 3) / 4 - (y.toInt + 99) / 100 := by rw [s64 (by rw [c1, Int32.toInt_toInt64, b2]; omega) (by rw [c1, Int32.toInt_toInt64, b2]; omega), c1, Int32.toInt_toInt64, b2]
    have d2 : (f_X1_firstDayOfYear_15_0 y - Int32.toInt64 (f_J9_floorDiv_7cf53 (y + 99) 100) + Int32.toInt64 (f_J9_floorDiv_7cf53 (y + 399) 400)).toInt = 365 * y.toInt + (y.toInt + 3) / 4 - (y.toInt + 99) / 100 + (y.toInt + 399) / 400 := by rw [a64 (by rw [d1, Int32.toInt_toInt64, b3]; omega) (by rw [d1, Int32.toInt_toInt64, b3]; omega), d1, Int32.toInt_toInt64, b3]
    rw [a64 (by rw [d2, k2]; omega) (by rw [d2, k2]; omega), d2, k2]
theorem bf_I {r : Int32} {y : Int64} (h1 : -1500000 ≤ y.toInt) (h2 : y.toInt ≤ 1500000) : (f_X2_before r y).toInt = if r = 0 then 365 * y.toInt + (y.toInt + 3) / 4 else 365 * y.toInt + (y.toInt + 3) / 4 - (y.toInt + 99) / 100 + (y.toInt + 399) / 400 := by
  have e3 : (3 : Int64).toInt = 3 := rfl
  have e99 : (99 : Int64).toInt = 99 := rfl
  have e399 : (399 : Int64).toInt = 399 := rfl
  have e4 : (4 : Int64).toInt = 4 := rfl
  have e100 : (100 : Int64).toInt = 100 := rfl
  have e400 : (400 : Int64).toInt = 400 := rfl
  have e365 : (365 : Int64).toInt = 365 := rfl
  have a1 : (y + 3).toInt = y.toInt + 3 := by rw [a64 (by omega) (by omega), e3]
  have a2 : (y + 99).toInt = y.toInt + 99 := by rw [a64 (by omega) (by omega), e99]
  have a3 : (y + 399).toInt = y.toInt + 399 := by rw [a64 (by omega) (by omega), e399]
  have b1 : (f_X2_floor (y + 3) 4).toInt = (y.toInt + 3) / 4 := by rw [flr64 (by decide) (by omega) (by omega) (by decide), a1, e4]
  have b2 : (f_X2_floor (y + 99) 100).toInt = (y.toInt + 99) / 100 := by rw [flr64 (by decide) (by omega) (by omega) (by decide), a2, e100]
  have b3 : (f_X2_floor (y + 399) 400).toInt = (y.toInt + 399) / 400 := by rw [flr64 (by decide) (by omega) (by omega) (by decide), a3, e400]
  have c0 : (365 * y).toInt = 365 * y.toInt := by rw [m64 (by rw [e365]; omega) (by rw [e365]; omega), e365]
  unfold f_X2_before
  by_cases c : r = 0
  · rw [if_pos c, if_pos c, a64 (by rw [c0, b1]; omega) (by rw [c0, b1]; omega), c0, b1]
  · rw [if_neg c, if_neg c]
    have d1 : (f_X2_floor (y + 3) 4 - f_X2_floor (y + 99) 100).toInt = (y.toInt + 3) / 4 - (y.toInt + 99) / 100 := by rw [s64 (by rw [b1, b2]; omega) (by rw [b1, b2]; omega), b1, b2]
    have d2 : (f_X2_floor (y + 3) 4 - f_X2_floor (y + 99) 100 + f_X2_floor (y + 399) 400).toInt = (y.toInt + 3) / 4 - (y.toInt + 99) / 100 + (y.toInt + 399) / 400 := by rw [a64 (by rw [d1, b3]; omega) (by rw [d1, b3]; omega), d1, b3]
    rw [a64 (by rw [c0, d2]; omega) (by rw [c0, d2]; omega), c0, d2]; omega
theorem ny_I {r : Int32} {y : Int64} (h1 : -1500000 ≤ y.toInt) (h2 : y.toInt ≤ 1500000) : (f_X2_newYear r y).toInt = nyI r y.toInt := by
  have g0 := bf_I (r := 0) h1 h2
  have g1 := bf_I (r := 1) h1 h2
  rw [if_pos rfl] at g0
  rw [if_neg (by decide)] at g1
  have k0 : (f_X2_before 0 (-4712)).toInt = -1721058 := by decide +kernel
  have k1 : (f_X2_before 1 (-4713)).toInt = -1721387 := by decide +kernel
  have k2 : (327 : Int64).toInt = 327 := rfl
  unfold f_X2_newYear nyI
  by_cases c : r = 0
  · rw [if_pos c, if_pos c, s64 (by rw [g0, k0]; omega) (by rw [g0, k0]; omega), g0, k0]; omega
  · rw [if_neg c, if_neg c]
    have d : (f_X2_before 1 y - f_X2_before 1 (-4713)).toInt = 365 * y.toInt + (y.toInt + 3) / 4 - (y.toInt + 99) / 100 + (y.toInt + 399) / 400 + 1721387 := by rw [s64 (by rw [g1, k1]; omega) (by rw [g1, k1]; omega), g1, k1]; omega
    rw [s64 (by rw [d, k2]; omega) (by rw [d, k2]; omega), d, k2]; omega
/-! leap years -/
theorem rz32 {a b : Int32} (hb : 0 < b.toInt) : a - a / b * b = 0 ↔ a.toInt % b.toInt = 0 := by
  have hr := rem32 (a := a) hb
  rw [← Int32.toInt_inj, hr, show (0 : Int32).toInt = 0 from rfl, ← Int.dvd_iff_tmod_eq_zero, Int.dvd_iff_emod_eq_zero]
theorem isLeap_I {r y : Int32} : f_X1_isLeap r y = if y.toInt % 4 = 0 ∧ (r = 0 ∨ ¬ y.toInt % 100 = 0 ∨ y.toInt % 400 = 0) then 1 else 0 := by
  have h4 := rz32 (a := y) (b := 4) (by decide)
  have h100 := rz32 (a := y) (b := 100) (by decide)
  have h400 := rz32 (a := y) (b := 400) (by decide)
  rw [show (4 : Int32).toInt = 4 from rfl] at h4
  rw [show (100 : Int32).toInt = 100 from rfl] at h100
  rw [show (400 : Int32).toInt = 400 from rfl] at h400
  unfold f_X1_isLeap
  by_cases c4 : y - y / 4 * 4 = 0
  · rw [if_pos c4]
    by_cases c0 : r = 0
    · rw [if_pos c0, if_pos ⟨h4.mp c4, Or.inl c0⟩]
    · rw [if_neg c0]
      by_cases c1 : y - y / 100 * 100 = 0
      · rw [if_pos c1]
        by_cases c2 : y - y / 400 * 400 = 0
        · rw [if_pos c2, if_pos ⟨h4.mp c4, Or.inr (Or.inr (h400.mp c2))⟩]
        · rw [if_neg c2, if_neg (fun h => h.2.elim c0 (fun h => h.elim (fun h => h (h100.mp c1)) (fun h => c2 (h400.mpr h))))]
      · rw [if_neg c1, if_pos ⟨h4.mp c4, Or.inr (Or.inl (fun h => c1 (h100.mpr h)))⟩]
  · rw [if_neg c4, if_neg (fun h => c4 (h4.mpr h.1))]
theorem leap_step {r : Int32} {y : Int} : nyI r (y + 1) - nyI r y = 366 ↔ (y % 4 = 0 ∧ (r = 0 ∨ ¬ y % 100 = 0 ∨ y % 400 = 0)) := by
  unfold nyI
  by_cases c : r = 0
  · rw [if_pos c, if_pos c]; exact ⟨fun h => ⟨by omega, Or.inl c⟩, fun h => by omega⟩
  · rw [if_neg c, if_neg c]
    constructor
    · intro h
      refine ⟨by omega, Or.inr ?_⟩
      by_cases c1 : y % 100 = 0
      · right; omega
      · left; exact c1
    · rintro ⟨h1, h2 | h2 | h2⟩
      · exact absurd h2 c
      · omega
      · omega
theorem year_len {r : Int32} {y : Int} : nyI r (y + 1) - nyI r y = 366 ∨ nyI r (y + 1) - nyI r y = 365 := by
  unfold nyI
  by_cases c : r = 0
  · rw [if_pos c, if_pos c]; omega
  · rw [if_neg c, if_neg c]; omega
/-- the leap day of a year, as both sides have it -/
theorem leap_eq {r y : Int32} (h1 : -1400000 ≤ y.toInt) (h2 : y.toInt ≤ 1400000) : f_X2_leap r (Int32.toInt64 y) = f_X1_isLeap r y := by
  rw [isLeap_I]
  unfold f_X2_leap
  have e1 : (1 : Int64).toInt = 1 := rfl
  have ey : (Int32.toInt64 y).toInt = y.toInt := Int32.toInt_toInt64 y
  have ey1 : (Int32.toInt64 y + 1).toInt = y.toInt + 1 := by rw [a64 (by rw [ey, e1]; omega) (by rw [ey, e1]; omega), ey, e1]
  have g0 := bf_I (r := r) (y := Int32.toInt64 y) (by omega) (by omega)
  have g1 := bf_I (r := r) (y := Int32.toInt64 y + 1) (by omega) (by omega)
  rw [ey] at g0
  rw [ey1] at g1
  have k : (f_X2_before r (Int32.toInt64 y + 1) - f_X2_before r (Int32.toInt64 y)).toInt = nyI r (y.toInt + 1) - nyI r y.toInt := by
    unfold nyI
    by_cases c : r = 0
    · rw [if_pos c] at g0 g1
      rw [if_pos c, if_pos c, s64 (by rw [g0, g1]; omega) (by rw [g0, g1]; omega), g0, g1]; omega
    · rw [if_neg c] at g0 g1
      rw [if_neg c, if_neg c, s64 (by rw [g0, g1]; omega) (by rw [g0, g1]; omega), g0, g1]; omega
  have hiff : (f_X2_before r (Int32.toInt64 y + 1) - f_X2_before r (Int32.toInt64 y)) = 366 ↔ (y.toInt % 4 = 0 ∧ (r = 0 ∨ ¬ y.toInt % 100 = 0 ∨ y.toInt % 400 = 0)) := by
    rw [← leap_step (r := r), ← k, ← Int64.toInt_inj]; rfl
  by_cases c : (y.toInt % 4 = 0 ∧ (r = 0 ∨ ¬ y.toInt % 100 = 0 ∨ y.toInt % 400 = 0))
  · rw [if_pos c, if_pos (hiff.mpr c)]
  · rw [if_neg c, if_neg (fun h => c (hiff.mp h))]
theorem isLeap_01 (r y : Int32) : f_X1_isLeap r y = 0 ∨ f_X1_isLeap r y = 1 := by
  rw [isLeap_I]; split
  · exact Or.inr rfl
  · exact Or.inl rfl
theorem leap_len {r y : Int32} : nyI r (y.toInt + 1) - nyI r y.toInt = 365 + (f_X1_isLeap r y).toInt := by
  rw [isLeap_I]
  by_cases c : (y.toInt % 4 = 0 ∧ (r = 0 ∨ ¬ y.toInt % 100 = 0 ∨ y.toInt % 400 = 0))
  · rw [if_pos c, leap_step.mpr c]; rfl
  · rw [if_neg c]
    rcases year_len (r := r) (y := y.toInt) with h | h
    · exact absurd (leap_step.mp h) c
    · rw [h]; rfl
/-! months -/
def mLf (lp x2 : Int32) : Int32 := if x2 < 1 then (0) else (if x2 ≤ 12 then (if x2 = 2 then (if lp = 0 then (mlen (x2 - 1)) else ((mlen (x2 - 1)) + 1)) else (mlen (x2 - 1))) else (0))
def dBf (lp x2 : Int32) : Int32 := if x2 ≤ 1 then (0) else (if x2 ≤ 2 then (0 + (mLf lp 1)) else (if x2 ≤ 3 then ((0 + (mLf lp 1)) + (mLf lp 2)) else (if x2 ≤ 4 then (((0 + (mLf lp 1)) + (mLf lp 2)) + (mLf lp 3)) else (if x2 ≤ 5 then ((((0 + (mLf lp 1)) + (mLf lp 2)) + (mLf lp 3)) + (mLf lp 4)) else (if x2 ≤ 6 then (((((0 + (mLf lp 1)) + (mLf lp 2)) + (mLf lp 3)) + (mLf lp 4)) + (mLf lp 5)) else (if x2 ≤ 7 then ((((((0 + (mLf lp 1)) + (mLf lp 2)) + (mLf lp 3)) + (mLf lp 4)) + (mLf lp 5)) + (mLf lp 6)) else (if x2 ≤ 8 then (((((((0 + (mLf lp 1)) + (mLf lp 2)) + (mLf lp 3)) + (mLf lp 4)) + (mLf lp 5)) + (mLf lp 6)) + (mLf lp 7)) else (if x2 ≤ 9 then ((((((((0 + (mLf lp 1)) + (mLf lp 2)) + (mLf lp 3)) + (mLf lp 4)) + (mLf lp 5)) + (mLf lp 6)) + (mLf lp 7)) + (mLf lp 8)) else (if x2 ≤ 10 then (((((((((0 + (mLf lp 1)) + (mLf lp 2)) + (mLf lp 3)) + (mLf lp 4)) + (mLf lp 5)) + (mLf lp 6)) + (mLf lp 7)) + (mLf lp 8)) + (mLf lp 9)) else (if x2 ≤ 11 then ((((((((((0 + (mLf lp 1)) + (mLf lp 2)) + (mLf lp 3)) + (mLf lp 4)) + (mLf lp 5)) + (mLf lp 6)) + (mLf lp 7)) + (mLf lp 8)) + (mLf lp 9)) + (mLf lp 10)) else (if x2 ≤ 12 then (((((((((((0 + (mLf lp 1)) + (mLf lp 2)) + (mLf lp 3)) + (mLf lp 4)) + (mLf lp 5)) + (mLf lp 6)) + (mLf lp 7)) + (mLf lp 8)) + (mLf lp 9)) + (mLf lp 10)) + (mLf lp 11)) else (if x2 ≤ 13 then ((((((((((((0 + (mLf lp 1)) + (mLf lp 2)) + (mLf lp 3)) + (mLf lp 4)) + (mLf lp 5)) + (mLf lp 6)) + (mLf lp 7)) + (mLf lp 8)) + (mLf lp 9)) + (mLf lp 10)) + (mLf lp 11)) + (mLf lp 12)) else ((((((((((((0 + (mLf lp 1)) + (mLf lp 2)) + (mLf lp 3)) + (mLf lp 4)) + (mLf lp 5)) + (mLf lp 6)) + (mLf lp 7)) + (mLf lp 8)) + (mLf lp 9)) + (mLf lp 10)) + (mLf lp 11)) + (mLf lp 12))))))))))))))
def mOf (lp x2 : Int32) : Int32 := if (dBf lp 12) < x2 then (12) else (if (dBf lp 11) < x2 then (11) else (if (dBf lp 10) < x2 then (10) else (if (dBf lp 9) < x2 then (9) else (if (dBf lp 8) < x2 then (8) else (if (dBf lp 7) < x2 then (7) else (if (dBf lp 6) < x2 then (6) else (if (dBf lp 5) < x2 then (5) else (if (dBf lp 4) < x2 then (4) else (if (dBf lp 3) < x2 then (3) else (if (dBf lp 2) < x2 then (2) else (1)))))))))))
def lLf (lp x2 : Int32) : Int32 := if x2 = 2 then (if lp = 0 then (28) else (29)) else (if x2 = 4 then (30) else (if x2 = 6 then (30) else (if x2 = 9 then (30) else (if x2 = 11 then (30) else (31)))))
def nUf (lp : Int32) (ny : Int64) (x2 x3 : Int32) : Int64 := if x2 ≤ 1 then ((ny + (Int32.toInt64 x3)) - 1) else (if x2 ≤ 2 then (((ny + (Int32.toInt64 (lLf lp 1))) + (Int32.toInt64 x3)) - 1) else (if x2 ≤ 3 then ((((ny + (Int32.toInt64 (lLf lp 1))) + (Int32.toInt64 (lLf lp 2))) + (Int32.toInt64 x3)) - 1) else (if x2 ≤ 4 then (((((ny + (Int32.toInt64 (lLf lp 1))) + (Int32.toInt64 (lLf lp 2))) + (Int32.toInt64 (lLf lp 3))) + (Int32.toInt64 x3)) - 1) else (if x2 ≤ 5 then ((((((ny + (Int32.toInt64 (lLf lp 1))) + (Int32.toInt64 (lLf lp 2))) + (Int32.toInt64 (lLf lp 3))) + (Int32.toInt64 (lLf lp 4))) + (Int32.toInt64 x3)) - 1) else (if x2 ≤ 6 then (((((((ny + (Int32.toInt64 (lLf lp 1))) + (Int32.toInt64 (lLf lp 2))) + (Int32.toInt64 (lLf lp 3))) + (Int32.toInt64 (lLf lp 4))) + (Int32.toInt64 (lLf lp 5))) + (Int32.toInt64 x3)) - 1) else (if x2 ≤ 7 then ((((((((ny + (Int32.toInt64 (lLf lp 1))) + (Int32.toInt64 (lLf lp 2))) + (Int32.toInt64 (lLf lp 3))) + (Int32.toInt64 (lLf lp 4))) + (Int32.toInt64 (lLf lp 5))) + (Int32.toInt64 (lLf lp 6))) + (Int32.toInt64 x3)) - 1) else (if x2 ≤ 8 then (((((((((ny + (Int32.toInt64 (lLf lp 1))) + (Int32.toInt64 (lLf lp 2))) + (Int32.toInt64 (lLf lp 3))) + (Int32.toInt64 (lLf lp 4))) + (Int32.toInt64 (lLf lp 5))) + (Int32.toInt64 (lLf lp 6))) + (Int32.toInt64 (lLf lp 7))) + (Int32.toInt64 x3)) - 1) else (if x2 ≤ 9 then ((((((((((ny + (Int32.toInt64 (lLf lp 1))) + (Int32.toInt64 (lLf lp 2))) + (Int32.toInt64 (lLf lp 3))) + (Int32.toInt64 (lLf lp 4))) + (Int32.toInt64 (lLf lp 5))) + (Int32.toInt64 (lLf lp 6))) + (Int32.toInt64 (lLf lp 7))) + (Int32.toInt64 (lLf lp 8))) + (Int32.toInt64 x3)) - 1) else (if x2 ≤ 10 then (((((((((((ny + (Int32.toInt64 (lLf lp 1))) + (Int32.toInt64 (lLf lp 2))) + (Int32.toInt64 (lLf lp 3))) + (Int32.toInt64 (lLf lp 4))) + (Int32.toInt64 (lLf lp 5))) + (Int32.toInt64 (lLf lp 6))) + (Int32.toInt64 (lLf lp 7))) + (Int32.toInt64 (lLf lp 8))) + (Int32.toInt64 (lLf lp 9))) + (Int32.toInt64 x3)) - 1) else (if x2 ≤ 11 then ((((((((((((ny + (Int32.toInt64 (lLf lp 1))) + (Int32.toInt64 (lLf lp 2))) + (Int32.toInt64 (lLf lp 3))) + (Int32.toInt64 (lLf lp 4))) + (Int32.toInt64 (lLf lp 5))) + (Int32.toInt64 (lLf lp 6))) + (Int32.toInt64 (lLf lp 7))) + (Int32.toInt64 (lLf lp 8))) + (Int32.toInt64 (lLf lp 9))) + (Int32.toInt64 (lLf lp 10))) + (Int32.toInt64 x3)) - 1) else (((((((((((((ny + (Int32.toInt64 (lLf lp 1))) + (Int32.toInt64 (lLf lp 2))) + (Int32.toInt64 (lLf lp 3))) + (Int32.toInt64 (lLf lp 4))) + (Int32.toInt64 (lLf lp 5))) + (Int32.toInt64 (lLf lp 6))) + (Int32.toInt64 (lLf lp 7))) + (Int32.toInt64 (lLf lp 8))) + (Int32.toInt64 (lLf lp 9))) + (Int32.toInt64 (lLf lp 10))) + (Int32.toInt64 (lLf lp 11))) + (Int32.toInt64 x3)) - 1)))))))))))
theorem mL_eq (x0 x1 x2 : Int32) : f_X1_monthLength x0 x1 x2 = mLf (f_X1_isLeap x0 x1) x2 := rfl
theorem dB_eq (x0 x1 x2 : Int32) : f_X1_daysBeforeMonth x0 x1 x2 = dBf (f_X1_isLeap x0 x1) x2 := rfl
theorem mO_eq (x0 x1 x2 : Int32) : f_X1_monthOfDayWithinYear x0 x1 x2 = mOf (f_X1_isLeap x0 x1) x2 := rfl
theorem lL_eq (x0 : Int32) (x1 : Int64) (x2 : Int32) : f_X2_length x0 x1 x2 = lLf (f_X2_leap x0 x1) x2 := rfl
theorem nU_eq (x0 x1 x2 x3 : Int32) : f_X2_number x0 x1 x2 x3 = nUf (f_X2_leap x0 (Int32.toInt64 x1)) (f_X2_newYear x0 (Int32.toInt64 x1)) x2 x3 := rfl
/-- the days ahead of a month -/
def cumL : List Int := [0, 31, 59, 90, 120, 151, 181, 212, 243, 273, 304, 334, 365]
def cum (lp : Int32) (j : Nat) : Int := cumL.getD j 0 + (if 2 ≤ j then lp.toInt else 0)
theorem cum_12 (lp : Int32) : cum lp 12 = 365 + lp.toInt := rfl
theorem cum_0 (lp : Int32) : cum lp 0 = 0 := by show (0 : Int) + 0 = 0; rfl
theorem mon_0 : ∀ j : Nat, j < 12 → (dBf 0 (nI (j + 1))).toInt = cum 0 j ∧ (mLf 0 (nI (j + 1))).toInt = cum 0 (j + 1) - cum 0 j ∧ lLf 0 (nI (j + 1)) = mLf 0 (nI (j + 1)) ∧ 28 ≤ (mLf 0 (nI (j + 1))).toInt ∧ (mLf 0 (nI (j + 1))).toInt ≤ 31 := by decide +kernel
theorem mon_1 : ∀ j : Nat, j < 12 → (dBf 1 (nI (j + 1))).toInt = cum 1 j ∧ (mLf 1 (nI (j + 1))).toInt = cum 1 (j + 1) - cum 1 j ∧ lLf 1 (nI (j + 1)) = mLf 1 (nI (j + 1)) ∧ 28 ≤ (mLf 1 (nI (j + 1))).toInt ∧ (mLf 1 (nI (j + 1))).toInt ≤ 31 := by decide +kernel
theorem mon_all {lp : Int32} (h : lp = 0 ∨ lp = 1) {j : Nat} (hj : j < 12) : (dBf lp (nI (j + 1))).toInt = cum lp j ∧ (mLf lp (nI (j + 1))).toInt = cum lp (j + 1) - cum lp j ∧ lLf lp (nI (j + 1)) = mLf lp (nI (j + 1)) ∧ 28 ≤ (mLf lp (nI (j + 1))).toInt ∧ (mLf lp (nI (j + 1))).toInt ≤ 31 := by
  rcases h with h | h <;> subst h
  · exact mon_0 j hj
  · exact mon_1 j hj
/-- the month of a day within the year -/
theorem mO_0 : ∀ d : Nat, d < 366 → ∀ j : Nat, j < 12 → cum 0 j ≤ (d : Int) → (d : Int) < cum 0 (j + 1) → mOf 0 (nI (d + 1)) = nI (j + 1) := by decide +kernel
theorem mO_1 : ∀ d : Nat, d < 367 → ∀ j : Nat, j < 12 → cum 1 j ≤ (d : Int) → (d : Int) < cum 1 (j + 1) → mOf 1 (nI (d + 1)) = nI (j + 1) := by decide +kernel