/-! ===== day numbers ===== -/
def smF (lp : Int32) (ny : Int64) : Nat → Int64
  | 0 => ny
  | j + 1 => smF lp ny j + Int32.toInt64 (lLf lp (nI (j + 1)))
theorem smF_I {lp : Int32} (h : lp = 0 ∨ lp = 1) {ny : Int64} (hn : -1000000000 ≤ ny.toInt ∧ ny.toInt ≤ 1000000000) : ∀ j, j ≤ 12 → (smF lp ny j).toInt = ny.toInt + cum lp j ∧ 0 ≤ cum lp j ∧ cum lp j ≤ 31 * j
  | 0, _ => by rw [cum_0]; exact ⟨by show ny.toInt = _; omega, by omega, by omega⟩
  | j + 1, hj => by
    obtain ⟨i1, i2, i3⟩ := smF_I h hn j (by omega)
    obtain ⟨-, m2, m3, m4, m5⟩ := mon_all h (j := j) (by omega)
    have e : (Int32.toInt64 (lLf lp (nI (j + 1)))).toInt = cum lp (j + 1) - cum lp j := by rw [Int32.toInt_toInt64, m3, m2]
    refine ⟨?_, by omega, by omega⟩
    show (smF lp ny j + _).toInt = _
    rw [a64 (by rw [e, i1]; omega) (by rw [e, i1]; omega), e, i1]; omega
theorem nUf_s {lp : Int32} {ny : Int64} {x3 : Int32} : ∀ j, j < 12 → nUf lp ny (nI (j + 1)) x3 = smF lp ny j + Int32.toInt64 x3 - 1 := by
  intro j hj
  have : j = 0 ∨ j = 1 ∨ j = 2 ∨ j = 3 ∨ j = 4 ∨ j = 5 ∨ j = 6 ∨ j = 7 ∨ j = 8 ∨ j = 9 ∨ j = 10 ∨ j = 11 := by omega
  rcases this with h | h | h | h | h | h | h | h | h | h | h | h <;> subst h
  · unfold nUf; rw [if_pos (by decide +kernel)]; rfl
  · unfold nUf; rw [if_neg (by decide +kernel), if_pos (by decide +kernel)]; rfl
  · unfold nUf; rw [if_neg (by decide +kernel), if_neg (by decide +kernel), if_pos (by decide +kernel)]; rfl
  · unfold nUf; rw [if_neg (by decide +kernel), if_neg (by decide +kernel), if_neg (by decide +kernel), if_pos (by decide +kernel)]; rfl
  · unfold nUf; rw [if_neg (by decide +kernel), if_neg (by decide +kernel), if_neg (by decide +kernel), if_neg (by decide +kernel), if_pos (by decide +kernel)]; rfl
  · unfold nUf; rw [if_neg (by decide +kernel), if_neg (by decide +kernel), if_neg (by decide +kernel), if_neg (by decide +kernel), if_neg (by decide +kernel), if_pos (by decide +kernel)]; rfl
  · unfold nUf; rw [if_neg (by decide +kernel), if_neg (by decide +kernel), if_neg (by decide +kernel), if_neg (by decide +kernel), if_neg (by decide +kernel), if_neg (by decide +kernel), if_pos (by decide +kernel)]; rfl
  · unfold nUf; rw [if_neg (by decide +kernel), if_neg (by decide +kernel), if_neg (by decide +kernel), if_neg (by decide +kernel), if_neg (by decide +kernel), if_neg (by decide +kernel), if_neg (by decide +kernel), if_pos (by decide +kernel)]; rfl
  · unfold nUf; rw [if_neg (by decide +kernel), if_neg (by decide +kernel), if_neg (by decide +kernel), if_neg (by decide +kernel), if_neg (by decide +kernel), if_neg (by decide +kernel), if_neg (by decide +kernel), if_neg (by decide +kernel), if_pos (by decide +kernel)]; rfl
  · unfold nUf; rw [if_neg (by decide +kernel), if_neg (by decide +kernel), if_neg (by decide +kernel), if_neg (by decide +kernel), if_neg (by decide +kernel), if_neg (by decide +kernel), if_neg (by decide +kernel), if_neg (by decide +kernel), if_neg (by decide +kernel), if_pos (by decide +kernel)]; rfl
  · unfold nUf; rw [if_neg (by decide +kernel), if_neg (by decide +kernel), if_neg (by decide +kernel), if_neg (by decide +kernel), if_neg (by decide +kernel), if_neg (by decide +kernel), if_neg (by decide +kernel), if_neg (by decide +kernel), if_neg (by decide +kernel), if_neg (by decide +kernel), if_pos (by decide +kernel)]; rfl
  · unfold nUf; rw [if_neg (by decide +kernel), if_neg (by decide +kernel), if_neg (by decide +kernel), if_neg (by decide +kernel), if_neg (by decide +kernel), if_neg (by decide +kernel), if_neg (by decide +kernel), if_neg (by decide +kernel), if_neg (by decide +kernel), if_neg (by decide +kernel), if_neg (by decide +kernel)]; rfl
theorem num_I {r y m d : Int32} (hy : -1000000 ≤ y.toInt ∧ y.toInt ≤ 1000000) {j : Nat} (hj : j < 12) (hm : m = nI (j + 1)) (hd : 1 ≤ d.toInt ∧ d.toInt ≤ 31) : (f_X2_number r y m d).toInt = nyI r y.toInt + cum (f_X1_isLeap r y) j + d.toInt - 1 ∧ f_X2_number r y m d = f_X1_firstDayOfYear r y + Int32.toInt64 (f_X1_daysBeforeMonth r y m) + Int32.toInt64 d - 1 := by
  have ey : (Int32.toInt64 y).toInt = y.toInt := Int32.toInt_toInt64 y
  have en := ny_I (r := r) (y := Int32.toInt64 y) (by omega) (by omega)
  rw [ey] at en
  have hb : -1000000000 ≤ nyI r y.toInt ∧ nyI r y.toInt ≤ 1000000000 := by
    unfold nyI
    by_cases c : r = 0
    · rw [if_pos c]; omega
    · rw [if_neg c]; omega
  have hl := leap_eq (r := r) (y := y) (by omega) (by omega)
  have h01 := isLeap_01 r y
  obtain ⟨s1, s2, s3⟩ := smF_I h01 (ny := f_X2_newYear r (Int32.toInt64 y)) (by rw [en]; exact hb) j (by omega)
  rw [en] at s1
  have ed : (Int32.toInt64 d).toInt = d.toInt := Int32.toInt_toInt64 d
  have e1 : (1 : Int64).toInt = 1 := rfl
  have k1 : (f_X2_number r y m d).toInt = nyI r y.toInt + cum (f_X1_isLeap r y) j + d.toInt - 1 := by
    rw [nU_eq, hl, hm, nUf_s j hj]
    have a : (smF (f_X1_isLeap r y) (f_X2_newYear r (Int32.toInt64 y)) j + Int32.toInt64 d).toInt = nyI r y.toInt + cum (f_X1_isLeap r y) j + d.toInt := by rw [a64 (by rw [s1, ed]; omega) (by rw [s1, ed]; omega), s1, ed]
    rw [s64 (by rw [a, e1]; omega) (by rw [a, e1]; omega), a, e1]
  refine ⟨k1, Int64.toInt_inj.mp ?_⟩
  have ef := fd_I (r := r) (y := y) (by omega) (by omega)
  obtain ⟨m1, -, -, -, -⟩ := mon_all h01 hj
  have eb : (Int32.toInt64 (f_X1_daysBeforeMonth r y m)).toInt = cum (f_X1_isLeap r y) j := by rw [Int32.toInt_toInt64, dB_eq, hm, m1]
  have b1 : (f_X1_firstDayOfYear r y + Int32.toInt64 (f_X1_daysBeforeMonth r y m)).toInt = nyI r y.toInt + cum (f_X1_isLeap r y) j := by rw [a64 (by rw [ef, eb]; omega) (by rw [ef, eb]; omega), ef, eb]
  have b2 : (f_X1_firstDayOfYear r y + Int32.toInt64 (f_X1_daysBeforeMonth r y m) + Int32.toInt64 d).toInt = nyI r y.toInt + cum (f_X1_isLeap r y) j + d.toInt := by rw [a64 (by rw [b1, ed]; omega) (by rw [b1, ed]; omega), b1, ed]
  rw [k1, s64 (by rw [b2, e1]; omega) (by rw [b2, e1]; omega), b2, e1]
theorem at_eq (y m d : Int32) : Int32.toInt64 y * 10000 + Int32.toInt64 m * 100 + Int32.toInt64 d = f_X1_day_71_1 y m d ∧ (f_X1_day_71_1 y m d).toInt = y.toInt * 10000 + m.toInt * 100 + d.toInt := by
  have ey : (Int32.toInt64 y).toInt = y.toInt := Int32.toInt_toInt64 y
  have em : (Int32.toInt64 m).toInt = m.toInt := Int32.toInt_toInt64 m
  have ed : (Int32.toInt64 d).toInt = d.toInt := Int32.toInt_toInt64 d
  have y1 := y.le_toInt
  have y2 := y.toInt_lt
  have m1 := m.le_toInt
  have m2 := m.toInt_lt
  have d1 := d.le_toInt
  have d2 := d.toInt_lt
  have k4 : (10000 : Int64).toInt = 10000 := rfl
  have k2 : (100 : Int64).toInt = 100 := rfl
  have a1 : (Int32.toInt64 y * 10000).toInt = y.toInt * 10000 := by rw [m64 (by rw [ey, k4]; omega) (by rw [ey, k4]; omega), ey, k4]
  have a2 : (Int32.toInt64 m * 100).toInt = m.toInt * 100 := by rw [m64 (by rw [em, k2]; omega) (by rw [em, k2]; omega), em, k2]
  have a3 : (Int32.toInt64 y * 10000 + Int32.toInt64 m * 100).toInt = y.toInt * 10000 + m.toInt * 100 := by rw [a64 (by rw [a1, a2]; omega) (by rw [a1, a2]; omega), a1, a2]
  have a4 : (Int32.toInt64 y * 10000 + Int32.toInt64 m * 100 + Int32.toInt64 d).toInt = y.toInt * 10000 + m.toInt * 100 + d.toInt := by rw [a64 (by rw [a3, ed]; omega) (by rw [a3, ed]; omega), a3, ed]
  have b1 : (Int32.toInt64 y * 100).toInt = y.toInt * 100 := by rw [m64 (by rw [ey, k2]; omega) (by rw [ey, k2]; omega), ey, k2]
  have b2 : (Int32.toInt64 y * 100 + Int32.toInt64 m).toInt = y.toInt * 100 + m.toInt := by rw [a64 (by rw [b1, em]; omega) (by rw [b1, em]; omega), b1, em]
  have b3 : ((Int32.toInt64 y * 100 + Int32.toInt64 m) * 100).toInt = (y.toInt * 100 + m.toInt) * 100 := by rw [m64 (by rw [b2, k2]; omega) (by rw [b2, k2]; omega), b2, k2]
  have b4 : (f_X1_day_71_1 y m d).toInt = y.toInt * 10000 + m.toInt * 100 + d.toInt := by
    unfold f_X1_day_71_1
    rw [a64 (by rw [b3, ed]; omega) (by rw [b3, ed]; omega), b3, ed]; omega
  exact ⟨Int64.toInt_inj.mp (by rw [a4, b4]), b4⟩
theorem mon_of {m : Int32} (h1 : 1 ≤ m.toInt) (h2 : m.toInt ≤ 12) : ∃ j, j < 12 ∧ m = nI (j + 1) := by
  refine ⟨(m.toInt - 1).toNat, by omega, Int32.toInt_inj.mp ?_⟩
  rw [nI_toInt (by omega)]; omega
theorem nd_iff {r y m d : Int32} : f_X2_noDate r y m d = 0 ↔ (¬ f_X1_isWholeWithin (Int32.toInt64 y) (-1000000) 1000000 = 0 ∧ ¬ f_X1_isWholeWithin (Int32.toInt64 d) 1 (Int32.toInt64 (f_X1_monthLength r y m)) = 0) := by
  have wy : f_X1_isWholeWithin (Int32.toInt64 y) (-1000000) 1000000 = 0 ↔ (y < -1000000 ∨ 1000000 < y) := ww32 rfl rfl
  have wd : f_X1_isWholeWithin (Int32.toInt64 d) 1 (Int32.toInt64 (f_X1_monthLength r y m)) = 0 ↔ (d < 1 ∨ f_X1_monthLength r y m < d) := ww32 rfl (Int32.toInt_toInt64 _)
  rw [wy, wd]
  unfold f_X2_noDate
  by_cases c1 : y < -1000000
  · rw [if_pos c1]; exact ⟨fun h => absurd h (by decide), fun h => absurd (Or.inl c1) h.1⟩
  · rw [if_neg c1]
    by_cases c2 : 1000000 < y
    · rw [if_pos c2]; exact ⟨fun h => absurd h (by decide), fun h => absurd (Or.inr c2) h.1⟩
    · rw [if_neg c2]
      have hyb : -1400000 ≤ y.toInt ∧ y.toInt ≤ 1400000 := by
        rw [Int32.lt_iff_toInt_lt] at c1 c2
        have : (-1000000 : Int32).toInt = -1000000 := rfl
        have : (1000000 : Int32).toInt = 1000000 := rfl
        omega
      by_cases c3 : m < 1
      · rw [if_pos c3]
        have e : f_X1_monthLength r y m = 0 := by unfold f_X1_monthLength; rw [if_pos c3]
        refine ⟨fun h => absurd h (by decide), fun h => absurd ?_ h.2⟩
        rw [e, Int32.lt_iff_toInt_lt, Int32.lt_iff_toInt_lt, show (1 : Int32).toInt = 1 from rfl, show (0 : Int32).toInt = 0 from rfl]; omega
      · rw [if_neg c3]
        by_cases c4 : 12 < m
        · rw [if_pos c4]
          have e : f_X1_monthLength r y m = 0 := by unfold f_X1_monthLength; rw [if_neg c3, if_neg (fun h => le_nlt h c4)]
          refine ⟨fun h => absurd h (by decide), fun h => absurd ?_ h.2⟩
          rw [e, Int32.lt_iff_toInt_lt, Int32.lt_iff_toInt_lt, show (1 : Int32).toInt = 1 from rfl, show (0 : Int32).toInt = 0 from rfl]; omega
        · rw [if_neg c4]
          obtain ⟨j, hj, rfl⟩ : ∃ j, j < 12 ∧ m = nI (j + 1) := by
            rw [Int32.lt_iff_toInt_lt] at c3 c4
            have : (1 : Int32).toInt = 1 := rfl
            have : (12 : Int32).toInt = 12 := rfl
            exact mon_of (by omega) (by omega)
          have el : f_X2_length r (Int32.toInt64 y) (nI (j + 1)) = f_X1_monthLength r y (nI (j + 1)) := by
            rw [lL_eq, leap_eq hyb.1 hyb.2, mL_eq]; exact (mon_all (isLeap_01 r y) hj).2.2.1
          rw [el]
          by_cases c5 : d < 1
          · rw [if_pos c5]; exact ⟨fun h => absurd h (by decide), fun h => absurd (Or.inl c5) h.2⟩
          · rw [if_neg c5]
            by_cases c6 : d ≤ f_X1_monthLength r y (nI (j + 1))
            · rw [if_pos c6]; exact ⟨fun _ => ⟨fun h => h.elim c1 c2, fun h => h.elim c5 (le_nlt c6)⟩, fun _ => rfl⟩
            · rw [if_neg c6]; exact ⟨fun h => absurd h (by decide), fun h => absurd (Or.inr (nle_lt2 c6)) h.2⟩
/-- what a valid date tells -/
theorem nd_ok {r y m d : Int32} (h : f_X2_noDate r y m d = 0) : (-1000000 ≤ y.toInt ∧ y.toInt ≤ 1000000) ∧ ∃ j, j < 12 ∧ m = nI (j + 1) ∧ 1 ≤ d.toInt ∧ d.toInt ≤ 31 := by
  obtain ⟨h1, h2⟩ := nd_iff.mp h
  have g1 := ww_in h1
  have g2 := ww_in h2
  rw [Int32.toInt_toInt64] at g1 g2
  rw [Int32.toInt_toInt64] at g2
  have e1 : (-1000000 : Int64).toInt = -1000000 := rfl
  have e2 : (1000000 : Int64).toInt = 1000000 := rfl
  have e3 : (1 : Int64).toInt = 1 := rfl
  rw [e1, e2] at g1
  rw [e3] at g2
  refine ⟨g1, ?_⟩
  have hm : ¬ m < 1 ∧ m ≤ 12 := by
    unfold f_X1_monthLength at g2
    by_cases c3 : m < 1
    · rw [if_pos c3, show (0 : Int32).toInt = 0 from rfl] at g2; omega
    · rw [if_neg c3] at g2
      by_cases c4 : m ≤ 12
      · exact ⟨c3, c4⟩
      · rw [if_neg c4, show (0 : Int32).toInt = 0 from rfl] at g2; omega
  obtain ⟨j, hj, rfl⟩ : ∃ j, j < 12 ∧ m = nI (j + 1) := by
    obtain ⟨c3, c4⟩ := hm
    rw [Int32.lt_iff_toInt_lt] at c3
    rw [Int32.le_iff_toInt_le] at c4
    have : (1 : Int32).toInt = 1 := rfl
    have : (12 : Int32).toInt = 12 := rfl
    exact mon_of (by omega) (by omega)
  have := (mon_all (isLeap_01 r y) hj).2.2.2.2
  rw [mL_eq] at g2
  exact ⟨j, hj, rfl, g2.1, by omega⟩
/-- the days that were left out -/
theorem gap_iff {y m d : Int32} (h : f_X2_noDate 1 y m d = 0) (ha : 15821004 < f_X1_day_71_1 y m d) : 2299160 < f_X2_number 1 y m d ↔ 15821015 ≤ f_X1_day_71_1 y m d := by
  obtain ⟨hy, j, hj, hm, hd1, hd2⟩ := nd_ok h
  obtain ⟨n1, -⟩ := num_I (r := 1) hy hj hm ⟨hd1, hd2⟩
  have a1 := (at_eq y m d).2
  have em : m.toInt = j + 1 := by rw [hm, nI_toInt (by omega)]; omega
  rw [Int64.lt_iff_toInt_lt, n1, Int64.le_iff_toInt_le, a1, em, show (2299160 : Int64).toInt = 2299160 from rfl, show (15821015 : Int64).toInt = 15821015 from rfl]
  rw [Int64.lt_iff_toInt_lt, a1, em, show (15821004 : Int64).toInt = 15821004 from rfl] at ha
  have hc := cum_le (r := 1) (y := y) hj
  have k83 : nyI 1 1583 = 2299239 := by decide +kernel
  rcases Int.lt_trichotomy y.toInt 1582 with h9 | h9 | h9
  · omega
  · have k82 : nyI 1 y.toInt = 2298874 := by rw [h9]; decide +kernel
    have hl : f_X1_isLeap 1 y = 0 := by rw [isLeap_I, h9]; decide
    rw [k82, hl]
    have hj9 : j = 9 ∨ j = 10 ∨ j = 11 := by omega
    rcases hj9 with e | e | e <;> subst e
    · rw [show cum 0 9 = 273 by decide +kernel]; omega
    · rw [show cum 0 10 = 304 by decide +kernel]; omega
    · rw [show cum 0 11 = 334 by decide +kernel]; omega
  · have hge : nyI 1 1583 ≤ nyI 1 y.toInt := by
      rcases Int.lt_or_le 1583 y.toInt with h8 | h8
      · have b1 := ny_mono (r := 1) h8
        have k84 : (2299239 : Int) ≤ nyI 1 (1583 + 1) := by decide +kernel
        omega
      · have : y.toInt = 1583 := by omega
        rw [this]; exact Int.le_refl _
    rw [k83] at hge
    omega
theorem at_no {x : Int64} (h1 : ¬ 15821004 < x) (h2 : 15821015 ≤ x) : False := by
  rw [Int64.lt_iff_toInt_lt, show (15821004 : Int64).toInt = 15821004 from rfl] at h1
  rw [Int64.le_iff_toInt_le, show (15821015 : Int64).toInt = 15821015 from rfl] at h2
  omega
theorem nv {r y m d : Int32} (h : f_X2_noDate r y m d = 0) : f_X2_number r y m d = f_X1_firstDayOfYear r y + Int32.toInt64 (f_X1_daysBeforeMonth r y m) + Int32.toInt64 d - 1 := by
  obtain ⟨hy, j, hj, hm, hd1, hd2⟩ := nd_ok h
  exact (num_I hy hj hm ⟨hd1, hd2⟩).2
theorem eq_day (x1 x2 x3 x4 : Int32) : EQ cd1 (f_X1_day x1 x2 x3 x4) (f_X2_day x1 x2 x3 x4) := by
  by_cases g1 : x1 < 0
  · have g2 : (f_X1_isWholeWithin (Int32.toInt64 x1) 0 2) = 0 := (ww32 (a := 0) (b := 2) rfl rfl).mpr (Or.inl g1)
    exact EQ_e (show f_X1_day x1 x2 x3 x4 = .error xIA by unfold f_X1_day; rw [if_pos g2]) (show f_X2_day x1 x2 x3 x4 = (Int32.toInt64 0, 1) from by unfold f_X2_day; rw [if_pos g1]) rfl
  · by_cases g3 : 2 < x1
    · have g4 : (f_X1_isWholeWithin (Int32.toInt64 x1) 0 2) = 0 := (ww32 (a := 0) (b := 2) rfl rfl).mpr (Or.inr g3)
      have g5 : ¬ (x1 ≤ 2) := (fun h => le_nlt h g3)
      exact EQ_e (show f_X1_day x1 x2 x3 x4 = .error xIA by unfold f_X1_day; rw [if_pos g4]) (show f_X2_day x1 x2 x3 x4 = (Int32.toInt64 0, 1) from by unfold f_X2_day; rw [if_neg g1, if_neg g5]) rfl
    · have g6 : ¬ ((f_X1_isWholeWithin (Int32.toInt64 x1) 0 2) = 0) := (fun h9 => ((ww32 (a := 0) (b := 2) rfl rfl).mp h9).elim g1 g3)
      by_cases g7 : x1 = 2
      · by_cases g8 : 15821004 < (f_X1_day_71_1 x2 x3 x4)
        · by_cases g9 : (f_X2_noDate 1 x2 x3 x4) = 0
          · have g10 : ¬ ((f_X1_isWholeWithin (Int32.toInt64 x2) (-1000000) 1000000) = 0) := (nd_iff.mp g9).1
            have g11 : ¬ ((f_X1_isWholeWithin (Int32.toInt64 x4) 1 (Int32.toInt64 (f_X1_monthLength 1 x2 x3))) = 0) := (nd_iff.mp g9).2
            by_cases g12 : 15821015 ≤ (f_X1_day_71_1 x2 x3 x4)
            · have g13 : 2299160 < (f_X1_day_138_2 x2 x3 x4) := (by rw [← show f_X2_number 1 x2 x3 x4 = f_X1_day_138_2 x2 x3 x4 from (nv g9)]; exact (gap_iff g9 g8).mpr g12)
              have g14 : x1 ≤ 2 := (nlt_le g3)
              have g15 : 2 ≤ x1 := (by rw [g7]; decide)
              have g16 : 15821004 < ((((Int32.toInt64 x2) * 10000) + ((Int32.toInt64 x3) * 100)) + (Int32.toInt64 x4)) := (by rw [(at_eq x2 x3 x4).1]; exact g8)
              have g17 : ¬ (((((Int32.toInt64 x2) * 10000) + ((Int32.toInt64 x3) * 100)) + (Int32.toInt64 x4)) ≤ 15821004) := (by rw [(at_eq x2 x3 x4).1]; exact (fun h => le64n h g8))
              have g18 : 15821015 ≤ ((((Int32.toInt64 x2) * 10000) + ((Int32.toInt64 x3) * 100)) + (Int32.toInt64 x4)) := (by rw [(at_eq x2 x3 x4).1]; exact g12)
              exact EQ_o (show f_X1_day x1 x2 x3 x4 = .ok (f_X2_number 1 x2 x3 x4) by unfold f_X1_day; rw [if_neg g6, if_neg g10, if_pos g7, if_pos g8, if_neg g11, if_pos g7, if_pos g13]; exact congrArg Except.ok (nv g9).symm) (show f_X2_day x1 x2 x3 x4 = (f_X2_number 1 x2 x3 x4, 0) from by unfold f_X2_day; rw [if_neg g1, if_pos g14, if_pos g15, if_pos g16, if_pos g7, if_neg g17, if_pos g18, if_pos g9]) rfl
            · have g19 : ¬ (2299160 < (f_X1_day_138_2 x2 x3 x4)) := (by rw [← show f_X2_number 1 x2 x3 x4 = f_X1_day_138_2 x2 x3 x4 from (nv g9)]; exact (fun h => g12 ((gap_iff g9 g8).mp h)))
              have g20 : x1 ≤ 2 := (nlt_le g3)
              have g21 : 2 ≤ x1 := (by rw [g7]; decide)
              have g22 : 15821004 < ((((Int32.toInt64 x2) * 10000) + ((Int32.toInt64 x3) * 100)) + (Int32.toInt64 x4)) := (by rw [(at_eq x2 x3 x4).1]; exact g8)
              have g23 : ¬ (((((Int32.toInt64 x2) * 10000) + ((Int32.toInt64 x3) * 100)) + (Int32.toInt64 x4)) ≤ 15821004) := (by rw [(at_eq x2 x3 x4).1]; exact (fun h => le64n h g8))
              have g24 : ¬ (15821015 ≤ ((((Int32.toInt64 x2) * 10000) + ((Int32.toInt64 x3) * 100)) + (Int32.toInt64 x4))) := (by rw [(at_eq x2 x3 x4).1]; exact g12)
              exact EQ_e (show f_X1_day x1 x2 x3 x4 = .error xIA by unfold f_X1_day; rw [if_neg g6, if_neg g10, if_pos g7, if_pos g8, if_neg g11, if_pos g7, if_neg g19]) (show f_X2_day x1 x2 x3 x4 = (Int32.toInt64 0, 1) from by unfold f_X2_day; rw [if_neg g1, if_pos g20, if_pos g21, if_pos g22, if_pos g7, if_neg g23, if_neg g24, if_pos g9]) rfl
          · by_cases g25 : (f_X1_isWholeWithin (Int32.toInt64 x2) (-1000000) 1000000) = 0
            · have g26 : x1 ≤ 2 := (nlt_le g3)
              have g27 : 2 ≤ x1 := (by rw [g7]; decide)
              have g28 : 15821004 < ((((Int32.toInt64 x2) * 10000) + ((Int32.toInt64 x3) * 100)) + (Int32.toInt64 x4)) := (by rw [(at_eq x2 x3 x4).1]; exact g8)
              have g29 : ¬ (((((Int32.toInt64 x2) * 10000) + ((Int32.toInt64 x3) * 100)) + (Int32.toInt64 x4)) ≤ 15821004) := (by rw [(at_eq x2 x3 x4).1]; exact (fun h => le64n h g8))
              by_cases g30 : 15821015 ≤ (f_X1_day_71_1 x2 x3 x4)
              · have g31 : 15821015 ≤ ((((Int32.toInt64 x2) * 10000) + ((Int32.toInt64 x3) * 100)) + (Int32.toInt64 x4)) := (by rw [(at_eq x2 x3 x4).1]; exact g30)
                exact EQ_e (show f_X1_day x1 x2 x3 x4 = .error xIA by unfold f_X1_day; rw [if_neg g6, if_pos g25]) (show f_X2_day x1 x2 x3 x4 = (Int32.toInt64 0, 1) from by unfold f_X2_day; rw [if_neg g1, if_pos g26, if_pos g27, if_pos g28, if_pos g7, if_neg g29, if_pos g31, if_neg g9]) rfl
              · have g32 : ¬ (15821015 ≤ ((((Int32.toInt64 x2) * 10000) + ((Int32.toInt64 x3) * 100)) + (Int32.toInt64 x4))) := (by rw [(at_eq x2 x3 x4).1]; exact g30)
                exact EQ_e (show f_X1_day x1 x2 x3 x4 = .error xIA by unfold f_X1_day; rw [if_neg g6, if_pos g25]) (show f_X2_day x1 x2 x3 x4 = (Int32.toInt64 0, 1) from by unfold f_X2_day; rw [if_neg g1, if_pos g26, if_pos g27, if_pos g28, if_pos g7, if_neg g29, if_neg g32, if_neg g9]) rfl
            · have g33 : (f_X1_isWholeWithin (Int32.toInt64 x4) 1 (Int32.toInt64 (f_X1_monthLength 1 x2 x3))) = 0 := (Classical.not_not.mp (fun h => g9 (nd_iff.mpr ⟨g25, h⟩)))
              have g34 : x1 ≤ 2 := (nlt_le g3)
              have g35 : 2 ≤ x1 := (by rw [g7]; decide)
              have g36 : 15821004 < ((((Int32.toInt64 x2) * 10000) + ((Int32.toInt64 x3) * 100)) + (Int32.toInt64 x4)) := (by rw [(at_eq x2 x3 x4).1]; exact g8)
              have g37 : ¬ (((((Int32.toInt64 x2) * 10000) + ((Int32.toInt64 x3) * 100)) + (Int32.toInt64 x4)) ≤ 15821004) := (by rw [(at_eq x2 x3 x4).1]; exact (fun h => le64n h g8))
              by_cases g38 : 15821015 ≤ (f_X1_day_71_1 x2 x3 x4)
              · have g39 : 15821015 ≤ ((((Int32.toInt64 x2) * 10000) + ((Int32.toInt64 x3) * 100)) + (Int32.toInt64 x4)) := (by rw [(at_eq x2 x3 x4).1]; exact g38)
                exact EQ_e (show f_X1_day x1 x2 x3 x4 = .error xIA by unfold f_X1_day; rw [if_neg g6, if_neg g25, if_pos g7, if_pos g8, if_pos g33]) (show f_X2_day x1 x2 x3 x4 = (Int32.toInt64 0, 1) from by unfold f_X2_day; rw [if_neg g1, if_pos g34, if_pos g35, if_pos g36, if_pos g7, if_neg g37, if_pos g39, if_neg g9]) rfl
              · have g40 : ¬ (15821015 ≤ ((((Int32.toInt64 x2) * 10000) + ((Int32.toInt64 x3) * 100)) + (Int32.toInt64 x4))) := (by rw [(at_eq x2 x3 x4).1]; exact g38)
                exact EQ_e (show f_X1_day x1 x2 x3 x4 = .error xIA by unfold f_X1_day; rw [if_neg g6, if_neg g25, if_pos g7, if_pos g8, if_pos g33]) (show f_X2_day x1 x2 x3 x4 = (Int32.toInt64 0, 1) from by unfold f_X2_day; rw [if_neg g1, if_pos g34, if_pos g35, if_pos g36, if_pos g7, if_neg g37, if_neg g40, if_neg g9]) rfl
        · by_cases g41 : (f_X2_noDate 0 x2 x3 x4) = 0
          · have g42 : ¬ ((f_X1_isWholeWithin (Int32.toInt64 x2) (-1000000) 1000000) = 0) := (nd_iff.mp g41).1
            have g43 : ¬ ((f_X1_isWholeWithin (Int32.toInt64 x4) 1 (Int32.toInt64 (f_X1_monthLength 0 x2 x3))) = 0) := (nd_iff.mp g41).2
            have g44 : x1 ≤ 2 := (nlt_le g3)
            have g45 : 2 ≤ x1 := (by rw [g7]; decide)
            have g46 : ¬ (15821004 < ((((Int32.toInt64 x2) * 10000) + ((Int32.toInt64 x3) * 100)) + (Int32.toInt64 x4))) := (by rw [(at_eq x2 x3 x4).1]; exact g8)
            have g47 : ((((Int32.toInt64 x2) * 10000) + ((Int32.toInt64 x3) * 100)) + (Int32.toInt64 x4)) ≤ 15821004 := (by rw [(at_eq x2 x3 x4).1]; exact (nlt64 g8))
            exact EQ_o (show f_X1_day x1 x2 x3 x4 = .ok (f_X2_number 0 x2 x3 x4) by unfold f_X1_day; rw [if_neg g6, if_neg g42, if_pos g7, if_neg g8, if_neg g43, if_pos g7]; exact congrArg Except.ok (nv g41).symm) (show f_X2_day x1 x2 x3 x4 = (f_X2_number 0 x2 x3 x4, 0) from by unfold f_X2_day; rw [if_neg g1, if_pos g44, if_pos g45, if_neg g46, if_pos g7, if_pos g47, if_pos g41]) rfl
          · by_cases g48 : (f_X1_isWholeWithin (Int32.toInt64 x2) (-1000000) 1000000) = 0
            · have g49 : x1 ≤ 2 := (nlt_le g3)
              have g50 : 2 ≤ x1 := (by rw [g7]; decide)
              have g51 : ¬ (15821004 < ((((Int32.toInt64 x2) * 10000) + ((Int32.toInt64 x3) * 100)) + (Int32.toInt64 x4))) := (by rw [(at_eq x2 x3 x4).1]; exact g8)
              have g52 : ((((Int32.toInt64 x2) * 10000) + ((Int32.toInt64 x3) * 100)) + (Int32.toInt64 x4)) ≤ 15821004 := (by rw [(at_eq x2 x3 x4).1]; exact (nlt64 g8))
              exact EQ_e (show f_X1_day x1 x2 x3 x4 = .error xIA by unfold f_X1_day; rw [if_neg g6, if_pos g48]) (show f_X2_day x1 x2 x3 x4 = (Int32.toInt64 0, 1) from by unfold f_X2_day; rw [if_neg g1, if_pos g49, if_pos g50, if_neg g51, if_pos g7, if_pos g52, if_neg g41]) rfl
            · have g53 : (f_X1_isWholeWithin (Int32.toInt64 x4) 1 (Int32.toInt64 (f_X1_monthLength 0 x2 x3))) = 0 := (Classical.not_not.mp (fun h => g41 (nd_iff.mpr ⟨g48, h⟩)))
              have g54 : x1 ≤ 2 := (nlt_le g3)
              have g55 : 2 ≤ x1 := (by rw [g7]; decide)
              have g56 : ¬ (15821004 < ((((Int32.toInt64 x2) * 10000) + ((Int32.toInt64 x3) * 100)) + (Int32.toInt64 x4))) := (by rw [(at_eq x2 x3 x4).1]; exact g8)
              have g57 : ((((Int32.toInt64 x2) * 10000) + ((Int32.toInt64 x3) * 100)) + (Int32.toInt64 x4)) ≤ 15821004 := (by rw [(at_eq x2 x3 x4).1]; exact (nlt64 g8))
              exact EQ_e (show f_X1_day x1 x2 x3 x4 = .error xIA by unfold f_X1_day; rw [if_neg g6, if_neg g48, if_pos g7, if_neg g8, if_pos g53]) (show f_X2_day x1 x2 x3 x4 = (Int32.toInt64 0, 1) from by unfold f_X2_day; rw [if_neg g1, if_pos g54, if_pos g55, if_neg g56, if_pos g7, if_pos g57, if_neg g41]) rfl
      · by_cases g58 : (f_X2_noDate x1 x2 x3 x4) = 0
        · have g59 : ¬ ((f_X1_isWholeWithin (Int32.toInt64 x2) (-1000000) 1000000) = 0) := (nd_iff.mp g58).1
          have g60 : ¬ ((f_X1_isWholeWithin (Int32.toInt64 x4) 1 (Int32.toInt64 (f_X1_monthLength x1 x2 x3))) = 0) := (nd_iff.mp g58).2
          have g61 : x1 ≤ 2 := (nlt_le g3)
          have g62 : ¬ (2 ≤ x1) := (fun h => le_nlt h (c2_lt g3 g7))
          exact EQ_o (show f_X1_day x1 x2 x3 x4 = .ok (f_X2_number x1 x2 x3 x4) by unfold f_X1_day; rw [if_neg g6, if_neg g59, if_neg g7, if_neg g60, if_neg g7]; exact congrArg Except.ok (nv g58).symm) (show f_X2_day x1 x2 x3 x4 = (f_X2_number x1 x2 x3 x4, 0) from by unfold f_X2_day; rw [if_neg g1, if_pos g61, if_neg g62, if_neg g7, if_pos g58]) rfl
        · by_cases g63 : (f_X1_isWholeWithin (Int32.toInt64 x2) (-1000000) 1000000) = 0
          · have g64 : x1 ≤ 2 := (nlt_le g3)
            have g65 : ¬ (2 ≤ x1) := (fun h => le_nlt h (c2_lt g3 g7))
            exact EQ_e (show f_X1_day x1 x2 x3 x4 = .error xIA by unfold f_X1_day; rw [if_neg g6, if_pos g63]) (show f_X2_day x1 x2 x3 x4 = (Int32.toInt64 0, 1) from by unfold f_X2_day; rw [if_neg g1, if_pos g64, if_neg g65, if_neg g7, if_neg g58]) rfl
          · have g66 : (f_X1_isWholeWithin (Int32.toInt64 x4) 1 (Int32.toInt64 (f_X1_monthLength x1 x2 x3))) = 0 := (Classical.not_not.mp (fun h => g58 (nd_iff.mpr ⟨g63, h⟩)))
            have g67 : x1 ≤ 2 := (nlt_le g3)
            have g68 : ¬ (2 ≤ x1) := (fun h => le_nlt h (c2_lt g3 g7))
            exact EQ_e (show f_X1_day x1 x2 x3 x4 = .error xIA by unfold f_X1_day; rw [if_neg g6, if_neg g63, if_neg g7, if_pos g66]) (show f_X2_day x1 x2 x3 x4 = (Int32.toInt64 0, 1) from by unfold f_X2_day; rw [if_neg g1, if_pos g67, if_neg g68, if_neg g7, if_neg g58]) rfl