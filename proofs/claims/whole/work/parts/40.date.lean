/-! ===== dates ===== -/
def BYr (x1 : Int32) (x2 : Int64) : Int32 := if x1 < 2 then x1 else if x2 < 2299161 then 0 else 1
abbrev dtY (r : Int32) (x2 : Int64) : Int32 := f_X1_yearOfDay r x2
abbrev dtW (r : Int32) (x2 : Int64) : Int32 := Int64.toInt32 (x2 - f_X1_firstDayOfYear r (f_X1_yearOfDay r x2)) + 1
abbrev dtM (r : Int32) (x2 : Int64) : Int32 := f_X1_monthOfDayWithinYear r (f_X1_yearOfDay r x2) (dtW r x2)
def DTE (c r : Int32) (x2 : Int64) (x3 : Int32) : Except String Int32 := if f_X1_isWholeWithin (Int32.toInt64 (dtY r x2)) (-1000000) 1000000 = 0 then .error xIA else if x3 = 0 then .ok (dtY r x2) else if x3 = 3 then (if c = 2 ∧ r = 1 ∧ dtY r x2 = 1582 then .ok (dtW r x2 - 10) else .ok (dtW r x2)) else if x3 = 1 then .ok (dtM r x2) else .ok (dtW r x2 - f_X1_daysBeforeMonth r (dtY r x2) (dtM r x2))
theorem DTE_of {c r : Int32} {x2 : Int64} {x3 : Int32} {q : Except String Int32} (hq : q = if c = 2 ∧ r = 1 ∧ dtY r x2 = 1582 then .ok (dtW r x2 - 10) else .ok (dtW r x2)) : (if f_X1_isWholeWithin (Int32.toInt64 (dtY r x2)) (-1000000) 1000000 = 0 then (Except.error xIA) else (if x3 = 0 then (Except.ok (dtY r x2)) else (if x3 = 3 then q else (if x3 = 1 then (Except.ok (dtM r x2)) else (Except.ok (dtW r x2 - f_X1_daysBeforeMonth r (dtY r x2) (dtM r x2))))))) = DTE c r x2 x3 := by
  rw [hq]; rfl
theorem c2_lt {x : Int32} (h1 : ¬ 2 < x) (h2 : ¬ x = 2) : x < 2 := by
  rw [Int32.lt_iff_toInt_lt] at h1 ⊢
  have : (2 : Int32).toInt = 2 := rfl
  rcases Int.lt_trichotomy x.toInt 2 with h | h | h
  · omega
  · exact absurd (Int32.toInt_inj.mp h) h2
  · omega
theorem c60 {x : Int64} (d : 2299160 < x) : ¬ x < 2299161 := by
  rw [Int64.lt_iff_toInt_lt] at d ⊢
  have : (2299160 : Int64).toInt = 2299160 := rfl
  have : (2299161 : Int64).toInt = 2299161 := rfl
  omega
theorem c61 {x : Int64} (d : ¬ 2299160 < x) : x < 2299161 := by
  rw [Int64.lt_iff_toInt_lt] at d ⊢
  have : (2299160 : Int64).toInt = 2299160 := rfl
  have : (2299161 : Int64).toInt = 2299161 := rfl
  omega
theorem dt_eq {x1 : Int32} {x2 : Int64} {x3 : Int32} (a1 : ¬ x1 < 0) (a2 : ¬ 2 < x1) (b1 : -400000000 ≤ x2.toInt) (b2 : x2.toInt ≤ 400000000) (c1 : ¬ x3 < 0) (c2 : ¬ 3 < x3) : f_X1_date x1 x2 x3 = DTE x1 (BYr x1 x2) x2 x3 := by
  have w1 : ¬ f_X1_isWholeWithin (Int32.toInt64 x1) 0 2 = 0 := fun h9 => ((ww32 rfl rfl).mp h9).elim a1 a2
  have w3 : ¬ f_X1_isWholeWithin (Int32.toInt64 x3) 0 3 = 0 := fun h9 => ((ww32 rfl rfl).mp h9).elim c1 c2
  have w2 : ¬ f_X1_isWholeWithin x2 (-400000000) 400000000 = 0 := fun h9 => ww_out h9 ⟨b1, b2⟩
  unfold f_X1_date
  rw [if_neg w1, if_neg w2, if_neg w3]
  by_cases c : x1 = 2
  · rw [if_pos c]
    have h2 : BYr x1 x2 = if x2 < 2299161 then 0 else 1 := by unfold BYr; rw [if_neg (by rw [c]; decide)]
    by_cases d : 2299160 < x2
    · rw [if_pos d, show BYr x1 x2 = 1 by rw [h2, if_neg (c60 d)]]
      refine DTE_of ?_
      rw [if_pos c]
      by_cases e : f_X1_yearOfDay 1 x2 = 1582
      · rw [if_pos e, if_pos ⟨c, rfl, e⟩]; rfl
      · rw [if_neg e, if_neg (fun h => e h.2.2)]; rfl
    · rw [if_neg d, show BYr x1 x2 = 0 by rw [h2, if_pos (c61 d)]]
      refine DTE_of ?_
      rw [if_pos c, if_neg (fun h => absurd h.2.1 (by decide))]; rfl
  · rw [if_neg c]
    have h2 : BYr x1 x2 = x1 := by unfold BYr; rw [if_pos (c2_lt a2 c)]
    rw [h2]
    refine DTE_of ?_
    rw [if_neg c, if_neg (fun h => c h.1)]; rfl
/-- what the walk of a date needs -/
theorem dt_env {r : Int32} {x2 : Int64} (hd : -400000000 ≤ x2.toInt ∧ x2.toInt ≤ 400000000) :
    (-1110000 ≤ (dtY r x2).toInt ∧ (dtY r x2).toInt ≤ 1110000) ∧ (x2 - f_X2_newYear r (YOF r x2)).toInt = x2.toInt - nyI r (dtY r x2).toInt ∧ f_X2_leap r (YOF r x2) = f_X1_isLeap r (dtY r x2) ∧
    (0 ≤ x2.toInt - nyI r (dtY r x2).toInt ∧ x2.toInt - nyI r (dtY r x2).toInt < 365 + (f_X1_isLeap r (dtY r x2)).toInt) ∧ (dtW r x2).toInt = x2.toInt - nyI r (dtY r x2).toInt + 1 := by
  obtain ⟨h1, h2⟩ : nyI r (dtY r x2).toInt ≤ x2.toInt ∧ x2.toInt < nyI r ((dtY r x2).toInt + 1) := yd_I (r := r) hd
  have b1 : (dtY r x2).toInt ≤ 1100000 := (ny_bd (r := r) hd).1 h1
  have b2 : -1110000 ≤ (dtY r x2).toInt := (ny_bd (r := r) hd).2 h2
  have hl := leap_len (r := r) (y := dtY r x2)
  have ey : (YOF r x2).toInt = (dtY r x2).toInt := Int32.toInt_toInt64 _
  have en := ny_I (r := r) (y := YOF r x2) (by rw [ey]; omega) (by rw [ey]; omega)
  rw [ey] at en
  have l01 := isLeap_01 r (dtY r x2)
  have ll : (f_X1_isLeap r (dtY r x2)).toInt = 0 ∨ (f_X1_isLeap r (dtY r x2)).toInt = 1 := by
    rcases l01 with h | h <;> rw [h]
    · exact Or.inl rfl
    · exact Or.inr rfl
  have ef := fd_I (r := r) (y := dtY r x2) (by omega) (by omega)
  have hny : nyI r (dtY r x2).toInt ≤ 400000000 ∧ -400000400 ≤ nyI r (dtY r x2).toInt := by omega
  refine ⟨by omega, ?_, leap_eq (y := dtY r x2) (by omega) (by omega), by omega, ?_⟩
  · rw [s64 (by rw [en]; omega) (by rw [en]; omega), en]
  · have es : (x2 - f_X1_firstDayOfYear r (f_X1_yearOfDay r x2)).toInt = x2.toInt - nyI r (dtY r x2).toInt := by rw [s64 (by rw [ef]; omega) (by rw [ef]; omega), ef]
    have e1 : (1 : Int32).toInt = 1 := rfl
    have el : (Int64.toInt32 (x2 - f_X1_firstDayOfYear r (f_X1_yearOfDay r x2))).toInt = x2.toInt - nyI r (dtY r x2).toInt := by rw [l2i_toInt (by rw [es]; omega) (by rw [es]; omega), es]
    rw [a32 (by rw [el, e1]; omega) (by rw [el, e1]; omega), el, e1]
theorem lp_02 {r y : Int32} : (f_X1_isLeap r y).toInt = 0 ∨ (f_X1_isLeap r y).toInt = 1 := by
  rcases isLeap_01 r y with h | h <;> rw [h]
  · exact Or.inl rfl
  · exact Or.inr rfl
/-- the month that the day lies in -/
theorem dt_M {r : Int32} {x2 : Int64} (hd : -400000000 ≤ x2.toInt ∧ x2.toInt ≤ 400000000) {j : Nat} (hj : j < 12) (h1 : cum (f_X1_isLeap r (dtY r x2)) j ≤ x2.toInt - nyI r (dtY r x2).toInt) (h2 : x2.toInt - nyI r (dtY r x2).toInt < cum (f_X1_isLeap r (dtY r x2)) (j + 1)) : dtM r x2 = nI (j + 1) := by
  obtain ⟨-, -, -, e3, e4⟩ := dt_env (r := r) hd
  have hw : dtW r x2 = nI ((x2.toInt - nyI r (dtY r x2).toInt).toNat + 1) := by
    refine Int32.toInt_inj.mp ?_
    have := lp_02 (r := r) (y := dtY r x2)
    rw [e4, nI_toInt (by omega)]; omega
  have hd2 : ((x2.toInt - nyI r (dtY r x2).toInt).toNat : Int) = x2.toInt - nyI r (dtY r x2).toInt := by omega
  unfold dtM
  rw [mO_eq, hw]
  rcases isLeap_01 r (dtY r x2) with h | h
  · rw [show f_X1_isLeap r (f_X1_yearOfDay r x2) = 0 from h]
    rw [h] at h1 h2 e3
    have e0 : (0 : Int32).toInt = 0 := rfl
    exact mO_0 _ (by omega) j hj (by rw [hd2]; exact h1) (by rw [hd2]; exact h2)
  · rw [show f_X1_isLeap r (f_X1_yearOfDay r x2) = 1 from h]
    rw [h] at h1 h2 e3
    have e0 : (1 : Int32).toInt = 1 := rfl
    exact mO_1 _ (by omega) j hj (by rw [hd2]; exact h1) (by rw [hd2]; exact h2)
theorem dt_len {r : Int32} {x2 : Int64} (hd : -400000000 ≤ x2.toInt ∧ x2.toInt ≤ 400000000) {j : Nat} (hj : j < 12) : (Int32.toInt64 (f_X2_length r (YOF r x2) (nI (j + 1)))).toInt = cum (f_X1_isLeap r (dtY r x2)) (j + 1) - cum (f_X1_isLeap r (dtY r x2)) j ∧ 28 ≤ cum (f_X1_isLeap r (dtY r x2)) (j + 1) - cum (f_X1_isLeap r (dtY r x2)) j ∧ cum (f_X1_isLeap r (dtY r x2)) (j + 1) - cum (f_X1_isLeap r (dtY r x2)) j ≤ 31 := by
  obtain ⟨-, -, e2, -, -⟩ := dt_env (r := r) hd
  obtain ⟨m1, m2, m3, m4, m5⟩ := mon_all (isLeap_01 r (dtY r x2)) hj
  rw [Int32.toInt_toInt64, lL_eq, e2, m3]
  exact ⟨m2, by omega, by omega⟩
theorem cum_le {r y : Int32} {j : Nat} (hj : j < 12) : 0 ≤ cum (f_X1_isLeap r y) j ∧ cum (f_X1_isLeap r y) j ≤ 400 := by
  rcases isLeap_01 r y with h | h <;> rw [h]
  · exact (show ∀ j : Nat, j < 12 → 0 ≤ cum 0 j ∧ cum 0 j ≤ 400 by decide +kernel) j hj
  · exact (show ∀ j : Nat, j < 12 → 0 ≤ cum 1 j ∧ cum 1 j ≤ 400 by decide +kernel) j hj
/-- what = 2 -/
theorem dt_2 {r : Int32} {x2 rs : Int64} (hd : -400000000 ≤ x2.toInt ∧ x2.toInt ≤ 400000000) {j : Nat} (hj : j < 12) (hrs : rs.toInt = x2.toInt - nyI r (dtY r x2).toInt - cum (f_X1_isLeap r (dtY r x2)) j) (h1 : cum (f_X1_isLeap r (dtY r x2)) j ≤ x2.toInt - nyI r (dtY r x2).toInt) (h2 : x2.toInt - nyI r (dtY r x2).toInt < cum (f_X1_isLeap r (dtY r x2)) (j + 1)) : Int64.toInt32 rs + 1 = dtW r x2 - f_X1_daysBeforeMonth r (dtY r x2) (dtM r x2) := by
  rw [dt_M hd hj h1 h2, dB_eq]
  obtain ⟨-, -, -, e3, e4⟩ := dt_env (r := r) hd
  obtain ⟨m1, -, -, -, -⟩ := mon_all (isLeap_01 r (dtY r x2)) hj
  have hc := cum_le (r := r) (y := dtY r x2) hj
  have hl := lp_02 (r := r) (y := dtY r x2)
  have e1 : (1 : Int32).toInt = 1 := rfl
  have el : (Int64.toInt32 rs).toInt = rs.toInt := l2i_toInt (by omega) (by omega)
  refine Int32.toInt_inj.mp ?_
  rw [a32 (by rw [el, e1]; omega) (by rw [el, e1]; omega), s32 (by rw [e4, m1]; omega) (by rw [e4, m1]; omega), el, e1, e4, m1]
  omega
/-- what = 3 -/
theorem dt_3 {x1 : Int32} {x2 : Int64} (a1 : ¬ x1 < 0) (a2 : ¬ 2 < x1) (hd : -400000000 ≤ x2.toInt ∧ x2.toInt ≤ 400000000) {fr : Int32} (hfr : fr = if x1 = 2 then (if YOF (BYr x1 x2) x2 ≤ 1582 then 0 else BYr x1 x2) else BYr x1 x2) : Int64.toInt32 (x2 - f_X2_newYear fr (YOF (BYr x1 x2) x2)) + 1 = if x1 = 2 ∧ BYr x1 x2 = 1 ∧ dtY (BYr x1 x2) x2 = 1582 then dtW (BYr x1 x2) x2 - 10 else dtW (BYr x1 x2) x2 := by
  obtain ⟨e0, e1', e2, e3, e4⟩ := dt_env (r := BYr x1 x2) hd
  obtain ⟨y1, y2⟩ : nyI (BYr x1 x2) (dtY (BYr x1 x2) x2).toInt ≤ x2.toInt ∧ x2.toInt < nyI (BYr x1 x2) ((dtY (BYr x1 x2) x2).toInt + 1) := yd_I (r := BYr x1 x2) hd
  have hlp := lp_02 (r := BYr x1 x2) (y := dtY (BYr x1 x2) x2)
  have e1 : (1 : Int32).toInt = 1 := rfl
  have ey : (YOF (BYr x1 x2) x2).toInt = (dtY (BYr x1 x2) x2).toInt := Int32.toInt_toInt64 _
  have e82 : (1582 : Int64).toInt = 1582 := rfl
  have e82' : (1582 : Int32).toInt = 1582 := rfl
  have en := ny_I (r := fr) (y := YOF (BYr x1 x2) x2) (by rw [ey]; omega) (by rw [ey]; omega)
  rw [ey] at en
  have same : fr = BYr x1 x2 → Int64.toInt32 (x2 - f_X2_newYear fr (YOF (BYr x1 x2) x2)) + 1 = dtW (BYr x1 x2) x2 := by
    intro h
    rw [h]
    refine Int32.toInt_inj.mp ?_
    have el : (Int64.toInt32 (x2 - f_X2_newYear (BYr x1 x2) (YOF (BYr x1 x2) x2))).toInt = x2.toInt - nyI (BYr x1 x2) (dtY (BYr x1 x2) x2).toInt := by rw [l2i_toInt (by rw [e1']; omega) (by rw [e1']; omega), e1']
    rw [a32 (by rw [el, e1]; omega) (by rw [el, e1]; omega), el, e1, e4]
  by_cases c : x1 = 2
  · rw [if_pos c] at hfr
    have hb : BYr x1 x2 = if x2 < 2299161 then 0 else 1 := by unfold BYr; rw [if_neg (by rw [c]; decide)]
    by_cases d : x2 < 2299161
    · rw [if_pos d] at hb
      rw [if_neg (fun h => absurd (hb.symm.trans h.2.1) (by decide))]
      refine same ?_
      rw [hfr, hb]; split <;> rfl
    · rw [if_neg d] at hb
      rw [Int64.lt_iff_toInt_lt, show (2299161 : Int64).toInt = 2299161 from rfl] at d
      -- the year is 1582 or later
      have hyr : 1582 ≤ (dtY (BYr x1 x2) x2).toInt := by
        have k : nyI (BYr x1 x2) 1582 = 2298874 := by rw [hb]; decide +kernel
        have k2 : nyI (BYr x1 x2) 1583 = 2299239 := by rw [hb]; decide +kernel
        rcases Int.lt_or_le (dtY (BYr x1 x2) x2).toInt 1582 with h | h
        · have := ny_mono (r := BYr x1 x2) h; omega
        · exact h
      by_cases g : YOF (BYr x1 x2) x2 ≤ 1582
      · rw [if_pos g] at hfr
        rw [Int64.le_iff_toInt_le, ey, e82] at g
        have h82 : (dtY (BYr x1 x2) x2).toInt = 1582 := by omega
        rw [if_pos ⟨c, hb, Int32.toInt_inj.mp (by rw [h82]; rfl)⟩]
        have k : nyI (BYr x1 x2) 1582 = 2298874 := by rw [hb]; decide +kernel
        have k0 : nyI fr 1582 = 2298884 := by rw [hfr]; decide +kernel
        rw [h82, k0] at en
        rw [h82, k] at e3 e4
        have es : (x2 - f_X2_newYear fr (YOF (BYr x1 x2) x2)).toInt = x2.toInt - 2298884 := by rw [s64 (by rw [en]; omega) (by rw [en]; omega), en]
        have el : (Int64.toInt32 (x2 - f_X2_newYear fr (YOF (BYr x1 x2) x2))).toInt = x2.toInt - 2298884 := by rw [l2i_toInt (by rw [es]; omega) (by rw [es]; omega), es]
        have e10 : (10 : Int32).toInt = 10 := rfl
        refine Int32.toInt_inj.mp ?_
        rw [a32 (by rw [el, e1]; omega) (by rw [el, e1]; omega), s32 (by rw [e4, e10]; omega) (by rw [e4, e10]; omega), el, e1, e4, e10]; omega
      · rw [if_neg g] at hfr
        rw [Int64.le_iff_toInt_le, ey, e82] at g
        rw [if_neg (fun h => g (by rw [h.2.2, e82']; omega))]
        exact same hfr
  · rw [if_neg c] at hfr
    rw [if_neg (fun h => c h.1)]
    exact same hfr