/-! ===== the class's answers and the reference's ===== -/
def EQ {α : Type} (cd : Except String α → Int32) (x : Except String α) (y : α × Int32) : Prop := y.2 = cd x ∧ ∀ v, x = .ok v → y.1 = v
theorem EQ_e {α : Type} {cd : Except String α → Int32} {x : Except String α} {y : α × Int32} {e : String} {w : α} {n : Int32} (hx : x = .error e) (hy : y = (w, n)) (h : cd (.error e) = n) : EQ cd x y := by
  subst hx hy; exact ⟨h.symm, fun v hv => by cases hv⟩
theorem EQ_o {α : Type} {cd : Except String α → Int32} {x : Except String α} {y : α × Int32} {w : α} (hx : x = .ok w) (hy : y = (w, 0)) (h : cd (.ok w) = 0) : EQ cd x y := by
  subst hx hy; exact ⟨h.symm, fun v hv => by cases hv; rfl⟩
def cdO {α : Type} : Except String α → Int32
  | .ok _ => 0
  | .error e => if e = xIO then 1 else 2
theorem le3_lt4 {x : Int32} : x ≤ 3 ↔ x < 4 := by
  rw [Int32.le_iff_toInt_le, Int32.lt_iff_toInt_lt]
  have : (4 : Int32).toInt = 4 := rfl
  have : (3 : Int32).toInt = 3 := rfl
  omega
theorem eq_observer (la ea x1 x2 : UInt64)  : EQ cd1 (f_X1_observer la ea x1 x2) (f_X2_observer la ea x1 x2) := by
  by_cases g1 : f_X1_isWithin x1 13859405640767635456 4636033603912859648 = 0
  · have g2 : (f_X2_within x1 13859405640767635456 4636033603912859648) = 0 := g1
    exact EQ_e (show f_X1_observer la ea x1 x2 = .error xIA from by unfold f_X1_observer; rw [if_pos g1]) (show f_X2_observer la ea x1 x2 = (0, 1) from by unfold f_X2_observer; rw [if_pos g2]) rfl
  · by_cases g3 : f_X1_isWithin x2 13863909240395005952 4640537203540230144 = 0
    · have g4 : ¬ ((f_X2_within x1 13859405640767635456 4636033603912859648) = 0) := g1
      have g5 : (f_X2_within x2 13863909240395005952 4640537203540230144) = 0 := g3
      exact EQ_e (show f_X1_observer la ea x1 x2 = .error xIA from by unfold f_X1_observer; rw [if_neg g1, if_pos g3]) (show f_X2_observer la ea x1 x2 = (0, 1) from by unfold f_X2_observer; rw [if_neg g4, if_pos g5]) rfl
    · by_cases g6 : deq x1 la
      · by_cases g7 : deq x2 ea
        · have g8 : ¬ ((f_X2_within x1 13859405640767635456 4636033603912859648) = 0) := g1
          have g9 : ¬ ((f_X2_within x2 13863909240395005952 4640537203540230144) = 0) := g3
          exact EQ_o (show f_X1_observer la ea x1 x2 = .ok (0) from by unfold f_X1_observer; rw [if_neg g1, if_neg g3, if_pos g6, if_pos g7]) (show f_X2_observer la ea x1 x2 = (0, 0) from by unfold f_X2_observer; rw [if_neg g8, if_neg g9, if_pos g6, if_pos g7]) rfl
        · have g10 : ¬ ((f_X2_within x1 13859405640767635456 4636033603912859648) = 0) := g1
          have g11 : ¬ ((f_X2_within x2 13863909240395005952 4640537203540230144) = 0) := g3
          exact EQ_o (show f_X1_observer la ea x1 x2 = .ok (1) from by unfold f_X1_observer; rw [if_neg g1, if_neg g3, if_pos g6, if_neg g7]) (show f_X2_observer la ea x1 x2 = (1, 0) from by unfold f_X2_observer; rw [if_neg g10, if_neg g11, if_pos g6, if_neg g7]) rfl
      · have g12 : ¬ ((f_X2_within x1 13859405640767635456 4636033603912859648) = 0) := g1
        have g13 : ¬ ((f_X2_within x2 13863909240395005952 4640537203540230144) = 0) := g3
        exact EQ_o (show f_X1_observer la ea x1 x2 = .ok (1) from by unfold f_X1_observer; rw [if_neg g1, if_neg g3, if_neg g6]) (show f_X2_observer la ea x1 x2 = (1, 0) from by unfold f_X2_observer; rw [if_neg g12, if_neg g13, if_neg g6]) rfl
theorem eq_sidereal (x1 : UInt64) : EQ cd1 (f_X1_sidereal x1) (f_X2_sidereal x1) := by
  by_cases g : f_X1_isTime x1 = 0
  · exact EQ_e (show f_X1_sidereal x1 = .error xIA by unfold f_X1_sidereal; rw [if_pos g]) (show f_X2_sidereal x1 = (FP.i2d 0, 1) by unfold f_X2_sidereal; rw [if_pos (show f_X2_within x1 13920209183539462144 4696837146684686336 = 0 from g)]) rfl
  · exact EQ_o (show f_X1_sidereal x1 = .ok (SID x1) by unfold f_X1_sidereal; rw [if_neg g]) (show f_X2_sidereal x1 = (SID x1, 0) by unfold f_X2_sidereal; rw [if_neg (show ¬ f_X2_within x1 13920209183539462144 4696837146684686336 = 0 from g)]) rfl
theorem eq_angle (x1 x2 x3 : Int32) (x4 : UInt64)  : EQ cd1 (f_X1_angle x1 x2 x3 x4) (f_X2_angle x1 x2 x3 x4) := by
  by_cases g1 : x1 = 1
  · by_cases g2 : x2 < 0
    · have g3 : (f_X1_isWholeWithin (Int32.toInt64 x2) 0 360) = 0 := (ww32 (a := 0) (b := 360) rfl rfl).mpr (Or.inl g2)
      exact EQ_e (show f_X1_angle x1 x2 x3 x4 = .error xIA from by unfold f_X1_angle; rw [if_pos g1, if_pos g3]) (show f_X2_angle x1 x2 x3 x4 = (FP.i2d 0, 1) from by unfold f_X2_angle; rw [if_pos g1, if_pos g2]) rfl
    · by_cases g4 : 360 < x2
      · have g5 : (f_X1_isWholeWithin (Int32.toInt64 x2) 0 360) = 0 := (ww32 (a := 0) (b := 360) rfl rfl).mpr (Or.inr g4)
        exact EQ_e (show f_X1_angle x1 x2 x3 x4 = .error xIA from by unfold f_X1_angle; rw [if_pos g1, if_pos g5]) (show f_X2_angle x1 x2 x3 x4 = (FP.i2d 0, 1) from by unfold f_X2_angle; rw [if_pos g1, if_neg g2, if_pos g4]) rfl
      · have g6 : ¬ ((f_X1_isWholeWithin (Int32.toInt64 x2) 0 360) = 0) := (fun h9 => ((ww32 (a := 0) (b := 360) rfl rfl).mp h9).elim g2 g4)
        by_cases g7 : x3 < 0
        · have g8 : (f_X1_isWholeWithin (Int32.toInt64 x3) 0 59) = 0 := (ww32 (a := 0) (b := 59) rfl rfl).mpr (Or.inl g7)
          exact EQ_e (show f_X1_angle x1 x2 x3 x4 = .error xIA from by unfold f_X1_angle; rw [if_pos g1, if_neg g6, if_pos g8]) (show f_X2_angle x1 x2 x3 x4 = (FP.i2d 0, 1) from by unfold f_X2_angle; rw [if_pos g1, if_neg g2, if_neg g4, if_pos g7]) rfl
        · by_cases g9 : 59 < x3
          · have g10 : (f_X1_isWholeWithin (Int32.toInt64 x3) 0 59) = 0 := (ww32 (a := 0) (b := 59) rfl rfl).mpr (Or.inr g9)
            exact EQ_e (show f_X1_angle x1 x2 x3 x4 = .error xIA from by unfold f_X1_angle; rw [if_pos g1, if_neg g6, if_pos g10]) (show f_X2_angle x1 x2 x3 x4 = (FP.i2d 0, 1) from by unfold f_X2_angle; rw [if_pos g1, if_neg g2, if_neg g4, if_neg g7, if_pos g9]) rfl
          · have g11 : ¬ ((f_X1_isWholeWithin (Int32.toInt64 x3) 0 59) = 0) := (fun h9 => ((ww32 (a := 0) (b := 59) rfl rfl).mp h9).elim g7 g9)
            by_cases g12 : dge x4 FP.dconst0
            · by_cases g13 : dlt x4 4633641066610819072
              · exact EQ_o (show f_X1_angle x1 x2 x3 x4 = .ok (FP.dmul (FP.i2d x1) (FP.dadd (FP.dadd (FP.i2d x2) (FP.ddiv (FP.i2d x3) 4633641066610819072)) (FP.ddiv x4 4660134898793709568))) from by unfold f_X1_angle; rw [if_pos g1, if_neg g6, if_neg g11, if_pos g12, if_pos g13]) (show f_X2_angle x1 x2 x3 x4 = (FP.dmul (FP.i2d x1) (FP.dadd (FP.dadd (FP.i2d x2) (FP.ddiv (FP.i2d x3) 4633641066610819072)) (FP.ddiv x4 4660134898793709568)), 0) from by unfold f_X2_angle; rw [if_pos g1, if_neg g2, if_neg g4, if_neg g7, if_neg g9, if_pos g12, if_pos g13]) rfl
              · exact EQ_e (show f_X1_angle x1 x2 x3 x4 = .error xIA from by unfold f_X1_angle; rw [if_pos g1, if_neg g6, if_neg g11, if_pos g12, if_neg g13]) (show f_X2_angle x1 x2 x3 x4 = (FP.i2d 0, 1) from by unfold f_X2_angle; rw [if_pos g1, if_neg g2, if_neg g4, if_neg g7, if_neg g9, if_pos g12, if_neg g13]) rfl
            · exact EQ_e (show f_X1_angle x1 x2 x3 x4 = .error xIA from by unfold f_X1_angle; rw [if_pos g1, if_neg g6, if_neg g11, if_neg g12]) (show f_X2_angle x1 x2 x3 x4 = (FP.i2d 0, 1) from by unfold f_X2_angle; rw [if_pos g1, if_neg g2, if_neg g4, if_neg g7, if_neg g9, if_neg g12]) rfl
  · by_cases g14 : x1 = (-1)
    · by_cases g15 : x2 < 0
      · have g16 : (f_X1_isWholeWithin (Int32.toInt64 x2) 0 360) = 0 := (ww32 (a := 0) (b := 360) rfl rfl).mpr (Or.inl g15)
        exact EQ_e (show f_X1_angle x1 x2 x3 x4 = .error xIA from by unfold f_X1_angle; rw [if_neg g1, if_pos g14, if_pos g16]) (show f_X2_angle x1 x2 x3 x4 = (FP.i2d 0, 1) from by unfold f_X2_angle; rw [if_neg g1, if_pos g14, if_pos g15]) rfl
      · by_cases g17 : 360 < x2
        · have g18 : (f_X1_isWholeWithin (Int32.toInt64 x2) 0 360) = 0 := (ww32 (a := 0) (b := 360) rfl rfl).mpr (Or.inr g17)
          exact EQ_e (show f_X1_angle x1 x2 x3 x4 = .error xIA from by unfold f_X1_angle; rw [if_neg g1, if_pos g14, if_pos g18]) (show f_X2_angle x1 x2 x3 x4 = (FP.i2d 0, 1) from by unfold f_X2_angle; rw [if_neg g1, if_pos g14, if_neg g15, if_pos g17]) rfl
        · have g19 : ¬ ((f_X1_isWholeWithin (Int32.toInt64 x2) 0 360) = 0) := (fun h9 => ((ww32 (a := 0) (b := 360) rfl rfl).mp h9).elim g15 g17)
          by_cases g20 : x3 < 0
          · have g21 : (f_X1_isWholeWithin (Int32.toInt64 x3) 0 59) = 0 := (ww32 (a := 0) (b := 59) rfl rfl).mpr (Or.inl g20)
            exact EQ_e (show f_X1_angle x1 x2 x3 x4 = .error xIA from by unfold f_X1_angle; rw [if_neg g1, if_pos g14, if_neg g19, if_pos g21]) (show f_X2_angle x1 x2 x3 x4 = (FP.i2d 0, 1) from by unfold f_X2_angle; rw [if_neg g1, if_pos g14, if_neg g15, if_neg g17, if_pos g20]) rfl
          · by_cases g22 : 59 < x3
            · have g23 : (f_X1_isWholeWithin (Int32.toInt64 x3) 0 59) = 0 := (ww32 (a := 0) (b := 59) rfl rfl).mpr (Or.inr g22)
              exact EQ_e (show f_X1_angle x1 x2 x3 x4 = .error xIA from by unfold f_X1_angle; rw [if_neg g1, if_pos g14, if_neg g19, if_pos g23]) (show f_X2_angle x1 x2 x3 x4 = (FP.i2d 0, 1) from by unfold f_X2_angle; rw [if_neg g1, if_pos g14, if_neg g15, if_neg g17, if_neg g20, if_pos g22]) rfl
            · have g24 : ¬ ((f_X1_isWholeWithin (Int32.toInt64 x3) 0 59) = 0) := (fun h9 => ((ww32 (a := 0) (b := 59) rfl rfl).mp h9).elim g20 g22)
              by_cases g25 : dge x4 FP.dconst0
              · by_cases g26 : dlt x4 4633641066610819072
                · exact EQ_o (show f_X1_angle x1 x2 x3 x4 = .ok (FP.dmul (FP.i2d x1) (FP.dadd (FP.dadd (FP.i2d x2) (FP.ddiv (FP.i2d x3) 4633641066610819072)) (FP.ddiv x4 4660134898793709568))) from by unfold f_X1_angle; rw [if_neg g1, if_pos g14, if_neg g19, if_neg g24, if_pos g25, if_pos g26]) (show f_X2_angle x1 x2 x3 x4 = (FP.dmul (FP.i2d x1) (FP.dadd (FP.dadd (FP.i2d x2) (FP.ddiv (FP.i2d x3) 4633641066610819072)) (FP.ddiv x4 4660134898793709568)), 0) from by unfold f_X2_angle; rw [if_neg g1, if_pos g14, if_neg g15, if_neg g17, if_neg g20, if_neg g22, if_pos g25, if_pos g26]) rfl
                · exact EQ_e (show f_X1_angle x1 x2 x3 x4 = .error xIA from by unfold f_X1_angle; rw [if_neg g1, if_pos g14, if_neg g19, if_neg g24, if_pos g25, if_neg g26]) (show f_X2_angle x1 x2 x3 x4 = (FP.i2d 0, 1) from by unfold f_X2_angle; rw [if_neg g1, if_pos g14, if_neg g15, if_neg g17, if_neg g20, if_neg g22, if_pos g25, if_neg g26]) rfl
              · exact EQ_e (show f_X1_angle x1 x2 x3 x4 = .error xIA from by unfold f_X1_angle; rw [if_neg g1, if_pos g14, if_neg g19, if_neg g24, if_neg g25]) (show f_X2_angle x1 x2 x3 x4 = (FP.i2d 0, 1) from by unfold f_X2_angle; rw [if_neg g1, if_pos g14, if_neg g15, if_neg g17, if_neg g20, if_neg g22, if_neg g25]) rfl
    · exact EQ_e (show f_X1_angle x1 x2 x3 x4 = .error xIA from by unfold f_X1_angle; rw [if_neg g1, if_neg g14]) (show f_X2_angle x1 x2 x3 x4 = (FP.i2d 0, 1) from by unfold f_X2_angle; rw [if_neg g1, if_neg g14]) rfl
theorem eq_orbit (sf : Nat → Int32) (x1 : Int32) (x2 x3 x4 x5 : UInt64)  : EQ cdO (f_X1_orbit (sf x1.toNatClampNeg) x1 x2 x3 x4 x5) (f_X2_orbit sf x1 x2 x3 x4 x5) := by
  by_cases g1 : x1 < 0
  · exact EQ_e (show f_X1_orbit (sf x1.toNatClampNeg) x1 x2 x3 x4 x5 = .error xIO from by unfold f_X1_orbit; rw [if_pos g1]) (show f_X2_orbit sf x1 x2 x3 x4 x5 = (0, 1) from by unfold f_X2_orbit; rw [if_pos g1]) rfl
  · by_cases g2 : x1 < 4
    · by_cases g3 : f_X1_isWithin x2 13868412840022376448 4645040803167600640 = 0
      · have g4 : x1 ≤ 3 := (le3_lt4.mpr g2)
        have g5 : (f_X2_within x2 13868412840022376448 4645040803167600640) = 0 := g3
        exact EQ_e (show f_X1_orbit (sf x1.toNatClampNeg) x1 x2 x3 x4 x5 = .error xIA from by unfold f_X1_orbit; rw [if_neg g1, if_pos g2, if_pos g3]) (show f_X2_orbit sf x1 x2 x3 x4 x5 = (0, 2) from by unfold f_X2_orbit; rw [if_neg g1, if_pos g4, if_pos g5]) rfl
      · by_cases g6 : f_X1_isWithin x3 13860109328209412096 4636737291354636288 = 0
        · have g7 : x1 ≤ 3 := (le3_lt4.mpr g2)
          have g8 : ¬ ((f_X2_within x2 13868412840022376448 4645040803167600640) = 0) := g3
          by_cases g9 : (f_X2_within x5 13868412840022376448 4645040803167600640) = 0
          · exact EQ_e (show f_X1_orbit (sf x1.toNatClampNeg) x1 x2 x3 x4 x5 = .error xIA from by unfold f_X1_orbit; rw [if_neg g1, if_pos g2, if_neg g3, if_pos g6]) (show f_X2_orbit sf x1 x2 x3 x4 x5 = (0, 2) from by unfold f_X2_orbit; rw [if_neg g1, if_pos g7, if_neg g8, if_pos g9]) rfl
          · have g10 : (f_X2_within x3 13860109328209412096 4636737291354636288) = 0 := g6
            exact EQ_e (show f_X1_orbit (sf x1.toNatClampNeg) x1 x2 x3 x4 x5 = .error xIA from by unfold f_X1_orbit; rw [if_neg g1, if_pos g2, if_neg g3, if_pos g6]) (show f_X2_orbit sf x1 x2 x3 x4 x5 = (0, 2) from by unfold f_X2_orbit; rw [if_neg g1, if_pos g7, if_neg g8, if_neg g9, if_pos g10]) rfl
        · by_cases g11 : f_X1_isWithin x4 FP.dconst0 4604930618986332160 = 0
          · have g12 : x1 ≤ 3 := (le3_lt4.mpr g2)
            have g13 : ¬ ((f_X2_within x2 13868412840022376448 4645040803167600640) = 0) := g3
            by_cases g14 : (f_X2_within x5 13868412840022376448 4645040803167600640) = 0
            · exact EQ_e (show f_X1_orbit (sf x1.toNatClampNeg) x1 x2 x3 x4 x5 = .error xIA from by unfold f_X1_orbit; rw [if_neg g1, if_pos g2, if_neg g3, if_neg g6, if_pos g11]) (show f_X2_orbit sf x1 x2 x3 x4 x5 = (0, 2) from by unfold f_X2_orbit; rw [if_neg g1, if_pos g12, if_neg g13, if_pos g14]) rfl
            · have g15 : ¬ ((f_X2_within x3 13860109328209412096 4636737291354636288) = 0) := g6
              have g16 : (f_X2_within x4 FP.dconst0 4604930618986332160) = 0 := g11
              exact EQ_e (show f_X1_orbit (sf x1.toNatClampNeg) x1 x2 x3 x4 x5 = .error xIA from by unfold f_X1_orbit; rw [if_neg g1, if_pos g2, if_neg g3, if_neg g6, if_pos g11]) (show f_X2_orbit sf x1 x2 x3 x4 x5 = (0, 2) from by unfold f_X2_orbit; rw [if_neg g1, if_pos g12, if_neg g13, if_neg g14, if_neg g15, if_pos g16]) rfl
          · by_cases g17 : f_X1_isWithin x5 13868412840022376448 4645040803167600640 = 0
            · have g18 : x1 ≤ 3 := (le3_lt4.mpr g2)
              have g19 : ¬ ((f_X2_within x2 13868412840022376448 4645040803167600640) = 0) := g3
              have g20 : (f_X2_within x5 13868412840022376448 4645040803167600640) = 0 := g17
              exact EQ_e (show f_X1_orbit (sf x1.toNatClampNeg) x1 x2 x3 x4 x5 = .error xIA from by unfold f_X1_orbit; rw [if_neg g1, if_pos g2, if_neg g3, if_neg g6, if_neg g11, if_pos g17]) (show f_X2_orbit sf x1 x2 x3 x4 x5 = (0, 2) from by unfold f_X2_orbit; rw [if_neg g1, if_pos g18, if_neg g19, if_pos g20]) rfl
            · by_cases g21 : sf x1.toNatClampNeg = 0
              · have g22 : x1 ≤ 3 := (le3_lt4.mpr g2)
                have g23 : ¬ ((f_X2_within x2 13868412840022376448 4645040803167600640) = 0) := g3
                have g24 : ¬ ((f_X2_within x5 13868412840022376448 4645040803167600640) = 0) := g17
                have g25 : ¬ ((f_X2_within x3 13860109328209412096 4636737291354636288) = 0) := g6
                have g26 : ¬ ((f_X2_within x4 FP.dconst0 4604930618986332160) = 0) := g11
                have g27 : (sf (Int32.toNatClampNeg x1)) = 0 := g21
                exact EQ_o (show f_X1_orbit (sf x1.toNatClampNeg) x1 x2 x3 x4 x5 = .ok (1) from by unfold f_X1_orbit; rw [if_neg g1, if_pos g2, if_neg g3, if_neg g6, if_neg g11, if_neg g17, if_pos g21]) (show f_X2_orbit sf x1 x2 x3 x4 x5 = (1, 0) from by unfold f_X2_orbit; rw [if_neg g1, if_pos g22, if_neg g23, if_neg g24, if_neg g25, if_neg g26, if_pos g27]) rfl
              · have g28 : x1 ≤ 3 := (le3_lt4.mpr g2)
                have g29 : ¬ ((f_X2_within x2 13868412840022376448 4645040803167600640) = 0) := g3
                have g30 : ¬ ((f_X2_within x5 13868412840022376448 4645040803167600640) = 0) := g17
                have g31 : ¬ ((f_X2_within x3 13860109328209412096 4636737291354636288) = 0) := g6
                have g32 : ¬ ((f_X2_within x4 FP.dconst0 4604930618986332160) = 0) := g11
                have g33 : ¬ ((sf (Int32.toNatClampNeg x1)) = 0) := g21
                exact EQ_o (show f_X1_orbit (sf x1.toNatClampNeg) x1 x2 x3 x4 x5 = .ok (0) from by unfold f_X1_orbit; rw [if_neg g1, if_pos g2, if_neg g3, if_neg g6, if_neg g11, if_neg g17, if_neg g21]) (show f_X2_orbit sf x1 x2 x3 x4 x5 = (0, 0) from by unfold f_X2_orbit; rw [if_neg g1, if_pos g28, if_neg g29, if_neg g30, if_neg g31, if_neg g32, if_neg g33]) rfl
    · have g34 : ¬ (x1 ≤ 3) := (fun h => g2 (le3_lt4.mp h))
      exact EQ_e (show f_X1_orbit (sf x1.toNatClampNeg) x1 x2 x3 x4 x5 = .error xIO from by unfold f_X1_orbit; rw [if_neg g1, if_neg g2]) (show f_X2_orbit sf x1 x2 x3 x4 x5 = (0, 1) from by unfold f_X2_orbit; rw [if_neg g1, if_neg g34]) rfl
theorem k12 {k : Nat} (hk : k ≤ 12) : nI k < 12 ↔ ¬ nI k = 12 := by
  rw [Int32.lt_iff_toInt_lt, ← Int32.toInt_inj, nI_toInt (by omega)]
  have : (12 : Int32).toInt = 12 := rfl
  omega
theorem eq_term (sf : Nat → Int32) (k : Nat) (x1 x2 : Int32) (x3 x4 x5 : UInt64) (hk : k ≤ 12) : EQ cd3 (f_X1_term (sf x1.toNatClampNeg) k x1 x2 x3 x4 x5) (f_X2_term sf k x1 x2 x3 x4 x5) := by
  by_cases gN : NB sf x1 = 0
  · have hb := NB_ok gN
    by_cases g1 : x2 < 0
    · have g2 : f_X1_isWholeWithin (Int32.toInt64 x2) 0 2 = 0 := (ww32 (a := 0) (b := 2) rfl rfl).mpr (Or.inl g1)
      exact EQ_e (show f_X1_term (sf x1.toNatClampNeg) k x1 x2 x3 x4 x5 = .error xIA from by unfold f_X1_term; rw [xb_ok hb, if_pos g2]) (show f_X2_term sf k x1 x2 x3 x4 x5 = (0, 2) from by unfold f_X2_term; rw [if_pos gN, if_pos g1]) rfl
    · by_cases g3 : 2 < x2
      · have g4 : f_X1_isWholeWithin (Int32.toInt64 x2) 0 2 = 0 := (ww32 (a := 0) (b := 2) rfl rfl).mpr (Or.inr g3)
        exact EQ_e (show f_X1_term (sf x1.toNatClampNeg) k x1 x2 x3 x4 x5 = .error xIA from by unfold f_X1_term; rw [xb_ok hb, if_pos g4]) (show f_X2_term sf k x1 x2 x3 x4 x5 = (0, 2) from by unfold f_X2_term; rw [if_pos gN, if_neg g1, if_pos g3]) rfl
      · have g5 : ¬ (f_X1_isWholeWithin (Int32.toInt64 x2) 0 2 = 0) := (fun h9 => ((ww32 (a := 0) (b := 2) rfl rfl).mp h9).elim g1 g3)
        by_cases g6 : f_X1_isWithin x3 13845191154443747328 4621819117588971520 = 0
        · have g7 : (f_X2_within x3 13845191154443747328 4621819117588971520) = 0 := g6
          exact EQ_e (show f_X1_term (sf x1.toNatClampNeg) k x1 x2 x3 x4 x5 = .error xIA from by unfold f_X1_term; rw [xb_ok hb, if_neg g5, if_pos g6]) (show f_X2_term sf k x1 x2 x3 x4 x5 = (0, 2) from by unfold f_X2_term; rw [if_pos gN, if_neg g1, if_neg g3, if_pos g7]) rfl
        · by_cases g8 : f_X1_isWithin x4 13868412840022376448 4645040803167600640 = 0
          · have g9 : ¬ ((f_X2_within x3 13845191154443747328 4621819117588971520) = 0) := g6
            have g10 : (f_X2_within x4 13868412840022376448 4645040803167600640) = 0 := g8
            exact EQ_e (show f_X1_term (sf x1.toNatClampNeg) k x1 x2 x3 x4 x5 = .error xIA from by unfold f_X1_term; rw [xb_ok hb, if_neg g5, if_neg g6, if_pos g8]) (show f_X2_term sf k x1 x2 x3 x4 x5 = (0, 2) from by unfold f_X2_term; rw [if_pos gN, if_neg g1, if_neg g3, if_neg g9, if_pos g10]) rfl
          · by_cases g11 : f_X1_isWithin x5 13860109328209412096 4636737291354636288 = 0
            · have g12 : ¬ ((f_X2_within x3 13845191154443747328 4621819117588971520) = 0) := g6
              have g13 : ¬ ((f_X2_within x4 13868412840022376448 4645040803167600640) = 0) := g8
              have g14 : (f_X2_within x5 13860109328209412096 4636737291354636288) = 0 := g11
              exact EQ_e (show f_X1_term (sf x1.toNatClampNeg) k x1 x2 x3 x4 x5 = .error xIA from by unfold f_X1_term; rw [xb_ok hb, if_neg g5, if_neg g6, if_neg g8, if_pos g11]) (show f_X2_term sf k x1 x2 x3 x4 x5 = (0, 2) from by unfold f_X2_term; rw [if_pos gN, if_neg g1, if_neg g3, if_neg g12, if_neg g13, if_pos g14]) rfl
            · by_cases g15 : nI k < 12
              · have g16 : ¬ ((f_X2_within x3 13845191154443747328 4621819117588971520) = 0) := g6
                have g17 : ¬ ((f_X2_within x4 13868412840022376448 4645040803167600640) = 0) := g8
                have g18 : ¬ ((f_X2_within x5 13860109328209412096 4636737291354636288) = 0) := g11
                have g19 : ¬ ((nI k) = 12) := (fun h => (k12 hk).mp g15 h)
                exact EQ_o (show f_X1_term (sf x1.toNatClampNeg) k x1 x2 x3 x4 x5 = .ok (nI (k + 1)) from by unfold f_X1_term; rw [xb_ok hb, if_neg g5, if_neg g6, if_neg g8, if_neg g11, if_pos g15]) (show f_X2_term sf k x1 x2 x3 x4 x5 = (nI (k + 1), 0) from by unfold f_X2_term; rw [if_pos gN, if_neg g1, if_neg g3, if_neg g16, if_neg g17, if_neg g18, if_neg g19]) rfl
              · have g20 : ¬ ((f_X2_within x3 13845191154443747328 4621819117588971520) = 0) := g6
                have g21 : ¬ ((f_X2_within x4 13868412840022376448 4645040803167600640) = 0) := g8
                have g22 : ¬ ((f_X2_within x5 13860109328209412096 4636737291354636288) = 0) := g11
                have g23 : (nI k) = 12 := (Classical.not_not.mp (fun h => g15 ((k12 hk).mpr h)))
                exact EQ_e (show f_X1_term (sf x1.toNatClampNeg) k x1 x2 x3 x4 x5 = .error xIS from by unfold f_X1_term; rw [xb_ok hb, if_neg g5, if_neg g6, if_neg g8, if_neg g11, if_neg g15]) (show f_X2_term sf k x1 x2 x3 x4 x5 = (0, 3) from by unfold f_X2_term; rw [if_pos gN, if_neg g1, if_neg g3, if_neg g20, if_neg g21, if_neg g22, if_pos g23]) rfl
  · exact EQ_e (show f_X1_term (sf x1.toNatClampNeg) k x1 x2 x3 x4 x5 = .error xNS by unfold f_X1_term; rw [xb_err (NB_bad gN)]) (show f_X2_term sf k x1 x2 x3 x4 x5 = (0, 1) by unfold f_X2_term; rw [if_neg gN]) rfl
theorem eq_letter {k : Nat} {f lf : Nat → Int32} (x1 : Int32) (hk : k ≤ 24) (ha : ∀ j, j < k → f j = lf j) : EQ cd1 (f_X1_letter (nI k) f x1) (f_X2_letter (nI k) lf x1) := by
  by_cases g1 : x1 < 0
  · exact EQ_e (show f_X1_letter (nI k) f x1 = .error xIO by unfold f_X1_letter; rw [if_pos g1]) (show f_X2_letter (nI k) lf x1 = (0, 1) by unfold f_X2_letter; rw [if_pos g1]) rfl
  · by_cases g2 : nI k ≤ x1
    · exact EQ_e (show f_X1_letter (nI k) f x1 = .error xIO by unfold f_X1_letter; rw [if_neg g1, if_pos g2]) (show f_X2_letter (nI k) lf x1 = (0, 1) by unfold f_X2_letter; rw [if_neg g1, if_neg (le_nlt g2)]) rfl
    · have g3 : x1 < 24 := by
        rw [Int32.le_iff_toInt_le, nI_toInt (by omega)] at g2
        rw [Int32.lt_iff_toInt_lt]
        have : (24 : Int32).toInt = 24 := rfl
        omega
      have hj : x1.toNatClampNeg < k := by
        have e : x1.toNatClampNeg = x1.toInt.toNat := rfl
        rw [Int32.le_iff_toInt_le, nI_toInt (by omega)] at g2
        rw [Int32.lt_iff_toInt_lt] at g1
        have : (0 : Int32).toInt = 0 := rfl
        rw [e]; omega
      exact EQ_o (show f_X1_letter (nI k) f x1 = .ok (lf x1.toNatClampNeg) by unfold f_X1_letter; rw [if_neg g1, if_neg g2, if_pos g3, ha _ hj]) (show f_X2_letter (nI k) lf x1 = (lf x1.toNatClampNeg, 0) by unfold f_X2_letter; rw [if_neg g1, if_pos (nle_lt g2)]) rfl