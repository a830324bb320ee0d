/-! ===== the calendars in whole numbers ===== -/
def nyI (r : Int32) (y : Int) : Int := if r = 0 then 365 * y + (y + 3) / 4 + 1721058 else 365 * y + (y + 3) / 4 - (y + 99) / 100 + (y + 399) / 400 + 1721060
theorem ml_rem {a b : Int32} (hb : 0 < b.toInt) : (a / b * b).toInt = a.toInt.tdiv b.toInt * b.toInt := by
  have h1 := d32 (a := a) hb
  have h2 := Int.tdiv_mul_add_tmod a.toInt b.toInt
  have h3 := Int.tmod_lt_of_pos a.toInt hb
  have h4 := Int.lt_tmod_of_pos a.toInt hb
  have ha := a.le_toInt
  have ha2 := a.toInt_lt
  have hb2 := b.toInt_lt
  rw [m32, h1]
  · rw [h1]
    rcases Int.le_total 0 a.toInt with h | h
    · have := Int.tmod_nonneg b.toInt h; omega
    · have h9 := Int.tmod_nonneg b.toInt (show 0 ≤ -a.toInt by omega); rw [Int.neg_tmod] at h9; omega
  · rw [h1]
    rcases Int.le_total 0 a.toInt with h | h
    · have := Int.tmod_nonneg b.toInt h; omega
    · have h9 := Int.tmod_nonneg b.toInt (show 0 ≤ -a.toInt by omega); rw [Int.neg_tmod] at h9; omega
/-- a quotient, rounded down, out of one that is rounded to 0 -/
theorem fl_of {x d q m : Int} (hd : 0 < d) (e : q * d + m = x) (h1 : 0 ≤ x → 0 ≤ m) (h2 : x ≤ 0 → m ≤ 0) (h3 : m < d) (h4 : -d < m) : (0 ≤ x → x / d = q) ∧ (x < 0 → m = 0 → x / d = q) ∧ (x < 0 → m ≠ 0 → x / d = q - 1) := by
  refine ⟨fun h => ?_, fun h hm => ?_, fun h hm => ?_⟩
  · have := h1 h
    rw [← e, Int.add_comm, Int.add_mul_ediv_right _ _ (by omega), Int.ediv_eq_zero_of_lt this h3, Int.zero_add]
  · rw [← e, hm, Int.add_zero, Int.mul_ediv_cancel _ (by omega)]
  · have := h2 (by omega)
    have e2 : x = (m + d) + (q - 1) * d := by rw [Int.sub_mul, Int.one_mul]; omega
    rw [e2, Int.add_mul_ediv_right _ _ (by omega), Int.ediv_eq_zero_of_lt (by omega) (by omega), Int.zero_add]
theorem fdv32 {a b : Int32} (hb : 0 < b.toInt) (ha : -2147483647 ≤ a.toInt) : (f_J9_floorDiv_7cf53 a b).toInt = a.toInt / b.toInt := by
  have hq := d32 (a := a) hb
  have hm := ml_rem (a := a) hb
  have h2 := Int.tdiv_mul_add_tmod a.toInt b.toInt
  have h3 := Int.tmod_lt_of_pos a.toInt hb
  have h4 := Int.lt_tmod_of_pos a.toInt hb
  have hb2 := b.toInt_lt
  obtain ⟨f1, f2, f3⟩ := fl_of (x := a.toInt) hb h2 (fun h => Int.tmod_nonneg b.toInt h) (fun h => by have h9 := Int.tmod_nonneg b.toInt (show 0 ≤ -a.toInt by omega); rw [Int.neg_tmod] at h9; omega) h3 h4
  unfold f_J9_floorDiv_7cf53
  by_cases hx : 0 ≤ a ^^^ b
  · rw [if_pos hx, hq, f1 ((xor_neg (by omega)).mp hx)]
  · have hx2 : a.toInt < 0 := by
      rcases Int.lt_or_le a.toInt 0 with h | h
      · exact h
      · exact absurd ((xor_neg (by omega)).mpr h) hx
    rw [if_neg hx]
    by_cases hz : a / b * b = a
    · rw [if_pos hz]
      rw [hz] at hm
      rw [hq, f2 hx2 (by omega)]
    · rw [if_neg hz]
      have hne : a.toInt.tmod b.toInt ≠ 0 := fun h => hz (Int32.toInt_inj.mp (by rw [hm]; omega))
      have hge : a.toInt ≤ a.toInt.tdiv b.toInt := by
        obtain ⟨-, t2⟩ := tdiv_spec a.toInt b.toInt hb
        rw [t2 hx2]
        have := Int.ediv_le_self b.toInt (show 0 ≤ -a.toInt by omega)
        omega
      have e1 : (1 : Int32).toInt = 1 := rfl
      have hneg : a.toInt.tdiv b.toInt ≤ 0 := by
        obtain ⟨-, t2⟩ := tdiv_spec a.toInt b.toInt hb
        rw [t2 hx2]
        have := Int.ediv_nonneg (show 0 ≤ -a.toInt by omega) (show 0 ≤ b.toInt by omega)
        omega
      rw [s32 (by rw [hq, e1]; omega) (by rw [hq, e1]; omega), hq, e1, f3 hx2 hne]
theorem flr64 {v n : Int64} (hn : 0 < n.toInt) (h1 : -4611686018427387904 ≤ v.toInt) (h2 : v.toInt ≤ 4611686018427387904) (h3 : n.toInt ≤ 1000000) : (f_X2_floor v n).toInt = v.toInt / n.toInt := by
  unfold f_X2_floor
  have e0 : (0 : Int64).toInt = 0 := rfl
  have e1 : (1 : Int64).toInt = 1 := rfl
  by_cases c : v < 0
  · rw [if_pos c]
    rw [Int64.lt_iff_toInt_lt, e0] at c
    have a1 : (n - 1).toInt = n.toInt - 1 := by rw [s64 (by omega) (by omega), e1]
    have a2 : (n - 1 - v).toInt = n.toInt - 1 - v.toInt := by rw [s64 (by rw [a1]; omega) (by rw [a1]; omega), a1]
    have a3 := q64 (a := n - 1 - v) (b := n) (by rw [a2]; omega) hn
    have a4 : 0 ≤ (n - 1 - v).toInt / n.toInt := Int.ediv_nonneg (by rw [a2]; omega) (by omega)
    have a5 : (n - 1 - v).toInt / n.toInt ≤ (n - 1 - v).toInt := Int.ediv_le_self _ (by rw [a2]; omega)
    have a6 : (-((n - 1 - v) / n)).toInt = -((n - 1 - v).toInt / n.toInt) := by
      rw [Int64.toInt_neg, a3, Int.bmod_eq_of_le (by omega) (by omega)]
    rw [a6, a2]
    have e2 : n.toInt - 1 - v.toInt = (n.toInt - 1 + (-v.toInt)) := by omega
    rw [e2]
    -- -( (n-1+w)/n ) with w = -v > 0 is the floor of v/n
    have k1 := Int.mul_ediv_add_emod v.toInt n.toInt
    have k2 := Int.emod_nonneg v.toInt (show n.toInt ≠ 0 by omega)
    have k3 := Int.emod_lt_of_pos v.toInt hn
    have e3 : n.toInt - 1 + -v.toInt = (n.toInt - 1 - v.toInt % n.toInt) + (-(v.toInt / n.toInt)) * n.toInt := by
      rw [Int.neg_mul, Int.mul_comm (v.toInt / n.toInt)]; omega
    rw [e3, Int.add_mul_ediv_right _ _ (by omega), Int.ediv_eq_zero_of_lt (by omega) (by omega)]
    omega
  · rw [if_neg c]
    rw [Int64.lt_iff_toInt_lt, e0] at c
    exact q64 (by omega) hn