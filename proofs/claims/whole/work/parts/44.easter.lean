/-! ===== Easter ===== -/
def esI (h g : Int32) : Int32 := h - ((h / 28) * (1 - (((h / 28) * (29 / (h + 1))) * ((21 - g) / 11))))
theorem esI_b : ∀ a : Nat, a < 30 → ∀ b : Nat, b < 19 → 0 ≤ (esI (nI a) (nI b)).toInt ∧ (esI (nI a) (nI b)).toInt ≤ 29 := by decide +kernel
abbrev esX (x i : Int32) : Int32 := ((((x + x / 4) + i) + 2) - x / 100) + (x / 100) / 4
theorem esX_I {x i : Int32} (hx : 1583 ≤ x.toInt ∧ x.toInt ≤ 9999) (hi : 0 ≤ i.toInt ∧ i.toInt ≤ 29) : 0 ≤ (esX x i).toInt := by
  have e4 : (4 : Int32).toInt = 4 := rfl
  have e2 : (2 : Int32).toInt = 2 := rfl
  have e100 : (100 : Int32).toInt = 100 := rfl
  have c1 : (x / 100).toInt = x.toInt / 100 := by rw [d32 (by decide), e100, (tdiv_spec _ 100 (by decide)).1 (by omega)]
  have c2 : (x / 100 / 4).toInt = x.toInt / 100 / 4 := by rw [d32 (by decide), c1, e4, (tdiv_spec _ 4 (by decide)).1 (by omega)]
  have c3 : (x / 4).toInt = x.toInt / 4 := by rw [d32 (by decide), e4, (tdiv_spec _ 4 (by decide)).1 (by omega)]
  have d1 : (x + x / 4).toInt = x.toInt + x.toInt / 4 := by rw [a32 (by rw [c3]; omega) (by rw [c3]; omega), c3]
  have d2 : (x + x / 4 + i).toInt = x.toInt + x.toInt / 4 + i.toInt := by rw [a32 (by rw [d1]; omega) (by rw [d1]; omega), d1]
  have d3 : (x + x / 4 + i + 2).toInt = x.toInt + x.toInt / 4 + i.toInt + 2 := by rw [a32 (by rw [d2, e2]; omega) (by rw [d2, e2]; omega), d2, e2]
  have d4 : (x + x / 4 + i + 2 - x / 100).toInt = x.toInt + x.toInt / 4 + i.toInt + 2 - x.toInt / 100 := by rw [s32 (by rw [d3, c1]; omega) (by rw [d3, c1]; omega), d3, c1]
  rw [a32 (by rw [d4, c2]; omega) (by rw [d4, c2]; omega), d4, c2]; omega
theorem fm_eq {x b : Int32} (hb : 0 < b.toInt) (hx : 0 ≤ x.toInt) : f_J9_floorMod_7cf53 x b = x - x / b * b := by
  refine Int32.toInt_inj.mp ?_
  rw [fm_spec hb, rem32 hb, Int.tmod_eq_emod_of_nonneg hx]
theorem es_all {x : Int32} (h1 : ¬ x < 1583) (h2 : x ≤ 9999) : f_X1_easter_63_0 x = esH x - esH x / 30 * 30 ∧ f_X1_easter_98_2 x = esI (esH x - esH x / 30 * 30) (x - x / 19 * 19) ∧ (0 ≤ (esI (esH x - esH x / 30 * 30) (x - x / 19 * 19)).toInt ∧ (esI (esH x - esH x / 30 * 30) (x - x / 19 * 19)).toInt ≤ 29) ∧
    f_X1_easter_121_3 x = esX x (esI (esH x - esH x / 30 * 30) (x - x / 19 * 19)) - esX x (esI (esH x - esH x / 30 * 30) (x - x / 19 * 19)) / 7 * 7 ∧ (1583 ≤ x.toInt ∧ x.toInt ≤ 9999) := by
  obtain ⟨e, p, hx⟩ := es_num h1 h2
  have q1 : f_X1_easter_63_0 x = esH x - esH x / 30 * 30 := fm_eq (by decide) (by rw [e]; exact p)
  have q2 : f_X1_easter_98_2 x = esI (esH x - esH x / 30 * 30) (x - x / 19 * 19) := by
    unfold f_X1_easter_98_2 f_X1_easter_70_1 esI
    rw [q1]
  have hh := es_h h1 h2
  have hg : (x - x / 19 * 19).toInt = x.toInt % 19 := by rw [rem32 (by decide), show (19 : Int32).toInt = 19 from rfl, Int.tmod_eq_emod_of_nonneg (by omega)]
  have n1 : esH x - esH x / 30 * 30 = nI ((esH x).toInt % 30).toNat := by
    refine Int32.toInt_inj.mp ?_
    rw [hh, nI_toInt (by omega)]; omega
  have n2 : x - x / 19 * 19 = nI (x.toInt % 19).toNat := by
    refine Int32.toInt_inj.mp ?_
    rw [hg, nI_toInt (by omega)]; omega
  have hi : 0 ≤ (esI (esH x - esH x / 30 * 30) (x - x / 19 * 19)).toInt ∧ (esI (esH x - esH x / 30 * 30) (x - x / 19 * 19)).toInt ≤ 29 := by
    rw [n1, n2]; exact esI_b _ (by omega) _ (by omega)
  refine ⟨q1, q2, hi, ?_, hx⟩
  have q3 : f_X1_easter_121_3 x = f_J9_floorMod_7cf53 (esX x (f_X1_easter_98_2 x)) 7 := by unfold f_X1_easter_121_3; rfl
  rw [q3, q2]
  exact fm_eq (by decide) (esX_I hx hi)
theorem es_fin {x1 i jj : Int32} (hx : 1583 ≤ x1.toInt ∧ x1.toInt ≤ 9999) (hi : 0 ≤ i.toInt ∧ i.toInt ≤ 29) (hj : 0 ≤ jj.toInt ∧ jj.toInt ≤ 6) : f_X1_firstDayOfYear 1 x1 + Int32.toInt64 (f_X1_daysBeforeMonth 1 x1 3) - 1 + 28 + Int32.toInt64 (i - jj) = f_X2_number 1 x1 3 28 + Int32.toInt64 i - Int32.toInt64 jj := by
  refine Int64.toInt_inj.mp ?_
  obtain ⟨n1, n2⟩ := num_I (r := 1) (y := x1) (m := 3) (d := 28) (by omega) (j := 2) (by decide) (by decide) (by decide)
  have eb : (Int32.toInt64 (f_X1_daysBeforeMonth 1 x1 3)).toInt = cum (f_X1_isLeap 1 x1) 2 := by
    rw [Int32.toInt_toInt64, dB_eq]; exact (mon_all (isLeap_01 1 x1) (j := 2) (by decide)).1
  have hc := cum_le (r := 1) (y := x1) (j := 2) (by decide)
  have ef := fd_I (r := 1) (y := x1) (by omega) (by omega)
  have hb : -1000000000 ≤ nyI 1 x1.toInt ∧ nyI 1 x1.toInt ≤ 1000000000 := by
    unfold nyI; rw [if_neg (by decide)]; omega
  have e1 : (1 : Int64).toInt = 1 := rfl
  have e28 : (28 : Int64).toInt = 28 := rfl
  have e28' : (28 : Int32).toInt = 28 := rfl
  rw [e28'] at n1
  have ei : (Int32.toInt64 i).toInt = i.toInt := Int32.toInt_toInt64 i
  have ej : (Int32.toInt64 jj).toInt = jj.toInt := Int32.toInt_toInt64 jj
  have eij : (Int32.toInt64 (i - jj)).toInt = i.toInt - jj.toInt := by rw [Int32.toInt_toInt64, s32 (by omega) (by omega)]
  generalize f_X1_firstDayOfYear 1 x1 = F at *
  generalize Int32.toInt64 (f_X1_daysBeforeMonth 1 x1 3) = D at *
  generalize f_X2_number 1 x1 3 28 = N at *
  generalize Int32.toInt64 (i - jj) = IJ at *
  generalize Int32.toInt64 i = I6 at *
  generalize Int32.toInt64 jj = J6 at *
  generalize cum (f_X1_isLeap 1 x1) 2 = c2 at *
  generalize nyI 1 x1.toInt = ny at *
  have a1 : (F + D).toInt = ny + c2 := by rw [a64 (by rw [ef, eb]; omega) (by rw [ef, eb]; omega), ef, eb]
  have a2 : (F + D - 1).toInt = ny + c2 - 1 := by rw [s64 (by rw [a1, e1]; omega) (by rw [a1, e1]; omega), a1, e1]
  have a3 : (F + D - 1 + 28).toInt = ny + c2 - 1 + 28 := by rw [a64 (by rw [a2, e28]; omega) (by rw [a2, e28]; omega), a2, e28]
  have b1 : (N + I6).toInt = ny + c2 + 28 - 1 + i.toInt := by rw [a64 (by rw [n1, ei]; omega) (by rw [n1, ei]; omega), n1, ei]
  rw [a64 (by rw [a3, eij]; omega) (by rw [a3, eij]; omega), a3, eij, s64 (by rw [b1, ej]; omega) (by rw [b1, ej]; omega), b1, ej]
  omega
theorem es_mod {x i : Int32} (h : 0 ≤ (esX x i).toInt) : 0 ≤ (esX x i - esX x i / 7 * 7).toInt ∧ (esX x i - esX x i / 7 * 7).toInt ≤ 6 := by
  generalize esX x i = y at *
  have hj : (y - y / 7 * 7).toInt = y.toInt % 7 := by rw [rem32 (by decide), show (7 : Int32).toInt = 7 from rfl, Int.tmod_eq_emod_of_nonneg h]
  omega
theorem eq_easter (x1 : Int32) : EQ cd1 (f_X1_easter x1) (f_X2_easter x1) := by
  by_cases g1 : x1 < 1583
  · exact EQ_e (show f_X1_easter x1 = .error xIA by unfold f_X1_easter; rw [if_pos ((ww32 (a := 1583) (b := 9999) rfl rfl).mpr (Or.inl g1))]) (show f_X2_easter x1 = (Int32.toInt64 0, 1) by unfold f_X2_easter; rw [if_pos g1]) rfl
  · by_cases g2 : x1 ≤ 9999
    · obtain ⟨q1, q2, hi, q4, hx⟩ := es_all g1 g2
      have hj := es_mod (esX_I hx hi)
      have e2 : f_X2_easter x1 = (f_X2_number 1 x1 3 28 + Int32.toInt64 (esI (esH x1 - esH x1 / 30 * 30) (x1 - x1 / 19 * 19)) - Int32.toInt64 (esX x1 (esI (esH x1 - esH x1 / 30 * 30) (x1 - x1 / 19 * 19)) - esX x1 (esI (esH x1 - esH x1 / 30 * 30) (x1 - x1 / 19 * 19)) / 7 * 7), 0) := by
        unfold f_X2_easter esI
        rw [if_neg g1, if_pos g2]
      have e1 : f_X1_easter x1 = .ok (f_X1_firstDayOfYear 1 x1 + Int32.toInt64 (f_X1_daysBeforeMonth 1 x1 3) - 1 + 28 + Int32.toInt64 (esI (esH x1 - esH x1 / 30 * 30) (x1 - x1 / 19 * 19) - (esX x1 (esI (esH x1 - esH x1 / 30 * 30) (x1 - x1 / 19 * 19)) - esX x1 (esI (esH x1 - esH x1 / 30 * 30) (x1 - x1 / 19 * 19)) / 7 * 7))) := by
        unfold f_X1_easter
        rw [if_neg (fun h9 => ((ww32 (a := 1583) (b := 9999) rfl rfl).mp h9).elim g1 (le_nlt g2))]
        unfold f_X1_easter_145_5 f_X1_easter_128_4
        rw [q2, q4]
      rw [es_fin hx hi hj] at e1
      exact EQ_o e1 e2 rfl
    · exact EQ_e (show f_X1_easter x1 = .error xIA by unfold f_X1_easter; rw [if_pos ((ww32 (a := 1583) (b := 9999) rfl rfl).mpr (Or.inr (nle_lt2 g2)))]) (show f_X2_easter x1 = (Int32.toInt64 0, 1) by unfold f_X2_easter; rw [if_neg g1, if_neg g2]) rfl
/-! ===== two texts that agree ===== -/
def TXE (a b : TX) : Prop := a.1 = b.1 ∧ ∀ j, j < a.1 → a.2 j = b.2 j
theorem TXE.put {a b : TX} (h : TXE a b) (x : Int32) : TXE (tput a x) (tput b x) := by
  refine ⟨by show a.1 + 1 = b.1 + 1; rw [h.1], fun j hj => ?_⟩
  show upd a.2 a.1 x j = upd b.2 b.1 x j
  unfold upd
  rw [← h.1]
  by_cases c : j = a.1
  · rw [if_pos c, if_pos c]
  · rw [if_neg c, if_neg c]
    have : j < a.1 + 1 := hj
    exact h.2 j (by omega)
theorem TXE.pn {v : Int64} {fw : Int32} : ∀ (n : Nat) {a b : TX}, TXE a b → TXE (pnL v fw n a) (pnL v fw n b)
  | 0, a, b, h => h
  | n + 1, a, b, h => by
    unfold pnL
    split
    · exact TXE.pn n (h.put _)
    · exact TXE.pn n h
theorem WRT_E (x1 : UInt64) (x2 : Int32) (f g : Nat → Int32) : TXE (WRT x1 x2 f) (WRT x1 x2 g) := by
  have h0 : TXE ((0, f) : TX) ((0, g) : TX) := ⟨rfl, fun j hj => absurd hj (Nat.not_lt_zero j)⟩
  have h1 : TXE (wt1 x1 x2 f) (wt1 x1 x2 g) := by
    unfold wt1
    split
    · split
      · exact h0
      · exact h0.put _
    · exact h0
  have h2 : TXE (wt2 x1 x2 f) (wt2 x1 x2 g) := h1.pn 6
  have h4 : TXE (wt4 x1 x2 f) (wt4 x1 x2 g) := (h2.put _).pn 6
  have h6 : TXE (wt6 x1 x2 f) (wt6 x1 x2 g) := (h4.put _).pn 6
  have h8 : TXE (wt8 x1 x2 f) (wt8 x1 x2 g) := (h6.put _).pn 6
  have h9 : TXE (wt9 x1 x2 f) (wt9 x1 x2 g) := by
    unfold wt9
    split
    · exact h6
    · exact h8
  exact h9.put _