/-! ===== doubles between bounds: fR x lo hi: x is a finite double, lo * 2^-30 ≤ x ≤ hi * 2^-30 ===== -/
abbrev fz (x : UInt64) : Int := FP.Core.zval FP.Core.b64 (FP.Core.val64 x)
def uu : Nat := 2 ^ 1044
theorem uu_pos : (0 : Int) < (uu : Int) := by
  have h : 0 < uu := Nat.two_pow_pos _
  omega
theorem one_uu : FP.Core.one64 = 1073741824 * uu := by
  unfold FP.Core.one64 uu
  rw [show (1074 : Nat) = 30 + 1044 from rfl, Nat.pow_add, show (2 : Nat) ^ 30 = 1073741824 from rfl]
theorem one_uuI : (FP.Core.one64 : Int) = 1073741824 * (uu : Int) := by rw [one_uu]; exact Int.natCast_mul _ _
def fR (x : UInt64) (lo hi : Int) : Prop := FP.Core.DFin x ∧ lo * (uu : Int) ≤ fz x ∧ fz x ≤ hi * (uu : Int)
def fRb (n : Int) : Bool := decide (n.natAbs < 9007199254740992) || decide (n.natAbs % 1073741824 = 0 ∧ n.natAbs / 1073741824 < 9007199254740992)
def fRep (n : Int) : Prop := ∃ V : UInt64, FP.Core.DFin V ∧ fz V = n * (uu : Int)
theorem fRep_of {n : Int} {m j : Nat} (hm : m < 2 ^ 53) (hj : j ≤ 500) (h : n.natAbs = m * 2 ^ j) : fRep n := by
  have hq : FP.Core.b64.qmin = -1074 := FP.Core.qmin_b64
  have hx : FP.Core.b64.qmax = 971 := by decide
  obtain ⟨c, q, e1, e2⟩ := FP.Core.round_exact FP.Core.good_b64 (decide (n < 0)) (c := m) (q := (j : Int) - 30) hm (by omega) (by omega)
  have hv : FP.Core.val64 (FP.Core.of64 (FP.Core.round FP.Core.b64 (.fin (decide (n < 0)) m ((j : Int) - 30)))) = .fin (decide (n < 0)) c q := by
    rw [FP.Core.val64_of64 (FP.Core.round_fits FP.Core.good_b64 _), e1]
  refine ⟨_, ⟨_, _, _, hv⟩, ?_⟩
  unfold fz
  rw [hv]
  show FP.Core.signed _ (FP.Core.inUnits c q FP.Core.b64.qmin) = _
  rw [e2, hq]
  unfold FP.Core.inUnits
  rw [show ((j : Int) - 30 - -1074).toNat = j + 1044 by omega, Nat.pow_add, ← Nat.mul_assoc, ← h, FP.Core.signed_mul]
  have : FP.Core.signed (decide (n < 0)) n.natAbs = n := by
    unfold FP.Core.signed
    by_cases h0 : n < 0
    · simp only [h0, decide_true, if_true]; omega
    · simp only [h0, decide_false, Bool.false_eq_true, if_false]; omega
  show FP.Core.signed (decide (n < 0)) n.natAbs * _ = _
  rw [this]; rfl
theorem fRb_rep {n : Int} (h : fRb n = true) : fRep n := by
  unfold fRb at h
  rw [Bool.or_eq_true, decide_eq_true_eq, decide_eq_true_eq] at h
  rcases h with h | ⟨h1, h2⟩
  · exact fRep_of (m := n.natAbs) (j := 0) (by omega) (by omega) (by omega)
  · exact fRep_of (m := n.natAbs / 1073741824) (j := 30) (by omega) (by omega) (by omega)
theorem fR_fin {x : UInt64} {a b : Int} (h : fR x a b) : FP.Core.DFin x := h.1
theorem fin_val {x : UInt64} (h : FP.Core.DFin x) : FP.Core.val64 x ≠ .nan := by
  obtain ⟨s, c, q, e⟩ := h
  rw [e]; exact FP.Core.Datum.noConfusion
theorem fin_nn {x : UInt64} (h : FP.Core.DFin x) : vf_n64 x := by
  have h1 := (FP.Core.fin_bits x).mp h
  unfold vf_n64
  rw [UInt64.le_iff_toNat_le, FP.Core.mask_toNat]
  exact Nat.le_of_lt h1
theorem fR_nn {x : UInt64} {a b : Int} (h : fR x a b) : vf_n64 x := fin_nn h.1
theorem fR_mono {x : UInt64} {a b c d : Int} (h : fR x a b) (h1 : c ≤ a) (h2 : b ≤ d) : fR x c d := by
  have hu := uu_pos
  exact ⟨h.1, Int.le_trans (Int.mul_le_mul_of_nonneg_right h1 (Int.le_of_lt hu)) h.2.1, Int.le_trans h.2.2 (Int.mul_le_mul_of_nonneg_right h2 (Int.le_of_lt hu))⟩
theorem fin_between {D : FP.Core.Datum} (hn : D ≠ .nan) {U V : UInt64} (hU : FP.Core.DFin U) (hV : FP.Core.DFin V) (h1 : fz U ≤ FP.Core.zval FP.Core.b64 D) (h2 : FP.Core.zval FP.Core.b64 D ≤ fz V) : ∃ s c q, D = .fin s c q := by
  have a1 := hU.zval_lt
  have a2 := hV.zval_lt
  cases D with
  | nan => exact absurd rfl hn
  | fin s c q => exact ⟨s, c, q, rfl⟩
  | inf s =>
    exfalso
    have e : FP.Core.zval FP.Core.b64 (.inf s) = FP.Core.signed s (FP.Core.b64.tails * 2 ^ (FP.Core.b64.exps - 2)) := rfl
    rw [e] at h1 h2
    unfold fz FP.Core.zval at h1 h2
    generalize FP.Core.b64.tails * 2 ^ (FP.Core.b64.exps - 2) = M at *
    generalize FP.Core.zmag FP.Core.b64 (FP.Core.val64 U) = mU at *
    generalize FP.Core.zmag FP.Core.b64 (FP.Core.val64 V) = mV at *
    generalize FP.Core.sgn (FP.Core.val64 U) = sU at *
    generalize FP.Core.sgn (FP.Core.val64 V) = sV at *
    cases s <;> cases sU <;> cases sV <;> simp only [FP.Core.signed, if_true, Bool.false_eq_true, if_false] at h1 h2 <;> omega
theorem fR_of_round {x : UInt64} {D : FP.Core.Datum} (e : FP.Core.val64 x = D) (hn : D ≠ .nan) {p q : Int} (rp : fRep p) (rq : fRep q)
    (h1 : ∀ V : UInt64, FP.Core.DFin V → fz V = p * (uu : Int) → fz V ≤ FP.Core.zval FP.Core.b64 D) (h2 : ∀ V : UInt64, FP.Core.DFin V → fz V = q * (uu : Int) → FP.Core.zval FP.Core.b64 D ≤ fz V) : fR x p q := by
  obtain ⟨U, fU, eU⟩ := rp
  obtain ⟨V, fV, eV⟩ := rq
  have a1 := h1 U fU eU
  have a2 := h2 V fV eV
  have hf := fin_between hn fU fV a1 a2
  rw [← e] at hf a1 a2
  exact ⟨hf, by rw [← eU]; exact a1, by rw [← eV]; exact a2⟩
theorem round_fin_ne (s : Bool) (c : Nat) (q : Int) : FP.Core.round FP.Core.b64 (.fin s c q) ≠ .nan := FP.Core.roundRatio_ne_nan _ _ _ _ _
theorem fR_add {x y : UInt64} {a b c d : Int} (hx : fR x a b) (hy : fR y c d) (p q : Int) (hp : p ≤ a + c) (hq : b + d ≤ q) (rp : fRb p = true) (rq : fRb q = true) : fR (FP.dadd x y) p q := by
  have hu := uu_pos
  obtain ⟨fx, x1, x2⟩ := hx
  obtain ⟨fy, y1, y2⟩ := hy
  have m1 := Int.mul_le_mul_of_nonneg_right hp (Int.le_of_lt hu)
  have m2 := Int.mul_le_mul_of_nonneg_right hq (Int.le_of_lt hu)
  rw [Int.add_mul] at m1 m2
  refine fR_of_round (FP.Core.val64_dadd x y) ?_ (fRb_rep rp) (fRb_rep rq) ?_ ?_
  · obtain ⟨s, k, j, e⟩ := fx
    obtain ⟨s2, k2, j2, e2⟩ := fy
    rw [e, e2]
    exact round_fin_ne _ _ _
  · intro V fV eV
    exact FP.Core.sum_ge FP.Core.good_b64 fx fy (FP.Core.val64_fits x) (FP.Core.val64_fits y) (FP.Core.val64_fits V) (fin_val fV) (by show fz V ≤ fz x + fz y; omega)
  · intro V fV eV
    exact FP.Core.sum_le FP.Core.good_b64 fx fy (FP.Core.val64_fits x) (FP.Core.val64_fits y) (FP.Core.val64_fits V) (fin_val fV) (by show fz x + fz y ≤ fz V; omega)
theorem fz_neg {x : UInt64} (h : FP.Core.DFin x) : FP.Core.DFin (FP.Core.dneg x) ∧ fz (FP.Core.dneg x) = - fz x := by
  refine ⟨?_, ?_⟩
  · obtain ⟨s, k, j, e⟩ := h
    exact ⟨!s, k, j, by rw [FP.Core.val64_dneg, e]; rfl⟩
  · unfold fz; rw [FP.Core.val64_dneg, FP.Core.zval_negate]
theorem fR_cneg {x : UInt64} {a b : Int} (h : fR x a b) : fR (FP.Core.dneg x) (-b) (-a) := by
  obtain ⟨h1, h2⟩ := fz_neg h.1
  have a1 := h.2.1
  have a2 := h.2.2
  refine ⟨h1, ?_, ?_⟩
  · rw [h2, Int.neg_mul]; omega
  · rw [h2, Int.neg_mul]; omega
theorem neg_eq {x : UInt64} (h : FP.Core.DFin x) : FP.dneg x = FP.Core.dneg x := by
  have hb : (FP.dneg x).toNat = x.toNat + 2 ^ 63 ∨ x.toNat = (FP.dneg x).toNat + 2 ^ 63 := by
    unfold FP.dneg
    rw [UInt64.toNat_xor, show (0x8000000000000000 : UInt64).toNat = 2 ^ 63 from rfl]
    have hx := x.toNat_lt
    by_cases hh : x.toNat < 2 ^ 63
    · left
      have h1 : 2 ^ 63 ^^^ x.toNat = 2 ^ 63 + x.toNat := by
        have := Nat.two_pow_add_eq_or_of_lt hh 1
        apply Nat.eq_of_testBit_eq
        intro i
        rw [Nat.mul_one] at this
        rw [this, Nat.testBit_xor, Nat.testBit_or, Nat.testBit_two_pow]
        by_cases hi : 63 = i
        · subst hi
          rw [Nat.testBit_lt_two_pow hh]; simp
        · simp [hi]
      rw [Nat.xor_comm, h1]; omega
    · right
      have e : x.toNat = 2 ^ 63 + (x.toNat - 2 ^ 63) := by omega
      have hlt : x.toNat - 2 ^ 63 < 2 ^ 63 := by omega
      generalize x.toNat - 2 ^ 63 = y at e hlt
      have h1 : x.toNat = 2 ^ 63 ||| y := by
        have := Nat.two_pow_add_eq_or_of_lt hlt 1
        rw [Nat.mul_one] at this
        rw [e, this]
      have h2 : x.toNat ^^^ 2 ^ 63 = y := by
        rw [h1]
        apply Nat.eq_of_testBit_eq
        intro i
        rw [Nat.testBit_xor, Nat.testBit_or, Nat.testBit_two_pow]
        by_cases hi : 63 = i
        · subst hi
          rw [Nat.testBit_lt_two_pow hlt]; simp
        · simp [hi]
      rw [h2]; omega
  have h2 : FP.Core.val64 (FP.dneg x) = FP.Core.negate (FP.Core.val64 x) := FP.Core.val64_neg_bits (by omega)
  have h3 := FP.Core.val64_dneg x
  refine FP.Core.val64_inj ?_ (h2.trans h3.symm)
  rw [h2]
  exact FP.Core.negate_ne_nan (fin_val h)
theorem fR_neg {x : UInt64} {a b : Int} (h : fR x a b) : fR (FP.dneg x) (-b) (-a) := by
  rw [neg_eq h.1]; exact fR_cneg h
theorem fR_sub {x y : UInt64} {a b c d : Int} (hx : fR x a b) (hy : fR y c d) (p q : Int) (hp : p ≤ a - d) (hq : b - c ≤ q) (rp : fRb p = true) (rq : fRb q = true) : fR (FP.dsub x y) p q := by
  show fR (FP.Core.dsub x y) p q
  rw [FP.Core.dsub_eq]
  exact fR_add hx (fR_cneg hy) p q (by omega) (by omega) rp rq
theorem box_le {X Y A B C D M : Int} (h1 : A ≤ X) (h2 : X ≤ B) (h3 : C ≤ Y) (h4 : Y ≤ D) (k1 : A * C ≤ M) (k2 : A * D ≤ M) (k3 : B * C ≤ M) (k4 : B * D ≤ M) : X * Y ≤ M := by
  have key : ∀ Z : Int, Z * C ≤ M → Z * D ≤ M → Z * Y ≤ M := by
    intro Z z1 z2
    rcases Int.le_total 0 Z with h | h
    · exact Int.le_trans (Int.mul_le_mul_of_nonneg_left h4 h) z2
    · exact Int.le_trans (Int.mul_le_mul_of_nonpos_left h h3) z1
  rcases Int.le_total 0 Y with h | h
  · exact Int.le_trans (Int.mul_le_mul_of_nonneg_right h2 h) (key B k3 k4)
  · exact Int.le_trans (Int.mul_le_mul_of_nonpos_right h1 h) (key A k1 k2)
theorem box_ge {X Y A B C D M : Int} (h1 : A ≤ X) (h2 : X ≤ B) (h3 : C ≤ Y) (h4 : Y ≤ D) (k1 : M ≤ A * C) (k2 : M ≤ A * D) (k3 : M ≤ B * C) (k4 : M ≤ B * D) : M ≤ X * Y := by
  have := box_le (X := -X) (Y := Y) (A := -B) (B := -A) (C := C) (D := D) (M := -M) (by omega) (by omega) h3 h4 (by rw [Int.neg_mul]; omega) (by rw [Int.neg_mul]; omega) (by rw [Int.neg_mul]; omega) (by rw [Int.neg_mul]; omega)
  rw [Int.neg_mul] at this; omega
theorem sq_uu (a c : Int) : a * (uu : Int) * (c * (uu : Int)) = a * c * ((uu : Int) * (uu : Int)) := by
  rw [Int.mul_assoc, Int.mul_left_comm (uu : Int) c, ← Int.mul_assoc]
theorem fR_mulR {x y : UInt64} (fx : FP.Core.DFin x) (fy : FP.Core.DFin y) (p q : Int) (lo : p * (uu : Int) * (FP.Core.one64 : Int) ≤ fz x * fz y) (hi : fz x * fz y ≤ q * (uu : Int) * (FP.Core.one64 : Int)) (rp : fRep p) (rq : fRep q) : fR (FP.dmul x y) p q := by
  obtain ⟨s, k, j, e⟩ := fx
  obtain ⟨t, k2, j2, e2⟩ := fy
  have f1 := FP.Core.val64_fits x
  have f2 := FP.Core.val64_fits y
  rw [e] at f1
  rw [e2] at f2
  obtain ⟨u1, u2, u3⟩ := FP.Core.product_units f1 f2
  have hs : FP.Core.signed (s != t) (FP.Core.inUnits (k * k2) (j + j2) (2 * FP.Core.b64.qmin)) = fz x * fz y := by
    rw [u3, FP.Core.signed_xor]
    unfold fz
    rw [e, e2]; rfl
  have hpow : (FP.Core.b64.qmin - 2 * FP.Core.b64.qmin).toNat = (-FP.Core.b64.qmin).toNat := by
    rw [FP.Core.qmin_b64]; rfl
  have hv : FP.Core.val64 (FP.dmul x y) = FP.Core.round FP.Core.b64 (.fin (s != t) (k * k2) (j + j2)) := by
    rw [show FP.Core.val64 (FP.dmul x y) = _ from FP.Core.val64_dmul x y, e, e2, u1]
  refine fR_of_round hv (round_fin_ne _ _ _) rp rq ?_ ?_
  · intro V fV eV
    refine FP.Core.zval_round_ge FP.Core.good_b64 (e0 := 2 * FP.Core.b64.qmin) (FP.Core.val64_fits V) (fin_val fV) (by rw [FP.Core.qmin_b64]; decide) u2 ?_
    rw [hs, hpow, FP.Core.pow_qmin64]
    show fz V * _ ≤ _
    rw [eV]; exact lo
  · intro V fV eV
    refine FP.Core.zval_round_le FP.Core.good_b64 (e0 := 2 * FP.Core.b64.qmin) (FP.Core.val64_fits V) (fin_val fV) (by rw [FP.Core.qmin_b64]; decide) u2 ?_
    rw [hs, hpow, FP.Core.pow_qmin64]
    show _ ≤ fz V * _
    rw [eV]; exact hi
theorem uu_one (r : Int) : r * (uu : Int) * (FP.Core.one64 : Int) = r * 1073741824 * ((uu : Int) * (uu : Int)) := by
  rw [one_uuI, ← Int.mul_assoc, Int.mul_right_comm r (uu : Int), Int.mul_assoc (r * 1073741824)]
theorem fR_mul {x y : UInt64} {a b c d : Int} (hx : fR x a b) (hy : fR y c d) (p q : Int)
    (hp : p * 1073741824 ≤ a * c ∧ p * 1073741824 ≤ a * d ∧ p * 1073741824 ≤ b * c ∧ p * 1073741824 ≤ b * d)
    (hq : a * c ≤ q * 1073741824 ∧ a * d ≤ q * 1073741824 ∧ b * c ≤ q * 1073741824 ∧ b * d ≤ q * 1073741824) (rp : fRb p = true) (rq : fRb q = true) : fR (FP.dmul x y) p q := by
  have hu := uu_pos
  have huu : (0 : Int) < (uu : Int) * (uu : Int) := Int.mul_pos hu hu
  have hun := Int.le_of_lt huu
  obtain ⟨fx, x1, x2⟩ := hx
  obtain ⟨fy, y1, y2⟩ := hy
  refine fR_mulR fx fy p q ?_ ?_ (fRb_rep rp) (fRb_rep rq)
  · rw [uu_one]
    refine box_ge x1 x2 y1 y2 ?_ ?_ ?_ ?_ <;> rw [sq_uu] <;> exact Int.mul_le_mul_of_nonneg_right (by first | exact hp.1 | exact hp.2.1 | exact hp.2.2.1 | exact hp.2.2.2) hun
  · rw [uu_one]
    refine box_le x1 x2 y1 y2 ?_ ?_ ?_ ?_ <;> rw [sq_uu] <;> exact Int.mul_le_mul_of_nonneg_right (by first | exact hq.1 | exact hq.2.1 | exact hq.2.2.1 | exact hq.2.2.2) hun
theorem fR_sq {x : UInt64} {a b : Int} (hx : fR x a b) (q : Int) (hq : a * a ≤ q * 1073741824 ∧ a * b ≤ q * 1073741824 ∧ b * a ≤ q * 1073741824 ∧ b * b ≤ q * 1073741824) (rq : fRb q = true) : fR (FP.dmul x x) 0 q := by
  have hu := uu_pos
  have huu : (0 : Int) < (uu : Int) * (uu : Int) := Int.mul_pos hu hu
  have hun := Int.le_of_lt huu
  obtain ⟨fx, x1, x2⟩ := hx
  refine fR_mulR fx fx 0 q ?_ ?_ (fRb_rep rfl) (fRb_rep rq)
  · rw [Int.zero_mul, Int.zero_mul]
    rcases Int.le_total 0 (fz x) with h | h
    · exact Int.mul_nonneg h h
    · exact Int.mul_nonneg_of_nonpos_of_nonpos h h
  · rw [uu_one]
    refine box_le x1 x2 x1 x2 ?_ ?_ ?_ ?_ <;> rw [sq_uu] <;> exact Int.mul_le_mul_of_nonneg_right (by first | exact hq.1 | exact hq.2.1 | exact hq.2.2.1 | exact hq.2.2.2) hun
theorem ratio_le {s : Bool} {A B : Nat} {e e0 : Int} {V : UInt64} (hB : 0 < B) (fV : FP.Core.DFin V) (h0 : e0 ≤ FP.Core.b64.qmin) (h0e : e0 ≤ e)
    (h : FP.Core.signed s (FP.Core.inUnits A e e0) ≤ fz V * ((2 ^ (FP.Core.b64.qmin - e0).toNat : Nat) : Int) * (B : Int)) : FP.Core.zval FP.Core.b64 (FP.Core.roundRatio FP.Core.b64 s A B e) ≤ fz V := by
  have hle := FP.Core.zmag_roundRatio_le FP.Core.good_b64 (s := s) (A := A) hB (FP.Core.val64_fits V) (fin_val fV) h0 h0e
  have hge := FP.Core.zmag_roundRatio_ge FP.Core.good_b64 (s := s) (A := A) hB (FP.Core.val64_fits V) h0 h0e
  have hP := Nat.two_pow_pos (FP.Core.b64.qmin - e0).toNat
  unfold fz FP.Core.zval at h ⊢
  rw [FP.Core.sgn_roundRatio]
  rw [← FP.Core.signed_mul, ← FP.Core.signed_mul] at h
  have hz : FP.Core.zmag FP.Core.b64 (FP.Core.val64 V) * 2 ^ (FP.Core.b64.qmin - e0).toNat * B = 0 → FP.Core.zmag FP.Core.b64 (FP.Core.val64 V) = 0 := by
    intro h
    rcases Nat.mul_eq_zero.mp h with h | h
    · rcases Nat.mul_eq_zero.mp h with h | h <;> omega
    · omega
  generalize FP.Core.zmag FP.Core.b64 (FP.Core.val64 V) * 2 ^ (FP.Core.b64.qmin - e0).toNat * B = vP at *
  generalize FP.Core.sgn (FP.Core.val64 V) = t at *
  cases s <;> cases t <;> simp only [FP.Core.signed, if_true, Bool.false_eq_true, if_false] at h ⊢
  · have := hle (by omega); omega
  · have := hle (by omega); have := hz (by omega); omega
  · omega
  · have := hge (by omega); omega
theorem ratio_ge {s : Bool} {A B : Nat} {e e0 : Int} {V : UInt64} (hB : 0 < B) (fV : FP.Core.DFin V) (h0 : e0 ≤ FP.Core.b64.qmin) (h0e : e0 ≤ e)
    (h : fz V * ((2 ^ (FP.Core.b64.qmin - e0).toNat : Nat) : Int) * (B : Int) ≤ FP.Core.signed s (FP.Core.inUnits A e e0)) : fz V ≤ FP.Core.zval FP.Core.b64 (FP.Core.roundRatio FP.Core.b64 s A B e) := by
  obtain ⟨f2, z2⟩ := fz_neg fV
  have h1 := ratio_le (s := !s) (A := A) (B := B) (e := e) (e0 := e0) hB f2 h0 h0e (by
    rw [z2, Int.neg_mul, Int.neg_mul, FP.Core.signed_not]; omega)
  rw [z2, ← FP.Core.negate_roundRatio, FP.Core.zval_negate] at h1
  omega
theorem fR_divR {x y : UInt64} {a b c d : Int} (hx : fR x a b) (hy : fR y c d) (hc : 0 < c) (p q : Int)
    (hp : p * c ≤ a * 1073741824 ∧ p * d ≤ a * 1073741824) (hq : b * 1073741824 ≤ q * c ∧ b * 1073741824 ≤ q * d) (rp : fRep p) (rq : fRep q) : fR (FP.ddiv x y) p q := by
  have hu := uu_pos
  have hun := Int.le_of_lt hu
  obtain ⟨fx, x1, x2⟩ := hx
  obtain ⟨fy, y1, y2⟩ := hy
  have ypos : 0 < fz y := Int.lt_of_lt_of_le (Int.mul_pos hc hu) y1
  have one30 : ∀ r : Int, r * (FP.Core.one64 : Int) = r * 1073741824 * (uu : Int) := by
    intro r; rw [one_uuI, Int.mul_assoc]
  -- p * zy ≤ zx * 2^30, zx * 2^30 ≤ q * zy
  have lo : p * fz y ≤ fz x * 1073741824 := by
    have h1 : p * fz y ≤ a * 1073741824 * (uu : Int) := by
      rcases Int.le_total 0 p with h | h
      · refine Int.le_trans (Int.mul_le_mul_of_nonneg_left y2 h) ?_
        rw [← Int.mul_assoc]; exact Int.mul_le_mul_of_nonneg_right hp.2 hun
      · refine Int.le_trans (Int.mul_le_mul_of_nonpos_left h y1) ?_
        rw [← Int.mul_assoc]; exact Int.mul_le_mul_of_nonneg_right hp.1 hun
    have h2 := Int.mul_le_mul_of_nonneg_right x1 (show (0 : Int) ≤ 1073741824 by omega)
    rw [Int.mul_right_comm] at h2
    exact Int.le_trans h1 h2
  have hi : fz x * 1073741824 ≤ q * fz y := by
    have h1 : b * 1073741824 * (uu : Int) ≤ q * fz y := by
      rcases Int.le_total 0 q with h | h
      · refine Int.le_trans ?_ (Int.mul_le_mul_of_nonneg_left y1 h)
        rw [← Int.mul_assoc]; exact Int.mul_le_mul_of_nonneg_right hq.1 hun
      · refine Int.le_trans ?_ (Int.mul_le_mul_of_nonpos_left h y2)
        rw [← Int.mul_assoc]; exact Int.mul_le_mul_of_nonneg_right hq.2 hun
    have h2 := Int.mul_le_mul_of_nonneg_right x2 (show (0 : Int) ≤ 1073741824 by omega)
    rw [Int.mul_right_comm] at h2
    exact Int.le_trans h2 h1
  obtain ⟨s, k, j, e⟩ := fx
  obtain ⟨t, k2, j2, e2⟩ := fy
  have hqm := FP.Core.qmin_b64
  have hqx : FP.Core.b64.qmax = 971 := by decide
  have f1 := FP.Core.val64_fits x
  have f2 := FP.Core.val64_fits y
  rw [e] at f1
  rw [e2] at f2
  have b1 := f1.2.1
  have b2 := f2.2.1
  have b3 := f2.2.2.1
  rw [hqm] at b1 b2
  rw [hqx] at b3
  have zx : fz x = FP.Core.signed s (k * 2 ^ (j + 1074).toNat) := by
    unfold fz; rw [e]; show FP.Core.signed s (FP.Core.inUnits k j _) = _
    unfold FP.Core.inUnits; rw [hqm]; rfl
  have zy : fz y = FP.Core.signed t (k2 * 2 ^ (j2 + 1074).toNat) := by
    unfold fz; rw [e2]; show FP.Core.signed t (FP.Core.inUnits k2 j2 _) = _
    unfold FP.Core.inUnits; rw [hqm]; rfl
  rw [zy] at ypos
  obtain ⟨zy2, -⟩ := FP.Core.signed_pos ypos
  have ht : t = false := by
    cases t
    · rfl
    · simp only [FP.Core.signed, if_true] at ypos; omega
  have hk2 : 0 < k2 := by
    rcases Nat.eq_zero_or_pos k2 with h | h
    · subst h; rw [Nat.zero_mul] at ypos; rw [FP.Core.signed_zero] at ypos; omega
    · exact h
  rw [zy2] at zy
  subst ht
  have hv : FP.Core.val64 (FP.ddiv x y) = FP.Core.roundRatio FP.Core.b64 s k k2 (j - j2) := by
    rw [show FP.Core.val64 (FP.ddiv x y) = _ from FP.Core.val64_ddiv x y, e, e2]
    simp only [FP.Core.quotient]
    rw [if_neg (by omega)]
    cases s <;> rfl
  have hin : ∀ M : Int, (M * fz y ≤ fz x * (FP.Core.one64 : Int) → M * ((2 ^ (FP.Core.b64.qmin - (-3000)).toNat : Nat) : Int) * (k2 : Int) ≤ FP.Core.signed s (FP.Core.inUnits k (j - j2) (-3000))) ∧
      (fz x * (FP.Core.one64 : Int) ≤ M * fz y → FP.Core.signed s (FP.Core.inUnits k (j - j2) (-3000)) ≤ M * ((2 ^ (FP.Core.b64.qmin - (-3000)).toNat : Nat) : Int) * (k2 : Int)) := by
    intro M
    have hE : FP.Core.signed s (FP.Core.inUnits k (j - j2) (-3000)) * ((2 ^ (j2 + 1074).toNat : Nat) : Int) = fz x * (FP.Core.one64 : Int) * ((2 ^ 1926 : Nat) : Int) := by
      rw [zx, ← FP.Core.signed_mul]
      unfold FP.Core.inUnits FP.Core.one64
      rw [← FP.Core.signed_mul, ← FP.Core.signed_mul]
      have hexp : (j - j2 - -3000).toNat + (j2 + 1074).toNat = (j + 1074).toNat + 1074 + 1926 := by omega
      refine congrArg (FP.Core.signed s) ?_
      rw [Nat.mul_assoc, ← Nat.pow_add, hexp, Nat.pow_add, Nat.pow_add, ← Nat.mul_assoc, ← Nat.mul_assoc]
    have hF : M * ((2 ^ (FP.Core.b64.qmin - (-3000)).toNat : Nat) : Int) * (k2 : Int) * ((2 ^ (j2 + 1074).toNat : Nat) : Int) = M * fz y * ((2 ^ 1926 : Nat) : Int) := by
      rw [zy, hqm, show ((-1074 : Int) - (-3000)).toNat = 1926 by decide, Int.natCast_mul, Int.mul_assoc (M * _), Int.mul_right_comm M, ← Int.mul_assoc]
    have hpos : (0 : Int) < ((2 ^ (j2 + 1074).toNat : Nat) : Int) := by
      have := Nat.two_pow_pos (j2 + 1074).toNat; omega
    have hp2 : (0 : Int) ≤ ((2 ^ 1926 : Nat) : Int) := Int.natCast_nonneg _
    refine ⟨fun h => ?_, fun h => ?_⟩
    · refine Int.le_of_mul_le_mul_right ?_ hpos
      rw [hE, hF]; exact Int.mul_le_mul_of_nonneg_right h hp2
    · refine Int.le_of_mul_le_mul_right ?_ hpos
      rw [hE, hF]; exact Int.mul_le_mul_of_nonneg_right h hp2
  refine fR_of_round hv (FP.Core.roundRatio_ne_nan _ _ _ _ _) rp rq ?_ ?_
  · intro V fV eV
    refine ratio_ge hk2 fV (e0 := -3000) (by rw [hqm]; decide) (by omega) ((hin (fz V)).1 ?_)
    rw [eV, Int.mul_right_comm, one30]
    exact Int.mul_le_mul_of_nonneg_right lo hun
  · intro V fV eV
    refine ratio_le hk2 fV (e0 := -3000) (by rw [hqm]; decide) (by omega) ((hin (fz V)).2 ?_)
    rw [eV, Int.mul_right_comm, one30]
    exact Int.mul_le_mul_of_nonneg_right hi hun
theorem fR_div {x y : UInt64} {a b c d : Int} (hx : fR x a b) (hy : fR y c d) (hc : 0 < c) (p q : Int)
    (hp : p * c ≤ a * 1073741824 ∧ p * d ≤ a * 1073741824) (hq : b * 1073741824 ≤ q * c ∧ b * 1073741824 ≤ q * d) (rp : fRb p = true) (rq : fRb q = true) : fR (FP.ddiv x y) p q := fR_divR hx hy hc p q hp hq (fRb_rep rp) (fRb_rep rq)
/-! constants, whole numbers -/
def fLit (x : UInt64) (lo hi : Int) : Bool := decide (x.toNat % 9223372036854775808 < 9218868437227405312) && decide (lo * (uu : Int) ≤ fz x) && decide (fz x ≤ hi * (uu : Int))
theorem fR_lit {x : UInt64} {lo hi : Int} (h : fLit x lo hi = true) : fR x lo hi := by
  unfold fLit at h
  rw [Bool.and_eq_true, Bool.and_eq_true, decide_eq_true_eq, decide_eq_true_eq, decide_eq_true_eq] at h
  exact ⟨(FP.Core.fin_bits x).mpr h.1.1, h.1.2, h.2⟩
theorem dint_fz {i : Int} {x : UInt64} (h : FP.Core.DInt i x) : FP.Core.DFin x ∧ fz x = i * 1073741824 * (uu : Int) := by
  refine ⟨?_, ?_⟩
  · unfold FP.Core.DInt at h
    cases hv : FP.Core.val64 x with
    | nan => rw [hv] at h; exact h.elim
    | inf s => rw [hv] at h; exact h.elim
    | fin s c q => exact ⟨s, c, q, hv⟩
  · have := FP.Core.DInt_zval h
    rw [one_uuI, ← Int.mul_assoc] at this
    exact this
theorem fR_int {i lo hi : Int} {x : UInt64} (h : FP.Core.DInt i x) (h1 : lo ≤ i) (h2 : i ≤ hi) : fR x (lo * 1073741824) (hi * 1073741824) := by
  obtain ⟨a, b⟩ := dint_fz h
  refine ⟨a, ?_, ?_⟩ <;> rw [b] <;> exact Int.mul_le_mul_of_nonneg_right (by omega) (Int.le_of_lt uu_pos)
theorem fR_i2d (n : Int32) {lo hi : Int} (h1 : lo ≤ n.toInt) (h2 : n.toInt ≤ hi) : fR (FP.i2d n) (lo * 1073741824) (hi * 1073741824) := fR_int (FP.Core.i2d_int n) h1 h2
theorem fR_l2d (n : Int64) {lo hi : Int} (h1 : lo ≤ n.toInt) (h2 : n.toInt ≤ hi) (h3 : -9007199254740992 ≤ lo) (h4 : hi ≤ 9007199254740992) : fR (FP.l2d n) (lo * 1073741824) (hi * 1073741824) := fR_int (FP.Core.l2d_int (by omega)) h1 h2
/-! comparisons -/
abbrev dlt (x y : UInt64) : Prop := FP.dcmp x y = some .lt
abbrev deq (x y : UInt64) : Prop := FP.dcmp x y = some .eq
abbrev dgt (x y : UInt64) : Prop := FP.dcmp x y = some .gt
theorem dlt_fz {x y : UInt64} (hx : FP.Core.DFin x) (hy : FP.Core.DFin y) : dlt x y ↔ fz x < fz y := by
  show FP.Core.dcmp x y = some .lt ↔ _
  rw [FP.Core.dcmp_lt]; exact ⟨fun h => h.2.2, fun h => ⟨fin_val hx, fin_val hy, h⟩⟩
theorem dgt_fz {x y : UInt64} (hx : FP.Core.DFin x) (hy : FP.Core.DFin y) : dgt x y ↔ fz y < fz x := by
  show FP.Core.dcmp x y = some .gt ↔ _
  rw [FP.Core.dcmp_gt]; exact ⟨fun h => h.2.2, fun h => ⟨fin_val hx, fin_val hy, h⟩⟩
theorem deq_fz {x y : UInt64} (hx : FP.Core.DFin x) (hy : FP.Core.DFin y) : deq x y ↔ fz x = fz y := by
  show FP.Core.dcmp x y = some .eq ↔ _
  rw [FP.Core.dcmp_eq]; exact ⟨fun h => h.2.2, fun h => ⟨fin_val hx, fin_val hy, h⟩⟩
/-! a double without what is behind the point -/
theorem trunc_fz {x : UInt64} (hx : FP.Core.DFin x) : ∃ n : Int, FP.Core.signed (FP.Core.sgn (FP.Core.val64 x)) (FP.Core.zmag FP.Core.b64 (FP.Core.val64 x) / FP.Core.one64) = n ∧
    (0 ≤ fz x → 0 ≤ n ∧ n * (FP.Core.one64 : Int) ≤ fz x ∧ fz x < (n + 1) * (FP.Core.one64 : Int)) ∧ (fz x ≤ 0 → n ≤ 0 ∧ fz x ≤ n * (FP.Core.one64 : Int) ∧ (n - 1) * (FP.Core.one64 : Int) < fz x) := by
  refine ⟨_, rfl, ?_⟩
  unfold fz FP.Core.zval
  have h1 := Nat.div_add_mod (FP.Core.zmag FP.Core.b64 (FP.Core.val64 x)) FP.Core.one64
  have h2 := Nat.mod_lt (FP.Core.zmag FP.Core.b64 (FP.Core.val64 x)) FP.Core.one64_pos
  have hp := FP.Core.one64_pos
  generalize FP.Core.zmag FP.Core.b64 (FP.Core.val64 x) = z at *
  generalize hq : z / FP.Core.one64 = n at *
  generalize z % FP.Core.one64 = r at *
  generalize FP.Core.one64 = O at *
  have e1 : ((O * n : Nat) : Int) = (n : Int) * (O : Int) := by rw [Int.natCast_mul, Int.mul_comm]
  have hz : (z : Int) = (n : Int) * (O : Int) + (r : Int) := by rw [← e1]; omega
  have a1 : ((n : Int) + 1) * (O : Int) = (n : Int) * (O : Int) + (O : Int) := by rw [Int.add_mul, Int.one_mul]
  have a2 : (-(n : Int) - 1) * (O : Int) = -((n : Int) * (O : Int)) - (O : Int) := by rw [Int.sub_mul, Int.one_mul, Int.neg_mul]
  have a3 : -(n : Int) * (O : Int) = -((n : Int) * (O : Int)) := Int.neg_mul _ _
  have hn0 : 0 < n → (O : Int) ≤ (n : Int) * (O : Int) := fun h => by
    have := Int.mul_le_mul_of_nonneg_right (show (1 : Int) ≤ (n : Int) by omega) (show (0 : Int) ≤ (O : Int) by omega)
    rw [Int.one_mul] at this; exact this
  have hnz : n = 0 → (n : Int) * (O : Int) = 0 := fun h => by rw [h]; exact Int.zero_mul _
  cases FP.Core.sgn (FP.Core.val64 x)
  · simp only [FP.Core.signed, Bool.false_eq_true, if_false]
    refine ⟨fun _ => ⟨by omega, by omega, by omega⟩, fun h => ?_⟩
    have hn : n = 0 := by
      rcases Nat.eq_zero_or_pos n with h9 | h9
      · exact h9
      · have := hn0 h9; omega
    have := hnz hn
    subst hn
    refine ⟨by omega, by omega, ?_⟩
    have b : (((0 : Nat) : Int) - 1) * (O : Int) = - (O : Int) := by rw [show (((0 : Nat) : Int) - 1) = -1 from rfl, Int.neg_mul, Int.one_mul]
    omega
  · simp only [FP.Core.signed, if_true]
    refine ⟨fun h => ?_, fun _ => ⟨by omega, by omega, by omega⟩⟩
    have hn : n = 0 := by
      rcases Nat.eq_zero_or_pos n with h9 | h9
      · exact h9
      · have := hn0 h9; omega
    have := hnz hn
    subst hn
    have b : (-((0 : Nat) : Int) + 1) * (O : Int) = (O : Int) := by rw [show (-((0 : Nat) : Int) + 1) = 1 from rfl, Int.one_mul]
    exact ⟨by omega, by omega, by omega⟩
