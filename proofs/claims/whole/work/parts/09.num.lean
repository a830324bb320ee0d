/-! ===== RED and the waves: bounds, and that both ways of working them out are one ===== -/
theorem uu_le {a b : Int} (h : a * (uu : Int) ≤ b * (uu : Int)) : a ≤ b := Int.le_of_mul_le_mul_right h uu_pos
theorem uu_lt {a b : Int} (h : a * (uu : Int) < b * (uu : Int)) : a < b := Int.lt_of_mul_lt_mul_right h (Int.le_of_lt uu_pos)
theorem le_uu {a b : Int} (h : a ≤ b) : a * (uu : Int) ≤ b * (uu : Int) := Int.mul_le_mul_of_nonneg_right h (Int.le_of_lt uu_pos)
theorem lt_uu {a b : Int} (h : a < b) : a * (uu : Int) < b * (uu : Int) := Int.mul_lt_mul_of_pos_right h uu_pos
theorem fR_addR {x y : UInt64} (fx : FP.Core.DFin x) (fy : FP.Core.DFin y) (p q : Int) (h1 : p * (uu : Int) ≤ fz x + fz y) (h2 : fz x + fz y ≤ q * (uu : Int)) (rp : fRep p) (rq : fRep q) : fR (FP.dadd x y) p q := by
  refine fR_of_round (FP.Core.val64_dadd x y) ?_ rp rq ?_ ?_
  · obtain ⟨s, k, j, e⟩ := fx
    obtain ⟨s2, k2, j2, e2⟩ := fy
    rw [e, e2]
    exact round_fin_ne _ _ _
  · intro V fV eV
    exact FP.Core.sum_ge FP.Core.good_b64 fx fy (FP.Core.val64_fits x) (FP.Core.val64_fits y) (FP.Core.val64_fits V) (fin_val fV) (by show fz V ≤ fz x + fz y; omega)
  · intro V fV eV
    exact FP.Core.sum_le FP.Core.good_b64 fx fy (FP.Core.val64_fits x) (FP.Core.val64_fits y) (FP.Core.val64_fits V) (fin_val fV) (by show fz x + fz y ≤ fz V; omega)
theorem fR_subR {x y : UInt64} (fx : FP.Core.DFin x) (fy : FP.Core.DFin y) (p q : Int) (h1 : p * (uu : Int) ≤ fz x - fz y) (h2 : fz x - fz y ≤ q * (uu : Int)) (rp : fRep p) (rq : fRep q) : fR (FP.dsub x y) p q := by
  show fR (FP.Core.dsub x y) p q
  rw [FP.Core.dsub_eq]
  obtain ⟨f2, z2⟩ := fz_neg fy
  exact fR_addR fx f2 p q (by rw [z2]; omega) (by rw [z2]; omega) rp rq
theorem fRep_s {n : Int} (h : n.natAbs < 9007199254740992) : fRep n := fRep_of (m := n.natAbs) (j := 0) (by omega) (by omega) (by omega)
theorem fRep_30 {n : Int} (k : Int) (e : n = k * 1073741824) (h : k.natAbs < 9007199254740992) : fRep n := fRep_of (m := k.natAbs) (j := 30) (by omega) (by omega) (by rw [show (2 : Nat) ^ 30 = 1073741824 from rfl]; omega)
theorem fRep_21 {n : Int} (k : Int) (e : n = k * 2097152) (h : k.natAbs < 9007199254740992) : fRep n := fRep_of (m := k.natAbs) (j := 21) (by omega) (by omega) (by rw [show (2 : Nat) ^ 21 = 2097152 from rfl]; omega)
theorem one30 (r : Int) : r * (FP.Core.one64 : Int) = r * 1073741824 * (uu : Int) := by rw [one_uuI, Int.mul_assoc]
/-- a cast to long -/
theorem d2l_tr {x : UInt64} (hx : fR x (-1237940039285380274899124224) 1237940039285380274899124224) : ∃ n : Int, (FP.d2l x).toInt = n ∧ (0 ≤ fz x → 0 ≤ n ∧ n * 1073741824 * (uu : Int) ≤ fz x ∧ fz x < (n + 1) * 1073741824 * (uu : Int)) ∧ (fz x ≤ 0 → n ≤ 0 ∧ fz x ≤ n * 1073741824 * (uu : Int) ∧ (n - 1) * 1073741824 * (uu : Int) < fz x) := by
  obtain ⟨n, e, h1, h2⟩ := trunc_fz hx.1
  rw [one30, one30] at h1 h2
  refine ⟨n, ?_, h1, h2⟩
  have hv := FP.Core.d2l_val (fin_val hx.1)
  rw [e] at hv
  show (FP.Core.d2l x).toInt = n
  rw [hv]
  obtain ⟨-, a1, a2⟩ := hx
  rcases Int.le_total 0 (fz x) with h | h
  · obtain ⟨b1, b2, b3⟩ := h1 h
    have := uu_le (Int.le_trans b2 a2)
    omega
  · obtain ⟨b1, b2, b3⟩ := h2 h
    have := uu_le (Int.le_trans a1 b2)
    omega
/-- a cast to int of what is small -/
theorem d2i_tr {x : UInt64} (hx : fR x (-1152921504606846976) 1152921504606846976) : (FP.d2i x).toInt = (FP.d2l x).toInt := by
  have hv := FP.Core.d2l_val (fin_val hx.1)
  have hi := FP.Core.d2i_val (fin_val hx.1)
  obtain ⟨n, e, h1, h2⟩ := trunc_fz hx.1
  rw [e] at hv hi
  show (FP.Core.d2i x).toInt = (FP.Core.d2l x).toInt
  rw [hv, hi]
  rw [one30, one30] at h1 h2
  obtain ⟨-, a1, a2⟩ := hx
  rcases Int.le_total 0 (fz x) with h | h
  · obtain ⟨b1, b2, b3⟩ := h1 h
    have := uu_le (Int.le_trans b2 a2)
    omega
  · obtain ⟨b1, b2, b3⟩ := h2 h
    have := uu_le (Int.le_trans a1 b2)
    omega
abbrev c360 : UInt64 := 4645040803167600640
def rd_n (x : UInt64) : Int64 := FP.d2l (FP.ddiv x c360)
def rd_v (x : UInt64) : UInt64 := FP.dsub x (FP.dmul c360 (FP.l2d (rd_n x)))
def RED (x : UInt64) : UInt64 := if dlt (rd_v x) FP.dconst0 then (if deq (FP.dadd (rd_v x) c360) c360 then FP.dconst0 else FP.dadd (rd_v x) c360) else (if deq (rd_v x) c360 then FP.dconst0 else rd_v x)
theorem c360_R : fR c360 386547056640 386547056640 := fR_lit (by decide +kernel)
theorem c0_R : fR FP.dconst0 0 0 := fR_lit (by decide +kernel)
theorem c360_int : FP.Core.DInt 360 c360 := by
  have h := FP.Core.l2d_int (a := 360) (by decide)
  rw [show FP.Core.l2d 360 = c360 by decide +kernel] at h
  exact h
theorem fz_c0 : fz FP.dconst0 = 0 := by
  have h := c0_R
  obtain ⟨-, h1, h2⟩ := h
  rw [Int.zero_mul] at h1 h2
  omega
theorem rd_all {x : UInt64} (hx : fR x (-1208925819614629174706176) 1208925819614629174706176) :
    fR (FP.ddiv x c360) (-4722366482869645213696) 4722366482869645213696 ∧ fR (FP.dmul c360 (FP.l2d (rd_n x))) (-4835703278458516698824704) 4835703278458516698824704 ∧
    FP.l2d (360 * rd_n x) = FP.dmul c360 (FP.l2d (rd_n x)) ∧ fR (rd_v x) (-386547056640) 386547056640 ∧
    (dlt (rd_v x) FP.dconst0 → fR (FP.dadd (rd_v x) c360) 0 386547056640) ∧ (¬ dlt (rd_v x) FP.dconst0 → fR (rd_v x) 0 386547056640) := by
  have hc := c360_R
  have hq : fR (FP.ddiv x c360) (-4722366482869645213696) 4722366482869645213696 := fR_div hx hc (by decide) _ _ (by decide) (by decide) rfl rfl
  obtain ⟨n, hn, hpos, hneg⟩ := d2l_tr (fR_mono hq (by decide) (by decide))
  have hn' : (rd_n x).toInt = n := hn
  -- n is small
  have hnb : -4398046511104 ≤ n ∧ n ≤ 4398046511104 := by
    rcases Int.le_total 0 (fz (FP.ddiv x c360)) with h | h
    · obtain ⟨b1, b2, -⟩ := hpos h
      have := uu_le (Int.le_trans b2 hq.2.2)
      omega
    · obtain ⟨b1, b2, -⟩ := hneg h
      have := uu_le (Int.le_trans hq.2.1 b2)
      omega
  have hli : FP.Core.DInt n (FP.l2d (rd_n x)) := by
    have := FP.Core.l2d_int (a := rd_n x) (by rw [hn']; omega)
    rw [hn'] at this
    exact this
  have hmi : FP.Core.DInt (360 * n) (FP.dmul c360 (FP.l2d (rd_n x))) := FP.Core.dmul_int c360_int hli (by omega)
  obtain ⟨fy, zy⟩ := dint_fz hmi
  have hy : fR (FP.dmul c360 (FP.l2d (rd_n x))) (-4835703278458516698824704) 4835703278458516698824704 := by
    refine ⟨fy, ?_, ?_⟩ <;> rw [zy] <;> exact le_uu (by omega)
  have hcls : FP.l2d (360 * rd_n x) = FP.dmul c360 (FP.l2d (rd_n x)) := by
    have h360 : (360 : Int64).toInt = 360 := by decide
    by_cases h0 : rd_n x = 0
    · rw [h0]; decide +kernel
    · have := FP.Core.dmul_l2d (a := 360) (b := rd_n x) (by unfold FP.Core.Small53; decide) (by unfold FP.Core.Small53; rw [hn']; omega) (by decide) h0 (by rw [hn', h360]; omega) (by rw [hn', h360]; omega)
      rw [show FP.Core.l2d 360 = c360 by decide +kernel] at this
      exact this.symm
  have hfx := hx.1
  have hv : fR (rd_v x) (-386547056640) 386547056640 := by
    rcases Int.le_total 0 (fz x) with h | h
    · have hx0 : fR x 0 1208925819614629174706176 := ⟨hfx, by rw [Int.zero_mul]; exact h, hx.2.2⟩
      have hq0 : fR (FP.ddiv x c360) 0 4722366482869645213696 := fR_div hx0 hc (by decide) _ _ (by decide) (by decide) rfl rfl
      have hq1 : 0 ≤ fz (FP.ddiv x c360) := by have := hq0.2.1; rw [Int.zero_mul] at this; exact this
      obtain ⟨b1, b2, b3⟩ := hpos hq1
      have i1 : fz x < 360 * (n + 1) * 1073741824 * (uu : Int) := by
        refine Int.lt_of_not_ge fun hge => ?_
        have hx2 : fR x (360 * (n + 1) * 1073741824) 1208925819614629174706176 := ⟨hfx, hge, hx.2.2⟩
        have := fR_divR hx2 hc (by decide) ((n + 1) * 1073741824) 4722366482869645213696 (by omega) (by decide) (fRep_30 (n + 1) rfl (by omega)) (fRb_rep rfl)
        have := this.2.1
        omega
      have i2 : (360 * n - 1) * 1073741824 * (uu : Int) < fz x := by
        refine Int.lt_of_not_ge fun hge => ?_
        have hz : (0 : Int) * (uu : Int) ≤ (360 * n - 1) * 1073741824 * (uu : Int) := Int.le_trans (by rw [Int.zero_mul]; exact h) hge
        have hn1 := uu_le hz
        have hx2 : fR x 0 ((360 * n - 1) * 1073741824) := ⟨hfx, by rw [Int.zero_mul]; exact h, hge⟩
        have := fR_divR hx2 hc (by decide) 0 (n * 1073741824 - 2097152) (by omega) (by omega) (fRb_rep rfl) (fRep_21 (n * 512 - 1) (by omega) (by omega))
        have h3 := this.2.2
        have := uu_le (Int.le_trans b2 h3)
        omega
      refine fR_subR hfx fy _ _ ?_ ?_ (fRb_rep rfl) (fRb_rep rfl)
      · rw [zy]
        have e : (360 * n - 1) * 1073741824 * (uu : Int) = 360 * n * 1073741824 * (uu : Int) + (-1073741824) * (uu : Int) := by rw [← Int.add_mul]; congr 1; omega
        have : (-386547056640) * (uu : Int) ≤ (-1073741824) * (uu : Int) := le_uu (by omega)
        omega
      · rw [zy]
        have e : 360 * (n + 1) * 1073741824 * (uu : Int) = 360 * n * 1073741824 * (uu : Int) + 386547056640 * (uu : Int) := by rw [← Int.add_mul]; congr 1; omega
        omega
    · have hx0 : fR x (-1208925819614629174706176) 0 := ⟨hfx, hx.2.1, by rw [Int.zero_mul]; exact h⟩
      have hq0 : fR (FP.ddiv x c360) (-4722366482869645213696) 0 := fR_div hx0 hc (by decide) _ _ (by decide) (by decide) rfl rfl
      have hq1 : fz (FP.ddiv x c360) ≤ 0 := by have := hq0.2.2; rw [Int.zero_mul] at this; exact this
      obtain ⟨b1, b2, b3⟩ := hneg hq1
      have i1 : 360 * (n - 1) * 1073741824 * (uu : Int) < fz x := by
        refine Int.lt_of_not_ge fun hge => ?_
        have hx2 : fR x (-1208925819614629174706176) (360 * (n - 1) * 1073741824) := ⟨hfx, hx.2.1, hge⟩
        have := fR_divR hx2 hc (by decide) (-4722366482869645213696) ((n - 1) * 1073741824) (by decide) (by omega) (fRb_rep rfl) (fRep_30 (n - 1) rfl (by omega))
        have := this.2.2
        omega
      have i2 : fz x < (360 * n + 1) * 1073741824 * (uu : Int) := by
        refine Int.lt_of_not_ge fun hge => ?_
        have hz : (360 * n + 1) * 1073741824 * (uu : Int) ≤ (0 : Int) * (uu : Int) := Int.le_trans hge (by rw [Int.zero_mul]; exact h)
        have hn1 := uu_le hz
        have hx2 : fR x ((360 * n + 1) * 1073741824) 0 := ⟨hfx, hge, by rw [Int.zero_mul]; exact h⟩
        have := fR_divR hx2 hc (by decide) (n * 1073741824 + 2097152) 0 (by omega) (by omega) (fRep_21 (n * 512 + 1) (by omega) (by omega)) (fRb_rep rfl)
        have h3 := this.2.1
        have := uu_le (Int.le_trans h3 b2)
        omega
      refine fR_subR hfx fy _ _ ?_ ?_ (fRb_rep rfl) (fRb_rep rfl)
      · rw [zy]
        have e : 360 * (n - 1) * 1073741824 * (uu : Int) = 360 * n * 1073741824 * (uu : Int) + (-386547056640) * (uu : Int) := by rw [← Int.add_mul]; congr 1; omega
        omega
      · rw [zy]
        have e : (360 * n + 1) * 1073741824 * (uu : Int) = 360 * n * 1073741824 * (uu : Int) + 1073741824 * (uu : Int) := by rw [← Int.add_mul]; congr 1; omega
        have : 1073741824 * (uu : Int) ≤ 386547056640 * (uu : Int) := le_uu (by omega)
        omega
  have hz0 := fz_c0
  refine ⟨hq, hy, hcls, hv, fun h => ?_, fun h => ?_⟩
  · have h1 := (dlt_fz hv.1 c0_R.1).mp h
    rw [hz0] at h1
    have zc : fz c360 = 386547056640 * (uu : Int) := Int.le_antisymm hc.2.2 hc.2.1
    refine fR_addR hv.1 hc.1 _ _ ?_ ?_ (fRb_rep rfl) (fRb_rep rfl)
    · rw [zc, Int.zero_mul]; have := hv.2.1; rw [Int.neg_mul] at this; omega
    · rw [zc]; omega
  · have h1 := fun q => h ((dlt_fz hv.1 c0_R.1).mpr q)
    rw [hz0] at h1
    exact ⟨hv.1, by rw [Int.zero_mul]; exact Int.not_lt.mp h1, hv.2.2⟩
theorem RED_R {x : UInt64} (hx : fR x (-1208925819614629174706176) 1208925819614629174706176) : fR (RED x) 0 386547056640 := by
  obtain ⟨-, -, -, -, h1, h2⟩ := rd_all hx
  have h0 := fR_mono c0_R (Int.le_refl 0) (show (0 : Int) ≤ 386547056640 by decide)
  unfold RED
  by_cases h : dlt (rd_v x) FP.dconst0
  · rw [if_pos h]
    split
    · exact h0
    · exact h1 h
  · rw [if_neg h]
    split
    · exact h0
    · exact h2 h
/-! the waves -/
abbrev c90 : UInt64 := 4636033603912859648
abbrev c05 : UInt64 := 4602678819172646912
theorem c90_R : fR c90 96636764160 96636764160 := fR_lit (by decide +kernel)
theorem c05_R : fR c05 536870912 536870912 := fR_lit (by decide +kernel)
def wv_z (x : UInt64) : UInt64 := FP.dadd (FP.ddiv x c90) c05
theorem wv_all {x : UInt64} (hx : fR x 0 386547056640) :
    ∃ n : Int, 0 ≤ n ∧ n ≤ 4 ∧ (FP.d2l (wv_z x)).toInt = n ∧ (FP.d2i (wv_z x)).toInt = n ∧ (90 * n - 46) * 1073741824 * (uu : Int) ≤ fz x ∧ fz x ≤ (90 * n + 46) * 1073741824 * (uu : Int) := by
  have hc := c90_R
  have hd : fR (FP.ddiv x c90) 0 4294967296 := fR_div hx hc (by decide) _ _ (by decide) (by decide) rfl rfl
  have hz : fR (wv_z x) 536870912 4831838208 := fR_add hd c05_R _ _ (by decide) (by decide) rfl rfl
  obtain ⟨n, hn, hpos, -⟩ := d2l_tr (fR_mono hz (by decide) (by decide))
  have hi := d2i_tr (fR_mono hz (by decide) (by decide))
  have z0 : 0 ≤ fz (wv_z x) := Int.le_trans (by have := le_uu (show (0 : Int) ≤ 536870912 by decide); rw [Int.zero_mul] at this; exact this) hz.2.1
  obtain ⟨b1, b2, b3⟩ := hpos z0
  have n4 := uu_le (Int.le_trans b2 hz.2.2)
  refine ⟨n, b1, by omega, hn, by rw [hi, hn], ?_, ?_⟩
  · refine Int.le_of_lt (Int.lt_of_not_ge fun hge => ?_)
    have hzz : (0 : Int) * (uu : Int) ≤ (90 * n - 46) * 1073741824 * (uu : Int) := Int.le_trans hx.2.1 hge
    have := uu_le hzz
    have hx2 : fR x 0 ((90 * n - 46) * 1073741824) := ⟨hx.1, hx.2.1, hge⟩
    have h1 := fR_divR hx2 hc (by decide) 0 (n * 1073741824 - 547356672) (by omega) (by omega) (fRb_rep rfl) (fRep_s (by omega))
    have h2 := fR_addR h1.1 c05_R.1 0 (n * 1073741824 - 10485760) (by
      have a1 := h1.2.1; have a2 := c05_R.2.1; rw [Int.zero_mul] at a1 ⊢
      have := le_uu (show (0 : Int) ≤ 536870912 by decide); rw [Int.zero_mul] at this; omega) (by
      have a1 := h1.2.2; have a2 := c05_R.2.2
      have e : (n * 1073741824 - 10485760) * (uu : Int) = (n * 1073741824 - 547356672) * (uu : Int) + 536870912 * (uu : Int) := by rw [← Int.add_mul]; congr 1; omega
      omega) (fRb_rep rfl) (fRep_s (by omega))
    have := uu_le (Int.le_trans b2 h2.2.2)
    omega
  · refine Int.le_of_lt (Int.lt_of_not_ge fun hge => ?_)
    have hx2 : fR x ((90 * n + 46) * 1073741824) 386547056640 := ⟨hx.1, hge, hx.2.2⟩
    have h1 := fR_divR hx2 hc (by decide) (n * 1073741824 + 547356672) 4294967296 (by omega) (by decide) (fRep_s (by omega)) (fRb_rep rfl)
    have h2 := fR_addR h1.1 c05_R.1 (n * 1073741824 + 1084227584) 4831838208 (by
      have a1 := h1.2.1; have a2 := c05_R.2.1
      have e : (n * 1073741824 + 1084227584) * (uu : Int) = (n * 1073741824 + 547356672) * (uu : Int) + 536870912 * (uu : Int) := by rw [← Int.add_mul]; congr 1; omega
      omega) (by
      have a1 := h1.2.2; have a2 := c05_R.2.2
      have e : 4831838208 * (uu : Int) = 4294967296 * (uu : Int) + 536870912 * (uu : Int) := by rw [← Int.add_mul]; congr 1
      omega) (fRep_s (by omega)) (fRb_rep rfl)
    have h3 : (n + 1) * 1073741824 * (uu : Int) ≤ (n * 1073741824 + 1084227584) * (uu : Int) := le_uu (by omega)
    have h4 : (n * 1073741824 + 1084227584) * (uu : Int) ≤ fz (wv_z x) := h2.2.1
    omega
theorem i64_of {a : Int64} {n : Int} (h : a.toInt = n) : a = Int64.ofInt n := by rw [← h, Int64.ofInt_toInt]
theorem i32_of {a : Int32} {n : Int} (h : a.toInt = n) : a = Int32.ofInt n := by rw [← h, Int32.ofInt_toInt]
/-- the quarter: five cases, and what is left of the angle -/
theorem wv_k {x : UInt64} (hx : fR x 0 386547056640) :
    (FP.i2d (90 * FP.d2i (wv_z x)) = FP.dmul c90 (FP.l2d (FP.d2l (wv_z x))) ∧ fR (FP.dmul c90 (FP.l2d (FP.d2l (wv_z x)))) 0 386547056640 ∧ fR (FP.dsub x (FP.dmul c90 (FP.l2d (FP.d2l (wv_z x))))) (-49392123904) 49392123904) ∧
    ((FP.d2l (wv_z x) = 0 ∧ FP.d2i (wv_z x) = 0) ∨ (FP.d2l (wv_z x) = 1 ∧ FP.d2i (wv_z x) = 1) ∨ (FP.d2l (wv_z x) = 2 ∧ FP.d2i (wv_z x) = 2) ∨ (FP.d2l (wv_z x) = 3 ∧ FP.d2i (wv_z x) = 3) ∨ (FP.d2l (wv_z x) = 4 ∧ FP.d2i (wv_z x) = 4)) := by
  obtain ⟨n, n0, n4, hl, hi, h1, h2⟩ := wv_all hx
  have el := i64_of hl
  have ei := i32_of hi
  have key : ∀ (k : Int) (y : UInt64), fR y (90 * k * 1073741824) (90 * k * 1073741824) → n = k → fR (FP.dsub x y) (-49392123904) 49392123904 := by
    intro k y hy e
    subst e
    have zy : fz y = 90 * n * 1073741824 * (uu : Int) := Int.le_antisymm hy.2.2 hy.2.1
    refine fR_subR hx.1 hy.1 _ _ ?_ ?_ (fRb_rep rfl) (fRb_rep rfl)
    · rw [zy]
      have e : (90 * n - 46) * 1073741824 * (uu : Int) = 90 * n * 1073741824 * (uu : Int) + (-49392123904) * (uu : Int) := by rw [← Int.add_mul]; congr 1; omega
      omega
    · rw [zy]
      have e : (90 * n + 46) * 1073741824 * (uu : Int) = 90 * n * 1073741824 * (uu : Int) + 49392123904 * (uu : Int) := by rw [← Int.add_mul]; congr 1; omega
      omega
  rcases (show n = 0 ∨ n = 1 ∨ n = 2 ∨ n = 3 ∨ n = 4 by omega) with e | e | e | e | e
  · rw [e] at el ei
    rw [el, ei]
    exact ⟨⟨by decide +kernel, fR_lit (by decide +kernel), key 0 _ (fR_lit (by decide +kernel)) e⟩, Or.inl ⟨by decide, by decide⟩⟩
  · rw [e] at el ei
    rw [el, ei]
    exact ⟨⟨by decide +kernel, fR_lit (by decide +kernel), key 1 _ (fR_lit (by decide +kernel)) e⟩, Or.inr (Or.inl ⟨by decide, by decide⟩)⟩
  · rw [e] at el ei
    rw [el, ei]
    exact ⟨⟨by decide +kernel, fR_lit (by decide +kernel), key 2 _ (fR_lit (by decide +kernel)) e⟩, Or.inr (Or.inr (Or.inl ⟨by decide, by decide⟩))⟩
  · rw [e] at el ei
    rw [el, ei]
    exact ⟨⟨by decide +kernel, fR_lit (by decide +kernel), key 3 _ (fR_lit (by decide +kernel)) e⟩, Or.inr (Or.inr (Or.inr (Or.inl ⟨by decide, by decide⟩)))⟩
  · rw [e] at el ei
    rw [el, ei]
    exact ⟨⟨by decide +kernel, fR_lit (by decide +kernel), key 4 _ (fR_lit (by decide +kernel)) e⟩, Or.inr (Or.inr (Or.inr (Or.inr ⟨by decide, by decide⟩)))⟩
