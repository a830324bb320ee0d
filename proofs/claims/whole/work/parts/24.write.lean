theorem W.stk {p : Program} {l : Launch} {e : Env} {R : Room} {s : State} {m : MethodId} {args : Array Value} {below : List Frame} {meth : Method} {c : Code} {H : Heap} {locs : List Loc} {cells slots : Nat} {Q : State → Prop} {pc : Nat} {ls : Array Slot} {st st' : List Value} (h : st = st') (k : W p l e R s m args below meth c H locs cells slots Q (F0 m pc ls st')) : W p l e R s m args below meth c H locs cells slots Q (F0 m pc ls st) := by rw [h]; exact k
theorem un_d {x : UInt64} {q : Int} (h : fR x 0 (q * 1073741824)) (hq : q * 1073741824 ≤ 1237940039285380274899124224) : 0 ≤ (FP.d2l x).toInt ∧ (FP.d2l x).toInt ≤ q := by
  obtain ⟨n, e, h1, h2⟩ := d2l_tr (fR_mono h (by decide) hq)
  have hu := uu_pos
  have h0 : 0 ≤ fz x := by have := h.2.1; rw [Int.zero_mul] at this; exact this
  obtain ⟨a1, a2, a3⟩ := h1 h0
  rw [e]
  refine ⟨a1, ?_⟩
  have h9 := Int.le_trans a2 h.2.2
  have h8 := Int.le_of_mul_le_mul_right h9 hu
  omega
theorem win_R {x lo hi : UInt64} {a b c d e f : Int} (h : fR x a b) (h1 : ¬ f_X1_isWithin x lo hi = 0) (r1 : fR lo c e) (r2 : fR hi f d) : fR x c d := by
  unfold f_X1_isWithin at h1
  by_cases c1 : dge x lo
  · rw [if_pos c1] at h1
    by_cases c2 : dle x hi
    · obtain ⟨-, -, e1⟩ := FP.Core.dcmp_ge.mp c1
      obtain ⟨-, -, e2⟩ := FP.Core.dcmp_le.mp c2
      exact ⟨h.1, Int.le_trans r1.2.1 e1, Int.le_trans e2 r2.2.2⟩
    · rw [if_neg c2] at h1; exact absurd rfl h1
  · rw [if_neg c1] at h1; exact absurd rfl h1
def WAM (x : UInt64) : UInt64 := if dlt x FP.dconst0 then FP.dneg x else x
theorem c0_fz : fz FP.dconst0 = 0 := by decide +kernel
theorem WAM_R {x : UInt64} (h : fR x (-107374182400000) 107374182400000) : fR (WAM x) 0 107374182400000 := by
  unfold WAM
  have hd := dlt_fz h.1 c0_R.1
  rw [c0_fz] at hd
  by_cases c : dlt x FP.dconst0
  · rw [if_pos c]
    have h1 := hd.mp c
    exact fR_neg (a := -107374182400000) (b := 0) ⟨h.1, h.2.1, by omega⟩
  · rw [if_neg c]
    have h9 : ¬ fz x < 0 := fun h9 => c (hd.mpr h9)
    exact ⟨h.1, by rw [Int.zero_mul]; omega, h.2.2⟩
theorem un_0 {a : UInt64} (h : fR a 0 107374182400000) : 0 ≤ (FP.d2l (FP.dadd (FP.dmul (FP.dmul a 4660134898793709568) (FP.l2d 1)) c05)).toInt ∧ (FP.d2l (FP.dadd (FP.dmul (FP.dmul a 4660134898793709568) (FP.l2d 1)) c05)).toInt ≤ 360000001 := by
  have k1 : fR 4660134898793709568 3865470566400 3865470566400 := fR_lit (by decide +kernel)
  have k2 := fR_l2d 1 (lo := 1) (hi := 1) (by decide) (by decide) (by decide) (by decide)
  have k3 : fR c05 536870912 536870912 := fR_lit (by decide +kernel)
  have r1 := fR_mul h k1 0 386547056640000000 (by decide) (by decide) rfl rfl
  have r2 := fR_mul r1 k2 0 386547056640000000 (by decide) (by decide) rfl rfl
  have r3 := fR_add r2 k3 0 386547057713741824 (by decide) (by decide) rfl rfl
  exact un_d r3 (by decide)
theorem un_1 {a : UInt64} (h : fR a 0 107374182400000) : 0 ≤ (FP.d2l (FP.dadd (FP.dmul (FP.dmul a 4660134898793709568) (FP.l2d 10)) c05)).toInt ∧ (FP.d2l (FP.dadd (FP.dmul (FP.dmul a 4660134898793709568) (FP.l2d 10)) c05)).toInt ≤ 3600000001 := by
  have k1 : fR 4660134898793709568 3865470566400 3865470566400 := fR_lit (by decide +kernel)
  have k2 := fR_l2d 10 (lo := 10) (hi := 10) (by decide) (by decide) (by decide) (by decide)
  have k3 : fR c05 536870912 536870912 := fR_lit (by decide +kernel)
  have r1 := fR_mul h k1 0 386547056640000000 (by decide) (by decide) rfl rfl
  have r2 := fR_mul r1 k2 0 3865470566400000000 (by decide) (by decide) rfl rfl
  have r3 := fR_add r2 k3 0 3865470567473741824 (by decide) (by decide) rfl rfl
  exact un_d r3 (by decide)
theorem un_2 {a : UInt64} (h : fR a 0 107374182400000) : 0 ≤ (FP.d2l (FP.dadd (FP.dmul (FP.dmul a 4660134898793709568) (FP.l2d 100)) c05)).toInt ∧ (FP.d2l (FP.dadd (FP.dmul (FP.dmul a 4660134898793709568) (FP.l2d 100)) c05)).toInt ≤ 36000000001 := by
  have k1 : fR 4660134898793709568 3865470566400 3865470566400 := fR_lit (by decide +kernel)
  have k2 := fR_l2d 100 (lo := 100) (hi := 100) (by decide) (by decide) (by decide) (by decide)
  have k3 : fR c05 536870912 536870912 := fR_lit (by decide +kernel)
  have r1 := fR_mul h k1 0 386547056640000000 (by decide) (by decide) rfl rfl
  have r2 := fR_mul r1 k2 0 38654705664000000000 (by decide) (by decide) rfl rfl
  have r3 := fR_add r2 k3 0 38654705665073741824 (by decide) (by decide) rfl rfl
  exact un_d r3 (by decide)
theorem un_3 {a : UInt64} (h : fR a 0 107374182400000) : 0 ≤ (FP.d2l (FP.dadd (FP.dmul (FP.dmul a 4660134898793709568) (FP.l2d 1000)) c05)).toInt ∧ (FP.d2l (FP.dadd (FP.dmul (FP.dmul a 4660134898793709568) (FP.l2d 1000)) c05)).toInt ≤ 360000000001 := by
  have k1 : fR 4660134898793709568 3865470566400 3865470566400 := fR_lit (by decide +kernel)
  have k2 := fR_l2d 1000 (lo := 1000) (hi := 1000) (by decide) (by decide) (by decide) (by decide)
  have k3 : fR c05 536870912 536870912 := fR_lit (by decide +kernel)
  have r1 := fR_mul h k1 0 386547056640000000 (by decide) (by decide) rfl rfl
  have r2 := fR_mul r1 k2 0 386547056640000000000 (by decide) (by decide) rfl rfl
  have r3 := fR_add r2 k3 0 386547056641073741824 (by decide) (by decide) rfl rfl
  exact un_d r3 (by decide)
theorem un_4 {a : UInt64} (h : fR a 0 107374182400000) : 0 ≤ (FP.d2l (FP.dadd (FP.dmul (FP.dmul a 4660134898793709568) (FP.l2d 10000)) c05)).toInt ∧ (FP.d2l (FP.dadd (FP.dmul (FP.dmul a 4660134898793709568) (FP.l2d 10000)) c05)).toInt ≤ 3600000000001 := by
  have k1 : fR 4660134898793709568 3865470566400 3865470566400 := fR_lit (by decide +kernel)
  have k2 := fR_l2d 10000 (lo := 10000) (hi := 10000) (by decide) (by decide) (by decide) (by decide)
  have k3 : fR c05 536870912 536870912 := fR_lit (by decide +kernel)
  have r1 := fR_mul h k1 0 386547056640000000 (by decide) (by decide) rfl rfl
  have r2 := fR_mul r1 k2 0 3865470566400000000000 (by decide) (by decide) rfl rfl
  have r3 := fR_add r2 k3 0 3865470566401073741824 (by decide) (by decide) rfl rfl
  exact un_d r3 (by decide)
def WU (x1 : UInt64) (x2 : Int32) : Int64 := FP.d2l (FP.dadd (FP.dmul (FP.dmul (WAM x1) 4660134898793709568) (FP.l2d (f_X1_tenToThe x2))) c05)
def WS (x1 : UInt64) (x2 : Int32) : Int64 := f_X1_wholeParts (WU x1 x2) (f_X1_tenToThe x2)
theorem x2_cases {x : Int32} (h : 0 ≤ x.toInt ∧ x.toInt ≤ 4) : x = 0 ∨ x = 1 ∨ x = 2 ∨ x = 3 ∨ x = 4 := by
  have e : ∀ y : Int32, x.toInt = y.toInt → x = y := fun y h => Int32.toInt_inj.mp h
  have : x.toInt = 0 ∨ x.toInt = 1 ∨ x.toInt = 2 ∨ x.toInt = 3 ∨ x.toInt = 4 := by omega
  rcases this with h | h | h | h | h
  · exact Or.inl (e 0 h)
  · exact Or.inr (Or.inl (e 1 h))
  · exact Or.inr (Or.inr (Or.inl (e 2 h)))
  · exact Or.inr (Or.inr (Or.inr (Or.inl (e 3 h))))
  · exact Or.inr (Or.inr (Or.inr (Or.inr (e 4 h))))
theorem wu_all {x1 : UInt64} {x2 : Int32} (h1 : fR x1 (-107374182400000) 107374182400000) (h2 : 0 ≤ x2.toInt ∧ x2.toInt ≤ 4) : 1 ≤ (f_X1_tenToThe x2).toInt ∧ (f_X1_tenToThe x2).toInt ≤ 10000 ∧ 0 ≤ (WU x1 x2).toInt ∧ (WU x1 x2).toInt ≤ 360000000 * (f_X1_tenToThe x2).toInt + 1 := by
  have ha := WAM_R h1
  unfold WU
  rcases x2_cases h2 with h | h | h | h | h <;> subst h
  · exact ⟨by decide +kernel, by decide +kernel, un_0 ha⟩
  · exact ⟨by decide +kernel, by decide +kernel, un_1 ha⟩
  · exact ⟨by decide +kernel, by decide +kernel, un_2 ha⟩
  · exact ⟨by decide +kernel, by decide +kernel, un_3 ha⟩
  · exact ⟨by decide +kernel, by decide +kernel, un_4 ha⟩
theorem tt_pow : ∀ q : Nat, q < 6 → ∀ m : Nat, m < 6 → q ≤ m → (tens (nI q)).toInt ≤ (tens (nI m)).toInt := by decide +kernel
theorem pnN_le {v : Int64} {fw : Int32} : ∀ n, pnN v fw n ≤ n
  | 0 => Nat.le_refl 0
  | n + 1 => by
    unfold pnN
    have := pnN_le (v := v) (fw := fw) n
    split <;> omega
theorem pnN_q {v : Int64} {fw : Int32} {q : Nat} (h : ∀ m, q ≤ m → m < 6 → ¬ pnC v fw m) : ∀ n, n ≤ 6 → pnN v fw n ≤ q
  | 0, _ => Nat.zero_le _
  | n + 1, hn => by
    rcases Nat.lt_or_ge n q with h9 | h9
    · have := pnN_le (v := v) (fw := fw) (n + 1); omega
    · rw [pnN_s0 (h n h9 (by omega))]; exact pnN_q h n (by omega)
theorem pnN_b {v : Int64} {fw : Int32} {q : Nat} (hq : q < 6) (h1 : fw.toInt ≤ q) (h2 : v.toInt < (tens (nI q)).toInt) : pnN v fw 6 ≤ q := by
  refine pnN_q (fun m hm h6 hc => ?_) 6 (Nat.le_refl 6)
  have ht := tt_pow q hq m h6 hm
  rcases hc with hc | hc
  · rw [Int32.lt_iff_toInt_lt, nI_toInt (by omega)] at hc; omega
  · rw [Int64.lt_iff_toInt_lt] at hc; omega
def wt1 (x1 : UInt64) (x2 : Int32) (f : Nat → Int32) : TX := if dlt x1 FP.dconst0 then (if WU x1 x2 ≤ 0 then (0, f) else tput (0, f) 45) else (0, f)
def wt2 (x1 : UInt64) (x2 : Int32) (f : Nat → Int32) : TX := pnL (WS x1 x2 / 3600) 1 6 (wt1 x1 x2 f)
def wt4 (x1 : UInt64) (x2 : Int32) (f : Nat → Int32) : TX := pnL (WS x1 x2 / 60 - WS x1 x2 / 60 / 60 * 60) 2 6 (tput (wt2 x1 x2 f) 100)
def wt6 (x1 : UInt64) (x2 : Int32) (f : Nat → Int32) : TX := pnL (WS x1 x2 - WS x1 x2 / 60 * 60) 2 6 (tput (wt4 x1 x2 f) 109)
def wt8 (x1 : UInt64) (x2 : Int32) (f : Nat → Int32) : TX := pnL (WU x1 x2 - WS x1 x2 * f_X1_tenToThe x2) x2 6 (tput (wt6 x1 x2 f) 46)
def wt9 (x1 : UInt64) (x2 : Int32) (f : Nat → Int32) : TX := if x2 ≤ 0 then wt6 x1 x2 f else wt8 x1 x2 f
def WRT (x1 : UInt64) (x2 : Int32) (f : Nat → Int32) : TX := tput (wt9 x1 x2 f) 115
theorem ten_q : ∀ q : Nat, q < 6 → f_X1_tenToThe (nI q) = tens (nI q) := by decide +kernel
/-- what the walk of write needs of its numbers -/
theorem wr_all {x1 : UInt64} {x2 : Int32} (f : Nat → Int32) (h1 : fR x1 (-107374182400000) 107374182400000) (h2 : 0 ≤ x2.toInt ∧ x2.toInt ≤ 4) :
    (0 ≤ (WS x1 x2 / 3600).toInt ∧ (WS x1 x2 / 3600).toInt ≤ 100000) ∧ (0 ≤ (WS x1 x2 / 60 - WS x1 x2 / 60 / 60 * 60).toInt ∧ (WS x1 x2 / 60 - WS x1 x2 / 60 / 60 * 60).toInt < 60) ∧ (0 ≤ (WS x1 x2 - WS x1 x2 / 60 * 60).toInt ∧ (WS x1 x2 - WS x1 x2 / 60 * 60).toInt < 60) ∧ (0 ≤ (WU x1 x2 - WS x1 x2 * f_X1_tenToThe x2).toInt ∧ (WU x1 x2 - WS x1 x2 * f_X1_tenToThe x2).toInt < (f_X1_tenToThe x2).toInt) ∧
    (wt1 x1 x2 f).1 ≤ 1 ∧ (wt2 x1 x2 f).1 ≤ 7 ∧ (wt4 x1 x2 f).1 ≤ 10 ∧ (wt6 x1 x2 f).1 ≤ 13 ∧ (wt8 x1 x2 f).1 ≤ 18 ∧ (wt9 x1 x2 f).1 ≤ 18 := by
  obtain ⟨a1, a2, a3, a4⟩ := wu_all h1 h2
  have hws : WS x1 x2 = WU x1 x2 / f_X1_tenToThe x2 := wp_eq (by omega)
  have b1 := q64 (a := WU x1 x2) (b := f_X1_tenToThe x2) a3 (by omega)
  have b2 := r64 (a := WU x1 x2) (b := f_X1_tenToThe x2) a3 (by omega)
  rw [← hws] at b1 b2
  have b3 : 0 ≤ (WS x1 x2).toInt := by rw [b1]; exact Int.ediv_nonneg a3 (by omega)
  have b4 : (WS x1 x2).toInt ≤ 360000001 := by
    rw [b1]
    have : (WU x1 x2).toInt / (f_X1_tenToThe x2).toInt ≤ 360000001 := by
      refine Int.ediv_le_of_le_mul (by omega) ?_
      omega
    exact this
  have e36 : (3600 : Int64).toInt = 3600 := rfl
  have e60 : (60 : Int64).toInt = 60 := rfl
  have c1 := q64 (b := 3600) b3 (by decide)
  have c2 := q64 (b := 60) b3 (by decide)
  have c3 := r64 (b := 60) b3 (by decide)
  rw [e36] at c1
  rw [e60] at c2 c3
  have c5 : 0 ≤ (WS x1 x2 / 60).toInt := by rw [c2]; omega
  have c4 := r64 (b := 60) c5 (by decide)
  rw [e60] at c4
  have t2 : (tens (nI 2)).toInt = 100 := by decide +kernel
  have d2 : pnN (WS x1 x2 / 60 - WS x1 x2 / 60 / 60 * 60) 2 6 ≤ 2 := pnN_b (q := 2) (by decide) (by decide) (by rw [c4]; omega)
  have d3 : pnN (WS x1 x2 - WS x1 x2 / 60 * 60) 2 6 ≤ 2 := pnN_b (q := 2) (by decide) (by decide) (by rw [c3]; omega)
  have m0 := Int.emod_nonneg (WU x1 x2).toInt (show (f_X1_tenToThe x2).toInt ≠ 0 by omega)
  have m1 := Int.emod_lt_of_pos (WU x1 x2).toInt (show 0 < (f_X1_tenToThe x2).toInt by omega)
  have d4 : pnN (WU x1 x2 - WS x1 x2 * f_X1_tenToThe x2) x2 6 ≤ 4 := by
    obtain ⟨q, hq, rfl⟩ : ∃ q : Nat, q < 5 ∧ x2 = nI q := by
      rcases x2_cases h2 with h | h | h | h | h <;> subst h
      · exact ⟨0, by decide, by decide⟩
      · exact ⟨1, by decide, by decide⟩
      · exact ⟨2, by decide, by decide⟩
      · exact ⟨3, by decide, by decide⟩
      · exact ⟨4, by decide, by decide⟩
    have := pnN_b (v := WU x1 (nI q) - WS x1 (nI q) * f_X1_tenToThe (nI q)) (fw := nI q) (q := q) (by omega) (by rw [nI_toInt (by omega)]; omega) (by rw [← ten_q q (by omega), b2]; exact m1)
    omega
  have l1 : (wt1 x1 x2 f).1 ≤ 1 := by
    unfold wt1
    split
    · split
      · exact Nat.zero_le _
      · exact Nat.le_refl _
    · exact Nat.zero_le _
  have l2 : (wt2 x1 x2 f).1 ≤ 7 := by
    unfold wt2; rw [pnL_len]
    have := pnN_le (v := WS x1 x2 / 3600) (fw := 1) 6
    omega
  have l4 : (wt4 x1 x2 f).1 ≤ 10 := by
    unfold wt4; rw [pnL_len]; show (wt2 x1 x2 f).1 + 1 + _ ≤ 10; omega
  have l6 : (wt6 x1 x2 f).1 ≤ 13 := by
    unfold wt6; rw [pnL_len]; show (wt4 x1 x2 f).1 + 1 + _ ≤ 13; omega
  have l8 : (wt8 x1 x2 f).1 ≤ 18 := by
    unfold wt8; rw [pnL_len]; show (wt6 x1 x2 f).1 + 1 + _ ≤ 18; omega
  refine ⟨⟨by omega, by omega⟩, ⟨by omega, by omega⟩, ⟨by omega, by omega⟩, ⟨by omega, by omega⟩, l1, l2, l4, l6, l8, ?_⟩
  unfold wt9
  split <;> omega
def f_X1_write (x1 : UInt64) (x2 : Int32) (f : Nat → Int32) : Except String Int32 := if f_X1_isWithin x1 13904980397738950656 4681608360884174848 = 0 then .error xIA else if f_X1_isWholeWithin (Int32.toInt64 x2) 0 4 = 0 then .error xIA else .ok (nI (WRT x1 x2 f).1)
theorem len1 {v : Int64} {fw : Int32} {t : TX} {b q : Nat} (h : t.1 ≤ b) (h1 : b + 6 ≤ 24) : t.1 + pnN v fw 6 ≤ 24 := by
  have := pnN_le (v := v) (fw := fw) 6
  omega
theorem x2_in {x : Int32} (h : ¬ f_X1_isWholeWithin (Int32.toInt64 x) 0 4 = 0) : 0 ≤ x.toInt ∧ x.toInt ≤ 4 := by
  have h1 := ww_in h
  rw [Int32.toInt_toInt64] at h1
  exact h1
set_option maxHeartbeats 4000000 in
set_option maxRecDepth 100000 in
theorem k_X1_write (l : Launch) (hst : l.stackTraces = false) (dC : Nat → ClassId) (dI : Nat → Nat → Nat) (cA : Nat → ClassId) (tm tt sz : Nat) (ax ab aw : Nat) (wl : Int32) (la ea : UInt64) (wk fl : Int32) (f0 : Nat → Int32) (x1 : UInt64) (x2 : Int32) (hF : fR x1 (-1208925819614629174706176) 1208925819614629174706176) : vx_Met l yX1_write wsX1_write ({ frames := 6, cells := 1, slots := 6, locals := 82 }) (PcW dC dI cA tm tt sz [.ref ax, .double x1, .int x2] [(ax, .inr (1, [.ref ab, .ref aw, .int wl, .double la, .double ea, .int wk, .int fl])), (aw, aI 24 (cA 2) f0)]) (va_Qi (fun r (_ : Unit) => f_X1_write x1 x2 f0 = .ok r) (fun _ t => WB dC dI (va_A [(ax, .inr (1, [.ref ab, .ref aw, .int wl, .double la, .double ea, .int wk, .int fl])), (aw, aI 24 (cA 2) f0)] sz) [(ax, .inr (1, [.ref ab, .ref aw, .int (nI (WRT x1 x2 f0).1), .double la, .double ea, .int wk, .int fl])), (aw, aI 24 (cA 2) ((WRT x1 x2 f0).2))] t) (va_A [(ax, .inr (1, [.ref ab, .ref aw, .int wl, .double la, .double ea, .int wk, .int fl])), (aw, aI 24 (cA 2) f0)] sz)) (vx_X (fun (_ : Unit) => True) (fun E _ t => f_X1_write x1 x2 f0 = .error E ∧ WB dC dI (va_A [(ax, .inr (1, [.ref ab, .ref aw, .int wl, .double la, .double ea, .int wk, .int fl])), (aw, aI 24 (cA 2) f0)] sz) [(ax, .inr (1, [.ref ab, .ref aw, .int wl, .double la, .double ea, .int wk, .int fl])), (aw, aI 24 (cA 2) f0)] t) (va_A [(ax, .inr (1, [.ref ab, .ref aw, .int wl, .double la, .double ea, .int wk, .int fl])), (aw, aI 24 (cA 2) f0)] sz)) 1 6 (va_A [(ax, .inr (1, [.ref ab, .ref aw, .int wl, .double la, .double ea, .int wk, .int fl])), (aw, aI 24 (cA 2) f0)] sz) := by
  refine vx_ofW (cc := cX1_write) (maxL := 12) (ret := (some .int)) (by decide) rfl ?_
  intro p e s m args below meth c s₁ B hml hnt hv
  obtain ⟨rfl, hsz, hP, hK, hD0, hE⟩ := hv
  subst hsz
  have hD := hD0.self (sz := s.heap.size)
  generalize hAe : va_A [(ax, .inr (1, [.ref ab, .ref aw, .int wl, .double la, .double ea, .int wk, .int fl])), (aw, aI 24 (cA 2) f0)] s.heap.size = A at hD hE ⊢
  have hA : ∀ q : Nat, s.heap.size ≤ q → A q := fun q h => by rw [← hAe]; exact Or.inr h
  have hS : va_S A s.heap s.heap [] := va_S.rf
  have hP : va_P (dC, dI) vwCl [(ax, .inr (1, [.ref ab, .ref aw, .int wl, .double la, .double ea, .int wk, .int fl])), (aw, aI 24 (cA 2) f0)] s.heap := hP
  have hx := B.exec
  have hb := B.bytes
  have hr := B.returns
  have hts := atoms_spec (ws := wsX1_write) B.pre
  have hown : s.vm.findClass RX1 = some m.cls := findClass_of_methodNamed B.named
  have hlocks := B.notSynchronized
  have hl := lv_entry ([.ref ax, .double x1, .int x2]) (n := 12) (Nat.le_of_ble_eq_true rfl)
  rw [lg_entry_eq]
  generalize (lg_sl ([.ref ax, .double x1, .int x2]) ++ List.replicate (12 - (lg_sl ([.ref ax, .double x1, .int x2])).length) Slot.unset).toArray = ls at hl ⊢
  have hl : lv_has ls 12 [(0, .ref ax), (1, .double x1), (3, .int x2)] := hl
  have hin1 : ∀ w ∈ u_ws RX1 TX1 7, w ∈ wsX1_write := by decide +kernel
  refine W.gen (fun QQ hQQ => ?_)

  refine lv_dload_n hx hb dX1_write_0 rfl (lv_at hl 1 rfl) ?_
  refine lv_ldc2d hx hb hown (hts (.constantDouble RX1 310 (13904980397738950656)) (by decide +kernel)) dX1_write_1 ?_
  have r_1 : fR 13904980397738950656 (-107374182400000) (-107374182400000) := fR_lit (by decide +kernel)
  refine lv_ldc2d hx hb hown (hts (.constantDouble RX1 312 (4681608360884174848)) (by decide +kernel)) dX1_write_4 ?_
  have r_2 : fR 4681608360884174848 107374182400000 107374182400000 := fR_lit (by decide +kernel)
  refine vp_callSi (W.runS (As := [.double x1, .double 13904980397738950656, .double 4681608360884174848]) (rest := []) ⟨hx, hb, hml, hown, hts⟩ (k_X1_isWithin l x1 13904980397738950656 4681608360884174848) (va_cwS 3 hts gX1_write_X1_isWithin rfl rfl rfl (by decide +kernel) ⟨Nat.le_of_ble_eq_true rfl, Nat.le_of_ble_eq_true rfl⟩) preEq rfl rfl hl.1 rfl (lv_room (Nat.le_of_ble_eq_true rfl)) dX1_write_7 ⟨Nat.le_of_ble_eq_true rfl, Nat.le_of_ble_eq_true rfl⟩) (fun r hr9 => ?_)
  obtain rfl := hr9
  refine lv_if_ne (tgt := 24) hx hb dX1_write_10 (by decide) (fun c_3 => ?_) (fun c_3 => ?_)
  · refine lv_iload_n hx hb dX1_write_24 rfl (lv_at hl 2 rfl) ?_
    refine lv_i2l hx hb dX1_write_25 rfl ?_
    refine lv_lconst (v := 0) hx hb dX1_write_26 (by decide) ?_
    refine lv_ldc2 hx hb hown (hts (.constantLong RX1 316 (4)) (by decide +kernel)) dX1_write_27 ?_
    refine vp_callSi (W.runS (As := [.long (Int32.toInt64 x2), .long 0, .long 4]) (rest := []) ⟨hx, hb, hml, hown, hts⟩ (k_X1_isWholeWithin l (Int32.toInt64 x2) 0 4) (va_cwS 3 hts gX1_write_X1_isWholeWithin rfl rfl rfl (by decide +kernel) ⟨Nat.le_of_ble_eq_true rfl, Nat.le_of_ble_eq_true rfl⟩) preEq rfl rfl hl.1 rfl (lv_room (Nat.le_of_ble_eq_true rfl)) dX1_write_30 ⟨Nat.le_of_ble_eq_true rfl, Nat.le_of_ble_eq_true rfl⟩) (fun r hr9 => ?_)
    obtain rfl := hr9
    refine lv_if_ne (tgt := 47) hx hb dX1_write_33 (by decide) (fun c_4 => ?_) (fun c_4 => ?_)
    · refine lv_iload_n hx hb dX1_write_47 rfl (lv_at hl 2 rfl) ?_
      refine vp_callSl (W.runS (As := [.int x2]) (rest := []) ⟨hx, hb, hml, hown, hts⟩ (k_X1_tenToThe l tm tt x2) (va_cwS 1 hts gX1_write_X1_tenToThe rfl rfl rfl (by decide +kernel) ⟨Nat.le_of_ble_eq_true rfl, Nat.le_of_ble_eq_true rfl⟩) ⟨(fun a U g9 mk q => ⟨q.1, GE.same (s := U) (U := U.calling g9 mk a) rfl q.2⟩), fun U hU hW => ⟨rfl, hE.give hS (fun _ h => h.elim) hU hW⟩⟩ rfl rfl hl.1 rfl (lv_room (Nat.le_of_ble_eq_true rfl)) dX1_write_48 ⟨Nat.le_of_ble_eq_true rfl, Nat.le_of_ble_eq_true rfl⟩) (fun r hr9 => ?_)
      obtain rfl := hr9
      refine lv_lstore (lv' := [(4, .long (f_X1_tenToThe x2)), (0, .ref ax), (1, .double x1), (3, .int x2)]) hx hb dX1_write_51 hl (by decide) rfl (fun ls hl => ?_)
      have h1w : fR x1 (-107374182400000) 107374182400000 := win_R hF c_3 (fR_lit (by decide +kernel) : fR 13904980397738950656 (-107374182400000) (-107374182400000)) (fR_lit (by decide +kernel) : fR 4681608360884174848 107374182400000 107374182400000)
      have h2w := x2_in c_4
      obtain ⟨ha1, ha2, ha3, ha4, hl1, hl2, hl4, hl6, hl8, hl9⟩ := wr_all f0 h1w h2w
      obtain ⟨hs1, hs2, hu1, hu2⟩ := wu_all h1w h2w
      have ham := WAM_R h1w
      have hJ65 : ∀ (H : Heap) (locs : List Loc) (ls : Array Slot), va_P (dC, dI) vwCl [(ax, .inr (1, [.ref ab, .ref aw, .int wl, .double la, .double ea, .int wk, .int fl])), (aw, aI 24 (cA 2) f0)] H → va_D A [(ax, .inr (1, [.ref ab, .ref aw, .int wl, .double la, .double ea, .int wk, .int fl])), (aw, aI 24 (cA 2) f0)] → va_S A s.heap H locs → lv_has ls 12 [(4, .long (f_X1_tenToThe x2)), (0, .ref ax), (1, .double x1), (3, .int x2)] → W p l e (headSpec wsX1_write ({ frames := 6, cells := 1, slots := 6, locals := 82 })).room s m ([.ref ax, .double x1, .int x2] : List Value).toArray below meth c H locs (0) (0) QQ (F0 m 65 ls [.double (WAM x1)]) := by
        intro H locs ls hP hD hS hl
        refine lv_dstore (lv' := [(6, .double (WAM x1)), (4, .long (f_X1_tenToThe x2)), (0, .ref ax), (1, .double x1), (3, .int x2)]) hx hb dX1_write_65 hl (by decide) rfl (fun ls hl => ?_)
        refine lv_dload hx hb dX1_write_67 (lv_at hl 0 rfl) ?_
        refine lv_ldc2d hx hb hown (hts (.constantDouble RX1 324 (4660134898793709568)) (by decide +kernel)) dX1_write_69 ?_
        have r_5 : fR 4660134898793709568 3865470566400 3865470566400 := fR_lit (by decide +kernel)
        have r_6 := fR_mul ham r_5 0 386547056640000000 (by decide) (by decide) rfl rfl
        refine lv_dmul hx hb dX1_write_72 (fR_nn r_6) ?_
        refine lv_lload hx hb dX1_write_73 (lv_at hl 1 rfl) ?_
        have r_7 := fR_l2d (f_X1_tenToThe x2) (lo := 1) (hi := 10000) hs1 hs2 (by decide) (by decide)
        refine lv_l2d hx hb dX1_write_75 ?_
        have r_8 := fR_mul r_6 r_7 0 3865470566400000000000 (by decide) (by decide) rfl rfl
        refine lv_dmul hx hb dX1_write_76 (fR_nn r_8) ?_
        refine lv_ldc2d hx hb hown (hts (.constantDouble RX1 249 (4602678819172646912)) (by decide +kernel)) dX1_write_77 ?_
        have r_9 : fR 4602678819172646912 536870912 536870912 := fR_lit (by decide +kernel)
        have r_10 := fR_add r_8 r_9 536870912 3865470566401073741824 (by decide) (by decide) rfl rfl
        refine lv_dadd hx hb dX1_write_80 (fR_nn r_10) ?_
        refine lv_d2l hx hb dX1_write_81 ?_
        refine lv_lstore (lv' := [(8, .long (WU x1 x2)), (6, .double (WAM x1)), (4, .long (f_X1_tenToThe x2)), (0, .ref ax), (1, .double x1), (3, .int x2)]) hx hb dX1_write_82 hl (by decide) rfl (fun ls hl => ?_)
        refine lv_lload hx hb dX1_write_84 (lv_at hl 0 rfl) ?_
        refine lv_lload hx hb dX1_write_86 (lv_at hl 2 rfl) ?_
        refine vp_callSl (W.runS (As := [.long (WU x1 x2), .long (f_X1_tenToThe x2)]) (rest := []) ⟨hx, hb, hml, hown, hts⟩ (k_X1_wholeParts l (WU x1 x2) (f_X1_tenToThe x2)) (va_cwS 2 hts gX1_write_X1_wholeParts rfl rfl rfl (by decide +kernel) ⟨Nat.le_of_ble_eq_true rfl, Nat.le_of_ble_eq_true rfl⟩) preEq rfl rfl hl.1 rfl (lv_room (Nat.le_of_ble_eq_true rfl)) dX1_write_88 ⟨Nat.le_of_ble_eq_true rfl, Nat.le_of_ble_eq_true rfl⟩) (fun r hr9 => ?_)
        obtain rfl := hr9
        refine lv_lstore (lv' := [(10, .long (WS x1 x2)), (8, .long (WU x1 x2)), (6, .double (WAM x1)), (4, .long (f_X1_tenToThe x2)), (0, .ref ax), (1, .double x1), (3, .int x2)]) hx hb dX1_write_91 hl (by decide) rfl (fun ls hl => ?_)
        refine lv_aload_n hx hb dX1_write_93 rfl (lv_at hl 4 rfl) ?_
        refine lv_iconst (v := 0) hx hb dX1_write_94 (by decide) ?_
        refine va_put (D := (dC, dI)) (ci := 1) (v := .int 0) (ty := .int) (C := RX1) (T := TX1) (N := 7) hx hb hts hin1 tyX1 tyX1_ok nmX1 hown hK hP hD hS 0 rfl rfl 2 (by decide) (hts (.fieldLink RX1 20 "SkyAlmanac" "writtenLength" "I") (by decide +kernel)) (fun _ h9 => h9) rfl (by decide +kernel) rfl rfl (Nat.le_of_ble_eq_true rfl) dX1_write_95 (fun H locs hP hD hS => ?_)
        have hP : va_P (dC, dI) vwCl [(ax, .inr (1, [.ref ab, .ref aw, .int 0, .double la, .double ea, .int wk, .int fl])), (aw, aI 24 (cA 2) f0)] H := hP
        have hD : va_D A [(ax, .inr (1, [.ref ab, .ref aw, .int 0, .double la, .double ea, .int wk, .int fl])), (aw, aI 24 (cA 2) f0)] := hD
        have hP : va_P (dC, dI) vwCl [(ax, .inr (1, [.ref ab, .ref aw, .int (nI ((0, f0) : TX).1), .double la, .double ea, .int wk, .int fl])), (aw, aI 24 (cA 2) (((0, f0) : TX).2))] H := by rw [show nI ((0, f0) : TX).1 = 0 from nI_0]; exact hP
        have hD : va_D A [(ax, .inr (1, [.ref ab, .ref aw, .int (nI ((0, f0) : TX).1), .double la, .double ea, .int wk, .int fl])), (aw, aI 24 (cA 2) (((0, f0) : TX).2))] := by rw [show nI ((0, f0) : TX).1 = 0 from nI_0]; exact hD
        have hJ117 : ∀ (H : Heap) (locs : List Loc) (ls : Array Slot), va_P (dC, dI) vwCl [(ax, .inr (1, [.ref ab, .ref aw, .int (nI (wt1 x1 x2 f0).1), .double la, .double ea, .int wk, .int fl])), (aw, aI 24 (cA 2) ((wt1 x1 x2 f0).2))] H → va_D A [(ax, .inr (1, [.ref ab, .ref aw, .int (nI (wt1 x1 x2 f0).1), .double la, .double ea, .int wk, .int fl])), (aw, aI 24 (cA 2) ((wt1 x1 x2 f0).2))] → va_S A s.heap H locs → lv_has ls 12 [(10, .long (WS x1 x2)), (8, .long (WU x1 x2)), (6, .double (WAM x1)), (4, .long (f_X1_tenToThe x2)), (0, .ref ax), (1, .double x1), (3, .int x2)] → W p l e (headSpec wsX1_write ({ frames := 6, cells := 1, slots := 6, locals := 82 })).room s m ([.ref ax, .double x1, .int x2] : List Value).toArray below meth c H locs (0) (0) QQ (F0 m 117 ls []) := by
          intro H locs ls hP hD hS hl
          refine lv_aload_n hx hb dX1_write_117 rfl (lv_at hl 4 rfl) ?_
          refine lv_lload hx hb dX1_write_118 (lv_at hl 0 rfl) ?_
          refine lv_ldc2 hx hb hown (hts (.constantLong RX1 333 (3600)) (by decide +kernel)) dX1_write_120 ?_
          refine lv_ldiv hx hb dX1_write_123 (by decide) ?_
          refine lv_iconst (v := 1) hx hb dX1_write_124 (by decide) ?_
          have hPc := hP.sub (ws' := [(ax, .inr (1, [.ref ab, .ref aw, .int (nI (wt1 x1 x2 f0).1), .double la, .double ea, .int wk, .int fl])), (aw, aI 24 (cA 2) ((wt1 x1 x2 f0).2))]) [0, 1] rfl
          have hDc := hD.sub (ws' := [(ax, .inr (1, [.ref ab, .ref aw, .int (nI (wt1 x1 x2 f0).1), .double la, .double ea, .int wk, .int fl])), (aw, aI 24 (cA 2) ((wt1 x1 x2 f0).2))]) [0, 1] (by decide) rfl
          have hFc := va_free (wc := [(ax, .inr (1, [.ref ab, .ref aw, .int (nI (wt1 x1 x2 f0).1), .double la, .double ea, .int wk, .int fl])), (aw, aI 24 (cA 2) ((wt1 x1 x2 f0).2))]) hD hS hA [0, 1] rfl
          refine va_callv (va_runV (As := [.long ((WS x1 x2) / 3600), .int 1]) (rest := []) ⟨hx, hb, hml, hown, hts⟩ (k_X1_putNumber l hst dC dI cA tm tt _ ax ab aw (wt1 x1 x2 f0) la ea wk fl ((WS x1 x2) / 3600) 1 ha1.1 (len1 (b := 1) (q := 0) hl1 (by decide))) (cwV 2 hts gX1_write_X1_putNumber rfl rfl rfl (by decide +kernel) ⟨Nat.le_of_ble_eq_true rfl, Nat.le_of_ble_eq_true rfl⟩) ⟨PcW.blind, va_recv hK hPc (ci := 1) (q0 := 0) rfl rfl, PcW.give hPc hK hDc hE hS hFc⟩ rfl rfl hl.1 rfl (lv_room (Nat.le_of_ble_eq_true rfl)) dX1_write_125 ⟨Nat.le_of_ble_eq_true rfl, Nat.le_of_ble_eq_true rfl⟩) hS (fun q _ h => hFc q h) hFc (fun u t H locs ht hvm hp_12 hB hz1 hk1 hS => ?_)
          obtain ⟨hP1, hD1⟩ := hB
          rw [ht] at hP1
          obtain ⟨hP, hD⟩ := va_join (wr := []) (w1 := [(ax, .inr (1, [.ref ab, .ref aw, .int (nI (pnL ((WS x1 x2) / 3600) 1 6 (wt1 x1 x2 f0)).1), .double la, .double ea, .int wk, .int fl])), (aw, aI 24 (cA 2) ((pnL ((WS x1 x2) / 3600) 1 6 (wt1 x1 x2 f0)).2))]) hP hD [0, 1] [] rfl rfl (by decide) (by decide) hk1 hFc hP1 hD1
          have hP := hP.sub (ws' := [(ax, .inr (1, [.ref ab, .ref aw, .int (nI (pnL ((WS x1 x2) / 3600) 1 6 (wt1 x1 x2 f0)).1), .double la, .double ea, .int wk, .int fl])), (aw, aI 24 (cA 2) ((pnL ((WS x1 x2) / 3600) 1 6 (wt1 x1 x2 f0)).2))]) [0, 1] rfl
          have hD := hD.sub (ws' := [(ax, .inr (1, [.ref ab, .ref aw, .int (nI (pnL ((WS x1 x2) / 3600) 1 6 (wt1 x1 x2 f0)).1), .double la, .double ea, .int wk, .int fl])), (aw, aI 24 (cA 2) ((pnL ((WS x1 x2) / 3600) 1 6 (wt1 x1 x2 f0)).2))]) [0, 1] (by decide) rfl
          have hP : va_P (dC, dI) vwCl [(ax, .inr (1, [.ref ab, .ref aw, .int (nI (wt2 x1 x2 f0).1), .double la, .double ea, .int wk, .int fl])), (aw, aI 24 (cA 2) ((wt2 x1 x2 f0).2))] H := hP
          have hD : va_D A [(ax, .inr (1, [.ref ab, .ref aw, .int (nI (wt2 x1 x2 f0).1), .double la, .double ea, .int wk, .int fl])), (aw, aI 24 (cA 2) ((wt2 x1 x2 f0).2))] := hD
          refine lv_aload_n hx hb dX1_write_128 rfl (lv_at hl 4 rfl) ?_
          refine lv_bipush (v := 100) hx hb dX1_write_129 (by decide) ?_
          have hPc := hP.sub (ws' := [(ax, .inr (1, [.ref ab, .ref aw, .int (nI (wt2 x1 x2 f0).1), .double la, .double ea, .int wk, .int fl])), (aw, aI 24 (cA 2) ((wt2 x1 x2 f0).2))]) [0, 1] rfl
          have hDc := hD.sub (ws' := [(ax, .inr (1, [.ref ab, .ref aw, .int (nI (wt2 x1 x2 f0).1), .double la, .double ea, .int wk, .int fl])), (aw, aI 24 (cA 2) ((wt2 x1 x2 f0).2))]) [0, 1] (by decide) rfl
          have hFc := va_free (wc := [(ax, .inr (1, [.ref ab, .ref aw, .int (nI (wt2 x1 x2 f0).1), .double la, .double ea, .int wk, .int fl])), (aw, aI 24 (cA 2) ((wt2 x1 x2 f0).2))]) hD hS hA [0, 1] rfl
          refine va_callv (va_runV (As := [.int 100]) (rest := []) ⟨hx, hb, hml, hown, hts⟩ (k_X1_put l hst dC dI cA tm tt _ ax ab aw (wt2 x1 x2 f0).1 la ea wk fl (wt2 x1 x2 f0).2 100 (by omega)) (cwV 1 hts gX1_write_X1_put rfl rfl rfl (by decide +kernel) ⟨Nat.le_of_ble_eq_true rfl, Nat.le_of_ble_eq_true rfl⟩) ⟨PcW.blind, va_recv hK hPc (ci := 1) (q0 := 0) rfl rfl, PcW.give hPc hK hDc hE hS hFc⟩ rfl rfl hl.1 rfl (lv_room (Nat.le_of_ble_eq_true rfl)) dX1_write_131 ⟨Nat.le_of_ble_eq_true rfl, Nat.le_of_ble_eq_true rfl⟩) hS (fun q _ h => hFc q h) hFc (fun u t H locs ht hvm hp_14 hB hz1 hk1 hS => ?_)
          obtain ⟨hP1, hD1⟩ := hB
          rw [ht] at hP1
          obtain ⟨hP, hD⟩ := va_join (wr := []) (w1 := [(ax, .inr (1, [.ref ab, .ref aw, .int (nI ((wt2 x1 x2 f0).1 + 1)), .double la, .double ea, .int wk, .int fl])), (aw, aI 24 (cA 2) (upd (wt2 x1 x2 f0).2 (wt2 x1 x2 f0).1 (vp_nar .char 100)))]) hP hD [0, 1] [] rfl rfl (by decide) (by decide) hk1 hFc hP1 hD1
          have hP := hP.sub (ws' := [(ax, .inr (1, [.ref ab, .ref aw, .int (nI ((wt2 x1 x2 f0).1 + 1)), .double la, .double ea, .int wk, .int fl])), (aw, aI 24 (cA 2) (upd (wt2 x1 x2 f0).2 (wt2 x1 x2 f0).1 (vp_nar .char 100)))]) [0, 1] rfl
          have hD := hD.sub (ws' := [(ax, .inr (1, [.ref ab, .ref aw, .int (nI ((wt2 x1 x2 f0).1 + 1)), .double la, .double ea, .int wk, .int fl])), (aw, aI 24 (cA 2) (upd (wt2 x1 x2 f0).2 (wt2 x1 x2 f0).1 (vp_nar .char 100)))]) [0, 1] (by decide) rfl
          rw [show vp_nar .char 100 = 100 by decide +kernel] at hP hD
          have hP : va_P (dC, dI) vwCl [(ax, .inr (1, [.ref ab, .ref aw, .int (nI (tput (wt2 x1 x2 f0) 100).1), .double la, .double ea, .int wk, .int fl])), (aw, aI 24 (cA 2) ((tput (wt2 x1 x2 f0) 100).2))] H := hP
          have hD : va_D A [(ax, .inr (1, [.ref ab, .ref aw, .int (nI (tput (wt2 x1 x2 f0) 100).1), .double la, .double ea, .int wk, .int fl])), (aw, aI 24 (cA 2) ((tput (wt2 x1 x2 f0) 100).2))] := hD
          refine lv_aload_n hx hb dX1_write_134 rfl (lv_at hl 4 rfl) ?_
          refine lv_lload hx hb dX1_write_135 (lv_at hl 0 rfl) ?_
          refine lv_ldc2 hx hb hown (hts (.constantLong RX1 339 (60)) (by decide +kernel)) dX1_write_137 ?_
          refine lv_ldiv hx hb dX1_write_140 (by decide) ?_
          refine lv_ldc2 hx hb hown (hts (.constantLong RX1 339 (60)) (by decide +kernel)) dX1_write_141 ?_
          refine lv_lrem hx hb dX1_write_144 (by decide) ?_
          refine lv_iconst (v := 2) hx hb dX1_write_145 (by decide) ?_
          have hPc := hP.sub (ws' := [(ax, .inr (1, [.ref ab, .ref aw, .int (nI (tput (wt2 x1 x2 f0) 100).1), .double la, .double ea, .int wk, .int fl])), (aw, aI 24 (cA 2) ((tput (wt2 x1 x2 f0) 100).2))]) [0, 1] rfl
          have hDc := hD.sub (ws' := [(ax, .inr (1, [.ref ab, .ref aw, .int (nI (tput (wt2 x1 x2 f0) 100).1), .double la, .double ea, .int wk, .int fl])), (aw, aI 24 (cA 2) ((tput (wt2 x1 x2 f0) 100).2))]) [0, 1] (by decide) rfl
          have hFc := va_free (wc := [(ax, .inr (1, [.ref ab, .ref aw, .int (nI (tput (wt2 x1 x2 f0) 100).1), .double la, .double ea, .int wk, .int fl])), (aw, aI 24 (cA 2) ((tput (wt2 x1 x2 f0) 100).2))]) hD hS hA [0, 1] rfl
          refine va_callv (va_runV (As := [.long (((WS x1 x2) / 60) - ((WS x1 x2) / 60) / 60 * 60), .int 2]) (rest := []) ⟨hx, hb, hml, hown, hts⟩ (k_X1_putNumber l hst dC dI cA tm tt _ ax ab aw (tput (wt2 x1 x2 f0) 100) la ea wk fl (((WS x1 x2) / 60) - ((WS x1 x2) / 60) / 60 * 60) 2 ha2.1 (len1 (b := 8) (q := 0) (by show (wt2 x1 x2 f0).1 + 1 ≤ 8; omega) (by decide))) (cwV 2 hts gX1_write_X1_putNumber rfl rfl rfl (by decide +kernel) ⟨Nat.le_of_ble_eq_true rfl, Nat.le_of_ble_eq_true rfl⟩) ⟨PcW.blind, va_recv hK hPc (ci := 1) (q0 := 0) rfl rfl, PcW.give hPc hK hDc hE hS hFc⟩ rfl rfl hl.1 rfl (lv_room (Nat.le_of_ble_eq_true rfl)) dX1_write_146 ⟨Nat.le_of_ble_eq_true rfl, Nat.le_of_ble_eq_true rfl⟩) hS (fun q _ h => hFc q h) hFc (fun u t H locs ht hvm hp_16 hB hz1 hk1 hS => ?_)
          obtain ⟨hP1, hD1⟩ := hB
          rw [ht] at hP1
          obtain ⟨hP, hD⟩ := va_join (wr := []) (w1 := [(ax, .inr (1, [.ref ab, .ref aw, .int (nI (pnL (((WS x1 x2) / 60) - ((WS x1 x2) / 60) / 60 * 60) 2 6 (tput (wt2 x1 x2 f0) 100)).1), .double la, .double ea, .int wk, .int fl])), (aw, aI 24 (cA 2) ((pnL (((WS x1 x2) / 60) - ((WS x1 x2) / 60) / 60 * 60) 2 6 (tput (wt2 x1 x2 f0) 100)).2))]) hP hD [0, 1] [] rfl rfl (by decide) (by decide) hk1 hFc hP1 hD1
          have hP := hP.sub (ws' := [(ax, .inr (1, [.ref ab, .ref aw, .int (nI (pnL (((WS x1 x2) / 60) - ((WS x1 x2) / 60) / 60 * 60) 2 6 (tput (wt2 x1 x2 f0) 100)).1), .double la, .double ea, .int wk, .int fl])), (aw, aI 24 (cA 2) ((pnL (((WS x1 x2) / 60) - ((WS x1 x2) / 60) / 60 * 60) 2 6 (tput (wt2 x1 x2 f0) 100)).2))]) [0, 1] rfl
          have hD := hD.sub (ws' := [(ax, .inr (1, [.ref ab, .ref aw, .int (nI (pnL (((WS x1 x2) / 60) - ((WS x1 x2) / 60) / 60 * 60) 2 6 (tput (wt2 x1 x2 f0) 100)).1), .double la, .double ea, .int wk, .int fl])), (aw, aI 24 (cA 2) ((pnL (((WS x1 x2) / 60) - ((WS x1 x2) / 60) / 60 * 60) 2 6 (tput (wt2 x1 x2 f0) 100)).2))]) [0, 1] (by decide) rfl
          have hP : va_P (dC, dI) vwCl [(ax, .inr (1, [.ref ab, .ref aw, .int (nI (wt4 x1 x2 f0).1), .double la, .double ea, .int wk, .int fl])), (aw, aI 24 (cA 2) ((wt4 x1 x2 f0).2))] H := hP
          have hD : va_D A [(ax, .inr (1, [.ref ab, .ref aw, .int (nI (wt4 x1 x2 f0).1), .double la, .double ea, .int wk, .int fl])), (aw, aI 24 (cA 2) ((wt4 x1 x2 f0).2))] := hD
          refine lv_aload_n hx hb dX1_write_149 rfl (lv_at hl 4 rfl) ?_
          refine lv_bipush (v := 109) hx hb dX1_write_150 (by decide) ?_
          have hPc := hP.sub (ws' := [(ax, .inr (1, [.ref ab, .ref aw, .int (nI (wt4 x1 x2 f0).1), .double la, .double ea, .int wk, .int fl])), (aw, aI 24 (cA 2) ((wt4 x1 x2 f0).2))]) [0, 1] rfl
          have hDc := hD.sub (ws' := [(ax, .inr (1, [.ref ab, .ref aw, .int (nI (wt4 x1 x2 f0).1), .double la, .double ea, .int wk, .int fl])), (aw, aI 24 (cA 2) ((wt4 x1 x2 f0).2))]) [0, 1] (by decide) rfl
          have hFc := va_free (wc := [(ax, .inr (1, [.ref ab, .ref aw, .int (nI (wt4 x1 x2 f0).1), .double la, .double ea, .int wk, .int fl])), (aw, aI 24 (cA 2) ((wt4 x1 x2 f0).2))]) hD hS hA [0, 1] rfl
          refine va_callv (va_runV (As := [.int 109]) (rest := []) ⟨hx, hb, hml, hown, hts⟩ (k_X1_put l hst dC dI cA tm tt _ ax ab aw (wt4 x1 x2 f0).1 la ea wk fl (wt4 x1 x2 f0).2 109 (by omega)) (cwV 1 hts gX1_write_X1_put rfl rfl rfl (by decide +kernel) ⟨Nat.le_of_ble_eq_true rfl, Nat.le_of_ble_eq_true rfl⟩) ⟨PcW.blind, va_recv hK hPc (ci := 1) (q0 := 0) rfl rfl, PcW.give hPc hK hDc hE hS hFc⟩ rfl rfl hl.1 rfl (lv_room (Nat.le_of_ble_eq_true rfl)) dX1_write_152 ⟨Nat.le_of_ble_eq_true rfl, Nat.le_of_ble_eq_true rfl⟩) hS (fun q _ h => hFc q h) hFc (fun u t H locs ht hvm hp_18 hB hz1 hk1 hS => ?_)
          obtain ⟨hP1, hD1⟩ := hB
          rw [ht] at hP1
          obtain ⟨hP, hD⟩ := va_join (wr := []) (w1 := [(ax, .inr (1, [.ref ab, .ref aw, .int (nI ((wt4 x1 x2 f0).1 + 1)), .double la, .double ea, .int wk, .int fl])), (aw, aI 24 (cA 2) (upd (wt4 x1 x2 f0).2 (wt4 x1 x2 f0).1 (vp_nar .char 109)))]) hP hD [0, 1] [] rfl rfl (by decide) (by decide) hk1 hFc hP1 hD1
          have hP := hP.sub (ws' := [(ax, .inr (1, [.ref ab, .ref aw, .int (nI ((wt4 x1 x2 f0).1 + 1)), .double la, .double ea, .int wk, .int fl])), (aw, aI 24 (cA 2) (upd (wt4 x1 x2 f0).2 (wt4 x1 x2 f0).1 (vp_nar .char 109)))]) [0, 1] rfl
          have hD := hD.sub (ws' := [(ax, .inr (1, [.ref ab, .ref aw, .int (nI ((wt4 x1 x2 f0).1 + 1)), .double la, .double ea, .int wk, .int fl])), (aw, aI 24 (cA 2) (upd (wt4 x1 x2 f0).2 (wt4 x1 x2 f0).1 (vp_nar .char 109)))]) [0, 1] (by decide) rfl
          rw [show vp_nar .char 109 = 109 by decide +kernel] at hP hD
          have hP : va_P (dC, dI) vwCl [(ax, .inr (1, [.ref ab, .ref aw, .int (nI (tput (wt4 x1 x2 f0) 109).1), .double la, .double ea, .int wk, .int fl])), (aw, aI 24 (cA 2) ((tput (wt4 x1 x2 f0) 109).2))] H := hP
          have hD : va_D A [(ax, .inr (1, [.ref ab, .ref aw, .int (nI (tput (wt4 x1 x2 f0) 109).1), .double la, .double ea, .int wk, .int fl])), (aw, aI 24 (cA 2) ((tput (wt4 x1 x2 f0) 109).2))] := hD
          refine lv_aload_n hx hb dX1_write_155 rfl (lv_at hl 4 rfl) ?_
          refine lv_lload hx hb dX1_write_156 (lv_at hl 0 rfl) ?_
          refine lv_ldc2 hx hb hown (hts (.constantLong RX1 339 (60)) (by decide +kernel)) dX1_write_158 ?_
          refine lv_lrem hx hb dX1_write_161 (by decide) ?_
          refine lv_iconst (v := 2) hx hb dX1_write_162 (by decide) ?_
          have hPc := hP.sub (ws' := [(ax, .inr (1, [.ref ab, .ref aw, .int (nI (tput (wt4 x1 x2 f0) 109).1), .double la, .double ea, .int wk, .int fl])), (aw, aI 24 (cA 2) ((tput (wt4 x1 x2 f0) 109).2))]) [0, 1] rfl
          have hDc := hD.sub (ws' := [(ax, .inr (1, [.ref ab, .ref aw, .int (nI (tput (wt4 x1 x2 f0) 109).1), .double la, .double ea, .int wk, .int fl])), (aw, aI 24 (cA 2) ((tput (wt4 x1 x2 f0) 109).2))]) [0, 1] (by decide) rfl
          have hFc := va_free (wc := [(ax, .inr (1, [.ref ab, .ref aw, .int (nI (tput (wt4 x1 x2 f0) 109).1), .double la, .double ea, .int wk, .int fl])), (aw, aI 24 (cA 2) ((tput (wt4 x1 x2 f0) 109).2))]) hD hS hA [0, 1] rfl
          refine va_callv (va_runV (As := [.long ((WS x1 x2) - (WS x1 x2) / 60 * 60), .int 2]) (rest := []) ⟨hx, hb, hml, hown, hts⟩ (k_X1_putNumber l hst dC dI cA tm tt _ ax ab aw (tput (wt4 x1 x2 f0) 109) la ea wk fl ((WS x1 x2) - (WS x1 x2) / 60 * 60) 2 ha3.1 (len1 (b := 11) (q := 0) (by show (wt4 x1 x2 f0).1 + 1 ≤ 11; omega) (by decide))) (cwV 2 hts gX1_write_X1_putNumber rfl rfl rfl (by decide +kernel) ⟨Nat.le_of_ble_eq_true rfl, Nat.le_of_ble_eq_true rfl⟩) ⟨PcW.blind, va_recv hK hPc (ci := 1) (q0 := 0) rfl rfl, PcW.give hPc hK hDc hE hS hFc⟩ rfl rfl hl.1 rfl (lv_room (Nat.le_of_ble_eq_true rfl)) dX1_write_163 ⟨Nat.le_of_ble_eq_true rfl, Nat.le_of_ble_eq_true rfl⟩) hS (fun q _ h => hFc q h) hFc (fun u t H locs ht hvm hp_20 hB hz1 hk1 hS => ?_)
          obtain ⟨hP1, hD1⟩ := hB
          rw [ht] at hP1
          obtain ⟨hP, hD⟩ := va_join (wr := []) (w1 := [(ax, .inr (1, [.ref ab, .ref aw, .int (nI (pnL ((WS x1 x2) - (WS x1 x2) / 60 * 60) 2 6 (tput (wt4 x1 x2 f0) 109)).1), .double la, .double ea, .int wk, .int fl])), (aw, aI 24 (cA 2) ((pnL ((WS x1 x2) - (WS x1 x2) / 60 * 60) 2 6 (tput (wt4 x1 x2 f0) 109)).2))]) hP hD [0, 1] [] rfl rfl (by decide) (by decide) hk1 hFc hP1 hD1
          have hP := hP.sub (ws' := [(ax, .inr (1, [.ref ab, .ref aw, .int (nI (pnL ((WS x1 x2) - (WS x1 x2) / 60 * 60) 2 6 (tput (wt4 x1 x2 f0) 109)).1), .double la, .double ea, .int wk, .int fl])), (aw, aI 24 (cA 2) ((pnL ((WS x1 x2) - (WS x1 x2) / 60 * 60) 2 6 (tput (wt4 x1 x2 f0) 109)).2))]) [0, 1] rfl
          have hD := hD.sub (ws' := [(ax, .inr (1, [.ref ab, .ref aw, .int (nI (pnL ((WS x1 x2) - (WS x1 x2) / 60 * 60) 2 6 (tput (wt4 x1 x2 f0) 109)).1), .double la, .double ea, .int wk, .int fl])), (aw, aI 24 (cA 2) ((pnL ((WS x1 x2) - (WS x1 x2) / 60 * 60) 2 6 (tput (wt4 x1 x2 f0) 109)).2))]) [0, 1] (by decide) rfl
          have hP : va_P (dC, dI) vwCl [(ax, .inr (1, [.ref ab, .ref aw, .int (nI (wt6 x1 x2 f0).1), .double la, .double ea, .int wk, .int fl])), (aw, aI 24 (cA 2) ((wt6 x1 x2 f0).2))] H := hP
          have hD : va_D A [(ax, .inr (1, [.ref ab, .ref aw, .int (nI (wt6 x1 x2 f0).1), .double la, .double ea, .int wk, .int fl])), (aw, aI 24 (cA 2) ((wt6 x1 x2 f0).2))] := hD
          have hJ189 : ∀ (H : Heap) (locs : List Loc) (ls : Array Slot), va_P (dC, dI) vwCl [(ax, .inr (1, [.ref ab, .ref aw, .int (nI (wt9 x1 x2 f0).1), .double la, .double ea, .int wk, .int fl])), (aw, aI 24 (cA 2) ((wt9 x1 x2 f0).2))] H → va_D A [(ax, .inr (1, [.ref ab, .ref aw, .int (nI (wt9 x1 x2 f0).1), .double la, .double ea, .int wk, .int fl])), (aw, aI 24 (cA 2) ((wt9 x1 x2 f0).2))] → va_S A s.heap H locs → lv_has ls 12 [(0, .ref ax), (1, .double x1), (3, .int x2)] → W p l e (headSpec wsX1_write ({ frames := 6, cells := 1, slots := 6, locals := 82 })).room s m ([.ref ax, .double x1, .int x2] : List Value).toArray below meth c H locs (0) (0) QQ (F0 m 189 ls []) := by
            intro H locs ls hP hD hS hl
            refine lv_aload_n hx hb dX1_write_189 rfl (lv_at hl 0 rfl) ?_
            refine lv_bipush (v := 115) hx hb dX1_write_190 (by decide) ?_
            have hPc := hP.sub (ws' := [(ax, .inr (1, [.ref ab, .ref aw, .int (nI (wt9 x1 x2 f0).1), .double la, .double ea, .int wk, .int fl])), (aw, aI 24 (cA 2) ((wt9 x1 x2 f0).2))]) [0, 1] rfl
            have hDc := hD.sub (ws' := [(ax, .inr (1, [.ref ab, .ref aw, .int (nI (wt9 x1 x2 f0).1), .double la, .double ea, .int wk, .int fl])), (aw, aI 24 (cA 2) ((wt9 x1 x2 f0).2))]) [0, 1] (by decide) rfl
            have hFc := va_free (wc := [(ax, .inr (1, [.ref ab, .ref aw, .int (nI (wt9 x1 x2 f0).1), .double la, .double ea, .int wk, .int fl])), (aw, aI 24 (cA 2) ((wt9 x1 x2 f0).2))]) hD hS hA [0, 1] rfl
            refine va_callv (va_runV (As := [.int 115]) (rest := []) ⟨hx, hb, hml, hown, hts⟩ (k_X1_put l hst dC dI cA tm tt _ ax ab aw (wt9 x1 x2 f0).1 la ea wk fl (wt9 x1 x2 f0).2 115 (by omega)) (cwV 1 hts gX1_write_X1_put rfl rfl rfl (by decide +kernel) ⟨Nat.le_of_ble_eq_true rfl, Nat.le_of_ble_eq_true rfl⟩) ⟨PcW.blind, va_recv hK hPc (ci := 1) (q0 := 0) rfl rfl, PcW.give hPc hK hDc hE hS hFc⟩ rfl rfl hl.1 rfl (lv_room (Nat.le_of_ble_eq_true rfl)) dX1_write_192 ⟨Nat.le_of_ble_eq_true rfl, Nat.le_of_ble_eq_true rfl⟩) hS (fun q _ h => hFc q h) hFc (fun u t H locs ht hvm hp_22 hB hz1 hk1 hS => ?_)
            obtain ⟨hP1, hD1⟩ := hB
            rw [ht] at hP1
            obtain ⟨hP, hD⟩ := va_join (wr := []) (w1 := [(ax, .inr (1, [.ref ab, .ref aw, .int (nI ((wt9 x1 x2 f0).1 + 1)), .double la, .double ea, .int wk, .int fl])), (aw, aI 24 (cA 2) (upd (wt9 x1 x2 f0).2 (wt9 x1 x2 f0).1 (vp_nar .char 115)))]) hP hD [0, 1] [] rfl rfl (by decide) (by decide) hk1 hFc hP1 hD1
            have hP := hP.sub (ws' := [(ax, .inr (1, [.ref ab, .ref aw, .int (nI ((wt9 x1 x2 f0).1 + 1)), .double la, .double ea, .int wk, .int fl])), (aw, aI 24 (cA 2) (upd (wt9 x1 x2 f0).2 (wt9 x1 x2 f0).1 (vp_nar .char 115)))]) [0, 1] rfl
            have hD := hD.sub (ws' := [(ax, .inr (1, [.ref ab, .ref aw, .int (nI ((wt9 x1 x2 f0).1 + 1)), .double la, .double ea, .int wk, .int fl])), (aw, aI 24 (cA 2) (upd (wt9 x1 x2 f0).2 (wt9 x1 x2 f0).1 (vp_nar .char 115)))]) [0, 1] (by decide) rfl
            rw [show vp_nar .char 115 = 115 by decide +kernel] at hP hD
            have hP : va_P (dC, dI) vwCl [(ax, .inr (1, [.ref ab, .ref aw, .int (nI (tput (wt9 x1 x2 f0) 115).1), .double la, .double ea, .int wk, .int fl])), (aw, aI 24 (cA 2) ((tput (wt9 x1 x2 f0) 115).2))] H := hP
            have hD : va_D A [(ax, .inr (1, [.ref ab, .ref aw, .int (nI (tput (wt9 x1 x2 f0) 115).1), .double la, .double ea, .int wk, .int fl])), (aw, aI 24 (cA 2) ((tput (wt9 x1 x2 f0) 115).2))] := hD
            refine lv_aload_n hx hb dX1_write_195 rfl (lv_at hl 0 rfl) ?_
            refine va_get (D := (dC, dI)) (ci := 1) (v := .int (nI (tput (wt9 x1 x2 f0) 115).1)) (C := RX1) (T := TX1) (N := 7) hx hb hts hin1 hown hK hP 0 rfl rfl 2 (by decide) (hts (.fieldLink RX1 20 "SkyAlmanac" "writtenLength" "I") (by decide +kernel)) (fun _ h9 => h9) rfl dX1_write_196 ?_
            subst hQQ
            refine W.widen (k := 1) (n := 6) (Nat.le_of_ble_eq_true rfl) (Nat.le_of_ble_eq_true rfl) ?_
            exact vx_ret (W.iret hx hb hr (fun t ht hW => ⟨⟨_, (), rfl, (by unfold f_X1_write; rw [if_neg c_3, if_neg c_4]; rfl), ⟨by rw [ht]; exact hP, hD⟩⟩, hS.F ht⟩) hS.2.2 dX1_write_199)
          refine lv_iload_n hx hb dX1_write_166 rfl (lv_at hl 6 rfl) ?_
          refine lv_if_le (tgt := 189) hx hb dX1_write_167 (by decide) (fun c_23 => ?_) (fun c_23 => ?_)
          · have hP : va_P (dC, dI) vwCl [(ax, .inr (1, [.ref ab, .ref aw, .int (nI (wt9 x1 x2 f0).1), .double la, .double ea, .int wk, .int fl])), (aw, aI 24 (cA 2) ((wt9 x1 x2 f0).2))] H := by rw [show wt9 x1 x2 f0 = wt6 x1 x2 f0 by unfold wt9; rw [if_pos c_23]]; exact hP
            have hD : va_D A [(ax, .inr (1, [.ref ab, .ref aw, .int (nI (wt9 x1 x2 f0).1), .double la, .double ea, .int wk, .int fl])), (aw, aI 24 (cA 2) ((wt9 x1 x2 f0).2))] := by rw [show wt9 x1 x2 f0 = wt6 x1 x2 f0 by unfold wt9; rw [if_pos c_23]]; exact hD
            exact hJ189 _ _ _ hP hD hS (lv_sub hl [4, 5, 6] rfl)
          · refine lv_aload_n hx hb dX1_write_170 rfl (lv_at hl 4 rfl) ?_
            refine lv_bipush (v := 46) hx hb dX1_write_171 (by decide) ?_
            have hPc := hP.sub (ws' := [(ax, .inr (1, [.ref ab, .ref aw, .int (nI (wt6 x1 x2 f0).1), .double la, .double ea, .int wk, .int fl])), (aw, aI 24 (cA 2) ((wt6 x1 x2 f0).2))]) [0, 1] rfl
            have hDc := hD.sub (ws' := [(ax, .inr (1, [.ref ab, .ref aw, .int (nI (wt6 x1 x2 f0).1), .double la, .double ea, .int wk, .int fl])), (aw, aI 24 (cA 2) ((wt6 x1 x2 f0).2))]) [0, 1] (by decide) rfl
            have hFc := va_free (wc := [(ax, .inr (1, [.ref ab, .ref aw, .int (nI (wt6 x1 x2 f0).1), .double la, .double ea, .int wk, .int fl])), (aw, aI 24 (cA 2) ((wt6 x1 x2 f0).2))]) hD hS hA [0, 1] rfl
            refine va_callv (va_runV (As := [.int 46]) (rest := []) ⟨hx, hb, hml, hown, hts⟩ (k_X1_put l hst dC dI cA tm tt _ ax ab aw (wt6 x1 x2 f0).1 la ea wk fl (wt6 x1 x2 f0).2 46 (by omega)) (cwV 1 hts gX1_write_X1_put rfl rfl rfl (by decide +kernel) ⟨Nat.le_of_ble_eq_true rfl, Nat.le_of_ble_eq_true rfl⟩) ⟨PcW.blind, va_recv hK hPc (ci := 1) (q0 := 0) rfl rfl, PcW.give hPc hK hDc hE hS hFc⟩ rfl rfl hl.1 rfl (lv_room (Nat.le_of_ble_eq_true rfl)) dX1_write_173 ⟨Nat.le_of_ble_eq_true rfl, Nat.le_of_ble_eq_true rfl⟩) hS (fun q _ h => hFc q h) hFc (fun u t H locs ht hvm hp_25 hB hz1 hk1 hS => ?_)
            obtain ⟨hP1, hD1⟩ := hB
            rw [ht] at hP1
            obtain ⟨hP, hD⟩ := va_join (wr := []) (w1 := [(ax, .inr (1, [.ref ab, .ref aw, .int (nI ((wt6 x1 x2 f0).1 + 1)), .double la, .double ea, .int wk, .int fl])), (aw, aI 24 (cA 2) (upd (wt6 x1 x2 f0).2 (wt6 x1 x2 f0).1 (vp_nar .char 46)))]) hP hD [0, 1] [] rfl rfl (by decide) (by decide) hk1 hFc hP1 hD1
            have hP := hP.sub (ws' := [(ax, .inr (1, [.ref ab, .ref aw, .int (nI ((wt6 x1 x2 f0).1 + 1)), .double la, .double ea, .int wk, .int fl])), (aw, aI 24 (cA 2) (upd (wt6 x1 x2 f0).2 (wt6 x1 x2 f0).1 (vp_nar .char 46)))]) [0, 1] rfl
            have hD := hD.sub (ws' := [(ax, .inr (1, [.ref ab, .ref aw, .int (nI ((wt6 x1 x2 f0).1 + 1)), .double la, .double ea, .int wk, .int fl])), (aw, aI 24 (cA 2) (upd (wt6 x1 x2 f0).2 (wt6 x1 x2 f0).1 (vp_nar .char 46)))]) [0, 1] (by decide) rfl
            rw [show vp_nar .char 46 = 46 by decide +kernel] at hP hD
            have hP : va_P (dC, dI) vwCl [(ax, .inr (1, [.ref ab, .ref aw, .int (nI (tput (wt6 x1 x2 f0) 46).1), .double la, .double ea, .int wk, .int fl])), (aw, aI 24 (cA 2) ((tput (wt6 x1 x2 f0) 46).2))] H := hP
            have hD : va_D A [(ax, .inr (1, [.ref ab, .ref aw, .int (nI (tput (wt6 x1 x2 f0) 46).1), .double la, .double ea, .int wk, .int fl])), (aw, aI 24 (cA 2) ((tput (wt6 x1 x2 f0) 46).2))] := hD
            refine lv_aload_n hx hb dX1_write_176 rfl (lv_at hl 4 rfl) ?_
            refine lv_lload hx hb dX1_write_177 (lv_at hl 1 rfl) ?_
            refine lv_lload hx hb dX1_write_179 (lv_at hl 0 rfl) ?_
            refine lv_lload hx hb dX1_write_181 (lv_at hl 3 rfl) ?_
            refine lv_lmul hx hb dX1_write_183 ?_
            refine lv_lsub hx hb dX1_write_184 ?_
            refine lv_iload_n hx hb dX1_write_185 rfl (lv_at hl 6 rfl) ?_
            have hPc := hP.sub (ws' := [(ax, .inr (1, [.ref ab, .ref aw, .int (nI (tput (wt6 x1 x2 f0) 46).1), .double la, .double ea, .int wk, .int fl])), (aw, aI 24 (cA 2) ((tput (wt6 x1 x2 f0) 46).2))]) [0, 1] rfl
            have hDc := hD.sub (ws' := [(ax, .inr (1, [.ref ab, .ref aw, .int (nI (tput (wt6 x1 x2 f0) 46).1), .double la, .double ea, .int wk, .int fl])), (aw, aI 24 (cA 2) ((tput (wt6 x1 x2 f0) 46).2))]) [0, 1] (by decide) rfl
            have hFc := va_free (wc := [(ax, .inr (1, [.ref ab, .ref aw, .int (nI (tput (wt6 x1 x2 f0) 46).1), .double la, .double ea, .int wk, .int fl])), (aw, aI 24 (cA 2) ((tput (wt6 x1 x2 f0) 46).2))]) hD hS hA [0, 1] rfl
            refine va_callv (va_runV (As := [.long ((WU x1 x2) - ((WS x1 x2) * (f_X1_tenToThe x2))), .int x2]) (rest := []) ⟨hx, hb, hml, hown, hts⟩ (k_X1_putNumber l hst dC dI cA tm tt _ ax ab aw (tput (wt6 x1 x2 f0) 46) la ea wk fl ((WU x1 x2) - ((WS x1 x2) * (f_X1_tenToThe x2))) x2 ha4.1 (len1 (b := 14) (q := 0) (by show (wt6 x1 x2 f0).1 + 1 ≤ 14; omega) (by decide))) (cwV 2 hts gX1_write_X1_putNumber rfl rfl rfl (by decide +kernel) ⟨Nat.le_of_ble_eq_true rfl, Nat.le_of_ble_eq_true rfl⟩) ⟨PcW.blind, va_recv hK hPc (ci := 1) (q0 := 0) rfl rfl, PcW.give hPc hK hDc hE hS hFc⟩ rfl rfl hl.1 rfl (lv_room (Nat.le_of_ble_eq_true rfl)) dX1_write_186 ⟨Nat.le_of_ble_eq_true rfl, Nat.le_of_ble_eq_true rfl⟩) hS (fun q _ h => hFc q h) hFc (fun u t H locs ht hvm hp_27 hB hz1 hk1 hS => ?_)
            obtain ⟨hP1, hD1⟩ := hB
            rw [ht] at hP1
            obtain ⟨hP, hD⟩ := va_join (wr := []) (w1 := [(ax, .inr (1, [.ref ab, .ref aw, .int (nI (pnL ((WU x1 x2) - ((WS x1 x2) * (f_X1_tenToThe x2))) x2 6 (tput (wt6 x1 x2 f0) 46)).1), .double la, .double ea, .int wk, .int fl])), (aw, aI 24 (cA 2) ((pnL ((WU x1 x2) - ((WS x1 x2) * (f_X1_tenToThe x2))) x2 6 (tput (wt6 x1 x2 f0) 46)).2))]) hP hD [0, 1] [] rfl rfl (by decide) (by decide) hk1 hFc hP1 hD1
            have hP := hP.sub (ws' := [(ax, .inr (1, [.ref ab, .ref aw, .int (nI (pnL ((WU x1 x2) - ((WS x1 x2) * (f_X1_tenToThe x2))) x2 6 (tput (wt6 x1 x2 f0) 46)).1), .double la, .double ea, .int wk, .int fl])), (aw, aI 24 (cA 2) ((pnL ((WU x1 x2) - ((WS x1 x2) * (f_X1_tenToThe x2))) x2 6 (tput (wt6 x1 x2 f0) 46)).2))]) [0, 1] rfl
            have hD := hD.sub (ws' := [(ax, .inr (1, [.ref ab, .ref aw, .int (nI (pnL ((WU x1 x2) - ((WS x1 x2) * (f_X1_tenToThe x2))) x2 6 (tput (wt6 x1 x2 f0) 46)).1), .double la, .double ea, .int wk, .int fl])), (aw, aI 24 (cA 2) ((pnL ((WU x1 x2) - ((WS x1 x2) * (f_X1_tenToThe x2))) x2 6 (tput (wt6 x1 x2 f0) 46)).2))]) [0, 1] (by decide) rfl
            have hP : va_P (dC, dI) vwCl [(ax, .inr (1, [.ref ab, .ref aw, .int (nI (wt8 x1 x2 f0).1), .double la, .double ea, .int wk, .int fl])), (aw, aI 24 (cA 2) ((wt8 x1 x2 f0).2))] H := hP
            have hD : va_D A [(ax, .inr (1, [.ref ab, .ref aw, .int (nI (wt8 x1 x2 f0).1), .double la, .double ea, .int wk, .int fl])), (aw, aI 24 (cA 2) ((wt8 x1 x2 f0).2))] := hD
            have hP : va_P (dC, dI) vwCl [(ax, .inr (1, [.ref ab, .ref aw, .int (nI (wt9 x1 x2 f0).1), .double la, .double ea, .int wk, .int fl])), (aw, aI 24 (cA 2) ((wt9 x1 x2 f0).2))] H := by rw [show wt9 x1 x2 f0 = wt8 x1 x2 f0 by unfold wt9; rw [if_neg c_23]]; exact hP
            have hD : va_D A [(ax, .inr (1, [.ref ab, .ref aw, .int (nI (wt9 x1 x2 f0).1), .double la, .double ea, .int wk, .int fl])), (aw, aI 24 (cA 2) ((wt9 x1 x2 f0).2))] := by rw [show wt9 x1 x2 f0 = wt8 x1 x2 f0 by unfold wt9; rw [if_neg c_23]]; exact hD
            exact hJ189 _ _ _ hP hD hS (lv_sub hl [4, 5, 6] rfl)
        refine lv_dload_n hx hb dX1_write_98 rfl (lv_at hl 5 rfl) ?_
        refine lv_dconst0 hx hb dX1_write_99 ?_
        have r_28 : fR FP.dconst0 0 0 := fR_lit (by decide +kernel)
        refine zd_g_ge (tgt := 117) hx hb dX1_write_100 dX1_write_101 (by decide) (fun c_29 => ?_) (fun c_29 => ?_)
        · have hP : va_P (dC, dI) vwCl [(ax, .inr (1, [.ref ab, .ref aw, .int (nI (wt1 x1 x2 f0).1), .double la, .double ea, .int wk, .int fl])), (aw, aI 24 (cA 2) ((wt1 x1 x2 f0).2))] H := by rw [show wt1 x1 x2 f0 = ((0, f0) : TX) by unfold wt1; rw [if_neg c_29]]; exact hP
          have hD : va_D A [(ax, .inr (1, [.ref ab, .ref aw, .int (nI (wt1 x1 x2 f0).1), .double la, .double ea, .int wk, .int fl])), (aw, aI 24 (cA 2) ((wt1 x1 x2 f0).2))] := by rw [show wt1 x1 x2 f0 = ((0, f0) : TX) by unfold wt1; rw [if_neg c_29]]; exact hD
          exact hJ117 _ _ _ hP hD hS (lv_sub hl [0, 1, 2, 3, 4, 5, 6] rfl)
        · refine lv_lload hx hb dX1_write_104 (lv_at hl 1 rfl) ?_
          refine lv_lconst (v := 0) hx hb dX1_write_106 (by decide) ?_
          refine zl_le (tgt := 117) hx hb dX1_write_107 dX1_write_108 (by decide) (fun c_30 => ?_) (fun c_30 => ?_)
          · have hP : va_P (dC, dI) vwCl [(ax, .inr (1, [.ref ab, .ref aw, .int (nI (wt1 x1 x2 f0).1), .double la, .double ea, .int wk, .int fl])), (aw, aI 24 (cA 2) ((wt1 x1 x2 f0).2))] H := by rw [show wt1 x1 x2 f0 = ((0, f0) : TX) by unfold wt1; rw [if_pos c_29, if_pos c_30]]; exact hP
            have hD : va_D A [(ax, .inr (1, [.ref ab, .ref aw, .int (nI (wt1 x1 x2 f0).1), .double la, .double ea, .int wk, .int fl])), (aw, aI 24 (cA 2) ((wt1 x1 x2 f0).2))] := by rw [show wt1 x1 x2 f0 = ((0, f0) : TX) by unfold wt1; rw [if_pos c_29, if_pos c_30]]; exact hD
            exact hJ117 _ _ _ hP hD hS (lv_sub hl [0, 1, 2, 3, 4, 5, 6] rfl)
          · refine lv_aload_n hx hb dX1_write_111 rfl (lv_at hl 4 rfl) ?_
            refine lv_bipush (v := 45) hx hb dX1_write_112 (by decide) ?_
            have hPc := hP.sub (ws' := [(ax, .inr (1, [.ref ab, .ref aw, .int (nI ((0, f0) : TX).1), .double la, .double ea, .int wk, .int fl])), (aw, aI 24 (cA 2) (((0, f0) : TX).2))]) [0, 1] rfl
            have hDc := hD.sub (ws' := [(ax, .inr (1, [.ref ab, .ref aw, .int (nI ((0, f0) : TX).1), .double la, .double ea, .int wk, .int fl])), (aw, aI 24 (cA 2) (((0, f0) : TX).2))]) [0, 1] (by decide) rfl
            have hFc := va_free (wc := [(ax, .inr (1, [.ref ab, .ref aw, .int (nI ((0, f0) : TX).1), .double la, .double ea, .int wk, .int fl])), (aw, aI 24 (cA 2) (((0, f0) : TX).2))]) hD hS hA [0, 1] rfl
            refine va_callv (va_runV (As := [.int 45]) (rest := []) ⟨hx, hb, hml, hown, hts⟩ (k_X1_put l hst dC dI cA tm tt _ ax ab aw ((0, f0) : TX).1 la ea wk fl ((0, f0) : TX).2 45 (show 0 < 24 by decide)) (cwV 1 hts gX1_write_X1_put rfl rfl rfl (by decide +kernel) ⟨Nat.le_of_ble_eq_true rfl, Nat.le_of_ble_eq_true rfl⟩) ⟨PcW.blind, va_recv hK hPc (ci := 1) (q0 := 0) rfl rfl, PcW.give hPc hK hDc hE hS hFc⟩ rfl rfl hl.1 rfl (lv_room (Nat.le_of_ble_eq_true rfl)) dX1_write_114 ⟨Nat.le_of_ble_eq_true rfl, Nat.le_of_ble_eq_true rfl⟩) hS (fun q _ h => hFc q h) hFc (fun u t H locs ht hvm hp_32 hB hz1 hk1 hS => ?_)
            obtain ⟨hP1, hD1⟩ := hB
            rw [ht] at hP1
            obtain ⟨hP, hD⟩ := va_join (wr := []) (w1 := [(ax, .inr (1, [.ref ab, .ref aw, .int (nI (((0, f0) : TX).1 + 1)), .double la, .double ea, .int wk, .int fl])), (aw, aI 24 (cA 2) (upd ((0, f0) : TX).2 ((0, f0) : TX).1 (vp_nar .char 45)))]) hP hD [0, 1] [] rfl rfl (by decide) (by decide) hk1 hFc hP1 hD1
            have hP := hP.sub (ws' := [(ax, .inr (1, [.ref ab, .ref aw, .int (nI (((0, f0) : TX).1 + 1)), .double la, .double ea, .int wk, .int fl])), (aw, aI 24 (cA 2) (upd ((0, f0) : TX).2 ((0, f0) : TX).1 (vp_nar .char 45)))]) [0, 1] rfl
            have hD := hD.sub (ws' := [(ax, .inr (1, [.ref ab, .ref aw, .int (nI (((0, f0) : TX).1 + 1)), .double la, .double ea, .int wk, .int fl])), (aw, aI 24 (cA 2) (upd ((0, f0) : TX).2 ((0, f0) : TX).1 (vp_nar .char 45)))]) [0, 1] (by decide) rfl
            rw [show vp_nar .char 45 = 45 by decide +kernel] at hP hD
            have hP : va_P (dC, dI) vwCl [(ax, .inr (1, [.ref ab, .ref aw, .int (nI (tput ((0, f0) : TX) 45).1), .double la, .double ea, .int wk, .int fl])), (aw, aI 24 (cA 2) ((tput ((0, f0) : TX) 45).2))] H := hP
            have hD : va_D A [(ax, .inr (1, [.ref ab, .ref aw, .int (nI (tput ((0, f0) : TX) 45).1), .double la, .double ea, .int wk, .int fl])), (aw, aI 24 (cA 2) ((tput ((0, f0) : TX) 45).2))] := hD
            have hP : va_P (dC, dI) vwCl [(ax, .inr (1, [.ref ab, .ref aw, .int (nI (wt1 x1 x2 f0).1), .double la, .double ea, .int wk, .int fl])), (aw, aI 24 (cA 2) ((wt1 x1 x2 f0).2))] H := by rw [show wt1 x1 x2 f0 = tput (0, f0) 45 by unfold wt1; rw [if_pos c_29, if_neg c_30]]; exact hP
            have hD : va_D A [(ax, .inr (1, [.ref ab, .ref aw, .int (nI (wt1 x1 x2 f0).1), .double la, .double ea, .int wk, .int fl])), (aw, aI 24 (cA 2) ((wt1 x1 x2 f0).2))] := by rw [show wt1 x1 x2 f0 = tput (0, f0) 45 by unfold wt1; rw [if_pos c_29, if_neg c_30]]; exact hD
            exact hJ117 _ _ _ hP hD hS (lv_sub hl [0, 1, 2, 3, 4, 5, 6] rfl)
      refine lv_dload_n hx hb dX1_write_53 rfl (lv_at hl 2 rfl) ?_
      refine lv_dconst0 hx hb dX1_write_54 ?_
      have r_33 : fR FP.dconst0 0 0 := fR_lit (by decide +kernel)
      refine zd_g_ge (tgt := 64) hx hb dX1_write_55 dX1_write_56 (by decide) (fun c_34 => ?_) (fun c_34 => ?_)
      · refine lv_dload_n hx hb dX1_write_64 rfl (lv_at hl 2 rfl) ?_
        refine W.stk (show [Value.double x1] = [Value.double (WAM x1)] from congrArg (fun x => [Value.double x]) (by unfold WAM; rw [if_neg c_34])) ?_
        exact hJ65 _ _ _ hP hD hS (lv_sub hl [0, 1, 2, 3] rfl)
      · refine lv_dload_n hx hb dX1_write_59 rfl (lv_at hl 2 rfl) ?_
        refine lv_dneg hx hb dX1_write_60 ?_
        refine lv_goto (tgt := 65) hx hb dX1_write_61 (by decide) ?_
        refine W.stk (show [Value.double (FP.dneg x1)] = [Value.double (WAM x1)] from congrArg (fun x => [Value.double x]) (by unfold WAM; rw [if_pos c_34])) ?_
        exact hJ65 _ _ _ hP hD hS (lv_sub hl [0, 1, 2, 3] rfl)
    · subst hQQ
      obtain ⟨sa_35, hsa_35⟩ := hE.1.str (k := 318) (tx := "no such number of places") (by decide +kernel)
      exact vx_throwSW (rest := []) hx hb hst hown thc_IA thf (hts (.classLink RX1 43 xIA) (by decide +kernel)) (hts (.initialized xIA) (by decide +kernel)) hsa_35 (tha_IA hE.1 (fun w hw => hts w (List.mem_cons_of_mem _ (List.mem_append_right _ hw)))) thg_IA hE.2.1.1 hE.2.1.2 hS (by rw [hml]; exact hl.1) dX1_write_36 dX1_write_39 dX1_write_40 dX1_write_43 dX1_write_46 (fun x hx9 => (hnt x hx9).elim) (Nat.le_of_ble_eq_true rfl) (Nat.le_of_ble_eq_true rfl) (Nat.le_of_ble_eq_true rfl) (Nat.le_of_ble_eq_true rfl) hlocks (fun t hvm hz hk => ⟨(), trivial, ⟨(by unfold f_X1_write; rw [if_neg c_3, if_pos c_4]), hP.kept (fun k9 q9 hq9 => hk q9.1 (hP k9 q9 hq9).lt), hD⟩, zx_F hS hz hk⟩) hS.2.2 (Nat.le_of_ble_eq_true rfl) (Nat.le_of_ble_eq_true rfl)
  · subst hQQ
    obtain ⟨sa_36, hsa_36⟩ := hE.1.str (k := 314) (tx := "the angle is out of range") (by decide +kernel)
    exact vx_throwSW (rest := []) hx hb hst hown thc_IA thf (hts (.classLink RX1 43 xIA) (by decide +kernel)) (hts (.initialized xIA) (by decide +kernel)) hsa_36 (tha_IA hE.1 (fun w hw => hts w (List.mem_cons_of_mem _ (List.mem_append_right _ hw)))) thg_IA hE.2.1.1 hE.2.1.2 hS (by rw [hml]; exact hl.1) dX1_write_13 dX1_write_16 dX1_write_17 dX1_write_20 dX1_write_23 (fun x hx9 => (hnt x hx9).elim) (Nat.le_of_ble_eq_true rfl) (Nat.le_of_ble_eq_true rfl) (Nat.le_of_ble_eq_true rfl) (Nat.le_of_ble_eq_true rfl) hlocks (fun t hvm hz hk => ⟨(), trivial, ⟨(by unfold f_X1_write; rw [if_pos c_3]), hP.kept (fun k9 q9 hq9 => hk q9.1 (hP k9 q9 hq9).lt), hD⟩, zx_F hS hz hk⟩) hS.2.2 (Nat.le_of_ble_eq_true rfl) (Nat.le_of_ble_eq_true rfl)
