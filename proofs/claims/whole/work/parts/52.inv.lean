section
def LI (qf : Nat → Option Nat) (bb : Nat → Nat) (kw : Nat) (la ea : UInt64) (f0 : Nat → Int32) (st : Nat → Int32) (oL oN oE oW : Nat → UInt64) (k : Nat → Nat) (pw : Nat → Nat → Int32) (fa sa va : Nat → Nat → UInt64) (sf : Nat → Int32) (uf : Nat → UInt64) (tf pf : Nat → Int32) (wf : Nat → UInt64) (lf : Nat → Int32) : Prop :=
  (∀ j, j < 4 → qf j = some (bb j)) ∧ (∀ j, j < 4 → oOK (oL j) (oN j) (oE j) (oW j) ∧ tOK (k j) (fa j) (sa j) (va j) ∧ bR j uf tf pf wf (oL j) (oN j) (oE j) (oW j) (k j) (pw j) (fa j) (sa j) (va j) ∧ sf j = st j) ∧
  (fR la (-96636764160) 96636764160 ∧ fR ea (-193273528320) 193273528320) ∧ kw ≤ 24 ∧ ∀ j, j < kw → f0 j = lf j
theorem vf_self {α : Type} (f : Nat → α) (j : Nat) : vf_upd f j (f j) = f := funext fun i => by
  unfold vf_upd
  by_cases h : i = j
  · rw [if_pos h, h]
  · rw [if_neg h]
theorem vf_at {α : Type} (f : Nat → α) (j : Nat) (v : α) : vf_upd f j v j = v := by unfold vf_upd; rw [if_pos rfl]
theorem vf_ne {α : Type} {f : Nat → α} {i j : Nat} {v : α} (h : ¬ i = j) : vf_upd f j v i = f i := by unfold vf_upd; rw [if_neg h]
theorem up_ne {f : Nat → Int32} {i j : Nat} {v : Int32} (h : ¬ i = j) : upd f j v i = f i := by unfold upd; rw [if_neg h]
theorem pick (x : Int32) : ∃ j, j < 4 ∧ (¬ x < 0 → ¬ 3 < x → Int32.toNatClampNeg x = j) := by
  by_cases c1 : x < 0
  · exact ⟨0, by decide, fun h => absurd c1 h⟩
  · by_cases c2 : 3 < x
    · exact ⟨0, by decide, fun _ h => absurd c2 h⟩
    · exact ⟨Int32.toNatClampNeg x, Nat.lt_of_not_le (fun h => gt_in c1 c2 (Or.inr h)), fun _ _ => rfl⟩
theorem n3 {x : Int32} (h : x < 4) : ¬ 3 < x := fun h9 => absurd h (le_nlt (lt43.mpr h9))
/-- what a call on one body takes as given -/
theorem LI.body {qf : Nat → Option Nat} {bb : Nat → Nat} {kw : Nat} {la ea : UInt64} {f0 : Nat → Int32} {st : Nat → Int32} {oL oN oE oW : Nat → UInt64} {k : Nat → Nat} {pw : Nat → Nat → Int32} {fa sa va : Nat → Nat → UInt64} {sf : Nat → Int32} {uf : Nat → UInt64} {tf pf : Nat → Int32} {wf : Nat → UInt64} {lf : Nat → Int32} (h : LI qf bb kw la ea f0 st oL oN oE oW k pw fa sa va sf uf tf pf wf lf) {j : Nat} (hj : j < 4) {x1 : Int32} (hc : ¬ x1 < 0 → ¬ 3 < x1 → Int32.toNatClampNeg x1 = j) :
    (¬ x1 < 0 → x1 < 4 → qf x1.toNatClampNeg = some (bb j)) ∧ (¬ x1 < 0 → ¬ 3 < x1 → sf (Int32.toNatClampNeg x1) = st j) ∧ k j ≤ 12 ∧ (¬ x1 < 0 → ¬ 3 < x1 → tf (Int32.toNatClampNeg x1) = nI (k j)) ∧
    oOK (oL j) (oN j) (oE j) (oW j) ∧ tOK (k j) (fa j) (sa j) (va j) ∧ (¬ x1 < 0 → ¬ 3 < x1 → bR (Int32.toNatClampNeg x1) uf tf pf wf (oL j) (oN j) (oE j) (oW j) (k j) (pw j) (fa j) (sa j) (va j)) := by
  obtain ⟨h1, h2, -⟩ := h
  obtain ⟨a, b, c, d⟩ := h2 j hj
  refine ⟨fun g1 g2 => ?_, fun g1 g2 => ?_, b.1, fun g1 g2 => ?_, a, b, fun g1 g2 => ?_⟩
  · rw [hc g1 (n3 g2)]; exact h1 j hj
  · rw [hc g1 g2]; exact d
  · rw [hc g1 g2]; exact c.2.1
  · rw [hc g1 g2]; exact c
theorem orb_ok {st x1 : Int32} {y2 y3 y4 y5 : UInt64} {v : Int32} (h : f_X1_orbit st x1 y2 y3 y4 y5 = .ok v) (hy2 : fR y2 (-288230376151711744) 288230376151711744) (hy3 : fR y3 (-288230376151711744) 288230376151711744) (hy4 : fR y4 (-288230376151711744) 288230376151711744) (hy5 : fR y5 (-288230376151711744) 288230376151711744) : ¬ x1 < 0 ∧ ¬ 3 < x1 ∧ oOK y2 y3 y4 y5 := by
  unfold f_X1_orbit at h
  by_cases c1 : x1 < 0
  · rw [if_pos c1] at h
    cases h
  · rw [if_neg c1] at h
    by_cases c2 : x1 < 4
    · rw [if_pos c2] at h
      by_cases c3 : f_X1_isWithin y2 13868412840022376448 4645040803167600640 = 0
      · rw [if_pos c3] at h
        cases h
      · rw [if_neg c3] at h
        by_cases c4 : f_X1_isWithin y3 13860109328209412096 4636737291354636288 = 0
        · rw [if_pos c4] at h
          cases h
        · rw [if_neg c4] at h
          by_cases c5 : f_X1_isWithin y4 FP.dconst0 4604930618986332160 = 0
          · rw [if_pos c5] at h
            cases h
          · rw [if_neg c5] at h
            by_cases c6 : f_X1_isWithin y5 13868412840022376448 4645040803167600640 = 0
            · rw [if_pos c6] at h
              cases h
            · rw [if_neg c6] at h
              exact ⟨c1, n3 c2, win_R hy2 c3 (fR_lit (by decide +kernel) : fR 13868412840022376448 (-386547056640) (-386547056640)) (fR_lit (by decide +kernel) : fR 4645040803167600640 386547056640 386547056640), win_R hy3 c4 (fR_lit (by decide +kernel) : fR 13860109328209412096 (-107374182400) (-107374182400)) (fR_lit (by decide +kernel) : fR 4636737291354636288 107374182400 107374182400), win_R hy4 c5 c0_R (fR_lit (by decide +kernel) : fR 4604930618986332160 805306368 805306368), win_R hy5 c6 (fR_lit (by decide +kernel) : fR 13868412840022376448 (-386547056640) (-386547056640)) (fR_lit (by decide +kernel) : fR 4645040803167600640 386547056640 386547056640)⟩
    · rw [if_neg c2] at h
      cases h
theorem BTS_in {st x1 : Int32} {u : Unit} (h : BTS st x1 = .ok u) : ¬ x1 < 0 ∧ ¬ 3 < x1 := by
  unfold BTS at h
  by_cases c1 : x1 < 0
  · rw [if_pos c1] at h; cases h
  · rw [if_neg c1] at h
    by_cases c2 : 4 ≤ x1
    · rw [if_pos c2] at h; cases h
    · exact ⟨c1, fun h9 => c2 (lt43.mpr h9)⟩
theorem term_ok {st : Int32} {k : Nat} {x1 x2 : Int32} {y3 y4 y5 : UInt64} {v : Int32} (hk : k ≤ 12) (h : f_X1_term st k x1 x2 y3 y4 y5 = .ok v) (hy3 : fR y3 (-288230376151711744) 288230376151711744) (hy4 : fR y4 (-288230376151711744) 288230376151711744) (hy5 : fR y5 (-288230376151711744) 288230376151711744) : (¬ x1 < 0 ∧ ¬ 3 < x1) ∧ k < 12 ∧ fR y3 (-10737418240) 10737418240 ∧ fR y4 (-386547056640) 386547056640 ∧ fR y5 (-107374182400) 107374182400 := by
  unfold f_X1_term at h
  cases hb : BTS st x1 with
  | error e =>
    rw [xb_err hb] at h
    cases h
  | ok u =>
    rw [xb_ok hb] at h
    try dsimp only at h
    by_cases c1 : f_X1_isWholeWithin (Int32.toInt64 x2) 0 2 = 0
    · rw [if_pos c1] at h
      cases h
    · rw [if_neg c1] at h
      by_cases c2 : f_X1_isWithin y3 13845191154443747328 4621819117588971520 = 0
      · rw [if_pos c2] at h
        cases h
      · rw [if_neg c2] at h
        by_cases c3 : f_X1_isWithin y4 13868412840022376448 4645040803167600640 = 0
        · rw [if_pos c3] at h
          cases h
        · rw [if_neg c3] at h
          by_cases c4 : f_X1_isWithin y5 13860109328209412096 4636737291354636288 = 0
          · rw [if_pos c4] at h
            cases h
          · rw [if_neg c4] at h
            by_cases c5 : nI k < 12
            · rw [if_pos c5] at h
              exact ⟨BTS_in hb, nI_lt12 hk c5, win_R hy3 c2 (fR_lit (by decide +kernel) : fR 13845191154443747328 (-10737418240) (-10737418240)) (fR_lit (by decide +kernel) : fR 4621819117588971520 10737418240 10737418240), win_R hy4 c3 (fR_lit (by decide +kernel) : fR 13868412840022376448 (-386547056640) (-386547056640)) (fR_lit (by decide +kernel) : fR 4645040803167600640 386547056640 386547056640), win_R hy5 c4 (fR_lit (by decide +kernel) : fR 13860109328209412096 (-107374182400) (-107374182400)) (fR_lit (by decide +kernel) : fR 4636737291354636288 107374182400 107374182400)⟩
            · rw [if_neg c5] at h
              cases h
theorem obs_ok {la ea y1 y2 : UInt64} {v : Int32} (h : f_X1_observer la ea y1 y2 = .ok v) (hy1 : fR y1 (-288230376151711744) 288230376151711744) (hy2 : fR y2 (-288230376151711744) 288230376151711744) : fR y1 (-96636764160) 96636764160 ∧ fR y2 (-193273528320) 193273528320 := by
  unfold f_X1_observer at h
  by_cases c1 : f_X1_isWithin y1 13859405640767635456 4636033603912859648 = 0
  · rw [if_pos c1] at h
    cases h
  · rw [if_neg c1] at h
    by_cases c2 : f_X1_isWithin y2 13863909240395005952 4640537203540230144 = 0
    · rw [if_pos c2] at h
      cases h
    · rw [if_neg c2] at h
      exact ⟨win_R hy1 c1 (fR_lit (by decide +kernel) : fR 13859405640767635456 (-96636764160) (-96636764160)) (fR_lit (by decide +kernel) : fR 4636033603912859648 96636764160 96636764160), win_R hy2 c2 (fR_lit (by decide +kernel) : fR 13863909240395005952 (-193273528320) (-193273528320)) (fR_lit (by decide +kernel) : fR 4640537203540230144 193273528320 193273528320)⟩
theorem LI.orbit {qf : Nat → Option Nat} {bb : Nat → Nat} {kw : Nat} {la ea : UInt64} {f0 : Nat → Int32} {st : Nat → Int32} {oL oN oE oW : Nat → UInt64} {k : Nat → Nat} {pw : Nat → Nat → Int32} {fa sa va : Nat → Nat → UInt64} {sf : Nat → Int32} {uf : Nat → UInt64} {tf pf : Nat → Int32} {wf : Nat → UInt64} {lf : Nat → Int32} (h : LI qf bb kw la ea f0 st oL oN oE oW k pw fa sa va sf uf tf pf wf lf) {j : Nat} (hj : j < 4) {x1 : Int32} {y2 y3 y4 y5 : UInt64} (hc : ¬ x1 < 0 → ¬ 3 < x1 → Int32.toNatClampNeg x1 = j) (hy2 : fR y2 (-288230376151711744) 288230376151711744) (hy3 : fR y3 (-288230376151711744) 288230376151711744) (hy4 : fR y4 (-288230376151711744) 288230376151711744) (hy5 : fR y5 (-288230376151711744) 288230376151711744) :
    LI qf bb kw la ea f0 (vf_upd st j (if cdO (f_X1_orbit (st j) x1 y2 y3 y4 y5) = 0 then 1 else st j)) (vf_upd oL j (if cdO (f_X1_orbit (st j) x1 y2 y3 y4 y5) = 0 then y2 else oL j)) (vf_upd oN j (if cdO (f_X1_orbit (st j) x1 y2 y3 y4 y5) = 0 then y3 else oN j)) (vf_upd oE j (if cdO (f_X1_orbit (st j) x1 y2 y3 y4 y5) = 0 then y4 else oE j)) (vf_upd oW j (if cdO (f_X1_orbit (st j) x1 y2 y3 y4 y5) = 0 then y5 else oW j)) k pw fa sa va (if cdO (f_X1_orbit (st j) x1 y2 y3 y4 y5) = 0 then upd sf (Int32.toNatClampNeg x1) (vp_nar .boolean 1) else sf) (if cdO (f_X1_orbit (st j) x1 y2 y3 y4 y5) = 0 then vf_upd (vf_upd (vf_upd (vf_upd uf (4 * (Int32.toNatClampNeg x1)) y2) (4 * (Int32.toNatClampNeg x1) + 1) y3) (4 * (Int32.toNatClampNeg x1) + 2) y4) (4 * (Int32.toNatClampNeg x1) + 3) y5 else uf) tf pf wf lf := by
  by_cases c : cdO (f_X1_orbit (st j) x1 y2 y3 y4 y5) = 0
  · obtain ⟨v, hv⟩ := cdO_ok0 c
    obtain ⟨g1, g2, hok⟩ := orb_ok hv hy2 hy3 hy4 hy5
    simp only [if_pos c]
    rw [hc g1 g2]
    obtain ⟨h1, h2, h3⟩ := h
    refine ⟨h1, fun i hi => ?_, h3⟩
    obtain ⟨a, b, ⟨-, r2, r3⟩, d⟩ := h2 i hi
    by_cases e : i = j
    · subst e
      rw [vf_at, vf_at, vf_at, vf_at, vf_at]
      refine ⟨hok, b, ⟨⟨?_, ?_, ?_, ?_⟩, r2, r3⟩, ?_⟩
      · rw [vf_ne (by omega), vf_ne (by omega), vf_ne (by omega), vf_at]
      · rw [vf_ne (by omega), vf_ne (by omega), vf_at]
      · rw [vf_ne (by omega), vf_at]
      · rw [vf_at]
      · rw [upd_same]; rfl
    · obtain ⟨-, -, ⟨r1, -, -⟩, -⟩ := h2 i hi
      rw [vf_ne e, vf_ne e, vf_ne e, vf_ne e, vf_ne e, up_ne e]
      refine ⟨a, b, ⟨⟨?_, ?_, ?_, ?_⟩, r2, r3⟩, d⟩
      · rw [vf_ne (by omega), vf_ne (by omega), vf_ne (by omega), vf_ne (by omega)]; exact r1.1
      · rw [vf_ne (by omega), vf_ne (by omega), vf_ne (by omega), vf_ne (by omega)]; exact r1.2.1
      · rw [vf_ne (by omega), vf_ne (by omega), vf_ne (by omega), vf_ne (by omega)]; exact r1.2.2.1
      · rw [vf_ne (by omega), vf_ne (by omega), vf_ne (by omega), vf_ne (by omega)]; exact r1.2.2.2
  · simp only [if_neg c]
    rw [vf_self, vf_self, vf_self, vf_self, vf_self]
    exact h
theorem LI.term {qf : Nat → Option Nat} {bb : Nat → Nat} {kw : Nat} {la ea : UInt64} {f0 : Nat → Int32} {st : Nat → Int32} {oL oN oE oW : Nat → UInt64} {k : Nat → Nat} {pw : Nat → Nat → Int32} {fa sa va : Nat → Nat → UInt64} {sf : Nat → Int32} {uf : Nat → UInt64} {tf pf : Nat → Int32} {wf : Nat → UInt64} {lf : Nat → Int32} (h : LI qf bb kw la ea f0 st oL oN oE oW k pw fa sa va sf uf tf pf wf lf) {j : Nat} (hj : j < 4) {x1 x2 : Int32} {y3 y4 y5 : UInt64} (hc : ¬ x1 < 0 → ¬ 3 < x1 → Int32.toNatClampNeg x1 = j) (hy3 : fR y3 (-288230376151711744) 288230376151711744) (hy4 : fR y4 (-288230376151711744) 288230376151711744) (hy5 : fR y5 (-288230376151711744) 288230376151711744) :
    LI qf bb kw la ea f0 st oL oN oE oW (vf_upd k j (if cd3 (f_X1_term (st j) (k j) x1 x2 y3 y4 y5) = 0 then k j + 1 else k j)) (vf_upd pw j (if cd3 (f_X1_term (st j) (k j) x1 x2 y3 y4 y5) = 0 then upd (pw j) (k j) x2 else pw j)) (vf_upd fa j (if cd3 (f_X1_term (st j) (k j) x1 x2 y3 y4 y5) = 0 then vf_upd (fa j) (k j) y3 else fa j)) (vf_upd sa j (if cd3 (f_X1_term (st j) (k j) x1 x2 y3 y4 y5) = 0 then vf_upd (sa j) (k j) y4 else sa j)) (vf_upd va j (if cd3 (f_X1_term (st j) (k j) x1 x2 y3 y4 y5) = 0 then vf_upd (va j) (k j) y5 else va j)) sf uf (if cd3 (f_X1_term (st j) (k j) x1 x2 y3 y4 y5) = 0 then upd tf (Int32.toNatClampNeg x1) (nI (k j + 1)) else tf) (if cd3 (f_X1_term (st j) (k j) x1 x2 y3 y4 y5) = 0 then upd pf (12 * (Int32.toNatClampNeg x1) + k j) x2 else pf) (if cd3 (f_X1_term (st j) (k j) x1 x2 y3 y4 y5) = 0 then vf_upd (vf_upd (vf_upd wf (3 * (12 * (Int32.toNatClampNeg x1) + k j)) y3) (3 * (12 * (Int32.toNatClampNeg x1) + k j) + 1) y4) (3 * (12 * (Int32.toNatClampNeg x1) + k j) + 2) y5 else wf) lf := by
  by_cases c : cd3 (f_X1_term (st j) (k j) x1 x2 y3 y4 y5) = 0
  · obtain ⟨v, hv⟩ := cd3_ok0 c
    obtain ⟨h1, h2, h3⟩ := h
    obtain ⟨g, hk12, q3, q4, q5⟩ := term_ok (h2 j hj).2.1.1 hv hy3 hy4 hy5
    simp only [if_pos c]
    rw [hc g.1 g.2]
    refine ⟨h1, fun i hi => ?_, h3⟩
    obtain ⟨a, b, ⟨r1, r2, r3⟩, d⟩ := h2 i hi
    by_cases e : i = j
    · subst e
      rw [vf_at, vf_at, vf_at, vf_at, vf_at]
      refine ⟨a, ⟨by omega, fun n hn => ?_⟩, ⟨r1, upd_same _ _ _, fun n hn => ?_⟩, d⟩
      · by_cases en : n = k i
        · subst en
          rw [vf_at, vf_at, vf_at]
          exact ⟨q3, q4, q5⟩
        · rw [vf_ne en, vf_ne en, vf_ne en]
          exact b.2 n (by omega)
      · by_cases en : n = k i
        · subst en
          refine ⟨?_, ?_, ?_, ?_⟩
          · rw [upd_same, upd_same]
          · rw [vf_ne (by omega), vf_ne (by omega), vf_at, vf_at]
          · rw [vf_ne (by omega), vf_at, vf_at]
          · rw [vf_at, vf_at]
        · refine ⟨?_, ?_, ?_, ?_⟩
          · rw [up_ne (by omega), up_ne en]; exact (r3 n hn).1
          · rw [vf_ne (by omega), vf_ne (by omega), vf_ne (by omega), vf_ne en]; exact (r3 n hn).2.1
          · rw [vf_ne (by omega), vf_ne (by omega), vf_ne (by omega), vf_ne en]; exact (r3 n hn).2.2.1
          · rw [vf_ne (by omega), vf_ne (by omega), vf_ne (by omega), vf_ne en]; exact (r3 n hn).2.2.2
    · rw [vf_ne e, vf_ne e, vf_ne e, vf_ne e, vf_ne e]
      refine ⟨a, b, ⟨r1, by rw [up_ne e]; exact r2, fun n hn => ⟨?_, ?_, ?_, ?_⟩⟩, d⟩
      · rw [up_ne (by omega)]; exact (r3 n hn).1
      · rw [vf_ne (by omega), vf_ne (by omega), vf_ne (by omega)]; exact (r3 n hn).2.1
      · rw [vf_ne (by omega), vf_ne (by omega), vf_ne (by omega)]; exact (r3 n hn).2.2.1
      · rw [vf_ne (by omega), vf_ne (by omega), vf_ne (by omega)]; exact (r3 n hn).2.2.2
  · simp only [if_neg c]
    rw [vf_self, vf_self, vf_self, vf_self, vf_self]
    exact h
theorem LI.obs {qf : Nat → Option Nat} {bb : Nat → Nat} {kw : Nat} {la ea : UInt64} {f0 : Nat → Int32} {st : Nat → Int32} {oL oN oE oW : Nat → UInt64} {k : Nat → Nat} {pw : Nat → Nat → Int32} {fa sa va : Nat → Nat → UInt64} {sf : Nat → Int32} {uf : Nat → UInt64} {tf pf : Nat → Int32} {wf : Nat → UInt64} {lf : Nat → Int32} (h : LI qf bb kw la ea f0 st oL oN oE oW k pw fa sa va sf uf tf pf wf lf) {y1 y2 : UInt64} (hy1 : fR y1 (-288230376151711744) 288230376151711744) (hy2 : fR y2 (-288230376151711744) 288230376151711744) : LI qf bb kw (if cd1 (f_X1_observer la ea y1 y2) = 0 then y1 else la) (if cd1 (f_X1_observer la ea y1 y2) = 0 then y2 else ea) f0 st oL oN oE oW k pw fa sa va sf uf tf pf wf lf := by
  obtain ⟨h1, h2, h3, h4⟩ := h
  refine ⟨h1, h2, ?_, h4⟩
  by_cases c : cd1 (f_X1_observer la ea y1 y2) = 0
  · obtain ⟨v, hv⟩ := cd1_ok0 c
    rw [if_pos c, if_pos c]
    exact obs_ok hv hy1 hy2
  · rw [if_neg c, if_neg c]
    exact h3
theorem wr_len {y1 : UInt64} {x2 : Int32} {f0 : Nat → Int32} {v : Int32} (h : f_X1_write y1 x2 f0 = .ok v) (hy1 : fR y1 (-288230376151711744) 288230376151711744) : (WRT y1 x2 f0).1 ≤ 24 := by
  unfold f_X1_write at h
  by_cases c1 : f_X1_isWithin y1 13904980397738950656 4681608360884174848 = 0
  · rw [if_pos c1] at h; cases h
  · rw [if_neg c1] at h
    by_cases c2 : f_X1_isWholeWithin (Int32.toInt64 x2) 0 4 = 0
    · rw [if_pos c2] at h; cases h
    · have h1w : fR y1 (-107374182400000) 107374182400000 := win_R hy1 c1 (fR_lit (by decide +kernel) : fR 13904980397738950656 (-107374182400000) (-107374182400000)) (fR_lit (by decide +kernel) : fR 4681608360884174848 107374182400000 107374182400000)
      obtain ⟨-, -, -, -, -, -, -, -, -, hl9⟩ := wr_all f0 h1w (x2_in c2)
      show (wt9 y1 x2 f0).1 + 1 ≤ 24
      omega
theorem LI.write {qf : Nat → Option Nat} {bb : Nat → Nat} {kw : Nat} {la ea : UInt64} {f0 : Nat → Int32} {st : Nat → Int32} {oL oN oE oW : Nat → UInt64} {k : Nat → Nat} {pw : Nat → Nat → Int32} {fa sa va : Nat → Nat → UInt64} {sf : Nat → Int32} {uf : Nat → UInt64} {tf pf : Nat → Int32} {wf : Nat → UInt64} {lf : Nat → Int32} (h : LI qf bb kw la ea f0 st oL oN oE oW k pw fa sa va sf uf tf pf wf lf) {y1 : UInt64} {x2 : Int32} (hy1 : fR y1 (-288230376151711744) 288230376151711744) : LI qf bb (if cd1 (f_X1_write y1 x2 f0) = 0 then (WRT y1 x2 f0).1 else kw) la ea (if cd1 (f_X1_write y1 x2 f0) = 0 then (WRT y1 x2 f0).2 else f0) st oL oN oE oW k pw fa sa va sf uf tf pf wf (if cd1 (f_X1_write y1 x2 f0) = 0 then (WRT y1 x2 lf).2 else lf) := by
  obtain ⟨h1, h2, h3, h4, h5⟩ := h
  refine ⟨h1, h2, h3, ?_, ?_⟩
  · by_cases c : cd1 (f_X1_write y1 x2 f0) = 0
    · obtain ⟨v, hv⟩ := cd1_ok0 c
      rw [if_pos c]
      exact wr_len hv hy1
    · rw [if_neg c]; exact h4
  · by_cases c : cd1 (f_X1_write y1 x2 f0) = 0
    · rw [if_pos c, if_pos c, if_pos c]
      exact (WRT_E y1 x2 f0 lf).2
    · rw [if_neg c, if_neg c, if_neg c]; exact h5
end
