theorem sub0 {x : UInt64} (h : FP.Core.DFin x) (c : dlt x FP.dconst0) : FP.dsub FP.dconst0 x = FP.dneg x := by
  have hd := (dlt_fz h c0_R.1).mp c
  rw [c0_fz] at hd
  rw [neg_eq h]
  show FP.Core.dsub FP.Core.dconst0 x = _
  rw [FP.Core.dsub_eq, FP.Core.dadd_comm]
  obtain ⟨h1, h2⟩ := fz_neg h
  refine FP.Core.dadd_zero (fin_val h1) (fun h9 => ?_)
  rw [h9] at h2
  have : fz FP.Core.dzeroNeg = 0 := by decide +kernel
  omega
/-! the reference's text -/
theorem pnC_mono {v : Int64} {fw : Int32} {a m : Nat} (ha : a ≤ m) (hm : m < 6) (h : pnC v fw m) : pnC v fw a := by
  rcases h with h | h
  · left
    rw [Int32.lt_iff_toInt_lt, nI_toInt (by omega)] at h ⊢; omega
  · right
    have ht := tt_pow a (by omega) m hm ha
    rw [Int64.lt_iff_toInt_lt] at h ⊢; omega
theorem pnL_skip {v : Int64} {fw : Int32} {q : Nat} {t : TX} : ∀ n, q ≤ n → (∀ m, q ≤ m → m < n → ¬ pnC v fw m) → pnL v fw n t = pnL v fw q t
  | 0, h, _ => by rw [show q = 0 by omega]
  | n + 1, h, hc => by
    rcases Nat.lt_or_ge n q with h9 | h9
    · rw [show q = n + 1 by omega]
    · rw [pnL_s0 (hc n h9 (by omega))]
      exact pnL_skip n h9 (fun m h1 h2 => hc m h1 (by omega))
theorem tens_s : ∀ q : Nat, q < 5 → tens (nI q) * 10 = tens (nI (q + 1)) ∧ (tens (nI (q + 1))).toInt = 10 * (tens (nI q)).toInt := by decide +kernel
/-- a place's value, one place up: 0 stands for none -/
def uz : Nat → Int64
  | 0 => 0
  | m + 1 => tens (nI m)
theorem uz_s : ∀ q : Nat, q < 6 → uz (q + 1) / 10 = uz q := by decide +kernel
theorem uz_pos : ∀ q : Nat, q < 6 → ¬ uz (q + 1) ≤ 0 := by decide +kernel
theorem dq_lt {v : Int64} {q : Nat} (hv : 0 ≤ v.toInt) (hq : q < 6) : v / tens (nI q) < 10 ↔ v.toInt < 10 * (tens (nI q)).toInt := by
  have hp := tens_pos q hq
  rw [Int64.lt_iff_toInt_lt, q64 hv hp, show (10 : Int64).toInt = 10 from rfl]
  exact Int.ediv_lt_iff_lt_mul hp
theorem tens_ne {q : Nat} (hq : q < 6) : ¬ tens (nI q) = 0 := fun h => by
  have hp := tens_pos q hq
  rw [h] at hp; exact absurd hp (by decide)
theorem tens5 : (tens (nI 5)).toInt = 100000 := by decide +kernel
/-- on to the next place -/
theorem dg_on {v : Int64} {fw : Int32} {q : Nat} (hv : 0 ≤ v.toInt) (hv6 : v.toInt < 1000000) (hf : fw.toInt ≤ 5) (hq : q < 6) (h : nI (q + 1) < fw ∨ ¬ v / tens (nI q) < 10) : q < 5 ∧ pnC v fw (q + 1) := by
  have hq5 : q < 5 := by
    rcases Nat.lt_or_ge q 5 with h9 | h9
    · exact h9
    · have e : q = 5 := by omega
      subst e
      rcases h with h | h
      · rw [Int32.lt_iff_toInt_lt, nI_toInt (by omega)] at h; omega
      · rw [dq_lt hv (by omega), tens5] at h; omega
  refine ⟨hq5, ?_⟩
  rcases h with h | h
  · exact Or.inl h
  · right
    rw [dq_lt hv hq, ← (tens_s q hq5).2] at h
    rw [Int64.lt_iff_toInt_lt]; exact h
theorem dg_end {v : Int64} {fw : Int32} {q : Nat} (hv : 0 ≤ v.toInt) (hq : q < 6) (h1 : ¬ nI (q + 1) < fw) (h2 : v / tens (nI q) < 10) : ∀ m, q + 1 ≤ m → m < 6 → ¬ pnC v fw m := by
  intro m hm h6 hc
  have h3 := pnC_mono hm h6 hc
  rcases h3 with h3 | h3
  · exact h1 h3
  · rw [dq_lt hv hq, ← (tens_s q (by omega)).2] at h2
    rw [Int64.lt_iff_toInt_lt] at h3; exact h3 h2
set_option maxHeartbeats 4000000 in
set_option maxRecDepth 100000 in
theorem k_X2_put (l : Launch) (hst : l.stackTraces = false) (dC : Nat → ClassId) (dI : Nat → Nat → Nat) (cA : Nat → ClassId) (tm tt sz : Nat) (am gs go gt gp gw gl : Nat) (th wo fu : Int32) (la ea : UInt64) (fd : Int32) (t0 : TX) (x1 : Int32) (hk : t0.1 < 40) : Met l yX2_put wsX2_put ({ frames := 0, cells := 0, slots := 0, locals := 0 }) (PcW dC dI cA tm tt sz [.ref am, .int x1] [(am, .inr (2, [.int th, .int wo, .int fu, .ref gs, .ref go, .ref gt, .ref gp, .ref gw, .double la, .double ea, .ref gl, .int (nI t0.1), .int fd])), (gl, aI 40 (cA 0) t0.2)]) (va_Qv (fun (_ : Unit) => True) (fun _ t => WB dC dI (va_A [(am, .inr (2, [.int th, .int wo, .int fu, .ref gs, .ref go, .ref gt, .ref gp, .ref gw, .double la, .double ea, .ref gl, .int (nI t0.1), .int fd])), (gl, aI 40 (cA 0) t0.2)] sz) [(am, .inr (2, [.int th, .int wo, .int fu, .ref gs, .ref go, .ref gt, .ref gp, .ref gw, .double la, .double ea, .ref gl, .int (nI (t0.1 + 1)), .int fd])), (gl, aI 40 (cA 0) (upd t0.2 t0.1 x1))] t) (va_A [(am, .inr (2, [.int th, .int wo, .int fu, .ref gs, .ref go, .ref gt, .ref gp, .ref gw, .double la, .double ea, .ref gl, .int (nI t0.1), .int fd])), (gl, aI 40 (cA 0) t0.2)] sz)) 0 0 (va_A [(am, .inr (2, [.int th, .int wo, .int fu, .ref gs, .ref go, .ref gt, .ref gp, .ref gw, .double la, .double ea, .ref gl, .int (nI t0.1), .int fd])), (gl, aI 40 (cA 0) t0.2)] sz) := by
  refine Met.ofW (cc := cX2_put) (maxL := 2) (ret := none) (by decide) rfl ?_
  intro p e s m args below meth c s₁ B hml hv
  obtain ⟨rfl, hsz, hP, hK, hD0, hE⟩ := hv
  subst hsz
  have hD := hD0.self (sz := s.heap.size)
  generalize hAe : va_A [(am, .inr (2, [.int th, .int wo, .int fu, .ref gs, .ref go, .ref gt, .ref gp, .ref gw, .double la, .double ea, .ref gl, .int (nI t0.1), .int fd])), (gl, aI 40 (cA 0) t0.2)] s.heap.size = A at hD hE ⊢
  have hA : ∀ q : Nat, s.heap.size ≤ q → A q := fun q h => by rw [← hAe]; exact Or.inr h
  have hS : va_S A s.heap s.heap [] := va_S.rf
  have hP : va_P (dC, dI) vwCl [(am, .inr (2, [.int th, .int wo, .int fu, .ref gs, .ref go, .ref gt, .ref gp, .ref gw, .double la, .double ea, .ref gl, .int (nI t0.1), .int fd])), (gl, aI 40 (cA 0) t0.2)] s.heap := hP
  have hx := B.exec
  have hb := B.bytes
  have hr := B.returns
  have hts := atoms_spec (ws := wsX2_put) B.pre
  have hown : s.vm.findClass RX2 = some m.cls := findClass_of_methodNamed B.named
  have hlocks := B.notSynchronized
  have hl := lv_entry ([.ref am, .int x1]) (n := 2) (Nat.le_of_ble_eq_true rfl)
  rw [lg_entry_eq]
  generalize (lg_sl ([.ref am, .int x1]) ++ List.replicate (2 - (lg_sl ([.ref am, .int x1])).length) Slot.unset).toArray = ls at hl ⊢
  have hl : lv_has ls 2 [(0, .ref am), (1, .int x1)] := hl
  have hin2 : ∀ w ∈ u_ws RX2 TX2 13, w ∈ wsX2_put := by decide +kernel
  refine lv_aload_n hx hb dX2_put_0 rfl (lv_at hl 0 rfl) ?_
  refine va_get (D := (dC, dI)) (ci := 2) (v := .ref gl) (C := RX2) (T := TX2) (N := 13) hx hb hts hin2 hown hK hP 0 rfl rfl 10 (by decide) (hts (.fieldLink RX2 27 "SkyAlmanacModel" "written" "[I") (by decide +kernel)) (fun _ h9 => h9) rfl dX2_put_1 ?_
  refine lv_aload_n hx hb dX2_put_4 rfl (lv_at hl 0 rfl) ?_
  refine va_get (D := (dC, dI)) (ci := 2) (v := .int (nI t0.1)) (C := RX2) (T := TX2) (N := 13) hx hb hts hin2 hown hK hP 0 rfl rfl 11 (by decide) (hts (.fieldLink RX2 256 "SkyAlmanacModel" "letters" "I") (by decide +kernel)) (fun _ h9 => h9) rfl dX2_put_5 ?_
  refine lv_iload_n hx hb dX2_put_8 rfl (lv_at hl 1 rfl) ?_
  refine va_iast hx hb hK hP hD hS 1 0 rfl rfl (vp_in_nI hk (by decide)) dX2_put_9 (fun H locs hP hD hS => ?_)
  rw [nI_clamp (show t0.1 < 2 ^ 31 by omega)] at hP hD
  have hP : va_P (dC, dI) vwCl [(am, .inr (2, [.int th, .int wo, .int fu, .ref gs, .ref go, .ref gt, .ref gp, .ref gw, .double la, .double ea, .ref gl, .int (nI t0.1), .int fd])), (gl, aI 40 (cA 0) (upd t0.2 t0.1 x1))] H := hP
  have hD : va_D A [(am, .inr (2, [.int th, .int wo, .int fu, .ref gs, .ref go, .ref gt, .ref gp, .ref gw, .double la, .double ea, .ref gl, .int (nI t0.1), .int fd])), (gl, aI 40 (cA 0) (upd t0.2 t0.1 x1))] := hD
  refine lv_aload_n hx hb dX2_put_10 rfl (lv_at hl 0 rfl) ?_
  refine lv_dup hx hb dX2_put_11 rfl ?_
  refine va_get (D := (dC, dI)) (ci := 2) (v := .int (nI t0.1)) (C := RX2) (T := TX2) (N := 13) hx hb hts hin2 hown hK hP 0 rfl rfl 11 (by decide) (hts (.fieldLink RX2 256 "SkyAlmanacModel" "letters" "I") (by decide +kernel)) (fun _ h9 => h9) rfl dX2_put_12 ?_
  refine lv_iconst (v := 1) hx hb dX2_put_15 (by decide) ?_
  refine lv_iadd hx hb dX2_put_16 ?_
  rw [nI_1]
  refine va_put (D := (dC, dI)) (ci := 2) (v := .int (nI (t0.1 + 1))) (ty := .int) (C := RX2) (T := TX2) (N := 13) hx hb hts hin2 tyX2 tyX2_ok nmX2 hown hK hP hD hS 0 rfl rfl 11 (by decide) (hts (.fieldLink RX2 256 "SkyAlmanacModel" "letters" "I") (by decide +kernel)) (fun _ h9 => h9) rfl (by decide +kernel) rfl rfl (Nat.le_of_ble_eq_true rfl) dX2_put_17 (fun H locs hP hD hS => ?_)
  have hP : va_P (dC, dI) vwCl [(am, .inr (2, [.int th, .int wo, .int fu, .ref gs, .ref go, .ref gt, .ref gp, .ref gw, .double la, .double ea, .ref gl, .int (nI (t0.1 + 1)), .int fd])), (gl, aI 40 (cA 0) (upd t0.2 t0.1 x1))] H := hP
  have hD : va_D A [(am, .inr (2, [.int th, .int wo, .int fu, .ref gs, .ref go, .ref gt, .ref gp, .ref gw, .double la, .double ea, .ref gl, .int (nI (t0.1 + 1)), .int fd])), (gl, aI 40 (cA 0) (upd t0.2 t0.1 x1))] := hD
  exact W.vret hx hb hr (fun t ht hW => ⟨⟨(), rfl, trivial, ⟨by rw [ht]; exact hP, hD⟩⟩, hS.F ht⟩) hS.2.2 dX2_put_20

set_option maxHeartbeats 4000000 in
set_option maxRecDepth 100000 in
theorem k_X2_digits (l : Launch) (hst : l.stackTraces = false) (dC : Nat → ClassId) (dI : Nat → Nat → Nat) (cA : Nat → ClassId) (tm tt sz : Nat) (am gs go gt gp gw gl : Nat) (th wo fu : Int32) (la ea : UInt64) (fd : Int32) (t0 : TX) (x1 : Int64) (x2 : Int32) (hv : 0 ≤ x1.toInt) (hv6 : x1.toInt < 1000000) (h1 : nI 0 < x2) (h5 : x2.toInt ≤ 5) (h24 : t0.1 + 6 ≤ 40) : Met l yX2_digits wsX2_digits ({ frames := 1, cells := 0, slots := 0, locals := 21 }) (PcW dC dI cA tm tt sz [.ref am, .long x1, .int x2] [(am, .inr (2, [.int th, .int wo, .int fu, .ref gs, .ref go, .ref gt, .ref gp, .ref gw, .double la, .double ea, .ref gl, .int (nI t0.1), .int fd])), (gl, aI 40 (cA 0) t0.2)]) (va_Qv (fun (_ : Unit) => True) (fun _ t => WB dC dI (va_A [(am, .inr (2, [.int th, .int wo, .int fu, .ref gs, .ref go, .ref gt, .ref gp, .ref gw, .double la, .double ea, .ref gl, .int (nI t0.1), .int fd])), (gl, aI 40 (cA 0) t0.2)] sz) [(am, .inr (2, [.int th, .int wo, .int fu, .ref gs, .ref go, .ref gt, .ref gp, .ref gw, .double la, .double ea, .ref gl, .int (nI (pnL x1 x2 6 t0).1), .int fd])), (gl, aI 40 (cA 0) ((pnL x1 x2 6 t0).2))] t) (va_A [(am, .inr (2, [.int th, .int wo, .int fu, .ref gs, .ref go, .ref gt, .ref gp, .ref gw, .double la, .double ea, .ref gl, .int (nI t0.1), .int fd])), (gl, aI 40 (cA 0) t0.2)] sz)) 0 0 (va_A [(am, .inr (2, [.int th, .int wo, .int fu, .ref gs, .ref go, .ref gt, .ref gp, .ref gw, .double la, .double ea, .ref gl, .int (nI t0.1), .int fd])), (gl, aI 40 (cA 0) t0.2)] sz) := by
  refine Met.ofW (cc := cX2_digits) (maxL := 9) (ret := none) (by decide) rfl ?_
  intro p e s m args below meth c s₁ B hml hv
  obtain ⟨rfl, hsz, hP, hK, hD0, hE⟩ := hv
  subst hsz
  have hD := hD0.self (sz := s.heap.size)
  generalize hAe : va_A [(am, .inr (2, [.int th, .int wo, .int fu, .ref gs, .ref go, .ref gt, .ref gp, .ref gw, .double la, .double ea, .ref gl, .int (nI t0.1), .int fd])), (gl, aI 40 (cA 0) t0.2)] s.heap.size = A at hD hE ⊢
  have hA : ∀ q : Nat, s.heap.size ≤ q → A q := fun q h => by rw [← hAe]; exact Or.inr h
  have hS : va_S A s.heap s.heap [] := va_S.rf
  have hP : va_P (dC, dI) vwCl [(am, .inr (2, [.int th, .int wo, .int fu, .ref gs, .ref go, .ref gt, .ref gp, .ref gw, .double la, .double ea, .ref gl, .int (nI t0.1), .int fd])), (gl, aI 40 (cA 0) t0.2)] s.heap := hP
  have hx := B.exec
  have hb := B.bytes
  have hr := B.returns
  have hts := atoms_spec (ws := wsX2_digits) B.pre
  have hown : s.vm.findClass RX2 = some m.cls := findClass_of_methodNamed B.named
  have hlocks := B.notSynchronized
  have hl := lv_entry ([.ref am, .long x1, .int x2]) (n := 9) (Nat.le_of_ble_eq_true rfl)
  rw [lg_entry_eq]
  generalize (lg_sl ([.ref am, .long x1, .int x2]) ++ List.replicate (9 - (lg_sl ([.ref am, .long x1, .int x2])).length) Slot.unset).toArray = ls at hl ⊢
  have hl : lv_has ls 9 [(0, .ref am), (1, .long x1), (3, .int x2)] := hl
  refine W.gen (fun QQ hQQ => ?_)

  have hloop41 : ∀ (n : Nat) (q : Nat) (tz : TX), q < n → q ≤ 6 → tz.1 + q ≤ 40 → (∀ m, m < q → pnC x1 x2 m) → pnL x1 x2 6 t0 = pnL x1 x2 q tz → ∀ (H : Heap) (locs : List Loc) (ls : Array Slot), va_P (dC, dI) vwCl [(am, .inr (2, [.int th, .int wo, .int fu, .ref gs, .ref go, .ref gt, .ref gp, .ref gw, .double la, .double ea, .ref gl, .int (nI tz.1), .int fd])), (gl, aI 40 (cA 0) tz.2)] H → va_D A [(am, .inr (2, [.int th, .int wo, .int fu, .ref gs, .ref go, .ref gt, .ref gp, .ref gw, .double la, .double ea, .ref gl, .int (nI tz.1), .int fd])), (gl, aI 40 (cA 0) tz.2)] → va_S A s.heap H locs → lv_has ls 9 [(0, .ref am), (1, .long x1), (7, .long (uz q))] → W p l e (headSpec wsX2_digits ({ frames := 1, cells := 0, slots := 0, locals := 21 })).room s m ([.ref am, .long x1, .int x2] : List Value).toArray below meth c H locs (0) (0) QQ (F0 m 41 ls []) := by
    intro n
    induction n with
    | zero =>
      intro q tz hf hq6 hk hc hQ
      exact absurd hf (by omega)
    | succ n ih =>
      intro q tz hf hq6 hk hc hQ H locs ls hP hD hS hl
      refine lv_lload hx hb dX2_digits_41 (lv_at hl 2 rfl) ?_
      refine lv_lconst (v := 0) hx hb dX2_digits_43 (by decide) ?_
      refine zl_le (tgt := 75) hx hb dX2_digits_44 dX2_digits_45 (by decide) (fun c_1 => ?_) (fun c_1 => ?_)
      · have hq0 : q = 0 := by
          rcases q with _ | j
          · rfl
          · exact absurd c_1 (uz_pos j (by omega))
        subst hq0
        have hP : va_P (dC, dI) vwCl [(am, .inr (2, [.int th, .int wo, .int fu, .ref gs, .ref go, .ref gt, .ref gp, .ref gw, .double la, .double ea, .ref gl, .int (nI (pnL x1 x2 6 t0).1), .int fd])), (gl, aI 40 (cA 0) ((pnL x1 x2 6 t0).2))] H := by rw [hQ]; exact hP
        have hD : va_D A [(am, .inr (2, [.int th, .int wo, .int fu, .ref gs, .ref go, .ref gt, .ref gp, .ref gw, .double la, .double ea, .ref gl, .int (nI (pnL x1 x2 6 t0).1), .int fd])), (gl, aI 40 (cA 0) ((pnL x1 x2 6 t0).2))] := by rw [hQ]; exact hD
        subst hQQ
        exact W.vret hx hb hr (fun t ht hW => ⟨⟨(), rfl, trivial, ⟨by rw [ht]; exact hP, hD⟩⟩, hS.F ht⟩) hS.2.2 dX2_digits_75
      · obtain ⟨q9, rfl⟩ : ∃ j, q = j + 1 := by
          rcases q with _ | j
          · exact absurd (show uz 0 ≤ 0 by decide) c_1
          · exact ⟨j, rfl⟩
        have hl : lv_has ls 9 [(0, .ref am), (1, .long x1), (7, .long (tens (nI q9)))] := hl
        refine lv_aload_n hx hb dX2_digits_48 rfl (lv_at hl 0 rfl) ?_
        refine lv_bipush (v := 48) hx hb dX2_digits_49 (by decide) ?_
        refine lv_lload_n hx hb dX2_digits_51 rfl (lv_at hl 1 rfl) ?_
        refine lv_lload hx hb dX2_digits_52 (lv_at hl 2 rfl) ?_
        refine lv_ldiv hx hb dX2_digits_54 (tens_ne (show q9 < 6 by omega)) ?_
        refine lv_ldc2 hx hb hown (hts (.constantLong RX2 259 (10)) (by decide +kernel)) dX2_digits_55 ?_
        refine lv_lrem hx hb dX2_digits_58 (by decide) ?_
        refine lv_l2i hx hb dX2_digits_59 rfl ?_
        refine lv_iadd hx hb dX2_digits_60 ?_
        have hPc := hP.sub (ws' := [(am, .inr (2, [.int th, .int wo, .int fu, .ref gs, .ref go, .ref gt, .ref gp, .ref gw, .double la, .double ea, .ref gl, .int (nI tz.1), .int fd])), (gl, aI 40 (cA 0) tz.2)]) [0, 1] rfl
        have hDc := hD.sub (ws' := [(am, .inr (2, [.int th, .int wo, .int fu, .ref gs, .ref go, .ref gt, .ref gp, .ref gw, .double la, .double ea, .ref gl, .int (nI tz.1), .int fd])), (gl, aI 40 (cA 0) tz.2)]) [0, 1] (by decide) rfl
        have hFc := va_free (wc := [(am, .inr (2, [.int th, .int wo, .int fu, .ref gs, .ref go, .ref gt, .ref gp, .ref gw, .double la, .double ea, .ref gl, .int (nI tz.1), .int fd])), (gl, aI 40 (cA 0) tz.2)]) hD hS hA [0, 1] rfl
        refine va_callv (va_runV (As := [.int (dgM x1 q9)]) (rest := []) ⟨hx, hb, hml, hown, hts⟩ (k_X2_put l hst dC dI cA tm tt _ am gs go gt gp gw gl th wo fu la ea fd tz (dgM x1 q9) (by omega)) (cwV 1 hts gX2_digits_X2_put rfl rfl rfl (by decide +kernel) ⟨Nat.le_of_ble_eq_true rfl, Nat.le_of_ble_eq_true rfl⟩) ⟨PcW.blind, va_recv hK hPc (ci := 2) (q0 := 0) rfl rfl, PcW.give hPc hK hDc hE hS hFc⟩ rfl rfl hl.1 rfl (lv_room (Nat.le_of_ble_eq_true rfl)) dX2_digits_61 ⟨Nat.le_of_ble_eq_true rfl, Nat.le_of_ble_eq_true rfl⟩) hS (fun q _ h => hFc q h) hFc (fun u t H locs ht hvm hp_3 hB hz1 hk1 hS => ?_)
        obtain ⟨hP1, hD1⟩ := hB
        rw [ht] at hP1
        obtain ⟨hP, hD⟩ := va_join (wr := []) (w1 := [(am, .inr (2, [.int th, .int wo, .int fu, .ref gs, .ref go, .ref gt, .ref gp, .ref gw, .double la, .double ea, .ref gl, .int (nI (tz.1 + 1)), .int fd])), (gl, aI 40 (cA 0) (upd tz.2 tz.1 (dgM x1 q9)))]) hP hD [0, 1] [] rfl rfl (by decide) (by decide) hk1 hFc hP1 hD1
        have hP := hP.sub (ws' := [(am, .inr (2, [.int th, .int wo, .int fu, .ref gs, .ref go, .ref gt, .ref gp, .ref gw, .double la, .double ea, .ref gl, .int (nI (tz.1 + 1)), .int fd])), (gl, aI 40 (cA 0) (upd tz.2 tz.1 (dgM x1 q9)))]) [0, 1] rfl
        have hD := hD.sub (ws' := [(am, .inr (2, [.int th, .int wo, .int fu, .ref gs, .ref go, .ref gt, .ref gp, .ref gw, .double la, .double ea, .ref gl, .int (nI (tz.1 + 1)), .int fd])), (gl, aI 40 (cA 0) (upd tz.2 tz.1 (dgM x1 q9)))]) [0, 1] (by decide) rfl
        have hP : va_P (dC, dI) vwCl [(am, .inr (2, [.int th, .int wo, .int fu, .ref gs, .ref go, .ref gt, .ref gp, .ref gw, .double la, .double ea, .ref gl, .int (nI (tput tz (dgM x1 q9)).1), .int fd])), (gl, aI 40 (cA 0) ((tput tz (dgM x1 q9)).2))] H := hP
        have hD : va_D A [(am, .inr (2, [.int th, .int wo, .int fu, .ref gs, .ref go, .ref gt, .ref gp, .ref gw, .double la, .double ea, .ref gl, .int (nI (tput tz (dgM x1 q9)).1), .int fd])), (gl, aI 40 (cA 0) ((tput tz (dgM x1 q9)).2))] := hD
        refine lv_lload hx hb dX2_digits_64 (lv_at hl 2 rfl) ?_
        refine lv_ldc2 hx hb hown (hts (.constantLong RX2 259 (10)) (by decide +kernel)) dX2_digits_66 ?_
        refine lv_ldiv hx hb dX2_digits_69 (by decide) ?_
        rw [show tens (nI q9) / 10 = uz q9 from uz_s q9 (by omega)]
        refine lv_lstore (lv' := [(7, .long (uz q9)), (0, .ref am), (1, .long x1)]) hx hb dX2_digits_70 hl (by decide) rfl (fun ls hl => ?_)
        refine lv_goto (tgt := 41) hx hb dX2_digits_72 (by decide) ?_
        exact ih q9 (tput tz (dgM x1 q9)) (by omega) (by omega) (by show tz.1 + 1 + q9 ≤ 40; omega) (fun m h => hc m (by omega)) (by rw [hQ, pnL_s1 (hc q9 (by omega))]) _ _ _ hP hD hS (lv_sub hl [1, 2, 0] rfl)
  have hloop6 : ∀ (n : Nat) (q : Nat), 6 - q ≤ n → q < 6 → (∀ m, m ≤ q → pnC x1 x2 m) → ∀ (H : Heap) (locs : List Loc) (ls : Array Slot), va_P (dC, dI) vwCl [(am, .inr (2, [.int th, .int wo, .int fu, .ref gs, .ref go, .ref gt, .ref gp, .ref gw, .double la, .double ea, .ref gl, .int (nI t0.1), .int fd])), (gl, aI 40 (cA 0) t0.2)] H → va_D A [(am, .inr (2, [.int th, .int wo, .int fu, .ref gs, .ref go, .ref gt, .ref gp, .ref gw, .double la, .double ea, .ref gl, .int (nI t0.1), .int fd])), (gl, aI 40 (cA 0) t0.2)] → va_S A s.heap H locs → lv_has ls 9 [(0, .ref am), (1, .long x1), (3, .int x2), (4, .long (tens (nI q))), (6, .int (nI (q + 1)))] → W p l e (headSpec wsX2_digits ({ frames := 1, cells := 0, slots := 0, locals := 21 })).room s m ([.ref am, .long x1, .int x2] : List Value).toArray below meth c H locs (0) (0) QQ (F0 m 6 ls []) := by
    intro n
    induction n with
    | zero =>
      intro q hf hq hc1
      exact absurd hf (by omega)
    | succ n ih =>
      intro q hf hq hc1 H locs ls hP hD hS hl
      refine lv_iload hx hb dX2_digits_6 (lv_at hl 4 rfl) ?_
      refine lv_iload_n hx hb dX2_digits_8 rfl (lv_at hl 2 rfl) ?_
      refine lv_icmp_lt (tgt := 23) hx hb dX2_digits_9 (by decide) (fun c_4 => ?_) (fun c_4 => ?_)
      · have hon := dg_on hv hv6 h5 hq (Or.inl c_4)
        refine lv_lload hx hb dX2_digits_23 (lv_at hl 3 rfl) ?_
        refine lv_ldc2 hx hb hown (hts (.constantLong RX2 259 (10)) (by decide +kernel)) dX2_digits_25 ?_
        refine lv_lmul hx hb dX2_digits_28 ?_
        rw [(tens_s q hon.1).1]
        refine lv_lstore (lv' := [(4, .long (tens (nI (q + 1)))), (0, .ref am), (1, .long x1), (3, .int x2), (6, .int (nI (q + 1)))]) hx hb dX2_digits_29 hl (by decide) rfl (fun ls hl => ?_)
        refine lv_iinc (v := nI (q + 1 + 1)) (lv' := [(6, .int (nI (q + 1 + 1))), (4, .long (tens (nI (q + 1)))), (0, .ref am), (1, .long x1), (3, .int x2)]) hx hb dX2_digits_31 hl (k := 4) rfl (nI_1 _) (by decide) rfl (fun ls hl => ?_)
        refine lv_goto (tgt := 6) hx hb dX2_digits_34 (by decide) ?_
        exact ih (q + 1) (by omega) (by omega) (fun m h => by rcases Nat.lt_or_ge q m with h9 | h9 <;> first | (rw [show m = q + 1 by omega]; exact hon.2) | exact hc1 m (by omega)) _ _ _ hP hD hS (lv_sub hl [2, 3, 4, 1, 0] rfl)
      · refine lv_lload_n hx hb dX2_digits_12 rfl (lv_at hl 1 rfl) ?_
        refine lv_lload hx hb dX2_digits_13 (lv_at hl 3 rfl) ?_
        refine lv_ldiv hx hb dX2_digits_15 (tens_ne hq) ?_
        refine lv_ldc2 hx hb hown (hts (.constantLong RX2 259 (10)) (by decide +kernel)) dX2_digits_16 ?_
        refine zl_lt (tgt := 37) hx hb dX2_digits_19 dX2_digits_20 (by decide) (fun c_5 => ?_) (fun c_5 => ?_)
        · refine lv_lload hx hb dX2_digits_37 (lv_at hl 3 rfl) ?_
          refine lv_lstore (lv' := [(7, .long (uz (q + 1))), (0, .ref am), (1, .long x1), (3, .int x2), (4, .long (tens (nI q))), (6, .int (nI (q + 1)))]) hx hb dX2_digits_39 hl (by decide) rfl (fun ls hl => ?_)
          exact hloop41 7 (q + 1) t0 (by omega) (by omega) (by omega) (fun m h => hc1 m (by omega)) (pnL_skip 6 (by omega) (dg_end hv hq c_4 c_5)) _ _ _ hP hD hS (lv_sub hl [1, 2, 0] rfl)
        · have hon := dg_on hv hv6 h5 hq (Or.inr c_5)
          refine lv_lload hx hb dX2_digits_23 (lv_at hl 3 rfl) ?_
          refine lv_ldc2 hx hb hown (hts (.constantLong RX2 259 (10)) (by decide +kernel)) dX2_digits_25 ?_
          refine lv_lmul hx hb dX2_digits_28 ?_
          rw [(tens_s q hon.1).1]
          refine lv_lstore (lv' := [(4, .long (tens (nI (q + 1)))), (0, .ref am), (1, .long x1), (3, .int x2), (6, .int (nI (q + 1)))]) hx hb dX2_digits_29 hl (by decide) rfl (fun ls hl => ?_)
          refine lv_iinc (v := nI (q + 1 + 1)) (lv' := [(6, .int (nI (q + 1 + 1))), (4, .long (tens (nI (q + 1)))), (0, .ref am), (1, .long x1), (3, .int x2)]) hx hb dX2_digits_31 hl (k := 4) rfl (nI_1 _) (by decide) rfl (fun ls hl => ?_)
          refine lv_goto (tgt := 6) hx hb dX2_digits_34 (by decide) ?_
          exact ih (q + 1) (by omega) (by omega) (fun m h => by rcases Nat.lt_or_ge q m with h9 | h9 <;> first | (rw [show m = q + 1 by omega]; exact hon.2) | exact hc1 m (by omega)) _ _ _ hP hD hS (lv_sub hl [2, 3, 4, 1, 0] rfl)
  refine lv_lconst (v := 1) hx hb dX2_digits_0 (by decide) ?_
  refine lv_lstore (lv' := [(4, .long (tens (nI 0))), (0, .ref am), (1, .long x1), (3, .int x2)]) hx hb dX2_digits_1 hl (by decide) rfl (fun ls hl => ?_)
  refine lv_iconst (v := 1) hx hb dX2_digits_3 (by decide) ?_
  refine lv_istore (lv' := [(6, .int (nI (0 + 1))), (4, .long (tens (nI 0))), (0, .ref am), (1, .long x1), (3, .int x2)]) hx hb dX2_digits_4 hl (by decide) rfl (fun ls hl => ?_)
  exact hloop6 6 0 (by decide) (by decide) (fun m h => by rw [show m = 0 by omega]; exact Or.inl h1) _ _ _ hP hD hS (lv_sub hl [2, 3, 4, 1, 0] rfl)
