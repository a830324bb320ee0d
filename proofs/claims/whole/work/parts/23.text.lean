theorem q64 {a b : Int64} (ha : 0 ≤ a.toInt) (hb : 0 < b.toInt) : (a / b).toInt = a.toInt / b.toInt := by
  rw [d64 hb, Int.tdiv_eq_ediv_of_nonneg ha]
theorem r64 {a b : Int64} (ha : 0 ≤ a.toInt) (hb : 0 < b.toInt) : (a - a / b * b).toInt = a.toInt % b.toInt := by
  have h1 := q64 ha hb
  have h2 := Int.emod_nonneg a.toInt (show b.toInt ≠ 0 by omega)
  have h3 := Int.emod_lt_of_pos a.toInt hb
  have h4 := Int.mul_ediv_add_emod a.toInt b.toInt
  have h5 := a.toInt_lt
  have h6 := b.toInt_lt
  have h7 := Int.mul_comm b.toInt (a.toInt / b.toInt)
  have hm : (a / b * b).toInt = a.toInt / b.toInt * b.toInt := by
    rw [m64, h1] <;> rw [h1] <;> omega
  rw [s64 (by rw [hm]; omega) (by rw [hm]; omega), hm]; omega
/-! ===== texts ===== -/
abbrev TX := Nat × (Nat → Int32)
def tput (t : TX) (x : Int32) : TX := (t.1 + 1, upd t.2 t.1 x)
/-- the sign of a number's place -/
def dgM (v : Int64) (n : Nat) : Int32 := 48 + Int64.toInt32 (v / tens (nI n) - v / tens (nI n) / 10 * 10)
abbrev pnC (v : Int64) (fw : Int32) (n : Nat) : Prop := nI n < fw ∨ ¬ v < tens (nI n)
def pnL (v : Int64) (fw : Int32) : Nat → TX → TX
  | 0, t => t
  | n + 1, t => pnL v fw n (if pnC v fw n then tput t (dgM v n) else t)
def pnN (v : Int64) (fw : Int32) : Nat → Nat
  | 0 => 0
  | n + 1 => pnN v fw n + (if pnC v fw n then 1 else 0)
theorem pnL_len {v : Int64} {fw : Int32} : ∀ (n : Nat) (t : TX), (pnL v fw n t).1 = t.1 + pnN v fw n
  | 0, t => rfl
  | n + 1, t => by
    unfold pnL pnN
    rw [pnL_len n]
    split
    · show t.1 + 1 + _ = _; omega
    · omega
theorem tens_pos : ∀ n, n < 6 → 0 < (tens (nI n)).toInt := by decide +kernel
theorem dg_9 {x : Int64} (h1 : 0 ≤ x.toInt) (h2 : x.toInt < 10) : x = 0 ∨ x = 1 ∨ x = 2 ∨ x = 3 ∨ x = 4 ∨ x = 5 ∨ x = 6 ∨ x = 7 ∨ x = 8 ∨ x = 9 := by
  have e : ∀ y : Int64, x.toInt = y.toInt → x = y := fun y h => Int64.toInt_inj.mp h
  have : x.toInt = 0 ∨ x.toInt = 1 ∨ x.toInt = 2 ∨ x.toInt = 3 ∨ x.toInt = 4 ∨ x.toInt = 5 ∨ x.toInt = 6 ∨ x.toInt = 7 ∨ x.toInt = 8 ∨ x.toInt = 9 := by omega
  rcases this with h | h | h | h | h | h | h | h | h | h
  · exact Or.inl (e 0 h)
  · exact Or.inr (Or.inl (e 1 h))
  · exact Or.inr (Or.inr (Or.inl (e 2 h)))
  · exact Or.inr (Or.inr (Or.inr (Or.inl (e 3 h))))
  · exact Or.inr (Or.inr (Or.inr (Or.inr (Or.inl (e 4 h)))))
  · exact Or.inr (Or.inr (Or.inr (Or.inr (Or.inr (Or.inl (e 5 h))))))
  · exact Or.inr (Or.inr (Or.inr (Or.inr (Or.inr (Or.inr (Or.inl (e 6 h)))))))
  · exact Or.inr (Or.inr (Or.inr (Or.inr (Or.inr (Or.inr (Or.inr (Or.inl (e 7 h))))))))
  · exact Or.inr (Or.inr (Or.inr (Or.inr (Or.inr (Or.inr (Or.inr (Or.inr (Or.inl (e 8 h)))))))))
  · exact Or.inr (Or.inr (Or.inr (Or.inr (Or.inr (Or.inr (Or.inr (Or.inr (Or.inr (e 9 h)))))))))
theorem dg_nar {x : Int64} (h1 : 0 ≤ x.toInt) (h2 : x.toInt < 10) : vp_nar .char ((Int32.toUInt32 (Int64.toInt32 (48 + x)) % 65536).toInt32) = 48 + Int64.toInt32 x := by
  rcases dg_9 h1 h2 with h | h | h | h | h | h | h | h | h | h <;> subst h <;> decide +kernel
theorem wp_eq {v w : Int64} (hw : 0 < w.toInt) : f_X1_wholeParts v w = v / w := by
  unfold f_X1_wholeParts
  rw [if_neg (by rw [Int64.le_iff_toInt_le, show (0 : Int64).toInt = 0 from rfl]; omega)]
theorem dg_eq {v : Int64} {n : Nat} (hv : 0 ≤ v.toInt) (hn : n < 6) : vp_nar .char ((Int32.toUInt32 (Int64.toInt32 (48 + (f_X1_wholeParts v (tens (nI n)) - f_X1_wholeParts v (tens (nI n)) / 10 * 10))) % 65536).toInt32) = dgM v n := by
  have hp := tens_pos n hn
  rw [wp_eq hp]
  have h1 := q64 hv hp
  have h0 : 0 ≤ (v / tens (nI n)).toInt := by rw [h1]; exact Int.ediv_nonneg hv (by omega)
  have h2 := r64 (b := 10) h0 (by decide)
  exact dg_nar (by rw [h2]; exact Int.emod_nonneg _ (by decide)) (by rw [h2]; exact Int.emod_lt_of_pos _ (by decide))
theorem pl_s (q : Nat) : nI (q + 1) + (-1) = nI q := by
  rw [← nI_1, Int32.add_assoc, show (1 : Int32) + (-1) = 0 by decide, Int32.add_zero]
theorem pl_pos {q : Nat} (h : ¬ nI q + (-1) < 0) : ∃ j, q = j + 1 := by
  rcases q with _ | j
  · exact absurd (show nI 0 + (-1) < 0 by decide) h
  · exact ⟨j, rfl⟩
theorem pl_zero {q : Nat} (h6 : q ≤ 6) (h : nI q + (-1) < 0) : q = 0 := by
  rcases q with _ | j
  · rfl
  · rw [pl_s] at h; exact absurd h (nI_pos (by omega))
theorem pnL_s1 {v : Int64} {fw : Int32} {n : Nat} {t : TX} (c : pnC v fw n) : pnL v fw (n + 1) t = pnL v fw n (tput t (dgM v n)) := by
  conv => lhs; unfold pnL
  rw [if_pos c]
theorem pnL_s0 {v : Int64} {fw : Int32} {n : Nat} {t : TX} (c : ¬ pnC v fw n) : pnL v fw (n + 1) t = pnL v fw n t := by
  conv => lhs; unfold pnL
  rw [if_neg c]
theorem pnN_s1 {v : Int64} {fw : Int32} {n : Nat} (c : pnC v fw n) : pnN v fw (n + 1) = pnN v fw n + 1 := by
  conv => lhs; unfold pnN
  rw [if_pos c]
theorem pnN_s0 {v : Int64} {fw : Int32} {n : Nat} (c : ¬ pnC v fw n) : pnN v fw (n + 1) = pnN v fw n := by
  conv => lhs; unfold pnN
  rw [if_neg c, Nat.add_zero]
set_option maxHeartbeats 4000000 in
set_option maxRecDepth 100000 in
theorem k_X1_putNumber (l : Launch) (hst : l.stackTraces = false) (dC : Nat → ClassId) (dI : Nat → Nat → Nat) (cA : Nat → ClassId) (tm tt sz : Nat) (ax ab aw : Nat) (t0 : TX) (la ea : UInt64) (wk fl : Int32) (x1 : Int64) (x2 : Int32) (hv : 0 ≤ x1.toInt) (h24 : t0.1 + pnN x1 x2 6 ≤ 24) : Met l yX1_putNumber wsX1_putNumber ({ frames := 1, cells := 0, slots := 0, locals := 23 }) (PcW dC dI cA tm tt sz [.ref ax, .long x1, .int x2] [(ax, .inr (1, [.ref ab, .ref aw, .int (nI t0.1), .double la, .double ea, .int wk, .int fl])), (aw, aI 24 (cA 2) t0.2)]) (va_Qv (fun (_ : Unit) => True) (fun _ t => WB dC dI (va_A [(ax, .inr (1, [.ref ab, .ref aw, .int (nI t0.1), .double la, .double ea, .int wk, .int fl])), (aw, aI 24 (cA 2) t0.2)] sz) [(ax, .inr (1, [.ref ab, .ref aw, .int (nI (pnL x1 x2 6 t0).1), .double la, .double ea, .int wk, .int fl])), (aw, aI 24 (cA 2) ((pnL x1 x2 6 t0).2))] t) (va_A [(ax, .inr (1, [.ref ab, .ref aw, .int (nI t0.1), .double la, .double ea, .int wk, .int fl])), (aw, aI 24 (cA 2) t0.2)] sz)) 0 0 (va_A [(ax, .inr (1, [.ref ab, .ref aw, .int (nI t0.1), .double la, .double ea, .int wk, .int fl])), (aw, aI 24 (cA 2) t0.2)] sz) := by
  refine Met.ofW (cc := cX1_putNumber) (maxL := 5) (ret := none) (by decide) rfl ?_
  intro p e s m args below meth c s₁ B hml hv
  obtain ⟨rfl, hsz, hP, hK, hD0, hE⟩ := hv
  subst hsz
  have hD := hD0.self (sz := s.heap.size)
  generalize hAe : va_A [(ax, .inr (1, [.ref ab, .ref aw, .int (nI t0.1), .double la, .double ea, .int wk, .int fl])), (aw, aI 24 (cA 2) t0.2)] s.heap.size = A at hD hE ⊢
  have hA : ∀ q : Nat, s.heap.size ≤ q → A q := fun q h => by rw [← hAe]; exact Or.inr h
  have hS : va_S A s.heap s.heap [] := va_S.rf
  have hP : va_P (dC, dI) vwCl [(ax, .inr (1, [.ref ab, .ref aw, .int (nI t0.1), .double la, .double ea, .int wk, .int fl])), (aw, aI 24 (cA 2) t0.2)] s.heap := hP
  have hx := B.exec
  have hb := B.bytes
  have hr := B.returns
  have hts := atoms_spec (ws := wsX1_putNumber) B.pre
  have hown : s.vm.findClass RX1 = some m.cls := findClass_of_methodNamed B.named
  have hlocks := B.notSynchronized
  have hl := lv_entry ([.ref ax, .long x1, .int x2]) (n := 5) (Nat.le_of_ble_eq_true rfl)
  rw [lg_entry_eq]
  generalize (lg_sl ([.ref ax, .long x1, .int x2]) ++ List.replicate (5 - (lg_sl ([.ref ax, .long x1, .int x2])).length) Slot.unset).toArray = ls at hl ⊢
  have hl : lv_has ls 5 [(0, .ref ax), (1, .long x1), (3, .int x2)] := hl
  refine W.gen (fun QQ hQQ => ?_)

  have hloop8 : ∀ (n : Nat) (q : Nat) (tz : TX), q < n → q ≤ 6 → tz.1 + pnN x1 x2 q ≤ 24 → pnL x1 x2 6 t0 = pnL x1 x2 q tz → ∀ (H : Heap) (locs : List Loc) (ls : Array Slot), va_P (dC, dI) vwCl [(ax, .inr (1, [.ref ab, .ref aw, .int (nI tz.1), .double la, .double ea, .int wk, .int fl])), (aw, aI 24 (cA 2) tz.2)] H → va_D A [(ax, .inr (1, [.ref ab, .ref aw, .int (nI tz.1), .double la, .double ea, .int wk, .int fl])), (aw, aI 24 (cA 2) tz.2)] → va_S A s.heap H locs → lv_has ls 5 [(0, .ref ax), (1, .long x1), (3, .int x2), (4, .int (nI q + (-1)))] → W p l e (headSpec wsX1_putNumber ({ frames := 1, cells := 0, slots := 0, locals := 23 })).room s m ([.ref ax, .long x1, .int x2] : List Value).toArray below meth c H locs (0) (0) QQ (F0 m 8 ls []) := by
    intro n
    induction n with
    | zero =>
      intro q tz hf hq6 hk hQ
      exact absurd hf (by omega)
    | succ n ih =>
      intro q tz hf hq6 hk hQ H locs ls hP hD hS hl
      refine lv_iload hx hb dX1_putNumber_8 (lv_at hl 3 rfl) ?_
      refine lv_if_lt (tgt := 60) hx hb dX1_putNumber_10 (by decide) (fun c_1 => ?_) (fun c_1 => ?_)
      · have hq0 := pl_zero hq6 c_1
        subst hq0
        have hP : va_P (dC, dI) vwCl [(ax, .inr (1, [.ref ab, .ref aw, .int (nI (pnL x1 x2 6 t0).1), .double la, .double ea, .int wk, .int fl])), (aw, aI 24 (cA 2) ((pnL x1 x2 6 t0).2))] H := by rw [hQ]; exact hP
        have hD : va_D A [(ax, .inr (1, [.ref ab, .ref aw, .int (nI (pnL x1 x2 6 t0).1), .double la, .double ea, .int wk, .int fl])), (aw, aI 24 (cA 2) ((pnL x1 x2 6 t0).2))] := by rw [hQ]; exact hD
        subst hQQ
        exact W.vret hx hb hr (fun t ht hW => ⟨⟨(), rfl, trivial, ⟨by rw [ht]; exact hP, hD⟩⟩, hS.F ht⟩) hS.2.2 dX1_putNumber_60
      · obtain ⟨q9, rfl⟩ := pl_pos c_1
        rw [pl_s] at hl
        refine lv_iload hx hb dX1_putNumber_13 (lv_at hl 3 rfl) ?_
        refine lv_iload_n hx hb dX1_putNumber_15 rfl (lv_at hl 2 rfl) ?_
        refine lv_icmp_lt (tgt := 30) hx hb dX1_putNumber_16 (by decide) (fun c_2 => ?_) (fun c_2 => ?_)
        · have hc9 : pnC x1 x2 q9 := (Or.inl c_2)
          have hn9 := pnN_s1 hc9
          refine lv_aload_n hx hb dX1_putNumber_30 rfl (lv_at hl 0 rfl) ?_
          refine lv_ldc2 hx hb hown (hts (.constantLong RX1 357 (48)) (by decide +kernel)) dX1_putNumber_31 ?_
          refine lv_lload_n hx hb dX1_putNumber_34 rfl (lv_at hl 1 rfl) ?_
          refine va_gets hx hb hE.2.2.2.1 hS hown (hts (.fieldLink RX1 353 "SkyAlmanac" "TENS" "[J") (by decide +kernel)) (fun _ h => h) dX1_putNumber_35 ?_
          refine lv_iload hx hb dX1_putNumber_38 (lv_at hl 3 rfl) ?_
          refine va_tl (v := .long (tens (nI q9))) hx hb hE.2.2.2.2 hS (vp_in_nI (show q9 < 6 by omega) (by decide)) rfl dX1_putNumber_40 ?_
          refine vp_callSl (W.runS (As := [.long x1, .long (tens (nI q9))]) (rest := [.long 48, .ref ax]) ⟨hx, hb, hml, hown, hts⟩ (k_X1_wholeParts l x1 (tens (nI q9))) (va_cwS 2 hts gX1_putNumber_X1_wholeParts rfl rfl rfl (by decide +kernel) ⟨Nat.le_of_ble_eq_true rfl, Nat.le_of_ble_eq_true rfl⟩) preEq rfl rfl hl.1 rfl (lv_room (Nat.le_of_ble_eq_true rfl)) dX1_putNumber_41 ⟨Nat.le_of_ble_eq_true rfl, Nat.le_of_ble_eq_true rfl⟩) (fun r hr9 => ?_)
          obtain rfl := hr9
          refine lv_ldc2 hx hb hown (hts (.constantLong RX1 359 (10)) (by decide +kernel)) dX1_putNumber_44 ?_
          refine lv_lrem hx hb dX1_putNumber_47 (by decide) ?_
          refine lv_ladd hx hb dX1_putNumber_48 ?_
          refine lv_l2i hx hb dX1_putNumber_49 rfl ?_
          refine lv_i2c hx hb dX1_putNumber_50 rfl ?_
          have hPc := hP.sub (ws' := [(ax, .inr (1, [.ref ab, .ref aw, .int (nI tz.1), .double la, .double ea, .int wk, .int fl])), (aw, aI 24 (cA 2) tz.2)]) [0, 1] rfl
          have hDc := hD.sub (ws' := [(ax, .inr (1, [.ref ab, .ref aw, .int (nI tz.1), .double la, .double ea, .int wk, .int fl])), (aw, aI 24 (cA 2) tz.2)]) [0, 1] (by decide) rfl
          have hFc := va_free (wc := [(ax, .inr (1, [.ref ab, .ref aw, .int (nI tz.1), .double la, .double ea, .int wk, .int fl])), (aw, aI 24 (cA 2) tz.2)]) hD hS hA [0, 1] rfl
          refine va_callv (va_runV (As := [.int (Int32.toUInt32 (Int64.toInt32 (48 + ((f_X1_wholeParts x1 (tens (nI q9))) - (f_X1_wholeParts x1 (tens (nI q9))) / 10 * 10))) % 65536 |>.toInt32)]) (rest := []) ⟨hx, hb, hml, hown, hts⟩ (k_X1_put l hst dC dI cA tm tt _ ax ab aw tz.1 la ea wk fl tz.2 (Int32.toUInt32 (Int64.toInt32 (48 + ((f_X1_wholeParts x1 (tens (nI q9))) - (f_X1_wholeParts x1 (tens (nI q9))) / 10 * 10))) % 65536 |>.toInt32) (by omega)) (cwV 1 hts gX1_putNumber_X1_put rfl rfl rfl (by decide +kernel) ⟨Nat.le_of_ble_eq_true rfl, Nat.le_of_ble_eq_true rfl⟩) ⟨PcW.blind, va_recv hK hPc (ci := 1) (q0 := 0) rfl rfl, PcW.give hPc hK hDc hE hS hFc⟩ rfl rfl hl.1 rfl (lv_room (Nat.le_of_ble_eq_true rfl)) dX1_putNumber_51 ⟨Nat.le_of_ble_eq_true rfl, Nat.le_of_ble_eq_true rfl⟩) hS (fun q _ h => hFc q h) hFc (fun u t H locs ht hvm hp_4 hB hz1 hk1 hS => ?_)
          obtain ⟨hP1, hD1⟩ := hB
          rw [ht] at hP1
          obtain ⟨hP, hD⟩ := va_join (wr := []) (w1 := [(ax, .inr (1, [.ref ab, .ref aw, .int (nI (tz.1 + 1)), .double la, .double ea, .int wk, .int fl])), (aw, aI 24 (cA 2) (upd tz.2 tz.1 (vp_nar .char (Int32.toUInt32 (Int64.toInt32 (48 + ((f_X1_wholeParts x1 (tens (nI q9))) - (f_X1_wholeParts x1 (tens (nI q9))) / 10 * 10))) % 65536 |>.toInt32))))]) hP hD [0, 1] [] rfl rfl (by decide) (by decide) hk1 hFc hP1 hD1
          have hP := hP.sub (ws' := [(ax, .inr (1, [.ref ab, .ref aw, .int (nI (tz.1 + 1)), .double la, .double ea, .int wk, .int fl])), (aw, aI 24 (cA 2) (upd tz.2 tz.1 (vp_nar .char (Int32.toUInt32 (Int64.toInt32 (48 + ((f_X1_wholeParts x1 (tens (nI q9))) - (f_X1_wholeParts x1 (tens (nI q9))) / 10 * 10))) % 65536 |>.toInt32))))]) [0, 1] rfl
          have hD := hD.sub (ws' := [(ax, .inr (1, [.ref ab, .ref aw, .int (nI (tz.1 + 1)), .double la, .double ea, .int wk, .int fl])), (aw, aI 24 (cA 2) (upd tz.2 tz.1 (vp_nar .char (Int32.toUInt32 (Int64.toInt32 (48 + ((f_X1_wholeParts x1 (tens (nI q9))) - (f_X1_wholeParts x1 (tens (nI q9))) / 10 * 10))) % 65536 |>.toInt32))))]) [0, 1] (by decide) rfl
          rw [dg_eq hv (by omega)] at hP hD
          have hP : va_P (dC, dI) vwCl [(ax, .inr (1, [.ref ab, .ref aw, .int (nI (tput tz (dgM x1 q9)).1), .double la, .double ea, .int wk, .int fl])), (aw, aI 24 (cA 2) ((tput tz (dgM x1 q9)).2))] H := hP
          have hD : va_D A [(ax, .inr (1, [.ref ab, .ref aw, .int (nI (tput tz (dgM x1 q9)).1), .double la, .double ea, .int wk, .int fl])), (aw, aI 24 (cA 2) ((tput tz (dgM x1 q9)).2))] := hD
          refine lv_iinc (v := (nI q9) + (-1)) (lv' := [(4, .int ((nI q9) + (-1))), (0, .ref ax), (1, .long x1), (3, .int x2)]) hx hb dX1_putNumber_54 hl (k := 3) rfl (by first | rfl | decide) (by decide) rfl (fun ls hl => ?_)
          refine lv_goto (tgt := 8) hx hb dX1_putNumber_57 (by decide) ?_
          exact ih q9 (tput tz (dgM x1 q9)) (by omega) (by omega) (by show tz.1 + 1 + _ ≤ 24; omega) (by rw [hQ, pnL_s1 hc9]) _ _ _ hP hD hS (lv_sub hl [1, 2, 3, 0] rfl)
        · refine lv_lload_n hx hb dX1_putNumber_19 rfl (lv_at hl 1 rfl) ?_
          refine va_gets hx hb hE.2.2.2.1 hS hown (hts (.fieldLink RX1 353 "SkyAlmanac" "TENS" "[J") (by decide +kernel)) (fun _ h => h) dX1_putNumber_20 ?_
          refine lv_iload hx hb dX1_putNumber_23 (lv_at hl 3 rfl) ?_
          refine va_tl (v := .long (tens (nI q9))) hx hb hE.2.2.2.2 hS (vp_in_nI (show q9 < 6 by omega) (by decide)) rfl dX1_putNumber_25 ?_
          refine zl_lt (tgt := 54) hx hb dX1_putNumber_26 dX1_putNumber_27 (by decide) (fun c_5 => ?_) (fun c_5 => ?_)
          · refine lv_iinc (v := (nI q9) + (-1)) (lv' := [(4, .int ((nI q9) + (-1))), (0, .ref ax), (1, .long x1), (3, .int x2)]) hx hb dX1_putNumber_54 hl (k := 3) rfl (by first | rfl | decide) (by decide) rfl (fun ls hl => ?_)
            refine lv_goto (tgt := 8) hx hb dX1_putNumber_57 (by decide) ?_
            have hc9 : ¬ pnC x1 x2 q9 := fun h => h.elim c_2 (fun h => h c_5)
            have hn9 := pnN_s0 hc9
            exact ih q9 tz (by omega) (by omega) (by omega) (by rw [hQ, pnL_s0 hc9]) _ _ _ hP hD hS (lv_sub hl [1, 2, 3, 0] rfl)
          · have hc9 : pnC x1 x2 q9 := (Or.inr c_5)
            have hn9 := pnN_s1 hc9
            refine lv_aload_n hx hb dX1_putNumber_30 rfl (lv_at hl 0 rfl) ?_
            refine lv_ldc2 hx hb hown (hts (.constantLong RX1 357 (48)) (by decide +kernel)) dX1_putNumber_31 ?_
            refine lv_lload_n hx hb dX1_putNumber_34 rfl (lv_at hl 1 rfl) ?_
            refine va_gets hx hb hE.2.2.2.1 hS hown (hts (.fieldLink RX1 353 "SkyAlmanac" "TENS" "[J") (by decide +kernel)) (fun _ h => h) dX1_putNumber_35 ?_
            refine lv_iload hx hb dX1_putNumber_38 (lv_at hl 3 rfl) ?_
            refine va_tl (v := .long (tens (nI q9))) hx hb hE.2.2.2.2 hS (vp_in_nI (show q9 < 6 by omega) (by decide)) rfl dX1_putNumber_40 ?_
            refine vp_callSl (W.runS (As := [.long x1, .long (tens (nI q9))]) (rest := [.long 48, .ref ax]) ⟨hx, hb, hml, hown, hts⟩ (k_X1_wholeParts l x1 (tens (nI q9))) (va_cwS 2 hts gX1_putNumber_X1_wholeParts rfl rfl rfl (by decide +kernel) ⟨Nat.le_of_ble_eq_true rfl, Nat.le_of_ble_eq_true rfl⟩) preEq rfl rfl hl.1 rfl (lv_room (Nat.le_of_ble_eq_true rfl)) dX1_putNumber_41 ⟨Nat.le_of_ble_eq_true rfl, Nat.le_of_ble_eq_true rfl⟩) (fun r hr9 => ?_)
            obtain rfl := hr9
            refine lv_ldc2 hx hb hown (hts (.constantLong RX1 359 (10)) (by decide +kernel)) dX1_putNumber_44 ?_
            refine lv_lrem hx hb dX1_putNumber_47 (by decide) ?_
            refine lv_ladd hx hb dX1_putNumber_48 ?_
            refine lv_l2i hx hb dX1_putNumber_49 rfl ?_
            refine lv_i2c hx hb dX1_putNumber_50 rfl ?_
            have hPc := hP.sub (ws' := [(ax, .inr (1, [.ref ab, .ref aw, .int (nI tz.1), .double la, .double ea, .int wk, .int fl])), (aw, aI 24 (cA 2) tz.2)]) [0, 1] rfl
            have hDc := hD.sub (ws' := [(ax, .inr (1, [.ref ab, .ref aw, .int (nI tz.1), .double la, .double ea, .int wk, .int fl])), (aw, aI 24 (cA 2) tz.2)]) [0, 1] (by decide) rfl
            have hFc := va_free (wc := [(ax, .inr (1, [.ref ab, .ref aw, .int (nI tz.1), .double la, .double ea, .int wk, .int fl])), (aw, aI 24 (cA 2) tz.2)]) hD hS hA [0, 1] rfl
            refine va_callv (va_runV (As := [.int (Int32.toUInt32 (Int64.toInt32 (48 + ((f_X1_wholeParts x1 (tens (nI q9))) - (f_X1_wholeParts x1 (tens (nI q9))) / 10 * 10))) % 65536 |>.toInt32)]) (rest := []) ⟨hx, hb, hml, hown, hts⟩ (k_X1_put l hst dC dI cA tm tt _ ax ab aw tz.1 la ea wk fl tz.2 (Int32.toUInt32 (Int64.toInt32 (48 + ((f_X1_wholeParts x1 (tens (nI q9))) - (f_X1_wholeParts x1 (tens (nI q9))) / 10 * 10))) % 65536 |>.toInt32) (by omega)) (cwV 1 hts gX1_putNumber_X1_put rfl rfl rfl (by decide +kernel) ⟨Nat.le_of_ble_eq_true rfl, Nat.le_of_ble_eq_true rfl⟩) ⟨PcW.blind, va_recv hK hPc (ci := 1) (q0 := 0) rfl rfl, PcW.give hPc hK hDc hE hS hFc⟩ rfl rfl hl.1 rfl (lv_room (Nat.le_of_ble_eq_true rfl)) dX1_putNumber_51 ⟨Nat.le_of_ble_eq_true rfl, Nat.le_of_ble_eq_true rfl⟩) hS (fun q _ h => hFc q h) hFc (fun u t H locs ht hvm hp_7 hB hz1 hk1 hS => ?_)
            obtain ⟨hP1, hD1⟩ := hB
            rw [ht] at hP1
            obtain ⟨hP, hD⟩ := va_join (wr := []) (w1 := [(ax, .inr (1, [.ref ab, .ref aw, .int (nI (tz.1 + 1)), .double la, .double ea, .int wk, .int fl])), (aw, aI 24 (cA 2) (upd tz.2 tz.1 (vp_nar .char (Int32.toUInt32 (Int64.toInt32 (48 + ((f_X1_wholeParts x1 (tens (nI q9))) - (f_X1_wholeParts x1 (tens (nI q9))) / 10 * 10))) % 65536 |>.toInt32))))]) hP hD [0, 1] [] rfl rfl (by decide) (by decide) hk1 hFc hP1 hD1
            have hP := hP.sub (ws' := [(ax, .inr (1, [.ref ab, .ref aw, .int (nI (tz.1 + 1)), .double la, .double ea, .int wk, .int fl])), (aw, aI 24 (cA 2) (upd tz.2 tz.1 (vp_nar .char (Int32.toUInt32 (Int64.toInt32 (48 + ((f_X1_wholeParts x1 (tens (nI q9))) - (f_X1_wholeParts x1 (tens (nI q9))) / 10 * 10))) % 65536 |>.toInt32))))]) [0, 1] rfl
            have hD := hD.sub (ws' := [(ax, .inr (1, [.ref ab, .ref aw, .int (nI (tz.1 + 1)), .double la, .double ea, .int wk, .int fl])), (aw, aI 24 (cA 2) (upd tz.2 tz.1 (vp_nar .char (Int32.toUInt32 (Int64.toInt32 (48 + ((f_X1_wholeParts x1 (tens (nI q9))) - (f_X1_wholeParts x1 (tens (nI q9))) / 10 * 10))) % 65536 |>.toInt32))))]) [0, 1] (by decide) rfl
            rw [dg_eq hv (by omega)] at hP hD
            have hP : va_P (dC, dI) vwCl [(ax, .inr (1, [.ref ab, .ref aw, .int (nI (tput tz (dgM x1 q9)).1), .double la, .double ea, .int wk, .int fl])), (aw, aI 24 (cA 2) ((tput tz (dgM x1 q9)).2))] H := hP
            have hD : va_D A [(ax, .inr (1, [.ref ab, .ref aw, .int (nI (tput tz (dgM x1 q9)).1), .double la, .double ea, .int wk, .int fl])), (aw, aI 24 (cA 2) ((tput tz (dgM x1 q9)).2))] := hD
            refine lv_iinc (v := (nI q9) + (-1)) (lv' := [(4, .int ((nI q9) + (-1))), (0, .ref ax), (1, .long x1), (3, .int x2)]) hx hb dX1_putNumber_54 hl (k := 3) rfl (by first | rfl | decide) (by decide) rfl (fun ls hl => ?_)
            refine lv_goto (tgt := 8) hx hb dX1_putNumber_57 (by decide) ?_
            exact ih q9 (tput tz (dgM x1 q9)) (by omega) (by omega) (by show tz.1 + 1 + _ ≤ 24; omega) (by rw [hQ, pnL_s1 hc9]) _ _ _ hP hD hS (lv_sub hl [1, 2, 3, 0] rfl)
  refine va_gets hx hb hE.2.2.2.1 hS hown (hts (.fieldLink RX1 353 "SkyAlmanac" "TENS" "[J") (by decide +kernel)) (fun _ h => h) dX1_putNumber_0 ?_
  refine va_tlen (v := 6) hx hb hE.2.2.2.2 hS (by decide) dX1_putNumber_3 ?_
  refine lv_iconst (v := 1) hx hb dX1_putNumber_4 (by decide) ?_
  refine lv_isub hx hb dX1_putNumber_5 ?_
  rw [show (6 : Int32) - 1 = nI 6 + (-1) by decide +kernel]
  refine lv_istore (lv' := [(4, .int (nI 6 + (-1))), (0, .ref ax), (1, .long x1), (3, .int x2)]) hx hb dX1_putNumber_6 hl (by decide) rfl (fun ls hl => ?_)
  exact hloop8 7 6 t0 (by decide) (by decide) h24 rfl _ _ _ hP hD hS (lv_sub hl [1, 2, 3, 0] rfl)
