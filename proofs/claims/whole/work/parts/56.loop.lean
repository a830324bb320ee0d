section
theorem lp_cmp {L i : Nat} (hL : L ≤ 3072) (hi : i ≤ 4000) : Int32.ofNat L - 6 < nI i ↔ L < i + 6 := by
  have e1 : (Int32.ofNat L).toInt = L := nI_toInt (n := L) (by omega)
  have e2 : (6 : Int32).toInt = 6 := rfl
  rw [Int32.lt_iff_toInt_lt, s32 (by rw [e1, e2]; omega) (by rw [e1, e2]; omega), e1, e2, nI_toInt (by omega)]
  omega
theorem law_head {p : Program} {l : Launch} {e : Env} {s : State} {m : MethodId} {below : List Frame} {meth : Method} {c : Code} {b L : Nat} {xs : Nat → Int32} {A : Nat → Prop} {dC : Nat → ClassId} {dI : Nat → Nat → Nat} {cA : Nat → ClassId} {tm tt : Nat} {i Cn Sn : Nat} {Q : State → Prop} (C0 : LX p s m c b L xs dC dI cA tm tt A) (hL : L ≤ 3072) (hi4 : i ≤ 4000) {ax am ao ad : Nat} {H : Heap} {locs : List Loc} {ls : Array Slot} (hS : va_S A s.heap H locs) (hl : lv_has ls 9 [(0, .ref b), (1, .ref ax), (2, .ref am), (3, .ref ao), (4, .ref ad), (5, .int (nI i))])
    (k1 : L < i + 6 → W p l e room_1 s m #[Value.ref b] below meth c H locs Cn Sn Q (F0 m 1444 ls [])) (k2 : i + 6 ≤ L → W p l e room_1 s m #[Value.ref b] below meth c H locs Cn Sn Q (F0 m 38 ls [])) : W p l e room_1 s m #[Value.ref b] below meth c H locs Cn Sn Q (F0 m 28 ls []) := by
  obtain ⟨hx, hb, hml, hown, hts, hX, hbl, hbA, hA, hE, hN, hK⟩ := C0
  refine lv_iload hx hb dL_law_28 (lv_at hl 5 rfl) ?_
  refine lv_aload_n hx hb dL_law_30 rfl (lv_at hl 0 rfl) ?_
  refine va_slen hx hb hX hbl hbA hS dL_law_31 ?_
  refine lv_bipush (v := 6) hx hb dL_law_32 (by decide) ?_
  refine lv_isub hx hb dL_law_34 ?_
  refine lv_icmp_gt (tgt := 1444) hx hb dL_law_35 (by decide) (fun c => ?_) (fun c => ?_)
  · exact k1 ((lp_cmp hL hi4).mp c)
  · exact k2 (Nat.le_of_not_lt (fun h => c ((lp_cmp hL hi4).mpr h)))
set_option maxHeartbeats 4000000 in
set_option maxRecDepth 100000 in
theorem law_case {p : Program} {l : Launch} {e : Env} {s : State} {m : MethodId} {below : List Frame} {meth : Method} {c : Code} {b L : Nat} {xs : Nat → Int32} {Q : State → Prop} {A : Nat → Prop} {dC : Nat → ClassId} {dI : Nat → Nat → Nat} {cA : Nat → ClassId} {tm tt i Cn Sn : Nat} (hst : l.stackTraces = false) (C0 : LX p s m c b L xs dC dI cA tm tt A) (hi : i + 6 ≤ L) (hL : L ≤ 3072) (hC : Cn + 66 ≤ 620239) (hSn : Sn + 396 ≤ 7235387) {ax ab aw : Nat} {bb bp bf bs bv : Nat → Nat} {am gs go gt gp gw gl ao ad : Nat} {qf : Nat → Option Nat} {kw : Nat} {la ea : UInt64} {wk fl : Int32} {f0 : Nat → Int32} {st : Nat → Int32} {oL oN oE oW : Nat → UInt64} {k : Nat → Nat} {pw : Nat → Nat → Int32} {fa sa va : Nat → Nat → UInt64} {th fd : Int32} {sf : Nat → Int32} {uf : Nat → UInt64} {tf pf : Nat → Int32} {wf : Nat → UInt64} {lf : Nat → Int32} {fo : Nat → Int64} {fq : Nat → UInt64} (hI : LI qf bb kw la ea f0 st oL oN oE oW k pw fa sa va sf uf tf pf wf lf) {H : Heap} {locs : List Loc} {ls : Array Slot} (hP : va_P (dC, dI) vwCl (Wd cA ax ab aw bb bp bf bs bv am gs go gt gp gw gl ao ad qf kw la ea wk fl f0 st oL oN oE oW k pw fa sa va th fd sf uf tf pf wf lf fo fq) H) (hD : va_D A (Wd cA ax ab aw bb bp bf bs bv am gs go gt gp gw gl ao ad qf kw la ea wk fl f0 st oL oN oE oW k pw fa sa va th fd sf uf tf pf wf lf fo fq)) (hS : va_S A s.heap H locs) (hl : lv_has ls 9 [(0, .ref b), (1, .ref ax), (2, .ref am), (3, .ref ao), (4, .ref ad), (5, .int (nI i))]) (kk : KO p l e s m below meth c b i Q A dC dI cA ax ab aw bb bp bf bs bv am gs go gt gp gw gl ao ad qf (Cn + 66) (Sn + 396)) : W p l e room_1 s m #[Value.ref b] below meth c H locs Cn Sn Q (F0 m 38 ls []) := by
  obtain ⟨hx, hb, hml, hown, hts, hX, hbl, hbA, hA, hE, hN, hK⟩ := id C0
  refine lv_aload_n hx hb dL_law_38 rfl (lv_at hl 0 rfl) ?_
  refine lv_iload hx hb dL_law_39 (lv_at hl 5 rfl) ?_
  refine va_sld hx hb hX hbl hbA hS (vp_in_nI (show i < L by omega) (by omega)) dL_law_41 ?_
  refine lv_bipush (v := 15) hx hb dL_law_42 (by decide) ?_
  refine lv_iand hx hb dL_law_44 ?_
  obtain ⟨j, hj, ej⟩ := pk_andE (xs (Int32.toNatClampNeg (nI i))) (m := 15) 4 (by decide)
  rw [ej]
  have hj : j < 16 := hj
  rcases (show j = 0 ∨ j = 1 ∨ j = 2 ∨ j = 3 ∨ j = 4 ∨ j = 5 ∨ j = 6 ∨ j = 7 ∨ j = 8 ∨ j = 9 ∨ j = 10 ∨ j = 11 ∨ j = 12 ∨ j = 13 ∨ j = 14 ∨ j = 15 by omega) with rfl | rfl | rfl | rfl | rfl | rfl | rfl | rfl | rfl | rfl | rfl | rfl | rfl | rfl | rfl | rfl
  · refine lv_tableIn (tgt := 116) (off := 71) hx hb dL_law_45 (by decide +kernel) (by decide +kernel) (by decide +kernel) (by decide) ?_
    exact sp_day hst C0 hi hL hC hSn hI hP hD hS hl kk
  · refine lv_tableIn (tgt := 207) (off := 162) hx hb dL_law_45 (by decide +kernel) (by decide +kernel) (by decide +kernel) (by decide) ?_
    exact sp_date hst C0 hi hL hC hSn hI hP hD hS hl kk
  · refine lv_tableIn (tgt := 319) (off := 274) hx hb dL_law_45 (by decide +kernel) (by decide +kernel) (by decide +kernel) (by decide) ?_
    exact sp_easter hst C0 hi hL hC hSn hI hP hD hS hl kk
  · refine lv_tableIn (tgt := 374) (off := 329) hx hb dL_law_45 (by decide +kernel) (by decide +kernel) (by decide +kernel) (by decide) ?_
    exact sp_orbit hst C0 hi hL hC hSn hI hP hD hS hl kk
  · refine lv_tableIn (tgt := 525) (off := 480) hx hb dL_law_45 (by decide +kernel) (by decide +kernel) (by decide +kernel) (by decide) ?_
    exact sp_term hst C0 hi hL hC hSn hI hP hD hS hl kk
  · refine lv_tableIn (tgt := 659) (off := 614) hx hb dL_law_45 (by decide +kernel) (by decide +kernel) (by decide +kernel) (by decide) ?_
    exact sp_observer hst C0 hi hL hC hSn hI hP hD hS hl kk
  · refine lv_tableIn (tgt := 754) (off := 709) hx hb dL_law_45 (by decide +kernel) (by decide +kernel) (by decide +kernel) (by decide) ?_
    exact sp_longitude hst C0 hi hL hC hSn hI hP hD hS hl kk
  · refine lv_tableIn (tgt := 853) (off := 808) hx hb dL_law_45 (by decide +kernel) (by decide +kernel) (by decide +kernel) (by decide) ?_
    exact sp_height hst C0 hi hL hC hSn hI hP hD hS hl kk
  · refine lv_tableIn (tgt := 952) (off := 907) hx hb dL_law_45 (by decide +kernel) (by decide +kernel) (by decide +kernel) (by decide) ?_
    exact sp_event hst C0 hi hL hC hSn hI hP hD hS hl kk
  · refine lv_tableIn (tgt := 1053) (off := 1008) hx hb dL_law_45 (by decide +kernel) (by decide +kernel) (by decide +kernel) (by decide) ?_
    exact sp_sidereal hst C0 hi hL hC hSn hI hP hD hS hl kk
  · refine lv_tableIn (tgt := 1140) (off := 1095) hx hb dL_law_45 (by decide +kernel) (by decide +kernel) (by decide +kernel) (by decide) ?_
    exact sp_write hst C0 hi hL hC hSn hI hP hD hS hl kk
  · refine lv_tableIn (tgt := 1218) (off := 1173) hx hb dL_law_45 (by decide +kernel) (by decide +kernel) (by decide +kernel) (by decide) ?_
    exact sp_letter hst C0 hi hL hC hSn hI hP hD hS hl kk
  · refine lv_tableIn (tgt := 1274) (off := 1229) hx hb dL_law_45 (by decide +kernel) (by decide +kernel) (by decide +kernel) (by decide) ?_
    exact sp_angle hst C0 hi hL hC hSn hI hP hD hS hl kk
  · refine lv_tableIn (tgt := 1397) (off := 1352) hx hb dL_law_45 (by decide +kernel) (by decide +kernel) (by decide +kernel) (by decide) ?_
    exact sp_count hst C0 hi hL hC hSn hI hP hD hS hl kk
  · refine lv_tableOut (tgt := 1438) hx hb dL_law_45 (Or.inr (by decide +kernel)) (by decide) ?_
    refine W.widen (k := Cn + 66) (n := Sn + 396) (by omega) (by omega) ?_
    exact kk _ _ _ _ _ _ _ _ _ _ _ _ _ _ _ _ _ _ _ _ _ _ _ _ _ _ hI H locs ls hP hD hS hl
  · refine lv_tableOut (tgt := 1438) hx hb dL_law_45 (Or.inr (by decide +kernel)) (by decide) ?_
    refine W.widen (k := Cn + 66) (n := Sn + 396) (by omega) (by omega) ?_
    exact kk _ _ _ _ _ _ _ _ _ _ _ _ _ _ _ _ _ _ _ _ _ _ _ _ _ _ hI H locs ls hP hD hS hl
set_option maxHeartbeats 4000000 in
set_option maxRecDepth 100000 in
theorem law_loop {p : Program} {l : Launch} {e : Env} {s : State} {m : MethodId} {below : List Frame} {meth : Method} {c : Code} {b L : Nat} {xs : Nat → Int32} {A : Nat → Prop} {dC : Nat → ClassId} {dI : Nat → Nat → Nat} {cA : Nat → ClassId} {tm tt : Nat} (hst : l.stackTraces = false) (C0 : LX p s m c b L xs dC dI cA tm tt A) (hr : meth.sig.returnType = ret) (hlocks : meth.locks = false) (hL : L ≤ 3072) (hAs : ∀ q, A q → s.heap.size ≤ q) {ax ab aw : Nat} {bb bp bf bs bv : Nat → Nat} {am gs go gt gp gw gl ao ad : Nat} {qf : Nat → Option Nat} :
    ∀ (n t : Nat), L ≤ 6 * (t + n) + 5 → 6 * t ≤ L → ∀ (kw : Nat) (la ea : UInt64) (wk fl : Int32) (f0 : Nat → Int32) (st : Nat → Int32) (oL oN oE oW : Nat → UInt64) (k : Nat → Nat) (pw : Nat → Nat → Int32) (fa sa va : Nat → Nat → UInt64) (th fd : Int32) (sf : Nat → Int32) (uf : Nat → UInt64) (tf pf : Nat → Int32) (wf : Nat → UInt64) (lf : Nat → Int32) (fo : Nat → Int64) (fq : Nat → UInt64), LI qf bb kw la ea f0 st oL oN oE oW k pw fa sa va sf uf tf pf wf lf → ∀ (H : Heap) (locs : List Loc) (ls : Array Slot), va_P (dC, dI) vwCl (Wd cA ax ab aw bb bp bf bs bv am gs go gt gp gw gl ao ad qf kw la ea wk fl f0 st oL oN oE oW k pw fa sa va th fd sf uf tf pf wf lf fo fq) H → va_D A (Wd cA ax ab aw bb bp bf bs bv am gs go gt gp gw gl ao ad qf kw la ea wk fl f0 st oL oN oE oW k pw fa sa va th fd sf uf tf pf wf lf fo fq) → va_S A s.heap H locs → lv_has ls 9 [(0, .ref b), (1, .ref ax), (2, .ref am), (3, .ref ao), (4, .ref ad), (5, .int (nI (6 * t)))] → W p l e room_1 s m #[Value.ref b] below meth c H locs (40 + 66 * t) (1000 + 396 * t) (lw_Z below #[Value.ref b] s) (F0 m 28 ls []) := by
  obtain ⟨hx, hb, hml, hown, hts, hX, hbl, hbA, hA, hE, hN, hK⟩ := id C0
  intro n
  induction n with
  | zero =>
    intro t hn ht kw la ea wk fl f0 st oL oN oE oW k pw fa sa va th fd sf uf tf pf wf lf fo fq hI H locs ls hP hD hS hl
    refine law_head C0 hL (by omega) hS hl (fun h => ?_) (fun h => ?_)
    · refine lv_iconst (v := 1) hx hb dL_law_1444 (by decide) ?_
      refine va_forget (fun q hq => hAs _ (hS.2.2 q hq)) ?_
      refine W.widen (k := 620239) (n := 7235387) (by omega) (by omega) ?_
      exact lw_ret hx hb hr hlocks dL_law_1445
    · exact absurd h (by omega)
  | succ n ih =>
    intro t hn ht kw la ea wk fl f0 st oL oN oE oW k pw fa sa va th fd sf uf tf pf wf lf fo fq hI H locs ls hP hD hS hl
    refine law_head C0 hL (by omega) hS hl (fun h => ?_) (fun h => ?_)
    · refine lv_iconst (v := 1) hx hb dL_law_1444 (by decide) ?_
      refine va_forget (fun q hq => hAs _ (hS.2.2 q hq)) ?_
      refine W.widen (k := 620239) (n := 7235387) (by omega) (by omega) ?_
      exact lw_ret hx hb hr hlocks dL_law_1445
    · refine law_case hst C0 h hL (by omega) (by omega) hI hP hD hS hl ?_
      intro kw la ea wk fl f0 st oL oN oE oW k pw fa sa va th fd sf uf tf pf wf lf fo fq hI H locs ls hP hD hS hl
      refine lv_iinc (v := nI (6 * (t + 1))) (lv' := [(5, .int (nI (6 * (t + 1)))), (0, .ref b), (1, .ref ax), (2, .ref am), (3, .ref ao), (4, .ref ad)]) hx hb dL_law_1438 hl (k := 5) rfl (by rw [show 6 * (t + 1) = 6 * t + 6 by omega]; exact nI_add (6 * t) 6) (by decide) rfl (fun ls hl => ?_)
      refine lv_goto (tgt := 28) hx hb dL_law_1441 (by decide) ?_
      refine W.widen (k := 40 + 66 * (t + 1)) (n := 1000 + 396 * (t + 1)) (by omega) (by omega) ?_
      exact ih (t + 1) (by omega) (by omega) _ _ _ _ _ _ _ _ _ _ _ _ _ _ _ _ _ _ _ _ _ _ _ _ _ _ hI _ _ _ hP hD hS (lv_sub hl [1, 2, 3, 4, 5, 0] rfl)
end
