section ZR
variable {p : Program} {l : Launch} {e : Env} {R : Room} {s : State} {m : MethodId} {args : Array Value} {below : List Frame} {meth : Method} {c : Code} {H : Heap} {locs : List Loc} {cells slots : Nat} {Q : State → Prop}
  {Ts ws ws' : List Cond} {cc bytes : ByteArray} {nL maxL index n mc ms : Nat} {own C : String} {y : MethodName} {ret : Option FieldType} {rm : Room} {Pc : Array Value → State → Prop} {Qc : Array Value → State → Outcome → State → Prop} {free : Addr → Prop}
  {b : Addr} {As rest : List Value} {g : JFrame} {a : Array Value}
/-- a call with up to twelve words below its arguments -/
theorem zr_runV (h12 : 12 + (maxL + 11) + rm.locals ≤ R.locals) (S : CallFix p m c cc nL s args Ts own) (hM : Met l y ws rm Pc Qc mc ms free) (cw : CallW R s args own C index y bytes maxL ret ws rm mc ms n) (hp : PreV s H C b Pc As)
    (hg : g.method = m) (hn : As.length = n) (hsize : g.locals.size = nL) (hstack : g.stack = As.reverse ++ .ref b :: rest) (hW : 2 * g.monitorRoom + (rest.map fun v => v.category).sum ≤ 12) (hdg : decode cc g.pc = .ok (.invokevirtual index, 3)) (hf : cells + mc ≤ R.cells ∧ slots + ms ≤ R.slots) :
    CallRun p l e R s m args below meth c H locs cells slots mc ms g rest (Qc (Value.ref b :: As).toArray) (free) := by
  obtain ⟨⟨hrc, hrs, hfr, hlo, hws, hcw, hcode, hini, hy, hlen, hl⟩, hin, hse⟩ := cw
  have hK : Back l R p e below s args y 3 12 (PreOf R mc ms Pc) (PostOf Qc mc ms free) := back_of (bytes := bytes) (maxL := maxL) (ret := ret) hM hp.1 hrc hrs hfr h12 hws hcw (fun a' U hW => word_at hW (Or.inl (by first | rfl | simp [Cond.onTables, Cond.keeps, Cond.steady])) hini)
  obtain ⟨hx, hb, hml, ho, -⟩ := S
  obtain ⟨-, ⟨cellB, hcB, hoB, hclB⟩, hPc⟩ := hp
  intro T hT X
  obtain ⟨v, vm₁, ⟨U', l2, c2, s2⟩, hW₁, X', ⟨g', mk, t, L, e1, e2, hq, h1, hL, h2, h3⟩, st⟩ := callV X hx (C := C) (bytes := bytes) (maxL := maxL) (ret := ret) ho hl hin hse hcode hy hK (by rw [hT]; exact hcB) hoB hclB hg (hsize.trans hml.symm) (argsL := As) (rest := rest) (fun sig h => hn.trans (hlen sig h)) hstack hW (by rw [hb]; exact hdg)
    (fun vm₁ hW₁ => ⟨hf.1, hf.2, hPc (T.setVm vm₁) hT hW₁⟩)
  dsimp only [Pt.U, Pt.locs, Pt.cells, Pt.slots] at X' e1 e2 h1 h2 h3 st
  subst h1; subst h2; subst h3
  exact ⟨v, (T.setVm vm₁).calling g' mk (Value.ref b :: As).toArray, t, U', L, hT, X', hL, e1, hq, st⟩
theorem zr_room {pc : Nat} {ls : Array Slot} {rest st : List Value} (h : (st.map fun v => v.category).sum ≤ 12) : 2 * (F0 m pc ls rest).monitorRoom + (st.map fun v => v.category).sum ≤ 12 := by
  show 2 * 0 + _ ≤ 12
  omega
end ZR
/-- the reference's rows hold body b's orbit and terms -/
def bR (b : Nat) (uf : Nat → UInt64) (tf pf : Nat → Int32) (wf : Nat → UInt64) (oL oN oE oW : UInt64) (k : Nat) (pw : Nat → Int32) (fa sa va : Nat → UInt64) : Prop :=
  (uf (4 * b) = oL ∧ uf (4 * b + 1) = oN ∧ uf (4 * b + 2) = oE ∧ uf (4 * b + 3) = oW) ∧ tf b = nI k ∧ ∀ j, j < 12 → pf (12 * b + j) = pw j ∧ wf (3 * (12 * b + j)) = fa j ∧ wf (3 * (12 * b + j) + 1) = sa j ∧ wf (3 * (12 * b + j) + 2) = va j
theorem sm_eq {b i k : Nat} (h : nI (12 * b + k) ≤ nI (12 * b + i)) (hi : i ≤ k) (hk : k ≤ 12) (hb : b < 4) : i = k := by
  have h8 := (nI_leI (by omega) (by omega)).mp h
  omega
set_option maxHeartbeats 4000000 in
set_option maxRecDepth 100000 in
theorem k_X2_sum (l : Launch) (dC : Nat → ClassId) (dI : Nat → Nat → Nat) (cA : Nat → ClassId) (tm tt : Nat) (am gs go gt gp gw gl : Nat) (th wo fu : Int32) (la ea : UInt64) (ln fd : Int32) (tf : Nat → Int32) (pf : Nat → Int32) (wf : Nat → UInt64) (uf : Nat → UInt64) (oL oN oE oW : UInt64) (k : Nat) (pw : Nat → Int32) (fa sa va : Nat → UInt64) (x1 : Int32) (x2 : Int32) (x3 : UInt64) (hb1 : ¬ x1 < 0) (hb2 : ¬ 3 < x1) (hR : bR (Int32.toNatClampNeg x1) uf tf pf wf oL oN oE oW k pw fa sa va) (hT : tOK k fa sa va) (h0 : fR x3 (-2251799813685248) 2251799813685248) : Met l yX2_sum wsX2_sum ({ frames := 3, cells := 0, slots := 0, locals := 82 }) (PcO dC dI cA tm tt [.ref am, .int x1, .int x2, .double x3] [(am, .inr (2, [.int th, .int wo, .int fu, .ref gs, .ref go, .ref gt, .ref gp, .ref gw, .double la, .double ea, .ref gl, .int ln, .int fd])), (gt, aI 4 (cA 0) tf), (gp, aI 48 (cA 0) pf), (gw, aD 144 (cA 1) wf)]) (vp_Sd (fun r => r = SUMP pw fa sa va x2 x3 k)) 0 0 (fun _ => False) := by
  refine Met.ofW (cc := cX2_sum) (maxL := 8) (ret := (some .double)) (by decide) rfl ?_
  intro p e s m args below meth c s₁ B hml hv
  obtain ⟨rfl, hP, hK, hE⟩ := hv
  have hS : va_S (fun _ => False) s.heap s.heap [] := va_S.rf
  have hx := B.exec
  have hb := B.bytes
  have hr := B.returns
  have hts := atoms_spec (ws := wsX2_sum) B.pre
  have hown : s.vm.findClass RX2 = some m.cls := findClass_of_methodNamed B.named
  have hlocks := B.notSynchronized
  have hl := lv_entry ([.ref am, .int x1, .int x2, .double x3]) (n := 8) (Nat.le_of_ble_eq_true rfl)
  rw [lg_entry_eq]
  generalize (lg_sl ([.ref am, .int x1, .int x2, .double x3]) ++ List.replicate (8 - (lg_sl ([.ref am, .int x1, .int x2, .double x3])).length) Slot.unset).toArray = ls at hl ⊢
  have hl : lv_has ls 8 [(0, .ref am), (1, .int x1), (2, .int x2), (3, .double x3)] := hl
  have hin2 : ∀ w ∈ u_ws RX2 TX2 13, w ∈ wsX2_sum := by decide +kernel
  refine W.gen (fun QQ hQQ => ?_)

  have hloop9 : ∀ (n : Nat) (i : Nat), k + 1 ≤ i + n → i ≤ k → ∀ (ls : Array Slot), lv_has ls 8 [(0, .ref am), (1, .int x1), (2, .int x2), (3, .double x3), (5, .double (SUMP pw fa sa va x2 x3 i)), (7, .int (nI (12 * (Int32.toNatClampNeg x1) + i)))] → W p l e (headSpec wsX2_sum ({ frames := 3, cells := 0, slots := 0, locals := 82 })).room s m ([.ref am, .int x1, .int x2, .double x3] : List Value).toArray below meth c s.heap [] (0) (0) QQ (F0 m 9 ls []) := by
    intro n
    induction n with
    | zero =>
      intro i hf hi
      exact absurd hf (by omega)
    | succ n ih =>
      intro i hf hi ls hl
      have hb4 := (bN_all hb1 hb2).1
      have hk12 := hT.1
      refine lv_iload hx hb dX2_sum_9 (lv_at hl 5 rfl) ?_
      refine lv_bipush (v := 12) hx hb dX2_sum_11 (by decide) ?_
      refine lv_iload_n hx hb dX2_sum_13 rfl (lv_at hl 1 rfl) ?_
      refine lv_imul hx hb dX2_sum_14 ?_
      rw [ix12 hb1 hb2]
      refine lv_aload_n hx hb dX2_sum_15 rfl (lv_at hl 0 rfl) ?_
      refine va_get (D := (dC, dI)) (ci := 2) (v := .ref gt) (C := RX2) (T := TX2) (N := 13) hx hb hts hin2 hown hK hP 0 rfl rfl 5 (by decide) (hts (.fieldLink RX2 17 "SkyAlmanacModel" "terms" "[I") (by decide +kernel)) (fun _ h9 => h9) rfl dX2_sum_16 ?_
      refine lv_iload_n hx hb dX2_sum_19 rfl (lv_at hl 1 rfl) ?_
      refine va_iald hx hb hK hP 1 0 rfl rfl (gt_in hb1 hb2) dX2_sum_20 ?_
      rw [hR.2.1]
      refine lv_iadd hx hb dX2_sum_21 ?_
      rw [nI_add]
      refine lv_icmp_ge (tgt := 85) hx hb dX2_sum_22 (by decide) (fun c_1 => ?_) (fun c_1 => ?_)
      · refine lv_dload hx hb dX2_sum_85 (lv_at hl 4 rfl) ?_
        subst hQQ
        exact W.dret hx hb hr (fun t ht _ => ⟨_, rfl, (by rw [sm_eq c_1 hi hT.1 (bN_all hb1 hb2).1]), ht⟩) (fun _ h => nomatch h) dX2_sum_87
      · have hik : i < k := by
          rcases Nat.lt_or_ge i k with h9 | h9
          · exact h9
          · exact absurd (nI_le (show 12 * (Int32.toNatClampNeg x1) + k ≤ 12 * (Int32.toNatClampNeg x1) + i by omega) (by omega)) c_1
        have hj := hT.2 i hik
        have hi12 : i < 12 := by omega
        refine lv_aload_n hx hb dX2_sum_25 rfl (lv_at hl 0 rfl) ?_
        refine va_get (D := (dC, dI)) (ci := 2) (v := .ref gp) (C := RX2) (T := TX2) (N := 13) hx hb hts hin2 hown hK hP 0 rfl rfl 6 (by decide) (hts (.fieldLink RX2 21 "SkyAlmanacModel" "powers" "[I") (by decide +kernel)) (fun _ h9 => h9) rfl dX2_sum_26 ?_
        refine lv_iload hx hb dX2_sum_29 (lv_at hl 5 rfl) ?_
        refine va_iald hx hb hK hP 2 0 rfl rfl (vp_in_nI (show (12 * (Int32.toNatClampNeg x1) + i) < 48 by omega) (by decide)) dX2_sum_31 ?_
        rw [nI_clamp (show (12 * (Int32.toNatClampNeg x1) + i) < 2 ^ 31 by omega)]
        rw [(hR.2.2 i hi12).1]
        refine lv_iload_n hx hb dX2_sum_32 rfl (lv_at hl 2 rfl) ?_
        refine lv_icmp_ne (tgt := 79) hx hb dX2_sum_33 (by decide) (fun c_2 => ?_) (fun c_2 => ?_)
        · have hl : lv_has ls 8 [(0, .ref am), (1, .int x1), (2, .int x2), (3, .double x3), (5, .double (SUMP pw fa sa va x2 x3 (i + 1))), (7, .int (nI (12 * (Int32.toNatClampNeg x1) + i)))] := by
            unfold SUMP; rw [if_neg c_2]; exact hl
          refine lv_iinc (v := nI (12 * (Int32.toNatClampNeg x1) + i + 1)) (lv' := [(7, .int (nI (12 * (Int32.toNatClampNeg x1) + i + 1))), (0, .ref am), (1, .int x1), (2, .int x2), (3, .double x3), (5, .double (SUMP pw fa sa va x2 x3 (i + 1)))]) hx hb dX2_sum_79 hl (k := 5) rfl (nI_1 _) (by decide) rfl (fun ls hl => ?_)
          refine lv_goto (tgt := 9) hx hb dX2_sum_82 (by decide) ?_
          exact ih (i + 1) (by omega) (by omega) _ (lv_sub hl [1, 2, 3, 4, 5, 0] rfl)
        · refine lv_dload hx hb dX2_sum_36 (lv_at hl 4 rfl) ?_
          refine lv_aload_n hx hb dX2_sum_38 rfl (lv_at hl 0 rfl) ?_
          refine va_get (D := (dC, dI)) (ci := 2) (v := .ref gw) (C := RX2) (T := TX2) (N := 13) hx hb hts hin2 hown hK hP 0 rfl rfl 7 (by decide) (hts (.fieldLink RX2 24 "SkyAlmanacModel" "waves" "[D") (by decide +kernel)) (fun _ h9 => h9) rfl dX2_sum_39 ?_
          refine lv_iconst (v := 3) hx hb dX2_sum_42 (by decide) ?_
          refine lv_iload hx hb dX2_sum_43 (lv_at hl 5 rfl) ?_
          refine lv_imul hx hb dX2_sum_45 ?_
          rw [ix3]
          refine va_dald hx hb hK hP 3 1 rfl rfl (vp_in_nI (show (3 * (12 * (Int32.toNatClampNeg x1) + i)) < 144 by omega) (by decide)) dX2_sum_46 ?_
          rw [nI_clamp (show (3 * (12 * (Int32.toNatClampNeg x1) + i)) < 2 ^ 31 by omega)]
          rw [(hR.2.2 i hi12).2.1]
          refine lv_aload_n hx hb dX2_sum_47 rfl (lv_at hl 0 rfl) ?_
          refine va_get (D := (dC, dI)) (ci := 2) (v := .ref gw) (C := RX2) (T := TX2) (N := 13) hx hb hts hin2 hown hK hP 0 rfl rfl 7 (by decide) (hts (.fieldLink RX2 24 "SkyAlmanacModel" "waves" "[D") (by decide +kernel)) (fun _ h9 => h9) rfl dX2_sum_48 ?_
          refine lv_iconst (v := 3) hx hb dX2_sum_51 (by decide) ?_
          refine lv_iload hx hb dX2_sum_52 (lv_at hl 5 rfl) ?_
          refine lv_imul hx hb dX2_sum_54 ?_
          rw [ix3]
          refine lv_iconst (v := 1) hx hb dX2_sum_55 (by decide) ?_
          refine lv_iadd hx hb dX2_sum_56 ?_
          rw [nI_1]
          refine va_dald hx hb hK hP 3 1 rfl rfl (vp_in_nI (show (3 * (12 * (Int32.toNatClampNeg x1) + i) + 1) < 144 by omega) (by decide)) dX2_sum_57 ?_
          rw [nI_clamp (show (3 * (12 * (Int32.toNatClampNeg x1) + i) + 1) < 2 ^ 31 by omega)]
          rw [(hR.2.2 i hi12).2.2.1]
          refine lv_aload_n hx hb dX2_sum_58 rfl (lv_at hl 0 rfl) ?_
          refine va_get (D := (dC, dI)) (ci := 2) (v := .ref gw) (C := RX2) (T := TX2) (N := 13) hx hb hts hin2 hown hK hP 0 rfl rfl 7 (by decide) (hts (.fieldLink RX2 24 "SkyAlmanacModel" "waves" "[D") (by decide +kernel)) (fun _ h9 => h9) rfl dX2_sum_59 ?_
          refine lv_iconst (v := 3) hx hb dX2_sum_62 (by decide) ?_
          refine lv_iload hx hb dX2_sum_63 (lv_at hl 5 rfl) ?_
          refine lv_imul hx hb dX2_sum_65 ?_
          rw [ix3]
          refine lv_iconst (v := 2) hx hb dX2_sum_66 (by decide) ?_
          refine lv_iadd hx hb dX2_sum_67 ?_
          rw [nI_2]
          refine va_dald hx hb hK hP 3 1 rfl rfl (vp_in_nI (show (3 * (12 * (Int32.toNatClampNeg x1) + i) + 2) < 144 by omega) (by decide)) dX2_sum_68 ?_
          rw [nI_clamp (show (3 * (12 * (Int32.toNatClampNeg x1) + i) + 2) < 2 ^ 31 by omega)]
          rw [(hR.2.2 i hi12).2.2.2]
          refine lv_dload_n hx hb dX2_sum_69 rfl (lv_at hl 3 rfl) ?_
          have r_3 := fR_mul hj.2.2 h0 (-225179981368524800) 225179981368524800 (by decide) (by decide) rfl rfl
          refine lv_dmul hx hb dX2_sum_70 (fR_nn r_3) ?_
          have r_4 := fR_add hj.2.1 r_3 (-225180367915581440) 225180367915581440 (by decide) (by decide) rfl rfl
          refine lv_dadd hx hb dX2_sum_71 (fR_nn r_4) ?_
          refine vp_callSd (W.runS (As := [.double (FP.dadd (sa i) (FP.dmul (va i) x3))]) (rest := [.double (fa i), .double (SUMP pw fa sa va x2 x3 i)]) ⟨hx, hb, hml, hown, hts⟩ (k_X2_cosine l (FP.dadd (sa i) (FP.dmul (va i) x3)) (fR_mono r_4 (by decide) (by decide))) (va_cwS 1 hts gX2_sum_X2_cosine rfl rfl rfl (by decide +kernel) ⟨Nat.le_of_ble_eq_true rfl, Nat.le_of_ble_eq_true rfl⟩) preEq rfl rfl hl.1 rfl (lv_room (Nat.le_of_ble_eq_true rfl)) dX2_sum_72 ⟨Nat.zero_le _, Nat.zero_le _⟩) (fun r hr9 => ?_)
          obtain rfl := hr9
          have r_5 := COS_R (fR_mono r_4 (by decide) (by decide))
          have r_6 := fR_mul hj.1 r_5 (-10737418240) 10737418240 (by decide) (by decide) rfl rfl
          refine lv_dmul hx hb dX2_sum_75 (fR_nn r_6) ?_
          refine lv_dadd hx hb dX2_sum_76 (fR_nn (fR_add (SUMP_R h0 hT i hi) r_6 _ _ (Int.le_refl _) (Int.le_refl _) (fRb_s (by omega)) (fRb_s (by omega)))) ?_
          refine lv_dstore (lv' := [(5, .double (FP.dadd (SUMP pw fa sa va x2 x3 i) (FP.dmul (fa i) (COS (FP.dadd (sa i) (FP.dmul (va i) x3)))))), (0, .ref am), (1, .int x1), (2, .int x2), (3, .double x3), (7, .int (nI (12 * (Int32.toNatClampNeg x1) + i)))]) hx hb dX2_sum_77 hl (by decide) rfl (fun ls hl => ?_)
          have hl : lv_has ls 8 [(5, .double (SUMP pw fa sa va x2 x3 (i + 1))), (0, .ref am), (1, .int x1), (2, .int x2), (3, .double x3), (7, .int (nI (12 * (Int32.toNatClampNeg x1) + i)))] := by
            unfold SUMP; rw [if_pos c_2]; exact hl
          refine lv_iinc (v := nI (12 * (Int32.toNatClampNeg x1) + i + 1)) (lv' := [(7, .int (nI (12 * (Int32.toNatClampNeg x1) + i + 1))), (5, .double (SUMP pw fa sa va x2 x3 (i + 1))), (0, .ref am), (1, .int x1), (2, .int x2), (3, .double x3)]) hx hb dX2_sum_79 hl (k := 5) rfl (nI_1 _) (by decide) rfl (fun ls hl => ?_)
          refine lv_goto (tgt := 9) hx hb dX2_sum_82 (by decide) ?_
          exact ih (i + 1) (by omega) (by omega) _ (lv_sub hl [2, 3, 4, 5, 1, 0] rfl)
  refine lv_dconst0 hx hb dX2_sum_0 ?_
  have r_7 : fR FP.dconst0 0 0 := fR_lit (by decide +kernel)
  refine lv_dstore (lv' := [(5, .double FP.dconst0), (0, .ref am), (1, .int x1), (2, .int x2), (3, .double x3)]) hx hb dX2_sum_1 hl (by decide) rfl (fun ls hl => ?_)
  refine lv_bipush (v := 12) hx hb dX2_sum_3 (by decide) ?_
  refine lv_iload_n hx hb dX2_sum_5 rfl (lv_at hl 2 rfl) ?_
  refine lv_imul hx hb dX2_sum_6 ?_
  rw [ix12 hb1 hb2]
  refine lv_istore (lv' := [(7, .int (nI (12 * (Int32.toNatClampNeg x1) + 0))), (5, .double FP.dconst0), (0, .ref am), (1, .int x1), (2, .int x2), (3, .double x3)]) hx hb dX2_sum_7 hl (by decide) rfl (fun ls hl => ?_)
  exact hloop9 (k + 1) 0 (by omega) (by omega) _ (lv_sub hl [2, 3, 4, 5, 1, 0] rfl)
