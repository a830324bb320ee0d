theorem es_num {x : Int32} (h1 : ¬ x < 1583) (h2 : x ≤ 9999) : ((((x / 100 - x / 100 / 4) - (8 * (x / 100) + 13) / 25) + 19 * (x - x / 19 * 19)) + 15).toInt = x.toInt / 100 - x.toInt / 100 / 4 - (8 * (x.toInt / 100) + 13) / 25 + 19 * (x.toInt % 19) + 15 ∧ 0 ≤ x.toInt / 100 - x.toInt / 100 / 4 - (8 * (x.toInt / 100) + 13) / 25 + 19 * (x.toInt % 19) + 15 ∧ (1583 ≤ x.toInt ∧ x.toInt ≤ 9999) := by
  rw [Int32.lt_iff_toInt_lt] at h1
  rw [Int32.le_iff_toInt_le] at h2
  have e1 : (1583 : Int32).toInt = 1583 := rfl
  have e2 : (9999 : Int32).toInt = 9999 := rfl
  have e100 : (100 : Int32).toInt = 100 := rfl
  have e4 : (4 : Int32).toInt = 4 := rfl
  have e8 : (8 : Int32).toInt = 8 := rfl
  have e13 : (13 : Int32).toInt = 13 := rfl
  have e25 : (25 : Int32).toInt = 25 := rfl
  have e19 : (19 : Int32).toInt = 19 := rfl
  have e15 : (15 : Int32).toInt = 15 := rfl
  rw [e1] at h1
  rw [e2] at h2
  have hx : 1583 ≤ x.toInt ∧ x.toInt ≤ 9999 := by omega
  have c1 : (x / 100).toInt = x.toInt / 100 := by rw [d32 (by decide), e100, (tdiv_spec _ 100 (by decide)).1 (by omega)]
  have c2 : (x / 100 / 4).toInt = x.toInt / 100 / 4 := by rw [d32 (by decide), c1, e4, (tdiv_spec _ 4 (by decide)).1 (by omega)]
  have c3 : (8 * (x / 100)).toInt = 8 * (x.toInt / 100) := by rw [m32 (by rw [c1, e8]; omega) (by rw [c1, e8]; omega), c1, e8]
  have c4 : (8 * (x / 100) + 13).toInt = 8 * (x.toInt / 100) + 13 := by rw [a32 (by rw [c3, e13]; omega) (by rw [c3, e13]; omega), c3, e13]
  have c5 : ((8 * (x / 100) + 13) / 25).toInt = (8 * (x.toInt / 100) + 13) / 25 := by rw [d32 (by decide), c4, e25, (tdiv_spec _ 25 (by decide)).1 (by omega)]
  have c6 : (x - x / 19 * 19).toInt = x.toInt % 19 := by rw [rem32 (by decide), e19, Int.tmod_eq_emod_of_nonneg (by omega)]
  have c7 : (19 * (x - x / 19 * 19)).toInt = 19 * (x.toInt % 19) := by rw [m32 (by rw [c6, e19]; omega) (by rw [c6, e19]; omega), c6, e19]
  have c8 : (x / 100 - x / 100 / 4).toInt = x.toInt / 100 - x.toInt / 100 / 4 := by rw [s32 (by rw [c1, c2]; omega) (by rw [c1, c2]; omega), c1, c2]
  have c9 : (x / 100 - x / 100 / 4 - (8 * (x / 100) + 13) / 25).toInt = x.toInt / 100 - x.toInt / 100 / 4 - (8 * (x.toInt / 100) + 13) / 25 := by rw [s32 (by rw [c8, c5]; omega) (by rw [c8, c5]; omega), c8, c5]
  have c10 : (x / 100 - x / 100 / 4 - (8 * (x / 100) + 13) / 25 + 19 * (x - x / 19 * 19)).toInt = x.toInt / 100 - x.toInt / 100 / 4 - (8 * (x.toInt / 100) + 13) / 25 + 19 * (x.toInt % 19) := by rw [a32 (by rw [c9, c7]; omega) (by rw [c9, c7]; omega), c9, c7]
  refine ⟨?_, by omega, hx⟩
  rw [a32 (by rw [c10, e15]; omega) (by rw [c10, e15]; omega), c10, e15]
abbrev esH (x : Int32) : Int32 := ((((x / 100 - x / 100 / 4) - (8 * (x / 100) + 13) / 25) + 19 * (x - x / 19 * 19)) + 15)
theorem es_h {x : Int32} (h1 : ¬ x < 1583) (h2 : x ≤ 9999) : (esH x - esH x / 30 * 30).toInt = (esH x).toInt % 30 := by
  obtain ⟨e, p, -⟩ := es_num h1 h2
  rw [rem32 (by decide), Int.tmod_eq_emod_of_nonneg (by rw [e]; exact p)]; rfl
theorem es_ne2 {x : Int32} (h1 : ¬ x < 1583) (h2 : x ≤ 9999) : ¬ (esH x - esH x / 30 * 30) + 1 = 0 := by
  have h := es_h h1 h2
  intro h3
  have e1 : (1 : Int32).toInt = 1 := rfl
  have h4 : (esH x - esH x / 30 * 30 + 1).toInt = (esH x - esH x / 30 * 30).toInt + 1 := a32 (by rw [h, e1]; omega) (by rw [h, e1]; omega)
  rw [h3, h] at h4
  have e0 : (0 : Int32).toInt = 0 := rfl
  rw [e0] at h4
  omega
def f_X2_easter  (x1 : Int32) : Int64 × Int32 := if x1 < 1583 then ((Int32.toInt64 0, 1)) else (if x1 ≤ 9999 then ((((f_X2_number 1 x1 3 28) + (Int32.toInt64 ((esH x1 - esH x1 / 30 * 30) - (((esH x1 - esH x1 / 30 * 30) / 28) * (1 - ((((esH x1 - esH x1 / 30 * 30) / 28) * (29 / ((esH x1 - esH x1 / 30 * 30) + 1))) * ((21 - (x1 - x1 / 19 * 19)) / 11))))))) - (Int32.toInt64 ((((((x1 + (x1 / 4)) + ((esH x1 - esH x1 / 30 * 30) - (((esH x1 - esH x1 / 30 * 30) / 28) * (1 - ((((esH x1 - esH x1 / 30 * 30) / 28) * (29 / ((esH x1 - esH x1 / 30 * 30) + 1))) * ((21 - (x1 - x1 / 19 * 19)) / 11)))))) + 2) - (x1 / 100)) + ((x1 / 100) / 4)) - (((((x1 + (x1 / 4)) + ((esH x1 - esH x1 / 30 * 30) - (((esH x1 - esH x1 / 30 * 30) / 28) * (1 - ((((esH x1 - esH x1 / 30 * 30) / 28) * (29 / ((esH x1 - esH x1 / 30 * 30) + 1))) * ((21 - (x1 - x1 / 19 * 19)) / 11)))))) + 2) - (x1 / 100)) + ((x1 / 100) / 4)) / 7 * 7)), 0)) else ((Int32.toInt64 0, 1)))
set_option maxHeartbeats 4000000 in
set_option maxRecDepth 100000 in
theorem k_X2_easter (l : Launch) (hst : l.stackTraces = false) (dC : Nat → ClassId) (dI : Nat → Nat → Nat) (cA : Nat → ClassId) (tm tt sz : Nat) (am gs go gt gp gw gl : Nat) (th wo fu : Int32) (la ea : UInt64) (ln fd : Int32) (x1 : Int32)  : Met l yX2_easter wsX2_easter ({ frames := 5, cells := 0, slots := 0, locals := 118 }) (PcW dC dI cA tm tt sz [.ref am, .int x1] [(am, .inr (2, [.int th, .int wo, .int fu, .ref gs, .ref go, .ref gt, .ref gp, .ref gw, .double la, .double ea, .ref gl, .int ln, .int fd]))]) (va_Ql (fun r (_ : Unit) => (f_X2_easter  x1).1 = r) (fun _ t => WB dC dI (va_A [(am, .inr (2, [.int th, .int wo, .int fu, .ref gs, .ref go, .ref gt, .ref gp, .ref gw, .double la, .double ea, .ref gl, .int ln, .int fd]))] sz) [(am, .inr (2, [.int ((f_X2_easter  x1).2), .int wo, .int fu, .ref gs, .ref go, .ref gt, .ref gp, .ref gw, .double la, .double ea, .ref gl, .int ln, .int fd]))] t) (va_A [(am, .inr (2, [.int th, .int wo, .int fu, .ref gs, .ref go, .ref gt, .ref gp, .ref gw, .double la, .double ea, .ref gl, .int ln, .int fd]))] sz)) 0 0 (va_A [(am, .inr (2, [.int th, .int wo, .int fu, .ref gs, .ref go, .ref gt, .ref gp, .ref gw, .double la, .double ea, .ref gl, .int ln, .int fd]))] sz) := by
  refine Met.ofW (cc := cX2_easter) (maxL := 7) (ret := (some .long)) (by decide) rfl ?_
  intro p e s m args below meth c s₁ B hml hv
  obtain ⟨rfl, hsz, hP, hK, hD0, hE⟩ := hv
  subst hsz
  have hD := hD0.self (sz := s.heap.size)
  generalize hAe : va_A [(am, .inr (2, [.int th, .int wo, .int fu, .ref gs, .ref go, .ref gt, .ref gp, .ref gw, .double la, .double ea, .ref gl, .int ln, .int fd]))] s.heap.size = A at hD hE ⊢
  have hA : ∀ q : Nat, s.heap.size ≤ q → A q := fun q h => by rw [← hAe]; exact Or.inr h
  have hS : va_S A s.heap s.heap [] := va_S.rf
  have hP : va_P (dC, dI) vwCl [(am, .inr (2, [.int th, .int wo, .int fu, .ref gs, .ref go, .ref gt, .ref gp, .ref gw, .double la, .double ea, .ref gl, .int ln, .int fd]))] s.heap := hP
  have hx := B.exec
  have hb := B.bytes
  have hr := B.returns
  have hts := atoms_spec (ws := wsX2_easter) B.pre
  have hown : s.vm.findClass RX2 = some m.cls := findClass_of_methodNamed B.named
  have hlocks := B.notSynchronized
  have hl := lv_entry ([.ref am, .int x1]) (n := 7) (Nat.le_of_ble_eq_true rfl)
  rw [lg_entry_eq]
  generalize (lg_sl ([.ref am, .int x1]) ++ List.replicate (7 - (lg_sl ([.ref am, .int x1])).length) Slot.unset).toArray = ls at hl ⊢
  have hl : lv_has ls 7 [(0, .ref am), (1, .int x1)] := hl
  have hin2 : ∀ w ∈ u_ws RX2 TX2 13, w ∈ wsX2_easter := by decide +kernel
  refine lv_aload_n hx hb dX2_easter_0 rfl (lv_at hl 0 rfl) ?_
  refine lv_iconst (v := 0) hx hb dX2_easter_1 (by decide) ?_
  refine va_put (D := (dC, dI)) (ci := 2) (v := .int 0) (ty := .int) (C := RX2) (T := TX2) (N := 13) hx hb hts hin2 tyX2 tyX2_ok nmX2 hown hK hP hD hS 0 rfl rfl 0 (by decide) (hts (.fieldLink RX2 30 "SkyAlmanacModel" "thrown" "I") (by decide +kernel)) (fun _ h9 => h9) rfl (by decide +kernel) rfl rfl (Nat.le_of_ble_eq_true rfl) dX2_easter_2 (fun H locs hP hD hS => ?_)
  have hP : va_P (dC, dI) vwCl [(am, .inr (2, [.int 0, .int wo, .int fu, .ref gs, .ref go, .ref gt, .ref gp, .ref gw, .double la, .double ea, .ref gl, .int ln, .int fd]))] H := hP
  have hD : va_D A [(am, .inr (2, [.int 0, .int wo, .int fu, .ref gs, .ref go, .ref gt, .ref gp, .ref gw, .double la, .double ea, .ref gl, .int ln, .int fd]))] := hD
  refine lv_iload_n hx hb dX2_easter_5 rfl (lv_at hl 1 rfl) ?_
  refine lv_sipush (v := 1583) hx hb dX2_easter_6 (by decide) ?_
  refine lv_icmp_lt (tgt := 19) hx hb dX2_easter_9 (by decide) (fun c_1 => ?_) (fun c_1 => ?_)
  · refine lv_aload_n hx hb dX2_easter_19 rfl (lv_at hl 0 rfl) ?_
    refine lv_iconst (v := 1) hx hb dX2_easter_20 (by decide) ?_
    have hPc := hP.sub (ws' := [(am, .inr (2, [.int 0, .int wo, .int fu, .ref gs, .ref go, .ref gt, .ref gp, .ref gw, .double la, .double ea, .ref gl, .int ln, .int fd]))]) [0] rfl
    have hDc := hD.sub (ws' := [(am, .inr (2, [.int 0, .int wo, .int fu, .ref gs, .ref go, .ref gt, .ref gp, .ref gw, .double la, .double ea, .ref gl, .int ln, .int fd]))]) [0] (by decide) rfl
    have hFc := va_free (wc := [(am, .inr (2, [.int 0, .int wo, .int fu, .ref gs, .ref go, .ref gt, .ref gp, .ref gw, .double la, .double ea, .ref gl, .int ln, .int fd]))]) hD hS hA [0] rfl
    refine va_calli (va_runV (As := [.int 1]) (rest := []) ⟨hx, hb, hml, hown, hts⟩ (k_X2_fail l hst dC dI cA tm tt _ am gs go gt gp gw gl 0 wo fu la ea ln fd 1) (cwV 1 hts gX2_easter_X2_fail rfl rfl rfl (by decide +kernel) ⟨Nat.le_of_ble_eq_true rfl, Nat.le_of_ble_eq_true rfl⟩) ⟨PcW.blind, va_recv hK hPc (ci := 2) (q0 := 0) rfl rfl, PcW.give hPc hK hDc hE hS hFc⟩ rfl rfl hl.1 rfl (lv_room (Nat.le_of_ble_eq_true rfl)) dX2_easter_21 ⟨Nat.le_of_ble_eq_true rfl, Nat.le_of_ble_eq_true rfl⟩) hS (fun q _ h => hFc q h) hFc (fun v_2 u t H locs ht hvm hp_3 hB hz1 hk1 hS => ?_)
    obtain ⟨hP1, hD1⟩ := hB
    rw [ht] at hP1
    obtain ⟨hP, hD⟩ := va_join (wr := []) (w1 := [(am, .inr (2, [.int 1, .int wo, .int fu, .ref gs, .ref go, .ref gt, .ref gp, .ref gw, .double la, .double ea, .ref gl, .int ln, .int fd]))]) hP hD [0] [] rfl rfl (by decide) (by decide) hk1 hFc hP1 hD1
    have hP := hP.sub (ws' := [(am, .inr (2, [.int 1, .int wo, .int fu, .ref gs, .ref go, .ref gt, .ref gp, .ref gw, .double la, .double ea, .ref gl, .int ln, .int fd]))]) [0] rfl
    have hD := hD.sub (ws' := [(am, .inr (2, [.int 1, .int wo, .int fu, .ref gs, .ref go, .ref gt, .ref gp, .ref gw, .double la, .double ea, .ref gl, .int ln, .int fd]))]) [0] (by decide) rfl
    obtain rfl := hp_3
    refine lv_i2l hx hb dX2_easter_24 rfl ?_
    have e0 : f_X2_easter  x1 = (Int32.toInt64 0, 1) := by unfold f_X2_easter; rw [if_pos c_1]
    have e1 : (f_X2_easter  x1).2 = 1 := by rw [e0]
    have hP : va_P (dC, dI) vwCl [(am, .inr (2, [.int ((f_X2_easter  x1).2), .int wo, .int fu, .ref gs, .ref go, .ref gt, .ref gp, .ref gw, .double la, .double ea, .ref gl, .int ln, .int fd]))] H := by rw [e1]; exact hP
    have hD : va_D A [(am, .inr (2, [.int ((f_X2_easter  x1).2), .int wo, .int fu, .ref gs, .ref go, .ref gt, .ref gp, .ref gw, .double la, .double ea, .ref gl, .int ln, .int fd]))] := by rw [e1]; exact hD
    exact W.lret hx hb hr (fun t ht hW => ⟨⟨_, (), rfl, (congrArg Prod.fst e0), ⟨by rw [ht]; exact hP, hD⟩⟩, hS.F ht⟩) hS.2.2 dX2_easter_25
  · refine lv_iload_n hx hb dX2_easter_12 rfl (lv_at hl 1 rfl) ?_
    refine lv_sipush (v := 9999) hx hb dX2_easter_13 (by decide) ?_
    refine lv_icmp_le (tgt := 26) hx hb dX2_easter_16 (by decide) (fun c_4 => ?_) (fun c_4 => ?_)
    · refine lv_iload_n hx hb dX2_easter_26 rfl (lv_at hl 1 rfl) ?_
      refine lv_bipush (v := 19) hx hb dX2_easter_27 (by decide) ?_
      refine lv_irem hx hb dX2_easter_29 (by decide) ?_
      refine lv_istore_n (lv' := [(2, .int (x1 - x1 / 19 * 19)), (0, .ref am), (1, .int x1)]) hx hb dX2_easter_30 rfl hl (by decide) rfl (fun ls hl => ?_)
      refine lv_iload_n hx hb dX2_easter_31 rfl (lv_at hl 2 rfl) ?_
      refine lv_bipush (v := 100) hx hb dX2_easter_32 (by decide) ?_
      refine lv_idiv hx hb dX2_easter_34 (by decide) ?_
      refine lv_istore_n (lv' := [(3, .int (x1 / 100)), (2, .int (x1 - x1 / 19 * 19)), (0, .ref am), (1, .int x1)]) hx hb dX2_easter_35 rfl hl (by decide) rfl (fun ls hl => ?_)
      refine lv_iload_n hx hb dX2_easter_36 rfl (lv_at hl 0 rfl) ?_
      refine lv_iload_n hx hb dX2_easter_37 rfl (lv_at hl 0 rfl) ?_
      refine lv_iconst (v := 4) hx hb dX2_easter_38 (by decide) ?_
      refine lv_idiv hx hb dX2_easter_39 (by decide) ?_
      refine lv_isub hx hb dX2_easter_40 ?_
      refine lv_bipush (v := 8) hx hb dX2_easter_41 (by decide) ?_
      refine lv_iload_n hx hb dX2_easter_43 rfl (lv_at hl 0 rfl) ?_
      refine lv_imul hx hb dX2_easter_44 ?_
      refine lv_bipush (v := 13) hx hb dX2_easter_45 (by decide) ?_
      refine lv_iadd hx hb dX2_easter_47 ?_
      refine lv_bipush (v := 25) hx hb dX2_easter_48 (by decide) ?_
      refine lv_idiv hx hb dX2_easter_50 (by decide) ?_
      refine lv_isub hx hb dX2_easter_51 ?_
      refine lv_bipush (v := 19) hx hb dX2_easter_52 (by decide) ?_
      refine lv_iload_n hx hb dX2_easter_54 rfl (lv_at hl 1 rfl) ?_
      refine lv_imul hx hb dX2_easter_55 ?_
      refine lv_iadd hx hb dX2_easter_56 ?_
      refine lv_bipush (v := 15) hx hb dX2_easter_57 (by decide) ?_
      refine lv_iadd hx hb dX2_easter_59 ?_
      refine lv_bipush (v := 30) hx hb dX2_easter_60 (by decide) ?_
      refine lv_irem hx hb dX2_easter_62 (by decide) ?_
      refine lv_istore (lv' := [(4, .int (esH x1 - esH x1 / 30 * 30)), (3, .int (x1 / 100)), (2, .int (x1 - x1 / 19 * 19)), (0, .ref am), (1, .int x1)]) hx hb dX2_easter_63 hl (by decide) rfl (fun ls hl => ?_)
      refine lv_iload hx hb dX2_easter_65 (lv_at hl 0 rfl) ?_
      refine lv_iload hx hb dX2_easter_67 (lv_at hl 0 rfl) ?_
      refine lv_bipush (v := 28) hx hb dX2_easter_69 (by decide) ?_
      refine lv_idiv hx hb dX2_easter_71 (by decide) ?_
      refine lv_iconst (v := 1) hx hb dX2_easter_72 (by decide) ?_
      refine lv_iload hx hb dX2_easter_73 (lv_at hl 0 rfl) ?_
      refine lv_bipush (v := 28) hx hb dX2_easter_75 (by decide) ?_
      refine lv_idiv hx hb dX2_easter_77 (by decide) ?_
      refine lv_bipush (v := 29) hx hb dX2_easter_78 (by decide) ?_
      refine lv_iload hx hb dX2_easter_80 (lv_at hl 0 rfl) ?_
      refine lv_iconst (v := 1) hx hb dX2_easter_82 (by decide) ?_
      refine lv_iadd hx hb dX2_easter_83 ?_
      refine lv_idiv hx hb dX2_easter_84 (es_ne2 c_1 c_4) ?_
      refine lv_imul hx hb dX2_easter_85 ?_
      refine lv_bipush (v := 21) hx hb dX2_easter_86 (by decide) ?_
      refine lv_iload_n hx hb dX2_easter_88 rfl (lv_at hl 2 rfl) ?_
      refine lv_isub hx hb dX2_easter_89 ?_
      refine lv_bipush (v := 11) hx hb dX2_easter_90 (by decide) ?_
      refine lv_idiv hx hb dX2_easter_92 (by decide) ?_
      refine lv_imul hx hb dX2_easter_93 ?_
      refine lv_isub hx hb dX2_easter_94 ?_
      refine lv_imul hx hb dX2_easter_95 ?_
      refine lv_isub hx hb dX2_easter_96 ?_
      refine lv_istore (lv' := [(5, .int ((esH x1 - esH x1 / 30 * 30) - (((esH x1 - esH x1 / 30 * 30) / 28) * (1 - ((((esH x1 - esH x1 / 30 * 30) / 28) * (29 / ((esH x1 - esH x1 / 30 * 30) + 1))) * ((21 - (x1 - x1 / 19 * 19)) / 11)))))), (4, .int (esH x1 - esH x1 / 30 * 30)), (3, .int (x1 / 100)), (2, .int (x1 - x1 / 19 * 19)), (0, .ref am), (1, .int x1)]) hx hb dX2_easter_97 hl (by decide) rfl (fun ls hl => ?_)
      refine lv_iload_n hx hb dX2_easter_99 rfl (lv_at hl 5 rfl) ?_
      refine lv_iload_n hx hb dX2_easter_100 rfl (lv_at hl 5 rfl) ?_
      refine lv_iconst (v := 4) hx hb dX2_easter_101 (by decide) ?_
      refine lv_idiv hx hb dX2_easter_102 (by decide) ?_
      refine lv_iadd hx hb dX2_easter_103 ?_
      refine lv_iload hx hb dX2_easter_104 (lv_at hl 0 rfl) ?_
      refine lv_iadd hx hb dX2_easter_106 ?_
      refine lv_iconst (v := 2) hx hb dX2_easter_107 (by decide) ?_
      refine lv_iadd hx hb dX2_easter_108 ?_
      refine lv_iload_n hx hb dX2_easter_109 rfl (lv_at hl 2 rfl) ?_
      refine lv_isub hx hb dX2_easter_110 ?_
      refine lv_iload_n hx hb dX2_easter_111 rfl (lv_at hl 2 rfl) ?_
      refine lv_iconst (v := 4) hx hb dX2_easter_112 (by decide) ?_
      refine lv_idiv hx hb dX2_easter_113 (by decide) ?_
      refine lv_iadd hx hb dX2_easter_114 ?_
      refine lv_bipush (v := 7) hx hb dX2_easter_115 (by decide) ?_
      refine lv_irem hx hb dX2_easter_117 (by decide) ?_
      refine lv_istore (lv' := [(6, .int ((((((x1 + (x1 / 4)) + ((esH x1 - esH x1 / 30 * 30) - (((esH x1 - esH x1 / 30 * 30) / 28) * (1 - ((((esH x1 - esH x1 / 30 * 30) / 28) * (29 / ((esH x1 - esH x1 / 30 * 30) + 1))) * ((21 - (x1 - x1 / 19 * 19)) / 11)))))) + 2) - (x1 / 100)) + ((x1 / 100) / 4)) - (((((x1 + (x1 / 4)) + ((esH x1 - esH x1 / 30 * 30) - (((esH x1 - esH x1 / 30 * 30) / 28) * (1 - ((((esH x1 - esH x1 / 30 * 30) / 28) * (29 / ((esH x1 - esH x1 / 30 * 30) + 1))) * ((21 - (x1 - x1 / 19 * 19)) / 11)))))) + 2) - (x1 / 100)) + ((x1 / 100) / 4)) / 7 * 7)), (5, .int ((esH x1 - esH x1 / 30 * 30) - (((esH x1 - esH x1 / 30 * 30) / 28) * (1 - ((((esH x1 - esH x1 / 30 * 30) / 28) * (29 / ((esH x1 - esH x1 / 30 * 30) + 1))) * ((21 - (x1 - x1 / 19 * 19)) / 11)))))), (4, .int (esH x1 - esH x1 / 30 * 30)), (3, .int (x1 / 100)), (2, .int (x1 - x1 / 19 * 19)), (0, .ref am), (1, .int x1)]) hx hb dX2_easter_118 hl (by decide) rfl (fun ls hl => ?_)
      refine lv_iconst (v := 1) hx hb dX2_easter_120 (by decide) ?_
      refine lv_iload_n hx hb dX2_easter_121 rfl (lv_at hl 6 rfl) ?_
      refine lv_iconst (v := 3) hx hb dX2_easter_122 (by decide) ?_
      refine lv_bipush (v := 28) hx hb dX2_easter_123 (by decide) ?_
      refine vp_callSl (W.runS (As := [.int 1, .int x1, .int 3, .int 28]) (rest := []) ⟨hx, hb, hml, hown, hts⟩ (k_X2_number l 1 x1 3 28 (by decide)) (va_cwS 4 hts gX2_easter_X2_number rfl rfl rfl (by decide +kernel) ⟨Nat.le_of_ble_eq_true rfl, Nat.le_of_ble_eq_true rfl⟩) preEq rfl rfl hl.1 rfl (lv_room (Nat.le_of_ble_eq_true rfl)) dX2_easter_125 ⟨Nat.le_of_ble_eq_true rfl, Nat.le_of_ble_eq_true rfl⟩) (fun r hr9 => ?_)
      obtain rfl := hr9
      refine lv_iload hx hb dX2_easter_128 (lv_at hl 1 rfl) ?_
      refine lv_i2l hx hb dX2_easter_130 rfl ?_
      refine lv_ladd hx hb dX2_easter_131 ?_
      refine lv_iload hx hb dX2_easter_132 (lv_at hl 0 rfl) ?_
      refine lv_i2l hx hb dX2_easter_134 rfl ?_
      refine lv_lsub hx hb dX2_easter_135 ?_
      have e0 : f_X2_easter  x1 = (((f_X2_number 1 x1 3 28) + (Int32.toInt64 ((esH x1 - esH x1 / 30 * 30) - (((esH x1 - esH x1 / 30 * 30) / 28) * (1 - ((((esH x1 - esH x1 / 30 * 30) / 28) * (29 / ((esH x1 - esH x1 / 30 * 30) + 1))) * ((21 - (x1 - x1 / 19 * 19)) / 11))))))) - (Int32.toInt64 ((((((x1 + (x1 / 4)) + ((esH x1 - esH x1 / 30 * 30) - (((esH x1 - esH x1 / 30 * 30) / 28) * (1 - ((((esH x1 - esH x1 / 30 * 30) / 28) * (29 / ((esH x1 - esH x1 / 30 * 30) + 1))) * ((21 - (x1 - x1 / 19 * 19)) / 11)))))) + 2) - (x1 / 100)) + ((x1 / 100) / 4)) - (((((x1 + (x1 / 4)) + ((esH x1 - esH x1 / 30 * 30) - (((esH x1 - esH x1 / 30 * 30) / 28) * (1 - ((((esH x1 - esH x1 / 30 * 30) / 28) * (29 / ((esH x1 - esH x1 / 30 * 30) + 1))) * ((21 - (x1 - x1 / 19 * 19)) / 11)))))) + 2) - (x1 / 100)) + ((x1 / 100) / 4)) / 7 * 7)), 0) := by unfold f_X2_easter; rw [if_neg c_1, if_pos c_4]
      have e1 : (f_X2_easter  x1).2 = 0 := by rw [e0]
      have hP : va_P (dC, dI) vwCl [(am, .inr (2, [.int ((f_X2_easter  x1).2), .int wo, .int fu, .ref gs, .ref go, .ref gt, .ref gp, .ref gw, .double la, .double ea, .ref gl, .int ln, .int fd]))] H := by rw [e1]; exact hP
      have hD : va_D A [(am, .inr (2, [.int ((f_X2_easter  x1).2), .int wo, .int fu, .ref gs, .ref go, .ref gt, .ref gp, .ref gw, .double la, .double ea, .ref gl, .int ln, .int fd]))] := by rw [e1]; exact hD
      exact W.lret hx hb hr (fun t ht hW => ⟨⟨_, (), rfl, (congrArg Prod.fst e0), ⟨by rw [ht]; exact hP, hD⟩⟩, hS.F ht⟩) hS.2.2 dX2_easter_136
    · refine lv_aload_n hx hb dX2_easter_19 rfl (lv_at hl 0 rfl) ?_
      refine lv_iconst (v := 1) hx hb dX2_easter_20 (by decide) ?_
      have hPc := hP.sub (ws' := [(am, .inr (2, [.int 0, .int wo, .int fu, .ref gs, .ref go, .ref gt, .ref gp, .ref gw, .double la, .double ea, .ref gl, .int ln, .int fd]))]) [0] rfl
      have hDc := hD.sub (ws' := [(am, .inr (2, [.int 0, .int wo, .int fu, .ref gs, .ref go, .ref gt, .ref gp, .ref gw, .double la, .double ea, .ref gl, .int ln, .int fd]))]) [0] (by decide) rfl
      have hFc := va_free (wc := [(am, .inr (2, [.int 0, .int wo, .int fu, .ref gs, .ref go, .ref gt, .ref gp, .ref gw, .double la, .double ea, .ref gl, .int ln, .int fd]))]) hD hS hA [0] rfl
      refine va_calli (va_runV (As := [.int 1]) (rest := []) ⟨hx, hb, hml, hown, hts⟩ (k_X2_fail l hst dC dI cA tm tt _ am gs go gt gp gw gl 0 wo fu la ea ln fd 1) (cwV 1 hts gX2_easter_X2_fail rfl rfl rfl (by decide +kernel) ⟨Nat.le_of_ble_eq_true rfl, Nat.le_of_ble_eq_true rfl⟩) ⟨PcW.blind, va_recv hK hPc (ci := 2) (q0 := 0) rfl rfl, PcW.give hPc hK hDc hE hS hFc⟩ rfl rfl hl.1 rfl (lv_room (Nat.le_of_ble_eq_true rfl)) dX2_easter_21 ⟨Nat.le_of_ble_eq_true rfl, Nat.le_of_ble_eq_true rfl⟩) hS (fun q _ h => hFc q h) hFc (fun v_5 u t H locs ht hvm hp_6 hB hz1 hk1 hS => ?_)
      obtain ⟨hP1, hD1⟩ := hB
      rw [ht] at hP1
      obtain ⟨hP, hD⟩ := va_join (wr := []) (w1 := [(am, .inr (2, [.int 1, .int wo, .int fu, .ref gs, .ref go, .ref gt, .ref gp, .ref gw, .double la, .double ea, .ref gl, .int ln, .int fd]))]) hP hD [0] [] rfl rfl (by decide) (by decide) hk1 hFc hP1 hD1
      have hP := hP.sub (ws' := [(am, .inr (2, [.int 1, .int wo, .int fu, .ref gs, .ref go, .ref gt, .ref gp, .ref gw, .double la, .double ea, .ref gl, .int ln, .int fd]))]) [0] rfl
      have hD := hD.sub (ws' := [(am, .inr (2, [.int 1, .int wo, .int fu, .ref gs, .ref go, .ref gt, .ref gp, .ref gw, .double la, .double ea, .ref gl, .int ln, .int fd]))]) [0] (by decide) rfl
      obtain rfl := hp_6
      refine lv_i2l hx hb dX2_easter_24 rfl ?_
      have e0 : f_X2_easter  x1 = (Int32.toInt64 0, 1) := by unfold f_X2_easter; rw [if_neg c_1, if_neg c_4]
      have e1 : (f_X2_easter  x1).2 = 1 := by rw [e0]
      have hP : va_P (dC, dI) vwCl [(am, .inr (2, [.int ((f_X2_easter  x1).2), .int wo, .int fu, .ref gs, .ref go, .ref gt, .ref gp, .ref gw, .double la, .double ea, .ref gl, .int ln, .int fd]))] H := by rw [e1]; exact hP
      have hD : va_D A [(am, .inr (2, [.int ((f_X2_easter  x1).2), .int wo, .int fu, .ref gs, .ref go, .ref gt, .ref gp, .ref gw, .double la, .double ea, .ref gl, .int ln, .int fd]))] := by rw [e1]; exact hD
      exact W.lret hx hb hr (fun t ht hW => ⟨⟨_, (), rfl, (congrArg Prod.fst e0), ⟨by rw [ht]; exact hP, hD⟩⟩, hS.F ht⟩) hS.2.2 dX2_easter_25

def f_X2_angle  (x1 : Int32) (x2 : Int32) (x3 : Int32) (x4 : UInt64) : UInt64 × Int32 := if x1 = 1 then (if x2 < 0 then ((FP.i2d 0, 1)) else (if 360 < x2 then ((FP.i2d 0, 1)) else (if x3 < 0 then ((FP.i2d 0, 1)) else (if 59 < x3 then ((FP.i2d 0, 1)) else (if dge x4 FP.dconst0 then (if dlt x4 4633641066610819072 then ((FP.dmul (FP.i2d x1) (FP.dadd (FP.dadd (FP.i2d x2) (FP.ddiv (FP.i2d x3) 4633641066610819072)) (FP.ddiv x4 4660134898793709568)), 0)) else ((FP.i2d 0, 1))) else ((FP.i2d 0, 1))))))) else (if x1 = (-1) then (if x2 < 0 then ((FP.i2d 0, 1)) else (if 360 < x2 then ((FP.i2d 0, 1)) else (if x3 < 0 then ((FP.i2d 0, 1)) else (if 59 < x3 then ((FP.i2d 0, 1)) else (if dge x4 FP.dconst0 then (if dlt x4 4633641066610819072 then ((FP.dmul (FP.i2d x1) (FP.dadd (FP.dadd (FP.i2d x2) (FP.ddiv (FP.i2d x3) 4633641066610819072)) (FP.ddiv x4 4660134898793709568)), 0)) else ((FP.i2d 0, 1))) else ((FP.i2d 0, 1))))))) else ((FP.i2d 0, 1)))
set_option maxHeartbeats 4000000 in
set_option maxRecDepth 100000 in
theorem k_X2_angle (l : Launch) (hst : l.stackTraces = false) (dC : Nat → ClassId) (dI : Nat → Nat → Nat) (cA : Nat → ClassId) (tm tt sz : Nat) (am gs go gt gp gw gl : Nat) (th wo fu : Int32) (la ea : UInt64) (ln fd : Int32) (x1 : Int32) (x2 : Int32) (x3 : Int32) (x4 : UInt64) (h0 : fR x4 (-288230376151711744) 288230376151711744) : Met l yX2_angle wsX2_angle ({ frames := 1, cells := 0, slots := 0, locals := 21 }) (PcW dC dI cA tm tt sz [.ref am, .int x1, .int x2, .int x3, .double x4] [(am, .inr (2, [.int th, .int wo, .int fu, .ref gs, .ref go, .ref gt, .ref gp, .ref gw, .double la, .double ea, .ref gl, .int ln, .int fd]))]) (va_Qd (fun r (_ : Unit) => (f_X2_angle  x1 x2 x3 x4).1 = r) (fun _ t => WB dC dI (va_A [(am, .inr (2, [.int th, .int wo, .int fu, .ref gs, .ref go, .ref gt, .ref gp, .ref gw, .double la, .double ea, .ref gl, .int ln, .int fd]))] sz) [(am, .inr (2, [.int ((f_X2_angle  x1 x2 x3 x4).2), .int wo, .int fu, .ref gs, .ref go, .ref gt, .ref gp, .ref gw, .double la, .double ea, .ref gl, .int ln, .int fd]))] t) (va_A [(am, .inr (2, [.int th, .int wo, .int fu, .ref gs, .ref go, .ref gt, .ref gp, .ref gw, .double la, .double ea, .ref gl, .int ln, .int fd]))] sz)) 0 0 (va_A [(am, .inr (2, [.int th, .int wo, .int fu, .ref gs, .ref go, .ref gt, .ref gp, .ref gw, .double la, .double ea, .ref gl, .int ln, .int fd]))] sz) := by
  refine Met.ofW (cc := cX2_angle) (maxL := 6) (ret := (some .double)) (by decide) rfl ?_
  intro p e s m args below meth c s₁ B hml hv
  obtain ⟨rfl, hsz, hP, hK, hD0, hE⟩ := hv
  subst hsz
  have hD := hD0.self (sz := s.heap.size)
  generalize hAe : va_A [(am, .inr (2, [.int th, .int wo, .int fu, .ref gs, .ref go, .ref gt, .ref gp, .ref gw, .double la, .double ea, .ref gl, .int ln, .int fd]))] s.heap.size = A at hD hE ⊢
  have hA : ∀ q : Nat, s.heap.size ≤ q → A q := fun q h => by rw [← hAe]; exact Or.inr h
  have hS : va_S A s.heap s.heap [] := va_S.rf
  have hP : va_P (dC, dI) vwCl [(am, .inr (2, [.int th, .int wo, .int fu, .ref gs, .ref go, .ref gt, .ref gp, .ref gw, .double la, .double ea, .ref gl, .int ln, .int fd]))] s.heap := hP
  have hx := B.exec
  have hb := B.bytes
  have hr := B.returns
  have hts := atoms_spec (ws := wsX2_angle) B.pre
  have hown : s.vm.findClass RX2 = some m.cls := findClass_of_methodNamed B.named
  have hlocks := B.notSynchronized
  have hl := lv_entry ([.ref am, .int x1, .int x2, .int x3, .double x4]) (n := 6) (Nat.le_of_ble_eq_true rfl)
  rw [lg_entry_eq]
  generalize (lg_sl ([.ref am, .int x1, .int x2, .int x3, .double x4]) ++ List.replicate (6 - (lg_sl ([.ref am, .int x1, .int x2, .int x3, .double x4])).length) Slot.unset).toArray = ls at hl ⊢
  have hl : lv_has ls 6 [(0, .ref am), (1, .int x1), (2, .int x2), (3, .int x3), (4, .double x4)] := hl
  have hin2 : ∀ w ∈ u_ws RX2 TX2 13, w ∈ wsX2_angle := by decide +kernel
  refine lv_aload_n hx hb dX2_angle_0 rfl (lv_at hl 0 rfl) ?_
  refine lv_iconst (v := 0) hx hb dX2_angle_1 (by decide) ?_
  refine va_put (D := (dC, dI)) (ci := 2) (v := .int 0) (ty := .int) (C := RX2) (T := TX2) (N := 13) hx hb hts hin2 tyX2 tyX2_ok nmX2 hown hK hP hD hS 0 rfl rfl 0 (by decide) (hts (.fieldLink RX2 30 "SkyAlmanacModel" "thrown" "I") (by decide +kernel)) (fun _ h9 => h9) rfl (by decide +kernel) rfl rfl (Nat.le_of_ble_eq_true rfl) dX2_angle_2 (fun H locs hP hD hS => ?_)
  have hP : va_P (dC, dI) vwCl [(am, .inr (2, [.int 0, .int wo, .int fu, .ref gs, .ref go, .ref gt, .ref gp, .ref gw, .double la, .double ea, .ref gl, .int ln, .int fd]))] H := hP
  have hD : va_D A [(am, .inr (2, [.int 0, .int wo, .int fu, .ref gs, .ref go, .ref gt, .ref gp, .ref gw, .double la, .double ea, .ref gl, .int ln, .int fd]))] := hD
  refine lv_iload_n hx hb dX2_angle_5 rfl (lv_at hl 1 rfl) ?_
  refine lv_iconst (v := 1) hx hb dX2_angle_6 (by decide) ?_
  refine lv_icmp_eq (tgt := 15) hx hb dX2_angle_7 (by decide) (fun c_1 => ?_) (fun c_1 => ?_)
  · refine lv_iload_n hx hb dX2_angle_15 rfl (lv_at hl 2 rfl) ?_
    refine lv_if_lt (tgt := 52) hx hb dX2_angle_16 (by decide) (fun c_2 => ?_) (fun c_2 => ?_)
    · refine lv_aload_n hx hb dX2_angle_52 rfl (lv_at hl 0 rfl) ?_
      refine lv_iconst (v := 1) hx hb dX2_angle_53 (by decide) ?_
      have hPc := hP.sub (ws' := [(am, .inr (2, [.int 0, .int wo, .int fu, .ref gs, .ref go, .ref gt, .ref gp, .ref gw, .double la, .double ea, .ref gl, .int ln, .int fd]))]) [0] rfl
      have hDc := hD.sub (ws' := [(am, .inr (2, [.int 0, .int wo, .int fu, .ref gs, .ref go, .ref gt, .ref gp, .ref gw, .double la, .double ea, .ref gl, .int ln, .int fd]))]) [0] (by decide) rfl
      have hFc := va_free (wc := [(am, .inr (2, [.int 0, .int wo, .int fu, .ref gs, .ref go, .ref gt, .ref gp, .ref gw, .double la, .double ea, .ref gl, .int ln, .int fd]))]) hD hS hA [0] rfl
      refine va_calli (va_runV (As := [.int 1]) (rest := []) ⟨hx, hb, hml, hown, hts⟩ (k_X2_fail l hst dC dI cA tm tt _ am gs go gt gp gw gl 0 wo fu la ea ln fd 1) (cwV 1 hts gX2_angle_X2_fail rfl rfl rfl (by decide +kernel) ⟨Nat.le_of_ble_eq_true rfl, Nat.le_of_ble_eq_true rfl⟩) ⟨PcW.blind, va_recv hK hPc (ci := 2) (q0 := 0) rfl rfl, PcW.give hPc hK hDc hE hS hFc⟩ rfl rfl hl.1 rfl (lv_room (Nat.le_of_ble_eq_true rfl)) dX2_angle_54 ⟨Nat.le_of_ble_eq_true rfl, Nat.le_of_ble_eq_true rfl⟩) hS (fun q _ h => hFc q h) hFc (fun v_3 u t H locs ht hvm hp_4 hB hz1 hk1 hS => ?_)
      obtain ⟨hP1, hD1⟩ := hB
      rw [ht] at hP1
      obtain ⟨hP, hD⟩ := va_join (wr := []) (w1 := [(am, .inr (2, [.int 1, .int wo, .int fu, .ref gs, .ref go, .ref gt, .ref gp, .ref gw, .double la, .double ea, .ref gl, .int ln, .int fd]))]) hP hD [0] [] rfl rfl (by decide) (by decide) hk1 hFc hP1 hD1
      have hP := hP.sub (ws' := [(am, .inr (2, [.int 1, .int wo, .int fu, .ref gs, .ref go, .ref gt, .ref gp, .ref gw, .double la, .double ea, .ref gl, .int ln, .int fd]))]) [0] rfl
      have hD := hD.sub (ws' := [(am, .inr (2, [.int 1, .int wo, .int fu, .ref gs, .ref go, .ref gt, .ref gp, .ref gw, .double la, .double ea, .ref gl, .int ln, .int fd]))]) [0] (by decide) rfl
      obtain rfl := hp_4
      refine lv_i2d hx hb dX2_angle_57 ?_
      have e0 : f_X2_angle  x1 x2 x3 x4 = (FP.i2d 0, 1) := by unfold f_X2_angle; rw [if_pos c_1, if_pos c_2]
      have e1 : (f_X2_angle  x1 x2 x3 x4).2 = 1 := by rw [e0]
      have hP : va_P (dC, dI) vwCl [(am, .inr (2, [.int ((f_X2_angle  x1 x2 x3 x4).2), .int wo, .int fu, .ref gs, .ref go, .ref gt, .ref gp, .ref gw, .double la, .double ea, .ref gl, .int ln, .int fd]))] H := by rw [e1]; exact hP
      have hD : va_D A [(am, .inr (2, [.int ((f_X2_angle  x1 x2 x3 x4).2), .int wo, .int fu, .ref gs, .ref go, .ref gt, .ref gp, .ref gw, .double la, .double ea, .ref gl, .int ln, .int fd]))] := by rw [e1]; exact hD
      exact W.dret hx hb hr (fun t ht hW => ⟨⟨_, (), rfl, (congrArg Prod.fst e0), ⟨by rw [ht]; exact hP, hD⟩⟩, hS.F ht⟩) hS.2.2 dX2_angle_58
    · refine lv_iload_n hx hb dX2_angle_19 rfl (lv_at hl 2 rfl) ?_
      refine lv_sipush (v := 360) hx hb dX2_angle_20 (by decide) ?_
      refine lv_icmp_gt (tgt := 52) hx hb dX2_angle_23 (by decide) (fun c_5 => ?_) (fun c_5 => ?_)
      · refine lv_aload_n hx hb dX2_angle_52 rfl (lv_at hl 0 rfl) ?_
        refine lv_iconst (v := 1) hx hb dX2_angle_53 (by decide) ?_
        have hPc := hP.sub (ws' := [(am, .inr (2, [.int 0, .int wo, .int fu, .ref gs, .ref go, .ref gt, .ref gp, .ref gw, .double la, .double ea, .ref gl, .int ln, .int fd]))]) [0] rfl
        have hDc := hD.sub (ws' := [(am, .inr (2, [.int 0, .int wo, .int fu, .ref gs, .ref go, .ref gt, .ref gp, .ref gw, .double la, .double ea, .ref gl, .int ln, .int fd]))]) [0] (by decide) rfl
        have hFc := va_free (wc := [(am, .inr (2, [.int 0, .int wo, .int fu, .ref gs, .ref go, .ref gt, .ref gp, .ref gw, .double la, .double ea, .ref gl, .int ln, .int fd]))]) hD hS hA [0] rfl
        refine va_calli (va_runV (As := [.int 1]) (rest := []) ⟨hx, hb, hml, hown, hts⟩ (k_X2_fail l hst dC dI cA tm tt _ am gs go gt gp gw gl 0 wo fu la ea ln fd 1) (cwV 1 hts gX2_angle_X2_fail rfl rfl rfl (by decide +kernel) ⟨Nat.le_of_ble_eq_true rfl, Nat.le_of_ble_eq_true rfl⟩) ⟨PcW.blind, va_recv hK hPc (ci := 2) (q0 := 0) rfl rfl, PcW.give hPc hK hDc hE hS hFc⟩ rfl rfl hl.1 rfl (lv_room (Nat.le_of_ble_eq_true rfl)) dX2_angle_54 ⟨Nat.le_of_ble_eq_true rfl, Nat.le_of_ble_eq_true rfl⟩) hS (fun q _ h => hFc q h) hFc (fun v_6 u t H locs ht hvm hp_7 hB hz1 hk1 hS => ?_)
        obtain ⟨hP1, hD1⟩ := hB
        rw [ht] at hP1
        obtain ⟨hP, hD⟩ := va_join (wr := []) (w1 := [(am, .inr (2, [.int 1, .int wo, .int fu, .ref gs, .ref go, .ref gt, .ref gp, .ref gw, .double la, .double ea, .ref gl, .int ln, .int fd]))]) hP hD [0] [] rfl rfl (by decide) (by decide) hk1 hFc hP1 hD1
        have hP := hP.sub (ws' := [(am, .inr (2, [.int 1, .int wo, .int fu, .ref gs, .ref go, .ref gt, .ref gp, .ref gw, .double la, .double ea, .ref gl, .int ln, .int fd]))]) [0] rfl
        have hD := hD.sub (ws' := [(am, .inr (2, [.int 1, .int wo, .int fu, .ref gs, .ref go, .ref gt, .ref gp, .ref gw, .double la, .double ea, .ref gl, .int ln, .int fd]))]) [0] (by decide) rfl
        obtain rfl := hp_7
        refine lv_i2d hx hb dX2_angle_57 ?_
        have e0 : f_X2_angle  x1 x2 x3 x4 = (FP.i2d 0, 1) := by unfold f_X2_angle; rw [if_pos c_1, if_neg c_2, if_pos c_5]
        have e1 : (f_X2_angle  x1 x2 x3 x4).2 = 1 := by rw [e0]
        have hP : va_P (dC, dI) vwCl [(am, .inr (2, [.int ((f_X2_angle  x1 x2 x3 x4).2), .int wo, .int fu, .ref gs, .ref go, .ref gt, .ref gp, .ref gw, .double la, .double ea, .ref gl, .int ln, .int fd]))] H := by rw [e1]; exact hP
        have hD : va_D A [(am, .inr (2, [.int ((f_X2_angle  x1 x2 x3 x4).2), .int wo, .int fu, .ref gs, .ref go, .ref gt, .ref gp, .ref gw, .double la, .double ea, .ref gl, .int ln, .int fd]))] := by rw [e1]; exact hD
        exact W.dret hx hb hr (fun t ht hW => ⟨⟨_, (), rfl, (congrArg Prod.fst e0), ⟨by rw [ht]; exact hP, hD⟩⟩, hS.F ht⟩) hS.2.2 dX2_angle_58
      · refine lv_iload_n hx hb dX2_angle_26 rfl (lv_at hl 3 rfl) ?_
        refine lv_if_lt (tgt := 52) hx hb dX2_angle_27 (by decide) (fun c_8 => ?_) (fun c_8 => ?_)
        · refine lv_aload_n hx hb dX2_angle_52 rfl (lv_at hl 0 rfl) ?_
          refine lv_iconst (v := 1) hx hb dX2_angle_53 (by decide) ?_
          have hPc := hP.sub (ws' := [(am, .inr (2, [.int 0, .int wo, .int fu, .ref gs, .ref go, .ref gt, .ref gp, .ref gw, .double la, .double ea, .ref gl, .int ln, .int fd]))]) [0] rfl
          have hDc := hD.sub (ws' := [(am, .inr (2, [.int 0, .int wo, .int fu, .ref gs, .ref go, .ref gt, .ref gp, .ref gw, .double la, .double ea, .ref gl, .int ln, .int fd]))]) [0] (by decide) rfl
          have hFc := va_free (wc := [(am, .inr (2, [.int 0, .int wo, .int fu, .ref gs, .ref go, .ref gt, .ref gp, .ref gw, .double la, .double ea, .ref gl, .int ln, .int fd]))]) hD hS hA [0] rfl
          refine va_calli (va_runV (As := [.int 1]) (rest := []) ⟨hx, hb, hml, hown, hts⟩ (k_X2_fail l hst dC dI cA tm tt _ am gs go gt gp gw gl 0 wo fu la ea ln fd 1) (cwV 1 hts gX2_angle_X2_fail rfl rfl rfl (by decide +kernel) ⟨Nat.le_of_ble_eq_true rfl, Nat.le_of_ble_eq_true rfl⟩) ⟨PcW.blind, va_recv hK hPc (ci := 2) (q0 := 0) rfl rfl, PcW.give hPc hK hDc hE hS hFc⟩ rfl rfl hl.1 rfl (lv_room (Nat.le_of_ble_eq_true rfl)) dX2_angle_54 ⟨Nat.le_of_ble_eq_true rfl, Nat.le_of_ble_eq_true rfl⟩) hS (fun q _ h => hFc q h) hFc (fun v_9 u t H locs ht hvm hp_10 hB hz1 hk1 hS => ?_)
          obtain ⟨hP1, hD1⟩ := hB
          rw [ht] at hP1
          obtain ⟨hP, hD⟩ := va_join (wr := []) (w1 := [(am, .inr (2, [.int 1, .int wo, .int fu, .ref gs, .ref go, .ref gt, .ref gp, .ref gw, .double la, .double ea, .ref gl, .int ln, .int fd]))]) hP hD [0] [] rfl rfl (by decide) (by decide) hk1 hFc hP1 hD1
          have hP := hP.sub (ws' := [(am, .inr (2, [.int 1, .int wo, .int fu, .ref gs, .ref go, .ref gt, .ref gp, .ref gw, .double la, .double ea, .ref gl, .int ln, .int fd]))]) [0] rfl
          have hD := hD.sub (ws' := [(am, .inr (2, [.int 1, .int wo, .int fu, .ref gs, .ref go, .ref gt, .ref gp, .ref gw, .double la, .double ea, .ref gl, .int ln, .int fd]))]) [0] (by decide) rfl
          obtain rfl := hp_10
          refine lv_i2d hx hb dX2_angle_57 ?_
          have e0 : f_X2_angle  x1 x2 x3 x4 = (FP.i2d 0, 1) := by unfold f_X2_angle; rw [if_pos c_1, if_neg c_2, if_neg c_5, if_pos c_8]
          have e1 : (f_X2_angle  x1 x2 x3 x4).2 = 1 := by rw [e0]
          have hP : va_P (dC, dI) vwCl [(am, .inr (2, [.int ((f_X2_angle  x1 x2 x3 x4).2), .int wo, .int fu, .ref gs, .ref go, .ref gt, .ref gp, .ref gw, .double la, .double ea, .ref gl, .int ln, .int fd]))] H := by rw [e1]; exact hP
          have hD : va_D A [(am, .inr (2, [.int ((f_X2_angle  x1 x2 x3 x4).2), .int wo, .int fu, .ref gs, .ref go, .ref gt, .ref gp, .ref gw, .double la, .double ea, .ref gl, .int ln, .int fd]))] := by rw [e1]; exact hD
          exact W.dret hx hb hr (fun t ht hW => ⟨⟨_, (), rfl, (congrArg Prod.fst e0), ⟨by rw [ht]; exact hP, hD⟩⟩, hS.F ht⟩) hS.2.2 dX2_angle_58
        · refine lv_iload_n hx hb dX2_angle_30 rfl (lv_at hl 3 rfl) ?_
          refine lv_bipush (v := 59) hx hb dX2_angle_31 (by decide) ?_
          refine lv_icmp_gt (tgt := 52) hx hb dX2_angle_33 (by decide) (fun c_11 => ?_) (fun c_11 => ?_)
          · refine lv_aload_n hx hb dX2_angle_52 rfl (lv_at hl 0 rfl) ?_
            refine lv_iconst (v := 1) hx hb dX2_angle_53 (by decide) ?_
            have hPc := hP.sub (ws' := [(am, .inr (2, [.int 0, .int wo, .int fu, .ref gs, .ref go, .ref gt, .ref gp, .ref gw, .double la, .double ea, .ref gl, .int ln, .int fd]))]) [0] rfl
            have hDc := hD.sub (ws' := [(am, .inr (2, [.int 0, .int wo, .int fu, .ref gs, .ref go, .ref gt, .ref gp, .ref gw, .double la, .double ea, .ref gl, .int ln, .int fd]))]) [0] (by decide) rfl
            have hFc := va_free (wc := [(am, .inr (2, [.int 0, .int wo, .int fu, .ref gs, .ref go, .ref gt, .ref gp, .ref gw, .double la, .double ea, .ref gl, .int ln, .int fd]))]) hD hS hA [0] rfl
            refine va_calli (va_runV (As := [.int 1]) (rest := []) ⟨hx, hb, hml, hown, hts⟩ (k_X2_fail l hst dC dI cA tm tt _ am gs go gt gp gw gl 0 wo fu la ea ln fd 1) (cwV 1 hts gX2_angle_X2_fail rfl rfl rfl (by decide +kernel) ⟨Nat.le_of_ble_eq_true rfl, Nat.le_of_ble_eq_true rfl⟩) ⟨PcW.blind, va_recv hK hPc (ci := 2) (q0 := 0) rfl rfl, PcW.give hPc hK hDc hE hS hFc⟩ rfl rfl hl.1 rfl (lv_room (Nat.le_of_ble_eq_true rfl)) dX2_angle_54 ⟨Nat.le_of_ble_eq_true rfl, Nat.le_of_ble_eq_true rfl⟩) hS (fun q _ h => hFc q h) hFc (fun v_12 u t H locs ht hvm hp_13 hB hz1 hk1 hS => ?_)
            obtain ⟨hP1, hD1⟩ := hB
            rw [ht] at hP1
            obtain ⟨hP, hD⟩ := va_join (wr := []) (w1 := [(am, .inr (2, [.int 1, .int wo, .int fu, .ref gs, .ref go, .ref gt, .ref gp, .ref gw, .double la, .double ea, .ref gl, .int ln, .int fd]))]) hP hD [0] [] rfl rfl (by decide) (by decide) hk1 hFc hP1 hD1
            have hP := hP.sub (ws' := [(am, .inr (2, [.int 1, .int wo, .int fu, .ref gs, .ref go, .ref gt, .ref gp, .ref gw, .double la, .double ea, .ref gl, .int ln, .int fd]))]) [0] rfl
            have hD := hD.sub (ws' := [(am, .inr (2, [.int 1, .int wo, .int fu, .ref gs, .ref go, .ref gt, .ref gp, .ref gw, .double la, .double ea, .ref gl, .int ln, .int fd]))]) [0] (by decide) rfl
            obtain rfl := hp_13
            refine lv_i2d hx hb dX2_angle_57 ?_
            have e0 : f_X2_angle  x1 x2 x3 x4 = (FP.i2d 0, 1) := by unfold f_X2_angle; rw [if_pos c_1, if_neg c_2, if_neg c_5, if_neg c_8, if_pos c_11]
            have e1 : (f_X2_angle  x1 x2 x3 x4).2 = 1 := by rw [e0]
            have hP : va_P (dC, dI) vwCl [(am, .inr (2, [.int ((f_X2_angle  x1 x2 x3 x4).2), .int wo, .int fu, .ref gs, .ref go, .ref gt, .ref gp, .ref gw, .double la, .double ea, .ref gl, .int ln, .int fd]))] H := by rw [e1]; exact hP
            have hD : va_D A [(am, .inr (2, [.int ((f_X2_angle  x1 x2 x3 x4).2), .int wo, .int fu, .ref gs, .ref go, .ref gt, .ref gp, .ref gw, .double la, .double ea, .ref gl, .int ln, .int fd]))] := by rw [e1]; exact hD
            exact W.dret hx hb hr (fun t ht hW => ⟨⟨_, (), rfl, (congrArg Prod.fst e0), ⟨by rw [ht]; exact hP, hD⟩⟩, hS.F ht⟩) hS.2.2 dX2_angle_58
          · refine lv_dload hx hb dX2_angle_36 (lv_at hl 4 rfl) ?_
            refine lv_dconst0 hx hb dX2_angle_38 ?_
            have r_14 : fR FP.dconst0 0 0 := fR_lit (by decide +kernel)
            refine zd_l_lt (tgt := 52) hx hb dX2_angle_39 dX2_angle_40 (by decide) (fun c_15 => ?_) (fun c_15 => ?_)
            · refine lv_aload_n hx hb dX2_angle_52 rfl (lv_at hl 0 rfl) ?_
              refine lv_iconst (v := 1) hx hb dX2_angle_53 (by decide) ?_
              have hPc := hP.sub (ws' := [(am, .inr (2, [.int 0, .int wo, .int fu, .ref gs, .ref go, .ref gt, .ref gp, .ref gw, .double la, .double ea, .ref gl, .int ln, .int fd]))]) [0] rfl
              have hDc := hD.sub (ws' := [(am, .inr (2, [.int 0, .int wo, .int fu, .ref gs, .ref go, .ref gt, .ref gp, .ref gw, .double la, .double ea, .ref gl, .int ln, .int fd]))]) [0] (by decide) rfl
              have hFc := va_free (wc := [(am, .inr (2, [.int 0, .int wo, .int fu, .ref gs, .ref go, .ref gt, .ref gp, .ref gw, .double la, .double ea, .ref gl, .int ln, .int fd]))]) hD hS hA [0] rfl
              refine va_calli (va_runV (As := [.int 1]) (rest := []) ⟨hx, hb, hml, hown, hts⟩ (k_X2_fail l hst dC dI cA tm tt _ am gs go gt gp gw gl 0 wo fu la ea ln fd 1) (cwV 1 hts gX2_angle_X2_fail rfl rfl rfl (by decide +kernel) ⟨Nat.le_of_ble_eq_true rfl, Nat.le_of_ble_eq_true rfl⟩) ⟨PcW.blind, va_recv hK hPc (ci := 2) (q0 := 0) rfl rfl, PcW.give hPc hK hDc hE hS hFc⟩ rfl rfl hl.1 rfl (lv_room (Nat.le_of_ble_eq_true rfl)) dX2_angle_54 ⟨Nat.le_of_ble_eq_true rfl, Nat.le_of_ble_eq_true rfl⟩) hS (fun q _ h => hFc q h) hFc (fun v_16 u t H locs ht hvm hp_17 hB hz1 hk1 hS => ?_)
              obtain ⟨hP1, hD1⟩ := hB
              rw [ht] at hP1
              obtain ⟨hP, hD⟩ := va_join (wr := []) (w1 := [(am, .inr (2, [.int 1, .int wo, .int fu, .ref gs, .ref go, .ref gt, .ref gp, .ref gw, .double la, .double ea, .ref gl, .int ln, .int fd]))]) hP hD [0] [] rfl rfl (by decide) (by decide) hk1 hFc hP1 hD1
              have hP := hP.sub (ws' := [(am, .inr (2, [.int 1, .int wo, .int fu, .ref gs, .ref go, .ref gt, .ref gp, .ref gw, .double la, .double ea, .ref gl, .int ln, .int fd]))]) [0] rfl
              have hD := hD.sub (ws' := [(am, .inr (2, [.int 1, .int wo, .int fu, .ref gs, .ref go, .ref gt, .ref gp, .ref gw, .double la, .double ea, .ref gl, .int ln, .int fd]))]) [0] (by decide) rfl
              obtain rfl := hp_17
              refine lv_i2d hx hb dX2_angle_57 ?_
              have e0 : f_X2_angle  x1 x2 x3 x4 = (FP.i2d 0, 1) := by unfold f_X2_angle; rw [if_pos c_1, if_neg c_2, if_neg c_5, if_neg c_8, if_neg c_11, if_neg c_15]
              have e1 : (f_X2_angle  x1 x2 x3 x4).2 = 1 := by rw [e0]
              have hP : va_P (dC, dI) vwCl [(am, .inr (2, [.int ((f_X2_angle  x1 x2 x3 x4).2), .int wo, .int fu, .ref gs, .ref go, .ref gt, .ref gp, .ref gw, .double la, .double ea, .ref gl, .int ln, .int fd]))] H := by rw [e1]; exact hP
              have hD : va_D A [(am, .inr (2, [.int ((f_X2_angle  x1 x2 x3 x4).2), .int wo, .int fu, .ref gs, .ref go, .ref gt, .ref gp, .ref gw, .double la, .double ea, .ref gl, .int ln, .int fd]))] := by rw [e1]; exact hD
              exact W.dret hx hb hr (fun t ht hW => ⟨⟨_, (), rfl, (congrArg Prod.fst e0), ⟨by rw [ht]; exact hP, hD⟩⟩, hS.F ht⟩) hS.2.2 dX2_angle_58
            · refine lv_dload hx hb dX2_angle_43 (lv_at hl 4 rfl) ?_
              refine lv_ldc2d hx hb hown (hts (.constantDouble RX2 279 (4633641066610819072)) (by decide +kernel)) dX2_angle_45 ?_
              have r_18 : fR 4633641066610819072 64424509440 64424509440 := fR_lit (by decide +kernel)
              refine zd_g_lt (tgt := 59) hx hb dX2_angle_48 dX2_angle_49 (by decide) (fun c_19 => ?_) (fun c_19 => ?_)
              · refine lv_iload_n hx hb dX2_angle_59 rfl (lv_at hl 1 rfl) ?_
                have r_20 : fR (FP.i2d x1) (-1073741824) 1073741824 := fR_mono (fR_i2d x1 (lo := -1) (hi := 1) (by rw [c_1]; decide) (by rw [c_1]; decide)) (by decide) (by decide)
                refine lv_i2d hx hb dX2_angle_60 ?_
                refine lv_iload_n hx hb dX2_angle_61 rfl (lv_at hl 2 rfl) ?_
                refine lv_i2d hx hb dX2_angle_62 ?_
                refine lv_iload_n hx hb dX2_angle_63 rfl (lv_at hl 3 rfl) ?_
                refine lv_i2d hx hb dX2_angle_64 ?_
                refine lv_ldc2d hx hb hown (hts (.constantDouble RX2 279 (4633641066610819072)) (by decide +kernel)) dX2_angle_65 ?_
                have r_21 : fR 4633641066610819072 64424509440 64424509440 := fR_lit (by decide +kernel)
                have r_22 := fR_div (i2d_R x3) r_21 (by decide) (-38430717750804480) 38430717750804480 (by decide) (by decide) rfl rfl
                refine lv_ddiv hx hb dX2_angle_68 (fR_nn r_22) ?_
                have r_23 := fR_add (i2d_R x2) r_22 (-2344273726964498432) 2344273726964498432 (by decide) (by decide) rfl rfl
                refine lv_dadd hx hb dX2_angle_69 (fR_nn r_23) ?_
                refine lv_dload hx hb dX2_angle_70 (lv_at hl 4 rfl) ?_
                refine lv_ldc2d hx hb hown (hts (.constantDouble RX2 269 (4660134898793709568)) (by decide +kernel)) dX2_angle_72 ?_
                have r_24 : fR 4660134898793709568 3865470566400 3865470566400 := fR_lit (by decide +kernel)
                have r_25 := fR_div h0 r_24 (by decide) (-80063993375476) 80063993375476 (by decide) (by decide) rfl rfl
                refine lv_ddiv hx hb dX2_angle_75 (fR_nn r_25) ?_
                have r_26 := fR_add r_23 r_25 (-2344353791597346816) 2344353791597346816 (by decide) (by decide) rfl rfl
                refine lv_dadd hx hb dX2_angle_76 (fR_nn r_26) ?_
                have r_27 := fR_mul r_20 r_26 (-2344353791597346816) 2344353791597346816 (by decide) (by decide) rfl rfl
                refine lv_dmul hx hb dX2_angle_77 (fR_nn r_27) ?_
                have e0 : f_X2_angle  x1 x2 x3 x4 = (FP.dmul (FP.i2d x1) (FP.dadd (FP.dadd (FP.i2d x2) (FP.ddiv (FP.i2d x3) 4633641066610819072)) (FP.ddiv x4 4660134898793709568)), 0) := by unfold f_X2_angle; rw [if_pos c_1, if_neg c_2, if_neg c_5, if_neg c_8, if_neg c_11, if_pos c_15, if_pos c_19]
                have e1 : (f_X2_angle  x1 x2 x3 x4).2 = 0 := by rw [e0]
                have hP : va_P (dC, dI) vwCl [(am, .inr (2, [.int ((f_X2_angle  x1 x2 x3 x4).2), .int wo, .int fu, .ref gs, .ref go, .ref gt, .ref gp, .ref gw, .double la, .double ea, .ref gl, .int ln, .int fd]))] H := by rw [e1]; exact hP
                have hD : va_D A [(am, .inr (2, [.int ((f_X2_angle  x1 x2 x3 x4).2), .int wo, .int fu, .ref gs, .ref go, .ref gt, .ref gp, .ref gw, .double la, .double ea, .ref gl, .int ln, .int fd]))] := by rw [e1]; exact hD
                exact W.dret hx hb hr (fun t ht hW => ⟨⟨_, (), rfl, (congrArg Prod.fst e0), ⟨by rw [ht]; exact hP, hD⟩⟩, hS.F ht⟩) hS.2.2 dX2_angle_78
              · refine lv_aload_n hx hb dX2_angle_52 rfl (lv_at hl 0 rfl) ?_
                refine lv_iconst (v := 1) hx hb dX2_angle_53 (by decide) ?_
                have hPc := hP.sub (ws' := [(am, .inr (2, [.int 0, .int wo, .int fu, .ref gs, .ref go, .ref gt, .ref gp, .ref gw, .double la, .double ea, .ref gl, .int ln, .int fd]))]) [0] rfl
                have hDc := hD.sub (ws' := [(am, .inr (2, [.int 0, .int wo, .int fu, .ref gs, .ref go, .ref gt, .ref gp, .ref gw, .double la, .double ea, .ref gl, .int ln, .int fd]))]) [0] (by decide) rfl
                have hFc := va_free (wc := [(am, .inr (2, [.int 0, .int wo, .int fu, .ref gs, .ref go, .ref gt, .ref gp, .ref gw, .double la, .double ea, .ref gl, .int ln, .int fd]))]) hD hS hA [0] rfl
                refine va_calli (va_runV (As := [.int 1]) (rest := []) ⟨hx, hb, hml, hown, hts⟩ (k_X2_fail l hst dC dI cA tm tt _ am gs go gt gp gw gl 0 wo fu la ea ln fd 1) (cwV 1 hts gX2_angle_X2_fail rfl rfl rfl (by decide +kernel) ⟨Nat.le_of_ble_eq_true rfl, Nat.le_of_ble_eq_true rfl⟩) ⟨PcW.blind, va_recv hK hPc (ci := 2) (q0 := 0) rfl rfl, PcW.give hPc hK hDc hE hS hFc⟩ rfl rfl hl.1 rfl (lv_room (Nat.le_of_ble_eq_true rfl)) dX2_angle_54 ⟨Nat.le_of_ble_eq_true rfl, Nat.le_of_ble_eq_true rfl⟩) hS (fun q _ h => hFc q h) hFc (fun v_28 u t H locs ht hvm hp_29 hB hz1 hk1 hS => ?_)
                obtain ⟨hP1, hD1⟩ := hB
                rw [ht] at hP1
                obtain ⟨hP, hD⟩ := va_join (wr := []) (w1 := [(am, .inr (2, [.int 1, .int wo, .int fu, .ref gs, .ref go, .ref gt, .ref gp, .ref gw, .double la, .double ea, .ref gl, .int ln, .int fd]))]) hP hD [0] [] rfl rfl (by decide) (by decide) hk1 hFc hP1 hD1
                have hP := hP.sub (ws' := [(am, .inr (2, [.int 1, .int wo, .int fu, .ref gs, .ref go, .ref gt, .ref gp, .ref gw, .double la, .double ea, .ref gl, .int ln, .int fd]))]) [0] rfl
                have hD := hD.sub (ws' := [(am, .inr (2, [.int 1, .int wo, .int fu, .ref gs, .ref go, .ref gt, .ref gp, .ref gw, .double la, .double ea, .ref gl, .int ln, .int fd]))]) [0] (by decide) rfl
                obtain rfl := hp_29
                refine lv_i2d hx hb dX2_angle_57 ?_
                have e0 : f_X2_angle  x1 x2 x3 x4 = (FP.i2d 0, 1) := by unfold f_X2_angle; rw [if_pos c_1, if_neg c_2, if_neg c_5, if_neg c_8, if_neg c_11, if_pos c_15, if_neg c_19]
                have e1 : (f_X2_angle  x1 x2 x3 x4).2 = 1 := by rw [e0]
                have hP : va_P (dC, dI) vwCl [(am, .inr (2, [.int ((f_X2_angle  x1 x2 x3 x4).2), .int wo, .int fu, .ref gs, .ref go, .ref gt, .ref gp, .ref gw, .double la, .double ea, .ref gl, .int ln, .int fd]))] H := by rw [e1]; exact hP
                have hD : va_D A [(am, .inr (2, [.int ((f_X2_angle  x1 x2 x3 x4).2), .int wo, .int fu, .ref gs, .ref go, .ref gt, .ref gp, .ref gw, .double la, .double ea, .ref gl, .int ln, .int fd]))] := by rw [e1]; exact hD
                exact W.dret hx hb hr (fun t ht hW => ⟨⟨_, (), rfl, (congrArg Prod.fst e0), ⟨by rw [ht]; exact hP, hD⟩⟩, hS.F ht⟩) hS.2.2 dX2_angle_58
  · refine lv_iload_n hx hb dX2_angle_10 rfl (lv_at hl 1 rfl) ?_
    refine lv_iconst (v := -1) hx hb dX2_angle_11 (by decide) ?_
    refine lv_icmp_ne (tgt := 52) hx hb dX2_angle_12 (by decide) (fun c_30 => ?_) (fun c_30 => ?_)
    · refine lv_aload_n hx hb dX2_angle_52 rfl (lv_at hl 0 rfl) ?_
      refine lv_iconst (v := 1) hx hb dX2_angle_53 (by decide) ?_
      have hPc := hP.sub (ws' := [(am, .inr (2, [.int 0, .int wo, .int fu, .ref gs, .ref go, .ref gt, .ref gp, .ref gw, .double la, .double ea, .ref gl, .int ln, .int fd]))]) [0] rfl
      have hDc := hD.sub (ws' := [(am, .inr (2, [.int 0, .int wo, .int fu, .ref gs, .ref go, .ref gt, .ref gp, .ref gw, .double la, .double ea, .ref gl, .int ln, .int fd]))]) [0] (by decide) rfl
      have hFc := va_free (wc := [(am, .inr (2, [.int 0, .int wo, .int fu, .ref gs, .ref go, .ref gt, .ref gp, .ref gw, .double la, .double ea, .ref gl, .int ln, .int fd]))]) hD hS hA [0] rfl
      refine va_calli (va_runV (As := [.int 1]) (rest := []) ⟨hx, hb, hml, hown, hts⟩ (k_X2_fail l hst dC dI cA tm tt _ am gs go gt gp gw gl 0 wo fu la ea ln fd 1) (cwV 1 hts gX2_angle_X2_fail rfl rfl rfl (by decide +kernel) ⟨Nat.le_of_ble_eq_true rfl, Nat.le_of_ble_eq_true rfl⟩) ⟨PcW.blind, va_recv hK hPc (ci := 2) (q0 := 0) rfl rfl, PcW.give hPc hK hDc hE hS hFc⟩ rfl rfl hl.1 rfl (lv_room (Nat.le_of_ble_eq_true rfl)) dX2_angle_54 ⟨Nat.le_of_ble_eq_true rfl, Nat.le_of_ble_eq_true rfl⟩) hS (fun q _ h => hFc q h) hFc (fun v_31 u t H locs ht hvm hp_32 hB hz1 hk1 hS => ?_)
      obtain ⟨hP1, hD1⟩ := hB
      rw [ht] at hP1
      obtain ⟨hP, hD⟩ := va_join (wr := []) (w1 := [(am, .inr (2, [.int 1, .int wo, .int fu, .ref gs, .ref go, .ref gt, .ref gp, .ref gw, .double la, .double ea, .ref gl, .int ln, .int fd]))]) hP hD [0] [] rfl rfl (by decide) (by decide) hk1 hFc hP1 hD1
      have hP := hP.sub (ws' := [(am, .inr (2, [.int 1, .int wo, .int fu, .ref gs, .ref go, .ref gt, .ref gp, .ref gw, .double la, .double ea, .ref gl, .int ln, .int fd]))]) [0] rfl
      have hD := hD.sub (ws' := [(am, .inr (2, [.int 1, .int wo, .int fu, .ref gs, .ref go, .ref gt, .ref gp, .ref gw, .double la, .double ea, .ref gl, .int ln, .int fd]))]) [0] (by decide) rfl
      obtain rfl := hp_32
      refine lv_i2d hx hb dX2_angle_57 ?_
      have e0 : f_X2_angle  x1 x2 x3 x4 = (FP.i2d 0, 1) := by unfold f_X2_angle; rw [if_neg c_1, if_neg c_30]
      have e1 : (f_X2_angle  x1 x2 x3 x4).2 = 1 := by rw [e0]
      have hP : va_P (dC, dI) vwCl [(am, .inr (2, [.int ((f_X2_angle  x1 x2 x3 x4).2), .int wo, .int fu, .ref gs, .ref go, .ref gt, .ref gp, .ref gw, .double la, .double ea, .ref gl, .int ln, .int fd]))] H := by rw [e1]; exact hP
      have hD : va_D A [(am, .inr (2, [.int ((f_X2_angle  x1 x2 x3 x4).2), .int wo, .int fu, .ref gs, .ref go, .ref gt, .ref gp, .ref gw, .double la, .double ea, .ref gl, .int ln, .int fd]))] := by rw [e1]; exact hD
      exact W.dret hx hb hr (fun t ht hW => ⟨⟨_, (), rfl, (congrArg Prod.fst e0), ⟨by rw [ht]; exact hP, hD⟩⟩, hS.F ht⟩) hS.2.2 dX2_angle_58
    · refine lv_iload_n hx hb dX2_angle_15 rfl (lv_at hl 2 rfl) ?_
      refine lv_if_lt (tgt := 52) hx hb dX2_angle_16 (by decide) (fun c_33 => ?_) (fun c_33 => ?_)
      · refine lv_aload_n hx hb dX2_angle_52 rfl (lv_at hl 0 rfl) ?_
        refine lv_iconst (v := 1) hx hb dX2_angle_53 (by decide) ?_
        have hPc := hP.sub (ws' := [(am, .inr (2, [.int 0, .int wo, .int fu, .ref gs, .ref go, .ref gt, .ref gp, .ref gw, .double la, .double ea, .ref gl, .int ln, .int fd]))]) [0] rfl
        have hDc := hD.sub (ws' := [(am, .inr (2, [.int 0, .int wo, .int fu, .ref gs, .ref go, .ref gt, .ref gp, .ref gw, .double la, .double ea, .ref gl, .int ln, .int fd]))]) [0] (by decide) rfl
        have hFc := va_free (wc := [(am, .inr (2, [.int 0, .int wo, .int fu, .ref gs, .ref go, .ref gt, .ref gp, .ref gw, .double la, .double ea, .ref gl, .int ln, .int fd]))]) hD hS hA [0] rfl
        refine va_calli (va_runV (As := [.int 1]) (rest := []) ⟨hx, hb, hml, hown, hts⟩ (k_X2_fail l hst dC dI cA tm tt _ am gs go gt gp gw gl 0 wo fu la ea ln fd 1) (cwV 1 hts gX2_angle_X2_fail rfl rfl rfl (by decide +kernel) ⟨Nat.le_of_ble_eq_true rfl, Nat.le_of_ble_eq_true rfl⟩) ⟨PcW.blind, va_recv hK hPc (ci := 2) (q0 := 0) rfl rfl, PcW.give hPc hK hDc hE hS hFc⟩ rfl rfl hl.1 rfl (lv_room (Nat.le_of_ble_eq_true rfl)) dX2_angle_54 ⟨Nat.le_of_ble_eq_true rfl, Nat.le_of_ble_eq_true rfl⟩) hS (fun q _ h => hFc q h) hFc (fun v_34 u t H locs ht hvm hp_35 hB hz1 hk1 hS => ?_)
        obtain ⟨hP1, hD1⟩ := hB
        rw [ht] at hP1
        obtain ⟨hP, hD⟩ := va_join (wr := []) (w1 := [(am, .inr (2, [.int 1, .int wo, .int fu, .ref gs, .ref go, .ref gt, .ref gp, .ref gw, .double la, .double ea, .ref gl, .int ln, .int fd]))]) hP hD [0] [] rfl rfl (by decide) (by decide) hk1 hFc hP1 hD1
        have hP := hP.sub (ws' := [(am, .inr (2, [.int 1, .int wo, .int fu, .ref gs, .ref go, .ref gt, .ref gp, .ref gw, .double la, .double ea, .ref gl, .int ln, .int fd]))]) [0] rfl
        have hD := hD.sub (ws' := [(am, .inr (2, [.int 1, .int wo, .int fu, .ref gs, .ref go, .ref gt, .ref gp, .ref gw, .double la, .double ea, .ref gl, .int ln, .int fd]))]) [0] (by decide) rfl
        obtain rfl := hp_35
        refine lv_i2d hx hb dX2_angle_57 ?_
        have e0 : f_X2_angle  x1 x2 x3 x4 = (FP.i2d 0, 1) := by unfold f_X2_angle; rw [if_neg c_1, if_pos c_30, if_pos c_33]
        have e1 : (f_X2_angle  x1 x2 x3 x4).2 = 1 := by rw [e0]
        have hP : va_P (dC, dI) vwCl [(am, .inr (2, [.int ((f_X2_angle  x1 x2 x3 x4).2), .int wo, .int fu, .ref gs, .ref go, .ref gt, .ref gp, .ref gw, .double la, .double ea, .ref gl, .int ln, .int fd]))] H := by rw [e1]; exact hP
        have hD : va_D A [(am, .inr (2, [.int ((f_X2_angle  x1 x2 x3 x4).2), .int wo, .int fu, .ref gs, .ref go, .ref gt, .ref gp, .ref gw, .double la, .double ea, .ref gl, .int ln, .int fd]))] := by rw [e1]; exact hD
        exact W.dret hx hb hr (fun t ht hW => ⟨⟨_, (), rfl, (congrArg Prod.fst e0), ⟨by rw [ht]; exact hP, hD⟩⟩, hS.F ht⟩) hS.2.2 dX2_angle_58
      · refine lv_iload_n hx hb dX2_angle_19 rfl (lv_at hl 2 rfl) ?_
        refine lv_sipush (v := 360) hx hb dX2_angle_20 (by decide) ?_
        refine lv_icmp_gt (tgt := 52) hx hb dX2_angle_23 (by decide) (fun c_36 => ?_) (fun c_36 => ?_)
        · refine lv_aload_n hx hb dX2_angle_52 rfl (lv_at hl 0 rfl) ?_
          refine lv_iconst (v := 1) hx hb dX2_angle_53 (by decide) ?_
          have hPc := hP.sub (ws' := [(am, .inr (2, [.int 0, .int wo, .int fu, .ref gs, .ref go, .ref gt, .ref gp, .ref gw, .double la, .double ea, .ref gl, .int ln, .int fd]))]) [0] rfl
          have hDc := hD.sub (ws' := [(am, .inr (2, [.int 0, .int wo, .int fu, .ref gs, .ref go, .ref gt, .ref gp, .ref gw, .double la, .double ea, .ref gl, .int ln, .int fd]))]) [0] (by decide) rfl
          have hFc := va_free (wc := [(am, .inr (2, [.int 0, .int wo, .int fu, .ref gs, .ref go, .ref gt, .ref gp, .ref gw, .double la, .double ea, .ref gl, .int ln, .int fd]))]) hD hS hA [0] rfl
          refine va_calli (va_runV (As := [.int 1]) (rest := []) ⟨hx, hb, hml, hown, hts⟩ (k_X2_fail l hst dC dI cA tm tt _ am gs go gt gp gw gl 0 wo fu la ea ln fd 1) (cwV 1 hts gX2_angle_X2_fail rfl rfl rfl (by decide +kernel) ⟨Nat.le_of_ble_eq_true rfl, Nat.le_of_ble_eq_true rfl⟩) ⟨PcW.blind, va_recv hK hPc (ci := 2) (q0 := 0) rfl rfl, PcW.give hPc hK hDc hE hS hFc⟩ rfl rfl hl.1 rfl (lv_room (Nat.le_of_ble_eq_true rfl)) dX2_angle_54 ⟨Nat.le_of_ble_eq_true rfl, Nat.le_of_ble_eq_true rfl⟩) hS (fun q _ h => hFc q h) hFc (fun v_37 u t H locs ht hvm hp_38 hB hz1 hk1 hS => ?_)
          obtain ⟨hP1, hD1⟩ := hB
          rw [ht] at hP1
          obtain ⟨hP, hD⟩ := va_join (wr := []) (w1 := [(am, .inr (2, [.int 1, .int wo, .int fu, .ref gs, .ref go, .ref gt, .ref gp, .ref gw, .double la, .double ea, .ref gl, .int ln, .int fd]))]) hP hD [0] [] rfl rfl (by decide) (by decide) hk1 hFc hP1 hD1
          have hP := hP.sub (ws' := [(am, .inr (2, [.int 1, .int wo, .int fu, .ref gs, .ref go, .ref gt, .ref gp, .ref gw, .double la, .double ea, .ref gl, .int ln, .int fd]))]) [0] rfl
          have hD := hD.sub (ws' := [(am, .inr (2, [.int 1, .int wo, .int fu, .ref gs, .ref go, .ref gt, .ref gp, .ref gw, .double la, .double ea, .ref gl, .int ln, .int fd]))]) [0] (by decide) rfl
          obtain rfl := hp_38
          refine lv_i2d hx hb dX2_angle_57 ?_
          have e0 : f_X2_angle  x1 x2 x3 x4 = (FP.i2d 0, 1) := by unfold f_X2_angle; rw [if_neg c_1, if_pos c_30, if_neg c_33, if_pos c_36]
          have e1 : (f_X2_angle  x1 x2 x3 x4).2 = 1 := by rw [e0]
          have hP : va_P (dC, dI) vwCl [(am, .inr (2, [.int ((f_X2_angle  x1 x2 x3 x4).2), .int wo, .int fu, .ref gs, .ref go, .ref gt, .ref gp, .ref gw, .double la, .double ea, .ref gl, .int ln, .int fd]))] H := by rw [e1]; exact hP
          have hD : va_D A [(am, .inr (2, [.int ((f_X2_angle  x1 x2 x3 x4).2), .int wo, .int fu, .ref gs, .ref go, .ref gt, .ref gp, .ref gw, .double la, .double ea, .ref gl, .int ln, .int fd]))] := by rw [e1]; exact hD
          exact W.dret hx hb hr (fun t ht hW => ⟨⟨_, (), rfl, (congrArg Prod.fst e0), ⟨by rw [ht]; exact hP, hD⟩⟩, hS.F ht⟩) hS.2.2 dX2_angle_58
        · refine lv_iload_n hx hb dX2_angle_26 rfl (lv_at hl 3 rfl) ?_
          refine lv_if_lt (tgt := 52) hx hb dX2_angle_27 (by decide) (fun c_39 => ?_) (fun c_39 => ?_)
          · refine lv_aload_n hx hb dX2_angle_52 rfl (lv_at hl 0 rfl) ?_
            refine lv_iconst (v := 1) hx hb dX2_angle_53 (by decide) ?_
            have hPc := hP.sub (ws' := [(am, .inr (2, [.int 0, .int wo, .int fu, .ref gs, .ref go, .ref gt, .ref gp, .ref gw, .double la, .double ea, .ref gl, .int ln, .int fd]))]) [0] rfl
            have hDc := hD.sub (ws' := [(am, .inr (2, [.int 0, .int wo, .int fu, .ref gs, .ref go, .ref gt, .ref gp, .ref gw, .double la, .double ea, .ref gl, .int ln, .int fd]))]) [0] (by decide) rfl
            have hFc := va_free (wc := [(am, .inr (2, [.int 0, .int wo, .int fu, .ref gs, .ref go, .ref gt, .ref gp, .ref gw, .double la, .double ea, .ref gl, .int ln, .int fd]))]) hD hS hA [0] rfl
            refine va_calli (va_runV (As := [.int 1]) (rest := []) ⟨hx, hb, hml, hown, hts⟩ (k_X2_fail l hst dC dI cA tm tt _ am gs go gt gp gw gl 0 wo fu la ea ln fd 1) (cwV 1 hts gX2_angle_X2_fail rfl rfl rfl (by decide +kernel) ⟨Nat.le_of_ble_eq_true rfl, Nat.le_of_ble_eq_true rfl⟩) ⟨PcW.blind, va_recv hK hPc (ci := 2) (q0 := 0) rfl rfl, PcW.give hPc hK hDc hE hS hFc⟩ rfl rfl hl.1 rfl (lv_room (Nat.le_of_ble_eq_true rfl)) dX2_angle_54 ⟨Nat.le_of_ble_eq_true rfl, Nat.le_of_ble_eq_true rfl⟩) hS (fun q _ h => hFc q h) hFc (fun v_40 u t H locs ht hvm hp_41 hB hz1 hk1 hS => ?_)
            obtain ⟨hP1, hD1⟩ := hB
            rw [ht] at hP1
            obtain ⟨hP, hD⟩ := va_join (wr := []) (w1 := [(am, .inr (2, [.int 1, .int wo, .int fu, .ref gs, .ref go, .ref gt, .ref gp, .ref gw, .double la, .double ea, .ref gl, .int ln, .int fd]))]) hP hD [0] [] rfl rfl (by decide) (by decide) hk1 hFc hP1 hD1
            have hP := hP.sub (ws' := [(am, .inr (2, [.int 1, .int wo, .int fu, .ref gs, .ref go, .ref gt, .ref gp, .ref gw, .double la, .double ea, .ref gl, .int ln, .int fd]))]) [0] rfl
            have hD := hD.sub (ws' := [(am, .inr (2, [.int 1, .int wo, .int fu, .ref gs, .ref go, .ref gt, .ref gp, .ref gw, .double la, .double ea, .ref gl, .int ln, .int fd]))]) [0] (by decide) rfl
            obtain rfl := hp_41
            refine lv_i2d hx hb dX2_angle_57 ?_
            have e0 : f_X2_angle  x1 x2 x3 x4 = (FP.i2d 0, 1) := by unfold f_X2_angle; rw [if_neg c_1, if_pos c_30, if_neg c_33, if_neg c_36, if_pos c_39]
            have e1 : (f_X2_angle  x1 x2 x3 x4).2 = 1 := by rw [e0]
            have hP : va_P (dC, dI) vwCl [(am, .inr (2, [.int ((f_X2_angle  x1 x2 x3 x4).2), .int wo, .int fu, .ref gs, .ref go, .ref gt, .ref gp, .ref gw, .double la, .double ea, .ref gl, .int ln, .int fd]))] H := by rw [e1]; exact hP
            have hD : va_D A [(am, .inr (2, [.int ((f_X2_angle  x1 x2 x3 x4).2), .int wo, .int fu, .ref gs, .ref go, .ref gt, .ref gp, .ref gw, .double la, .double ea, .ref gl, .int ln, .int fd]))] := by rw [e1]; exact hD
            exact W.dret hx hb hr (fun t ht hW => ⟨⟨_, (), rfl, (congrArg Prod.fst e0), ⟨by rw [ht]; exact hP, hD⟩⟩, hS.F ht⟩) hS.2.2 dX2_angle_58
          · refine lv_iload_n hx hb dX2_angle_30 rfl (lv_at hl 3 rfl) ?_
            refine lv_bipush (v := 59) hx hb dX2_angle_31 (by decide) ?_
            refine lv_icmp_gt (tgt := 52) hx hb dX2_angle_33 (by decide) (fun c_42 => ?_) (fun c_42 => ?_)
            · refine lv_aload_n hx hb dX2_angle_52 rfl (lv_at hl 0 rfl) ?_
              refine lv_iconst (v := 1) hx hb dX2_angle_53 (by decide) ?_
              have hPc := hP.sub (ws' := [(am, .inr (2, [.int 0, .int wo, .int fu, .ref gs, .ref go, .ref gt, .ref gp, .ref gw, .double la, .double ea, .ref gl, .int ln, .int fd]))]) [0] rfl
              have hDc := hD.sub (ws' := [(am, .inr (2, [.int 0, .int wo, .int fu, .ref gs, .ref go, .ref gt, .ref gp, .ref gw, .double la, .double ea, .ref gl, .int ln, .int fd]))]) [0] (by decide) rfl
              have hFc := va_free (wc := [(am, .inr (2, [.int 0, .int wo, .int fu, .ref gs, .ref go, .ref gt, .ref gp, .ref gw, .double la, .double ea, .ref gl, .int ln, .int fd]))]) hD hS hA [0] rfl
              refine va_calli (va_runV (As := [.int 1]) (rest := []) ⟨hx, hb, hml, hown, hts⟩ (k_X2_fail l hst dC dI cA tm tt _ am gs go gt gp gw gl 0 wo fu la ea ln fd 1) (cwV 1 hts gX2_angle_X2_fail rfl rfl rfl (by decide +kernel) ⟨Nat.le_of_ble_eq_true rfl, Nat.le_of_ble_eq_true rfl⟩) ⟨PcW.blind, va_recv hK hPc (ci := 2) (q0 := 0) rfl rfl, PcW.give hPc hK hDc hE hS hFc⟩ rfl rfl hl.1 rfl (lv_room (Nat.le_of_ble_eq_true rfl)) dX2_angle_54 ⟨Nat.le_of_ble_eq_true rfl, Nat.le_of_ble_eq_true rfl⟩) hS (fun q _ h => hFc q h) hFc (fun v_43 u t H locs ht hvm hp_44 hB hz1 hk1 hS => ?_)
              obtain ⟨hP1, hD1⟩ := hB
              rw [ht] at hP1
              obtain ⟨hP, hD⟩ := va_join (wr := []) (w1 := [(am, .inr (2, [.int 1, .int wo, .int fu, .ref gs, .ref go, .ref gt, .ref gp, .ref gw, .double la, .double ea, .ref gl, .int ln, .int fd]))]) hP hD [0] [] rfl rfl (by decide) (by decide) hk1 hFc hP1 hD1
              have hP := hP.sub (ws' := [(am, .inr (2, [.int 1, .int wo, .int fu, .ref gs, .ref go, .ref gt, .ref gp, .ref gw, .double la, .double ea, .ref gl, .int ln, .int fd]))]) [0] rfl
              have hD := hD.sub (ws' := [(am, .inr (2, [.int 1, .int wo, .int fu, .ref gs, .ref go, .ref gt, .ref gp, .ref gw, .double la, .double ea, .ref gl, .int ln, .int fd]))]) [0] (by decide) rfl
              obtain rfl := hp_44
              refine lv_i2d hx hb dX2_angle_57 ?_
              have e0 : f_X2_angle  x1 x2 x3 x4 = (FP.i2d 0, 1) := by unfold f_X2_angle; rw [if_neg c_1, if_pos c_30, if_neg c_33, if_neg c_36, if_neg c_39, if_pos c_42]
              have e1 : (f_X2_angle  x1 x2 x3 x4).2 = 1 := by rw [e0]
              have hP : va_P (dC, dI) vwCl [(am, .inr (2, [.int ((f_X2_angle  x1 x2 x3 x4).2), .int wo, .int fu, .ref gs, .ref go, .ref gt, .ref gp, .ref gw, .double la, .double ea, .ref gl, .int ln, .int fd]))] H := by rw [e1]; exact hP
              have hD : va_D A [(am, .inr (2, [.int ((f_X2_angle  x1 x2 x3 x4).2), .int wo, .int fu, .ref gs, .ref go, .ref gt, .ref gp, .ref gw, .double la, .double ea, .ref gl, .int ln, .int fd]))] := by rw [e1]; exact hD
              exact W.dret hx hb hr (fun t ht hW => ⟨⟨_, (), rfl, (congrArg Prod.fst e0), ⟨by rw [ht]; exact hP, hD⟩⟩, hS.F ht⟩) hS.2.2 dX2_angle_58
            · refine lv_dload hx hb dX2_angle_36 (lv_at hl 4 rfl) ?_
              refine lv_dconst0 hx hb dX2_angle_38 ?_
              have r_45 : fR FP.dconst0 0 0 := fR_lit (by decide +kernel)
              refine zd_l_lt (tgt := 52) hx hb dX2_angle_39 dX2_angle_40 (by decide) (fun c_46 => ?_) (fun c_46 => ?_)
              · refine lv_aload_n hx hb dX2_angle_52 rfl (lv_at hl 0 rfl) ?_
                refine lv_iconst (v := 1) hx hb dX2_angle_53 (by decide) ?_
                have hPc := hP.sub (ws' := [(am, .inr (2, [.int 0, .int wo, .int fu, .ref gs, .ref go, .ref gt, .ref gp, .ref gw, .double la, .double ea, .ref gl, .int ln, .int fd]))]) [0] rfl
                have hDc := hD.sub (ws' := [(am, .inr (2, [.int 0, .int wo, .int fu, .ref gs, .ref go, .ref gt, .ref gp, .ref gw, .double la, .double ea, .ref gl, .int ln, .int fd]))]) [0] (by decide) rfl
                have hFc := va_free (wc := [(am, .inr (2, [.int 0, .int wo, .int fu, .ref gs, .ref go, .ref gt, .ref gp, .ref gw, .double la, .double ea, .ref gl, .int ln, .int fd]))]) hD hS hA [0] rfl
                refine va_calli (va_runV (As := [.int 1]) (rest := []) ⟨hx, hb, hml, hown, hts⟩ (k_X2_fail l hst dC dI cA tm tt _ am gs go gt gp gw gl 0 wo fu la ea ln fd 1) (cwV 1 hts gX2_angle_X2_fail rfl rfl rfl (by decide +kernel) ⟨Nat.le_of_ble_eq_true rfl, Nat.le_of_ble_eq_true rfl⟩) ⟨PcW.blind, va_recv hK hPc (ci := 2) (q0 := 0) rfl rfl, PcW.give hPc hK hDc hE hS hFc⟩ rfl rfl hl.1 rfl (lv_room (Nat.le_of_ble_eq_true rfl)) dX2_angle_54 ⟨Nat.le_of_ble_eq_true rfl, Nat.le_of_ble_eq_true rfl⟩) hS (fun q _ h => hFc q h) hFc (fun v_47 u t H locs ht hvm hp_48 hB hz1 hk1 hS => ?_)
                obtain ⟨hP1, hD1⟩ := hB
                rw [ht] at hP1
                obtain ⟨hP, hD⟩ := va_join (wr := []) (w1 := [(am, .inr (2, [.int 1, .int wo, .int fu, .ref gs, .ref go, .ref gt, .ref gp, .ref gw, .double la, .double ea, .ref gl, .int ln, .int fd]))]) hP hD [0] [] rfl rfl (by decide) (by decide) hk1 hFc hP1 hD1
                have hP := hP.sub (ws' := [(am, .inr (2, [.int 1, .int wo, .int fu, .ref gs, .ref go, .ref gt, .ref gp, .ref gw, .double la, .double ea, .ref gl, .int ln, .int fd]))]) [0] rfl
                have hD := hD.sub (ws' := [(am, .inr (2, [.int 1, .int wo, .int fu, .ref gs, .ref go, .ref gt, .ref gp, .ref gw, .double la, .double ea, .ref gl, .int ln, .int fd]))]) [0] (by decide) rfl
                obtain rfl := hp_48
                refine lv_i2d hx hb dX2_angle_57 ?_
                have e0 : f_X2_angle  x1 x2 x3 x4 = (FP.i2d 0, 1) := by unfold f_X2_angle; rw [if_neg c_1, if_pos c_30, if_neg c_33, if_neg c_36, if_neg c_39, if_neg c_42, if_neg c_46]
                have e1 : (f_X2_angle  x1 x2 x3 x4).2 = 1 := by rw [e0]
                have hP : va_P (dC, dI) vwCl [(am, .inr (2, [.int ((f_X2_angle  x1 x2 x3 x4).2), .int wo, .int fu, .ref gs, .ref go, .ref gt, .ref gp, .ref gw, .double la, .double ea, .ref gl, .int ln, .int fd]))] H := by rw [e1]; exact hP
                have hD : va_D A [(am, .inr (2, [.int ((f_X2_angle  x1 x2 x3 x4).2), .int wo, .int fu, .ref gs, .ref go, .ref gt, .ref gp, .ref gw, .double la, .double ea, .ref gl, .int ln, .int fd]))] := by rw [e1]; exact hD
                exact W.dret hx hb hr (fun t ht hW => ⟨⟨_, (), rfl, (congrArg Prod.fst e0), ⟨by rw [ht]; exact hP, hD⟩⟩, hS.F ht⟩) hS.2.2 dX2_angle_58
              · refine lv_dload hx hb dX2_angle_43 (lv_at hl 4 rfl) ?_
                refine lv_ldc2d hx hb hown (hts (.constantDouble RX2 279 (4633641066610819072)) (by decide +kernel)) dX2_angle_45 ?_
                have r_49 : fR 4633641066610819072 64424509440 64424509440 := fR_lit (by decide +kernel)
                refine zd_g_lt (tgt := 59) hx hb dX2_angle_48 dX2_angle_49 (by decide) (fun c_50 => ?_) (fun c_50 => ?_)
                · refine lv_iload_n hx hb dX2_angle_59 rfl (lv_at hl 1 rfl) ?_
                  have r_51 : fR (FP.i2d x1) (-1073741824) 1073741824 := fR_mono (fR_i2d x1 (lo := -1) (hi := 1) (by rw [c_30]; decide) (by rw [c_30]; decide)) (by decide) (by decide)
                  refine lv_i2d hx hb dX2_angle_60 ?_
                  refine lv_iload_n hx hb dX2_angle_61 rfl (lv_at hl 2 rfl) ?_
                  refine lv_i2d hx hb dX2_angle_62 ?_
                  refine lv_iload_n hx hb dX2_angle_63 rfl (lv_at hl 3 rfl) ?_
                  refine lv_i2d hx hb dX2_angle_64 ?_
                  refine lv_ldc2d hx hb hown (hts (.constantDouble RX2 279 (4633641066610819072)) (by decide +kernel)) dX2_angle_65 ?_
                  have r_52 : fR 4633641066610819072 64424509440 64424509440 := fR_lit (by decide +kernel)
                  have r_53 := fR_div (i2d_R x3) r_52 (by decide) (-38430717750804480) 38430717750804480 (by decide) (by decide) rfl rfl
                  refine lv_ddiv hx hb dX2_angle_68 (fR_nn r_53) ?_
                  have r_54 := fR_add (i2d_R x2) r_53 (-2344273726964498432) 2344273726964498432 (by decide) (by decide) rfl rfl
                  refine lv_dadd hx hb dX2_angle_69 (fR_nn r_54) ?_
                  refine lv_dload hx hb dX2_angle_70 (lv_at hl 4 rfl) ?_
                  refine lv_ldc2d hx hb hown (hts (.constantDouble RX2 269 (4660134898793709568)) (by decide +kernel)) dX2_angle_72 ?_
                  have r_55 : fR 4660134898793709568 3865470566400 3865470566400 := fR_lit (by decide +kernel)
                  have r_56 := fR_div h0 r_55 (by decide) (-80063993375476) 80063993375476 (by decide) (by decide) rfl rfl
                  refine lv_ddiv hx hb dX2_angle_75 (fR_nn r_56) ?_
                  have r_57 := fR_add r_54 r_56 (-2344353791597346816) 2344353791597346816 (by decide) (by decide) rfl rfl
                  refine lv_dadd hx hb dX2_angle_76 (fR_nn r_57) ?_
                  have r_58 := fR_mul r_51 r_57 (-2344353791597346816) 2344353791597346816 (by decide) (by decide) rfl rfl
                  refine lv_dmul hx hb dX2_angle_77 (fR_nn r_58) ?_
                  have e0 : f_X2_angle  x1 x2 x3 x4 = (FP.dmul (FP.i2d x1) (FP.dadd (FP.dadd (FP.i2d x2) (FP.ddiv (FP.i2d x3) 4633641066610819072)) (FP.ddiv x4 4660134898793709568)), 0) := by unfold f_X2_angle; rw [if_neg c_1, if_pos c_30, if_neg c_33, if_neg c_36, if_neg c_39, if_neg c_42, if_pos c_46, if_pos c_50]
                  have e1 : (f_X2_angle  x1 x2 x3 x4).2 = 0 := by rw [e0]
                  have hP : va_P (dC, dI) vwCl [(am, .inr (2, [.int ((f_X2_angle  x1 x2 x3 x4).2), .int wo, .int fu, .ref gs, .ref go, .ref gt, .ref gp, .ref gw, .double la, .double ea, .ref gl, .int ln, .int fd]))] H := by rw [e1]; exact hP
                  have hD : va_D A [(am, .inr (2, [.int ((f_X2_angle  x1 x2 x3 x4).2), .int wo, .int fu, .ref gs, .ref go, .ref gt, .ref gp, .ref gw, .double la, .double ea, .ref gl, .int ln, .int fd]))] := by rw [e1]; exact hD
                  exact W.dret hx hb hr (fun t ht hW => ⟨⟨_, (), rfl, (congrArg Prod.fst e0), ⟨by rw [ht]; exact hP, hD⟩⟩, hS.F ht⟩) hS.2.2 dX2_angle_78
                · refine lv_aload_n hx hb dX2_angle_52 rfl (lv_at hl 0 rfl) ?_
                  refine lv_iconst (v := 1) hx hb dX2_angle_53 (by decide) ?_
                  have hPc := hP.sub (ws' := [(am, .inr (2, [.int 0, .int wo, .int fu, .ref gs, .ref go, .ref gt, .ref gp, .ref gw, .double la, .double ea, .ref gl, .int ln, .int fd]))]) [0] rfl
                  have hDc := hD.sub (ws' := [(am, .inr (2, [.int 0, .int wo, .int fu, .ref gs, .ref go, .ref gt, .ref gp, .ref gw, .double la, .double ea, .ref gl, .int ln, .int fd]))]) [0] (by decide) rfl
                  have hFc := va_free (wc := [(am, .inr (2, [.int 0, .int wo, .int fu, .ref gs, .ref go, .ref gt, .ref gp, .ref gw, .double la, .double ea, .ref gl, .int ln, .int fd]))]) hD hS hA [0] rfl
                  refine va_calli (va_runV (As := [.int 1]) (rest := []) ⟨hx, hb, hml, hown, hts⟩ (k_X2_fail l hst dC dI cA tm tt _ am gs go gt gp gw gl 0 wo fu la ea ln fd 1) (cwV 1 hts gX2_angle_X2_fail rfl rfl rfl (by decide +kernel) ⟨Nat.le_of_ble_eq_true rfl, Nat.le_of_ble_eq_true rfl⟩) ⟨PcW.blind, va_recv hK hPc (ci := 2) (q0 := 0) rfl rfl, PcW.give hPc hK hDc hE hS hFc⟩ rfl rfl hl.1 rfl (lv_room (Nat.le_of_ble_eq_true rfl)) dX2_angle_54 ⟨Nat.le_of_ble_eq_true rfl, Nat.le_of_ble_eq_true rfl⟩) hS (fun q _ h => hFc q h) hFc (fun v_59 u t H locs ht hvm hp_60 hB hz1 hk1 hS => ?_)
                  obtain ⟨hP1, hD1⟩ := hB
                  rw [ht] at hP1
                  obtain ⟨hP, hD⟩ := va_join (wr := []) (w1 := [(am, .inr (2, [.int 1, .int wo, .int fu, .ref gs, .ref go, .ref gt, .ref gp, .ref gw, .double la, .double ea, .ref gl, .int ln, .int fd]))]) hP hD [0] [] rfl rfl (by decide) (by decide) hk1 hFc hP1 hD1
                  have hP := hP.sub (ws' := [(am, .inr (2, [.int 1, .int wo, .int fu, .ref gs, .ref go, .ref gt, .ref gp, .ref gw, .double la, .double ea, .ref gl, .int ln, .int fd]))]) [0] rfl
                  have hD := hD.sub (ws' := [(am, .inr (2, [.int 1, .int wo, .int fu, .ref gs, .ref go, .ref gt, .ref gp, .ref gw, .double la, .double ea, .ref gl, .int ln, .int fd]))]) [0] (by decide) rfl
                  obtain rfl := hp_60
                  refine lv_i2d hx hb dX2_angle_57 ?_
                  have e0 : f_X2_angle  x1 x2 x3 x4 = (FP.i2d 0, 1) := by unfold f_X2_angle; rw [if_neg c_1, if_pos c_30, if_neg c_33, if_neg c_36, if_neg c_39, if_neg c_42, if_pos c_46, if_neg c_50]
                  have e1 : (f_X2_angle  x1 x2 x3 x4).2 = 1 := by rw [e0]
                  have hP : va_P (dC, dI) vwCl [(am, .inr (2, [.int ((f_X2_angle  x1 x2 x3 x4).2), .int wo, .int fu, .ref gs, .ref go, .ref gt, .ref gp, .ref gw, .double la, .double ea, .ref gl, .int ln, .int fd]))] H := by rw [e1]; exact hP
                  have hD : va_D A [(am, .inr (2, [.int ((f_X2_angle  x1 x2 x3 x4).2), .int wo, .int fu, .ref gs, .ref go, .ref gt, .ref gp, .ref gw, .double la, .double ea, .ref gl, .int ln, .int fd]))] := by rw [e1]; exact hD
                  exact W.dret hx hb hr (fun t ht hW => ⟨⟨_, (), rfl, (congrArg Prod.fst e0), ⟨by rw [ht]; exact hP, hD⟩⟩, hS.F ht⟩) hS.2.2 dX2_angle_58

def f_X2_orbit (sf : Nat → Int32) (x1 : Int32) (x2 : UInt64) (x3 : UInt64) (x4 : UInt64) (x5 : UInt64) : Int32 × Int32 := if x1 < 0 then ((0, 1)) else (if x1 ≤ 3 then (if (f_X2_within x2 13868412840022376448 4645040803167600640) = 0 then ((0, 2)) else (if (f_X2_within x5 13868412840022376448 4645040803167600640) = 0 then ((0, 2)) else (if (f_X2_within x3 13860109328209412096 4636737291354636288) = 0 then ((0, 2)) else (if (f_X2_within x4 FP.dconst0 4604930618986332160) = 0 then ((0, 2)) else (if (sf (Int32.toNatClampNeg x1)) = 0 then ((1, 0)) else ((0, 0))))))) else ((0, 1)))
set_option maxHeartbeats 4000000 in
set_option maxRecDepth 100000 in
theorem k_X2_orbit (l : Launch) (hst : l.stackTraces = false) (dC : Nat → ClassId) (dI : Nat → Nat → Nat) (cA : Nat → ClassId) (tm tt sz : Nat) (am gs go gt gp gw gl : Nat) (th wo fu : Int32) (la ea : UInt64) (ln fd : Int32) (sf : Nat → Int32) (uf : Nat → UInt64) (x1 : Int32) (x2 : UInt64) (x3 : UInt64) (x4 : UInt64) (x5 : UInt64)  : Met l yX2_orbit wsX2_orbit ({ frames := 1, cells := 0, slots := 0, locals := 25 }) (PcW dC dI cA tm tt sz [.ref am, .int x1, .double x2, .double x3, .double x4, .double x5] [(am, .inr (2, [.int th, .int wo, .int fu, .ref gs, .ref go, .ref gt, .ref gp, .ref gw, .double la, .double ea, .ref gl, .int ln, .int fd])), (gs, aI 4 (cA 4) sf), (go, aD 16 (cA 1) uf)]) (va_Qi (fun r (_ : Unit) => (f_X2_orbit sf x1 x2 x3 x4 x5).1 = r) (fun _ t => WB dC dI (va_A [(am, .inr (2, [.int th, .int wo, .int fu, .ref gs, .ref go, .ref gt, .ref gp, .ref gw, .double la, .double ea, .ref gl, .int ln, .int fd])), (gs, aI 4 (cA 4) sf), (go, aD 16 (cA 1) uf)] sz) [(am, .inr (2, [.int ((f_X2_orbit sf x1 x2 x3 x4 x5).2), .int wo, .int fu, .ref gs, .ref go, .ref gt, .ref gp, .ref gw, .double la, .double ea, .ref gl, .int ln, .int fd])), (gs, aI 4 (cA 4) (if (f_X2_orbit sf x1 x2 x3 x4 x5).2 = 0 then upd sf (Int32.toNatClampNeg x1) (vp_nar .boolean 1) else sf)), (go, aD 16 (cA 1) (if (f_X2_orbit sf x1 x2 x3 x4 x5).2 = 0 then vf_upd (vf_upd (vf_upd (vf_upd uf (4 * (Int32.toNatClampNeg x1)) x2) (4 * (Int32.toNatClampNeg x1) + 1) x3) (4 * (Int32.toNatClampNeg x1) + 2) x4) (4 * (Int32.toNatClampNeg x1) + 3) x5 else uf))] t) (va_A [(am, .inr (2, [.int th, .int wo, .int fu, .ref gs, .ref go, .ref gt, .ref gp, .ref gw, .double la, .double ea, .ref gl, .int ln, .int fd])), (gs, aI 4 (cA 4) sf), (go, aD 16 (cA 1) uf)] sz)) 0 0 (va_A [(am, .inr (2, [.int th, .int wo, .int fu, .ref gs, .ref go, .ref gt, .ref gp, .ref gw, .double la, .double ea, .ref gl, .int ln, .int fd])), (gs, aI 4 (cA 4) sf), (go, aD 16 (cA 1) uf)] sz) := by
  refine Met.ofW (cc := cX2_orbit) (maxL := 11) (ret := (some .boolean)) (by decide) rfl ?_
  intro p e s m args below meth c s₁ B hml hv
  obtain ⟨rfl, hsz, hP, hK, hD0, hE⟩ := hv
  subst hsz
  have hD := hD0.self (sz := s.heap.size)
  generalize hAe : va_A [(am, .inr (2, [.int th, .int wo, .int fu, .ref gs, .ref go, .ref gt, .ref gp, .ref gw, .double la, .double ea, .ref gl, .int ln, .int fd])), (gs, aI 4 (cA 4) sf), (go, aD 16 (cA 1) uf)] s.heap.size = A at hD hE ⊢
  have hA : ∀ q : Nat, s.heap.size ≤ q → A q := fun q h => by rw [← hAe]; exact Or.inr h
  have hS : va_S A s.heap s.heap [] := va_S.rf
  have hP : va_P (dC, dI) vwCl [(am, .inr (2, [.int th, .int wo, .int fu, .ref gs, .ref go, .ref gt, .ref gp, .ref gw, .double la, .double ea, .ref gl, .int ln, .int fd])), (gs, aI 4 (cA 4) sf), (go, aD 16 (cA 1) uf)] s.heap := hP
  have hx := B.exec
  have hb := B.bytes
  have hr := B.returns
  have hts := atoms_spec (ws := wsX2_orbit) B.pre
  have hown : s.vm.findClass RX2 = some m.cls := findClass_of_methodNamed B.named
  have hlocks := B.notSynchronized
  have hl := lv_entry ([.ref am, .int x1, .double x2, .double x3, .double x4, .double x5]) (n := 11) (Nat.le_of_ble_eq_true rfl)
  rw [lg_entry_eq]
  generalize (lg_sl ([.ref am, .int x1, .double x2, .double x3, .double x4, .double x5]) ++ List.replicate (11 - (lg_sl ([.ref am, .int x1, .double x2, .double x3, .double x4, .double x5])).length) Slot.unset).toArray = ls at hl ⊢
  have hl : lv_has ls 11 [(0, .ref am), (1, .int x1), (2, .double x2), (4, .double x3), (6, .double x4), (8, .double x5)] := hl
  have hin2 : ∀ w ∈ u_ws RX2 TX2 13, w ∈ wsX2_orbit := by decide +kernel
  refine lv_aload_n hx hb dX2_orbit_0 rfl (lv_at hl 0 rfl) ?_
  refine lv_iconst (v := 0) hx hb dX2_orbit_1 (by decide) ?_
  refine va_put (D := (dC, dI)) (ci := 2) (v := .int 0) (ty := .int) (C := RX2) (T := TX2) (N := 13) hx hb hts hin2 tyX2 tyX2_ok nmX2 hown hK hP hD hS 0 rfl rfl 0 (by decide) (hts (.fieldLink RX2 30 "SkyAlmanacModel" "thrown" "I") (by decide +kernel)) (fun _ h9 => h9) rfl (by decide +kernel) rfl rfl (Nat.le_of_ble_eq_true rfl) dX2_orbit_2 (fun H locs hP hD hS => ?_)
  have hP : va_P (dC, dI) vwCl [(am, .inr (2, [.int 0, .int wo, .int fu, .ref gs, .ref go, .ref gt, .ref gp, .ref gw, .double la, .double ea, .ref gl, .int ln, .int fd])), (gs, aI 4 (cA 4) sf), (go, aD 16 (cA 1) uf)] H := hP
  have hD : va_D A [(am, .inr (2, [.int 0, .int wo, .int fu, .ref gs, .ref go, .ref gt, .ref gp, .ref gw, .double la, .double ea, .ref gl, .int ln, .int fd])), (gs, aI 4 (cA 4) sf), (go, aD 16 (cA 1) uf)] := hD
  refine lv_iload_n hx hb dX2_orbit_5 rfl (lv_at hl 1 rfl) ?_
  refine lv_if_lt (tgt := 14) hx hb dX2_orbit_6 (by decide) (fun c_1 => ?_) (fun c_1 => ?_)
  · refine lv_aload_n hx hb dX2_orbit_14 rfl (lv_at hl 0 rfl) ?_
    refine lv_iconst (v := 1) hx hb dX2_orbit_15 (by decide) ?_
    have hPc := hP.sub (ws' := [(am, .inr (2, [.int 0, .int wo, .int fu, .ref gs, .ref go, .ref gt, .ref gp, .ref gw, .double la, .double ea, .ref gl, .int ln, .int fd]))]) [0] rfl
    have hDc := hD.sub (ws' := [(am, .inr (2, [.int 0, .int wo, .int fu, .ref gs, .ref go, .ref gt, .ref gp, .ref gw, .double la, .double ea, .ref gl, .int ln, .int fd]))]) [0] (by decide) rfl
    have hFc := va_free (wc := [(am, .inr (2, [.int 0, .int wo, .int fu, .ref gs, .ref go, .ref gt, .ref gp, .ref gw, .double la, .double ea, .ref gl, .int ln, .int fd]))]) hD hS hA [0] rfl
    refine va_calli (va_runV (As := [.int 1]) (rest := []) ⟨hx, hb, hml, hown, hts⟩ (k_X2_fail l hst dC dI cA tm tt _ am gs go gt gp gw gl 0 wo fu la ea ln fd 1) (cwV 1 hts gX2_orbit_X2_fail rfl rfl rfl (by decide +kernel) ⟨Nat.le_of_ble_eq_true rfl, Nat.le_of_ble_eq_true rfl⟩) ⟨PcW.blind, va_recv hK hPc (ci := 2) (q0 := 0) rfl rfl, PcW.give hPc hK hDc hE hS hFc⟩ rfl rfl hl.1 rfl (lv_room (Nat.le_of_ble_eq_true rfl)) dX2_orbit_16 ⟨Nat.le_of_ble_eq_true rfl, Nat.le_of_ble_eq_true rfl⟩) hS (fun q _ h => hFc q h) hFc (fun v_2 u t H locs ht hvm hp_3 hB hz1 hk1 hS => ?_)
    obtain ⟨hP1, hD1⟩ := hB
    rw [ht] at hP1
    obtain ⟨hP, hD⟩ := va_join (wr := [(gs, aI 4 (cA 4) sf), (go, aD 16 (cA 1) uf)]) (w1 := [(am, .inr (2, [.int 1, .int wo, .int fu, .ref gs, .ref go, .ref gt, .ref gp, .ref gw, .double la, .double ea, .ref gl, .int ln, .int fd]))]) hP hD [0] [1, 2] rfl rfl (by decide) (by decide) hk1 hFc hP1 hD1
    have hP := hP.sub (ws' := [(am, .inr (2, [.int 1, .int wo, .int fu, .ref gs, .ref go, .ref gt, .ref gp, .ref gw, .double la, .double ea, .ref gl, .int ln, .int fd])), (gs, aI 4 (cA 4) sf), (go, aD 16 (cA 1) uf)]) [2, 0, 1] rfl
    have hD := hD.sub (ws' := [(am, .inr (2, [.int 1, .int wo, .int fu, .ref gs, .ref go, .ref gt, .ref gp, .ref gw, .double la, .double ea, .ref gl, .int ln, .int fd])), (gs, aI 4 (cA 4) sf), (go, aD 16 (cA 1) uf)]) [2, 0, 1] (by decide) rfl
    obtain rfl := hp_3
    refine lv_if_le (tgt := 26) hx hb dX2_orbit_19 (by decide) (fun _ => ?_) (fun c_4 => absurd c_4 (by decide))
    refine lv_iconst (v := 0) hx hb dX2_orbit_26 (by decide) ?_
    have e0 : f_X2_orbit sf x1 x2 x3 x4 x5 = (0, 1) := by unfold f_X2_orbit; rw [if_pos c_1]
    have e1 : (f_X2_orbit sf x1 x2 x3 x4 x5).2 = 1 := by rw [e0]
    have hP : va_P (dC, dI) vwCl [(am, .inr (2, [.int ((f_X2_orbit sf x1 x2 x3 x4 x5).2), .int wo, .int fu, .ref gs, .ref go, .ref gt, .ref gp, .ref gw, .double la, .double ea, .ref gl, .int ln, .int fd])), (gs, aI 4 (cA 4) (if (f_X2_orbit sf x1 x2 x3 x4 x5).2 = 0 then upd sf (Int32.toNatClampNeg x1) (vp_nar .boolean 1) else sf)), (go, aD 16 (cA 1) (if (f_X2_orbit sf x1 x2 x3 x4 x5).2 = 0 then vf_upd (vf_upd (vf_upd (vf_upd uf (4 * (Int32.toNatClampNeg x1)) x2) (4 * (Int32.toNatClampNeg x1) + 1) x3) (4 * (Int32.toNatClampNeg x1) + 2) x4) (4 * (Int32.toNatClampNeg x1) + 3) x5 else uf))] H := by simp only [if_neg (show ¬ (f_X2_orbit sf x1 x2 x3 x4 x5).2 = 0 by rw [e1]; decide)]; rw [e1]; exact hP
    have hD : va_D A [(am, .inr (2, [.int ((f_X2_orbit sf x1 x2 x3 x4 x5).2), .int wo, .int fu, .ref gs, .ref go, .ref gt, .ref gp, .ref gw, .double la, .double ea, .ref gl, .int ln, .int fd])), (gs, aI 4 (cA 4) (if (f_X2_orbit sf x1 x2 x3 x4 x5).2 = 0 then upd sf (Int32.toNatClampNeg x1) (vp_nar .boolean 1) else sf)), (go, aD 16 (cA 1) (if (f_X2_orbit sf x1 x2 x3 x4 x5).2 = 0 then vf_upd (vf_upd (vf_upd (vf_upd uf (4 * (Int32.toNatClampNeg x1)) x2) (4 * (Int32.toNatClampNeg x1) + 1) x3) (4 * (Int32.toNatClampNeg x1) + 2) x4) (4 * (Int32.toNatClampNeg x1) + 3) x5 else uf))] := by simp only [if_neg (show ¬ (f_X2_orbit sf x1 x2 x3 x4 x5).2 = 0 by rw [e1]; decide)]; rw [e1]; exact hD
    exact W.zret hx hb hr rfl (fun t ht hW => ⟨⟨_, (), rfl, (congrArg Prod.fst e0), ⟨by rw [ht]; exact hP, hD⟩⟩, hS.F ht⟩) hS.2.2 dX2_orbit_27
  · refine lv_iload_n hx hb dX2_orbit_9 rfl (lv_at hl 1 rfl) ?_
    refine lv_iconst (v := 3) hx hb dX2_orbit_10 (by decide) ?_
    refine lv_icmp_le (tgt := 28) hx hb dX2_orbit_11 (by decide) (fun c_5 => ?_) (fun c_5 => ?_)
    · refine lv_dload_n hx hb dX2_orbit_28 rfl (lv_at hl 2 rfl) ?_
      refine lv_ldc2d hx hb hown (hts (.constantDouble RX2 154 (13868412840022376448)) (by decide +kernel)) dX2_orbit_29 ?_
      have r_6 : fR 13868412840022376448 (-386547056640) (-386547056640) := fR_lit (by decide +kernel)
      refine lv_ldc2d hx hb hown (hts (.constantDouble RX2 114 (4645040803167600640)) (by decide +kernel)) dX2_orbit_32 ?_
      have r_7 : fR 4645040803167600640 386547056640 386547056640 := fR_lit (by decide +kernel)
      refine vp_callSi (W.runS (As := [.double x2, .double 13868412840022376448, .double 4645040803167600640]) (rest := []) ⟨hx, hb, hml, hown, hts⟩ (k_X2_within l x2 13868412840022376448 4645040803167600640) (va_cwS 3 hts gX2_orbit_X2_within rfl rfl rfl (by decide +kernel) ⟨Nat.le_of_ble_eq_true rfl, Nat.le_of_ble_eq_true rfl⟩) preEq rfl rfl hl.1 rfl (lv_room (Nat.le_of_ble_eq_true rfl)) dX2_orbit_35 ⟨Nat.le_of_ble_eq_true rfl, Nat.le_of_ble_eq_true rfl⟩) (fun r hr9 => ?_)
      obtain rfl := hr9
      refine lv_if_eq (tgt := 81) hx hb dX2_orbit_38 (by decide) (fun c_8 => ?_) (fun c_8 => ?_)
      · refine lv_aload_n hx hb dX2_orbit_81 rfl (lv_at hl 0 rfl) ?_
        refine lv_iconst (v := 2) hx hb dX2_orbit_82 (by decide) ?_
        have hPc := hP.sub (ws' := [(am, .inr (2, [.int 0, .int wo, .int fu, .ref gs, .ref go, .ref gt, .ref gp, .ref gw, .double la, .double ea, .ref gl, .int ln, .int fd]))]) [0] rfl
        have hDc := hD.sub (ws' := [(am, .inr (2, [.int 0, .int wo, .int fu, .ref gs, .ref go, .ref gt, .ref gp, .ref gw, .double la, .double ea, .ref gl, .int ln, .int fd]))]) [0] (by decide) rfl
        have hFc := va_free (wc := [(am, .inr (2, [.int 0, .int wo, .int fu, .ref gs, .ref go, .ref gt, .ref gp, .ref gw, .double la, .double ea, .ref gl, .int ln, .int fd]))]) hD hS hA [0] rfl
        refine va_calli (va_runV (As := [.int 2]) (rest := []) ⟨hx, hb, hml, hown, hts⟩ (k_X2_fail l hst dC dI cA tm tt _ am gs go gt gp gw gl 0 wo fu la ea ln fd 2) (cwV 1 hts gX2_orbit_X2_fail rfl rfl rfl (by decide +kernel) ⟨Nat.le_of_ble_eq_true rfl, Nat.le_of_ble_eq_true rfl⟩) ⟨PcW.blind, va_recv hK hPc (ci := 2) (q0 := 0) rfl rfl, PcW.give hPc hK hDc hE hS hFc⟩ rfl rfl hl.1 rfl (lv_room (Nat.le_of_ble_eq_true rfl)) dX2_orbit_83 ⟨Nat.le_of_ble_eq_true rfl, Nat.le_of_ble_eq_true rfl⟩) hS (fun q _ h => hFc q h) hFc (fun v_9 u t H locs ht hvm hp_10 hB hz1 hk1 hS => ?_)
        obtain ⟨hP1, hD1⟩ := hB
        rw [ht] at hP1
        obtain ⟨hP, hD⟩ := va_join (wr := [(gs, aI 4 (cA 4) sf), (go, aD 16 (cA 1) uf)]) (w1 := [(am, .inr (2, [.int 2, .int wo, .int fu, .ref gs, .ref go, .ref gt, .ref gp, .ref gw, .double la, .double ea, .ref gl, .int ln, .int fd]))]) hP hD [0] [1, 2] rfl rfl (by decide) (by decide) hk1 hFc hP1 hD1
        have hP := hP.sub (ws' := [(am, .inr (2, [.int 2, .int wo, .int fu, .ref gs, .ref go, .ref gt, .ref gp, .ref gw, .double la, .double ea, .ref gl, .int ln, .int fd])), (gs, aI 4 (cA 4) sf), (go, aD 16 (cA 1) uf)]) [2, 0, 1] rfl
        have hD := hD.sub (ws' := [(am, .inr (2, [.int 2, .int wo, .int fu, .ref gs, .ref go, .ref gt, .ref gp, .ref gw, .double la, .double ea, .ref gl, .int ln, .int fd])), (gs, aI 4 (cA 4) sf), (go, aD 16 (cA 1) uf)]) [2, 0, 1] (by decide) rfl
        obtain rfl := hp_10
        refine lv_if_le (tgt := 93) hx hb dX2_orbit_86 (by decide) (fun _ => ?_) (fun c_11 => absurd c_11 (by decide))
        refine lv_iconst (v := 0) hx hb dX2_orbit_93 (by decide) ?_
        have e0 : f_X2_orbit sf x1 x2 x3 x4 x5 = (0, 2) := by unfold f_X2_orbit; rw [if_neg c_1, if_pos c_5, if_pos c_8]
        have e1 : (f_X2_orbit sf x1 x2 x3 x4 x5).2 = 2 := by rw [e0]
        have hP : va_P (dC, dI) vwCl [(am, .inr (2, [.int ((f_X2_orbit sf x1 x2 x3 x4 x5).2), .int wo, .int fu, .ref gs, .ref go, .ref gt, .ref gp, .ref gw, .double la, .double ea, .ref gl, .int ln, .int fd])), (gs, aI 4 (cA 4) (if (f_X2_orbit sf x1 x2 x3 x4 x5).2 = 0 then upd sf (Int32.toNatClampNeg x1) (vp_nar .boolean 1) else sf)), (go, aD 16 (cA 1) (if (f_X2_orbit sf x1 x2 x3 x4 x5).2 = 0 then vf_upd (vf_upd (vf_upd (vf_upd uf (4 * (Int32.toNatClampNeg x1)) x2) (4 * (Int32.toNatClampNeg x1) + 1) x3) (4 * (Int32.toNatClampNeg x1) + 2) x4) (4 * (Int32.toNatClampNeg x1) + 3) x5 else uf))] H := by simp only [if_neg (show ¬ (f_X2_orbit sf x1 x2 x3 x4 x5).2 = 0 by rw [e1]; decide)]; rw [e1]; exact hP
        have hD : va_D A [(am, .inr (2, [.int ((f_X2_orbit sf x1 x2 x3 x4 x5).2), .int wo, .int fu, .ref gs, .ref go, .ref gt, .ref gp, .ref gw, .double la, .double ea, .ref gl, .int ln, .int fd])), (gs, aI 4 (cA 4) (if (f_X2_orbit sf x1 x2 x3 x4 x5).2 = 0 then upd sf (Int32.toNatClampNeg x1) (vp_nar .boolean 1) else sf)), (go, aD 16 (cA 1) (if (f_X2_orbit sf x1 x2 x3 x4 x5).2 = 0 then vf_upd (vf_upd (vf_upd (vf_upd uf (4 * (Int32.toNatClampNeg x1)) x2) (4 * (Int32.toNatClampNeg x1) + 1) x3) (4 * (Int32.toNatClampNeg x1) + 2) x4) (4 * (Int32.toNatClampNeg x1) + 3) x5 else uf))] := by simp only [if_neg (show ¬ (f_X2_orbit sf x1 x2 x3 x4 x5).2 = 0 by rw [e1]; decide)]; rw [e1]; exact hD
        exact W.zret hx hb hr rfl (fun t ht hW => ⟨⟨_, (), rfl, (congrArg Prod.fst e0), ⟨by rw [ht]; exact hP, hD⟩⟩, hS.F ht⟩) hS.2.2 dX2_orbit_94
      · refine lv_dload hx hb dX2_orbit_41 (lv_at hl 5 rfl) ?_
        refine lv_ldc2d hx hb hown (hts (.constantDouble RX2 154 (13868412840022376448)) (by decide +kernel)) dX2_orbit_43 ?_
        have r_12 : fR 13868412840022376448 (-386547056640) (-386547056640) := fR_lit (by decide +kernel)
        refine lv_ldc2d hx hb hown (hts (.constantDouble RX2 114 (4645040803167600640)) (by decide +kernel)) dX2_orbit_46 ?_
        have r_13 : fR 4645040803167600640 386547056640 386547056640 := fR_lit (by decide +kernel)
        refine vp_callSi (W.runS (As := [.double x5, .double 13868412840022376448, .double 4645040803167600640]) (rest := []) ⟨hx, hb, hml, hown, hts⟩ (k_X2_within l x5 13868412840022376448 4645040803167600640) (va_cwS 3 hts gX2_orbit_X2_within rfl rfl rfl (by decide +kernel) ⟨Nat.le_of_ble_eq_true rfl, Nat.le_of_ble_eq_true rfl⟩) preEq rfl rfl hl.1 rfl (lv_room (Nat.le_of_ble_eq_true rfl)) dX2_orbit_49 ⟨Nat.le_of_ble_eq_true rfl, Nat.le_of_ble_eq_true rfl⟩) (fun r hr9 => ?_)
        obtain rfl := hr9
        refine lv_if_eq (tgt := 81) hx hb dX2_orbit_52 (by decide) (fun c_14 => ?_) (fun c_14 => ?_)
        · refine lv_aload_n hx hb dX2_orbit_81 rfl (lv_at hl 0 rfl) ?_
          refine lv_iconst (v := 2) hx hb dX2_orbit_82 (by decide) ?_
          have hPc := hP.sub (ws' := [(am, .inr (2, [.int 0, .int wo, .int fu, .ref gs, .ref go, .ref gt, .ref gp, .ref gw, .double la, .double ea, .ref gl, .int ln, .int fd]))]) [0] rfl
          have hDc := hD.sub (ws' := [(am, .inr (2, [.int 0, .int wo, .int fu, .ref gs, .ref go, .ref gt, .ref gp, .ref gw, .double la, .double ea, .ref gl, .int ln, .int fd]))]) [0] (by decide) rfl
          have hFc := va_free (wc := [(am, .inr (2, [.int 0, .int wo, .int fu, .ref gs, .ref go, .ref gt, .ref gp, .ref gw, .double la, .double ea, .ref gl, .int ln, .int fd]))]) hD hS hA [0] rfl
          refine va_calli (va_runV (As := [.int 2]) (rest := []) ⟨hx, hb, hml, hown, hts⟩ (k_X2_fail l hst dC dI cA tm tt _ am gs go gt gp gw gl 0 wo fu la ea ln fd 2) (cwV 1 hts gX2_orbit_X2_fail rfl rfl rfl (by decide +kernel) ⟨Nat.le_of_ble_eq_true rfl, Nat.le_of_ble_eq_true rfl⟩) ⟨PcW.blind, va_recv hK hPc (ci := 2) (q0 := 0) rfl rfl, PcW.give hPc hK hDc hE hS hFc⟩ rfl rfl hl.1 rfl (lv_room (Nat.le_of_ble_eq_true rfl)) dX2_orbit_83 ⟨Nat.le_of_ble_eq_true rfl, Nat.le_of_ble_eq_true rfl⟩) hS (fun q _ h => hFc q h) hFc (fun v_15 u t H locs ht hvm hp_16 hB hz1 hk1 hS => ?_)
          obtain ⟨hP1, hD1⟩ := hB
          rw [ht] at hP1
          obtain ⟨hP, hD⟩ := va_join (wr := [(gs, aI 4 (cA 4) sf), (go, aD 16 (cA 1) uf)]) (w1 := [(am, .inr (2, [.int 2, .int wo, .int fu, .ref gs, .ref go, .ref gt, .ref gp, .ref gw, .double la, .double ea, .ref gl, .int ln, .int fd]))]) hP hD [0] [1, 2] rfl rfl (by decide) (by decide) hk1 hFc hP1 hD1
          have hP := hP.sub (ws' := [(am, .inr (2, [.int 2, .int wo, .int fu, .ref gs, .ref go, .ref gt, .ref gp, .ref gw, .double la, .double ea, .ref gl, .int ln, .int fd])), (gs, aI 4 (cA 4) sf), (go, aD 16 (cA 1) uf)]) [2, 0, 1] rfl
          have hD := hD.sub (ws' := [(am, .inr (2, [.int 2, .int wo, .int fu, .ref gs, .ref go, .ref gt, .ref gp, .ref gw, .double la, .double ea, .ref gl, .int ln, .int fd])), (gs, aI 4 (cA 4) sf), (go, aD 16 (cA 1) uf)]) [2, 0, 1] (by decide) rfl
          obtain rfl := hp_16
          refine lv_if_le (tgt := 93) hx hb dX2_orbit_86 (by decide) (fun _ => ?_) (fun c_17 => absurd c_17 (by decide))
          refine lv_iconst (v := 0) hx hb dX2_orbit_93 (by decide) ?_
          have e0 : f_X2_orbit sf x1 x2 x3 x4 x5 = (0, 2) := by unfold f_X2_orbit; rw [if_neg c_1, if_pos c_5, if_neg c_8, if_pos c_14]
          have e1 : (f_X2_orbit sf x1 x2 x3 x4 x5).2 = 2 := by rw [e0]
          have hP : va_P (dC, dI) vwCl [(am, .inr (2, [.int ((f_X2_orbit sf x1 x2 x3 x4 x5).2), .int wo, .int fu, .ref gs, .ref go, .ref gt, .ref gp, .ref gw, .double la, .double ea, .ref gl, .int ln, .int fd])), (gs, aI 4 (cA 4) (if (f_X2_orbit sf x1 x2 x3 x4 x5).2 = 0 then upd sf (Int32.toNatClampNeg x1) (vp_nar .boolean 1) else sf)), (go, aD 16 (cA 1) (if (f_X2_orbit sf x1 x2 x3 x4 x5).2 = 0 then vf_upd (vf_upd (vf_upd (vf_upd uf (4 * (Int32.toNatClampNeg x1)) x2) (4 * (Int32.toNatClampNeg x1) + 1) x3) (4 * (Int32.toNatClampNeg x1) + 2) x4) (4 * (Int32.toNatClampNeg x1) + 3) x5 else uf))] H := by simp only [if_neg (show ¬ (f_X2_orbit sf x1 x2 x3 x4 x5).2 = 0 by rw [e1]; decide)]; rw [e1]; exact hP
          have hD : va_D A [(am, .inr (2, [.int ((f_X2_orbit sf x1 x2 x3 x4 x5).2), .int wo, .int fu, .ref gs, .ref go, .ref gt, .ref gp, .ref gw, .double la, .double ea, .ref gl, .int ln, .int fd])), (gs, aI 4 (cA 4) (if (f_X2_orbit sf x1 x2 x3 x4 x5).2 = 0 then upd sf (Int32.toNatClampNeg x1) (vp_nar .boolean 1) else sf)), (go, aD 16 (cA 1) (if (f_X2_orbit sf x1 x2 x3 x4 x5).2 = 0 then vf_upd (vf_upd (vf_upd (vf_upd uf (4 * (Int32.toNatClampNeg x1)) x2) (4 * (Int32.toNatClampNeg x1) + 1) x3) (4 * (Int32.toNatClampNeg x1) + 2) x4) (4 * (Int32.toNatClampNeg x1) + 3) x5 else uf))] := by simp only [if_neg (show ¬ (f_X2_orbit sf x1 x2 x3 x4 x5).2 = 0 by rw [e1]; decide)]; rw [e1]; exact hD
          exact W.zret hx hb hr rfl (fun t ht hW => ⟨⟨_, (), rfl, (congrArg Prod.fst e0), ⟨by rw [ht]; exact hP, hD⟩⟩, hS.F ht⟩) hS.2.2 dX2_orbit_94
        · refine lv_dload hx hb dX2_orbit_55 (lv_at hl 3 rfl) ?_
          refine lv_ldc2d hx hb hown (hts (.constantDouble RX2 160 (13860109328209412096)) (by decide +kernel)) dX2_orbit_57 ?_
          have r_18 : fR 13860109328209412096 (-107374182400) (-107374182400) := fR_lit (by decide +kernel)
          refine lv_ldc2d hx hb hown (hts (.constantDouble RX2 162 (4636737291354636288)) (by decide +kernel)) dX2_orbit_60 ?_
          have r_19 : fR 4636737291354636288 107374182400 107374182400 := fR_lit (by decide +kernel)
          refine vp_callSi (W.runS (As := [.double x3, .double 13860109328209412096, .double 4636737291354636288]) (rest := []) ⟨hx, hb, hml, hown, hts⟩ (k_X2_within l x3 13860109328209412096 4636737291354636288) (va_cwS 3 hts gX2_orbit_X2_within rfl rfl rfl (by decide +kernel) ⟨Nat.le_of_ble_eq_true rfl, Nat.le_of_ble_eq_true rfl⟩) preEq rfl rfl hl.1 rfl (lv_room (Nat.le_of_ble_eq_true rfl)) dX2_orbit_63 ⟨Nat.le_of_ble_eq_true rfl, Nat.le_of_ble_eq_true rfl⟩) (fun r hr9 => ?_)
          obtain rfl := hr9
          refine lv_if_eq (tgt := 81) hx hb dX2_orbit_66 (by decide) (fun c_20 => ?_) (fun c_20 => ?_)
          · refine lv_aload_n hx hb dX2_orbit_81 rfl (lv_at hl 0 rfl) ?_
            refine lv_iconst (v := 2) hx hb dX2_orbit_82 (by decide) ?_
            have hPc := hP.sub (ws' := [(am, .inr (2, [.int 0, .int wo, .int fu, .ref gs, .ref go, .ref gt, .ref gp, .ref gw, .double la, .double ea, .ref gl, .int ln, .int fd]))]) [0] rfl
            have hDc := hD.sub (ws' := [(am, .inr (2, [.int 0, .int wo, .int fu, .ref gs, .ref go, .ref gt, .ref gp, .ref gw, .double la, .double ea, .ref gl, .int ln, .int fd]))]) [0] (by decide) rfl
            have hFc := va_free (wc := [(am, .inr (2, [.int 0, .int wo, .int fu, .ref gs, .ref go, .ref gt, .ref gp, .ref gw, .double la, .double ea, .ref gl, .int ln, .int fd]))]) hD hS hA [0] rfl
            refine va_calli (va_runV (As := [.int 2]) (rest := []) ⟨hx, hb, hml, hown, hts⟩ (k_X2_fail l hst dC dI cA tm tt _ am gs go gt gp gw gl 0 wo fu la ea ln fd 2) (cwV 1 hts gX2_orbit_X2_fail rfl rfl rfl (by decide +kernel) ⟨Nat.le_of_ble_eq_true rfl, Nat.le_of_ble_eq_true rfl⟩) ⟨PcW.blind, va_recv hK hPc (ci := 2) (q0 := 0) rfl rfl, PcW.give hPc hK hDc hE hS hFc⟩ rfl rfl hl.1 rfl (lv_room (Nat.le_of_ble_eq_true rfl)) dX2_orbit_83 ⟨Nat.le_of_ble_eq_true rfl, Nat.le_of_ble_eq_true rfl⟩) hS (fun q _ h => hFc q h) hFc (fun v_21 u t H locs ht hvm hp_22 hB hz1 hk1 hS => ?_)
            obtain ⟨hP1, hD1⟩ := hB
            rw [ht] at hP1
            obtain ⟨hP, hD⟩ := va_join (wr := [(gs, aI 4 (cA 4) sf), (go, aD 16 (cA 1) uf)]) (w1 := [(am, .inr (2, [.int 2, .int wo, .int fu, .ref gs, .ref go, .ref gt, .ref gp, .ref gw, .double la, .double ea, .ref gl, .int ln, .int fd]))]) hP hD [0] [1, 2] rfl rfl (by decide) (by decide) hk1 hFc hP1 hD1
            have hP := hP.sub (ws' := [(am, .inr (2, [.int 2, .int wo, .int fu, .ref gs, .ref go, .ref gt, .ref gp, .ref gw, .double la, .double ea, .ref gl, .int ln, .int fd])), (gs, aI 4 (cA 4) sf), (go, aD 16 (cA 1) uf)]) [2, 0, 1] rfl
            have hD := hD.sub (ws' := [(am, .inr (2, [.int 2, .int wo, .int fu, .ref gs, .ref go, .ref gt, .ref gp, .ref gw, .double la, .double ea, .ref gl, .int ln, .int fd])), (gs, aI 4 (cA 4) sf), (go, aD 16 (cA 1) uf)]) [2, 0, 1] (by decide) rfl
            obtain rfl := hp_22
            refine lv_if_le (tgt := 93) hx hb dX2_orbit_86 (by decide) (fun _ => ?_) (fun c_23 => absurd c_23 (by decide))
            refine lv_iconst (v := 0) hx hb dX2_orbit_93 (by decide) ?_
            have e0 : f_X2_orbit sf x1 x2 x3 x4 x5 = (0, 2) := by unfold f_X2_orbit; rw [if_neg c_1, if_pos c_5, if_neg c_8, if_neg c_14, if_pos c_20]
            have e1 : (f_X2_orbit sf x1 x2 x3 x4 x5).2 = 2 := by rw [e0]
            have hP : va_P (dC, dI) vwCl [(am, .inr (2, [.int ((f_X2_orbit sf x1 x2 x3 x4 x5).2), .int wo, .int fu, .ref gs, .ref go, .ref gt, .ref gp, .ref gw, .double la, .double ea, .ref gl, .int ln, .int fd])), (gs, aI 4 (cA 4) (if (f_X2_orbit sf x1 x2 x3 x4 x5).2 = 0 then upd sf (Int32.toNatClampNeg x1) (vp_nar .boolean 1) else sf)), (go, aD 16 (cA 1) (if (f_X2_orbit sf x1 x2 x3 x4 x5).2 = 0 then vf_upd (vf_upd (vf_upd (vf_upd uf (4 * (Int32.toNatClampNeg x1)) x2) (4 * (Int32.toNatClampNeg x1) + 1) x3) (4 * (Int32.toNatClampNeg x1) + 2) x4) (4 * (Int32.toNatClampNeg x1) + 3) x5 else uf))] H := by simp only [if_neg (show ¬ (f_X2_orbit sf x1 x2 x3 x4 x5).2 = 0 by rw [e1]; decide)]; rw [e1]; exact hP
            have hD : va_D A [(am, .inr (2, [.int ((f_X2_orbit sf x1 x2 x3 x4 x5).2), .int wo, .int fu, .ref gs, .ref go, .ref gt, .ref gp, .ref gw, .double la, .double ea, .ref gl, .int ln, .int fd])), (gs, aI 4 (cA 4) (if (f_X2_orbit sf x1 x2 x3 x4 x5).2 = 0 then upd sf (Int32.toNatClampNeg x1) (vp_nar .boolean 1) else sf)), (go, aD 16 (cA 1) (if (f_X2_orbit sf x1 x2 x3 x4 x5).2 = 0 then vf_upd (vf_upd (vf_upd (vf_upd uf (4 * (Int32.toNatClampNeg x1)) x2) (4 * (Int32.toNatClampNeg x1) + 1) x3) (4 * (Int32.toNatClampNeg x1) + 2) x4) (4 * (Int32.toNatClampNeg x1) + 3) x5 else uf))] := by simp only [if_neg (show ¬ (f_X2_orbit sf x1 x2 x3 x4 x5).2 = 0 by rw [e1]; decide)]; rw [e1]; exact hD
            exact W.zret hx hb hr rfl (fun t ht hW => ⟨⟨_, (), rfl, (congrArg Prod.fst e0), ⟨by rw [ht]; exact hP, hD⟩⟩, hS.F ht⟩) hS.2.2 dX2_orbit_94
          · refine lv_dload hx hb dX2_orbit_69 (lv_at hl 4 rfl) ?_
            refine lv_dconst0 hx hb dX2_orbit_71 ?_
            have r_24 : fR FP.dconst0 0 0 := fR_lit (by decide +kernel)
            refine lv_ldc2d hx hb hown (hts (.constantDouble RX2 164 (4604930618986332160)) (by decide +kernel)) dX2_orbit_72 ?_
            have r_25 : fR 4604930618986332160 805306368 805306368 := fR_lit (by decide +kernel)
            refine vp_callSi (W.runS (As := [.double x4, .double FP.dconst0, .double 4604930618986332160]) (rest := []) ⟨hx, hb, hml, hown, hts⟩ (k_X2_within l x4 FP.dconst0 4604930618986332160) (va_cwS 3 hts gX2_orbit_X2_within rfl rfl rfl (by decide +kernel) ⟨Nat.le_of_ble_eq_true rfl, Nat.le_of_ble_eq_true rfl⟩) preEq rfl rfl hl.1 rfl (lv_room (Nat.le_of_ble_eq_true rfl)) dX2_orbit_75 ⟨Nat.le_of_ble_eq_true rfl, Nat.le_of_ble_eq_true rfl⟩) (fun r hr9 => ?_)
            obtain rfl := hr9
            refine lv_if_ne (tgt := 95) hx hb dX2_orbit_78 (by decide) (fun c_26 => ?_) (fun c_26 => ?_)
            · have hb4 := (bN_all c_1 (le_in c_1 c_5)).1
              refine lv_aload_n hx hb dX2_orbit_95 rfl (lv_at hl 0 rfl) ?_
              refine va_get (D := (dC, dI)) (ci := 2) (v := .ref go) (C := RX2) (T := TX2) (N := 13) hx hb hts hin2 hown hK hP 0 rfl rfl 4 (by decide) (hts (.fieldLink RX2 13 "SkyAlmanacModel" "orbits" "[D") (by decide +kernel)) (fun _ h9 => h9) rfl dX2_orbit_96 ?_
              refine lv_iconst (v := 4) hx hb dX2_orbit_99 (by decide) ?_
              refine lv_iload_n hx hb dX2_orbit_100 rfl (lv_at hl 1 rfl) ?_
              refine lv_imul hx hb dX2_orbit_101 ?_
              rw [ix4 c_1 (le_in c_1 c_5)]
              refine lv_dload_n hx hb dX2_orbit_102 rfl (lv_at hl 2 rfl) ?_
              refine va_dast hx hb hK hP hD hS 2 1 rfl rfl (vp_in_nI (show (4 * (Int32.toNatClampNeg x1)) < 16 by omega) (by decide)) dX2_orbit_103 (fun H locs hP hD hS => ?_)
              rw [nI_clamp (show (4 * (Int32.toNatClampNeg x1)) < 2 ^ 31 by omega)] at hP hD
              have hP : va_P (dC, dI) vwCl [(am, .inr (2, [.int 0, .int wo, .int fu, .ref gs, .ref go, .ref gt, .ref gp, .ref gw, .double la, .double ea, .ref gl, .int ln, .int fd])), (gs, aI 4 (cA 4) sf), (go, aD 16 (cA 1) (vf_upd uf (4 * (Int32.toNatClampNeg x1)) x2))] H := hP
              have hD : va_D A [(am, .inr (2, [.int 0, .int wo, .int fu, .ref gs, .ref go, .ref gt, .ref gp, .ref gw, .double la, .double ea, .ref gl, .int ln, .int fd])), (gs, aI 4 (cA 4) sf), (go, aD 16 (cA 1) (vf_upd uf (4 * (Int32.toNatClampNeg x1)) x2))] := hD
              refine lv_aload_n hx hb dX2_orbit_104 rfl (lv_at hl 0 rfl) ?_
              refine va_get (D := (dC, dI)) (ci := 2) (v := .ref go) (C := RX2) (T := TX2) (N := 13) hx hb hts hin2 hown hK hP 0 rfl rfl 4 (by decide) (hts (.fieldLink RX2 13 "SkyAlmanacModel" "orbits" "[D") (by decide +kernel)) (fun _ h9 => h9) rfl dX2_orbit_105 ?_
              refine lv_iconst (v := 4) hx hb dX2_orbit_108 (by decide) ?_
              refine lv_iload_n hx hb dX2_orbit_109 rfl (lv_at hl 1 rfl) ?_
              refine lv_imul hx hb dX2_orbit_110 ?_
              rw [ix4 c_1 (le_in c_1 c_5)]
              refine lv_iconst (v := 1) hx hb dX2_orbit_111 (by decide) ?_
              refine lv_iadd hx hb dX2_orbit_112 ?_
              rw [nI_1]
              refine lv_dload hx hb dX2_orbit_113 (lv_at hl 3 rfl) ?_
              refine va_dast hx hb hK hP hD hS 2 1 rfl rfl (vp_in_nI (show (4 * (Int32.toNatClampNeg x1) + 1) < 16 by omega) (by decide)) dX2_orbit_115 (fun H locs hP hD hS => ?_)
              rw [nI_clamp (show (4 * (Int32.toNatClampNeg x1) + 1) < 2 ^ 31 by omega)] at hP hD
              have hP : va_P (dC, dI) vwCl [(am, .inr (2, [.int 0, .int wo, .int fu, .ref gs, .ref go, .ref gt, .ref gp, .ref gw, .double la, .double ea, .ref gl, .int ln, .int fd])), (gs, aI 4 (cA 4) sf), (go, aD 16 (cA 1) (vf_upd (vf_upd uf (4 * (Int32.toNatClampNeg x1)) x2) (4 * (Int32.toNatClampNeg x1) + 1) x3))] H := hP
              have hD : va_D A [(am, .inr (2, [.int 0, .int wo, .int fu, .ref gs, .ref go, .ref gt, .ref gp, .ref gw, .double la, .double ea, .ref gl, .int ln, .int fd])), (gs, aI 4 (cA 4) sf), (go, aD 16 (cA 1) (vf_upd (vf_upd uf (4 * (Int32.toNatClampNeg x1)) x2) (4 * (Int32.toNatClampNeg x1) + 1) x3))] := hD
              refine lv_aload_n hx hb dX2_orbit_116 rfl (lv_at hl 0 rfl) ?_
              refine va_get (D := (dC, dI)) (ci := 2) (v := .ref go) (C := RX2) (T := TX2) (N := 13) hx hb hts hin2 hown hK hP 0 rfl rfl 4 (by decide) (hts (.fieldLink RX2 13 "SkyAlmanacModel" "orbits" "[D") (by decide +kernel)) (fun _ h9 => h9) rfl dX2_orbit_117 ?_
              refine lv_iconst (v := 4) hx hb dX2_orbit_120 (by decide) ?_
              refine lv_iload_n hx hb dX2_orbit_121 rfl (lv_at hl 1 rfl) ?_
              refine lv_imul hx hb dX2_orbit_122 ?_
              rw [ix4 c_1 (le_in c_1 c_5)]
              refine lv_iconst (v := 2) hx hb dX2_orbit_123 (by decide) ?_
              refine lv_iadd hx hb dX2_orbit_124 ?_
              rw [nI_2]
              refine lv_dload hx hb dX2_orbit_125 (lv_at hl 4 rfl) ?_
              refine va_dast hx hb hK hP hD hS 2 1 rfl rfl (vp_in_nI (show (4 * (Int32.toNatClampNeg x1) + 2) < 16 by omega) (by decide)) dX2_orbit_127 (fun H locs hP hD hS => ?_)
              rw [nI_clamp (show (4 * (Int32.toNatClampNeg x1) + 2) < 2 ^ 31 by omega)] at hP hD
              have hP : va_P (dC, dI) vwCl [(am, .inr (2, [.int 0, .int wo, .int fu, .ref gs, .ref go, .ref gt, .ref gp, .ref gw, .double la, .double ea, .ref gl, .int ln, .int fd])), (gs, aI 4 (cA 4) sf), (go, aD 16 (cA 1) (vf_upd (vf_upd (vf_upd uf (4 * (Int32.toNatClampNeg x1)) x2) (4 * (Int32.toNatClampNeg x1) + 1) x3) (4 * (Int32.toNatClampNeg x1) + 2) x4))] H := hP
              have hD : va_D A [(am, .inr (2, [.int 0, .int wo, .int fu, .ref gs, .ref go, .ref gt, .ref gp, .ref gw, .double la, .double ea, .ref gl, .int ln, .int fd])), (gs, aI 4 (cA 4) sf), (go, aD 16 (cA 1) (vf_upd (vf_upd (vf_upd uf (4 * (Int32.toNatClampNeg x1)) x2) (4 * (Int32.toNatClampNeg x1) + 1) x3) (4 * (Int32.toNatClampNeg x1) + 2) x4))] := hD
              refine lv_aload_n hx hb dX2_orbit_128 rfl (lv_at hl 0 rfl) ?_
              refine va_get (D := (dC, dI)) (ci := 2) (v := .ref go) (C := RX2) (T := TX2) (N := 13) hx hb hts hin2 hown hK hP 0 rfl rfl 4 (by decide) (hts (.fieldLink RX2 13 "SkyAlmanacModel" "orbits" "[D") (by decide +kernel)) (fun _ h9 => h9) rfl dX2_orbit_129 ?_
              refine lv_iconst (v := 4) hx hb dX2_orbit_132 (by decide) ?_
              refine lv_iload_n hx hb dX2_orbit_133 rfl (lv_at hl 1 rfl) ?_
              refine lv_imul hx hb dX2_orbit_134 ?_
              rw [ix4 c_1 (le_in c_1 c_5)]
              refine lv_iconst (v := 3) hx hb dX2_orbit_135 (by decide) ?_
              refine lv_iadd hx hb dX2_orbit_136 ?_
              rw [nI_3]
              refine lv_dload hx hb dX2_orbit_137 (lv_at hl 5 rfl) ?_
              refine va_dast hx hb hK hP hD hS 2 1 rfl rfl (vp_in_nI (show (4 * (Int32.toNatClampNeg x1) + 3) < 16 by omega) (by decide)) dX2_orbit_139 (fun H locs hP hD hS => ?_)
              rw [nI_clamp (show (4 * (Int32.toNatClampNeg x1) + 3) < 2 ^ 31 by omega)] at hP hD
              have hP : va_P (dC, dI) vwCl [(am, .inr (2, [.int 0, .int wo, .int fu, .ref gs, .ref go, .ref gt, .ref gp, .ref gw, .double la, .double ea, .ref gl, .int ln, .int fd])), (gs, aI 4 (cA 4) sf), (go, aD 16 (cA 1) (vf_upd (vf_upd (vf_upd (vf_upd uf (4 * (Int32.toNatClampNeg x1)) x2) (4 * (Int32.toNatClampNeg x1) + 1) x3) (4 * (Int32.toNatClampNeg x1) + 2) x4) (4 * (Int32.toNatClampNeg x1) + 3) x5))] H := hP
              have hD : va_D A [(am, .inr (2, [.int 0, .int wo, .int fu, .ref gs, .ref go, .ref gt, .ref gp, .ref gw, .double la, .double ea, .ref gl, .int ln, .int fd])), (gs, aI 4 (cA 4) sf), (go, aD 16 (cA 1) (vf_upd (vf_upd (vf_upd (vf_upd uf (4 * (Int32.toNatClampNeg x1)) x2) (4 * (Int32.toNatClampNeg x1) + 1) x3) (4 * (Int32.toNatClampNeg x1) + 2) x4) (4 * (Int32.toNatClampNeg x1) + 3) x5))] := hD
              refine lv_aload_n hx hb dX2_orbit_140 rfl (lv_at hl 0 rfl) ?_
              refine va_get (D := (dC, dI)) (ci := 2) (v := .ref gs) (C := RX2) (T := TX2) (N := 13) hx hb hts hin2 hown hK hP 0 rfl rfl 3 (by decide) (hts (.fieldLink RX2 7 "SkyAlmanacModel" "set" "[Z") (by decide +kernel)) (fun _ h9 => h9) rfl dX2_orbit_141 ?_
              refine lv_iload_n hx hb dX2_orbit_144 rfl (lv_at hl 1 rfl) ?_
              refine va_zald hx hb hK hP 1 4 rfl rfl (gt_in c_1 (le_in c_1 c_5)) dX2_orbit_145 ?_
              refine lv_istore (lv' := [(10, .int (sf (Int32.toNatClampNeg x1))), (0, .ref am), (1, .int x1), (2, .double x2), (4, .double x3), (6, .double x4), (8, .double x5)]) hx hb dX2_orbit_146 hl (by decide) rfl (fun ls hl => ?_)
              refine lv_aload_n hx hb dX2_orbit_148 rfl (lv_at hl 1 rfl) ?_
              refine va_get (D := (dC, dI)) (ci := 2) (v := .ref gs) (C := RX2) (T := TX2) (N := 13) hx hb hts hin2 hown hK hP 0 rfl rfl 3 (by decide) (hts (.fieldLink RX2 7 "SkyAlmanacModel" "set" "[Z") (by decide +kernel)) (fun _ h9 => h9) rfl dX2_orbit_149 ?_
              refine lv_iload_n hx hb dX2_orbit_152 rfl (lv_at hl 2 rfl) ?_
              refine lv_iconst (v := 1) hx hb dX2_orbit_153 (by decide) ?_
              refine va_zast hx hb hK hP hD hS 1 4 rfl rfl (gt_in c_1 (le_in c_1 c_5)) dX2_orbit_154 (fun H locs hP hD hS => ?_)
              have hP : va_P (dC, dI) vwCl [(am, .inr (2, [.int 0, .int wo, .int fu, .ref gs, .ref go, .ref gt, .ref gp, .ref gw, .double la, .double ea, .ref gl, .int ln, .int fd])), (gs, aI 4 (cA 4) (upd sf (Int32.toNatClampNeg x1) (vp_nar .boolean 1))), (go, aD 16 (cA 1) (vf_upd (vf_upd (vf_upd (vf_upd uf (4 * (Int32.toNatClampNeg x1)) x2) (4 * (Int32.toNatClampNeg x1) + 1) x3) (4 * (Int32.toNatClampNeg x1) + 2) x4) (4 * (Int32.toNatClampNeg x1) + 3) x5))] H := hP
              have hD : va_D A [(am, .inr (2, [.int 0, .int wo, .int fu, .ref gs, .ref go, .ref gt, .ref gp, .ref gw, .double la, .double ea, .ref gl, .int ln, .int fd])), (gs, aI 4 (cA 4) (upd sf (Int32.toNatClampNeg x1) (vp_nar .boolean 1))), (go, aD 16 (cA 1) (vf_upd (vf_upd (vf_upd (vf_upd uf (4 * (Int32.toNatClampNeg x1)) x2) (4 * (Int32.toNatClampNeg x1) + 1) x3) (4 * (Int32.toNatClampNeg x1) + 2) x4) (4 * (Int32.toNatClampNeg x1) + 3) x5))] := hD
              refine lv_iload hx hb dX2_orbit_155 (lv_at hl 0 rfl) ?_
              refine lv_if_ne (tgt := 164) hx hb dX2_orbit_157 (by decide) (fun c_27 => ?_) (fun c_27 => ?_)
              · refine lv_iconst (v := 0) hx hb dX2_orbit_164 (by decide) ?_
                have e0 : f_X2_orbit sf x1 x2 x3 x4 x5 = (0, 0) := by unfold f_X2_orbit; rw [if_neg c_1, if_pos c_5, if_neg c_8, if_neg c_14, if_neg c_20, if_neg c_26, if_neg c_27]
                have e1 : (f_X2_orbit sf x1 x2 x3 x4 x5).2 = 0 := by rw [e0]
                have hP : va_P (dC, dI) vwCl [(am, .inr (2, [.int ((f_X2_orbit sf x1 x2 x3 x4 x5).2), .int wo, .int fu, .ref gs, .ref go, .ref gt, .ref gp, .ref gw, .double la, .double ea, .ref gl, .int ln, .int fd])), (gs, aI 4 (cA 4) (if (f_X2_orbit sf x1 x2 x3 x4 x5).2 = 0 then upd sf (Int32.toNatClampNeg x1) (vp_nar .boolean 1) else sf)), (go, aD 16 (cA 1) (if (f_X2_orbit sf x1 x2 x3 x4 x5).2 = 0 then vf_upd (vf_upd (vf_upd (vf_upd uf (4 * (Int32.toNatClampNeg x1)) x2) (4 * (Int32.toNatClampNeg x1) + 1) x3) (4 * (Int32.toNatClampNeg x1) + 2) x4) (4 * (Int32.toNatClampNeg x1) + 3) x5 else uf))] H := by simp only [if_pos e1]; rw [e1]; exact hP
                have hD : va_D A [(am, .inr (2, [.int ((f_X2_orbit sf x1 x2 x3 x4 x5).2), .int wo, .int fu, .ref gs, .ref go, .ref gt, .ref gp, .ref gw, .double la, .double ea, .ref gl, .int ln, .int fd])), (gs, aI 4 (cA 4) (if (f_X2_orbit sf x1 x2 x3 x4 x5).2 = 0 then upd sf (Int32.toNatClampNeg x1) (vp_nar .boolean 1) else sf)), (go, aD 16 (cA 1) (if (f_X2_orbit sf x1 x2 x3 x4 x5).2 = 0 then vf_upd (vf_upd (vf_upd (vf_upd uf (4 * (Int32.toNatClampNeg x1)) x2) (4 * (Int32.toNatClampNeg x1) + 1) x3) (4 * (Int32.toNatClampNeg x1) + 2) x4) (4 * (Int32.toNatClampNeg x1) + 3) x5 else uf))] := by simp only [if_pos e1]; rw [e1]; exact hD
                exact W.zret hx hb hr rfl (fun t ht hW => ⟨⟨_, (), rfl, (congrArg Prod.fst e0), ⟨by rw [ht]; exact hP, hD⟩⟩, hS.F ht⟩) hS.2.2 dX2_orbit_165
              · refine lv_iconst (v := 1) hx hb dX2_orbit_160 (by decide) ?_
                refine lv_goto (tgt := 165) hx hb dX2_orbit_161 (by decide) ?_
                have e0 : f_X2_orbit sf x1 x2 x3 x4 x5 = (1, 0) := by unfold f_X2_orbit; rw [if_neg c_1, if_pos c_5, if_neg c_8, if_neg c_14, if_neg c_20, if_neg c_26, if_pos c_27]
                have e1 : (f_X2_orbit sf x1 x2 x3 x4 x5).2 = 0 := by rw [e0]
                have hP : va_P (dC, dI) vwCl [(am, .inr (2, [.int ((f_X2_orbit sf x1 x2 x3 x4 x5).2), .int wo, .int fu, .ref gs, .ref go, .ref gt, .ref gp, .ref gw, .double la, .double ea, .ref gl, .int ln, .int fd])), (gs, aI 4 (cA 4) (if (f_X2_orbit sf x1 x2 x3 x4 x5).2 = 0 then upd sf (Int32.toNatClampNeg x1) (vp_nar .boolean 1) else sf)), (go, aD 16 (cA 1) (if (f_X2_orbit sf x1 x2 x3 x4 x5).2 = 0 then vf_upd (vf_upd (vf_upd (vf_upd uf (4 * (Int32.toNatClampNeg x1)) x2) (4 * (Int32.toNatClampNeg x1) + 1) x3) (4 * (Int32.toNatClampNeg x1) + 2) x4) (4 * (Int32.toNatClampNeg x1) + 3) x5 else uf))] H := by simp only [if_pos e1]; rw [e1]; exact hP
                have hD : va_D A [(am, .inr (2, [.int ((f_X2_orbit sf x1 x2 x3 x4 x5).2), .int wo, .int fu, .ref gs, .ref go, .ref gt, .ref gp, .ref gw, .double la, .double ea, .ref gl, .int ln, .int fd])), (gs, aI 4 (cA 4) (if (f_X2_orbit sf x1 x2 x3 x4 x5).2 = 0 then upd sf (Int32.toNatClampNeg x1) (vp_nar .boolean 1) else sf)), (go, aD 16 (cA 1) (if (f_X2_orbit sf x1 x2 x3 x4 x5).2 = 0 then vf_upd (vf_upd (vf_upd (vf_upd uf (4 * (Int32.toNatClampNeg x1)) x2) (4 * (Int32.toNatClampNeg x1) + 1) x3) (4 * (Int32.toNatClampNeg x1) + 2) x4) (4 * (Int32.toNatClampNeg x1) + 3) x5 else uf))] := by simp only [if_pos e1]; rw [e1]; exact hD
                exact W.zret hx hb hr rfl (fun t ht hW => ⟨⟨_, (), rfl, (congrArg Prod.fst e0), ⟨by rw [ht]; exact hP, hD⟩⟩, hS.F ht⟩) hS.2.2 dX2_orbit_165
            · refine lv_aload_n hx hb dX2_orbit_81 rfl (lv_at hl 0 rfl) ?_
              refine lv_iconst (v := 2) hx hb dX2_orbit_82 (by decide) ?_
              have hPc := hP.sub (ws' := [(am, .inr (2, [.int 0, .int wo, .int fu, .ref gs, .ref go, .ref gt, .ref gp, .ref gw, .double la, .double ea, .ref gl, .int ln, .int fd]))]) [0] rfl
              have hDc := hD.sub (ws' := [(am, .inr (2, [.int 0, .int wo, .int fu, .ref gs, .ref go, .ref gt, .ref gp, .ref gw, .double la, .double ea, .ref gl, .int ln, .int fd]))]) [0] (by decide) rfl
              have hFc := va_free (wc := [(am, .inr (2, [.int 0, .int wo, .int fu, .ref gs, .ref go, .ref gt, .ref gp, .ref gw, .double la, .double ea, .ref gl, .int ln, .int fd]))]) hD hS hA [0] rfl
              refine va_calli (va_runV (As := [.int 2]) (rest := []) ⟨hx, hb, hml, hown, hts⟩ (k_X2_fail l hst dC dI cA tm tt _ am gs go gt gp gw gl 0 wo fu la ea ln fd 2) (cwV 1 hts gX2_orbit_X2_fail rfl rfl rfl (by decide +kernel) ⟨Nat.le_of_ble_eq_true rfl, Nat.le_of_ble_eq_true rfl⟩) ⟨PcW.blind, va_recv hK hPc (ci := 2) (q0 := 0) rfl rfl, PcW.give hPc hK hDc hE hS hFc⟩ rfl rfl hl.1 rfl (lv_room (Nat.le_of_ble_eq_true rfl)) dX2_orbit_83 ⟨Nat.le_of_ble_eq_true rfl, Nat.le_of_ble_eq_true rfl⟩) hS (fun q _ h => hFc q h) hFc (fun v_28 u t H locs ht hvm hp_29 hB hz1 hk1 hS => ?_)
              obtain ⟨hP1, hD1⟩ := hB
              rw [ht] at hP1
              obtain ⟨hP, hD⟩ := va_join (wr := [(gs, aI 4 (cA 4) sf), (go, aD 16 (cA 1) uf)]) (w1 := [(am, .inr (2, [.int 2, .int wo, .int fu, .ref gs, .ref go, .ref gt, .ref gp, .ref gw, .double la, .double ea, .ref gl, .int ln, .int fd]))]) hP hD [0] [1, 2] rfl rfl (by decide) (by decide) hk1 hFc hP1 hD1
              have hP := hP.sub (ws' := [(am, .inr (2, [.int 2, .int wo, .int fu, .ref gs, .ref go, .ref gt, .ref gp, .ref gw, .double la, .double ea, .ref gl, .int ln, .int fd])), (gs, aI 4 (cA 4) sf), (go, aD 16 (cA 1) uf)]) [2, 0, 1] rfl
              have hD := hD.sub (ws' := [(am, .inr (2, [.int 2, .int wo, .int fu, .ref gs, .ref go, .ref gt, .ref gp, .ref gw, .double la, .double ea, .ref gl, .int ln, .int fd])), (gs, aI 4 (cA 4) sf), (go, aD 16 (cA 1) uf)]) [2, 0, 1] (by decide) rfl
              obtain rfl := hp_29
              refine lv_if_le (tgt := 93) hx hb dX2_orbit_86 (by decide) (fun _ => ?_) (fun c_30 => absurd c_30 (by decide))
              refine lv_iconst (v := 0) hx hb dX2_orbit_93 (by decide) ?_
              have e0 : f_X2_orbit sf x1 x2 x3 x4 x5 = (0, 2) := by unfold f_X2_orbit; rw [if_neg c_1, if_pos c_5, if_neg c_8, if_neg c_14, if_neg c_20, if_pos c_26]
              have e1 : (f_X2_orbit sf x1 x2 x3 x4 x5).2 = 2 := by rw [e0]
              have hP : va_P (dC, dI) vwCl [(am, .inr (2, [.int ((f_X2_orbit sf x1 x2 x3 x4 x5).2), .int wo, .int fu, .ref gs, .ref go, .ref gt, .ref gp, .ref gw, .double la, .double ea, .ref gl, .int ln, .int fd])), (gs, aI 4 (cA 4) (if (f_X2_orbit sf x1 x2 x3 x4 x5).2 = 0 then upd sf (Int32.toNatClampNeg x1) (vp_nar .boolean 1) else sf)), (go, aD 16 (cA 1) (if (f_X2_orbit sf x1 x2 x3 x4 x5).2 = 0 then vf_upd (vf_upd (vf_upd (vf_upd uf (4 * (Int32.toNatClampNeg x1)) x2) (4 * (Int32.toNatClampNeg x1) + 1) x3) (4 * (Int32.toNatClampNeg x1) + 2) x4) (4 * (Int32.toNatClampNeg x1) + 3) x5 else uf))] H := by simp only [if_neg (show ¬ (f_X2_orbit sf x1 x2 x3 x4 x5).2 = 0 by rw [e1]; decide)]; rw [e1]; exact hP
              have hD : va_D A [(am, .inr (2, [.int ((f_X2_orbit sf x1 x2 x3 x4 x5).2), .int wo, .int fu, .ref gs, .ref go, .ref gt, .ref gp, .ref gw, .double la, .double ea, .ref gl, .int ln, .int fd])), (gs, aI 4 (cA 4) (if (f_X2_orbit sf x1 x2 x3 x4 x5).2 = 0 then upd sf (Int32.toNatClampNeg x1) (vp_nar .boolean 1) else sf)), (go, aD 16 (cA 1) (if (f_X2_orbit sf x1 x2 x3 x4 x5).2 = 0 then vf_upd (vf_upd (vf_upd (vf_upd uf (4 * (Int32.toNatClampNeg x1)) x2) (4 * (Int32.toNatClampNeg x1) + 1) x3) (4 * (Int32.toNatClampNeg x1) + 2) x4) (4 * (Int32.toNatClampNeg x1) + 3) x5 else uf))] := by simp only [if_neg (show ¬ (f_X2_orbit sf x1 x2 x3 x4 x5).2 = 0 by rw [e1]; decide)]; rw [e1]; exact hD
              exact W.zret hx hb hr rfl (fun t ht hW => ⟨⟨_, (), rfl, (congrArg Prod.fst e0), ⟨by rw [ht]; exact hP, hD⟩⟩, hS.F ht⟩) hS.2.2 dX2_orbit_94
    · refine lv_aload_n hx hb dX2_orbit_14 rfl (lv_at hl 0 rfl) ?_
      refine lv_iconst (v := 1) hx hb dX2_orbit_15 (by decide) ?_
      have hPc := hP.sub (ws' := [(am, .inr (2, [.int 0, .int wo, .int fu, .ref gs, .ref go, .ref gt, .ref gp, .ref gw, .double la, .double ea, .ref gl, .int ln, .int fd]))]) [0] rfl
      have hDc := hD.sub (ws' := [(am, .inr (2, [.int 0, .int wo, .int fu, .ref gs, .ref go, .ref gt, .ref gp, .ref gw, .double la, .double ea, .ref gl, .int ln, .int fd]))]) [0] (by decide) rfl
      have hFc := va_free (wc := [(am, .inr (2, [.int 0, .int wo, .int fu, .ref gs, .ref go, .ref gt, .ref gp, .ref gw, .double la, .double ea, .ref gl, .int ln, .int fd]))]) hD hS hA [0] rfl
      refine va_calli (va_runV (As := [.int 1]) (rest := []) ⟨hx, hb, hml, hown, hts⟩ (k_X2_fail l hst dC dI cA tm tt _ am gs go gt gp gw gl 0 wo fu la ea ln fd 1) (cwV 1 hts gX2_orbit_X2_fail rfl rfl rfl (by decide +kernel) ⟨Nat.le_of_ble_eq_true rfl, Nat.le_of_ble_eq_true rfl⟩) ⟨PcW.blind, va_recv hK hPc (ci := 2) (q0 := 0) rfl rfl, PcW.give hPc hK hDc hE hS hFc⟩ rfl rfl hl.1 rfl (lv_room (Nat.le_of_ble_eq_true rfl)) dX2_orbit_16 ⟨Nat.le_of_ble_eq_true rfl, Nat.le_of_ble_eq_true rfl⟩) hS (fun q _ h => hFc q h) hFc (fun v_31 u t H locs ht hvm hp_32 hB hz1 hk1 hS => ?_)
      obtain ⟨hP1, hD1⟩ := hB
      rw [ht] at hP1
      obtain ⟨hP, hD⟩ := va_join (wr := [(gs, aI 4 (cA 4) sf), (go, aD 16 (cA 1) uf)]) (w1 := [(am, .inr (2, [.int 1, .int wo, .int fu, .ref gs, .ref go, .ref gt, .ref gp, .ref gw, .double la, .double ea, .ref gl, .int ln, .int fd]))]) hP hD [0] [1, 2] rfl rfl (by decide) (by decide) hk1 hFc hP1 hD1
      have hP := hP.sub (ws' := [(am, .inr (2, [.int 1, .int wo, .int fu, .ref gs, .ref go, .ref gt, .ref gp, .ref gw, .double la, .double ea, .ref gl, .int ln, .int fd])), (gs, aI 4 (cA 4) sf), (go, aD 16 (cA 1) uf)]) [2, 0, 1] rfl
      have hD := hD.sub (ws' := [(am, .inr (2, [.int 1, .int wo, .int fu, .ref gs, .ref go, .ref gt, .ref gp, .ref gw, .double la, .double ea, .ref gl, .int ln, .int fd])), (gs, aI 4 (cA 4) sf), (go, aD 16 (cA 1) uf)]) [2, 0, 1] (by decide) rfl
      obtain rfl := hp_32
      refine lv_if_le (tgt := 26) hx hb dX2_orbit_19 (by decide) (fun _ => ?_) (fun c_33 => absurd c_33 (by decide))
      refine lv_iconst (v := 0) hx hb dX2_orbit_26 (by decide) ?_
      have e0 : f_X2_orbit sf x1 x2 x3 x4 x5 = (0, 1) := by unfold f_X2_orbit; rw [if_neg c_1, if_neg c_5]
      have e1 : (f_X2_orbit sf x1 x2 x3 x4 x5).2 = 1 := by rw [e0]
      have hP : va_P (dC, dI) vwCl [(am, .inr (2, [.int ((f_X2_orbit sf x1 x2 x3 x4 x5).2), .int wo, .int fu, .ref gs, .ref go, .ref gt, .ref gp, .ref gw, .double la, .double ea, .ref gl, .int ln, .int fd])), (gs, aI 4 (cA 4) (if (f_X2_orbit sf x1 x2 x3 x4 x5).2 = 0 then upd sf (Int32.toNatClampNeg x1) (vp_nar .boolean 1) else sf)), (go, aD 16 (cA 1) (if (f_X2_orbit sf x1 x2 x3 x4 x5).2 = 0 then vf_upd (vf_upd (vf_upd (vf_upd uf (4 * (Int32.toNatClampNeg x1)) x2) (4 * (Int32.toNatClampNeg x1) + 1) x3) (4 * (Int32.toNatClampNeg x1) + 2) x4) (4 * (Int32.toNatClampNeg x1) + 3) x5 else uf))] H := by simp only [if_neg (show ¬ (f_X2_orbit sf x1 x2 x3 x4 x5).2 = 0 by rw [e1]; decide)]; rw [e1]; exact hP
      have hD : va_D A [(am, .inr (2, [.int ((f_X2_orbit sf x1 x2 x3 x4 x5).2), .int wo, .int fu, .ref gs, .ref go, .ref gt, .ref gp, .ref gw, .double la, .double ea, .ref gl, .int ln, .int fd])), (gs, aI 4 (cA 4) (if (f_X2_orbit sf x1 x2 x3 x4 x5).2 = 0 then upd sf (Int32.toNatClampNeg x1) (vp_nar .boolean 1) else sf)), (go, aD 16 (cA 1) (if (f_X2_orbit sf x1 x2 x3 x4 x5).2 = 0 then vf_upd (vf_upd (vf_upd (vf_upd uf (4 * (Int32.toNatClampNeg x1)) x2) (4 * (Int32.toNatClampNeg x1) + 1) x3) (4 * (Int32.toNatClampNeg x1) + 2) x4) (4 * (Int32.toNatClampNeg x1) + 3) x5 else uf))] := by simp only [if_neg (show ¬ (f_X2_orbit sf x1 x2 x3 x4 x5).2 = 0 by rw [e1]; decide)]; rw [e1]; exact hD
      exact W.zret hx hb hr rfl (fun t ht hW => ⟨⟨_, (), rfl, (congrArg Prod.fst e0), ⟨by rw [ht]; exact hP, hD⟩⟩, hS.F ht⟩) hS.2.2 dX2_orbit_27

theorem upd_same (f : Nat → Int32) (k : Nat) (x : Int32) : upd f k x k = x := by unfold upd; rw [if_pos rfl]
def f_X2_term (sf : Nat → Int32) (k : Nat) (x1 : Int32) (x2 : Int32) (x3 : UInt64) (x4 : UInt64) (x5 : UInt64) : Int32 × Int32 := if (NB sf x1) = 0 then (if x2 < 0 then ((0, 2)) else (if 2 < x2 then ((0, 2)) else (if (f_X2_within x3 13845191154443747328 4621819117588971520) = 0 then ((0, 2)) else (if (f_X2_within x4 13868412840022376448 4645040803167600640) = 0 then ((0, 2)) else (if (f_X2_within x5 13860109328209412096 4636737291354636288) = 0 then ((0, 2)) else (if (nI k) = 12 then ((0, 3)) else ((nI (k + 1), 0)))))))) else ((0, 1))
set_option maxHeartbeats 4000000 in
set_option maxRecDepth 100000 in
theorem k_X2_term (l : Launch) (hst : l.stackTraces = false) (dC : Nat → ClassId) (dI : Nat → Nat → Nat) (cA : Nat → ClassId) (tm tt sz : Nat) (am gs go gt gp gw gl : Nat) (th wo fu : Int32) (la ea : UInt64) (ln fd : Int32) (sf : Nat → Int32) (tf : Nat → Int32) (pf : Nat → Int32) (wf : Nat → UInt64) (x1 : Int32) (x2 : Int32) (x3 : UInt64) (x4 : UInt64) (x5 : UInt64) (k : Nat) (hk12 : k ≤ 12) (hk : ¬ x1 < 0 → ¬ 3 < x1 → tf (Int32.toNatClampNeg x1) = nI k) : Met l yX2_term wsX2_term ({ frames := 1, cells := 0, slots := 0, locals := 25 }) (PcW dC dI cA tm tt sz [.ref am, .int x1, .int x2, .double x3, .double x4, .double x5] [(am, .inr (2, [.int th, .int wo, .int fu, .ref gs, .ref go, .ref gt, .ref gp, .ref gw, .double la, .double ea, .ref gl, .int ln, .int fd])), (gs, aI 4 (cA 4) sf), (gt, aI 4 (cA 0) tf), (gp, aI 48 (cA 0) pf), (gw, aD 144 (cA 1) wf)]) (va_Qi (fun r (_ : Unit) => (f_X2_term sf k x1 x2 x3 x4 x5).1 = r) (fun _ t => WB dC dI (va_A [(am, .inr (2, [.int th, .int wo, .int fu, .ref gs, .ref go, .ref gt, .ref gp, .ref gw, .double la, .double ea, .ref gl, .int ln, .int fd])), (gs, aI 4 (cA 4) sf), (gt, aI 4 (cA 0) tf), (gp, aI 48 (cA 0) pf), (gw, aD 144 (cA 1) wf)] sz) [(am, .inr (2, [.int ((f_X2_term sf k x1 x2 x3 x4 x5).2), .int wo, .int fu, .ref gs, .ref go, .ref gt, .ref gp, .ref gw, .double la, .double ea, .ref gl, .int ln, .int fd])), (gs, aI 4 (cA 4) sf), (gt, aI 4 (cA 0) (if (f_X2_term sf k x1 x2 x3 x4 x5).2 = 0 then upd tf (Int32.toNatClampNeg x1) (nI (k + 1)) else tf)), (gp, aI 48 (cA 0) (if (f_X2_term sf k x1 x2 x3 x4 x5).2 = 0 then upd pf (12 * (Int32.toNatClampNeg x1) + k) x2 else pf)), (gw, aD 144 (cA 1) (if (f_X2_term sf k x1 x2 x3 x4 x5).2 = 0 then vf_upd (vf_upd (vf_upd wf (3 * (12 * (Int32.toNatClampNeg x1) + k)) x3) (3 * (12 * (Int32.toNatClampNeg x1) + k) + 1) x4) (3 * (12 * (Int32.toNatClampNeg x1) + k) + 2) x5 else wf))] t) (va_A [(am, .inr (2, [.int th, .int wo, .int fu, .ref gs, .ref go, .ref gt, .ref gp, .ref gw, .double la, .double ea, .ref gl, .int ln, .int fd])), (gs, aI 4 (cA 4) sf), (gt, aI 4 (cA 0) tf), (gp, aI 48 (cA 0) pf), (gw, aD 144 (cA 1) wf)] sz)) 0 0 (va_A [(am, .inr (2, [.int th, .int wo, .int fu, .ref gs, .ref go, .ref gt, .ref gp, .ref gw, .double la, .double ea, .ref gl, .int ln, .int fd])), (gs, aI 4 (cA 4) sf), (gt, aI 4 (cA 0) tf), (gp, aI 48 (cA 0) pf), (gw, aD 144 (cA 1) wf)] sz) := by
  refine Met.ofW (cc := cX2_term) (maxL := 10) (ret := (some .int)) (by decide) rfl ?_
  intro p e s m args below meth c s₁ B hml hv
  obtain ⟨rfl, hsz, hP, hK, hD0, hE⟩ := hv
  subst hsz
  have hD := hD0.self (sz := s.heap.size)
  generalize hAe : va_A [(am, .inr (2, [.int th, .int wo, .int fu, .ref gs, .ref go, .ref gt, .ref gp, .ref gw, .double la, .double ea, .ref gl, .int ln, .int fd])), (gs, aI 4 (cA 4) sf), (gt, aI 4 (cA 0) tf), (gp, aI 48 (cA 0) pf), (gw, aD 144 (cA 1) wf)] s.heap.size = A at hD hE ⊢
  have hA : ∀ q : Nat, s.heap.size ≤ q → A q := fun q h => by rw [← hAe]; exact Or.inr h
  have hS : va_S A s.heap s.heap [] := va_S.rf
  have hP : va_P (dC, dI) vwCl [(am, .inr (2, [.int th, .int wo, .int fu, .ref gs, .ref go, .ref gt, .ref gp, .ref gw, .double la, .double ea, .ref gl, .int ln, .int fd])), (gs, aI 4 (cA 4) sf), (gt, aI 4 (cA 0) tf), (gp, aI 48 (cA 0) pf), (gw, aD 144 (cA 1) wf)] s.heap := hP
  have hx := B.exec
  have hb := B.bytes
  have hr := B.returns
  have hts := atoms_spec (ws := wsX2_term) B.pre
  have hown : s.vm.findClass RX2 = some m.cls := findClass_of_methodNamed B.named
  have hlocks := B.notSynchronized
  have hl := lv_entry ([.ref am, .int x1, .int x2, .double x3, .double x4, .double x5]) (n := 10) (Nat.le_of_ble_eq_true rfl)
  rw [lg_entry_eq]
  generalize (lg_sl ([.ref am, .int x1, .int x2, .double x3, .double x4, .double x5]) ++ List.replicate (10 - (lg_sl ([.ref am, .int x1, .int x2, .double x3, .double x4, .double x5])).length) Slot.unset).toArray = ls at hl ⊢
  have hl : lv_has ls 10 [(0, .ref am), (1, .int x1), (2, .int x2), (3, .double x3), (5, .double x4), (7, .double x5)] := hl
  have hin2 : ∀ w ∈ u_ws RX2 TX2 13, w ∈ wsX2_term := by decide +kernel
  refine lv_aload_n hx hb dX2_term_0 rfl (lv_at hl 0 rfl) ?_
  refine lv_iconst (v := 0) hx hb dX2_term_1 (by decide) ?_
  refine va_put (D := (dC, dI)) (ci := 2) (v := .int 0) (ty := .int) (C := RX2) (T := TX2) (N := 13) hx hb hts hin2 tyX2 tyX2_ok nmX2 hown hK hP hD hS 0 rfl rfl 0 (by decide) (hts (.fieldLink RX2 30 "SkyAlmanacModel" "thrown" "I") (by decide +kernel)) (fun _ h9 => h9) rfl (by decide +kernel) rfl rfl (Nat.le_of_ble_eq_true rfl) dX2_term_2 (fun H locs hP hD hS => ?_)
  have hP : va_P (dC, dI) vwCl [(am, .inr (2, [.int 0, .int wo, .int fu, .ref gs, .ref go, .ref gt, .ref gp, .ref gw, .double la, .double ea, .ref gl, .int ln, .int fd])), (gs, aI 4 (cA 4) sf), (gt, aI 4 (cA 0) tf), (gp, aI 48 (cA 0) pf), (gw, aD 144 (cA 1) wf)] H := hP
  have hD : va_D A [(am, .inr (2, [.int 0, .int wo, .int fu, .ref gs, .ref go, .ref gt, .ref gp, .ref gw, .double la, .double ea, .ref gl, .int ln, .int fd])), (gs, aI 4 (cA 4) sf), (gt, aI 4 (cA 0) tf), (gp, aI 48 (cA 0) pf), (gw, aD 144 (cA 1) wf)] := hD
  refine lv_aload_n hx hb dX2_term_5 rfl (lv_at hl 0 rfl) ?_
  refine lv_iload_n hx hb dX2_term_6 rfl (lv_at hl 1 rfl) ?_
  have hPc := hP.sub (ws' := [(am, .inr (2, [.int 0, .int wo, .int fu, .ref gs, .ref go, .ref gt, .ref gp, .ref gw, .double la, .double ea, .ref gl, .int ln, .int fd])), (gs, aI 4 (cA 4) sf)]) [0, 1] rfl
  refine vp_callSi (W.runV (As := [.int x1]) (rest := []) ⟨hx, hb, hml, hown, hts⟩ (k_X2_noBody l dC dI cA tm tt am gs go gt gp gw gl 0 wo fu la ea ln fd sf x1) (cwV 1 hts gX2_term_X2_noBody rfl rfl rfl (by decide +kernel) ⟨Nat.le_of_ble_eq_true rfl, Nat.le_of_ble_eq_true rfl⟩) ⟨PcO.blind, va_recv hK hPc (ci := 2) (q0 := 0) rfl rfl, PcO.give hPc hK hE hS⟩ rfl rfl hl.1 rfl (lv_room (Nat.le_of_ble_eq_true rfl)) dX2_term_7 ⟨Nat.le_of_ble_eq_true rfl, Nat.le_of_ble_eq_true rfl⟩) (fun r hr9 => ?_)
  obtain rfl := hr9
  refine lv_if_eq (tgt := 19) hx hb dX2_term_10 (by decide) (fun c_1 => ?_) (fun c_1 => ?_)
  · refine lv_iload_n hx hb dX2_term_19 rfl (lv_at hl 2 rfl) ?_
    refine lv_if_lt (tgt := 69) hx hb dX2_term_20 (by decide) (fun c_2 => ?_) (fun c_2 => ?_)
    · refine lv_aload_n hx hb dX2_term_69 rfl (lv_at hl 0 rfl) ?_
      refine lv_iconst (v := 2) hx hb dX2_term_70 (by decide) ?_
      have hPc := hP.sub (ws' := [(am, .inr (2, [.int 0, .int wo, .int fu, .ref gs, .ref go, .ref gt, .ref gp, .ref gw, .double la, .double ea, .ref gl, .int ln, .int fd]))]) [0] rfl
      have hDc := hD.sub (ws' := [(am, .inr (2, [.int 0, .int wo, .int fu, .ref gs, .ref go, .ref gt, .ref gp, .ref gw, .double la, .double ea, .ref gl, .int ln, .int fd]))]) [0] (by decide) rfl
      have hFc := va_free (wc := [(am, .inr (2, [.int 0, .int wo, .int fu, .ref gs, .ref go, .ref gt, .ref gp, .ref gw, .double la, .double ea, .ref gl, .int ln, .int fd]))]) hD hS hA [0] rfl
      refine va_calli (va_runV (As := [.int 2]) (rest := []) ⟨hx, hb, hml, hown, hts⟩ (k_X2_fail l hst dC dI cA tm tt _ am gs go gt gp gw gl 0 wo fu la ea ln fd 2) (cwV 1 hts gX2_term_X2_fail rfl rfl rfl (by decide +kernel) ⟨Nat.le_of_ble_eq_true rfl, Nat.le_of_ble_eq_true rfl⟩) ⟨PcW.blind, va_recv hK hPc (ci := 2) (q0 := 0) rfl rfl, PcW.give hPc hK hDc hE hS hFc⟩ rfl rfl hl.1 rfl (lv_room (Nat.le_of_ble_eq_true rfl)) dX2_term_71 ⟨Nat.le_of_ble_eq_true rfl, Nat.le_of_ble_eq_true rfl⟩) hS (fun q _ h => hFc q h) hFc (fun v_3 u t H locs ht hvm hp_4 hB hz1 hk1 hS => ?_)
      obtain ⟨hP1, hD1⟩ := hB
      rw [ht] at hP1
      obtain ⟨hP, hD⟩ := va_join (wr := [(gs, aI 4 (cA 4) sf), (gt, aI 4 (cA 0) tf), (gp, aI 48 (cA 0) pf), (gw, aD 144 (cA 1) wf)]) (w1 := [(am, .inr (2, [.int 2, .int wo, .int fu, .ref gs, .ref go, .ref gt, .ref gp, .ref gw, .double la, .double ea, .ref gl, .int ln, .int fd]))]) hP hD [0] [1, 2, 3, 4] rfl rfl (by decide) (by decide) hk1 hFc hP1 hD1
      have hP := hP.sub (ws' := [(am, .inr (2, [.int 2, .int wo, .int fu, .ref gs, .ref go, .ref gt, .ref gp, .ref gw, .double la, .double ea, .ref gl, .int ln, .int fd])), (gs, aI 4 (cA 4) sf), (gt, aI 4 (cA 0) tf), (gp, aI 48 (cA 0) pf), (gw, aD 144 (cA 1) wf)]) [4, 0, 1, 2, 3] rfl
      have hD := hD.sub (ws' := [(am, .inr (2, [.int 2, .int wo, .int fu, .ref gs, .ref go, .ref gt, .ref gp, .ref gw, .double la, .double ea, .ref gl, .int ln, .int fd])), (gs, aI 4 (cA 4) sf), (gt, aI 4 (cA 0) tf), (gp, aI 48 (cA 0) pf), (gw, aD 144 (cA 1) wf)]) [4, 0, 1, 2, 3] (by decide) rfl
      obtain rfl := hp_4
      have e0 : f_X2_term sf k x1 x2 x3 x4 x5 = (0, 2) := by unfold f_X2_term; rw [if_pos c_1, if_pos c_2]
      have e1 : (f_X2_term sf k x1 x2 x3 x4 x5).2 = 2 := by rw [e0]
      have hP : va_P (dC, dI) vwCl [(am, .inr (2, [.int ((f_X2_term sf k x1 x2 x3 x4 x5).2), .int wo, .int fu, .ref gs, .ref go, .ref gt, .ref gp, .ref gw, .double la, .double ea, .ref gl, .int ln, .int fd])), (gs, aI 4 (cA 4) sf), (gt, aI 4 (cA 0) (if (f_X2_term sf k x1 x2 x3 x4 x5).2 = 0 then upd tf (Int32.toNatClampNeg x1) (nI (k + 1)) else tf)), (gp, aI 48 (cA 0) (if (f_X2_term sf k x1 x2 x3 x4 x5).2 = 0 then upd pf (12 * (Int32.toNatClampNeg x1) + k) x2 else pf)), (gw, aD 144 (cA 1) (if (f_X2_term sf k x1 x2 x3 x4 x5).2 = 0 then vf_upd (vf_upd (vf_upd wf (3 * (12 * (Int32.toNatClampNeg x1) + k)) x3) (3 * (12 * (Int32.toNatClampNeg x1) + k) + 1) x4) (3 * (12 * (Int32.toNatClampNeg x1) + k) + 2) x5 else wf))] H := by simp only [if_neg (show ¬ (f_X2_term sf k x1 x2 x3 x4 x5).2 = 0 by rw [e1]; decide)]; rw [e1]; exact hP
      have hD : va_D A [(am, .inr (2, [.int ((f_X2_term sf k x1 x2 x3 x4 x5).2), .int wo, .int fu, .ref gs, .ref go, .ref gt, .ref gp, .ref gw, .double la, .double ea, .ref gl, .int ln, .int fd])), (gs, aI 4 (cA 4) sf), (gt, aI 4 (cA 0) (if (f_X2_term sf k x1 x2 x3 x4 x5).2 = 0 then upd tf (Int32.toNatClampNeg x1) (nI (k + 1)) else tf)), (gp, aI 48 (cA 0) (if (f_X2_term sf k x1 x2 x3 x4 x5).2 = 0 then upd pf (12 * (Int32.toNatClampNeg x1) + k) x2 else pf)), (gw, aD 144 (cA 1) (if (f_X2_term sf k x1 x2 x3 x4 x5).2 = 0 then vf_upd (vf_upd (vf_upd wf (3 * (12 * (Int32.toNatClampNeg x1) + k)) x3) (3 * (12 * (Int32.toNatClampNeg x1) + k) + 1) x4) (3 * (12 * (Int32.toNatClampNeg x1) + k) + 2) x5 else wf))] := by simp only [if_neg (show ¬ (f_X2_term sf k x1 x2 x3 x4 x5).2 = 0 by rw [e1]; decide)]; rw [e1]; exact hD
      exact W.iret hx hb hr (fun t ht hW => ⟨⟨_, (), rfl, (congrArg Prod.fst e0), ⟨by rw [ht]; exact hP, hD⟩⟩, hS.F ht⟩) hS.2.2 dX2_term_74
    · refine lv_iload_n hx hb dX2_term_23 rfl (lv_at hl 2 rfl) ?_
      refine lv_iconst (v := 2) hx hb dX2_term_24 (by decide) ?_
      refine lv_icmp_gt (tgt := 69) hx hb dX2_term_25 (by decide) (fun c_5 => ?_) (fun c_5 => ?_)
      · refine lv_aload_n hx hb dX2_term_69 rfl (lv_at hl 0 rfl) ?_
        refine lv_iconst (v := 2) hx hb dX2_term_70 (by decide) ?_
        have hPc := hP.sub (ws' := [(am, .inr (2, [.int 0, .int wo, .int fu, .ref gs, .ref go, .ref gt, .ref gp, .ref gw, .double la, .double ea, .ref gl, .int ln, .int fd]))]) [0] rfl
        have hDc := hD.sub (ws' := [(am, .inr (2, [.int 0, .int wo, .int fu, .ref gs, .ref go, .ref gt, .ref gp, .ref gw, .double la, .double ea, .ref gl, .int ln, .int fd]))]) [0] (by decide) rfl
        have hFc := va_free (wc := [(am, .inr (2, [.int 0, .int wo, .int fu, .ref gs, .ref go, .ref gt, .ref gp, .ref gw, .double la, .double ea, .ref gl, .int ln, .int fd]))]) hD hS hA [0] rfl
        refine va_calli (va_runV (As := [.int 2]) (rest := []) ⟨hx, hb, hml, hown, hts⟩ (k_X2_fail l hst dC dI cA tm tt _ am gs go gt gp gw gl 0 wo fu la ea ln fd 2) (cwV 1 hts gX2_term_X2_fail rfl rfl rfl (by decide +kernel) ⟨Nat.le_of_ble_eq_true rfl, Nat.le_of_ble_eq_true rfl⟩) ⟨PcW.blind, va_recv hK hPc (ci := 2) (q0 := 0) rfl rfl, PcW.give hPc hK hDc hE hS hFc⟩ rfl rfl hl.1 rfl (lv_room (Nat.le_of_ble_eq_true rfl)) dX2_term_71 ⟨Nat.le_of_ble_eq_true rfl, Nat.le_of_ble_eq_true rfl⟩) hS (fun q _ h => hFc q h) hFc (fun v_6 u t H locs ht hvm hp_7 hB hz1 hk1 hS => ?_)
        obtain ⟨hP1, hD1⟩ := hB
        rw [ht] at hP1
        obtain ⟨hP, hD⟩ := va_join (wr := [(gs, aI 4 (cA 4) sf), (gt, aI 4 (cA 0) tf), (gp, aI 48 (cA 0) pf), (gw, aD 144 (cA 1) wf)]) (w1 := [(am, .inr (2, [.int 2, .int wo, .int fu, .ref gs, .ref go, .ref gt, .ref gp, .ref gw, .double la, .double ea, .ref gl, .int ln, .int fd]))]) hP hD [0] [1, 2, 3, 4] rfl rfl (by decide) (by decide) hk1 hFc hP1 hD1
        have hP := hP.sub (ws' := [(am, .inr (2, [.int 2, .int wo, .int fu, .ref gs, .ref go, .ref gt, .ref gp, .ref gw, .double la, .double ea, .ref gl, .int ln, .int fd])), (gs, aI 4 (cA 4) sf), (gt, aI 4 (cA 0) tf), (gp, aI 48 (cA 0) pf), (gw, aD 144 (cA 1) wf)]) [4, 0, 1, 2, 3] rfl
        have hD := hD.sub (ws' := [(am, .inr (2, [.int 2, .int wo, .int fu, .ref gs, .ref go, .ref gt, .ref gp, .ref gw, .double la, .double ea, .ref gl, .int ln, .int fd])), (gs, aI 4 (cA 4) sf), (gt, aI 4 (cA 0) tf), (gp, aI 48 (cA 0) pf), (gw, aD 144 (cA 1) wf)]) [4, 0, 1, 2, 3] (by decide) rfl
        obtain rfl := hp_7
        have e0 : f_X2_term sf k x1 x2 x3 x4 x5 = (0, 2) := by unfold f_X2_term; rw [if_pos c_1, if_neg c_2, if_pos c_5]
        have e1 : (f_X2_term sf k x1 x2 x3 x4 x5).2 = 2 := by rw [e0]
        have hP : va_P (dC, dI) vwCl [(am, .inr (2, [.int ((f_X2_term sf k x1 x2 x3 x4 x5).2), .int wo, .int fu, .ref gs, .ref go, .ref gt, .ref gp, .ref gw, .double la, .double ea, .ref gl, .int ln, .int fd])), (gs, aI 4 (cA 4) sf), (gt, aI 4 (cA 0) (if (f_X2_term sf k x1 x2 x3 x4 x5).2 = 0 then upd tf (Int32.toNatClampNeg x1) (nI (k + 1)) else tf)), (gp, aI 48 (cA 0) (if (f_X2_term sf k x1 x2 x3 x4 x5).2 = 0 then upd pf (12 * (Int32.toNatClampNeg x1) + k) x2 else pf)), (gw, aD 144 (cA 1) (if (f_X2_term sf k x1 x2 x3 x4 x5).2 = 0 then vf_upd (vf_upd (vf_upd wf (3 * (12 * (Int32.toNatClampNeg x1) + k)) x3) (3 * (12 * (Int32.toNatClampNeg x1) + k) + 1) x4) (3 * (12 * (Int32.toNatClampNeg x1) + k) + 2) x5 else wf))] H := by simp only [if_neg (show ¬ (f_X2_term sf k x1 x2 x3 x4 x5).2 = 0 by rw [e1]; decide)]; rw [e1]; exact hP
        have hD : va_D A [(am, .inr (2, [.int ((f_X2_term sf k x1 x2 x3 x4 x5).2), .int wo, .int fu, .ref gs, .ref go, .ref gt, .ref gp, .ref gw, .double la, .double ea, .ref gl, .int ln, .int fd])), (gs, aI 4 (cA 4) sf), (gt, aI 4 (cA 0) (if (f_X2_term sf k x1 x2 x3 x4 x5).2 = 0 then upd tf (Int32.toNatClampNeg x1) (nI (k + 1)) else tf)), (gp, aI 48 (cA 0) (if (f_X2_term sf k x1 x2 x3 x4 x5).2 = 0 then upd pf (12 * (Int32.toNatClampNeg x1) + k) x2 else pf)), (gw, aD 144 (cA 1) (if (f_X2_term sf k x1 x2 x3 x4 x5).2 = 0 then vf_upd (vf_upd (vf_upd wf (3 * (12 * (Int32.toNatClampNeg x1) + k)) x3) (3 * (12 * (Int32.toNatClampNeg x1) + k) + 1) x4) (3 * (12 * (Int32.toNatClampNeg x1) + k) + 2) x5 else wf))] := by simp only [if_neg (show ¬ (f_X2_term sf k x1 x2 x3 x4 x5).2 = 0 by rw [e1]; decide)]; rw [e1]; exact hD
        exact W.iret hx hb hr (fun t ht hW => ⟨⟨_, (), rfl, (congrArg Prod.fst e0), ⟨by rw [ht]; exact hP, hD⟩⟩, hS.F ht⟩) hS.2.2 dX2_term_74
      · refine lv_dload_n hx hb dX2_term_28 rfl (lv_at hl 3 rfl) ?_
        refine lv_ldc2d hx hb hown (hts (.constantDouble RX2 170 (13845191154443747328)) (by decide +kernel)) dX2_term_29 ?_
        have r_8 : fR 13845191154443747328 (-10737418240) (-10737418240) := fR_lit (by decide +kernel)
        refine lv_ldc2d hx hb hown (hts (.constantDouble RX2 172 (4621819117588971520)) (by decide +kernel)) dX2_term_32 ?_
        have r_9 : fR 4621819117588971520 10737418240 10737418240 := fR_lit (by decide +kernel)
        refine vp_callSi (W.runS (As := [.double x3, .double 13845191154443747328, .double 4621819117588971520]) (rest := []) ⟨hx, hb, hml, hown, hts⟩ (k_X2_within l x3 13845191154443747328 4621819117588971520) (va_cwS 3 hts gX2_term_X2_within rfl rfl rfl (by decide +kernel) ⟨Nat.le_of_ble_eq_true rfl, Nat.le_of_ble_eq_true rfl⟩) preEq rfl rfl hl.1 rfl (lv_room (Nat.le_of_ble_eq_true rfl)) dX2_term_35 ⟨Nat.le_of_ble_eq_true rfl, Nat.le_of_ble_eq_true rfl⟩) (fun r hr9 => ?_)
        obtain rfl := hr9
        refine lv_if_eq (tgt := 69) hx hb dX2_term_38 (by decide) (fun c_10 => ?_) (fun c_10 => ?_)
        · refine lv_aload_n hx hb dX2_term_69 rfl (lv_at hl 0 rfl) ?_
          refine lv_iconst (v := 2) hx hb dX2_term_70 (by decide) ?_
          have hPc := hP.sub (ws' := [(am, .inr (2, [.int 0, .int wo, .int fu, .ref gs, .ref go, .ref gt, .ref gp, .ref gw, .double la, .double ea, .ref gl, .int ln, .int fd]))]) [0] rfl
          have hDc := hD.sub (ws' := [(am, .inr (2, [.int 0, .int wo, .int fu, .ref gs, .ref go, .ref gt, .ref gp, .ref gw, .double la, .double ea, .ref gl, .int ln, .int fd]))]) [0] (by decide) rfl
          have hFc := va_free (wc := [(am, .inr (2, [.int 0, .int wo, .int fu, .ref gs, .ref go, .ref gt, .ref gp, .ref gw, .double la, .double ea, .ref gl, .int ln, .int fd]))]) hD hS hA [0] rfl
          refine va_calli (va_runV (As := [.int 2]) (rest := []) ⟨hx, hb, hml, hown, hts⟩ (k_X2_fail l hst dC dI cA tm tt _ am gs go gt gp gw gl 0 wo fu la ea ln fd 2) (cwV 1 hts gX2_term_X2_fail rfl rfl rfl (by decide +kernel) ⟨Nat.le_of_ble_eq_true rfl, Nat.le_of_ble_eq_true rfl⟩) ⟨PcW.blind, va_recv hK hPc (ci := 2) (q0 := 0) rfl rfl, PcW.give hPc hK hDc hE hS hFc⟩ rfl rfl hl.1 rfl (lv_room (Nat.le_of_ble_eq_true rfl)) dX2_term_71 ⟨Nat.le_of_ble_eq_true rfl, Nat.le_of_ble_eq_true rfl⟩) hS (fun q _ h => hFc q h) hFc (fun v_11 u t H locs ht hvm hp_12 hB hz1 hk1 hS => ?_)
          obtain ⟨hP1, hD1⟩ := hB
          rw [ht] at hP1
          obtain ⟨hP, hD⟩ := va_join (wr := [(gs, aI 4 (cA 4) sf), (gt, aI 4 (cA 0) tf), (gp, aI 48 (cA 0) pf), (gw, aD 144 (cA 1) wf)]) (w1 := [(am, .inr (2, [.int 2, .int wo, .int fu, .ref gs, .ref go, .ref gt, .ref gp, .ref gw, .double la, .double ea, .ref gl, .int ln, .int fd]))]) hP hD [0] [1, 2, 3, 4] rfl rfl (by decide) (by decide) hk1 hFc hP1 hD1
          have hP := hP.sub (ws' := [(am, .inr (2, [.int 2, .int wo, .int fu, .ref gs, .ref go, .ref gt, .ref gp, .ref gw, .double la, .double ea, .ref gl, .int ln, .int fd])), (gs, aI 4 (cA 4) sf), (gt, aI 4 (cA 0) tf), (gp, aI 48 (cA 0) pf), (gw, aD 144 (cA 1) wf)]) [4, 0, 1, 2, 3] rfl
          have hD := hD.sub (ws' := [(am, .inr (2, [.int 2, .int wo, .int fu, .ref gs, .ref go, .ref gt, .ref gp, .ref gw, .double la, .double ea, .ref gl, .int ln, .int fd])), (gs, aI 4 (cA 4) sf), (gt, aI 4 (cA 0) tf), (gp, aI 48 (cA 0) pf), (gw, aD 144 (cA 1) wf)]) [4, 0, 1, 2, 3] (by decide) rfl
          obtain rfl := hp_12
          have e0 : f_X2_term sf k x1 x2 x3 x4 x5 = (0, 2) := by unfold f_X2_term; rw [if_pos c_1, if_neg c_2, if_neg c_5, if_pos c_10]
          have e1 : (f_X2_term sf k x1 x2 x3 x4 x5).2 = 2 := by rw [e0]
          have hP : va_P (dC, dI) vwCl [(am, .inr (2, [.int ((f_X2_term sf k x1 x2 x3 x4 x5).2), .int wo, .int fu, .ref gs, .ref go, .ref gt, .ref gp, .ref gw, .double la, .double ea, .ref gl, .int ln, .int fd])), (gs, aI 4 (cA 4) sf), (gt, aI 4 (cA 0) (if (f_X2_term sf k x1 x2 x3 x4 x5).2 = 0 then upd tf (Int32.toNatClampNeg x1) (nI (k + 1)) else tf)), (gp, aI 48 (cA 0) (if (f_X2_term sf k x1 x2 x3 x4 x5).2 = 0 then upd pf (12 * (Int32.toNatClampNeg x1) + k) x2 else pf)), (gw, aD 144 (cA 1) (if (f_X2_term sf k x1 x2 x3 x4 x5).2 = 0 then vf_upd (vf_upd (vf_upd wf (3 * (12 * (Int32.toNatClampNeg x1) + k)) x3) (3 * (12 * (Int32.toNatClampNeg x1) + k) + 1) x4) (3 * (12 * (Int32.toNatClampNeg x1) + k) + 2) x5 else wf))] H := by simp only [if_neg (show ¬ (f_X2_term sf k x1 x2 x3 x4 x5).2 = 0 by rw [e1]; decide)]; rw [e1]; exact hP
          have hD : va_D A [(am, .inr (2, [.int ((f_X2_term sf k x1 x2 x3 x4 x5).2), .int wo, .int fu, .ref gs, .ref go, .ref gt, .ref gp, .ref gw, .double la, .double ea, .ref gl, .int ln, .int fd])), (gs, aI 4 (cA 4) sf), (gt, aI 4 (cA 0) (if (f_X2_term sf k x1 x2 x3 x4 x5).2 = 0 then upd tf (Int32.toNatClampNeg x1) (nI (k + 1)) else tf)), (gp, aI 48 (cA 0) (if (f_X2_term sf k x1 x2 x3 x4 x5).2 = 0 then upd pf (12 * (Int32.toNatClampNeg x1) + k) x2 else pf)), (gw, aD 144 (cA 1) (if (f_X2_term sf k x1 x2 x3 x4 x5).2 = 0 then vf_upd (vf_upd (vf_upd wf (3 * (12 * (Int32.toNatClampNeg x1) + k)) x3) (3 * (12 * (Int32.toNatClampNeg x1) + k) + 1) x4) (3 * (12 * (Int32.toNatClampNeg x1) + k) + 2) x5 else wf))] := by simp only [if_neg (show ¬ (f_X2_term sf k x1 x2 x3 x4 x5).2 = 0 by rw [e1]; decide)]; rw [e1]; exact hD
          exact W.iret hx hb hr (fun t ht hW => ⟨⟨_, (), rfl, (congrArg Prod.fst e0), ⟨by rw [ht]; exact hP, hD⟩⟩, hS.F ht⟩) hS.2.2 dX2_term_74
        · refine lv_dload hx hb dX2_term_41 (lv_at hl 4 rfl) ?_
          refine lv_ldc2d hx hb hown (hts (.constantDouble RX2 154 (13868412840022376448)) (by decide +kernel)) dX2_term_43 ?_
          have r_13 : fR 13868412840022376448 (-386547056640) (-386547056640) := fR_lit (by decide +kernel)
          refine lv_ldc2d hx hb hown (hts (.constantDouble RX2 114 (4645040803167600640)) (by decide +kernel)) dX2_term_46 ?_
          have r_14 : fR 4645040803167600640 386547056640 386547056640 := fR_lit (by decide +kernel)
          refine vp_callSi (W.runS (As := [.double x4, .double 13868412840022376448, .double 4645040803167600640]) (rest := []) ⟨hx, hb, hml, hown, hts⟩ (k_X2_within l x4 13868412840022376448 4645040803167600640) (va_cwS 3 hts gX2_term_X2_within rfl rfl rfl (by decide +kernel) ⟨Nat.le_of_ble_eq_true rfl, Nat.le_of_ble_eq_true rfl⟩) preEq rfl rfl hl.1 rfl (lv_room (Nat.le_of_ble_eq_true rfl)) dX2_term_49 ⟨Nat.le_of_ble_eq_true rfl, Nat.le_of_ble_eq_true rfl⟩) (fun r hr9 => ?_)
          obtain rfl := hr9
          refine lv_if_eq (tgt := 69) hx hb dX2_term_52 (by decide) (fun c_15 => ?_) (fun c_15 => ?_)
          · refine lv_aload_n hx hb dX2_term_69 rfl (lv_at hl 0 rfl) ?_
            refine lv_iconst (v := 2) hx hb dX2_term_70 (by decide) ?_
            have hPc := hP.sub (ws' := [(am, .inr (2, [.int 0, .int wo, .int fu, .ref gs, .ref go, .ref gt, .ref gp, .ref gw, .double la, .double ea, .ref gl, .int ln, .int fd]))]) [0] rfl
            have hDc := hD.sub (ws' := [(am, .inr (2, [.int 0, .int wo, .int fu, .ref gs, .ref go, .ref gt, .ref gp, .ref gw, .double la, .double ea, .ref gl, .int ln, .int fd]))]) [0] (by decide) rfl
            have hFc := va_free (wc := [(am, .inr (2, [.int 0, .int wo, .int fu, .ref gs, .ref go, .ref gt, .ref gp, .ref gw, .double la, .double ea, .ref gl, .int ln, .int fd]))]) hD hS hA [0] rfl
            refine va_calli (va_runV (As := [.int 2]) (rest := []) ⟨hx, hb, hml, hown, hts⟩ (k_X2_fail l hst dC dI cA tm tt _ am gs go gt gp gw gl 0 wo fu la ea ln fd 2) (cwV 1 hts gX2_term_X2_fail rfl rfl rfl (by decide +kernel) ⟨Nat.le_of_ble_eq_true rfl, Nat.le_of_ble_eq_true rfl⟩) ⟨PcW.blind, va_recv hK hPc (ci := 2) (q0 := 0) rfl rfl, PcW.give hPc hK hDc hE hS hFc⟩ rfl rfl hl.1 rfl (lv_room (Nat.le_of_ble_eq_true rfl)) dX2_term_71 ⟨Nat.le_of_ble_eq_true rfl, Nat.le_of_ble_eq_true rfl⟩) hS (fun q _ h => hFc q h) hFc (fun v_16 u t H locs ht hvm hp_17 hB hz1 hk1 hS => ?_)
            obtain ⟨hP1, hD1⟩ := hB
            rw [ht] at hP1
            obtain ⟨hP, hD⟩ := va_join (wr := [(gs, aI 4 (cA 4) sf), (gt, aI 4 (cA 0) tf), (gp, aI 48 (cA 0) pf), (gw, aD 144 (cA 1) wf)]) (w1 := [(am, .inr (2, [.int 2, .int wo, .int fu, .ref gs, .ref go, .ref gt, .ref gp, .ref gw, .double la, .double ea, .ref gl, .int ln, .int fd]))]) hP hD [0] [1, 2, 3, 4] rfl rfl (by decide) (by decide) hk1 hFc hP1 hD1
            have hP := hP.sub (ws' := [(am, .inr (2, [.int 2, .int wo, .int fu, .ref gs, .ref go, .ref gt, .ref gp, .ref gw, .double la, .double ea, .ref gl, .int ln, .int fd])), (gs, aI 4 (cA 4) sf), (gt, aI 4 (cA 0) tf), (gp, aI 48 (cA 0) pf), (gw, aD 144 (cA 1) wf)]) [4, 0, 1, 2, 3] rfl
            have hD := hD.sub (ws' := [(am, .inr (2, [.int 2, .int wo, .int fu, .ref gs, .ref go, .ref gt, .ref gp, .ref gw, .double la, .double ea, .ref gl, .int ln, .int fd])), (gs, aI 4 (cA 4) sf), (gt, aI 4 (cA 0) tf), (gp, aI 48 (cA 0) pf), (gw, aD 144 (cA 1) wf)]) [4, 0, 1, 2, 3] (by decide) rfl
            obtain rfl := hp_17
            have e0 : f_X2_term sf k x1 x2 x3 x4 x5 = (0, 2) := by unfold f_X2_term; rw [if_pos c_1, if_neg c_2, if_neg c_5, if_neg c_10, if_pos c_15]
            have e1 : (f_X2_term sf k x1 x2 x3 x4 x5).2 = 2 := by rw [e0]
            have hP : va_P (dC, dI) vwCl [(am, .inr (2, [.int ((f_X2_term sf k x1 x2 x3 x4 x5).2), .int wo, .int fu, .ref gs, .ref go, .ref gt, .ref gp, .ref gw, .double la, .double ea, .ref gl, .int ln, .int fd])), (gs, aI 4 (cA 4) sf), (gt, aI 4 (cA 0) (if (f_X2_term sf k x1 x2 x3 x4 x5).2 = 0 then upd tf (Int32.toNatClampNeg x1) (nI (k + 1)) else tf)), (gp, aI 48 (cA 0) (if (f_X2_term sf k x1 x2 x3 x4 x5).2 = 0 then upd pf (12 * (Int32.toNatClampNeg x1) + k) x2 else pf)), (gw, aD 144 (cA 1) (if (f_X2_term sf k x1 x2 x3 x4 x5).2 = 0 then vf_upd (vf_upd (vf_upd wf (3 * (12 * (Int32.toNatClampNeg x1) + k)) x3) (3 * (12 * (Int32.toNatClampNeg x1) + k) + 1) x4) (3 * (12 * (Int32.toNatClampNeg x1) + k) + 2) x5 else wf))] H := by simp only [if_neg (show ¬ (f_X2_term sf k x1 x2 x3 x4 x5).2 = 0 by rw [e1]; decide)]; rw [e1]; exact hP
            have hD : va_D A [(am, .inr (2, [.int ((f_X2_term sf k x1 x2 x3 x4 x5).2), .int wo, .int fu, .ref gs, .ref go, .ref gt, .ref gp, .ref gw, .double la, .double ea, .ref gl, .int ln, .int fd])), (gs, aI 4 (cA 4) sf), (gt, aI 4 (cA 0) (if (f_X2_term sf k x1 x2 x3 x4 x5).2 = 0 then upd tf (Int32.toNatClampNeg x1) (nI (k + 1)) else tf)), (gp, aI 48 (cA 0) (if (f_X2_term sf k x1 x2 x3 x4 x5).2 = 0 then upd pf (12 * (Int32.toNatClampNeg x1) + k) x2 else pf)), (gw, aD 144 (cA 1) (if (f_X2_term sf k x1 x2 x3 x4 x5).2 = 0 then vf_upd (vf_upd (vf_upd wf (3 * (12 * (Int32.toNatClampNeg x1) + k)) x3) (3 * (12 * (Int32.toNatClampNeg x1) + k) + 1) x4) (3 * (12 * (Int32.toNatClampNeg x1) + k) + 2) x5 else wf))] := by simp only [if_neg (show ¬ (f_X2_term sf k x1 x2 x3 x4 x5).2 = 0 by rw [e1]; decide)]; rw [e1]; exact hD
            exact W.iret hx hb hr (fun t ht hW => ⟨⟨_, (), rfl, (congrArg Prod.fst e0), ⟨by rw [ht]; exact hP, hD⟩⟩, hS.F ht⟩) hS.2.2 dX2_term_74
          · refine lv_dload hx hb dX2_term_55 (lv_at hl 5 rfl) ?_
            refine lv_ldc2d hx hb hown (hts (.constantDouble RX2 160 (13860109328209412096)) (by decide +kernel)) dX2_term_57 ?_
            have r_18 : fR 13860109328209412096 (-107374182400) (-107374182400) := fR_lit (by decide +kernel)
            refine lv_ldc2d hx hb hown (hts (.constantDouble RX2 162 (4636737291354636288)) (by decide +kernel)) dX2_term_60 ?_
            have r_19 : fR 4636737291354636288 107374182400 107374182400 := fR_lit (by decide +kernel)
            refine vp_callSi (W.runS (As := [.double x5, .double 13860109328209412096, .double 4636737291354636288]) (rest := []) ⟨hx, hb, hml, hown, hts⟩ (k_X2_within l x5 13860109328209412096 4636737291354636288) (va_cwS 3 hts gX2_term_X2_within rfl rfl rfl (by decide +kernel) ⟨Nat.le_of_ble_eq_true rfl, Nat.le_of_ble_eq_true rfl⟩) preEq rfl rfl hl.1 rfl (lv_room (Nat.le_of_ble_eq_true rfl)) dX2_term_63 ⟨Nat.le_of_ble_eq_true rfl, Nat.le_of_ble_eq_true rfl⟩) (fun r hr9 => ?_)
            obtain rfl := hr9
            refine lv_if_ne (tgt := 75) hx hb dX2_term_66 (by decide) (fun c_20 => ?_) (fun c_20 => ?_)
            · obtain ⟨hb1, hb2, hb3⟩ := NB_0 c_1
              have hb4 := (bN_all hb1 hb2).1
              have hk9 := hk hb1 hb2
              refine lv_aload_n hx hb dX2_term_75 rfl (lv_at hl 0 rfl) ?_
              refine va_get (D := (dC, dI)) (ci := 2) (v := .ref gt) (C := RX2) (T := TX2) (N := 13) hx hb hts hin2 hown hK hP 0 rfl rfl 5 (by decide) (hts (.fieldLink RX2 17 "SkyAlmanacModel" "terms" "[I") (by decide +kernel)) (fun _ h9 => h9) rfl dX2_term_76 ?_
              refine lv_iload_n hx hb dX2_term_79 rfl (lv_at hl 1 rfl) ?_
              refine va_iald hx hb hK hP 2 0 rfl rfl (gt_in hb1 hb2) dX2_term_80 ?_
              rw [hk9]
              refine lv_bipush (v := 12) hx hb dX2_term_81 (by decide) ?_
              refine lv_icmp_ne (tgt := 92) hx hb dX2_term_83 (by decide) (fun c_21 => ?_) (fun c_21 => ?_)
              · have hk11 : k < 12 := by
                  rcases Nat.lt_or_ge k 12 with h9 | h9
                  · exact h9
                  · exact absurd (show nI k = 12 by rw [show k = 12 by omega]; decide) c_21
                refine lv_bipush (v := 12) hx hb dX2_term_92 (by decide) ?_
                refine lv_iload_n hx hb dX2_term_94 rfl (lv_at hl 1 rfl) ?_
                refine lv_imul hx hb dX2_term_95 ?_
                rw [ix12 hb1 hb2]
                refine lv_aload_n hx hb dX2_term_96 rfl (lv_at hl 0 rfl) ?_
                refine va_get (D := (dC, dI)) (ci := 2) (v := .ref gt) (C := RX2) (T := TX2) (N := 13) hx hb hts hin2 hown hK hP 0 rfl rfl 5 (by decide) (hts (.fieldLink RX2 17 "SkyAlmanacModel" "terms" "[I") (by decide +kernel)) (fun _ h9 => h9) rfl dX2_term_97 ?_
                refine lv_iload_n hx hb dX2_term_100 rfl (lv_at hl 1 rfl) ?_
                refine va_iald hx hb hK hP 2 0 rfl rfl (gt_in hb1 hb2) dX2_term_101 ?_
                rw [hk9]
                refine lv_iadd hx hb dX2_term_102 ?_
                rw [nI_add]
                refine lv_istore (lv' := [(9, .int (nI (12 * (Int32.toNatClampNeg x1) + k))), (0, .ref am), (1, .int x1), (2, .int x2), (3, .double x3), (5, .double x4), (7, .double x5)]) hx hb dX2_term_103 hl (by decide) rfl (fun ls hl => ?_)
                refine lv_aload_n hx hb dX2_term_105 rfl (lv_at hl 1 rfl) ?_
                refine va_get (D := (dC, dI)) (ci := 2) (v := .ref gp) (C := RX2) (T := TX2) (N := 13) hx hb hts hin2 hown hK hP 0 rfl rfl 6 (by decide) (hts (.fieldLink RX2 21 "SkyAlmanacModel" "powers" "[I") (by decide +kernel)) (fun _ h9 => h9) rfl dX2_term_106 ?_
                refine lv_iload hx hb dX2_term_109 (lv_at hl 0 rfl) ?_
                refine lv_iload_n hx hb dX2_term_111 rfl (lv_at hl 3 rfl) ?_
                refine va_iast hx hb hK hP hD hS 3 0 rfl rfl (vp_in_nI (show (12 * (Int32.toNatClampNeg x1) + k) < 48 by omega) (by decide)) dX2_term_112 (fun H locs hP hD hS => ?_)
                rw [nI_clamp (show (12 * (Int32.toNatClampNeg x1) + k) < 2 ^ 31 by omega)] at hP hD
                have hP : va_P (dC, dI) vwCl [(am, .inr (2, [.int 0, .int wo, .int fu, .ref gs, .ref go, .ref gt, .ref gp, .ref gw, .double la, .double ea, .ref gl, .int ln, .int fd])), (gs, aI 4 (cA 4) sf), (gt, aI 4 (cA 0) tf), (gp, aI 48 (cA 0) (upd pf (12 * (Int32.toNatClampNeg x1) + k) x2)), (gw, aD 144 (cA 1) wf)] H := hP
                have hD : va_D A [(am, .inr (2, [.int 0, .int wo, .int fu, .ref gs, .ref go, .ref gt, .ref gp, .ref gw, .double la, .double ea, .ref gl, .int ln, .int fd])), (gs, aI 4 (cA 4) sf), (gt, aI 4 (cA 0) tf), (gp, aI 48 (cA 0) (upd pf (12 * (Int32.toNatClampNeg x1) + k) x2)), (gw, aD 144 (cA 1) wf)] := hD
                refine lv_aload_n hx hb dX2_term_113 rfl (lv_at hl 1 rfl) ?_
                refine va_get (D := (dC, dI)) (ci := 2) (v := .ref gw) (C := RX2) (T := TX2) (N := 13) hx hb hts hin2 hown hK hP 0 rfl rfl 7 (by decide) (hts (.fieldLink RX2 24 "SkyAlmanacModel" "waves" "[D") (by decide +kernel)) (fun _ h9 => h9) rfl dX2_term_114 ?_
                refine lv_iconst (v := 3) hx hb dX2_term_117 (by decide) ?_
                refine lv_iload hx hb dX2_term_118 (lv_at hl 0 rfl) ?_
                refine lv_imul hx hb dX2_term_120 ?_
                rw [ix3]
                refine lv_dload_n hx hb dX2_term_121 rfl (lv_at hl 4 rfl) ?_
                refine va_dast hx hb hK hP hD hS 4 1 rfl rfl (vp_in_nI (show (3 * (12 * (Int32.toNatClampNeg x1) + k)) < 144 by omega) (by decide)) dX2_term_122 (fun H locs hP hD hS => ?_)
                rw [nI_clamp (show (3 * (12 * (Int32.toNatClampNeg x1) + k)) < 2 ^ 31 by omega)] at hP hD
                have hP : va_P (dC, dI) vwCl [(am, .inr (2, [.int 0, .int wo, .int fu, .ref gs, .ref go, .ref gt, .ref gp, .ref gw, .double la, .double ea, .ref gl, .int ln, .int fd])), (gs, aI 4 (cA 4) sf), (gt, aI 4 (cA 0) tf), (gp, aI 48 (cA 0) (upd pf (12 * (Int32.toNatClampNeg x1) + k) x2)), (gw, aD 144 (cA 1) (vf_upd wf (3 * (12 * (Int32.toNatClampNeg x1) + k)) x3))] H := hP
                have hD : va_D A [(am, .inr (2, [.int 0, .int wo, .int fu, .ref gs, .ref go, .ref gt, .ref gp, .ref gw, .double la, .double ea, .ref gl, .int ln, .int fd])), (gs, aI 4 (cA 4) sf), (gt, aI 4 (cA 0) tf), (gp, aI 48 (cA 0) (upd pf (12 * (Int32.toNatClampNeg x1) + k) x2)), (gw, aD 144 (cA 1) (vf_upd wf (3 * (12 * (Int32.toNatClampNeg x1) + k)) x3))] := hD
                refine lv_aload_n hx hb dX2_term_123 rfl (lv_at hl 1 rfl) ?_
                refine va_get (D := (dC, dI)) (ci := 2) (v := .ref gw) (C := RX2) (T := TX2) (N := 13) hx hb hts hin2 hown hK hP 0 rfl rfl 7 (by decide) (hts (.fieldLink RX2 24 "SkyAlmanacModel" "waves" "[D") (by decide +kernel)) (fun _ h9 => h9) rfl dX2_term_124 ?_
                refine lv_iconst (v := 3) hx hb dX2_term_127 (by decide) ?_
                refine lv_iload hx hb dX2_term_128 (lv_at hl 0 rfl) ?_
                refine lv_imul hx hb dX2_term_130 ?_
                rw [ix3]
                refine lv_iconst (v := 1) hx hb dX2_term_131 (by decide) ?_
                refine lv_iadd hx hb dX2_term_132 ?_
                rw [nI_1]
                refine lv_dload hx hb dX2_term_133 (lv_at hl 5 rfl) ?_
                refine va_dast hx hb hK hP hD hS 4 1 rfl rfl (vp_in_nI (show (3 * (12 * (Int32.toNatClampNeg x1) + k) + 1) < 144 by omega) (by decide)) dX2_term_135 (fun H locs hP hD hS => ?_)
                rw [nI_clamp (show (3 * (12 * (Int32.toNatClampNeg x1) + k) + 1) < 2 ^ 31 by omega)] at hP hD
                have hP : va_P (dC, dI) vwCl [(am, .inr (2, [.int 0, .int wo, .int fu, .ref gs, .ref go, .ref gt, .ref gp, .ref gw, .double la, .double ea, .ref gl, .int ln, .int fd])), (gs, aI 4 (cA 4) sf), (gt, aI 4 (cA 0) tf), (gp, aI 48 (cA 0) (upd pf (12 * (Int32.toNatClampNeg x1) + k) x2)), (gw, aD 144 (cA 1) (vf_upd (vf_upd wf (3 * (12 * (Int32.toNatClampNeg x1) + k)) x3) (3 * (12 * (Int32.toNatClampNeg x1) + k) + 1) x4))] H := hP
                have hD : va_D A [(am, .inr (2, [.int 0, .int wo, .int fu, .ref gs, .ref go, .ref gt, .ref gp, .ref gw, .double la, .double ea, .ref gl, .int ln, .int fd])), (gs, aI 4 (cA 4) sf), (gt, aI 4 (cA 0) tf), (gp, aI 48 (cA 0) (upd pf (12 * (Int32.toNatClampNeg x1) + k) x2)), (gw, aD 144 (cA 1) (vf_upd (vf_upd wf (3 * (12 * (Int32.toNatClampNeg x1) + k)) x3) (3 * (12 * (Int32.toNatClampNeg x1) + k) + 1) x4))] := hD
                refine lv_aload_n hx hb dX2_term_136 rfl (lv_at hl 1 rfl) ?_
                refine va_get (D := (dC, dI)) (ci := 2) (v := .ref gw) (C := RX2) (T := TX2) (N := 13) hx hb hts hin2 hown hK hP 0 rfl rfl 7 (by decide) (hts (.fieldLink RX2 24 "SkyAlmanacModel" "waves" "[D") (by decide +kernel)) (fun _ h9 => h9) rfl dX2_term_137 ?_
                refine lv_iconst (v := 3) hx hb dX2_term_140 (by decide) ?_
                refine lv_iload hx hb dX2_term_141 (lv_at hl 0 rfl) ?_
                refine lv_imul hx hb dX2_term_143 ?_
                rw [ix3]
                refine lv_iconst (v := 2) hx hb dX2_term_144 (by decide) ?_
                refine lv_iadd hx hb dX2_term_145 ?_
                rw [nI_2]
                refine lv_dload hx hb dX2_term_146 (lv_at hl 6 rfl) ?_
                refine va_dast hx hb hK hP hD hS 4 1 rfl rfl (vp_in_nI (show (3 * (12 * (Int32.toNatClampNeg x1) + k) + 2) < 144 by omega) (by decide)) dX2_term_148 (fun H locs hP hD hS => ?_)
                rw [nI_clamp (show (3 * (12 * (Int32.toNatClampNeg x1) + k) + 2) < 2 ^ 31 by omega)] at hP hD
                have hP : va_P (dC, dI) vwCl [(am, .inr (2, [.int 0, .int wo, .int fu, .ref gs, .ref go, .ref gt, .ref gp, .ref gw, .double la, .double ea, .ref gl, .int ln, .int fd])), (gs, aI 4 (cA 4) sf), (gt, aI 4 (cA 0) tf), (gp, aI 48 (cA 0) (upd pf (12 * (Int32.toNatClampNeg x1) + k) x2)), (gw, aD 144 (cA 1) (vf_upd (vf_upd (vf_upd wf (3 * (12 * (Int32.toNatClampNeg x1) + k)) x3) (3 * (12 * (Int32.toNatClampNeg x1) + k) + 1) x4) (3 * (12 * (Int32.toNatClampNeg x1) + k) + 2) x5))] H := hP
                have hD : va_D A [(am, .inr (2, [.int 0, .int wo, .int fu, .ref gs, .ref go, .ref gt, .ref gp, .ref gw, .double la, .double ea, .ref gl, .int ln, .int fd])), (gs, aI 4 (cA 4) sf), (gt, aI 4 (cA 0) tf), (gp, aI 48 (cA 0) (upd pf (12 * (Int32.toNatClampNeg x1) + k) x2)), (gw, aD 144 (cA 1) (vf_upd (vf_upd (vf_upd wf (3 * (12 * (Int32.toNatClampNeg x1) + k)) x3) (3 * (12 * (Int32.toNatClampNeg x1) + k) + 1) x4) (3 * (12 * (Int32.toNatClampNeg x1) + k) + 2) x5))] := hD
                refine lv_aload_n hx hb dX2_term_149 rfl (lv_at hl 1 rfl) ?_
                refine va_get (D := (dC, dI)) (ci := 2) (v := .ref gt) (C := RX2) (T := TX2) (N := 13) hx hb hts hin2 hown hK hP 0 rfl rfl 5 (by decide) (hts (.fieldLink RX2 17 "SkyAlmanacModel" "terms" "[I") (by decide +kernel)) (fun _ h9 => h9) rfl dX2_term_150 ?_
                refine lv_iload_n hx hb dX2_term_153 rfl (lv_at hl 2 rfl) ?_
                refine lv_dup2_11 hx hb dX2_term_154 rfl rfl ?_
                refine va_iald hx hb hK hP 2 0 rfl rfl (gt_in hb1 hb2) dX2_term_155 ?_
                rw [hk9]
                refine lv_iconst (v := 1) hx hb dX2_term_156 (by decide) ?_
                refine lv_iadd hx hb dX2_term_157 ?_
                rw [nI_1]
                refine va_iast hx hb hK hP hD hS 2 0 rfl rfl (gt_in hb1 hb2) dX2_term_158 (fun H locs hP hD hS => ?_)
                have hP : va_P (dC, dI) vwCl [(am, .inr (2, [.int 0, .int wo, .int fu, .ref gs, .ref go, .ref gt, .ref gp, .ref gw, .double la, .double ea, .ref gl, .int ln, .int fd])), (gs, aI 4 (cA 4) sf), (gt, aI 4 (cA 0) (upd tf (Int32.toNatClampNeg x1) (nI (k + 1)))), (gp, aI 48 (cA 0) (upd pf (12 * (Int32.toNatClampNeg x1) + k) x2)), (gw, aD 144 (cA 1) (vf_upd (vf_upd (vf_upd wf (3 * (12 * (Int32.toNatClampNeg x1) + k)) x3) (3 * (12 * (Int32.toNatClampNeg x1) + k) + 1) x4) (3 * (12 * (Int32.toNatClampNeg x1) + k) + 2) x5))] H := hP
                have hD : va_D A [(am, .inr (2, [.int 0, .int wo, .int fu, .ref gs, .ref go, .ref gt, .ref gp, .ref gw, .double la, .double ea, .ref gl, .int ln, .int fd])), (gs, aI 4 (cA 4) sf), (gt, aI 4 (cA 0) (upd tf (Int32.toNatClampNeg x1) (nI (k + 1)))), (gp, aI 48 (cA 0) (upd pf (12 * (Int32.toNatClampNeg x1) + k) x2)), (gw, aD 144 (cA 1) (vf_upd (vf_upd (vf_upd wf (3 * (12 * (Int32.toNatClampNeg x1) + k)) x3) (3 * (12 * (Int32.toNatClampNeg x1) + k) + 1) x4) (3 * (12 * (Int32.toNatClampNeg x1) + k) + 2) x5))] := hD
                refine lv_aload_n hx hb dX2_term_159 rfl (lv_at hl 1 rfl) ?_
                refine va_get (D := (dC, dI)) (ci := 2) (v := .ref gt) (C := RX2) (T := TX2) (N := 13) hx hb hts hin2 hown hK hP 0 rfl rfl 5 (by decide) (hts (.fieldLink RX2 17 "SkyAlmanacModel" "terms" "[I") (by decide +kernel)) (fun _ h9 => h9) rfl dX2_term_160 ?_
                refine lv_iload_n hx hb dX2_term_163 rfl (lv_at hl 2 rfl) ?_
                refine va_iald hx hb hK hP 2 0 rfl rfl (gt_in hb1 hb2) dX2_term_164 ?_
                rw [upd_same]
                have e0 : f_X2_term sf k x1 x2 x3 x4 x5 = (nI (k + 1), 0) := by unfold f_X2_term; rw [if_pos c_1, if_neg c_2, if_neg c_5, if_neg c_10, if_neg c_15, if_neg c_20, if_neg c_21]
                have e1 : (f_X2_term sf k x1 x2 x3 x4 x5).2 = 0 := by rw [e0]
                have hP : va_P (dC, dI) vwCl [(am, .inr (2, [.int ((f_X2_term sf k x1 x2 x3 x4 x5).2), .int wo, .int fu, .ref gs, .ref go, .ref gt, .ref gp, .ref gw, .double la, .double ea, .ref gl, .int ln, .int fd])), (gs, aI 4 (cA 4) sf), (gt, aI 4 (cA 0) (if (f_X2_term sf k x1 x2 x3 x4 x5).2 = 0 then upd tf (Int32.toNatClampNeg x1) (nI (k + 1)) else tf)), (gp, aI 48 (cA 0) (if (f_X2_term sf k x1 x2 x3 x4 x5).2 = 0 then upd pf (12 * (Int32.toNatClampNeg x1) + k) x2 else pf)), (gw, aD 144 (cA 1) (if (f_X2_term sf k x1 x2 x3 x4 x5).2 = 0 then vf_upd (vf_upd (vf_upd wf (3 * (12 * (Int32.toNatClampNeg x1) + k)) x3) (3 * (12 * (Int32.toNatClampNeg x1) + k) + 1) x4) (3 * (12 * (Int32.toNatClampNeg x1) + k) + 2) x5 else wf))] H := by simp only [if_pos e1]; rw [e1]; exact hP
                have hD : va_D A [(am, .inr (2, [.int ((f_X2_term sf k x1 x2 x3 x4 x5).2), .int wo, .int fu, .ref gs, .ref go, .ref gt, .ref gp, .ref gw, .double la, .double ea, .ref gl, .int ln, .int fd])), (gs, aI 4 (cA 4) sf), (gt, aI 4 (cA 0) (if (f_X2_term sf k x1 x2 x3 x4 x5).2 = 0 then upd tf (Int32.toNatClampNeg x1) (nI (k + 1)) else tf)), (gp, aI 48 (cA 0) (if (f_X2_term sf k x1 x2 x3 x4 x5).2 = 0 then upd pf (12 * (Int32.toNatClampNeg x1) + k) x2 else pf)), (gw, aD 144 (cA 1) (if (f_X2_term sf k x1 x2 x3 x4 x5).2 = 0 then vf_upd (vf_upd (vf_upd wf (3 * (12 * (Int32.toNatClampNeg x1) + k)) x3) (3 * (12 * (Int32.toNatClampNeg x1) + k) + 1) x4) (3 * (12 * (Int32.toNatClampNeg x1) + k) + 2) x5 else wf))] := by simp only [if_pos e1]; rw [e1]; exact hD
                exact W.iret hx hb hr (fun t ht hW => ⟨⟨_, (), rfl, (congrArg Prod.fst e0), ⟨by rw [ht]; exact hP, hD⟩⟩, hS.F ht⟩) hS.2.2 dX2_term_165
              · refine lv_aload_n hx hb dX2_term_86 rfl (lv_at hl 0 rfl) ?_
                refine lv_iconst (v := 3) hx hb dX2_term_87 (by decide) ?_
                have hPc := hP.sub (ws' := [(am, .inr (2, [.int 0, .int wo, .int fu, .ref gs, .ref go, .ref gt, .ref gp, .ref gw, .double la, .double ea, .ref gl, .int ln, .int fd]))]) [0] rfl
                have hDc := hD.sub (ws' := [(am, .inr (2, [.int 0, .int wo, .int fu, .ref gs, .ref go, .ref gt, .ref gp, .ref gw, .double la, .double ea, .ref gl, .int ln, .int fd]))]) [0] (by decide) rfl
                have hFc := va_free (wc := [(am, .inr (2, [.int 0, .int wo, .int fu, .ref gs, .ref go, .ref gt, .ref gp, .ref gw, .double la, .double ea, .ref gl, .int ln, .int fd]))]) hD hS hA [0] rfl
                refine va_calli (va_runV (As := [.int 3]) (rest := []) ⟨hx, hb, hml, hown, hts⟩ (k_X2_fail l hst dC dI cA tm tt _ am gs go gt gp gw gl 0 wo fu la ea ln fd 3) (cwV 1 hts gX2_term_X2_fail rfl rfl rfl (by decide +kernel) ⟨Nat.le_of_ble_eq_true rfl, Nat.le_of_ble_eq_true rfl⟩) ⟨PcW.blind, va_recv hK hPc (ci := 2) (q0 := 0) rfl rfl, PcW.give hPc hK hDc hE hS hFc⟩ rfl rfl hl.1 rfl (lv_room (Nat.le_of_ble_eq_true rfl)) dX2_term_88 ⟨Nat.le_of_ble_eq_true rfl, Nat.le_of_ble_eq_true rfl⟩) hS (fun q _ h => hFc q h) hFc (fun v_22 u t H locs ht hvm hp_23 hB hz1 hk1 hS => ?_)
                obtain ⟨hP1, hD1⟩ := hB
                rw [ht] at hP1
                obtain ⟨hP, hD⟩ := va_join (wr := [(gs, aI 4 (cA 4) sf), (gt, aI 4 (cA 0) tf), (gp, aI 48 (cA 0) pf), (gw, aD 144 (cA 1) wf)]) (w1 := [(am, .inr (2, [.int 3, .int wo, .int fu, .ref gs, .ref go, .ref gt, .ref gp, .ref gw, .double la, .double ea, .ref gl, .int ln, .int fd]))]) hP hD [0] [1, 2, 3, 4] rfl rfl (by decide) (by decide) hk1 hFc hP1 hD1
                have hP := hP.sub (ws' := [(am, .inr (2, [.int 3, .int wo, .int fu, .ref gs, .ref go, .ref gt, .ref gp, .ref gw, .double la, .double ea, .ref gl, .int ln, .int fd])), (gs, aI 4 (cA 4) sf), (gt, aI 4 (cA 0) tf), (gp, aI 48 (cA 0) pf), (gw, aD 144 (cA 1) wf)]) [4, 0, 1, 2, 3] rfl
                have hD := hD.sub (ws' := [(am, .inr (2, [.int 3, .int wo, .int fu, .ref gs, .ref go, .ref gt, .ref gp, .ref gw, .double la, .double ea, .ref gl, .int ln, .int fd])), (gs, aI 4 (cA 4) sf), (gt, aI 4 (cA 0) tf), (gp, aI 48 (cA 0) pf), (gw, aD 144 (cA 1) wf)]) [4, 0, 1, 2, 3] (by decide) rfl
                obtain rfl := hp_23
                have e0 : f_X2_term sf k x1 x2 x3 x4 x5 = (0, 3) := by unfold f_X2_term; rw [if_pos c_1, if_neg c_2, if_neg c_5, if_neg c_10, if_neg c_15, if_neg c_20, if_pos c_21]
                have e1 : (f_X2_term sf k x1 x2 x3 x4 x5).2 = 3 := by rw [e0]
                have hP : va_P (dC, dI) vwCl [(am, .inr (2, [.int ((f_X2_term sf k x1 x2 x3 x4 x5).2), .int wo, .int fu, .ref gs, .ref go, .ref gt, .ref gp, .ref gw, .double la, .double ea, .ref gl, .int ln, .int fd])), (gs, aI 4 (cA 4) sf), (gt, aI 4 (cA 0) (if (f_X2_term sf k x1 x2 x3 x4 x5).2 = 0 then upd tf (Int32.toNatClampNeg x1) (nI (k + 1)) else tf)), (gp, aI 48 (cA 0) (if (f_X2_term sf k x1 x2 x3 x4 x5).2 = 0 then upd pf (12 * (Int32.toNatClampNeg x1) + k) x2 else pf)), (gw, aD 144 (cA 1) (if (f_X2_term sf k x1 x2 x3 x4 x5).2 = 0 then vf_upd (vf_upd (vf_upd wf (3 * (12 * (Int32.toNatClampNeg x1) + k)) x3) (3 * (12 * (Int32.toNatClampNeg x1) + k) + 1) x4) (3 * (12 * (Int32.toNatClampNeg x1) + k) + 2) x5 else wf))] H := by simp only [if_neg (show ¬ (f_X2_term sf k x1 x2 x3 x4 x5).2 = 0 by rw [e1]; decide)]; rw [e1]; exact hP
                have hD : va_D A [(am, .inr (2, [.int ((f_X2_term sf k x1 x2 x3 x4 x5).2), .int wo, .int fu, .ref gs, .ref go, .ref gt, .ref gp, .ref gw, .double la, .double ea, .ref gl, .int ln, .int fd])), (gs, aI 4 (cA 4) sf), (gt, aI 4 (cA 0) (if (f_X2_term sf k x1 x2 x3 x4 x5).2 = 0 then upd tf (Int32.toNatClampNeg x1) (nI (k + 1)) else tf)), (gp, aI 48 (cA 0) (if (f_X2_term sf k x1 x2 x3 x4 x5).2 = 0 then upd pf (12 * (Int32.toNatClampNeg x1) + k) x2 else pf)), (gw, aD 144 (cA 1) (if (f_X2_term sf k x1 x2 x3 x4 x5).2 = 0 then vf_upd (vf_upd (vf_upd wf (3 * (12 * (Int32.toNatClampNeg x1) + k)) x3) (3 * (12 * (Int32.toNatClampNeg x1) + k) + 1) x4) (3 * (12 * (Int32.toNatClampNeg x1) + k) + 2) x5 else wf))] := by simp only [if_neg (show ¬ (f_X2_term sf k x1 x2 x3 x4 x5).2 = 0 by rw [e1]; decide)]; rw [e1]; exact hD
                exact W.iret hx hb hr (fun t ht hW => ⟨⟨_, (), rfl, (congrArg Prod.fst e0), ⟨by rw [ht]; exact hP, hD⟩⟩, hS.F ht⟩) hS.2.2 dX2_term_91
            · refine lv_aload_n hx hb dX2_term_69 rfl (lv_at hl 0 rfl) ?_
              refine lv_iconst (v := 2) hx hb dX2_term_70 (by decide) ?_
              have hPc := hP.sub (ws' := [(am, .inr (2, [.int 0, .int wo, .int fu, .ref gs, .ref go, .ref gt, .ref gp, .ref gw, .double la, .double ea, .ref gl, .int ln, .int fd]))]) [0] rfl
              have hDc := hD.sub (ws' := [(am, .inr (2, [.int 0, .int wo, .int fu, .ref gs, .ref go, .ref gt, .ref gp, .ref gw, .double la, .double ea, .ref gl, .int ln, .int fd]))]) [0] (by decide) rfl
              have hFc := va_free (wc := [(am, .inr (2, [.int 0, .int wo, .int fu, .ref gs, .ref go, .ref gt, .ref gp, .ref gw, .double la, .double ea, .ref gl, .int ln, .int fd]))]) hD hS hA [0] rfl
              refine va_calli (va_runV (As := [.int 2]) (rest := []) ⟨hx, hb, hml, hown, hts⟩ (k_X2_fail l hst dC dI cA tm tt _ am gs go gt gp gw gl 0 wo fu la ea ln fd 2) (cwV 1 hts gX2_term_X2_fail rfl rfl rfl (by decide +kernel) ⟨Nat.le_of_ble_eq_true rfl, Nat.le_of_ble_eq_true rfl⟩) ⟨PcW.blind, va_recv hK hPc (ci := 2) (q0 := 0) rfl rfl, PcW.give hPc hK hDc hE hS hFc⟩ rfl rfl hl.1 rfl (lv_room (Nat.le_of_ble_eq_true rfl)) dX2_term_71 ⟨Nat.le_of_ble_eq_true rfl, Nat.le_of_ble_eq_true rfl⟩) hS (fun q _ h => hFc q h) hFc (fun v_24 u t H locs ht hvm hp_25 hB hz1 hk1 hS => ?_)
              obtain ⟨hP1, hD1⟩ := hB
              rw [ht] at hP1
              obtain ⟨hP, hD⟩ := va_join (wr := [(gs, aI 4 (cA 4) sf), (gt, aI 4 (cA 0) tf), (gp, aI 48 (cA 0) pf), (gw, aD 144 (cA 1) wf)]) (w1 := [(am, .inr (2, [.int 2, .int wo, .int fu, .ref gs, .ref go, .ref gt, .ref gp, .ref gw, .double la, .double ea, .ref gl, .int ln, .int fd]))]) hP hD [0] [1, 2, 3, 4] rfl rfl (by decide) (by decide) hk1 hFc hP1 hD1
              have hP := hP.sub (ws' := [(am, .inr (2, [.int 2, .int wo, .int fu, .ref gs, .ref go, .ref gt, .ref gp, .ref gw, .double la, .double ea, .ref gl, .int ln, .int fd])), (gs, aI 4 (cA 4) sf), (gt, aI 4 (cA 0) tf), (gp, aI 48 (cA 0) pf), (gw, aD 144 (cA 1) wf)]) [4, 0, 1, 2, 3] rfl
              have hD := hD.sub (ws' := [(am, .inr (2, [.int 2, .int wo, .int fu, .ref gs, .ref go, .ref gt, .ref gp, .ref gw, .double la, .double ea, .ref gl, .int ln, .int fd])), (gs, aI 4 (cA 4) sf), (gt, aI 4 (cA 0) tf), (gp, aI 48 (cA 0) pf), (gw, aD 144 (cA 1) wf)]) [4, 0, 1, 2, 3] (by decide) rfl
              obtain rfl := hp_25
              have e0 : f_X2_term sf k x1 x2 x3 x4 x5 = (0, 2) := by unfold f_X2_term; rw [if_pos c_1, if_neg c_2, if_neg c_5, if_neg c_10, if_neg c_15, if_pos c_20]
              have e1 : (f_X2_term sf k x1 x2 x3 x4 x5).2 = 2 := by rw [e0]
              have hP : va_P (dC, dI) vwCl [(am, .inr (2, [.int ((f_X2_term sf k x1 x2 x3 x4 x5).2), .int wo, .int fu, .ref gs, .ref go, .ref gt, .ref gp, .ref gw, .double la, .double ea, .ref gl, .int ln, .int fd])), (gs, aI 4 (cA 4) sf), (gt, aI 4 (cA 0) (if (f_X2_term sf k x1 x2 x3 x4 x5).2 = 0 then upd tf (Int32.toNatClampNeg x1) (nI (k + 1)) else tf)), (gp, aI 48 (cA 0) (if (f_X2_term sf k x1 x2 x3 x4 x5).2 = 0 then upd pf (12 * (Int32.toNatClampNeg x1) + k) x2 else pf)), (gw, aD 144 (cA 1) (if (f_X2_term sf k x1 x2 x3 x4 x5).2 = 0 then vf_upd (vf_upd (vf_upd wf (3 * (12 * (Int32.toNatClampNeg x1) + k)) x3) (3 * (12 * (Int32.toNatClampNeg x1) + k) + 1) x4) (3 * (12 * (Int32.toNatClampNeg x1) + k) + 2) x5 else wf))] H := by simp only [if_neg (show ¬ (f_X2_term sf k x1 x2 x3 x4 x5).2 = 0 by rw [e1]; decide)]; rw [e1]; exact hP
              have hD : va_D A [(am, .inr (2, [.int ((f_X2_term sf k x1 x2 x3 x4 x5).2), .int wo, .int fu, .ref gs, .ref go, .ref gt, .ref gp, .ref gw, .double la, .double ea, .ref gl, .int ln, .int fd])), (gs, aI 4 (cA 4) sf), (gt, aI 4 (cA 0) (if (f_X2_term sf k x1 x2 x3 x4 x5).2 = 0 then upd tf (Int32.toNatClampNeg x1) (nI (k + 1)) else tf)), (gp, aI 48 (cA 0) (if (f_X2_term sf k x1 x2 x3 x4 x5).2 = 0 then upd pf (12 * (Int32.toNatClampNeg x1) + k) x2 else pf)), (gw, aD 144 (cA 1) (if (f_X2_term sf k x1 x2 x3 x4 x5).2 = 0 then vf_upd (vf_upd (vf_upd wf (3 * (12 * (Int32.toNatClampNeg x1) + k)) x3) (3 * (12 * (Int32.toNatClampNeg x1) + k) + 1) x4) (3 * (12 * (Int32.toNatClampNeg x1) + k) + 2) x5 else wf))] := by simp only [if_neg (show ¬ (f_X2_term sf k x1 x2 x3 x4 x5).2 = 0 by rw [e1]; decide)]; rw [e1]; exact hD
              exact W.iret hx hb hr (fun t ht hW => ⟨⟨_, (), rfl, (congrArg Prod.fst e0), ⟨by rw [ht]; exact hP, hD⟩⟩, hS.F ht⟩) hS.2.2 dX2_term_74
  · refine lv_aload_n hx hb dX2_term_13 rfl (lv_at hl 0 rfl) ?_
    refine lv_iconst (v := 1) hx hb dX2_term_14 (by decide) ?_
    have hPc := hP.sub (ws' := [(am, .inr (2, [.int 0, .int wo, .int fu, .ref gs, .ref go, .ref gt, .ref gp, .ref gw, .double la, .double ea, .ref gl, .int ln, .int fd]))]) [0] rfl
    have hDc := hD.sub (ws' := [(am, .inr (2, [.int 0, .int wo, .int fu, .ref gs, .ref go, .ref gt, .ref gp, .ref gw, .double la, .double ea, .ref gl, .int ln, .int fd]))]) [0] (by decide) rfl
    have hFc := va_free (wc := [(am, .inr (2, [.int 0, .int wo, .int fu, .ref gs, .ref go, .ref gt, .ref gp, .ref gw, .double la, .double ea, .ref gl, .int ln, .int fd]))]) hD hS hA [0] rfl
    refine va_calli (va_runV (As := [.int 1]) (rest := []) ⟨hx, hb, hml, hown, hts⟩ (k_X2_fail l hst dC dI cA tm tt _ am gs go gt gp gw gl 0 wo fu la ea ln fd 1) (cwV 1 hts gX2_term_X2_fail rfl rfl rfl (by decide +kernel) ⟨Nat.le_of_ble_eq_true rfl, Nat.le_of_ble_eq_true rfl⟩) ⟨PcW.blind, va_recv hK hPc (ci := 2) (q0 := 0) rfl rfl, PcW.give hPc hK hDc hE hS hFc⟩ rfl rfl hl.1 rfl (lv_room (Nat.le_of_ble_eq_true rfl)) dX2_term_15 ⟨Nat.le_of_ble_eq_true rfl, Nat.le_of_ble_eq_true rfl⟩) hS (fun q _ h => hFc q h) hFc (fun v_26 u t H locs ht hvm hp_27 hB hz1 hk1 hS => ?_)
    obtain ⟨hP1, hD1⟩ := hB
    rw [ht] at hP1
    obtain ⟨hP, hD⟩ := va_join (wr := [(gs, aI 4 (cA 4) sf), (gt, aI 4 (cA 0) tf), (gp, aI 48 (cA 0) pf), (gw, aD 144 (cA 1) wf)]) (w1 := [(am, .inr (2, [.int 1, .int wo, .int fu, .ref gs, .ref go, .ref gt, .ref gp, .ref gw, .double la, .double ea, .ref gl, .int ln, .int fd]))]) hP hD [0] [1, 2, 3, 4] rfl rfl (by decide) (by decide) hk1 hFc hP1 hD1
    have hP := hP.sub (ws' := [(am, .inr (2, [.int 1, .int wo, .int fu, .ref gs, .ref go, .ref gt, .ref gp, .ref gw, .double la, .double ea, .ref gl, .int ln, .int fd])), (gs, aI 4 (cA 4) sf), (gt, aI 4 (cA 0) tf), (gp, aI 48 (cA 0) pf), (gw, aD 144 (cA 1) wf)]) [4, 0, 1, 2, 3] rfl
    have hD := hD.sub (ws' := [(am, .inr (2, [.int 1, .int wo, .int fu, .ref gs, .ref go, .ref gt, .ref gp, .ref gw, .double la, .double ea, .ref gl, .int ln, .int fd])), (gs, aI 4 (cA 4) sf), (gt, aI 4 (cA 0) tf), (gp, aI 48 (cA 0) pf), (gw, aD 144 (cA 1) wf)]) [4, 0, 1, 2, 3] (by decide) rfl
    obtain rfl := hp_27
    have e0 : f_X2_term sf k x1 x2 x3 x4 x5 = (0, 1) := by unfold f_X2_term; rw [if_neg c_1]
    have e1 : (f_X2_term sf k x1 x2 x3 x4 x5).2 = 1 := by rw [e0]
    have hP : va_P (dC, dI) vwCl [(am, .inr (2, [.int ((f_X2_term sf k x1 x2 x3 x4 x5).2), .int wo, .int fu, .ref gs, .ref go, .ref gt, .ref gp, .ref gw, .double la, .double ea, .ref gl, .int ln, .int fd])), (gs, aI 4 (cA 4) sf), (gt, aI 4 (cA 0) (if (f_X2_term sf k x1 x2 x3 x4 x5).2 = 0 then upd tf (Int32.toNatClampNeg x1) (nI (k + 1)) else tf)), (gp, aI 48 (cA 0) (if (f_X2_term sf k x1 x2 x3 x4 x5).2 = 0 then upd pf (12 * (Int32.toNatClampNeg x1) + k) x2 else pf)), (gw, aD 144 (cA 1) (if (f_X2_term sf k x1 x2 x3 x4 x5).2 = 0 then vf_upd (vf_upd (vf_upd wf (3 * (12 * (Int32.toNatClampNeg x1) + k)) x3) (3 * (12 * (Int32.toNatClampNeg x1) + k) + 1) x4) (3 * (12 * (Int32.toNatClampNeg x1) + k) + 2) x5 else wf))] H := by simp only [if_neg (show ¬ (f_X2_term sf k x1 x2 x3 x4 x5).2 = 0 by rw [e1]; decide)]; rw [e1]; exact hP
    have hD : va_D A [(am, .inr (2, [.int ((f_X2_term sf k x1 x2 x3 x4 x5).2), .int wo, .int fu, .ref gs, .ref go, .ref gt, .ref gp, .ref gw, .double la, .double ea, .ref gl, .int ln, .int fd])), (gs, aI 4 (cA 4) sf), (gt, aI 4 (cA 0) (if (f_X2_term sf k x1 x2 x3 x4 x5).2 = 0 then upd tf (Int32.toNatClampNeg x1) (nI (k + 1)) else tf)), (gp, aI 48 (cA 0) (if (f_X2_term sf k x1 x2 x3 x4 x5).2 = 0 then upd pf (12 * (Int32.toNatClampNeg x1) + k) x2 else pf)), (gw, aD 144 (cA 1) (if (f_X2_term sf k x1 x2 x3 x4 x5).2 = 0 then vf_upd (vf_upd (vf_upd wf (3 * (12 * (Int32.toNatClampNeg x1) + k)) x3) (3 * (12 * (Int32.toNatClampNeg x1) + k) + 1) x4) (3 * (12 * (Int32.toNatClampNeg x1) + k) + 2) x5 else wf))] := by simp only [if_neg (show ¬ (f_X2_term sf k x1 x2 x3 x4 x5).2 = 0 by rw [e1]; decide)]; rw [e1]; exact hD
    exact W.iret hx hb hr (fun t ht hW => ⟨⟨_, (), rfl, (congrArg Prod.fst e0), ⟨by rw [ht]; exact hP, hD⟩⟩, hS.F ht⟩) hS.2.2 dX2_term_18
