section VXR
variable {p : Program} {l : Launch} {e : Env} {R : Room} {s : State} {m : MethodId} {args : Array Value} {below : List Frame} {meth : Method} {c : Code} {H : Heap} {locs : List Loc} {cells slots : Nat} {Q : State → Prop}
variable {pc : Nat} {ls : Array Slot} {rest st0 : List Value} {a : Array Value} {A0 A1 : Nat → Prop} {H0 : Heap} {mc ms : Nat} {free : Addr → Prop}
theorem vx_callr {S SX : Type} {post : S → Prop} {px : SX → Prop} {B : S → Nat → State → Prop} {BX : String → SX → State → Prop} {AX : Nat → Prop} (hr : vx_Run p l e R s m args below meth c H locs cells slots mc ms (F0 m pc ls st0) rest (va_Qr post B A1 a) (vx_X px BX AX) free) (hS : va_S A0 H0 H locs) (hA : ∀ q, q < H.size → A1 q → A0 q) (hf : ∀ q, free q → A0 q) (hAX : ∀ q, q < H.size → AX q → A0 q)
    (kx : ∀ (E : String) (ce : Cell) (q9 : Addr) (u : SX) (t : State) (H1 : Heap) (locs1 : List Loc), t.heap = H1 → s.vm.Alike t.vm → px u → BX E u t → H.size ≤ H1.size → (∀ q : Nat, q < H.size → ¬ AX q → H1[q]? = H[q]?) → va_S A0 H0 H1 locs1 → H1[q9]? = some ce → ce.vm = .none → s.vm.findClass E = some ce.cls → vx_W p l e R s m args below meth c H1 locs1 (cells + mc) (slots + ms) Q (F0 m pc ls rest) q9)
    (kk : ∀ (u : S) (r : Nat) (t : State) (H1 : Heap) (locs1 : List Loc), t.heap = H1 → s.vm.Alike t.vm → post u → B u r t → H.size ≤ H1.size → (∀ q : Nat, q < H.size → ¬ A1 q → H1[q]? = H[q]?) → va_S A0 H0 H1 locs1 → W p l e R s m args below meth c H1 locs1 (cells + mc) (slots + ms) Q (F0 m (pc + 3) ls (.ref r :: rest))) : W p l e R s m args below meth c H locs cells slots Q (F0 m pc ls st0) := by
  intro T hT X
  rcases hr T hT X with ⟨v, st₀, t, T', L, h0, X', hL, e1, e2, ⟨⟨u, r, hv, hp, hb⟩, hF⟩, st⟩ | ⟨q, st₀, t, T', L, E, ce, h0, X', hL, e1, e2, ⟨u, hp, hb, hF⟩, hce, hcv, hcl, st⟩
  · cases hv
    obtain ⟨k1, k2, k3⟩ := vx_keep h0 e1 hS hA hf hL hF
    obtain ⟨t2, a1, b1⟩ := kk u r t T'.heap (locs ++ L) e1.symm (by rw [← e2]; exact X'.warmed.alike) hp hb k1 k2 k3 T' rfl X'
    exact ⟨t2, st t2 a1, b1⟩
  · obtain ⟨k1, k2, k3⟩ := vx_keep h0 e1 hS hAX hf hL hF
    obtain ⟨t2, a1, b1⟩ := kx E ce q u t T'.heap (locs ++ L) e1.symm (by rw [← e2]; exact X'.warmed.alike) hp hb k1 k2 k3 (by rw [e1]; exact hce) hcv hcl T' rfl X'
    exact ⟨t2, st.trans a1, b1⟩
end VXR
/-- is the body set? -/
def BTS (st x1 : Int32) : Except String Unit := if x1 < 0 then .error xNS else if 4 ≤ x1 then .error xNS else if st = 0 then .error xNS else .ok ()
theorem nle_lt {x y : Int32} (h : ¬ y ≤ x) : x < y := by
  rw [Int32.le_iff_toInt_le] at h; rw [Int32.lt_iff_toInt_lt]; omega
theorem nlt_le {x y : Int32} (h : ¬ x < y) : y ≤ x := by
  rw [Int32.lt_iff_toInt_lt] at h; rw [Int32.le_iff_toInt_le]; omega
theorem ge_in {x : Int32} {n : Nat} {m : Int32} (hm : m.toInt = n) (h1 : ¬ x < 0) (h2 : ¬ m ≤ x) : vp_in x n := lt_in hm h1 (nle_lt h2)
set_option maxHeartbeats 4000000 in
set_option maxRecDepth 100000 in
theorem k_X1_bodyThatIsSet (l : Launch) (hst : l.stackTraces = false) (dC : Nat → ClassId) (dI : Nat → Nat → Nat) (cA : Nat → ClassId) (tm tt sz : Nat) (ax ab aw : Nat) (wl : Int32) (la ea : UInt64) (wk fl : Int32) (bb bp bf bs bv : Nat) (st : Int32) (oL oN oE oW : UInt64) (k : Nat) (qf : Nat → Option Nat) (x1 : Int32) (hq : ¬ x1 < 0 → x1 < 4 → qf x1.toNatClampNeg = some bb) : vx_Met l yX1_bodyThatIsSet wsX1_bodyThatIsSet ({ frames := 6, cells := 1, slots := 6, locals := 82 }) (PcR dC dI cA tm tt sz [.ref ax, .int x1] [(ax, .inr (1, [.ref ab, .ref aw, .int wl, .double la, .double ea, .int wk, .int fl])), (ab, aQ 4 (cA 3) qf), (bb, .inr (0, [.int st, .double oL, .double oN, .double oE, .double oW, .int (nI k), .ref bp, .ref bf, .ref bs, .ref bv]))]) (va_Qr (fun (_ : Unit) => True) (fun _ a _ => a = bb ∧ BTS st x1 = .ok ()) (va_A [] sz)) (vx_X (fun (_ : Unit) => True) (fun E _ t => BTS st x1 = .error E) (va_A [] sz)) 1 6 (va_A [] sz) := by
  refine vx_ofW (cc := cX1_bodyThatIsSet) (maxL := 2) (ret := (some (.object "SkyAlmanac$Body"))) (by decide) rfl ?_
  intro p e s m args below meth c s₁ B hml hnt hv
  obtain ⟨rfl, hsz, hP, hK, hE⟩ := hv
  subst hsz
  have hS : va_S (va_A [] s.heap.size) s.heap s.heap [] := va_S.rf
  have hA : ∀ q : Nat, s.heap.size ≤ q → va_A [] s.heap.size q := fun q h => Or.inr h
  have hx := B.exec
  have hb := B.bytes
  have hr := B.returns
  have hts := atoms_spec (ws := wsX1_bodyThatIsSet) B.pre
  have hown : s.vm.findClass RX1 = some m.cls := findClass_of_methodNamed B.named
  have hlocks := B.notSynchronized
  have hl := lv_entry ([.ref ax, .int x1]) (n := 2) (Nat.le_of_ble_eq_true rfl)
  rw [lg_entry_eq]
  generalize (lg_sl ([.ref ax, .int x1]) ++ List.replicate (2 - (lg_sl ([.ref ax, .int x1])).length) Slot.unset).toArray = ls at hl ⊢
  have hl : lv_has ls 2 [(0, .ref ax), (1, .int x1)] := hl
  have hin0 : ∀ w ∈ u_ws RX0 TX0 10, w ∈ wsX1_bodyThatIsSet := by decide +kernel
  have hin1 : ∀ w ∈ u_ws RX1 TX1 7, w ∈ wsX1_bodyThatIsSet := by decide +kernel
  refine lv_iload_n hx hb dX1_bodyThatIsSet_0 rfl (lv_at hl 1 rfl) ?_
  refine lv_if_lt (tgt := 25) hx hb dX1_bodyThatIsSet_1 (by decide) (fun c_1 => ?_) (fun c_1 => ?_)
  · obtain ⟨sa_2, hsa_2⟩ := hE.1.str (k := 216) (tx := "no such body is set") (by decide +kernel)
    exact zt_throwS (rest := []) hx hb hst hown thc_NS thc_RE thf1 (hts (.classLink RX1 214 xNS) (by decide +kernel)) (hts (.initialized xNS) (by decide +kernel)) hsa_2 (tha_NS hE.1 (fun w hw => hts w (List.mem_cons_of_mem _ (List.mem_append_right _ hw)))) thg_NS hE.2.1.1 hE.2.1.2 hS (by rw [hml]; exact hl.1) dX1_bodyThatIsSet_25 dX1_bodyThatIsSet_28 dX1_bodyThatIsSet_29 dX1_bodyThatIsSet_31 dX1_bodyThatIsSet_34 (fun x hx9 => (hnt x hx9).elim) (Nat.le_of_ble_eq_true rfl) (Nat.le_of_ble_eq_true rfl) (Nat.le_of_ble_eq_true rfl) (Nat.le_of_ble_eq_true rfl) hlocks (fun t hvm hz hk => ⟨(), trivial, (by unfold BTS; rw [if_pos c_1]), zx_F hS hz hk⟩) hS.2.2 (Nat.le_of_ble_eq_true rfl) (Nat.le_of_ble_eq_true rfl)
  · refine lv_iload_n hx hb dX1_bodyThatIsSet_4 rfl (lv_at hl 1 rfl) ?_
    refine lv_aload_n hx hb dX1_bodyThatIsSet_5 rfl (lv_at hl 0 rfl) ?_
    refine va_get (D := (dC, dI)) (ci := 1) (v := .ref ab) (C := RX1) (T := TX1) (N := 7) hx hb hts hin1 hown hK hP 0 rfl rfl 0 (by decide) (hts (.fieldLink RX1 11 "SkyAlmanac" "bodies" "[LSkyAlmanac$Body;") (by decide +kernel)) (fun _ h9 => h9) rfl dX1_bodyThatIsSet_6 ?_
    refine va_alen (v := 4) hx hb hK hP 1 3 rfl rfl rfl dX1_bodyThatIsSet_9 ?_
    refine lv_icmp_ge (tgt := 25) hx hb dX1_bodyThatIsSet_10 (by decide) (fun c_3 => ?_) (fun c_3 => ?_)
    · obtain ⟨sa_4, hsa_4⟩ := hE.1.str (k := 216) (tx := "no such body is set") (by decide +kernel)
      exact zt_throwS (rest := []) hx hb hst hown thc_NS thc_RE thf1 (hts (.classLink RX1 214 xNS) (by decide +kernel)) (hts (.initialized xNS) (by decide +kernel)) hsa_4 (tha_NS hE.1 (fun w hw => hts w (List.mem_cons_of_mem _ (List.mem_append_right _ hw)))) thg_NS hE.2.1.1 hE.2.1.2 hS (by rw [hml]; exact hl.1) dX1_bodyThatIsSet_25 dX1_bodyThatIsSet_28 dX1_bodyThatIsSet_29 dX1_bodyThatIsSet_31 dX1_bodyThatIsSet_34 (fun x hx9 => (hnt x hx9).elim) (Nat.le_of_ble_eq_true rfl) (Nat.le_of_ble_eq_true rfl) (Nat.le_of_ble_eq_true rfl) (Nat.le_of_ble_eq_true rfl) hlocks (fun t hvm hz hk => ⟨(), trivial, (by unfold BTS; rw [if_neg c_1, if_pos c_3]), zx_F hS hz hk⟩) hS.2.2 (Nat.le_of_ble_eq_true rfl) (Nat.le_of_ble_eq_true rfl)
    · refine lv_aload_n hx hb dX1_bodyThatIsSet_13 rfl (lv_at hl 0 rfl) ?_
      refine va_get (D := (dC, dI)) (ci := 1) (v := .ref ab) (C := RX1) (T := TX1) (N := 7) hx hb hts hin1 hown hK hP 0 rfl rfl 0 (by decide) (hts (.fieldLink RX1 11 "SkyAlmanac" "bodies" "[LSkyAlmanac$Body;") (by decide +kernel)) (fun _ h9 => h9) rfl dX1_bodyThatIsSet_14 ?_
      refine lv_iload_n hx hb dX1_bodyThatIsSet_17 rfl (lv_at hl 1 rfl) ?_
      refine va_aldq hx hb hK hP 1 3 rfl rfl (ge_in (m := 4) rfl c_1 c_3) dX1_bodyThatIsSet_18 ?_
      rw [hq c_1 (nle_lt c_3), show va_rf (some bb) = Value.ref bb from rfl]
      refine va_getN (D := (dC, dI)) (ci := 0) (v := .int st) (C := RX0) (T := TX0) (N := 10) hx hb hts hin0 hown hK hP 2 rfl rfl 0 (by decide) (va_Nw.use rfl (hE.1.1 (.fieldLinkNest RX1 157 "SkyAlmanac$Body" "isSet" "Z" "SkyAlmanac") (by decide +kernel))) (fun _ h9 => h9) rfl dX1_bodyThatIsSet_19 ?_
      refine lv_if_ne (tgt := 35) hx hb dX1_bodyThatIsSet_22 (by decide) (fun c_5 => ?_) (fun c_5 => ?_)
      · refine lv_aload_n hx hb dX1_bodyThatIsSet_35 rfl (lv_at hl 0 rfl) ?_
        refine va_get (D := (dC, dI)) (ci := 1) (v := .ref ab) (C := RX1) (T := TX1) (N := 7) hx hb hts hin1 hown hK hP 0 rfl rfl 0 (by decide) (hts (.fieldLink RX1 11 "SkyAlmanac" "bodies" "[LSkyAlmanac$Body;") (by decide +kernel)) (fun _ h9 => h9) rfl dX1_bodyThatIsSet_36 ?_
        refine lv_iload_n hx hb dX1_bodyThatIsSet_39 rfl (lv_at hl 1 rfl) ?_
        refine va_aldq hx hb hK hP 1 3 rfl rfl (ge_in (m := 4) rfl c_1 c_3) dX1_bodyThatIsSet_40 ?_
        rw [hq c_1 (nle_lt c_3), show va_rf (some bb) = Value.ref bb from rfl]
        refine W.widen (k := 1) (n := 6) (Nat.le_of_ble_eq_true rfl) (Nat.le_of_ble_eq_true rfl) ?_
        exact vx_ret (W.aret hx hb hr (Or.inl ⟨_, rfl⟩) (Or.inr ⟨_, rfl⟩) (fun t ht hW => ⟨⟨(), _, rfl, trivial, ⟨rfl, by unfold BTS; rw [if_neg c_1, if_neg c_3, if_neg c_5]⟩⟩, hS.F ht⟩) hS.2.2 dX1_bodyThatIsSet_41)
      · obtain ⟨sa_6, hsa_6⟩ := hE.1.str (k := 216) (tx := "no such body is set") (by decide +kernel)
        exact zt_throwS (rest := []) hx hb hst hown thc_NS thc_RE thf1 (hts (.classLink RX1 214 xNS) (by decide +kernel)) (hts (.initialized xNS) (by decide +kernel)) hsa_6 (tha_NS hE.1 (fun w hw => hts w (List.mem_cons_of_mem _ (List.mem_append_right _ hw)))) thg_NS hE.2.1.1 hE.2.1.2 hS (by rw [hml]; exact hl.1) dX1_bodyThatIsSet_25 dX1_bodyThatIsSet_28 dX1_bodyThatIsSet_29 dX1_bodyThatIsSet_31 dX1_bodyThatIsSet_34 (fun x hx9 => (hnt x hx9).elim) (Nat.le_of_ble_eq_true rfl) (Nat.le_of_ble_eq_true rfl) (Nat.le_of_ble_eq_true rfl) (Nat.le_of_ble_eq_true rfl) hlocks (fun t hvm hz hk => ⟨(), trivial, (by unfold BTS; rw [if_neg c_1, if_neg c_3, if_pos c_5]), zx_F hS hz hk⟩) hS.2.2 (Nat.le_of_ble_eq_true rfl) (Nat.le_of_ble_eq_true rfl)

def f_X1_orbit (st x1 : Int32) (x2 x3 x4 x5 : UInt64) : Except String Int32 := if x1 < 0 then .error xIO else if x1 < 4 then (if f_X1_isWithin x2 13868412840022376448 4645040803167600640 = 0 then .error xIA else if f_X1_isWithin x3 13860109328209412096 4636737291354636288 = 0 then .error xIA else if f_X1_isWithin x4 FP.dconst0 4604930618986332160 = 0 then .error xIA else if f_X1_isWithin x5 13868412840022376448 4645040803167600640 = 0 then .error xIA else if st = 0 then .ok 1 else .ok 0) else .error xIO
set_option maxHeartbeats 4000000 in
set_option maxRecDepth 100000 in
theorem k_X1_orbit (l : Launch) (hst : l.stackTraces = false) (dC : Nat → ClassId) (dI : Nat → Nat → Nat) (cA : Nat → ClassId) (tm tt sz : Nat) (ax ab aw : Nat) (wl : Int32) (la ea : UInt64) (wk fl : Int32) (bb bp bf bs bv : Nat) (st : Int32) (oL oN oE oW : UInt64) (k : Nat) (qf : Nat → Option Nat) (x1 : Int32) (x2 : UInt64) (x3 : UInt64) (x4 : UInt64) (x5 : UInt64) (hq : ¬ x1 < 0 → x1 < 4 → qf x1.toNatClampNeg = some bb) : vx_Met l yX1_orbit wsX1_orbit ({ frames := 6, cells := 1, slots := 6, locals := 82 }) (PcW dC dI cA tm tt sz [.ref ax, .int x1, .double x2, .double x3, .double x4, .double x5] [(ax, .inr (1, [.ref ab, .ref aw, .int wl, .double la, .double ea, .int wk, .int fl])), (ab, aQ 4 (cA 3) qf), (bb, .inr (0, [.int st, .double oL, .double oN, .double oE, .double oW, .int (nI k), .ref bp, .ref bf, .ref bs, .ref bv]))]) (va_Qi (fun r (_ : Unit) => f_X1_orbit st x1 x2 x3 x4 x5 = .ok r) (fun _ t => WB dC dI (va_A [(ax, .inr (1, [.ref ab, .ref aw, .int wl, .double la, .double ea, .int wk, .int fl])), (ab, aQ 4 (cA 3) qf), (bb, .inr (0, [.int st, .double oL, .double oN, .double oE, .double oW, .int (nI k), .ref bp, .ref bf, .ref bs, .ref bv]))] sz) [(ax, .inr (1, [.ref ab, .ref aw, .int wl, .double la, .double ea, .int wk, .int fl])), (ab, aQ 4 (cA 3) qf), (bb, .inr (0, [.int 1, .double x2, .double x3, .double x4, .double x5, .int (nI k), .ref bp, .ref bf, .ref bs, .ref bv]))] t) (va_A [(ax, .inr (1, [.ref ab, .ref aw, .int wl, .double la, .double ea, .int wk, .int fl])), (ab, aQ 4 (cA 3) qf), (bb, .inr (0, [.int st, .double oL, .double oN, .double oE, .double oW, .int (nI k), .ref bp, .ref bf, .ref bs, .ref bv]))] sz)) (vx_X (fun (_ : Unit) => True) (fun E _ t => f_X1_orbit st x1 x2 x3 x4 x5 = .error E ∧ WB dC dI (va_A [(ax, .inr (1, [.ref ab, .ref aw, .int wl, .double la, .double ea, .int wk, .int fl])), (ab, aQ 4 (cA 3) qf), (bb, .inr (0, [.int st, .double oL, .double oN, .double oE, .double oW, .int (nI k), .ref bp, .ref bf, .ref bs, .ref bv]))] sz) [(ax, .inr (1, [.ref ab, .ref aw, .int wl, .double la, .double ea, .int wk, .int fl])), (ab, aQ 4 (cA 3) qf), (bb, .inr (0, [.int st, .double oL, .double oN, .double oE, .double oW, .int (nI k), .ref bp, .ref bf, .ref bs, .ref bv]))] t) (va_A [(ax, .inr (1, [.ref ab, .ref aw, .int wl, .double la, .double ea, .int wk, .int fl])), (ab, aQ 4 (cA 3) qf), (bb, .inr (0, [.int st, .double oL, .double oN, .double oE, .double oW, .int (nI k), .ref bp, .ref bf, .ref bs, .ref bv]))] sz)) 1 6 (va_A [(ax, .inr (1, [.ref ab, .ref aw, .int wl, .double la, .double ea, .int wk, .int fl])), (ab, aQ 4 (cA 3) qf), (bb, .inr (0, [.int st, .double oL, .double oN, .double oE, .double oW, .int (nI k), .ref bp, .ref bf, .ref bs, .ref bv]))] sz) := by
  refine vx_ofW (cc := cX1_orbit) (maxL := 12) (ret := (some .boolean)) (by decide) rfl ?_
  intro p e s m args below meth c s₁ B hml hnt hv
  obtain ⟨rfl, hsz, hP, hK, hD0, hE⟩ := hv
  subst hsz
  have hD := hD0.self (sz := s.heap.size)
  generalize hAe : va_A [(ax, .inr (1, [.ref ab, .ref aw, .int wl, .double la, .double ea, .int wk, .int fl])), (ab, aQ 4 (cA 3) qf), (bb, .inr (0, [.int st, .double oL, .double oN, .double oE, .double oW, .int (nI k), .ref bp, .ref bf, .ref bs, .ref bv]))] s.heap.size = A at hD hE ⊢
  have hA : ∀ q : Nat, s.heap.size ≤ q → A q := fun q h => by rw [← hAe]; exact Or.inr h
  have hS : va_S A s.heap s.heap [] := va_S.rf
  have hP : va_P (dC, dI) vwCl [(ax, .inr (1, [.ref ab, .ref aw, .int wl, .double la, .double ea, .int wk, .int fl])), (ab, aQ 4 (cA 3) qf), (bb, .inr (0, [.int st, .double oL, .double oN, .double oE, .double oW, .int (nI k), .ref bp, .ref bf, .ref bs, .ref bv]))] s.heap := hP
  have hx := B.exec
  have hb := B.bytes
  have hr := B.returns
  have hts := atoms_spec (ws := wsX1_orbit) B.pre
  have hown : s.vm.findClass RX1 = some m.cls := findClass_of_methodNamed B.named
  have hlocks := B.notSynchronized
  have hl := lv_entry ([.ref ax, .int x1, .double x2, .double x3, .double x4, .double x5]) (n := 12) (Nat.le_of_ble_eq_true rfl)
  rw [lg_entry_eq]
  generalize (lg_sl ([.ref ax, .int x1, .double x2, .double x3, .double x4, .double x5]) ++ List.replicate (12 - (lg_sl ([.ref ax, .int x1, .double x2, .double x3, .double x4, .double x5])).length) Slot.unset).toArray = ls at hl ⊢
  have hl : lv_has ls 12 [(0, .ref ax), (1, .int x1), (2, .double x2), (4, .double x3), (6, .double x4), (8, .double x5)] := hl
  have hin0 : ∀ w ∈ u_ws RX0 TX0 10, w ∈ wsX1_orbit := by decide +kernel
  have hin1 : ∀ w ∈ u_ws RX1 TX1 7, w ∈ wsX1_orbit := by decide +kernel
  refine lv_iload_n hx hb dX1_orbit_0 rfl (lv_at hl 1 rfl) ?_
  refine lv_if_lt (tgt := 13) hx hb dX1_orbit_1 (by decide) (fun c_1 => ?_) (fun c_1 => ?_)
  · obtain ⟨sa_2, hsa_2⟩ := hE.1.str (k := 138) (tx := "no such body") (by decide +kernel)
    exact vx_throwS (rest := []) hx hb hst hown thc_IO thf (hts (.classLink RX1 136 xIO) (by decide +kernel)) (hts (.initialized xIO) (by decide +kernel)) hsa_2 (tha_IO hE.1 (fun w hw => hts w (List.mem_cons_of_mem _ (List.mem_append_left _ (List.mem_append_right _ hw))))) thg_IO hE.2.1.1 hE.2.1.2 hS (by rw [hml]; exact hl.1) dX1_orbit_13 dX1_orbit_16 dX1_orbit_17 dX1_orbit_19 dX1_orbit_22 (fun x hx9 => (hnt x hx9).elim) (Nat.le_of_ble_eq_true rfl) (Nat.le_of_ble_eq_true rfl) (Nat.le_of_ble_eq_true rfl) (Nat.le_of_ble_eq_true rfl) hlocks (fun t hvm hz hk => ⟨(), trivial, ⟨(by unfold f_X1_orbit; rw [if_pos c_1]), hP.kept (fun k9 q9 hq9 => hk q9.1 (hP k9 q9 hq9).lt), hD⟩, zx_F hS hz hk⟩) hS.2.2 (Nat.le_of_ble_eq_true rfl) (Nat.le_of_ble_eq_true rfl)
  · refine lv_iload_n hx hb dX1_orbit_4 rfl (lv_at hl 1 rfl) ?_
    refine lv_aload_n hx hb dX1_orbit_5 rfl (lv_at hl 0 rfl) ?_
    refine va_get (D := (dC, dI)) (ci := 1) (v := .ref ab) (C := RX1) (T := TX1) (N := 7) hx hb hts hin1 hown hK hP 0 rfl rfl 0 (by decide) (hts (.fieldLink RX1 11 "SkyAlmanac" "bodies" "[LSkyAlmanac$Body;") (by decide +kernel)) (fun _ h9 => h9) rfl dX1_orbit_6 ?_
    refine va_alen (v := 4) hx hb hK hP 1 3 rfl rfl rfl dX1_orbit_9 ?_
    refine lv_icmp_lt (tgt := 23) hx hb dX1_orbit_10 (by decide) (fun c_3 => ?_) (fun c_3 => ?_)
    · refine lv_dload_n hx hb dX1_orbit_23 rfl (lv_at hl 2 rfl) ?_
      refine lv_ldc2d hx hb hown (hts (.constantDouble RX1 141 (13868412840022376448)) (by decide +kernel)) dX1_orbit_24 ?_
      have r_4 : fR 13868412840022376448 (-386547056640) (-386547056640) := fR_lit (by decide +kernel)
      refine lv_ldc2d hx hb hown (hts (.constantDouble RX1 143 (4645040803167600640)) (by decide +kernel)) dX1_orbit_27 ?_
      have r_5 : fR 4645040803167600640 386547056640 386547056640 := fR_lit (by decide +kernel)
      refine vp_callSi (W.runS (As := [.double x2, .double 13868412840022376448, .double 4645040803167600640]) (rest := []) ⟨hx, hb, hml, hown, hts⟩ (k_X1_isWithin l x2 13868412840022376448 4645040803167600640) (va_cwS 3 hts gX1_orbit_X1_isWithin rfl rfl rfl (by decide +kernel) ⟨Nat.le_of_ble_eq_true rfl, Nat.le_of_ble_eq_true rfl⟩) preEq rfl rfl hl.1 rfl (lv_room (Nat.le_of_ble_eq_true rfl)) dX1_orbit_30 ⟨Nat.le_of_ble_eq_true rfl, Nat.le_of_ble_eq_true rfl⟩) (fun r hr9 => ?_)
      obtain rfl := hr9
      refine lv_if_eq (tgt := 76) hx hb dX1_orbit_33 (by decide) (fun c_6 => ?_) (fun c_6 => ?_)
      · obtain ⟨sa_7, hsa_7⟩ := hE.1.str (k := 155) (tx := "no such orbit") (by decide +kernel)
        exact vx_throwS (rest := []) hx hb hst hown thc_IA thf (hts (.classLink RX1 43 xIA) (by decide +kernel)) (hts (.initialized xIA) (by decide +kernel)) hsa_7 (tha_IA hE.1 (fun w hw => hts w (List.mem_cons_of_mem _ (List.mem_append_right _ hw)))) thg_IA hE.2.1.1 hE.2.1.2 hS (by rw [hml]; exact hl.1) dX1_orbit_76 dX1_orbit_79 dX1_orbit_80 dX1_orbit_82 dX1_orbit_85 (fun x hx9 => (hnt x hx9).elim) (Nat.le_of_ble_eq_true rfl) (Nat.le_of_ble_eq_true rfl) (Nat.le_of_ble_eq_true rfl) (Nat.le_of_ble_eq_true rfl) hlocks (fun t hvm hz hk => ⟨(), trivial, ⟨(by unfold f_X1_orbit; rw [if_neg c_1, if_pos c_3, if_pos c_6]), hP.kept (fun k9 q9 hq9 => hk q9.1 (hP k9 q9 hq9).lt), hD⟩, zx_F hS hz hk⟩) hS.2.2 (Nat.le_of_ble_eq_true rfl) (Nat.le_of_ble_eq_true rfl)
      · refine lv_dload hx hb dX1_orbit_36 (lv_at hl 3 rfl) ?_
        refine lv_ldc2d hx hb hown (hts (.constantDouble RX1 149 (13860109328209412096)) (by decide +kernel)) dX1_orbit_38 ?_
        have r_8 : fR 13860109328209412096 (-107374182400) (-107374182400) := fR_lit (by decide +kernel)
        refine lv_ldc2d hx hb hown (hts (.constantDouble RX1 151 (4636737291354636288)) (by decide +kernel)) dX1_orbit_41 ?_
        have r_9 : fR 4636737291354636288 107374182400 107374182400 := fR_lit (by decide +kernel)
        refine vp_callSi (W.runS (As := [.double x3, .double 13860109328209412096, .double 4636737291354636288]) (rest := []) ⟨hx, hb, hml, hown, hts⟩ (k_X1_isWithin l x3 13860109328209412096 4636737291354636288) (va_cwS 3 hts gX1_orbit_X1_isWithin rfl rfl rfl (by decide +kernel) ⟨Nat.le_of_ble_eq_true rfl, Nat.le_of_ble_eq_true rfl⟩) preEq rfl rfl hl.1 rfl (lv_room (Nat.le_of_ble_eq_true rfl)) dX1_orbit_44 ⟨Nat.le_of_ble_eq_true rfl, Nat.le_of_ble_eq_true rfl⟩) (fun r hr9 => ?_)
        obtain rfl := hr9
        refine lv_if_eq (tgt := 76) hx hb dX1_orbit_47 (by decide) (fun c_10 => ?_) (fun c_10 => ?_)
        · obtain ⟨sa_11, hsa_11⟩ := hE.1.str (k := 155) (tx := "no such orbit") (by decide +kernel)
          exact vx_throwS (rest := []) hx hb hst hown thc_IA thf (hts (.classLink RX1 43 xIA) (by decide +kernel)) (hts (.initialized xIA) (by decide +kernel)) hsa_11 (tha_IA hE.1 (fun w hw => hts w (List.mem_cons_of_mem _ (List.mem_append_right _ hw)))) thg_IA hE.2.1.1 hE.2.1.2 hS (by rw [hml]; exact hl.1) dX1_orbit_76 dX1_orbit_79 dX1_orbit_80 dX1_orbit_82 dX1_orbit_85 (fun x hx9 => (hnt x hx9).elim) (Nat.le_of_ble_eq_true rfl) (Nat.le_of_ble_eq_true rfl) (Nat.le_of_ble_eq_true rfl) (Nat.le_of_ble_eq_true rfl) hlocks (fun t hvm hz hk => ⟨(), trivial, ⟨(by unfold f_X1_orbit; rw [if_neg c_1, if_pos c_3, if_neg c_6, if_pos c_10]), hP.kept (fun k9 q9 hq9 => hk q9.1 (hP k9 q9 hq9).lt), hD⟩, zx_F hS hz hk⟩) hS.2.2 (Nat.le_of_ble_eq_true rfl) (Nat.le_of_ble_eq_true rfl)
        · refine lv_dload hx hb dX1_orbit_50 (lv_at hl 4 rfl) ?_
          refine lv_dconst0 hx hb dX1_orbit_52 ?_
          have r_12 : fR FP.dconst0 0 0 := fR_lit (by decide +kernel)
          refine lv_ldc2d hx hb hown (hts (.constantDouble RX1 153 (4604930618986332160)) (by decide +kernel)) dX1_orbit_53 ?_
          have r_13 : fR 4604930618986332160 805306368 805306368 := fR_lit (by decide +kernel)
          refine vp_callSi (W.runS (As := [.double x4, .double FP.dconst0, .double 4604930618986332160]) (rest := []) ⟨hx, hb, hml, hown, hts⟩ (k_X1_isWithin l x4 FP.dconst0 4604930618986332160) (va_cwS 3 hts gX1_orbit_X1_isWithin rfl rfl rfl (by decide +kernel) ⟨Nat.le_of_ble_eq_true rfl, Nat.le_of_ble_eq_true rfl⟩) preEq rfl rfl hl.1 rfl (lv_room (Nat.le_of_ble_eq_true rfl)) dX1_orbit_56 ⟨Nat.le_of_ble_eq_true rfl, Nat.le_of_ble_eq_true rfl⟩) (fun r hr9 => ?_)
          obtain rfl := hr9
          refine lv_if_eq (tgt := 76) hx hb dX1_orbit_59 (by decide) (fun c_14 => ?_) (fun c_14 => ?_)
          · obtain ⟨sa_15, hsa_15⟩ := hE.1.str (k := 155) (tx := "no such orbit") (by decide +kernel)
            exact vx_throwS (rest := []) hx hb hst hown thc_IA thf (hts (.classLink RX1 43 xIA) (by decide +kernel)) (hts (.initialized xIA) (by decide +kernel)) hsa_15 (tha_IA hE.1 (fun w hw => hts w (List.mem_cons_of_mem _ (List.mem_append_right _ hw)))) thg_IA hE.2.1.1 hE.2.1.2 hS (by rw [hml]; exact hl.1) dX1_orbit_76 dX1_orbit_79 dX1_orbit_80 dX1_orbit_82 dX1_orbit_85 (fun x hx9 => (hnt x hx9).elim) (Nat.le_of_ble_eq_true rfl) (Nat.le_of_ble_eq_true rfl) (Nat.le_of_ble_eq_true rfl) (Nat.le_of_ble_eq_true rfl) hlocks (fun t hvm hz hk => ⟨(), trivial, ⟨(by unfold f_X1_orbit; rw [if_neg c_1, if_pos c_3, if_neg c_6, if_neg c_10, if_pos c_14]), hP.kept (fun k9 q9 hq9 => hk q9.1 (hP k9 q9 hq9).lt), hD⟩, zx_F hS hz hk⟩) hS.2.2 (Nat.le_of_ble_eq_true rfl) (Nat.le_of_ble_eq_true rfl)
          · refine lv_dload hx hb dX1_orbit_62 (lv_at hl 5 rfl) ?_
            refine lv_ldc2d hx hb hown (hts (.constantDouble RX1 141 (13868412840022376448)) (by decide +kernel)) dX1_orbit_64 ?_
            have r_16 : fR 13868412840022376448 (-386547056640) (-386547056640) := fR_lit (by decide +kernel)
            refine lv_ldc2d hx hb hown (hts (.constantDouble RX1 143 (4645040803167600640)) (by decide +kernel)) dX1_orbit_67 ?_
            have r_17 : fR 4645040803167600640 386547056640 386547056640 := fR_lit (by decide +kernel)
            refine vp_callSi (W.runS (As := [.double x5, .double 13868412840022376448, .double 4645040803167600640]) (rest := []) ⟨hx, hb, hml, hown, hts⟩ (k_X1_isWithin l x5 13868412840022376448 4645040803167600640) (va_cwS 3 hts gX1_orbit_X1_isWithin rfl rfl rfl (by decide +kernel) ⟨Nat.le_of_ble_eq_true rfl, Nat.le_of_ble_eq_true rfl⟩) preEq rfl rfl hl.1 rfl (lv_room (Nat.le_of_ble_eq_true rfl)) dX1_orbit_70 ⟨Nat.le_of_ble_eq_true rfl, Nat.le_of_ble_eq_true rfl⟩) (fun r hr9 => ?_)
            obtain rfl := hr9
            refine lv_if_ne (tgt := 86) hx hb dX1_orbit_73 (by decide) (fun c_18 => ?_) (fun c_18 => ?_)
            · refine lv_aload_n hx hb dX1_orbit_86 rfl (lv_at hl 0 rfl) ?_
              refine va_get (D := (dC, dI)) (ci := 1) (v := .ref ab) (C := RX1) (T := TX1) (N := 7) hx hb hts hin1 hown hK hP 0 rfl rfl 0 (by decide) (hts (.fieldLink RX1 11 "SkyAlmanac" "bodies" "[LSkyAlmanac$Body;") (by decide +kernel)) (fun _ h9 => h9) rfl dX1_orbit_87 ?_
              refine lv_iload_n hx hb dX1_orbit_90 rfl (lv_at hl 1 rfl) ?_
              refine va_aldq hx hb hK hP 1 3 rfl rfl (lt_in (m := 4) rfl c_1 c_3) dX1_orbit_91 ?_
              rw [hq c_1 c_3, show va_rf (some bb) = Value.ref bb from rfl]
              refine lv_astore (lv' := [(10, .ref bb), (0, .ref ax), (1, .int x1), (2, .double x2), (4, .double x3), (6, .double x4), (8, .double x5)]) hx hb dX1_orbit_92 hl (by decide) rfl (fun ls hl => ?_)
              refine lv_aload hx hb dX1_orbit_94 (lv_at hl 0 rfl) ?_
              refine va_getN (D := (dC, dI)) (ci := 0) (v := .int st) (C := RX0) (T := TX0) (N := 10) hx hb hts hin0 hown hK hP 2 rfl rfl 0 (by decide) (va_Nw.use rfl (hE.1.1 (.fieldLinkNest RX1 157 "SkyAlmanac$Body" "isSet" "Z" "SkyAlmanac") (by decide +kernel))) (fun _ h9 => h9) rfl dX1_orbit_96 ?_
              refine lv_if_ne (tgt := 106) hx hb dX1_orbit_99 (by decide) (fun c_19 => ?_) (fun c_19 => ?_)
              · refine lv_iconst (v := 0) hx hb dX1_orbit_106 (by decide) ?_
                refine lv_istore (lv' := [(11, .int 0), (10, .ref bb), (0, .ref ax), (1, .int x1), (2, .double x2), (4, .double x3), (6, .double x4), (8, .double x5)]) hx hb dX1_orbit_107 hl (by decide) rfl (fun ls hl => ?_)
                refine lv_aload hx hb dX1_orbit_109 (lv_at hl 1 rfl) ?_
                refine lv_iconst (v := 1) hx hb dX1_orbit_111 (by decide) ?_
                refine va_putN (D := (dC, dI)) (ci := 0) (v := .int 1) (ty := .boolean) (C := RX0) (T := TX0) (N := 10) hx hb hts hin0 tyX0 tyX0_ok nmX0 hown hK hP hD hS 2 rfl rfl 0 (by decide) (va_Nw.use rfl (hE.1.1 (.fieldLinkNest RX1 157 "SkyAlmanac$Body" "isSet" "Z" "SkyAlmanac") (by decide +kernel))) (fun _ h9 => h9) rfl (by decide +kernel) rfl rfl (Nat.le_of_ble_eq_true rfl) dX1_orbit_112 (fun H locs hP hD hS => ?_)
                have hP : va_P (dC, dI) vwCl [(ax, .inr (1, [.ref ab, .ref aw, .int wl, .double la, .double ea, .int wk, .int fl])), (ab, aQ 4 (cA 3) qf), (bb, .inr (0, [.int 1, .double oL, .double oN, .double oE, .double oW, .int (nI k), .ref bp, .ref bf, .ref bs, .ref bv]))] H := hP
                have hD : va_D A [(ax, .inr (1, [.ref ab, .ref aw, .int wl, .double la, .double ea, .int wk, .int fl])), (ab, aQ 4 (cA 3) qf), (bb, .inr (0, [.int 1, .double oL, .double oN, .double oE, .double oW, .int (nI k), .ref bp, .ref bf, .ref bs, .ref bv]))] := hD
                refine lv_aload hx hb dX1_orbit_115 (lv_at hl 1 rfl) ?_
                refine lv_dload_n hx hb dX1_orbit_117 rfl (lv_at hl 4 rfl) ?_
                refine va_putN (D := (dC, dI)) (ci := 0) (v := .double x2) (ty := .double) (C := RX0) (T := TX0) (N := 10) hx hb hts hin0 tyX0 tyX0_ok nmX0 hown hK hP hD hS 2 rfl rfl 1 (by decide) (va_Nw.use rfl (hE.1.1 (.fieldLinkNest RX1 161 "SkyAlmanac$Body" "orbitL" "D" "SkyAlmanac") (by decide +kernel))) (fun _ h9 => h9) rfl (by decide +kernel) rfl rfl (Nat.le_of_ble_eq_true rfl) dX1_orbit_118 (fun H locs hP hD hS => ?_)
                have hP : va_P (dC, dI) vwCl [(ax, .inr (1, [.ref ab, .ref aw, .int wl, .double la, .double ea, .int wk, .int fl])), (ab, aQ 4 (cA 3) qf), (bb, .inr (0, [.int 1, .double x2, .double oN, .double oE, .double oW, .int (nI k), .ref bp, .ref bf, .ref bs, .ref bv]))] H := hP
                have hD : va_D A [(ax, .inr (1, [.ref ab, .ref aw, .int wl, .double la, .double ea, .int wk, .int fl])), (ab, aQ 4 (cA 3) qf), (bb, .inr (0, [.int 1, .double x2, .double oN, .double oE, .double oW, .int (nI k), .ref bp, .ref bf, .ref bs, .ref bv]))] := hD
                refine lv_aload hx hb dX1_orbit_121 (lv_at hl 1 rfl) ?_
                refine lv_dload hx hb dX1_orbit_123 (lv_at hl 5 rfl) ?_
                refine va_putN (D := (dC, dI)) (ci := 0) (v := .double x3) (ty := .double) (C := RX0) (T := TX0) (N := 10) hx hb hts hin0 tyX0 tyX0_ok nmX0 hown hK hP hD hS 2 rfl rfl 2 (by decide) (va_Nw.use rfl (hE.1.1 (.fieldLinkNest RX1 164 "SkyAlmanac$Body" "orbitN" "D" "SkyAlmanac") (by decide +kernel))) (fun _ h9 => h9) rfl (by decide +kernel) rfl rfl (Nat.le_of_ble_eq_true rfl) dX1_orbit_125 (fun H locs hP hD hS => ?_)
                have hP : va_P (dC, dI) vwCl [(ax, .inr (1, [.ref ab, .ref aw, .int wl, .double la, .double ea, .int wk, .int fl])), (ab, aQ 4 (cA 3) qf), (bb, .inr (0, [.int 1, .double x2, .double x3, .double oE, .double oW, .int (nI k), .ref bp, .ref bf, .ref bs, .ref bv]))] H := hP
                have hD : va_D A [(ax, .inr (1, [.ref ab, .ref aw, .int wl, .double la, .double ea, .int wk, .int fl])), (ab, aQ 4 (cA 3) qf), (bb, .inr (0, [.int 1, .double x2, .double x3, .double oE, .double oW, .int (nI k), .ref bp, .ref bf, .ref bs, .ref bv]))] := hD
                refine lv_aload hx hb dX1_orbit_128 (lv_at hl 1 rfl) ?_
                refine lv_dload hx hb dX1_orbit_130 (lv_at hl 6 rfl) ?_
                refine va_putN (D := (dC, dI)) (ci := 0) (v := .double x4) (ty := .double) (C := RX0) (T := TX0) (N := 10) hx hb hts hin0 tyX0 tyX0_ok nmX0 hown hK hP hD hS 2 rfl rfl 3 (by decide) (va_Nw.use rfl (hE.1.1 (.fieldLinkNest RX1 167 "SkyAlmanac$Body" "orbitE" "D" "SkyAlmanac") (by decide +kernel))) (fun _ h9 => h9) rfl (by decide +kernel) rfl rfl (Nat.le_of_ble_eq_true rfl) dX1_orbit_132 (fun H locs hP hD hS => ?_)
                have hP : va_P (dC, dI) vwCl [(ax, .inr (1, [.ref ab, .ref aw, .int wl, .double la, .double ea, .int wk, .int fl])), (ab, aQ 4 (cA 3) qf), (bb, .inr (0, [.int 1, .double x2, .double x3, .double x4, .double oW, .int (nI k), .ref bp, .ref bf, .ref bs, .ref bv]))] H := hP
                have hD : va_D A [(ax, .inr (1, [.ref ab, .ref aw, .int wl, .double la, .double ea, .int wk, .int fl])), (ab, aQ 4 (cA 3) qf), (bb, .inr (0, [.int 1, .double x2, .double x3, .double x4, .double oW, .int (nI k), .ref bp, .ref bf, .ref bs, .ref bv]))] := hD
                refine lv_aload hx hb dX1_orbit_135 (lv_at hl 1 rfl) ?_
                refine lv_dload hx hb dX1_orbit_137 (lv_at hl 7 rfl) ?_
                refine va_putN (D := (dC, dI)) (ci := 0) (v := .double x5) (ty := .double) (C := RX0) (T := TX0) (N := 10) hx hb hts hin0 tyX0 tyX0_ok nmX0 hown hK hP hD hS 2 rfl rfl 4 (by decide) (va_Nw.use rfl (hE.1.1 (.fieldLinkNest RX1 170 "SkyAlmanac$Body" "orbitW" "D" "SkyAlmanac") (by decide +kernel))) (fun _ h9 => h9) rfl (by decide +kernel) rfl rfl (Nat.le_of_ble_eq_true rfl) dX1_orbit_139 (fun H locs hP hD hS => ?_)
                have hP : va_P (dC, dI) vwCl [(ax, .inr (1, [.ref ab, .ref aw, .int wl, .double la, .double ea, .int wk, .int fl])), (ab, aQ 4 (cA 3) qf), (bb, .inr (0, [.int 1, .double x2, .double x3, .double x4, .double x5, .int (nI k), .ref bp, .ref bf, .ref bs, .ref bv]))] H := hP
                have hD : va_D A [(ax, .inr (1, [.ref ab, .ref aw, .int wl, .double la, .double ea, .int wk, .int fl])), (ab, aQ 4 (cA 3) qf), (bb, .inr (0, [.int 1, .double x2, .double x3, .double x4, .double x5, .int (nI k), .ref bp, .ref bf, .ref bs, .ref bv]))] := hD
                refine lv_iload hx hb dX1_orbit_142 (lv_at hl 0 rfl) ?_
                refine W.widen (k := 1) (n := 6) (Nat.le_of_ble_eq_true rfl) (Nat.le_of_ble_eq_true rfl) ?_
                exact vx_ret (W.zret hx hb hr rfl (fun t ht hW => ⟨⟨_, (), rfl, (by unfold f_X1_orbit; rw [if_neg c_1, if_pos c_3, if_neg c_6, if_neg c_10, if_neg c_14, if_neg c_18, if_neg c_19]), ⟨by rw [ht]; exact hP, hD⟩⟩, hS.F ht⟩) hS.2.2 dX1_orbit_144)
              · refine lv_iconst (v := 1) hx hb dX1_orbit_102 (by decide) ?_
                refine lv_goto (tgt := 107) hx hb dX1_orbit_103 (by decide) ?_
                refine lv_istore (lv' := [(11, .int 1), (10, .ref bb), (0, .ref ax), (1, .int x1), (2, .double x2), (4, .double x3), (6, .double x4), (8, .double x5)]) hx hb dX1_orbit_107 hl (by decide) rfl (fun ls hl => ?_)
                refine lv_aload hx hb dX1_orbit_109 (lv_at hl 1 rfl) ?_
                refine lv_iconst (v := 1) hx hb dX1_orbit_111 (by decide) ?_
                refine va_putN (D := (dC, dI)) (ci := 0) (v := .int 1) (ty := .boolean) (C := RX0) (T := TX0) (N := 10) hx hb hts hin0 tyX0 tyX0_ok nmX0 hown hK hP hD hS 2 rfl rfl 0 (by decide) (va_Nw.use rfl (hE.1.1 (.fieldLinkNest RX1 157 "SkyAlmanac$Body" "isSet" "Z" "SkyAlmanac") (by decide +kernel))) (fun _ h9 => h9) rfl (by decide +kernel) rfl rfl (Nat.le_of_ble_eq_true rfl) dX1_orbit_112 (fun H locs hP hD hS => ?_)
                have hP : va_P (dC, dI) vwCl [(ax, .inr (1, [.ref ab, .ref aw, .int wl, .double la, .double ea, .int wk, .int fl])), (ab, aQ 4 (cA 3) qf), (bb, .inr (0, [.int 1, .double oL, .double oN, .double oE, .double oW, .int (nI k), .ref bp, .ref bf, .ref bs, .ref bv]))] H := hP
                have hD : va_D A [(ax, .inr (1, [.ref ab, .ref aw, .int wl, .double la, .double ea, .int wk, .int fl])), (ab, aQ 4 (cA 3) qf), (bb, .inr (0, [.int 1, .double oL, .double oN, .double oE, .double oW, .int (nI k), .ref bp, .ref bf, .ref bs, .ref bv]))] := hD
                refine lv_aload hx hb dX1_orbit_115 (lv_at hl 1 rfl) ?_
                refine lv_dload_n hx hb dX1_orbit_117 rfl (lv_at hl 4 rfl) ?_
                refine va_putN (D := (dC, dI)) (ci := 0) (v := .double x2) (ty := .double) (C := RX0) (T := TX0) (N := 10) hx hb hts hin0 tyX0 tyX0_ok nmX0 hown hK hP hD hS 2 rfl rfl 1 (by decide) (va_Nw.use rfl (hE.1.1 (.fieldLinkNest RX1 161 "SkyAlmanac$Body" "orbitL" "D" "SkyAlmanac") (by decide +kernel))) (fun _ h9 => h9) rfl (by decide +kernel) rfl rfl (Nat.le_of_ble_eq_true rfl) dX1_orbit_118 (fun H locs hP hD hS => ?_)
                have hP : va_P (dC, dI) vwCl [(ax, .inr (1, [.ref ab, .ref aw, .int wl, .double la, .double ea, .int wk, .int fl])), (ab, aQ 4 (cA 3) qf), (bb, .inr (0, [.int 1, .double x2, .double oN, .double oE, .double oW, .int (nI k), .ref bp, .ref bf, .ref bs, .ref bv]))] H := hP
                have hD : va_D A [(ax, .inr (1, [.ref ab, .ref aw, .int wl, .double la, .double ea, .int wk, .int fl])), (ab, aQ 4 (cA 3) qf), (bb, .inr (0, [.int 1, .double x2, .double oN, .double oE, .double oW, .int (nI k), .ref bp, .ref bf, .ref bs, .ref bv]))] := hD
                refine lv_aload hx hb dX1_orbit_121 (lv_at hl 1 rfl) ?_
                refine lv_dload hx hb dX1_orbit_123 (lv_at hl 5 rfl) ?_
                refine va_putN (D := (dC, dI)) (ci := 0) (v := .double x3) (ty := .double) (C := RX0) (T := TX0) (N := 10) hx hb hts hin0 tyX0 tyX0_ok nmX0 hown hK hP hD hS 2 rfl rfl 2 (by decide) (va_Nw.use rfl (hE.1.1 (.fieldLinkNest RX1 164 "SkyAlmanac$Body" "orbitN" "D" "SkyAlmanac") (by decide +kernel))) (fun _ h9 => h9) rfl (by decide +kernel) rfl rfl (Nat.le_of_ble_eq_true rfl) dX1_orbit_125 (fun H locs hP hD hS => ?_)
                have hP : va_P (dC, dI) vwCl [(ax, .inr (1, [.ref ab, .ref aw, .int wl, .double la, .double ea, .int wk, .int fl])), (ab, aQ 4 (cA 3) qf), (bb, .inr (0, [.int 1, .double x2, .double x3, .double oE, .double oW, .int (nI k), .ref bp, .ref bf, .ref bs, .ref bv]))] H := hP
                have hD : va_D A [(ax, .inr (1, [.ref ab, .ref aw, .int wl, .double la, .double ea, .int wk, .int fl])), (ab, aQ 4 (cA 3) qf), (bb, .inr (0, [.int 1, .double x2, .double x3, .double oE, .double oW, .int (nI k), .ref bp, .ref bf, .ref bs, .ref bv]))] := hD
                refine lv_aload hx hb dX1_orbit_128 (lv_at hl 1 rfl) ?_
                refine lv_dload hx hb dX1_orbit_130 (lv_at hl 6 rfl) ?_
                refine va_putN (D := (dC, dI)) (ci := 0) (v := .double x4) (ty := .double) (C := RX0) (T := TX0) (N := 10) hx hb hts hin0 tyX0 tyX0_ok nmX0 hown hK hP hD hS 2 rfl rfl 3 (by decide) (va_Nw.use rfl (hE.1.1 (.fieldLinkNest RX1 167 "SkyAlmanac$Body" "orbitE" "D" "SkyAlmanac") (by decide +kernel))) (fun _ h9 => h9) rfl (by decide +kernel) rfl rfl (Nat.le_of_ble_eq_true rfl) dX1_orbit_132 (fun H locs hP hD hS => ?_)
                have hP : va_P (dC, dI) vwCl [(ax, .inr (1, [.ref ab, .ref aw, .int wl, .double la, .double ea, .int wk, .int fl])), (ab, aQ 4 (cA 3) qf), (bb, .inr (0, [.int 1, .double x2, .double x3, .double x4, .double oW, .int (nI k), .ref bp, .ref bf, .ref bs, .ref bv]))] H := hP
                have hD : va_D A [(ax, .inr (1, [.ref ab, .ref aw, .int wl, .double la, .double ea, .int wk, .int fl])), (ab, aQ 4 (cA 3) qf), (bb, .inr (0, [.int 1, .double x2, .double x3, .double x4, .double oW, .int (nI k), .ref bp, .ref bf, .ref bs, .ref bv]))] := hD
                refine lv_aload hx hb dX1_orbit_135 (lv_at hl 1 rfl) ?_
                refine lv_dload hx hb dX1_orbit_137 (lv_at hl 7 rfl) ?_
                refine va_putN (D := (dC, dI)) (ci := 0) (v := .double x5) (ty := .double) (C := RX0) (T := TX0) (N := 10) hx hb hts hin0 tyX0 tyX0_ok nmX0 hown hK hP hD hS 2 rfl rfl 4 (by decide) (va_Nw.use rfl (hE.1.1 (.fieldLinkNest RX1 170 "SkyAlmanac$Body" "orbitW" "D" "SkyAlmanac") (by decide +kernel))) (fun _ h9 => h9) rfl (by decide +kernel) rfl rfl (Nat.le_of_ble_eq_true rfl) dX1_orbit_139 (fun H locs hP hD hS => ?_)
                have hP : va_P (dC, dI) vwCl [(ax, .inr (1, [.ref ab, .ref aw, .int wl, .double la, .double ea, .int wk, .int fl])), (ab, aQ 4 (cA 3) qf), (bb, .inr (0, [.int 1, .double x2, .double x3, .double x4, .double x5, .int (nI k), .ref bp, .ref bf, .ref bs, .ref bv]))] H := hP
                have hD : va_D A [(ax, .inr (1, [.ref ab, .ref aw, .int wl, .double la, .double ea, .int wk, .int fl])), (ab, aQ 4 (cA 3) qf), (bb, .inr (0, [.int 1, .double x2, .double x3, .double x4, .double x5, .int (nI k), .ref bp, .ref bf, .ref bs, .ref bv]))] := hD
                refine lv_iload hx hb dX1_orbit_142 (lv_at hl 0 rfl) ?_
                refine W.widen (k := 1) (n := 6) (Nat.le_of_ble_eq_true rfl) (Nat.le_of_ble_eq_true rfl) ?_
                exact vx_ret (W.zret hx hb hr rfl (fun t ht hW => ⟨⟨_, (), rfl, (by unfold f_X1_orbit; rw [if_neg c_1, if_pos c_3, if_neg c_6, if_neg c_10, if_neg c_14, if_neg c_18, if_pos c_19]), ⟨by rw [ht]; exact hP, hD⟩⟩, hS.F ht⟩) hS.2.2 dX1_orbit_144)
            · obtain ⟨sa_20, hsa_20⟩ := hE.1.str (k := 155) (tx := "no such orbit") (by decide +kernel)
              exact vx_throwS (rest := []) hx hb hst hown thc_IA thf (hts (.classLink RX1 43 xIA) (by decide +kernel)) (hts (.initialized xIA) (by decide +kernel)) hsa_20 (tha_IA hE.1 (fun w hw => hts w (List.mem_cons_of_mem _ (List.mem_append_right _ hw)))) thg_IA hE.2.1.1 hE.2.1.2 hS (by rw [hml]; exact hl.1) dX1_orbit_76 dX1_orbit_79 dX1_orbit_80 dX1_orbit_82 dX1_orbit_85 (fun x hx9 => (hnt x hx9).elim) (Nat.le_of_ble_eq_true rfl) (Nat.le_of_ble_eq_true rfl) (Nat.le_of_ble_eq_true rfl) (Nat.le_of_ble_eq_true rfl) hlocks (fun t hvm hz hk => ⟨(), trivial, ⟨(by unfold f_X1_orbit; rw [if_neg c_1, if_pos c_3, if_neg c_6, if_neg c_10, if_neg c_14, if_pos c_18]), hP.kept (fun k9 q9 hq9 => hk q9.1 (hP k9 q9 hq9).lt), hD⟩, zx_F hS hz hk⟩) hS.2.2 (Nat.le_of_ble_eq_true rfl) (Nat.le_of_ble_eq_true rfl)
    · obtain ⟨sa_21, hsa_21⟩ := hE.1.str (k := 138) (tx := "no such body") (by decide +kernel)
      exact vx_throwS (rest := []) hx hb hst hown thc_IO thf (hts (.classLink RX1 136 xIO) (by decide +kernel)) (hts (.initialized xIO) (by decide +kernel)) hsa_21 (tha_IO hE.1 (fun w hw => hts w (List.mem_cons_of_mem _ (List.mem_append_left _ (List.mem_append_right _ hw))))) thg_IO hE.2.1.1 hE.2.1.2 hS (by rw [hml]; exact hl.1) dX1_orbit_13 dX1_orbit_16 dX1_orbit_17 dX1_orbit_19 dX1_orbit_22 (fun x hx9 => (hnt x hx9).elim) (Nat.le_of_ble_eq_true rfl) (Nat.le_of_ble_eq_true rfl) (Nat.le_of_ble_eq_true rfl) (Nat.le_of_ble_eq_true rfl) hlocks (fun t hvm hz hk => ⟨(), trivial, ⟨(by unfold f_X1_orbit; rw [if_neg c_1, if_neg c_3]), hP.kept (fun k9 q9 hq9 => hk q9.1 (hP k9 q9 hq9).lt), hD⟩, zx_F hS hz hk⟩) hS.2.2 (Nat.le_of_ble_eq_true rfl) (Nat.le_of_ble_eq_true rfl)

def f_X1_term (st : Int32) (k : Nat) (x1 x2 : Int32) (x3 x4 x5 : UInt64) : Except String Int32 := xb (BTS st x1) (fun _ => if f_X1_isWholeWithin (Int32.toInt64 x2) 0 2 = 0 then .error xIA else if f_X1_isWithin x3 13845191154443747328 4621819117588971520 = 0 then .error xIA else if f_X1_isWithin x4 13868412840022376448 4645040803167600640 = 0 then .error xIA else if f_X1_isWithin x5 13860109328209412096 4636737291354636288 = 0 then .error xIA else if nI k < 12 then .ok (nI (k + 1)) else .error xIS)
theorem nI_lt12 {k : Nat} (hk : k ≤ 12) (h : nI k < 12) : k < 12 := by
  rcases Nat.lt_or_ge k 12 with h9 | h9
  · exact h9
  · have : k = 12 := by omega
    subst this; exact absurd h (by decide)
set_option maxHeartbeats 4000000 in
set_option maxRecDepth 100000 in
theorem k_X1_term (l : Launch) (hst : l.stackTraces = false) (dC : Nat → ClassId) (dI : Nat → Nat → Nat) (cA : Nat → ClassId) (tm tt sz : Nat) (ax ab aw : Nat) (wl : Int32) (la ea : UInt64) (wk fl : Int32) (bb bp bf bs bv : Nat) (st : Int32) (oL oN oE oW : UInt64) (k : Nat) (pw : Nat → Int32) (fa sa va : Nat → UInt64) (qf : Nat → Option Nat) (x1 : Int32) (x2 : Int32) (x3 : UInt64) (x4 : UInt64) (x5 : UInt64) (hq : ¬ x1 < 0 → x1 < 4 → qf x1.toNatClampNeg = some bb) (hk12 : k ≤ 12) : vx_Met l yX1_term wsX1_term ({ frames := 7, cells := 2, slots := 12, locals := 103 }) (PcW dC dI cA tm tt sz [.ref ax, .int x1, .int x2, .double x3, .double x4, .double x5] [(ax, .inr (1, [.ref ab, .ref aw, .int wl, .double la, .double ea, .int wk, .int fl])), (ab, aQ 4 (cA 3) qf), (bb, .inr (0, [.int st, .double oL, .double oN, .double oE, .double oW, .int (nI k), .ref bp, .ref bf, .ref bs, .ref bv])), (bp, aI 12 (cA 0) pw), (bf, aD 12 (cA 1) fa), (bs, aD 12 (cA 1) sa), (bv, aD 12 (cA 1) va)]) (va_Qi (fun r (_ : Unit) => f_X1_term st k x1 x2 x3 x4 x5 = .ok r) (fun _ t => WB dC dI (va_A [(ax, .inr (1, [.ref ab, .ref aw, .int wl, .double la, .double ea, .int wk, .int fl])), (ab, aQ 4 (cA 3) qf), (bb, .inr (0, [.int st, .double oL, .double oN, .double oE, .double oW, .int (nI k), .ref bp, .ref bf, .ref bs, .ref bv])), (bp, aI 12 (cA 0) pw), (bf, aD 12 (cA 1) fa), (bs, aD 12 (cA 1) sa), (bv, aD 12 (cA 1) va)] sz) [(ax, .inr (1, [.ref ab, .ref aw, .int wl, .double la, .double ea, .int wk, .int fl])), (ab, aQ 4 (cA 3) qf), (bb, .inr (0, [.int st, .double oL, .double oN, .double oE, .double oW, .int (nI (k + 1)), .ref bp, .ref bf, .ref bs, .ref bv])), (bp, aI 12 (cA 0) (upd pw k x2)), (bf, aD 12 (cA 1) (vf_upd fa k x3)), (bs, aD 12 (cA 1) (vf_upd sa k x4)), (bv, aD 12 (cA 1) (vf_upd va k x5))] t) (va_A [(ax, .inr (1, [.ref ab, .ref aw, .int wl, .double la, .double ea, .int wk, .int fl])), (ab, aQ 4 (cA 3) qf), (bb, .inr (0, [.int st, .double oL, .double oN, .double oE, .double oW, .int (nI k), .ref bp, .ref bf, .ref bs, .ref bv])), (bp, aI 12 (cA 0) pw), (bf, aD 12 (cA 1) fa), (bs, aD 12 (cA 1) sa), (bv, aD 12 (cA 1) va)] sz)) (vx_X (fun (_ : Unit) => True) (fun E _ t => f_X1_term st k x1 x2 x3 x4 x5 = .error E ∧ WB dC dI (va_A [(ax, .inr (1, [.ref ab, .ref aw, .int wl, .double la, .double ea, .int wk, .int fl])), (ab, aQ 4 (cA 3) qf), (bb, .inr (0, [.int st, .double oL, .double oN, .double oE, .double oW, .int (nI k), .ref bp, .ref bf, .ref bs, .ref bv])), (bp, aI 12 (cA 0) pw), (bf, aD 12 (cA 1) fa), (bs, aD 12 (cA 1) sa), (bv, aD 12 (cA 1) va)] sz) [(ax, .inr (1, [.ref ab, .ref aw, .int wl, .double la, .double ea, .int wk, .int fl])), (ab, aQ 4 (cA 3) qf), (bb, .inr (0, [.int st, .double oL, .double oN, .double oE, .double oW, .int (nI k), .ref bp, .ref bf, .ref bs, .ref bv])), (bp, aI 12 (cA 0) pw), (bf, aD 12 (cA 1) fa), (bs, aD 12 (cA 1) sa), (bv, aD 12 (cA 1) va)] t) (va_A [(ax, .inr (1, [.ref ab, .ref aw, .int wl, .double la, .double ea, .int wk, .int fl])), (ab, aQ 4 (cA 3) qf), (bb, .inr (0, [.int st, .double oL, .double oN, .double oE, .double oW, .int (nI k), .ref bp, .ref bf, .ref bs, .ref bv])), (bp, aI 12 (cA 0) pw), (bf, aD 12 (cA 1) fa), (bs, aD 12 (cA 1) sa), (bv, aD 12 (cA 1) va)] sz)) 2 12 (va_A [(ax, .inr (1, [.ref ab, .ref aw, .int wl, .double la, .double ea, .int wk, .int fl])), (ab, aQ 4 (cA 3) qf), (bb, .inr (0, [.int st, .double oL, .double oN, .double oE, .double oW, .int (nI k), .ref bp, .ref bf, .ref bs, .ref bv])), (bp, aI 12 (cA 0) pw), (bf, aD 12 (cA 1) fa), (bs, aD 12 (cA 1) sa), (bv, aD 12 (cA 1) va)] sz) := by
  refine vx_ofW (cc := cX1_term) (maxL := 11) (ret := (some .int)) (by decide) rfl ?_
  intro p e s m args below meth c s₁ B hml hnt hv
  obtain ⟨rfl, hsz, hP, hK, hD0, hE⟩ := hv
  subst hsz
  have hD := hD0.self (sz := s.heap.size)
  generalize hAe : va_A [(ax, .inr (1, [.ref ab, .ref aw, .int wl, .double la, .double ea, .int wk, .int fl])), (ab, aQ 4 (cA 3) qf), (bb, .inr (0, [.int st, .double oL, .double oN, .double oE, .double oW, .int (nI k), .ref bp, .ref bf, .ref bs, .ref bv])), (bp, aI 12 (cA 0) pw), (bf, aD 12 (cA 1) fa), (bs, aD 12 (cA 1) sa), (bv, aD 12 (cA 1) va)] s.heap.size = A at hD hE ⊢
  have hA : ∀ q : Nat, s.heap.size ≤ q → A q := fun q h => by rw [← hAe]; exact Or.inr h
  have hS : va_S A s.heap s.heap [] := va_S.rf
  have hP : va_P (dC, dI) vwCl [(ax, .inr (1, [.ref ab, .ref aw, .int wl, .double la, .double ea, .int wk, .int fl])), (ab, aQ 4 (cA 3) qf), (bb, .inr (0, [.int st, .double oL, .double oN, .double oE, .double oW, .int (nI k), .ref bp, .ref bf, .ref bs, .ref bv])), (bp, aI 12 (cA 0) pw), (bf, aD 12 (cA 1) fa), (bs, aD 12 (cA 1) sa), (bv, aD 12 (cA 1) va)] s.heap := hP
  have hx := B.exec
  have hb := B.bytes
  have hr := B.returns
  have hts := atoms_spec (ws := wsX1_term) B.pre
  have hown : s.vm.findClass RX1 = some m.cls := findClass_of_methodNamed B.named
  have hlocks := B.notSynchronized
  have hl := lv_entry ([.ref ax, .int x1, .int x2, .double x3, .double x4, .double x5]) (n := 11) (Nat.le_of_ble_eq_true rfl)
  rw [lg_entry_eq]
  generalize (lg_sl ([.ref ax, .int x1, .int x2, .double x3, .double x4, .double x5]) ++ List.replicate (11 - (lg_sl ([.ref ax, .int x1, .int x2, .double x3, .double x4, .double x5])).length) Slot.unset).toArray = ls at hl ⊢
  have hl : lv_has ls 11 [(0, .ref ax), (1, .int x1), (2, .int x2), (3, .double x3), (5, .double x4), (7, .double x5)] := hl
  have hin0 : ∀ w ∈ u_ws RX0 TX0 10, w ∈ wsX1_term := by decide +kernel
  refine lv_aload_n hx hb dX1_term_0 rfl (lv_at hl 0 rfl) ?_
  refine lv_iload_n hx hb dX1_term_1 rfl (lv_at hl 1 rfl) ?_
  have hPc := hP.sub (ws' := [(ax, .inr (1, [.ref ab, .ref aw, .int wl, .double la, .double ea, .int wk, .int fl])), (ab, aQ 4 (cA 3) qf), (bb, .inr (0, [.int st, .double oL, .double oN, .double oE, .double oW, .int (nI k), .ref bp, .ref bf, .ref bs, .ref bv]))]) [0, 1, 2] rfl
  have hFc := free_0 hS hA
  refine vx_callr (vx_runV (As := [.int x1]) (rest := []) ⟨hx, hb, hml, hown, hts⟩ (k_X1_bodyThatIsSet l hst dC dI cA tm tt _ ax ab aw wl la ea wk fl bb bp bf bs bv st oL oN oE oW k qf x1 hq) (cwV 1 hts gX1_term_X1_bodyThatIsSet rfl rfl rfl (by decide +kernel) ⟨Nat.le_of_ble_eq_true rfl, Nat.le_of_ble_eq_true rfl⟩) ⟨PcR.blind, va_recv hK hPc (ci := 1) (q0 := 0) rfl rfl, PcR.give hPc hK hE hS hFc⟩ rfl rfl hl.1 rfl (lv_room (Nat.le_of_ble_eq_true rfl)) dX1_term_2 ⟨Nat.le_of_ble_eq_true rfl, Nat.le_of_ble_eq_true rfl⟩) hS (fun q _ h => hFc q h) hFc (fun q _ h => hFc q h) (fun E ce q9 u t H locs ht hvm hpx hBX hz1 hk1 hS hce hcv hcl => ?_) (fun u v_1 t H locs ht hvm _ hp_2 hz1 hk1 hS => ?_)
  · have hpx := hBX
    have hP := keep_P hP hk1
    exact vx_out (fun x hx9 => (hnt x hx9).elim) hlocks hce hcv hcl (fun t ht hvm => ⟨(), trivial, ⟨(by unfold f_X1_term; rw [xb_err hpx] <;> rfl), by rw [ht]; exact hP, hD⟩, hS.F ht⟩) hS.2.2 (Nat.le_of_ble_eq_true rfl) (Nat.le_of_ble_eq_true rfl)
  · have hP := keep_P hP hk1
    have h9 := hp_2.1
    rw [h9]
    have hp_2 := hp_2.2
    refine lv_astore (lv' := [(9, .ref bb), (0, .ref ax), (1, .int x1), (2, .int x2), (3, .double x3), (5, .double x4), (7, .double x5)]) hx hb dX1_term_5 hl (by decide) rfl (fun ls hl => ?_)
    refine lv_iload_n hx hb dX1_term_7 rfl (lv_at hl 3 rfl) ?_
    refine lv_i2l hx hb dX1_term_8 rfl ?_
    refine lv_lconst (v := 0) hx hb dX1_term_9 (by decide) ?_
    refine lv_ldc2 hx hb hown (hts (.constantLong RX1 37 (2)) (by decide +kernel)) dX1_term_10 ?_
    refine vp_callSi (W.runS (As := [.long (Int32.toInt64 x2), .long 0, .long 2]) (rest := []) ⟨hx, hb, hml, hown, hts⟩ (k_X1_isWholeWithin l (Int32.toInt64 x2) 0 2) (va_cwS 3 hts gX1_term_X1_isWholeWithin rfl rfl rfl (by decide +kernel) ⟨Nat.le_of_ble_eq_true rfl, Nat.le_of_ble_eq_true rfl⟩) preEq rfl rfl hl.1 rfl (lv_room (Nat.le_of_ble_eq_true rfl)) dX1_term_13 ⟨Nat.le_of_ble_eq_true rfl, Nat.le_of_ble_eq_true rfl⟩) (fun r hr9 => ?_)
    obtain rfl := hr9
    refine lv_if_eq (tgt := 60) hx hb dX1_term_16 (by decide) (fun c_3 => ?_) (fun c_3 => ?_)
    · obtain ⟨sa_4, hsa_4⟩ := hE.1.str (k := 181) (tx := "no such term") (by decide +kernel)
      exact vx_throwS (rest := []) hx hb hst hown thc_IA thf (hts (.classLink RX1 43 xIA) (by decide +kernel)) (hts (.initialized xIA) (by decide +kernel)) hsa_4 (tha_IA hE.1 (fun w hw => hts w (List.mem_cons_of_mem _ (List.mem_append_left _ (List.mem_append_left _ (List.mem_append_right _ hw)))))) thg_IA hE.2.1.1 hE.2.1.2 hS (by rw [hml]; exact hl.1) dX1_term_60 dX1_term_63 dX1_term_64 dX1_term_66 dX1_term_69 (fun x hx9 => (hnt x hx9).elim) (Nat.le_of_ble_eq_true rfl) (Nat.le_of_ble_eq_true rfl) (Nat.le_of_ble_eq_true rfl) (Nat.le_of_ble_eq_true rfl) hlocks (fun t hvm hz hk => ⟨(), trivial, ⟨(by unfold f_X1_term; rw [xb_ok hp_2, if_pos c_3]), hP.kept (fun k9 q9 hq9 => hk q9.1 (hP k9 q9 hq9).lt), hD⟩, zx_F hS hz hk⟩) hS.2.2 (Nat.le_of_ble_eq_true rfl) (Nat.le_of_ble_eq_true rfl)
    · refine lv_dload_n hx hb dX1_term_19 rfl (lv_at hl 4 rfl) ?_
      refine lv_ldc2d hx hb hown (hts (.constantDouble RX1 177 (13845191154443747328)) (by decide +kernel)) dX1_term_20 ?_
      have r_5 : fR 13845191154443747328 (-10737418240) (-10737418240) := fR_lit (by decide +kernel)
      refine lv_ldc2d hx hb hown (hts (.constantDouble RX1 179 (4621819117588971520)) (by decide +kernel)) dX1_term_23 ?_
      have r_6 : fR 4621819117588971520 10737418240 10737418240 := fR_lit (by decide +kernel)
      refine vp_callSi (W.runS (As := [.double x3, .double 13845191154443747328, .double 4621819117588971520]) (rest := []) ⟨hx, hb, hml, hown, hts⟩ (k_X1_isWithin l x3 13845191154443747328 4621819117588971520) (va_cwS 3 hts gX1_term_X1_isWithin rfl rfl rfl (by decide +kernel) ⟨Nat.le_of_ble_eq_true rfl, Nat.le_of_ble_eq_true rfl⟩) preEq rfl rfl hl.1 rfl (lv_room (Nat.le_of_ble_eq_true rfl)) dX1_term_26 ⟨Nat.le_of_ble_eq_true rfl, Nat.le_of_ble_eq_true rfl⟩) (fun r hr9 => ?_)
      obtain rfl := hr9
      refine lv_if_eq (tgt := 60) hx hb dX1_term_29 (by decide) (fun c_7 => ?_) (fun c_7 => ?_)
      · obtain ⟨sa_8, hsa_8⟩ := hE.1.str (k := 181) (tx := "no such term") (by decide +kernel)
        exact vx_throwS (rest := []) hx hb hst hown thc_IA thf (hts (.classLink RX1 43 xIA) (by decide +kernel)) (hts (.initialized xIA) (by decide +kernel)) hsa_8 (tha_IA hE.1 (fun w hw => hts w (List.mem_cons_of_mem _ (List.mem_append_left _ (List.mem_append_left _ (List.mem_append_right _ hw)))))) thg_IA hE.2.1.1 hE.2.1.2 hS (by rw [hml]; exact hl.1) dX1_term_60 dX1_term_63 dX1_term_64 dX1_term_66 dX1_term_69 (fun x hx9 => (hnt x hx9).elim) (Nat.le_of_ble_eq_true rfl) (Nat.le_of_ble_eq_true rfl) (Nat.le_of_ble_eq_true rfl) (Nat.le_of_ble_eq_true rfl) hlocks (fun t hvm hz hk => ⟨(), trivial, ⟨(by unfold f_X1_term; rw [xb_ok hp_2, if_neg c_3, if_pos c_7]), hP.kept (fun k9 q9 hq9 => hk q9.1 (hP k9 q9 hq9).lt), hD⟩, zx_F hS hz hk⟩) hS.2.2 (Nat.le_of_ble_eq_true rfl) (Nat.le_of_ble_eq_true rfl)
      · refine lv_dload hx hb dX1_term_32 (lv_at hl 5 rfl) ?_
        refine lv_ldc2d hx hb hown (hts (.constantDouble RX1 141 (13868412840022376448)) (by decide +kernel)) dX1_term_34 ?_
        have r_9 : fR 13868412840022376448 (-386547056640) (-386547056640) := fR_lit (by decide +kernel)
        refine lv_ldc2d hx hb hown (hts (.constantDouble RX1 143 (4645040803167600640)) (by decide +kernel)) dX1_term_37 ?_
        have r_10 : fR 4645040803167600640 386547056640 386547056640 := fR_lit (by decide +kernel)
        refine vp_callSi (W.runS (As := [.double x4, .double 13868412840022376448, .double 4645040803167600640]) (rest := []) ⟨hx, hb, hml, hown, hts⟩ (k_X1_isWithin l x4 13868412840022376448 4645040803167600640) (va_cwS 3 hts gX1_term_X1_isWithin rfl rfl rfl (by decide +kernel) ⟨Nat.le_of_ble_eq_true rfl, Nat.le_of_ble_eq_true rfl⟩) preEq rfl rfl hl.1 rfl (lv_room (Nat.le_of_ble_eq_true rfl)) dX1_term_40 ⟨Nat.le_of_ble_eq_true rfl, Nat.le_of_ble_eq_true rfl⟩) (fun r hr9 => ?_)
        obtain rfl := hr9
        refine lv_if_eq (tgt := 60) hx hb dX1_term_43 (by decide) (fun c_11 => ?_) (fun c_11 => ?_)
        · obtain ⟨sa_12, hsa_12⟩ := hE.1.str (k := 181) (tx := "no such term") (by decide +kernel)
          exact vx_throwS (rest := []) hx hb hst hown thc_IA thf (hts (.classLink RX1 43 xIA) (by decide +kernel)) (hts (.initialized xIA) (by decide +kernel)) hsa_12 (tha_IA hE.1 (fun w hw => hts w (List.mem_cons_of_mem _ (List.mem_append_left _ (List.mem_append_left _ (List.mem_append_right _ hw)))))) thg_IA hE.2.1.1 hE.2.1.2 hS (by rw [hml]; exact hl.1) dX1_term_60 dX1_term_63 dX1_term_64 dX1_term_66 dX1_term_69 (fun x hx9 => (hnt x hx9).elim) (Nat.le_of_ble_eq_true rfl) (Nat.le_of_ble_eq_true rfl) (Nat.le_of_ble_eq_true rfl) (Nat.le_of_ble_eq_true rfl) hlocks (fun t hvm hz hk => ⟨(), trivial, ⟨(by unfold f_X1_term; rw [xb_ok hp_2, if_neg c_3, if_neg c_7, if_pos c_11]), hP.kept (fun k9 q9 hq9 => hk q9.1 (hP k9 q9 hq9).lt), hD⟩, zx_F hS hz hk⟩) hS.2.2 (Nat.le_of_ble_eq_true rfl) (Nat.le_of_ble_eq_true rfl)
        · refine lv_dload hx hb dX1_term_46 (lv_at hl 6 rfl) ?_
          refine lv_ldc2d hx hb hown (hts (.constantDouble RX1 149 (13860109328209412096)) (by decide +kernel)) dX1_term_48 ?_
          have r_13 : fR 13860109328209412096 (-107374182400) (-107374182400) := fR_lit (by decide +kernel)
          refine lv_ldc2d hx hb hown (hts (.constantDouble RX1 151 (4636737291354636288)) (by decide +kernel)) dX1_term_51 ?_
          have r_14 : fR 4636737291354636288 107374182400 107374182400 := fR_lit (by decide +kernel)
          refine vp_callSi (W.runS (As := [.double x5, .double 13860109328209412096, .double 4636737291354636288]) (rest := []) ⟨hx, hb, hml, hown, hts⟩ (k_X1_isWithin l x5 13860109328209412096 4636737291354636288) (va_cwS 3 hts gX1_term_X1_isWithin rfl rfl rfl (by decide +kernel) ⟨Nat.le_of_ble_eq_true rfl, Nat.le_of_ble_eq_true rfl⟩) preEq rfl rfl hl.1 rfl (lv_room (Nat.le_of_ble_eq_true rfl)) dX1_term_54 ⟨Nat.le_of_ble_eq_true rfl, Nat.le_of_ble_eq_true rfl⟩) (fun r hr9 => ?_)
          obtain rfl := hr9
          refine lv_if_ne (tgt := 70) hx hb dX1_term_57 (by decide) (fun c_15 => ?_) (fun c_15 => ?_)
          · refine lv_aload hx hb dX1_term_70 (lv_at hl 0 rfl) ?_
            refine va_getN (D := (dC, dI)) (ci := 0) (v := .int (nI k)) (C := RX0) (T := TX0) (N := 10) hx hb hts hin0 hown hK hP 2 rfl rfl 5 (by decide) (va_Nw.use rfl (hE.1.1 (.fieldLinkNest RX1 183 "SkyAlmanac$Body" "terms" "I" "SkyAlmanac") (by decide +kernel))) (fun _ h9 => h9) rfl dX1_term_72 ?_
            refine lv_istore (lv' := [(10, .int (nI k)), (9, .ref bb), (0, .ref ax), (1, .int x1), (2, .int x2), (3, .double x3), (5, .double x4), (7, .double x5)]) hx hb dX1_term_75 hl (by decide) rfl (fun ls hl => ?_)
            refine lv_iload hx hb dX1_term_77 (lv_at hl 0 rfl) ?_
            refine lv_if_lt (tgt := 89) hx hb dX1_term_79 (by decide) (fun c_16 => absurd c_16 (nI_pos (by omega))) (fun _ => ?_)
            refine lv_iload hx hb dX1_term_82 (lv_at hl 0 rfl) ?_
            refine lv_bipush (v := 12) hx hb dX1_term_84 (by decide) ?_
            refine lv_icmp_lt (tgt := 99) hx hb dX1_term_86 (by decide) (fun c_17 => ?_) (fun c_17 => ?_)
            · refine lv_aload hx hb dX1_term_99 (lv_at hl 1 rfl) ?_
              refine va_getN (D := (dC, dI)) (ci := 0) (v := .ref bp) (C := RX0) (T := TX0) (N := 10) hx hb hts hin0 hown hK hP 2 rfl rfl 6 (by decide) (va_Nw.use rfl (hE.1.1 (.fieldLinkNest RX1 191 "SkyAlmanac$Body" "powers" "[I" "SkyAlmanac") (by decide +kernel))) (fun _ h9 => h9) rfl dX1_term_101 ?_
              refine lv_iload hx hb dX1_term_104 (lv_at hl 0 rfl) ?_
              refine lv_iload_n hx hb dX1_term_106 rfl (lv_at hl 4 rfl) ?_
              refine va_iast hx hb hK hP hD hS 3 0 rfl rfl (vp_in_nI (nI_lt12 hk12 c_17) (by decide)) dX1_term_107 (fun H locs hP hD hS => ?_)
              rw [nI_clamp (show k < 2 ^ 31 by omega)] at hP hD
              have hP : va_P (dC, dI) vwCl [(ax, .inr (1, [.ref ab, .ref aw, .int wl, .double la, .double ea, .int wk, .int fl])), (ab, aQ 4 (cA 3) qf), (bb, .inr (0, [.int st, .double oL, .double oN, .double oE, .double oW, .int (nI k), .ref bp, .ref bf, .ref bs, .ref bv])), (bp, aI 12 (cA 0) (upd pw k x2)), (bf, aD 12 (cA 1) fa), (bs, aD 12 (cA 1) sa), (bv, aD 12 (cA 1) va)] H := hP
              have hD : va_D A [(ax, .inr (1, [.ref ab, .ref aw, .int wl, .double la, .double ea, .int wk, .int fl])), (ab, aQ 4 (cA 3) qf), (bb, .inr (0, [.int st, .double oL, .double oN, .double oE, .double oW, .int (nI k), .ref bp, .ref bf, .ref bs, .ref bv])), (bp, aI 12 (cA 0) (upd pw k x2)), (bf, aD 12 (cA 1) fa), (bs, aD 12 (cA 1) sa), (bv, aD 12 (cA 1) va)] := hD
              refine lv_aload hx hb dX1_term_108 (lv_at hl 1 rfl) ?_
              refine va_getN (D := (dC, dI)) (ci := 0) (v := .ref bf) (C := RX0) (T := TX0) (N := 10) hx hb hts hin0 hown hK hP 2 rfl rfl 7 (by decide) (va_Nw.use rfl (hE.1.1 (.fieldLinkNest RX1 194 "SkyAlmanac$Body" "factors" "[D" "SkyAlmanac") (by decide +kernel))) (fun _ h9 => h9) rfl dX1_term_110 ?_
              refine lv_iload hx hb dX1_term_113 (lv_at hl 0 rfl) ?_
              refine lv_dload_n hx hb dX1_term_115 rfl (lv_at hl 5 rfl) ?_
              refine va_dast hx hb hK hP hD hS 4 1 rfl rfl (vp_in_nI (nI_lt12 hk12 c_17) (by decide)) dX1_term_116 (fun H locs hP hD hS => ?_)
              rw [nI_clamp (show k < 2 ^ 31 by omega)] at hP hD
              have hP : va_P (dC, dI) vwCl [(ax, .inr (1, [.ref ab, .ref aw, .int wl, .double la, .double ea, .int wk, .int fl])), (ab, aQ 4 (cA 3) qf), (bb, .inr (0, [.int st, .double oL, .double oN, .double oE, .double oW, .int (nI k), .ref bp, .ref bf, .ref bs, .ref bv])), (bp, aI 12 (cA 0) (upd pw k x2)), (bf, aD 12 (cA 1) (vf_upd fa k x3)), (bs, aD 12 (cA 1) sa), (bv, aD 12 (cA 1) va)] H := hP
              have hD : va_D A [(ax, .inr (1, [.ref ab, .ref aw, .int wl, .double la, .double ea, .int wk, .int fl])), (ab, aQ 4 (cA 3) qf), (bb, .inr (0, [.int st, .double oL, .double oN, .double oE, .double oW, .int (nI k), .ref bp, .ref bf, .ref bs, .ref bv])), (bp, aI 12 (cA 0) (upd pw k x2)), (bf, aD 12 (cA 1) (vf_upd fa k x3)), (bs, aD 12 (cA 1) sa), (bv, aD 12 (cA 1) va)] := hD
              refine lv_aload hx hb dX1_term_117 (lv_at hl 1 rfl) ?_
              refine va_getN (D := (dC, dI)) (ci := 0) (v := .ref bs) (C := RX0) (T := TX0) (N := 10) hx hb hts hin0 hown hK hP 2 rfl rfl 8 (by decide) (va_Nw.use rfl (hE.1.1 (.fieldLinkNest RX1 198 "SkyAlmanac$Body" "starts" "[D" "SkyAlmanac") (by decide +kernel))) (fun _ h9 => h9) rfl dX1_term_119 ?_
              refine lv_iload hx hb dX1_term_122 (lv_at hl 0 rfl) ?_
              refine lv_dload hx hb dX1_term_124 (lv_at hl 6 rfl) ?_
              refine va_dast hx hb hK hP hD hS 5 1 rfl rfl (vp_in_nI (nI_lt12 hk12 c_17) (by decide)) dX1_term_126 (fun H locs hP hD hS => ?_)
              rw [nI_clamp (show k < 2 ^ 31 by omega)] at hP hD
              have hP : va_P (dC, dI) vwCl [(ax, .inr (1, [.ref ab, .ref aw, .int wl, .double la, .double ea, .int wk, .int fl])), (ab, aQ 4 (cA 3) qf), (bb, .inr (0, [.int st, .double oL, .double oN, .double oE, .double oW, .int (nI k), .ref bp, .ref bf, .ref bs, .ref bv])), (bp, aI 12 (cA 0) (upd pw k x2)), (bf, aD 12 (cA 1) (vf_upd fa k x3)), (bs, aD 12 (cA 1) (vf_upd sa k x4)), (bv, aD 12 (cA 1) va)] H := hP
              have hD : va_D A [(ax, .inr (1, [.ref ab, .ref aw, .int wl, .double la, .double ea, .int wk, .int fl])), (ab, aQ 4 (cA 3) qf), (bb, .inr (0, [.int st, .double oL, .double oN, .double oE, .double oW, .int (nI k), .ref bp, .ref bf, .ref bs, .ref bv])), (bp, aI 12 (cA 0) (upd pw k x2)), (bf, aD 12 (cA 1) (vf_upd fa k x3)), (bs, aD 12 (cA 1) (vf_upd sa k x4)), (bv, aD 12 (cA 1) va)] := hD
              refine lv_aload hx hb dX1_term_127 (lv_at hl 1 rfl) ?_
              refine va_getN (D := (dC, dI)) (ci := 0) (v := .ref bv) (C := RX0) (T := TX0) (N := 10) hx hb hts hin0 hown hK hP 2 rfl rfl 9 (by decide) (va_Nw.use rfl (hE.1.1 (.fieldLinkNest RX1 201 "SkyAlmanac$Body" "speeds" "[D" "SkyAlmanac") (by decide +kernel))) (fun _ h9 => h9) rfl dX1_term_129 ?_
              refine lv_iload hx hb dX1_term_132 (lv_at hl 0 rfl) ?_
              refine lv_dload hx hb dX1_term_134 (lv_at hl 7 rfl) ?_
              refine va_dast hx hb hK hP hD hS 6 1 rfl rfl (vp_in_nI (nI_lt12 hk12 c_17) (by decide)) dX1_term_136 (fun H locs hP hD hS => ?_)
              rw [nI_clamp (show k < 2 ^ 31 by omega)] at hP hD
              have hP : va_P (dC, dI) vwCl [(ax, .inr (1, [.ref ab, .ref aw, .int wl, .double la, .double ea, .int wk, .int fl])), (ab, aQ 4 (cA 3) qf), (bb, .inr (0, [.int st, .double oL, .double oN, .double oE, .double oW, .int (nI k), .ref bp, .ref bf, .ref bs, .ref bv])), (bp, aI 12 (cA 0) (upd pw k x2)), (bf, aD 12 (cA 1) (vf_upd fa k x3)), (bs, aD 12 (cA 1) (vf_upd sa k x4)), (bv, aD 12 (cA 1) (vf_upd va k x5))] H := hP
              have hD : va_D A [(ax, .inr (1, [.ref ab, .ref aw, .int wl, .double la, .double ea, .int wk, .int fl])), (ab, aQ 4 (cA 3) qf), (bb, .inr (0, [.int st, .double oL, .double oN, .double oE, .double oW, .int (nI k), .ref bp, .ref bf, .ref bs, .ref bv])), (bp, aI 12 (cA 0) (upd pw k x2)), (bf, aD 12 (cA 1) (vf_upd fa k x3)), (bs, aD 12 (cA 1) (vf_upd sa k x4)), (bv, aD 12 (cA 1) (vf_upd va k x5))] := hD
              refine lv_aload hx hb dX1_term_137 (lv_at hl 1 rfl) ?_
              refine lv_iload hx hb dX1_term_139 (lv_at hl 0 rfl) ?_
              refine lv_iconst (v := 1) hx hb dX1_term_141 (by decide) ?_
              refine lv_iadd hx hb dX1_term_142 ?_
              rw [nI_1]
              refine va_putN (D := (dC, dI)) (ci := 0) (v := .int (nI (k + 1))) (ty := .int) (C := RX0) (T := TX0) (N := 10) hx hb hts hin0 tyX0 tyX0_ok nmX0 hown hK hP hD hS 2 rfl rfl 5 (by decide) (va_Nw.use rfl (hE.1.1 (.fieldLinkNest RX1 183 "SkyAlmanac$Body" "terms" "I" "SkyAlmanac") (by decide +kernel))) (fun _ h9 => h9) rfl (by decide +kernel) rfl rfl (Nat.le_of_ble_eq_true rfl) dX1_term_143 (fun H locs hP hD hS => ?_)
              have hP : va_P (dC, dI) vwCl [(ax, .inr (1, [.ref ab, .ref aw, .int wl, .double la, .double ea, .int wk, .int fl])), (ab, aQ 4 (cA 3) qf), (bb, .inr (0, [.int st, .double oL, .double oN, .double oE, .double oW, .int (nI (k + 1)), .ref bp, .ref bf, .ref bs, .ref bv])), (bp, aI 12 (cA 0) (upd pw k x2)), (bf, aD 12 (cA 1) (vf_upd fa k x3)), (bs, aD 12 (cA 1) (vf_upd sa k x4)), (bv, aD 12 (cA 1) (vf_upd va k x5))] H := hP
              have hD : va_D A [(ax, .inr (1, [.ref ab, .ref aw, .int wl, .double la, .double ea, .int wk, .int fl])), (ab, aQ 4 (cA 3) qf), (bb, .inr (0, [.int st, .double oL, .double oN, .double oE, .double oW, .int (nI (k + 1)), .ref bp, .ref bf, .ref bs, .ref bv])), (bp, aI 12 (cA 0) (upd pw k x2)), (bf, aD 12 (cA 1) (vf_upd fa k x3)), (bs, aD 12 (cA 1) (vf_upd sa k x4)), (bv, aD 12 (cA 1) (vf_upd va k x5))] := hD
              refine lv_aload hx hb dX1_term_146 (lv_at hl 1 rfl) ?_
              refine va_getN (D := (dC, dI)) (ci := 0) (v := .int (nI (k + 1))) (C := RX0) (T := TX0) (N := 10) hx hb hts hin0 hown hK hP 2 rfl rfl 5 (by decide) (va_Nw.use rfl (hE.1.1 (.fieldLinkNest RX1 183 "SkyAlmanac$Body" "terms" "I" "SkyAlmanac") (by decide +kernel))) (fun _ h9 => h9) rfl dX1_term_148 ?_
              refine W.widen (k := 2) (n := 12) (Nat.le_of_ble_eq_true rfl) (Nat.le_of_ble_eq_true rfl) ?_
              exact vx_ret (W.iret hx hb hr (fun t ht hW => ⟨⟨_, (), rfl, (by unfold f_X1_term; rw [xb_ok hp_2, if_neg c_3, if_neg c_7, if_neg c_11, if_neg c_15, if_pos c_17]), ⟨by rw [ht]; exact hP, hD⟩⟩, hS.F ht⟩) hS.2.2 dX1_term_151)
            · obtain ⟨sa_18, hsa_18⟩ := hE.1.str (k := 188) (tx := "the body has all its terms") (by decide +kernel)
              exact vx_throwS (rest := []) hx hb hst hown thc_IS thf (hts (.classLink RX1 186 xIS) (by decide +kernel)) (hts (.initialized xIS) (by decide +kernel)) hsa_18 (tha_IS hE.1 (fun w hw => hts w (List.mem_cons_of_mem _ (List.mem_append_left _ (List.mem_append_right _ hw))))) thg_IS hE.2.1.1 hE.2.1.2 hS (by rw [hml]; exact hl.1) dX1_term_89 dX1_term_92 dX1_term_93 dX1_term_95 dX1_term_98 (fun x hx9 => (hnt x hx9).elim) (Nat.le_of_ble_eq_true rfl) (Nat.le_of_ble_eq_true rfl) (Nat.le_of_ble_eq_true rfl) (Nat.le_of_ble_eq_true rfl) hlocks (fun t hvm hz hk => ⟨(), trivial, ⟨(by unfold f_X1_term; rw [xb_ok hp_2, if_neg c_3, if_neg c_7, if_neg c_11, if_neg c_15, if_neg c_17]), hP.kept (fun k9 q9 hq9 => hk q9.1 (hP k9 q9 hq9).lt), hD⟩, zx_F hS hz hk⟩) hS.2.2 (Nat.le_of_ble_eq_true rfl) (Nat.le_of_ble_eq_true rfl)
          · obtain ⟨sa_19, hsa_19⟩ := hE.1.str (k := 181) (tx := "no such term") (by decide +kernel)
            exact vx_throwS (rest := []) hx hb hst hown thc_IA thf (hts (.classLink RX1 43 xIA) (by decide +kernel)) (hts (.initialized xIA) (by decide +kernel)) hsa_19 (tha_IA hE.1 (fun w hw => hts w (List.mem_cons_of_mem _ (List.mem_append_left _ (List.mem_append_left _ (List.mem_append_right _ hw)))))) thg_IA hE.2.1.1 hE.2.1.2 hS (by rw [hml]; exact hl.1) dX1_term_60 dX1_term_63 dX1_term_64 dX1_term_66 dX1_term_69 (fun x hx9 => (hnt x hx9).elim) (Nat.le_of_ble_eq_true rfl) (Nat.le_of_ble_eq_true rfl) (Nat.le_of_ble_eq_true rfl) (Nat.le_of_ble_eq_true rfl) hlocks (fun t hvm hz hk => ⟨(), trivial, ⟨(by unfold f_X1_term; rw [xb_ok hp_2, if_neg c_3, if_neg c_7, if_neg c_11, if_pos c_15]), hP.kept (fun k9 q9 hq9 => hk q9.1 (hP k9 q9 hq9).lt), hD⟩, zx_F hS hz hk⟩) hS.2.2 (Nat.le_of_ble_eq_true rfl) (Nat.le_of_ble_eq_true rfl)

theorem BTS_st {st x1 : Int32} (h : BTS st x1 = .ok ()) : st ≠ 0 := by
  unfold BTS at h
  split at h
  · cases h
  · split at h
    · cases h
    · split at h
      · cases h
      · assumption