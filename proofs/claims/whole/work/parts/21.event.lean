def f_X1_timeOfPart (x0 : Int32) (x1 : Int32) : UInt64 := FP.dadd (FP.i2d x0) (FP.ddiv (FP.i2d x1) 4625196817309499392)
set_option maxHeartbeats 4000000 in
set_option maxRecDepth 100000 in
theorem k_X1_timeOfPart (l : Launch) (x0 : Int32) (x1 : Int32)  : Met l yX1_timeOfPart wsX1_timeOfPart ({ frames := 0, cells := 0, slots := 0, locals := 0 }) (fun v _ => v = ([.int x0, .int x1] : List Value).toArray) (vp_Sd (fun r => r = f_X1_timeOfPart x0 x1)) 0 0 (fun _ => False) := by
  refine Met.ofW (cc := cX1_timeOfPart) (maxL := 2) (ret := (some .double)) (by decide) rfl ?_
  intro p e s m args below meth c s₁ B hml hv
  obtain rfl := hv
  have hx := B.exec
  have hb := B.bytes
  have hr := B.returns
  have hts := atoms_spec (ws := wsX1_timeOfPart) B.pre
  have hown : s.vm.findClass RX1 = some m.cls := findClass_of_methodNamed B.named
  have hlocks := B.notSynchronized
  have hl := lv_entry ([.int x0, .int x1]) (n := 2) (Nat.le_of_ble_eq_true rfl)
  rw [lg_entry_eq]
  generalize (lg_sl ([.int x0, .int x1]) ++ List.replicate (2 - (lg_sl ([.int x0, .int x1])).length) Slot.unset).toArray = ls at hl ⊢
  have hl : lv_has ls 2 [(0, .int x0), (1, .int x1)] := hl
  refine lv_iload_n hx hb dX1_timeOfPart_0 rfl (lv_at hl 0 rfl) ?_
  refine lv_i2d hx hb dX1_timeOfPart_1 ?_
  refine lv_iload_n hx hb dX1_timeOfPart_2 rfl (lv_at hl 1 rfl) ?_
  refine lv_i2d hx hb dX1_timeOfPart_3 ?_
  refine lv_ldc2d hx hb hown (hts (.constantDouble RX1 302 (4625196817309499392)) (by decide +kernel)) dX1_timeOfPart_4 ?_
  have r_1 : fR 4625196817309499392 17179869184 17179869184 := fR_lit (by decide +kernel)
  have r_2 := fR_div (i2d_R x1) r_1 (by decide) (-144115188075855872) 144115188075855872 (by decide) (by decide) rfl rfl
  refine lv_ddiv hx hb dX1_timeOfPart_7 (fR_nn r_2) ?_
  have r_3 := fR_add (i2d_R x0) r_2 (-2449958197289549824) 2449958197289549824 (by decide) (by decide) rfl rfl
  refine lv_dadd hx hb dX1_timeOfPart_8 (fR_nn r_3) ?_
  exact W.dret hx hb hr (fun t ht _ => ⟨_, rfl, rfl, ht⟩) (fun _ h => nomatch h) dX1_timeOfPart_9

abbrev TOP (d j : Int32) : UInt64 := f_X1_timeOfPart d j
abbrev c3 : UInt64 := 4613937818241073152
def MID (a b : UInt64) : UInt64 := FP.ddiv (FP.dadd a b) c2
def TH1 (a b : UInt64) : UInt64 := FP.dadd a (FP.ddiv (FP.dsub b a) c3)
def TH2 (a b : UInt64) : UInt64 := FP.dsub b (FP.ddiv (FP.dsub b a) c3)
def UP (h : UInt64) : Int32 := if dge h FP.dconst0 then 1 else 0
theorem UP_1 {h : UInt64} (c : dge h FP.dconst0) : (1 : Int32) = UP h := by unfold UP; rw [if_pos c]
theorem UP_0 {h : UInt64} (c : ¬ dge h FP.dconst0) : (0 : Int32) = UP h := by unfold UP; rw [if_neg c]
/-- an answer, and how many heights were worked out on the way -/
abbrev CE (α : Type) := Nat × Except String α
def addc {α : Type} (n : Nat) (x : CE α) : CE α := (n + x.1, x.2)
theorem addc_addc {α : Type} (a b : Nat) (x : CE α) : addc a (addc b x) = addc (a + b) x := by unfold addc; simp only [Nat.add_assoc]
section EV
variable (hh : UInt64 → Except String UInt64)
def pcL (d rs : Int32) : Nat → Int32 → Nat → CE Int32
  | 0, _, _ => (0, .ok (-1))
  | n + 1, u, j => match hh (TOP d (nI j)) with
    | .error e => (1, .error e)
    | .ok h => if UP h = rs then (if u = rs then addc 1 (pcL d rs n (UP h) (j + 1)) else (1, .ok (nI j))) else addc 1 (pcL d rs n (UP h) (j + 1))
def PCR (d rs : Int32) : CE Int32 := match hh (TOP d 0) with
  | .error e => (1, .error e)
  | .ok h => addc 1 (pcL hh d rs 16 (UP h) 1)
def ncL (rs : Int32) : Nat → UInt64 → UInt64 → CE UInt64
  | 0, _, b => (0, .ok b)
  | n + 1, a, b => match hh (MID a b) with
    | .error e => (1, .error e)
    | .ok h => if UP h = rs then addc 1 (ncL rs n a (MID a b)) else addc 1 (ncL rs n (MID a b) b)
def NCR (d p rs : Int32) : CE UInt64 := ncL hh rs 20 (TOP d (p - 1)) (TOP d p)
def pgL (d : Int32) : Nat → Int32 → UInt64 → Nat → CE Int32
  | 0, q, _, _ => (0, .ok q)
  | n + 1, q, g, j => match hh (TOP d (nI j)) with
    | .error e => (1, .error e)
    | .ok h => if dgt h g then addc 1 (pgL d n (nI j) h (j + 1)) else addc 1 (pgL d n q g (j + 1))
def PGR (d : Int32) : CE Int32 := match hh (TOP d 1) with
  | .error e => (1, .error e)
  | .ok h => addc 1 (pgL hh d 14 1 h 2)
def nhL : Nat → UInt64 → UInt64 → CE UInt64
  | 0, a, b => (0, .ok (MID a b))
  | n + 1, a, b => match hh (TH1 a b) with
    | .error e => (1, .error e)
    | .ok h1 => match hh (TH2 a b) with
      | .error e => (2, .error e)
      | .ok h2 => if dlt h1 h2 then addc 2 (nhL n (TH1 a b) b) else addc 2 (nhL n a (TH2 a b))
def NHR (d p : Int32) : CE UInt64 := nhL hh 24 (TOP d (p - 1)) (TOP d (p + 1))
variable {hh}
theorem sub_s {n j : Nat} (h : j < n) : n - j = (n - (j + 1)) + 1 := by omega
theorem pcL_e {d rs u : Int32} {j : Nat} {e : String} (hj : j < 17) (h : hh (TOP d (nI j)) = .error e) : pcL hh d rs (17 - j) u j = (1, .error e) := by
  rw [sub_s hj]; unfold pcL; rw [h]
theorem pcL_hit {d rs u : Int32} {j : Nat} {v : UInt64} (hj : j < 17) (h : hh (TOP d (nI j)) = .ok v) (c1 : UP v = rs) (c2 : ¬ u = rs) : pcL hh d rs (17 - j) u j = (1, .ok (nI j)) := by
  rw [sub_s hj]; unfold pcL; rw [h]; simp only; rw [if_pos c1, if_neg c2]
theorem pcL_go1 {d rs u : Int32} {j : Nat} {v : UInt64} (hj : j < 17) (h : hh (TOP d (nI j)) = .ok v) (c1 : ¬ UP v = rs) : pcL hh d rs (17 - j) u j = addc 1 (pcL hh d rs (17 - (j + 1)) (UP v) (j + 1)) := by
  rw [sub_s hj]; conv => lhs; unfold pcL
  rw [h]; simp only; rw [if_neg c1]
theorem pcL_go2 {d rs u : Int32} {j : Nat} {v : UInt64} (hj : j < 17) (h : hh (TOP d (nI j)) = .ok v) (c2 : u = rs) : pcL hh d rs (17 - j) u j = addc 1 (pcL hh d rs (17 - (j + 1)) (UP v) (j + 1)) := by
  rw [sub_s hj]; conv => lhs; unfold pcL
  rw [h]; simp only; rw [if_pos c2, ite_self]
theorem PCR_e {d rs : Int32} {e : String} (h : hh (TOP d 0) = .error e) : PCR hh d rs = (1, .error e) := by unfold PCR; rw [h]
theorem PCR_o {d rs : Int32} {v : UInt64} (h : hh (TOP d 0) = .ok v) : PCR hh d rs = addc 1 (pcL hh d rs (17 - 1) (UP v) 1) := by unfold PCR; rw [h]
theorem ncL_e {rs : Int32} {j : Nat} {a b : UInt64} {e : String} (hj : j < 20) (h : hh (MID a b) = .error e) : ncL hh rs (20 - j) a b = (1, .error e) := by
  rw [sub_s hj]; unfold ncL; rw [h]
theorem ncL_1 {rs : Int32} {j : Nat} {a b v : UInt64} (hj : j < 20) (h : hh (MID a b) = .ok v) (c : UP v = rs) : ncL hh rs (20 - j) a b = addc 1 (ncL hh rs (20 - (j + 1)) a (MID a b)) := by
  rw [sub_s hj]; conv => lhs; unfold ncL
  rw [h]; simp only; rw [if_pos c]
theorem ncL_0 {rs : Int32} {j : Nat} {a b v : UInt64} (hj : j < 20) (h : hh (MID a b) = .ok v) (c : ¬ UP v = rs) : ncL hh rs (20 - j) a b = addc 1 (ncL hh rs (20 - (j + 1)) (MID a b) b) := by
  rw [sub_s hj]; conv => lhs; unfold ncL
  rw [h]; simp only; rw [if_neg c]
theorem pgL_e {d q : Int32} {g : UInt64} {j : Nat} {e : String} (hj : j < 16) (h : hh (TOP d (nI j)) = .error e) : pgL hh d (16 - j) q g j = (1, .error e) := by
  rw [sub_s hj]; unfold pgL; rw [h]
theorem pgL_1 {d q : Int32} {g v : UInt64} {j : Nat} (hj : j < 16) (h : hh (TOP d (nI j)) = .ok v) (c : dgt v g) : pgL hh d (16 - j) q g j = addc 1 (pgL hh d (16 - (j + 1)) (nI j) v (j + 1)) := by
  rw [sub_s hj]; conv => lhs; unfold pgL
  rw [h]; simp only; rw [if_pos c]
theorem pgL_0 {d q : Int32} {g v : UInt64} {j : Nat} (hj : j < 16) (h : hh (TOP d (nI j)) = .ok v) (c : ¬ dgt v g) : pgL hh d (16 - j) q g j = addc 1 (pgL hh d (16 - (j + 1)) q g (j + 1)) := by
  rw [sub_s hj]; conv => lhs; unfold pgL
  rw [h]; simp only; rw [if_neg c]
theorem PGR_e {d : Int32} {e : String} (h : hh (TOP d 1) = .error e) : PGR hh d = (1, .error e) := by unfold PGR; rw [h]
theorem PGR_o {d : Int32} {v : UInt64} (h : hh (TOP d 1) = .ok v) : PGR hh d = addc 1 (pgL hh d (16 - 2) 1 v 2) := by unfold PGR; rw [h]
theorem nhL_e1 {j : Nat} {a b : UInt64} {e : String} (hj : j < 24) (h : hh (TH1 a b) = .error e) : nhL hh (24 - j) a b = (1, .error e) := by
  rw [sub_s hj]; unfold nhL; rw [h]
theorem nhL_e2 {j : Nat} {a b v : UInt64} {e : String} (hj : j < 24) (h : hh (TH1 a b) = .ok v) (h2 : hh (TH2 a b) = .error e) : nhL hh (24 - j) a b = (2, .error e) := by
  rw [sub_s hj]; unfold nhL; rw [h]; simp only; rw [h2]
theorem nhL_1 {j : Nat} {a b v w : UInt64} (hj : j < 24) (h : hh (TH1 a b) = .ok v) (h2 : hh (TH2 a b) = .ok w) (c : dlt v w) : nhL hh (24 - j) a b = addc 2 (nhL hh (24 - (j + 1)) (TH1 a b) b) := by
  rw [sub_s hj]; conv => lhs; unfold nhL
  rw [h]; simp only; rw [h2]; simp only; rw [if_pos c]
theorem nhL_0 {j : Nat} {a b v w : UInt64} (hj : j < 24) (h : hh (TH1 a b) = .ok v) (h2 : hh (TH2 a b) = .ok w) (c : ¬ dlt v w) : nhL hh (24 - j) a b = addc 2 (nhL hh (24 - (j + 1)) a (TH2 a b)) := by
  rw [sub_s hj]; conv => lhs; unfold nhL
  rw [h]; simp only; rw [h2]; simp only; rw [if_neg c]
end EV
theorem wk_s (wk : Int32) (j : Nat) : wk + nI (j + 1) = wk + nI j + 1 := by rw [Int32.add_assoc, nI_1]
theorem wk_0 (wk : Int32) : wk + nI 0 = wk := i0 wk
theorem nIs (j : Nat) : nI (j + 1) = nI j + 1 := (nI_1 j).symm
theorem wk_1 (wk : Int32) : wk + nI 1 = wk + 1 := rfl
/-! the times stay near the day -/
theorem top_R {d j : Int32} (hd : -1000000 ≤ d.toInt ∧ d.toInt ≤ 1000000) (hj : 0 ≤ j.toInt ∧ j.toInt ≤ 16) : fR (TOP d j) (d.toInt * 1073741824) (d.toInt * 1073741824 + 1073741824) := by
  have a := fR_i2d d (lo := d.toInt) (hi := d.toInt) (Int.le_refl _) (Int.le_refl _)
  have b := fR_i2d j hj.1 hj.2
  have c : fR 4625196817309499392 17179869184 17179869184 := fR_lit (by decide +kernel)
  have e := fR_div b c (by decide) 0 1073741824 (by decide) (by decide) rfl rfl
  exact fR_add a e _ _ (by omega) (by omega) (fRb_s (by omega)) (fRb_s (by omega))
theorem mid_R {a b : UInt64} {lo hi : Int} (ha : fR a lo hi) (hb : fR b lo hi) (h1 : -4503599627370496 < lo) (h2 : hi < 4503599627370496) (h3 : lo ≤ hi) : fR (MID a b) lo hi ∧ fR (FP.dadd a b) (lo + lo) (hi + hi) := by
  have c : fR c2 2147483648 2147483648 := fR_lit (by decide +kernel)
  have e := fR_add ha hb (lo + lo) (hi + hi) (by omega) (by omega) (fRb_s (by omega)) (fRb_s (by omega))
  exact ⟨fR_div e c (by decide) _ _ ⟨by omega, by omega⟩ ⟨by omega, by omega⟩ (fRb_s (by omega)) (fRb_s (by omega)), e⟩
theorem th_R {a b : UInt64} {c w : Int} (ha : fR a (c - w) (c + w)) (hb : fR b (c - w) (c + w)) (hw : 0 ≤ w) (h1 : -2251799813685248 < c) (h2 : c < 2251799813685248) (h3 : w < 1125899906842624) (v : Int) (hv : 5 * w + 3 ≤ 3 * v) (hv2 : v < 1125899906842624) :
    fR (FP.dsub b a) (-(2 * w)) (2 * w) ∧ fR (FP.ddiv (FP.dsub b a) c3) (-(v - w)) (v - w) ∧ fR (TH1 a b) (c - v) (c + v) ∧ fR (TH2 a b) (c - v) (c + v) := by
  have k : fR c3 3221225472 3221225472 := fR_lit (by decide +kernel)
  have e := fR_sub hb ha (-(2 * w)) (2 * w) (by omega) (by omega) (fRb_s (by omega)) (fRb_s (by omega))
  have f := fR_div e k (by decide) (-(v - w)) (v - w) ⟨by omega, by omega⟩ ⟨by omega, by omega⟩ (fRb_s (by omega)) (fRb_s (by omega))
  exact ⟨e, f, fR_add ha f _ _ (by omega) (by omega) (fRb_s (by omega)) (fRb_s (by omega)), fR_sub hb f _ _ (by omega) (by omega) (fRb_s (by omega)) (fRb_s (by omega))⟩
def wdL : List Int := [1073741824, 1789569709, 2982616184, 4971026976, 8285044962, 13808408272, 23014013789, 38356689651, 63927816087, 106546360147, 177577266914, 295962111526, 493270185879, 822116976467, 1370194960781, 2283658267971, 3806097113287, 6343495188814, 10572491981359, 17620819968934, 29368033281559, 48946722135934, 81577870226559, 135963117044267, 226605195073781]
def wd (i : Nat) : Int := wdL.getD i 0
theorem wd_ok : ∀ i, i < 24 → 0 ≤ wd i ∧ 5 * wd i + 3 ≤ 3 * wd (i + 1) ∧ wd i < 1125899906842624 ∧ wd (i + 1) < 1125899906842624 := by decide +kernel
theorem wd_in : ∀ i, i < 25 → 0 ≤ wd i ∧ wd i < 1178055842201600 := by decide +kernel
theorem wd_0 : wd 0 = 1073741824 := by decide +kernel
theorem nI_b {j : Nat} (h : j ≤ 16) : 0 ≤ (nI j).toInt ∧ (nI j).toInt ≤ 16 := by rw [nI_toInt (by omega)]; omega
theorem nI_le16 {j : Nat} (h : j ≤ 16) : ¬ (16 : Int32) < nI j := by
  rw [Int32.lt_iff_toInt_lt, nI_toInt (by omega)]
  have : (16 : Int32).toInt = 16 := rfl
  omega
theorem nI_lt16 {j : Nat} (h : j < 16) : ¬ (16 : Int32) ≤ nI j := by
  rw [Int32.le_iff_toInt_le, nI_toInt (by omega)]
  have : (16 : Int32).toInt = 16 := rfl
  omega
theorem nI_lt20 {j : Nat} (h : j < 20) : ¬ (20 : Int32) ≤ nI j := by
  rw [Int32.le_iff_toInt_le, nI_toInt (by omega)]
  have : (20 : Int32).toInt = 20 := rfl
  omega
theorem nI_lt24 {j : Nat} (h : j < 24) : ¬ (24 : Int32) ≤ nI j := by
  rw [Int32.le_iff_toInt_le, nI_toInt (by omega)]
  have : (24 : Int32).toInt = 24 := rfl
  omega
theorem nI_ge_ {j : Nat} {b : Int32} {n : Nat} (hb : b.toInt = n) (hj : j ≤ 100) (c : ¬ b ≤ nI j) : j < n := by
  rw [Int32.le_iff_toInt_le, nI_toInt (by omega), hb] at c
  omega
theorem nI_gt_ {j : Nat} {b : Int32} {n : Nat} (hb : b.toInt = n) (hj : j ≤ 100) (c : ¬ b < nI j) : j ≤ n := by
  rw [Int32.lt_iff_toInt_lt, nI_toInt (by omega), hb] at c
  omega
set_option maxHeartbeats 4000000 in
set_option maxRecDepth 100000 in
theorem k_X1_partOfCrossing (l : Launch) (hst : l.stackTraces = false) (dC : Nat → ClassId) (dI : Nat → Nat → Nat) (cA : Nat → ClassId) (tm tt sz : Nat) (ax ab aw : Nat) (wl : Int32) (la ea : UInt64) (wk fl : Int32) (bb bp bf bs bv : Nat) (st : Int32) (oL oN oE oW : UInt64) (k : Nat) (pw : Nat → Int32) (fa sa va : Nat → UInt64) (x2 : Int32) (x3 : Int32) (hO : oOK oL oN oE oW) (hT : tOK k fa sa va) (hla : fR la (-96636764160) 96636764160) (hea : fR ea (-193273528320) 193273528320) (hd : -1000000 ≤ x2.toInt ∧ x2.toInt ≤ 1000000) : vx_Met l yX1_partOfCrossing wsX1_partOfCrossing ({ frames := 9, cells := 17, slots := 102, locals := 178 }) (PcW dC dI cA tm tt sz [.ref ax, .ref bb, .int x2, .int x3] [(ax, .inr (1, [.ref ab, .ref aw, .int wl, .double la, .double ea, .int wk, .int fl])), (bb, .inr (0, [.int st, .double oL, .double oN, .double oE, .double oW, .int (nI k), .ref bp, .ref bf, .ref bs, .ref bv])), (bp, aI 12 (cA 0) pw), (bf, aD 12 (cA 1) fa), (bs, aD 12 (cA 1) sa), (bv, aD 12 (cA 1) va)]) (va_Qi (fun r (_ : Unit) => (PCR (HEI la ea oL oN oE oW k pw fa sa va) x2 x3).2 = .ok r) (fun _ t => WB dC dI (va_A [(ax, .inr (1, [.ref ab, .ref aw, .int wl, .double la, .double ea, .int wk, .int fl])), (bb, .inr (0, [.int st, .double oL, .double oN, .double oE, .double oW, .int (nI k), .ref bp, .ref bf, .ref bs, .ref bv])), (bp, aI 12 (cA 0) pw), (bf, aD 12 (cA 1) fa), (bs, aD 12 (cA 1) sa), (bv, aD 12 (cA 1) va)] sz) [(ax, .inr (1, [.ref ab, .ref aw, .int wl, .double la, .double ea, .int (wk + nI (PCR (HEI la ea oL oN oE oW k pw fa sa va) x2 x3).1), .int fl])), (bb, .inr (0, [.int st, .double oL, .double oN, .double oE, .double oW, .int (nI k), .ref bp, .ref bf, .ref bs, .ref bv])), (bp, aI 12 (cA 0) pw), (bf, aD 12 (cA 1) fa), (bs, aD 12 (cA 1) sa), (bv, aD 12 (cA 1) va)] t) (va_A [(ax, .inr (1, [.ref ab, .ref aw, .int wl, .double la, .double ea, .int wk, .int fl])), (bb, .inr (0, [.int st, .double oL, .double oN, .double oE, .double oW, .int (nI k), .ref bp, .ref bf, .ref bs, .ref bv])), (bp, aI 12 (cA 0) pw), (bf, aD 12 (cA 1) fa), (bs, aD 12 (cA 1) sa), (bv, aD 12 (cA 1) va)] sz)) (vx_X (fun (_ : Unit) => True) (fun E _ t => (PCR (HEI la ea oL oN oE oW k pw fa sa va) x2 x3).2 = .error E ∧ WB dC dI (va_A [(ax, .inr (1, [.ref ab, .ref aw, .int wl, .double la, .double ea, .int wk, .int fl])), (bb, .inr (0, [.int st, .double oL, .double oN, .double oE, .double oW, .int (nI k), .ref bp, .ref bf, .ref bs, .ref bv])), (bp, aI 12 (cA 0) pw), (bf, aD 12 (cA 1) fa), (bs, aD 12 (cA 1) sa), (bv, aD 12 (cA 1) va)] sz) [(ax, .inr (1, [.ref ab, .ref aw, .int wl, .double la, .double ea, .int (wk + nI (PCR (HEI la ea oL oN oE oW k pw fa sa va) x2 x3).1), .int (fl + 1)])), (bb, .inr (0, [.int st, .double oL, .double oN, .double oE, .double oW, .int (nI k), .ref bp, .ref bf, .ref bs, .ref bv])), (bp, aI 12 (cA 0) pw), (bf, aD 12 (cA 1) fa), (bs, aD 12 (cA 1) sa), (bv, aD 12 (cA 1) va)] t) (va_A [(ax, .inr (1, [.ref ab, .ref aw, .int wl, .double la, .double ea, .int wk, .int fl])), (bb, .inr (0, [.int st, .double oL, .double oN, .double oE, .double oW, .int (nI k), .ref bp, .ref bf, .ref bs, .ref bv])), (bp, aI 12 (cA 0) pw), (bf, aD 12 (cA 1) fa), (bs, aD 12 (cA 1) sa), (bv, aD 12 (cA 1) va)] sz)) 17 102 (va_A [(ax, .inr (1, [.ref ab, .ref aw, .int wl, .double la, .double ea, .int wk, .int fl])), (bb, .inr (0, [.int st, .double oL, .double oN, .double oE, .double oW, .int (nI k), .ref bp, .ref bf, .ref bs, .ref bv])), (bp, aI 12 (cA 0) pw), (bf, aD 12 (cA 1) fa), (bs, aD 12 (cA 1) sa), (bv, aD 12 (cA 1) va)] sz) := by
  refine vx_ofW (cc := cX1_partOfCrossing) (maxL := 7) (ret := (some .int)) (by decide) rfl ?_
  intro p e s m args below meth c s₁ B hml hnt hv
  obtain ⟨rfl, hsz, hP, hK, hD0, hE⟩ := hv
  subst hsz
  have hD := hD0.self (sz := s.heap.size)
  generalize hAe : va_A [(ax, .inr (1, [.ref ab, .ref aw, .int wl, .double la, .double ea, .int wk, .int fl])), (bb, .inr (0, [.int st, .double oL, .double oN, .double oE, .double oW, .int (nI k), .ref bp, .ref bf, .ref bs, .ref bv])), (bp, aI 12 (cA 0) pw), (bf, aD 12 (cA 1) fa), (bs, aD 12 (cA 1) sa), (bv, aD 12 (cA 1) va)] s.heap.size = A at hD hE ⊢
  have hA : ∀ q : Nat, s.heap.size ≤ q → A q := fun q h => by rw [← hAe]; exact Or.inr h
  have hS : va_S A s.heap s.heap [] := va_S.rf
  have hP : va_P (dC, dI) vwCl [(ax, .inr (1, [.ref ab, .ref aw, .int wl, .double la, .double ea, .int wk, .int fl])), (bb, .inr (0, [.int st, .double oL, .double oN, .double oE, .double oW, .int (nI k), .ref bp, .ref bf, .ref bs, .ref bv])), (bp, aI 12 (cA 0) pw), (bf, aD 12 (cA 1) fa), (bs, aD 12 (cA 1) sa), (bv, aD 12 (cA 1) va)] s.heap := hP
  have hx := B.exec
  have hb := B.bytes
  have hr := B.returns
  have hts := atoms_spec (ws := wsX1_partOfCrossing) B.pre
  have hown : s.vm.findClass RX1 = some m.cls := findClass_of_methodNamed B.named
  have hlocks := B.notSynchronized
  have hl := lv_entry ([.ref ax, .ref bb, .int x2, .int x3]) (n := 7) (Nat.le_of_ble_eq_true rfl)
  rw [lg_entry_eq]
  generalize (lg_sl ([.ref ax, .ref bb, .int x2, .int x3]) ++ List.replicate (7 - (lg_sl ([.ref ax, .ref bb, .int x2, .int x3])).length) Slot.unset).toArray = ls at hl ⊢
  have hl : lv_has ls 7 [(0, .ref ax), (1, .ref bb), (2, .int x2), (3, .int x3)] := hl
  refine W.gen (fun QQ hQQ => ?_)

  have hloop25 : ∀ (n : Nat) (j : Nat) (ub : Int32), 18 - j ≤ n → j ≤ 17 → PCR (HEI la ea oL oN oE oW k pw fa sa va) x2 x3 = addc j (pcL (HEI la ea oL oN oE oW k pw fa sa va) x2 x3 (17 - j) ub j) → ∀ (H : Heap) (locs : List Loc) (ls : Array Slot), va_P (dC, dI) vwCl [(ax, .inr (1, [.ref ab, .ref aw, .int wl, .double la, .double ea, .int (wk + nI j), .int fl])), (bb, .inr (0, [.int st, .double oL, .double oN, .double oE, .double oW, .int (nI k), .ref bp, .ref bf, .ref bs, .ref bv])), (bp, aI 12 (cA 0) pw), (bf, aD 12 (cA 1) fa), (bs, aD 12 (cA 1) sa), (bv, aD 12 (cA 1) va)] H → va_D A [(ax, .inr (1, [.ref ab, .ref aw, .int wl, .double la, .double ea, .int (wk + nI j), .int fl])), (bb, .inr (0, [.int st, .double oL, .double oN, .double oE, .double oW, .int (nI k), .ref bp, .ref bf, .ref bs, .ref bv])), (bp, aI 12 (cA 0) pw), (bf, aD 12 (cA 1) fa), (bs, aD 12 (cA 1) sa), (bv, aD 12 (cA 1) va)] → va_S A s.heap H locs → lv_has ls 7 [(0, .ref ax), (1, .ref bb), (2, .int x2), (3, .int x3), (4, .int ub), (5, .int (nI j))] → W p l e (headSpec wsX1_partOfCrossing ({ frames := 9, cells := 17, slots := 102, locals := 178 })).room s m ([.ref ax, .ref bb, .int x2, .int x3] : List Value).toArray below meth c H locs (j) (6 * j) QQ (F0 m 25 ls []) := by
    intro n
    induction n with
    | zero =>
      intro j ub hf hj hQ
      exact absurd hf (by omega)
    | succ n ih =>
      intro j ub hf hj hQ H locs ls hP hD hS hl
      refine lv_iload hx hb dX1_partOfCrossing_25 (lv_at hl 5 rfl) ?_
      refine lv_bipush (v := 16) hx hb dX1_partOfCrossing_27 (by decide) ?_
      refine lv_icmp_gt (tgt := 80) hx hb dX1_partOfCrossing_29 (by decide) (fun c_1 => ?_) (fun c_1 => ?_)
      · have hj9 : j = 17 := by
          rcases Nat.lt_or_ge j 17 with h9 | h9
          · exact absurd c_1 (nI_le16 (by omega))
          · omega
        have e0 : PCR (HEI la ea oL oN oE oW k pw fa sa va) x2 x3 = (j, .ok (-1)) := by rw [hQ, hj9]; rfl
        have hP : va_P (dC, dI) vwCl [(ax, .inr (1, [.ref ab, .ref aw, .int wl, .double la, .double ea, .int (wk + nI (PCR (HEI la ea oL oN oE oW k pw fa sa va) x2 x3).1), .int fl])), (bb, .inr (0, [.int st, .double oL, .double oN, .double oE, .double oW, .int (nI k), .ref bp, .ref bf, .ref bs, .ref bv])), (bp, aI 12 (cA 0) pw), (bf, aD 12 (cA 1) fa), (bs, aD 12 (cA 1) sa), (bv, aD 12 (cA 1) va)] H := by rw [e0]; simp only; skip; exact hP
        have hD : va_D A [(ax, .inr (1, [.ref ab, .ref aw, .int wl, .double la, .double ea, .int (wk + nI (PCR (HEI la ea oL oN oE oW k pw fa sa va) x2 x3).1), .int fl])), (bb, .inr (0, [.int st, .double oL, .double oN, .double oE, .double oW, .int (nI k), .ref bp, .ref bf, .ref bs, .ref bv])), (bp, aI 12 (cA 0) pw), (bf, aD 12 (cA 1) fa), (bs, aD 12 (cA 1) sa), (bv, aD 12 (cA 1) va)] := by rw [e0]; simp only; skip; exact hD
        refine lv_iconst (v := -1) hx hb dX1_partOfCrossing_80 (by decide) ?_
        subst hQQ
        refine W.widen (k := 17) (n := 102) ((show j ≤ 17 by omega)) ((show 6 * j ≤ 102 by omega)) ?_
        exact vx_ret (W.iret hx hb hr (fun t ht hW => ⟨⟨_, (), rfl, (by rw [e0] <;> rfl), ⟨by rw [ht]; exact hP, hD⟩⟩, hS.F ht⟩) hS.2.2 dX1_partOfCrossing_81)
      · have hj6 := nI_gt_ (b := 16) (n := 16) rfl (by omega) c_1
        refine lv_aload_n hx hb dX1_partOfCrossing_32 rfl (lv_at hl 0 rfl) ?_
        refine lv_aload_n hx hb dX1_partOfCrossing_33 rfl (lv_at hl 1 rfl) ?_
        refine lv_iload_n hx hb dX1_partOfCrossing_34 rfl (lv_at hl 2 rfl) ?_
        refine lv_iload hx hb dX1_partOfCrossing_35 (lv_at hl 5 rfl) ?_
        refine vp_callSd (W.runS (As := [.int x2, .int (nI j)]) (rest := [.ref bb, .ref ax]) ⟨hx, hb, hml, hown, hts⟩ (k_X1_timeOfPart l x2 (nI j)) (va_cwS 2 hts gX1_partOfCrossing_X1_timeOfPart rfl rfl rfl (by decide +kernel) ⟨Nat.le_of_ble_eq_true rfl, Nat.le_of_ble_eq_true rfl⟩) preEq rfl rfl hl.1 rfl (lv_room (Nat.le_of_ble_eq_true rfl)) dX1_partOfCrossing_37 ⟨(show j ≤ 17 by omega), (show 6 * j ≤ 102 by omega)⟩) (fun r hr9 => ?_)
        obtain rfl := hr9
        have hPc := hP.sub (ws' := [(ax, .inr (1, [.ref ab, .ref aw, .int wl, .double la, .double ea, .int (wk + nI j), .int fl])), (bb, .inr (0, [.int st, .double oL, .double oN, .double oE, .double oW, .int (nI k), .ref bp, .ref bf, .ref bs, .ref bv])), (bp, aI 12 (cA 0) pw), (bf, aD 12 (cA 1) fa), (bs, aD 12 (cA 1) sa), (bv, aD 12 (cA 1) va)]) [0, 1, 2, 3, 4, 5] rfl
        have hDc := hD.sub (ws' := [(ax, .inr (1, [.ref ab, .ref aw, .int wl, .double la, .double ea, .int (wk + nI j), .int fl])), (bb, .inr (0, [.int st, .double oL, .double oN, .double oE, .double oW, .int (nI k), .ref bp, .ref bf, .ref bs, .ref bv])), (bp, aI 12 (cA 0) pw), (bf, aD 12 (cA 1) fa), (bs, aD 12 (cA 1) sa), (bv, aD 12 (cA 1) va)]) [0, 1, 2, 3, 4, 5] (by decide) rfl
        have hFc := va_free (wc := [(ax, .inr (1, [.ref ab, .ref aw, .int wl, .double la, .double ea, .int (wk + nI j), .int fl])), (bb, .inr (0, [.int st, .double oL, .double oN, .double oE, .double oW, .int (nI k), .ref bp, .ref bf, .ref bs, .ref bv])), (bp, aI 12 (cA 0) pw), (bf, aD 12 (cA 1) fa), (bs, aD 12 (cA 1) sa), (bv, aD 12 (cA 1) va)]) hD hS hA [0, 1, 2, 3, 4, 5] rfl
        refine vx_calld (vx_runV (As := [.ref bb, .double (f_X1_timeOfPart x2 (nI j))]) (rest := []) ⟨hx, hb, hml, hown, hts⟩ (k_X1_heightOf l hst dC dI cA tm tt _ ax ab aw wl la ea (wk + nI j) fl bb bp bf bs bv st oL oN oE oW k pw fa sa va (f_X1_timeOfPart x2 (nI j)) hO hT hla hea (fR_mono (top_R hd (nI_b (show j ≤ 16 by omega))) (by omega) (by omega))) (cwV 2 hts gX1_partOfCrossing_X1_heightOf rfl rfl rfl (by decide +kernel) ⟨Nat.le_of_ble_eq_true rfl, Nat.le_of_ble_eq_true rfl⟩) ⟨PcW.blind, va_recv hK hPc (ci := 1) (q0 := 0) rfl rfl, PcW.give hPc hK hDc hE hS hFc⟩ rfl rfl hl.1 rfl (lv_room (Nat.le_of_ble_eq_true rfl)) dX1_partOfCrossing_40 ⟨(show j + 1 ≤ 17 by omega), (show 6 * j + 6 ≤ 102 by omega)⟩) hS (fun q _ h => hFc q h) hFc (fun q _ h => hFc q h) (fun E ce q9 u t H locs ht hvm hpx hBX hz1 hk1 hS hce hcv hcl => ?_) (fun v_2 u t H locs ht hvm hp_3 hB hz1 hk1 hS => ?_)
        · obtain ⟨hpx, hP1, hD1⟩ := hBX
          rw [ht] at hP1
          obtain ⟨hP, hD⟩ := va_join (wr := []) (w1 := [(ax, .inr (1, [.ref ab, .ref aw, .int wl, .double la, .double ea, .int ((wk + nI j) + 1), .int (fl + 1)])), (bb, .inr (0, [.int st, .double oL, .double oN, .double oE, .double oW, .int (nI k), .ref bp, .ref bf, .ref bs, .ref bv])), (bp, aI 12 (cA 0) pw), (bf, aD 12 (cA 1) fa), (bs, aD 12 (cA 1) sa), (bv, aD 12 (cA 1) va)]) hP hD [0, 1, 2, 3, 4, 5] [] rfl rfl (by decide) (by decide) hk1 hFc hP1 hD1
          have hP := hP.sub (ws' := [(ax, .inr (1, [.ref ab, .ref aw, .int wl, .double la, .double ea, .int ((wk + nI j) + 1), .int (fl + 1)])), (bb, .inr (0, [.int st, .double oL, .double oN, .double oE, .double oW, .int (nI k), .ref bp, .ref bf, .ref bs, .ref bv])), (bp, aI 12 (cA 0) pw), (bf, aD 12 (cA 1) fa), (bs, aD 12 (cA 1) sa), (bv, aD 12 (cA 1) va)]) [0, 1, 2, 3, 4, 5] rfl
          have hD := hD.sub (ws' := [(ax, .inr (1, [.ref ab, .ref aw, .int wl, .double la, .double ea, .int ((wk + nI j) + 1), .int (fl + 1)])), (bb, .inr (0, [.int st, .double oL, .double oN, .double oE, .double oW, .int (nI k), .ref bp, .ref bf, .ref bs, .ref bv])), (bp, aI 12 (cA 0) pw), (bf, aD 12 (cA 1) fa), (bs, aD 12 (cA 1) sa), (bv, aD 12 (cA 1) va)]) [0, 1, 2, 3, 4, 5] (by decide) rfl
          have e0 : PCR (HEI la ea oL oN oE oW k pw fa sa va) x2 x3 = (j + 1, .error E) := by rw [hQ, pcL_e (show j < 17 by omega) hpx]; rfl
          have hP : va_P (dC, dI) vwCl [(ax, .inr (1, [.ref ab, .ref aw, .int wl, .double la, .double ea, .int (wk + nI (PCR (HEI la ea oL oN oE oW k pw fa sa va) x2 x3).1), .int (fl + 1)])), (bb, .inr (0, [.int st, .double oL, .double oN, .double oE, .double oW, .int (nI k), .ref bp, .ref bf, .ref bs, .ref bv])), (bp, aI 12 (cA 0) pw), (bf, aD 12 (cA 1) fa), (bs, aD 12 (cA 1) sa), (bv, aD 12 (cA 1) va)] H := by rw [e0]; simp only; rw [wk_s]; exact hP
          have hD : va_D A [(ax, .inr (1, [.ref ab, .ref aw, .int wl, .double la, .double ea, .int (wk + nI (PCR (HEI la ea oL oN oE oW k pw fa sa va) x2 x3).1), .int (fl + 1)])), (bb, .inr (0, [.int st, .double oL, .double oN, .double oE, .double oW, .int (nI k), .ref bp, .ref bf, .ref bs, .ref bv])), (bp, aI 12 (cA 0) pw), (bf, aD 12 (cA 1) fa), (bs, aD 12 (cA 1) sa), (bv, aD 12 (cA 1) va)] := by rw [e0]; simp only; rw [wk_s]; exact hD
          subst hQQ
          exact vx_out (fun x hx9 => (hnt x hx9).elim) hlocks hce hcv hcl (fun t ht hvm => ⟨(), trivial, ⟨(by rw [e0] <;> rfl), by rw [ht]; exact hP, hD⟩, hS.F ht⟩) hS.2.2 ((show j + 1 ≤ 17 by omega)) ((show 6 * j + 6 ≤ 102 by omega))
        · obtain ⟨hP1, hD1⟩ := hB
          rw [ht] at hP1
          obtain ⟨hP, hD⟩ := va_join (wr := []) (w1 := [(ax, .inr (1, [.ref ab, .ref aw, .int wl, .double la, .double ea, .int ((wk + nI j) + 1), .int fl])), (bb, .inr (0, [.int st, .double oL, .double oN, .double oE, .double oW, .int (nI k), .ref bp, .ref bf, .ref bs, .ref bv])), (bp, aI 12 (cA 0) pw), (bf, aD 12 (cA 1) fa), (bs, aD 12 (cA 1) sa), (bv, aD 12 (cA 1) va)]) hP hD [0, 1, 2, 3, 4, 5] [] rfl rfl (by decide) (by decide) hk1 hFc hP1 hD1
          have hP := hP.sub (ws' := [(ax, .inr (1, [.ref ab, .ref aw, .int wl, .double la, .double ea, .int ((wk + nI j) + 1), .int fl])), (bb, .inr (0, [.int st, .double oL, .double oN, .double oE, .double oW, .int (nI k), .ref bp, .ref bf, .ref bs, .ref bv])), (bp, aI 12 (cA 0) pw), (bf, aD 12 (cA 1) fa), (bs, aD 12 (cA 1) sa), (bv, aD 12 (cA 1) va)]) [0, 1, 2, 3, 4, 5] rfl
          have hD := hD.sub (ws' := [(ax, .inr (1, [.ref ab, .ref aw, .int wl, .double la, .double ea, .int ((wk + nI j) + 1), .int fl])), (bb, .inr (0, [.int st, .double oL, .double oN, .double oE, .double oW, .int (nI k), .ref bp, .ref bf, .ref bs, .ref bv])), (bp, aI 12 (cA 0) pw), (bf, aD 12 (cA 1) fa), (bs, aD 12 (cA 1) sa), (bv, aD 12 (cA 1) va)]) [0, 1, 2, 3, 4, 5] (by decide) rfl
          have hP : va_P (dC, dI) vwCl [(ax, .inr (1, [.ref ab, .ref aw, .int wl, .double la, .double ea, .int (wk + nI (j + 1)), .int fl])), (bb, .inr (0, [.int st, .double oL, .double oN, .double oE, .double oW, .int (nI k), .ref bp, .ref bf, .ref bs, .ref bv])), (bp, aI 12 (cA 0) pw), (bf, aD 12 (cA 1) fa), (bs, aD 12 (cA 1) sa), (bv, aD 12 (cA 1) va)] H := by rw [wk_s]; exact hP
          have hD : va_D A [(ax, .inr (1, [.ref ab, .ref aw, .int wl, .double la, .double ea, .int (wk + nI (j + 1)), .int fl])), (bb, .inr (0, [.int st, .double oL, .double oN, .double oE, .double oW, .int (nI k), .ref bp, .ref bf, .ref bs, .ref bv])), (bp, aI 12 (cA 0) pw), (bf, aD 12 (cA 1) fa), (bs, aD 12 (cA 1) sa), (bv, aD 12 (cA 1) va)] := by rw [wk_s]; exact hD
          refine lv_dconst0 hx hb dX1_partOfCrossing_43 ?_
          have r_4 : fR FP.dconst0 0 0 := fR_lit (by decide +kernel)
          refine zd_l_lt (tgt := 52) hx hb dX1_partOfCrossing_44 dX1_partOfCrossing_45 (by decide) (fun c_5 => ?_) (fun c_5 => ?_)
          · refine lv_iconst (v := 0) hx hb dX1_partOfCrossing_52 (by decide) ?_
            rw [show (Value.int 0) = Value.int (UP v_2) from congrArg Value.int (UP_0 c_5)]
            refine lv_istore (lv' := [(6, .int (UP v_2)), (0, .ref ax), (1, .ref bb), (2, .int x2), (3, .int x3), (4, .int ub), (5, .int (nI j))]) hx hb dX1_partOfCrossing_53 hl (by decide) rfl (fun ls hl => ?_)
            refine lv_iload hx hb dX1_partOfCrossing_55 (lv_at hl 0 rfl) ?_
            refine lv_iload_n hx hb dX1_partOfCrossing_57 rfl (lv_at hl 4 rfl) ?_
            refine lv_icmp_ne (tgt := 70) hx hb dX1_partOfCrossing_58 (by decide) (fun c_6 => ?_) (fun c_6 => ?_)
            · refine lv_iload hx hb dX1_partOfCrossing_70 (lv_at hl 0 rfl) ?_
              refine lv_istore (lv' := [(4, .int (UP v_2)), (6, .int (UP v_2)), (0, .ref ax), (1, .ref bb), (2, .int x2), (3, .int x3), (5, .int (nI j))]) hx hb dX1_partOfCrossing_72 hl (by decide) rfl (fun ls hl => ?_)
              refine lv_iinc (v := nI (j + 1)) (lv' := [(5, .int (nI (j + 1))), (4, .int (UP v_2)), (6, .int (UP v_2)), (0, .ref ax), (1, .ref bb), (2, .int x2), (3, .int x3)]) hx hb dX1_partOfCrossing_74 hl (k := 6) rfl (nI_1 _) (by decide) rfl (fun ls hl => ?_)
              refine lv_goto (tgt := 25) hx hb dX1_partOfCrossing_77 (by decide) ?_
              refine W.widen (k := (j + 1)) (n := 6 * (j + 1)) (by omega) (by omega) ?_
              exact ih (j + 1) (UP v_2) (by omega) (by omega) (by rw [hQ, pcL_go1 (show j < 17 by omega) hp_3 c_6, addc_addc]) _ _ _ hP hD hS (lv_sub hl [3, 4, 5, 6, 1, 0] rfl)
            · refine lv_iload hx hb dX1_partOfCrossing_61 (lv_at hl 5 rfl) ?_
              refine lv_iload_n hx hb dX1_partOfCrossing_63 rfl (lv_at hl 4 rfl) ?_
              refine lv_icmp_eq (tgt := 70) hx hb dX1_partOfCrossing_64 (by decide) (fun c_7 => ?_) (fun c_7 => ?_)
              · refine lv_iload hx hb dX1_partOfCrossing_70 (lv_at hl 0 rfl) ?_
                refine lv_istore (lv' := [(4, .int (UP v_2)), (6, .int (UP v_2)), (0, .ref ax), (1, .ref bb), (2, .int x2), (3, .int x3), (5, .int (nI j))]) hx hb dX1_partOfCrossing_72 hl (by decide) rfl (fun ls hl => ?_)
                refine lv_iinc (v := nI (j + 1)) (lv' := [(5, .int (nI (j + 1))), (4, .int (UP v_2)), (6, .int (UP v_2)), (0, .ref ax), (1, .ref bb), (2, .int x2), (3, .int x3)]) hx hb dX1_partOfCrossing_74 hl (k := 6) rfl (nI_1 _) (by decide) rfl (fun ls hl => ?_)
                refine lv_goto (tgt := 25) hx hb dX1_partOfCrossing_77 (by decide) ?_
                refine W.widen (k := (j + 1)) (n := 6 * (j + 1)) (by omega) (by omega) ?_
                exact ih (j + 1) (UP v_2) (by omega) (by omega) (by rw [hQ, pcL_go2 (show j < 17 by omega) hp_3 c_7, addc_addc]) _ _ _ hP hD hS (lv_sub hl [3, 4, 5, 6, 1, 0] rfl)
              · have e0 : PCR (HEI la ea oL oN oE oW k pw fa sa va) x2 x3 = (j + 1, .ok (nI j)) := by rw [hQ, pcL_hit (show j < 17 by omega) hp_3 c_6 c_7]; rfl
                have hP : va_P (dC, dI) vwCl [(ax, .inr (1, [.ref ab, .ref aw, .int wl, .double la, .double ea, .int (wk + nI (PCR (HEI la ea oL oN oE oW k pw fa sa va) x2 x3).1), .int fl])), (bb, .inr (0, [.int st, .double oL, .double oN, .double oE, .double oW, .int (nI k), .ref bp, .ref bf, .ref bs, .ref bv])), (bp, aI 12 (cA 0) pw), (bf, aD 12 (cA 1) fa), (bs, aD 12 (cA 1) sa), (bv, aD 12 (cA 1) va)] H := by rw [e0]; simp only; skip; exact hP
                have hD : va_D A [(ax, .inr (1, [.ref ab, .ref aw, .int wl, .double la, .double ea, .int (wk + nI (PCR (HEI la ea oL oN oE oW k pw fa sa va) x2 x3).1), .int fl])), (bb, .inr (0, [.int st, .double oL, .double oN, .double oE, .double oW, .int (nI k), .ref bp, .ref bf, .ref bs, .ref bv])), (bp, aI 12 (cA 0) pw), (bf, aD 12 (cA 1) fa), (bs, aD 12 (cA 1) sa), (bv, aD 12 (cA 1) va)] := by rw [e0]; simp only; skip; exact hD
                refine lv_iload hx hb dX1_partOfCrossing_67 (lv_at hl 6 rfl) ?_
                subst hQQ
                refine W.widen (k := 17) (n := 102) ((show j + 1 ≤ 17 by omega)) ((show 6 * j + 6 ≤ 102 by omega)) ?_
                exact vx_ret (W.iret hx hb hr (fun t ht hW => ⟨⟨_, (), rfl, (by rw [e0] <;> rfl), ⟨by rw [ht]; exact hP, hD⟩⟩, hS.F ht⟩) hS.2.2 dX1_partOfCrossing_69)
          · refine lv_iconst (v := 1) hx hb dX1_partOfCrossing_48 (by decide) ?_
            refine lv_goto (tgt := 53) hx hb dX1_partOfCrossing_49 (by decide) ?_
            rw [show (Value.int 1) = Value.int (UP v_2) from congrArg Value.int (UP_1 c_5)]
            refine lv_istore (lv' := [(6, .int (UP v_2)), (0, .ref ax), (1, .ref bb), (2, .int x2), (3, .int x3), (4, .int ub), (5, .int (nI j))]) hx hb dX1_partOfCrossing_53 hl (by decide) rfl (fun ls hl => ?_)
            refine lv_iload hx hb dX1_partOfCrossing_55 (lv_at hl 0 rfl) ?_
            refine lv_iload_n hx hb dX1_partOfCrossing_57 rfl (lv_at hl 4 rfl) ?_
            refine lv_icmp_ne (tgt := 70) hx hb dX1_partOfCrossing_58 (by decide) (fun c_8 => ?_) (fun c_8 => ?_)
            · refine lv_iload hx hb dX1_partOfCrossing_70 (lv_at hl 0 rfl) ?_
              refine lv_istore (lv' := [(4, .int (UP v_2)), (6, .int (UP v_2)), (0, .ref ax), (1, .ref bb), (2, .int x2), (3, .int x3), (5, .int (nI j))]) hx hb dX1_partOfCrossing_72 hl (by decide) rfl (fun ls hl => ?_)
              refine lv_iinc (v := nI (j + 1)) (lv' := [(5, .int (nI (j + 1))), (4, .int (UP v_2)), (6, .int (UP v_2)), (0, .ref ax), (1, .ref bb), (2, .int x2), (3, .int x3)]) hx hb dX1_partOfCrossing_74 hl (k := 6) rfl (nI_1 _) (by decide) rfl (fun ls hl => ?_)
              refine lv_goto (tgt := 25) hx hb dX1_partOfCrossing_77 (by decide) ?_
              refine W.widen (k := (j + 1)) (n := 6 * (j + 1)) (by omega) (by omega) ?_
              exact ih (j + 1) (UP v_2) (by omega) (by omega) (by rw [hQ, pcL_go1 (show j < 17 by omega) hp_3 c_8, addc_addc]) _ _ _ hP hD hS (lv_sub hl [3, 4, 5, 6, 1, 0] rfl)
            · refine lv_iload hx hb dX1_partOfCrossing_61 (lv_at hl 5 rfl) ?_
              refine lv_iload_n hx hb dX1_partOfCrossing_63 rfl (lv_at hl 4 rfl) ?_
              refine lv_icmp_eq (tgt := 70) hx hb dX1_partOfCrossing_64 (by decide) (fun c_9 => ?_) (fun c_9 => ?_)
              · refine lv_iload hx hb dX1_partOfCrossing_70 (lv_at hl 0 rfl) ?_
                refine lv_istore (lv' := [(4, .int (UP v_2)), (6, .int (UP v_2)), (0, .ref ax), (1, .ref bb), (2, .int x2), (3, .int x3), (5, .int (nI j))]) hx hb dX1_partOfCrossing_72 hl (by decide) rfl (fun ls hl => ?_)
                refine lv_iinc (v := nI (j + 1)) (lv' := [(5, .int (nI (j + 1))), (4, .int (UP v_2)), (6, .int (UP v_2)), (0, .ref ax), (1, .ref bb), (2, .int x2), (3, .int x3)]) hx hb dX1_partOfCrossing_74 hl (k := 6) rfl (nI_1 _) (by decide) rfl (fun ls hl => ?_)
                refine lv_goto (tgt := 25) hx hb dX1_partOfCrossing_77 (by decide) ?_
                refine W.widen (k := (j + 1)) (n := 6 * (j + 1)) (by omega) (by omega) ?_
                exact ih (j + 1) (UP v_2) (by omega) (by omega) (by rw [hQ, pcL_go2 (show j < 17 by omega) hp_3 c_9, addc_addc]) _ _ _ hP hD hS (lv_sub hl [3, 4, 5, 6, 1, 0] rfl)
              · have e0 : PCR (HEI la ea oL oN oE oW k pw fa sa va) x2 x3 = (j + 1, .ok (nI j)) := by rw [hQ, pcL_hit (show j < 17 by omega) hp_3 c_8 c_9]; rfl
                have hP : va_P (dC, dI) vwCl [(ax, .inr (1, [.ref ab, .ref aw, .int wl, .double la, .double ea, .int (wk + nI (PCR (HEI la ea oL oN oE oW k pw fa sa va) x2 x3).1), .int fl])), (bb, .inr (0, [.int st, .double oL, .double oN, .double oE, .double oW, .int (nI k), .ref bp, .ref bf, .ref bs, .ref bv])), (bp, aI 12 (cA 0) pw), (bf, aD 12 (cA 1) fa), (bs, aD 12 (cA 1) sa), (bv, aD 12 (cA 1) va)] H := by rw [e0]; simp only; skip; exact hP
                have hD : va_D A [(ax, .inr (1, [.ref ab, .ref aw, .int wl, .double la, .double ea, .int (wk + nI (PCR (HEI la ea oL oN oE oW k pw fa sa va) x2 x3).1), .int fl])), (bb, .inr (0, [.int st, .double oL, .double oN, .double oE, .double oW, .int (nI k), .ref bp, .ref bf, .ref bs, .ref bv])), (bp, aI 12 (cA 0) pw), (bf, aD 12 (cA 1) fa), (bs, aD 12 (cA 1) sa), (bv, aD 12 (cA 1) va)] := by rw [e0]; simp only; skip; exact hD
                refine lv_iload hx hb dX1_partOfCrossing_67 (lv_at hl 6 rfl) ?_
                subst hQQ
                refine W.widen (k := 17) (n := 102) ((show j + 1 ≤ 17 by omega)) ((show 6 * j + 6 ≤ 102 by omega)) ?_
                exact vx_ret (W.iret hx hb hr (fun t ht hW => ⟨⟨_, (), rfl, (by rw [e0] <;> rfl), ⟨by rw [ht]; exact hP, hD⟩⟩, hS.F ht⟩) hS.2.2 dX1_partOfCrossing_69)
  refine lv_aload_n hx hb dX1_partOfCrossing_0 rfl (lv_at hl 0 rfl) ?_
  refine lv_aload_n hx hb dX1_partOfCrossing_1 rfl (lv_at hl 1 rfl) ?_
  refine lv_iload_n hx hb dX1_partOfCrossing_2 rfl (lv_at hl 2 rfl) ?_
  refine lv_iconst (v := 0) hx hb dX1_partOfCrossing_3 (by decide) ?_
  refine vp_callSd (W.runS (As := [.int x2, .int 0]) (rest := [.ref bb, .ref ax]) ⟨hx, hb, hml, hown, hts⟩ (k_X1_timeOfPart l x2 0) (va_cwS 2 hts gX1_partOfCrossing_X1_timeOfPart rfl rfl rfl (by decide +kernel) ⟨Nat.le_of_ble_eq_true rfl, Nat.le_of_ble_eq_true rfl⟩) preEq rfl rfl hl.1 rfl (lv_room (Nat.le_of_ble_eq_true rfl)) dX1_partOfCrossing_4 ⟨Nat.le_of_ble_eq_true rfl, Nat.le_of_ble_eq_true rfl⟩) (fun r hr9 => ?_)
  obtain rfl := hr9
  have hPc := hP.sub (ws' := [(ax, .inr (1, [.ref ab, .ref aw, .int wl, .double la, .double ea, .int wk, .int fl])), (bb, .inr (0, [.int st, .double oL, .double oN, .double oE, .double oW, .int (nI k), .ref bp, .ref bf, .ref bs, .ref bv])), (bp, aI 12 (cA 0) pw), (bf, aD 12 (cA 1) fa), (bs, aD 12 (cA 1) sa), (bv, aD 12 (cA 1) va)]) [0, 1, 2, 3, 4, 5] rfl
  have hDc := hD.sub (ws' := [(ax, .inr (1, [.ref ab, .ref aw, .int wl, .double la, .double ea, .int wk, .int fl])), (bb, .inr (0, [.int st, .double oL, .double oN, .double oE, .double oW, .int (nI k), .ref bp, .ref bf, .ref bs, .ref bv])), (bp, aI 12 (cA 0) pw), (bf, aD 12 (cA 1) fa), (bs, aD 12 (cA 1) sa), (bv, aD 12 (cA 1) va)]) [0, 1, 2, 3, 4, 5] (by decide) rfl
  have hFc := va_free (wc := [(ax, .inr (1, [.ref ab, .ref aw, .int wl, .double la, .double ea, .int wk, .int fl])), (bb, .inr (0, [.int st, .double oL, .double oN, .double oE, .double oW, .int (nI k), .ref bp, .ref bf, .ref bs, .ref bv])), (bp, aI 12 (cA 0) pw), (bf, aD 12 (cA 1) fa), (bs, aD 12 (cA 1) sa), (bv, aD 12 (cA 1) va)]) hD hS hA [0, 1, 2, 3, 4, 5] rfl
  refine vx_calld (vx_runV (As := [.ref bb, .double (f_X1_timeOfPart x2 0)]) (rest := []) ⟨hx, hb, hml, hown, hts⟩ (k_X1_heightOf l hst dC dI cA tm tt _ ax ab aw wl la ea wk fl bb bp bf bs bv st oL oN oE oW k pw fa sa va (f_X1_timeOfPart x2 0) hO hT hla hea (fR_mono (top_R hd ⟨by decide, by decide⟩) (by omega) (by omega))) (cwV 2 hts gX1_partOfCrossing_X1_heightOf rfl rfl rfl (by decide +kernel) ⟨Nat.le_of_ble_eq_true rfl, Nat.le_of_ble_eq_true rfl⟩) ⟨PcW.blind, va_recv hK hPc (ci := 1) (q0 := 0) rfl rfl, PcW.give hPc hK hDc hE hS hFc⟩ rfl rfl hl.1 rfl (lv_room (Nat.le_of_ble_eq_true rfl)) dX1_partOfCrossing_7 ⟨Nat.le_of_ble_eq_true rfl, Nat.le_of_ble_eq_true rfl⟩) hS (fun q _ h => hFc q h) hFc (fun q _ h => hFc q h) (fun E ce q9 u t H locs ht hvm hpx hBX hz1 hk1 hS hce hcv hcl => ?_) (fun v_10 u t H locs ht hvm hp_11 hB hz1 hk1 hS => ?_)
  · obtain ⟨hpx, hP1, hD1⟩ := hBX
    rw [ht] at hP1
    obtain ⟨hP, hD⟩ := va_join (wr := []) (w1 := [(ax, .inr (1, [.ref ab, .ref aw, .int wl, .double la, .double ea, .int (wk + 1), .int (fl + 1)])), (bb, .inr (0, [.int st, .double oL, .double oN, .double oE, .double oW, .int (nI k), .ref bp, .ref bf, .ref bs, .ref bv])), (bp, aI 12 (cA 0) pw), (bf, aD 12 (cA 1) fa), (bs, aD 12 (cA 1) sa), (bv, aD 12 (cA 1) va)]) hP hD [0, 1, 2, 3, 4, 5] [] rfl rfl (by decide) (by decide) hk1 hFc hP1 hD1
    have hP := hP.sub (ws' := [(ax, .inr (1, [.ref ab, .ref aw, .int wl, .double la, .double ea, .int (wk + 1), .int (fl + 1)])), (bb, .inr (0, [.int st, .double oL, .double oN, .double oE, .double oW, .int (nI k), .ref bp, .ref bf, .ref bs, .ref bv])), (bp, aI 12 (cA 0) pw), (bf, aD 12 (cA 1) fa), (bs, aD 12 (cA 1) sa), (bv, aD 12 (cA 1) va)]) [0, 1, 2, 3, 4, 5] rfl
    have hD := hD.sub (ws' := [(ax, .inr (1, [.ref ab, .ref aw, .int wl, .double la, .double ea, .int (wk + 1), .int (fl + 1)])), (bb, .inr (0, [.int st, .double oL, .double oN, .double oE, .double oW, .int (nI k), .ref bp, .ref bf, .ref bs, .ref bv])), (bp, aI 12 (cA 0) pw), (bf, aD 12 (cA 1) fa), (bs, aD 12 (cA 1) sa), (bv, aD 12 (cA 1) va)]) [0, 1, 2, 3, 4, 5] (by decide) rfl
    have e0 : PCR (HEI la ea oL oN oE oW k pw fa sa va) x2 x3 = (1, .error E) := PCR_e hpx
    have hP : va_P (dC, dI) vwCl [(ax, .inr (1, [.ref ab, .ref aw, .int wl, .double la, .double ea, .int (wk + nI (PCR (HEI la ea oL oN oE oW k pw fa sa va) x2 x3).1), .int (fl + 1)])), (bb, .inr (0, [.int st, .double oL, .double oN, .double oE, .double oW, .int (nI k), .ref bp, .ref bf, .ref bs, .ref bv])), (bp, aI 12 (cA 0) pw), (bf, aD 12 (cA 1) fa), (bs, aD 12 (cA 1) sa), (bv, aD 12 (cA 1) va)] H := by rw [e0]; simp only; rw [wk_1]; exact hP
    have hD : va_D A [(ax, .inr (1, [.ref ab, .ref aw, .int wl, .double la, .double ea, .int (wk + nI (PCR (HEI la ea oL oN oE oW k pw fa sa va) x2 x3).1), .int (fl + 1)])), (bb, .inr (0, [.int st, .double oL, .double oN, .double oE, .double oW, .int (nI k), .ref bp, .ref bf, .ref bs, .ref bv])), (bp, aI 12 (cA 0) pw), (bf, aD 12 (cA 1) fa), (bs, aD 12 (cA 1) sa), (bv, aD 12 (cA 1) va)] := by rw [e0]; simp only; rw [wk_1]; exact hD
    subst hQQ
    exact vx_out (fun x hx9 => (hnt x hx9).elim) hlocks hce hcv hcl (fun t ht hvm => ⟨(), trivial, ⟨(by rw [e0] <;> rfl), by rw [ht]; exact hP, hD⟩, hS.F ht⟩) hS.2.2 (Nat.le_of_ble_eq_true rfl) (Nat.le_of_ble_eq_true rfl)
  · obtain ⟨hP1, hD1⟩ := hB
    rw [ht] at hP1
    obtain ⟨hP, hD⟩ := va_join (wr := []) (w1 := [(ax, .inr (1, [.ref ab, .ref aw, .int wl, .double la, .double ea, .int (wk + 1), .int fl])), (bb, .inr (0, [.int st, .double oL, .double oN, .double oE, .double oW, .int (nI k), .ref bp, .ref bf, .ref bs, .ref bv])), (bp, aI 12 (cA 0) pw), (bf, aD 12 (cA 1) fa), (bs, aD 12 (cA 1) sa), (bv, aD 12 (cA 1) va)]) hP hD [0, 1, 2, 3, 4, 5] [] rfl rfl (by decide) (by decide) hk1 hFc hP1 hD1
    have hP := hP.sub (ws' := [(ax, .inr (1, [.ref ab, .ref aw, .int wl, .double la, .double ea, .int (wk + 1), .int fl])), (bb, .inr (0, [.int st, .double oL, .double oN, .double oE, .double oW, .int (nI k), .ref bp, .ref bf, .ref bs, .ref bv])), (bp, aI 12 (cA 0) pw), (bf, aD 12 (cA 1) fa), (bs, aD 12 (cA 1) sa), (bv, aD 12 (cA 1) va)]) [0, 1, 2, 3, 4, 5] rfl
    have hD := hD.sub (ws' := [(ax, .inr (1, [.ref ab, .ref aw, .int wl, .double la, .double ea, .int (wk + 1), .int fl])), (bb, .inr (0, [.int st, .double oL, .double oN, .double oE, .double oW, .int (nI k), .ref bp, .ref bf, .ref bs, .ref bv])), (bp, aI 12 (cA 0) pw), (bf, aD 12 (cA 1) fa), (bs, aD 12 (cA 1) sa), (bv, aD 12 (cA 1) va)]) [0, 1, 2, 3, 4, 5] (by decide) rfl
    have hQ0 := PCR_o (rs := x3) hp_11
    have hP : va_P (dC, dI) vwCl [(ax, .inr (1, [.ref ab, .ref aw, .int wl, .double la, .double ea, .int (wk + nI 1), .int fl])), (bb, .inr (0, [.int st, .double oL, .double oN, .double oE, .double oW, .int (nI k), .ref bp, .ref bf, .ref bs, .ref bv])), (bp, aI 12 (cA 0) pw), (bf, aD 12 (cA 1) fa), (bs, aD 12 (cA 1) sa), (bv, aD 12 (cA 1) va)] H := by rw [wk_1]; exact hP
    have hD : va_D A [(ax, .inr (1, [.ref ab, .ref aw, .int wl, .double la, .double ea, .int (wk + nI 1), .int fl])), (bb, .inr (0, [.int st, .double oL, .double oN, .double oE, .double oW, .int (nI k), .ref bp, .ref bf, .ref bs, .ref bv])), (bp, aI 12 (cA 0) pw), (bf, aD 12 (cA 1) fa), (bs, aD 12 (cA 1) sa), (bv, aD 12 (cA 1) va)] := by rw [wk_1]; exact hD
    refine lv_dconst0 hx hb dX1_partOfCrossing_10 ?_
    have r_12 : fR FP.dconst0 0 0 := fR_lit (by decide +kernel)
    refine zd_l_lt (tgt := 19) hx hb dX1_partOfCrossing_11 dX1_partOfCrossing_12 (by decide) (fun c_13 => ?_) (fun c_13 => ?_)
    · refine lv_iconst (v := 0) hx hb dX1_partOfCrossing_19 (by decide) ?_
      rw [show (Value.int 0) = Value.int (UP v_10) from congrArg Value.int (UP_0 c_13)]
      refine lv_istore (lv' := [(4, .int (UP v_10)), (0, .ref ax), (1, .ref bb), (2, .int x2), (3, .int x3)]) hx hb dX1_partOfCrossing_20 hl (by decide) rfl (fun ls hl => ?_)
      refine lv_iconst (v := 1) hx hb dX1_partOfCrossing_22 (by decide) ?_
      refine lv_istore (lv' := [(5, .int (nI 1)), (4, .int (UP v_10)), (0, .ref ax), (1, .ref bb), (2, .int x2), (3, .int x3)]) hx hb dX1_partOfCrossing_23 hl (by decide) rfl (fun ls hl => ?_)
      refine W.widen (k := 1) (n := 6 * 1) (by omega) (by omega) ?_
      exact hloop25 18 1 _ (by decide) (by decide) hQ0 _ _ _ hP hD hS (lv_sub hl [2, 3, 4, 5, 1, 0] rfl)
    · refine lv_iconst (v := 1) hx hb dX1_partOfCrossing_15 (by decide) ?_
      refine lv_goto (tgt := 20) hx hb dX1_partOfCrossing_16 (by decide) ?_
      rw [show (Value.int 1) = Value.int (UP v_10) from congrArg Value.int (UP_1 c_13)]
      refine lv_istore (lv' := [(4, .int (UP v_10)), (0, .ref ax), (1, .ref bb), (2, .int x2), (3, .int x3)]) hx hb dX1_partOfCrossing_20 hl (by decide) rfl (fun ls hl => ?_)
      refine lv_iconst (v := 1) hx hb dX1_partOfCrossing_22 (by decide) ?_
      refine lv_istore (lv' := [(5, .int (nI 1)), (4, .int (UP v_10)), (0, .ref ax), (1, .ref bb), (2, .int x2), (3, .int x3)]) hx hb dX1_partOfCrossing_23 hl (by decide) rfl (fun ls hl => ?_)
      refine W.widen (k := 1) (n := 6 * 1) (by omega) (by omega) ?_
      exact hloop25 18 1 _ (by decide) (by decide) hQ0 _ _ _ hP hD hS (lv_sub hl [2, 3, 4, 5, 1, 0] rfl)

theorem p_1 {x : Int32} (h : 1 ≤ x.toInt ∧ x.toInt ≤ 16) : 0 ≤ (x - 1).toInt ∧ (x - 1).toInt ≤ 16 := by
  rw [s32 (by have : (1 : Int32).toInt = 1 := rfl
              omega) (by have : (1 : Int32).toInt = 1 := rfl
                         omega)]
  have : (1 : Int32).toInt = 1 := rfl
  omega
theorem p_2 {x : Int32} (h : 1 ≤ x.toInt ∧ x.toInt ≤ 16) : 0 ≤ x.toInt ∧ x.toInt ≤ 16 := by omega
theorem p_3 {x : Int32} (h : 1 ≤ x.toInt ∧ x.toInt ≤ 15) : 0 ≤ (x + 1).toInt ∧ (x + 1).toInt ≤ 16 := by
  rw [a32 (by have : (1 : Int32).toInt = 1 := rfl
              omega) (by have : (1 : Int32).toInt = 1 := rfl
                         omega)]
  have : (1 : Int32).toInt = 1 := rfl
  omega
set_option maxHeartbeats 4000000 in
set_option maxRecDepth 100000 in
theorem k_X1_narrowedToCrossing (l : Launch) (hst : l.stackTraces = false) (dC : Nat → ClassId) (dI : Nat → Nat → Nat) (cA : Nat → ClassId) (tm tt sz : Nat) (ax ab aw : Nat) (wl : Int32) (la ea : UInt64) (wk fl : Int32) (bb bp bf bs bv : Nat) (st : Int32) (oL oN oE oW : UInt64) (k : Nat) (pw : Nat → Int32) (fa sa va : Nat → UInt64) (x2 : Int32) (x3 : Int32) (x4 : Int32) (hO : oOK oL oN oE oW) (hT : tOK k fa sa va) (hla : fR la (-96636764160) 96636764160) (hea : fR ea (-193273528320) 193273528320) (hd : -1000000 ≤ x2.toInt ∧ x2.toInt ≤ 1000000) (h3 : 1 ≤ x3.toInt ∧ x3.toInt ≤ 16) : vx_Met l yX1_narrowedToCrossing wsX1_narrowedToCrossing ({ frames := 9, cells := 20, slots := 120, locals := 178 }) (PcW dC dI cA tm tt sz [.ref ax, .ref bb, .int x2, .int x3, .int x4] [(ax, .inr (1, [.ref ab, .ref aw, .int wl, .double la, .double ea, .int wk, .int fl])), (bb, .inr (0, [.int st, .double oL, .double oN, .double oE, .double oW, .int (nI k), .ref bp, .ref bf, .ref bs, .ref bv])), (bp, aI 12 (cA 0) pw), (bf, aD 12 (cA 1) fa), (bs, aD 12 (cA 1) sa), (bv, aD 12 (cA 1) va)]) (va_Qd (fun r (_ : Unit) => (NCR (HEI la ea oL oN oE oW k pw fa sa va) x2 x3 x4).2 = .ok r) (fun _ t => WB dC dI (va_A [(ax, .inr (1, [.ref ab, .ref aw, .int wl, .double la, .double ea, .int wk, .int fl])), (bb, .inr (0, [.int st, .double oL, .double oN, .double oE, .double oW, .int (nI k), .ref bp, .ref bf, .ref bs, .ref bv])), (bp, aI 12 (cA 0) pw), (bf, aD 12 (cA 1) fa), (bs, aD 12 (cA 1) sa), (bv, aD 12 (cA 1) va)] sz) [(ax, .inr (1, [.ref ab, .ref aw, .int wl, .double la, .double ea, .int (wk + nI (NCR (HEI la ea oL oN oE oW k pw fa sa va) x2 x3 x4).1), .int fl])), (bb, .inr (0, [.int st, .double oL, .double oN, .double oE, .double oW, .int (nI k), .ref bp, .ref bf, .ref bs, .ref bv])), (bp, aI 12 (cA 0) pw), (bf, aD 12 (cA 1) fa), (bs, aD 12 (cA 1) sa), (bv, aD 12 (cA 1) va)] t) (va_A [(ax, .inr (1, [.ref ab, .ref aw, .int wl, .double la, .double ea, .int wk, .int fl])), (bb, .inr (0, [.int st, .double oL, .double oN, .double oE, .double oW, .int (nI k), .ref bp, .ref bf, .ref bs, .ref bv])), (bp, aI 12 (cA 0) pw), (bf, aD 12 (cA 1) fa), (bs, aD 12 (cA 1) sa), (bv, aD 12 (cA 1) va)] sz)) (vx_X (fun (_ : Unit) => True) (fun E _ t => (NCR (HEI la ea oL oN oE oW k pw fa sa va) x2 x3 x4).2 = .error E ∧ WB dC dI (va_A [(ax, .inr (1, [.ref ab, .ref aw, .int wl, .double la, .double ea, .int wk, .int fl])), (bb, .inr (0, [.int st, .double oL, .double oN, .double oE, .double oW, .int (nI k), .ref bp, .ref bf, .ref bs, .ref bv])), (bp, aI 12 (cA 0) pw), (bf, aD 12 (cA 1) fa), (bs, aD 12 (cA 1) sa), (bv, aD 12 (cA 1) va)] sz) [(ax, .inr (1, [.ref ab, .ref aw, .int wl, .double la, .double ea, .int (wk + nI (NCR (HEI la ea oL oN oE oW k pw fa sa va) x2 x3 x4).1), .int (fl + 1)])), (bb, .inr (0, [.int st, .double oL, .double oN, .double oE, .double oW, .int (nI k), .ref bp, .ref bf, .ref bs, .ref bv])), (bp, aI 12 (cA 0) pw), (bf, aD 12 (cA 1) fa), (bs, aD 12 (cA 1) sa), (bv, aD 12 (cA 1) va)] t) (va_A [(ax, .inr (1, [.ref ab, .ref aw, .int wl, .double la, .double ea, .int wk, .int fl])), (bb, .inr (0, [.int st, .double oL, .double oN, .double oE, .double oW, .int (nI k), .ref bp, .ref bf, .ref bs, .ref bv])), (bp, aI 12 (cA 0) pw), (bf, aD 12 (cA 1) fa), (bs, aD 12 (cA 1) sa), (bv, aD 12 (cA 1) va)] sz)) 20 120 (va_A [(ax, .inr (1, [.ref ab, .ref aw, .int wl, .double la, .double ea, .int wk, .int fl])), (bb, .inr (0, [.int st, .double oL, .double oN, .double oE, .double oW, .int (nI k), .ref bp, .ref bf, .ref bs, .ref bv])), (bp, aI 12 (cA 0) pw), (bf, aD 12 (cA 1) fa), (bs, aD 12 (cA 1) sa), (bv, aD 12 (cA 1) va)] sz) := by
  refine vx_ofW (cc := cX1_narrowedToCrossing) (maxL := 12) (ret := (some .double)) (by decide) rfl ?_
  intro p e s m args below meth c s₁ B hml hnt hv
  obtain ⟨rfl, hsz, hP, hK, hD0, hE⟩ := hv
  subst hsz
  have hD := hD0.self (sz := s.heap.size)
  generalize hAe : va_A [(ax, .inr (1, [.ref ab, .ref aw, .int wl, .double la, .double ea, .int wk, .int fl])), (bb, .inr (0, [.int st, .double oL, .double oN, .double oE, .double oW, .int (nI k), .ref bp, .ref bf, .ref bs, .ref bv])), (bp, aI 12 (cA 0) pw), (bf, aD 12 (cA 1) fa), (bs, aD 12 (cA 1) sa), (bv, aD 12 (cA 1) va)] s.heap.size = A at hD hE ⊢
  have hA : ∀ q : Nat, s.heap.size ≤ q → A q := fun q h => by rw [← hAe]; exact Or.inr h
  have hS : va_S A s.heap s.heap [] := va_S.rf
  have hP : va_P (dC, dI) vwCl [(ax, .inr (1, [.ref ab, .ref aw, .int wl, .double la, .double ea, .int wk, .int fl])), (bb, .inr (0, [.int st, .double oL, .double oN, .double oE, .double oW, .int (nI k), .ref bp, .ref bf, .ref bs, .ref bv])), (bp, aI 12 (cA 0) pw), (bf, aD 12 (cA 1) fa), (bs, aD 12 (cA 1) sa), (bv, aD 12 (cA 1) va)] s.heap := hP
  have hx := B.exec
  have hb := B.bytes
  have hr := B.returns
  have hts := atoms_spec (ws := wsX1_narrowedToCrossing) B.pre
  have hown : s.vm.findClass RX1 = some m.cls := findClass_of_methodNamed B.named
  have hlocks := B.notSynchronized
  have hl := lv_entry ([.ref ax, .ref bb, .int x2, .int x3, .int x4]) (n := 12) (Nat.le_of_ble_eq_true rfl)
  rw [lg_entry_eq]
  generalize (lg_sl ([.ref ax, .ref bb, .int x2, .int x3, .int x4]) ++ List.replicate (12 - (lg_sl ([.ref ax, .ref bb, .int x2, .int x3, .int x4])).length) Slot.unset).toArray = ls at hl ⊢
  have hl : lv_has ls 12 [(0, .ref ax), (1, .ref bb), (2, .int x2), (3, .int x3), (4, .int x4)] := hl
  refine W.gen (fun QQ hQQ => ?_)

  have hloop19 : ∀ (n : Nat) (j : Nat) (ta tb : UInt64), 21 - j ≤ n → j ≤ 20 → fR ta (x2.toInt * 1073741824) (x2.toInt * 1073741824 + 1073741824) → fR tb (x2.toInt * 1073741824) (x2.toInt * 1073741824 + 1073741824) → NCR (HEI la ea oL oN oE oW k pw fa sa va) x2 x3 x4 = addc j (ncL (HEI la ea oL oN oE oW k pw fa sa va) x4 (20 - j) ta tb) → ∀ (H : Heap) (locs : List Loc) (ls : Array Slot), va_P (dC, dI) vwCl [(ax, .inr (1, [.ref ab, .ref aw, .int wl, .double la, .double ea, .int (wk + nI j), .int fl])), (bb, .inr (0, [.int st, .double oL, .double oN, .double oE, .double oW, .int (nI k), .ref bp, .ref bf, .ref bs, .ref bv])), (bp, aI 12 (cA 0) pw), (bf, aD 12 (cA 1) fa), (bs, aD 12 (cA 1) sa), (bv, aD 12 (cA 1) va)] H → va_D A [(ax, .inr (1, [.ref ab, .ref aw, .int wl, .double la, .double ea, .int (wk + nI j), .int fl])), (bb, .inr (0, [.int st, .double oL, .double oN, .double oE, .double oW, .int (nI k), .ref bp, .ref bf, .ref bs, .ref bv])), (bp, aI 12 (cA 0) pw), (bf, aD 12 (cA 1) fa), (bs, aD 12 (cA 1) sa), (bv, aD 12 (cA 1) va)] → va_S A s.heap H locs → lv_has ls 12 [(0, .ref ax), (1, .ref bb), (4, .int x4), (5, .double ta), (7, .double tb), (9, .int (nI j))] → W p l e (headSpec wsX1_narrowedToCrossing ({ frames := 9, cells := 20, slots := 120, locals := 178 })).room s m ([.ref ax, .ref bb, .int x2, .int x3, .int x4] : List Value).toArray below meth c H locs (j) (6 * j) QQ (F0 m 19 ls []) := by
    intro n
    induction n with
    | zero =>
      intro j ta tb hf hj ha hb9 hQ
      exact absurd hf (by omega)
    | succ n ih =>
      intro j ta tb hf hj ha hb9 hQ H locs ls hP hD hS hl
      refine lv_iload hx hb dX1_narrowedToCrossing_19 (lv_at hl 5 rfl) ?_
      refine lv_bipush (v := 20) hx hb dX1_narrowedToCrossing_21 (by decide) ?_
      refine lv_icmp_ge (tgt := 76) hx hb dX1_narrowedToCrossing_23 (by decide) (fun c_1 => ?_) (fun c_1 => ?_)
      · have hj9 : j = 20 := by
          rcases Nat.lt_or_ge j 20 with h9 | h9
          · exact absurd c_1 (nI_lt20 (by omega))
          · omega
        have e0 : NCR (HEI la ea oL oN oE oW k pw fa sa va) x2 x3 x4 = (j, .ok tb) := by rw [hQ, hj9]; rfl
        have hP : va_P (dC, dI) vwCl [(ax, .inr (1, [.ref ab, .ref aw, .int wl, .double la, .double ea, .int (wk + nI (NCR (HEI la ea oL oN oE oW k pw fa sa va) x2 x3 x4).1), .int fl])), (bb, .inr (0, [.int st, .double oL, .double oN, .double oE, .double oW, .int (nI k), .ref bp, .ref bf, .ref bs, .ref bv])), (bp, aI 12 (cA 0) pw), (bf, aD 12 (cA 1) fa), (bs, aD 12 (cA 1) sa), (bv, aD 12 (cA 1) va)] H := by rw [e0]; simp only; skip; exact hP
        have hD : va_D A [(ax, .inr (1, [.ref ab, .ref aw, .int wl, .double la, .double ea, .int (wk + nI (NCR (HEI la ea oL oN oE oW k pw fa sa va) x2 x3 x4).1), .int fl])), (bb, .inr (0, [.int st, .double oL, .double oN, .double oE, .double oW, .int (nI k), .ref bp, .ref bf, .ref bs, .ref bv])), (bp, aI 12 (cA 0) pw), (bf, aD 12 (cA 1) fa), (bs, aD 12 (cA 1) sa), (bv, aD 12 (cA 1) va)] := by rw [e0]; simp only; skip; exact hD
        refine lv_dload hx hb dX1_narrowedToCrossing_76 (lv_at hl 4 rfl) ?_
        subst hQQ
        refine W.widen (k := 20) (n := 120) ((show j ≤ 20 by omega)) ((show 6 * j ≤ 120 by omega)) ?_
        exact vx_ret (W.dret hx hb hr (fun t ht hW => ⟨⟨_, (), rfl, (by rw [e0] <;> rfl), ⟨by rw [ht]; exact hP, hD⟩⟩, hS.F ht⟩) hS.2.2 dX1_narrowedToCrossing_78)
      · have hj6 := nI_ge_ (b := 20) (n := 20) rfl (by omega) c_1
        have hm := mid_R ha hb9 (by omega) (by omega) (by omega)
        refine lv_dload hx hb dX1_narrowedToCrossing_26 (lv_at hl 3 rfl) ?_
        refine lv_dload hx hb dX1_narrowedToCrossing_28 (lv_at hl 4 rfl) ?_
        refine lv_dadd hx hb dX1_narrowedToCrossing_30 (fR_nn hm.2) ?_
        refine lv_ldc2d hx hb hown (hts (.constantDouble RX1 251 (4611686018427387904)) (by decide +kernel)) dX1_narrowedToCrossing_31 ?_
        have r_2 : fR 4611686018427387904 2147483648 2147483648 := fR_lit (by decide +kernel)
        refine lv_ddiv hx hb dX1_narrowedToCrossing_34 (fR_nn hm.1) ?_
        refine lv_dstore (lv' := [(10, .double (MID ta tb)), (0, .ref ax), (1, .ref bb), (4, .int x4), (5, .double ta), (7, .double tb), (9, .int (nI j))]) hx hb dX1_narrowedToCrossing_35 hl (by decide) rfl (fun ls hl => ?_)
        refine lv_aload_n hx hb dX1_narrowedToCrossing_37 rfl (lv_at hl 1 rfl) ?_
        refine lv_aload_n hx hb dX1_narrowedToCrossing_38 rfl (lv_at hl 2 rfl) ?_
        refine lv_dload hx hb dX1_narrowedToCrossing_39 (lv_at hl 0 rfl) ?_
        have hPc := hP.sub (ws' := [(ax, .inr (1, [.ref ab, .ref aw, .int wl, .double la, .double ea, .int (wk + nI j), .int fl])), (bb, .inr (0, [.int st, .double oL, .double oN, .double oE, .double oW, .int (nI k), .ref bp, .ref bf, .ref bs, .ref bv])), (bp, aI 12 (cA 0) pw), (bf, aD 12 (cA 1) fa), (bs, aD 12 (cA 1) sa), (bv, aD 12 (cA 1) va)]) [0, 1, 2, 3, 4, 5] rfl
        have hDc := hD.sub (ws' := [(ax, .inr (1, [.ref ab, .ref aw, .int wl, .double la, .double ea, .int (wk + nI j), .int fl])), (bb, .inr (0, [.int st, .double oL, .double oN, .double oE, .double oW, .int (nI k), .ref bp, .ref bf, .ref bs, .ref bv])), (bp, aI 12 (cA 0) pw), (bf, aD 12 (cA 1) fa), (bs, aD 12 (cA 1) sa), (bv, aD 12 (cA 1) va)]) [0, 1, 2, 3, 4, 5] (by decide) rfl
        have hFc := va_free (wc := [(ax, .inr (1, [.ref ab, .ref aw, .int wl, .double la, .double ea, .int (wk + nI j), .int fl])), (bb, .inr (0, [.int st, .double oL, .double oN, .double oE, .double oW, .int (nI k), .ref bp, .ref bf, .ref bs, .ref bv])), (bp, aI 12 (cA 0) pw), (bf, aD 12 (cA 1) fa), (bs, aD 12 (cA 1) sa), (bv, aD 12 (cA 1) va)]) hD hS hA [0, 1, 2, 3, 4, 5] rfl
        refine vx_calld (vx_runV (As := [.ref bb, .double (MID ta tb)]) (rest := []) ⟨hx, hb, hml, hown, hts⟩ (k_X1_heightOf l hst dC dI cA tm tt _ ax ab aw wl la ea (wk + nI j) fl bb bp bf bs bv st oL oN oE oW k pw fa sa va (MID ta tb) hO hT hla hea (fR_mono hm.1 (by omega) (by omega))) (cwV 2 hts gX1_narrowedToCrossing_X1_heightOf rfl rfl rfl (by decide +kernel) ⟨Nat.le_of_ble_eq_true rfl, Nat.le_of_ble_eq_true rfl⟩) ⟨PcW.blind, va_recv hK hPc (ci := 1) (q0 := 0) rfl rfl, PcW.give hPc hK hDc hE hS hFc⟩ rfl rfl hl.1 rfl (lv_room (Nat.le_of_ble_eq_true rfl)) dX1_narrowedToCrossing_41 ⟨(show j + 1 ≤ 20 by omega), (show 6 * j + 6 ≤ 120 by omega)⟩) hS (fun q _ h => hFc q h) hFc (fun q _ h => hFc q h) (fun E ce q9 u t H locs ht hvm hpx hBX hz1 hk1 hS hce hcv hcl => ?_) (fun v_3 u t H locs ht hvm hp_4 hB hz1 hk1 hS => ?_)
        · obtain ⟨hpx, hP1, hD1⟩ := hBX
          rw [ht] at hP1
          obtain ⟨hP, hD⟩ := va_join (wr := []) (w1 := [(ax, .inr (1, [.ref ab, .ref aw, .int wl, .double la, .double ea, .int ((wk + nI j) + 1), .int (fl + 1)])), (bb, .inr (0, [.int st, .double oL, .double oN, .double oE, .double oW, .int (nI k), .ref bp, .ref bf, .ref bs, .ref bv])), (bp, aI 12 (cA 0) pw), (bf, aD 12 (cA 1) fa), (bs, aD 12 (cA 1) sa), (bv, aD 12 (cA 1) va)]) hP hD [0, 1, 2, 3, 4, 5] [] rfl rfl (by decide) (by decide) hk1 hFc hP1 hD1
          have hP := hP.sub (ws' := [(ax, .inr (1, [.ref ab, .ref aw, .int wl, .double la, .double ea, .int ((wk + nI j) + 1), .int (fl + 1)])), (bb, .inr (0, [.int st, .double oL, .double oN, .double oE, .double oW, .int (nI k), .ref bp, .ref bf, .ref bs, .ref bv])), (bp, aI 12 (cA 0) pw), (bf, aD 12 (cA 1) fa), (bs, aD 12 (cA 1) sa), (bv, aD 12 (cA 1) va)]) [0, 1, 2, 3, 4, 5] rfl
          have hD := hD.sub (ws' := [(ax, .inr (1, [.ref ab, .ref aw, .int wl, .double la, .double ea, .int ((wk + nI j) + 1), .int (fl + 1)])), (bb, .inr (0, [.int st, .double oL, .double oN, .double oE, .double oW, .int (nI k), .ref bp, .ref bf, .ref bs, .ref bv])), (bp, aI 12 (cA 0) pw), (bf, aD 12 (cA 1) fa), (bs, aD 12 (cA 1) sa), (bv, aD 12 (cA 1) va)]) [0, 1, 2, 3, 4, 5] (by decide) rfl
          have e0 : NCR (HEI la ea oL oN oE oW k pw fa sa va) x2 x3 x4 = (j + 1, .error E) := by rw [hQ, ncL_e (show j < 20 by omega) hpx]; rfl
          have hP : va_P (dC, dI) vwCl [(ax, .inr (1, [.ref ab, .ref aw, .int wl, .double la, .double ea, .int (wk + nI (NCR (HEI la ea oL oN oE oW k pw fa sa va) x2 x3 x4).1), .int (fl + 1)])), (bb, .inr (0, [.int st, .double oL, .double oN, .double oE, .double oW, .int (nI k), .ref bp, .ref bf, .ref bs, .ref bv])), (bp, aI 12 (cA 0) pw), (bf, aD 12 (cA 1) fa), (bs, aD 12 (cA 1) sa), (bv, aD 12 (cA 1) va)] H := by rw [e0]; simp only; rw [wk_s]; exact hP
          have hD : va_D A [(ax, .inr (1, [.ref ab, .ref aw, .int wl, .double la, .double ea, .int (wk + nI (NCR (HEI la ea oL oN oE oW k pw fa sa va) x2 x3 x4).1), .int (fl + 1)])), (bb, .inr (0, [.int st, .double oL, .double oN, .double oE, .double oW, .int (nI k), .ref bp, .ref bf, .ref bs, .ref bv])), (bp, aI 12 (cA 0) pw), (bf, aD 12 (cA 1) fa), (bs, aD 12 (cA 1) sa), (bv, aD 12 (cA 1) va)] := by rw [e0]; simp only; rw [wk_s]; exact hD
          subst hQQ
          exact vx_out (fun x hx9 => (hnt x hx9).elim) hlocks hce hcv hcl (fun t ht hvm => ⟨(), trivial, ⟨(by rw [e0] <;> rfl), by rw [ht]; exact hP, hD⟩, hS.F ht⟩) hS.2.2 ((show j + 1 ≤ 20 by omega)) ((show 6 * j + 6 ≤ 120 by omega))
        · obtain ⟨hP1, hD1⟩ := hB
          rw [ht] at hP1
          obtain ⟨hP, hD⟩ := va_join (wr := []) (w1 := [(ax, .inr (1, [.ref ab, .ref aw, .int wl, .double la, .double ea, .int ((wk + nI j) + 1), .int fl])), (bb, .inr (0, [.int st, .double oL, .double oN, .double oE, .double oW, .int (nI k), .ref bp, .ref bf, .ref bs, .ref bv])), (bp, aI 12 (cA 0) pw), (bf, aD 12 (cA 1) fa), (bs, aD 12 (cA 1) sa), (bv, aD 12 (cA 1) va)]) hP hD [0, 1, 2, 3, 4, 5] [] rfl rfl (by decide) (by decide) hk1 hFc hP1 hD1
          have hP := hP.sub (ws' := [(ax, .inr (1, [.ref ab, .ref aw, .int wl, .double la, .double ea, .int ((wk + nI j) + 1), .int fl])), (bb, .inr (0, [.int st, .double oL, .double oN, .double oE, .double oW, .int (nI k), .ref bp, .ref bf, .ref bs, .ref bv])), (bp, aI 12 (cA 0) pw), (bf, aD 12 (cA 1) fa), (bs, aD 12 (cA 1) sa), (bv, aD 12 (cA 1) va)]) [0, 1, 2, 3, 4, 5] rfl
          have hD := hD.sub (ws' := [(ax, .inr (1, [.ref ab, .ref aw, .int wl, .double la, .double ea, .int ((wk + nI j) + 1), .int fl])), (bb, .inr (0, [.int st, .double oL, .double oN, .double oE, .double oW, .int (nI k), .ref bp, .ref bf, .ref bs, .ref bv])), (bp, aI 12 (cA 0) pw), (bf, aD 12 (cA 1) fa), (bs, aD 12 (cA 1) sa), (bv, aD 12 (cA 1) va)]) [0, 1, 2, 3, 4, 5] (by decide) rfl
          have hP : va_P (dC, dI) vwCl [(ax, .inr (1, [.ref ab, .ref aw, .int wl, .double la, .double ea, .int (wk + nI (j + 1)), .int fl])), (bb, .inr (0, [.int st, .double oL, .double oN, .double oE, .double oW, .int (nI k), .ref bp, .ref bf, .ref bs, .ref bv])), (bp, aI 12 (cA 0) pw), (bf, aD 12 (cA 1) fa), (bs, aD 12 (cA 1) sa), (bv, aD 12 (cA 1) va)] H := by rw [wk_s]; exact hP
          have hD : va_D A [(ax, .inr (1, [.ref ab, .ref aw, .int wl, .double la, .double ea, .int (wk + nI (j + 1)), .int fl])), (bb, .inr (0, [.int st, .double oL, .double oN, .double oE, .double oW, .int (nI k), .ref bp, .ref bf, .ref bs, .ref bv])), (bp, aI 12 (cA 0) pw), (bf, aD 12 (cA 1) fa), (bs, aD 12 (cA 1) sa), (bv, aD 12 (cA 1) va)] := by rw [wk_s]; exact hD
          refine lv_dconst0 hx hb dX1_narrowedToCrossing_44 ?_
          have r_5 : fR FP.dconst0 0 0 := fR_lit (by decide +kernel)
          refine zd_l_lt (tgt := 53) hx hb dX1_narrowedToCrossing_45 dX1_narrowedToCrossing_46 (by decide) (fun c_6 => ?_) (fun c_6 => ?_)
          · refine lv_iconst (v := 0) hx hb dX1_narrowedToCrossing_53 (by decide) ?_
            rw [show (Value.int 0) = Value.int (UP v_3) from congrArg Value.int (UP_0 c_6)]
            refine lv_iload hx hb dX1_narrowedToCrossing_54 (lv_at hl 3 rfl) ?_
            refine lv_icmp_ne (tgt := 66) hx hb dX1_narrowedToCrossing_56 (by decide) (fun c_7 => ?_) (fun c_7 => ?_)
            · refine lv_dload hx hb dX1_narrowedToCrossing_66 (lv_at hl 0 rfl) ?_
              refine lv_dstore (lv' := [(5, .double (MID ta tb)), (10, .double (MID ta tb)), (0, .ref ax), (1, .ref bb), (4, .int x4), (7, .double tb), (9, .int (nI j))]) hx hb dX1_narrowedToCrossing_68 hl (by decide) rfl (fun ls hl => ?_)
              refine lv_iinc (v := nI (j + 1)) (lv' := [(9, .int (nI (j + 1))), (5, .double (MID ta tb)), (10, .double (MID ta tb)), (0, .ref ax), (1, .ref bb), (4, .int x4), (7, .double tb)]) hx hb dX1_narrowedToCrossing_70 hl (k := 6) rfl (nI_1 _) (by decide) rfl (fun ls hl => ?_)
              refine lv_goto (tgt := 19) hx hb dX1_narrowedToCrossing_73 (by decide) ?_
              refine W.widen (k := (j + 1)) (n := 6 * (j + 1)) (by omega) (by omega) ?_
              exact ih (j + 1) (MID ta tb) (tb) (by omega) (by omega) hm.1 hb9 (by rw [hQ, ncL_0 (show j < 20 by omega) hp_4 c_7, addc_addc]) _ _ _ hP hD hS (lv_sub hl [3, 4, 5, 1, 6, 0] rfl)
            · refine lv_dload hx hb dX1_narrowedToCrossing_59 (lv_at hl 0 rfl) ?_
              refine lv_dstore (lv' := [(7, .double (MID ta tb)), (10, .double (MID ta tb)), (0, .ref ax), (1, .ref bb), (4, .int x4), (5, .double ta), (9, .int (nI j))]) hx hb dX1_narrowedToCrossing_61 hl (by decide) rfl (fun ls hl => ?_)
              refine lv_goto (tgt := 70) hx hb dX1_narrowedToCrossing_63 (by decide) ?_
              refine lv_iinc (v := nI (j + 1)) (lv' := [(9, .int (nI (j + 1))), (7, .double (MID ta tb)), (10, .double (MID ta tb)), (0, .ref ax), (1, .ref bb), (4, .int x4), (5, .double ta)]) hx hb dX1_narrowedToCrossing_70 hl (k := 6) rfl (nI_1 _) (by decide) rfl (fun ls hl => ?_)
              refine lv_goto (tgt := 19) hx hb dX1_narrowedToCrossing_73 (by decide) ?_
              refine W.widen (k := (j + 1)) (n := 6 * (j + 1)) (by omega) (by omega) ?_
              exact ih (j + 1) (ta) (MID ta tb) (by omega) (by omega) ha hm.1 (by rw [hQ, ncL_1 (show j < 20 by omega) hp_4 c_7, addc_addc]) _ _ _ hP hD hS (lv_sub hl [3, 4, 5, 6, 1, 0] rfl)
          · refine lv_iconst (v := 1) hx hb dX1_narrowedToCrossing_49 (by decide) ?_
            refine lv_goto (tgt := 54) hx hb dX1_narrowedToCrossing_50 (by decide) ?_
            rw [show (Value.int 1) = Value.int (UP v_3) from congrArg Value.int (UP_1 c_6)]
            refine lv_iload hx hb dX1_narrowedToCrossing_54 (lv_at hl 3 rfl) ?_
            refine lv_icmp_ne (tgt := 66) hx hb dX1_narrowedToCrossing_56 (by decide) (fun c_8 => ?_) (fun c_8 => ?_)
            · refine lv_dload hx hb dX1_narrowedToCrossing_66 (lv_at hl 0 rfl) ?_
              refine lv_dstore (lv' := [(5, .double (MID ta tb)), (10, .double (MID ta tb)), (0, .ref ax), (1, .ref bb), (4, .int x4), (7, .double tb), (9, .int (nI j))]) hx hb dX1_narrowedToCrossing_68 hl (by decide) rfl (fun ls hl => ?_)
              refine lv_iinc (v := nI (j + 1)) (lv' := [(9, .int (nI (j + 1))), (5, .double (MID ta tb)), (10, .double (MID ta tb)), (0, .ref ax), (1, .ref bb), (4, .int x4), (7, .double tb)]) hx hb dX1_narrowedToCrossing_70 hl (k := 6) rfl (nI_1 _) (by decide) rfl (fun ls hl => ?_)
              refine lv_goto (tgt := 19) hx hb dX1_narrowedToCrossing_73 (by decide) ?_
              refine W.widen (k := (j + 1)) (n := 6 * (j + 1)) (by omega) (by omega) ?_
              exact ih (j + 1) (MID ta tb) (tb) (by omega) (by omega) hm.1 hb9 (by rw [hQ, ncL_0 (show j < 20 by omega) hp_4 c_8, addc_addc]) _ _ _ hP hD hS (lv_sub hl [3, 4, 5, 1, 6, 0] rfl)
            · refine lv_dload hx hb dX1_narrowedToCrossing_59 (lv_at hl 0 rfl) ?_
              refine lv_dstore (lv' := [(7, .double (MID ta tb)), (10, .double (MID ta tb)), (0, .ref ax), (1, .ref bb), (4, .int x4), (5, .double ta), (9, .int (nI j))]) hx hb dX1_narrowedToCrossing_61 hl (by decide) rfl (fun ls hl => ?_)
              refine lv_goto (tgt := 70) hx hb dX1_narrowedToCrossing_63 (by decide) ?_
              refine lv_iinc (v := nI (j + 1)) (lv' := [(9, .int (nI (j + 1))), (7, .double (MID ta tb)), (10, .double (MID ta tb)), (0, .ref ax), (1, .ref bb), (4, .int x4), (5, .double ta)]) hx hb dX1_narrowedToCrossing_70 hl (k := 6) rfl (nI_1 _) (by decide) rfl (fun ls hl => ?_)
              refine lv_goto (tgt := 19) hx hb dX1_narrowedToCrossing_73 (by decide) ?_
              refine W.widen (k := (j + 1)) (n := 6 * (j + 1)) (by omega) (by omega) ?_
              exact ih (j + 1) (ta) (MID ta tb) (by omega) (by omega) ha hm.1 (by rw [hQ, ncL_1 (show j < 20 by omega) hp_4 c_8, addc_addc]) _ _ _ hP hD hS (lv_sub hl [3, 4, 5, 6, 1, 0] rfl)
  refine lv_iload_n hx hb dX1_narrowedToCrossing_0 rfl (lv_at hl 2 rfl) ?_
  refine lv_iload_n hx hb dX1_narrowedToCrossing_1 rfl (lv_at hl 3 rfl) ?_
  refine lv_iconst (v := 1) hx hb dX1_narrowedToCrossing_2 (by decide) ?_
  refine lv_isub hx hb dX1_narrowedToCrossing_3 ?_
  refine vp_callSd (W.runS (As := [.int x2, .int (x3 - 1)]) (rest := []) ⟨hx, hb, hml, hown, hts⟩ (k_X1_timeOfPart l x2 (x3 - 1)) (va_cwS 2 hts gX1_narrowedToCrossing_X1_timeOfPart rfl rfl rfl (by decide +kernel) ⟨Nat.le_of_ble_eq_true rfl, Nat.le_of_ble_eq_true rfl⟩) preEq rfl rfl hl.1 rfl (lv_room (Nat.le_of_ble_eq_true rfl)) dX1_narrowedToCrossing_4 ⟨Nat.le_of_ble_eq_true rfl, Nat.le_of_ble_eq_true rfl⟩) (fun r hr9 => ?_)
  obtain rfl := hr9
  refine lv_dstore (lv' := [(5, .double (f_X1_timeOfPart x2 (x3 - 1))), (0, .ref ax), (1, .ref bb), (2, .int x2), (3, .int x3), (4, .int x4)]) hx hb dX1_narrowedToCrossing_7 hl (by decide) rfl (fun ls hl => ?_)
  refine lv_iload_n hx hb dX1_narrowedToCrossing_9 rfl (lv_at hl 3 rfl) ?_
  refine lv_iload_n hx hb dX1_narrowedToCrossing_10 rfl (lv_at hl 4 rfl) ?_
  refine vp_callSd (W.runS (As := [.int x2, .int x3]) (rest := []) ⟨hx, hb, hml, hown, hts⟩ (k_X1_timeOfPart l x2 x3) (va_cwS 2 hts gX1_narrowedToCrossing_X1_timeOfPart rfl rfl rfl (by decide +kernel) ⟨Nat.le_of_ble_eq_true rfl, Nat.le_of_ble_eq_true rfl⟩) preEq rfl rfl hl.1 rfl (lv_room (Nat.le_of_ble_eq_true rfl)) dX1_narrowedToCrossing_11 ⟨Nat.le_of_ble_eq_true rfl, Nat.le_of_ble_eq_true rfl⟩) (fun r hr9 => ?_)
  obtain rfl := hr9
  refine lv_dstore (lv' := [(7, .double (f_X1_timeOfPart x2 x3)), (5, .double (f_X1_timeOfPart x2 (x3 - 1))), (0, .ref ax), (1, .ref bb), (2, .int x2), (3, .int x3), (4, .int x4)]) hx hb dX1_narrowedToCrossing_14 hl (by decide) rfl (fun ls hl => ?_)
  refine lv_iconst (v := 0) hx hb dX1_narrowedToCrossing_16 (by decide) ?_
  refine lv_istore (lv' := [(9, .int (nI 0)), (7, .double (f_X1_timeOfPart x2 x3)), (5, .double (f_X1_timeOfPart x2 (x3 - 1))), (0, .ref ax), (1, .ref bb), (2, .int x2), (3, .int x3), (4, .int x4)]) hx hb dX1_narrowedToCrossing_17 hl (by decide) rfl (fun ls hl => ?_)
  refine W.widen (k := 0) (n := 6 * 0) (by omega) (by omega) ?_
  have hP : va_P (dC, dI) vwCl [(ax, .inr (1, [.ref ab, .ref aw, .int wl, .double la, .double ea, .int (wk + nI 0), .int fl])), (bb, .inr (0, [.int st, .double oL, .double oN, .double oE, .double oW, .int (nI k), .ref bp, .ref bf, .ref bs, .ref bv])), (bp, aI 12 (cA 0) pw), (bf, aD 12 (cA 1) fa), (bs, aD 12 (cA 1) sa), (bv, aD 12 (cA 1) va)] s.heap := by rw [wk_0]; exact hP
  have hD : va_D A [(ax, .inr (1, [.ref ab, .ref aw, .int wl, .double la, .double ea, .int (wk + nI 0), .int fl])), (bb, .inr (0, [.int st, .double oL, .double oN, .double oE, .double oW, .int (nI k), .ref bp, .ref bf, .ref bs, .ref bv])), (bp, aI 12 (cA 0) pw), (bf, aD 12 (cA 1) fa), (bs, aD 12 (cA 1) sa), (bv, aD 12 (cA 1) va)] := by rw [wk_0]; exact hD
  exact hloop19 21 0 _ _ (by decide) (by decide) (top_R hd (p_1 h3)) (top_R hd (p_2 h3)) (by show _ = addc 0 _; unfold addc NCR; simp only [Nat.zero_add]) _ _ _ hP hD hS (lv_sub hl [3, 4, 7, 2, 1, 0] rfl)

set_option maxHeartbeats 4000000 in
set_option maxRecDepth 100000 in
theorem k_X1_partOfGreatestHeight (l : Launch) (hst : l.stackTraces = false) (dC : Nat → ClassId) (dI : Nat → Nat → Nat) (cA : Nat → ClassId) (tm tt sz : Nat) (ax ab aw : Nat) (wl : Int32) (la ea : UInt64) (wk fl : Int32) (bb bp bf bs bv : Nat) (st : Int32) (oL oN oE oW : UInt64) (k : Nat) (pw : Nat → Int32) (fa sa va : Nat → UInt64) (x2 : Int32) (hO : oOK oL oN oE oW) (hT : tOK k fa sa va) (hla : fR la (-96636764160) 96636764160) (hea : fR ea (-193273528320) 193273528320) (hd : -1000000 ≤ x2.toInt ∧ x2.toInt ≤ 1000000) : vx_Met l yX1_partOfGreatestHeight wsX1_partOfGreatestHeight ({ frames := 9, cells := 17, slots := 102, locals := 178 }) (PcW dC dI cA tm tt sz [.ref ax, .ref bb, .int x2] [(ax, .inr (1, [.ref ab, .ref aw, .int wl, .double la, .double ea, .int wk, .int fl])), (bb, .inr (0, [.int st, .double oL, .double oN, .double oE, .double oW, .int (nI k), .ref bp, .ref bf, .ref bs, .ref bv])), (bp, aI 12 (cA 0) pw), (bf, aD 12 (cA 1) fa), (bs, aD 12 (cA 1) sa), (bv, aD 12 (cA 1) va)]) (va_Qi (fun r (_ : Unit) => (PGR (HEI la ea oL oN oE oW k pw fa sa va) x2).2 = .ok r) (fun _ t => WB dC dI (va_A [(ax, .inr (1, [.ref ab, .ref aw, .int wl, .double la, .double ea, .int wk, .int fl])), (bb, .inr (0, [.int st, .double oL, .double oN, .double oE, .double oW, .int (nI k), .ref bp, .ref bf, .ref bs, .ref bv])), (bp, aI 12 (cA 0) pw), (bf, aD 12 (cA 1) fa), (bs, aD 12 (cA 1) sa), (bv, aD 12 (cA 1) va)] sz) [(ax, .inr (1, [.ref ab, .ref aw, .int wl, .double la, .double ea, .int (wk + nI (PGR (HEI la ea oL oN oE oW k pw fa sa va) x2).1), .int fl])), (bb, .inr (0, [.int st, .double oL, .double oN, .double oE, .double oW, .int (nI k), .ref bp, .ref bf, .ref bs, .ref bv])), (bp, aI 12 (cA 0) pw), (bf, aD 12 (cA 1) fa), (bs, aD 12 (cA 1) sa), (bv, aD 12 (cA 1) va)] t) (va_A [(ax, .inr (1, [.ref ab, .ref aw, .int wl, .double la, .double ea, .int wk, .int fl])), (bb, .inr (0, [.int st, .double oL, .double oN, .double oE, .double oW, .int (nI k), .ref bp, .ref bf, .ref bs, .ref bv])), (bp, aI 12 (cA 0) pw), (bf, aD 12 (cA 1) fa), (bs, aD 12 (cA 1) sa), (bv, aD 12 (cA 1) va)] sz)) (vx_X (fun (_ : Unit) => True) (fun E _ t => (PGR (HEI la ea oL oN oE oW k pw fa sa va) x2).2 = .error E ∧ WB dC dI (va_A [(ax, .inr (1, [.ref ab, .ref aw, .int wl, .double la, .double ea, .int wk, .int fl])), (bb, .inr (0, [.int st, .double oL, .double oN, .double oE, .double oW, .int (nI k), .ref bp, .ref bf, .ref bs, .ref bv])), (bp, aI 12 (cA 0) pw), (bf, aD 12 (cA 1) fa), (bs, aD 12 (cA 1) sa), (bv, aD 12 (cA 1) va)] sz) [(ax, .inr (1, [.ref ab, .ref aw, .int wl, .double la, .double ea, .int (wk + nI (PGR (HEI la ea oL oN oE oW k pw fa sa va) x2).1), .int (fl + 1)])), (bb, .inr (0, [.int st, .double oL, .double oN, .double oE, .double oW, .int (nI k), .ref bp, .ref bf, .ref bs, .ref bv])), (bp, aI 12 (cA 0) pw), (bf, aD 12 (cA 1) fa), (bs, aD 12 (cA 1) sa), (bv, aD 12 (cA 1) va)] t) (va_A [(ax, .inr (1, [.ref ab, .ref aw, .int wl, .double la, .double ea, .int wk, .int fl])), (bb, .inr (0, [.int st, .double oL, .double oN, .double oE, .double oW, .int (nI k), .ref bp, .ref bf, .ref bs, .ref bv])), (bp, aI 12 (cA 0) pw), (bf, aD 12 (cA 1) fa), (bs, aD 12 (cA 1) sa), (bv, aD 12 (cA 1) va)] sz)) 17 102 (va_A [(ax, .inr (1, [.ref ab, .ref aw, .int wl, .double la, .double ea, .int wk, .int fl])), (bb, .inr (0, [.int st, .double oL, .double oN, .double oE, .double oW, .int (nI k), .ref bp, .ref bf, .ref bs, .ref bv])), (bp, aI 12 (cA 0) pw), (bf, aD 12 (cA 1) fa), (bs, aD 12 (cA 1) sa), (bv, aD 12 (cA 1) va)] sz) := by
  refine vx_ofW (cc := cX1_partOfGreatestHeight) (maxL := 9) (ret := (some .int)) (by decide) rfl ?_
  intro p e s m args below meth c s₁ B hml hnt hv
  obtain ⟨rfl, hsz, hP, hK, hD0, hE⟩ := hv
  subst hsz
  have hD := hD0.self (sz := s.heap.size)
  generalize hAe : va_A [(ax, .inr (1, [.ref ab, .ref aw, .int wl, .double la, .double ea, .int wk, .int fl])), (bb, .inr (0, [.int st, .double oL, .double oN, .double oE, .double oW, .int (nI k), .ref bp, .ref bf, .ref bs, .ref bv])), (bp, aI 12 (cA 0) pw), (bf, aD 12 (cA 1) fa), (bs, aD 12 (cA 1) sa), (bv, aD 12 (cA 1) va)] s.heap.size = A at hD hE ⊢
  have hA : ∀ q : Nat, s.heap.size ≤ q → A q := fun q h => by rw [← hAe]; exact Or.inr h
  have hS : va_S A s.heap s.heap [] := va_S.rf
  have hP : va_P (dC, dI) vwCl [(ax, .inr (1, [.ref ab, .ref aw, .int wl, .double la, .double ea, .int wk, .int fl])), (bb, .inr (0, [.int st, .double oL, .double oN, .double oE, .double oW, .int (nI k), .ref bp, .ref bf, .ref bs, .ref bv])), (bp, aI 12 (cA 0) pw), (bf, aD 12 (cA 1) fa), (bs, aD 12 (cA 1) sa), (bv, aD 12 (cA 1) va)] s.heap := hP
  have hx := B.exec
  have hb := B.bytes
  have hr := B.returns
  have hts := atoms_spec (ws := wsX1_partOfGreatestHeight) B.pre
  have hown : s.vm.findClass RX1 = some m.cls := findClass_of_methodNamed B.named
  have hlocks := B.notSynchronized
  have hl := lv_entry ([.ref ax, .ref bb, .int x2]) (n := 9) (Nat.le_of_ble_eq_true rfl)
  rw [lg_entry_eq]
  generalize (lg_sl ([.ref ax, .ref bb, .int x2]) ++ List.replicate (9 - (lg_sl ([.ref ax, .ref bb, .int x2])).length) Slot.unset).toArray = ls at hl ⊢
  have hl : lv_has ls 9 [(0, .ref ax), (1, .ref bb), (2, .int x2)] := hl
  refine W.gen (fun QQ hQQ => ?_)

  have hloop17 : ∀ (n : Nat) (j : Nat) (bi : Int32) (gt : UInt64), 17 - j ≤ n → j ≤ 16 → 2 ≤ j → PGR (HEI la ea oL oN oE oW k pw fa sa va) x2 = addc (j - 1) (pgL (HEI la ea oL oN oE oW k pw fa sa va) x2 (16 - j) bi gt j) → ∀ (H : Heap) (locs : List Loc) (ls : Array Slot), va_P (dC, dI) vwCl [(ax, .inr (1, [.ref ab, .ref aw, .int wl, .double la, .double ea, .int (wk + nI (j - 1)), .int fl])), (bb, .inr (0, [.int st, .double oL, .double oN, .double oE, .double oW, .int (nI k), .ref bp, .ref bf, .ref bs, .ref bv])), (bp, aI 12 (cA 0) pw), (bf, aD 12 (cA 1) fa), (bs, aD 12 (cA 1) sa), (bv, aD 12 (cA 1) va)] H → va_D A [(ax, .inr (1, [.ref ab, .ref aw, .int wl, .double la, .double ea, .int (wk + nI (j - 1)), .int fl])), (bb, .inr (0, [.int st, .double oL, .double oN, .double oE, .double oW, .int (nI k), .ref bp, .ref bf, .ref bs, .ref bv])), (bp, aI 12 (cA 0) pw), (bf, aD 12 (cA 1) fa), (bs, aD 12 (cA 1) sa), (bv, aD 12 (cA 1) va)] → va_S A s.heap H locs → lv_has ls 9 [(0, .ref ax), (1, .ref bb), (2, .int x2), (3, .int bi), (4, .double gt), (6, .int (nI j))] → W p l e (headSpec wsX1_partOfGreatestHeight ({ frames := 9, cells := 17, slots := 102, locals := 178 })).room s m ([.ref ax, .ref bb, .int x2] : List Value).toArray below meth c H locs (j) (6 * j) QQ (F0 m 17 ls []) := by
    intro n
    induction n with
    | zero =>
      intro j bi gt hf hj hj2 hQ
      exact absurd hf (by omega)
    | succ n ih =>
      intro j bi gt hf hj hj2 hQ H locs ls hP hD hS hl
      refine lv_iload hx hb dX1_partOfGreatestHeight_17 (lv_at hl 5 rfl) ?_
      refine lv_bipush (v := 16) hx hb dX1_partOfGreatestHeight_19 (by decide) ?_
      refine lv_icmp_ge (tgt := 58) hx hb dX1_partOfGreatestHeight_21 (by decide) (fun c_1 => ?_) (fun c_1 => ?_)
      · have hj9 : j = 16 := by
          rcases Nat.lt_or_ge j 16 with h9 | h9
          · exact absurd c_1 (nI_lt16 (by omega))
          · omega
        have e0 : PGR (HEI la ea oL oN oE oW k pw fa sa va) x2 = (j - 1, .ok bi) := by rw [hQ, hj9]; rfl
        have hP : va_P (dC, dI) vwCl [(ax, .inr (1, [.ref ab, .ref aw, .int wl, .double la, .double ea, .int (wk + nI (PGR (HEI la ea oL oN oE oW k pw fa sa va) x2).1), .int fl])), (bb, .inr (0, [.int st, .double oL, .double oN, .double oE, .double oW, .int (nI k), .ref bp, .ref bf, .ref bs, .ref bv])), (bp, aI 12 (cA 0) pw), (bf, aD 12 (cA 1) fa), (bs, aD 12 (cA 1) sa), (bv, aD 12 (cA 1) va)] H := by rw [e0]; simp only; skip; exact hP
        have hD : va_D A [(ax, .inr (1, [.ref ab, .ref aw, .int wl, .double la, .double ea, .int (wk + nI (PGR (HEI la ea oL oN oE oW k pw fa sa va) x2).1), .int fl])), (bb, .inr (0, [.int st, .double oL, .double oN, .double oE, .double oW, .int (nI k), .ref bp, .ref bf, .ref bs, .ref bv])), (bp, aI 12 (cA 0) pw), (bf, aD 12 (cA 1) fa), (bs, aD 12 (cA 1) sa), (bv, aD 12 (cA 1) va)] := by rw [e0]; simp only; skip; exact hD
        refine lv_iload_n hx hb dX1_partOfGreatestHeight_58 rfl (lv_at hl 3 rfl) ?_
        subst hQQ
        refine W.widen (k := 17) (n := 102) ((show j ≤ 17 by omega)) ((show 6 * j ≤ 102 by omega)) ?_
        exact vx_ret (W.iret hx hb hr (fun t ht hW => ⟨⟨_, (), rfl, (by rw [e0] <;> rfl), ⟨by rw [ht]; exact hP, hD⟩⟩, hS.F ht⟩) hS.2.2 dX1_partOfGreatestHeight_59)
      · have hj6 := nI_ge_ (b := 16) (n := 16) rfl (by omega) c_1
        refine lv_aload_n hx hb dX1_partOfGreatestHeight_24 rfl (lv_at hl 0 rfl) ?_
        refine lv_aload_n hx hb dX1_partOfGreatestHeight_25 rfl (lv_at hl 1 rfl) ?_
        refine lv_iload_n hx hb dX1_partOfGreatestHeight_26 rfl (lv_at hl 2 rfl) ?_
        refine lv_iload hx hb dX1_partOfGreatestHeight_27 (lv_at hl 5 rfl) ?_
        refine vp_callSd (W.runS (As := [.int x2, .int (nI j)]) (rest := [.ref bb, .ref ax]) ⟨hx, hb, hml, hown, hts⟩ (k_X1_timeOfPart l x2 (nI j)) (va_cwS 2 hts gX1_partOfGreatestHeight_X1_timeOfPart rfl rfl rfl (by decide +kernel) ⟨Nat.le_of_ble_eq_true rfl, Nat.le_of_ble_eq_true rfl⟩) preEq rfl rfl hl.1 rfl (lv_room (Nat.le_of_ble_eq_true rfl)) dX1_partOfGreatestHeight_29 ⟨(show j ≤ 17 by omega), (show 6 * j ≤ 102 by omega)⟩) (fun r hr9 => ?_)
        obtain rfl := hr9
        have hPc := hP.sub (ws' := [(ax, .inr (1, [.ref ab, .ref aw, .int wl, .double la, .double ea, .int (wk + nI (j - 1)), .int fl])), (bb, .inr (0, [.int st, .double oL, .double oN, .double oE, .double oW, .int (nI k), .ref bp, .ref bf, .ref bs, .ref bv])), (bp, aI 12 (cA 0) pw), (bf, aD 12 (cA 1) fa), (bs, aD 12 (cA 1) sa), (bv, aD 12 (cA 1) va)]) [0, 1, 2, 3, 4, 5] rfl
        have hDc := hD.sub (ws' := [(ax, .inr (1, [.ref ab, .ref aw, .int wl, .double la, .double ea, .int (wk + nI (j - 1)), .int fl])), (bb, .inr (0, [.int st, .double oL, .double oN, .double oE, .double oW, .int (nI k), .ref bp, .ref bf, .ref bs, .ref bv])), (bp, aI 12 (cA 0) pw), (bf, aD 12 (cA 1) fa), (bs, aD 12 (cA 1) sa), (bv, aD 12 (cA 1) va)]) [0, 1, 2, 3, 4, 5] (by decide) rfl
        have hFc := va_free (wc := [(ax, .inr (1, [.ref ab, .ref aw, .int wl, .double la, .double ea, .int (wk + nI (j - 1)), .int fl])), (bb, .inr (0, [.int st, .double oL, .double oN, .double oE, .double oW, .int (nI k), .ref bp, .ref bf, .ref bs, .ref bv])), (bp, aI 12 (cA 0) pw), (bf, aD 12 (cA 1) fa), (bs, aD 12 (cA 1) sa), (bv, aD 12 (cA 1) va)]) hD hS hA [0, 1, 2, 3, 4, 5] rfl
        refine vx_calld (vx_runV (As := [.ref bb, .double (f_X1_timeOfPart x2 (nI j))]) (rest := []) ⟨hx, hb, hml, hown, hts⟩ (k_X1_heightOf l hst dC dI cA tm tt _ ax ab aw wl la ea (wk + nI (j - 1)) fl bb bp bf bs bv st oL oN oE oW k pw fa sa va (f_X1_timeOfPart x2 (nI j)) hO hT hla hea (fR_mono (top_R hd (nI_b (show j ≤ 16 by omega))) (by omega) (by omega))) (cwV 2 hts gX1_partOfGreatestHeight_X1_heightOf rfl rfl rfl (by decide +kernel) ⟨Nat.le_of_ble_eq_true rfl, Nat.le_of_ble_eq_true rfl⟩) ⟨PcW.blind, va_recv hK hPc (ci := 1) (q0 := 0) rfl rfl, PcW.give hPc hK hDc hE hS hFc⟩ rfl rfl hl.1 rfl (lv_room (Nat.le_of_ble_eq_true rfl)) dX1_partOfGreatestHeight_32 ⟨(show j + 1 ≤ 17 by omega), (show 6 * j + 6 ≤ 102 by omega)⟩) hS (fun q _ h => hFc q h) hFc (fun q _ h => hFc q h) (fun E ce q9 u t H locs ht hvm hpx hBX hz1 hk1 hS hce hcv hcl => ?_) (fun v_2 u t H locs ht hvm hp_3 hB hz1 hk1 hS => ?_)
        · obtain ⟨hpx, hP1, hD1⟩ := hBX
          rw [ht] at hP1
          obtain ⟨hP, hD⟩ := va_join (wr := []) (w1 := [(ax, .inr (1, [.ref ab, .ref aw, .int wl, .double la, .double ea, .int ((wk + nI (j - 1)) + 1), .int (fl + 1)])), (bb, .inr (0, [.int st, .double oL, .double oN, .double oE, .double oW, .int (nI k), .ref bp, .ref bf, .ref bs, .ref bv])), (bp, aI 12 (cA 0) pw), (bf, aD 12 (cA 1) fa), (bs, aD 12 (cA 1) sa), (bv, aD 12 (cA 1) va)]) hP hD [0, 1, 2, 3, 4, 5] [] rfl rfl (by decide) (by decide) hk1 hFc hP1 hD1
          have hP := hP.sub (ws' := [(ax, .inr (1, [.ref ab, .ref aw, .int wl, .double la, .double ea, .int ((wk + nI (j - 1)) + 1), .int (fl + 1)])), (bb, .inr (0, [.int st, .double oL, .double oN, .double oE, .double oW, .int (nI k), .ref bp, .ref bf, .ref bs, .ref bv])), (bp, aI 12 (cA 0) pw), (bf, aD 12 (cA 1) fa), (bs, aD 12 (cA 1) sa), (bv, aD 12 (cA 1) va)]) [0, 1, 2, 3, 4, 5] rfl
          have hD := hD.sub (ws' := [(ax, .inr (1, [.ref ab, .ref aw, .int wl, .double la, .double ea, .int ((wk + nI (j - 1)) + 1), .int (fl + 1)])), (bb, .inr (0, [.int st, .double oL, .double oN, .double oE, .double oW, .int (nI k), .ref bp, .ref bf, .ref bs, .ref bv])), (bp, aI 12 (cA 0) pw), (bf, aD 12 (cA 1) fa), (bs, aD 12 (cA 1) sa), (bv, aD 12 (cA 1) va)]) [0, 1, 2, 3, 4, 5] (by decide) rfl
          have e0 : PGR (HEI la ea oL oN oE oW k pw fa sa va) x2 = (j, .error E) := by rw [hQ, pgL_e (show j < 16 by omega) hpx]; exact Prod.ext (by show j - 1 + 1 = j; omega) rfl
          have hP : va_P (dC, dI) vwCl [(ax, .inr (1, [.ref ab, .ref aw, .int wl, .double la, .double ea, .int (wk + nI (PGR (HEI la ea oL oN oE oW k pw fa sa va) x2).1), .int (fl + 1)])), (bb, .inr (0, [.int st, .double oL, .double oN, .double oE, .double oW, .int (nI k), .ref bp, .ref bf, .ref bs, .ref bv])), (bp, aI 12 (cA 0) pw), (bf, aD 12 (cA 1) fa), (bs, aD 12 (cA 1) sa), (bv, aD 12 (cA 1) va)] H := by rw [e0]; simp only; rw [show j = j - 1 + 1 by omega, wk_s]; exact hP
          have hD : va_D A [(ax, .inr (1, [.ref ab, .ref aw, .int wl, .double la, .double ea, .int (wk + nI (PGR (HEI la ea oL oN oE oW k pw fa sa va) x2).1), .int (fl + 1)])), (bb, .inr (0, [.int st, .double oL, .double oN, .double oE, .double oW, .int (nI k), .ref bp, .ref bf, .ref bs, .ref bv])), (bp, aI 12 (cA 0) pw), (bf, aD 12 (cA 1) fa), (bs, aD 12 (cA 1) sa), (bv, aD 12 (cA 1) va)] := by rw [e0]; simp only; rw [show j = j - 1 + 1 by omega, wk_s]; exact hD
          subst hQQ
          exact vx_out (fun x hx9 => (hnt x hx9).elim) hlocks hce hcv hcl (fun t ht hvm => ⟨(), trivial, ⟨(by rw [e0] <;> rfl), by rw [ht]; exact hP, hD⟩, hS.F ht⟩) hS.2.2 ((show j + 1 ≤ 17 by omega)) ((show 6 * j + 6 ≤ 102 by omega))
        · obtain ⟨hP1, hD1⟩ := hB
          rw [ht] at hP1
          obtain ⟨hP, hD⟩ := va_join (wr := []) (w1 := [(ax, .inr (1, [.ref ab, .ref aw, .int wl, .double la, .double ea, .int ((wk + nI (j - 1)) + 1), .int fl])), (bb, .inr (0, [.int st, .double oL, .double oN, .double oE, .double oW, .int (nI k), .ref bp, .ref bf, .ref bs, .ref bv])), (bp, aI 12 (cA 0) pw), (bf, aD 12 (cA 1) fa), (bs, aD 12 (cA 1) sa), (bv, aD 12 (cA 1) va)]) hP hD [0, 1, 2, 3, 4, 5] [] rfl rfl (by decide) (by decide) hk1 hFc hP1 hD1
          have hP := hP.sub (ws' := [(ax, .inr (1, [.ref ab, .ref aw, .int wl, .double la, .double ea, .int ((wk + nI (j - 1)) + 1), .int fl])), (bb, .inr (0, [.int st, .double oL, .double oN, .double oE, .double oW, .int (nI k), .ref bp, .ref bf, .ref bs, .ref bv])), (bp, aI 12 (cA 0) pw), (bf, aD 12 (cA 1) fa), (bs, aD 12 (cA 1) sa), (bv, aD 12 (cA 1) va)]) [0, 1, 2, 3, 4, 5] rfl
          have hD := hD.sub (ws' := [(ax, .inr (1, [.ref ab, .ref aw, .int wl, .double la, .double ea, .int ((wk + nI (j - 1)) + 1), .int fl])), (bb, .inr (0, [.int st, .double oL, .double oN, .double oE, .double oW, .int (nI k), .ref bp, .ref bf, .ref bs, .ref bv])), (bp, aI 12 (cA 0) pw), (bf, aD 12 (cA 1) fa), (bs, aD 12 (cA 1) sa), (bv, aD 12 (cA 1) va)]) [0, 1, 2, 3, 4, 5] (by decide) rfl
          have hP : va_P (dC, dI) vwCl [(ax, .inr (1, [.ref ab, .ref aw, .int wl, .double la, .double ea, .int (wk + nI (j + 1 - 1)), .int fl])), (bb, .inr (0, [.int st, .double oL, .double oN, .double oE, .double oW, .int (nI k), .ref bp, .ref bf, .ref bs, .ref bv])), (bp, aI 12 (cA 0) pw), (bf, aD 12 (cA 1) fa), (bs, aD 12 (cA 1) sa), (bv, aD 12 (cA 1) va)] H := by rw [show j + 1 - 1 = j - 1 + 1 by omega, wk_s]; exact hP
          have hD : va_D A [(ax, .inr (1, [.ref ab, .ref aw, .int wl, .double la, .double ea, .int (wk + nI (j + 1 - 1)), .int fl])), (bb, .inr (0, [.int st, .double oL, .double oN, .double oE, .double oW, .int (nI k), .ref bp, .ref bf, .ref bs, .ref bv])), (bp, aI 12 (cA 0) pw), (bf, aD 12 (cA 1) fa), (bs, aD 12 (cA 1) sa), (bv, aD 12 (cA 1) va)] := by rw [show j + 1 - 1 = j - 1 + 1 by omega, wk_s]; exact hD
          refine lv_dstore (lv' := [(7, .double v_2), (0, .ref ax), (1, .ref bb), (2, .int x2), (3, .int bi), (4, .double gt), (6, .int (nI j))]) hx hb dX1_partOfGreatestHeight_35 hl (by decide) rfl (fun ls hl => ?_)
          refine lv_dload hx hb dX1_partOfGreatestHeight_37 (lv_at hl 0 rfl) ?_
          refine lv_dload hx hb dX1_partOfGreatestHeight_39 (lv_at hl 5 rfl) ?_
          refine zd_l_le (tgt := 52) hx hb dX1_partOfGreatestHeight_41 dX1_partOfGreatestHeight_42 (by decide) (fun c_4 => ?_) (fun c_4 => ?_)
          · refine lv_iinc (v := nI (j + 1)) (lv' := [(6, .int (nI (j + 1))), (7, .double v_2), (0, .ref ax), (1, .ref bb), (2, .int x2), (3, .int bi), (4, .double gt)]) hx hb dX1_partOfGreatestHeight_52 hl (k := 6) rfl (nI_1 _) (by decide) rfl (fun ls hl => ?_)
            refine lv_goto (tgt := 17) hx hb dX1_partOfGreatestHeight_55 (by decide) ?_
            refine W.widen (k := (j + 1)) (n := 6 * (j + 1)) (by omega) (by omega) ?_
            exact ih (j + 1) (bi) (gt) (by omega) (by omega) (by omega) (by rw [hQ, pgL_0 (show j < 16 by omega) hp_3 c_4, addc_addc, show j - 1 + 1 = j + 1 - 1 by omega]) _ _ _ hP hD hS (lv_sub hl [2, 3, 4, 5, 6, 0] rfl)
          · refine lv_iload hx hb dX1_partOfGreatestHeight_45 (lv_at hl 6 rfl) ?_
            refine lv_istore_n (lv' := [(3, .int (nI j)), (7, .double v_2), (0, .ref ax), (1, .ref bb), (2, .int x2), (4, .double gt), (6, .int (nI j))]) hx hb dX1_partOfGreatestHeight_47 rfl hl (by decide) rfl (fun ls hl => ?_)
            refine lv_dload hx hb dX1_partOfGreatestHeight_48 (lv_at hl 1 rfl) ?_
            refine lv_dstore (lv' := [(4, .double v_2), (3, .int (nI j)), (7, .double v_2), (0, .ref ax), (1, .ref bb), (2, .int x2), (6, .int (nI j))]) hx hb dX1_partOfGreatestHeight_50 hl (by decide) rfl (fun ls hl => ?_)
            refine lv_iinc (v := nI (j + 1)) (lv' := [(6, .int (nI (j + 1))), (4, .double v_2), (3, .int (nI j)), (7, .double v_2), (0, .ref ax), (1, .ref bb), (2, .int x2)]) hx hb dX1_partOfGreatestHeight_52 hl (k := 6) rfl (nI_1 _) (by decide) rfl (fun ls hl => ?_)
            refine lv_goto (tgt := 17) hx hb dX1_partOfGreatestHeight_55 (by decide) ?_
            refine W.widen (k := (j + 1)) (n := 6 * (j + 1)) (by omega) (by omega) ?_
            exact ih (j + 1) (nI j) (v_2) (by omega) (by omega) (by omega) (by rw [hQ, pgL_1 (show j < 16 by omega) hp_3 c_4, addc_addc, show j - 1 + 1 = j + 1 - 1 by omega]) _ _ _ hP hD hS (lv_sub hl [4, 5, 6, 2, 1, 0] rfl)
  refine lv_iconst (v := 1) hx hb dX1_partOfGreatestHeight_0 (by decide) ?_
  refine lv_istore_n (lv' := [(3, .int 1), (0, .ref ax), (1, .ref bb), (2, .int x2)]) hx hb dX1_partOfGreatestHeight_1 rfl hl (by decide) rfl (fun ls hl => ?_)
  refine lv_aload_n hx hb dX1_partOfGreatestHeight_2 rfl (lv_at hl 1 rfl) ?_
  refine lv_aload_n hx hb dX1_partOfGreatestHeight_3 rfl (lv_at hl 2 rfl) ?_
  refine lv_iload_n hx hb dX1_partOfGreatestHeight_4 rfl (lv_at hl 3 rfl) ?_
  refine lv_iconst (v := 1) hx hb dX1_partOfGreatestHeight_5 (by decide) ?_
  refine vp_callSd (W.runS (As := [.int x2, .int 1]) (rest := [.ref bb, .ref ax]) ⟨hx, hb, hml, hown, hts⟩ (k_X1_timeOfPart l x2 1) (va_cwS 2 hts gX1_partOfGreatestHeight_X1_timeOfPart rfl rfl rfl (by decide +kernel) ⟨Nat.le_of_ble_eq_true rfl, Nat.le_of_ble_eq_true rfl⟩) preEq rfl rfl hl.1 rfl (lv_room (Nat.le_of_ble_eq_true rfl)) dX1_partOfGreatestHeight_6 ⟨Nat.le_of_ble_eq_true rfl, Nat.le_of_ble_eq_true rfl⟩) (fun r hr9 => ?_)
  obtain rfl := hr9
  have hPc := hP.sub (ws' := [(ax, .inr (1, [.ref ab, .ref aw, .int wl, .double la, .double ea, .int wk, .int fl])), (bb, .inr (0, [.int st, .double oL, .double oN, .double oE, .double oW, .int (nI k), .ref bp, .ref bf, .ref bs, .ref bv])), (bp, aI 12 (cA 0) pw), (bf, aD 12 (cA 1) fa), (bs, aD 12 (cA 1) sa), (bv, aD 12 (cA 1) va)]) [0, 1, 2, 3, 4, 5] rfl
  have hDc := hD.sub (ws' := [(ax, .inr (1, [.ref ab, .ref aw, .int wl, .double la, .double ea, .int wk, .int fl])), (bb, .inr (0, [.int st, .double oL, .double oN, .double oE, .double oW, .int (nI k), .ref bp, .ref bf, .ref bs, .ref bv])), (bp, aI 12 (cA 0) pw), (bf, aD 12 (cA 1) fa), (bs, aD 12 (cA 1) sa), (bv, aD 12 (cA 1) va)]) [0, 1, 2, 3, 4, 5] (by decide) rfl
  have hFc := va_free (wc := [(ax, .inr (1, [.ref ab, .ref aw, .int wl, .double la, .double ea, .int wk, .int fl])), (bb, .inr (0, [.int st, .double oL, .double oN, .double oE, .double oW, .int (nI k), .ref bp, .ref bf, .ref bs, .ref bv])), (bp, aI 12 (cA 0) pw), (bf, aD 12 (cA 1) fa), (bs, aD 12 (cA 1) sa), (bv, aD 12 (cA 1) va)]) hD hS hA [0, 1, 2, 3, 4, 5] rfl
  refine vx_calld (vx_runV (As := [.ref bb, .double (f_X1_timeOfPart x2 1)]) (rest := []) ⟨hx, hb, hml, hown, hts⟩ (k_X1_heightOf l hst dC dI cA tm tt _ ax ab aw wl la ea wk fl bb bp bf bs bv st oL oN oE oW k pw fa sa va (f_X1_timeOfPart x2 1) hO hT hla hea (fR_mono (top_R hd ⟨by decide, by decide⟩) (by omega) (by omega))) (cwV 2 hts gX1_partOfGreatestHeight_X1_heightOf rfl rfl rfl (by decide +kernel) ⟨Nat.le_of_ble_eq_true rfl, Nat.le_of_ble_eq_true rfl⟩) ⟨PcW.blind, va_recv hK hPc (ci := 1) (q0 := 0) rfl rfl, PcW.give hPc hK hDc hE hS hFc⟩ rfl rfl hl.1 rfl (lv_room (Nat.le_of_ble_eq_true rfl)) dX1_partOfGreatestHeight_9 ⟨Nat.le_of_ble_eq_true rfl, Nat.le_of_ble_eq_true rfl⟩) hS (fun q _ h => hFc q h) hFc (fun q _ h => hFc q h) (fun E ce q9 u t H locs ht hvm hpx hBX hz1 hk1 hS hce hcv hcl => ?_) (fun v_5 u t H locs ht hvm hp_6 hB hz1 hk1 hS => ?_)
  · obtain ⟨hpx, hP1, hD1⟩ := hBX
    rw [ht] at hP1
    obtain ⟨hP, hD⟩ := va_join (wr := []) (w1 := [(ax, .inr (1, [.ref ab, .ref aw, .int wl, .double la, .double ea, .int (wk + 1), .int (fl + 1)])), (bb, .inr (0, [.int st, .double oL, .double oN, .double oE, .double oW, .int (nI k), .ref bp, .ref bf, .ref bs, .ref bv])), (bp, aI 12 (cA 0) pw), (bf, aD 12 (cA 1) fa), (bs, aD 12 (cA 1) sa), (bv, aD 12 (cA 1) va)]) hP hD [0, 1, 2, 3, 4, 5] [] rfl rfl (by decide) (by decide) hk1 hFc hP1 hD1
    have hP := hP.sub (ws' := [(ax, .inr (1, [.ref ab, .ref aw, .int wl, .double la, .double ea, .int (wk + 1), .int (fl + 1)])), (bb, .inr (0, [.int st, .double oL, .double oN, .double oE, .double oW, .int (nI k), .ref bp, .ref bf, .ref bs, .ref bv])), (bp, aI 12 (cA 0) pw), (bf, aD 12 (cA 1) fa), (bs, aD 12 (cA 1) sa), (bv, aD 12 (cA 1) va)]) [0, 1, 2, 3, 4, 5] rfl
    have hD := hD.sub (ws' := [(ax, .inr (1, [.ref ab, .ref aw, .int wl, .double la, .double ea, .int (wk + 1), .int (fl + 1)])), (bb, .inr (0, [.int st, .double oL, .double oN, .double oE, .double oW, .int (nI k), .ref bp, .ref bf, .ref bs, .ref bv])), (bp, aI 12 (cA 0) pw), (bf, aD 12 (cA 1) fa), (bs, aD 12 (cA 1) sa), (bv, aD 12 (cA 1) va)]) [0, 1, 2, 3, 4, 5] (by decide) rfl
    have e0 : PGR (HEI la ea oL oN oE oW k pw fa sa va) x2 = (1, .error E) := PGR_e hpx
    have hP : va_P (dC, dI) vwCl [(ax, .inr (1, [.ref ab, .ref aw, .int wl, .double la, .double ea, .int (wk + nI (PGR (HEI la ea oL oN oE oW k pw fa sa va) x2).1), .int (fl + 1)])), (bb, .inr (0, [.int st, .double oL, .double oN, .double oE, .double oW, .int (nI k), .ref bp, .ref bf, .ref bs, .ref bv])), (bp, aI 12 (cA 0) pw), (bf, aD 12 (cA 1) fa), (bs, aD 12 (cA 1) sa), (bv, aD 12 (cA 1) va)] H := by rw [e0]; simp only; rw [wk_1]; exact hP
    have hD : va_D A [(ax, .inr (1, [.ref ab, .ref aw, .int wl, .double la, .double ea, .int (wk + nI (PGR (HEI la ea oL oN oE oW k pw fa sa va) x2).1), .int (fl + 1)])), (bb, .inr (0, [.int st, .double oL, .double oN, .double oE, .double oW, .int (nI k), .ref bp, .ref bf, .ref bs, .ref bv])), (bp, aI 12 (cA 0) pw), (bf, aD 12 (cA 1) fa), (bs, aD 12 (cA 1) sa), (bv, aD 12 (cA 1) va)] := by rw [e0]; simp only; rw [wk_1]; exact hD
    subst hQQ
    exact vx_out (fun x hx9 => (hnt x hx9).elim) hlocks hce hcv hcl (fun t ht hvm => ⟨(), trivial, ⟨(by rw [e0] <;> rfl), by rw [ht]; exact hP, hD⟩, hS.F ht⟩) hS.2.2 (Nat.le_of_ble_eq_true rfl) (Nat.le_of_ble_eq_true rfl)
  · obtain ⟨hP1, hD1⟩ := hB
    rw [ht] at hP1
    obtain ⟨hP, hD⟩ := va_join (wr := []) (w1 := [(ax, .inr (1, [.ref ab, .ref aw, .int wl, .double la, .double ea, .int (wk + 1), .int fl])), (bb, .inr (0, [.int st, .double oL, .double oN, .double oE, .double oW, .int (nI k), .ref bp, .ref bf, .ref bs, .ref bv])), (bp, aI 12 (cA 0) pw), (bf, aD 12 (cA 1) fa), (bs, aD 12 (cA 1) sa), (bv, aD 12 (cA 1) va)]) hP hD [0, 1, 2, 3, 4, 5] [] rfl rfl (by decide) (by decide) hk1 hFc hP1 hD1
    have hP := hP.sub (ws' := [(ax, .inr (1, [.ref ab, .ref aw, .int wl, .double la, .double ea, .int (wk + 1), .int fl])), (bb, .inr (0, [.int st, .double oL, .double oN, .double oE, .double oW, .int (nI k), .ref bp, .ref bf, .ref bs, .ref bv])), (bp, aI 12 (cA 0) pw), (bf, aD 12 (cA 1) fa), (bs, aD 12 (cA 1) sa), (bv, aD 12 (cA 1) va)]) [0, 1, 2, 3, 4, 5] rfl
    have hD := hD.sub (ws' := [(ax, .inr (1, [.ref ab, .ref aw, .int wl, .double la, .double ea, .int (wk + 1), .int fl])), (bb, .inr (0, [.int st, .double oL, .double oN, .double oE, .double oW, .int (nI k), .ref bp, .ref bf, .ref bs, .ref bv])), (bp, aI 12 (cA 0) pw), (bf, aD 12 (cA 1) fa), (bs, aD 12 (cA 1) sa), (bv, aD 12 (cA 1) va)]) [0, 1, 2, 3, 4, 5] (by decide) rfl
    have hQ0 := PGR_o hp_6
    have hP : va_P (dC, dI) vwCl [(ax, .inr (1, [.ref ab, .ref aw, .int wl, .double la, .double ea, .int (wk + nI (2 - 1)), .int fl])), (bb, .inr (0, [.int st, .double oL, .double oN, .double oE, .double oW, .int (nI k), .ref bp, .ref bf, .ref bs, .ref bv])), (bp, aI 12 (cA 0) pw), (bf, aD 12 (cA 1) fa), (bs, aD 12 (cA 1) sa), (bv, aD 12 (cA 1) va)] H := by rw [show wk + nI (2 - 1) = wk + 1 from rfl]; exact hP
    have hD : va_D A [(ax, .inr (1, [.ref ab, .ref aw, .int wl, .double la, .double ea, .int (wk + nI (2 - 1)), .int fl])), (bb, .inr (0, [.int st, .double oL, .double oN, .double oE, .double oW, .int (nI k), .ref bp, .ref bf, .ref bs, .ref bv])), (bp, aI 12 (cA 0) pw), (bf, aD 12 (cA 1) fa), (bs, aD 12 (cA 1) sa), (bv, aD 12 (cA 1) va)] := by rw [show wk + nI (2 - 1) = wk + 1 from rfl]; exact hD
    refine lv_dstore (lv' := [(4, .double v_5), (3, .int 1), (0, .ref ax), (1, .ref bb), (2, .int x2)]) hx hb dX1_partOfGreatestHeight_12 hl (by decide) rfl (fun ls hl => ?_)
    refine lv_iconst (v := 2) hx hb dX1_partOfGreatestHeight_14 (by decide) ?_
    refine lv_istore (lv' := [(6, .int (nI 2)), (4, .double v_5), (3, .int 1), (0, .ref ax), (1, .ref bb), (2, .int x2)]) hx hb dX1_partOfGreatestHeight_15 hl (by decide) rfl (fun ls hl => ?_)
    refine W.widen (k := 2) (n := 6 * 2) (by omega) (by omega) ?_
    exact hloop17 17 2 _ _ (by decide) (by decide) (by decide) hQ0 _ _ _ hP hD hS (lv_sub hl [3, 4, 5, 2, 1, 0] rfl)

set_option maxHeartbeats 4000000 in
set_option maxRecDepth 100000 in
theorem k_X1_narrowedToHighest (l : Launch) (hst : l.stackTraces = false) (dC : Nat → ClassId) (dI : Nat → Nat → Nat) (cA : Nat → ClassId) (tm tt sz : Nat) (ax ab aw : Nat) (wl : Int32) (la ea : UInt64) (wk fl : Int32) (bb bp bf bs bv : Nat) (st : Int32) (oL oN oE oW : UInt64) (k : Nat) (pw : Nat → Int32) (fa sa va : Nat → UInt64) (x2 : Int32) (x3 : Int32) (hO : oOK oL oN oE oW) (hT : tOK k fa sa va) (hla : fR la (-96636764160) 96636764160) (hea : fR ea (-193273528320) 193273528320) (hd : -1000000 ≤ x2.toInt ∧ x2.toInt ≤ 1000000) (h3 : 1 ≤ x3.toInt ∧ x3.toInt ≤ 15) : vx_Met l yX1_narrowedToHighest wsX1_narrowedToHighest ({ frames := 9, cells := 48, slots := 288, locals := 178 }) (PcW dC dI cA tm tt sz [.ref ax, .ref bb, .int x2, .int x3] [(ax, .inr (1, [.ref ab, .ref aw, .int wl, .double la, .double ea, .int wk, .int fl])), (bb, .inr (0, [.int st, .double oL, .double oN, .double oE, .double oW, .int (nI k), .ref bp, .ref bf, .ref bs, .ref bv])), (bp, aI 12 (cA 0) pw), (bf, aD 12 (cA 1) fa), (bs, aD 12 (cA 1) sa), (bv, aD 12 (cA 1) va)]) (va_Qd (fun r (_ : Unit) => (NHR (HEI la ea oL oN oE oW k pw fa sa va) x2 x3).2 = .ok r) (fun _ t => WB dC dI (va_A [(ax, .inr (1, [.ref ab, .ref aw, .int wl, .double la, .double ea, .int wk, .int fl])), (bb, .inr (0, [.int st, .double oL, .double oN, .double oE, .double oW, .int (nI k), .ref bp, .ref bf, .ref bs, .ref bv])), (bp, aI 12 (cA 0) pw), (bf, aD 12 (cA 1) fa), (bs, aD 12 (cA 1) sa), (bv, aD 12 (cA 1) va)] sz) [(ax, .inr (1, [.ref ab, .ref aw, .int wl, .double la, .double ea, .int (wk + nI (NHR (HEI la ea oL oN oE oW k pw fa sa va) x2 x3).1), .int fl])), (bb, .inr (0, [.int st, .double oL, .double oN, .double oE, .double oW, .int (nI k), .ref bp, .ref bf, .ref bs, .ref bv])), (bp, aI 12 (cA 0) pw), (bf, aD 12 (cA 1) fa), (bs, aD 12 (cA 1) sa), (bv, aD 12 (cA 1) va)] t) (va_A [(ax, .inr (1, [.ref ab, .ref aw, .int wl, .double la, .double ea, .int wk, .int fl])), (bb, .inr (0, [.int st, .double oL, .double oN, .double oE, .double oW, .int (nI k), .ref bp, .ref bf, .ref bs, .ref bv])), (bp, aI 12 (cA 0) pw), (bf, aD 12 (cA 1) fa), (bs, aD 12 (cA 1) sa), (bv, aD 12 (cA 1) va)] sz)) (vx_X (fun (_ : Unit) => True) (fun E _ t => (NHR (HEI la ea oL oN oE oW k pw fa sa va) x2 x3).2 = .error E ∧ WB dC dI (va_A [(ax, .inr (1, [.ref ab, .ref aw, .int wl, .double la, .double ea, .int wk, .int fl])), (bb, .inr (0, [.int st, .double oL, .double oN, .double oE, .double oW, .int (nI k), .ref bp, .ref bf, .ref bs, .ref bv])), (bp, aI 12 (cA 0) pw), (bf, aD 12 (cA 1) fa), (bs, aD 12 (cA 1) sa), (bv, aD 12 (cA 1) va)] sz) [(ax, .inr (1, [.ref ab, .ref aw, .int wl, .double la, .double ea, .int (wk + nI (NHR (HEI la ea oL oN oE oW k pw fa sa va) x2 x3).1), .int (fl + 1)])), (bb, .inr (0, [.int st, .double oL, .double oN, .double oE, .double oW, .int (nI k), .ref bp, .ref bf, .ref bs, .ref bv])), (bp, aI 12 (cA 0) pw), (bf, aD 12 (cA 1) fa), (bs, aD 12 (cA 1) sa), (bv, aD 12 (cA 1) va)] t) (va_A [(ax, .inr (1, [.ref ab, .ref aw, .int wl, .double la, .double ea, .int wk, .int fl])), (bb, .inr (0, [.int st, .double oL, .double oN, .double oE, .double oW, .int (nI k), .ref bp, .ref bf, .ref bs, .ref bv])), (bp, aI 12 (cA 0) pw), (bf, aD 12 (cA 1) fa), (bs, aD 12 (cA 1) sa), (bv, aD 12 (cA 1) va)] sz)) 48 288 (va_A [(ax, .inr (1, [.ref ab, .ref aw, .int wl, .double la, .double ea, .int wk, .int fl])), (bb, .inr (0, [.int st, .double oL, .double oN, .double oE, .double oW, .int (nI k), .ref bp, .ref bf, .ref bs, .ref bv])), (bp, aI 12 (cA 0) pw), (bf, aD 12 (cA 1) fa), (bs, aD 12 (cA 1) sa), (bv, aD 12 (cA 1) va)] sz) := by
  refine vx_ofW (cc := cX1_narrowedToHighest) (maxL := 17) (ret := (some .double)) (by decide) rfl ?_
  intro p e s m args below meth c s₁ B hml hnt hv
  obtain ⟨rfl, hsz, hP, hK, hD0, hE⟩ := hv
  subst hsz
  have hD := hD0.self (sz := s.heap.size)
  generalize hAe : va_A [(ax, .inr (1, [.ref ab, .ref aw, .int wl, .double la, .double ea, .int wk, .int fl])), (bb, .inr (0, [.int st, .double oL, .double oN, .double oE, .double oW, .int (nI k), .ref bp, .ref bf, .ref bs, .ref bv])), (bp, aI 12 (cA 0) pw), (bf, aD 12 (cA 1) fa), (bs, aD 12 (cA 1) sa), (bv, aD 12 (cA 1) va)] s.heap.size = A at hD hE ⊢
  have hA : ∀ q : Nat, s.heap.size ≤ q → A q := fun q h => by rw [← hAe]; exact Or.inr h
  have hS : va_S A s.heap s.heap [] := va_S.rf
  have hP : va_P (dC, dI) vwCl [(ax, .inr (1, [.ref ab, .ref aw, .int wl, .double la, .double ea, .int wk, .int fl])), (bb, .inr (0, [.int st, .double oL, .double oN, .double oE, .double oW, .int (nI k), .ref bp, .ref bf, .ref bs, .ref bv])), (bp, aI 12 (cA 0) pw), (bf, aD 12 (cA 1) fa), (bs, aD 12 (cA 1) sa), (bv, aD 12 (cA 1) va)] s.heap := hP
  have hx := B.exec
  have hb := B.bytes
  have hr := B.returns
  have hts := atoms_spec (ws := wsX1_narrowedToHighest) B.pre
  have hown : s.vm.findClass RX1 = some m.cls := findClass_of_methodNamed B.named
  have hlocks := B.notSynchronized
  have hl := lv_entry ([.ref ax, .ref bb, .int x2, .int x3]) (n := 17) (Nat.le_of_ble_eq_true rfl)
  rw [lg_entry_eq]
  generalize (lg_sl ([.ref ax, .ref bb, .int x2, .int x3]) ++ List.replicate (17 - (lg_sl ([.ref ax, .ref bb, .int x2, .int x3])).length) Slot.unset).toArray = ls at hl ⊢
  have hl : lv_has ls 17 [(0, .ref ax), (1, .ref bb), (2, .int x2), (3, .int x3)] := hl
  refine W.gen (fun QQ hQQ => ?_)

  have hloop21 : ∀ (n : Nat) (j : Nat) (ta tb : UInt64), 25 - j ≤ n → j ≤ 24 → fR ta ((x2.toInt * 1073741824) - wd j) ((x2.toInt * 1073741824) + wd j) → fR tb ((x2.toInt * 1073741824) - wd j) ((x2.toInt * 1073741824) + wd j) → NHR (HEI la ea oL oN oE oW k pw fa sa va) x2 x3 = addc (2 * j) (nhL (HEI la ea oL oN oE oW k pw fa sa va) (24 - j) ta tb) → ∀ (H : Heap) (locs : List Loc) (ls : Array Slot), va_P (dC, dI) vwCl [(ax, .inr (1, [.ref ab, .ref aw, .int wl, .double la, .double ea, .int (wk + nI (2 * j)), .int fl])), (bb, .inr (0, [.int st, .double oL, .double oN, .double oE, .double oW, .int (nI k), .ref bp, .ref bf, .ref bs, .ref bv])), (bp, aI 12 (cA 0) pw), (bf, aD 12 (cA 1) fa), (bs, aD 12 (cA 1) sa), (bv, aD 12 (cA 1) va)] H → va_D A [(ax, .inr (1, [.ref ab, .ref aw, .int wl, .double la, .double ea, .int (wk + nI (2 * j)), .int fl])), (bb, .inr (0, [.int st, .double oL, .double oN, .double oE, .double oW, .int (nI k), .ref bp, .ref bf, .ref bs, .ref bv])), (bp, aI 12 (cA 0) pw), (bf, aD 12 (cA 1) fa), (bs, aD 12 (cA 1) sa), (bv, aD 12 (cA 1) va)] → va_S A s.heap H locs → lv_has ls 17 [(0, .ref ax), (1, .ref bb), (4, .double ta), (6, .double tb), (8, .int (nI j))] → W p l e (headSpec wsX1_narrowedToHighest ({ frames := 9, cells := 48, slots := 288, locals := 178 })).room s m ([.ref ax, .ref bb, .int x2, .int x3] : List Value).toArray below meth c H locs (2 * j) (12 * j) QQ (F0 m 21 ls []) := by
    intro n
    induction n with
    | zero =>
      intro j ta tb hf hj ha hb9 hQ
      exact absurd hf (by omega)
    | succ n ih =>
      intro j ta tb hf hj ha hb9 hQ H locs ls hP hD hS hl
      have hwi := wd_in j (by omega)
      refine lv_iload hx hb dX1_narrowedToHighest_21 (lv_at hl 4 rfl) ?_
      refine lv_bipush (v := 24) hx hb dX1_narrowedToHighest_23 (by decide) ?_
      refine lv_icmp_ge (tgt := 99) hx hb dX1_narrowedToHighest_25 (by decide) (fun c_1 => ?_) (fun c_1 => ?_)
      · have hj9 : j = 24 := by
          rcases Nat.lt_or_ge j 24 with h9 | h9
          · exact absurd c_1 (nI_lt24 (by omega))
          · omega
        have hm := mid_R ha hb9 (by omega) (by omega) (by omega)
        have e0 : NHR (HEI la ea oL oN oE oW k pw fa sa va) x2 x3 = (2 * j, .ok (MID ta tb)) := by rw [hQ, hj9]; rfl
        have hP : va_P (dC, dI) vwCl [(ax, .inr (1, [.ref ab, .ref aw, .int wl, .double la, .double ea, .int (wk + nI (NHR (HEI la ea oL oN oE oW k pw fa sa va) x2 x3).1), .int fl])), (bb, .inr (0, [.int st, .double oL, .double oN, .double oE, .double oW, .int (nI k), .ref bp, .ref bf, .ref bs, .ref bv])), (bp, aI 12 (cA 0) pw), (bf, aD 12 (cA 1) fa), (bs, aD 12 (cA 1) sa), (bv, aD 12 (cA 1) va)] H := by rw [e0]; simp only; skip; exact hP
        have hD : va_D A [(ax, .inr (1, [.ref ab, .ref aw, .int wl, .double la, .double ea, .int (wk + nI (NHR (HEI la ea oL oN oE oW k pw fa sa va) x2 x3).1), .int fl])), (bb, .inr (0, [.int st, .double oL, .double oN, .double oE, .double oW, .int (nI k), .ref bp, .ref bf, .ref bs, .ref bv])), (bp, aI 12 (cA 0) pw), (bf, aD 12 (cA 1) fa), (bs, aD 12 (cA 1) sa), (bv, aD 12 (cA 1) va)] := by rw [e0]; simp only; skip; exact hD
        refine lv_dload hx hb dX1_narrowedToHighest_99 (lv_at hl 2 rfl) ?_
        refine lv_dload hx hb dX1_narrowedToHighest_101 (lv_at hl 3 rfl) ?_
        refine lv_dadd hx hb dX1_narrowedToHighest_103 (fR_nn hm.2) ?_
        refine lv_ldc2d hx hb hown (hts (.constantDouble RX1 251 (4611686018427387904)) (by decide +kernel)) dX1_narrowedToHighest_104 ?_
        have r_2 : fR 4611686018427387904 2147483648 2147483648 := fR_lit (by decide +kernel)
        refine lv_ddiv hx hb dX1_narrowedToHighest_107 (fR_nn hm.1) ?_
        subst hQQ
        refine W.widen (k := 48) (n := 288) ((show 2 * j ≤ 48 by omega)) ((show 12 * j ≤ 288 by omega)) ?_
        exact vx_ret (W.dret hx hb hr (fun t ht hW => ⟨⟨_, (), rfl, (by rw [e0] <;> rfl), ⟨by rw [ht]; exact hP, hD⟩⟩, hS.F ht⟩) hS.2.2 dX1_narrowedToHighest_108)
      · have hj6 := nI_ge_ (b := 24) (n := 24) rfl (by omega) c_1
        have hw := wd_ok j hj6
        have hth := th_R ha hb9 hw.1 (by omega) (by omega) hw.2.2.1 (wd (j + 1)) hw.2.1 hw.2.2.2
        have hwj := wd_in (j + 1) (by omega)
        refine lv_dload hx hb dX1_narrowedToHighest_28 (lv_at hl 2 rfl) ?_
        refine lv_dload hx hb dX1_narrowedToHighest_30 (lv_at hl 3 rfl) ?_
        refine lv_dload hx hb dX1_narrowedToHighest_32 (lv_at hl 2 rfl) ?_
        refine lv_dsub hx hb dX1_narrowedToHighest_34 (fR_nn hth.1) ?_
        refine lv_ldc2d hx hb hown (hts (.constantDouble RX1 308 (4613937818241073152)) (by decide +kernel)) dX1_narrowedToHighest_35 ?_
        have r_3 : fR 4613937818241073152 3221225472 3221225472 := fR_lit (by decide +kernel)
        refine lv_ddiv hx hb dX1_narrowedToHighest_38 (fR_nn hth.2.1) ?_
        refine lv_dadd hx hb dX1_narrowedToHighest_39 (fR_nn hth.2.2.1) ?_
        refine lv_dstore (lv' := [(9, .double (TH1 ta tb)), (0, .ref ax), (1, .ref bb), (4, .double ta), (6, .double tb), (8, .int (nI j))]) hx hb dX1_narrowedToHighest_40 hl (by decide) rfl (fun ls hl => ?_)
        refine lv_dload hx hb dX1_narrowedToHighest_42 (lv_at hl 4 rfl) ?_
        refine lv_dload hx hb dX1_narrowedToHighest_44 (lv_at hl 4 rfl) ?_
        refine lv_dload hx hb dX1_narrowedToHighest_46 (lv_at hl 3 rfl) ?_
        refine lv_dsub hx hb dX1_narrowedToHighest_48 (fR_nn hth.1) ?_
        refine lv_ldc2d hx hb hown (hts (.constantDouble RX1 308 (4613937818241073152)) (by decide +kernel)) dX1_narrowedToHighest_49 ?_
        have r_4 : fR 4613937818241073152 3221225472 3221225472 := fR_lit (by decide +kernel)
        refine lv_ddiv hx hb dX1_narrowedToHighest_52 (fR_nn hth.2.1) ?_
        refine lv_dsub hx hb dX1_narrowedToHighest_53 (fR_nn hth.2.2.2) ?_
        refine lv_dstore (lv' := [(11, .double (TH2 ta tb)), (9, .double (TH1 ta tb)), (0, .ref ax), (1, .ref bb), (4, .double ta), (6, .double tb), (8, .int (nI j))]) hx hb dX1_narrowedToHighest_54 hl (by decide) rfl (fun ls hl => ?_)
        refine lv_aload_n hx hb dX1_narrowedToHighest_56 rfl (lv_at hl 2 rfl) ?_
        refine lv_aload_n hx hb dX1_narrowedToHighest_57 rfl (lv_at hl 3 rfl) ?_
        refine lv_dload hx hb dX1_narrowedToHighest_58 (lv_at hl 1 rfl) ?_
        have hPc := hP.sub (ws' := [(ax, .inr (1, [.ref ab, .ref aw, .int wl, .double la, .double ea, .int (wk + nI (2 * j)), .int fl])), (bb, .inr (0, [.int st, .double oL, .double oN, .double oE, .double oW, .int (nI k), .ref bp, .ref bf, .ref bs, .ref bv])), (bp, aI 12 (cA 0) pw), (bf, aD 12 (cA 1) fa), (bs, aD 12 (cA 1) sa), (bv, aD 12 (cA 1) va)]) [0, 1, 2, 3, 4, 5] rfl
        have hDc := hD.sub (ws' := [(ax, .inr (1, [.ref ab, .ref aw, .int wl, .double la, .double ea, .int (wk + nI (2 * j)), .int fl])), (bb, .inr (0, [.int st, .double oL, .double oN, .double oE, .double oW, .int (nI k), .ref bp, .ref bf, .ref bs, .ref bv])), (bp, aI 12 (cA 0) pw), (bf, aD 12 (cA 1) fa), (bs, aD 12 (cA 1) sa), (bv, aD 12 (cA 1) va)]) [0, 1, 2, 3, 4, 5] (by decide) rfl
        have hFc := va_free (wc := [(ax, .inr (1, [.ref ab, .ref aw, .int wl, .double la, .double ea, .int (wk + nI (2 * j)), .int fl])), (bb, .inr (0, [.int st, .double oL, .double oN, .double oE, .double oW, .int (nI k), .ref bp, .ref bf, .ref bs, .ref bv])), (bp, aI 12 (cA 0) pw), (bf, aD 12 (cA 1) fa), (bs, aD 12 (cA 1) sa), (bv, aD 12 (cA 1) va)]) hD hS hA [0, 1, 2, 3, 4, 5] rfl
        refine vx_calld (vx_runV (As := [.ref bb, .double (TH1 ta tb)]) (rest := []) ⟨hx, hb, hml, hown, hts⟩ (k_X1_heightOf l hst dC dI cA tm tt _ ax ab aw wl la ea (wk + nI (2 * j)) fl bb bp bf bs bv st oL oN oE oW k pw fa sa va (TH1 ta tb) hO hT hla hea (fR_mono hth.2.2.1 (by omega) (by omega))) (cwV 2 hts gX1_narrowedToHighest_X1_heightOf rfl rfl rfl (by decide +kernel) ⟨Nat.le_of_ble_eq_true rfl, Nat.le_of_ble_eq_true rfl⟩) ⟨PcW.blind, va_recv hK hPc (ci := 1) (q0 := 0) rfl rfl, PcW.give hPc hK hDc hE hS hFc⟩ rfl rfl hl.1 rfl (lv_room (Nat.le_of_ble_eq_true rfl)) dX1_narrowedToHighest_60 ⟨(show 2 * j + 1 ≤ 48 by omega), (show 12 * j + 6 ≤ 288 by omega)⟩) hS (fun q _ h => hFc q h) hFc (fun q _ h => hFc q h) (fun E ce q9 u t H locs ht hvm hpx hBX hz1 hk1 hS hce hcv hcl => ?_) (fun v_5 u t H locs ht hvm hp_6 hB hz1 hk1 hS => ?_)
        · obtain ⟨hpx, hP1, hD1⟩ := hBX
          rw [ht] at hP1
          obtain ⟨hP, hD⟩ := va_join (wr := []) (w1 := [(ax, .inr (1, [.ref ab, .ref aw, .int wl, .double la, .double ea, .int ((wk + nI (2 * j)) + 1), .int (fl + 1)])), (bb, .inr (0, [.int st, .double oL, .double oN, .double oE, .double oW, .int (nI k), .ref bp, .ref bf, .ref bs, .ref bv])), (bp, aI 12 (cA 0) pw), (bf, aD 12 (cA 1) fa), (bs, aD 12 (cA 1) sa), (bv, aD 12 (cA 1) va)]) hP hD [0, 1, 2, 3, 4, 5] [] rfl rfl (by decide) (by decide) hk1 hFc hP1 hD1
          have hP := hP.sub (ws' := [(ax, .inr (1, [.ref ab, .ref aw, .int wl, .double la, .double ea, .int ((wk + nI (2 * j)) + 1), .int (fl + 1)])), (bb, .inr (0, [.int st, .double oL, .double oN, .double oE, .double oW, .int (nI k), .ref bp, .ref bf, .ref bs, .ref bv])), (bp, aI 12 (cA 0) pw), (bf, aD 12 (cA 1) fa), (bs, aD 12 (cA 1) sa), (bv, aD 12 (cA 1) va)]) [0, 1, 2, 3, 4, 5] rfl
          have hD := hD.sub (ws' := [(ax, .inr (1, [.ref ab, .ref aw, .int wl, .double la, .double ea, .int ((wk + nI (2 * j)) + 1), .int (fl + 1)])), (bb, .inr (0, [.int st, .double oL, .double oN, .double oE, .double oW, .int (nI k), .ref bp, .ref bf, .ref bs, .ref bv])), (bp, aI 12 (cA 0) pw), (bf, aD 12 (cA 1) fa), (bs, aD 12 (cA 1) sa), (bv, aD 12 (cA 1) va)]) [0, 1, 2, 3, 4, 5] (by decide) rfl
          have e0 : NHR (HEI la ea oL oN oE oW k pw fa sa va) x2 x3 = (2 * j + 1, .error E) := by rw [hQ, nhL_e1 (show j < 24 by omega) hpx]; rfl
          have hP : va_P (dC, dI) vwCl [(ax, .inr (1, [.ref ab, .ref aw, .int wl, .double la, .double ea, .int (wk + nI (NHR (HEI la ea oL oN oE oW k pw fa sa va) x2 x3).1), .int (fl + 1)])), (bb, .inr (0, [.int st, .double oL, .double oN, .double oE, .double oW, .int (nI k), .ref bp, .ref bf, .ref bs, .ref bv])), (bp, aI 12 (cA 0) pw), (bf, aD 12 (cA 1) fa), (bs, aD 12 (cA 1) sa), (bv, aD 12 (cA 1) va)] H := by rw [e0]; simp only; rw [wk_s]; exact hP
          have hD : va_D A [(ax, .inr (1, [.ref ab, .ref aw, .int wl, .double la, .double ea, .int (wk + nI (NHR (HEI la ea oL oN oE oW k pw fa sa va) x2 x3).1), .int (fl + 1)])), (bb, .inr (0, [.int st, .double oL, .double oN, .double oE, .double oW, .int (nI k), .ref bp, .ref bf, .ref bs, .ref bv])), (bp, aI 12 (cA 0) pw), (bf, aD 12 (cA 1) fa), (bs, aD 12 (cA 1) sa), (bv, aD 12 (cA 1) va)] := by rw [e0]; simp only; rw [wk_s]; exact hD
          subst hQQ
          exact vx_out (fun x hx9 => (hnt x hx9).elim) hlocks hce hcv hcl (fun t ht hvm => ⟨(), trivial, ⟨(by rw [e0] <;> rfl), by rw [ht]; exact hP, hD⟩, hS.F ht⟩) hS.2.2 ((show 2 * j + 1 ≤ 48 by omega)) ((show 12 * j + 6 ≤ 288 by omega))
        · obtain ⟨hP1, hD1⟩ := hB
          rw [ht] at hP1
          obtain ⟨hP, hD⟩ := va_join (wr := []) (w1 := [(ax, .inr (1, [.ref ab, .ref aw, .int wl, .double la, .double ea, .int ((wk + nI (2 * j)) + 1), .int fl])), (bb, .inr (0, [.int st, .double oL, .double oN, .double oE, .double oW, .int (nI k), .ref bp, .ref bf, .ref bs, .ref bv])), (bp, aI 12 (cA 0) pw), (bf, aD 12 (cA 1) fa), (bs, aD 12 (cA 1) sa), (bv, aD 12 (cA 1) va)]) hP hD [0, 1, 2, 3, 4, 5] [] rfl rfl (by decide) (by decide) hk1 hFc hP1 hD1
          have hP := hP.sub (ws' := [(ax, .inr (1, [.ref ab, .ref aw, .int wl, .double la, .double ea, .int ((wk + nI (2 * j)) + 1), .int fl])), (bb, .inr (0, [.int st, .double oL, .double oN, .double oE, .double oW, .int (nI k), .ref bp, .ref bf, .ref bs, .ref bv])), (bp, aI 12 (cA 0) pw), (bf, aD 12 (cA 1) fa), (bs, aD 12 (cA 1) sa), (bv, aD 12 (cA 1) va)]) [0, 1, 2, 3, 4, 5] rfl
          have hD := hD.sub (ws' := [(ax, .inr (1, [.ref ab, .ref aw, .int wl, .double la, .double ea, .int ((wk + nI (2 * j)) + 1), .int fl])), (bb, .inr (0, [.int st, .double oL, .double oN, .double oE, .double oW, .int (nI k), .ref bp, .ref bf, .ref bs, .ref bv])), (bp, aI 12 (cA 0) pw), (bf, aD 12 (cA 1) fa), (bs, aD 12 (cA 1) sa), (bv, aD 12 (cA 1) va)]) [0, 1, 2, 3, 4, 5] (by decide) rfl
          have hP : va_P (dC, dI) vwCl [(ax, .inr (1, [.ref ab, .ref aw, .int wl, .double la, .double ea, .int (wk + nI (2 * j + 1)), .int fl])), (bb, .inr (0, [.int st, .double oL, .double oN, .double oE, .double oW, .int (nI k), .ref bp, .ref bf, .ref bs, .ref bv])), (bp, aI 12 (cA 0) pw), (bf, aD 12 (cA 1) fa), (bs, aD 12 (cA 1) sa), (bv, aD 12 (cA 1) va)] H := by rw [wk_s]; exact hP
          have hD : va_D A [(ax, .inr (1, [.ref ab, .ref aw, .int wl, .double la, .double ea, .int (wk + nI (2 * j + 1)), .int fl])), (bb, .inr (0, [.int st, .double oL, .double oN, .double oE, .double oW, .int (nI k), .ref bp, .ref bf, .ref bs, .ref bv])), (bp, aI 12 (cA 0) pw), (bf, aD 12 (cA 1) fa), (bs, aD 12 (cA 1) sa), (bv, aD 12 (cA 1) va)] := by rw [wk_s]; exact hD
          refine lv_dstore (lv' := [(13, .double v_5), (11, .double (TH2 ta tb)), (9, .double (TH1 ta tb)), (0, .ref ax), (1, .ref bb), (4, .double ta), (6, .double tb), (8, .int (nI j))]) hx hb dX1_narrowedToHighest_63 hl (by decide) rfl (fun ls hl => ?_)
          refine lv_aload_n hx hb dX1_narrowedToHighest_65 rfl (lv_at hl 3 rfl) ?_
          refine lv_aload_n hx hb dX1_narrowedToHighest_66 rfl (lv_at hl 4 rfl) ?_
          refine lv_dload hx hb dX1_narrowedToHighest_67 (lv_at hl 1 rfl) ?_
          have hPc := hP.sub (ws' := [(ax, .inr (1, [.ref ab, .ref aw, .int wl, .double la, .double ea, .int (wk + nI (2 * j + 1)), .int fl])), (bb, .inr (0, [.int st, .double oL, .double oN, .double oE, .double oW, .int (nI k), .ref bp, .ref bf, .ref bs, .ref bv])), (bp, aI 12 (cA 0) pw), (bf, aD 12 (cA 1) fa), (bs, aD 12 (cA 1) sa), (bv, aD 12 (cA 1) va)]) [0, 1, 2, 3, 4, 5] rfl
          have hDc := hD.sub (ws' := [(ax, .inr (1, [.ref ab, .ref aw, .int wl, .double la, .double ea, .int (wk + nI (2 * j + 1)), .int fl])), (bb, .inr (0, [.int st, .double oL, .double oN, .double oE, .double oW, .int (nI k), .ref bp, .ref bf, .ref bs, .ref bv])), (bp, aI 12 (cA 0) pw), (bf, aD 12 (cA 1) fa), (bs, aD 12 (cA 1) sa), (bv, aD 12 (cA 1) va)]) [0, 1, 2, 3, 4, 5] (by decide) rfl
          have hFc := va_free (wc := [(ax, .inr (1, [.ref ab, .ref aw, .int wl, .double la, .double ea, .int (wk + nI (2 * j + 1)), .int fl])), (bb, .inr (0, [.int st, .double oL, .double oN, .double oE, .double oW, .int (nI k), .ref bp, .ref bf, .ref bs, .ref bv])), (bp, aI 12 (cA 0) pw), (bf, aD 12 (cA 1) fa), (bs, aD 12 (cA 1) sa), (bv, aD 12 (cA 1) va)]) hD hS hA [0, 1, 2, 3, 4, 5] rfl
          refine vx_calld (vx_runV (As := [.ref bb, .double (TH2 ta tb)]) (rest := []) ⟨hx, hb, hml, hown, hts⟩ (k_X1_heightOf l hst dC dI cA tm tt _ ax ab aw wl la ea (wk + nI (2 * j + 1)) fl bb bp bf bs bv st oL oN oE oW k pw fa sa va (TH2 ta tb) hO hT hla hea (fR_mono hth.2.2.2 (by omega) (by omega))) (cwV 2 hts gX1_narrowedToHighest_X1_heightOf rfl rfl rfl (by decide +kernel) ⟨Nat.le_of_ble_eq_true rfl, Nat.le_of_ble_eq_true rfl⟩) ⟨PcW.blind, va_recv hK hPc (ci := 1) (q0 := 0) rfl rfl, PcW.give hPc hK hDc hE hS hFc⟩ rfl rfl hl.1 rfl (lv_room (Nat.le_of_ble_eq_true rfl)) dX1_narrowedToHighest_69 ⟨(show 2 * j + 1 + 1 ≤ 48 by omega), (show 12 * j + 6 + 6 ≤ 288 by omega)⟩) hS (fun q _ h => hFc q h) hFc (fun q _ h => hFc q h) (fun E ce q9 u t H locs ht hvm hpx hBX hz1 hk1 hS hce hcv hcl => ?_) (fun v_7 u t H locs ht hvm hp_8 hB hz1 hk1 hS => ?_)
          · obtain ⟨hpx, hP1, hD1⟩ := hBX
            rw [ht] at hP1
            obtain ⟨hP, hD⟩ := va_join (wr := []) (w1 := [(ax, .inr (1, [.ref ab, .ref aw, .int wl, .double la, .double ea, .int ((wk + nI (2 * j + 1)) + 1), .int (fl + 1)])), (bb, .inr (0, [.int st, .double oL, .double oN, .double oE, .double oW, .int (nI k), .ref bp, .ref bf, .ref bs, .ref bv])), (bp, aI 12 (cA 0) pw), (bf, aD 12 (cA 1) fa), (bs, aD 12 (cA 1) sa), (bv, aD 12 (cA 1) va)]) hP hD [0, 1, 2, 3, 4, 5] [] rfl rfl (by decide) (by decide) hk1 hFc hP1 hD1
            have hP := hP.sub (ws' := [(ax, .inr (1, [.ref ab, .ref aw, .int wl, .double la, .double ea, .int ((wk + nI (2 * j + 1)) + 1), .int (fl + 1)])), (bb, .inr (0, [.int st, .double oL, .double oN, .double oE, .double oW, .int (nI k), .ref bp, .ref bf, .ref bs, .ref bv])), (bp, aI 12 (cA 0) pw), (bf, aD 12 (cA 1) fa), (bs, aD 12 (cA 1) sa), (bv, aD 12 (cA 1) va)]) [0, 1, 2, 3, 4, 5] rfl
            have hD := hD.sub (ws' := [(ax, .inr (1, [.ref ab, .ref aw, .int wl, .double la, .double ea, .int ((wk + nI (2 * j + 1)) + 1), .int (fl + 1)])), (bb, .inr (0, [.int st, .double oL, .double oN, .double oE, .double oW, .int (nI k), .ref bp, .ref bf, .ref bs, .ref bv])), (bp, aI 12 (cA 0) pw), (bf, aD 12 (cA 1) fa), (bs, aD 12 (cA 1) sa), (bv, aD 12 (cA 1) va)]) [0, 1, 2, 3, 4, 5] (by decide) rfl
            have e0 : NHR (HEI la ea oL oN oE oW k pw fa sa va) x2 x3 = (2 * j + 1 + 1, .error E) := by rw [hQ, nhL_e2 (show j < 24 by omega) hp_6 hpx]; rfl
            have hP : va_P (dC, dI) vwCl [(ax, .inr (1, [.ref ab, .ref aw, .int wl, .double la, .double ea, .int (wk + nI (NHR (HEI la ea oL oN oE oW k pw fa sa va) x2 x3).1), .int (fl + 1)])), (bb, .inr (0, [.int st, .double oL, .double oN, .double oE, .double oW, .int (nI k), .ref bp, .ref bf, .ref bs, .ref bv])), (bp, aI 12 (cA 0) pw), (bf, aD 12 (cA 1) fa), (bs, aD 12 (cA 1) sa), (bv, aD 12 (cA 1) va)] H := by rw [e0]; simp only; rw [wk_s]; exact hP
            have hD : va_D A [(ax, .inr (1, [.ref ab, .ref aw, .int wl, .double la, .double ea, .int (wk + nI (NHR (HEI la ea oL oN oE oW k pw fa sa va) x2 x3).1), .int (fl + 1)])), (bb, .inr (0, [.int st, .double oL, .double oN, .double oE, .double oW, .int (nI k), .ref bp, .ref bf, .ref bs, .ref bv])), (bp, aI 12 (cA 0) pw), (bf, aD 12 (cA 1) fa), (bs, aD 12 (cA 1) sa), (bv, aD 12 (cA 1) va)] := by rw [e0]; simp only; rw [wk_s]; exact hD
            subst hQQ
            exact vx_out (fun x hx9 => (hnt x hx9).elim) hlocks hce hcv hcl (fun t ht hvm => ⟨(), trivial, ⟨(by rw [e0] <;> rfl), by rw [ht]; exact hP, hD⟩, hS.F ht⟩) hS.2.2 ((show 2 * j + 1 + 1 ≤ 48 by omega)) ((show 12 * j + 6 + 6 ≤ 288 by omega))
          · obtain ⟨hP1, hD1⟩ := hB
            rw [ht] at hP1
            obtain ⟨hP, hD⟩ := va_join (wr := []) (w1 := [(ax, .inr (1, [.ref ab, .ref aw, .int wl, .double la, .double ea, .int ((wk + nI (2 * j + 1)) + 1), .int fl])), (bb, .inr (0, [.int st, .double oL, .double oN, .double oE, .double oW, .int (nI k), .ref bp, .ref bf, .ref bs, .ref bv])), (bp, aI 12 (cA 0) pw), (bf, aD 12 (cA 1) fa), (bs, aD 12 (cA 1) sa), (bv, aD 12 (cA 1) va)]) hP hD [0, 1, 2, 3, 4, 5] [] rfl rfl (by decide) (by decide) hk1 hFc hP1 hD1
            have hP := hP.sub (ws' := [(ax, .inr (1, [.ref ab, .ref aw, .int wl, .double la, .double ea, .int ((wk + nI (2 * j + 1)) + 1), .int fl])), (bb, .inr (0, [.int st, .double oL, .double oN, .double oE, .double oW, .int (nI k), .ref bp, .ref bf, .ref bs, .ref bv])), (bp, aI 12 (cA 0) pw), (bf, aD 12 (cA 1) fa), (bs, aD 12 (cA 1) sa), (bv, aD 12 (cA 1) va)]) [0, 1, 2, 3, 4, 5] rfl
            have hD := hD.sub (ws' := [(ax, .inr (1, [.ref ab, .ref aw, .int wl, .double la, .double ea, .int ((wk + nI (2 * j + 1)) + 1), .int fl])), (bb, .inr (0, [.int st, .double oL, .double oN, .double oE, .double oW, .int (nI k), .ref bp, .ref bf, .ref bs, .ref bv])), (bp, aI 12 (cA 0) pw), (bf, aD 12 (cA 1) fa), (bs, aD 12 (cA 1) sa), (bv, aD 12 (cA 1) va)]) [0, 1, 2, 3, 4, 5] (by decide) rfl
            have hP : va_P (dC, dI) vwCl [(ax, .inr (1, [.ref ab, .ref aw, .int wl, .double la, .double ea, .int (wk + nI (2 * (j + 1))), .int fl])), (bb, .inr (0, [.int st, .double oL, .double oN, .double oE, .double oW, .int (nI k), .ref bp, .ref bf, .ref bs, .ref bv])), (bp, aI 12 (cA 0) pw), (bf, aD 12 (cA 1) fa), (bs, aD 12 (cA 1) sa), (bv, aD 12 (cA 1) va)] H := by rw [show 2 * (j + 1) = 2 * j + 1 + 1 by omega, wk_s]; exact hP
            have hD : va_D A [(ax, .inr (1, [.ref ab, .ref aw, .int wl, .double la, .double ea, .int (wk + nI (2 * (j + 1))), .int fl])), (bb, .inr (0, [.int st, .double oL, .double oN, .double oE, .double oW, .int (nI k), .ref bp, .ref bf, .ref bs, .ref bv])), (bp, aI 12 (cA 0) pw), (bf, aD 12 (cA 1) fa), (bs, aD 12 (cA 1) sa), (bv, aD 12 (cA 1) va)] := by rw [show 2 * (j + 1) = 2 * j + 1 + 1 by omega, wk_s]; exact hD
            refine lv_dstore (lv' := [(15, .double v_7), (13, .double v_5), (11, .double (TH2 ta tb)), (9, .double (TH1 ta tb)), (0, .ref ax), (1, .ref bb), (4, .double ta), (6, .double tb), (8, .int (nI j))]) hx hb dX1_narrowedToHighest_72 hl (by decide) rfl (fun ls hl => ?_)
            refine lv_dload hx hb dX1_narrowedToHighest_74 (lv_at hl 1 rfl) ?_
            refine lv_dload hx hb dX1_narrowedToHighest_76 (lv_at hl 0 rfl) ?_
            refine zd_g_ge (tgt := 89) hx hb dX1_narrowedToHighest_78 dX1_narrowedToHighest_79 (by decide) (fun c_9 => ?_) (fun c_9 => ?_)
            · refine lv_dload hx hb dX1_narrowedToHighest_89 (lv_at hl 2 rfl) ?_
              refine lv_dstore (lv' := [(6, .double (TH2 ta tb)), (15, .double v_7), (13, .double v_5), (11, .double (TH2 ta tb)), (9, .double (TH1 ta tb)), (0, .ref ax), (1, .ref bb), (4, .double ta), (8, .int (nI j))]) hx hb dX1_narrowedToHighest_91 hl (by decide) rfl (fun ls hl => ?_)
              refine lv_iinc (v := nI (j + 1)) (lv' := [(8, .int (nI (j + 1))), (6, .double (TH2 ta tb)), (15, .double v_7), (13, .double v_5), (11, .double (TH2 ta tb)), (9, .double (TH1 ta tb)), (0, .ref ax), (1, .ref bb), (4, .double ta)]) hx hb dX1_narrowedToHighest_93 hl (k := 8) rfl (nI_1 _) (by decide) rfl (fun ls hl => ?_)
              refine lv_goto (tgt := 21) hx hb dX1_narrowedToHighest_96 (by decide) ?_
              refine W.widen (k := 2 * (j + 1)) (n := 12 * (j + 1)) (by omega) (by omega) ?_
              exact ih (j + 1) (ta) (TH2 ta tb) (by omega) (by omega) (fR_mono ha (by omega) (by omega)) hth.2.2.2 (by rw [hQ, nhL_0 (show j < 24 by omega) hp_6 hp_8 c_9, addc_addc, show 2 * j + 2 = 2 * (j + 1) by omega]) _ _ _ hP hD hS (lv_sub hl [6, 7, 8, 1, 0] rfl)
            · refine lv_dload hx hb dX1_narrowedToHighest_82 (lv_at hl 3 rfl) ?_
              refine lv_dstore (lv' := [(4, .double (TH1 ta tb)), (15, .double v_7), (13, .double v_5), (11, .double (TH2 ta tb)), (9, .double (TH1 ta tb)), (0, .ref ax), (1, .ref bb), (6, .double tb), (8, .int (nI j))]) hx hb dX1_narrowedToHighest_84 hl (by decide) rfl (fun ls hl => ?_)
              refine lv_goto (tgt := 93) hx hb dX1_narrowedToHighest_86 (by decide) ?_
              refine lv_iinc (v := nI (j + 1)) (lv' := [(8, .int (nI (j + 1))), (4, .double (TH1 ta tb)), (15, .double v_7), (13, .double v_5), (11, .double (TH2 ta tb)), (9, .double (TH1 ta tb)), (0, .ref ax), (1, .ref bb), (6, .double tb)]) hx hb dX1_narrowedToHighest_93 hl (k := 8) rfl (nI_1 _) (by decide) rfl (fun ls hl => ?_)
              refine lv_goto (tgt := 21) hx hb dX1_narrowedToHighest_96 (by decide) ?_
              refine W.widen (k := 2 * (j + 1)) (n := 12 * (j + 1)) (by omega) (by omega) ?_
              exact ih (j + 1) (TH1 ta tb) (tb) (by omega) (by omega) hth.2.2.1 (fR_mono hb9 (by omega) (by omega)) (by rw [hQ, nhL_1 (show j < 24 by omega) hp_6 hp_8 c_9, addc_addc, show 2 * j + 2 = 2 * (j + 1) by omega]) _ _ _ hP hD hS (lv_sub hl [6, 7, 1, 8, 0] rfl)
  refine lv_iload_n hx hb dX1_narrowedToHighest_0 rfl (lv_at hl 2 rfl) ?_
  refine lv_iload_n hx hb dX1_narrowedToHighest_1 rfl (lv_at hl 3 rfl) ?_
  refine lv_iconst (v := 1) hx hb dX1_narrowedToHighest_2 (by decide) ?_
  refine lv_isub hx hb dX1_narrowedToHighest_3 ?_
  refine vp_callSd (W.runS (As := [.int x2, .int (x3 - 1)]) (rest := []) ⟨hx, hb, hml, hown, hts⟩ (k_X1_timeOfPart l x2 (x3 - 1)) (va_cwS 2 hts gX1_narrowedToHighest_X1_timeOfPart rfl rfl rfl (by decide +kernel) ⟨Nat.le_of_ble_eq_true rfl, Nat.le_of_ble_eq_true rfl⟩) preEq rfl rfl hl.1 rfl (lv_room (Nat.le_of_ble_eq_true rfl)) dX1_narrowedToHighest_4 ⟨Nat.le_of_ble_eq_true rfl, Nat.le_of_ble_eq_true rfl⟩) (fun r hr9 => ?_)
  obtain rfl := hr9
  refine lv_dstore (lv' := [(4, .double (f_X1_timeOfPart x2 (x3 - 1))), (0, .ref ax), (1, .ref bb), (2, .int x2), (3, .int x3)]) hx hb dX1_narrowedToHighest_7 hl (by decide) rfl (fun ls hl => ?_)
  refine lv_iload_n hx hb dX1_narrowedToHighest_9 rfl (lv_at hl 3 rfl) ?_
  refine lv_iload_n hx hb dX1_narrowedToHighest_10 rfl (lv_at hl 4 rfl) ?_
  refine lv_iconst (v := 1) hx hb dX1_narrowedToHighest_11 (by decide) ?_
  refine lv_iadd hx hb dX1_narrowedToHighest_12 ?_
  refine vp_callSd (W.runS (As := [.int x2, .int (x3 + 1)]) (rest := []) ⟨hx, hb, hml, hown, hts⟩ (k_X1_timeOfPart l x2 (x3 + 1)) (va_cwS 2 hts gX1_narrowedToHighest_X1_timeOfPart rfl rfl rfl (by decide +kernel) ⟨Nat.le_of_ble_eq_true rfl, Nat.le_of_ble_eq_true rfl⟩) preEq rfl rfl hl.1 rfl (lv_room (Nat.le_of_ble_eq_true rfl)) dX1_narrowedToHighest_13 ⟨Nat.le_of_ble_eq_true rfl, Nat.le_of_ble_eq_true rfl⟩) (fun r hr9 => ?_)
  obtain rfl := hr9
  refine lv_dstore (lv' := [(6, .double (f_X1_timeOfPart x2 (x3 + 1))), (4, .double (f_X1_timeOfPart x2 (x3 - 1))), (0, .ref ax), (1, .ref bb), (2, .int x2), (3, .int x3)]) hx hb dX1_narrowedToHighest_16 hl (by decide) rfl (fun ls hl => ?_)
  refine lv_iconst (v := 0) hx hb dX1_narrowedToHighest_18 (by decide) ?_
  refine lv_istore (lv' := [(8, .int (nI 0)), (6, .double (f_X1_timeOfPart x2 (x3 + 1))), (4, .double (f_X1_timeOfPart x2 (x3 - 1))), (0, .ref ax), (1, .ref bb), (2, .int x2), (3, .int x3)]) hx hb dX1_narrowedToHighest_19 hl (by decide) rfl (fun ls hl => ?_)
  refine W.widen (k := 2 * 0) (n := 12 * 0) (by omega) (by omega) ?_
  have hP : va_P (dC, dI) vwCl [(ax, .inr (1, [.ref ab, .ref aw, .int wl, .double la, .double ea, .int (wk + nI (2 * 0)), .int fl])), (bb, .inr (0, [.int st, .double oL, .double oN, .double oE, .double oW, .int (nI k), .ref bp, .ref bf, .ref bs, .ref bv])), (bp, aI 12 (cA 0) pw), (bf, aD 12 (cA 1) fa), (bs, aD 12 (cA 1) sa), (bv, aD 12 (cA 1) va)] s.heap := by rw [show 2 * 0 = 0 from rfl, wk_0]; exact hP
  have hD : va_D A [(ax, .inr (1, [.ref ab, .ref aw, .int wl, .double la, .double ea, .int (wk + nI (2 * 0)), .int fl])), (bb, .inr (0, [.int st, .double oL, .double oN, .double oE, .double oW, .int (nI k), .ref bp, .ref bf, .ref bs, .ref bv])), (bp, aI 12 (cA 0) pw), (bf, aD 12 (cA 1) fa), (bs, aD 12 (cA 1) sa), (bv, aD 12 (cA 1) va)] := by rw [show 2 * 0 = 0 from rfl, wk_0]; exact hD
  exact hloop21 25 0 _ _ (by decide) (by decide) (fR_mono (top_R hd (p_1 ⟨h3.1, by omega⟩)) (by rw [wd_0]; omega) (by rw [wd_0]; omega)) (fR_mono (top_R hd (p_3 h3)) (by rw [wd_0]; omega) (by rw [wd_0]; omega)) (by show _ = addc 0 _; unfold addc NHR; simp only [Nat.zero_add]) _ _ _ hP hD hS (lv_sub hl [3, 4, 2, 1, 0] rfl)
