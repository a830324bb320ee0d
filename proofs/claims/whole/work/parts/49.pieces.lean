section
theorem ap_l {α : Type} {a b : List α} {k : Nat} {q : α} (h : a[k]? = some q) : (a ++ b)[k]? = some q := by
  rw [List.getElem?_append_left (List.getElem?_eq_some_iff.mp h).1]; exact h
theorem ap_r {α : Type} {a b : List α} {k : Nat} {q : α} (h : b[k]? = some q) : (a ++ b)[a.length + k]? = some q := by
  rw [List.getElem?_append_right (Nat.le_add_right _ _), Nat.add_sub_cancel_left]; exact h
theorem ap_c {α : Type} {a b : List α} {k : Nat} {q : α} (h : (a ++ b)[k]? = some q) : (k < a.length ∧ a[k]? = some q) ∨ ∃ j, b[j]? = some q ∧ k = a.length + j := by
  rcases Nat.lt_or_ge k a.length with h1 | h1
  · rw [List.getElem?_append_left h1] at h; exact Or.inl ⟨h1, h⟩
  · rw [List.getElem?_append_right h1] at h; exact Or.inr ⟨k - a.length, h, by omega⟩
theorem zn_in {A0 : Nat → Prop} {D : va_G} {cl : List vw_C} {wc R : va_W} {H : Heap} (hP : va_P D cl (wc ++ R) H) (hD : va_D A0 (wc ++ R)) {j : Nat} {q : Nat × va_E} (hj : R[j]? = some q) : ¬ va_A wc H.size q.1 := by
  have h1 : (wc ++ R)[wc.length + j]? = some q := ap_r hj
  rintro (⟨k, e, he⟩ | h)
  · have h2 : (wc ++ R)[k]? = some (q.1, e) := ap_l he
    have h3 := hD.1 _ _ _ _ h2 h1 rfl
    have h4 := (List.getElem?_eq_some_iff.mp he).1
    omega
  · exact absurd (hP _ _ h1).lt (Nat.not_lt.mpr h)
/-- the rest of a world stays, where a call wrote its own piece alone -/
theorem zj {A0 : Nat → Prop} {D : va_G} {cl : List vw_C} {wc w1 R : va_W} {H H1 : Heap} (hP : va_P D cl (wc ++ R) H) (hD : va_D A0 (wc ++ R))
    (hk : ∀ q : Nat, q < H.size → ¬ va_A wc H.size q → H1[q]? = H[q]?) (hF : ∀ q, va_A wc H.size q → A0 q) (hP1 : va_P D cl w1 H1) (hD1 : va_D (va_A wc H.size) w1) : va_P D cl (w1 ++ R) H1 ∧ va_D A0 (w1 ++ R) := by
  constructor
  · intro k q hq
    rcases ap_c hq with ⟨-, h⟩ | ⟨j, hj, -⟩
    · exact hP1 _ _ h
    · have h1 := hP _ _ (ap_r hj)
      exact h1.kept (hk _ h1.lt (zn_in hP hD hj))
  · refine va_D.app (hD1.weaken (fun _ _ _ h => hF _ h)) ⟨fun i j p q hi hj h => ?_, fun k q hq => hD.2 _ _ (ap_r hq)⟩ (fun i j p q hi hj h => ?_)
    · have := hD.1 _ _ _ _ (ap_r (a := wc) hi) (ap_r (a := wc) hj) h
      omega
    · exact zn_in hP hD hj (by rw [← h]; exact hD1.2 _ _ hi)
theorem sw_ix {α : Type} {a b r : List α} {i : Nat} {q : α} (h : (b ++ (a ++ r))[i]? = some q) : ∃ j, (a ++ (b ++ r))[j]? = some q ∧ ((i < b.length ∧ j = a.length + i) ∨ (b.length ≤ i ∧ i < b.length + a.length ∧ j + b.length = i) ∨ (b.length + a.length ≤ i ∧ j = i)) := by
  rcases ap_c h with ⟨h1, h2⟩ | ⟨k, h2, h3⟩
  · exact ⟨a.length + i, ap_r (ap_l h2), Or.inl ⟨h1, rfl⟩⟩
  · rcases ap_c h2 with ⟨h4, h5⟩ | ⟨k2, h5, h6⟩
    · exact ⟨k, ap_l h5, Or.inr (Or.inl ⟨by omega, by omega, by omega⟩)⟩
    · exact ⟨a.length + (b.length + k2), ap_r (ap_r h5), Or.inr (Or.inr ⟨by omega, by omega⟩)⟩
/-- two pieces of a world change places -/
theorem sw {A0 : Nat → Prop} {D : va_G} {cl : List vw_C} {a b r : va_W} {H : Heap} (hP : va_P D cl (a ++ (b ++ r)) H) (hD : va_D A0 (a ++ (b ++ r))) : va_P D cl (b ++ (a ++ r)) H ∧ va_D A0 (b ++ (a ++ r)) := by
  refine ⟨fun k q hq => ?_, fun i j p q hi hj h => ?_, fun k q hq => ?_⟩
  · obtain ⟨j, hj, -⟩ := sw_ix hq
    exact hP _ _ hj
  · obtain ⟨i', hi', ci⟩ := sw_ix hi
    obtain ⟨j', hj', cj⟩ := sw_ix hj
    have := hD.1 _ _ _ _ hi' hj' h
    omega
  · obtain ⟨j, hj, -⟩ := sw_ix hq
    exact hD.2 _ _ hj
/-- what holds through the law's body -/
def LX (p : Program) (s : State) (m : MethodId) (c : Code) (b L : Nat) (xs : Nat → Int32) (dC : Nat → ClassId) (dI : Nat → Nat → Nat) (cA : Nat → ClassId) (tm tt : Nat) (A : Nat → Prop) : Prop :=
  p.tables.exec = Jvm.exec ∧ c.code = cL_law ∧ c.maxLocals = 9 ∧ s.vm.findClass RL = some m.cls ∧ (∀ w ∈ wsL_law, w.before #[Value.ref b] s = true) ∧ va_X b L xs s s.heap ∧ b < s.heap.size ∧ ¬ A b ∧ (∀ q : Nat, s.heap.size ≤ q → A q) ∧ GE tm tt A s s.heap ∧ gN s ∧ va_K (dC, dI) vwCl (WT cA) s
theorem cw92 : Cond.constantDouble RL 92 (4593671619917905920) ∈ wsL_law := by decide +kernel
theorem cw82 : Cond.constantLong RL 82 (4294967295) ∈ wsL_law := by decide +kernel
theorem e8_R (x : Int32) : fR (FP.dmul (FP.i2d x) 4593671619917905920) (-288230376151711744) 288230376151711744 :=
  fR_mul (i2d_R x) (fR_lit (by decide +kernel) : fR 4593671619917905920 134217728 134217728) (-288230376151711744) 288230376151711744 (by decide) (by decide) rfl rfl
theorem e8_B (x : Int32) : fR (FP.dmul (FP.i2d x) 4593671619917905920) (-1208925819614629174706176) 1208925819614629174706176 := fR_mono (e8_R x) (by decide) (by decide)
theorem ix_in {i L : Nat} (k : Nat) {x : Int32} (hx : x = nI k) (hi : i + 6 ≤ L) (hL : L ≤ 3072) (hk : k < 6) : vp_in (nI i + x) L := by
  rw [hx, nI_add]; exact vp_in_nI (by omega) (by omega)
theorem BTS_eq {a b x : Int32} (h : ¬ x < 0 → ¬ 3 < x → a = b) : BTS a x = BTS b x := by
  unfold BTS
  by_cases c1 : x < 0
  · rw [if_pos c1, if_pos c1]
  · rw [if_neg c1, if_neg c1]
    by_cases c2 : 4 ≤ x
    · rw [if_pos c2, if_pos c2]
    · rw [if_neg c2, if_neg c2, h c1 (fun h9 => c2 (lt43.mpr h9))]
theorem lon_st {a b x : Int32} (h : ¬ x < 0 → ¬ 3 < x → a = b) (t : UInt64) (r : Except String UInt64) : f_X1_lon a x t r = f_X1_lon b x t r := by
  unfold f_X1_lon; rw [BTS_eq h]
theorem cWK_st {a b x : Int32} (h : ¬ x < 0 → ¬ 3 < x → a = b) (t : UInt64) : cWK a x t = cWK b x t := by
  unfold cWK; rw [BTS_eq h]
theorem ev_st {a b x : Int32} (h : ¬ x < 0 → ¬ 3 < x → a = b) (hh : UInt64 → Except String UInt64) (y z : Int32) : f_X1_event hh a x y z = f_X1_event hh b x y z := by
  unfold f_X1_event; rw [BTS_eq h]
theorem term_st {a b x : Int32} (h : ¬ x < 0 → ¬ 3 < x → a = b) (k : Nat) (y : Int32) (u v w : UInt64) : f_X1_term a k x y u v w = f_X1_term b k x y u v w := by
  unfold f_X1_term; rw [BTS_eq h]
theorem orb_st {a b x : Int32} (h : ¬ x < 0 → ¬ 3 < x → a = b) (y u v w : UInt64) : f_X1_orbit a x y u v w = f_X1_orbit b x y u v w := by
  unfold f_X1_orbit
  by_cases c1 : x < 0
  · rw [if_pos c1, if_pos c1]
  · rw [if_neg c1, if_neg c1]
    by_cases c2 : x < 4
    · rw [if_pos c2, if_pos c2, h c1 (fun h9 => absurd c2 (le_nlt (lt43.mpr h9)))]
    · rw [if_neg c2, if_neg c2]
theorem EQ_st {α : Type} {cd : Except String α → Int32} {x y : Except String α} {z : α × Int32} (h : x = y) (e : EQ cd x z) : EQ cd y z := h ▸ e
theorem bJ0 {v r : Int32} (h : r = v) (c : r = 0) : bJ v = 0 := if_pos (by rw [← h]; exact c)
theorem bJ1 {v r : Int32} (h : r = v) (c : ¬ r = 0) : bJ v = 1 := if_neg (by rw [← h]; exact c)
theorem dq_1 {v r : UInt64} (h : r = v) (c : ¬ deq v r) : ¬ deq v v := by rw [h] at c; exact c
theorem dq_2 {v r : UInt64} (h : r = v) (c : ¬ deq v r) : ¬ deq r r := by rw [h] at c; rw [h]; exact c
end
