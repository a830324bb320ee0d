/-! ===== two instructions in one row: a comparison of longs or doubles and the branch behind it ===== -/
abbrev dle (x y : UInt64) : Prop := FP.dcmp x y = some .lt ∨ FP.dcmp x y = some .eq
abbrev dge (x y : UInt64) : Prop := FP.dcmp x y = some .gt ∨ FP.dcmp x y = some .eq
theorem cv_g_ge (o : Option Ordering) : 0 ≤ Op.cmpValue o .g ↔ ¬ o = some .lt := by
  rcases o with _ | o
  · decide
  · cases o <;> decide
theorem cv_g_gt (o : Option Ordering) : 0 < Op.cmpValue o .g ↔ ¬ (o = some .lt ∨ o = some .eq) := by
  rcases o with _ | o
  · decide
  · cases o <;> decide
theorem cv_g_lt (o : Option Ordering) : Op.cmpValue o .g < 0 ↔ o = some .lt := by
  rcases o with _ | o
  · decide
  · cases o <;> decide
theorem cv_l_eq (o : Option Ordering) : Op.cmpValue o .l = 0 ↔ o = some .eq := by
  rcases o with _ | o
  · decide
  · cases o <;> decide
theorem cv_l_le (o : Option Ordering) : Op.cmpValue o .l ≤ 0 ↔ ¬ o = some .gt := by
  rcases o with _ | o
  · decide
  · cases o <;> decide
theorem cv_l_lt (o : Option Ordering) : Op.cmpValue o .l < 0 ↔ ¬ (o = some .gt ∨ o = some .eq) := by
  rcases o with _ | o
  · decide
  · cases o <;> decide
section ZR
variable {p : Program} {l : Launch} {e : Env} {R : Room} {s : State} {m : MethodId} {args : Array Value} {below : List Frame} {meth : Method} {c : Code} {H : Heap} {locs : List Loc} {cells slots : Nat} {Q : State → Prop}
variable {cc : ByteArray} {pc : Nat} {ls : Array Slot} {rest : List Value} {off : Int} {tgt : Nat}
theorem zd_g_ge (hx : p.tables.exec = Jvm.exec) (hb : c.code = cc) {x y : UInt64} (d1 : decode cc pc = .ok (.dcmp .g, 1)) (d2 : decode cc (pc + 1) = .ok (.ifCond .ge off, 3)) (ht : ((pc + 1 : Nat) : Int) + off = (tgt : Int))
    (kt : ¬ dlt x y → W p l e R s m args below meth c H locs cells slots Q (F0 m tgt ls rest)) (kf : dlt x y → W p l e R s m args below meth c H locs cells slots Q (F0 m (pc + 4) ls rest)) : W p l e R s m args below meth c H locs cells slots Q (F0 m pc ls (.double y :: .double x :: rest)) :=
  lv_dcmp hx hb d1 (lv_if_ge hx hb d2 ht (fun h => kt ((cv_g_ge _).mp h)) (fun h => kf (Classical.byContradiction fun q => h ((cv_g_ge _).mpr q))))
theorem zd_g_gt (hx : p.tables.exec = Jvm.exec) (hb : c.code = cc) {x y : UInt64} (d1 : decode cc pc = .ok (.dcmp .g, 1)) (d2 : decode cc (pc + 1) = .ok (.ifCond .gt off, 3)) (ht : ((pc + 1 : Nat) : Int) + off = (tgt : Int))
    (kt : ¬ dle x y → W p l e R s m args below meth c H locs cells slots Q (F0 m tgt ls rest)) (kf : dle x y → W p l e R s m args below meth c H locs cells slots Q (F0 m (pc + 4) ls rest)) : W p l e R s m args below meth c H locs cells slots Q (F0 m pc ls (.double y :: .double x :: rest)) :=
  lv_dcmp hx hb d1 (lv_if_gt hx hb d2 ht (fun h => kt ((cv_g_gt _).mp h)) (fun h => kf (Classical.byContradiction fun q => h ((cv_g_gt _).mpr q))))
theorem zd_g_lt (hx : p.tables.exec = Jvm.exec) (hb : c.code = cc) {x y : UInt64} (d1 : decode cc pc = .ok (.dcmp .g, 1)) (d2 : decode cc (pc + 1) = .ok (.ifCond .lt off, 3)) (ht : ((pc + 1 : Nat) : Int) + off = (tgt : Int))
    (kt : dlt x y → W p l e R s m args below meth c H locs cells slots Q (F0 m tgt ls rest)) (kf : ¬ dlt x y → W p l e R s m args below meth c H locs cells slots Q (F0 m (pc + 4) ls rest)) : W p l e R s m args below meth c H locs cells slots Q (F0 m pc ls (.double y :: .double x :: rest)) :=
  lv_dcmp hx hb d1 (lv_if_lt hx hb d2 ht (fun h => kt ((cv_g_lt _).mp h)) (fun h => kf (fun q => h ((cv_g_lt _).mpr q))))
theorem zd_l_eq (hx : p.tables.exec = Jvm.exec) (hb : c.code = cc) {x y : UInt64} (d1 : decode cc pc = .ok (.dcmp .l, 1)) (d2 : decode cc (pc + 1) = .ok (.ifCond .eq off, 3)) (ht : ((pc + 1 : Nat) : Int) + off = (tgt : Int))
    (kt : deq x y → W p l e R s m args below meth c H locs cells slots Q (F0 m tgt ls rest)) (kf : ¬ deq x y → W p l e R s m args below meth c H locs cells slots Q (F0 m (pc + 4) ls rest)) : W p l e R s m args below meth c H locs cells slots Q (F0 m pc ls (.double y :: .double x :: rest)) :=
  lv_dcmp hx hb d1 (lv_if_eq hx hb d2 ht (fun h => kt ((cv_l_eq _).mp h)) (fun h => kf (fun q => h ((cv_l_eq _).mpr q))))
theorem zd_l_ne (hx : p.tables.exec = Jvm.exec) (hb : c.code = cc) {x y : UInt64} (d1 : decode cc pc = .ok (.dcmp .l, 1)) (d2 : decode cc (pc + 1) = .ok (.ifCond .ne off, 3)) (ht : ((pc + 1 : Nat) : Int) + off = (tgt : Int))
    (kt : ¬ deq x y → W p l e R s m args below meth c H locs cells slots Q (F0 m tgt ls rest)) (kf : deq x y → W p l e R s m args below meth c H locs cells slots Q (F0 m (pc + 4) ls rest)) : W p l e R s m args below meth c H locs cells slots Q (F0 m pc ls (.double y :: .double x :: rest)) :=
  lv_dcmp hx hb d1 (lv_if_ne hx hb d2 ht (fun h => kt (fun q => h ((cv_l_eq _).mpr q))) (fun h => kf ((cv_l_eq _).mp h)))
theorem zd_l_le (hx : p.tables.exec = Jvm.exec) (hb : c.code = cc) {x y : UInt64} (d1 : decode cc pc = .ok (.dcmp .l, 1)) (d2 : decode cc (pc + 1) = .ok (.ifCond .le off, 3)) (ht : ((pc + 1 : Nat) : Int) + off = (tgt : Int))
    (kt : ¬ dgt x y → W p l e R s m args below meth c H locs cells slots Q (F0 m tgt ls rest)) (kf : dgt x y → W p l e R s m args below meth c H locs cells slots Q (F0 m (pc + 4) ls rest)) : W p l e R s m args below meth c H locs cells slots Q (F0 m pc ls (.double y :: .double x :: rest)) :=
  lv_dcmp hx hb d1 (lv_if_le hx hb d2 ht (fun h => kt ((cv_l_le _).mp h)) (fun h => kf (Classical.byContradiction fun q => h ((cv_l_le _).mpr q))))
theorem zd_l_lt (hx : p.tables.exec = Jvm.exec) (hb : c.code = cc) {x y : UInt64} (d1 : decode cc pc = .ok (.dcmp .l, 1)) (d2 : decode cc (pc + 1) = .ok (.ifCond .lt off, 3)) (ht : ((pc + 1 : Nat) : Int) + off = (tgt : Int))
    (kt : ¬ dge x y → W p l e R s m args below meth c H locs cells slots Q (F0 m tgt ls rest)) (kf : dge x y → W p l e R s m args below meth c H locs cells slots Q (F0 m (pc + 4) ls rest)) : W p l e R s m args below meth c H locs cells slots Q (F0 m pc ls (.double y :: .double x :: rest)) :=
  lv_dcmp hx hb d1 (lv_if_lt hx hb d2 ht (fun h => kt ((cv_l_lt _).mp h)) (fun h => kf (Classical.byContradiction fun q => h ((cv_l_lt _).mpr q))))
theorem zl_eq (hx : p.tables.exec = Jvm.exec) (hb : c.code = cc) {x y : Int64} (d1 : decode cc pc = .ok (.lcmp, 1)) (d2 : decode cc (pc + 1) = .ok (.ifCond .eq off, 3)) (ht : ((pc + 1 : Nat) : Int) + off = (tgt : Int))
    (kt : x = y → W p l e R s m args below meth c H locs cells slots Q (F0 m tgt ls rest)) (kf : ¬ x = y → W p l e R s m args below meth c H locs cells slots Q (F0 m (pc + 4) ls rest)) : W p l e R s m args below meth c H locs cells slots Q (F0 m pc ls (.long y :: .long x :: rest)) :=
  W.lcmp hx hb d1 (lv_if_eq hx hb d2 ht (fun h => kt ((lg_cmp_eq _ _).mp h)) (fun h => kf (fun q => h ((lg_cmp_eq _ _).mpr q))))
theorem zl_ne (hx : p.tables.exec = Jvm.exec) (hb : c.code = cc) {x y : Int64} (d1 : decode cc pc = .ok (.lcmp, 1)) (d2 : decode cc (pc + 1) = .ok (.ifCond .ne off, 3)) (ht : ((pc + 1 : Nat) : Int) + off = (tgt : Int))
    (kt : ¬ x = y → W p l e R s m args below meth c H locs cells slots Q (F0 m tgt ls rest)) (kf : x = y → W p l e R s m args below meth c H locs cells slots Q (F0 m (pc + 4) ls rest)) : W p l e R s m args below meth c H locs cells slots Q (F0 m pc ls (.long y :: .long x :: rest)) :=
  W.lcmp hx hb d1 (lv_if_ne hx hb d2 ht (fun h => kt (fun q => h ((lg_cmp_eq _ _).mpr q))) (fun h => kf ((lg_cmp_eq _ _).mp h)))
theorem zl_ge (hx : p.tables.exec = Jvm.exec) (hb : c.code = cc) {x y : Int64} (d1 : decode cc pc = .ok (.lcmp, 1)) (d2 : decode cc (pc + 1) = .ok (.ifCond .ge off, 3)) (ht : ((pc + 1 : Nat) : Int) + off = (tgt : Int))
    (kt : y ≤ x → W p l e R s m args below meth c H locs cells slots Q (F0 m tgt ls rest)) (kf : ¬ y ≤ x → W p l e R s m args below meth c H locs cells slots Q (F0 m (pc + 4) ls rest)) : W p l e R s m args below meth c H locs cells slots Q (F0 m pc ls (.long y :: .long x :: rest)) :=
  W.lcmp hx hb d1 (lv_if_ge hx hb d2 ht (fun h => kt ((lg_cmp_ge _ _).mp h)) (fun h => kf (fun q => h ((lg_cmp_ge _ _).mpr q))))
theorem zl_gt (hx : p.tables.exec = Jvm.exec) (hb : c.code = cc) {x y : Int64} (d1 : decode cc pc = .ok (.lcmp, 1)) (d2 : decode cc (pc + 1) = .ok (.ifCond .gt off, 3)) (ht : ((pc + 1 : Nat) : Int) + off = (tgt : Int))
    (kt : y < x → W p l e R s m args below meth c H locs cells slots Q (F0 m tgt ls rest)) (kf : ¬ y < x → W p l e R s m args below meth c H locs cells slots Q (F0 m (pc + 4) ls rest)) : W p l e R s m args below meth c H locs cells slots Q (F0 m pc ls (.long y :: .long x :: rest)) :=
  W.lcmp hx hb d1 (lv_if_gt hx hb d2 ht (fun h => kt ((lg_cmp_gt _ _).mp h)) (fun h => kf (fun q => h ((lg_cmp_gt _ _).mpr q))))
theorem zl_le (hx : p.tables.exec = Jvm.exec) (hb : c.code = cc) {x y : Int64} (d1 : decode cc pc = .ok (.lcmp, 1)) (d2 : decode cc (pc + 1) = .ok (.ifCond .le off, 3)) (ht : ((pc + 1 : Nat) : Int) + off = (tgt : Int))
    (kt : x ≤ y → W p l e R s m args below meth c H locs cells slots Q (F0 m tgt ls rest)) (kf : ¬ x ≤ y → W p l e R s m args below meth c H locs cells slots Q (F0 m (pc + 4) ls rest)) : W p l e R s m args below meth c H locs cells slots Q (F0 m pc ls (.long y :: .long x :: rest)) :=
  W.lcmp hx hb d1 (lv_if_le hx hb d2 ht (fun h => kt ((lg_cmp_le _ _).mp h)) (fun h => kf (fun q => h ((lg_cmp_le _ _).mpr q))))
theorem zl_lt (hx : p.tables.exec = Jvm.exec) (hb : c.code = cc) {x y : Int64} (d1 : decode cc pc = .ok (.lcmp, 1)) (d2 : decode cc (pc + 1) = .ok (.ifCond .lt off, 3)) (ht : ((pc + 1 : Nat) : Int) + off = (tgt : Int))
    (kt : x < y → W p l e R s m args below meth c H locs cells slots Q (F0 m tgt ls rest)) (kf : ¬ x < y → W p l e R s m args below meth c H locs cells slots Q (F0 m (pc + 4) ls rest)) : W p l e R s m args below meth c H locs cells slots Q (F0 m pc ls (.long y :: .long x :: rest)) :=
  W.lcmp hx hb d1 (lv_if_lt hx hb d2 ht (fun h => kt ((lg_cmp_lt _ _).mp h)) (fun h => kf (fun q => h ((lg_cmp_lt _ _).mpr q))))
end ZR
