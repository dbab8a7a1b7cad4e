/-! the reference: its methods that read -/
set_option maxHeartbeats 4000000 in
set_option maxRecDepth 100000 in
theorem c_X4_in (l : Launch) (g : XG) (v lo hi : Int32) : Met l yX4_in (ww yX4_in cX4_in 3 (some .boolean)) (rmD 0) (xP g [.int (v), .int (lo), .int (hi)] (fun H => True)) (vp_Si (fun r9 => r9 = xz (decide (lo ≤ v) && decide (v ≤ hi)))) 0 0 (fun _ => False) := by
  refine xMet (by decide) rfl (Nat.le_of_ble_eq_true rfl) ?_
  intro p e s m below meth c ls hF hZ hh hret hlocks hin hl
  have hx := hF.1.1
  have hb := hF.1.2.1
  have hl : lv_has ls 3 [(0, .int (v)), (1, .int (lo)), (2, .int (hi))] := hl
  refine lv_iload_n hx hb dX4_in_0 rfl (lv_at hl 0 rfl) ?_
  refine lv_iload_n hx hb dX4_in_1 rfl (lv_at hl 1 rfl) ?_
  refine lv_icmp_lt (tgt := 14) hx hb dX4_in_2 (by decide) (fun c_2 => ?_) (fun c_2 => ?_)
  · refine xN_const hx hb 0 dX4_in_14 (by decide) ?_
    exact xret_t (V := nI (0)) hF hret hlocks rfl (xz_f (by rw [decide_eq_false (Int32.not_le.mpr c_2)]; rfl)) dX4_in_15
  · refine lv_iload_n hx hb dX4_in_5 rfl (lv_at hl 0 rfl) ?_
    refine lv_iload_n hx hb dX4_in_6 rfl (lv_at hl 2 rfl) ?_
    refine lv_icmp_gt (tgt := 14) hx hb dX4_in_7 (by decide) (fun c_7 => ?_) (fun c_7 => ?_)
    · refine xN_const hx hb 0 dX4_in_14 (by decide) ?_
      exact xret_t (V := nI (0)) hF hret hlocks rfl (xz_f (by rw [decide_eq_false (Int32.not_le.mpr c_7), Bool.and_false])) dX4_in_15
    · refine xN_const hx hb 1 dX4_in_10 (by decide) ?_
      refine lv_goto (tgt := 15) hx hb dX4_in_11 (by decide) ?_
      exact xret_t (V := nI (1)) hF hret hlocks rfl (xz_t (by rw [decide_eq_true (Int32.not_lt.mp c_2), decide_eq_true (Int32.not_lt.mp c_7)]; rfl)) dX4_in_15
set_option maxHeartbeats 4000000 in
set_option maxRecDepth 100000 in
theorem c_X4_isRow (l : Launch) (g : XG) (mo mn mp mq mt mm md zs zl zp zr : Nat) (zk : Bool) (w : Nat → Int32) (hW : WF w) (x : Int32) : Met l yX4_isRow (ww yX4_isRow cX4_isRow 2 (some .boolean)) (rmD 1) (xP g [.ref mo, .int (x)] (fun H => va_P g.1 vwCl (ModC g mo mn mp mq mt mm md zs zl zp zr zk w) H)) (vp_Si (fun r9 => r9 = xz (rowB w x))) 0 0 (fun _ => False) := by
  refine xMet (by decide) rfl (Nat.le_of_ble_eq_true rfl) ?_
  intro p e s m below meth c ls hF hZ hh hret hlocks hin hl
  have hx := hF.1.1
  have hb := hF.1.2.1
  have hP := hh
  have hP : va_P g.1 vwCl (ModC g mo mn mp mq mt mm md zs zl zp zr zk w) s.heap := hP
  have hl : lv_has ls 2 [(0, .ref mo), (1, .int (x))] := hl
  have h48 := hW.n48
  have hp4 := hW.pg4
  have hp12 := hW.pg12
  have hs1 := hW.st1
  have hw2 := hW.wr2
  have hw6 := hW.wr6
  refine lv_iload_n hx hb dX4_isRow_0 rfl (lv_at hl 1 rfl) ?_
  refine xN_const hx hb 0 dX4_isRow_1 (by decide) ?_
  refine lv_aload_n hx hb dX4_isRow_2 rfl (lv_at hl 0 rfl) ?_
  refine gf_X4_X4_now hF hP 0 rfl rfl dX4_isRow_3 ?_
  refine xN_const hx hb 0 dX4_isRow_6 (by decide) ?_
  refine xA_ild hF hP 1 rfl (by omega) (by decide) (v := nI (nr w)) (hW.r0) dX4_isRow_7 ?_
  refine xN_const hx hb 1 dX4_isRow_8 (by decide) ?_
  refine lv_isub hx hb dX4_isRow_9 ?_
  refine vp_callSi (va_Run.run (xrS hF (c_X4_in l g ((x)) (nI (0)) (nI (nr w) - nI 1) ) cal_X4_in q_119 ⟨by decide, by decide⟩ rfl rfl rfl hZ (trivial) hl.1 rfl (Nat.le_of_ble_eq_true rfl) dX4_isRow_10 ⟨Nat.le_refl _, Nat.le_refl _⟩)) (fun r_ h_ => ?_)
  subst h_
  exact xret_t (V := xz (decide ((nI (0)) ≤ ((x))) && decide (((x)) ≤ (nI (nr w) - nI 1)))) hF hret hlocks (xz_nar _) (congrArg xz (rowB_in hW x)) dX4_isRow_13
set_option maxHeartbeats 4000000 in
set_option maxRecDepth 100000 in
theorem c_X4_isColumn (l : Launch) (g : XG) (x : Int32) : Met l yX4_isColumn (ww yX4_isColumn cX4_isColumn 1 (some .boolean)) (rmD 1) (xP g [.int (x)] (fun H => True)) (vp_Si (fun r9 => r9 = xz (colB x))) 0 0 (fun _ => False) := by
  refine xMet (by decide) rfl (Nat.le_of_ble_eq_true rfl) ?_
  intro p e s m below meth c ls hF hZ hh hret hlocks hin hl
  have hx := hF.1.1
  have hb := hF.1.2.1
  have hl : lv_has ls 1 [(0, .int (x))] := hl
  refine lv_iload_n hx hb dX4_isColumn_0 rfl (lv_at hl 0 rfl) ?_
  refine xN_const hx hb 0 dX4_isColumn_1 (by decide) ?_
  refine xN_const hx hb 3 dX4_isColumn_2 (by decide) ?_
  refine vp_callSi (va_Run.run (xrS hF (c_X4_in l g ((x)) (nI (0)) (nI (3)) ) cal_X4_in q_119 ⟨by decide, by decide⟩ rfl rfl rfl hZ (trivial) hl.1 rfl (Nat.le_of_ble_eq_true rfl) dX4_isColumn_3 ⟨Nat.le_refl _, Nat.le_refl _⟩)) (fun r_ h_ => ?_)
  subst h_
  exact xret_t (V := xz (decide ((nI (0)) ≤ ((x))) && decide (((x)) ≤ (nI (3))))) hF hret hlocks (xz_nar _) (congrArg xz (colB_in x)) dX4_isColumn_6
set_option maxHeartbeats 4000000 in
set_option maxRecDepth 100000 in
theorem c_X4_isCell (l : Launch) (g : XG) (mo mn mp mq mt mm md zs zl zp zr : Nat) (zk : Bool) (w : Nat → Int32) (hW : WF w) (x y : Int32) : Met l yX4_isCell (ww yX4_isCell cX4_isCell 3 (some .boolean)) (rmD 2) (xP g [.ref mo, .int (x), .int (y)] (fun H => va_P g.1 vwCl (ModC g mo mn mp mq mt mm md zs zl zp zr zk w) H)) (vp_Si (fun r9 => r9 = xz (rowB w x && colB y))) 0 0 (fun _ => False) := by
  refine xMet (by decide) rfl (Nat.le_of_ble_eq_true rfl) ?_
  intro p e s m below meth c ls hF hZ hh hret hlocks hin hl
  have hx := hF.1.1
  have hb := hF.1.2.1
  have hP := hh
  have hP : va_P g.1 vwCl (ModC g mo mn mp mq mt mm md zs zl zp zr zk w) s.heap := hP
  have hl : lv_has ls 3 [(0, .ref mo), (1, .int (x)), (2, .int (y))] := hl
  have h48 := hW.n48
  have hp4 := hW.pg4
  have hp12 := hW.pg12
  have hs1 := hW.st1
  have hw2 := hW.wr2
  have hw6 := hW.wr6
  refine lv_aload_n hx hb dX4_isCell_0 rfl (lv_at hl 0 rfl) ?_
  refine lv_iload_n hx hb dX4_isCell_1 rfl (lv_at hl 1 rfl) ?_
  refine vp_callSi (va_Run.run (xrV hF (c_X4_isRow l g mo mn mp mq mt mm md zs zl zp zr zk w hW ((x)) ) cal_X4_isRow q_267 ⟨by decide, by decide⟩ rfl rfl rfl (va_recv hF.2.1 hP (ci := 4) (q0 := 0) rfl rfl) hZ (hP) hl.1 rfl (Nat.le_of_ble_eq_true rfl) dX4_isCell_2 ⟨Nat.le_refl _, Nat.le_refl _⟩)) (fun r_ h_ => ?_)
  subst h_
  refine xZ_eq (tgt := 19) hx hb dX4_isCell_5 (by decide) (fun c_5 => ?_) (fun c_5 => ?_)
  · refine xN_const hx hb 0 dX4_isCell_19 (by decide) ?_
    exact xret_t (V := nI (0)) hF hret hlocks rfl (by rw [c_5]; rfl) dX4_isCell_20
  · refine lv_iload_n hx hb dX4_isCell_8 rfl (lv_at hl 2 rfl) ?_
    refine vp_callSi (va_Run.run (xrS hF (c_X4_isColumn l g ((y)) ) cal_X4_isColumn q_271 ⟨by decide, by decide⟩ rfl rfl rfl hZ (trivial) hl.1 rfl (Nat.le_of_ble_eq_true rfl) dX4_isCell_9 ⟨Nat.le_refl _, Nat.le_refl _⟩)) (fun r_ h_ => ?_)
    subst h_
    refine xZ_eq (tgt := 19) hx hb dX4_isCell_12 (by decide) (fun c_12 => ?_) (fun c_12 => ?_)
    · refine xN_const hx hb 0 dX4_isCell_19 (by decide) ?_
      exact xret_t (V := nI (0)) hF hret hlocks rfl (by rw [c_5, c_12]; rfl) dX4_isCell_20
    · refine xN_const hx hb 1 dX4_isCell_15 (by decide) ?_
      refine lv_goto (tgt := 20) hx hb dX4_isCell_16 (by decide) ?_
      exact xret_t (V := nI (1)) hF hret hlocks rfl (by rw [c_5, c_12]; rfl) dX4_isCell_20
set_option maxHeartbeats 4000000 in
set_option maxRecDepth 100000 in
theorem c_X4_most (l : Launch) (g : XG) (k : Nat) (hk : k < 4) : Met l yX4_most (ww yX4_most cX4_most 1 (some .int)) (rmD 0) (xP g [.int (nI k)] (fun H => True)) (vp_Si (fun r9 => r9 = nI (cmN k))) 0 0 (fun _ => False) := by
  refine xMet (by decide) rfl (Nat.le_of_ble_eq_true rfl) ?_
  intro p e s m below meth c ls hF hZ hh hret hlocks hin hl
  have hx := hF.1.1
  have hb := hF.1.2.1
  have hl : lv_has ls 1 [(0, .int (nI k))] := hl
  refine lv_iload_n hx hb dX4_most_0 rfl (lv_at hl 0 rfl) ?_
  refine xI_ne (tgt := 9) hx hb (by omega) dX4_most_1 (by decide) (fun c_1 => ?_) (fun c_1 => ?_)
  · have hk9 : k = 1 ∨ k = 2 ∨ k = 3 := by omega
    refine lv_iload_n hx hb dX4_most_9 rfl (lv_at hl 0 rfl) ?_
    refine xN_const hx hb 1 dX4_most_10 (by decide) ?_
    refine xC_ne (tgt := 20) hx hb (by omega) (by omega) dX4_most_11 (by decide) (fun c_11 => ?_) (fun c_11 => ?_)
    · refine lv_iload_n hx hb dX4_most_20 rfl (lv_at hl 0 rfl) ?_
      refine xN_const hx hb 3 dX4_most_21 (by decide) ?_
      refine xC_ne (tgt := 30) hx hb (by omega) (by omega) dX4_most_22 (by decide) (fun c_22 => ?_) (fun c_22 => ?_)
      · refine xN_bi hx hb 12 dX4_most_30 (by decide) ?_
        exact xret_i (V := nI (12)) hF hret hlocks (by rw [show k = 2 by omega]; rfl) dX4_most_32
      · refine xN_bi hx hb 9 dX4_most_25 (by decide) ?_
        refine lv_goto (tgt := 32) hx hb dX4_most_27 (by decide) ?_
        exact xret_i (V := nI (9)) hF hret hlocks (by rw [c_22]; rfl) dX4_most_32
    · refine xN_si hx hb 199 dX4_most_14 (by decide) ?_
      refine lv_goto (tgt := 32) hx hb dX4_most_17 (by decide) ?_
      exact xret_i (V := nI (199)) hF hret hlocks (by rw [c_11]; rfl) dX4_most_32
  · refine xN_bi hx hb 7 dX4_most_4 (by decide) ?_
    refine lv_goto (tgt := 32) hx hb dX4_most_6 (by decide) ?_
    exact xret_i (V := nI (7)) hF hret hlocks (by rw [c_1]; rfl) dX4_most_32
set_option maxHeartbeats 4000000 in
set_option maxRecDepth 100000 in
theorem c_X4_isEntry (l : Launch) (g : XG) (k : Nat) (x : Int32) (hk : k < 4) : Met l yX4_isEntry (ww yX4_isEntry cX4_isEntry 2 (some .boolean)) (rmD 1) (xP g [.int (nI k), .int (x)] (fun H => True)) (vp_Si (fun r9 => r9 = xz (entB k x))) 0 0 (fun _ => False) := by
  refine xMet (by decide) rfl (Nat.le_of_ble_eq_true rfl) ?_
  intro p e s m below meth c ls hF hZ hh hret hlocks hin hl
  have hx := hF.1.1
  have hb := hF.1.2.1
  have hl : lv_has ls 2 [(0, .int (nI k)), (1, .int (x))] := hl
  refine lv_iload_n hx hb dX4_isEntry_0 rfl (lv_at hl 1 rfl) ?_
  refine lv_bipush hx hb (v := (-5)) dX4_isEntry_1 (by decide) ?_
  refine lv_icmp_eq (tgt := 24) hx hb dX4_isEntry_3 (by decide) (fun c_3 => ?_) (fun c_3 => ?_)
  · refine xN_const hx hb 1 dX4_isEntry_24 (by decide) ?_
    refine lv_goto (tgt := 29) hx hb dX4_isEntry_25 (by decide) ?_
    exact xret_t (V := nI (1)) hF hret hlocks rfl (xz_t (entB_t1 c_3)) dX4_isEntry_29
  · refine lv_iload_n hx hb dX4_isEntry_6 rfl (lv_at hl 1 rfl) ?_
    refine lv_bipush hx hb (v := (-6)) dX4_isEntry_7 (by decide) ?_
    refine lv_icmp_eq (tgt := 24) hx hb dX4_isEntry_9 (by decide) (fun c_9 => ?_) (fun c_9 => ?_)
    · refine xN_const hx hb 1 dX4_isEntry_24 (by decide) ?_
      refine lv_goto (tgt := 29) hx hb dX4_isEntry_25 (by decide) ?_
      exact xret_t (V := nI (1)) hF hret hlocks rfl (xz_t (entB_t2 c_9)) dX4_isEntry_29
    · refine lv_iload_n hx hb dX4_isEntry_12 rfl (lv_at hl 1 rfl) ?_
      refine xN_const hx hb 0 dX4_isEntry_13 (by decide) ?_
      refine lv_iload_n hx hb dX4_isEntry_14 rfl (lv_at hl 0 rfl) ?_
      refine vp_callSi (va_Run.run (xrS hF (c_X4_most l g k (by omega)) cal_X4_most q_116 ⟨by decide, by decide⟩ rfl rfl rfl hZ (trivial) hl.1 rfl (Nat.le_of_ble_eq_true rfl) dX4_isEntry_15 ⟨Nat.le_refl _, Nat.le_refl _⟩)) (fun r_ h_ => ?_)
      subst h_
      refine vp_callSi (va_Run.run (xrS hF (c_X4_in l g ((x)) (nI (0)) (nI (cmN k)) ) cal_X4_in q_119 ⟨by decide, by decide⟩ rfl rfl rfl hZ (trivial) hl.1 rfl (Nat.le_of_ble_eq_true rfl) dX4_isEntry_18 ⟨Nat.le_refl _, Nat.le_refl _⟩)) (fun r_ h_ => ?_)
      subst h_
      refine xZ_eq (tgt := 28) hx hb dX4_isEntry_21 (by decide) (fun c_21 => ?_) (fun c_21 => ?_)
      · refine xN_const hx hb 0 dX4_isEntry_28 (by decide) ?_
        exact xret_t (V := nI (0)) hF hret hlocks rfl (xz_f ((entB_in c_3 c_9).symm.trans c_21)) dX4_isEntry_29
      · refine xN_const hx hb 1 dX4_isEntry_24 (by decide) ?_
        refine lv_goto (tgt := 29) hx hb dX4_isEntry_25 (by decide) ?_
        exact xret_t (V := nI (1)) hF hret hlocks rfl (xz_t ((entB_in c_3 c_9).symm.trans c_21)) dX4_isEntry_29
set_option maxHeartbeats 4000000 in
set_option maxRecDepth 100000 in
theorem c_X4_cellAt (l : Launch) (g : XG) (r k : Nat) : Met l yX4_cellAt (ww yX4_cellAt cX4_cellAt 2 (some .int)) (rmD 0) (xP g [.int (nI r), .int (nI k)] (fun H => True)) (vp_Si (fun r9 => r9 = nI (28 + 5 * (4 * r + k)))) 0 0 (fun _ => False) := by
  refine xMet (by decide) rfl (Nat.le_of_ble_eq_true rfl) ?_
  intro p e s m below meth c ls hF hZ hh hret hlocks hin hl
  have hx := hF.1.1
  have hb := hF.1.2.1
  have hl : lv_has ls 2 [(0, .int (nI r)), (1, .int (nI k))] := hl
  refine xN_bi hx hb 28 dX4_cellAt_0 (by decide) ?_
  refine xN_const hx hb 5 dX4_cellAt_2 (by decide) ?_
  refine xN_const hx hb 4 dX4_cellAt_3 (by decide) ?_
  refine lv_iload_n hx hb dX4_cellAt_4 rfl (lv_at hl 0 rfl) ?_
  refine xN_mul hx hb dX4_cellAt_5 ?_
  refine lv_iload_n hx hb dX4_cellAt_6 rfl (lv_at hl 1 rfl) ?_
  refine xN_add hx hb dX4_cellAt_7 ?_
  refine xN_mul hx hb dX4_cellAt_8 ?_
  refine xN_add hx hb dX4_cellAt_9 ?_
  exact xret_i (V := nI (28 + (5 * (4 * r + k)))) hF hret hlocks (rfl) dX4_cellAt_10
set_option maxHeartbeats 4000000 in
set_option maxRecDepth 100000 in
theorem c_X4_entries (l : Launch) (g : XG) (mo mn mp mq mt mm md zs zl zp zr : Nat) (zk : Bool) (w : Nat → Int32) (hW : WF w) (r k : Nat) (hr : r < nr w) (hk : k < 4) : Met l yX4_entries (ww yX4_entries cX4_entries 3 (some .int)) (rmD 1) (xP g [.ref mo, .int (nI r), .int (nI k)] (fun H => va_P g.1 vwCl (ModC g mo mn mp mq mt mm md zs zl zp zr zk w) H)) (vp_Si (fun r9 => r9 = nI (cnt w (4 * r + k)))) 0 0 (fun _ => False) := by
  refine xMet (by decide) rfl (Nat.le_of_ble_eq_true rfl) ?_
  intro p e s m below meth c ls hF hZ hh hret hlocks hin hl
  have hx := hF.1.1
  have hb := hF.1.2.1
  have hP := hh
  have hP : va_P g.1 vwCl (ModC g mo mn mp mq mt mm md zs zl zp zr zk w) s.heap := hP
  have hl : lv_has ls 3 [(0, .ref mo), (1, .int (nI r)), (2, .int (nI k))] := hl
  have h48 := hW.n48
  have hp4 := hW.pg4
  have hp12 := hW.pg12
  have hs1 := hW.st1
  have hw2 := hW.wr2
  have hw6 := hW.wr6
  refine lv_aload_n hx hb dX4_entries_0 rfl (lv_at hl 0 rfl) ?_
  refine gf_X4_X4_now hF hP 0 rfl rfl dX4_entries_1 ?_
  refine lv_iload_n hx hb dX4_entries_4 rfl (lv_at hl 1 rfl) ?_
  refine lv_iload_n hx hb dX4_entries_5 rfl (lv_at hl 2 rfl) ?_
  refine vp_callSi (va_Run.run (xrS hF (c_X4_cellAt l g r k ) cal_X4_cellAt q_134 ⟨by decide, by decide⟩ rfl rfl rfl hZ (trivial) hl.1 rfl (Nat.le_of_ble_eq_true rfl) dX4_entries_6 ⟨Nat.le_refl _, Nat.le_refl _⟩)) (fun r_ h_ => ?_)
  subst h_
  refine xA_ild hF hP 1 rfl (by omega) (by decide) (v := nI (cnt w (4 * r + k))) (hW.c (by omega)) dX4_entries_9 ?_
  exact xret_i (V := nI (cnt w (4 * r + k))) hF hret hlocks (rfl) dX4_entries_10
set_option maxHeartbeats 4000000 in
set_option maxRecDepth 100000 in
theorem c_X4_latest (l : Launch) (g : XG) (mo mn mp mq mt mm md zs zl zp zr : Nat) (zk : Bool) (w : Nat → Int32) (hW : WF w) (r k : Nat) (hr : r < nr w) (hk : k < 4) : Met l yX4_latest (ww yX4_latest cX4_latest 3 (some .int)) (rmD 2) (xP g [.ref mo, .int (nI r), .int (nI k)] (fun H => va_P g.1 vwCl (ModC g mo mn mp mq mt mm md zs zl zp zr zk w) H)) (vp_Si (fun r9 => r9 = lat w r k)) 0 0 (fun _ => False) := by
  refine xMet (by decide) rfl (Nat.le_of_ble_eq_true rfl) ?_
  intro p e s m below meth c ls hF hZ hh hret hlocks hin hl
  have hx := hF.1.1
  have hb := hF.1.2.1
  have hP := hh
  have hP : va_P g.1 vwCl (ModC g mo mn mp mq mt mm md zs zl zp zr zk w) s.heap := hP
  have hl : lv_has ls 3 [(0, .ref mo), (1, .int (nI r)), (2, .int (nI k))] := hl
  have h48 := hW.n48
  have hp4 := hW.pg4
  have hp12 := hW.pg12
  have hs1 := hW.st1
  have hw2 := hW.wr2
  have hw6 := hW.wr6
  have hc4 := hW.c4 (i := 4 * r + k) (by omega)
  refine lv_aload_n hx hb dX4_latest_0 rfl (lv_at hl 0 rfl) ?_
  refine gf_X4_X4_now hF hP 0 rfl rfl dX4_latest_1 ?_
  refine lv_iload_n hx hb dX4_latest_4 rfl (lv_at hl 1 rfl) ?_
  refine lv_iload_n hx hb dX4_latest_5 rfl (lv_at hl 2 rfl) ?_
  refine vp_callSi (va_Run.run (xrS hF (c_X4_cellAt l g r k ) cal_X4_cellAt q_134 ⟨by decide, by decide⟩ rfl rfl rfl hZ (trivial) hl.1 rfl (Nat.le_of_ble_eq_true rfl) dX4_latest_6 ⟨Nat.le_refl _, Nat.le_refl _⟩)) (fun r_ h_ => ?_)
  subst h_
  refine lv_aload_n hx hb dX4_latest_9 rfl (lv_at hl 0 rfl) ?_
  refine lv_iload_n hx hb dX4_latest_10 rfl (lv_at hl 1 rfl) ?_
  refine lv_iload_n hx hb dX4_latest_11 rfl (lv_at hl 2 rfl) ?_
  refine vp_callSi (va_Run.run (xrV hF (c_X4_entries l g mo mn mp mq mt mm md zs zl zp zr zk w hW r k (by omega) (by omega)) cal_X4_entries q_274 ⟨by decide, by decide⟩ rfl rfl rfl (va_recv hF.2.1 hP (ci := 4) (q0 := 0) rfl rfl) hZ (hP) hl.1 rfl (Nat.le_of_ble_eq_true rfl) dX4_latest_12 ⟨Nat.le_refl _, Nat.le_refl _⟩)) (fun r_ h_ => ?_)
  subst h_
  refine xN_add hx hb dX4_latest_15 ?_
  refine xA_ild hF hP 1 rfl (by omega) (by decide) (v := (lat w r k)) rfl dX4_latest_16 ?_
  exact xret_i (V := (lat w r k)) hF hret hlocks (rfl) dX4_latest_17
set_option maxHeartbeats 4000000 in
set_option maxRecDepth 100000 in
theorem c_X4_goesUp (l : Launch) (g : XG) (mo mn mp mq mt mm md zs zl zp zr : Nat) (zk : Bool) (w : Nat → Int32) (hW : WF w) (r k : Nat) (hr : r < nr w) (hk : k < 4) : Met l yX4_goesUp (ww yX4_goesUp cX4_goesUp 4 (some .boolean)) (rmD 3) (xP g [.ref mo, .int (nI r), .int (nI k)] (fun H => va_P g.1 vwCl (ModC g mo mn mp mq mt mm md zs zl zp zr zk w) H)) (vp_Si (fun r9 => r9 = xz (upB w r k))) 0 0 (fun _ => False) := by
  refine xMet (by decide) rfl (Nat.le_of_ble_eq_true rfl) ?_
  intro p e s m below meth c ls hF hZ hh hret hlocks hin hl
  have hx := hF.1.1
  have hb := hF.1.2.1
  have hP := hh
  have hP : va_P g.1 vwCl (ModC g mo mn mp mq mt mm md zs zl zp zr zk w) s.heap := hP
  have hl : lv_has ls 4 [(0, .ref mo), (1, .int (nI r)), (2, .int (nI k))] := hl
  have h48 := hW.n48
  have hp4 := hW.pg4
  have hp12 := hW.pg12
  have hs1 := hW.st1
  have hw2 := hW.wr2
  have hw6 := hW.wr6
  have hm := Nat.mod_lt r (show 0 < pgN w by omega)
  refine lv_iload_n hx hb dX4_goesUp_0 rfl (lv_at hl 1 rfl) ?_
  refine xI_eq (tgt := 25) hx hb (by omega) dX4_goesUp_1 (by decide) (fun c_1 => ?_) (fun c_1 => ?_)
  · have ab : abvB w r = false := by rw [c_1]; rfl
    refine xN_const hx hb 1 dX4_goesUp_25 (by decide) ?_
    refine lv_goto (tgt := 30) hx hb dX4_goesUp_26 (by decide) ?_
    refine lv_istore_n (lv' := [(3, .int (nI 1)), (0, .ref mo), (1, .int (nI r)), (2, .int (nI k))]) hx hb dX4_goesUp_30 rfl hl (by decide) rfl (fun ls hl => ?_)
    refine lv_aload_n hx hb dX4_goesUp_31 rfl (lv_at hl 1 rfl) ?_
    refine lv_iload_n hx hb dX4_goesUp_32 rfl (lv_at hl 2 rfl) ?_
    refine lv_iload_n hx hb dX4_goesUp_33 rfl (lv_at hl 3 rfl) ?_
    refine vp_callSi (va_Run.run (xrV hF (c_X4_latest l g mo mn mp mq mt mm md zs zl zp zr zk w hW r k (by omega) (by omega)) cal_X4_latest q_278 ⟨by decide, by decide⟩ rfl rfl rfl (va_recv hF.2.1 hP (ci := 4) (q0 := 0) rfl rfl) hZ (hP) hl.1 rfl (Nat.le_of_ble_eq_true rfl) dX4_goesUp_34 ⟨Nat.le_refl _, Nat.le_refl _⟩)) (fun r_ h_ => ?_)
    subst h_
    refine lv_bipush hx hb (v := (-6)) dX4_goesUp_37 (by decide) ?_
    refine lv_icmp_ne (tgt := 50) hx hb dX4_goesUp_39 (by decide) (fun c_39 => ?_) (fun c_39 => ?_)
    · refine xN_const hx hb 0 dX4_goesUp_50 (by decide) ?_
      exact xret_t (V := nI (0)) hF hret hlocks rfl (xz_f (by unfold upB; rw [beq_eq_false_iff_ne.mpr c_39, Bool.false_and])) dX4_goesUp_51
    · refine lv_iload_n hx hb dX4_goesUp_42 rfl (lv_at hl 0 rfl) ?_
      refine xI_ne (tgt := 50) hx hb (by omega) dX4_goesUp_43 (by decide) (fun c_43 => ?_) (fun c_43 => absurd c_43 (by decide))
      refine xN_const hx hb 0 dX4_goesUp_50 (by decide) ?_
      exact xret_t (V := nI (0)) hF hret hlocks rfl (xz_f (by unfold upB; rw [ab, Bool.and_false])) dX4_goesUp_51
  · refine lv_aload_n hx hb dX4_goesUp_4 rfl (lv_at hl 0 rfl) ?_
    refine gf_X4_X4_now hF hP 0 rfl rfl dX4_goesUp_5 ?_
    refine xN_const hx hb 2 dX4_goesUp_8 (by decide) ?_
    refine xA_ild hF hP 1 rfl (by omega) (by decide) (v := nI (stN w)) (hW.r2) dX4_goesUp_9 ?_
    refine xN_const hx hb 1 dX4_goesUp_10 (by decide) ?_
    refine xC_ne (tgt := 29) hx hb (by omega) (by omega) dX4_goesUp_11 (by decide) (fun c_11 => ?_) (fun c_11 => ?_)
    · have ab : abvB w r = true := by unfold abvB; rw [show stN w = 0 by omega]; simp; omega
      refine xN_const hx hb 0 dX4_goesUp_29 (by decide) ?_
      refine lv_istore_n (lv' := [(3, .int (nI 0)), (0, .ref mo), (1, .int (nI r)), (2, .int (nI k))]) hx hb dX4_goesUp_30 rfl hl (by decide) rfl (fun ls hl => ?_)
      refine lv_aload_n hx hb dX4_goesUp_31 rfl (lv_at hl 1 rfl) ?_
      refine lv_iload_n hx hb dX4_goesUp_32 rfl (lv_at hl 2 rfl) ?_
      refine lv_iload_n hx hb dX4_goesUp_33 rfl (lv_at hl 3 rfl) ?_
      refine vp_callSi (va_Run.run (xrV hF (c_X4_latest l g mo mn mp mq mt mm md zs zl zp zr zk w hW r k (by omega) (by omega)) cal_X4_latest q_278 ⟨by decide, by decide⟩ rfl rfl rfl (va_recv hF.2.1 hP (ci := 4) (q0 := 0) rfl rfl) hZ (hP) hl.1 rfl (Nat.le_of_ble_eq_true rfl) dX4_goesUp_34 ⟨Nat.le_refl _, Nat.le_refl _⟩)) (fun r_ h_ => ?_)
      subst h_
      refine lv_bipush hx hb (v := (-6)) dX4_goesUp_37 (by decide) ?_
      refine lv_icmp_ne (tgt := 50) hx hb dX4_goesUp_39 (by decide) (fun c_39 => ?_) (fun c_39 => ?_)
      · refine xN_const hx hb 0 dX4_goesUp_50 (by decide) ?_
        exact xret_t (V := nI (0)) hF hret hlocks rfl (xz_f (by unfold upB; rw [beq_eq_false_iff_ne.mpr c_39, Bool.false_and])) dX4_goesUp_51
      · refine lv_iload_n hx hb dX4_goesUp_42 rfl (lv_at hl 0 rfl) ?_
        refine xI_ne (tgt := 50) hx hb (by omega) dX4_goesUp_43 (by decide) (fun c_43 => absurd c_43 (by decide)) (fun c_43 => ?_)
        refine xN_const hx hb 1 dX4_goesUp_46 (by decide) ?_
        refine lv_goto (tgt := 51) hx hb dX4_goesUp_47 (by decide) ?_
        exact xret_t (V := nI (1)) hF hret hlocks rfl (xz_t (by unfold upB; rw [ab, c_39]; rfl)) dX4_goesUp_51
    · refine lv_iload_n hx hb dX4_goesUp_14 rfl (lv_at hl 1 rfl) ?_
      refine lv_aload_n hx hb dX4_goesUp_15 rfl (lv_at hl 0 rfl) ?_
      refine gf_X4_X4_now hF hP 0 rfl rfl dX4_goesUp_16 ?_
      refine xN_const hx hb 1 dX4_goesUp_19 (by decide) ?_
      refine xA_ild hF hP 1 rfl (by omega) (by decide) (v := nI (pgN w)) (hW.r1) dX4_goesUp_20 ?_
      refine xN_rem hx hb (by omega) (by omega) (by omega) dX4_goesUp_21 ?_
      refine xI_ne (tgt := 29) hx hb (by omega) dX4_goesUp_22 (by decide) (fun c_22 => ?_) (fun c_22 => ?_)
      · have ab : abvB w r = true := by unfold abvB; simp; omega
        refine xN_const hx hb 0 dX4_goesUp_29 (by decide) ?_
        refine lv_istore_n (lv' := [(3, .int (nI 0)), (0, .ref mo), (1, .int (nI r)), (2, .int (nI k))]) hx hb dX4_goesUp_30 rfl hl (by decide) rfl (fun ls hl => ?_)
        refine lv_aload_n hx hb dX4_goesUp_31 rfl (lv_at hl 1 rfl) ?_
        refine lv_iload_n hx hb dX4_goesUp_32 rfl (lv_at hl 2 rfl) ?_
        refine lv_iload_n hx hb dX4_goesUp_33 rfl (lv_at hl 3 rfl) ?_
        refine vp_callSi (va_Run.run (xrV hF (c_X4_latest l g mo mn mp mq mt mm md zs zl zp zr zk w hW r k (by omega) (by omega)) cal_X4_latest q_278 ⟨by decide, by decide⟩ rfl rfl rfl (va_recv hF.2.1 hP (ci := 4) (q0 := 0) rfl rfl) hZ (hP) hl.1 rfl (Nat.le_of_ble_eq_true rfl) dX4_goesUp_34 ⟨Nat.le_refl _, Nat.le_refl _⟩)) (fun r_ h_ => ?_)
        subst h_
        refine lv_bipush hx hb (v := (-6)) dX4_goesUp_37 (by decide) ?_
        refine lv_icmp_ne (tgt := 50) hx hb dX4_goesUp_39 (by decide) (fun c_39 => ?_) (fun c_39 => ?_)
        · refine xN_const hx hb 0 dX4_goesUp_50 (by decide) ?_
          exact xret_t (V := nI (0)) hF hret hlocks rfl (xz_f (by unfold upB; rw [beq_eq_false_iff_ne.mpr c_39, Bool.false_and])) dX4_goesUp_51
        · refine lv_iload_n hx hb dX4_goesUp_42 rfl (lv_at hl 0 rfl) ?_
          refine xI_ne (tgt := 50) hx hb (by omega) dX4_goesUp_43 (by decide) (fun c_43 => absurd c_43 (by decide)) (fun c_43 => ?_)
          refine xN_const hx hb 1 dX4_goesUp_46 (by decide) ?_
          refine lv_goto (tgt := 51) hx hb dX4_goesUp_47 (by decide) ?_
          exact xret_t (V := nI (1)) hF hret hlocks rfl (xz_t (by unfold upB; rw [ab, c_39]; rfl)) dX4_goesUp_51
      · have ab : abvB w r = false := by unfold abvB; rw [c_11, c_22]; simp
        refine xN_const hx hb 1 dX4_goesUp_25 (by decide) ?_
        refine lv_goto (tgt := 30) hx hb dX4_goesUp_26 (by decide) ?_
        refine lv_istore_n (lv' := [(3, .int (nI 1)), (0, .ref mo), (1, .int (nI r)), (2, .int (nI k))]) hx hb dX4_goesUp_30 rfl hl (by decide) rfl (fun ls hl => ?_)
        refine lv_aload_n hx hb dX4_goesUp_31 rfl (lv_at hl 1 rfl) ?_
        refine lv_iload_n hx hb dX4_goesUp_32 rfl (lv_at hl 2 rfl) ?_
        refine lv_iload_n hx hb dX4_goesUp_33 rfl (lv_at hl 3 rfl) ?_
        refine vp_callSi (va_Run.run (xrV hF (c_X4_latest l g mo mn mp mq mt mm md zs zl zp zr zk w hW r k (by omega) (by omega)) cal_X4_latest q_278 ⟨by decide, by decide⟩ rfl rfl rfl (va_recv hF.2.1 hP (ci := 4) (q0 := 0) rfl rfl) hZ (hP) hl.1 rfl (Nat.le_of_ble_eq_true rfl) dX4_goesUp_34 ⟨Nat.le_refl _, Nat.le_refl _⟩)) (fun r_ h_ => ?_)
        subst h_
        refine lv_bipush hx hb (v := (-6)) dX4_goesUp_37 (by decide) ?_
        refine lv_icmp_ne (tgt := 50) hx hb dX4_goesUp_39 (by decide) (fun c_39 => ?_) (fun c_39 => ?_)
        · refine xN_const hx hb 0 dX4_goesUp_50 (by decide) ?_
          exact xret_t (V := nI (0)) hF hret hlocks rfl (xz_f (by unfold upB; rw [beq_eq_false_iff_ne.mpr c_39, Bool.false_and])) dX4_goesUp_51
        · refine lv_iload_n hx hb dX4_goesUp_42 rfl (lv_at hl 0 rfl) ?_
          refine xI_ne (tgt := 50) hx hb (by omega) dX4_goesUp_43 (by decide) (fun c_43 => ?_) (fun c_43 => absurd c_43 (by decide))
          refine xN_const hx hb 0 dX4_goesUp_50 (by decide) ?_
          exact xret_t (V := nI (0)) hF hret hlocks rfl (xz_f (by unfold upB; rw [ab, Bool.and_false])) dX4_goesUp_51
set_option maxHeartbeats 4000000 in
set_option maxRecDepth 100000 in
theorem c_X4_end (l : Launch) (g : XG) (mo mn mp mq mt mm md zs zl zp zr : Nat) (zk : Bool) (w : Nat → Int32) (hW : WF w) (r k : Nat) (hr : r < nr w) (hk : k < 4) : Met l yX4_end (ww yX4_end cX4_end 4 (some .int)) (rmD 4) (xP g [.ref mo, .int (nI r), .int (nI k)] (fun H => va_P g.1 vwCl (ModC g mo mn mp mq mt mm md zs zl zp zr zk w) H)) (vp_Si (fun r9 => r9 = nI (top w k r))) 0 0 (fun _ => False) := by
  refine xMet (by decide) rfl (Nat.le_of_ble_eq_true rfl) ?_
  intro p e s m below meth c ls hF hZ hh hret hlocks hin hl
  have hx := hF.1.1
  have hb := hF.1.2.1
  have hP := hh
  have hP : va_P g.1 vwCl (ModC g mo mn mp mq mt mm md zs zl zp zr zk w) s.heap := hP
  have hl : lv_has ls 4 [(0, .ref mo), (1, .int (nI r)), (2, .int (nI k))] := hl
  have h48 := hW.n48
  have hp4 := hW.pg4
  have hp12 := hW.pg12
  have hs1 := hW.st1
  have hw2 := hW.wr2
  have hw6 := hW.wr6
  refine lv_iload_n hx hb dX4_end_0 rfl (lv_at hl 1 rfl) ?_
  refine lv_istore_n (lv' := [(3, .int (nI r)), (0, .ref mo), (1, .int (nI r)), (2, .int (nI k))]) hx hb dX4_end_1 rfl hl (by decide) rfl (fun ls hl => ?_)
  refine xloop (goal := fun ls => W p l e _ s m _ below meth c s.heap [] _ _ _ (F0 m _ ls [])) (fun (z_ : Nat) (ls : Array Slot) => match z_ with | t => (t ≤ r) ∧ (top w k t = top w k r) ∧ lv_has ls 4 [(0, .ref mo), (1, .int (nI r)), (2, .int (nI k)), (3, .int (nI t))]) (fun (z_ : Nat) => match z_ with | t => t) ?_ (r) ls ⟨Nat.le_refl r, rfl, lv_sub hl [1, 2, 3, 0] rfl⟩
  rintro t ls ⟨I1, I2, hl⟩ ih
  refine lv_aload_n hx hb dX4_end_2 rfl (lv_at hl 0 rfl) ?_
  refine lv_iload_n hx hb dX4_end_3 rfl (lv_at hl 3 rfl) ?_
  refine lv_iload_n hx hb dX4_end_4 rfl (lv_at hl 2 rfl) ?_
  refine vp_callSi (va_Run.run (xrV hF (c_X4_goesUp l g mo mn mp mq mt mm md zs zl zp zr zk w hW t k (by omega) (by omega)) cal_X4_goesUp q_294 ⟨by decide, by decide⟩ rfl rfl rfl (va_recv hF.2.1 hP (ci := 4) (q0 := 0) rfl rfl) hZ (hP) hl.1 rfl (Nat.le_of_ble_eq_true rfl) dX4_end_5 ⟨Nat.le_refl _, Nat.le_refl _⟩)) (fun r_ h_ => ?_)
  subst h_
  refine xZ_eq (tgt := 17) hx hb dX4_end_8 (by decide) (fun c_8 => ?_) (fun c_8 => ?_)
  · refine lv_iload_n hx hb dX4_end_17 rfl (lv_at hl 3 rfl) ?_
    exact xret_i (V := nI (t)) hF hret hlocks (by rw [← I2, top_no c_8]) dX4_end_18
  · have ht0 : 0 < t := Nat.pos_of_ne_zero (fun q => by subst q; rw [upB_0] at c_8; exact absurd c_8 (by decide))
    refine xN_dec (lv' := [(3, .int (nI (t - 1))), (0, .ref mo), (1, .int (nI r)), (2, .int (nI k))]) hx hb (by omega) dX4_end_11 hl (k := 3) rfl (by decide) rfl (fun ls hl => ?_)
    refine lv_goto (tgt := 2) hx hb dX4_end_14 (by decide) ?_
    exact ih (t - 1) ls ⟨by omega, (top_up ht0 c_8).symm.trans I2, lv_sub hl [1, 2, 3, 0] rfl⟩ (by dsimp only; omega)
set_option maxHeartbeats 4000000 in
set_option maxRecDepth 100000 in
theorem c_X4_means (l : Launch) (g : XG) (mo mn mp mq mt mm md zs zl zp zr : Nat) (zk : Bool) (w : Nat → Int32) (hW : WF w) (r k : Nat) (hr : r < nr w) (hk : k < 4) : Met l yX4_means (ww yX4_means cX4_means 4 (some .int)) (rmD 5) (xP g [.ref mo, .int (nI r), .int (nI k)] (fun H => va_P g.1 vwCl (ModC g mo mn mp mq mt mm md zs zl zp zr zk w) H)) (vp_Si (fun r9 => r9 = mean w r k)) 0 0 (fun _ => False) := by
  refine xMet (by decide) rfl (Nat.le_of_ble_eq_true rfl) ?_
  intro p e s m below meth c ls hF hZ hh hret hlocks hin hl
  have hx := hF.1.1
  have hb := hF.1.2.1
  have hP := hh
  have hP : va_P g.1 vwCl (ModC g mo mn mp mq mt mm md zs zl zp zr zk w) s.heap := hP
  have hl : lv_has ls 4 [(0, .ref mo), (1, .int (nI r)), (2, .int (nI k))] := hl
  have h48 := hW.n48
  have hp4 := hW.pg4
  have hp12 := hW.pg12
  have hs1 := hW.st1
  have hw2 := hW.wr2
  have hw6 := hW.wr6
  have ht := top_le w k r
  refine lv_aload_n hx hb dX4_means_0 rfl (lv_at hl 0 rfl) ?_
  refine lv_aload_n hx hb dX4_means_1 rfl (lv_at hl 0 rfl) ?_
  refine lv_iload_n hx hb dX4_means_2 rfl (lv_at hl 1 rfl) ?_
  refine lv_iload_n hx hb dX4_means_3 rfl (lv_at hl 2 rfl) ?_
  refine vp_callSi (va_Run.run (xrV hF (c_X4_end l g mo mn mp mq mt mm md zs zl zp zr zk w hW r k (by omega) (by omega)) cal_X4_end q_290 ⟨by decide, by decide⟩ rfl rfl rfl (va_recv hF.2.1 hP (ci := 4) (q0 := 0) rfl rfl) hZ (hP) hl.1 rfl (Nat.le_of_ble_eq_true rfl) dX4_means_4 ⟨Nat.le_refl _, Nat.le_refl _⟩)) (fun r_ h_ => ?_)
  subst h_
  refine lv_iload_n hx hb dX4_means_7 rfl (lv_at hl 2 rfl) ?_
  refine vp_callSi (va_Run.run (xrV hF (c_X4_latest l g mo mn mp mq mt mm md zs zl zp zr zk w hW (top w k r) k (by omega) (by omega)) cal_X4_latest q_278 ⟨by decide, by decide⟩ rfl rfl rfl (va_recv hF.2.1 hP (ci := 4) (q0 := 0) rfl rfl) hZ (hP) hl.1 rfl (Nat.le_of_ble_eq_true rfl) dX4_means_8 ⟨Nat.le_refl _, Nat.le_refl _⟩)) (fun r_ h_ => ?_)
  subst h_
  refine lv_istore_n (lv' := [(3, .int (lat w (top w k r) k)), (0, .ref mo), (1, .int (nI r)), (2, .int (nI k))]) hx hb dX4_means_11 rfl hl (by decide) rfl (fun ls hl => ?_)
  refine lv_iload_n hx hb dX4_means_12 rfl (lv_at hl 0 rfl) ?_
  refine lv_if_lt (tgt := 20) hx hb dX4_means_13 (by decide) (fun c_13 => ?_) (fun c_13 => ?_)
  · refine lv_bipush hx hb (v := (-5)) dX4_means_20 (by decide) ?_
    exact xret_i (V := (-5)) hF hret hlocks (by unfold mean; rw [if_pos c_13]) dX4_means_22
  · refine lv_iload_n hx hb dX4_means_16 rfl (lv_at hl 0 rfl) ?_
    refine lv_goto (tgt := 22) hx hb dX4_means_17 (by decide) ?_
    exact xret_i (V := (lat w (top w k r) k)) hF hret hlocks (by unfold mean; rw [if_neg c_13]) dX4_means_22
set_option maxHeartbeats 4000000 in
set_option maxRecDepth 100000 in
theorem c_X4_source (l : Launch) (g : XG) (mo mn mp mq mt mm md zs zl zp zr : Nat) (zk : Bool) (w : Nat → Int32) (hW : WF w) (r k : Nat) (hr : r < nr w) (hk : k < 4) : Met l yX4_source (ww yX4_source cX4_source 4 (some .int)) (rmD 5) (xP g [.ref mo, .int (nI r), .int (nI k)] (fun H => va_P g.1 vwCl (ModC g mo mn mp mq mt mm md zs zl zp zr zk w) H)) (vp_Si (fun r9 => r9 = srcI w r k)) 0 0 (fun _ => False) := by
  refine xMet (by decide) rfl (Nat.le_of_ble_eq_true rfl) ?_
  intro p e s m below meth c ls hF hZ hh hret hlocks hin hl
  have hx := hF.1.1
  have hb := hF.1.2.1
  have hP := hh
  have hP : va_P g.1 vwCl (ModC g mo mn mp mq mt mm md zs zl zp zr zk w) s.heap := hP
  have hl : lv_has ls 4 [(0, .ref mo), (1, .int (nI r)), (2, .int (nI k))] := hl
  have h48 := hW.n48
  have hp4 := hW.pg4
  have hp12 := hW.pg12
  have hs1 := hW.st1
  have hw2 := hW.wr2
  have hw6 := hW.wr6
  have ht := top_le w k r
  refine lv_aload_n hx hb dX4_source_0 rfl (lv_at hl 0 rfl) ?_
  refine lv_iload_n hx hb dX4_source_1 rfl (lv_at hl 1 rfl) ?_
  refine lv_iload_n hx hb dX4_source_2 rfl (lv_at hl 2 rfl) ?_
  refine vp_callSi (va_Run.run (xrV hF (c_X4_end l g mo mn mp mq mt mm md zs zl zp zr zk w hW r k (by omega) (by omega)) cal_X4_end q_290 ⟨by decide, by decide⟩ rfl rfl rfl (va_recv hF.2.1 hP (ci := 4) (q0 := 0) rfl rfl) hZ (hP) hl.1 rfl (Nat.le_of_ble_eq_true rfl) dX4_source_3 ⟨Nat.le_refl _, Nat.le_refl _⟩)) (fun r_ h_ => ?_)
  subst h_
  refine lv_istore_n (lv' := [(3, .int (nI (top w k r))), (0, .ref mo), (1, .int (nI r)), (2, .int (nI k))]) hx hb dX4_source_6 rfl hl (by decide) rfl (fun ls hl => ?_)
  refine lv_aload_n hx hb dX4_source_7 rfl (lv_at hl 1 rfl) ?_
  refine lv_iload_n hx hb dX4_source_8 rfl (lv_at hl 0 rfl) ?_
  refine lv_iload_n hx hb dX4_source_9 rfl (lv_at hl 3 rfl) ?_
  refine vp_callSi (va_Run.run (xrV hF (c_X4_latest l g mo mn mp mq mt mm md zs zl zp zr zk w hW (top w k r) k (by omega) (by omega)) cal_X4_latest q_278 ⟨by decide, by decide⟩ rfl rfl rfl (va_recv hF.2.1 hP (ci := 4) (q0 := 0) rfl rfl) hZ (hP) hl.1 rfl (Nat.le_of_ble_eq_true rfl) dX4_source_10 ⟨Nat.le_refl _, Nat.le_refl _⟩)) (fun r_ h_ => ?_)
  subst h_
  refine lv_if_lt (tgt := 20) hx hb dX4_source_13 (by decide) (fun c_13 => ?_) (fun c_13 => ?_)
  · refine lv_bipush hx hb (v := (-5)) dX4_source_20 (by decide) ?_
    exact xret_i (V := (-5)) hF hret hlocks (by unfold srcI; rw [if_pos c_13]) dX4_source_22
  · refine lv_iload_n hx hb dX4_source_16 rfl (lv_at hl 0 rfl) ?_
    refine lv_goto (tgt := 22) hx hb dX4_source_17 (by decide) ?_
    exact xret_i (V := nI (top w k r)) hF hret hlocks (by unfold srcI; rw [if_neg c_13]) dX4_source_22
set_option maxHeartbeats 4000000 in
set_option maxRecDepth 100000 in
theorem c_X4_chain (l : Launch) (g : XG) (mo mn mp mq mt mm md zs zl zp zr : Nat) (zk : Bool) (w : Nat → Int32) (hW : WF w) (r k : Nat) (hr : r < nr w) (hk : k < 4) : Met l yX4_chain (ww yX4_chain cX4_chain 3 (some .int)) (rmD 5) (xP g [.ref mo, .int (nI r), .int (nI k)] (fun H => va_P g.1 vwCl (ModC g mo mn mp mq mt mm md zs zl zp zr zk w) H)) (vp_Si (fun r9 => r9 = nI (r - top w k r + 1))) 0 0 (fun _ => False) := by
  refine xMet (by decide) rfl (Nat.le_of_ble_eq_true rfl) ?_
  intro p e s m below meth c ls hF hZ hh hret hlocks hin hl
  have hx := hF.1.1
  have hb := hF.1.2.1
  have hP := hh
  have hP : va_P g.1 vwCl (ModC g mo mn mp mq mt mm md zs zl zp zr zk w) s.heap := hP
  have hl : lv_has ls 3 [(0, .ref mo), (1, .int (nI r)), (2, .int (nI k))] := hl
  have h48 := hW.n48
  have hp4 := hW.pg4
  have hp12 := hW.pg12
  have hs1 := hW.st1
  have hw2 := hW.wr2
  have hw6 := hW.wr6
  have ht := top_le w k r
  refine lv_iload_n hx hb dX4_chain_0 rfl (lv_at hl 1 rfl) ?_
  refine lv_aload_n hx hb dX4_chain_1 rfl (lv_at hl 0 rfl) ?_
  refine lv_iload_n hx hb dX4_chain_2 rfl (lv_at hl 1 rfl) ?_
  refine lv_iload_n hx hb dX4_chain_3 rfl (lv_at hl 2 rfl) ?_
  refine vp_callSi (va_Run.run (xrV hF (c_X4_end l g mo mn mp mq mt mm md zs zl zp zr zk w hW r k (by omega) (by omega)) cal_X4_end q_290 ⟨by decide, by decide⟩ rfl rfl rfl (va_recv hF.2.1 hP (ci := 4) (q0 := 0) rfl rfl) hZ (hP) hl.1 rfl (Nat.le_of_ble_eq_true rfl) dX4_chain_4 ⟨Nat.le_refl _, Nat.le_refl _⟩)) (fun r_ h_ => ?_)
  subst h_
  refine xN_sub hx hb (by omega) dX4_chain_7 ?_
  refine xN_const hx hb 1 dX4_chain_8 (by decide) ?_
  refine xN_add hx hb dX4_chain_9 ?_
  exact xret_i (V := nI ((r - (top w k r)) + 1)) hF hret hlocks (rfl) dX4_chain_10
set_option maxHeartbeats 4000000 in
set_option maxRecDepth 100000 in
theorem c_X4_isDoubtful (l : Launch) (g : XG) (mo mn mp mq mt mm md zs zl zp zr : Nat) (zk : Bool) (w : Nat → Int32) (hW : WF w) (r k : Nat) (hr : r < nr w) (hk : k < 4) : Met l yX4_isDoubtful (ww yX4_isDoubtful cX4_isDoubtful 5 (some .boolean)) (rmD 5) (xP g [.ref mo, .int (nI r), .int (nI k)] (fun H => va_P g.1 vwCl (ModC g mo mn mp mq mt mm md zs zl zp zr zk w) H)) (vp_Si (fun r9 => r9 = xz (dbt w r k))) 0 0 (fun _ => False) := by
  refine xMet (by decide) rfl (Nat.le_of_ble_eq_true rfl) ?_
  intro p e s m below meth c ls hF hZ hh hret hlocks hin hl
  have hx := hF.1.1
  have hb := hF.1.2.1
  have hP := hh
  have hP : va_P g.1 vwCl (ModC g mo mn mp mq mt mm md zs zl zp zr zk w) s.heap := hP
  have hl : lv_has ls 5 [(0, .ref mo), (1, .int (nI r)), (2, .int (nI k))] := hl
  have h48 := hW.n48
  have hp4 := hW.pg4
  have hp12 := hW.pg12
  have hs1 := hW.st1
  have hw2 := hW.wr2
  have hw6 := hW.wr6
  have ht := top_le w k r
  refine xN_const hx hb 0 dX4_isDoubtful_0 (by decide) ?_
  refine lv_istore_n (lv' := [(3, .int (nI 0)), (0, .ref mo), (1, .int (nI r)), (2, .int (nI k))]) hx hb dX4_isDoubtful_1 rfl hl (by decide) rfl (fun ls hl => ?_)
  refine lv_aload_n hx hb dX4_isDoubtful_2 rfl (lv_at hl 1 rfl) ?_
  refine lv_iload_n hx hb dX4_isDoubtful_3 rfl (lv_at hl 2 rfl) ?_
  refine lv_iload_n hx hb dX4_isDoubtful_4 rfl (lv_at hl 3 rfl) ?_
  refine vp_callSi (va_Run.run (xrV hF (c_X4_end l g mo mn mp mq mt mm md zs zl zp zr zk w hW r k (by omega) (by omega)) cal_X4_end q_290 ⟨by decide, by decide⟩ rfl rfl rfl (va_recv hF.2.1 hP (ci := 4) (q0 := 0) rfl rfl) hZ (hP) hl.1 rfl (Nat.le_of_ble_eq_true rfl) dX4_isDoubtful_5 ⟨Nat.le_refl _, Nat.le_refl _⟩)) (fun r_ h_ => ?_)
  subst h_
  refine lv_istore (lv' := [(4, .int (nI (top w k r))), (3, .int (nI 0)), (0, .ref mo), (1, .int (nI r)), (2, .int (nI k))]) hx hb dX4_isDoubtful_8 hl (by decide) rfl (fun ls hl => ?_)
  refine xloop (goal := fun ls => W p l e _ s m _ below meth c s.heap [] _ _ _ (F0 m _ ls [])) (fun (z_ : Bool × Nat) (ls : Array Slot) => match z_ with | (b, i) => (top w k r ≤ i) ∧ (i ≤ r + 1) ∧ (b = dB w k (top w k r) (i - top w k r)) ∧ lv_has ls 5 [(0, .ref mo), (1, .int (nI r)), (2, .int (nI k)), (3, .int (xz (b))), (4, .int (nI i))]) (fun (z_ : Bool × Nat) => match z_ with | (b, i) => r + 1 - i) ?_ (false, top w k r) ls ⟨Nat.le_refl _, by omega, by rw [Nat.sub_self]; rfl, lv_sub hl [2, 3, 4, 1, 0] rfl⟩
  rintro ⟨b, i⟩ ls ⟨I1, I2, I3, hl⟩ ih
  refine lv_iload hx hb dX4_isDoubtful_10 (lv_at hl 4 rfl) ?_
  refine lv_iload_n hx hb dX4_isDoubtful_12 rfl (lv_at hl 1 rfl) ?_
  refine xC_gt (tgt := 43) hx hb (by omega) (by omega) dX4_isDoubtful_13 (by decide) (fun c_13 => ?_) (fun c_13 => ?_)
  · refine lv_iload_n hx hb dX4_isDoubtful_43 rfl (lv_at hl 3 rfl) ?_
    exact xret_t (V := xz (b)) hF hret hlocks (xz_nar _) (by rw [I3, show i = r + 1 by omega, show r + 1 - top w k r = r - top w k r + 1 by omega]; rfl) dX4_isDoubtful_44
  · refine lv_iload_n hx hb dX4_isDoubtful_16 rfl (lv_at hl 3 rfl) ?_
    refine xZ_ne (tgt := 31) hx hb dX4_isDoubtful_17 (by decide) (fun c_17 => ?_) (fun c_17 => ?_)
    · refine xN_const hx hb 1 dX4_isDoubtful_31 (by decide) ?_
      refine lv_goto (tgt := 36) hx hb dX4_isDoubtful_32 (by decide) ?_
      refine lv_istore_n (lv' := [(3, .int (nI 1)), (0, .ref mo), (1, .int (nI r)), (2, .int (nI k)), (4, .int (nI i))]) hx hb dX4_isDoubtful_36 rfl hl (by decide) rfl (fun ls hl => ?_)
      refine xN_inc (lv' := [(4, .int (nI (i + 1))), (3, .int (nI 1)), (0, .ref mo), (1, .int (nI r)), (2, .int (nI k))]) hx hb 1 dX4_isDoubtful_37 hl (k := 4) rfl (by decide) (by decide) rfl (fun ls hl => ?_)
      refine lv_goto (tgt := 10) hx hb dX4_isDoubtful_40 (by decide) ?_
      exact ih (true, i + 1) ls ⟨by omega, by omega, by rw [dB_step I1, ← I3, c_17]; rfl, lv_sub hl [2, 3, 4, 1, 0] rfl⟩ (by dsimp only; omega)
    · refine lv_aload_n hx hb dX4_isDoubtful_20 rfl (lv_at hl 0 rfl) ?_
      refine lv_iload hx hb dX4_isDoubtful_21 (lv_at hl 4 rfl) ?_
      refine lv_iload_n hx hb dX4_isDoubtful_23 rfl (lv_at hl 2 rfl) ?_
      refine vp_callSi (va_Run.run (xrV hF (c_X4_entries l g mo mn mp mq mt mm md zs zl zp zr zk w hW i k (by omega) (by omega)) cal_X4_entries q_274 ⟨by decide, by decide⟩ rfl rfl rfl (va_recv hF.2.1 hP (ci := 4) (q0 := 0) rfl rfl) hZ (hP) hl.1 rfl (Nat.le_of_ble_eq_true rfl) dX4_isDoubtful_24 ⟨Nat.le_refl _, Nat.le_refl _⟩)) (fun r_ h_ => ?_)
      subst h_
      refine xN_const hx hb 1 dX4_isDoubtful_27 (by decide) ?_
      have hq4 := hW.c4 (i := 4 * i + k) (by omega)
      refine xC_le (tgt := 35) hx hb (by omega) (by omega) dX4_isDoubtful_28 (by decide) (fun c_28 => ?_) (fun c_28 => ?_)
      · refine xN_const hx hb 0 dX4_isDoubtful_35 (by decide) ?_
        refine lv_istore_n (lv' := [(3, .int (nI 0)), (0, .ref mo), (1, .int (nI r)), (2, .int (nI k)), (4, .int (nI i))]) hx hb dX4_isDoubtful_36 rfl hl (by decide) rfl (fun ls hl => ?_)
        refine xN_inc (lv' := [(4, .int (nI (i + 1))), (3, .int (nI 0)), (0, .ref mo), (1, .int (nI r)), (2, .int (nI k))]) hx hb 1 dX4_isDoubtful_37 hl (k := 4) rfl (by decide) (by decide) rfl (fun ls hl => ?_)
        refine lv_goto (tgt := 10) hx hb dX4_isDoubtful_40 (by decide) ?_
        exact ih (false, i + 1) ls ⟨by omega, by omega, by rw [dB_step I1, ← I3, c_17, decide_eq_false (by omega)]; rfl, lv_sub hl [2, 3, 4, 1, 0] rfl⟩ (by dsimp only; omega)
      · refine xN_const hx hb 1 dX4_isDoubtful_31 (by decide) ?_
        refine lv_goto (tgt := 36) hx hb dX4_isDoubtful_32 (by decide) ?_
        refine lv_istore_n (lv' := [(3, .int (nI 1)), (0, .ref mo), (1, .int (nI r)), (2, .int (nI k)), (4, .int (nI i))]) hx hb dX4_isDoubtful_36 rfl hl (by decide) rfl (fun ls hl => ?_)
        refine xN_inc (lv' := [(4, .int (nI (i + 1))), (3, .int (nI 1)), (0, .ref mo), (1, .int (nI r)), (2, .int (nI k))]) hx hb 1 dX4_isDoubtful_37 hl (k := 4) rfl (by decide) (by decide) rfl (fun ls hl => ?_)
        refine lv_goto (tgt := 10) hx hb dX4_isDoubtful_40 (by decide) ?_
        exact ih (true, i + 1) ls ⟨by omega, by omega, by rw [dB_step I1, decide_eq_true (by omega), Bool.or_true], lv_sub hl [2, 3, 4, 1, 0] rfl⟩ (by dsimp only; omega)
set_option maxHeartbeats 4000000 in
set_option maxRecDepth 100000 in
theorem c_X4_below (l : Launch) (g : XG) (mo mn mp mq mt mm md zs zl zp zr : Nat) (zk : Bool) (w : Nat → Int32) (hW : WF w) (r k : Nat) (hr : r < nr w) (hk : k < 4) : Met l yX4_below (ww yX4_below cX4_below 4 (some .int)) (rmD 4) (xP g [.ref mo, .int (nI r), .int (nI k)] (fun H => va_P g.1 vwCl (ModC g mo mn mp mq mt mm md zs zl zp zr zk w) H)) (vp_Si (fun r9 => r9 = nI (stop w k (r + 1) - 1 - r))) 0 0 (fun _ => False) := by
  refine xMet (by decide) rfl (Nat.le_of_ble_eq_true rfl) ?_
  intro p e s m below meth c ls hF hZ hh hret hlocks hin hl
  have hx := hF.1.1
  have hb := hF.1.2.1
  have hP := hh
  have hP : va_P g.1 vwCl (ModC g mo mn mp mq mt mm md zs zl zp zr zk w) s.heap := hP
  have hl : lv_has ls 4 [(0, .ref mo), (1, .int (nI r)), (2, .int (nI k))] := hl
  have h48 := hW.n48
  have hp4 := hW.pg4
  have hp12 := hW.pg12
  have hs1 := hW.st1
  have hw2 := hW.wr2
  have hw6 := hW.wr6
  refine lv_iload_n hx hb dX4_below_0 rfl (lv_at hl 1 rfl) ?_
  refine xN_const hx hb 1 dX4_below_1 (by decide) ?_
  refine xN_add hx hb dX4_below_2 ?_
  refine lv_istore_n (lv' := [(3, .int (nI (r + 1))), (0, .ref mo), (1, .int (nI r)), (2, .int (nI k))]) hx hb dX4_below_3 rfl hl (by decide) rfl (fun ls hl => ?_)
  refine xloop (goal := fun ls => W p l e _ s m _ below meth c s.heap [] _ _ _ (F0 m _ ls [])) (fun (z_ : Nat) (ls : Array Slot) => match z_ with | t => (r + 1 ≤ t) ∧ (t ≤ nr w) ∧ (stop w k t = stop w k (r + 1)) ∧ lv_has ls 4 [(0, .ref mo), (1, .int (nI r)), (2, .int (nI k)), (3, .int (nI t))]) (fun (z_ : Nat) => match z_ with | t => nr w - t) ?_ (r + 1) ls ⟨Nat.le_refl _, by omega, rfl, lv_sub hl [1, 2, 3, 0] rfl⟩
  rintro t ls ⟨I1, I2, I3, hl⟩ ih
  refine lv_iload_n hx hb dX4_below_4 rfl (lv_at hl 3 rfl) ?_
  refine lv_aload_n hx hb dX4_below_5 rfl (lv_at hl 0 rfl) ?_
  refine gf_X4_X4_now hF hP 0 rfl rfl dX4_below_6 ?_
  refine xN_const hx hb 0 dX4_below_9 (by decide) ?_
  refine xA_ild hF hP 1 rfl (by omega) (by decide) (v := nI (nr w)) (hW.r0) dX4_below_10 ?_
  refine xC_ge (tgt := 29) hx hb (by omega) (by omega) dX4_below_11 (by decide) (fun c_11 => ?_) (fun c_11 => ?_)
  · refine lv_iload_n hx hb dX4_below_29 rfl (lv_at hl 3 rfl) ?_
    refine lv_iload_n hx hb dX4_below_30 rfl (lv_at hl 1 rfl) ?_
    refine xN_sub hx hb (by omega) dX4_below_31 ?_
    refine xN_const hx hb 1 dX4_below_32 (by decide) ?_
    refine xN_sub hx hb (by omega) dX4_below_33 ?_
    exact xret_i (V := nI ((t - r) - 1)) hF hret hlocks (by rw [← I3, stop_end (by omega), Nat.sub_right_comm]) dX4_below_34
  · refine lv_aload_n hx hb dX4_below_14 rfl (lv_at hl 0 rfl) ?_
    refine lv_iload_n hx hb dX4_below_15 rfl (lv_at hl 3 rfl) ?_
    refine lv_iload_n hx hb dX4_below_16 rfl (lv_at hl 2 rfl) ?_
    refine vp_callSi (va_Run.run (xrV hF (c_X4_goesUp l g mo mn mp mq mt mm md zs zl zp zr zk w hW t k (by omega) (by omega)) cal_X4_goesUp q_294 ⟨by decide, by decide⟩ rfl rfl rfl (va_recv hF.2.1 hP (ci := 4) (q0 := 0) rfl rfl) hZ (hP) hl.1 rfl (Nat.le_of_ble_eq_true rfl) dX4_below_17 ⟨Nat.le_refl _, Nat.le_refl _⟩)) (fun r_ h_ => ?_)
    subst h_
    refine xZ_eq (tgt := 29) hx hb dX4_below_20 (by decide) (fun c_20 => ?_) (fun c_20 => ?_)
    · refine lv_iload_n hx hb dX4_below_29 rfl (lv_at hl 3 rfl) ?_
      refine lv_iload_n hx hb dX4_below_30 rfl (lv_at hl 1 rfl) ?_
      refine xN_sub hx hb (by omega) dX4_below_31 ?_
      refine xN_const hx hb 1 dX4_below_32 (by decide) ?_
      refine xN_sub hx hb (by omega) dX4_below_33 ?_
      exact xret_i (V := nI ((t - r) - 1)) hF hret hlocks (by rw [← I3, stop_no c_20, Nat.sub_right_comm]) dX4_below_34
    · refine xN_inc (lv' := [(3, .int (nI (t + 1))), (0, .ref mo), (1, .int (nI r)), (2, .int (nI k))]) hx hb 1 dX4_below_23 hl (k := 3) rfl (by decide) (by decide) rfl (fun ls hl => ?_)
      refine lv_goto (tgt := 4) hx hb dX4_below_26 (by decide) ?_
      exact ih (t + 1) ls ⟨by omega, by omega, (stop_up (by omega) c_20).symm.trans I3, lv_sub hl [1, 2, 3, 0] rfl⟩ (by dsimp only; omega)
set_option maxHeartbeats 4000000 in
set_option maxRecDepth 100000 in
theorem c_X4_written (l : Launch) (g : XG) (mo mn mp mq mt mm md zs zl zp zr : Nat) (zk : Bool) (w : Nat → Int32) (hW : WF w) (r : Nat) (hr : r < nr w) : Met l yX4_written (ww yX4_written cX4_written 4 (some .int)) (rmD 3) (xP g [.ref mo, .int (nI r)] (fun H => va_P g.1 vwCl (ModC g mo mn mp mq mt mm md zs zl zp zr zk w) H)) (vp_Si (fun r9 => r9 = xz (wrB w r))) 0 0 (fun _ => False) := by
  refine xMet (by decide) rfl (Nat.le_of_ble_eq_true rfl) ?_
  intro p e s m below meth c ls hF hZ hh hret hlocks hin hl
  have hx := hF.1.1
  have hb := hF.1.2.1
  have hP := hh
  have hP : va_P g.1 vwCl (ModC g mo mn mp mq mt mm md zs zl zp zr zk w) s.heap := hP
  have hl : lv_has ls 4 [(0, .ref mo), (1, .int (nI r))] := hl
  have h48 := hW.n48
  have hp4 := hW.pg4
  have hp12 := hW.pg12
  have hs1 := hW.st1
  have hw2 := hW.wr2
  have hw6 := hW.wr6
  refine xN_const hx hb 1 dX4_written_0 (by decide) ?_
  refine lv_istore_n (lv' := [(2, .int (nI 1)), (0, .ref mo), (1, .int (nI r))]) hx hb dX4_written_1 rfl hl (by decide) rfl (fun ls hl => ?_)
  refine xN_const hx hb 0 dX4_written_2 (by decide) ?_
  refine lv_istore_n (lv' := [(3, .int (nI 0)), (2, .int (nI 1)), (0, .ref mo), (1, .int (nI r))]) hx hb dX4_written_3 rfl hl (by decide) rfl (fun ls hl => ?_)
  refine xloop (goal := fun ls => W p l e _ s m _ below meth c s.heap [] _ _ _ (F0 m _ ls [])) (fun (z_ : Bool × Nat) (ls : Array Slot) => match z_ with | (b, i) => (i ≤ 4) ∧ (b = wr4 w r i) ∧ lv_has ls 4 [(0, .ref mo), (1, .int (nI r)), (2, .int (xz (b))), (3, .int (nI i))]) (fun (z_ : Bool × Nat) => match z_ with | (b, i) => 4 - i) ?_ (true, 0) ls ⟨by omega, rfl, lv_sub hl [2, 3, 1, 0] rfl⟩
  rintro ⟨b, i⟩ ls ⟨I1, I2, hl⟩ ih
  refine lv_iload_n hx hb dX4_written_4 rfl (lv_at hl 3 rfl) ?_
  refine xN_const hx hb 4 dX4_written_5 (by decide) ?_
  refine xC_ge (tgt := 34) hx hb (by omega) (by omega) dX4_written_6 (by decide) (fun c_6 => ?_) (fun c_6 => ?_)
  · refine lv_iload_n hx hb dX4_written_34 rfl (lv_at hl 2 rfl) ?_
    refine xZ_eq (tgt := 42) hx hb dX4_written_35 (by decide) (fun c_35 => ?_) (fun c_35 => ?_)
    · refine xN_const hx hb 0 dX4_written_42 (by decide) ?_
      exact xret_i (V := nI (0)) hF hret hlocks (xz_f (by rw [c_35, show i = 4 by omega] at I2; exact I2.symm)) dX4_written_43
    · refine xN_const hx hb 1 dX4_written_38 (by decide) ?_
      refine lv_goto (tgt := 43) hx hb dX4_written_39 (by decide) ?_
      exact xret_i (V := nI (1)) hF hret hlocks (xz_t (by rw [c_35, show i = 4 by omega] at I2; exact I2.symm)) dX4_written_43
  · refine lv_iload_n hx hb dX4_written_9 rfl (lv_at hl 2 rfl) ?_
    refine xZ_eq (tgt := 26) hx hb dX4_written_10 (by decide) (fun c_10 => ?_) (fun c_10 => ?_)
    · refine xN_const hx hb 0 dX4_written_26 (by decide) ?_
      refine lv_istore_n (lv' := [(2, .int (nI 0)), (0, .ref mo), (1, .int (nI r)), (3, .int (nI i))]) hx hb dX4_written_27 rfl hl (by decide) rfl (fun ls hl => ?_)
      refine xN_inc (lv' := [(3, .int (nI (i + 1))), (2, .int (nI 0)), (0, .ref mo), (1, .int (nI r))]) hx hb 1 dX4_written_28 hl (k := 3) rfl (by decide) (by decide) rfl (fun ls hl => ?_)
      refine lv_goto (tgt := 4) hx hb dX4_written_31 (by decide) ?_
      exact ih (false, i + 1) ls ⟨by omega, by rw [wr4, ← I2, c_10]; rfl, lv_sub hl [2, 3, 1, 0] rfl⟩ (by dsimp only; omega)
    · refine lv_aload_n hx hb dX4_written_13 rfl (lv_at hl 0 rfl) ?_
      refine lv_iload_n hx hb dX4_written_14 rfl (lv_at hl 1 rfl) ?_
      refine lv_iload_n hx hb dX4_written_15 rfl (lv_at hl 3 rfl) ?_
      refine vp_callSi (va_Run.run (xrV hF (c_X4_latest l g mo mn mp mq mt mm md zs zl zp zr zk w hW r i (by omega) (by omega)) cal_X4_latest q_278 ⟨by decide, by decide⟩ rfl rfl rfl (va_recv hF.2.1 hP (ci := 4) (q0 := 0) rfl rfl) hZ (hP) hl.1 rfl (Nat.le_of_ble_eq_true rfl) dX4_written_16 ⟨Nat.le_refl _, Nat.le_refl _⟩)) (fun r_ h_ => ?_)
      subst h_
      refine lv_if_lt (tgt := 26) hx hb dX4_written_19 (by decide) (fun c_19 => ?_) (fun c_19 => ?_)
      · refine xN_const hx hb 0 dX4_written_26 (by decide) ?_
        refine lv_istore_n (lv' := [(2, .int (nI 0)), (0, .ref mo), (1, .int (nI r)), (3, .int (nI i))]) hx hb dX4_written_27 rfl hl (by decide) rfl (fun ls hl => ?_)
        refine xN_inc (lv' := [(3, .int (nI (i + 1))), (2, .int (nI 0)), (0, .ref mo), (1, .int (nI r))]) hx hb 1 dX4_written_28 hl (k := 3) rfl (by decide) (by decide) rfl (fun ls hl => ?_)
        refine lv_goto (tgt := 4) hx hb dX4_written_31 (by decide) ?_
        exact ih (false, i + 1) ls ⟨by omega, by rw [wr4, decide_eq_false (Int32.not_le.mpr c_19), Bool.and_false], lv_sub hl [2, 3, 1, 0] rfl⟩ (by dsimp only; omega)
      · refine xN_const hx hb 1 dX4_written_22 (by decide) ?_
        refine lv_goto (tgt := 27) hx hb dX4_written_23 (by decide) ?_
        refine lv_istore_n (lv' := [(2, .int (nI 1)), (0, .ref mo), (1, .int (nI r)), (3, .int (nI i))]) hx hb dX4_written_27 rfl hl (by decide) rfl (fun ls hl => ?_)
        refine xN_inc (lv' := [(3, .int (nI (i + 1))), (2, .int (nI 1)), (0, .ref mo), (1, .int (nI r))]) hx hb 1 dX4_written_28 hl (k := 3) rfl (by decide) (by decide) rfl (fun ls hl => ?_)
        refine lv_goto (tgt := 4) hx hb dX4_written_31 (by decide) ?_
        exact ih (true, i + 1) ls ⟨by omega, by rw [wr4, ← I2, c_10, decide_eq_true (Int32.not_lt.mp c_19)]; rfl, lv_sub hl [2, 3, 1, 0] rfl⟩ (by dsimp only; omega)
set_option maxHeartbeats 4000000 in
set_option maxRecDepth 100000 in
theorem c_X4_isWritten (l : Launch) (g : XG) (mo mn mp mq mt mm md zs zl zp zr : Nat) (zk : Bool) (w : Nat → Int32) (hW : WF w) (x : Int32) : Met l yX4_isWritten (ww yX4_isWritten cX4_isWritten 2 (some .int)) (rmD 4) (xP g [.ref mo, .int (x)] (fun H => va_P g.1 vwCl (ModC g mo mn mp mq mt mm md zs zl zp zr zk w) H)) (vp_Si (fun r9 => r9 = isWrA w x)) 0 0 (fun _ => False) := by
  refine xMet (by decide) rfl (Nat.le_of_ble_eq_true rfl) ?_
  intro p e s m below meth c ls hF hZ hh hret hlocks hin hl
  have hx := hF.1.1
  have hb := hF.1.2.1
  have hP := hh
  have hP : va_P g.1 vwCl (ModC g mo mn mp mq mt mm md zs zl zp zr zk w) s.heap := hP
  have hl : lv_has ls 2 [(0, .ref mo), (1, .int (x))] := hl
  have h48 := hW.n48
  have hp4 := hW.pg4
  have hp12 := hW.pg12
  have hs1 := hW.st1
  have hw2 := hW.wr2
  have hw6 := hW.wr6
  refine lv_aload_n hx hb dX4_isWritten_0 rfl (lv_at hl 0 rfl) ?_
  refine lv_iload_n hx hb dX4_isWritten_1 rfl (lv_at hl 1 rfl) ?_
  refine vp_callSi (va_Run.run (xrV hF (c_X4_isRow l g mo mn mp mq mt mm md zs zl zp zr zk w hW ((x)) ) cal_X4_isRow q_267 ⟨by decide, by decide⟩ rfl rfl rfl (va_recv hF.2.1 hP (ci := 4) (q0 := 0) rfl rfl) hZ (hP) hl.1 rfl (Nat.le_of_ble_eq_true rfl) dX4_isWritten_2 ⟨Nat.le_refl _, Nat.le_refl _⟩)) (fun r_ h_ => ?_)
  subst h_
  refine xZ_eq (tgt := 16) hx hb dX4_isWritten_5 (by decide) (fun c_5 => ?_) (fun c_5 => ?_)
  · refine lv_iconst hx hb (v := (-1)) dX4_isWritten_16 (by decide) ?_
    exact xret_i (V := (-1)) hF hret hlocks (by unfold isWrA; rw [c_5]; rfl) dX4_isWritten_17
  · obtain ⟨r, hr, rfl⟩ := (rowB_iff hW).mp c_5
    refine lv_aload_n hx hb dX4_isWritten_8 rfl (lv_at hl 0 rfl) ?_
    refine lv_iload_n hx hb dX4_isWritten_9 rfl (lv_at hl 1 rfl) ?_
    refine vp_callSi (va_Run.run (xrV hF (c_X4_written l g mo mn mp mq mt mm md zs zl zp zr zk w hW r (by omega)) cal_X4_written q_449 ⟨by decide, by decide⟩ rfl rfl rfl (va_recv hF.2.1 hP (ci := 4) (q0 := 0) rfl rfl) hZ (hP) hl.1 rfl (Nat.le_of_ble_eq_true rfl) dX4_isWritten_10 ⟨Nat.le_refl _, Nat.le_refl _⟩)) (fun r_ h_ => ?_)
    subst h_
    refine lv_goto (tgt := 17) hx hb dX4_isWritten_13 (by decide) ?_
    exact xret_i (V := xz (wrB w r)) hF hret hlocks (by unfold isWrA; rw [if_pos c_5, nI_clamp (by omega)]) dX4_isWritten_17
