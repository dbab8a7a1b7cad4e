/-! the logbook: its methods that read -/
set_option maxHeartbeats 4000000 in
set_option maxRecDepth 100000 in
theorem c_X3_at (l : Launch) (g : XG) (a n k : Nat) (f : Nat → Int32) (hk : k < n) (hn : n < 2147483648) : Met l yX3_at (ww yX3_at cX3_at 2 (some .int)) (rmD 0) (xP g [.ref a, .int (nI k)] (fun H => va_P g.1 vwCl [(a, .inl (g.2.1 0, n, .inl f))] H)) (vp_Si (fun r9 => r9 = f k)) 0 0 (fun _ => False) := by
  refine xMet (by decide) rfl (Nat.le_of_ble_eq_true rfl) ?_
  intro p e s m below meth c ls hF hZ hh hret hlocks hin hl
  have hx := hF.1.1
  have hb := hF.1.2.1
  have hP := hh
  have hP : va_P g.1 vwCl [(a, .inl (g.2.1 0, n, .inl f))] s.heap := hP
  have hl : lv_has ls 2 [(0, .ref a), (1, .int (nI k))] := hl
  refine lv_iload_n hx hb dX3_at_0 rfl (lv_at hl 1 rfl) ?_
  refine xI_lt (tgt := 16) hx hb (by omega) dX3_at_1 (by decide) ?_
  refine lv_iload_n hx hb dX3_at_4 rfl (lv_at hl 1 rfl) ?_
  refine lv_aload_n hx hb dX3_at_5 rfl (lv_at hl 0 rfl) ?_
  refine xA_len hF hP 0 0 rfl rfl dX3_at_6 ?_
  refine xC_ge (tgt := 16) hx hb (by omega) (by omega) dX3_at_7 (by decide) (fun c_7 => absurd c_7 (by omega)) (fun c_7 => ?_)
  refine lv_aload_n hx hb dX3_at_10 rfl (lv_at hl 0 rfl) ?_
  refine lv_iload_n hx hb dX3_at_11 rfl (lv_at hl 1 rfl) ?_
  refine xA_ild hF hP 0 rfl (by omega) hn (v := (f (k))) rfl dX3_at_12 ?_
  refine lv_goto (tgt := 18) hx hb dX3_at_13 (by decide) ?_
  exact xret_i (V := (f (k))) hF hret hlocks (rfl) dX3_at_18
set_option maxHeartbeats 4000000 in
set_option maxRecDepth 100000 in
theorem c_X3_atZ0 (l : Launch) (g : XG) (k : Nat) (hk : k < 4) : Met l yX3_at (ww yX3_at cX3_at 2 (some .int)) (rmD 0) (xP g [.ref ((g.2.2 0)), .int (nI k)] (fun H => True)) (vp_Si (fun r9 => r9 = cmax k)) 0 0 (fun _ => False) := by
  refine xMet (by decide) rfl (Nat.le_of_ble_eq_true rfl) ?_
  intro p e s m below meth c ls hF hZ hh hret hlocks hin hl
  have hx := hF.1.1
  have hb := hF.1.2.1
  have hl : lv_has ls 2 [(0, .ref ((g.2.2 0))), (1, .int (nI k))] := hl
  have hSB : va_S (xB g) s.heap s.heap [] := va_S.rf
  refine lv_iload_n hx hb dX3_at_0 rfl (lv_at hl 1 rfl) ?_
  refine xI_lt (tgt := 16) hx hb (by omega) dX3_at_1 (by decide) ?_
  refine lv_iload_n hx hb dX3_at_4 rfl (lv_at hl 1 rfl) ?_
  refine lv_aload_n hx hb dX3_at_5 rfl (lv_at hl 0 rfl) ?_
  refine va_tlen hx hb hZ.1.2 hSB (v := nI 4) rfl dX3_at_6 ?_
  refine xC_ge (tgt := 16) hx hb (by omega) (by omega) dX3_at_7 (by decide) (fun c_7 => absurd c_7 (by omega)) (fun c_7 => ?_)
  refine lv_aload_n hx hb dX3_at_10 rfl (lv_at hl 0 rfl) ?_
  refine lv_iload_n hx hb dX3_at_11 rfl (lv_at hl 1 rfl) ?_
  refine va_ti hx hb hZ.1.2 hSB (vp_in_nI (by omega) (by decide)) (v := .int (cmax (k))) (by rw [nI_clamp (by omega)]) dX3_at_12 ?_
  refine lv_goto (tgt := 18) hx hb dX3_at_13 (by decide) ?_
  exact xret_i (V := (cmax (k))) hF hret hlocks (rfl) dX3_at_18
set_option maxHeartbeats 4000000 in
set_option maxRecDepth 100000 in
theorem c_X3_atZ1 (l : Launch) (g : XG) (k : Nat) (hk : k < 3) : Met l yX3_at (ww yX3_at cX3_at 2 (some .int)) (rmD 0) (xP g [.ref ((g.2.2 1)), .int (nI k)] (fun H => True)) (vp_Si (fun r9 => r9 = smin k)) 0 0 (fun _ => False) := by
  refine xMet (by decide) rfl (Nat.le_of_ble_eq_true rfl) ?_
  intro p e s m below meth c ls hF hZ hh hret hlocks hin hl
  have hx := hF.1.1
  have hb := hF.1.2.1
  have hl : lv_has ls 2 [(0, .ref ((g.2.2 1))), (1, .int (nI k))] := hl
  have hSB : va_S (xB g) s.heap s.heap [] := va_S.rf
  refine lv_iload_n hx hb dX3_at_0 rfl (lv_at hl 1 rfl) ?_
  refine xI_lt (tgt := 16) hx hb (by omega) dX3_at_1 (by decide) ?_
  refine lv_iload_n hx hb dX3_at_4 rfl (lv_at hl 1 rfl) ?_
  refine lv_aload_n hx hb dX3_at_5 rfl (lv_at hl 0 rfl) ?_
  refine va_tlen hx hb hZ.2.1.2 hSB (v := nI 3) rfl dX3_at_6 ?_
  refine xC_ge (tgt := 16) hx hb (by omega) (by omega) dX3_at_7 (by decide) (fun c_7 => absurd c_7 (by omega)) (fun c_7 => ?_)
  refine lv_aload_n hx hb dX3_at_10 rfl (lv_at hl 0 rfl) ?_
  refine lv_iload_n hx hb dX3_at_11 rfl (lv_at hl 1 rfl) ?_
  refine va_ti hx hb hZ.2.1.2 hSB (vp_in_nI (by omega) (by decide)) (v := .int (smin (k))) (by rw [nI_clamp (by omega)]) dX3_at_12 ?_
  refine lv_goto (tgt := 18) hx hb dX3_at_13 (by decide) ?_
  exact xret_i (V := (smin (k))) hF hret hlocks (rfl) dX3_at_18
set_option maxHeartbeats 4000000 in
set_option maxRecDepth 100000 in
theorem c_X3_atZ2 (l : Launch) (g : XG) (k : Nat) (hk : k < 3) : Met l yX3_at (ww yX3_at cX3_at 2 (some .int)) (rmD 0) (xP g [.ref ((g.2.2 2)), .int (nI k)] (fun H => True)) (vp_Si (fun r9 => r9 = smax k)) 0 0 (fun _ => False) := by
  refine xMet (by decide) rfl (Nat.le_of_ble_eq_true rfl) ?_
  intro p e s m below meth c ls hF hZ hh hret hlocks hin hl
  have hx := hF.1.1
  have hb := hF.1.2.1
  have hl : lv_has ls 2 [(0, .ref ((g.2.2 2))), (1, .int (nI k))] := hl
  have hSB : va_S (xB g) s.heap s.heap [] := va_S.rf
  refine lv_iload_n hx hb dX3_at_0 rfl (lv_at hl 1 rfl) ?_
  refine xI_lt (tgt := 16) hx hb (by omega) dX3_at_1 (by decide) ?_
  refine lv_iload_n hx hb dX3_at_4 rfl (lv_at hl 1 rfl) ?_
  refine lv_aload_n hx hb dX3_at_5 rfl (lv_at hl 0 rfl) ?_
  refine va_tlen hx hb hZ.2.2.2 hSB (v := nI 3) rfl dX3_at_6 ?_
  refine xC_ge (tgt := 16) hx hb (by omega) (by omega) dX3_at_7 (by decide) (fun c_7 => absurd c_7 (by omega)) (fun c_7 => ?_)
  refine lv_aload_n hx hb dX3_at_10 rfl (lv_at hl 0 rfl) ?_
  refine lv_iload_n hx hb dX3_at_11 rfl (lv_at hl 1 rfl) ?_
  refine va_ti hx hb hZ.2.2.2 hSB (vp_in_nI (by omega) (by decide)) (v := .int (smax (k))) (by rw [nI_clamp (by omega)]) dX3_at_12 ?_
  refine lv_goto (tgt := 18) hx hb dX3_at_13 (by decide) ?_
  exact xret_i (V := (smax (k))) hF hret hlocks (rfl) dX3_at_18
set_option maxHeartbeats 4000000 in
set_option maxRecDepth 100000 in
theorem c_X3_isColumn (l : Launch) (g : XG) (x : Int32) : Met l yX3_isColumn (ww yX3_isColumn cX3_isColumn 1 (some .boolean)) (rmD 0) (xP g [.int (x)] (fun H => True)) (vp_Si (fun r9 => r9 = xz (colB x))) 0 0 (fun _ => False) := by
  refine xMet (by decide) rfl (Nat.le_of_ble_eq_true rfl) ?_
  intro p e s m below meth c ls hF hZ hh hret hlocks hin hl
  have hx := hF.1.1
  have hb := hF.1.2.1
  have hl : lv_has ls 1 [(0, .int (x))] := hl
  refine lv_iload_n hx hb dX3_isColumn_0 rfl (lv_at hl 0 rfl) ?_
  refine lv_if_lt (tgt := 13) hx hb dX3_isColumn_1 (by decide) (fun c_1 => ?_) (fun c_1 => ?_)
  · refine xN_const hx hb 0 dX3_isColumn_13 (by decide) ?_
    exact xret_t (V := nI (0)) hF hret hlocks rfl (xz_f (colB_f1 c_1)) dX3_isColumn_14
  · refine lv_iload_n hx hb dX3_isColumn_4 rfl (lv_at hl 0 rfl) ?_
    refine xN_const hx hb 4 dX3_isColumn_5 (by decide) ?_
    refine lv_icmp_ge (tgt := 13) hx hb dX3_isColumn_6 (by decide) (fun c_6 => ?_) (fun c_6 => ?_)
    · refine xN_const hx hb 0 dX3_isColumn_13 (by decide) ?_
      exact xret_t (V := nI (0)) hF hret hlocks rfl (xz_f (colB_f2 c_6)) dX3_isColumn_14
    · refine xN_const hx hb 1 dX3_isColumn_9 (by decide) ?_
      refine lv_goto (tgt := 14) hx hb dX3_isColumn_10 (by decide) ?_
      exact xret_t (V := nI (1)) hF hret hlocks rfl (xz_t (colB_t c_1 c_6)) dX3_isColumn_14
set_option maxHeartbeats 4000000 in
set_option maxRecDepth 100000 in
theorem c_X3_isEntry (l : Launch) (g : XG) (k : Nat) (x : Int32) (hk : k < 4) : Met l yX3_isEntry (ww yX3_isEntry cX3_isEntry 2 (some .boolean)) (rmD 1) (xP g [.int (nI k), .int (x)] (fun H => True)) (vp_Si (fun r9 => r9 = xz (entB k x))) 0 0 (fun _ => False) := by
  refine xMet (by decide) rfl (Nat.le_of_ble_eq_true rfl) ?_
  intro p e s m below meth c ls hF hZ hh hret hlocks hin hl
  have hx := hF.1.1
  have hb := hF.1.2.1
  have hl : lv_has ls 2 [(0, .int (nI k)), (1, .int (x))] := hl
  have hSB : va_S (xB g) s.heap s.heap [] := va_S.rf
  refine lv_iload_n hx hb dX3_isEntry_0 rfl (lv_at hl 1 rfl) ?_
  refine lv_bipush hx hb (v := (-5)) dX3_isEntry_1 (by decide) ?_
  refine lv_icmp_eq (tgt := 27) hx hb dX3_isEntry_3 (by decide) (fun c_3 => ?_) (fun c_3 => ?_)
  · refine xN_const hx hb 1 dX3_isEntry_27 (by decide) ?_
    refine lv_goto (tgt := 32) hx hb dX3_isEntry_28 (by decide) ?_
    exact xret_t (V := nI (1)) hF hret hlocks rfl (xz_t (entB_t1 c_3)) dX3_isEntry_32
  · refine lv_iload_n hx hb dX3_isEntry_6 rfl (lv_at hl 1 rfl) ?_
    refine lv_bipush hx hb (v := (-6)) dX3_isEntry_7 (by decide) ?_
    refine lv_icmp_eq (tgt := 27) hx hb dX3_isEntry_9 (by decide) (fun c_9 => ?_) (fun c_9 => ?_)
    · refine xN_const hx hb 1 dX3_isEntry_27 (by decide) ?_
      refine lv_goto (tgt := 32) hx hb dX3_isEntry_28 (by decide) ?_
      exact xret_t (V := nI (1)) hF hret hlocks rfl (xz_t (entB_t2 c_9)) dX3_isEntry_32
    · refine lv_iload_n hx hb dX3_isEntry_12 rfl (lv_at hl 1 rfl) ?_
      refine lv_if_lt (tgt := 31) hx hb dX3_isEntry_13 (by decide) (fun c_13 => ?_) (fun c_13 => ?_)
      · refine xN_const hx hb 0 dX3_isEntry_31 (by decide) ?_
        exact xret_t (V := nI (0)) hF hret hlocks rfl (xz_f (entB_f1 c_3 c_9 c_13)) dX3_isEntry_32
      · refine lv_iload_n hx hb dX3_isEntry_16 rfl (lv_at hl 1 rfl) ?_
        refine va_gets hx hb (hZ.1.1) hSB hF.1.2.2.2.1 (hF.1.2.2.2.2 _ q_74) (fun _ h => h) dX3_isEntry_17 ?_
        refine lv_iload_n hx hb dX3_isEntry_20 rfl (lv_at hl 0 rfl) ?_
        refine vp_callSi (va_Run.run (xrS hF (c_X3_atZ0 l g k (by omega)) cal_X3_at q_75 ⟨by decide, by decide⟩ rfl rfl rfl hZ (trivial) hl.1 rfl (Nat.le_of_ble_eq_true rfl) dX3_isEntry_21 ⟨Nat.le_refl _, Nat.le_refl _⟩)) (fun r_ h_ => ?_)
        subst h_
        refine lv_icmp_gt (tgt := 31) hx hb dX3_isEntry_24 (by decide) (fun c_24 => ?_) (fun c_24 => ?_)
        · refine xN_const hx hb 0 dX3_isEntry_31 (by decide) ?_
          exact xret_t (V := nI (0)) hF hret hlocks rfl (xz_f (entB_f2 c_3 c_9 c_24)) dX3_isEntry_32
        · refine xN_const hx hb 1 dX3_isEntry_27 (by decide) ?_
          refine lv_goto (tgt := 32) hx hb dX3_isEntry_28 (by decide) ?_
          exact xret_t (V := nI (1)) hF hret hlocks rfl (xz_t (entB_t3 c_13 c_24)) dX3_isEntry_32
set_option maxHeartbeats 4000000 in
set_option maxRecDepth 100000 in
theorem c_X1_isRow (l : Launch) (g : XG) (ao ae ac au : Nat) (fe fc fs w : Nat → Int32) (hW : WF w) (hR : LR fe fc fs w) (x : Int32) : Met l yX1_isRow (ww yX1_isRow cX1_isRow 2 (some .boolean)) (rmD 0) (xP g [.ref ao, .int (x)] (fun H => va_P g.1 vwCl (LogC g ao ae ac au fe fc fs w) H)) (vp_Si (fun r9 => r9 = xz (rowB w x))) 0 0 (fun _ => False) := by
  refine xMet (by decide) rfl (Nat.le_of_ble_eq_true rfl) ?_
  intro p e s m below meth c ls hF hZ hh hret hlocks hin hl
  have hx := hF.1.1
  have hb := hF.1.2.1
  have hP := hh
  have hP : va_P g.1 vwCl (LogC g ao ae ac au fe fc fs w) s.heap := hP
  have hl : lv_has ls 2 [(0, .ref ao), (1, .int (x))] := hl
  have h48 := hW.n48
  have hp4 := hW.pg4
  have hp12 := hW.pg12
  have hs1 := hW.st1
  have hw2 := hW.wr2
  have hw6 := hW.wr6
  refine lv_iload_n hx hb dX1_isRow_0 rfl (lv_at hl 1 rfl) ?_
  refine lv_if_lt (tgt := 16) hx hb dX1_isRow_1 (by decide) (fun c_1 => ?_) (fun c_1 => ?_)
  · refine xN_const hx hb 0 dX1_isRow_16 (by decide) ?_
    exact xret_t (V := nI (0)) hF hret hlocks rfl (xz_f (rowB_f1 c_1)) dX1_isRow_17
  · refine lv_iload_n hx hb dX1_isRow_4 rfl (lv_at hl 1 rfl) ?_
    refine lv_aload_n hx hb dX1_isRow_5 rfl (lv_at hl 0 rfl) ?_
    refine gf_X1_X1_rows hF hP 0 rfl rfl dX1_isRow_6 ?_
    refine lv_icmp_ge (tgt := 16) hx hb dX1_isRow_9 (by decide) (fun c_9 => ?_) (fun c_9 => ?_)
    · refine xN_const hx hb 0 dX1_isRow_16 (by decide) ?_
      exact xret_t (V := nI (0)) hF hret hlocks rfl (xz_f (rowB_f2 c_9)) dX1_isRow_17
    · refine xN_const hx hb 1 dX1_isRow_12 (by decide) ?_
      refine lv_goto (tgt := 17) hx hb dX1_isRow_13 (by decide) ?_
      exact xret_t (V := nI (1)) hF hret hlocks rfl (xz_t (rowB_t c_1 c_9)) dX1_isRow_17
set_option maxHeartbeats 4000000 in
set_option maxRecDepth 100000 in
theorem c_X1_areRows (l : Launch) (g : XG) (ao ae ac au : Nat) (fe fc fs w : Nat → Int32) (hW : WF w) (hR : LR fe fc fs w) (x y : Int32) : Met l yX1_areRows (ww yX1_areRows cX1_areRows 3 (some .boolean)) (rmD 1) (xP g [.ref ao, .int (x), .int (y)] (fun H => va_P g.1 vwCl (LogC g ao ae ac au fe fc fs w) H)) (vp_Si (fun r9 => r9 = xz (rowB w x && (rowB w y && decide (x ≤ y))))) 0 0 (fun _ => False) := by
  refine xMet (by decide) rfl (Nat.le_of_ble_eq_true rfl) ?_
  intro p e s m below meth c ls hF hZ hh hret hlocks hin hl
  have hx := hF.1.1
  have hb := hF.1.2.1
  have hP := hh
  have hP : va_P g.1 vwCl (LogC g ao ae ac au fe fc fs w) s.heap := hP
  have hl : lv_has ls 3 [(0, .ref ao), (1, .int (x)), (2, .int (y))] := hl
  have h48 := hW.n48
  have hp4 := hW.pg4
  have hp12 := hW.pg12
  have hs1 := hW.st1
  have hw2 := hW.wr2
  have hw6 := hW.wr6
  refine lv_aload_n hx hb dX1_areRows_0 rfl (lv_at hl 0 rfl) ?_
  refine lv_iload_n hx hb dX1_areRows_1 rfl (lv_at hl 1 rfl) ?_
  refine vp_callSi (va_Run.run (xrV hF (c_X1_isRow l g ao ae ac au fe fc fs w hW hR ((x)) ) cal_X1_isRow q_219 ⟨by decide, by decide⟩ rfl rfl rfl (va_recv hF.2.1 hP (ci := 1) (q0 := 0) rfl rfl) hZ (hP) hl.1 rfl (Nat.le_of_ble_eq_true rfl) dX1_areRows_2 ⟨Nat.le_refl _, Nat.le_refl _⟩)) (fun r_ h_ => ?_)
  subst h_
  refine xZ_eq (tgt := 25) hx hb dX1_areRows_5 (by decide) (fun c_5 => ?_) (fun c_5 => ?_)
  · refine xN_const hx hb 0 dX1_areRows_25 (by decide) ?_
    exact xret_t (V := nI (0)) hF hret hlocks rfl (by rw [c_5]; rfl) dX1_areRows_26
  · refine lv_aload_n hx hb dX1_areRows_8 rfl (lv_at hl 0 rfl) ?_
    refine lv_iload_n hx hb dX1_areRows_9 rfl (lv_at hl 2 rfl) ?_
    refine vp_callSi (va_Run.run (xrV hF (c_X1_isRow l g ao ae ac au fe fc fs w hW hR ((y)) ) cal_X1_isRow q_219 ⟨by decide, by decide⟩ rfl rfl rfl (va_recv hF.2.1 hP (ci := 1) (q0 := 0) rfl rfl) hZ (hP) hl.1 rfl (Nat.le_of_ble_eq_true rfl) dX1_areRows_10 ⟨Nat.le_refl _, Nat.le_refl _⟩)) (fun r_ h_ => ?_)
    subst h_
    refine xZ_eq (tgt := 25) hx hb dX1_areRows_13 (by decide) (fun c_13 => ?_) (fun c_13 => ?_)
    · refine xN_const hx hb 0 dX1_areRows_25 (by decide) ?_
      exact xret_t (V := nI (0)) hF hret hlocks rfl (by rw [c_5, c_13]; rfl) dX1_areRows_26
    · refine lv_iload_n hx hb dX1_areRows_16 rfl (lv_at hl 1 rfl) ?_
      refine lv_iload_n hx hb dX1_areRows_17 rfl (lv_at hl 2 rfl) ?_
      refine lv_icmp_gt (tgt := 25) hx hb dX1_areRows_18 (by decide) (fun c_18 => ?_) (fun c_18 => ?_)
      · refine xN_const hx hb 0 dX1_areRows_25 (by decide) ?_
        exact xret_t (V := nI (0)) hF hret hlocks rfl (by rw [c_5, c_13, decide_eq_false (Int32.not_le.mpr c_18)]; rfl) dX1_areRows_26
      · refine xN_const hx hb 1 dX1_areRows_21 (by decide) ?_
        refine lv_goto (tgt := 26) hx hb dX1_areRows_22 (by decide) ?_
        exact xret_t (V := nI (1)) hF hret hlocks rfl (by rw [c_5, c_13, decide_eq_true (Int32.not_lt.mp c_18)]; rfl) dX1_areRows_26
set_option maxHeartbeats 4000000 in
set_option maxRecDepth 100000 in
theorem c_X1_isCell (l : Launch) (g : XG) (ao ae ac au : Nat) (fe fc fs w : Nat → Int32) (hW : WF w) (hR : LR fe fc fs w) (x y : Int32) : Met l yX1_isCell (ww yX1_isCell cX1_isCell 3 (some .boolean)) (rmD 1) (xP g [.ref ao, .int (x), .int (y)] (fun H => va_P g.1 vwCl (LogC g ao ae ac au fe fc fs w) H)) (vp_Si (fun r9 => r9 = xz (rowB w x && colB y))) 0 0 (fun _ => False) := by
  refine xMet (by decide) rfl (Nat.le_of_ble_eq_true rfl) ?_
  intro p e s m below meth c ls hF hZ hh hret hlocks hin hl
  have hx := hF.1.1
  have hb := hF.1.2.1
  have hP := hh
  have hP : va_P g.1 vwCl (LogC g ao ae ac au fe fc fs w) s.heap := hP
  have hl : lv_has ls 3 [(0, .ref ao), (1, .int (x)), (2, .int (y))] := hl
  have h48 := hW.n48
  have hp4 := hW.pg4
  have hp12 := hW.pg12
  have hs1 := hW.st1
  have hw2 := hW.wr2
  have hw6 := hW.wr6
  refine lv_aload_n hx hb dX1_isCell_0 rfl (lv_at hl 0 rfl) ?_
  refine lv_iload_n hx hb dX1_isCell_1 rfl (lv_at hl 1 rfl) ?_
  refine vp_callSi (va_Run.run (xrV hF (c_X1_isRow l g ao ae ac au fe fc fs w hW hR ((x)) ) cal_X1_isRow q_219 ⟨by decide, by decide⟩ rfl rfl rfl (va_recv hF.2.1 hP (ci := 1) (q0 := 0) rfl rfl) hZ (hP) hl.1 rfl (Nat.le_of_ble_eq_true rfl) dX1_isCell_2 ⟨Nat.le_refl _, Nat.le_refl _⟩)) (fun r_ h_ => ?_)
  subst h_
  refine xZ_eq (tgt := 19) hx hb dX1_isCell_5 (by decide) (fun c_5 => ?_) (fun c_5 => ?_)
  · refine xN_const hx hb 0 dX1_isCell_19 (by decide) ?_
    exact xret_t (V := nI (0)) hF hret hlocks rfl (by rw [c_5]; rfl) dX1_isCell_20
  · refine lv_iload_n hx hb dX1_isCell_8 rfl (lv_at hl 2 rfl) ?_
    refine vp_callSi (va_Run.run (xrSN hF (c_X3_isColumn l g ((y))) cal_X3_isColumn n_18 ⟨by decide, by decide⟩ rfl rfl rfl hZ (trivial) hl.1 rfl (Nat.le_of_ble_eq_true rfl) dX1_isCell_9 ⟨Nat.le_refl _, Nat.le_refl _⟩)) (fun r_ h_ => ?_)
    subst h_
    refine xZ_eq (tgt := 19) hx hb dX1_isCell_12 (by decide) (fun c_12 => ?_) (fun c_12 => ?_)
    · refine xN_const hx hb 0 dX1_isCell_19 (by decide) ?_
      exact xret_t (V := nI (0)) hF hret hlocks rfl (by rw [c_5, c_12]; rfl) dX1_isCell_20
    · refine xN_const hx hb 1 dX1_isCell_15 (by decide) ?_
      refine lv_goto (tgt := 20) hx hb dX1_isCell_16 (by decide) ?_
      exact xret_t (V := nI (1)) hF hret hlocks rfl (by rw [c_5, c_12]; rfl) dX1_isCell_20
set_option maxHeartbeats 4000000 in
set_option maxRecDepth 100000 in
theorem c_X1_sumOf (l : Launch) (g : XG) (ao ae ac au : Nat) (fe fc fs w : Nat → Int32) (hW : WF w) (hR : LR fe fc fs w) (k : Nat) (hk : k < 24) : Met l yX1_sumOf (ww yX1_sumOf cX1_sumOf 2 (some .int)) (rmD 1) (xP g [.ref ao, .int (nI k)] (fun H => va_P g.1 vwCl (LogC g ao ae ac au fe fc fs w) H)) (vp_Si (fun r9 => r9 = w (4 + k))) 0 0 (fun _ => False) := by
  refine xMet (by decide) rfl (Nat.le_of_ble_eq_true rfl) ?_
  intro p e s m below meth c ls hF hZ hh hret hlocks hin hl
  have hx := hF.1.1
  have hb := hF.1.2.1
  have hP := hh
  have hP : va_P g.1 vwCl (LogC g ao ae ac au fe fc fs w) s.heap := hP
  have hl : lv_has ls 2 [(0, .ref ao), (1, .int (nI k))] := hl
  have h48 := hW.n48
  have hp4 := hW.pg4
  have hp12 := hW.pg12
  have hs1 := hW.st1
  have hw2 := hW.wr2
  have hw6 := hW.wr6
  refine lv_aload_n hx hb dX1_sumOf_0 rfl (lv_at hl 0 rfl) ?_
  refine gf_X1_X1_sums hF hP 0 rfl rfl dX1_sumOf_1 ?_
  refine lv_iload_n hx hb dX1_sumOf_4 rfl (lv_at hl 1 rfl) ?_
  refine vp_callSi (va_Run.run (xrSN hF (c_X3_at l g au 24 k fs (by omega) (by decide)) cal_X3_at n_20 ⟨by decide, by decide⟩ rfl rfl rfl hZ (hP.sub [3] rfl) hl.1 rfl (Nat.le_of_ble_eq_true rfl) dX1_sumOf_5 ⟨Nat.le_refl _, Nat.le_refl _⟩)) (fun r_ h_ => ?_)
  subst h_
  exact xret_i (V := (fs (k))) hF hret hlocks (hR.1 k hk) dX1_sumOf_8
set_option maxHeartbeats 4000000 in
set_option maxRecDepth 100000 in
theorem c_X1_entriesOf (l : Launch) (g : XG) (ao ae ac au : Nat) (fe fc fs w : Nat → Int32) (hW : WF w) (hR : LR fe fc fs w) (r k : Nat) (hr : r < nr w) (hk : k < 4) : Met l yX1_entriesOf (ww yX1_entriesOf cX1_entriesOf 3 (some .int)) (rmD 1) (xP g [.ref ao, .int (nI r), .int (nI k)] (fun H => va_P g.1 vwCl (LogC g ao ae ac au fe fc fs w) H)) (vp_Si (fun r9 => r9 = nI (cnt w (4 * r + k)))) 0 0 (fun _ => False) := by
  refine xMet (by decide) rfl (Nat.le_of_ble_eq_true rfl) ?_
  intro p e s m below meth c ls hF hZ hh hret hlocks hin hl
  have hx := hF.1.1
  have hb := hF.1.2.1
  have hP := hh
  have hP : va_P g.1 vwCl (LogC g ao ae ac au fe fc fs w) s.heap := hP
  have hl : lv_has ls 3 [(0, .ref ao), (1, .int (nI r)), (2, .int (nI k))] := hl
  have h48 := hW.n48
  have hp4 := hW.pg4
  have hp12 := hW.pg12
  have hs1 := hW.st1
  have hw2 := hW.wr2
  have hw6 := hW.wr6
  refine lv_aload_n hx hb dX1_entriesOf_0 rfl (lv_at hl 0 rfl) ?_
  refine gf_X1_X1_entryCounts hF hP 0 rfl rfl dX1_entriesOf_1 ?_
  refine lv_iload_n hx hb dX1_entriesOf_4 rfl (lv_at hl 1 rfl) ?_
  refine xN_const hx hb 4 dX1_entriesOf_5 (by decide) ?_
  refine xN_mul hx hb dX1_entriesOf_6 ?_
  refine lv_iload_n hx hb dX1_entriesOf_7 rfl (lv_at hl 2 rfl) ?_
  refine xN_add hx hb dX1_entriesOf_8 ?_
  refine vp_callSi (va_Run.run (xrSN hF (c_X3_at l g ac 192 (r * 4 + k) fc (by omega) (by decide)) cal_X3_at n_20 ⟨by decide, by decide⟩ rfl rfl rfl hZ (hP.sub [2] rfl) hl.1 rfl (Nat.le_of_ble_eq_true rfl) dX1_entriesOf_9 ⟨Nat.le_refl _, Nat.le_refl _⟩)) (fun r_ h_ => ?_)
  subst h_
  exact xret_i (V := (fc (r * 4 + k))) hF hret hlocks (by rw [show r * 4 + k = 4 * r + k by omega]; exact hR.c hW (by omega)) dX1_entriesOf_12
set_option maxHeartbeats 4000000 in
set_option maxRecDepth 100000 in
theorem c_X1_entryOf (l : Launch) (g : XG) (ao ae ac au : Nat) (fe fc fs w : Nat → Int32) (hW : WF w) (hR : LR fe fc fs w) (r k : Nat) (hr : r < nr w) (hk : k < 4) (j : Nat) (hj : j < cnt w (4 * r + k)) : Met l yX1_entryOf (ww yX1_entryOf cX1_entryOf 4 (some .int)) (rmD 1) (xP g [.ref ao, .int (nI r), .int (nI k), .int (nI j)] (fun H => va_P g.1 vwCl (LogC g ao ae ac au fe fc fs w) H)) (vp_Si (fun r9 => r9 = w (29 + 5 * (4 * r + k) + j))) 0 0 (fun _ => False) := by
  refine xMet (by decide) rfl (Nat.le_of_ble_eq_true rfl) ?_
  intro p e s m below meth c ls hF hZ hh hret hlocks hin hl
  have hx := hF.1.1
  have hb := hF.1.2.1
  have hP := hh
  have hP : va_P g.1 vwCl (LogC g ao ae ac au fe fc fs w) s.heap := hP
  have hl : lv_has ls 4 [(0, .ref ao), (1, .int (nI r)), (2, .int (nI k)), (3, .int (nI j))] := hl
  have h48 := hW.n48
  have hp4 := hW.pg4
  have hp12 := hW.pg12
  have hs1 := hW.st1
  have hw2 := hW.wr2
  have hw6 := hW.wr6
  have hc4 := hW.c4 (i := 4 * r + k) (by omega)
  refine lv_aload_n hx hb dX1_entryOf_0 rfl (lv_at hl 0 rfl) ?_
  refine gf_X1_X1_entries hF hP 0 rfl rfl dX1_entryOf_1 ?_
  refine lv_iload_n hx hb dX1_entryOf_4 rfl (lv_at hl 1 rfl) ?_
  refine xN_const hx hb 4 dX1_entryOf_5 (by decide) ?_
  refine xN_mul hx hb dX1_entryOf_6 ?_
  refine lv_iload_n hx hb dX1_entryOf_7 rfl (lv_at hl 2 rfl) ?_
  refine xN_add hx hb dX1_entryOf_8 ?_
  refine xN_const hx hb 4 dX1_entryOf_9 (by decide) ?_
  refine xN_mul hx hb dX1_entryOf_10 ?_
  refine lv_iload_n hx hb dX1_entryOf_11 rfl (lv_at hl 3 rfl) ?_
  refine xN_add hx hb dX1_entryOf_12 ?_
  refine vp_callSi (va_Run.run (xrSN hF (c_X3_at l g ae 768 ((r * 4 + k) * 4 + j) fe (by omega) (by decide)) cal_X3_at n_20 ⟨by decide, by decide⟩ rfl rfl rfl hZ (hP.sub [1] rfl) hl.1 rfl (Nat.le_of_ble_eq_true rfl) dX1_entryOf_13 ⟨Nat.le_refl _, Nat.le_refl _⟩)) (fun r_ h_ => ?_)
  subst h_
  exact xret_i (V := (fe ((r * 4 + k) * 4 + j))) hF hret hlocks (by rw [show (r * 4 + k) * 4 + j = 4 * (4 * r + k) + j by omega]; exact hR.e (by omega) hj) dX1_entryOf_16
set_option maxHeartbeats 4000000 in
set_option maxRecDepth 100000 in
theorem c_X1_latestOf (l : Launch) (g : XG) (ao ae ac au : Nat) (fe fc fs w : Nat → Int32) (hW : WF w) (hR : LR fe fc fs w) (r k : Nat) (hr : r < nr w) (hk : k < 4) : Met l yX1_latestOf (ww yX1_latestOf cX1_latestOf 5 (some .int)) (rmD 0) (xP g [.ref ao, .int (nI r), .int (nI k)] (fun H => va_P g.1 vwCl (LogC g ao ae ac au fe fc fs w) H)) (vp_Si (fun r9 => r9 = lat w r k)) 0 0 (fun _ => False) := by
  refine xMet (by decide) rfl (Nat.le_of_ble_eq_true rfl) ?_
  intro p e s m below meth c ls hF hZ hh hret hlocks hin hl
  have hx := hF.1.1
  have hb := hF.1.2.1
  have hP := hh
  have hP : va_P g.1 vwCl (LogC g ao ae ac au fe fc fs w) s.heap := hP
  have hl : lv_has ls 5 [(0, .ref ao), (1, .int (nI r)), (2, .int (nI k))] := hl
  have h48 := hW.n48
  have hp4 := hW.pg4
  have hp12 := hW.pg12
  have hs1 := hW.st1
  have hw2 := hW.wr2
  have hw6 := hW.wr6
  have hc1 := hW.c1 (i := 4 * r + k) (by omega)
  have hc4 := hW.c4 (i := 4 * r + k) (by omega)
  refine lv_iload_n hx hb dX1_latestOf_0 rfl (lv_at hl 1 rfl) ?_
  refine xN_const hx hb 4 dX1_latestOf_1 (by decide) ?_
  refine xN_mul hx hb dX1_latestOf_2 ?_
  refine lv_iload_n hx hb dX1_latestOf_3 rfl (lv_at hl 2 rfl) ?_
  refine xN_add hx hb dX1_latestOf_4 ?_
  refine lv_istore_n (lv' := [(3, .int (nI (r * 4 + k))), (0, .ref ao), (1, .int (nI r)), (2, .int (nI k))]) hx hb dX1_latestOf_5 rfl hl (by decide) rfl (fun ls hl => ?_)
  refine lv_iload_n hx hb dX1_latestOf_6 rfl (lv_at hl 0 rfl) ?_
  refine xI_lt (tgt := 19) hx hb (by omega) dX1_latestOf_7 (by decide) ?_
  refine lv_iload_n hx hb dX1_latestOf_10 rfl (lv_at hl 0 rfl) ?_
  refine lv_aload_n hx hb dX1_latestOf_11 rfl (lv_at hl 1 rfl) ?_
  refine gf_X1_X1_entryCounts hF hP 0 rfl rfl dX1_latestOf_12 ?_
  refine xA_len hF hP 2 0 rfl rfl dX1_latestOf_15 ?_
  refine xC_lt (tgt := 22) hx hb (by omega) (by omega) dX1_latestOf_16 (by decide) (fun c_16 => ?_) (fun c_16 => absurd c_16 (by omega))
  refine lv_iload_n hx hb dX1_latestOf_22 rfl (lv_at hl 0 rfl) ?_
  refine xN_const hx hb 4 dX1_latestOf_23 (by decide) ?_
  refine xN_mul hx hb dX1_latestOf_24 ?_
  refine lv_aload_n hx hb dX1_latestOf_25 rfl (lv_at hl 1 rfl) ?_
  refine gf_X1_X1_entryCounts hF hP 0 rfl rfl dX1_latestOf_26 ?_
  refine lv_iload_n hx hb dX1_latestOf_29 rfl (lv_at hl 0 rfl) ?_
  refine xA_ild hF hP 2 rfl (by omega) (by decide) (v := nI (cnt w (4 * r + k))) (by rw [show r * 4 + k = 4 * r + k by omega]; exact hR.c hW (by omega)) dX1_latestOf_30 ?_
  refine xN_add hx hb dX1_latestOf_31 ?_
  refine xN_const hx hb 1 dX1_latestOf_32 (by decide) ?_
  refine xN_sub hx hb (by omega) dX1_latestOf_33 ?_
  refine lv_istore (lv' := [(4, .int (nI (((r * 4 + k) * 4 + (cnt w (4 * r + k))) - 1))), (3, .int (nI (r * 4 + k))), (0, .ref ao), (1, .int (nI r)), (2, .int (nI k))]) hx hb dX1_latestOf_34 hl (by decide) rfl (fun ls hl => ?_)
  refine lv_iload hx hb dX1_latestOf_36 (lv_at hl 0 rfl) ?_
  refine xI_lt (tgt := 61) hx hb (by omega) dX1_latestOf_38 (by decide) ?_
  refine lv_iload hx hb dX1_latestOf_41 (lv_at hl 0 rfl) ?_
  refine lv_aload_n hx hb dX1_latestOf_43 rfl (lv_at hl 2 rfl) ?_
  refine gf_X1_X1_entries hF hP 0 rfl rfl dX1_latestOf_44 ?_
  refine xA_len hF hP 1 0 rfl rfl dX1_latestOf_47 ?_
  refine xC_ge (tgt := 61) hx hb (by omega) (by omega) dX1_latestOf_48 (by decide) (fun c_48 => absurd c_48 (by omega)) (fun c_48 => ?_)
  refine lv_aload_n hx hb dX1_latestOf_51 rfl (lv_at hl 2 rfl) ?_
  refine gf_X1_X1_entries hF hP 0 rfl rfl dX1_latestOf_52 ?_
  refine lv_iload hx hb dX1_latestOf_55 (lv_at hl 0 rfl) ?_
  refine xA_ild hF hP 1 rfl (by omega) (by decide) (v := (lat w r k)) (hR.la hW (by omega)) dX1_latestOf_57 ?_
  refine lv_goto (tgt := 63) hx hb dX1_latestOf_58 (by decide) ?_
  exact xret_i (V := (lat w r k)) hF hret hlocks (rfl) dX1_latestOf_63
set_option maxHeartbeats 4000000 in
set_option maxRecDepth 100000 in
theorem c_X1_hasAbove (l : Launch) (g : XG) (ao ae ac au : Nat) (fe fc fs w : Nat → Int32) (hW : WF w) (hR : LR fe fc fs w) (r : Nat) (hr : r < nr w) : Met l yX1_hasAbove (ww yX1_hasAbove cX1_hasAbove 2 (some .boolean)) (rmD 0) (xP g [.ref ao, .int (nI r)] (fun H => va_P g.1 vwCl (LogC g ao ae ac au fe fc fs w) H)) (vp_Si (fun r9 => r9 = xz (abvB w r))) 0 0 (fun _ => False) := by
  refine xMet (by decide) rfl (Nat.le_of_ble_eq_true rfl) ?_
  intro p e s m below meth c ls hF hZ hh hret hlocks hin hl
  have hx := hF.1.1
  have hb := hF.1.2.1
  have hP := hh
  have hP : va_P g.1 vwCl (LogC g ao ae ac au fe fc fs w) s.heap := hP
  have hl : lv_has ls 2 [(0, .ref ao), (1, .int (nI r))] := hl
  have h48 := hW.n48
  have hp4 := hW.pg4
  have hp12 := hW.pg12
  have hs1 := hW.st1
  have hw2 := hW.wr2
  have hw6 := hW.wr6
  have hm := Nat.mod_lt r (show 0 < pgN w by omega)
  refine lv_iload_n hx hb dX1_hasAbove_0 rfl (lv_at hl 1 rfl) ?_
  refine xI_le (tgt := 31) hx hb (by omega) dX1_hasAbove_1 (by decide) (fun c_1 => ?_) (fun c_1 => ?_)
  · refine xN_const hx hb 0 dX1_hasAbove_31 (by decide) ?_
    exact xret_t (V := nI (0)) hF hret hlocks rfl (by rw [c_1]; rfl) dX1_hasAbove_32
  · refine lv_aload_n hx hb dX1_hasAbove_4 rfl (lv_at hl 0 rfl) ?_
    refine gf_X1_X1_stopsAtPages hF hP 0 rfl rfl dX1_hasAbove_5 ?_
    refine xI_eq (tgt := 27) hx hb (by omega) dX1_hasAbove_8 (by decide) (fun c_8 => ?_) (fun c_8 => ?_)
    · refine xN_const hx hb 1 dX1_hasAbove_27 (by decide) ?_
      refine lv_goto (tgt := 32) hx hb dX1_hasAbove_28 (by decide) ?_
      exact xret_t (V := nI (1)) hF hret hlocks rfl (xz_t (by unfold abvB; rw [c_8]; simp; omega)) dX1_hasAbove_32
    · refine lv_aload_n hx hb dX1_hasAbove_11 rfl (lv_at hl 0 rfl) ?_
      refine gf_X1_X1_pageRows hF hP 0 rfl rfl dX1_hasAbove_12 ?_
      refine xI_le (tgt := 27) hx hb (by omega) dX1_hasAbove_15 (by decide) (fun c_15 => absurd c_15 (by omega)) (fun c_15 => ?_)
      refine lv_iload_n hx hb dX1_hasAbove_18 rfl (lv_at hl 1 rfl) ?_
      refine lv_aload_n hx hb dX1_hasAbove_19 rfl (lv_at hl 0 rfl) ?_
      refine gf_X1_X1_pageRows hF hP 0 rfl rfl dX1_hasAbove_20 ?_
      refine xN_rem hx hb (by omega) (by omega) (by omega) dX1_hasAbove_23 ?_
      refine xI_eq (tgt := 31) hx hb (by omega) dX1_hasAbove_24 (by decide) (fun c_24 => ?_) (fun c_24 => ?_)
      · refine xN_const hx hb 0 dX1_hasAbove_31 (by decide) ?_
        exact xret_t (V := nI (0)) hF hret hlocks rfl (xz_f (by unfold abvB; rw [show stN w = 1 by omega, c_24]; simp)) dX1_hasAbove_32
      · refine xN_const hx hb 1 dX1_hasAbove_27 (by decide) ?_
        refine lv_goto (tgt := 32) hx hb dX1_hasAbove_28 (by decide) ?_
        exact xret_t (V := nI (1)) hF hret hlocks rfl (xz_t (by unfold abvB; simp; omega)) dX1_hasAbove_32
set_option maxHeartbeats 4000000 in
set_option maxRecDepth 100000 in
theorem c_X1_leansUp (l : Launch) (g : XG) (ao ae ac au : Nat) (fe fc fs w : Nat → Int32) (hW : WF w) (hR : LR fe fc fs w) (r k : Nat) (hr : r < nr w) (hk : k < 4) : Met l yX1_leansUp (ww yX1_leansUp cX1_leansUp 3 (some .boolean)) (rmD 1) (xP g [.ref ao, .int (nI r), .int (nI k)] (fun H => va_P g.1 vwCl (LogC g ao ae ac au fe fc fs w) H)) (vp_Si (fun r9 => r9 = xz (upB w r k))) 0 0 (fun _ => False) := by
  refine xMet (by decide) rfl (Nat.le_of_ble_eq_true rfl) ?_
  intro p e s m below meth c ls hF hZ hh hret hlocks hin hl
  have hx := hF.1.1
  have hb := hF.1.2.1
  have hP := hh
  have hP : va_P g.1 vwCl (LogC g ao ae ac au fe fc fs w) s.heap := hP
  have hl : lv_has ls 3 [(0, .ref ao), (1, .int (nI r)), (2, .int (nI k))] := hl
  have h48 := hW.n48
  have hp4 := hW.pg4
  have hp12 := hW.pg12
  have hs1 := hW.st1
  have hw2 := hW.wr2
  have hw6 := hW.wr6
  refine lv_aload_n hx hb dX1_leansUp_0 rfl (lv_at hl 0 rfl) ?_
  refine lv_iload_n hx hb dX1_leansUp_1 rfl (lv_at hl 1 rfl) ?_
  refine vp_callSi (va_Run.run (xrV hF (c_X1_hasAbove l g ao ae ac au fe fc fs w hW hR r (by omega)) cal_X1_hasAbove q_238 ⟨by decide, by decide⟩ rfl rfl rfl (va_recv hF.2.1 hP (ci := 1) (q0 := 0) rfl rfl) hZ (hP) hl.1 rfl (Nat.le_of_ble_eq_true rfl) dX1_leansUp_2 ⟨Nat.le_refl _, Nat.le_refl _⟩)) (fun r_ h_ => ?_)
  subst h_
  refine xZ_eq (tgt := 23) hx hb dX1_leansUp_5 (by decide) (fun c_5 => ?_) (fun c_5 => ?_)
  · refine xN_const hx hb 0 dX1_leansUp_23 (by decide) ?_
    exact xret_t (V := nI (0)) hF hret hlocks rfl (xz_f (by unfold upB; rw [c_5, Bool.and_false])) dX1_leansUp_24
  · refine lv_aload_n hx hb dX1_leansUp_8 rfl (lv_at hl 0 rfl) ?_
    refine lv_iload_n hx hb dX1_leansUp_9 rfl (lv_at hl 1 rfl) ?_
    refine lv_iload_n hx hb dX1_leansUp_10 rfl (lv_at hl 2 rfl) ?_
    refine vp_callSi (va_Run.run (xrV hF (c_X1_latestOf l g ao ae ac au fe fc fs w hW hR r k (by omega) (by omega)) cal_X1_latestOf q_254 ⟨by decide, by decide⟩ rfl rfl rfl (va_recv hF.2.1 hP (ci := 1) (q0 := 0) rfl rfl) hZ (hP) hl.1 rfl (Nat.le_of_ble_eq_true rfl) dX1_leansUp_11 ⟨Nat.le_refl _, Nat.le_refl _⟩)) (fun r_ h_ => ?_)
    subst h_
    refine lv_bipush hx hb (v := (-6)) dX1_leansUp_14 (by decide) ?_
    refine lv_icmp_ne (tgt := 23) hx hb dX1_leansUp_16 (by decide) (fun c_16 => ?_) (fun c_16 => ?_)
    · refine xN_const hx hb 0 dX1_leansUp_23 (by decide) ?_
      exact xret_t (V := nI (0)) hF hret hlocks rfl (xz_f (by unfold upB; rw [beq_eq_false_iff_ne.mpr c_16, Bool.false_and])) dX1_leansUp_24
    · refine xN_const hx hb 1 dX1_leansUp_19 (by decide) ?_
      refine lv_goto (tgt := 24) hx hb dX1_leansUp_20 (by decide) ?_
      exact xret_t (V := nI (1)) hF hret hlocks rfl (xz_t (by unfold upB; rw [c_5, c_16]; rfl)) dX1_leansUp_24
set_option maxHeartbeats 4000000 in
set_option maxRecDepth 100000 in
theorem c_X1_topOfChain (l : Launch) (g : XG) (ao ae ac au : Nat) (fe fc fs w : Nat → Int32) (hW : WF w) (hR : LR fe fc fs w) (r k : Nat) (hr : r < nr w) (hk : k < 4) : Met l yX1_topOfChain (ww yX1_topOfChain cX1_topOfChain 4 (some .int)) (rmD 2) (xP g [.ref ao, .int (nI r), .int (nI k)] (fun H => va_P g.1 vwCl (LogC g ao ae ac au fe fc fs w) H)) (vp_Si (fun r9 => r9 = nI (top w k r))) 0 0 (fun _ => False) := by
  refine xMet (by decide) rfl (Nat.le_of_ble_eq_true rfl) ?_
  intro p e s m below meth c ls hF hZ hh hret hlocks hin hl
  have hx := hF.1.1
  have hb := hF.1.2.1
  have hP := hh
  have hP : va_P g.1 vwCl (LogC g ao ae ac au fe fc fs w) s.heap := hP
  have hl : lv_has ls 4 [(0, .ref ao), (1, .int (nI r)), (2, .int (nI k))] := hl
  have h48 := hW.n48
  have hp4 := hW.pg4
  have hp12 := hW.pg12
  have hs1 := hW.st1
  have hw2 := hW.wr2
  have hw6 := hW.wr6
  refine lv_iload_n hx hb dX1_topOfChain_0 rfl (lv_at hl 1 rfl) ?_
  refine lv_istore_n (lv' := [(3, .int (nI r)), (0, .ref ao), (1, .int (nI r)), (2, .int (nI k))]) hx hb dX1_topOfChain_1 rfl hl (by decide) rfl (fun ls hl => ?_)
  refine xloop (goal := fun ls => W p l e _ s m _ below meth c s.heap [] _ _ _ (F0 m _ ls [])) (fun (z_ : Nat) (ls : Array Slot) => match z_ with | t => (t ≤ r) ∧ (top w k t = top w k r) ∧ lv_has ls 4 [(0, .ref ao), (1, .int (nI r)), (2, .int (nI k)), (3, .int (nI t))]) (fun (z_ : Nat) => match z_ with | t => t) ?_ (r) ls ⟨Nat.le_refl r, rfl, lv_sub hl [1, 2, 3, 0] rfl⟩
  rintro t ls ⟨I1, I2, hl⟩ ih
  refine lv_iload_n hx hb dX1_topOfChain_2 rfl (lv_at hl 3 rfl) ?_
  refine xI_le (tgt := 21) hx hb (by omega) dX1_topOfChain_3 (by decide) (fun c_3 => ?_) (fun c_3 => ?_)
  · refine lv_iload_n hx hb dX1_topOfChain_21 rfl (lv_at hl 3 rfl) ?_
    exact xret_i (V := nI (t)) hF hret hlocks (by rw [← I2, c_3]; rfl) dX1_topOfChain_22
  · refine lv_aload_n hx hb dX1_topOfChain_6 rfl (lv_at hl 0 rfl) ?_
    refine lv_iload_n hx hb dX1_topOfChain_7 rfl (lv_at hl 3 rfl) ?_
    refine lv_iload_n hx hb dX1_topOfChain_8 rfl (lv_at hl 2 rfl) ?_
    refine vp_callSi (va_Run.run (xrV hF (c_X1_leansUp l g ao ae ac au fe fc fs w hW hR t k (by omega) (by omega)) cal_X1_leansUp q_250 ⟨by decide, by decide⟩ rfl rfl rfl (va_recv hF.2.1 hP (ci := 1) (q0 := 0) rfl rfl) hZ (hP) hl.1 rfl (Nat.le_of_ble_eq_true rfl) dX1_topOfChain_9 ⟨Nat.le_refl _, Nat.le_refl _⟩)) (fun r_ h_ => ?_)
    subst h_
    refine xZ_eq (tgt := 21) hx hb dX1_topOfChain_12 (by decide) (fun c_12 => ?_) (fun c_12 => ?_)
    · refine lv_iload_n hx hb dX1_topOfChain_21 rfl (lv_at hl 3 rfl) ?_
      exact xret_i (V := nI (t)) hF hret hlocks (by rw [← I2, top_no c_12]) dX1_topOfChain_22
    · refine xN_dec (lv' := [(3, .int (nI (t - 1))), (0, .ref ao), (1, .int (nI r)), (2, .int (nI k))]) hx hb (by omega) dX1_topOfChain_15 hl (k := 3) rfl (by decide) rfl (fun ls hl => ?_)
      refine lv_goto (tgt := 2) hx hb dX1_topOfChain_18 (by decide) ?_
      exact ih (t - 1) ls ⟨by omega, (top_up c_3 c_12).symm.trans I2, lv_sub hl [1, 2, 3, 0] rfl⟩ (by dsimp only; omega)
set_option maxHeartbeats 4000000 in
set_option maxRecDepth 100000 in
theorem c_X1_chainOf (l : Launch) (g : XG) (ao ae ac au : Nat) (fe fc fs w : Nat → Int32) (hW : WF w) (hR : LR fe fc fs w) (r k : Nat) (hr : r < nr w) (hk : k < 4) : Met l yX1_chainOf (ww yX1_chainOf cX1_chainOf 3 (some .int)) (rmD 3) (xP g [.ref ao, .int (nI r), .int (nI k)] (fun H => va_P g.1 vwCl (LogC g ao ae ac au fe fc fs w) H)) (vp_Si (fun r9 => r9 = nI (r - top w k r + 1))) 0 0 (fun _ => False) := by
  refine xMet (by decide) rfl (Nat.le_of_ble_eq_true rfl) ?_
  intro p e s m below meth c ls hF hZ hh hret hlocks hin hl
  have hx := hF.1.1
  have hb := hF.1.2.1
  have hP := hh
  have hP : va_P g.1 vwCl (LogC g ao ae ac au fe fc fs w) s.heap := hP
  have hl : lv_has ls 3 [(0, .ref ao), (1, .int (nI r)), (2, .int (nI k))] := hl
  have h48 := hW.n48
  have hp4 := hW.pg4
  have hp12 := hW.pg12
  have hs1 := hW.st1
  have hw2 := hW.wr2
  have hw6 := hW.wr6
  have ht := top_le w k r
  refine lv_iload_n hx hb dX1_chainOf_0 rfl (lv_at hl 1 rfl) ?_
  refine lv_aload_n hx hb dX1_chainOf_1 rfl (lv_at hl 0 rfl) ?_
  refine lv_iload_n hx hb dX1_chainOf_2 rfl (lv_at hl 1 rfl) ?_
  refine lv_iload_n hx hb dX1_chainOf_3 rfl (lv_at hl 2 rfl) ?_
  refine vp_callSi (va_Run.run (xrV hF (c_X1_topOfChain l g ao ae ac au fe fc fs w hW hR r k (by omega) (by omega)) cal_X1_topOfChain q_246 ⟨by decide, by decide⟩ rfl rfl rfl (va_recv hF.2.1 hP (ci := 1) (q0 := 0) rfl rfl) hZ (hP) hl.1 rfl (Nat.le_of_ble_eq_true rfl) dX1_chainOf_4 ⟨Nat.le_refl _, Nat.le_refl _⟩)) (fun r_ h_ => ?_)
  subst h_
  refine xN_sub hx hb (by omega) dX1_chainOf_7 ?_
  refine xN_const hx hb 1 dX1_chainOf_8 (by decide) ?_
  refine xN_add hx hb dX1_chainOf_9 ?_
  exact xret_i (V := nI ((r - (top w k r)) + 1)) hF hret hlocks (rfl) dX1_chainOf_10
set_option maxHeartbeats 4000000 in
set_option maxRecDepth 100000 in
theorem c_X1_meaningOf (l : Launch) (g : XG) (ao ae ac au : Nat) (fe fc fs w : Nat → Int32) (hW : WF w) (hR : LR fe fc fs w) (r k : Nat) (hr : r < nr w) (hk : k < 4) : Met l yX1_meaningOf (ww yX1_meaningOf cX1_meaningOf 4 (some .int)) (rmD 3) (xP g [.ref ao, .int (nI r), .int (nI k)] (fun H => va_P g.1 vwCl (LogC g ao ae ac au fe fc fs w) H)) (vp_Si (fun r9 => r9 = mean w r k)) 0 0 (fun _ => False) := by
  refine xMet (by decide) rfl (Nat.le_of_ble_eq_true rfl) ?_
  intro p e s m below meth c ls hF hZ hh hret hlocks hin hl
  have hx := hF.1.1
  have hb := hF.1.2.1
  have hP := hh
  have hP : va_P g.1 vwCl (LogC g ao ae ac au fe fc fs w) s.heap := hP
  have hl : lv_has ls 4 [(0, .ref ao), (1, .int (nI r)), (2, .int (nI k))] := hl
  have h48 := hW.n48
  have hp4 := hW.pg4
  have hp12 := hW.pg12
  have hs1 := hW.st1
  have hw2 := hW.wr2
  have hw6 := hW.wr6
  have ht := top_le w k r
  refine lv_aload_n hx hb dX1_meaningOf_0 rfl (lv_at hl 0 rfl) ?_
  refine lv_aload_n hx hb dX1_meaningOf_1 rfl (lv_at hl 0 rfl) ?_
  refine lv_iload_n hx hb dX1_meaningOf_2 rfl (lv_at hl 1 rfl) ?_
  refine lv_iload_n hx hb dX1_meaningOf_3 rfl (lv_at hl 2 rfl) ?_
  refine vp_callSi (va_Run.run (xrV hF (c_X1_topOfChain l g ao ae ac au fe fc fs w hW hR r k (by omega) (by omega)) cal_X1_topOfChain q_246 ⟨by decide, by decide⟩ rfl rfl rfl (va_recv hF.2.1 hP (ci := 1) (q0 := 0) rfl rfl) hZ (hP) hl.1 rfl (Nat.le_of_ble_eq_true rfl) dX1_meaningOf_4 ⟨Nat.le_refl _, Nat.le_refl _⟩)) (fun r_ h_ => ?_)
  subst h_
  refine lv_iload_n hx hb dX1_meaningOf_7 rfl (lv_at hl 2 rfl) ?_
  refine vp_callSi (va_Run.run (xrV hF (c_X1_latestOf l g ao ae ac au fe fc fs w hW hR (top w k r) k (by omega) (by omega)) cal_X1_latestOf q_254 ⟨by decide, by decide⟩ rfl rfl rfl (va_recv hF.2.1 hP (ci := 1) (q0 := 0) rfl rfl) hZ (hP) hl.1 rfl (Nat.le_of_ble_eq_true rfl) dX1_meaningOf_8 ⟨Nat.le_refl _, Nat.le_refl _⟩)) (fun r_ h_ => ?_)
  subst h_
  refine lv_istore_n (lv' := [(3, .int (lat w (top w k r) k)), (0, .ref ao), (1, .int (nI r)), (2, .int (nI k))]) hx hb dX1_meaningOf_11 rfl hl (by decide) rfl (fun ls hl => ?_)
  refine lv_iload_n hx hb dX1_meaningOf_12 rfl (lv_at hl 0 rfl) ?_
  refine lv_if_lt (tgt := 20) hx hb dX1_meaningOf_13 (by decide) (fun c_13 => ?_) (fun c_13 => ?_)
  · refine lv_bipush hx hb (v := (-5)) dX1_meaningOf_20 (by decide) ?_
    exact xret_i (V := (-5)) hF hret hlocks (by unfold mean; rw [if_pos c_13]) dX1_meaningOf_22
  · refine lv_iload_n hx hb dX1_meaningOf_16 rfl (lv_at hl 0 rfl) ?_
    refine lv_goto (tgt := 22) hx hb dX1_meaningOf_17 (by decide) ?_
    exact xret_i (V := (lat w (top w k r) k)) hF hret hlocks (by unfold mean; rw [if_neg c_13]) dX1_meaningOf_22
set_option maxHeartbeats 4000000 in
set_option maxRecDepth 100000 in
theorem c_X1_sourceOf (l : Launch) (g : XG) (ao ae ac au : Nat) (fe fc fs w : Nat → Int32) (hW : WF w) (hR : LR fe fc fs w) (r k : Nat) (hr : r < nr w) (hk : k < 4) : Met l yX1_sourceOf (ww yX1_sourceOf cX1_sourceOf 4 (some .int)) (rmD 3) (xP g [.ref ao, .int (nI r), .int (nI k)] (fun H => va_P g.1 vwCl (LogC g ao ae ac au fe fc fs w) H)) (vp_Si (fun r9 => r9 = srcI w r k)) 0 0 (fun _ => False) := by
  refine xMet (by decide) rfl (Nat.le_of_ble_eq_true rfl) ?_
  intro p e s m below meth c ls hF hZ hh hret hlocks hin hl
  have hx := hF.1.1
  have hb := hF.1.2.1
  have hP := hh
  have hP : va_P g.1 vwCl (LogC g ao ae ac au fe fc fs w) s.heap := hP
  have hl : lv_has ls 4 [(0, .ref ao), (1, .int (nI r)), (2, .int (nI k))] := hl
  have h48 := hW.n48
  have hp4 := hW.pg4
  have hp12 := hW.pg12
  have hs1 := hW.st1
  have hw2 := hW.wr2
  have hw6 := hW.wr6
  have ht := top_le w k r
  refine lv_aload_n hx hb dX1_sourceOf_0 rfl (lv_at hl 0 rfl) ?_
  refine lv_iload_n hx hb dX1_sourceOf_1 rfl (lv_at hl 1 rfl) ?_
  refine lv_iload_n hx hb dX1_sourceOf_2 rfl (lv_at hl 2 rfl) ?_
  refine vp_callSi (va_Run.run (xrV hF (c_X1_topOfChain l g ao ae ac au fe fc fs w hW hR r k (by omega) (by omega)) cal_X1_topOfChain q_246 ⟨by decide, by decide⟩ rfl rfl rfl (va_recv hF.2.1 hP (ci := 1) (q0 := 0) rfl rfl) hZ (hP) hl.1 rfl (Nat.le_of_ble_eq_true rfl) dX1_sourceOf_3 ⟨Nat.le_refl _, Nat.le_refl _⟩)) (fun r_ h_ => ?_)
  subst h_
  refine lv_istore_n (lv' := [(3, .int (nI (top w k r))), (0, .ref ao), (1, .int (nI r)), (2, .int (nI k))]) hx hb dX1_sourceOf_6 rfl hl (by decide) rfl (fun ls hl => ?_)
  refine lv_aload_n hx hb dX1_sourceOf_7 rfl (lv_at hl 1 rfl) ?_
  refine lv_iload_n hx hb dX1_sourceOf_8 rfl (lv_at hl 0 rfl) ?_
  refine lv_iload_n hx hb dX1_sourceOf_9 rfl (lv_at hl 3 rfl) ?_
  refine vp_callSi (va_Run.run (xrV hF (c_X1_latestOf l g ao ae ac au fe fc fs w hW hR (top w k r) k (by omega) (by omega)) cal_X1_latestOf q_254 ⟨by decide, by decide⟩ rfl rfl rfl (va_recv hF.2.1 hP (ci := 1) (q0 := 0) rfl rfl) hZ (hP) hl.1 rfl (Nat.le_of_ble_eq_true rfl) dX1_sourceOf_10 ⟨Nat.le_refl _, Nat.le_refl _⟩)) (fun r_ h_ => ?_)
  subst h_
  refine lv_if_lt (tgt := 20) hx hb dX1_sourceOf_13 (by decide) (fun c_13 => ?_) (fun c_13 => ?_)
  · refine lv_bipush hx hb (v := (-5)) dX1_sourceOf_20 (by decide) ?_
    exact xret_i (V := (-5)) hF hret hlocks (by unfold srcI; rw [if_pos c_13]) dX1_sourceOf_22
  · refine lv_iload_n hx hb dX1_sourceOf_16 rfl (lv_at hl 0 rfl) ?_
    refine lv_goto (tgt := 22) hx hb dX1_sourceOf_17 (by decide) ?_
    exact xret_i (V := nI (top w k r)) hF hret hlocks (by unfold srcI; rw [if_neg c_13]) dX1_sourceOf_22
set_option maxHeartbeats 4000000 in
set_option maxRecDepth 100000 in
theorem c_X1_isDoubtful (l : Launch) (g : XG) (ao ae ac au : Nat) (fe fc fs w : Nat → Int32) (hW : WF w) (hR : LR fe fc fs w) (r k : Nat) (hr : r < nr w) (hk : k < 4) : Met l yX1_isDoubtful (ww yX1_isDoubtful cX1_isDoubtful 5 (some .boolean)) (rmD 3) (xP g [.ref ao, .int (nI r), .int (nI k)] (fun H => va_P g.1 vwCl (LogC g ao ae ac au fe fc fs w) H)) (vp_Si (fun r9 => r9 = xz (dbt w r k))) 0 0 (fun _ => False) := by
  refine xMet (by decide) rfl (Nat.le_of_ble_eq_true rfl) ?_
  intro p e s m below meth c ls hF hZ hh hret hlocks hin hl
  have hx := hF.1.1
  have hb := hF.1.2.1
  have hP := hh
  have hP : va_P g.1 vwCl (LogC g ao ae ac au fe fc fs w) s.heap := hP
  have hl : lv_has ls 5 [(0, .ref ao), (1, .int (nI r)), (2, .int (nI k))] := hl
  have h48 := hW.n48
  have hp4 := hW.pg4
  have hp12 := hW.pg12
  have hs1 := hW.st1
  have hw2 := hW.wr2
  have hw6 := hW.wr6
  have ht := top_le w k r
  refine lv_aload_n hx hb dX1_isDoubtful_0 rfl (lv_at hl 0 rfl) ?_
  refine lv_iload_n hx hb dX1_isDoubtful_1 rfl (lv_at hl 1 rfl) ?_
  refine lv_iload_n hx hb dX1_isDoubtful_2 rfl (lv_at hl 2 rfl) ?_
  refine vp_callSi (va_Run.run (xrV hF (c_X1_topOfChain l g ao ae ac au fe fc fs w hW hR r k (by omega) (by omega)) cal_X1_topOfChain q_246 ⟨by decide, by decide⟩ rfl rfl rfl (va_recv hF.2.1 hP (ci := 1) (q0 := 0) rfl rfl) hZ (hP) hl.1 rfl (Nat.le_of_ble_eq_true rfl) dX1_isDoubtful_3 ⟨Nat.le_refl _, Nat.le_refl _⟩)) (fun r_ h_ => ?_)
  subst h_
  refine lv_istore_n (lv' := [(3, .int (nI (top w k r))), (0, .ref ao), (1, .int (nI r)), (2, .int (nI k))]) hx hb dX1_isDoubtful_6 rfl hl (by decide) rfl (fun ls hl => ?_)
  refine lv_iload_n hx hb dX1_isDoubtful_7 rfl (lv_at hl 2 rfl) ?_
  refine lv_istore (lv' := [(4, .int (nI r)), (3, .int (nI (top w k r))), (0, .ref ao), (1, .int (nI r)), (2, .int (nI k))]) hx hb dX1_isDoubtful_8 hl (by decide) rfl (fun ls hl => ?_)
  refine xloop (goal := fun ls => W p l e _ s m _ below meth c s.heap [] _ _ _ (F0 m _ ls [])) (fun (z_ : Nat) (ls : Array Slot) => match z_ with | j => (j ≤ r + 1) ∧ (top w k r ≤ j) ∧ (∀ q, j ≤ q → q ≤ r → ¬ 1 < cnt w (4 * q + k)) ∧ lv_has ls 5 [(0, .ref ao), (1, .int (nI r)), (2, .int (nI k)), (3, .int (nI (top w k r))), (4, .int (nI j - 1))]) (fun (z_ : Nat) => match z_ with | j => j) ?_ (r + 1) ls ⟨Nat.le_refl _, by omega, fun q h1 h2 => absurd h1 (by omega), by rw [nI_pred]; exact lv_sub hl [2, 3, 4, 1, 0] rfl⟩
  rintro j ls ⟨I1, I2, I3, hl⟩ ih
  by_cases hj : j = 0
  · subst hj
    rw [show nI 0 - 1 = (-1 : Int32) from rfl] at hl
    refine lv_iload hx hb dX1_isDoubtful_10 (lv_at hl 4 rfl) ?_
    refine lv_iload_n hx hb dX1_isDoubtful_12 rfl (lv_at hl 3 rfl) ?_
    refine lv_icmp_lt (tgt := 35) hx hb dX1_isDoubtful_13 (by decide) (fun c_13 => ?_) (fun c_13 => absurd (xm1_lt (by omega)) c_13)
    refine xN_const hx hb 0 dX1_isDoubtful_35 (by decide) ?_
    exact xret_t (V := nI (0)) hF hret hlocks rfl (xz_f (Bool.eq_false_iff.mpr (fun h => by obtain ⟨q, hq, h2⟩ := (dB_iff w k (top w k r) _).mp h; have := I3 (top w k r + q) (by omega) (by omega); omega))) dX1_isDoubtful_36
  obtain ⟨i, rfl⟩ : ∃ i, j = i + 1 := ⟨j - 1, by omega⟩
  rw [nI_pred] at hl
  refine lv_iload hx hb dX1_isDoubtful_10 (lv_at hl 4 rfl) ?_
  refine lv_iload_n hx hb dX1_isDoubtful_12 rfl (lv_at hl 3 rfl) ?_
  refine xC_lt (tgt := 35) hx hb (by omega) (by omega) dX1_isDoubtful_13 (by decide) (fun c_13 => ?_) (fun c_13 => ?_)
  · refine xN_const hx hb 0 dX1_isDoubtful_35 (by decide) ?_
    exact xret_t (V := nI (0)) hF hret hlocks rfl (xz_f (Bool.eq_false_iff.mpr (fun h => by obtain ⟨q, hq, h2⟩ := (dB_iff w k (top w k r) _).mp h; exact I3 (top w k r + q) (by omega) (by omega) h2))) dX1_isDoubtful_36
  · refine lv_aload_n hx hb dX1_isDoubtful_16 rfl (lv_at hl 0 rfl) ?_
    refine lv_iload hx hb dX1_isDoubtful_17 (lv_at hl 4 rfl) ?_
    refine lv_iload_n hx hb dX1_isDoubtful_19 rfl (lv_at hl 2 rfl) ?_
    refine vp_callSi (va_Run.run (xrV hF (c_X1_entriesOf l g ao ae ac au fe fc fs w hW hR i k (by omega) (by omega)) cal_X1_entriesOf q_409 ⟨by decide, by decide⟩ rfl rfl rfl (va_recv hF.2.1 hP (ci := 1) (q0 := 0) rfl rfl) hZ (hP) hl.1 rfl (Nat.le_of_ble_eq_true rfl) dX1_isDoubtful_20 ⟨Nat.le_refl _, Nat.le_refl _⟩)) (fun r_ h_ => ?_)
    subst h_
    refine xN_const hx hb 1 dX1_isDoubtful_23 (by decide) ?_
    have hq4 := hW.c4 (i := 4 * i + k) (by omega)
    refine xC_le (tgt := 29) hx hb (by omega) (by omega) dX1_isDoubtful_24 (by decide) (fun c_24 => ?_) (fun c_24 => ?_)
    · refine lv_iinc (v := nI i - 1) (lv' := [(4, .int (nI i - 1)), (0, .ref ao), (1, .int (nI r)), (2, .int (nI k)), (3, .int (nI (top w k r)))]) hx hb dX1_isDoubtful_29 hl (k := 4) rfl (by show nI i + (-1) = _; rw [Int32.sub_eq_add_neg]) (by decide) rfl (fun ls hl => ?_)
      refine lv_goto (tgt := 10) hx hb dX1_isDoubtful_32 (by decide) ?_
      exact ih (i) ls ⟨by omega, by omega, fun q h1 h2 => if hq : q = i then (by subst hq; omega) else I3 q (by omega) h2, lv_sub hl [1, 2, 3, 4, 0] rfl⟩ (by dsimp only; omega)
    · refine xN_const hx hb 1 dX1_isDoubtful_27 (by decide) ?_
      exact xret_t (V := nI (1)) hF hret hlocks rfl (xz_t ((dB_iff w k (top w k r) _).mpr ⟨i - top w k r, by omega, by rw [show top w k r + (i - top w k r) = i by omega]; omega⟩)) dX1_isDoubtful_28
set_option maxHeartbeats 4000000 in
set_option maxRecDepth 100000 in
theorem c_X1_followersOf (l : Launch) (g : XG) (ao ae ac au : Nat) (fe fc fs w : Nat → Int32) (hW : WF w) (hR : LR fe fc fs w) (r k : Nat) (hr : r < nr w) (hk : k < 4) : Met l yX1_followersOf (ww yX1_followersOf cX1_followersOf 4 (some .int)) (rmD 2) (xP g [.ref ao, .int (nI r), .int (nI k)] (fun H => va_P g.1 vwCl (LogC g ao ae ac au fe fc fs w) H)) (vp_Si (fun r9 => r9 = nI (stop w k (r + 1) - 1 - r))) 0 0 (fun _ => False) := by
  refine xMet (by decide) rfl (Nat.le_of_ble_eq_true rfl) ?_
  intro p e s m below meth c ls hF hZ hh hret hlocks hin hl
  have hx := hF.1.1
  have hb := hF.1.2.1
  have hP := hh
  have hP : va_P g.1 vwCl (LogC g ao ae ac au fe fc fs w) s.heap := hP
  have hl : lv_has ls 4 [(0, .ref ao), (1, .int (nI r)), (2, .int (nI k))] := hl
  have h48 := hW.n48
  have hp4 := hW.pg4
  have hp12 := hW.pg12
  have hs1 := hW.st1
  have hw2 := hW.wr2
  have hw6 := hW.wr6
  refine lv_iload_n hx hb dX1_followersOf_0 rfl (lv_at hl 1 rfl) ?_
  refine lv_istore_n (lv' := [(3, .int (nI r)), (0, .ref ao), (1, .int (nI r)), (2, .int (nI k))]) hx hb dX1_followersOf_1 rfl hl (by decide) rfl (fun ls hl => ?_)
  refine xloop (goal := fun ls => W p l e _ s m _ below meth c s.heap [] _ _ _ (F0 m _ ls [])) (fun (z_ : Nat) (ls : Array Slot) => match z_ with | t => (r ≤ t) ∧ (t < nr w) ∧ (stop w k (t + 1) = stop w k (r + 1)) ∧ lv_has ls 4 [(0, .ref ao), (1, .int (nI r)), (2, .int (nI k)), (3, .int (nI t))]) (fun (z_ : Nat) => match z_ with | t => nr w - t) ?_ (r) ls ⟨Nat.le_refl r, hr, rfl, lv_sub hl [1, 2, 3, 0] rfl⟩
  rintro t ls ⟨I1, I2, I3, hl⟩ ih
  refine lv_iload_n hx hb dX1_followersOf_2 rfl (lv_at hl 3 rfl) ?_
  refine xN_const hx hb 1 dX1_followersOf_3 (by decide) ?_
  refine xN_add hx hb dX1_followersOf_4 ?_
  refine lv_aload_n hx hb dX1_followersOf_5 rfl (lv_at hl 0 rfl) ?_
  refine gf_X1_X1_rows hF hP 0 rfl rfl dX1_followersOf_6 ?_
  refine xC_ge (tgt := 29) hx hb (by omega) (by omega) dX1_followersOf_9 (by decide) (fun c_9 => ?_) (fun c_9 => ?_)
  · refine lv_iload_n hx hb dX1_followersOf_29 rfl (lv_at hl 3 rfl) ?_
    refine lv_iload_n hx hb dX1_followersOf_30 rfl (lv_at hl 1 rfl) ?_
    refine xN_sub hx hb (by omega) dX1_followersOf_31 ?_
    exact xret_i (V := nI (t - r)) hF hret hlocks (by rw [← I3, stop_end (by omega)]; rfl) dX1_followersOf_32
  · refine lv_aload_n hx hb dX1_followersOf_12 rfl (lv_at hl 0 rfl) ?_
    refine lv_iload_n hx hb dX1_followersOf_13 rfl (lv_at hl 3 rfl) ?_
    refine xN_const hx hb 1 dX1_followersOf_14 (by decide) ?_
    refine xN_add hx hb dX1_followersOf_15 ?_
    refine lv_iload_n hx hb dX1_followersOf_16 rfl (lv_at hl 2 rfl) ?_
    refine vp_callSi (va_Run.run (xrV hF (c_X1_leansUp l g ao ae ac au fe fc fs w hW hR (t + 1) k (by omega) (by omega)) cal_X1_leansUp q_250 ⟨by decide, by decide⟩ rfl rfl rfl (va_recv hF.2.1 hP (ci := 1) (q0 := 0) rfl rfl) hZ (hP) hl.1 rfl (Nat.le_of_ble_eq_true rfl) dX1_followersOf_17 ⟨Nat.le_refl _, Nat.le_refl _⟩)) (fun r_ h_ => ?_)
    subst h_
    refine xZ_eq (tgt := 29) hx hb dX1_followersOf_20 (by decide) (fun c_20 => ?_) (fun c_20 => ?_)
    · refine lv_iload_n hx hb dX1_followersOf_29 rfl (lv_at hl 3 rfl) ?_
      refine lv_iload_n hx hb dX1_followersOf_30 rfl (lv_at hl 1 rfl) ?_
      refine xN_sub hx hb (by omega) dX1_followersOf_31 ?_
      exact xret_i (V := nI (t - r)) hF hret hlocks (by rw [← I3, stop_no c_20]; rfl) dX1_followersOf_32
    · refine xN_inc (lv' := [(3, .int (nI (t + 1))), (0, .ref ao), (1, .int (nI r)), (2, .int (nI k))]) hx hb 1 dX1_followersOf_23 hl (k := 3) rfl (by decide) (by decide) rfl (fun ls hl => ?_)
      refine lv_goto (tgt := 2) hx hb dX1_followersOf_26 (by decide) ?_
      exact ih (t + 1) ls ⟨by omega, by omega, (stop_up (by omega) c_20).symm.trans I3, lv_sub hl [1, 2, 3, 0] rfl⟩ (by dsimp only; omega)
set_option maxHeartbeats 4000000 in
set_option maxRecDepth 100000 in
theorem c_X1_meaningWith (l : Launch) (g : XG) (ao ae ac au : Nat) (fe fc fs w : Nat → Int32) (hW : WF w) (hR : LR fe fc fs w) (r k : Nat) (hr : r < nr w) (hk : k < 4) (x : Int32) : Met l yX1_meaningWith (ww yX1_meaningWith cX1_meaningWith 4 (some .int)) (rmD 4) (xP g [.ref ao, .int (nI r), .int (nI k), .int (x)] (fun H => va_P g.1 vwCl (LogC g ao ae ac au fe fc fs w) H)) (vp_Si (fun r9 => r9 = mwI w r k x)) 0 0 (fun _ => False) := by
  refine xMet (by decide) rfl (Nat.le_of_ble_eq_true rfl) ?_
  intro p e s m below meth c ls hF hZ hh hret hlocks hin hl
  have hx := hF.1.1
  have hb := hF.1.2.1
  have hP := hh
  have hP : va_P g.1 vwCl (LogC g ao ae ac au fe fc fs w) s.heap := hP
  have hl : lv_has ls 4 [(0, .ref ao), (1, .int (nI r)), (2, .int (nI k)), (3, .int (x))] := hl
  have h48 := hW.n48
  have hp4 := hW.pg4
  have hp12 := hW.pg12
  have hs1 := hW.st1
  have hw2 := hW.wr2
  have hw6 := hW.wr6
  refine lv_iload_n hx hb dX1_meaningWith_0 rfl (lv_at hl 3 rfl) ?_
  refine lv_bipush hx hb (v := (-6)) dX1_meaningWith_1 (by decide) ?_
  refine lv_icmp_ne (tgt := 28) hx hb dX1_meaningWith_3 (by decide) (fun c_3 => ?_) (fun c_3 => ?_)
  · refine lv_iload_n hx hb dX1_meaningWith_28 rfl (lv_at hl 3 rfl) ?_
    exact xret_i (V := (x)) hF hret hlocks (by unfold mwI; rw [if_neg c_3]) dX1_meaningWith_29
  · refine lv_aload_n hx hb dX1_meaningWith_6 rfl (lv_at hl 0 rfl) ?_
    refine lv_iload_n hx hb dX1_meaningWith_7 rfl (lv_at hl 1 rfl) ?_
    refine vp_callSi (va_Run.run (xrV hF (c_X1_hasAbove l g ao ae ac au fe fc fs w hW hR r (by omega)) cal_X1_hasAbove q_238 ⟨by decide, by decide⟩ rfl rfl rfl (va_recv hF.2.1 hP (ci := 1) (q0 := 0) rfl rfl) hZ (hP) hl.1 rfl (Nat.le_of_ble_eq_true rfl) dX1_meaningWith_8 ⟨Nat.le_refl _, Nat.le_refl _⟩)) (fun r_ h_ => ?_)
    subst h_
    refine xZ_eq (tgt := 25) hx hb dX1_meaningWith_11 (by decide) (fun c_11 => ?_) (fun c_11 => ?_)
    · refine lv_bipush hx hb (v := (-5)) dX1_meaningWith_25 (by decide) ?_
      exact xret_i (V := (-5)) hF hret hlocks (by unfold mwI; rw [if_pos c_3, c_11]; rfl) dX1_meaningWith_27
    · have hr0 : 0 < r := Nat.pos_of_ne_zero (fun q => by subst q; exact absurd c_11 (by simp [abvB]))
      refine lv_aload_n hx hb dX1_meaningWith_14 rfl (lv_at hl 0 rfl) ?_
      refine lv_iload_n hx hb dX1_meaningWith_15 rfl (lv_at hl 1 rfl) ?_
      refine xN_const hx hb 1 dX1_meaningWith_16 (by decide) ?_
      refine xN_sub hx hb (by omega) dX1_meaningWith_17 ?_
      refine lv_iload_n hx hb dX1_meaningWith_18 rfl (lv_at hl 2 rfl) ?_
      refine vp_callSi (va_Run.run (xrV hF (c_X1_meaningOf l g ao ae ac au fe fc fs w hW hR (r - 1) k (by omega) (by omega)) cal_X1_meaningOf q_242 ⟨by decide, by decide⟩ rfl rfl rfl (va_recv hF.2.1 hP (ci := 1) (q0 := 0) rfl rfl) hZ (hP) hl.1 rfl (Nat.le_of_ble_eq_true rfl) dX1_meaningWith_19 ⟨Nat.le_refl _, Nat.le_refl _⟩)) (fun r_ h_ => ?_)
      subst h_
      refine lv_goto (tgt := 27) hx hb dX1_meaningWith_22 (by decide) ?_
      exact xret_i (V := (mean w (r - 1) k)) hF hret hlocks (by unfold mwI; rw [if_pos c_3, c_11]; rfl) dX1_meaningWith_27
set_option maxHeartbeats 4000000 in
set_option maxRecDepth 100000 in
theorem c_X1_changedBy (l : Launch) (g : XG) (ao ae ac au : Nat) (fe fc fs w : Nat → Int32) (hW : WF w) (hR : LR fe fc fs w) (r k : Nat) (hr : r < nr w) (hk : k < 4) (x : Int32) : Met l yX1_changedBy (ww yX1_changedBy cX1_changedBy 4 (some .int)) (rmD 5) (xP g [.ref ao, .int (nI r), .int (nI k), .int (x)] (fun H => va_P g.1 vwCl (LogC g ao ae ac au fe fc fs w) H)) (vp_Si (fun r9 => r9 = nI (chg w r k x))) 0 0 (fun _ => False) := by
  refine xMet (by decide) rfl (Nat.le_of_ble_eq_true rfl) ?_
  intro p e s m below meth c ls hF hZ hh hret hlocks hin hl
  have hx := hF.1.1
  have hb := hF.1.2.1
  have hP := hh
  have hP : va_P g.1 vwCl (LogC g ao ae ac au fe fc fs w) s.heap := hP
  have hl : lv_has ls 4 [(0, .ref ao), (1, .int (nI r)), (2, .int (nI k)), (3, .int (x))] := hl
  have h48 := hW.n48
  have hp4 := hW.pg4
  have hp12 := hW.pg12
  have hs1 := hW.st1
  have hw2 := hW.wr2
  have hw6 := hW.wr6
  refine lv_aload_n hx hb dX1_changedBy_0 rfl (lv_at hl 0 rfl) ?_
  refine lv_iload_n hx hb dX1_changedBy_1 rfl (lv_at hl 1 rfl) ?_
  refine lv_iload_n hx hb dX1_changedBy_2 rfl (lv_at hl 2 rfl) ?_
  refine lv_iload_n hx hb dX1_changedBy_3 rfl (lv_at hl 3 rfl) ?_
  refine vp_callSi (va_Run.run (xrV hF (c_X1_meaningWith l g ao ae ac au fe fc fs w hW hR r k (by omega) (by omega) ((x))) cal_X1_meaningWith q_234 ⟨by decide, by decide⟩ rfl rfl rfl (va_recv hF.2.1 hP (ci := 1) (q0 := 0) rfl rfl) hZ (hP) hl.1 rfl (Nat.le_of_ble_eq_true rfl) dX1_changedBy_4 ⟨Nat.le_refl _, Nat.le_refl _⟩)) (fun r_ h_ => ?_)
  subst h_
  refine lv_aload_n hx hb dX1_changedBy_7 rfl (lv_at hl 0 rfl) ?_
  refine lv_iload_n hx hb dX1_changedBy_8 rfl (lv_at hl 1 rfl) ?_
  refine lv_iload_n hx hb dX1_changedBy_9 rfl (lv_at hl 2 rfl) ?_
  refine vp_callSi (va_Run.run (xrV hF (c_X1_meaningOf l g ao ae ac au fe fc fs w hW hR r k (by omega) (by omega)) cal_X1_meaningOf q_242 ⟨by decide, by decide⟩ rfl rfl rfl (va_recv hF.2.1 hP (ci := 1) (q0 := 0) rfl rfl) hZ (hP) hl.1 rfl (Nat.le_of_ble_eq_true rfl) dX1_changedBy_10 ⟨Nat.le_refl _, Nat.le_refl _⟩)) (fun r_ h_ => ?_)
  subst h_
  refine lv_icmp_ne (tgt := 18) hx hb dX1_changedBy_13 (by decide) (fun c_13 => ?_) (fun c_13 => ?_)
  · refine xN_const hx hb 1 dX1_changedBy_18 (by decide) ?_
    refine lv_aload_n hx hb dX1_changedBy_19 rfl (lv_at hl 0 rfl) ?_
    refine lv_iload_n hx hb dX1_changedBy_20 rfl (lv_at hl 1 rfl) ?_
    refine lv_iload_n hx hb dX1_changedBy_21 rfl (lv_at hl 2 rfl) ?_
    refine vp_callSi (va_Run.run (xrV hF (c_X1_followersOf l g ao ae ac au fe fc fs w hW hR r k (by omega) (by omega)) cal_X1_followersOf q_255 ⟨by decide, by decide⟩ rfl rfl rfl (va_recv hF.2.1 hP (ci := 1) (q0 := 0) rfl rfl) hZ (hP) hl.1 rfl (Nat.le_of_ble_eq_true rfl) dX1_changedBy_22 ⟨Nat.le_refl _, Nat.le_refl _⟩)) (fun r_ h_ => ?_)
    subst h_
    refine xN_add hx hb dX1_changedBy_25 ?_
    exact xret_i (V := nI (1 + (stop w k (r + 1) - 1 - r))) hF hret hlocks (by unfold chg; rw [if_neg c_13]) dX1_changedBy_26
  · refine xN_const hx hb 0 dX1_changedBy_16 (by decide) ?_
    exact xret_i (V := nI (0)) hF hret hlocks (by unfold chg; rw [if_pos c_13]) dX1_changedBy_17
set_option maxHeartbeats 4000000 in
set_option maxRecDepth 100000 in
theorem c_X1_isWrittenOut (l : Launch) (g : XG) (ao ae ac au : Nat) (fe fc fs w : Nat → Int32) (hW : WF w) (hR : LR fe fc fs w) (r : Nat) (hr : r < nr w) : Met l yX1_isWrittenOut (ww yX1_isWrittenOut cX1_isWrittenOut 3 (some .boolean)) (rmD 1) (xP g [.ref ao, .int (nI r)] (fun H => va_P g.1 vwCl (LogC g ao ae ac au fe fc fs w) H)) (vp_Si (fun r9 => r9 = xz (wrB w r))) 0 0 (fun _ => False) := by
  refine xMet (by decide) rfl (Nat.le_of_ble_eq_true rfl) ?_
  intro p e s m below meth c ls hF hZ hh hret hlocks hin hl
  have hx := hF.1.1
  have hb := hF.1.2.1
  have hP := hh
  have hP : va_P g.1 vwCl (LogC g ao ae ac au fe fc fs w) s.heap := hP
  have hl : lv_has ls 3 [(0, .ref ao), (1, .int (nI r))] := hl
  have h48 := hW.n48
  have hp4 := hW.pg4
  have hp12 := hW.pg12
  have hs1 := hW.st1
  have hw2 := hW.wr2
  have hw6 := hW.wr6
  refine xN_const hx hb 0 dX1_isWrittenOut_0 (by decide) ?_
  refine lv_istore_n (lv' := [(2, .int (nI 0)), (0, .ref ao), (1, .int (nI r))]) hx hb dX1_isWrittenOut_1 rfl hl (by decide) rfl (fun ls hl => ?_)
  refine xloop (goal := fun ls => W p l e _ s m _ below meth c s.heap [] _ _ _ (F0 m _ ls [])) (fun (z_ : Nat) (ls : Array Slot) => match z_ with | i => (i ≤ 4) ∧ (wr4 w r i = true) ∧ lv_has ls 3 [(0, .ref ao), (1, .int (nI r)), (2, .int (nI i))]) (fun (z_ : Nat) => match z_ with | i => 4 - i) ?_ (0) ls ⟨by omega, rfl, lv_sub hl [1, 2, 0] rfl⟩
  rintro i ls ⟨I1, I2, hl⟩ ih
  refine lv_iload_n hx hb dX1_isWrittenOut_2 rfl (lv_at hl 2 rfl) ?_
  refine xN_const hx hb 4 dX1_isWrittenOut_3 (by decide) ?_
  refine xC_ge (tgt := 24) hx hb (by omega) (by omega) dX1_isWrittenOut_4 (by decide) (fun c_4 => ?_) (fun c_4 => ?_)
  · refine xN_const hx hb 1 dX1_isWrittenOut_24 (by decide) ?_
    exact xret_t (V := nI (1)) hF hret hlocks rfl (xz_t (by rw [show i = 4 by omega] at I2; exact I2)) dX1_isWrittenOut_25
  · refine lv_aload_n hx hb dX1_isWrittenOut_7 rfl (lv_at hl 0 rfl) ?_
    refine lv_iload_n hx hb dX1_isWrittenOut_8 rfl (lv_at hl 1 rfl) ?_
    refine lv_iload_n hx hb dX1_isWrittenOut_9 rfl (lv_at hl 2 rfl) ?_
    refine vp_callSi (va_Run.run (xrV hF (c_X1_latestOf l g ao ae ac au fe fc fs w hW hR r i (by omega) (by omega)) cal_X1_latestOf q_254 ⟨by decide, by decide⟩ rfl rfl rfl (va_recv hF.2.1 hP (ci := 1) (q0 := 0) rfl rfl) hZ (hP) hl.1 rfl (Nat.le_of_ble_eq_true rfl) dX1_isWrittenOut_10 ⟨Nat.le_refl _, Nat.le_refl _⟩)) (fun r_ h_ => ?_)
    subst h_
    refine lv_if_ge (tgt := 18) hx hb dX1_isWrittenOut_13 (by decide) (fun c_13 => ?_) (fun c_13 => ?_)
    · refine xN_inc (lv' := [(2, .int (nI (i + 1))), (0, .ref ao), (1, .int (nI r))]) hx hb 1 dX1_isWrittenOut_18 hl (k := 2) rfl (by decide) (by decide) rfl (fun ls hl => ?_)
      refine lv_goto (tgt := 2) hx hb dX1_isWrittenOut_21 (by decide) ?_
      exact ih (i + 1) ls ⟨by omega, by rw [wr4, I2, Bool.true_and]; exact decide_eq_true c_13, lv_sub hl [1, 2, 0] rfl⟩ (by dsimp only; omega)
    · refine xN_const hx hb 0 dX1_isWrittenOut_16 (by decide) ?_
      exact xret_t (V := nI (0)) hF hret hlocks rfl (xz_f (wr4_false (Int32.not_le.mp c_13) 4 (by omega))) dX1_isWrittenOut_17
