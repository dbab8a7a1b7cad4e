/-! the class: what is told -/
set_option maxHeartbeats 4000000 in
set_option maxRecDepth 100000 in
theorem c_X3_cell (l : Launch) (g : XG) (dd bo ho xo ta ao ae ac au : Nat) (zk : Bool) (fe fc fs w : Nat → Int32) (hW : WF w) (hR : LR fe fc fs w) (x y z : Int32) : Met l yX3_cell (ww yX3_cell cX3_cell 4 (some .int)) (rmD 4) (xP g [.ref dd, .int (x), .int (y), .int (z)] (fun H => va_P g.1 vwCl ((dd, .inr (3, [.ref ao, .ref bo, .int (xz zk), .ref ho, .ref xo, .ref ta])) :: LogC g ao ae ac au fe fc fs w) H)) (vp_Si (fun r9 => r9 = cellA w x y z)) 0 0 (fun _ => False) := by
  refine xMet (by decide) rfl (Nat.le_of_ble_eq_true rfl) ?_
  intro p e s m below meth c ls hF hZ hh hret hlocks hin hl
  have hx := hF.1.1
  have hb := hF.1.2.1
  have hP := hh
  have hP : va_P g.1 vwCl ((dd, .inr (3, [.ref ao, .ref bo, .int (xz zk), .ref ho, .ref xo, .ref ta])) :: LogC g ao ae ac au fe fc fs w) s.heap := hP
  have hl : lv_has ls 4 [(0, .ref dd), (1, .int (x)), (2, .int (y)), (3, .int (z))] := hl
  have h48 := hW.n48
  have hp4 := hW.pg4
  have hp12 := hW.pg12
  have hs1 := hW.st1
  have hw2 := hW.wr2
  have hw6 := hW.wr6
  refine lv_aload_n hx hb dX3_cell_0 rfl (lv_at hl 0 rfl) ?_
  refine gf_X3_X3_log hF hP 0 rfl rfl dX3_cell_1 ?_
  refine lv_iload_n hx hb dX3_cell_4 rfl (lv_at hl 1 rfl) ?_
  refine lv_iload_n hx hb dX3_cell_5 rfl (lv_at hl 2 rfl) ?_
  refine vp_callSi (va_Run.run (xrVN hF (c_X1_isCell l g ao ae ac au fe fc fs w hW hR ((x)) ((y)) ) cal_X1_isCell n_17 ⟨by decide, by decide⟩ rfl rfl rfl (va_recv hF.2.1 hP (ci := 1) (q0 := 1) rfl rfl) hZ (hP.sub [1, 2, 3, 4] rfl) hl.1 rfl (Nat.le_of_ble_eq_true rfl) dX3_cell_6 ⟨Nat.le_refl _, Nat.le_refl _⟩)) (fun r_ h_ => ?_)
  subst h_
  refine xZ_ne (tgt := 14) hx hb dX3_cell_9 (by decide) (fun c_9 => ?_) (fun c_9 => ?_)
  · obtain ⟨q1, q2⟩ := Bool.and_eq_true_iff.mp c_9
    obtain ⟨r, hr, rfl⟩ := (rowB_iff hW).mp q1
    obtain ⟨k, hk, rfl⟩ := colB_iff.mp q2
    have er : (nI r).toNatClampNeg = r := nI_clamp (by omega)
    have ek : (nI k).toNatClampNeg = k := nI_clamp (by omega)
    have hc4 := hW.c4 (i := 4 * r + k) (by omega)
    have hc1 := hW.c1 (i := 4 * r + k) (by omega)
    refine lv_iload_n hx hb dX3_cell_14 rfl (lv_at hl 3 rfl) ?_
    by_cases w_15_0 : (z) = 0
    · refine lv_tableIn (off := 37) (tgt := 52) hx hb dX3_cell_15 (by rw [w_15_0]; decide) (by rw [w_15_0]; decide) (by rw [w_15_0]; rfl) (by decide) ?_
      refine lv_aload_n hx hb dX3_cell_52 rfl (lv_at hl 0 rfl) ?_
      refine gf_X3_X3_log hF hP 0 rfl rfl dX3_cell_53 ?_
      refine lv_iload_n hx hb dX3_cell_56 rfl (lv_at hl 1 rfl) ?_
      refine lv_iload_n hx hb dX3_cell_57 rfl (lv_at hl 2 rfl) ?_
      refine vp_callSi (va_Run.run (xrVN hF (c_X1_meaningOf l g ao ae ac au fe fc fs w hW hR r k (by omega) (by omega)) cal_X1_meaningOf n_33 ⟨by decide, by decide⟩ rfl rfl rfl (va_recv hF.2.1 hP (ci := 1) (q0 := 1) rfl rfl) hZ (hP.sub [1, 2, 3, 4] rfl) hl.1 rfl (Nat.le_of_ble_eq_true rfl) dX3_cell_58 ⟨Nat.le_refl _, Nat.le_refl _⟩)) (fun r_ h_ => ?_)
      subst h_
      exact xret_i (V := (mean w r k)) hF hret hlocks (by unfold cellA; rw [if_pos c_9, if_pos w_15_0, er, ek]) dX3_cell_61
    by_cases w_15_1 : (z) = 1
    · refine lv_tableIn (off := 47) (tgt := 62) hx hb dX3_cell_15 (by rw [w_15_1]; decide) (by rw [w_15_1]; decide) (by rw [w_15_1]; rfl) (by decide) ?_
      refine lv_aload_n hx hb dX3_cell_62 rfl (lv_at hl 0 rfl) ?_
      refine gf_X3_X3_log hF hP 0 rfl rfl dX3_cell_63 ?_
      refine lv_iload_n hx hb dX3_cell_66 rfl (lv_at hl 1 rfl) ?_
      refine lv_iload_n hx hb dX3_cell_67 rfl (lv_at hl 2 rfl) ?_
      refine vp_callSi (va_Run.run (xrVN hF (c_X1_sourceOf l g ao ae ac au fe fc fs w hW hR r k (by omega) (by omega)) cal_X1_sourceOf n_34 ⟨by decide, by decide⟩ rfl rfl rfl (va_recv hF.2.1 hP (ci := 1) (q0 := 1) rfl rfl) hZ (hP.sub [1, 2, 3, 4] rfl) hl.1 rfl (Nat.le_of_ble_eq_true rfl) dX3_cell_68 ⟨Nat.le_refl _, Nat.le_refl _⟩)) (fun r_ h_ => ?_)
      subst h_
      exact xret_i (V := (srcI w r k)) hF hret hlocks (by unfold cellA; rw [if_pos c_9, if_neg w_15_0, if_pos w_15_1, er, ek]) dX3_cell_71
    by_cases w_15_2 : (z) = 2
    · refine lv_tableIn (off := 57) (tgt := 72) hx hb dX3_cell_15 (by rw [w_15_2]; decide) (by rw [w_15_2]; decide) (by rw [w_15_2]; rfl) (by decide) ?_
      refine lv_aload_n hx hb dX3_cell_72 rfl (lv_at hl 0 rfl) ?_
      refine gf_X3_X3_log hF hP 0 rfl rfl dX3_cell_73 ?_
      refine lv_iload_n hx hb dX3_cell_76 rfl (lv_at hl 1 rfl) ?_
      refine lv_iload_n hx hb dX3_cell_77 rfl (lv_at hl 2 rfl) ?_
      refine vp_callSi (va_Run.run (xrVN hF (c_X1_entriesOf l g ao ae ac au fe fc fs w hW hR r k (by omega) (by omega)) cal_X1_entriesOf n_19 ⟨by decide, by decide⟩ rfl rfl rfl (va_recv hF.2.1 hP (ci := 1) (q0 := 1) rfl rfl) hZ (hP.sub [1, 2, 3, 4] rfl) hl.1 rfl (Nat.le_of_ble_eq_true rfl) dX3_cell_78 ⟨Nat.le_refl _, Nat.le_refl _⟩)) (fun r_ h_ => ?_)
      subst h_
      exact xret_i (V := nI (cnt w (4 * r + k))) hF hret hlocks (by unfold cellA; rw [if_pos c_9, if_neg w_15_0, if_neg w_15_1, if_pos w_15_2, er, ek]) dX3_cell_81
    by_cases w_15_3 : (z) = 3
    · refine lv_tableIn (off := 67) (tgt := 82) hx hb dX3_cell_15 (by rw [w_15_3]; decide) (by rw [w_15_3]; decide) (by rw [w_15_3]; rfl) (by decide) ?_
      refine lv_aload_n hx hb dX3_cell_82 rfl (lv_at hl 0 rfl) ?_
      refine gf_X3_X3_log hF hP 0 rfl rfl dX3_cell_83 ?_
      refine lv_iload_n hx hb dX3_cell_86 rfl (lv_at hl 1 rfl) ?_
      refine lv_iload_n hx hb dX3_cell_87 rfl (lv_at hl 2 rfl) ?_
      refine vp_callSi (va_Run.run (xrVN hF (c_X1_chainOf l g ao ae ac au fe fc fs w hW hR r k (by omega) (by omega)) cal_X1_chainOf n_35 ⟨by decide, by decide⟩ rfl rfl rfl (va_recv hF.2.1 hP (ci := 1) (q0 := 1) rfl rfl) hZ (hP.sub [1, 2, 3, 4] rfl) hl.1 rfl (Nat.le_of_ble_eq_true rfl) dX3_cell_88 ⟨Nat.le_refl _, Nat.le_refl _⟩)) (fun r_ h_ => ?_)
      subst h_
      exact xret_i (V := nI (r - top w k r + 1)) hF hret hlocks (by unfold cellA; rw [if_pos c_9, if_neg w_15_0, if_neg w_15_1, if_neg w_15_2, if_pos w_15_3, er, ek]) dX3_cell_91
    by_cases w_15_4 : (z) = 4
    · refine lv_tableIn (off := 77) (tgt := 92) hx hb dX3_cell_15 (by rw [w_15_4]; decide) (by rw [w_15_4]; decide) (by rw [w_15_4]; rfl) (by decide) ?_
      refine lv_aload_n hx hb dX3_cell_92 rfl (lv_at hl 0 rfl) ?_
      refine gf_X3_X3_log hF hP 0 rfl rfl dX3_cell_93 ?_
      refine lv_iload_n hx hb dX3_cell_96 rfl (lv_at hl 1 rfl) ?_
      refine lv_iload_n hx hb dX3_cell_97 rfl (lv_at hl 2 rfl) ?_
      refine vp_callSi (va_Run.run (xrVN hF (c_X1_isDoubtful l g ao ae ac au fe fc fs w hW hR r k (by omega) (by omega)) cal_X1_isDoubtful n_36 ⟨by decide, by decide⟩ rfl rfl rfl (va_recv hF.2.1 hP (ci := 1) (q0 := 1) rfl rfl) hZ (hP.sub [1, 2, 3, 4] rfl) hl.1 rfl (Nat.le_of_ble_eq_true rfl) dX3_cell_98 ⟨Nat.le_refl _, Nat.le_refl _⟩)) (fun r_ h_ => ?_)
      subst h_
      refine xZ_eq (tgt := 108) hx hb dX3_cell_101 (by decide) (fun c_101 => ?_) (fun c_101 => ?_)
      · refine xN_const hx hb 0 dX3_cell_108 (by decide) ?_
        exact xret_i (V := nI (0)) hF hret hlocks (by unfold cellA; rw [if_pos c_9, if_neg w_15_0, if_neg w_15_1, if_neg w_15_2, if_neg w_15_3, if_pos w_15_4, er, ek, c_101]; rfl) dX3_cell_109
      · refine xN_const hx hb 1 dX3_cell_104 (by decide) ?_
        refine lv_goto (tgt := 109) hx hb dX3_cell_105 (by decide) ?_
        exact xret_i (V := nI (1)) hF hret hlocks (by unfold cellA; rw [if_pos c_9, if_neg w_15_0, if_neg w_15_1, if_neg w_15_2, if_neg w_15_3, if_pos w_15_4, er, ek, c_101]; rfl) dX3_cell_109
    by_cases w_15_5 : (z) = 5
    · refine lv_tableIn (off := 95) (tgt := 110) hx hb dX3_cell_15 (by rw [w_15_5]; decide) (by rw [w_15_5]; decide) (by rw [w_15_5]; rfl) (by decide) ?_
      refine lv_aload_n hx hb dX3_cell_110 rfl (lv_at hl 0 rfl) ?_
      refine gf_X3_X3_log hF hP 0 rfl rfl dX3_cell_111 ?_
      refine lv_iload_n hx hb dX3_cell_114 rfl (lv_at hl 1 rfl) ?_
      refine lv_iload_n hx hb dX3_cell_115 rfl (lv_at hl 2 rfl) ?_
      refine vp_callSi (va_Run.run (xrVN hF (c_X1_followersOf l g ao ae ac au fe fc fs w hW hR r k (by omega) (by omega)) cal_X1_followersOf n_37 ⟨by decide, by decide⟩ rfl rfl rfl (va_recv hF.2.1 hP (ci := 1) (q0 := 1) rfl rfl) hZ (hP.sub [1, 2, 3, 4] rfl) hl.1 rfl (Nat.le_of_ble_eq_true rfl) dX3_cell_116 ⟨Nat.le_refl _, Nat.le_refl _⟩)) (fun r_ h_ => ?_)
      subst h_
      exact xret_i (V := nI (stop w k (r + 1) - 1 - r)) hF hret hlocks (by unfold cellA; rw [if_pos c_9, if_neg w_15_0, if_neg w_15_1, if_neg w_15_2, if_neg w_15_3, if_neg w_15_4, if_pos w_15_5, er, ek]) dX3_cell_119
    refine lv_tableOut (tgt := 120) hx hb dX3_cell_15 (by have a0 := lv_neT w_15_0 (a := 0) (by decide); have a1 := lv_neT w_15_1 (a := 1) (by decide); have a2 := lv_neT w_15_2 (a := 2) (by decide); have a3 := lv_neT w_15_3 (a := 3) (by decide); have a4 := lv_neT w_15_4 (a := 4) (by decide); have a5 := lv_neT w_15_5 (a := 5) (by decide); omega) (by decide) ?_
    refine lv_bipush hx hb (v := (-2)) dX3_cell_120 (by decide) ?_
    exact xret_i (V := (-2)) hF hret hlocks (by unfold cellA; rw [if_pos c_9, if_neg w_15_0, if_neg w_15_1, if_neg w_15_2, if_neg w_15_3, if_neg w_15_4, if_neg w_15_5]) dX3_cell_122
  · refine lv_iconst hx hb (v := (-1)) dX3_cell_12 (by decide) ?_
    exact xret_i (V := (-1)) hF hret hlocks (by unfold cellA; rw [if_neg (by rw [c_9]; decide)]) dX3_cell_13
set_option maxHeartbeats 4000000 in
set_option maxRecDepth 100000 in
theorem c_X3_entry (l : Launch) (g : XG) (dd bo ho xo ta ao ae ac au : Nat) (zk : Bool) (fe fc fs w : Nat → Int32) (hW : WF w) (hR : LR fe fc fs w) (x y z : Int32) : Met l yX3_entry (ww yX3_entry cX3_entry 4 (some .int)) (rmD 2) (xP g [.ref dd, .int (x), .int (y), .int (z)] (fun H => va_P g.1 vwCl ((dd, .inr (3, [.ref ao, .ref bo, .int (xz zk), .ref ho, .ref xo, .ref ta])) :: LogC g ao ae ac au fe fc fs w) H)) (vp_Si (fun r9 => r9 = entryA w x y z)) 0 0 (fun _ => False) := by
  refine xMet (by decide) rfl (Nat.le_of_ble_eq_true rfl) ?_
  intro p e s m below meth c ls hF hZ hh hret hlocks hin hl
  have hx := hF.1.1
  have hb := hF.1.2.1
  have hP := hh
  have hP : va_P g.1 vwCl ((dd, .inr (3, [.ref ao, .ref bo, .int (xz zk), .ref ho, .ref xo, .ref ta])) :: LogC g ao ae ac au fe fc fs w) s.heap := hP
  have hl : lv_has ls 4 [(0, .ref dd), (1, .int (x)), (2, .int (y)), (3, .int (z))] := hl
  have h48 := hW.n48
  have hp4 := hW.pg4
  have hp12 := hW.pg12
  have hs1 := hW.st1
  have hw2 := hW.wr2
  have hw6 := hW.wr6
  refine lv_aload_n hx hb dX3_entry_0 rfl (lv_at hl 0 rfl) ?_
  refine gf_X3_X3_log hF hP 0 rfl rfl dX3_entry_1 ?_
  refine lv_iload_n hx hb dX3_entry_4 rfl (lv_at hl 1 rfl) ?_
  refine lv_iload_n hx hb dX3_entry_5 rfl (lv_at hl 2 rfl) ?_
  refine vp_callSi (va_Run.run (xrVN hF (c_X1_isCell l g ao ae ac au fe fc fs w hW hR ((x)) ((y)) ) cal_X1_isCell n_17 ⟨by decide, by decide⟩ rfl rfl rfl (va_recv hF.2.1 hP (ci := 1) (q0 := 1) rfl rfl) hZ (hP.sub [1, 2, 3, 4] rfl) hl.1 rfl (Nat.le_of_ble_eq_true rfl) dX3_entry_6 ⟨Nat.le_refl _, Nat.le_refl _⟩)) (fun r_ h_ => ?_)
  subst h_
  refine xZ_ne (tgt := 14) hx hb dX3_entry_9 (by decide) (fun c_9 => ?_) (fun c_9 => ?_)
  · obtain ⟨q1, q2⟩ := Bool.and_eq_true_iff.mp c_9
    obtain ⟨r, hr, rfl⟩ := (rowB_iff hW).mp q1
    obtain ⟨k, hk, rfl⟩ := colB_iff.mp q2
    have er : (nI r).toNatClampNeg = r := nI_clamp (by omega)
    have ek : (nI k).toNatClampNeg = k := nI_clamp (by omega)
    have hc4 := hW.c4 (i := 4 * r + k) (by omega)
    have hc1 := hW.c1 (i := 4 * r + k) (by omega)
    refine lv_iload_n hx hb dX3_entry_14 rfl (lv_at hl 3 rfl) ?_
    refine lv_if_lt (tgt := 31) hx hb dX3_entry_15 (by decide) (fun c_15 => ?_) (fun c_15 => ?_)
    · refine lv_bipush hx hb (v := (-2)) dX3_entry_31 (by decide) ?_
      exact xret_i (V := (-2)) hF hret hlocks (by unfold entryA; rw [if_pos c_9, er, ek, if_neg (fun q => q.1 c_15)]) dX3_entry_33
    · refine lv_iload_n hx hb dX3_entry_18 rfl (lv_at hl 3 rfl) ?_
      refine lv_aload_n hx hb dX3_entry_19 rfl (lv_at hl 0 rfl) ?_
      refine gf_X3_X3_log hF hP 0 rfl rfl dX3_entry_20 ?_
      refine lv_iload_n hx hb dX3_entry_23 rfl (lv_at hl 1 rfl) ?_
      refine lv_iload_n hx hb dX3_entry_24 rfl (lv_at hl 2 rfl) ?_
      refine vp_callSi (va_Run.run (xrVN hF (c_X1_entriesOf l g ao ae ac au fe fc fs w hW hR r k (by omega) (by omega)) cal_X1_entriesOf n_19 ⟨by decide, by decide⟩ rfl rfl rfl (va_recv hF.2.1 hP (ci := 1) (q0 := 1) rfl rfl) hZ (hP.sub [1, 2, 3, 4] rfl) hl.1 rfl (Nat.le_of_ble_eq_true rfl) dX3_entry_25 ⟨Nat.le_refl _, Nat.le_refl _⟩)) (fun r_ h_ => ?_)
      subst h_
      refine lv_icmp_lt (tgt := 34) hx hb dX3_entry_28 (by decide) (fun c_28 => ?_) (fun c_28 => ?_)
      · obtain ⟨j, hj, rfl⟩ := nI_of c_15
        have hj2 := (nI_ltI hj (by omega)).mp c_28
        have ej : (nI j).toNatClampNeg = j := nI_clamp hj
        refine lv_aload_n hx hb dX3_entry_34 rfl (lv_at hl 0 rfl) ?_
        refine gf_X3_X3_log hF hP 0 rfl rfl dX3_entry_35 ?_
        refine lv_iload_n hx hb dX3_entry_38 rfl (lv_at hl 1 rfl) ?_
        refine lv_iload_n hx hb dX3_entry_39 rfl (lv_at hl 2 rfl) ?_
        refine lv_iload_n hx hb dX3_entry_40 rfl (lv_at hl 3 rfl) ?_
        refine vp_callSi (va_Run.run (xrVN hF (c_X1_entryOf l g ao ae ac au fe fc fs w hW hR r k (by omega) (by omega) (j) (by omega)) cal_X1_entryOf n_24 ⟨by decide, by decide⟩ rfl rfl rfl (va_recv hF.2.1 hP (ci := 1) (q0 := 1) rfl rfl) hZ (hP.sub [1, 2, 3, 4] rfl) hl.1 rfl (Nat.le_of_ble_eq_true rfl) dX3_entry_41 ⟨Nat.le_refl _, Nat.le_refl _⟩)) (fun r_ h_ => ?_)
        subst h_
        exact xret_i (V := (w (29 + 5 * (4 * r + k) + j))) hF hret hlocks (by unfold entryA; rw [if_pos c_9, er, ek, if_pos ⟨c_15, c_28⟩, ej]) dX3_entry_44
      · refine lv_bipush hx hb (v := (-2)) dX3_entry_31 (by decide) ?_
        exact xret_i (V := (-2)) hF hret hlocks (by unfold entryA; rw [if_pos c_9, er, ek, if_neg (fun q => c_28 q.2)]) dX3_entry_33
  · refine lv_iconst hx hb (v := (-1)) dX3_entry_12 (by decide) ?_
    exact xret_i (V := (-1)) hF hret hlocks (by unfold entryA; rw [if_neg (by rw [c_9]; decide)]) dX3_entry_13
set_option maxHeartbeats 4000000 in
set_option maxRecDepth 100000 in
theorem c_X3_isWritten (l : Launch) (g : XG) (dd bo ho xo ta ao ae ac au : Nat) (zk : Bool) (fe fc fs w : Nat → Int32) (hW : WF w) (hR : LR fe fc fs w) (x : Int32) : Met l yX3_isWritten (ww yX3_isWritten cX3_isWritten 2 (some .int)) (rmD 2) (xP g [.ref dd, .int (x)] (fun H => va_P g.1 vwCl ((dd, .inr (3, [.ref ao, .ref bo, .int (xz zk), .ref ho, .ref xo, .ref ta])) :: LogC g ao ae ac au fe fc fs w) H)) (vp_Si (fun r9 => r9 = isWrA w x)) 0 0 (fun _ => False) := by
  refine xMet (by decide) rfl (Nat.le_of_ble_eq_true rfl) ?_
  intro p e s m below meth c ls hF hZ hh hret hlocks hin hl
  have hx := hF.1.1
  have hb := hF.1.2.1
  have hP := hh
  have hP : va_P g.1 vwCl ((dd, .inr (3, [.ref ao, .ref bo, .int (xz zk), .ref ho, .ref xo, .ref ta])) :: LogC g ao ae ac au fe fc fs w) s.heap := hP
  have hl : lv_has ls 2 [(0, .ref dd), (1, .int (x))] := hl
  have h48 := hW.n48
  have hp4 := hW.pg4
  have hp12 := hW.pg12
  have hs1 := hW.st1
  have hw2 := hW.wr2
  have hw6 := hW.wr6
  refine lv_aload_n hx hb dX3_isWritten_0 rfl (lv_at hl 0 rfl) ?_
  refine gf_X3_X3_log hF hP 0 rfl rfl dX3_isWritten_1 ?_
  refine lv_iload_n hx hb dX3_isWritten_4 rfl (lv_at hl 1 rfl) ?_
  refine vp_callSi (va_Run.run (xrVN hF (c_X1_isRow l g ao ae ac au fe fc fs w hW hR ((x)) ) cal_X1_isRow n_38 ⟨by decide, by decide⟩ rfl rfl rfl (va_recv hF.2.1 hP (ci := 1) (q0 := 1) rfl rfl) hZ (hP.sub [1, 2, 3, 4] rfl) hl.1 rfl (Nat.le_of_ble_eq_true rfl) dX3_isWritten_5 ⟨Nat.le_refl _, Nat.le_refl _⟩)) (fun r_ h_ => ?_)
  subst h_
  refine xZ_ne (tgt := 13) hx hb dX3_isWritten_8 (by decide) (fun c_8 => ?_) (fun c_8 => ?_)
  · obtain ⟨r, hr, rfl⟩ := (rowB_iff hW).mp c_8
    have er : (nI r).toNatClampNeg = r := nI_clamp (by omega)
    refine lv_aload_n hx hb dX3_isWritten_13 rfl (lv_at hl 0 rfl) ?_
    refine gf_X3_X3_log hF hP 0 rfl rfl dX3_isWritten_14 ?_
    refine lv_iload_n hx hb dX3_isWritten_17 rfl (lv_at hl 1 rfl) ?_
    refine vp_callSi (va_Run.run (xrVN hF (c_X1_isWrittenOut l g ao ae ac au fe fc fs w hW hR r (by omega)) cal_X1_isWrittenOut n_39 ⟨by decide, by decide⟩ rfl rfl rfl (va_recv hF.2.1 hP (ci := 1) (q0 := 1) rfl rfl) hZ (hP.sub [1, 2, 3, 4] rfl) hl.1 rfl (Nat.le_of_ble_eq_true rfl) dX3_isWritten_18 ⟨Nat.le_refl _, Nat.le_refl _⟩)) (fun r_ h_ => ?_)
    subst h_
    refine xZ_eq (tgt := 28) hx hb dX3_isWritten_21 (by decide) (fun c_21 => ?_) (fun c_21 => ?_)
    · refine xN_const hx hb 0 dX3_isWritten_28 (by decide) ?_
      exact xret_i (V := nI (0)) hF hret hlocks (by unfold isWrA; rw [if_pos c_8, er, c_21]; rfl) dX3_isWritten_29
    · refine xN_const hx hb 1 dX3_isWritten_24 (by decide) ?_
      refine lv_goto (tgt := 29) hx hb dX3_isWritten_25 (by decide) ?_
      exact xret_i (V := nI (1)) hF hret hlocks (by unfold isWrA; rw [if_pos c_8, er, c_21]; rfl) dX3_isWritten_29
  · refine lv_iconst hx hb (v := (-1)) dX3_isWritten_11 (by decide) ?_
    exact xret_i (V := (-1)) hF hret hlocks (by unfold isWrA; rw [c_8]; rfl) dX3_isWritten_12
set_option maxHeartbeats 4000000 in
set_option maxRecDepth 100000 in
theorem c_X3_run (l : Launch) (g : XG) (dd bo ho xo ta ao ae ac au : Nat) (zk : Bool) (fe fc fs w : Nat → Int32) (hW : WF w) (hR : LR fe fc fs w) (x y : Int32) : Met l yX3_run (ww yX3_run cX3_run 3 (some .int)) (rmD 5) (xP g [.ref dd, .int (x), .int (y)] (fun H => va_P g.1 vwCl ((dd, .inr (3, [.ref ao, .ref bo, .int (xz zk), .ref ho, .ref xo, .ref ta])) :: LogC g ao ae ac au fe fc fs w) H)) (vp_Si (fun r9 => r9 = runA w x y)) 0 0 (fun _ => False) := by
  refine xMet (by decide) rfl (Nat.le_of_ble_eq_true rfl) ?_
  intro p e s m below meth c ls hF hZ hh hret hlocks hin hl
  have hx := hF.1.1
  have hb := hF.1.2.1
  have hP := hh
  have hP : va_P g.1 vwCl ((dd, .inr (3, [.ref ao, .ref bo, .int (xz zk), .ref ho, .ref xo, .ref ta])) :: LogC g ao ae ac au fe fc fs w) s.heap := hP
  have hl : lv_has ls 3 [(0, .ref dd), (1, .int (x)), (2, .int (y))] := hl
  have h48 := hW.n48
  have hp4 := hW.pg4
  have hp12 := hW.pg12
  have hs1 := hW.st1
  have hw2 := hW.wr2
  have hw6 := hW.wr6
  refine lv_aload_n hx hb dX3_run_0 rfl (lv_at hl 0 rfl) ?_
  refine gf_X3_X3_log hF hP 0 rfl rfl dX3_run_1 ?_
  refine lv_iload_n hx hb dX3_run_4 rfl (lv_at hl 1 rfl) ?_
  refine vp_callSi (va_Run.run (xrVN hF (c_X1_isRow l g ao ae ac au fe fc fs w hW hR ((x)) ) cal_X1_isRow n_38 ⟨by decide, by decide⟩ rfl rfl rfl (va_recv hF.2.1 hP (ci := 1) (q0 := 1) rfl rfl) hZ (hP.sub [1, 2, 3, 4] rfl) hl.1 rfl (Nat.le_of_ble_eq_true rfl) dX3_run_5 ⟨Nat.le_refl _, Nat.le_refl _⟩)) (fun r_ h_ => ?_)
  subst h_
  refine xZ_eq (tgt := 22) hx hb dX3_run_8 (by decide) (fun c_8 => ?_) (fun c_8 => ?_)
  · refine lv_iconst hx hb (v := (-1)) dX3_run_22 (by decide) ?_
    exact xret_i (V := (-1)) hF hret hlocks (by unfold runA mg; rw [c_8]; rfl) dX3_run_23
  · refine lv_aload_n hx hb dX3_run_11 rfl (lv_at hl 0 rfl) ?_
    refine gf_X3_X3_log hF hP 0 rfl rfl dX3_run_12 ?_
    refine lv_iload_n hx hb dX3_run_15 rfl (lv_at hl 2 rfl) ?_
    refine vp_callSi (va_Run.run (xrVN hF (c_X1_isRow l g ao ae ac au fe fc fs w hW hR ((y)) ) cal_X1_isRow n_38 ⟨by decide, by decide⟩ rfl rfl rfl (va_recv hF.2.1 hP (ci := 1) (q0 := 1) rfl rfl) hZ (hP.sub [1, 2, 3, 4] rfl) hl.1 rfl (Nat.le_of_ble_eq_true rfl) dX3_run_16 ⟨Nat.le_refl _, Nat.le_refl _⟩)) (fun r_ h_ => ?_)
    subst h_
    refine xZ_ne (tgt := 24) hx hb dX3_run_19 (by decide) (fun c_19 => ?_) (fun c_19 => ?_)
    · obtain ⟨a, ha9, rfl⟩ := (rowB_iff hW).mp c_8
      obtain ⟨b, hb9, rfl⟩ := (rowB_iff hW).mp c_19
      refine lv_iload_n hx hb dX3_run_24 rfl (lv_at hl 2 rfl) ?_
      refine lv_iload_n hx hb dX3_run_25 rfl (lv_at hl 1 rfl) ?_
      refine xC_ge (tgt := 34) hx hb (by omega) (by omega) dX3_run_26 (by decide) (fun c_26 => ?_) (fun c_26 => ?_)
      · refine lv_aload_n hx hb dX3_run_34 rfl (lv_at hl 0 rfl) ?_
        refine gf_X3_X3_log hF hP 0 rfl rfl dX3_run_35 ?_
        refine lv_iload_n hx hb dX3_run_38 rfl (lv_at hl 1 rfl) ?_
        refine lv_iload_n hx hb dX3_run_39 rfl (lv_at hl 2 rfl) ?_
        refine W.eq (g2 := F0 m 40 ls [.int (nI (b + 1) - nI 1), .int (nI a), .ref ao]) (by rw [xE_pred]) ?_
        refine vp_callSi (va_Run.run (xrVN hF (c_X1_runOf l g ao ae ac au fe fc fs w hW hR a (b + 1) (by omega) (by omega)) cal_X1_runOf n_48 ⟨by decide, by decide⟩ rfl rfl rfl (va_recv hF.2.1 hP (ci := 1) (q0 := 1) rfl rfl) hZ (hP.sub [1, 2, 3, 4] rfl) hl.1 rfl (Nat.le_of_ble_eq_true rfl) dX3_run_40 ⟨Nat.le_refl _, Nat.le_refl _⟩)) (fun r_ h_ => ?_)
        subst h_
        exact xret_i (V := nI (runN w a (b + 1))) hF hret hlocks (by unfold runA mg; rw [c_8, c_19, if_pos (show (true && true) = true from rfl), if_neg (nI_nlt c_26 (by omega)), if_neg (by decide), nI_clamp (by omega), nI_clamp (by omega)]) dX3_run_43
      · refine lv_bipush hx hb (v := (-2)) dX3_run_29 (by decide) ?_
        refine lv_goto (tgt := 43) hx hb dX3_run_31 (by decide) ?_
        exact xret_i (V := (-2)) hF hret hlocks (by unfold runA mg; rw [c_8, c_19, if_pos (show (true && true) = true from rfl), if_pos (nI_lt c_26 (by omega))]; rfl) dX3_run_43
    · refine lv_iconst hx hb (v := (-1)) dX3_run_22 (by decide) ?_
      exact xret_i (V := (-1)) hF hret hlocks (by unfold runA mg; rw [c_19, Bool.and_false]; rfl) dX3_run_23
set_option maxHeartbeats 4000000 in
set_option maxRecDepth 100000 in
theorem c_X3_wouldChange (l : Launch) (g : XG) (dd bo ho xo ta ao ae ac au : Nat) (zk : Bool) (fe fc fs w : Nat → Int32) (hW : WF w) (hR : LR fe fc fs w) (x y z : Int32) : Met l yX3_wouldChange (ww yX3_wouldChange cX3_wouldChange 4 (some .int)) (rmD 6) (xP g [.ref dd, .int (x), .int (y), .int (z)] (fun H => va_P g.1 vwCl ((dd, .inr (3, [.ref ao, .ref bo, .int (xz zk), .ref ho, .ref xo, .ref ta])) :: LogC g ao ae ac au fe fc fs w) H)) (vp_Si (fun r9 => r9 = wldA2 w x y z)) 0 0 (fun _ => False) := by
  refine xMet (by decide) rfl (Nat.le_of_ble_eq_true rfl) ?_
  intro p e s m below meth c ls hF hZ hh hret hlocks hin hl
  have hx := hF.1.1
  have hb := hF.1.2.1
  have hP := hh
  have hP : va_P g.1 vwCl ((dd, .inr (3, [.ref ao, .ref bo, .int (xz zk), .ref ho, .ref xo, .ref ta])) :: LogC g ao ae ac au fe fc fs w) s.heap := hP
  have hl : lv_has ls 4 [(0, .ref dd), (1, .int (x)), (2, .int (y)), (3, .int (z))] := hl
  have h48 := hW.n48
  have hp4 := hW.pg4
  have hp12 := hW.pg12
  have hs1 := hW.st1
  have hw2 := hW.wr2
  have hw6 := hW.wr6
  refine lv_aload_n hx hb dX3_wouldChange_0 rfl (lv_at hl 0 rfl) ?_
  refine gf_X3_X3_log hF hP 0 rfl rfl dX3_wouldChange_1 ?_
  refine lv_iload_n hx hb dX3_wouldChange_4 rfl (lv_at hl 1 rfl) ?_
  refine lv_iload_n hx hb dX3_wouldChange_5 rfl (lv_at hl 2 rfl) ?_
  refine vp_callSi (va_Run.run (xrVN hF (c_X1_isCell l g ao ae ac au fe fc fs w hW hR ((x)) ((y)) ) cal_X1_isCell n_17 ⟨by decide, by decide⟩ rfl rfl rfl (va_recv hF.2.1 hP (ci := 1) (q0 := 1) rfl rfl) hZ (hP.sub [1, 2, 3, 4] rfl) hl.1 rfl (Nat.le_of_ble_eq_true rfl) dX3_wouldChange_6 ⟨Nat.le_refl _, Nat.le_refl _⟩)) (fun r_ h_ => ?_)
  subst h_
  refine xZ_ne (tgt := 14) hx hb dX3_wouldChange_9 (by decide) (fun c_9 => ?_) (fun c_9 => ?_)
  · obtain ⟨q1, q2⟩ := Bool.and_eq_true_iff.mp c_9
    obtain ⟨r, hr, rfl⟩ := (rowB_iff hW).mp q1
    obtain ⟨k, hk, rfl⟩ := colB_iff.mp q2
    have er : (nI r).toNatClampNeg = r := nI_clamp (by omega)
    have ek : (nI k).toNatClampNeg = k := nI_clamp (by omega)
    have hc4 := hW.c4 (i := 4 * r + k) (by omega)
    have hc1 := hW.c1 (i := 4 * r + k) (by omega)
    refine lv_iload_n hx hb dX3_wouldChange_14 rfl (lv_at hl 2 rfl) ?_
    refine lv_iload_n hx hb dX3_wouldChange_15 rfl (lv_at hl 3 rfl) ?_
    refine vp_callSi (va_Run.run (xrS hF (c_X3_isEntry l g k ((z)) (by omega)) cal_X3_isEntry q_71 ⟨by decide, by decide⟩ rfl rfl rfl hZ (trivial) hl.1 rfl (Nat.le_of_ble_eq_true rfl) dX3_wouldChange_16 ⟨Nat.le_refl _, Nat.le_refl _⟩)) (fun r_ h_ => ?_)
    subst h_
    refine xZ_eq (tgt := 35) hx hb dX3_wouldChange_19 (by decide) (fun c_19 => ?_) (fun c_19 => ?_)
    · refine lv_bipush hx hb (v := (-2)) dX3_wouldChange_35 (by decide) ?_
      exact xret_i (V := (-2)) hF hret hlocks (by unfold wldA2; rw [if_pos c_9, ek, c_19]; rfl) dX3_wouldChange_37
    · refine lv_aload_n hx hb dX3_wouldChange_22 rfl (lv_at hl 0 rfl) ?_
      refine gf_X3_X3_log hF hP 0 rfl rfl dX3_wouldChange_23 ?_
      refine lv_iload_n hx hb dX3_wouldChange_26 rfl (lv_at hl 1 rfl) ?_
      refine lv_iload_n hx hb dX3_wouldChange_27 rfl (lv_at hl 2 rfl) ?_
      refine lv_iload_n hx hb dX3_wouldChange_28 rfl (lv_at hl 3 rfl) ?_
      refine vp_callSi (va_Run.run (xrVN hF (c_X1_changedBy l g ao ae ac au fe fc fs w hW hR r k (by omega) (by omega) ((z))) cal_X1_changedBy n_22 ⟨by decide, by decide⟩ rfl rfl rfl (va_recv hF.2.1 hP (ci := 1) (q0 := 1) rfl rfl) hZ (hP.sub [1, 2, 3, 4] rfl) hl.1 rfl (Nat.le_of_ble_eq_true rfl) dX3_wouldChange_29 ⟨Nat.le_refl _, Nat.le_refl _⟩)) (fun r_ h_ => ?_)
      subst h_
      refine lv_goto (tgt := 37) hx hb dX3_wouldChange_32 (by decide) ?_
      exact xret_i (V := nI (chg w r k ((z)))) hF hret hlocks (by unfold wldA2; rw [if_pos c_9, ek, if_pos c_19, er]) dX3_wouldChange_37
  · refine lv_iconst hx hb (v := (-1)) dX3_wouldChange_12 (by decide) ?_
    exact xret_i (V := (-1)) hF hret hlocks (by unfold wldA2; rw [c_9]; rfl) dX3_wouldChange_13
set_option maxHeartbeats 4000000 in
set_option maxRecDepth 100000 in
theorem c_X3_dittos (l : Launch) (g : XG) (dd bo ho xo ta ao ae ac au : Nat) (zk : Bool) (fe fc fs w : Nat → Int32) (hW : WF w) (hR : LR fe fc fs w)  : Met l yX3_dittos (ww yX3_dittos cX3_dittos 3 (some .int)) (rmD 2) (xP g [.ref dd] (fun H => va_P g.1 vwCl ((dd, .inr (3, [.ref ao, .ref bo, .int (xz zk), .ref ho, .ref xo, .ref ta])) :: LogC g ao ae ac au fe fc fs w) H)) (vp_Si (fun r9 => r9 = nI (smR (ovF w 0) 0 4))) 0 0 (fun _ => False) := by
  refine xMet (by decide) rfl (Nat.le_of_ble_eq_true rfl) ?_
  intro p e s m below meth c ls hF hZ hh hret hlocks hin hl
  have hx := hF.1.1
  have hb := hF.1.2.1
  have hP := hh
  have hP : va_P g.1 vwCl ((dd, .inr (3, [.ref ao, .ref bo, .int (xz zk), .ref ho, .ref xo, .ref ta])) :: LogC g ao ae ac au fe fc fs w) s.heap := hP
  have hl : lv_has ls 3 [(0, .ref dd)] := hl
  have h48 := hW.n48
  have hp4 := hW.pg4
  have hp12 := hW.pg12
  have hs1 := hW.st1
  have hw2 := hW.wr2
  have hw6 := hW.wr6
  refine xN_const hx hb 0 dX3_dittos_0 (by decide) ?_
  refine lv_istore_n (lv' := [(1, .int (nI 0)), (0, .ref dd)]) hx hb dX3_dittos_1 rfl hl (by decide) rfl (fun ls hl => ?_)
  refine xN_const hx hb 0 dX3_dittos_2 (by decide) ?_
  refine lv_istore_n (lv' := [(2, .int (nI 0)), (1, .int (nI 0)), (0, .ref dd)]) hx hb dX3_dittos_3 rfl hl (by decide) rfl (fun ls hl => ?_)
  refine xloop (goal := fun ls => W p l e _ s m _ below meth c s.heap [] _ _ _ (F0 m _ ls [])) (fun (z_ : Nat × Nat) (ls : Array Slot) => match z_ with | (f, i) => (i ≤ 4) ∧ (f = smR (ovF w 0) 0 i) ∧ lv_has ls 3 [(0, .ref dd), (1, .int (nI f)), (2, .int (nI i))]) (fun (z_ : Nat × Nat) => match z_ with | (f, i) => 4 - i) ?_ (0, 0) ls ⟨by omega, rfl, lv_sub hl [2, 1, 0] rfl⟩
  rintro ⟨f, i⟩ ls ⟨I1, I2, hl⟩ ih
  have hf := smR_ov_le hW 0 i I1
  refine lv_iload_n hx hb dX3_dittos_4 rfl (lv_at hl 2 rfl) ?_
  refine xN_const hx hb 4 dX3_dittos_5 (by decide) ?_
  refine xC_ge (tgt := 28) hx hb (by omega) (by omega) dX3_dittos_6 (by decide) (fun c_6 => ?_) (fun c_6 => ?_)
  · refine lv_iload_n hx hb dX3_dittos_28 rfl (lv_at hl 1 rfl) ?_
    exact xret_i (V := nI (f)) hF hret hlocks (by rw [I2, show i = 4 by omega]) dX3_dittos_29
  · refine lv_iload_n hx hb dX3_dittos_9 rfl (lv_at hl 1 rfl) ?_
    refine lv_aload_n hx hb dX3_dittos_10 rfl (lv_at hl 0 rfl) ?_
    refine gf_X3_X3_log hF hP 0 rfl rfl dX3_dittos_11 ?_
    refine lv_iload_n hx hb dX3_dittos_14 rfl (lv_at hl 2 rfl) ?_
    refine lv_bipush hx hb (v := (-6)) dX3_dittos_15 (by decide) ?_
    refine vp_callSi (va_Run.run (xrVN hF (c_X1_countLatest l g ao ae ac au fe fc fs w hW hR i (by omega) ((-6))) cal_X1_countLatest n_40 ⟨by decide, by decide⟩ rfl rfl rfl (va_recv hF.2.1 hP (ci := 1) (q0 := 1) rfl rfl) hZ (hP.sub [1, 2, 3, 4] rfl) hl.1 rfl (Nat.le_of_ble_eq_true rfl) dX3_dittos_17 ⟨Nat.le_refl _, Nat.le_refl _⟩)) (fun r_ h_ => ?_)
    subst h_
    rw [show (nI (ctR (fun i9 => lat w i9 i == ((-6))) 0 (nr w)) : Int32) = nI (ovF w 0 i) from rfl]
    refine xN_add hx hb dX3_dittos_20 ?_
    refine lv_istore_n (lv' := [(1, .int (nI (f + (ovF w 0 i)))), (0, .ref dd), (2, .int (nI i))]) hx hb dX3_dittos_21 rfl hl (by decide) rfl (fun ls hl => ?_)
    refine xN_inc (lv' := [(2, .int (nI (i + 1))), (1, .int (nI (f + (ovF w 0 i)))), (0, .ref dd)]) hx hb 1 dX3_dittos_22 hl (k := 2) rfl (by decide) (by decide) rfl (fun ls hl => ?_)
    refine lv_goto (tgt := 4) hx hb dX3_dittos_25 (by decide) ?_
    exact ih (f + (ovF w 0 i), i + 1) ls ⟨by omega, by rw [I2, smR, Nat.zero_add], lv_sub hl [2, 1, 0] rfl⟩ (by dsimp only; omega)
set_option maxHeartbeats 4000000 in
set_option maxRecDepth 100000 in
theorem c_X3_corrections (l : Launch) (g : XG) (dd bo ho xo ta ao ae ac au : Nat) (zk : Bool) (fe fc fs w : Nat → Int32) (hW : WF w) (hR : LR fe fc fs w)  : Met l yX3_corrections (ww yX3_corrections cX3_corrections 3 (some .int)) (rmD 3) (xP g [.ref dd] (fun H => va_P g.1 vwCl ((dd, .inr (3, [.ref ao, .ref bo, .int (xz zk), .ref ho, .ref xo, .ref ta])) :: LogC g ao ae ac au fe fc fs w) H)) (vp_Si (fun r9 => r9 = nI (smR (ovF w 2) 0 4))) 0 0 (fun _ => False) := by
  refine xMet (by decide) rfl (Nat.le_of_ble_eq_true rfl) ?_
  intro p e s m below meth c ls hF hZ hh hret hlocks hin hl
  have hx := hF.1.1
  have hb := hF.1.2.1
  have hP := hh
  have hP : va_P g.1 vwCl ((dd, .inr (3, [.ref ao, .ref bo, .int (xz zk), .ref ho, .ref xo, .ref ta])) :: LogC g ao ae ac au fe fc fs w) s.heap := hP
  have hl : lv_has ls 3 [(0, .ref dd)] := hl
  have h48 := hW.n48
  have hp4 := hW.pg4
  have hp12 := hW.pg12
  have hs1 := hW.st1
  have hw2 := hW.wr2
  have hw6 := hW.wr6
  refine xN_const hx hb 0 dX3_corrections_0 (by decide) ?_
  refine lv_istore_n (lv' := [(1, .int (nI 0)), (0, .ref dd)]) hx hb dX3_corrections_1 rfl hl (by decide) rfl (fun ls hl => ?_)
  refine xN_const hx hb 0 dX3_corrections_2 (by decide) ?_
  refine lv_istore_n (lv' := [(2, .int (nI 0)), (1, .int (nI 0)), (0, .ref dd)]) hx hb dX3_corrections_3 rfl hl (by decide) rfl (fun ls hl => ?_)
  refine xloop (goal := fun ls => W p l e _ s m _ below meth c s.heap [] _ _ _ (F0 m _ ls [])) (fun (z_ : Nat × Nat) (ls : Array Slot) => match z_ with | (f, i) => (i ≤ 4) ∧ (f = smR (ovF w 2) 0 i) ∧ lv_has ls 3 [(0, .ref dd), (1, .int (nI f)), (2, .int (nI i))]) (fun (z_ : Nat × Nat) => match z_ with | (f, i) => 4 - i) ?_ (0, 0) ls ⟨by omega, rfl, lv_sub hl [2, 1, 0] rfl⟩
  rintro ⟨f, i⟩ ls ⟨I1, I2, hl⟩ ih
  have hf := smR_ov_le hW 2 i I1
  refine lv_iload_n hx hb dX3_corrections_4 rfl (lv_at hl 2 rfl) ?_
  refine xN_const hx hb 4 dX3_corrections_5 (by decide) ?_
  refine xC_ge (tgt := 26) hx hb (by omega) (by omega) dX3_corrections_6 (by decide) (fun c_6 => ?_) (fun c_6 => ?_)
  · refine lv_iload_n hx hb dX3_corrections_26 rfl (lv_at hl 1 rfl) ?_
    exact xret_i (V := nI (f)) hF hret hlocks (by rw [I2, show i = 4 by omega]) dX3_corrections_27
  · refine lv_iload_n hx hb dX3_corrections_9 rfl (lv_at hl 1 rfl) ?_
    refine lv_aload_n hx hb dX3_corrections_10 rfl (lv_at hl 0 rfl) ?_
    refine gf_X3_X3_log hF hP 0 rfl rfl dX3_corrections_11 ?_
    refine lv_iload_n hx hb dX3_corrections_14 rfl (lv_at hl 2 rfl) ?_
    refine vp_callSi (va_Run.run (xrVN hF (c_X1_countCorrections l g ao ae ac au fe fc fs w hW hR i (by omega)) cal_X1_countCorrections n_41 ⟨by decide, by decide⟩ rfl rfl rfl (va_recv hF.2.1 hP (ci := 1) (q0 := 1) rfl rfl) hZ (hP.sub [1, 2, 3, 4] rfl) hl.1 rfl (Nat.le_of_ble_eq_true rfl) dX3_corrections_15 ⟨Nat.le_refl _, Nat.le_refl _⟩)) (fun r_ h_ => ?_)
    subst h_
    rw [show (nI (smR (fun i9 => cnt w (4 * i9 + i) - 1) 0 (nr w)) : Int32) = nI (ovF w 2 i) from rfl]
    refine xN_add hx hb dX3_corrections_18 ?_
    refine lv_istore_n (lv' := [(1, .int (nI (f + (ovF w 2 i)))), (0, .ref dd), (2, .int (nI i))]) hx hb dX3_corrections_19 rfl hl (by decide) rfl (fun ls hl => ?_)
    refine xN_inc (lv' := [(2, .int (nI (i + 1))), (1, .int (nI (f + (ovF w 2 i)))), (0, .ref dd)]) hx hb 1 dX3_corrections_20 hl (k := 2) rfl (by decide) (by decide) rfl (fun ls hl => ?_)
    refine lv_goto (tgt := 4) hx hb dX3_corrections_23 (by decide) ?_
    exact ih (f + (ovF w 2 i), i + 1) ls ⟨by omega, by rw [I2, smR, Nat.zero_add], lv_sub hl [2, 1, 0] rfl⟩ (by dsimp only; omega)
set_option maxHeartbeats 4000000 in
set_option maxRecDepth 100000 in
theorem c_X3_doubtfulCells (l : Launch) (g : XG) (dd bo ho xo ta ao ae ac au : Nat) (zk : Bool) (fe fc fs w : Nat → Int32) (hW : WF w) (hR : LR fe fc fs w) (a b : Nat) (hab : a ≤ b) (hb : b ≤ nr w) : Met l yX3_doubtfulCells (ww yX3_doubtfulCells cX3_doubtfulCells 5 (some .int)) (rmD 5) (xP g [.ref dd, .int (nI a), .int (nI (b) - nI 1)] (fun H => va_P g.1 vwCl ((dd, .inr (3, [.ref ao, .ref bo, .int (xz zk), .ref ho, .ref xo, .ref ta])) :: LogC g ao ae ac au fe fc fs w) H)) (vp_Si (fun r9 => r9 = nI (idN w a b 4))) 0 0 (fun _ => False) := by
  refine xMet (by decide) rfl (Nat.le_of_ble_eq_true rfl) ?_
  intro p e s m below meth c ls hF hZ hh hret hlocks hin hl
  have hx := hF.1.1
  have hb := hF.1.2.1
  have hP := hh
  have hP : va_P g.1 vwCl ((dd, .inr (3, [.ref ao, .ref bo, .int (xz zk), .ref ho, .ref xo, .ref ta])) :: LogC g ao ae ac au fe fc fs w) s.heap := hP
  have hl : lv_has ls 5 [(0, .ref dd), (1, .int (nI a)), (2, .int (nI (b) - nI 1))] := hl
  have h48 := hW.n48
  have hp4 := hW.pg4
  have hp12 := hW.pg12
  have hs1 := hW.st1
  have hw2 := hW.wr2
  have hw6 := hW.wr6
  refine xN_const hx hb 0 dX3_doubtfulCells_0 (by decide) ?_
  refine lv_istore_n (lv' := [(3, .int (nI 0)), (0, .ref dd), (1, .int (nI a)), (2, .int (nI (b) - nI 1))]) hx hb dX3_doubtfulCells_1 rfl hl (by decide) rfl (fun ls hl => ?_)
  refine xN_const hx hb 0 dX3_doubtfulCells_2 (by decide) ?_
  refine lv_istore (lv' := [(4, .int (nI 0)), (3, .int (nI 0)), (0, .ref dd), (1, .int (nI a)), (2, .int (nI (b) - nI 1))]) hx hb dX3_doubtfulCells_3 hl (by decide) rfl (fun ls hl => ?_)
  refine xloop (goal := fun ls => W p l e _ s m _ below meth c s.heap [] _ _ _ (F0 m _ ls [])) (fun (z_ : Nat × Nat) (ls : Array Slot) => match z_ with | (f, i) => (i ≤ 4) ∧ (f = idN w a b i) ∧ lv_has ls 5 [(0, .ref dd), (1, .int (nI a)), (2, .int (nI (b) - nI 1)), (3, .int (nI f)), (4, .int (nI i))]) (fun (z_ : Nat × Nat) => match z_ with | (f, i) => 4 - i) ?_ (0, 0) ls ⟨by omega, rfl, lv_sub hl [2, 3, 4, 1, 0] rfl⟩
  rintro ⟨f, i⟩ ls ⟨I1, I2, hl⟩ ih
  refine lv_iload hx hb dX3_doubtfulCells_5 (lv_at hl 4 rfl) ?_
  refine xN_const hx hb 4 dX3_doubtfulCells_7 (by decide) ?_
  refine xC_ge (tgt := 31) hx hb (by omega) (by omega) dX3_doubtfulCells_8 (by decide) (fun c_8 => ?_) (fun c_8 => ?_)
  · refine lv_iload_n hx hb dX3_doubtfulCells_31 rfl (lv_at hl 3 rfl) ?_
    exact xret_i (V := nI (f)) hF hret hlocks (by rw [I2, show i = 4 by omega]) dX3_doubtfulCells_32
  · refine lv_iload_n hx hb dX3_doubtfulCells_11 rfl (lv_at hl 3 rfl) ?_
    refine lv_aload_n hx hb dX3_doubtfulCells_12 rfl (lv_at hl 0 rfl) ?_
    refine gf_X3_X3_log hF hP 0 rfl rfl dX3_doubtfulCells_13 ?_
    refine lv_iload hx hb dX3_doubtfulCells_16 (lv_at hl 4 rfl) ?_
    refine lv_iload_n hx hb dX3_doubtfulCells_18 rfl (lv_at hl 1 rfl) ?_
    refine lv_iload_n hx hb dX3_doubtfulCells_19 rfl (lv_at hl 2 rfl) ?_
    refine vp_callSi (va_Run.run (xrVN hF (c_X1_countDoubtful l g ao ae ac au fe fc fs w hW hR i (by omega) a b (by omega) (by omega)) cal_X1_countDoubtful n_44 ⟨by decide, by decide⟩ rfl rfl rfl (va_recv hF.2.1 hP (ci := 1) (q0 := 1) rfl rfl) hZ (hP.sub [1, 2, 3, 4] rfl) hl.1 rfl (Nat.le_of_ble_eq_true rfl) dX3_doubtfulCells_20 ⟨Nat.le_refl _, Nat.le_refl _⟩)) (fun r_ h_ => ?_)
    subst h_
    refine xN_add hx hb dX3_doubtfulCells_23 ?_
    refine lv_istore_n (lv' := [(3, .int (nI (f + (ctR (fun i9 => dbt w i9 i) a (b - a))))), (0, .ref dd), (1, .int (nI a)), (2, .int (nI (b) - nI 1)), (4, .int (nI i))]) hx hb dX3_doubtfulCells_24 rfl hl (by decide) rfl (fun ls hl => ?_)
    refine xN_inc (lv' := [(4, .int (nI (i + 1))), (3, .int (nI (f + (ctR (fun i9 => dbt w i9 i) a (b - a))))), (0, .ref dd), (1, .int (nI a)), (2, .int (nI (b) - nI 1))]) hx hb 1 dX3_doubtfulCells_25 hl (k := 4) rfl (by decide) (by decide) rfl (fun ls hl => ?_)
    refine lv_goto (tgt := 5) hx hb dX3_doubtfulCells_28 (by decide) ?_
    exact ih (f + (ctR (fun i9 => dbt w i9 i) a (b - a)), i + 1) ls ⟨by omega, by rw [I2, idN], lv_sub hl [2, 3, 4, 1, 0] rfl⟩ (by dsimp only; omega)
set_option maxHeartbeats 4000000 in
set_option maxRecDepth 100000 in
theorem c_X3_count (l : Launch) (g : XG) (dd bo ho xo ta ao ae ac au : Nat) (zk : Bool) (fe fc fs w : Nat → Int32) (hW : WF w) (hR : LR fe fc fs w) (ha zo zh xc xl xn xr : Nat) (z : Int32) : Met l yX3_count (ww yX3_count cX3_count 2 (some .int)) (rmD 6) (xP g [.ref dd, .int (z)] (fun H => va_P g.1 vwCl ((dd, .inr (3, [.ref ao, .ref bo, .int (xz zk), .ref ho, .ref xo, .ref ta])) :: (ho, .inr (0, [.ref ha, .int (nI zo), .int (nI zh)])) :: (xo, .inr (2, [.ref xc, .ref xl, .int (nI xn), .int (nI xr)])) :: LogC g ao ae ac au fe fc fs w) H)) (vp_Si (fun r9 => r9 = countA w zh xn z)) 0 0 (fun _ => False) := by
  refine xMet (by decide) rfl (Nat.le_of_ble_eq_true rfl) ?_
  intro p e s m below meth c ls hF hZ hh hret hlocks hin hl
  have hx := hF.1.1
  have hb := hF.1.2.1
  have hP := hh
  have hP : va_P g.1 vwCl ((dd, .inr (3, [.ref ao, .ref bo, .int (xz zk), .ref ho, .ref xo, .ref ta])) :: (ho, .inr (0, [.ref ha, .int (nI zo), .int (nI zh)])) :: (xo, .inr (2, [.ref xc, .ref xl, .int (nI xn), .int (nI xr)])) :: LogC g ao ae ac au fe fc fs w) s.heap := hP
  have hl : lv_has ls 2 [(0, .ref dd), (1, .int (z))] := hl
  have h48 := hW.n48
  have hp4 := hW.pg4
  have hp12 := hW.pg12
  have hs1 := hW.st1
  have hw2 := hW.wr2
  have hw6 := hW.wr6
  refine lv_iload_n hx hb dX3_count_0 rfl (lv_at hl 1 rfl) ?_
  by_cases w_1_0 : (z) = 0
  · refine lv_tableIn (off := 63) (tgt := 64) hx hb dX3_count_1 (by rw [w_1_0]; decide) (by rw [w_1_0]; decide) (by rw [w_1_0]; rfl) (by decide) ?_
    refine lv_aload_n hx hb dX3_count_64 rfl (lv_at hl 0 rfl) ?_
    refine gf_X3_X3_log hF hP 0 rfl rfl dX3_count_65 ?_
    refine gf_X3_X1_rows hF hP 3 rfl rfl dX3_count_68 ?_
    exact xret_i (V := nI (nr w)) hF hret hlocks (by unfold countA; rw [if_pos w_1_0]) dX3_count_71
  by_cases w_1_1 : (z) = 1
  · refine lv_tableIn (off := 71) (tgt := 72) hx hb dX3_count_1 (by rw [w_1_1]; decide) (by rw [w_1_1]; decide) (by rw [w_1_1]; rfl) (by decide) ?_
    refine lv_aload_n hx hb dX3_count_72 rfl (lv_at hl 0 rfl) ?_
    refine vp_callSi (va_Run.run (xrV hF (c_X3_dittos l g dd bo ho xo ta ao ae ac au zk fe fc fs w hW hR  ) cal_X3_dittos q_646 ⟨by decide, by decide⟩ rfl rfl rfl (va_recv hF.2.1 hP (ci := 3) (q0 := 0) rfl rfl) hZ (hP.sub [0, 3, 4, 5, 6] rfl) hl.1 rfl (Nat.le_of_ble_eq_true rfl) dX3_count_73 ⟨Nat.le_refl _, Nat.le_refl _⟩)) (fun r_ h_ => ?_)
    subst h_
    exact xret_i (V := nI (smR (ovF w 0) 0 4)) hF hret hlocks (by unfold countA; rw [if_neg w_1_0, if_pos w_1_1]) dX3_count_76
  by_cases w_1_2 : (z) = 2
  · refine lv_tableIn (off := 76) (tgt := 77) hx hb dX3_count_1 (by rw [w_1_2]; decide) (by rw [w_1_2]; decide) (by rw [w_1_2]; rfl) (by decide) ?_
    refine lv_aload_n hx hb dX3_count_77 rfl (lv_at hl 0 rfl) ?_
    refine vp_callSi (va_Run.run (xrV hF (c_X3_corrections l g dd bo ho xo ta ao ae ac au zk fe fc fs w hW hR  ) cal_X3_corrections q_650 ⟨by decide, by decide⟩ rfl rfl rfl (va_recv hF.2.1 hP (ci := 3) (q0 := 0) rfl rfl) hZ (hP.sub [0, 3, 4, 5, 6] rfl) hl.1 rfl (Nat.le_of_ble_eq_true rfl) dX3_count_78 ⟨Nat.le_refl _, Nat.le_refl _⟩)) (fun r_ h_ => ?_)
    subst h_
    exact xret_i (V := nI (smR (ovF w 2) 0 4)) hF hret hlocks (by unfold countA; rw [if_neg w_1_0, if_neg w_1_1, if_pos w_1_2]) dX3_count_81
  by_cases w_1_3 : (z) = 3
  · refine lv_tableIn (off := 81) (tgt := 82) hx hb dX3_count_1 (by rw [w_1_3]; decide) (by rw [w_1_3]; decide) (by rw [w_1_3]; rfl) (by decide) ?_
    refine lv_aload_n hx hb dX3_count_82 rfl (lv_at hl 0 rfl) ?_
    refine xN_const hx hb 0 dX3_count_83 (by decide) ?_
    refine lv_aload_n hx hb dX3_count_84 rfl (lv_at hl 0 rfl) ?_
    refine gf_X3_X3_log hF hP 0 rfl rfl dX3_count_85 ?_
    refine gf_X3_X1_rows hF hP 3 rfl rfl dX3_count_88 ?_
    refine xN_const hx hb 1 dX3_count_91 (by decide) ?_
    refine lv_isub hx hb dX3_count_92 ?_
    refine vp_callSi (va_Run.run (xrV hF (c_X3_doubtfulCells l g dd bo ho xo ta ao ae ac au zk fe fc fs w hW hR 0 (nr w) (by omega) (by omega)) cal_X3_doubtfulCells q_528 ⟨by decide, by decide⟩ rfl rfl rfl (va_recv hF.2.1 hP (ci := 3) (q0 := 0) rfl rfl) hZ (hP.sub [0, 3, 4, 5, 6] rfl) hl.1 rfl (Nat.le_of_ble_eq_true rfl) dX3_count_93 ⟨Nat.le_refl _, Nat.le_refl _⟩)) (fun r_ h_ => ?_)
    subst h_
    rw [show (nI (idN w 0 (nr w) 4) : Int32) = nI (smR (ovF w 6) 0 4) from congrArg nI (idN_ov w)]
    exact xret_i (V := nI (smR (ovF w 6) 0 4)) hF hret hlocks (by unfold countA; rw [if_neg w_1_0, if_neg w_1_1, if_neg w_1_2, if_pos w_1_3]) dX3_count_96
  by_cases w_1_4 : (z) = 4
  · refine lv_tableIn (off := 96) (tgt := 97) hx hb dX3_count_1 (by rw [w_1_4]; decide) (by rw [w_1_4]; decide) (by rw [w_1_4]; rfl) (by decide) ?_
    refine lv_aload_n hx hb dX3_count_97 rfl (lv_at hl 0 rfl) ?_
    refine gf_X3_X3_log hF hP 0 rfl rfl dX3_count_98 ?_
    refine vp_callSi (va_Run.run (xrVN hF (c_X1_countWrittenOut l g ao ae ac au fe fc fs w hW hR  ) cal_X1_countWrittenOut n_52 ⟨by decide, by decide⟩ rfl rfl rfl (va_recv hF.2.1 hP (ci := 1) (q0 := 3) rfl rfl) hZ (hP.sub [3, 4, 5, 6] rfl) hl.1 rfl (Nat.le_of_ble_eq_true rfl) dX3_count_101 ⟨Nat.le_refl _, Nat.le_refl _⟩)) (fun r_ h_ => ?_)
    subst h_
    exact xret_i (V := nI (ctR (wrB w) 0 (nr w))) hF hret hlocks (by unfold countA; rw [if_neg w_1_0, if_neg w_1_1, if_neg w_1_2, if_neg w_1_3, if_pos w_1_4]) dX3_count_104
  by_cases w_1_5 : (z) = 5
  · refine lv_tableIn (off := 104) (tgt := 105) hx hb dX3_count_1 (by rw [w_1_5]; decide) (by rw [w_1_5]; decide) (by rw [w_1_5]; rfl) (by decide) ?_
    refine lv_aload_n hx hb dX3_count_105 rfl (lv_at hl 0 rfl) ?_
    refine gf_X3_X3_log hF hP 0 rfl rfl dX3_count_106 ?_
    refine vp_callSi (va_Run.run (xrVN hF (c_X1_watches l g ao ae ac au fe fc fs w hW hR  ) cal_X1_watches n_45 ⟨by decide, by decide⟩ rfl rfl rfl (va_recv hF.2.1 hP (ci := 1) (q0 := 3) rfl rfl) hZ (hP.sub [3, 4, 5, 6] rfl) hl.1 rfl (Nat.le_of_ble_eq_true rfl) dX3_count_109 ⟨Nat.le_refl _, Nat.le_refl _⟩)) (fun r_ h_ => ?_)
    subst h_
    exact xret_i (V := nI (wcs w)) hF hret hlocks (by unfold countA; rw [if_neg w_1_0, if_neg w_1_1, if_neg w_1_2, if_neg w_1_3, if_neg w_1_4, if_pos w_1_5]) dX3_count_112
  by_cases w_1_6 : (z) = 6
  · refine lv_tableIn (off := 112) (tgt := 113) hx hb dX3_count_1 (by rw [w_1_6]; decide) (by rw [w_1_6]; decide) (by rw [w_1_6]; rfl) (by decide) ?_
    refine lv_aload_n hx hb dX3_count_113 rfl (lv_at hl 0 rfl) ?_
    refine gf_X3_X3_log hF hP 0 rfl rfl dX3_count_114 ?_
    refine vp_callSi (va_Run.run (xrVN hF (c_X1_countWrongSums l g ao ae ac au fe fc fs w hW hR  ) cal_X1_countWrongSums n_53 ⟨by decide, by decide⟩ rfl rfl rfl (va_recv hF.2.1 hP (ci := 1) (q0 := 3) rfl rfl) hZ (hP.sub [3, 4, 5, 6] rfl) hl.1 rfl (Nat.le_of_ble_eq_true rfl) dX3_count_117 ⟨Nat.le_refl _, Nat.le_refl _⟩)) (fun r_ h_ => ?_)
    subst h_
    exact xret_i (V := nI (ctR (wrgB w) 0 (wcs w))) hF hret hlocks (by unfold countA; rw [if_neg w_1_0, if_neg w_1_1, if_neg w_1_2, if_neg w_1_3, if_neg w_1_4, if_neg w_1_5, if_pos w_1_6]) dX3_count_120
  by_cases w_1_7 : (z) = 7
  · refine lv_tableIn (off := 120) (tgt := 121) hx hb dX3_count_1 (by rw [w_1_7]; decide) (by rw [w_1_7]; decide) (by rw [w_1_7]; rfl) (by decide) ?_
    refine lv_aload_n hx hb dX3_count_121 rfl (lv_at hl 0 rfl) ?_
    refine gf_X3_X3_log hF hP 0 rfl rfl dX3_count_122 ?_
    refine xN_const hx hb 0 dX3_count_125 (by decide) ?_
    refine vp_callSi (va_Run.run (xrVN hF (c_X1_settingOf l g ao ae ac au fe fc fs w hW hR 0 (by omega)) cal_X1_settingOf n_28 ⟨by decide, by decide⟩ rfl rfl rfl (va_recv hF.2.1 hP (ci := 1) (q0 := 3) rfl rfl) hZ (hP.sub [3, 4, 5, 6] rfl) hl.1 rfl (Nat.le_of_ble_eq_true rfl) dX3_count_126 ⟨Nat.le_refl _, Nat.le_refl _⟩)) (fun r_ h_ => ?_)
    subst h_
    rw [show (nI (stg w 0) : Int32) = nI (pgN w) from rfl]
    exact xret_i (V := nI (pgN w)) hF hret hlocks (by unfold countA; rw [if_neg w_1_0, if_neg w_1_1, if_neg w_1_2, if_neg w_1_3, if_neg w_1_4, if_neg w_1_5, if_neg w_1_6, if_pos w_1_7]) dX3_count_129
  by_cases w_1_8 : (z) = 8
  · refine lv_tableIn (off := 129) (tgt := 130) hx hb dX3_count_1 (by rw [w_1_8]; decide) (by rw [w_1_8]; decide) (by rw [w_1_8]; rfl) (by decide) ?_
    refine lv_aload_n hx hb dX3_count_130 rfl (lv_at hl 0 rfl) ?_
    refine gf_X3_X3_log hF hP 0 rfl rfl dX3_count_131 ?_
    refine xN_const hx hb 1 dX3_count_134 (by decide) ?_
    refine vp_callSi (va_Run.run (xrVN hF (c_X1_settingOf l g ao ae ac au fe fc fs w hW hR 1 (by omega)) cal_X1_settingOf n_28 ⟨by decide, by decide⟩ rfl rfl rfl (va_recv hF.2.1 hP (ci := 1) (q0 := 3) rfl rfl) hZ (hP.sub [3, 4, 5, 6] rfl) hl.1 rfl (Nat.le_of_ble_eq_true rfl) dX3_count_135 ⟨Nat.le_refl _, Nat.le_refl _⟩)) (fun r_ h_ => ?_)
    subst h_
    rw [show (nI (stg w 1) : Int32) = nI (stN w) from rfl]
    exact xret_i (V := nI (stN w)) hF hret hlocks (by unfold countA; rw [if_neg w_1_0, if_neg w_1_1, if_neg w_1_2, if_neg w_1_3, if_neg w_1_4, if_neg w_1_5, if_neg w_1_6, if_neg w_1_7, if_pos w_1_8]) dX3_count_138
  by_cases w_1_9 : (z) = 9
  · refine lv_tableIn (off := 138) (tgt := 139) hx hb dX3_count_1 (by rw [w_1_9]; decide) (by rw [w_1_9]; decide) (by rw [w_1_9]; rfl) (by decide) ?_
    refine lv_aload_n hx hb dX3_count_139 rfl (lv_at hl 0 rfl) ?_
    refine gf_X3_X3_log hF hP 0 rfl rfl dX3_count_140 ?_
    refine xN_const hx hb 2 dX3_count_143 (by decide) ?_
    refine vp_callSi (va_Run.run (xrVN hF (c_X1_settingOf l g ao ae ac au fe fc fs w hW hR 2 (by omega)) cal_X1_settingOf n_28 ⟨by decide, by decide⟩ rfl rfl rfl (va_recv hF.2.1 hP (ci := 1) (q0 := 3) rfl rfl) hZ (hP.sub [3, 4, 5, 6] rfl) hl.1 rfl (Nat.le_of_ble_eq_true rfl) dX3_count_144 ⟨Nat.le_refl _, Nat.le_refl _⟩)) (fun r_ h_ => ?_)
    subst h_
    rw [show (nI (stg w 2) : Int32) = nI (wrN w) from rfl]
    exact xret_i (V := nI (wrN w)) hF hret hlocks (by unfold countA; rw [if_neg w_1_0, if_neg w_1_1, if_neg w_1_2, if_neg w_1_3, if_neg w_1_4, if_neg w_1_5, if_neg w_1_6, if_neg w_1_7, if_neg w_1_8, if_pos w_1_9]) dX3_count_147
  by_cases w_1_10 : (z) = 10
  · refine lv_tableIn (off := 147) (tgt := 148) hx hb dX3_count_1 (by rw [w_1_10]; decide) (by rw [w_1_10]; decide) (by rw [w_1_10]; rfl) (by decide) ?_
    refine lv_aload_n hx hb dX3_count_148 rfl (lv_at hl 0 rfl) ?_
    refine gf_X3_X3_history hF hP 0 rfl rfl dX3_count_149 ?_
    refine gf_X3_X0_size hF hP 1 rfl rfl dX3_count_152 ?_
    exact xret_i (V := nI (zh)) hF hret hlocks (by unfold countA; rw [if_neg w_1_0, if_neg w_1_1, if_neg w_1_2, if_neg w_1_3, if_neg w_1_4, if_neg w_1_5, if_neg w_1_6, if_neg w_1_7, if_neg w_1_8, if_neg w_1_9, if_pos w_1_10]) dX3_count_155
  by_cases w_1_11 : (z) = 11
  · refine lv_tableIn (off := 155) (tgt := 156) hx hb dX3_count_1 (by rw [w_1_11]; decide) (by rw [w_1_11]; decide) (by rw [w_1_11]; rfl) (by decide) ?_
    refine lv_aload_n hx hb dX3_count_156 rfl (lv_at hl 0 rfl) ?_
    refine gf_X3_X3_text hF hP 0 rfl rfl dX3_count_157 ?_
    refine gf_X3_X2_length hF hP 2 rfl rfl dX3_count_160 ?_
    exact xret_i (V := nI (xn)) hF hret hlocks (by unfold countA; rw [if_neg w_1_0, if_neg w_1_1, if_neg w_1_2, if_neg w_1_3, if_neg w_1_4, if_neg w_1_5, if_neg w_1_6, if_neg w_1_7, if_neg w_1_8, if_neg w_1_9, if_neg w_1_10, if_pos w_1_11]) dX3_count_163
  refine lv_tableOut (tgt := 164) hx hb dX3_count_1 (by have a0 := lv_neT w_1_0 (a := 0) (by decide); have a1 := lv_neT w_1_1 (a := 1) (by decide); have a2 := lv_neT w_1_2 (a := 2) (by decide); have a3 := lv_neT w_1_3 (a := 3) (by decide); have a4 := lv_neT w_1_4 (a := 4) (by decide); have a5 := lv_neT w_1_5 (a := 5) (by decide); have a6 := lv_neT w_1_6 (a := 6) (by decide); have a7 := lv_neT w_1_7 (a := 7) (by decide); have a8 := lv_neT w_1_8 (a := 8) (by decide); have a9 := lv_neT w_1_9 (a := 9) (by decide); have a10 := lv_neT w_1_10 (a := 10) (by decide); have a11 := lv_neT w_1_11 (a := 11) (by decide); omega) (by decide) ?_
  refine lv_bipush hx hb (v := (-2)) dX3_count_164 (by decide) ?_
  exact xret_i (V := (-2)) hF hret hlocks (by unfold countA; rw [if_neg w_1_0, if_neg w_1_1, if_neg w_1_2, if_neg w_1_3, if_neg w_1_4, if_neg w_1_5, if_neg w_1_6, if_neg w_1_7, if_neg w_1_8, if_neg w_1_9, if_neg w_1_10, if_neg w_1_11]) dX3_count_166
