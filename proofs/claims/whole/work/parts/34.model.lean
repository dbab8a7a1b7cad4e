/-! the reference: columns, watches, counts -/
set_option maxHeartbeats 4000000 in
set_option maxRecDepth 100000 in
theorem c_X4_column (l : Launch) (g : XG) (mo mn mp mq mt mm md zs zl zp zr : Nat) (zk : Bool) (w : Nat → Int32) (hW : WF w) (x z : Int32) : Met l yX4_column (ww yX4_column cX4_column 4 (some .int)) (rmD 8) (xP g [.ref mo, .int (x), .int (z)] (fun H => va_P g.1 vwCl (ModC g mo mn mp mq mt mm md zs zl zp zr zk w) H)) (vp_Si (fun r9 => r9 = columnA w x z)) 0 0 (fun _ => False) := by
  refine xMet (by decide) rfl (Nat.le_of_ble_eq_true rfl) ?_
  intro p e s m below meth c ls hF hZ hh hret hlocks hin hl
  have hx := hF.1.1
  have hb := hF.1.2.1
  have hP := hh
  have hP : va_P g.1 vwCl (ModC g mo mn mp mq mt mm md zs zl zp zr zk w) s.heap := hP
  have hl : lv_has ls 4 [(0, .ref mo), (1, .int (x)), (2, .int (z))] := hl
  have h48 := hW.n48
  have hp4 := hW.pg4
  have hp12 := hW.pg12
  have hs1 := hW.st1
  have hw2 := hW.wr2
  have hw6 := hW.wr6
  refine lv_iload_n hx hb dX4_column_0 rfl (lv_at hl 1 rfl) ?_
  refine vp_callSi (va_Run.run (xrS hF (c_X4_isColumn l g ((x)) ) cal_X4_isColumn q_271 ⟨by decide, by decide⟩ rfl rfl rfl hZ (trivial) hl.1 rfl (Nat.le_of_ble_eq_true rfl) dX4_column_1 ⟨Nat.le_refl _, Nat.le_refl _⟩)) (fun r_ h_ => ?_)
  subst h_
  refine xZ_ne (tgt := 9) hx hb dX4_column_4 (by decide) (fun c_4 => ?_) (fun c_4 => ?_)
  · obtain ⟨k, hk, rfl⟩ := colB_iff.mp c_4
    have ek : (nI k).toNatClampNeg = k := nI_clamp (by omega)
    refine lv_aload_n hx hb dX4_column_9 rfl (lv_at hl 0 rfl) ?_
    refine gf_X4_X4_now hF hP 0 rfl rfl dX4_column_10 ?_
    refine xN_const hx hb 0 dX4_column_13 (by decide) ?_
    refine xA_ild hF hP 1 rfl (by omega) (by decide) (v := nI (nr w)) (hW.r0) dX4_column_14 ?_
    refine xN_const hx hb 1 dX4_column_15 (by decide) ?_
    refine lv_isub hx hb dX4_column_16 ?_
    refine lv_istore_n (lv' := [(3, .int (nI (nr w) - nI 1)), (0, .ref mo), (1, .int (nI k)), (2, .int (z))]) hx hb dX4_column_17 rfl hl (by decide) rfl (fun ls hl => ?_)
    refine lv_iload_n hx hb dX4_column_18 rfl (lv_at hl 3 rfl) ?_
    by_cases w_19_0 : (z) = 0
    · refine lv_tableIn (off := 41) (tgt := 60) hx hb dX4_column_19 (by rw [w_19_0]; decide) (by rw [w_19_0]; decide) (by rw [w_19_0]; rfl) (by decide) ?_
      refine lv_aload_n hx hb dX4_column_60 rfl (lv_at hl 1 rfl) ?_
      refine lv_iload_n hx hb dX4_column_61 rfl (lv_at hl 2 rfl) ?_
      refine lv_bipush hx hb (v := (-6)) dX4_column_62 (by decide) ?_
      refine vp_callSi (va_Run.run (xrV hF (c_X4_withLatest l g mo mn mp mq mt mm md zs zl zp zr zk w hW k (by omega) ((-6))) cal_X4_withLatest q_487 ⟨by decide, by decide⟩ rfl rfl rfl (va_recv hF.2.1 hP (ci := 4) (q0 := 0) rfl rfl) hZ (hP) hl.1 rfl (Nat.le_of_ble_eq_true rfl) dX4_column_64 ⟨Nat.le_refl _, Nat.le_refl _⟩)) (fun r_ h_ => ?_)
      subst h_
      exact xret_i (V := nI (ctR (fun i9 => lat w i9 k == ((-6))) 0 (nr w))) hF hret hlocks (by unfold columnA; rw [if_pos c_4, if_pos w_19_0, ek]) dX4_column_67
    by_cases w_19_1 : (z) = 1
    · refine lv_tableIn (off := 49) (tgt := 68) hx hb dX4_column_19 (by rw [w_19_1]; decide) (by rw [w_19_1]; decide) (by rw [w_19_1]; rfl) (by decide) ?_
      refine lv_aload_n hx hb dX4_column_68 rfl (lv_at hl 1 rfl) ?_
      refine lv_iload_n hx hb dX4_column_69 rfl (lv_at hl 2 rfl) ?_
      refine lv_bipush hx hb (v := (-5)) dX4_column_70 (by decide) ?_
      refine vp_callSi (va_Run.run (xrV hF (c_X4_withLatest l g mo mn mp mq mt mm md zs zl zp zr zk w hW k (by omega) ((-5))) cal_X4_withLatest q_487 ⟨by decide, by decide⟩ rfl rfl rfl (va_recv hF.2.1 hP (ci := 4) (q0 := 0) rfl rfl) hZ (hP) hl.1 rfl (Nat.le_of_ble_eq_true rfl) dX4_column_72 ⟨Nat.le_refl _, Nat.le_refl _⟩)) (fun r_ h_ => ?_)
      subst h_
      exact xret_i (V := nI (ctR (fun i9 => lat w i9 k == ((-5))) 0 (nr w))) hF hret hlocks (by unfold columnA; rw [if_pos c_4, if_neg w_19_0, if_pos w_19_1, ek]) dX4_column_75
    by_cases w_19_2 : (z) = 2
    · refine lv_tableIn (off := 57) (tgt := 76) hx hb dX4_column_19 (by rw [w_19_2]; decide) (by rw [w_19_2]; decide) (by rw [w_19_2]; rfl) (by decide) ?_
      refine lv_aload_n hx hb dX4_column_76 rfl (lv_at hl 1 rfl) ?_
      refine lv_iload_n hx hb dX4_column_77 rfl (lv_at hl 2 rfl) ?_
      refine vp_callSi (va_Run.run (xrV hF (c_X4_corrections l g mo mn mp mq mt mm md zs zl zp zr zk w hW k (by omega)) cal_X4_corrections q_491 ⟨by decide, by decide⟩ rfl rfl rfl (va_recv hF.2.1 hP (ci := 4) (q0 := 0) rfl rfl) hZ (hP) hl.1 rfl (Nat.le_of_ble_eq_true rfl) dX4_column_78 ⟨Nat.le_refl _, Nat.le_refl _⟩)) (fun r_ h_ => ?_)
      subst h_
      exact xret_i (V := nI (smR (fun i9 => cnt w (4 * i9 + k) - 1) 0 (nr w))) hF hret hlocks (by unfold columnA; rw [if_pos c_4, if_neg w_19_0, if_neg w_19_1, if_pos w_19_2, ek]) dX4_column_81
    by_cases w_19_3 : (z) = 3
    · refine lv_tableIn (off := 63) (tgt := 82) hx hb dX4_column_19 (by rw [w_19_3]; decide) (by rw [w_19_3]; decide) (by rw [w_19_3]; rfl) (by decide) ?_
      refine lv_aload_n hx hb dX4_column_82 rfl (lv_at hl 1 rfl) ?_
      refine xN_const hx hb 0 dX4_column_83 (by decide) ?_
      refine lv_iload_n hx hb dX4_column_84 rfl (lv_at hl 0 rfl) ?_
      refine lv_iload_n hx hb dX4_column_85 rfl (lv_at hl 2 rfl) ?_
      refine lv_bipush hx hb (v := (-5)) dX4_column_86 (by decide) ?_
      refine vp_callSi (va_Run.run (xrV hF (c_X4_meaning l g mo mn mp mq mt mm md zs zl zp zr zk w hW 0 (nr w) (by omega) (by omega) k (by omega) ((-5))) cal_X4_meaning q_495 ⟨by decide, by decide⟩ rfl rfl rfl (va_recv hF.2.1 hP (ci := 4) (q0 := 0) rfl rfl) hZ (hP) hl.1 rfl (Nat.le_of_ble_eq_true rfl) dX4_column_88 ⟨Nat.le_refl _, Nat.le_refl _⟩)) (fun r_ h_ => ?_)
      subst h_
      exact xret_i (V := nI (ctR (fun i9 => mean w i9 k == ((-5))) 0 ((nr w) - 0))) hF hret hlocks (by unfold columnA; rw [if_pos c_4, if_neg w_19_0, if_neg w_19_1, if_neg w_19_2, if_pos w_19_3, ek]) dX4_column_91
    by_cases w_19_4 : (z) = 4
    · refine lv_tableIn (off := 73) (tgt := 92) hx hb dX4_column_19 (by rw [w_19_4]; decide) (by rw [w_19_4]; decide) (by rw [w_19_4]; rfl) (by decide) ?_
      refine lv_aload_n hx hb dX4_column_92 rfl (lv_at hl 1 rfl) ?_
      refine lv_iload_n hx hb dX4_column_93 rfl (lv_at hl 2 rfl) ?_
      refine vp_callSi (va_Run.run (xrV hF (c_X4_longest l g mo mn mp mq mt mm md zs zl zp zr zk w hW k (by omega)) cal_X4_longest q_499 ⟨by decide, by decide⟩ rfl rfl rfl (va_recv hF.2.1 hP (ci := 4) (q0 := 0) rfl rfl) hZ (hP) hl.1 rfl (Nat.le_of_ble_eq_true rfl) dX4_column_94 ⟨Nat.le_refl _, Nat.le_refl _⟩)) (fun r_ h_ => ?_)
      subst h_
      exact xret_i (V := nI (mxR (fun i9 => i9 - top w k i9 + 1) (nr w))) hF hret hlocks (by unfold columnA; rw [if_pos c_4, if_neg w_19_0, if_neg w_19_1, if_neg w_19_2, if_neg w_19_3, if_pos w_19_4, ek]) dX4_column_97
    by_cases w_19_5 : (z) = 5
    · refine lv_tableIn (off := 79) (tgt := 98) hx hb dX4_column_19 (by rw [w_19_5]; decide) (by rw [w_19_5]; decide) (by rw [w_19_5]; rfl) (by decide) ?_
      refine lv_aload_n hx hb dX4_column_98 rfl (lv_at hl 1 rfl) ?_
      refine xN_const hx hb 0 dX4_column_99 (by decide) ?_
      refine lv_iload_n hx hb dX4_column_100 rfl (lv_at hl 0 rfl) ?_
      refine lv_iload_n hx hb dX4_column_101 rfl (lv_at hl 2 rfl) ?_
      refine vp_callSi (va_Run.run (xrV hF (c_X4_commonest l g mo mn mp mq mt mm md zs zl zp zr zk w hW 0 (nr w) (by omega) (by omega) k (by omega)) cal_X4_commonest q_503 ⟨by decide, by decide⟩ rfl rfl rfl (va_recv hF.2.1 hP (ci := 4) (q0 := 0) rfl rfl) hZ (hP) hl.1 rfl (Nat.le_of_ble_eq_true rfl) dX4_column_102 ⟨Nat.le_refl _, Nat.le_refl _⟩)) (fun r_ h_ => ?_)
      subst h_
      exact xret_i (V := (cmI w k 0 (nr w))) hF hret hlocks (by unfold columnA; rw [if_pos c_4, if_neg w_19_0, if_neg w_19_1, if_neg w_19_2, if_neg w_19_3, if_neg w_19_4, if_pos w_19_5, ek]) dX4_column_105
    by_cases w_19_6 : (z) = 6
    · refine lv_tableIn (off := 87) (tgt := 106) hx hb dX4_column_19 (by rw [w_19_6]; decide) (by rw [w_19_6]; decide) (by rw [w_19_6]; rfl) (by decide) ?_
      refine lv_aload_n hx hb dX4_column_106 rfl (lv_at hl 1 rfl) ?_
      refine xN_const hx hb 0 dX4_column_107 (by decide) ?_
      refine lv_iload_n hx hb dX4_column_108 rfl (lv_at hl 0 rfl) ?_
      refine lv_iload_n hx hb dX4_column_109 rfl (lv_at hl 2 rfl) ?_
      refine vp_callSi (va_Run.run (xrV hF (c_X4_doubtful l g mo mn mp mq mt mm md zs zl zp zr zk w hW 0 (nr w) (by omega) (by omega) k (by omega)) cal_X4_doubtful q_507 ⟨by decide, by decide⟩ rfl rfl rfl (va_recv hF.2.1 hP (ci := 4) (q0 := 0) rfl rfl) hZ (hP) hl.1 rfl (Nat.le_of_ble_eq_true rfl) dX4_column_110 ⟨Nat.le_refl _, Nat.le_refl _⟩)) (fun r_ h_ => ?_)
      subst h_
      exact xret_i (V := nI (ctR (fun i9 => dbt w i9 k) 0 ((nr w) - 0))) hF hret hlocks (by unfold columnA; rw [if_pos c_4, if_neg w_19_0, if_neg w_19_1, if_neg w_19_2, if_neg w_19_3, if_neg w_19_4, if_neg w_19_5, if_pos w_19_6, ek]) dX4_column_113
    refine lv_tableOut (tgt := 114) hx hb dX4_column_19 (by have a0 := lv_neT w_19_0 (a := 0) (by decide); have a1 := lv_neT w_19_1 (a := 1) (by decide); have a2 := lv_neT w_19_2 (a := 2) (by decide); have a3 := lv_neT w_19_3 (a := 3) (by decide); have a4 := lv_neT w_19_4 (a := 4) (by decide); have a5 := lv_neT w_19_5 (a := 5) (by decide); have a6 := lv_neT w_19_6 (a := 6) (by decide); omega) (by decide) ?_
    refine lv_bipush hx hb (v := (-2)) dX4_column_114 (by decide) ?_
    exact xret_i (V := (-2)) hF hret hlocks (by unfold columnA; rw [if_pos c_4, if_neg w_19_0, if_neg w_19_1, if_neg w_19_2, if_neg w_19_3, if_neg w_19_4, if_neg w_19_5, if_neg w_19_6]) dX4_column_116
  · refine lv_iconst hx hb (v := (-1)) dX4_column_7 (by decide) ?_
    exact xret_i (V := (-1)) hF hret hlocks (by unfold columnA; rw [c_4]; rfl) dX4_column_8
set_option maxHeartbeats 4000000 in
set_option maxRecDepth 100000 in
theorem c_X4_watch (l : Launch) (g : XG) (mo mn mp mq mt mm md zs zl zp zr : Nat) (zk : Bool) (w : Nat → Int32) (hW : WF w) (x z : Int32) : Met l yX4_watch (ww yX4_watch cX4_watch 6 (some .int)) (rmD 8) (xP g [.ref mo, .int (x), .int (z)] (fun H => va_P g.1 vwCl (ModC g mo mn mp mq mt mm md zs zl zp zr zk w) H)) (vp_Si (fun r9 => r9 = watchA w x z)) 0 0 (fun _ => False) := by
  refine xMet (by decide) rfl (Nat.le_of_ble_eq_true rfl) ?_
  intro p e s m below meth c ls hF hZ hh hret hlocks hin hl
  have hx := hF.1.1
  have hb := hF.1.2.1
  have hP := hh
  have hP : va_P g.1 vwCl (ModC g mo mn mp mq mt mm md zs zl zp zr zk w) s.heap := hP
  have hl : lv_has ls 6 [(0, .ref mo), (1, .int (x)), (2, .int (z))] := hl
  have h48 := hW.n48
  have hp4 := hW.pg4
  have hp12 := hW.pg12
  have hs1 := hW.st1
  have hw2 := hW.wr2
  have hw6 := hW.wr6
  have hwc := wcs_le hW
  refine lv_iload_n hx hb dX4_watch_0 rfl (lv_at hl 1 rfl) ?_
  refine xN_const hx hb 0 dX4_watch_1 (by decide) ?_
  refine lv_aload_n hx hb dX4_watch_2 rfl (lv_at hl 0 rfl) ?_
  refine vp_callSi (va_Run.run (xrV hF (c_X4_watches l g mo mn mp mq mt mm md zs zl zp zr zk w hW  ) cal_X4_watches q_536 ⟨by decide, by decide⟩ rfl rfl rfl (va_recv hF.2.1 hP (ci := 4) (q0 := 0) rfl rfl) hZ (hP) hl.1 rfl (Nat.le_of_ble_eq_true rfl) dX4_watch_3 ⟨Nat.le_refl _, Nat.le_refl _⟩)) (fun r_ h_ => ?_)
  subst h_
  refine xN_const hx hb 1 dX4_watch_6 (by decide) ?_
  refine lv_isub hx hb dX4_watch_7 ?_
  refine vp_callSi (va_Run.run (xrS hF (c_X4_in l g ((x)) (nI (0)) (nI (wcs w) - nI 1) ) cal_X4_in q_119 ⟨by decide, by decide⟩ rfl rfl rfl hZ (trivial) hl.1 rfl (Nat.le_of_ble_eq_true rfl) dX4_watch_8 ⟨Nat.le_refl _, Nat.le_refl _⟩)) (fun r_ h_ => ?_)
  subst h_
  refine xZ_ne (tgt := 16) hx hb dX4_watch_11 (by decide) (fun c_11 => ?_) (fun c_11 => ?_)
  · have c_w : watB w x = true := (watB_in hW x).symm.trans c_11
    obtain ⟨t, ht, rfl⟩ := (watB_iff hW).mp c_w
    have et : (nI t).toNatClampNeg = t := nI_clamp (by omega)
    have hl1 := lstN_le w t
    have hl2 := lstN_ge hW ht
    have htw : t * wrN w ≤ 24 * 6 := Nat.mul_le_mul (by omega) (by omega)
    refine lv_iload_n hx hb dX4_watch_16 rfl (lv_at hl 1 rfl) ?_
    refine lv_aload_n hx hb dX4_watch_17 rfl (lv_at hl 0 rfl) ?_
    refine gf_X4_X4_now hF hP 0 rfl rfl dX4_watch_18 ?_
    refine xN_const hx hb 3 dX4_watch_21 (by decide) ?_
    refine xA_ild hF hP 1 rfl (by omega) (by decide) (v := nI (wrN w)) (hW.r3) dX4_watch_22 ?_
    refine xN_mul hx hb dX4_watch_23 ?_
    refine lv_istore_n (lv' := [(3, .int (nI (t * (wrN w)))), (0, .ref mo), (1, .int (nI t)), (2, .int (z))]) hx hb dX4_watch_24 rfl hl (by decide) rfl (fun ls hl => ?_)
    refine lv_aload_n hx hb dX4_watch_25 rfl (lv_at hl 1 rfl) ?_
    refine lv_iload_n hx hb dX4_watch_26 rfl (lv_at hl 2 rfl) ?_
    refine vp_callSi (va_Run.run (xrV hF (c_X4_lastOf l g mo mn mp mq mt mm md zs zl zp zr zk w hW t (by omega)) cal_X4_lastOf q_540 ⟨by decide, by decide⟩ rfl rfl rfl (va_recv hF.2.1 hP (ci := 4) (q0 := 0) rfl rfl) hZ (hP) hl.1 rfl (Nat.le_of_ble_eq_true rfl) dX4_watch_27 ⟨Nat.le_refl _, Nat.le_refl _⟩)) (fun r_ h_ => ?_)
    subst h_
    refine lv_istore (lv' := [(4, .int (nI (lstN w t) - nI 1)), (3, .int (nI (t * (wrN w)))), (0, .ref mo), (1, .int (nI t)), (2, .int (z))]) hx hb dX4_watch_30 hl (by decide) rfl (fun ls hl => ?_)
    refine lv_aload_n hx hb dX4_watch_32 rfl (lv_at hl 2 rfl) ?_
    refine gf_X4_X4_now hF hP 0 rfl rfl dX4_watch_33 ?_
    refine xN_const hx hb 4 dX4_watch_36 (by decide) ?_
    refine lv_iload_n hx hb dX4_watch_37 rfl (lv_at hl 3 rfl) ?_
    refine xN_add hx hb dX4_watch_38 ?_
    refine xA_ild hF hP 1 rfl (by omega) (by decide) (v := (w (4 + t))) rfl dX4_watch_39 ?_
    refine lv_istore (lv' := [(5, .int (w (4 + t))), (4, .int (nI (lstN w t) - nI 1)), (3, .int (nI (t * (wrN w)))), (0, .ref mo), (1, .int (nI t)), (2, .int (z))]) hx hb dX4_watch_40 hl (by decide) rfl (fun ls hl => ?_)
    refine lv_iload_n hx hb dX4_watch_42 rfl (lv_at hl 5 rfl) ?_
    by_cases w_43_0 : (z) = 0
    · refine lv_tableIn (off := 41) (tgt := 84) hx hb dX4_watch_43 (by rw [w_43_0]; decide) (by rw [w_43_0]; decide) (by rw [w_43_0]; rfl) (by decide) ?_
      refine lv_iload hx hb dX4_watch_84 (lv_at hl 1 rfl) ?_
      refine lv_iload_n hx hb dX4_watch_86 rfl (lv_at hl 2 rfl) ?_
      refine lv_isub hx hb dX4_watch_87 ?_
      refine xN_const hx hb 1 dX4_watch_88 (by decide) ?_
      refine lv_iadd hx hb dX4_watch_89 ?_
      rw [show (((nI (lstN w t) - nI 1 - nI (t * (wrN w))) + nI (1)) : Int32) = nI (lstN w t - t * wrN w) from xlast0 hl2]
      exact xret_i (V := nI (lstN w t - t * wrN w)) hF hret hlocks (by unfold watchA; rw [if_pos c_w, if_pos w_43_0, et]) dX4_watch_90
    by_cases w_43_1 : (z) = 1
    · refine lv_tableIn (off := 48) (tgt := 91) hx hb dX4_watch_43 (by rw [w_43_1]; decide) (by rw [w_43_1]; decide) (by rw [w_43_1]; rfl) (by decide) ?_
      refine lv_aload_n hx hb dX4_watch_91 rfl (lv_at hl 3 rfl) ?_
      refine lv_iload_n hx hb dX4_watch_92 rfl (lv_at hl 2 rfl) ?_
      refine lv_iload hx hb dX4_watch_93 (lv_at hl 1 rfl) ?_
      refine vp_callSi (va_Run.run (xrV hF (c_X4_runOf l g mo mn mp mq mt mm md zs zl zp zr zk w hW (t * (wrN w)) (lstN w t) (by omega) (by omega)) cal_X4_runOf q_544 ⟨by decide, by decide⟩ rfl rfl rfl (va_recv hF.2.1 hP (ci := 4) (q0 := 0) rfl rfl) hZ (hP) hl.1 rfl (Nat.le_of_ble_eq_true rfl) dX4_watch_95 ⟨Nat.le_refl _, Nat.le_refl _⟩)) (fun r_ h_ => ?_)
      subst h_
      exact xret_i (V := nI (runN w (t * (wrN w)) (lstN w t))) hF hret hlocks (by unfold watchA; rw [if_pos c_w, if_neg w_43_0, if_pos w_43_1, et]) dX4_watch_98
    by_cases w_43_2 : (z) = 2
    · refine lv_tableIn (off := 56) (tgt := 99) hx hb dX4_watch_43 (by rw [w_43_2]; decide) (by rw [w_43_2]; decide) (by rw [w_43_2]; rfl) (by decide) ?_
      refine lv_aload_n hx hb dX4_watch_99 rfl (lv_at hl 3 rfl) ?_
      refine lv_iload_n hx hb dX4_watch_100 rfl (lv_at hl 2 rfl) ?_
      refine lv_iload hx hb dX4_watch_101 (lv_at hl 1 rfl) ?_
      refine xN_const hx hb 3 dX4_watch_103 (by decide) ?_
      refine vp_callSi (va_Run.run (xrV hF (c_X4_commonest l g mo mn mp mq mt mm md zs zl zp zr zk w hW (t * (wrN w)) (lstN w t) (by omega) (by omega) 3 (by omega)) cal_X4_commonest q_503 ⟨by decide, by decide⟩ rfl rfl rfl (va_recv hF.2.1 hP (ci := 4) (q0 := 0) rfl rfl) hZ (hP) hl.1 rfl (Nat.le_of_ble_eq_true rfl) dX4_watch_104 ⟨Nat.le_refl _, Nat.le_refl _⟩)) (fun r_ h_ => ?_)
      subst h_
      exact xret_i (V := (cmI w 3 (t * (wrN w)) (lstN w t))) hF hret hlocks (by unfold watchA; rw [if_pos c_w, if_neg w_43_0, if_neg w_43_1, if_pos w_43_2, et]) dX4_watch_107
    by_cases w_43_3 : (z) = 3
    · refine lv_tableIn (off := 65) (tgt := 108) hx hb dX4_watch_43 (by rw [w_43_3]; decide) (by rw [w_43_3]; decide) (by rw [w_43_3]; rfl) (by decide) ?_
      refine lv_iload hx hb dX4_watch_108 (lv_at hl 0 rfl) ?_
      exact xret_i (V := (w (4 + t))) hF hret hlocks (by unfold watchA; rw [if_pos c_w, if_neg w_43_0, if_neg w_43_1, if_neg w_43_2, if_pos w_43_3, et]) dX4_watch_110
    by_cases w_43_4 : (z) = 4
    · refine lv_tableIn (off := 68) (tgt := 111) hx hb dX4_watch_43 (by rw [w_43_4]; decide) (by rw [w_43_4]; decide) (by rw [w_43_4]; rfl) (by decide) ?_
      refine lv_iload hx hb dX4_watch_111 (lv_at hl 0 rfl) ?_
      refine lv_bipush hx hb (v := (-5)) dX4_watch_113 (by decide) ?_
      refine lv_icmp_ne (tgt := 123) hx hb dX4_watch_115 (by decide) (fun c_115 => ?_) (fun c_115 => ?_)
      · refine lv_aload_n hx hb dX4_watch_123 rfl (lv_at hl 3 rfl) ?_
        refine lv_iload_n hx hb dX4_watch_124 rfl (lv_at hl 2 rfl) ?_
        refine lv_iload hx hb dX4_watch_125 (lv_at hl 1 rfl) ?_
        refine vp_callSi (va_Run.run (xrV hF (c_X4_runOf l g mo mn mp mq mt mm md zs zl zp zr zk w hW (t * (wrN w)) (lstN w t) (by omega) (by omega)) cal_X4_runOf q_544 ⟨by decide, by decide⟩ rfl rfl rfl (va_recv hF.2.1 hP (ci := 4) (q0 := 0) rfl rfl) hZ (hP) hl.1 rfl (Nat.le_of_ble_eq_true rfl) dX4_watch_127 ⟨Nat.le_refl _, Nat.le_refl _⟩)) (fun r_ h_ => ?_)
        subst h_
        refine lv_iload hx hb dX4_watch_130 (lv_at hl 0 rfl) ?_
        refine lv_isub hx hb dX4_watch_132 ?_
        refine xN_si hx hb 10000 dX4_watch_133 (by decide) ?_
        refine lv_iadd hx hb dX4_watch_136 ?_
        exact xret_i (V := ((nI (runN w (t * (wrN w)) (lstN w t)) - (w (4 + t))) + nI (10000))) hF hret hlocks (by unfold watchA; rw [if_pos c_w, if_neg w_43_0, if_neg w_43_1, if_neg w_43_2, if_neg w_43_3, if_pos w_43_4, et, if_neg c_115]) dX4_watch_137
      · refine lv_bipush hx hb (v := (-5)) dX4_watch_118 (by decide) ?_
        refine lv_goto (tgt := 137) hx hb dX4_watch_120 (by decide) ?_
        exact xret_i (V := (-5)) hF hret hlocks (by unfold watchA; rw [if_pos c_w, if_neg w_43_0, if_neg w_43_1, if_neg w_43_2, if_neg w_43_3, if_pos w_43_4, et, if_pos c_115]) dX4_watch_137
    by_cases w_43_5 : (z) = 5
    · refine lv_tableIn (off := 95) (tgt := 138) hx hb dX4_watch_43 (by rw [w_43_5]; decide) (by rw [w_43_5]; decide) (by rw [w_43_5]; rfl) (by decide) ?_
      refine lv_aload_n hx hb dX4_watch_138 rfl (lv_at hl 3 rfl) ?_
      refine lv_iload_n hx hb dX4_watch_139 rfl (lv_at hl 2 rfl) ?_
      refine lv_iload hx hb dX4_watch_140 (lv_at hl 1 rfl) ?_
      refine xN_const hx hb 1 dX4_watch_142 (by decide) ?_
      refine lv_bipush hx hb (v := (-5)) dX4_watch_143 (by decide) ?_
      refine vp_callSi (va_Run.run (xrV hF (c_X4_meaning l g mo mn mp mq mt mm md zs zl zp zr zk w hW (t * (wrN w)) (lstN w t) (by omega) (by omega) 1 (by omega) ((-5))) cal_X4_meaning q_495 ⟨by decide, by decide⟩ rfl rfl rfl (va_recv hF.2.1 hP (ci := 4) (q0 := 0) rfl rfl) hZ (hP) hl.1 rfl (Nat.le_of_ble_eq_true rfl) dX4_watch_145 ⟨Nat.le_refl _, Nat.le_refl _⟩)) (fun r_ h_ => ?_)
      subst h_
      exact xret_i (V := nI (ctR (fun i9 => mean w i9 1 == ((-5))) (t * (wrN w)) ((lstN w t) - (t * (wrN w))))) hF hret hlocks (by unfold watchA; rw [if_pos c_w, if_neg w_43_0, if_neg w_43_1, if_neg w_43_2, if_neg w_43_3, if_neg w_43_4, if_pos w_43_5, et]) dX4_watch_148
    by_cases w_43_6 : (z) = 6
    · refine lv_tableIn (off := 106) (tgt := 149) hx hb dX4_watch_43 (by rw [w_43_6]; decide) (by rw [w_43_6]; decide) (by rw [w_43_6]; rfl) (by decide) ?_
      refine lv_aload_n hx hb dX4_watch_149 rfl (lv_at hl 3 rfl) ?_
      refine lv_iload_n hx hb dX4_watch_150 rfl (lv_at hl 2 rfl) ?_
      refine lv_iload hx hb dX4_watch_151 (lv_at hl 1 rfl) ?_
      refine vp_callSi (va_Run.run (xrV hF (c_X4_inDoubt l g mo mn mp mq mt mm md zs zl zp zr zk w hW (t * (wrN w)) (lstN w t) (by omega) (by omega)) cal_X4_inDoubt q_548 ⟨by decide, by decide⟩ rfl rfl rfl (va_recv hF.2.1 hP (ci := 4) (q0 := 0) rfl rfl) hZ (hP) hl.1 rfl (Nat.le_of_ble_eq_true rfl) dX4_watch_153 ⟨Nat.le_refl _, Nat.le_refl _⟩)) (fun r_ h_ => ?_)
      subst h_
      exact xret_i (V := nI (idN w (t * (wrN w)) (lstN w t) 4)) hF hret hlocks (by unfold watchA; rw [if_pos c_w, if_neg w_43_0, if_neg w_43_1, if_neg w_43_2, if_neg w_43_3, if_neg w_43_4, if_neg w_43_5, if_pos w_43_6, et]) dX4_watch_156
    refine lv_tableOut (tgt := 157) hx hb dX4_watch_43 (by have a0 := lv_neT w_43_0 (a := 0) (by decide); have a1 := lv_neT w_43_1 (a := 1) (by decide); have a2 := lv_neT w_43_2 (a := 2) (by decide); have a3 := lv_neT w_43_3 (a := 3) (by decide); have a4 := lv_neT w_43_4 (a := 4) (by decide); have a5 := lv_neT w_43_5 (a := 5) (by decide); have a6 := lv_neT w_43_6 (a := 6) (by decide); omega) (by decide) ?_
    refine lv_bipush hx hb (v := (-2)) dX4_watch_157 (by decide) ?_
    exact xret_i (V := (-2)) hF hret hlocks (by unfold watchA; rw [if_pos c_w, if_neg w_43_0, if_neg w_43_1, if_neg w_43_2, if_neg w_43_3, if_neg w_43_4, if_neg w_43_5, if_neg w_43_6]) dX4_watch_159
  · refine lv_iconst hx hb (v := (-1)) dX4_watch_14 (by decide) ?_
    exact xret_i (V := (-1)) hF hret hlocks (by unfold watchA; rw [show watB w x = false from (watB_in hW x).symm.trans c_11]; rfl) dX4_watch_15
set_option maxHeartbeats 4000000 in
set_option maxRecDepth 100000 in
theorem c_X4_overColumns (l : Launch) (g : XG) (mo mn mp mq mt mm md zs zl zp zr : Nat) (zk : Bool) (w : Nat → Int32) (hW : WF w) (j : Nat) (hj : j = 0 ∨ j = 2 ∨ j = 6) : Met l yX4_overColumns (ww yX4_overColumns cX4_overColumns 4 (some .int)) (rmD 9) (xP g [.ref mo, .int (nI j)] (fun H => va_P g.1 vwCl (ModC g mo mn mp mq mt mm md zs zl zp zr zk w) H)) (vp_Si (fun r9 => r9 = nI (smR (ovF w j) 0 4))) 0 0 (fun _ => False) := by
  refine xMet (by decide) rfl (Nat.le_of_ble_eq_true rfl) ?_
  intro p e s m below meth c ls hF hZ hh hret hlocks hin hl
  have hx := hF.1.1
  have hb := hF.1.2.1
  have hP := hh
  have hP : va_P g.1 vwCl (ModC g mo mn mp mq mt mm md zs zl zp zr zk w) s.heap := hP
  have hl : lv_has ls 4 [(0, .ref mo), (1, .int (nI j))] := hl
  have h48 := hW.n48
  have hp4 := hW.pg4
  have hp12 := hW.pg12
  have hs1 := hW.st1
  have hw2 := hW.wr2
  have hw6 := hW.wr6
  refine xN_const hx hb 0 dX4_overColumns_0 (by decide) ?_
  refine lv_istore_n (lv' := [(2, .int (nI 0)), (0, .ref mo), (1, .int (nI j))]) hx hb dX4_overColumns_1 rfl hl (by decide) rfl (fun ls hl => ?_)
  refine xN_const hx hb 0 dX4_overColumns_2 (by decide) ?_
  refine lv_istore_n (lv' := [(3, .int (nI 0)), (2, .int (nI 0)), (0, .ref mo), (1, .int (nI j))]) hx hb dX4_overColumns_3 rfl hl (by decide) rfl (fun ls hl => ?_)
  refine xloop (goal := fun ls => W p l e _ s m _ below meth c s.heap [] _ _ _ (F0 m _ ls [])) (fun (z_ : Nat × Nat) (ls : Array Slot) => match z_ with | (f, i) => (i ≤ 4) ∧ (f = smR (ovF w j) 0 i) ∧ lv_has ls 4 [(0, .ref mo), (1, .int (nI j)), (2, .int (nI f)), (3, .int (nI i))]) (fun (z_ : Nat × Nat) => match z_ with | (f, i) => 4 - i) ?_ (0, 0) ls ⟨by omega, rfl, lv_sub hl [2, 3, 1, 0] rfl⟩
  rintro ⟨f, i⟩ ls ⟨I1, I2, hl⟩ ih
  have hf := smR_ov_le hW j i I1
  refine lv_iload_n hx hb dX4_overColumns_4 rfl (lv_at hl 3 rfl) ?_
  refine xN_const hx hb 4 dX4_overColumns_5 (by decide) ?_
  refine xC_ge (tgt := 24) hx hb (by omega) (by omega) dX4_overColumns_6 (by decide) (fun c_6 => ?_) (fun c_6 => ?_)
  · refine lv_iload_n hx hb dX4_overColumns_24 rfl (lv_at hl 2 rfl) ?_
    exact xret_i (V := nI (f)) hF hret hlocks (by rw [I2, show i = 4 by omega]) dX4_overColumns_25
  · refine lv_iload_n hx hb dX4_overColumns_9 rfl (lv_at hl 2 rfl) ?_
    refine lv_aload_n hx hb dX4_overColumns_10 rfl (lv_at hl 0 rfl) ?_
    refine lv_iload_n hx hb dX4_overColumns_11 rfl (lv_at hl 3 rfl) ?_
    refine lv_iload_n hx hb dX4_overColumns_12 rfl (lv_at hl 1 rfl) ?_
    refine vp_callSi (va_Run.run (xrV hF (c_X4_column l g mo mn mp mq mt mm md zs zl zp zr zk w hW (nI (i)) (nI (j)) ) cal_X4_column q_674 ⟨by decide, by decide⟩ rfl rfl rfl (va_recv hF.2.1 hP (ci := 4) (q0 := 0) rfl rfl) hZ (hP) hl.1 rfl (Nat.le_of_ble_eq_true rfl) dX4_overColumns_13 ⟨Nat.le_refl _, Nat.le_refl _⟩)) (fun r_ h_ => ?_)
    subst h_
    rw [show ((columnA w (nI (i)) (nI (j))) : Int32) = nI (ovF w j i) from columnA_ov (by omega) hj]
    refine xN_add hx hb dX4_overColumns_16 ?_
    refine lv_istore_n (lv' := [(2, .int (nI (f + (ovF w j i)))), (0, .ref mo), (1, .int (nI j)), (3, .int (nI i))]) hx hb dX4_overColumns_17 rfl hl (by decide) rfl (fun ls hl => ?_)
    refine xN_inc (lv' := [(3, .int (nI (i + 1))), (2, .int (nI (f + (ovF w j i)))), (0, .ref mo), (1, .int (nI j))]) hx hb 1 dX4_overColumns_18 hl (k := 3) rfl (by decide) (by decide) rfl (fun ls hl => ?_)
    refine lv_goto (tgt := 4) hx hb dX4_overColumns_21 (by decide) ?_
    exact ih (f + (ovF w j i), i + 1) ls ⟨by omega, by rw [I2, smR, Nat.zero_add], lv_sub hl [2, 3, 1, 0] rfl⟩ (by dsimp only; omega)
set_option maxHeartbeats 4000000 in
set_option maxRecDepth 100000 in
theorem c_X4_count (l : Launch) (g : XG) (mo mn mp mq mt mm md zs zl zp zr : Nat) (zk : Bool) (w : Nat → Int32) (hW : WF w) (z : Int32) : Met l yX4_count (ww yX4_count cX4_count 2 (some .int)) (rmD 10) (xP g [.ref mo, .int (z)] (fun H => va_P g.1 vwCl (ModC g mo mn mp mq mt mm md zs zl zp zr zk w) H)) (vp_Si (fun r9 => r9 = countA w zs zl z)) 0 0 (fun _ => False) := by
  refine xMet (by decide) rfl (Nat.le_of_ble_eq_true rfl) ?_
  intro p e s m below meth c ls hF hZ hh hret hlocks hin hl
  have hx := hF.1.1
  have hb := hF.1.2.1
  have hP := hh
  have hP : va_P g.1 vwCl (ModC g mo mn mp mq mt mm md zs zl zp zr zk w) s.heap := hP
  have hl : lv_has ls 2 [(0, .ref mo), (1, .int (z))] := hl
  have h48 := hW.n48
  have hp4 := hW.pg4
  have hp12 := hW.pg12
  have hs1 := hW.st1
  have hw2 := hW.wr2
  have hw6 := hW.wr6
  refine lv_iload_n hx hb dX4_count_0 rfl (lv_at hl 1 rfl) ?_
  by_cases w_1_0 : (z) = 0
  · refine lv_tableIn (off := 63) (tgt := 64) hx hb dX4_count_1 (by rw [w_1_0]; decide) (by rw [w_1_0]; decide) (by rw [w_1_0]; rfl) (by decide) ?_
    refine lv_aload_n hx hb dX4_count_64 rfl (lv_at hl 0 rfl) ?_
    refine gf_X4_X4_now hF hP 0 rfl rfl dX4_count_65 ?_
    refine xN_const hx hb 0 dX4_count_68 (by decide) ?_
    refine xA_ild hF hP 1 rfl (by omega) (by decide) (v := nI (nr w)) (hW.r0) dX4_count_69 ?_
    exact xret_i (V := nI (nr w)) hF hret hlocks (by unfold countA; rw [if_pos w_1_0]) dX4_count_70
  by_cases w_1_1 : (z) = 1
  · refine lv_tableIn (off := 70) (tgt := 71) hx hb dX4_count_1 (by rw [w_1_1]; decide) (by rw [w_1_1]; decide) (by rw [w_1_1]; rfl) (by decide) ?_
    refine lv_aload_n hx hb dX4_count_71 rfl (lv_at hl 0 rfl) ?_
    refine xN_const hx hb 0 dX4_count_72 (by decide) ?_
    refine vp_callSi (va_Run.run (xrV hF (c_X4_overColumns l g mo mn mp mq mt mm md zs zl zp zr zk w hW 0 (by omega)) cal_X4_overColumns q_670 ⟨by decide, by decide⟩ rfl rfl rfl (va_recv hF.2.1 hP (ci := 4) (q0 := 0) rfl rfl) hZ (hP) hl.1 rfl (Nat.le_of_ble_eq_true rfl) dX4_count_73 ⟨Nat.le_refl _, Nat.le_refl _⟩)) (fun r_ h_ => ?_)
    subst h_
    exact xret_i (V := nI (smR (ovF w 0) 0 4)) hF hret hlocks (by unfold countA; rw [if_neg w_1_0, if_pos w_1_1]) dX4_count_76
  by_cases w_1_2 : (z) = 2
  · refine lv_tableIn (off := 76) (tgt := 77) hx hb dX4_count_1 (by rw [w_1_2]; decide) (by rw [w_1_2]; decide) (by rw [w_1_2]; rfl) (by decide) ?_
    refine lv_aload_n hx hb dX4_count_77 rfl (lv_at hl 0 rfl) ?_
    refine xN_const hx hb 2 dX4_count_78 (by decide) ?_
    refine vp_callSi (va_Run.run (xrV hF (c_X4_overColumns l g mo mn mp mq mt mm md zs zl zp zr zk w hW 2 (by omega)) cal_X4_overColumns q_670 ⟨by decide, by decide⟩ rfl rfl rfl (va_recv hF.2.1 hP (ci := 4) (q0 := 0) rfl rfl) hZ (hP) hl.1 rfl (Nat.le_of_ble_eq_true rfl) dX4_count_79 ⟨Nat.le_refl _, Nat.le_refl _⟩)) (fun r_ h_ => ?_)
    subst h_
    exact xret_i (V := nI (smR (ovF w 2) 0 4)) hF hret hlocks (by unfold countA; rw [if_neg w_1_0, if_neg w_1_1, if_pos w_1_2]) dX4_count_82
  by_cases w_1_3 : (z) = 3
  · refine lv_tableIn (off := 82) (tgt := 83) hx hb dX4_count_1 (by rw [w_1_3]; decide) (by rw [w_1_3]; decide) (by rw [w_1_3]; rfl) (by decide) ?_
    refine lv_aload_n hx hb dX4_count_83 rfl (lv_at hl 0 rfl) ?_
    refine xN_bi hx hb 6 dX4_count_84 (by decide) ?_
    refine vp_callSi (va_Run.run (xrV hF (c_X4_overColumns l g mo mn mp mq mt mm md zs zl zp zr zk w hW 6 (by omega)) cal_X4_overColumns q_670 ⟨by decide, by decide⟩ rfl rfl rfl (va_recv hF.2.1 hP (ci := 4) (q0 := 0) rfl rfl) hZ (hP) hl.1 rfl (Nat.le_of_ble_eq_true rfl) dX4_count_86 ⟨Nat.le_refl _, Nat.le_refl _⟩)) (fun r_ h_ => ?_)
    subst h_
    exact xret_i (V := nI (smR (ovF w 6) 0 4)) hF hret hlocks (by unfold countA; rw [if_neg w_1_0, if_neg w_1_1, if_neg w_1_2, if_pos w_1_3]) dX4_count_89
  by_cases w_1_4 : (z) = 4
  · refine lv_tableIn (off := 89) (tgt := 90) hx hb dX4_count_1 (by rw [w_1_4]; decide) (by rw [w_1_4]; decide) (by rw [w_1_4]; rfl) (by decide) ?_
    refine lv_aload_n hx hb dX4_count_90 rfl (lv_at hl 0 rfl) ?_
    refine vp_callSi (va_Run.run (xrV hF (c_X4_allWritten l g mo mn mp mq mt mm md zs zl zp zr zk w hW  ) cal_X4_allWritten q_675 ⟨by decide, by decide⟩ rfl rfl rfl (va_recv hF.2.1 hP (ci := 4) (q0 := 0) rfl rfl) hZ (hP) hl.1 rfl (Nat.le_of_ble_eq_true rfl) dX4_count_91 ⟨Nat.le_refl _, Nat.le_refl _⟩)) (fun r_ h_ => ?_)
    subst h_
    exact xret_i (V := nI (ctR (wrB w) 0 (nr w))) hF hret hlocks (by unfold countA; rw [if_neg w_1_0, if_neg w_1_1, if_neg w_1_2, if_neg w_1_3, if_pos w_1_4]) dX4_count_94
  by_cases w_1_5 : (z) = 5
  · refine lv_tableIn (off := 94) (tgt := 95) hx hb dX4_count_1 (by rw [w_1_5]; decide) (by rw [w_1_5]; decide) (by rw [w_1_5]; rfl) (by decide) ?_
    refine lv_aload_n hx hb dX4_count_95 rfl (lv_at hl 0 rfl) ?_
    refine vp_callSi (va_Run.run (xrV hF (c_X4_watches l g mo mn mp mq mt mm md zs zl zp zr zk w hW  ) cal_X4_watches q_536 ⟨by decide, by decide⟩ rfl rfl rfl (va_recv hF.2.1 hP (ci := 4) (q0 := 0) rfl rfl) hZ (hP) hl.1 rfl (Nat.le_of_ble_eq_true rfl) dX4_count_96 ⟨Nat.le_refl _, Nat.le_refl _⟩)) (fun r_ h_ => ?_)
    subst h_
    exact xret_i (V := nI (wcs w)) hF hret hlocks (by unfold countA; rw [if_neg w_1_0, if_neg w_1_1, if_neg w_1_2, if_neg w_1_3, if_neg w_1_4, if_pos w_1_5]) dX4_count_99
  by_cases w_1_6 : (z) = 6
  · refine lv_tableIn (off := 99) (tgt := 100) hx hb dX4_count_1 (by rw [w_1_6]; decide) (by rw [w_1_6]; decide) (by rw [w_1_6]; rfl) (by decide) ?_
    refine lv_aload_n hx hb dX4_count_100 rfl (lv_at hl 0 rfl) ?_
    refine vp_callSi (va_Run.run (xrV hF (c_X4_unlike l g mo mn mp mq mt mm md zs zl zp zr zk w hW  ) cal_X4_unlike q_679 ⟨by decide, by decide⟩ rfl rfl rfl (va_recv hF.2.1 hP (ci := 4) (q0 := 0) rfl rfl) hZ (hP) hl.1 rfl (Nat.le_of_ble_eq_true rfl) dX4_count_101 ⟨Nat.le_refl _, Nat.le_refl _⟩)) (fun r_ h_ => ?_)
    subst h_
    exact xret_i (V := nI (ctR (wrgB w) 0 (wcs w))) hF hret hlocks (by unfold countA; rw [if_neg w_1_0, if_neg w_1_1, if_neg w_1_2, if_neg w_1_3, if_neg w_1_4, if_neg w_1_5, if_pos w_1_6]) dX4_count_104
  by_cases w_1_7 : (z) = 7
  · refine lv_tableIn (off := 104) (tgt := 105) hx hb dX4_count_1 (by rw [w_1_7]; decide) (by rw [w_1_7]; decide) (by rw [w_1_7]; rfl) (by decide) ?_
    obtain rfl : z = nI 7 := w_1_7
    have w_1_7 : nI 7 = (7 : Int32) := rfl
    refine lv_aload_n hx hb dX4_count_105 rfl (lv_at hl 0 rfl) ?_
    refine gf_X4_X4_now hF hP 0 rfl rfl dX4_count_106 ?_
    refine xN_const hx hb 1 dX4_count_109 (by decide) ?_
    refine lv_iload_n hx hb dX4_count_110 rfl (lv_at hl 1 rfl) ?_
    refine xN_add hx hb dX4_count_111 ?_
    refine xN_bi hx hb 7 dX4_count_112 (by decide) ?_
    refine xN_sub hx hb (by omega) dX4_count_114 ?_
    refine xA_ild hF hP 1 rfl (by omega) (by decide) (v := nI (pgN w)) (hW.r1) dX4_count_115 ?_
    exact xret_i (V := nI (pgN w)) hF hret hlocks (by unfold countA; rw [if_neg w_1_0, if_neg w_1_1, if_neg w_1_2, if_neg w_1_3, if_neg w_1_4, if_neg w_1_5, if_neg w_1_6, if_pos w_1_7]) dX4_count_116
  by_cases w_1_8 : (z) = 8
  · refine lv_tableIn (off := 104) (tgt := 105) hx hb dX4_count_1 (by rw [w_1_8]; decide) (by rw [w_1_8]; decide) (by rw [w_1_8]; rfl) (by decide) ?_
    obtain rfl : z = nI 8 := w_1_8
    have w_1_8 : nI 8 = (8 : Int32) := rfl
    refine lv_aload_n hx hb dX4_count_105 rfl (lv_at hl 0 rfl) ?_
    refine gf_X4_X4_now hF hP 0 rfl rfl dX4_count_106 ?_
    refine xN_const hx hb 1 dX4_count_109 (by decide) ?_
    refine lv_iload_n hx hb dX4_count_110 rfl (lv_at hl 1 rfl) ?_
    refine xN_add hx hb dX4_count_111 ?_
    refine xN_bi hx hb 7 dX4_count_112 (by decide) ?_
    refine xN_sub hx hb (by omega) dX4_count_114 ?_
    refine xA_ild hF hP 1 rfl (by omega) (by decide) (v := nI (stN w)) (hW.r2) dX4_count_115 ?_
    exact xret_i (V := nI (stN w)) hF hret hlocks (by unfold countA; rw [if_neg w_1_0, if_neg w_1_1, if_neg w_1_2, if_neg w_1_3, if_neg w_1_4, if_neg w_1_5, if_neg w_1_6, if_neg w_1_7, if_pos w_1_8]) dX4_count_116
  by_cases w_1_9 : (z) = 9
  · refine lv_tableIn (off := 104) (tgt := 105) hx hb dX4_count_1 (by rw [w_1_9]; decide) (by rw [w_1_9]; decide) (by rw [w_1_9]; rfl) (by decide) ?_
    obtain rfl : z = nI 9 := w_1_9
    have w_1_9 : nI 9 = (9 : Int32) := rfl
    refine lv_aload_n hx hb dX4_count_105 rfl (lv_at hl 0 rfl) ?_
    refine gf_X4_X4_now hF hP 0 rfl rfl dX4_count_106 ?_
    refine xN_const hx hb 1 dX4_count_109 (by decide) ?_
    refine lv_iload_n hx hb dX4_count_110 rfl (lv_at hl 1 rfl) ?_
    refine xN_add hx hb dX4_count_111 ?_
    refine xN_bi hx hb 7 dX4_count_112 (by decide) ?_
    refine xN_sub hx hb (by omega) dX4_count_114 ?_
    refine xA_ild hF hP 1 rfl (by omega) (by decide) (v := nI (wrN w)) (hW.r3) dX4_count_115 ?_
    exact xret_i (V := nI (wrN w)) hF hret hlocks (by unfold countA; rw [if_neg w_1_0, if_neg w_1_1, if_neg w_1_2, if_neg w_1_3, if_neg w_1_4, if_neg w_1_5, if_neg w_1_6, if_neg w_1_7, if_neg w_1_8, if_pos w_1_9]) dX4_count_116
  by_cases w_1_10 : (z) = 10
  · refine lv_tableIn (off := 116) (tgt := 117) hx hb dX4_count_1 (by rw [w_1_10]; decide) (by rw [w_1_10]; decide) (by rw [w_1_10]; rfl) (by decide) ?_
    refine lv_aload_n hx hb dX4_count_117 rfl (lv_at hl 0 rfl) ?_
    refine gf_X4_X4_states hF hP 0 rfl rfl dX4_count_118 ?_
    exact xret_i (V := nI (zs)) hF hret hlocks (by unfold countA; rw [if_neg w_1_0, if_neg w_1_1, if_neg w_1_2, if_neg w_1_3, if_neg w_1_4, if_neg w_1_5, if_neg w_1_6, if_neg w_1_7, if_neg w_1_8, if_neg w_1_9, if_pos w_1_10]) dX4_count_121
  by_cases w_1_11 : (z) = 11
  · refine lv_tableIn (off := 121) (tgt := 122) hx hb dX4_count_1 (by rw [w_1_11]; decide) (by rw [w_1_11]; decide) (by rw [w_1_11]; rfl) (by decide) ?_
    refine lv_aload_n hx hb dX4_count_122 rfl (lv_at hl 0 rfl) ?_
    refine gf_X4_X4_length hF hP 0 rfl rfl dX4_count_123 ?_
    exact xret_i (V := nI (zl)) hF hret hlocks (by unfold countA; rw [if_neg w_1_0, if_neg w_1_1, if_neg w_1_2, if_neg w_1_3, if_neg w_1_4, if_neg w_1_5, if_neg w_1_6, if_neg w_1_7, if_neg w_1_8, if_neg w_1_9, if_neg w_1_10, if_pos w_1_11]) dX4_count_126
  refine lv_tableOut (tgt := 127) hx hb dX4_count_1 (by have a0 := lv_neT w_1_0 (a := 0) (by decide); have a1 := lv_neT w_1_1 (a := 1) (by decide); have a2 := lv_neT w_1_2 (a := 2) (by decide); have a3 := lv_neT w_1_3 (a := 3) (by decide); have a4 := lv_neT w_1_4 (a := 4) (by decide); have a5 := lv_neT w_1_5 (a := 5) (by decide); have a6 := lv_neT w_1_6 (a := 6) (by decide); have a7 := lv_neT w_1_7 (a := 7) (by decide); have a8 := lv_neT w_1_8 (a := 8) (by decide); have a9 := lv_neT w_1_9 (a := 9) (by decide); have a10 := lv_neT w_1_10 (a := 10) (by decide); have a11 := lv_neT w_1_11 (a := 11) (by decide); omega) (by decide) ?_
  refine lv_bipush hx hb (v := (-2)) dX4_count_127 (by decide) ?_
  exact xret_i (V := (-2)) hF hret hlocks (by unfold countA; rw [if_neg w_1_0, if_neg w_1_1, if_neg w_1_2, if_neg w_1_3, if_neg w_1_4, if_neg w_1_5, if_neg w_1_6, if_neg w_1_7, if_neg w_1_8, if_neg w_1_9, if_neg w_1_10, if_neg w_1_11]) dX4_count_129
