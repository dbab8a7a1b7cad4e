/-! the class reads the text -/
theorem upd_cong {f h : Nat → Int32} {n : Nat} {x : Int32} (hq : ∀ q, q < n → f q = h q) : ∀ q, q < n + 1 → upd f n x q = upd h n x q := fun q h1 => by
  by_cases e : q = n
  · subst e; rw [upd_at, upd_at]
  · rw [upd_off e, upd_off e]; exact hq q (by omega)
set_option maxHeartbeats 4000000 in
set_option maxRecDepth 100000 in
theorem c_X2_columnRead (l : Launch) (g : XG) (xo xc xl xn xr : Nat) (hxr : xr < 1000)  : Met l yX2_columnRead (ww yX2_columnRead cX2_columnRead 1 (some .int)) (rmD 0) (xP g [.ref xo] (fun H => va_P g.1 vwCl [(xo, .inr (2, [.ref xc, .ref xl, .int (nI xn), .int (nI xr)]))] H)) (vp_Si (fun r9 => r9 = nI (xr % 4))) 0 0 (fun _ => False) := by
  refine xMet (by decide) rfl (Nat.le_of_ble_eq_true rfl) ?_
  intro p e s m below meth c ls hF hZ hh hret hlocks hin hl
  have hx := hF.1.1
  have hb := hF.1.2.1
  have hP := hh
  have hP : va_P g.1 vwCl [(xo, .inr (2, [.ref xc, .ref xl, .int (nI xn), .int (nI xr)]))] s.heap := hP
  have hl : lv_has ls 1 [(0, .ref xo)] := hl
  refine lv_aload_n hx hb dX2_columnRead_0 rfl (lv_at hl 0 rfl) ?_
  refine gf_X2_X2_cellsRead hF hP 0 rfl rfl dX2_columnRead_1 ?_
  refine xN_const hx hb 4 dX2_columnRead_4 (by decide) ?_
  refine xN_rem hx hb (by omega) (by omega) (by omega) dX2_columnRead_5 ?_
  exact xret_i (V := nI (xr % 4)) hF hret hlocks (rfl) dX2_columnRead_6
set_option maxHeartbeats 4000000 in
set_option maxRecDepth 100000 in
theorem c_X2_separator (l : Launch) (g : XG) (xo xc xl xn xr : Nat) (hxr : xr < 1000)  : Met l yX2_separator (ww yX2_separator cX2_separator 1 (some .char)) (rmD 1) (xP g [.ref xo] (fun H => va_P g.1 vwCl [(xo, .inr (2, [.ref xc, .ref xl, .int (nI xn), .int (nI xr)]))] H)) (vp_Si (fun r9 => r9 = sepC (xr % 4))) 0 0 (fun _ => False) := by
  refine xMet (by decide) rfl (Nat.le_of_ble_eq_true rfl) ?_
  intro p e s m below meth c ls hF hZ hh hret hlocks hin hl
  have hx := hF.1.1
  have hb := hF.1.2.1
  have hP := hh
  have hP : va_P g.1 vwCl [(xo, .inr (2, [.ref xc, .ref xl, .int (nI xn), .int (nI xr)]))] s.heap := hP
  have hl : lv_has ls 1 [(0, .ref xo)] := hl
  refine lv_aload_n hx hb dX2_separator_0 rfl (lv_at hl 0 rfl) ?_
  refine vp_callSi (va_Run.run (xrV hF (c_X2_columnRead l g xo xc xl xn xr (by omega) ) cal_X2_columnRead q_152 ⟨by decide, by decide⟩ rfl rfl rfl (va_recv hF.2.1 hP (ci := 2) (q0 := 0) rfl rfl) hZ (hP.sub [0] rfl) hl.1 rfl (Nat.le_of_ble_eq_true rfl) dX2_separator_1 ⟨Nat.le_refl _, Nat.le_refl _⟩)) (fun r_ h_ => ?_)
  subst h_
  refine xN_const hx hb 3 dX2_separator_4 (by decide) ?_
  refine xC_ne (tgt := 13) hx hb (by omega) (by omega) dX2_separator_5 (by decide) (fun c_5 => ?_) (fun c_5 => ?_)
  · refine xN_bi hx hb 44 dX2_separator_13 (by decide) ?_
    exact xret_t (V := nI (44)) hF hret hlocks rfl (by unfold sepC; rw [if_neg c_5]; rfl) dX2_separator_15
  · refine xN_bi hx hb 59 dX2_separator_8 (by decide) ?_
    refine lv_goto (tgt := 15) hx hb dX2_separator_10 (by decide) ?_
    exact xret_t (V := nI (59)) hF hret hlocks rfl (by unfold sepC; rw [if_pos c_5]; rfl) dX2_separator_15
set_option maxHeartbeats 4000000 in
set_option maxRecDepth 100000 in
theorem c_X2_rowsRead (l : Launch) (g : XG) (xo xc xl xn xr : Nat) (hxr : xr < 1000)  : Met l yX2_rowsRead (ww yX2_rowsRead cX2_rowsRead 1 (some .int)) (rmD 0) (xP g [.ref xo] (fun H => va_P g.1 vwCl [(xo, .inr (2, [.ref xc, .ref xl, .int (nI xn), .int (nI xr)]))] H)) (vp_Si (fun r9 => r9 = nI (xr / 4))) 0 0 (fun _ => False) := by
  refine xMet (by decide) rfl (Nat.le_of_ble_eq_true rfl) ?_
  intro p e s m below meth c ls hF hZ hh hret hlocks hin hl
  have hx := hF.1.1
  have hb := hF.1.2.1
  have hP := hh
  have hP : va_P g.1 vwCl [(xo, .inr (2, [.ref xc, .ref xl, .int (nI xn), .int (nI xr)]))] s.heap := hP
  have hl : lv_has ls 1 [(0, .ref xo)] := hl
  refine lv_aload_n hx hb dX2_rowsRead_0 rfl (lv_at hl 0 rfl) ?_
  refine gf_X2_X2_cellsRead hF hP 0 rfl rfl dX2_rowsRead_1 ?_
  refine xN_const hx hb 4 dX2_rowsRead_4 (by decide) ?_
  refine xN_div hx hb (by omega) (by omega) (by omega) dX2_rowsRead_5 ?_
  exact xret_i (V := nI (xr / 4)) hF hret hlocks (rfl) dX2_rowsRead_6
set_option maxHeartbeats 4000000 in
set_option maxRecDepth 100000 in
theorem c_X2_withDigit (l : Launch) (g : XG) (xo xc xl xn xr : Nat) (hxr : xr < 1000) (y z : Int32) : Met l yX2_withDigit (ww yX2_withDigit cX2_withDigit 4 (some .int)) (rmD 1) (xP g [.ref xo, .int (y), .int (z)] (fun H => va_P g.1 vwCl [(xo, .inr (2, [.ref xc, .ref xl, .int (nI xn), .int (nI xr)]))] H)) (vp_Si (fun r9 => r9 = wdg (xr % 4) y z)) 0 0 (fun _ => False) := by
  refine xMet (by decide) rfl (Nat.le_of_ble_eq_true rfl) ?_
  intro p e s m below meth c ls hF hZ hh hret hlocks hin hl
  have hx := hF.1.1
  have hb := hF.1.2.1
  have hP := hh
  have hP : va_P g.1 vwCl [(xo, .inr (2, [.ref xc, .ref xl, .int (nI xn), .int (nI xr)]))] s.heap := hP
  have hl : lv_has ls 4 [(0, .ref xo), (1, .int (y)), (2, .int (z))] := hl
  have hSB : va_S (xB g) s.heap s.heap [] := va_S.rf
  refine lv_iload_n hx hb dX2_withDigit_0 rfl (lv_at hl 1 rfl) ?_
  refine lv_bipush hx hb (v := (-7)) dX2_withDigit_1 (by decide) ?_
  refine lv_icmp_eq (tgt := 13) hx hb dX2_withDigit_3 (by decide) (fun c_3 => ?_) (fun c_3 => ?_)
  · refine lv_iload_n hx hb dX2_withDigit_13 rfl (lv_at hl 1 rfl) ?_
    refine lv_bipush hx hb (v := (-7)) dX2_withDigit_14 (by decide) ?_
    refine lv_icmp_ne (tgt := 23) hx hb dX2_withDigit_16 (by decide) (fun c_16 => absurd c_3 c_16) (fun c_16 => ?_)
    refine lv_iload_n hx hb dX2_withDigit_19 rfl (lv_at hl 2 rfl) ?_
    refine lv_goto (tgt := 29) hx hb dX2_withDigit_20 (by decide) ?_
    refine lv_istore_n (lv' := [(3, .int (z)), (0, .ref xo), (1, .int (y)), (2, .int (z))]) hx hb dX2_withDigit_29 rfl hl (by decide) rfl (fun ls hl => ?_)
    refine lv_iload_n hx hb dX2_withDigit_30 rfl (lv_at hl 0 rfl) ?_
    refine va_getsN hx hb (hZ.1.1) hSB hF.1.2.2.2.1 (va_Nw.use rfl (hF.2.2 _ n_12)) (fun _ h => h) dX2_withDigit_31 ?_
    refine lv_aload_n hx hb dX2_withDigit_34 rfl (lv_at hl 1 rfl) ?_
    refine vp_callSi (va_Run.run (xrV hF (c_X2_columnRead l g xo xc xl xn xr (by omega) ) cal_X2_columnRead q_152 ⟨by decide, by decide⟩ rfl rfl rfl (va_recv hF.2.1 hP (ci := 2) (q0 := 0) rfl rfl) hZ (hP.sub [0] rfl) hl.1 rfl (Nat.le_of_ble_eq_true rfl) dX2_withDigit_35 ⟨Nat.le_refl _, Nat.le_refl _⟩)) (fun r_ h_ => ?_)
    subst h_
    refine vp_callSi (va_Run.run (xrSN hF (c_X3_atZ0 l g (xr % 4) (by omega)) cal_X3_at n_13 ⟨by decide, by decide⟩ rfl rfl rfl hZ (trivial) hl.1 rfl (Nat.le_of_ble_eq_true rfl) dX2_withDigit_38 ⟨Nat.le_refl _, Nat.le_refl _⟩)) (fun r_ h_ => ?_)
    subst h_
    refine lv_icmp_gt (tgt := 48) hx hb dX2_withDigit_41 (by decide) (fun c_41 => ?_) (fun c_41 => ?_)
    · refine lv_bipush hx hb (v := (-8)) dX2_withDigit_48 (by decide) ?_
      exact xret_i (V := (-8)) hF hret hlocks (by unfold wdg; rw [if_neg (fun q => q.1 c_3), if_pos c_3, if_neg (Int32.not_le.mpr c_41)]) dX2_withDigit_50
    · refine lv_iload_n hx hb dX2_withDigit_44 rfl (lv_at hl 0 rfl) ?_
      refine lv_goto (tgt := 50) hx hb dX2_withDigit_45 (by decide) ?_
      exact xret_i (V := (z)) hF hret hlocks (by unfold wdg; rw [if_neg (fun q => q.1 c_3), if_pos c_3, if_pos (Int32.not_lt.mp c_41)]) dX2_withDigit_50
  · refine lv_iload_n hx hb dX2_withDigit_6 rfl (lv_at hl 1 rfl) ?_
    refine lv_if_gt (tgt := 13) hx hb dX2_withDigit_7 (by decide) (fun c_7 => ?_) (fun c_7 => ?_)
    · refine lv_iload_n hx hb dX2_withDigit_13 rfl (lv_at hl 1 rfl) ?_
      refine lv_bipush hx hb (v := (-7)) dX2_withDigit_14 (by decide) ?_
      refine lv_icmp_ne (tgt := 23) hx hb dX2_withDigit_16 (by decide) (fun c_16 => ?_) (fun c_16 => absurd c_16 c_3)
      refine lv_iload_n hx hb dX2_withDigit_23 rfl (lv_at hl 1 rfl) ?_
      refine lv_bipush hx hb (v := (10)) dX2_withDigit_24 (by decide) ?_
      refine lv_imul hx hb dX2_withDigit_26 ?_
      refine lv_iload_n hx hb dX2_withDigit_27 rfl (lv_at hl 2 rfl) ?_
      refine lv_iadd hx hb dX2_withDigit_28 ?_
      refine lv_istore_n (lv' := [(3, .int (((y) * (10)) + (z))), (0, .ref xo), (1, .int (y)), (2, .int (z))]) hx hb dX2_withDigit_29 rfl hl (by decide) rfl (fun ls hl => ?_)
      refine lv_iload_n hx hb dX2_withDigit_30 rfl (lv_at hl 0 rfl) ?_
      refine va_getsN hx hb (hZ.1.1) hSB hF.1.2.2.2.1 (va_Nw.use rfl (hF.2.2 _ n_12)) (fun _ h => h) dX2_withDigit_31 ?_
      refine lv_aload_n hx hb dX2_withDigit_34 rfl (lv_at hl 1 rfl) ?_
      refine vp_callSi (va_Run.run (xrV hF (c_X2_columnRead l g xo xc xl xn xr (by omega) ) cal_X2_columnRead q_152 ⟨by decide, by decide⟩ rfl rfl rfl (va_recv hF.2.1 hP (ci := 2) (q0 := 0) rfl rfl) hZ (hP.sub [0] rfl) hl.1 rfl (Nat.le_of_ble_eq_true rfl) dX2_withDigit_35 ⟨Nat.le_refl _, Nat.le_refl _⟩)) (fun r_ h_ => ?_)
      subst h_
      refine vp_callSi (va_Run.run (xrSN hF (c_X3_atZ0 l g (xr % 4) (by omega)) cal_X3_at n_13 ⟨by decide, by decide⟩ rfl rfl rfl hZ (trivial) hl.1 rfl (Nat.le_of_ble_eq_true rfl) dX2_withDigit_38 ⟨Nat.le_refl _, Nat.le_refl _⟩)) (fun r_ h_ => ?_)
      subst h_
      refine lv_icmp_gt (tgt := 48) hx hb dX2_withDigit_41 (by decide) (fun c_41 => ?_) (fun c_41 => ?_)
      · refine lv_bipush hx hb (v := (-8)) dX2_withDigit_48 (by decide) ?_
        exact xret_i (V := (-8)) hF hret hlocks (by unfold wdg; rw [if_neg (fun q => Int32.not_le.mpr c_7 q.2), if_neg c_3, if_neg (Int32.not_le.mpr c_41)]) dX2_withDigit_50
      · refine lv_iload_n hx hb dX2_withDigit_44 rfl (lv_at hl 0 rfl) ?_
        refine lv_goto (tgt := 50) hx hb dX2_withDigit_45 (by decide) ?_
        exact xret_i (V := (((y) * (10)) + (z))) hF hret hlocks (by unfold wdg; rw [if_neg (fun q => Int32.not_le.mpr c_7 q.2), if_neg c_3, if_pos (Int32.not_lt.mp c_41)]) dX2_withDigit_50
    · refine lv_bipush hx hb (v := (-8)) dX2_withDigit_10 (by decide) ?_
      exact xret_i (V := (-8)) hF hret hlocks ((wdg_0 c_3 (Int32.not_lt.mp c_7)).symm) dX2_withDigit_12
set_option maxHeartbeats 4000000 in
set_option maxRecDepth 100000 in
theorem c_X2_grownBy (l : Launch) (g : XG) (xo xc xl xn xr : Nat) (hxr : xr < 1000) (y z : Int32) : Met l yX2_grownBy (ww yX2_grownBy cX2_grownBy 3 (some .int)) (rmD 2) (xP g [.ref xo, .int (y), .int (z)] (fun H => va_P g.1 vwCl [(xo, .inr (2, [.ref xc, .ref xl, .int (nI xn), .int (nI xr)]))] H)) (vp_Si (fun r9 => r9 = grw (xr % 4) y z)) 0 0 (fun _ => False) := by
  refine xMet (by decide) rfl (Nat.le_of_ble_eq_true rfl) ?_
  intro p e s m below meth c ls hF hZ hh hret hlocks hin hl
  have hx := hF.1.1
  have hb := hF.1.2.1
  have hP := hh
  have hP : va_P g.1 vwCl [(xo, .inr (2, [.ref xc, .ref xl, .int (nI xn), .int (nI xr)]))] s.heap := hP
  have hl : lv_has ls 3 [(0, .ref xo), (1, .int (y)), (2, .int (z))] := hl
  refine lv_iload_n hx hb dX2_grownBy_0 rfl (lv_at hl 2 rfl) ?_
  refine lv_bipush hx hb (v := (48)) dX2_grownBy_1 (by decide) ?_
  refine lv_icmp_lt (tgt := 22) hx hb dX2_grownBy_3 (by decide) (fun c_3 => ?_) (fun c_3 => ?_)
  · have hnd : ¬ (48 ≤ z ∧ z ≤ 57) := fun q => Int32.not_le.mpr c_3 q.1
    refine lv_iload_n hx hb dX2_grownBy_22 rfl (lv_at hl 1 rfl) ?_
    refine lv_bipush hx hb (v := (-7)) dX2_grownBy_23 (by decide) ?_
    refine lv_icmp_ne (tgt := 37) hx hb dX2_grownBy_25 (by decide) (fun c_25 => ?_) (fun c_25 => ?_)
    · refine lv_iload_n hx hb dX2_grownBy_37 rfl (lv_at hl 1 rfl) ?_
      refine lv_bipush hx hb (v := (-7)) dX2_grownBy_38 (by decide) ?_
      refine lv_icmp_ne (tgt := 54) hx hb dX2_grownBy_40 (by decide) (fun c_40 => ?_) (fun c_40 => absurd c_40 c_25)
      refine lv_bipush hx hb (v := (-8)) dX2_grownBy_54 (by decide) ?_
      exact xret_i (V := (-8)) hF hret hlocks (by unfold grw; rw [if_neg hnd, if_neg (fun q => c_25 q.1), if_neg (fun q => c_25 q.1)]) dX2_grownBy_56
    · refine lv_iload_n hx hb dX2_grownBy_28 rfl (lv_at hl 2 rfl) ?_
      refine lv_bipush hx hb (v := (45)) dX2_grownBy_29 (by decide) ?_
      refine lv_icmp_ne (tgt := 37) hx hb dX2_grownBy_31 (by decide) (fun c_31 => ?_) (fun c_31 => ?_)
      · refine lv_iload_n hx hb dX2_grownBy_37 rfl (lv_at hl 1 rfl) ?_
        refine lv_bipush hx hb (v := (-7)) dX2_grownBy_38 (by decide) ?_
        refine lv_icmp_ne (tgt := 54) hx hb dX2_grownBy_40 (by decide) (fun c_40 => absurd c_25 c_40) (fun c_40 => ?_)
        refine lv_iload_n hx hb dX2_grownBy_43 rfl (lv_at hl 2 rfl) ?_
        refine lv_bipush hx hb (v := (39)) dX2_grownBy_44 (by decide) ?_
        refine lv_icmp_ne (tgt := 54) hx hb dX2_grownBy_46 (by decide) (fun c_46 => ?_) (fun c_46 => ?_)
        · refine lv_bipush hx hb (v := (-8)) dX2_grownBy_54 (by decide) ?_
          exact xret_i (V := (-8)) hF hret hlocks (by unfold grw; rw [if_neg hnd, if_neg (fun q => c_31 q.2), if_neg (fun q => c_46 q.2)]) dX2_grownBy_56
        · refine lv_bipush hx hb (v := (-6)) dX2_grownBy_49 (by decide) ?_
          refine lv_goto (tgt := 56) hx hb dX2_grownBy_51 (by decide) ?_
          exact xret_i (V := (-6)) hF hret hlocks (by unfold grw; rw [if_neg hnd, if_neg (fun q => c_31 q.2), if_pos ⟨c_25, c_46⟩]) dX2_grownBy_56
      · refine lv_bipush hx hb (v := (-5)) dX2_grownBy_34 (by decide) ?_
        exact xret_i (V := (-5)) hF hret hlocks (by unfold grw; rw [if_neg hnd, if_pos ⟨c_25, c_31⟩]) dX2_grownBy_36
  · refine lv_iload_n hx hb dX2_grownBy_6 rfl (lv_at hl 2 rfl) ?_
    refine lv_bipush hx hb (v := (57)) dX2_grownBy_7 (by decide) ?_
    refine lv_icmp_gt (tgt := 22) hx hb dX2_grownBy_9 (by decide) (fun c_9 => ?_) (fun c_9 => ?_)
    · have hnd : ¬ (48 ≤ z ∧ z ≤ 57) := fun q => Int32.not_le.mpr c_9 q.2
      refine lv_iload_n hx hb dX2_grownBy_22 rfl (lv_at hl 1 rfl) ?_
      refine lv_bipush hx hb (v := (-7)) dX2_grownBy_23 (by decide) ?_
      refine lv_icmp_ne (tgt := 37) hx hb dX2_grownBy_25 (by decide) (fun c_25 => ?_) (fun c_25 => ?_)
      · refine lv_iload_n hx hb dX2_grownBy_37 rfl (lv_at hl 1 rfl) ?_
        refine lv_bipush hx hb (v := (-7)) dX2_grownBy_38 (by decide) ?_
        refine lv_icmp_ne (tgt := 54) hx hb dX2_grownBy_40 (by decide) (fun c_40 => ?_) (fun c_40 => absurd c_40 c_25)
        refine lv_bipush hx hb (v := (-8)) dX2_grownBy_54 (by decide) ?_
        exact xret_i (V := (-8)) hF hret hlocks (by unfold grw; rw [if_neg hnd, if_neg (fun q => c_25 q.1), if_neg (fun q => c_25 q.1)]) dX2_grownBy_56
      · refine lv_iload_n hx hb dX2_grownBy_28 rfl (lv_at hl 2 rfl) ?_
        refine lv_bipush hx hb (v := (45)) dX2_grownBy_29 (by decide) ?_
        refine lv_icmp_ne (tgt := 37) hx hb dX2_grownBy_31 (by decide) (fun c_31 => ?_) (fun c_31 => ?_)
        · refine lv_iload_n hx hb dX2_grownBy_37 rfl (lv_at hl 1 rfl) ?_
          refine lv_bipush hx hb (v := (-7)) dX2_grownBy_38 (by decide) ?_
          refine lv_icmp_ne (tgt := 54) hx hb dX2_grownBy_40 (by decide) (fun c_40 => absurd c_25 c_40) (fun c_40 => ?_)
          refine lv_iload_n hx hb dX2_grownBy_43 rfl (lv_at hl 2 rfl) ?_
          refine lv_bipush hx hb (v := (39)) dX2_grownBy_44 (by decide) ?_
          refine lv_icmp_ne (tgt := 54) hx hb dX2_grownBy_46 (by decide) (fun c_46 => ?_) (fun c_46 => ?_)
          · refine lv_bipush hx hb (v := (-8)) dX2_grownBy_54 (by decide) ?_
            exact xret_i (V := (-8)) hF hret hlocks (by unfold grw; rw [if_neg hnd, if_neg (fun q => c_31 q.2), if_neg (fun q => c_46 q.2)]) dX2_grownBy_56
          · refine lv_bipush hx hb (v := (-6)) dX2_grownBy_49 (by decide) ?_
            refine lv_goto (tgt := 56) hx hb dX2_grownBy_51 (by decide) ?_
            exact xret_i (V := (-6)) hF hret hlocks (by unfold grw; rw [if_neg hnd, if_neg (fun q => c_31 q.2), if_pos ⟨c_25, c_46⟩]) dX2_grownBy_56
        · refine lv_bipush hx hb (v := (-5)) dX2_grownBy_34 (by decide) ?_
          exact xret_i (V := (-5)) hF hret hlocks (by unfold grw; rw [if_neg hnd, if_pos ⟨c_25, c_31⟩]) dX2_grownBy_36
    · refine lv_aload_n hx hb dX2_grownBy_12 rfl (lv_at hl 0 rfl) ?_
      refine lv_iload_n hx hb dX2_grownBy_13 rfl (lv_at hl 1 rfl) ?_
      refine lv_iload_n hx hb dX2_grownBy_14 rfl (lv_at hl 2 rfl) ?_
      refine lv_bipush hx hb (v := (48)) dX2_grownBy_15 (by decide) ?_
      refine lv_isub hx hb dX2_grownBy_17 ?_
      refine vp_callSi (va_Run.run (xrV hF (c_X2_withDigit l g xo xc xl xn xr (by omega) ((y)) (((z) - (48)))) cal_X2_withDigit q_148 ⟨by decide, by decide⟩ rfl rfl rfl (va_recv hF.2.1 hP (ci := 2) (q0 := 0) rfl rfl) hZ (hP.sub [0] rfl) hl.1 rfl (Nat.le_of_ble_eq_true rfl) dX2_grownBy_18 ⟨Nat.le_refl _, Nat.le_refl _⟩)) (fun r_ h_ => ?_)
      subst h_
      exact xret_i (V := (wdg (xr % 4) ((y)) (((z) - (48))))) hF hret hlocks (by unfold grw; rw [if_pos ⟨Int32.not_lt.mp c_3, Int32.not_lt.mp c_9⟩]) dX2_grownBy_21
set_option maxHeartbeats 4000000 in
set_option maxRecDepth 100000 in
theorem c_X2_endCell (l : Launch) (g : XG) (xo xc xl xn xr : Nat) (tx cl : Nat → Int32) (hD : va_D (xin [xo, xc, xl]) [(xo, .inr (2, [.ref xc, .ref xl, .int (nI xn), .int (nI xr)])), (xc, .inl (g.2.1 1, 60, .inl tx)), (xl, .inl (g.2.1 0, 60, .inl cl))]) (hAB : ∀ q, xin [xo, xc, xl] q → xB g q) (x : Int32) (hxr : xr < 60) : Met l yX2_endCell (ww yX2_endCell cX2_endCell 2 none) (rmD 0) (xP g [.ref xo, .int (x)] (fun H => va_P g.1 vwCl [(xo, .inr (2, [.ref xc, .ref xl, .int (nI xn), .int (nI xr)])), (xc, .inl (g.2.1 1, 60, .inl tx)), (xl, .inl (g.2.1 0, 60, .inl cl))] H)) (xQv (fun H => va_P g.1 vwCl [(xo, .inr (2, [.ref xc, .ref xl, .int (nI xn), .int (nI (xr + 1))])), (xc, .inl (g.2.1 1, 60, .inl tx)), (xl, .inl (g.2.1 0, 60, .inl (upd cl xr x)))] H) (xin [xo, xc, xl])) 0 0 (xin [xo, xc, xl]) := by
  refine xMetM (by decide) rfl (Nat.le_of_ble_eq_true rfl) ?_
  intro p e s m below meth c ls H locs hF hZ hh hS hret hlocks hin hl
  have hx := hF.1.1
  have hb := hF.1.2.1
  have hP := hh
  have hP : va_P g.1 vwCl [(xo, .inr (2, [.ref xc, .ref xl, .int (nI xn), .int (nI xr)])), (xc, .inl (g.2.1 1, 60, .inl tx)), (xl, .inl (g.2.1 0, 60, .inl cl))] H := hP
  have hl : lv_has ls 2 [(0, .ref xo), (1, .int (x))] := hl
  refine lv_aload_n hx hb dX2_endCell_0 rfl (lv_at hl 0 rfl) ?_
  refine gf_X2_X2_cellsRead hF hP 0 rfl rfl dX2_endCell_1 ?_
  refine xI_lt (tgt := 39) hx hb (by omega) dX2_endCell_4 (by decide) ?_
  refine lv_aload_n hx hb dX2_endCell_7 rfl (lv_at hl 0 rfl) ?_
  refine gf_X2_X2_cellsRead hF hP 0 rfl rfl dX2_endCell_8 ?_
  refine lv_aload_n hx hb dX2_endCell_11 rfl (lv_at hl 0 rfl) ?_
  refine gf_X2_X2_cells hF hP 0 rfl rfl dX2_endCell_12 ?_
  refine xA_len hF hP 2 0 rfl rfl dX2_endCell_15 ?_
  refine xC_ge (tgt := 39) hx hb (by omega) (by omega) dX2_endCell_16 (by decide) (fun c_16 => absurd c_16 (by omega)) (fun c_16 => ?_)
  refine lv_aload_n hx hb dX2_endCell_19 rfl (lv_at hl 0 rfl) ?_
  refine gf_X2_X2_cells hF hP 0 rfl rfl dX2_endCell_20 ?_
  refine lv_aload_n hx hb dX2_endCell_23 rfl (lv_at hl 0 rfl) ?_
  refine gf_X2_X2_cellsRead hF hP 0 rfl rfl dX2_endCell_24 ?_
  refine lv_iload_n hx hb dX2_endCell_27 rfl (lv_at hl 1 rfl) ?_
  refine xA_ist hF hP hD hS 2 rfl (by omega) (by decide) dX2_endCell_28 (fun H locs hP hS => ?_)
  have hP : va_P g.1 vwCl [(xo, .inr (2, [.ref xc, .ref xl, .int (nI xn), .int (nI xr)])), (xc, .inl (g.2.1 1, 60, .inl (tx))), (xl, .inl (g.2.1 0, 60, .inl (upd (cl) (xr) ((x)))))] H := hP
  have hD : va_D (xin [xo, xc, xl]) [(xo, .inr (2, [.ref xc, .ref xl, .int (nI xn), .int (nI xr)])), (xc, .inl (g.2.1 1, 60, .inl (tx))), (xl, .inl (g.2.1 0, 60, .inl (upd (cl) (xr) ((x)))))] := (va_D_eqL [xo, xc, xl] rfl rfl hD)
  refine lv_aload_n hx hb dX2_endCell_29 rfl (lv_at hl 0 rfl) ?_
  refine lv_dup hx hb dX2_endCell_30 rfl ?_
  refine gf_X2_X2_cellsRead hF hP 0 rfl rfl dX2_endCell_31 ?_
  refine xN_const hx hb 1 dX2_endCell_34 (by decide) ?_
  refine xN_add hx hb dX2_endCell_35 ?_
  refine pf_X2_X2_cellsRead hF hP hD hS 0 rfl (Nat.le_of_ble_eq_true rfl) dX2_endCell_36 (fun H locs hP hS => ?_)
  have hP : va_P g.1 vwCl [(xo, .inr (2, [.ref xc, .ref xl, .int (nI xn), .int (nI (xr + 1))])), (xc, .inl (g.2.1 1, 60, .inl (tx))), (xl, .inl (g.2.1 0, 60, .inl (upd (cl) (xr) ((x)))))] H := hP
  have hD : va_D (xin [xo, xc, xl]) [(xo, .inr (2, [.ref xc, .ref xl, .int (nI xn), .int (nI (xr + 1))])), (xc, .inl (g.2.1 1, 60, .inl (tx))), (xl, .inl (g.2.1 0, 60, .inl (upd (cl) (xr) ((x)))))] := (va_D_eqL [xo, xc, xl] rfl rfl hD)
  exact xend_v hF hret hlocks hS (hP) dX2_endCell_39
set_option maxHeartbeats 4000000 in
set_option maxRecDepth 100000 in
theorem c_X2_readRows (l : Launch) (g : XG) (xo xc xl xn xr : Nat) (tx cl : Nat → Int32) (hD : va_D (xin [xo, xc, xl]) [(xo, .inr (2, [.ref xc, .ref xl, .int (nI xn), .int (nI xr)])), (xc, .inl (g.2.1 1, 60, .inl tx)), (xl, .inl (g.2.1 0, 60, .inl cl))]) (hAB : ∀ q, xin [xo, xc, xl] q → xB g q) (hxn : xn ≤ 60) : Met l yX2_readRows (ww yX2_readRows cX2_readRows 5 (some .int)) (rmD 3) (xP g [.ref xo] (fun H => va_P g.1 vwCl [(xo, .inr (2, [.ref xc, .ref xl, .int (nI xn), .int (nI xr)])), (xc, .inl (g.2.1 1, 60, .inl tx)), (xl, .inl (g.2.1 0, 60, .inl cl))] H)) (xQi (fun r9 H => (∃ j, PBad tx xn j ∧ r9 = nI j ∧ ∃ (xr2 : Nat) (cl2 : Nat → Int32), va_P g.1 vwCl [(xo, .inr (2, [.ref xc, .ref xl, .int (nI xn), .int (nI xr2)])), (xc, .inl (g.2.1 1, 60, .inl tx)), (xl, .inl (g.2.1 0, 60, .inl cl2))] H) ∨ (∃ (cn : Nat) (en : Int32) (fn cl2 : Nat → Int32), PGood tx xn cn en fn ∧ r9 = -1 ∧ (∀ q, q < cn + 1 → cl2 q = upd fn cn en q) ∧ va_P g.1 vwCl [(xo, .inr (2, [.ref xc, .ref xl, .int (nI xn), .int (nI (cn + 1))])), (xc, .inl (g.2.1 1, 60, .inl tx)), (xl, .inl (g.2.1 0, 60, .inl cl2))] H)) (xin [xo, xc, xl])) 0 0 (xin [xo, xc, xl]) := by
  refine xMetM (by decide) rfl (Nat.le_of_ble_eq_true rfl) ?_
  intro p e s m below meth c ls H locs hF hZ hh hS hret hlocks hin hl
  have hx := hF.1.1
  have hb := hF.1.2.1
  have hP := hh
  have hP : va_P g.1 vwCl [(xo, .inr (2, [.ref xc, .ref xl, .int (nI xn), .int (nI xr)])), (xc, .inl (g.2.1 1, 60, .inl tx)), (xl, .inl (g.2.1 0, 60, .inl cl))] H := hP
  have hl : lv_has ls 5 [(0, .ref xo)] := hl
  refine lv_aload_n hx hb dX2_readRows_0 rfl (lv_at hl 0 rfl) ?_
  refine xN_const hx hb 0 dX2_readRows_1 (by decide) ?_
  refine pf_X2_X2_cellsRead hF hP hD hS 0 rfl (Nat.le_of_ble_eq_true rfl) dX2_readRows_2 (fun H locs hP hS => ?_)
  have hP : va_P g.1 vwCl [(xo, .inr (2, [.ref xc, .ref xl, .int (nI xn), .int (nI 0)])), (xc, .inl (g.2.1 1, 60, .inl (tx))), (xl, .inl (g.2.1 0, 60, .inl (cl)))] H := hP
  have hD : va_D (xin [xo, xc, xl]) [(xo, .inr (2, [.ref xc, .ref xl, .int (nI xn), .int (nI 0)])), (xc, .inl (g.2.1 1, 60, .inl (tx))), (xl, .inl (g.2.1 0, 60, .inl (cl)))] := (va_D_eqL [xo, xc, xl] rfl rfl hD)
  refine lv_bipush hx hb (v := (-7)) dX2_readRows_5 (by decide) ?_
  refine lv_istore_n (lv' := [(1, .int (-7)), (0, .ref xo)]) hx hb dX2_readRows_7 rfl hl (by decide) rfl (fun ls hl => ?_)
  refine xN_const hx hb 0 dX2_readRows_8 (by decide) ?_
  refine lv_istore_n (lv' := [(2, .int (nI 0)), (1, .int (-7)), (0, .ref xo)]) hx hb dX2_readRows_9 rfl hl (by decide) rfl (fun ls hl => ?_)
  refine xloopM (goal := fun ls H locs => W p l e _ s m _ below meth c H locs _ _ _ (F0 m _ ls [])) (fun (z_ : Int32 × Nat × Nat × (Nat → Int32) × (Nat → Int32)) (ls : Array Slot) (H : Heap) (locs : List Loc) => match z_ with | (en, i, cn, fn, cl2) => (i ≤ xn) ∧ (pst tx i = some (cn, en, fn)) ∧ (∀ q, q < cn → cl2 q = fn q) ∧ va_P g.1 vwCl [(xo, .inr (2, [.ref xc, .ref xl, .int (nI xn), .int (nI cn)])), (xc, .inl (g.2.1 1, 60, .inl (tx))), (xl, .inl (g.2.1 0, 60, .inl (cl2)))] H ∧ va_S (xin [xo, xc, xl]) s.heap H locs ∧ lv_has ls 5 [(0, .ref xo), (1, .int (en)), (2, .int (nI i))]) (fun (z_ : Int32 × Nat × Nat × (Nat → Int32) × (Nat → Int32)) => match z_ with | (en, i, cn, fn, cl2) => xn - i) ?_ (-7, 0, 0, fun _ => 0, cl) ls H locs ⟨Nat.zero_le _, rfl, fun q h => absurd h (Nat.not_lt_zero _), hP, hS, lv_sub hl [2, 1, 0] rfl⟩
  rintro ⟨en, i, cn, fn, cl2⟩ ls H locs ⟨I1, I2, I3, hP, hS, hl⟩ ih
  dsimp only at ih
  have hD : va_D (xin [xo, xc, xl]) [(xo, .inr (2, [.ref xc, .ref xl, .int (nI xn), .int (nI cn)])), (xc, .inl (g.2.1 1, 60, .inl (tx))), (xl, .inl (g.2.1 0, 60, .inl (cl2)))] := va_D_eqL [xo, xc, xl] rfl rfl hD
  have hc : 2 * cn ≤ i := pst_lt I2
  refine lv_iload_n hx hb dX2_readRows_10 rfl (lv_at hl 2 rfl) ?_
  refine lv_aload_n hx hb dX2_readRows_11 rfl (lv_at hl 0 rfl) ?_
  refine gf_X2_X2_length hF hP 0 rfl rfl dX2_readRows_12 ?_
  refine xC_ge (tgt := 88) hx hb (by omega) (by omega) dX2_readRows_15 (by decide) (fun c_15 => ?_) (fun c_15 => ?_)
  · have hxi : i = xn := by omega
    have I4 : pst tx xn = some (cn, en, fn) := by rw [← hxi]; exact I2
    refine lv_iload_n hx hb dX2_readRows_88 rfl (lv_at hl 1 rfl) ?_
    refine lv_bipush hx hb (v := (-7)) dX2_readRows_89 (by decide) ?_
    refine lv_icmp_eq (tgt := 102) hx hb dX2_readRows_91 (by decide) (fun c_91 => ?_) (fun c_91 => ?_)
    · refine lv_aload_n hx hb dX2_readRows_102 rfl (lv_at hl 0 rfl) ?_
      refine gf_X2_X2_length hF hP 0 rfl rfl dX2_readRows_103 ?_
      exact xend_i (V := nI (xn)) hF hret hlocks hS (Or.inl ⟨xn, ⟨_, I4, Or.inr ⟨rfl, Or.inl c_91⟩⟩, rfl, _, _, hP⟩) dX2_readRows_106
    · refine lv_aload_n hx hb dX2_readRows_94 rfl (lv_at hl 0 rfl) ?_
      refine vp_callSi (va_Run.run (xrV hF (c_X2_columnRead l g xo xc xl xn cn (by omega) ) cal_X2_columnRead q_152 ⟨by decide, by decide⟩ rfl rfl rfl (va_recv hF.2.1 hP (ci := 2) (q0 := 0) rfl rfl) (hZ.at hS hAB) (hP.sub [0] rfl) hl.1 rfl (Nat.le_of_ble_eq_true rfl) dX2_readRows_95 ⟨Nat.le_refl _, Nat.le_refl _⟩)) (fun r_ h_ => ?_)
      subst h_
      refine xN_const hx hb 3 dX2_readRows_98 (by decide) ?_
      refine xC_eq (tgt := 107) hx hb (by omega) (by omega) dX2_readRows_99 (by decide) (fun c_99 => ?_) (fun c_99 => ?_)
      · refine lv_aload_n hx hb dX2_readRows_107 rfl (lv_at hl 0 rfl) ?_
        refine lv_iload_n hx hb dX2_readRows_108 rfl (lv_at hl 1 rfl) ?_
        refine xcv (xrV hF (c_X2_endCell l g xo xc xl xn cn tx cl2 hD hAB ((en)) (by omega)) cal_X2_endCell q_160 ⟨by decide, by decide⟩ rfl rfl rfl (va_recv hF.2.1 hP (ci := 2) (q0 := 0) rfl rfl) (hZ.at hS hAB) (hP) hl.1 rfl (Nat.le_of_ble_eq_true rfl) dX2_readRows_109 ⟨Nat.le_refl _, Nat.le_refl _⟩) hS (xin_sub [0, 1, 2] rfl) (xin_sub [0, 1, 2] rfl) (fun H locs hq_ hz_ hk_ hS => ?_)
        have hw_ := hq_
        have hP : va_P g.1 vwCl [(xo, .inr (2, [.ref xc, .ref xl, .int (nI xn), .int (nI (cn + 1))])), (xc, .inl (g.2.1 1, 60, .inl (tx))), (xl, .inl (g.2.1 0, 60, .inl (upd cl2 cn ((en)))))] H := xjoin hP hD hw_ hk_ [0, 1, 2] [(true, 0), (true, 1), (true, 2)] rfl rfl rfl
        have hD : va_D (xin [xo, xc, xl]) [(xo, .inr (2, [.ref xc, .ref xl, .int (nI xn), .int (nI (cn + 1))])), (xc, .inl (g.2.1 1, 60, .inl (tx))), (xl, .inl (g.2.1 0, 60, .inl (upd cl2 cn ((en)))))] := va_D_eqL [xo, xc, xl] rfl rfl hD
        refine lv_iconst hx hb (v := (-1)) dX2_readRows_112 (by decide) ?_
        exact xend_i (V := (-1)) hF hret hlocks hS (Or.inr ⟨cn, en, fn, _, ⟨I4, c_91, c_99⟩, rfl, upd_cong I3, hP⟩) dX2_readRows_113
      · refine lv_aload_n hx hb dX2_readRows_102 rfl (lv_at hl 0 rfl) ?_
        refine gf_X2_X2_length hF hP 0 rfl rfl dX2_readRows_103 ?_
        exact xend_i (V := nI (xn)) hF hret hlocks hS (Or.inl ⟨xn, ⟨_, I4, Or.inr ⟨rfl, Or.inr c_99⟩⟩, rfl, _, _, hP⟩) dX2_readRows_106
  · refine lv_iload_n hx hb dX2_readRows_18 rfl (lv_at hl 2 rfl) ?_
    refine lv_aload_n hx hb dX2_readRows_19 rfl (lv_at hl 0 rfl) ?_
    refine gf_X2_X2_characters hF hP 0 rfl rfl dX2_readRows_20 ?_
    refine xA_len hF hP 1 1 rfl rfl dX2_readRows_23 ?_
    refine xC_ge (tgt := 88) hx hb (by omega) (by omega) dX2_readRows_24 (by decide) (fun c_24 => absurd c_24 (by omega)) (fun c_24 => ?_)
    refine lv_aload_n hx hb dX2_readRows_27 rfl (lv_at hl 0 rfl) ?_
    refine gf_X2_X2_characters hF hP 0 rfl rfl dX2_readRows_28 ?_
    refine lv_iload_n hx hb dX2_readRows_31 rfl (lv_at hl 2 rfl) ?_
    refine xA_cld hF hP 1 rfl (by omega) (by decide) (v := (tx (i))) rfl dX2_readRows_32 ?_
    refine lv_istore_n (lv' := [(3, .int (tx (i))), (0, .ref xo), (1, .int (en)), (2, .int (nI i))]) hx hb dX2_readRows_33 rfl hl (by decide) rfl (fun ls hl => ?_)
    refine lv_aload_n hx hb dX2_readRows_34 rfl (lv_at hl 1 rfl) ?_
    refine lv_iload_n hx hb dX2_readRows_35 rfl (lv_at hl 2 rfl) ?_
    refine lv_iload_n hx hb dX2_readRows_36 rfl (lv_at hl 0 rfl) ?_
    refine vp_callSi (va_Run.run (xrV hF (c_X2_grownBy l g xo xc xl xn cn (by omega) ((en)) ((tx (i)))) cal_X2_grownBy q_144 ⟨by decide, by decide⟩ rfl rfl rfl (va_recv hF.2.1 hP (ci := 2) (q0 := 0) rfl rfl) (hZ.at hS hAB) (hP.sub [0] rfl) hl.1 rfl (Nat.le_of_ble_eq_true rfl) dX2_readRows_37 ⟨Nat.le_refl _, Nat.le_refl _⟩)) (fun r_ h_ => ?_)
    subst h_
    refine lv_istore (lv' := [(4, .int (grw (cn % 4) ((en)) ((tx (i))))), (3, .int (tx (i))), (0, .ref xo), (1, .int (en)), (2, .int (nI i))]) hx hb dX2_readRows_40 hl (by decide) rfl (fun ls hl => ?_)
    refine lv_iload hx hb dX2_readRows_42 (lv_at hl 0 rfl) ?_
    refine lv_bipush hx hb (v := (-8)) dX2_readRows_44 (by decide) ?_
    refine lv_icmp_eq (tgt := 55) hx hb dX2_readRows_46 (by decide) (fun c_46 => ?_) (fun c_46 => ?_)
    · refine lv_iload_n hx hb dX2_readRows_55 rfl (lv_at hl 3 rfl) ?_
      refine lv_bipush hx hb (v := (-7)) dX2_readRows_56 (by decide) ?_
      refine lv_icmp_eq (tgt := 80) hx hb dX2_readRows_58 (by decide) (fun c_58 => ?_) (fun c_58 => ?_)
      · refine lv_iload_n hx hb dX2_readRows_80 rfl (lv_at hl 4 rfl) ?_
        exact xend_i (V := nI (i)) hF hret hlocks hS (Or.inl ⟨i, ⟨_, I2, Or.inl ⟨by omega, stp_n c_46 (fun q => q.1 c_58)⟩⟩, rfl, _, _, hP⟩) dX2_readRows_81
      · refine lv_iload_n hx hb dX2_readRows_61 rfl (lv_at hl 1 rfl) ?_
        refine lv_aload_n hx hb dX2_readRows_62 rfl (lv_at hl 2 rfl) ?_
        refine vp_callSi (va_Run.run (xrV hF (c_X2_separator l g xo xc xl xn cn (by omega) ) cal_X2_separator q_156 ⟨by decide, by decide⟩ rfl rfl rfl (va_recv hF.2.1 hP (ci := 2) (q0 := 0) rfl rfl) (hZ.at hS hAB) (hP.sub [0] rfl) hl.1 rfl (Nat.le_of_ble_eq_true rfl) dX2_readRows_63 ⟨Nat.le_refl _, Nat.le_refl _⟩)) (fun r_ h_ => ?_)
        subst h_
        refine lv_icmp_ne (tgt := 80) hx hb dX2_readRows_66 (by decide) (fun c_66 => ?_) (fun c_66 => ?_)
        · refine lv_iload_n hx hb dX2_readRows_80 rfl (lv_at hl 4 rfl) ?_
          exact xend_i (V := nI (i)) hF hret hlocks hS (Or.inl ⟨i, ⟨_, I2, Or.inl ⟨by omega, stp_n c_46 (fun q => c_66 q.2)⟩⟩, rfl, _, _, hP⟩) dX2_readRows_81
        · refine lv_aload_n hx hb dX2_readRows_69 rfl (lv_at hl 2 rfl) ?_
          refine lv_iload_n hx hb dX2_readRows_70 rfl (lv_at hl 3 rfl) ?_
          refine xcv (xrV hF (c_X2_endCell l g xo xc xl xn cn tx cl2 hD hAB ((en)) (by omega)) cal_X2_endCell q_160 ⟨by decide, by decide⟩ rfl rfl rfl (va_recv hF.2.1 hP (ci := 2) (q0 := 0) rfl rfl) (hZ.at hS hAB) (hP) hl.1 rfl (Nat.le_of_ble_eq_true rfl) dX2_readRows_71 ⟨Nat.le_refl _, Nat.le_refl _⟩) hS (xin_sub [0, 1, 2] rfl) (xin_sub [0, 1, 2] rfl) (fun H locs hq_ hz_ hk_ hS => ?_)
          have hw_ := hq_
          have hP : va_P g.1 vwCl [(xo, .inr (2, [.ref xc, .ref xl, .int (nI xn), .int (nI (cn + 1))])), (xc, .inl (g.2.1 1, 60, .inl (tx))), (xl, .inl (g.2.1 0, 60, .inl (upd cl2 cn ((en)))))] H := xjoin hP hD hw_ hk_ [0, 1, 2] [(true, 0), (true, 1), (true, 2)] rfl rfl rfl
          have hD : va_D (xin [xo, xc, xl]) [(xo, .inr (2, [.ref xc, .ref xl, .int (nI xn), .int (nI (cn + 1))])), (xc, .inl (g.2.1 1, 60, .inl (tx))), (xl, .inl (g.2.1 0, 60, .inl (upd cl2 cn ((en)))))] := va_D_eqL [xo, xc, xl] rfl rfl hD
          refine lv_bipush hx hb (v := (-7)) dX2_readRows_74 (by decide) ?_
          refine lv_istore_n (lv' := [(1, .int (-7)), (4, .int (grw (cn % 4) ((en)) ((tx (i))))), (3, .int (tx (i))), (0, .ref xo), (2, .int (nI i))]) hx hb dX2_readRows_76 rfl hl (by decide) rfl (fun ls hl => ?_)
          refine lv_goto (tgt := 82) hx hb dX2_readRows_77 (by decide) ?_
          refine xN_inc (lv' := [(2, .int (nI (i + 1))), (1, .int (-7)), (4, .int (grw (cn % 4) ((en)) ((tx (i))))), (3, .int (tx (i))), (0, .ref xo)]) hx hb 1 dX2_readRows_82 hl (k := 4) rfl (by decide) (by decide) rfl (fun ls hl => ?_)
          refine lv_goto (tgt := 10) hx hb dX2_readRows_85 (by decide) ?_
          exact ih (-7, i + 1, cn + 1, upd fn cn en, upd cl2 cn en) ls H locs ⟨by show i + 1 ≤ xn; omega, (pst_s I2).trans (stp_c c_46 c_58 c_66), upd_cong I3, hP, hS, lv_sub hl [4, 1, 0] rfl⟩ (by dsimp only; omega)
    · refine lv_iload hx hb dX2_readRows_49 (lv_at hl 0 rfl) ?_
      refine lv_istore_n (lv' := [(1, .int (grw (cn % 4) ((en)) ((tx (i))))), (4, .int (grw (cn % 4) ((en)) ((tx (i))))), (3, .int (tx (i))), (0, .ref xo), (2, .int (nI i))]) hx hb dX2_readRows_51 rfl hl (by decide) rfl (fun ls hl => ?_)
      refine lv_goto (tgt := 82) hx hb dX2_readRows_52 (by decide) ?_
      refine xN_inc (lv' := [(2, .int (nI (i + 1))), (1, .int (grw (cn % 4) ((en)) ((tx (i))))), (4, .int (grw (cn % 4) ((en)) ((tx (i))))), (3, .int (tx (i))), (0, .ref xo)]) hx hb 1 dX2_readRows_82 hl (k := 4) rfl (by decide) (by decide) rfl (fun ls hl => ?_)
      refine lv_goto (tgt := 10) hx hb dX2_readRows_85 (by decide) ?_
      exact ih (grw (cn % 4) ((en)) ((tx (i))), i + 1, cn, fn, cl2) ls H locs ⟨by show i + 1 ≤ xn; omega, (pst_s I2).trans (stp_g c_46), I3, hP, hS, lv_sub hl [4, 1, 0] rfl⟩ (by dsimp only; omega)
set_option maxHeartbeats 4000000 in
set_option maxRecDepth 100000 in
theorem c_X2_read (l : Launch) (g : XG) (xo xc xl xn xr : Nat) (cl : Nat → Int32) (r k : Nat) (hrk : r * 4 + k < 60) : Met l yX2_read (ww yX2_read cX2_read 3 (some .int)) (rmD 1) (xP g [.ref xo, .int (nI r), .int (nI k)] (fun H => va_P g.1 vwCl [(xo, .inr (2, [.ref xc, .ref xl, .int (nI xn), .int (nI xr)])), (xl, .inl (g.2.1 0, 60, .inl cl))] H)) (vp_Si (fun r9 => r9 = cl (r * 4 + k))) 0 0 (fun _ => False) := by
  refine xMet (by decide) rfl (Nat.le_of_ble_eq_true rfl) ?_
  intro p e s m below meth c ls hF hZ hh hret hlocks hin hl
  have hx := hF.1.1
  have hb := hF.1.2.1
  have hP := hh
  have hP : va_P g.1 vwCl [(xo, .inr (2, [.ref xc, .ref xl, .int (nI xn), .int (nI xr)])), (xl, .inl (g.2.1 0, 60, .inl cl))] s.heap := hP
  have hl : lv_has ls 3 [(0, .ref xo), (1, .int (nI r)), (2, .int (nI k))] := hl
  refine lv_aload_n hx hb dX2_read_0 rfl (lv_at hl 0 rfl) ?_
  refine gf_X2_X2_cells hF hP 0 rfl rfl dX2_read_1 ?_
  refine lv_iload_n hx hb dX2_read_4 rfl (lv_at hl 1 rfl) ?_
  refine xN_const hx hb 4 dX2_read_5 (by decide) ?_
  refine xN_mul hx hb dX2_read_6 ?_
  refine lv_iload_n hx hb dX2_read_7 rfl (lv_at hl 2 rfl) ?_
  refine xN_add hx hb dX2_read_8 ?_
  refine vp_callSi (va_Run.run (xrSN hF (c_X3_at l g xl 60 (r * 4 + k) cl (by omega) (by decide)) cal_X3_at n_13 ⟨by decide, by decide⟩ rfl rfl rfl hZ (hP.sub [1] rfl) hl.1 rfl (Nat.le_of_ble_eq_true rfl) dX2_read_9 ⟨Nat.le_refl _, Nat.le_refl _⟩)) (fun r_ h_ => ?_)
  subst h_
  exact xret_i (V := (cl (r * 4 + k))) hF hret hlocks (rfl) dX2_read_12
