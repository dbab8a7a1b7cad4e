/-! the reference: its counts -/
set_option maxHeartbeats 4000000 in
set_option maxRecDepth 100000 in
theorem c_X4_withLatest (l : Launch) (g : XG) (mo mn mp mq mt mm md zs zl zp zr : Nat) (zk : Bool) (w : Nat → Int32) (hW : WF w) (k : Nat) (hk : k < 4) (x : Int32) : Met l yX4_withLatest (ww yX4_withLatest cX4_withLatest 5 (some .int)) (rmD 3) (xP g [.ref mo, .int (nI k), .int (x)] (fun H => va_P g.1 vwCl (ModC g mo mn mp mq mt mm md zs zl zp zr zk w) H)) (vp_Si (fun r9 => r9 = nI (ctR (fun i9 => lat w i9 k == x) 0 (nr w)))) 0 0 (fun _ => False) := by
  refine xMet (by decide) rfl (Nat.le_of_ble_eq_true rfl) ?_
  intro p e s m below meth c ls hF hZ hh hret hlocks hin hl
  have hx := hF.1.1
  have hb := hF.1.2.1
  have hP := hh
  have hP : va_P g.1 vwCl (ModC g mo mn mp mq mt mm md zs zl zp zr zk w) s.heap := hP
  have hl : lv_has ls 5 [(0, .ref mo), (1, .int (nI k)), (2, .int (x))] := hl
  have h48 := hW.n48
  have hp4 := hW.pg4
  have hp12 := hW.pg12
  have hs1 := hW.st1
  have hw2 := hW.wr2
  have hw6 := hW.wr6
  refine xN_const hx hb 0 dX4_withLatest_0 (by decide) ?_
  refine lv_istore_n (lv' := [(3, .int (nI 0)), (0, .ref mo), (1, .int (nI k)), (2, .int (x))]) hx hb dX4_withLatest_1 rfl hl (by decide) rfl (fun ls hl => ?_)
  refine xN_const hx hb 0 dX4_withLatest_2 (by decide) ?_
  refine lv_istore (lv' := [(4, .int (nI 0)), (3, .int (nI 0)), (0, .ref mo), (1, .int (nI k)), (2, .int (x))]) hx hb dX4_withLatest_3 hl (by decide) rfl (fun ls hl => ?_)
  refine xloop (goal := fun ls => W p l e _ s m _ below meth c s.heap [] _ _ _ (F0 m _ ls [])) (fun (z_ : Nat × Nat) (ls : Array Slot) => match z_ with | (f, i) => (i ≤ nr w) ∧ (f = ctR (fun i9 => lat w i9 k == x) 0 (i - 0)) ∧ lv_has ls 5 [(0, .ref mo), (1, .int (nI k)), (2, .int (x)), (3, .int (nI f)), (4, .int (nI i))]) (fun (z_ : Nat × Nat) => match z_ with | (f, i) => nr w - i) ?_ (0, 0) ls ⟨Nat.zero_le _, rfl, lv_sub hl [2, 3, 4, 1, 0] rfl⟩
  rintro ⟨f, i⟩ ls ⟨I1, I2, hl⟩ ih
  have hf := ctR_le (fun i9 => lat w i9 k == x) 0 (i - 0)
  refine lv_iload hx hb dX4_withLatest_5 (lv_at hl 4 rfl) ?_
  refine lv_aload_n hx hb dX4_withLatest_7 rfl (lv_at hl 0 rfl) ?_
  refine gf_X4_X4_now hF hP 0 rfl rfl dX4_withLatest_8 ?_
  refine xN_const hx hb 0 dX4_withLatest_11 (by decide) ?_
  refine xA_ild hF hP 1 rfl (by omega) (by decide) (v := nI (nr w)) (hW.r0) dX4_withLatest_12 ?_
  refine xC_ge (tgt := 41) hx hb (by omega) (by omega) dX4_withLatest_13 (by decide) (fun c_13 => ?_) (fun c_13 => ?_)
  · refine lv_iload_n hx hb dX4_withLatest_41 rfl (lv_at hl 3 rfl) ?_
    exact xret_i (V := nI (f)) hF hret hlocks (by rw [I2, show i = nr w by omega]; rfl) dX4_withLatest_42
  · refine lv_iload_n hx hb dX4_withLatest_16 rfl (lv_at hl 3 rfl) ?_
    refine lv_aload_n hx hb dX4_withLatest_17 rfl (lv_at hl 0 rfl) ?_
    refine lv_iload hx hb dX4_withLatest_18 (lv_at hl 4 rfl) ?_
    refine lv_iload_n hx hb dX4_withLatest_20 rfl (lv_at hl 1 rfl) ?_
    refine vp_callSi (va_Run.run (xrV hF (c_X4_latest l g mo mn mp mq mt mm md zs zl zp zr zk w hW i k (by omega) (by omega)) cal_X4_latest q_278 ⟨by decide, by decide⟩ rfl rfl rfl (va_recv hF.2.1 hP (ci := 4) (q0 := 0) rfl rfl) hZ (hP) hl.1 rfl (Nat.le_of_ble_eq_true rfl) dX4_withLatest_21 ⟨Nat.le_refl _, Nat.le_refl _⟩)) (fun r_ h_ => ?_)
    subst h_
    refine lv_iload_n hx hb dX4_withLatest_24 rfl (lv_at hl 2 rfl) ?_
    refine lv_icmp_ne (tgt := 32) hx hb dX4_withLatest_25 (by decide) (fun c_25 => ?_) (fun c_25 => ?_)
    · refine xN_const hx hb 0 dX4_withLatest_32 (by decide) ?_
      refine xN_add hx hb dX4_withLatest_33 ?_
      refine lv_istore_n (lv' := [(3, .int (nI (f + 0))), (0, .ref mo), (1, .int (nI k)), (2, .int (x)), (4, .int (nI i))]) hx hb dX4_withLatest_34 rfl hl (by decide) rfl (fun ls hl => ?_)
      refine xN_inc (lv' := [(4, .int (nI (i + 1))), (3, .int (nI (f + 0))), (0, .ref mo), (1, .int (nI k)), (2, .int (x))]) hx hb 1 dX4_withLatest_35 hl (k := 4) rfl (by decide) (by decide) rfl (fun ls hl => ?_)
      refine lv_goto (tgt := 5) hx hb dX4_withLatest_38 (by decide) ?_
      exact ih (f + 0, i + 1) ls ⟨by omega, by rw [I2, ctR_f (p := fun i9 => lat w i9 k == x) (Nat.zero_le _) (beq_eq_false_iff_ne.mpr c_25)]; rfl, lv_sub hl [2, 3, 4, 1, 0] rfl⟩ (by dsimp only; omega)
    · refine xN_const hx hb 1 dX4_withLatest_28 (by decide) ?_
      refine lv_goto (tgt := 33) hx hb dX4_withLatest_29 (by decide) ?_
      refine xN_add hx hb dX4_withLatest_33 ?_
      refine lv_istore_n (lv' := [(3, .int (nI (f + 1))), (0, .ref mo), (1, .int (nI k)), (2, .int (x)), (4, .int (nI i))]) hx hb dX4_withLatest_34 rfl hl (by decide) rfl (fun ls hl => ?_)
      refine xN_inc (lv' := [(4, .int (nI (i + 1))), (3, .int (nI (f + 1))), (0, .ref mo), (1, .int (nI k)), (2, .int (x))]) hx hb 1 dX4_withLatest_35 hl (k := 4) rfl (by decide) (by decide) rfl (fun ls hl => ?_)
      refine lv_goto (tgt := 5) hx hb dX4_withLatest_38 (by decide) ?_
      exact ih (f + 1, i + 1) ls ⟨by omega, by rw [I2, ctR_t (p := fun i9 => lat w i9 k == x) (Nat.zero_le _) (beq_iff_eq.mpr c_25)], lv_sub hl [2, 3, 4, 1, 0] rfl⟩ (by dsimp only; omega)
set_option maxHeartbeats 4000000 in
set_option maxRecDepth 100000 in
theorem c_X4_corrections (l : Launch) (g : XG) (mo mn mp mq mt mm md zs zl zp zr : Nat) (zk : Bool) (w : Nat → Int32) (hW : WF w) (k : Nat) (hk : k < 4) : Met l yX4_corrections (ww yX4_corrections cX4_corrections 4 (some .int)) (rmD 2) (xP g [.ref mo, .int (nI k)] (fun H => va_P g.1 vwCl (ModC g mo mn mp mq mt mm md zs zl zp zr zk w) H)) (vp_Si (fun r9 => r9 = nI (smR (fun i9 => cnt w (4 * i9 + k) - 1) 0 (nr w)))) 0 0 (fun _ => False) := by
  refine xMet (by decide) rfl (Nat.le_of_ble_eq_true rfl) ?_
  intro p e s m below meth c ls hF hZ hh hret hlocks hin hl
  have hx := hF.1.1
  have hb := hF.1.2.1
  have hP := hh
  have hP : va_P g.1 vwCl (ModC g mo mn mp mq mt mm md zs zl zp zr zk w) s.heap := hP
  have hl : lv_has ls 4 [(0, .ref mo), (1, .int (nI k))] := hl
  have h48 := hW.n48
  have hp4 := hW.pg4
  have hp12 := hW.pg12
  have hs1 := hW.st1
  have hw2 := hW.wr2
  have hw6 := hW.wr6
  refine xN_const hx hb 0 dX4_corrections_0 (by decide) ?_
  refine lv_istore_n (lv' := [(2, .int (nI 0)), (0, .ref mo), (1, .int (nI k))]) hx hb dX4_corrections_1 rfl hl (by decide) rfl (fun ls hl => ?_)
  refine xN_const hx hb 0 dX4_corrections_2 (by decide) ?_
  refine lv_istore_n (lv' := [(3, .int (nI 0)), (2, .int (nI 0)), (0, .ref mo), (1, .int (nI k))]) hx hb dX4_corrections_3 rfl hl (by decide) rfl (fun ls hl => ?_)
  refine xloop (goal := fun ls => W p l e _ s m _ below meth c s.heap [] _ _ _ (F0 m _ ls [])) (fun (z_ : Nat × Nat) (ls : Array Slot) => match z_ with | (f, i) => (i ≤ nr w) ∧ (f = smR (fun i9 => cnt w (4 * i9 + k) - 1) 0 (i - 0)) ∧ lv_has ls 4 [(0, .ref mo), (1, .int (nI k)), (2, .int (nI f)), (3, .int (nI i))]) (fun (z_ : Nat × Nat) => match z_ with | (f, i) => nr w - i) ?_ (0, 0) ls ⟨Nat.zero_le _, rfl, lv_sub hl [2, 3, 1, 0] rfl⟩
  rintro ⟨f, i⟩ ls ⟨I1, I2, hl⟩ ih
  refine lv_iload_n hx hb dX4_corrections_4 rfl (lv_at hl 3 rfl) ?_
  refine lv_aload_n hx hb dX4_corrections_5 rfl (lv_at hl 0 rfl) ?_
  refine gf_X4_X4_now hF hP 0 rfl rfl dX4_corrections_6 ?_
  refine xN_const hx hb 0 dX4_corrections_9 (by decide) ?_
  refine xA_ild hF hP 1 rfl (by omega) (by decide) (v := nI (nr w)) (hW.r0) dX4_corrections_10 ?_
  refine xC_ge (tgt := 31) hx hb (by omega) (by omega) dX4_corrections_11 (by decide) (fun c_11 => ?_) (fun c_11 => ?_)
  · refine lv_iload_n hx hb dX4_corrections_31 rfl (lv_at hl 2 rfl) ?_
    exact xret_i (V := nI (f)) hF hret hlocks (by rw [I2, show i = nr w by omega]; rfl) dX4_corrections_32
  · refine lv_iload_n hx hb dX4_corrections_14 rfl (lv_at hl 2 rfl) ?_
    refine lv_aload_n hx hb dX4_corrections_15 rfl (lv_at hl 0 rfl) ?_
    refine lv_iload_n hx hb dX4_corrections_16 rfl (lv_at hl 3 rfl) ?_
    refine lv_iload_n hx hb dX4_corrections_17 rfl (lv_at hl 1 rfl) ?_
    refine vp_callSi (va_Run.run (xrV hF (c_X4_entries l g mo mn mp mq mt mm md zs zl zp zr zk w hW i k (by omega) (by omega)) cal_X4_entries q_274 ⟨by decide, by decide⟩ rfl rfl rfl (va_recv hF.2.1 hP (ci := 4) (q0 := 0) rfl rfl) hZ (hP) hl.1 rfl (Nat.le_of_ble_eq_true rfl) dX4_corrections_18 ⟨Nat.le_refl _, Nat.le_refl _⟩)) (fun r_ h_ => ?_)
    subst h_
    refine xN_const hx hb 1 dX4_corrections_21 (by decide) ?_
    have hc1 := hW.c1 (i := 4 * i + k) (by omega)
    refine xN_sub hx hb (by omega) dX4_corrections_22 ?_
    refine xN_add hx hb dX4_corrections_23 ?_
    refine lv_istore_n (lv' := [(2, .int (nI (f + ((cnt w (4 * i + k)) - 1)))), (0, .ref mo), (1, .int (nI k)), (3, .int (nI i))]) hx hb dX4_corrections_24 rfl hl (by decide) rfl (fun ls hl => ?_)
    refine xN_inc (lv' := [(3, .int (nI (i + 1))), (2, .int (nI (f + ((cnt w (4 * i + k)) - 1)))), (0, .ref mo), (1, .int (nI k))]) hx hb 1 dX4_corrections_25 hl (k := 3) rfl (by decide) (by decide) rfl (fun ls hl => ?_)
    refine lv_goto (tgt := 4) hx hb dX4_corrections_28 (by decide) ?_
    exact ih (f + ((cnt w (4 * i + k)) - 1), i + 1) ls ⟨by omega, by rw [I2, smR_step (Nat.zero_le _)], lv_sub hl [2, 3, 1, 0] rfl⟩ (by dsimp only; omega)
set_option maxHeartbeats 4000000 in
set_option maxRecDepth 100000 in
theorem c_X4_meaning (l : Launch) (g : XG) (mo mn mp mq mt mm md zs zl zp zr : Nat) (zk : Bool) (w : Nat → Int32) (hW : WF w) (a b : Nat) (hab : a ≤ b) (hb : b ≤ nr w) (k : Nat) (hk : k < 4) (x : Int32) : Met l yX4_meaning (ww yX4_meaning cX4_meaning 7 (some .int)) (rmD 6) (xP g [.ref mo, .int (nI a), .int (nI (b) - nI 1), .int (nI k), .int (x)] (fun H => va_P g.1 vwCl (ModC g mo mn mp mq mt mm md zs zl zp zr zk w) H)) (vp_Si (fun r9 => r9 = nI (ctR (fun i9 => mean w i9 k == x) a (b - a)))) 0 0 (fun _ => False) := by
  refine xMet (by decide) rfl (Nat.le_of_ble_eq_true rfl) ?_
  intro p e s m below meth c ls hF hZ hh hret hlocks hin hl
  have hx := hF.1.1
  have hb := hF.1.2.1
  have hP := hh
  have hP : va_P g.1 vwCl (ModC g mo mn mp mq mt mm md zs zl zp zr zk w) s.heap := hP
  have hl : lv_has ls 7 [(0, .ref mo), (1, .int (nI a)), (2, .int (nI (b) - nI 1)), (3, .int (nI k)), (4, .int (x))] := hl
  have h48 := hW.n48
  have hp4 := hW.pg4
  have hp12 := hW.pg12
  have hs1 := hW.st1
  have hw2 := hW.wr2
  have hw6 := hW.wr6
  refine xN_const hx hb 0 dX4_meaning_0 (by decide) ?_
  refine lv_istore (lv' := [(5, .int (nI 0)), (0, .ref mo), (1, .int (nI a)), (2, .int (nI (b) - nI 1)), (3, .int (nI k)), (4, .int (x))]) hx hb dX4_meaning_1 hl (by decide) rfl (fun ls hl => ?_)
  refine lv_iload_n hx hb dX4_meaning_3 rfl (lv_at hl 2 rfl) ?_
  refine lv_istore (lv' := [(6, .int (nI a)), (5, .int (nI 0)), (0, .ref mo), (1, .int (nI a)), (2, .int (nI (b) - nI 1)), (3, .int (nI k)), (4, .int (x))]) hx hb dX4_meaning_4 hl (by decide) rfl (fun ls hl => ?_)
  refine xloop (goal := fun ls => W p l e _ s m _ below meth c s.heap [] _ _ _ (F0 m _ ls [])) (fun (z_ : Nat × Nat) (ls : Array Slot) => match z_ with | (f, i) => (a ≤ i) ∧ (i ≤ b) ∧ (f = ctR (fun i9 => mean w i9 k == x) a (i - a)) ∧ lv_has ls 7 [(0, .ref mo), (1, .int (nI a)), (2, .int (nI (b) - nI 1)), (3, .int (nI k)), (4, .int (x)), (5, .int (nI f)), (6, .int (nI i))]) (fun (z_ : Nat × Nat) => match z_ with | (f, i) => b - i) ?_ (0, a) ls ⟨Nat.le_refl _, hab, by rw [Nat.sub_self]; rfl, lv_sub hl [2, 3, 4, 5, 6, 1, 0] rfl⟩
  rintro ⟨f, i⟩ ls ⟨I0, I1, I2, hl⟩ ih
  have hf := ctR_le (fun i9 => mean w i9 k == x) a (i - a)
  refine lv_iload hx hb dX4_meaning_6 (lv_at hl 6 rfl) ?_
  refine lv_iload_n hx hb dX4_meaning_8 rfl (lv_at hl 2 rfl) ?_
  refine xE_gt (tgt := 40) hx hb (by omega) (by omega) dX4_meaning_9 (by decide) (fun c_9 => ?_) (fun c_9 => ?_)
  · refine lv_iload hx hb dX4_meaning_40 (lv_at hl 5 rfl) ?_
    exact xret_i (V := nI (f)) hF hret hlocks (by rw [I2, show i = b by omega]) dX4_meaning_42
  · refine lv_iload hx hb dX4_meaning_12 (lv_at hl 5 rfl) ?_
    refine lv_aload_n hx hb dX4_meaning_14 rfl (lv_at hl 0 rfl) ?_
    refine lv_iload hx hb dX4_meaning_15 (lv_at hl 6 rfl) ?_
    refine lv_iload_n hx hb dX4_meaning_17 rfl (lv_at hl 3 rfl) ?_
    refine vp_callSi (va_Run.run (xrV hF (c_X4_means l g mo mn mp mq mt mm md zs zl zp zr zk w hW i k (by omega) (by omega)) cal_X4_means q_286 ⟨by decide, by decide⟩ rfl rfl rfl (va_recv hF.2.1 hP (ci := 4) (q0 := 0) rfl rfl) hZ (hP) hl.1 rfl (Nat.le_of_ble_eq_true rfl) dX4_meaning_18 ⟨Nat.le_refl _, Nat.le_refl _⟩)) (fun r_ h_ => ?_)
    subst h_
    refine lv_iload hx hb dX4_meaning_21 (lv_at hl 4 rfl) ?_
    refine lv_icmp_ne (tgt := 30) hx hb dX4_meaning_23 (by decide) (fun c_23 => ?_) (fun c_23 => ?_)
    · refine xN_const hx hb 0 dX4_meaning_30 (by decide) ?_
      refine xN_add hx hb dX4_meaning_31 ?_
      refine lv_istore (lv' := [(5, .int (nI (f + 0))), (0, .ref mo), (1, .int (nI a)), (2, .int (nI (b) - nI 1)), (3, .int (nI k)), (4, .int (x)), (6, .int (nI i))]) hx hb dX4_meaning_32 hl (by decide) rfl (fun ls hl => ?_)
      refine xN_inc (lv' := [(6, .int (nI (i + 1))), (5, .int (nI (f + 0))), (0, .ref mo), (1, .int (nI a)), (2, .int (nI (b) - nI 1)), (3, .int (nI k)), (4, .int (x))]) hx hb 1 dX4_meaning_34 hl (k := 6) rfl (by decide) (by decide) rfl (fun ls hl => ?_)
      refine lv_goto (tgt := 6) hx hb dX4_meaning_37 (by decide) ?_
      exact ih (f + 0, i + 1) ls ⟨by omega, by omega, by rw [I2, ctR_f (p := fun i9 => mean w i9 k == x) I0 (beq_eq_false_iff_ne.mpr c_23)]; rfl, lv_sub hl [2, 3, 4, 5, 6, 1, 0] rfl⟩ (by dsimp only; omega)
    · refine xN_const hx hb 1 dX4_meaning_26 (by decide) ?_
      refine lv_goto (tgt := 31) hx hb dX4_meaning_27 (by decide) ?_
      refine xN_add hx hb dX4_meaning_31 ?_
      refine lv_istore (lv' := [(5, .int (nI (f + 1))), (0, .ref mo), (1, .int (nI a)), (2, .int (nI (b) - nI 1)), (3, .int (nI k)), (4, .int (x)), (6, .int (nI i))]) hx hb dX4_meaning_32 hl (by decide) rfl (fun ls hl => ?_)
      refine xN_inc (lv' := [(6, .int (nI (i + 1))), (5, .int (nI (f + 1))), (0, .ref mo), (1, .int (nI a)), (2, .int (nI (b) - nI 1)), (3, .int (nI k)), (4, .int (x))]) hx hb 1 dX4_meaning_34 hl (k := 6) rfl (by decide) (by decide) rfl (fun ls hl => ?_)
      refine lv_goto (tgt := 6) hx hb dX4_meaning_37 (by decide) ?_
      exact ih (f + 1, i + 1) ls ⟨by omega, by omega, by rw [I2, ctR_t (p := fun i9 => mean w i9 k == x) I0 (beq_iff_eq.mpr c_23)], lv_sub hl [2, 3, 4, 5, 6, 1, 0] rfl⟩ (by dsimp only; omega)
set_option maxHeartbeats 4000000 in
set_option maxRecDepth 100000 in
theorem c_X4_longest (l : Launch) (g : XG) (mo mn mp mq mt mm md zs zl zp zr : Nat) (zk : Bool) (w : Nat → Int32) (hW : WF w) (k : Nat) (hk : k < 4) : Met l yX4_longest (ww yX4_longest cX4_longest 4 (some .int)) (rmD 6) (xP g [.ref mo, .int (nI k)] (fun H => va_P g.1 vwCl (ModC g mo mn mp mq mt mm md zs zl zp zr zk w) H)) (vp_Si (fun r9 => r9 = nI (mxR (fun i9 => i9 - top w k i9 + 1) (nr w)))) 0 0 (fun _ => False) := by
  refine xMet (by decide) rfl (Nat.le_of_ble_eq_true rfl) ?_
  intro p e s m below meth c ls hF hZ hh hret hlocks hin hl
  have hx := hF.1.1
  have hb := hF.1.2.1
  have hP := hh
  have hP : va_P g.1 vwCl (ModC g mo mn mp mq mt mm md zs zl zp zr zk w) s.heap := hP
  have hl : lv_has ls 4 [(0, .ref mo), (1, .int (nI k))] := hl
  have h48 := hW.n48
  have hp4 := hW.pg4
  have hp12 := hW.pg12
  have hs1 := hW.st1
  have hw2 := hW.wr2
  have hw6 := hW.wr6
  refine xN_const hx hb 0 dX4_longest_0 (by decide) ?_
  refine lv_istore_n (lv' := [(2, .int (nI 0)), (0, .ref mo), (1, .int (nI k))]) hx hb dX4_longest_1 rfl hl (by decide) rfl (fun ls hl => ?_)
  refine xN_const hx hb 0 dX4_longest_2 (by decide) ?_
  refine lv_istore_n (lv' := [(3, .int (nI 0)), (2, .int (nI 0)), (0, .ref mo), (1, .int (nI k))]) hx hb dX4_longest_3 rfl hl (by decide) rfl (fun ls hl => ?_)
  refine xloop (goal := fun ls => W p l e _ s m _ below meth c s.heap [] _ _ _ (F0 m _ ls [])) (fun (z_ : Nat × Nat) (ls : Array Slot) => match z_ with | (f, i) => (i ≤ nr w) ∧ (f = mxR (fun i9 => i9 - top w k i9 + 1) i) ∧ lv_has ls 4 [(0, .ref mo), (1, .int (nI k)), (2, .int (nI f)), (3, .int (nI i))]) (fun (z_ : Nat × Nat) => match z_ with | (f, i) => nr w - i) ?_ (0, 0) ls ⟨Nat.zero_le _, rfl, lv_sub hl [2, 3, 1, 0] rfl⟩
  rintro ⟨f, i⟩ ls ⟨I1, I2, hl⟩ ih
  have hf : f ≤ 49 := by rw [I2]; exact mxR_le _ 49 i (fun q hq => by omega)
  refine lv_iload_n hx hb dX4_longest_4 rfl (lv_at hl 3 rfl) ?_
  refine lv_aload_n hx hb dX4_longest_5 rfl (lv_at hl 0 rfl) ?_
  refine gf_X4_X4_now hF hP 0 rfl rfl dX4_longest_6 ?_
  refine xN_const hx hb 0 dX4_longest_9 (by decide) ?_
  refine xA_ild hF hP 1 rfl (by omega) (by decide) (v := nI (nr w)) (hW.r0) dX4_longest_10 ?_
  refine xC_ge (tgt := 41) hx hb (by omega) (by omega) dX4_longest_11 (by decide) (fun c_11 => ?_) (fun c_11 => ?_)
  · refine lv_iload_n hx hb dX4_longest_41 rfl (lv_at hl 2 rfl) ?_
    exact xret_i (V := nI (f)) hF hret hlocks (by rw [I2, show i = nr w by omega]) dX4_longest_42
  · refine lv_aload_n hx hb dX4_longest_14 rfl (lv_at hl 0 rfl) ?_
    refine lv_iload_n hx hb dX4_longest_15 rfl (lv_at hl 3 rfl) ?_
    refine lv_iload_n hx hb dX4_longest_16 rfl (lv_at hl 1 rfl) ?_
    refine vp_callSi (va_Run.run (xrV hF (c_X4_chain l g mo mn mp mq mt mm md zs zl zp zr zk w hW i k (by omega) (by omega)) cal_X4_chain q_418 ⟨by decide, by decide⟩ rfl rfl rfl (va_recv hF.2.1 hP (ci := 4) (q0 := 0) rfl rfl) hZ (hP) hl.1 rfl (Nat.le_of_ble_eq_true rfl) dX4_longest_17 ⟨Nat.le_refl _, Nat.le_refl _⟩)) (fun r_ h_ => ?_)
    subst h_
    refine lv_iload_n hx hb dX4_longest_20 rfl (lv_at hl 2 rfl) ?_
    refine xC_le (tgt := 33) hx hb (by omega) (by omega) dX4_longest_21 (by decide) (fun c_21 => ?_) (fun c_21 => ?_)
    · refine lv_iload_n hx hb dX4_longest_33 rfl (lv_at hl 2 rfl) ?_
      refine lv_istore_n (lv' := [(2, .int (nI f)), (0, .ref mo), (1, .int (nI k)), (3, .int (nI i))]) hx hb dX4_longest_34 rfl hl (by decide) rfl (fun ls hl => ?_)
      refine xN_inc (lv' := [(3, .int (nI (i + 1))), (2, .int (nI f)), (0, .ref mo), (1, .int (nI k))]) hx hb 1 dX4_longest_35 hl (k := 3) rfl (by decide) (by decide) rfl (fun ls hl => ?_)
      refine lv_goto (tgt := 4) hx hb dX4_longest_38 (by decide) ?_
      exact ih (f, i + 1) ls ⟨by omega, by rw [mxR, if_neg (by rw [← I2]; omega)]; exact I2, lv_sub hl [2, 3, 1, 0] rfl⟩ (by dsimp only; omega)
    · refine lv_aload_n hx hb dX4_longest_24 rfl (lv_at hl 0 rfl) ?_
      refine lv_iload_n hx hb dX4_longest_25 rfl (lv_at hl 3 rfl) ?_
      refine lv_iload_n hx hb dX4_longest_26 rfl (lv_at hl 1 rfl) ?_
      refine vp_callSi (va_Run.run (xrV hF (c_X4_chain l g mo mn mp mq mt mm md zs zl zp zr zk w hW i k (by omega) (by omega)) cal_X4_chain q_418 ⟨by decide, by decide⟩ rfl rfl rfl (va_recv hF.2.1 hP (ci := 4) (q0 := 0) rfl rfl) hZ (hP) hl.1 rfl (Nat.le_of_ble_eq_true rfl) dX4_longest_27 ⟨Nat.le_refl _, Nat.le_refl _⟩)) (fun r_ h_ => ?_)
      subst h_
      refine lv_goto (tgt := 34) hx hb dX4_longest_30 (by decide) ?_
      refine lv_istore_n (lv' := [(2, .int (nI (i - top w k i + 1))), (0, .ref mo), (1, .int (nI k)), (3, .int (nI i))]) hx hb dX4_longest_34 rfl hl (by decide) rfl (fun ls hl => ?_)
      refine xN_inc (lv' := [(3, .int (nI (i + 1))), (2, .int (nI (i - top w k i + 1))), (0, .ref mo), (1, .int (nI k))]) hx hb 1 dX4_longest_35 hl (k := 3) rfl (by decide) (by decide) rfl (fun ls hl => ?_)
      refine lv_goto (tgt := 4) hx hb dX4_longest_38 (by decide) ?_
      exact ih (i - top w k i + 1, i + 1) ls ⟨by omega, by rw [mxR, if_pos (by rw [← I2]; omega)], lv_sub hl [2, 3, 1, 0] rfl⟩ (by dsimp only; omega)
set_option maxHeartbeats 4000000 in
set_option maxRecDepth 100000 in
theorem c_X4_commonest (l : Launch) (g : XG) (mo mn mp mq mt mm md zs zl zp zr : Nat) (zk : Bool) (w : Nat → Int32) (hW : WF w) (a b : Nat) (hab : a ≤ b) (hb : b ≤ nr w) (k : Nat) (hk : k < 4) : Met l yX4_commonest (ww yX4_commonest cX4_commonest 8 (some .int)) (rmD 7) (xP g [.ref mo, .int (nI a), .int (nI (b) - nI 1), .int (nI k)] (fun H => va_P g.1 vwCl (ModC g mo mn mp mq mt mm md zs zl zp zr zk w) H)) (vp_Si (fun r9 => r9 = cmI w k a b)) 0 0 (fun _ => False) := by
  refine xMet (by decide) rfl (Nat.le_of_ble_eq_true rfl) ?_
  intro p e s m below meth c ls hF hZ hh hret hlocks hin hl
  have hx := hF.1.1
  have hb := hF.1.2.1
  have hP := hh
  have hP : va_P g.1 vwCl (ModC g mo mn mp mq mt mm md zs zl zp zr zk w) s.heap := hP
  have hl : lv_has ls 8 [(0, .ref mo), (1, .int (nI a)), (2, .int (nI (b) - nI 1)), (3, .int (nI k))] := hl
  have h48 := hW.n48
  have hp4 := hW.pg4
  have hp12 := hW.pg12
  have hs1 := hW.st1
  have hw2 := hW.wr2
  have hw6 := hW.wr6
  have hcm := cmN_le k
  refine lv_bipush hx hb (v := (-5)) dX4_commonest_0 (by decide) ?_
  refine lv_istore (lv' := [(4, .int (-5)), (0, .ref mo), (1, .int (nI a)), (2, .int (nI (b) - nI 1)), (3, .int (nI k))]) hx hb dX4_commonest_2 hl (by decide) rfl (fun ls hl => ?_)
  refine xN_const hx hb 0 dX4_commonest_4 (by decide) ?_
  refine lv_istore (lv' := [(5, .int (nI 0)), (4, .int (-5)), (0, .ref mo), (1, .int (nI a)), (2, .int (nI (b) - nI 1)), (3, .int (nI k))]) hx hb dX4_commonest_5 hl (by decide) rfl (fun ls hl => ?_)
  refine xN_const hx hb 0 dX4_commonest_7 (by decide) ?_
  refine lv_istore (lv' := [(6, .int (nI 0)), (5, .int (nI 0)), (4, .int (-5)), (0, .ref mo), (1, .int (nI a)), (2, .int (nI (b) - nI 1)), (3, .int (nI k))]) hx hb dX4_commonest_8 hl (by decide) rfl (fun ls hl => ?_)
  refine xloop (goal := fun ls => W p l e _ s m _ below meth c s.heap [] _ _ _ (F0 m _ ls [])) (fun (z_ : Int32 × Nat × Nat) (ls : Array Slot) => match z_ with | (be, q, v) => (v ≤ cmN k + 1) ∧ (cmP (mnR w k a b) v = (be, q)) ∧ lv_has ls 8 [(0, .ref mo), (1, .int (nI a)), (2, .int (nI (b) - nI 1)), (3, .int (nI k)), (4, .int (be)), (5, .int (nI q)), (6, .int (nI v))]) (fun (z_ : Int32 × Nat × Nat) => match z_ with | (be, q, v) => cmN k + 1 - v) ?_ (-5, 0, 0) ls ⟨by omega, rfl, lv_sub hl [3, 4, 5, 6, 2, 1, 0] rfl⟩
  rintro ⟨be, q, v⟩ ls ⟨I1, I2, hl⟩ ih
  have hq : q ≤ b - a := by have := cmP_le (mnR w k a b) (b - a) (mnR_le w k a b) v; rw [I2] at this; exact this
  refine lv_iload hx hb dX4_commonest_10 (lv_at hl 6 rfl) ?_
  refine lv_iload_n hx hb dX4_commonest_12 rfl (lv_at hl 3 rfl) ?_
  refine vp_callSi (va_Run.run (xrS hF (c_X4_most l g k (by omega)) cal_X4_most q_116 ⟨by decide, by decide⟩ rfl rfl rfl hZ (trivial) hl.1 rfl (Nat.le_of_ble_eq_true rfl) dX4_commonest_13 ⟨Nat.le_refl _, Nat.le_refl _⟩)) (fun r_ h_ => ?_)
  subst h_
  refine xC_gt (tgt := 68) hx hb (by omega) (by omega) dX4_commonest_16 (by decide) (fun c_16 => ?_) (fun c_16 => ?_)
  · refine lv_iload hx hb dX4_commonest_68 (lv_at hl 4 rfl) ?_
    exact xret_i (V := (be)) hF hret hlocks (by unfold cmI; rw [show cmN k + 1 = v by omega, I2]) dX4_commonest_70
  · refine lv_aload_n hx hb dX4_commonest_19 rfl (lv_at hl 0 rfl) ?_
    refine lv_iload_n hx hb dX4_commonest_20 rfl (lv_at hl 1 rfl) ?_
    refine lv_iload_n hx hb dX4_commonest_21 rfl (lv_at hl 2 rfl) ?_
    refine lv_iload_n hx hb dX4_commonest_22 rfl (lv_at hl 3 rfl) ?_
    refine lv_iload hx hb dX4_commonest_23 (lv_at hl 6 rfl) ?_
    refine vp_callSi (va_Run.run (xrV hF (c_X4_meaning l g mo mn mp mq mt mm md zs zl zp zr zk w hW a b (by omega) (by omega) k (by omega) (nI (v))) cal_X4_meaning q_495 ⟨by decide, by decide⟩ rfl rfl rfl (va_recv hF.2.1 hP (ci := 4) (q0 := 0) rfl rfl) hZ (hP) hl.1 rfl (Nat.le_of_ble_eq_true rfl) dX4_commonest_25 ⟨Nat.le_refl _, Nat.le_refl _⟩)) (fun r_ h_ => ?_)
    subst h_
    refine lv_istore (lv' := [(7, .int (nI (ctR (fun i9 => mean w i9 k == (nI (v))) a (b - a)))), (0, .ref mo), (1, .int (nI a)), (2, .int (nI (b) - nI 1)), (3, .int (nI k)), (4, .int (be)), (5, .int (nI q)), (6, .int (nI v))]) hx hb dX4_commonest_28 hl (by decide) rfl (fun ls hl => ?_)
    have hn := mnR_le w k a b v
    unfold mnR at hn
    refine lv_iload hx hb dX4_commonest_30 (lv_at hl 0 rfl) ?_
    refine lv_iload hx hb dX4_commonest_32 (lv_at hl 6 rfl) ?_
    refine xC_le (tgt := 42) hx hb (by omega) (by omega) dX4_commonest_34 (by decide) (fun c_34 => ?_) (fun c_34 => ?_)
    · refine lv_iload hx hb dX4_commonest_42 (lv_at hl 5 rfl) ?_
      refine lv_istore (lv' := [(4, .int (be)), (7, .int (nI (ctR (fun i9 => mean w i9 k == (nI (v))) a (b - a)))), (0, .ref mo), (1, .int (nI a)), (2, .int (nI (b) - nI 1)), (3, .int (nI k)), (5, .int (nI q)), (6, .int (nI v))]) hx hb dX4_commonest_44 hl (by decide) rfl (fun ls hl => ?_)
      refine lv_iload hx hb dX4_commonest_46 (lv_at hl 1 rfl) ?_
      refine lv_iload hx hb dX4_commonest_48 (lv_at hl 6 rfl) ?_
      refine xC_le (tgt := 58) hx hb (by omega) (by omega) dX4_commonest_50 (by decide) (fun c_50 => ?_) (fun c_50 => absurd c_50 (by omega))
      refine lv_iload hx hb dX4_commonest_58 (lv_at hl 6 rfl) ?_
      refine lv_istore (lv' := [(5, .int (nI q)), (4, .int (be)), (7, .int (nI (ctR (fun i9 => mean w i9 k == (nI (v))) a (b - a)))), (0, .ref mo), (1, .int (nI a)), (2, .int (nI (b) - nI 1)), (3, .int (nI k)), (6, .int (nI v))]) hx hb dX4_commonest_60 hl (by decide) rfl (fun ls hl => ?_)
      refine xN_inc (lv' := [(6, .int (nI (v + 1))), (5, .int (nI q)), (4, .int (be)), (7, .int (nI (ctR (fun i9 => mean w i9 k == (nI (v))) a (b - a)))), (0, .ref mo), (1, .int (nI a)), (2, .int (nI (b) - nI 1)), (3, .int (nI k))]) hx hb 1 dX4_commonest_62 hl (k := 7) rfl (by decide) (by decide) rfl (fun ls hl => ?_)
      refine lv_goto (tgt := 10) hx hb dX4_commonest_65 (by decide) ?_
      exact ih (be, q, v + 1) ls ⟨by omega, by rw [cmP, I2, if_neg (by unfold mnR; omega)], lv_sub hl [4, 5, 6, 7, 2, 1, 0] rfl⟩ (by dsimp only; omega)
    · refine lv_iload hx hb dX4_commonest_37 (lv_at hl 7 rfl) ?_
      refine lv_goto (tgt := 44) hx hb dX4_commonest_39 (by decide) ?_
      refine lv_istore (lv' := [(4, .int (nI v)), (7, .int (nI (ctR (fun i9 => mean w i9 k == (nI (v))) a (b - a)))), (0, .ref mo), (1, .int (nI a)), (2, .int (nI (b) - nI 1)), (3, .int (nI k)), (5, .int (nI q)), (6, .int (nI v))]) hx hb dX4_commonest_44 hl (by decide) rfl (fun ls hl => ?_)
      refine lv_iload hx hb dX4_commonest_46 (lv_at hl 1 rfl) ?_
      refine lv_iload hx hb dX4_commonest_48 (lv_at hl 6 rfl) ?_
      refine xC_le (tgt := 58) hx hb (by omega) (by omega) dX4_commonest_50 (by decide) (fun c_50 => absurd c_50 (by omega)) (fun c_50 => ?_)
      refine lv_iload hx hb dX4_commonest_53 (lv_at hl 1 rfl) ?_
      refine lv_goto (tgt := 60) hx hb dX4_commonest_55 (by decide) ?_
      refine lv_istore (lv' := [(5, .int (nI (ctR (fun i9 => mean w i9 k == (nI (v))) a (b - a)))), (4, .int (nI v)), (7, .int (nI (ctR (fun i9 => mean w i9 k == (nI (v))) a (b - a)))), (0, .ref mo), (1, .int (nI a)), (2, .int (nI (b) - nI 1)), (3, .int (nI k)), (6, .int (nI v))]) hx hb dX4_commonest_60 hl (by decide) rfl (fun ls hl => ?_)
      refine xN_inc (lv' := [(6, .int (nI (v + 1))), (5, .int (nI (ctR (fun i9 => mean w i9 k == (nI (v))) a (b - a)))), (4, .int (nI v)), (7, .int (nI (ctR (fun i9 => mean w i9 k == (nI (v))) a (b - a)))), (0, .ref mo), (1, .int (nI a)), (2, .int (nI (b) - nI 1)), (3, .int (nI k))]) hx hb 1 dX4_commonest_62 hl (k := 7) rfl (by decide) (by decide) rfl (fun ls hl => ?_)
      refine lv_goto (tgt := 10) hx hb dX4_commonest_65 (by decide) ?_
      exact ih (nI (v), ctR (fun i9 => mean w i9 k == (nI (v))) a (b - a), v + 1) ls ⟨by omega, by rw [cmP, I2, if_pos (by unfold mnR; omega)]; rfl, lv_sub hl [4, 5, 6, 7, 2, 1, 0] rfl⟩ (by dsimp only; omega)
set_option maxHeartbeats 4000000 in
set_option maxRecDepth 100000 in
theorem c_X4_doubtful (l : Launch) (g : XG) (mo mn mp mq mt mm md zs zl zp zr : Nat) (zk : Bool) (w : Nat → Int32) (hW : WF w) (a b : Nat) (hab : a ≤ b) (hb : b ≤ nr w) (k : Nat) (hk : k < 4) : Met l yX4_doubtful (ww yX4_doubtful cX4_doubtful 6 (some .int)) (rmD 6) (xP g [.ref mo, .int (nI a), .int (nI (b) - nI 1), .int (nI k)] (fun H => va_P g.1 vwCl (ModC g mo mn mp mq mt mm md zs zl zp zr zk w) H)) (vp_Si (fun r9 => r9 = nI (ctR (fun i9 => dbt w i9 k) a (b - a)))) 0 0 (fun _ => False) := by
  refine xMet (by decide) rfl (Nat.le_of_ble_eq_true rfl) ?_
  intro p e s m below meth c ls hF hZ hh hret hlocks hin hl
  have hx := hF.1.1
  have hb := hF.1.2.1
  have hP := hh
  have hP : va_P g.1 vwCl (ModC g mo mn mp mq mt mm md zs zl zp zr zk w) s.heap := hP
  have hl : lv_has ls 6 [(0, .ref mo), (1, .int (nI a)), (2, .int (nI (b) - nI 1)), (3, .int (nI k))] := hl
  have h48 := hW.n48
  have hp4 := hW.pg4
  have hp12 := hW.pg12
  have hs1 := hW.st1
  have hw2 := hW.wr2
  have hw6 := hW.wr6
  refine xN_const hx hb 0 dX4_doubtful_0 (by decide) ?_
  refine lv_istore (lv' := [(4, .int (nI 0)), (0, .ref mo), (1, .int (nI a)), (2, .int (nI (b) - nI 1)), (3, .int (nI k))]) hx hb dX4_doubtful_1 hl (by decide) rfl (fun ls hl => ?_)
  refine lv_iload_n hx hb dX4_doubtful_3 rfl (lv_at hl 2 rfl) ?_
  refine lv_istore (lv' := [(5, .int (nI a)), (4, .int (nI 0)), (0, .ref mo), (1, .int (nI a)), (2, .int (nI (b) - nI 1)), (3, .int (nI k))]) hx hb dX4_doubtful_4 hl (by decide) rfl (fun ls hl => ?_)
  refine xloop (goal := fun ls => W p l e _ s m _ below meth c s.heap [] _ _ _ (F0 m _ ls [])) (fun (z_ : Nat × Nat) (ls : Array Slot) => match z_ with | (f, i) => (a ≤ i) ∧ (i ≤ b) ∧ (f = ctR (fun i9 => dbt w i9 k) a (i - a)) ∧ lv_has ls 6 [(0, .ref mo), (1, .int (nI a)), (2, .int (nI (b) - nI 1)), (3, .int (nI k)), (4, .int (nI f)), (5, .int (nI i))]) (fun (z_ : Nat × Nat) => match z_ with | (f, i) => b - i) ?_ (0, a) ls ⟨Nat.le_refl _, hab, by rw [Nat.sub_self]; rfl, lv_sub hl [2, 3, 4, 5, 1, 0] rfl⟩
  rintro ⟨f, i⟩ ls ⟨I0, I1, I2, hl⟩ ih
  have hf := ctR_le (fun i9 => dbt w i9 k) a (i - a)
  refine lv_iload hx hb dX4_doubtful_6 (lv_at hl 5 rfl) ?_
  refine lv_iload_n hx hb dX4_doubtful_8 rfl (lv_at hl 2 rfl) ?_
  refine xE_gt (tgt := 38) hx hb (by omega) (by omega) dX4_doubtful_9 (by decide) (fun c_9 => ?_) (fun c_9 => ?_)
  · refine lv_iload hx hb dX4_doubtful_38 (lv_at hl 4 rfl) ?_
    exact xret_i (V := nI (f)) hF hret hlocks (by rw [I2, show i = b by omega]) dX4_doubtful_40
  · refine lv_iload hx hb dX4_doubtful_12 (lv_at hl 4 rfl) ?_
    refine lv_aload_n hx hb dX4_doubtful_14 rfl (lv_at hl 0 rfl) ?_
    refine lv_iload hx hb dX4_doubtful_15 (lv_at hl 5 rfl) ?_
    refine lv_iload_n hx hb dX4_doubtful_17 rfl (lv_at hl 3 rfl) ?_
    refine vp_callSi (va_Run.run (xrV hF (c_X4_isDoubtful l g mo mn mp mq mt mm md zs zl zp zr zk w hW i k (by omega) (by omega)) cal_X4_isDoubtful q_422 ⟨by decide, by decide⟩ rfl rfl rfl (va_recv hF.2.1 hP (ci := 4) (q0 := 0) rfl rfl) hZ (hP) hl.1 rfl (Nat.le_of_ble_eq_true rfl) dX4_doubtful_18 ⟨Nat.le_refl _, Nat.le_refl _⟩)) (fun r_ h_ => ?_)
    subst h_
    refine xZ_eq (tgt := 28) hx hb dX4_doubtful_21 (by decide) (fun c_21 => ?_) (fun c_21 => ?_)
    · refine xN_const hx hb 0 dX4_doubtful_28 (by decide) ?_
      refine xN_add hx hb dX4_doubtful_29 ?_
      refine lv_istore (lv' := [(4, .int (nI (f + 0))), (0, .ref mo), (1, .int (nI a)), (2, .int (nI (b) - nI 1)), (3, .int (nI k)), (5, .int (nI i))]) hx hb dX4_doubtful_30 hl (by decide) rfl (fun ls hl => ?_)
      refine xN_inc (lv' := [(5, .int (nI (i + 1))), (4, .int (nI (f + 0))), (0, .ref mo), (1, .int (nI a)), (2, .int (nI (b) - nI 1)), (3, .int (nI k))]) hx hb 1 dX4_doubtful_32 hl (k := 5) rfl (by decide) (by decide) rfl (fun ls hl => ?_)
      refine lv_goto (tgt := 6) hx hb dX4_doubtful_35 (by decide) ?_
      exact ih (f + 0, i + 1) ls ⟨by omega, by omega, by rw [I2, ctR_f I0 c_21]; rfl, lv_sub hl [2, 3, 4, 5, 1, 0] rfl⟩ (by dsimp only; omega)
    · refine xN_const hx hb 1 dX4_doubtful_24 (by decide) ?_
      refine lv_goto (tgt := 29) hx hb dX4_doubtful_25 (by decide) ?_
      refine xN_add hx hb dX4_doubtful_29 ?_
      refine lv_istore (lv' := [(4, .int (nI (f + 1))), (0, .ref mo), (1, .int (nI a)), (2, .int (nI (b) - nI 1)), (3, .int (nI k)), (5, .int (nI i))]) hx hb dX4_doubtful_30 hl (by decide) rfl (fun ls hl => ?_)
      refine xN_inc (lv' := [(5, .int (nI (i + 1))), (4, .int (nI (f + 1))), (0, .ref mo), (1, .int (nI a)), (2, .int (nI (b) - nI 1)), (3, .int (nI k))]) hx hb 1 dX4_doubtful_32 hl (k := 5) rfl (by decide) (by decide) rfl (fun ls hl => ?_)
      refine lv_goto (tgt := 6) hx hb dX4_doubtful_35 (by decide) ?_
      exact ih (f + 1, i + 1) ls ⟨by omega, by omega, by rw [I2, ctR_t I0 c_21], lv_sub hl [2, 3, 4, 5, 1, 0] rfl⟩ (by dsimp only; omega)
set_option maxHeartbeats 4000000 in
set_option maxRecDepth 100000 in
theorem c_X4_watches (l : Launch) (g : XG) (mo mn mp mq mt mm md zs zl zp zr : Nat) (zk : Bool) (w : Nat → Int32) (hW : WF w)  : Met l yX4_watches (ww yX4_watches cX4_watches 1 (some .int)) (rmD 0) (xP g [.ref mo] (fun H => va_P g.1 vwCl (ModC g mo mn mp mq mt mm md zs zl zp zr zk w) H)) (vp_Si (fun r9 => r9 = nI (wcs w))) 0 0 (fun _ => False) := by
  refine xMet (by decide) rfl (Nat.le_of_ble_eq_true rfl) ?_
  intro p e s m below meth c ls hF hZ hh hret hlocks hin hl
  have hx := hF.1.1
  have hb := hF.1.2.1
  have hP := hh
  have hP : va_P g.1 vwCl (ModC g mo mn mp mq mt mm md zs zl zp zr zk w) s.heap := hP
  have hl : lv_has ls 1 [(0, .ref mo)] := hl
  have h48 := hW.n48
  have hp4 := hW.pg4
  have hp12 := hW.pg12
  have hs1 := hW.st1
  have hw2 := hW.wr2
  have hw6 := hW.wr6
  refine lv_aload_n hx hb dX4_watches_0 rfl (lv_at hl 0 rfl) ?_
  refine gf_X4_X4_now hF hP 0 rfl rfl dX4_watches_1 ?_
  refine xN_const hx hb 0 dX4_watches_4 (by decide) ?_
  refine xA_ild hF hP 1 rfl (by omega) (by decide) (v := nI (nr w)) (hW.r0) dX4_watches_5 ?_
  refine lv_aload_n hx hb dX4_watches_6 rfl (lv_at hl 0 rfl) ?_
  refine gf_X4_X4_now hF hP 0 rfl rfl dX4_watches_7 ?_
  refine xN_const hx hb 3 dX4_watches_10 (by decide) ?_
  refine xA_ild hF hP 1 rfl (by omega) (by decide) (v := nI (wrN w)) (hW.r3) dX4_watches_11 ?_
  refine xN_add hx hb dX4_watches_12 ?_
  refine xN_const hx hb 1 dX4_watches_13 (by decide) ?_
  refine xN_sub hx hb (by omega) dX4_watches_14 ?_
  refine lv_aload_n hx hb dX4_watches_15 rfl (lv_at hl 0 rfl) ?_
  refine gf_X4_X4_now hF hP 0 rfl rfl dX4_watches_16 ?_
  refine xN_const hx hb 3 dX4_watches_19 (by decide) ?_
  refine xA_ild hF hP 1 rfl (by omega) (by decide) (v := nI (wrN w)) (hW.r3) dX4_watches_20 ?_
  refine xN_div hx hb (by omega) (by omega) (by omega) dX4_watches_21 ?_
  exact xret_i (V := nI (((nr w + (wrN w)) - 1) / (wrN w))) hF hret hlocks (rfl) dX4_watches_22
set_option maxHeartbeats 4000000 in
set_option maxRecDepth 100000 in
theorem c_X4_lastOf (l : Launch) (g : XG) (mo mn mp mq mt mm md zs zl zp zr : Nat) (zk : Bool) (w : Nat → Int32) (hW : WF w) (t : Nat) (ht : t < 24) : Met l yX4_lastOf (ww yX4_lastOf cX4_lastOf 3 (some .int)) (rmD 0) (xP g [.ref mo, .int (nI t)] (fun H => va_P g.1 vwCl (ModC g mo mn mp mq mt mm md zs zl zp zr zk w) H)) (vp_Si (fun r9 => r9 = nI (lstN w t) - nI 1)) 0 0 (fun _ => False) := by
  refine xMet (by decide) rfl (Nat.le_of_ble_eq_true rfl) ?_
  intro p e s m below meth c ls hF hZ hh hret hlocks hin hl
  have hx := hF.1.1
  have hb := hF.1.2.1
  have hP := hh
  have hP : va_P g.1 vwCl (ModC g mo mn mp mq mt mm md zs zl zp zr zk w) s.heap := hP
  have hl : lv_has ls 3 [(0, .ref mo), (1, .int (nI t))] := hl
  have h48 := hW.n48
  have hp4 := hW.pg4
  have hp12 := hW.pg12
  have hs1 := hW.st1
  have hw2 := hW.wr2
  have hw6 := hW.wr6
  have htw : (t + 1) * wrN w ≤ 24 * 6 := Nat.mul_le_mul (by omega) (by omega)
  refine lv_iload_n hx hb dX4_lastOf_0 rfl (lv_at hl 1 rfl) ?_
  refine xN_const hx hb 1 dX4_lastOf_1 (by decide) ?_
  refine xN_add hx hb dX4_lastOf_2 ?_
  refine lv_aload_n hx hb dX4_lastOf_3 rfl (lv_at hl 0 rfl) ?_
  refine gf_X4_X4_now hF hP 0 rfl rfl dX4_lastOf_4 ?_
  refine xN_const hx hb 3 dX4_lastOf_7 (by decide) ?_
  refine xA_ild hF hP 1 rfl (by omega) (by decide) (v := nI (wrN w)) (hW.r3) dX4_lastOf_8 ?_
  refine xN_mul hx hb dX4_lastOf_9 ?_
  refine lv_istore_n (lv' := [(2, .int (nI ((t + 1) * (wrN w)))), (0, .ref mo), (1, .int (nI t))]) hx hb dX4_lastOf_10 rfl hl (by decide) rfl (fun ls hl => ?_)
  refine lv_iload_n hx hb dX4_lastOf_11 rfl (lv_at hl 0 rfl) ?_
  refine lv_aload_n hx hb dX4_lastOf_12 rfl (lv_at hl 1 rfl) ?_
  refine gf_X4_X4_now hF hP 0 rfl rfl dX4_lastOf_13 ?_
  refine xN_const hx hb 0 dX4_lastOf_16 (by decide) ?_
  refine xA_ild hF hP 1 rfl (by omega) (by decide) (v := nI (nr w)) (hW.r0) dX4_lastOf_17 ?_
  refine xC_ge (tgt := 25) hx hb (by omega) (by omega) dX4_lastOf_18 (by decide) (fun c_18 => ?_) (fun c_18 => ?_)
  · refine lv_aload_n hx hb dX4_lastOf_25 rfl (lv_at hl 1 rfl) ?_
    refine gf_X4_X4_now hF hP 0 rfl rfl dX4_lastOf_26 ?_
    refine xN_const hx hb 0 dX4_lastOf_29 (by decide) ?_
    refine xA_ild hF hP 1 rfl (by omega) (by decide) (v := nI (nr w)) (hW.r0) dX4_lastOf_30 ?_
    refine xN_const hx hb 1 dX4_lastOf_31 (by decide) ?_
    refine lv_isub hx hb dX4_lastOf_32 ?_
    exact xret_i (V := nI (nr w) - nI 1) hF hret hlocks (by unfold lstN; by_cases h : nr w < (t + 1) * wrN w; { rw [if_pos h] }; { rw [if_neg h, show (t + 1) * wrN w = nr w by omega] }) dX4_lastOf_33
  · refine lv_iload_n hx hb dX4_lastOf_21 rfl (lv_at hl 0 rfl) ?_
    refine lv_goto (tgt := 31) hx hb dX4_lastOf_22 (by decide) ?_
    refine xN_const hx hb 1 dX4_lastOf_31 (by decide) ?_
    refine lv_isub hx hb dX4_lastOf_32 ?_
    exact xret_i (V := nI ((t + 1) * (wrN w)) - nI 1) hF hret hlocks (by unfold lstN; rw [if_neg (by omega)]) dX4_lastOf_33
set_option maxHeartbeats 4000000 in
set_option maxRecDepth 100000 in
theorem c_X4_runOf (l : Launch) (g : XG) (mo mn mp mq mt mm md zs zl zp zr : Nat) (zk : Bool) (w : Nat → Int32) (hW : WF w) (a b : Nat) (hab : a ≤ b) (hb : b ≤ nr w) : Met l yX4_runOf (ww yX4_runOf cX4_runOf 5 (some .int)) (rmD 6) (xP g [.ref mo, .int (nI a), .int (nI (b) - nI 1)] (fun H => va_P g.1 vwCl (ModC g mo mn mp mq mt mm md zs zl zp zr zk w) H)) (vp_Si (fun r9 => r9 = nI (runN w a b))) 0 0 (fun _ => False) := by
  refine xMet (by decide) rfl (Nat.le_of_ble_eq_true rfl) ?_
  intro p e s m below meth c ls hF hZ hh hret hlocks hin hl
  have hx := hF.1.1
  have hb := hF.1.2.1
  have hP := hh
  have hP : va_P g.1 vwCl (ModC g mo mn mp mq mt mm md zs zl zp zr zk w) s.heap := hP
  have hl : lv_has ls 5 [(0, .ref mo), (1, .int (nI a)), (2, .int (nI (b) - nI 1))] := hl
  have h48 := hW.n48
  have hp4 := hW.pg4
  have hp12 := hW.pg12
  have hs1 := hW.st1
  have hw2 := hW.wr2
  have hw6 := hW.wr6
  refine xN_const hx hb 0 dX4_runOf_0 (by decide) ?_
  refine lv_istore_n (lv' := [(3, .int (nI 0)), (0, .ref mo), (1, .int (nI a)), (2, .int (nI (b) - nI 1))]) hx hb dX4_runOf_1 rfl hl (by decide) rfl (fun ls hl => ?_)
  refine lv_iload_n hx hb dX4_runOf_2 rfl (lv_at hl 2 rfl) ?_
  refine lv_istore (lv' := [(4, .int (nI a)), (3, .int (nI 0)), (0, .ref mo), (1, .int (nI a)), (2, .int (nI (b) - nI 1))]) hx hb dX4_runOf_3 hl (by decide) rfl (fun ls hl => ?_)
  refine xloop (goal := fun ls => W p l e _ s m _ below meth c s.heap [] _ _ _ (F0 m _ ls [])) (fun (z_ : Nat × Nat) (ls : Array Slot) => match z_ with | (f, i) => (a ≤ i) ∧ (i ≤ b) ∧ (f = smR (spd w) a (i - a)) ∧ lv_has ls 5 [(0, .ref mo), (1, .int (nI a)), (2, .int (nI (b) - nI 1)), (3, .int (nI f)), (4, .int (nI i))]) (fun (z_ : Nat × Nat) => match z_ with | (f, i) => b - i) ?_ (0, a) ls ⟨Nat.le_refl _, hab, by rw [Nat.sub_self]; rfl, lv_sub hl [2, 3, 4, 1, 0] rfl⟩
  rintro ⟨f, i⟩ ls ⟨I0, I1, I2, hl⟩ ih
  refine lv_iload hx hb dX4_runOf_5 (lv_at hl 4 rfl) ?_
  refine lv_iload_n hx hb dX4_runOf_7 rfl (lv_at hl 2 rfl) ?_
  refine xE_gt (tgt := 41) hx hb (by omega) (by omega) dX4_runOf_8 (by decide) (fun c_8 => ?_) (fun c_8 => ?_)
  · refine lv_iload_n hx hb dX4_runOf_41 rfl (lv_at hl 3 rfl) ?_
    exact xret_i (V := nI (f)) hF hret hlocks (by rw [I2, show i = b by omega]; rfl) dX4_runOf_42
  · refine lv_iload_n hx hb dX4_runOf_11 rfl (lv_at hl 3 rfl) ?_
    refine lv_aload_n hx hb dX4_runOf_12 rfl (lv_at hl 0 rfl) ?_
    refine lv_iload hx hb dX4_runOf_13 (lv_at hl 4 rfl) ?_
    refine xN_const hx hb 1 dX4_runOf_15 (by decide) ?_
    refine vp_callSi (va_Run.run (xrV hF (c_X4_means l g mo mn mp mq mt mm md zs zl zp zr zk w hW i 1 (by omega) (by omega)) cal_X4_means q_286 ⟨by decide, by decide⟩ rfl rfl rfl (va_recv hF.2.1 hP (ci := 4) (q0 := 0) rfl rfl) hZ (hP) hl.1 rfl (Nat.le_of_ble_eq_true rfl) dX4_runOf_16 ⟨Nat.le_refl _, Nat.le_refl _⟩)) (fun r_ h_ => ?_)
    subst h_
    refine lv_if_lt (tgt := 32) hx hb dX4_runOf_19 (by decide) (fun c_19 => ?_) (fun c_19 => ?_)
    · refine xN_const hx hb 0 dX4_runOf_32 (by decide) ?_
      refine xN_add hx hb dX4_runOf_33 ?_
      refine lv_istore_n (lv' := [(3, .int (nI (f + 0))), (0, .ref mo), (1, .int (nI a)), (2, .int (nI (b) - nI 1)), (4, .int (nI i))]) hx hb dX4_runOf_34 rfl hl (by decide) rfl (fun ls hl => ?_)
      refine xN_inc (lv' := [(4, .int (nI (i + 1))), (3, .int (nI (f + 0))), (0, .ref mo), (1, .int (nI a)), (2, .int (nI (b) - nI 1))]) hx hb 1 dX4_runOf_35 hl (k := 4) rfl (by decide) (by decide) rfl (fun ls hl => ?_)
      refine lv_goto (tgt := 5) hx hb dX4_runOf_38 (by decide) ?_
      exact ih (f + 0, i + 1) ls ⟨by omega, by omega, by rw [I2, smR_step I0, show spd w i = 0 from spd_neg c_19], lv_sub hl [2, 3, 4, 1, 0] rfl⟩ (by dsimp only; omega)
    · refine lv_aload_n hx hb dX4_runOf_22 rfl (lv_at hl 0 rfl) ?_
      refine lv_iload hx hb dX4_runOf_23 (lv_at hl 4 rfl) ?_
      refine xN_const hx hb 1 dX4_runOf_25 (by decide) ?_
      refine vp_callSi (va_Run.run (xrV hF (c_X4_means l g mo mn mp mq mt mm md zs zl zp zr zk w hW i 1 (by omega) (by omega)) cal_X4_means q_286 ⟨by decide, by decide⟩ rfl rfl rfl (va_recv hF.2.1 hP (ci := 4) (q0 := 0) rfl rfl) hZ (hP) hl.1 rfl (Nat.le_of_ble_eq_true rfl) dX4_runOf_26 ⟨Nat.le_refl _, Nat.le_refl _⟩)) (fun r_ h_ => ?_)
      subst h_
      rw [show ((mean w i 1) : Int32) = nI (spd w i) from spd_pos c_19]
      refine lv_goto (tgt := 33) hx hb dX4_runOf_29 (by decide) ?_
      refine xN_add hx hb dX4_runOf_33 ?_
      refine lv_istore_n (lv' := [(3, .int (nI (f + (spd w i)))), (0, .ref mo), (1, .int (nI a)), (2, .int (nI (b) - nI 1)), (4, .int (nI i))]) hx hb dX4_runOf_34 rfl hl (by decide) rfl (fun ls hl => ?_)
      refine xN_inc (lv' := [(4, .int (nI (i + 1))), (3, .int (nI (f + (spd w i)))), (0, .ref mo), (1, .int (nI a)), (2, .int (nI (b) - nI 1))]) hx hb 1 dX4_runOf_35 hl (k := 4) rfl (by decide) (by decide) rfl (fun ls hl => ?_)
      refine lv_goto (tgt := 5) hx hb dX4_runOf_38 (by decide) ?_
      exact ih (f + (spd w i), i + 1) ls ⟨by omega, by omega, by rw [I2, smR_step I0], lv_sub hl [2, 3, 4, 1, 0] rfl⟩ (by dsimp only; omega)
set_option maxHeartbeats 4000000 in
set_option maxRecDepth 100000 in
theorem c_X4_inDoubt (l : Launch) (g : XG) (mo mn mp mq mt mm md zs zl zp zr : Nat) (zk : Bool) (w : Nat → Int32) (hW : WF w) (a b : Nat) (hab : a ≤ b) (hb : b ≤ nr w) : Met l yX4_inDoubt (ww yX4_inDoubt cX4_inDoubt 5 (some .int)) (rmD 7) (xP g [.ref mo, .int (nI a), .int (nI (b) - nI 1)] (fun H => va_P g.1 vwCl (ModC g mo mn mp mq mt mm md zs zl zp zr zk w) H)) (vp_Si (fun r9 => r9 = nI (idN w a b 4))) 0 0 (fun _ => False) := by
  refine xMet (by decide) rfl (Nat.le_of_ble_eq_true rfl) ?_
  intro p e s m below meth c ls hF hZ hh hret hlocks hin hl
  have hx := hF.1.1
  have hb := hF.1.2.1
  have hP := hh
  have hP : va_P g.1 vwCl (ModC g mo mn mp mq mt mm md zs zl zp zr zk w) s.heap := hP
  have hl : lv_has ls 5 [(0, .ref mo), (1, .int (nI a)), (2, .int (nI (b) - nI 1))] := hl
  have h48 := hW.n48
  have hp4 := hW.pg4
  have hp12 := hW.pg12
  have hs1 := hW.st1
  have hw2 := hW.wr2
  have hw6 := hW.wr6
  refine xN_const hx hb 0 dX4_inDoubt_0 (by decide) ?_
  refine lv_istore_n (lv' := [(3, .int (nI 0)), (0, .ref mo), (1, .int (nI a)), (2, .int (nI (b) - nI 1))]) hx hb dX4_inDoubt_1 rfl hl (by decide) rfl (fun ls hl => ?_)
  refine xN_const hx hb 0 dX4_inDoubt_2 (by decide) ?_
  refine lv_istore (lv' := [(4, .int (nI 0)), (3, .int (nI 0)), (0, .ref mo), (1, .int (nI a)), (2, .int (nI (b) - nI 1))]) hx hb dX4_inDoubt_3 hl (by decide) rfl (fun ls hl => ?_)
  refine xloop (goal := fun ls => W p l e _ s m _ below meth c s.heap [] _ _ _ (F0 m _ ls [])) (fun (z_ : Nat × Nat) (ls : Array Slot) => match z_ with | (f, i) => (i ≤ 4) ∧ (f = idN w a b i) ∧ lv_has ls 5 [(0, .ref mo), (1, .int (nI a)), (2, .int (nI (b) - nI 1)), (3, .int (nI f)), (4, .int (nI i))]) (fun (z_ : Nat × Nat) => match z_ with | (f, i) => 4 - i) ?_ (0, 0) ls ⟨by omega, rfl, lv_sub hl [2, 3, 4, 1, 0] rfl⟩
  rintro ⟨f, i⟩ ls ⟨I1, I2, hl⟩ ih
  refine lv_iload hx hb dX4_inDoubt_5 (lv_at hl 4 rfl) ?_
  refine xN_const hx hb 4 dX4_inDoubt_7 (by decide) ?_
  refine xC_ge (tgt := 28) hx hb (by omega) (by omega) dX4_inDoubt_8 (by decide) (fun c_8 => ?_) (fun c_8 => ?_)
  · refine lv_iload_n hx hb dX4_inDoubt_28 rfl (lv_at hl 3 rfl) ?_
    exact xret_i (V := nI (f)) hF hret hlocks (by rw [I2, show i = 4 by omega]) dX4_inDoubt_29
  · refine lv_iload_n hx hb dX4_inDoubt_11 rfl (lv_at hl 3 rfl) ?_
    refine lv_aload_n hx hb dX4_inDoubt_12 rfl (lv_at hl 0 rfl) ?_
    refine lv_iload_n hx hb dX4_inDoubt_13 rfl (lv_at hl 1 rfl) ?_
    refine lv_iload_n hx hb dX4_inDoubt_14 rfl (lv_at hl 2 rfl) ?_
    refine lv_iload hx hb dX4_inDoubt_15 (lv_at hl 4 rfl) ?_
    refine vp_callSi (va_Run.run (xrV hF (c_X4_doubtful l g mo mn mp mq mt mm md zs zl zp zr zk w hW a b (by omega) (by omega) i (by omega)) cal_X4_doubtful q_507 ⟨by decide, by decide⟩ rfl rfl rfl (va_recv hF.2.1 hP (ci := 4) (q0 := 0) rfl rfl) hZ (hP) hl.1 rfl (Nat.le_of_ble_eq_true rfl) dX4_inDoubt_17 ⟨Nat.le_refl _, Nat.le_refl _⟩)) (fun r_ h_ => ?_)
    subst h_
    refine xN_add hx hb dX4_inDoubt_20 ?_
    refine lv_istore_n (lv' := [(3, .int (nI (f + (ctR (fun i9 => dbt w i9 i) a (b - a))))), (0, .ref mo), (1, .int (nI a)), (2, .int (nI (b) - nI 1)), (4, .int (nI i))]) hx hb dX4_inDoubt_21 rfl hl (by decide) rfl (fun ls hl => ?_)
    refine xN_inc (lv' := [(4, .int (nI (i + 1))), (3, .int (nI (f + (ctR (fun i9 => dbt w i9 i) a (b - a))))), (0, .ref mo), (1, .int (nI a)), (2, .int (nI (b) - nI 1))]) hx hb 1 dX4_inDoubt_22 hl (k := 4) rfl (by decide) (by decide) rfl (fun ls hl => ?_)
    refine lv_goto (tgt := 5) hx hb dX4_inDoubt_25 (by decide) ?_
    exact ih (f + (ctR (fun i9 => dbt w i9 i) a (b - a)), i + 1) ls ⟨by omega, by rw [I2, idN], lv_sub hl [2, 3, 4, 1, 0] rfl⟩ (by dsimp only; omega)
set_option maxHeartbeats 4000000 in
set_option maxRecDepth 100000 in
theorem c_X4_mayGo (l : Launch) (g : XG) (mo mn mp mq mt mm md zs zl zp zr : Nat) (zk : Bool) (w : Nat → Int32) (hW : WF w) (x y : Int32) : Met l yX4_mayGo (ww yX4_mayGo cX4_mayGo 3 (some .int)) (rmD 2) (xP g [.ref mo, .int (x), .int (y)] (fun H => va_P g.1 vwCl (ModC g mo mn mp mq mt mm md zs zl zp zr zk w) H)) (vp_Si (fun r9 => r9 = mg w x y)) 0 0 (fun _ => False) := by
  refine xMet (by decide) rfl (Nat.le_of_ble_eq_true rfl) ?_
  intro p e s m below meth c ls hF hZ hh hret hlocks hin hl
  have hx := hF.1.1
  have hb := hF.1.2.1
  have hP := hh
  have hP : va_P g.1 vwCl (ModC g mo mn mp mq mt mm md zs zl zp zr zk w) s.heap := hP
  have hl : lv_has ls 3 [(0, .ref mo), (1, .int (x)), (2, .int (y))] := hl
  have h48 := hW.n48
  have hp4 := hW.pg4
  have hp12 := hW.pg12
  have hs1 := hW.st1
  have hw2 := hW.wr2
  have hw6 := hW.wr6
  refine lv_aload_n hx hb dX4_mayGo_0 rfl (lv_at hl 0 rfl) ?_
  refine lv_iload_n hx hb dX4_mayGo_1 rfl (lv_at hl 1 rfl) ?_
  refine vp_callSi (va_Run.run (xrV hF (c_X4_isRow l g mo mn mp mq mt mm md zs zl zp zr zk w hW ((x)) ) cal_X4_isRow q_267 ⟨by decide, by decide⟩ rfl rfl rfl (va_recv hF.2.1 hP (ci := 4) (q0 := 0) rfl rfl) hZ (hP) hl.1 rfl (Nat.le_of_ble_eq_true rfl) dX4_mayGo_2 ⟨Nat.le_refl _, Nat.le_refl _⟩)) (fun r_ h_ => ?_)
  subst h_
  refine xZ_eq (tgt := 16) hx hb dX4_mayGo_5 (by decide) (fun c_5 => ?_) (fun c_5 => ?_)
  · refine lv_iconst hx hb (v := (-1)) dX4_mayGo_16 (by decide) ?_
    refine lv_goto (tgt := 31) hx hb dX4_mayGo_17 (by decide) ?_
    exact xret_i (V := (-1)) hF hret hlocks (by unfold mg; rw [c_5]; rfl) dX4_mayGo_31
  · refine lv_aload_n hx hb dX4_mayGo_8 rfl (lv_at hl 0 rfl) ?_
    refine lv_iload_n hx hb dX4_mayGo_9 rfl (lv_at hl 2 rfl) ?_
    refine vp_callSi (va_Run.run (xrV hF (c_X4_isRow l g mo mn mp mq mt mm md zs zl zp zr zk w hW ((y)) ) cal_X4_isRow q_267 ⟨by decide, by decide⟩ rfl rfl rfl (va_recv hF.2.1 hP (ci := 4) (q0 := 0) rfl rfl) hZ (hP) hl.1 rfl (Nat.le_of_ble_eq_true rfl) dX4_mayGo_10 ⟨Nat.le_refl _, Nat.le_refl _⟩)) (fun r_ h_ => ?_)
    subst h_
    refine xZ_ne (tgt := 20) hx hb dX4_mayGo_13 (by decide) (fun c_13 => ?_) (fun c_13 => ?_)
    · refine lv_iload_n hx hb dX4_mayGo_20 rfl (lv_at hl 2 rfl) ?_
      refine lv_iload_n hx hb dX4_mayGo_21 rfl (lv_at hl 1 rfl) ?_
      refine lv_icmp_ge (tgt := 30) hx hb dX4_mayGo_22 (by decide) (fun c_22 => ?_) (fun c_22 => ?_)
      · refine xN_const hx hb 0 dX4_mayGo_30 (by decide) ?_
        exact xret_i (V := nI (0)) hF hret hlocks (by unfold mg; rw [c_5, c_13, if_neg (Int32.not_lt.mpr c_22)]; rfl) dX4_mayGo_31
      · refine lv_bipush hx hb (v := (-2)) dX4_mayGo_25 (by decide) ?_
        refine lv_goto (tgt := 31) hx hb dX4_mayGo_27 (by decide) ?_
        exact xret_i (V := (-2)) hF hret hlocks (by unfold mg; rw [c_5, c_13, if_pos (Int32.not_le.mp c_22)]; rfl) dX4_mayGo_31
    · refine lv_iconst hx hb (v := (-1)) dX4_mayGo_16 (by decide) ?_
      refine lv_goto (tgt := 31) hx hb dX4_mayGo_17 (by decide) ?_
      exact xret_i (V := (-1)) hF hret hlocks (by unfold mg; rw [c_13, Bool.and_false]; rfl) dX4_mayGo_31
set_option maxHeartbeats 4000000 in
set_option maxRecDepth 100000 in
theorem c_X4_run (l : Launch) (g : XG) (mo mn mp mq mt mm md zs zl zp zr : Nat) (zk : Bool) (w : Nat → Int32) (hW : WF w) (x y : Int32) : Met l yX4_run (ww yX4_run cX4_run 4 (some .int)) (rmD 7) (xP g [.ref mo, .int (x), .int (y)] (fun H => va_P g.1 vwCl (ModC g mo mn mp mq mt mm md zs zl zp zr zk w) H)) (vp_Si (fun r9 => r9 = runA w x y)) 0 0 (fun _ => False) := by
  refine xMet (by decide) rfl (Nat.le_of_ble_eq_true rfl) ?_
  intro p e s m below meth c ls hF hZ hh hret hlocks hin hl
  have hx := hF.1.1
  have hb := hF.1.2.1
  have hP := hh
  have hP : va_P g.1 vwCl (ModC g mo mn mp mq mt mm md zs zl zp zr zk w) s.heap := hP
  have hl : lv_has ls 4 [(0, .ref mo), (1, .int (x)), (2, .int (y))] := hl
  have h48 := hW.n48
  have hp4 := hW.pg4
  have hp12 := hW.pg12
  have hs1 := hW.st1
  have hw2 := hW.wr2
  have hw6 := hW.wr6
  refine lv_aload_n hx hb dX4_run_0 rfl (lv_at hl 0 rfl) ?_
  refine lv_iload_n hx hb dX4_run_1 rfl (lv_at hl 1 rfl) ?_
  refine lv_iload_n hx hb dX4_run_2 rfl (lv_at hl 2 rfl) ?_
  refine vp_callSi (va_Run.run (xrV hF (c_X4_mayGo l g mo mn mp mq mt mm md zs zl zp zr zk w hW ((x)) ((y)) ) cal_X4_mayGo q_560 ⟨by decide, by decide⟩ rfl rfl rfl (va_recv hF.2.1 hP (ci := 4) (q0 := 0) rfl rfl) hZ (hP) hl.1 rfl (Nat.le_of_ble_eq_true rfl) dX4_run_3 ⟨Nat.le_refl _, Nat.le_refl _⟩)) (fun r_ h_ => ?_)
  subst h_
  refine lv_istore_n (lv' := [(3, .int (mg w ((x)) ((y)))), (0, .ref mo), (1, .int (x)), (2, .int (y))]) hx hb dX4_run_6 rfl hl (by decide) rfl (fun ls hl => ?_)
  refine lv_iload_n hx hb dX4_run_7 rfl (lv_at hl 0 rfl) ?_
  refine lv_if_ge (tgt := 15) hx hb dX4_run_8 (by decide) (fun c_8 => ?_) (fun c_8 => ?_)
  · obtain ⟨q1, q2, q3⟩ := mg_neg.mp (Int32.not_lt.mpr c_8)
    obtain ⟨a, ha9, rfl⟩ := (rowB_iff hW).mp q1
    obtain ⟨b, hb9, rfl⟩ := (rowB_iff hW).mp q2
    have hab : a ≤ b := Nat.le_of_not_lt (fun q => q3 (nI_lt q (by omega)))
    refine lv_aload_n hx hb dX4_run_15 rfl (lv_at hl 1 rfl) ?_
    refine lv_iload_n hx hb dX4_run_16 rfl (lv_at hl 2 rfl) ?_
    refine lv_iload_n hx hb dX4_run_17 rfl (lv_at hl 3 rfl) ?_
    refine W.eq (g2 := F0 m 18 ls [.int (nI (b + 1) - nI 1), .int (nI a), .ref mo]) (by rw [xE_pred]) ?_
    refine vp_callSi (va_Run.run (xrV hF (c_X4_runOf l g mo mn mp mq mt mm md zs zl zp zr zk w hW a (b + 1) (by omega) (by omega)) cal_X4_runOf q_544 ⟨by decide, by decide⟩ rfl rfl rfl (va_recv hF.2.1 hP (ci := 4) (q0 := 0) rfl rfl) hZ (hP) hl.1 rfl (Nat.le_of_ble_eq_true rfl) dX4_run_18 ⟨Nat.le_refl _, Nat.le_refl _⟩)) (fun r_ h_ => ?_)
    subst h_
    exact xret_i (V := nI (runN w a (b + 1))) hF hret hlocks (by unfold runA; rw [if_neg (Int32.not_lt.mpr c_8), nI_clamp (by omega), nI_clamp (by omega)]) dX4_run_21
  · refine lv_iload_n hx hb dX4_run_11 rfl (lv_at hl 0 rfl) ?_
    refine lv_goto (tgt := 21) hx hb dX4_run_12 (by decide) ?_
    exact xret_i (V := (mg w ((x)) ((y)))) hF hret hlocks (by unfold runA; rw [if_pos (Int32.not_le.mp c_8)]) dX4_run_21
set_option maxHeartbeats 4000000 in
set_option maxRecDepth 100000 in
theorem c_X4_allWritten (l : Launch) (g : XG) (mo mn mp mq mt mm md zs zl zp zr : Nat) (zk : Bool) (w : Nat → Int32) (hW : WF w)  : Met l yX4_allWritten (ww yX4_allWritten cX4_allWritten 3 (some .int)) (rmD 4) (xP g [.ref mo] (fun H => va_P g.1 vwCl (ModC g mo mn mp mq mt mm md zs zl zp zr zk w) H)) (vp_Si (fun r9 => r9 = nI (ctR (wrB w) 0 (nr w)))) 0 0 (fun _ => False) := by
  refine xMet (by decide) rfl (Nat.le_of_ble_eq_true rfl) ?_
  intro p e s m below meth c ls hF hZ hh hret hlocks hin hl
  have hx := hF.1.1
  have hb := hF.1.2.1
  have hP := hh
  have hP : va_P g.1 vwCl (ModC g mo mn mp mq mt mm md zs zl zp zr zk w) s.heap := hP
  have hl : lv_has ls 3 [(0, .ref mo)] := hl
  have h48 := hW.n48
  have hp4 := hW.pg4
  have hp12 := hW.pg12
  have hs1 := hW.st1
  have hw2 := hW.wr2
  have hw6 := hW.wr6
  refine xN_const hx hb 0 dX4_allWritten_0 (by decide) ?_
  refine lv_istore_n (lv' := [(1, .int (nI 0)), (0, .ref mo)]) hx hb dX4_allWritten_1 rfl hl (by decide) rfl (fun ls hl => ?_)
  refine xN_const hx hb 0 dX4_allWritten_2 (by decide) ?_
  refine lv_istore_n (lv' := [(2, .int (nI 0)), (1, .int (nI 0)), (0, .ref mo)]) hx hb dX4_allWritten_3 rfl hl (by decide) rfl (fun ls hl => ?_)
  refine xloop (goal := fun ls => W p l e _ s m _ below meth c s.heap [] _ _ _ (F0 m _ ls [])) (fun (z_ : Nat × Nat) (ls : Array Slot) => match z_ with | (f, i) => (i ≤ nr w) ∧ (f = ctR (wrB w) 0 (i - 0)) ∧ lv_has ls 3 [(0, .ref mo), (1, .int (nI f)), (2, .int (nI i))]) (fun (z_ : Nat × Nat) => match z_ with | (f, i) => nr w - i) ?_ (0, 0) ls ⟨Nat.zero_le _, rfl, lv_sub hl [2, 1, 0] rfl⟩
  rintro ⟨f, i⟩ ls ⟨I1, I2, hl⟩ ih
  have hf := ctR_le (wrB w) 0 (i - 0)
  refine lv_iload_n hx hb dX4_allWritten_4 rfl (lv_at hl 2 rfl) ?_
  refine lv_aload_n hx hb dX4_allWritten_5 rfl (lv_at hl 0 rfl) ?_
  refine gf_X4_X4_now hF hP 0 rfl rfl dX4_allWritten_6 ?_
  refine xN_const hx hb 0 dX4_allWritten_9 (by decide) ?_
  refine xA_ild hF hP 1 rfl (by omega) (by decide) (v := nI (nr w)) (hW.r0) dX4_allWritten_10 ?_
  refine xC_ge (tgt := 28) hx hb (by omega) (by omega) dX4_allWritten_11 (by decide) (fun c_11 => ?_) (fun c_11 => ?_)
  · refine lv_iload_n hx hb dX4_allWritten_28 rfl (lv_at hl 1 rfl) ?_
    exact xret_i (V := nI (f)) hF hret hlocks (by rw [I2, show i = nr w by omega]; rfl) dX4_allWritten_29
  · refine lv_iload_n hx hb dX4_allWritten_14 rfl (lv_at hl 1 rfl) ?_
    refine lv_aload_n hx hb dX4_allWritten_15 rfl (lv_at hl 0 rfl) ?_
    refine lv_iload_n hx hb dX4_allWritten_16 rfl (lv_at hl 2 rfl) ?_
    refine vp_callSi (va_Run.run (xrV hF (c_X4_written l g mo mn mp mq mt mm md zs zl zp zr zk w hW i (by omega)) cal_X4_written q_449 ⟨by decide, by decide⟩ rfl rfl rfl (va_recv hF.2.1 hP (ci := 4) (q0 := 0) rfl rfl) hZ (hP) hl.1 rfl (Nat.le_of_ble_eq_true rfl) dX4_allWritten_17 ⟨Nat.le_refl _, Nat.le_refl _⟩)) (fun r_ h_ => ?_)
    subst h_
    rw [show (xz (wrB w i) : Int32) = nI (if wrB w i then 1 else 0) from by cases wrB w i <;> rfl]
    refine xN_add hx hb dX4_allWritten_20 ?_
    refine lv_istore_n (lv' := [(1, .int (nI (f + (if wrB w i then 1 else 0)))), (0, .ref mo), (2, .int (nI i))]) hx hb dX4_allWritten_21 rfl hl (by decide) rfl (fun ls hl => ?_)
    refine xN_inc (lv' := [(2, .int (nI (i + 1))), (1, .int (nI (f + (if wrB w i then 1 else 0)))), (0, .ref mo)]) hx hb 1 dX4_allWritten_22 hl (k := 2) rfl (by decide) (by decide) rfl (fun ls hl => ?_)
    refine lv_goto (tgt := 4) hx hb dX4_allWritten_25 (by decide) ?_
    exact ih (f + (if wrB w i then 1 else 0), i + 1) ls ⟨by omega, by rw [I2, ctR_step (Nat.zero_le _)], lv_sub hl [2, 1, 0] rfl⟩ (by dsimp only; omega)
set_option maxHeartbeats 4000000 in
set_option maxRecDepth 100000 in
theorem c_X4_unlike (l : Launch) (g : XG) (mo mn mp mq mt mm md zs zl zp zr : Nat) (zk : Bool) (w : Nat → Int32) (hW : WF w)  : Met l yX4_unlike (ww yX4_unlike cX4_unlike 4 (some .int)) (rmD 7) (xP g [.ref mo] (fun H => va_P g.1 vwCl (ModC g mo mn mp mq mt mm md zs zl zp zr zk w) H)) (vp_Si (fun r9 => r9 = nI (ctR (wrgB w) 0 (wcs w)))) 0 0 (fun _ => False) := by
  refine xMet (by decide) rfl (Nat.le_of_ble_eq_true rfl) ?_
  intro p e s m below meth c ls hF hZ hh hret hlocks hin hl
  have hx := hF.1.1
  have hb := hF.1.2.1
  have hP := hh
  have hP : va_P g.1 vwCl (ModC g mo mn mp mq mt mm md zs zl zp zr zk w) s.heap := hP
  have hl : lv_has ls 4 [(0, .ref mo)] := hl
  have h48 := hW.n48
  have hp4 := hW.pg4
  have hp12 := hW.pg12
  have hs1 := hW.st1
  have hw2 := hW.wr2
  have hw6 := hW.wr6
  have hwc := wcs_le hW
  refine xN_const hx hb 0 dX4_unlike_0 (by decide) ?_
  refine lv_istore_n (lv' := [(1, .int (nI 0)), (0, .ref mo)]) hx hb dX4_unlike_1 rfl hl (by decide) rfl (fun ls hl => ?_)
  refine xN_const hx hb 0 dX4_unlike_2 (by decide) ?_
  refine lv_istore_n (lv' := [(2, .int (nI 0)), (1, .int (nI 0)), (0, .ref mo)]) hx hb dX4_unlike_3 rfl hl (by decide) rfl (fun ls hl => ?_)
  refine xloop (goal := fun ls => W p l e _ s m _ below meth c s.heap [] _ _ _ (F0 m _ ls [])) (fun (z_ : Nat × Nat) (ls : Array Slot) => match z_ with | (f, i) => (i ≤ wcs w) ∧ (f = ctR (wrgB w) 0 (i - 0)) ∧ lv_has ls 4 [(0, .ref mo), (1, .int (nI f)), (2, .int (nI i))]) (fun (z_ : Nat × Nat) => match z_ with | (f, i) => wcs w - i) ?_ (0, 0) ls ⟨Nat.zero_le _, rfl, lv_sub hl [2, 1, 0] rfl⟩
  rintro ⟨f, i⟩ ls ⟨I1, I2, hl⟩ ih
  have hf := ctR_le (wrgB w) 0 (i - 0)
  refine lv_iload_n hx hb dX4_unlike_4 rfl (lv_at hl 2 rfl) ?_
  refine lv_aload_n hx hb dX4_unlike_5 rfl (lv_at hl 0 rfl) ?_
  refine vp_callSi (va_Run.run (xrV hF (c_X4_watches l g mo mn mp mq mt mm md zs zl zp zr zk w hW  ) cal_X4_watches q_536 ⟨by decide, by decide⟩ rfl rfl rfl (va_recv hF.2.1 hP (ci := 4) (q0 := 0) rfl rfl) hZ (hP) hl.1 rfl (Nat.le_of_ble_eq_true rfl) dX4_unlike_6 ⟨Nat.le_refl _, Nat.le_refl _⟩)) (fun r_ h_ => ?_)
  subst h_
  refine xC_ge (tgt := 62) hx hb (by omega) (by omega) dX4_unlike_9 (by decide) (fun c_9 => ?_) (fun c_9 => ?_)
  · refine lv_iload_n hx hb dX4_unlike_62 rfl (lv_at hl 1 rfl) ?_
    exact xret_i (V := nI (f)) hF hret hlocks (by rw [I2, show i = wcs w by omega]; rfl) dX4_unlike_63
  · refine lv_aload_n hx hb dX4_unlike_12 rfl (lv_at hl 0 rfl) ?_
    refine gf_X4_X4_now hF hP 0 rfl rfl dX4_unlike_13 ?_
    refine xN_const hx hb 4 dX4_unlike_16 (by decide) ?_
    refine lv_iload_n hx hb dX4_unlike_17 rfl (lv_at hl 2 rfl) ?_
    refine xN_add hx hb dX4_unlike_18 ?_
    refine xA_ild hF hP 1 rfl (by omega) (by decide) (v := (w (4 + i))) rfl dX4_unlike_19 ?_
    refine lv_istore_n (lv' := [(3, .int (w (4 + i))), (0, .ref mo), (1, .int (nI f)), (2, .int (nI i))]) hx hb dX4_unlike_20 rfl hl (by decide) rfl (fun ls hl => ?_)
    refine lv_iload_n hx hb dX4_unlike_21 rfl (lv_at hl 2 rfl) ?_
    refine lv_iload_n hx hb dX4_unlike_22 rfl (lv_at hl 0 rfl) ?_
    refine lv_bipush hx hb (v := (-5)) dX4_unlike_23 (by decide) ?_
    refine lv_icmp_eq (tgt := 53) hx hb dX4_unlike_25 (by decide) (fun c_25 => ?_) (fun c_25 => ?_)
    · refine xN_const hx hb 0 dX4_unlike_53 (by decide) ?_
      refine xN_add hx hb dX4_unlike_54 ?_
      refine lv_istore_n (lv' := [(1, .int (nI (f + 0))), (3, .int (w (4 + i))), (0, .ref mo), (2, .int (nI i))]) hx hb dX4_unlike_55 rfl hl (by decide) rfl (fun ls hl => ?_)
      refine xN_inc (lv' := [(2, .int (nI (i + 1))), (1, .int (nI (f + 0))), (3, .int (w (4 + i))), (0, .ref mo)]) hx hb 1 dX4_unlike_56 hl (k := 3) rfl (by decide) (by decide) rfl (fun ls hl => ?_)
      refine lv_goto (tgt := 4) hx hb dX4_unlike_59 (by decide) ?_
      exact ih (f + 0, i + 1) ls ⟨by omega, by rw [I2, ctR_f (Nat.zero_le _) (by unfold wrgB; rw [c_25]; rfl)]; rfl, lv_sub hl [3, 1, 0] rfl⟩ (by dsimp only; omega)
    · refine lv_iload_n hx hb dX4_unlike_28 rfl (lv_at hl 0 rfl) ?_
      refine lv_aload_n hx hb dX4_unlike_29 rfl (lv_at hl 1 rfl) ?_
      refine lv_iload_n hx hb dX4_unlike_30 rfl (lv_at hl 3 rfl) ?_
      refine lv_aload_n hx hb dX4_unlike_31 rfl (lv_at hl 1 rfl) ?_
      refine gf_X4_X4_now hF hP 0 rfl rfl dX4_unlike_32 ?_
      refine xN_const hx hb 3 dX4_unlike_35 (by decide) ?_
      refine xA_ild hF hP 1 rfl (by omega) (by decide) (v := nI (wrN w)) (hW.r3) dX4_unlike_36 ?_
      refine xN_mul hx hb dX4_unlike_37 ?_
      refine lv_aload_n hx hb dX4_unlike_38 rfl (lv_at hl 1 rfl) ?_
      refine lv_iload_n hx hb dX4_unlike_39 rfl (lv_at hl 3 rfl) ?_
      refine vp_callSi (va_Run.run (xrV hF (c_X4_lastOf l g mo mn mp mq mt mm md zs zl zp zr zk w hW i (by omega)) cal_X4_lastOf q_540 ⟨by decide, by decide⟩ rfl rfl rfl (va_recv hF.2.1 hP (ci := 4) (q0 := 0) rfl rfl) hZ (hP) hl.1 rfl (Nat.le_of_ble_eq_true rfl) dX4_unlike_40 ⟨Nat.le_refl _, Nat.le_refl _⟩)) (fun r_ h_ => ?_)
      subst h_
      have hl1 := lstN_le w i
      have hl2 := lstN_ge hW (t := i) (by omega)
      refine vp_callSi (va_Run.run (xrV hF (c_X4_runOf l g mo mn mp mq mt mm md zs zl zp zr zk w hW (i * (wrN w)) (lstN w i) (by omega) (by omega)) cal_X4_runOf q_544 ⟨by decide, by decide⟩ rfl rfl rfl (va_recv hF.2.1 hP (ci := 4) (q0 := 0) rfl rfl) hZ (hP) hl.1 rfl (Nat.le_of_ble_eq_true rfl) dX4_unlike_43 ⟨Nat.le_refl _, Nat.le_refl _⟩)) (fun r_ h_ => ?_)
      subst h_
      refine lv_icmp_eq (tgt := 53) hx hb dX4_unlike_46 (by decide) (fun c_46 => ?_) (fun c_46 => ?_)
      · refine xN_const hx hb 0 dX4_unlike_53 (by decide) ?_
        refine xN_add hx hb dX4_unlike_54 ?_
        refine lv_istore_n (lv' := [(1, .int (nI (f + 0))), (3, .int (w (4 + i))), (0, .ref mo), (2, .int (nI i))]) hx hb dX4_unlike_55 rfl hl (by decide) rfl (fun ls hl => ?_)
        refine xN_inc (lv' := [(2, .int (nI (i + 1))), (1, .int (nI (f + 0))), (3, .int (w (4 + i))), (0, .ref mo)]) hx hb 1 dX4_unlike_56 hl (k := 3) rfl (by decide) (by decide) rfl (fun ls hl => ?_)
        refine lv_goto (tgt := 4) hx hb dX4_unlike_59 (by decide) ?_
        exact ih (f + 0, i + 1) ls ⟨by omega, by rw [I2, ctR_f (Nat.zero_le _) (by unfold wrgB; rw [c_46, beq_self_eq_true, Bool.not_true, Bool.and_false])]; rfl, lv_sub hl [3, 1, 0] rfl⟩ (by dsimp only; omega)
      · refine xN_const hx hb 1 dX4_unlike_49 (by decide) ?_
        refine lv_goto (tgt := 54) hx hb dX4_unlike_50 (by decide) ?_
        refine xN_add hx hb dX4_unlike_54 ?_
        refine lv_istore_n (lv' := [(1, .int (nI (f + 1))), (3, .int (w (4 + i))), (0, .ref mo), (2, .int (nI i))]) hx hb dX4_unlike_55 rfl hl (by decide) rfl (fun ls hl => ?_)
        refine xN_inc (lv' := [(2, .int (nI (i + 1))), (1, .int (nI (f + 1))), (3, .int (w (4 + i))), (0, .ref mo)]) hx hb 1 dX4_unlike_56 hl (k := 3) rfl (by decide) (by decide) rfl (fun ls hl => ?_)
        refine lv_goto (tgt := 4) hx hb dX4_unlike_59 (by decide) ?_
        exact ih (f + 1, i + 1) ls ⟨by omega, by rw [I2, ctR_t (Nat.zero_le _) (by unfold wrgB; rw [beq_eq_false_iff_ne.mpr c_25, beq_eq_false_iff_ne.mpr c_46]; rfl)], lv_sub hl [3, 1, 0] rfl⟩ (by dsimp only; omega)
set_option maxHeartbeats 4000000 in
set_option maxRecDepth 100000 in
theorem c_X4_cell (l : Launch) (g : XG) (mo mn mp mq mt mm md zs zl zp zr : Nat) (zk : Bool) (w : Nat → Int32) (hW : WF w) (x y z : Int32) : Met l yX4_cell (ww yX4_cell cX4_cell 4 (some .int)) (rmD 6) (xP g [.ref mo, .int (x), .int (y), .int (z)] (fun H => va_P g.1 vwCl (ModC g mo mn mp mq mt mm md zs zl zp zr zk w) H)) (vp_Si (fun r9 => r9 = cellA w x y z)) 0 0 (fun _ => False) := by
  refine xMet (by decide) rfl (Nat.le_of_ble_eq_true rfl) ?_
  intro p e s m below meth c ls hF hZ hh hret hlocks hin hl
  have hx := hF.1.1
  have hb := hF.1.2.1
  have hP := hh
  have hP : va_P g.1 vwCl (ModC g mo mn mp mq mt mm md zs zl zp zr zk w) s.heap := hP
  have hl : lv_has ls 4 [(0, .ref mo), (1, .int (x)), (2, .int (y)), (3, .int (z))] := hl
  have h48 := hW.n48
  have hp4 := hW.pg4
  have hp12 := hW.pg12
  have hs1 := hW.st1
  have hw2 := hW.wr2
  have hw6 := hW.wr6
  refine lv_aload_n hx hb dX4_cell_0 rfl (lv_at hl 0 rfl) ?_
  refine lv_iload_n hx hb dX4_cell_1 rfl (lv_at hl 1 rfl) ?_
  refine lv_iload_n hx hb dX4_cell_2 rfl (lv_at hl 2 rfl) ?_
  refine vp_callSi (va_Run.run (xrV hF (c_X4_isCell l g mo mn mp mq mt mm md zs zl zp zr zk w hW ((x)) ((y)) ) cal_X4_isCell q_263 ⟨by decide, by decide⟩ rfl rfl rfl (va_recv hF.2.1 hP (ci := 4) (q0 := 0) rfl rfl) hZ (hP) hl.1 rfl (Nat.le_of_ble_eq_true rfl) dX4_cell_3 ⟨Nat.le_refl _, Nat.le_refl _⟩)) (fun r_ h_ => ?_)
  subst h_
  refine xZ_ne (tgt := 11) hx hb dX4_cell_6 (by decide) (fun c_6 => ?_) (fun c_6 => ?_)
  · obtain ⟨q1, q2⟩ := Bool.and_eq_true_iff.mp c_6
    obtain ⟨r, hr, rfl⟩ := (rowB_iff hW).mp q1
    obtain ⟨k, hk, rfl⟩ := colB_iff.mp q2
    have er : (nI r).toNatClampNeg = r := nI_clamp (by omega)
    have ek : (nI k).toNatClampNeg = k := nI_clamp (by omega)
    refine lv_iload_n hx hb dX4_cell_11 rfl (lv_at hl 3 rfl) ?_
    by_cases w_12_0 : (z) = 0
    · refine lv_tableIn (off := 40) (tgt := 52) hx hb dX4_cell_12 (by rw [w_12_0]; decide) (by rw [w_12_0]; decide) (by rw [w_12_0]; rfl) (by decide) ?_
      refine lv_aload_n hx hb dX4_cell_52 rfl (lv_at hl 0 rfl) ?_
      refine lv_iload_n hx hb dX4_cell_53 rfl (lv_at hl 1 rfl) ?_
      refine lv_iload_n hx hb dX4_cell_54 rfl (lv_at hl 2 rfl) ?_
      refine vp_callSi (va_Run.run (xrV hF (c_X4_means l g mo mn mp mq mt mm md zs zl zp zr zk w hW r k (by omega) (by omega)) cal_X4_means q_286 ⟨by decide, by decide⟩ rfl rfl rfl (va_recv hF.2.1 hP (ci := 4) (q0 := 0) rfl rfl) hZ (hP) hl.1 rfl (Nat.le_of_ble_eq_true rfl) dX4_cell_55 ⟨Nat.le_refl _, Nat.le_refl _⟩)) (fun r_ h_ => ?_)
      subst h_
      exact xret_i (V := (mean w r k)) hF hret hlocks (by unfold cellA; rw [if_pos c_6, if_pos w_12_0, er, ek]) dX4_cell_58
    by_cases w_12_1 : (z) = 1
    · refine lv_tableIn (off := 47) (tgt := 59) hx hb dX4_cell_12 (by rw [w_12_1]; decide) (by rw [w_12_1]; decide) (by rw [w_12_1]; rfl) (by decide) ?_
      refine lv_aload_n hx hb dX4_cell_59 rfl (lv_at hl 0 rfl) ?_
      refine lv_iload_n hx hb dX4_cell_60 rfl (lv_at hl 1 rfl) ?_
      refine lv_iload_n hx hb dX4_cell_61 rfl (lv_at hl 2 rfl) ?_
      refine vp_callSi (va_Run.run (xrV hF (c_X4_source l g mo mn mp mq mt mm md zs zl zp zr zk w hW r k (by omega) (by omega)) cal_X4_source q_414 ⟨by decide, by decide⟩ rfl rfl rfl (va_recv hF.2.1 hP (ci := 4) (q0 := 0) rfl rfl) hZ (hP) hl.1 rfl (Nat.le_of_ble_eq_true rfl) dX4_cell_62 ⟨Nat.le_refl _, Nat.le_refl _⟩)) (fun r_ h_ => ?_)
      subst h_
      exact xret_i (V := (srcI w r k)) hF hret hlocks (by unfold cellA; rw [if_pos c_6, if_neg w_12_0, if_pos w_12_1, er, ek]) dX4_cell_65
    by_cases w_12_2 : (z) = 2
    · refine lv_tableIn (off := 54) (tgt := 66) hx hb dX4_cell_12 (by rw [w_12_2]; decide) (by rw [w_12_2]; decide) (by rw [w_12_2]; rfl) (by decide) ?_
      refine lv_aload_n hx hb dX4_cell_66 rfl (lv_at hl 0 rfl) ?_
      refine lv_iload_n hx hb dX4_cell_67 rfl (lv_at hl 1 rfl) ?_
      refine lv_iload_n hx hb dX4_cell_68 rfl (lv_at hl 2 rfl) ?_
      refine vp_callSi (va_Run.run (xrV hF (c_X4_entries l g mo mn mp mq mt mm md zs zl zp zr zk w hW r k (by omega) (by omega)) cal_X4_entries q_274 ⟨by decide, by decide⟩ rfl rfl rfl (va_recv hF.2.1 hP (ci := 4) (q0 := 0) rfl rfl) hZ (hP) hl.1 rfl (Nat.le_of_ble_eq_true rfl) dX4_cell_69 ⟨Nat.le_refl _, Nat.le_refl _⟩)) (fun r_ h_ => ?_)
      subst h_
      exact xret_i (V := nI (cnt w (4 * r + k))) hF hret hlocks (by unfold cellA; rw [if_pos c_6, if_neg w_12_0, if_neg w_12_1, if_pos w_12_2, er, ek]) dX4_cell_72
    by_cases w_12_3 : (z) = 3
    · refine lv_tableIn (off := 61) (tgt := 73) hx hb dX4_cell_12 (by rw [w_12_3]; decide) (by rw [w_12_3]; decide) (by rw [w_12_3]; rfl) (by decide) ?_
      refine lv_aload_n hx hb dX4_cell_73 rfl (lv_at hl 0 rfl) ?_
      refine lv_iload_n hx hb dX4_cell_74 rfl (lv_at hl 1 rfl) ?_
      refine lv_iload_n hx hb dX4_cell_75 rfl (lv_at hl 2 rfl) ?_
      refine vp_callSi (va_Run.run (xrV hF (c_X4_chain l g mo mn mp mq mt mm md zs zl zp zr zk w hW r k (by omega) (by omega)) cal_X4_chain q_418 ⟨by decide, by decide⟩ rfl rfl rfl (va_recv hF.2.1 hP (ci := 4) (q0 := 0) rfl rfl) hZ (hP) hl.1 rfl (Nat.le_of_ble_eq_true rfl) dX4_cell_76 ⟨Nat.le_refl _, Nat.le_refl _⟩)) (fun r_ h_ => ?_)
      subst h_
      exact xret_i (V := nI (r - top w k r + 1)) hF hret hlocks (by unfold cellA; rw [if_pos c_6, if_neg w_12_0, if_neg w_12_1, if_neg w_12_2, if_pos w_12_3, er, ek]) dX4_cell_79
    by_cases w_12_4 : (z) = 4
    · refine lv_tableIn (off := 68) (tgt := 80) hx hb dX4_cell_12 (by rw [w_12_4]; decide) (by rw [w_12_4]; decide) (by rw [w_12_4]; rfl) (by decide) ?_
      refine lv_aload_n hx hb dX4_cell_80 rfl (lv_at hl 0 rfl) ?_
      refine lv_iload_n hx hb dX4_cell_81 rfl (lv_at hl 1 rfl) ?_
      refine lv_iload_n hx hb dX4_cell_82 rfl (lv_at hl 2 rfl) ?_
      refine vp_callSi (va_Run.run (xrV hF (c_X4_isDoubtful l g mo mn mp mq mt mm md zs zl zp zr zk w hW r k (by omega) (by omega)) cal_X4_isDoubtful q_422 ⟨by decide, by decide⟩ rfl rfl rfl (va_recv hF.2.1 hP (ci := 4) (q0 := 0) rfl rfl) hZ (hP) hl.1 rfl (Nat.le_of_ble_eq_true rfl) dX4_cell_83 ⟨Nat.le_refl _, Nat.le_refl _⟩)) (fun r_ h_ => ?_)
      subst h_
      refine xZ_eq (tgt := 93) hx hb dX4_cell_86 (by decide) (fun c_86 => ?_) (fun c_86 => ?_)
      · refine xN_const hx hb 0 dX4_cell_93 (by decide) ?_
        exact xret_i (V := nI (0)) hF hret hlocks (by unfold cellA; rw [if_pos c_6, if_neg w_12_0, if_neg w_12_1, if_neg w_12_2, if_neg w_12_3, if_pos w_12_4, er, ek, c_86]; rfl) dX4_cell_94
      · refine xN_const hx hb 1 dX4_cell_89 (by decide) ?_
        refine lv_goto (tgt := 94) hx hb dX4_cell_90 (by decide) ?_
        exact xret_i (V := nI (1)) hF hret hlocks (by unfold cellA; rw [if_pos c_6, if_neg w_12_0, if_neg w_12_1, if_neg w_12_2, if_neg w_12_3, if_pos w_12_4, er, ek, c_86]; rfl) dX4_cell_94
    by_cases w_12_5 : (z) = 5
    · refine lv_tableIn (off := 83) (tgt := 95) hx hb dX4_cell_12 (by rw [w_12_5]; decide) (by rw [w_12_5]; decide) (by rw [w_12_5]; rfl) (by decide) ?_
      refine lv_aload_n hx hb dX4_cell_95 rfl (lv_at hl 0 rfl) ?_
      refine lv_iload_n hx hb dX4_cell_96 rfl (lv_at hl 1 rfl) ?_
      refine lv_iload_n hx hb dX4_cell_97 rfl (lv_at hl 2 rfl) ?_
      refine vp_callSi (va_Run.run (xrV hF (c_X4_below l g mo mn mp mq mt mm md zs zl zp zr zk w hW r k (by omega) (by omega)) cal_X4_below q_426 ⟨by decide, by decide⟩ rfl rfl rfl (va_recv hF.2.1 hP (ci := 4) (q0 := 0) rfl rfl) hZ (hP) hl.1 rfl (Nat.le_of_ble_eq_true rfl) dX4_cell_98 ⟨Nat.le_refl _, Nat.le_refl _⟩)) (fun r_ h_ => ?_)
      subst h_
      exact xret_i (V := nI (stop w k (r + 1) - 1 - r)) hF hret hlocks (by unfold cellA; rw [if_pos c_6, if_neg w_12_0, if_neg w_12_1, if_neg w_12_2, if_neg w_12_3, if_neg w_12_4, if_pos w_12_5, er, ek]) dX4_cell_101
    refine lv_tableOut (tgt := 102) hx hb dX4_cell_12 (by have a0 := lv_neT w_12_0 (a := 0) (by decide); have a1 := lv_neT w_12_1 (a := 1) (by decide); have a2 := lv_neT w_12_2 (a := 2) (by decide); have a3 := lv_neT w_12_3 (a := 3) (by decide); have a4 := lv_neT w_12_4 (a := 4) (by decide); have a5 := lv_neT w_12_5 (a := 5) (by decide); omega) (by decide) ?_
    refine lv_bipush hx hb (v := (-2)) dX4_cell_102 (by decide) ?_
    exact xret_i (V := (-2)) hF hret hlocks (by unfold cellA; rw [if_pos c_6, if_neg w_12_0, if_neg w_12_1, if_neg w_12_2, if_neg w_12_3, if_neg w_12_4, if_neg w_12_5]) dX4_cell_104
  · refine lv_iconst hx hb (v := (-1)) dX4_cell_9 (by decide) ?_
    exact xret_i (V := (-1)) hF hret hlocks (by unfold cellA; rw [if_neg (by rw [c_6]; decide)]) dX4_cell_10
set_option maxHeartbeats 4000000 in
set_option maxRecDepth 100000 in
theorem c_X4_entry (l : Launch) (g : XG) (mo mn mp mq mt mm md zs zl zp zr : Nat) (zk : Bool) (w : Nat → Int32) (hW : WF w) (x y z : Int32) : Met l yX4_entry (ww yX4_entry cX4_entry 4 (some .int)) (rmD 3) (xP g [.ref mo, .int (x), .int (y), .int (z)] (fun H => va_P g.1 vwCl (ModC g mo mn mp mq mt mm md zs zl zp zr zk w) H)) (vp_Si (fun r9 => r9 = entryA w x y z)) 0 0 (fun _ => False) := by
  refine xMet (by decide) rfl (Nat.le_of_ble_eq_true rfl) ?_
  intro p e s m below meth c ls hF hZ hh hret hlocks hin hl
  have hx := hF.1.1
  have hb := hF.1.2.1
  have hP := hh
  have hP : va_P g.1 vwCl (ModC g mo mn mp mq mt mm md zs zl zp zr zk w) s.heap := hP
  have hl : lv_has ls 4 [(0, .ref mo), (1, .int (x)), (2, .int (y)), (3, .int (z))] := hl
  have h48 := hW.n48
  have hp4 := hW.pg4
  have hp12 := hW.pg12
  have hs1 := hW.st1
  have hw2 := hW.wr2
  have hw6 := hW.wr6
  refine lv_aload_n hx hb dX4_entry_0 rfl (lv_at hl 0 rfl) ?_
  refine lv_iload_n hx hb dX4_entry_1 rfl (lv_at hl 1 rfl) ?_
  refine lv_iload_n hx hb dX4_entry_2 rfl (lv_at hl 2 rfl) ?_
  refine vp_callSi (va_Run.run (xrV hF (c_X4_isCell l g mo mn mp mq mt mm md zs zl zp zr zk w hW ((x)) ((y)) ) cal_X4_isCell q_263 ⟨by decide, by decide⟩ rfl rfl rfl (va_recv hF.2.1 hP (ci := 4) (q0 := 0) rfl rfl) hZ (hP) hl.1 rfl (Nat.le_of_ble_eq_true rfl) dX4_entry_3 ⟨Nat.le_refl _, Nat.le_refl _⟩)) (fun r_ h_ => ?_)
  subst h_
  refine xZ_ne (tgt := 11) hx hb dX4_entry_6 (by decide) (fun c_6 => ?_) (fun c_6 => ?_)
  · obtain ⟨q1, q2⟩ := Bool.and_eq_true_iff.mp c_6
    obtain ⟨r, hr, rfl⟩ := (rowB_iff hW).mp q1
    obtain ⟨k, hk, rfl⟩ := colB_iff.mp q2
    have er : (nI r).toNatClampNeg = r := nI_clamp (by omega)
    have ek : (nI k).toNatClampNeg = k := nI_clamp (by omega)
    refine lv_iload_n hx hb dX4_entry_11 rfl (lv_at hl 3 rfl) ?_
    refine xN_const hx hb 0 dX4_entry_12 (by decide) ?_
    refine lv_aload_n hx hb dX4_entry_13 rfl (lv_at hl 0 rfl) ?_
    refine lv_iload_n hx hb dX4_entry_14 rfl (lv_at hl 1 rfl) ?_
    refine lv_iload_n hx hb dX4_entry_15 rfl (lv_at hl 2 rfl) ?_
    refine vp_callSi (va_Run.run (xrV hF (c_X4_entries l g mo mn mp mq mt mm md zs zl zp zr zk w hW r k (by omega) (by omega)) cal_X4_entries q_274 ⟨by decide, by decide⟩ rfl rfl rfl (va_recv hF.2.1 hP (ci := 4) (q0 := 0) rfl rfl) hZ (hP) hl.1 rfl (Nat.le_of_ble_eq_true rfl) dX4_entry_16 ⟨Nat.le_refl _, Nat.le_refl _⟩)) (fun r_ h_ => ?_)
    subst h_
    refine xN_const hx hb 1 dX4_entry_19 (by decide) ?_
    refine lv_isub hx hb dX4_entry_20 ?_
    refine vp_callSi (va_Run.run (xrS hF (c_X4_in l g ((z)) (nI (0)) (nI (cnt w (4 * r + k)) - nI 1) ) cal_X4_in q_119 ⟨by decide, by decide⟩ rfl rfl rfl hZ (trivial) hl.1 rfl (Nat.le_of_ble_eq_true rfl) dX4_entry_21 ⟨Nat.le_refl _, Nat.le_refl _⟩)) (fun r_ h_ => ?_)
    subst h_
    refine xZ_eq (tgt := 44) hx hb dX4_entry_24 (by decide) (fun c_24 => ?_) (fun c_24 => ?_)
    · refine lv_bipush hx hb (v := (-2)) dX4_entry_44 (by decide) ?_
      exact xret_i (V := (-2)) hF hret hlocks (by unfold entryA; rw [if_pos c_6, er, ek, if_neg (fun q => absurd ((entry_in hW hk hr z).mpr q) (by rw [c_24]; decide))]) dX4_entry_46
    · have qz := (entry_in hW hk hr z).mp c_24
      obtain ⟨j, hj, rfl⟩ := nI_of qz.1
      have hj2 := (nI_ltI hj (by have := hW.c4 (i := 4 * r + k) (by omega); omega)).mp qz.2
      have hc4 := hW.c4 (i := 4 * r + k) (by omega)
      have ej : (nI j).toNatClampNeg = j := nI_clamp hj
      refine lv_aload_n hx hb dX4_entry_27 rfl (lv_at hl 0 rfl) ?_
      refine gf_X4_X4_now hF hP 0 rfl rfl dX4_entry_28 ?_
      refine lv_iload_n hx hb dX4_entry_31 rfl (lv_at hl 1 rfl) ?_
      refine lv_iload_n hx hb dX4_entry_32 rfl (lv_at hl 2 rfl) ?_
      refine vp_callSi (va_Run.run (xrS hF (c_X4_cellAt l g r k ) cal_X4_cellAt q_134 ⟨by decide, by decide⟩ rfl rfl rfl hZ (trivial) hl.1 rfl (Nat.le_of_ble_eq_true rfl) dX4_entry_33 ⟨Nat.le_refl _, Nat.le_refl _⟩)) (fun r_ h_ => ?_)
      subst h_
      refine xN_const hx hb 1 dX4_entry_36 (by decide) ?_
      refine xN_add hx hb dX4_entry_37 ?_
      refine lv_iload_n hx hb dX4_entry_38 rfl (lv_at hl 3 rfl) ?_
      refine xN_add hx hb dX4_entry_39 ?_
      refine xA_ild hF hP 1 rfl (by omega) (by decide) (v := (w (28 + 5 * (4 * r + k) + 1 + j))) rfl dX4_entry_40 ?_
      refine lv_goto (tgt := 46) hx hb dX4_entry_41 (by decide) ?_
      exact xret_i (V := (w (28 + 5 * (4 * r + k) + 1 + j))) hF hret hlocks (by unfold entryA; rw [if_pos c_6, er, ek, if_pos qz, ej, show 29 + 5 * (4 * r + k) + j = 28 + 5 * (4 * r + k) + 1 + j by omega]) dX4_entry_46
  · refine lv_iconst hx hb (v := (-1)) dX4_entry_9 (by decide) ?_
    exact xret_i (V := (-1)) hF hret hlocks (by unfold entryA; rw [if_neg (by rw [c_6]; decide)]) dX4_entry_10
