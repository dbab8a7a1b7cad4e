/-! the logbook: its counts -/
set_option maxHeartbeats 4000000 in
set_option maxRecDepth 100000 in
theorem c_X1_settingOf (l : Launch) (g : XG) (ao ae ac au : Nat) (fe fc fs w : Nat → Int32) (hW : WF w) (hR : LR fe fc fs w) (k : Nat) (hk : k < 3) : Met l yX1_settingOf (ww yX1_settingOf cX1_settingOf 2 (some .int)) (rmD 0) (xP g [.ref ao, .int (nI k)] (fun H => va_P g.1 vwCl (LogC g ao ae ac au fe fc fs w) H)) (vp_Si (fun r9 => r9 = nI (stg w k))) 0 0 (fun _ => False) := by
  refine xMet (by decide) rfl (Nat.le_of_ble_eq_true rfl) ?_
  intro p e s m below meth c ls hF hZ hh hret hlocks hin hl
  have hx := hF.1.1
  have hb := hF.1.2.1
  have hP := hh
  have hP : va_P g.1 vwCl (LogC g ao ae ac au fe fc fs w) s.heap := hP
  have hl : lv_has ls 2 [(0, .ref ao), (1, .int (nI k))] := hl
  have h48 := hW.n48
  have hp4 := hW.pg4
  have hp12 := hW.pg12
  have hs1 := hW.st1
  have hw2 := hW.wr2
  have hw6 := hW.wr6
  refine lv_iload_n hx hb dX1_settingOf_0 rfl (lv_at hl 1 rfl) ?_
  rcases (show k = 0 ∨ k = 1 ∨ k = 2 by omega) with rfl | rfl | rfl
  · refine lv_lookup (off := 27) (tgt := 28) hx hb dX1_settingOf_1 (by decide) (by decide) (by decide) ?_
    refine lv_aload_n hx hb dX1_settingOf_28 rfl (lv_at hl 0 rfl) ?_
    refine gf_X1_X1_pageRows hF hP 0 rfl rfl dX1_settingOf_29 ?_
    exact xret_i (V := nI (pgN w)) hF hret hlocks (rfl) dX1_settingOf_32
  · refine lv_lookup (off := 32) (tgt := 33) hx hb dX1_settingOf_1 (by decide) (by decide) (by decide) ?_
    refine lv_aload_n hx hb dX1_settingOf_33 rfl (lv_at hl 0 rfl) ?_
    refine gf_X1_X1_stopsAtPages hF hP 0 rfl rfl dX1_settingOf_34 ?_
    exact xret_i (V := nI (stN w)) hF hret hlocks (rfl) dX1_settingOf_37
  · refine lv_lookup (off := 37) (tgt := 38) hx hb dX1_settingOf_1 (by decide) (by decide) (by decide) ?_
    refine lv_aload_n hx hb dX1_settingOf_38 rfl (lv_at hl 0 rfl) ?_
    refine gf_X1_X1_watchRows hF hP 0 rfl rfl dX1_settingOf_39 ?_
    exact xret_i (V := nI (wrN w)) hF hret hlocks (rfl) dX1_settingOf_42
set_option maxHeartbeats 4000000 in
set_option maxRecDepth 100000 in
theorem c_X1_countLatest (l : Launch) (g : XG) (ao ae ac au : Nat) (fe fc fs w : Nat → Int32) (hW : WF w) (hR : LR fe fc fs w) (k : Nat) (hk : k < 4) (x : Int32) : Met l yX1_countLatest (ww yX1_countLatest cX1_countLatest 5 (some .int)) (rmD 1) (xP g [.ref ao, .int (nI k), .int (x)] (fun H => va_P g.1 vwCl (LogC g ao ae ac au fe fc fs w) H)) (vp_Si (fun r9 => r9 = nI (ctR (fun i9 => lat w i9 k == x) 0 (nr w)))) 0 0 (fun _ => False) := by
  refine xMet (by decide) rfl (Nat.le_of_ble_eq_true rfl) ?_
  intro p e s m below meth c ls hF hZ hh hret hlocks hin hl
  have hx := hF.1.1
  have hb := hF.1.2.1
  have hP := hh
  have hP : va_P g.1 vwCl (LogC g ao ae ac au fe fc fs w) s.heap := hP
  have hl : lv_has ls 5 [(0, .ref ao), (1, .int (nI k)), (2, .int (x))] := hl
  have h48 := hW.n48
  have hp4 := hW.pg4
  have hp12 := hW.pg12
  have hs1 := hW.st1
  have hw2 := hW.wr2
  have hw6 := hW.wr6
  refine xN_const hx hb 0 dX1_countLatest_0 (by decide) ?_
  refine lv_istore_n (lv' := [(3, .int (nI 0)), (0, .ref ao), (1, .int (nI k)), (2, .int (x))]) hx hb dX1_countLatest_1 rfl hl (by decide) rfl (fun ls hl => ?_)
  refine xN_const hx hb 0 dX1_countLatest_2 (by decide) ?_
  refine lv_istore (lv' := [(4, .int (nI 0)), (3, .int (nI 0)), (0, .ref ao), (1, .int (nI k)), (2, .int (x))]) hx hb dX1_countLatest_3 hl (by decide) rfl (fun ls hl => ?_)
  refine xloop (goal := fun ls => W p l e _ s m _ below meth c s.heap [] _ _ _ (F0 m _ ls [])) (fun (z_ : Nat × Nat) (ls : Array Slot) => match z_ with | (f, i) => (i ≤ nr w) ∧ (f = ctR (fun i9 => lat w i9 k == x) 0 (i - 0)) ∧ lv_has ls 5 [(0, .ref ao), (1, .int (nI k)), (2, .int (x)), (3, .int (nI f)), (4, .int (nI i))]) (fun (z_ : Nat × Nat) => match z_ with | (f, i) => nr w - i) ?_ (0, 0) ls ⟨Nat.zero_le _, rfl, lv_sub hl [2, 3, 4, 1, 0] rfl⟩
  rintro ⟨f, i⟩ ls ⟨I1, I2, hl⟩ ih
  have hf := ctR_le (fun i9 => lat w i9 k == x) 0 (i - 0)
  refine lv_iload hx hb dX1_countLatest_5 (lv_at hl 4 rfl) ?_
  refine lv_aload_n hx hb dX1_countLatest_7 rfl (lv_at hl 0 rfl) ?_
  refine gf_X1_X1_rows hF hP 0 rfl rfl dX1_countLatest_8 ?_
  refine xC_ge (tgt := 34) hx hb (by omega) (by omega) dX1_countLatest_11 (by decide) (fun c_11 => ?_) (fun c_11 => ?_)
  · refine lv_iload_n hx hb dX1_countLatest_34 rfl (lv_at hl 3 rfl) ?_
    exact xret_i (V := nI (f)) hF hret hlocks (by rw [I2, show i = nr w by omega]; rfl) dX1_countLatest_35
  · refine lv_aload_n hx hb dX1_countLatest_14 rfl (lv_at hl 0 rfl) ?_
    refine lv_iload hx hb dX1_countLatest_15 (lv_at hl 4 rfl) ?_
    refine lv_iload_n hx hb dX1_countLatest_17 rfl (lv_at hl 1 rfl) ?_
    refine vp_callSi (va_Run.run (xrV hF (c_X1_latestOf l g ao ae ac au fe fc fs w hW hR i k (by omega) (by omega)) cal_X1_latestOf q_254 ⟨by decide, by decide⟩ rfl rfl rfl (va_recv hF.2.1 hP (ci := 1) (q0 := 0) rfl rfl) hZ (hP) hl.1 rfl (Nat.le_of_ble_eq_true rfl) dX1_countLatest_18 ⟨Nat.le_refl _, Nat.le_refl _⟩)) (fun r_ h_ => ?_)
    subst h_
    refine lv_iload_n hx hb dX1_countLatest_21 rfl (lv_at hl 2 rfl) ?_
    refine lv_icmp_ne (tgt := 28) hx hb dX1_countLatest_22 (by decide) (fun c_22 => ?_) (fun c_22 => ?_)
    · refine xN_inc (lv' := [(4, .int (nI (i + 1))), (0, .ref ao), (1, .int (nI k)), (2, .int (x)), (3, .int (nI f))]) hx hb 1 dX1_countLatest_28 hl (k := 4) rfl (by decide) (by decide) rfl (fun ls hl => ?_)
      refine lv_goto (tgt := 5) hx hb dX1_countLatest_31 (by decide) ?_
      exact ih (f, i + 1) ls ⟨by omega, by rw [I2, ctR_f (p := fun i9 => lat w i9 k == x) (Nat.zero_le _) (beq_eq_false_iff_ne.mpr c_22)], lv_sub hl [1, 2, 3, 4, 0] rfl⟩ (by dsimp only; omega)
    · refine xN_inc (lv' := [(3, .int (nI (f + 1))), (0, .ref ao), (1, .int (nI k)), (2, .int (x)), (4, .int (nI i))]) hx hb 1 dX1_countLatest_25 hl (k := 3) rfl (by decide) (by decide) rfl (fun ls hl => ?_)
      refine xN_inc (lv' := [(4, .int (nI (i + 1))), (3, .int (nI (f + 1))), (0, .ref ao), (1, .int (nI k)), (2, .int (x))]) hx hb 1 dX1_countLatest_28 hl (k := 4) rfl (by decide) (by decide) rfl (fun ls hl => ?_)
      refine lv_goto (tgt := 5) hx hb dX1_countLatest_31 (by decide) ?_
      exact ih (f + 1, i + 1) ls ⟨by omega, by rw [I2, ctR_t (p := fun i9 => lat w i9 k == x) (Nat.zero_le _) (beq_iff_eq.mpr c_22)], lv_sub hl [2, 3, 4, 1, 0] rfl⟩ (by dsimp only; omega)
set_option maxHeartbeats 4000000 in
set_option maxRecDepth 100000 in
theorem c_X1_countCorrections (l : Launch) (g : XG) (ao ae ac au : Nat) (fe fc fs w : Nat → Int32) (hW : WF w) (hR : LR fe fc fs w) (k : Nat) (hk : k < 4) : Met l yX1_countCorrections (ww yX1_countCorrections cX1_countCorrections 4 (some .int)) (rmD 2) (xP g [.ref ao, .int (nI k)] (fun H => va_P g.1 vwCl (LogC g ao ae ac au fe fc fs w) H)) (vp_Si (fun r9 => r9 = nI (smR (fun i9 => cnt w (4 * i9 + k) - 1) 0 (nr w)))) 0 0 (fun _ => False) := by
  refine xMet (by decide) rfl (Nat.le_of_ble_eq_true rfl) ?_
  intro p e s m below meth c ls hF hZ hh hret hlocks hin hl
  have hx := hF.1.1
  have hb := hF.1.2.1
  have hP := hh
  have hP : va_P g.1 vwCl (LogC g ao ae ac au fe fc fs w) s.heap := hP
  have hl : lv_has ls 4 [(0, .ref ao), (1, .int (nI k))] := hl
  have h48 := hW.n48
  have hp4 := hW.pg4
  have hp12 := hW.pg12
  have hs1 := hW.st1
  have hw2 := hW.wr2
  have hw6 := hW.wr6
  refine xN_const hx hb 0 dX1_countCorrections_0 (by decide) ?_
  refine lv_istore_n (lv' := [(2, .int (nI 0)), (0, .ref ao), (1, .int (nI k))]) hx hb dX1_countCorrections_1 rfl hl (by decide) rfl (fun ls hl => ?_)
  refine xN_const hx hb 0 dX1_countCorrections_2 (by decide) ?_
  refine lv_istore_n (lv' := [(3, .int (nI 0)), (2, .int (nI 0)), (0, .ref ao), (1, .int (nI k))]) hx hb dX1_countCorrections_3 rfl hl (by decide) rfl (fun ls hl => ?_)
  refine xloop (goal := fun ls => W p l e _ s m _ below meth c s.heap [] _ _ _ (F0 m _ ls [])) (fun (z_ : Nat × Nat) (ls : Array Slot) => match z_ with | (f, i) => (i ≤ nr w) ∧ (f = smR (fun i9 => cnt w (4 * i9 + k) - 1) 0 (i - 0)) ∧ lv_has ls 4 [(0, .ref ao), (1, .int (nI k)), (2, .int (nI f)), (3, .int (nI i))]) (fun (z_ : Nat × Nat) => match z_ with | (f, i) => nr w - i) ?_ (0, 0) ls ⟨Nat.zero_le _, rfl, lv_sub hl [2, 3, 1, 0] rfl⟩
  rintro ⟨f, i⟩ ls ⟨I1, I2, hl⟩ ih
  refine lv_iload_n hx hb dX1_countCorrections_4 rfl (lv_at hl 3 rfl) ?_
  refine lv_aload_n hx hb dX1_countCorrections_5 rfl (lv_at hl 0 rfl) ?_
  refine gf_X1_X1_rows hF hP 0 rfl rfl dX1_countCorrections_6 ?_
  refine xC_ge (tgt := 29) hx hb (by omega) (by omega) dX1_countCorrections_9 (by decide) (fun c_9 => ?_) (fun c_9 => ?_)
  · refine lv_iload_n hx hb dX1_countCorrections_29 rfl (lv_at hl 2 rfl) ?_
    exact xret_i (V := nI (f)) hF hret hlocks (by rw [I2, show i = nr w by omega]; rfl) dX1_countCorrections_30
  · refine lv_iload_n hx hb dX1_countCorrections_12 rfl (lv_at hl 2 rfl) ?_
    refine lv_aload_n hx hb dX1_countCorrections_13 rfl (lv_at hl 0 rfl) ?_
    refine lv_iload_n hx hb dX1_countCorrections_14 rfl (lv_at hl 3 rfl) ?_
    refine lv_iload_n hx hb dX1_countCorrections_15 rfl (lv_at hl 1 rfl) ?_
    refine vp_callSi (va_Run.run (xrV hF (c_X1_entriesOf l g ao ae ac au fe fc fs w hW hR i k (by omega) (by omega)) cal_X1_entriesOf q_409 ⟨by decide, by decide⟩ rfl rfl rfl (va_recv hF.2.1 hP (ci := 1) (q0 := 0) rfl rfl) hZ (hP) hl.1 rfl (Nat.le_of_ble_eq_true rfl) dX1_countCorrections_16 ⟨Nat.le_refl _, Nat.le_refl _⟩)) (fun r_ h_ => ?_)
    subst h_
    refine xN_const hx hb 1 dX1_countCorrections_19 (by decide) ?_
    have hc1 := hW.c1 (i := 4 * i + k) (by omega)
    refine xN_sub hx hb (by omega) dX1_countCorrections_20 ?_
    refine xN_add hx hb dX1_countCorrections_21 ?_
    refine lv_istore_n (lv' := [(2, .int (nI (f + ((cnt w (4 * i + k)) - 1)))), (0, .ref ao), (1, .int (nI k)), (3, .int (nI i))]) hx hb dX1_countCorrections_22 rfl hl (by decide) rfl (fun ls hl => ?_)
    refine xN_inc (lv' := [(3, .int (nI (i + 1))), (2, .int (nI (f + ((cnt w (4 * i + k)) - 1)))), (0, .ref ao), (1, .int (nI k))]) hx hb 1 dX1_countCorrections_23 hl (k := 3) rfl (by decide) (by decide) rfl (fun ls hl => ?_)
    refine lv_goto (tgt := 4) hx hb dX1_countCorrections_26 (by decide) ?_
    exact ih (f + ((cnt w (4 * i + k)) - 1), i + 1) ls ⟨by omega, by rw [I2, smR_step (Nat.zero_le _)], lv_sub hl [2, 3, 1, 0] rfl⟩ (by dsimp only; omega)
set_option maxHeartbeats 4000000 in
set_option maxRecDepth 100000 in
theorem c_X1_countMeaningless (l : Launch) (g : XG) (ao ae ac au : Nat) (fe fc fs w : Nat → Int32) (hW : WF w) (hR : LR fe fc fs w) (k : Nat) (hk : k < 4) (a b : Nat) (hab : a ≤ b) (hb : b ≤ nr w) : Met l yX1_countMeaningless (ww yX1_countMeaningless cX1_countMeaningless 6 (some .int)) (rmD 4) (xP g [.ref ao, .int (nI k), .int (nI a), .int (nI (b) - nI 1)] (fun H => va_P g.1 vwCl (LogC g ao ae ac au fe fc fs w) H)) (vp_Si (fun r9 => r9 = nI (ctR (fun i9 => mean w i9 k == -5) a (b - a)))) 0 0 (fun _ => False) := by
  refine xMet (by decide) rfl (Nat.le_of_ble_eq_true rfl) ?_
  intro p e s m below meth c ls hF hZ hh hret hlocks hin hl
  have hx := hF.1.1
  have hb := hF.1.2.1
  have hP := hh
  have hP : va_P g.1 vwCl (LogC g ao ae ac au fe fc fs w) s.heap := hP
  have hl : lv_has ls 6 [(0, .ref ao), (1, .int (nI k)), (2, .int (nI a)), (3, .int (nI (b) - nI 1))] := hl
  have h48 := hW.n48
  have hp4 := hW.pg4
  have hp12 := hW.pg12
  have hs1 := hW.st1
  have hw2 := hW.wr2
  have hw6 := hW.wr6
  refine xN_const hx hb 0 dX1_countMeaningless_0 (by decide) ?_
  refine lv_istore (lv' := [(4, .int (nI 0)), (0, .ref ao), (1, .int (nI k)), (2, .int (nI a)), (3, .int (nI (b) - nI 1))]) hx hb dX1_countMeaningless_1 hl (by decide) rfl (fun ls hl => ?_)
  refine lv_iload_n hx hb dX1_countMeaningless_3 rfl (lv_at hl 3 rfl) ?_
  refine lv_istore (lv' := [(5, .int (nI a)), (4, .int (nI 0)), (0, .ref ao), (1, .int (nI k)), (2, .int (nI a)), (3, .int (nI (b) - nI 1))]) hx hb dX1_countMeaningless_4 hl (by decide) rfl (fun ls hl => ?_)
  refine xloop (goal := fun ls => W p l e _ s m _ below meth c s.heap [] _ _ _ (F0 m _ ls [])) (fun (z_ : Nat × Nat) (ls : Array Slot) => match z_ with | (f, i) => (a ≤ i) ∧ (i ≤ b) ∧ (f = ctR (fun i9 => mean w i9 k == -5) a (i - a)) ∧ lv_has ls 6 [(0, .ref ao), (1, .int (nI k)), (2, .int (nI a)), (3, .int (nI (b) - nI 1)), (4, .int (nI f)), (5, .int (nI i))]) (fun (z_ : Nat × Nat) => match z_ with | (f, i) => b - i) ?_ (0, a) ls ⟨Nat.le_refl _, hab, by rw [Nat.sub_self]; rfl, lv_sub hl [2, 3, 4, 5, 1, 0] rfl⟩
  rintro ⟨f, i⟩ ls ⟨I0, I1, I2, hl⟩ ih
  have hf := ctR_le (fun i9 => mean w i9 k == -5) a (i - a)
  refine lv_iload hx hb dX1_countMeaningless_6 (lv_at hl 5 rfl) ?_
  refine lv_iload_n hx hb dX1_countMeaningless_8 rfl (lv_at hl 3 rfl) ?_
  refine xE_gt (tgt := 33) hx hb (by omega) (by omega) dX1_countMeaningless_9 (by decide) (fun c_9 => ?_) (fun c_9 => ?_)
  · refine lv_iload hx hb dX1_countMeaningless_33 (lv_at hl 4 rfl) ?_
    exact xret_i (V := nI (f)) hF hret hlocks (by rw [I2, show i = b by omega]) dX1_countMeaningless_35
  · refine lv_aload_n hx hb dX1_countMeaningless_12 rfl (lv_at hl 0 rfl) ?_
    refine lv_iload hx hb dX1_countMeaningless_13 (lv_at hl 5 rfl) ?_
    refine lv_iload_n hx hb dX1_countMeaningless_15 rfl (lv_at hl 1 rfl) ?_
    refine vp_callSi (va_Run.run (xrV hF (c_X1_meaningOf l g ao ae ac au fe fc fs w hW hR i k (by omega) (by omega)) cal_X1_meaningOf q_242 ⟨by decide, by decide⟩ rfl rfl rfl (va_recv hF.2.1 hP (ci := 1) (q0 := 0) rfl rfl) hZ (hP) hl.1 rfl (Nat.le_of_ble_eq_true rfl) dX1_countMeaningless_16 ⟨Nat.le_refl _, Nat.le_refl _⟩)) (fun r_ h_ => ?_)
    subst h_
    refine lv_bipush hx hb (v := (-5)) dX1_countMeaningless_19 (by decide) ?_
    refine lv_icmp_ne (tgt := 27) hx hb dX1_countMeaningless_21 (by decide) (fun c_21 => ?_) (fun c_21 => ?_)
    · refine xN_inc (lv' := [(5, .int (nI (i + 1))), (0, .ref ao), (1, .int (nI k)), (2, .int (nI a)), (3, .int (nI (b) - nI 1)), (4, .int (nI f))]) hx hb 1 dX1_countMeaningless_27 hl (k := 5) rfl (by decide) (by decide) rfl (fun ls hl => ?_)
      refine lv_goto (tgt := 6) hx hb dX1_countMeaningless_30 (by decide) ?_
      exact ih (f, i + 1) ls ⟨by omega, by omega, by rw [I2, ctR_f (p := fun i9 => mean w i9 k == -5) I0 (beq_eq_false_iff_ne.mpr c_21)], lv_sub hl [1, 2, 3, 4, 5, 0] rfl⟩ (by dsimp only; omega)
    · refine xN_inc (lv' := [(4, .int (nI (f + 1))), (0, .ref ao), (1, .int (nI k)), (2, .int (nI a)), (3, .int (nI (b) - nI 1)), (5, .int (nI i))]) hx hb 1 dX1_countMeaningless_24 hl (k := 4) rfl (by decide) (by decide) rfl (fun ls hl => ?_)
      refine xN_inc (lv' := [(5, .int (nI (i + 1))), (4, .int (nI (f + 1))), (0, .ref ao), (1, .int (nI k)), (2, .int (nI a)), (3, .int (nI (b) - nI 1))]) hx hb 1 dX1_countMeaningless_27 hl (k := 5) rfl (by decide) (by decide) rfl (fun ls hl => ?_)
      refine lv_goto (tgt := 6) hx hb dX1_countMeaningless_30 (by decide) ?_
      exact ih (f + 1, i + 1) ls ⟨by omega, by omega, by rw [I2, ctR_t (p := fun i9 => mean w i9 k == -5) I0 (beq_iff_eq.mpr c_21)], lv_sub hl [2, 3, 4, 5, 1, 0] rfl⟩ (by dsimp only; omega)
set_option maxHeartbeats 4000000 in
set_option maxRecDepth 100000 in
theorem c_X1_countDoubtful (l : Launch) (g : XG) (ao ae ac au : Nat) (fe fc fs w : Nat → Int32) (hW : WF w) (hR : LR fe fc fs w) (k : Nat) (hk : k < 4) (a b : Nat) (hab : a ≤ b) (hb : b ≤ nr w) : Met l yX1_countDoubtful (ww yX1_countDoubtful cX1_countDoubtful 6 (some .int)) (rmD 4) (xP g [.ref ao, .int (nI k), .int (nI a), .int (nI (b) - nI 1)] (fun H => va_P g.1 vwCl (LogC g ao ae ac au fe fc fs w) H)) (vp_Si (fun r9 => r9 = nI (ctR (fun i9 => dbt w i9 k) a (b - a)))) 0 0 (fun _ => False) := by
  refine xMet (by decide) rfl (Nat.le_of_ble_eq_true rfl) ?_
  intro p e s m below meth c ls hF hZ hh hret hlocks hin hl
  have hx := hF.1.1
  have hb := hF.1.2.1
  have hP := hh
  have hP : va_P g.1 vwCl (LogC g ao ae ac au fe fc fs w) s.heap := hP
  have hl : lv_has ls 6 [(0, .ref ao), (1, .int (nI k)), (2, .int (nI a)), (3, .int (nI (b) - nI 1))] := hl
  have h48 := hW.n48
  have hp4 := hW.pg4
  have hp12 := hW.pg12
  have hs1 := hW.st1
  have hw2 := hW.wr2
  have hw6 := hW.wr6
  refine xN_const hx hb 0 dX1_countDoubtful_0 (by decide) ?_
  refine lv_istore (lv' := [(4, .int (nI 0)), (0, .ref ao), (1, .int (nI k)), (2, .int (nI a)), (3, .int (nI (b) - nI 1))]) hx hb dX1_countDoubtful_1 hl (by decide) rfl (fun ls hl => ?_)
  refine lv_iload_n hx hb dX1_countDoubtful_3 rfl (lv_at hl 3 rfl) ?_
  refine lv_istore (lv' := [(5, .int (nI a)), (4, .int (nI 0)), (0, .ref ao), (1, .int (nI k)), (2, .int (nI a)), (3, .int (nI (b) - nI 1))]) hx hb dX1_countDoubtful_4 hl (by decide) rfl (fun ls hl => ?_)
  refine xloop (goal := fun ls => W p l e _ s m _ below meth c s.heap [] _ _ _ (F0 m _ ls [])) (fun (z_ : Nat × Nat) (ls : Array Slot) => match z_ with | (f, i) => (a ≤ i) ∧ (i ≤ b) ∧ (f = ctR (fun i9 => dbt w i9 k) a (i - a)) ∧ lv_has ls 6 [(0, .ref ao), (1, .int (nI k)), (2, .int (nI a)), (3, .int (nI (b) - nI 1)), (4, .int (nI f)), (5, .int (nI i))]) (fun (z_ : Nat × Nat) => match z_ with | (f, i) => b - i) ?_ (0, a) ls ⟨Nat.le_refl _, hab, by rw [Nat.sub_self]; rfl, lv_sub hl [2, 3, 4, 5, 1, 0] rfl⟩
  rintro ⟨f, i⟩ ls ⟨I0, I1, I2, hl⟩ ih
  have hf := ctR_le (fun i9 => dbt w i9 k) a (i - a)
  refine lv_iload hx hb dX1_countDoubtful_6 (lv_at hl 5 rfl) ?_
  refine lv_iload_n hx hb dX1_countDoubtful_8 rfl (lv_at hl 3 rfl) ?_
  refine xE_gt (tgt := 31) hx hb (by omega) (by omega) dX1_countDoubtful_9 (by decide) (fun c_9 => ?_) (fun c_9 => ?_)
  · refine lv_iload hx hb dX1_countDoubtful_31 (lv_at hl 4 rfl) ?_
    exact xret_i (V := nI (f)) hF hret hlocks (by rw [I2, show i = b by omega]) dX1_countDoubtful_33
  · refine lv_aload_n hx hb dX1_countDoubtful_12 rfl (lv_at hl 0 rfl) ?_
    refine lv_iload hx hb dX1_countDoubtful_13 (lv_at hl 5 rfl) ?_
    refine lv_iload_n hx hb dX1_countDoubtful_15 rfl (lv_at hl 1 rfl) ?_
    refine vp_callSi (va_Run.run (xrV hF (c_X1_isDoubtful l g ao ae ac au fe fc fs w hW hR i k (by omega) (by omega)) cal_X1_isDoubtful q_482 ⟨by decide, by decide⟩ rfl rfl rfl (va_recv hF.2.1 hP (ci := 1) (q0 := 0) rfl rfl) hZ (hP) hl.1 rfl (Nat.le_of_ble_eq_true rfl) dX1_countDoubtful_16 ⟨Nat.le_refl _, Nat.le_refl _⟩)) (fun r_ h_ => ?_)
    subst h_
    refine xZ_eq (tgt := 25) hx hb dX1_countDoubtful_19 (by decide) (fun c_19 => ?_) (fun c_19 => ?_)
    · refine xN_inc (lv' := [(5, .int (nI (i + 1))), (0, .ref ao), (1, .int (nI k)), (2, .int (nI a)), (3, .int (nI (b) - nI 1)), (4, .int (nI f))]) hx hb 1 dX1_countDoubtful_25 hl (k := 5) rfl (by decide) (by decide) rfl (fun ls hl => ?_)
      refine lv_goto (tgt := 6) hx hb dX1_countDoubtful_28 (by decide) ?_
      exact ih (f, i + 1) ls ⟨by omega, by omega, by rw [I2, ctR_f I0 c_19], lv_sub hl [1, 2, 3, 4, 5, 0] rfl⟩ (by dsimp only; omega)
    · refine xN_inc (lv' := [(4, .int (nI (f + 1))), (0, .ref ao), (1, .int (nI k)), (2, .int (nI a)), (3, .int (nI (b) - nI 1)), (5, .int (nI i))]) hx hb 1 dX1_countDoubtful_22 hl (k := 4) rfl (by decide) (by decide) rfl (fun ls hl => ?_)
      refine xN_inc (lv' := [(5, .int (nI (i + 1))), (4, .int (nI (f + 1))), (0, .ref ao), (1, .int (nI k)), (2, .int (nI a)), (3, .int (nI (b) - nI 1))]) hx hb 1 dX1_countDoubtful_25 hl (k := 5) rfl (by decide) (by decide) rfl (fun ls hl => ?_)
      refine lv_goto (tgt := 6) hx hb dX1_countDoubtful_28 (by decide) ?_
      exact ih (f + 1, i + 1) ls ⟨by omega, by omega, by rw [I2, ctR_t I0 c_19], lv_sub hl [2, 3, 4, 5, 1, 0] rfl⟩ (by dsimp only; omega)
set_option maxHeartbeats 4000000 in
set_option maxRecDepth 100000 in
theorem c_X1_longestChain (l : Launch) (g : XG) (ao ae ac au : Nat) (fe fc fs w : Nat → Int32) (hW : WF w) (hR : LR fe fc fs w) (k : Nat) (hk : k < 4) : Met l yX1_longestChain (ww yX1_longestChain cX1_longestChain 4 (some .int)) (rmD 4) (xP g [.ref ao, .int (nI k)] (fun H => va_P g.1 vwCl (LogC g ao ae ac au fe fc fs w) H)) (vp_Si (fun r9 => r9 = nI (mxR (fun i9 => i9 - top w k i9 + 1) (nr w)))) 0 0 (fun _ => False) := by
  refine xMet (by decide) rfl (Nat.le_of_ble_eq_true rfl) ?_
  intro p e s m below meth c ls hF hZ hh hret hlocks hin hl
  have hx := hF.1.1
  have hb := hF.1.2.1
  have hP := hh
  have hP : va_P g.1 vwCl (LogC g ao ae ac au fe fc fs w) s.heap := hP
  have hl : lv_has ls 4 [(0, .ref ao), (1, .int (nI k))] := hl
  have h48 := hW.n48
  have hp4 := hW.pg4
  have hp12 := hW.pg12
  have hs1 := hW.st1
  have hw2 := hW.wr2
  have hw6 := hW.wr6
  refine xN_const hx hb 0 dX1_longestChain_0 (by decide) ?_
  refine lv_istore_n (lv' := [(2, .int (nI 0)), (0, .ref ao), (1, .int (nI k))]) hx hb dX1_longestChain_1 rfl hl (by decide) rfl (fun ls hl => ?_)
  refine xN_const hx hb 0 dX1_longestChain_2 (by decide) ?_
  refine lv_istore_n (lv' := [(3, .int (nI 0)), (2, .int (nI 0)), (0, .ref ao), (1, .int (nI k))]) hx hb dX1_longestChain_3 rfl hl (by decide) rfl (fun ls hl => ?_)
  refine xloop (goal := fun ls => W p l e _ s m _ below meth c s.heap [] _ _ _ (F0 m _ ls [])) (fun (z_ : Nat × Nat) (ls : Array Slot) => match z_ with | (f, i) => (i ≤ nr w) ∧ (f = mxR (fun i9 => i9 - top w k i9 + 1) i) ∧ lv_has ls 4 [(0, .ref ao), (1, .int (nI k)), (2, .int (nI f)), (3, .int (nI i))]) (fun (z_ : Nat × Nat) => match z_ with | (f, i) => nr w - i) ?_ (0, 0) ls ⟨Nat.zero_le _, rfl, lv_sub hl [2, 3, 1, 0] rfl⟩
  rintro ⟨f, i⟩ ls ⟨I1, I2, hl⟩ ih
  have hf : f ≤ 49 := by rw [I2]; exact mxR_le _ 49 i (fun q hq => by omega)
  refine lv_iload_n hx hb dX1_longestChain_4 rfl (lv_at hl 3 rfl) ?_
  refine lv_aload_n hx hb dX1_longestChain_5 rfl (lv_at hl 0 rfl) ?_
  refine gf_X1_X1_rows hF hP 0 rfl rfl dX1_longestChain_6 ?_
  refine xC_ge (tgt := 29) hx hb (by omega) (by omega) dX1_longestChain_9 (by decide) (fun c_9 => ?_) (fun c_9 => ?_)
  · refine lv_iload_n hx hb dX1_longestChain_29 rfl (lv_at hl 2 rfl) ?_
    exact xret_i (V := nI (f)) hF hret hlocks (by rw [I2, show i = nr w by omega]) dX1_longestChain_30
  · refine lv_iload_n hx hb dX1_longestChain_12 rfl (lv_at hl 2 rfl) ?_
    refine lv_aload_n hx hb dX1_longestChain_13 rfl (lv_at hl 0 rfl) ?_
    refine lv_iload_n hx hb dX1_longestChain_14 rfl (lv_at hl 3 rfl) ?_
    refine lv_iload_n hx hb dX1_longestChain_15 rfl (lv_at hl 1 rfl) ?_
    refine vp_callSi (va_Run.run (xrV hF (c_X1_chainOf l g ao ae ac au fe fc fs w hW hR i k (by omega) (by omega)) cal_X1_chainOf q_473 ⟨by decide, by decide⟩ rfl rfl rfl (va_recv hF.2.1 hP (ci := 1) (q0 := 0) rfl rfl) hZ (hP) hl.1 rfl (Nat.le_of_ble_eq_true rfl) dX1_longestChain_16 ⟨Nat.le_refl _, Nat.le_refl _⟩)) (fun r_ h_ => ?_)
    subst h_
    refine va_mmax hx hb (hF.1.2.2.1.trans hl.1.symm) hF.1.2.2.2.1 (hF.1.2.2.2.2 _ q_470) (hF.1.2.2.2.2 _ q_471) (hF.1.2.2.2.2 _ q_92) (hF.1.2.2.2.2 _ q_472) (Nat.le_of_ble_eq_true rfl) (Nat.le_of_ble_eq_true rfl) (Nat.le_refl _) (Nat.le_refl _) dX1_longestChain_19 ?_
    rw [show ((if nI (f) < nI (i - top w k i + 1) then nI (i - top w k i + 1) else nI (f)) : Int32) = nI (if f < i - top w k i + 1 then i - top w k i + 1 else f) from nI_ite _ _ (by omega) (by omega)]
    refine lv_istore_n (lv' := [(2, .int (nI (if f < i - top w k i + 1 then i - top w k i + 1 else f))), (0, .ref ao), (1, .int (nI k)), (3, .int (nI i))]) hx hb dX1_longestChain_22 rfl hl (by decide) rfl (fun ls hl => ?_)
    refine xN_inc (lv' := [(3, .int (nI (i + 1))), (2, .int (nI (if f < i - top w k i + 1 then i - top w k i + 1 else f))), (0, .ref ao), (1, .int (nI k))]) hx hb 1 dX1_longestChain_23 hl (k := 3) rfl (by decide) (by decide) rfl (fun ls hl => ?_)
    refine lv_goto (tgt := 4) hx hb dX1_longestChain_26 (by decide) ?_
    exact ih (if f < i - top w k i + 1 then i - top w k i + 1 else f, i + 1) ls ⟨by omega, by rw [I2]; rfl, lv_sub hl [2, 3, 1, 0] rfl⟩ (by dsimp only; omega)
set_option maxHeartbeats 4000000 in
set_option maxRecDepth 100000 in
theorem c_X1_countWrittenOut (l : Launch) (g : XG) (ao ae ac au : Nat) (fe fc fs w : Nat → Int32) (hW : WF w) (hR : LR fe fc fs w)  : Met l yX1_countWrittenOut (ww yX1_countWrittenOut cX1_countWrittenOut 3 (some .int)) (rmD 2) (xP g [.ref ao] (fun H => va_P g.1 vwCl (LogC g ao ae ac au fe fc fs w) H)) (vp_Si (fun r9 => r9 = nI (ctR (wrB w) 0 (nr w)))) 0 0 (fun _ => False) := by
  refine xMet (by decide) rfl (Nat.le_of_ble_eq_true rfl) ?_
  intro p e s m below meth c ls hF hZ hh hret hlocks hin hl
  have hx := hF.1.1
  have hb := hF.1.2.1
  have hP := hh
  have hP : va_P g.1 vwCl (LogC g ao ae ac au fe fc fs w) s.heap := hP
  have hl : lv_has ls 3 [(0, .ref ao)] := hl
  have h48 := hW.n48
  have hp4 := hW.pg4
  have hp12 := hW.pg12
  have hs1 := hW.st1
  have hw2 := hW.wr2
  have hw6 := hW.wr6
  refine xN_const hx hb 0 dX1_countWrittenOut_0 (by decide) ?_
  refine lv_istore_n (lv' := [(1, .int (nI 0)), (0, .ref ao)]) hx hb dX1_countWrittenOut_1 rfl hl (by decide) rfl (fun ls hl => ?_)
  refine xN_const hx hb 0 dX1_countWrittenOut_2 (by decide) ?_
  refine lv_istore_n (lv' := [(2, .int (nI 0)), (1, .int (nI 0)), (0, .ref ao)]) hx hb dX1_countWrittenOut_3 rfl hl (by decide) rfl (fun ls hl => ?_)
  refine xloop (goal := fun ls => W p l e _ s m _ below meth c s.heap [] _ _ _ (F0 m _ ls [])) (fun (z_ : Nat × Nat) (ls : Array Slot) => match z_ with | (f, i) => (i ≤ nr w) ∧ (f = ctR (wrB w) 0 (i - 0)) ∧ lv_has ls 3 [(0, .ref ao), (1, .int (nI f)), (2, .int (nI i))]) (fun (z_ : Nat × Nat) => match z_ with | (f, i) => nr w - i) ?_ (0, 0) ls ⟨Nat.zero_le _, rfl, lv_sub hl [2, 1, 0] rfl⟩
  rintro ⟨f, i⟩ ls ⟨I1, I2, hl⟩ ih
  have hf := ctR_le (wrB w) 0 (i - 0)
  refine lv_iload_n hx hb dX1_countWrittenOut_4 rfl (lv_at hl 2 rfl) ?_
  refine lv_aload_n hx hb dX1_countWrittenOut_5 rfl (lv_at hl 0 rfl) ?_
  refine gf_X1_X1_rows hF hP 0 rfl rfl dX1_countWrittenOut_6 ?_
  refine xC_ge (tgt := 29) hx hb (by omega) (by omega) dX1_countWrittenOut_9 (by decide) (fun c_9 => ?_) (fun c_9 => ?_)
  · refine lv_iload_n hx hb dX1_countWrittenOut_29 rfl (lv_at hl 1 rfl) ?_
    exact xret_i (V := nI (f)) hF hret hlocks (by rw [I2, show i = nr w by omega]; rfl) dX1_countWrittenOut_30
  · refine lv_aload_n hx hb dX1_countWrittenOut_12 rfl (lv_at hl 0 rfl) ?_
    refine lv_iload_n hx hb dX1_countWrittenOut_13 rfl (lv_at hl 2 rfl) ?_
    refine vp_callSi (va_Run.run (xrV hF (c_X1_isWrittenOut l g ao ae ac au fe fc fs w hW hR i (by omega)) cal_X1_isWrittenOut q_657 ⟨by decide, by decide⟩ rfl rfl rfl (va_recv hF.2.1 hP (ci := 1) (q0 := 0) rfl rfl) hZ (hP) hl.1 rfl (Nat.le_of_ble_eq_true rfl) dX1_countWrittenOut_14 ⟨Nat.le_refl _, Nat.le_refl _⟩)) (fun r_ h_ => ?_)
    subst h_
    refine xZ_eq (tgt := 23) hx hb dX1_countWrittenOut_17 (by decide) (fun c_17 => ?_) (fun c_17 => ?_)
    · refine xN_inc (lv' := [(2, .int (nI (i + 1))), (0, .ref ao), (1, .int (nI f))]) hx hb 1 dX1_countWrittenOut_23 hl (k := 2) rfl (by decide) (by decide) rfl (fun ls hl => ?_)
      refine lv_goto (tgt := 4) hx hb dX1_countWrittenOut_26 (by decide) ?_
      exact ih (f, i + 1) ls ⟨by omega, by rw [I2, ctR_f (Nat.zero_le _) c_17], lv_sub hl [1, 2, 0] rfl⟩ (by dsimp only; omega)
    · refine xN_inc (lv' := [(1, .int (nI (f + 1))), (0, .ref ao), (2, .int (nI i))]) hx hb 1 dX1_countWrittenOut_20 hl (k := 1) rfl (by decide) (by decide) rfl (fun ls hl => ?_)
      refine xN_inc (lv' := [(2, .int (nI (i + 1))), (1, .int (nI (f + 1))), (0, .ref ao)]) hx hb 1 dX1_countWrittenOut_23 hl (k := 2) rfl (by decide) (by decide) rfl (fun ls hl => ?_)
      refine lv_goto (tgt := 4) hx hb dX1_countWrittenOut_26 (by decide) ?_
      exact ih (f + 1, i + 1) ls ⟨by omega, by rw [I2, ctR_t (Nat.zero_le _) c_17], lv_sub hl [2, 1, 0] rfl⟩ (by dsimp only; omega)
set_option maxHeartbeats 4000000 in
set_option maxRecDepth 100000 in
theorem c_X1_watches (l : Launch) (g : XG) (ao ae ac au : Nat) (fe fc fs w : Nat → Int32) (hW : WF w) (hR : LR fe fc fs w)  : Met l yX1_watches (ww yX1_watches cX1_watches 1 (some .int)) (rmD 0) (xP g [.ref ao] (fun H => va_P g.1 vwCl (LogC g ao ae ac au fe fc fs w) H)) (vp_Si (fun r9 => r9 = nI (wcs w))) 0 0 (fun _ => False) := by
  refine xMet (by decide) rfl (Nat.le_of_ble_eq_true rfl) ?_
  intro p e s m below meth c ls hF hZ hh hret hlocks hin hl
  have hx := hF.1.1
  have hb := hF.1.2.1
  have hP := hh
  have hP : va_P g.1 vwCl (LogC g ao ae ac au fe fc fs w) s.heap := hP
  have hl : lv_has ls 1 [(0, .ref ao)] := hl
  have h48 := hW.n48
  have hp4 := hW.pg4
  have hp12 := hW.pg12
  have hs1 := hW.st1
  have hw2 := hW.wr2
  have hw6 := hW.wr6
  refine lv_aload_n hx hb dX1_watches_0 rfl (lv_at hl 0 rfl) ?_
  refine gf_X1_X1_watchRows hF hP 0 rfl rfl dX1_watches_1 ?_
  refine xI_le (tgt := 26) hx hb (by omega) dX1_watches_4 (by decide) (fun c_4 => absurd c_4 (by omega)) (fun c_4 => ?_)
  refine lv_aload_n hx hb dX1_watches_7 rfl (lv_at hl 0 rfl) ?_
  refine gf_X1_X1_rows hF hP 0 rfl rfl dX1_watches_8 ?_
  refine lv_aload_n hx hb dX1_watches_11 rfl (lv_at hl 0 rfl) ?_
  refine gf_X1_X1_watchRows hF hP 0 rfl rfl dX1_watches_12 ?_
  refine xN_add hx hb dX1_watches_15 ?_
  refine xN_const hx hb 1 dX1_watches_16 (by decide) ?_
  refine xN_sub hx hb (by omega) dX1_watches_17 ?_
  refine lv_aload_n hx hb dX1_watches_18 rfl (lv_at hl 0 rfl) ?_
  refine gf_X1_X1_watchRows hF hP 0 rfl rfl dX1_watches_19 ?_
  refine xN_div hx hb (by omega) (by omega) (by omega) dX1_watches_22 ?_
  refine lv_goto (tgt := 27) hx hb dX1_watches_23 (by decide) ?_
  exact xret_i (V := nI (((nr w + (wrN w)) - 1) / (wrN w))) hF hret hlocks (rfl) dX1_watches_27
set_option maxHeartbeats 4000000 in
set_option maxRecDepth 100000 in
theorem c_X1_firstRowOf (l : Launch) (g : XG) (ao ae ac au : Nat) (fe fc fs w : Nat → Int32) (hW : WF w) (hR : LR fe fc fs w) (t : Nat) : Met l yX1_firstRowOf (ww yX1_firstRowOf cX1_firstRowOf 2 (some .int)) (rmD 0) (xP g [.ref ao, .int (nI t)] (fun H => va_P g.1 vwCl (LogC g ao ae ac au fe fc fs w) H)) (vp_Si (fun r9 => r9 = nI (t * wrN w))) 0 0 (fun _ => False) := by
  refine xMet (by decide) rfl (Nat.le_of_ble_eq_true rfl) ?_
  intro p e s m below meth c ls hF hZ hh hret hlocks hin hl
  have hx := hF.1.1
  have hb := hF.1.2.1
  have hP := hh
  have hP : va_P g.1 vwCl (LogC g ao ae ac au fe fc fs w) s.heap := hP
  have hl : lv_has ls 2 [(0, .ref ao), (1, .int (nI t))] := hl
  have h48 := hW.n48
  have hp4 := hW.pg4
  have hp12 := hW.pg12
  have hs1 := hW.st1
  have hw2 := hW.wr2
  have hw6 := hW.wr6
  refine lv_iload_n hx hb dX1_firstRowOf_0 rfl (lv_at hl 1 rfl) ?_
  refine lv_aload_n hx hb dX1_firstRowOf_1 rfl (lv_at hl 0 rfl) ?_
  refine gf_X1_X1_watchRows hF hP 0 rfl rfl dX1_firstRowOf_2 ?_
  refine xN_mul hx hb dX1_firstRowOf_5 ?_
  exact xret_i (V := nI (t * (wrN w))) hF hret hlocks (rfl) dX1_firstRowOf_6
set_option maxHeartbeats 4000000 in
set_option maxRecDepth 100000 in
theorem c_X1_lastRowOf (l : Launch) (g : XG) (ao ae ac au : Nat) (fe fc fs w : Nat → Int32) (hW : WF w) (hR : LR fe fc fs w) (t : Nat) (ht : t < 24) : Met l yX1_lastRowOf (ww yX1_lastRowOf cX1_lastRowOf 2 (some .int)) (rmD 1) (xP g [.ref ao, .int (nI t)] (fun H => va_P g.1 vwCl (LogC g ao ae ac au fe fc fs w) H)) (vp_Si (fun r9 => r9 = nI (lstN w t) - nI 1)) 0 0 (fun _ => False) := by
  refine xMet (by decide) rfl (Nat.le_of_ble_eq_true rfl) ?_
  intro p e s m below meth c ls hF hZ hh hret hlocks hin hl
  have hx := hF.1.1
  have hb := hF.1.2.1
  have hP := hh
  have hP : va_P g.1 vwCl (LogC g ao ae ac au fe fc fs w) s.heap := hP
  have hl : lv_has ls 2 [(0, .ref ao), (1, .int (nI t))] := hl
  have h48 := hW.n48
  have hp4 := hW.pg4
  have hp12 := hW.pg12
  have hs1 := hW.st1
  have hw2 := hW.wr2
  have hw6 := hW.wr6
  have htw : t * wrN w ≤ 24 * 6 := Nat.mul_le_mul (by omega) (by omega)
  refine lv_iload_n hx hb dX1_lastRowOf_0 rfl (lv_at hl 1 rfl) ?_
  refine lv_aload_n hx hb dX1_lastRowOf_1 rfl (lv_at hl 0 rfl) ?_
  refine gf_X1_X1_watchRows hF hP 0 rfl rfl dX1_lastRowOf_2 ?_
  refine xN_mul hx hb dX1_lastRowOf_5 ?_
  refine lv_aload_n hx hb dX1_lastRowOf_6 rfl (lv_at hl 0 rfl) ?_
  refine gf_X1_X1_watchRows hF hP 0 rfl rfl dX1_lastRowOf_7 ?_
  refine xN_add hx hb dX1_lastRowOf_10 ?_
  refine lv_aload_n hx hb dX1_lastRowOf_11 rfl (lv_at hl 0 rfl) ?_
  refine gf_X1_X1_rows hF hP 0 rfl rfl dX1_lastRowOf_12 ?_
  refine va_mmin hx hb (hF.1.2.2.1.trans hl.1.symm) hF.1.2.2.2.1 (hF.1.2.2.2.2 _ q_524) (hF.1.2.2.2.2 _ q_91) (hF.1.2.2.2.2 _ q_92) (hF.1.2.2.2.2 _ q_93) (Nat.le_of_ble_eq_true rfl) (Nat.le_of_ble_eq_true rfl) (Nat.le_refl _) (Nat.le_refl _) dX1_lastRowOf_15 ?_
  rw [show ((if nI (nr w) < nI (t * (wrN w) + (wrN w)) then nI (nr w) else nI (t * (wrN w) + (wrN w))) : Int32) = nI (lstN w t) from by rw [show (if nI (nr w) < nI (t * wrN w + wrN w) then nI (nr w) else nI (t * wrN w + wrN w)) = nI (if nr w < t * wrN w + wrN w then nr w else t * wrN w + wrN w) from (by by_cases h : nr w < t * wrN w + wrN w; { rw [if_pos h, if_pos (nI_lt h (by omega))] }; { rw [if_neg h, if_neg (nI_nlt (by omega) (by omega))] })]; unfold lstN; rw [Nat.succ_mul]]
  refine xN_const hx hb 1 dX1_lastRowOf_18 (by decide) ?_
  refine lv_isub hx hb dX1_lastRowOf_19 ?_
  exact xret_i (V := nI (lstN w t) - nI 1) hF hret hlocks (rfl) dX1_lastRowOf_20
set_option maxHeartbeats 4000000 in
set_option maxRecDepth 100000 in
theorem c_X1_runOf (l : Launch) (g : XG) (ao ae ac au : Nat) (fe fc fs w : Nat → Int32) (hW : WF w) (hR : LR fe fc fs w) (a b : Nat) (hab : a ≤ b) (hb : b ≤ nr w) : Met l yX1_runOf (ww yX1_runOf cX1_runOf 5 (some .int)) (rmD 4) (xP g [.ref ao, .int (nI a), .int (nI (b) - nI 1)] (fun H => va_P g.1 vwCl (LogC g ao ae ac au fe fc fs w) H)) (vp_Si (fun r9 => r9 = nI (runN w a b))) 0 0 (fun _ => False) := by
  refine xMet (by decide) rfl (Nat.le_of_ble_eq_true rfl) ?_
  intro p e s m below meth c ls hF hZ hh hret hlocks hin hl
  have hx := hF.1.1
  have hb := hF.1.2.1
  have hP := hh
  have hP : va_P g.1 vwCl (LogC g ao ae ac au fe fc fs w) s.heap := hP
  have hl : lv_has ls 5 [(0, .ref ao), (1, .int (nI a)), (2, .int (nI (b) - nI 1))] := hl
  have h48 := hW.n48
  have hp4 := hW.pg4
  have hp12 := hW.pg12
  have hs1 := hW.st1
  have hw2 := hW.wr2
  have hw6 := hW.wr6
  refine xN_const hx hb 0 dX1_runOf_0 (by decide) ?_
  refine lv_istore_n (lv' := [(3, .int (nI 0)), (0, .ref ao), (1, .int (nI a)), (2, .int (nI (b) - nI 1))]) hx hb dX1_runOf_1 rfl hl (by decide) rfl (fun ls hl => ?_)
  refine lv_iload_n hx hb dX1_runOf_2 rfl (lv_at hl 2 rfl) ?_
  refine lv_istore (lv' := [(4, .int (nI a)), (3, .int (nI 0)), (0, .ref ao), (1, .int (nI a)), (2, .int (nI (b) - nI 1))]) hx hb dX1_runOf_3 hl (by decide) rfl (fun ls hl => ?_)
  refine xloop (goal := fun ls => W p l e _ s m _ below meth c s.heap [] _ _ _ (F0 m _ ls [])) (fun (z_ : Nat × Nat) (ls : Array Slot) => match z_ with | (f, i) => (a ≤ i) ∧ (i ≤ b) ∧ (f = smR (spd w) a (i - a)) ∧ lv_has ls 5 [(0, .ref ao), (1, .int (nI a)), (2, .int (nI (b) - nI 1)), (3, .int (nI f)), (4, .int (nI i))]) (fun (z_ : Nat × Nat) => match z_ with | (f, i) => b - i) ?_ (0, a) ls ⟨Nat.le_refl _, hab, by rw [Nat.sub_self]; rfl, lv_sub hl [2, 3, 4, 1, 0] rfl⟩
  rintro ⟨f, i⟩ ls ⟨I0, I1, I2, hl⟩ ih
  refine lv_iload hx hb dX1_runOf_5 (lv_at hl 4 rfl) ?_
  refine lv_iload_n hx hb dX1_runOf_7 rfl (lv_at hl 2 rfl) ?_
  refine xE_gt (tgt := 31) hx hb (by omega) (by omega) dX1_runOf_8 (by decide) (fun c_8 => ?_) (fun c_8 => ?_)
  · refine lv_iload_n hx hb dX1_runOf_31 rfl (lv_at hl 3 rfl) ?_
    exact xret_i (V := nI (f)) hF hret hlocks (by rw [I2, show i = b by omega]; rfl) dX1_runOf_32
  · refine lv_iload_n hx hb dX1_runOf_11 rfl (lv_at hl 3 rfl) ?_
    refine xN_const hx hb 0 dX1_runOf_12 (by decide) ?_
    refine lv_aload_n hx hb dX1_runOf_13 rfl (lv_at hl 0 rfl) ?_
    refine lv_iload hx hb dX1_runOf_14 (lv_at hl 4 rfl) ?_
    refine xN_const hx hb 1 dX1_runOf_16 (by decide) ?_
    refine vp_callSi (va_Run.run (xrV hF (c_X1_meaningOf l g ao ae ac au fe fc fs w hW hR i 1 (by omega) (by omega)) cal_X1_meaningOf q_242 ⟨by decide, by decide⟩ rfl rfl rfl (va_recv hF.2.1 hP (ci := 1) (q0 := 0) rfl rfl) hZ (hP) hl.1 rfl (Nat.le_of_ble_eq_true rfl) dX1_runOf_17 ⟨Nat.le_refl _, Nat.le_refl _⟩)) (fun r_ h_ => ?_)
    subst h_
    refine va_mmax hx hb (hF.1.2.2.1.trans hl.1.symm) hF.1.2.2.2.1 (hF.1.2.2.2.2 _ q_470) (hF.1.2.2.2.2 _ q_471) (hF.1.2.2.2.2 _ q_92) (hF.1.2.2.2.2 _ q_472) (Nat.le_of_ble_eq_true rfl) (Nat.le_of_ble_eq_true rfl) (Nat.le_refl _) (Nat.le_refl _) dX1_runOf_20 ?_
    rw [show ((if nI (0) < (mean w i 1) then (mean w i 1) else nI (0)) : Int32) = nI (spd w i) from xmax0 _]
    refine xN_add hx hb dX1_runOf_23 ?_
    refine lv_istore_n (lv' := [(3, .int (nI (f + (spd w i)))), (0, .ref ao), (1, .int (nI a)), (2, .int (nI (b) - nI 1)), (4, .int (nI i))]) hx hb dX1_runOf_24 rfl hl (by decide) rfl (fun ls hl => ?_)
    refine xN_inc (lv' := [(4, .int (nI (i + 1))), (3, .int (nI (f + (spd w i)))), (0, .ref ao), (1, .int (nI a)), (2, .int (nI (b) - nI 1))]) hx hb 1 dX1_runOf_25 hl (k := 4) rfl (by decide) (by decide) rfl (fun ls hl => ?_)
    refine lv_goto (tgt := 5) hx hb dX1_runOf_28 (by decide) ?_
    exact ih (f + (spd w i), i + 1) ls ⟨by omega, by omega, by rw [I2, smR_step I0], lv_sub hl [2, 3, 4, 1, 0] rfl⟩ (by dsimp only; omega)
set_option maxHeartbeats 4000000 in
set_option maxRecDepth 100000 in
theorem c_X1_countWrongSums (l : Launch) (g : XG) (ao ae ac au : Nat) (fe fc fs w : Nat → Int32) (hW : WF w) (hR : LR fe fc fs w)  : Met l yX1_countWrongSums (ww yX1_countWrongSums cX1_countWrongSums 5 (some .int)) (rmD 5) (xP g [.ref ao] (fun H => va_P g.1 vwCl (LogC g ao ae ac au fe fc fs w) H)) (vp_Si (fun r9 => r9 = nI (ctR (wrgB w) 0 (wcs w)))) 0 0 (fun _ => False) := by
  refine xMet (by decide) rfl (Nat.le_of_ble_eq_true rfl) ?_
  intro p e s m below meth c ls hF hZ hh hret hlocks hin hl
  have hx := hF.1.1
  have hb := hF.1.2.1
  have hP := hh
  have hP : va_P g.1 vwCl (LogC g ao ae ac au fe fc fs w) s.heap := hP
  have hl : lv_has ls 5 [(0, .ref ao)] := hl
  have h48 := hW.n48
  have hp4 := hW.pg4
  have hp12 := hW.pg12
  have hs1 := hW.st1
  have hw2 := hW.wr2
  have hw6 := hW.wr6
  have hwc := wcs_le hW
  refine xN_const hx hb 0 dX1_countWrongSums_0 (by decide) ?_
  refine lv_istore_n (lv' := [(1, .int (nI 0)), (0, .ref ao)]) hx hb dX1_countWrongSums_1 rfl hl (by decide) rfl (fun ls hl => ?_)
  refine lv_aload_n hx hb dX1_countWrongSums_2 rfl (lv_at hl 1 rfl) ?_
  refine vp_callSi (va_Run.run (xrV hF (c_X1_watches l g ao ae ac au fe fc fs w hW hR  ) cal_X1_watches q_661 ⟨by decide, by decide⟩ rfl rfl rfl (va_recv hF.2.1 hP (ci := 1) (q0 := 0) rfl rfl) hZ (hP) hl.1 rfl (Nat.le_of_ble_eq_true rfl) dX1_countWrongSums_3 ⟨Nat.le_refl _, Nat.le_refl _⟩)) (fun r_ h_ => ?_)
  subst h_
  refine lv_istore_n (lv' := [(2, .int (nI (wcs w))), (1, .int (nI 0)), (0, .ref ao)]) hx hb dX1_countWrongSums_6 rfl hl (by decide) rfl (fun ls hl => ?_)
  refine xN_const hx hb 0 dX1_countWrongSums_7 (by decide) ?_
  refine lv_istore_n (lv' := [(3, .int (nI 0)), (2, .int (nI (wcs w))), (1, .int (nI 0)), (0, .ref ao)]) hx hb dX1_countWrongSums_8 rfl hl (by decide) rfl (fun ls hl => ?_)
  refine xloop (goal := fun ls => W p l e _ s m _ below meth c s.heap [] _ _ _ (F0 m _ ls [])) (fun (z_ : Nat × Nat) (ls : Array Slot) => match z_ with | (f, i) => (i ≤ wcs w) ∧ (f = ctR (wrgB w) 0 (i - 0)) ∧ lv_has ls 5 [(0, .ref ao), (1, .int (nI f)), (2, .int (nI (wcs w))), (3, .int (nI i))]) (fun (z_ : Nat × Nat) => match z_ with | (f, i) => wcs w - i) ?_ (0, 0) ls ⟨Nat.zero_le _, rfl, lv_sub hl [3, 2, 1, 0] rfl⟩
  rintro ⟨f, i⟩ ls ⟨I1, I2, hl⟩ ih
  have hf := ctR_le (wrgB w) 0 (i - 0)
  refine lv_iload_n hx hb dX1_countWrongSums_9 rfl (lv_at hl 3 rfl) ?_
  refine lv_iload_n hx hb dX1_countWrongSums_10 rfl (lv_at hl 2 rfl) ?_
  refine xC_ge (tgt := 56) hx hb (by omega) (by omega) dX1_countWrongSums_11 (by decide) (fun c_11 => ?_) (fun c_11 => ?_)
  · refine lv_iload_n hx hb dX1_countWrongSums_56 rfl (lv_at hl 1 rfl) ?_
    exact xret_i (V := nI (f)) hF hret hlocks (by rw [I2, show i = wcs w by omega]; rfl) dX1_countWrongSums_57
  · refine lv_aload_n hx hb dX1_countWrongSums_14 rfl (lv_at hl 0 rfl) ?_
    refine lv_iload_n hx hb dX1_countWrongSums_15 rfl (lv_at hl 3 rfl) ?_
    refine vp_callSi (va_Run.run (xrV hF (c_X1_sumOf l g ao ae ac au fe fc fs w hW hR i (by omega)) cal_X1_sumOf q_662 ⟨by decide, by decide⟩ rfl rfl rfl (va_recv hF.2.1 hP (ci := 1) (q0 := 0) rfl rfl) hZ (hP) hl.1 rfl (Nat.le_of_ble_eq_true rfl) dX1_countWrongSums_16 ⟨Nat.le_refl _, Nat.le_refl _⟩)) (fun r_ h_ => ?_)
    subst h_
    refine lv_istore (lv' := [(4, .int (w (4 + i))), (0, .ref ao), (1, .int (nI f)), (2, .int (nI (wcs w))), (3, .int (nI i))]) hx hb dX1_countWrongSums_19 hl (by decide) rfl (fun ls hl => ?_)
    refine lv_iload hx hb dX1_countWrongSums_21 (lv_at hl 0 rfl) ?_
    refine lv_bipush hx hb (v := (-5)) dX1_countWrongSums_23 (by decide) ?_
    refine lv_icmp_eq (tgt := 50) hx hb dX1_countWrongSums_25 (by decide) (fun c_25 => ?_) (fun c_25 => ?_)
    · refine xN_inc (lv' := [(3, .int (nI (i + 1))), (4, .int (w (4 + i))), (0, .ref ao), (1, .int (nI f)), (2, .int (nI (wcs w)))]) hx hb 1 dX1_countWrongSums_50 hl (k := 4) rfl (by decide) (by decide) rfl (fun ls hl => ?_)
      refine lv_goto (tgt := 9) hx hb dX1_countWrongSums_53 (by decide) ?_
      exact ih (f, i + 1) ls ⟨by omega, by rw [I2, ctR_f (Nat.zero_le _) (by unfold wrgB; rw [c_25]; rfl)], lv_sub hl [2, 3, 4, 0] rfl⟩ (by dsimp only; omega)
    · refine lv_iload hx hb dX1_countWrongSums_28 (lv_at hl 0 rfl) ?_
      refine lv_aload_n hx hb dX1_countWrongSums_30 rfl (lv_at hl 1 rfl) ?_
      refine lv_aload_n hx hb dX1_countWrongSums_31 rfl (lv_at hl 1 rfl) ?_
      refine lv_iload_n hx hb dX1_countWrongSums_32 rfl (lv_at hl 4 rfl) ?_
      refine vp_callSi (va_Run.run (xrV hF (c_X1_firstRowOf l g ao ae ac au fe fc fs w hW hR i ) cal_X1_firstRowOf q_663 ⟨by decide, by decide⟩ rfl rfl rfl (va_recv hF.2.1 hP (ci := 1) (q0 := 0) rfl rfl) hZ (hP) hl.1 rfl (Nat.le_of_ble_eq_true rfl) dX1_countWrongSums_33 ⟨Nat.le_refl _, Nat.le_refl _⟩)) (fun r_ h_ => ?_)
      subst h_
      refine lv_aload_n hx hb dX1_countWrongSums_36 rfl (lv_at hl 1 rfl) ?_
      refine lv_iload_n hx hb dX1_countWrongSums_37 rfl (lv_at hl 4 rfl) ?_
      refine vp_callSi (va_Run.run (xrV hF (c_X1_lastRowOf l g ao ae ac au fe fc fs w hW hR i (by omega)) cal_X1_lastRowOf q_664 ⟨by decide, by decide⟩ rfl rfl rfl (va_recv hF.2.1 hP (ci := 1) (q0 := 0) rfl rfl) hZ (hP) hl.1 rfl (Nat.le_of_ble_eq_true rfl) dX1_countWrongSums_38 ⟨Nat.le_refl _, Nat.le_refl _⟩)) (fun r_ h_ => ?_)
      subst h_
      have hl1 := lstN_le w i
      have hl2 := lstN_ge hW (t := i) (by omega)
      refine vp_callSi (va_Run.run (xrV hF (c_X1_runOf l g ao ae ac au fe fc fs w hW hR (i * wrN w) (lstN w i) (by omega) (by omega)) cal_X1_runOf q_665 ⟨by decide, by decide⟩ rfl rfl rfl (va_recv hF.2.1 hP (ci := 1) (q0 := 0) rfl rfl) hZ (hP) hl.1 rfl (Nat.le_of_ble_eq_true rfl) dX1_countWrongSums_41 ⟨Nat.le_refl _, Nat.le_refl _⟩)) (fun r_ h_ => ?_)
      subst h_
      refine lv_icmp_eq (tgt := 50) hx hb dX1_countWrongSums_44 (by decide) (fun c_44 => ?_) (fun c_44 => ?_)
      · refine xN_inc (lv' := [(3, .int (nI (i + 1))), (4, .int (w (4 + i))), (0, .ref ao), (1, .int (nI f)), (2, .int (nI (wcs w)))]) hx hb 1 dX1_countWrongSums_50 hl (k := 4) rfl (by decide) (by decide) rfl (fun ls hl => ?_)
        refine lv_goto (tgt := 9) hx hb dX1_countWrongSums_53 (by decide) ?_
        exact ih (f, i + 1) ls ⟨by omega, by rw [I2, ctR_f (Nat.zero_le _) (by unfold wrgB; rw [c_44, beq_self_eq_true, Bool.not_true, Bool.and_false])], lv_sub hl [2, 3, 4, 0] rfl⟩ (by dsimp only; omega)
      · refine xN_inc (lv' := [(1, .int (nI (f + 1))), (4, .int (w (4 + i))), (0, .ref ao), (2, .int (nI (wcs w))), (3, .int (nI i))]) hx hb 1 dX1_countWrongSums_47 hl (k := 2) rfl (by decide) (by decide) rfl (fun ls hl => ?_)
        refine xN_inc (lv' := [(3, .int (nI (i + 1))), (1, .int (nI (f + 1))), (4, .int (w (4 + i))), (0, .ref ao), (2, .int (nI (wcs w)))]) hx hb 1 dX1_countWrongSums_50 hl (k := 4) rfl (by decide) (by decide) rfl (fun ls hl => ?_)
        refine lv_goto (tgt := 9) hx hb dX1_countWrongSums_53 (by decide) ?_
        exact ih (f + 1, i + 1) ls ⟨by omega, by rw [I2, ctR_t (Nat.zero_le _) (by unfold wrgB; rw [beq_eq_false_iff_ne.mpr c_25, beq_eq_false_iff_ne.mpr c_44]; rfl)], lv_sub hl [3, 1, 4, 0] rfl⟩ (by dsimp only; omega)
