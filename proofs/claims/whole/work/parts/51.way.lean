/-! the ways -/
def rwB (w : Nat → Int32) (x y : Int32) : Bool := rowB w x && (rowB w y && decide (x ≤ y))
def nthA (w : Nat → Int32) (t : Nat) (x y : Int32) : UInt64 := if rwB w x y then way w t x.toNatClampNeg (y.toNatClampNeg + 1 - x.toNatClampNeg) else 13890094659566305280
theorem mg_rw {w : Nat → Int32} {x y : Int32} : mg w x y < 0 ↔ rwB w x y = false := by
  unfold mg rwB
  cases rowB w x <;> cases rowB w y
  · simp
  · simp
  · simp
  · by_cases h : y < x
    · simp [h]
    · simp [h, Int32.not_lt.mp h]
theorem rwB_of {w : Nat → Int32} (hW : WF w) {x y : Int32} (h : rwB w x y = true) : ∃ a b : Nat, x = nI a ∧ y = nI b ∧ a ≤ b ∧ b < nr w := by
  have h48 := hW.n48
  unfold rwB at h
  rw [Bool.and_eq_true, Bool.and_eq_true, decide_eq_true_eq] at h
  obtain ⟨a, ha, rfl⟩ := (rowB_iff hW).mp h.1
  obtain ⟨b, hb, rfl⟩ := (rowB_iff hW).mp h.2.1
  exact ⟨a, b, rfl, rfl, (nI_leI (by omega) (by omega)).mp h.2.2, hb⟩
set_option maxHeartbeats 4000000 in
set_option maxRecDepth 100000 in
theorem c_X3_wayNorth (l : Launch) (g : XG) (k : Nat) (hk : k < 8) : Met l yX3_wayNorth (ww yX3_wayNorth cX3_wayNorth 1 (some .double)) (rmD 0) (xP g [.int (nI k)] (fun H => True)) (vp_Sd (fun r9 => r9 = wn k)) 0 0 (fun _ => False) := by
  refine xMet (by decide) rfl (Nat.le_of_ble_eq_true rfl) ?_
  intro p e s m below meth c ls hF hZ hh hret hlocks hin hl
  have hx := hF.1.1
  have hb := hF.1.2.1
  have hl : lv_has ls 1 [(0, .int (nI k))] := hl
  refine lv_iload_n hx hb dX3_wayNorth_0 rfl (lv_at hl 0 rfl) ?_
  rcases (show k = 0 ∨ k = 1 ∨ k = 2 ∨ k = 3 ∨ k = 4 ∨ k = 5 ∨ k = 6 ∨ k = 7 by omega) with rfl | rfl | rfl | rfl | rfl | rfl | rfl | rfl
  · refine lv_tableIn (off := 47) (tgt := 48) hx hb dX3_wayNorth_1 (by decide) (by decide) rfl (by decide) ?_
    refine lv_dconst1 hx hb dX3_wayNorth_48 ?_
    exact xret_d (V := FP.dconst1) hF hret hlocks (rfl) dX3_wayNorth_49
  · refine lv_tableIn (off := 49) (tgt := 50) hx hb dX3_wayNorth_1 (by decide) (by decide) rfl (by decide) ?_
    refine lv_ldc2d hx hb hF.1.2.2.2.1 (hF.1.2.2.2.2 _ q_578) dX3_wayNorth_50 ?_
    exact xret_d (V := 4604544210138303771) hF hret hlocks (rfl) dX3_wayNorth_53
  · refine lv_tableIn (off := 69) (tgt := 70) hx hb dX3_wayNorth_1 (by decide) (by decide) rfl (by decide) ?_
    refine lv_dconst0 hx hb dX3_wayNorth_70 ?_
    exact xret_d (V := FP.dconst0) hF hret hlocks (rfl) dX3_wayNorth_71
  · refine lv_tableIn (off := 53) (tgt := 54) hx hb dX3_wayNorth_1 (by decide) (by decide) rfl (by decide) ?_
    refine lv_ldc2d hx hb hF.1.2.2.2.1 (hF.1.2.2.2.2 _ q_579) dX3_wayNorth_54 ?_
    exact xret_d (V := 13827916246993079579) hF hret hlocks (rfl) dX3_wayNorth_57
  · refine lv_tableIn (off := 57) (tgt := 58) hx hb dX3_wayNorth_1 (by decide) (by decide) rfl (by decide) ?_
    refine lv_ldc2d hx hb hF.1.2.2.2.1 (hF.1.2.2.2.2 _ q_580) dX3_wayNorth_58 ?_
    exact xret_d (V := 13830554455654793216) hF hret hlocks (rfl) dX3_wayNorth_61
  · refine lv_tableIn (off := 61) (tgt := 62) hx hb dX3_wayNorth_1 (by decide) (by decide) rfl (by decide) ?_
    refine lv_ldc2d hx hb hF.1.2.2.2.1 (hF.1.2.2.2.2 _ q_579) dX3_wayNorth_62 ?_
    exact xret_d (V := 13827916246993079579) hF hret hlocks (rfl) dX3_wayNorth_65
  · refine lv_tableIn (off := 69) (tgt := 70) hx hb dX3_wayNorth_1 (by decide) (by decide) rfl (by decide) ?_
    refine lv_dconst0 hx hb dX3_wayNorth_70 ?_
    exact xret_d (V := FP.dconst0) hF hret hlocks (rfl) dX3_wayNorth_71
  · refine lv_tableIn (off := 65) (tgt := 66) hx hb dX3_wayNorth_1 (by decide) (by decide) rfl (by decide) ?_
    refine lv_ldc2d hx hb hF.1.2.2.2.1 (hF.1.2.2.2.2 _ q_578) dX3_wayNorth_66 ?_
    exact xret_d (V := 4604544210138303771) hF hret hlocks (rfl) dX3_wayNorth_69
set_option maxHeartbeats 4000000 in
set_option maxRecDepth 100000 in
theorem c_X1_wayOf (l : Launch) (g : XG) (ao ae ac au : Nat) (fe fc fs w : Nat → Int32) (hW : WF w) (hR : LR fe fc fs w) (a b : Nat) (hab : a ≤ b) (hb : b ≤ nr w) (t : Nat) (ht : t ≤ 6) : Met l yX1_wayOf (ww yX1_wayOf cX1_wayOf 9 (some .double)) (rmD 4) (xP g [.ref ao, .int (nI a), .int (nI (b) - nI 1), .int (nI t)] (fun H => va_P g.1 vwCl (LogC g ao ae ac au fe fc fs w) H)) (vp_Sd (fun r9 => r9 = way w t a (b - a))) 0 0 (fun _ => False) := by
  refine xMet (by decide) rfl (Nat.le_of_ble_eq_true rfl) ?_
  intro p e s m below meth c ls hF hZ hh hret hlocks hin hl
  have hx := hF.1.1
  have hb := hF.1.2.1
  have hP := hh
  have hP : va_P g.1 vwCl (LogC g ao ae ac au fe fc fs w) s.heap := hP
  have hl : lv_has ls 9 [(0, .ref ao), (1, .int (nI a)), (2, .int (nI (b) - nI 1)), (3, .int (nI t))] := hl
  have h48 := hW.n48
  have hp4 := hW.pg4
  have hp12 := hW.pg12
  have hs1 := hW.st1
  have hw2 := hW.wr2
  have hw6 := hW.wr6
  have h48 := hW.n48
  refine lv_dconst0 hx hb dX1_wayOf_0 ?_
  refine lv_dstore (lv' := [(4, .double (FP.dconst0)), (0, .ref ao), (1, .int (nI a)), (2, .int (nI (b) - nI 1)), (3, .int (nI t))]) hx hb dX1_wayOf_1 hl (by decide) rfl (fun ls hl => ?_)
  refine lv_iload_n hx hb dX1_wayOf_3 rfl (lv_at hl 2 rfl) ?_
  refine lv_istore (lv' := [(6, .int (nI a)), (4, .double (FP.dconst0)), (0, .ref ao), (1, .int (nI a)), (2, .int (nI (b) - nI 1)), (3, .int (nI t))]) hx hb dX1_wayOf_4 hl (by decide) rfl (fun ls hl => ?_)
  refine xloop (goal := fun ls => W p l e _ s m _ below meth c s.heap [] _ _ _ (F0 m _ ls [])) (fun (z_ : UInt64 × Nat) (ls : Array Slot) => match z_ with | (z, i) => (a ≤ i) ∧ (i ≤ b) ∧ (z = way w t a (i - a)) ∧ lv_has ls 9 [(0, .ref ao), (1, .int (nI a)), (2, .int (nI (b) - nI 1)), (3, .int (nI t)), (4, .double (z)), (6, .int (nI i))]) (fun (z_ : UInt64 × Nat) => match z_ with | (z, i) => b - i) ?_ (FP.dconst0, a) ls ⟨Nat.le_refl _, by omega, by rw [Nat.sub_self]; rfl, lv_sub hl [2, 3, 4, 5, 1, 0] rfl⟩
  rintro ⟨z, i⟩ ls ⟨I0, I1, I2, hl⟩ ih
  refine lv_iload hx hb dX1_wayOf_6 (lv_at hl 5 rfl) ?_
  refine lv_iload_n hx hb dX1_wayOf_8 rfl (lv_at hl 2 rfl) ?_
  refine xE_gt (tgt := 69) hx hb (by omega) (by omega) dX1_wayOf_9 (by decide) (fun c_9 => ?_) (fun c_9 => ?_)
  · refine lv_dload hx hb dX1_wayOf_69 (lv_at hl 4 rfl) ?_
    exact xret_d (V := z) hF hret hlocks (by rw [I2, show i = b by omega]) dX1_wayOf_71
  · refine lv_aload_n hx hb dX1_wayOf_12 rfl (lv_at hl 0 rfl) ?_
    refine lv_iload hx hb dX1_wayOf_13 (lv_at hl 5 rfl) ?_
    refine xN_const hx hb 0 dX1_wayOf_15 (by decide) ?_
    refine vp_callSi (va_Run.run (xrV hF (c_X1_meaningOf l g ao ae ac au fe fc fs w hW hR i 0 (by omega) (by omega)) cal_X1_meaningOf q_242 ⟨by decide, by decide⟩ rfl rfl rfl (va_recv hF.2.1 hP (ci := 1) (q0 := 0) rfl rfl) hZ (hP) hl.1 rfl (Nat.le_of_ble_eq_true rfl) dX1_wayOf_16 ⟨Nat.le_refl _, Nat.le_refl _⟩)) (fun r_ h_ => ?_)
    subst h_
    refine lv_istore (lv' := [(7, .int (mean w i 0)), (0, .ref ao), (1, .int (nI a)), (2, .int (nI (b) - nI 1)), (3, .int (nI t)), (4, .double (z)), (6, .int (nI i))]) hx hb dX1_wayOf_19 hl (by decide) rfl (fun ls hl => ?_)
    refine lv_aload_n hx hb dX1_wayOf_21 rfl (lv_at hl 1 rfl) ?_
    refine lv_iload hx hb dX1_wayOf_22 (lv_at hl 6 rfl) ?_
    refine xN_const hx hb 1 dX1_wayOf_24 (by decide) ?_
    refine vp_callSi (va_Run.run (xrV hF (c_X1_meaningOf l g ao ae ac au fe fc fs w hW hR i 1 (by omega) (by omega)) cal_X1_meaningOf q_242 ⟨by decide, by decide⟩ rfl rfl rfl (va_recv hF.2.1 hP (ci := 1) (q0 := 0) rfl rfl) hZ (hP) hl.1 rfl (Nat.le_of_ble_eq_true rfl) dX1_wayOf_25 ⟨Nat.le_refl _, Nat.le_refl _⟩)) (fun r_ h_ => ?_)
    subst h_
    refine lv_istore (lv' := [(8, .int (mean w i 1)), (7, .int (mean w i 0)), (0, .ref ao), (1, .int (nI a)), (2, .int (nI (b) - nI 1)), (3, .int (nI t)), (4, .double (z)), (6, .int (nI i))]) hx hb dX1_wayOf_28 hl (by decide) rfl (fun ls hl => ?_)
    refine lv_iload hx hb dX1_wayOf_30 (lv_at hl 1 rfl) ?_
    refine lv_if_lt (tgt := 63) hx hb dX1_wayOf_32 (by decide) (fun c_32 => ?_) (fun c_32 => ?_)
    · refine xN_inc (lv' := [(6, .int (nI (i + 1))), (8, .int (mean w i 1)), (7, .int (mean w i 0)), (0, .ref ao), (1, .int (nI a)), (2, .int (nI (b) - nI 1)), (3, .int (nI t)), (4, .double (z))]) hx hb 1 dX1_wayOf_63 hl (k := 7) rfl (by decide) (by decide) rfl (fun ls hl => ?_)
      refine lv_goto (tgt := 6) hx hb dX1_wayOf_66 (by decide) ?_
      exact ih (z, i + 1) ls ⟨by omega, by omega, by rw [I2, way_s I0]; unfold stepW; rw [if_pos (Or.inl c_32)], lv_sub hl [3, 4, 5, 6, 7, 0] rfl⟩ (by dsimp only; omega)
    · refine lv_iload hx hb dX1_wayOf_35 (lv_at hl 0 rfl) ?_
      refine lv_if_lt (tgt := 63) hx hb dX1_wayOf_37 (by decide) (fun c_37 => ?_) (fun c_37 => ?_)
      · refine xN_inc (lv' := [(6, .int (nI (i + 1))), (8, .int (mean w i 1)), (7, .int (mean w i 0)), (0, .ref ao), (1, .int (nI a)), (2, .int (nI (b) - nI 1)), (3, .int (nI t)), (4, .double (z))]) hx hb 1 dX1_wayOf_63 hl (k := 7) rfl (by decide) (by decide) rfl (fun ls hl => ?_)
        refine lv_goto (tgt := 6) hx hb dX1_wayOf_66 (by decide) ?_
        exact ih (z, i + 1) ls ⟨by omega, by omega, by rw [I2, way_s I0]; unfold stepW; rw [if_pos (Or.inr c_37)], lv_sub hl [3, 4, 5, 6, 7, 0] rfl⟩ (by dsimp only; omega)
      · obtain ⟨u, hu, eu⟩ := mean_nn hW (c := 0) (by decide) (by omega) c_32
        obtain ⟨v, hv, ev⟩ := mean_nn hW (c := 1) (by decide) (by omega) c_37
        rw [eu, ev] at hl
        have hcu := cmN_le 0
        have hcv := cmN_le 1
        have hz : DB (199 * (i - a)) z := by rw [I2]; exact way_DB hW _ (by omega)
        refine lv_dload hx hb dX1_wayOf_40 (lv_at hl 6 rfl) ?_
        refine lv_iload hx hb dX1_wayOf_42 (lv_at hl 0 rfl) ?_
        refine lv_i2d hx hb dX1_wayOf_44 ?_
        refine lv_ldc2d hx hb hF.1.2.2.2.1 (hF.1.2.2.2.2 _ q_575) dX1_wayOf_45 ?_
        refine lv_ddiv hx hb dX1_wayOf_48 (((DB_int (v := v) (by omega)).div (by omega)).n64) ?_
        refine lv_iload hx hb dX1_wayOf_49 (lv_at hl 1 rfl) ?_
        refine lv_iload_n hx hb dX1_wayOf_51 rfl (lv_at hl 5 rfl) ?_
        refine xN_add hx hb dX1_wayOf_52 ?_
        refine xN_bi hx hb 8 dX1_wayOf_53 (by decide) ?_
        refine xN_rem hx hb (by omega) (by omega) (by omega) dX1_wayOf_55 ?_
        refine vp_callSd (va_Run.run (xrSN hF (c_X3_wayNorth l g ((u + t) % 8) (Nat.mod_lt _ (by decide))) cal_X3_wayNorth n_51 ⟨by decide, by decide⟩ rfl rfl rfl hZ (trivial) hl.1 rfl (Nat.le_of_ble_eq_true rfl) dX1_wayOf_56 ⟨Nat.le_refl _, Nat.le_refl _⟩)) (fun r_ h_ => ?_)
        subst h_
        refine lv_dmul hx hb dX1_wayOf_59 ((((DB_int (v := v) (by omega)).div (by omega)).mul (wn_1 ((u + t) % 8) (Nat.mod_lt _ (by decide))) (by omega)).n64) ?_
        refine lv_dadd hx hb dX1_wayOf_60 ((hz.add (((DB_int (v := v) (by omega)).div (by omega)).mul (wn_1 ((u + t) % 8) (Nat.mod_lt _ (by decide))) (by omega)) (by omega)).n64) ?_
        refine lv_dstore (lv' := [(4, .double (FP.dadd (z) (FP.dmul (FP.ddiv (FP.i2d (nI (v))) (4621819117588971520)) (wn ((u + t) % 8))))), (8, .int (nI v)), (7, .int (nI u)), (0, .ref ao), (1, .int (nI a)), (2, .int (nI (b) - nI 1)), (3, .int (nI t)), (6, .int (nI i))]) hx hb dX1_wayOf_61 hl (by decide) rfl (fun ls hl => ?_)
        refine xN_inc (lv' := [(6, .int (nI (i + 1))), (4, .double (FP.dadd (z) (FP.dmul (FP.ddiv (FP.i2d (nI (v))) (4621819117588971520)) (wn ((u + t) % 8))))), (8, .int (nI v)), (7, .int (nI u)), (0, .ref ao), (1, .int (nI a)), (2, .int (nI (b) - nI 1)), (3, .int (nI t))]) hx hb 1 dX1_wayOf_63 hl (k := 7) rfl (by decide) (by decide) rfl (fun ls hl => ?_)
        refine lv_goto (tgt := 6) hx hb dX1_wayOf_66 (by decide) ?_
        exact ih (FP.dadd (z) (FP.dmul (FP.ddiv (FP.i2d (nI (v))) (4621819117588971520)) (wn ((u + t) % 8))), i + 1) ls ⟨by omega, by omega, by rw [I2, way_s I0]; unfold stepW; rw [if_neg (fun q => q.elim c_32 c_37), ev, eu, nI_clamp (by omega)]; rfl, lv_sub hl [4, 5, 6, 7, 1, 0] rfl⟩ (by dsimp only; omega)
set_option maxHeartbeats 4000000 in
set_option maxRecDepth 100000 in
theorem c_X3_north (l : Launch) (g : XG) (dd bo ho xo ta ao ae ac au : Nat) (zk : Bool) (fe fc fs w : Nat → Int32) (hW : WF w) (hR : LR fe fc fs w) (x y : Int32) : Met l yX3_north (ww yX3_north cX3_north 3 (some .double)) (rmD 5) (xP g [.ref dd, .int (x), .int (y)] (fun H => va_P g.1 vwCl ((dd, .inr (3, [.ref ao, .ref bo, .int (xz zk), .ref ho, .ref xo, .ref ta])) :: LogC g ao ae ac au fe fc fs w) H)) (vp_Sd (fun r9 => r9 = nthA w 0 x y)) 0 0 (fun _ => False) := by
  refine xMet (by decide) rfl (Nat.le_of_ble_eq_true rfl) ?_
  intro p e s m below meth c ls hF hZ hh hret hlocks hin hl
  have hx := hF.1.1
  have hb := hF.1.2.1
  have hP := hh
  have hP : va_P g.1 vwCl ((dd, .inr (3, [.ref ao, .ref bo, .int (xz zk), .ref ho, .ref xo, .ref ta])) :: LogC g ao ae ac au fe fc fs w) s.heap := hP
  have hl : lv_has ls 3 [(0, .ref dd), (1, .int (x)), (2, .int (y))] := hl
  have h48 := hW.n48
  have hp4 := hW.pg4
  have hp12 := hW.pg12
  have hs1 := hW.st1
  have hw2 := hW.wr2
  have hw6 := hW.wr6
  refine lv_aload_n hx hb dX3_north_0 rfl (lv_at hl 0 rfl) ?_
  refine gf_X3_X3_log hF hP 0 rfl rfl dX3_north_1 ?_
  refine lv_iload_n hx hb dX3_north_4 rfl (lv_at hl 1 rfl) ?_
  refine lv_iload_n hx hb dX3_north_5 rfl (lv_at hl 2 rfl) ?_
  refine vp_callSi (va_Run.run (xrVN hF (c_X1_areRows l g ao ae ac au fe fc fs w hW hR ((x)) ((y)) ) cal_X1_areRows n_49 ⟨by decide, by decide⟩ rfl rfl rfl (va_recv hF.2.1 hP (ci := 1) (q0 := 1) rfl rfl) hZ (hP.sub [1, 2, 3, 4] rfl) hl.1 rfl (Nat.le_of_ble_eq_true rfl) dX3_north_6 ⟨Nat.le_refl _, Nat.le_refl _⟩)) (fun r_ h_ => ?_)
  subst h_
  refine xZ_eq (tgt := 25) hx hb dX3_north_9 (by decide) (fun c_9 => ?_) (fun c_9 => ?_)
  · refine lv_ldc2d hx hb hF.1.2.2.2.1 (hF.1.2.2.2.2 _ q_568) dX3_north_25 ?_
    exact xret_d (V := 13890094659566305280) hF hret hlocks (by unfold nthA; rw [show rwB w x y = false from c_9]; rfl) dX3_north_28
  · have hrw : rwB w x y = true := c_9
    obtain ⟨a, b, rfl, rfl, hab9, hb9⟩ := rwB_of hW hrw
    have ea : (nI a).toNatClampNeg = a := nI_clamp (by omega)
    have eb : (nI b).toNatClampNeg = b := nI_clamp (by omega)
    refine lv_aload_n hx hb dX3_north_12 rfl (lv_at hl 0 rfl) ?_
    refine gf_X3_X3_log hF hP 0 rfl rfl dX3_north_13 ?_
    refine lv_iload_n hx hb dX3_north_16 rfl (lv_at hl 1 rfl) ?_
    refine lv_iload_n hx hb dX3_north_17 rfl (lv_at hl 2 rfl) ?_
    refine xN_const hx hb 0 dX3_north_18 (by decide) ?_
    refine W.eq (g2 := F0 m 19 ls [.int (nI 0), .int (nI (b + 1) - nI 1), .int (nI a), .ref ao]) (by rw [xE_pred]) ?_
    refine vp_callSd (va_Run.run (xrVN hF (c_X1_wayOf l g ao ae ac au fe fc fs w hW hR a (b + 1) (by omega) (by omega) 0 (by omega)) cal_X1_wayOf n_50 ⟨by decide, by decide⟩ rfl rfl rfl (va_recv hF.2.1 hP (ci := 1) (q0 := 1) rfl rfl) hZ (hP.sub [1, 2, 3, 4] rfl) hl.1 rfl (Nat.le_of_ble_eq_true rfl) dX3_north_19 ⟨Nat.le_refl _, Nat.le_refl _⟩)) (fun r_ h_ => ?_)
    subst h_
    refine lv_goto (tgt := 28) hx hb dX3_north_22 (by decide) ?_
    exact xret_d (V := way w 0 a ((b + 1) - a)) hF hret hlocks (by unfold nthA; rw [if_pos hrw, ea, eb]) dX3_north_28
set_option maxHeartbeats 4000000 in
set_option maxRecDepth 100000 in
theorem c_X3_east (l : Launch) (g : XG) (dd bo ho xo ta ao ae ac au : Nat) (zk : Bool) (fe fc fs w : Nat → Int32) (hW : WF w) (hR : LR fe fc fs w) (x y : Int32) : Met l yX3_east (ww yX3_east cX3_east 3 (some .double)) (rmD 5) (xP g [.ref dd, .int (x), .int (y)] (fun H => va_P g.1 vwCl ((dd, .inr (3, [.ref ao, .ref bo, .int (xz zk), .ref ho, .ref xo, .ref ta])) :: LogC g ao ae ac au fe fc fs w) H)) (vp_Sd (fun r9 => r9 = nthA w 6 x y)) 0 0 (fun _ => False) := by
  refine xMet (by decide) rfl (Nat.le_of_ble_eq_true rfl) ?_
  intro p e s m below meth c ls hF hZ hh hret hlocks hin hl
  have hx := hF.1.1
  have hb := hF.1.2.1
  have hP := hh
  have hP : va_P g.1 vwCl ((dd, .inr (3, [.ref ao, .ref bo, .int (xz zk), .ref ho, .ref xo, .ref ta])) :: LogC g ao ae ac au fe fc fs w) s.heap := hP
  have hl : lv_has ls 3 [(0, .ref dd), (1, .int (x)), (2, .int (y))] := hl
  have h48 := hW.n48
  have hp4 := hW.pg4
  have hp12 := hW.pg12
  have hs1 := hW.st1
  have hw2 := hW.wr2
  have hw6 := hW.wr6
  refine lv_aload_n hx hb dX3_east_0 rfl (lv_at hl 0 rfl) ?_
  refine gf_X3_X3_log hF hP 0 rfl rfl dX3_east_1 ?_
  refine lv_iload_n hx hb dX3_east_4 rfl (lv_at hl 1 rfl) ?_
  refine lv_iload_n hx hb dX3_east_5 rfl (lv_at hl 2 rfl) ?_
  refine vp_callSi (va_Run.run (xrVN hF (c_X1_areRows l g ao ae ac au fe fc fs w hW hR ((x)) ((y)) ) cal_X1_areRows n_49 ⟨by decide, by decide⟩ rfl rfl rfl (va_recv hF.2.1 hP (ci := 1) (q0 := 1) rfl rfl) hZ (hP.sub [1, 2, 3, 4] rfl) hl.1 rfl (Nat.le_of_ble_eq_true rfl) dX3_east_6 ⟨Nat.le_refl _, Nat.le_refl _⟩)) (fun r_ h_ => ?_)
  subst h_
  refine xZ_eq (tgt := 26) hx hb dX3_east_9 (by decide) (fun c_9 => ?_) (fun c_9 => ?_)
  · refine lv_ldc2d hx hb hF.1.2.2.2.1 (hF.1.2.2.2.2 _ q_568) dX3_east_26 ?_
    exact xret_d (V := 13890094659566305280) hF hret hlocks (by unfold nthA; rw [show rwB w x y = false from c_9]; rfl) dX3_east_29
  · have hrw : rwB w x y = true := c_9
    obtain ⟨a, b, rfl, rfl, hab9, hb9⟩ := rwB_of hW hrw
    have ea : (nI a).toNatClampNeg = a := nI_clamp (by omega)
    have eb : (nI b).toNatClampNeg = b := nI_clamp (by omega)
    refine lv_aload_n hx hb dX3_east_12 rfl (lv_at hl 0 rfl) ?_
    refine gf_X3_X3_log hF hP 0 rfl rfl dX3_east_13 ?_
    refine lv_iload_n hx hb dX3_east_16 rfl (lv_at hl 1 rfl) ?_
    refine lv_iload_n hx hb dX3_east_17 rfl (lv_at hl 2 rfl) ?_
    refine xN_bi hx hb 6 dX3_east_18 (by decide) ?_
    refine W.eq (g2 := F0 m 20 ls [.int (nI 6), .int (nI (b + 1) - nI 1), .int (nI a), .ref ao]) (by rw [xE_pred]) ?_
    refine vp_callSd (va_Run.run (xrVN hF (c_X1_wayOf l g ao ae ac au fe fc fs w hW hR a (b + 1) (by omega) (by omega) 6 (by omega)) cal_X1_wayOf n_50 ⟨by decide, by decide⟩ rfl rfl rfl (va_recv hF.2.1 hP (ci := 1) (q0 := 1) rfl rfl) hZ (hP.sub [1, 2, 3, 4] rfl) hl.1 rfl (Nat.le_of_ble_eq_true rfl) dX3_east_20 ⟨Nat.le_refl _, Nat.le_refl _⟩)) (fun r_ h_ => ?_)
    subst h_
    refine lv_goto (tgt := 29) hx hb dX3_east_23 (by decide) ?_
    exact xret_d (V := way w 6 a ((b + 1) - a)) hF hret hlocks (by unfold nthA; rw [if_pos hrw, ea, eb]) dX3_east_29
set_option maxHeartbeats 4000000 in
set_option maxRecDepth 100000 in
theorem c_X4_northBy (l : Launch) (g : XG) (k : Nat) (hk : k < 8) : Met l yX4_northBy (ww yX4_northBy cX4_northBy 1 (some .double)) (rmD 0) (xP g [.int (nI k)] (fun H => True)) (vp_Sd (fun r9 => r9 = wn k)) 0 0 (fun _ => False) := by
  refine xMet (by decide) rfl (Nat.le_of_ble_eq_true rfl) ?_
  intro p e s m below meth c ls hF hZ hh hret hlocks hin hl
  have hx := hF.1.1
  have hb := hF.1.2.1
  have hl : lv_has ls 1 [(0, .int (nI k))] := hl
  refine lv_iload_n hx hb dX4_northBy_0 rfl (lv_at hl 0 rfl) ?_
  rcases (show k = 0 ∨ k = 1 ∨ k = 2 ∨ k = 3 ∨ k = 4 ∨ k = 5 ∨ k = 6 ∨ k = 7 by omega) with rfl | rfl | rfl | rfl | rfl | rfl | rfl | rfl
  · refine lv_tableIn (off := 47) (tgt := 48) hx hb dX4_northBy_1 (by decide) (by decide) rfl (by decide) ?_
    refine lv_dconst1 hx hb dX4_northBy_48 ?_
    exact xret_d (V := FP.dconst1) hF hret hlocks (rfl) dX4_northBy_49
  · refine lv_tableIn (off := 49) (tgt := 50) hx hb dX4_northBy_1 (by decide) (by decide) rfl (by decide) ?_
    refine lv_ldc2d hx hb hF.1.2.2.2.1 (hF.1.2.2.2.2 _ q_594) dX4_northBy_50 ?_
    exact xret_d (V := 4604544210138303771) hF hret hlocks (rfl) dX4_northBy_53
  · refine lv_tableIn (off := 61) (tgt := 62) hx hb dX4_northBy_1 (by decide) (by decide) rfl (by decide) ?_
    refine lv_dconst0 hx hb dX4_northBy_62 ?_
    exact xret_d (V := FP.dconst0) hF hret hlocks (rfl) dX4_northBy_63
  · refine lv_tableIn (off := 53) (tgt := 54) hx hb dX4_northBy_1 (by decide) (by decide) rfl (by decide) ?_
    refine lv_ldc2d hx hb hF.1.2.2.2.1 (hF.1.2.2.2.2 _ q_595) dX4_northBy_54 ?_
    exact xret_d (V := 13827916246993079579) hF hret hlocks (rfl) dX4_northBy_57
  · refine lv_tableIn (off := 57) (tgt := 58) hx hb dX4_northBy_1 (by decide) (by decide) rfl (by decide) ?_
    refine lv_ldc2d hx hb hF.1.2.2.2.1 (hF.1.2.2.2.2 _ q_596) dX4_northBy_58 ?_
    exact xret_d (V := 13830554455654793216) hF hret hlocks (rfl) dX4_northBy_61
  · refine lv_tableIn (off := 53) (tgt := 54) hx hb dX4_northBy_1 (by decide) (by decide) rfl (by decide) ?_
    refine lv_ldc2d hx hb hF.1.2.2.2.1 (hF.1.2.2.2.2 _ q_595) dX4_northBy_54 ?_
    exact xret_d (V := 13827916246993079579) hF hret hlocks (rfl) dX4_northBy_57
  · refine lv_tableIn (off := 61) (tgt := 62) hx hb dX4_northBy_1 (by decide) (by decide) rfl (by decide) ?_
    refine lv_dconst0 hx hb dX4_northBy_62 ?_
    exact xret_d (V := FP.dconst0) hF hret hlocks (rfl) dX4_northBy_63
  · refine lv_tableIn (off := 49) (tgt := 50) hx hb dX4_northBy_1 (by decide) (by decide) rfl (by decide) ?_
    refine lv_ldc2d hx hb hF.1.2.2.2.1 (hF.1.2.2.2.2 _ q_594) dX4_northBy_50 ?_
    exact xret_d (V := 4604544210138303771) hF hret hlocks (rfl) dX4_northBy_53
set_option maxHeartbeats 4000000 in
set_option maxRecDepth 100000 in
theorem c_X4_brings (l : Launch) (g : XG) (mo mn mp mq mt mm md zs zl zp zr : Nat) (zk : Bool) (w : Nat → Int32) (hW : WF w) (a b : Nat) (hab : a ≤ b) (hb : b ≤ nr w) (t : Nat) (ht : t ≤ 6) : Met l yX4_brings (ww yX4_brings cX4_brings 9 (some .double)) (rmD 6) (xP g [.ref mo, .int (nI a), .int (nI (b) - nI 1), .int (nI t)] (fun H => va_P g.1 vwCl (ModC g mo mn mp mq mt mm md zs zl zp zr zk w) H)) (vp_Sd (fun r9 => r9 = way w t a (b - a))) 0 0 (fun _ => False) := by
  refine xMet (by decide) rfl (Nat.le_of_ble_eq_true rfl) ?_
  intro p e s m below meth c ls hF hZ hh hret hlocks hin hl
  have hx := hF.1.1
  have hb := hF.1.2.1
  have hP := hh
  have hP : va_P g.1 vwCl (ModC g mo mn mp mq mt mm md zs zl zp zr zk w) s.heap := hP
  have hl : lv_has ls 9 [(0, .ref mo), (1, .int (nI a)), (2, .int (nI (b) - nI 1)), (3, .int (nI t))] := hl
  have h48 := hW.n48
  have hp4 := hW.pg4
  have hp12 := hW.pg12
  have hs1 := hW.st1
  have hw2 := hW.wr2
  have hw6 := hW.wr6
  refine lv_dconst0 hx hb dX4_brings_0 ?_
  refine lv_dstore (lv' := [(4, .double (FP.dconst0)), (0, .ref mo), (1, .int (nI a)), (2, .int (nI (b) - nI 1)), (3, .int (nI t))]) hx hb dX4_brings_1 hl (by decide) rfl (fun ls hl => ?_)
  refine lv_iload_n hx hb dX4_brings_3 rfl (lv_at hl 2 rfl) ?_
  refine lv_istore (lv' := [(6, .int (nI a)), (4, .double (FP.dconst0)), (0, .ref mo), (1, .int (nI a)), (2, .int (nI (b) - nI 1)), (3, .int (nI t))]) hx hb dX4_brings_4 hl (by decide) rfl (fun ls hl => ?_)
  refine xloop (goal := fun ls => W p l e _ s m _ below meth c s.heap [] _ _ _ (F0 m _ ls [])) (fun (z_ : UInt64 × Nat) (ls : Array Slot) => match z_ with | (z, i) => (a ≤ i) ∧ (i ≤ b) ∧ (z = way w t a (i - a)) ∧ lv_has ls 9 [(0, .ref mo), (1, .int (nI a)), (2, .int (nI (b) - nI 1)), (3, .int (nI t)), (4, .double (z)), (6, .int (nI i))]) (fun (z_ : UInt64 × Nat) => match z_ with | (z, i) => b - i) ?_ (FP.dconst0, a) ls ⟨Nat.le_refl _, by omega, by rw [Nat.sub_self]; rfl, lv_sub hl [2, 3, 4, 5, 1, 0] rfl⟩
  rintro ⟨z, i⟩ ls ⟨I0, I1, I2, hl⟩ ih
  refine lv_iload hx hb dX4_brings_6 (lv_at hl 5 rfl) ?_
  refine lv_iload_n hx hb dX4_brings_8 rfl (lv_at hl 2 rfl) ?_
  refine xE_gt (tgt := 69) hx hb (by omega) (by omega) dX4_brings_9 (by decide) (fun c_9 => ?_) (fun c_9 => ?_)
  · refine lv_dload hx hb dX4_brings_69 (lv_at hl 4 rfl) ?_
    exact xret_d (V := z) hF hret hlocks (by rw [I2, show i = b by omega]) dX4_brings_71
  · refine lv_aload_n hx hb dX4_brings_12 rfl (lv_at hl 0 rfl) ?_
    refine lv_iload hx hb dX4_brings_13 (lv_at hl 5 rfl) ?_
    refine xN_const hx hb 0 dX4_brings_15 (by decide) ?_
    refine vp_callSi (va_Run.run (xrV hF (c_X4_means l g mo mn mp mq mt mm md zs zl zp zr zk w hW i 0 (by omega) (by omega)) cal_X4_means q_286 ⟨by decide, by decide⟩ rfl rfl rfl (va_recv hF.2.1 hP (ci := 4) (q0 := 0) rfl rfl) hZ (hP) hl.1 rfl (Nat.le_of_ble_eq_true rfl) dX4_brings_16 ⟨Nat.le_refl _, Nat.le_refl _⟩)) (fun r_ h_ => ?_)
    subst h_
    refine lv_istore (lv' := [(7, .int (mean w i 0)), (0, .ref mo), (1, .int (nI a)), (2, .int (nI (b) - nI 1)), (3, .int (nI t)), (4, .double (z)), (6, .int (nI i))]) hx hb dX4_brings_19 hl (by decide) rfl (fun ls hl => ?_)
    refine lv_aload_n hx hb dX4_brings_21 rfl (lv_at hl 1 rfl) ?_
    refine lv_iload hx hb dX4_brings_22 (lv_at hl 6 rfl) ?_
    refine xN_const hx hb 1 dX4_brings_24 (by decide) ?_
    refine vp_callSi (va_Run.run (xrV hF (c_X4_means l g mo mn mp mq mt mm md zs zl zp zr zk w hW i 1 (by omega) (by omega)) cal_X4_means q_286 ⟨by decide, by decide⟩ rfl rfl rfl (va_recv hF.2.1 hP (ci := 4) (q0 := 0) rfl rfl) hZ (hP) hl.1 rfl (Nat.le_of_ble_eq_true rfl) dX4_brings_25 ⟨Nat.le_refl _, Nat.le_refl _⟩)) (fun r_ h_ => ?_)
    subst h_
    refine lv_istore (lv' := [(8, .int (mean w i 1)), (7, .int (mean w i 0)), (0, .ref mo), (1, .int (nI a)), (2, .int (nI (b) - nI 1)), (3, .int (nI t)), (4, .double (z)), (6, .int (nI i))]) hx hb dX4_brings_28 hl (by decide) rfl (fun ls hl => ?_)
    refine lv_iload hx hb dX4_brings_30 (lv_at hl 1 rfl) ?_
    refine lv_if_lt (tgt := 63) hx hb dX4_brings_32 (by decide) (fun c_32 => ?_) (fun c_32 => ?_)
    · refine xN_inc (lv' := [(6, .int (nI (i + 1))), (8, .int (mean w i 1)), (7, .int (mean w i 0)), (0, .ref mo), (1, .int (nI a)), (2, .int (nI (b) - nI 1)), (3, .int (nI t)), (4, .double (z))]) hx hb 1 dX4_brings_63 hl (k := 7) rfl (by decide) (by decide) rfl (fun ls hl => ?_)
      refine lv_goto (tgt := 6) hx hb dX4_brings_66 (by decide) ?_
      exact ih (z, i + 1) ls ⟨by omega, by omega, by rw [I2, way_s I0]; unfold stepW; rw [if_pos (Or.inl c_32)], lv_sub hl [3, 4, 5, 6, 7, 0] rfl⟩ (by dsimp only; omega)
    · refine lv_iload hx hb dX4_brings_35 (lv_at hl 0 rfl) ?_
      refine lv_if_lt (tgt := 63) hx hb dX4_brings_37 (by decide) (fun c_37 => ?_) (fun c_37 => ?_)
      · refine xN_inc (lv' := [(6, .int (nI (i + 1))), (8, .int (mean w i 1)), (7, .int (mean w i 0)), (0, .ref mo), (1, .int (nI a)), (2, .int (nI (b) - nI 1)), (3, .int (nI t)), (4, .double (z))]) hx hb 1 dX4_brings_63 hl (k := 7) rfl (by decide) (by decide) rfl (fun ls hl => ?_)
        refine lv_goto (tgt := 6) hx hb dX4_brings_66 (by decide) ?_
        exact ih (z, i + 1) ls ⟨by omega, by omega, by rw [I2, way_s I0]; unfold stepW; rw [if_pos (Or.inr c_37)], lv_sub hl [3, 4, 5, 6, 7, 0] rfl⟩ (by dsimp only; omega)
      · obtain ⟨u, hu, eu⟩ := mean_nn hW (c := 0) (by decide) (by omega) c_32
        obtain ⟨v, hv, ev⟩ := mean_nn hW (c := 1) (by decide) (by omega) c_37
        rw [eu, ev] at hl
        have hcu := cmN_le 0
        have hcv := cmN_le 1
        have hz : DB (199 * (i - a)) z := by rw [I2]; exact way_DB hW _ (by omega)
        refine lv_dload hx hb dX4_brings_40 (lv_at hl 6 rfl) ?_
        refine lv_iload hx hb dX4_brings_42 (lv_at hl 0 rfl) ?_
        refine lv_i2d hx hb dX4_brings_44 ?_
        refine lv_ldc2d hx hb hF.1.2.2.2.1 (hF.1.2.2.2.2 _ q_590) dX4_brings_45 ?_
        refine lv_ddiv hx hb dX4_brings_48 (((DB_int (v := v) (by omega)).div (by omega)).n64) ?_
        refine lv_iload hx hb dX4_brings_49 (lv_at hl 1 rfl) ?_
        refine lv_iload_n hx hb dX4_brings_51 rfl (lv_at hl 5 rfl) ?_
        refine xN_add hx hb dX4_brings_52 ?_
        refine xN_bi hx hb 8 dX4_brings_53 (by decide) ?_
        refine xN_rem hx hb (by omega) (by omega) (by omega) dX4_brings_55 ?_
        refine vp_callSd (va_Run.run (xrS hF (c_X4_northBy l g ((u + t) % 8) (Nat.mod_lt _ (by decide))) cal_X4_northBy q_591 ⟨by decide, by decide⟩ rfl rfl rfl hZ (trivial) hl.1 rfl (Nat.le_of_ble_eq_true rfl) dX4_brings_56 ⟨Nat.le_refl _, Nat.le_refl _⟩)) (fun r_ h_ => ?_)
        subst h_
        refine lv_dmul hx hb dX4_brings_59 ((((DB_int (v := v) (by omega)).div (by omega)).mul (wn_1 ((u + t) % 8) (Nat.mod_lt _ (by decide))) (by omega)).n64) ?_
        refine lv_dadd hx hb dX4_brings_60 ((hz.add (((DB_int (v := v) (by omega)).div (by omega)).mul (wn_1 ((u + t) % 8) (Nat.mod_lt _ (by decide))) (by omega)) (by omega)).n64) ?_
        refine lv_dstore (lv' := [(4, .double (FP.dadd (z) (FP.dmul (FP.ddiv (FP.i2d (nI (v))) (4621819117588971520)) (wn ((u + t) % 8))))), (8, .int (nI v)), (7, .int (nI u)), (0, .ref mo), (1, .int (nI a)), (2, .int (nI (b) - nI 1)), (3, .int (nI t)), (6, .int (nI i))]) hx hb dX4_brings_61 hl (by decide) rfl (fun ls hl => ?_)
        refine xN_inc (lv' := [(6, .int (nI (i + 1))), (4, .double (FP.dadd (z) (FP.dmul (FP.ddiv (FP.i2d (nI (v))) (4621819117588971520)) (wn ((u + t) % 8))))), (8, .int (nI v)), (7, .int (nI u)), (0, .ref mo), (1, .int (nI a)), (2, .int (nI (b) - nI 1)), (3, .int (nI t))]) hx hb 1 dX4_brings_63 hl (k := 7) rfl (by decide) (by decide) rfl (fun ls hl => ?_)
        refine lv_goto (tgt := 6) hx hb dX4_brings_66 (by decide) ?_
        exact ih (FP.dadd (z) (FP.dmul (FP.ddiv (FP.i2d (nI (v))) (4621819117588971520)) (wn ((u + t) % 8))), i + 1) ls ⟨by omega, by omega, by rw [I2, way_s I0]; unfold stepW; rw [if_neg (fun q => q.elim c_32 c_37), ev, eu, nI_clamp (by omega)]; rfl, lv_sub hl [4, 5, 6, 7, 1, 0] rfl⟩ (by dsimp only; omega)
set_option maxHeartbeats 4000000 in
set_option maxRecDepth 100000 in
theorem c_X4_north (l : Launch) (g : XG) (mo mn mp mq mt mm md zs zl zp zr : Nat) (zk : Bool) (w : Nat → Int32) (hW : WF w) (x y : Int32) : Met l yX4_north (ww yX4_north cX4_north 3 (some .double)) (rmD 7) (xP g [.ref mo, .int (x), .int (y)] (fun H => va_P g.1 vwCl (ModC g mo mn mp mq mt mm md zs zl zp zr zk w) H)) (vp_Sd (fun r9 => r9 = nthA w 0 x y)) 0 0 (fun _ => False) := by
  refine xMet (by decide) rfl (Nat.le_of_ble_eq_true rfl) ?_
  intro p e s m below meth c ls hF hZ hh hret hlocks hin hl
  have hx := hF.1.1
  have hb := hF.1.2.1
  have hP := hh
  have hP : va_P g.1 vwCl (ModC g mo mn mp mq mt mm md zs zl zp zr zk w) s.heap := hP
  have hl : lv_has ls 3 [(0, .ref mo), (1, .int (x)), (2, .int (y))] := hl
  have h48 := hW.n48
  have hp4 := hW.pg4
  have hp12 := hW.pg12
  have hs1 := hW.st1
  have hw2 := hW.wr2
  have hw6 := hW.wr6
  refine lv_aload_n hx hb dX4_north_0 rfl (lv_at hl 0 rfl) ?_
  refine lv_iload_n hx hb dX4_north_1 rfl (lv_at hl 1 rfl) ?_
  refine lv_iload_n hx hb dX4_north_2 rfl (lv_at hl 2 rfl) ?_
  refine vp_callSi (va_Run.run (xrV hF (c_X4_mayGo l g mo mn mp mq mt mm md zs zl zp zr zk w hW ((x)) ((y)) ) cal_X4_mayGo q_560 ⟨by decide, by decide⟩ rfl rfl rfl (va_recv hF.2.1 hP (ci := 4) (q0 := 0) rfl rfl) hZ (hP) hl.1 rfl (Nat.le_of_ble_eq_true rfl) dX4_north_3 ⟨Nat.le_refl _, Nat.le_refl _⟩)) (fun r_ h_ => ?_)
  subst h_
  refine lv_if_ge (tgt := 15) hx hb dX4_north_6 (by decide) (fun c_6 => ?_) (fun c_6 => ?_)
  · have hrw : rwB w x y = true := (by cases h9 : rwB w x y with | true => rfl | false => exact absurd (mg_rw.mpr h9) (Int32.not_lt.mpr c_6))
    obtain ⟨a, b, rfl, rfl, hab9, hb9⟩ := rwB_of hW hrw
    have ea : (nI a).toNatClampNeg = a := nI_clamp (by omega)
    have eb : (nI b).toNatClampNeg = b := nI_clamp (by omega)
    refine lv_aload_n hx hb dX4_north_15 rfl (lv_at hl 0 rfl) ?_
    refine lv_iload_n hx hb dX4_north_16 rfl (lv_at hl 1 rfl) ?_
    refine lv_iload_n hx hb dX4_north_17 rfl (lv_at hl 2 rfl) ?_
    refine xN_const hx hb 0 dX4_north_18 (by decide) ?_
    refine W.eq (g2 := F0 m 19 ls [.int (nI 0), .int (nI (b + 1) - nI 1), .int (nI a), .ref mo]) (by rw [xE_pred]) ?_
    refine vp_callSd (va_Run.run (xrV hF (c_X4_brings l g mo mn mp mq mt mm md zs zl zp zr zk w hW a (b + 1) (by omega) (by omega) 0 (by omega)) cal_X4_brings q_586 ⟨by decide, by decide⟩ rfl rfl rfl (va_recv hF.2.1 hP (ci := 4) (q0 := 0) rfl rfl) hZ (hP) hl.1 rfl (Nat.le_of_ble_eq_true rfl) dX4_north_19 ⟨Nat.le_refl _, Nat.le_refl _⟩)) (fun r_ h_ => ?_)
    subst h_
    exact xret_d (V := way w 0 a ((b + 1) - a)) hF hret hlocks (by unfold nthA; rw [if_pos hrw, ea, eb]) dX4_north_22
  · refine lv_ldc2d hx hb hF.1.2.2.2.1 (hF.1.2.2.2.2 _ q_585) dX4_north_9 ?_
    refine lv_goto (tgt := 22) hx hb dX4_north_12 (by decide) ?_
    exact xret_d (V := 13890094659566305280) hF hret hlocks (by unfold nthA; rw [mg_rw.mp (Int32.not_le.mp c_6)]; rfl) dX4_north_22
set_option maxHeartbeats 4000000 in
set_option maxRecDepth 100000 in
theorem c_X4_east (l : Launch) (g : XG) (mo mn mp mq mt mm md zs zl zp zr : Nat) (zk : Bool) (w : Nat → Int32) (hW : WF w) (x y : Int32) : Met l yX4_east (ww yX4_east cX4_east 3 (some .double)) (rmD 7) (xP g [.ref mo, .int (x), .int (y)] (fun H => va_P g.1 vwCl (ModC g mo mn mp mq mt mm md zs zl zp zr zk w) H)) (vp_Sd (fun r9 => r9 = nthA w 6 x y)) 0 0 (fun _ => False) := by
  refine xMet (by decide) rfl (Nat.le_of_ble_eq_true rfl) ?_
  intro p e s m below meth c ls hF hZ hh hret hlocks hin hl
  have hx := hF.1.1
  have hb := hF.1.2.1
  have hP := hh
  have hP : va_P g.1 vwCl (ModC g mo mn mp mq mt mm md zs zl zp zr zk w) s.heap := hP
  have hl : lv_has ls 3 [(0, .ref mo), (1, .int (x)), (2, .int (y))] := hl
  have h48 := hW.n48
  have hp4 := hW.pg4
  have hp12 := hW.pg12
  have hs1 := hW.st1
  have hw2 := hW.wr2
  have hw6 := hW.wr6
  refine lv_aload_n hx hb dX4_east_0 rfl (lv_at hl 0 rfl) ?_
  refine lv_iload_n hx hb dX4_east_1 rfl (lv_at hl 1 rfl) ?_
  refine lv_iload_n hx hb dX4_east_2 rfl (lv_at hl 2 rfl) ?_
  refine vp_callSi (va_Run.run (xrV hF (c_X4_mayGo l g mo mn mp mq mt mm md zs zl zp zr zk w hW ((x)) ((y)) ) cal_X4_mayGo q_560 ⟨by decide, by decide⟩ rfl rfl rfl (va_recv hF.2.1 hP (ci := 4) (q0 := 0) rfl rfl) hZ (hP) hl.1 rfl (Nat.le_of_ble_eq_true rfl) dX4_east_3 ⟨Nat.le_refl _, Nat.le_refl _⟩)) (fun r_ h_ => ?_)
  subst h_
  refine lv_if_ge (tgt := 15) hx hb dX4_east_6 (by decide) (fun c_6 => ?_) (fun c_6 => ?_)
  · have hrw : rwB w x y = true := (by cases h9 : rwB w x y with | true => rfl | false => exact absurd (mg_rw.mpr h9) (Int32.not_lt.mpr c_6))
    obtain ⟨a, b, rfl, rfl, hab9, hb9⟩ := rwB_of hW hrw
    have ea : (nI a).toNatClampNeg = a := nI_clamp (by omega)
    have eb : (nI b).toNatClampNeg = b := nI_clamp (by omega)
    refine lv_aload_n hx hb dX4_east_15 rfl (lv_at hl 0 rfl) ?_
    refine lv_iload_n hx hb dX4_east_16 rfl (lv_at hl 1 rfl) ?_
    refine lv_iload_n hx hb dX4_east_17 rfl (lv_at hl 2 rfl) ?_
    refine xN_bi hx hb 6 dX4_east_18 (by decide) ?_
    refine W.eq (g2 := F0 m 20 ls [.int (nI 6), .int (nI (b + 1) - nI 1), .int (nI a), .ref mo]) (by rw [xE_pred]) ?_
    refine vp_callSd (va_Run.run (xrV hF (c_X4_brings l g mo mn mp mq mt mm md zs zl zp zr zk w hW a (b + 1) (by omega) (by omega) 6 (by omega)) cal_X4_brings q_586 ⟨by decide, by decide⟩ rfl rfl rfl (va_recv hF.2.1 hP (ci := 4) (q0 := 0) rfl rfl) hZ (hP) hl.1 rfl (Nat.le_of_ble_eq_true rfl) dX4_east_20 ⟨Nat.le_refl _, Nat.le_refl _⟩)) (fun r_ h_ => ?_)
    subst h_
    exact xret_d (V := way w 6 a ((b + 1) - a)) hF hret hlocks (by unfold nthA; rw [if_pos hrw, ea, eb]) dX4_east_23
  · refine lv_ldc2d hx hb hF.1.2.2.2.1 (hF.1.2.2.2.2 _ q_585) dX4_east_9 ?_
    refine lv_goto (tgt := 23) hx hb dX4_east_12 (by decide) ?_
    exact xret_d (V := 13890094659566305280) hF hret hlocks (by unfold nthA; rw [mg_rw.mp (Int32.not_le.mp c_6)]; rfl) dX4_east_23
