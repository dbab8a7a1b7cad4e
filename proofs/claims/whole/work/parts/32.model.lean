/-! the reference: its methods that change cells -/
set_option maxHeartbeats 4000000 in
set_option maxRecDepth 100000 in
theorem c_X4_others (l : Launch) (g : XG) (mo mn mp mq mt mm md zs zl zp zr : Nat) (zk : Bool) (w me : Nat → Int32) (hW : WF w) (k : Nat) (hk : k < 4) : Met l yX4_others (ww yX4_others cX4_others 4 (some .int)) (rmD 6) (xP g [.ref mo, .int (nI k)] (fun H => va_P g.1 vwCl [ModO mo mn mp mq mt mm md zs zl zp zr zk, (mn, .inl (g.2.1 0, 988, .inl w)), (mm, .inl (g.2.1 0, 48, .inl me))] H)) (vp_Si (fun r9 => r9 = nI (ctR (fun i9 => !(mean w i9 k == me i9)) 0 (nr w)))) 0 0 (fun _ => False) := by
  refine xMet (by decide) rfl (Nat.le_of_ble_eq_true rfl) ?_
  intro p e s m below meth c ls hF hZ hh hret hlocks hin hl
  have hx := hF.1.1
  have hb := hF.1.2.1
  have hP := hh
  have hP : va_P g.1 vwCl [ModO mo mn mp mq mt mm md zs zl zp zr zk, (mn, .inl (g.2.1 0, 988, .inl w)), (mm, .inl (g.2.1 0, 48, .inl me))] s.heap := hP
  have hl : lv_has ls 4 [(0, .ref mo), (1, .int (nI k))] := hl
  have h48 := hW.n48
  have hp4 := hW.pg4
  have hp12 := hW.pg12
  have hs1 := hW.st1
  have hw2 := hW.wr2
  have hw6 := hW.wr6
  refine xN_const hx hb 0 dX4_others_0 (by decide) ?_
  refine lv_istore_n (lv' := [(2, .int (nI 0)), (0, .ref mo), (1, .int (nI k))]) hx hb dX4_others_1 rfl hl (by decide) rfl (fun ls hl => ?_)
  refine xN_const hx hb 0 dX4_others_2 (by decide) ?_
  refine lv_istore_n (lv' := [(3, .int (nI 0)), (2, .int (nI 0)), (0, .ref mo), (1, .int (nI k))]) hx hb dX4_others_3 rfl hl (by decide) rfl (fun ls hl => ?_)
  refine xloop (goal := fun ls => W p l e _ s m _ below meth c s.heap [] _ _ _ (F0 m _ ls [])) (fun (z_ : Nat × Nat) (ls : Array Slot) => match z_ with | (f, i) => (i ≤ nr w) ∧ (f = ctR (fun i9 => !(mean w i9 k == me i9)) 0 (i - 0)) ∧ lv_has ls 4 [(0, .ref mo), (1, .int (nI k)), (2, .int (nI f)), (3, .int (nI i))]) (fun (z_ : Nat × Nat) => match z_ with | (f, i) => nr w - i) ?_ (0, 0) ls ⟨Nat.zero_le _, rfl, lv_sub hl [2, 3, 1, 0] rfl⟩
  rintro ⟨f, i⟩ ls ⟨I1, I2, hl⟩ ih
  have hf := ctR_le (fun i9 => !(mean w i9 k == me i9)) 0 (i - 0)
  refine lv_iload_n hx hb dX4_others_4 rfl (lv_at hl 3 rfl) ?_
  refine lv_aload_n hx hb dX4_others_5 rfl (lv_at hl 0 rfl) ?_
  refine gf_X4_X4_now hF hP 0 rfl rfl dX4_others_6 ?_
  refine xN_const hx hb 0 dX4_others_9 (by decide) ?_
  refine xA_ild hF hP 1 rfl (by omega) (by decide) (v := nI (nr w)) (hW.r0) dX4_others_10 ?_
  refine xC_ge (tgt := 43) hx hb (by omega) (by omega) dX4_others_11 (by decide) (fun c_11 => ?_) (fun c_11 => ?_)
  · refine lv_iload_n hx hb dX4_others_43 rfl (lv_at hl 2 rfl) ?_
    exact xret_i (V := nI (f)) hF hret hlocks (by rw [I2, show i = nr w by omega]; rfl) dX4_others_44
  · refine lv_iload_n hx hb dX4_others_14 rfl (lv_at hl 2 rfl) ?_
    refine lv_aload_n hx hb dX4_others_15 rfl (lv_at hl 0 rfl) ?_
    refine lv_iload_n hx hb dX4_others_16 rfl (lv_at hl 3 rfl) ?_
    refine lv_iload_n hx hb dX4_others_17 rfl (lv_at hl 1 rfl) ?_
    refine vp_callSi (va_Run.run (xrV hF (c_X4_means l g mo mn mp mq mt mm md zs zl zp zr zk w hW i k (by omega) (by omega)) cal_X4_means q_286 ⟨by decide, by decide⟩ rfl rfl rfl (va_recv hF.2.1 hP (ci := 4) (q0 := 0) rfl rfl) hZ (hP.sub [0, 1] rfl) hl.1 rfl (Nat.le_of_ble_eq_true rfl) dX4_others_18 ⟨Nat.le_refl _, Nat.le_refl _⟩)) (fun r_ h_ => ?_)
    subst h_
    refine lv_aload_n hx hb dX4_others_21 rfl (lv_at hl 0 rfl) ?_
    refine gf_X4_X4_meant hF hP 0 rfl rfl dX4_others_22 ?_
    refine lv_iload_n hx hb dX4_others_25 rfl (lv_at hl 3 rfl) ?_
    refine xA_ild hF hP 2 rfl (by omega) (by decide) (v := (me (i))) rfl dX4_others_26 ?_
    refine lv_icmp_ne (tgt := 34) hx hb dX4_others_27 (by decide) (fun c_27 => ?_) (fun c_27 => ?_)
    · refine xN_const hx hb 1 dX4_others_34 (by decide) ?_
      refine xN_add hx hb dX4_others_35 ?_
      refine lv_istore_n (lv' := [(2, .int (nI (f + 1))), (0, .ref mo), (1, .int (nI k)), (3, .int (nI i))]) hx hb dX4_others_36 rfl hl (by decide) rfl (fun ls hl => ?_)
      refine xN_inc (lv' := [(3, .int (nI (i + 1))), (2, .int (nI (f + 1))), (0, .ref mo), (1, .int (nI k))]) hx hb 1 dX4_others_37 hl (k := 3) rfl (by decide) (by decide) rfl (fun ls hl => ?_)
      refine lv_goto (tgt := 4) hx hb dX4_others_40 (by decide) ?_
      exact ih (f + 1, i + 1) ls ⟨by omega, by rw [I2, ctR_t (p := fun i9 => !(mean w i9 k == me i9)) (Nat.zero_le _) (by rw [beq_eq_false_iff_ne.mpr c_27]; rfl)], lv_sub hl [2, 3, 1, 0] rfl⟩ (by dsimp only; omega)
    · refine xN_const hx hb 0 dX4_others_30 (by decide) ?_
      refine lv_goto (tgt := 35) hx hb dX4_others_31 (by decide) ?_
      refine xN_add hx hb dX4_others_35 ?_
      refine lv_istore_n (lv' := [(2, .int (nI (f + 0))), (0, .ref mo), (1, .int (nI k)), (3, .int (nI i))]) hx hb dX4_others_36 rfl hl (by decide) rfl (fun ls hl => ?_)
      refine xN_inc (lv' := [(3, .int (nI (i + 1))), (2, .int (nI (f + 0))), (0, .ref mo), (1, .int (nI k))]) hx hb 1 dX4_others_37 hl (k := 3) rfl (by decide) (by decide) rfl (fun ls hl => ?_)
      refine lv_goto (tgt := 4) hx hb dX4_others_40 (by decide) ?_
      exact ih (f + 0, i + 1) ls ⟨by omega, by rw [I2, ctR_f (p := fun i9 => !(mean w i9 k == me i9)) (Nat.zero_le _) (by rw [c_27, beq_self_eq_true]; rfl)]; rfl, lv_sub hl [2, 3, 1, 0] rfl⟩ (by dsimp only; omega)
set_option maxHeartbeats 4000000 in
set_option maxRecDepth 100000 in
theorem c_X4_lays (l : Launch) (g : XG) (a b na nb : Nat) (f h : Nat → Int32) (s9 t9 : Nat) {A : Nat → Prop} (hD0 : va_D A [(a, .inl (g.2.1 0, na, .inl (f))), (b, .inl (g.2.1 0, nb, .inl (h)))]) (hna : na < 2147483648) (hnb : nb < 2147483648) (hs9 : s9 + 988 ≤ na) (ht9 : t9 + 988 ≤ nb) : Met l yX4_lays (ww yX4_lays cX4_lays 5 none) (rmD 0) (xP g [.ref a, .int (nI s9), .ref b, .int (nI t9)] (fun H => va_P g.1 vwCl [(a, .inl (g.2.1 0, na, .inl (f))), (b, .inl (g.2.1 0, nb, .inl (h)))] H)) (xQv (fun H => va_P g.1 vwCl [(a, .inl (g.2.1 0, na, .inl (f))), (b, .inl (g.2.1 0, nb, .inl (va_cpy f h s9 t9 988)))] H) (xin [a, b])) 0 0 (xin [a, b]) := by
  refine xMetM (by decide) rfl (Nat.le_of_ble_eq_true rfl) ?_
  intro p e s m below meth c ls H locs hF hZ hh hS hret hlocks hin hl
  have hx := hF.1.1
  have hb := hF.1.2.1
  have hP := hh
  have hP : va_P g.1 vwCl [(a, .inl (g.2.1 0, na, .inl (f))), (b, .inl (g.2.1 0, nb, .inl (h)))] H := hP
  have hl : lv_has ls 5 [(0, .ref a), (1, .int (nI s9)), (2, .ref b), (3, .int (nI t9))] := hl
  have hD : va_D (xin [a, b]) [(a, .inl (g.2.1 0, na, .inl (f))), (b, .inl (g.2.1 0, nb, .inl (h)))] := hD0.weaken (fun k q hk _ => by match k, hk with | 0, hk => cases hk; exact List.mem_cons_self | 1, hk => cases hk; exact List.mem_cons_of_mem _ List.mem_cons_self | k + 2, hk => simp at hk)
  refine xN_const hx hb 0 dX4_lays_0 (by decide) ?_
  refine lv_istore (lv' := [(4, .int (nI 0)), (0, .ref a), (1, .int (nI s9)), (2, .ref b), (3, .int (nI t9))]) hx hb dX4_lays_1 hl (by decide) rfl (fun ls hl => ?_)
  refine xloopM (goal := fun ls H locs => W p l e _ s m _ below meth c H locs _ _ _ (F0 m _ ls [])) (fun (z_ : Nat × (Nat → Int32)) (ls : Array Slot) (H : Heap) (locs : List Loc) => match z_ with | (i, h2) => (i ≤ 988) ∧ (h2 = va_cpy f h s9 t9 i) ∧ va_P g.1 vwCl [(a, .inl (g.2.1 0, na, .inl (f))), (b, .inl (g.2.1 0, nb, .inl (h2)))] H ∧ va_S (xin [a, b]) s.heap H locs ∧ lv_has ls 5 [(0, .ref a), (1, .int (nI s9)), (2, .ref b), (3, .int (nI t9)), (4, .int (nI i))]) (fun (z_ : Nat × (Nat → Int32)) => match z_ with | (i, h2) => 988 - i) ?_ (0, h) ls H locs ⟨Nat.zero_le _, xcpy_0.symm, hP, hS, lv_sub hl [1, 2, 3, 4, 0] rfl⟩
  rintro ⟨i, h2⟩ ls H locs ⟨I1, I2, hP, hS, hl⟩ ih
  dsimp only at ih
  have hD : va_D (xin [a, b]) [(a, .inl (g.2.1 0, na, .inl (f))), (b, .inl (g.2.1 0, nb, .inl (h2)))] := va_D_eq (by rfl) hD
  refine lv_iload hx hb dX4_lays_3 (lv_at hl 4 rfl) ?_
  refine xN_si hx hb 988 dX4_lays_5 (by decide) ?_
  refine xC_ge (tgt := 29) hx hb (by omega) (by omega) dX4_lays_8 (by decide) (fun c_8 => ?_) (fun c_8 => ?_)
  · exact xend_v hF hret hlocks hS (by have e : h2 = va_cpy f h s9 t9 988 := by { rw [I2, show i = 988 by omega] }; rw [← e]; exact hP) dX4_lays_29
  · refine lv_aload_n hx hb dX4_lays_11 rfl (lv_at hl 2 rfl) ?_
    refine lv_iload_n hx hb dX4_lays_12 rfl (lv_at hl 3 rfl) ?_
    refine lv_iload hx hb dX4_lays_13 (lv_at hl 4 rfl) ?_
    refine xN_add hx hb dX4_lays_15 ?_
    refine lv_aload_n hx hb dX4_lays_16 rfl (lv_at hl 0 rfl) ?_
    refine lv_iload_n hx hb dX4_lays_17 rfl (lv_at hl 1 rfl) ?_
    refine lv_iload hx hb dX4_lays_18 (lv_at hl 4 rfl) ?_
    refine xN_add hx hb dX4_lays_20 ?_
    refine xA_ild hF hP 0 rfl (by omega) hna (v := (f (s9 + i))) rfl dX4_lays_21 ?_
    refine xA_ist hF hP hD hS 1 rfl (by omega) hnb dX4_lays_22 (fun H locs hP hS => ?_)
    have hP : va_P g.1 vwCl [(a, .inl (g.2.1 0, na, .inl (f))), (b, .inl (g.2.1 0, nb, .inl (upd (h2) (t9 + i) ((f (s9 + i))))))] H := hP
    have hD : va_D (xin [a, b]) [(a, .inl (g.2.1 0, na, .inl (f))), (b, .inl (g.2.1 0, nb, .inl (upd (h2) (t9 + i) ((f (s9 + i))))))] := (va_D_eq (by rfl) hD)
    refine xN_inc (lv' := [(4, .int (nI (i + 1))), (0, .ref a), (1, .int (nI s9)), (2, .ref b), (3, .int (nI t9))]) hx hb 1 dX4_lays_23 hl (k := 4) rfl (by decide) (by decide) rfl (fun ls hl => ?_)
    refine lv_goto (tgt := 3) hx hb dX4_lays_26 (by decide) ?_
    exact ih (i + 1, upd h2 (t9 + i) (f (s9 + i))) ls H locs ⟨by omega, by rw [I2]; exact xcpy_step, hP, hS, lv_sub hl [1, 2, 3, 4, 0] rfl⟩ (by dsimp only; omega)
set_option maxHeartbeats 4000000 in
set_option maxRecDepth 100000 in
theorem c_X4_records (l : Launch) (g : XG) (mo mn mp mq mt mm md zs zl zp zr : Nat) (zk : Bool) (w pa sn tx me td : Nat → Int32) (hD : va_D (MF mo mn mp mq mt mm md) (ModW g mo mn mp mq mt mm md zs zl zp zr zk w pa sn tx me td)) (hAB : ∀ q, MF mo mn mp mq mt mm md q → xB g q) (hz4 : zs ≤ 4)  : Met l yX4_records (ww yX4_records cX4_records 2 none) (rmD 1) (xP g [.ref mo] (fun H => va_P g.1 vwCl (ModW g mo mn mp mq mt mm md zs zl zp zr zk w pa sn tx me td) H)) (xQv (fun H => va_P g.1 vwCl (ModW g mo mn mp mq mt mm md (recS zs + 1) (zl) (zp) (zr) (zk) (w) (recP w pa zs) (sn) (tx) (me) (td)) H) (MF mo mn mp mq mt mm md)) 0 0 (MF mo mn mp mq mt mm md) := by
  refine xMetM (by decide) rfl (Nat.le_of_ble_eq_true rfl) ?_
  intro p e s m below meth c ls H locs hF hZ hh hS hret hlocks hin hl
  have hx := hF.1.1
  have hb := hF.1.2.1
  have hP := hh
  have hP : va_P g.1 vwCl (ModW g mo mn mp mq mt mm md zs zl zp zr zk w pa sn tx me td) H := hP
  have hl : lv_has ls 2 [(0, .ref mo)] := hl
  refine lv_aload_n hx hb dX4_records_0 rfl (lv_at hl 0 rfl) ?_
  refine gf_X4_X4_states hF hP 0 rfl rfl dX4_records_1 ?_
  refine xN_const hx hb 4 dX4_records_4 (by decide) ?_
  refine xC_ne (tgt := 49) hx hb (by omega) (by omega) dX4_records_5 (by decide) (fun c_5 => ?_) (fun c_5 => ?_)
  · refine lv_aload_n hx hb dX4_records_49 rfl (lv_at hl 0 rfl) ?_
    refine gf_X4_X4_now hF hP 0 rfl rfl dX4_records_50 ?_
    refine xN_const hx hb 0 dX4_records_53 (by decide) ?_
    refine lv_aload_n hx hb dX4_records_54 rfl (lv_at hl 0 rfl) ?_
    refine gf_X4_X4_past hF hP 0 rfl rfl dX4_records_55 ?_
    refine xN_si hx hb 988 dX4_records_58 (by decide) ?_
    refine lv_aload_n hx hb dX4_records_61 rfl (lv_at hl 0 rfl) ?_
    refine gf_X4_X4_states hF hP 0 rfl rfl dX4_records_62 ?_
    refine xN_mul hx hb dX4_records_65 ?_
    refine xcv (xrS hF (c_X4_lays l g mn mp 988 3952 w pa 0 (988 * zs) (hD.sub [1, 2] (by decide) rfl) (by decide) (by decide) (by omega) (by omega)) cal_X4_lays q_127 ⟨by decide, by decide⟩ rfl rfl rfl (hZ.at hS hAB) (hP.sub [1, 2] rfl) hl.1 rfl (Nat.le_of_ble_eq_true rfl) dX4_records_66 ⟨Nat.le_refl _, Nat.le_refl _⟩) hS (xin_sub [1, 2] rfl) (xin_sub [1, 2] rfl) (fun H locs hq_ hz_ hk_ hS => ?_)
    have hw_ := hq_
    have hP : va_P g.1 vwCl [(mo, .inr (4, [.ref mn, .ref mp, .int (nI zs), .ref mq, .int (xz (zk)), .ref mt, .int (nI zl), .ref mm, .int (nI zp), .ref md, .int (nI zr)])), (mn, .inl (g.2.1 0, 988, .inl (w))), (mp, .inl (g.2.1 0, 3952, .inl (va_cpy w pa 0 (988 * zs) 988))), (mq, .inl (g.2.1 0, 988, .inl (sn))), (mt, .inl (g.2.1 1, 60, .inl (tx))), (mm, .inl (g.2.1 0, 48, .inl (me))), (md, .inl (g.2.1 0, 40, .inl (td)))] H := xjoin hP hD hw_ hk_ [1, 2] [(false, 0), (true, 0), (true, 1), (false, 3), (false, 4), (false, 5), (false, 6)] rfl rfl rfl
    have hD : va_D (MF mo mn mp mq mt mm md) [(mo, .inr (4, [.ref mn, .ref mp, .int (nI zs), .ref mq, .int (xz (zk)), .ref mt, .int (nI zl), .ref mm, .int (nI zp), .ref md, .int (nI zr)])), (mn, .inl (g.2.1 0, 988, .inl (w))), (mp, .inl (g.2.1 0, 3952, .inl (va_cpy w pa 0 (988 * zs) 988))), (mq, .inl (g.2.1 0, 988, .inl (sn))), (mt, .inl (g.2.1 1, 60, .inl (tx))), (mm, .inl (g.2.1 0, 48, .inl (me))), (md, .inl (g.2.1 0, 40, .inl (td)))] := va_D_eq (by rfl) hD
    refine lv_aload_n hx hb dX4_records_69 rfl (lv_at hl 0 rfl) ?_
    refine lv_dup hx hb dX4_records_70 rfl ?_
    refine gf_X4_X4_states hF hP 0 rfl rfl dX4_records_71 ?_
    refine xN_const hx hb 1 dX4_records_74 (by decide) ?_
    refine xN_add hx hb dX4_records_75 ?_
    refine pf_X4_X4_states hF hP hD hS 0 rfl (Nat.le_of_ble_eq_true rfl) dX4_records_76 (fun H locs hP hS => ?_)
    have hP : va_P g.1 vwCl [(mo, .inr (4, [.ref mn, .ref mp, .int (nI (zs + 1)), .ref mq, .int (xz (zk)), .ref mt, .int (nI zl), .ref mm, .int (nI zp), .ref md, .int (nI zr)])), (mn, .inl (g.2.1 0, 988, .inl (w))), (mp, .inl (g.2.1 0, 3952, .inl (va_cpy w pa 0 (988 * zs) 988))), (mq, .inl (g.2.1 0, 988, .inl (sn))), (mt, .inl (g.2.1 1, 60, .inl (tx))), (mm, .inl (g.2.1 0, 48, .inl (me))), (md, .inl (g.2.1 0, 40, .inl (td)))] H := hP
    have hD : va_D (MF mo mn mp mq mt mm md) [(mo, .inr (4, [.ref mn, .ref mp, .int (nI (zs + 1)), .ref mq, .int (xz (zk)), .ref mt, .int (nI zl), .ref mm, .int (nI zp), .ref md, .int (nI zr)])), (mn, .inl (g.2.1 0, 988, .inl (w))), (mp, .inl (g.2.1 0, 3952, .inl (va_cpy w pa 0 (988 * zs) 988))), (mq, .inl (g.2.1 0, 988, .inl (sn))), (mt, .inl (g.2.1 1, 60, .inl (tx))), (mm, .inl (g.2.1 0, 48, .inl (me))), (md, .inl (g.2.1 0, 40, .inl (td)))] := (va_D_eq (by rfl) hD)
    exact xend_v hF hret hlocks hS (by unfold recP recS; rw [if_neg c_5, if_neg c_5]; exact hP) dX4_records_79
  · refine xN_const hx hb 0 dX4_records_8 (by decide) ?_
    refine lv_istore_n (lv' := [(1, .int (nI 0)), (0, .ref mo)]) hx hb dX4_records_9 rfl hl (by decide) rfl (fun ls hl => ?_)
    refine xloopM (goal := fun ls H locs => W p l e _ s m _ below meth c H locs _ _ _ (F0 m _ ls [])) (fun (z_ : Nat × (Nat → Int32)) (ls : Array Slot) (H : Heap) (locs : List Loc) => match z_ with | (i, p2) => (i ≤ 2964) ∧ (p2 = xdown pa 988 i) ∧ va_P g.1 vwCl [(mo, .inr (4, [.ref mn, .ref mp, .int (nI zs), .ref mq, .int (xz (zk)), .ref mt, .int (nI zl), .ref mm, .int (nI zp), .ref md, .int (nI zr)])), (mn, .inl (g.2.1 0, 988, .inl (w))), (mp, .inl (g.2.1 0, 3952, .inl (p2))), (mq, .inl (g.2.1 0, 988, .inl (sn))), (mt, .inl (g.2.1 1, 60, .inl (tx))), (mm, .inl (g.2.1 0, 48, .inl (me))), (md, .inl (g.2.1 0, 40, .inl (td)))] H ∧ va_S (MF mo mn mp mq mt mm md) s.heap H locs ∧ lv_has ls 2 [(0, .ref mo), (1, .int (nI i))]) (fun (z_ : Nat × (Nat → Int32)) => match z_ with | (i, p2) => 2964 - i) ?_ (0, pa) ls H locs ⟨Nat.zero_le _, (xdown_0 _ _).symm, hP, hS, lv_sub hl [1, 0] rfl⟩
    rintro ⟨i, p2⟩ ls H locs ⟨I1, I2, hP, hS, hl⟩ ih
    dsimp only at ih
    have hD : va_D (MF mo mn mp mq mt mm md) [(mo, .inr (4, [.ref mn, .ref mp, .int (nI zs), .ref mq, .int (xz (zk)), .ref mt, .int (nI zl), .ref mm, .int (nI zp), .ref md, .int (nI zr)])), (mn, .inl (g.2.1 0, 988, .inl (w))), (mp, .inl (g.2.1 0, 3952, .inl (p2))), (mq, .inl (g.2.1 0, 988, .inl (sn))), (mt, .inl (g.2.1 1, 60, .inl (tx))), (mm, .inl (g.2.1 0, 48, .inl (me))), (md, .inl (g.2.1 0, 40, .inl (td)))] := va_D_eq (by rfl) hD
    refine lv_iload_n hx hb dX4_records_10 rfl (lv_at hl 1 rfl) ?_
    refine xN_si hx hb 2964 dX4_records_11 (by decide) ?_
    refine xC_ge (tgt := 39) hx hb (by omega) (by omega) dX4_records_14 (by decide) (fun c_14 => ?_) (fun c_14 => ?_)
    · refine lv_aload_n hx hb dX4_records_39 rfl (lv_at hl 0 rfl) ?_
      refine lv_dup hx hb dX4_records_40 rfl ?_
      refine gf_X4_X4_states hF hP 0 rfl rfl dX4_records_41 ?_
      refine xN_const hx hb 1 dX4_records_44 (by decide) ?_
      refine xN_sub hx hb (by omega) dX4_records_45 ?_
      refine pf_X4_X4_states hF hP hD hS 0 rfl (Nat.le_of_ble_eq_true rfl) dX4_records_46 (fun H locs hP hS => ?_)
      have hP : va_P g.1 vwCl [(mo, .inr (4, [.ref mn, .ref mp, .int (nI (zs - 1)), .ref mq, .int (xz (zk)), .ref mt, .int (nI zl), .ref mm, .int (nI zp), .ref md, .int (nI zr)])), (mn, .inl (g.2.1 0, 988, .inl (w))), (mp, .inl (g.2.1 0, 3952, .inl (p2))), (mq, .inl (g.2.1 0, 988, .inl (sn))), (mt, .inl (g.2.1 1, 60, .inl (tx))), (mm, .inl (g.2.1 0, 48, .inl (me))), (md, .inl (g.2.1 0, 40, .inl (td)))] H := hP
      have hD : va_D (MF mo mn mp mq mt mm md) [(mo, .inr (4, [.ref mn, .ref mp, .int (nI (zs - 1)), .ref mq, .int (xz (zk)), .ref mt, .int (nI zl), .ref mm, .int (nI zp), .ref md, .int (nI zr)])), (mn, .inl (g.2.1 0, 988, .inl (w))), (mp, .inl (g.2.1 0, 3952, .inl (p2))), (mq, .inl (g.2.1 0, 988, .inl (sn))), (mt, .inl (g.2.1 1, 60, .inl (tx))), (mm, .inl (g.2.1 0, 48, .inl (me))), (md, .inl (g.2.1 0, 40, .inl (td)))] := (va_D_eq (by rfl) hD)
      refine lv_aload_n hx hb dX4_records_49 rfl (lv_at hl 0 rfl) ?_
      refine gf_X4_X4_now hF hP 0 rfl rfl dX4_records_50 ?_
      refine xN_const hx hb 0 dX4_records_53 (by decide) ?_
      refine lv_aload_n hx hb dX4_records_54 rfl (lv_at hl 0 rfl) ?_
      refine gf_X4_X4_past hF hP 0 rfl rfl dX4_records_55 ?_
      refine xN_si hx hb 988 dX4_records_58 (by decide) ?_
      refine lv_aload_n hx hb dX4_records_61 rfl (lv_at hl 0 rfl) ?_
      refine gf_X4_X4_states hF hP 0 rfl rfl dX4_records_62 ?_
      refine xN_mul hx hb dX4_records_65 ?_
      refine xcv (xrS hF (c_X4_lays l g mn mp 988 3952 w p2 0 (988 * (zs - 1)) (hD.sub [1, 2] (by decide) rfl) (by decide) (by decide) (by omega) (by omega)) cal_X4_lays q_127 ⟨by decide, by decide⟩ rfl rfl rfl (hZ.at hS hAB) (hP.sub [1, 2] rfl) hl.1 rfl (Nat.le_of_ble_eq_true rfl) dX4_records_66 ⟨Nat.le_refl _, Nat.le_refl _⟩) hS (xin_sub [1, 2] rfl) (xin_sub [1, 2] rfl) (fun H locs hq_ hz_ hk_ hS => ?_)
      have hw_ := hq_
      have hP : va_P g.1 vwCl [(mo, .inr (4, [.ref mn, .ref mp, .int (nI (zs - 1)), .ref mq, .int (xz (zk)), .ref mt, .int (nI zl), .ref mm, .int (nI zp), .ref md, .int (nI zr)])), (mn, .inl (g.2.1 0, 988, .inl (w))), (mp, .inl (g.2.1 0, 3952, .inl (va_cpy w p2 0 (988 * (zs - 1)) 988))), (mq, .inl (g.2.1 0, 988, .inl (sn))), (mt, .inl (g.2.1 1, 60, .inl (tx))), (mm, .inl (g.2.1 0, 48, .inl (me))), (md, .inl (g.2.1 0, 40, .inl (td)))] H := xjoin hP hD hw_ hk_ [1, 2] [(false, 0), (true, 0), (true, 1), (false, 3), (false, 4), (false, 5), (false, 6)] rfl rfl rfl
      have hD : va_D (MF mo mn mp mq mt mm md) [(mo, .inr (4, [.ref mn, .ref mp, .int (nI (zs - 1)), .ref mq, .int (xz (zk)), .ref mt, .int (nI zl), .ref mm, .int (nI zp), .ref md, .int (nI zr)])), (mn, .inl (g.2.1 0, 988, .inl (w))), (mp, .inl (g.2.1 0, 3952, .inl (va_cpy w p2 0 (988 * (zs - 1)) 988))), (mq, .inl (g.2.1 0, 988, .inl (sn))), (mt, .inl (g.2.1 1, 60, .inl (tx))), (mm, .inl (g.2.1 0, 48, .inl (me))), (md, .inl (g.2.1 0, 40, .inl (td)))] := va_D_eq (by rfl) hD
      refine lv_aload_n hx hb dX4_records_69 rfl (lv_at hl 0 rfl) ?_
      refine lv_dup hx hb dX4_records_70 rfl ?_
      refine gf_X4_X4_states hF hP 0 rfl rfl dX4_records_71 ?_
      refine xN_const hx hb 1 dX4_records_74 (by decide) ?_
      refine xN_add hx hb dX4_records_75 ?_
      refine pf_X4_X4_states hF hP hD hS 0 rfl (Nat.le_of_ble_eq_true rfl) dX4_records_76 (fun H locs hP hS => ?_)
      have hP : va_P g.1 vwCl [(mo, .inr (4, [.ref mn, .ref mp, .int (nI ((zs - 1) + 1)), .ref mq, .int (xz (zk)), .ref mt, .int (nI zl), .ref mm, .int (nI zp), .ref md, .int (nI zr)])), (mn, .inl (g.2.1 0, 988, .inl (w))), (mp, .inl (g.2.1 0, 3952, .inl (va_cpy w p2 0 (988 * (zs - 1)) 988))), (mq, .inl (g.2.1 0, 988, .inl (sn))), (mt, .inl (g.2.1 1, 60, .inl (tx))), (mm, .inl (g.2.1 0, 48, .inl (me))), (md, .inl (g.2.1 0, 40, .inl (td)))] H := hP
      have hD : va_D (MF mo mn mp mq mt mm md) [(mo, .inr (4, [.ref mn, .ref mp, .int (nI ((zs - 1) + 1)), .ref mq, .int (xz (zk)), .ref mt, .int (nI zl), .ref mm, .int (nI zp), .ref md, .int (nI zr)])), (mn, .inl (g.2.1 0, 988, .inl (w))), (mp, .inl (g.2.1 0, 3952, .inl (va_cpy w p2 0 (988 * (zs - 1)) 988))), (mq, .inl (g.2.1 0, 988, .inl (sn))), (mt, .inl (g.2.1 1, 60, .inl (tx))), (mm, .inl (g.2.1 0, 48, .inl (me))), (md, .inl (g.2.1 0, 40, .inl (td)))] := (va_D_eq (by rfl) hD)
      exact xend_v hF hret hlocks hS (by unfold recP recS; rw [if_pos c_5, if_pos c_5]; rw [show p2 = xdown pa 988 2964 by rw [I2, show i = 2964 by omega], show zs - 1 = 3 by omega] at hP; exact hP) dX4_records_79
    · refine lv_aload_n hx hb dX4_records_17 rfl (lv_at hl 0 rfl) ?_
      refine gf_X4_X4_past hF hP 0 rfl rfl dX4_records_18 ?_
      refine lv_iload_n hx hb dX4_records_21 rfl (lv_at hl 1 rfl) ?_
      refine lv_aload_n hx hb dX4_records_22 rfl (lv_at hl 0 rfl) ?_
      refine gf_X4_X4_past hF hP 0 rfl rfl dX4_records_23 ?_
      refine lv_iload_n hx hb dX4_records_26 rfl (lv_at hl 1 rfl) ?_
      refine xN_si hx hb 988 dX4_records_27 (by decide) ?_
      refine xN_add hx hb dX4_records_30 ?_
      refine xA_ild hF hP 2 rfl (by omega) (by decide) (v := (p2 (i + 988))) rfl dX4_records_31 ?_
      refine xA_ist hF hP hD hS 2 rfl (by omega) (by decide) dX4_records_32 (fun H locs hP hS => ?_)
      have hP : va_P g.1 vwCl [(mo, .inr (4, [.ref mn, .ref mp, .int (nI zs), .ref mq, .int (xz (zk)), .ref mt, .int (nI zl), .ref mm, .int (nI zp), .ref md, .int (nI zr)])), (mn, .inl (g.2.1 0, 988, .inl (w))), (mp, .inl (g.2.1 0, 3952, .inl (upd (p2) (i) ((p2 (i + 988)))))), (mq, .inl (g.2.1 0, 988, .inl (sn))), (mt, .inl (g.2.1 1, 60, .inl (tx))), (mm, .inl (g.2.1 0, 48, .inl (me))), (md, .inl (g.2.1 0, 40, .inl (td)))] H := hP
      have hD : va_D (MF mo mn mp mq mt mm md) [(mo, .inr (4, [.ref mn, .ref mp, .int (nI zs), .ref mq, .int (xz (zk)), .ref mt, .int (nI zl), .ref mm, .int (nI zp), .ref md, .int (nI zr)])), (mn, .inl (g.2.1 0, 988, .inl (w))), (mp, .inl (g.2.1 0, 3952, .inl (upd (p2) (i) ((p2 (i + 988)))))), (mq, .inl (g.2.1 0, 988, .inl (sn))), (mt, .inl (g.2.1 1, 60, .inl (tx))), (mm, .inl (g.2.1 0, 48, .inl (me))), (md, .inl (g.2.1 0, 40, .inl (td)))] := (va_D_eq (by rfl) hD)
      refine xN_inc (lv' := [(1, .int (nI (i + 1))), (0, .ref mo)]) hx hb 1 dX4_records_33 hl (k := 1) rfl (by decide) (by decide) rfl (fun ls hl => ?_)
      refine lv_goto (tgt := 10) hx hb dX4_records_36 (by decide) ?_
      exact ih (i + 1, upd p2 i (p2 (i + 988))) ls H locs ⟨by omega, by rw [I2]; exact xdown_step (by decide), hP, hS, lv_sub hl [1, 0] rfl⟩ (by dsimp only; omega)
set_option maxHeartbeats 4000000 in
set_option maxRecDepth 100000 in
theorem c_X4_comes (l : Launch) (g : XG) (mo mn mp mq mt mm md zs zl zp zr : Nat) (zk : Bool) (w pa sn tx me td : Nat → Int32) (hD : va_D (MF mo mn mp mq mt mm md) (ModW g mo mn mp mq mt mm md zs zl zp zr zk w pa sn tx me td)) (hAB : ∀ q, MF mo mn mp mq mt mm md q → xB g q)  (r k : Nat) (hr : r < 48) (hk : k < 4) (x : Int32) : Met l yX4_comes (ww yX4_comes cX4_comes 5 none) (rmD 1) (xP g [.ref mo, .int (nI r), .int (nI k), .int (x)] (fun H => va_P g.1 vwCl (ModW g mo mn mp mq mt mm md zs zl zp zr zk w pa sn tx me td) H)) (xQv (fun H => va_P g.1 vwCl (ModW g mo mn mp mq mt mm md (zs) (zl) (zp) (zr) (zk) (cmsW w r k x) (pa) (sn) (tx) (me) (td)) H) (MF mo mn mp mq mt mm md)) 0 0 (MF mo mn mp mq mt mm md) := by
  refine xMetM (by decide) rfl (Nat.le_of_ble_eq_true rfl) ?_
  intro p e s m below meth c ls H locs hF hZ hh hS hret hlocks hin hl
  have hx := hF.1.1
  have hb := hF.1.2.1
  have hP := hh
  have hP : va_P g.1 vwCl (ModW g mo mn mp mq mt mm md zs zl zp zr zk w pa sn tx me td) H := hP
  have hl : lv_has ls 5 [(0, .ref mo), (1, .int (nI r)), (2, .int (nI k)), (3, .int (x))] := hl
  refine lv_iload_n hx hb dX4_comes_0 rfl (lv_at hl 1 rfl) ?_
  refine lv_iload_n hx hb dX4_comes_1 rfl (lv_at hl 2 rfl) ?_
  refine vp_callSi (va_Run.run (xrS hF (c_X4_cellAt l g r k ) cal_X4_cellAt q_134 ⟨by decide, by decide⟩ rfl rfl rfl (hZ.at hS hAB) (trivial) hl.1 rfl (Nat.le_of_ble_eq_true rfl) dX4_comes_2 ⟨Nat.le_refl _, Nat.le_refl _⟩)) (fun r_ h_ => ?_)
  subst h_
  refine lv_istore (lv' := [(4, .int (nI (28 + 5 * (4 * r + k)))), (0, .ref mo), (1, .int (nI r)), (2, .int (nI k)), (3, .int (x))]) hx hb dX4_comes_5 hl (by decide) rfl (fun ls hl => ?_)
  refine lv_aload_n hx hb dX4_comes_7 rfl (lv_at hl 1 rfl) ?_
  refine gf_X4_X4_now hF hP 0 rfl rfl dX4_comes_8 ?_
  refine lv_iload hx hb dX4_comes_11 (lv_at hl 0 rfl) ?_
  refine xN_const hx hb 1 dX4_comes_13 (by decide) ?_
  refine xA_ist hF hP hD hS 1 rfl (by omega) (by decide) dX4_comes_14 (fun H locs hP hS => ?_)
  have hP : va_P g.1 vwCl [(mo, .inr (4, [.ref mn, .ref mp, .int (nI zs), .ref mq, .int (xz (zk)), .ref mt, .int (nI zl), .ref mm, .int (nI zp), .ref md, .int (nI zr)])), (mn, .inl (g.2.1 0, 988, .inl (upd (w) (28 + 5 * (4 * r + k)) (nI (1))))), (mp, .inl (g.2.1 0, 3952, .inl (pa))), (mq, .inl (g.2.1 0, 988, .inl (sn))), (mt, .inl (g.2.1 1, 60, .inl (tx))), (mm, .inl (g.2.1 0, 48, .inl (me))), (md, .inl (g.2.1 0, 40, .inl (td)))] H := hP
  have hD : va_D (MF mo mn mp mq mt mm md) [(mo, .inr (4, [.ref mn, .ref mp, .int (nI zs), .ref mq, .int (xz (zk)), .ref mt, .int (nI zl), .ref mm, .int (nI zp), .ref md, .int (nI zr)])), (mn, .inl (g.2.1 0, 988, .inl (upd (w) (28 + 5 * (4 * r + k)) (nI (1))))), (mp, .inl (g.2.1 0, 3952, .inl (pa))), (mq, .inl (g.2.1 0, 988, .inl (sn))), (mt, .inl (g.2.1 1, 60, .inl (tx))), (mm, .inl (g.2.1 0, 48, .inl (me))), (md, .inl (g.2.1 0, 40, .inl (td)))] := (va_D_eq (by rfl) hD)
  refine lv_aload_n hx hb dX4_comes_15 rfl (lv_at hl 1 rfl) ?_
  refine gf_X4_X4_now hF hP 0 rfl rfl dX4_comes_16 ?_
  refine lv_iload hx hb dX4_comes_19 (lv_at hl 0 rfl) ?_
  refine xN_const hx hb 1 dX4_comes_21 (by decide) ?_
  refine xN_add hx hb dX4_comes_22 ?_
  refine lv_iload_n hx hb dX4_comes_23 rfl (lv_at hl 4 rfl) ?_
  refine xA_ist hF hP hD hS 1 rfl (by omega) (by decide) dX4_comes_24 (fun H locs hP hS => ?_)
  have hP : va_P g.1 vwCl [(mo, .inr (4, [.ref mn, .ref mp, .int (nI zs), .ref mq, .int (xz (zk)), .ref mt, .int (nI zl), .ref mm, .int (nI zp), .ref md, .int (nI zr)])), (mn, .inl (g.2.1 0, 988, .inl (upd (upd (w) (28 + 5 * (4 * r + k)) (nI (1))) (28 + 5 * (4 * r + k) + 1) ((x))))), (mp, .inl (g.2.1 0, 3952, .inl (pa))), (mq, .inl (g.2.1 0, 988, .inl (sn))), (mt, .inl (g.2.1 1, 60, .inl (tx))), (mm, .inl (g.2.1 0, 48, .inl (me))), (md, .inl (g.2.1 0, 40, .inl (td)))] H := hP
  have hD : va_D (MF mo mn mp mq mt mm md) [(mo, .inr (4, [.ref mn, .ref mp, .int (nI zs), .ref mq, .int (xz (zk)), .ref mt, .int (nI zl), .ref mm, .int (nI zp), .ref md, .int (nI zr)])), (mn, .inl (g.2.1 0, 988, .inl (upd (upd (w) (28 + 5 * (4 * r + k)) (nI (1))) (28 + 5 * (4 * r + k) + 1) ((x))))), (mp, .inl (g.2.1 0, 3952, .inl (pa))), (mq, .inl (g.2.1 0, 988, .inl (sn))), (mt, .inl (g.2.1 1, 60, .inl (tx))), (mm, .inl (g.2.1 0, 48, .inl (me))), (md, .inl (g.2.1 0, 40, .inl (td)))] := (va_D_eq (by rfl) hD)
  exact xend_v hF hret hlocks hS (hP) dX4_comes_25
set_option maxHeartbeats 4000000 in
set_option maxRecDepth 100000 in
theorem c_X4_leaves (l : Launch) (g : XG) (mo mn mp mq mt mm md zs zl zp zr : Nat) (zk : Bool) (w pa sn tx me td : Nat → Int32) (hD : va_D (MF mo mn mp mq mt mm md) (ModW g mo mn mp mq mt mm md zs zl zp zr zk w pa sn tx me td)) (hAB : ∀ q, MF mo mn mp mq mt mm md q → xB g q)  (r : Nat) (hr : r < 48) : Met l yX4_leaves (ww yX4_leaves cX4_leaves 3 none) (rmD 1) (xP g [.ref mo, .int (nI r)] (fun H => va_P g.1 vwCl (ModW g mo mn mp mq mt mm md zs zl zp zr zk w pa sn tx me td) H)) (xQv (fun H => va_P g.1 vwCl (ModW g mo mn mp mq mt mm md (zs) (zl) (zp) (zr) (zk) (xzero w (28 + 5 * (4 * r)) 20) (pa) (sn) (tx) (me) (td)) H) (MF mo mn mp mq mt mm md)) 0 0 (MF mo mn mp mq mt mm md) := by
  refine xMetM (by decide) rfl (Nat.le_of_ble_eq_true rfl) ?_
  intro p e s m below meth c ls H locs hF hZ hh hS hret hlocks hin hl
  have hx := hF.1.1
  have hb := hF.1.2.1
  have hP := hh
  have hP : va_P g.1 vwCl (ModW g mo mn mp mq mt mm md zs zl zp zr zk w pa sn tx me td) H := hP
  have hl : lv_has ls 3 [(0, .ref mo), (1, .int (nI r))] := hl
  refine lv_iload_n hx hb dX4_leaves_0 rfl (lv_at hl 1 rfl) ?_
  refine xN_const hx hb 0 dX4_leaves_1 (by decide) ?_
  refine vp_callSi (va_Run.run (xrS hF (c_X4_cellAt l g r 0 ) cal_X4_cellAt q_134 ⟨by decide, by decide⟩ rfl rfl rfl (hZ.at hS hAB) (trivial) hl.1 rfl (Nat.le_of_ble_eq_true rfl) dX4_leaves_2 ⟨Nat.le_refl _, Nat.le_refl _⟩)) (fun r_ h_ => ?_)
  subst h_
  refine lv_istore_n (lv' := [(2, .int (nI (28 + 5 * (4 * r + 0)))), (0, .ref mo), (1, .int (nI r))]) hx hb dX4_leaves_5 rfl hl (by decide) rfl (fun ls hl => ?_)
  refine xloopM (goal := fun ls H locs => W p l e _ s m _ below meth c H locs _ _ _ (F0 m _ ls [])) (fun (z_ : Nat × (Nat → Int32)) (ls : Array Slot) (H : Heap) (locs : List Loc) => match z_ with | (i, w2) => (28 + 5 * (4 * r) ≤ i) ∧ (i ≤ 28 + 5 * (4 * r) + 20) ∧ (w2 = xzero w (28 + 5 * (4 * r)) (i - (28 + 5 * (4 * r)))) ∧ va_P g.1 vwCl [(mo, .inr (4, [.ref mn, .ref mp, .int (nI zs), .ref mq, .int (xz (zk)), .ref mt, .int (nI zl), .ref mm, .int (nI zp), .ref md, .int (nI zr)])), (mn, .inl (g.2.1 0, 988, .inl (w2))), (mp, .inl (g.2.1 0, 3952, .inl (pa))), (mq, .inl (g.2.1 0, 988, .inl (sn))), (mt, .inl (g.2.1 1, 60, .inl (tx))), (mm, .inl (g.2.1 0, 48, .inl (me))), (md, .inl (g.2.1 0, 40, .inl (td)))] H ∧ va_S (MF mo mn mp mq mt mm md) s.heap H locs ∧ lv_has ls 3 [(0, .ref mo), (1, .int (nI r)), (2, .int (nI i))]) (fun (z_ : Nat × (Nat → Int32)) => match z_ with | (i, w2) => 28 + 5 * (4 * r) + 20 - i) ?_ (28 + 5 * (4 * r + 0), w) ls H locs ⟨by omega, by omega, by rw [show 28 + 5 * (4 * r + 0) - (28 + 5 * (4 * r)) = 0 by omega, xzero_0], hP, hS, lv_sub hl [1, 2, 0] rfl⟩
  rintro ⟨i, w2⟩ ls H locs ⟨I0, I1, I2, hP, hS, hl⟩ ih
  dsimp only at ih
  have hD : va_D (MF mo mn mp mq mt mm md) [(mo, .inr (4, [.ref mn, .ref mp, .int (nI zs), .ref mq, .int (xz (zk)), .ref mt, .int (nI zl), .ref mm, .int (nI zp), .ref md, .int (nI zr)])), (mn, .inl (g.2.1 0, 988, .inl (w2))), (mp, .inl (g.2.1 0, 3952, .inl (pa))), (mq, .inl (g.2.1 0, 988, .inl (sn))), (mt, .inl (g.2.1 1, 60, .inl (tx))), (mm, .inl (g.2.1 0, 48, .inl (me))), (md, .inl (g.2.1 0, 40, .inl (td)))] := va_D_eq (by rfl) hD
  refine lv_iload_n hx hb dX4_leaves_6 rfl (lv_at hl 2 rfl) ?_
  refine lv_iload_n hx hb dX4_leaves_7 rfl (lv_at hl 1 rfl) ?_
  refine xN_const hx hb 1 dX4_leaves_8 (by decide) ?_
  refine xN_add hx hb dX4_leaves_9 ?_
  refine xN_const hx hb 0 dX4_leaves_10 (by decide) ?_
  refine vp_callSi (va_Run.run (xrS hF (c_X4_cellAt l g (r + 1) 0 ) cal_X4_cellAt q_134 ⟨by decide, by decide⟩ rfl rfl rfl (hZ.at hS hAB) (trivial) hl.1 rfl (Nat.le_of_ble_eq_true rfl) dX4_leaves_11 ⟨Nat.le_refl _, Nat.le_refl _⟩)) (fun r_ h_ => ?_)
  subst h_
  refine xC_ge (tgt := 30) hx hb (by omega) (by omega) dX4_leaves_14 (by decide) (fun c_14 => ?_) (fun c_14 => ?_)
  · exact xend_v hF hret hlocks hS (by have e : w2 = xzero w (28 + 5 * (4 * r)) 20 := by { rw [I2, show i - (28 + 5 * (4 * r)) = 20 by omega] }; rw [← e]; exact hP) dX4_leaves_30
  · refine lv_aload_n hx hb dX4_leaves_17 rfl (lv_at hl 0 rfl) ?_
    refine gf_X4_X4_now hF hP 0 rfl rfl dX4_leaves_18 ?_
    refine lv_iload_n hx hb dX4_leaves_21 rfl (lv_at hl 2 rfl) ?_
    refine xN_const hx hb 0 dX4_leaves_22 (by decide) ?_
    refine xA_ist hF hP hD hS 1 rfl (by omega) (by decide) dX4_leaves_23 (fun H locs hP hS => ?_)
    have hP : va_P g.1 vwCl [(mo, .inr (4, [.ref mn, .ref mp, .int (nI zs), .ref mq, .int (xz (zk)), .ref mt, .int (nI zl), .ref mm, .int (nI zp), .ref md, .int (nI zr)])), (mn, .inl (g.2.1 0, 988, .inl (upd (w2) (i) (nI (0))))), (mp, .inl (g.2.1 0, 3952, .inl (pa))), (mq, .inl (g.2.1 0, 988, .inl (sn))), (mt, .inl (g.2.1 1, 60, .inl (tx))), (mm, .inl (g.2.1 0, 48, .inl (me))), (md, .inl (g.2.1 0, 40, .inl (td)))] H := hP
    have hD : va_D (MF mo mn mp mq mt mm md) [(mo, .inr (4, [.ref mn, .ref mp, .int (nI zs), .ref mq, .int (xz (zk)), .ref mt, .int (nI zl), .ref mm, .int (nI zp), .ref md, .int (nI zr)])), (mn, .inl (g.2.1 0, 988, .inl (upd (w2) (i) (nI (0))))), (mp, .inl (g.2.1 0, 3952, .inl (pa))), (mq, .inl (g.2.1 0, 988, .inl (sn))), (mt, .inl (g.2.1 1, 60, .inl (tx))), (mm, .inl (g.2.1 0, 48, .inl (me))), (md, .inl (g.2.1 0, 40, .inl (td)))] := (va_D_eq (by rfl) hD)
    refine xN_inc (lv' := [(2, .int (nI (i + 1))), (0, .ref mo), (1, .int (nI r))]) hx hb 1 dX4_leaves_24 hl (k := 2) rfl (by decide) (by decide) rfl (fun ls hl => ?_)
    refine lv_goto (tgt := 6) hx hb dX4_leaves_27 (by decide) ?_
    exact ih (i + 1, upd w2 i (nI 0)) ls H locs ⟨by omega, by omega, by rw [I2]; exact xzero_step I0, hP, hS, lv_sub hl [1, 2, 0] rfl⟩ (by dsimp only; omega)
set_option maxHeartbeats 4000000 in
set_option maxRecDepth 100000 in
theorem c_X4_laysMeant (l : Launch) (g : XG) (mo mn mp mq mt mm md zs zl zp zr : Nat) (zk : Bool) (w pa sn tx me td : Nat → Int32) (hD : va_D (MF mo mn mp mq mt mm md) (ModW g mo mn mp mq mt mm md zs zl zp zr zk w pa sn tx me td)) (hAB : ∀ q, MF mo mn mp mq mt mm md q → xB g q) (hW : WF w) (k : Nat) (hk : k < 4) : Met l yX4_laysMeant (ww yX4_laysMeant cX4_laysMeant 3 none) (rmD 6) (xP g [.ref mo, .int (nI k)] (fun H => va_P g.1 vwCl (ModW g mo mn mp mq mt mm md zs zl zp zr zk w pa sn tx me td) H)) (xQv (fun H => va_P g.1 vwCl (ModW g mo mn mp mq mt mm md (zs) (zl) (zp) (zr) (zk) (w) (pa) (sn) (tx) (va_cpy (fun i9 => mean w i9 k) me 0 0 (nr w)) (td)) H) (MF mo mn mp mq mt mm md)) 0 0 (MF mo mn mp mq mt mm md) := by
  refine xMetM (by decide) rfl (Nat.le_of_ble_eq_true rfl) ?_
  intro p e s m below meth c ls H locs hF hZ hh hS hret hlocks hin hl
  have hx := hF.1.1
  have hb := hF.1.2.1
  have hP := hh
  have hP : va_P g.1 vwCl (ModW g mo mn mp mq mt mm md zs zl zp zr zk w pa sn tx me td) H := hP
  have hl : lv_has ls 3 [(0, .ref mo), (1, .int (nI k))] := hl
  have h48 := hW.n48
  refine xN_const hx hb 0 dX4_laysMeant_0 (by decide) ?_
  refine lv_istore_n (lv' := [(2, .int (nI 0)), (0, .ref mo), (1, .int (nI k))]) hx hb dX4_laysMeant_1 rfl hl (by decide) rfl (fun ls hl => ?_)
  refine xloopM (goal := fun ls H locs => W p l e _ s m _ below meth c H locs _ _ _ (F0 m _ ls [])) (fun (z_ : Nat × (Nat → Int32)) (ls : Array Slot) (H : Heap) (locs : List Loc) => match z_ with | (i, m2) => (i ≤ nr w) ∧ (m2 = va_cpy (fun i9 => mean w i9 k) me 0 0 i) ∧ va_P g.1 vwCl [(mo, .inr (4, [.ref mn, .ref mp, .int (nI zs), .ref mq, .int (xz (zk)), .ref mt, .int (nI zl), .ref mm, .int (nI zp), .ref md, .int (nI zr)])), (mn, .inl (g.2.1 0, 988, .inl (w))), (mp, .inl (g.2.1 0, 3952, .inl (pa))), (mq, .inl (g.2.1 0, 988, .inl (sn))), (mt, .inl (g.2.1 1, 60, .inl (tx))), (mm, .inl (g.2.1 0, 48, .inl (m2))), (md, .inl (g.2.1 0, 40, .inl (td)))] H ∧ va_S (MF mo mn mp mq mt mm md) s.heap H locs ∧ lv_has ls 3 [(0, .ref mo), (1, .int (nI k)), (2, .int (nI i))]) (fun (z_ : Nat × (Nat → Int32)) => match z_ with | (i, m2) => nr w - i) ?_ (0, me) ls H locs ⟨Nat.zero_le _, xcpy_0.symm, hP, hS, lv_sub hl [1, 2, 0] rfl⟩
  rintro ⟨i, m2⟩ ls H locs ⟨I1, I2, hP, hS, hl⟩ ih
  dsimp only at ih
  have hD : va_D (MF mo mn mp mq mt mm md) [(mo, .inr (4, [.ref mn, .ref mp, .int (nI zs), .ref mq, .int (xz (zk)), .ref mt, .int (nI zl), .ref mm, .int (nI zp), .ref md, .int (nI zr)])), (mn, .inl (g.2.1 0, 988, .inl (w))), (mp, .inl (g.2.1 0, 3952, .inl (pa))), (mq, .inl (g.2.1 0, 988, .inl (sn))), (mt, .inl (g.2.1 1, 60, .inl (tx))), (mm, .inl (g.2.1 0, 48, .inl (m2))), (md, .inl (g.2.1 0, 40, .inl (td)))] := va_D_eq (by rfl) hD
  refine lv_iload_n hx hb dX4_laysMeant_2 rfl (lv_at hl 2 rfl) ?_
  refine lv_aload_n hx hb dX4_laysMeant_3 rfl (lv_at hl 0 rfl) ?_
  refine gf_X4_X4_now hF hP 0 rfl rfl dX4_laysMeant_4 ?_
  refine xN_const hx hb 0 dX4_laysMeant_7 (by decide) ?_
  refine xA_ild hF hP 1 rfl (by omega) (by decide) (v := nI (nr w)) (hW.r0) dX4_laysMeant_8 ?_
  refine xC_ge (tgt := 30) hx hb (by omega) (by omega) dX4_laysMeant_9 (by decide) (fun c_9 => ?_) (fun c_9 => ?_)
  · exact xend_v hF hret hlocks hS (by have e : m2 = va_cpy (fun i9 => mean w i9 k) me 0 0 (nr w) := by { rw [I2, show i = nr w by omega] }; rw [← e]; exact hP) dX4_laysMeant_30
  · refine lv_aload_n hx hb dX4_laysMeant_12 rfl (lv_at hl 0 rfl) ?_
    refine gf_X4_X4_meant hF hP 0 rfl rfl dX4_laysMeant_13 ?_
    refine lv_iload_n hx hb dX4_laysMeant_16 rfl (lv_at hl 2 rfl) ?_
    refine lv_aload_n hx hb dX4_laysMeant_17 rfl (lv_at hl 0 rfl) ?_
    refine lv_iload_n hx hb dX4_laysMeant_18 rfl (lv_at hl 2 rfl) ?_
    refine lv_iload_n hx hb dX4_laysMeant_19 rfl (lv_at hl 1 rfl) ?_
    refine vp_callSi (va_Run.run (xrV hF (c_X4_means l g mo mn mp mq mt mm md zs zl zp zr zk w hW i k (by omega) (by omega)) cal_X4_means q_286 ⟨by decide, by decide⟩ rfl rfl rfl (va_recv hF.2.1 hP (ci := 4) (q0 := 0) rfl rfl) (hZ.at hS hAB) (hP.sub [0, 1] rfl) hl.1 rfl (Nat.le_of_ble_eq_true rfl) dX4_laysMeant_20 ⟨Nat.le_refl _, Nat.le_refl _⟩)) (fun r_ h_ => ?_)
    subst h_
    refine xA_ist hF hP hD hS 5 rfl (by omega) (by decide) dX4_laysMeant_23 (fun H locs hP hS => ?_)
    have hP : va_P g.1 vwCl [(mo, .inr (4, [.ref mn, .ref mp, .int (nI zs), .ref mq, .int (xz (zk)), .ref mt, .int (nI zl), .ref mm, .int (nI zp), .ref md, .int (nI zr)])), (mn, .inl (g.2.1 0, 988, .inl (w))), (mp, .inl (g.2.1 0, 3952, .inl (pa))), (mq, .inl (g.2.1 0, 988, .inl (sn))), (mt, .inl (g.2.1 1, 60, .inl (tx))), (mm, .inl (g.2.1 0, 48, .inl (upd (m2) (i) ((mean w i k))))), (md, .inl (g.2.1 0, 40, .inl (td)))] H := hP
    have hD : va_D (MF mo mn mp mq mt mm md) [(mo, .inr (4, [.ref mn, .ref mp, .int (nI zs), .ref mq, .int (xz (zk)), .ref mt, .int (nI zl), .ref mm, .int (nI zp), .ref md, .int (nI zr)])), (mn, .inl (g.2.1 0, 988, .inl (w))), (mp, .inl (g.2.1 0, 3952, .inl (pa))), (mq, .inl (g.2.1 0, 988, .inl (sn))), (mt, .inl (g.2.1 1, 60, .inl (tx))), (mm, .inl (g.2.1 0, 48, .inl (upd (m2) (i) ((mean w i k))))), (md, .inl (g.2.1 0, 40, .inl (td)))] := (va_D_eq (by rfl) hD)
    refine xN_inc (lv' := [(2, .int (nI (i + 1))), (0, .ref mo), (1, .int (nI k))]) hx hb 1 dX4_laysMeant_24 hl (k := 2) rfl (by decide) (by decide) rfl (fun ls hl => ?_)
    refine lv_goto (tgt := 2) hx hb dX4_laysMeant_27 (by decide) ?_
    exact ih (i + 1, upd m2 i (mean w i k)) ls H locs ⟨by omega, by rw [I2]; exact xcpy0_step (f := fun i9 => mean w i9 k), hP, hS, lv_sub hl [1, 2, 0] rfl⟩ (by dsimp only; omega)
set_option maxHeartbeats 4000000 in
set_option maxRecDepth 100000 in
theorem c_X4_isSetting (l : Launch) (g : XG) (x y : Int32) : Met l yX4_isSetting (ww yX4_isSetting cX4_isSetting 2 (some .boolean)) (rmD 1) (xP g [.int (x), .int (y)] (fun H => True)) (vp_Si (fun r9 => r9 = xz (setV x y))) 0 0 (fun _ => False) := by
  refine xMet (by decide) rfl (Nat.le_of_ble_eq_true rfl) ?_
  intro p e s m below meth c ls hF hZ hh hret hlocks hin hl
  have hx := hF.1.1
  have hb := hF.1.2.1
  have hl : lv_has ls 2 [(0, .int (x)), (1, .int (y))] := hl
  refine lv_iload_n hx hb dX4_isSetting_0 rfl (lv_at hl 0 rfl) ?_
  by_cases w_1_0 : (x) = 0
  · refine lv_tableIn (off := 27) (tgt := 28) hx hb dX4_isSetting_1 (by rw [w_1_0]; decide) (by rw [w_1_0]; decide) (by rw [w_1_0]; rfl) (by decide) ?_
    refine lv_iload_n hx hb dX4_isSetting_28 rfl (lv_at hl 1 rfl) ?_
    refine xN_const hx hb 4 dX4_isSetting_29 (by decide) ?_
    refine xN_bi hx hb 12 dX4_isSetting_30 (by decide) ?_
    refine vp_callSi (va_Run.run (xrS hF (c_X4_in l g ((y)) (nI (4)) (nI (12)) ) cal_X4_in q_119 ⟨by decide, by decide⟩ rfl rfl rfl hZ (trivial) hl.1 rfl (Nat.le_of_ble_eq_true rfl) dX4_isSetting_32 ⟨Nat.le_refl _, Nat.le_refl _⟩)) (fun r_ h_ => ?_)
    subst h_
    exact xret_t (V := xz (decide ((nI (4)) ≤ ((y))) && decide (((y)) ≤ (nI (12))))) hF hret hlocks (xz_nar _) (by unfold setV; rw [if_pos w_1_0]) dX4_isSetting_35
  by_cases w_1_1 : (x) = 1
  · refine lv_tableIn (off := 35) (tgt := 36) hx hb dX4_isSetting_1 (by rw [w_1_1]; decide) (by rw [w_1_1]; decide) (by rw [w_1_1]; rfl) (by decide) ?_
    refine lv_iload_n hx hb dX4_isSetting_36 rfl (lv_at hl 1 rfl) ?_
    refine xN_const hx hb 0 dX4_isSetting_37 (by decide) ?_
    refine xN_const hx hb 1 dX4_isSetting_38 (by decide) ?_
    refine vp_callSi (va_Run.run (xrS hF (c_X4_in l g ((y)) (nI (0)) (nI (1)) ) cal_X4_in q_119 ⟨by decide, by decide⟩ rfl rfl rfl hZ (trivial) hl.1 rfl (Nat.le_of_ble_eq_true rfl) dX4_isSetting_39 ⟨Nat.le_refl _, Nat.le_refl _⟩)) (fun r_ h_ => ?_)
    subst h_
    exact xret_t (V := xz (decide ((nI (0)) ≤ ((y))) && decide (((y)) ≤ (nI (1))))) hF hret hlocks (xz_nar _) (by unfold setV; rw [if_neg w_1_0, if_pos w_1_1]) dX4_isSetting_42
  by_cases w_1_2 : (x) = 2
  · refine lv_tableIn (off := 42) (tgt := 43) hx hb dX4_isSetting_1 (by rw [w_1_2]; decide) (by rw [w_1_2]; decide) (by rw [w_1_2]; rfl) (by decide) ?_
    refine lv_iload_n hx hb dX4_isSetting_43 rfl (lv_at hl 1 rfl) ?_
    refine xN_const hx hb 2 dX4_isSetting_44 (by decide) ?_
    refine xN_bi hx hb 6 dX4_isSetting_45 (by decide) ?_
    refine vp_callSi (va_Run.run (xrS hF (c_X4_in l g ((y)) (nI (2)) (nI (6)) ) cal_X4_in q_119 ⟨by decide, by decide⟩ rfl rfl rfl hZ (trivial) hl.1 rfl (Nat.le_of_ble_eq_true rfl) dX4_isSetting_47 ⟨Nat.le_refl _, Nat.le_refl _⟩)) (fun r_ h_ => ?_)
    subst h_
    exact xret_t (V := xz (decide ((nI (2)) ≤ ((y))) && decide (((y)) ≤ (nI (6))))) hF hret hlocks (xz_nar _) (by unfold setV; rw [if_neg w_1_0, if_neg w_1_1, if_pos w_1_2]) dX4_isSetting_50
  refine lv_tableOut (tgt := 51) hx hb dX4_isSetting_1 (by have a0 := lv_neT w_1_0 (a := 0) (by decide); have a1 := lv_neT w_1_1 (a := 1) (by decide); have a2 := lv_neT w_1_2 (a := 2) (by decide); omega) (by decide) ?_
  refine xN_const hx hb 0 dX4_isSetting_51 (by decide) ?_
  exact xret_t (V := nI (0)) hF hret hlocks rfl (by unfold setV; rw [if_neg w_1_0, if_neg w_1_1, if_neg w_1_2]; rfl) dX4_isSetting_52
set_option maxHeartbeats 4000000 in
set_option maxRecDepth 100000 in
theorem c_X4_addRow (l : Launch) (g : XG) (mo mn mp mq mt mm md zs zl zp zr : Nat) (zk : Bool) (w pa sn tx me td : Nat → Int32) (hD : va_D (MF mo mn mp mq mt mm md) (ModW g mo mn mp mq mt mm md zs zl zp zr zk w pa sn tx me td)) (hAB : ∀ q, MF mo mn mp mq mt mm md q → xB g q) (hW : WF w) (hz4 : zs ≤ 4) (a b c9 d9 : Int32) : Met l yX4_addRow (ww yX4_addRow cX4_addRow 6 (some .int)) (rmD 2) (xP g [.ref mo, .int (a), .int (b), .int (c9), .int (d9)] (fun H => va_P g.1 vwCl (ModW g mo mn mp mq mt mm md zs zl zp zr zk w pa sn tx me td) H)) (xQi (fun r9 H => r9 = addA w a b c9 d9 ∧ (addB w a b c9 d9 = false → va_P g.1 vwCl (ModW g mo mn mp mq mt mm md (zs) (zl) (zp) (zr) (zk) (w) (pa) (sn) (tx) (me) (td)) H) ∧ (addB w a b c9 d9 = true → va_P g.1 vwCl (ModW g mo mn mp mq mt mm md (recS zs + 1) (zl) (zp) (zr) (zk) (addW w a b c9 d9) (recP w pa zs) (sn) (tx) (me) (td)) H)) (MF mo mn mp mq mt mm md)) 0 0 (MF mo mn mp mq mt mm md) := by
  refine xMetM (by decide) rfl (Nat.le_of_ble_eq_true rfl) ?_
  intro p e s m below meth c ls H locs hF hZ hh hS hret hlocks hin hl
  have hx := hF.1.1
  have hb := hF.1.2.1
  have hP := hh
  have hP : va_P g.1 vwCl (ModW g mo mn mp mq mt mm md zs zl zp zr zk w pa sn tx me td) H := hP
  have hl : lv_has ls 6 [(0, .ref mo), (1, .int (a)), (2, .int (b)), (3, .int (c9)), (4, .int (d9))] := hl
  have h48 := hW.n48
  refine xN_const hx hb 0 dX4_addRow_0 (by decide) ?_
  refine lv_iload_n hx hb dX4_addRow_1 rfl (lv_at hl 1 rfl) ?_
  refine vp_callSi (va_Run.run (xrS hF (c_X4_isEntry l g 0 ((a)) (by omega)) cal_X4_isEntry q_113 ⟨by decide, by decide⟩ rfl rfl rfl (hZ.at hS hAB) (trivial) hl.1 rfl (Nat.le_of_ble_eq_true rfl) dX4_addRow_2 ⟨Nat.le_refl _, Nat.le_refl _⟩)) (fun r_ h_ => ?_)
  subst h_
  refine xZ_eq (tgt := 33) hx hb dX4_addRow_5 (by decide) (fun c_5 => ?_) (fun c_5 => ?_)
  · refine lv_bipush hx hb (v := (-2)) dX4_addRow_33 (by decide) ?_
    exact xend_i (V := (-2)) hF hret hlocks hS (⟨by unfold addA; rw [c_5]; rfl, fun _ => hP, fun h => absurd h (by rw [show (addB w a b c9 d9) = false from (by simp [addB, c_5])]; decide)⟩) dX4_addRow_35
  · refine xN_const hx hb 1 dX4_addRow_8 (by decide) ?_
    refine lv_iload_n hx hb dX4_addRow_9 rfl (lv_at hl 2 rfl) ?_
    refine vp_callSi (va_Run.run (xrS hF (c_X4_isEntry l g 1 ((b)) (by omega)) cal_X4_isEntry q_113 ⟨by decide, by decide⟩ rfl rfl rfl (hZ.at hS hAB) (trivial) hl.1 rfl (Nat.le_of_ble_eq_true rfl) dX4_addRow_10 ⟨Nat.le_refl _, Nat.le_refl _⟩)) (fun r_ h_ => ?_)
    subst h_
    refine xZ_eq (tgt := 33) hx hb dX4_addRow_13 (by decide) (fun c_13 => ?_) (fun c_13 => ?_)
    · refine lv_bipush hx hb (v := (-2)) dX4_addRow_33 (by decide) ?_
      exact xend_i (V := (-2)) hF hret hlocks hS (⟨by unfold addA; rw [c_5, c_13]; rfl, fun _ => hP, fun h => absurd h (by rw [show (addB w a b c9 d9) = false from (by simp [addB, c_5, c_13])]; decide)⟩) dX4_addRow_35
    · refine xN_const hx hb 2 dX4_addRow_16 (by decide) ?_
      refine lv_iload_n hx hb dX4_addRow_17 rfl (lv_at hl 3 rfl) ?_
      refine vp_callSi (va_Run.run (xrS hF (c_X4_isEntry l g 2 ((c9)) (by omega)) cal_X4_isEntry q_113 ⟨by decide, by decide⟩ rfl rfl rfl (hZ.at hS hAB) (trivial) hl.1 rfl (Nat.le_of_ble_eq_true rfl) dX4_addRow_18 ⟨Nat.le_refl _, Nat.le_refl _⟩)) (fun r_ h_ => ?_)
      subst h_
      refine xZ_eq (tgt := 33) hx hb dX4_addRow_21 (by decide) (fun c_21 => ?_) (fun c_21 => ?_)
      · refine lv_bipush hx hb (v := (-2)) dX4_addRow_33 (by decide) ?_
        exact xend_i (V := (-2)) hF hret hlocks hS (⟨by unfold addA; rw [c_5, c_13, c_21]; rfl, fun _ => hP, fun h => absurd h (by rw [show (addB w a b c9 d9) = false from (by simp [addB, c_5, c_13, c_21])]; decide)⟩) dX4_addRow_35
      · refine xN_const hx hb 3 dX4_addRow_24 (by decide) ?_
        refine lv_iload hx hb dX4_addRow_25 (lv_at hl 4 rfl) ?_
        refine vp_callSi (va_Run.run (xrS hF (c_X4_isEntry l g 3 ((d9)) (by omega)) cal_X4_isEntry q_113 ⟨by decide, by decide⟩ rfl rfl rfl (hZ.at hS hAB) (trivial) hl.1 rfl (Nat.le_of_ble_eq_true rfl) dX4_addRow_27 ⟨Nat.le_refl _, Nat.le_refl _⟩)) (fun r_ h_ => ?_)
        subst h_
        refine xZ_ne (tgt := 36) hx hb dX4_addRow_30 (by decide) (fun c_30 => ?_) (fun c_30 => ?_)
        · refine lv_aload_n hx hb dX4_addRow_36 rfl (lv_at hl 0 rfl) ?_
          refine gf_X4_X4_now hF hP 0 rfl rfl dX4_addRow_37 ?_
          refine xN_const hx hb 0 dX4_addRow_40 (by decide) ?_
          refine xA_ild hF hP 1 rfl (by omega) (by decide) (v := nI (nr w)) (hW.r0) dX4_addRow_41 ?_
          refine xN_bi hx hb 48 dX4_addRow_42 (by decide) ?_
          refine xC_ne (tgt := 50) hx hb (by omega) (by omega) dX4_addRow_44 (by decide) (fun c_44 => ?_) (fun c_44 => ?_)
          · refine lv_aload_n hx hb dX4_addRow_50 rfl (lv_at hl 0 rfl) ?_
            refine xcv (xrV hF (c_X4_records l g mo mn mp mq mt mm md zs zl zp zr zk w pa sn tx me td hD hAB (by omega)) cal_X4_records q_122 ⟨by decide, by decide⟩ rfl rfl rfl (va_recv hF.2.1 hP (ci := 4) (q0 := 0) rfl rfl) (hZ.at hS hAB) (hP) hl.1 rfl (Nat.le_of_ble_eq_true rfl) dX4_addRow_51 ⟨Nat.le_refl _, Nat.le_refl _⟩) hS (xin_sub [0, 1, 2, 3, 4, 5, 6] rfl) (xin_sub [0, 1, 2, 3, 4, 5, 6] rfl) (fun H locs hq_ hz_ hk_ hS => ?_)
            have hw_ := hq_
            have hP : va_P g.1 vwCl [(mo, .inr (4, [.ref mn, .ref mp, .int (nI (recS zs + 1)), .ref mq, .int (xz (zk)), .ref mt, .int (nI zl), .ref mm, .int (nI zp), .ref md, .int (nI zr)])), (mn, .inl (g.2.1 0, 988, .inl (w))), (mp, .inl (g.2.1 0, 3952, .inl (recP w pa zs))), (mq, .inl (g.2.1 0, 988, .inl (sn))), (mt, .inl (g.2.1 1, 60, .inl (tx))), (mm, .inl (g.2.1 0, 48, .inl (me))), (md, .inl (g.2.1 0, 40, .inl (td)))] H := xjoin hP hD hw_ hk_ [0, 1, 2, 3, 4, 5, 6] [(true, 0), (true, 1), (true, 2), (true, 3), (true, 4), (true, 5), (true, 6)] rfl rfl rfl
            have hD : va_D (MF mo mn mp mq mt mm md) [(mo, .inr (4, [.ref mn, .ref mp, .int (nI (recS zs + 1)), .ref mq, .int (xz (zk)), .ref mt, .int (nI zl), .ref mm, .int (nI zp), .ref md, .int (nI zr)])), (mn, .inl (g.2.1 0, 988, .inl (w))), (mp, .inl (g.2.1 0, 3952, .inl (recP w pa zs))), (mq, .inl (g.2.1 0, 988, .inl (sn))), (mt, .inl (g.2.1 1, 60, .inl (tx))), (mm, .inl (g.2.1 0, 48, .inl (me))), (md, .inl (g.2.1 0, 40, .inl (td)))] := va_D_eq (by rfl) hD
            refine lv_aload_n hx hb dX4_addRow_54 rfl (lv_at hl 0 rfl) ?_
            refine gf_X4_X4_now hF hP 0 rfl rfl dX4_addRow_55 ?_
            refine xN_const hx hb 0 dX4_addRow_58 (by decide) ?_
            refine xA_ild hF hP 1 rfl (by omega) (by decide) (v := nI (nr w)) (hW.r0) dX4_addRow_59 ?_
            refine lv_istore (lv' := [(5, .int (nI (nr w))), (0, .ref mo), (1, .int (a)), (2, .int (b)), (3, .int (c9)), (4, .int (d9))]) hx hb dX4_addRow_60 hl (by decide) rfl (fun ls hl => ?_)
            refine lv_aload_n hx hb dX4_addRow_62 rfl (lv_at hl 1 rfl) ?_
            refine lv_iload hx hb dX4_addRow_63 (lv_at hl 0 rfl) ?_
            refine xN_const hx hb 0 dX4_addRow_65 (by decide) ?_
            refine lv_iload_n hx hb dX4_addRow_66 rfl (lv_at hl 2 rfl) ?_
            refine xcv (xrV hF (c_X4_comes l g mo mn mp mq mt mm md (recS zs + 1) zl zp zr zk w (recP w pa zs) sn tx me td hD hAB (nr w) 0 (by omega) (by omega) ((a))) cal_X4_comes q_130 ⟨by decide, by decide⟩ rfl rfl rfl (va_recv hF.2.1 hP (ci := 4) (q0 := 0) rfl rfl) (hZ.at hS hAB) (hP) hl.1 rfl (Nat.le_of_ble_eq_true rfl) dX4_addRow_67 ⟨Nat.le_refl _, Nat.le_refl _⟩) hS (xin_sub [0, 1, 2, 3, 4, 5, 6] rfl) (xin_sub [0, 1, 2, 3, 4, 5, 6] rfl) (fun H locs hq_ hz_ hk_ hS => ?_)
            have hw_ := hq_
            have hP : va_P g.1 vwCl [(mo, .inr (4, [.ref mn, .ref mp, .int (nI (recS zs + 1)), .ref mq, .int (xz (zk)), .ref mt, .int (nI zl), .ref mm, .int (nI zp), .ref md, .int (nI zr)])), (mn, .inl (g.2.1 0, 988, .inl (cmsW w (nr w) 0 ((a))))), (mp, .inl (g.2.1 0, 3952, .inl (recP w pa zs))), (mq, .inl (g.2.1 0, 988, .inl (sn))), (mt, .inl (g.2.1 1, 60, .inl (tx))), (mm, .inl (g.2.1 0, 48, .inl (me))), (md, .inl (g.2.1 0, 40, .inl (td)))] H := xjoin hP hD hw_ hk_ [0, 1, 2, 3, 4, 5, 6] [(true, 0), (true, 1), (true, 2), (true, 3), (true, 4), (true, 5), (true, 6)] rfl rfl rfl
            have hD : va_D (MF mo mn mp mq mt mm md) [(mo, .inr (4, [.ref mn, .ref mp, .int (nI (recS zs + 1)), .ref mq, .int (xz (zk)), .ref mt, .int (nI zl), .ref mm, .int (nI zp), .ref md, .int (nI zr)])), (mn, .inl (g.2.1 0, 988, .inl (cmsW w (nr w) 0 ((a))))), (mp, .inl (g.2.1 0, 3952, .inl (recP w pa zs))), (mq, .inl (g.2.1 0, 988, .inl (sn))), (mt, .inl (g.2.1 1, 60, .inl (tx))), (mm, .inl (g.2.1 0, 48, .inl (me))), (md, .inl (g.2.1 0, 40, .inl (td)))] := va_D_eq (by rfl) hD
            refine lv_aload_n hx hb dX4_addRow_70 rfl (lv_at hl 1 rfl) ?_
            refine lv_iload hx hb dX4_addRow_71 (lv_at hl 0 rfl) ?_
            refine xN_const hx hb 1 dX4_addRow_73 (by decide) ?_
            refine lv_iload_n hx hb dX4_addRow_74 rfl (lv_at hl 3 rfl) ?_
            refine xcv (xrV hF (c_X4_comes l g mo mn mp mq mt mm md (recS zs + 1) zl zp zr zk (cmsW w (nr w) 0 ((a))) (recP w pa zs) sn tx me td hD hAB (nr w) 1 (by omega) (by omega) ((b))) cal_X4_comes q_130 ⟨by decide, by decide⟩ rfl rfl rfl (va_recv hF.2.1 hP (ci := 4) (q0 := 0) rfl rfl) (hZ.at hS hAB) (hP) hl.1 rfl (Nat.le_of_ble_eq_true rfl) dX4_addRow_75 ⟨Nat.le_refl _, Nat.le_refl _⟩) hS (xin_sub [0, 1, 2, 3, 4, 5, 6] rfl) (xin_sub [0, 1, 2, 3, 4, 5, 6] rfl) (fun H locs hq_ hz_ hk_ hS => ?_)
            have hw_ := hq_
            have hP : va_P g.1 vwCl [(mo, .inr (4, [.ref mn, .ref mp, .int (nI (recS zs + 1)), .ref mq, .int (xz (zk)), .ref mt, .int (nI zl), .ref mm, .int (nI zp), .ref md, .int (nI zr)])), (mn, .inl (g.2.1 0, 988, .inl (cmsW (cmsW w (nr w) 0 ((a))) (nr w) 1 ((b))))), (mp, .inl (g.2.1 0, 3952, .inl (recP w pa zs))), (mq, .inl (g.2.1 0, 988, .inl (sn))), (mt, .inl (g.2.1 1, 60, .inl (tx))), (mm, .inl (g.2.1 0, 48, .inl (me))), (md, .inl (g.2.1 0, 40, .inl (td)))] H := xjoin hP hD hw_ hk_ [0, 1, 2, 3, 4, 5, 6] [(true, 0), (true, 1), (true, 2), (true, 3), (true, 4), (true, 5), (true, 6)] rfl rfl rfl
            have hD : va_D (MF mo mn mp mq mt mm md) [(mo, .inr (4, [.ref mn, .ref mp, .int (nI (recS zs + 1)), .ref mq, .int (xz (zk)), .ref mt, .int (nI zl), .ref mm, .int (nI zp), .ref md, .int (nI zr)])), (mn, .inl (g.2.1 0, 988, .inl (cmsW (cmsW w (nr w) 0 ((a))) (nr w) 1 ((b))))), (mp, .inl (g.2.1 0, 3952, .inl (recP w pa zs))), (mq, .inl (g.2.1 0, 988, .inl (sn))), (mt, .inl (g.2.1 1, 60, .inl (tx))), (mm, .inl (g.2.1 0, 48, .inl (me))), (md, .inl (g.2.1 0, 40, .inl (td)))] := va_D_eq (by rfl) hD
            refine lv_aload_n hx hb dX4_addRow_78 rfl (lv_at hl 1 rfl) ?_
            refine lv_iload hx hb dX4_addRow_79 (lv_at hl 0 rfl) ?_
            refine xN_const hx hb 2 dX4_addRow_81 (by decide) ?_
            refine lv_iload_n hx hb dX4_addRow_82 rfl (lv_at hl 4 rfl) ?_
            refine xcv (xrV hF (c_X4_comes l g mo mn mp mq mt mm md (recS zs + 1) zl zp zr zk (cmsW (cmsW w (nr w) 0 ((a))) (nr w) 1 ((b))) (recP w pa zs) sn tx me td hD hAB (nr w) 2 (by omega) (by omega) ((c9))) cal_X4_comes q_130 ⟨by decide, by decide⟩ rfl rfl rfl (va_recv hF.2.1 hP (ci := 4) (q0 := 0) rfl rfl) (hZ.at hS hAB) (hP) hl.1 rfl (Nat.le_of_ble_eq_true rfl) dX4_addRow_83 ⟨Nat.le_refl _, Nat.le_refl _⟩) hS (xin_sub [0, 1, 2, 3, 4, 5, 6] rfl) (xin_sub [0, 1, 2, 3, 4, 5, 6] rfl) (fun H locs hq_ hz_ hk_ hS => ?_)
            have hw_ := hq_
            have hP : va_P g.1 vwCl [(mo, .inr (4, [.ref mn, .ref mp, .int (nI (recS zs + 1)), .ref mq, .int (xz (zk)), .ref mt, .int (nI zl), .ref mm, .int (nI zp), .ref md, .int (nI zr)])), (mn, .inl (g.2.1 0, 988, .inl (cmsW (cmsW (cmsW w (nr w) 0 ((a))) (nr w) 1 ((b))) (nr w) 2 ((c9))))), (mp, .inl (g.2.1 0, 3952, .inl (recP w pa zs))), (mq, .inl (g.2.1 0, 988, .inl (sn))), (mt, .inl (g.2.1 1, 60, .inl (tx))), (mm, .inl (g.2.1 0, 48, .inl (me))), (md, .inl (g.2.1 0, 40, .inl (td)))] H := xjoin hP hD hw_ hk_ [0, 1, 2, 3, 4, 5, 6] [(true, 0), (true, 1), (true, 2), (true, 3), (true, 4), (true, 5), (true, 6)] rfl rfl rfl
            have hD : va_D (MF mo mn mp mq mt mm md) [(mo, .inr (4, [.ref mn, .ref mp, .int (nI (recS zs + 1)), .ref mq, .int (xz (zk)), .ref mt, .int (nI zl), .ref mm, .int (nI zp), .ref md, .int (nI zr)])), (mn, .inl (g.2.1 0, 988, .inl (cmsW (cmsW (cmsW w (nr w) 0 ((a))) (nr w) 1 ((b))) (nr w) 2 ((c9))))), (mp, .inl (g.2.1 0, 3952, .inl (recP w pa zs))), (mq, .inl (g.2.1 0, 988, .inl (sn))), (mt, .inl (g.2.1 1, 60, .inl (tx))), (mm, .inl (g.2.1 0, 48, .inl (me))), (md, .inl (g.2.1 0, 40, .inl (td)))] := va_D_eq (by rfl) hD
            refine lv_aload_n hx hb dX4_addRow_86 rfl (lv_at hl 1 rfl) ?_
            refine lv_iload hx hb dX4_addRow_87 (lv_at hl 0 rfl) ?_
            refine xN_const hx hb 3 dX4_addRow_89 (by decide) ?_
            refine lv_iload hx hb dX4_addRow_90 (lv_at hl 5 rfl) ?_
            refine xcv (xrV hF (c_X4_comes l g mo mn mp mq mt mm md (recS zs + 1) zl zp zr zk (cmsW (cmsW (cmsW w (nr w) 0 ((a))) (nr w) 1 ((b))) (nr w) 2 ((c9))) (recP w pa zs) sn tx me td hD hAB (nr w) 3 (by omega) (by omega) ((d9))) cal_X4_comes q_130 ⟨by decide, by decide⟩ rfl rfl rfl (va_recv hF.2.1 hP (ci := 4) (q0 := 0) rfl rfl) (hZ.at hS hAB) (hP) hl.1 rfl (Nat.le_of_ble_eq_true rfl) dX4_addRow_92 ⟨Nat.le_refl _, Nat.le_refl _⟩) hS (xin_sub [0, 1, 2, 3, 4, 5, 6] rfl) (xin_sub [0, 1, 2, 3, 4, 5, 6] rfl) (fun H locs hq_ hz_ hk_ hS => ?_)
            have hw_ := hq_
            have hP : va_P g.1 vwCl [(mo, .inr (4, [.ref mn, .ref mp, .int (nI (recS zs + 1)), .ref mq, .int (xz (zk)), .ref mt, .int (nI zl), .ref mm, .int (nI zp), .ref md, .int (nI zr)])), (mn, .inl (g.2.1 0, 988, .inl (cmsW (cmsW (cmsW (cmsW w (nr w) 0 ((a))) (nr w) 1 ((b))) (nr w) 2 ((c9))) (nr w) 3 ((d9))))), (mp, .inl (g.2.1 0, 3952, .inl (recP w pa zs))), (mq, .inl (g.2.1 0, 988, .inl (sn))), (mt, .inl (g.2.1 1, 60, .inl (tx))), (mm, .inl (g.2.1 0, 48, .inl (me))), (md, .inl (g.2.1 0, 40, .inl (td)))] H := xjoin hP hD hw_ hk_ [0, 1, 2, 3, 4, 5, 6] [(true, 0), (true, 1), (true, 2), (true, 3), (true, 4), (true, 5), (true, 6)] rfl rfl rfl
            have hD : va_D (MF mo mn mp mq mt mm md) [(mo, .inr (4, [.ref mn, .ref mp, .int (nI (recS zs + 1)), .ref mq, .int (xz (zk)), .ref mt, .int (nI zl), .ref mm, .int (nI zp), .ref md, .int (nI zr)])), (mn, .inl (g.2.1 0, 988, .inl (cmsW (cmsW (cmsW (cmsW w (nr w) 0 ((a))) (nr w) 1 ((b))) (nr w) 2 ((c9))) (nr w) 3 ((d9))))), (mp, .inl (g.2.1 0, 3952, .inl (recP w pa zs))), (mq, .inl (g.2.1 0, 988, .inl (sn))), (mt, .inl (g.2.1 1, 60, .inl (tx))), (mm, .inl (g.2.1 0, 48, .inl (me))), (md, .inl (g.2.1 0, 40, .inl (td)))] := va_D_eq (by rfl) hD
            refine lv_aload_n hx hb dX4_addRow_95 rfl (lv_at hl 1 rfl) ?_
            refine gf_X4_X4_now hF hP 0 rfl rfl dX4_addRow_96 ?_
            refine xN_const hx hb 0 dX4_addRow_99 (by decide) ?_
            refine lv_dup2_11 hx hb dX4_addRow_100 rfl rfl ?_
            refine xA_ild hF hP 1 rfl (by omega) (by decide) (v := nI (nr w)) (by rw [cmsW_lo (by omega), cmsW_lo (by omega), cmsW_lo (by omega), cmsW_lo (by omega)]; exact hW.r0) dX4_addRow_101 ?_
            refine xN_const hx hb 1 dX4_addRow_102 (by decide) ?_
            refine xN_add hx hb dX4_addRow_103 ?_
            refine xA_ist hF hP hD hS 1 rfl (by omega) (by decide) dX4_addRow_104 (fun H locs hP hS => ?_)
            have hP : va_P g.1 vwCl [(mo, .inr (4, [.ref mn, .ref mp, .int (nI (recS zs + 1)), .ref mq, .int (xz (zk)), .ref mt, .int (nI zl), .ref mm, .int (nI zp), .ref md, .int (nI zr)])), (mn, .inl (g.2.1 0, 988, .inl (upd (cmsW (cmsW (cmsW (cmsW w (nr w) 0 ((a))) (nr w) 1 ((b))) (nr w) 2 ((c9))) (nr w) 3 ((d9))) (0) (nI (nr w + 1))))), (mp, .inl (g.2.1 0, 3952, .inl (recP w pa zs))), (mq, .inl (g.2.1 0, 988, .inl (sn))), (mt, .inl (g.2.1 1, 60, .inl (tx))), (mm, .inl (g.2.1 0, 48, .inl (me))), (md, .inl (g.2.1 0, 40, .inl (td)))] H := hP
            have hD : va_D (MF mo mn mp mq mt mm md) [(mo, .inr (4, [.ref mn, .ref mp, .int (nI (recS zs + 1)), .ref mq, .int (xz (zk)), .ref mt, .int (nI zl), .ref mm, .int (nI zp), .ref md, .int (nI zr)])), (mn, .inl (g.2.1 0, 988, .inl (upd (cmsW (cmsW (cmsW (cmsW w (nr w) 0 ((a))) (nr w) 1 ((b))) (nr w) 2 ((c9))) (nr w) 3 ((d9))) (0) (nI (nr w + 1))))), (mp, .inl (g.2.1 0, 3952, .inl (recP w pa zs))), (mq, .inl (g.2.1 0, 988, .inl (sn))), (mt, .inl (g.2.1 1, 60, .inl (tx))), (mm, .inl (g.2.1 0, 48, .inl (me))), (md, .inl (g.2.1 0, 40, .inl (td)))] := (va_D_eq (by rfl) hD)
            refine lv_iload hx hb dX4_addRow_105 (lv_at hl 0 rfl) ?_
            exact xend_i (V := nI (nr w)) hF hret hlocks hS (⟨by unfold addA; rw [c_5, c_13, c_21, c_30, if_pos (show (true && (true && (true && true))) = true from rfl), if_neg c_44], fun h => absurd h (by rw [show (addB w a b c9 d9) = true from (by simp [addB, c_5, c_13, c_21, c_30, c_44])]; decide), fun _ => hP⟩) dX4_addRow_107
          · refine lv_bipush hx hb (v := (-3)) dX4_addRow_47 (by decide) ?_
            exact xend_i (V := (-3)) hF hret hlocks hS (⟨by unfold addA; rw [c_5, c_13, c_21, c_30, if_pos (show (true && (true && (true && true))) = true from rfl), if_pos c_44], fun _ => hP, fun h => absurd h (by rw [show (addB w a b c9 d9) = false from (by simp [addB, c_44, c_5, c_13, c_21, c_30])]; decide)⟩) dX4_addRow_49
        · refine lv_bipush hx hb (v := (-2)) dX4_addRow_33 (by decide) ?_
          exact xend_i (V := (-2)) hF hret hlocks hS (⟨by unfold addA; rw [c_5, c_13, c_21, c_30]; rfl, fun _ => hP, fun h => absurd h (by rw [show (addB w a b c9 d9) = false from (by simp [addB, c_5, c_13, c_21, c_30])]; decide)⟩) dX4_addRow_35
set_option maxHeartbeats 4000000 in
set_option maxRecDepth 100000 in
theorem c_X4_removeRow (l : Launch) (g : XG) (mo mn mp mq mt mm md zs zl zp zr : Nat) (zk : Bool) (w pa sn tx me td : Nat → Int32) (hD : va_D (MF mo mn mp mq mt mm md) (ModW g mo mn mp mq mt mm md zs zl zp zr zk w pa sn tx me td)) (hAB : ∀ q, MF mo mn mp mq mt mm md q → xB g q) (hW : WF w) (hz4 : zs ≤ 4)  : Met l yX4_removeRow (ww yX4_removeRow cX4_removeRow 1 (some .int)) (rmD 2) (xP g [.ref mo] (fun H => va_P g.1 vwCl (ModW g mo mn mp mq mt mm md zs zl zp zr zk w pa sn tx me td) H)) (xQi (fun r9 H => r9 = remA w ∧ ((!(nr w == 0)) = false → va_P g.1 vwCl (ModW g mo mn mp mq mt mm md (zs) (zl) (zp) (zr) (zk) (w) (pa) (sn) (tx) (me) (td)) H) ∧ ((!(nr w == 0)) = true → va_P g.1 vwCl (ModW g mo mn mp mq mt mm md (recS zs + 1) (zl) (zp) (zr) (zk) (remW w) (recP w pa zs) (sn) (tx) (me) (td)) H)) (MF mo mn mp mq mt mm md)) 0 0 (MF mo mn mp mq mt mm md) := by
  refine xMetM (by decide) rfl (Nat.le_of_ble_eq_true rfl) ?_
  intro p e s m below meth c ls H locs hF hZ hh hS hret hlocks hin hl
  have hx := hF.1.1
  have hb := hF.1.2.1
  have hP := hh
  have hP : va_P g.1 vwCl (ModW g mo mn mp mq mt mm md zs zl zp zr zk w pa sn tx me td) H := hP
  have hl : lv_has ls 1 [(0, .ref mo)] := hl
  have h48 := hW.n48
  refine lv_aload_n hx hb dX4_removeRow_0 rfl (lv_at hl 0 rfl) ?_
  refine gf_X4_X4_now hF hP 0 rfl rfl dX4_removeRow_1 ?_
  refine xN_const hx hb 0 dX4_removeRow_4 (by decide) ?_
  refine xA_ild hF hP 1 rfl (by omega) (by decide) (v := nI (nr w)) (hW.r0) dX4_removeRow_5 ?_
  refine xI_ne (tgt := 12) hx hb (by omega) dX4_removeRow_6 (by decide) (fun c_6 => ?_) (fun c_6 => ?_)
  · refine lv_aload_n hx hb dX4_removeRow_12 rfl (lv_at hl 0 rfl) ?_
    refine xcv (xrV hF (c_X4_records l g mo mn mp mq mt mm md zs zl zp zr zk w pa sn tx me td hD hAB (by omega)) cal_X4_records q_122 ⟨by decide, by decide⟩ rfl rfl rfl (va_recv hF.2.1 hP (ci := 4) (q0 := 0) rfl rfl) (hZ.at hS hAB) (hP) hl.1 rfl (Nat.le_of_ble_eq_true rfl) dX4_removeRow_13 ⟨Nat.le_refl _, Nat.le_refl _⟩) hS (xin_sub [0, 1, 2, 3, 4, 5, 6] rfl) (xin_sub [0, 1, 2, 3, 4, 5, 6] rfl) (fun H locs hq_ hz_ hk_ hS => ?_)
    have hw_ := hq_
    have hP : va_P g.1 vwCl [(mo, .inr (4, [.ref mn, .ref mp, .int (nI (recS zs + 1)), .ref mq, .int (xz (zk)), .ref mt, .int (nI zl), .ref mm, .int (nI zp), .ref md, .int (nI zr)])), (mn, .inl (g.2.1 0, 988, .inl (w))), (mp, .inl (g.2.1 0, 3952, .inl (recP w pa zs))), (mq, .inl (g.2.1 0, 988, .inl (sn))), (mt, .inl (g.2.1 1, 60, .inl (tx))), (mm, .inl (g.2.1 0, 48, .inl (me))), (md, .inl (g.2.1 0, 40, .inl (td)))] H := xjoin hP hD hw_ hk_ [0, 1, 2, 3, 4, 5, 6] [(true, 0), (true, 1), (true, 2), (true, 3), (true, 4), (true, 5), (true, 6)] rfl rfl rfl
    have hD : va_D (MF mo mn mp mq mt mm md) [(mo, .inr (4, [.ref mn, .ref mp, .int (nI (recS zs + 1)), .ref mq, .int (xz (zk)), .ref mt, .int (nI zl), .ref mm, .int (nI zp), .ref md, .int (nI zr)])), (mn, .inl (g.2.1 0, 988, .inl (w))), (mp, .inl (g.2.1 0, 3952, .inl (recP w pa zs))), (mq, .inl (g.2.1 0, 988, .inl (sn))), (mt, .inl (g.2.1 1, 60, .inl (tx))), (mm, .inl (g.2.1 0, 48, .inl (me))), (md, .inl (g.2.1 0, 40, .inl (td)))] := va_D_eq (by rfl) hD
    refine lv_aload_n hx hb dX4_removeRow_16 rfl (lv_at hl 0 rfl) ?_
    refine gf_X4_X4_now hF hP 0 rfl rfl dX4_removeRow_17 ?_
    refine xN_const hx hb 0 dX4_removeRow_20 (by decide) ?_
    refine lv_dup2_11 hx hb dX4_removeRow_21 rfl rfl ?_
    refine xA_ild hF hP 1 rfl (by omega) (by decide) (v := nI (nr w)) (hW.r0) dX4_removeRow_22 ?_
    refine xN_const hx hb 1 dX4_removeRow_23 (by decide) ?_
    refine xN_sub hx hb (by omega) dX4_removeRow_24 ?_
    refine xA_ist hF hP hD hS 1 rfl (by omega) (by decide) dX4_removeRow_25 (fun H locs hP hS => ?_)
    have hP : va_P g.1 vwCl [(mo, .inr (4, [.ref mn, .ref mp, .int (nI (recS zs + 1)), .ref mq, .int (xz (zk)), .ref mt, .int (nI zl), .ref mm, .int (nI zp), .ref md, .int (nI zr)])), (mn, .inl (g.2.1 0, 988, .inl (upd (w) (0) (nI ((nr w) - 1))))), (mp, .inl (g.2.1 0, 3952, .inl (recP w pa zs))), (mq, .inl (g.2.1 0, 988, .inl (sn))), (mt, .inl (g.2.1 1, 60, .inl (tx))), (mm, .inl (g.2.1 0, 48, .inl (me))), (md, .inl (g.2.1 0, 40, .inl (td)))] H := hP
    have hD : va_D (MF mo mn mp mq mt mm md) [(mo, .inr (4, [.ref mn, .ref mp, .int (nI (recS zs + 1)), .ref mq, .int (xz (zk)), .ref mt, .int (nI zl), .ref mm, .int (nI zp), .ref md, .int (nI zr)])), (mn, .inl (g.2.1 0, 988, .inl (upd (w) (0) (nI ((nr w) - 1))))), (mp, .inl (g.2.1 0, 3952, .inl (recP w pa zs))), (mq, .inl (g.2.1 0, 988, .inl (sn))), (mt, .inl (g.2.1 1, 60, .inl (tx))), (mm, .inl (g.2.1 0, 48, .inl (me))), (md, .inl (g.2.1 0, 40, .inl (td)))] := (va_D_eq (by rfl) hD)
    refine lv_aload_n hx hb dX4_removeRow_26 rfl (lv_at hl 0 rfl) ?_
    refine lv_aload_n hx hb dX4_removeRow_27 rfl (lv_at hl 0 rfl) ?_
    refine gf_X4_X4_now hF hP 0 rfl rfl dX4_removeRow_28 ?_
    refine xN_const hx hb 0 dX4_removeRow_31 (by decide) ?_
    refine xA_ild hF hP 1 rfl (by omega) (by decide) (v := nI (nr w - 1)) (upd_at _ _ _) dX4_removeRow_32 ?_
    refine xcv (xrV hF (c_X4_leaves l g mo mn mp mq mt mm md (recS zs + 1) zl zp zr zk (upd (w) (0) (nI ((nr w) - 1))) (recP w pa zs) sn tx me td hD hAB (nr w - 1) (by omega)) cal_X4_leaves q_208 ⟨by decide, by decide⟩ rfl rfl rfl (va_recv hF.2.1 hP (ci := 4) (q0 := 0) rfl rfl) (hZ.at hS hAB) (hP) hl.1 rfl (Nat.le_of_ble_eq_true rfl) dX4_removeRow_33 ⟨Nat.le_refl _, Nat.le_refl _⟩) hS (xin_sub [0, 1, 2, 3, 4, 5, 6] rfl) (xin_sub [0, 1, 2, 3, 4, 5, 6] rfl) (fun H locs hq_ hz_ hk_ hS => ?_)
    have hw_ := hq_
    have hP : va_P g.1 vwCl [(mo, .inr (4, [.ref mn, .ref mp, .int (nI (recS zs + 1)), .ref mq, .int (xz (zk)), .ref mt, .int (nI zl), .ref mm, .int (nI zp), .ref md, .int (nI zr)])), (mn, .inl (g.2.1 0, 988, .inl (xzero (upd (w) (0) (nI ((nr w) - 1))) (28 + 5 * (4 * (nr w - 1))) 20))), (mp, .inl (g.2.1 0, 3952, .inl (recP w pa zs))), (mq, .inl (g.2.1 0, 988, .inl (sn))), (mt, .inl (g.2.1 1, 60, .inl (tx))), (mm, .inl (g.2.1 0, 48, .inl (me))), (md, .inl (g.2.1 0, 40, .inl (td)))] H := xjoin hP hD hw_ hk_ [0, 1, 2, 3, 4, 5, 6] [(true, 0), (true, 1), (true, 2), (true, 3), (true, 4), (true, 5), (true, 6)] rfl rfl rfl
    have hD : va_D (MF mo mn mp mq mt mm md) [(mo, .inr (4, [.ref mn, .ref mp, .int (nI (recS zs + 1)), .ref mq, .int (xz (zk)), .ref mt, .int (nI zl), .ref mm, .int (nI zp), .ref md, .int (nI zr)])), (mn, .inl (g.2.1 0, 988, .inl (xzero (upd (w) (0) (nI ((nr w) - 1))) (28 + 5 * (4 * (nr w - 1))) 20))), (mp, .inl (g.2.1 0, 3952, .inl (recP w pa zs))), (mq, .inl (g.2.1 0, 988, .inl (sn))), (mt, .inl (g.2.1 1, 60, .inl (tx))), (mm, .inl (g.2.1 0, 48, .inl (me))), (md, .inl (g.2.1 0, 40, .inl (td)))] := va_D_eq (by rfl) hD
    refine lv_aload_n hx hb dX4_removeRow_36 rfl (lv_at hl 0 rfl) ?_
    refine gf_X4_X4_now hF hP 0 rfl rfl dX4_removeRow_37 ?_
    refine xN_const hx hb 0 dX4_removeRow_40 (by decide) ?_
    refine xA_ild hF hP 1 rfl (by omega) (by decide) (v := nI (nr w - 1)) (by unfold xzero; rw [if_neg (by omega)]; exact upd_at _ _ _) dX4_removeRow_41 ?_
    exact xend_i (V := nI (nr w - 1)) hF hret hlocks hS (⟨by unfold remA; rw [if_neg (by omega)], fun h => absurd h (by rw [show ((!(nr w == 0))) = true from (by simp; omega)]; decide), fun _ => hP⟩) dX4_removeRow_42
  · refine lv_bipush hx hb (v := (-4)) dX4_removeRow_9 (by decide) ?_
    exact xend_i (V := (-4)) hF hret hlocks hS (⟨by unfold remA; rw [if_pos c_6], fun _ => hP, fun h => absurd h (by rw [show ((!(nr w == 0))) = false from (by simp [c_6])]; decide)⟩) dX4_removeRow_11
