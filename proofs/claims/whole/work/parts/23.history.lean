/-! the history, the text -/
set_option maxHeartbeats 4000000 in
set_option maxRecDepth 100000 in
theorem c_X0_latest (l : Launch) (g : XG) (ho ha zo zh so : Nat) (sl : Nat → Option Nat) (hzo : zo < 4) (hz1 : 1 ≤ zh) (hz4 : zh ≤ 4) (hsl : sl ((zo + zh - 1) % 4) = some so) : Met l yX0_latest (ww yX0_latest cX0_latest 2 (some (.object "DittoLog$Log"))) (rmD 0) (xP g [.ref ho] (fun H => va_P g.1 vwCl [(ho, .inr (0, [.ref ha, .int (nI zo), .int (nI zh)])), (ha, .inl (g.2.1 2, 4, .inr (.inr (.inr (.inr sl)))))] H)) (va_Sq (fun r9 => r9 = some so)) 0 0 (fun _ => False) := by
  refine xMet (by decide) rfl (Nat.le_of_ble_eq_true rfl) ?_
  intro p e s m below meth c ls hF hZ hh hret hlocks hin hl
  have hx := hF.1.1
  have hb := hF.1.2.1
  have hP := hh
  have hP : va_P g.1 vwCl [(ho, .inr (0, [.ref ha, .int (nI zo), .int (nI zh)])), (ha, .inl (g.2.1 2, 4, .inr (.inr (.inr (.inr sl)))))] s.heap := hP
  have hl : lv_has ls 2 [(0, .ref ho)] := hl
  refine lv_aload_n hx hb dX0_latest_0 rfl (lv_at hl 0 rfl) ?_
  refine gf_X0_X0_oldest hF hP 0 rfl rfl dX0_latest_1 ?_
  refine lv_aload_n hx hb dX0_latest_4 rfl (lv_at hl 0 rfl) ?_
  refine gf_X0_X0_size hF hP 0 rfl rfl dX0_latest_5 ?_
  refine xN_add hx hb dX0_latest_8 ?_
  refine xN_const hx hb 1 dX0_latest_9 (by decide) ?_
  refine xN_sub hx hb (by omega) dX0_latest_10 ?_
  refine xN_const hx hb 4 dX0_latest_11 (by decide) ?_
  refine xN_rem hx hb (by omega) (by omega) (by omega) dX0_latest_12 ?_
  refine lv_istore_n (lv' := [(1, .int (nI (((zo + zh) - 1) % 4))), (0, .ref ho)]) hx hb dX0_latest_13 rfl hl (by decide) rfl (fun ls hl => ?_)
  refine lv_iload_n hx hb dX0_latest_14 rfl (lv_at hl 0 rfl) ?_
  refine xI_lt (tgt := 36) hx hb (by omega) dX0_latest_15 (by decide) ?_
  refine lv_iload_n hx hb dX0_latest_18 rfl (lv_at hl 0 rfl) ?_
  refine lv_aload_n hx hb dX0_latest_19 rfl (lv_at hl 1 rfl) ?_
  refine gf_X0_X0_states hF hP 0 rfl rfl dX0_latest_20 ?_
  refine xA_len hF hP 1 2 rfl rfl dX0_latest_23 ?_
  refine xC_ge (tgt := 36) hx hb (by omega) (by omega) dX0_latest_24 (by decide) (fun c_24 => absurd c_24 (by omega)) (fun c_24 => ?_)
  refine lv_aload_n hx hb dX0_latest_27 rfl (lv_at hl 1 rfl) ?_
  refine gf_X0_X0_states hF hP 0 rfl rfl dX0_latest_28 ?_
  refine lv_iload_n hx hb dX0_latest_31 rfl (lv_at hl 0 rfl) ?_
  refine xA_qld hF hP 1 rfl (by omega) (by decide) (v := .ref so) (by rw [hsl]; rfl) dX0_latest_32 ?_
  refine lv_goto (tgt := 37) hx hb dX0_latest_33 (by decide) ?_
  exact xret_q (V := so) hF hret hlocks (Or.inl ⟨_, rfl⟩) (rfl) dX0_latest_37
set_option maxHeartbeats 4000000 in
set_option maxRecDepth 100000 in
theorem c_X0_remember (l : Launch) (g : XG) (ho ha zo zh so se sc su yn yg yt yw ao ae ac au : Nat) (sl : Nat → Option Nat) (he hc hs fe fc fs w : Nat → Int32) (hW : WF w) (hR : LR fe fc fs w) (hzo : zo < 4) (hz4 : zh ≤ 4) (hD : va_D (xin [ho, ha, so, se, sc, su, ao, ae, ac, au]) ((ho, .inr (0, [.ref ha, .int (nI zo), .int (nI zh)])) :: (ha, .inl (g.2.1 2, 4, .inr (.inr (.inr (.inr sl))))) :: (LogX g so se sc su he hc hs yn yg yt yw ++ LogC g ao ae ac au fe fc fs w))) (hAB : ∀ q, xin [ho, ha, so, se, sc, su, ao, ae, ac, au] q → xB g q) (hsl : sl ((zo + zh) % 4) = some so) : Met l yX0_remember (ww yX0_remember cX0_remember 3 none) (rmD 3) (xP g [.ref ho, .ref ao] (fun H => va_P g.1 vwCl ((ho, .inr (0, [.ref ha, .int (nI zo), .int (nI zh)])) :: (ha, .inl (g.2.1 2, 4, .inr (.inr (.inr (.inr sl))))) :: (LogX g so se sc su he hc hs yn yg yt yw ++ LogC g ao ae ac au fe fc fs w)) H)) (xQv (fun H => ∃ he2 hc2 hs2 : Nat → Int32, LR he2 hc2 hs2 w ∧ va_P g.1 vwCl ((ho, .inr (0, [.ref ha, .int (nI (oldN zo zh)), .int (nI (recS zh + 1))])) :: (ha, .inl (g.2.1 2, 4, .inr (.inr (.inr (.inr sl))))) :: (LogC g so se sc su he2 hc2 hs2 w ++ LogC g ao ae ac au fe fc fs w)) H) (xin [ho, ha, so, se, sc, su, ao, ae, ac, au])) 0 0 (xin [ho, ha, so, se, sc, su, ao, ae, ac, au]) := by
  refine xMetM (by decide) rfl (Nat.le_of_ble_eq_true rfl) ?_
  intro p e s m below meth c ls H locs hF hZ hh hS hret hlocks hin hl
  have hx := hF.1.1
  have hb := hF.1.2.1
  have hP := hh
  have hP : va_P g.1 vwCl ((ho, .inr (0, [.ref ha, .int (nI zo), .int (nI zh)])) :: (ha, .inl (g.2.1 2, 4, .inr (.inr (.inr (.inr sl))))) :: (LogX g so se sc su he hc hs yn yg yt yw ++ LogC g ao ae ac au fe fc fs w)) H := hP
  have hl : lv_has ls 3 [(0, .ref ho), (1, .ref ao)] := hl
  refine lv_aload_n hx hb dX0_remember_0 rfl (lv_at hl 0 rfl) ?_
  refine gf_X0_X0_size hF hP 0 rfl rfl dX0_remember_1 ?_
  refine xN_const hx hb 4 dX0_remember_4 (by decide) ?_
  refine xC_ge (tgt := 21) hx hb (by omega) (by omega) dX0_remember_5 (by decide) (fun c_5 => ?_) (fun c_5 => ?_)
  · refine lv_aload_n hx hb dX0_remember_21 rfl (lv_at hl 0 rfl) ?_
    refine lv_aload_n hx hb dX0_remember_22 rfl (lv_at hl 0 rfl) ?_
    refine gf_X0_X0_oldest hF hP 0 rfl rfl dX0_remember_23 ?_
    refine xN_const hx hb 1 dX0_remember_26 (by decide) ?_
    refine xN_add hx hb dX0_remember_27 ?_
    refine xN_const hx hb 4 dX0_remember_28 (by decide) ?_
    refine xN_rem hx hb (by omega) (by omega) (by omega) dX0_remember_29 ?_
    refine pf_X0_X0_oldest hF hP hD hS 0 rfl (Nat.le_of_ble_eq_true rfl) dX0_remember_30 (fun H locs hP hS => ?_)
    have hP : va_P g.1 vwCl [(ho, .inr (0, [.ref ha, .int (nI ((zo + 1) % 4)), .int (nI zh)])), (ha, .inl (g.2.1 2, 4, .inr (.inr (.inr (.inr (sl)))))), (so, .inr (1, [.ref se, .ref sc, .ref su, .int (nI yn), .int (nI yg), .int (nI yt), .int (nI yw)])), (se, .inl (g.2.1 0, 768, .inl (he))), (sc, .inl (g.2.1 0, 192, .inl (hc))), (su, .inl (g.2.1 0, 24, .inl (hs))), (ao, .inr (1, [.ref ae, .ref ac, .ref au, .int (nI (nr w)), .int (nI (pgN w)), .int (nI (stN w)), .int (nI (wrN w))])), (ae, .inl (g.2.1 0, 768, .inl (fe))), (ac, .inl (g.2.1 0, 192, .inl (fc))), (au, .inl (g.2.1 0, 24, .inl (fs)))] H := hP
    have hD : va_D (xin [ho, ha, so, se, sc, su, ao, ae, ac, au]) [(ho, .inr (0, [.ref ha, .int (nI ((zo + 1) % 4)), .int (nI zh)])), (ha, .inl (g.2.1 2, 4, .inr (.inr (.inr (.inr (sl)))))), (so, .inr (1, [.ref se, .ref sc, .ref su, .int (nI yn), .int (nI yg), .int (nI yt), .int (nI yw)])), (se, .inl (g.2.1 0, 768, .inl (he))), (sc, .inl (g.2.1 0, 192, .inl (hc))), (su, .inl (g.2.1 0, 24, .inl (hs))), (ao, .inr (1, [.ref ae, .ref ac, .ref au, .int (nI (nr w)), .int (nI (pgN w)), .int (nI (stN w)), .int (nI (wrN w))])), (ae, .inl (g.2.1 0, 768, .inl (fe))), (ac, .inl (g.2.1 0, 192, .inl (fc))), (au, .inl (g.2.1 0, 24, .inl (fs)))] := (va_D_eq (by rfl) hD)
    refine lv_aload_n hx hb dX0_remember_33 rfl (lv_at hl 0 rfl) ?_
    refine va_csq (va_Run.run (xrV hF (c_X0_latest l g ho ha ((zo + 1) % 4) zh so sl (by omega) (by omega) (by omega) (by rw [show ((zo + 1) % 4 + zh - 1) % 4 = (zo + zh) % 4 by omega]; exact hsl)) cal_X0_latest q_81 ⟨by decide, by decide⟩ rfl rfl rfl (va_recv hF.2.1 hP (ci := 0) (q0 := 0) rfl rfl) (hZ.at hS hAB) (hP.sub [0, 1] rfl) hl.1 rfl (Nat.le_of_ble_eq_true rfl) dX0_remember_34 ⟨Nat.le_refl _, Nat.le_refl _⟩)) (fun r_ h_ => ?_)
    subst h_
    refine lv_astore_n (lv' := [(2, .ref so), (0, .ref ho), (1, .ref ao)]) hx hb dX0_remember_37 rfl hl (by decide) rfl (fun ls hl => ?_)
    refine lv_aload_n hx hb dX0_remember_38 rfl (lv_at hl 0 rfl) ?_
    refine lv_ifnull hx hb dX0_remember_39 ?_
    refine lv_aload_n hx hb dX0_remember_42 rfl (lv_at hl 0 rfl) ?_
    refine lv_aload_n hx hb dX0_remember_43 rfl (lv_at hl 2 rfl) ?_
    refine xcv (xrVN hF (c_X1_copyFrom l g so se sc su ao ae ac au yn yg yt yw he hc hs fe fc fs w   (hD.self2 [2, 3, 4, 5, 6, 7, 8, 9] (by decide) rfl) (xin_AB hAB [2, 3, 4, 5, 6, 7, 8, 9] rfl) hW hR) cal_X1_copyFrom n_8 ⟨by decide, by decide⟩ rfl rfl rfl (va_recv hF.2.1 hP (ci := 1) (q0 := 2) rfl rfl) (hZ.at hS hAB) (hP.sub [2, 3, 4, 5, 6, 7, 8, 9] rfl) hl.1 rfl (Nat.le_of_ble_eq_true rfl) dX0_remember_44 ⟨Nat.le_refl _, Nat.le_refl _⟩) hS (xin_sub [2, 3, 4, 5, 6, 7, 8, 9] rfl) (xin_sub [2, 3, 4, 5, 6, 7, 8, 9] rfl) (fun H locs hq_ hz_ hk_ hS => ?_)
    obtain ⟨fe_cf_1, fc_cf_1, fs_cf_1, hR_cf_1, hw_⟩ := hq_
    have hP : va_P g.1 vwCl [(ho, .inr (0, [.ref ha, .int (nI ((zo + 1) % 4)), .int (nI zh)])), (ha, .inl (g.2.1 2, 4, .inr (.inr (.inr (.inr (sl)))))), (so, .inr (1, [.ref se, .ref sc, .ref su, .int (nI (nr w)), .int (nI (pgN w)), .int (nI (stN w)), .int (nI (wrN w))])), (se, .inl (g.2.1 0, 768, .inl (fe_cf_1))), (sc, .inl (g.2.1 0, 192, .inl (fc_cf_1))), (su, .inl (g.2.1 0, 24, .inl (fs_cf_1))), (ao, .inr (1, [.ref ae, .ref ac, .ref au, .int (nI (nr w)), .int (nI (pgN w)), .int (nI (stN w)), .int (nI (wrN w))])), (ae, .inl (g.2.1 0, 768, .inl (fe))), (ac, .inl (g.2.1 0, 192, .inl (fc))), (au, .inl (g.2.1 0, 24, .inl (fs)))] H := xjoin hP hD hw_ hk_ [2, 3, 4, 5, 6, 7, 8, 9] [(false, 0), (false, 1), (true, 0), (true, 1), (true, 2), (true, 3), (true, 4), (true, 5), (true, 6), (true, 7)] rfl rfl rfl
    have hD : va_D (xin [ho, ha, so, se, sc, su, ao, ae, ac, au]) [(ho, .inr (0, [.ref ha, .int (nI ((zo + 1) % 4)), .int (nI zh)])), (ha, .inl (g.2.1 2, 4, .inr (.inr (.inr (.inr (sl)))))), (so, .inr (1, [.ref se, .ref sc, .ref su, .int (nI (nr w)), .int (nI (pgN w)), .int (nI (stN w)), .int (nI (wrN w))])), (se, .inl (g.2.1 0, 768, .inl (fe_cf_1))), (sc, .inl (g.2.1 0, 192, .inl (fc_cf_1))), (su, .inl (g.2.1 0, 24, .inl (fs_cf_1))), (ao, .inr (1, [.ref ae, .ref ac, .ref au, .int (nI (nr w)), .int (nI (pgN w)), .int (nI (stN w)), .int (nI (wrN w))])), (ae, .inl (g.2.1 0, 768, .inl (fe))), (ac, .inl (g.2.1 0, 192, .inl (fc))), (au, .inl (g.2.1 0, 24, .inl (fs)))] := va_D_eq (by rfl) hD
    exact xend_v hF hret hlocks hS (⟨_, _, _, hR_cf_1, by unfold oldN recS; rw [if_neg (by omega), if_pos (by omega), show (3 : Nat) + 1 = zh by omega]; exact hP⟩) dX0_remember_47
  · refine lv_aload_n hx hb dX0_remember_8 rfl (lv_at hl 0 rfl) ?_
    refine lv_dup hx hb dX0_remember_9 rfl ?_
    refine gf_X0_X0_size hF hP 0 rfl rfl dX0_remember_10 ?_
    refine xN_const hx hb 1 dX0_remember_13 (by decide) ?_
    refine xN_add hx hb dX0_remember_14 ?_
    refine pf_X0_X0_size hF hP hD hS 0 rfl (Nat.le_of_ble_eq_true rfl) dX0_remember_15 (fun H locs hP hS => ?_)
    have hP : va_P g.1 vwCl [(ho, .inr (0, [.ref ha, .int (nI zo), .int (nI (zh + 1))])), (ha, .inl (g.2.1 2, 4, .inr (.inr (.inr (.inr (sl)))))), (so, .inr (1, [.ref se, .ref sc, .ref su, .int (nI yn), .int (nI yg), .int (nI yt), .int (nI yw)])), (se, .inl (g.2.1 0, 768, .inl (he))), (sc, .inl (g.2.1 0, 192, .inl (hc))), (su, .inl (g.2.1 0, 24, .inl (hs))), (ao, .inr (1, [.ref ae, .ref ac, .ref au, .int (nI (nr w)), .int (nI (pgN w)), .int (nI (stN w)), .int (nI (wrN w))])), (ae, .inl (g.2.1 0, 768, .inl (fe))), (ac, .inl (g.2.1 0, 192, .inl (fc))), (au, .inl (g.2.1 0, 24, .inl (fs)))] H := hP
    have hD : va_D (xin [ho, ha, so, se, sc, su, ao, ae, ac, au]) [(ho, .inr (0, [.ref ha, .int (nI zo), .int (nI (zh + 1))])), (ha, .inl (g.2.1 2, 4, .inr (.inr (.inr (.inr (sl)))))), (so, .inr (1, [.ref se, .ref sc, .ref su, .int (nI yn), .int (nI yg), .int (nI yt), .int (nI yw)])), (se, .inl (g.2.1 0, 768, .inl (he))), (sc, .inl (g.2.1 0, 192, .inl (hc))), (su, .inl (g.2.1 0, 24, .inl (hs))), (ao, .inr (1, [.ref ae, .ref ac, .ref au, .int (nI (nr w)), .int (nI (pgN w)), .int (nI (stN w)), .int (nI (wrN w))])), (ae, .inl (g.2.1 0, 768, .inl (fe))), (ac, .inl (g.2.1 0, 192, .inl (fc))), (au, .inl (g.2.1 0, 24, .inl (fs)))] := (va_D_eq (by rfl) hD)
    refine lv_goto (tgt := 33) hx hb dX0_remember_18 (by decide) ?_
    refine lv_aload_n hx hb dX0_remember_33 rfl (lv_at hl 0 rfl) ?_
    refine va_csq (va_Run.run (xrV hF (c_X0_latest l g ho ha zo (zh + 1) so sl (by omega) (by omega) (by omega) (by rw [show zo + (zh + 1) - 1 = zo + zh by omega]; exact hsl)) cal_X0_latest q_81 ⟨by decide, by decide⟩ rfl rfl rfl (va_recv hF.2.1 hP (ci := 0) (q0 := 0) rfl rfl) (hZ.at hS hAB) (hP.sub [0, 1] rfl) hl.1 rfl (Nat.le_of_ble_eq_true rfl) dX0_remember_34 ⟨Nat.le_refl _, Nat.le_refl _⟩)) (fun r_ h_ => ?_)
    subst h_
    refine lv_astore_n (lv' := [(2, .ref so), (0, .ref ho), (1, .ref ao)]) hx hb dX0_remember_37 rfl hl (by decide) rfl (fun ls hl => ?_)
    refine lv_aload_n hx hb dX0_remember_38 rfl (lv_at hl 0 rfl) ?_
    refine lv_ifnull hx hb dX0_remember_39 ?_
    refine lv_aload_n hx hb dX0_remember_42 rfl (lv_at hl 0 rfl) ?_
    refine lv_aload_n hx hb dX0_remember_43 rfl (lv_at hl 2 rfl) ?_
    refine xcv (xrVN hF (c_X1_copyFrom l g so se sc su ao ae ac au yn yg yt yw he hc hs fe fc fs w   (hD.self2 [2, 3, 4, 5, 6, 7, 8, 9] (by decide) rfl) (xin_AB hAB [2, 3, 4, 5, 6, 7, 8, 9] rfl) hW hR) cal_X1_copyFrom n_8 ⟨by decide, by decide⟩ rfl rfl rfl (va_recv hF.2.1 hP (ci := 1) (q0 := 2) rfl rfl) (hZ.at hS hAB) (hP.sub [2, 3, 4, 5, 6, 7, 8, 9] rfl) hl.1 rfl (Nat.le_of_ble_eq_true rfl) dX0_remember_44 ⟨Nat.le_refl _, Nat.le_refl _⟩) hS (xin_sub [2, 3, 4, 5, 6, 7, 8, 9] rfl) (xin_sub [2, 3, 4, 5, 6, 7, 8, 9] rfl) (fun H locs hq_ hz_ hk_ hS => ?_)
    obtain ⟨fe_cf_2, fc_cf_2, fs_cf_2, hR_cf_2, hw_⟩ := hq_
    have hP : va_P g.1 vwCl [(ho, .inr (0, [.ref ha, .int (nI zo), .int (nI (zh + 1))])), (ha, .inl (g.2.1 2, 4, .inr (.inr (.inr (.inr (sl)))))), (so, .inr (1, [.ref se, .ref sc, .ref su, .int (nI (nr w)), .int (nI (pgN w)), .int (nI (stN w)), .int (nI (wrN w))])), (se, .inl (g.2.1 0, 768, .inl (fe_cf_2))), (sc, .inl (g.2.1 0, 192, .inl (fc_cf_2))), (su, .inl (g.2.1 0, 24, .inl (fs_cf_2))), (ao, .inr (1, [.ref ae, .ref ac, .ref au, .int (nI (nr w)), .int (nI (pgN w)), .int (nI (stN w)), .int (nI (wrN w))])), (ae, .inl (g.2.1 0, 768, .inl (fe))), (ac, .inl (g.2.1 0, 192, .inl (fc))), (au, .inl (g.2.1 0, 24, .inl (fs)))] H := xjoin hP hD hw_ hk_ [2, 3, 4, 5, 6, 7, 8, 9] [(false, 0), (false, 1), (true, 0), (true, 1), (true, 2), (true, 3), (true, 4), (true, 5), (true, 6), (true, 7)] rfl rfl rfl
    have hD : va_D (xin [ho, ha, so, se, sc, su, ao, ae, ac, au]) [(ho, .inr (0, [.ref ha, .int (nI zo), .int (nI (zh + 1))])), (ha, .inl (g.2.1 2, 4, .inr (.inr (.inr (.inr (sl)))))), (so, .inr (1, [.ref se, .ref sc, .ref su, .int (nI (nr w)), .int (nI (pgN w)), .int (nI (stN w)), .int (nI (wrN w))])), (se, .inl (g.2.1 0, 768, .inl (fe_cf_2))), (sc, .inl (g.2.1 0, 192, .inl (fc_cf_2))), (su, .inl (g.2.1 0, 24, .inl (fs_cf_2))), (ao, .inr (1, [.ref ae, .ref ac, .ref au, .int (nI (nr w)), .int (nI (pgN w)), .int (nI (stN w)), .int (nI (wrN w))])), (ae, .inl (g.2.1 0, 768, .inl (fe))), (ac, .inl (g.2.1 0, 192, .inl (fc))), (au, .inl (g.2.1 0, 24, .inl (fs)))] := va_D_eq (by rfl) hD
    exact xend_v hF hret hlocks hS (⟨_, _, _, hR_cf_2, by unfold oldN recS; rw [if_pos c_5, if_neg (by omega)]; exact hP⟩) dX0_remember_47
set_option maxHeartbeats 4000000 in
set_option maxRecDepth 100000 in
theorem c_X0_takeInto (l : Launch) (g : XG) (ho ha zo zh so se sc su ao ae ac au yn yg yt yw : Nat) (sl : Nat → Option Nat) (he hc hs fe fc fs w2 : Nat → Int32) (hW : WF w2) (hR : LR he hc hs w2) (hzo : zo < 4) (hz4 : zh ≤ 4) (hz0 : 0 < zh) (hD : va_D (xin [ho, ha, so, se, sc, su, ao, ae, ac, au]) ((ho, .inr (0, [.ref ha, .int (nI zo), .int (nI zh)])) :: (ha, .inl (g.2.1 2, 4, .inr (.inr (.inr (.inr sl))))) :: (LogC g so se sc su he hc hs w2 ++ LogX g ao ae ac au fe fc fs yn yg yt yw))) (hAB : ∀ q, xin [ho, ha, so, se, sc, su, ao, ae, ac, au] q → xB g q) (hsl : sl ((zo + zh - 1) % 4) = some so) : Met l yX0_takeInto (ww yX0_takeInto cX0_takeInto 3 (some .boolean)) (rmD 3) (xP g [.ref ho, .ref ao] (fun H => va_P g.1 vwCl ((ho, .inr (0, [.ref ha, .int (nI zo), .int (nI zh)])) :: (ha, .inl (g.2.1 2, 4, .inr (.inr (.inr (.inr sl))))) :: (LogC g so se sc su he hc hs w2 ++ LogX g ao ae ac au fe fc fs yn yg yt yw)) H)) (xQi (fun r9 H => r9 = xz true ∧ ∃ fe2 fc2 fs2 : Nat → Int32, LR fe2 fc2 fs2 w2 ∧ va_P g.1 vwCl ((ho, .inr (0, [.ref ha, .int (nI zo), .int (nI (zh - 1))])) :: (ha, .inl (g.2.1 2, 4, .inr (.inr (.inr (.inr sl))))) :: (LogC g so se sc su he hc hs w2 ++ LogC g ao ae ac au fe2 fc2 fs2 w2)) H) (xin [ho, ha, so, se, sc, su, ao, ae, ac, au])) 0 0 (xin [ho, ha, so, se, sc, su, ao, ae, ac, au]) := by
  refine xMetM (by decide) rfl (Nat.le_of_ble_eq_true rfl) ?_
  intro p e s m below meth c ls H locs hF hZ hh hS hret hlocks hin hl
  have hx := hF.1.1
  have hb := hF.1.2.1
  have hP := hh
  have hP : va_P g.1 vwCl ((ho, .inr (0, [.ref ha, .int (nI zo), .int (nI zh)])) :: (ha, .inl (g.2.1 2, 4, .inr (.inr (.inr (.inr sl))))) :: (LogC g so se sc su he hc hs w2 ++ LogX g ao ae ac au fe fc fs yn yg yt yw)) H := hP
  have hl : lv_has ls 3 [(0, .ref ho), (1, .ref ao)] := hl
  refine lv_aload_n hx hb dX0_takeInto_0 rfl (lv_at hl 0 rfl) ?_
  refine gf_X0_X0_size hF hP 0 rfl rfl dX0_takeInto_1 ?_
  refine xI_gt (tgt := 9) hx hb (by omega) dX0_takeInto_4 (by decide) (fun c_4 => ?_) (fun c_4 => absurd c_4 (by omega))
  refine lv_aload_n hx hb dX0_takeInto_9 rfl (lv_at hl 0 rfl) ?_
  refine va_csq (va_Run.run (xrV hF (c_X0_latest l g ho ha zo zh so sl (by omega) (by omega) (by omega) (hsl)) cal_X0_latest q_81 ⟨by decide, by decide⟩ rfl rfl rfl (va_recv hF.2.1 hP (ci := 0) (q0 := 0) rfl rfl) (hZ.at hS hAB) (hP.sub [0, 1] rfl) hl.1 rfl (Nat.le_of_ble_eq_true rfl) dX0_takeInto_10 ⟨Nat.le_refl _, Nat.le_refl _⟩)) (fun r_ h_ => ?_)
  subst h_
  refine lv_astore_n (lv' := [(2, .ref so), (0, .ref ho), (1, .ref ao)]) hx hb dX0_takeInto_13 rfl hl (by decide) rfl (fun ls hl => ?_)
  refine lv_aload_n hx hb dX0_takeInto_14 rfl (lv_at hl 0 rfl) ?_
  refine lv_ifnull hx hb dX0_takeInto_15 ?_
  refine lv_aload_n hx hb dX0_takeInto_18 rfl (lv_at hl 2 rfl) ?_
  refine lv_aload_n hx hb dX0_takeInto_19 rfl (lv_at hl 0 rfl) ?_
  refine xcv (xrVN hF (c_X1_copyFrom l g ao ae ac au so se sc su yn yg yt yw fe fc fs he hc hs w2   (hD.self2 [6, 7, 8, 9, 2, 3, 4, 5] (by decide) rfl) (xin_AB hAB [6, 7, 8, 9, 2, 3, 4, 5] rfl) hW hR) cal_X1_copyFrom n_8 ⟨by decide, by decide⟩ rfl rfl rfl (va_recv hF.2.1 hP (ci := 1) (q0 := 6) rfl rfl) (hZ.at hS hAB) (hP.sub [6, 7, 8, 9, 2, 3, 4, 5] rfl) hl.1 rfl (Nat.le_of_ble_eq_true rfl) dX0_takeInto_20 ⟨Nat.le_refl _, Nat.le_refl _⟩) hS (xin_sub [6, 7, 8, 9, 2, 3, 4, 5] rfl) (xin_sub [6, 7, 8, 9, 2, 3, 4, 5] rfl) (fun H locs hq_ hz_ hk_ hS => ?_)
  obtain ⟨fe_cf_1, fc_cf_1, fs_cf_1, hR_cf_1, hw_⟩ := hq_
  have hP : va_P g.1 vwCl [(ho, .inr (0, [.ref ha, .int (nI zo), .int (nI zh)])), (ha, .inl (g.2.1 2, 4, .inr (.inr (.inr (.inr (sl)))))), (so, .inr (1, [.ref se, .ref sc, .ref su, .int (nI (nr w2)), .int (nI (pgN w2)), .int (nI (stN w2)), .int (nI (wrN w2))])), (se, .inl (g.2.1 0, 768, .inl (he))), (sc, .inl (g.2.1 0, 192, .inl (hc))), (su, .inl (g.2.1 0, 24, .inl (hs))), (ao, .inr (1, [.ref ae, .ref ac, .ref au, .int (nI (nr w2)), .int (nI (pgN w2)), .int (nI (stN w2)), .int (nI (wrN w2))])), (ae, .inl (g.2.1 0, 768, .inl (fe_cf_1))), (ac, .inl (g.2.1 0, 192, .inl (fc_cf_1))), (au, .inl (g.2.1 0, 24, .inl (fs_cf_1)))] H := xjoin hP hD hw_ hk_ [6, 7, 8, 9, 2, 3, 4, 5] [(false, 0), (false, 1), (true, 4), (true, 5), (true, 6), (true, 7), (true, 0), (true, 1), (true, 2), (true, 3)] rfl rfl rfl
  have hD : va_D (xin [ho, ha, so, se, sc, su, ao, ae, ac, au]) [(ho, .inr (0, [.ref ha, .int (nI zo), .int (nI zh)])), (ha, .inl (g.2.1 2, 4, .inr (.inr (.inr (.inr (sl)))))), (so, .inr (1, [.ref se, .ref sc, .ref su, .int (nI (nr w2)), .int (nI (pgN w2)), .int (nI (stN w2)), .int (nI (wrN w2))])), (se, .inl (g.2.1 0, 768, .inl (he))), (sc, .inl (g.2.1 0, 192, .inl (hc))), (su, .inl (g.2.1 0, 24, .inl (hs))), (ao, .inr (1, [.ref ae, .ref ac, .ref au, .int (nI (nr w2)), .int (nI (pgN w2)), .int (nI (stN w2)), .int (nI (wrN w2))])), (ae, .inl (g.2.1 0, 768, .inl (fe_cf_1))), (ac, .inl (g.2.1 0, 192, .inl (fc_cf_1))), (au, .inl (g.2.1 0, 24, .inl (fs_cf_1)))] := va_D_eq (by rfl) hD
  refine lv_aload_n hx hb dX0_takeInto_23 rfl (lv_at hl 1 rfl) ?_
  refine lv_dup hx hb dX0_takeInto_24 rfl ?_
  refine gf_X0_X0_size hF hP 0 rfl rfl dX0_takeInto_25 ?_
  refine xN_const hx hb 1 dX0_takeInto_28 (by decide) ?_
  refine xN_sub hx hb (by omega) dX0_takeInto_29 ?_
  refine pf_X0_X0_size hF hP hD hS 0 rfl (Nat.le_of_ble_eq_true rfl) dX0_takeInto_30 (fun H locs hP hS => ?_)
  have hP : va_P g.1 vwCl [(ho, .inr (0, [.ref ha, .int (nI zo), .int (nI (zh - 1))])), (ha, .inl (g.2.1 2, 4, .inr (.inr (.inr (.inr (sl)))))), (so, .inr (1, [.ref se, .ref sc, .ref su, .int (nI (nr w2)), .int (nI (pgN w2)), .int (nI (stN w2)), .int (nI (wrN w2))])), (se, .inl (g.2.1 0, 768, .inl (he))), (sc, .inl (g.2.1 0, 192, .inl (hc))), (su, .inl (g.2.1 0, 24, .inl (hs))), (ao, .inr (1, [.ref ae, .ref ac, .ref au, .int (nI (nr w2)), .int (nI (pgN w2)), .int (nI (stN w2)), .int (nI (wrN w2))])), (ae, .inl (g.2.1 0, 768, .inl (fe_cf_1))), (ac, .inl (g.2.1 0, 192, .inl (fc_cf_1))), (au, .inl (g.2.1 0, 24, .inl (fs_cf_1)))] H := hP
  have hD : va_D (xin [ho, ha, so, se, sc, su, ao, ae, ac, au]) [(ho, .inr (0, [.ref ha, .int (nI zo), .int (nI (zh - 1))])), (ha, .inl (g.2.1 2, 4, .inr (.inr (.inr (.inr (sl)))))), (so, .inr (1, [.ref se, .ref sc, .ref su, .int (nI (nr w2)), .int (nI (pgN w2)), .int (nI (stN w2)), .int (nI (wrN w2))])), (se, .inl (g.2.1 0, 768, .inl (he))), (sc, .inl (g.2.1 0, 192, .inl (hc))), (su, .inl (g.2.1 0, 24, .inl (hs))), (ao, .inr (1, [.ref ae, .ref ac, .ref au, .int (nI (nr w2)), .int (nI (pgN w2)), .int (nI (stN w2)), .int (nI (wrN w2))])), (ae, .inl (g.2.1 0, 768, .inl (fe_cf_1))), (ac, .inl (g.2.1 0, 192, .inl (fc_cf_1))), (au, .inl (g.2.1 0, 24, .inl (fs_cf_1)))] := (va_D_eq (by rfl) hD)
  refine xN_const hx hb 1 dX0_takeInto_33 (by decide) ?_
  exact xend_t (V := nI (1)) hF hret hlocks rfl hS (⟨rfl, _, _, _, hR_cf_1, hP⟩) dX0_takeInto_34
set_option maxHeartbeats 4000000 in
set_option maxRecDepth 100000 in
theorem c_X0_takeInto0 (l : Launch) (g : XG) (ho ha zo ao : Nat) : Met l yX0_takeInto (ww yX0_takeInto cX0_takeInto 3 (some .boolean)) (rmD 0) (xP g [.ref ho, .ref ao] (fun H => va_P g.1 vwCl [(ho, .inr (0, [.ref ha, .int (nI zo), .int (nI 0)]))] H)) (vp_Si (fun r9 => r9 = xz false)) 0 0 (fun _ => False) := by
  refine xMet (by decide) rfl (Nat.le_of_ble_eq_true rfl) ?_
  intro p e s m below meth c ls hF hZ hh hret hlocks hin hl
  have hx := hF.1.1
  have hb := hF.1.2.1
  have hP := hh
  have hP : va_P g.1 vwCl [(ho, .inr (0, [.ref ha, .int (nI zo), .int (nI 0)]))] s.heap := hP
  have hl : lv_has ls 3 [(0, .ref ho), (1, .ref ao)] := hl
  refine lv_aload_n hx hb dX0_takeInto_0 rfl (lv_at hl 0 rfl) ?_
  refine gf_X0_X0_size hF hP 0 rfl rfl dX0_takeInto_1 ?_
  refine xI_gt (tgt := 9) hx hb (by omega) dX0_takeInto_4 (by decide) (fun c_4 => absurd c_4 (by decide)) (fun c_4 => ?_)
  refine xN_const hx hb 0 dX0_takeInto_7 (by decide) ?_
  exact xret_t (V := nI (0)) hF hret hlocks rfl (rfl) dX0_takeInto_8
set_option maxHeartbeats 4000000 in
set_option maxRecDepth 100000 in
theorem c_X2_append (l : Launch) (g : XG) (xo xc xl xn xr : Nat) (tx cl : Nat → Int32) (hD : va_D (xin [xo, xc, xl]) [(xo, .inr (2, [.ref xc, .ref xl, .int (nI xn), .int (nI xr)])), (xc, .inl (g.2.1 1, 60, .inl tx)), (xl, .inl (g.2.1 0, 60, .inl cl))]) (hAB : ∀ q, xin [xo, xc, xl] q → xB g q) (x : Int32) (hxc : vp_nar .char x = x) (hxn : xn ≤ 60) : Met l yX2_append (ww yX2_append cX2_append 2 (some .boolean)) (rmD 0) (xP g [.ref xo, .int (x)] (fun H => va_P g.1 vwCl [(xo, .inr (2, [.ref xc, .ref xl, .int (nI xn), .int (nI xr)])), (xc, .inl (g.2.1 1, 60, .inl tx)), (xl, .inl (g.2.1 0, 60, .inl cl))] H)) (xQi (fun r9 H => r9 = xz (decide (xn < 60)) ∧ (xn < 60 → va_P g.1 vwCl [(xo, .inr (2, [.ref xc, .ref xl, .int (nI (xn + 1)), .int (nI xr)])), (xc, .inl (g.2.1 1, 60, .inl (upd tx xn x))), (xl, .inl (g.2.1 0, 60, .inl cl))] H) ∧ (¬ xn < 60 → va_P g.1 vwCl [(xo, .inr (2, [.ref xc, .ref xl, .int (nI xn), .int (nI xr)])), (xc, .inl (g.2.1 1, 60, .inl tx)), (xl, .inl (g.2.1 0, 60, .inl cl))] H)) (xin [xo, xc, xl])) 0 0 (xin [xo, xc, xl]) := by
  refine xMetM (by decide) rfl (Nat.le_of_ble_eq_true rfl) ?_
  intro p e s m below meth c ls H locs hF hZ hh hS hret hlocks hin hl
  have hx := hF.1.1
  have hb := hF.1.2.1
  have hP := hh
  have hP : va_P g.1 vwCl [(xo, .inr (2, [.ref xc, .ref xl, .int (nI xn), .int (nI xr)])), (xc, .inl (g.2.1 1, 60, .inl tx)), (xl, .inl (g.2.1 0, 60, .inl cl))] H := hP
  have hl : lv_has ls 2 [(0, .ref xo), (1, .int (x))] := hl
  refine lv_aload_n hx hb dX2_append_0 rfl (lv_at hl 0 rfl) ?_
  refine gf_X2_X2_length hF hP 0 rfl rfl dX2_append_1 ?_
  refine xI_lt (tgt := 19) hx hb (by omega) dX2_append_4 (by decide) ?_
  refine lv_aload_n hx hb dX2_append_7 rfl (lv_at hl 0 rfl) ?_
  refine gf_X2_X2_length hF hP 0 rfl rfl dX2_append_8 ?_
  refine lv_aload_n hx hb dX2_append_11 rfl (lv_at hl 0 rfl) ?_
  refine gf_X2_X2_characters hF hP 0 rfl rfl dX2_append_12 ?_
  refine xA_len hF hP 1 1 rfl rfl dX2_append_15 ?_
  refine xC_lt (tgt := 21) hx hb (by omega) (by omega) dX2_append_16 (by decide) (fun c_16 => ?_) (fun c_16 => ?_)
  · refine lv_aload_n hx hb dX2_append_21 rfl (lv_at hl 0 rfl) ?_
    refine gf_X2_X2_characters hF hP 0 rfl rfl dX2_append_22 ?_
    refine lv_aload_n hx hb dX2_append_25 rfl (lv_at hl 0 rfl) ?_
    refine gf_X2_X2_length hF hP 0 rfl rfl dX2_append_26 ?_
    refine lv_iload_n hx hb dX2_append_29 rfl (lv_at hl 1 rfl) ?_
    refine xA_cst hF hP hD hS 1 rfl (by omega) (by decide) (v2 := (x)) hxc dX2_append_30 (fun H locs hP hS => ?_)
    have hP : va_P g.1 vwCl [(xo, .inr (2, [.ref xc, .ref xl, .int (nI xn), .int (nI xr)])), (xc, .inl (g.2.1 1, 60, .inl (upd (tx) (xn) ((x))))), (xl, .inl (g.2.1 0, 60, .inl (cl)))] H := hP
    have hD : va_D (xin [xo, xc, xl]) [(xo, .inr (2, [.ref xc, .ref xl, .int (nI xn), .int (nI xr)])), (xc, .inl (g.2.1 1, 60, .inl (upd (tx) (xn) ((x))))), (xl, .inl (g.2.1 0, 60, .inl (cl)))] := (va_D_eq (by rfl) hD)
    refine lv_aload_n hx hb dX2_append_31 rfl (lv_at hl 0 rfl) ?_
    refine lv_dup hx hb dX2_append_32 rfl ?_
    refine gf_X2_X2_length hF hP 0 rfl rfl dX2_append_33 ?_
    refine xN_const hx hb 1 dX2_append_36 (by decide) ?_
    refine xN_add hx hb dX2_append_37 ?_
    refine pf_X2_X2_length hF hP hD hS 0 rfl (Nat.le_of_ble_eq_true rfl) dX2_append_38 (fun H locs hP hS => ?_)
    have hP : va_P g.1 vwCl [(xo, .inr (2, [.ref xc, .ref xl, .int (nI (xn + 1)), .int (nI xr)])), (xc, .inl (g.2.1 1, 60, .inl (upd (tx) (xn) ((x))))), (xl, .inl (g.2.1 0, 60, .inl (cl)))] H := hP
    have hD : va_D (xin [xo, xc, xl]) [(xo, .inr (2, [.ref xc, .ref xl, .int (nI (xn + 1)), .int (nI xr)])), (xc, .inl (g.2.1 1, 60, .inl (upd (tx) (xn) ((x))))), (xl, .inl (g.2.1 0, 60, .inl (cl)))] := (va_D_eq (by rfl) hD)
    refine xN_const hx hb 1 dX2_append_41 (by decide) ?_
    exact xend_t (V := nI (1)) hF hret hlocks rfl hS (⟨by rw [decide_eq_true c_16]; rfl, fun _ => hP, fun h => absurd c_16 h⟩) dX2_append_42
  · refine xN_const hx hb 0 dX2_append_19 (by decide) ?_
    exact xend_t (V := nI (0)) hF hret hlocks rfl hS (⟨by rw [decide_eq_false (by omega)]; rfl, fun h => absurd h (by omega), fun _ => hP⟩) dX2_append_20
