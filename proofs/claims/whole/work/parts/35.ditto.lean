/-! keep, restore, undo, the text -/
set_option maxHeartbeats 4000000 in
set_option maxRecDepth 100000 in
theorem c_X3_keep (l : Launch) (g : XG) (dd bo ho xo ta be bc bu ao ae ac au zn zg zt zw : Nat) (zk : Bool) (ge gc gs fe fc fs w : Nat → Int32) (hW : WF w) (hR : LR fe fc fs w) (hD : va_D (xin [dd, bo, be, bc, bu, ao, ae, ac, au]) ((dd, .inr (3, [.ref ao, .ref bo, .int (xz zk), .ref ho, .ref xo, .ref ta])) :: (LogX g bo be bc bu ge gc gs zn zg zt zw ++ LogC g ao ae ac au fe fc fs w))) (hAB : ∀ q, xin [dd, bo, be, bc, bu, ao, ae, ac, au] q → xB g q) : Met l yX3_keep (ww yX3_keep cX3_keep 1 (some .int)) (rmD 4) (xP g [.ref dd] (fun H => va_P g.1 vwCl ((dd, .inr (3, [.ref ao, .ref bo, .int (xz zk), .ref ho, .ref xo, .ref ta])) :: (LogX g bo be bc bu ge gc gs zn zg zt zw ++ LogC g ao ae ac au fe fc fs w)) H)) (xQi (fun r9 H => r9 = nI (nr w) ∧ ∃ ge2 gc2 gs2 : Nat → Int32, LR ge2 gc2 gs2 w ∧ va_P g.1 vwCl ((dd, .inr (3, [.ref ao, .ref bo, .int (xz true), .ref ho, .ref xo, .ref ta])) :: (LogC g bo be bc bu ge2 gc2 gs2 w ++ LogC g ao ae ac au fe fc fs w)) H) (xin [dd, bo, be, bc, bu, ao, ae, ac, au])) 0 0 (xin [dd, bo, be, bc, bu, ao, ae, ac, au]) := by
  refine xMetM (by decide) rfl (Nat.le_of_ble_eq_true rfl) ?_
  intro p e s m below meth c ls H locs hF hZ hh hS hret hlocks hin hl
  have hx := hF.1.1
  have hb := hF.1.2.1
  have hP := hh
  have hP : va_P g.1 vwCl ((dd, .inr (3, [.ref ao, .ref bo, .int (xz zk), .ref ho, .ref xo, .ref ta])) :: (LogX g bo be bc bu ge gc gs zn zg zt zw ++ LogC g ao ae ac au fe fc fs w)) H := hP
  have hl : lv_has ls 1 [(0, .ref dd)] := hl
  have h48 := hW.n48
  have hp4 := hW.pg4
  have hp12 := hW.pg12
  have hs1 := hW.st1
  have hw2 := hW.wr2
  have hw6 := hW.wr6
  refine lv_aload_n hx hb dX3_keep_0 rfl (lv_at hl 0 rfl) ?_
  refine gf_X3_X3_snapshot hF hP 0 rfl rfl dX3_keep_1 ?_
  refine lv_aload_n hx hb dX3_keep_4 rfl (lv_at hl 0 rfl) ?_
  refine gf_X3_X3_log hF hP 0 rfl rfl dX3_keep_5 ?_
  refine xcv (xrVN hF (c_X1_copyFrom l g bo be bc bu ao ae ac au zn zg zt zw ge gc gs fe fc fs w   (hD.self2 [1, 2, 3, 4, 5, 6, 7, 8] (by decide) rfl) (xin_AB hAB [1, 2, 3, 4, 5, 6, 7, 8] rfl) hW hR) cal_X1_copyFrom n_32 ⟨by decide, by decide⟩ rfl rfl rfl (va_recv hF.2.1 hP (ci := 1) (q0 := 1) rfl rfl) (hZ.at hS hAB) (hP.sub [1, 2, 3, 4, 5, 6, 7, 8] rfl) hl.1 rfl (Nat.le_of_ble_eq_true rfl) dX3_keep_8 ⟨Nat.le_refl _, Nat.le_refl _⟩) hS (xin_sub [1, 2, 3, 4, 5, 6, 7, 8] rfl) (xin_sub [1, 2, 3, 4, 5, 6, 7, 8] rfl) (fun H locs hq_ hz_ hk_ hS => ?_)
  obtain ⟨fe_cf_1, fc_cf_1, fs_cf_1, hR_cf_1, hw_⟩ := hq_
  have hP : va_P g.1 vwCl [(dd, .inr (3, [.ref ao, .ref bo, .int (xz (zk)), .ref ho, .ref xo, .ref ta])), (bo, .inr (1, [.ref be, .ref bc, .ref bu, .int (nI (nr w)), .int (nI (pgN w)), .int (nI (stN w)), .int (nI (wrN w))])), (be, .inl (g.2.1 0, 768, .inl (fe_cf_1))), (bc, .inl (g.2.1 0, 192, .inl (fc_cf_1))), (bu, .inl (g.2.1 0, 24, .inl (fs_cf_1))), (ao, .inr (1, [.ref ae, .ref ac, .ref au, .int (nI (nr w)), .int (nI (pgN w)), .int (nI (stN w)), .int (nI (wrN w))])), (ae, .inl (g.2.1 0, 768, .inl (fe))), (ac, .inl (g.2.1 0, 192, .inl (fc))), (au, .inl (g.2.1 0, 24, .inl (fs)))] H := xjoin hP hD hw_ hk_ [1, 2, 3, 4, 5, 6, 7, 8] [(false, 0), (true, 0), (true, 1), (true, 2), (true, 3), (true, 4), (true, 5), (true, 6), (true, 7)] rfl rfl rfl
  have hD : va_D (xin [dd, bo, be, bc, bu, ao, ae, ac, au]) [(dd, .inr (3, [.ref ao, .ref bo, .int (xz (zk)), .ref ho, .ref xo, .ref ta])), (bo, .inr (1, [.ref be, .ref bc, .ref bu, .int (nI (nr w)), .int (nI (pgN w)), .int (nI (stN w)), .int (nI (wrN w))])), (be, .inl (g.2.1 0, 768, .inl (fe_cf_1))), (bc, .inl (g.2.1 0, 192, .inl (fc_cf_1))), (bu, .inl (g.2.1 0, 24, .inl (fs_cf_1))), (ao, .inr (1, [.ref ae, .ref ac, .ref au, .int (nI (nr w)), .int (nI (pgN w)), .int (nI (stN w)), .int (nI (wrN w))])), (ae, .inl (g.2.1 0, 768, .inl (fe))), (ac, .inl (g.2.1 0, 192, .inl (fc))), (au, .inl (g.2.1 0, 24, .inl (fs)))] := va_D_eqL [dd, bo, be, bc, bu, ao, ae, ac, au] rfl rfl hD
  refine lv_aload_n hx hb dX3_keep_11 rfl (lv_at hl 0 rfl) ?_
  refine xN_const hx hb 1 dX3_keep_12 (by decide) ?_
  refine pf_X3_X3_hasSnapshot (x := true) hF hP hD hS 0 rfl (Nat.le_of_ble_eq_true rfl) dX3_keep_13 (fun H locs hP hS => ?_)
  have hP : va_P g.1 vwCl [(dd, .inr (3, [.ref ao, .ref bo, .int (xz (true)), .ref ho, .ref xo, .ref ta])), (bo, .inr (1, [.ref be, .ref bc, .ref bu, .int (nI (nr w)), .int (nI (pgN w)), .int (nI (stN w)), .int (nI (wrN w))])), (be, .inl (g.2.1 0, 768, .inl (fe_cf_1))), (bc, .inl (g.2.1 0, 192, .inl (fc_cf_1))), (bu, .inl (g.2.1 0, 24, .inl (fs_cf_1))), (ao, .inr (1, [.ref ae, .ref ac, .ref au, .int (nI (nr w)), .int (nI (pgN w)), .int (nI (stN w)), .int (nI (wrN w))])), (ae, .inl (g.2.1 0, 768, .inl (fe))), (ac, .inl (g.2.1 0, 192, .inl (fc))), (au, .inl (g.2.1 0, 24, .inl (fs)))] H := hP
  have hD : va_D (xin [dd, bo, be, bc, bu, ao, ae, ac, au]) [(dd, .inr (3, [.ref ao, .ref bo, .int (xz (true)), .ref ho, .ref xo, .ref ta])), (bo, .inr (1, [.ref be, .ref bc, .ref bu, .int (nI (nr w)), .int (nI (pgN w)), .int (nI (stN w)), .int (nI (wrN w))])), (be, .inl (g.2.1 0, 768, .inl (fe_cf_1))), (bc, .inl (g.2.1 0, 192, .inl (fc_cf_1))), (bu, .inl (g.2.1 0, 24, .inl (fs_cf_1))), (ao, .inr (1, [.ref ae, .ref ac, .ref au, .int (nI (nr w)), .int (nI (pgN w)), .int (nI (stN w)), .int (nI (wrN w))])), (ae, .inl (g.2.1 0, 768, .inl (fe))), (ac, .inl (g.2.1 0, 192, .inl (fc))), (au, .inl (g.2.1 0, 24, .inl (fs)))] := (va_D_eqL [dd, bo, be, bc, bu, ao, ae, ac, au] rfl rfl hD)
  refine lv_aload_n hx hb dX3_keep_16 rfl (lv_at hl 0 rfl) ?_
  refine gf_X3_X3_log hF hP 0 rfl rfl dX3_keep_17 ?_
  refine gf_X3_X1_rows hF hP 5 rfl rfl dX3_keep_20 ?_
  exact xend_i (V := nI (nr w)) hF hret hlocks hS (⟨rfl, _, _, _, hR_cf_1, hP⟩) dX3_keep_23
set_option maxHeartbeats 4000000 in
set_option maxRecDepth 100000 in
theorem c_X3_restore0 (l : Launch) (g : XG) (dd ao bo ho xo ta : Nat) : Met l yX3_restore (ww yX3_restore cX3_restore 1 (some .int)) (rmD 0) (xP g [.ref dd] (fun H => va_P g.1 vwCl [(dd, .inr (3, [.ref ao, .ref bo, .int (xz false), .ref ho, .ref xo, .ref ta]))] H)) (vp_Si (fun r9 => r9 = -5)) 0 0 (fun _ => False) := by
  refine xMet (by decide) rfl (Nat.le_of_ble_eq_true rfl) ?_
  intro p e s m below meth c ls hF hZ hh hret hlocks hin hl
  have hx := hF.1.1
  have hb := hF.1.2.1
  have hP := hh
  have hP : va_P g.1 vwCl [(dd, .inr (3, [.ref ao, .ref bo, .int (xz false), .ref ho, .ref xo, .ref ta]))] s.heap := hP
  have hl : lv_has ls 1 [(0, .ref dd)] := hl
  refine lv_aload_n hx hb dX3_restore_0 rfl (lv_at hl 0 rfl) ?_
  refine gf_X3_X3_hasSnapshot hF hP 0 rfl rfl dX3_restore_1 ?_
  refine xZ_ne (tgt := 10) hx hb dX3_restore_4 (by decide) (fun c_4 => absurd c_4 (by decide)) (fun c_4 => ?_)
  refine lv_bipush hx hb (v := (-5)) dX3_restore_7 (by decide) ?_
  exact xret_i (V := (-5)) hF hret hlocks (rfl) dX3_restore_9
set_option maxHeartbeats 4000000 in
set_option maxRecDepth 100000 in
theorem c_X3_restore (l : Launch) (g : XG) (dd bo xo ta : Nat) (ho ha zo zh so se sc su yn yg yt yw ao ae ac au be bc bu : Nat) (sl : Nat → Option Nat) (he hc hs fe fc fs w ge gc gs w2 : Nat → Int32) (hW : WF w) (hR : LR fe fc fs w) (hW2 : WF w2) (hR2 : LR ge gc gs w2) (hzo : zo < 4) (hz4 : zh ≤ 4) (hD : va_D (xin [dd, ho, ha, so, se, sc, su, ao, ae, ac, au, bo, be, bc, bu]) ((dd, .inr (3, [.ref ao, .ref bo, .int (xz true), .ref ho, .ref xo, .ref ta])) :: (ho, .inr (0, [.ref ha, .int (nI zo), .int (nI zh)])) :: (ha, .inl (g.2.1 2, 4, .inr (.inr (.inr (.inr sl))))) :: (LogX g so se sc su he hc hs yn yg yt yw ++ (LogC g ao ae ac au fe fc fs w ++ LogC g bo be bc bu ge gc gs w2)))) (hAB : ∀ q, xin [dd, ho, ha, so, se, sc, su, ao, ae, ac, au, bo, be, bc, bu] q → xB g q) (hsl : sl ((zo + zh) % 4) = some so) : Met l yX3_restore (ww yX3_restore cX3_restore 1 (some .int)) (rmD 4) (xP g [.ref dd] (fun H => va_P g.1 vwCl ((dd, .inr (3, [.ref ao, .ref bo, .int (xz true), .ref ho, .ref xo, .ref ta])) :: (ho, .inr (0, [.ref ha, .int (nI zo), .int (nI zh)])) :: (ha, .inl (g.2.1 2, 4, .inr (.inr (.inr (.inr sl))))) :: (LogX g so se sc su he hc hs yn yg yt yw ++ (LogC g ao ae ac au fe fc fs w ++ LogC g bo be bc bu ge gc gs w2))) H)) (xQi (fun r9 H => r9 = nI (nr w2) ∧ ∃ he2 hc2 hs2 fe2 fc2 fs2 : Nat → Int32, LR he2 hc2 hs2 w ∧ LR fe2 fc2 fs2 w2 ∧ va_P g.1 vwCl ((dd, .inr (3, [.ref ao, .ref bo, .int (xz true), .ref ho, .ref xo, .ref ta])) :: (ho, .inr (0, [.ref ha, .int (nI (oldN zo zh)), .int (nI (recS zh + 1))])) :: (ha, .inl (g.2.1 2, 4, .inr (.inr (.inr (.inr sl))))) :: (LogC g so se sc su he2 hc2 hs2 w ++ (LogC g ao ae ac au fe2 fc2 fs2 w2 ++ LogC g bo be bc bu ge gc gs w2))) H) (xin [dd, ho, ha, so, se, sc, su, ao, ae, ac, au, bo, be, bc, bu])) 0 0 (xin [dd, ho, ha, so, se, sc, su, ao, ae, ac, au, bo, be, bc, bu]) := by
  refine xMetM (by decide) rfl (Nat.le_of_ble_eq_true rfl) ?_
  intro p e s m below meth c ls H locs hF hZ hh hS hret hlocks hin hl
  have hx := hF.1.1
  have hb := hF.1.2.1
  have hP := hh
  have hP : va_P g.1 vwCl ((dd, .inr (3, [.ref ao, .ref bo, .int (xz true), .ref ho, .ref xo, .ref ta])) :: (ho, .inr (0, [.ref ha, .int (nI zo), .int (nI zh)])) :: (ha, .inl (g.2.1 2, 4, .inr (.inr (.inr (.inr sl))))) :: (LogX g so se sc su he hc hs yn yg yt yw ++ (LogC g ao ae ac au fe fc fs w ++ LogC g bo be bc bu ge gc gs w2))) H := hP
  have hl : lv_has ls 1 [(0, .ref dd)] := hl
  have h48 := hW.n48
  have hp4 := hW.pg4
  have hp12 := hW.pg12
  have hs1 := hW.st1
  have hw2 := hW.wr2
  have hw6 := hW.wr6
  have h48b := hW2.n48
  have hR4 := hR2
  refine lv_aload_n hx hb dX3_restore_0 rfl (lv_at hl 0 rfl) ?_
  refine gf_X3_X3_hasSnapshot hF hP 0 rfl rfl dX3_restore_1 ?_
  refine xZ_ne (tgt := 10) hx hb dX3_restore_4 (by decide) (fun c_4 => ?_) (fun c_4 => absurd c_4 (by decide))
  refine lv_aload_n hx hb dX3_restore_10 rfl (lv_at hl 0 rfl) ?_
  refine gf_X3_X3_history hF hP 0 rfl rfl dX3_restore_11 ?_
  refine lv_aload_n hx hb dX3_restore_14 rfl (lv_at hl 0 rfl) ?_
  refine gf_X3_X3_log hF hP 0 rfl rfl dX3_restore_15 ?_
  refine xcv (xrVN hF (c_X0_remember l g ho ha zo zh so se sc su yn yg yt yw ao ae ac au sl he hc hs fe fc fs w hW hR (by omega) (by omega) (hD.self2 [1, 2, 3, 4, 5, 6, 7, 8, 9, 10] (by decide) rfl) (xin_AB hAB [1, 2, 3, 4, 5, 6, 7, 8, 9, 10] rfl) hsl) cal_X0_remember n_7 ⟨by decide, by decide⟩ rfl rfl rfl (va_recv hF.2.1 hP (ci := 0) (q0 := 1) rfl rfl) (hZ.at hS hAB) (hP.sub [1, 2, 3, 4, 5, 6, 7, 8, 9, 10] rfl) hl.1 rfl (Nat.le_of_ble_eq_true rfl) dX3_restore_18 ⟨Nat.le_refl _, Nat.le_refl _⟩) hS (xin_sub [1, 2, 3, 4, 5, 6, 7, 8, 9, 10] rfl) (xin_sub [1, 2, 3, 4, 5, 6, 7, 8, 9, 10] rfl) (fun H locs hq_ hz_ hk_ hS => ?_)
  obtain ⟨he2, hc2, hs2, hR2, hw_⟩ := hq_
  have hP : va_P g.1 vwCl [(dd, .inr (3, [.ref ao, .ref bo, .int (xz (true)), .ref ho, .ref xo, .ref ta])), (ho, .inr (0, [.ref ha, .int (nI (oldN zo zh)), .int (nI (recS zh + 1))])), (ha, .inl (g.2.1 2, 4, .inr (.inr (.inr (.inr (sl)))))), (so, .inr (1, [.ref se, .ref sc, .ref su, .int (nI (nr w)), .int (nI (pgN w)), .int (nI (stN w)), .int (nI (wrN w))])), (se, .inl (g.2.1 0, 768, .inl (he2))), (sc, .inl (g.2.1 0, 192, .inl (hc2))), (su, .inl (g.2.1 0, 24, .inl (hs2))), (ao, .inr (1, [.ref ae, .ref ac, .ref au, .int (nI (nr w)), .int (nI (pgN w)), .int (nI (stN w)), .int (nI (wrN w))])), (ae, .inl (g.2.1 0, 768, .inl (fe))), (ac, .inl (g.2.1 0, 192, .inl (fc))), (au, .inl (g.2.1 0, 24, .inl (fs))), (bo, .inr (1, [.ref be, .ref bc, .ref bu, .int (nI (nr w2)), .int (nI (pgN w2)), .int (nI (stN w2)), .int (nI (wrN w2))])), (be, .inl (g.2.1 0, 768, .inl (ge))), (bc, .inl (g.2.1 0, 192, .inl (gc))), (bu, .inl (g.2.1 0, 24, .inl (gs)))] H := xjoin hP hD hw_ hk_ [1, 2, 3, 4, 5, 6, 7, 8, 9, 10] [(false, 0), (true, 0), (true, 1), (true, 2), (true, 3), (true, 4), (true, 5), (true, 6), (true, 7), (true, 8), (true, 9), (false, 11), (false, 12), (false, 13), (false, 14)] rfl rfl rfl
  have hD : va_D (xin [dd, ho, ha, so, se, sc, su, ao, ae, ac, au, bo, be, bc, bu]) [(dd, .inr (3, [.ref ao, .ref bo, .int (xz (true)), .ref ho, .ref xo, .ref ta])), (ho, .inr (0, [.ref ha, .int (nI (oldN zo zh)), .int (nI (recS zh + 1))])), (ha, .inl (g.2.1 2, 4, .inr (.inr (.inr (.inr (sl)))))), (so, .inr (1, [.ref se, .ref sc, .ref su, .int (nI (nr w)), .int (nI (pgN w)), .int (nI (stN w)), .int (nI (wrN w))])), (se, .inl (g.2.1 0, 768, .inl (he2))), (sc, .inl (g.2.1 0, 192, .inl (hc2))), (su, .inl (g.2.1 0, 24, .inl (hs2))), (ao, .inr (1, [.ref ae, .ref ac, .ref au, .int (nI (nr w)), .int (nI (pgN w)), .int (nI (stN w)), .int (nI (wrN w))])), (ae, .inl (g.2.1 0, 768, .inl (fe))), (ac, .inl (g.2.1 0, 192, .inl (fc))), (au, .inl (g.2.1 0, 24, .inl (fs))), (bo, .inr (1, [.ref be, .ref bc, .ref bu, .int (nI (nr w2)), .int (nI (pgN w2)), .int (nI (stN w2)), .int (nI (wrN w2))])), (be, .inl (g.2.1 0, 768, .inl (ge))), (bc, .inl (g.2.1 0, 192, .inl (gc))), (bu, .inl (g.2.1 0, 24, .inl (gs)))] := va_D_eqL [dd, ho, ha, so, se, sc, su, ao, ae, ac, au, bo, be, bc, bu] rfl rfl hD
  refine lv_aload_n hx hb dX3_restore_21 rfl (lv_at hl 0 rfl) ?_
  refine gf_X3_X3_log hF hP 0 rfl rfl dX3_restore_22 ?_
  refine lv_aload_n hx hb dX3_restore_25 rfl (lv_at hl 0 rfl) ?_
  refine gf_X3_X3_snapshot hF hP 0 rfl rfl dX3_restore_26 ?_
  refine xcv (xrVN hF (c_X1_copyFrom l g ao ae ac au bo be bc bu (nr w) (pgN w) (stN w) (wrN w) fe fc fs ge gc gs w2   (hD.self2 [7, 8, 9, 10, 11, 12, 13, 14] (by decide) rfl) (xin_AB hAB [7, 8, 9, 10, 11, 12, 13, 14] rfl) hW2 hR4) cal_X1_copyFrom n_32 ⟨by decide, by decide⟩ rfl rfl rfl (va_recv hF.2.1 hP (ci := 1) (q0 := 7) rfl rfl) (hZ.at hS hAB) (hP.sub [7, 8, 9, 10, 11, 12, 13, 14] rfl) hl.1 rfl (Nat.le_of_ble_eq_true rfl) dX3_restore_29 ⟨Nat.le_refl _, Nat.le_refl _⟩) hS (xin_sub [7, 8, 9, 10, 11, 12, 13, 14] rfl) (xin_sub [7, 8, 9, 10, 11, 12, 13, 14] rfl) (fun H locs hq_ hz_ hk_ hS => ?_)
  obtain ⟨fe_cf_1, fc_cf_1, fs_cf_1, hR_cf_1, hw_⟩ := hq_
  have hP : va_P g.1 vwCl [(dd, .inr (3, [.ref ao, .ref bo, .int (xz (true)), .ref ho, .ref xo, .ref ta])), (ho, .inr (0, [.ref ha, .int (nI (oldN zo zh)), .int (nI (recS zh + 1))])), (ha, .inl (g.2.1 2, 4, .inr (.inr (.inr (.inr (sl)))))), (so, .inr (1, [.ref se, .ref sc, .ref su, .int (nI (nr w)), .int (nI (pgN w)), .int (nI (stN w)), .int (nI (wrN w))])), (se, .inl (g.2.1 0, 768, .inl (he2))), (sc, .inl (g.2.1 0, 192, .inl (hc2))), (su, .inl (g.2.1 0, 24, .inl (hs2))), (ao, .inr (1, [.ref ae, .ref ac, .ref au, .int (nI (nr w2)), .int (nI (pgN w2)), .int (nI (stN w2)), .int (nI (wrN w2))])), (ae, .inl (g.2.1 0, 768, .inl (fe_cf_1))), (ac, .inl (g.2.1 0, 192, .inl (fc_cf_1))), (au, .inl (g.2.1 0, 24, .inl (fs_cf_1))), (bo, .inr (1, [.ref be, .ref bc, .ref bu, .int (nI (nr w2)), .int (nI (pgN w2)), .int (nI (stN w2)), .int (nI (wrN w2))])), (be, .inl (g.2.1 0, 768, .inl (ge))), (bc, .inl (g.2.1 0, 192, .inl (gc))), (bu, .inl (g.2.1 0, 24, .inl (gs)))] H := xjoin hP hD hw_ hk_ [7, 8, 9, 10, 11, 12, 13, 14] [(false, 0), (false, 1), (false, 2), (false, 3), (false, 4), (false, 5), (false, 6), (true, 0), (true, 1), (true, 2), (true, 3), (true, 4), (true, 5), (true, 6), (true, 7)] rfl rfl rfl
  have hD : va_D (xin [dd, ho, ha, so, se, sc, su, ao, ae, ac, au, bo, be, bc, bu]) [(dd, .inr (3, [.ref ao, .ref bo, .int (xz (true)), .ref ho, .ref xo, .ref ta])), (ho, .inr (0, [.ref ha, .int (nI (oldN zo zh)), .int (nI (recS zh + 1))])), (ha, .inl (g.2.1 2, 4, .inr (.inr (.inr (.inr (sl)))))), (so, .inr (1, [.ref se, .ref sc, .ref su, .int (nI (nr w)), .int (nI (pgN w)), .int (nI (stN w)), .int (nI (wrN w))])), (se, .inl (g.2.1 0, 768, .inl (he2))), (sc, .inl (g.2.1 0, 192, .inl (hc2))), (su, .inl (g.2.1 0, 24, .inl (hs2))), (ao, .inr (1, [.ref ae, .ref ac, .ref au, .int (nI (nr w2)), .int (nI (pgN w2)), .int (nI (stN w2)), .int (nI (wrN w2))])), (ae, .inl (g.2.1 0, 768, .inl (fe_cf_1))), (ac, .inl (g.2.1 0, 192, .inl (fc_cf_1))), (au, .inl (g.2.1 0, 24, .inl (fs_cf_1))), (bo, .inr (1, [.ref be, .ref bc, .ref bu, .int (nI (nr w2)), .int (nI (pgN w2)), .int (nI (stN w2)), .int (nI (wrN w2))])), (be, .inl (g.2.1 0, 768, .inl (ge))), (bc, .inl (g.2.1 0, 192, .inl (gc))), (bu, .inl (g.2.1 0, 24, .inl (gs)))] := va_D_eqL [dd, ho, ha, so, se, sc, su, ao, ae, ac, au, bo, be, bc, bu] rfl rfl hD
  refine lv_aload_n hx hb dX3_restore_32 rfl (lv_at hl 0 rfl) ?_
  refine gf_X3_X3_log hF hP 0 rfl rfl dX3_restore_33 ?_
  refine gf_X3_X1_rows hF hP 7 rfl rfl dX3_restore_36 ?_
  exact xend_i (V := nI (nr w2)) hF hret hlocks hS (⟨rfl, _, _, _, _, _, _, hR2, hR_cf_1, hP⟩) dX3_restore_39
set_option maxHeartbeats 4000000 in
set_option maxRecDepth 100000 in
theorem c_X3_undo0 (l : Launch) (g : XG) (dd ao bo ho xo ta ha zo : Nat) (zk : Bool) : Met l yX3_undo (ww yX3_undo cX3_undo 1 (some .int)) (rmD 1) (xP g [.ref dd] (fun H => va_P g.1 vwCl [(dd, .inr (3, [.ref ao, .ref bo, .int (xz zk), .ref ho, .ref xo, .ref ta])), (ho, .inr (0, [.ref ha, .int (nI zo), .int (nI 0)]))] H)) (vp_Si (fun r9 => r9 = -5)) 0 0 (fun _ => False) := by
  refine xMet (by decide) rfl (Nat.le_of_ble_eq_true rfl) ?_
  intro p e s m below meth c ls hF hZ hh hret hlocks hin hl
  have hx := hF.1.1
  have hb := hF.1.2.1
  have hP := hh
  have hP : va_P g.1 vwCl [(dd, .inr (3, [.ref ao, .ref bo, .int (xz zk), .ref ho, .ref xo, .ref ta])), (ho, .inr (0, [.ref ha, .int (nI zo), .int (nI 0)]))] s.heap := hP
  have hl : lv_has ls 1 [(0, .ref dd)] := hl
  refine lv_aload_n hx hb dX3_undo_0 rfl (lv_at hl 0 rfl) ?_
  refine gf_X3_X3_history hF hP 0 rfl rfl dX3_undo_1 ?_
  refine lv_aload_n hx hb dX3_undo_4 rfl (lv_at hl 0 rfl) ?_
  refine gf_X3_X3_log hF hP 0 rfl rfl dX3_undo_5 ?_
  refine vp_callSi (va_Run.run (xrVN hF (c_X0_takeInto0 l g ho ha zo ao) cal_X0_takeInto n_31 ⟨by decide, by decide⟩ rfl rfl rfl (va_recv hF.2.1 hP (ci := 0) (q0 := 1) rfl rfl) hZ (hP.sub [1] rfl) hl.1 rfl (Nat.le_of_ble_eq_true rfl) dX3_undo_8 ⟨Nat.le_refl _, Nat.le_refl _⟩)) (fun r_ h_ => ?_)
  subst h_
  refine xZ_eq (tgt := 24) hx hb dX3_undo_11 (by decide) (fun c_11 => ?_) (fun c_11 => absurd c_11 (by decide))
  refine lv_bipush hx hb (v := (-5)) dX3_undo_24 (by decide) ?_
  exact xret_i (V := (-5)) hF hret hlocks (rfl) dX3_undo_26
set_option maxHeartbeats 4000000 in
set_option maxRecDepth 100000 in
theorem c_X3_undo (l : Launch) (g : XG) (dd bo xo ta : Nat) (zk : Bool) (ho ha zo zh so se sc su ao ae ac au yn yg yt yw : Nat) (sl : Nat → Option Nat) (he hc hs fe fc fs w2 : Nat → Int32) (hW : WF w2) (hR : LR he hc hs w2) (hzo : zo < 4) (hz4 : zh ≤ 4) (hz0 : 0 < zh) (hD : va_D (xin [dd, ho, ha, so, se, sc, su, ao, ae, ac, au]) ((dd, .inr (3, [.ref ao, .ref bo, .int (xz zk), .ref ho, .ref xo, .ref ta])) :: (ho, .inr (0, [.ref ha, .int (nI zo), .int (nI zh)])) :: (ha, .inl (g.2.1 2, 4, .inr (.inr (.inr (.inr sl))))) :: (LogC g so se sc su he hc hs w2 ++ LogX g ao ae ac au fe fc fs yn yg yt yw))) (hAB : ∀ q, xin [dd, ho, ha, so, se, sc, su, ao, ae, ac, au] q → xB g q) (hsl : sl ((zo + zh - 1) % 4) = some so) : Met l yX3_undo (ww yX3_undo cX3_undo 1 (some .int)) (rmD 4) (xP g [.ref dd] (fun H => va_P g.1 vwCl ((dd, .inr (3, [.ref ao, .ref bo, .int (xz zk), .ref ho, .ref xo, .ref ta])) :: (ho, .inr (0, [.ref ha, .int (nI zo), .int (nI zh)])) :: (ha, .inl (g.2.1 2, 4, .inr (.inr (.inr (.inr sl))))) :: (LogC g so se sc su he hc hs w2 ++ LogX g ao ae ac au fe fc fs yn yg yt yw)) H)) (xQi (fun r9 H => r9 = nI (zh - 1) ∧ ∃ fe2 fc2 fs2 : Nat → Int32, LR fe2 fc2 fs2 w2 ∧ va_P g.1 vwCl ((dd, .inr (3, [.ref ao, .ref bo, .int (xz zk), .ref ho, .ref xo, .ref ta])) :: (ho, .inr (0, [.ref ha, .int (nI zo), .int (nI (zh - 1))])) :: (ha, .inl (g.2.1 2, 4, .inr (.inr (.inr (.inr sl))))) :: (LogC g so se sc su he hc hs w2 ++ LogC g ao ae ac au fe2 fc2 fs2 w2)) H) (xin [dd, ho, ha, so, se, sc, su, ao, ae, ac, au])) 0 0 (xin [dd, ho, ha, so, se, sc, su, ao, ae, ac, au]) := by
  refine xMetM (by decide) rfl (Nat.le_of_ble_eq_true rfl) ?_
  intro p e s m below meth c ls H locs hF hZ hh hS hret hlocks hin hl
  have hx := hF.1.1
  have hb := hF.1.2.1
  have hP := hh
  have hP : va_P g.1 vwCl ((dd, .inr (3, [.ref ao, .ref bo, .int (xz zk), .ref ho, .ref xo, .ref ta])) :: (ho, .inr (0, [.ref ha, .int (nI zo), .int (nI zh)])) :: (ha, .inl (g.2.1 2, 4, .inr (.inr (.inr (.inr sl))))) :: (LogC g so se sc su he hc hs w2 ++ LogX g ao ae ac au fe fc fs yn yg yt yw)) H := hP
  have hl : lv_has ls 1 [(0, .ref dd)] := hl
  refine lv_aload_n hx hb dX3_undo_0 rfl (lv_at hl 0 rfl) ?_
  refine gf_X3_X3_history hF hP 0 rfl rfl dX3_undo_1 ?_
  refine lv_aload_n hx hb dX3_undo_4 rfl (lv_at hl 0 rfl) ?_
  refine gf_X3_X3_log hF hP 0 rfl rfl dX3_undo_5 ?_
  refine xci (xrVN hF (c_X0_takeInto l g ho ha zo zh so se sc su ao ae ac au yn yg yt yw sl he hc hs fe fc fs w2 hW hR (by omega) (by omega) hz0 (hD.self2 [1, 2, 3, 4, 5, 6, 7, 8, 9, 10] (by decide) rfl) (xin_AB hAB [1, 2, 3, 4, 5, 6, 7, 8, 9, 10] rfl) hsl) cal_X0_takeInto n_31 ⟨by decide, by decide⟩ rfl rfl rfl (va_recv hF.2.1 hP (ci := 0) (q0 := 1) rfl rfl) (hZ.at hS hAB) (hP.sub [1, 2, 3, 4, 5, 6, 7, 8, 9, 10] rfl) hl.1 rfl (Nat.le_of_ble_eq_true rfl) dX3_undo_8 ⟨Nat.le_refl _, Nat.le_refl _⟩) hS (xin_sub [1, 2, 3, 4, 5, 6, 7, 8, 9, 10] rfl) (xin_sub [1, 2, 3, 4, 5, 6, 7, 8, 9, 10] rfl) (fun r_ H locs hq_ hz_ hk_ hS => ?_)
  obtain ⟨rfl, fe2, fc2, fs2, hR3, hw_⟩ := hq_
  have hP : va_P g.1 vwCl [(dd, .inr (3, [.ref ao, .ref bo, .int (xz (zk)), .ref ho, .ref xo, .ref ta])), (ho, .inr (0, [.ref ha, .int (nI zo), .int (nI (zh - 1))])), (ha, .inl (g.2.1 2, 4, .inr (.inr (.inr (.inr (sl)))))), (so, .inr (1, [.ref se, .ref sc, .ref su, .int (nI (nr w2)), .int (nI (pgN w2)), .int (nI (stN w2)), .int (nI (wrN w2))])), (se, .inl (g.2.1 0, 768, .inl (he))), (sc, .inl (g.2.1 0, 192, .inl (hc))), (su, .inl (g.2.1 0, 24, .inl (hs))), (ao, .inr (1, [.ref ae, .ref ac, .ref au, .int (nI (nr w2)), .int (nI (pgN w2)), .int (nI (stN w2)), .int (nI (wrN w2))])), (ae, .inl (g.2.1 0, 768, .inl (fe2))), (ac, .inl (g.2.1 0, 192, .inl (fc2))), (au, .inl (g.2.1 0, 24, .inl (fs2)))] H := xjoin hP hD hw_ hk_ [1, 2, 3, 4, 5, 6, 7, 8, 9, 10] [(false, 0), (true, 0), (true, 1), (true, 2), (true, 3), (true, 4), (true, 5), (true, 6), (true, 7), (true, 8), (true, 9)] rfl rfl rfl
  have hD : va_D (xin [dd, ho, ha, so, se, sc, su, ao, ae, ac, au]) [(dd, .inr (3, [.ref ao, .ref bo, .int (xz (zk)), .ref ho, .ref xo, .ref ta])), (ho, .inr (0, [.ref ha, .int (nI zo), .int (nI (zh - 1))])), (ha, .inl (g.2.1 2, 4, .inr (.inr (.inr (.inr (sl)))))), (so, .inr (1, [.ref se, .ref sc, .ref su, .int (nI (nr w2)), .int (nI (pgN w2)), .int (nI (stN w2)), .int (nI (wrN w2))])), (se, .inl (g.2.1 0, 768, .inl (he))), (sc, .inl (g.2.1 0, 192, .inl (hc))), (su, .inl (g.2.1 0, 24, .inl (hs))), (ao, .inr (1, [.ref ae, .ref ac, .ref au, .int (nI (nr w2)), .int (nI (pgN w2)), .int (nI (stN w2)), .int (nI (wrN w2))])), (ae, .inl (g.2.1 0, 768, .inl (fe2))), (ac, .inl (g.2.1 0, 192, .inl (fc2))), (au, .inl (g.2.1 0, 24, .inl (fs2)))] := va_D_eqL [dd, ho, ha, so, se, sc, su, ao, ae, ac, au] rfl rfl hD
  refine xZ_eq (tgt := 24) hx hb dX3_undo_11 (by decide) (fun c_11 => absurd c_11 (by decide)) (fun c_11 => ?_)
  refine lv_aload_n hx hb dX3_undo_14 rfl (lv_at hl 0 rfl) ?_
  refine gf_X3_X3_history hF hP 0 rfl rfl dX3_undo_15 ?_
  refine gf_X3_X0_size hF hP 1 rfl rfl dX3_undo_18 ?_
  refine lv_goto (tgt := 26) hx hb dX3_undo_21 (by decide) ?_
  exact xend_i (V := nI (zh - 1)) hF hret hlocks hS (⟨rfl, _, _, _, hR3, hP⟩) dX3_undo_26
set_option maxHeartbeats 4000000 in
set_option maxRecDepth 100000 in
theorem c_X3_type (l : Launch) (g : XG) (dd ao bo ho ta : Nat) (zk : Bool) (xo xc xl xn xr : Nat) (tx cl : Nat → Int32) (hD : va_D (xin [dd, xo, xc, xl]) ((dd, .inr (3, [.ref ao, .ref bo, .int (xz zk), .ref ho, .ref xo, .ref ta])) :: [(xo, .inr (2, [.ref xc, .ref xl, .int (nI xn), .int (nI xr)])), (xc, .inl (g.2.1 1, 60, .inl tx)), (xl, .inl (g.2.1 0, 60, .inl cl))])) (hAB : ∀ q, xin [dd, xo, xc, xl] q → xB g q) (x : Int32) (hxc : vp_nar .char x = x) (hxn : xn ≤ 60) : Met l yX3_type (ww yX3_type cX3_type 2 (some .int)) (rmD 1) (xP g [.ref dd, .int (x)] (fun H => va_P g.1 vwCl ((dd, .inr (3, [.ref ao, .ref bo, .int (xz zk), .ref ho, .ref xo, .ref ta])) :: [(xo, .inr (2, [.ref xc, .ref xl, .int (nI xn), .int (nI xr)])), (xc, .inl (g.2.1 1, 60, .inl tx)), (xl, .inl (g.2.1 0, 60, .inl cl))]) H)) (xQi (fun r9 H => r9 = (if xn = 60 then -3 else nI (xn + 1)) ∧ (xn < 60 → va_P g.1 vwCl ((dd, .inr (3, [.ref ao, .ref bo, .int (xz zk), .ref ho, .ref xo, .ref ta])) :: [(xo, .inr (2, [.ref xc, .ref xl, .int (nI (xn + 1)), .int (nI xr)])), (xc, .inl (g.2.1 1, 60, .inl (upd tx xn x))), (xl, .inl (g.2.1 0, 60, .inl cl))]) H) ∧ (¬ xn < 60 → va_P g.1 vwCl ((dd, .inr (3, [.ref ao, .ref bo, .int (xz zk), .ref ho, .ref xo, .ref ta])) :: [(xo, .inr (2, [.ref xc, .ref xl, .int (nI xn), .int (nI xr)])), (xc, .inl (g.2.1 1, 60, .inl tx)), (xl, .inl (g.2.1 0, 60, .inl cl))]) H)) (xin [dd, xo, xc, xl])) 0 0 (xin [dd, xo, xc, xl]) := by
  refine xMetM (by decide) rfl (Nat.le_of_ble_eq_true rfl) ?_
  intro p e s m below meth c ls H locs hF hZ hh hS hret hlocks hin hl
  have hx := hF.1.1
  have hb := hF.1.2.1
  have hP := hh
  have hP : va_P g.1 vwCl ((dd, .inr (3, [.ref ao, .ref bo, .int (xz zk), .ref ho, .ref xo, .ref ta])) :: [(xo, .inr (2, [.ref xc, .ref xl, .int (nI xn), .int (nI xr)])), (xc, .inl (g.2.1 1, 60, .inl tx)), (xl, .inl (g.2.1 0, 60, .inl cl))]) H := hP
  have hl : lv_has ls 2 [(0, .ref dd), (1, .int (x))] := hl
  refine lv_aload_n hx hb dX3_type_0 rfl (lv_at hl 0 rfl) ?_
  refine gf_X3_X3_text hF hP 0 rfl rfl dX3_type_1 ?_
  refine lv_iload_n hx hb dX3_type_4 rfl (lv_at hl 1 rfl) ?_
  by_cases hxn2 : xn < 60
  · refine xci (xrVN hF (c_X2_append l g xo xc xl xn xr tx cl (hD.self2 [1, 2, 3] (by decide) rfl) (xin_AB hAB [1, 2, 3] rfl) ((x)) hxc hxn) cal_X2_append n_30 ⟨by decide, by decide⟩ rfl rfl rfl (va_recv hF.2.1 hP (ci := 2) (q0 := 1) rfl rfl) (hZ.at hS hAB) (hP.sub [1, 2, 3] rfl) hl.1 rfl (Nat.le_of_ble_eq_true rfl) dX3_type_5 ⟨Nat.le_refl _, Nat.le_refl _⟩) hS (xin_sub [1, 2, 3] rfl) (xin_sub [1, 2, 3] rfl) (fun r_ H locs hq_ hz_ hk_ hS => ?_)
    obtain ⟨he_, hw1_, hw2_⟩ := hq_
    have hw_ := hw1_ hxn2
    rw [he_, decide_eq_true hxn2]
    have hP : va_P g.1 vwCl [(dd, .inr (3, [.ref ao, .ref bo, .int (xz (zk)), .ref ho, .ref xo, .ref ta])), (xo, .inr (2, [.ref xc, .ref xl, .int (nI (xn + 1)), .int (nI xr)])), (xc, .inl (g.2.1 1, 60, .inl (upd tx xn x))), (xl, .inl (g.2.1 0, 60, .inl (cl)))] H := xjoin hP hD hw_ hk_ [1, 2, 3] [(false, 0), (true, 0), (true, 1), (true, 2)] rfl rfl rfl
    have hD : va_D (xin [dd, xo, xc, xl]) [(dd, .inr (3, [.ref ao, .ref bo, .int (xz (zk)), .ref ho, .ref xo, .ref ta])), (xo, .inr (2, [.ref xc, .ref xl, .int (nI (xn + 1)), .int (nI xr)])), (xc, .inl (g.2.1 1, 60, .inl (upd tx xn x))), (xl, .inl (g.2.1 0, 60, .inl (cl)))] := va_D_eqL [dd, xo, xc, xl] rfl rfl hD
    refine xZ_eq (tgt := 21) hx hb dX3_type_8 (by decide) (fun c_8 => absurd c_8 (by decide)) (fun c_8 => ?_)
    refine lv_aload_n hx hb dX3_type_11 rfl (lv_at hl 0 rfl) ?_
    refine gf_X3_X3_text hF hP 0 rfl rfl dX3_type_12 ?_
    refine gf_X3_X2_length hF hP 1 rfl rfl dX3_type_15 ?_
    refine lv_goto (tgt := 23) hx hb dX3_type_18 (by decide) ?_
    exact xend_i (V := nI (xn + 1)) hF hret hlocks hS (⟨by rw [if_neg (by omega)], fun _ => hP, fun h => absurd hxn2 h⟩) dX3_type_23
  · refine xci (xrVN hF (c_X2_append l g xo xc xl xn xr tx cl (hD.self2 [1, 2, 3] (by decide) rfl) (xin_AB hAB [1, 2, 3] rfl) ((x)) hxc hxn) cal_X2_append n_30 ⟨by decide, by decide⟩ rfl rfl rfl (va_recv hF.2.1 hP (ci := 2) (q0 := 1) rfl rfl) (hZ.at hS hAB) (hP.sub [1, 2, 3] rfl) hl.1 rfl (Nat.le_of_ble_eq_true rfl) dX3_type_5 ⟨Nat.le_refl _, Nat.le_refl _⟩) hS (xin_sub [1, 2, 3] rfl) (xin_sub [1, 2, 3] rfl) (fun r_ H locs hq_ hz_ hk_ hS => ?_)
    obtain ⟨he_, hw1_, hw2_⟩ := hq_
    have hw_ := hw2_ hxn2
    rw [he_, decide_eq_false hxn2]
    have hP : va_P g.1 vwCl [(dd, .inr (3, [.ref ao, .ref bo, .int (xz (zk)), .ref ho, .ref xo, .ref ta])), (xo, .inr (2, [.ref xc, .ref xl, .int (nI xn), .int (nI xr)])), (xc, .inl (g.2.1 1, 60, .inl (tx))), (xl, .inl (g.2.1 0, 60, .inl (cl)))] H := xjoin hP hD hw_ hk_ [1, 2, 3] [(false, 0), (true, 0), (true, 1), (true, 2)] rfl rfl rfl
    have hD : va_D (xin [dd, xo, xc, xl]) [(dd, .inr (3, [.ref ao, .ref bo, .int (xz (zk)), .ref ho, .ref xo, .ref ta])), (xo, .inr (2, [.ref xc, .ref xl, .int (nI xn), .int (nI xr)])), (xc, .inl (g.2.1 1, 60, .inl (tx))), (xl, .inl (g.2.1 0, 60, .inl (cl)))] := va_D_eqL [dd, xo, xc, xl] rfl rfl hD
    refine xZ_eq (tgt := 21) hx hb dX3_type_8 (by decide) (fun c_8 => ?_) (fun c_8 => absurd c_8 (by decide))
    refine lv_bipush hx hb (v := (-3)) dX3_type_21 (by decide) ?_
    exact xend_i (V := (-3)) hF hret hlocks hS (⟨by rw [if_pos (by omega)], fun h => absurd h hxn2, fun _ => hP⟩) dX3_type_23
set_option maxHeartbeats 4000000 in
set_option maxRecDepth 100000 in
theorem c_X3_clearText (l : Launch) (g : XG) (dd ao bo ho ta : Nat) (zk : Bool) (xo xc xl xn xr : Nat) (tx cl : Nat → Int32) (hD : va_D (xin [dd, xo, xc, xl]) ((dd, .inr (3, [.ref ao, .ref bo, .int (xz zk), .ref ho, .ref xo, .ref ta])) :: [(xo, .inr (2, [.ref xc, .ref xl, .int (nI xn), .int (nI xr)])), (xc, .inl (g.2.1 1, 60, .inl tx)), (xl, .inl (g.2.1 0, 60, .inl cl))])) (hAB : ∀ q, xin [dd, xo, xc, xl] q → xB g q) : Met l yX3_clearText (ww yX3_clearText cX3_clearText 2 (some .int)) (rmD 0) (xP g [.ref dd] (fun H => va_P g.1 vwCl ((dd, .inr (3, [.ref ao, .ref bo, .int (xz zk), .ref ho, .ref xo, .ref ta])) :: [(xo, .inr (2, [.ref xc, .ref xl, .int (nI xn), .int (nI xr)])), (xc, .inl (g.2.1 1, 60, .inl tx)), (xl, .inl (g.2.1 0, 60, .inl cl))]) H)) (xQi (fun r9 H => r9 = nI xn ∧ va_P g.1 vwCl ((dd, .inr (3, [.ref ao, .ref bo, .int (xz zk), .ref ho, .ref xo, .ref ta])) :: [(xo, .inr (2, [.ref xc, .ref xl, .int (nI 0), .int (nI xr)])), (xc, .inl (g.2.1 1, 60, .inl tx)), (xl, .inl (g.2.1 0, 60, .inl cl))]) H) (xin [dd, xo, xc, xl])) 0 0 (xin [dd, xo, xc, xl]) := by
  refine xMetM (by decide) rfl (Nat.le_of_ble_eq_true rfl) ?_
  intro p e s m below meth c ls H locs hF hZ hh hS hret hlocks hin hl
  have hx := hF.1.1
  have hb := hF.1.2.1
  have hP := hh
  have hP : va_P g.1 vwCl ((dd, .inr (3, [.ref ao, .ref bo, .int (xz zk), .ref ho, .ref xo, .ref ta])) :: [(xo, .inr (2, [.ref xc, .ref xl, .int (nI xn), .int (nI xr)])), (xc, .inl (g.2.1 1, 60, .inl tx)), (xl, .inl (g.2.1 0, 60, .inl cl))]) H := hP
  have hl : lv_has ls 2 [(0, .ref dd)] := hl
  refine lv_aload_n hx hb dX3_clearText_0 rfl (lv_at hl 0 rfl) ?_
  refine gf_X3_X3_text hF hP 0 rfl rfl dX3_clearText_1 ?_
  refine gf_X3_X2_length hF hP 1 rfl rfl dX3_clearText_4 ?_
  refine lv_istore_n (lv' := [(1, .int (nI xn)), (0, .ref dd)]) hx hb dX3_clearText_7 rfl hl (by decide) rfl (fun ls hl => ?_)
  refine lv_aload_n hx hb dX3_clearText_8 rfl (lv_at hl 1 rfl) ?_
  refine gf_X3_X3_text hF hP 0 rfl rfl dX3_clearText_9 ?_
  refine xN_const hx hb 0 dX3_clearText_12 (by decide) ?_
  refine pf_X3_X2_length hF hP hD hS 1 rfl (Nat.le_of_ble_eq_true rfl) dX3_clearText_13 (fun H locs hP hS => ?_)
  have hP : va_P g.1 vwCl [(dd, .inr (3, [.ref ao, .ref bo, .int (xz (zk)), .ref ho, .ref xo, .ref ta])), (xo, .inr (2, [.ref xc, .ref xl, .int (nI 0), .int (nI xr)])), (xc, .inl (g.2.1 1, 60, .inl (tx))), (xl, .inl (g.2.1 0, 60, .inl (cl)))] H := hP
  have hD : va_D (xin [dd, xo, xc, xl]) [(dd, .inr (3, [.ref ao, .ref bo, .int (xz (zk)), .ref ho, .ref xo, .ref ta])), (xo, .inr (2, [.ref xc, .ref xl, .int (nI 0), .int (nI xr)])), (xc, .inl (g.2.1 1, 60, .inl (tx))), (xl, .inl (g.2.1 0, 60, .inl (cl)))] := (va_D_eqL [dd, xo, xc, xl] rfl rfl hD)
  refine lv_iload_n hx hb dX3_clearText_16 rfl (lv_at hl 0 rfl) ?_
  exact xend_i (V := nI (xn)) hF hret hlocks hS (⟨rfl, hP⟩) dX3_clearText_17
