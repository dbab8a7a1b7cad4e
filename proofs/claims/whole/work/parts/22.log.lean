/-! the logbook: its methods that change cells -/
set_option maxHeartbeats 4000000 in
set_option maxRecDepth 100000 in
theorem c_X1_pushEntry (l : Launch) (g : XG) (ao ae ac au zn zg zt zw : Nat) (fe fc fs : Nat → Int32) (hD : va_D (xin [ao, ae, ac, au]) (LogX g ao ae ac au fe fc fs zn zg zt zw)) (hAB : ∀ q, xin [ao, ae, ac, au] q → xB g q)  (r k : Nat) (x : Int32) (q : Nat) (hr : r < 48) (hk : k < 4) (hq : q < 4) (hfc : fc (r * 4 + k) = nI q) : Met l yX1_pushEntry (ww yX1_pushEntry cX1_pushEntry 6 none) (rmD 0) (xP g [.ref ao, .int (nI r), .int (nI k), .int (x)] (fun H => va_P g.1 vwCl (LogX g ao ae ac au fe fc fs zn zg zt zw) H)) (xQv (fun H => va_P g.1 vwCl (LogX g ao ae ac au (upd fe ((r * 4 + k) * 4 + q) x) (upd fc (r * 4 + k) (nI (q + 1))) fs zn zg zt zw) H) (xin [ao, ae, ac, au])) 0 0 (xin [ao, ae, ac, au]) := by
  refine xMetM (by decide) rfl (Nat.le_of_ble_eq_true rfl) ?_
  intro p e s m below meth c ls H locs hF hZ hh hS hret hlocks hin hl
  have hx := hF.1.1
  have hb := hF.1.2.1
  have hP := hh
  have hP : va_P g.1 vwCl (LogX g ao ae ac au fe fc fs zn zg zt zw) H := hP
  have hl : lv_has ls 6 [(0, .ref ao), (1, .int (nI r)), (2, .int (nI k)), (3, .int (x))] := hl
  refine lv_iload_n hx hb dX1_pushEntry_0 rfl (lv_at hl 1 rfl) ?_
  refine xN_const hx hb 4 dX1_pushEntry_1 (by decide) ?_
  refine xN_mul hx hb dX1_pushEntry_2 ?_
  refine lv_iload_n hx hb dX1_pushEntry_3 rfl (lv_at hl 2 rfl) ?_
  refine xN_add hx hb dX1_pushEntry_4 ?_
  refine lv_istore (lv' := [(4, .int (nI (r * 4 + k))), (0, .ref ao), (1, .int (nI r)), (2, .int (nI k)), (3, .int (x))]) hx hb dX1_pushEntry_5 hl (by decide) rfl (fun ls hl => ?_)
  refine lv_iload hx hb dX1_pushEntry_7 (lv_at hl 0 rfl) ?_
  refine xI_lt (tgt := 22) hx hb (by omega) dX1_pushEntry_9 (by decide) ?_
  refine lv_iload hx hb dX1_pushEntry_12 (lv_at hl 0 rfl) ?_
  refine lv_aload_n hx hb dX1_pushEntry_14 rfl (lv_at hl 1 rfl) ?_
  refine gf_X1_X1_entryCounts hF hP 0 rfl rfl dX1_pushEntry_15 ?_
  refine xA_len hF hP 2 0 rfl rfl dX1_pushEntry_18 ?_
  refine xC_lt (tgt := 23) hx hb (by omega) (by omega) dX1_pushEntry_19 (by decide) (fun c_19 => ?_) (fun c_19 => absurd c_19 (by omega))
  refine lv_iload hx hb dX1_pushEntry_23 (lv_at hl 0 rfl) ?_
  refine xN_const hx hb 4 dX1_pushEntry_25 (by decide) ?_
  refine xN_mul hx hb dX1_pushEntry_26 ?_
  refine lv_aload_n hx hb dX1_pushEntry_27 rfl (lv_at hl 1 rfl) ?_
  refine gf_X1_X1_entryCounts hF hP 0 rfl rfl dX1_pushEntry_28 ?_
  refine lv_iload hx hb dX1_pushEntry_31 (lv_at hl 0 rfl) ?_
  refine xA_ild hF hP 2 rfl (by omega) (by decide) (v := nI (q)) (hfc) dX1_pushEntry_33 ?_
  refine xN_add hx hb dX1_pushEntry_34 ?_
  refine lv_istore (lv' := [(5, .int (nI ((r * 4 + k) * 4 + q))), (4, .int (nI (r * 4 + k))), (0, .ref ao), (1, .int (nI r)), (2, .int (nI k)), (3, .int (x))]) hx hb dX1_pushEntry_35 hl (by decide) rfl (fun ls hl => ?_)
  refine lv_iload hx hb dX1_pushEntry_37 (lv_at hl 0 rfl) ?_
  refine xI_lt (tgt := 71) hx hb (by omega) dX1_pushEntry_39 (by decide) ?_
  refine lv_iload hx hb dX1_pushEntry_42 (lv_at hl 0 rfl) ?_
  refine lv_aload_n hx hb dX1_pushEntry_44 rfl (lv_at hl 2 rfl) ?_
  refine gf_X1_X1_entries hF hP 0 rfl rfl dX1_pushEntry_45 ?_
  refine xA_len hF hP 1 0 rfl rfl dX1_pushEntry_48 ?_
  refine xC_ge (tgt := 71) hx hb (by omega) (by omega) dX1_pushEntry_49 (by decide) (fun c_49 => absurd c_49 (by omega)) (fun c_49 => ?_)
  refine lv_aload_n hx hb dX1_pushEntry_52 rfl (lv_at hl 2 rfl) ?_
  refine gf_X1_X1_entries hF hP 0 rfl rfl dX1_pushEntry_53 ?_
  refine lv_iload hx hb dX1_pushEntry_56 (lv_at hl 0 rfl) ?_
  refine lv_iload_n hx hb dX1_pushEntry_58 rfl (lv_at hl 5 rfl) ?_
  refine xA_ist hF hP hD hS 1 rfl (by omega) (by decide) dX1_pushEntry_59 (fun H locs hP hS => ?_)
  have hP : va_P g.1 vwCl [(ao, .inr (1, [.ref ae, .ref ac, .ref au, .int (nI zn), .int (nI zg), .int (nI zt), .int (nI zw)])), (ae, .inl (g.2.1 0, 768, .inl (upd (fe) ((r * 4 + k) * 4 + q) ((x))))), (ac, .inl (g.2.1 0, 192, .inl (fc))), (au, .inl (g.2.1 0, 24, .inl (fs)))] H := hP
  have hD : va_D (xin [ao, ae, ac, au]) [(ao, .inr (1, [.ref ae, .ref ac, .ref au, .int (nI zn), .int (nI zg), .int (nI zt), .int (nI zw)])), (ae, .inl (g.2.1 0, 768, .inl (upd (fe) ((r * 4 + k) * 4 + q) ((x))))), (ac, .inl (g.2.1 0, 192, .inl (fc))), (au, .inl (g.2.1 0, 24, .inl (fs)))] := (va_D_eq (by rfl) hD)
  refine lv_aload_n hx hb dX1_pushEntry_60 rfl (lv_at hl 2 rfl) ?_
  refine gf_X1_X1_entryCounts hF hP 0 rfl rfl dX1_pushEntry_61 ?_
  refine lv_iload hx hb dX1_pushEntry_64 (lv_at hl 1 rfl) ?_
  refine lv_dup2_11 hx hb dX1_pushEntry_66 rfl rfl ?_
  refine xA_ild hF hP 2 rfl (by omega) (by decide) (v := nI (q)) (hfc) dX1_pushEntry_67 ?_
  refine xN_const hx hb 1 dX1_pushEntry_68 (by decide) ?_
  refine xN_add hx hb dX1_pushEntry_69 ?_
  refine xA_ist hF hP hD hS 2 rfl (by omega) (by decide) dX1_pushEntry_70 (fun H locs hP hS => ?_)
  have hP : va_P g.1 vwCl [(ao, .inr (1, [.ref ae, .ref ac, .ref au, .int (nI zn), .int (nI zg), .int (nI zt), .int (nI zw)])), (ae, .inl (g.2.1 0, 768, .inl (upd (fe) ((r * 4 + k) * 4 + q) ((x))))), (ac, .inl (g.2.1 0, 192, .inl (upd (fc) (r * 4 + k) (nI (q + 1))))), (au, .inl (g.2.1 0, 24, .inl (fs)))] H := hP
  have hD : va_D (xin [ao, ae, ac, au]) [(ao, .inr (1, [.ref ae, .ref ac, .ref au, .int (nI zn), .int (nI zg), .int (nI zt), .int (nI zw)])), (ae, .inl (g.2.1 0, 768, .inl (upd (fe) ((r * 4 + k) * 4 + q) ((x))))), (ac, .inl (g.2.1 0, 192, .inl (upd (fc) (r * 4 + k) (nI (q + 1))))), (au, .inl (g.2.1 0, 24, .inl (fs)))] := (va_D_eq (by rfl) hD)
  exact xend_v hF hret hlocks hS (hP) dX1_pushEntry_71
set_option maxHeartbeats 4000000 in
set_option maxRecDepth 100000 in
theorem c_X1_startCell (l : Launch) (g : XG) (ao ae ac au zn zg zt zw : Nat) (fe fc fs : Nat → Int32) (hD : va_D (xin [ao, ae, ac, au]) (LogX g ao ae ac au fe fc fs zn zg zt zw)) (hAB : ∀ q, xin [ao, ae, ac, au] q → xB g q)  (r k : Nat) (x : Int32) (hr : r < 48) (hk : k < 4) : Met l yX1_startCell (ww yX1_startCell cX1_startCell 5 none) (rmD 1) (xP g [.ref ao, .int (nI r), .int (nI k), .int (x)] (fun H => va_P g.1 vwCl (LogX g ao ae ac au fe fc fs zn zg zt zw) H)) (xQv (fun H => va_P g.1 vwCl (LogX g ao ae ac au (upd fe ((r * 4 + k) * 4 + 0) x) (one1 fc (r * 4 + k)) fs zn zg zt zw) H) (xin [ao, ae, ac, au])) 0 0 (xin [ao, ae, ac, au]) := by
  refine xMetM (by decide) rfl (Nat.le_of_ble_eq_true rfl) ?_
  intro p e s m below meth c ls H locs hF hZ hh hS hret hlocks hin hl
  have hx := hF.1.1
  have hb := hF.1.2.1
  have hP := hh
  have hP : va_P g.1 vwCl (LogX g ao ae ac au fe fc fs zn zg zt zw) H := hP
  have hl : lv_has ls 5 [(0, .ref ao), (1, .int (nI r)), (2, .int (nI k)), (3, .int (x))] := hl
  refine lv_iload_n hx hb dX1_startCell_0 rfl (lv_at hl 1 rfl) ?_
  refine xN_const hx hb 4 dX1_startCell_1 (by decide) ?_
  refine xN_mul hx hb dX1_startCell_2 ?_
  refine lv_iload_n hx hb dX1_startCell_3 rfl (lv_at hl 2 rfl) ?_
  refine xN_add hx hb dX1_startCell_4 ?_
  refine lv_istore (lv' := [(4, .int (nI (r * 4 + k))), (0, .ref ao), (1, .int (nI r)), (2, .int (nI k)), (3, .int (x))]) hx hb dX1_startCell_5 hl (by decide) rfl (fun ls hl => ?_)
  refine lv_iload hx hb dX1_startCell_7 (lv_at hl 0 rfl) ?_
  refine xI_lt (tgt := 30) hx hb (by omega) dX1_startCell_9 (by decide) ?_
  refine lv_iload hx hb dX1_startCell_12 (lv_at hl 0 rfl) ?_
  refine lv_aload_n hx hb dX1_startCell_14 rfl (lv_at hl 1 rfl) ?_
  refine gf_X1_X1_entryCounts hF hP 0 rfl rfl dX1_startCell_15 ?_
  refine xA_len hF hP 2 0 rfl rfl dX1_startCell_18 ?_
  refine xC_ge (tgt := 30) hx hb (by omega) (by omega) dX1_startCell_19 (by decide) (fun c_19 => absurd c_19 (by omega)) (fun c_19 => ?_)
  refine lv_aload_n hx hb dX1_startCell_22 rfl (lv_at hl 1 rfl) ?_
  refine gf_X1_X1_entryCounts hF hP 0 rfl rfl dX1_startCell_23 ?_
  refine lv_iload hx hb dX1_startCell_26 (lv_at hl 0 rfl) ?_
  refine xN_const hx hb 0 dX1_startCell_28 (by decide) ?_
  refine xA_ist hF hP hD hS 2 rfl (by omega) (by decide) dX1_startCell_29 (fun H locs hP hS => ?_)
  have hP : va_P g.1 vwCl [(ao, .inr (1, [.ref ae, .ref ac, .ref au, .int (nI zn), .int (nI zg), .int (nI zt), .int (nI zw)])), (ae, .inl (g.2.1 0, 768, .inl (fe))), (ac, .inl (g.2.1 0, 192, .inl (upd (fc) (r * 4 + k) (nI (0))))), (au, .inl (g.2.1 0, 24, .inl (fs)))] H := hP
  have hD : va_D (xin [ao, ae, ac, au]) [(ao, .inr (1, [.ref ae, .ref ac, .ref au, .int (nI zn), .int (nI zg), .int (nI zt), .int (nI zw)])), (ae, .inl (g.2.1 0, 768, .inl (fe))), (ac, .inl (g.2.1 0, 192, .inl (upd (fc) (r * 4 + k) (nI (0))))), (au, .inl (g.2.1 0, 24, .inl (fs)))] := (va_D_eq (by rfl) hD)
  refine lv_aload_n hx hb dX1_startCell_30 rfl (lv_at hl 1 rfl) ?_
  refine lv_iload_n hx hb dX1_startCell_31 rfl (lv_at hl 2 rfl) ?_
  refine lv_iload_n hx hb dX1_startCell_32 rfl (lv_at hl 3 rfl) ?_
  refine lv_iload_n hx hb dX1_startCell_33 rfl (lv_at hl 4 rfl) ?_
  refine xcv (xrV hF (c_X1_pushEntry l g ao ae ac au zn zg zt zw fe (upd (fc) (r * 4 + k) (nI (0))) fs hD hAB r k ((x)) 0 (by omega) (by omega) (by omega) (upd_at _ _ _)) cal_X1_pushEntry q_105 ⟨by decide, by decide⟩ rfl rfl rfl (va_recv hF.2.1 hP (ci := 1) (q0 := 0) rfl rfl) (hZ.at hS hAB) (hP) hl.1 rfl (Nat.le_of_ble_eq_true rfl) dX1_startCell_34 ⟨Nat.le_refl _, Nat.le_refl _⟩) hS (xin_sub [0, 1, 2, 3] rfl) (xin_sub [0, 1, 2, 3] rfl) (fun H locs hq_ hz_ hk_ hS => ?_)
  have hw_ := hq_
  have hP : va_P g.1 vwCl [(ao, .inr (1, [.ref ae, .ref ac, .ref au, .int (nI zn), .int (nI zg), .int (nI zt), .int (nI zw)])), (ae, .inl (g.2.1 0, 768, .inl (upd fe ((r * 4 + k) * 4 + 0) ((x))))), (ac, .inl (g.2.1 0, 192, .inl (upd (upd (fc) (r * 4 + k) (nI (0))) (r * 4 + k) (nI (0 + 1))))), (au, .inl (g.2.1 0, 24, .inl (fs)))] H := xjoin hP hD hw_ hk_ [0, 1, 2, 3] [(true, 0), (true, 1), (true, 2), (true, 3)] rfl rfl rfl
  have hD : va_D (xin [ao, ae, ac, au]) [(ao, .inr (1, [.ref ae, .ref ac, .ref au, .int (nI zn), .int (nI zg), .int (nI zt), .int (nI zw)])), (ae, .inl (g.2.1 0, 768, .inl (upd fe ((r * 4 + k) * 4 + 0) ((x))))), (ac, .inl (g.2.1 0, 192, .inl (upd (upd (fc) (r * 4 + k) (nI (0))) (r * 4 + k) (nI (0 + 1))))), (au, .inl (g.2.1 0, 24, .inl (fs)))] := va_D_eq (by rfl) hD
  exact xend_v hF hret hlocks hS (hP) dX1_startCell_37
set_option maxHeartbeats 4000000 in
set_option maxRecDepth 100000 in
theorem c_X1_appendRow (l : Launch) (g : XG) (ao ae ac au : Nat) (fe fc fs w : Nat → Int32) (hD : va_D (xin [ao, ae, ac, au]) (LogC g ao ae ac au fe fc fs w)) (hAB : ∀ q, xin [ao, ae, ac, au] q → xB g q) (hW : WF w) (hR : LR fe fc fs w)  (a b c9 d9 : Int32) (hn : nr w < 48) (ha : EntOk 0 a) (hb9 : EntOk 1 b) (hc9 : EntOk 2 c9) (hd9 : EntOk 3 d9) : Met l yX1_appendRow (ww yX1_appendRow cX1_appendRow 6 none) (rmD 2) (xP g [.ref ao, .int (a), .int (b), .int (c9), .int (d9)] (fun H => va_P g.1 vwCl (LogC g ao ae ac au fe fc fs w) H)) (xQv (fun H => va_P g.1 vwCl (LogC g ao ae ac au (addE fe (nr w) a b c9 d9) (one1 (one1 (one1 (one1 fc (nr w * 4 + 0)) (nr w * 4 + 1)) (nr w * 4 + 2)) (nr w * 4 + 3)) fs (addW w a b c9 d9)) H) (xin [ao, ae, ac, au])) 0 0 (xin [ao, ae, ac, au]) := by
  refine xMetM (by decide) rfl (Nat.le_of_ble_eq_true rfl) ?_
  intro p e s m below meth c ls H locs hF hZ hh hS hret hlocks hin hl
  have hx := hF.1.1
  have hb := hF.1.2.1
  have hP := hh
  have hP : va_P g.1 vwCl (LogC g ao ae ac au fe fc fs w) H := hP
  have hl : lv_has ls 6 [(0, .ref ao), (1, .int (a)), (2, .int (b)), (3, .int (c9)), (4, .int (d9))] := hl
  have h48 := hW.n48
  refine lv_aload_n hx hb dX1_appendRow_0 rfl (lv_at hl 0 rfl) ?_
  refine gf_X1_X1_rows hF hP 0 rfl rfl dX1_appendRow_1 ?_
  refine lv_istore (lv' := [(5, .int (nI (nr w))), (0, .ref ao), (1, .int (a)), (2, .int (b)), (3, .int (c9)), (4, .int (d9))]) hx hb dX1_appendRow_4 hl (by decide) rfl (fun ls hl => ?_)
  refine lv_aload_n hx hb dX1_appendRow_6 rfl (lv_at hl 1 rfl) ?_
  refine lv_dup hx hb dX1_appendRow_7 rfl ?_
  refine gf_X1_X1_rows hF hP 0 rfl rfl dX1_appendRow_8 ?_
  refine xN_const hx hb 1 dX1_appendRow_11 (by decide) ?_
  refine xN_add hx hb dX1_appendRow_12 ?_
  refine pf_X1_X1_rows hF hP hD hS 0 rfl (Nat.le_of_ble_eq_true rfl) dX1_appendRow_13 (fun H locs hP hS => ?_)
  have hP : va_P g.1 vwCl [(ao, .inr (1, [.ref ae, .ref ac, .ref au, .int (nI (nr w + 1)), .int (nI (pgN w)), .int (nI (stN w)), .int (nI (wrN w))])), (ae, .inl (g.2.1 0, 768, .inl (fe))), (ac, .inl (g.2.1 0, 192, .inl (fc))), (au, .inl (g.2.1 0, 24, .inl (fs)))] H := hP
  have hD : va_D (xin [ao, ae, ac, au]) [(ao, .inr (1, [.ref ae, .ref ac, .ref au, .int (nI (nr w + 1)), .int (nI (pgN w)), .int (nI (stN w)), .int (nI (wrN w))])), (ae, .inl (g.2.1 0, 768, .inl (fe))), (ac, .inl (g.2.1 0, 192, .inl (fc))), (au, .inl (g.2.1 0, 24, .inl (fs)))] := (va_D_eq (by rfl) hD)
  refine lv_aload_n hx hb dX1_appendRow_16 rfl (lv_at hl 1 rfl) ?_
  refine lv_iload hx hb dX1_appendRow_17 (lv_at hl 0 rfl) ?_
  refine xN_const hx hb 0 dX1_appendRow_19 (by decide) ?_
  refine lv_iload_n hx hb dX1_appendRow_20 rfl (lv_at hl 2 rfl) ?_
  refine xcv (xrV hF (c_X1_startCell l g ao ae ac au (nr w + 1) (pgN w) (stN w) (wrN w) fe fc fs hD hAB (nr w) 0 ((a)) (by omega) (by omega)) cal_X1_startCell q_101 ⟨by decide, by decide⟩ rfl rfl rfl (va_recv hF.2.1 hP (ci := 1) (q0 := 0) rfl rfl) (hZ.at hS hAB) (hP) hl.1 rfl (Nat.le_of_ble_eq_true rfl) dX1_appendRow_21 ⟨Nat.le_refl _, Nat.le_refl _⟩) hS (xin_sub [0, 1, 2, 3] rfl) (xin_sub [0, 1, 2, 3] rfl) (fun H locs hq_ hz_ hk_ hS => ?_)
  have hw_ := hq_
  have hP : va_P g.1 vwCl [(ao, .inr (1, [.ref ae, .ref ac, .ref au, .int (nI (nr w + 1)), .int (nI (pgN w)), .int (nI (stN w)), .int (nI (wrN w))])), (ae, .inl (g.2.1 0, 768, .inl (upd fe (((nr w) * 4 + 0) * 4 + 0) ((a))))), (ac, .inl (g.2.1 0, 192, .inl (one1 fc ((nr w) * 4 + 0)))), (au, .inl (g.2.1 0, 24, .inl (fs)))] H := xjoin hP hD hw_ hk_ [0, 1, 2, 3] [(true, 0), (true, 1), (true, 2), (true, 3)] rfl rfl rfl
  have hD : va_D (xin [ao, ae, ac, au]) [(ao, .inr (1, [.ref ae, .ref ac, .ref au, .int (nI (nr w + 1)), .int (nI (pgN w)), .int (nI (stN w)), .int (nI (wrN w))])), (ae, .inl (g.2.1 0, 768, .inl (upd fe (((nr w) * 4 + 0) * 4 + 0) ((a))))), (ac, .inl (g.2.1 0, 192, .inl (one1 fc ((nr w) * 4 + 0)))), (au, .inl (g.2.1 0, 24, .inl (fs)))] := va_D_eq (by rfl) hD
  refine lv_aload_n hx hb dX1_appendRow_24 rfl (lv_at hl 1 rfl) ?_
  refine lv_iload hx hb dX1_appendRow_25 (lv_at hl 0 rfl) ?_
  refine xN_const hx hb 1 dX1_appendRow_27 (by decide) ?_
  refine lv_iload_n hx hb dX1_appendRow_28 rfl (lv_at hl 3 rfl) ?_
  refine xcv (xrV hF (c_X1_startCell l g ao ae ac au (nr w + 1) (pgN w) (stN w) (wrN w) (upd fe (((nr w) * 4 + 0) * 4 + 0) ((a))) (one1 fc ((nr w) * 4 + 0)) fs hD hAB (nr w) 1 ((b)) (by omega) (by omega)) cal_X1_startCell q_101 ⟨by decide, by decide⟩ rfl rfl rfl (va_recv hF.2.1 hP (ci := 1) (q0 := 0) rfl rfl) (hZ.at hS hAB) (hP) hl.1 rfl (Nat.le_of_ble_eq_true rfl) dX1_appendRow_29 ⟨Nat.le_refl _, Nat.le_refl _⟩) hS (xin_sub [0, 1, 2, 3] rfl) (xin_sub [0, 1, 2, 3] rfl) (fun H locs hq_ hz_ hk_ hS => ?_)
  have hw_ := hq_
  have hP : va_P g.1 vwCl [(ao, .inr (1, [.ref ae, .ref ac, .ref au, .int (nI (nr w + 1)), .int (nI (pgN w)), .int (nI (stN w)), .int (nI (wrN w))])), (ae, .inl (g.2.1 0, 768, .inl (upd (upd fe (((nr w) * 4 + 0) * 4 + 0) ((a))) (((nr w) * 4 + 1) * 4 + 0) ((b))))), (ac, .inl (g.2.1 0, 192, .inl (one1 (one1 fc ((nr w) * 4 + 0)) ((nr w) * 4 + 1)))), (au, .inl (g.2.1 0, 24, .inl (fs)))] H := xjoin hP hD hw_ hk_ [0, 1, 2, 3] [(true, 0), (true, 1), (true, 2), (true, 3)] rfl rfl rfl
  have hD : va_D (xin [ao, ae, ac, au]) [(ao, .inr (1, [.ref ae, .ref ac, .ref au, .int (nI (nr w + 1)), .int (nI (pgN w)), .int (nI (stN w)), .int (nI (wrN w))])), (ae, .inl (g.2.1 0, 768, .inl (upd (upd fe (((nr w) * 4 + 0) * 4 + 0) ((a))) (((nr w) * 4 + 1) * 4 + 0) ((b))))), (ac, .inl (g.2.1 0, 192, .inl (one1 (one1 fc ((nr w) * 4 + 0)) ((nr w) * 4 + 1)))), (au, .inl (g.2.1 0, 24, .inl (fs)))] := va_D_eq (by rfl) hD
  refine lv_aload_n hx hb dX1_appendRow_32 rfl (lv_at hl 1 rfl) ?_
  refine lv_iload hx hb dX1_appendRow_33 (lv_at hl 0 rfl) ?_
  refine xN_const hx hb 2 dX1_appendRow_35 (by decide) ?_
  refine lv_iload_n hx hb dX1_appendRow_36 rfl (lv_at hl 4 rfl) ?_
  refine xcv (xrV hF (c_X1_startCell l g ao ae ac au (nr w + 1) (pgN w) (stN w) (wrN w) (upd (upd fe (((nr w) * 4 + 0) * 4 + 0) ((a))) (((nr w) * 4 + 1) * 4 + 0) ((b))) (one1 (one1 fc ((nr w) * 4 + 0)) ((nr w) * 4 + 1)) fs hD hAB (nr w) 2 ((c9)) (by omega) (by omega)) cal_X1_startCell q_101 ⟨by decide, by decide⟩ rfl rfl rfl (va_recv hF.2.1 hP (ci := 1) (q0 := 0) rfl rfl) (hZ.at hS hAB) (hP) hl.1 rfl (Nat.le_of_ble_eq_true rfl) dX1_appendRow_37 ⟨Nat.le_refl _, Nat.le_refl _⟩) hS (xin_sub [0, 1, 2, 3] rfl) (xin_sub [0, 1, 2, 3] rfl) (fun H locs hq_ hz_ hk_ hS => ?_)
  have hw_ := hq_
  have hP : va_P g.1 vwCl [(ao, .inr (1, [.ref ae, .ref ac, .ref au, .int (nI (nr w + 1)), .int (nI (pgN w)), .int (nI (stN w)), .int (nI (wrN w))])), (ae, .inl (g.2.1 0, 768, .inl (upd (upd (upd fe (((nr w) * 4 + 0) * 4 + 0) ((a))) (((nr w) * 4 + 1) * 4 + 0) ((b))) (((nr w) * 4 + 2) * 4 + 0) ((c9))))), (ac, .inl (g.2.1 0, 192, .inl (one1 (one1 (one1 fc ((nr w) * 4 + 0)) ((nr w) * 4 + 1)) ((nr w) * 4 + 2)))), (au, .inl (g.2.1 0, 24, .inl (fs)))] H := xjoin hP hD hw_ hk_ [0, 1, 2, 3] [(true, 0), (true, 1), (true, 2), (true, 3)] rfl rfl rfl
  have hD : va_D (xin [ao, ae, ac, au]) [(ao, .inr (1, [.ref ae, .ref ac, .ref au, .int (nI (nr w + 1)), .int (nI (pgN w)), .int (nI (stN w)), .int (nI (wrN w))])), (ae, .inl (g.2.1 0, 768, .inl (upd (upd (upd fe (((nr w) * 4 + 0) * 4 + 0) ((a))) (((nr w) * 4 + 1) * 4 + 0) ((b))) (((nr w) * 4 + 2) * 4 + 0) ((c9))))), (ac, .inl (g.2.1 0, 192, .inl (one1 (one1 (one1 fc ((nr w) * 4 + 0)) ((nr w) * 4 + 1)) ((nr w) * 4 + 2)))), (au, .inl (g.2.1 0, 24, .inl (fs)))] := va_D_eq (by rfl) hD
  refine lv_aload_n hx hb dX1_appendRow_40 rfl (lv_at hl 1 rfl) ?_
  refine lv_iload hx hb dX1_appendRow_41 (lv_at hl 0 rfl) ?_
  refine xN_const hx hb 3 dX1_appendRow_43 (by decide) ?_
  refine lv_iload hx hb dX1_appendRow_44 (lv_at hl 5 rfl) ?_
  refine xcv (xrV hF (c_X1_startCell l g ao ae ac au (nr w + 1) (pgN w) (stN w) (wrN w) (upd (upd (upd fe (((nr w) * 4 + 0) * 4 + 0) ((a))) (((nr w) * 4 + 1) * 4 + 0) ((b))) (((nr w) * 4 + 2) * 4 + 0) ((c9))) (one1 (one1 (one1 fc ((nr w) * 4 + 0)) ((nr w) * 4 + 1)) ((nr w) * 4 + 2)) fs hD hAB (nr w) 3 ((d9)) (by omega) (by omega)) cal_X1_startCell q_101 ⟨by decide, by decide⟩ rfl rfl rfl (va_recv hF.2.1 hP (ci := 1) (q0 := 0) rfl rfl) (hZ.at hS hAB) (hP) hl.1 rfl (Nat.le_of_ble_eq_true rfl) dX1_appendRow_46 ⟨Nat.le_refl _, Nat.le_refl _⟩) hS (xin_sub [0, 1, 2, 3] rfl) (xin_sub [0, 1, 2, 3] rfl) (fun H locs hq_ hz_ hk_ hS => ?_)
  have hw_ := hq_
  have hP : va_P g.1 vwCl [(ao, .inr (1, [.ref ae, .ref ac, .ref au, .int (nI (nr w + 1)), .int (nI (pgN w)), .int (nI (stN w)), .int (nI (wrN w))])), (ae, .inl (g.2.1 0, 768, .inl (upd (upd (upd (upd fe (((nr w) * 4 + 0) * 4 + 0) ((a))) (((nr w) * 4 + 1) * 4 + 0) ((b))) (((nr w) * 4 + 2) * 4 + 0) ((c9))) (((nr w) * 4 + 3) * 4 + 0) ((d9))))), (ac, .inl (g.2.1 0, 192, .inl (one1 (one1 (one1 (one1 fc ((nr w) * 4 + 0)) ((nr w) * 4 + 1)) ((nr w) * 4 + 2)) ((nr w) * 4 + 3)))), (au, .inl (g.2.1 0, 24, .inl (fs)))] H := xjoin hP hD hw_ hk_ [0, 1, 2, 3] [(true, 0), (true, 1), (true, 2), (true, 3)] rfl rfl rfl
  have hD : va_D (xin [ao, ae, ac, au]) [(ao, .inr (1, [.ref ae, .ref ac, .ref au, .int (nI (nr w + 1)), .int (nI (pgN w)), .int (nI (stN w)), .int (nI (wrN w))])), (ae, .inl (g.2.1 0, 768, .inl (upd (upd (upd (upd fe (((nr w) * 4 + 0) * 4 + 0) ((a))) (((nr w) * 4 + 1) * 4 + 0) ((b))) (((nr w) * 4 + 2) * 4 + 0) ((c9))) (((nr w) * 4 + 3) * 4 + 0) ((d9))))), (ac, .inl (g.2.1 0, 192, .inl (one1 (one1 (one1 (one1 fc ((nr w) * 4 + 0)) ((nr w) * 4 + 1)) ((nr w) * 4 + 2)) ((nr w) * 4 + 3)))), (au, .inl (g.2.1 0, 24, .inl (fs)))] := va_D_eq (by rfl) hD
  exact xend_v hF hret hlocks hS (LogC_of (addW_nr w a b c9 d9 hn) (pgN_of (addW_lo (by decide) (by decide))) (stN_of (addW_lo (by decide) (by decide))) (wrN_of (addW_lo (by decide) (by decide))) hP) dX1_appendRow_49
set_option maxHeartbeats 4000000 in
set_option maxRecDepth 100000 in
theorem c_X1_dropRow (l : Launch) (g : XG) (ao ae ac au : Nat) (fe fc fs w : Nat → Int32) (hD : va_D (xin [ao, ae, ac, au]) (LogC g ao ae ac au fe fc fs w)) (hAB : ∀ q, xin [ao, ae, ac, au] q → xB g q) (hW : WF w) (hR : LR fe fc fs w)  (hn : 0 < nr w) : Met l yX1_dropRow (ww yX1_dropRow cX1_dropRow 1 none) (rmD 0) (xP g [.ref ao] (fun H => va_P g.1 vwCl (LogC g ao ae ac au fe fc fs w) H)) (xQv (fun H => va_P g.1 vwCl (LogC g ao ae ac au fe fc fs (remW w)) H) (xin [ao, ae, ac, au])) 0 0 (xin [ao, ae, ac, au]) := by
  refine xMetM (by decide) rfl (Nat.le_of_ble_eq_true rfl) ?_
  intro p e s m below meth c ls H locs hF hZ hh hS hret hlocks hin hl
  have hx := hF.1.1
  have hb := hF.1.2.1
  have hP := hh
  have hP : va_P g.1 vwCl (LogC g ao ae ac au fe fc fs w) H := hP
  have hl : lv_has ls 1 [(0, .ref ao)] := hl
  have h48 := hW.n48
  refine lv_aload_n hx hb dX1_dropRow_0 rfl (lv_at hl 0 rfl) ?_
  refine lv_dup hx hb dX1_dropRow_1 rfl ?_
  refine gf_X1_X1_rows hF hP 0 rfl rfl dX1_dropRow_2 ?_
  refine xN_const hx hb 1 dX1_dropRow_5 (by decide) ?_
  refine xN_sub hx hb (by omega) dX1_dropRow_6 ?_
  refine pf_X1_X1_rows hF hP hD hS 0 rfl (Nat.le_of_ble_eq_true rfl) dX1_dropRow_7 (fun H locs hP hS => ?_)
  have hP : va_P g.1 vwCl [(ao, .inr (1, [.ref ae, .ref ac, .ref au, .int (nI ((nr w) - 1)), .int (nI (pgN w)), .int (nI (stN w)), .int (nI (wrN w))])), (ae, .inl (g.2.1 0, 768, .inl (fe))), (ac, .inl (g.2.1 0, 192, .inl (fc))), (au, .inl (g.2.1 0, 24, .inl (fs)))] H := hP
  have hD : va_D (xin [ao, ae, ac, au]) [(ao, .inr (1, [.ref ae, .ref ac, .ref au, .int (nI ((nr w) - 1)), .int (nI (pgN w)), .int (nI (stN w)), .int (nI (wrN w))])), (ae, .inl (g.2.1 0, 768, .inl (fe))), (ac, .inl (g.2.1 0, 192, .inl (fc))), (au, .inl (g.2.1 0, 24, .inl (fs)))] := (va_D_eq (by rfl) hD)
  exact xend_v hF hret hlocks hS (LogC_of (remW_nr hW) (pgN_of (remW_lo (by decide) (by omega))) (stN_of (remW_lo (by decide) (by omega))) (wrN_of (remW_lo (by decide) (by omega))) hP) dX1_dropRow_10
set_option maxHeartbeats 4000000 in
set_option maxRecDepth 100000 in
theorem c_X1_writeSum (l : Launch) (g : XG) (ao ae ac au : Nat) (fe fc fs w : Nat → Int32) (hD : va_D (xin [ao, ae, ac, au]) (LogC g ao ae ac au fe fc fs w)) (hAB : ∀ q, xin [ao, ae, ac, au] q → xB g q) (hW : WF w) (hR : LR fe fc fs w)  (t : Nat) (ht : t < 24) (x : Int32) : Met l yX1_writeSum (ww yX1_writeSum cX1_writeSum 3 none) (rmD 0) (xP g [.ref ao, .int (nI t), .int (x)] (fun H => va_P g.1 vwCl (LogC g ao ae ac au fe fc fs w) H)) (xQv (fun H => va_P g.1 vwCl (LogC g ao ae ac au fe fc (upd fs t x) (clmW w t x)) H) (xin [ao, ae, ac, au])) 0 0 (xin [ao, ae, ac, au]) := by
  refine xMetM (by decide) rfl (Nat.le_of_ble_eq_true rfl) ?_
  intro p e s m below meth c ls H locs hF hZ hh hS hret hlocks hin hl
  have hx := hF.1.1
  have hb := hF.1.2.1
  have hP := hh
  have hP : va_P g.1 vwCl (LogC g ao ae ac au fe fc fs w) H := hP
  have hl : lv_has ls 3 [(0, .ref ao), (1, .int (nI t)), (2, .int (x))] := hl
  have h48 := hW.n48
  refine lv_iload_n hx hb dX1_writeSum_0 rfl (lv_at hl 1 rfl) ?_
  refine xI_lt (tgt := 20) hx hb (by omega) dX1_writeSum_1 (by decide) ?_
  refine lv_iload_n hx hb dX1_writeSum_4 rfl (lv_at hl 1 rfl) ?_
  refine lv_aload_n hx hb dX1_writeSum_5 rfl (lv_at hl 0 rfl) ?_
  refine gf_X1_X1_sums hF hP 0 rfl rfl dX1_writeSum_6 ?_
  refine xA_len hF hP 3 0 rfl rfl dX1_writeSum_9 ?_
  refine xC_ge (tgt := 20) hx hb (by omega) (by omega) dX1_writeSum_10 (by decide) (fun c_10 => absurd c_10 (by omega)) (fun c_10 => ?_)
  refine lv_aload_n hx hb dX1_writeSum_13 rfl (lv_at hl 0 rfl) ?_
  refine gf_X1_X1_sums hF hP 0 rfl rfl dX1_writeSum_14 ?_
  refine lv_iload_n hx hb dX1_writeSum_17 rfl (lv_at hl 1 rfl) ?_
  refine lv_iload_n hx hb dX1_writeSum_18 rfl (lv_at hl 2 rfl) ?_
  refine xA_ist hF hP hD hS 3 rfl (by omega) (by decide) dX1_writeSum_19 (fun H locs hP hS => ?_)
  have hP : va_P g.1 vwCl [(ao, .inr (1, [.ref ae, .ref ac, .ref au, .int (nI (nr w)), .int (nI (pgN w)), .int (nI (stN w)), .int (nI (wrN w))])), (ae, .inl (g.2.1 0, 768, .inl (fe))), (ac, .inl (g.2.1 0, 192, .inl (fc))), (au, .inl (g.2.1 0, 24, .inl (upd (fs) (t) ((x)))))] H := hP
  have hD : va_D (xin [ao, ae, ac, au]) [(ao, .inr (1, [.ref ae, .ref ac, .ref au, .int (nI (nr w)), .int (nI (pgN w)), .int (nI (stN w)), .int (nI (wrN w))])), (ae, .inl (g.2.1 0, 768, .inl (fe))), (ac, .inl (g.2.1 0, 192, .inl (fc))), (au, .inl (g.2.1 0, 24, .inl (upd (fs) (t) ((x)))))] := (va_D_eq (by rfl) hD)
  exact xend_v hF hret hlocks hS (LogC_of (nr_of (upd_off (by omega))) (pgN_of (upd_off (by omega))) (stN_of (upd_off (by omega))) (wrN_of (upd_off (by omega))) hP) dX1_writeSum_20
set_option maxHeartbeats 4000000 in
set_option maxRecDepth 100000 in
theorem c_X1_popEntry (l : Launch) (g : XG) (ao ae ac au : Nat) (fe fc fs w : Nat → Int32) (hD : va_D (xin [ao, ae, ac, au]) (LogC g ao ae ac au fe fc fs w)) (hAB : ∀ q, xin [ao, ae, ac, au] q → xB g q) (hW : WF w) (hR : LR fe fc fs w)  (r k : Nat) (hr : r < nr w) (hk : k < 4) : Met l yX1_popEntry (ww yX1_popEntry cX1_popEntry 4 none) (rmD 0) (xP g [.ref ao, .int (nI r), .int (nI k)] (fun H => va_P g.1 vwCl (LogC g ao ae ac au fe fc fs w) H)) (xQv (fun H => va_P g.1 vwCl (LogC g ao ae ac au fe (upd fc (r * 4 + k) (nI (cnt w (4 * r + k) - 1))) fs (tkbW w r k)) H) (xin [ao, ae, ac, au])) 0 0 (xin [ao, ae, ac, au]) := by
  refine xMetM (by decide) rfl (Nat.le_of_ble_eq_true rfl) ?_
  intro p e s m below meth c ls H locs hF hZ hh hS hret hlocks hin hl
  have hx := hF.1.1
  have hb := hF.1.2.1
  have hP := hh
  have hP : va_P g.1 vwCl (LogC g ao ae ac au fe fc fs w) H := hP
  have hl : lv_has ls 4 [(0, .ref ao), (1, .int (nI r)), (2, .int (nI k))] := hl
  have h48 := hW.n48
  have hc1 := hW.c1 (i := 4 * r + k) (by omega)
  have hc4 := hW.c4 (i := 4 * r + k) (by omega)
  refine lv_iload_n hx hb dX1_popEntry_0 rfl (lv_at hl 1 rfl) ?_
  refine xN_const hx hb 4 dX1_popEntry_1 (by decide) ?_
  refine xN_mul hx hb dX1_popEntry_2 ?_
  refine lv_iload_n hx hb dX1_popEntry_3 rfl (lv_at hl 2 rfl) ?_
  refine xN_add hx hb dX1_popEntry_4 ?_
  refine lv_istore_n (lv' := [(3, .int (nI (r * 4 + k))), (0, .ref ao), (1, .int (nI r)), (2, .int (nI k))]) hx hb dX1_popEntry_5 rfl hl (by decide) rfl (fun ls hl => ?_)
  refine lv_iload_n hx hb dX1_popEntry_6 rfl (lv_at hl 0 rfl) ?_
  refine xI_lt (tgt := 29) hx hb (by omega) dX1_popEntry_7 (by decide) ?_
  refine lv_iload_n hx hb dX1_popEntry_10 rfl (lv_at hl 0 rfl) ?_
  refine lv_aload_n hx hb dX1_popEntry_11 rfl (lv_at hl 1 rfl) ?_
  refine gf_X1_X1_entryCounts hF hP 0 rfl rfl dX1_popEntry_12 ?_
  refine xA_len hF hP 2 0 rfl rfl dX1_popEntry_15 ?_
  refine xC_ge (tgt := 29) hx hb (by omega) (by omega) dX1_popEntry_16 (by decide) (fun c_16 => absurd c_16 (by omega)) (fun c_16 => ?_)
  refine lv_aload_n hx hb dX1_popEntry_19 rfl (lv_at hl 1 rfl) ?_
  refine gf_X1_X1_entryCounts hF hP 0 rfl rfl dX1_popEntry_20 ?_
  refine lv_iload_n hx hb dX1_popEntry_23 rfl (lv_at hl 0 rfl) ?_
  refine lv_dup2_11 hx hb dX1_popEntry_24 rfl rfl ?_
  refine xA_ild hF hP 2 rfl (by omega) (by decide) (v := nI (cnt w (4 * r + k))) (by rw [show r * 4 + k = 4 * r + k by omega]; exact hR.c hW (by omega)) dX1_popEntry_25 ?_
  refine xN_const hx hb 1 dX1_popEntry_26 (by decide) ?_
  refine xN_sub hx hb (by omega) dX1_popEntry_27 ?_
  refine xA_ist hF hP hD hS 2 rfl (by omega) (by decide) dX1_popEntry_28 (fun H locs hP hS => ?_)
  have hP : va_P g.1 vwCl [(ao, .inr (1, [.ref ae, .ref ac, .ref au, .int (nI (nr w)), .int (nI (pgN w)), .int (nI (stN w)), .int (nI (wrN w))])), (ae, .inl (g.2.1 0, 768, .inl (fe))), (ac, .inl (g.2.1 0, 192, .inl (upd (fc) (r * 4 + k) (nI ((cnt w (4 * r + k)) - 1))))), (au, .inl (g.2.1 0, 24, .inl (fs)))] H := hP
  have hD : va_D (xin [ao, ae, ac, au]) [(ao, .inr (1, [.ref ae, .ref ac, .ref au, .int (nI (nr w)), .int (nI (pgN w)), .int (nI (stN w)), .int (nI (wrN w))])), (ae, .inl (g.2.1 0, 768, .inl (fe))), (ac, .inl (g.2.1 0, 192, .inl (upd (fc) (r * 4 + k) (nI ((cnt w (4 * r + k)) - 1))))), (au, .inl (g.2.1 0, 24, .inl (fs)))] := (va_D_eq (by rfl) hD)
  exact xend_v hF hret hlocks hS (LogC_of (nr_of (by unfold tkbW; rw [upd_off (by omega), upd_off (by omega)])) (pgN_of (by unfold tkbW; rw [upd_off (by omega), upd_off (by omega)])) (stN_of (by unfold tkbW; rw [upd_off (by omega), upd_off (by omega)])) (wrN_of (by unfold tkbW; rw [upd_off (by omega), upd_off (by omega)])) hP) dX1_popEntry_29
set_option maxHeartbeats 4000000 in
set_option maxRecDepth 100000 in
theorem c_X1_changeSetting (l : Launch) (g : XG) (ao ae ac au : Nat) (fe fc fs w : Nat → Int32) (hD : va_D (xin [ao, ae, ac, au]) (LogC g ao ae ac au fe fc fs w)) (hAB : ∀ q, xin [ao, ae, ac, au] q → xB g q) (hW : WF w) (hR : LR fe fc fs w)  (t v : Nat) (ht : t < 3) (hv : v ≤ 12) : Met l yX1_changeSetting (ww yX1_changeSetting cX1_changeSetting 3 none) (rmD 0) (xP g [.ref ao, .int (nI t), .int (nI v)] (fun H => va_P g.1 vwCl (LogC g ao ae ac au fe fc fs w) H)) (xQv (fun H => va_P g.1 vwCl (LogC g ao ae ac au fe fc fs (setW w t (nI v))) H) (xin [ao, ae, ac, au])) 0 0 (xin [ao, ae, ac, au]) := by
  refine xMetM (by decide) rfl (Nat.le_of_ble_eq_true rfl) ?_
  intro p e s m below meth c ls H locs hF hZ hh hS hret hlocks hin hl
  have hx := hF.1.1
  have hb := hF.1.2.1
  have hP := hh
  have hP : va_P g.1 vwCl (LogC g ao ae ac au fe fc fs w) H := hP
  have hl : lv_has ls 3 [(0, .ref ao), (1, .int (nI t)), (2, .int (nI v))] := hl
  have h48 := hW.n48
  refine lv_iload_n hx hb dX1_changeSetting_0 rfl (lv_at hl 1 rfl) ?_
  rcases (show t = 0 ∨ t = 1 ∨ t = 2 by omega) with rfl | rfl | rfl
  · refine lv_lookup (off := 27) (tgt := 28) hx hb dX1_changeSetting_1 (by decide) (by decide) (by decide) ?_
    refine lv_aload_n hx hb dX1_changeSetting_28 rfl (lv_at hl 0 rfl) ?_
    refine lv_iload_n hx hb dX1_changeSetting_29 rfl (lv_at hl 2 rfl) ?_
    refine pf_X1_X1_pageRows hF hP hD hS 0 rfl (Nat.le_of_ble_eq_true rfl) dX1_changeSetting_30 (fun H locs hP hS => ?_)
    have hP : va_P g.1 vwCl [(ao, .inr (1, [.ref ae, .ref ac, .ref au, .int (nI (nr w)), .int (nI v), .int (nI (stN w)), .int (nI (wrN w))])), (ae, .inl (g.2.1 0, 768, .inl (fe))), (ac, .inl (g.2.1 0, 192, .inl (fc))), (au, .inl (g.2.1 0, 24, .inl (fs)))] H := hP
    have hD : va_D (xin [ao, ae, ac, au]) [(ao, .inr (1, [.ref ae, .ref ac, .ref au, .int (nI (nr w)), .int (nI v), .int (nI (stN w)), .int (nI (wrN w))])), (ae, .inl (g.2.1 0, 768, .inl (fe))), (ac, .inl (g.2.1 0, 192, .inl (fc))), (au, .inl (g.2.1 0, 24, .inl (fs)))] := (va_D_eq (by rfl) hD)
    refine lv_goto (tgt := 49) hx hb dX1_changeSetting_33 (by decide) ?_
    exact xend_v hF hret hlocks hS (LogC_of (nr_of (upd_off (by decide))) (show (setW w 0 (nI v) 1).toNatClampNeg = v by unfold setW; rw [upd_at]; exact nI_clamp (by omega)) (stN_of (upd_off (by decide))) (wrN_of (upd_off (by decide))) hP) dX1_changeSetting_49
  · refine lv_lookup (off := 35) (tgt := 36) hx hb dX1_changeSetting_1 (by decide) (by decide) (by decide) ?_
    refine lv_aload_n hx hb dX1_changeSetting_36 rfl (lv_at hl 0 rfl) ?_
    refine lv_iload_n hx hb dX1_changeSetting_37 rfl (lv_at hl 2 rfl) ?_
    refine pf_X1_X1_stopsAtPages hF hP hD hS 0 rfl (Nat.le_of_ble_eq_true rfl) dX1_changeSetting_38 (fun H locs hP hS => ?_)
    have hP : va_P g.1 vwCl [(ao, .inr (1, [.ref ae, .ref ac, .ref au, .int (nI (nr w)), .int (nI (pgN w)), .int (nI v), .int (nI (wrN w))])), (ae, .inl (g.2.1 0, 768, .inl (fe))), (ac, .inl (g.2.1 0, 192, .inl (fc))), (au, .inl (g.2.1 0, 24, .inl (fs)))] H := hP
    have hD : va_D (xin [ao, ae, ac, au]) [(ao, .inr (1, [.ref ae, .ref ac, .ref au, .int (nI (nr w)), .int (nI (pgN w)), .int (nI v), .int (nI (wrN w))])), (ae, .inl (g.2.1 0, 768, .inl (fe))), (ac, .inl (g.2.1 0, 192, .inl (fc))), (au, .inl (g.2.1 0, 24, .inl (fs)))] := (va_D_eq (by rfl) hD)
    refine lv_goto (tgt := 49) hx hb dX1_changeSetting_41 (by decide) ?_
    exact xend_v hF hret hlocks hS (LogC_of (nr_of (upd_off (by decide))) (pgN_of (upd_off (by decide))) (show (setW w 1 (nI v) 2).toNatClampNeg = v by unfold setW; rw [upd_at]; exact nI_clamp (by omega)) (wrN_of (upd_off (by decide))) hP) dX1_changeSetting_49
  · refine lv_lookup (off := 43) (tgt := 44) hx hb dX1_changeSetting_1 (by decide) (by decide) (by decide) ?_
    refine lv_aload_n hx hb dX1_changeSetting_44 rfl (lv_at hl 0 rfl) ?_
    refine lv_iload_n hx hb dX1_changeSetting_45 rfl (lv_at hl 2 rfl) ?_
    refine pf_X1_X1_watchRows hF hP hD hS 0 rfl (Nat.le_of_ble_eq_true rfl) dX1_changeSetting_46 (fun H locs hP hS => ?_)
    have hP : va_P g.1 vwCl [(ao, .inr (1, [.ref ae, .ref ac, .ref au, .int (nI (nr w)), .int (nI (pgN w)), .int (nI (stN w)), .int (nI v)])), (ae, .inl (g.2.1 0, 768, .inl (fe))), (ac, .inl (g.2.1 0, 192, .inl (fc))), (au, .inl (g.2.1 0, 24, .inl (fs)))] H := hP
    have hD : va_D (xin [ao, ae, ac, au]) [(ao, .inr (1, [.ref ae, .ref ac, .ref au, .int (nI (nr w)), .int (nI (pgN w)), .int (nI (stN w)), .int (nI v)])), (ae, .inl (g.2.1 0, 768, .inl (fe))), (ac, .inl (g.2.1 0, 192, .inl (fc))), (au, .inl (g.2.1 0, 24, .inl (fs)))] := (va_D_eq (by rfl) hD)
    exact xend_v hF hret hlocks hS (LogC_of (nr_of (upd_off (by decide))) (pgN_of (upd_off (by decide))) (stN_of (upd_off (by decide))) (show (setW w 2 (nI v) 3).toNatClampNeg = v by unfold setW; rw [upd_at]; exact nI_clamp (by omega)) hP) dX1_changeSetting_49
set_option maxHeartbeats 4000000 in
set_option maxRecDepth 100000 in
theorem c_X3_copyInto (l : Launch) (g : XG) (a b n : Nat) (f h : Nat → Int32) {A : Nat → Prop} (hD0 : va_D A [(a, .inl (g.2.1 0, n, .inl (f))), (b, .inl (g.2.1 0, n, .inl (h)))]) (hn : n < 2147483648) : Met l yX3_copyInto (ww yX3_copyInto cX3_copyInto 2 none) (rmD 1) (xP g [.ref a, .ref b] (fun H => va_P g.1 vwCl [(a, .inl (g.2.1 0, n, .inl (f))), (b, .inl (g.2.1 0, n, .inl (h)))] H)) (xQv (fun H => va_P g.1 vwCl [(a, .inl (g.2.1 0, n, .inl (f))), (b, .inl (g.2.1 0, n, .inl (va_cpy f h 0 0 n)))] H) (xin [a, b])) 0 0 (xin [a, b]) := by
  refine xMetM (by decide) rfl (Nat.le_of_ble_eq_true rfl) ?_
  intro p e s m below meth c ls H locs hF hZ hh hS hret hlocks hin hl
  have hx := hF.1.1
  have hb := hF.1.2.1
  have hP := hh
  have hP : va_P g.1 vwCl [(a, .inl (g.2.1 0, n, .inl (f))), (b, .inl (g.2.1 0, n, .inl (h)))] H := hP
  have hl : lv_has ls 2 [(0, .ref a), (1, .ref b)] := hl
  have hD : va_D (xin [a, b]) [(a, .inl (g.2.1 0, n, .inl (f))), (b, .inl (g.2.1 0, n, .inl (h)))] := hD0.weaken (fun k q hk _ => by match k, hk with | 0, hk => cases hk; exact List.mem_cons_self | 1, hk => cases hk; exact List.mem_cons_of_mem _ List.mem_cons_self | k + 2, hk => simp at hk)
  refine lv_aload_n hx hb dX3_copyInto_0 rfl (lv_at hl 0 rfl) ?_
  refine xN_const hx hb 0 dX3_copyInto_1 (by decide) ?_
  refine lv_aload_n hx hb dX3_copyInto_2 rfl (lv_at hl 1 rfl) ?_
  refine xN_const hx hb 0 dX3_copyInto_3 (by decide) ?_
  refine lv_aload_n hx hb dX3_copyInto_4 rfl (lv_at hl 0 rfl) ?_
  refine xA_len hF hP 0 0 rfl rfl dX3_copyInto_5 ?_
  refine lv_aload_n hx hb dX3_copyInto_6 rfl (lv_at hl 1 rfl) ?_
  refine xA_len hF hP 1 0 rfl rfl dX3_copyInto_7 ?_
  refine va_mmin hx hb (hF.1.2.2.1.trans hl.1.symm) hF.1.2.2.2.1 (hF.1.2.2.2.2 _ q_90) (hF.1.2.2.2.2 _ q_91) (hF.1.2.2.2.2 _ q_92) (hF.1.2.2.2.2 _ q_93) (Nat.le_of_ble_eq_true rfl) (Nat.le_of_ble_eq_true rfl) (Nat.le_refl _) (Nat.le_refl _) dX3_copyInto_8 ?_
  rw [show ((if nI (n) < nI (n) then nI (n) else nI (n)) : Int32) = nI (n) from ite_self _]
  refine xcopy hF hl.1 hP hD hS 0 1 rfl rfl hn ⟨Nat.le_of_ble_eq_true rfl, Nat.le_of_ble_eq_true rfl⟩ dX3_copyInto_11 (fun H locs hP hS => ?_)
  have hP : va_P g.1 vwCl [(a, .inl (g.2.1 0, n, .inl (f))), (b, .inl (g.2.1 0, n, .inl (va_cpy f h 0 0 n)))] H := hP
  have hD : va_D (xin [a, b]) [(a, .inl (g.2.1 0, n, .inl (f))), (b, .inl (g.2.1 0, n, .inl (va_cpy f h 0 0 n)))] := (va_D_eq (by rfl) hD)
  exact xend_v hF hret hlocks hS (hP) dX3_copyInto_14
set_option maxHeartbeats 4000000 in
set_option maxRecDepth 100000 in
theorem c_X1_copyFrom (l : Launch) (g : XG) (ao ae ac au bo be bc bu zn zg zt zw : Nat) (fe fc fs ge gc gs w2 : Nat → Int32) (hD : va_D (xin [ao, ae, ac, au, bo, be, bc, bu]) (LogX g ao ae ac au fe fc fs zn zg zt zw ++ LogC g bo be bc bu ge gc gs w2)) (hAB : ∀ q, xin [ao, ae, ac, au, bo, be, bc, bu] q → xB g q) (hW : WF w2) (hR : LR ge gc gs w2) : Met l yX1_copyFrom (ww yX1_copyFrom cX1_copyFrom 2 none) (rmD 2) (xP g [.ref ao, .ref bo] (fun H => va_P g.1 vwCl (LogX g ao ae ac au fe fc fs zn zg zt zw ++ LogC g bo be bc bu ge gc gs w2) H)) (xQv (fun H => ∃ fe2 fc2 fs2 : Nat → Int32, LR fe2 fc2 fs2 w2 ∧ va_P g.1 vwCl (LogC g ao ae ac au fe2 fc2 fs2 w2 ++ LogC g bo be bc bu ge gc gs w2) H) (xin [ao, ae, ac, au, bo, be, bc, bu])) 0 0 (xin [ao, ae, ac, au, bo, be, bc, bu]) := by
  refine xMetM (by decide) rfl (Nat.le_of_ble_eq_true rfl) ?_
  intro p e s m below meth c ls H locs hF hZ hh hS hret hlocks hin hl
  have hx := hF.1.1
  have hb := hF.1.2.1
  have hP := hh
  have hP : va_P g.1 vwCl (LogX g ao ae ac au fe fc fs zn zg zt zw ++ LogC g bo be bc bu ge gc gs w2) H := hP
  have hl : lv_has ls 2 [(0, .ref ao), (1, .ref bo)] := hl
  refine lv_aload_n hx hb dX1_copyFrom_0 rfl (lv_at hl 1 rfl) ?_
  refine gf_X1_X1_entries hF hP 4 rfl rfl dX1_copyFrom_1 ?_
  refine lv_aload_n hx hb dX1_copyFrom_4 rfl (lv_at hl 0 rfl) ?_
  refine gf_X1_X1_entries hF hP 0 rfl rfl dX1_copyFrom_5 ?_
  refine xcv (xrSN hF (c_X3_copyInto l g be ae 768 ge fe (hD.sub [5, 1] (by decide) rfl) (by decide)) cal_X3_copyInto n_9 ⟨by decide, by decide⟩ rfl rfl rfl (hZ.at hS hAB) (hP.sub [5, 1] rfl) hl.1 rfl (Nat.le_of_ble_eq_true rfl) dX1_copyFrom_8 ⟨Nat.le_refl _, Nat.le_refl _⟩) hS (xin_sub [5, 1] rfl) (xin_sub [5, 1] rfl) (fun H locs hq_ hz_ hk_ hS => ?_)
  have hw_ := hq_
  have hP : va_P g.1 vwCl [(ao, .inr (1, [.ref ae, .ref ac, .ref au, .int (nI zn), .int (nI zg), .int (nI zt), .int (nI zw)])), (ae, .inl (g.2.1 0, 768, .inl (va_cpy ge fe 0 0 768))), (ac, .inl (g.2.1 0, 192, .inl (fc))), (au, .inl (g.2.1 0, 24, .inl (fs))), (bo, .inr (1, [.ref be, .ref bc, .ref bu, .int (nI (nr w2)), .int (nI (pgN w2)), .int (nI (stN w2)), .int (nI (wrN w2))])), (be, .inl (g.2.1 0, 768, .inl (ge))), (bc, .inl (g.2.1 0, 192, .inl (gc))), (bu, .inl (g.2.1 0, 24, .inl (gs)))] H := xjoin hP hD hw_ hk_ [5, 1] [(false, 0), (true, 1), (false, 2), (false, 3), (false, 4), (true, 0), (false, 6), (false, 7)] rfl rfl rfl
  have hD : va_D (xin [ao, ae, ac, au, bo, be, bc, bu]) [(ao, .inr (1, [.ref ae, .ref ac, .ref au, .int (nI zn), .int (nI zg), .int (nI zt), .int (nI zw)])), (ae, .inl (g.2.1 0, 768, .inl (va_cpy ge fe 0 0 768))), (ac, .inl (g.2.1 0, 192, .inl (fc))), (au, .inl (g.2.1 0, 24, .inl (fs))), (bo, .inr (1, [.ref be, .ref bc, .ref bu, .int (nI (nr w2)), .int (nI (pgN w2)), .int (nI (stN w2)), .int (nI (wrN w2))])), (be, .inl (g.2.1 0, 768, .inl (ge))), (bc, .inl (g.2.1 0, 192, .inl (gc))), (bu, .inl (g.2.1 0, 24, .inl (gs)))] := va_D_eq (by rfl) hD
  refine lv_aload_n hx hb dX1_copyFrom_11 rfl (lv_at hl 1 rfl) ?_
  refine gf_X1_X1_entryCounts hF hP 4 rfl rfl dX1_copyFrom_12 ?_
  refine lv_aload_n hx hb dX1_copyFrom_15 rfl (lv_at hl 0 rfl) ?_
  refine gf_X1_X1_entryCounts hF hP 0 rfl rfl dX1_copyFrom_16 ?_
  refine xcv (xrSN hF (c_X3_copyInto l g bc ac 192 gc fc (hD.sub [6, 2] (by decide) rfl) (by decide)) cal_X3_copyInto n_9 ⟨by decide, by decide⟩ rfl rfl rfl (hZ.at hS hAB) (hP.sub [6, 2] rfl) hl.1 rfl (Nat.le_of_ble_eq_true rfl) dX1_copyFrom_19 ⟨Nat.le_refl _, Nat.le_refl _⟩) hS (xin_sub [6, 2] rfl) (xin_sub [6, 2] rfl) (fun H locs hq_ hz_ hk_ hS => ?_)
  have hw_ := hq_
  have hP : va_P g.1 vwCl [(ao, .inr (1, [.ref ae, .ref ac, .ref au, .int (nI zn), .int (nI zg), .int (nI zt), .int (nI zw)])), (ae, .inl (g.2.1 0, 768, .inl (va_cpy ge fe 0 0 768))), (ac, .inl (g.2.1 0, 192, .inl (va_cpy gc fc 0 0 192))), (au, .inl (g.2.1 0, 24, .inl (fs))), (bo, .inr (1, [.ref be, .ref bc, .ref bu, .int (nI (nr w2)), .int (nI (pgN w2)), .int (nI (stN w2)), .int (nI (wrN w2))])), (be, .inl (g.2.1 0, 768, .inl (ge))), (bc, .inl (g.2.1 0, 192, .inl (gc))), (bu, .inl (g.2.1 0, 24, .inl (gs)))] H := xjoin hP hD hw_ hk_ [6, 2] [(false, 0), (false, 1), (true, 1), (false, 3), (false, 4), (false, 5), (true, 0), (false, 7)] rfl rfl rfl
  have hD : va_D (xin [ao, ae, ac, au, bo, be, bc, bu]) [(ao, .inr (1, [.ref ae, .ref ac, .ref au, .int (nI zn), .int (nI zg), .int (nI zt), .int (nI zw)])), (ae, .inl (g.2.1 0, 768, .inl (va_cpy ge fe 0 0 768))), (ac, .inl (g.2.1 0, 192, .inl (va_cpy gc fc 0 0 192))), (au, .inl (g.2.1 0, 24, .inl (fs))), (bo, .inr (1, [.ref be, .ref bc, .ref bu, .int (nI (nr w2)), .int (nI (pgN w2)), .int (nI (stN w2)), .int (nI (wrN w2))])), (be, .inl (g.2.1 0, 768, .inl (ge))), (bc, .inl (g.2.1 0, 192, .inl (gc))), (bu, .inl (g.2.1 0, 24, .inl (gs)))] := va_D_eq (by rfl) hD
  refine lv_aload_n hx hb dX1_copyFrom_22 rfl (lv_at hl 1 rfl) ?_
  refine gf_X1_X1_sums hF hP 4 rfl rfl dX1_copyFrom_23 ?_
  refine lv_aload_n hx hb dX1_copyFrom_26 rfl (lv_at hl 0 rfl) ?_
  refine gf_X1_X1_sums hF hP 0 rfl rfl dX1_copyFrom_27 ?_
  refine xcv (xrSN hF (c_X3_copyInto l g bu au 24 gs fs (hD.sub [7, 3] (by decide) rfl) (by decide)) cal_X3_copyInto n_9 ⟨by decide, by decide⟩ rfl rfl rfl (hZ.at hS hAB) (hP.sub [7, 3] rfl) hl.1 rfl (Nat.le_of_ble_eq_true rfl) dX1_copyFrom_30 ⟨Nat.le_refl _, Nat.le_refl _⟩) hS (xin_sub [7, 3] rfl) (xin_sub [7, 3] rfl) (fun H locs hq_ hz_ hk_ hS => ?_)
  have hw_ := hq_
  have hP : va_P g.1 vwCl [(ao, .inr (1, [.ref ae, .ref ac, .ref au, .int (nI zn), .int (nI zg), .int (nI zt), .int (nI zw)])), (ae, .inl (g.2.1 0, 768, .inl (va_cpy ge fe 0 0 768))), (ac, .inl (g.2.1 0, 192, .inl (va_cpy gc fc 0 0 192))), (au, .inl (g.2.1 0, 24, .inl (va_cpy gs fs 0 0 24))), (bo, .inr (1, [.ref be, .ref bc, .ref bu, .int (nI (nr w2)), .int (nI (pgN w2)), .int (nI (stN w2)), .int (nI (wrN w2))])), (be, .inl (g.2.1 0, 768, .inl (ge))), (bc, .inl (g.2.1 0, 192, .inl (gc))), (bu, .inl (g.2.1 0, 24, .inl (gs)))] H := xjoin hP hD hw_ hk_ [7, 3] [(false, 0), (false, 1), (false, 2), (true, 1), (false, 4), (false, 5), (false, 6), (true, 0)] rfl rfl rfl
  have hD : va_D (xin [ao, ae, ac, au, bo, be, bc, bu]) [(ao, .inr (1, [.ref ae, .ref ac, .ref au, .int (nI zn), .int (nI zg), .int (nI zt), .int (nI zw)])), (ae, .inl (g.2.1 0, 768, .inl (va_cpy ge fe 0 0 768))), (ac, .inl (g.2.1 0, 192, .inl (va_cpy gc fc 0 0 192))), (au, .inl (g.2.1 0, 24, .inl (va_cpy gs fs 0 0 24))), (bo, .inr (1, [.ref be, .ref bc, .ref bu, .int (nI (nr w2)), .int (nI (pgN w2)), .int (nI (stN w2)), .int (nI (wrN w2))])), (be, .inl (g.2.1 0, 768, .inl (ge))), (bc, .inl (g.2.1 0, 192, .inl (gc))), (bu, .inl (g.2.1 0, 24, .inl (gs)))] := va_D_eq (by rfl) hD
  refine lv_aload_n hx hb dX1_copyFrom_33 rfl (lv_at hl 0 rfl) ?_
  refine lv_aload_n hx hb dX1_copyFrom_34 rfl (lv_at hl 1 rfl) ?_
  refine gf_X1_X1_rows hF hP 4 rfl rfl dX1_copyFrom_35 ?_
  refine pf_X1_X1_rows hF hP hD hS 0 rfl (Nat.le_of_ble_eq_true rfl) dX1_copyFrom_38 (fun H locs hP hS => ?_)
  have hP : va_P g.1 vwCl [(ao, .inr (1, [.ref ae, .ref ac, .ref au, .int (nI (nr w2)), .int (nI zg), .int (nI zt), .int (nI zw)])), (ae, .inl (g.2.1 0, 768, .inl (va_cpy ge fe 0 0 768))), (ac, .inl (g.2.1 0, 192, .inl (va_cpy gc fc 0 0 192))), (au, .inl (g.2.1 0, 24, .inl (va_cpy gs fs 0 0 24))), (bo, .inr (1, [.ref be, .ref bc, .ref bu, .int (nI (nr w2)), .int (nI (pgN w2)), .int (nI (stN w2)), .int (nI (wrN w2))])), (be, .inl (g.2.1 0, 768, .inl (ge))), (bc, .inl (g.2.1 0, 192, .inl (gc))), (bu, .inl (g.2.1 0, 24, .inl (gs)))] H := hP
  have hD : va_D (xin [ao, ae, ac, au, bo, be, bc, bu]) [(ao, .inr (1, [.ref ae, .ref ac, .ref au, .int (nI (nr w2)), .int (nI zg), .int (nI zt), .int (nI zw)])), (ae, .inl (g.2.1 0, 768, .inl (va_cpy ge fe 0 0 768))), (ac, .inl (g.2.1 0, 192, .inl (va_cpy gc fc 0 0 192))), (au, .inl (g.2.1 0, 24, .inl (va_cpy gs fs 0 0 24))), (bo, .inr (1, [.ref be, .ref bc, .ref bu, .int (nI (nr w2)), .int (nI (pgN w2)), .int (nI (stN w2)), .int (nI (wrN w2))])), (be, .inl (g.2.1 0, 768, .inl (ge))), (bc, .inl (g.2.1 0, 192, .inl (gc))), (bu, .inl (g.2.1 0, 24, .inl (gs)))] := (va_D_eq (by rfl) hD)
  refine lv_aload_n hx hb dX1_copyFrom_41 rfl (lv_at hl 0 rfl) ?_
  refine lv_aload_n hx hb dX1_copyFrom_42 rfl (lv_at hl 1 rfl) ?_
  refine gf_X1_X1_pageRows hF hP 4 rfl rfl dX1_copyFrom_43 ?_
  refine pf_X1_X1_pageRows hF hP hD hS 0 rfl (Nat.le_of_ble_eq_true rfl) dX1_copyFrom_46 (fun H locs hP hS => ?_)
  have hP : va_P g.1 vwCl [(ao, .inr (1, [.ref ae, .ref ac, .ref au, .int (nI (nr w2)), .int (nI (pgN w2)), .int (nI zt), .int (nI zw)])), (ae, .inl (g.2.1 0, 768, .inl (va_cpy ge fe 0 0 768))), (ac, .inl (g.2.1 0, 192, .inl (va_cpy gc fc 0 0 192))), (au, .inl (g.2.1 0, 24, .inl (va_cpy gs fs 0 0 24))), (bo, .inr (1, [.ref be, .ref bc, .ref bu, .int (nI (nr w2)), .int (nI (pgN w2)), .int (nI (stN w2)), .int (nI (wrN w2))])), (be, .inl (g.2.1 0, 768, .inl (ge))), (bc, .inl (g.2.1 0, 192, .inl (gc))), (bu, .inl (g.2.1 0, 24, .inl (gs)))] H := hP
  have hD : va_D (xin [ao, ae, ac, au, bo, be, bc, bu]) [(ao, .inr (1, [.ref ae, .ref ac, .ref au, .int (nI (nr w2)), .int (nI (pgN w2)), .int (nI zt), .int (nI zw)])), (ae, .inl (g.2.1 0, 768, .inl (va_cpy ge fe 0 0 768))), (ac, .inl (g.2.1 0, 192, .inl (va_cpy gc fc 0 0 192))), (au, .inl (g.2.1 0, 24, .inl (va_cpy gs fs 0 0 24))), (bo, .inr (1, [.ref be, .ref bc, .ref bu, .int (nI (nr w2)), .int (nI (pgN w2)), .int (nI (stN w2)), .int (nI (wrN w2))])), (be, .inl (g.2.1 0, 768, .inl (ge))), (bc, .inl (g.2.1 0, 192, .inl (gc))), (bu, .inl (g.2.1 0, 24, .inl (gs)))] := (va_D_eq (by rfl) hD)
  refine lv_aload_n hx hb dX1_copyFrom_49 rfl (lv_at hl 0 rfl) ?_
  refine lv_aload_n hx hb dX1_copyFrom_50 rfl (lv_at hl 1 rfl) ?_
  refine gf_X1_X1_stopsAtPages hF hP 4 rfl rfl dX1_copyFrom_51 ?_
  refine pf_X1_X1_stopsAtPages hF hP hD hS 0 rfl (Nat.le_of_ble_eq_true rfl) dX1_copyFrom_54 (fun H locs hP hS => ?_)
  have hP : va_P g.1 vwCl [(ao, .inr (1, [.ref ae, .ref ac, .ref au, .int (nI (nr w2)), .int (nI (pgN w2)), .int (nI (stN w2)), .int (nI zw)])), (ae, .inl (g.2.1 0, 768, .inl (va_cpy ge fe 0 0 768))), (ac, .inl (g.2.1 0, 192, .inl (va_cpy gc fc 0 0 192))), (au, .inl (g.2.1 0, 24, .inl (va_cpy gs fs 0 0 24))), (bo, .inr (1, [.ref be, .ref bc, .ref bu, .int (nI (nr w2)), .int (nI (pgN w2)), .int (nI (stN w2)), .int (nI (wrN w2))])), (be, .inl (g.2.1 0, 768, .inl (ge))), (bc, .inl (g.2.1 0, 192, .inl (gc))), (bu, .inl (g.2.1 0, 24, .inl (gs)))] H := hP
  have hD : va_D (xin [ao, ae, ac, au, bo, be, bc, bu]) [(ao, .inr (1, [.ref ae, .ref ac, .ref au, .int (nI (nr w2)), .int (nI (pgN w2)), .int (nI (stN w2)), .int (nI zw)])), (ae, .inl (g.2.1 0, 768, .inl (va_cpy ge fe 0 0 768))), (ac, .inl (g.2.1 0, 192, .inl (va_cpy gc fc 0 0 192))), (au, .inl (g.2.1 0, 24, .inl (va_cpy gs fs 0 0 24))), (bo, .inr (1, [.ref be, .ref bc, .ref bu, .int (nI (nr w2)), .int (nI (pgN w2)), .int (nI (stN w2)), .int (nI (wrN w2))])), (be, .inl (g.2.1 0, 768, .inl (ge))), (bc, .inl (g.2.1 0, 192, .inl (gc))), (bu, .inl (g.2.1 0, 24, .inl (gs)))] := (va_D_eq (by rfl) hD)
  refine lv_aload_n hx hb dX1_copyFrom_57 rfl (lv_at hl 0 rfl) ?_
  refine lv_aload_n hx hb dX1_copyFrom_58 rfl (lv_at hl 1 rfl) ?_
  refine gf_X1_X1_watchRows hF hP 4 rfl rfl dX1_copyFrom_59 ?_
  refine pf_X1_X1_watchRows hF hP hD hS 0 rfl (Nat.le_of_ble_eq_true rfl) dX1_copyFrom_62 (fun H locs hP hS => ?_)
  have hP : va_P g.1 vwCl [(ao, .inr (1, [.ref ae, .ref ac, .ref au, .int (nI (nr w2)), .int (nI (pgN w2)), .int (nI (stN w2)), .int (nI (wrN w2))])), (ae, .inl (g.2.1 0, 768, .inl (va_cpy ge fe 0 0 768))), (ac, .inl (g.2.1 0, 192, .inl (va_cpy gc fc 0 0 192))), (au, .inl (g.2.1 0, 24, .inl (va_cpy gs fs 0 0 24))), (bo, .inr (1, [.ref be, .ref bc, .ref bu, .int (nI (nr w2)), .int (nI (pgN w2)), .int (nI (stN w2)), .int (nI (wrN w2))])), (be, .inl (g.2.1 0, 768, .inl (ge))), (bc, .inl (g.2.1 0, 192, .inl (gc))), (bu, .inl (g.2.1 0, 24, .inl (gs)))] H := hP
  have hD : va_D (xin [ao, ae, ac, au, bo, be, bc, bu]) [(ao, .inr (1, [.ref ae, .ref ac, .ref au, .int (nI (nr w2)), .int (nI (pgN w2)), .int (nI (stN w2)), .int (nI (wrN w2))])), (ae, .inl (g.2.1 0, 768, .inl (va_cpy ge fe 0 0 768))), (ac, .inl (g.2.1 0, 192, .inl (va_cpy gc fc 0 0 192))), (au, .inl (g.2.1 0, 24, .inl (va_cpy gs fs 0 0 24))), (bo, .inr (1, [.ref be, .ref bc, .ref bu, .int (nI (nr w2)), .int (nI (pgN w2)), .int (nI (stN w2)), .int (nI (wrN w2))])), (be, .inl (g.2.1 0, 768, .inl (ge))), (bc, .inl (g.2.1 0, 192, .inl (gc))), (bu, .inl (g.2.1 0, 24, .inl (gs)))] := (va_D_eq (by rfl) hD)
  exact xend_v hF hret hlocks hS (⟨_, _, _, hR.copy hW, hP⟩) dX1_copyFrom_65
