/-! the acts of the class -/
theorem va_D_eqL {A : Nat → Prop} {ws ws' : va_W} (L : List Nat) (h : ws.map Prod.fst = L) (h' : ws'.map Prod.fst = L) (hD : va_D A ws) : va_D A ws' := va_D_eq (h.trans h'.symm) hD
set_option maxHeartbeats 4000000 in
set_option maxRecDepth 100000 in
theorem c_X3_addRow (l : Launch) (g : XG) (dd bo xo ta : Nat) (zk : Bool) (ho ha zo zh so se sc su yn yg yt yw ao ae ac au : Nat) (sl : Nat → Option Nat) (he hc hs fe fc fs w : Nat → Int32) (hW : WF w) (hR : LR fe fc fs w) (hzo : zo < 4) (hz4 : zh ≤ 4) (hD : va_D (xin [dd, ho, ha, so, se, sc, su, ao, ae, ac, au]) ((dd, .inr (3, [.ref ao, .ref bo, .int (xz zk), .ref ho, .ref xo, .ref ta])) :: ((ho, .inr (0, [.ref ha, .int (nI zo), .int (nI zh)])) :: (ha, .inl (g.2.1 2, 4, .inr (.inr (.inr (.inr sl))))) :: (LogX g so se sc su he hc hs yn yg yt yw ++ LogC g ao ae ac au fe fc fs w)))) (hAB : ∀ q, xin [dd, ho, ha, so, se, sc, su, ao, ae, ac, au] q → xB g q) (hsl : sl ((zo + zh) % 4) = some so) (a b c9 d9 : Int32) : Met l yX3_addRow (ww yX3_addRow cX3_addRow 5 (some .int)) (rmD 4) (xP g [.ref dd, .int (a), .int (b), .int (c9), .int (d9)] (fun H => va_P g.1 vwCl ((dd, .inr (3, [.ref ao, .ref bo, .int (xz zk), .ref ho, .ref xo, .ref ta])) :: ((ho, .inr (0, [.ref ha, .int (nI zo), .int (nI zh)])) :: (ha, .inl (g.2.1 2, 4, .inr (.inr (.inr (.inr sl))))) :: (LogX g so se sc su he hc hs yn yg yt yw ++ LogC g ao ae ac au fe fc fs w))) H)) (xQi (fun r9 H => r9 = addA w a b c9 d9 ∧ (addB w a b c9 d9 = false → va_P g.1 vwCl ((dd, .inr (3, [.ref ao, .ref bo, .int (xz zk), .ref ho, .ref xo, .ref ta])) :: ((ho, .inr (0, [.ref ha, .int (nI zo), .int (nI zh)])) :: (ha, .inl (g.2.1 2, 4, .inr (.inr (.inr (.inr sl))))) :: (LogX g so se sc su he hc hs yn yg yt yw ++ LogC g ao ae ac au fe fc fs w))) H) ∧ (addB w a b c9 d9 = true → ∃ he2 hc2 hs2 fe2 fc2 fs2 : Nat → Int32, LR he2 hc2 hs2 w ∧ LR fe2 fc2 fs2 (addW w a b c9 d9) ∧ va_P g.1 vwCl ((dd, .inr (3, [.ref ao, .ref bo, .int (xz zk), .ref ho, .ref xo, .ref ta])) :: ((ho, .inr (0, [.ref ha, .int (nI (oldN zo zh)), .int (nI (recS zh + 1))])) :: (ha, .inl (g.2.1 2, 4, .inr (.inr (.inr (.inr sl))))) :: (LogC g so se sc su he2 hc2 hs2 w ++ LogC g ao ae ac au fe2 fc2 fs2 (addW w a b c9 d9)))) H)) (xin [dd, ho, ha, so, se, sc, su, ao, ae, ac, au])) 0 0 (xin [dd, ho, ha, so, se, sc, su, ao, ae, ac, au]) := by
  refine xMetM (by decide) rfl (Nat.le_of_ble_eq_true rfl) ?_
  intro p e s m below meth c ls H locs hF hZ hh hS hret hlocks hin hl
  have hx := hF.1.1
  have hb := hF.1.2.1
  have hP := hh
  have hP : va_P g.1 vwCl ((dd, .inr (3, [.ref ao, .ref bo, .int (xz zk), .ref ho, .ref xo, .ref ta])) :: ((ho, .inr (0, [.ref ha, .int (nI zo), .int (nI zh)])) :: (ha, .inl (g.2.1 2, 4, .inr (.inr (.inr (.inr sl))))) :: (LogX g so se sc su he hc hs yn yg yt yw ++ LogC g ao ae ac au fe fc fs w))) H := hP
  have hl : lv_has ls 5 [(0, .ref dd), (1, .int (a)), (2, .int (b)), (3, .int (c9)), (4, .int (d9))] := hl
  have h48 := hW.n48
  have hp4 := hW.pg4
  have hp12 := hW.pg12
  have hs1 := hW.st1
  have hw2 := hW.wr2
  have hw6 := hW.wr6
  refine xN_const hx hb 0 dX3_addRow_0 (by decide) ?_
  refine lv_iload_n hx hb dX3_addRow_1 rfl (lv_at hl 1 rfl) ?_
  refine vp_callSi (va_Run.run (xrS hF (c_X3_isEntry l g 0 ((a)) (by omega)) cal_X3_isEntry q_71 ⟨by decide, by decide⟩ rfl rfl rfl (hZ.at hS hAB) (trivial) hl.1 rfl (Nat.le_of_ble_eq_true rfl) dX3_addRow_2 ⟨Nat.le_refl _, Nat.le_refl _⟩)) (fun r_ h_ => ?_)
  subst h_
  refine xZ_eq (tgt := 33) hx hb dX3_addRow_5 (by decide) (fun c_5 => ?_) (fun c_5 => ?_)
  · refine lv_bipush hx hb (v := (-2)) dX3_addRow_33 (by decide) ?_
    exact xend_i (V := (-2)) hF hret hlocks hS (⟨by unfold addA; rw [c_5]; rfl, fun _ => hP, fun h => absurd h (by rw [show (addB w a b c9 d9) = false from (by simp [addB, c_5])]; decide)⟩) dX3_addRow_35
  · refine xN_const hx hb 1 dX3_addRow_8 (by decide) ?_
    refine lv_iload_n hx hb dX3_addRow_9 rfl (lv_at hl 2 rfl) ?_
    refine vp_callSi (va_Run.run (xrS hF (c_X3_isEntry l g 1 ((b)) (by omega)) cal_X3_isEntry q_71 ⟨by decide, by decide⟩ rfl rfl rfl (hZ.at hS hAB) (trivial) hl.1 rfl (Nat.le_of_ble_eq_true rfl) dX3_addRow_10 ⟨Nat.le_refl _, Nat.le_refl _⟩)) (fun r_ h_ => ?_)
    subst h_
    refine xZ_eq (tgt := 33) hx hb dX3_addRow_13 (by decide) (fun c_13 => ?_) (fun c_13 => ?_)
    · refine lv_bipush hx hb (v := (-2)) dX3_addRow_33 (by decide) ?_
      exact xend_i (V := (-2)) hF hret hlocks hS (⟨by unfold addA; rw [c_5, c_13]; rfl, fun _ => hP, fun h => absurd h (by rw [show (addB w a b c9 d9) = false from (by simp [addB, c_5, c_13])]; decide)⟩) dX3_addRow_35
    · refine xN_const hx hb 2 dX3_addRow_16 (by decide) ?_
      refine lv_iload_n hx hb dX3_addRow_17 rfl (lv_at hl 3 rfl) ?_
      refine vp_callSi (va_Run.run (xrS hF (c_X3_isEntry l g 2 ((c9)) (by omega)) cal_X3_isEntry q_71 ⟨by decide, by decide⟩ rfl rfl rfl (hZ.at hS hAB) (trivial) hl.1 rfl (Nat.le_of_ble_eq_true rfl) dX3_addRow_18 ⟨Nat.le_refl _, Nat.le_refl _⟩)) (fun r_ h_ => ?_)
      subst h_
      refine xZ_eq (tgt := 33) hx hb dX3_addRow_21 (by decide) (fun c_21 => ?_) (fun c_21 => ?_)
      · refine lv_bipush hx hb (v := (-2)) dX3_addRow_33 (by decide) ?_
        exact xend_i (V := (-2)) hF hret hlocks hS (⟨by unfold addA; rw [c_5, c_13, c_21]; rfl, fun _ => hP, fun h => absurd h (by rw [show (addB w a b c9 d9) = false from (by simp [addB, c_5, c_13, c_21])]; decide)⟩) dX3_addRow_35
      · refine xN_const hx hb 3 dX3_addRow_24 (by decide) ?_
        refine lv_iload hx hb dX3_addRow_25 (lv_at hl 4 rfl) ?_
        refine vp_callSi (va_Run.run (xrS hF (c_X3_isEntry l g 3 ((d9)) (by omega)) cal_X3_isEntry q_71 ⟨by decide, by decide⟩ rfl rfl rfl (hZ.at hS hAB) (trivial) hl.1 rfl (Nat.le_of_ble_eq_true rfl) dX3_addRow_27 ⟨Nat.le_refl _, Nat.le_refl _⟩)) (fun r_ h_ => ?_)
        subst h_
        refine xZ_ne (tgt := 36) hx hb dX3_addRow_30 (by decide) (fun c_30 => ?_) (fun c_30 => ?_)
        · refine lv_aload_n hx hb dX3_addRow_36 rfl (lv_at hl 0 rfl) ?_
          refine gf_X3_X3_log hF hP 0 rfl rfl dX3_addRow_37 ?_
          refine gf_X3_X1_rows hF hP 7 rfl rfl dX3_addRow_40 ?_
          refine xN_bi hx hb 48 dX3_addRow_43 (by decide) ?_
          refine xC_lt (tgt := 51) hx hb (by omega) (by omega) dX3_addRow_45 (by decide) (fun c_45 => ?_) (fun c_45 => ?_)
          · refine lv_aload_n hx hb dX3_addRow_51 rfl (lv_at hl 0 rfl) ?_
            refine gf_X3_X3_history hF hP 0 rfl rfl dX3_addRow_52 ?_
            refine lv_aload_n hx hb dX3_addRow_55 rfl (lv_at hl 0 rfl) ?_
            refine gf_X3_X3_log hF hP 0 rfl rfl dX3_addRow_56 ?_
            refine xcv (xrVN hF (c_X0_remember l g ho ha zo zh so se sc su yn yg yt yw ao ae ac au sl he hc hs fe fc fs w hW hR (by omega) (by omega) (hD.self2 [1, 2, 3, 4, 5, 6, 7, 8, 9, 10] (by decide) rfl) (xin_AB hAB [1, 2, 3, 4, 5, 6, 7, 8, 9, 10] rfl) hsl) cal_X0_remember n_7 ⟨by decide, by decide⟩ rfl rfl rfl (va_recv hF.2.1 hP (ci := 0) (q0 := 1) rfl rfl) (hZ.at hS hAB) (hP.sub [1, 2, 3, 4, 5, 6, 7, 8, 9, 10] rfl) hl.1 rfl (Nat.le_of_ble_eq_true rfl) dX3_addRow_59 ⟨Nat.le_refl _, Nat.le_refl _⟩) hS (xin_sub [1, 2, 3, 4, 5, 6, 7, 8, 9, 10] rfl) (xin_sub [1, 2, 3, 4, 5, 6, 7, 8, 9, 10] rfl) (fun H locs hq_ hz_ hk_ hS => ?_)
            obtain ⟨he2, hc2, hs2, hR2, hw_⟩ := hq_
            have hP : va_P g.1 vwCl [(dd, .inr (3, [.ref ao, .ref bo, .int (xz (zk)), .ref ho, .ref xo, .ref ta])), (ho, .inr (0, [.ref ha, .int (nI (oldN zo zh)), .int (nI (recS zh + 1))])), (ha, .inl (g.2.1 2, 4, .inr (.inr (.inr (.inr (sl)))))), (so, .inr (1, [.ref se, .ref sc, .ref su, .int (nI (nr w)), .int (nI (pgN w)), .int (nI (stN w)), .int (nI (wrN w))])), (se, .inl (g.2.1 0, 768, .inl (he2))), (sc, .inl (g.2.1 0, 192, .inl (hc2))), (su, .inl (g.2.1 0, 24, .inl (hs2))), (ao, .inr (1, [.ref ae, .ref ac, .ref au, .int (nI (nr w)), .int (nI (pgN w)), .int (nI (stN w)), .int (nI (wrN w))])), (ae, .inl (g.2.1 0, 768, .inl (fe))), (ac, .inl (g.2.1 0, 192, .inl (fc))), (au, .inl (g.2.1 0, 24, .inl (fs)))] H := xjoin hP hD hw_ hk_ [1, 2, 3, 4, 5, 6, 7, 8, 9, 10] [(false, 0), (true, 0), (true, 1), (true, 2), (true, 3), (true, 4), (true, 5), (true, 6), (true, 7), (true, 8), (true, 9)] rfl rfl rfl
            have hD : va_D (xin [dd, ho, ha, so, se, sc, su, ao, ae, ac, au]) [(dd, .inr (3, [.ref ao, .ref bo, .int (xz (zk)), .ref ho, .ref xo, .ref ta])), (ho, .inr (0, [.ref ha, .int (nI (oldN zo zh)), .int (nI (recS zh + 1))])), (ha, .inl (g.2.1 2, 4, .inr (.inr (.inr (.inr (sl)))))), (so, .inr (1, [.ref se, .ref sc, .ref su, .int (nI (nr w)), .int (nI (pgN w)), .int (nI (stN w)), .int (nI (wrN w))])), (se, .inl (g.2.1 0, 768, .inl (he2))), (sc, .inl (g.2.1 0, 192, .inl (hc2))), (su, .inl (g.2.1 0, 24, .inl (hs2))), (ao, .inr (1, [.ref ae, .ref ac, .ref au, .int (nI (nr w)), .int (nI (pgN w)), .int (nI (stN w)), .int (nI (wrN w))])), (ae, .inl (g.2.1 0, 768, .inl (fe))), (ac, .inl (g.2.1 0, 192, .inl (fc))), (au, .inl (g.2.1 0, 24, .inl (fs)))] := va_D_eqL [dd, ho, ha, so, se, sc, su, ao, ae, ac, au] rfl rfl hD
            refine lv_aload_n hx hb dX3_addRow_62 rfl (lv_at hl 0 rfl) ?_
            refine gf_X3_X3_log hF hP 0 rfl rfl dX3_addRow_63 ?_
            refine lv_iload_n hx hb dX3_addRow_66 rfl (lv_at hl 1 rfl) ?_
            refine lv_iload_n hx hb dX3_addRow_67 rfl (lv_at hl 2 rfl) ?_
            refine lv_iload_n hx hb dX3_addRow_68 rfl (lv_at hl 3 rfl) ?_
            refine lv_iload hx hb dX3_addRow_69 (lv_at hl 4 rfl) ?_
            refine xcv (xrVN hF (c_X1_appendRow l g ao ae ac au fe fc fs w (hD.self2 [7, 8, 9, 10] (by decide) rfl) (xin_AB hAB [7, 8, 9, 10] rfl) hW hR ((a)) ((b)) ((c9)) ((d9)) (by omega) (entB_iff.mp c_5) (entB_iff.mp c_13) (entB_iff.mp c_21) (entB_iff.mp c_30)) cal_X1_appendRow n_10 ⟨by decide, by decide⟩ rfl rfl rfl (va_recv hF.2.1 hP (ci := 1) (q0 := 7) rfl rfl) (hZ.at hS hAB) (hP.sub [7, 8, 9, 10] rfl) hl.1 rfl (Nat.le_of_ble_eq_true rfl) dX3_addRow_71 ⟨Nat.le_refl _, Nat.le_refl _⟩) hS (xin_sub [7, 8, 9, 10] rfl) (xin_sub [7, 8, 9, 10] rfl) (fun H locs hq_ hz_ hk_ hS => ?_)
            have hw_ := hq_
            have hP : va_P g.1 vwCl [(dd, .inr (3, [.ref ao, .ref bo, .int (xz (zk)), .ref ho, .ref xo, .ref ta])), (ho, .inr (0, [.ref ha, .int (nI (oldN zo zh)), .int (nI (recS zh + 1))])), (ha, .inl (g.2.1 2, 4, .inr (.inr (.inr (.inr (sl)))))), (so, .inr (1, [.ref se, .ref sc, .ref su, .int (nI (nr w)), .int (nI (pgN w)), .int (nI (stN w)), .int (nI (wrN w))])), (se, .inl (g.2.1 0, 768, .inl (he2))), (sc, .inl (g.2.1 0, 192, .inl (hc2))), (su, .inl (g.2.1 0, 24, .inl (hs2))), (ao, .inr (1, [.ref ae, .ref ac, .ref au, .int (nI (nr (addW w ((a)) ((b)) ((c9)) ((d9))))), .int (nI (pgN (addW w ((a)) ((b)) ((c9)) ((d9))))), .int (nI (stN (addW w ((a)) ((b)) ((c9)) ((d9))))), .int (nI (wrN (addW w ((a)) ((b)) ((c9)) ((d9)))))])), (ae, .inl (g.2.1 0, 768, .inl (addE fe (nr w) ((a)) ((b)) ((c9)) ((d9))))), (ac, .inl (g.2.1 0, 192, .inl (one1 (one1 (one1 (one1 fc (nr w * 4 + 0)) (nr w * 4 + 1)) (nr w * 4 + 2)) (nr w * 4 + 3)))), (au, .inl (g.2.1 0, 24, .inl (fs)))] H := xjoin hP hD hw_ hk_ [7, 8, 9, 10] [(false, 0), (false, 1), (false, 2), (false, 3), (false, 4), (false, 5), (false, 6), (true, 0), (true, 1), (true, 2), (true, 3)] rfl rfl rfl
            have hD : va_D (xin [dd, ho, ha, so, se, sc, su, ao, ae, ac, au]) [(dd, .inr (3, [.ref ao, .ref bo, .int (xz (zk)), .ref ho, .ref xo, .ref ta])), (ho, .inr (0, [.ref ha, .int (nI (oldN zo zh)), .int (nI (recS zh + 1))])), (ha, .inl (g.2.1 2, 4, .inr (.inr (.inr (.inr (sl)))))), (so, .inr (1, [.ref se, .ref sc, .ref su, .int (nI (nr w)), .int (nI (pgN w)), .int (nI (stN w)), .int (nI (wrN w))])), (se, .inl (g.2.1 0, 768, .inl (he2))), (sc, .inl (g.2.1 0, 192, .inl (hc2))), (su, .inl (g.2.1 0, 24, .inl (hs2))), (ao, .inr (1, [.ref ae, .ref ac, .ref au, .int (nI (nr (addW w ((a)) ((b)) ((c9)) ((d9))))), .int (nI (pgN (addW w ((a)) ((b)) ((c9)) ((d9))))), .int (nI (stN (addW w ((a)) ((b)) ((c9)) ((d9))))), .int (nI (wrN (addW w ((a)) ((b)) ((c9)) ((d9)))))])), (ae, .inl (g.2.1 0, 768, .inl (addE fe (nr w) ((a)) ((b)) ((c9)) ((d9))))), (ac, .inl (g.2.1 0, 192, .inl (one1 (one1 (one1 (one1 fc (nr w * 4 + 0)) (nr w * 4 + 1)) (nr w * 4 + 2)) (nr w * 4 + 3)))), (au, .inl (g.2.1 0, 24, .inl (fs)))] := va_D_eqL [dd, ho, ha, so, se, sc, su, ao, ae, ac, au] rfl rfl hD
            refine lv_aload_n hx hb dX3_addRow_74 rfl (lv_at hl 0 rfl) ?_
            refine gf_X3_X3_log hF hP 0 rfl rfl dX3_addRow_75 ?_
            refine gf_X3_X1_rows hF hP 7 rfl rfl dX3_addRow_78 ?_
            refine xN_const hx hb 1 dX3_addRow_81 (by decide) ?_
            have hnr := addW_nr w a b c9 d9 (by omega)
            refine xN_sub hx hb (by omega) dX3_addRow_82 ?_
            exact xend_i (V := nI ((nr (addW w ((a)) ((b)) ((c9)) ((d9)))) - 1)) hF hret hlocks hS (⟨by unfold addA; rw [c_5, c_13, c_21, c_30, if_pos (show (true && (true && (true && true))) = true from rfl), if_neg (by omega), show nr (addW w a b c9 d9) - 1 = nr w by rw [addW_nr w a b c9 d9 (by omega)]; rfl], fun h => absurd h (by rw [show (addB w a b c9 d9) = true from (by simp [addB, c_5, c_13, c_21, c_30]; omega)]; decide), fun _ => ⟨_, _, _, _, _, _, hR2, LR.add hW hR (by omega) (entB_iff.mp c_5) (entB_iff.mp c_13) (entB_iff.mp c_21) (entB_iff.mp c_30), hP⟩⟩) dX3_addRow_83
          · refine lv_bipush hx hb (v := (-3)) dX3_addRow_48 (by decide) ?_
            exact xend_i (V := (-3)) hF hret hlocks hS (⟨by unfold addA; rw [c_5, c_13, c_21, c_30, if_pos (show (true && (true && (true && true))) = true from rfl), if_pos (show nr w = 48 by omega)], fun _ => hP, fun h => absurd h (by rw [show (addB w a b c9 d9) = false from (by simp [addB, c_5, c_13, c_21, c_30, show nr w = 48 by omega])]; decide)⟩) dX3_addRow_50
        · refine lv_bipush hx hb (v := (-2)) dX3_addRow_33 (by decide) ?_
          exact xend_i (V := (-2)) hF hret hlocks hS (⟨by unfold addA; rw [c_5, c_13, c_21, c_30]; rfl, fun _ => hP, fun h => absurd h (by rw [show (addB w a b c9 d9) = false from (by simp [addB, c_5, c_13, c_21, c_30])]; decide)⟩) dX3_addRow_35
set_option maxHeartbeats 4000000 in
set_option maxRecDepth 100000 in
theorem c_X3_removeRow (l : Launch) (g : XG) (dd bo xo ta : Nat) (zk : Bool) (ho ha zo zh so se sc su yn yg yt yw ao ae ac au : Nat) (sl : Nat → Option Nat) (he hc hs fe fc fs w : Nat → Int32) (hW : WF w) (hR : LR fe fc fs w) (hzo : zo < 4) (hz4 : zh ≤ 4) (hD : va_D (xin [dd, ho, ha, so, se, sc, su, ao, ae, ac, au]) ((dd, .inr (3, [.ref ao, .ref bo, .int (xz zk), .ref ho, .ref xo, .ref ta])) :: ((ho, .inr (0, [.ref ha, .int (nI zo), .int (nI zh)])) :: (ha, .inl (g.2.1 2, 4, .inr (.inr (.inr (.inr sl))))) :: (LogX g so se sc su he hc hs yn yg yt yw ++ LogC g ao ae ac au fe fc fs w)))) (hAB : ∀ q, xin [dd, ho, ha, so, se, sc, su, ao, ae, ac, au] q → xB g q) (hsl : sl ((zo + zh) % 4) = some so)  : Met l yX3_removeRow (ww yX3_removeRow cX3_removeRow 1 (some .int)) (rmD 4) (xP g [.ref dd] (fun H => va_P g.1 vwCl ((dd, .inr (3, [.ref ao, .ref bo, .int (xz zk), .ref ho, .ref xo, .ref ta])) :: ((ho, .inr (0, [.ref ha, .int (nI zo), .int (nI zh)])) :: (ha, .inl (g.2.1 2, 4, .inr (.inr (.inr (.inr sl))))) :: (LogX g so se sc su he hc hs yn yg yt yw ++ LogC g ao ae ac au fe fc fs w))) H)) (xQi (fun r9 H => r9 = remA w ∧ ((!(nr w == 0)) = false → va_P g.1 vwCl ((dd, .inr (3, [.ref ao, .ref bo, .int (xz zk), .ref ho, .ref xo, .ref ta])) :: ((ho, .inr (0, [.ref ha, .int (nI zo), .int (nI zh)])) :: (ha, .inl (g.2.1 2, 4, .inr (.inr (.inr (.inr sl))))) :: (LogX g so se sc su he hc hs yn yg yt yw ++ LogC g ao ae ac au fe fc fs w))) H) ∧ ((!(nr w == 0)) = true → ∃ he2 hc2 hs2 fe2 fc2 fs2 : Nat → Int32, LR he2 hc2 hs2 w ∧ LR fe2 fc2 fs2 (remW w) ∧ va_P g.1 vwCl ((dd, .inr (3, [.ref ao, .ref bo, .int (xz zk), .ref ho, .ref xo, .ref ta])) :: ((ho, .inr (0, [.ref ha, .int (nI (oldN zo zh)), .int (nI (recS zh + 1))])) :: (ha, .inl (g.2.1 2, 4, .inr (.inr (.inr (.inr sl))))) :: (LogC g so se sc su he2 hc2 hs2 w ++ LogC g ao ae ac au fe2 fc2 fs2 (remW w)))) H)) (xin [dd, ho, ha, so, se, sc, su, ao, ae, ac, au])) 0 0 (xin [dd, ho, ha, so, se, sc, su, ao, ae, ac, au]) := by
  refine xMetM (by decide) rfl (Nat.le_of_ble_eq_true rfl) ?_
  intro p e s m below meth c ls H locs hF hZ hh hS hret hlocks hin hl
  have hx := hF.1.1
  have hb := hF.1.2.1
  have hP := hh
  have hP : va_P g.1 vwCl ((dd, .inr (3, [.ref ao, .ref bo, .int (xz zk), .ref ho, .ref xo, .ref ta])) :: ((ho, .inr (0, [.ref ha, .int (nI zo), .int (nI zh)])) :: (ha, .inl (g.2.1 2, 4, .inr (.inr (.inr (.inr sl))))) :: (LogX g so se sc su he hc hs yn yg yt yw ++ LogC g ao ae ac au fe fc fs w))) H := hP
  have hl : lv_has ls 1 [(0, .ref dd)] := hl
  have h48 := hW.n48
  have hp4 := hW.pg4
  have hp12 := hW.pg12
  have hs1 := hW.st1
  have hw2 := hW.wr2
  have hw6 := hW.wr6
  refine lv_aload_n hx hb dX3_removeRow_0 rfl (lv_at hl 0 rfl) ?_
  refine gf_X3_X3_log hF hP 0 rfl rfl dX3_removeRow_1 ?_
  refine gf_X3_X1_rows hF hP 7 rfl rfl dX3_removeRow_4 ?_
  refine xI_gt (tgt := 13) hx hb (by omega) dX3_removeRow_7 (by decide) (fun c_7 => ?_) (fun c_7 => ?_)
  · refine lv_aload_n hx hb dX3_removeRow_13 rfl (lv_at hl 0 rfl) ?_
    refine gf_X3_X3_history hF hP 0 rfl rfl dX3_removeRow_14 ?_
    refine lv_aload_n hx hb dX3_removeRow_17 rfl (lv_at hl 0 rfl) ?_
    refine gf_X3_X3_log hF hP 0 rfl rfl dX3_removeRow_18 ?_
    refine xcv (xrVN hF (c_X0_remember l g ho ha zo zh so se sc su yn yg yt yw ao ae ac au sl he hc hs fe fc fs w hW hR (by omega) (by omega) (hD.self2 [1, 2, 3, 4, 5, 6, 7, 8, 9, 10] (by decide) rfl) (xin_AB hAB [1, 2, 3, 4, 5, 6, 7, 8, 9, 10] rfl) hsl) cal_X0_remember n_7 ⟨by decide, by decide⟩ rfl rfl rfl (va_recv hF.2.1 hP (ci := 0) (q0 := 1) rfl rfl) (hZ.at hS hAB) (hP.sub [1, 2, 3, 4, 5, 6, 7, 8, 9, 10] rfl) hl.1 rfl (Nat.le_of_ble_eq_true rfl) dX3_removeRow_21 ⟨Nat.le_refl _, Nat.le_refl _⟩) hS (xin_sub [1, 2, 3, 4, 5, 6, 7, 8, 9, 10] rfl) (xin_sub [1, 2, 3, 4, 5, 6, 7, 8, 9, 10] rfl) (fun H locs hq_ hz_ hk_ hS => ?_)
    obtain ⟨he2, hc2, hs2, hR2, hw_⟩ := hq_
    have hP : va_P g.1 vwCl [(dd, .inr (3, [.ref ao, .ref bo, .int (xz (zk)), .ref ho, .ref xo, .ref ta])), (ho, .inr (0, [.ref ha, .int (nI (oldN zo zh)), .int (nI (recS zh + 1))])), (ha, .inl (g.2.1 2, 4, .inr (.inr (.inr (.inr (sl)))))), (so, .inr (1, [.ref se, .ref sc, .ref su, .int (nI (nr w)), .int (nI (pgN w)), .int (nI (stN w)), .int (nI (wrN w))])), (se, .inl (g.2.1 0, 768, .inl (he2))), (sc, .inl (g.2.1 0, 192, .inl (hc2))), (su, .inl (g.2.1 0, 24, .inl (hs2))), (ao, .inr (1, [.ref ae, .ref ac, .ref au, .int (nI (nr w)), .int (nI (pgN w)), .int (nI (stN w)), .int (nI (wrN w))])), (ae, .inl (g.2.1 0, 768, .inl (fe))), (ac, .inl (g.2.1 0, 192, .inl (fc))), (au, .inl (g.2.1 0, 24, .inl (fs)))] H := xjoin hP hD hw_ hk_ [1, 2, 3, 4, 5, 6, 7, 8, 9, 10] [(false, 0), (true, 0), (true, 1), (true, 2), (true, 3), (true, 4), (true, 5), (true, 6), (true, 7), (true, 8), (true, 9)] rfl rfl rfl
    have hD : va_D (xin [dd, ho, ha, so, se, sc, su, ao, ae, ac, au]) [(dd, .inr (3, [.ref ao, .ref bo, .int (xz (zk)), .ref ho, .ref xo, .ref ta])), (ho, .inr (0, [.ref ha, .int (nI (oldN zo zh)), .int (nI (recS zh + 1))])), (ha, .inl (g.2.1 2, 4, .inr (.inr (.inr (.inr (sl)))))), (so, .inr (1, [.ref se, .ref sc, .ref su, .int (nI (nr w)), .int (nI (pgN w)), .int (nI (stN w)), .int (nI (wrN w))])), (se, .inl (g.2.1 0, 768, .inl (he2))), (sc, .inl (g.2.1 0, 192, .inl (hc2))), (su, .inl (g.2.1 0, 24, .inl (hs2))), (ao, .inr (1, [.ref ae, .ref ac, .ref au, .int (nI (nr w)), .int (nI (pgN w)), .int (nI (stN w)), .int (nI (wrN w))])), (ae, .inl (g.2.1 0, 768, .inl (fe))), (ac, .inl (g.2.1 0, 192, .inl (fc))), (au, .inl (g.2.1 0, 24, .inl (fs)))] := va_D_eqL [dd, ho, ha, so, se, sc, su, ao, ae, ac, au] rfl rfl hD
    refine lv_aload_n hx hb dX3_removeRow_24 rfl (lv_at hl 0 rfl) ?_
    refine gf_X3_X3_log hF hP 0 rfl rfl dX3_removeRow_25 ?_
    refine xcv (xrVN hF (c_X1_dropRow l g ao ae ac au fe fc fs w (hD.self2 [7, 8, 9, 10] (by decide) rfl) (xin_AB hAB [7, 8, 9, 10] rfl) hW hR (by omega)) cal_X1_dropRow n_16 ⟨by decide, by decide⟩ rfl rfl rfl (va_recv hF.2.1 hP (ci := 1) (q0 := 7) rfl rfl) (hZ.at hS hAB) (hP.sub [7, 8, 9, 10] rfl) hl.1 rfl (Nat.le_of_ble_eq_true rfl) dX3_removeRow_28 ⟨Nat.le_refl _, Nat.le_refl _⟩) hS (xin_sub [7, 8, 9, 10] rfl) (xin_sub [7, 8, 9, 10] rfl) (fun H locs hq_ hz_ hk_ hS => ?_)
    have hw_ := hq_
    have hP : va_P g.1 vwCl [(dd, .inr (3, [.ref ao, .ref bo, .int (xz (zk)), .ref ho, .ref xo, .ref ta])), (ho, .inr (0, [.ref ha, .int (nI (oldN zo zh)), .int (nI (recS zh + 1))])), (ha, .inl (g.2.1 2, 4, .inr (.inr (.inr (.inr (sl)))))), (so, .inr (1, [.ref se, .ref sc, .ref su, .int (nI (nr w)), .int (nI (pgN w)), .int (nI (stN w)), .int (nI (wrN w))])), (se, .inl (g.2.1 0, 768, .inl (he2))), (sc, .inl (g.2.1 0, 192, .inl (hc2))), (su, .inl (g.2.1 0, 24, .inl (hs2))), (ao, .inr (1, [.ref ae, .ref ac, .ref au, .int (nI (nr (remW w))), .int (nI (pgN (remW w))), .int (nI (stN (remW w))), .int (nI (wrN (remW w)))])), (ae, .inl (g.2.1 0, 768, .inl (fe))), (ac, .inl (g.2.1 0, 192, .inl (fc))), (au, .inl (g.2.1 0, 24, .inl (fs)))] H := xjoin hP hD hw_ hk_ [7, 8, 9, 10] [(false, 0), (false, 1), (false, 2), (false, 3), (false, 4), (false, 5), (false, 6), (true, 0), (true, 1), (true, 2), (true, 3)] rfl rfl rfl
    have hD : va_D (xin [dd, ho, ha, so, se, sc, su, ao, ae, ac, au]) [(dd, .inr (3, [.ref ao, .ref bo, .int (xz (zk)), .ref ho, .ref xo, .ref ta])), (ho, .inr (0, [.ref ha, .int (nI (oldN zo zh)), .int (nI (recS zh + 1))])), (ha, .inl (g.2.1 2, 4, .inr (.inr (.inr (.inr (sl)))))), (so, .inr (1, [.ref se, .ref sc, .ref su, .int (nI (nr w)), .int (nI (pgN w)), .int (nI (stN w)), .int (nI (wrN w))])), (se, .inl (g.2.1 0, 768, .inl (he2))), (sc, .inl (g.2.1 0, 192, .inl (hc2))), (su, .inl (g.2.1 0, 24, .inl (hs2))), (ao, .inr (1, [.ref ae, .ref ac, .ref au, .int (nI (nr (remW w))), .int (nI (pgN (remW w))), .int (nI (stN (remW w))), .int (nI (wrN (remW w)))])), (ae, .inl (g.2.1 0, 768, .inl (fe))), (ac, .inl (g.2.1 0, 192, .inl (fc))), (au, .inl (g.2.1 0, 24, .inl (fs)))] := va_D_eqL [dd, ho, ha, so, se, sc, su, ao, ae, ac, au] rfl rfl hD
    refine lv_aload_n hx hb dX3_removeRow_31 rfl (lv_at hl 0 rfl) ?_
    refine gf_X3_X3_log hF hP 0 rfl rfl dX3_removeRow_32 ?_
    refine gf_X3_X1_rows hF hP 7 rfl rfl dX3_removeRow_35 ?_
    exact xend_i (V := nI (nr (remW w))) hF hret hlocks hS (⟨by unfold remA; rw [if_neg (by omega), remW_nr hW], fun h => absurd h (by rw [show ((!(nr w == 0))) = true from (by simp; omega)]; decide), fun _ => ⟨_, _, _, _, _, _, hR2, LR.rem hW hR (by omega), hP⟩⟩) dX3_removeRow_38
  · refine lv_bipush hx hb (v := (-4)) dX3_removeRow_10 (by decide) ?_
    exact xend_i (V := (-4)) hF hret hlocks hS (⟨by unfold remA; rw [if_pos c_7], fun _ => hP, fun h => absurd h (by rw [show ((!(nr w == 0))) = false from (by simp [c_7])]; decide)⟩) dX3_removeRow_12
set_option maxHeartbeats 4000000 in
set_option maxRecDepth 100000 in
theorem c_X3_correct (l : Launch) (g : XG) (dd bo xo ta : Nat) (zk : Bool) (ho ha zo zh so se sc su yn yg yt yw ao ae ac au : Nat) (sl : Nat → Option Nat) (he hc hs fe fc fs w : Nat → Int32) (hW : WF w) (hR : LR fe fc fs w) (hzo : zo < 4) (hz4 : zh ≤ 4) (hD : va_D (xin [dd, ho, ha, so, se, sc, su, ao, ae, ac, au]) ((dd, .inr (3, [.ref ao, .ref bo, .int (xz zk), .ref ho, .ref xo, .ref ta])) :: ((ho, .inr (0, [.ref ha, .int (nI zo), .int (nI zh)])) :: (ha, .inl (g.2.1 2, 4, .inr (.inr (.inr (.inr sl))))) :: (LogX g so se sc su he hc hs yn yg yt yw ++ LogC g ao ae ac au fe fc fs w)))) (hAB : ∀ q, xin [dd, ho, ha, so, se, sc, su, ao, ae, ac, au] q → xB g q) (hsl : sl ((zo + zh) % 4) = some so) (x y z : Int32) : Met l yX3_correct (ww yX3_correct cX3_correct 5 (some .int)) (rmD 6) (xP g [.ref dd, .int (x), .int (y), .int (z)] (fun H => va_P g.1 vwCl ((dd, .inr (3, [.ref ao, .ref bo, .int (xz zk), .ref ho, .ref xo, .ref ta])) :: ((ho, .inr (0, [.ref ha, .int (nI zo), .int (nI zh)])) :: (ha, .inl (g.2.1 2, 4, .inr (.inr (.inr (.inr sl))))) :: (LogX g so se sc su he hc hs yn yg yt yw ++ LogC g ao ae ac au fe fc fs w))) H)) (xQi (fun r9 H => r9 = corA2 w x y z ∧ (corB w x y z = false → va_P g.1 vwCl ((dd, .inr (3, [.ref ao, .ref bo, .int (xz zk), .ref ho, .ref xo, .ref ta])) :: ((ho, .inr (0, [.ref ha, .int (nI zo), .int (nI zh)])) :: (ha, .inl (g.2.1 2, 4, .inr (.inr (.inr (.inr sl))))) :: (LogX g so se sc su he hc hs yn yg yt yw ++ LogC g ao ae ac au fe fc fs w))) H) ∧ (corB w x y z = true → ∃ he2 hc2 hs2 fe2 fc2 fs2 : Nat → Int32, LR he2 hc2 hs2 w ∧ LR fe2 fc2 fs2 (corW w x.toNatClampNeg y.toNatClampNeg z) ∧ va_P g.1 vwCl ((dd, .inr (3, [.ref ao, .ref bo, .int (xz zk), .ref ho, .ref xo, .ref ta])) :: ((ho, .inr (0, [.ref ha, .int (nI (oldN zo zh)), .int (nI (recS zh + 1))])) :: (ha, .inl (g.2.1 2, 4, .inr (.inr (.inr (.inr sl))))) :: (LogC g so se sc su he2 hc2 hs2 w ++ LogC g ao ae ac au fe2 fc2 fs2 (corW w x.toNatClampNeg y.toNatClampNeg z)))) H)) (xin [dd, ho, ha, so, se, sc, su, ao, ae, ac, au])) 0 0 (xin [dd, ho, ha, so, se, sc, su, ao, ae, ac, au]) := by
  refine xMetM (by decide) rfl (Nat.le_of_ble_eq_true rfl) ?_
  intro p e s m below meth c ls H locs hF hZ hh hS hret hlocks hin hl
  have hx := hF.1.1
  have hb := hF.1.2.1
  have hP := hh
  have hP : va_P g.1 vwCl ((dd, .inr (3, [.ref ao, .ref bo, .int (xz zk), .ref ho, .ref xo, .ref ta])) :: ((ho, .inr (0, [.ref ha, .int (nI zo), .int (nI zh)])) :: (ha, .inl (g.2.1 2, 4, .inr (.inr (.inr (.inr sl))))) :: (LogX g so se sc su he hc hs yn yg yt yw ++ LogC g ao ae ac au fe fc fs w))) H := hP
  have hl : lv_has ls 5 [(0, .ref dd), (1, .int (x)), (2, .int (y)), (3, .int (z))] := hl
  have h48 := hW.n48
  have hp4 := hW.pg4
  have hp12 := hW.pg12
  have hs1 := hW.st1
  have hw2 := hW.wr2
  have hw6 := hW.wr6
  refine lv_aload_n hx hb dX3_correct_0 rfl (lv_at hl 0 rfl) ?_
  refine gf_X3_X3_log hF hP 0 rfl rfl dX3_correct_1 ?_
  refine lv_iload_n hx hb dX3_correct_4 rfl (lv_at hl 1 rfl) ?_
  refine lv_iload_n hx hb dX3_correct_5 rfl (lv_at hl 2 rfl) ?_
  refine vp_callSi (va_Run.run (xrVN hF (c_X1_isCell l g ao ae ac au fe fc fs w hW hR ((x)) ((y)) ) cal_X1_isCell n_17 ⟨by decide, by decide⟩ rfl rfl rfl (va_recv hF.2.1 hP (ci := 1) (q0 := 7) rfl rfl) (hZ.at hS hAB) (hP.sub [7, 8, 9, 10] rfl) hl.1 rfl (Nat.le_of_ble_eq_true rfl) dX3_correct_6 ⟨Nat.le_refl _, Nat.le_refl _⟩)) (fun r_ h_ => ?_)
  subst h_
  refine xZ_ne (tgt := 14) hx hb dX3_correct_9 (by decide) (fun c_9 => ?_) (fun c_9 => ?_)
  · obtain ⟨q1, q2⟩ := Bool.and_eq_true_iff.mp c_9
    obtain ⟨r, hr, rfl⟩ := (rowB_iff hW).mp q1
    obtain ⟨k, hk, rfl⟩ := colB_iff.mp q2
    have er : (nI r).toNatClampNeg = r := nI_clamp (by omega)
    have ek : (nI k).toNatClampNeg = k := nI_clamp (by omega)
    have hc4 := hW.c4 (i := 4 * r + k) (by omega)
    have hc1 := hW.c1 (i := 4 * r + k) (by omega)
    refine lv_iload_n hx hb dX3_correct_14 rfl (lv_at hl 2 rfl) ?_
    refine lv_iload_n hx hb dX3_correct_15 rfl (lv_at hl 3 rfl) ?_
    refine vp_callSi (va_Run.run (xrS hF (c_X3_isEntry l g k ((z)) (by omega)) cal_X3_isEntry q_71 ⟨by decide, by decide⟩ rfl rfl rfl (hZ.at hS hAB) (trivial) hl.1 rfl (Nat.le_of_ble_eq_true rfl) dX3_correct_16 ⟨Nat.le_refl _, Nat.le_refl _⟩)) (fun r_ h_ => ?_)
    subst h_
    refine xZ_ne (tgt := 25) hx hb dX3_correct_19 (by decide) (fun c_19 => ?_) (fun c_19 => ?_)
    · have hxe := entB_iff.mp c_19
      refine lv_aload_n hx hb dX3_correct_25 rfl (lv_at hl 0 rfl) ?_
      refine gf_X3_X3_log hF hP 0 rfl rfl dX3_correct_26 ?_
      refine lv_iload_n hx hb dX3_correct_29 rfl (lv_at hl 1 rfl) ?_
      refine lv_iload_n hx hb dX3_correct_30 rfl (lv_at hl 2 rfl) ?_
      refine vp_callSi (va_Run.run (xrVN hF (c_X1_entriesOf l g ao ae ac au fe fc fs w hW hR r k (by omega) (by omega)) cal_X1_entriesOf n_19 ⟨by decide, by decide⟩ rfl rfl rfl (va_recv hF.2.1 hP (ci := 1) (q0 := 7) rfl rfl) (hZ.at hS hAB) (hP.sub [7, 8, 9, 10] rfl) hl.1 rfl (Nat.le_of_ble_eq_true rfl) dX3_correct_31 ⟨Nat.le_refl _, Nat.le_refl _⟩)) (fun r_ h_ => ?_)
      subst h_
      refine xN_const hx hb 4 dX3_correct_34 (by decide) ?_
      refine xC_lt (tgt := 41) hx hb (by omega) (by omega) dX3_correct_35 (by decide) (fun c_35 => ?_) (fun c_35 => ?_)
      · refine lv_aload_n hx hb dX3_correct_41 rfl (lv_at hl 0 rfl) ?_
        refine gf_X3_X3_log hF hP 0 rfl rfl dX3_correct_42 ?_
        refine lv_iload_n hx hb dX3_correct_45 rfl (lv_at hl 1 rfl) ?_
        refine lv_iload_n hx hb dX3_correct_46 rfl (lv_at hl 2 rfl) ?_
        refine vp_callSi (va_Run.run (xrVN hF (c_X1_latestOf l g ao ae ac au fe fc fs w hW hR r k (by omega) (by omega)) cal_X1_latestOf n_21 ⟨by decide, by decide⟩ rfl rfl rfl (va_recv hF.2.1 hP (ci := 1) (q0 := 7) rfl rfl) (hZ.at hS hAB) (hP.sub [7, 8, 9, 10] rfl) hl.1 rfl (Nat.le_of_ble_eq_true rfl) dX3_correct_47 ⟨Nat.le_refl _, Nat.le_refl _⟩)) (fun r_ h_ => ?_)
        subst h_
        refine lv_iload_n hx hb dX3_correct_50 rfl (lv_at hl 3 rfl) ?_
        refine lv_icmp_ne (tgt := 57) hx hb dX3_correct_51 (by decide) (fun c_51 => ?_) (fun c_51 => ?_)
        · refine lv_aload_n hx hb dX3_correct_57 rfl (lv_at hl 0 rfl) ?_
          refine gf_X3_X3_log hF hP 0 rfl rfl dX3_correct_58 ?_
          refine lv_iload_n hx hb dX3_correct_61 rfl (lv_at hl 1 rfl) ?_
          refine lv_iload_n hx hb dX3_correct_62 rfl (lv_at hl 2 rfl) ?_
          refine lv_iload_n hx hb dX3_correct_63 rfl (lv_at hl 3 rfl) ?_
          refine vp_callSi (va_Run.run (xrVN hF (c_X1_changedBy l g ao ae ac au fe fc fs w hW hR r k (by omega) (by omega) ((z))) cal_X1_changedBy n_22 ⟨by decide, by decide⟩ rfl rfl rfl (va_recv hF.2.1 hP (ci := 1) (q0 := 7) rfl rfl) (hZ.at hS hAB) (hP.sub [7, 8, 9, 10] rfl) hl.1 rfl (Nat.le_of_ble_eq_true rfl) dX3_correct_64 ⟨Nat.le_refl _, Nat.le_refl _⟩)) (fun r_ h_ => ?_)
          subst h_
          refine lv_istore (lv' := [(4, .int (nI (chg w r k ((z))))), (0, .ref dd), (1, .int (nI r)), (2, .int (nI k)), (3, .int (z))]) hx hb dX3_correct_67 hl (by decide) rfl (fun ls hl => ?_)
          refine lv_aload_n hx hb dX3_correct_69 rfl (lv_at hl 1 rfl) ?_
          refine gf_X3_X3_history hF hP 0 rfl rfl dX3_correct_70 ?_
          refine lv_aload_n hx hb dX3_correct_73 rfl (lv_at hl 1 rfl) ?_
          refine gf_X3_X3_log hF hP 0 rfl rfl dX3_correct_74 ?_
          refine xcv (xrVN hF (c_X0_remember l g ho ha zo zh so se sc su yn yg yt yw ao ae ac au sl he hc hs fe fc fs w hW hR (by omega) (by omega) (hD.self2 [1, 2, 3, 4, 5, 6, 7, 8, 9, 10] (by decide) rfl) (xin_AB hAB [1, 2, 3, 4, 5, 6, 7, 8, 9, 10] rfl) hsl) cal_X0_remember n_7 ⟨by decide, by decide⟩ rfl rfl rfl (va_recv hF.2.1 hP (ci := 0) (q0 := 1) rfl rfl) (hZ.at hS hAB) (hP.sub [1, 2, 3, 4, 5, 6, 7, 8, 9, 10] rfl) hl.1 rfl (Nat.le_of_ble_eq_true rfl) dX3_correct_77 ⟨Nat.le_refl _, Nat.le_refl _⟩) hS (xin_sub [1, 2, 3, 4, 5, 6, 7, 8, 9, 10] rfl) (xin_sub [1, 2, 3, 4, 5, 6, 7, 8, 9, 10] rfl) (fun H locs hq_ hz_ hk_ hS => ?_)
          obtain ⟨he2, hc2, hs2, hR2, hw_⟩ := hq_
          have hP : va_P g.1 vwCl [(dd, .inr (3, [.ref ao, .ref bo, .int (xz (zk)), .ref ho, .ref xo, .ref ta])), (ho, .inr (0, [.ref ha, .int (nI (oldN zo zh)), .int (nI (recS zh + 1))])), (ha, .inl (g.2.1 2, 4, .inr (.inr (.inr (.inr (sl)))))), (so, .inr (1, [.ref se, .ref sc, .ref su, .int (nI (nr w)), .int (nI (pgN w)), .int (nI (stN w)), .int (nI (wrN w))])), (se, .inl (g.2.1 0, 768, .inl (he2))), (sc, .inl (g.2.1 0, 192, .inl (hc2))), (su, .inl (g.2.1 0, 24, .inl (hs2))), (ao, .inr (1, [.ref ae, .ref ac, .ref au, .int (nI (nr w)), .int (nI (pgN w)), .int (nI (stN w)), .int (nI (wrN w))])), (ae, .inl (g.2.1 0, 768, .inl (fe))), (ac, .inl (g.2.1 0, 192, .inl (fc))), (au, .inl (g.2.1 0, 24, .inl (fs)))] H := xjoin hP hD hw_ hk_ [1, 2, 3, 4, 5, 6, 7, 8, 9, 10] [(false, 0), (true, 0), (true, 1), (true, 2), (true, 3), (true, 4), (true, 5), (true, 6), (true, 7), (true, 8), (true, 9)] rfl rfl rfl
          have hD : va_D (xin [dd, ho, ha, so, se, sc, su, ao, ae, ac, au]) [(dd, .inr (3, [.ref ao, .ref bo, .int (xz (zk)), .ref ho, .ref xo, .ref ta])), (ho, .inr (0, [.ref ha, .int (nI (oldN zo zh)), .int (nI (recS zh + 1))])), (ha, .inl (g.2.1 2, 4, .inr (.inr (.inr (.inr (sl)))))), (so, .inr (1, [.ref se, .ref sc, .ref su, .int (nI (nr w)), .int (nI (pgN w)), .int (nI (stN w)), .int (nI (wrN w))])), (se, .inl (g.2.1 0, 768, .inl (he2))), (sc, .inl (g.2.1 0, 192, .inl (hc2))), (su, .inl (g.2.1 0, 24, .inl (hs2))), (ao, .inr (1, [.ref ae, .ref ac, .ref au, .int (nI (nr w)), .int (nI (pgN w)), .int (nI (stN w)), .int (nI (wrN w))])), (ae, .inl (g.2.1 0, 768, .inl (fe))), (ac, .inl (g.2.1 0, 192, .inl (fc))), (au, .inl (g.2.1 0, 24, .inl (fs)))] := va_D_eqL [dd, ho, ha, so, se, sc, su, ao, ae, ac, au] rfl rfl hD
          refine lv_aload_n hx hb dX3_correct_80 rfl (lv_at hl 1 rfl) ?_
          refine gf_X3_X3_log hF hP 0 rfl rfl dX3_correct_81 ?_
          refine lv_iload_n hx hb dX3_correct_84 rfl (lv_at hl 2 rfl) ?_
          refine lv_iload_n hx hb dX3_correct_85 rfl (lv_at hl 3 rfl) ?_
          refine lv_iload_n hx hb dX3_correct_86 rfl (lv_at hl 4 rfl) ?_
          refine xcv (xrVN hF (c_X1_pushEntry l g ao ae ac au (nr w) (pgN w) (stN w) (wrN w) fe fc fs (hD.self2 [7, 8, 9, 10] (by decide) rfl) (xin_AB hAB [7, 8, 9, 10] rfl) r k ((z)) (cnt w (4 * r + k)) (by omega) (by omega) (by omega) (by rw [show r * 4 + k = 4 * r + k by omega]; exact hR.c hW (by omega))) cal_X1_pushEntry n_23 ⟨by decide, by decide⟩ rfl rfl rfl (va_recv hF.2.1 hP (ci := 1) (q0 := 7) rfl rfl) (hZ.at hS hAB) (hP.sub [7, 8, 9, 10] rfl) hl.1 rfl (Nat.le_of_ble_eq_true rfl) dX3_correct_87 ⟨Nat.le_refl _, Nat.le_refl _⟩) hS (xin_sub [7, 8, 9, 10] rfl) (xin_sub [7, 8, 9, 10] rfl) (fun H locs hq_ hz_ hk_ hS => ?_)
          have hw_ := hq_
          have hP : va_P g.1 vwCl [(dd, .inr (3, [.ref ao, .ref bo, .int (xz (zk)), .ref ho, .ref xo, .ref ta])), (ho, .inr (0, [.ref ha, .int (nI (oldN zo zh)), .int (nI (recS zh + 1))])), (ha, .inl (g.2.1 2, 4, .inr (.inr (.inr (.inr (sl)))))), (so, .inr (1, [.ref se, .ref sc, .ref su, .int (nI (nr w)), .int (nI (pgN w)), .int (nI (stN w)), .int (nI (wrN w))])), (se, .inl (g.2.1 0, 768, .inl (he2))), (sc, .inl (g.2.1 0, 192, .inl (hc2))), (su, .inl (g.2.1 0, 24, .inl (hs2))), (ao, .inr (1, [.ref ae, .ref ac, .ref au, .int (nI (nr w)), .int (nI (pgN w)), .int (nI (stN w)), .int (nI (wrN w))])), (ae, .inl (g.2.1 0, 768, .inl (upd fe ((r * 4 + k) * 4 + ((cnt w (4 * r + k)))) ((z))))), (ac, .inl (g.2.1 0, 192, .inl (upd fc (r * 4 + k) (nI ((cnt w (4 * r + k)) + 1))))), (au, .inl (g.2.1 0, 24, .inl (fs)))] H := xjoin hP hD hw_ hk_ [7, 8, 9, 10] [(false, 0), (false, 1), (false, 2), (false, 3), (false, 4), (false, 5), (false, 6), (true, 0), (true, 1), (true, 2), (true, 3)] rfl rfl rfl
          have hD : va_D (xin [dd, ho, ha, so, se, sc, su, ao, ae, ac, au]) [(dd, .inr (3, [.ref ao, .ref bo, .int (xz (zk)), .ref ho, .ref xo, .ref ta])), (ho, .inr (0, [.ref ha, .int (nI (oldN zo zh)), .int (nI (recS zh + 1))])), (ha, .inl (g.2.1 2, 4, .inr (.inr (.inr (.inr (sl)))))), (so, .inr (1, [.ref se, .ref sc, .ref su, .int (nI (nr w)), .int (nI (pgN w)), .int (nI (stN w)), .int (nI (wrN w))])), (se, .inl (g.2.1 0, 768, .inl (he2))), (sc, .inl (g.2.1 0, 192, .inl (hc2))), (su, .inl (g.2.1 0, 24, .inl (hs2))), (ao, .inr (1, [.ref ae, .ref ac, .ref au, .int (nI (nr w)), .int (nI (pgN w)), .int (nI (stN w)), .int (nI (wrN w))])), (ae, .inl (g.2.1 0, 768, .inl (upd fe ((r * 4 + k) * 4 + ((cnt w (4 * r + k)))) ((z))))), (ac, .inl (g.2.1 0, 192, .inl (upd fc (r * 4 + k) (nI ((cnt w (4 * r + k)) + 1))))), (au, .inl (g.2.1 0, 24, .inl (fs)))] := va_D_eqL [dd, ho, ha, so, se, sc, su, ao, ae, ac, au] rfl rfl hD
          have hw3 : va_P g.1 vwCl ([(dd, .inr (3, [.ref ao, .ref bo, .int (xz zk), .ref ho, .ref xo, .ref ta])), (ho, .inr (0, [.ref ha, .int (nI (oldN zo zh)), .int (nI (recS zh + 1))])), (ha, .inl (g.2.1 2, 4, .inr (.inr (.inr (.inr sl))))), (so, .inr (1, [.ref se, .ref sc, .ref su, .int (nI (nr w)), .int (nI (pgN w)), .int (nI (stN w)), .int (nI (wrN w))])), (se, .inl (g.2.1 0, 768, .inl he2)), (sc, .inl (g.2.1 0, 192, .inl hc2)), (su, .inl (g.2.1 0, 24, .inl hs2))] ++ LogC g ao ae ac au (upd fe ((r * 4 + k) * 4 + cnt w (4 * r + k)) z) (upd fc (r * 4 + k) (nI (cnt w (4 * r + k) + 1))) fs (corW w r k z)) H := xlog7 (X := [(dd, .inr (3, [.ref ao, .ref bo, .int (xz zk), .ref ho, .ref xo, .ref ta])), (ho, .inr (0, [.ref ha, .int (nI (oldN zo zh)), .int (nI (recS zh + 1))])), (ha, .inl (g.2.1 2, 4, .inr (.inr (.inr (.inr sl))))), (so, .inr (1, [.ref se, .ref sc, .ref su, .int (nI (nr w)), .int (nI (pgN w)), .int (nI (stN w)), .int (nI (wrN w))])), (se, .inl (g.2.1 0, 768, .inl he2)), (sc, .inl (g.2.1 0, 192, .inl hc2)), (su, .inl (g.2.1 0, 24, .inl hs2))]) (w := w) hP (nr_of (by unfold corW; rw [upd_off (by omega), upd_off (by omega)])) (pgN_of (by unfold corW; rw [upd_off (by omega), upd_off (by omega)])) (stN_of (by unfold corW; rw [upd_off (by omega), upd_off (by omega)])) (wrN_of (by unfold corW; rw [upd_off (by omega), upd_off (by omega)]))
          refine lv_iload hx hb dX3_correct_90 (lv_at hl 0 rfl) ?_
          exact xend_i (V := nI (chg w r k ((z)))) hF hret hlocks hS (⟨by unfold corA2; rw [if_pos c_9, ek, if_pos c_19, er, if_neg (by omega), if_neg c_51], fun h => absurd h (by rw [show (corB w (nI r) (nI k) z) = true from (by rw [Bool.and_eq_true] at *; simp [corB, q1, q2, ek, c_19, er, c_51]; omega)]; decide), fun _ => ⟨_, _, _, _, _, _, hR2, by rw [er, ek]; exact LR.cor hW hR hk hr c_35, by rw [er, ek]; exact hw3⟩⟩) dX3_correct_92
        · refine lv_bipush hx hb (v := (-5)) dX3_correct_54 (by decide) ?_
          exact xend_i (V := (-5)) hF hret hlocks hS (⟨by unfold corA2; rw [if_pos c_9, ek, if_pos c_19, er, if_neg (by omega), if_pos c_51], fun _ => hP, fun h => absurd h (by rw [show (corB w (nI r) (nI k) z) = false from (by simp [corB, c_9, ek, c_19, er, c_51])]; decide)⟩) dX3_correct_56
      · refine lv_bipush hx hb (v := (-3)) dX3_correct_38 (by decide) ?_
        exact xend_i (V := (-3)) hF hret hlocks hS (⟨by unfold corA2; rw [if_pos c_9, ek, if_pos c_19, er, if_pos (show cnt w (4 * r + k) = 4 by omega)], fun _ => hP, fun h => absurd h (by rw [show (corB w (nI r) (nI k) z) = false from (by simp [corB, c_9, ek, c_19, er, show cnt w (4 * r + k) = 4 by omega])]; decide)⟩) dX3_correct_40
    · refine lv_bipush hx hb (v := (-2)) dX3_correct_22 (by decide) ?_
      exact xend_i (V := (-2)) hF hret hlocks hS (⟨by unfold corA2; rw [if_pos c_9, ek, c_19]; rfl, fun _ => hP, fun h => absurd h (by rw [show (corB w (nI r) (nI k) z) = false from (by simp [corB, c_9, ek, c_19])]; decide)⟩) dX3_correct_24
  · refine lv_iconst hx hb (v := (-1)) dX3_correct_12 (by decide) ?_
    exact xend_i (V := (-1)) hF hret hlocks hS (⟨by unfold corA2; rw [c_9]; rfl, fun _ => hP, fun h => absurd h (by rw [show (corB w x y z) = false from (by simp [corB, c_9])]; decide)⟩) dX3_correct_13
set_option maxHeartbeats 4000000 in
set_option maxRecDepth 100000 in
theorem c_X3_takeBack (l : Launch) (g : XG) (dd bo xo ta : Nat) (zk : Bool) (ho ha zo zh so se sc su yn yg yt yw ao ae ac au : Nat) (sl : Nat → Option Nat) (he hc hs fe fc fs w : Nat → Int32) (hW : WF w) (hR : LR fe fc fs w) (hzo : zo < 4) (hz4 : zh ≤ 4) (hD : va_D (xin [dd, ho, ha, so, se, sc, su, ao, ae, ac, au]) ((dd, .inr (3, [.ref ao, .ref bo, .int (xz zk), .ref ho, .ref xo, .ref ta])) :: ((ho, .inr (0, [.ref ha, .int (nI zo), .int (nI zh)])) :: (ha, .inl (g.2.1 2, 4, .inr (.inr (.inr (.inr sl))))) :: (LogX g so se sc su he hc hs yn yg yt yw ++ LogC g ao ae ac au fe fc fs w)))) (hAB : ∀ q, xin [dd, ho, ha, so, se, sc, su, ao, ae, ac, au] q → xB g q) (hsl : sl ((zo + zh) % 4) = some so) (x y : Int32) : Met l yX3_takeBack (ww yX3_takeBack cX3_takeBack 5 (some .int)) (rmD 6) (xP g [.ref dd, .int (x), .int (y)] (fun H => va_P g.1 vwCl ((dd, .inr (3, [.ref ao, .ref bo, .int (xz zk), .ref ho, .ref xo, .ref ta])) :: ((ho, .inr (0, [.ref ha, .int (nI zo), .int (nI zh)])) :: (ha, .inl (g.2.1 2, 4, .inr (.inr (.inr (.inr sl))))) :: (LogX g so se sc su he hc hs yn yg yt yw ++ LogC g ao ae ac au fe fc fs w))) H)) (xQi (fun r9 H => r9 = tkbA2 w x y ∧ (tkbB w x y = false → va_P g.1 vwCl ((dd, .inr (3, [.ref ao, .ref bo, .int (xz zk), .ref ho, .ref xo, .ref ta])) :: ((ho, .inr (0, [.ref ha, .int (nI zo), .int (nI zh)])) :: (ha, .inl (g.2.1 2, 4, .inr (.inr (.inr (.inr sl))))) :: (LogX g so se sc su he hc hs yn yg yt yw ++ LogC g ao ae ac au fe fc fs w))) H) ∧ (tkbB w x y = true → ∃ he2 hc2 hs2 fe2 fc2 fs2 : Nat → Int32, LR he2 hc2 hs2 w ∧ LR fe2 fc2 fs2 (tkbW w x.toNatClampNeg y.toNatClampNeg) ∧ va_P g.1 vwCl ((dd, .inr (3, [.ref ao, .ref bo, .int (xz zk), .ref ho, .ref xo, .ref ta])) :: ((ho, .inr (0, [.ref ha, .int (nI (oldN zo zh)), .int (nI (recS zh + 1))])) :: (ha, .inl (g.2.1 2, 4, .inr (.inr (.inr (.inr sl))))) :: (LogC g so se sc su he2 hc2 hs2 w ++ LogC g ao ae ac au fe2 fc2 fs2 (tkbW w x.toNatClampNeg y.toNatClampNeg)))) H)) (xin [dd, ho, ha, so, se, sc, su, ao, ae, ac, au])) 0 0 (xin [dd, ho, ha, so, se, sc, su, ao, ae, ac, au]) := by
  refine xMetM (by decide) rfl (Nat.le_of_ble_eq_true rfl) ?_
  intro p e s m below meth c ls H locs hF hZ hh hS hret hlocks hin hl
  have hx := hF.1.1
  have hb := hF.1.2.1
  have hP := hh
  have hP : va_P g.1 vwCl ((dd, .inr (3, [.ref ao, .ref bo, .int (xz zk), .ref ho, .ref xo, .ref ta])) :: ((ho, .inr (0, [.ref ha, .int (nI zo), .int (nI zh)])) :: (ha, .inl (g.2.1 2, 4, .inr (.inr (.inr (.inr sl))))) :: (LogX g so se sc su he hc hs yn yg yt yw ++ LogC g ao ae ac au fe fc fs w))) H := hP
  have hl : lv_has ls 5 [(0, .ref dd), (1, .int (x)), (2, .int (y))] := hl
  have h48 := hW.n48
  have hp4 := hW.pg4
  have hp12 := hW.pg12
  have hs1 := hW.st1
  have hw2 := hW.wr2
  have hw6 := hW.wr6
  refine lv_aload_n hx hb dX3_takeBack_0 rfl (lv_at hl 0 rfl) ?_
  refine gf_X3_X3_log hF hP 0 rfl rfl dX3_takeBack_1 ?_
  refine lv_iload_n hx hb dX3_takeBack_4 rfl (lv_at hl 1 rfl) ?_
  refine lv_iload_n hx hb dX3_takeBack_5 rfl (lv_at hl 2 rfl) ?_
  refine vp_callSi (va_Run.run (xrVN hF (c_X1_isCell l g ao ae ac au fe fc fs w hW hR ((x)) ((y)) ) cal_X1_isCell n_17 ⟨by decide, by decide⟩ rfl rfl rfl (va_recv hF.2.1 hP (ci := 1) (q0 := 7) rfl rfl) (hZ.at hS hAB) (hP.sub [7, 8, 9, 10] rfl) hl.1 rfl (Nat.le_of_ble_eq_true rfl) dX3_takeBack_6 ⟨Nat.le_refl _, Nat.le_refl _⟩)) (fun r_ h_ => ?_)
  subst h_
  refine xZ_ne (tgt := 14) hx hb dX3_takeBack_9 (by decide) (fun c_9 => ?_) (fun c_9 => ?_)
  · obtain ⟨q1, q2⟩ := Bool.and_eq_true_iff.mp c_9
    obtain ⟨r, hr, rfl⟩ := (rowB_iff hW).mp q1
    obtain ⟨k, hk, rfl⟩ := colB_iff.mp q2
    have er : (nI r).toNatClampNeg = r := nI_clamp (by omega)
    have ek : (nI k).toNatClampNeg = k := nI_clamp (by omega)
    have hc4 := hW.c4 (i := 4 * r + k) (by omega)
    have hc1 := hW.c1 (i := 4 * r + k) (by omega)
    refine lv_aload_n hx hb dX3_takeBack_14 rfl (lv_at hl 0 rfl) ?_
    refine gf_X3_X3_log hF hP 0 rfl rfl dX3_takeBack_15 ?_
    refine lv_iload_n hx hb dX3_takeBack_18 rfl (lv_at hl 1 rfl) ?_
    refine lv_iload_n hx hb dX3_takeBack_19 rfl (lv_at hl 2 rfl) ?_
    refine vp_callSi (va_Run.run (xrVN hF (c_X1_entriesOf l g ao ae ac au fe fc fs w hW hR r k (by omega) (by omega)) cal_X1_entriesOf n_19 ⟨by decide, by decide⟩ rfl rfl rfl (va_recv hF.2.1 hP (ci := 1) (q0 := 7) rfl rfl) (hZ.at hS hAB) (hP.sub [7, 8, 9, 10] rfl) hl.1 rfl (Nat.le_of_ble_eq_true rfl) dX3_takeBack_20 ⟨Nat.le_refl _, Nat.le_refl _⟩)) (fun r_ h_ => ?_)
    subst h_
    refine lv_istore_n (lv' := [(3, .int (nI (cnt w (4 * r + k)))), (0, .ref dd), (1, .int (nI r)), (2, .int (nI k))]) hx hb dX3_takeBack_23 rfl hl (by decide) rfl (fun ls hl => ?_)
    refine lv_iload_n hx hb dX3_takeBack_24 rfl (lv_at hl 0 rfl) ?_
    refine xN_const hx hb 1 dX3_takeBack_25 (by decide) ?_
    refine xC_gt (tgt := 32) hx hb (by omega) (by omega) dX3_takeBack_26 (by decide) (fun c_26 => ?_) (fun c_26 => ?_)
    · refine lv_aload_n hx hb dX3_takeBack_32 rfl (lv_at hl 1 rfl) ?_
      refine gf_X3_X3_log hF hP 0 rfl rfl dX3_takeBack_33 ?_
      refine lv_iload_n hx hb dX3_takeBack_36 rfl (lv_at hl 2 rfl) ?_
      refine lv_iload_n hx hb dX3_takeBack_37 rfl (lv_at hl 3 rfl) ?_
      refine lv_aload_n hx hb dX3_takeBack_38 rfl (lv_at hl 1 rfl) ?_
      refine gf_X3_X3_log hF hP 0 rfl rfl dX3_takeBack_39 ?_
      refine lv_iload_n hx hb dX3_takeBack_42 rfl (lv_at hl 2 rfl) ?_
      refine lv_iload_n hx hb dX3_takeBack_43 rfl (lv_at hl 3 rfl) ?_
      refine lv_iload_n hx hb dX3_takeBack_44 rfl (lv_at hl 0 rfl) ?_
      refine xN_const hx hb 2 dX3_takeBack_45 (by decide) ?_
      refine xN_sub hx hb (by omega) dX3_takeBack_46 ?_
      refine vp_callSi (va_Run.run (xrVN hF (c_X1_entryOf l g ao ae ac au fe fc fs w hW hR r k (by omega) (by omega) (((cnt w (4 * r + k)) - 2)) (by omega)) cal_X1_entryOf n_24 ⟨by decide, by decide⟩ rfl rfl rfl (va_recv hF.2.1 hP (ci := 1) (q0 := 7) rfl rfl) (hZ.at hS hAB) (hP.sub [7, 8, 9, 10] rfl) hl.1 rfl (Nat.le_of_ble_eq_true rfl) dX3_takeBack_47 ⟨Nat.le_refl _, Nat.le_refl _⟩)) (fun r_ h_ => ?_)
      subst h_
      refine vp_callSi (va_Run.run (xrVN hF (c_X1_changedBy l g ao ae ac au fe fc fs w hW hR r k (by omega) (by omega) ((w (29 + 5 * (4 * r + k) + ((cnt w (4 * r + k)) - 2))))) cal_X1_changedBy n_22 ⟨by decide, by decide⟩ rfl rfl rfl (va_recv hF.2.1 hP (ci := 1) (q0 := 7) rfl rfl) (hZ.at hS hAB) (hP.sub [7, 8, 9, 10] rfl) hl.1 rfl (Nat.le_of_ble_eq_true rfl) dX3_takeBack_50 ⟨Nat.le_refl _, Nat.le_refl _⟩)) (fun r_ h_ => ?_)
      subst h_
      refine lv_istore (lv' := [(4, .int (nI (chg w r k ((w (29 + 5 * (4 * r + k) + ((cnt w (4 * r + k)) - 2))))))), (3, .int (nI (cnt w (4 * r + k)))), (0, .ref dd), (1, .int (nI r)), (2, .int (nI k))]) hx hb dX3_takeBack_53 hl (by decide) rfl (fun ls hl => ?_)
      refine lv_aload_n hx hb dX3_takeBack_55 rfl (lv_at hl 2 rfl) ?_
      refine gf_X3_X3_history hF hP 0 rfl rfl dX3_takeBack_56 ?_
      refine lv_aload_n hx hb dX3_takeBack_59 rfl (lv_at hl 2 rfl) ?_
      refine gf_X3_X3_log hF hP 0 rfl rfl dX3_takeBack_60 ?_
      refine xcv (xrVN hF (c_X0_remember l g ho ha zo zh so se sc su yn yg yt yw ao ae ac au sl he hc hs fe fc fs w hW hR (by omega) (by omega) (hD.self2 [1, 2, 3, 4, 5, 6, 7, 8, 9, 10] (by decide) rfl) (xin_AB hAB [1, 2, 3, 4, 5, 6, 7, 8, 9, 10] rfl) hsl) cal_X0_remember n_7 ⟨by decide, by decide⟩ rfl rfl rfl (va_recv hF.2.1 hP (ci := 0) (q0 := 1) rfl rfl) (hZ.at hS hAB) (hP.sub [1, 2, 3, 4, 5, 6, 7, 8, 9, 10] rfl) hl.1 rfl (Nat.le_of_ble_eq_true rfl) dX3_takeBack_63 ⟨Nat.le_refl _, Nat.le_refl _⟩) hS (xin_sub [1, 2, 3, 4, 5, 6, 7, 8, 9, 10] rfl) (xin_sub [1, 2, 3, 4, 5, 6, 7, 8, 9, 10] rfl) (fun H locs hq_ hz_ hk_ hS => ?_)
      obtain ⟨he2, hc2, hs2, hR2, hw_⟩ := hq_
      have hP : va_P g.1 vwCl [(dd, .inr (3, [.ref ao, .ref bo, .int (xz (zk)), .ref ho, .ref xo, .ref ta])), (ho, .inr (0, [.ref ha, .int (nI (oldN zo zh)), .int (nI (recS zh + 1))])), (ha, .inl (g.2.1 2, 4, .inr (.inr (.inr (.inr (sl)))))), (so, .inr (1, [.ref se, .ref sc, .ref su, .int (nI (nr w)), .int (nI (pgN w)), .int (nI (stN w)), .int (nI (wrN w))])), (se, .inl (g.2.1 0, 768, .inl (he2))), (sc, .inl (g.2.1 0, 192, .inl (hc2))), (su, .inl (g.2.1 0, 24, .inl (hs2))), (ao, .inr (1, [.ref ae, .ref ac, .ref au, .int (nI (nr w)), .int (nI (pgN w)), .int (nI (stN w)), .int (nI (wrN w))])), (ae, .inl (g.2.1 0, 768, .inl (fe))), (ac, .inl (g.2.1 0, 192, .inl (fc))), (au, .inl (g.2.1 0, 24, .inl (fs)))] H := xjoin hP hD hw_ hk_ [1, 2, 3, 4, 5, 6, 7, 8, 9, 10] [(false, 0), (true, 0), (true, 1), (true, 2), (true, 3), (true, 4), (true, 5), (true, 6), (true, 7), (true, 8), (true, 9)] rfl rfl rfl
      have hD : va_D (xin [dd, ho, ha, so, se, sc, su, ao, ae, ac, au]) [(dd, .inr (3, [.ref ao, .ref bo, .int (xz (zk)), .ref ho, .ref xo, .ref ta])), (ho, .inr (0, [.ref ha, .int (nI (oldN zo zh)), .int (nI (recS zh + 1))])), (ha, .inl (g.2.1 2, 4, .inr (.inr (.inr (.inr (sl)))))), (so, .inr (1, [.ref se, .ref sc, .ref su, .int (nI (nr w)), .int (nI (pgN w)), .int (nI (stN w)), .int (nI (wrN w))])), (se, .inl (g.2.1 0, 768, .inl (he2))), (sc, .inl (g.2.1 0, 192, .inl (hc2))), (su, .inl (g.2.1 0, 24, .inl (hs2))), (ao, .inr (1, [.ref ae, .ref ac, .ref au, .int (nI (nr w)), .int (nI (pgN w)), .int (nI (stN w)), .int (nI (wrN w))])), (ae, .inl (g.2.1 0, 768, .inl (fe))), (ac, .inl (g.2.1 0, 192, .inl (fc))), (au, .inl (g.2.1 0, 24, .inl (fs)))] := va_D_eqL [dd, ho, ha, so, se, sc, su, ao, ae, ac, au] rfl rfl hD
      refine lv_aload_n hx hb dX3_takeBack_66 rfl (lv_at hl 2 rfl) ?_
      refine gf_X3_X3_log hF hP 0 rfl rfl dX3_takeBack_67 ?_
      refine lv_iload_n hx hb dX3_takeBack_70 rfl (lv_at hl 3 rfl) ?_
      refine lv_iload_n hx hb dX3_takeBack_71 rfl (lv_at hl 4 rfl) ?_
      refine xcv (xrVN hF (c_X1_popEntry l g ao ae ac au fe fc fs w (hD.self2 [7, 8, 9, 10] (by decide) rfl) (xin_AB hAB [7, 8, 9, 10] rfl) hW hR r k (by omega) (by omega)) cal_X1_popEntry n_25 ⟨by decide, by decide⟩ rfl rfl rfl (va_recv hF.2.1 hP (ci := 1) (q0 := 7) rfl rfl) (hZ.at hS hAB) (hP.sub [7, 8, 9, 10] rfl) hl.1 rfl (Nat.le_of_ble_eq_true rfl) dX3_takeBack_72 ⟨Nat.le_refl _, Nat.le_refl _⟩) hS (xin_sub [7, 8, 9, 10] rfl) (xin_sub [7, 8, 9, 10] rfl) (fun H locs hq_ hz_ hk_ hS => ?_)
      have hw_ := hq_
      have hP : va_P g.1 vwCl [(dd, .inr (3, [.ref ao, .ref bo, .int (xz (zk)), .ref ho, .ref xo, .ref ta])), (ho, .inr (0, [.ref ha, .int (nI (oldN zo zh)), .int (nI (recS zh + 1))])), (ha, .inl (g.2.1 2, 4, .inr (.inr (.inr (.inr (sl)))))), (so, .inr (1, [.ref se, .ref sc, .ref su, .int (nI (nr w)), .int (nI (pgN w)), .int (nI (stN w)), .int (nI (wrN w))])), (se, .inl (g.2.1 0, 768, .inl (he2))), (sc, .inl (g.2.1 0, 192, .inl (hc2))), (su, .inl (g.2.1 0, 24, .inl (hs2))), (ao, .inr (1, [.ref ae, .ref ac, .ref au, .int (nI (nr (tkbW w r k))), .int (nI (pgN (tkbW w r k))), .int (nI (stN (tkbW w r k))), .int (nI (wrN (tkbW w r k)))])), (ae, .inl (g.2.1 0, 768, .inl (fe))), (ac, .inl (g.2.1 0, 192, .inl (upd fc (r * 4 + k) (nI (cnt w (4 * r + k) - 1))))), (au, .inl (g.2.1 0, 24, .inl (fs)))] H := xjoin hP hD hw_ hk_ [7, 8, 9, 10] [(false, 0), (false, 1), (false, 2), (false, 3), (false, 4), (false, 5), (false, 6), (true, 0), (true, 1), (true, 2), (true, 3)] rfl rfl rfl
      have hD : va_D (xin [dd, ho, ha, so, se, sc, su, ao, ae, ac, au]) [(dd, .inr (3, [.ref ao, .ref bo, .int (xz (zk)), .ref ho, .ref xo, .ref ta])), (ho, .inr (0, [.ref ha, .int (nI (oldN zo zh)), .int (nI (recS zh + 1))])), (ha, .inl (g.2.1 2, 4, .inr (.inr (.inr (.inr (sl)))))), (so, .inr (1, [.ref se, .ref sc, .ref su, .int (nI (nr w)), .int (nI (pgN w)), .int (nI (stN w)), .int (nI (wrN w))])), (se, .inl (g.2.1 0, 768, .inl (he2))), (sc, .inl (g.2.1 0, 192, .inl (hc2))), (su, .inl (g.2.1 0, 24, .inl (hs2))), (ao, .inr (1, [.ref ae, .ref ac, .ref au, .int (nI (nr (tkbW w r k))), .int (nI (pgN (tkbW w r k))), .int (nI (stN (tkbW w r k))), .int (nI (wrN (tkbW w r k)))])), (ae, .inl (g.2.1 0, 768, .inl (fe))), (ac, .inl (g.2.1 0, 192, .inl (upd fc (r * 4 + k) (nI (cnt w (4 * r + k) - 1))))), (au, .inl (g.2.1 0, 24, .inl (fs)))] := va_D_eqL [dd, ho, ha, so, se, sc, su, ao, ae, ac, au] rfl rfl hD
      refine lv_iload hx hb dX3_takeBack_75 (lv_at hl 0 rfl) ?_
      exact xend_i (V := nI (chg w r k ((w (29 + 5 * (4 * r + k) + ((cnt w (4 * r + k)) - 2)))))) hF hret hlocks hS (⟨by unfold tkbA2; rw [if_pos c_9, er, ek, if_neg (by omega)], fun h => absurd h (by rw [show (tkbB w (nI r) (nI k)) = true from (by simp [tkbB, q1, q2, er, ek]; omega)]; decide), fun _ => ⟨_, _, _, _, _, _, hR2, by rw [er, ek]; exact LR.tkb hW hR hk hr, by rw [er, ek]; exact hP⟩⟩) dX3_takeBack_77
    · refine lv_bipush hx hb (v := (-4)) dX3_takeBack_29 (by decide) ?_
      exact xend_i (V := (-4)) hF hret hlocks hS (⟨by unfold tkbA2; rw [if_pos c_9, er, ek, if_pos (show cnt w (4 * r + k) = 1 by omega)], fun _ => hP, fun h => absurd h (by rw [show (tkbB w (nI r) (nI k)) = false from (by simp [tkbB, c_9, er, ek, show cnt w (4 * r + k) = 1 by omega])]; decide)⟩) dX3_takeBack_31
  · refine lv_iconst hx hb (v := (-1)) dX3_takeBack_12 (by decide) ?_
    exact xend_i (V := (-1)) hF hret hlocks hS (⟨by unfold tkbA2; rw [c_9]; rfl, fun _ => hP, fun h => absurd h (by rw [show (tkbB w x y) = false from (by simp [tkbB, c_9])]; decide)⟩) dX3_takeBack_13
set_option maxHeartbeats 4000000 in
set_option maxRecDepth 100000 in
theorem c_X3_claim (l : Launch) (g : XG) (dd bo xo ta : Nat) (zk : Bool) (ho ha zo zh so se sc su yn yg yt yw ao ae ac au : Nat) (sl : Nat → Option Nat) (he hc hs fe fc fs w : Nat → Int32) (hW : WF w) (hR : LR fe fc fs w) (hzo : zo < 4) (hz4 : zh ≤ 4) (hD : va_D (xin [dd, ho, ha, so, se, sc, su, ao, ae, ac, au]) ((dd, .inr (3, [.ref ao, .ref bo, .int (xz zk), .ref ho, .ref xo, .ref ta])) :: ((ho, .inr (0, [.ref ha, .int (nI zo), .int (nI zh)])) :: (ha, .inl (g.2.1 2, 4, .inr (.inr (.inr (.inr sl))))) :: (LogX g so se sc su he hc hs yn yg yt yw ++ LogC g ao ae ac au fe fc fs w)))) (hAB : ∀ q, xin [dd, ho, ha, so, se, sc, su, ao, ae, ac, au] q → xB g q) (hsl : sl ((zo + zh) % 4) = some so) (x y : Int32) : Met l yX3_claim (ww yX3_claim cX3_claim 4 (some .int)) (rmD 4) (xP g [.ref dd, .int (x), .int (y)] (fun H => va_P g.1 vwCl ((dd, .inr (3, [.ref ao, .ref bo, .int (xz zk), .ref ho, .ref xo, .ref ta])) :: ((ho, .inr (0, [.ref ha, .int (nI zo), .int (nI zh)])) :: (ha, .inl (g.2.1 2, 4, .inr (.inr (.inr (.inr sl))))) :: (LogX g so se sc su he hc hs yn yg yt yw ++ LogC g ao ae ac au fe fc fs w))) H)) (xQi (fun r9 H => r9 = clmA w x y ∧ (clmB w x y = false → va_P g.1 vwCl ((dd, .inr (3, [.ref ao, .ref bo, .int (xz zk), .ref ho, .ref xo, .ref ta])) :: ((ho, .inr (0, [.ref ha, .int (nI zo), .int (nI zh)])) :: (ha, .inl (g.2.1 2, 4, .inr (.inr (.inr (.inr sl))))) :: (LogX g so se sc su he hc hs yn yg yt yw ++ LogC g ao ae ac au fe fc fs w))) H) ∧ (clmB w x y = true → ∃ he2 hc2 hs2 fe2 fc2 fs2 : Nat → Int32, LR he2 hc2 hs2 w ∧ LR fe2 fc2 fs2 (clmW w x.toNatClampNeg y) ∧ va_P g.1 vwCl ((dd, .inr (3, [.ref ao, .ref bo, .int (xz zk), .ref ho, .ref xo, .ref ta])) :: ((ho, .inr (0, [.ref ha, .int (nI (oldN zo zh)), .int (nI (recS zh + 1))])) :: (ha, .inl (g.2.1 2, 4, .inr (.inr (.inr (.inr sl))))) :: (LogC g so se sc su he2 hc2 hs2 w ++ LogC g ao ae ac au fe2 fc2 fs2 (clmW w x.toNatClampNeg y)))) H)) (xin [dd, ho, ha, so, se, sc, su, ao, ae, ac, au])) 0 0 (xin [dd, ho, ha, so, se, sc, su, ao, ae, ac, au]) := by
  refine xMetM (by decide) rfl (Nat.le_of_ble_eq_true rfl) ?_
  intro p e s m below meth c ls H locs hF hZ hh hS hret hlocks hin hl
  have hx := hF.1.1
  have hb := hF.1.2.1
  have hP := hh
  have hP : va_P g.1 vwCl ((dd, .inr (3, [.ref ao, .ref bo, .int (xz zk), .ref ho, .ref xo, .ref ta])) :: ((ho, .inr (0, [.ref ha, .int (nI zo), .int (nI zh)])) :: (ha, .inl (g.2.1 2, 4, .inr (.inr (.inr (.inr sl))))) :: (LogX g so se sc su he hc hs yn yg yt yw ++ LogC g ao ae ac au fe fc fs w))) H := hP
  have hl : lv_has ls 4 [(0, .ref dd), (1, .int (x)), (2, .int (y))] := hl
  have h48 := hW.n48
  have hp4 := hW.pg4
  have hp12 := hW.pg12
  have hs1 := hW.st1
  have hw2 := hW.wr2
  have hw6 := hW.wr6
  refine lv_iload_n hx hb dX3_claim_0 rfl (lv_at hl 1 rfl) ?_
  refine lv_if_lt (tgt := 10) hx hb dX3_claim_1 (by decide) (fun c_1 => ?_) (fun c_1 => ?_)
  · refine lv_iconst hx hb (v := (-1)) dX3_claim_10 (by decide) ?_
    exact xend_i (V := (-1)) hF hret hlocks hS (⟨by unfold clmA; rw [wchB_f1 c_1]; rfl, fun _ => hP, fun h => absurd h (by rw [show (clmB w x y) = false from (by simp [clmB, wchB_f1 c_1])]; decide)⟩) dX3_claim_11
  · refine lv_iload_n hx hb dX3_claim_4 rfl (lv_at hl 1 rfl) ?_
    refine xN_bi hx hb 24 dX3_claim_5 (by decide) ?_
    refine lv_icmp_lt (tgt := 12) hx hb dX3_claim_7 (by decide) (fun c_7 => ?_) (fun c_7 => ?_)
    · have hwc := wchB_t c_1 c_7
      obtain ⟨t, ht, rfl⟩ := wchB_iff.mp hwc
      have et : (nI t).toNatClampNeg = t := nI_clamp (by omega)
      refine lv_iload_n hx hb dX3_claim_12 rfl (lv_at hl 2 rfl) ?_
      refine lv_bipush hx hb (v := (-5)) dX3_claim_13 (by decide) ?_
      refine lv_icmp_eq (tgt := 32) hx hb dX3_claim_15 (by decide) (fun c_15 => ?_) (fun c_15 => ?_)
      · have hsu := sumB_t1 c_15
        refine lv_aload_n hx hb dX3_claim_32 rfl (lv_at hl 0 rfl) ?_
        refine gf_X3_X3_log hF hP 0 rfl rfl dX3_claim_33 ?_
        refine lv_iload_n hx hb dX3_claim_36 rfl (lv_at hl 1 rfl) ?_
        refine vp_callSi (va_Run.run (xrVN hF (c_X1_sumOf l g ao ae ac au fe fc fs w hW hR t (by omega)) cal_X1_sumOf n_26 ⟨by decide, by decide⟩ rfl rfl rfl (va_recv hF.2.1 hP (ci := 1) (q0 := 7) rfl rfl) (hZ.at hS hAB) (hP.sub [7, 8, 9, 10] rfl) hl.1 rfl (Nat.le_of_ble_eq_true rfl) dX3_claim_37 ⟨Nat.le_refl _, Nat.le_refl _⟩)) (fun r_ h_ => ?_)
        subst h_
        refine lv_istore_n (lv' := [(3, .int (w (4 + t))), (0, .ref dd), (1, .int (nI t)), (2, .int (y))]) hx hb dX3_claim_40 rfl hl (by decide) rfl (fun ls hl => ?_)
        refine lv_iload_n hx hb dX3_claim_41 rfl (lv_at hl 0 rfl) ?_
        refine lv_iload_n hx hb dX3_claim_42 rfl (lv_at hl 3 rfl) ?_
        refine lv_icmp_ne (tgt := 49) hx hb dX3_claim_43 (by decide) (fun c_43 => ?_) (fun c_43 => ?_)
        · refine lv_aload_n hx hb dX3_claim_49 rfl (lv_at hl 1 rfl) ?_
          refine gf_X3_X3_history hF hP 0 rfl rfl dX3_claim_50 ?_
          refine lv_aload_n hx hb dX3_claim_53 rfl (lv_at hl 1 rfl) ?_
          refine gf_X3_X3_log hF hP 0 rfl rfl dX3_claim_54 ?_
          refine xcv (xrVN hF (c_X0_remember l g ho ha zo zh so se sc su yn yg yt yw ao ae ac au sl he hc hs fe fc fs w hW hR (by omega) (by omega) (hD.self2 [1, 2, 3, 4, 5, 6, 7, 8, 9, 10] (by decide) rfl) (xin_AB hAB [1, 2, 3, 4, 5, 6, 7, 8, 9, 10] rfl) hsl) cal_X0_remember n_7 ⟨by decide, by decide⟩ rfl rfl rfl (va_recv hF.2.1 hP (ci := 0) (q0 := 1) rfl rfl) (hZ.at hS hAB) (hP.sub [1, 2, 3, 4, 5, 6, 7, 8, 9, 10] rfl) hl.1 rfl (Nat.le_of_ble_eq_true rfl) dX3_claim_57 ⟨Nat.le_refl _, Nat.le_refl _⟩) hS (xin_sub [1, 2, 3, 4, 5, 6, 7, 8, 9, 10] rfl) (xin_sub [1, 2, 3, 4, 5, 6, 7, 8, 9, 10] rfl) (fun H locs hq_ hz_ hk_ hS => ?_)
          obtain ⟨he2, hc2, hs2, hR2, hw_⟩ := hq_
          have hP : va_P g.1 vwCl [(dd, .inr (3, [.ref ao, .ref bo, .int (xz (zk)), .ref ho, .ref xo, .ref ta])), (ho, .inr (0, [.ref ha, .int (nI (oldN zo zh)), .int (nI (recS zh + 1))])), (ha, .inl (g.2.1 2, 4, .inr (.inr (.inr (.inr (sl)))))), (so, .inr (1, [.ref se, .ref sc, .ref su, .int (nI (nr w)), .int (nI (pgN w)), .int (nI (stN w)), .int (nI (wrN w))])), (se, .inl (g.2.1 0, 768, .inl (he2))), (sc, .inl (g.2.1 0, 192, .inl (hc2))), (su, .inl (g.2.1 0, 24, .inl (hs2))), (ao, .inr (1, [.ref ae, .ref ac, .ref au, .int (nI (nr w)), .int (nI (pgN w)), .int (nI (stN w)), .int (nI (wrN w))])), (ae, .inl (g.2.1 0, 768, .inl (fe))), (ac, .inl (g.2.1 0, 192, .inl (fc))), (au, .inl (g.2.1 0, 24, .inl (fs)))] H := xjoin hP hD hw_ hk_ [1, 2, 3, 4, 5, 6, 7, 8, 9, 10] [(false, 0), (true, 0), (true, 1), (true, 2), (true, 3), (true, 4), (true, 5), (true, 6), (true, 7), (true, 8), (true, 9)] rfl rfl rfl
          have hD : va_D (xin [dd, ho, ha, so, se, sc, su, ao, ae, ac, au]) [(dd, .inr (3, [.ref ao, .ref bo, .int (xz (zk)), .ref ho, .ref xo, .ref ta])), (ho, .inr (0, [.ref ha, .int (nI (oldN zo zh)), .int (nI (recS zh + 1))])), (ha, .inl (g.2.1 2, 4, .inr (.inr (.inr (.inr (sl)))))), (so, .inr (1, [.ref se, .ref sc, .ref su, .int (nI (nr w)), .int (nI (pgN w)), .int (nI (stN w)), .int (nI (wrN w))])), (se, .inl (g.2.1 0, 768, .inl (he2))), (sc, .inl (g.2.1 0, 192, .inl (hc2))), (su, .inl (g.2.1 0, 24, .inl (hs2))), (ao, .inr (1, [.ref ae, .ref ac, .ref au, .int (nI (nr w)), .int (nI (pgN w)), .int (nI (stN w)), .int (nI (wrN w))])), (ae, .inl (g.2.1 0, 768, .inl (fe))), (ac, .inl (g.2.1 0, 192, .inl (fc))), (au, .inl (g.2.1 0, 24, .inl (fs)))] := va_D_eqL [dd, ho, ha, so, se, sc, su, ao, ae, ac, au] rfl rfl hD
          refine lv_aload_n hx hb dX3_claim_60 rfl (lv_at hl 1 rfl) ?_
          refine gf_X3_X3_log hF hP 0 rfl rfl dX3_claim_61 ?_
          refine lv_iload_n hx hb dX3_claim_64 rfl (lv_at hl 2 rfl) ?_
          refine lv_iload_n hx hb dX3_claim_65 rfl (lv_at hl 3 rfl) ?_
          refine xcv (xrVN hF (c_X1_writeSum l g ao ae ac au fe fc fs w (hD.self2 [7, 8, 9, 10] (by decide) rfl) (xin_AB hAB [7, 8, 9, 10] rfl) hW hR t (by omega) ((y))) cal_X1_writeSum n_27 ⟨by decide, by decide⟩ rfl rfl rfl (va_recv hF.2.1 hP (ci := 1) (q0 := 7) rfl rfl) (hZ.at hS hAB) (hP.sub [7, 8, 9, 10] rfl) hl.1 rfl (Nat.le_of_ble_eq_true rfl) dX3_claim_66 ⟨Nat.le_refl _, Nat.le_refl _⟩) hS (xin_sub [7, 8, 9, 10] rfl) (xin_sub [7, 8, 9, 10] rfl) (fun H locs hq_ hz_ hk_ hS => ?_)
          have hw_ := hq_
          have hP : va_P g.1 vwCl [(dd, .inr (3, [.ref ao, .ref bo, .int (xz (zk)), .ref ho, .ref xo, .ref ta])), (ho, .inr (0, [.ref ha, .int (nI (oldN zo zh)), .int (nI (recS zh + 1))])), (ha, .inl (g.2.1 2, 4, .inr (.inr (.inr (.inr (sl)))))), (so, .inr (1, [.ref se, .ref sc, .ref su, .int (nI (nr w)), .int (nI (pgN w)), .int (nI (stN w)), .int (nI (wrN w))])), (se, .inl (g.2.1 0, 768, .inl (he2))), (sc, .inl (g.2.1 0, 192, .inl (hc2))), (su, .inl (g.2.1 0, 24, .inl (hs2))), (ao, .inr (1, [.ref ae, .ref ac, .ref au, .int (nI (nr (clmW w t ((y))))), .int (nI (pgN (clmW w t ((y))))), .int (nI (stN (clmW w t ((y))))), .int (nI (wrN (clmW w t ((y)))))])), (ae, .inl (g.2.1 0, 768, .inl (fe))), (ac, .inl (g.2.1 0, 192, .inl (fc))), (au, .inl (g.2.1 0, 24, .inl (upd fs t ((y)))))] H := xjoin hP hD hw_ hk_ [7, 8, 9, 10] [(false, 0), (false, 1), (false, 2), (false, 3), (false, 4), (false, 5), (false, 6), (true, 0), (true, 1), (true, 2), (true, 3)] rfl rfl rfl
          have hD : va_D (xin [dd, ho, ha, so, se, sc, su, ao, ae, ac, au]) [(dd, .inr (3, [.ref ao, .ref bo, .int (xz (zk)), .ref ho, .ref xo, .ref ta])), (ho, .inr (0, [.ref ha, .int (nI (oldN zo zh)), .int (nI (recS zh + 1))])), (ha, .inl (g.2.1 2, 4, .inr (.inr (.inr (.inr (sl)))))), (so, .inr (1, [.ref se, .ref sc, .ref su, .int (nI (nr w)), .int (nI (pgN w)), .int (nI (stN w)), .int (nI (wrN w))])), (se, .inl (g.2.1 0, 768, .inl (he2))), (sc, .inl (g.2.1 0, 192, .inl (hc2))), (su, .inl (g.2.1 0, 24, .inl (hs2))), (ao, .inr (1, [.ref ae, .ref ac, .ref au, .int (nI (nr (clmW w t ((y))))), .int (nI (pgN (clmW w t ((y))))), .int (nI (stN (clmW w t ((y))))), .int (nI (wrN (clmW w t ((y)))))])), (ae, .inl (g.2.1 0, 768, .inl (fe))), (ac, .inl (g.2.1 0, 192, .inl (fc))), (au, .inl (g.2.1 0, 24, .inl (upd fs t ((y)))))] := va_D_eqL [dd, ho, ha, so, se, sc, su, ao, ae, ac, au] rfl rfl hD
          refine lv_iload_n hx hb dX3_claim_69 rfl (lv_at hl 0 rfl) ?_
          refine xN_si hx hb 10000 dX3_claim_70 (by decide) ?_
          refine lv_iadd hx hb dX3_claim_73 ?_
          exact xend_i (V := ((w (4 + t)) + nI (10000))) hF hret hlocks hS (⟨by unfold clmA; rw [if_pos hwc, if_pos hsu, et, if_neg c_43], fun h => absurd h (by rw [show (clmB w (nI t) y) = true from (by simp [clmB, hwc, hsu, et, c_43])]; decide), fun _ => ⟨_, _, _, _, _, _, hR2, by rw [et]; exact hR.clm ht, by rw [et]; exact hP⟩⟩) dX3_claim_74
        · refine lv_bipush hx hb (v := (-5)) dX3_claim_46 (by decide) ?_
          exact xend_i (V := (-5)) hF hret hlocks hS (⟨by unfold clmA; rw [if_pos hwc, if_pos hsu, et, if_pos c_43], fun _ => hP, fun h => absurd h (by rw [show (clmB w (nI t) y) = false from (by simp [clmB, et, c_43])]; decide)⟩) dX3_claim_48
      · refine lv_iload_n hx hb dX3_claim_18 rfl (lv_at hl 2 rfl) ?_
        refine lv_if_lt (tgt := 29) hx hb dX3_claim_19 (by decide) (fun c_19 => ?_) (fun c_19 => ?_)
        · refine lv_bipush hx hb (v := (-2)) dX3_claim_29 (by decide) ?_
          exact xend_i (V := (-2)) hF hret hlocks hS (⟨by unfold clmA; rw [if_pos hwc, sumB_f1 c_15 c_19]; rfl, fun _ => hP, fun h => absurd h (by rw [show (clmB w (nI t) y) = false from (by simp [clmB, sumB_f1 c_15 c_19])]; decide)⟩) dX3_claim_31
        · refine lv_iload_n hx hb dX3_claim_22 rfl (lv_at hl 2 rfl) ?_
          refine xN_si hx hb 9999 dX3_claim_23 (by decide) ?_
          refine lv_icmp_le (tgt := 32) hx hb dX3_claim_26 (by decide) (fun c_26 => ?_) (fun c_26 => ?_)
          · have hsu := sumB_t2 c_19 c_26
            refine lv_aload_n hx hb dX3_claim_32 rfl (lv_at hl 0 rfl) ?_
            refine gf_X3_X3_log hF hP 0 rfl rfl dX3_claim_33 ?_
            refine lv_iload_n hx hb dX3_claim_36 rfl (lv_at hl 1 rfl) ?_
            refine vp_callSi (va_Run.run (xrVN hF (c_X1_sumOf l g ao ae ac au fe fc fs w hW hR t (by omega)) cal_X1_sumOf n_26 ⟨by decide, by decide⟩ rfl rfl rfl (va_recv hF.2.1 hP (ci := 1) (q0 := 7) rfl rfl) (hZ.at hS hAB) (hP.sub [7, 8, 9, 10] rfl) hl.1 rfl (Nat.le_of_ble_eq_true rfl) dX3_claim_37 ⟨Nat.le_refl _, Nat.le_refl _⟩)) (fun r_ h_ => ?_)
            subst h_
            refine lv_istore_n (lv' := [(3, .int (w (4 + t))), (0, .ref dd), (1, .int (nI t)), (2, .int (y))]) hx hb dX3_claim_40 rfl hl (by decide) rfl (fun ls hl => ?_)
            refine lv_iload_n hx hb dX3_claim_41 rfl (lv_at hl 0 rfl) ?_
            refine lv_iload_n hx hb dX3_claim_42 rfl (lv_at hl 3 rfl) ?_
            refine lv_icmp_ne (tgt := 49) hx hb dX3_claim_43 (by decide) (fun c_43 => ?_) (fun c_43 => ?_)
            · refine lv_aload_n hx hb dX3_claim_49 rfl (lv_at hl 1 rfl) ?_
              refine gf_X3_X3_history hF hP 0 rfl rfl dX3_claim_50 ?_
              refine lv_aload_n hx hb dX3_claim_53 rfl (lv_at hl 1 rfl) ?_
              refine gf_X3_X3_log hF hP 0 rfl rfl dX3_claim_54 ?_
              refine xcv (xrVN hF (c_X0_remember l g ho ha zo zh so se sc su yn yg yt yw ao ae ac au sl he hc hs fe fc fs w hW hR (by omega) (by omega) (hD.self2 [1, 2, 3, 4, 5, 6, 7, 8, 9, 10] (by decide) rfl) (xin_AB hAB [1, 2, 3, 4, 5, 6, 7, 8, 9, 10] rfl) hsl) cal_X0_remember n_7 ⟨by decide, by decide⟩ rfl rfl rfl (va_recv hF.2.1 hP (ci := 0) (q0 := 1) rfl rfl) (hZ.at hS hAB) (hP.sub [1, 2, 3, 4, 5, 6, 7, 8, 9, 10] rfl) hl.1 rfl (Nat.le_of_ble_eq_true rfl) dX3_claim_57 ⟨Nat.le_refl _, Nat.le_refl _⟩) hS (xin_sub [1, 2, 3, 4, 5, 6, 7, 8, 9, 10] rfl) (xin_sub [1, 2, 3, 4, 5, 6, 7, 8, 9, 10] rfl) (fun H locs hq_ hz_ hk_ hS => ?_)
              obtain ⟨he2, hc2, hs2, hR2, hw_⟩ := hq_
              have hP : va_P g.1 vwCl [(dd, .inr (3, [.ref ao, .ref bo, .int (xz (zk)), .ref ho, .ref xo, .ref ta])), (ho, .inr (0, [.ref ha, .int (nI (oldN zo zh)), .int (nI (recS zh + 1))])), (ha, .inl (g.2.1 2, 4, .inr (.inr (.inr (.inr (sl)))))), (so, .inr (1, [.ref se, .ref sc, .ref su, .int (nI (nr w)), .int (nI (pgN w)), .int (nI (stN w)), .int (nI (wrN w))])), (se, .inl (g.2.1 0, 768, .inl (he2))), (sc, .inl (g.2.1 0, 192, .inl (hc2))), (su, .inl (g.2.1 0, 24, .inl (hs2))), (ao, .inr (1, [.ref ae, .ref ac, .ref au, .int (nI (nr w)), .int (nI (pgN w)), .int (nI (stN w)), .int (nI (wrN w))])), (ae, .inl (g.2.1 0, 768, .inl (fe))), (ac, .inl (g.2.1 0, 192, .inl (fc))), (au, .inl (g.2.1 0, 24, .inl (fs)))] H := xjoin hP hD hw_ hk_ [1, 2, 3, 4, 5, 6, 7, 8, 9, 10] [(false, 0), (true, 0), (true, 1), (true, 2), (true, 3), (true, 4), (true, 5), (true, 6), (true, 7), (true, 8), (true, 9)] rfl rfl rfl
              have hD : va_D (xin [dd, ho, ha, so, se, sc, su, ao, ae, ac, au]) [(dd, .inr (3, [.ref ao, .ref bo, .int (xz (zk)), .ref ho, .ref xo, .ref ta])), (ho, .inr (0, [.ref ha, .int (nI (oldN zo zh)), .int (nI (recS zh + 1))])), (ha, .inl (g.2.1 2, 4, .inr (.inr (.inr (.inr (sl)))))), (so, .inr (1, [.ref se, .ref sc, .ref su, .int (nI (nr w)), .int (nI (pgN w)), .int (nI (stN w)), .int (nI (wrN w))])), (se, .inl (g.2.1 0, 768, .inl (he2))), (sc, .inl (g.2.1 0, 192, .inl (hc2))), (su, .inl (g.2.1 0, 24, .inl (hs2))), (ao, .inr (1, [.ref ae, .ref ac, .ref au, .int (nI (nr w)), .int (nI (pgN w)), .int (nI (stN w)), .int (nI (wrN w))])), (ae, .inl (g.2.1 0, 768, .inl (fe))), (ac, .inl (g.2.1 0, 192, .inl (fc))), (au, .inl (g.2.1 0, 24, .inl (fs)))] := va_D_eqL [dd, ho, ha, so, se, sc, su, ao, ae, ac, au] rfl rfl hD
              refine lv_aload_n hx hb dX3_claim_60 rfl (lv_at hl 1 rfl) ?_
              refine gf_X3_X3_log hF hP 0 rfl rfl dX3_claim_61 ?_
              refine lv_iload_n hx hb dX3_claim_64 rfl (lv_at hl 2 rfl) ?_
              refine lv_iload_n hx hb dX3_claim_65 rfl (lv_at hl 3 rfl) ?_
              refine xcv (xrVN hF (c_X1_writeSum l g ao ae ac au fe fc fs w (hD.self2 [7, 8, 9, 10] (by decide) rfl) (xin_AB hAB [7, 8, 9, 10] rfl) hW hR t (by omega) ((y))) cal_X1_writeSum n_27 ⟨by decide, by decide⟩ rfl rfl rfl (va_recv hF.2.1 hP (ci := 1) (q0 := 7) rfl rfl) (hZ.at hS hAB) (hP.sub [7, 8, 9, 10] rfl) hl.1 rfl (Nat.le_of_ble_eq_true rfl) dX3_claim_66 ⟨Nat.le_refl _, Nat.le_refl _⟩) hS (xin_sub [7, 8, 9, 10] rfl) (xin_sub [7, 8, 9, 10] rfl) (fun H locs hq_ hz_ hk_ hS => ?_)
              have hw_ := hq_
              have hP : va_P g.1 vwCl [(dd, .inr (3, [.ref ao, .ref bo, .int (xz (zk)), .ref ho, .ref xo, .ref ta])), (ho, .inr (0, [.ref ha, .int (nI (oldN zo zh)), .int (nI (recS zh + 1))])), (ha, .inl (g.2.1 2, 4, .inr (.inr (.inr (.inr (sl)))))), (so, .inr (1, [.ref se, .ref sc, .ref su, .int (nI (nr w)), .int (nI (pgN w)), .int (nI (stN w)), .int (nI (wrN w))])), (se, .inl (g.2.1 0, 768, .inl (he2))), (sc, .inl (g.2.1 0, 192, .inl (hc2))), (su, .inl (g.2.1 0, 24, .inl (hs2))), (ao, .inr (1, [.ref ae, .ref ac, .ref au, .int (nI (nr (clmW w t ((y))))), .int (nI (pgN (clmW w t ((y))))), .int (nI (stN (clmW w t ((y))))), .int (nI (wrN (clmW w t ((y)))))])), (ae, .inl (g.2.1 0, 768, .inl (fe))), (ac, .inl (g.2.1 0, 192, .inl (fc))), (au, .inl (g.2.1 0, 24, .inl (upd fs t ((y)))))] H := xjoin hP hD hw_ hk_ [7, 8, 9, 10] [(false, 0), (false, 1), (false, 2), (false, 3), (false, 4), (false, 5), (false, 6), (true, 0), (true, 1), (true, 2), (true, 3)] rfl rfl rfl
              have hD : va_D (xin [dd, ho, ha, so, se, sc, su, ao, ae, ac, au]) [(dd, .inr (3, [.ref ao, .ref bo, .int (xz (zk)), .ref ho, .ref xo, .ref ta])), (ho, .inr (0, [.ref ha, .int (nI (oldN zo zh)), .int (nI (recS zh + 1))])), (ha, .inl (g.2.1 2, 4, .inr (.inr (.inr (.inr (sl)))))), (so, .inr (1, [.ref se, .ref sc, .ref su, .int (nI (nr w)), .int (nI (pgN w)), .int (nI (stN w)), .int (nI (wrN w))])), (se, .inl (g.2.1 0, 768, .inl (he2))), (sc, .inl (g.2.1 0, 192, .inl (hc2))), (su, .inl (g.2.1 0, 24, .inl (hs2))), (ao, .inr (1, [.ref ae, .ref ac, .ref au, .int (nI (nr (clmW w t ((y))))), .int (nI (pgN (clmW w t ((y))))), .int (nI (stN (clmW w t ((y))))), .int (nI (wrN (clmW w t ((y)))))])), (ae, .inl (g.2.1 0, 768, .inl (fe))), (ac, .inl (g.2.1 0, 192, .inl (fc))), (au, .inl (g.2.1 0, 24, .inl (upd fs t ((y)))))] := va_D_eqL [dd, ho, ha, so, se, sc, su, ao, ae, ac, au] rfl rfl hD
              refine lv_iload_n hx hb dX3_claim_69 rfl (lv_at hl 0 rfl) ?_
              refine xN_si hx hb 10000 dX3_claim_70 (by decide) ?_
              refine lv_iadd hx hb dX3_claim_73 ?_
              exact xend_i (V := ((w (4 + t)) + nI (10000))) hF hret hlocks hS (⟨by unfold clmA; rw [if_pos hwc, if_pos hsu, et, if_neg c_43], fun h => absurd h (by rw [show (clmB w (nI t) y) = true from (by simp [clmB, hwc, hsu, et, c_43])]; decide), fun _ => ⟨_, _, _, _, _, _, hR2, by rw [et]; exact hR.clm ht, by rw [et]; exact hP⟩⟩) dX3_claim_74
            · refine lv_bipush hx hb (v := (-5)) dX3_claim_46 (by decide) ?_
              exact xend_i (V := (-5)) hF hret hlocks hS (⟨by unfold clmA; rw [if_pos hwc, if_pos hsu, et, if_pos c_43], fun _ => hP, fun h => absurd h (by rw [show (clmB w (nI t) y) = false from (by simp [clmB, et, c_43])]; decide)⟩) dX3_claim_48
          · refine lv_bipush hx hb (v := (-2)) dX3_claim_29 (by decide) ?_
            exact xend_i (V := (-2)) hF hret hlocks hS (⟨by unfold clmA; rw [if_pos hwc, sumB_f2 c_15 (Int32.not_le.mp c_26)]; rfl, fun _ => hP, fun h => absurd h (by rw [show (clmB w (nI t) y) = false from (by simp [clmB, sumB_f2 c_15 (Int32.not_le.mp c_26)])]; decide)⟩) dX3_claim_31
    · refine lv_iconst hx hb (v := (-1)) dX3_claim_10 (by decide) ?_
      exact xend_i (V := (-1)) hF hret hlocks hS (⟨by unfold clmA; rw [wchB_f2 c_7]; rfl, fun _ => hP, fun h => absurd h (by rw [show (clmB w x y) = false from (by simp [clmB, wchB_f2 c_7])]; decide)⟩) dX3_claim_11
set_option maxHeartbeats 4000000 in
set_option maxRecDepth 100000 in
theorem c_X3_set (l : Launch) (g : XG) (dd bo xo ta : Nat) (zk : Bool) (ho ha zo zh so se sc su yn yg yt yw ao ae ac au : Nat) (sl : Nat → Option Nat) (he hc hs fe fc fs w : Nat → Int32) (hW : WF w) (hR : LR fe fc fs w) (hzo : zo < 4) (hz4 : zh ≤ 4) (hD : va_D (xin [dd, ho, ha, so, se, sc, su, ao, ae, ac, au]) ((dd, .inr (3, [.ref ao, .ref bo, .int (xz zk), .ref ho, .ref xo, .ref ta])) :: ((ho, .inr (0, [.ref ha, .int (nI zo), .int (nI zh)])) :: (ha, .inl (g.2.1 2, 4, .inr (.inr (.inr (.inr sl))))) :: (LogX g so se sc su he hc hs yn yg yt yw ++ LogC g ao ae ac au fe fc fs w)))) (hAB : ∀ q, xin [dd, ho, ha, so, se, sc, su, ao, ae, ac, au] q → xB g q) (hsl : sl ((zo + zh) % 4) = some so) (x y : Int32) : Met l yX3_set (ww yX3_set cX3_set 4 (some .int)) (rmD 4) (xP g [.ref dd, .int (x), .int (y)] (fun H => va_P g.1 vwCl ((dd, .inr (3, [.ref ao, .ref bo, .int (xz zk), .ref ho, .ref xo, .ref ta])) :: ((ho, .inr (0, [.ref ha, .int (nI zo), .int (nI zh)])) :: (ha, .inl (g.2.1 2, 4, .inr (.inr (.inr (.inr sl))))) :: (LogX g so se sc su he hc hs yn yg yt yw ++ LogC g ao ae ac au fe fc fs w))) H)) (xQi (fun r9 H => r9 = setA w x y ∧ (setB w x y = false → va_P g.1 vwCl ((dd, .inr (3, [.ref ao, .ref bo, .int (xz zk), .ref ho, .ref xo, .ref ta])) :: ((ho, .inr (0, [.ref ha, .int (nI zo), .int (nI zh)])) :: (ha, .inl (g.2.1 2, 4, .inr (.inr (.inr (.inr sl))))) :: (LogX g so se sc su he hc hs yn yg yt yw ++ LogC g ao ae ac au fe fc fs w))) H) ∧ (setB w x y = true → ∃ he2 hc2 hs2 fe2 fc2 fs2 : Nat → Int32, LR he2 hc2 hs2 w ∧ LR fe2 fc2 fs2 (setW w x.toNatClampNeg y) ∧ va_P g.1 vwCl ((dd, .inr (3, [.ref ao, .ref bo, .int (xz zk), .ref ho, .ref xo, .ref ta])) :: ((ho, .inr (0, [.ref ha, .int (nI (oldN zo zh)), .int (nI (recS zh + 1))])) :: (ha, .inl (g.2.1 2, 4, .inr (.inr (.inr (.inr sl))))) :: (LogC g so se sc su he2 hc2 hs2 w ++ LogC g ao ae ac au fe2 fc2 fs2 (setW w x.toNatClampNeg y)))) H)) (xin [dd, ho, ha, so, se, sc, su, ao, ae, ac, au])) 0 0 (xin [dd, ho, ha, so, se, sc, su, ao, ae, ac, au]) := by
  refine xMetM (by decide) rfl (Nat.le_of_ble_eq_true rfl) ?_
  intro p e s m below meth c ls H locs hF hZ hh hS hret hlocks hin hl
  have hx := hF.1.1
  have hb := hF.1.2.1
  have hP := hh
  have hP : va_P g.1 vwCl ((dd, .inr (3, [.ref ao, .ref bo, .int (xz zk), .ref ho, .ref xo, .ref ta])) :: ((ho, .inr (0, [.ref ha, .int (nI zo), .int (nI zh)])) :: (ha, .inl (g.2.1 2, 4, .inr (.inr (.inr (.inr sl))))) :: (LogX g so se sc su he hc hs yn yg yt yw ++ LogC g ao ae ac au fe fc fs w))) H := hP
  have hl : lv_has ls 4 [(0, .ref dd), (1, .int (x)), (2, .int (y))] := hl
  have h48 := hW.n48
  have hp4 := hW.pg4
  have hp12 := hW.pg12
  have hs1 := hW.st1
  have hw2 := hW.wr2
  have hw6 := hW.wr6
  refine lv_iload_n hx hb dX3_set_0 rfl (lv_at hl 1 rfl) ?_
  refine lv_if_lt (tgt := 31) hx hb dX3_set_1 (by decide) (fun c_1 => ?_) (fun c_1 => ?_)
  · refine lv_bipush hx hb (v := (-2)) dX3_set_31 (by decide) ?_
    exact xend_i (V := (-2)) hF hret hlocks hS (⟨by unfold setA; rw [setV_f0 c_1]; rfl, fun _ => hP, fun h => absurd h (by rw [show (setB w x y) = false from (by simp [setB, setV_f0 c_1])]; decide)⟩) dX3_set_33
  · refine lv_iload_n hx hb dX3_set_4 rfl (lv_at hl 1 rfl) ?_
    refine xN_const hx hb 3 dX3_set_5 (by decide) ?_
    refine lv_icmp_ge (tgt := 31) hx hb dX3_set_6 (by decide) (fun c_6 => ?_) (fun c_6 => ?_)
    · refine lv_bipush hx hb (v := (-2)) dX3_set_31 (by decide) ?_
      exact xend_i (V := (-2)) hF hret hlocks hS (⟨by unfold setA; rw [setV_f3 c_6]; rfl, fun _ => hP, fun h => absurd h (by rw [show (setB w x y) = false from (by simp [setB, setV_f3 c_6])]; decide)⟩) dX3_set_33
    · obtain ⟨t, ht, rfl⟩ := nI_of3 c_1 c_6
      have et : (nI t).toNatClampNeg = t := nI_clamp (by omega)
      refine lv_iload_n hx hb dX3_set_9 rfl (lv_at hl 2 rfl) ?_
      refine va_gets hx hb (((hZ.2.1.1).narrow hAB)) hS hF.1.2.2.2.1 (hF.1.2.2.2.2 _ q_334) (fun _ h => h) dX3_set_10 ?_
      refine lv_iload_n hx hb dX3_set_13 rfl (lv_at hl 1 rfl) ?_
      refine vp_callSi (va_Run.run (xrS hF (c_X3_atZ1 l g t (by omega)) cal_X3_at q_75 ⟨by decide, by decide⟩ rfl rfl rfl (hZ.at hS hAB) (trivial) hl.1 rfl (Nat.le_of_ble_eq_true rfl) dX3_set_14 ⟨Nat.le_refl _, Nat.le_refl _⟩)) (fun r_ h_ => ?_)
      subst h_
      refine lv_icmp_lt (tgt := 31) hx hb dX3_set_17 (by decide) (fun c_17 => ?_) (fun c_17 => ?_)
      · refine lv_bipush hx hb (v := (-2)) dX3_set_31 (by decide) ?_
        exact xend_i (V := (-2)) hF hret hlocks hS (⟨by unfold setA; rw [show setV (nI t) y = false from (by rw [setV_sm ht, decide_eq_false (Int32.not_le.mpr c_17), Bool.false_and])]; rfl, fun _ => hP, fun h => absurd h (by rw [show (setB w (nI t) y) = false from (by simp [setB, show setV (nI t) y = false from (by rw [setV_sm ht, decide_eq_false (Int32.not_le.mpr c_17), Bool.false_and])])]; decide)⟩) dX3_set_33
      · refine lv_iload_n hx hb dX3_set_20 rfl (lv_at hl 2 rfl) ?_
        refine va_gets hx hb (((hZ.2.2.1).narrow hAB)) hS hF.1.2.2.2.1 (hF.1.2.2.2.2 _ q_335) (fun _ h => h) dX3_set_21 ?_
        refine lv_iload_n hx hb dX3_set_24 rfl (lv_at hl 1 rfl) ?_
        refine vp_callSi (va_Run.run (xrS hF (c_X3_atZ2 l g t (by omega)) cal_X3_at q_75 ⟨by decide, by decide⟩ rfl rfl rfl (hZ.at hS hAB) (trivial) hl.1 rfl (Nat.le_of_ble_eq_true rfl) dX3_set_25 ⟨Nat.le_refl _, Nat.le_refl _⟩)) (fun r_ h_ => ?_)
        subst h_
        refine lv_icmp_le (tgt := 34) hx hb dX3_set_28 (by decide) (fun c_28 => ?_) (fun c_28 => ?_)
        · have hsv : setV (nI t) y = true := by rw [setV_sm ht, decide_eq_true (Int32.not_lt.mp c_17), decide_eq_true c_28]; rfl
          obtain ⟨v, rfl, hv0, hv1, hv2⟩ := setV_ok ht hsv
          have hv12 : v ≤ 12 := by omega
          refine lv_aload_n hx hb dX3_set_34 rfl (lv_at hl 0 rfl) ?_
          refine gf_X3_X3_log hF hP 0 rfl rfl dX3_set_35 ?_
          refine lv_iload_n hx hb dX3_set_38 rfl (lv_at hl 1 rfl) ?_
          have hsg := stg_le hW t
          refine vp_callSi (va_Run.run (xrVN hF (c_X1_settingOf l g ao ae ac au fe fc fs w hW hR t (by omega)) cal_X1_settingOf n_28 ⟨by decide, by decide⟩ rfl rfl rfl (va_recv hF.2.1 hP (ci := 1) (q0 := 7) rfl rfl) (hZ.at hS hAB) (hP.sub [7, 8, 9, 10] rfl) hl.1 rfl (Nat.le_of_ble_eq_true rfl) dX3_set_39 ⟨Nat.le_refl _, Nat.le_refl _⟩)) (fun r_ h_ => ?_)
          subst h_
          refine lv_istore_n (lv' := [(3, .int (nI (stg w t))), (0, .ref dd), (1, .int (nI t)), (2, .int (nI v))]) hx hb dX3_set_42 rfl hl (by decide) rfl (fun ls hl => ?_)
          refine lv_iload_n hx hb dX3_set_43 rfl (lv_at hl 0 rfl) ?_
          refine lv_iload_n hx hb dX3_set_44 rfl (lv_at hl 3 rfl) ?_
          refine xC_ne (tgt := 51) hx hb (by omega) (by omega) dX3_set_45 (by decide) (fun c_45 => ?_) (fun c_45 => ?_)
          · refine lv_aload_n hx hb dX3_set_51 rfl (lv_at hl 1 rfl) ?_
            refine gf_X3_X3_history hF hP 0 rfl rfl dX3_set_52 ?_
            refine lv_aload_n hx hb dX3_set_55 rfl (lv_at hl 1 rfl) ?_
            refine gf_X3_X3_log hF hP 0 rfl rfl dX3_set_56 ?_
            refine xcv (xrVN hF (c_X0_remember l g ho ha zo zh so se sc su yn yg yt yw ao ae ac au sl he hc hs fe fc fs w hW hR (by omega) (by omega) (hD.self2 [1, 2, 3, 4, 5, 6, 7, 8, 9, 10] (by decide) rfl) (xin_AB hAB [1, 2, 3, 4, 5, 6, 7, 8, 9, 10] rfl) hsl) cal_X0_remember n_7 ⟨by decide, by decide⟩ rfl rfl rfl (va_recv hF.2.1 hP (ci := 0) (q0 := 1) rfl rfl) (hZ.at hS hAB) (hP.sub [1, 2, 3, 4, 5, 6, 7, 8, 9, 10] rfl) hl.1 rfl (Nat.le_of_ble_eq_true rfl) dX3_set_59 ⟨Nat.le_refl _, Nat.le_refl _⟩) hS (xin_sub [1, 2, 3, 4, 5, 6, 7, 8, 9, 10] rfl) (xin_sub [1, 2, 3, 4, 5, 6, 7, 8, 9, 10] rfl) (fun H locs hq_ hz_ hk_ hS => ?_)
            obtain ⟨he2, hc2, hs2, hR2, hw_⟩ := hq_
            have hP : va_P g.1 vwCl [(dd, .inr (3, [.ref ao, .ref bo, .int (xz (zk)), .ref ho, .ref xo, .ref ta])), (ho, .inr (0, [.ref ha, .int (nI (oldN zo zh)), .int (nI (recS zh + 1))])), (ha, .inl (g.2.1 2, 4, .inr (.inr (.inr (.inr (sl)))))), (so, .inr (1, [.ref se, .ref sc, .ref su, .int (nI (nr w)), .int (nI (pgN w)), .int (nI (stN w)), .int (nI (wrN w))])), (se, .inl (g.2.1 0, 768, .inl (he2))), (sc, .inl (g.2.1 0, 192, .inl (hc2))), (su, .inl (g.2.1 0, 24, .inl (hs2))), (ao, .inr (1, [.ref ae, .ref ac, .ref au, .int (nI (nr w)), .int (nI (pgN w)), .int (nI (stN w)), .int (nI (wrN w))])), (ae, .inl (g.2.1 0, 768, .inl (fe))), (ac, .inl (g.2.1 0, 192, .inl (fc))), (au, .inl (g.2.1 0, 24, .inl (fs)))] H := xjoin hP hD hw_ hk_ [1, 2, 3, 4, 5, 6, 7, 8, 9, 10] [(false, 0), (true, 0), (true, 1), (true, 2), (true, 3), (true, 4), (true, 5), (true, 6), (true, 7), (true, 8), (true, 9)] rfl rfl rfl
            have hD : va_D (xin [dd, ho, ha, so, se, sc, su, ao, ae, ac, au]) [(dd, .inr (3, [.ref ao, .ref bo, .int (xz (zk)), .ref ho, .ref xo, .ref ta])), (ho, .inr (0, [.ref ha, .int (nI (oldN zo zh)), .int (nI (recS zh + 1))])), (ha, .inl (g.2.1 2, 4, .inr (.inr (.inr (.inr (sl)))))), (so, .inr (1, [.ref se, .ref sc, .ref su, .int (nI (nr w)), .int (nI (pgN w)), .int (nI (stN w)), .int (nI (wrN w))])), (se, .inl (g.2.1 0, 768, .inl (he2))), (sc, .inl (g.2.1 0, 192, .inl (hc2))), (su, .inl (g.2.1 0, 24, .inl (hs2))), (ao, .inr (1, [.ref ae, .ref ac, .ref au, .int (nI (nr w)), .int (nI (pgN w)), .int (nI (stN w)), .int (nI (wrN w))])), (ae, .inl (g.2.1 0, 768, .inl (fe))), (ac, .inl (g.2.1 0, 192, .inl (fc))), (au, .inl (g.2.1 0, 24, .inl (fs)))] := va_D_eqL [dd, ho, ha, so, se, sc, su, ao, ae, ac, au] rfl rfl hD
            refine lv_aload_n hx hb dX3_set_62 rfl (lv_at hl 1 rfl) ?_
            refine gf_X3_X3_log hF hP 0 rfl rfl dX3_set_63 ?_
            refine lv_iload_n hx hb dX3_set_66 rfl (lv_at hl 2 rfl) ?_
            refine lv_iload_n hx hb dX3_set_67 rfl (lv_at hl 3 rfl) ?_
            refine xcv (xrVN hF (c_X1_changeSetting l g ao ae ac au fe fc fs w (hD.self2 [7, 8, 9, 10] (by decide) rfl) (xin_AB hAB [7, 8, 9, 10] rfl) hW hR t v (by omega) (by omega)) cal_X1_changeSetting n_29 ⟨by decide, by decide⟩ rfl rfl rfl (va_recv hF.2.1 hP (ci := 1) (q0 := 7) rfl rfl) (hZ.at hS hAB) (hP.sub [7, 8, 9, 10] rfl) hl.1 rfl (Nat.le_of_ble_eq_true rfl) dX3_set_68 ⟨Nat.le_refl _, Nat.le_refl _⟩) hS (xin_sub [7, 8, 9, 10] rfl) (xin_sub [7, 8, 9, 10] rfl) (fun H locs hq_ hz_ hk_ hS => ?_)
            have hw_ := hq_
            have hP : va_P g.1 vwCl [(dd, .inr (3, [.ref ao, .ref bo, .int (xz (zk)), .ref ho, .ref xo, .ref ta])), (ho, .inr (0, [.ref ha, .int (nI (oldN zo zh)), .int (nI (recS zh + 1))])), (ha, .inl (g.2.1 2, 4, .inr (.inr (.inr (.inr (sl)))))), (so, .inr (1, [.ref se, .ref sc, .ref su, .int (nI (nr w)), .int (nI (pgN w)), .int (nI (stN w)), .int (nI (wrN w))])), (se, .inl (g.2.1 0, 768, .inl (he2))), (sc, .inl (g.2.1 0, 192, .inl (hc2))), (su, .inl (g.2.1 0, 24, .inl (hs2))), (ao, .inr (1, [.ref ae, .ref ac, .ref au, .int (nI (nr (setW w t (nI v)))), .int (nI (pgN (setW w t (nI v)))), .int (nI (stN (setW w t (nI v)))), .int (nI (wrN (setW w t (nI v))))])), (ae, .inl (g.2.1 0, 768, .inl (fe))), (ac, .inl (g.2.1 0, 192, .inl (fc))), (au, .inl (g.2.1 0, 24, .inl (fs)))] H := xjoin hP hD hw_ hk_ [7, 8, 9, 10] [(false, 0), (false, 1), (false, 2), (false, 3), (false, 4), (false, 5), (false, 6), (true, 0), (true, 1), (true, 2), (true, 3)] rfl rfl rfl
            have hD : va_D (xin [dd, ho, ha, so, se, sc, su, ao, ae, ac, au]) [(dd, .inr (3, [.ref ao, .ref bo, .int (xz (zk)), .ref ho, .ref xo, .ref ta])), (ho, .inr (0, [.ref ha, .int (nI (oldN zo zh)), .int (nI (recS zh + 1))])), (ha, .inl (g.2.1 2, 4, .inr (.inr (.inr (.inr (sl)))))), (so, .inr (1, [.ref se, .ref sc, .ref su, .int (nI (nr w)), .int (nI (pgN w)), .int (nI (stN w)), .int (nI (wrN w))])), (se, .inl (g.2.1 0, 768, .inl (he2))), (sc, .inl (g.2.1 0, 192, .inl (hc2))), (su, .inl (g.2.1 0, 24, .inl (hs2))), (ao, .inr (1, [.ref ae, .ref ac, .ref au, .int (nI (nr (setW w t (nI v)))), .int (nI (pgN (setW w t (nI v)))), .int (nI (stN (setW w t (nI v)))), .int (nI (wrN (setW w t (nI v))))])), (ae, .inl (g.2.1 0, 768, .inl (fe))), (ac, .inl (g.2.1 0, 192, .inl (fc))), (au, .inl (g.2.1 0, 24, .inl (fs)))] := va_D_eqL [dd, ho, ha, so, se, sc, su, ao, ae, ac, au] rfl rfl hD
            refine lv_iload_n hx hb dX3_set_71 rfl (lv_at hl 0 rfl) ?_
            exact xend_i (V := nI (stg w t)) hF hret hlocks hS (⟨by unfold setA; rw [if_pos hsv, et, stg_w hW t ht, if_neg (fun q => c_45 ((nI_eq (by have := stg_le hW t; omega) (by omega)).mp q))], fun h => absurd h (by rw [show (setB w (nI t) (nI v)) = true from (by simp [setB, hsv, et, stg_w hW t ht, nI_eq (show stg w t < 2 ^ 31 by have := stg_le hW t; omega) (show v < 2 ^ 31 by omega), c_45])]; decide), fun _ => ⟨_, _, _, _, _, _, hR2, by rw [et]; exact hR.set ht, by rw [et]; exact hP⟩⟩) dX3_set_72
          · refine lv_bipush hx hb (v := (-5)) dX3_set_48 (by decide) ?_
            exact xend_i (V := (-5)) hF hret hlocks hS (⟨by unfold setA; rw [if_pos hsv, et, stg_w hW t ht, if_pos (congrArg nI c_45)], fun _ => hP, fun h => absurd h (by rw [show (setB w (nI t) (nI v)) = false from (by simp [setB, et, stg_w hW t ht, c_45])]; decide)⟩) dX3_set_50
        · refine lv_bipush hx hb (v := (-2)) dX3_set_31 (by decide) ?_
          exact xend_i (V := (-2)) hF hret hlocks hS (⟨by unfold setA; rw [show setV (nI t) y = false from (by rw [setV_sm ht, decide_eq_false c_28, Bool.and_false])]; rfl, fun _ => hP, fun h => absurd h (by rw [show (setB w (nI t) y) = false from (by simp [setB, show setV (nI t) y = false from (by rw [setV_sm ht, decide_eq_false c_28, Bool.and_false])])]; decide)⟩) dX3_set_33
