/-! the reference: its acts -/
set_option maxHeartbeats 4000000 in
set_option maxRecDepth 100000 in
theorem c_X4_correct (l : Launch) (g : XG) (mo mn mp mq mt mm md zs zl zp zr : Nat) (zk : Bool) (w pa sn tx me td : Nat → Int32) (hD : va_D (MF mo mn mp mq mt mm md) (ModW g mo mn mp mq mt mm md zs zl zp zr zk w pa sn tx me td)) (hAB : ∀ q, MF mo mn mp mq mt mm md q → xB g q) (hW : WF w) (hz4 : zs ≤ 4) (x y z : Int32) : Met l yX4_correct (ww yX4_correct cX4_correct 5 (some .int)) (rmD 7) (xP g [.ref mo, .int (x), .int (y), .int (z)] (fun H => va_P g.1 vwCl (ModW g mo mn mp mq mt mm md zs zl zp zr zk w pa sn tx me td) H)) (xQi (fun r9 H => r9 = corA w x y z ∧ (corB w x y z = false → va_P g.1 vwCl (ModW g mo mn mp mq mt mm md (zs) (zl) (zp) (zr) (zk) (w) (pa) (sn) (tx) (me) (td)) H) ∧ (corB w x y z = true → ∃ me2 : Nat → Int32, va_P g.1 vwCl (ModW g mo mn mp mq mt mm md (recS zs + 1) (zl) (zp) (zr) (zk) (corW w x.toNatClampNeg y.toNatClampNeg z) (recP w pa zs) (sn) (tx) (me2) (td)) H)) (MF mo mn mp mq mt mm md)) 0 0 (MF mo mn mp mq mt mm md) := by
  refine xMetM (by decide) rfl (Nat.le_of_ble_eq_true rfl) ?_
  intro p e s m below meth c ls H locs hF hZ hh hS hret hlocks hin hl
  have hx := hF.1.1
  have hb := hF.1.2.1
  have hP := hh
  have hP : va_P g.1 vwCl (ModW g mo mn mp mq mt mm md zs zl zp zr zk w pa sn tx me td) H := hP
  have hl : lv_has ls 5 [(0, .ref mo), (1, .int (x)), (2, .int (y)), (3, .int (z))] := hl
  have h48 := hW.n48
  have hp4 := hW.pg4
  have hp12 := hW.pg12
  have hs1 := hW.st1
  have hw2 := hW.wr2
  have hw6 := hW.wr6
  refine lv_aload_n hx hb dX4_correct_0 rfl (lv_at hl 0 rfl) ?_
  refine lv_iload_n hx hb dX4_correct_1 rfl (lv_at hl 1 rfl) ?_
  refine lv_iload_n hx hb dX4_correct_2 rfl (lv_at hl 2 rfl) ?_
  refine vp_callSi (va_Run.run (xrV hF (c_X4_isCell l g mo mn mp mq mt mm md zs zl zp zr zk w hW ((x)) ((y)) ) cal_X4_isCell q_263 ⟨by decide, by decide⟩ rfl rfl rfl (va_recv hF.2.1 hP (ci := 4) (q0 := 0) rfl rfl) (hZ.at hS hAB) (hP.sub [0, 1] rfl) hl.1 rfl (Nat.le_of_ble_eq_true rfl) dX4_correct_3 ⟨Nat.le_refl _, Nat.le_refl _⟩)) (fun r_ h_ => ?_)
  subst h_
  refine xZ_ne (tgt := 11) hx hb dX4_correct_6 (by decide) (fun c_6 => ?_) (fun c_6 => ?_)
  · obtain ⟨q1, q2⟩ := Bool.and_eq_true_iff.mp c_6
    obtain ⟨r, hr, rfl⟩ := (rowB_iff hW).mp q1
    obtain ⟨k, hk, rfl⟩ := colB_iff.mp q2
    have er : (nI r).toNatClampNeg = r := nI_clamp (by omega)
    have ek : (nI k).toNatClampNeg = k := nI_clamp (by omega)
    have hc4 := hW.c4 (i := 4 * r + k) (by omega)
    have hc1 := hW.c1 (i := 4 * r + k) (by omega)
    refine lv_iload_n hx hb dX4_correct_11 rfl (lv_at hl 2 rfl) ?_
    refine lv_iload_n hx hb dX4_correct_12 rfl (lv_at hl 3 rfl) ?_
    refine vp_callSi (va_Run.run (xrS hF (c_X4_isEntry l g k ((z)) (by omega)) cal_X4_isEntry q_113 ⟨by decide, by decide⟩ rfl rfl rfl (hZ.at hS hAB) (trivial) hl.1 rfl (Nat.le_of_ble_eq_true rfl) dX4_correct_13 ⟨Nat.le_refl _, Nat.le_refl _⟩)) (fun r_ h_ => ?_)
    subst h_
    refine xZ_ne (tgt := 22) hx hb dX4_correct_16 (by decide) (fun c_16 => ?_) (fun c_16 => ?_)
    · have hxe := entB_iff.mp c_16
      refine lv_aload_n hx hb dX4_correct_22 rfl (lv_at hl 0 rfl) ?_
      refine lv_iload_n hx hb dX4_correct_23 rfl (lv_at hl 1 rfl) ?_
      refine lv_iload_n hx hb dX4_correct_24 rfl (lv_at hl 2 rfl) ?_
      refine vp_callSi (va_Run.run (xrV hF (c_X4_entries l g mo mn mp mq mt mm md zs zl zp zr zk w hW r k (by omega) (by omega)) cal_X4_entries q_274 ⟨by decide, by decide⟩ rfl rfl rfl (va_recv hF.2.1 hP (ci := 4) (q0 := 0) rfl rfl) (hZ.at hS hAB) (hP.sub [0, 1] rfl) hl.1 rfl (Nat.le_of_ble_eq_true rfl) dX4_correct_25 ⟨Nat.le_refl _, Nat.le_refl _⟩)) (fun r_ h_ => ?_)
      subst h_
      refine xN_const hx hb 4 dX4_correct_28 (by decide) ?_
      refine xC_ne (tgt := 35) hx hb (by omega) (by omega) dX4_correct_29 (by decide) (fun c_29 => ?_) (fun c_29 => ?_)
      · refine lv_aload_n hx hb dX4_correct_35 rfl (lv_at hl 0 rfl) ?_
        refine lv_iload_n hx hb dX4_correct_36 rfl (lv_at hl 1 rfl) ?_
        refine lv_iload_n hx hb dX4_correct_37 rfl (lv_at hl 2 rfl) ?_
        refine vp_callSi (va_Run.run (xrV hF (c_X4_latest l g mo mn mp mq mt mm md zs zl zp zr zk w hW r k (by omega) (by omega)) cal_X4_latest q_278 ⟨by decide, by decide⟩ rfl rfl rfl (va_recv hF.2.1 hP (ci := 4) (q0 := 0) rfl rfl) (hZ.at hS hAB) (hP.sub [0, 1] rfl) hl.1 rfl (Nat.le_of_ble_eq_true rfl) dX4_correct_38 ⟨Nat.le_refl _, Nat.le_refl _⟩)) (fun r_ h_ => ?_)
        subst h_
        refine lv_iload_n hx hb dX4_correct_41 rfl (lv_at hl 3 rfl) ?_
        refine lv_icmp_ne (tgt := 48) hx hb dX4_correct_42 (by decide) (fun c_42 => ?_) (fun c_42 => ?_)
        · refine lv_aload_n hx hb dX4_correct_48 rfl (lv_at hl 0 rfl) ?_
          refine xcv (xrV hF (c_X4_records l g mo mn mp mq mt mm md zs zl zp zr zk w pa sn tx me td hD hAB (by omega)) cal_X4_records q_122 ⟨by decide, by decide⟩ rfl rfl rfl (va_recv hF.2.1 hP (ci := 4) (q0 := 0) rfl rfl) (hZ.at hS hAB) (hP) hl.1 rfl (Nat.le_of_ble_eq_true rfl) dX4_correct_49 ⟨Nat.le_refl _, Nat.le_refl _⟩) hS (xin_sub [0, 1, 2, 3, 4, 5, 6] rfl) (xin_sub [0, 1, 2, 3, 4, 5, 6] rfl) (fun H locs hq_ hz_ hk_ hS => ?_)
          have hw_ := hq_
          have hP : va_P g.1 vwCl [(mo, .inr (4, [.ref mn, .ref mp, .int (nI (recS zs + 1)), .ref mq, .int (xz (zk)), .ref mt, .int (nI zl), .ref mm, .int (nI zp), .ref md, .int (nI zr)])), (mn, .inl (g.2.1 0, 988, .inl (w))), (mp, .inl (g.2.1 0, 3952, .inl (recP w pa zs))), (mq, .inl (g.2.1 0, 988, .inl (sn))), (mt, .inl (g.2.1 1, 60, .inl (tx))), (mm, .inl (g.2.1 0, 48, .inl (me))), (md, .inl (g.2.1 0, 40, .inl (td)))] H := xjoin hP hD hw_ hk_ [0, 1, 2, 3, 4, 5, 6] [(true, 0), (true, 1), (true, 2), (true, 3), (true, 4), (true, 5), (true, 6)] rfl rfl rfl
          have hD : va_D (MF mo mn mp mq mt mm md) [(mo, .inr (4, [.ref mn, .ref mp, .int (nI (recS zs + 1)), .ref mq, .int (xz (zk)), .ref mt, .int (nI zl), .ref mm, .int (nI zp), .ref md, .int (nI zr)])), (mn, .inl (g.2.1 0, 988, .inl (w))), (mp, .inl (g.2.1 0, 3952, .inl (recP w pa zs))), (mq, .inl (g.2.1 0, 988, .inl (sn))), (mt, .inl (g.2.1 1, 60, .inl (tx))), (mm, .inl (g.2.1 0, 48, .inl (me))), (md, .inl (g.2.1 0, 40, .inl (td)))] := va_D_eq (by rfl) hD
          refine lv_aload_n hx hb dX4_correct_52 rfl (lv_at hl 0 rfl) ?_
          refine lv_iload_n hx hb dX4_correct_53 rfl (lv_at hl 2 rfl) ?_
          refine xcv (xrV hF (c_X4_laysMeant l g mo mn mp mq mt mm md (recS zs + 1) zl zp zr zk w (recP w pa zs) sn tx me td hD hAB hW k (by omega)) cal_X4_laysMeant q_282 ⟨by decide, by decide⟩ rfl rfl rfl (va_recv hF.2.1 hP (ci := 4) (q0 := 0) rfl rfl) (hZ.at hS hAB) (hP) hl.1 rfl (Nat.le_of_ble_eq_true rfl) dX4_correct_54 ⟨Nat.le_refl _, Nat.le_refl _⟩) hS (xin_sub [0, 1, 2, 3, 4, 5, 6] rfl) (xin_sub [0, 1, 2, 3, 4, 5, 6] rfl) (fun H locs hq_ hz_ hk_ hS => ?_)
          have hw_ := hq_
          have hP : va_P g.1 vwCl [(mo, .inr (4, [.ref mn, .ref mp, .int (nI (recS zs + 1)), .ref mq, .int (xz (zk)), .ref mt, .int (nI zl), .ref mm, .int (nI zp), .ref md, .int (nI zr)])), (mn, .inl (g.2.1 0, 988, .inl (w))), (mp, .inl (g.2.1 0, 3952, .inl (recP w pa zs))), (mq, .inl (g.2.1 0, 988, .inl (sn))), (mt, .inl (g.2.1 1, 60, .inl (tx))), (mm, .inl (g.2.1 0, 48, .inl (va_cpy (fun i9 => mean w i9 k) me 0 0 (nr w)))), (md, .inl (g.2.1 0, 40, .inl (td)))] H := xjoin hP hD hw_ hk_ [0, 1, 2, 3, 4, 5, 6] [(true, 0), (true, 1), (true, 2), (true, 3), (true, 4), (true, 5), (true, 6)] rfl rfl rfl
          have hD : va_D (MF mo mn mp mq mt mm md) [(mo, .inr (4, [.ref mn, .ref mp, .int (nI (recS zs + 1)), .ref mq, .int (xz (zk)), .ref mt, .int (nI zl), .ref mm, .int (nI zp), .ref md, .int (nI zr)])), (mn, .inl (g.2.1 0, 988, .inl (w))), (mp, .inl (g.2.1 0, 3952, .inl (recP w pa zs))), (mq, .inl (g.2.1 0, 988, .inl (sn))), (mt, .inl (g.2.1 1, 60, .inl (tx))), (mm, .inl (g.2.1 0, 48, .inl (va_cpy (fun i9 => mean w i9 k) me 0 0 (nr w)))), (md, .inl (g.2.1 0, 40, .inl (td)))] := va_D_eq (by rfl) hD
          refine lv_iload_n hx hb dX4_correct_57 rfl (lv_at hl 1 rfl) ?_
          refine lv_iload_n hx hb dX4_correct_58 rfl (lv_at hl 2 rfl) ?_
          refine vp_callSi (va_Run.run (xrS hF (c_X4_cellAt l g r k ) cal_X4_cellAt q_134 ⟨by decide, by decide⟩ rfl rfl rfl (hZ.at hS hAB) (trivial) hl.1 rfl (Nat.le_of_ble_eq_true rfl) dX4_correct_59 ⟨Nat.le_refl _, Nat.le_refl _⟩)) (fun r_ h_ => ?_)
          subst h_
          refine lv_istore (lv' := [(4, .int (nI (28 + 5 * (4 * r + k)))), (0, .ref mo), (1, .int (nI r)), (2, .int (nI k)), (3, .int (z))]) hx hb dX4_correct_62 hl (by decide) rfl (fun ls hl => ?_)
          refine lv_aload_n hx hb dX4_correct_64 rfl (lv_at hl 1 rfl) ?_
          refine gf_X4_X4_now hF hP 0 rfl rfl dX4_correct_65 ?_
          refine lv_iload hx hb dX4_correct_68 (lv_at hl 0 rfl) ?_
          refine lv_dup2_11 hx hb dX4_correct_70 rfl rfl ?_
          refine xA_ild hF hP 1 rfl (by omega) (by decide) (v := nI (cnt w (4 * r + k))) (hW.c (by omega)) dX4_correct_71 ?_
          refine xN_const hx hb 1 dX4_correct_72 (by decide) ?_
          refine xN_add hx hb dX4_correct_73 ?_
          refine xA_ist hF hP hD hS 1 rfl (by omega) (by decide) dX4_correct_74 (fun H locs hP hS => ?_)
          have hP : va_P g.1 vwCl [(mo, .inr (4, [.ref mn, .ref mp, .int (nI (recS zs + 1)), .ref mq, .int (xz (zk)), .ref mt, .int (nI zl), .ref mm, .int (nI zp), .ref md, .int (nI zr)])), (mn, .inl (g.2.1 0, 988, .inl (upd (w) (28 + 5 * (4 * r + k)) (nI (cnt w (4 * r + k) + 1))))), (mp, .inl (g.2.1 0, 3952, .inl (recP w pa zs))), (mq, .inl (g.2.1 0, 988, .inl (sn))), (mt, .inl (g.2.1 1, 60, .inl (tx))), (mm, .inl (g.2.1 0, 48, .inl (va_cpy (fun i9 => mean w i9 k) me 0 0 (nr w)))), (md, .inl (g.2.1 0, 40, .inl (td)))] H := hP
          have hD : va_D (MF mo mn mp mq mt mm md) [(mo, .inr (4, [.ref mn, .ref mp, .int (nI (recS zs + 1)), .ref mq, .int (xz (zk)), .ref mt, .int (nI zl), .ref mm, .int (nI zp), .ref md, .int (nI zr)])), (mn, .inl (g.2.1 0, 988, .inl (upd (w) (28 + 5 * (4 * r + k)) (nI (cnt w (4 * r + k) + 1))))), (mp, .inl (g.2.1 0, 3952, .inl (recP w pa zs))), (mq, .inl (g.2.1 0, 988, .inl (sn))), (mt, .inl (g.2.1 1, 60, .inl (tx))), (mm, .inl (g.2.1 0, 48, .inl (va_cpy (fun i9 => mean w i9 k) me 0 0 (nr w)))), (md, .inl (g.2.1 0, 40, .inl (td)))] := (va_D_eq (by rfl) hD)
          refine lv_aload_n hx hb dX4_correct_75 rfl (lv_at hl 1 rfl) ?_
          refine gf_X4_X4_now hF hP 0 rfl rfl dX4_correct_76 ?_
          refine lv_iload hx hb dX4_correct_79 (lv_at hl 0 rfl) ?_
          refine lv_aload_n hx hb dX4_correct_81 rfl (lv_at hl 1 rfl) ?_
          refine gf_X4_X4_now hF hP 0 rfl rfl dX4_correct_82 ?_
          refine lv_iload hx hb dX4_correct_85 (lv_at hl 0 rfl) ?_
          refine xA_ild hF hP 1 rfl (by omega) (by decide) (v := nI (cnt w (4 * r + k) + 1)) (upd_at _ _ _) dX4_correct_87 ?_
          refine xN_add hx hb dX4_correct_88 ?_
          refine lv_iload_n hx hb dX4_correct_89 rfl (lv_at hl 4 rfl) ?_
          refine xA_ist hF hP hD hS 1 rfl (by omega) (by decide) dX4_correct_90 (fun H locs hP hS => ?_)
          have hP : va_P g.1 vwCl [(mo, .inr (4, [.ref mn, .ref mp, .int (nI (recS zs + 1)), .ref mq, .int (xz (zk)), .ref mt, .int (nI zl), .ref mm, .int (nI zp), .ref md, .int (nI zr)])), (mn, .inl (g.2.1 0, 988, .inl (upd (upd (w) (28 + 5 * (4 * r + k)) (nI (cnt w (4 * r + k) + 1))) (28 + 5 * (4 * r + k) + (cnt w (4 * r + k) + 1)) ((z))))), (mp, .inl (g.2.1 0, 3952, .inl (recP w pa zs))), (mq, .inl (g.2.1 0, 988, .inl (sn))), (mt, .inl (g.2.1 1, 60, .inl (tx))), (mm, .inl (g.2.1 0, 48, .inl (va_cpy (fun i9 => mean w i9 k) me 0 0 (nr w)))), (md, .inl (g.2.1 0, 40, .inl (td)))] H := hP
          have hD : va_D (MF mo mn mp mq mt mm md) [(mo, .inr (4, [.ref mn, .ref mp, .int (nI (recS zs + 1)), .ref mq, .int (xz (zk)), .ref mt, .int (nI zl), .ref mm, .int (nI zp), .ref md, .int (nI zr)])), (mn, .inl (g.2.1 0, 988, .inl (upd (upd (w) (28 + 5 * (4 * r + k)) (nI (cnt w (4 * r + k) + 1))) (28 + 5 * (4 * r + k) + (cnt w (4 * r + k) + 1)) ((z))))), (mp, .inl (g.2.1 0, 3952, .inl (recP w pa zs))), (mq, .inl (g.2.1 0, 988, .inl (sn))), (mt, .inl (g.2.1 1, 60, .inl (tx))), (mm, .inl (g.2.1 0, 48, .inl (va_cpy (fun i9 => mean w i9 k) me 0 0 (nr w)))), (md, .inl (g.2.1 0, 40, .inl (td)))] := (va_D_eq (by rfl) hD)
          have e_w2 : (upd (upd (w) (28 + 5 * (4 * r + k)) (nI (cnt w (4 * r + k) + 1))) (28 + 5 * (4 * r + k) + (cnt w (4 * r + k) + 1)) ((z))) = corW w r k z := rfl
          rw [e_w2] at hP hD
          have h_w2 : WF (corW w r k z) := hW.cor hk hr hxe (by omega)
          generalize hg_w2 : corW w r k z = w2 at hP hD h_w2
          have hP : va_P g.1 vwCl [(mo, .inr (4, [.ref mn, .ref mp, .int (nI (recS zs + 1)), .ref mq, .int (xz (zk)), .ref mt, .int (nI zl), .ref mm, .int (nI zp), .ref md, .int (nI zr)])), (mn, .inl (g.2.1 0, 988, .inl (w2))), (mp, .inl (g.2.1 0, 3952, .inl (recP w pa zs))), (mq, .inl (g.2.1 0, 988, .inl (sn))), (mt, .inl (g.2.1 1, 60, .inl (tx))), (mm, .inl (g.2.1 0, 48, .inl (va_cpy (fun i9 => mean w i9 k) me 0 0 (nr w)))), (md, .inl (g.2.1 0, 40, .inl (td)))] H := hP
          have hD : va_D (MF mo mn mp mq mt mm md) [(mo, .inr (4, [.ref mn, .ref mp, .int (nI (recS zs + 1)), .ref mq, .int (xz (zk)), .ref mt, .int (nI zl), .ref mm, .int (nI zp), .ref md, .int (nI zr)])), (mn, .inl (g.2.1 0, 988, .inl (w2))), (mp, .inl (g.2.1 0, 3952, .inl (recP w pa zs))), (mq, .inl (g.2.1 0, 988, .inl (sn))), (mt, .inl (g.2.1 1, 60, .inl (tx))), (mm, .inl (g.2.1 0, 48, .inl (va_cpy (fun i9 => mean w i9 k) me 0 0 (nr w)))), (md, .inl (g.2.1 0, 40, .inl (td)))] := hD
          have hnr : nr w2 = nr w := by rw [← hg_w2]; unfold corW; exact nr_of (by rw [upd_off (by omega), upd_off (by omega)])
          have he : nI (ctR (fun i9 => !(mean w2 i9 k == (va_cpy (fun i9 => mean w i9 k) me 0 0 (nr w)) i9)) 0 (nr w2)) = nI (othN w w2 k) := by unfold othN; rw [hnr]; exact congrArg nI (ctR_cong (fun j hj => by rw [xcpy0_in (by omega)]))
          refine lv_aload_n hx hb dX4_correct_91 rfl (lv_at hl 1 rfl) ?_
          refine lv_iload_n hx hb dX4_correct_92 rfl (lv_at hl 3 rfl) ?_
          refine vp_callSi (va_Run.run (xrV hF (c_X4_others l g mo mn mp mq mt mm md (recS zs + 1) zl zp zr zk w2 (va_cpy (fun i9 => mean w i9 k) me 0 0 (nr w)) h_w2 k (by omega)) cal_X4_others q_298 ⟨by decide, by decide⟩ rfl rfl rfl (va_recv hF.2.1 hP (ci := 4) (q0 := 0) rfl rfl) (hZ.at hS hAB) (hP.sub [0, 1, 5] rfl) hl.1 rfl (Nat.le_of_ble_eq_true rfl) dX4_correct_93 ⟨Nat.le_refl _, Nat.le_refl _⟩)) (fun r_ h_ => ?_)
          subst h_
          rw [show (nI (ctR (fun i9 => !(mean w2 i9 k == (va_cpy (fun i9 => mean w i9 k) me 0 0 (nr w)) i9)) 0 (nr w2)) : Int32) = nI (othN w w2 k) from he]
          exact xend_i (V := nI (othN w w2 k)) hF hret hlocks hS (⟨by unfold corA; rw [if_pos c_6, ek, if_pos c_16, er, if_neg c_29, if_neg c_42, hg_w2], fun h => absurd h (by rw [show (corB w (nI r) (nI k) z) = true from (by simp [corB, c_6, ek, c_16, er, c_29, c_42])]; decide), fun _ => ⟨_, by rw [er, ek, hg_w2]; exact hP⟩⟩) dX4_correct_96
        · refine lv_bipush hx hb (v := (-5)) dX4_correct_45 (by decide) ?_
          exact xend_i (V := (-5)) hF hret hlocks hS (⟨by unfold corA; rw [if_pos c_6, ek, if_pos c_16, er, if_neg c_29, if_pos c_42], fun _ => hP, fun h => absurd h (by rw [show (corB w (nI r) (nI k) z) = false from (by simp [corB, c_6, ek, c_16, er, c_29, c_42])]; decide)⟩) dX4_correct_47
      · refine lv_bipush hx hb (v := (-3)) dX4_correct_32 (by decide) ?_
        exact xend_i (V := (-3)) hF hret hlocks hS (⟨by unfold corA; rw [if_pos c_6, ek, if_pos c_16, er, if_pos c_29], fun _ => hP, fun h => absurd h (by rw [show (corB w (nI r) (nI k) z) = false from (by simp [corB, c_6, ek, c_16, er, c_29])]; decide)⟩) dX4_correct_34
    · refine lv_bipush hx hb (v := (-2)) dX4_correct_19 (by decide) ?_
      exact xend_i (V := (-2)) hF hret hlocks hS (⟨by unfold corA; rw [if_pos c_6, ek, c_16]; rfl, fun _ => hP, fun h => absurd h (by rw [show (corB w (nI r) (nI k) z) = false from (by simp [corB, c_6, ek, c_16])]; decide)⟩) dX4_correct_21
  · refine lv_iconst hx hb (v := (-1)) dX4_correct_9 (by decide) ?_
    exact xend_i (V := (-1)) hF hret hlocks hS (⟨by unfold corA; rw [c_6]; rfl, fun _ => hP, fun h => absurd h (by rw [show (corB w x y z) = false from (by simp [corB, c_6])]; decide)⟩) dX4_correct_10
set_option maxHeartbeats 4000000 in
set_option maxRecDepth 100000 in
theorem c_X4_takeBack (l : Launch) (g : XG) (mo mn mp mq mt mm md zs zl zp zr : Nat) (zk : Bool) (w pa sn tx me td : Nat → Int32) (hD : va_D (MF mo mn mp mq mt mm md) (ModW g mo mn mp mq mt mm md zs zl zp zr zk w pa sn tx me td)) (hAB : ∀ q, MF mo mn mp mq mt mm md q → xB g q) (hW : WF w) (hz4 : zs ≤ 4) (x y : Int32) : Met l yX4_takeBack (ww yX4_takeBack cX4_takeBack 4 (some .int)) (rmD 7) (xP g [.ref mo, .int (x), .int (y)] (fun H => va_P g.1 vwCl (ModW g mo mn mp mq mt mm md zs zl zp zr zk w pa sn tx me td) H)) (xQi (fun r9 H => r9 = tkbA w x y ∧ (tkbB w x y = false → va_P g.1 vwCl (ModW g mo mn mp mq mt mm md (zs) (zl) (zp) (zr) (zk) (w) (pa) (sn) (tx) (me) (td)) H) ∧ (tkbB w x y = true → ∃ me2 : Nat → Int32, va_P g.1 vwCl (ModW g mo mn mp mq mt mm md (recS zs + 1) (zl) (zp) (zr) (zk) (tkbW w x.toNatClampNeg y.toNatClampNeg) (recP w pa zs) (sn) (tx) (me2) (td)) H)) (MF mo mn mp mq mt mm md)) 0 0 (MF mo mn mp mq mt mm md) := by
  refine xMetM (by decide) rfl (Nat.le_of_ble_eq_true rfl) ?_
  intro p e s m below meth c ls H locs hF hZ hh hS hret hlocks hin hl
  have hx := hF.1.1
  have hb := hF.1.2.1
  have hP := hh
  have hP : va_P g.1 vwCl (ModW g mo mn mp mq mt mm md zs zl zp zr zk w pa sn tx me td) H := hP
  have hl : lv_has ls 4 [(0, .ref mo), (1, .int (x)), (2, .int (y))] := hl
  have h48 := hW.n48
  have hp4 := hW.pg4
  have hp12 := hW.pg12
  have hs1 := hW.st1
  have hw2 := hW.wr2
  have hw6 := hW.wr6
  refine lv_aload_n hx hb dX4_takeBack_0 rfl (lv_at hl 0 rfl) ?_
  refine lv_iload_n hx hb dX4_takeBack_1 rfl (lv_at hl 1 rfl) ?_
  refine lv_iload_n hx hb dX4_takeBack_2 rfl (lv_at hl 2 rfl) ?_
  refine vp_callSi (va_Run.run (xrV hF (c_X4_isCell l g mo mn mp mq mt mm md zs zl zp zr zk w hW ((x)) ((y)) ) cal_X4_isCell q_263 ⟨by decide, by decide⟩ rfl rfl rfl (va_recv hF.2.1 hP (ci := 4) (q0 := 0) rfl rfl) (hZ.at hS hAB) (hP.sub [0, 1] rfl) hl.1 rfl (Nat.le_of_ble_eq_true rfl) dX4_takeBack_3 ⟨Nat.le_refl _, Nat.le_refl _⟩)) (fun r_ h_ => ?_)
  subst h_
  refine xZ_ne (tgt := 11) hx hb dX4_takeBack_6 (by decide) (fun c_6 => ?_) (fun c_6 => ?_)
  · obtain ⟨q1, q2⟩ := Bool.and_eq_true_iff.mp c_6
    obtain ⟨r, hr, rfl⟩ := (rowB_iff hW).mp q1
    obtain ⟨k, hk, rfl⟩ := colB_iff.mp q2
    have er : (nI r).toNatClampNeg = r := nI_clamp (by omega)
    have ek : (nI k).toNatClampNeg = k := nI_clamp (by omega)
    have hc4 := hW.c4 (i := 4 * r + k) (by omega)
    have hc1 := hW.c1 (i := 4 * r + k) (by omega)
    refine lv_aload_n hx hb dX4_takeBack_11 rfl (lv_at hl 0 rfl) ?_
    refine lv_iload_n hx hb dX4_takeBack_12 rfl (lv_at hl 1 rfl) ?_
    refine lv_iload_n hx hb dX4_takeBack_13 rfl (lv_at hl 2 rfl) ?_
    refine vp_callSi (va_Run.run (xrV hF (c_X4_entries l g mo mn mp mq mt mm md zs zl zp zr zk w hW r k (by omega) (by omega)) cal_X4_entries q_274 ⟨by decide, by decide⟩ rfl rfl rfl (va_recv hF.2.1 hP (ci := 4) (q0 := 0) rfl rfl) (hZ.at hS hAB) (hP.sub [0, 1] rfl) hl.1 rfl (Nat.le_of_ble_eq_true rfl) dX4_takeBack_14 ⟨Nat.le_refl _, Nat.le_refl _⟩)) (fun r_ h_ => ?_)
    subst h_
    refine xN_const hx hb 1 dX4_takeBack_17 (by decide) ?_
    refine xC_ne (tgt := 24) hx hb (by omega) (by omega) dX4_takeBack_18 (by decide) (fun c_18 => ?_) (fun c_18 => ?_)
    · refine lv_aload_n hx hb dX4_takeBack_24 rfl (lv_at hl 0 rfl) ?_
      refine xcv (xrV hF (c_X4_records l g mo mn mp mq mt mm md zs zl zp zr zk w pa sn tx me td hD hAB (by omega)) cal_X4_records q_122 ⟨by decide, by decide⟩ rfl rfl rfl (va_recv hF.2.1 hP (ci := 4) (q0 := 0) rfl rfl) (hZ.at hS hAB) (hP) hl.1 rfl (Nat.le_of_ble_eq_true rfl) dX4_takeBack_25 ⟨Nat.le_refl _, Nat.le_refl _⟩) hS (xin_sub [0, 1, 2, 3, 4, 5, 6] rfl) (xin_sub [0, 1, 2, 3, 4, 5, 6] rfl) (fun H locs hq_ hz_ hk_ hS => ?_)
      have hw_ := hq_
      have hP : va_P g.1 vwCl [(mo, .inr (4, [.ref mn, .ref mp, .int (nI (recS zs + 1)), .ref mq, .int (xz (zk)), .ref mt, .int (nI zl), .ref mm, .int (nI zp), .ref md, .int (nI zr)])), (mn, .inl (g.2.1 0, 988, .inl (w))), (mp, .inl (g.2.1 0, 3952, .inl (recP w pa zs))), (mq, .inl (g.2.1 0, 988, .inl (sn))), (mt, .inl (g.2.1 1, 60, .inl (tx))), (mm, .inl (g.2.1 0, 48, .inl (me))), (md, .inl (g.2.1 0, 40, .inl (td)))] H := xjoin hP hD hw_ hk_ [0, 1, 2, 3, 4, 5, 6] [(true, 0), (true, 1), (true, 2), (true, 3), (true, 4), (true, 5), (true, 6)] rfl rfl rfl
      have hD : va_D (MF mo mn mp mq mt mm md) [(mo, .inr (4, [.ref mn, .ref mp, .int (nI (recS zs + 1)), .ref mq, .int (xz (zk)), .ref mt, .int (nI zl), .ref mm, .int (nI zp), .ref md, .int (nI zr)])), (mn, .inl (g.2.1 0, 988, .inl (w))), (mp, .inl (g.2.1 0, 3952, .inl (recP w pa zs))), (mq, .inl (g.2.1 0, 988, .inl (sn))), (mt, .inl (g.2.1 1, 60, .inl (tx))), (mm, .inl (g.2.1 0, 48, .inl (me))), (md, .inl (g.2.1 0, 40, .inl (td)))] := va_D_eq (by rfl) hD
      refine lv_aload_n hx hb dX4_takeBack_28 rfl (lv_at hl 0 rfl) ?_
      refine lv_iload_n hx hb dX4_takeBack_29 rfl (lv_at hl 2 rfl) ?_
      refine xcv (xrV hF (c_X4_laysMeant l g mo mn mp mq mt mm md (recS zs + 1) zl zp zr zk w (recP w pa zs) sn tx me td hD hAB hW k (by omega)) cal_X4_laysMeant q_282 ⟨by decide, by decide⟩ rfl rfl rfl (va_recv hF.2.1 hP (ci := 4) (q0 := 0) rfl rfl) (hZ.at hS hAB) (hP) hl.1 rfl (Nat.le_of_ble_eq_true rfl) dX4_takeBack_30 ⟨Nat.le_refl _, Nat.le_refl _⟩) hS (xin_sub [0, 1, 2, 3, 4, 5, 6] rfl) (xin_sub [0, 1, 2, 3, 4, 5, 6] rfl) (fun H locs hq_ hz_ hk_ hS => ?_)
      have hw_ := hq_
      have hP : va_P g.1 vwCl [(mo, .inr (4, [.ref mn, .ref mp, .int (nI (recS zs + 1)), .ref mq, .int (xz (zk)), .ref mt, .int (nI zl), .ref mm, .int (nI zp), .ref md, .int (nI zr)])), (mn, .inl (g.2.1 0, 988, .inl (w))), (mp, .inl (g.2.1 0, 3952, .inl (recP w pa zs))), (mq, .inl (g.2.1 0, 988, .inl (sn))), (mt, .inl (g.2.1 1, 60, .inl (tx))), (mm, .inl (g.2.1 0, 48, .inl (va_cpy (fun i9 => mean w i9 k) me 0 0 (nr w)))), (md, .inl (g.2.1 0, 40, .inl (td)))] H := xjoin hP hD hw_ hk_ [0, 1, 2, 3, 4, 5, 6] [(true, 0), (true, 1), (true, 2), (true, 3), (true, 4), (true, 5), (true, 6)] rfl rfl rfl
      have hD : va_D (MF mo mn mp mq mt mm md) [(mo, .inr (4, [.ref mn, .ref mp, .int (nI (recS zs + 1)), .ref mq, .int (xz (zk)), .ref mt, .int (nI zl), .ref mm, .int (nI zp), .ref md, .int (nI zr)])), (mn, .inl (g.2.1 0, 988, .inl (w))), (mp, .inl (g.2.1 0, 3952, .inl (recP w pa zs))), (mq, .inl (g.2.1 0, 988, .inl (sn))), (mt, .inl (g.2.1 1, 60, .inl (tx))), (mm, .inl (g.2.1 0, 48, .inl (va_cpy (fun i9 => mean w i9 k) me 0 0 (nr w)))), (md, .inl (g.2.1 0, 40, .inl (td)))] := va_D_eq (by rfl) hD
      refine lv_iload_n hx hb dX4_takeBack_33 rfl (lv_at hl 1 rfl) ?_
      refine lv_iload_n hx hb dX4_takeBack_34 rfl (lv_at hl 2 rfl) ?_
      refine vp_callSi (va_Run.run (xrS hF (c_X4_cellAt l g r k ) cal_X4_cellAt q_134 ⟨by decide, by decide⟩ rfl rfl rfl (hZ.at hS hAB) (trivial) hl.1 rfl (Nat.le_of_ble_eq_true rfl) dX4_takeBack_35 ⟨Nat.le_refl _, Nat.le_refl _⟩)) (fun r_ h_ => ?_)
      subst h_
      refine lv_istore_n (lv' := [(3, .int (nI (28 + 5 * (4 * r + k)))), (0, .ref mo), (1, .int (nI r)), (2, .int (nI k))]) hx hb dX4_takeBack_38 rfl hl (by decide) rfl (fun ls hl => ?_)
      refine lv_aload_n hx hb dX4_takeBack_39 rfl (lv_at hl 1 rfl) ?_
      refine gf_X4_X4_now hF hP 0 rfl rfl dX4_takeBack_40 ?_
      refine lv_iload_n hx hb dX4_takeBack_43 rfl (lv_at hl 0 rfl) ?_
      refine lv_aload_n hx hb dX4_takeBack_44 rfl (lv_at hl 1 rfl) ?_
      refine gf_X4_X4_now hF hP 0 rfl rfl dX4_takeBack_45 ?_
      refine lv_iload_n hx hb dX4_takeBack_48 rfl (lv_at hl 0 rfl) ?_
      refine xA_ild hF hP 1 rfl (by omega) (by decide) (v := nI (cnt w (4 * r + k))) (hW.c (by omega)) dX4_takeBack_49 ?_
      refine xN_add hx hb dX4_takeBack_50 ?_
      refine xN_const hx hb 0 dX4_takeBack_51 (by decide) ?_
      refine xA_ist hF hP hD hS 1 rfl (by omega) (by decide) dX4_takeBack_52 (fun H locs hP hS => ?_)
      have hP : va_P g.1 vwCl [(mo, .inr (4, [.ref mn, .ref mp, .int (nI (recS zs + 1)), .ref mq, .int (xz (zk)), .ref mt, .int (nI zl), .ref mm, .int (nI zp), .ref md, .int (nI zr)])), (mn, .inl (g.2.1 0, 988, .inl (upd (w) (28 + 5 * (4 * r + k) + (cnt w (4 * r + k))) (nI (0))))), (mp, .inl (g.2.1 0, 3952, .inl (recP w pa zs))), (mq, .inl (g.2.1 0, 988, .inl (sn))), (mt, .inl (g.2.1 1, 60, .inl (tx))), (mm, .inl (g.2.1 0, 48, .inl (va_cpy (fun i9 => mean w i9 k) me 0 0 (nr w)))), (md, .inl (g.2.1 0, 40, .inl (td)))] H := hP
      have hD : va_D (MF mo mn mp mq mt mm md) [(mo, .inr (4, [.ref mn, .ref mp, .int (nI (recS zs + 1)), .ref mq, .int (xz (zk)), .ref mt, .int (nI zl), .ref mm, .int (nI zp), .ref md, .int (nI zr)])), (mn, .inl (g.2.1 0, 988, .inl (upd (w) (28 + 5 * (4 * r + k) + (cnt w (4 * r + k))) (nI (0))))), (mp, .inl (g.2.1 0, 3952, .inl (recP w pa zs))), (mq, .inl (g.2.1 0, 988, .inl (sn))), (mt, .inl (g.2.1 1, 60, .inl (tx))), (mm, .inl (g.2.1 0, 48, .inl (va_cpy (fun i9 => mean w i9 k) me 0 0 (nr w)))), (md, .inl (g.2.1 0, 40, .inl (td)))] := (va_D_eq (by rfl) hD)
      refine lv_aload_n hx hb dX4_takeBack_53 rfl (lv_at hl 1 rfl) ?_
      refine gf_X4_X4_now hF hP 0 rfl rfl dX4_takeBack_54 ?_
      refine lv_iload_n hx hb dX4_takeBack_57 rfl (lv_at hl 0 rfl) ?_
      refine lv_dup2_11 hx hb dX4_takeBack_58 rfl rfl ?_
      refine xA_ild hF hP 1 rfl (by omega) (by decide) (v := nI (cnt w (4 * r + k))) (by rw [upd_off (by omega)]; exact hW.c (by omega)) dX4_takeBack_59 ?_
      refine xN_const hx hb 1 dX4_takeBack_60 (by decide) ?_
      refine xN_sub hx hb (by omega) dX4_takeBack_61 ?_
      refine xA_ist hF hP hD hS 1 rfl (by omega) (by decide) dX4_takeBack_62 (fun H locs hP hS => ?_)
      have hP : va_P g.1 vwCl [(mo, .inr (4, [.ref mn, .ref mp, .int (nI (recS zs + 1)), .ref mq, .int (xz (zk)), .ref mt, .int (nI zl), .ref mm, .int (nI zp), .ref md, .int (nI zr)])), (mn, .inl (g.2.1 0, 988, .inl (upd (upd (w) (28 + 5 * (4 * r + k) + (cnt w (4 * r + k))) (nI (0))) (28 + 5 * (4 * r + k)) (nI ((cnt w (4 * r + k)) - 1))))), (mp, .inl (g.2.1 0, 3952, .inl (recP w pa zs))), (mq, .inl (g.2.1 0, 988, .inl (sn))), (mt, .inl (g.2.1 1, 60, .inl (tx))), (mm, .inl (g.2.1 0, 48, .inl (va_cpy (fun i9 => mean w i9 k) me 0 0 (nr w)))), (md, .inl (g.2.1 0, 40, .inl (td)))] H := hP
      have hD : va_D (MF mo mn mp mq mt mm md) [(mo, .inr (4, [.ref mn, .ref mp, .int (nI (recS zs + 1)), .ref mq, .int (xz (zk)), .ref mt, .int (nI zl), .ref mm, .int (nI zp), .ref md, .int (nI zr)])), (mn, .inl (g.2.1 0, 988, .inl (upd (upd (w) (28 + 5 * (4 * r + k) + (cnt w (4 * r + k))) (nI (0))) (28 + 5 * (4 * r + k)) (nI ((cnt w (4 * r + k)) - 1))))), (mp, .inl (g.2.1 0, 3952, .inl (recP w pa zs))), (mq, .inl (g.2.1 0, 988, .inl (sn))), (mt, .inl (g.2.1 1, 60, .inl (tx))), (mm, .inl (g.2.1 0, 48, .inl (va_cpy (fun i9 => mean w i9 k) me 0 0 (nr w)))), (md, .inl (g.2.1 0, 40, .inl (td)))] := (va_D_eq (by rfl) hD)
      have e_w2 : (upd (upd (w) (28 + 5 * (4 * r + k) + (cnt w (4 * r + k))) (nI (0))) (28 + 5 * (4 * r + k)) (nI ((cnt w (4 * r + k)) - 1))) = tkbW w r k := rfl
      rw [e_w2] at hP hD
      have h_w2 : WF (tkbW w r k) := hW.tkb hk hr c_18
      generalize hg_w2 : tkbW w r k = w2 at hP hD h_w2
      have hP : va_P g.1 vwCl [(mo, .inr (4, [.ref mn, .ref mp, .int (nI (recS zs + 1)), .ref mq, .int (xz (zk)), .ref mt, .int (nI zl), .ref mm, .int (nI zp), .ref md, .int (nI zr)])), (mn, .inl (g.2.1 0, 988, .inl (w2))), (mp, .inl (g.2.1 0, 3952, .inl (recP w pa zs))), (mq, .inl (g.2.1 0, 988, .inl (sn))), (mt, .inl (g.2.1 1, 60, .inl (tx))), (mm, .inl (g.2.1 0, 48, .inl (va_cpy (fun i9 => mean w i9 k) me 0 0 (nr w)))), (md, .inl (g.2.1 0, 40, .inl (td)))] H := hP
      have hD : va_D (MF mo mn mp mq mt mm md) [(mo, .inr (4, [.ref mn, .ref mp, .int (nI (recS zs + 1)), .ref mq, .int (xz (zk)), .ref mt, .int (nI zl), .ref mm, .int (nI zp), .ref md, .int (nI zr)])), (mn, .inl (g.2.1 0, 988, .inl (w2))), (mp, .inl (g.2.1 0, 3952, .inl (recP w pa zs))), (mq, .inl (g.2.1 0, 988, .inl (sn))), (mt, .inl (g.2.1 1, 60, .inl (tx))), (mm, .inl (g.2.1 0, 48, .inl (va_cpy (fun i9 => mean w i9 k) me 0 0 (nr w)))), (md, .inl (g.2.1 0, 40, .inl (td)))] := hD
      have hnr : nr w2 = nr w := by rw [← hg_w2]; unfold tkbW; exact nr_of (by rw [upd_off (by omega), upd_off (by omega)])
      have he : nI (ctR (fun i9 => !(mean w2 i9 k == (va_cpy (fun i9 => mean w i9 k) me 0 0 (nr w)) i9)) 0 (nr w2)) = nI (othN w w2 k) := by unfold othN; rw [hnr]; exact congrArg nI (ctR_cong (fun j hj => by rw [xcpy0_in (by omega)]))
      refine lv_aload_n hx hb dX4_takeBack_63 rfl (lv_at hl 1 rfl) ?_
      refine lv_iload_n hx hb dX4_takeBack_64 rfl (lv_at hl 3 rfl) ?_
      refine vp_callSi (va_Run.run (xrV hF (c_X4_others l g mo mn mp mq mt mm md (recS zs + 1) zl zp zr zk w2 (va_cpy (fun i9 => mean w i9 k) me 0 0 (nr w)) h_w2 k (by omega)) cal_X4_others q_298 ⟨by decide, by decide⟩ rfl rfl rfl (va_recv hF.2.1 hP (ci := 4) (q0 := 0) rfl rfl) (hZ.at hS hAB) (hP.sub [0, 1, 5] rfl) hl.1 rfl (Nat.le_of_ble_eq_true rfl) dX4_takeBack_65 ⟨Nat.le_refl _, Nat.le_refl _⟩)) (fun r_ h_ => ?_)
      subst h_
      rw [show (nI (ctR (fun i9 => !(mean w2 i9 k == (va_cpy (fun i9 => mean w i9 k) me 0 0 (nr w)) i9)) 0 (nr w2)) : Int32) = nI (othN w w2 k) from he]
      exact xend_i (V := nI (othN w w2 k)) hF hret hlocks hS (⟨by unfold tkbA; rw [if_pos c_6, er, ek, if_neg c_18, hg_w2], fun h => absurd h (by rw [show (tkbB w (nI r) (nI k)) = true from (by simp [tkbB, c_6, er, ek, c_18])]; decide), fun _ => ⟨_, by rw [er, ek, hg_w2]; exact hP⟩⟩) dX4_takeBack_68
    · refine lv_bipush hx hb (v := (-4)) dX4_takeBack_21 (by decide) ?_
      exact xend_i (V := (-4)) hF hret hlocks hS (⟨by unfold tkbA; rw [if_pos c_6, er, ek, if_pos c_18], fun _ => hP, fun h => absurd h (by rw [show (tkbB w (nI r) (nI k)) = false from (by simp [tkbB, c_6, er, ek, c_18])]; decide)⟩) dX4_takeBack_23
  · refine lv_iconst hx hb (v := (-1)) dX4_takeBack_9 (by decide) ?_
    exact xend_i (V := (-1)) hF hret hlocks hS (⟨by unfold tkbA; rw [c_6]; rfl, fun _ => hP, fun h => absurd h (by rw [show (tkbB w x y) = false from (by simp [tkbB, c_6])]; decide)⟩) dX4_takeBack_10
set_option maxHeartbeats 4000000 in
set_option maxRecDepth 100000 in
theorem c_X4_wouldChange (l : Launch) (g : XG) (mo mn mp mq mt mm md zs zl zp zr : Nat) (zk : Bool) (w pa sn tx me td : Nat → Int32) (hD : va_D (MF mo mn mp mq mt mm md) (ModW g mo mn mp mq mt mm md zs zl zp zr zk w pa sn tx me td)) (hAB : ∀ q, MF mo mn mp mq mt mm md q → xB g q) (hW : WF w) (x y z : Int32) : Met l yX4_wouldChange (ww yX4_wouldChange cX4_wouldChange 7 (some .int)) (rmD 7) (xP g [.ref mo, .int (x), .int (y), .int (z)] (fun H => va_P g.1 vwCl (ModW g mo mn mp mq mt mm md zs zl zp zr zk w pa sn tx me td) H)) (xQi (fun r9 H => r9 = wldA w x y z ∧ ∃ me2 : Nat → Int32, va_P g.1 vwCl (ModW g mo mn mp mq mt mm md (zs) (zl) (zp) (zr) (zk) (w) (pa) (sn) (tx) (me2) (td)) H) (MF mo mn mp mq mt mm md)) 0 0 (MF mo mn mp mq mt mm md) := by
  refine xMetM (by decide) rfl (Nat.le_of_ble_eq_true rfl) ?_
  intro p e s m below meth c ls H locs hF hZ hh hS hret hlocks hin hl
  have hx := hF.1.1
  have hb := hF.1.2.1
  have hP := hh
  have hP : va_P g.1 vwCl (ModW g mo mn mp mq mt mm md zs zl zp zr zk w pa sn tx me td) H := hP
  have hl : lv_has ls 7 [(0, .ref mo), (1, .int (x)), (2, .int (y)), (3, .int (z))] := hl
  have h48 := hW.n48
  have hp4 := hW.pg4
  have hp12 := hW.pg12
  have hs1 := hW.st1
  have hw2 := hW.wr2
  have hw6 := hW.wr6
  refine lv_aload_n hx hb dX4_wouldChange_0 rfl (lv_at hl 0 rfl) ?_
  refine lv_iload_n hx hb dX4_wouldChange_1 rfl (lv_at hl 1 rfl) ?_
  refine lv_iload_n hx hb dX4_wouldChange_2 rfl (lv_at hl 2 rfl) ?_
  refine vp_callSi (va_Run.run (xrV hF (c_X4_isCell l g mo mn mp mq mt mm md zs zl zp zr zk w hW ((x)) ((y)) ) cal_X4_isCell q_263 ⟨by decide, by decide⟩ rfl rfl rfl (va_recv hF.2.1 hP (ci := 4) (q0 := 0) rfl rfl) (hZ.at hS hAB) (hP.sub [0, 1] rfl) hl.1 rfl (Nat.le_of_ble_eq_true rfl) dX4_wouldChange_3 ⟨Nat.le_refl _, Nat.le_refl _⟩)) (fun r_ h_ => ?_)
  subst h_
  refine xZ_ne (tgt := 11) hx hb dX4_wouldChange_6 (by decide) (fun c_6 => ?_) (fun c_6 => ?_)
  · obtain ⟨q1, q2⟩ := Bool.and_eq_true_iff.mp c_6
    obtain ⟨r, hr, rfl⟩ := (rowB_iff hW).mp q1
    obtain ⟨k, hk, rfl⟩ := colB_iff.mp q2
    have er : (nI r).toNatClampNeg = r := nI_clamp (by omega)
    have ek : (nI k).toNatClampNeg = k := nI_clamp (by omega)
    have hc4 := hW.c4 (i := 4 * r + k) (by omega)
    have hc1 := hW.c1 (i := 4 * r + k) (by omega)
    refine lv_iload_n hx hb dX4_wouldChange_11 rfl (lv_at hl 2 rfl) ?_
    refine lv_iload_n hx hb dX4_wouldChange_12 rfl (lv_at hl 3 rfl) ?_
    refine vp_callSi (va_Run.run (xrS hF (c_X4_isEntry l g k ((z)) (by omega)) cal_X4_isEntry q_113 ⟨by decide, by decide⟩ rfl rfl rfl (hZ.at hS hAB) (trivial) hl.1 rfl (Nat.le_of_ble_eq_true rfl) dX4_wouldChange_13 ⟨Nat.le_refl _, Nat.le_refl _⟩)) (fun r_ h_ => ?_)
    subst h_
    refine xZ_ne (tgt := 22) hx hb dX4_wouldChange_16 (by decide) (fun c_16 => ?_) (fun c_16 => ?_)
    · have hxe := entB_iff.mp c_16
      refine lv_aload_n hx hb dX4_wouldChange_22 rfl (lv_at hl 0 rfl) ?_
      refine lv_iload_n hx hb dX4_wouldChange_23 rfl (lv_at hl 2 rfl) ?_
      refine xcv (xrV hF (c_X4_laysMeant l g mo mn mp mq mt mm md zs zl zp zr zk w pa sn tx me td hD hAB hW k (by omega)) cal_X4_laysMeant q_282 ⟨by decide, by decide⟩ rfl rfl rfl (va_recv hF.2.1 hP (ci := 4) (q0 := 0) rfl rfl) (hZ.at hS hAB) (hP) hl.1 rfl (Nat.le_of_ble_eq_true rfl) dX4_wouldChange_24 ⟨Nat.le_refl _, Nat.le_refl _⟩) hS (xin_sub [0, 1, 2, 3, 4, 5, 6] rfl) (xin_sub [0, 1, 2, 3, 4, 5, 6] rfl) (fun H locs hq_ hz_ hk_ hS => ?_)
      have hw_ := hq_
      have hP : va_P g.1 vwCl [(mo, .inr (4, [.ref mn, .ref mp, .int (nI zs), .ref mq, .int (xz (zk)), .ref mt, .int (nI zl), .ref mm, .int (nI zp), .ref md, .int (nI zr)])), (mn, .inl (g.2.1 0, 988, .inl (w))), (mp, .inl (g.2.1 0, 3952, .inl (pa))), (mq, .inl (g.2.1 0, 988, .inl (sn))), (mt, .inl (g.2.1 1, 60, .inl (tx))), (mm, .inl (g.2.1 0, 48, .inl (va_cpy (fun i9 => mean w i9 k) me 0 0 (nr w)))), (md, .inl (g.2.1 0, 40, .inl (td)))] H := xjoin hP hD hw_ hk_ [0, 1, 2, 3, 4, 5, 6] [(true, 0), (true, 1), (true, 2), (true, 3), (true, 4), (true, 5), (true, 6)] rfl rfl rfl
      have hD : va_D (MF mo mn mp mq mt mm md) [(mo, .inr (4, [.ref mn, .ref mp, .int (nI zs), .ref mq, .int (xz (zk)), .ref mt, .int (nI zl), .ref mm, .int (nI zp), .ref md, .int (nI zr)])), (mn, .inl (g.2.1 0, 988, .inl (w))), (mp, .inl (g.2.1 0, 3952, .inl (pa))), (mq, .inl (g.2.1 0, 988, .inl (sn))), (mt, .inl (g.2.1 1, 60, .inl (tx))), (mm, .inl (g.2.1 0, 48, .inl (va_cpy (fun i9 => mean w i9 k) me 0 0 (nr w)))), (md, .inl (g.2.1 0, 40, .inl (td)))] := va_D_eq (by rfl) hD
      refine lv_iload_n hx hb dX4_wouldChange_27 rfl (lv_at hl 1 rfl) ?_
      refine lv_iload_n hx hb dX4_wouldChange_28 rfl (lv_at hl 2 rfl) ?_
      refine vp_callSi (va_Run.run (xrS hF (c_X4_cellAt l g r k ) cal_X4_cellAt q_134 ⟨by decide, by decide⟩ rfl rfl rfl (hZ.at hS hAB) (trivial) hl.1 rfl (Nat.le_of_ble_eq_true rfl) dX4_wouldChange_29 ⟨Nat.le_refl _, Nat.le_refl _⟩)) (fun r_ h_ => ?_)
      subst h_
      refine lv_aload_n hx hb dX4_wouldChange_32 rfl (lv_at hl 0 rfl) ?_
      refine lv_iload_n hx hb dX4_wouldChange_33 rfl (lv_at hl 1 rfl) ?_
      refine lv_iload_n hx hb dX4_wouldChange_34 rfl (lv_at hl 2 rfl) ?_
      refine vp_callSi (va_Run.run (xrV hF (c_X4_entries l g mo mn mp mq mt mm md zs zl zp zr zk w hW r k (by omega) (by omega)) cal_X4_entries q_274 ⟨by decide, by decide⟩ rfl rfl rfl (va_recv hF.2.1 hP (ci := 4) (q0 := 0) rfl rfl) (hZ.at hS hAB) (hP.sub [0, 1] rfl) hl.1 rfl (Nat.le_of_ble_eq_true rfl) dX4_wouldChange_35 ⟨Nat.le_refl _, Nat.le_refl _⟩)) (fun r_ h_ => ?_)
      subst h_
      refine xN_add hx hb dX4_wouldChange_38 ?_
      refine lv_istore (lv' := [(4, .int (nI (28 + 5 * (4 * r + k) + (cnt w (4 * r + k))))), (0, .ref mo), (1, .int (nI r)), (2, .int (nI k)), (3, .int (z))]) hx hb dX4_wouldChange_39 hl (by decide) rfl (fun ls hl => ?_)
      refine lv_aload_n hx hb dX4_wouldChange_41 rfl (lv_at hl 1 rfl) ?_
      refine gf_X4_X4_now hF hP 0 rfl rfl dX4_wouldChange_42 ?_
      refine lv_iload hx hb dX4_wouldChange_45 (lv_at hl 0 rfl) ?_
      refine xA_ild hF hP 1 rfl (by omega) (by decide) (v := (lat w r k)) rfl dX4_wouldChange_47 ?_
      refine lv_istore (lv' := [(5, .int (lat w r k)), (4, .int (nI (28 + 5 * (4 * r + k) + (cnt w (4 * r + k))))), (0, .ref mo), (1, .int (nI r)), (2, .int (nI k)), (3, .int (z))]) hx hb dX4_wouldChange_48 hl (by decide) rfl (fun ls hl => ?_)
      refine lv_aload_n hx hb dX4_wouldChange_50 rfl (lv_at hl 2 rfl) ?_
      refine gf_X4_X4_now hF hP 0 rfl rfl dX4_wouldChange_51 ?_
      refine lv_iload hx hb dX4_wouldChange_54 (lv_at hl 1 rfl) ?_
      refine lv_iload_n hx hb dX4_wouldChange_56 rfl (lv_at hl 5 rfl) ?_
      refine xA_ist hF hP hD hS 1 rfl (by omega) (by decide) dX4_wouldChange_57 (fun H locs hP hS => ?_)
      have hP : va_P g.1 vwCl [(mo, .inr (4, [.ref mn, .ref mp, .int (nI zs), .ref mq, .int (xz (zk)), .ref mt, .int (nI zl), .ref mm, .int (nI zp), .ref md, .int (nI zr)])), (mn, .inl (g.2.1 0, 988, .inl (upd (w) (28 + 5 * (4 * r + k) + (cnt w (4 * r + k))) ((z))))), (mp, .inl (g.2.1 0, 3952, .inl (pa))), (mq, .inl (g.2.1 0, 988, .inl (sn))), (mt, .inl (g.2.1 1, 60, .inl (tx))), (mm, .inl (g.2.1 0, 48, .inl (va_cpy (fun i9 => mean w i9 k) me 0 0 (nr w)))), (md, .inl (g.2.1 0, 40, .inl (td)))] H := hP
      have hD : va_D (MF mo mn mp mq mt mm md) [(mo, .inr (4, [.ref mn, .ref mp, .int (nI zs), .ref mq, .int (xz (zk)), .ref mt, .int (nI zl), .ref mm, .int (nI zp), .ref md, .int (nI zr)])), (mn, .inl (g.2.1 0, 988, .inl (upd (w) (28 + 5 * (4 * r + k) + (cnt w (4 * r + k))) ((z))))), (mp, .inl (g.2.1 0, 3952, .inl (pa))), (mq, .inl (g.2.1 0, 988, .inl (sn))), (mt, .inl (g.2.1 1, 60, .inl (tx))), (mm, .inl (g.2.1 0, 48, .inl (va_cpy (fun i9 => mean w i9 k) me 0 0 (nr w)))), (md, .inl (g.2.1 0, 40, .inl (td)))] := (va_D_eq (by rfl) hD)
      have e_w2 : (upd (w) (28 + 5 * (4 * r + k) + (cnt w (4 * r + k))) ((z))) = wldW w r k z := rfl
      rw [e_w2] at hP hD
      have h_w2 : WF (wldW w r k z) := hW.wld hk hr hxe
      generalize hg_w2 : wldW w r k z = w2 at hP hD h_w2
      have hP : va_P g.1 vwCl [(mo, .inr (4, [.ref mn, .ref mp, .int (nI zs), .ref mq, .int (xz (zk)), .ref mt, .int (nI zl), .ref mm, .int (nI zp), .ref md, .int (nI zr)])), (mn, .inl (g.2.1 0, 988, .inl (w2))), (mp, .inl (g.2.1 0, 3952, .inl (pa))), (mq, .inl (g.2.1 0, 988, .inl (sn))), (mt, .inl (g.2.1 1, 60, .inl (tx))), (mm, .inl (g.2.1 0, 48, .inl (va_cpy (fun i9 => mean w i9 k) me 0 0 (nr w)))), (md, .inl (g.2.1 0, 40, .inl (td)))] H := hP
      have hD : va_D (MF mo mn mp mq mt mm md) [(mo, .inr (4, [.ref mn, .ref mp, .int (nI zs), .ref mq, .int (xz (zk)), .ref mt, .int (nI zl), .ref mm, .int (nI zp), .ref md, .int (nI zr)])), (mn, .inl (g.2.1 0, 988, .inl (w2))), (mp, .inl (g.2.1 0, 3952, .inl (pa))), (mq, .inl (g.2.1 0, 988, .inl (sn))), (mt, .inl (g.2.1 1, 60, .inl (tx))), (mm, .inl (g.2.1 0, 48, .inl (va_cpy (fun i9 => mean w i9 k) me 0 0 (nr w)))), (md, .inl (g.2.1 0, 40, .inl (td)))] := hD
      have hnr : nr w2 = nr w := by rw [← hg_w2]; unfold wldW; exact nr_of (by rw [upd_off (by omega)])
      have he : nI (ctR (fun i9 => !(mean w2 i9 k == (va_cpy (fun i9 => mean w i9 k) me 0 0 (nr w)) i9)) 0 (nr w2)) = nI (othN w w2 k) := by unfold othN; rw [hnr]; exact congrArg nI (ctR_cong (fun j hj => by rw [xcpy0_in (by omega)]))
      refine lv_aload_n hx hb dX4_wouldChange_58 rfl (lv_at hl 2 rfl) ?_
      refine lv_iload_n hx hb dX4_wouldChange_59 rfl (lv_at hl 4 rfl) ?_
      refine vp_callSi (va_Run.run (xrV hF (c_X4_others l g mo mn mp mq mt mm md zs zl zp zr zk w2 (va_cpy (fun i9 => mean w i9 k) me 0 0 (nr w)) h_w2 k (by omega)) cal_X4_others q_298 ⟨by decide, by decide⟩ rfl rfl rfl (va_recv hF.2.1 hP (ci := 4) (q0 := 0) rfl rfl) (hZ.at hS hAB) (hP.sub [0, 1, 5] rfl) hl.1 rfl (Nat.le_of_ble_eq_true rfl) dX4_wouldChange_60 ⟨Nat.le_refl _, Nat.le_refl _⟩)) (fun r_ h_ => ?_)
      subst h_
      rw [show (nI (ctR (fun i9 => !(mean w2 i9 k == (va_cpy (fun i9 => mean w i9 k) me 0 0 (nr w)) i9)) 0 (nr w2)) : Int32) = nI (othN w w2 k) from he]
      refine lv_istore (lv' := [(6, .int (nI (othN w w2 k))), (5, .int (lat w r k)), (4, .int (nI (28 + 5 * (4 * r + k) + (cnt w (4 * r + k))))), (0, .ref mo), (1, .int (nI r)), (2, .int (nI k)), (3, .int (z))]) hx hb dX4_wouldChange_63 hl (by decide) rfl (fun ls hl => ?_)
      subst hg_w2
      refine lv_aload_n hx hb dX4_wouldChange_65 rfl (lv_at hl 3 rfl) ?_
      refine gf_X4_X4_now hF hP 0 rfl rfl dX4_wouldChange_66 ?_
      refine lv_iload hx hb dX4_wouldChange_69 (lv_at hl 2 rfl) ?_
      refine lv_iload hx hb dX4_wouldChange_71 (lv_at hl 1 rfl) ?_
      refine xA_ist hF hP hD hS 1 rfl (by omega) (by decide) dX4_wouldChange_73 (fun H locs hP hS => ?_)
      have hP : va_P g.1 vwCl [(mo, .inr (4, [.ref mn, .ref mp, .int (nI zs), .ref mq, .int (xz (zk)), .ref mt, .int (nI zl), .ref mm, .int (nI zp), .ref md, .int (nI zr)])), (mn, .inl (g.2.1 0, 988, .inl (upd (wldW w r k z) (28 + 5 * (4 * r + k) + (cnt w (4 * r + k))) ((lat w r k))))), (mp, .inl (g.2.1 0, 3952, .inl (pa))), (mq, .inl (g.2.1 0, 988, .inl (sn))), (mt, .inl (g.2.1 1, 60, .inl (tx))), (mm, .inl (g.2.1 0, 48, .inl (va_cpy (fun i9 => mean w i9 k) me 0 0 (nr w)))), (md, .inl (g.2.1 0, 40, .inl (td)))] H := hP
      have hD : va_D (MF mo mn mp mq mt mm md) [(mo, .inr (4, [.ref mn, .ref mp, .int (nI zs), .ref mq, .int (xz (zk)), .ref mt, .int (nI zl), .ref mm, .int (nI zp), .ref md, .int (nI zr)])), (mn, .inl (g.2.1 0, 988, .inl (upd (wldW w r k z) (28 + 5 * (4 * r + k) + (cnt w (4 * r + k))) ((lat w r k))))), (mp, .inl (g.2.1 0, 3952, .inl (pa))), (mq, .inl (g.2.1 0, 988, .inl (sn))), (mt, .inl (g.2.1 1, 60, .inl (tx))), (mm, .inl (g.2.1 0, 48, .inl (va_cpy (fun i9 => mean w i9 k) me 0 0 (nr w)))), (md, .inl (g.2.1 0, 40, .inl (td)))] := (va_D_eq (by rfl) hD)
      refine lv_iload hx hb dX4_wouldChange_74 (lv_at hl 0 rfl) ?_
      exact xend_i (V := nI (othN w (wldW w r k z) k)) hF hret hlocks hS (⟨by unfold wldA; rw [if_pos c_6, ek, er, if_pos c_16], _, by unfold wldW at hP; rw [upd_back (f := w) (x := z) (v := lat w r k) rfl] at hP; exact hP⟩) dX4_wouldChange_76
    · refine lv_bipush hx hb (v := (-2)) dX4_wouldChange_19 (by decide) ?_
      exact xend_i (V := (-2)) hF hret hlocks hS (⟨by unfold wldA; rw [if_pos c_6, ek, c_16]; rfl, _, hP⟩) dX4_wouldChange_21
  · refine lv_iconst hx hb (v := (-1)) dX4_wouldChange_9 (by decide) ?_
    exact xend_i (V := (-1)) hF hret hlocks hS (⟨by unfold wldA; rw [c_6]; rfl, _, hP⟩) dX4_wouldChange_10
set_option maxHeartbeats 4000000 in
set_option maxRecDepth 100000 in
theorem c_X4_claim (l : Launch) (g : XG) (mo mn mp mq mt mm md zs zl zp zr : Nat) (zk : Bool) (w pa sn tx me td : Nat → Int32) (hD : va_D (MF mo mn mp mq mt mm md) (ModW g mo mn mp mq mt mm md zs zl zp zr zk w pa sn tx me td)) (hAB : ∀ q, MF mo mn mp mq mt mm md q → xB g q) (hW : WF w) (hz4 : zs ≤ 4) (x y : Int32) : Met l yX4_claim (ww yX4_claim cX4_claim 4 (some .int)) (rmD 2) (xP g [.ref mo, .int (x), .int (y)] (fun H => va_P g.1 vwCl (ModW g mo mn mp mq mt mm md zs zl zp zr zk w pa sn tx me td) H)) (xQi (fun r9 H => r9 = clmA w x y ∧ (clmB w x y = false → va_P g.1 vwCl (ModW g mo mn mp mq mt mm md (zs) (zl) (zp) (zr) (zk) (w) (pa) (sn) (tx) (me) (td)) H) ∧ (clmB w x y = true → va_P g.1 vwCl (ModW g mo mn mp mq mt mm md (recS zs + 1) (zl) (zp) (zr) (zk) (clmW w x.toNatClampNeg y) (recP w pa zs) (sn) (tx) (me) (td)) H)) (MF mo mn mp mq mt mm md)) 0 0 (MF mo mn mp mq mt mm md) := by
  refine xMetM (by decide) rfl (Nat.le_of_ble_eq_true rfl) ?_
  intro p e s m below meth c ls H locs hF hZ hh hS hret hlocks hin hl
  have hx := hF.1.1
  have hb := hF.1.2.1
  have hP := hh
  have hP : va_P g.1 vwCl (ModW g mo mn mp mq mt mm md zs zl zp zr zk w pa sn tx me td) H := hP
  have hl : lv_has ls 4 [(0, .ref mo), (1, .int (x)), (2, .int (y))] := hl
  have h48 := hW.n48
  refine lv_iload_n hx hb dX4_claim_0 rfl (lv_at hl 1 rfl) ?_
  refine xN_const hx hb 0 dX4_claim_1 (by decide) ?_
  refine xN_bi hx hb 23 dX4_claim_2 (by decide) ?_
  refine vp_callSi (va_Run.run (xrS hF (c_X4_in l g ((x)) (nI (0)) (nI (23)) ) cal_X4_in q_119 ⟨by decide, by decide⟩ rfl rfl rfl (hZ.at hS hAB) (trivial) hl.1 rfl (Nat.le_of_ble_eq_true rfl) dX4_claim_4 ⟨Nat.le_refl _, Nat.le_refl _⟩)) (fun r_ h_ => ?_)
  subst h_
  refine xZ_ne (tgt := 12) hx hb dX4_claim_7 (by decide) (fun c_7 => ?_) (fun c_7 => ?_)
  · obtain ⟨t, ht, rfl⟩ := wchB_iff.mp c_7
    have et : (nI t).toNatClampNeg = t := nI_clamp (by omega)
    refine lv_iload_n hx hb dX4_claim_12 rfl (lv_at hl 2 rfl) ?_
    refine lv_bipush hx hb (v := (-5)) dX4_claim_13 (by decide) ?_
    refine lv_icmp_eq (tgt := 32) hx hb dX4_claim_15 (by decide) (fun c_15 => ?_) (fun c_15 => ?_)
    · have hs : sumB y = true := by simp [sumB, c_15]
      refine lv_aload_n hx hb dX4_claim_32 rfl (lv_at hl 0 rfl) ?_
      refine gf_X4_X4_now hF hP 0 rfl rfl dX4_claim_33 ?_
      refine xN_const hx hb 4 dX4_claim_36 (by decide) ?_
      refine lv_iload_n hx hb dX4_claim_37 rfl (lv_at hl 1 rfl) ?_
      refine xN_add hx hb dX4_claim_38 ?_
      refine xA_ild hF hP 1 rfl (by omega) (by decide) (v := (w (4 + t))) rfl dX4_claim_39 ?_
      refine lv_istore_n (lv' := [(3, .int (w (4 + t))), (0, .ref mo), (1, .int (nI t)), (2, .int (y))]) hx hb dX4_claim_40 rfl hl (by decide) rfl (fun ls hl => ?_)
      refine lv_iload_n hx hb dX4_claim_41 rfl (lv_at hl 0 rfl) ?_
      refine lv_iload_n hx hb dX4_claim_42 rfl (lv_at hl 3 rfl) ?_
      refine lv_icmp_ne (tgt := 49) hx hb dX4_claim_43 (by decide) (fun c_43 => ?_) (fun c_43 => ?_)
      · refine lv_aload_n hx hb dX4_claim_49 rfl (lv_at hl 1 rfl) ?_
        refine xcv (xrV hF (c_X4_records l g mo mn mp mq mt mm md zs zl zp zr zk w pa sn tx me td hD hAB (by omega)) cal_X4_records q_122 ⟨by decide, by decide⟩ rfl rfl rfl (va_recv hF.2.1 hP (ci := 4) (q0 := 0) rfl rfl) (hZ.at hS hAB) (hP) hl.1 rfl (Nat.le_of_ble_eq_true rfl) dX4_claim_50 ⟨Nat.le_refl _, Nat.le_refl _⟩) hS (xin_sub [0, 1, 2, 3, 4, 5, 6] rfl) (xin_sub [0, 1, 2, 3, 4, 5, 6] rfl) (fun H locs hq_ hz_ hk_ hS => ?_)
        have hw_ := hq_
        have hP : va_P g.1 vwCl [(mo, .inr (4, [.ref mn, .ref mp, .int (nI (recS zs + 1)), .ref mq, .int (xz (zk)), .ref mt, .int (nI zl), .ref mm, .int (nI zp), .ref md, .int (nI zr)])), (mn, .inl (g.2.1 0, 988, .inl (w))), (mp, .inl (g.2.1 0, 3952, .inl (recP w pa zs))), (mq, .inl (g.2.1 0, 988, .inl (sn))), (mt, .inl (g.2.1 1, 60, .inl (tx))), (mm, .inl (g.2.1 0, 48, .inl (me))), (md, .inl (g.2.1 0, 40, .inl (td)))] H := xjoin hP hD hw_ hk_ [0, 1, 2, 3, 4, 5, 6] [(true, 0), (true, 1), (true, 2), (true, 3), (true, 4), (true, 5), (true, 6)] rfl rfl rfl
        have hD : va_D (MF mo mn mp mq mt mm md) [(mo, .inr (4, [.ref mn, .ref mp, .int (nI (recS zs + 1)), .ref mq, .int (xz (zk)), .ref mt, .int (nI zl), .ref mm, .int (nI zp), .ref md, .int (nI zr)])), (mn, .inl (g.2.1 0, 988, .inl (w))), (mp, .inl (g.2.1 0, 3952, .inl (recP w pa zs))), (mq, .inl (g.2.1 0, 988, .inl (sn))), (mt, .inl (g.2.1 1, 60, .inl (tx))), (mm, .inl (g.2.1 0, 48, .inl (me))), (md, .inl (g.2.1 0, 40, .inl (td)))] := va_D_eq (by rfl) hD
        refine lv_aload_n hx hb dX4_claim_53 rfl (lv_at hl 1 rfl) ?_
        refine gf_X4_X4_now hF hP 0 rfl rfl dX4_claim_54 ?_
        refine xN_const hx hb 4 dX4_claim_57 (by decide) ?_
        refine lv_iload_n hx hb dX4_claim_58 rfl (lv_at hl 2 rfl) ?_
        refine xN_add hx hb dX4_claim_59 ?_
        refine lv_iload_n hx hb dX4_claim_60 rfl (lv_at hl 3 rfl) ?_
        refine xA_ist hF hP hD hS 1 rfl (by omega) (by decide) dX4_claim_61 (fun H locs hP hS => ?_)
        have hP : va_P g.1 vwCl [(mo, .inr (4, [.ref mn, .ref mp, .int (nI (recS zs + 1)), .ref mq, .int (xz (zk)), .ref mt, .int (nI zl), .ref mm, .int (nI zp), .ref md, .int (nI zr)])), (mn, .inl (g.2.1 0, 988, .inl (upd (w) (4 + t) ((y))))), (mp, .inl (g.2.1 0, 3952, .inl (recP w pa zs))), (mq, .inl (g.2.1 0, 988, .inl (sn))), (mt, .inl (g.2.1 1, 60, .inl (tx))), (mm, .inl (g.2.1 0, 48, .inl (me))), (md, .inl (g.2.1 0, 40, .inl (td)))] H := hP
        have hD : va_D (MF mo mn mp mq mt mm md) [(mo, .inr (4, [.ref mn, .ref mp, .int (nI (recS zs + 1)), .ref mq, .int (xz (zk)), .ref mt, .int (nI zl), .ref mm, .int (nI zp), .ref md, .int (nI zr)])), (mn, .inl (g.2.1 0, 988, .inl (upd (w) (4 + t) ((y))))), (mp, .inl (g.2.1 0, 3952, .inl (recP w pa zs))), (mq, .inl (g.2.1 0, 988, .inl (sn))), (mt, .inl (g.2.1 1, 60, .inl (tx))), (mm, .inl (g.2.1 0, 48, .inl (me))), (md, .inl (g.2.1 0, 40, .inl (td)))] := (va_D_eq (by rfl) hD)
        refine lv_iload_n hx hb dX4_claim_62 rfl (lv_at hl 0 rfl) ?_
        refine xN_si hx hb 10000 dX4_claim_63 (by decide) ?_
        refine lv_iadd hx hb dX4_claim_66 ?_
        exact xend_i (V := ((w (4 + t)) + nI (10000))) hF hret hlocks hS (⟨by unfold clmA; rw [if_pos (show wchB (nI t) = true from c_7), if_pos hs, et, if_neg c_43], fun h => absurd h (by rw [show (clmB w (nI t) y) = true from (by simp [clmB, show wchB (nI t) = true from c_7, hs, et, c_43])]; decide), fun _ => by rw [et]; exact hP⟩) dX4_claim_67
      · refine lv_bipush hx hb (v := (-5)) dX4_claim_46 (by decide) ?_
        exact xend_i (V := (-5)) hF hret hlocks hS (⟨by unfold clmA; rw [if_pos (show wchB (nI t) = true from c_7), if_pos hs, et, if_pos c_43], fun _ => hP, fun h => absurd h (by rw [show (clmB w (nI t) y) = false from (by simp [clmB, et, c_43])]; decide)⟩) dX4_claim_48
    · refine lv_iload_n hx hb dX4_claim_18 rfl (lv_at hl 2 rfl) ?_
      refine xN_const hx hb 0 dX4_claim_19 (by decide) ?_
      refine xN_si hx hb 9999 dX4_claim_20 (by decide) ?_
      refine vp_callSi (va_Run.run (xrS hF (c_X4_in l g ((y)) (nI (0)) (nI (9999)) ) cal_X4_in q_119 ⟨by decide, by decide⟩ rfl rfl rfl (hZ.at hS hAB) (trivial) hl.1 rfl (Nat.le_of_ble_eq_true rfl) dX4_claim_23 ⟨Nat.le_refl _, Nat.le_refl _⟩)) (fun r_ h_ => ?_)
      subst h_
      refine xZ_ne (tgt := 32) hx hb dX4_claim_26 (by decide) (fun c_26 => ?_) (fun c_26 => ?_)
      · have hs : sumB y = true := by unfold sumB; rw [beq_eq_false_iff_ne.mpr c_15, Bool.false_or]; exact c_26
        refine lv_aload_n hx hb dX4_claim_32 rfl (lv_at hl 0 rfl) ?_
        refine gf_X4_X4_now hF hP 0 rfl rfl dX4_claim_33 ?_
        refine xN_const hx hb 4 dX4_claim_36 (by decide) ?_
        refine lv_iload_n hx hb dX4_claim_37 rfl (lv_at hl 1 rfl) ?_
        refine xN_add hx hb dX4_claim_38 ?_
        refine xA_ild hF hP 1 rfl (by omega) (by decide) (v := (w (4 + t))) rfl dX4_claim_39 ?_
        refine lv_istore_n (lv' := [(3, .int (w (4 + t))), (0, .ref mo), (1, .int (nI t)), (2, .int (y))]) hx hb dX4_claim_40 rfl hl (by decide) rfl (fun ls hl => ?_)
        refine lv_iload_n hx hb dX4_claim_41 rfl (lv_at hl 0 rfl) ?_
        refine lv_iload_n hx hb dX4_claim_42 rfl (lv_at hl 3 rfl) ?_
        refine lv_icmp_ne (tgt := 49) hx hb dX4_claim_43 (by decide) (fun c_43 => ?_) (fun c_43 => ?_)
        · refine lv_aload_n hx hb dX4_claim_49 rfl (lv_at hl 1 rfl) ?_
          refine xcv (xrV hF (c_X4_records l g mo mn mp mq mt mm md zs zl zp zr zk w pa sn tx me td hD hAB (by omega)) cal_X4_records q_122 ⟨by decide, by decide⟩ rfl rfl rfl (va_recv hF.2.1 hP (ci := 4) (q0 := 0) rfl rfl) (hZ.at hS hAB) (hP) hl.1 rfl (Nat.le_of_ble_eq_true rfl) dX4_claim_50 ⟨Nat.le_refl _, Nat.le_refl _⟩) hS (xin_sub [0, 1, 2, 3, 4, 5, 6] rfl) (xin_sub [0, 1, 2, 3, 4, 5, 6] rfl) (fun H locs hq_ hz_ hk_ hS => ?_)
          have hw_ := hq_
          have hP : va_P g.1 vwCl [(mo, .inr (4, [.ref mn, .ref mp, .int (nI (recS zs + 1)), .ref mq, .int (xz (zk)), .ref mt, .int (nI zl), .ref mm, .int (nI zp), .ref md, .int (nI zr)])), (mn, .inl (g.2.1 0, 988, .inl (w))), (mp, .inl (g.2.1 0, 3952, .inl (recP w pa zs))), (mq, .inl (g.2.1 0, 988, .inl (sn))), (mt, .inl (g.2.1 1, 60, .inl (tx))), (mm, .inl (g.2.1 0, 48, .inl (me))), (md, .inl (g.2.1 0, 40, .inl (td)))] H := xjoin hP hD hw_ hk_ [0, 1, 2, 3, 4, 5, 6] [(true, 0), (true, 1), (true, 2), (true, 3), (true, 4), (true, 5), (true, 6)] rfl rfl rfl
          have hD : va_D (MF mo mn mp mq mt mm md) [(mo, .inr (4, [.ref mn, .ref mp, .int (nI (recS zs + 1)), .ref mq, .int (xz (zk)), .ref mt, .int (nI zl), .ref mm, .int (nI zp), .ref md, .int (nI zr)])), (mn, .inl (g.2.1 0, 988, .inl (w))), (mp, .inl (g.2.1 0, 3952, .inl (recP w pa zs))), (mq, .inl (g.2.1 0, 988, .inl (sn))), (mt, .inl (g.2.1 1, 60, .inl (tx))), (mm, .inl (g.2.1 0, 48, .inl (me))), (md, .inl (g.2.1 0, 40, .inl (td)))] := va_D_eq (by rfl) hD
          refine lv_aload_n hx hb dX4_claim_53 rfl (lv_at hl 1 rfl) ?_
          refine gf_X4_X4_now hF hP 0 rfl rfl dX4_claim_54 ?_
          refine xN_const hx hb 4 dX4_claim_57 (by decide) ?_
          refine lv_iload_n hx hb dX4_claim_58 rfl (lv_at hl 2 rfl) ?_
          refine xN_add hx hb dX4_claim_59 ?_
          refine lv_iload_n hx hb dX4_claim_60 rfl (lv_at hl 3 rfl) ?_
          refine xA_ist hF hP hD hS 1 rfl (by omega) (by decide) dX4_claim_61 (fun H locs hP hS => ?_)
          have hP : va_P g.1 vwCl [(mo, .inr (4, [.ref mn, .ref mp, .int (nI (recS zs + 1)), .ref mq, .int (xz (zk)), .ref mt, .int (nI zl), .ref mm, .int (nI zp), .ref md, .int (nI zr)])), (mn, .inl (g.2.1 0, 988, .inl (upd (w) (4 + t) ((y))))), (mp, .inl (g.2.1 0, 3952, .inl (recP w pa zs))), (mq, .inl (g.2.1 0, 988, .inl (sn))), (mt, .inl (g.2.1 1, 60, .inl (tx))), (mm, .inl (g.2.1 0, 48, .inl (me))), (md, .inl (g.2.1 0, 40, .inl (td)))] H := hP
          have hD : va_D (MF mo mn mp mq mt mm md) [(mo, .inr (4, [.ref mn, .ref mp, .int (nI (recS zs + 1)), .ref mq, .int (xz (zk)), .ref mt, .int (nI zl), .ref mm, .int (nI zp), .ref md, .int (nI zr)])), (mn, .inl (g.2.1 0, 988, .inl (upd (w) (4 + t) ((y))))), (mp, .inl (g.2.1 0, 3952, .inl (recP w pa zs))), (mq, .inl (g.2.1 0, 988, .inl (sn))), (mt, .inl (g.2.1 1, 60, .inl (tx))), (mm, .inl (g.2.1 0, 48, .inl (me))), (md, .inl (g.2.1 0, 40, .inl (td)))] := (va_D_eq (by rfl) hD)
          refine lv_iload_n hx hb dX4_claim_62 rfl (lv_at hl 0 rfl) ?_
          refine xN_si hx hb 10000 dX4_claim_63 (by decide) ?_
          refine lv_iadd hx hb dX4_claim_66 ?_
          exact xend_i (V := ((w (4 + t)) + nI (10000))) hF hret hlocks hS (⟨by unfold clmA; rw [if_pos (show wchB (nI t) = true from c_7), if_pos hs, et, if_neg c_43], fun h => absurd h (by rw [show (clmB w (nI t) y) = true from (by simp [clmB, show wchB (nI t) = true from c_7, hs, et, c_43])]; decide), fun _ => by rw [et]; exact hP⟩) dX4_claim_67
        · refine lv_bipush hx hb (v := (-5)) dX4_claim_46 (by decide) ?_
          exact xend_i (V := (-5)) hF hret hlocks hS (⟨by unfold clmA; rw [if_pos (show wchB (nI t) = true from c_7), if_pos hs, et, if_pos c_43], fun _ => hP, fun h => absurd h (by rw [show (clmB w (nI t) y) = false from (by simp [clmB, et, c_43])]; decide)⟩) dX4_claim_48
      · refine lv_bipush hx hb (v := (-2)) dX4_claim_29 (by decide) ?_
        exact xend_i (V := (-2)) hF hret hlocks hS (⟨by unfold clmA; rw [if_pos (show wchB (nI t) = true from c_7), show sumB y = false from (by unfold sumB; rw [beq_eq_false_iff_ne.mpr c_15, Bool.false_or]; exact c_26)]; rfl, fun _ => hP, fun h => absurd h (by rw [show (clmB w (nI t) y) = false from (by simp [clmB, show sumB y = false from (by unfold sumB; rw [beq_eq_false_iff_ne.mpr c_15, Bool.false_or]; exact c_26), Bool.false_and, Bool.and_false])]; decide)⟩) dX4_claim_31
  · refine lv_iconst hx hb (v := (-1)) dX4_claim_10 (by decide) ?_
    exact xend_i (V := (-1)) hF hret hlocks hS (⟨by unfold clmA; rw [show wchB x = false from c_7]; rfl, fun _ => hP, fun h => absurd h (by rw [show (clmB w x y) = false from (by simp [clmB, show wchB x = false from c_7])]; decide)⟩) dX4_claim_11
set_option maxHeartbeats 4000000 in
set_option maxRecDepth 100000 in
theorem c_X4_set (l : Launch) (g : XG) (mo mn mp mq mt mm md zs zl zp zr : Nat) (zk : Bool) (w pa sn tx me td : Nat → Int32) (hD : va_D (MF mo mn mp mq mt mm md) (ModW g mo mn mp mq mt mm md zs zl zp zr zk w pa sn tx me td)) (hAB : ∀ q, MF mo mn mp mq mt mm md q → xB g q) (hW : WF w) (hz4 : zs ≤ 4) (x y : Int32) : Met l yX4_set (ww yX4_set cX4_set 4 (some .int)) (rmD 2) (xP g [.ref mo, .int (x), .int (y)] (fun H => va_P g.1 vwCl (ModW g mo mn mp mq mt mm md zs zl zp zr zk w pa sn tx me td) H)) (xQi (fun r9 H => r9 = setA w x y ∧ (setB w x y = false → va_P g.1 vwCl (ModW g mo mn mp mq mt mm md (zs) (zl) (zp) (zr) (zk) (w) (pa) (sn) (tx) (me) (td)) H) ∧ (setB w x y = true → va_P g.1 vwCl (ModW g mo mn mp mq mt mm md (recS zs + 1) (zl) (zp) (zr) (zk) (setW w x.toNatClampNeg y) (recP w pa zs) (sn) (tx) (me) (td)) H)) (MF mo mn mp mq mt mm md)) 0 0 (MF mo mn mp mq mt mm md) := by
  refine xMetM (by decide) rfl (Nat.le_of_ble_eq_true rfl) ?_
  intro p e s m below meth c ls H locs hF hZ hh hS hret hlocks hin hl
  have hx := hF.1.1
  have hb := hF.1.2.1
  have hP := hh
  have hP : va_P g.1 vwCl (ModW g mo mn mp mq mt mm md zs zl zp zr zk w pa sn tx me td) H := hP
  have hl : lv_has ls 4 [(0, .ref mo), (1, .int (x)), (2, .int (y))] := hl
  have h48 := hW.n48
  refine lv_iload_n hx hb dX4_set_0 rfl (lv_at hl 1 rfl) ?_
  refine lv_iload_n hx hb dX4_set_1 rfl (lv_at hl 2 rfl) ?_
  refine vp_callSi (va_Run.run (xrS hF (c_X4_isSetting l g ((x)) ((y)) ) cal_X4_isSetting q_346 ⟨by decide, by decide⟩ rfl rfl rfl (hZ.at hS hAB) (trivial) hl.1 rfl (Nat.le_of_ble_eq_true rfl) dX4_set_2 ⟨Nat.le_refl _, Nat.le_refl _⟩)) (fun r_ h_ => ?_)
  subst h_
  refine xZ_ne (tgt := 11) hx hb dX4_set_5 (by decide) (fun c_5 => ?_) (fun c_5 => ?_)
  · obtain ⟨t, ht, rfl⟩ := setV_3 c_5
    have et : (nI t).toNatClampNeg = t := nI_clamp (by omega)
    refine lv_aload_n hx hb dX4_set_11 rfl (lv_at hl 0 rfl) ?_
    refine gf_X4_X4_now hF hP 0 rfl rfl dX4_set_12 ?_
    refine xN_const hx hb 1 dX4_set_15 (by decide) ?_
    refine lv_iload_n hx hb dX4_set_16 rfl (lv_at hl 1 rfl) ?_
    refine xN_add hx hb dX4_set_17 ?_
    refine xA_ild hF hP 1 rfl (by omega) (by decide) (v := (w (1 + t))) rfl dX4_set_18 ?_
    refine lv_istore_n (lv' := [(3, .int (w (1 + t))), (0, .ref mo), (1, .int (nI t)), (2, .int (y))]) hx hb dX4_set_19 rfl hl (by decide) rfl (fun ls hl => ?_)
    refine lv_iload_n hx hb dX4_set_20 rfl (lv_at hl 0 rfl) ?_
    refine lv_iload_n hx hb dX4_set_21 rfl (lv_at hl 3 rfl) ?_
    refine lv_icmp_ne (tgt := 28) hx hb dX4_set_22 (by decide) (fun c_22 => ?_) (fun c_22 => ?_)
    · refine lv_aload_n hx hb dX4_set_28 rfl (lv_at hl 1 rfl) ?_
      refine xcv (xrV hF (c_X4_records l g mo mn mp mq mt mm md zs zl zp zr zk w pa sn tx me td hD hAB (by omega)) cal_X4_records q_122 ⟨by decide, by decide⟩ rfl rfl rfl (va_recv hF.2.1 hP (ci := 4) (q0 := 0) rfl rfl) (hZ.at hS hAB) (hP) hl.1 rfl (Nat.le_of_ble_eq_true rfl) dX4_set_29 ⟨Nat.le_refl _, Nat.le_refl _⟩) hS (xin_sub [0, 1, 2, 3, 4, 5, 6] rfl) (xin_sub [0, 1, 2, 3, 4, 5, 6] rfl) (fun H locs hq_ hz_ hk_ hS => ?_)
      have hw_ := hq_
      have hP : va_P g.1 vwCl [(mo, .inr (4, [.ref mn, .ref mp, .int (nI (recS zs + 1)), .ref mq, .int (xz (zk)), .ref mt, .int (nI zl), .ref mm, .int (nI zp), .ref md, .int (nI zr)])), (mn, .inl (g.2.1 0, 988, .inl (w))), (mp, .inl (g.2.1 0, 3952, .inl (recP w pa zs))), (mq, .inl (g.2.1 0, 988, .inl (sn))), (mt, .inl (g.2.1 1, 60, .inl (tx))), (mm, .inl (g.2.1 0, 48, .inl (me))), (md, .inl (g.2.1 0, 40, .inl (td)))] H := xjoin hP hD hw_ hk_ [0, 1, 2, 3, 4, 5, 6] [(true, 0), (true, 1), (true, 2), (true, 3), (true, 4), (true, 5), (true, 6)] rfl rfl rfl
      have hD : va_D (MF mo mn mp mq mt mm md) [(mo, .inr (4, [.ref mn, .ref mp, .int (nI (recS zs + 1)), .ref mq, .int (xz (zk)), .ref mt, .int (nI zl), .ref mm, .int (nI zp), .ref md, .int (nI zr)])), (mn, .inl (g.2.1 0, 988, .inl (w))), (mp, .inl (g.2.1 0, 3952, .inl (recP w pa zs))), (mq, .inl (g.2.1 0, 988, .inl (sn))), (mt, .inl (g.2.1 1, 60, .inl (tx))), (mm, .inl (g.2.1 0, 48, .inl (me))), (md, .inl (g.2.1 0, 40, .inl (td)))] := va_D_eq (by rfl) hD
      refine lv_aload_n hx hb dX4_set_32 rfl (lv_at hl 1 rfl) ?_
      refine gf_X4_X4_now hF hP 0 rfl rfl dX4_set_33 ?_
      refine xN_const hx hb 1 dX4_set_36 (by decide) ?_
      refine lv_iload_n hx hb dX4_set_37 rfl (lv_at hl 2 rfl) ?_
      refine xN_add hx hb dX4_set_38 ?_
      refine lv_iload_n hx hb dX4_set_39 rfl (lv_at hl 3 rfl) ?_
      refine xA_ist hF hP hD hS 1 rfl (by omega) (by decide) dX4_set_40 (fun H locs hP hS => ?_)
      have hP : va_P g.1 vwCl [(mo, .inr (4, [.ref mn, .ref mp, .int (nI (recS zs + 1)), .ref mq, .int (xz (zk)), .ref mt, .int (nI zl), .ref mm, .int (nI zp), .ref md, .int (nI zr)])), (mn, .inl (g.2.1 0, 988, .inl (upd (w) (1 + t) ((y))))), (mp, .inl (g.2.1 0, 3952, .inl (recP w pa zs))), (mq, .inl (g.2.1 0, 988, .inl (sn))), (mt, .inl (g.2.1 1, 60, .inl (tx))), (mm, .inl (g.2.1 0, 48, .inl (me))), (md, .inl (g.2.1 0, 40, .inl (td)))] H := hP
      have hD : va_D (MF mo mn mp mq mt mm md) [(mo, .inr (4, [.ref mn, .ref mp, .int (nI (recS zs + 1)), .ref mq, .int (xz (zk)), .ref mt, .int (nI zl), .ref mm, .int (nI zp), .ref md, .int (nI zr)])), (mn, .inl (g.2.1 0, 988, .inl (upd (w) (1 + t) ((y))))), (mp, .inl (g.2.1 0, 3952, .inl (recP w pa zs))), (mq, .inl (g.2.1 0, 988, .inl (sn))), (mt, .inl (g.2.1 1, 60, .inl (tx))), (mm, .inl (g.2.1 0, 48, .inl (me))), (md, .inl (g.2.1 0, 40, .inl (td)))] := (va_D_eq (by rfl) hD)
      refine lv_iload_n hx hb dX4_set_41 rfl (lv_at hl 0 rfl) ?_
      exact xend_i (V := (w (1 + t))) hF hret hlocks hS (⟨by unfold setA; rw [if_pos c_5, et, if_neg c_22], fun h => absurd h (by rw [show (setB w (nI t) y) = true from (by simp [setB, c_5, et, c_22])]; decide), fun _ => by rw [et]; exact hP⟩) dX4_set_42
    · refine lv_bipush hx hb (v := (-5)) dX4_set_25 (by decide) ?_
      exact xend_i (V := (-5)) hF hret hlocks hS (⟨by unfold setA; rw [if_pos c_5, et, if_pos c_22], fun _ => hP, fun h => absurd h (by rw [show (setB w (nI t) y) = false from (by simp [setB, et, c_22])]; decide)⟩) dX4_set_27
  · refine lv_bipush hx hb (v := (-2)) dX4_set_8 (by decide) ?_
    exact xend_i (V := (-2)) hF hret hlocks hS (⟨by unfold setA; rw [c_5]; rfl, fun _ => hP, fun h => absurd h (by rw [show (setB w x y) = false from (by simp [setB, c_5])]; decide)⟩) dX4_set_10
set_option maxHeartbeats 4000000 in
set_option maxRecDepth 100000 in
theorem c_X4_type (l : Launch) (g : XG) (mo mn mp mq mt mm md zs zl zp zr : Nat) (zk : Bool) (w pa sn tx me td : Nat → Int32) (hD : va_D (MF mo mn mp mq mt mm md) (ModW g mo mn mp mq mt mm md zs zl zp zr zk w pa sn tx me td)) (hAB : ∀ q, MF mo mn mp mq mt mm md q → xB g q) (hz60 : zl ≤ 60) (x : Int32) (hxc : vp_nar .char x = x) : Met l yX4_type (ww yX4_type cX4_type 2 (some .int)) (rmD 0) (xP g [.ref mo, .int (x)] (fun H => va_P g.1 vwCl (ModW g mo mn mp mq mt mm md zs zl zp zr zk w pa sn tx me td) H)) (xQi (fun r9 H => r9 = (if zl = 60 then -3 else nI (zl + 1)) ∧ (zl = 60 → va_P g.1 vwCl (ModW g mo mn mp mq mt mm md (zs) (zl) (zp) (zr) (zk) (w) (pa) (sn) (tx) (me) (td)) H) ∧ (zl ≠ 60 → va_P g.1 vwCl (ModW g mo mn mp mq mt mm md (zs) (zl + 1) (zp) (zr) (zk) (w) (pa) (sn) (upd tx zl x) (me) (td)) H)) (MF mo mn mp mq mt mm md)) 0 0 (MF mo mn mp mq mt mm md) := by
  refine xMetM (by decide) rfl (Nat.le_of_ble_eq_true rfl) ?_
  intro p e s m below meth c ls H locs hF hZ hh hS hret hlocks hin hl
  have hx := hF.1.1
  have hb := hF.1.2.1
  have hP := hh
  have hP : va_P g.1 vwCl (ModW g mo mn mp mq mt mm md zs zl zp zr zk w pa sn tx me td) H := hP
  have hl : lv_has ls 2 [(0, .ref mo), (1, .int (x))] := hl
  refine lv_aload_n hx hb dX4_type_0 rfl (lv_at hl 0 rfl) ?_
  refine gf_X4_X4_length hF hP 0 rfl rfl dX4_type_1 ?_
  refine xN_bi hx hb 60 dX4_type_4 (by decide) ?_
  refine xC_ne (tgt := 12) hx hb (by omega) (by omega) dX4_type_6 (by decide) (fun c_6 => ?_) (fun c_6 => ?_)
  · refine lv_aload_n hx hb dX4_type_12 rfl (lv_at hl 0 rfl) ?_
    refine gf_X4_X4_text hF hP 0 rfl rfl dX4_type_13 ?_
    refine lv_aload_n hx hb dX4_type_16 rfl (lv_at hl 0 rfl) ?_
    refine gf_X4_X4_length hF hP 0 rfl rfl dX4_type_17 ?_
    refine lv_iload_n hx hb dX4_type_20 rfl (lv_at hl 1 rfl) ?_
    refine xA_cst hF hP hD hS 4 rfl (by omega) (by decide) (v2 := (x)) hxc dX4_type_21 (fun H locs hP hS => ?_)
    have hP : va_P g.1 vwCl [(mo, .inr (4, [.ref mn, .ref mp, .int (nI zs), .ref mq, .int (xz (zk)), .ref mt, .int (nI zl), .ref mm, .int (nI zp), .ref md, .int (nI zr)])), (mn, .inl (g.2.1 0, 988, .inl (w))), (mp, .inl (g.2.1 0, 3952, .inl (pa))), (mq, .inl (g.2.1 0, 988, .inl (sn))), (mt, .inl (g.2.1 1, 60, .inl (upd (tx) (zl) ((x))))), (mm, .inl (g.2.1 0, 48, .inl (me))), (md, .inl (g.2.1 0, 40, .inl (td)))] H := hP
    have hD : va_D (MF mo mn mp mq mt mm md) [(mo, .inr (4, [.ref mn, .ref mp, .int (nI zs), .ref mq, .int (xz (zk)), .ref mt, .int (nI zl), .ref mm, .int (nI zp), .ref md, .int (nI zr)])), (mn, .inl (g.2.1 0, 988, .inl (w))), (mp, .inl (g.2.1 0, 3952, .inl (pa))), (mq, .inl (g.2.1 0, 988, .inl (sn))), (mt, .inl (g.2.1 1, 60, .inl (upd (tx) (zl) ((x))))), (mm, .inl (g.2.1 0, 48, .inl (me))), (md, .inl (g.2.1 0, 40, .inl (td)))] := (va_D_eq (by rfl) hD)
    refine lv_aload_n hx hb dX4_type_22 rfl (lv_at hl 0 rfl) ?_
    refine lv_dup hx hb dX4_type_23 rfl ?_
    refine gf_X4_X4_length hF hP 0 rfl rfl dX4_type_24 ?_
    refine xN_const hx hb 1 dX4_type_27 (by decide) ?_
    refine xN_add hx hb dX4_type_28 ?_
    refine pf_X4_X4_length hF hP hD hS 0 rfl (Nat.le_of_ble_eq_true rfl) dX4_type_29 (fun H locs hP hS => ?_)
    have hP : va_P g.1 vwCl [(mo, .inr (4, [.ref mn, .ref mp, .int (nI zs), .ref mq, .int (xz (zk)), .ref mt, .int (nI (zl + 1)), .ref mm, .int (nI zp), .ref md, .int (nI zr)])), (mn, .inl (g.2.1 0, 988, .inl (w))), (mp, .inl (g.2.1 0, 3952, .inl (pa))), (mq, .inl (g.2.1 0, 988, .inl (sn))), (mt, .inl (g.2.1 1, 60, .inl (upd (tx) (zl) ((x))))), (mm, .inl (g.2.1 0, 48, .inl (me))), (md, .inl (g.2.1 0, 40, .inl (td)))] H := hP
    have hD : va_D (MF mo mn mp mq mt mm md) [(mo, .inr (4, [.ref mn, .ref mp, .int (nI zs), .ref mq, .int (xz (zk)), .ref mt, .int (nI (zl + 1)), .ref mm, .int (nI zp), .ref md, .int (nI zr)])), (mn, .inl (g.2.1 0, 988, .inl (w))), (mp, .inl (g.2.1 0, 3952, .inl (pa))), (mq, .inl (g.2.1 0, 988, .inl (sn))), (mt, .inl (g.2.1 1, 60, .inl (upd (tx) (zl) ((x))))), (mm, .inl (g.2.1 0, 48, .inl (me))), (md, .inl (g.2.1 0, 40, .inl (td)))] := (va_D_eq (by rfl) hD)
    refine lv_aload_n hx hb dX4_type_32 rfl (lv_at hl 0 rfl) ?_
    refine gf_X4_X4_length hF hP 0 rfl rfl dX4_type_33 ?_
    exact xend_i (V := nI (zl + 1)) hF hret hlocks hS (⟨by rw [if_neg c_6], fun h => absurd h c_6, fun _ => hP⟩) dX4_type_36
  · refine lv_bipush hx hb (v := (-3)) dX4_type_9 (by decide) ?_
    exact xend_i (V := (-3)) hF hret hlocks hS (⟨by rw [if_pos c_6], fun _ => hP, fun h => absurd c_6 h⟩) dX4_type_11
set_option maxHeartbeats 4000000 in
set_option maxRecDepth 100000 in
theorem c_X4_clearText (l : Launch) (g : XG) (mo mn mp mq mt mm md zs zl zp zr : Nat) (zk : Bool) (w pa sn tx me td : Nat → Int32) (hD : va_D (MF mo mn mp mq mt mm md) (ModW g mo mn mp mq mt mm md zs zl zp zr zk w pa sn tx me td)) (hAB : ∀ q, MF mo mn mp mq mt mm md q → xB g q)   : Met l yX4_clearText (ww yX4_clearText cX4_clearText 2 (some .int)) (rmD 0) (xP g [.ref mo] (fun H => va_P g.1 vwCl (ModW g mo mn mp mq mt mm md zs zl zp zr zk w pa sn tx me td) H)) (xQi (fun r9 H => r9 = nI zl ∧ va_P g.1 vwCl (ModW g mo mn mp mq mt mm md (zs) (0) (zp) (zr) (zk) (w) (pa) (sn) (tx) (me) (td)) H) (MF mo mn mp mq mt mm md)) 0 0 (MF mo mn mp mq mt mm md) := by
  refine xMetM (by decide) rfl (Nat.le_of_ble_eq_true rfl) ?_
  intro p e s m below meth c ls H locs hF hZ hh hS hret hlocks hin hl
  have hx := hF.1.1
  have hb := hF.1.2.1
  have hP := hh
  have hP : va_P g.1 vwCl (ModW g mo mn mp mq mt mm md zs zl zp zr zk w pa sn tx me td) H := hP
  have hl : lv_has ls 2 [(0, .ref mo)] := hl
  refine lv_aload_n hx hb dX4_clearText_0 rfl (lv_at hl 0 rfl) ?_
  refine gf_X4_X4_length hF hP 0 rfl rfl dX4_clearText_1 ?_
  refine lv_istore_n (lv' := [(1, .int (nI zl)), (0, .ref mo)]) hx hb dX4_clearText_4 rfl hl (by decide) rfl (fun ls hl => ?_)
  refine lv_aload_n hx hb dX4_clearText_5 rfl (lv_at hl 1 rfl) ?_
  refine xN_const hx hb 0 dX4_clearText_6 (by decide) ?_
  refine pf_X4_X4_length hF hP hD hS 0 rfl (Nat.le_of_ble_eq_true rfl) dX4_clearText_7 (fun H locs hP hS => ?_)
  have hP : va_P g.1 vwCl [(mo, .inr (4, [.ref mn, .ref mp, .int (nI zs), .ref mq, .int (xz (zk)), .ref mt, .int (nI 0), .ref mm, .int (nI zp), .ref md, .int (nI zr)])), (mn, .inl (g.2.1 0, 988, .inl (w))), (mp, .inl (g.2.1 0, 3952, .inl (pa))), (mq, .inl (g.2.1 0, 988, .inl (sn))), (mt, .inl (g.2.1 1, 60, .inl (tx))), (mm, .inl (g.2.1 0, 48, .inl (me))), (md, .inl (g.2.1 0, 40, .inl (td)))] H := hP
  have hD : va_D (MF mo mn mp mq mt mm md) [(mo, .inr (4, [.ref mn, .ref mp, .int (nI zs), .ref mq, .int (xz (zk)), .ref mt, .int (nI 0), .ref mm, .int (nI zp), .ref md, .int (nI zr)])), (mn, .inl (g.2.1 0, 988, .inl (w))), (mp, .inl (g.2.1 0, 3952, .inl (pa))), (mq, .inl (g.2.1 0, 988, .inl (sn))), (mt, .inl (g.2.1 1, 60, .inl (tx))), (mm, .inl (g.2.1 0, 48, .inl (me))), (md, .inl (g.2.1 0, 40, .inl (td)))] := (va_D_eq (by rfl) hD)
  refine lv_iload_n hx hb dX4_clearText_10 rfl (lv_at hl 0 rfl) ?_
  exact xend_i (V := nI (zl)) hF hret hlocks hS (⟨rfl, hP⟩) dX4_clearText_11
set_option maxHeartbeats 4000000 in
set_option maxRecDepth 100000 in
theorem c_X4_undo (l : Launch) (g : XG) (mo mn mp mq mt mm md zs zl zp zr : Nat) (zk : Bool) (w pa sn tx me td : Nat → Int32) (hD : va_D (MF mo mn mp mq mt mm md) (ModW g mo mn mp mq mt mm md zs zl zp zr zk w pa sn tx me td)) (hAB : ∀ q, MF mo mn mp mq mt mm md q → xB g q) (hz4 : zs ≤ 4)  : Met l yX4_undo (ww yX4_undo cX4_undo 1 (some .int)) (rmD 1) (xP g [.ref mo] (fun H => va_P g.1 vwCl (ModW g mo mn mp mq mt mm md zs zl zp zr zk w pa sn tx me td) H)) (xQi (fun r9 H => r9 = (if zs = 0 then -5 else nI (zs - 1)) ∧ (zs = 0 → va_P g.1 vwCl (ModW g mo mn mp mq mt mm md (zs) (zl) (zp) (zr) (zk) (w) (pa) (sn) (tx) (me) (td)) H) ∧ (zs ≠ 0 → va_P g.1 vwCl (ModW g mo mn mp mq mt mm md (zs - 1) (zl) (zp) (zr) (zk) (va_cpy pa w (988 * (zs - 1)) 0 988) (pa) (sn) (tx) (me) (td)) H)) (MF mo mn mp mq mt mm md)) 0 0 (MF mo mn mp mq mt mm md) := by
  refine xMetM (by decide) rfl (Nat.le_of_ble_eq_true rfl) ?_
  intro p e s m below meth c ls H locs hF hZ hh hS hret hlocks hin hl
  have hx := hF.1.1
  have hb := hF.1.2.1
  have hP := hh
  have hP : va_P g.1 vwCl (ModW g mo mn mp mq mt mm md zs zl zp zr zk w pa sn tx me td) H := hP
  have hl : lv_has ls 1 [(0, .ref mo)] := hl
  refine lv_aload_n hx hb dX4_undo_0 rfl (lv_at hl 0 rfl) ?_
  refine gf_X4_X4_states hF hP 0 rfl rfl dX4_undo_1 ?_
  refine xI_ne (tgt := 10) hx hb (by omega) dX4_undo_4 (by decide) (fun c_4 => ?_) (fun c_4 => ?_)
  · refine lv_aload_n hx hb dX4_undo_10 rfl (lv_at hl 0 rfl) ?_
    refine lv_dup hx hb dX4_undo_11 rfl ?_
    refine gf_X4_X4_states hF hP 0 rfl rfl dX4_undo_12 ?_
    refine xN_const hx hb 1 dX4_undo_15 (by decide) ?_
    refine xN_sub hx hb (by omega) dX4_undo_16 ?_
    refine pf_X4_X4_states hF hP hD hS 0 rfl (Nat.le_of_ble_eq_true rfl) dX4_undo_17 (fun H locs hP hS => ?_)
    have hP : va_P g.1 vwCl [(mo, .inr (4, [.ref mn, .ref mp, .int (nI (zs - 1)), .ref mq, .int (xz (zk)), .ref mt, .int (nI zl), .ref mm, .int (nI zp), .ref md, .int (nI zr)])), (mn, .inl (g.2.1 0, 988, .inl (w))), (mp, .inl (g.2.1 0, 3952, .inl (pa))), (mq, .inl (g.2.1 0, 988, .inl (sn))), (mt, .inl (g.2.1 1, 60, .inl (tx))), (mm, .inl (g.2.1 0, 48, .inl (me))), (md, .inl (g.2.1 0, 40, .inl (td)))] H := hP
    have hD : va_D (MF mo mn mp mq mt mm md) [(mo, .inr (4, [.ref mn, .ref mp, .int (nI (zs - 1)), .ref mq, .int (xz (zk)), .ref mt, .int (nI zl), .ref mm, .int (nI zp), .ref md, .int (nI zr)])), (mn, .inl (g.2.1 0, 988, .inl (w))), (mp, .inl (g.2.1 0, 3952, .inl (pa))), (mq, .inl (g.2.1 0, 988, .inl (sn))), (mt, .inl (g.2.1 1, 60, .inl (tx))), (mm, .inl (g.2.1 0, 48, .inl (me))), (md, .inl (g.2.1 0, 40, .inl (td)))] := (va_D_eq (by rfl) hD)
    refine lv_aload_n hx hb dX4_undo_20 rfl (lv_at hl 0 rfl) ?_
    refine gf_X4_X4_past hF hP 0 rfl rfl dX4_undo_21 ?_
    refine xN_si hx hb 988 dX4_undo_24 (by decide) ?_
    refine lv_aload_n hx hb dX4_undo_27 rfl (lv_at hl 0 rfl) ?_
    refine gf_X4_X4_states hF hP 0 rfl rfl dX4_undo_28 ?_
    refine xN_mul hx hb dX4_undo_31 ?_
    refine lv_aload_n hx hb dX4_undo_32 rfl (lv_at hl 0 rfl) ?_
    refine gf_X4_X4_now hF hP 0 rfl rfl dX4_undo_33 ?_
    refine xN_const hx hb 0 dX4_undo_36 (by decide) ?_
    refine xcv (xrS hF (c_X4_lays l g mp mn 3952 988 pa w (988 * (zs - 1)) 0 (hD.sub [2, 1] (by decide) rfl) (by decide) (by decide) (by omega) (by omega)) cal_X4_lays q_127 ⟨by decide, by decide⟩ rfl rfl rfl (hZ.at hS hAB) (hP.sub [2, 1] rfl) hl.1 rfl (Nat.le_of_ble_eq_true rfl) dX4_undo_37 ⟨Nat.le_refl _, Nat.le_refl _⟩) hS (xin_sub [2, 1] rfl) (xin_sub [2, 1] rfl) (fun H locs hq_ hz_ hk_ hS => ?_)
    have hw_ := hq_
    have hP : va_P g.1 vwCl [(mo, .inr (4, [.ref mn, .ref mp, .int (nI (zs - 1)), .ref mq, .int (xz (zk)), .ref mt, .int (nI zl), .ref mm, .int (nI zp), .ref md, .int (nI zr)])), (mn, .inl (g.2.1 0, 988, .inl (va_cpy pa w (988 * (zs - 1)) 0 988))), (mp, .inl (g.2.1 0, 3952, .inl (pa))), (mq, .inl (g.2.1 0, 988, .inl (sn))), (mt, .inl (g.2.1 1, 60, .inl (tx))), (mm, .inl (g.2.1 0, 48, .inl (me))), (md, .inl (g.2.1 0, 40, .inl (td)))] H := xjoin hP hD hw_ hk_ [2, 1] [(false, 0), (true, 1), (true, 0), (false, 3), (false, 4), (false, 5), (false, 6)] rfl rfl rfl
    have hD : va_D (MF mo mn mp mq mt mm md) [(mo, .inr (4, [.ref mn, .ref mp, .int (nI (zs - 1)), .ref mq, .int (xz (zk)), .ref mt, .int (nI zl), .ref mm, .int (nI zp), .ref md, .int (nI zr)])), (mn, .inl (g.2.1 0, 988, .inl (va_cpy pa w (988 * (zs - 1)) 0 988))), (mp, .inl (g.2.1 0, 3952, .inl (pa))), (mq, .inl (g.2.1 0, 988, .inl (sn))), (mt, .inl (g.2.1 1, 60, .inl (tx))), (mm, .inl (g.2.1 0, 48, .inl (me))), (md, .inl (g.2.1 0, 40, .inl (td)))] := va_D_eq (by rfl) hD
    refine lv_aload_n hx hb dX4_undo_40 rfl (lv_at hl 0 rfl) ?_
    refine gf_X4_X4_states hF hP 0 rfl rfl dX4_undo_41 ?_
    exact xend_i (V := nI (zs - 1)) hF hret hlocks hS (⟨by rw [if_neg (by omega)], fun h => absurd h (by omega), fun _ => hP⟩) dX4_undo_44
  · refine lv_bipush hx hb (v := (-5)) dX4_undo_7 (by decide) ?_
    exact xend_i (V := (-5)) hF hret hlocks hS (⟨by rw [if_pos c_4], fun _ => hP, fun h => absurd c_4 h⟩) dX4_undo_9
set_option maxHeartbeats 4000000 in
set_option maxRecDepth 100000 in
theorem c_X4_keep (l : Launch) (g : XG) (mo mn mp mq mt mm md zs zl zp zr : Nat) (zk : Bool) (w pa sn tx me td : Nat → Int32) (hD : va_D (MF mo mn mp mq mt mm md) (ModW g mo mn mp mq mt mm md zs zl zp zr zk w pa sn tx me td)) (hAB : ∀ q, MF mo mn mp mq mt mm md q → xB g q) (hW : WF w)  : Met l yX4_keep (ww yX4_keep cX4_keep 1 (some .int)) (rmD 1) (xP g [.ref mo] (fun H => va_P g.1 vwCl (ModW g mo mn mp mq mt mm md zs zl zp zr zk w pa sn tx me td) H)) (xQi (fun r9 H => r9 = nI (nr w) ∧ va_P g.1 vwCl (ModW g mo mn mp mq mt mm md (zs) (zl) (zp) (zr) (true) (w) (pa) (va_cpy w sn 0 0 988) (tx) (me) (td)) H) (MF mo mn mp mq mt mm md)) 0 0 (MF mo mn mp mq mt mm md) := by
  refine xMetM (by decide) rfl (Nat.le_of_ble_eq_true rfl) ?_
  intro p e s m below meth c ls H locs hF hZ hh hS hret hlocks hin hl
  have hx := hF.1.1
  have hb := hF.1.2.1
  have hP := hh
  have hP : va_P g.1 vwCl (ModW g mo mn mp mq mt mm md zs zl zp zr zk w pa sn tx me td) H := hP
  have hl : lv_has ls 1 [(0, .ref mo)] := hl
  refine lv_aload_n hx hb dX4_keep_0 rfl (lv_at hl 0 rfl) ?_
  refine gf_X4_X4_now hF hP 0 rfl rfl dX4_keep_1 ?_
  refine xN_const hx hb 0 dX4_keep_4 (by decide) ?_
  refine lv_aload_n hx hb dX4_keep_5 rfl (lv_at hl 0 rfl) ?_
  refine gf_X4_X4_snapshot hF hP 0 rfl rfl dX4_keep_6 ?_
  refine xN_const hx hb 0 dX4_keep_9 (by decide) ?_
  refine xcv (xrS hF (c_X4_lays l g mn mq 988 988 w sn 0 0 (hD.sub [1, 3] (by decide) rfl) (by decide) (by decide) (by omega) (by omega)) cal_X4_lays q_127 ⟨by decide, by decide⟩ rfl rfl rfl (hZ.at hS hAB) (hP.sub [1, 3] rfl) hl.1 rfl (Nat.le_of_ble_eq_true rfl) dX4_keep_10 ⟨Nat.le_refl _, Nat.le_refl _⟩) hS (xin_sub [1, 3] rfl) (xin_sub [1, 3] rfl) (fun H locs hq_ hz_ hk_ hS => ?_)
  have hw_ := hq_
  have hP : va_P g.1 vwCl [(mo, .inr (4, [.ref mn, .ref mp, .int (nI zs), .ref mq, .int (xz (zk)), .ref mt, .int (nI zl), .ref mm, .int (nI zp), .ref md, .int (nI zr)])), (mn, .inl (g.2.1 0, 988, .inl (w))), (mp, .inl (g.2.1 0, 3952, .inl (pa))), (mq, .inl (g.2.1 0, 988, .inl (va_cpy w sn 0 0 988))), (mt, .inl (g.2.1 1, 60, .inl (tx))), (mm, .inl (g.2.1 0, 48, .inl (me))), (md, .inl (g.2.1 0, 40, .inl (td)))] H := xjoin hP hD hw_ hk_ [1, 3] [(false, 0), (true, 0), (false, 2), (true, 1), (false, 4), (false, 5), (false, 6)] rfl rfl rfl
  have hD : va_D (MF mo mn mp mq mt mm md) [(mo, .inr (4, [.ref mn, .ref mp, .int (nI zs), .ref mq, .int (xz (zk)), .ref mt, .int (nI zl), .ref mm, .int (nI zp), .ref md, .int (nI zr)])), (mn, .inl (g.2.1 0, 988, .inl (w))), (mp, .inl (g.2.1 0, 3952, .inl (pa))), (mq, .inl (g.2.1 0, 988, .inl (va_cpy w sn 0 0 988))), (mt, .inl (g.2.1 1, 60, .inl (tx))), (mm, .inl (g.2.1 0, 48, .inl (me))), (md, .inl (g.2.1 0, 40, .inl (td)))] := va_D_eq (by rfl) hD
  refine lv_aload_n hx hb dX4_keep_13 rfl (lv_at hl 0 rfl) ?_
  refine xN_const hx hb 1 dX4_keep_14 (by decide) ?_
  refine pf_X4_X4_isKept (x := true) hF hP hD hS 0 rfl (Nat.le_of_ble_eq_true rfl) dX4_keep_15 (fun H locs hP hS => ?_)
  have hP : va_P g.1 vwCl [(mo, .inr (4, [.ref mn, .ref mp, .int (nI zs), .ref mq, .int (xz (true)), .ref mt, .int (nI zl), .ref mm, .int (nI zp), .ref md, .int (nI zr)])), (mn, .inl (g.2.1 0, 988, .inl (w))), (mp, .inl (g.2.1 0, 3952, .inl (pa))), (mq, .inl (g.2.1 0, 988, .inl (va_cpy w sn 0 0 988))), (mt, .inl (g.2.1 1, 60, .inl (tx))), (mm, .inl (g.2.1 0, 48, .inl (me))), (md, .inl (g.2.1 0, 40, .inl (td)))] H := hP
  have hD : va_D (MF mo mn mp mq mt mm md) [(mo, .inr (4, [.ref mn, .ref mp, .int (nI zs), .ref mq, .int (xz (true)), .ref mt, .int (nI zl), .ref mm, .int (nI zp), .ref md, .int (nI zr)])), (mn, .inl (g.2.1 0, 988, .inl (w))), (mp, .inl (g.2.1 0, 3952, .inl (pa))), (mq, .inl (g.2.1 0, 988, .inl (va_cpy w sn 0 0 988))), (mt, .inl (g.2.1 1, 60, .inl (tx))), (mm, .inl (g.2.1 0, 48, .inl (me))), (md, .inl (g.2.1 0, 40, .inl (td)))] := (va_D_eq (by rfl) hD)
  refine lv_aload_n hx hb dX4_keep_18 rfl (lv_at hl 0 rfl) ?_
  refine gf_X4_X4_now hF hP 0 rfl rfl dX4_keep_19 ?_
  refine xN_const hx hb 0 dX4_keep_22 (by decide) ?_
  refine xA_ild hF hP 1 rfl (by omega) (by decide) (v := nI (nr w)) (hW.r0) dX4_keep_23 ?_
  exact xend_i (V := nI (nr w)) hF hret hlocks hS (⟨rfl, hP⟩) dX4_keep_24
set_option maxHeartbeats 4000000 in
set_option maxRecDepth 100000 in
theorem c_X4_restore (l : Launch) (g : XG) (mo mn mp mq mt mm md zs zl zp zr : Nat) (zk : Bool) (w pa sn tx me td : Nat → Int32) (hD : va_D (MF mo mn mp mq mt mm md) (ModW g mo mn mp mq mt mm md zs zl zp zr zk w pa sn tx me td)) (hAB : ∀ q, MF mo mn mp mq mt mm md q → xB g q) (hS0 : zk = true → WF sn) (hz4 : zs ≤ 4)  : Met l yX4_restore (ww yX4_restore cX4_restore 1 (some .int)) (rmD 2) (xP g [.ref mo] (fun H => va_P g.1 vwCl (ModW g mo mn mp mq mt mm md zs zl zp zr zk w pa sn tx me td) H)) (xQi (fun r9 H => r9 = (if zk then nI (nr sn) else -5) ∧ (zk = false → va_P g.1 vwCl (ModW g mo mn mp mq mt mm md (zs) (zl) (zp) (zr) (zk) (w) (pa) (sn) (tx) (me) (td)) H) ∧ (zk = true → va_P g.1 vwCl (ModW g mo mn mp mq mt mm md (recS zs + 1) (zl) (zp) (zr) (zk) (va_cpy sn w 0 0 988) (recP w pa zs) (sn) (tx) (me) (td)) H)) (MF mo mn mp mq mt mm md)) 0 0 (MF mo mn mp mq mt mm md) := by
  refine xMetM (by decide) rfl (Nat.le_of_ble_eq_true rfl) ?_
  intro p e s m below meth c ls H locs hF hZ hh hS hret hlocks hin hl
  have hx := hF.1.1
  have hb := hF.1.2.1
  have hP := hh
  have hP : va_P g.1 vwCl (ModW g mo mn mp mq mt mm md zs zl zp zr zk w pa sn tx me td) H := hP
  have hl : lv_has ls 1 [(0, .ref mo)] := hl
  refine lv_aload_n hx hb dX4_restore_0 rfl (lv_at hl 0 rfl) ?_
  refine gf_X4_X4_isKept hF hP 0 rfl rfl dX4_restore_1 ?_
  refine xZ_ne (tgt := 10) hx hb dX4_restore_4 (by decide) (fun c_4 => ?_) (fun c_4 => ?_)
  · refine lv_aload_n hx hb dX4_restore_10 rfl (lv_at hl 0 rfl) ?_
    refine xcv (xrV hF (c_X4_records l g mo mn mp mq mt mm md zs zl zp zr zk w pa sn tx me td hD hAB (by omega)) cal_X4_records q_122 ⟨by decide, by decide⟩ rfl rfl rfl (va_recv hF.2.1 hP (ci := 4) (q0 := 0) rfl rfl) (hZ.at hS hAB) (hP) hl.1 rfl (Nat.le_of_ble_eq_true rfl) dX4_restore_11 ⟨Nat.le_refl _, Nat.le_refl _⟩) hS (xin_sub [0, 1, 2, 3, 4, 5, 6] rfl) (xin_sub [0, 1, 2, 3, 4, 5, 6] rfl) (fun H locs hq_ hz_ hk_ hS => ?_)
    have hw_ := hq_
    have hP : va_P g.1 vwCl [(mo, .inr (4, [.ref mn, .ref mp, .int (nI (recS zs + 1)), .ref mq, .int (xz (zk)), .ref mt, .int (nI zl), .ref mm, .int (nI zp), .ref md, .int (nI zr)])), (mn, .inl (g.2.1 0, 988, .inl (w))), (mp, .inl (g.2.1 0, 3952, .inl (recP w pa zs))), (mq, .inl (g.2.1 0, 988, .inl (sn))), (mt, .inl (g.2.1 1, 60, .inl (tx))), (mm, .inl (g.2.1 0, 48, .inl (me))), (md, .inl (g.2.1 0, 40, .inl (td)))] H := xjoin hP hD hw_ hk_ [0, 1, 2, 3, 4, 5, 6] [(true, 0), (true, 1), (true, 2), (true, 3), (true, 4), (true, 5), (true, 6)] rfl rfl rfl
    have hD : va_D (MF mo mn mp mq mt mm md) [(mo, .inr (4, [.ref mn, .ref mp, .int (nI (recS zs + 1)), .ref mq, .int (xz (zk)), .ref mt, .int (nI zl), .ref mm, .int (nI zp), .ref md, .int (nI zr)])), (mn, .inl (g.2.1 0, 988, .inl (w))), (mp, .inl (g.2.1 0, 3952, .inl (recP w pa zs))), (mq, .inl (g.2.1 0, 988, .inl (sn))), (mt, .inl (g.2.1 1, 60, .inl (tx))), (mm, .inl (g.2.1 0, 48, .inl (me))), (md, .inl (g.2.1 0, 40, .inl (td)))] := va_D_eq (by rfl) hD
    refine lv_aload_n hx hb dX4_restore_14 rfl (lv_at hl 0 rfl) ?_
    refine gf_X4_X4_snapshot hF hP 0 rfl rfl dX4_restore_15 ?_
    refine xN_const hx hb 0 dX4_restore_18 (by decide) ?_
    refine lv_aload_n hx hb dX4_restore_19 rfl (lv_at hl 0 rfl) ?_
    refine gf_X4_X4_now hF hP 0 rfl rfl dX4_restore_20 ?_
    refine xN_const hx hb 0 dX4_restore_23 (by decide) ?_
    refine xcv (xrS hF (c_X4_lays l g mq mn 988 988 sn w 0 0 (hD.sub [3, 1] (by decide) rfl) (by decide) (by decide) (by omega) (by omega)) cal_X4_lays q_127 ⟨by decide, by decide⟩ rfl rfl rfl (hZ.at hS hAB) (hP.sub [3, 1] rfl) hl.1 rfl (Nat.le_of_ble_eq_true rfl) dX4_restore_24 ⟨Nat.le_refl _, Nat.le_refl _⟩) hS (xin_sub [3, 1] rfl) (xin_sub [3, 1] rfl) (fun H locs hq_ hz_ hk_ hS => ?_)
    have hw_ := hq_
    have hP : va_P g.1 vwCl [(mo, .inr (4, [.ref mn, .ref mp, .int (nI (recS zs + 1)), .ref mq, .int (xz (zk)), .ref mt, .int (nI zl), .ref mm, .int (nI zp), .ref md, .int (nI zr)])), (mn, .inl (g.2.1 0, 988, .inl (va_cpy sn w 0 0 988))), (mp, .inl (g.2.1 0, 3952, .inl (recP w pa zs))), (mq, .inl (g.2.1 0, 988, .inl (sn))), (mt, .inl (g.2.1 1, 60, .inl (tx))), (mm, .inl (g.2.1 0, 48, .inl (me))), (md, .inl (g.2.1 0, 40, .inl (td)))] H := xjoin hP hD hw_ hk_ [3, 1] [(false, 0), (true, 1), (false, 2), (true, 0), (false, 4), (false, 5), (false, 6)] rfl rfl rfl
    have hD : va_D (MF mo mn mp mq mt mm md) [(mo, .inr (4, [.ref mn, .ref mp, .int (nI (recS zs + 1)), .ref mq, .int (xz (zk)), .ref mt, .int (nI zl), .ref mm, .int (nI zp), .ref md, .int (nI zr)])), (mn, .inl (g.2.1 0, 988, .inl (va_cpy sn w 0 0 988))), (mp, .inl (g.2.1 0, 3952, .inl (recP w pa zs))), (mq, .inl (g.2.1 0, 988, .inl (sn))), (mt, .inl (g.2.1 1, 60, .inl (tx))), (mm, .inl (g.2.1 0, 48, .inl (me))), (md, .inl (g.2.1 0, 40, .inl (td)))] := va_D_eq (by rfl) hD
    refine lv_aload_n hx hb dX4_restore_27 rfl (lv_at hl 0 rfl) ?_
    refine gf_X4_X4_now hF hP 0 rfl rfl dX4_restore_28 ?_
    refine xN_const hx hb 0 dX4_restore_31 (by decide) ?_
    refine xA_ild hF hP 1 rfl (by omega) (by decide) (v := nI (nr sn)) (by rw [xcpy0_in (by decide)]; exact (hS0 c_4).r0) dX4_restore_32 ?_
    exact xend_i (V := nI (nr sn)) hF hret hlocks hS (⟨by rw [c_4]; rfl, fun h => absurd (h.symm.trans c_4) (by decide), fun _ => hP⟩) dX4_restore_33
  · refine lv_bipush hx hb (v := (-5)) dX4_restore_7 (by decide) ?_
    exact xend_i (V := (-5)) hF hret hlocks hS (⟨by rw [c_4]; rfl, fun _ => hP, fun h => absurd (c_4.symm.trans h) (by decide)⟩) dX4_restore_9
