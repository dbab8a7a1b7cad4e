/-! the reference reads the text -/
def seB (zl zp : Nat) (tx : Nat → Int32) (lo hi : Int32) : Bool := decide (zp < zl) && (decide (lo ≤ tx zp) && decide (tx zp ≤ hi))
theorem seB_i {zl zp : Nat} {tx : Nat → Int32} {lo hi : Int32} : seB zl zp tx lo hi = true ↔ zp < zl ∧ lo ≤ tx zp ∧ tx zp ≤ hi := by
  unfold seB; rw [Bool.and_eq_true, Bool.and_eq_true, decide_eq_true_eq, decide_eq_true_eq, decide_eq_true_eq]
theorem seB_1 {zl zp : Nat} {tx : Nat → Int32} {x : Int32} (h : seB zl zp tx x x = true) : zp < zl ∧ tx zp = x := by
  obtain ⟨h1, h2, h3⟩ := seB_i.mp h
  exact ⟨h1, Int32.le_antisymm h3 h2⟩
theorem seB_0 {zl zp : Nat} {tx : Nat → Int32} {x : Int32} (h : seB zl zp tx x x = false) (hz : zp < zl) : ¬ tx zp = x := fun q => by
  have : seB zl zp tx x x = true := seB_i.mpr ⟨hz, by rw [q]; exact Int32.le_refl _, by rw [q]; exact Int32.le_refl _⟩
  rw [h] at this; cases this
theorem seB_d {zl zp n : Nat} {tx : Nat → Int32} (hn : n ≤ 9) (h : seB zl zp tx (nI 48) (nI (48 + n)) = true) : zp < zl ∧ ∃ u : Nat, u ≤ n ∧ tx zp = nI (48 + u) := by
  obtain ⟨h1, h2, h3⟩ := seB_i.mp h
  obtain ⟨u, hu, e, _⟩ := dgt h2 (Int32.le_trans h3 (nI_le (a := 48 + n) (b := 57) (by omega) (by omega)))
  refine ⟨h1, u, ?_, e⟩
  rw [e] at h3
  have := (nI_leI (by omega) (by omega)).mp h3
  omega
theorem seB_nd {zl zp n : Nat} {tx : Nat → Int32} (hn : n ≤ 9) (h : seB zl zp tx (nI 48) (nI (48 + n)) = false) (hz : zp < zl) : ∀ u, u ≤ n → ¬ tx zp = nI (48 + u) := fun u hu q => by
  have : seB zl zp tx (nI 48) (nI (48 + n)) = true := seB_i.mpr ⟨hz, by rw [q]; exact nI_le (by omega) (by omega), by rw [q]; exact nI_le (by omega) (by omega)⟩
  rw [h] at this; cases this
theorem grw_neg {k : Nat} {e x : Int32} (h7 : ¬ e = -7) (h0 : e ≤ 0) : grw k e x = -8 := by
  unfold grw
  split
  · exact wdg_0 h7 h0
  · rw [if_neg (fun q => h7 q.1), if_neg (fun q => h7 q.1)]
theorem grw_nd {k : Nat} {e x : Int32} (h7 : ¬ e = -7) (hx : ∀ u, u ≤ 9 → ¬ x = nI (48 + u)) : grw k e x = -8 := by
  unfold grw
  split
  · next h => obtain ⟨u, hu, e1, _⟩ := dgt h.1 h.2; exact absurd e1 (hx u hu)
  · rw [if_neg (fun q => h7 q.1), if_neg (fun q => h7 q.1)]
theorem grw_big {k u v : Nat} {x : Int32} (hu : u ≤ 9) (h0 : 0 < v) (hv : v ≤ cmN k) (hx : x = nI (48 + u)) (hb : cmN k < v * 10 + u) : grw k (nI v) x = -8 := by
  rw [grw_d hu hx, wdg_v hu h0 hv, if_neg (by omega)]
theorem stp0 {cn : Nat} {fn : Nat → Int32} {x : Int32} (h1 : ¬ x = nI 45) (h2 : ¬ x = nI 39) (h3 : ∀ u, u ≤ 9 → u ≤ cmN (cn % 4) → ¬ x = nI (48 + u)) : stp (cn, -7, fn) x = none := by
  refine stp_n ?_ (fun q => q.1 rfl)
  show grw (cn % 4) (-7) x = -8
  by_cases hd : 48 ≤ x ∧ x ≤ 57
  · obtain ⟨u, hu, e1, _⟩ := dgt hd.1 hd.2
    rw [grw_d hu e1, wdg_7 hu, if_neg (fun q => h3 u hu q e1)]
  · unfold grw
    rw [if_neg hd, if_neg (fun q => h1 q.2), if_neg (fun q => h2 q.2)]
theorem pst_45 {tx fn : Nat → Int32} {z cn : Nat} (h : pst tx z = some (cn, -7, fn)) (hx : tx z = nI 45) : pst tx (z + 1) = some (cn, -5, fn) := by
  rw [pst_s h, hx]; exact stp_g (s := (cn, -7, fn)) (show ¬ grw (cn % 4) (-7) 45 = -8 by rw [grw_45, if_pos rfl]; decide) |>.trans (by show some (cn, grw (cn % 4) (-7) 45, fn) = _; rw [grw_45, if_pos rfl])
theorem pst_39 {tx fn : Nat → Int32} {z cn : Nat} (h : pst tx z = some (cn, -7, fn)) (hx : tx z = nI 39) : pst tx (z + 1) = some (cn, -6, fn) := by
  rw [pst_s h, hx]; exact stp_g (s := (cn, -7, fn)) (show ¬ grw (cn % 4) (-7) 39 = -8 by rw [grw_39, if_pos rfl]; decide) |>.trans (by show some (cn, grw (cn % 4) (-7) 39, fn) = _; rw [grw_39, if_pos rfl])
theorem nI_n8 {v : Nat} (h : v < 1000) : ¬ nI v = -8 := fun q => by have := congrArg Int32.toInt q; rw [nI_toInt (by omega), show (-8 : Int32).toInt = -8 from rfl] at this; omega
theorem pst_d0 {tx fn : Nat → Int32} {z cn u : Nat} (h : pst tx z = some (cn, -7, fn)) (hu : u ≤ 9) (hx : tx z = nI (48 + u)) (hc : u ≤ cmN (cn % 4)) : pst tx (z + 1) = some (cn, nI u, fn) := by
  have e : grw (cn % 4) (-7) (tx z) = nI u := by rw [grw_d hu hx, wdg_7 hu, if_pos hc]
  rw [pst_s h, stp_g (s := (cn, -7, fn)) (by show ¬ grw (cn % 4) (-7) (tx z) = -8; rw [e]; exact nI_n8 (by omega))]
  show some (cn, grw (cn % 4) (-7) (tx z), fn) = _
  rw [e]
theorem pst_dg {tx fn : Nat → Int32} {z cn u v : Nat} (h : pst tx z = some (cn, nI v, fn)) (h0 : 0 < v) (hv : v ≤ cmN (cn % 4)) (hu : u ≤ 9) (hx : tx z = nI (48 + u)) (hc : v * 10 + u ≤ cmN (cn % 4)) : pst tx (z + 1) = some (cn, nI (v * 10 + u), fn) := by
  have h199 := cmN_le (cn % 4)
  have e : grw (cn % 4) (nI v) (tx z) = nI (v * 10 + u) := by rw [grw_d hu hx, wdg_v hu h0 hv, if_pos hc]
  rw [pst_s h, stp_g (s := (cn, nI v, fn)) (by show ¬ grw (cn % 4) (nI v) (tx z) = -8; rw [e]; exact nI_n8 (by omega))]
  show some (cn, grw (cn % 4) (nI v) (tx z), fn) = _
  rw [e]
theorem pst_sep {tx fn : Nat → Int32} {z cn : Nat} {en x : Int32} (h : pst tx z = some (cn, en, fn)) (h7 : ¬ en = -7) (hg : grw (cn % 4) en (tx z) = -8) (hx : tx z = x) (hs : x = sepC (cn % 4)) : pst tx (z + 1) = some (cn + 1, -7, upd fn cn en) := by
  rw [pst_s h, stp_c (s := (cn, en, fn)) hg h7 (hx.trans hs)]
theorem sep44 {k : Nat} (h : ¬ k = 3) : nI 44 = sepC k := by unfold sepC; rw [if_neg h]; rfl
theorem sep59 {k : Nat} (h : k = 3) : nI 59 = sepC k := by unfold sepC; rw [if_pos h]; rfl
theorem PBad_0 {tx fn : Nat → Int32} {zl z cn : Nat} (h : pst tx z = some (cn, -7, fn)) (hz : z ≤ zl) (hd : z = zl ∨ stp (cn, -7, fn) (tx z) = none) : PBad tx zl z := by
  refine ⟨_, h, ?_⟩
  by_cases e : z = zl
  · exact Or.inr ⟨e, Or.inl rfl⟩
  · exact Or.inl ⟨by omega, hd.resolve_left e⟩
theorem PBad_1 {tx fn : Nat → Int32} {zl z cn : Nat} {en x : Int32} (h : pst tx z = some (cn, en, fn)) (hz : z ≤ zl) (h7 : ¬ en = -7) (hg : z < zl → grw (cn % 4) en (tx z) = -8) (hx : z < zl → ¬ tx z = x) (hs : x = sepC (cn % 4)) (h3 : ¬ cn % 4 = 3) : PBad tx zl z := by
  refine ⟨_, h, ?_⟩
  by_cases e : z = zl
  · exact Or.inr ⟨e, Or.inr h3⟩
  · exact Or.inl ⟨by omega, stp_n (hg (by omega)) (fun q => hx (by omega) (q.2.trans hs.symm))⟩
theorem cesW_lo {w f : Nat → Int32} {r j : Nat} (hj : j < 28) : ∀ n, cesW w r f n j = w j
  | 0 => rfl
  | n + 1 => by rw [cesW, cmsW_lo (by omega)]; exact cesW_lo hj n
theorem nI_nm5 {j : Nat} (h : j < 2147483648) : ¬ nI j = -5 := fun q => by have := congrArg Int32.toInt q; rw [nI_toInt h, show (-5 : Int32).toInt = -5 from rfl] at this; omega
set_option maxHeartbeats 4000000 in
set_option maxRecDepth 100000 in
theorem c_X4_sees (l : Launch) (g : XG) (mo mn mp mq mt mm md zs zl zp zr : Nat) (zk : Bool) (tx : Nat → Int32) (hz60 : zl ≤ 60) (hzp : zp ≤ zl) (x y : Int32) : Met l yX4_sees (ww yX4_sees cX4_sees 3 (some .boolean)) (rmD 1) (xP g [.ref mo, .int (x), .int (y)] (fun H => va_P g.1 vwCl [ModO mo mn mp mq mt mm md zs zl zp zr zk, (mt, .inl (g.2.1 1, 60, .inl tx))] H)) (vp_Si (fun r9 => r9 = xz (seB zl zp tx x y))) 0 0 (fun _ => False) := by
  refine xMet (by decide) rfl (Nat.le_of_ble_eq_true rfl) ?_
  intro p e s m below meth c ls hF hZ hh hret hlocks hin hl
  have hx := hF.1.1
  have hb := hF.1.2.1
  have hP := hh
  have hP : va_P g.1 vwCl [ModO mo mn mp mq mt mm md zs zl zp zr zk, (mt, .inl (g.2.1 1, 60, .inl tx))] s.heap := hP
  have hl : lv_has ls 3 [(0, .ref mo), (1, .int (x)), (2, .int (y))] := hl
  refine lv_aload_n hx hb dX4_sees_0 rfl (lv_at hl 0 rfl) ?_
  refine gf_X4_X4_spot hF hP 0 rfl rfl dX4_sees_1 ?_
  refine lv_aload_n hx hb dX4_sees_4 rfl (lv_at hl 0 rfl) ?_
  refine gf_X4_X4_length hF hP 0 rfl rfl dX4_sees_5 ?_
  refine xC_ge (tgt := 32) hx hb (by omega) (by omega) dX4_sees_8 (by decide) (fun c_8 => ?_) (fun c_8 => ?_)
  · refine xN_const hx hb 0 dX4_sees_32 (by decide) ?_
    exact xret_t (V := nI (0)) hF hret hlocks rfl (by unfold seB; rw [decide_eq_false (by omega)]; rfl) dX4_sees_33
  · refine lv_aload_n hx hb dX4_sees_11 rfl (lv_at hl 0 rfl) ?_
    refine gf_X4_X4_text hF hP 0 rfl rfl dX4_sees_12 ?_
    refine lv_aload_n hx hb dX4_sees_15 rfl (lv_at hl 0 rfl) ?_
    refine gf_X4_X4_spot hF hP 0 rfl rfl dX4_sees_16 ?_
    refine xA_cld hF hP 1 rfl (by omega) (by decide) (v := (tx (zp))) rfl dX4_sees_19 ?_
    refine lv_iload_n hx hb dX4_sees_20 rfl (lv_at hl 1 rfl) ?_
    refine lv_iload_n hx hb dX4_sees_21 rfl (lv_at hl 2 rfl) ?_
    refine vp_callSi (va_Run.run (xrS hF (c_X4_in l g ((tx (zp))) ((x)) ((y)) ) cal_X4_in q_119 ⟨by decide, by decide⟩ rfl rfl rfl hZ (trivial) hl.1 rfl (Nat.le_of_ble_eq_true rfl) dX4_sees_22 ⟨Nat.le_refl _, Nat.le_refl _⟩)) (fun r_ h_ => ?_)
    subst h_
    refine xZ_eq (tgt := 32) hx hb dX4_sees_25 (by decide) (fun c_25 => ?_) (fun c_25 => ?_)
    · refine xN_const hx hb 0 dX4_sees_32 (by decide) ?_
      exact xret_t (V := nI (0)) hF hret hlocks rfl (by unfold seB; rw [decide_eq_true (by omega), c_25]; rfl) dX4_sees_33
    · refine xN_const hx hb 1 dX4_sees_28 (by decide) ?_
      refine lv_goto (tgt := 33) hx hb dX4_sees_29 (by decide) ?_
      exact xret_t (V := nI (1)) hF hret hlocks rfl (by unfold seB; rw [decide_eq_true (by omega), c_25]; rfl) dX4_sees_33
set_option maxHeartbeats 4000000 in
set_option maxRecDepth 100000 in
theorem c_X4_takes (l : Launch) (g : XG) (mo mn mp mq mt mm md zs zl zp zr : Nat) (zk : Bool) (w pa sn tx me td : Nat → Int32) (hD : va_D (MF mo mn mp mq mt mm md) (ModW g mo mn mp mq mt mm md zs zl zp zr zk w pa sn tx me td)) (hAB : ∀ q, MF mo mn mp mq mt mm md q → xB g q) (hz60 : zl ≤ 60) (hzp : zp ≤ zl) (x : Int32) : Met l yX4_takes (ww yX4_takes cX4_takes 3 (some .boolean)) (rmD 2) (xP g [.ref mo, .int (x)] (fun H => va_P g.1 vwCl (ModW g mo mn mp mq mt mm md zs zl zp zr zk w pa sn tx me td) H)) (xQi (fun r9 H => r9 = xz (seB zl zp tx x x) ∧ (seB zl zp tx x x = true → va_P g.1 vwCl (ModW g mo mn mp mq mt mm md (zs) (zl) (zp + 1) (zr) (zk) (w) (pa) (sn) (tx) (me) (td)) H) ∧ (seB zl zp tx x x = false → va_P g.1 vwCl (ModW g mo mn mp mq mt mm md (zs) (zl) (zp) (zr) (zk) (w) (pa) (sn) (tx) (me) (td)) H)) (MF mo mn mp mq mt mm md)) 0 0 (MF mo mn mp mq mt mm md) := by
  refine xMetM (by decide) rfl (Nat.le_of_ble_eq_true rfl) ?_
  intro p e s m below meth c ls H locs hF hZ hh hS hret hlocks hin hl
  have hx := hF.1.1
  have hb := hF.1.2.1
  have hP := hh
  have hP : va_P g.1 vwCl (ModW g mo mn mp mq mt mm md zs zl zp zr zk w pa sn tx me td) H := hP
  have hl : lv_has ls 3 [(0, .ref mo), (1, .int (x))] := hl
  refine lv_aload_n hx hb dX4_takes_0 rfl (lv_at hl 0 rfl) ?_
  refine lv_iload_n hx hb dX4_takes_1 rfl (lv_at hl 1 rfl) ?_
  refine lv_iload_n hx hb dX4_takes_2 rfl (lv_at hl 1 rfl) ?_
  refine vp_callSi (va_Run.run (xrV hF (c_X4_sees l g mo mn mp mq mt mm md zs zl zp zr zk tx hz60 (by omega) ((x)) ((x))) cal_X4_sees q_193 ⟨by decide, by decide⟩ rfl rfl rfl (va_recv hF.2.1 hP (ci := 4) (q0 := 0) rfl rfl) (hZ.at hS hAB) (hP.sub [0, 4] rfl) hl.1 rfl (Nat.le_of_ble_eq_true rfl) dX4_takes_3 ⟨Nat.le_refl _, Nat.le_refl _⟩)) (fun r_ h_ => ?_)
  subst h_
  refine lv_istore_n (lv' := [(2, .int (xz (seB zl zp tx ((x)) ((x))))), (0, .ref mo), (1, .int (x))]) hx hb dX4_takes_6 rfl hl (by decide) rfl (fun ls hl => ?_)
  refine lv_aload_n hx hb dX4_takes_7 rfl (lv_at hl 1 rfl) ?_
  refine lv_dup hx hb dX4_takes_8 rfl ?_
  refine gf_X4_X4_spot hF hP 0 rfl rfl dX4_takes_9 ?_
  refine lv_iload_n hx hb dX4_takes_12 rfl (lv_at hl 0 rfl) ?_
  refine xZ_eq (tgt := 20) hx hb dX4_takes_13 (by decide) (fun c_13 => ?_) (fun c_13 => ?_)
  · refine xN_const hx hb 0 dX4_takes_20 (by decide) ?_
    refine xN_add hx hb dX4_takes_21 ?_
    refine pf_X4_X4_spot hF hP hD hS 0 rfl (Nat.le_of_ble_eq_true rfl) dX4_takes_22 (fun H locs hP hS => ?_)
    have hP : va_P g.1 vwCl [(mo, .inr (4, [.ref mn, .ref mp, .int (nI zs), .ref mq, .int (xz (zk)), .ref mt, .int (nI zl), .ref mm, .int (nI (zp + 0)), .ref md, .int (nI zr)])), (mn, .inl (g.2.1 0, 988, .inl (w))), (mp, .inl (g.2.1 0, 3952, .inl (pa))), (mq, .inl (g.2.1 0, 988, .inl (sn))), (mt, .inl (g.2.1 1, 60, .inl (tx))), (mm, .inl (g.2.1 0, 48, .inl (me))), (md, .inl (g.2.1 0, 40, .inl (td)))] H := hP
    have hD : va_D (MF mo mn mp mq mt mm md) [(mo, .inr (4, [.ref mn, .ref mp, .int (nI zs), .ref mq, .int (xz (zk)), .ref mt, .int (nI zl), .ref mm, .int (nI (zp + 0)), .ref md, .int (nI zr)])), (mn, .inl (g.2.1 0, 988, .inl (w))), (mp, .inl (g.2.1 0, 3952, .inl (pa))), (mq, .inl (g.2.1 0, 988, .inl (sn))), (mt, .inl (g.2.1 1, 60, .inl (tx))), (mm, .inl (g.2.1 0, 48, .inl (me))), (md, .inl (g.2.1 0, 40, .inl (td)))] := (va_D_eqL [mo, mn, mp, mq, mt, mm, md] rfl rfl hD)
    refine lv_iload_n hx hb dX4_takes_25 rfl (lv_at hl 0 rfl) ?_
    exact xend_t (V := xz (seB zl zp tx ((x)) ((x)))) hF hret hlocks (xz_nar _) hS (⟨rfl, fun h => absurd (h.symm.trans c_13) (by decide), fun _ => hP⟩) dX4_takes_26
  · refine xN_const hx hb 1 dX4_takes_16 (by decide) ?_
    refine lv_goto (tgt := 21) hx hb dX4_takes_17 (by decide) ?_
    refine xN_add hx hb dX4_takes_21 ?_
    refine pf_X4_X4_spot hF hP hD hS 0 rfl (Nat.le_of_ble_eq_true rfl) dX4_takes_22 (fun H locs hP hS => ?_)
    have hP : va_P g.1 vwCl [(mo, .inr (4, [.ref mn, .ref mp, .int (nI zs), .ref mq, .int (xz (zk)), .ref mt, .int (nI zl), .ref mm, .int (nI (zp + 1)), .ref md, .int (nI zr)])), (mn, .inl (g.2.1 0, 988, .inl (w))), (mp, .inl (g.2.1 0, 3952, .inl (pa))), (mq, .inl (g.2.1 0, 988, .inl (sn))), (mt, .inl (g.2.1 1, 60, .inl (tx))), (mm, .inl (g.2.1 0, 48, .inl (me))), (md, .inl (g.2.1 0, 40, .inl (td)))] H := hP
    have hD : va_D (MF mo mn mp mq mt mm md) [(mo, .inr (4, [.ref mn, .ref mp, .int (nI zs), .ref mq, .int (xz (zk)), .ref mt, .int (nI zl), .ref mm, .int (nI (zp + 1)), .ref md, .int (nI zr)])), (mn, .inl (g.2.1 0, 988, .inl (w))), (mp, .inl (g.2.1 0, 3952, .inl (pa))), (mq, .inl (g.2.1 0, 988, .inl (sn))), (mt, .inl (g.2.1 1, 60, .inl (tx))), (mm, .inl (g.2.1 0, 48, .inl (me))), (md, .inl (g.2.1 0, 40, .inl (td)))] := (va_D_eqL [mo, mn, mp, mq, mt, mm, md] rfl rfl hD)
    refine lv_iload_n hx hb dX4_takes_25 rfl (lv_at hl 0 rfl) ?_
    exact xend_t (V := xz (seB zl zp tx ((x)) ((x)))) hF hret hlocks (xz_nar _) hS (⟨rfl, fun _ => hP, fun h => absurd (h.symm.trans c_13) (by decide)⟩) dX4_takes_26
set_option maxHeartbeats 4000000 in
set_option maxRecDepth 100000 in
theorem c_X4_isCellNext (l : Launch) (g : XG) (mo mn mp mq mt mm md zs zl zp zr : Nat) (zk : Bool) (w pa sn tx me td : Nat → Int32) (hD : va_D (MF mo mn mp mq mt mm md) (ModW g mo mn mp mq mt mm md zs zl zp zr zk w pa sn tx me td)) (hAB : ∀ q, MF mo mn mp mq mt mm md q → xB g q) (hz60 : zl ≤ 60) (cn : Nat) (fn : Nat → Int32) (hzp : zp ≤ zl) (hps : pst tx zp = some (cn, -7, fn)) (htd : ∀ q, q < cn → td q = fn q) : Met l yX4_isCellNext (ww yX4_isCellNext cX4_isCellNext 4 (some .boolean)) (rmD 3) (xP g [.ref mo, .int (nI cn)] (fun H => va_P g.1 vwCl (ModW g mo mn mp mq mt mm md zs zl zp zr zk w pa sn tx me td) H)) (xQi (fun r9 H => (r9 = xz false ∧ (zp = zl ∨ stp (cn, -7, fn) (tx zp) = none) ∧ va_P g.1 vwCl (ModW g mo mn mp mq mt mm md (zs) (zl) (zp) (zr) (zk) (w) (pa) (sn) (tx) (me) (td)) H) ∨ (r9 = xz true ∧ ∃ (z2 : Nat) (en : Int32) (td2 : Nat → Int32), zp < z2 ∧ z2 ≤ zl ∧ pst tx z2 = some (cn, en, fn) ∧ ¬ en = -7 ∧ (z2 < zl → grw (cn % 4) en (tx z2) = -8) ∧ (∀ q, q < cn + 1 → td2 q = upd fn cn en q) ∧ va_P g.1 vwCl (ModW g mo mn mp mq mt mm md (zs) (zl) (z2) (zr) (zk) (w) (pa) (sn) (tx) (me) (td2)) H)) (MF mo mn mp mq mt mm md)) 0 0 (MF mo mn mp mq mt mm md) := by
  refine xMetM (by decide) rfl (Nat.le_of_ble_eq_true rfl) ?_
  intro p e s m below meth c ls H locs hF hZ hh hS hret hlocks hin hl
  have hx := hF.1.1
  have hb := hF.1.2.1
  have hP := hh
  have hP : va_P g.1 vwCl (ModW g mo mn mp mq mt mm md zs zl zp zr zk w pa sn tx me td) H := hP
  have hl : lv_has ls 4 [(0, .ref mo), (1, .int (nI cn))] := hl
  have h2c : 2 * cn ≤ zp := pst_lt hps
  have hcm := cmN_le (cn % 4)
  refine lv_iload_n hx hb dX4_isCellNext_0 rfl (lv_at hl 1 rfl) ?_
  refine xN_const hx hb 4 dX4_isCellNext_1 (by decide) ?_
  refine xN_rem hx hb (by omega) (by omega) (by omega) dX4_isCellNext_2 ?_
  refine lv_istore_n (lv' := [(2, .int (nI (cn % 4))), (0, .ref mo), (1, .int (nI cn))]) hx hb dX4_isCellNext_3 rfl hl (by decide) rfl (fun ls hl => ?_)
  refine lv_aload_n hx hb dX4_isCellNext_4 rfl (lv_at hl 1 rfl) ?_
  refine xN_bi hx hb 45 dX4_isCellNext_5 (by decide) ?_
  refine xci (xrV hF (c_X4_takes l g mo mn mp mq mt mm md zs zl zp zr zk w pa sn tx me td hD hAB hz60 (by omega) (nI (45))) cal_X4_takes q_189 ⟨by decide, by decide⟩ rfl rfl rfl (va_recv hF.2.1 hP (ci := 4) (q0 := 0) rfl rfl) (hZ.at hS hAB) (hP) hl.1 rfl (Nat.le_of_ble_eq_true rfl) dX4_isCellNext_7 ⟨Nat.le_refl _, Nat.le_refl _⟩) hS (xin_sub [0, 1, 2, 3, 4, 5, 6] rfl) (xin_sub [0, 1, 2, 3, 4, 5, 6] rfl) (fun r_ H locs hq_ hz_ hk_ hS => ?_)
  obtain ⟨he_, hw1_, hw2_⟩ := hq_
  by_cases hN_ : seB zl zp tx (nI (45)) (nI (45)) = true
  · have hw_ := hw1_ hN_
    have k_7 := seB_1 hN_
    rw [he_, hN_]
    have hP : va_P g.1 vwCl [(mo, .inr (4, [.ref mn, .ref mp, .int (nI zs), .ref mq, .int (xz (zk)), .ref mt, .int (nI zl), .ref mm, .int (nI (zp + 1)), .ref md, .int (nI zr)])), (mn, .inl (g.2.1 0, 988, .inl (w))), (mp, .inl (g.2.1 0, 3952, .inl (pa))), (mq, .inl (g.2.1 0, 988, .inl (sn))), (mt, .inl (g.2.1 1, 60, .inl (tx))), (mm, .inl (g.2.1 0, 48, .inl (me))), (md, .inl (g.2.1 0, 40, .inl (td)))] H := hw_
    have hD : va_D (MF mo mn mp mq mt mm md) [(mo, .inr (4, [.ref mn, .ref mp, .int (nI zs), .ref mq, .int (xz (zk)), .ref mt, .int (nI zl), .ref mm, .int (nI (zp + 1)), .ref md, .int (nI zr)])), (mn, .inl (g.2.1 0, 988, .inl (w))), (mp, .inl (g.2.1 0, 3952, .inl (pa))), (mq, .inl (g.2.1 0, 988, .inl (sn))), (mt, .inl (g.2.1 1, 60, .inl (tx))), (mm, .inl (g.2.1 0, 48, .inl (me))), (md, .inl (g.2.1 0, 40, .inl (td)))] := va_D_eqL [mo, mn, mp, mq, mt, mm, md] rfl rfl hD
    refine xZ_ne (tgt := 22) hx hb dX4_isCellNext_10 (by decide) (fun c_10 => ?_) (fun c_10 => absurd c_10 (by decide))
    refine lv_aload_n hx hb dX4_isCellNext_22 rfl (lv_at hl 1 rfl) ?_
    refine gf_X4_X4_told hF hP 0 rfl rfl dX4_isCellNext_23 ?_
    refine lv_iload_n hx hb dX4_isCellNext_26 rfl (lv_at hl 2 rfl) ?_
    refine lv_aload_n hx hb dX4_isCellNext_27 rfl (lv_at hl 1 rfl) ?_
    refine gf_X4_X4_text hF hP 0 rfl rfl dX4_isCellNext_28 ?_
    refine lv_aload_n hx hb dX4_isCellNext_31 rfl (lv_at hl 1 rfl) ?_
    refine gf_X4_X4_spot hF hP 0 rfl rfl dX4_isCellNext_32 ?_
    refine xN_const hx hb 1 dX4_isCellNext_35 (by decide) ?_
    refine xN_sub hx hb (by omega) dX4_isCellNext_36 ?_
    refine xA_cld hF hP 4 rfl (by omega) (by decide) (v := nI (45)) (by rw [show zp + 1 - 1 = zp by omega]; exact k_7.2) dX4_isCellNext_37 ?_
    refine xN_bi hx hb 45 dX4_isCellNext_38 (by decide) ?_
    refine xC_ne (tgt := 48) hx hb (by omega) (by omega) dX4_isCellNext_40 (by decide) (fun c_40 => absurd c_40 (by decide)) (fun c_40 => ?_)
    refine lv_bipush hx hb (v := (-5)) dX4_isCellNext_43 (by decide) ?_
    refine lv_goto (tgt := 50) hx hb dX4_isCellNext_45 (by decide) ?_
    refine xA_ist hF hP hD hS 6 rfl (by omega) (by decide) dX4_isCellNext_50 (fun H locs hP hS => ?_)
    have hP : va_P g.1 vwCl [(mo, .inr (4, [.ref mn, .ref mp, .int (nI zs), .ref mq, .int (xz (zk)), .ref mt, .int (nI zl), .ref mm, .int (nI (zp + 1)), .ref md, .int (nI zr)])), (mn, .inl (g.2.1 0, 988, .inl (w))), (mp, .inl (g.2.1 0, 3952, .inl (pa))), (mq, .inl (g.2.1 0, 988, .inl (sn))), (mt, .inl (g.2.1 1, 60, .inl (tx))), (mm, .inl (g.2.1 0, 48, .inl (me))), (md, .inl (g.2.1 0, 40, .inl (upd (td) (cn) ((-5)))))] H := hP
    have hD : va_D (MF mo mn mp mq mt mm md) [(mo, .inr (4, [.ref mn, .ref mp, .int (nI zs), .ref mq, .int (xz (zk)), .ref mt, .int (nI zl), .ref mm, .int (nI (zp + 1)), .ref md, .int (nI zr)])), (mn, .inl (g.2.1 0, 988, .inl (w))), (mp, .inl (g.2.1 0, 3952, .inl (pa))), (mq, .inl (g.2.1 0, 988, .inl (sn))), (mt, .inl (g.2.1 1, 60, .inl (tx))), (mm, .inl (g.2.1 0, 48, .inl (me))), (md, .inl (g.2.1 0, 40, .inl (upd (td) (cn) ((-5)))))] := (va_D_eqL [mo, mn, mp, mq, mt, mm, md] rfl rfl hD)
    refine xN_const hx hb 1 dX4_isCellNext_51 (by decide) ?_
    exact xend_t (V := nI (1)) hF hret hlocks rfl hS (Or.inr ⟨rfl, zp + 1, -5, _, by omega, by have := k_7.1; omega, pst_45 hps k_7.2, by decide, fun _ => grw_neg (by decide) (by decide), upd_cong htd, hP⟩) dX4_isCellNext_52
  · have hN_ := Bool.eq_false_iff.mpr hN_
    have hw_ := hw2_ hN_
    have k_7 := fun h => seB_0 hN_ h
    rw [he_, hN_]
    have hP : va_P g.1 vwCl [(mo, .inr (4, [.ref mn, .ref mp, .int (nI zs), .ref mq, .int (xz (zk)), .ref mt, .int (nI zl), .ref mm, .int (nI zp), .ref md, .int (nI zr)])), (mn, .inl (g.2.1 0, 988, .inl (w))), (mp, .inl (g.2.1 0, 3952, .inl (pa))), (mq, .inl (g.2.1 0, 988, .inl (sn))), (mt, .inl (g.2.1 1, 60, .inl (tx))), (mm, .inl (g.2.1 0, 48, .inl (me))), (md, .inl (g.2.1 0, 40, .inl (td)))] H := hw_
    have hD : va_D (MF mo mn mp mq mt mm md) [(mo, .inr (4, [.ref mn, .ref mp, .int (nI zs), .ref mq, .int (xz (zk)), .ref mt, .int (nI zl), .ref mm, .int (nI zp), .ref md, .int (nI zr)])), (mn, .inl (g.2.1 0, 988, .inl (w))), (mp, .inl (g.2.1 0, 3952, .inl (pa))), (mq, .inl (g.2.1 0, 988, .inl (sn))), (mt, .inl (g.2.1 1, 60, .inl (tx))), (mm, .inl (g.2.1 0, 48, .inl (me))), (md, .inl (g.2.1 0, 40, .inl (td)))] := va_D_eqL [mo, mn, mp, mq, mt, mm, md] rfl rfl hD
    refine xZ_ne (tgt := 22) hx hb dX4_isCellNext_10 (by decide) (fun c_10 => absurd c_10 (by decide)) (fun c_10 => ?_)
    refine lv_aload_n hx hb dX4_isCellNext_13 rfl (lv_at hl 1 rfl) ?_
    refine xN_bi hx hb 39 dX4_isCellNext_14 (by decide) ?_
    refine xci (xrV hF (c_X4_takes l g mo mn mp mq mt mm md zs zl zp zr zk w pa sn tx me td hD hAB hz60 (by omega) (nI (39))) cal_X4_takes q_189 ⟨by decide, by decide⟩ rfl rfl rfl (va_recv hF.2.1 hP (ci := 4) (q0 := 0) rfl rfl) (hZ.at hS hAB) (hP) hl.1 rfl (Nat.le_of_ble_eq_true rfl) dX4_isCellNext_16 ⟨Nat.le_refl _, Nat.le_refl _⟩) hS (xin_sub [0, 1, 2, 3, 4, 5, 6] rfl) (xin_sub [0, 1, 2, 3, 4, 5, 6] rfl) (fun r_ H locs hq_ hz_ hk_ hS => ?_)
    obtain ⟨he_, hw1_, hw2_⟩ := hq_
    by_cases hN_ : seB zl zp tx (nI (39)) (nI (39)) = true
    · have hw_ := hw1_ hN_
      have k_16 := seB_1 hN_
      rw [he_, hN_]
      have hP : va_P g.1 vwCl [(mo, .inr (4, [.ref mn, .ref mp, .int (nI zs), .ref mq, .int (xz (zk)), .ref mt, .int (nI zl), .ref mm, .int (nI (zp + 1)), .ref md, .int (nI zr)])), (mn, .inl (g.2.1 0, 988, .inl (w))), (mp, .inl (g.2.1 0, 3952, .inl (pa))), (mq, .inl (g.2.1 0, 988, .inl (sn))), (mt, .inl (g.2.1 1, 60, .inl (tx))), (mm, .inl (g.2.1 0, 48, .inl (me))), (md, .inl (g.2.1 0, 40, .inl (td)))] H := hw_
      have hD : va_D (MF mo mn mp mq mt mm md) [(mo, .inr (4, [.ref mn, .ref mp, .int (nI zs), .ref mq, .int (xz (zk)), .ref mt, .int (nI zl), .ref mm, .int (nI (zp + 1)), .ref md, .int (nI zr)])), (mn, .inl (g.2.1 0, 988, .inl (w))), (mp, .inl (g.2.1 0, 3952, .inl (pa))), (mq, .inl (g.2.1 0, 988, .inl (sn))), (mt, .inl (g.2.1 1, 60, .inl (tx))), (mm, .inl (g.2.1 0, 48, .inl (me))), (md, .inl (g.2.1 0, 40, .inl (td)))] := va_D_eqL [mo, mn, mp, mq, mt, mm, md] rfl rfl hD
      refine xZ_eq (tgt := 53) hx hb dX4_isCellNext_19 (by decide) (fun c_19 => absurd c_19 (by decide)) (fun c_19 => ?_)
      refine lv_aload_n hx hb dX4_isCellNext_22 rfl (lv_at hl 1 rfl) ?_
      refine gf_X4_X4_told hF hP 0 rfl rfl dX4_isCellNext_23 ?_
      refine lv_iload_n hx hb dX4_isCellNext_26 rfl (lv_at hl 2 rfl) ?_
      refine lv_aload_n hx hb dX4_isCellNext_27 rfl (lv_at hl 1 rfl) ?_
      refine gf_X4_X4_text hF hP 0 rfl rfl dX4_isCellNext_28 ?_
      refine lv_aload_n hx hb dX4_isCellNext_31 rfl (lv_at hl 1 rfl) ?_
      refine gf_X4_X4_spot hF hP 0 rfl rfl dX4_isCellNext_32 ?_
      refine xN_const hx hb 1 dX4_isCellNext_35 (by decide) ?_
      refine xN_sub hx hb (by omega) dX4_isCellNext_36 ?_
      refine xA_cld hF hP 4 rfl (by omega) (by decide) (v := nI (39)) (by rw [show zp + 1 - 1 = zp by omega]; exact k_16.2) dX4_isCellNext_37 ?_
      refine xN_bi hx hb 45 dX4_isCellNext_38 (by decide) ?_
      refine xC_ne (tgt := 48) hx hb (by omega) (by omega) dX4_isCellNext_40 (by decide) (fun c_40 => ?_) (fun c_40 => absurd c_40 (by decide))
      refine lv_bipush hx hb (v := (-6)) dX4_isCellNext_48 (by decide) ?_
      refine xA_ist hF hP hD hS 6 rfl (by omega) (by decide) dX4_isCellNext_50 (fun H locs hP hS => ?_)
      have hP : va_P g.1 vwCl [(mo, .inr (4, [.ref mn, .ref mp, .int (nI zs), .ref mq, .int (xz (zk)), .ref mt, .int (nI zl), .ref mm, .int (nI (zp + 1)), .ref md, .int (nI zr)])), (mn, .inl (g.2.1 0, 988, .inl (w))), (mp, .inl (g.2.1 0, 3952, .inl (pa))), (mq, .inl (g.2.1 0, 988, .inl (sn))), (mt, .inl (g.2.1 1, 60, .inl (tx))), (mm, .inl (g.2.1 0, 48, .inl (me))), (md, .inl (g.2.1 0, 40, .inl (upd (td) (cn) ((-6)))))] H := hP
      have hD : va_D (MF mo mn mp mq mt mm md) [(mo, .inr (4, [.ref mn, .ref mp, .int (nI zs), .ref mq, .int (xz (zk)), .ref mt, .int (nI zl), .ref mm, .int (nI (zp + 1)), .ref md, .int (nI zr)])), (mn, .inl (g.2.1 0, 988, .inl (w))), (mp, .inl (g.2.1 0, 3952, .inl (pa))), (mq, .inl (g.2.1 0, 988, .inl (sn))), (mt, .inl (g.2.1 1, 60, .inl (tx))), (mm, .inl (g.2.1 0, 48, .inl (me))), (md, .inl (g.2.1 0, 40, .inl (upd (td) (cn) ((-6)))))] := (va_D_eqL [mo, mn, mp, mq, mt, mm, md] rfl rfl hD)
      refine xN_const hx hb 1 dX4_isCellNext_51 (by decide) ?_
      exact xend_t (V := nI (1)) hF hret hlocks rfl hS (Or.inr ⟨rfl, zp + 1, -6, _, by omega, by have := k_16.1; omega, pst_39 hps k_16.2, by decide, fun _ => grw_neg (by decide) (by decide), upd_cong htd, hP⟩) dX4_isCellNext_52
    · have hN_ := Bool.eq_false_iff.mpr hN_
      have hw_ := hw2_ hN_
      have k_16 := fun h => seB_0 hN_ h
      rw [he_, hN_]
      have hP : va_P g.1 vwCl [(mo, .inr (4, [.ref mn, .ref mp, .int (nI zs), .ref mq, .int (xz (zk)), .ref mt, .int (nI zl), .ref mm, .int (nI zp), .ref md, .int (nI zr)])), (mn, .inl (g.2.1 0, 988, .inl (w))), (mp, .inl (g.2.1 0, 3952, .inl (pa))), (mq, .inl (g.2.1 0, 988, .inl (sn))), (mt, .inl (g.2.1 1, 60, .inl (tx))), (mm, .inl (g.2.1 0, 48, .inl (me))), (md, .inl (g.2.1 0, 40, .inl (td)))] H := hw_
      have hD : va_D (MF mo mn mp mq mt mm md) [(mo, .inr (4, [.ref mn, .ref mp, .int (nI zs), .ref mq, .int (xz (zk)), .ref mt, .int (nI zl), .ref mm, .int (nI zp), .ref md, .int (nI zr)])), (mn, .inl (g.2.1 0, 988, .inl (w))), (mp, .inl (g.2.1 0, 3952, .inl (pa))), (mq, .inl (g.2.1 0, 988, .inl (sn))), (mt, .inl (g.2.1 1, 60, .inl (tx))), (mm, .inl (g.2.1 0, 48, .inl (me))), (md, .inl (g.2.1 0, 40, .inl (td)))] := va_D_eqL [mo, mn, mp, mq, mt, mm, md] rfl rfl hD
      refine xZ_eq (tgt := 53) hx hb dX4_isCellNext_19 (by decide) (fun c_19 => ?_) (fun c_19 => absurd c_19 (by decide))
      refine lv_aload_n hx hb dX4_isCellNext_53 rfl (lv_at hl 1 rfl) ?_
      refine xN_bi hx hb 48 dX4_isCellNext_54 (by decide) ?_
      refine xN_bi hx hb 48 dX4_isCellNext_56 (by decide) ?_
      refine lv_iload_n hx hb dX4_isCellNext_58 rfl (lv_at hl 0 rfl) ?_
      refine vp_callSi (va_Run.run (xrS hF (c_X4_most l g (cn % 4) (by omega)) cal_X4_most q_116 ⟨by decide, by decide⟩ rfl rfl rfl (hZ.at hS hAB) (trivial) hl.1 rfl (Nat.le_of_ble_eq_true rfl) dX4_isCellNext_59 ⟨Nat.le_refl _, Nat.le_refl _⟩)) (fun r_ h_ => ?_)
      subst h_
      refine xN_bi hx hb 9 dX4_isCellNext_62 (by decide) ?_
      refine xC_ge (tgt := 74) hx hb (by omega) (by omega) dX4_isCellNext_64 (by decide) (fun c_64 => ?_) (fun c_64 => ?_)
      · refine xN_bi hx hb 9 dX4_isCellNext_74 (by decide) ?_
        refine xN_add hx hb dX4_isCellNext_76 ?_
        refine vp_callSi (va_Run.run (xrV hF (c_X4_sees l g mo mn mp mq mt mm md zs zl zp zr zk tx hz60 (by omega) (nI (48)) (nI (48 + 9))) cal_X4_sees q_193 ⟨by decide, by decide⟩ rfl rfl rfl (va_recv hF.2.1 hP (ci := 4) (q0 := 0) rfl rfl) (hZ.at hS hAB) (hP.sub [0, 4] rfl) hl.1 rfl (Nat.le_of_ble_eq_true rfl) dX4_isCellNext_77 ⟨Nat.le_refl _, Nat.le_refl _⟩)) (fun r_ h_ => ?_)
        subst h_
        refine xZ_ne (tgt := 85) hx hb dX4_isCellNext_80 (by decide) (fun c_80 => ?_) (fun c_80 => ?_)
        · obtain ⟨h_z, u, hu, ex⟩ := seB_d (n := 9) (by omega) c_80
          have hu9 : u ≤ 9 := by omega
          have huc : u ≤ cmN (cn % 4) := by omega
          refine lv_aload_n hx hb dX4_isCellNext_85 rfl (lv_at hl 1 rfl) ?_
          refine gf_X4_X4_text hF hP 0 rfl rfl dX4_isCellNext_86 ?_
          refine lv_aload_n hx hb dX4_isCellNext_89 rfl (lv_at hl 1 rfl) ?_
          refine gf_X4_X4_spot hF hP 0 rfl rfl dX4_isCellNext_90 ?_
          refine xA_cld hF hP 4 rfl (by omega) (by decide) (v := nI (48 + u)) (ex) dX4_isCellNext_93 ?_
          refine xN_bi hx hb 48 dX4_isCellNext_94 (by decide) ?_
          refine xN_sub hx hb (by omega) dX4_isCellNext_96 ?_
          rw [show (nI ((48 + u) - 48) : Int32) = nI (u) from by rw [show 48 + u - 48 = u by omega]]
          refine lv_istore_n (lv' := [(3, .int (nI u)), (2, .int (nI (cn % 4))), (0, .ref mo), (1, .int (nI cn))]) hx hb dX4_isCellNext_97 rfl hl (by decide) rfl (fun ls hl => ?_)
          refine lv_aload_n hx hb dX4_isCellNext_98 rfl (lv_at hl 2 rfl) ?_
          refine lv_dup hx hb dX4_isCellNext_99 rfl ?_
          refine gf_X4_X4_spot hF hP 0 rfl rfl dX4_isCellNext_100 ?_
          refine xN_const hx hb 1 dX4_isCellNext_103 (by decide) ?_
          refine xN_add hx hb dX4_isCellNext_104 ?_
          refine pf_X4_X4_spot hF hP hD hS 0 rfl (Nat.le_of_ble_eq_true rfl) dX4_isCellNext_105 (fun H locs hP hS => ?_)
          have hP : va_P g.1 vwCl [(mo, .inr (4, [.ref mn, .ref mp, .int (nI zs), .ref mq, .int (xz (zk)), .ref mt, .int (nI zl), .ref mm, .int (nI (zp + 1)), .ref md, .int (nI zr)])), (mn, .inl (g.2.1 0, 988, .inl (w))), (mp, .inl (g.2.1 0, 3952, .inl (pa))), (mq, .inl (g.2.1 0, 988, .inl (sn))), (mt, .inl (g.2.1 1, 60, .inl (tx))), (mm, .inl (g.2.1 0, 48, .inl (me))), (md, .inl (g.2.1 0, 40, .inl (td)))] H := hP
          have hD : va_D (MF mo mn mp mq mt mm md) [(mo, .inr (4, [.ref mn, .ref mp, .int (nI zs), .ref mq, .int (xz (zk)), .ref mt, .int (nI zl), .ref mm, .int (nI (zp + 1)), .ref md, .int (nI zr)])), (mn, .inl (g.2.1 0, 988, .inl (w))), (mp, .inl (g.2.1 0, 3952, .inl (pa))), (mq, .inl (g.2.1 0, 988, .inl (sn))), (mt, .inl (g.2.1 1, 60, .inl (tx))), (mm, .inl (g.2.1 0, 48, .inl (me))), (md, .inl (g.2.1 0, 40, .inl (td)))] := (va_D_eqL [mo, mn, mp, mq, mt, mm, md] rfl rfl hD)
          refine xloopM (goal := fun ls H locs => W p l e _ s m _ below meth c H locs _ _ _ (F0 m _ ls [])) (fun (z_ : Nat × Nat) (ls : Array Slot) (H : Heap) (locs : List Loc) => match z_ with | (v, z2) => (zp < z2) ∧ (z2 ≤ zl) ∧ (pst tx z2 = some (cn, nI v, fn)) ∧ (v ≤ cmN (cn % 4)) ∧ va_P g.1 vwCl [(mo, .inr (4, [.ref mn, .ref mp, .int (nI zs), .ref mq, .int (xz (zk)), .ref mt, .int (nI zl), .ref mm, .int (nI z2), .ref md, .int (nI zr)])), (mn, .inl (g.2.1 0, 988, .inl (w))), (mp, .inl (g.2.1 0, 3952, .inl (pa))), (mq, .inl (g.2.1 0, 988, .inl (sn))), (mt, .inl (g.2.1 1, 60, .inl (tx))), (mm, .inl (g.2.1 0, 48, .inl (me))), (md, .inl (g.2.1 0, 40, .inl (td)))] H ∧ va_S (MF mo mn mp mq mt mm md) s.heap H locs ∧ lv_has ls 4 [(0, .ref mo), (1, .int (nI cn)), (2, .int (nI (cn % 4))), (3, .int (nI v))]) (fun (z_ : Nat × Nat) => match z_ with | (v, z2) => zl - z2) ?_ (u, zp + 1) ls H locs ⟨by omega, by omega, pst_d0 hps hu9 ex huc, huc, hP, hS, lv_sub hl [2, 3, 1, 0] rfl⟩
          rintro ⟨v, z2⟩ ls H locs ⟨J1, J1b, J2, J3, hP, hS, hl⟩ ih
          dsimp only at ih
          have hD : va_D (MF mo mn mp mq mt mm md) [(mo, .inr (4, [.ref mn, .ref mp, .int (nI zs), .ref mq, .int (xz (zk)), .ref mt, .int (nI zl), .ref mm, .int (nI z2), .ref md, .int (nI zr)])), (mn, .inl (g.2.1 0, 988, .inl (w))), (mp, .inl (g.2.1 0, 3952, .inl (pa))), (mq, .inl (g.2.1 0, 988, .inl (sn))), (mt, .inl (g.2.1 1, 60, .inl (tx))), (mm, .inl (g.2.1 0, 48, .inl (me))), (md, .inl (g.2.1 0, 40, .inl (td)))] := va_D_eqL [mo, mn, mp, mq, mt, mm, md] rfl rfl hD
          refine lv_iload_n hx hb dX4_isCellNext_108 rfl (lv_at hl 3 rfl) ?_
          refine xI_le (tgt := 178) hx hb (by omega) dX4_isCellNext_109 (by decide) (fun c_109 => ?_) (fun c_109 => ?_)
          · refine lv_aload_n hx hb dX4_isCellNext_178 rfl (lv_at hl 0 rfl) ?_
            refine gf_X4_X4_told hF hP 0 rfl rfl dX4_isCellNext_179 ?_
            refine lv_iload_n hx hb dX4_isCellNext_182 rfl (lv_at hl 1 rfl) ?_
            refine lv_iload_n hx hb dX4_isCellNext_183 rfl (lv_at hl 3 rfl) ?_
            refine xA_ist hF hP hD hS 6 rfl (by omega) (by decide) dX4_isCellNext_184 (fun H locs hP hS => ?_)
            have hP : va_P g.1 vwCl [(mo, .inr (4, [.ref mn, .ref mp, .int (nI zs), .ref mq, .int (xz (zk)), .ref mt, .int (nI zl), .ref mm, .int (nI z2), .ref md, .int (nI zr)])), (mn, .inl (g.2.1 0, 988, .inl (w))), (mp, .inl (g.2.1 0, 3952, .inl (pa))), (mq, .inl (g.2.1 0, 988, .inl (sn))), (mt, .inl (g.2.1 1, 60, .inl (tx))), (mm, .inl (g.2.1 0, 48, .inl (me))), (md, .inl (g.2.1 0, 40, .inl (upd (td) (cn) (nI (v)))))] H := hP
            have hD : va_D (MF mo mn mp mq mt mm md) [(mo, .inr (4, [.ref mn, .ref mp, .int (nI zs), .ref mq, .int (xz (zk)), .ref mt, .int (nI zl), .ref mm, .int (nI z2), .ref md, .int (nI zr)])), (mn, .inl (g.2.1 0, 988, .inl (w))), (mp, .inl (g.2.1 0, 3952, .inl (pa))), (mq, .inl (g.2.1 0, 988, .inl (sn))), (mt, .inl (g.2.1 1, 60, .inl (tx))), (mm, .inl (g.2.1 0, 48, .inl (me))), (md, .inl (g.2.1 0, 40, .inl (upd (td) (cn) (nI (v)))))] := (va_D_eqL [mo, mn, mp, mq, mt, mm, md] rfl rfl hD)
            refine xN_const hx hb 1 dX4_isCellNext_185 (by decide) ?_
            exact xend_t (V := nI (1)) hF hret hlocks rfl hS (Or.inr ⟨rfl, z2, nI v, _, J1, J1b, J2, (EntOk.ne7 (k := cn % 4) (Or.inr (Or.inr ⟨v, J3, rfl⟩))), fun _ => grw_neg (EntOk.ne7 (k := cn % 4) (Or.inr (Or.inr ⟨v, J3, rfl⟩))) (by rw [show v = 0 by omega]; decide), upd_cong htd, hP⟩) dX4_isCellNext_186
          · refine lv_aload_n hx hb dX4_isCellNext_112 rfl (lv_at hl 0 rfl) ?_
            refine xN_bi hx hb 48 dX4_isCellNext_113 (by decide) ?_
            refine xN_bi hx hb 57 dX4_isCellNext_115 (by decide) ?_
            refine vp_callSi (va_Run.run (xrV hF (c_X4_sees l g mo mn mp mq mt mm md zs zl z2 zr zk tx hz60 (by omega) (nI (48)) (nI (57))) cal_X4_sees q_193 ⟨by decide, by decide⟩ rfl rfl rfl (va_recv hF.2.1 hP (ci := 4) (q0 := 0) rfl rfl) (hZ.at hS hAB) (hP.sub [0, 4] rfl) hl.1 rfl (Nat.le_of_ble_eq_true rfl) dX4_isCellNext_117 ⟨Nat.le_refl _, Nat.le_refl _⟩)) (fun r_ h_ => ?_)
            subst h_
            refine xZ_eq (tgt := 178) hx hb dX4_isCellNext_120 (by decide) (fun c_120 => ?_) (fun c_120 => ?_)
            · refine lv_aload_n hx hb dX4_isCellNext_178 rfl (lv_at hl 0 rfl) ?_
              refine gf_X4_X4_told hF hP 0 rfl rfl dX4_isCellNext_179 ?_
              refine lv_iload_n hx hb dX4_isCellNext_182 rfl (lv_at hl 1 rfl) ?_
              refine lv_iload_n hx hb dX4_isCellNext_183 rfl (lv_at hl 3 rfl) ?_
              refine xA_ist hF hP hD hS 6 rfl (by omega) (by decide) dX4_isCellNext_184 (fun H locs hP hS => ?_)
              have hP : va_P g.1 vwCl [(mo, .inr (4, [.ref mn, .ref mp, .int (nI zs), .ref mq, .int (xz (zk)), .ref mt, .int (nI zl), .ref mm, .int (nI z2), .ref md, .int (nI zr)])), (mn, .inl (g.2.1 0, 988, .inl (w))), (mp, .inl (g.2.1 0, 3952, .inl (pa))), (mq, .inl (g.2.1 0, 988, .inl (sn))), (mt, .inl (g.2.1 1, 60, .inl (tx))), (mm, .inl (g.2.1 0, 48, .inl (me))), (md, .inl (g.2.1 0, 40, .inl (upd (td) (cn) (nI (v)))))] H := hP
              have hD : va_D (MF mo mn mp mq mt mm md) [(mo, .inr (4, [.ref mn, .ref mp, .int (nI zs), .ref mq, .int (xz (zk)), .ref mt, .int (nI zl), .ref mm, .int (nI z2), .ref md, .int (nI zr)])), (mn, .inl (g.2.1 0, 988, .inl (w))), (mp, .inl (g.2.1 0, 3952, .inl (pa))), (mq, .inl (g.2.1 0, 988, .inl (sn))), (mt, .inl (g.2.1 1, 60, .inl (tx))), (mm, .inl (g.2.1 0, 48, .inl (me))), (md, .inl (g.2.1 0, 40, .inl (upd (td) (cn) (nI (v)))))] := (va_D_eqL [mo, mn, mp, mq, mt, mm, md] rfl rfl hD)
              refine xN_const hx hb 1 dX4_isCellNext_185 (by decide) ?_
              exact xend_t (V := nI (1)) hF hret hlocks rfl hS (Or.inr ⟨rfl, z2, nI v, _, J1, J1b, J2, (EntOk.ne7 (k := cn % 4) (Or.inr (Or.inr ⟨v, J3, rfl⟩))), fun h => grw_nd (EntOk.ne7 (k := cn % 4) (Or.inr (Or.inr ⟨v, J3, rfl⟩))) (seB_nd (n := 9) (by omega) c_120 h), upd_cong htd, hP⟩) dX4_isCellNext_186
            · obtain ⟨h_z2, u2, hu2, ex2⟩ := seB_d (n := 9) (by omega) c_120
              refine xN_bi hx hb 10 dX4_isCellNext_123 (by decide) ?_
              refine lv_iload_n hx hb dX4_isCellNext_125 rfl (lv_at hl 3 rfl) ?_
              refine xN_mul hx hb dX4_isCellNext_126 ?_
              refine lv_aload_n hx hb dX4_isCellNext_127 rfl (lv_at hl 0 rfl) ?_
              refine gf_X4_X4_text hF hP 0 rfl rfl dX4_isCellNext_128 ?_
              refine lv_aload_n hx hb dX4_isCellNext_131 rfl (lv_at hl 0 rfl) ?_
              refine gf_X4_X4_spot hF hP 0 rfl rfl dX4_isCellNext_132 ?_
              refine xA_cld hF hP 4 rfl (by omega) (by decide) (v := nI (48 + u2)) (ex2) dX4_isCellNext_135 ?_
              refine xN_add hx hb dX4_isCellNext_136 ?_
              refine xN_bi hx hb 48 dX4_isCellNext_137 (by decide) ?_
              refine xN_sub hx hb (by omega) dX4_isCellNext_139 ?_
              refine lv_iload_n hx hb dX4_isCellNext_140 rfl (lv_at hl 2 rfl) ?_
              refine vp_callSi (va_Run.run (xrS hF (c_X4_most l g (cn % 4) (by omega)) cal_X4_most q_116 ⟨by decide, by decide⟩ rfl rfl rfl (hZ.at hS hAB) (trivial) hl.1 rfl (Nat.le_of_ble_eq_true rfl) dX4_isCellNext_141 ⟨Nat.le_refl _, Nat.le_refl _⟩)) (fun r_ h_ => ?_)
              subst h_
              refine xC_gt (tgt := 178) hx hb (by omega) (by omega) dX4_isCellNext_144 (by decide) (fun c_144 => ?_) (fun c_144 => ?_)
              · refine lv_aload_n hx hb dX4_isCellNext_178 rfl (lv_at hl 0 rfl) ?_
                refine gf_X4_X4_told hF hP 0 rfl rfl dX4_isCellNext_179 ?_
                refine lv_iload_n hx hb dX4_isCellNext_182 rfl (lv_at hl 1 rfl) ?_
                refine lv_iload_n hx hb dX4_isCellNext_183 rfl (lv_at hl 3 rfl) ?_
                refine xA_ist hF hP hD hS 6 rfl (by omega) (by decide) dX4_isCellNext_184 (fun H locs hP hS => ?_)
                have hP : va_P g.1 vwCl [(mo, .inr (4, [.ref mn, .ref mp, .int (nI zs), .ref mq, .int (xz (zk)), .ref mt, .int (nI zl), .ref mm, .int (nI z2), .ref md, .int (nI zr)])), (mn, .inl (g.2.1 0, 988, .inl (w))), (mp, .inl (g.2.1 0, 3952, .inl (pa))), (mq, .inl (g.2.1 0, 988, .inl (sn))), (mt, .inl (g.2.1 1, 60, .inl (tx))), (mm, .inl (g.2.1 0, 48, .inl (me))), (md, .inl (g.2.1 0, 40, .inl (upd (td) (cn) (nI (v)))))] H := hP
                have hD : va_D (MF mo mn mp mq mt mm md) [(mo, .inr (4, [.ref mn, .ref mp, .int (nI zs), .ref mq, .int (xz (zk)), .ref mt, .int (nI zl), .ref mm, .int (nI z2), .ref md, .int (nI zr)])), (mn, .inl (g.2.1 0, 988, .inl (w))), (mp, .inl (g.2.1 0, 3952, .inl (pa))), (mq, .inl (g.2.1 0, 988, .inl (sn))), (mt, .inl (g.2.1 1, 60, .inl (tx))), (mm, .inl (g.2.1 0, 48, .inl (me))), (md, .inl (g.2.1 0, 40, .inl (upd (td) (cn) (nI (v)))))] := (va_D_eqL [mo, mn, mp, mq, mt, mm, md] rfl rfl hD)
                refine xN_const hx hb 1 dX4_isCellNext_185 (by decide) ?_
                exact xend_t (V := nI (1)) hF hret hlocks rfl hS (Or.inr ⟨rfl, z2, nI v, _, J1, J1b, J2, (EntOk.ne7 (k := cn % 4) (Or.inr (Or.inr ⟨v, J3, rfl⟩))), fun _ => grw_big hu2 (by omega) J3 ex2 (by omega), upd_cong htd, hP⟩) dX4_isCellNext_186
              · refine xN_bi hx hb 10 dX4_isCellNext_147 (by decide) ?_
                refine lv_iload_n hx hb dX4_isCellNext_149 rfl (lv_at hl 3 rfl) ?_
                refine xN_mul hx hb dX4_isCellNext_150 ?_
                refine lv_aload_n hx hb dX4_isCellNext_151 rfl (lv_at hl 0 rfl) ?_
                refine gf_X4_X4_text hF hP 0 rfl rfl dX4_isCellNext_152 ?_
                refine lv_aload_n hx hb dX4_isCellNext_155 rfl (lv_at hl 0 rfl) ?_
                refine gf_X4_X4_spot hF hP 0 rfl rfl dX4_isCellNext_156 ?_
                refine xA_cld hF hP 4 rfl (by omega) (by decide) (v := nI (48 + u2)) (ex2) dX4_isCellNext_159 ?_
                refine xN_add hx hb dX4_isCellNext_160 ?_
                refine xN_bi hx hb 48 dX4_isCellNext_161 (by decide) ?_
                refine xN_sub hx hb (by omega) dX4_isCellNext_163 ?_
                refine lv_istore_n (lv' := [(3, .int (nI ((10 * v + (48 + u2)) - 48))), (0, .ref mo), (1, .int (nI cn)), (2, .int (nI (cn % 4)))]) hx hb dX4_isCellNext_164 rfl hl (by decide) rfl (fun ls hl => ?_)
                refine lv_aload_n hx hb dX4_isCellNext_165 rfl (lv_at hl 1 rfl) ?_
                refine lv_dup hx hb dX4_isCellNext_166 rfl ?_
                refine gf_X4_X4_spot hF hP 0 rfl rfl dX4_isCellNext_167 ?_
                refine xN_const hx hb 1 dX4_isCellNext_170 (by decide) ?_
                refine xN_add hx hb dX4_isCellNext_171 ?_
                refine pf_X4_X4_spot hF hP hD hS 0 rfl (Nat.le_of_ble_eq_true rfl) dX4_isCellNext_172 (fun H locs hP hS => ?_)
                have hP : va_P g.1 vwCl [(mo, .inr (4, [.ref mn, .ref mp, .int (nI zs), .ref mq, .int (xz (zk)), .ref mt, .int (nI zl), .ref mm, .int (nI (z2 + 1)), .ref md, .int (nI zr)])), (mn, .inl (g.2.1 0, 988, .inl (w))), (mp, .inl (g.2.1 0, 3952, .inl (pa))), (mq, .inl (g.2.1 0, 988, .inl (sn))), (mt, .inl (g.2.1 1, 60, .inl (tx))), (mm, .inl (g.2.1 0, 48, .inl (me))), (md, .inl (g.2.1 0, 40, .inl (td)))] H := hP
                have hD : va_D (MF mo mn mp mq mt mm md) [(mo, .inr (4, [.ref mn, .ref mp, .int (nI zs), .ref mq, .int (xz (zk)), .ref mt, .int (nI zl), .ref mm, .int (nI (z2 + 1)), .ref md, .int (nI zr)])), (mn, .inl (g.2.1 0, 988, .inl (w))), (mp, .inl (g.2.1 0, 3952, .inl (pa))), (mq, .inl (g.2.1 0, 988, .inl (sn))), (mt, .inl (g.2.1 1, 60, .inl (tx))), (mm, .inl (g.2.1 0, 48, .inl (me))), (md, .inl (g.2.1 0, 40, .inl (td)))] := (va_D_eqL [mo, mn, mp, mq, mt, mm, md] rfl rfl hD)
                refine lv_goto (tgt := 108) hx hb dX4_isCellNext_175 (by decide) ?_
                exact ih ((10 * v + (48 + u2)) - 48, z2 + 1) ls H locs ⟨by show zp < z2 + 1; omega, by show z2 + 1 ≤ zl; omega, by show pst tx (z2 + 1) = some (cn, nI (10 * v + (48 + u2) - 48), fn); rw [show 10 * v + (48 + u2) - 48 = v * 10 + u2 by omega]; exact pst_dg J2 (by omega) J3 hu2 ex2 (by omega), by show 10 * v + (48 + u2) - 48 ≤ cmN (cn % 4); omega, hP, hS, lv_sub hl [1, 2, 3, 0] rfl⟩ (by dsimp only; omega)
        · refine xN_const hx hb 0 dX4_isCellNext_83 (by decide) ?_
          exact xend_t (V := nI (0)) hF hret hlocks rfl hS (Or.inl ⟨rfl, if h : zp < zl then Or.inr (stp0 (k_7 h) (k_16 h) (fun u h1 h2 => seB_nd (n := 9) (by omega) c_80 h u (by omega))) else Or.inl (by omega), hP⟩) dX4_isCellNext_84
      · refine lv_iload_n hx hb dX4_isCellNext_67 rfl (lv_at hl 0 rfl) ?_
        refine vp_callSi (va_Run.run (xrS hF (c_X4_most l g (cn % 4) (by omega)) cal_X4_most q_116 ⟨by decide, by decide⟩ rfl rfl rfl (hZ.at hS hAB) (trivial) hl.1 rfl (Nat.le_of_ble_eq_true rfl) dX4_isCellNext_68 ⟨Nat.le_refl _, Nat.le_refl _⟩)) (fun r_ h_ => ?_)
        subst h_
        refine lv_goto (tgt := 76) hx hb dX4_isCellNext_71 (by decide) ?_
        refine xN_add hx hb dX4_isCellNext_76 ?_
        refine vp_callSi (va_Run.run (xrV hF (c_X4_sees l g mo mn mp mq mt mm md zs zl zp zr zk tx hz60 (by omega) (nI (48)) (nI (48 + (cmN (cn % 4))))) cal_X4_sees q_193 ⟨by decide, by decide⟩ rfl rfl rfl (va_recv hF.2.1 hP (ci := 4) (q0 := 0) rfl rfl) (hZ.at hS hAB) (hP.sub [0, 4] rfl) hl.1 rfl (Nat.le_of_ble_eq_true rfl) dX4_isCellNext_77 ⟨Nat.le_refl _, Nat.le_refl _⟩)) (fun r_ h_ => ?_)
        subst h_
        refine xZ_ne (tgt := 85) hx hb dX4_isCellNext_80 (by decide) (fun c_80 => ?_) (fun c_80 => ?_)
        · obtain ⟨h_z, u, hu, ex⟩ := seB_d (n := cmN (cn % 4)) (by omega) c_80
          have hu9 : u ≤ 9 := by omega
          have huc : u ≤ cmN (cn % 4) := by omega
          refine lv_aload_n hx hb dX4_isCellNext_85 rfl (lv_at hl 1 rfl) ?_
          refine gf_X4_X4_text hF hP 0 rfl rfl dX4_isCellNext_86 ?_
          refine lv_aload_n hx hb dX4_isCellNext_89 rfl (lv_at hl 1 rfl) ?_
          refine gf_X4_X4_spot hF hP 0 rfl rfl dX4_isCellNext_90 ?_
          refine xA_cld hF hP 4 rfl (by omega) (by decide) (v := nI (48 + u)) (ex) dX4_isCellNext_93 ?_
          refine xN_bi hx hb 48 dX4_isCellNext_94 (by decide) ?_
          refine xN_sub hx hb (by omega) dX4_isCellNext_96 ?_
          rw [show (nI ((48 + u) - 48) : Int32) = nI (u) from by rw [show 48 + u - 48 = u by omega]]
          refine lv_istore_n (lv' := [(3, .int (nI u)), (2, .int (nI (cn % 4))), (0, .ref mo), (1, .int (nI cn))]) hx hb dX4_isCellNext_97 rfl hl (by decide) rfl (fun ls hl => ?_)
          refine lv_aload_n hx hb dX4_isCellNext_98 rfl (lv_at hl 2 rfl) ?_
          refine lv_dup hx hb dX4_isCellNext_99 rfl ?_
          refine gf_X4_X4_spot hF hP 0 rfl rfl dX4_isCellNext_100 ?_
          refine xN_const hx hb 1 dX4_isCellNext_103 (by decide) ?_
          refine xN_add hx hb dX4_isCellNext_104 ?_
          refine pf_X4_X4_spot hF hP hD hS 0 rfl (Nat.le_of_ble_eq_true rfl) dX4_isCellNext_105 (fun H locs hP hS => ?_)
          have hP : va_P g.1 vwCl [(mo, .inr (4, [.ref mn, .ref mp, .int (nI zs), .ref mq, .int (xz (zk)), .ref mt, .int (nI zl), .ref mm, .int (nI (zp + 1)), .ref md, .int (nI zr)])), (mn, .inl (g.2.1 0, 988, .inl (w))), (mp, .inl (g.2.1 0, 3952, .inl (pa))), (mq, .inl (g.2.1 0, 988, .inl (sn))), (mt, .inl (g.2.1 1, 60, .inl (tx))), (mm, .inl (g.2.1 0, 48, .inl (me))), (md, .inl (g.2.1 0, 40, .inl (td)))] H := hP
          have hD : va_D (MF mo mn mp mq mt mm md) [(mo, .inr (4, [.ref mn, .ref mp, .int (nI zs), .ref mq, .int (xz (zk)), .ref mt, .int (nI zl), .ref mm, .int (nI (zp + 1)), .ref md, .int (nI zr)])), (mn, .inl (g.2.1 0, 988, .inl (w))), (mp, .inl (g.2.1 0, 3952, .inl (pa))), (mq, .inl (g.2.1 0, 988, .inl (sn))), (mt, .inl (g.2.1 1, 60, .inl (tx))), (mm, .inl (g.2.1 0, 48, .inl (me))), (md, .inl (g.2.1 0, 40, .inl (td)))] := (va_D_eqL [mo, mn, mp, mq, mt, mm, md] rfl rfl hD)
          refine xloopM (goal := fun ls H locs => W p l e _ s m _ below meth c H locs _ _ _ (F0 m _ ls [])) (fun (z_ : Nat × Nat) (ls : Array Slot) (H : Heap) (locs : List Loc) => match z_ with | (v, z2) => (zp < z2) ∧ (z2 ≤ zl) ∧ (pst tx z2 = some (cn, nI v, fn)) ∧ (v ≤ cmN (cn % 4)) ∧ va_P g.1 vwCl [(mo, .inr (4, [.ref mn, .ref mp, .int (nI zs), .ref mq, .int (xz (zk)), .ref mt, .int (nI zl), .ref mm, .int (nI z2), .ref md, .int (nI zr)])), (mn, .inl (g.2.1 0, 988, .inl (w))), (mp, .inl (g.2.1 0, 3952, .inl (pa))), (mq, .inl (g.2.1 0, 988, .inl (sn))), (mt, .inl (g.2.1 1, 60, .inl (tx))), (mm, .inl (g.2.1 0, 48, .inl (me))), (md, .inl (g.2.1 0, 40, .inl (td)))] H ∧ va_S (MF mo mn mp mq mt mm md) s.heap H locs ∧ lv_has ls 4 [(0, .ref mo), (1, .int (nI cn)), (2, .int (nI (cn % 4))), (3, .int (nI v))]) (fun (z_ : Nat × Nat) => match z_ with | (v, z2) => zl - z2) ?_ (u, zp + 1) ls H locs ⟨by omega, by omega, pst_d0 hps hu9 ex huc, huc, hP, hS, lv_sub hl [2, 3, 1, 0] rfl⟩
          rintro ⟨v, z2⟩ ls H locs ⟨J1, J1b, J2, J3, hP, hS, hl⟩ ih
          dsimp only at ih
          have hD : va_D (MF mo mn mp mq mt mm md) [(mo, .inr (4, [.ref mn, .ref mp, .int (nI zs), .ref mq, .int (xz (zk)), .ref mt, .int (nI zl), .ref mm, .int (nI z2), .ref md, .int (nI zr)])), (mn, .inl (g.2.1 0, 988, .inl (w))), (mp, .inl (g.2.1 0, 3952, .inl (pa))), (mq, .inl (g.2.1 0, 988, .inl (sn))), (mt, .inl (g.2.1 1, 60, .inl (tx))), (mm, .inl (g.2.1 0, 48, .inl (me))), (md, .inl (g.2.1 0, 40, .inl (td)))] := va_D_eqL [mo, mn, mp, mq, mt, mm, md] rfl rfl hD
          refine lv_iload_n hx hb dX4_isCellNext_108 rfl (lv_at hl 3 rfl) ?_
          refine xI_le (tgt := 178) hx hb (by omega) dX4_isCellNext_109 (by decide) (fun c_109 => ?_) (fun c_109 => ?_)
          · refine lv_aload_n hx hb dX4_isCellNext_178 rfl (lv_at hl 0 rfl) ?_
            refine gf_X4_X4_told hF hP 0 rfl rfl dX4_isCellNext_179 ?_
            refine lv_iload_n hx hb dX4_isCellNext_182 rfl (lv_at hl 1 rfl) ?_
            refine lv_iload_n hx hb dX4_isCellNext_183 rfl (lv_at hl 3 rfl) ?_
            refine xA_ist hF hP hD hS 6 rfl (by omega) (by decide) dX4_isCellNext_184 (fun H locs hP hS => ?_)
            have hP : va_P g.1 vwCl [(mo, .inr (4, [.ref mn, .ref mp, .int (nI zs), .ref mq, .int (xz (zk)), .ref mt, .int (nI zl), .ref mm, .int (nI z2), .ref md, .int (nI zr)])), (mn, .inl (g.2.1 0, 988, .inl (w))), (mp, .inl (g.2.1 0, 3952, .inl (pa))), (mq, .inl (g.2.1 0, 988, .inl (sn))), (mt, .inl (g.2.1 1, 60, .inl (tx))), (mm, .inl (g.2.1 0, 48, .inl (me))), (md, .inl (g.2.1 0, 40, .inl (upd (td) (cn) (nI (v)))))] H := hP
            have hD : va_D (MF mo mn mp mq mt mm md) [(mo, .inr (4, [.ref mn, .ref mp, .int (nI zs), .ref mq, .int (xz (zk)), .ref mt, .int (nI zl), .ref mm, .int (nI z2), .ref md, .int (nI zr)])), (mn, .inl (g.2.1 0, 988, .inl (w))), (mp, .inl (g.2.1 0, 3952, .inl (pa))), (mq, .inl (g.2.1 0, 988, .inl (sn))), (mt, .inl (g.2.1 1, 60, .inl (tx))), (mm, .inl (g.2.1 0, 48, .inl (me))), (md, .inl (g.2.1 0, 40, .inl (upd (td) (cn) (nI (v)))))] := (va_D_eqL [mo, mn, mp, mq, mt, mm, md] rfl rfl hD)
            refine xN_const hx hb 1 dX4_isCellNext_185 (by decide) ?_
            exact xend_t (V := nI (1)) hF hret hlocks rfl hS (Or.inr ⟨rfl, z2, nI v, _, J1, J1b, J2, (EntOk.ne7 (k := cn % 4) (Or.inr (Or.inr ⟨v, J3, rfl⟩))), fun _ => grw_neg (EntOk.ne7 (k := cn % 4) (Or.inr (Or.inr ⟨v, J3, rfl⟩))) (by rw [show v = 0 by omega]; decide), upd_cong htd, hP⟩) dX4_isCellNext_186
          · refine lv_aload_n hx hb dX4_isCellNext_112 rfl (lv_at hl 0 rfl) ?_
            refine xN_bi hx hb 48 dX4_isCellNext_113 (by decide) ?_
            refine xN_bi hx hb 57 dX4_isCellNext_115 (by decide) ?_
            refine vp_callSi (va_Run.run (xrV hF (c_X4_sees l g mo mn mp mq mt mm md zs zl z2 zr zk tx hz60 (by omega) (nI (48)) (nI (57))) cal_X4_sees q_193 ⟨by decide, by decide⟩ rfl rfl rfl (va_recv hF.2.1 hP (ci := 4) (q0 := 0) rfl rfl) (hZ.at hS hAB) (hP.sub [0, 4] rfl) hl.1 rfl (Nat.le_of_ble_eq_true rfl) dX4_isCellNext_117 ⟨Nat.le_refl _, Nat.le_refl _⟩)) (fun r_ h_ => ?_)
            subst h_
            refine xZ_eq (tgt := 178) hx hb dX4_isCellNext_120 (by decide) (fun c_120 => ?_) (fun c_120 => ?_)
            · refine lv_aload_n hx hb dX4_isCellNext_178 rfl (lv_at hl 0 rfl) ?_
              refine gf_X4_X4_told hF hP 0 rfl rfl dX4_isCellNext_179 ?_
              refine lv_iload_n hx hb dX4_isCellNext_182 rfl (lv_at hl 1 rfl) ?_
              refine lv_iload_n hx hb dX4_isCellNext_183 rfl (lv_at hl 3 rfl) ?_
              refine xA_ist hF hP hD hS 6 rfl (by omega) (by decide) dX4_isCellNext_184 (fun H locs hP hS => ?_)
              have hP : va_P g.1 vwCl [(mo, .inr (4, [.ref mn, .ref mp, .int (nI zs), .ref mq, .int (xz (zk)), .ref mt, .int (nI zl), .ref mm, .int (nI z2), .ref md, .int (nI zr)])), (mn, .inl (g.2.1 0, 988, .inl (w))), (mp, .inl (g.2.1 0, 3952, .inl (pa))), (mq, .inl (g.2.1 0, 988, .inl (sn))), (mt, .inl (g.2.1 1, 60, .inl (tx))), (mm, .inl (g.2.1 0, 48, .inl (me))), (md, .inl (g.2.1 0, 40, .inl (upd (td) (cn) (nI (v)))))] H := hP
              have hD : va_D (MF mo mn mp mq mt mm md) [(mo, .inr (4, [.ref mn, .ref mp, .int (nI zs), .ref mq, .int (xz (zk)), .ref mt, .int (nI zl), .ref mm, .int (nI z2), .ref md, .int (nI zr)])), (mn, .inl (g.2.1 0, 988, .inl (w))), (mp, .inl (g.2.1 0, 3952, .inl (pa))), (mq, .inl (g.2.1 0, 988, .inl (sn))), (mt, .inl (g.2.1 1, 60, .inl (tx))), (mm, .inl (g.2.1 0, 48, .inl (me))), (md, .inl (g.2.1 0, 40, .inl (upd (td) (cn) (nI (v)))))] := (va_D_eqL [mo, mn, mp, mq, mt, mm, md] rfl rfl hD)
              refine xN_const hx hb 1 dX4_isCellNext_185 (by decide) ?_
              exact xend_t (V := nI (1)) hF hret hlocks rfl hS (Or.inr ⟨rfl, z2, nI v, _, J1, J1b, J2, (EntOk.ne7 (k := cn % 4) (Or.inr (Or.inr ⟨v, J3, rfl⟩))), fun h => grw_nd (EntOk.ne7 (k := cn % 4) (Or.inr (Or.inr ⟨v, J3, rfl⟩))) (seB_nd (n := 9) (by omega) c_120 h), upd_cong htd, hP⟩) dX4_isCellNext_186
            · obtain ⟨h_z2, u2, hu2, ex2⟩ := seB_d (n := 9) (by omega) c_120
              refine xN_bi hx hb 10 dX4_isCellNext_123 (by decide) ?_
              refine lv_iload_n hx hb dX4_isCellNext_125 rfl (lv_at hl 3 rfl) ?_
              refine xN_mul hx hb dX4_isCellNext_126 ?_
              refine lv_aload_n hx hb dX4_isCellNext_127 rfl (lv_at hl 0 rfl) ?_
              refine gf_X4_X4_text hF hP 0 rfl rfl dX4_isCellNext_128 ?_
              refine lv_aload_n hx hb dX4_isCellNext_131 rfl (lv_at hl 0 rfl) ?_
              refine gf_X4_X4_spot hF hP 0 rfl rfl dX4_isCellNext_132 ?_
              refine xA_cld hF hP 4 rfl (by omega) (by decide) (v := nI (48 + u2)) (ex2) dX4_isCellNext_135 ?_
              refine xN_add hx hb dX4_isCellNext_136 ?_
              refine xN_bi hx hb 48 dX4_isCellNext_137 (by decide) ?_
              refine xN_sub hx hb (by omega) dX4_isCellNext_139 ?_
              refine lv_iload_n hx hb dX4_isCellNext_140 rfl (lv_at hl 2 rfl) ?_
              refine vp_callSi (va_Run.run (xrS hF (c_X4_most l g (cn % 4) (by omega)) cal_X4_most q_116 ⟨by decide, by decide⟩ rfl rfl rfl (hZ.at hS hAB) (trivial) hl.1 rfl (Nat.le_of_ble_eq_true rfl) dX4_isCellNext_141 ⟨Nat.le_refl _, Nat.le_refl _⟩)) (fun r_ h_ => ?_)
              subst h_
              refine xC_gt (tgt := 178) hx hb (by omega) (by omega) dX4_isCellNext_144 (by decide) (fun c_144 => ?_) (fun c_144 => ?_)
              · refine lv_aload_n hx hb dX4_isCellNext_178 rfl (lv_at hl 0 rfl) ?_
                refine gf_X4_X4_told hF hP 0 rfl rfl dX4_isCellNext_179 ?_
                refine lv_iload_n hx hb dX4_isCellNext_182 rfl (lv_at hl 1 rfl) ?_
                refine lv_iload_n hx hb dX4_isCellNext_183 rfl (lv_at hl 3 rfl) ?_
                refine xA_ist hF hP hD hS 6 rfl (by omega) (by decide) dX4_isCellNext_184 (fun H locs hP hS => ?_)
                have hP : va_P g.1 vwCl [(mo, .inr (4, [.ref mn, .ref mp, .int (nI zs), .ref mq, .int (xz (zk)), .ref mt, .int (nI zl), .ref mm, .int (nI z2), .ref md, .int (nI zr)])), (mn, .inl (g.2.1 0, 988, .inl (w))), (mp, .inl (g.2.1 0, 3952, .inl (pa))), (mq, .inl (g.2.1 0, 988, .inl (sn))), (mt, .inl (g.2.1 1, 60, .inl (tx))), (mm, .inl (g.2.1 0, 48, .inl (me))), (md, .inl (g.2.1 0, 40, .inl (upd (td) (cn) (nI (v)))))] H := hP
                have hD : va_D (MF mo mn mp mq mt mm md) [(mo, .inr (4, [.ref mn, .ref mp, .int (nI zs), .ref mq, .int (xz (zk)), .ref mt, .int (nI zl), .ref mm, .int (nI z2), .ref md, .int (nI zr)])), (mn, .inl (g.2.1 0, 988, .inl (w))), (mp, .inl (g.2.1 0, 3952, .inl (pa))), (mq, .inl (g.2.1 0, 988, .inl (sn))), (mt, .inl (g.2.1 1, 60, .inl (tx))), (mm, .inl (g.2.1 0, 48, .inl (me))), (md, .inl (g.2.1 0, 40, .inl (upd (td) (cn) (nI (v)))))] := (va_D_eqL [mo, mn, mp, mq, mt, mm, md] rfl rfl hD)
                refine xN_const hx hb 1 dX4_isCellNext_185 (by decide) ?_
                exact xend_t (V := nI (1)) hF hret hlocks rfl hS (Or.inr ⟨rfl, z2, nI v, _, J1, J1b, J2, (EntOk.ne7 (k := cn % 4) (Or.inr (Or.inr ⟨v, J3, rfl⟩))), fun _ => grw_big hu2 (by omega) J3 ex2 (by omega), upd_cong htd, hP⟩) dX4_isCellNext_186
              · refine xN_bi hx hb 10 dX4_isCellNext_147 (by decide) ?_
                refine lv_iload_n hx hb dX4_isCellNext_149 rfl (lv_at hl 3 rfl) ?_
                refine xN_mul hx hb dX4_isCellNext_150 ?_
                refine lv_aload_n hx hb dX4_isCellNext_151 rfl (lv_at hl 0 rfl) ?_
                refine gf_X4_X4_text hF hP 0 rfl rfl dX4_isCellNext_152 ?_
                refine lv_aload_n hx hb dX4_isCellNext_155 rfl (lv_at hl 0 rfl) ?_
                refine gf_X4_X4_spot hF hP 0 rfl rfl dX4_isCellNext_156 ?_
                refine xA_cld hF hP 4 rfl (by omega) (by decide) (v := nI (48 + u2)) (ex2) dX4_isCellNext_159 ?_
                refine xN_add hx hb dX4_isCellNext_160 ?_
                refine xN_bi hx hb 48 dX4_isCellNext_161 (by decide) ?_
                refine xN_sub hx hb (by omega) dX4_isCellNext_163 ?_
                refine lv_istore_n (lv' := [(3, .int (nI ((10 * v + (48 + u2)) - 48))), (0, .ref mo), (1, .int (nI cn)), (2, .int (nI (cn % 4)))]) hx hb dX4_isCellNext_164 rfl hl (by decide) rfl (fun ls hl => ?_)
                refine lv_aload_n hx hb dX4_isCellNext_165 rfl (lv_at hl 1 rfl) ?_
                refine lv_dup hx hb dX4_isCellNext_166 rfl ?_
                refine gf_X4_X4_spot hF hP 0 rfl rfl dX4_isCellNext_167 ?_
                refine xN_const hx hb 1 dX4_isCellNext_170 (by decide) ?_
                refine xN_add hx hb dX4_isCellNext_171 ?_
                refine pf_X4_X4_spot hF hP hD hS 0 rfl (Nat.le_of_ble_eq_true rfl) dX4_isCellNext_172 (fun H locs hP hS => ?_)
                have hP : va_P g.1 vwCl [(mo, .inr (4, [.ref mn, .ref mp, .int (nI zs), .ref mq, .int (xz (zk)), .ref mt, .int (nI zl), .ref mm, .int (nI (z2 + 1)), .ref md, .int (nI zr)])), (mn, .inl (g.2.1 0, 988, .inl (w))), (mp, .inl (g.2.1 0, 3952, .inl (pa))), (mq, .inl (g.2.1 0, 988, .inl (sn))), (mt, .inl (g.2.1 1, 60, .inl (tx))), (mm, .inl (g.2.1 0, 48, .inl (me))), (md, .inl (g.2.1 0, 40, .inl (td)))] H := hP
                have hD : va_D (MF mo mn mp mq mt mm md) [(mo, .inr (4, [.ref mn, .ref mp, .int (nI zs), .ref mq, .int (xz (zk)), .ref mt, .int (nI zl), .ref mm, .int (nI (z2 + 1)), .ref md, .int (nI zr)])), (mn, .inl (g.2.1 0, 988, .inl (w))), (mp, .inl (g.2.1 0, 3952, .inl (pa))), (mq, .inl (g.2.1 0, 988, .inl (sn))), (mt, .inl (g.2.1 1, 60, .inl (tx))), (mm, .inl (g.2.1 0, 48, .inl (me))), (md, .inl (g.2.1 0, 40, .inl (td)))] := (va_D_eqL [mo, mn, mp, mq, mt, mm, md] rfl rfl hD)
                refine lv_goto (tgt := 108) hx hb dX4_isCellNext_175 (by decide) ?_
                exact ih ((10 * v + (48 + u2)) - 48, z2 + 1) ls H locs ⟨by show zp < z2 + 1; omega, by show z2 + 1 ≤ zl; omega, by show pst tx (z2 + 1) = some (cn, nI (10 * v + (48 + u2) - 48), fn); rw [show 10 * v + (48 + u2) - 48 = v * 10 + u2 by omega]; exact pst_dg J2 (by omega) J3 hu2 ex2 (by omega), by show 10 * v + (48 + u2) - 48 ≤ cmN (cn % 4); omega, hP, hS, lv_sub hl [1, 2, 3, 0] rfl⟩ (by dsimp only; omega)
        · refine xN_const hx hb 0 dX4_isCellNext_83 (by decide) ?_
          exact xend_t (V := nI (0)) hF hret hlocks rfl hS (Or.inl ⟨rfl, if h : zp < zl then Or.inr (stp0 (k_7 h) (k_16 h) (fun u h1 h2 => seB_nd (n := cmN (cn % 4)) (by omega) c_80 h u (by omega))) else Or.inl (by omega), hP⟩) dX4_isCellNext_84
set_option maxHeartbeats 4000000 in
set_option maxRecDepth 100000 in
theorem c_X4_isRowNext (l : Launch) (g : XG) (mo mn mp mq mt mm md zs zl zp zr : Nat) (zk : Bool) (w pa sn tx me td : Nat → Int32) (hD : va_D (MF mo mn mp mq mt mm md) (ModW g mo mn mp mq mt mm md zs zl zp zr zk w pa sn tx me td)) (hAB : ∀ q, MF mo mn mp mq mt mm md q → xB g q) (hz60 : zl ≤ 60) (fn : Nat → Int32) (hzp : zp ≤ zl) (hps : pst tx zp = some (4 * zr, -7, fn)) (htd : ∀ q, q < 4 * zr → td q = fn q) : Met l yX4_isRowNext (ww yX4_isRowNext cX4_isRowNext 2 (some .boolean)) (rmD 4) (xP g [.ref mo] (fun H => va_P g.1 vwCl (ModW g mo mn mp mq mt mm md zs zl zp zr zk w pa sn tx me td) H)) (xQi (fun r9 H => (r9 = xz false ∧ ∃ (z2 : Nat) (td2 : Nat → Int32), PBad tx zl z2 ∧ va_P g.1 vwCl (ModW g mo mn mp mq mt mm md (zs) (zl) (z2) (zr) (zk) (w) (pa) (sn) (tx) (me) (td2)) H) ∨ (r9 = xz true ∧ ∃ (z2 : Nat) (en : Int32) (f2 td2 : Nat → Int32), zp < z2 ∧ z2 ≤ zl ∧ pst tx z2 = some (4 * zr + 3, en, f2) ∧ ¬ en = -7 ∧ (z2 < zl → grw ((4 * zr + 3) % 4) en (tx z2) = -8) ∧ (∀ q, q < 4 * zr + 4 → td2 q = upd f2 (4 * zr + 3) en q) ∧ va_P g.1 vwCl (ModW g mo mn mp mq mt mm md (zs) (zl) (z2) (zr) (zk) (w) (pa) (sn) (tx) (me) (td2)) H)) (MF mo mn mp mq mt mm md)) 0 0 (MF mo mn mp mq mt mm md) := by
  refine xMetM (by decide) rfl (Nat.le_of_ble_eq_true rfl) ?_
  intro p e s m below meth c ls H locs hF hZ hh hS hret hlocks hin hl
  have hx := hF.1.1
  have hb := hF.1.2.1
  have hP := hh
  have hP : va_P g.1 vwCl (ModW g mo mn mp mq mt mm md zs zl zp zr zk w pa sn tx me td) H := hP
  have hl : lv_has ls 2 [(0, .ref mo)] := hl
  have h2c : 2 * (4 * zr) ≤ zp := pst_lt hps
  have hps0 := hps
  have htp0 := htd
  refine xN_const hx hb 4 dX4_isRowNext_0 (by decide) ?_
  refine lv_aload_n hx hb dX4_isRowNext_1 rfl (lv_at hl 0 rfl) ?_
  refine gf_X4_X4_toldRows hF hP 0 rfl rfl dX4_isRowNext_2 ?_
  refine xN_mul hx hb dX4_isRowNext_5 ?_
  refine lv_istore_n (lv' := [(1, .int (nI (4 * zr))), (0, .ref mo)]) hx hb dX4_isRowNext_6 rfl hl (by decide) rfl (fun ls hl => ?_)
  refine lv_aload_n hx hb dX4_isRowNext_7 rfl (lv_at hl 1 rfl) ?_
  refine lv_iload_n hx hb dX4_isRowNext_8 rfl (lv_at hl 0 rfl) ?_
  refine xci (xrV hF (c_X4_isCellNext l g mo mn mp mq mt mm md zs zl zp zr zk w pa sn tx me td hD hAB hz60 (4 * zr) fn (by omega) hps0 htp0) cal_X4_isCellNext q_185 ⟨by decide, by decide⟩ rfl rfl rfl (va_recv hF.2.1 hP (ci := 4) (q0 := 0) rfl rfl) (hZ.at hS hAB) (hP) hl.1 rfl (Nat.le_of_ble_eq_true rfl) dX4_isRowNext_9 ⟨Nat.le_refl _, Nat.le_refl _⟩) hS (xin_sub [0, 1, 2, 3, 4, 5, 6] rfl) (xin_sub [0, 1, 2, 3, 4, 5, 6] rfl) (fun r_ H locs hq_ hz_ hk_ hS => ?_)
  rcases hq_ with ⟨rfl, hdi_, hw_⟩ | ⟨rfl, z0, en0, td0, hlt0, hle0, hpt0, hne0, hmx0, htd0, hw_⟩
  · have hbad := PBad_0 hps0 (by omega) hdi_
    have hP : va_P g.1 vwCl [(mo, .inr (4, [.ref mn, .ref mp, .int (nI zs), .ref mq, .int (xz (zk)), .ref mt, .int (nI zl), .ref mm, .int (nI zp), .ref md, .int (nI zr)])), (mn, .inl (g.2.1 0, 988, .inl (w))), (mp, .inl (g.2.1 0, 3952, .inl (pa))), (mq, .inl (g.2.1 0, 988, .inl (sn))), (mt, .inl (g.2.1 1, 60, .inl (tx))), (mm, .inl (g.2.1 0, 48, .inl (me))), (md, .inl (g.2.1 0, 40, .inl (td)))] H := hw_
    have hD : va_D (MF mo mn mp mq mt mm md) [(mo, .inr (4, [.ref mn, .ref mp, .int (nI zs), .ref mq, .int (xz (zk)), .ref mt, .int (nI zl), .ref mm, .int (nI zp), .ref md, .int (nI zr)])), (mn, .inl (g.2.1 0, 988, .inl (w))), (mp, .inl (g.2.1 0, 3952, .inl (pa))), (mq, .inl (g.2.1 0, 988, .inl (sn))), (mt, .inl (g.2.1 1, 60, .inl (tx))), (mm, .inl (g.2.1 0, 48, .inl (me))), (md, .inl (g.2.1 0, 40, .inl (td)))] := va_D_eqL [mo, mn, mp, mq, mt, mm, md] rfl rfl hD
    refine xZ_eq (tgt := 76) hx hb dX4_isRowNext_12 (by decide) (fun c_12 => ?_) (fun c_12 => absurd c_12 (by decide))
    refine xN_const hx hb 0 dX4_isRowNext_76 (by decide) ?_
    exact xend_t (V := nI (0)) hF hret hlocks rfl hS (Or.inl ⟨rfl, _, _, hbad, hP⟩) dX4_isRowNext_77
  · have hP : va_P g.1 vwCl [(mo, .inr (4, [.ref mn, .ref mp, .int (nI zs), .ref mq, .int (xz (zk)), .ref mt, .int (nI zl), .ref mm, .int (nI z0), .ref md, .int (nI zr)])), (mn, .inl (g.2.1 0, 988, .inl (w))), (mp, .inl (g.2.1 0, 3952, .inl (pa))), (mq, .inl (g.2.1 0, 988, .inl (sn))), (mt, .inl (g.2.1 1, 60, .inl (tx))), (mm, .inl (g.2.1 0, 48, .inl (me))), (md, .inl (g.2.1 0, 40, .inl (td0)))] H := hw_
    have hD : va_D (MF mo mn mp mq mt mm md) [(mo, .inr (4, [.ref mn, .ref mp, .int (nI zs), .ref mq, .int (xz (zk)), .ref mt, .int (nI zl), .ref mm, .int (nI z0), .ref md, .int (nI zr)])), (mn, .inl (g.2.1 0, 988, .inl (w))), (mp, .inl (g.2.1 0, 3952, .inl (pa))), (mq, .inl (g.2.1 0, 988, .inl (sn))), (mt, .inl (g.2.1 1, 60, .inl (tx))), (mm, .inl (g.2.1 0, 48, .inl (me))), (md, .inl (g.2.1 0, 40, .inl (td0)))] := va_D_eqL [mo, mn, mp, mq, mt, mm, md] rfl rfl hD
    refine xZ_eq (tgt := 76) hx hb dX4_isRowNext_12 (by decide) (fun c_12 => absurd c_12 (by decide)) (fun c_12 => ?_)
    refine lv_aload_n hx hb dX4_isRowNext_15 rfl (lv_at hl 1 rfl) ?_
    refine xN_bi hx hb 44 dX4_isRowNext_16 (by decide) ?_
    refine xci (xrV hF (c_X4_takes l g mo mn mp mq mt mm md zs zl z0 zr zk w pa sn tx me td0 hD hAB hz60 (by omega) (nI (44))) cal_X4_takes q_189 ⟨by decide, by decide⟩ rfl rfl rfl (va_recv hF.2.1 hP (ci := 4) (q0 := 0) rfl rfl) (hZ.at hS hAB) (hP) hl.1 rfl (Nat.le_of_ble_eq_true rfl) dX4_isRowNext_18 ⟨Nat.le_refl _, Nat.le_refl _⟩) hS (xin_sub [0, 1, 2, 3, 4, 5, 6] rfl) (xin_sub [0, 1, 2, 3, 4, 5, 6] rfl) (fun r_ H locs hq_ hz_ hk_ hS => ?_)
    obtain ⟨he_, hw1_, hw2_⟩ := hq_
    by_cases hN_ : seB zl z0 tx (nI (44)) (nI (44)) = true
    · have hw_ := hw1_ hN_
      have k_18 := seB_1 hN_
      rw [he_, hN_]
      have hP : va_P g.1 vwCl [(mo, .inr (4, [.ref mn, .ref mp, .int (nI zs), .ref mq, .int (xz (zk)), .ref mt, .int (nI zl), .ref mm, .int (nI (z0 + 1)), .ref md, .int (nI zr)])), (mn, .inl (g.2.1 0, 988, .inl (w))), (mp, .inl (g.2.1 0, 3952, .inl (pa))), (mq, .inl (g.2.1 0, 988, .inl (sn))), (mt, .inl (g.2.1 1, 60, .inl (tx))), (mm, .inl (g.2.1 0, 48, .inl (me))), (md, .inl (g.2.1 0, 40, .inl (td0)))] H := hw_
      have hD : va_D (MF mo mn mp mq mt mm md) [(mo, .inr (4, [.ref mn, .ref mp, .int (nI zs), .ref mq, .int (xz (zk)), .ref mt, .int (nI zl), .ref mm, .int (nI (z0 + 1)), .ref md, .int (nI zr)])), (mn, .inl (g.2.1 0, 988, .inl (w))), (mp, .inl (g.2.1 0, 3952, .inl (pa))), (mq, .inl (g.2.1 0, 988, .inl (sn))), (mt, .inl (g.2.1 1, 60, .inl (tx))), (mm, .inl (g.2.1 0, 48, .inl (me))), (md, .inl (g.2.1 0, 40, .inl (td0)))] := va_D_eqL [mo, mn, mp, mq, mt, mm, md] rfl rfl hD
      have hps1 : pst tx (z0 + 1) = some (4 * zr + 1, -7, upd fn (4 * zr) en0) := pst_sep hpt0 hne0 (hmx0 (by omega)) k_18.2 (sep44 (by omega))
      have hz_0 := k_18.1
      have htp1 : ∀ q, q < 4 * zr + 1 → td0 q = (upd fn (4 * zr) en0) q := htd0
      refine xZ_eq (tgt := 76) hx hb dX4_isRowNext_21 (by decide) (fun c_21 => absurd c_21 (by decide)) (fun c_21 => ?_)
      refine lv_aload_n hx hb dX4_isRowNext_24 rfl (lv_at hl 1 rfl) ?_
      refine lv_iload_n hx hb dX4_isRowNext_25 rfl (lv_at hl 0 rfl) ?_
      refine xN_const hx hb 1 dX4_isRowNext_26 (by decide) ?_
      refine xN_add hx hb dX4_isRowNext_27 ?_
      refine xci (xrV hF (c_X4_isCellNext l g mo mn mp mq mt mm md zs zl (z0 + 1) zr zk w pa sn tx me td0 hD hAB hz60 (4 * zr + 1) (upd fn (4 * zr) en0) (by omega) hps1 htp1) cal_X4_isCellNext q_185 ⟨by decide, by decide⟩ rfl rfl rfl (va_recv hF.2.1 hP (ci := 4) (q0 := 0) rfl rfl) (hZ.at hS hAB) (hP) hl.1 rfl (Nat.le_of_ble_eq_true rfl) dX4_isRowNext_28 ⟨Nat.le_refl _, Nat.le_refl _⟩) hS (xin_sub [0, 1, 2, 3, 4, 5, 6] rfl) (xin_sub [0, 1, 2, 3, 4, 5, 6] rfl) (fun r_ H locs hq_ hz_ hk_ hS => ?_)
      rcases hq_ with ⟨rfl, hdi_, hw_⟩ | ⟨rfl, z1, en1, td1, hlt1, hle1, hpt1, hne1, hmx1, htd1, hw_⟩
      · have hbad := PBad_0 hps1 (by omega) hdi_
        have hP : va_P g.1 vwCl [(mo, .inr (4, [.ref mn, .ref mp, .int (nI zs), .ref mq, .int (xz (zk)), .ref mt, .int (nI zl), .ref mm, .int (nI (z0 + 1)), .ref md, .int (nI zr)])), (mn, .inl (g.2.1 0, 988, .inl (w))), (mp, .inl (g.2.1 0, 3952, .inl (pa))), (mq, .inl (g.2.1 0, 988, .inl (sn))), (mt, .inl (g.2.1 1, 60, .inl (tx))), (mm, .inl (g.2.1 0, 48, .inl (me))), (md, .inl (g.2.1 0, 40, .inl (td0)))] H := hw_
        have hD : va_D (MF mo mn mp mq mt mm md) [(mo, .inr (4, [.ref mn, .ref mp, .int (nI zs), .ref mq, .int (xz (zk)), .ref mt, .int (nI zl), .ref mm, .int (nI (z0 + 1)), .ref md, .int (nI zr)])), (mn, .inl (g.2.1 0, 988, .inl (w))), (mp, .inl (g.2.1 0, 3952, .inl (pa))), (mq, .inl (g.2.1 0, 988, .inl (sn))), (mt, .inl (g.2.1 1, 60, .inl (tx))), (mm, .inl (g.2.1 0, 48, .inl (me))), (md, .inl (g.2.1 0, 40, .inl (td0)))] := va_D_eqL [mo, mn, mp, mq, mt, mm, md] rfl rfl hD
        refine xZ_eq (tgt := 76) hx hb dX4_isRowNext_31 (by decide) (fun c_31 => ?_) (fun c_31 => absurd c_31 (by decide))
        refine xN_const hx hb 0 dX4_isRowNext_76 (by decide) ?_
        exact xend_t (V := nI (0)) hF hret hlocks rfl hS (Or.inl ⟨rfl, _, _, hbad, hP⟩) dX4_isRowNext_77
      · have hP : va_P g.1 vwCl [(mo, .inr (4, [.ref mn, .ref mp, .int (nI zs), .ref mq, .int (xz (zk)), .ref mt, .int (nI zl), .ref mm, .int (nI z1), .ref md, .int (nI zr)])), (mn, .inl (g.2.1 0, 988, .inl (w))), (mp, .inl (g.2.1 0, 3952, .inl (pa))), (mq, .inl (g.2.1 0, 988, .inl (sn))), (mt, .inl (g.2.1 1, 60, .inl (tx))), (mm, .inl (g.2.1 0, 48, .inl (me))), (md, .inl (g.2.1 0, 40, .inl (td1)))] H := hw_
        have hD : va_D (MF mo mn mp mq mt mm md) [(mo, .inr (4, [.ref mn, .ref mp, .int (nI zs), .ref mq, .int (xz (zk)), .ref mt, .int (nI zl), .ref mm, .int (nI z1), .ref md, .int (nI zr)])), (mn, .inl (g.2.1 0, 988, .inl (w))), (mp, .inl (g.2.1 0, 3952, .inl (pa))), (mq, .inl (g.2.1 0, 988, .inl (sn))), (mt, .inl (g.2.1 1, 60, .inl (tx))), (mm, .inl (g.2.1 0, 48, .inl (me))), (md, .inl (g.2.1 0, 40, .inl (td1)))] := va_D_eqL [mo, mn, mp, mq, mt, mm, md] rfl rfl hD
        refine xZ_eq (tgt := 76) hx hb dX4_isRowNext_31 (by decide) (fun c_31 => absurd c_31 (by decide)) (fun c_31 => ?_)
        refine lv_aload_n hx hb dX4_isRowNext_34 rfl (lv_at hl 1 rfl) ?_
        refine xN_bi hx hb 44 dX4_isRowNext_35 (by decide) ?_
        refine xci (xrV hF (c_X4_takes l g mo mn mp mq mt mm md zs zl z1 zr zk w pa sn tx me td1 hD hAB hz60 (by omega) (nI (44))) cal_X4_takes q_189 ⟨by decide, by decide⟩ rfl rfl rfl (va_recv hF.2.1 hP (ci := 4) (q0 := 0) rfl rfl) (hZ.at hS hAB) (hP) hl.1 rfl (Nat.le_of_ble_eq_true rfl) dX4_isRowNext_37 ⟨Nat.le_refl _, Nat.le_refl _⟩) hS (xin_sub [0, 1, 2, 3, 4, 5, 6] rfl) (xin_sub [0, 1, 2, 3, 4, 5, 6] rfl) (fun r_ H locs hq_ hz_ hk_ hS => ?_)
        obtain ⟨he_, hw1_, hw2_⟩ := hq_
        by_cases hN_ : seB zl z1 tx (nI (44)) (nI (44)) = true
        · have hw_ := hw1_ hN_
          have k_37 := seB_1 hN_
          rw [he_, hN_]
          have hP : va_P g.1 vwCl [(mo, .inr (4, [.ref mn, .ref mp, .int (nI zs), .ref mq, .int (xz (zk)), .ref mt, .int (nI zl), .ref mm, .int (nI (z1 + 1)), .ref md, .int (nI zr)])), (mn, .inl (g.2.1 0, 988, .inl (w))), (mp, .inl (g.2.1 0, 3952, .inl (pa))), (mq, .inl (g.2.1 0, 988, .inl (sn))), (mt, .inl (g.2.1 1, 60, .inl (tx))), (mm, .inl (g.2.1 0, 48, .inl (me))), (md, .inl (g.2.1 0, 40, .inl (td1)))] H := hw_
          have hD : va_D (MF mo mn mp mq mt mm md) [(mo, .inr (4, [.ref mn, .ref mp, .int (nI zs), .ref mq, .int (xz (zk)), .ref mt, .int (nI zl), .ref mm, .int (nI (z1 + 1)), .ref md, .int (nI zr)])), (mn, .inl (g.2.1 0, 988, .inl (w))), (mp, .inl (g.2.1 0, 3952, .inl (pa))), (mq, .inl (g.2.1 0, 988, .inl (sn))), (mt, .inl (g.2.1 1, 60, .inl (tx))), (mm, .inl (g.2.1 0, 48, .inl (me))), (md, .inl (g.2.1 0, 40, .inl (td1)))] := va_D_eqL [mo, mn, mp, mq, mt, mm, md] rfl rfl hD
          have hps2 : pst tx (z1 + 1) = some (4 * zr + 2, -7, upd (upd fn (4 * zr) en0) (4 * zr + 1) en1) := pst_sep hpt1 hne1 (hmx1 (by omega)) k_37.2 (sep44 (by omega))
          have hz_1 := k_37.1
          have htp2 : ∀ q, q < 4 * zr + 2 → td1 q = (upd (upd fn (4 * zr) en0) (4 * zr + 1) en1) q := htd1
          refine xZ_eq (tgt := 76) hx hb dX4_isRowNext_40 (by decide) (fun c_40 => absurd c_40 (by decide)) (fun c_40 => ?_)
          refine lv_aload_n hx hb dX4_isRowNext_43 rfl (lv_at hl 1 rfl) ?_
          refine lv_iload_n hx hb dX4_isRowNext_44 rfl (lv_at hl 0 rfl) ?_
          refine xN_const hx hb 2 dX4_isRowNext_45 (by decide) ?_
          refine xN_add hx hb dX4_isRowNext_46 ?_
          refine xci (xrV hF (c_X4_isCellNext l g mo mn mp mq mt mm md zs zl (z1 + 1) zr zk w pa sn tx me td1 hD hAB hz60 (4 * zr + 2) (upd (upd fn (4 * zr) en0) (4 * zr + 1) en1) (by omega) hps2 htp2) cal_X4_isCellNext q_185 ⟨by decide, by decide⟩ rfl rfl rfl (va_recv hF.2.1 hP (ci := 4) (q0 := 0) rfl rfl) (hZ.at hS hAB) (hP) hl.1 rfl (Nat.le_of_ble_eq_true rfl) dX4_isRowNext_47 ⟨Nat.le_refl _, Nat.le_refl _⟩) hS (xin_sub [0, 1, 2, 3, 4, 5, 6] rfl) (xin_sub [0, 1, 2, 3, 4, 5, 6] rfl) (fun r_ H locs hq_ hz_ hk_ hS => ?_)
          rcases hq_ with ⟨rfl, hdi_, hw_⟩ | ⟨rfl, z2, en2, td2, hlt2, hle2, hpt2, hne2, hmx2, htd2, hw_⟩
          · have hbad := PBad_0 hps2 (by omega) hdi_
            have hP : va_P g.1 vwCl [(mo, .inr (4, [.ref mn, .ref mp, .int (nI zs), .ref mq, .int (xz (zk)), .ref mt, .int (nI zl), .ref mm, .int (nI (z1 + 1)), .ref md, .int (nI zr)])), (mn, .inl (g.2.1 0, 988, .inl (w))), (mp, .inl (g.2.1 0, 3952, .inl (pa))), (mq, .inl (g.2.1 0, 988, .inl (sn))), (mt, .inl (g.2.1 1, 60, .inl (tx))), (mm, .inl (g.2.1 0, 48, .inl (me))), (md, .inl (g.2.1 0, 40, .inl (td1)))] H := hw_
            have hD : va_D (MF mo mn mp mq mt mm md) [(mo, .inr (4, [.ref mn, .ref mp, .int (nI zs), .ref mq, .int (xz (zk)), .ref mt, .int (nI zl), .ref mm, .int (nI (z1 + 1)), .ref md, .int (nI zr)])), (mn, .inl (g.2.1 0, 988, .inl (w))), (mp, .inl (g.2.1 0, 3952, .inl (pa))), (mq, .inl (g.2.1 0, 988, .inl (sn))), (mt, .inl (g.2.1 1, 60, .inl (tx))), (mm, .inl (g.2.1 0, 48, .inl (me))), (md, .inl (g.2.1 0, 40, .inl (td1)))] := va_D_eqL [mo, mn, mp, mq, mt, mm, md] rfl rfl hD
            refine xZ_eq (tgt := 76) hx hb dX4_isRowNext_50 (by decide) (fun c_50 => ?_) (fun c_50 => absurd c_50 (by decide))
            refine xN_const hx hb 0 dX4_isRowNext_76 (by decide) ?_
            exact xend_t (V := nI (0)) hF hret hlocks rfl hS (Or.inl ⟨rfl, _, _, hbad, hP⟩) dX4_isRowNext_77
          · have hP : va_P g.1 vwCl [(mo, .inr (4, [.ref mn, .ref mp, .int (nI zs), .ref mq, .int (xz (zk)), .ref mt, .int (nI zl), .ref mm, .int (nI z2), .ref md, .int (nI zr)])), (mn, .inl (g.2.1 0, 988, .inl (w))), (mp, .inl (g.2.1 0, 3952, .inl (pa))), (mq, .inl (g.2.1 0, 988, .inl (sn))), (mt, .inl (g.2.1 1, 60, .inl (tx))), (mm, .inl (g.2.1 0, 48, .inl (me))), (md, .inl (g.2.1 0, 40, .inl (td2)))] H := hw_
            have hD : va_D (MF mo mn mp mq mt mm md) [(mo, .inr (4, [.ref mn, .ref mp, .int (nI zs), .ref mq, .int (xz (zk)), .ref mt, .int (nI zl), .ref mm, .int (nI z2), .ref md, .int (nI zr)])), (mn, .inl (g.2.1 0, 988, .inl (w))), (mp, .inl (g.2.1 0, 3952, .inl (pa))), (mq, .inl (g.2.1 0, 988, .inl (sn))), (mt, .inl (g.2.1 1, 60, .inl (tx))), (mm, .inl (g.2.1 0, 48, .inl (me))), (md, .inl (g.2.1 0, 40, .inl (td2)))] := va_D_eqL [mo, mn, mp, mq, mt, mm, md] rfl rfl hD
            refine xZ_eq (tgt := 76) hx hb dX4_isRowNext_50 (by decide) (fun c_50 => absurd c_50 (by decide)) (fun c_50 => ?_)
            refine lv_aload_n hx hb dX4_isRowNext_53 rfl (lv_at hl 1 rfl) ?_
            refine xN_bi hx hb 44 dX4_isRowNext_54 (by decide) ?_
            refine xci (xrV hF (c_X4_takes l g mo mn mp mq mt mm md zs zl z2 zr zk w pa sn tx me td2 hD hAB hz60 (by omega) (nI (44))) cal_X4_takes q_189 ⟨by decide, by decide⟩ rfl rfl rfl (va_recv hF.2.1 hP (ci := 4) (q0 := 0) rfl rfl) (hZ.at hS hAB) (hP) hl.1 rfl (Nat.le_of_ble_eq_true rfl) dX4_isRowNext_56 ⟨Nat.le_refl _, Nat.le_refl _⟩) hS (xin_sub [0, 1, 2, 3, 4, 5, 6] rfl) (xin_sub [0, 1, 2, 3, 4, 5, 6] rfl) (fun r_ H locs hq_ hz_ hk_ hS => ?_)
            obtain ⟨he_, hw1_, hw2_⟩ := hq_
            by_cases hN_ : seB zl z2 tx (nI (44)) (nI (44)) = true
            · have hw_ := hw1_ hN_
              have k_56 := seB_1 hN_
              rw [he_, hN_]
              have hP : va_P g.1 vwCl [(mo, .inr (4, [.ref mn, .ref mp, .int (nI zs), .ref mq, .int (xz (zk)), .ref mt, .int (nI zl), .ref mm, .int (nI (z2 + 1)), .ref md, .int (nI zr)])), (mn, .inl (g.2.1 0, 988, .inl (w))), (mp, .inl (g.2.1 0, 3952, .inl (pa))), (mq, .inl (g.2.1 0, 988, .inl (sn))), (mt, .inl (g.2.1 1, 60, .inl (tx))), (mm, .inl (g.2.1 0, 48, .inl (me))), (md, .inl (g.2.1 0, 40, .inl (td2)))] H := hw_
              have hD : va_D (MF mo mn mp mq mt mm md) [(mo, .inr (4, [.ref mn, .ref mp, .int (nI zs), .ref mq, .int (xz (zk)), .ref mt, .int (nI zl), .ref mm, .int (nI (z2 + 1)), .ref md, .int (nI zr)])), (mn, .inl (g.2.1 0, 988, .inl (w))), (mp, .inl (g.2.1 0, 3952, .inl (pa))), (mq, .inl (g.2.1 0, 988, .inl (sn))), (mt, .inl (g.2.1 1, 60, .inl (tx))), (mm, .inl (g.2.1 0, 48, .inl (me))), (md, .inl (g.2.1 0, 40, .inl (td2)))] := va_D_eqL [mo, mn, mp, mq, mt, mm, md] rfl rfl hD
              have hps3 : pst tx (z2 + 1) = some (4 * zr + 3, -7, upd (upd (upd fn (4 * zr) en0) (4 * zr + 1) en1) (4 * zr + 2) en2) := pst_sep hpt2 hne2 (hmx2 (by omega)) k_56.2 (sep44 (by omega))
              have hz_2 := k_56.1
              have htp3 : ∀ q, q < 4 * zr + 3 → td2 q = (upd (upd (upd fn (4 * zr) en0) (4 * zr + 1) en1) (4 * zr + 2) en2) q := htd2
              refine xZ_eq (tgt := 76) hx hb dX4_isRowNext_59 (by decide) (fun c_59 => absurd c_59 (by decide)) (fun c_59 => ?_)
              refine lv_aload_n hx hb dX4_isRowNext_62 rfl (lv_at hl 1 rfl) ?_
              refine lv_iload_n hx hb dX4_isRowNext_63 rfl (lv_at hl 0 rfl) ?_
              refine xN_const hx hb 3 dX4_isRowNext_64 (by decide) ?_
              refine xN_add hx hb dX4_isRowNext_65 ?_
              refine xci (xrV hF (c_X4_isCellNext l g mo mn mp mq mt mm md zs zl (z2 + 1) zr zk w pa sn tx me td2 hD hAB hz60 (4 * zr + 3) (upd (upd (upd fn (4 * zr) en0) (4 * zr + 1) en1) (4 * zr + 2) en2) (by omega) hps3 htp3) cal_X4_isCellNext q_185 ⟨by decide, by decide⟩ rfl rfl rfl (va_recv hF.2.1 hP (ci := 4) (q0 := 0) rfl rfl) (hZ.at hS hAB) (hP) hl.1 rfl (Nat.le_of_ble_eq_true rfl) dX4_isRowNext_66 ⟨Nat.le_refl _, Nat.le_refl _⟩) hS (xin_sub [0, 1, 2, 3, 4, 5, 6] rfl) (xin_sub [0, 1, 2, 3, 4, 5, 6] rfl) (fun r_ H locs hq_ hz_ hk_ hS => ?_)
              rcases hq_ with ⟨rfl, hdi_, hw_⟩ | ⟨rfl, z3, en3, td3, hlt3, hle3, hpt3, hne3, hmx3, htd3, hw_⟩
              · have hbad := PBad_0 hps3 (by omega) hdi_
                have hP : va_P g.1 vwCl [(mo, .inr (4, [.ref mn, .ref mp, .int (nI zs), .ref mq, .int (xz (zk)), .ref mt, .int (nI zl), .ref mm, .int (nI (z2 + 1)), .ref md, .int (nI zr)])), (mn, .inl (g.2.1 0, 988, .inl (w))), (mp, .inl (g.2.1 0, 3952, .inl (pa))), (mq, .inl (g.2.1 0, 988, .inl (sn))), (mt, .inl (g.2.1 1, 60, .inl (tx))), (mm, .inl (g.2.1 0, 48, .inl (me))), (md, .inl (g.2.1 0, 40, .inl (td2)))] H := hw_
                have hD : va_D (MF mo mn mp mq mt mm md) [(mo, .inr (4, [.ref mn, .ref mp, .int (nI zs), .ref mq, .int (xz (zk)), .ref mt, .int (nI zl), .ref mm, .int (nI (z2 + 1)), .ref md, .int (nI zr)])), (mn, .inl (g.2.1 0, 988, .inl (w))), (mp, .inl (g.2.1 0, 3952, .inl (pa))), (mq, .inl (g.2.1 0, 988, .inl (sn))), (mt, .inl (g.2.1 1, 60, .inl (tx))), (mm, .inl (g.2.1 0, 48, .inl (me))), (md, .inl (g.2.1 0, 40, .inl (td2)))] := va_D_eqL [mo, mn, mp, mq, mt, mm, md] rfl rfl hD
                refine xZ_eq (tgt := 76) hx hb dX4_isRowNext_69 (by decide) (fun c_69 => ?_) (fun c_69 => absurd c_69 (by decide))
                refine xN_const hx hb 0 dX4_isRowNext_76 (by decide) ?_
                exact xend_t (V := nI (0)) hF hret hlocks rfl hS (Or.inl ⟨rfl, _, _, hbad, hP⟩) dX4_isRowNext_77
              · have hP : va_P g.1 vwCl [(mo, .inr (4, [.ref mn, .ref mp, .int (nI zs), .ref mq, .int (xz (zk)), .ref mt, .int (nI zl), .ref mm, .int (nI z3), .ref md, .int (nI zr)])), (mn, .inl (g.2.1 0, 988, .inl (w))), (mp, .inl (g.2.1 0, 3952, .inl (pa))), (mq, .inl (g.2.1 0, 988, .inl (sn))), (mt, .inl (g.2.1 1, 60, .inl (tx))), (mm, .inl (g.2.1 0, 48, .inl (me))), (md, .inl (g.2.1 0, 40, .inl (td3)))] H := hw_
                have hD : va_D (MF mo mn mp mq mt mm md) [(mo, .inr (4, [.ref mn, .ref mp, .int (nI zs), .ref mq, .int (xz (zk)), .ref mt, .int (nI zl), .ref mm, .int (nI z3), .ref md, .int (nI zr)])), (mn, .inl (g.2.1 0, 988, .inl (w))), (mp, .inl (g.2.1 0, 3952, .inl (pa))), (mq, .inl (g.2.1 0, 988, .inl (sn))), (mt, .inl (g.2.1 1, 60, .inl (tx))), (mm, .inl (g.2.1 0, 48, .inl (me))), (md, .inl (g.2.1 0, 40, .inl (td3)))] := va_D_eqL [mo, mn, mp, mq, mt, mm, md] rfl rfl hD
                refine xZ_eq (tgt := 76) hx hb dX4_isRowNext_69 (by decide) (fun c_69 => absurd c_69 (by decide)) (fun c_69 => ?_)
                refine xN_const hx hb 1 dX4_isRowNext_72 (by decide) ?_
                refine lv_goto (tgt := 77) hx hb dX4_isRowNext_73 (by decide) ?_
                exact xend_t (V := nI (1)) hF hret hlocks rfl hS (Or.inr ⟨rfl, z3, en3, _, _, by omega, by omega, hpt3, hne3, hmx3, htd3, hP⟩) dX4_isRowNext_77
            · have hN_ := Bool.eq_false_iff.mpr hN_
              have hw_ := hw2_ hN_
              have k_56 := fun h => seB_0 hN_ h
              rw [he_, hN_]
              have hP : va_P g.1 vwCl [(mo, .inr (4, [.ref mn, .ref mp, .int (nI zs), .ref mq, .int (xz (zk)), .ref mt, .int (nI zl), .ref mm, .int (nI z2), .ref md, .int (nI zr)])), (mn, .inl (g.2.1 0, 988, .inl (w))), (mp, .inl (g.2.1 0, 3952, .inl (pa))), (mq, .inl (g.2.1 0, 988, .inl (sn))), (mt, .inl (g.2.1 1, 60, .inl (tx))), (mm, .inl (g.2.1 0, 48, .inl (me))), (md, .inl (g.2.1 0, 40, .inl (td2)))] H := hw_
              have hD : va_D (MF mo mn mp mq mt mm md) [(mo, .inr (4, [.ref mn, .ref mp, .int (nI zs), .ref mq, .int (xz (zk)), .ref mt, .int (nI zl), .ref mm, .int (nI z2), .ref md, .int (nI zr)])), (mn, .inl (g.2.1 0, 988, .inl (w))), (mp, .inl (g.2.1 0, 3952, .inl (pa))), (mq, .inl (g.2.1 0, 988, .inl (sn))), (mt, .inl (g.2.1 1, 60, .inl (tx))), (mm, .inl (g.2.1 0, 48, .inl (me))), (md, .inl (g.2.1 0, 40, .inl (td2)))] := va_D_eqL [mo, mn, mp, mq, mt, mm, md] rfl rfl hD
              have hbad := PBad_1 hpt2 (by omega) hne2 hmx2 k_56 (sep44 (by omega)) (by omega)
              refine xZ_eq (tgt := 76) hx hb dX4_isRowNext_59 (by decide) (fun c_59 => ?_) (fun c_59 => absurd c_59 (by decide))
              refine xN_const hx hb 0 dX4_isRowNext_76 (by decide) ?_
              exact xend_t (V := nI (0)) hF hret hlocks rfl hS (Or.inl ⟨rfl, _, _, hbad, hP⟩) dX4_isRowNext_77
        · have hN_ := Bool.eq_false_iff.mpr hN_
          have hw_ := hw2_ hN_
          have k_37 := fun h => seB_0 hN_ h
          rw [he_, hN_]
          have hP : va_P g.1 vwCl [(mo, .inr (4, [.ref mn, .ref mp, .int (nI zs), .ref mq, .int (xz (zk)), .ref mt, .int (nI zl), .ref mm, .int (nI z1), .ref md, .int (nI zr)])), (mn, .inl (g.2.1 0, 988, .inl (w))), (mp, .inl (g.2.1 0, 3952, .inl (pa))), (mq, .inl (g.2.1 0, 988, .inl (sn))), (mt, .inl (g.2.1 1, 60, .inl (tx))), (mm, .inl (g.2.1 0, 48, .inl (me))), (md, .inl (g.2.1 0, 40, .inl (td1)))] H := hw_
          have hD : va_D (MF mo mn mp mq mt mm md) [(mo, .inr (4, [.ref mn, .ref mp, .int (nI zs), .ref mq, .int (xz (zk)), .ref mt, .int (nI zl), .ref mm, .int (nI z1), .ref md, .int (nI zr)])), (mn, .inl (g.2.1 0, 988, .inl (w))), (mp, .inl (g.2.1 0, 3952, .inl (pa))), (mq, .inl (g.2.1 0, 988, .inl (sn))), (mt, .inl (g.2.1 1, 60, .inl (tx))), (mm, .inl (g.2.1 0, 48, .inl (me))), (md, .inl (g.2.1 0, 40, .inl (td1)))] := va_D_eqL [mo, mn, mp, mq, mt, mm, md] rfl rfl hD
          have hbad := PBad_1 hpt1 (by omega) hne1 hmx1 k_37 (sep44 (by omega)) (by omega)
          refine xZ_eq (tgt := 76) hx hb dX4_isRowNext_40 (by decide) (fun c_40 => ?_) (fun c_40 => absurd c_40 (by decide))
          refine xN_const hx hb 0 dX4_isRowNext_76 (by decide) ?_
          exact xend_t (V := nI (0)) hF hret hlocks rfl hS (Or.inl ⟨rfl, _, _, hbad, hP⟩) dX4_isRowNext_77
    · have hN_ := Bool.eq_false_iff.mpr hN_
      have hw_ := hw2_ hN_
      have k_18 := fun h => seB_0 hN_ h
      rw [he_, hN_]
      have hP : va_P g.1 vwCl [(mo, .inr (4, [.ref mn, .ref mp, .int (nI zs), .ref mq, .int (xz (zk)), .ref mt, .int (nI zl), .ref mm, .int (nI z0), .ref md, .int (nI zr)])), (mn, .inl (g.2.1 0, 988, .inl (w))), (mp, .inl (g.2.1 0, 3952, .inl (pa))), (mq, .inl (g.2.1 0, 988, .inl (sn))), (mt, .inl (g.2.1 1, 60, .inl (tx))), (mm, .inl (g.2.1 0, 48, .inl (me))), (md, .inl (g.2.1 0, 40, .inl (td0)))] H := hw_
      have hD : va_D (MF mo mn mp mq mt mm md) [(mo, .inr (4, [.ref mn, .ref mp, .int (nI zs), .ref mq, .int (xz (zk)), .ref mt, .int (nI zl), .ref mm, .int (nI z0), .ref md, .int (nI zr)])), (mn, .inl (g.2.1 0, 988, .inl (w))), (mp, .inl (g.2.1 0, 3952, .inl (pa))), (mq, .inl (g.2.1 0, 988, .inl (sn))), (mt, .inl (g.2.1 1, 60, .inl (tx))), (mm, .inl (g.2.1 0, 48, .inl (me))), (md, .inl (g.2.1 0, 40, .inl (td0)))] := va_D_eqL [mo, mn, mp, mq, mt, mm, md] rfl rfl hD
      have hbad := PBad_1 hpt0 (by omega) hne0 hmx0 k_18 (sep44 (by omega)) (by omega)
      refine xZ_eq (tgt := 76) hx hb dX4_isRowNext_21 (by decide) (fun c_21 => ?_) (fun c_21 => absurd c_21 (by decide))
      refine xN_const hx hb 0 dX4_isRowNext_76 (by decide) ?_
      exact xend_t (V := nI (0)) hF hret hlocks rfl hS (Or.inl ⟨rfl, _, _, hbad, hP⟩) dX4_isRowNext_77
set_option maxHeartbeats 4000000 in
set_option maxRecDepth 100000 in
theorem c_X4_fault (l : Launch) (g : XG) (mo mn mp mq mt mm md zs zl zp zr : Nat) (zk : Bool) (w pa sn tx me td : Nat → Int32) (hD : va_D (MF mo mn mp mq mt mm md) (ModW g mo mn mp mq mt mm md zs zl zp zr zk w pa sn tx me td)) (hAB : ∀ q, MF mo mn mp mq mt mm md q → xB g q) (hz60 : zl ≤ 60)  : Met l yX4_fault (ww yX4_fault cX4_fault 2 (some .int)) (rmD 5) (xP g [.ref mo] (fun H => va_P g.1 vwCl (ModW g mo mn mp mq mt mm md zs zl zp zr zk w pa sn tx me td) H)) (xQi (fun r9 H => (∃ j, PBad tx zl j ∧ r9 = nI j ∧ ∃ (z2 r2 : Nat) (td2 : Nat → Int32), va_P g.1 vwCl (ModW g mo mn mp mq mt mm md (zs) (zl) (z2) (r2) (zk) (w) (pa) (sn) (tx) (me) (td2)) H) ∨ (∃ (t : Nat) (en : Int32) (fn : Nat → Int32), PGood tx zl (4 * t + 3) en fn ∧ r9 = -5 ∧ ∃ (z2 : Nat) (td2 : Nat → Int32), (∀ q, q < 4 * t + 4 → td2 q = upd fn (4 * t + 3) en q) ∧ va_P g.1 vwCl (ModW g mo mn mp mq mt mm md (zs) (zl) (z2) (t + 1) (zk) (w) (pa) (sn) (tx) (me) (td2)) H)) (MF mo mn mp mq mt mm md)) 0 0 (MF mo mn mp mq mt mm md) := by
  refine xMetM (by decide) rfl (Nat.le_of_ble_eq_true rfl) ?_
  intro p e s m below meth c ls H locs hF hZ hh hS hret hlocks hin hl
  have hx := hF.1.1
  have hb := hF.1.2.1
  have hP := hh
  have hP : va_P g.1 vwCl (ModW g mo mn mp mq mt mm md zs zl zp zr zk w pa sn tx me td) H := hP
  have hl : lv_has ls 2 [(0, .ref mo)] := hl
  refine lv_aload_n hx hb dX4_fault_0 rfl (lv_at hl 0 rfl) ?_
  refine xN_const hx hb 0 dX4_fault_1 (by decide) ?_
  refine pf_X4_X4_spot hF hP hD hS 0 rfl (Nat.le_of_ble_eq_true rfl) dX4_fault_2 (fun H locs hP hS => ?_)
  have hP : va_P g.1 vwCl [(mo, .inr (4, [.ref mn, .ref mp, .int (nI zs), .ref mq, .int (xz (zk)), .ref mt, .int (nI zl), .ref mm, .int (nI 0), .ref md, .int (nI zr)])), (mn, .inl (g.2.1 0, 988, .inl (w))), (mp, .inl (g.2.1 0, 3952, .inl (pa))), (mq, .inl (g.2.1 0, 988, .inl (sn))), (mt, .inl (g.2.1 1, 60, .inl (tx))), (mm, .inl (g.2.1 0, 48, .inl (me))), (md, .inl (g.2.1 0, 40, .inl (td)))] H := hP
  have hD : va_D (MF mo mn mp mq mt mm md) [(mo, .inr (4, [.ref mn, .ref mp, .int (nI zs), .ref mq, .int (xz (zk)), .ref mt, .int (nI zl), .ref mm, .int (nI 0), .ref md, .int (nI zr)])), (mn, .inl (g.2.1 0, 988, .inl (w))), (mp, .inl (g.2.1 0, 3952, .inl (pa))), (mq, .inl (g.2.1 0, 988, .inl (sn))), (mt, .inl (g.2.1 1, 60, .inl (tx))), (mm, .inl (g.2.1 0, 48, .inl (me))), (md, .inl (g.2.1 0, 40, .inl (td)))] := (va_D_eqL [mo, mn, mp, mq, mt, mm, md] rfl rfl hD)
  refine lv_aload_n hx hb dX4_fault_5 rfl (lv_at hl 0 rfl) ?_
  refine xN_const hx hb 0 dX4_fault_6 (by decide) ?_
  refine pf_X4_X4_toldRows hF hP hD hS 0 rfl (Nat.le_of_ble_eq_true rfl) dX4_fault_7 (fun H locs hP hS => ?_)
  have hP : va_P g.1 vwCl [(mo, .inr (4, [.ref mn, .ref mp, .int (nI zs), .ref mq, .int (xz (zk)), .ref mt, .int (nI zl), .ref mm, .int (nI 0), .ref md, .int (nI 0)])), (mn, .inl (g.2.1 0, 988, .inl (w))), (mp, .inl (g.2.1 0, 3952, .inl (pa))), (mq, .inl (g.2.1 0, 988, .inl (sn))), (mt, .inl (g.2.1 1, 60, .inl (tx))), (mm, .inl (g.2.1 0, 48, .inl (me))), (md, .inl (g.2.1 0, 40, .inl (td)))] H := hP
  have hD : va_D (MF mo mn mp mq mt mm md) [(mo, .inr (4, [.ref mn, .ref mp, .int (nI zs), .ref mq, .int (xz (zk)), .ref mt, .int (nI zl), .ref mm, .int (nI 0), .ref md, .int (nI 0)])), (mn, .inl (g.2.1 0, 988, .inl (w))), (mp, .inl (g.2.1 0, 3952, .inl (pa))), (mq, .inl (g.2.1 0, 988, .inl (sn))), (mt, .inl (g.2.1 1, 60, .inl (tx))), (mm, .inl (g.2.1 0, 48, .inl (me))), (md, .inl (g.2.1 0, 40, .inl (td)))] := (va_D_eqL [mo, mn, mp, mq, mt, mm, md] rfl rfl hD)
  refine xN_const hx hb 1 dX4_fault_10 (by decide) ?_
  refine lv_istore_n (lv' := [(1, .int (nI 1)), (0, .ref mo)]) hx hb dX4_fault_11 rfl hl (by decide) rfl (fun ls hl => ?_)
  refine xloopM (goal := fun ls H locs => W p l e _ s m _ below meth c H locs _ _ _ (F0 m _ ls [])) (fun (z_ : Bool × Nat × Nat × (Nat → Int32)) (ls : Array Slot) (H : Heap) (locs : List Loc) => match z_ with | (mb, z2, r2, td2) => (z2 ≤ zl) ∧ (mb = true → ∃ fn, pst tx z2 = some (4 * r2, -7, fn) ∧ ∀ q, q < 4 * r2 → td2 q = fn q) ∧ (mb = false → ∃ (t : Nat) (en : Int32) (fn : Nat → Int32), r2 = t + 1 ∧ pst tx z2 = some (4 * t + 3, en, fn) ∧ ¬ en = -7 ∧ (∀ q, q < 4 * t + 4 → td2 q = upd fn (4 * t + 3) en q) ∧ (z2 < zl → stp (4 * t + 3, en, fn) (tx z2) = none)) ∧ va_P g.1 vwCl [(mo, .inr (4, [.ref mn, .ref mp, .int (nI zs), .ref mq, .int (xz (zk)), .ref mt, .int (nI zl), .ref mm, .int (nI z2), .ref md, .int (nI r2)])), (mn, .inl (g.2.1 0, 988, .inl (w))), (mp, .inl (g.2.1 0, 3952, .inl (pa))), (mq, .inl (g.2.1 0, 988, .inl (sn))), (mt, .inl (g.2.1 1, 60, .inl (tx))), (mm, .inl (g.2.1 0, 48, .inl (me))), (md, .inl (g.2.1 0, 40, .inl (td2)))] H ∧ va_S (MF mo mn mp mq mt mm md) s.heap H locs ∧ lv_has ls 2 [(0, .ref mo), (1, .int (xz (mb)))]) (fun (z_ : Bool × Nat × Nat × (Nat → Int32)) => match z_ with | (mb, z2, r2, td2) => zl - z2) ?_ (true, 0, 0, td) ls H locs ⟨Nat.zero_le _, fun _ => ⟨_, rfl, fun q h => absurd h (Nat.not_lt_zero _)⟩, fun h => absurd h (by decide), hP, hS, lv_sub hl [1, 0] rfl⟩
  rintro ⟨mb, z2, r2, td2⟩ ls H locs ⟨J1, J2, J3, hP, hS, hl⟩ ih
  dsimp only at ih
  have hD : va_D (MF mo mn mp mq mt mm md) [(mo, .inr (4, [.ref mn, .ref mp, .int (nI zs), .ref mq, .int (xz (zk)), .ref mt, .int (nI zl), .ref mm, .int (nI z2), .ref md, .int (nI r2)])), (mn, .inl (g.2.1 0, 988, .inl (w))), (mp, .inl (g.2.1 0, 3952, .inl (pa))), (mq, .inl (g.2.1 0, 988, .inl (sn))), (mt, .inl (g.2.1 1, 60, .inl (tx))), (mm, .inl (g.2.1 0, 48, .inl (me))), (md, .inl (g.2.1 0, 40, .inl (td2)))] := va_D_eqL [mo, mn, mp, mq, mt, mm, md] rfl rfl hD
  refine lv_iload_n hx hb dX4_fault_12 rfl (lv_at hl 1 rfl) ?_
  refine xZ_eq (tgt := 48) hx hb dX4_fault_13 (by decide) (fun c_13 => ?_) (fun c_13 => ?_)
  · obtain ⟨t, en, fn, hr2, hps, hne, htd, hst⟩ := J3 c_13
    refine lv_aload_n hx hb dX4_fault_48 rfl (lv_at hl 0 rfl) ?_
    refine gf_X4_X4_spot hF hP 0 rfl rfl dX4_fault_49 ?_
    refine lv_aload_n hx hb dX4_fault_52 rfl (lv_at hl 0 rfl) ?_
    refine gf_X4_X4_length hF hP 0 rfl rfl dX4_fault_53 ?_
    refine xC_ne (tgt := 64) hx hb (by omega) (by omega) dX4_fault_56 (by decide) (fun c_56 => ?_) (fun c_56 => ?_)
    · refine lv_aload_n hx hb dX4_fault_64 rfl (lv_at hl 0 rfl) ?_
      refine gf_X4_X4_spot hF hP 0 rfl rfl dX4_fault_65 ?_
      exact xend_i (V := nI (z2)) hF hret hlocks hS (Or.inl ⟨z2, ⟨_, hps, Or.inl ⟨by omega, hst (by omega)⟩⟩, rfl, _, _, _, hP⟩) dX4_fault_68
    · refine lv_bipush hx hb (v := (-5)) dX4_fault_59 (by decide) ?_
      refine lv_goto (tgt := 68) hx hb dX4_fault_61 (by decide) ?_
      exact xend_i (V := (-5)) hF hret hlocks hS (Or.inr ⟨t, en, fn, ⟨by rw [← c_56]; exact hps, hne, by omega⟩, rfl, _, _, htd, by rw [hr2] at hP; exact hP⟩) dX4_fault_68
  · obtain ⟨fn, hps, htd⟩ := J2 c_13
    have h2c : 2 * (4 * r2) ≤ z2 := pst_lt hps
    refine lv_aload_n hx hb dX4_fault_16 rfl (lv_at hl 0 rfl) ?_
    refine xci (xrV hF (c_X4_isRowNext l g mo mn mp mq mt mm md zs zl z2 r2 zk w pa sn tx me td2 hD hAB hz60 fn (by omega) hps htd) cal_X4_isRowNext q_181 ⟨by decide, by decide⟩ rfl rfl rfl (va_recv hF.2.1 hP (ci := 4) (q0 := 0) rfl rfl) (hZ.at hS hAB) (hP) hl.1 rfl (Nat.le_of_ble_eq_true rfl) dX4_fault_17 ⟨Nat.le_refl _, Nat.le_refl _⟩) hS (xin_sub [0, 1, 2, 3, 4, 5, 6] rfl) (xin_sub [0, 1, 2, 3, 4, 5, 6] rfl) (fun r_ H locs hq_ hz_ hk_ hS => ?_)
    rcases hq_ with ⟨rfl, z3, td3, hbad, hw_⟩ | ⟨rfl, z3, en3, f3, td3, hlt3, hle3, hpt3, hne3, hmx3, htd3, hw_⟩
    · have hP : va_P g.1 vwCl [(mo, .inr (4, [.ref mn, .ref mp, .int (nI zs), .ref mq, .int (xz (zk)), .ref mt, .int (nI zl), .ref mm, .int (nI z3), .ref md, .int (nI r2)])), (mn, .inl (g.2.1 0, 988, .inl (w))), (mp, .inl (g.2.1 0, 3952, .inl (pa))), (mq, .inl (g.2.1 0, 988, .inl (sn))), (mt, .inl (g.2.1 1, 60, .inl (tx))), (mm, .inl (g.2.1 0, 48, .inl (me))), (md, .inl (g.2.1 0, 40, .inl (td3)))] H := hw_
      have hD : va_D (MF mo mn mp mq mt mm md) [(mo, .inr (4, [.ref mn, .ref mp, .int (nI zs), .ref mq, .int (xz (zk)), .ref mt, .int (nI zl), .ref mm, .int (nI z3), .ref md, .int (nI r2)])), (mn, .inl (g.2.1 0, 988, .inl (w))), (mp, .inl (g.2.1 0, 3952, .inl (pa))), (mq, .inl (g.2.1 0, 988, .inl (sn))), (mt, .inl (g.2.1 1, 60, .inl (tx))), (mm, .inl (g.2.1 0, 48, .inl (me))), (md, .inl (g.2.1 0, 40, .inl (td3)))] := va_D_eqL [mo, mn, mp, mq, mt, mm, md] rfl rfl hD
      refine xZ_ne (tgt := 28) hx hb dX4_fault_20 (by decide) (fun c_20 => absurd c_20 (by decide)) (fun c_20 => ?_)
      refine lv_aload_n hx hb dX4_fault_23 rfl (lv_at hl 0 rfl) ?_
      refine gf_X4_X4_spot hF hP 0 rfl rfl dX4_fault_24 ?_
      exact xend_i (V := nI (z3)) hF hret hlocks hS (Or.inl ⟨_, hbad, rfl, _, _, _, hP⟩) dX4_fault_27
    · have hP : va_P g.1 vwCl [(mo, .inr (4, [.ref mn, .ref mp, .int (nI zs), .ref mq, .int (xz (zk)), .ref mt, .int (nI zl), .ref mm, .int (nI z3), .ref md, .int (nI r2)])), (mn, .inl (g.2.1 0, 988, .inl (w))), (mp, .inl (g.2.1 0, 3952, .inl (pa))), (mq, .inl (g.2.1 0, 988, .inl (sn))), (mt, .inl (g.2.1 1, 60, .inl (tx))), (mm, .inl (g.2.1 0, 48, .inl (me))), (md, .inl (g.2.1 0, 40, .inl (td3)))] H := hw_
      have hD : va_D (MF mo mn mp mq mt mm md) [(mo, .inr (4, [.ref mn, .ref mp, .int (nI zs), .ref mq, .int (xz (zk)), .ref mt, .int (nI zl), .ref mm, .int (nI z3), .ref md, .int (nI r2)])), (mn, .inl (g.2.1 0, 988, .inl (w))), (mp, .inl (g.2.1 0, 3952, .inl (pa))), (mq, .inl (g.2.1 0, 988, .inl (sn))), (mt, .inl (g.2.1 1, 60, .inl (tx))), (mm, .inl (g.2.1 0, 48, .inl (me))), (md, .inl (g.2.1 0, 40, .inl (td3)))] := va_D_eqL [mo, mn, mp, mq, mt, mm, md] rfl rfl hD
      refine xZ_ne (tgt := 28) hx hb dX4_fault_20 (by decide) (fun c_20 => ?_) (fun c_20 => absurd c_20 (by decide))
      refine lv_aload_n hx hb dX4_fault_28 rfl (lv_at hl 0 rfl) ?_
      refine lv_dup hx hb dX4_fault_29 rfl ?_
      refine gf_X4_X4_toldRows hF hP 0 rfl rfl dX4_fault_30 ?_
      refine xN_const hx hb 1 dX4_fault_33 (by decide) ?_
      refine xN_add hx hb dX4_fault_34 ?_
      refine pf_X4_X4_toldRows hF hP hD hS 0 rfl (Nat.le_of_ble_eq_true rfl) dX4_fault_35 (fun H locs hP hS => ?_)
      have hP : va_P g.1 vwCl [(mo, .inr (4, [.ref mn, .ref mp, .int (nI zs), .ref mq, .int (xz (zk)), .ref mt, .int (nI zl), .ref mm, .int (nI z3), .ref md, .int (nI (r2 + 1))])), (mn, .inl (g.2.1 0, 988, .inl (w))), (mp, .inl (g.2.1 0, 3952, .inl (pa))), (mq, .inl (g.2.1 0, 988, .inl (sn))), (mt, .inl (g.2.1 1, 60, .inl (tx))), (mm, .inl (g.2.1 0, 48, .inl (me))), (md, .inl (g.2.1 0, 40, .inl (td3)))] H := hP
      have hD : va_D (MF mo mn mp mq mt mm md) [(mo, .inr (4, [.ref mn, .ref mp, .int (nI zs), .ref mq, .int (xz (zk)), .ref mt, .int (nI zl), .ref mm, .int (nI z3), .ref md, .int (nI (r2 + 1))])), (mn, .inl (g.2.1 0, 988, .inl (w))), (mp, .inl (g.2.1 0, 3952, .inl (pa))), (mq, .inl (g.2.1 0, 988, .inl (sn))), (mt, .inl (g.2.1 1, 60, .inl (tx))), (mm, .inl (g.2.1 0, 48, .inl (me))), (md, .inl (g.2.1 0, 40, .inl (td3)))] := (va_D_eqL [mo, mn, mp, mq, mt, mm, md] rfl rfl hD)
      refine lv_aload_n hx hb dX4_fault_38 rfl (lv_at hl 0 rfl) ?_
      refine xN_bi hx hb 59 dX4_fault_39 (by decide) ?_
      refine xci (xrV hF (c_X4_takes l g mo mn mp mq mt mm md zs zl z3 (r2 + 1) zk w pa sn tx me td3 hD hAB hz60 (by omega) (nI (59))) cal_X4_takes q_189 ⟨by decide, by decide⟩ rfl rfl rfl (va_recv hF.2.1 hP (ci := 4) (q0 := 0) rfl rfl) (hZ.at hS hAB) (hP) hl.1 rfl (Nat.le_of_ble_eq_true rfl) dX4_fault_41 ⟨Nat.le_refl _, Nat.le_refl _⟩) hS (xin_sub [0, 1, 2, 3, 4, 5, 6] rfl) (xin_sub [0, 1, 2, 3, 4, 5, 6] rfl) (fun r_ H locs hq_ hz_ hk_ hS => ?_)
      obtain ⟨he_, hw1_, hw2_⟩ := hq_
      by_cases hN_ : seB zl z3 tx (nI (59)) (nI (59)) = true
      · have hw_ := hw1_ hN_
        have k_41 := seB_1 hN_
        rw [he_, hN_]
        have hP : va_P g.1 vwCl [(mo, .inr (4, [.ref mn, .ref mp, .int (nI zs), .ref mq, .int (xz (zk)), .ref mt, .int (nI zl), .ref mm, .int (nI (z3 + 1)), .ref md, .int (nI (r2 + 1))])), (mn, .inl (g.2.1 0, 988, .inl (w))), (mp, .inl (g.2.1 0, 3952, .inl (pa))), (mq, .inl (g.2.1 0, 988, .inl (sn))), (mt, .inl (g.2.1 1, 60, .inl (tx))), (mm, .inl (g.2.1 0, 48, .inl (me))), (md, .inl (g.2.1 0, 40, .inl (td3)))] H := hw_
        have hD : va_D (MF mo mn mp mq mt mm md) [(mo, .inr (4, [.ref mn, .ref mp, .int (nI zs), .ref mq, .int (xz (zk)), .ref mt, .int (nI zl), .ref mm, .int (nI (z3 + 1)), .ref md, .int (nI (r2 + 1))])), (mn, .inl (g.2.1 0, 988, .inl (w))), (mp, .inl (g.2.1 0, 3952, .inl (pa))), (mq, .inl (g.2.1 0, 988, .inl (sn))), (mt, .inl (g.2.1 1, 60, .inl (tx))), (mm, .inl (g.2.1 0, 48, .inl (me))), (md, .inl (g.2.1 0, 40, .inl (td3)))] := va_D_eqL [mo, mn, mp, mq, mt, mm, md] rfl rfl hD
        refine lv_istore_n (lv' := [(1, .int (xz (true))), (0, .ref mo)]) hx hb dX4_fault_44 rfl hl (by decide) rfl (fun ls hl => ?_)
        refine lv_goto (tgt := 12) hx hb dX4_fault_45 (by decide) ?_
        exact ih (true, z3 + 1, r2 + 1, td3) ls H locs ⟨by show z3 + 1 ≤ zl; omega, fun _ => ⟨upd f3 (4 * r2 + 3) en3, by show pst tx (z3 + 1) = some (4 * (r2 + 1), -7, _); rw [show 4 * (r2 + 1) = 4 * r2 + 3 + 1 by omega]; exact pst_sep hpt3 hne3 (hmx3 (by omega)) k_41.2 (sep59 (by omega)), fun q hq => htd3 q (by have : q < 4 * (r2 + 1) := hq; omega)⟩, fun h => absurd (show true = false from h) (by decide), hP, hS, lv_sub hl [1, 0] rfl⟩ (by dsimp only; omega)
      · have hN_ := Bool.eq_false_iff.mpr hN_
        have hw_ := hw2_ hN_
        have k_41 := fun h => seB_0 hN_ h
        rw [he_, hN_]
        have hP : va_P g.1 vwCl [(mo, .inr (4, [.ref mn, .ref mp, .int (nI zs), .ref mq, .int (xz (zk)), .ref mt, .int (nI zl), .ref mm, .int (nI z3), .ref md, .int (nI (r2 + 1))])), (mn, .inl (g.2.1 0, 988, .inl (w))), (mp, .inl (g.2.1 0, 3952, .inl (pa))), (mq, .inl (g.2.1 0, 988, .inl (sn))), (mt, .inl (g.2.1 1, 60, .inl (tx))), (mm, .inl (g.2.1 0, 48, .inl (me))), (md, .inl (g.2.1 0, 40, .inl (td3)))] H := hw_
        have hD : va_D (MF mo mn mp mq mt mm md) [(mo, .inr (4, [.ref mn, .ref mp, .int (nI zs), .ref mq, .int (xz (zk)), .ref mt, .int (nI zl), .ref mm, .int (nI z3), .ref md, .int (nI (r2 + 1))])), (mn, .inl (g.2.1 0, 988, .inl (w))), (mp, .inl (g.2.1 0, 3952, .inl (pa))), (mq, .inl (g.2.1 0, 988, .inl (sn))), (mt, .inl (g.2.1 1, 60, .inl (tx))), (mm, .inl (g.2.1 0, 48, .inl (me))), (md, .inl (g.2.1 0, 40, .inl (td3)))] := va_D_eqL [mo, mn, mp, mq, mt, mm, md] rfl rfl hD
        refine lv_istore_n (lv' := [(1, .int (xz (false))), (0, .ref mo)]) hx hb dX4_fault_44 rfl hl (by decide) rfl (fun ls hl => ?_)
        refine lv_goto (tgt := 12) hx hb dX4_fault_45 (by decide) ?_
        exact ih (false, z3, r2 + 1, td3) ls H locs ⟨by show z3 ≤ zl; omega, fun h => absurd (show false = true from h) (by decide), fun _ => ⟨r2, en3, f3, rfl, hpt3, hne3, htd3, fun h => stp_n (hmx3 h) (fun q => k_41 h (q.2.trans (sep59 (by show (4 * r2 + 3) % 4 = 3; omega)).symm))⟩, hP, hS, lv_sub hl [1, 0] rfl⟩ (by dsimp only; omega)
set_option maxHeartbeats 4000000 in
set_option maxRecDepth 100000 in
theorem c_X4_addRows (l : Launch) (g : XG) (mo mn mp mq mt mm md zs zl zp zr : Nat) (zk : Bool) (w pa sn tx me td : Nat → Int32) (hD : va_D (MF mo mn mp mq mt mm md) (ModW g mo mn mp mq mt mm md zs zl zp zr zk w pa sn tx me td)) (hAB : ∀ q, MF mo mn mp mq mt mm md q → xB g q) (hW : WF w) (hz4 : zs ≤ 4) (hz60 : zl ≤ 60)  : Met l yX4_addRows (ww yX4_addRows cX4_addRows 3 (some .int)) (rmD 6) (xP g [.ref mo] (fun H => va_P g.1 vwCl (ModW g mo mn mp mq mt mm md zs zl zp zr zk w pa sn tx me td) H)) (xQi (fun r9 H => (∃ j, PBad tx zl j ∧ r9 = -100 - nI j ∧ ∃ (z2 r2 : Nat) (td2 : Nat → Int32), va_P g.1 vwCl (ModW g mo mn mp mq mt mm md (zs) (zl) (z2) (r2) (zk) (w) (pa) (sn) (tx) (me) (td2)) H) ∨ (∃ (t : Nat) (en : Int32) (fn : Nat → Int32), PGood tx zl (4 * t + 3) en fn ∧ ((48 < nr w + (t + 1) ∧ r9 = -3 ∧ ∃ (z2 r2 : Nat) (td2 : Nat → Int32), va_P g.1 vwCl (ModW g mo mn mp mq mt mm md (zs) (zl) (z2) (r2) (zk) (w) (pa) (sn) (tx) (me) (td2)) H) ∨ (nr w + (t + 1) ≤ 48 ∧ r9 = nI (t + 1) ∧ ∃ (z2 r2 : Nat) (td2 : Nat → Int32), va_P g.1 vwCl (ModW g mo mn mp mq mt mm md (recS zs + 1) (zl) (z2) (r2) (zk) (adsW w (upd fn (4 * t + 3) en) (t + 1)) (recP w pa zs) (sn) (tx) (me) (td2)) H)))) (MF mo mn mp mq mt mm md)) 0 0 (MF mo mn mp mq mt mm md) := by
  refine xMetM (by decide) rfl (Nat.le_of_ble_eq_true rfl) ?_
  intro p e s m below meth c ls H locs hF hZ hh hS hret hlocks hin hl
  have hx := hF.1.1
  have hb := hF.1.2.1
  have hP := hh
  have hP : va_P g.1 vwCl (ModW g mo mn mp mq mt mm md zs zl zp zr zk w pa sn tx me td) H := hP
  have hl : lv_has ls 3 [(0, .ref mo)] := hl
  have h48 := hW.n48
  refine lv_aload_n hx hb dX4_addRows_0 rfl (lv_at hl 0 rfl) ?_
  refine xci (xrV hF (c_X4_fault l g mo mn mp mq mt mm md zs zl zp zr zk w pa sn tx me td hD hAB hz60) cal_X4_fault q_175 ⟨by decide, by decide⟩ rfl rfl rfl (va_recv hF.2.1 hP (ci := 4) (q0 := 0) rfl rfl) (hZ.at hS hAB) (hP) hl.1 rfl (Nat.le_of_ble_eq_true rfl) dX4_addRows_1 ⟨Nat.le_refl _, Nat.le_refl _⟩) hS (xin_sub [0, 1, 2, 3, 4, 5, 6] rfl) (xin_sub [0, 1, 2, 3, 4, 5, 6] rfl) (fun r_ H locs hq_ hz_ hk_ hS => ?_)
  rcases hq_ with ⟨j, hbad, rfl, z2, r2, td2, hw_⟩ | ⟨t, en, fn, hgood, rfl, z2, td2, htd, hw_⟩
  · have hj60 := hbad.le
    have hP : va_P g.1 vwCl [(mo, .inr (4, [.ref mn, .ref mp, .int (nI zs), .ref mq, .int (xz (zk)), .ref mt, .int (nI zl), .ref mm, .int (nI z2), .ref md, .int (nI r2)])), (mn, .inl (g.2.1 0, 988, .inl (w))), (mp, .inl (g.2.1 0, 3952, .inl (pa))), (mq, .inl (g.2.1 0, 988, .inl (sn))), (mt, .inl (g.2.1 1, 60, .inl (tx))), (mm, .inl (g.2.1 0, 48, .inl (me))), (md, .inl (g.2.1 0, 40, .inl (td2)))] H := hw_
    have hD : va_D (MF mo mn mp mq mt mm md) [(mo, .inr (4, [.ref mn, .ref mp, .int (nI zs), .ref mq, .int (xz (zk)), .ref mt, .int (nI zl), .ref mm, .int (nI z2), .ref md, .int (nI r2)])), (mn, .inl (g.2.1 0, 988, .inl (w))), (mp, .inl (g.2.1 0, 3952, .inl (pa))), (mq, .inl (g.2.1 0, 988, .inl (sn))), (mt, .inl (g.2.1 1, 60, .inl (tx))), (mm, .inl (g.2.1 0, 48, .inl (me))), (md, .inl (g.2.1 0, 40, .inl (td2)))] := va_D_eqL [mo, mn, mp, mq, mt, mm, md] rfl rfl hD
    refine lv_istore_n (lv' := [(1, .int (nI j)), (0, .ref mo)]) hx hb dX4_addRows_4 rfl hl (by decide) rfl (fun ls hl => ?_)
    refine lv_iload_n hx hb dX4_addRows_5 rfl (lv_at hl 0 rfl) ?_
    refine lv_bipush hx hb (v := (-5)) dX4_addRows_6 (by decide) ?_
    refine lv_icmp_eq (tgt := 16) hx hb dX4_addRows_8 (by decide) (fun c_8 => absurd c_8 (nI_nm5 (by omega))) (fun c_8 => ?_)
    refine lv_bipush hx hb (v := (-100)) dX4_addRows_11 (by decide) ?_
    refine lv_iload_n hx hb dX4_addRows_13 rfl (lv_at hl 0 rfl) ?_
    refine lv_isub hx hb dX4_addRows_14 ?_
    exact xend_i (V := ((-100) - nI (j))) hF hret hlocks hS (Or.inl ⟨j, hbad, rfl, _, _, _, hP⟩) dX4_addRows_15
  · have hok := hgood.ok
    have hcl60 := hok.1
    have hP : va_P g.1 vwCl [(mo, .inr (4, [.ref mn, .ref mp, .int (nI zs), .ref mq, .int (xz (zk)), .ref mt, .int (nI zl), .ref mm, .int (nI z2), .ref md, .int (nI (t + 1))])), (mn, .inl (g.2.1 0, 988, .inl (w))), (mp, .inl (g.2.1 0, 3952, .inl (pa))), (mq, .inl (g.2.1 0, 988, .inl (sn))), (mt, .inl (g.2.1 1, 60, .inl (tx))), (mm, .inl (g.2.1 0, 48, .inl (me))), (md, .inl (g.2.1 0, 40, .inl (td2)))] H := hw_
    have hD : va_D (MF mo mn mp mq mt mm md) [(mo, .inr (4, [.ref mn, .ref mp, .int (nI zs), .ref mq, .int (xz (zk)), .ref mt, .int (nI zl), .ref mm, .int (nI z2), .ref md, .int (nI (t + 1))])), (mn, .inl (g.2.1 0, 988, .inl (w))), (mp, .inl (g.2.1 0, 3952, .inl (pa))), (mq, .inl (g.2.1 0, 988, .inl (sn))), (mt, .inl (g.2.1 1, 60, .inl (tx))), (mm, .inl (g.2.1 0, 48, .inl (me))), (md, .inl (g.2.1 0, 40, .inl (td2)))] := va_D_eqL [mo, mn, mp, mq, mt, mm, md] rfl rfl hD
    refine lv_istore_n (lv' := [(1, .int (-5)), (0, .ref mo)]) hx hb dX4_addRows_4 rfl hl (by decide) rfl (fun ls hl => ?_)
    refine lv_iload_n hx hb dX4_addRows_5 rfl (lv_at hl 0 rfl) ?_
    refine lv_bipush hx hb (v := (-5)) dX4_addRows_6 (by decide) ?_
    refine lv_icmp_eq (tgt := 16) hx hb dX4_addRows_8 (by decide) (fun c_8 => ?_) (fun c_8 => absurd rfl c_8)
    refine lv_aload_n hx hb dX4_addRows_16 rfl (lv_at hl 1 rfl) ?_
    refine gf_X4_X4_now hF hP 0 rfl rfl dX4_addRows_17 ?_
    refine xN_const hx hb 0 dX4_addRows_20 (by decide) ?_
    refine xA_ild hF hP 1 rfl (by omega) (by decide) (v := nI (nr w)) (hW.r0) dX4_addRows_21 ?_
    refine lv_aload_n hx hb dX4_addRows_22 rfl (lv_at hl 1 rfl) ?_
    refine gf_X4_X4_toldRows hF hP 0 rfl rfl dX4_addRows_23 ?_
    refine xN_add hx hb dX4_addRows_26 ?_
    refine xN_bi hx hb 48 dX4_addRows_27 (by decide) ?_
    refine xC_le (tgt := 35) hx hb (by omega) (by omega) dX4_addRows_29 (by decide) (fun c_29 => ?_) (fun c_29 => ?_)
    · refine lv_aload_n hx hb dX4_addRows_35 rfl (lv_at hl 1 rfl) ?_
      refine xcv (xrV hF (c_X4_records l g mo mn mp mq mt mm md zs zl z2 (t + 1) zk w pa sn tx me td2 hD hAB (by omega)) cal_X4_records q_122 ⟨by decide, by decide⟩ rfl rfl rfl (va_recv hF.2.1 hP (ci := 4) (q0 := 0) rfl rfl) (hZ.at hS hAB) (hP) hl.1 rfl (Nat.le_of_ble_eq_true rfl) dX4_addRows_36 ⟨Nat.le_refl _, Nat.le_refl _⟩) hS (xin_sub [0, 1, 2, 3, 4, 5, 6] rfl) (xin_sub [0, 1, 2, 3, 4, 5, 6] rfl) (fun H locs hq_ hz_ hk_ hS => ?_)
      have hw_ := hq_
      have hP : va_P g.1 vwCl [(mo, .inr (4, [.ref mn, .ref mp, .int (nI (recS zs + 1)), .ref mq, .int (xz (zk)), .ref mt, .int (nI zl), .ref mm, .int (nI z2), .ref md, .int (nI (t + 1))])), (mn, .inl (g.2.1 0, 988, .inl (w))), (mp, .inl (g.2.1 0, 3952, .inl (recP w pa zs))), (mq, .inl (g.2.1 0, 988, .inl (sn))), (mt, .inl (g.2.1 1, 60, .inl (tx))), (mm, .inl (g.2.1 0, 48, .inl (me))), (md, .inl (g.2.1 0, 40, .inl (td2)))] H := xjoin hP hD hw_ hk_ [0, 1, 2, 3, 4, 5, 6] [(true, 0), (true, 1), (true, 2), (true, 3), (true, 4), (true, 5), (true, 6)] rfl rfl rfl
      have hD : va_D (MF mo mn mp mq mt mm md) [(mo, .inr (4, [.ref mn, .ref mp, .int (nI (recS zs + 1)), .ref mq, .int (xz (zk)), .ref mt, .int (nI zl), .ref mm, .int (nI z2), .ref md, .int (nI (t + 1))])), (mn, .inl (g.2.1 0, 988, .inl (w))), (mp, .inl (g.2.1 0, 3952, .inl (recP w pa zs))), (mq, .inl (g.2.1 0, 988, .inl (sn))), (mt, .inl (g.2.1 1, 60, .inl (tx))), (mm, .inl (g.2.1 0, 48, .inl (me))), (md, .inl (g.2.1 0, 40, .inl (td2)))] := va_D_eqL [mo, mn, mp, mq, mt, mm, md] rfl rfl hD
      refine xN_const hx hb 0 dX4_addRows_39 (by decide) ?_
      refine lv_istore_n (lv' := [(2, .int (nI 0)), (1, .int (-5)), (0, .ref mo)]) hx hb dX4_addRows_40 rfl hl (by decide) rfl (fun ls hl => ?_)
      refine xloopM (goal := fun ls H locs => W p l e _ s m _ below meth c H locs _ _ _ (F0 m _ ls [])) (fun (z_ : Nat × (Nat → Int32)) (ls : Array Slot) (H : Heap) (locs : List Loc) => match z_ with | (i, wi) => (i ≤ 4 * (t + 1)) ∧ (wi = cesW w (nr w) td2 i) ∧ va_P g.1 vwCl [(mo, .inr (4, [.ref mn, .ref mp, .int (nI (recS zs + 1)), .ref mq, .int (xz (zk)), .ref mt, .int (nI zl), .ref mm, .int (nI z2), .ref md, .int (nI (t + 1))])), (mn, .inl (g.2.1 0, 988, .inl (wi))), (mp, .inl (g.2.1 0, 3952, .inl (recP w pa zs))), (mq, .inl (g.2.1 0, 988, .inl (sn))), (mt, .inl (g.2.1 1, 60, .inl (tx))), (mm, .inl (g.2.1 0, 48, .inl (me))), (md, .inl (g.2.1 0, 40, .inl (td2)))] H ∧ va_S (MF mo mn mp mq mt mm md) s.heap H locs ∧ lv_has ls 3 [(0, .ref mo), (2, .int (nI i))]) (fun (z_ : Nat × (Nat → Int32)) => match z_ with | (i, wi) => 4 * (t + 1) - i) ?_ (0, w) ls H locs ⟨Nat.zero_le _, rfl, hP, hS, lv_sub hl [2, 0] rfl⟩
      rintro ⟨i, wi⟩ ls H locs ⟨I1, I2, hP, hS, hl⟩ ih
      dsimp only at ih
      have hD : va_D (MF mo mn mp mq mt mm md) [(mo, .inr (4, [.ref mn, .ref mp, .int (nI (recS zs + 1)), .ref mq, .int (xz (zk)), .ref mt, .int (nI zl), .ref mm, .int (nI z2), .ref md, .int (nI (t + 1))])), (mn, .inl (g.2.1 0, 988, .inl (wi))), (mp, .inl (g.2.1 0, 3952, .inl (recP w pa zs))), (mq, .inl (g.2.1 0, 988, .inl (sn))), (mt, .inl (g.2.1 1, 60, .inl (tx))), (mm, .inl (g.2.1 0, 48, .inl (me))), (md, .inl (g.2.1 0, 40, .inl (td2)))] := va_D_eqL [mo, mn, mp, mq, mt, mm, md] rfl rfl hD
      have hwi : wi 0 = nI (nr w) := by rw [I2, cesW_lo (by decide)]; exact hW.r0
      refine lv_iload_n hx hb dX4_addRows_41 rfl (lv_at hl 1 rfl) ?_
      refine xN_const hx hb 4 dX4_addRows_42 (by decide) ?_
      refine lv_aload_n hx hb dX4_addRows_43 rfl (lv_at hl 0 rfl) ?_
      refine gf_X4_X4_toldRows hF hP 0 rfl rfl dX4_addRows_44 ?_
      refine xN_mul hx hb dX4_addRows_47 ?_
      refine xC_ge (tgt := 80) hx hb (by omega) (by omega) dX4_addRows_48 (by decide) (fun c_48 => ?_) (fun c_48 => ?_)
      · have hit : i = 4 * (t + 1) := by omega
        have eW : upd wi 0 (nI (nr w + (t + 1))) = adsW w (upd fn (4 * t + 3) en) (t + 1) := by rw [cesW_ads hW (by omega), I2, hit, cesW_cong (fun q hq => htd q (by omega))]
        refine lv_aload_n hx hb dX4_addRows_80 rfl (lv_at hl 0 rfl) ?_
        refine gf_X4_X4_now hF hP 0 rfl rfl dX4_addRows_81 ?_
        refine xN_const hx hb 0 dX4_addRows_84 (by decide) ?_
        refine lv_dup2_11 hx hb dX4_addRows_85 rfl rfl ?_
        refine xA_ild hF hP 1 rfl (by omega) (by decide) (v := nI (nr w)) (hwi) dX4_addRows_86 ?_
        refine lv_aload_n hx hb dX4_addRows_87 rfl (lv_at hl 0 rfl) ?_
        refine gf_X4_X4_toldRows hF hP 0 rfl rfl dX4_addRows_88 ?_
        refine xN_add hx hb dX4_addRows_91 ?_
        refine xA_ist hF hP hD hS 1 rfl (by omega) (by decide) dX4_addRows_92 (fun H locs hP hS => ?_)
        have hP : va_P g.1 vwCl [(mo, .inr (4, [.ref mn, .ref mp, .int (nI (recS zs + 1)), .ref mq, .int (xz (zk)), .ref mt, .int (nI zl), .ref mm, .int (nI z2), .ref md, .int (nI (t + 1))])), (mn, .inl (g.2.1 0, 988, .inl (upd (wi) (0) (nI (nr w + (t + 1)))))), (mp, .inl (g.2.1 0, 3952, .inl (recP w pa zs))), (mq, .inl (g.2.1 0, 988, .inl (sn))), (mt, .inl (g.2.1 1, 60, .inl (tx))), (mm, .inl (g.2.1 0, 48, .inl (me))), (md, .inl (g.2.1 0, 40, .inl (td2)))] H := hP
        have hD : va_D (MF mo mn mp mq mt mm md) [(mo, .inr (4, [.ref mn, .ref mp, .int (nI (recS zs + 1)), .ref mq, .int (xz (zk)), .ref mt, .int (nI zl), .ref mm, .int (nI z2), .ref md, .int (nI (t + 1))])), (mn, .inl (g.2.1 0, 988, .inl (upd (wi) (0) (nI (nr w + (t + 1)))))), (mp, .inl (g.2.1 0, 3952, .inl (recP w pa zs))), (mq, .inl (g.2.1 0, 988, .inl (sn))), (mt, .inl (g.2.1 1, 60, .inl (tx))), (mm, .inl (g.2.1 0, 48, .inl (me))), (md, .inl (g.2.1 0, 40, .inl (td2)))] := (va_D_eqL [mo, mn, mp, mq, mt, mm, md] rfl rfl hD)
        refine lv_aload_n hx hb dX4_addRows_93 rfl (lv_at hl 0 rfl) ?_
        refine gf_X4_X4_toldRows hF hP 0 rfl rfl dX4_addRows_94 ?_
        exact xend_i (V := nI (t + 1)) hF hret hlocks hS (Or.inr ⟨t, en, fn, hgood, Or.inr ⟨by omega, rfl, _, _, _, by rw [← eW]; exact hP⟩⟩) dX4_addRows_97
      · refine lv_aload_n hx hb dX4_addRows_51 rfl (lv_at hl 0 rfl) ?_
        refine lv_aload_n hx hb dX4_addRows_52 rfl (lv_at hl 0 rfl) ?_
        refine gf_X4_X4_now hF hP 0 rfl rfl dX4_addRows_53 ?_
        refine xN_const hx hb 0 dX4_addRows_56 (by decide) ?_
        refine xA_ild hF hP 1 rfl (by omega) (by decide) (v := nI (nr w)) (hwi) dX4_addRows_57 ?_
        refine lv_iload_n hx hb dX4_addRows_58 rfl (lv_at hl 1 rfl) ?_
        refine xN_const hx hb 4 dX4_addRows_59 (by decide) ?_
        refine xN_div hx hb (by omega) (by omega) (by omega) dX4_addRows_60 ?_
        refine xN_add hx hb dX4_addRows_61 ?_
        refine lv_iload_n hx hb dX4_addRows_62 rfl (lv_at hl 1 rfl) ?_
        refine xN_const hx hb 4 dX4_addRows_63 (by decide) ?_
        refine xN_rem hx hb (by omega) (by omega) (by omega) dX4_addRows_64 ?_
        refine lv_aload_n hx hb dX4_addRows_65 rfl (lv_at hl 0 rfl) ?_
        refine gf_X4_X4_told hF hP 0 rfl rfl dX4_addRows_66 ?_
        refine lv_iload_n hx hb dX4_addRows_69 rfl (lv_at hl 1 rfl) ?_
        refine xA_ild hF hP 6 rfl (by omega) (by decide) (v := (td2 (i))) rfl dX4_addRows_70 ?_
        refine xcv (xrV hF (c_X4_comes l g mo mn mp mq mt mm md (recS zs + 1) zl z2 (t + 1) zk wi (recP w pa zs) sn tx me td2 hD hAB (nr w + (i / 4)) (i % 4) (by omega) (by omega) ((td2 (i)))) cal_X4_comes q_130 ⟨by decide, by decide⟩ rfl rfl rfl (va_recv hF.2.1 hP (ci := 4) (q0 := 0) rfl rfl) (hZ.at hS hAB) (hP) hl.1 rfl (Nat.le_of_ble_eq_true rfl) dX4_addRows_71 ⟨Nat.le_refl _, Nat.le_refl _⟩) hS (xin_sub [0, 1, 2, 3, 4, 5, 6] rfl) (xin_sub [0, 1, 2, 3, 4, 5, 6] rfl) (fun H locs hq_ hz_ hk_ hS => ?_)
        have hw_ := hq_
        have hP : va_P g.1 vwCl [(mo, .inr (4, [.ref mn, .ref mp, .int (nI (recS zs + 1)), .ref mq, .int (xz (zk)), .ref mt, .int (nI zl), .ref mm, .int (nI z2), .ref md, .int (nI (t + 1))])), (mn, .inl (g.2.1 0, 988, .inl (cmsW wi (nr w + (i / 4)) (i % 4) ((td2 (i)))))), (mp, .inl (g.2.1 0, 3952, .inl (recP w pa zs))), (mq, .inl (g.2.1 0, 988, .inl (sn))), (mt, .inl (g.2.1 1, 60, .inl (tx))), (mm, .inl (g.2.1 0, 48, .inl (me))), (md, .inl (g.2.1 0, 40, .inl (td2)))] H := xjoin hP hD hw_ hk_ [0, 1, 2, 3, 4, 5, 6] [(true, 0), (true, 1), (true, 2), (true, 3), (true, 4), (true, 5), (true, 6)] rfl rfl rfl
        have hD : va_D (MF mo mn mp mq mt mm md) [(mo, .inr (4, [.ref mn, .ref mp, .int (nI (recS zs + 1)), .ref mq, .int (xz (zk)), .ref mt, .int (nI zl), .ref mm, .int (nI z2), .ref md, .int (nI (t + 1))])), (mn, .inl (g.2.1 0, 988, .inl (cmsW wi (nr w + (i / 4)) (i % 4) ((td2 (i)))))), (mp, .inl (g.2.1 0, 3952, .inl (recP w pa zs))), (mq, .inl (g.2.1 0, 988, .inl (sn))), (mt, .inl (g.2.1 1, 60, .inl (tx))), (mm, .inl (g.2.1 0, 48, .inl (me))), (md, .inl (g.2.1 0, 40, .inl (td2)))] := va_D_eqL [mo, mn, mp, mq, mt, mm, md] rfl rfl hD
        refine xN_inc (lv' := [(2, .int (nI (i + 1))), (0, .ref mo)]) hx hb 1 dX4_addRows_74 hl (k := 1) rfl (by decide) (by decide) rfl (fun ls hl => ?_)
        refine lv_goto (tgt := 41) hx hb dX4_addRows_77 (by decide) ?_
        exact ih (i + 1, cmsW wi (nr w + i / 4) (i % 4) (td2 (i))) ls H locs ⟨by show i + 1 ≤ 4 * (t + 1); omega, by rw [I2]; rfl, hP, hS, lv_sub hl [1, 0] rfl⟩ (by dsimp only; omega)
    · refine lv_bipush hx hb (v := (-3)) dX4_addRows_32 (by decide) ?_
      exact xend_i (V := (-3)) hF hret hlocks hS (Or.inr ⟨t, en, fn, hgood, Or.inl ⟨by omega, rfl, _, _, _, hP⟩⟩) dX4_addRows_34
