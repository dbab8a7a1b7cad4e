/-! the class: the tally -/
def fil (f : Nat → Int32) (v : Int32) (k : Nat) : Nat → Int32 := fun j => if j < k then v else f j
theorem fil_0 (f : Nat → Int32) (v : Int32) : fil f v 0 = f := by funext j; unfold fil; rw [if_neg (by omega)]
theorem fil_step {f : Nat → Int32} {v : Int32} {i : Nat} : upd (fil f v i) i v = fil f v (i + 1) := by
  funext j
  unfold upd fil
  by_cases h1 : j = i
  · rw [if_pos h1, if_pos (by omega)]
  · rw [if_neg h1]
    by_cases h2 : j < i
    · rw [if_pos h2, if_pos (by omega)]
    · rw [if_neg h2, if_neg (by omega)]
theorem mean_nn {w : Nat → Int32} (h : WF w) {r c : Nat} (hc : c < 4) (hr : r < nr w) (hm : ¬ mean w r c < 0) : ∃ v : Nat, v ≤ cmN c ∧ mean w r c = nI v := by
  rcases mean_ok h hc hr with q | q
  · rw [q] at hm; exact absurd (by decide) hm
  · exact q
theorem mnR_0 {td w : Nat → Int32} {k a : Nat} (h : ∀ u, u < 200 → td u = nI 0) : ∀ u, u < 200 → td u = nI (mnR w k a a u) := fun u hu => by
  unfold mnR; rw [Nat.sub_self]; exact h u hu
theorem mnR_s1 {td w : Nat → Int32} {k a i v : Nat} (h : ∀ u, u < 200 → td u = nI (mnR w k a i u)) (ha : a ≤ i) (ev : mean w i k = nI v) (hv : v < 200) : ∀ u, u < 200 → upd td v (nI (mnR w k a i v + 1)) u = nI (mnR w k a (i + 1) u) := fun u hu => by
  by_cases e : u = v
  · subst e; rw [upd_at]; unfold mnR; rw [ctR_t (p := fun i => mean w i k == nI u) ha (beq_iff_eq.mpr ev)]
  · rw [upd_off e, h u hu]; unfold mnR; rw [ctR_f (p := fun i => mean w i k == nI u) ha (beq_eq_false_iff_ne.mpr (fun q => e ((nI_eq (by omega) (by omega)).mp (q.symm.trans ev))))]
theorem mnR_s0 {td w : Nat → Int32} {k a i : Nat} (h : ∀ u, u < 200 → td u = nI (mnR w k a i u)) (ha : a ≤ i) (hm : mean w i k < 0) : ∀ u, u < 200 → td u = nI (mnR w k a (i + 1) u) := fun u hu => by
  rw [h u hu]; unfold mnR; rw [ctR_f (p := fun i => mean w i k == nI u) ha (beq_eq_false_iff_ne.mpr (fun q => absurd hm (by rw [q]; exact nI_nlt (a := u) (b := 0) (by omega) (by omega))))]
theorem ctR_none {p : Nat → Bool} {a : Nat} : ∀ {n : Nat}, (∀ j, j < n → p (a + j) = false) → ctR p a n = 0
  | 0, _ => rfl
  | n + 1, h => by rw [ctR, ctR_none (fun j hj => h j (by omega)), if_neg (by rw [h n (by omega)]; decide)]
theorem cmP_ext {f : Nat → Nat} {n : Nat} : ∀ m, (∀ v, n ≤ v → v < n + m → f v = 0) → cmP f (n + m) = cmP f n
  | 0, _ => rfl
  | m + 1, h => by
    rw [show n + (m + 1) = (n + m) + 1 by omega, cmP, h (n + m) (by omega) (by omega), if_neg (Nat.not_lt_zero _)]
    exact cmP_ext m (fun v h1 h2 => h v h1 (by omega))
theorem cmI_200 {w : Nat → Int32} (h : WF w) {k a b : Nat} (hk : k < 4) (hb : b ≤ nr w) : cmI w k a b = (cmP (mnR w k a b) 200).1 := by
  have h1 := cmN_le k
  unfold cmI
  rw [show (200 : Nat) = (cmN k + 1) + (199 - cmN k) by omega]
  refine congrArg Prod.fst (cmP_ext _ (fun v h2 h3 => ?_)).symm
  refine ctR_none (fun j hj => beq_eq_false_iff_ne.mpr (fun q => ?_))
  have h48 := h.n48
  rcases mean_ok h hk (r := a + j) (by omega) with e | ⟨u, hu, e⟩
  · rw [e] at q; exact absurd q (fun q => by have := congrArg Int32.toInt q; rw [nI_toInt (by omega)] at this; have h5 : (-5 : Int32).toInt = -5 := rfl; omega)
  · rw [e] at q; have := (nI_eq (by omega) (by omega)).mp q; omega
set_option maxHeartbeats 4000000 in
set_option maxRecDepth 100000 in
theorem c_J7_fill_53178 (l : Launch) (g : XG) (a n : Nat) (f : Nat → Int32) (v : Int32) (hn : n < 2147483648) (hD : va_D (xin [a]) [(a, .inl (g.2.1 0, n, .inl f))]) (hAB : ∀ q, xin [a] q → xB g q) : Met l yJ7_fill_53178 (ww yJ7_fill_53178 cJ7_fill_53178 4 none) (rmD 0) (xP g [.ref a, .int (v)] (fun H => va_P g.1 vwCl [(a, .inl (g.2.1 0, n, .inl f))] H)) (xQv (fun H => va_P g.1 vwCl [(a, .inl (g.2.1 0, n, .inl (fil f v n)))] H) (xin [a])) 0 0 (xin [a]) := by
  refine xMetM (by decide) rfl (Nat.le_of_ble_eq_true rfl) ?_
  intro p e s m below meth c ls H locs hF hZ hh hS hret hlocks hin hl
  have hx := hF.1.1
  have hb := hF.1.2.1
  have hP := hh
  have hP : va_P g.1 vwCl [(a, .inl (g.2.1 0, n, .inl f))] H := hP
  have hl : lv_has ls 4 [(0, .ref a), (1, .int (v))] := hl
  refine xN_const hx hb 0 dJ7_fill_53178_0 (by decide) ?_
  refine lv_istore_n (lv' := [(2, .int (nI 0)), (0, .ref a), (1, .int (v))]) hx hb dJ7_fill_53178_1 rfl hl (by decide) rfl (fun ls hl => ?_)
  refine lv_aload_n hx hb dJ7_fill_53178_2 rfl (lv_at hl 1 rfl) ?_
  refine xA_len hF hP 0 0 rfl rfl dJ7_fill_53178_3 ?_
  refine lv_istore_n (lv' := [(3, .int (nI n)), (2, .int (nI 0)), (0, .ref a), (1, .int (v))]) hx hb dJ7_fill_53178_4 rfl hl (by decide) rfl (fun ls hl => ?_)
  refine xloopM (goal := fun ls H locs => W p l e _ s m _ below meth c H locs _ _ _ (F0 m _ ls [])) (fun (z_ : Nat × (Nat → Int32)) (ls : Array Slot) (H : Heap) (locs : List Loc) => match z_ with | (i, f2) => (i ≤ n) ∧ (f2 = fil f v i) ∧ va_P g.1 vwCl [(a, .inl (g.2.1 0, n, .inl (f2)))] H ∧ va_S (xin [a]) s.heap H locs ∧ lv_has ls 4 [(0, .ref a), (1, .int (v)), (2, .int (nI i)), (3, .int (nI n))]) (fun (z_ : Nat × (Nat → Int32)) => match z_ with | (i, f2) => n - i) ?_ (0, f) ls H locs ⟨Nat.zero_le _, (fil_0 _ _).symm, hP, hS, lv_sub hl [2, 3, 1, 0] rfl⟩
  rintro ⟨i, f2⟩ ls H locs ⟨I1, I2, hP, hS, hl⟩ ih
  dsimp only at ih
  have hD : va_D (xin [a]) [(a, .inl (g.2.1 0, n, .inl (f2)))] := va_D_eqL [a] rfl rfl hD
  refine lv_iload_n hx hb dJ7_fill_53178_5 rfl (lv_at hl 2 rfl) ?_
  refine lv_iload_n hx hb dJ7_fill_53178_6 rfl (lv_at hl 3 rfl) ?_
  refine xC_ge (tgt := 20) hx hb (by omega) (by omega) dJ7_fill_53178_7 (by decide) (fun c_7 => ?_) (fun c_7 => ?_)
  · exact xend_v hF hret hlocks hS (by { have e : i = n := (by omega); rw [e] at I2; rw [← I2]; exact hP }) dJ7_fill_53178_20
  · refine lv_aload_n hx hb dJ7_fill_53178_10 rfl (lv_at hl 0 rfl) ?_
    refine lv_iload_n hx hb dJ7_fill_53178_11 rfl (lv_at hl 2 rfl) ?_
    refine lv_iload_n hx hb dJ7_fill_53178_12 rfl (lv_at hl 1 rfl) ?_
    refine xA_ist hF hP hD hS 0 rfl (by omega) hn dJ7_fill_53178_13 (fun H locs hP hS => ?_)
    have hP : va_P g.1 vwCl [(a, .inl (g.2.1 0, n, .inl (upd (f2) (i) ((v)))))] H := hP
    have hD : va_D (xin [a]) [(a, .inl (g.2.1 0, n, .inl (upd (f2) (i) ((v)))))] := (va_D_eqL [a] rfl rfl hD)
    refine xN_inc (lv' := [(2, .int (nI (i + 1))), (0, .ref a), (1, .int (v)), (3, .int (nI n))]) hx hb 1 dJ7_fill_53178_14 hl (k := 2) rfl (by decide) (by decide) rfl (fun ls hl => ?_)
    refine lv_goto (tgt := 5) hx hb dJ7_fill_53178_17 (by decide) ?_
    exact ih (i + 1, upd f2 i v) ls H locs ⟨by omega, by rw [I2]; exact fil_step, hP, hS, lv_sub hl [1, 2, 0, 3] rfl⟩ (by dsimp only; omega)
set_option maxHeartbeats 4000000 in
set_option maxRecDepth 100000 in
theorem c_X3_mostMeant (l : Launch) (g : XG) (dd bo ho xo ta ao ae ac au : Nat) (zk : Bool) (fe fc fs w td : Nat → Int32) (hW : WF w) (hR : LR fe fc fs w) (hD : va_D (xin [dd, ao, ae, ac, au, ta]) ((dd, .inr (3, [.ref ao, .ref bo, .int (xz zk), .ref ho, .ref xo, .ref ta])) :: (LogC g ao ae ac au fe fc fs w ++ [(ta, .inl (g.2.1 0, 200, .inl td))]))) (hAB : ∀ q, xin [dd, ao, ae, ac, au, ta] q → xB g q) (k a b : Nat) (hk : k < 4) (hab : a ≤ b) (hb9 : b ≤ nr w) : Met l yX3_mostMeant (ww yX3_mostMeant cX3_mostMeant 7 (some .int)) (rmD 5) (xP g [.ref dd, .int (nI k), .int (nI a), .int (nI (b) - nI 1)] (fun H => va_P g.1 vwCl ((dd, .inr (3, [.ref ao, .ref bo, .int (xz zk), .ref ho, .ref xo, .ref ta])) :: (LogC g ao ae ac au fe fc fs w ++ [(ta, .inl (g.2.1 0, 200, .inl td))])) H)) (xQi (fun r9 H => r9 = cmI w k a b ∧ ∃ td2 : Nat → Int32, va_P g.1 vwCl ((dd, .inr (3, [.ref ao, .ref bo, .int (xz zk), .ref ho, .ref xo, .ref ta])) :: (LogC g ao ae ac au fe fc fs w ++ [(ta, .inl (g.2.1 0, 200, .inl td2))])) H) (xin [dd, ao, ae, ac, au, ta])) 0 0 (xin [dd, ao, ae, ac, au, ta]) := by
  refine xMetM (by decide) rfl (Nat.le_of_ble_eq_true rfl) ?_
  intro p e s m below meth c ls H locs hF hZ hh hS hret hlocks hin hl
  have hx := hF.1.1
  have hb := hF.1.2.1
  have hP := hh
  have hP : va_P g.1 vwCl ((dd, .inr (3, [.ref ao, .ref bo, .int (xz zk), .ref ho, .ref xo, .ref ta])) :: (LogC g ao ae ac au fe fc fs w ++ [(ta, .inl (g.2.1 0, 200, .inl td))])) H := hP
  have hl : lv_has ls 7 [(0, .ref dd), (1, .int (nI k)), (2, .int (nI a)), (3, .int (nI (b) - nI 1))] := hl
  have h48 := hW.n48
  have hp4 := hW.pg4
  have hp12 := hW.pg12
  have hs1 := hW.st1
  have hw2 := hW.wr2
  have hw6 := hW.wr6
  have hcm := cmN_le k
  refine lv_aload_n hx hb dX3_mostMeant_0 rfl (lv_at hl 0 rfl) ?_
  refine gf_X3_X3_tally hF hP 0 rfl rfl dX3_mostMeant_1 ?_
  refine xN_const hx hb 0 dX3_mostMeant_4 (by decide) ?_
  refine xcv (xrS hF (c_J7_fill_53178 l g ta 200 td (nI (0)) (by decide) (hD.self2 [5] (by decide) rfl) (xin_AB hAB [5] rfl)) cal_J7_fill_53178 q_478 ⟨by decide, by decide⟩ rfl rfl rfl (hZ.at hS hAB) (hP.sub [5] rfl) hl.1 rfl (Nat.le_of_ble_eq_true rfl) dX3_mostMeant_5 ⟨Nat.le_refl _, Nat.le_refl _⟩) hS (xin_sub [5] rfl) (xin_sub [5] rfl) (fun H locs hq_ hz_ hk_ hS => ?_)
  have hw_ := hq_
  have hP : va_P g.1 vwCl [(dd, .inr (3, [.ref ao, .ref bo, .int (xz (zk)), .ref ho, .ref xo, .ref ta])), (ao, .inr (1, [.ref ae, .ref ac, .ref au, .int (nI (nr w)), .int (nI (pgN w)), .int (nI (stN w)), .int (nI (wrN w))])), (ae, .inl (g.2.1 0, 768, .inl (fe))), (ac, .inl (g.2.1 0, 192, .inl (fc))), (au, .inl (g.2.1 0, 24, .inl (fs))), (ta, .inl (g.2.1 0, 200, .inl (fil td (nI (0)) 200)))] H := xjoin hP hD hw_ hk_ [5] [(false, 0), (false, 1), (false, 2), (false, 3), (false, 4), (true, 0)] rfl rfl rfl
  have hD : va_D (xin [dd, ao, ae, ac, au, ta]) [(dd, .inr (3, [.ref ao, .ref bo, .int (xz (zk)), .ref ho, .ref xo, .ref ta])), (ao, .inr (1, [.ref ae, .ref ac, .ref au, .int (nI (nr w)), .int (nI (pgN w)), .int (nI (stN w)), .int (nI (wrN w))])), (ae, .inl (g.2.1 0, 768, .inl (fe))), (ac, .inl (g.2.1 0, 192, .inl (fc))), (au, .inl (g.2.1 0, 24, .inl (fs))), (ta, .inl (g.2.1 0, 200, .inl (fil td (nI (0)) 200)))] := va_D_eqL [dd, ao, ae, ac, au, ta] rfl rfl hD
  refine lv_iload_n hx hb dX3_mostMeant_8 rfl (lv_at hl 2 rfl) ?_
  refine lv_istore (lv' := [(4, .int (nI a)), (0, .ref dd), (1, .int (nI k)), (2, .int (nI a)), (3, .int (nI (b) - nI 1))]) hx hb dX3_mostMeant_9 hl (by decide) rfl (fun ls hl => ?_)
  refine xloopM (goal := fun ls H locs => W p l e _ s m _ below meth c H locs _ _ _ (F0 m _ ls [])) (fun (z_ : Nat × (Nat → Int32)) (ls : Array Slot) (H : Heap) (locs : List Loc) => match z_ with | (i, td2) => (a ≤ i) ∧ (i ≤ b) ∧ (∀ u, u < 200 → td2 u = nI (mnR w k a i u)) ∧ va_P g.1 vwCl [(dd, .inr (3, [.ref ao, .ref bo, .int (xz (zk)), .ref ho, .ref xo, .ref ta])), (ao, .inr (1, [.ref ae, .ref ac, .ref au, .int (nI (nr w)), .int (nI (pgN w)), .int (nI (stN w)), .int (nI (wrN w))])), (ae, .inl (g.2.1 0, 768, .inl (fe))), (ac, .inl (g.2.1 0, 192, .inl (fc))), (au, .inl (g.2.1 0, 24, .inl (fs))), (ta, .inl (g.2.1 0, 200, .inl (td2)))] H ∧ va_S (xin [dd, ao, ae, ac, au, ta]) s.heap H locs ∧ lv_has ls 7 [(0, .ref dd), (1, .int (nI k)), (2, .int (nI a)), (3, .int (nI (b) - nI 1)), (4, .int (nI i))]) (fun (z_ : Nat × (Nat → Int32)) => match z_ with | (i, td2) => b - i) ?_ (a, fil td (nI 0) 200) ls H locs ⟨Nat.le_refl _, hab, mnR_0 (fun u hu => if_pos hu), hP, hS, lv_sub hl [1, 2, 3, 4, 0] rfl⟩
  rintro ⟨i, td2⟩ ls H locs ⟨I0, I1, I2, hP, hS, hl⟩ ih
  dsimp only at ih
  have hD : va_D (xin [dd, ao, ae, ac, au, ta]) [(dd, .inr (3, [.ref ao, .ref bo, .int (xz (zk)), .ref ho, .ref xo, .ref ta])), (ao, .inr (1, [.ref ae, .ref ac, .ref au, .int (nI (nr w)), .int (nI (pgN w)), .int (nI (stN w)), .int (nI (wrN w))])), (ae, .inl (g.2.1 0, 768, .inl (fe))), (ac, .inl (g.2.1 0, 192, .inl (fc))), (au, .inl (g.2.1 0, 24, .inl (fs))), (ta, .inl (g.2.1 0, 200, .inl (td2)))] := va_D_eqL [dd, ao, ae, ac, au, ta] rfl rfl hD
  refine lv_iload hx hb dX3_mostMeant_11 (lv_at hl 4 rfl) ?_
  refine lv_iload_n hx hb dX3_mostMeant_13 rfl (lv_at hl 3 rfl) ?_
  refine xE_gt (tgt := 61) hx hb (by omega) (by omega) dX3_mostMeant_14 (by decide) (fun c_14 => ?_) (fun c_14 => ?_)
  · have hI : ∀ u, u < 200 → td2 u = nI (mnR w k a b u) := fun u hu => by rw [I2 u hu, show i = b by omega]
    refine lv_bipush hx hb (v := (-5)) dX3_mostMeant_61 (by decide) ?_
    refine lv_istore (lv' := [(4, .int (-5)), (0, .ref dd), (1, .int (nI k)), (2, .int (nI a)), (3, .int (nI (b) - nI 1))]) hx hb dX3_mostMeant_63 hl (by decide) rfl (fun ls hl => ?_)
    refine xN_const hx hb 0 dX3_mostMeant_65 (by decide) ?_
    refine lv_istore (lv' := [(5, .int (nI 0)), (4, .int (-5)), (0, .ref dd), (1, .int (nI k)), (2, .int (nI a)), (3, .int (nI (b) - nI 1))]) hx hb dX3_mostMeant_66 hl (by decide) rfl (fun ls hl => ?_)
    refine xN_const hx hb 0 dX3_mostMeant_68 (by decide) ?_
    refine lv_istore (lv' := [(6, .int (nI 0)), (5, .int (nI 0)), (4, .int (-5)), (0, .ref dd), (1, .int (nI k)), (2, .int (nI a)), (3, .int (nI (b) - nI 1))]) hx hb dX3_mostMeant_69 hl (by decide) rfl (fun ls hl => ?_)
    refine xloopM (goal := fun ls H locs => W p l e _ s m _ below meth c H locs _ _ _ (F0 m _ ls [])) (fun (z_ : Int32 × Nat × Nat) (ls : Array Slot) (H : Heap) (locs : List Loc) => match z_ with | (be, q, v) => (v ≤ 200) ∧ (cmP (mnR w k a b) v = (be, q)) ∧ va_P g.1 vwCl [(dd, .inr (3, [.ref ao, .ref bo, .int (xz (zk)), .ref ho, .ref xo, .ref ta])), (ao, .inr (1, [.ref ae, .ref ac, .ref au, .int (nI (nr w)), .int (nI (pgN w)), .int (nI (stN w)), .int (nI (wrN w))])), (ae, .inl (g.2.1 0, 768, .inl (fe))), (ac, .inl (g.2.1 0, 192, .inl (fc))), (au, .inl (g.2.1 0, 24, .inl (fs))), (ta, .inl (g.2.1 0, 200, .inl (td2)))] H ∧ va_S (xin [dd, ao, ae, ac, au, ta]) s.heap H locs ∧ lv_has ls 7 [(0, .ref dd), (1, .int (nI k)), (2, .int (nI a)), (3, .int (nI (b) - nI 1)), (4, .int (be)), (5, .int (nI q)), (6, .int (nI v))]) (fun (z_ : Int32 × Nat × Nat) => match z_ with | (be, q, v) => 200 - v) ?_ (-5, 0, 0) ls H locs ⟨by omega, rfl, hP, hS, lv_sub hl [3, 4, 5, 6, 2, 1, 0] rfl⟩
    rintro ⟨be, q, v⟩ ls H locs ⟨J1, J2, hP, hS, hl⟩ ih
    dsimp only at ih
    have hD : va_D (xin [dd, ao, ae, ac, au, ta]) [(dd, .inr (3, [.ref ao, .ref bo, .int (xz (zk)), .ref ho, .ref xo, .ref ta])), (ao, .inr (1, [.ref ae, .ref ac, .ref au, .int (nI (nr w)), .int (nI (pgN w)), .int (nI (stN w)), .int (nI (wrN w))])), (ae, .inl (g.2.1 0, 768, .inl (fe))), (ac, .inl (g.2.1 0, 192, .inl (fc))), (au, .inl (g.2.1 0, 24, .inl (fs))), (ta, .inl (g.2.1 0, 200, .inl (td2)))] := va_D_eqL [dd, ao, ae, ac, au, ta] rfl rfl hD
    have hq : q ≤ b - a := by have := cmP_le (mnR w k a b) (b - a) (mnR_le w k a b) v; rw [J2] at this; exact this
    have hn := mnR_le w k a b v
    refine lv_iload hx hb dX3_mostMeant_71 (lv_at hl 6 rfl) ?_
    refine lv_aload_n hx hb dX3_mostMeant_73 rfl (lv_at hl 0 rfl) ?_
    refine gf_X3_X3_tally hF hP 0 rfl rfl dX3_mostMeant_74 ?_
    refine xA_len hF hP 5 0 rfl rfl dX3_mostMeant_77 ?_
    refine xC_ge (tgt := 112) hx hb (by omega) (by omega) dX3_mostMeant_78 (by decide) (fun c_78 => ?_) (fun c_78 => ?_)
    · refine lv_iload hx hb dX3_mostMeant_112 (lv_at hl 4 rfl) ?_
      exact xend_i (V := (be)) hF hret hlocks hS (⟨by rw [cmI_200 hW hk hb9, show (200 : Nat) = v by omega, J2], _, hP⟩) dX3_mostMeant_114
    · refine lv_aload_n hx hb dX3_mostMeant_81 rfl (lv_at hl 0 rfl) ?_
      refine gf_X3_X3_tally hF hP 0 rfl rfl dX3_mostMeant_82 ?_
      refine lv_iload hx hb dX3_mostMeant_85 (lv_at hl 6 rfl) ?_
      refine xA_ild hF hP 5 rfl (by omega) (by decide) (v := nI (mnR w k a b v)) (hI v (by omega)) dX3_mostMeant_87 ?_
      refine lv_iload hx hb dX3_mostMeant_88 (lv_at hl 5 rfl) ?_
      refine xC_le (tgt := 106) hx hb (by omega) (by omega) dX3_mostMeant_90 (by decide) (fun c_90 => ?_) (fun c_90 => ?_)
      · refine xN_inc (lv' := [(6, .int (nI (v + 1))), (0, .ref dd), (1, .int (nI k)), (2, .int (nI a)), (3, .int (nI (b) - nI 1)), (4, .int (be)), (5, .int (nI q))]) hx hb 1 dX3_mostMeant_106 hl (k := 6) rfl (by decide) (by decide) rfl (fun ls hl => ?_)
        refine lv_goto (tgt := 71) hx hb dX3_mostMeant_109 (by decide) ?_
        exact ih (be, q, v + 1) ls H locs ⟨by show v + 1 ≤ 200; omega, by rw [cmP, J2, if_neg (show ¬ q < mnR w k a b v by omega)], hP, hS, lv_sub hl [1, 2, 3, 4, 5, 6, 0] rfl⟩ (by dsimp only; omega)
      · refine lv_aload_n hx hb dX3_mostMeant_93 rfl (lv_at hl 0 rfl) ?_
        refine gf_X3_X3_tally hF hP 0 rfl rfl dX3_mostMeant_94 ?_
        refine lv_iload hx hb dX3_mostMeant_97 (lv_at hl 6 rfl) ?_
        refine xA_ild hF hP 5 rfl (by omega) (by decide) (v := nI (mnR w k a b v)) (hI v (by omega)) dX3_mostMeant_99 ?_
        refine lv_istore (lv' := [(5, .int (nI (mnR w k a b v))), (0, .ref dd), (1, .int (nI k)), (2, .int (nI a)), (3, .int (nI (b) - nI 1)), (4, .int (be)), (6, .int (nI v))]) hx hb dX3_mostMeant_100 hl (by decide) rfl (fun ls hl => ?_)
        refine lv_iload hx hb dX3_mostMeant_102 (lv_at hl 6 rfl) ?_
        refine lv_istore (lv' := [(4, .int (nI v)), (5, .int (nI (mnR w k a b v))), (0, .ref dd), (1, .int (nI k)), (2, .int (nI a)), (3, .int (nI (b) - nI 1)), (6, .int (nI v))]) hx hb dX3_mostMeant_104 hl (by decide) rfl (fun ls hl => ?_)
        refine xN_inc (lv' := [(6, .int (nI (v + 1))), (4, .int (nI v)), (5, .int (nI (mnR w k a b v))), (0, .ref dd), (1, .int (nI k)), (2, .int (nI a)), (3, .int (nI (b) - nI 1))]) hx hb 1 dX3_mostMeant_106 hl (k := 6) rfl (by decide) (by decide) rfl (fun ls hl => ?_)
        refine lv_goto (tgt := 71) hx hb dX3_mostMeant_109 (by decide) ?_
        exact ih (nI (v), mnR w k a b v, v + 1) ls H locs ⟨by show v + 1 ≤ 200; omega, by rw [cmP, J2, if_pos (show q < mnR w k a b v by omega)], hP, hS, lv_sub hl [3, 4, 5, 6, 1, 2, 0] rfl⟩ (by dsimp only; omega)
  · refine lv_aload_n hx hb dX3_mostMeant_17 rfl (lv_at hl 0 rfl) ?_
    refine gf_X3_X3_log hF hP 0 rfl rfl dX3_mostMeant_18 ?_
    refine lv_iload hx hb dX3_mostMeant_21 (lv_at hl 4 rfl) ?_
    refine lv_iload_n hx hb dX3_mostMeant_23 rfl (lv_at hl 1 rfl) ?_
    refine vp_callSi (va_Run.run (xrVN hF (c_X1_meaningOf l g ao ae ac au fe fc fs w hW hR i k (by omega) (by omega)) cal_X1_meaningOf n_33 ⟨by decide, by decide⟩ rfl rfl rfl (va_recv hF.2.1 hP (ci := 1) (q0 := 1) rfl rfl) (hZ.at hS hAB) (hP.sub [1, 2, 3, 4] rfl) hl.1 rfl (Nat.le_of_ble_eq_true rfl) dX3_mostMeant_24 ⟨Nat.le_refl _, Nat.le_refl _⟩)) (fun r_ h_ => ?_)
    subst h_
    refine lv_istore (lv' := [(5, .int (mean w i k)), (0, .ref dd), (1, .int (nI k)), (2, .int (nI a)), (3, .int (nI (b) - nI 1)), (4, .int (nI i))]) hx hb dX3_mostMeant_27 hl (by decide) rfl (fun ls hl => ?_)
    refine lv_iload hx hb dX3_mostMeant_29 (lv_at hl 0 rfl) ?_
    refine lv_if_lt (tgt := 55) hx hb dX3_mostMeant_31 (by decide) (fun c_31 => ?_) (fun c_31 => ?_)
    · refine xN_inc (lv' := [(4, .int (nI (i + 1))), (5, .int (mean w i k)), (0, .ref dd), (1, .int (nI k)), (2, .int (nI a)), (3, .int (nI (b) - nI 1))]) hx hb 1 dX3_mostMeant_55 hl (k := 5) rfl (by decide) (by decide) rfl (fun ls hl => ?_)
      refine lv_goto (tgt := 11) hx hb dX3_mostMeant_58 (by decide) ?_
      exact ih (i + 1, td2) ls H locs ⟨by omega, by omega, mnR_s0 I2 I0 c_31, hP, hS, lv_sub hl [2, 3, 4, 5, 0] rfl⟩ (by dsimp only; omega)
    · obtain ⟨v, hv9, ev⟩ := mean_nn hW hk (by omega) c_31
      have hv200 : v < 200 := by omega
      rw [ev] at hl
      refine lv_iload hx hb dX3_mostMeant_34 (lv_at hl 0 rfl) ?_
      refine lv_aload_n hx hb dX3_mostMeant_36 rfl (lv_at hl 1 rfl) ?_
      refine gf_X3_X3_tally hF hP 0 rfl rfl dX3_mostMeant_37 ?_
      refine xA_len hF hP 5 0 rfl rfl dX3_mostMeant_40 ?_
      refine xC_ge (tgt := 55) hx hb (by omega) (by omega) dX3_mostMeant_41 (by decide) (fun c_41 => absurd c_41 (by omega)) (fun c_41 => ?_)
      refine lv_aload_n hx hb dX3_mostMeant_44 rfl (lv_at hl 1 rfl) ?_
      refine gf_X3_X3_tally hF hP 0 rfl rfl dX3_mostMeant_45 ?_
      refine lv_iload hx hb dX3_mostMeant_48 (lv_at hl 0 rfl) ?_
      refine lv_dup2_11 hx hb dX3_mostMeant_50 rfl rfl ?_
      refine xA_ild hF hP 5 rfl (by omega) (by decide) (v := nI (mnR w k a i v)) (I2 v hv200) dX3_mostMeant_51 ?_
      refine xN_const hx hb 1 dX3_mostMeant_52 (by decide) ?_
      refine xN_add hx hb dX3_mostMeant_53 ?_
      refine xA_ist hF hP hD hS 5 rfl (by omega) (by decide) dX3_mostMeant_54 (fun H locs hP hS => ?_)
      have hP : va_P g.1 vwCl [(dd, .inr (3, [.ref ao, .ref bo, .int (xz (zk)), .ref ho, .ref xo, .ref ta])), (ao, .inr (1, [.ref ae, .ref ac, .ref au, .int (nI (nr w)), .int (nI (pgN w)), .int (nI (stN w)), .int (nI (wrN w))])), (ae, .inl (g.2.1 0, 768, .inl (fe))), (ac, .inl (g.2.1 0, 192, .inl (fc))), (au, .inl (g.2.1 0, 24, .inl (fs))), (ta, .inl (g.2.1 0, 200, .inl (upd (td2) (v) (nI (mnR w k a i v + 1)))))] H := hP
      have hD : va_D (xin [dd, ao, ae, ac, au, ta]) [(dd, .inr (3, [.ref ao, .ref bo, .int (xz (zk)), .ref ho, .ref xo, .ref ta])), (ao, .inr (1, [.ref ae, .ref ac, .ref au, .int (nI (nr w)), .int (nI (pgN w)), .int (nI (stN w)), .int (nI (wrN w))])), (ae, .inl (g.2.1 0, 768, .inl (fe))), (ac, .inl (g.2.1 0, 192, .inl (fc))), (au, .inl (g.2.1 0, 24, .inl (fs))), (ta, .inl (g.2.1 0, 200, .inl (upd (td2) (v) (nI (mnR w k a i v + 1)))))] := (va_D_eqL [dd, ao, ae, ac, au, ta] rfl rfl hD)
      refine xN_inc (lv' := [(4, .int (nI (i + 1))), (5, .int (nI v)), (0, .ref dd), (1, .int (nI k)), (2, .int (nI a)), (3, .int (nI (b) - nI 1))]) hx hb 1 dX3_mostMeant_55 hl (k := 5) rfl (by decide) (by decide) rfl (fun ls hl => ?_)
      refine lv_goto (tgt := 11) hx hb dX3_mostMeant_58 (by decide) ?_
      exact ih (i + 1, upd td2 v (nI (mnR w k a i v + 1))) ls H locs ⟨by omega, by omega, mnR_s1 I2 I0 ev hv200, hP, hS, lv_sub hl [2, 3, 4, 5, 0] rfl⟩ (by dsimp only; omega)
set_option maxHeartbeats 4000000 in
set_option maxRecDepth 100000 in
theorem c_X3_column (l : Launch) (g : XG) (dd bo ho xo ta ao ae ac au : Nat) (zk : Bool) (fe fc fs w td : Nat → Int32) (hW : WF w) (hR : LR fe fc fs w) (hD : va_D (xin [dd, ao, ae, ac, au, ta]) ((dd, .inr (3, [.ref ao, .ref bo, .int (xz zk), .ref ho, .ref xo, .ref ta])) :: (LogC g ao ae ac au fe fc fs w ++ [(ta, .inl (g.2.1 0, 200, .inl td))]))) (hAB : ∀ q, xin [dd, ao, ae, ac, au, ta] q → xB g q) (x z : Int32) : Met l yX3_column (ww yX3_column cX3_column 4 (some .int)) (rmD 6) (xP g [.ref dd, .int (x), .int (z)] (fun H => va_P g.1 vwCl ((dd, .inr (3, [.ref ao, .ref bo, .int (xz zk), .ref ho, .ref xo, .ref ta])) :: (LogC g ao ae ac au fe fc fs w ++ [(ta, .inl (g.2.1 0, 200, .inl td))])) H)) (xQi (fun r9 H => r9 = columnA w x z ∧ ∃ td2 : Nat → Int32, va_P g.1 vwCl ((dd, .inr (3, [.ref ao, .ref bo, .int (xz zk), .ref ho, .ref xo, .ref ta])) :: (LogC g ao ae ac au fe fc fs w ++ [(ta, .inl (g.2.1 0, 200, .inl td2))])) H) (xin [dd, ao, ae, ac, au, ta])) 0 0 (xin [dd, ao, ae, ac, au, ta]) := by
  refine xMetM (by decide) rfl (Nat.le_of_ble_eq_true rfl) ?_
  intro p e s m below meth c ls H locs hF hZ hh hS hret hlocks hin hl
  have hx := hF.1.1
  have hb := hF.1.2.1
  have hP := hh
  have hP : va_P g.1 vwCl ((dd, .inr (3, [.ref ao, .ref bo, .int (xz zk), .ref ho, .ref xo, .ref ta])) :: (LogC g ao ae ac au fe fc fs w ++ [(ta, .inl (g.2.1 0, 200, .inl td))])) H := hP
  have hl : lv_has ls 4 [(0, .ref dd), (1, .int (x)), (2, .int (z))] := hl
  have h48 := hW.n48
  have hp4 := hW.pg4
  have hp12 := hW.pg12
  have hs1 := hW.st1
  have hw2 := hW.wr2
  have hw6 := hW.wr6
  refine lv_iload_n hx hb dX3_column_0 rfl (lv_at hl 1 rfl) ?_
  refine vp_callSi (va_Run.run (xrS hF (c_X3_isColumn l g ((x))) cal_X3_isColumn q_457 ⟨by decide, by decide⟩ rfl rfl rfl (hZ.at hS hAB) (trivial) hl.1 rfl (Nat.le_of_ble_eq_true rfl) dX3_column_1 ⟨Nat.le_refl _, Nat.le_refl _⟩)) (fun r_ h_ => ?_)
  subst h_
  refine xZ_ne (tgt := 9) hx hb dX3_column_4 (by decide) (fun c_4 => ?_) (fun c_4 => ?_)
  · obtain ⟨k, hk, rfl⟩ := colB_iff.mp c_4
    have ek : (nI k).toNatClampNeg = k := nI_clamp (by omega)
    refine lv_aload_n hx hb dX3_column_9 rfl (lv_at hl 0 rfl) ?_
    refine gf_X3_X3_log hF hP 0 rfl rfl dX3_column_10 ?_
    refine gf_X3_X1_rows hF hP 1 rfl rfl dX3_column_13 ?_
    refine xN_const hx hb 1 dX3_column_16 (by decide) ?_
    refine lv_isub hx hb dX3_column_17 ?_
    refine lv_istore_n (lv' := [(3, .int (nI (nr w) - nI 1)), (0, .ref dd), (1, .int (nI k)), (2, .int (z))]) hx hb dX3_column_18 rfl hl (by decide) rfl (fun ls hl => ?_)
    refine lv_iload_n hx hb dX3_column_19 rfl (lv_at hl 3 rfl) ?_
    by_cases w_20_0 : (z) = 0
    · refine lv_tableIn (off := 44) (tgt := 64) hx hb dX3_column_20 (by rw [w_20_0]; decide) (by rw [w_20_0]; decide) (by rw [w_20_0]; rfl) (by decide) ?_
      refine lv_aload_n hx hb dX3_column_64 rfl (lv_at hl 1 rfl) ?_
      refine gf_X3_X3_log hF hP 0 rfl rfl dX3_column_65 ?_
      refine lv_iload_n hx hb dX3_column_68 rfl (lv_at hl 2 rfl) ?_
      refine lv_bipush hx hb (v := (-6)) dX3_column_69 (by decide) ?_
      refine vp_callSi (va_Run.run (xrVN hF (c_X1_countLatest l g ao ae ac au fe fc fs w hW hR k (by omega) ((-6))) cal_X1_countLatest n_40 ⟨by decide, by decide⟩ rfl rfl rfl (va_recv hF.2.1 hP (ci := 1) (q0 := 1) rfl rfl) (hZ.at hS hAB) (hP.sub [1, 2, 3, 4] rfl) hl.1 rfl (Nat.le_of_ble_eq_true rfl) dX3_column_71 ⟨Nat.le_refl _, Nat.le_refl _⟩)) (fun r_ h_ => ?_)
      subst h_
      exact xend_i (V := nI (ctR (fun i9 => lat w i9 k == ((-6))) 0 (nr w))) hF hret hlocks hS (⟨by unfold columnA; rw [if_pos c_4, if_pos w_20_0, ek], _, hP⟩) dX3_column_74
    by_cases w_20_1 : (z) = 1
    · refine lv_tableIn (off := 55) (tgt := 75) hx hb dX3_column_20 (by rw [w_20_1]; decide) (by rw [w_20_1]; decide) (by rw [w_20_1]; rfl) (by decide) ?_
      refine lv_aload_n hx hb dX3_column_75 rfl (lv_at hl 1 rfl) ?_
      refine gf_X3_X3_log hF hP 0 rfl rfl dX3_column_76 ?_
      refine lv_iload_n hx hb dX3_column_79 rfl (lv_at hl 2 rfl) ?_
      refine lv_bipush hx hb (v := (-5)) dX3_column_80 (by decide) ?_
      refine vp_callSi (va_Run.run (xrVN hF (c_X1_countLatest l g ao ae ac au fe fc fs w hW hR k (by omega) ((-5))) cal_X1_countLatest n_40 ⟨by decide, by decide⟩ rfl rfl rfl (va_recv hF.2.1 hP (ci := 1) (q0 := 1) rfl rfl) (hZ.at hS hAB) (hP.sub [1, 2, 3, 4] rfl) hl.1 rfl (Nat.le_of_ble_eq_true rfl) dX3_column_82 ⟨Nat.le_refl _, Nat.le_refl _⟩)) (fun r_ h_ => ?_)
      subst h_
      exact xend_i (V := nI (ctR (fun i9 => lat w i9 k == ((-5))) 0 (nr w))) hF hret hlocks hS (⟨by unfold columnA; rw [if_pos c_4, if_neg w_20_0, if_pos w_20_1, ek], _, hP⟩) dX3_column_85
    by_cases w_20_2 : (z) = 2
    · refine lv_tableIn (off := 66) (tgt := 86) hx hb dX3_column_20 (by rw [w_20_2]; decide) (by rw [w_20_2]; decide) (by rw [w_20_2]; rfl) (by decide) ?_
      refine lv_aload_n hx hb dX3_column_86 rfl (lv_at hl 1 rfl) ?_
      refine gf_X3_X3_log hF hP 0 rfl rfl dX3_column_87 ?_
      refine lv_iload_n hx hb dX3_column_90 rfl (lv_at hl 2 rfl) ?_
      refine vp_callSi (va_Run.run (xrVN hF (c_X1_countCorrections l g ao ae ac au fe fc fs w hW hR k (by omega)) cal_X1_countCorrections n_41 ⟨by decide, by decide⟩ rfl rfl rfl (va_recv hF.2.1 hP (ci := 1) (q0 := 1) rfl rfl) (hZ.at hS hAB) (hP.sub [1, 2, 3, 4] rfl) hl.1 rfl (Nat.le_of_ble_eq_true rfl) dX3_column_91 ⟨Nat.le_refl _, Nat.le_refl _⟩)) (fun r_ h_ => ?_)
      subst h_
      exact xend_i (V := nI (smR (fun i9 => cnt w (4 * i9 + k) - 1) 0 (nr w))) hF hret hlocks hS (⟨by unfold columnA; rw [if_pos c_4, if_neg w_20_0, if_neg w_20_1, if_pos w_20_2, ek], _, hP⟩) dX3_column_94
    by_cases w_20_3 : (z) = 3
    · refine lv_tableIn (off := 75) (tgt := 95) hx hb dX3_column_20 (by rw [w_20_3]; decide) (by rw [w_20_3]; decide) (by rw [w_20_3]; rfl) (by decide) ?_
      refine lv_aload_n hx hb dX3_column_95 rfl (lv_at hl 1 rfl) ?_
      refine gf_X3_X3_log hF hP 0 rfl rfl dX3_column_96 ?_
      refine lv_iload_n hx hb dX3_column_99 rfl (lv_at hl 2 rfl) ?_
      refine xN_const hx hb 0 dX3_column_100 (by decide) ?_
      refine lv_iload_n hx hb dX3_column_101 rfl (lv_at hl 0 rfl) ?_
      refine vp_callSi (va_Run.run (xrVN hF (c_X1_countMeaningless l g ao ae ac au fe fc fs w hW hR k (by omega) 0 (nr w) (by omega) (by omega)) cal_X1_countMeaningless n_42 ⟨by decide, by decide⟩ rfl rfl rfl (va_recv hF.2.1 hP (ci := 1) (q0 := 1) rfl rfl) (hZ.at hS hAB) (hP.sub [1, 2, 3, 4] rfl) hl.1 rfl (Nat.le_of_ble_eq_true rfl) dX3_column_102 ⟨Nat.le_refl _, Nat.le_refl _⟩)) (fun r_ h_ => ?_)
      subst h_
      exact xend_i (V := nI (ctR (fun i9 => mean w i9 k == -5) 0 ((nr w) - 0))) hF hret hlocks hS (⟨by unfold columnA; rw [if_pos c_4, if_neg w_20_0, if_neg w_20_1, if_neg w_20_2, if_pos w_20_3, ek], _, hP⟩) dX3_column_105
    by_cases w_20_4 : (z) = 4
    · refine lv_tableIn (off := 86) (tgt := 106) hx hb dX3_column_20 (by rw [w_20_4]; decide) (by rw [w_20_4]; decide) (by rw [w_20_4]; rfl) (by decide) ?_
      refine lv_aload_n hx hb dX3_column_106 rfl (lv_at hl 1 rfl) ?_
      refine gf_X3_X3_log hF hP 0 rfl rfl dX3_column_107 ?_
      refine lv_iload_n hx hb dX3_column_110 rfl (lv_at hl 2 rfl) ?_
      refine vp_callSi (va_Run.run (xrVN hF (c_X1_longestChain l g ao ae ac au fe fc fs w hW hR k (by omega)) cal_X1_longestChain n_43 ⟨by decide, by decide⟩ rfl rfl rfl (va_recv hF.2.1 hP (ci := 1) (q0 := 1) rfl rfl) (hZ.at hS hAB) (hP.sub [1, 2, 3, 4] rfl) hl.1 rfl (Nat.le_of_ble_eq_true rfl) dX3_column_111 ⟨Nat.le_refl _, Nat.le_refl _⟩)) (fun r_ h_ => ?_)
      subst h_
      exact xend_i (V := nI (mxR (fun i9 => i9 - top w k i9 + 1) (nr w))) hF hret hlocks hS (⟨by unfold columnA; rw [if_pos c_4, if_neg w_20_0, if_neg w_20_1, if_neg w_20_2, if_neg w_20_3, if_pos w_20_4, ek], _, hP⟩) dX3_column_114
    by_cases w_20_5 : (z) = 5
    · refine lv_tableIn (off := 95) (tgt := 115) hx hb dX3_column_20 (by rw [w_20_5]; decide) (by rw [w_20_5]; decide) (by rw [w_20_5]; rfl) (by decide) ?_
      refine lv_aload_n hx hb dX3_column_115 rfl (lv_at hl 1 rfl) ?_
      refine lv_iload_n hx hb dX3_column_116 rfl (lv_at hl 2 rfl) ?_
      refine xN_const hx hb 0 dX3_column_117 (by decide) ?_
      refine lv_iload_n hx hb dX3_column_118 rfl (lv_at hl 0 rfl) ?_
      refine xci (xrV hF (c_X3_mostMeant l g dd bo ho xo ta ao ae ac au zk fe fc fs w td hW hR hD hAB k 0 (nr w) (by omega) (by omega) (by omega)) cal_X3_mostMeant q_474 ⟨by decide, by decide⟩ rfl rfl rfl (va_recv hF.2.1 hP (ci := 3) (q0 := 0) rfl rfl) (hZ.at hS hAB) (hP) hl.1 rfl (Nat.le_of_ble_eq_true rfl) dX3_column_119 ⟨Nat.le_refl _, Nat.le_refl _⟩) hS (xin_sub [0, 1, 2, 3, 4, 5] rfl) (xin_sub [0, 1, 2, 3, 4, 5] rfl) (fun r_ H locs hq_ hz_ hk_ hS => ?_)
      obtain ⟨rfl, td2, hw_⟩ := hq_
      have hP : va_P g.1 vwCl [(dd, .inr (3, [.ref ao, .ref bo, .int (xz (zk)), .ref ho, .ref xo, .ref ta])), (ao, .inr (1, [.ref ae, .ref ac, .ref au, .int (nI (nr w)), .int (nI (pgN w)), .int (nI (stN w)), .int (nI (wrN w))])), (ae, .inl (g.2.1 0, 768, .inl (fe))), (ac, .inl (g.2.1 0, 192, .inl (fc))), (au, .inl (g.2.1 0, 24, .inl (fs))), (ta, .inl (g.2.1 0, 200, .inl (td2)))] H := xjoin hP hD hw_ hk_ [0, 1, 2, 3, 4, 5] [(true, 0), (true, 1), (true, 2), (true, 3), (true, 4), (true, 5)] rfl rfl rfl
      have hD : va_D (xin [dd, ao, ae, ac, au, ta]) [(dd, .inr (3, [.ref ao, .ref bo, .int (xz (zk)), .ref ho, .ref xo, .ref ta])), (ao, .inr (1, [.ref ae, .ref ac, .ref au, .int (nI (nr w)), .int (nI (pgN w)), .int (nI (stN w)), .int (nI (wrN w))])), (ae, .inl (g.2.1 0, 768, .inl (fe))), (ac, .inl (g.2.1 0, 192, .inl (fc))), (au, .inl (g.2.1 0, 24, .inl (fs))), (ta, .inl (g.2.1 0, 200, .inl (td2)))] := va_D_eqL [dd, ao, ae, ac, au, ta] rfl rfl hD
      exact xend_i (V := (cmI w k 0 (nr w))) hF hret hlocks hS (⟨by unfold columnA; rw [if_pos c_4, if_neg w_20_0, if_neg w_20_1, if_neg w_20_2, if_neg w_20_3, if_neg w_20_4, if_pos w_20_5, ek], _, hP⟩) dX3_column_122
    by_cases w_20_6 : (z) = 6
    · refine lv_tableIn (off := 103) (tgt := 123) hx hb dX3_column_20 (by rw [w_20_6]; decide) (by rw [w_20_6]; decide) (by rw [w_20_6]; rfl) (by decide) ?_
      refine lv_aload_n hx hb dX3_column_123 rfl (lv_at hl 1 rfl) ?_
      refine gf_X3_X3_log hF hP 0 rfl rfl dX3_column_124 ?_
      refine lv_iload_n hx hb dX3_column_127 rfl (lv_at hl 2 rfl) ?_
      refine xN_const hx hb 0 dX3_column_128 (by decide) ?_
      refine lv_iload_n hx hb dX3_column_129 rfl (lv_at hl 0 rfl) ?_
      refine vp_callSi (va_Run.run (xrVN hF (c_X1_countDoubtful l g ao ae ac au fe fc fs w hW hR k (by omega) 0 (nr w) (by omega) (by omega)) cal_X1_countDoubtful n_44 ⟨by decide, by decide⟩ rfl rfl rfl (va_recv hF.2.1 hP (ci := 1) (q0 := 1) rfl rfl) (hZ.at hS hAB) (hP.sub [1, 2, 3, 4] rfl) hl.1 rfl (Nat.le_of_ble_eq_true rfl) dX3_column_130 ⟨Nat.le_refl _, Nat.le_refl _⟩)) (fun r_ h_ => ?_)
      subst h_
      exact xend_i (V := nI (ctR (fun i9 => dbt w i9 k) 0 ((nr w) - 0))) hF hret hlocks hS (⟨by unfold columnA; rw [if_pos c_4, if_neg w_20_0, if_neg w_20_1, if_neg w_20_2, if_neg w_20_3, if_neg w_20_4, if_neg w_20_5, if_pos w_20_6, ek], _, hP⟩) dX3_column_133
    refine lv_tableOut (tgt := 134) hx hb dX3_column_20 (by have a0 := lv_neT w_20_0 (a := 0) (by decide); have a1 := lv_neT w_20_1 (a := 1) (by decide); have a2 := lv_neT w_20_2 (a := 2) (by decide); have a3 := lv_neT w_20_3 (a := 3) (by decide); have a4 := lv_neT w_20_4 (a := 4) (by decide); have a5 := lv_neT w_20_5 (a := 5) (by decide); have a6 := lv_neT w_20_6 (a := 6) (by decide); omega) (by decide) ?_
    refine lv_bipush hx hb (v := (-2)) dX3_column_134 (by decide) ?_
    exact xend_i (V := (-2)) hF hret hlocks hS (⟨by unfold columnA; rw [if_pos c_4, if_neg w_20_0, if_neg w_20_1, if_neg w_20_2, if_neg w_20_3, if_neg w_20_4, if_neg w_20_5, if_neg w_20_6], _, hP⟩) dX3_column_136
  · refine lv_iconst hx hb (v := (-1)) dX3_column_7 (by decide) ?_
    exact xend_i (V := (-1)) hF hret hlocks hS (⟨by unfold columnA; rw [c_4]; rfl, _, hP⟩) dX3_column_8
set_option maxHeartbeats 4000000 in
set_option maxRecDepth 100000 in
theorem c_X3_watch (l : Launch) (g : XG) (dd bo ho xo ta ao ae ac au : Nat) (zk : Bool) (fe fc fs w td : Nat → Int32) (hW : WF w) (hR : LR fe fc fs w) (hD : va_D (xin [dd, ao, ae, ac, au, ta]) ((dd, .inr (3, [.ref ao, .ref bo, .int (xz zk), .ref ho, .ref xo, .ref ta])) :: (LogC g ao ae ac au fe fc fs w ++ [(ta, .inl (g.2.1 0, 200, .inl td))]))) (hAB : ∀ q, xin [dd, ao, ae, ac, au, ta] q → xB g q) (x z : Int32) : Met l yX3_watch (ww yX3_watch cX3_watch 5 (some .int)) (rmD 6) (xP g [.ref dd, .int (x), .int (z)] (fun H => va_P g.1 vwCl ((dd, .inr (3, [.ref ao, .ref bo, .int (xz zk), .ref ho, .ref xo, .ref ta])) :: (LogC g ao ae ac au fe fc fs w ++ [(ta, .inl (g.2.1 0, 200, .inl td))])) H)) (xQi (fun r9 H => r9 = watchA w x z ∧ ∃ td2 : Nat → Int32, va_P g.1 vwCl ((dd, .inr (3, [.ref ao, .ref bo, .int (xz zk), .ref ho, .ref xo, .ref ta])) :: (LogC g ao ae ac au fe fc fs w ++ [(ta, .inl (g.2.1 0, 200, .inl td2))])) H) (xin [dd, ao, ae, ac, au, ta])) 0 0 (xin [dd, ao, ae, ac, au, ta]) := by
  refine xMetM (by decide) rfl (Nat.le_of_ble_eq_true rfl) ?_
  intro p e s m below meth c ls H locs hF hZ hh hS hret hlocks hin hl
  have hx := hF.1.1
  have hb := hF.1.2.1
  have hP := hh
  have hP : va_P g.1 vwCl ((dd, .inr (3, [.ref ao, .ref bo, .int (xz zk), .ref ho, .ref xo, .ref ta])) :: (LogC g ao ae ac au fe fc fs w ++ [(ta, .inl (g.2.1 0, 200, .inl td))])) H := hP
  have hl : lv_has ls 5 [(0, .ref dd), (1, .int (x)), (2, .int (z))] := hl
  have h48 := hW.n48
  have hp4 := hW.pg4
  have hp12 := hW.pg12
  have hs1 := hW.st1
  have hw2 := hW.wr2
  have hw6 := hW.wr6
  have hwc := wcs_le hW
  refine lv_iload_n hx hb dX3_watch_0 rfl (lv_at hl 1 rfl) ?_
  refine lv_if_lt (tgt := 15) hx hb dX3_watch_1 (by decide) (fun c_1 => ?_) (fun c_1 => ?_)
  · refine lv_iconst hx hb (v := (-1)) dX3_watch_15 (by decide) ?_
    exact xend_i (V := (-1)) hF hret hlocks hS (⟨by unfold watchA; rw [watB_f1 c_1]; rfl, _, hP⟩) dX3_watch_16
  · refine lv_iload_n hx hb dX3_watch_4 rfl (lv_at hl 1 rfl) ?_
    refine lv_aload_n hx hb dX3_watch_5 rfl (lv_at hl 0 rfl) ?_
    refine gf_X3_X3_log hF hP 0 rfl rfl dX3_watch_6 ?_
    refine vp_callSi (va_Run.run (xrVN hF (c_X1_watches l g ao ae ac au fe fc fs w hW hR  ) cal_X1_watches n_45 ⟨by decide, by decide⟩ rfl rfl rfl (va_recv hF.2.1 hP (ci := 1) (q0 := 1) rfl rfl) (hZ.at hS hAB) (hP.sub [1, 2, 3, 4] rfl) hl.1 rfl (Nat.le_of_ble_eq_true rfl) dX3_watch_9 ⟨Nat.le_refl _, Nat.le_refl _⟩)) (fun r_ h_ => ?_)
    subst h_
    refine lv_icmp_lt (tgt := 17) hx hb dX3_watch_12 (by decide) (fun c_12 => ?_) (fun c_12 => ?_)
    · have c_w : watB w x = true := watB_t c_1 (Int32.not_le.mpr c_12)
      obtain ⟨t, ht, rfl⟩ := (watB_iff hW).mp c_w
      have et : (nI t).toNatClampNeg = t := nI_clamp (by omega)
      have hl1 := lstN_le w t
      have hl2 := lstN_ge hW ht
      have htw : t * wrN w ≤ 24 * 6 := Nat.mul_le_mul (by omega) (by omega)
      refine lv_aload_n hx hb dX3_watch_17 rfl (lv_at hl 0 rfl) ?_
      refine gf_X3_X3_log hF hP 0 rfl rfl dX3_watch_18 ?_
      refine lv_iload_n hx hb dX3_watch_21 rfl (lv_at hl 1 rfl) ?_
      refine vp_callSi (va_Run.run (xrVN hF (c_X1_firstRowOf l g ao ae ac au fe fc fs w hW hR t ) cal_X1_firstRowOf n_46 ⟨by decide, by decide⟩ rfl rfl rfl (va_recv hF.2.1 hP (ci := 1) (q0 := 1) rfl rfl) (hZ.at hS hAB) (hP.sub [1, 2, 3, 4] rfl) hl.1 rfl (Nat.le_of_ble_eq_true rfl) dX3_watch_22 ⟨Nat.le_refl _, Nat.le_refl _⟩)) (fun r_ h_ => ?_)
      subst h_
      refine lv_istore_n (lv' := [(3, .int (nI (t * wrN w))), (0, .ref dd), (1, .int (nI t)), (2, .int (z))]) hx hb dX3_watch_25 rfl hl (by decide) rfl (fun ls hl => ?_)
      refine lv_aload_n hx hb dX3_watch_26 rfl (lv_at hl 1 rfl) ?_
      refine gf_X3_X3_log hF hP 0 rfl rfl dX3_watch_27 ?_
      refine lv_iload_n hx hb dX3_watch_30 rfl (lv_at hl 2 rfl) ?_
      refine vp_callSi (va_Run.run (xrVN hF (c_X1_lastRowOf l g ao ae ac au fe fc fs w hW hR t (by omega)) cal_X1_lastRowOf n_47 ⟨by decide, by decide⟩ rfl rfl rfl (va_recv hF.2.1 hP (ci := 1) (q0 := 1) rfl rfl) (hZ.at hS hAB) (hP.sub [1, 2, 3, 4] rfl) hl.1 rfl (Nat.le_of_ble_eq_true rfl) dX3_watch_31 ⟨Nat.le_refl _, Nat.le_refl _⟩)) (fun r_ h_ => ?_)
      subst h_
      refine lv_istore (lv' := [(4, .int (nI (lstN w t) - nI 1)), (3, .int (nI (t * wrN w))), (0, .ref dd), (1, .int (nI t)), (2, .int (z))]) hx hb dX3_watch_34 hl (by decide) rfl (fun ls hl => ?_)
      refine lv_iload_n hx hb dX3_watch_36 rfl (lv_at hl 4 rfl) ?_
      by_cases w_37_0 : (z) = 0
      · refine lv_tableIn (off := 43) (tgt := 80) hx hb dX3_watch_37 (by rw [w_37_0]; decide) (by rw [w_37_0]; decide) (by rw [w_37_0]; rfl) (by decide) ?_
        refine lv_iload hx hb dX3_watch_80 (lv_at hl 0 rfl) ?_
        refine lv_iload_n hx hb dX3_watch_82 rfl (lv_at hl 1 rfl) ?_
        refine lv_isub hx hb dX3_watch_83 ?_
        refine xN_const hx hb 1 dX3_watch_84 (by decide) ?_
        refine lv_iadd hx hb dX3_watch_85 ?_
        rw [show (((nI (lstN w t) - nI 1 - nI (t * wrN w)) + nI (1)) : Int32) = nI (lstN w t - t * wrN w) from xlast0 hl2]
        exact xend_i (V := nI (lstN w t - t * wrN w)) hF hret hlocks hS (⟨by unfold watchA; rw [if_pos c_w, if_pos w_37_0, et], _, hP⟩) dX3_watch_86
      by_cases w_37_1 : (z) = 1
      · refine lv_tableIn (off := 50) (tgt := 87) hx hb dX3_watch_37 (by rw [w_37_1]; decide) (by rw [w_37_1]; decide) (by rw [w_37_1]; rfl) (by decide) ?_
        refine lv_aload_n hx hb dX3_watch_87 rfl (lv_at hl 2 rfl) ?_
        refine gf_X3_X3_log hF hP 0 rfl rfl dX3_watch_88 ?_
        refine lv_iload_n hx hb dX3_watch_91 rfl (lv_at hl 1 rfl) ?_
        refine lv_iload hx hb dX3_watch_92 (lv_at hl 0 rfl) ?_
        refine vp_callSi (va_Run.run (xrVN hF (c_X1_runOf l g ao ae ac au fe fc fs w hW hR (t * wrN w) (lstN w t) (by omega) (by omega)) cal_X1_runOf n_48 ⟨by decide, by decide⟩ rfl rfl rfl (va_recv hF.2.1 hP (ci := 1) (q0 := 1) rfl rfl) (hZ.at hS hAB) (hP.sub [1, 2, 3, 4] rfl) hl.1 rfl (Nat.le_of_ble_eq_true rfl) dX3_watch_94 ⟨Nat.le_refl _, Nat.le_refl _⟩)) (fun r_ h_ => ?_)
        subst h_
        exact xend_i (V := nI (runN w (t * wrN w) (lstN w t))) hF hret hlocks hS (⟨by unfold watchA; rw [if_pos c_w, if_neg w_37_0, if_pos w_37_1, et], _, hP⟩) dX3_watch_97
      by_cases w_37_2 : (z) = 2
      · refine lv_tableIn (off := 61) (tgt := 98) hx hb dX3_watch_37 (by rw [w_37_2]; decide) (by rw [w_37_2]; decide) (by rw [w_37_2]; rfl) (by decide) ?_
        refine lv_aload_n hx hb dX3_watch_98 rfl (lv_at hl 2 rfl) ?_
        refine xN_const hx hb 3 dX3_watch_99 (by decide) ?_
        refine lv_iload_n hx hb dX3_watch_100 rfl (lv_at hl 1 rfl) ?_
        refine lv_iload hx hb dX3_watch_101 (lv_at hl 0 rfl) ?_
        refine xci (xrV hF (c_X3_mostMeant l g dd bo ho xo ta ao ae ac au zk fe fc fs w td hW hR hD hAB 3 (t * wrN w) (lstN w t) (by omega) (by omega) (by omega)) cal_X3_mostMeant q_474 ⟨by decide, by decide⟩ rfl rfl rfl (va_recv hF.2.1 hP (ci := 3) (q0 := 0) rfl rfl) (hZ.at hS hAB) (hP) hl.1 rfl (Nat.le_of_ble_eq_true rfl) dX3_watch_103 ⟨Nat.le_refl _, Nat.le_refl _⟩) hS (xin_sub [0, 1, 2, 3, 4, 5] rfl) (xin_sub [0, 1, 2, 3, 4, 5] rfl) (fun r_ H locs hq_ hz_ hk_ hS => ?_)
        obtain ⟨rfl, td2, hw_⟩ := hq_
        have hP : va_P g.1 vwCl [(dd, .inr (3, [.ref ao, .ref bo, .int (xz (zk)), .ref ho, .ref xo, .ref ta])), (ao, .inr (1, [.ref ae, .ref ac, .ref au, .int (nI (nr w)), .int (nI (pgN w)), .int (nI (stN w)), .int (nI (wrN w))])), (ae, .inl (g.2.1 0, 768, .inl (fe))), (ac, .inl (g.2.1 0, 192, .inl (fc))), (au, .inl (g.2.1 0, 24, .inl (fs))), (ta, .inl (g.2.1 0, 200, .inl (td2)))] H := xjoin hP hD hw_ hk_ [0, 1, 2, 3, 4, 5] [(true, 0), (true, 1), (true, 2), (true, 3), (true, 4), (true, 5)] rfl rfl rfl
        have hD : va_D (xin [dd, ao, ae, ac, au, ta]) [(dd, .inr (3, [.ref ao, .ref bo, .int (xz (zk)), .ref ho, .ref xo, .ref ta])), (ao, .inr (1, [.ref ae, .ref ac, .ref au, .int (nI (nr w)), .int (nI (pgN w)), .int (nI (stN w)), .int (nI (wrN w))])), (ae, .inl (g.2.1 0, 768, .inl (fe))), (ac, .inl (g.2.1 0, 192, .inl (fc))), (au, .inl (g.2.1 0, 24, .inl (fs))), (ta, .inl (g.2.1 0, 200, .inl (td2)))] := va_D_eqL [dd, ao, ae, ac, au, ta] rfl rfl hD
        exact xend_i (V := (cmI w 3 (t * wrN w) (lstN w t))) hF hret hlocks hS (⟨by unfold watchA; rw [if_pos c_w, if_neg w_37_0, if_neg w_37_1, if_pos w_37_2, et], _, hP⟩) dX3_watch_106
      by_cases w_37_3 : (z) = 3
      · refine lv_tableIn (off := 70) (tgt := 107) hx hb dX3_watch_37 (by rw [w_37_3]; decide) (by rw [w_37_3]; decide) (by rw [w_37_3]; rfl) (by decide) ?_
        refine lv_aload_n hx hb dX3_watch_107 rfl (lv_at hl 2 rfl) ?_
        refine gf_X3_X3_log hF hP 0 rfl rfl dX3_watch_108 ?_
        refine lv_iload_n hx hb dX3_watch_111 rfl (lv_at hl 3 rfl) ?_
        refine vp_callSi (va_Run.run (xrVN hF (c_X1_sumOf l g ao ae ac au fe fc fs w hW hR t (by omega)) cal_X1_sumOf n_26 ⟨by decide, by decide⟩ rfl rfl rfl (va_recv hF.2.1 hP (ci := 1) (q0 := 1) rfl rfl) (hZ.at hS hAB) (hP.sub [1, 2, 3, 4] rfl) hl.1 rfl (Nat.le_of_ble_eq_true rfl) dX3_watch_112 ⟨Nat.le_refl _, Nat.le_refl _⟩)) (fun r_ h_ => ?_)
        subst h_
        exact xend_i (V := (w (4 + t))) hF hret hlocks hS (⟨by unfold watchA; rw [if_pos c_w, if_neg w_37_0, if_neg w_37_1, if_neg w_37_2, if_pos w_37_3, et], _, hP⟩) dX3_watch_115
      by_cases w_37_4 : (z) = 4
      · refine lv_tableIn (off := 79) (tgt := 116) hx hb dX3_watch_37 (by rw [w_37_4]; decide) (by rw [w_37_4]; decide) (by rw [w_37_4]; rfl) (by decide) ?_
        refine lv_aload_n hx hb dX3_watch_116 rfl (lv_at hl 2 rfl) ?_
        refine gf_X3_X3_log hF hP 0 rfl rfl dX3_watch_117 ?_
        refine lv_iload_n hx hb dX3_watch_120 rfl (lv_at hl 3 rfl) ?_
        refine vp_callSi (va_Run.run (xrVN hF (c_X1_sumOf l g ao ae ac au fe fc fs w hW hR t (by omega)) cal_X1_sumOf n_26 ⟨by decide, by decide⟩ rfl rfl rfl (va_recv hF.2.1 hP (ci := 1) (q0 := 1) rfl rfl) (hZ.at hS hAB) (hP.sub [1, 2, 3, 4] rfl) hl.1 rfl (Nat.le_of_ble_eq_true rfl) dX3_watch_121 ⟨Nat.le_refl _, Nat.le_refl _⟩)) (fun r_ h_ => ?_)
        subst h_
        refine lv_bipush hx hb (v := (-5)) dX3_watch_124 (by decide) ?_
        refine lv_icmp_ne (tgt := 134) hx hb dX3_watch_126 (by decide) (fun c_126 => ?_) (fun c_126 => ?_)
        · refine lv_aload_n hx hb dX3_watch_134 rfl (lv_at hl 2 rfl) ?_
          refine gf_X3_X3_log hF hP 0 rfl rfl dX3_watch_135 ?_
          refine lv_iload_n hx hb dX3_watch_138 rfl (lv_at hl 1 rfl) ?_
          refine lv_iload hx hb dX3_watch_139 (lv_at hl 0 rfl) ?_
          refine vp_callSi (va_Run.run (xrVN hF (c_X1_runOf l g ao ae ac au fe fc fs w hW hR (t * wrN w) (lstN w t) (by omega) (by omega)) cal_X1_runOf n_48 ⟨by decide, by decide⟩ rfl rfl rfl (va_recv hF.2.1 hP (ci := 1) (q0 := 1) rfl rfl) (hZ.at hS hAB) (hP.sub [1, 2, 3, 4] rfl) hl.1 rfl (Nat.le_of_ble_eq_true rfl) dX3_watch_141 ⟨Nat.le_refl _, Nat.le_refl _⟩)) (fun r_ h_ => ?_)
          subst h_
          refine lv_aload_n hx hb dX3_watch_144 rfl (lv_at hl 2 rfl) ?_
          refine gf_X3_X3_log hF hP 0 rfl rfl dX3_watch_145 ?_
          refine lv_iload_n hx hb dX3_watch_148 rfl (lv_at hl 3 rfl) ?_
          refine vp_callSi (va_Run.run (xrVN hF (c_X1_sumOf l g ao ae ac au fe fc fs w hW hR t (by omega)) cal_X1_sumOf n_26 ⟨by decide, by decide⟩ rfl rfl rfl (va_recv hF.2.1 hP (ci := 1) (q0 := 1) rfl rfl) (hZ.at hS hAB) (hP.sub [1, 2, 3, 4] rfl) hl.1 rfl (Nat.le_of_ble_eq_true rfl) dX3_watch_149 ⟨Nat.le_refl _, Nat.le_refl _⟩)) (fun r_ h_ => ?_)
          subst h_
          refine lv_isub hx hb dX3_watch_152 ?_
          refine xN_si hx hb 10000 dX3_watch_153 (by decide) ?_
          refine lv_iadd hx hb dX3_watch_156 ?_
          exact xend_i (V := ((nI (runN w (t * wrN w) (lstN w t)) - (w (4 + t))) + nI (10000))) hF hret hlocks hS (⟨by unfold watchA; rw [if_pos c_w, if_neg w_37_0, if_neg w_37_1, if_neg w_37_2, if_neg w_37_3, if_pos w_37_4, et, if_neg c_126], _, hP⟩) dX3_watch_157
        · refine lv_bipush hx hb (v := (-5)) dX3_watch_129 (by decide) ?_
          refine lv_goto (tgt := 157) hx hb dX3_watch_131 (by decide) ?_
          exact xend_i (V := (-5)) hF hret hlocks hS (⟨by unfold watchA; rw [if_pos c_w, if_neg w_37_0, if_neg w_37_1, if_neg w_37_2, if_neg w_37_3, if_pos w_37_4, et, if_pos c_126], _, hP⟩) dX3_watch_157
      by_cases w_37_5 : (z) = 5
      · refine lv_tableIn (off := 121) (tgt := 158) hx hb dX3_watch_37 (by rw [w_37_5]; decide) (by rw [w_37_5]; decide) (by rw [w_37_5]; rfl) (by decide) ?_
        refine lv_aload_n hx hb dX3_watch_158 rfl (lv_at hl 2 rfl) ?_
        refine gf_X3_X3_log hF hP 0 rfl rfl dX3_watch_159 ?_
        refine xN_const hx hb 1 dX3_watch_162 (by decide) ?_
        refine lv_iload_n hx hb dX3_watch_163 rfl (lv_at hl 1 rfl) ?_
        refine lv_iload hx hb dX3_watch_164 (lv_at hl 0 rfl) ?_
        refine vp_callSi (va_Run.run (xrVN hF (c_X1_countMeaningless l g ao ae ac au fe fc fs w hW hR 1 (by omega) (t * wrN w) (lstN w t) (by omega) (by omega)) cal_X1_countMeaningless n_42 ⟨by decide, by decide⟩ rfl rfl rfl (va_recv hF.2.1 hP (ci := 1) (q0 := 1) rfl rfl) (hZ.at hS hAB) (hP.sub [1, 2, 3, 4] rfl) hl.1 rfl (Nat.le_of_ble_eq_true rfl) dX3_watch_166 ⟨Nat.le_refl _, Nat.le_refl _⟩)) (fun r_ h_ => ?_)
        subst h_
        exact xend_i (V := nI (ctR (fun i9 => mean w i9 1 == -5) (t * wrN w) ((lstN w t) - (t * wrN w)))) hF hret hlocks hS (⟨by unfold watchA; rw [if_pos c_w, if_neg w_37_0, if_neg w_37_1, if_neg w_37_2, if_neg w_37_3, if_neg w_37_4, if_pos w_37_5, et], _, hP⟩) dX3_watch_169
      by_cases w_37_6 : (z) = 6
      · refine lv_tableIn (off := 133) (tgt := 170) hx hb dX3_watch_37 (by rw [w_37_6]; decide) (by rw [w_37_6]; decide) (by rw [w_37_6]; rfl) (by decide) ?_
        refine lv_aload_n hx hb dX3_watch_170 rfl (lv_at hl 2 rfl) ?_
        refine lv_iload_n hx hb dX3_watch_171 rfl (lv_at hl 1 rfl) ?_
        refine lv_iload hx hb dX3_watch_172 (lv_at hl 0 rfl) ?_
        refine vp_callSi (va_Run.run (xrV hF (c_X3_doubtfulCells l g dd bo ho xo ta ao ae ac au zk fe fc fs w hW hR (t * wrN w) (lstN w t) (by omega) (by omega)) cal_X3_doubtfulCells q_528 ⟨by decide, by decide⟩ rfl rfl rfl (va_recv hF.2.1 hP (ci := 3) (q0 := 0) rfl rfl) (hZ.at hS hAB) (hP.sub [0, 1, 2, 3, 4] rfl) hl.1 rfl (Nat.le_of_ble_eq_true rfl) dX3_watch_174 ⟨Nat.le_refl _, Nat.le_refl _⟩)) (fun r_ h_ => ?_)
        subst h_
        exact xend_i (V := nI (idN w (t * wrN w) (lstN w t) 4)) hF hret hlocks hS (⟨by unfold watchA; rw [if_pos c_w, if_neg w_37_0, if_neg w_37_1, if_neg w_37_2, if_neg w_37_3, if_neg w_37_4, if_neg w_37_5, if_pos w_37_6, et], _, hP⟩) dX3_watch_177
      refine lv_tableOut (tgt := 178) hx hb dX3_watch_37 (by have a0 := lv_neT w_37_0 (a := 0) (by decide); have a1 := lv_neT w_37_1 (a := 1) (by decide); have a2 := lv_neT w_37_2 (a := 2) (by decide); have a3 := lv_neT w_37_3 (a := 3) (by decide); have a4 := lv_neT w_37_4 (a := 4) (by decide); have a5 := lv_neT w_37_5 (a := 5) (by decide); have a6 := lv_neT w_37_6 (a := 6) (by decide); omega) (by decide) ?_
      refine lv_bipush hx hb (v := (-2)) dX3_watch_178 (by decide) ?_
      exact xend_i (V := (-2)) hF hret hlocks hS (⟨by unfold watchA; rw [if_pos c_w, if_neg w_37_0, if_neg w_37_1, if_neg w_37_2, if_neg w_37_3, if_neg w_37_4, if_neg w_37_5, if_neg w_37_6], _, hP⟩) dX3_watch_180
    · refine lv_iconst hx hb (v := (-1)) dX3_watch_15 (by decide) ?_
      exact xend_i (V := (-1)) hF hret hlocks hS (⟨by unfold watchA; rw [watB_f2 (Int32.not_lt.mp c_12)]; rfl, _, hP⟩) dX3_watch_16
