/-! the law: a call at a time -/
def chN (x : Int32) : Int32 := (x.toUInt32 % 65536).toInt32
theorem chN_nar (x : Int32) : vp_nar .char (chN x) = chN x := by unfold vp_nar chN; rw [pk_nc]
theorem dcmp_self {z : UInt64} {op : CmpOp} (h : FP.Core.val64 z ≠ .nan) : Op.cmpValue (FP.dcmp z z) op = 0 := by
  rw [show FP.dcmp z z = _ from FP.Core.dcmp_zval h h, (FP.Core.compare_eq_iff _ _).mpr rfl]; rfl
theorem nthA_nn {w : Nat → Int32} (hW : WF w) (t : Nat) (x y : Int32) : FP.Core.val64 (nthA w t x y) ≠ .nan := by
  unfold nthA
  by_cases h : rwB w x y = true
  · rw [if_pos h]
    obtain ⟨a, b, rfl, rfl, hab, hb⟩ := rwB_of hW h
    have h48 := hW.n48
    rw [nI_clamp (by omega), nI_clamp (by omega)]
    exact (way_DB hW (b + 1 - a) (by omega)).1.ne_nan
  · rw [if_neg h]
    intro e
    exact absurd e (by decide +kernel)
theorem SX_log {g : XG} {a : Nat → Nat} {r : Nat} {he hc hs : Nat → Nat → Int32} {yn yg yt yw : Nat → Nat} {h : Nat → Int32} (e1 : yn r = nr h) (e2 : yg r = pgN h) (e3 : yt r = stN h) (e4 : yw r = wrN h) : SX g a r he hc hs yn yg yt yw = LogC g (a (30 + r)) (a (40 + r)) (a (50 + r)) (a (60 + r)) (he r) (hc r) (hs r) h := by
  unfold SX LogC; rw [e1, e2, e3, e4]
theorem LogC_ag {g : XG} {ao ae ac au : Nat} {fe fc fs w w' : Nat → Int32} (h : Ag w w') : LogC g ao ae ac au fe fc fs w = LogC g ao ae ac au fe fc fs w' := by
  obtain ⟨e1, e2, e3, e4⟩ := ag_all h
  unfold LogC; rw [e1, e2, e3, e4]
theorem ag_cpy0 {w h : Nat → Int32} : Ag w (va_cpy w h 0 0 988) := fun j hj => (xcpy0_in hj).symm
theorem ag_und {pa w : Nat → Int32} {z : Nat} : Ag (fun j => pa (988 * z + j)) (va_cpy pa w (988 * z) 0 988) := fun j hj => by
  rw [pk_cpy_in (by omega) (by omega)]; rfl
theorem WY_ag {g : XG} {a : Nat → Nat} {zo zh zs zn zl zp zr xr un ug ut uw : Nat} {zq zk : Bool} {sl : Nat → Option Nat} {fe fc fs ge gc gs v w pa sn ty tx me td cl tl : Nat → Int32} {S0 S1 S2 S3 : va_W} (h : Ag v w) : WY g a zo zh zs zn zl zp zr xr un ug ut uw zq zk sl fe fc fs ge gc gs v w pa sn ty tx me td cl tl S0 S1 S2 S3 = WY g a zo zh zs zn zl zp zr xr un ug ut uw zq zk sl fe fc fs ge gc gs w w pa sn ty tx me td cl tl S0 S1 S2 S3 := by
  unfold WY; rw [LogC_ag h]
section XSC
variable {p : Program} {l : Launch} {e : Env} {R : Room} {s : State} {m : MethodId} {args : Array Value} {below : List Frame} {meth : Method} {c : Code} {H : Heap} {locs : List Loc} {cells slots : Nat} {Q : State → Prop}
variable {cc : ByteArray} {pc : Nat} {ls : Array Slot} {rest : List Value} {g : XG} {nL : Nat} {own : String}
theorem xscr (hF : FX p s m args c cc nL own g) {b L i : Nat} {xs : Nat → Int32} (hX : va_X b L xs s s.heap) (hbl : b < s.heap.size) (hS : va_S (fun q => s.heap.size ≤ q) s.heap H locs) (hi : i < L) (hL : L ≤ 2560) (hdg : decode cc pc = .ok (.iaload, 1))
    (kk : W p l e R s m args below meth c H locs cells slots Q (F0 m (pc + 1) ls (.int (xs i) :: rest))) : W p l e R s m args below meth c H locs cells slots Q (F0 m pc ls (.int (nI i) :: .ref b :: rest)) :=
  va_sld hF.1.1 hF.1.2.1 hX hbl (Nat.not_le.mpr hbl) hS (vp_in_nI hi (by omega)) hdg (by rw [nI_clamp (by omega)]; exact kk)
end XSC
set_option maxHeartbeats 4000000 in
set_option maxRecDepth 100000 in
theorem law_cell (l : Launch) (g : XG) (a : Nat → Nat) {p : Program} {e : Env} {s : State} {m : MethodId} {below : List Frame} {meth : Method} {c : Code} {b L9 i cells slots : Nat} {xs : Nat → Int32} {Q : State → Prop} {H : Heap} {locs : List Loc} {ls : Array Slot} (hF : FX p s m #[Value.ref b] c code 8 RL g) (hZ : ZS g s s.heap) (hX : va_X b L9 xs s s.heap) (hbl : b < s.heap.size) (hg : g.2.2 3 = s.heap.size) (hrc : cells ≤ 600000 ∧ slots ≤ 7302250) (hi : i + 5 ≤ L9) (hL9 : L9 ≤ 2560) (hS : va_S (fun q => s.heap.size ≤ q) s.heap H locs) (hI : RX g (fun q => s.heap.size ≤ q) a H) (hl : lv_has ls 8 [(0, .ref b), (1, .ref (a 0)), (2, .ref (a 15)), (3, .int (nI i))]) (kk : ∀ (H : Heap) (locs : List Loc) (ls : Array Slot), va_S (fun q => s.heap.size ≤ q) s.heap H locs → RX g (fun q => s.heap.size ≤ q) a H → lv_has ls 8 [(0, .ref b), (1, .ref (a 0)), (2, .ref (a 15)), (3, .int (nI i))] → W p l e room_1 s m #[Value.ref b] below meth c H locs cells slots Q (F0 m 867 ls [])) : W p l e room_1 s m #[Value.ref b] below meth c H locs cells slots Q (F0 m 438 ls []) := by
  have hx := hF.1.1
  have hb := hF.1.2.1
  have hAB : ∀ q, (fun q => s.heap.size ≤ q) q → xB g q := fun q hq => by show g.2.2 3 ≤ q; rw [hg]; exact hq
  obtain ⟨r0, zo, zs, hr0, hI⟩ := hI
  obtain ⟨r, hre⟩ : ∃ r, r = r0 := ⟨_, rfl⟩
  rw [← hre] at hI hr0
  have hr4 := hr0
  obtain ⟨zl, zp, zr, xr, un, ug, ut, uw, zk, sl, fe, fc, fs, ge, gc, gs, w, pa, sn, tx, me, td, cl, tl, he, hc, hs, yn, yg, yt, yw, ⟨hzo, hz4, hz60, hW, hR, hSn, hsl, hHs⟩, hD, hP⟩ := hI
  have hP : va_P g.1 vwCl (WY g a zo zs zs zl zl zp zr xr un ug ut uw zk zk sl fe fc fs ge gc gs w w pa sn tx tx me td cl tl (SX g a r he hc hs yn yg yt yw) (SX g a ((r + 1) % 4) he hc hs yn yg yt yw) (SX g a ((r + 2) % 4) he hc hs yn yg yt yw) (SX g a ((r + 3) % 4) he hc hs yn yg yt yw)) H := hP
  have hD : va_D (fun q => s.heap.size ≤ q) (WY g a zo zs zs zl zl zp zr xr un ug ut uw zk zk sl fe fc fs ge gc gs w w pa sn tx tx me td cl tl (SX g a r he hc hs yn yg yt yw) (SX g a ((r + 1) % 4) he hc hs yn yg yt yw) (SX g a ((r + 2) % 4) he hc hs yn yg yt yw) (SX g a ((r + 3) % 4) he hc hs yn yg yt yw)) := hD
  refine lv_aload_n hx hb dL_law_438 rfl (lv_at hl 1 rfl) ?_
  refine lv_aload_n hx hb dL_law_439 rfl (lv_at hl 0 rfl) ?_
  refine lv_iload_n hx hb dL_law_440 rfl (lv_at hl 3 rfl) ?_
  refine xN_const hx hb 1 dL_law_441 (by decide) ?_
  refine xN_add hx hb dL_law_442 ?_
  refine xscr hF hX hbl hS (by omega) hL9 dL_law_443 ?_
  refine lv_aload_n hx hb dL_law_444 rfl (lv_at hl 0 rfl) ?_
  refine lv_iload_n hx hb dL_law_445 rfl (lv_at hl 3 rfl) ?_
  refine xN_const hx hb 2 dL_law_446 (by decide) ?_
  refine xN_add hx hb dL_law_447 ?_
  refine xscr hF hX hbl hS (by omega) hL9 dL_law_448 ?_
  refine lv_aload_n hx hb dL_law_449 rfl (lv_at hl 0 rfl) ?_
  refine lv_iload_n hx hb dL_law_450 rfl (lv_at hl 3 rfl) ?_
  refine xN_const hx hb 3 dL_law_451 (by decide) ?_
  refine xN_add hx hb dL_law_452 ?_
  refine xscr hF hX hbl hS (by omega) hL9 dL_law_453 ?_
  refine vp_callSi (va_Run.run (xrV hF (c_X3_cell l g (a 0) (a 7) (a 1) (a 11) (a 14) (a 3) (a 4) (a 5) (a 6) zk fe fc fs w hW hR (xs (i + 1)) (xs (i + 2)) (xs (i + 3))) cal_X3_cell q_396 ⟨Nat.le_of_ble_eq_true rfl, Nat.le_of_ble_eq_true rfl⟩ rfl rfl rfl (va_recv hF.2.1 hP (ci := 3) (q0 := 0) rfl rfl) (hZ.at hS hAB) (hP.sub [0, 7, 8, 9, 10] rfl) hl.1 rfl (Nat.le_of_ble_eq_true rfl) dL_law_454 hrc)) (fun r_ h_ => ?_)
  subst h_
  refine lv_aload_n hx hb dL_law_457 rfl (lv_at hl 2 rfl) ?_
  refine lv_aload_n hx hb dL_law_458 rfl (lv_at hl 0 rfl) ?_
  refine lv_iload_n hx hb dL_law_459 rfl (lv_at hl 3 rfl) ?_
  refine xN_const hx hb 1 dL_law_460 (by decide) ?_
  refine xN_add hx hb dL_law_461 ?_
  refine xscr hF hX hbl hS (by omega) hL9 dL_law_462 ?_
  refine lv_aload_n hx hb dL_law_463 rfl (lv_at hl 0 rfl) ?_
  refine lv_iload_n hx hb dL_law_464 rfl (lv_at hl 3 rfl) ?_
  refine xN_const hx hb 2 dL_law_465 (by decide) ?_
  refine xN_add hx hb dL_law_466 ?_
  refine xscr hF hX hbl hS (by omega) hL9 dL_law_467 ?_
  refine lv_aload_n hx hb dL_law_468 rfl (lv_at hl 0 rfl) ?_
  refine lv_iload_n hx hb dL_law_469 rfl (lv_at hl 3 rfl) ?_
  refine xN_const hx hb 3 dL_law_470 (by decide) ?_
  refine xN_add hx hb dL_law_471 ?_
  refine xscr hF hX hbl hS (by omega) hL9 dL_law_472 ?_
  refine vp_callSi (va_Run.run (xrV hF (c_X4_cell l g (a 15) (a 16) (a 17) (a 18) (a 19) (a 20) (a 21) zs zl zp zr zk w hW (xs (i + 1)) (xs (i + 2)) (xs (i + 3))) cal_X4_cell q_410 ⟨Nat.le_of_ble_eq_true rfl, Nat.le_of_ble_eq_true rfl⟩ rfl rfl rfl (va_recv hF.2.1 hP (ci := 4) (q0 := 19) rfl rfl) (hZ.at hS hAB) (hP.sub [19, 20] rfl) hl.1 rfl (Nat.le_of_ble_eq_true rfl) dL_law_473 hrc)) (fun r_ h_ => ?_)
  subst h_
  refine lv_icmp_eq (tgt := 867) hx hb dL_law_476 (by decide) (fun _ => ?_) (fun h => absurd (rfl) h)
  exact kk H locs ls hS ⟨r, zo, zs, hr4, zl, zp, zr, xr, un, ug, ut, uw, zk, sl, fe, fc, fs, ge, gc, gs, w, pa, sn, tx, me, td, cl, tl, he, hc, hs, yn, yg, yt, yw, ⟨hzo, hz4, hz60, hW, hR, hSn, hsl, hHs⟩, hD, hP⟩ hl
set_option maxHeartbeats 4000000 in
set_option maxRecDepth 100000 in
theorem law_entry (l : Launch) (g : XG) (a : Nat → Nat) {p : Program} {e : Env} {s : State} {m : MethodId} {below : List Frame} {meth : Method} {c : Code} {b L9 i cells slots : Nat} {xs : Nat → Int32} {Q : State → Prop} {H : Heap} {locs : List Loc} {ls : Array Slot} (hF : FX p s m #[Value.ref b] c code 8 RL g) (hZ : ZS g s s.heap) (hX : va_X b L9 xs s s.heap) (hbl : b < s.heap.size) (hg : g.2.2 3 = s.heap.size) (hrc : cells ≤ 600000 ∧ slots ≤ 7302250) (hi : i + 5 ≤ L9) (hL9 : L9 ≤ 2560) (hS : va_S (fun q => s.heap.size ≤ q) s.heap H locs) (hI : RX g (fun q => s.heap.size ≤ q) a H) (hl : lv_has ls 8 [(0, .ref b), (1, .ref (a 0)), (2, .ref (a 15)), (3, .int (nI i))]) (kk : ∀ (H : Heap) (locs : List Loc) (ls : Array Slot), va_S (fun q => s.heap.size ≤ q) s.heap H locs → RX g (fun q => s.heap.size ≤ q) a H → lv_has ls 8 [(0, .ref b), (1, .ref (a 0)), (2, .ref (a 15)), (3, .int (nI i))] → W p l e room_1 s m #[Value.ref b] below meth c H locs cells slots Q (F0 m 867 ls [])) : W p l e room_1 s m #[Value.ref b] below meth c H locs cells slots Q (F0 m 481 ls []) := by
  have hx := hF.1.1
  have hb := hF.1.2.1
  have hAB : ∀ q, (fun q => s.heap.size ≤ q) q → xB g q := fun q hq => by show g.2.2 3 ≤ q; rw [hg]; exact hq
  obtain ⟨r0, zo, zs, hr0, hI⟩ := hI
  obtain ⟨r, hre⟩ : ∃ r, r = r0 := ⟨_, rfl⟩
  rw [← hre] at hI hr0
  have hr4 := hr0
  obtain ⟨zl, zp, zr, xr, un, ug, ut, uw, zk, sl, fe, fc, fs, ge, gc, gs, w, pa, sn, tx, me, td, cl, tl, he, hc, hs, yn, yg, yt, yw, ⟨hzo, hz4, hz60, hW, hR, hSn, hsl, hHs⟩, hD, hP⟩ := hI
  have hP : va_P g.1 vwCl (WY g a zo zs zs zl zl zp zr xr un ug ut uw zk zk sl fe fc fs ge gc gs w w pa sn tx tx me td cl tl (SX g a r he hc hs yn yg yt yw) (SX g a ((r + 1) % 4) he hc hs yn yg yt yw) (SX g a ((r + 2) % 4) he hc hs yn yg yt yw) (SX g a ((r + 3) % 4) he hc hs yn yg yt yw)) H := hP
  have hD : va_D (fun q => s.heap.size ≤ q) (WY g a zo zs zs zl zl zp zr xr un ug ut uw zk zk sl fe fc fs ge gc gs w w pa sn tx tx me td cl tl (SX g a r he hc hs yn yg yt yw) (SX g a ((r + 1) % 4) he hc hs yn yg yt yw) (SX g a ((r + 2) % 4) he hc hs yn yg yt yw) (SX g a ((r + 3) % 4) he hc hs yn yg yt yw)) := hD
  refine lv_aload_n hx hb dL_law_481 rfl (lv_at hl 1 rfl) ?_
  refine lv_aload_n hx hb dL_law_482 rfl (lv_at hl 0 rfl) ?_
  refine lv_iload_n hx hb dL_law_483 rfl (lv_at hl 3 rfl) ?_
  refine xN_const hx hb 1 dL_law_484 (by decide) ?_
  refine xN_add hx hb dL_law_485 ?_
  refine xscr hF hX hbl hS (by omega) hL9 dL_law_486 ?_
  refine lv_aload_n hx hb dL_law_487 rfl (lv_at hl 0 rfl) ?_
  refine lv_iload_n hx hb dL_law_488 rfl (lv_at hl 3 rfl) ?_
  refine xN_const hx hb 2 dL_law_489 (by decide) ?_
  refine xN_add hx hb dL_law_490 ?_
  refine xscr hF hX hbl hS (by omega) hL9 dL_law_491 ?_
  refine lv_aload_n hx hb dL_law_492 rfl (lv_at hl 0 rfl) ?_
  refine lv_iload_n hx hb dL_law_493 rfl (lv_at hl 3 rfl) ?_
  refine xN_const hx hb 3 dL_law_494 (by decide) ?_
  refine xN_add hx hb dL_law_495 ?_
  refine xscr hF hX hbl hS (by omega) hL9 dL_law_496 ?_
  refine vp_callSi (va_Run.run (xrV hF (c_X3_entry l g (a 0) (a 7) (a 1) (a 11) (a 14) (a 3) (a 4) (a 5) (a 6) zk fe fc fs w hW hR (xs (i + 1)) (xs (i + 2)) (xs (i + 3))) cal_X3_entry q_430 ⟨Nat.le_of_ble_eq_true rfl, Nat.le_of_ble_eq_true rfl⟩ rfl rfl rfl (va_recv hF.2.1 hP (ci := 3) (q0 := 0) rfl rfl) (hZ.at hS hAB) (hP.sub [0, 7, 8, 9, 10] rfl) hl.1 rfl (Nat.le_of_ble_eq_true rfl) dL_law_497 hrc)) (fun r_ h_ => ?_)
  subst h_
  refine lv_aload_n hx hb dL_law_500 rfl (lv_at hl 2 rfl) ?_
  refine lv_aload_n hx hb dL_law_501 rfl (lv_at hl 0 rfl) ?_
  refine lv_iload_n hx hb dL_law_502 rfl (lv_at hl 3 rfl) ?_
  refine xN_const hx hb 1 dL_law_503 (by decide) ?_
  refine xN_add hx hb dL_law_504 ?_
  refine xscr hF hX hbl hS (by omega) hL9 dL_law_505 ?_
  refine lv_aload_n hx hb dL_law_506 rfl (lv_at hl 0 rfl) ?_
  refine lv_iload_n hx hb dL_law_507 rfl (lv_at hl 3 rfl) ?_
  refine xN_const hx hb 2 dL_law_508 (by decide) ?_
  refine xN_add hx hb dL_law_509 ?_
  refine xscr hF hX hbl hS (by omega) hL9 dL_law_510 ?_
  refine lv_aload_n hx hb dL_law_511 rfl (lv_at hl 0 rfl) ?_
  refine lv_iload_n hx hb dL_law_512 rfl (lv_at hl 3 rfl) ?_
  refine xN_const hx hb 3 dL_law_513 (by decide) ?_
  refine xN_add hx hb dL_law_514 ?_
  refine xscr hF hX hbl hS (by omega) hL9 dL_law_515 ?_
  refine vp_callSi (va_Run.run (xrV hF (c_X4_entry l g (a 15) (a 16) (a 17) (a 18) (a 19) (a 20) (a 21) zs zl zp zr zk w hW (xs (i + 1)) (xs (i + 2)) (xs (i + 3))) cal_X4_entry q_434 ⟨Nat.le_of_ble_eq_true rfl, Nat.le_of_ble_eq_true rfl⟩ rfl rfl rfl (va_recv hF.2.1 hP (ci := 4) (q0 := 19) rfl rfl) (hZ.at hS hAB) (hP.sub [19, 20] rfl) hl.1 rfl (Nat.le_of_ble_eq_true rfl) dL_law_516 hrc)) (fun r_ h_ => ?_)
  subst h_
  refine lv_icmp_eq (tgt := 867) hx hb dL_law_519 (by decide) (fun _ => ?_) (fun h => absurd (rfl) h)
  exact kk H locs ls hS ⟨r, zo, zs, hr4, zl, zp, zr, xr, un, ug, ut, uw, zk, sl, fe, fc, fs, ge, gc, gs, w, pa, sn, tx, me, td, cl, tl, he, hc, hs, yn, yg, yt, yw, ⟨hzo, hz4, hz60, hW, hR, hSn, hsl, hHs⟩, hD, hP⟩ hl
set_option maxHeartbeats 4000000 in
set_option maxRecDepth 100000 in
theorem law_isWritten (l : Launch) (g : XG) (a : Nat → Nat) {p : Program} {e : Env} {s : State} {m : MethodId} {below : List Frame} {meth : Method} {c : Code} {b L9 i cells slots : Nat} {xs : Nat → Int32} {Q : State → Prop} {H : Heap} {locs : List Loc} {ls : Array Slot} (hF : FX p s m #[Value.ref b] c code 8 RL g) (hZ : ZS g s s.heap) (hX : va_X b L9 xs s s.heap) (hbl : b < s.heap.size) (hg : g.2.2 3 = s.heap.size) (hrc : cells ≤ 600000 ∧ slots ≤ 7302250) (hi : i + 5 ≤ L9) (hL9 : L9 ≤ 2560) (hS : va_S (fun q => s.heap.size ≤ q) s.heap H locs) (hI : RX g (fun q => s.heap.size ≤ q) a H) (hl : lv_has ls 8 [(0, .ref b), (1, .ref (a 0)), (2, .ref (a 15)), (3, .int (nI i))]) (kk : ∀ (H : Heap) (locs : List Loc) (ls : Array Slot), va_S (fun q => s.heap.size ≤ q) s.heap H locs → RX g (fun q => s.heap.size ≤ q) a H → lv_has ls 8 [(0, .ref b), (1, .ref (a 0)), (2, .ref (a 15)), (3, .int (nI i))] → W p l e room_1 s m #[Value.ref b] below meth c H locs cells slots Q (F0 m 867 ls [])) : W p l e room_1 s m #[Value.ref b] below meth c H locs cells slots Q (F0 m 524 ls []) := by
  have hx := hF.1.1
  have hb := hF.1.2.1
  have hAB : ∀ q, (fun q => s.heap.size ≤ q) q → xB g q := fun q hq => by show g.2.2 3 ≤ q; rw [hg]; exact hq
  obtain ⟨r0, zo, zs, hr0, hI⟩ := hI
  obtain ⟨r, hre⟩ : ∃ r, r = r0 := ⟨_, rfl⟩
  rw [← hre] at hI hr0
  have hr4 := hr0
  obtain ⟨zl, zp, zr, xr, un, ug, ut, uw, zk, sl, fe, fc, fs, ge, gc, gs, w, pa, sn, tx, me, td, cl, tl, he, hc, hs, yn, yg, yt, yw, ⟨hzo, hz4, hz60, hW, hR, hSn, hsl, hHs⟩, hD, hP⟩ := hI
  have hP : va_P g.1 vwCl (WY g a zo zs zs zl zl zp zr xr un ug ut uw zk zk sl fe fc fs ge gc gs w w pa sn tx tx me td cl tl (SX g a r he hc hs yn yg yt yw) (SX g a ((r + 1) % 4) he hc hs yn yg yt yw) (SX g a ((r + 2) % 4) he hc hs yn yg yt yw) (SX g a ((r + 3) % 4) he hc hs yn yg yt yw)) H := hP
  have hD : va_D (fun q => s.heap.size ≤ q) (WY g a zo zs zs zl zl zp zr xr un ug ut uw zk zk sl fe fc fs ge gc gs w w pa sn tx tx me td cl tl (SX g a r he hc hs yn yg yt yw) (SX g a ((r + 1) % 4) he hc hs yn yg yt yw) (SX g a ((r + 2) % 4) he hc hs yn yg yt yw) (SX g a ((r + 3) % 4) he hc hs yn yg yt yw)) := hD
  refine lv_aload_n hx hb dL_law_524 rfl (lv_at hl 1 rfl) ?_
  refine lv_aload_n hx hb dL_law_525 rfl (lv_at hl 0 rfl) ?_
  refine lv_iload_n hx hb dL_law_526 rfl (lv_at hl 3 rfl) ?_
  refine xN_const hx hb 1 dL_law_527 (by decide) ?_
  refine xN_add hx hb dL_law_528 ?_
  refine xscr hF hX hbl hS (by omega) hL9 dL_law_529 ?_
  refine vp_callSi (va_Run.run (xrV hF (c_X3_isWritten l g (a 0) (a 7) (a 1) (a 11) (a 14) (a 3) (a 4) (a 5) (a 6) zk fe fc fs w hW hR (xs (i + 1))) cal_X3_isWritten q_438 ⟨Nat.le_of_ble_eq_true rfl, Nat.le_of_ble_eq_true rfl⟩ rfl rfl rfl (va_recv hF.2.1 hP (ci := 3) (q0 := 0) rfl rfl) (hZ.at hS hAB) (hP.sub [0, 7, 8, 9, 10] rfl) hl.1 rfl (Nat.le_of_ble_eq_true rfl) dL_law_530 hrc)) (fun r_ h_ => ?_)
  subst h_
  refine lv_aload_n hx hb dL_law_533 rfl (lv_at hl 2 rfl) ?_
  refine lv_aload_n hx hb dL_law_534 rfl (lv_at hl 0 rfl) ?_
  refine lv_iload_n hx hb dL_law_535 rfl (lv_at hl 3 rfl) ?_
  refine xN_const hx hb 1 dL_law_536 (by decide) ?_
  refine xN_add hx hb dL_law_537 ?_
  refine xscr hF hX hbl hS (by omega) hL9 dL_law_538 ?_
  refine vp_callSi (va_Run.run (xrV hF (c_X4_isWritten l g (a 15) (a 16) (a 17) (a 18) (a 19) (a 20) (a 21) zs zl zp zr zk w hW (xs (i + 1))) cal_X4_isWritten q_445 ⟨Nat.le_of_ble_eq_true rfl, Nat.le_of_ble_eq_true rfl⟩ rfl rfl rfl (va_recv hF.2.1 hP (ci := 4) (q0 := 19) rfl rfl) (hZ.at hS hAB) (hP.sub [19, 20] rfl) hl.1 rfl (Nat.le_of_ble_eq_true rfl) dL_law_539 hrc)) (fun r_ h_ => ?_)
  subst h_
  refine lv_icmp_eq (tgt := 867) hx hb dL_law_542 (by decide) (fun _ => ?_) (fun h => absurd (rfl) h)
  exact kk H locs ls hS ⟨r, zo, zs, hr4, zl, zp, zr, xr, un, ug, ut, uw, zk, sl, fe, fc, fs, ge, gc, gs, w, pa, sn, tx, me, td, cl, tl, he, hc, hs, yn, yg, yt, yw, ⟨hzo, hz4, hz60, hW, hR, hSn, hsl, hHs⟩, hD, hP⟩ hl
set_option maxHeartbeats 4000000 in
set_option maxRecDepth 100000 in
theorem law_run (l : Launch) (g : XG) (a : Nat → Nat) {p : Program} {e : Env} {s : State} {m : MethodId} {below : List Frame} {meth : Method} {c : Code} {b L9 i cells slots : Nat} {xs : Nat → Int32} {Q : State → Prop} {H : Heap} {locs : List Loc} {ls : Array Slot} (hF : FX p s m #[Value.ref b] c code 8 RL g) (hZ : ZS g s s.heap) (hX : va_X b L9 xs s s.heap) (hbl : b < s.heap.size) (hg : g.2.2 3 = s.heap.size) (hrc : cells ≤ 600000 ∧ slots ≤ 7302250) (hi : i + 5 ≤ L9) (hL9 : L9 ≤ 2560) (hS : va_S (fun q => s.heap.size ≤ q) s.heap H locs) (hI : RX g (fun q => s.heap.size ≤ q) a H) (hl : lv_has ls 8 [(0, .ref b), (1, .ref (a 0)), (2, .ref (a 15)), (3, .int (nI i))]) (kk : ∀ (H : Heap) (locs : List Loc) (ls : Array Slot), va_S (fun q => s.heap.size ≤ q) s.heap H locs → RX g (fun q => s.heap.size ≤ q) a H → lv_has ls 8 [(0, .ref b), (1, .ref (a 0)), (2, .ref (a 15)), (3, .int (nI i))] → W p l e room_1 s m #[Value.ref b] below meth c H locs cells slots Q (F0 m 867 ls [])) : W p l e room_1 s m #[Value.ref b] below meth c H locs cells slots Q (F0 m 613 ls []) := by
  have hx := hF.1.1
  have hb := hF.1.2.1
  have hAB : ∀ q, (fun q => s.heap.size ≤ q) q → xB g q := fun q hq => by show g.2.2 3 ≤ q; rw [hg]; exact hq
  obtain ⟨r0, zo, zs, hr0, hI⟩ := hI
  obtain ⟨r, hre⟩ : ∃ r, r = r0 := ⟨_, rfl⟩
  rw [← hre] at hI hr0
  have hr4 := hr0
  obtain ⟨zl, zp, zr, xr, un, ug, ut, uw, zk, sl, fe, fc, fs, ge, gc, gs, w, pa, sn, tx, me, td, cl, tl, he, hc, hs, yn, yg, yt, yw, ⟨hzo, hz4, hz60, hW, hR, hSn, hsl, hHs⟩, hD, hP⟩ := hI
  have hP : va_P g.1 vwCl (WY g a zo zs zs zl zl zp zr xr un ug ut uw zk zk sl fe fc fs ge gc gs w w pa sn tx tx me td cl tl (SX g a r he hc hs yn yg yt yw) (SX g a ((r + 1) % 4) he hc hs yn yg yt yw) (SX g a ((r + 2) % 4) he hc hs yn yg yt yw) (SX g a ((r + 3) % 4) he hc hs yn yg yt yw)) H := hP
  have hD : va_D (fun q => s.heap.size ≤ q) (WY g a zo zs zs zl zl zp zr xr un ug ut uw zk zk sl fe fc fs ge gc gs w w pa sn tx tx me td cl tl (SX g a r he hc hs yn yg yt yw) (SX g a ((r + 1) % 4) he hc hs yn yg yt yw) (SX g a ((r + 2) % 4) he hc hs yn yg yt yw) (SX g a ((r + 3) % 4) he hc hs yn yg yt yw)) := hD
  refine lv_aload_n hx hb dL_law_613 rfl (lv_at hl 1 rfl) ?_
  refine lv_aload_n hx hb dL_law_614 rfl (lv_at hl 0 rfl) ?_
  refine lv_iload_n hx hb dL_law_615 rfl (lv_at hl 3 rfl) ?_
  refine xN_const hx hb 1 dL_law_616 (by decide) ?_
  refine xN_add hx hb dL_law_617 ?_
  refine xscr hF hX hbl hS (by omega) hL9 dL_law_618 ?_
  refine lv_aload_n hx hb dL_law_619 rfl (lv_at hl 0 rfl) ?_
  refine lv_iload_n hx hb dL_law_620 rfl (lv_at hl 3 rfl) ?_
  refine xN_const hx hb 2 dL_law_621 (by decide) ?_
  refine xN_add hx hb dL_law_622 ?_
  refine xscr hF hX hbl hS (by omega) hL9 dL_law_623 ?_
  refine vp_callSi (va_Run.run (xrV hF (c_X3_run l g (a 0) (a 7) (a 1) (a 11) (a 14) (a 3) (a 4) (a 5) (a 6) zk fe fc fs w hW hR (xs (i + 1)) (xs (i + 2))) cal_X3_run q_552 ⟨Nat.le_of_ble_eq_true rfl, Nat.le_of_ble_eq_true rfl⟩ rfl rfl rfl (va_recv hF.2.1 hP (ci := 3) (q0 := 0) rfl rfl) (hZ.at hS hAB) (hP.sub [0, 7, 8, 9, 10] rfl) hl.1 rfl (Nat.le_of_ble_eq_true rfl) dL_law_624 hrc)) (fun r_ h_ => ?_)
  subst h_
  refine lv_aload_n hx hb dL_law_627 rfl (lv_at hl 2 rfl) ?_
  refine lv_aload_n hx hb dL_law_628 rfl (lv_at hl 0 rfl) ?_
  refine lv_iload_n hx hb dL_law_629 rfl (lv_at hl 3 rfl) ?_
  refine xN_const hx hb 1 dL_law_630 (by decide) ?_
  refine xN_add hx hb dL_law_631 ?_
  refine xscr hF hX hbl hS (by omega) hL9 dL_law_632 ?_
  refine lv_aload_n hx hb dL_law_633 rfl (lv_at hl 0 rfl) ?_
  refine lv_iload_n hx hb dL_law_634 rfl (lv_at hl 3 rfl) ?_
  refine xN_const hx hb 2 dL_law_635 (by decide) ?_
  refine xN_add hx hb dL_law_636 ?_
  refine xscr hF hX hbl hS (by omega) hL9 dL_law_637 ?_
  refine vp_callSi (va_Run.run (xrV hF (c_X4_run l g (a 15) (a 16) (a 17) (a 18) (a 19) (a 20) (a 21) zs zl zp zr zk w hW (xs (i + 1)) (xs (i + 2))) cal_X4_run q_556 ⟨Nat.le_of_ble_eq_true rfl, Nat.le_of_ble_eq_true rfl⟩ rfl rfl rfl (va_recv hF.2.1 hP (ci := 4) (q0 := 19) rfl rfl) (hZ.at hS hAB) (hP.sub [19, 20] rfl) hl.1 rfl (Nat.le_of_ble_eq_true rfl) dL_law_638 hrc)) (fun r_ h_ => ?_)
  subst h_
  refine lv_icmp_eq (tgt := 867) hx hb dL_law_641 (by decide) (fun _ => ?_) (fun h => absurd (rfl) h)
  exact kk H locs ls hS ⟨r, zo, zs, hr4, zl, zp, zr, xr, un, ug, ut, uw, zk, sl, fe, fc, fs, ge, gc, gs, w, pa, sn, tx, me, td, cl, tl, he, hc, hs, yn, yg, yt, yw, ⟨hzo, hz4, hz60, hW, hR, hSn, hsl, hHs⟩, hD, hP⟩ hl
set_option maxHeartbeats 4000000 in
set_option maxRecDepth 100000 in
theorem law_squareBits (l : Launch) (g : XG) (a : Nat → Nat) {p : Program} {e : Env} {s : State} {m : MethodId} {below : List Frame} {meth : Method} {c : Code} {b L9 i cells slots : Nat} {xs : Nat → Int32} {Q : State → Prop} {H : Heap} {locs : List Loc} {ls : Array Slot} (hF : FX p s m #[Value.ref b] c code 8 RL g) (hZ : ZS g s s.heap) (hX : va_X b L9 xs s s.heap) (hbl : b < s.heap.size) (hg : g.2.2 3 = s.heap.size) (hrc : cells ≤ 600000 ∧ slots ≤ 7302250) (hi : i + 5 ≤ L9) (hL9 : L9 ≤ 2560) (hS : va_S (fun q => s.heap.size ≤ q) s.heap H locs) (hI : RX g (fun q => s.heap.size ≤ q) a H) (hl : lv_has ls 8 [(0, .ref b), (1, .ref (a 0)), (2, .ref (a 15)), (3, .int (nI i))]) (kk : ∀ (H : Heap) (locs : List Loc) (ls : Array Slot), va_S (fun q => s.heap.size ≤ q) s.heap H locs → RX g (fun q => s.heap.size ≤ q) a H → lv_has ls 8 [(0, .ref b), (1, .ref (a 0)), (2, .ref (a 15)), (3, .int (nI i))] → W p l e room_1 s m #[Value.ref b] below meth c H locs cells slots Q (F0 m 867 ls [])) : W p l e room_1 s m #[Value.ref b] below meth c H locs cells slots Q (F0 m 768 ls []) := by
  have hx := hF.1.1
  have hb := hF.1.2.1
  have hAB : ∀ q, (fun q => s.heap.size ≤ q) q → xB g q := fun q hq => by show g.2.2 3 ≤ q; rw [hg]; exact hq
  obtain ⟨r0, zo, zs, hr0, hI⟩ := hI
  obtain ⟨r, hre⟩ : ∃ r, r = r0 := ⟨_, rfl⟩
  rw [← hre] at hI hr0
  have hr4 := hr0
  obtain ⟨zl, zp, zr, xr, un, ug, ut, uw, zk, sl, fe, fc, fs, ge, gc, gs, w, pa, sn, tx, me, td, cl, tl, he, hc, hs, yn, yg, yt, yw, ⟨hzo, hz4, hz60, hW, hR, hSn, hsl, hHs⟩, hD, hP⟩ := hI
  have hP : va_P g.1 vwCl (WY g a zo zs zs zl zl zp zr xr un ug ut uw zk zk sl fe fc fs ge gc gs w w pa sn tx tx me td cl tl (SX g a r he hc hs yn yg yt yw) (SX g a ((r + 1) % 4) he hc hs yn yg yt yw) (SX g a ((r + 2) % 4) he hc hs yn yg yt yw) (SX g a ((r + 3) % 4) he hc hs yn yg yt yw)) H := hP
  have hD : va_D (fun q => s.heap.size ≤ q) (WY g a zo zs zs zl zl zp zr xr un ug ut uw zk zk sl fe fc fs ge gc gs w w pa sn tx tx me td cl tl (SX g a r he hc hs yn yg yt yw) (SX g a ((r + 1) % 4) he hc hs yn yg yt yw) (SX g a ((r + 2) % 4) he hc hs yn yg yt yw) (SX g a ((r + 3) % 4) he hc hs yn yg yt yw)) := hD
  refine lv_aload_n hx hb dL_law_768 rfl (lv_at hl 1 rfl) ?_
  refine lv_aload_n hx hb dL_law_769 rfl (lv_at hl 0 rfl) ?_
  refine lv_iload_n hx hb dL_law_770 rfl (lv_at hl 3 rfl) ?_
  refine xN_const hx hb 1 dL_law_771 (by decide) ?_
  refine xN_add hx hb dL_law_772 ?_
  refine xscr hF hX hbl hS (by omega) hL9 dL_law_773 ?_
  refine lv_aload_n hx hb dL_law_774 rfl (lv_at hl 0 rfl) ?_
  refine lv_iload_n hx hb dL_law_775 rfl (lv_at hl 3 rfl) ?_
  refine xN_const hx hb 2 dL_law_776 (by decide) ?_
  refine xN_add hx hb dL_law_777 ?_
  refine xscr hF hX hbl hS (by omega) hL9 dL_law_778 ?_
  refine vp_callSi (va_Run.run (xrV hF (c_X3_squareBits l g (a 0) (a 7) (a 1) (a 11) (a 14) (a 3) (a 4) (a 5) (a 6) zk fe fc fs w hW hR (xs (i + 1)) (xs (i + 2))) cal_X3_squareBits q_605 ⟨Nat.le_of_ble_eq_true rfl, Nat.le_of_ble_eq_true rfl⟩ rfl rfl rfl (va_recv hF.2.1 hP (ci := 3) (q0 := 0) rfl rfl) (hZ.at hS hAB) (hP.sub [0, 7, 8, 9, 10] rfl) hl.1 rfl (Nat.le_of_ble_eq_true rfl) dL_law_779 hrc)) (fun r_ h_ => ?_)
  subst h_
  refine lv_aload_n hx hb dL_law_782 rfl (lv_at hl 2 rfl) ?_
  refine lv_aload_n hx hb dL_law_783 rfl (lv_at hl 0 rfl) ?_
  refine lv_iload_n hx hb dL_law_784 rfl (lv_at hl 3 rfl) ?_
  refine xN_const hx hb 1 dL_law_785 (by decide) ?_
  refine xN_add hx hb dL_law_786 ?_
  refine xscr hF hX hbl hS (by omega) hL9 dL_law_787 ?_
  refine lv_aload_n hx hb dL_law_788 rfl (lv_at hl 0 rfl) ?_
  refine lv_iload_n hx hb dL_law_789 rfl (lv_at hl 3 rfl) ?_
  refine xN_const hx hb 2 dL_law_790 (by decide) ?_
  refine xN_add hx hb dL_law_791 ?_
  refine xscr hF hX hbl hS (by omega) hL9 dL_law_792 ?_
  refine vp_callSi (va_Run.run (xrV hF (c_X4_squareBits l g (a 15) (a 16) (a 17) (a 18) (a 19) (a 20) (a 21) zs zl zp zr zk w hW (xs (i + 1)) (xs (i + 2))) cal_X4_squareBits q_614 ⟨Nat.le_of_ble_eq_true rfl, Nat.le_of_ble_eq_true rfl⟩ rfl rfl rfl (va_recv hF.2.1 hP (ci := 4) (q0 := 19) rfl rfl) (hZ.at hS hAB) (hP.sub [19, 20] rfl) hl.1 rfl (Nat.le_of_ble_eq_true rfl) dL_law_793 hrc)) (fun r_ h_ => ?_)
  subst h_
  refine lv_icmp_eq (tgt := 867) hx hb dL_law_796 (by decide) (fun _ => ?_) (fun h => absurd (rfl) h)
  exact kk H locs ls hS ⟨r, zo, zs, hr4, zl, zp, zr, xr, un, ug, ut, uw, zk, sl, fe, fc, fs, ge, gc, gs, w, pa, sn, tx, me, td, cl, tl, he, hc, hs, yn, yg, yt, yw, ⟨hzo, hz4, hz60, hW, hR, hSn, hsl, hHs⟩, hD, hP⟩ hl
set_option maxHeartbeats 4000000 in
set_option maxRecDepth 100000 in
theorem law_north (l : Launch) (g : XG) (a : Nat → Nat) {p : Program} {e : Env} {s : State} {m : MethodId} {below : List Frame} {meth : Method} {c : Code} {b L9 i cells slots : Nat} {xs : Nat → Int32} {Q : State → Prop} {H : Heap} {locs : List Loc} {ls : Array Slot} (hF : FX p s m #[Value.ref b] c code 8 RL g) (hZ : ZS g s s.heap) (hX : va_X b L9 xs s s.heap) (hbl : b < s.heap.size) (hg : g.2.2 3 = s.heap.size) (hrc : cells ≤ 600000 ∧ slots ≤ 7302250) (hi : i + 5 ≤ L9) (hL9 : L9 ≤ 2560) (hS : va_S (fun q => s.heap.size ≤ q) s.heap H locs) (hI : RX g (fun q => s.heap.size ≤ q) a H) (hl : lv_has ls 8 [(0, .ref b), (1, .ref (a 0)), (2, .ref (a 15)), (3, .int (nI i))]) (kk : ∀ (H : Heap) (locs : List Loc) (ls : Array Slot), va_S (fun q => s.heap.size ≤ q) s.heap H locs → RX g (fun q => s.heap.size ≤ q) a H → lv_has ls 8 [(0, .ref b), (1, .ref (a 0)), (2, .ref (a 15)), (3, .int (nI i))] → W p l e room_1 s m #[Value.ref b] below meth c H locs cells slots Q (F0 m 867 ls [])) : W p l e room_1 s m #[Value.ref b] below meth c H locs cells slots Q (F0 m 646 ls []) := by
  have hx := hF.1.1
  have hb := hF.1.2.1
  have hAB : ∀ q, (fun q => s.heap.size ≤ q) q → xB g q := fun q hq => by show g.2.2 3 ≤ q; rw [hg]; exact hq
  obtain ⟨r0, zo, zs, hr0, hI⟩ := hI
  obtain ⟨r, hre⟩ : ∃ r, r = r0 := ⟨_, rfl⟩
  rw [← hre] at hI hr0
  have hr4 := hr0
  obtain ⟨zl, zp, zr, xr, un, ug, ut, uw, zk, sl, fe, fc, fs, ge, gc, gs, w, pa, sn, tx, me, td, cl, tl, he, hc, hs, yn, yg, yt, yw, ⟨hzo, hz4, hz60, hW, hR, hSn, hsl, hHs⟩, hD, hP⟩ := hI
  have hP : va_P g.1 vwCl (WY g a zo zs zs zl zl zp zr xr un ug ut uw zk zk sl fe fc fs ge gc gs w w pa sn tx tx me td cl tl (SX g a r he hc hs yn yg yt yw) (SX g a ((r + 1) % 4) he hc hs yn yg yt yw) (SX g a ((r + 2) % 4) he hc hs yn yg yt yw) (SX g a ((r + 3) % 4) he hc hs yn yg yt yw)) H := hP
  have hD : va_D (fun q => s.heap.size ≤ q) (WY g a zo zs zs zl zl zp zr xr un ug ut uw zk zk sl fe fc fs ge gc gs w w pa sn tx tx me td cl tl (SX g a r he hc hs yn yg yt yw) (SX g a ((r + 1) % 4) he hc hs yn yg yt yw) (SX g a ((r + 2) % 4) he hc hs yn yg yt yw) (SX g a ((r + 3) % 4) he hc hs yn yg yt yw)) := hD
  refine lv_aload_n hx hb dL_law_646 rfl (lv_at hl 1 rfl) ?_
  refine lv_aload_n hx hb dL_law_647 rfl (lv_at hl 0 rfl) ?_
  refine lv_iload_n hx hb dL_law_648 rfl (lv_at hl 3 rfl) ?_
  refine xN_const hx hb 1 dL_law_649 (by decide) ?_
  refine xN_add hx hb dL_law_650 ?_
  refine xscr hF hX hbl hS (by omega) hL9 dL_law_651 ?_
  refine lv_aload_n hx hb dL_law_652 rfl (lv_at hl 0 rfl) ?_
  refine lv_iload_n hx hb dL_law_653 rfl (lv_at hl 3 rfl) ?_
  refine xN_const hx hb 2 dL_law_654 (by decide) ?_
  refine xN_add hx hb dL_law_655 ?_
  refine xscr hF hX hbl hS (by omega) hL9 dL_law_656 ?_
  refine vp_callSd (va_Run.run (xrV hF (c_X3_north l g (a 0) (a 7) (a 1) (a 11) (a 14) (a 3) (a 4) (a 5) (a 6) zk fe fc fs w hW hR (xs (i + 1)) (xs (i + 2))) cal_X3_north q_564 ⟨Nat.le_of_ble_eq_true rfl, Nat.le_of_ble_eq_true rfl⟩ rfl rfl rfl (va_recv hF.2.1 hP (ci := 3) (q0 := 0) rfl rfl) (hZ.at hS hAB) (hP.sub [0, 7, 8, 9, 10] rfl) hl.1 rfl (Nat.le_of_ble_eq_true rfl) dL_law_657 hrc)) (fun r_ h_ => ?_)
  subst h_
  refine lv_dstore (lv' := [(4, .double (nthA w 0 (xs (i + 1)) (xs (i + 2)))), (0, .ref (b)), (1, .ref (a 0)), (2, .ref (a 15)), (3, .int (nI (i)))]) hx hb dL_law_660 hl (by decide) rfl (fun ls hl => ?_)
  refine lv_aload_n hx hb dL_law_662 rfl (lv_at hl 3 rfl) ?_
  refine lv_aload_n hx hb dL_law_663 rfl (lv_at hl 1 rfl) ?_
  refine lv_iload_n hx hb dL_law_664 rfl (lv_at hl 4 rfl) ?_
  refine xN_const hx hb 1 dL_law_665 (by decide) ?_
  refine xN_add hx hb dL_law_666 ?_
  refine xscr hF hX hbl hS (by omega) hL9 dL_law_667 ?_
  refine lv_aload_n hx hb dL_law_668 rfl (lv_at hl 1 rfl) ?_
  refine lv_iload_n hx hb dL_law_669 rfl (lv_at hl 4 rfl) ?_
  refine xN_const hx hb 2 dL_law_670 (by decide) ?_
  refine xN_add hx hb dL_law_671 ?_
  refine xscr hF hX hbl hS (by omega) hL9 dL_law_672 ?_
  refine vp_callSd (va_Run.run (xrV hF (c_X4_north l g (a 15) (a 16) (a 17) (a 18) (a 19) (a 20) (a 21) zs zl zp zr zk w hW (xs (i + 1)) (xs (i + 2))) cal_X4_north q_581 ⟨Nat.le_of_ble_eq_true rfl, Nat.le_of_ble_eq_true rfl⟩ rfl rfl rfl (va_recv hF.2.1 hP (ci := 4) (q0 := 19) rfl rfl) (hZ.at hS hAB) (hP.sub [19, 20] rfl) hl.1 rfl (Nat.le_of_ble_eq_true rfl) dL_law_673 hrc)) (fun r_ h_ => ?_)
  subst h_
  refine lv_dstore (lv' := [(6, .double (nthA w 0 (xs (i + 1)) (xs (i + 2)))), (4, .double (nthA w 0 (xs (i + 1)) (xs (i + 2)))), (0, .ref (b)), (1, .ref (a 0)), (2, .ref (a 15)), (3, .int (nI (i)))]) hx hb dL_law_676 hl (by decide) rfl (fun ls hl => ?_)
  refine lv_dload hx hb dL_law_678 (lv_at hl 1 rfl) ?_
  refine lv_dload hx hb dL_law_680 (lv_at hl 0 rfl) ?_
  refine lv_dcmp hx hb dL_law_682 ?_
  refine lv_if_eq (tgt := 704) hx hb dL_law_683 (by decide) (fun _ => ?_) (fun h => absurd (dcmp_self (nthA_nn hW 0 _ _)) h)
  refine lv_goto (tgt := 867) hx hb dL_law_704 (by decide) ?_
  have hl : lv_has ls 8 [(0, .ref b), (1, .ref (a 0)), (2, .ref (a 15)), (3, .int (nI i))] := lv_sub hl [2, 3, 4, 5] rfl
  exact kk H locs ls hS ⟨r, zo, zs, hr4, zl, zp, zr, xr, un, ug, ut, uw, zk, sl, fe, fc, fs, ge, gc, gs, w, pa, sn, tx, me, td, cl, tl, he, hc, hs, yn, yg, yt, yw, ⟨hzo, hz4, hz60, hW, hR, hSn, hsl, hHs⟩, hD, hP⟩ hl
set_option maxHeartbeats 4000000 in
set_option maxRecDepth 100000 in
theorem law_east (l : Launch) (g : XG) (a : Nat → Nat) {p : Program} {e : Env} {s : State} {m : MethodId} {below : List Frame} {meth : Method} {c : Code} {b L9 i cells slots : Nat} {xs : Nat → Int32} {Q : State → Prop} {H : Heap} {locs : List Loc} {ls : Array Slot} (hF : FX p s m #[Value.ref b] c code 8 RL g) (hZ : ZS g s s.heap) (hX : va_X b L9 xs s s.heap) (hbl : b < s.heap.size) (hg : g.2.2 3 = s.heap.size) (hrc : cells ≤ 600000 ∧ slots ≤ 7302250) (hi : i + 5 ≤ L9) (hL9 : L9 ≤ 2560) (hS : va_S (fun q => s.heap.size ≤ q) s.heap H locs) (hI : RX g (fun q => s.heap.size ≤ q) a H) (hl : lv_has ls 8 [(0, .ref b), (1, .ref (a 0)), (2, .ref (a 15)), (3, .int (nI i))]) (kk : ∀ (H : Heap) (locs : List Loc) (ls : Array Slot), va_S (fun q => s.heap.size ≤ q) s.heap H locs → RX g (fun q => s.heap.size ≤ q) a H → lv_has ls 8 [(0, .ref b), (1, .ref (a 0)), (2, .ref (a 15)), (3, .int (nI i))] → W p l e room_1 s m #[Value.ref b] below meth c H locs cells slots Q (F0 m 867 ls [])) : W p l e room_1 s m #[Value.ref b] below meth c H locs cells slots Q (F0 m 707 ls []) := by
  have hx := hF.1.1
  have hb := hF.1.2.1
  have hAB : ∀ q, (fun q => s.heap.size ≤ q) q → xB g q := fun q hq => by show g.2.2 3 ≤ q; rw [hg]; exact hq
  obtain ⟨r0, zo, zs, hr0, hI⟩ := hI
  obtain ⟨r, hre⟩ : ∃ r, r = r0 := ⟨_, rfl⟩
  rw [← hre] at hI hr0
  have hr4 := hr0
  obtain ⟨zl, zp, zr, xr, un, ug, ut, uw, zk, sl, fe, fc, fs, ge, gc, gs, w, pa, sn, tx, me, td, cl, tl, he, hc, hs, yn, yg, yt, yw, ⟨hzo, hz4, hz60, hW, hR, hSn, hsl, hHs⟩, hD, hP⟩ := hI
  have hP : va_P g.1 vwCl (WY g a zo zs zs zl zl zp zr xr un ug ut uw zk zk sl fe fc fs ge gc gs w w pa sn tx tx me td cl tl (SX g a r he hc hs yn yg yt yw) (SX g a ((r + 1) % 4) he hc hs yn yg yt yw) (SX g a ((r + 2) % 4) he hc hs yn yg yt yw) (SX g a ((r + 3) % 4) he hc hs yn yg yt yw)) H := hP
  have hD : va_D (fun q => s.heap.size ≤ q) (WY g a zo zs zs zl zl zp zr xr un ug ut uw zk zk sl fe fc fs ge gc gs w w pa sn tx tx me td cl tl (SX g a r he hc hs yn yg yt yw) (SX g a ((r + 1) % 4) he hc hs yn yg yt yw) (SX g a ((r + 2) % 4) he hc hs yn yg yt yw) (SX g a ((r + 3) % 4) he hc hs yn yg yt yw)) := hD
  refine lv_aload_n hx hb dL_law_707 rfl (lv_at hl 1 rfl) ?_
  refine lv_aload_n hx hb dL_law_708 rfl (lv_at hl 0 rfl) ?_
  refine lv_iload_n hx hb dL_law_709 rfl (lv_at hl 3 rfl) ?_
  refine xN_const hx hb 1 dL_law_710 (by decide) ?_
  refine xN_add hx hb dL_law_711 ?_
  refine xscr hF hX hbl hS (by omega) hL9 dL_law_712 ?_
  refine lv_aload_n hx hb dL_law_713 rfl (lv_at hl 0 rfl) ?_
  refine lv_iload_n hx hb dL_law_714 rfl (lv_at hl 3 rfl) ?_
  refine xN_const hx hb 2 dL_law_715 (by decide) ?_
  refine xN_add hx hb dL_law_716 ?_
  refine xscr hF hX hbl hS (by omega) hL9 dL_law_717 ?_
  refine vp_callSd (va_Run.run (xrV hF (c_X3_east l g (a 0) (a 7) (a 1) (a 11) (a 14) (a 3) (a 4) (a 5) (a 6) zk fe fc fs w hW hR (xs (i + 1)) (xs (i + 2))) cal_X3_east q_597 ⟨Nat.le_of_ble_eq_true rfl, Nat.le_of_ble_eq_true rfl⟩ rfl rfl rfl (va_recv hF.2.1 hP (ci := 3) (q0 := 0) rfl rfl) (hZ.at hS hAB) (hP.sub [0, 7, 8, 9, 10] rfl) hl.1 rfl (Nat.le_of_ble_eq_true rfl) dL_law_718 hrc)) (fun r_ h_ => ?_)
  subst h_
  refine lv_dstore (lv' := [(4, .double (nthA w 6 (xs (i + 1)) (xs (i + 2)))), (0, .ref (b)), (1, .ref (a 0)), (2, .ref (a 15)), (3, .int (nI (i)))]) hx hb dL_law_721 hl (by decide) rfl (fun ls hl => ?_)
  refine lv_aload_n hx hb dL_law_723 rfl (lv_at hl 3 rfl) ?_
  refine lv_aload_n hx hb dL_law_724 rfl (lv_at hl 1 rfl) ?_
  refine lv_iload_n hx hb dL_law_725 rfl (lv_at hl 4 rfl) ?_
  refine xN_const hx hb 1 dL_law_726 (by decide) ?_
  refine xN_add hx hb dL_law_727 ?_
  refine xscr hF hX hbl hS (by omega) hL9 dL_law_728 ?_
  refine lv_aload_n hx hb dL_law_729 rfl (lv_at hl 1 rfl) ?_
  refine lv_iload_n hx hb dL_law_730 rfl (lv_at hl 4 rfl) ?_
  refine xN_const hx hb 2 dL_law_731 (by decide) ?_
  refine xN_add hx hb dL_law_732 ?_
  refine xscr hF hX hbl hS (by omega) hL9 dL_law_733 ?_
  refine vp_callSd (va_Run.run (xrV hF (c_X4_east l g (a 15) (a 16) (a 17) (a 18) (a 19) (a 20) (a 21) zs zl zp zr zk w hW (xs (i + 1)) (xs (i + 2))) cal_X4_east q_601 ⟨Nat.le_of_ble_eq_true rfl, Nat.le_of_ble_eq_true rfl⟩ rfl rfl rfl (va_recv hF.2.1 hP (ci := 4) (q0 := 19) rfl rfl) (hZ.at hS hAB) (hP.sub [19, 20] rfl) hl.1 rfl (Nat.le_of_ble_eq_true rfl) dL_law_734 hrc)) (fun r_ h_ => ?_)
  subst h_
  refine lv_dstore (lv' := [(6, .double (nthA w 6 (xs (i + 1)) (xs (i + 2)))), (4, .double (nthA w 6 (xs (i + 1)) (xs (i + 2)))), (0, .ref (b)), (1, .ref (a 0)), (2, .ref (a 15)), (3, .int (nI (i)))]) hx hb dL_law_737 hl (by decide) rfl (fun ls hl => ?_)
  refine lv_dload hx hb dL_law_739 (lv_at hl 1 rfl) ?_
  refine lv_dload hx hb dL_law_741 (lv_at hl 0 rfl) ?_
  refine lv_dcmp hx hb dL_law_743 ?_
  refine lv_if_eq (tgt := 765) hx hb dL_law_744 (by decide) (fun _ => ?_) (fun h => absurd (dcmp_self (nthA_nn hW 6 _ _)) h)
  refine lv_goto (tgt := 867) hx hb dL_law_765 (by decide) ?_
  have hl : lv_has ls 8 [(0, .ref b), (1, .ref (a 0)), (2, .ref (a 15)), (3, .int (nI i))] := lv_sub hl [2, 3, 4, 5] rfl
  exact kk H locs ls hS ⟨r, zo, zs, hr4, zl, zp, zr, xr, un, ug, ut, uw, zk, sl, fe, fc, fs, ge, gc, gs, w, pa, sn, tx, me, td, cl, tl, he, hc, hs, yn, yg, yt, yw, ⟨hzo, hz4, hz60, hW, hR, hSn, hsl, hHs⟩, hD, hP⟩ hl
set_option maxHeartbeats 4000000 in
set_option maxRecDepth 100000 in
theorem law_count (l : Launch) (g : XG) (a : Nat → Nat) {p : Program} {e : Env} {s : State} {m : MethodId} {below : List Frame} {meth : Method} {c : Code} {b L9 i cells slots : Nat} {xs : Nat → Int32} {Q : State → Prop} {H : Heap} {locs : List Loc} {ls : Array Slot} (hF : FX p s m #[Value.ref b] c code 8 RL g) (hZ : ZS g s s.heap) (hX : va_X b L9 xs s s.heap) (hbl : b < s.heap.size) (hg : g.2.2 3 = s.heap.size) (hrc : cells ≤ 600000 ∧ slots ≤ 7302250) (hi : i + 5 ≤ L9) (hL9 : L9 ≤ 2560) (hS : va_S (fun q => s.heap.size ≤ q) s.heap H locs) (hI : RX g (fun q => s.heap.size ≤ q) a H) (hl : lv_has ls 8 [(0, .ref b), (1, .ref (a 0)), (2, .ref (a 15)), (3, .int (nI i))]) (kk : ∀ (H : Heap) (locs : List Loc) (ls : Array Slot), va_S (fun q => s.heap.size ≤ q) s.heap H locs → RX g (fun q => s.heap.size ≤ q) a H → lv_has ls 8 [(0, .ref b), (1, .ref (a 0)), (2, .ref (a 15)), (3, .int (nI i))] → W p l e room_1 s m #[Value.ref b] below meth c H locs cells slots Q (F0 m 867 ls [])) : W p l e room_1 s m #[Value.ref b] below meth c H locs cells slots Q (F0 m 844 ls []) := by
  have hx := hF.1.1
  have hb := hF.1.2.1
  have hAB : ∀ q, (fun q => s.heap.size ≤ q) q → xB g q := fun q hq => by show g.2.2 3 ≤ q; rw [hg]; exact hq
  obtain ⟨r0, zo, zs, hr0, hI⟩ := hI
  obtain ⟨r, hre⟩ : ∃ r, r = r0 := ⟨_, rfl⟩
  rw [← hre] at hI hr0
  have hr4 := hr0
  obtain ⟨zl, zp, zr, xr, un, ug, ut, uw, zk, sl, fe, fc, fs, ge, gc, gs, w, pa, sn, tx, me, td, cl, tl, he, hc, hs, yn, yg, yt, yw, ⟨hzo, hz4, hz60, hW, hR, hSn, hsl, hHs⟩, hD, hP⟩ := hI
  have hP : va_P g.1 vwCl (WY g a zo zs zs zl zl zp zr xr un ug ut uw zk zk sl fe fc fs ge gc gs w w pa sn tx tx me td cl tl (SX g a r he hc hs yn yg yt yw) (SX g a ((r + 1) % 4) he hc hs yn yg yt yw) (SX g a ((r + 2) % 4) he hc hs yn yg yt yw) (SX g a ((r + 3) % 4) he hc hs yn yg yt yw)) H := hP
  have hD : va_D (fun q => s.heap.size ≤ q) (WY g a zo zs zs zl zl zp zr xr un ug ut uw zk zk sl fe fc fs ge gc gs w w pa sn tx tx me td cl tl (SX g a r he hc hs yn yg yt yw) (SX g a ((r + 1) % 4) he hc hs yn yg yt yw) (SX g a ((r + 2) % 4) he hc hs yn yg yt yw) (SX g a ((r + 3) % 4) he hc hs yn yg yt yw)) := hD
  refine lv_aload_n hx hb dL_law_844 rfl (lv_at hl 1 rfl) ?_
  refine lv_aload_n hx hb dL_law_845 rfl (lv_at hl 0 rfl) ?_
  refine lv_iload_n hx hb dL_law_846 rfl (lv_at hl 3 rfl) ?_
  refine xN_const hx hb 1 dL_law_847 (by decide) ?_
  refine xN_add hx hb dL_law_848 ?_
  refine xscr hF hX hbl hS (by omega) hL9 dL_law_849 ?_
  refine vp_callSi (va_Run.run (xrV hF (c_X3_count l g (a 0) (a 7) (a 1) (a 11) (a 14) (a 3) (a 4) (a 5) (a 6) zk fe fc fs w hW hR (a 2) zo zs (a 12) (a 13) zl xr (xs (i + 1))) cal_X3_count q_642 ⟨Nat.le_of_ble_eq_true rfl, Nat.le_of_ble_eq_true rfl⟩ rfl rfl rfl (va_recv hF.2.1 hP (ci := 3) (q0 := 0) rfl rfl) (hZ.at hS hAB) (hP.sub [0, 1, 15, 7, 8, 9, 10] rfl) hl.1 rfl (Nat.le_of_ble_eq_true rfl) dL_law_850 hrc)) (fun r_ h_ => ?_)
  subst h_
  refine lv_aload_n hx hb dL_law_853 rfl (lv_at hl 2 rfl) ?_
  refine lv_aload_n hx hb dL_law_854 rfl (lv_at hl 0 rfl) ?_
  refine lv_iload_n hx hb dL_law_855 rfl (lv_at hl 3 rfl) ?_
  refine xN_const hx hb 1 dL_law_856 (by decide) ?_
  refine xN_add hx hb dL_law_857 ?_
  refine xscr hF hX hbl hS (by omega) hL9 dL_law_858 ?_
  refine vp_callSi (va_Run.run (xrV hF (c_X4_count l g (a 15) (a 16) (a 17) (a 18) (a 19) (a 20) (a 21) zs zl zp zr zk w hW (xs (i + 1))) cal_X4_count q_666 ⟨Nat.le_of_ble_eq_true rfl, Nat.le_of_ble_eq_true rfl⟩ rfl rfl rfl (va_recv hF.2.1 hP (ci := 4) (q0 := 19) rfl rfl) (hZ.at hS hAB) (hP.sub [19, 20] rfl) hl.1 rfl (Nat.le_of_ble_eq_true rfl) dL_law_859 hrc)) (fun r_ h_ => ?_)
  subst h_
  refine lv_icmp_eq (tgt := 867) hx hb dL_law_862 (by decide) (fun _ => ?_) (fun h => absurd (rfl) h)
  exact kk H locs ls hS ⟨r, zo, zs, hr4, zl, zp, zr, xr, un, ug, ut, uw, zk, sl, fe, fc, fs, ge, gc, gs, w, pa, sn, tx, me, td, cl, tl, he, hc, hs, yn, yg, yt, yw, ⟨hzo, hz4, hz60, hW, hR, hSn, hsl, hHs⟩, hD, hP⟩ hl
set_option maxHeartbeats 4000000 in
set_option maxRecDepth 100000 in
theorem law_column (l : Launch) (g : XG) (a : Nat → Nat) {p : Program} {e : Env} {s : State} {m : MethodId} {below : List Frame} {meth : Method} {c : Code} {b L9 i cells slots : Nat} {xs : Nat → Int32} {Q : State → Prop} {H : Heap} {locs : List Loc} {ls : Array Slot} (hF : FX p s m #[Value.ref b] c code 8 RL g) (hZ : ZS g s s.heap) (hX : va_X b L9 xs s s.heap) (hbl : b < s.heap.size) (hg : g.2.2 3 = s.heap.size) (hrc : cells ≤ 600000 ∧ slots ≤ 7302250) (hi : i + 5 ≤ L9) (hL9 : L9 ≤ 2560) (hS : va_S (fun q => s.heap.size ≤ q) s.heap H locs) (hI : RX g (fun q => s.heap.size ≤ q) a H) (hl : lv_has ls 8 [(0, .ref b), (1, .ref (a 0)), (2, .ref (a 15)), (3, .int (nI i))]) (kk : ∀ (H : Heap) (locs : List Loc) (ls : Array Slot), va_S (fun q => s.heap.size ≤ q) s.heap H locs → RX g (fun q => s.heap.size ≤ q) a H → lv_has ls 8 [(0, .ref b), (1, .ref (a 0)), (2, .ref (a 15)), (3, .int (nI i))] → W p l e room_1 s m #[Value.ref b] below meth c H locs cells slots Q (F0 m 867 ls [])) : W p l e room_1 s m #[Value.ref b] below meth c H locs cells slots Q (F0 m 547 ls []) := by
  have hx := hF.1.1
  have hb := hF.1.2.1
  have hAB : ∀ q, (fun q => s.heap.size ≤ q) q → xB g q := fun q hq => by show g.2.2 3 ≤ q; rw [hg]; exact hq
  obtain ⟨r0, zo, zs, hr0, hI⟩ := hI
  obtain ⟨r, hre⟩ : ∃ r, r = r0 := ⟨_, rfl⟩
  rw [← hre] at hI hr0
  have hr4 := hr0
  obtain ⟨zl, zp, zr, xr, un, ug, ut, uw, zk, sl, fe, fc, fs, ge, gc, gs, w, pa, sn, tx, me, td, cl, tl, he, hc, hs, yn, yg, yt, yw, ⟨hzo, hz4, hz60, hW, hR, hSn, hsl, hHs⟩, hD, hP⟩ := hI
  have hP : va_P g.1 vwCl (WY g a zo zs zs zl zl zp zr xr un ug ut uw zk zk sl fe fc fs ge gc gs w w pa sn tx tx me td cl tl (SX g a r he hc hs yn yg yt yw) (SX g a ((r + 1) % 4) he hc hs yn yg yt yw) (SX g a ((r + 2) % 4) he hc hs yn yg yt yw) (SX g a ((r + 3) % 4) he hc hs yn yg yt yw)) H := hP
  have hD : va_D (fun q => s.heap.size ≤ q) (WY g a zo zs zs zl zl zp zr xr un ug ut uw zk zk sl fe fc fs ge gc gs w w pa sn tx tx me td cl tl (SX g a r he hc hs yn yg yt yw) (SX g a ((r + 1) % 4) he hc hs yn yg yt yw) (SX g a ((r + 2) % 4) he hc hs yn yg yt yw) (SX g a ((r + 3) % 4) he hc hs yn yg yt yw)) := hD
  refine lv_aload_n hx hb dL_law_547 rfl (lv_at hl 1 rfl) ?_
  refine lv_aload_n hx hb dL_law_548 rfl (lv_at hl 0 rfl) ?_
  refine lv_iload_n hx hb dL_law_549 rfl (lv_at hl 3 rfl) ?_
  refine xN_const hx hb 1 dL_law_550 (by decide) ?_
  refine xN_add hx hb dL_law_551 ?_
  refine xscr hF hX hbl hS (by omega) hL9 dL_law_552 ?_
  refine lv_aload_n hx hb dL_law_553 rfl (lv_at hl 0 rfl) ?_
  refine lv_iload_n hx hb dL_law_554 rfl (lv_at hl 3 rfl) ?_
  refine xN_const hx hb 2 dL_law_555 (by decide) ?_
  refine xN_add hx hb dL_law_556 ?_
  refine xscr hF hX hbl hS (by omega) hL9 dL_law_557 ?_
  refine xci (xrV hF (c_X3_column l g (a 0) (a 7) (a 1) (a 11) (a 14) (a 3) (a 4) (a 5) (a 6) zk fe fc fs w tl hW hR (hD.self2 [0, 7, 8, 9, 10, 18] (by decide) rfl) (fun q hq => hAB q (va_inA hD [0, 7, 8, 9, 10, 18] rfl q hq)) (xs (i + 1)) (xs (i + 2))) cal_X3_column q_453 ⟨Nat.le_of_ble_eq_true rfl, Nat.le_of_ble_eq_true rfl⟩ rfl rfl rfl (va_recv hF.2.1 hP (ci := 3) (q0 := 0) rfl rfl) (hZ.at hS hAB) (hP.sub [0, 7, 8, 9, 10, 18] rfl) hl.1 rfl (Nat.le_of_ble_eq_true rfl) dL_law_558 hrc) hS (va_inA hD [0, 7, 8, 9, 10, 18] rfl) (va_inA hD [0, 7, 8, 9, 10, 18] rfl) (fun r_ H locs hq_ hz_ hk_ hS => ?_)
  obtain ⟨rfl, tl2, hw_⟩ := hq_
  have hP : va_P g.1 vwCl (WY g a zo zs zs zl zl zp zr xr un ug ut uw zk zk sl fe fc fs ge gc gs w w pa sn tx tx me td cl tl2 (SX g a r he hc hs yn yg yt yw) (SX g a ((r + 1) % 4) he hc hs yn yg yt yw) (SX g a ((r + 2) % 4) he hc hs yn yg yt yw) (SX g a ((r + 3) % 4) he hc hs yn yg yt yw)) H := xjoin hP hD hw_ hk_ [0, 7, 8, 9, 10, 18] [(true, 0), (false, 1), (false, 2), (false, 3), (false, 4), (false, 5), (false, 6), (true, 1), (true, 2), (true, 3), (true, 4), (false, 11), (false, 12), (false, 13), (false, 14), (false, 15), (false, 16), (false, 17), (true, 5), (false, 19), (false, 20), (false, 21), (false, 22), (false, 23), (false, 24), (false, 25), (false, 26), (false, 27), (false, 28), (false, 29), (false, 30), (false, 31), (false, 32), (false, 33), (false, 34), (false, 35), (false, 36), (false, 37)] rfl rfl rfl
  have hD : va_D (fun q => s.heap.size ≤ q) (WY g a zo zs zs zl zl zp zr xr un ug ut uw zk zk sl fe fc fs ge gc gs w w pa sn tx tx me td cl tl2 (SX g a r he hc hs yn yg yt yw) (SX g a ((r + 1) % 4) he hc hs yn yg yt yw) (SX g a ((r + 2) % 4) he hc hs yn yg yt yw) (SX g a ((r + 3) % 4) he hc hs yn yg yt yw)) := va_D_eqL [a 0, a 1, a 2, a (30 + r), a (40 + r), a (50 + r), a (60 + r), a 3, a 4, a 5, a 6, a 7, a 8, a 9, a 10, a 11, a 12, a 13, a 14, a 15, a 16, a 17, a 18, a 19, a 20, a 21, a (30 + (r + 1) % 4), a (40 + (r + 1) % 4), a (50 + (r + 1) % 4), a (60 + (r + 1) % 4), a (30 + (r + 2) % 4), a (40 + (r + 2) % 4), a (50 + (r + 2) % 4), a (60 + (r + 2) % 4), a (30 + (r + 3) % 4), a (40 + (r + 3) % 4), a (50 + (r + 3) % 4), a (60 + (r + 3) % 4)] rfl rfl hD
  refine lv_aload_n hx hb dL_law_561 rfl (lv_at hl 2 rfl) ?_
  refine lv_aload_n hx hb dL_law_562 rfl (lv_at hl 0 rfl) ?_
  refine lv_iload_n hx hb dL_law_563 rfl (lv_at hl 3 rfl) ?_
  refine xN_const hx hb 1 dL_law_564 (by decide) ?_
  refine xN_add hx hb dL_law_565 ?_
  refine xscr hF hX hbl hS (by omega) hL9 dL_law_566 ?_
  refine lv_aload_n hx hb dL_law_567 rfl (lv_at hl 0 rfl) ?_
  refine lv_iload_n hx hb dL_law_568 rfl (lv_at hl 3 rfl) ?_
  refine xN_const hx hb 2 dL_law_569 (by decide) ?_
  refine xN_add hx hb dL_law_570 ?_
  refine xscr hF hX hbl hS (by omega) hL9 dL_law_571 ?_
  refine vp_callSi (va_Run.run (xrV hF (c_X4_column l g (a 15) (a 16) (a 17) (a 18) (a 19) (a 20) (a 21) zs zl zp zr zk w hW (xs (i + 1)) (xs (i + 2))) cal_X4_column q_483 ⟨Nat.le_of_ble_eq_true rfl, Nat.le_of_ble_eq_true rfl⟩ rfl rfl rfl (va_recv hF.2.1 hP (ci := 4) (q0 := 19) rfl rfl) (hZ.at hS hAB) (hP.sub [19, 20] rfl) hl.1 rfl (Nat.le_of_ble_eq_true rfl) dL_law_572 hrc)) (fun r_ h_ => ?_)
  subst h_
  refine lv_icmp_eq (tgt := 867) hx hb dL_law_575 (by decide) (fun _ => ?_) (fun h => absurd (rfl) h)
  exact kk H locs ls hS ⟨r, zo, zs, hr4, zl, zp, zr, xr, un, ug, ut, uw, zk, sl, fe, fc, fs, ge, gc, gs, w, pa, sn, tx, me, td, cl, tl2, he, hc, hs, yn, yg, yt, yw, ⟨hzo, hz4, hz60, hW, hR, hSn, hsl, hHs⟩, hD, hP⟩ hl
set_option maxHeartbeats 4000000 in
set_option maxRecDepth 100000 in
theorem law_watch (l : Launch) (g : XG) (a : Nat → Nat) {p : Program} {e : Env} {s : State} {m : MethodId} {below : List Frame} {meth : Method} {c : Code} {b L9 i cells slots : Nat} {xs : Nat → Int32} {Q : State → Prop} {H : Heap} {locs : List Loc} {ls : Array Slot} (hF : FX p s m #[Value.ref b] c code 8 RL g) (hZ : ZS g s s.heap) (hX : va_X b L9 xs s s.heap) (hbl : b < s.heap.size) (hg : g.2.2 3 = s.heap.size) (hrc : cells ≤ 600000 ∧ slots ≤ 7302250) (hi : i + 5 ≤ L9) (hL9 : L9 ≤ 2560) (hS : va_S (fun q => s.heap.size ≤ q) s.heap H locs) (hI : RX g (fun q => s.heap.size ≤ q) a H) (hl : lv_has ls 8 [(0, .ref b), (1, .ref (a 0)), (2, .ref (a 15)), (3, .int (nI i))]) (kk : ∀ (H : Heap) (locs : List Loc) (ls : Array Slot), va_S (fun q => s.heap.size ≤ q) s.heap H locs → RX g (fun q => s.heap.size ≤ q) a H → lv_has ls 8 [(0, .ref b), (1, .ref (a 0)), (2, .ref (a 15)), (3, .int (nI i))] → W p l e room_1 s m #[Value.ref b] below meth c H locs cells slots Q (F0 m 867 ls [])) : W p l e room_1 s m #[Value.ref b] below meth c H locs cells slots Q (F0 m 580 ls []) := by
  have hx := hF.1.1
  have hb := hF.1.2.1
  have hAB : ∀ q, (fun q => s.heap.size ≤ q) q → xB g q := fun q hq => by show g.2.2 3 ≤ q; rw [hg]; exact hq
  obtain ⟨r0, zo, zs, hr0, hI⟩ := hI
  obtain ⟨r, hre⟩ : ∃ r, r = r0 := ⟨_, rfl⟩
  rw [← hre] at hI hr0
  have hr4 := hr0
  obtain ⟨zl, zp, zr, xr, un, ug, ut, uw, zk, sl, fe, fc, fs, ge, gc, gs, w, pa, sn, tx, me, td, cl, tl, he, hc, hs, yn, yg, yt, yw, ⟨hzo, hz4, hz60, hW, hR, hSn, hsl, hHs⟩, hD, hP⟩ := hI
  have hP : va_P g.1 vwCl (WY g a zo zs zs zl zl zp zr xr un ug ut uw zk zk sl fe fc fs ge gc gs w w pa sn tx tx me td cl tl (SX g a r he hc hs yn yg yt yw) (SX g a ((r + 1) % 4) he hc hs yn yg yt yw) (SX g a ((r + 2) % 4) he hc hs yn yg yt yw) (SX g a ((r + 3) % 4) he hc hs yn yg yt yw)) H := hP
  have hD : va_D (fun q => s.heap.size ≤ q) (WY g a zo zs zs zl zl zp zr xr un ug ut uw zk zk sl fe fc fs ge gc gs w w pa sn tx tx me td cl tl (SX g a r he hc hs yn yg yt yw) (SX g a ((r + 1) % 4) he hc hs yn yg yt yw) (SX g a ((r + 2) % 4) he hc hs yn yg yt yw) (SX g a ((r + 3) % 4) he hc hs yn yg yt yw)) := hD
  refine lv_aload_n hx hb dL_law_580 rfl (lv_at hl 1 rfl) ?_
  refine lv_aload_n hx hb dL_law_581 rfl (lv_at hl 0 rfl) ?_
  refine lv_iload_n hx hb dL_law_582 rfl (lv_at hl 3 rfl) ?_
  refine xN_const hx hb 1 dL_law_583 (by decide) ?_
  refine xN_add hx hb dL_law_584 ?_
  refine xscr hF hX hbl hS (by omega) hL9 dL_law_585 ?_
  refine lv_aload_n hx hb dL_law_586 rfl (lv_at hl 0 rfl) ?_
  refine lv_iload_n hx hb dL_law_587 rfl (lv_at hl 3 rfl) ?_
  refine xN_const hx hb 2 dL_law_588 (by decide) ?_
  refine xN_add hx hb dL_law_589 ?_
  refine xscr hF hX hbl hS (by omega) hL9 dL_law_590 ?_
  refine xci (xrV hF (c_X3_watch l g (a 0) (a 7) (a 1) (a 11) (a 14) (a 3) (a 4) (a 5) (a 6) zk fe fc fs w tl hW hR (hD.self2 [0, 7, 8, 9, 10, 18] (by decide) rfl) (fun q hq => hAB q (va_inA hD [0, 7, 8, 9, 10, 18] rfl q hq)) (xs (i + 1)) (xs (i + 2))) cal_X3_watch q_511 ⟨Nat.le_of_ble_eq_true rfl, Nat.le_of_ble_eq_true rfl⟩ rfl rfl rfl (va_recv hF.2.1 hP (ci := 3) (q0 := 0) rfl rfl) (hZ.at hS hAB) (hP.sub [0, 7, 8, 9, 10, 18] rfl) hl.1 rfl (Nat.le_of_ble_eq_true rfl) dL_law_591 hrc) hS (va_inA hD [0, 7, 8, 9, 10, 18] rfl) (va_inA hD [0, 7, 8, 9, 10, 18] rfl) (fun r_ H locs hq_ hz_ hk_ hS => ?_)
  obtain ⟨rfl, tl2, hw_⟩ := hq_
  have hP : va_P g.1 vwCl (WY g a zo zs zs zl zl zp zr xr un ug ut uw zk zk sl fe fc fs ge gc gs w w pa sn tx tx me td cl tl2 (SX g a r he hc hs yn yg yt yw) (SX g a ((r + 1) % 4) he hc hs yn yg yt yw) (SX g a ((r + 2) % 4) he hc hs yn yg yt yw) (SX g a ((r + 3) % 4) he hc hs yn yg yt yw)) H := xjoin hP hD hw_ hk_ [0, 7, 8, 9, 10, 18] [(true, 0), (false, 1), (false, 2), (false, 3), (false, 4), (false, 5), (false, 6), (true, 1), (true, 2), (true, 3), (true, 4), (false, 11), (false, 12), (false, 13), (false, 14), (false, 15), (false, 16), (false, 17), (true, 5), (false, 19), (false, 20), (false, 21), (false, 22), (false, 23), (false, 24), (false, 25), (false, 26), (false, 27), (false, 28), (false, 29), (false, 30), (false, 31), (false, 32), (false, 33), (false, 34), (false, 35), (false, 36), (false, 37)] rfl rfl rfl
  have hD : va_D (fun q => s.heap.size ≤ q) (WY g a zo zs zs zl zl zp zr xr un ug ut uw zk zk sl fe fc fs ge gc gs w w pa sn tx tx me td cl tl2 (SX g a r he hc hs yn yg yt yw) (SX g a ((r + 1) % 4) he hc hs yn yg yt yw) (SX g a ((r + 2) % 4) he hc hs yn yg yt yw) (SX g a ((r + 3) % 4) he hc hs yn yg yt yw)) := va_D_eqL [a 0, a 1, a 2, a (30 + r), a (40 + r), a (50 + r), a (60 + r), a 3, a 4, a 5, a 6, a 7, a 8, a 9, a 10, a 11, a 12, a 13, a 14, a 15, a 16, a 17, a 18, a 19, a 20, a 21, a (30 + (r + 1) % 4), a (40 + (r + 1) % 4), a (50 + (r + 1) % 4), a (60 + (r + 1) % 4), a (30 + (r + 2) % 4), a (40 + (r + 2) % 4), a (50 + (r + 2) % 4), a (60 + (r + 2) % 4), a (30 + (r + 3) % 4), a (40 + (r + 3) % 4), a (50 + (r + 3) % 4), a (60 + (r + 3) % 4)] rfl rfl hD
  refine lv_aload_n hx hb dL_law_594 rfl (lv_at hl 2 rfl) ?_
  refine lv_aload_n hx hb dL_law_595 rfl (lv_at hl 0 rfl) ?_
  refine lv_iload_n hx hb dL_law_596 rfl (lv_at hl 3 rfl) ?_
  refine xN_const hx hb 1 dL_law_597 (by decide) ?_
  refine xN_add hx hb dL_law_598 ?_
  refine xscr hF hX hbl hS (by omega) hL9 dL_law_599 ?_
  refine lv_aload_n hx hb dL_law_600 rfl (lv_at hl 0 rfl) ?_
  refine lv_iload_n hx hb dL_law_601 rfl (lv_at hl 3 rfl) ?_
  refine xN_const hx hb 2 dL_law_602 (by decide) ?_
  refine xN_add hx hb dL_law_603 ?_
  refine xscr hF hX hbl hS (by omega) hL9 dL_law_604 ?_
  refine vp_callSi (va_Run.run (xrV hF (c_X4_watch l g (a 15) (a 16) (a 17) (a 18) (a 19) (a 20) (a 21) zs zl zp zr zk w hW (xs (i + 1)) (xs (i + 2))) cal_X4_watch q_532 ⟨Nat.le_of_ble_eq_true rfl, Nat.le_of_ble_eq_true rfl⟩ rfl rfl rfl (va_recv hF.2.1 hP (ci := 4) (q0 := 19) rfl rfl) (hZ.at hS hAB) (hP.sub [19, 20] rfl) hl.1 rfl (Nat.le_of_ble_eq_true rfl) dL_law_605 hrc)) (fun r_ h_ => ?_)
  subst h_
  refine lv_icmp_eq (tgt := 867) hx hb dL_law_608 (by decide) (fun _ => ?_) (fun h => absurd (rfl) h)
  exact kk H locs ls hS ⟨r, zo, zs, hr4, zl, zp, zr, xr, un, ug, ut, uw, zk, sl, fe, fc, fs, ge, gc, gs, w, pa, sn, tx, me, td, cl, tl2, he, hc, hs, yn, yg, yt, yw, ⟨hzo, hz4, hz60, hW, hR, hSn, hsl, hHs⟩, hD, hP⟩ hl
set_option maxHeartbeats 4000000 in
set_option maxRecDepth 100000 in
theorem law_wouldChange (l : Launch) (g : XG) (a : Nat → Nat) {p : Program} {e : Env} {s : State} {m : MethodId} {below : List Frame} {meth : Method} {c : Code} {b L9 i cells slots : Nat} {xs : Nat → Int32} {Q : State → Prop} {H : Heap} {locs : List Loc} {ls : Array Slot} (hF : FX p s m #[Value.ref b] c code 8 RL g) (hZ : ZS g s s.heap) (hX : va_X b L9 xs s s.heap) (hbl : b < s.heap.size) (hg : g.2.2 3 = s.heap.size) (hrc : cells ≤ 600000 ∧ slots ≤ 7302250) (hi : i + 5 ≤ L9) (hL9 : L9 ≤ 2560) (hS : va_S (fun q => s.heap.size ≤ q) s.heap H locs) (hI : RX g (fun q => s.heap.size ≤ q) a H) (hl : lv_has ls 8 [(0, .ref b), (1, .ref (a 0)), (2, .ref (a 15)), (3, .int (nI i))]) (kk : ∀ (H : Heap) (locs : List Loc) (ls : Array Slot), va_S (fun q => s.heap.size ≤ q) s.heap H locs → RX g (fun q => s.heap.size ≤ q) a H → lv_has ls 8 [(0, .ref b), (1, .ref (a 0)), (2, .ref (a 15)), (3, .int (nI i))] → W p l e room_1 s m #[Value.ref b] below meth c H locs cells slots Q (F0 m 867 ls [])) : W p l e room_1 s m #[Value.ref b] below meth c H locs cells slots Q (F0 m 801 ls []) := by
  have hx := hF.1.1
  have hb := hF.1.2.1
  have hAB : ∀ q, (fun q => s.heap.size ≤ q) q → xB g q := fun q hq => by show g.2.2 3 ≤ q; rw [hg]; exact hq
  obtain ⟨r0, zo, zs, hr0, hI⟩ := hI
  obtain ⟨r, hre⟩ : ∃ r, r = r0 := ⟨_, rfl⟩
  rw [← hre] at hI hr0
  have hr4 := hr0
  obtain ⟨zl, zp, zr, xr, un, ug, ut, uw, zk, sl, fe, fc, fs, ge, gc, gs, w, pa, sn, tx, me, td, cl, tl, he, hc, hs, yn, yg, yt, yw, ⟨hzo, hz4, hz60, hW, hR, hSn, hsl, hHs⟩, hD, hP⟩ := hI
  have hP : va_P g.1 vwCl (WY g a zo zs zs zl zl zp zr xr un ug ut uw zk zk sl fe fc fs ge gc gs w w pa sn tx tx me td cl tl (SX g a r he hc hs yn yg yt yw) (SX g a ((r + 1) % 4) he hc hs yn yg yt yw) (SX g a ((r + 2) % 4) he hc hs yn yg yt yw) (SX g a ((r + 3) % 4) he hc hs yn yg yt yw)) H := hP
  have hD : va_D (fun q => s.heap.size ≤ q) (WY g a zo zs zs zl zl zp zr xr un ug ut uw zk zk sl fe fc fs ge gc gs w w pa sn tx tx me td cl tl (SX g a r he hc hs yn yg yt yw) (SX g a ((r + 1) % 4) he hc hs yn yg yt yw) (SX g a ((r + 2) % 4) he hc hs yn yg yt yw) (SX g a ((r + 3) % 4) he hc hs yn yg yt yw)) := hD
  refine lv_aload_n hx hb dL_law_801 rfl (lv_at hl 1 rfl) ?_
  refine lv_aload_n hx hb dL_law_802 rfl (lv_at hl 0 rfl) ?_
  refine lv_iload_n hx hb dL_law_803 rfl (lv_at hl 3 rfl) ?_
  refine xN_const hx hb 1 dL_law_804 (by decide) ?_
  refine xN_add hx hb dL_law_805 ?_
  refine xscr hF hX hbl hS (by omega) hL9 dL_law_806 ?_
  refine lv_aload_n hx hb dL_law_807 rfl (lv_at hl 0 rfl) ?_
  refine lv_iload_n hx hb dL_law_808 rfl (lv_at hl 3 rfl) ?_
  refine xN_const hx hb 2 dL_law_809 (by decide) ?_
  refine xN_add hx hb dL_law_810 ?_
  refine xscr hF hX hbl hS (by omega) hL9 dL_law_811 ?_
  refine lv_aload_n hx hb dL_law_812 rfl (lv_at hl 0 rfl) ?_
  refine lv_iload_n hx hb dL_law_813 rfl (lv_at hl 3 rfl) ?_
  refine xN_const hx hb 3 dL_law_814 (by decide) ?_
  refine xN_add hx hb dL_law_815 ?_
  refine xscr hF hX hbl hS (by omega) hL9 dL_law_816 ?_
  refine vp_callSi (va_Run.run (xrV hF (c_X3_wouldChange l g (a 0) (a 7) (a 1) (a 11) (a 14) (a 3) (a 4) (a 5) (a 6) zk fe fc fs w hW hR (xs (i + 1)) (xs (i + 2)) (xs (i + 3))) cal_X3_wouldChange q_634 ⟨Nat.le_of_ble_eq_true rfl, Nat.le_of_ble_eq_true rfl⟩ rfl rfl rfl (va_recv hF.2.1 hP (ci := 3) (q0 := 0) rfl rfl) (hZ.at hS hAB) (hP.sub [0, 7, 8, 9, 10] rfl) hl.1 rfl (Nat.le_of_ble_eq_true rfl) dL_law_817 hrc)) (fun r_ h_ => ?_)
  subst h_
  refine lv_aload_n hx hb dL_law_820 rfl (lv_at hl 2 rfl) ?_
  refine lv_aload_n hx hb dL_law_821 rfl (lv_at hl 0 rfl) ?_
  refine lv_iload_n hx hb dL_law_822 rfl (lv_at hl 3 rfl) ?_
  refine xN_const hx hb 1 dL_law_823 (by decide) ?_
  refine xN_add hx hb dL_law_824 ?_
  refine xscr hF hX hbl hS (by omega) hL9 dL_law_825 ?_
  refine lv_aload_n hx hb dL_law_826 rfl (lv_at hl 0 rfl) ?_
  refine lv_iload_n hx hb dL_law_827 rfl (lv_at hl 3 rfl) ?_
  refine xN_const hx hb 2 dL_law_828 (by decide) ?_
  refine xN_add hx hb dL_law_829 ?_
  refine xscr hF hX hbl hS (by omega) hL9 dL_law_830 ?_
  refine lv_aload_n hx hb dL_law_831 rfl (lv_at hl 0 rfl) ?_
  refine lv_iload_n hx hb dL_law_832 rfl (lv_at hl 3 rfl) ?_
  refine xN_const hx hb 3 dL_law_833 (by decide) ?_
  refine xN_add hx hb dL_law_834 ?_
  refine xscr hF hX hbl hS (by omega) hL9 dL_law_835 ?_
  refine xci (xrV hF (c_X4_wouldChange l g (a 15) (a 16) (a 17) (a 18) (a 19) (a 20) (a 21) zs zl zp zr zk w pa sn tx me td (hD.self2 [19, 20, 21, 22, 23, 24, 25] (by decide) rfl) (fun q hq => hAB q (va_inA hD [19, 20, 21, 22, 23, 24, 25] rfl q hq)) hW (xs (i + 1)) (xs (i + 2)) (xs (i + 3))) cal_X4_wouldChange q_638 ⟨Nat.le_of_ble_eq_true rfl, Nat.le_of_ble_eq_true rfl⟩ rfl rfl rfl (va_recv hF.2.1 hP (ci := 4) (q0 := 19) rfl rfl) (hZ.at hS hAB) (hP.sub [19, 20, 21, 22, 23, 24, 25] rfl) hl.1 rfl (Nat.le_of_ble_eq_true rfl) dL_law_836 hrc) hS (va_inA hD [19, 20, 21, 22, 23, 24, 25] rfl) (va_inA hD [19, 20, 21, 22, 23, 24, 25] rfl) (fun r_ H locs hq_ hz_ hk_ hS => ?_)
  obtain ⟨rfl, me2, hw_⟩ := hq_
  have hP : va_P g.1 vwCl (WY g a zo zs zs zl zl zp zr xr un ug ut uw zk zk sl fe fc fs ge gc gs w w pa sn tx tx me2 td cl tl (SX g a r he hc hs yn yg yt yw) (SX g a ((r + 1) % 4) he hc hs yn yg yt yw) (SX g a ((r + 2) % 4) he hc hs yn yg yt yw) (SX g a ((r + 3) % 4) he hc hs yn yg yt yw)) H := xjoin hP hD hw_ hk_ [19, 20, 21, 22, 23, 24, 25] [(false, 0), (false, 1), (false, 2), (false, 3), (false, 4), (false, 5), (false, 6), (false, 7), (false, 8), (false, 9), (false, 10), (false, 11), (false, 12), (false, 13), (false, 14), (false, 15), (false, 16), (false, 17), (false, 18), (true, 0), (true, 1), (true, 2), (true, 3), (true, 4), (true, 5), (true, 6), (false, 26), (false, 27), (false, 28), (false, 29), (false, 30), (false, 31), (false, 32), (false, 33), (false, 34), (false, 35), (false, 36), (false, 37)] rfl rfl rfl
  have hD : va_D (fun q => s.heap.size ≤ q) (WY g a zo zs zs zl zl zp zr xr un ug ut uw zk zk sl fe fc fs ge gc gs w w pa sn tx tx me2 td cl tl (SX g a r he hc hs yn yg yt yw) (SX g a ((r + 1) % 4) he hc hs yn yg yt yw) (SX g a ((r + 2) % 4) he hc hs yn yg yt yw) (SX g a ((r + 3) % 4) he hc hs yn yg yt yw)) := va_D_eqL [a 0, a 1, a 2, a (30 + r), a (40 + r), a (50 + r), a (60 + r), a 3, a 4, a 5, a 6, a 7, a 8, a 9, a 10, a 11, a 12, a 13, a 14, a 15, a 16, a 17, a 18, a 19, a 20, a 21, a (30 + (r + 1) % 4), a (40 + (r + 1) % 4), a (50 + (r + 1) % 4), a (60 + (r + 1) % 4), a (30 + (r + 2) % 4), a (40 + (r + 2) % 4), a (50 + (r + 2) % 4), a (60 + (r + 2) % 4), a (30 + (r + 3) % 4), a (40 + (r + 3) % 4), a (50 + (r + 3) % 4), a (60 + (r + 3) % 4)] rfl rfl hD
  refine lv_icmp_eq (tgt := 867) hx hb dL_law_839 (by decide) (fun _ => ?_) (fun h => absurd ((wldA_2 hW _ _ _).symm) h)
  exact kk H locs ls hS ⟨r, zo, zs, hr4, zl, zp, zr, xr, un, ug, ut, uw, zk, sl, fe, fc, fs, ge, gc, gs, w, pa, sn, tx, me2, td, cl, tl, he, hc, hs, yn, yg, yt, yw, ⟨hzo, hz4, hz60, hW, hR, hSn, hsl, hHs⟩, hD, hP⟩ hl
set_option maxHeartbeats 4000000 in
set_option maxRecDepth 100000 in
theorem law_type (l : Launch) (g : XG) (a : Nat → Nat) {p : Program} {e : Env} {s : State} {m : MethodId} {below : List Frame} {meth : Method} {c : Code} {b L9 i cells slots : Nat} {xs : Nat → Int32} {Q : State → Prop} {H : Heap} {locs : List Loc} {ls : Array Slot} (hF : FX p s m #[Value.ref b] c code 8 RL g) (hZ : ZS g s s.heap) (hX : va_X b L9 xs s s.heap) (hbl : b < s.heap.size) (hg : g.2.2 3 = s.heap.size) (hrc : cells ≤ 600000 ∧ slots ≤ 7302250) (hi : i + 5 ≤ L9) (hL9 : L9 ≤ 2560) (hS : va_S (fun q => s.heap.size ≤ q) s.heap H locs) (hI : RX g (fun q => s.heap.size ≤ q) a H) (hl : lv_has ls 8 [(0, .ref b), (1, .ref (a 0)), (2, .ref (a 15)), (3, .int (nI i))]) (kk : ∀ (H : Heap) (locs : List Loc) (ls : Array Slot), va_S (fun q => s.heap.size ≤ q) s.heap H locs → RX g (fun q => s.heap.size ≤ q) a H → lv_has ls 8 [(0, .ref b), (1, .ref (a 0)), (2, .ref (a 15)), (3, .int (nI i))] → W p l e room_1 s m #[Value.ref b] below meth c H locs cells slots Q (F0 m 867 ls [])) : W p l e room_1 s m #[Value.ref b] below meth c H locs cells slots Q (F0 m 361 ls []) := by
  have hx := hF.1.1
  have hb := hF.1.2.1
  have hAB : ∀ q, (fun q => s.heap.size ≤ q) q → xB g q := fun q hq => by show g.2.2 3 ≤ q; rw [hg]; exact hq
  obtain ⟨r0, zo, zs, hr0, hI⟩ := hI
  obtain ⟨r, hre⟩ : ∃ r, r = r0 := ⟨_, rfl⟩
  rw [← hre] at hI hr0
  have hr4 := hr0
  obtain ⟨zl, zp, zr, xr, un, ug, ut, uw, zk, sl, fe, fc, fs, ge, gc, gs, w, pa, sn, tx, me, td, cl, tl, he, hc, hs, yn, yg, yt, yw, ⟨hzo, hz4, hz60, hW, hR, hSn, hsl, hHs⟩, hD, hP⟩ := hI
  have hP : va_P g.1 vwCl (WY g a zo zs zs zl zl zp zr xr un ug ut uw zk zk sl fe fc fs ge gc gs w w pa sn tx tx me td cl tl (SX g a r he hc hs yn yg yt yw) (SX g a ((r + 1) % 4) he hc hs yn yg yt yw) (SX g a ((r + 2) % 4) he hc hs yn yg yt yw) (SX g a ((r + 3) % 4) he hc hs yn yg yt yw)) H := hP
  have hD : va_D (fun q => s.heap.size ≤ q) (WY g a zo zs zs zl zl zp zr xr un ug ut uw zk zk sl fe fc fs ge gc gs w w pa sn tx tx me td cl tl (SX g a r he hc hs yn yg yt yw) (SX g a ((r + 1) % 4) he hc hs yn yg yt yw) (SX g a ((r + 2) % 4) he hc hs yn yg yt yw) (SX g a ((r + 3) % 4) he hc hs yn yg yt yw)) := hD
  refine lv_aload_n hx hb dL_law_361 rfl (lv_at hl 1 rfl) ?_
  refine lv_aload_n hx hb dL_law_362 rfl (lv_at hl 0 rfl) ?_
  refine lv_iload_n hx hb dL_law_363 rfl (lv_at hl 3 rfl) ?_
  refine xN_const hx hb 1 dL_law_364 (by decide) ?_
  refine xN_add hx hb dL_law_365 ?_
  refine xscr hF hX hbl hS (by omega) hL9 dL_law_366 ?_
  refine lv_i2c (v := chN (xs (i + 1))) hx hb dL_law_367 rfl ?_
  refine xci (xrV hF (c_X3_type l g (a 0) (a 3) (a 7) (a 1) (a 14) zk (a 11) (a 12) (a 13) zl xr tx cl (hD.self2 [0, 15, 16, 17] (by decide) rfl) (fun q hq => hAB q (va_inA hD [0, 15, 16, 17] rfl q hq)) (chN (xs (i + 1))) (chN_nar _) hz60) cal_X3_type q_349 ⟨Nat.le_of_ble_eq_true rfl, Nat.le_of_ble_eq_true rfl⟩ rfl rfl rfl (va_recv hF.2.1 hP (ci := 3) (q0 := 0) rfl rfl) (hZ.at hS hAB) (hP.sub [0, 15, 16, 17] rfl) hl.1 rfl (Nat.le_of_ble_eq_true rfl) dL_law_368 hrc) hS (va_inA hD [0, 15, 16, 17] rfl) (va_inA hD [0, 15, 16, 17] rfl) (fun r_ H locs hq_ hz_ hk_ hS => ?_)
  obtain ⟨rfl, hy_, hn_⟩ := hq_
  by_cases h60 : zl < 60
  · have hw_ := hy_ h60
    have hP : va_P g.1 vwCl (WY g a zo zs zs (zl + 1) zl zp zr xr un ug ut uw zk zk sl fe fc fs ge gc gs w w pa sn (upd tx zl (chN (xs (i + 1)))) tx me td cl tl (SX g a r he hc hs yn yg yt yw) (SX g a ((r + 1) % 4) he hc hs yn yg yt yw) (SX g a ((r + 2) % 4) he hc hs yn yg yt yw) (SX g a ((r + 3) % 4) he hc hs yn yg yt yw)) H := xjoin hP hD hw_ hk_ [0, 15, 16, 17] [(true, 0), (false, 1), (false, 2), (false, 3), (false, 4), (false, 5), (false, 6), (false, 7), (false, 8), (false, 9), (false, 10), (false, 11), (false, 12), (false, 13), (false, 14), (true, 1), (true, 2), (true, 3), (false, 18), (false, 19), (false, 20), (false, 21), (false, 22), (false, 23), (false, 24), (false, 25), (false, 26), (false, 27), (false, 28), (false, 29), (false, 30), (false, 31), (false, 32), (false, 33), (false, 34), (false, 35), (false, 36), (false, 37)] rfl rfl rfl
    have hD : va_D (fun q => s.heap.size ≤ q) (WY g a zo zs zs (zl + 1) zl zp zr xr un ug ut uw zk zk sl fe fc fs ge gc gs w w pa sn (upd tx zl (chN (xs (i + 1)))) tx me td cl tl (SX g a r he hc hs yn yg yt yw) (SX g a ((r + 1) % 4) he hc hs yn yg yt yw) (SX g a ((r + 2) % 4) he hc hs yn yg yt yw) (SX g a ((r + 3) % 4) he hc hs yn yg yt yw)) := va_D_eqL [a 0, a 1, a 2, a (30 + r), a (40 + r), a (50 + r), a (60 + r), a 3, a 4, a 5, a 6, a 7, a 8, a 9, a 10, a 11, a 12, a 13, a 14, a 15, a 16, a 17, a 18, a 19, a 20, a 21, a (30 + (r + 1) % 4), a (40 + (r + 1) % 4), a (50 + (r + 1) % 4), a (60 + (r + 1) % 4), a (30 + (r + 2) % 4), a (40 + (r + 2) % 4), a (50 + (r + 2) % 4), a (60 + (r + 2) % 4), a (30 + (r + 3) % 4), a (40 + (r + 3) % 4), a (50 + (r + 3) % 4), a (60 + (r + 3) % 4)] rfl rfl hD
    refine lv_aload_n hx hb dL_law_371 rfl (lv_at hl 2 rfl) ?_
    refine lv_aload_n hx hb dL_law_372 rfl (lv_at hl 0 rfl) ?_
    refine lv_iload_n hx hb dL_law_373 rfl (lv_at hl 3 rfl) ?_
    refine xN_const hx hb 1 dL_law_374 (by decide) ?_
    refine xN_add hx hb dL_law_375 ?_
    refine xscr hF hX hbl hS (by omega) hL9 dL_law_376 ?_
    refine lv_i2c (v := chN (xs (i + 1))) hx hb dL_law_377 rfl ?_
    refine xci (xrV hF (c_X4_type l g (a 15) (a 16) (a 17) (a 18) (a 19) (a 20) (a 21) zs zl zp zr zk w pa sn tx me td (hD.self2 [19, 20, 21, 22, 23, 24, 25] (by decide) rfl) (fun q hq => hAB q (va_inA hD [19, 20, 21, 22, 23, 24, 25] rfl q hq)) hz60 (chN (xs (i + 1))) (chN_nar _)) cal_X4_type q_356 ⟨Nat.le_of_ble_eq_true rfl, Nat.le_of_ble_eq_true rfl⟩ rfl rfl rfl (va_recv hF.2.1 hP (ci := 4) (q0 := 19) rfl rfl) (hZ.at hS hAB) (hP.sub [19, 20, 21, 22, 23, 24, 25] rfl) hl.1 rfl (Nat.le_of_ble_eq_true rfl) dL_law_378 hrc) hS (va_inA hD [19, 20, 21, 22, 23, 24, 25] rfl) (va_inA hD [19, 20, 21, 22, 23, 24, 25] rfl) (fun r_ H locs hq_ hz_ hk_ hS => ?_)
    obtain ⟨rfl, hn_, hy_⟩ := hq_
    have hw_ := hy_ (by omega)
    have hP : va_P g.1 vwCl (WY g a zo zs zs (zl + 1) (zl + 1) zp zr xr un ug ut uw zk zk sl fe fc fs ge gc gs w w pa sn (upd tx zl (chN (xs (i + 1)))) (upd tx zl (chN (xs (i + 1)))) me td cl tl (SX g a r he hc hs yn yg yt yw) (SX g a ((r + 1) % 4) he hc hs yn yg yt yw) (SX g a ((r + 2) % 4) he hc hs yn yg yt yw) (SX g a ((r + 3) % 4) he hc hs yn yg yt yw)) H := xjoin hP hD hw_ hk_ [19, 20, 21, 22, 23, 24, 25] [(false, 0), (false, 1), (false, 2), (false, 3), (false, 4), (false, 5), (false, 6), (false, 7), (false, 8), (false, 9), (false, 10), (false, 11), (false, 12), (false, 13), (false, 14), (false, 15), (false, 16), (false, 17), (false, 18), (true, 0), (true, 1), (true, 2), (true, 3), (true, 4), (true, 5), (true, 6), (false, 26), (false, 27), (false, 28), (false, 29), (false, 30), (false, 31), (false, 32), (false, 33), (false, 34), (false, 35), (false, 36), (false, 37)] rfl rfl rfl
    have hD : va_D (fun q => s.heap.size ≤ q) (WY g a zo zs zs (zl + 1) (zl + 1) zp zr xr un ug ut uw zk zk sl fe fc fs ge gc gs w w pa sn (upd tx zl (chN (xs (i + 1)))) (upd tx zl (chN (xs (i + 1)))) me td cl tl (SX g a r he hc hs yn yg yt yw) (SX g a ((r + 1) % 4) he hc hs yn yg yt yw) (SX g a ((r + 2) % 4) he hc hs yn yg yt yw) (SX g a ((r + 3) % 4) he hc hs yn yg yt yw)) := va_D_eqL [a 0, a 1, a 2, a (30 + r), a (40 + r), a (50 + r), a (60 + r), a 3, a 4, a 5, a 6, a 7, a 8, a 9, a 10, a 11, a 12, a 13, a 14, a 15, a 16, a 17, a 18, a 19, a 20, a 21, a (30 + (r + 1) % 4), a (40 + (r + 1) % 4), a (50 + (r + 1) % 4), a (60 + (r + 1) % 4), a (30 + (r + 2) % 4), a (40 + (r + 2) % 4), a (50 + (r + 2) % 4), a (60 + (r + 2) % 4), a (30 + (r + 3) % 4), a (40 + (r + 3) % 4), a (50 + (r + 3) % 4), a (60 + (r + 3) % 4)] rfl rfl hD
    refine lv_icmp_eq (tgt := 867) hx hb dL_law_381 (by decide) (fun _ => ?_) (fun h => absurd (rfl) h)
    exact kk H locs ls hS ⟨r, zo, zs, hr4, (zl + 1), zp, zr, xr, un, ug, ut, uw, zk, sl, fe, fc, fs, ge, gc, gs, w, pa, sn, (upd tx zl (chN (xs (i + 1)))), me, td, cl, tl, he, hc, hs, yn, yg, yt, yw, ⟨hzo, hz4, h60, hW, hR, hSn, hsl, hHs⟩, hD, hP⟩ hl
  · have hw_ := hn_ h60
    have hP : va_P g.1 vwCl (WY g a zo zs zs zl zl zp zr xr un ug ut uw zk zk sl fe fc fs ge gc gs w w pa sn tx tx me td cl tl (SX g a r he hc hs yn yg yt yw) (SX g a ((r + 1) % 4) he hc hs yn yg yt yw) (SX g a ((r + 2) % 4) he hc hs yn yg yt yw) (SX g a ((r + 3) % 4) he hc hs yn yg yt yw)) H := xjoin hP hD hw_ hk_ [0, 15, 16, 17] [(true, 0), (false, 1), (false, 2), (false, 3), (false, 4), (false, 5), (false, 6), (false, 7), (false, 8), (false, 9), (false, 10), (false, 11), (false, 12), (false, 13), (false, 14), (true, 1), (true, 2), (true, 3), (false, 18), (false, 19), (false, 20), (false, 21), (false, 22), (false, 23), (false, 24), (false, 25), (false, 26), (false, 27), (false, 28), (false, 29), (false, 30), (false, 31), (false, 32), (false, 33), (false, 34), (false, 35), (false, 36), (false, 37)] rfl rfl rfl
    have hD : va_D (fun q => s.heap.size ≤ q) (WY g a zo zs zs zl zl zp zr xr un ug ut uw zk zk sl fe fc fs ge gc gs w w pa sn tx tx me td cl tl (SX g a r he hc hs yn yg yt yw) (SX g a ((r + 1) % 4) he hc hs yn yg yt yw) (SX g a ((r + 2) % 4) he hc hs yn yg yt yw) (SX g a ((r + 3) % 4) he hc hs yn yg yt yw)) := va_D_eqL [a 0, a 1, a 2, a (30 + r), a (40 + r), a (50 + r), a (60 + r), a 3, a 4, a 5, a 6, a 7, a 8, a 9, a 10, a 11, a 12, a 13, a 14, a 15, a 16, a 17, a 18, a 19, a 20, a 21, a (30 + (r + 1) % 4), a (40 + (r + 1) % 4), a (50 + (r + 1) % 4), a (60 + (r + 1) % 4), a (30 + (r + 2) % 4), a (40 + (r + 2) % 4), a (50 + (r + 2) % 4), a (60 + (r + 2) % 4), a (30 + (r + 3) % 4), a (40 + (r + 3) % 4), a (50 + (r + 3) % 4), a (60 + (r + 3) % 4)] rfl rfl hD
    refine lv_aload_n hx hb dL_law_371 rfl (lv_at hl 2 rfl) ?_
    refine lv_aload_n hx hb dL_law_372 rfl (lv_at hl 0 rfl) ?_
    refine lv_iload_n hx hb dL_law_373 rfl (lv_at hl 3 rfl) ?_
    refine xN_const hx hb 1 dL_law_374 (by decide) ?_
    refine xN_add hx hb dL_law_375 ?_
    refine xscr hF hX hbl hS (by omega) hL9 dL_law_376 ?_
    refine lv_i2c (v := chN (xs (i + 1))) hx hb dL_law_377 rfl ?_
    refine xci (xrV hF (c_X4_type l g (a 15) (a 16) (a 17) (a 18) (a 19) (a 20) (a 21) zs zl zp zr zk w pa sn tx me td (hD.self2 [19, 20, 21, 22, 23, 24, 25] (by decide) rfl) (fun q hq => hAB q (va_inA hD [19, 20, 21, 22, 23, 24, 25] rfl q hq)) hz60 (chN (xs (i + 1))) (chN_nar _)) cal_X4_type q_356 ⟨Nat.le_of_ble_eq_true rfl, Nat.le_of_ble_eq_true rfl⟩ rfl rfl rfl (va_recv hF.2.1 hP (ci := 4) (q0 := 19) rfl rfl) (hZ.at hS hAB) (hP.sub [19, 20, 21, 22, 23, 24, 25] rfl) hl.1 rfl (Nat.le_of_ble_eq_true rfl) dL_law_378 hrc) hS (va_inA hD [19, 20, 21, 22, 23, 24, 25] rfl) (va_inA hD [19, 20, 21, 22, 23, 24, 25] rfl) (fun r_ H locs hq_ hz_ hk_ hS => ?_)
    obtain ⟨rfl, hn_, hy_⟩ := hq_
    have hw_ := hn_ (by omega)
    have hP : va_P g.1 vwCl (WY g a zo zs zs zl zl zp zr xr un ug ut uw zk zk sl fe fc fs ge gc gs w w pa sn tx tx me td cl tl (SX g a r he hc hs yn yg yt yw) (SX g a ((r + 1) % 4) he hc hs yn yg yt yw) (SX g a ((r + 2) % 4) he hc hs yn yg yt yw) (SX g a ((r + 3) % 4) he hc hs yn yg yt yw)) H := xjoin hP hD hw_ hk_ [19, 20, 21, 22, 23, 24, 25] [(false, 0), (false, 1), (false, 2), (false, 3), (false, 4), (false, 5), (false, 6), (false, 7), (false, 8), (false, 9), (false, 10), (false, 11), (false, 12), (false, 13), (false, 14), (false, 15), (false, 16), (false, 17), (false, 18), (true, 0), (true, 1), (true, 2), (true, 3), (true, 4), (true, 5), (true, 6), (false, 26), (false, 27), (false, 28), (false, 29), (false, 30), (false, 31), (false, 32), (false, 33), (false, 34), (false, 35), (false, 36), (false, 37)] rfl rfl rfl
    have hD : va_D (fun q => s.heap.size ≤ q) (WY g a zo zs zs zl zl zp zr xr un ug ut uw zk zk sl fe fc fs ge gc gs w w pa sn tx tx me td cl tl (SX g a r he hc hs yn yg yt yw) (SX g a ((r + 1) % 4) he hc hs yn yg yt yw) (SX g a ((r + 2) % 4) he hc hs yn yg yt yw) (SX g a ((r + 3) % 4) he hc hs yn yg yt yw)) := va_D_eqL [a 0, a 1, a 2, a (30 + r), a (40 + r), a (50 + r), a (60 + r), a 3, a 4, a 5, a 6, a 7, a 8, a 9, a 10, a 11, a 12, a 13, a 14, a 15, a 16, a 17, a 18, a 19, a 20, a 21, a (30 + (r + 1) % 4), a (40 + (r + 1) % 4), a (50 + (r + 1) % 4), a (60 + (r + 1) % 4), a (30 + (r + 2) % 4), a (40 + (r + 2) % 4), a (50 + (r + 2) % 4), a (60 + (r + 2) % 4), a (30 + (r + 3) % 4), a (40 + (r + 3) % 4), a (50 + (r + 3) % 4), a (60 + (r + 3) % 4)] rfl rfl hD
    refine lv_icmp_eq (tgt := 867) hx hb dL_law_381 (by decide) (fun _ => ?_) (fun h => absurd (rfl) h)
    exact kk H locs ls hS ⟨r, zo, zs, hr4, zl, zp, zr, xr, un, ug, ut, uw, zk, sl, fe, fc, fs, ge, gc, gs, w, pa, sn, tx, me, td, cl, tl, he, hc, hs, yn, yg, yt, yw, ⟨hzo, hz4, hz60, hW, hR, hSn, hsl, hHs⟩, hD, hP⟩ hl
set_option maxHeartbeats 4000000 in
set_option maxRecDepth 100000 in
theorem law_clearText (l : Launch) (g : XG) (a : Nat → Nat) {p : Program} {e : Env} {s : State} {m : MethodId} {below : List Frame} {meth : Method} {c : Code} {b L9 i cells slots : Nat} {xs : Nat → Int32} {Q : State → Prop} {H : Heap} {locs : List Loc} {ls : Array Slot} (hF : FX p s m #[Value.ref b] c code 8 RL g) (hZ : ZS g s s.heap) (hX : va_X b L9 xs s s.heap) (hbl : b < s.heap.size) (hg : g.2.2 3 = s.heap.size) (hrc : cells ≤ 600000 ∧ slots ≤ 7302250) (hi : i + 5 ≤ L9) (hL9 : L9 ≤ 2560) (hS : va_S (fun q => s.heap.size ≤ q) s.heap H locs) (hI : RX g (fun q => s.heap.size ≤ q) a H) (hl : lv_has ls 8 [(0, .ref b), (1, .ref (a 0)), (2, .ref (a 15)), (3, .int (nI i))]) (kk : ∀ (H : Heap) (locs : List Loc) (ls : Array Slot), va_S (fun q => s.heap.size ≤ q) s.heap H locs → RX g (fun q => s.heap.size ≤ q) a H → lv_has ls 8 [(0, .ref b), (1, .ref (a 0)), (2, .ref (a 15)), (3, .int (nI i))] → W p l e room_1 s m #[Value.ref b] below meth c H locs cells slots Q (F0 m 867 ls [])) : W p l e room_1 s m #[Value.ref b] below meth c H locs cells slots Q (F0 m 386 ls []) := by
  have hx := hF.1.1
  have hb := hF.1.2.1
  have hAB : ∀ q, (fun q => s.heap.size ≤ q) q → xB g q := fun q hq => by show g.2.2 3 ≤ q; rw [hg]; exact hq
  obtain ⟨r0, zo, zs, hr0, hI⟩ := hI
  obtain ⟨r, hre⟩ : ∃ r, r = r0 := ⟨_, rfl⟩
  rw [← hre] at hI hr0
  have hr4 := hr0
  obtain ⟨zl, zp, zr, xr, un, ug, ut, uw, zk, sl, fe, fc, fs, ge, gc, gs, w, pa, sn, tx, me, td, cl, tl, he, hc, hs, yn, yg, yt, yw, ⟨hzo, hz4, hz60, hW, hR, hSn, hsl, hHs⟩, hD, hP⟩ := hI
  have hP : va_P g.1 vwCl (WY g a zo zs zs zl zl zp zr xr un ug ut uw zk zk sl fe fc fs ge gc gs w w pa sn tx tx me td cl tl (SX g a r he hc hs yn yg yt yw) (SX g a ((r + 1) % 4) he hc hs yn yg yt yw) (SX g a ((r + 2) % 4) he hc hs yn yg yt yw) (SX g a ((r + 3) % 4) he hc hs yn yg yt yw)) H := hP
  have hD : va_D (fun q => s.heap.size ≤ q) (WY g a zo zs zs zl zl zp zr xr un ug ut uw zk zk sl fe fc fs ge gc gs w w pa sn tx tx me td cl tl (SX g a r he hc hs yn yg yt yw) (SX g a ((r + 1) % 4) he hc hs yn yg yt yw) (SX g a ((r + 2) % 4) he hc hs yn yg yt yw) (SX g a ((r + 3) % 4) he hc hs yn yg yt yw)) := hD
  refine lv_aload_n hx hb dL_law_386 rfl (lv_at hl 1 rfl) ?_
  refine xci (xrV hF (c_X3_clearText l g (a 0) (a 3) (a 7) (a 1) (a 14) zk (a 11) (a 12) (a 13) zl xr tx cl (hD.self2 [0, 15, 16, 17] (by decide) rfl) (fun q hq => hAB q (va_inA hD [0, 15, 16, 17] rfl q hq))) cal_X3_clearText q_360 ⟨Nat.le_of_ble_eq_true rfl, Nat.le_of_ble_eq_true rfl⟩ rfl rfl rfl (va_recv hF.2.1 hP (ci := 3) (q0 := 0) rfl rfl) (hZ.at hS hAB) (hP.sub [0, 15, 16, 17] rfl) hl.1 rfl (Nat.le_of_ble_eq_true rfl) dL_law_387 hrc) hS (va_inA hD [0, 15, 16, 17] rfl) (va_inA hD [0, 15, 16, 17] rfl) (fun r_ H locs hq_ hz_ hk_ hS => ?_)
  obtain ⟨rfl, hw_⟩ := hq_
  have hP : va_P g.1 vwCl (WY g a zo zs zs 0 zl zp zr xr un ug ut uw zk zk sl fe fc fs ge gc gs w w pa sn tx tx me td cl tl (SX g a r he hc hs yn yg yt yw) (SX g a ((r + 1) % 4) he hc hs yn yg yt yw) (SX g a ((r + 2) % 4) he hc hs yn yg yt yw) (SX g a ((r + 3) % 4) he hc hs yn yg yt yw)) H := xjoin hP hD hw_ hk_ [0, 15, 16, 17] [(true, 0), (false, 1), (false, 2), (false, 3), (false, 4), (false, 5), (false, 6), (false, 7), (false, 8), (false, 9), (false, 10), (false, 11), (false, 12), (false, 13), (false, 14), (true, 1), (true, 2), (true, 3), (false, 18), (false, 19), (false, 20), (false, 21), (false, 22), (false, 23), (false, 24), (false, 25), (false, 26), (false, 27), (false, 28), (false, 29), (false, 30), (false, 31), (false, 32), (false, 33), (false, 34), (false, 35), (false, 36), (false, 37)] rfl rfl rfl
  have hD : va_D (fun q => s.heap.size ≤ q) (WY g a zo zs zs 0 zl zp zr xr un ug ut uw zk zk sl fe fc fs ge gc gs w w pa sn tx tx me td cl tl (SX g a r he hc hs yn yg yt yw) (SX g a ((r + 1) % 4) he hc hs yn yg yt yw) (SX g a ((r + 2) % 4) he hc hs yn yg yt yw) (SX g a ((r + 3) % 4) he hc hs yn yg yt yw)) := va_D_eqL [a 0, a 1, a 2, a (30 + r), a (40 + r), a (50 + r), a (60 + r), a 3, a 4, a 5, a 6, a 7, a 8, a 9, a 10, a 11, a 12, a 13, a 14, a 15, a 16, a 17, a 18, a 19, a 20, a 21, a (30 + (r + 1) % 4), a (40 + (r + 1) % 4), a (50 + (r + 1) % 4), a (60 + (r + 1) % 4), a (30 + (r + 2) % 4), a (40 + (r + 2) % 4), a (50 + (r + 2) % 4), a (60 + (r + 2) % 4), a (30 + (r + 3) % 4), a (40 + (r + 3) % 4), a (50 + (r + 3) % 4), a (60 + (r + 3) % 4)] rfl rfl hD
  refine lv_aload_n hx hb dL_law_390 rfl (lv_at hl 2 rfl) ?_
  refine xci (xrV hF (c_X4_clearText l g (a 15) (a 16) (a 17) (a 18) (a 19) (a 20) (a 21) zs zl zp zr zk w pa sn tx me td (hD.self2 [19, 20, 21, 22, 23, 24, 25] (by decide) rfl) (fun q hq => hAB q (va_inA hD [19, 20, 21, 22, 23, 24, 25] rfl q hq))) cal_X4_clearText q_364 ⟨Nat.le_of_ble_eq_true rfl, Nat.le_of_ble_eq_true rfl⟩ rfl rfl rfl (va_recv hF.2.1 hP (ci := 4) (q0 := 19) rfl rfl) (hZ.at hS hAB) (hP.sub [19, 20, 21, 22, 23, 24, 25] rfl) hl.1 rfl (Nat.le_of_ble_eq_true rfl) dL_law_391 hrc) hS (va_inA hD [19, 20, 21, 22, 23, 24, 25] rfl) (va_inA hD [19, 20, 21, 22, 23, 24, 25] rfl) (fun r_ H locs hq_ hz_ hk_ hS => ?_)
  obtain ⟨rfl, hw_⟩ := hq_
  have hP : va_P g.1 vwCl (WY g a zo zs zs 0 0 zp zr xr un ug ut uw zk zk sl fe fc fs ge gc gs w w pa sn tx tx me td cl tl (SX g a r he hc hs yn yg yt yw) (SX g a ((r + 1) % 4) he hc hs yn yg yt yw) (SX g a ((r + 2) % 4) he hc hs yn yg yt yw) (SX g a ((r + 3) % 4) he hc hs yn yg yt yw)) H := xjoin hP hD hw_ hk_ [19, 20, 21, 22, 23, 24, 25] [(false, 0), (false, 1), (false, 2), (false, 3), (false, 4), (false, 5), (false, 6), (false, 7), (false, 8), (false, 9), (false, 10), (false, 11), (false, 12), (false, 13), (false, 14), (false, 15), (false, 16), (false, 17), (false, 18), (true, 0), (true, 1), (true, 2), (true, 3), (true, 4), (true, 5), (true, 6), (false, 26), (false, 27), (false, 28), (false, 29), (false, 30), (false, 31), (false, 32), (false, 33), (false, 34), (false, 35), (false, 36), (false, 37)] rfl rfl rfl
  have hD : va_D (fun q => s.heap.size ≤ q) (WY g a zo zs zs 0 0 zp zr xr un ug ut uw zk zk sl fe fc fs ge gc gs w w pa sn tx tx me td cl tl (SX g a r he hc hs yn yg yt yw) (SX g a ((r + 1) % 4) he hc hs yn yg yt yw) (SX g a ((r + 2) % 4) he hc hs yn yg yt yw) (SX g a ((r + 3) % 4) he hc hs yn yg yt yw)) := va_D_eqL [a 0, a 1, a 2, a (30 + r), a (40 + r), a (50 + r), a (60 + r), a 3, a 4, a 5, a 6, a 7, a 8, a 9, a 10, a 11, a 12, a 13, a 14, a 15, a 16, a 17, a 18, a 19, a 20, a 21, a (30 + (r + 1) % 4), a (40 + (r + 1) % 4), a (50 + (r + 1) % 4), a (60 + (r + 1) % 4), a (30 + (r + 2) % 4), a (40 + (r + 2) % 4), a (50 + (r + 2) % 4), a (60 + (r + 2) % 4), a (30 + (r + 3) % 4), a (40 + (r + 3) % 4), a (50 + (r + 3) % 4), a (60 + (r + 3) % 4)] rfl rfl hD
  refine lv_icmp_eq (tgt := 867) hx hb dL_law_394 (by decide) (fun _ => ?_) (fun h => absurd (rfl) h)
  exact kk H locs ls hS ⟨r, zo, zs, hr4, 0, zp, zr, xr, un, ug, ut, uw, zk, sl, fe, fc, fs, ge, gc, gs, w, pa, sn, tx, me, td, cl, tl, he, hc, hs, yn, yg, yt, yw, ⟨hzo, hz4, Nat.zero_le _, hW, hR, hSn, hsl, hHs⟩, hD, hP⟩ hl
set_option maxHeartbeats 4000000 in
set_option maxRecDepth 100000 in
theorem law_keep (l : Launch) (g : XG) (a : Nat → Nat) {p : Program} {e : Env} {s : State} {m : MethodId} {below : List Frame} {meth : Method} {c : Code} {b L9 i cells slots : Nat} {xs : Nat → Int32} {Q : State → Prop} {H : Heap} {locs : List Loc} {ls : Array Slot} (hF : FX p s m #[Value.ref b] c code 8 RL g) (hZ : ZS g s s.heap) (hX : va_X b L9 xs s s.heap) (hbl : b < s.heap.size) (hg : g.2.2 3 = s.heap.size) (hrc : cells ≤ 600000 ∧ slots ≤ 7302250) (hi : i + 5 ≤ L9) (hL9 : L9 ≤ 2560) (hS : va_S (fun q => s.heap.size ≤ q) s.heap H locs) (hI : RX g (fun q => s.heap.size ≤ q) a H) (hl : lv_has ls 8 [(0, .ref b), (1, .ref (a 0)), (2, .ref (a 15)), (3, .int (nI i))]) (kk : ∀ (H : Heap) (locs : List Loc) (ls : Array Slot), va_S (fun q => s.heap.size ≤ q) s.heap H locs → RX g (fun q => s.heap.size ≤ q) a H → lv_has ls 8 [(0, .ref b), (1, .ref (a 0)), (2, .ref (a 15)), (3, .int (nI i))] → W p l e room_1 s m #[Value.ref b] below meth c H locs cells slots Q (F0 m 867 ls [])) : W p l e room_1 s m #[Value.ref b] below meth c H locs cells slots Q (F0 m 412 ls []) := by
  have hx := hF.1.1
  have hb := hF.1.2.1
  have hAB : ∀ q, (fun q => s.heap.size ≤ q) q → xB g q := fun q hq => by show g.2.2 3 ≤ q; rw [hg]; exact hq
  obtain ⟨r0, zo, zs, hr0, hI⟩ := hI
  obtain ⟨r, hre⟩ : ∃ r, r = r0 := ⟨_, rfl⟩
  rw [← hre] at hI hr0
  have hr4 := hr0
  obtain ⟨zl, zp, zr, xr, un, ug, ut, uw, zk, sl, fe, fc, fs, ge, gc, gs, w, pa, sn, tx, me, td, cl, tl, he, hc, hs, yn, yg, yt, yw, ⟨hzo, hz4, hz60, hW, hR, hSn, hsl, hHs⟩, hD, hP⟩ := hI
  have hP : va_P g.1 vwCl (WY g a zo zs zs zl zl zp zr xr un ug ut uw zk zk sl fe fc fs ge gc gs w w pa sn tx tx me td cl tl (SX g a r he hc hs yn yg yt yw) (SX g a ((r + 1) % 4) he hc hs yn yg yt yw) (SX g a ((r + 2) % 4) he hc hs yn yg yt yw) (SX g a ((r + 3) % 4) he hc hs yn yg yt yw)) H := hP
  have hD : va_D (fun q => s.heap.size ≤ q) (WY g a zo zs zs zl zl zp zr xr un ug ut uw zk zk sl fe fc fs ge gc gs w w pa sn tx tx me td cl tl (SX g a r he hc hs yn yg yt yw) (SX g a ((r + 1) % 4) he hc hs yn yg yt yw) (SX g a ((r + 2) % 4) he hc hs yn yg yt yw) (SX g a ((r + 3) % 4) he hc hs yn yg yt yw)) := hD
  refine lv_aload_n hx hb dL_law_412 rfl (lv_at hl 1 rfl) ?_
  refine xci (xrV hF (c_X3_keep l g (a 0) (a 7) (a 1) (a 11) (a 14) (a 8) (a 9) (a 10) (a 3) (a 4) (a 5) (a 6) un ug ut uw zk ge gc gs fe fc fs w hW hR (hD.self2 [0, 11, 12, 13, 14, 7, 8, 9, 10] (by decide) rfl) (fun q hq => hAB q (va_inA hD [0, 11, 12, 13, 14, 7, 8, 9, 10] rfl q hq))) cal_X3_keep q_379 ⟨Nat.le_of_ble_eq_true rfl, Nat.le_of_ble_eq_true rfl⟩ rfl rfl rfl (va_recv hF.2.1 hP (ci := 3) (q0 := 0) rfl rfl) (hZ.at hS hAB) (hP.sub [0, 11, 12, 13, 14, 7, 8, 9, 10] rfl) hl.1 rfl (Nat.le_of_ble_eq_true rfl) dL_law_413 hrc) hS (va_inA hD [0, 11, 12, 13, 14, 7, 8, 9, 10] rfl) (va_inA hD [0, 11, 12, 13, 14, 7, 8, 9, 10] rfl) (fun r_ H locs hq_ hz_ hk_ hS => ?_)
  obtain ⟨rfl, ge2, gc2, gs2, hR2, hw_⟩ := hq_
  have hP : va_P g.1 vwCl (WY g a zo zs zs zl zl zp zr xr (nr w) (pgN w) (stN w) (wrN w) true zk sl fe fc fs ge2 gc2 gs2 w w pa sn tx tx me td cl tl (SX g a r he hc hs yn yg yt yw) (SX g a ((r + 1) % 4) he hc hs yn yg yt yw) (SX g a ((r + 2) % 4) he hc hs yn yg yt yw) (SX g a ((r + 3) % 4) he hc hs yn yg yt yw)) H := xjoin hP hD hw_ hk_ [0, 11, 12, 13, 14, 7, 8, 9, 10] [(true, 0), (false, 1), (false, 2), (false, 3), (false, 4), (false, 5), (false, 6), (true, 5), (true, 6), (true, 7), (true, 8), (true, 1), (true, 2), (true, 3), (true, 4), (false, 15), (false, 16), (false, 17), (false, 18), (false, 19), (false, 20), (false, 21), (false, 22), (false, 23), (false, 24), (false, 25), (false, 26), (false, 27), (false, 28), (false, 29), (false, 30), (false, 31), (false, 32), (false, 33), (false, 34), (false, 35), (false, 36), (false, 37)] rfl rfl rfl
  have hD : va_D (fun q => s.heap.size ≤ q) (WY g a zo zs zs zl zl zp zr xr (nr w) (pgN w) (stN w) (wrN w) true zk sl fe fc fs ge2 gc2 gs2 w w pa sn tx tx me td cl tl (SX g a r he hc hs yn yg yt yw) (SX g a ((r + 1) % 4) he hc hs yn yg yt yw) (SX g a ((r + 2) % 4) he hc hs yn yg yt yw) (SX g a ((r + 3) % 4) he hc hs yn yg yt yw)) := va_D_eqL [a 0, a 1, a 2, a (30 + r), a (40 + r), a (50 + r), a (60 + r), a 3, a 4, a 5, a 6, a 7, a 8, a 9, a 10, a 11, a 12, a 13, a 14, a 15, a 16, a 17, a 18, a 19, a 20, a 21, a (30 + (r + 1) % 4), a (40 + (r + 1) % 4), a (50 + (r + 1) % 4), a (60 + (r + 1) % 4), a (30 + (r + 2) % 4), a (40 + (r + 2) % 4), a (50 + (r + 2) % 4), a (60 + (r + 2) % 4), a (30 + (r + 3) % 4), a (40 + (r + 3) % 4), a (50 + (r + 3) % 4), a (60 + (r + 3) % 4)] rfl rfl hD
  refine lv_aload_n hx hb dL_law_416 rfl (lv_at hl 2 rfl) ?_
  refine xci (xrV hF (c_X4_keep l g (a 15) (a 16) (a 17) (a 18) (a 19) (a 20) (a 21) zs zl zp zr zk w pa sn tx me td (hD.self2 [19, 20, 21, 22, 23, 24, 25] (by decide) rfl) (fun q hq => hAB q (va_inA hD [19, 20, 21, 22, 23, 24, 25] rfl q hq)) hW) cal_X4_keep q_383 ⟨Nat.le_of_ble_eq_true rfl, Nat.le_of_ble_eq_true rfl⟩ rfl rfl rfl (va_recv hF.2.1 hP (ci := 4) (q0 := 19) rfl rfl) (hZ.at hS hAB) (hP.sub [19, 20, 21, 22, 23, 24, 25] rfl) hl.1 rfl (Nat.le_of_ble_eq_true rfl) dL_law_417 hrc) hS (va_inA hD [19, 20, 21, 22, 23, 24, 25] rfl) (va_inA hD [19, 20, 21, 22, 23, 24, 25] rfl) (fun r_ H locs hq_ hz_ hk_ hS => ?_)
  obtain ⟨rfl, hw_⟩ := hq_
  have hP : va_P g.1 vwCl (WY g a zo zs zs zl zl zp zr xr (nr w) (pgN w) (stN w) (wrN w) true true sl fe fc fs ge2 gc2 gs2 w w pa (va_cpy w sn 0 0 988) tx tx me td cl tl (SX g a r he hc hs yn yg yt yw) (SX g a ((r + 1) % 4) he hc hs yn yg yt yw) (SX g a ((r + 2) % 4) he hc hs yn yg yt yw) (SX g a ((r + 3) % 4) he hc hs yn yg yt yw)) H := xjoin hP hD hw_ hk_ [19, 20, 21, 22, 23, 24, 25] [(false, 0), (false, 1), (false, 2), (false, 3), (false, 4), (false, 5), (false, 6), (false, 7), (false, 8), (false, 9), (false, 10), (false, 11), (false, 12), (false, 13), (false, 14), (false, 15), (false, 16), (false, 17), (false, 18), (true, 0), (true, 1), (true, 2), (true, 3), (true, 4), (true, 5), (true, 6), (false, 26), (false, 27), (false, 28), (false, 29), (false, 30), (false, 31), (false, 32), (false, 33), (false, 34), (false, 35), (false, 36), (false, 37)] rfl rfl rfl
  have hD : va_D (fun q => s.heap.size ≤ q) (WY g a zo zs zs zl zl zp zr xr (nr w) (pgN w) (stN w) (wrN w) true true sl fe fc fs ge2 gc2 gs2 w w pa (va_cpy w sn 0 0 988) tx tx me td cl tl (SX g a r he hc hs yn yg yt yw) (SX g a ((r + 1) % 4) he hc hs yn yg yt yw) (SX g a ((r + 2) % 4) he hc hs yn yg yt yw) (SX g a ((r + 3) % 4) he hc hs yn yg yt yw)) := va_D_eqL [a 0, a 1, a 2, a (30 + r), a (40 + r), a (50 + r), a (60 + r), a 3, a 4, a 5, a 6, a 7, a 8, a 9, a 10, a 11, a 12, a 13, a 14, a 15, a 16, a 17, a 18, a 19, a 20, a 21, a (30 + (r + 1) % 4), a (40 + (r + 1) % 4), a (50 + (r + 1) % 4), a (60 + (r + 1) % 4), a (30 + (r + 2) % 4), a (40 + (r + 2) % 4), a (50 + (r + 2) % 4), a (60 + (r + 2) % 4), a (30 + (r + 3) % 4), a (40 + (r + 3) % 4), a (50 + (r + 3) % 4), a (60 + (r + 3) % 4)] rfl rfl hD
  refine lv_icmp_eq (tgt := 867) hx hb dL_law_420 (by decide) (fun _ => ?_) (fun h => absurd (rfl) h)
  exact kk H locs ls hS ⟨r, zo, zs, hr4, zl, zp, zr, xr, (nr w), (pgN w), (stN w), (wrN w), true, sl, fe, fc, fs, ge2, gc2, gs2, w, pa, (va_cpy w sn 0 0 988), tx, me, td, cl, tl, he, hc, hs, yn, yg, yt, yw, ⟨hzo, hz4, hz60, hW, hR, fun _ => (SlotOk.of hW hR2).ag ag_cpy0, hsl, hHs⟩, hD, hP⟩ hl
set_option maxHeartbeats 4000000 in
set_option maxRecDepth 100000 in
theorem law_undo (l : Launch) (g : XG) (a : Nat → Nat) {p : Program} {e : Env} {s : State} {m : MethodId} {below : List Frame} {meth : Method} {c : Code} {b L9 i cells slots : Nat} {xs : Nat → Int32} {Q : State → Prop} {H : Heap} {locs : List Loc} {ls : Array Slot} (hF : FX p s m #[Value.ref b] c code 8 RL g) (hZ : ZS g s s.heap) (hX : va_X b L9 xs s s.heap) (hbl : b < s.heap.size) (hg : g.2.2 3 = s.heap.size) (hrc : cells ≤ 600000 ∧ slots ≤ 7302250) (hi : i + 5 ≤ L9) (hL9 : L9 ≤ 2560) (hS : va_S (fun q => s.heap.size ≤ q) s.heap H locs) (hI : RX g (fun q => s.heap.size ≤ q) a H) (hl : lv_has ls 8 [(0, .ref b), (1, .ref (a 0)), (2, .ref (a 15)), (3, .int (nI i))]) (kk : ∀ (H : Heap) (locs : List Loc) (ls : Array Slot), va_S (fun q => s.heap.size ≤ q) s.heap H locs → RX g (fun q => s.heap.size ≤ q) a H → lv_has ls 8 [(0, .ref b), (1, .ref (a 0)), (2, .ref (a 15)), (3, .int (nI i))] → W p l e room_1 s m #[Value.ref b] below meth c H locs cells slots Q (F0 m 867 ls [])) : W p l e room_1 s m #[Value.ref b] below meth c H locs cells slots Q (F0 m 399 ls []) := by
  have hx := hF.1.1
  have hb := hF.1.2.1
  have hAB : ∀ q, (fun q => s.heap.size ≤ q) q → xB g q := fun q hq => by show g.2.2 3 ≤ q; rw [hg]; exact hq
  obtain ⟨r0, zo, zs, hr0, hI⟩ := hI
  obtain ⟨r, hre⟩ : ∃ r, r = (zo + (zs - 1)) % 4 := ⟨_, rfl⟩
  have hr4 : r < 4 := by omega
  have hI := hI.to hr0 hr4
  obtain ⟨zl, zp, zr, xr, un, ug, ut, uw, zk, sl, fe, fc, fs, ge, gc, gs, w, pa, sn, tx, me, td, cl, tl, he, hc, hs, yn, yg, yt, yw, ⟨hzo, hz4, hz60, hW, hR, hSn, hsl, hHs⟩, hD, hP⟩ := hI
  have hP : va_P g.1 vwCl (WY g a zo zs zs zl zl zp zr xr un ug ut uw zk zk sl fe fc fs ge gc gs w w pa sn tx tx me td cl tl (SX g a r he hc hs yn yg yt yw) (SX g a ((r + 1) % 4) he hc hs yn yg yt yw) (SX g a ((r + 2) % 4) he hc hs yn yg yt yw) (SX g a ((r + 3) % 4) he hc hs yn yg yt yw)) H := hP
  have hD : va_D (fun q => s.heap.size ≤ q) (WY g a zo zs zs zl zl zp zr xr un ug ut uw zk zk sl fe fc fs ge gc gs w w pa sn tx tx me td cl tl (SX g a r he hc hs yn yg yt yw) (SX g a ((r + 1) % 4) he hc hs yn yg yt yw) (SX g a ((r + 2) % 4) he hc hs yn yg yt yw) (SX g a ((r + 3) % 4) he hc hs yn yg yt yw)) := hD
  by_cases hz : zs = 0
  · subst hz
    refine lv_aload_n hx hb dL_law_399 rfl (lv_at hl 1 rfl) ?_
    refine vp_callSi (va_Run.run (xrV hF (c_X3_undo0 l g (a 0) (a 3) (a 7) (a 1) (a 11) (a 14) (a 2) zo zk) cal_X3_undo q_368 ⟨Nat.le_of_ble_eq_true rfl, Nat.le_of_ble_eq_true rfl⟩ rfl rfl rfl (va_recv hF.2.1 hP (ci := 3) (q0 := 0) rfl rfl) (hZ.at hS hAB) (hP.sub [0, 1] rfl) hl.1 rfl (Nat.le_of_ble_eq_true rfl) dL_law_400 hrc)) (fun r_ h_ => ?_)
    subst h_
    refine lv_aload_n hx hb dL_law_403 rfl (lv_at hl 2 rfl) ?_
    refine xci (xrV hF (c_X4_undo l g (a 15) (a 16) (a 17) (a 18) (a 19) (a 20) (a 21) 0 zl zp zr zk w pa sn tx me td (hD.self2 [19, 20, 21, 22, 23, 24, 25] (by decide) rfl) (fun q hq => hAB q (va_inA hD [19, 20, 21, 22, 23, 24, 25] rfl q hq)) hz4) cal_X4_undo q_375 ⟨Nat.le_of_ble_eq_true rfl, Nat.le_of_ble_eq_true rfl⟩ rfl rfl rfl (va_recv hF.2.1 hP (ci := 4) (q0 := 19) rfl rfl) (hZ.at hS hAB) (hP.sub [19, 20, 21, 22, 23, 24, 25] rfl) hl.1 rfl (Nat.le_of_ble_eq_true rfl) dL_law_404 hrc) hS (va_inA hD [19, 20, 21, 22, 23, 24, 25] rfl) (va_inA hD [19, 20, 21, 22, 23, 24, 25] rfl) (fun r_ H locs hq_ hz_ hk_ hS => ?_)
    obtain ⟨rfl, hn_, hy_⟩ := hq_
    have hw_ := hn_ rfl
    have hP : va_P g.1 vwCl (WY g a zo 0 0 zl zl zp zr xr un ug ut uw zk zk sl fe fc fs ge gc gs w w pa sn tx tx me td cl tl (SX g a r he hc hs yn yg yt yw) (SX g a ((r + 1) % 4) he hc hs yn yg yt yw) (SX g a ((r + 2) % 4) he hc hs yn yg yt yw) (SX g a ((r + 3) % 4) he hc hs yn yg yt yw)) H := xjoin hP hD hw_ hk_ [19, 20, 21, 22, 23, 24, 25] [(false, 0), (false, 1), (false, 2), (false, 3), (false, 4), (false, 5), (false, 6), (false, 7), (false, 8), (false, 9), (false, 10), (false, 11), (false, 12), (false, 13), (false, 14), (false, 15), (false, 16), (false, 17), (false, 18), (true, 0), (true, 1), (true, 2), (true, 3), (true, 4), (true, 5), (true, 6), (false, 26), (false, 27), (false, 28), (false, 29), (false, 30), (false, 31), (false, 32), (false, 33), (false, 34), (false, 35), (false, 36), (false, 37)] rfl rfl rfl
    have hD : va_D (fun q => s.heap.size ≤ q) (WY g a zo 0 0 zl zl zp zr xr un ug ut uw zk zk sl fe fc fs ge gc gs w w pa sn tx tx me td cl tl (SX g a r he hc hs yn yg yt yw) (SX g a ((r + 1) % 4) he hc hs yn yg yt yw) (SX g a ((r + 2) % 4) he hc hs yn yg yt yw) (SX g a ((r + 3) % 4) he hc hs yn yg yt yw)) := va_D_eqL [a 0, a 1, a 2, a (30 + r), a (40 + r), a (50 + r), a (60 + r), a 3, a 4, a 5, a 6, a 7, a 8, a 9, a 10, a 11, a 12, a 13, a 14, a 15, a 16, a 17, a 18, a 19, a 20, a 21, a (30 + (r + 1) % 4), a (40 + (r + 1) % 4), a (50 + (r + 1) % 4), a (60 + (r + 1) % 4), a (30 + (r + 2) % 4), a (40 + (r + 2) % 4), a (50 + (r + 2) % 4), a (60 + (r + 2) % 4), a (30 + (r + 3) % 4), a (40 + (r + 3) % 4), a (50 + (r + 3) % 4), a (60 + (r + 3) % 4)] rfl rfl hD
    refine lv_icmp_eq (tgt := 867) hx hb dL_law_407 (by decide) (fun _ => ?_) (fun h => absurd (rfl) h)
    exact kk H locs ls hS ⟨r, zo, 0, hr4, zl, zp, zr, xr, un, ug, ut, uw, zk, sl, fe, fc, fs, ge, gc, gs, w, pa, sn, tx, me, td, cl, tl, he, hc, hs, yn, yg, yt, yw, ⟨hzo, hz4, hz60, hW, hR, hSn, hsl, hHs⟩, hD, hP⟩ hl
  · have hz0 : 0 < zs := by omega
    obtain ⟨h, hh⟩ : ∃ h : Nat → Int32, h = fun j => pa (988 * (zs - 1) + j) := ⟨_, rfl⟩
    have hH9 := hHs (zs - 1) (by omega)
    rw [← hre, ← hh] at hH9
    obtain ⟨hWh, e1, e2, e3, e4, hRh⟩ := hH9
    have hP : va_P g.1 vwCl (WY g a zo zs zs zl zl zp zr xr un ug ut uw zk zk sl fe fc fs ge gc gs w w pa sn tx tx me td cl tl (LogC g (a (30 + r)) (a (40 + r)) (a (50 + r)) (a (60 + r)) (he r) (hc r) (hs r) h) (SX g a ((r + 1) % 4) he hc hs yn yg yt yw) (SX g a ((r + 2) % 4) he hc hs yn yg yt yw) (SX g a ((r + 3) % 4) he hc hs yn yg yt yw)) H := by rw [← SX_log e1 e2 e3 e4]; exact hP
    have hD : va_D (fun q => s.heap.size ≤ q) (WY g a zo zs zs zl zl zp zr xr un ug ut uw zk zk sl fe fc fs ge gc gs w w pa sn tx tx me td cl tl (LogC g (a (30 + r)) (a (40 + r)) (a (50 + r)) (a (60 + r)) (he r) (hc r) (hs r) h) (SX g a ((r + 1) % 4) he hc hs yn yg yt yw) (SX g a ((r + 2) % 4) he hc hs yn yg yt yw) (SX g a ((r + 3) % 4) he hc hs yn yg yt yw)) := by rw [← SX_log e1 e2 e3 e4]; exact hD
    refine lv_aload_n hx hb dL_law_399 rfl (lv_at hl 1 rfl) ?_
    refine xci (xrV hF (c_X3_undo l g (a 0) (a 7) (a 11) (a 14) zk (a 1) (a 2) zo zs (a (30 + r)) (a (40 + r)) (a (50 + r)) (a (60 + r)) (a 3) (a 4) (a 5) (a 6) (nr w) (pgN w) (stN w) (wrN w) sl (he r) (hc r) (hs r) fe fc fs h hWh hRh hzo hz4 hz0 (hD.self2 [0, 1, 2, 3, 4, 5, 6, 7, 8, 9, 10] (by decide) rfl) (fun q hq => hAB q (va_inA hD [0, 1, 2, 3, 4, 5, 6, 7, 8, 9, 10] rfl q hq)) (by rw [show (zo + zs - 1) % 4 = r by omega]; exact hsl r hr4)) cal_X3_undo q_368 ⟨Nat.le_of_ble_eq_true rfl, Nat.le_of_ble_eq_true rfl⟩ rfl rfl rfl (va_recv hF.2.1 hP (ci := 3) (q0 := 0) rfl rfl) (hZ.at hS hAB) (hP.sub [0, 1, 2, 3, 4, 5, 6, 7, 8, 9, 10] rfl) hl.1 rfl (Nat.le_of_ble_eq_true rfl) dL_law_400 hrc) hS (va_inA hD [0, 1, 2, 3, 4, 5, 6, 7, 8, 9, 10] rfl) (va_inA hD [0, 1, 2, 3, 4, 5, 6, 7, 8, 9, 10] rfl) (fun r_ H locs hq_ hz_ hk_ hS => ?_)
    obtain ⟨rfl, fe2, fc2, fs2, hRn, hw_⟩ := hq_
    have hP : va_P g.1 vwCl (WY g a zo (zs - 1) zs zl zl zp zr xr un ug ut uw zk zk sl fe2 fc2 fs2 ge gc gs h w pa sn tx tx me td cl tl (LogC g (a (30 + r)) (a (40 + r)) (a (50 + r)) (a (60 + r)) (he r) (hc r) (hs r) h) (SX g a ((r + 1) % 4) he hc hs yn yg yt yw) (SX g a ((r + 2) % 4) he hc hs yn yg yt yw) (SX g a ((r + 3) % 4) he hc hs yn yg yt yw)) H := xjoin hP hD hw_ hk_ [0, 1, 2, 3, 4, 5, 6, 7, 8, 9, 10] [(true, 0), (true, 1), (true, 2), (true, 3), (true, 4), (true, 5), (true, 6), (true, 7), (true, 8), (true, 9), (true, 10), (false, 11), (false, 12), (false, 13), (false, 14), (false, 15), (false, 16), (false, 17), (false, 18), (false, 19), (false, 20), (false, 21), (false, 22), (false, 23), (false, 24), (false, 25), (false, 26), (false, 27), (false, 28), (false, 29), (false, 30), (false, 31), (false, 32), (false, 33), (false, 34), (false, 35), (false, 36), (false, 37)] rfl rfl rfl
    have hD : va_D (fun q => s.heap.size ≤ q) (WY g a zo (zs - 1) zs zl zl zp zr xr un ug ut uw zk zk sl fe2 fc2 fs2 ge gc gs h w pa sn tx tx me td cl tl (LogC g (a (30 + r)) (a (40 + r)) (a (50 + r)) (a (60 + r)) (he r) (hc r) (hs r) h) (SX g a ((r + 1) % 4) he hc hs yn yg yt yw) (SX g a ((r + 2) % 4) he hc hs yn yg yt yw) (SX g a ((r + 3) % 4) he hc hs yn yg yt yw)) := va_D_eqL [a 0, a 1, a 2, a (30 + r), a (40 + r), a (50 + r), a (60 + r), a 3, a 4, a 5, a 6, a 7, a 8, a 9, a 10, a 11, a 12, a 13, a 14, a 15, a 16, a 17, a 18, a 19, a 20, a 21, a (30 + (r + 1) % 4), a (40 + (r + 1) % 4), a (50 + (r + 1) % 4), a (60 + (r + 1) % 4), a (30 + (r + 2) % 4), a (40 + (r + 2) % 4), a (50 + (r + 2) % 4), a (60 + (r + 2) % 4), a (30 + (r + 3) % 4), a (40 + (r + 3) % 4), a (50 + (r + 3) % 4), a (60 + (r + 3) % 4)] rfl rfl hD
    refine lv_aload_n hx hb dL_law_403 rfl (lv_at hl 2 rfl) ?_
    refine xci (xrV hF (c_X4_undo l g (a 15) (a 16) (a 17) (a 18) (a 19) (a 20) (a 21) zs zl zp zr zk w pa sn tx me td (hD.self2 [19, 20, 21, 22, 23, 24, 25] (by decide) rfl) (fun q hq => hAB q (va_inA hD [19, 20, 21, 22, 23, 24, 25] rfl q hq)) hz4) cal_X4_undo q_375 ⟨Nat.le_of_ble_eq_true rfl, Nat.le_of_ble_eq_true rfl⟩ rfl rfl rfl (va_recv hF.2.1 hP (ci := 4) (q0 := 19) rfl rfl) (hZ.at hS hAB) (hP.sub [19, 20, 21, 22, 23, 24, 25] rfl) hl.1 rfl (Nat.le_of_ble_eq_true rfl) dL_law_404 hrc) hS (va_inA hD [19, 20, 21, 22, 23, 24, 25] rfl) (va_inA hD [19, 20, 21, 22, 23, 24, 25] rfl) (fun r_ H locs hq_ hz_ hk_ hS => ?_)
    obtain ⟨rfl, hn_, hy_⟩ := hq_
    have hw_ := hy_ hz
    have hP : va_P g.1 vwCl (WY g a zo (zs - 1) (zs - 1) zl zl zp zr xr un ug ut uw zk zk sl fe2 fc2 fs2 ge gc gs h (va_cpy pa w (988 * (zs - 1)) 0 988) pa sn tx tx me td cl tl (LogC g (a (30 + r)) (a (40 + r)) (a (50 + r)) (a (60 + r)) (he r) (hc r) (hs r) h) (SX g a ((r + 1) % 4) he hc hs yn yg yt yw) (SX g a ((r + 2) % 4) he hc hs yn yg yt yw) (SX g a ((r + 3) % 4) he hc hs yn yg yt yw)) H := xjoin hP hD hw_ hk_ [19, 20, 21, 22, 23, 24, 25] [(false, 0), (false, 1), (false, 2), (false, 3), (false, 4), (false, 5), (false, 6), (false, 7), (false, 8), (false, 9), (false, 10), (false, 11), (false, 12), (false, 13), (false, 14), (false, 15), (false, 16), (false, 17), (false, 18), (true, 0), (true, 1), (true, 2), (true, 3), (true, 4), (true, 5), (true, 6), (false, 26), (false, 27), (false, 28), (false, 29), (false, 30), (false, 31), (false, 32), (false, 33), (false, 34), (false, 35), (false, 36), (false, 37)] rfl rfl rfl
    have hD : va_D (fun q => s.heap.size ≤ q) (WY g a zo (zs - 1) (zs - 1) zl zl zp zr xr un ug ut uw zk zk sl fe2 fc2 fs2 ge gc gs h (va_cpy pa w (988 * (zs - 1)) 0 988) pa sn tx tx me td cl tl (LogC g (a (30 + r)) (a (40 + r)) (a (50 + r)) (a (60 + r)) (he r) (hc r) (hs r) h) (SX g a ((r + 1) % 4) he hc hs yn yg yt yw) (SX g a ((r + 2) % 4) he hc hs yn yg yt yw) (SX g a ((r + 3) % 4) he hc hs yn yg yt yw)) := va_D_eqL [a 0, a 1, a 2, a (30 + r), a (40 + r), a (50 + r), a (60 + r), a 3, a 4, a 5, a 6, a 7, a 8, a 9, a 10, a 11, a 12, a 13, a 14, a 15, a 16, a 17, a 18, a 19, a 20, a 21, a (30 + (r + 1) % 4), a (40 + (r + 1) % 4), a (50 + (r + 1) % 4), a (60 + (r + 1) % 4), a (30 + (r + 2) % 4), a (40 + (r + 2) % 4), a (50 + (r + 2) % 4), a (60 + (r + 2) % 4), a (30 + (r + 3) % 4), a (40 + (r + 3) % 4), a (50 + (r + 3) % 4), a (60 + (r + 3) % 4)] rfl rfl hD
    refine lv_icmp_eq (tgt := 867) hx hb dL_law_407 (by decide) (fun _ => ?_) (fun h => absurd ((if_neg hz).symm) h)
    have hag : Ag h (va_cpy pa w (988 * (zs - 1)) 0 988) := by rw [hh]; exact ag_und
    have hP : va_P g.1 vwCl (WY g a zo (zs - 1) (zs - 1) zl zl zp zr xr un ug ut uw zk zk sl fe2 fc2 fs2 ge gc gs (va_cpy pa w (988 * (zs - 1)) 0 988) (va_cpy pa w (988 * (zs - 1)) 0 988) pa sn tx tx me td cl tl (LogC g (a (30 + r)) (a (40 + r)) (a (50 + r)) (a (60 + r)) (he r) (hc r) (hs r) h) (SX g a ((r + 1) % 4) he hc hs yn yg yt yw) (SX g a ((r + 2) % 4) he hc hs yn yg yt yw) (SX g a ((r + 3) % 4) he hc hs yn yg yt yw)) H := by rw [← WY_ag hag]; exact hP
    have hD : va_D (fun q => s.heap.size ≤ q) (WY g a zo (zs - 1) (zs - 1) zl zl zp zr xr un ug ut uw zk zk sl fe2 fc2 fs2 ge gc gs (va_cpy pa w (988 * (zs - 1)) 0 988) (va_cpy pa w (988 * (zs - 1)) 0 988) pa sn tx tx me td cl tl (LogC g (a (30 + r)) (a (40 + r)) (a (50 + r)) (a (60 + r)) (he r) (hc r) (hs r) h) (SX g a ((r + 1) % 4) he hc hs yn yg yt yw) (SX g a ((r + 2) % 4) he hc hs yn yg yt yw) (SX g a ((r + 3) % 4) he hc hs yn yg yt yw)) := by rw [← WY_ag hag]; exact hD
    exact kk H locs ls hS ⟨r, zo, (zs - 1), hr4, zl, zp, zr, xr, un, ug, ut, uw, zk, sl, fe2, fc2, fs2, ge, gc, gs, (va_cpy pa w (988 * (zs - 1)) 0 988), pa, sn, tx, me, td, cl, tl, he, hc, hs, yn, yg, yt, yw, ⟨hzo, by omega, hz60, hWh.ag hag, hRn.ag hWh hag, hSn, hsl, fun k hk => hHs k (by omega)⟩, by rw [SX_log e1 e2 e3 e4]; exact hD, by rw [SX_log e1 e2 e3 e4]; exact hP⟩ hl
