/-! the law: its loop -/
set_option maxHeartbeats 4000000 in
set_option maxRecDepth 100000 in
theorem law_loop (l : Launch) (g : XG) (a : Nat → Nat) {p : Program} {e : Env} {s : State} {m : MethodId} {below : List Frame} {meth : Method} {c : Code} {b L9 cells slots : Nat} {xs : Nat → Int32} {Q : State → Prop} (hF : FX p s m #[Value.ref b] c code 8 RL g) (hZ : ZS g s s.heap) (hX : va_X b L9 xs s s.heap) (hbl : b < s.heap.size) (hg : g.2.2 3 = s.heap.size) (hrc : cells ≤ 600000 ∧ slots ≤ 7302250) (hL9 : L9 ≤ 2560) (kend : ∀ (H : Heap) (locs : List Loc) (ls : Array Slot), va_S (fun q => s.heap.size ≤ q) s.heap H locs → W p l e room_1 s m #[Value.ref b] below meth c H locs cells slots Q (F0 m 873 ls [])) : ∀ (n i : Nat) (H : Heap) (locs : List Loc) (ls : Array Slot), L9 - i < n → i ≤ 3000 → va_S (fun q => s.heap.size ≤ q) s.heap H locs → RX g (fun q => s.heap.size ≤ q) a H → lv_has ls 8 [(0, .ref b), (1, .ref (a 0)), (2, .ref (a 15)), (3, .int (nI i))] → W p l e room_1 s m #[Value.ref b] below meth c H locs cells slots Q (F0 m 18 ls [])
  | 0, i, H, locs, ls, hn, _, _, _, _ => absurd hn (Nat.not_lt_zero _)
  | n + 1, i, H, locs, ls, hn, h3, hS, hI, hl => by
    have hx := hF.1.1
    have hb := hF.1.2.1
    refine lv_iload_n hx hb dL_law_18 rfl (lv_at hl 3 rfl) ?_
    refine lv_aload_n hx hb dL_law_19 rfl (lv_at hl 0 rfl) ?_
    refine va_slen hx hb hX hbl (Nat.not_le.mpr hbl) hS dL_law_20 ?_
    refine lv_iconst (v := nI 5) hx hb dL_law_21 (by decide) ?_
    refine lv_isub hx hb dL_law_22 ?_
    have e1 : (nI L9 - nI 5).toInt = (L9 : Int) - 5 := pk_sub_toInt (by omega) (by decide)
    have e2 := nI_toInt (n := i) (by omega)
    refine lv_icmp_gt (tgt := 873) hx hb dL_law_23 (by decide) (fun _ => kend H locs ls hS) (fun hc => ?_)
    have hi : i + 5 ≤ L9 := by
      rw [Int32.lt_iff_toInt_lt] at hc
      have hc : ¬ ((nI L9 - nI 5).toInt < (nI i).toInt) := hc
      rw [e1, e2] at hc; omega
    have kk : ∀ (H : Heap) (locs : List Loc) (ls : Array Slot), va_S (fun q => s.heap.size ≤ q) s.heap H locs → RX g (fun q => s.heap.size ≤ q) a H → lv_has ls 8 [(0, .ref b), (1, .ref (a 0)), (2, .ref (a 15)), (3, .int (nI i))] → W p l e room_1 s m #[Value.ref b] below meth c H locs cells slots Q (F0 m 867 ls []) := fun H locs ls hS hI hl => by
      refine xN_inc (lv' := [(3, .int (nI (i + 5))), (0, .ref b), (1, .ref (a 0)), (2, .ref (a 15))]) hx hb 5 dL_law_867 hl (k := 3) rfl (by decide) (by decide) rfl (fun ls hl => ?_)
      refine lv_goto (tgt := 18) hx hb dL_law_870 (by decide) ?_
      exact law_loop l g a hF hZ hX hbl hg hrc hL9 kend n (i + 5) H locs ls (by omega) (by omega) hS hI (lv_sub hl [1, 2, 3, 0] rfl)
    refine lv_aload_n hx hb dL_law_26 rfl (lv_at hl 0 rfl) ?_
    refine lv_iload_n hx hb dL_law_27 rfl (lv_at hl 3 rfl) ?_
    refine xscr hF hX hbl hS (by omega) hL9 dL_law_28 ?_
    refine lv_bipush hx hb (v := 31) dL_law_29 (by decide) ?_
    refine lv_iand hx hb dL_law_31 ?_
    by_cases w_0 : xs i &&& 31 = 0
    · exact lv_tableIn (off := 108) (tgt := 140) hx hb dL_law_32 (by rw [w_0]; decide) (by rw [w_0]; decide) (by rw [w_0]; rfl) (by decide) (law_addRow l g a hF hZ hX hbl hg hrc hi hL9 hS hI hl kk)
    by_cases w_1 : xs i &&& 31 = 1
    · exact lv_tableIn (off := 161) (tgt := 193) hx hb dL_law_32 (by rw [w_1]; decide) (by rw [w_1]; decide) (by rw [w_1]; rfl) (by decide) (law_addRows l g a hF hZ hX hbl hg hrc hi hL9 hS hI hl kk)
    by_cases w_2 : xs i &&& 31 = 2
    · exact lv_tableIn (off := 174) (tgt := 206) hx hb dL_law_32 (by rw [w_2]; decide) (by rw [w_2]; decide) (by rw [w_2]; rfl) (by decide) (law_removeRow l g a hF hZ hX hbl hg hrc hi hL9 hS hI hl kk)
    by_cases w_3 : xs i &&& 31 = 3
    · exact lv_tableIn (off := 187) (tgt := 219) hx hb dL_law_32 (by rw [w_3]; decide) (by rw [w_3]; decide) (by rw [w_3]; rfl) (by decide) (law_correct l g a hF hZ hX hbl hg hrc hi hL9 hS hI hl kk)
    by_cases w_4 : xs i &&& 31 = 4
    · exact lv_tableIn (off := 230) (tgt := 262) hx hb dL_law_32 (by rw [w_4]; decide) (by rw [w_4]; decide) (by rw [w_4]; rfl) (by decide) (law_takeBack l g a hF hZ hX hbl hg hrc hi hL9 hS hI hl kk)
    by_cases w_5 : xs i &&& 31 = 5
    · exact lv_tableIn (off := 263) (tgt := 295) hx hb dL_law_32 (by rw [w_5]; decide) (by rw [w_5]; decide) (by rw [w_5]; rfl) (by decide) (law_claim l g a hF hZ hX hbl hg hrc hi hL9 hS hI hl kk)
    by_cases w_6 : xs i &&& 31 = 6
    · exact lv_tableIn (off := 296) (tgt := 328) hx hb dL_law_32 (by rw [w_6]; decide) (by rw [w_6]; decide) (by rw [w_6]; rfl) (by decide) (law_set l g a hF hZ hX hbl hg hrc hi hL9 hS hI hl kk)
    by_cases w_7 : xs i &&& 31 = 7
    · exact lv_tableIn (off := 329) (tgt := 361) hx hb dL_law_32 (by rw [w_7]; decide) (by rw [w_7]; decide) (by rw [w_7]; rfl) (by decide) (law_type l g a hF hZ hX hbl hg hrc hi hL9 hS hI hl kk)
    by_cases w_8 : xs i &&& 31 = 8
    · exact lv_tableIn (off := 354) (tgt := 386) hx hb dL_law_32 (by rw [w_8]; decide) (by rw [w_8]; decide) (by rw [w_8]; rfl) (by decide) (law_clearText l g a hF hZ hX hbl hg hrc hi hL9 hS hI hl kk)
    by_cases w_9 : xs i &&& 31 = 9
    · exact lv_tableIn (off := 367) (tgt := 399) hx hb dL_law_32 (by rw [w_9]; decide) (by rw [w_9]; decide) (by rw [w_9]; rfl) (by decide) (law_undo l g a hF hZ hX hbl hg hrc hi hL9 hS hI hl kk)
    by_cases w_10 : xs i &&& 31 = 10
    · exact lv_tableIn (off := 380) (tgt := 412) hx hb dL_law_32 (by rw [w_10]; decide) (by rw [w_10]; decide) (by rw [w_10]; rfl) (by decide) (law_keep l g a hF hZ hX hbl hg hrc hi hL9 hS hI hl kk)
    by_cases w_11 : xs i &&& 31 = 11
    · exact lv_tableIn (off := 393) (tgt := 425) hx hb dL_law_32 (by rw [w_11]; decide) (by rw [w_11]; decide) (by rw [w_11]; rfl) (by decide) (law_restore l g a hF hZ hX hbl hg hrc hi hL9 hS hI hl kk)
    by_cases w_12 : xs i &&& 31 = 12
    · exact lv_tableIn (off := 406) (tgt := 438) hx hb dL_law_32 (by rw [w_12]; decide) (by rw [w_12]; decide) (by rw [w_12]; rfl) (by decide) (law_cell l g a hF hZ hX hbl hg hrc hi hL9 hS hI hl kk)
    by_cases w_13 : xs i &&& 31 = 13
    · exact lv_tableIn (off := 449) (tgt := 481) hx hb dL_law_32 (by rw [w_13]; decide) (by rw [w_13]; decide) (by rw [w_13]; rfl) (by decide) (law_entry l g a hF hZ hX hbl hg hrc hi hL9 hS hI hl kk)
    by_cases w_14 : xs i &&& 31 = 14
    · exact lv_tableIn (off := 492) (tgt := 524) hx hb dL_law_32 (by rw [w_14]; decide) (by rw [w_14]; decide) (by rw [w_14]; rfl) (by decide) (law_isWritten l g a hF hZ hX hbl hg hrc hi hL9 hS hI hl kk)
    by_cases w_15 : xs i &&& 31 = 15
    · exact lv_tableIn (off := 515) (tgt := 547) hx hb dL_law_32 (by rw [w_15]; decide) (by rw [w_15]; decide) (by rw [w_15]; rfl) (by decide) (law_column l g a hF hZ hX hbl hg hrc hi hL9 hS hI hl kk)
    by_cases w_16 : xs i &&& 31 = 16
    · exact lv_tableIn (off := 548) (tgt := 580) hx hb dL_law_32 (by rw [w_16]; decide) (by rw [w_16]; decide) (by rw [w_16]; rfl) (by decide) (law_watch l g a hF hZ hX hbl hg hrc hi hL9 hS hI hl kk)
    by_cases w_17 : xs i &&& 31 = 17
    · exact lv_tableIn (off := 581) (tgt := 613) hx hb dL_law_32 (by rw [w_17]; decide) (by rw [w_17]; decide) (by rw [w_17]; rfl) (by decide) (law_run l g a hF hZ hX hbl hg hrc hi hL9 hS hI hl kk)
    by_cases w_18 : xs i &&& 31 = 18
    · exact lv_tableIn (off := 614) (tgt := 646) hx hb dL_law_32 (by rw [w_18]; decide) (by rw [w_18]; decide) (by rw [w_18]; rfl) (by decide) (law_north l g a hF hZ hX hbl hg hrc hi hL9 hS hI hl kk)
    by_cases w_19 : xs i &&& 31 = 19
    · exact lv_tableIn (off := 675) (tgt := 707) hx hb dL_law_32 (by rw [w_19]; decide) (by rw [w_19]; decide) (by rw [w_19]; rfl) (by decide) (law_east l g a hF hZ hX hbl hg hrc hi hL9 hS hI hl kk)
    by_cases w_20 : xs i &&& 31 = 20
    · exact lv_tableIn (off := 736) (tgt := 768) hx hb dL_law_32 (by rw [w_20]; decide) (by rw [w_20]; decide) (by rw [w_20]; rfl) (by decide) (law_squareBits l g a hF hZ hX hbl hg hrc hi hL9 hS hI hl kk)
    by_cases w_21 : xs i &&& 31 = 21
    · exact lv_tableIn (off := 769) (tgt := 801) hx hb dL_law_32 (by rw [w_21]; decide) (by rw [w_21]; decide) (by rw [w_21]; rfl) (by decide) (law_wouldChange l g a hF hZ hX hbl hg hrc hi hL9 hS hI hl kk)
    by_cases w_22 : xs i &&& 31 = 22
    · exact lv_tableIn (off := 812) (tgt := 844) hx hb dL_law_32 (by rw [w_22]; decide) (by rw [w_22]; decide) (by rw [w_22]; rfl) (by decide) (law_count l g a hF hZ hX hbl hg hrc hi hL9 hS hI hl kk)
    exact lv_tableOut (tgt := 867) hx hb dL_law_32 (by have a0 := lv_neT w_0 (a := 0) (by decide); have a1 := lv_neT w_1 (a := 1) (by decide); have a2 := lv_neT w_2 (a := 2) (by decide); have a3 := lv_neT w_3 (a := 3) (by decide); have a4 := lv_neT w_4 (a := 4) (by decide); have a5 := lv_neT w_5 (a := 5) (by decide); have a6 := lv_neT w_6 (a := 6) (by decide); have a7 := lv_neT w_7 (a := 7) (by decide); have a8 := lv_neT w_8 (a := 8) (by decide); have a9 := lv_neT w_9 (a := 9) (by decide); have a10 := lv_neT w_10 (a := 10) (by decide); have a11 := lv_neT w_11 (a := 11) (by decide); have a12 := lv_neT w_12 (a := 12) (by decide); have a13 := lv_neT w_13 (a := 13) (by decide); have a14 := lv_neT w_14 (a := 14) (by decide); have a15 := lv_neT w_15 (a := 15) (by decide); have a16 := lv_neT w_16 (a := 16) (by decide); have a17 := lv_neT w_17 (a := 17) (by decide); have a18 := lv_neT w_18 (a := 18) (by decide); have a19 := lv_neT w_19 (a := 19) (by decide); have a20 := lv_neT w_20 (a := 20) (by decide); have a21 := lv_neT w_21 (a := 21) (by decide); have a22 := lv_neT w_22 (a := 22) (by decide); omega) (by decide) (kk H locs ls hS hI hl)
