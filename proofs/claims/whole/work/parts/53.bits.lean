/-! floats' bits -/
theorem bits_end {c k0 i j : Nat} (hc : c < 2 ^ 24) (h1 : 925 ≤ k0) (h2 : k0 ≤ 1178) (h3 : k0 = 925 ∨ 2 ^ 23 ≤ c) (hi : i ≤ 127) (hj : j ≤ 126) (I4 : i = 0 ∨ U1 ≤ c * 2 ^ (k0 - i)) (J4 : c * 2 ^ (k0 - i + j) < 2 * U1) (J5 : i = 0 ∨ j = 0) (hg : U1 ≤ c * 2 ^ (k0 - i + j) ∨ j = 126) : k0 - i + j = 1051 := by
  by_cases hn : 2 ^ 23 ≤ c
  · have hu : k0 - i + j ≤ 1051 := Nat.le_of_not_lt (fun q => absurd J4 (Nat.not_lt.mpr (ge2U hn (by omega))))
    have hl : 1051 ≤ k0 - i + j := by
      rcases hg with g | g
      · exact Nat.le_of_not_lt (fun q => absurd g (Nat.not_le.mpr (ltU hc (by omega))))
      · omega
    omega
  · have hk : k0 = 925 := h3.resolve_right hn
    have hi0 : i = 0 := by
      rcases I4 with g | g
      · exact g
      · exact absurd g (Nat.not_le.mpr (ltU hc (by omega)))
    have hj : j = 126 := by
      rcases hg with g | g
      · exact absurd g (Nat.not_le.mpr (ltU (p := 23) (by omega) (by omega)))
      · exact g
    omega
theorem halfU {c k : Nat} (h : ¬ c * 2 ^ (k + 1) < 2 * U1) : U1 ≤ c * 2 ^ k := by
  rw [Nat.pow_succ, ← Nat.mul_assoc] at h; omega
theorem dblU {c k : Nat} (h : c * 2 ^ k < U1) : c * 2 ^ (k + 1) < 2 * U1 := by
  rw [Nat.pow_succ, ← Nat.mul_assoc]; omega
set_option maxHeartbeats 4000000 in
set_option maxRecDepth 100000 in
theorem c_X3_bitsOf (l : Launch) (g : XG) (x : UInt32) (c9 : Nat) (q9 : Int) (hv : FP.Core.val32 x = .fin false c9 q9) : Met l yX3_bitsOf (ww yX3_bitsOf cX3_bitsOf 5 (some .int)) (rmD 0) (xP g [.float (x)] (fun H => True)) (vp_Si (fun r9 => r9 = x.toInt32)) 0 0 (fun _ => False) := by
  refine xMet (by decide) rfl (Nat.le_of_ble_eq_true rfl) ?_
  intro p e s m below meth c ls hF hZ hh hret hlocks hin hl
  have hx := hF.1.1
  have hb := hF.1.2.1
  have hl : lv_has ls 5 [(0, .float (x))] := hl
  obtain ⟨hbt, hc, hq1, hq2, hq3⟩ := flt_bits hv
  obtain ⟨hev, hn64⟩ := flt_EV hv
  obtain ⟨k0, hk0⟩ : ∃ k0 : Nat, (q9 + 1074).toNat = k0 := ⟨_, rfl⟩
  rw [hk0] at hev
  have hc53 : c9 < 2 ^ 53 := by omega
  have hk1 : 925 ≤ k0 := by omega
  have hk2 : k0 ≤ 1178 := by omega
  have hk3 : k0 = 925 ∨ 2 ^ 23 ≤ c9 := by omega
  refine lv_fload_n hx hb dX3_bitsOf_0 rfl (lv_at hl 0 rfl) ?_
  refine lv_f2d hx hb dX3_bitsOf_1 (hn64) ?_
  refine lv_dstore_n (lv' := [(1, .double (FP.f2d (x))), (0, .float (x))]) hx hb dX3_bitsOf_2 rfl hl (by decide) rfl (fun ls hl => ?_)
  refine xN_bi hx hb 126 dX3_bitsOf_3 (by decide) ?_
  refine lv_istore_n (lv' := [(3, .int (nI 126)), (1, .double (FP.f2d (x))), (0, .float (x))]) hx hb dX3_bitsOf_5 rfl hl (by decide) rfl (fun ls hl => ?_)
  refine xN_const hx hb 0 dX3_bitsOf_6 (by decide) ?_
  refine lv_istore (lv' := [(4, .int (nI 0)), (3, .int (nI 126)), (1, .double (FP.f2d (x))), (0, .float (x))]) hx hb dX3_bitsOf_7 hl (by decide) rfl (fun ls hl => ?_)
  refine xloop (goal := fun ls => W p l e _ s m _ below meth c s.heap [] _ _ _ (F0 m _ ls [])) (fun (z_ : UInt64 × Nat × Nat) (ls : Array Slot) => match z_ with | (z, ex, i) => (i ≤ 127) ∧ (EV z c9 (k0 - i)) ∧ (ex = 126 + i) ∧ (i = 0 ∨ U1 ≤ c9 * 2 ^ (k0 - i)) ∧ lv_has ls 5 [(0, .float (x)), (1, .double (z)), (3, .int (nI ex)), (4, .int (nI i))]) (fun (z_ : UInt64 × Nat × Nat) => match z_ with | (z, ex, i) => 127 - i) ?_ (FP.f2d (x), 126, 0) ls ⟨Nat.zero_le _, hev, rfl, Or.inl rfl, lv_sub hl [3, 2, 1, 0] rfl⟩
  rintro ⟨z, ex, i⟩ ls ⟨I1, I2, I3, I4, hl⟩ ih
  refine lv_iload hx hb dX3_bitsOf_9 (lv_at hl 3 rfl) ?_
  refine xN_bi hx hb 127 dX3_bitsOf_11 (by decide) ?_
  refine xC_ge (tgt := 39) hx hb (by omega) (by omega) dX3_bitsOf_13 (by decide) (fun c_13 => ?_) (fun c_13 => ?_)
  · have hlt : c9 * 2 ^ (k0 - i) < 2 * U1 := lt2U hc (by omega)
    refine xN_const hx hb 0 dX3_bitsOf_39 (by decide) ?_
    refine lv_istore (lv' := [(4, .int (nI 0)), (0, .float (x)), (1, .double (z)), (3, .int (nI ex))]) hx hb dX3_bitsOf_40 hl (by decide) rfl (fun ls hl => ?_)
    refine xloop (goal := fun ls => W p l e _ s m _ below meth c s.heap [] _ _ _ (F0 m _ ls [])) (fun (z_ : UInt64 × Nat × Nat) (ls : Array Slot) => match z_ with | (y, e2, j) => (j ≤ 126) ∧ (EV y c9 (k0 - i + j)) ∧ (e2 + j = 126 + i) ∧ (c9 * 2 ^ (k0 - i + j) < 2 * U1) ∧ (i = 0 ∨ j = 0) ∧ lv_has ls 5 [(0, .float (x)), (1, .double (y)), (3, .int (nI e2)), (4, .int (nI j))]) (fun (z_ : UInt64 × Nat × Nat) => match z_ with | (y, e2, j) => 126 - j) ?_ (z, ex, 0) ls ⟨Nat.zero_le _, I2, by omega, hlt, Or.inr rfl, lv_sub hl [1, 2, 3, 0] rfl⟩
    rintro ⟨y, e2, j⟩ ls ⟨J1, J2, J3, J4, J5, hl⟩ ih
    refine lv_iload hx hb dX3_bitsOf_42 (lv_at hl 3 rfl) ?_
    refine xN_bi hx hb 126 dX3_bitsOf_44 (by decide) ?_
    refine xC_ge (tgt := 70) hx hb (by omega) (by omega) dX3_bitsOf_46 (by decide) (fun c_46 => ?_) (fun c_46 => ?_)
    · have hk : k0 - i + j = 1051 := bits_end hc hk1 hk2 hk3 I1 J1 I4 J4 J5 (Or.inr (by omega))
      have he2 : e2 = (q9 + 149).toNat := by omega
      refine lv_iload_n hx hb dX3_bitsOf_70 rfl (lv_at hl 2 rfl) ?_
      refine xN_bi hx hb 23 dX3_bitsOf_71 (by decide) ?_
      refine lv_ishl hx hb dX3_bitsOf_73 ?_
      rw [show ((nI (e2) <<< (nI (23) &&& 31)) : Int32) = nI (e2 * 8388608) from pk_shlN (nI 23 &&& 31) 23 (by decide) (by omega)]
      refine lv_dload_n hx hb dX3_bitsOf_74 rfl (lv_at hl 1 rfl) ?_
      refine lv_ldc2d hx hb hF.1.2.2.2.1 (hF.1.2.2.2.2 _ q_613) dX3_bitsOf_75 ?_
      refine lv_dmul hx hb dX3_bitsOf_78 ((J2.t23 hc53 (by omega)).n64 hc53 (by omega)) ?_
      refine lv_d2i hx hb dX3_bitsOf_79 ?_
      refine lv_iadd hx hb dX3_bitsOf_80 ?_
      exact xret_i (V := (nI (e2 * 8388608) + (FP.d2i (FP.dmul (y) (4710765210229538816))))) hF hret hlocks ((congrArg (fun z9 => nI (e2 * 8388608) + z9) (EV.toI (by have h := J2.t23 hc53 (by omega); rw [hk] at h; exact h) hc)).trans (by rw [nI_add, hbt, he2])) dX3_bitsOf_81
    · refine lv_dload_n hx hb dX3_bitsOf_49 rfl (lv_at hl 1 rfl) ?_
      refine lv_dconst1 hx hb dX3_bitsOf_50 ?_
      refine lv_dcmp hx hb dX3_bitsOf_51 ?_
      refine lv_if_ge (tgt := 70) hx hb dX3_bitsOf_52 (by decide) (fun c_52 => ?_) (fun c_52 => ?_)
      · have hk : k0 - i + j = 1051 := bits_end hc hk1 hk2 hk3 I1 J1 I4 J4 J5 (Or.inl (Nat.not_lt.mp (fun h => absurd c_52 (Int32.not_le.mpr ((J2.lt1 hc53 (by omega)).mpr h)))))
        have he2 : e2 = (q9 + 149).toNat := by omega
        refine lv_iload_n hx hb dX3_bitsOf_70 rfl (lv_at hl 2 rfl) ?_
        refine xN_bi hx hb 23 dX3_bitsOf_71 (by decide) ?_
        refine lv_ishl hx hb dX3_bitsOf_73 ?_
        rw [show ((nI (e2) <<< (nI (23) &&& 31)) : Int32) = nI (e2 * 8388608) from pk_shlN (nI 23 &&& 31) 23 (by decide) (by omega)]
        refine lv_dload_n hx hb dX3_bitsOf_74 rfl (lv_at hl 1 rfl) ?_
        refine lv_ldc2d hx hb hF.1.2.2.2.1 (hF.1.2.2.2.2 _ q_613) dX3_bitsOf_75 ?_
        refine lv_dmul hx hb dX3_bitsOf_78 ((J2.t23 hc53 (by omega)).n64 hc53 (by omega)) ?_
        refine lv_d2i hx hb dX3_bitsOf_79 ?_
        refine lv_iadd hx hb dX3_bitsOf_80 ?_
        exact xret_i (V := (nI (e2 * 8388608) + (FP.d2i (FP.dmul (y) (4710765210229538816))))) hF hret hlocks ((congrArg (fun z9 => nI (e2 * 8388608) + z9) (EV.toI (by have h := J2.t23 hc53 (by omega); rw [hk] at h; exact h) hc)).trans (by rw [nI_add, hbt, he2])) dX3_bitsOf_81
      · have hl1 := (J2.lt1 hc53 (by omega)).mp (Int32.not_le.mp c_52)
        have hd := J2.dbl hc53 (by omega)
        refine lv_dload_n hx hb dX3_bitsOf_55 rfl (lv_at hl 1 rfl) ?_
        refine lv_ldc2d hx hb hF.1.2.2.2.1 (hF.1.2.2.2.2 _ q_612) dX3_bitsOf_56 ?_
        refine lv_dmul hx hb dX3_bitsOf_59 (hd.n64 hc53 (by omega)) ?_
        refine lv_dstore_n (lv' := [(1, .double (FP.dmul (y) (4611686018427387904))), (0, .float (x)), (3, .int (nI e2)), (4, .int (nI j))]) hx hb dX3_bitsOf_60 rfl hl (by decide) rfl (fun ls hl => ?_)
        refine xN_dec (lv' := [(3, .int (nI (e2 - 1))), (1, .double (FP.dmul (y) (4611686018427387904))), (0, .float (x)), (4, .int (nI j))]) hx hb (by omega) dX3_bitsOf_61 hl (k := 2) rfl (by decide) rfl (fun ls hl => ?_)
        refine xN_inc (lv' := [(4, .int (nI (j + 1))), (3, .int (nI (e2 - 1))), (1, .double (FP.dmul (y) (4611686018427387904))), (0, .float (x))]) hx hb 1 dX3_bitsOf_64 hl (k := 3) rfl (by decide) (by decide) rfl (fun ls hl => ?_)
        refine lv_goto (tgt := 42) hx hb dX3_bitsOf_67 (by decide) ?_
        exact ih (FP.dmul (y) (4611686018427387904), e2 - 1, j + 1) ls ⟨by show j + 1 ≤ 126; omega, hd, by show e2 - 1 + (j + 1) = 126 + i; omega, dblU hl1, Or.inl (by rcases J5 with h | h; exact h; subst h; rcases I4 with h2 | h2; exact h2; exact absurd h2 (Nat.not_le.mpr hl1)), lv_sub hl [3, 2, 1, 0] rfl⟩ (by dsimp only; omega)
  · refine lv_dload_n hx hb dX3_bitsOf_16 rfl (lv_at hl 1 rfl) ?_
    refine lv_ldc2d hx hb hF.1.2.2.2.1 (hF.1.2.2.2.2 _ q_612) dX3_bitsOf_17 ?_
    refine lv_dcmp hx hb dX3_bitsOf_20 ?_
    refine lv_if_lt (tgt := 39) hx hb dX3_bitsOf_21 (by decide) (fun c_21 => ?_) (fun c_21 => ?_)
    · have hlt : c9 * 2 ^ (k0 - i) < 2 * U1 := (I2.lt2 hc53 (by omega)).mp c_21
      refine xN_const hx hb 0 dX3_bitsOf_39 (by decide) ?_
      refine lv_istore (lv' := [(4, .int (nI 0)), (0, .float (x)), (1, .double (z)), (3, .int (nI ex))]) hx hb dX3_bitsOf_40 hl (by decide) rfl (fun ls hl => ?_)
      refine xloop (goal := fun ls => W p l e _ s m _ below meth c s.heap [] _ _ _ (F0 m _ ls [])) (fun (z_ : UInt64 × Nat × Nat) (ls : Array Slot) => match z_ with | (y, e2, j) => (j ≤ 126) ∧ (EV y c9 (k0 - i + j)) ∧ (e2 + j = 126 + i) ∧ (c9 * 2 ^ (k0 - i + j) < 2 * U1) ∧ (i = 0 ∨ j = 0) ∧ lv_has ls 5 [(0, .float (x)), (1, .double (y)), (3, .int (nI e2)), (4, .int (nI j))]) (fun (z_ : UInt64 × Nat × Nat) => match z_ with | (y, e2, j) => 126 - j) ?_ (z, ex, 0) ls ⟨Nat.zero_le _, I2, by omega, hlt, Or.inr rfl, lv_sub hl [1, 2, 3, 0] rfl⟩
      rintro ⟨y, e2, j⟩ ls ⟨J1, J2, J3, J4, J5, hl⟩ ih
      refine lv_iload hx hb dX3_bitsOf_42 (lv_at hl 3 rfl) ?_
      refine xN_bi hx hb 126 dX3_bitsOf_44 (by decide) ?_
      refine xC_ge (tgt := 70) hx hb (by omega) (by omega) dX3_bitsOf_46 (by decide) (fun c_46 => ?_) (fun c_46 => ?_)
      · have hk : k0 - i + j = 1051 := bits_end hc hk1 hk2 hk3 I1 J1 I4 J4 J5 (Or.inr (by omega))
        have he2 : e2 = (q9 + 149).toNat := by omega
        refine lv_iload_n hx hb dX3_bitsOf_70 rfl (lv_at hl 2 rfl) ?_
        refine xN_bi hx hb 23 dX3_bitsOf_71 (by decide) ?_
        refine lv_ishl hx hb dX3_bitsOf_73 ?_
        rw [show ((nI (e2) <<< (nI (23) &&& 31)) : Int32) = nI (e2 * 8388608) from pk_shlN (nI 23 &&& 31) 23 (by decide) (by omega)]
        refine lv_dload_n hx hb dX3_bitsOf_74 rfl (lv_at hl 1 rfl) ?_
        refine lv_ldc2d hx hb hF.1.2.2.2.1 (hF.1.2.2.2.2 _ q_613) dX3_bitsOf_75 ?_
        refine lv_dmul hx hb dX3_bitsOf_78 ((J2.t23 hc53 (by omega)).n64 hc53 (by omega)) ?_
        refine lv_d2i hx hb dX3_bitsOf_79 ?_
        refine lv_iadd hx hb dX3_bitsOf_80 ?_
        exact xret_i (V := (nI (e2 * 8388608) + (FP.d2i (FP.dmul (y) (4710765210229538816))))) hF hret hlocks ((congrArg (fun z9 => nI (e2 * 8388608) + z9) (EV.toI (by have h := J2.t23 hc53 (by omega); rw [hk] at h; exact h) hc)).trans (by rw [nI_add, hbt, he2])) dX3_bitsOf_81
      · refine lv_dload_n hx hb dX3_bitsOf_49 rfl (lv_at hl 1 rfl) ?_
        refine lv_dconst1 hx hb dX3_bitsOf_50 ?_
        refine lv_dcmp hx hb dX3_bitsOf_51 ?_
        refine lv_if_ge (tgt := 70) hx hb dX3_bitsOf_52 (by decide) (fun c_52 => ?_) (fun c_52 => ?_)
        · have hk : k0 - i + j = 1051 := bits_end hc hk1 hk2 hk3 I1 J1 I4 J4 J5 (Or.inl (Nat.not_lt.mp (fun h => absurd c_52 (Int32.not_le.mpr ((J2.lt1 hc53 (by omega)).mpr h)))))
          have he2 : e2 = (q9 + 149).toNat := by omega
          refine lv_iload_n hx hb dX3_bitsOf_70 rfl (lv_at hl 2 rfl) ?_
          refine xN_bi hx hb 23 dX3_bitsOf_71 (by decide) ?_
          refine lv_ishl hx hb dX3_bitsOf_73 ?_
          rw [show ((nI (e2) <<< (nI (23) &&& 31)) : Int32) = nI (e2 * 8388608) from pk_shlN (nI 23 &&& 31) 23 (by decide) (by omega)]
          refine lv_dload_n hx hb dX3_bitsOf_74 rfl (lv_at hl 1 rfl) ?_
          refine lv_ldc2d hx hb hF.1.2.2.2.1 (hF.1.2.2.2.2 _ q_613) dX3_bitsOf_75 ?_
          refine lv_dmul hx hb dX3_bitsOf_78 ((J2.t23 hc53 (by omega)).n64 hc53 (by omega)) ?_
          refine lv_d2i hx hb dX3_bitsOf_79 ?_
          refine lv_iadd hx hb dX3_bitsOf_80 ?_
          exact xret_i (V := (nI (e2 * 8388608) + (FP.d2i (FP.dmul (y) (4710765210229538816))))) hF hret hlocks ((congrArg (fun z9 => nI (e2 * 8388608) + z9) (EV.toI (by have h := J2.t23 hc53 (by omega); rw [hk] at h; exact h) hc)).trans (by rw [nI_add, hbt, he2])) dX3_bitsOf_81
        · have hl1 := (J2.lt1 hc53 (by omega)).mp (Int32.not_le.mp c_52)
          have hd := J2.dbl hc53 (by omega)
          refine lv_dload_n hx hb dX3_bitsOf_55 rfl (lv_at hl 1 rfl) ?_
          refine lv_ldc2d hx hb hF.1.2.2.2.1 (hF.1.2.2.2.2 _ q_612) dX3_bitsOf_56 ?_
          refine lv_dmul hx hb dX3_bitsOf_59 (hd.n64 hc53 (by omega)) ?_
          refine lv_dstore_n (lv' := [(1, .double (FP.dmul (y) (4611686018427387904))), (0, .float (x)), (3, .int (nI e2)), (4, .int (nI j))]) hx hb dX3_bitsOf_60 rfl hl (by decide) rfl (fun ls hl => ?_)
          refine xN_dec (lv' := [(3, .int (nI (e2 - 1))), (1, .double (FP.dmul (y) (4611686018427387904))), (0, .float (x)), (4, .int (nI j))]) hx hb (by omega) dX3_bitsOf_61 hl (k := 2) rfl (by decide) rfl (fun ls hl => ?_)
          refine xN_inc (lv' := [(4, .int (nI (j + 1))), (3, .int (nI (e2 - 1))), (1, .double (FP.dmul (y) (4611686018427387904))), (0, .float (x))]) hx hb 1 dX3_bitsOf_64 hl (k := 3) rfl (by decide) (by decide) rfl (fun ls hl => ?_)
          refine lv_goto (tgt := 42) hx hb dX3_bitsOf_67 (by decide) ?_
          exact ih (FP.dmul (y) (4611686018427387904), e2 - 1, j + 1) ls ⟨by show j + 1 ≤ 126; omega, hd, by show e2 - 1 + (j + 1) = 126 + i; omega, dblU hl1, Or.inl (by rcases J5 with h | h; exact h; subst h; rcases I4 with h2 | h2; exact h2; exact absurd h2 (Nat.not_le.mpr hl1)), lv_sub hl [3, 2, 1, 0] rfl⟩ (by dsimp only; omega)
    · have hh : EV (FP.ddiv z two) c9 (k0 - (i + 1)) := EV.half (by rw [show k0 - (i + 1) + 1 = k0 - i by omega]; exact I2) hc53 (by omega)
      refine lv_dload_n hx hb dX3_bitsOf_24 rfl (lv_at hl 1 rfl) ?_
      refine lv_ldc2d hx hb hF.1.2.2.2.1 (hF.1.2.2.2.2 _ q_612) dX3_bitsOf_25 ?_
      refine lv_ddiv hx hb dX3_bitsOf_28 (hh.n64 hc53 (by omega)) ?_
      refine lv_dstore_n (lv' := [(1, .double (FP.ddiv (z) (4611686018427387904))), (0, .float (x)), (3, .int (nI ex)), (4, .int (nI i))]) hx hb dX3_bitsOf_29 rfl hl (by decide) rfl (fun ls hl => ?_)
      refine xN_inc (lv' := [(3, .int (nI (ex + 1))), (1, .double (FP.ddiv (z) (4611686018427387904))), (0, .float (x)), (4, .int (nI i))]) hx hb 1 dX3_bitsOf_30 hl (k := 2) rfl (by decide) (by decide) rfl (fun ls hl => ?_)
      refine xN_inc (lv' := [(4, .int (nI (i + 1))), (3, .int (nI (ex + 1))), (1, .double (FP.ddiv (z) (4611686018427387904))), (0, .float (x))]) hx hb 1 dX3_bitsOf_33 hl (k := 3) rfl (by decide) (by decide) rfl (fun ls hl => ?_)
      refine lv_goto (tgt := 9) hx hb dX3_bitsOf_36 (by decide) ?_
      exact ih (FP.ddiv (z) (4611686018427387904), ex + 1, i + 1) ls ⟨by show i + 1 ≤ 127; omega, hh, by show ex + 1 = 126 + (i + 1); omega, Or.inr (halfU (by rw [show k0 - (i + 1) + 1 = k0 - i by omega]; exact fun q => c_21 ((I2.lt2 hc53 (by omega)).mpr q))), lv_sub hl [3, 2, 1, 0] rfl⟩ (by dsimp only; omega)
def sqF (w : Nat → Int32) (a b : Nat) : UInt32 := FP.d2f (FP.dadd (FP.dmul (way w 0 a (b - a)) (way w 0 a (b - a))) (FP.dmul (way w 6 a (b - a)) (way w 6 a (b - a))))
theorem mul_self {a : UInt64} {s : Bool} {c : Nat} {q : Int} (h : FP.Core.val64 a = .fin s c q) : ∃ A e, FP.Core.val64 (FP.dmul a a) = FP.Core.roundRatio FP.Core.b64 false A 1 e := by
  rw [show FP.Core.val64 (FP.dmul a a) = _ from FP.Core.val64_dmul a a, h]
  exact ⟨c * c, q + q, by show FP.Core.roundRatio FP.Core.b64 (s != s) (c * c) 1 (q + q) = _; rw [show (s != s) = false by cases s <;> rfl]⟩
theorem DB.pos {m : Nat} {a : UInt64} {A : Nat} {e : Int} (h : DB m a) (hv : FP.Core.val64 a = FP.Core.roundRatio FP.Core.b64 false A 1 e) : ∃ c q, FP.Core.val64 a = .fin false c q := by
  obtain ⟨⟨s, c, q, h1⟩, _⟩ := h
  have hs := FP.Core.sgn_roundRatio FP.Core.b64 false A 1 e
  rw [← hv, h1] at hs
  have : s = false := hs
  subst this
  exact ⟨c, q, h1⟩
theorem sq_fin {n e : UInt64} (hn : DB 9552 n) (he : DB 9552 e) : ∃ (c : Nat) (q : Int), FP.Core.val32 (FP.d2f (FP.dadd (FP.dmul n n) (FP.dmul e e))) = .fin false c q := by
  have d1 := hn.mul hn (by decide)
  have d2 := he.mul he (by decide)
  have d3 := d1.add d2 (by decide)
  obtain ⟨⟨s1, c1, q1, h1⟩, _⟩ := hn
  obtain ⟨⟨s2, c2, q2, h2⟩, _⟩ := he
  obtain ⟨A1, e1, v1⟩ := mul_self h1
  obtain ⟨A2, e2, v2⟩ := mul_self h2
  obtain ⟨a1, b1, w1⟩ := d1.pos v1
  obtain ⟨a2, b2, w2⟩ := d2.pos v2
  obtain ⟨c, q, w3⟩ : ∃ c q, FP.Core.val64 (FP.dadd (FP.dmul n n) (FP.dmul e e)) = .fin false c q := by
    have hv : FP.Core.val64 (FP.dadd (FP.dmul n n) (FP.dmul e e)) = FP.Core.roundRatio FP.Core.b64 (FP.Core.sumSign false false (FP.Core.sumUnits false a1 b1 false a2 b2 (min b1 b2))) (FP.Core.sumUnits false a1 b1 false a2 b2 (min b1 b2)).natAbs 1 (min b1 b2) := by
      rw [show FP.Core.val64 (FP.dadd (FP.dmul n n) (FP.dmul e e)) = _ from FP.Core.val64_dadd _ _, w1, w2]; rfl
    have hs : FP.Core.sumSign false false (FP.Core.sumUnits false a1 b1 false a2 b2 (min b1 b2)) = false := by
      have h0 : 0 ≤ FP.Core.sumUnits false a1 b1 false a2 b2 (min b1 b2) := by
        unfold FP.Core.sumUnits
        show 0 ≤ ((FP.Core.inUnits a1 b1 (min b1 b2) : Nat) : Int) + ((FP.Core.inUnits a2 b2 (min b1 b2) : Nat) : Int)
        omega
      unfold FP.Core.sumSign
      split
      · rfl
      · exact decide_eq_false (by omega)
    rw [hs] at hv
    exact d3.pos hv
  have hz := d3.2
  rw [w3] at hz
  have hn : FP.Core.dIsNaN (FP.dadd (FP.dmul n n) (FP.dmul e e)) = false := (FP.Core.notNaN_iff _).mpr (by rw [w3]; exact FP.Core.Datum.noConfusion)
  have hv : FP.Core.val32 (FP.d2f (FP.dadd (FP.dmul n n) (FP.dmul e e))) = FP.Core.roundRatio FP.Core.b32 false c 1 q := by
    unfold FP.d2f
    rw [if_neg (by rw [hn]; decide), FP.Core.val32_d2f, w3]; rfl
  have hq : -1074 ≤ q := by
    have := FP.Core.val64_fits (FP.dadd (FP.dmul n n) (FP.dmul e e))
    rw [w3] at this
    have h5 := this.2.1
    rw [qmin64] at h5; exact h5
  rcases FP.Core.roundRatio_cases FP.Core.b32 false c 1 q with ⟨c', q', hR⟩ | hR
  · exact ⟨c', q', hv.trans hR⟩
  · exfalso
    have hV : FP.Core.fits FP.Core.b32 (.fin false (2 ^ 23) 5) := ⟨by decide, by decide, by decide, Or.inr (by decide)⟩
    have hle := FP.Core.zmag_roundRatio_le FP.Core.good_b32 (s := false) (A := c) (B := 1) (e := q) (e0 := -1074) (V := .fin false (2 ^ 23) 5) (by decide) hV FP.Core.Datum.noConfusion (by rw [FP.Core.qmin_b32]; decide) hq (by
      rw [Nat.mul_one]
      have e3 : FP.Core.inUnits c q (-1074) ≤ 2 ^ 28 * U1 := by
        have : FP.Core.zmag FP.Core.b64 (.fin false c q) = FP.Core.inUnits c q (-1074) := by show FP.Core.inUnits c q FP.Core.b64.qmin = _; rw [qmin64]
        rw [← this]
        exact Nat.le_trans hz (Nat.mul_le_mul_right _ (by decide))
      refine Nat.le_trans e3 ?_
      rw [show FP.Core.zmag FP.Core.b32 (.fin false (2 ^ 23) 5) = 2 ^ 23 * 2 ^ ((5 : Int) - FP.Core.b32.qmin).toNat from rfl]
      unfold U1
      rw [FP.Core.qmin_b32, ← Nat.pow_add, ← Nat.pow_add, ← Nat.pow_add]
      exact Nat.pow_le_pow_right (by decide) (by decide))
    rw [hR] at hle
    have e4 : FP.Core.zmag FP.Core.b32 (.inf false) = 2 ^ 277 := by
      show FP.Core.b32.tails * 2 ^ (FP.Core.b32.exps - 2) = _
      rw [FP.Core.tails_b32, show FP.Core.b32.exps - 2 = 254 by decide, ← Nat.pow_add]
    have e5 : FP.Core.zmag FP.Core.b32 (.fin false (2 ^ 23) 5) = 2 ^ 177 := by
      show 2 ^ 23 * 2 ^ ((5 : Int) - FP.Core.b32.qmin).toNat = _
      rw [FP.Core.qmin_b32, ← Nat.pow_add]; rfl
    rw [e4, e5] at hle
    exact absurd hle (Nat.not_le.mpr (Nat.pow_lt_pow_right (by decide) (by decide)))
theorem sqF_fin {w : Nat → Int32} (hW : WF w) {a b : Nat} (hab : a ≤ b) (hb : b ≤ nr w) : DB 9552 (way w 0 a (b - a)) ∧ DB 9552 (way w 6 a (b - a)) ∧ ∃ (c : Nat) (q : Int), FP.Core.val32 (sqF w a b) = .fin false c q := by
  have h48 := hW.n48
  have d1 : DB 9552 (way w 0 a (b - a)) := (way_DB hW (b - a) (by omega)).mono (by omega)
  have d2 : DB 9552 (way w 6 a (b - a)) := (way_DB hW (b - a) (by omega)).mono (by omega)
  exact ⟨d1, d2, sq_fin d1 d2⟩
def sqA (w : Nat → Int32) (x y : Int32) : Int32 := if mg w x y < 0 then mg w x y else (sqF w x.toNatClampNeg (y.toNatClampNeg + 1)).toInt32
theorem fcmp_self {x : UInt32} (h : FP.Core.val32 x ≠ .nan) : FP.fcmp x x = some .eq := by
  show FP.Core.order (FP.Core.val32 x) (FP.Core.val32 x) = _
  rw [FP.Core.order_zval FP.Core.good_b32 (FP.Core.val32_fits x) (FP.Core.val32_fits x) h h, (FP.Core.compare_eq_iff _ _).mpr rfl]
set_option maxHeartbeats 4000000 in
set_option maxRecDepth 100000 in
theorem c_X3_squareBits (l : Launch) (g : XG) (dd bo ho xo ta ao ae ac au : Nat) (zk : Bool) (fe fc fs w : Nat → Int32) (hW : WF w) (hR : LR fe fc fs w) (x y : Int32) : Met l yX3_squareBits (ww yX3_squareBits cX3_squareBits 7 (some .int)) (rmD 5) (xP g [.ref dd, .int (x), .int (y)] (fun H => va_P g.1 vwCl ((dd, .inr (3, [.ref ao, .ref bo, .int (xz zk), .ref ho, .ref xo, .ref ta])) :: LogC g ao ae ac au fe fc fs w) H)) (vp_Si (fun r9 => r9 = sqA w x y)) 0 0 (fun _ => False) := by
  refine xMet (by decide) rfl (Nat.le_of_ble_eq_true rfl) ?_
  intro p e s m below meth c ls hF hZ hh hret hlocks hin hl
  have hx := hF.1.1
  have hb := hF.1.2.1
  have hP := hh
  have hP : va_P g.1 vwCl ((dd, .inr (3, [.ref ao, .ref bo, .int (xz zk), .ref ho, .ref xo, .ref ta])) :: LogC g ao ae ac au fe fc fs w) s.heap := hP
  have hl : lv_has ls 7 [(0, .ref dd), (1, .int (x)), (2, .int (y))] := hl
  have h48 := hW.n48
  have hp4 := hW.pg4
  have hp12 := hW.pg12
  have hs1 := hW.st1
  have hw2 := hW.wr2
  have hw6 := hW.wr6
  refine lv_aload_n hx hb dX3_squareBits_0 rfl (lv_at hl 0 rfl) ?_
  refine gf_X3_X3_log hF hP 0 rfl rfl dX3_squareBits_1 ?_
  refine lv_iload_n hx hb dX3_squareBits_4 rfl (lv_at hl 1 rfl) ?_
  refine vp_callSi (va_Run.run (xrVN hF (c_X1_isRow l g ao ae ac au fe fc fs w hW hR ((x)) ) cal_X1_isRow n_38 ⟨by decide, by decide⟩ rfl rfl rfl (va_recv hF.2.1 hP (ci := 1) (q0 := 1) rfl rfl) hZ (hP.sub [1, 2, 3, 4] rfl) hl.1 rfl (Nat.le_of_ble_eq_true rfl) dX3_squareBits_5 ⟨Nat.le_refl _, Nat.le_refl _⟩)) (fun r_ h_ => ?_)
  subst h_
  refine xZ_eq (tgt := 22) hx hb dX3_squareBits_8 (by decide) (fun c_8 => ?_) (fun c_8 => ?_)
  · refine lv_iconst hx hb (v := (-1)) dX3_squareBits_22 (by decide) ?_
    exact xret_i (V := (-1)) hF hret hlocks (by unfold sqA mg; rw [c_8]; rfl) dX3_squareBits_23
  · refine lv_aload_n hx hb dX3_squareBits_11 rfl (lv_at hl 0 rfl) ?_
    refine gf_X3_X3_log hF hP 0 rfl rfl dX3_squareBits_12 ?_
    refine lv_iload_n hx hb dX3_squareBits_15 rfl (lv_at hl 2 rfl) ?_
    refine vp_callSi (va_Run.run (xrVN hF (c_X1_isRow l g ao ae ac au fe fc fs w hW hR ((y)) ) cal_X1_isRow n_38 ⟨by decide, by decide⟩ rfl rfl rfl (va_recv hF.2.1 hP (ci := 1) (q0 := 1) rfl rfl) hZ (hP.sub [1, 2, 3, 4] rfl) hl.1 rfl (Nat.le_of_ble_eq_true rfl) dX3_squareBits_16 ⟨Nat.le_refl _, Nat.le_refl _⟩)) (fun r_ h_ => ?_)
    subst h_
    refine xZ_ne (tgt := 24) hx hb dX3_squareBits_19 (by decide) (fun c_19 => ?_) (fun c_19 => ?_)
    · obtain ⟨a, ha9, rfl⟩ := (rowB_iff hW).mp c_8
      obtain ⟨b, hb9, rfl⟩ := (rowB_iff hW).mp c_19
      refine lv_iload_n hx hb dX3_squareBits_24 rfl (lv_at hl 2 rfl) ?_
      refine lv_iload_n hx hb dX3_squareBits_25 rfl (lv_at hl 1 rfl) ?_
      refine xC_ge (tgt := 32) hx hb (by omega) (by omega) dX3_squareBits_26 (by decide) (fun c_26 => ?_) (fun c_26 => ?_)
      · obtain ⟨d1, d2, c9, q9, hv⟩ := sqF_fin hW (a := a) (b := b + 1) (by omega) (by omega)
        refine lv_aload_n hx hb dX3_squareBits_32 rfl (lv_at hl 0 rfl) ?_
        refine gf_X3_X3_log hF hP 0 rfl rfl dX3_squareBits_33 ?_
        refine lv_iload_n hx hb dX3_squareBits_36 rfl (lv_at hl 1 rfl) ?_
        refine lv_iload_n hx hb dX3_squareBits_37 rfl (lv_at hl 2 rfl) ?_
        refine xN_const hx hb 0 dX3_squareBits_38 (by decide) ?_
        refine W.eq (g2 := F0 m 39 ls [.int (nI 0), .int (nI (b + 1) - nI 1), .int (nI a), .ref ao]) (by rw [xE_pred]) ?_
        refine vp_callSd (va_Run.run (xrVN hF (c_X1_wayOf l g ao ae ac au fe fc fs w hW hR a (b + 1) (by omega) (by omega) 0 (by omega)) cal_X1_wayOf n_50 ⟨by decide, by decide⟩ rfl rfl rfl (va_recv hF.2.1 hP (ci := 1) (q0 := 1) rfl rfl) hZ (hP.sub [1, 2, 3, 4] rfl) hl.1 rfl (Nat.le_of_ble_eq_true rfl) dX3_squareBits_39 ⟨Nat.le_refl _, Nat.le_refl _⟩)) (fun r_ h_ => ?_)
        subst h_
        refine lv_dstore_n (lv' := [(3, .double (way w 0 a ((b + 1) - a))), (0, .ref dd), (1, .int (nI a)), (2, .int (nI b))]) hx hb dX3_squareBits_42 rfl hl (by decide) rfl (fun ls hl => ?_)
        refine lv_aload_n hx hb dX3_squareBits_43 rfl (lv_at hl 1 rfl) ?_
        refine gf_X3_X3_log hF hP 0 rfl rfl dX3_squareBits_44 ?_
        refine lv_iload_n hx hb dX3_squareBits_47 rfl (lv_at hl 2 rfl) ?_
        refine lv_iload_n hx hb dX3_squareBits_48 rfl (lv_at hl 3 rfl) ?_
        refine xN_bi hx hb 6 dX3_squareBits_49 (by decide) ?_
        refine W.eq (g2 := F0 m 51 ls [.int (nI 6), .int (nI (b + 1) - nI 1), .int (nI a), .ref ao]) (by rw [xE_pred]) ?_
        refine vp_callSd (va_Run.run (xrVN hF (c_X1_wayOf l g ao ae ac au fe fc fs w hW hR a (b + 1) (by omega) (by omega) 6 (by omega)) cal_X1_wayOf n_50 ⟨by decide, by decide⟩ rfl rfl rfl (va_recv hF.2.1 hP (ci := 1) (q0 := 1) rfl rfl) hZ (hP.sub [1, 2, 3, 4] rfl) hl.1 rfl (Nat.le_of_ble_eq_true rfl) dX3_squareBits_51 ⟨Nat.le_refl _, Nat.le_refl _⟩)) (fun r_ h_ => ?_)
        subst h_
        refine lv_dstore (lv' := [(5, .double (way w 6 a ((b + 1) - a))), (3, .double (way w 0 a ((b + 1) - a))), (0, .ref dd), (1, .int (nI a)), (2, .int (nI b))]) hx hb dX3_squareBits_54 hl (by decide) rfl (fun ls hl => ?_)
        refine lv_dload_n hx hb dX3_squareBits_56 rfl (lv_at hl 1 rfl) ?_
        refine lv_dload_n hx hb dX3_squareBits_57 rfl (lv_at hl 1 rfl) ?_
        refine lv_dmul hx hb dX3_squareBits_58 ((d1.mul d1 (by decide)).n64) ?_
        refine lv_dload hx hb dX3_squareBits_59 (lv_at hl 0 rfl) ?_
        refine lv_dload hx hb dX3_squareBits_61 (lv_at hl 0 rfl) ?_
        refine lv_dmul hx hb dX3_squareBits_63 ((d2.mul d2 (by decide)).n64) ?_
        refine lv_dadd hx hb dX3_squareBits_64 (((d1.mul d1 (by decide)).add (d2.mul d2 (by decide)) (by decide)).n64) ?_
        refine lv_d2f hx hb dX3_squareBits_65 (n32_of (by intro h9; have h8 := hv; unfold sqF at h8; rw [h8] at h9; cases h9)) ?_
        refine vp_callSi (va_Run.run (xrS hF (c_X3_bitsOf l g (sqF w a (b + 1)) c9 q9 hv) cal_X3_bitsOf q_609 ⟨by decide, by decide⟩ rfl rfl rfl hZ (trivial) hl.1 rfl (Nat.le_of_ble_eq_true rfl) dX3_squareBits_66 ⟨Nat.le_refl _, Nat.le_refl _⟩)) (fun r_ h_ => ?_)
        subst h_
        exact xret_i (V := ((sqF w a (b + 1)).toInt32)) hF hret hlocks (by unfold sqA mg; rw [c_8, c_19, if_pos (show (true && true) = true from rfl), if_neg (nI_nlt c_26 (by omega)), if_neg (by decide), nI_clamp (by omega), nI_clamp (by omega)]) dX3_squareBits_69
      · refine lv_bipush hx hb (v := (-2)) dX3_squareBits_29 (by decide) ?_
        exact xret_i (V := (-2)) hF hret hlocks (by unfold sqA mg; rw [c_8, c_19, if_pos (show (true && true) = true from rfl), if_pos (nI_lt c_26 (by omega))]; rfl) dX3_squareBits_31
    · refine lv_iconst hx hb (v := (-1)) dX3_squareBits_22 (by decide) ?_
      exact xret_i (V := (-1)) hF hret hlocks (by unfold sqA mg; rw [c_19, Bool.and_false]; rfl) dX3_squareBits_23
