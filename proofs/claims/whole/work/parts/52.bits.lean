/-! floats' bits: halving and doubling are exact -/
theorem pwx {A B x y u v : Nat} (h : A * 2 ^ x = B * 2 ^ y) (e : x + v = y + u) : A * 2 ^ u = B * 2 ^ v := by
  refine Nat.eq_of_mul_eq_mul_right (Nat.two_pow_pos x) ?_
  rw [Nat.mul_right_comm, h, Nat.mul_assoc, ← Nat.pow_add, ← e, Nat.add_comm x v, Nat.pow_add, Nat.mul_assoc]
theorem U1_2 : 2 * U1 = 2 ^ 1075 := by
  unfold U1
  rw [Nat.mul_comm]
  rw [← Nat.pow_succ]
/-- the number a is c times 2^k units -/
def EV (a : UInt64) (c k : Nat) : Prop := FP.Core.val64 a = FP.Core.roundRatio FP.Core.b64 false c 1 ((k : Int) - 1074)
theorem EV.fin {a : UInt64} {c k : Nat} (h : EV a c k) (hc : c < 2 ^ 53) (hk : k ≤ 2000) : ∃ c' q', FP.Core.val64 a = .fin false c' q' ∧ -1074 ≤ q' ∧ c' * 2 ^ (q' + 1074).toNat = c * 2 ^ k := by
  obtain ⟨c', q', h1, h2⟩ := FP.Core.round_exact FP.Core.good_b64 false (c := c) (q := (k : Int) - 1074) hc (by rw [qmin64]; omega) (by show (k : Int) - 1074 ≤ 971; omega)
  have h3 : FP.Core.val64 a = .fin false c' q' := h.trans h1
  have h4 := FP.Core.val64_fits a
  rw [h3] at h4
  have h5 := h4.2.1
  rw [qmin64] at h5
  unfold FP.Core.inUnits at h2
  rw [qmin64, show (k : Int) - 1074 - -1074 = (k : Int) by omega, Int.toNat_natCast, show q' - -1074 = q' + 1074 by omega] at h2
  exact ⟨c', q', h3, h5, h2⟩
theorem EV.ne {a : UInt64} {c k : Nat} (h : EV a c k) (hc : c < 2 ^ 53) (hk : k ≤ 2000) : FP.Core.val64 a ≠ .nan := by
  obtain ⟨c', q', h1, _⟩ := h.fin hc hk
  rw [h1]; exact FP.Core.Datum.noConfusion
theorem EV.z {a : UInt64} {c k : Nat} (h : EV a c k) (hc : c < 2 ^ 53) (hk : k ≤ 2000) : FP.Core.zmag FP.Core.b64 (FP.Core.val64 a) = c * 2 ^ k ∧ FP.Core.sgn (FP.Core.val64 a) = false := by
  obtain ⟨c', q', h1, h2, h3⟩ := h.fin hc hk
  rw [h1]
  refine ⟨?_, rfl⟩
  show c' * 2 ^ (q' - FP.Core.b64.qmin).toNat = _
  rw [qmin64, show q' - -1074 = q' + 1074 by omega]; exact h3
def two : UInt64 := 4611686018427387904
def t23 : UInt64 := 4710765210229538816
theorem two_v : FP.Core.val64 two = .fin false 4503599627370496 (-51) := by decide +kernel
theorem t23_v : FP.Core.val64 t23 = .fin false 4503599627370496 (-29) := by decide +kernel
theorem one_v : FP.Core.val64 FP.dconst1 = .fin false 4503599627370496 (-52) := by decide +kernel
theorem EV.half {a : UInt64} {c k : Nat} (h : EV a c (k + 1)) (hc : c < 2 ^ 53) (hk : k < 2000) : EV (FP.ddiv a two) c k := by
  obtain ⟨c', q', h1, h2, h3⟩ := h.fin hc (by omega)
  unfold EV
  rw [show FP.Core.val64 (FP.ddiv a two) = _ from FP.Core.val64_ddiv a two, h1, two_v]
  show FP.Core.roundRatio FP.Core.b64 (false != false) c' 4503599627370496 (q' - -51) = _
  refine FP.Core.roundRatio_congr (by decide) (by decide) ?_
  rw [Nat.mul_one, show (4503599627370496 : Nat) = 2 ^ 52 by decide, Nat.mul_assoc, ← Nat.pow_add]
  exact pwx h3 (by omega)
theorem EV.dbl {a : UInt64} {c k : Nat} (h : EV a c k) (hc : c < 2 ^ 53) (hk : k ≤ 2000) : EV (FP.dmul a two) c (k + 1) := by
  obtain ⟨c', q', h1, h2, h3⟩ := h.fin hc hk
  unfold EV
  rw [show FP.Core.val64 (FP.dmul a two) = _ from FP.Core.val64_dmul a two, h1, two_v]
  show FP.Core.roundRatio FP.Core.b64 (false != false) (c' * 4503599627370496) 1 (q' + -51) = _
  refine FP.Core.roundRatio_congr (by decide) (by decide) ?_
  rw [Nat.mul_one, Nat.mul_one, show (4503599627370496 : Nat) = 2 ^ 52 by decide, Nat.mul_assoc, ← Nat.pow_add]
  exact pwx h3 (by omega)
theorem EV.t23 {a : UInt64} {c k : Nat} (h : EV a c k) (hc : c < 2 ^ 53) (hk : k ≤ 1900) : EV (FP.dmul a t23) c (k + 23) := by
  obtain ⟨c', q', h1, h2, h3⟩ := h.fin hc (by omega)
  unfold EV
  rw [show FP.Core.val64 (FP.dmul a _root_.Jvm.Pilot.CDittoLogLaw_law_r1399_2a1c41.t23) = _ from FP.Core.val64_dmul a _, h1, t23_v]
  show FP.Core.roundRatio FP.Core.b64 (false != false) (c' * 4503599627370496) 1 (q' + -29) = _
  refine FP.Core.roundRatio_congr (by decide) (by decide) ?_
  rw [Nat.mul_one, Nat.mul_one, show (4503599627370496 : Nat) = 2 ^ 52 by decide, Nat.mul_assoc, ← Nat.pow_add]
  exact pwx h3 (by omega)
theorem EV.n64 {a : UInt64} {c k : Nat} (h : EV a c k) (hc : c < 2 ^ 53) (hk : k ≤ 2000) : vf_n64 a := n64_of (h.ne hc hk)
/-- comparing with 2 and with 1 -/
theorem cmp_dif {a b : UInt64} {X Y : Nat} {op : CmpOp} (ha : FP.Core.val64 a ≠ .nan) (hb : FP.Core.val64 b ≠ .nan) (za : FP.Core.zval FP.Core.b64 (FP.Core.val64 a) = (X : Int)) (zb : FP.Core.zval FP.Core.b64 (FP.Core.val64 b) = (Y : Int)) : Op.cmpValue (FP.dcmp a b) op < 0 ↔ X < Y := by
  rw [show FP.dcmp a b = _ from FP.Core.dcmp_zval ha hb, za, zb]
  rcases Nat.lt_trichotomy X Y with h | h | h
  · rw [(FP.Core.compare_lt_iff (X : Int) Y).mpr (by omega)]
    exact ⟨fun _ => h, fun _ => by show (-1 : Int32) < 0; decide⟩
  · rw [(FP.Core.compare_eq_iff (X : Int) Y).mpr (by omega)]
    exact ⟨fun q => absurd q (by show ¬ (0 : Int32) < 0; decide), fun q => by omega⟩
  · rw [(FP.Core.compare_gt_iff (X : Int) Y).mpr (by omega)]
    exact ⟨fun q => absurd q (by show ¬ (1 : Int32) < 0; decide), fun q => by omega⟩
theorem EV.zv {a : UInt64} {c k : Nat} (h : EV a c k) (hc : c < 2 ^ 53) (hk : k ≤ 2000) : FP.Core.zval FP.Core.b64 (FP.Core.val64 a) = ((c * 2 ^ k : Nat) : Int) := by
  obtain ⟨h1, h2⟩ := h.z hc hk
  unfold FP.Core.zval
  rw [h1, h2]; rfl
theorem two_z : FP.Core.zval FP.Core.b64 (FP.Core.val64 two) = ((2 * U1 : Nat) : Int) := by
  rw [two_v]
  show ((4503599627370496 * 2 ^ (-51 - FP.Core.b64.qmin).toNat : Nat) : Int) = _
  rw [qmin64, show ((-51 : Int) - -1074).toNat = 1023 by decide, show (4503599627370496 : Nat) = 2 ^ 52 by decide, ← Nat.pow_add]
  rw [U1_2]
theorem one_z : FP.Core.zval FP.Core.b64 (FP.Core.val64 FP.dconst1) = ((U1 : Nat) : Int) := by
  rw [one_v]
  show ((4503599627370496 * 2 ^ (-52 - FP.Core.b64.qmin).toNat : Nat) : Int) = _
  rw [qmin64, show ((-52 : Int) - -1074).toNat = 1022 by decide, show (4503599627370496 : Nat) = 2 ^ 52 by decide, ← Nat.pow_add]
  rfl
theorem EV.lt2 {a : UInt64} {c k : Nat} {op : CmpOp} (h : EV a c k) (hc : c < 2 ^ 53) (hk : k ≤ 2000) : Op.cmpValue (FP.dcmp a two) op < 0 ↔ c * 2 ^ k < 2 * U1 :=
  cmp_dif (h.ne hc hk) (by rw [two_v]; exact FP.Core.Datum.noConfusion) (h.zv hc hk) two_z
theorem EV.lt1 {a : UInt64} {c k : Nat} {op : CmpOp} (h : EV a c k) (hc : c < 2 ^ 53) (hk : k ≤ 2000) : Op.cmpValue (FP.dcmp a FP.dconst1) op < 0 ↔ c * 2 ^ k < U1 :=
  cmp_dif (h.ne hc hk) (by rw [one_v]; exact FP.Core.Datum.noConfusion) (h.zv hc hk) one_z
theorem ltU {c p k : Nat} (hc : c < 2 ^ p) (h : p + k ≤ 1074) : c * 2 ^ k < U1 := by
  refine Nat.lt_of_lt_of_le (Nat.mul_lt_mul_of_pos_right hc (Nat.two_pow_pos k)) ?_
  rw [← Nat.pow_add]; exact Nat.pow_le_pow_right (by decide) h
theorem lt2U {c p k : Nat} (hc : c < 2 ^ p) (h : p + k ≤ 1075) : c * 2 ^ k < 2 * U1 := by
  refine Nat.lt_of_lt_of_le (Nat.mul_lt_mul_of_pos_right hc (Nat.two_pow_pos k)) ?_
  rw [← Nat.pow_add, U1_2]
  exact Nat.pow_le_pow_right (by decide) h
theorem ge2U {c p k : Nat} (hc : 2 ^ p ≤ c) (h : 1075 ≤ p + k) : 2 * U1 ≤ c * 2 ^ k := by
  refine Nat.le_trans ?_ (Nat.mul_le_mul_right (2 ^ k) hc)
  rw [← Nat.pow_add, U1_2]
  exact Nat.pow_le_pow_right (by decide) h
theorem EV.toI {a : UInt64} {c : Nat} (h : EV a c 1074) (hc : c < 2 ^ 24) : FP.d2i a = nI c := by
  obtain ⟨h1, h2⟩ := h.z (by omega) (by omega)
  have e := FP.Core.d2i_val (h.ne (by omega) (by omega))
  rw [h1, h2, show c * 2 ^ 1074 / FP.Core.one64 = c from Nat.mul_div_cancel _ FP.Core.one64_pos] at e
  refine Int32.toInt_inj.mp ?_
  rw [show (FP.d2i a).toInt = _ from e, nI_toInt (by omega)]
  show max (-2 ^ 31) (min (2 ^ 31 - 1) (c : Int)) = (c : Int)
  omega
/-- a float that is finite and not negative -/
theorem flt_bits {x : UInt32} {c : Nat} {q : Int} (h : FP.Core.val32 x = .fin false c q) : x.toInt32 = nI ((q + 149).toNat * 8388608 + c) ∧ c < 2 ^ 24 ∧ -149 ≤ q ∧ q ≤ 104 ∧ (q = -149 ∨ 2 ^ 23 ≤ c) := by
  have hf := FP.Core.val32_fits x
  rw [h] at hf
  obtain ⟨h1, h2, h3, h4⟩ := hf
  rw [FP.Core.qmin_b32] at h2 h4
  have h3' : q ≤ 104 := h3
  have h1' : c < 2 ^ 24 := h1
  have h4' : q = -149 ∨ 2 ^ 23 ≤ c := by rw [FP.Core.tails_b32] at h4; exact h4
  have e1 := FP.Core.of32_val32 (a := x) (by rw [h]; exact FP.Core.Datum.noConfusion)
  rw [h] at e1
  have e2 : x.toNat = FP.Core.encode FP.Core.b32 (.fin false c q) := by
    rw [← e1]; exact FP.Core.toNat_of32 (by rw [← h]; exact FP.Core.val32_fits x)
  have e3 : x.toNat = (q + 149).toNat * 8388608 + c := by
    rw [e2]
    show (if c < FP.Core.b32.tails then _ else _) = _
    rw [FP.Core.tails_b32]
    unfold FP.Core.assemble
    rw [FP.Core.tails_b32, FP.Core.qmin_b32]
    by_cases hc : c < 2 ^ 23
    · rw [if_pos hc]
      have hq : q = -149 := h4'.resolve_right (by omega)
      subst hq
      show (0 * _ + 0) * 2 ^ 23 + c = 0 * 8388608 + c
      omega
    · rw [if_neg hc]
      show (0 * _ + ((q - -149).toNat + 1)) * 2 ^ 23 + (c - 2 ^ 23) = _
      rw [Nat.zero_mul, Nat.zero_add, show q - -149 = q + 149 by omega]
      omega
  refine ⟨?_, h1', h2, h3', h4'⟩
  refine Int32.toBitVec_inj.mp (BitVec.eq_of_toNat_eq ?_)
  show x.toNat = _
  have hlt : (q + 149).toNat * 8388608 + c < 2 ^ 32 := by omega
  rw [e3]
  exact (pk_tn hlt).symm
theorem flt_EV {x : UInt32} {c : Nat} {q : Int} (h : FP.Core.val32 x = .fin false c q) : EV (FP.f2d x) c (q + 1074).toNat ∧ vf_n64 (FP.f2d x) := by
  obtain ⟨_, hc, h1, h2, _⟩ := flt_bits h
  have hn : FP.Core.fIsNaN x = false := (FP.Core.notNaN_iff32 x).mpr (by rw [h]; exact FP.Core.Datum.noConfusion)
  have e : FP.f2d x = FP.Core.f2d x := by unfold FP.f2d; rw [if_neg (by rw [hn]; decide)]
  have ev : EV (FP.f2d x) c (q + 1074).toNat := by
    unfold EV
    rw [e, FP.Core.val64_f2d, h]
    show FP.Core.roundRatio FP.Core.b64 false c 1 q = _
    rw [show (((q + 1074).toNat : Nat) : Int) - 1074 = q by omega]
  exact ⟨ev, ev.n64 (by omega) (by omega)⟩
