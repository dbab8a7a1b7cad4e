/-! floating point: sizes in units of the least number -/
theorem n64_of {a : UInt64} (h : FP.Core.val64 a ≠ .nan) : vf_n64 a := by
  have h1 := (FP.Core.ne_nan a).mp h
  unfold vf_n64
  rw [UInt64.le_iff_toNat_le, UInt64.toNat_and]
  show a.toNat &&& 9223372036854775807 ≤ 9218868437227405312
  rw [show (9223372036854775807 : Nat) = 2 ^ 63 - 1 from rfl, Nat.and_two_pow_sub_one_eq_mod]
  exact h1
theorem n32_of {a : UInt32} (h : FP.Core.val32 a ≠ .nan) : vf_n32 a := by
  have h1 := (FP.Core.ne_nan32 a).mp h
  unfold vf_n32
  rw [UInt32.le_iff_toNat_le, UInt32.toNat_and]
  show a.toNat &&& 2147483647 ≤ 2139095040
  rw [show (2147483647 : Nat) = 2 ^ 31 - 1 from rfl, Nat.and_two_pow_sub_one_eq_mod]
  exact h1
/-- one, in units -/
def U1 : Nat := 2 ^ 1074
theorem qmin64 : FP.Core.b64.qmin = -1074 := FP.Core.qmin_b64
/-- the number of a whole number -/
def VW (m : Nat) : FP.Core.Datum := FP.Core.round FP.Core.b64 (FP.Core.ofInt (m : Int))
theorem VW_fits (m : Nat) : FP.Core.fits FP.Core.b64 (VW m) := FP.Core.round_fits FP.Core.good_b64 _
theorem VW_whole {m : Nat} (h : m ≤ 2 ^ 53) : FP.Core.Whole (m : Int) (VW m) := FP.Core.whole_round FP.Core.good_b64 FP.Core.wide_b64 (by rw [Int.natAbs_natCast]; exact h) (FP.Core.whole_ofInt _)
theorem VW_nan {m : Nat} (h : m ≤ 2 ^ 53) : VW m ≠ .nan := fun e => by have := VW_whole h; rw [e] at this; exact this
theorem VW_fin {m : Nat} (h : m ≤ 2 ^ 53) : ∃ s c q, VW m = .fin s c q := by
  have := VW_whole h
  cases e : VW m with
  | nan => rw [e] at this; exact this.elim
  | inf s => rw [e] at this; exact this.elim
  | fin s c q => exact ⟨s, c, q, rfl⟩
theorem VW_z {m : Nat} (h : m ≤ 2 ^ 53) : FP.Core.zmag FP.Core.b64 (VW m) = m * U1 := by
  have e := FP.Core.whole_zval FP.Core.good_b64 (VW_fits m) (VW_whole h)
  unfold FP.Core.zval at e
  have e2 := congrArg Int.natAbs e
  rw [FP.Core.natAbs_signed, Int.natAbs_mul, Int.natAbs_natCast, Int.natAbs_natCast, qmin64] at e2
  exact e2
/-- a number that is finite, at most m in size -/
def DB (m : Nat) (a : UInt64) : Prop := FP.Core.DFin a ∧ FP.Core.zmag FP.Core.b64 (FP.Core.val64 a) ≤ m * U1
theorem DB.n64 {m : Nat} {a : UInt64} (h : DB m a) : vf_n64 a := n64_of h.1.ne_nan
theorem U1_pos : 0 < U1 := Nat.two_pow_pos _
theorem big_inf {m : Nat} (h : m ≤ 2 ^ 53) : m * U1 < FP.Core.b64.tails * 2 ^ (FP.Core.b64.exps - 2) := by
  rw [FP.Core.tails_b64, show FP.Core.b64.exps - 2 = 2046 by decide, ← Nat.pow_add]
  unfold U1
  refine Nat.lt_of_le_of_lt (Nat.mul_le_mul_right _ h) ?_
  rw [← Nat.pow_add]
  exact Nat.pow_lt_pow_right (by decide) (by decide)
theorem DB_of {m : Nat} {a : UInt64} {s : Bool} {A B : Nat} {e e0 : Int} (hm : m ≤ 2 ^ 53) (hv : FP.Core.val64 a = FP.Core.roundRatio FP.Core.b64 s A B e) (hB : 0 < B) (h0 : e0 ≤ FP.Core.b64.qmin) (h0e : e0 ≤ e) (h : FP.Core.inUnits A e e0 ≤ m * U1 * 2 ^ (FP.Core.b64.qmin - e0).toNat * B) : DB m a := by
  have hz := FP.Core.zmag_roundRatio_le FP.Core.good_b64 (s := s) hB (VW_fits m) (VW_nan hm) h0 h0e (by rw [VW_z hm]; exact h)
  rw [VW_z hm] at hz
  rw [← hv] at hz
  refine ⟨?_, hz⟩
  rcases FP.Core.roundRatio_cases FP.Core.b64 s A B e with ⟨c, q, hR⟩ | hR
  · exact ⟨s, c, q, hv.trans hR⟩
  · rw [hv, hR] at hz
    exact absurd (Nat.lt_of_le_of_lt hz (big_inf hm)) (Nat.lt_irrefl _)
theorem DB.add {m j : Nat} {a b : UInt64} (ha : DB m a) (hb : DB j b) (h : m + j ≤ 2 ^ 53) : DB (m + j) (FP.dadd a b) := by
  obtain ⟨⟨s, c, q, e1⟩, z1⟩ := ha
  obtain ⟨⟨t, d, r, e2⟩, z2⟩ := hb
  have f1 := FP.Core.val64_fits a
  have f2 := FP.Core.val64_fits b
  rw [e1] at f1 z1
  rw [e2] at f2 z2
  obtain ⟨sg, n, e, p1, p2, p3⟩ := FP.Core.sum_units f1 f2
  have hv : FP.Core.val64 (FP.dadd a b) = FP.Core.roundRatio FP.Core.b64 sg n 1 e := by
    rw [show FP.Core.val64 (FP.dadd a b) = _ from FP.Core.val64_dadd a b, e1, e2, p1]; rfl
  refine DB_of h hv (by decide) (e0 := FP.Core.b64.qmin) (Int.le_refl _) p2 ?_
  have h1 : FP.Core.inUnits n e FP.Core.b64.qmin ≤ FP.Core.zmag FP.Core.b64 (.fin s c q) + FP.Core.zmag FP.Core.b64 (.fin t d r) := by
    have := congrArg Int.natAbs p3
    rw [FP.Core.natAbs_signed] at this
    rw [this]
    refine Nat.le_trans (Int.natAbs_add_le _ _) ?_
    unfold FP.Core.zval
    rw [FP.Core.natAbs_signed, FP.Core.natAbs_signed]
    exact Nat.le_refl _
  rw [Int.sub_self, Int.toNat_zero, Nat.pow_zero, Nat.mul_one, Nat.mul_one, Nat.add_mul]
  omega
theorem DB.mul {m j : Nat} {a b : UInt64} (ha : DB m a) (hb : DB j b) (h : m * j ≤ 2 ^ 53) : DB (m * j) (FP.dmul a b) := by
  obtain ⟨⟨s, c, q, e1⟩, z1⟩ := ha
  obtain ⟨⟨t, d, r, e2⟩, z2⟩ := hb
  have f1 := FP.Core.val64_fits a
  have f2 := FP.Core.val64_fits b
  rw [e1] at f1 z1
  rw [e2] at f2 z2
  obtain ⟨p1, p2, p3⟩ := FP.Core.product_units f1 f2
  have hv : FP.Core.val64 (FP.dmul a b) = FP.Core.roundRatio FP.Core.b64 (s != t) (c * d) 1 (q + r) := by
    rw [show FP.Core.val64 (FP.dmul a b) = _ from FP.Core.val64_dmul a b, e1, e2, p1]; rfl
  refine DB_of h hv (by decide) (e0 := 2 * FP.Core.b64.qmin) (by rw [qmin64]; decide) p2 ?_
  rw [p3, Nat.mul_one, show (FP.Core.b64.qmin - 2 * FP.Core.b64.qmin).toNat = 1074 by rw [qmin64]; rfl]
  refine Nat.le_trans (Nat.mul_le_mul z1 z2) (Nat.le_of_eq ?_)
  show m * U1 * (j * U1) = m * j * U1 * U1
  rw [Nat.mul_mul_mul_comm, Nat.mul_assoc (m * j)]
def ten : UInt64 := 4621819117588971520
theorem ten_v : FP.Core.val64 ten = .fin false 5629499534213120 (-49) := by decide +kernel
theorem DB.div {m : Nat} {a : UInt64} (ha : DB m a) (h : m ≤ 2 ^ 53) : DB m (FP.ddiv a ten) := by
  obtain ⟨⟨s, c, q, e1⟩, z1⟩ := ha
  have f1 := FP.Core.val64_fits a
  rw [e1] at f1 z1
  have hv : FP.Core.val64 (FP.ddiv a ten) = FP.Core.roundRatio FP.Core.b64 (s != false) c 5629499534213120 (q - -49) := by
    rw [show FP.Core.val64 (FP.ddiv a ten) = _ from FP.Core.val64_ddiv a ten, e1, ten_v]; rfl
  have hq := f1.2.1
  refine DB_of h hv (by decide) (e0 := FP.Core.b64.qmin) (Int.le_refl _) (by omega) ?_
  rw [Int.sub_self, Int.toNat_zero, Nat.pow_zero, Nat.mul_one]
  have e2 : FP.Core.inUnits c (q - -49) FP.Core.b64.qmin = FP.Core.zmag FP.Core.b64 (.fin s c q) * 2 ^ 49 := by
    show c * 2 ^ (q - -49 - FP.Core.b64.qmin).toNat = c * 2 ^ (q - FP.Core.b64.qmin).toNat * 2 ^ 49
    rw [show (q - -49 - FP.Core.b64.qmin).toNat = (q - FP.Core.b64.qmin).toNat + 49 by omega, Nat.pow_add, Nat.mul_assoc]
  rw [e2]
  exact Nat.mul_le_mul z1 (by decide)
theorem DB_1 {a : UInt64} {s : Bool} {c : Nat} {q : Int} (hv : FP.Core.val64 a = .fin s c q) (h1 : -1074 ≤ q) (h2 : q ≤ 0) (hc : c ≤ 2 ^ (-q).toNat) : DB 1 a := by
  refine ⟨⟨s, c, q, hv⟩, ?_⟩
  rw [hv, Nat.one_mul]
  show c * 2 ^ (q - FP.Core.b64.qmin).toNat ≤ 2 ^ 1074
  rw [qmin64]
  refine Nat.le_trans (Nat.mul_le_mul_right _ hc) ?_
  rw [← Nat.pow_add]
  exact Nat.pow_le_pow_right (by decide) (by omega)
theorem DB_0 : DB 0 FP.dconst0 := ⟨⟨false, 0, -1074, by decide +kernel⟩, by rw [show FP.Core.val64 FP.dconst0 = .fin false 0 (-1074) by decide +kernel]; show 0 * _ ≤ _; rw [Nat.zero_mul]; exact Nat.zero_le _⟩
theorem DB.mono {m j : Nat} {a : UInt64} (h : DB m a) (hm : m ≤ j) : DB j a := ⟨h.1, Nat.le_trans h.2 (Nat.mul_le_mul_right _ hm)⟩
theorem DB_int {v : Nat} (h : v < 2147483648) : DB v (FP.i2d (nI v)) := by
  have e : FP.Core.val64 (FP.i2d (nI v)) = VW v := by
    rw [show FP.Core.val64 (FP.i2d (nI v)) = _ from FP.Core.val64_i2d (nI v), nI_toInt h]; rfl
  have h53 : v ≤ 2 ^ 53 := by omega
  obtain ⟨s, c, q, ef⟩ := VW_fin h53
  exact ⟨⟨s, c, q, e.trans ef⟩, by rw [e, VW_z h53]; exact Nat.le_refl _⟩
/-- the ways -/
def wn (k : Nat) : UInt64 := match k with
  | 0 => FP.dconst1
  | 1 => 4604544210138303771
  | 2 => FP.dconst0
  | 3 => 13827916246993079579
  | 4 => 13830554455654793216
  | 5 => 13827916246993079579
  | 6 => FP.dconst0
  | 7 => 4604544210138303771
  | _ => FP.dconst0
theorem wn_1 : ∀ k : Nat, k < 8 → DB 1 (wn k)
  | 0, _ => DB_1 (s := false) (c := 2 ^ 52) (q := -52) (by decide +kernel) (by decide) (by decide) (by decide)
  | 1, _ => DB_1 (s := false) (c := 6368990593027355) (q := -53) (by decide +kernel) (by decide) (by decide) (by decide)
  | 2, _ => DB_0.mono (by decide)
  | 3, _ => DB_1 (s := true) (c := 6368990593027355) (q := -53) (by decide +kernel) (by decide) (by decide) (by decide)
  | 4, _ => DB_1 (s := true) (c := 2 ^ 52) (q := -52) (by decide +kernel) (by decide) (by decide) (by decide)
  | 5, _ => DB_1 (s := true) (c := 6368990593027355) (q := -53) (by decide +kernel) (by decide) (by decide) (by decide)
  | 6, _ => DB_0.mono (by decide)
  | 7, _ => DB_1 (s := false) (c := 6368990593027355) (q := -53) (by decide +kernel) (by decide) (by decide) (by decide)
  | k + 8, h => absurd h (by omega)
def stepW (w : Nat → Int32) (t i : Nat) (z : UInt64) : UInt64 := if mean w i 0 < 0 ∨ mean w i 1 < 0 then z else FP.dadd z (FP.dmul (FP.ddiv (FP.i2d (mean w i 1)) ten) (wn (((mean w i 0).toNatClampNeg + t) % 8)))
def way (w : Nat → Int32) (t a : Nat) : Nat → UInt64
  | 0 => FP.dconst0
  | n + 1 => stepW w t (a + n) (way w t a n)
theorem way_s {w : Nat → Int32} {t a i : Nat} (h : a ≤ i) : way w t a (i + 1 - a) = stepW w t i (way w t a (i - a)) := by
  rw [show i + 1 - a = (i - a) + 1 by omega, way, show a + (i - a) = i by omega]
theorem way_DB {w : Nat → Int32} (hW : WF w) {t a : Nat} : ∀ n, a + n ≤ nr w → DB (199 * n) (way w t a n)
  | 0, _ => DB_0
  | n + 1, h => by
    have h48 := hW.n48
    have ih := way_DB hW (t := t) (a := a) n (by omega)
    rw [way]
    unfold stepW
    split
    · exact ih.mono (by omega)
    · next hc =>
      obtain ⟨v, hv, ev⟩ := mean_nn hW (c := 1) (by decide) (r := a + n) (by omega) (fun q => hc (Or.inr q))
      have h199 := cmN_le 1
      have b1 := ((DB_int (v := v) (by omega)).div (by omega)).mul (wn_1 (((mean w (a + n) 0).toNatClampNeg + t) % 8) (Nat.mod_lt _ (by decide))) (by omega)
      rw [ev]
      exact (ih.add (b1.mono (show v * 1 ≤ 199 by omega)) (by omega)).mono (by omega)
