theorem xm1_lt {k : Nat} (h : k < 2147483648) : (-1 : Int32) < nI k := Int32.lt_of_lt_of_le (by decide) (nI_pos' h)
theorem xE_pred (n : Nat) : nI (n + 1) - nI 1 = nI n := nI_pred n
theorem xE_toInt {b : Nat} (hb : b < 1000000) : (nI b - nI 1).toInt = (b : Int) - 1 := pk_sub_toInt (by omega) (by decide)
section XE
variable {p : Program} {l : Launch} {e : Env} {R : Room} {s : State} {m : MethodId} {args : Array Value} {below : List Frame} {meth : Method} {c : Code} {H : Heap} {locs : List Loc} {cells slots : Nat} {Q : State → Prop}
variable {cc : ByteArray} {pc : Nat} {ls : Array Slot} {rest : List Value}
theorem xE_gt (hx : p.tables.exec = Jvm.exec) (hb : c.code = cc) {a b tgt : Nat} {off : Int} (ha : a < 1000000) (hb2 : b < 1000000) (hdg : decode cc pc = .ok (.if_icmp .gt off, 3)) (ht : (pc : Int) + off = (tgt : Int)) (kt : b ≤ a → W p l e R s m args below meth c H locs cells slots Q (F0 m tgt ls rest)) (kf : a < b → W p l e R s m args below meth c H locs cells slots Q (F0 m (pc + 3) ls rest)) : W p l e R s m args below meth c H locs cells slots Q (F0 m pc ls (.int (nI b - nI 1) :: .int (nI a) :: rest)) := by
  have e1 := xE_toInt hb2
  have e2 := nI_toInt (n := a) (by omega)
  refine lv_icmp_gt hx hb hdg ht (fun h => kt ?_) (fun h => kf ?_)
  · rw [Int32.lt_iff_toInt_lt, e1, e2] at h; omega
  · rw [Int32.lt_iff_toInt_lt, e1, e2] at h; omega
end XE
theorem ctR_step {p : Nat → Bool} {a i : Nat} (h : a ≤ i) : ctR p a (i + 1 - a) = ctR p a (i - a) + (if p i then 1 else 0) := by
  rw [show i + 1 - a = (i - a) + 1 by omega, ctR, show a + (i - a) = i by omega]
theorem ctR_t {p : Nat → Bool} {a i : Nat} (h : a ≤ i) (hp : p i = true) : ctR p a (i + 1 - a) = ctR p a (i - a) + 1 := by rw [ctR_step h, if_pos hp]
theorem ctR_f {p : Nat → Bool} {a i : Nat} (h : a ≤ i) (hp : p i = false) : ctR p a (i + 1 - a) = ctR p a (i - a) := by rw [ctR_step h, if_neg (by rw [hp]; decide)]; rfl
theorem smR_step {f : Nat → Nat} {a i : Nat} (h : a ≤ i) : smR f a (i + 1 - a) = smR f a (i - a) + f i := by
  rw [show i + 1 - a = (i - a) + 1 by omega, smR, show a + (i - a) = i by omega]
def wcs (w : Nat → Int32) : Nat := (nr w + wrN w - 1) / wrN w
def lstN (w : Nat → Int32) (t : Nat) : Nat := if nr w < (t + 1) * wrN w then nr w else (t + 1) * wrN w
def runN (w : Nat → Int32) (a b : Nat) : Nat := smR (spd w) a (b - a)
def wrgB (w : Nat → Int32) (t : Nat) : Bool := !(w (4 + t) == -5) && !(w (4 + t) == nI (runN w (t * wrN w) (lstN w t)))
theorem nI_ite (a b : Nat) (ha : a < 2147483648) (hb : b < 2147483648) : (if nI a < nI b then nI b else nI a) = nI (if a < b then b else a) := by
  by_cases h : a < b
  · rw [if_pos h, if_pos (nI_lt h hb)]
  · rw [if_neg h, if_neg (nI_nlt (by omega) ha)]
theorem xmax0 (x : Int32) : (if nI 0 < x then x else nI 0) = nI x.toNatClampNeg := by
  have h0 : (nI 0).toInt = 0 := rfl
  by_cases h : nI 0 < x
  · rw [if_pos h]
    obtain ⟨j, hj, rfl⟩ := nI_of (x := x) (fun q => Int32.lt_irrefl (Int32.lt_trans (show (0:Int32) < x from h) q))
    rw [nI_clamp hj]
  · rw [if_neg h]
    rw [Int32.lt_iff_toInt_lt, h0] at h
    have : x.toNatClampNeg = 0 := by
      show x.toInt.toNat = 0
      omega
    rw [this]
theorem wcs_le {w : Nat → Int32} (h : WF w) : wcs w ≤ 24 := by
  have := h.n48; have := h.wr2; have := h.wr6
  unfold wcs
  exact Nat.le_of_lt_succ ((Nat.div_lt_iff_lt_mul (by omega)).mpr (by omega))
theorem wcs_lt {w : Nat → Int32} (h : WF w) {t : Nat} (ht : t < wcs w) : t * wrN w < nr w := by
  have h2 := h.wr2
  unfold wcs at ht
  have h3 := (Nat.le_div_iff_mul_le (by omega)).mp (Nat.succ_le_of_lt ht)
  rw [Nat.succ_mul] at h3
  omega
theorem lstN_le (w : Nat → Int32) (t : Nat) : lstN w t ≤ nr w := by unfold lstN; split <;> omega
theorem lstN_ge {w : Nat → Int32} (h : WF w) {t : Nat} (ht : t < wcs w) : t * wrN w ≤ lstN w t := by
  have := wcs_lt h ht
  unfold lstN
  rw [Nat.succ_mul]
  split <;> omega
theorem smR_spd_le {w : Nat → Int32} (h : WF w) {a n : Nat} (hn : a + n ≤ nr w) : smR (spd w) a n ≤ 9552 := by
  have h1 := smR_le (spd w) a 199 n (fun k hk => spd_le h (by omega))
  have := h.n48
  omega
theorem runN_le {w : Nat → Int32} (h : WF w) {a b : Nat} (hb : b ≤ nr w) : runN w a b ≤ 9552 := by
  unfold runN
  by_cases hab : a ≤ b
  · exact smR_spd_le h (by omega)
  · rw [show b - a = 0 by omega]; exact Nat.zero_le _
def stg (w : Nat → Int32) (k : Nat) : Nat := match k with
  | 0 => pgN w
  | 1 => stN w
  | _ => wrN w
theorem stg_w {w : Nat → Int32} (h : WF w) : ∀ k, k < 3 → w (1 + k) = nI (stg w k)
  | 0, _ => h.r1
  | 1, _ => h.r2
  | 2, _ => h.r3
abbrev ModO (mo mn mp mq mt mm md zs zl zp zr : Nat) (zk : Bool) : Nat × va_E := (mo, .inr (4, [.ref mn, .ref mp, .int (nI zs), .ref mq, .int (xz zk), .ref mt, .int (nI zl), .ref mm, .int (nI zp), .ref md, .int (nI zr)]))
abbrev ModC (g : XG) (mo mn mp mq mt mm md zs zl zp zr : Nat) (zk : Bool) (w : Nat → Int32) : va_W := [ModO mo mn mp mq mt mm md zs zl zp zr zk, (mn, .inl (g.2.1 0, 988, .inl w))]
theorem rowB_in {w : Nat → Int32} (hW : WF w) (x : Int32) : (decide (nI 0 ≤ x) && decide (x ≤ nI (nr w) - nI 1)) = rowB w x := by
  have h48 := hW.n48
  have e1 := xE_toInt (b := nr w) (by omega)
  have e2 := nI_toInt (n := nr w) (by omega)
  unfold rowB
  have : (x ≤ nI (nr w) - nI 1) ↔ (x < nI (nr w)) := by rw [Int32.le_iff_toInt_le, Int32.lt_iff_toInt_lt, e1, e2]; omega
  rw [decide_eq_decide.mpr this]; rfl
theorem colB_in (x : Int32) : (decide (nI 0 ≤ x) && decide (x ≤ nI 3)) = colB x := by
  have e1 : (nI 3).toInt = 3 := rfl
  have e2 : (4 : Int32).toInt = 4 := rfl
  unfold colB
  have : (x ≤ nI 3) ↔ (x < 4) := by rw [Int32.le_iff_toInt_le, Int32.lt_iff_toInt_lt, e1, e2]; omega
  rw [decide_eq_decide.mpr this]; rfl
theorem entB_in {k : Nat} {x : Int32} (h5 : ¬ x = -5) (h6 : ¬ x = -6) : (decide (nI 0 ≤ x) && decide (x ≤ nI (cmN k))) = entB k x := by
  unfold entB
  rw [beq_eq_false_iff_ne.mpr h5, beq_eq_false_iff_ne.mpr h6, Bool.false_or, Bool.false_or, cmax_N]; rfl
theorem dB_step {w : Nat → Int32} {c a i : Nat} (h : a ≤ i) : dB w c a (i + 1 - a) = (dB w c a (i - a) || decide (1 < cnt w (4 * i + c))) := by
  rw [show i + 1 - a = (i - a) + 1 by omega, dB, show a + (i - a) = i by omega]
def cmP (f : Nat → Nat) : Nat → Int32 × Nat
  | 0 => (-5, 0)
  | n + 1 => if (cmP f n).2 < f n then (nI n, f n) else cmP f n
def mnR (w : Nat → Int32) (k a b v : Nat) : Nat := ctR (fun i => mean w i k == nI v) a (b - a)
def cmI (w : Nat → Int32) (k a b : Nat) : Int32 := (cmP (mnR w k a b) (cmN k + 1)).1
theorem cmP_le (f : Nat → Nat) (b : Nat) (h : ∀ v, f v ≤ b) : ∀ n, (cmP f n).2 ≤ b
  | 0 => Nat.zero_le _
  | n + 1 => by
    unfold cmP
    split
    · exact h n
    · exact cmP_le f b h n
theorem mnR_le (w : Nat → Int32) (k a b v : Nat) : mnR w k a b v ≤ b - a := ctR_le _ _ _
def mg (w : Nat → Int32) (x y : Int32) : Int32 := if rowB w x && rowB w y then (if y < x then -2 else 0) else -1
def runA (w : Nat → Int32) (x y : Int32) : Int32 := if mg w x y < 0 then mg w x y else nI (runN w x.toNatClampNeg (y.toNatClampNeg + 1))
theorem mg_neg {w : Nat → Int32} {x y : Int32} : ¬ mg w x y < 0 ↔ (rowB w x = true ∧ rowB w y = true ∧ ¬ y < x) := by
  unfold mg
  cases rowB w x <;> cases rowB w y
  · simp
  · simp
  · simp
  · by_cases h : y < x <;> simp [h]
def idN (w : Nat → Int32) (a b : Nat) : Nat → Nat
  | 0 => 0
  | n + 1 => idN w a b n + ctR (fun i => dbt w i n) a (b - a)
theorem idN_le (w : Nat → Int32) (a b : Nat) : ∀ n, idN w a b n ≤ n * (b - a)
  | 0 => by simp [idN]
  | n + 1 => by
    have h1 := idN_le w a b n
    have h2 := ctR_le (fun i => dbt w i n) a (b - a)
    rw [idN, Nat.succ_mul]; omega
def cellA (w : Nat → Int32) (x y z : Int32) : Int32 :=
  if rowB w x && colB y then
    if z = 0 then mean w x.toNatClampNeg y.toNatClampNeg
    else if z = 1 then srcI w x.toNatClampNeg y.toNatClampNeg
    else if z = 2 then nI (cnt w (4 * x.toNatClampNeg + y.toNatClampNeg))
    else if z = 3 then nI (x.toNatClampNeg - top w y.toNatClampNeg x.toNatClampNeg + 1)
    else if z = 4 then xz (dbt w x.toNatClampNeg y.toNatClampNeg)
    else if z = 5 then nI (stop w y.toNatClampNeg (x.toNatClampNeg + 1) - 1 - x.toNatClampNeg)
    else -2
  else -1
def entryA (w : Nat → Int32) (x y z : Int32) : Int32 :=
  if rowB w x && colB y then
    if ¬ z < 0 ∧ z < nI (cnt w (4 * x.toNatClampNeg + y.toNatClampNeg)) then w (29 + 5 * (4 * x.toNatClampNeg + y.toNatClampNeg) + z.toNatClampNeg) else -2
  else -1
def isWrA (w : Nat → Int32) (x : Int32) : Int32 := if rowB w x then xz (wrB w x.toNatClampNeg) else -1
theorem spd_neg {w : Nat → Int32} {i : Nat} (h : mean w i 1 < 0) : spd w i = 0 := by
  unfold spd
  have h0 : (0 : Int32).toInt = 0 := rfl
  rw [Int32.lt_iff_toInt_lt, h0] at h
  show (mean w i 1).toInt.toNat = 0
  omega
theorem spd_pos {w : Nat → Int32} {i : Nat} (h : ¬ mean w i 1 < 0) : mean w i 1 = nI (spd w i) := by
  unfold spd
  obtain ⟨j, hj, e⟩ := nI_of h
  rw [e, nI_clamp hj]
theorem entry_in {w : Nat → Int32} (hW : WF w) {r k : Nat} (hk : k < 4) (hr : r < nr w) (z : Int32) : (decide (nI 0 ≤ z) && decide (z ≤ nI (cnt w (4 * r + k)) - nI 1)) = true ↔ (¬ z < 0 ∧ z < nI (cnt w (4 * r + k))) := by
  have hc4 := hW.c4 (i := 4 * r + k) (by omega)
  have e1 := xE_toInt (b := cnt w (4 * r + k)) (by omega)
  have e2 := nI_toInt (n := cnt w (4 * r + k)) (by omega)
  have e0 : (0 : Int32).toInt = 0 := rfl
  have e0' : (nI 0).toInt = 0 := rfl
  rw [Bool.and_eq_true, decide_eq_true_eq, decide_eq_true_eq]
  simp only [Int32.le_iff_toInt_le, Int32.lt_iff_toInt_lt, e1, e2, e0, e0']
  omega
