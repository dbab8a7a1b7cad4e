theorem xm1_lt {k : Nat} (h : k < 2147483648) : (-1 : Int32) < nI k := Int32.lt_of_lt_of_le (by decide) (nI_pos' h)
theorem xE_pred (n : Nat) : nI (n + 1) - nI 1 = nI n := nI_pred n
theorem xE_toInt {b : Nat} (hb : b < 1000000) : (nI b - nI 1).toInt = (b : Int) - 1 := pk_sub_toInt (by omega) (by decide)
section XE
variable {p : Program} {l : Launch} {e : Env} {R : Room} {s : State} {m : MethodId} {args : Array Value} {below : List Frame} {meth : Method} {c : Code} {H : Heap} {locs : List Loc} {cells slots : Nat} {Q : State → Prop}
variable {cc : ByteArray} {pc : Nat} {ls : Array Slot} {rest : List Value}
theorem xE_gt (hx : p.tables.exec = Jvm.exec) (hb : c.code = cc) {a b tgt : Nat} {off : Int} (ha : a < 1000000) (hb2 : b < 1000000) (hdg : decode cc pc = .ok (.if_icmp .gt off, 3)) (ht : (pc : Int) + off = (tgt : Int)) (kt : b ≤ a → W p l e R s m args below meth c H locs cells slots Q (F0 m tgt ls rest)) (kf : a < b → W p l e R s m args below meth c H locs cells slots Q (F0 m (pc + 3) ls rest)) : W p l e R s m args below meth c H locs cells slots Q (F0 m pc ls (.int (nI b - nI 1) :: .int (nI a) :: rest)) := by
  have e1 := xE_toInt hb2
  have e2 := nI_toInt (n := a) (by omega)
  refine lv_icmp_gt hx hb hdg ht (fun h => kt ?_) (fun h => kf ?_)
  · rw [Int32.lt_iff_toInt_lt, e1, e2] at h; omega
  · rw [Int32.lt_iff_toInt_lt, e1, e2] at h; omega
end XE
theorem ctR_step {p : Nat → Bool} {a i : Nat} (h : a ≤ i) : ctR p a (i + 1 - a) = ctR p a (i - a) + (if p i then 1 else 0) := by
  rw [show i + 1 - a = (i - a) + 1 by omega, ctR, show a + (i - a) = i by omega]
theorem ctR_t {p : Nat → Bool} {a i : Nat} (h : a ≤ i) (hp : p i = true) : ctR p a (i + 1 - a) = ctR p a (i - a) + 1 := by rw [ctR_step h, if_pos hp]
theorem ctR_f {p : Nat → Bool} {a i : Nat} (h : a ≤ i) (hp : p i = false) : ctR p a (i + 1 - a) = ctR p a (i - a) := by rw [ctR_step h, if_neg (by rw [hp]; decide)]; rfl
theorem smR_step {f : Nat → Nat} {a i : Nat} (h : a ≤ i) : smR f a (i + 1 - a) = smR f a (i - a) + f i := by
  rw [show i + 1 - a = (i - a) + 1 by omega, smR, show a + (i - a) = i by omega]
def wcs (w : Nat → Int32) : Nat := (nr w + wrN w - 1) / wrN w
def lstN (w : Nat → Int32) (t : Nat) : Nat := if nr w < (t + 1) * wrN w then nr w else (t + 1) * wrN w
def runN (w : Nat → Int32) (a b : Nat) : Nat := smR (spd w) a (b - a)
def wrgB (w : Nat → Int32) (t : Nat) : Bool := !(w (4 + t) == -5) && !(w (4 + t) == nI (runN w (t * wrN w) (lstN w t)))
theorem nI_ite (a b : Nat) (ha : a < 2147483648) (hb : b < 2147483648) : (if nI a < nI b then nI b else nI a) = nI (if a < b then b else a) := by
  by_cases h : a < b
  · rw [if_pos h, if_pos (nI_lt h hb)]
  · rw [if_neg h, if_neg (nI_nlt (by omega) ha)]
theorem xmax0 (x : Int32) : (if nI 0 < x then x else nI 0) = nI x.toNatClampNeg := by
  have h0 : (nI 0).toInt = 0 := rfl
  by_cases h : nI 0 < x
  · rw [if_pos h]
    obtain ⟨j, hj, rfl⟩ := nI_of (x := x) (fun q => Int32.lt_irrefl (Int32.lt_trans (show (0:Int32) < x from h) q))
    rw [nI_clamp hj]
  · rw [if_neg h]
    rw [Int32.lt_iff_toInt_lt, h0] at h
    have : x.toNatClampNeg = 0 := by
      show x.toInt.toNat = 0
      omega
    rw [this]
theorem wcs_le {w : Nat → Int32} (h : WF w) : wcs w ≤ 24 := by
  have := h.n48; have := h.wr2; have := h.wr6
  unfold wcs
  exact Nat.le_of_lt_succ ((Nat.div_lt_iff_lt_mul (by omega)).mpr (by omega))
theorem wcs_lt {w : Nat → Int32} (h : WF w) {t : Nat} (ht : t < wcs w) : t * wrN w < nr w := by
  have h2 := h.wr2
  unfold wcs at ht
  have h3 := (Nat.le_div_iff_mul_le (by omega)).mp (Nat.succ_le_of_lt ht)
  rw [Nat.succ_mul] at h3
  omega
theorem lstN_le (w : Nat → Int32) (t : Nat) : lstN w t ≤ nr w := by unfold lstN; split <;> omega
theorem lstN_ge {w : Nat → Int32} (h : WF w) {t : Nat} (ht : t < wcs w) : t * wrN w ≤ lstN w t := by
  have := wcs_lt h ht
  unfold lstN
  rw [Nat.succ_mul]
  split <;> omega
theorem smR_spd_le {w : Nat → Int32} (h : WF w) {a n : Nat} (hn : a + n ≤ nr w) : smR (spd w) a n ≤ 9552 := by
  have h1 := smR_le (spd w) a 199 n (fun k hk => spd_le h (by omega))
  have := h.n48
  omega
theorem runN_le {w : Nat → Int32} (h : WF w) {a b : Nat} (hb : b ≤ nr w) : runN w a b ≤ 9552 := by
  unfold runN
  by_cases hab : a ≤ b
  · exact smR_spd_le h (by omega)
  · rw [show b - a = 0 by omega]; exact Nat.zero_le _
def stg (w : Nat → Int32) (k : Nat) : Nat := match k with
  | 0 => pgN w
  | 1 => stN w
  | _ => wrN w
theorem stg_w {w : Nat → Int32} (h : WF w) : ∀ k, k < 3 → w (1 + k) = nI (stg w k)
  | 0, _ => h.r1
  | 1, _ => h.r2
  | 2, _ => h.r3
