/-! what is told of columns, watches and all -/
def columnA (w : Nat → Int32) (x z : Int32) : Int32 :=
  if colB x then
    if z = 0 then nI (ctR (fun i9 => lat w i9 x.toNatClampNeg == -6) 0 (nr w))
    else if z = 1 then nI (ctR (fun i9 => lat w i9 x.toNatClampNeg == -5) 0 (nr w))
    else if z = 2 then nI (smR (fun i9 => cnt w (4 * i9 + x.toNatClampNeg) - 1) 0 (nr w))
    else if z = 3 then nI (ctR (fun i9 => mean w i9 x.toNatClampNeg == -5) 0 (nr w - 0))
    else if z = 4 then nI (mxR (fun i9 => i9 - top w x.toNatClampNeg i9 + 1) (nr w))
    else if z = 5 then cmI w x.toNatClampNeg 0 (nr w)
    else if z = 6 then nI (ctR (fun i9 => dbt w i9 x.toNatClampNeg) 0 (nr w - 0))
    else -2
  else -1
def ovF (w : Nat → Int32) (j i : Nat) : Nat := if j = 0 then ctR (fun i9 => lat w i9 i == -6) 0 (nr w) else if j = 2 then smR (fun i9 => cnt w (4 * i9 + i) - 1) 0 (nr w) else ctR (fun i9 => dbt w i9 i) 0 (nr w - 0)
theorem columnA_ov {w : Nat → Int32} {i j : Nat} (hi : i < 4) (hj : j = 0 ∨ j = 2 ∨ j = 6) : columnA w (nI i) (nI j) = nI (ovF w j i) := by
  have ei : (nI i).toNatClampNeg = i := nI_clamp (by omega)
  have hc : colB (nI i) = true := colB_iff.mpr ⟨i, hi, rfl⟩
  unfold columnA ovF
  rcases hj with rfl | rfl | rfl
  · rw [if_pos hc, if_pos (by decide), ei]; rfl
  · rw [if_pos hc, if_neg (by decide), if_neg (by decide), if_pos (by decide), ei]; rfl
  · rw [if_pos hc, if_neg (by decide), if_neg (by decide), if_neg (by decide), if_neg (by decide), if_neg (by decide), if_neg (by decide), if_pos (by decide), ei]; rfl
theorem ovF_le {w : Nat → Int32} (hW : WF w) (j : Nat) {i : Nat} (hi : i < 4) : ovF w j i ≤ 192 := by
  have h48 := hW.n48
  unfold ovF
  split
  · have := ctR_le (fun i9 => lat w i9 i == -6) 0 (nr w); omega
  · split
    · have := smR_le (fun i9 => cnt w (4 * i9 + i) - 1) 0 3 (nr w) (fun k hk => by have := hW.c4 (i := 4 * (0 + k) + i) (by omega); omega)
      omega
    · have := ctR_le (fun i9 => dbt w i9 i) 0 (nr w - 0); omega
theorem smR_ov_le {w : Nat → Int32} (hW : WF w) (j n : Nat) (hn : n ≤ 4) : smR (ovF w j) 0 n ≤ n * 192 := smR_le (ovF w j) 0 192 n (fun k hk => ovF_le hW j (by omega))
theorem idN_ov (w : Nat → Int32) : idN w 0 (nr w) 4 = smR (ovF w 6) 0 4 := rfl
def watB (w : Nat → Int32) (x : Int32) : Bool := decide (0 ≤ x) && decide (x < nI (wcs w))
theorem watB_in {w : Nat → Int32} (hW : WF w) (x : Int32) : (decide (nI 0 ≤ x) && decide (x ≤ nI (wcs w) - nI 1)) = watB w x := by
  have h24 := wcs_le hW
  have e1 := xE_toInt (b := wcs w) (by omega)
  have e2 := nI_toInt (n := wcs w) (by omega)
  unfold watB
  have : (x ≤ nI (wcs w) - nI 1) ↔ (x < nI (wcs w)) := by rw [Int32.le_iff_toInt_le, Int32.lt_iff_toInt_lt, e1, e2]; omega
  rw [decide_eq_decide.mpr this]; rfl
theorem watB_iff {w : Nat → Int32} (hW : WF w) {x : Int32} : watB w x = true ↔ ∃ t : Nat, t < wcs w ∧ x = nI t := by
  have h24 := wcs_le hW
  unfold watB
  rw [Bool.and_eq_true, decide_eq_true_eq, decide_eq_true_eq]
  constructor
  · rintro ⟨h1, h2⟩
    obtain ⟨j, hj, rfl⟩ := nI_of (Int32.not_lt.mpr h1)
    exact ⟨j, (nI_ltI hj (by omega)).mp h2, rfl⟩
  · rintro ⟨k, hk, rfl⟩
    exact ⟨nI_pos' (by omega), nI_lt hk (by omega)⟩
theorem watB_f1 {w : Nat → Int32} {x : Int32} (h : x < 0) : watB w x = false := by simp [watB, Int32.not_le.mpr h]
theorem watB_f2 {w : Nat → Int32} {x : Int32} (h : nI (wcs w) ≤ x) : watB w x = false := by simp [watB, Int32.not_lt.mpr h]
theorem watB_t {w : Nat → Int32} {x : Int32} (h : ¬ x < 0) (h2 : ¬ nI (wcs w) ≤ x) : watB w x = true := by simp [watB, Int32.not_lt.mp h, Int32.not_le.mp h2]
def watchA (w : Nat → Int32) (x z : Int32) : Int32 :=
  if watB w x then
    if z = 0 then nI (lstN w x.toNatClampNeg - x.toNatClampNeg * wrN w)
    else if z = 1 then nI (runN w (x.toNatClampNeg * wrN w) (lstN w x.toNatClampNeg))
    else if z = 2 then cmI w 3 (x.toNatClampNeg * wrN w) (lstN w x.toNatClampNeg)
    else if z = 3 then w (4 + x.toNatClampNeg)
    else if z = 4 then (if w (4 + x.toNatClampNeg) = -5 then -5 else nI (runN w (x.toNatClampNeg * wrN w) (lstN w x.toNatClampNeg)) - w (4 + x.toNatClampNeg) + nI 10000)
    else if z = 5 then nI (ctR (fun i9 => mean w i9 1 == -5) (x.toNatClampNeg * wrN w) (lstN w x.toNatClampNeg - x.toNatClampNeg * wrN w))
    else if z = 6 then nI (idN w (x.toNatClampNeg * wrN w) (lstN w x.toNatClampNeg) 4)
    else -2
  else -1
def countA (w : Nat → Int32) (zs zl : Nat) (z : Int32) : Int32 :=
  if z = 0 then nI (nr w) else if z = 1 then nI (smR (ovF w 0) 0 4) else if z = 2 then nI (smR (ovF w 2) 0 4) else if z = 3 then nI (smR (ovF w 6) 0 4) else if z = 4 then nI (ctR (wrB w) 0 (nr w)) else if z = 5 then nI (wcs w) else if z = 6 then nI (ctR (wrgB w) 0 (wcs w)) else if z = 7 then nI (pgN w) else if z = 8 then nI (stN w) else if z = 9 then nI (wrN w) else if z = 10 then nI zs else if z = 11 then nI zl else -2
theorem xlast0 {a b : Nat} (h : a ≤ b) : nI b - nI 1 - nI a + nI 1 = nI (b - a) := by
  rw [show nI b - nI 1 - nI a + nI 1 = nI b - nI a by rw [Int32.sub_eq_add_neg, Int32.sub_eq_add_neg, Int32.sub_eq_add_neg, Int32.add_assoc, Int32.add_comm (-nI a), ← Int32.add_assoc, Int32.add_assoc (nI b), Int32.add_left_neg, Int32.add_zero]]
  exact pk_sub h
