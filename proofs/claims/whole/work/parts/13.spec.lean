/-! the logbook as one row of numbers: its shape, and what is read off it -/
def nr (w : Nat → Int32) : Nat := (w 0).toNatClampNeg
def pgN (w : Nat → Int32) : Nat := (w 1).toNatClampNeg
def stN (w : Nat → Int32) : Nat := (w 2).toNatClampNeg
def wrN (w : Nat → Int32) : Nat := (w 3).toNatClampNeg
def cnt (w : Nat → Int32) (i : Nat) : Nat := (w (28 + 5 * i)).toNatClampNeg
def cmN (k : Nat) : Nat := match k with
  | 0 => 7
  | 1 => 199
  | 2 => 12
  | _ => 9
theorem cmax_N : ∀ k : Nat, cmax k = nI (cmN k)
  | 0 => rfl
  | 1 => rfl
  | 2 => rfl
  | _ + 3 => rfl
theorem cmN_le (k : Nat) : cmN k ≤ 199 := by unfold cmN; split <;> decide
def EntOk (k : Nat) (x : Int32) : Prop := x = -5 ∨ x = -6 ∨ ∃ v : Nat, v ≤ cmN k ∧ x = nI v
def SumOk (x : Int32) : Prop := x = -5 ∨ ∃ v : Nat, v ≤ 9999 ∧ x = nI v
def WF (w : Nat → Int32) : Prop := (w 0 = nI (nr w) ∧ nr w ≤ 48) ∧ (w 1 = nI (pgN w) ∧ 4 ≤ pgN w ∧ pgN w ≤ 12) ∧ (w 2 = nI (stN w) ∧ stN w ≤ 1) ∧ (w 3 = nI (wrN w) ∧ 2 ≤ wrN w ∧ wrN w ≤ 6) ∧ (∀ k, k < 24 → SumOk (w (4 + k))) ∧ ∀ i, i < 4 * nr w → (w (28 + 5 * i) = nI (cnt w i) ∧ 1 ≤ cnt w i ∧ cnt w i ≤ 4) ∧ ∀ j, j < cnt w i → EntOk (i % 4) (w (29 + 5 * i + j))
/-- the class's arrays hold the row of numbers w -/
def LR (fe fc fs w : Nat → Int32) : Prop := (∀ k, k < 24 → fs k = w (4 + k)) ∧ ∀ i, i < 4 * nr w → fc i = w (28 + 5 * i) ∧ ∀ j, j < cnt w i → fe (4 * i + j) = w (29 + 5 * i + j)
def lat (w : Nat → Int32) (r c : Nat) : Int32 := w (28 + 5 * (4 * r + c) + cnt w (4 * r + c))
def abvB (w : Nat → Int32) (r : Nat) : Bool := !(r == 0 || (stN w == 1 && r % pgN w == 0))
def upB (w : Nat → Int32) (r c : Nat) : Bool := (lat w r c == -6) && abvB w r
def top (w : Nat → Int32) (c : Nat) : Nat → Nat
  | 0 => 0
  | r + 1 => if upB w (r + 1) c then top w c r else r + 1
def mean (w : Nat → Int32) (r c : Nat) : Int32 := if lat w (top w c r) c < 0 then -5 else lat w (top w c r) c
def srcI (w : Nat → Int32) (r c : Nat) : Int32 := if lat w (top w c r) c < 0 then -5 else nI (top w c r)
def dB (w : Nat → Int32) (c a : Nat) : Nat → Bool
  | 0 => false
  | n + 1 => dB w c a n || decide (1 < cnt w (4 * (a + n) + c))
def dbt (w : Nat → Int32) (r c : Nat) : Bool := dB w c (top w c r) (r - top w c r + 1)
def stopF (w : Nat → Int32) (c : Nat) : Nat → Nat → Nat
  | 0, a => a
  | n + 1, a => if upB w a c then stopF w c n (a + 1) else a
def stop (w : Nat → Int32) (c a : Nat) : Nat := stopF w c (nr w - a) a
def ctR (p : Nat → Bool) (a : Nat) : Nat → Nat
  | 0 => 0
  | n + 1 => ctR p a n + (if p (a + n) then 1 else 0)
def smR (f : Nat → Nat) (a : Nat) : Nat → Nat
  | 0 => 0
  | n + 1 => smR f a n + f (a + n)
def mxR (f : Nat → Nat) : Nat → Nat
  | 0 => 0
  | n + 1 => if mxR f n < f n then f n else mxR f n
def wr4 (w : Nat → Int32) (r : Nat) : Nat → Bool
  | 0 => true
  | n + 1 => wr4 w r n && decide (0 ≤ lat w r n)
def spd (w : Nat → Int32) (r : Nat) : Nat := (mean w r 1).toNatClampNeg
theorem WF.r0 {w : Nat → Int32} (h : WF w) : w 0 = nI (nr w) := h.1.1
theorem WF.n48 {w : Nat → Int32} (h : WF w) : nr w ≤ 48 := h.1.2
theorem WF.r1 {w : Nat → Int32} (h : WF w) : w 1 = nI (pgN w) := h.2.1.1
theorem WF.pg4 {w : Nat → Int32} (h : WF w) : 4 ≤ pgN w := h.2.1.2.1
theorem WF.pg12 {w : Nat → Int32} (h : WF w) : pgN w ≤ 12 := h.2.1.2.2
theorem WF.r2 {w : Nat → Int32} (h : WF w) : w 2 = nI (stN w) := h.2.2.1.1
theorem WF.st1 {w : Nat → Int32} (h : WF w) : stN w ≤ 1 := h.2.2.1.2
theorem WF.r3 {w : Nat → Int32} (h : WF w) : w 3 = nI (wrN w) := h.2.2.2.1.1
theorem WF.wr2 {w : Nat → Int32} (h : WF w) : 2 ≤ wrN w := h.2.2.2.1.2.1
theorem WF.wr6 {w : Nat → Int32} (h : WF w) : wrN w ≤ 6 := h.2.2.2.1.2.2
theorem WF.sum {w : Nat → Int32} (h : WF w) {k : Nat} (hk : k < 24) : SumOk (w (4 + k)) := h.2.2.2.2.1 k hk
theorem WF.c {w : Nat → Int32} (h : WF w) {i : Nat} (hi : i < 4 * nr w) : w (28 + 5 * i) = nI (cnt w i) := (h.2.2.2.2.2 i hi).1.1
theorem WF.c1 {w : Nat → Int32} (h : WF w) {i : Nat} (hi : i < 4 * nr w) : 1 ≤ cnt w i := (h.2.2.2.2.2 i hi).1.2.1
theorem WF.c4 {w : Nat → Int32} (h : WF w) {i : Nat} (hi : i < 4 * nr w) : cnt w i ≤ 4 := (h.2.2.2.2.2 i hi).1.2.2
theorem WF.ent {w : Nat → Int32} (h : WF w) {i j : Nat} (hi : i < 4 * nr w) (hj : j < cnt w i) : EntOk (i % 4) (w (29 + 5 * i + j)) := (h.2.2.2.2.2 i hi).2 j hj
theorem LR.c {fe fc fs w : Nat → Int32} (h : LR fe fc fs w) (hW : WF w) {i : Nat} (hi : i < 4 * nr w) : fc i = nI (cnt w i) := (h.2 i hi).1.trans (hW.c hi)
theorem LR.e {fe fc fs w : Nat → Int32} (h : LR fe fc fs w) {i j : Nat} (hi : i < 4 * nr w) (hj : j < cnt w i) : fe (4 * i + j) = w (29 + 5 * i + j) := (h.2 i hi).2 j hj
theorem LR.la {fe fc fs w : Nat → Int32} (h : LR fe fc fs w) (hW : WF w) {r c : Nat} (hi : 4 * r + c < 4 * nr w) : fe ((r * 4 + c) * 4 + cnt w (4 * r + c) - 1) = lat w r c := by
  have h1 := hW.c1 hi
  have h2 := h.e (i := 4 * r + c) (j := cnt w (4 * r + c) - 1) hi (by omega)
  rw [show (r * 4 + c) * 4 + cnt w (4 * r + c) - 1 = 4 * (4 * r + c) + (cnt w (4 * r + c) - 1) by omega, h2]
  unfold lat
  congr 1
  omega
theorem EntOk.neg {k : Nat} {x : Int32} (h : EntOk k x) : x < 0 ↔ (x = -5 ∨ x = -6) := by
  rcases h with rfl | rfl | ⟨v, hv, rfl⟩
  · simp
  · simp
  · have := cmN_le k
    have h1 := nI_pos (n := v) (by omega)
    refine ⟨fun q => absurd q h1, fun q => ?_⟩
    rcases q with q | q
    · rw [q] at h1; exact absurd (by decide) h1
    · rw [q] at h1; exact absurd (by decide) h1
theorem WF.latOk {w : Nat → Int32} (h : WF w) {r c : Nat} (hc : c < 4) (hi : 4 * r + c < 4 * nr w) : EntOk c (lat w r c) := by
  have h1 := h.c1 hi
  have h2 := h.ent (i := 4 * r + c) (j := cnt w (4 * r + c) - 1) hi (by omega)
  rw [show (4 * r + c) % 4 = c by omega, show 29 + 5 * (4 * r + c) + (cnt w (4 * r + c) - 1) = 28 + 5 * (4 * r + c) + cnt w (4 * r + c) by omega] at h2
  exact h2
theorem top_le (w : Nat → Int32) (c : Nat) : ∀ r, top w c r ≤ r
  | 0 => Nat.le_refl 0
  | r + 1 => by
    unfold top
    split
    · exact Nat.le_succ_of_le (top_le w c r)
    · exact Nat.le_refl _
theorem top_up {w : Nat → Int32} {c r : Nat} (h0 : 0 < r) (h : upB w r c = true) : top w c r = top w c (r - 1) := by
  obtain ⟨k, rfl⟩ : ∃ k, r = k + 1 := ⟨r - 1, by omega⟩
  rw [top, if_pos h]; rfl
theorem top_no {w : Nat → Int32} {c r : Nat} (h : upB w r c = false) : top w c r = r := by
  cases r with
  | zero => rfl
  | succ k => rw [top, if_neg (by rw [h]; decide)]
theorem upB_0 (w : Nat → Int32) (c : Nat) : upB w 0 c = false := by simp [upB, abvB]
theorem dB_iff (w : Nat → Int32) (c a : Nat) : ∀ n, dB w c a n = true ↔ ∃ k, k < n ∧ 1 < cnt w (4 * (a + k) + c)
  | 0 => by simp [dB]
  | n + 1 => by
    rw [dB, Bool.or_eq_true, dB_iff w c a n, decide_eq_true_eq]
    constructor
    · rintro (⟨k, h1, h2⟩ | h)
      · exact ⟨k, by omega, h2⟩
      · exact ⟨n, by omega, h⟩
    · rintro ⟨k, h1, h2⟩
      by_cases hk : k = n
      · subst hk; exact Or.inr h2
      · exact Or.inl ⟨k, by omega, h2⟩
theorem stop_up {w : Nat → Int32} {c a : Nat} (h0 : a < nr w) (h : upB w a c = true) : stop w c a = stop w c (a + 1) := by
  unfold stop
  rw [show nr w - a = (nr w - (a + 1)) + 1 by omega, stopF, if_pos h]
theorem stop_no {w : Nat → Int32} {c a : Nat} (h : upB w a c = false) : stop w c a = a := by
  unfold stop
  cases nr w - a with
  | zero => rfl
  | succ n => rw [stopF, if_neg (by rw [h]; decide)]
theorem stop_end {w : Nat → Int32} {c a : Nat} (h : nr w ≤ a) : stop w c a = a := by
  unfold stop
  rw [show nr w - a = 0 by omega]; rfl
theorem stopF_ge (w : Nat → Int32) (c : Nat) : ∀ n a, a ≤ stopF w c n a
  | 0, a => Nat.le_refl a
  | n + 1, a => by
    unfold stopF
    split
    · exact Nat.le_trans (Nat.le_succ a) (stopF_ge w c n (a + 1))
    · exact Nat.le_refl _
theorem stopF_le (w : Nat → Int32) (c : Nat) : ∀ n a, stopF w c n a ≤ a + n
  | 0, a => Nat.le_refl a
  | n + 1, a => by
    unfold stopF
    split
    · have := stopF_le w c n (a + 1); omega
    · omega
theorem stop_ge (w : Nat → Int32) (c a : Nat) : a ≤ stop w c a := stopF_ge w c _ a
theorem stop_le {w : Nat → Int32} {c a : Nat} (h : a ≤ nr w) : stop w c a ≤ nr w := by have := stopF_le w c (nr w - a) a; unfold stop; omega
theorem ctR_le (p : Nat → Bool) (a : Nat) : ∀ n, ctR p a n ≤ n
  | 0 => Nat.le_refl 0
  | n + 1 => by
    have := ctR_le p a n
    unfold ctR
    split <;> omega
theorem smR_le (f : Nat → Nat) (a b : Nat) : ∀ n, (∀ k, k < n → f (a + k) ≤ b) → smR f a n ≤ n * b
  | 0, _ => by simp [smR]
  | n + 1, h => by
    have h1 := smR_le f a b n (fun k hk => h k (by omega))
    have h2 := h n (by omega)
    rw [smR, Nat.succ_mul]
    omega
theorem mxR_le (f : Nat → Nat) (b : Nat) : ∀ n, (∀ k, k < n → f k ≤ b) → mxR f n ≤ b
  | 0, _ => Nat.zero_le _
  | n + 1, h => by
    unfold mxR
    split
    · exact h n (by omega)
    · exact mxR_le f b n (fun k hk => h k (by omega))
theorem mean_ok {w : Nat → Int32} (h : WF w) {r c : Nat} (hc : c < 4) (hr : r < nr w) : mean w r c = -5 ∨ ∃ v : Nat, v ≤ cmN c ∧ mean w r c = nI v := by
  have ht := top_le w c r
  have h1 := h.latOk hc (r := top w c r) (by omega)
  unfold mean
  by_cases hn : lat w (top w c r) c < 0
  · rw [if_pos hn]; exact Or.inl rfl
  · rw [if_neg hn]
    rcases h1 with h1 | h1 | h1
    · exact absurd (by rw [h1]; decide) hn
    · exact absurd (by rw [h1]; decide) hn
    · exact Or.inr h1
theorem spd_le {w : Nat → Int32} (h : WF w) {r : Nat} (hr : r < nr w) : spd w r ≤ 199 := by
  unfold spd
  rcases mean_ok h (c := 1) (by decide) hr with h1 | ⟨v, hv, h1⟩
  · rw [h1]; decide
  · have : v ≤ 199 := hv
    rw [h1, nI_clamp (by omega)]; exact hv
