/-! the acts, purely: the shape and the class's arrays after them -/
abbrev LogX (g : XG) (ao ae ac au : Nat) (fe fc fs : Nat → Int32) (zn zg zt zw : Nat) : va_W := [(ao, .inr (1, [.ref ae, .ref ac, .ref au, .int (nI zn), .int (nI zg), .int (nI zt), .int (nI zw)])), (ae, .inl (g.2.1 0, 768, .inl fe)), (ac, .inl (g.2.1 0, 192, .inl fc)), (au, .inl (g.2.1 0, 24, .inl fs))]
def LRm (fe fc fs w : Nat → Int32) (m : Nat) : Prop := (∀ k, k < 24 → fs k = w (4 + k)) ∧ ∀ i, i < m → fc i = w (28 + 5 * i) ∧ ∀ j, j < cnt w i → fe (4 * i + j) = w (29 + 5 * i + j)
def WFm (w : Nat → Int32) (m : Nat) : Prop := ∀ i, i < m → (w (28 + 5 * i) = nI (cnt w i) ∧ 1 ≤ cnt w i ∧ cnt w i ≤ 4) ∧ ∀ j, j < cnt w i → EntOk (i % 4) (w (29 + 5 * i + j))
theorem LRm.step {fe fc fs w : Nat → Int32} {r k m : Nat} {x : Int32} (h : LRm fe fc fs w m) (hc : ∀ i, i < m → cnt w i ≤ 4) (hm : 4 * r + k = m) : LRm (upd fe ((r * 4 + k) * 4 + 0) x) (upd (upd fc (r * 4 + k) (nI 0)) (r * 4 + k) (nI (0 + 1))) fs (cmsW w r k x) (m + 1) := by
  refine ⟨fun i hi => by rw [cmsW_lo (by omega)]; exact h.1 i hi, fun i hi => ?_⟩
  by_cases him : i = m
  · subst him
    have ec : cnt (cmsW w r k x) i = 1 := by
      unfold cnt cmsW
      rw [hm, upd_off (by omega), upd_at]; rfl
    rw [ec]
    refine ⟨?_, fun j hj => ?_⟩
    · rw [show r * 4 + k = i by omega, upd_at]
      unfold cmsW
      rw [hm, upd_off (by omega), upd_at]
    · have : j = 0 := by omega
      subst this
      rw [show (r * 4 + k) * 4 + 0 = 4 * i + 0 by omega, upd_at]
      unfold cmsW
      rw [hm, show 29 + 5 * i + 0 = 28 + 5 * i + 1 by omega, upd_at]
  · have hi2 : i < m := by omega
    have e1 : cmsW w r k x (28 + 5 * i) = w (28 + 5 * i) := cmsW_lo (by omega)
    have ec : cnt (cmsW w r k x) i = cnt w i := cnt_of e1
    rw [ec, e1]
    obtain ⟨h1, h2⟩ := h.2 i hi2
    refine ⟨by rw [upd_off (by omega), upd_off (by omega)]; exact h1, fun j hj => ?_⟩
    have := hc i hi2
    rw [upd_off (by omega), cmsW_lo (by omega)]
    exact h2 j hj
theorem WFm.step {w : Nat → Int32} {r k m : Nat} {x : Int32} (h : WFm w m) (hm : 4 * r + k = m) (hk : k < 4) (hx : EntOk k x) : WFm (cmsW w r k x) (m + 1) := by
  intro i hi
  by_cases him : i = m
  · subst him
    have e1 : cmsW w r k x (28 + 5 * i) = nI 1 := by
      unfold cmsW
      rw [hm, upd_off (by omega), upd_at]
    have ec : cnt (cmsW w r k x) i = 1 := by unfold cnt; rw [e1]; rfl
    rw [ec]
    refine ⟨⟨e1, by decide, by decide⟩, fun j hj => ?_⟩
    have : j = 0 := by omega
    subst this
    unfold cmsW
    rw [hm, show 29 + 5 * i + 0 = 28 + 5 * i + 1 by omega, upd_at, show i % 4 = k by omega]
    exact hx
  · have hi2 : i < m := by omega
    have e1 : cmsW w r k x (28 + 5 * i) = w (28 + 5 * i) := cmsW_lo (by omega)
    have ec : cnt (cmsW w r k x) i = cnt w i := cnt_of e1
    obtain ⟨⟨h1, h2, h3⟩, h4⟩ := h i hi2
    rw [ec, e1]
    exact ⟨⟨h1, h2, h3⟩, fun j hj => by rw [cmsW_lo (by omega)]; exact h4 j hj⟩
theorem WF.m {w : Nat → Int32} (h : WF w) : WFm w (4 * nr w) := h.2.2.2.2.2
theorem LR.m {fe fc fs w : Nat → Int32} (h : LR fe fc fs w) : LRm fe fc fs w (4 * nr w) := h
theorem LRm.c4 {w : Nat → Int32} {m : Nat} (h : WFm w m) : ∀ i, i < m → cnt w i ≤ 4 := fun i hi => (h i hi).1.2.2
/-- the same numbers above the first one -/
theorem LRm.hi {fe fc fs w w' : Nat → Int32} {m : Nat} (h : LRm fe fc fs w m) (he : ∀ j, 4 ≤ j → w' j = w j) : LRm fe fc fs w' m := by
  refine ⟨fun k hk => by rw [he _ (by omega)]; exact h.1 k hk, fun i hi => ?_⟩
  have ec : cnt w' i = cnt w i := cnt_of (he _ (by omega))
  rw [ec, he _ (by omega)]
  exact ⟨(h.2 i hi).1, fun j hj => by rw [he _ (by omega)]; exact (h.2 i hi).2 j hj⟩
theorem WFm.hi {w w' : Nat → Int32} {m : Nat} (h : WFm w m) (he : ∀ j, 28 ≤ j → w' j = w j) : WFm w' m := by
  intro i hi
  have ec : cnt w' i = cnt w i := cnt_of (he _ (by omega))
  rw [ec, he _ (by omega)]
  exact ⟨(h i hi).1, fun j hj => by rw [he _ (by omega)]; exact (h i hi).2 j hj⟩
theorem WFm.less {w : Nat → Int32} {m n : Nat} (h : WFm w m) (hn : n ≤ m) : WFm w n := fun i hi => h i (by omega)
theorem LRm.less {fe fc fs w : Nat → Int32} {m n : Nat} (h : LRm fe fc fs w m) (hn : n ≤ m) : LRm fe fc fs w n := ⟨h.1, fun i hi => h.2 i (by omega)⟩
/-- a shape out of its parts -/
theorem WF.of {w w' : Nat → Int32} {n : Nat} (hW : WF w) (h0 : w' 0 = nI n) (hn : n ≤ 48) (h1 : ∀ j, 1 ≤ j → j < 28 → w' j = w j) (hm : WFm w' (4 * n)) : WF w' := by
  have en : nr w' = n := by unfold nr; rw [h0]; exact nI_clamp (by omega)
  have e1 : pgN w' = pgN w := by unfold pgN; rw [h1 1 (by omega) (by omega)]
  have e2 : stN w' = stN w := by unfold stN; rw [h1 2 (by omega) (by omega)]
  have e3 : wrN w' = wrN w := by unfold wrN; rw [h1 3 (by omega) (by omega)]
  refine ⟨⟨by rw [en]; exact h0, by rw [en]; exact hn⟩, ⟨by rw [h1 1 (by omega) (by omega), e1]; exact hW.r1, by rw [e1]; exact hW.pg4, by rw [e1]; exact hW.pg12⟩, ⟨by rw [h1 2 (by omega) (by omega), e2]; exact hW.r2, by rw [e2]; exact hW.st1⟩, ⟨by rw [h1 3 (by omega) (by omega), e3]; exact hW.r3, by rw [e3]; exact hW.wr2, by rw [e3]; exact hW.wr6⟩, fun k hk => by rw [h1 (4 + k) (by omega) (by omega)]; exact hW.sum hk, by rw [en]; exact hm⟩
theorem addW_nr (w : Nat → Int32) (a b c d : Int32) (h : nr w < 48) : nr (addW w a b c d) = nr w + 1 := by
  show (addW w a b c d 0).toNatClampNeg = _
  unfold addW; rw [upd_at]; exact nI_clamp (by omega)
theorem addW_lo {w : Nat → Int32} {a b c d : Int32} {j : Nat} (h1 : 1 ≤ j) (h2 : j < 28) : addW w a b c d j = w j := by
  unfold addW
  rw [upd_off (by omega), cmsW_lo (by omega), cmsW_lo (by omega), cmsW_lo (by omega), cmsW_lo (by omega)]
theorem WFm.add {w : Nat → Int32} (hW : WF w) {a b c d : Int32} (ha : EntOk 0 a) (hb : EntOk 1 b) (hc : EntOk 2 c) (hd : EntOk 3 d) : WFm (cmsW (cmsW (cmsW (cmsW w (nr w) 0 a) (nr w) 1 b) (nr w) 2 c) (nr w) 3 d) (4 * (nr w + 1)) := by
  have h1 := hW.m.step (r := nr w) (k := 0) (by omega) (by decide) ha
  have h2 := h1.step (r := nr w) (k := 1) (by omega) (by decide) hb
  have h3 := h2.step (r := nr w) (k := 2) (by omega) (by decide) hc
  have h4 := h3.step (r := nr w) (k := 3) (by omega) (by decide) hd
  exact h4.less (by omega)
theorem WF.add {w : Nat → Int32} (hW : WF w) {a b c d : Int32} (hn : nr w < 48) (ha : EntOk 0 a) (hb : EntOk 1 b) (hc : EntOk 2 c) (hd : EntOk 3 d) : WF (addW w a b c d) := by
  refine hW.of (n := nr w + 1) (by unfold addW; exact upd_at _ _ _) (by omega) (fun j h1 h2 => addW_lo h1 h2) ?_
  exact (WFm.add hW ha hb hc hd).hi (fun j hj => by unfold addW; exact upd_off (by omega))
def addE (fe : Nat → Int32) (n : Nat) (a b c d : Int32) : Nat → Int32 := upd (upd (upd (upd fe ((n * 4 + 0) * 4 + 0) a) ((n * 4 + 1) * 4 + 0) b) ((n * 4 + 2) * 4 + 0) c) ((n * 4 + 3) * 4 + 0) d
def one1 (fc : Nat → Int32) (i : Nat) : Nat → Int32 := upd (upd fc i (nI 0)) i (nI (0 + 1))
theorem LR.add {fe fc fs w : Nat → Int32} (hW : WF w) (hR : LR fe fc fs w) {a b c d : Int32} (hn : nr w < 48) (ha : EntOk 0 a) (hb : EntOk 1 b) (hc : EntOk 2 c) (hd : EntOk 3 d) : LR (addE fe (nr w) a b c d) (one1 (one1 (one1 (one1 fc (nr w * 4 + 0)) (nr w * 4 + 1)) (nr w * 4 + 2)) (nr w * 4 + 3)) fs (addW w a b c d) := by
  have g1 := hW.m.step (r := nr w) (k := 0) (by omega) (by decide) ha
  have g2 := g1.step (r := nr w) (k := 1) (by omega) (by decide) hb
  have g3 := g2.step (r := nr w) (k := 2) (by omega) (by decide) hc
  have h1 := hR.m.step (r := nr w) (k := 0) (x := a) (LRm.c4 hW.m) (by omega)
  have h2 := h1.step (r := nr w) (k := 1) (x := b) (LRm.c4 g1) (by omega)
  have h3 := h2.step (r := nr w) (k := 2) (x := c) (LRm.c4 g2) (by omega)
  have h4 := h3.step (r := nr w) (k := 3) (x := d) (LRm.c4 g3) (by omega)
  have h5 := (h4.less (n := 4 * (nr w + 1)) (by omega)).hi (w' := addW w a b c d) (fun j hj => by unfold addW; exact upd_off (by omega))
  unfold LR
  rw [addW_nr w a b c d hn]
  exact h5
theorem remW_lo {w : Nat → Int32} {j : Nat} (h1 : 1 ≤ j) (h2 : j < 28 + 5 * (4 * (nr w - 1))) : remW w j = w j := by
  unfold remW xzero
  rw [if_neg (by omega), upd_off (by omega)]
theorem remW_0 {w : Nat → Int32} : remW w 0 = nI (nr w - 1) := by
  unfold remW xzero
  rw [if_neg (by omega), upd_at]
theorem remW_nr {w : Nat → Int32} (hW : WF w) : nr (remW w) = nr w - 1 := by
  have := hW.n48
  unfold nr; rw [remW_0]; exact nI_clamp (by unfold nr at *; omega)
theorem WF.rem {w : Nat → Int32} (hW : WF w) (hn : 0 < nr w) : WF (remW w) := by
  have h48 := hW.n48
  refine hW.of (n := nr w - 1) remW_0 (by omega) (fun j h1 h2 => remW_lo h1 (by omega)) ?_
  intro i hi
  have ec : cnt (remW w) i = cnt w i := cnt_of (remW_lo (by omega) (by omega))
  have h4 := hW.c4 (i := i) (by omega)
  rw [ec, remW_lo (by omega) (by omega)]
  exact ⟨(hW.m i (by omega)).1, fun j hj => by rw [remW_lo (by omega) (by omega)]; exact (hW.m i (by omega)).2 j hj⟩
theorem LR.rem {fe fc fs w : Nat → Int32} (hW : WF w) (hR : LR fe fc fs w) (hn : 0 < nr w) : LR fe fc fs (remW w) := by
  unfold LR
  rw [remW_nr hW]
  refine ⟨fun k hk => by rw [remW_lo (by omega) (by omega)]; exact hR.1 k hk, fun i hi => ?_⟩
  have ec : cnt (remW w) i = cnt w i := cnt_of (remW_lo (by omega) (by omega))
  have h4 := hW.c4 (i := i) (by omega)
  rw [ec, remW_lo (by omega) (by omega)]
  exact ⟨(hR.2 i (by omega)).1, fun j hj => by rw [remW_lo (by omega) (by omega)]; exact (hR.2 i (by omega)).2 j hj⟩
/-- one cell is written anew, in both -/
theorem LR.cell {fe fc fs fe' fc' w w' : Nat → Int32} (hW : WF w) (hR : LR fe fc fs w) {i : Nat} (hi : i < 4 * nr w) (hlo : ∀ j, j < 28 → w' j = w j) (hoff : ∀ j, (j < 28 + 5 * i ∨ 28 + 5 * i + 5 ≤ j) → w' j = w j) (hc : ∀ j, j ≠ i → fc' j = fc j) (he : ∀ j, (j < 4 * i ∨ 4 * i + 4 ≤ j) → fe' j = fe j) (h1 : fc' i = w' (28 + 5 * i)) (h2 : ∀ j, j < cnt w' i → fe' (4 * i + j) = w' (29 + 5 * i + j)) : LR fe' fc' fs w' := by
  have en : nr w' = nr w := nr_of (hlo 0 (by omega))
  unfold LR
  rw [en]
  refine ⟨fun k hk => by rw [hlo _ (by omega)]; exact hR.1 k hk, fun i' hi' => ?_⟩
  by_cases hii : i' = i
  · subst hii; exact ⟨h1, h2⟩
  · have ec : cnt w' i' = cnt w i' := cnt_of (hoff _ (by omega))
    have h4 := hW.c4 hi'
    rw [ec, hoff _ (by omega), hc _ hii]
    exact ⟨(hR.2 i' hi').1, fun j hj => by rw [hoff _ (by omega), he _ (by omega)]; exact (hR.2 i' hi').2 j hj⟩
theorem corW_cnt {w : Nat → Int32} {r k : Nat} {x : Int32} (hc : cnt w (4 * r + k) < 4) : cnt (corW w r k x) (4 * r + k) = cnt w (4 * r + k) + 1 := by
  show (corW w r k x (28 + 5 * (4 * r + k))).toNatClampNeg = _
  unfold corW
  rw [upd_off (by omega), upd_at]
  exact nI_clamp (by omega)
theorem LR.cor {fe fc fs w : Nat → Int32} (hW : WF w) (hR : LR fe fc fs w) {r k : Nat} {x : Int32} (hk : k < 4) (hr : r < nr w) (hc : cnt w (4 * r + k) < 4) : LR (upd fe ((r * 4 + k) * 4 + cnt w (4 * r + k)) x) (upd fc (r * 4 + k) (nI (cnt w (4 * r + k) + 1))) fs (corW w r k x) := by
  refine LR.cell hW hR (i := 4 * r + k) (by omega) (fun j hj => ?_) (fun j hj => ?_) (fun j hj => upd_off (by omega)) (fun j hj => upd_off (by omega)) ?_ (fun j hj => ?_)
  · unfold corW; rw [upd_off (by omega), upd_off (by omega)]
  · unfold corW; rw [upd_off (by omega), upd_off (by omega)]
  · rw [show r * 4 + k = 4 * r + k by omega, upd_at]
    unfold corW; rw [upd_off (by omega), upd_at]
  · rw [corW_cnt hc] at hj
    unfold corW
    by_cases hj2 : j = cnt w (4 * r + k)
    · subst hj2
      rw [show (r * 4 + k) * 4 + cnt w (4 * r + k) = 4 * (4 * r + k) + cnt w (4 * r + k) by omega, upd_at, show 29 + 5 * (4 * r + k) + cnt w (4 * r + k) = 28 + 5 * (4 * r + k) + (cnt w (4 * r + k) + 1) by omega, upd_at]
    · rw [upd_off (by omega), upd_off (by omega), upd_off (by omega)]
      exact hR.e (by omega) (by omega)
theorem tkbW_cnt {w : Nat → Int32} {r k : Nat} (hc : cnt w (4 * r + k) ≤ 4) : cnt (tkbW w r k) (4 * r + k) = cnt w (4 * r + k) - 1 := by
  show (tkbW w r k (28 + 5 * (4 * r + k))).toNatClampNeg = _
  unfold tkbW
  rw [upd_at]
  exact nI_clamp (by omega)
theorem LR.tkb {fe fc fs w : Nat → Int32} (hW : WF w) (hR : LR fe fc fs w) {r k : Nat} (hk : k < 4) (hr : r < nr w) : LR fe (upd fc (r * 4 + k) (nI (cnt w (4 * r + k) - 1))) fs (tkbW w r k) := by
  have h1 := hW.c1 (i := 4 * r + k) (by omega)
  have h4 := hW.c4 (i := 4 * r + k) (by omega)
  refine LR.cell hW hR (i := 4 * r + k) (by omega) (fun j hj => ?_) (fun j hj => ?_) (fun j hj => upd_off (by omega)) (fun j hj => rfl) ?_ (fun j hj => ?_)
  · unfold tkbW; rw [upd_off (by omega), upd_off (by omega)]
  · unfold tkbW; rw [upd_off (by omega), upd_off (by omega)]
  · rw [show r * 4 + k = 4 * r + k by omega, upd_at]
    unfold tkbW; rw [upd_at]
  · rw [tkbW_cnt h4] at hj
    unfold tkbW
    rw [upd_off (by omega), upd_off (by omega)]
    exact hR.e (by omega) (by omega)
/-- only numbers below 28 change, no count of rows among them -/
theorem WF.low {w w' : Nat → Int32} (hW : WF w) (h0 : w' 0 = w 0) (hhi : ∀ j, 28 ≤ j → w' j = w j) (h1 : w' 1 = nI (pgN w') ∧ 4 ≤ pgN w' ∧ pgN w' ≤ 12) (h2 : w' 2 = nI (stN w') ∧ stN w' ≤ 1) (h3 : w' 3 = nI (wrN w') ∧ 2 ≤ wrN w' ∧ wrN w' ≤ 6) (hs : ∀ k, k < 24 → SumOk (w' (4 + k))) : WF w' := by
  have en : nr w' = nr w := nr_of h0
  refine ⟨⟨by rw [h0, en]; exact hW.r0, by rw [en]; exact hW.n48⟩, h1, h2, h3, hs, ?_⟩
  rw [en]
  exact hW.m.hi hhi
theorem WF.clm {w : Nat → Int32} (hW : WF w) {t : Nat} {x : Int32} (ht : t < 24) (hx : SumOk x) : WF (clmW w t x) := by
  have e : ∀ j, j < 4 → clmW w t x j = w j := fun j hj => upd_off (by omega)
  have e1 : pgN (clmW w t x) = pgN w := by unfold pgN; rw [e 1 (by omega)]
  have e2 : stN (clmW w t x) = stN w := by unfold stN; rw [e 2 (by omega)]
  have e3 : wrN (clmW w t x) = wrN w := by unfold wrN; rw [e 3 (by omega)]
  refine hW.low (e 0 (by omega)) (fun j hj => upd_off (by omega)) ?_ ?_ ?_ (fun k hk => ?_)
  · rw [e 1 (by omega), e1]; exact hW.2.1
  · rw [e 2 (by omega), e2]; exact hW.2.2.1
  · rw [e 3 (by omega), e3]; exact hW.2.2.2.1
  · by_cases hkt : k = t
    · subst hkt; unfold clmW; rw [upd_at]; exact hx
    · unfold clmW; rw [upd_off (by omega)]; exact hW.sum hk
theorem LR.clm {fe fc fs w : Nat → Int32} (hR : LR fe fc fs w) {t : Nat} {x : Int32} (ht : t < 24) : LR fe fc (upd fs t x) (clmW w t x) := by
  have en : nr (clmW w t x) = nr w := nr_of (upd_off (by omega))
  unfold LR
  rw [en]
  refine ⟨fun k hk => ?_, fun i hi => ?_⟩
  · by_cases hkt : k = t
    · subst hkt; unfold clmW; rw [upd_at, upd_at]
    · unfold clmW; rw [upd_off hkt, upd_off (by omega)]; exact hR.1 k hk
  · have e1 : clmW w t x (28 + 5 * i) = w (28 + 5 * i) := upd_off (by omega)
    have ec : cnt (clmW w t x) i = cnt w i := cnt_of e1
    rw [ec, e1]
    exact ⟨(hR.2 i hi).1, fun j hj => by unfold clmW; rw [upd_off (by omega)]; exact (hR.2 i hi).2 j hj⟩
theorem setV_ok {t : Nat} {y : Int32} (ht : t < 3) (h : setV (nI t) y = true) : ∃ v : Nat, y = nI v ∧ (t = 0 → 4 ≤ v ∧ v ≤ 12) ∧ (t = 1 → v ≤ 1) ∧ (t = 2 → 2 ≤ v ∧ v ≤ 6) := by
  have rng : ∀ a b : Nat, a < 2147483648 → b < 2147483648 → (decide (nI a ≤ y) && decide (y ≤ nI b)) = true → ∃ v : Nat, y = nI v ∧ a ≤ v ∧ v ≤ b := by
    intro a b ha hb h
    rw [Bool.and_eq_true, decide_eq_true_eq, decide_eq_true_eq] at h
    obtain ⟨v, hv, rfl⟩ := nI_of (x := y) (Int32.not_lt.mpr (Int32.le_trans (nI_pos' ha) h.1))
    exact ⟨v, rfl, (nI_leI ha hv).mp h.1, (nI_leI hv hb).mp h.2⟩
  unfold setV at h
  rcases (show t = 0 ∨ t = 1 ∨ t = 2 by omega) with rfl | rfl | rfl
  · rw [if_pos (by decide)] at h
    obtain ⟨v, e, h1, h2⟩ := rng 4 12 (by decide) (by decide) h
    exact ⟨v, e, fun _ => ⟨h1, h2⟩, fun q => by omega, fun q => by omega⟩
  · rw [if_neg (by decide), if_pos (by decide)] at h
    obtain ⟨v, e, h1, h2⟩ := rng 0 1 (by decide) (by decide) h
    exact ⟨v, e, fun q => by omega, fun _ => h2, fun q => by omega⟩
  · rw [if_neg (by decide), if_neg (by decide), if_pos (by decide)] at h
    obtain ⟨v, e, h1, h2⟩ := rng 2 6 (by decide) (by decide) h
    exact ⟨v, e, fun q => by omega, fun q => by omega, fun _ => ⟨h1, h2⟩⟩
theorem WF.set {w : Nat → Int32} (hW : WF w) {t : Nat} {y : Int32} (ht : t < 3) (h : setV (nI t) y = true) : WF (setW w t y) := by
  obtain ⟨v, rfl, h0, h1, h2⟩ := setV_ok ht h
  have hs : ∀ k, k < 24 → SumOk (setW w t (nI v) (4 + k)) := fun k hk => by unfold setW; rw [upd_off (by omega)]; exact hW.sum hk
  have hhi : ∀ j, 28 ≤ j → setW w t (nI v) j = w j := fun j hj => upd_off (by omega)
  have hz : setW w t (nI v) 0 = w 0 := upd_off (by omega)
  rcases (show t = 0 ∨ t = 1 ∨ t = 2 by omega) with rfl | rfl | rfl
  · have hv := h0 rfl
    have e1 : pgN (setW w 0 (nI v)) = v := by unfold pgN setW; rw [upd_at]; exact nI_clamp (by omega)
    have e2 : stN (setW w 0 (nI v)) = stN w := by unfold stN setW; rw [upd_off (by omega)]
    have e3 : wrN (setW w 0 (nI v)) = wrN w := by unfold wrN setW; rw [upd_off (by omega)]
    refine hW.low hz hhi ⟨by rw [e1]; unfold setW; exact upd_at _ _ _, by omega, by omega⟩ ?_ ?_ hs
    · rw [e2]; unfold setW; rw [upd_off (by omega)]; exact hW.2.2.1
    · rw [e3]; unfold setW; rw [upd_off (by omega)]; exact hW.2.2.2.1
  · have hv := h1 rfl
    have e1 : pgN (setW w 1 (nI v)) = pgN w := by unfold pgN setW; rw [upd_off (by omega)]
    have e2 : stN (setW w 1 (nI v)) = v := by unfold stN setW; rw [upd_at]; exact nI_clamp (by omega)
    have e3 : wrN (setW w 1 (nI v)) = wrN w := by unfold wrN setW; rw [upd_off (by omega)]
    refine hW.low hz hhi ?_ ⟨by rw [e2]; unfold setW; exact upd_at _ _ _, by omega⟩ ?_ hs
    · rw [e1]; unfold setW; rw [upd_off (by omega)]; exact hW.2.1
    · rw [e3]; unfold setW; rw [upd_off (by omega)]; exact hW.2.2.2.1
  · have hv := h2 rfl
    have e1 : pgN (setW w 2 (nI v)) = pgN w := by unfold pgN setW; rw [upd_off (by omega)]
    have e2 : stN (setW w 2 (nI v)) = stN w := by unfold stN setW; rw [upd_off (by omega)]
    have e3 : wrN (setW w 2 (nI v)) = v := by unfold wrN setW; rw [upd_at]; exact nI_clamp (by omega)
    refine hW.low hz hhi ?_ ?_ ⟨by rw [e3]; unfold setW; exact upd_at _ _ _, by omega, by omega⟩ hs
    · rw [e1]; unfold setW; rw [upd_off (by omega)]; exact hW.2.1
    · rw [e2]; unfold setW; rw [upd_off (by omega)]; exact hW.2.2.1
theorem LR.set {fe fc fs w : Nat → Int32} (hR : LR fe fc fs w) {t : Nat} {y : Int32} (ht : t < 3) : LR fe fc fs (setW w t y) := by
  have en : nr (setW w t y) = nr w := nr_of (upd_off (by omega))
  unfold LR
  rw [en]
  exact LRm.hi hR.m (fun j hj => upd_off (by omega))
/-- rows of numbers that agree where it matters -/
def Ag (w w' : Nat → Int32) : Prop := ∀ j, j < 988 → w j = w' j
theorem ag_nr {w w' : Nat → Int32} (h : Ag w w') : nr w = nr w' := nr_of (h 0 (by omega))
theorem WF.ag {w w' : Nat → Int32} (hW : WF w) (h : Ag w w') : WF w' := by
  have h48 := hW.n48
  refine hW.of (n := nr w) ((h 0 (by omega)).symm.trans hW.r0) h48 (fun j h1 h2 => (h j (by omega)).symm) ?_
  intro i hi
  have ec : cnt w' i = cnt w i := cnt_of (h _ (by omega)).symm
  have h4 := hW.c4 hi
  rw [ec, ← h _ (by omega)]
  exact ⟨(hW.m i hi).1, fun j hj => by rw [← h _ (by omega)]; exact (hW.m i hi).2 j hj⟩
theorem LR.ag {fe fc fs w w' : Nat → Int32} (hW : WF w) (hR : LR fe fc fs w) (h : Ag w w') : LR fe fc fs w' := by
  have h48 := hW.n48
  have en : nr w' = nr w := (ag_nr h).symm
  unfold LR
  rw [en]
  refine ⟨fun k hk => (hR.1 k hk).trans (h _ (by omega)), fun i hi => ?_⟩
  have ec : cnt w' i = cnt w i := cnt_of (h _ (by omega)).symm
  have h4 := hW.c4 hi
  rw [ec, ← h _ (by omega)]
  exact ⟨(hR.2 i hi).1, fun j hj => by rw [← h _ (by omega)]; exact (hR.2 i hi).2 j hj⟩
theorem LR.copy {fe fc fs ge gc gs w : Nat → Int32} (hW : WF w) (hR : LR fe fc fs w) : LR (va_cpy fe ge 0 0 768) (va_cpy fc gc 0 0 192) (va_cpy fs gs 0 0 24) w := by
  have h48 := hW.n48
  refine ⟨fun k hk => by rw [xcpy0_in hk]; exact hR.1 k hk, fun i hi => ?_⟩
  have h4 := hW.c4 hi
  exact ⟨by rw [xcpy0_in (by omega)]; exact (hR.2 i hi).1, fun j hj => by rw [xcpy0_in (by omega)]; exact (hR.2 i hi).2 j hj⟩
