/-! methods that change cells: which cells, and what stands behind a call -/
def xin (L : List Nat) : Nat → Prop := fun q => q ∈ L
theorem xin_sub {L0 L1 : List Nat} (is : List Nat) (h : is.filterMap (fun i => L0[i]?) = L1) : ∀ q, xin L1 q → xin L0 q := by
  intro q hq
  subst h
  obtain ⟨i, -, hi⟩ := List.mem_filterMap.mp hq
  exact List.mem_of_getElem? hi
/-- behind a call: what the callee's cells are now, and the rest as it was -/
theorem xjoin {D : va_G} {cl : List vw_C} {A0 : Nat → Prop} {L1 : List Nat} {ws ws' w1 : va_W} {H H1 : Heap} (hP : va_P D cl ws H) (hD : va_D A0 ws) (h1 : va_P D cl w1 H1) (hk : ∀ q : Nat, q < H.size → ¬ xin L1 q → H1[q]? = H[q]?) (isC : List Nat) (ps : List (Bool × Nat)) (hC : isC.filterMap (fun i => (ws[i]?).map Prod.fst) = L1) (hn : ps.all (fun p => p.1 || !(isC.contains p.2)) = true) (hw : ps.map (fun p => if p.1 then w1[p.2]? else ws[p.2]?) = ws'.map some) : va_P D cl ws' H1 := by
  intro k q hq
  have h2 : (ps.map (fun p => if p.1 then w1[p.2]? else ws[p.2]?))[k]? = some (some q) := by rw [hw, List.getElem?_map, hq]; rfl
  rw [List.getElem?_map] at h2
  cases hp : ps[k]? with
  | none => rw [hp] at h2; cases h2
  | some p =>
    rw [hp] at h2
    have h3 : (if p.1 then w1[p.2]? else ws[p.2]?) = some q := Option.some.inj h2
    have h4 := List.all_eq_true.mp hn p (List.mem_of_getElem? hp)
    cases hb : p.1 with
    | true => rw [hb] at h3; exact h1 _ q h3
    | false =>
      rw [hb] at h3 h4
      have h3 : ws[p.2]? = some q := h3
      refine (hP _ q h3).kept (hk q.1 (hP _ q h3).lt fun hx => ?_)
      rw [← hC] at hx
      obtain ⟨i, hi, hi2⟩ := List.mem_filterMap.mp hx
      cases hwi : ws[i]? with
      | none => rw [hwi] at hi2; cases hi2
      | some q2 =>
        rw [hwi] at hi2
        have e : q2.1 = q.1 := Option.some.inj hi2
        have hij := hD.1 i p.2 q2 q hwi h3 e
        subst hij
        rw [Bool.false_or, Bool.not_eq_true'] at h4
        have : isC.contains p.2 = true := List.contains_iff_mem.mpr hi
        rw [this] at h4; cases h4
theorem xcpy_step {f h : Nat → Int32} {s t n : Nat} : upd (va_cpy f h s t n) (t + n) (f (s + n)) = va_cpy f h s t (n + 1) := by
  funext j
  unfold upd va_cpy
  by_cases h1 : j = t + n
  · subst h1
    rw [if_pos rfl, if_pos ⟨by omega, by omega⟩, show s + (t + n - t) = s + n by omega]
  · rw [if_neg h1]
    by_cases h2 : t ≤ j ∧ j < t + n
    · rw [if_pos h2, if_pos ⟨h2.1, by omega⟩]
    · rw [if_neg h2, if_neg (fun q => h2 ⟨q.1, by omega⟩)]
theorem xcpy_0 {f h : Nat → Int32} {s t : Nat} : va_cpy f h s t 0 = h := by
  funext j
  unfold va_cpy
  rw [if_neg (by omega)]
/-- the first n entries moved down by d -/
def xdown (f : Nat → Int32) (d n : Nat) : Nat → Int32 := fun j => if j < n then f (j + d) else f j
theorem xdown_0 (f : Nat → Int32) (d : Nat) : xdown f d 0 = f := by
  funext j; unfold xdown; rw [if_neg (Nat.not_lt_zero j)]
theorem xdown_step {f : Nat → Int32} {d n : Nat} (hd : 0 < d) : upd (xdown f d n) n (xdown f d n (n + d)) = xdown f d (n + 1) := by
  funext j
  unfold upd xdown
  by_cases h1 : j = n
  · subst h1
    rw [if_pos rfl, if_neg (by omega), if_pos (by omega)]
  · rw [if_neg h1]
    by_cases h2 : j < n
    · rw [if_pos h2, if_pos (by omega)]
    · rw [if_neg h2, if_neg (by omega)]
def xzero (f : Nat → Int32) (a n : Nat) : Nat → Int32 := fun j => if a ≤ j ∧ j < a + n then 0 else f j
theorem xzero_0 (f : Nat → Int32) (a : Nat) : xzero f a 0 = f := by
  funext j; unfold xzero; rw [if_neg (by omega)]
theorem xzero_step {f : Nat → Int32} {a i : Nat} (h : a ≤ i) : upd (xzero f a (i - a)) i 0 = xzero f a (i + 1 - a) := by
  funext j
  unfold upd xzero
  by_cases h1 : j = i
  · subst h1
    rw [if_pos rfl, if_pos ⟨h, by omega⟩]
  · rw [if_neg h1]
    by_cases h2 : a ≤ j ∧ j < a + (i - a)
    · rw [if_pos h2, if_pos ⟨h2.1, by omega⟩]
    · rw [if_neg h2, if_neg (fun q => h2 ⟨q.1, by omega⟩)]
abbrev ModW (g : XG) (mo mn mp mq mt mm md zs zl zp zr : Nat) (zk : Bool) (w pa sn tx me td : Nat → Int32) : va_W := [ModO mo mn mp mq mt mm md zs zl zp zr zk, (mn, .inl (g.2.1 0, 988, .inl w)), (mp, .inl (g.2.1 0, 3952, .inl pa)), (mq, .inl (g.2.1 0, 988, .inl sn)), (mt, .inl (g.2.1 1, 60, .inl tx)), (mm, .inl (g.2.1 0, 48, .inl me)), (md, .inl (g.2.1 0, 40, .inl td))]
abbrev MF (mo mn mp mq mt mm md : Nat) : Nat → Prop := xin [mo, mn, mp, mq, mt, mm, md]
/-- how the row of numbers changes -/
def cmsW (w : Nat → Int32) (r k : Nat) (x : Int32) : Nat → Int32 := upd (upd w (28 + 5 * (4 * r + k)) (nI 1)) (28 + 5 * (4 * r + k) + 1) x
def addW (w : Nat → Int32) (a b c d : Int32) : Nat → Int32 := upd (cmsW (cmsW (cmsW (cmsW w (nr w) 0 a) (nr w) 1 b) (nr w) 2 c) (nr w) 3 d) 0 (nI (nr w + 1))
def remW (w : Nat → Int32) : Nat → Int32 := xzero (upd w 0 (nI (nr w - 1))) (28 + 5 * (4 * (nr w - 1))) 20
def corW (w : Nat → Int32) (r k : Nat) (x : Int32) : Nat → Int32 := upd (upd w (28 + 5 * (4 * r + k)) (nI (cnt w (4 * r + k) + 1))) (28 + 5 * (4 * r + k) + (cnt w (4 * r + k) + 1)) x
def tkbW (w : Nat → Int32) (r k : Nat) : Nat → Int32 := upd (upd w (28 + 5 * (4 * r + k) + cnt w (4 * r + k)) 0) (28 + 5 * (4 * r + k)) (nI (cnt w (4 * r + k) - 1))
/-- the states that the history holds: the next one's place, and the row of all -/
def recS (zs : Nat) : Nat := if zs = 4 then 3 else zs
def recP (w pa : Nat → Int32) (zs : Nat) : Nat → Int32 := va_cpy w (if zs = 4 then xdown pa 988 2964 else pa) 0 (988 * recS zs) 988
theorem xcpy0_step {f h : Nat → Int32} {n : Nat} : upd (va_cpy f h 0 0 n) n (f n) = va_cpy f h 0 0 (n + 1) := by
  have := xcpy_step (f := f) (h := h) (s := 0) (t := 0) (n := n)
  rwa [Nat.zero_add] at this
theorem xcpy0_in {f h : Nat → Int32} {n j : Nat} (hj : j < n) : va_cpy f h 0 0 n j = f j := by
  unfold va_cpy
  rw [if_pos ⟨Nat.zero_le _, by omega⟩, Nat.zero_add, Nat.sub_zero]
theorem cmsW_lo {w : Nat → Int32} {r k j : Nat} {x : Int32} (h : j < 28 + 5 * (4 * r + k)) : cmsW w r k x j = w j := by
  unfold cmsW upd
  rw [if_neg (by omega), if_neg (by omega)]
theorem ctR_cong {p q : Nat → Bool} {a : Nat} : ∀ {n : Nat}, (∀ j, j < n → p (a + j) = q (a + j)) → ctR p a n = ctR q a n
  | 0, _ => rfl
  | n + 1, h => by rw [ctR, ctR, ctR_cong (fun j hj => h j (by omega)), h n (by omega)]
def wldW (w : Nat → Int32) (r k : Nat) (x : Int32) : Nat → Int32 := upd w (28 + 5 * (4 * r + k) + cnt w (4 * r + k)) x
def othN (w w' : Nat → Int32) (k : Nat) : Nat := ctR (fun i9 => !(mean w' i9 k == mean w i9 k)) 0 (nr w)
theorem upd_at (f : Nat → Int32) (k : Nat) (x : Int32) : upd f k x k = x := by unfold upd; rw [if_pos rfl]
theorem upd_off {f : Nat → Int32} {k j : Nat} {x : Int32} (h : j ≠ k) : upd f k x j = f j := by unfold upd; rw [if_neg h]
theorem upd_back {f : Nat → Int32} {k : Nat} {x v : Int32} (h : f k = v) : upd (upd f k x) k v = f := by
  funext j; unfold upd; split
  · next e => rw [e, h]
  · rfl
theorem upd_upd {f : Nat → Int32} {k : Nat} {x v : Int32} : upd (upd f k x) k v = upd f k v := by
  funext j; unfold upd; split <;> rfl
/-- the acts: whether they go through, and their answers -/
def addB (w : Nat → Int32) (a b c d : Int32) : Bool := entB 0 a && (entB 1 b && (entB 2 c && (entB 3 d && !(nr w == 48))))
def addA (w : Nat → Int32) (a b c d : Int32) : Int32 := if entB 0 a && (entB 1 b && (entB 2 c && entB 3 d)) then (if nr w = 48 then -3 else nI (nr w)) else -2
def remA (w : Nat → Int32) : Int32 := if nr w = 0 then -4 else nI (nr w - 1)
def corB (w : Nat → Int32) (x y z : Int32) : Bool := (rowB w x && colB y) && (entB y.toNatClampNeg z && (!(cnt w (4 * x.toNatClampNeg + y.toNatClampNeg) == 4) && !(lat w x.toNatClampNeg y.toNatClampNeg == z)))
def corA (w : Nat → Int32) (x y z : Int32) : Int32 := if rowB w x && colB y then (if entB y.toNatClampNeg z then (if cnt w (4 * x.toNatClampNeg + y.toNatClampNeg) = 4 then -3 else if lat w x.toNatClampNeg y.toNatClampNeg = z then -5 else nI (othN w (corW w x.toNatClampNeg y.toNatClampNeg z) y.toNatClampNeg)) else -2) else -1
def tkbB (w : Nat → Int32) (x y : Int32) : Bool := (rowB w x && colB y) && !(cnt w (4 * x.toNatClampNeg + y.toNatClampNeg) == 1)
def tkbA (w : Nat → Int32) (x y : Int32) : Int32 := if rowB w x && colB y then (if cnt w (4 * x.toNatClampNeg + y.toNatClampNeg) = 1 then -4 else nI (othN w (tkbW w x.toNatClampNeg y.toNatClampNeg) y.toNatClampNeg)) else -1
def wldA (w : Nat → Int32) (x y z : Int32) : Int32 := if rowB w x && colB y then (if entB y.toNatClampNeg z then nI (othN w (wldW w x.toNatClampNeg y.toNatClampNeg z) y.toNatClampNeg) else -2) else -1
def wchB (x : Int32) : Bool := decide (nI 0 ≤ x) && decide (x ≤ nI 23)
def sumB (x : Int32) : Bool := x == -5 || (decide (nI 0 ≤ x) && decide (x ≤ nI 9999))
def clmB (w : Nat → Int32) (x y : Int32) : Bool := wchB x && (sumB y && !(w (4 + x.toNatClampNeg) == y))
def clmA (w : Nat → Int32) (x y : Int32) : Int32 := if wchB x then (if sumB y then (if w (4 + x.toNatClampNeg) = y then -5 else w (4 + x.toNatClampNeg) + nI 10000) else -2) else -1
def clmW (w : Nat → Int32) (t : Nat) (x : Int32) : Nat → Int32 := upd w (4 + t) x
def setV (x y : Int32) : Bool := if x = 0 then decide (nI 4 ≤ y) && decide (y ≤ nI 12) else if x = 1 then decide (nI 0 ≤ y) && decide (y ≤ nI 1) else if x = 2 then decide (nI 2 ≤ y) && decide (y ≤ nI 6) else false
def setB (w : Nat → Int32) (x y : Int32) : Bool := setV x y && !(w (1 + x.toNatClampNeg) == y)
def setA (w : Nat → Int32) (x y : Int32) : Int32 := if setV x y then (if w (1 + x.toNatClampNeg) = y then -5 else w (1 + x.toNatClampNeg)) else -2
def setW (w : Nat → Int32) (t : Nat) (x : Int32) : Nat → Int32 := upd w (1 + t) x
theorem wchB_iff {x : Int32} : wchB x = true ↔ ∃ t : Nat, t < 24 ∧ x = nI t := by
  unfold wchB
  rw [Bool.and_eq_true, decide_eq_true_eq, decide_eq_true_eq]
  constructor
  · rintro ⟨h1, h2⟩
    obtain ⟨j, hj, rfl⟩ := nI_of (x := x) (Int32.not_lt.mpr h1)
    exact ⟨j, Nat.lt_succ_of_le ((nI_leI hj (by decide)).mp h2), rfl⟩
  · rintro ⟨t, ht, rfl⟩
    exact ⟨nI_pos' (by omega), nI_le (by omega) (by decide)⟩
theorem sumB_iff {x : Int32} : sumB x = true ↔ SumOk x := by
  unfold sumB SumOk
  rw [Bool.or_eq_true, beq_iff_eq, Bool.and_eq_true, decide_eq_true_eq, decide_eq_true_eq]
  constructor
  · rintro (h | ⟨h1, h2⟩)
    · exact Or.inl h
    · obtain ⟨j, hj, rfl⟩ := nI_of (x := x) (Int32.not_lt.mpr h1)
      exact Or.inr ⟨j, (nI_leI hj (by decide)).mp h2, rfl⟩
  · rintro (h | ⟨v, hv, rfl⟩)
    · exact Or.inl h
    · exact Or.inr ⟨nI_pos' (by omega), nI_le hv (by decide)⟩
theorem setV_3 {x y : Int32} (h : setV x y = true) : ∃ t : Nat, t < 3 ∧ x = nI t := by
  unfold setV at h
  by_cases h0 : x = 0
  · exact ⟨0, by decide, h0⟩
  by_cases h1 : x = 1
  · exact ⟨1, by decide, h1⟩
  by_cases h2 : x = 2
  · exact ⟨2, by decide, h2⟩
  rw [if_neg h0, if_neg h1, if_neg h2] at h
  exact absurd h (by decide)
/-- what changes keep the shape -/
theorem nr_of {w w' : Nat → Int32} (h : w' 0 = w 0) : nr w' = nr w := by unfold nr; rw [h]
theorem cnt_of {w w' : Nat → Int32} {i : Nat} (h : w' (28 + 5 * i) = w (28 + 5 * i)) : cnt w' i = cnt w i := by unfold cnt; rw [h]
/-- a cell's entries are written anew: its count q and its entries are right -/
theorem WF.cell {w w' : Nat → Int32} (hW : WF w) {i q : Nat} (hi : i < 4 * nr w) (hlo : ∀ j, j < 28 → w' j = w j) (hoff : ∀ j, (j < 28 + 5 * i ∨ 28 + 5 * i + 5 ≤ j) → w' j = w j) (hq : w' (28 + 5 * i) = nI q) (h1 : 1 ≤ q) (h4 : q ≤ 4) (he : ∀ j, j < q → EntOk (i % 4) (w' (29 + 5 * i + j))) : WF w' := by
  have en : nr w' = nr w := nr_of (hlo 0 (by omega))
  have e1 : pgN w' = pgN w := by unfold pgN; rw [hlo 1 (by omega)]
  have e2 : stN w' = stN w := by unfold stN; rw [hlo 2 (by omega)]
  have e3 : wrN w' = wrN w := by unfold wrN; rw [hlo 3 (by omega)]
  refine ⟨⟨by rw [hlo 0 (by omega), en]; exact hW.r0, by rw [en]; exact hW.n48⟩, ⟨by rw [hlo 1 (by omega), e1]; exact hW.r1, by rw [e1]; exact hW.pg4, by rw [e1]; exact hW.pg12⟩, ⟨by rw [hlo 2 (by omega), e2]; exact hW.r2, by rw [e2]; exact hW.st1⟩, ⟨by rw [hlo 3 (by omega), e3]; exact hW.r3, by rw [e3]; exact hW.wr2, by rw [e3]; exact hW.wr6⟩, fun k hk => by rw [hlo (4 + k) (by omega)]; exact hW.sum hk, fun i' hi' => ?_⟩
  rw [en] at hi'
  by_cases hii : i' = i
  · subst hii
    have ec : cnt w' i' = q := by unfold cnt; rw [hq]; exact nI_clamp (by omega)
    rw [ec]
    exact ⟨⟨hq, h1, h4⟩, he⟩
  · have ec : cnt w' i' = cnt w i' := cnt_of (hoff _ (by omega))
    rw [ec]
    refine ⟨⟨by rw [hoff _ (by omega)]; exact hW.c hi', hW.c1 hi', hW.c4 hi'⟩, fun j hj => ?_⟩
    have := hW.c4 hi'
    rw [hoff _ (by omega)]
    exact hW.ent hi' hj
theorem WF.cor {w : Nat → Int32} (hW : WF w) {r k : Nat} {x : Int32} (hk : k < 4) (hr : r < nr w) (hx : EntOk k x) (hc : cnt w (4 * r + k) < 4) : WF (corW w r k x) := by
  have h1 := hW.c1 (i := 4 * r + k) (by omega)
  refine hW.cell (i := 4 * r + k) (q := cnt w (4 * r + k) + 1) (by omega) (fun j hj => ?_) (fun j hj => ?_) ?_ (by omega) (by omega) (fun j hj => ?_)
  · unfold corW; rw [upd_off (by omega), upd_off (by omega)]
  · unfold corW; rw [upd_off (by omega), upd_off (by omega)]
  · unfold corW; rw [upd_off (by omega), upd_at]
  · unfold corW
    by_cases hj2 : j = cnt w (4 * r + k)
    · subst hj2
      rw [show 29 + 5 * (4 * r + k) + cnt w (4 * r + k) = 28 + 5 * (4 * r + k) + (cnt w (4 * r + k) + 1) by omega, upd_at, show (4 * r + k) % 4 = k by omega]
      exact hx
    · rw [upd_off (by omega), upd_off (by omega)]
      exact hW.ent (by omega) (by omega)
theorem WF.tkb {w : Nat → Int32} (hW : WF w) {r k : Nat} (hk : k < 4) (hr : r < nr w) (hc : cnt w (4 * r + k) ≠ 1) : WF (tkbW w r k) := by
  have h1 := hW.c1 (i := 4 * r + k) (by omega)
  have h4 := hW.c4 (i := 4 * r + k) (by omega)
  refine hW.cell (i := 4 * r + k) (q := cnt w (4 * r + k) - 1) (by omega) (fun j hj => ?_) (fun j hj => ?_) ?_ (by omega) (by omega) (fun j hj => ?_)
  · unfold tkbW; rw [upd_off (by omega), upd_off (by omega)]
  · unfold tkbW; rw [upd_off (by omega), upd_off (by omega)]
  · unfold tkbW; rw [upd_at]
  · unfold tkbW
    rw [upd_off (by omega), upd_off (by omega)]
    exact hW.ent (by omega) (by omega)
theorem WF.wld {w : Nat → Int32} (hW : WF w) {r k : Nat} {x : Int32} (hk : k < 4) (hr : r < nr w) (hx : EntOk k x) : WF (wldW w r k x) := by
  have h1 := hW.c1 (i := 4 * r + k) (by omega)
  have h4 := hW.c4 (i := 4 * r + k) (by omega)
  refine hW.cell (i := 4 * r + k) (q := cnt w (4 * r + k)) (by omega) (fun j hj => ?_) (fun j hj => ?_) ?_ (by omega) (by omega) (fun j hj => ?_)
  · unfold wldW; rw [upd_off (by omega)]
  · unfold wldW; rw [upd_off (by omega)]
  · unfold wldW; rw [upd_off (by omega)]; exact hW.c (by omega)
  · unfold wldW
    by_cases hj2 : 29 + 5 * (4 * r + k) + j = 28 + 5 * (4 * r + k) + cnt w (4 * r + k)
    · rw [hj2, upd_at, show (4 * r + k) % 4 = k by omega]; exact hx
    · rw [upd_off hj2]
      exact hW.ent (by omega) hj
