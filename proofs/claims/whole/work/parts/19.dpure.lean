/-! what the class's own methods need, purely -/
theorem LogC_of {g : XG} {ao ae ac au : Nat} {fe fc fs w : Nat → Int32} {zn zg zt zw : Nat} {H : Heap} (h0 : nr w = zn) (h1 : pgN w = zg) (h2 : stN w = zt) (h3 : wrN w = zw) (hP : va_P g.1 vwCl (LogX g ao ae ac au fe fc fs zn zg zt zw) H) : va_P g.1 vwCl (LogC g ao ae ac au fe fc fs w) H := by
  subst h0; subst h1; subst h2; subst h3; exact hP
theorem pgN_of {w w' : Nat → Int32} (h : w' 1 = w 1) : pgN w' = pgN w := by unfold pgN; rw [h]
theorem stN_of {w w' : Nat → Int32} (h : w' 2 = w 2) : stN w' = stN w := by unfold stN; rw [h]
theorem wrN_of {w w' : Nat → Int32} (h : w' 3 = w 3) : wrN w' = wrN w := by unfold wrN; rw [h]
theorem wchB_f1 {x : Int32} (h : x < 0) : wchB x = false := by simp [wchB, Int32.not_le.mpr (show x < nI 0 from h)]
theorem wchB_f2 {x : Int32} (h : ¬ x < nI 24) : wchB x = false := by
  have e1 : (nI 24).toInt = 24 := rfl
  have e2 : (nI 23).toInt = 23 := rfl
  unfold wchB
  rw [decide_eq_false (p := x ≤ nI 23) (by rw [Int32.lt_iff_toInt_lt, e1] at h; rw [Int32.le_iff_toInt_le, e2]; omega), Bool.and_false]
theorem wchB_t {x : Int32} (h : ¬ x < 0) (h2 : x < nI 24) : wchB x = true := by
  have e1 : (nI 24).toInt = 24 := rfl
  have e2 : (nI 23).toInt = 23 := rfl
  unfold wchB
  rw [decide_eq_true (p := x ≤ nI 23) (by rw [Int32.lt_iff_toInt_lt, e1] at h2; rw [Int32.le_iff_toInt_le, e2]; omega), decide_eq_true (p := nI 0 ≤ x) (Int32.not_lt.mp h)]; rfl
theorem sumB_f1 {x : Int32} (h5 : ¬ x = -5) (h : x < 0) : sumB x = false := by simp [sumB, h5, Int32.not_le.mpr (show x < nI 0 from h)]
theorem sumB_f2 {x : Int32} (h5 : ¬ x = -5) (h : nI 9999 < x) : sumB x = false := by simp [sumB, h5, Int32.not_le.mpr h]
theorem sumB_t1 {x : Int32} (h5 : x = -5) : sumB x = true := by simp [sumB, h5]
theorem sumB_t2 {x : Int32} (h : ¬ x < 0) (h2 : x ≤ nI 9999) : sumB x = true := by simp [sumB, h2, show nI 0 ≤ x from Int32.not_lt.mp h]
theorem setV_sm {t : Nat} {y : Int32} (ht : t < 3) : setV (nI t) y = (decide (smin t ≤ y) && decide (y ≤ smax t)) := by
  unfold setV
  rcases (show t = 0 ∨ t = 1 ∨ t = 2 by omega) with rfl | rfl | rfl
  · rw [if_pos (by decide)]; rfl
  · rw [if_neg (by decide), if_pos (by decide)]; rfl
  · rw [if_neg (by decide), if_neg (by decide), if_pos (by decide)]; rfl
theorem setV_f0 {x y : Int32} (h : x < 0) : setV x y = false := by
  unfold setV
  rw [if_neg (fun q => by rw [q] at h; exact absurd h (by decide)), if_neg (fun q => by rw [q] at h; exact absurd h (by decide)), if_neg (fun q => by rw [q] at h; exact absurd h (by decide))]
theorem setV_f3 {x y : Int32} (h : nI 3 ≤ x) : setV x y = false := by
  unfold setV
  rw [if_neg (fun q => by rw [q] at h; exact absurd h (by decide)), if_neg (fun q => by rw [q] at h; exact absurd h (by decide)), if_neg (fun q => by rw [q] at h; exact absurd h (by decide))]
theorem nI_of3 {x : Int32} (h : ¬ x < 0) (h3 : ¬ nI 3 ≤ x) : ∃ t : Nat, t < 3 ∧ x = nI t := by
  obtain ⟨j, hj, rfl⟩ := nI_of h
  exact ⟨j, Nat.lt_of_not_le fun q => h3 (nI_le q hj), rfl⟩
def oldN (zo zh : Nat) : Nat := if zh < 4 then zo else (zo + 1) % 4
section XCP
variable {p : Program} {l : Launch} {e : Env} {R : Room} {s : State} {m : MethodId} {args : Array Value} {below : List Frame} {meth : Method} {c : Code} {H : Heap} {locs : List Loc} {cells slots : Nat} {Q : State → Prop}
variable {cc : ByteArray} {pc : Nat} {ls : Array Slot} {rest : List Value} {g : XG} {nL : Nat} {A : Nat → Prop} {ws : va_W} {H0 : Heap}
theorem xcopy (hF : FX p s m args c cc nL RX3 g) (hls : ls.size = nL) (hP : va_P g.1 vwCl ws H) (hD : va_D A ws) (hS : va_S A H0 H locs) (q0 q1 : Nat) {a b n : Nat} {f h : Nat → Int32} (ha : ws[q0]? = some (a, .inl (g.2.1 0, n, .inl f))) (hb : ws[q1]? = some (b, .inl (g.2.1 0, n, .inl h))) (hn : n < 2147483648) (hR : 1 ≤ R.frames ∧ (rest.map fun v => v.category).sum + (nativeFrameWords "java/lang/System" "arraycopy" 5 + 11) ≤ R.locals) (hdg : decode cc pc = .ok (.invokestatic 232, 3))
    (kk : ∀ (H1 : Heap) (locs1 : List Loc), va_P g.1 vwCl (ws.set q1 (b, .inl (g.2.1 0, n, .inl (va_cpy f h 0 0 n)))) H1 → va_S A H0 H1 locs1 → W p l e R s m args below meth c H1 locs1 cells slots Q (F0 m (pc + 3) ls rest)) : W p l e R s m args below meth c H locs cells slots Q (F0 m pc ls (.int (nI n) :: .int (nI 0) :: .ref b :: .int (nI 0) :: .ref a :: rest)) := by
  have e0 : (nI 0).toNatClampNeg = 0 := rfl
  have en : (nI n).toNatClampNeg = n := nI_clamp hn
  refine va_copyi hF.1.1 hF.1.2.1 (hF.1.2.2.1.trans hls.symm) hF.1.2.2.2.1 (hF.1.2.2.2.2 _ q_94) (hF.1.2.2.2.2 _ q_95) (hF.1.2.2.2.2 _ q_96) (hF.1.2.2.2.2 _ q_97) hF.2.1 hP hD hS q0 q1 0 0 (ty := .int) ha hb rfl rfl rfl (nI_pos (by decide)) (nI_pos (by decide)) (nI_pos hn) (by rw [e0, en]; omega) (by rw [e0, en]; omega) (fun i _ => rfl) hR.1 hR.2 hdg (fun H1 l1 h1 _ h3 => kk H1 l1 ?_ h3)
  rw [e0, en] at h1
  exact h1
end XCP
theorem xin_AB {P : Nat → Prop} {L0 L1 : List Nat} (h : ∀ q, xin L0 q → P q) (is : List Nat) (hs : is.filterMap (fun i => L0[i]?) = L1) : ∀ q, xin L1 q → P q := fun q hq => h q (xin_sub is hs q hq)
/-- a part of a world, over its own addresses -/
theorem va_D.self2 {A : Nat → Prop} {ws ws' : va_W} (hD : va_D A ws) (is : List Nat) (hn : va_nd is = true) (hs : is.map (fun i => ws[i]?) = ws'.map some) : va_D (xin (ws'.map Prod.fst)) ws' := (hD.sub is hn hs).weaken (fun _ _ hk _ => List.mem_map_of_mem (List.mem_of_getElem? hk))
abbrev rmC : Room := { frames := 1, cells := 0, slots := 0, locals := nativeFrameWords "java/lang/System" "arraycopy" 5 + 30 }
abbrev rmC2 : Room := { frames := 2, cells := 0, slots := 0, locals := nativeFrameWords "java/lang/System" "arraycopy" 5 + 60 }
abbrev rmK (d : Nat) : Room := { frames := d, cells := 0, slots := 0, locals := nativeFrameWords "java/lang/System" "arraycopy" 5 + 30 * d }
def corA2 (w : Nat → Int32) (x y z : Int32) : Int32 := if rowB w x && colB y then (if entB y.toNatClampNeg z then (if cnt w (4 * x.toNatClampNeg + y.toNatClampNeg) = 4 then -3 else if lat w x.toNatClampNeg y.toNatClampNeg = z then -5 else nI (chg w x.toNatClampNeg y.toNatClampNeg z)) else -2) else -1
def tkbA2 (w : Nat → Int32) (x y : Int32) : Int32 := if rowB w x && colB y then (if cnt w (4 * x.toNatClampNeg + y.toNatClampNeg) = 1 then -4 else nI (chg w x.toNatClampNeg y.toNatClampNeg (w (29 + 5 * (4 * x.toNatClampNeg + y.toNatClampNeg) + (cnt w (4 * x.toNatClampNeg + y.toNatClampNeg) - 2))))) else -1
def wldA2 (w : Nat → Int32) (x y z : Int32) : Int32 := if rowB w x && colB y then (if entB y.toNatClampNeg z then nI (chg w x.toNatClampNeg y.toNatClampNeg z) else -2) else -1
theorem stg_le {w : Nat → Int32} (h : WF w) : ∀ k, stg w k ≤ 12
  | 0 => h.pg12
  | 1 => Nat.le_trans h.st1 (by decide)
  | _ + 2 => Nat.le_trans h.wr6 (by decide)
theorem xlog7 {g : XG} {X : va_W} {ao ae ac au : Nat} {fe fc fs w w2 : Nat → Int32} {H : Heap} (hP : va_P g.1 vwCl (X ++ LogC g ao ae ac au fe fc fs w) H) (h0 : nr w2 = nr w) (h1 : pgN w2 = pgN w) (h2 : stN w2 = stN w) (h3 : wrN w2 = wrN w) : va_P g.1 vwCl (X ++ LogC g ao ae ac au fe fc fs w2) H := by
  have e : LogC g ao ae ac au fe fc fs w2 = LogC g ao ae ac au fe fc fs w := by unfold LogC; rw [h0, h1, h2, h3]
  rw [e]; exact hP
