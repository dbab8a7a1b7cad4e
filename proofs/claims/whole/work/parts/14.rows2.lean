/-! loops, methods that change cells, and more of what is read off the row of numbers -/
theorem xloop {α : Type} (I : α → Array Slot → Prop) (μ : α → Nat) {goal : Array Slot → Prop} (step : ∀ (a : α) (ls : Array Slot), I a ls → (∀ (b : α) (ls' : Array Slot), I b ls' → μ b < μ a → goal ls') → goal ls) (a : α) (ls : Array Slot) (h : I a ls) : goal ls := by
  have key : ∀ (n : Nat) (a : α) (ls : Array Slot), μ a < n → I a ls → goal ls := by
    intro n
    induction n with
    | zero => intro a ls h; exact absurd h (Nat.not_lt_zero _)
    | succ n ih => intro a ls h1 h2; exact step a ls h2 (fun b ls' h3 h4 => ih b ls' (by omega) h3)
  exact key (μ a + 1) a ls (Nat.lt_succ_self _) h
theorem xloopM {α : Type} (I : α → Array Slot → Heap → List Loc → Prop) (μ : α → Nat) {goal : Array Slot → Heap → List Loc → Prop} (step : ∀ (a : α) (ls : Array Slot) (H : Heap) (locs : List Loc), I a ls H locs → (∀ (b : α) (ls' : Array Slot) (H' : Heap) (locs' : List Loc), I b ls' H' locs' → μ b < μ a → goal ls' H' locs') → goal ls H locs) (a : α) (ls : Array Slot) (H : Heap) (locs : List Loc) (h : I a ls H locs) : goal ls H locs := by
  have key : ∀ (n : Nat) (a : α) (ls : Array Slot) (H : Heap) (locs : List Loc), μ a < n → I a ls H locs → goal ls H locs := by
    intro n
    induction n with
    | zero => intro a ls H locs h; exact absurd h (Nat.not_lt_zero _)
    | succ n ih => intro a ls H locs h1 h2; exact step a ls H locs h2 (fun b ls' H' locs' h3 h4 => ih b ls' H' locs' (by omega) h3)
  exact key (μ a + 1) a ls H locs (Nat.lt_succ_self _) h
theorem xMetM {l : Launch} {g : XG} {y : MethodName} {cc : ByteArray} {maxL mc ms : Nat} {ret : Option FieldType} {rm : Room} {Qc : Array Value → State → Outcome → State → Prop} {free : Addr → Prop} {As : List Value} {hp : Heap → Prop} {own : String} (hy : plainName y.cls = true) (hyc : y.cls = own) (hsz : (lg_sl As).length ≤ maxL)
    (body : ∀ (p : Program) (e : Env) (s : State) (m : MethodId) (below : List Frame) (meth : Method) (c : Code) (ls : Array Slot) (H : Heap) (locs : List Loc), FX p s m As.toArray c cc maxL own g → ZS g s s.heap → hp H → va_S free s.heap H locs → meth.sig.returnType = ret → meth.locks = false → (y.name = "<init>" → meth.name = "<init>") → lv_has ls maxL (lv_args 0 As) → W p l e rm s m As.toArray below meth c H locs 0 0 (MQ below Qc As.toArray s mc ms free) (F0 m 0 ls [])) : Met l y (ww y cc maxL ret) rm (xP g As hp) Qc mc ms free :=
  xMet hy hyc hsz (fun p e s m below meth c ls hF hZ hh hr hlocks hin hl => body p e s m below meth c ls s.heap [] hF hZ hh va_S.rf hr hlocks hin hl)
theorem va_D_eq {A : Nat → Prop} {ws ws' : va_W} (h : ws.map Prod.fst = ws'.map Prod.fst) (hD : va_D A ws) : va_D A ws' := by
  have key : ∀ (k : Nat) (q : Nat × va_E), ws'[k]? = some q → ∃ q0, ws[k]? = some q0 ∧ q0.1 = q.1 := by
    intro k q hk
    have h1 : (ws'.map Prod.fst)[k]? = some q.1 := by rw [List.getElem?_map, hk]; rfl
    rw [← h, List.getElem?_map] at h1
    cases hq : ws[k]? with
    | none => rw [hq] at h1; cases h1
    | some q0 => rw [hq] at h1; exact ⟨q0, rfl, Option.some.inj h1⟩
  refine ⟨fun i j p q hi hj hpq => ?_, fun k q hk => ?_⟩
  · obtain ⟨p0, h1, h2⟩ := key i p hi
    obtain ⟨q0, h3, h4⟩ := key j q hj
    exact hD.1 i j p0 q0 h1 h3 (h2.trans (hpq.trans h4.symm))
  · obtain ⟨q0, h1, h2⟩ := key k q hk
    rw [← h2]; exact hD.2 k q0 h1
abbrev LogC (g : XG) (ao ae ac au : Nat) (fe fc fs w : Nat → Int32) : va_W := [(ao, .inr (1, [.ref ae, .ref ac, .ref au, .int (nI (nr w)), .int (nI (pgN w)), .int (nI (stN w)), .int (nI (wrN w))])), (ae, .inl (g.2.1 0, 768, .inl fe)), (ac, .inl (g.2.1 0, 192, .inl fc)), (au, .inl (g.2.1 0, 24, .inl fs))]
def colB (x : Int32) : Bool := decide (0 ≤ x) && decide (x < 4)
def rowB (w : Nat → Int32) (x : Int32) : Bool := decide (0 ≤ x) && decide (x < nI (nr w))
def entB (k : Nat) (x : Int32) : Bool := x == -5 || (x == -6 || (decide (0 ≤ x) && decide (x ≤ cmax k)))
theorem colB_iff {x : Int32} : colB x = true ↔ ∃ k : Nat, k < 4 ∧ x = nI k := by
  unfold colB
  rw [Bool.and_eq_true, decide_eq_true_eq, decide_eq_true_eq]
  constructor
  · rintro ⟨h1, h2⟩
    obtain ⟨j, hj, rfl⟩ := nI_of (Int32.not_lt.mpr h1)
    exact ⟨j, (nI_ltI hj (by decide)).mp (show nI j < nI 4 from h2), rfl⟩
  · rintro ⟨k, hk, rfl⟩
    exact ⟨nI_pos' (by omega), show nI k < nI 4 from nI_lt hk (by decide)⟩
theorem rowB_iff {w : Nat → Int32} (hW : WF w) {x : Int32} : rowB w x = true ↔ ∃ r : Nat, r < nr w ∧ x = nI r := by
  have h48 := hW.n48
  unfold rowB
  rw [Bool.and_eq_true, decide_eq_true_eq, decide_eq_true_eq]
  constructor
  · rintro ⟨h1, h2⟩
    obtain ⟨j, hj, rfl⟩ := nI_of (Int32.not_lt.mpr h1)
    exact ⟨j, (nI_ltI hj (by omega)).mp h2, rfl⟩
  · rintro ⟨k, hk, rfl⟩
    exact ⟨nI_pos' (by omega), nI_lt hk (by omega)⟩
theorem entB_iff {k : Nat} {x : Int32} : entB k x = true ↔ EntOk k x := by
  have := cmN_le k
  unfold entB EntOk
  rw [Bool.or_eq_true, Bool.or_eq_true, Bool.and_eq_true, decide_eq_true_eq, decide_eq_true_eq, beq_iff_eq, beq_iff_eq, cmax_N]
  constructor
  · rintro (h | h | ⟨h1, h2⟩)
    · exact Or.inl h
    · exact Or.inr (Or.inl h)
    · obtain ⟨j, hj, rfl⟩ := nI_of (Int32.not_lt.mpr h1)
      exact Or.inr (Or.inr ⟨j, (nI_leI hj (by omega)).mp h2, rfl⟩)
  · rintro (h | h | ⟨v, hv, rfl⟩)
    · exact Or.inl h
    · exact Or.inr (Or.inl h)
    · exact Or.inr (Or.inr ⟨nI_pos' (by omega), nI_le hv (by omega)⟩)
def mwI (w : Nat → Int32) (r k : Nat) (x : Int32) : Int32 := if x = -6 then (if abvB w r then mean w (r - 1) k else -5) else x
def chg (w : Nat → Int32) (r k : Nat) (x : Int32) : Nat := if mwI w r k x = mean w r k then 0 else 1 + (stop w k (r + 1) - 1 - r)
def wrB (w : Nat → Int32) (r : Nat) : Bool := wr4 w r 4
theorem wr4_false {w : Nat → Int32} {r j : Nat} (h : lat w r j < 0) : ∀ n, j < n → wr4 w r n = false
  | 0, hn => absurd hn (Nat.not_lt_zero _)
  | n + 1, hn => by
    rw [wr4, Bool.and_eq_false_iff]
    by_cases hj : j = n
    · subst hj
      exact Or.inr (decide_eq_false (Int32.not_le.mpr h))
    · exact Or.inl (wr4_false h n (by omega))
theorem xz_t {b : Bool} (h : b = true) : nI 1 = xz b := by subst h; rfl
theorem xz_f {b : Bool} (h : b = false) : nI 0 = xz b := by subst h; rfl
theorem colB_f1 {x : Int32} (h : x < 0) : colB x = false := by simp [colB, Int32.not_le.mpr h]
theorem colB_f2 {x : Int32} (h : nI 4 ≤ x) : colB x = false := by simp [colB, Int32.not_lt.mpr (show (4 : Int32) ≤ x from h)]
theorem colB_t {x : Int32} (h : ¬ x < 0) (h2 : ¬ nI 4 ≤ x) : colB x = true := by simp [colB, Int32.not_lt.mp h, Int32.not_le.mp (show ¬ (4 : Int32) ≤ x from h2)]
theorem rowB_f1 {w : Nat → Int32} {x : Int32} (h : x < 0) : rowB w x = false := by simp [rowB, Int32.not_le.mpr h]
theorem rowB_f2 {w : Nat → Int32} {x : Int32} (h : nI (nr w) ≤ x) : rowB w x = false := by simp [rowB, Int32.not_lt.mpr h]
theorem rowB_t {w : Nat → Int32} {x : Int32} (h : ¬ x < 0) (h2 : ¬ nI (nr w) ≤ x) : rowB w x = true := by simp [rowB, Int32.not_lt.mp h, Int32.not_le.mp h2]
theorem entB_t1 {k : Nat} {x : Int32} (h : x = -5) : entB k x = true := by simp [entB, h]
theorem entB_t2 {k : Nat} {x : Int32} (h : x = -6) : entB k x = true := by simp [entB, h]
theorem entB_t3 {k : Nat} {x : Int32} (h : ¬ x < 0) (h2 : ¬ cmax k < x) : entB k x = true := by simp [entB, Int32.not_lt.mp h, Int32.not_lt.mp h2]
theorem entB_f1 {k : Nat} {x : Int32} (h5 : ¬ x = -5) (h6 : ¬ x = -6) (h : x < 0) : entB k x = false := by simp [entB, h5, h6, Int32.not_le.mpr h]
theorem entB_f2 {k : Nat} {x : Int32} (h5 : ¬ x = -5) (h6 : ¬ x = -6) (h : cmax k < x) : entB k x = false := by simp [entB, h5, h6, Int32.not_le.mpr h]
