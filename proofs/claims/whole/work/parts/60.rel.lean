/-! the relation between the class's cells and the reference's -/
def xup {α : Type} (f : Nat → α) (r : Nat) (v : α) : Nat → α := fun j => if j = r then v else f j
theorem xup_at {α : Type} (f : Nat → α) (r : Nat) (v : α) : xup f r v r = v := if_pos rfl
theorem xup_off {α : Type} {f : Nat → α} {r j : Nat} {v : α} (h : j ≠ r) : xup f r v j = f j := if_neg h
/-- the addresses: 0 dd, 1 ho, 2 ha, 3 ao, 4 ae, 5 ac, 6 au, 7 bo, 8 be, 9 bc, 10 bu, 11 xo, 12 xc, 13 xl, 14 ta, 15 mo, 16 mn, 17 mp, 18 mq, 19 mt, 20 mm, 21 md; 30 + j, 40 + j, 50 + j, 60 + j: slot j -/
abbrev SX (g : XG) (a : Nat → Nat) (j : Nat) (he hc hs : Nat → Nat → Int32) (yn yg yt yw : Nat → Nat) : va_W := [(a (30 + j), .inr (1, [.ref (a (40 + j)), .ref (a (50 + j)), .ref (a (60 + j)), .int (nI (yn j)), .int (nI (yg j)), .int (nI (yt j)), .int (nI (yw j))])), (a (40 + j), .inl (g.2.1 0, 768, .inl (he j))), (a (50 + j), .inl (g.2.1 0, 192, .inl (hc j))), (a (60 + j), .inl (g.2.1 0, 24, .inl (hs j)))]
abbrev WY (g : XG) (a : Nat → Nat) (zo zh zs zn zl zp zr xr un ug ut uw : Nat) (zq zk : Bool) (sl : Nat → Option Nat) (fe fc fs ge gc gs v w pa sn ty tx me td cl tl : Nat → Int32) (S0 S1 S2 S3 : va_W) : va_W :=
  [(a 0, .inr (3, [.ref (a 3), .ref (a 7), .int (xz zq), .ref (a 1), .ref (a 11), .ref (a 14)])), (a 1, .inr (0, [.ref (a 2), .int (nI zo), .int (nI zh)])), (a 2, .inl (g.2.1 2, 4, .inr (.inr (.inr (.inr sl)))))] ++ (S0 ++ (LogC g (a 3) (a 4) (a 5) (a 6) fe fc fs v ++ (LogX g (a 7) (a 8) (a 9) (a 10) ge gc gs un ug ut uw ++ ([(a 11, .inr (2, [.ref (a 12), .ref (a 13), .int (nI zn), .int (nI xr)])), (a 12, .inl (g.2.1 1, 60, .inl ty)), (a 13, .inl (g.2.1 0, 60, .inl cl)), (a 14, .inl (g.2.1 0, 200, .inl tl))] ++ (ModW g (a 15) (a 16) (a 17) (a 18) (a 19) (a 20) (a 21) zs zl zp zr zk w pa sn tx me td ++ (S1 ++ (S2 ++ S3)))))))
abbrev WX (g : XG) (a : Nat → Nat) (zo zs zl zp zr xr un ug ut uw : Nat) (zk : Bool) (sl : Nat → Option Nat) (fe fc fs ge gc gs w pa sn tx me td cl tl : Nat → Int32) (S0 S1 S2 S3 : va_W) : va_W := WY g a zo zs zs zl zl zp zr xr un ug ut uw zk zk sl fe fc fs ge gc gs w w pa sn tx tx me td cl tl S0 S1 S2 S3
def SlotOk (he hc hs : Nat → Int32) (yn yg yt yw : Nat) (h : Nat → Int32) : Prop := WF h ∧ yn = nr h ∧ yg = pgN h ∧ yt = stN h ∧ yw = wrN h ∧ LR he hc hs h
theorem SlotOk.of {he hc hs h : Nat → Int32} (hW : WF h) (hR : LR he hc hs h) : SlotOk he hc hs (nr h) (pgN h) (stN h) (wrN h) h := ⟨hW, rfl, rfl, rfl, rfl, hR⟩
theorem ag_all {w w' : Nat → Int32} (h : Ag w w') : nr w = nr w' ∧ pgN w = pgN w' ∧ stN w = stN w' ∧ wrN w = wrN w' := ⟨nr_of (h 0 (by omega)), pgN_of (h 1 (by omega)), stN_of (h 2 (by omega)), wrN_of (h 3 (by omega))⟩
theorem SlotOk.ag {he hc hs h h' : Nat → Int32} {yn yg yt yw : Nat} (hk : SlotOk he hc hs yn yg yt yw h) (ha : Ag h h') : SlotOk he hc hs yn yg yt yw h' := by
  obtain ⟨h1, h2, h3, h4, h5, h6⟩ := hk
  obtain ⟨e1, e2, e3, e4⟩ := ag_all ha
  exact ⟨h1.ag ha, h2.trans e1, h3.trans e2, h4.trans e3, h5.trans e4, h6.ag h1 ha⟩
def HsOk (zo zs : Nat) (he hc hs : Nat → Nat → Int32) (yn yg yt yw : Nat → Nat) (pa : Nat → Int32) : Prop := ∀ k, k < zs → SlotOk (he ((zo + k) % 4)) (hc ((zo + k) % 4)) (hs ((zo + k) % 4)) (yn ((zo + k) % 4)) (yg ((zo + k) % 4)) (yt ((zo + k) % 4)) (yw ((zo + k) % 4)) (fun j => pa (988 * k + j))
/-- a state that is remembered -/
theorem HsOk.rec {zo zs : Nat} {he hc hs : Nat → Nat → Int32} {yn yg yt yw : Nat → Nat} {pa w e1 c1 s1 : Nat → Int32} (hzo : zo < 4) (hz4 : zs ≤ 4) (h : HsOk zo zs he hc hs yn yg yt yw pa) (hW : WF w) (hR : LR e1 c1 s1 w) :
    HsOk (oldN zo zs) (recS zs + 1) (xup he ((zo + zs) % 4) e1) (xup hc ((zo + zs) % 4) c1) (xup hs ((zo + zs) % 4) s1) (xup yn ((zo + zs) % 4) (nr w)) (xup yg ((zo + zs) % 4) (pgN w)) (xup yt ((zo + zs) % 4) (stN w)) (xup yw ((zo + zs) % 4) (wrN w)) (recP w pa zs) := by
  intro k hk
  by_cases hl : k = recS zs
  · have e : (oldN zo zs + k) % 4 = (zo + zs) % 4 := by
      rw [hl]; unfold oldN recS
      split <;> split <;> omega
    rw [e, xup_at, xup_at, xup_at, xup_at, xup_at, xup_at, xup_at]
    refine (SlotOk.of hW hR).ag (fun j hj => ?_)
    subst hl
    unfold recP
    rw [pk_cpy_in (by omega) (by omega)]
    congr 1; omega
  · have hk2 : k < recS zs := by omega
    by_cases h4 : zs = 4
    · have e0 : oldN zo zs = (zo + 1) % 4 := by unfold oldN; rw [if_neg (by omega)]
      have e1 : recS zs = 3 := by unfold recS; rw [if_pos h4]
      have e : (oldN zo zs + k) % 4 = (zo + (k + 1)) % 4 := by rw [e0]; omega
      have hne : (zo + (k + 1)) % 4 ≠ (zo + zs) % 4 := by omega
      rw [e, xup_off hne, xup_off hne, xup_off hne, xup_off hne, xup_off hne, xup_off hne, xup_off hne]
      refine (h (k + 1) (by omega)).ag (fun j hj => ?_)
      unfold recP
      rw [if_pos h4, e1, pk_cpy_out (by omega)]
      unfold xdown
      rw [if_pos (by omega)]
      show pa (988 * (k + 1) + j) = pa (988 * k + j + 988)
      congr 1; omega
    · have e0 : oldN zo zs = zo := by unfold oldN; rw [if_pos (by omega)]
      have e1 : recS zs = zs := by unfold recS; rw [if_neg h4]
      rw [e0]
      have hne : (zo + k) % 4 ≠ (zo + zs) % 4 := by omega
      rw [xup_off hne, xup_off hne, xup_off hne, xup_off hne, xup_off hne, xup_off hne, xup_off hne]
      refine (h k (by omega)).ag (fun j hj => ?_)
      unfold recP
      rw [if_neg h4, pk_cpy_out (by omega)]
def SnOk (zk : Bool) (ge gc gs : Nat → Int32) (un ug ut uw : Nat) (sn : Nat → Int32) : Prop := zk = true → SlotOk ge gc gs un ug ut uw sn
/-- the relation: r is the slot that stands first in the world -/
def RI (g : XG) (A : Nat → Prop) (a : Nat → Nat) (r zo zs : Nat) (H : Heap) : Prop := ∃ (zl zp zr xr un ug ut uw : Nat) (zk : Bool) (sl : Nat → Option Nat) (fe fc fs ge gc gs w pa sn tx me td cl tl : Nat → Int32) (he hc hs : Nat → Nat → Int32) (yn yg yt yw : Nat → Nat),
  (zo < 4 ∧ zs ≤ 4 ∧ zl ≤ 60 ∧ WF w ∧ LR fe fc fs w ∧ SnOk zk ge gc gs un ug ut uw sn ∧ (∀ j, j < 4 → sl j = some (a (30 + j))) ∧ HsOk zo zs he hc hs yn yg yt yw pa) ∧
  va_D A (WX g a zo zs zl zp zr xr un ug ut uw zk sl fe fc fs ge gc gs w pa sn tx me td cl tl (SX g a r he hc hs yn yg yt yw) (SX g a ((r + 1) % 4) he hc hs yn yg yt yw) (SX g a ((r + 2) % 4) he hc hs yn yg yt yw) (SX g a ((r + 3) % 4) he hc hs yn yg yt yw)) ∧
  va_P g.1 vwCl (WX g a zo zs zl zp zr xr un ug ut uw zk sl fe fc fs ge gc gs w pa sn tx me td cl tl (SX g a r he hc hs yn yg yt yw) (SX g a ((r + 1) % 4) he hc hs yn yg yt yw) (SX g a ((r + 2) % 4) he hc hs yn yg yt yw) (SX g a ((r + 3) % 4) he hc hs yn yg yt yw)) H
theorem RI.rot1 {g : XG} {A : Nat → Prop} {a : Nat → Nat} {r zo zs : Nat} {H : Heap} (hr : r < 4) (h : RI g A a r zo zs H) : RI g A a ((r + 1) % 4) zo zs H := by
  obtain ⟨zl, zp, zr, xr, un, ug, ut, uw, zk, sl, fe, fc, fs, ge, gc, gs, w, pa, sn, tx, me, td, cl, tl, he, hc, hs, yn, yg, yt, yw, h1, h2, h3⟩ := h
  refine ⟨zl, zp, zr, xr, un, ug, ut, uw, zk, sl, fe, fc, fs, ge, gc, gs, w, pa, sn, tx, me, td, cl, tl, he, hc, hs, yn, yg, yt, yw, h1, ?_, ?_⟩
  · rcases (show r = 0 ∨ r = 1 ∨ r = 2 ∨ r = 3 by omega) with rfl | rfl | rfl | rfl <;> exact h2.sub [0, 1, 2, 26, 27, 28, 29, 7, 8, 9, 10, 11, 12, 13, 14, 15, 16, 17, 18, 19, 20, 21, 22, 23, 24, 25, 30, 31, 32, 33, 34, 35, 36, 37, 3, 4, 5, 6] (by decide) rfl
  · rcases (show r = 0 ∨ r = 1 ∨ r = 2 ∨ r = 3 by omega) with rfl | rfl | rfl | rfl <;> exact h3.sub [0, 1, 2, 26, 27, 28, 29, 7, 8, 9, 10, 11, 12, 13, 14, 15, 16, 17, 18, 19, 20, 21, 22, 23, 24, 25, 30, 31, 32, 33, 34, 35, 36, 37, 3, 4, 5, 6] rfl
theorem RI.rotN {g : XG} {A : Nat → Prop} {a : Nat → Nat} {r zo zs : Nat} {H : Heap} (hr : r < 4) (h : RI g A a r zo zs H) : ∀ d, RI g A a ((r + d) % 4) zo zs H
  | 0 => by rw [Nat.add_zero, Nat.mod_eq_of_lt hr]; exact h
  | d + 1 => by
    have := (RI.rotN hr h d).rot1 (Nat.mod_lt _ (by decide))
    rwa [show ((r + d) % 4 + 1) % 4 = (r + (d + 1)) % 4 by omega] at this
theorem RI.to {g : XG} {A : Nat → Prop} {a : Nat → Nat} {r r' zo zs : Nat} {H : Heap} (hr : r < 4) (hr' : r' < 4) (h : RI g A a r zo zs H) : RI g A a r' zo zs H := by
  have := RI.rotN hr h (r' + 4 - r)
  rwa [show (r + (r' + 4 - r)) % 4 = r' by omega] at this
def RX (g : XG) (A : Nat → Prop) (a : Nat → Nat) (H : Heap) : Prop := ∃ r zo zs, r < 4 ∧ RI g A a r zo zs H
theorem SX_up {g : XG} {a : Nat → Nat} {r : Nat} {he hc hs : Nat → Nat → Int32} {yn yg yt yw : Nat → Nat} {e1 c1 s1 w : Nat → Int32} : SX g a r (xup he r e1) (xup hc r c1) (xup hs r s1) (xup yn r (nr w)) (xup yg r (pgN w)) (xup yt r (stN w)) (xup yw r (wrN w)) = LogC g (a (30 + r)) (a (40 + r)) (a (50 + r)) (a (60 + r)) e1 c1 s1 w := by
  unfold SX LogC; rw [xup_at, xup_at, xup_at, xup_at, xup_at, xup_at, xup_at]
theorem SX_off {g : XG} {a : Nat → Nat} {r j : Nat} (h : j ≠ r) {he hc hs : Nat → Nat → Int32} {yn yg yt yw : Nat → Nat} {e1 c1 s1 : Nat → Int32} {n1 g1 t1 w1 : Nat} : SX g a j (xup he r e1) (xup hc r c1) (xup hs r s1) (xup yn r n1) (xup yg r g1) (xup yt r t1) (xup yw r w1) = SX g a j he hc hs yn yg yt yw := by
  unfold SX; rw [xup_off h, xup_off h, xup_off h, xup_off h, xup_off h, xup_off h, xup_off h]
theorem recS_le {zs : Nat} (h : zs ≤ 4) : recS zs + 1 ≤ 4 := by unfold recS; split <;> omega
theorem oldN_lt {zo zs : Nat} (h : zo < 4) : oldN zo zs < 4 := by unfold oldN; split <;> omega
theorem va_inA {A : Nat → Prop} {ws : va_W} {L : List Nat} (hD : va_D A ws) (is : List Nat) (h : is.filterMap (fun i => (ws[i]?).map Prod.fst) = L) : ∀ q, xin L q → A q := by
  intro q hq
  have hq : q ∈ L := hq
  rw [← h] at hq
  obtain ⟨i, hi, e⟩ := List.mem_filterMap.mp hq
  cases hw : ws[i]? with
  | none => rw [hw] at e; cases e
  | some p =>
    rw [hw] at e
    have : p.1 = q := Option.some.inj e
    rw [← this]; exact hD.2 i p hw
