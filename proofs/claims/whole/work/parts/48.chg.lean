/-! what an act changes: counted by comparing, and by the chain -/
theorem stopF_in {w : Nat → Int32} {c : Nat} : ∀ {n a i : Nat}, a ≤ i → i < stopF w c n a → upB w i c = true
  | 0, a, i, h1, h2 => by rw [stopF] at h2; omega
  | n + 1, a, i, h1, h2 => by
    rw [stopF] at h2
    split at h2
    · next h =>
      by_cases e : i = a
      · rw [e]; exact h
      · exact stopF_in (by omega) h2
    · omega
theorem stopF_out {w : Nat → Int32} {c : Nat} : ∀ {n a : Nat}, stopF w c n a < a + n → upB w (stopF w c n a) c = false
  | 0, a, h => by rw [stopF] at h; omega
  | n + 1, a, h => by
    rw [stopF] at h ⊢
    split at h
    · next h1 => rw [if_pos h1]; exact stopF_out (by omega)
    · next h1 => rw [if_neg h1]; exact Bool.eq_false_iff.mpr h1
theorem ctR_app (p : Nat → Bool) (a m : Nat) : ∀ n, ctR p a (m + n) = ctR p a m + ctR p (a + m) n
  | 0 => rfl
  | n + 1 => by rw [← Nat.add_assoc, ctR, ctR, ctR_app p a m n, Nat.add_assoc, Nat.add_assoc]
theorem ctR_all {p : Nat → Bool} {a : Nat} : ∀ {n : Nat}, (∀ j, j < n → p (a + j) = true) → ctR p a n = n
  | 0, _ => rfl
  | n + 1, h => by rw [ctR, ctR_all (fun j hj => h j (by omega)), if_pos (h n (by omega))]
/-- one cell's latest entry is another -/
def One (w w' : Nat → Int32) (r k : Nat) (x : Int32) : Prop := r < nr w ∧ (∀ i, abvB w' i = abvB w i) ∧ (∀ i, i < nr w → i ≠ r → lat w' i k = lat w i k) ∧ lat w' r k = x ∧ EntOk k x
theorem One.hr {w w' : Nat → Int32} {r k : Nat} {x : Int32} (h : One w w' r k x) : r < nr w := h.1
theorem One.ha {w w' : Nat → Int32} {r k : Nat} {x : Int32} (h : One w w' r k x) : ∀ i, abvB w' i = abvB w i := h.2.1
theorem One.ho {w w' : Nat → Int32} {r k : Nat} {x : Int32} (h : One w w' r k x) : ∀ i, i < nr w → i ≠ r → lat w' i k = lat w i k := h.2.2.1
theorem One.hx {w w' : Nat → Int32} {r k : Nat} {x : Int32} (h : One w w' r k x) : lat w' r k = x := h.2.2.2.1
theorem One.hk {w w' : Nat → Int32} {r k : Nat} {x : Int32} (h : One w w' r k x) : EntOk k x := h.2.2.2.2
theorem One.up {w w' : Nat → Int32} {r k i : Nat} {x : Int32} (h : One w w' r k x) (hi : i < nr w) (hne : i ≠ r) : upB w' i k = upB w i k := by
  unfold upB; rw [h.ho i hi hne, h.ha]
theorem One.lo {w w' : Nat → Int32} {r k : Nat} {x : Int32} (h : One w w' r k x) : ∀ i, i < r → top w' k i = top w k i
  | 0, _ => rfl
  | i + 1, hi => by
    have := h.hr
    rw [top, top, h.up (by omega) (by omega), h.lo i (by omega)]
theorem mean_of {w w' : Nat → Int32} {i k : Nat} (h1 : top w' k i = top w k i) (h2 : lat w' (top w k i) k = lat w (top w k i) k) : mean w' i k = mean w i k := by
  unfold mean; rw [h1, h2]
theorem One.mlo {w w' : Nat → Int32} {r k i : Nat} {x : Int32} (h : One w w' r k x) (hi : i < r) : mean w' i k = mean w i k := by
  have h1 := top_le w k i
  have := h.hr
  exact mean_of (h.lo i hi) (h.ho _ (by omega) (by omega))
theorem One.mr {w w' : Nat → Int32} {r k : Nat} {x : Int32} (h : One w w' r k x) : mean w' r k = mwI w r k x := by
  unfold mwI
  by_cases h6 : x = -6
  · rw [if_pos h6]
    by_cases hb : abvB w r = true
    · rw [if_pos hb]
      have hr0 : 0 < r := Nat.pos_of_ne_zero (fun q => by subst q; exact absurd hb (by simp [abvB]))
      have hu : upB w' r k = true := by unfold upB; rw [h.hx, h.ha, hb, h6]; rfl
      have e : mean w' r k = mean w' (r - 1) k := by unfold mean; rw [top_up hr0 hu]
      rw [e, h.mlo (by omega)]
    · rw [if_neg hb]
      have hu : upB w' r k = false := by unfold upB; rw [h.ha, Bool.eq_false_iff.mpr hb, Bool.and_false]
      unfold mean
      rw [top_no hu, h.hx, h6, if_pos (by decide)]
  · rw [if_neg h6]
    have hu : upB w' r k = false := by unfold upB; rw [h.hx, beq_eq_false_iff_ne.mpr h6, Bool.false_and]
    unfold mean
    rw [top_no hu, h.hx]
    rcases h.hk with q | q | ⟨v, hv, q⟩
    · rw [q]; rfl
    · exact absurd q h6
    · have := cmN_le k
      rw [q, if_neg (nI_pos (by omega))]
theorem mean_up {w : Nat → Int32} {i k : Nat} (h : upB w (i + 1) k = true) : mean w (i + 1) k = mean w i k := by
  unfold mean; rw [top_up (Nat.succ_pos i) h]; rfl
theorem One.mid {w w' : Nat → Int32} {r k : Nat} {x : Int32} (h : One w w' r k x) : ∀ j, r + j < stop w k (r + 1) → mean w' (r + j) k = mean w' r k ∧ mean w (r + j) k = mean w r k
  | 0, _ => ⟨rfl, rfl⟩
  | j + 1, hj => by
    have hs := stop_le (w := w) (c := k) (a := r + 1) h.hr
    obtain ⟨e1, e2⟩ := h.mid j (by omega)
    have hu : upB w (r + j + 1) k = true := stopF_in (by omega) (show r + j + 1 < stopF w k (nr w - (r + 1)) (r + 1) from hj)
    rw [← Nat.add_assoc]
    exact ⟨(mean_up (by rw [h.up (by omega) (by omega)]; exact hu)).trans e1, (mean_up hu).trans e2⟩
theorem One.hi {w w' : Nat → Int32} {r k : Nat} {x : Int32} (h : One w w' r k x) : ∀ j, stop w k (r + 1) + j < nr w → top w' k (stop w k (r + 1) + j) = top w k (stop w k (r + 1) + j) ∧ stop w k (r + 1) ≤ top w k (stop w k (r + 1) + j)
  | 0, hj => by
    have hj : stop w k (r + 1) < nr w := hj
    have hg := stop_ge w k (r + 1)
    have hu : upB w (stop w k (r + 1)) k = false := stopF_out (by have : stopF w k (nr w - (r + 1)) (r + 1) < nr w := hj; have := h.hr; omega)
    have hu' : upB w' (stop w k (r + 1)) k = false := by rw [h.up hj (by omega)]; exact hu
    rw [Nat.add_zero, top_no hu, top_no hu']
    exact ⟨rfl, Nat.le_refl _⟩
  | j + 1, hj => by
    have hg := stop_ge w k (r + 1)
    obtain ⟨e1, e2⟩ := h.hi j (by omega)
    rw [← Nat.add_assoc, top, top, h.up (by omega) (by omega), e1]
    refine ⟨rfl, ?_⟩
    split <;> omega
theorem One.mhi {w w' : Nat → Int32} {r k j : Nat} {x : Int32} (h : One w w' r k x) (hj : stop w k (r + 1) + j < nr w) : mean w' (stop w k (r + 1) + j) k = mean w (stop w k (r + 1) + j) k := by
  have hg := stop_ge w k (r + 1)
  have ht := top_le w k (stop w k (r + 1) + j)
  obtain ⟨e1, e2⟩ := h.hi j hj
  exact mean_of e1 (h.ho _ (by omega) (by omega))
theorem One.count {w w' : Nat → Int32} {r k : Nat} {x : Int32} (h : One w w' r k x) : othN w w' k = chg w r k x := by
  have hr := h.hr
  have hg := stop_ge w k (r + 1)
  have hl := stop_le (w := w) (c := k) (a := r + 1) hr
  have e1 : ctR (fun i9 => !(mean w' i9 k == mean w i9 k)) 0 r = 0 := ctR_none (fun j hj => by rw [Nat.zero_add, h.mlo hj, beq_self_eq_true]; rfl)
  have e3 : ctR (fun i9 => !(mean w' i9 k == mean w i9 k)) (stop w k (r + 1)) (nr w - stop w k (r + 1)) = 0 := ctR_none (fun j hj => by rw [h.mhi (by omega), beq_self_eq_true]; rfl)
  have e2 : ctR (fun i9 => !(mean w' i9 k == mean w i9 k)) r (stop w k (r + 1) - r) = chg w r k x := by
    unfold chg
    by_cases hm : mwI w r k x = mean w r k
    · rw [if_pos hm]
      refine ctR_none (fun j hj => ?_)
      obtain ⟨a, b⟩ := h.mid j (by omega)
      rw [a, b, h.mr, hm, beq_self_eq_true]; rfl
    · rw [if_neg hm, ctR_all (fun j hj => ?_)]
      · omega
      · obtain ⟨a, b⟩ := h.mid j (by omega)
        rw [a, b, h.mr, beq_eq_false_iff_ne.mpr hm]; rfl
  unfold othN
  rw [show nr w = r + (stop w k (r + 1) - r + (nr w - stop w k (r + 1))) by omega, ctR_app, ctR_app]
  rw [show 0 + r + (stop w k (r + 1) - r) = stop w k (r + 1) by omega, Nat.zero_add, e1, Nat.zero_add]
  rw [e2, e3, Nat.add_zero]
theorem abvB_of {w w' : Nat → Int32} (h1 : w' 1 = w 1) (h2 : w' 2 = w 2) (i : Nat) : abvB w' i = abvB w i := by
  unfold abvB; rw [stN_of h2, pgN_of h1]
theorem lat_of {w w' : Nat → Int32} {i k : Nat} (h0 : w' (28 + 5 * (4 * i + k)) = w (28 + 5 * (4 * i + k))) (h1 : w' (28 + 5 * (4 * i + k) + cnt w (4 * i + k)) = w (28 + 5 * (4 * i + k) + cnt w (4 * i + k))) : lat w' i k = lat w i k := by
  have e : cnt w' (4 * i + k) = cnt w (4 * i + k) := by unfold cnt; rw [h0]
  unfold lat; rw [e, h1]
theorem One.cor {w : Nat → Int32} (hW : WF w) {r k : Nat} {x : Int32} (hk : k < 4) (hr : r < nr w) (hc : cnt w (4 * r + k) < 4) (hx : EntOk k x) : One w (corW w r k x) r k x := by
  refine ⟨hr, fun i => abvB_of (by unfold corW; rw [upd_off (by omega), upd_off (by omega)]) (by unfold corW; rw [upd_off (by omega), upd_off (by omega)]) i, fun i hi hne => ?_, ?_, hx⟩
  · have h4 := hW.c4 (i := 4 * i + k) (by omega)
    refine lat_of ?_ ?_ <;> unfold corW <;> rw [upd_off (by omega), upd_off (by omega)]
  · unfold lat
    rw [corW_cnt hc]
    unfold corW
    rw [upd_at]
theorem One.tkb {w : Nat → Int32} (hW : WF w) {r k : Nat} (hk : k < 4) (hr : r < nr w) (hc : cnt w (4 * r + k) ≠ 1) : One w (tkbW w r k) r k (w (29 + 5 * (4 * r + k) + (cnt w (4 * r + k) - 2))) := by
  have h4 := hW.c4 (i := 4 * r + k) (by omega)
  have h1 := hW.c1 (i := 4 * r + k) (by omega)
  refine ⟨hr, fun i => abvB_of (by unfold tkbW; rw [upd_off (by omega), upd_off (by omega)]) (by unfold tkbW; rw [upd_off (by omega), upd_off (by omega)]) i, fun i hi hne => ?_, ?_, ?_⟩
  · have h4 := hW.c4 (i := 4 * i + k) (by omega)
    refine lat_of ?_ ?_ <;> unfold tkbW <;> rw [upd_off (by omega), upd_off (by omega)]
  · unfold lat
    rw [tkbW_cnt h4]
    unfold tkbW
    rw [upd_off (by omega), upd_off (by omega)]
    congr 1; omega
  · have := hW.ent (i := 4 * r + k) (j := cnt w (4 * r + k) - 2) (by omega) (by omega)
    rwa [show (4 * r + k) % 4 = k by omega] at this
theorem One.wld {w : Nat → Int32} (hW : WF w) {r k : Nat} {x : Int32} (hk : k < 4) (hr : r < nr w) (hx : EntOk k x) : One w (wldW w r k x) r k x := by
  have h4 := hW.c4 (i := 4 * r + k) (by omega)
  have h1 := hW.c1 (i := 4 * r + k) (by omega)
  refine ⟨hr, fun i => abvB_of (by unfold wldW; rw [upd_off (by omega)]) (by unfold wldW; rw [upd_off (by omega)]) i, fun i hi hne => ?_, ?_, hx⟩
  · have h4 := hW.c4 (i := 4 * i + k) (by omega)
    refine lat_of ?_ ?_ <;> unfold wldW <;> rw [upd_off (by omega)]
  · unfold lat
    rw [show cnt (wldW w r k x) (4 * r + k) = cnt w (4 * r + k) by show (upd w (28 + 5 * (4 * r + k) + cnt w (4 * r + k)) x (28 + 5 * (4 * r + k))).toNatClampNeg = _; rw [upd_off (by omega)]; rfl]
    unfold wldW
    rw [upd_at]
theorem corA_2 {w : Nat → Int32} (hW : WF w) (x y z : Int32) : corA w x y z = corA2 w x y z := by
  unfold corA corA2
  by_cases hc : (rowB w x && colB y) = true
  · rw [if_pos hc, if_pos hc]
    by_cases he : entB y.toNatClampNeg z = true
    · rw [if_pos he, if_pos he]
      obtain ⟨q1, q2⟩ := Bool.and_eq_true_iff.mp hc
      obtain ⟨r, hr, rfl⟩ := (rowB_iff hW).mp q1
      obtain ⟨k, hk, rfl⟩ := colB_iff.mp q2
      have h48 := hW.n48
      have er : (nI r).toNatClampNeg = r := nI_clamp (by omega)
      have ek : (nI k).toNatClampNeg = k := nI_clamp (by omega)
      rw [er, ek]
      rw [ek] at he
      have h4 := hW.c4 (i := 4 * r + k) (by omega)
      by_cases h : cnt w (4 * r + k) = 4
      · rw [if_pos h, if_pos h]
      · rw [if_neg h, if_neg h, (One.cor hW hk hr (by omega) (entB_iff.mp he)).count]
    · rw [if_neg he, if_neg he]
  · rw [if_neg hc, if_neg hc]
theorem tkbA_2 {w : Nat → Int32} (hW : WF w) (x y : Int32) : tkbA w x y = tkbA2 w x y := by
  unfold tkbA tkbA2
  by_cases hc : (rowB w x && colB y) = true
  · rw [if_pos hc, if_pos hc]
    obtain ⟨q1, q2⟩ := Bool.and_eq_true_iff.mp hc
    obtain ⟨r, hr, rfl⟩ := (rowB_iff hW).mp q1
    obtain ⟨k, hk, rfl⟩ := colB_iff.mp q2
    have h48 := hW.n48
    have er : (nI r).toNatClampNeg = r := nI_clamp (by omega)
    have ek : (nI k).toNatClampNeg = k := nI_clamp (by omega)
    rw [er, ek]
    by_cases h : cnt w (4 * r + k) = 1
    · rw [if_pos h, if_pos h]
    · rw [if_neg h, if_neg h, (One.tkb hW hk hr h).count]
  · rw [if_neg hc, if_neg hc]
theorem wldA_2 {w : Nat → Int32} (hW : WF w) (x y z : Int32) : wldA w x y z = wldA2 w x y z := by
  unfold wldA wldA2
  by_cases hc : (rowB w x && colB y) = true
  · rw [if_pos hc, if_pos hc]
    by_cases he : entB y.toNatClampNeg z = true
    · rw [if_pos he, if_pos he]
      obtain ⟨q1, q2⟩ := Bool.and_eq_true_iff.mp hc
      obtain ⟨r, hr, rfl⟩ := (rowB_iff hW).mp q1
      obtain ⟨k, hk, rfl⟩ := colB_iff.mp q2
      have h48 := hW.n48
      have er : (nI r).toNatClampNeg = r := nI_clamp (by omega)
      have ek : (nI k).toNatClampNeg = k := nI_clamp (by omega)
      rw [er, ek]
      rw [ek] at he
      rw [(One.wld hW hk hr (entB_iff.mp he)).count]
    · rw [if_neg he, if_neg he]
  · rw [if_neg hc, if_neg hc]
