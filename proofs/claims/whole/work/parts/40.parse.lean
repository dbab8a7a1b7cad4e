/-! reading the text: both read it alike -/
def sepC (k : Nat) : Int32 := if k = 3 then 59 else 44
def wdg (k : Nat) (e d : Int32) : Int32 := if ¬ e = -7 ∧ e ≤ 0 then -8 else if (if e = -7 then d else e * 10 + d) ≤ cmax k then (if e = -7 then d else e * 10 + d) else -8
def grw (k : Nat) (e x : Int32) : Int32 := if 48 ≤ x ∧ x ≤ 57 then wdg k e (x - 48) else if e = -7 ∧ x = 45 then -5 else if e = -7 ∧ x = 39 then -6 else -8
abbrev PS : Type := Nat × Int32 × (Nat → Int32)
def stp (s : PS) (x : Int32) : Option PS := if grw (s.1 % 4) s.2.1 x = -8 then (if ¬ s.2.1 = -7 ∧ x = sepC (s.1 % 4) then some (s.1 + 1, -7, upd s.2.2 s.1 s.2.1) else none) else some (s.1, grw (s.1 % 4) s.2.1 x, s.2.2)
def pst (tx : Nat → Int32) : Nat → Option PS
  | 0 => some (0, -7, fun _ => 0)
  | i + 1 => (pst tx i).bind (fun s => stp s (tx i))
theorem pst_s {tx : Nat → Int32} {i : Nat} {s : PS} (h : pst tx i = some s) : pst tx (i + 1) = stp s (tx i) := by rw [pst, h]; rfl
theorem stp_g {s : PS} {x : Int32} (h : ¬ grw (s.1 % 4) s.2.1 x = -8) : stp s x = some (s.1, grw (s.1 % 4) s.2.1 x, s.2.2) := if_neg h
theorem stp_c {s : PS} {x : Int32} (h : grw (s.1 % 4) s.2.1 x = -8) (h1 : ¬ s.2.1 = -7) (h2 : x = sepC (s.1 % 4)) : stp s x = some (s.1 + 1, -7, upd s.2.2 s.1 s.2.1) := by unfold stp; rw [if_pos h, if_pos ⟨h1, h2⟩]
theorem stp_n {s : PS} {x : Int32} (h : grw (s.1 % 4) s.2.1 x = -8) (h1 : ¬ (¬ s.2.1 = -7 ∧ x = sepC (s.1 % 4))) : stp s x = none := by unfold stp; rw [if_pos h, if_neg h1]
theorem dgt {x : Int32} (h1 : 48 ≤ x) (h2 : x ≤ 57) : ∃ u : Nat, u ≤ 9 ∧ x = nI (48 + u) ∧ x - 48 = nI u := by
  have e1 : (48 : Int32).toInt = 48 := rfl
  have e2 : (57 : Int32).toInt = 57 := rfl
  rw [Int32.le_iff_toInt_le, e1] at h1
  rw [Int32.le_iff_toInt_le, e2] at h2
  obtain ⟨j, hj, e⟩ := nI_of (x := x) (fun q => by rw [Int32.lt_iff_toInt_lt, show (0 : Int32).toInt = 0 from rfl] at q; omega)
  rw [e, nI_toInt hj] at h1 h2
  obtain ⟨u, rfl⟩ : ∃ u, j = 48 + u := ⟨j - 48, by omega⟩
  refine ⟨u, by omega, e, ?_⟩
  rw [e]
  show nI (48 + u) - nI 48 = nI u
  rw [pk_sub (by omega), Nat.add_sub_cancel_left]
theorem EntOk.pos {k : Nat} {e : Int32} (h : EntOk k e) (h0 : ¬ e ≤ 0) : ∃ v : Nat, 0 < v ∧ v ≤ cmN k ∧ e = nI v := by
  rcases h with h | h | ⟨v, hv, h⟩
  · exact absurd (by rw [h]; decide) h0
  · exact absurd (by rw [h]; decide) h0
  · refine ⟨v, Nat.pos_of_ne_zero (fun q => h0 (by rw [h, q]; decide)), hv, h⟩
theorem EntOk.ne7 {k : Nat} {e : Int32} (h : EntOk k e) : ¬ e = -7 := fun q => by
  subst q
  rcases h with h | h | ⟨v, hv, h⟩
  · exact absurd h (by decide)
  · exact absurd h (by decide)
  · have h1 := cmN_le k
    have := congrArg Int32.toInt h
    rw [nI_toInt (by omega), show (-7 : Int32).toInt = -7 from rfl] at this; omega
theorem EntOk.ne8 {k : Nat} {e : Int32} (h : EntOk k e) : ¬ e = -8 := fun q => by
  subst q
  rcases h with h | h | ⟨v, hv, h⟩
  · exact absurd h (by decide)
  · exact absurd h (by decide)
  · have h1 := cmN_le k
    have := congrArg Int32.toInt h
    rw [nI_toInt (by omega), show (-8 : Int32).toInt = -8 from rfl] at this; omega
/-- what a digit does -/
theorem wdg_7 {k u : Nat} (hu : u ≤ 9) : wdg k (-7) (nI u) = if u ≤ cmN k then nI u else -8 := by
  have h1 := cmN_le k
  unfold wdg
  rw [if_neg (fun q => q.1 rfl), if_pos rfl, cmax_N]
  by_cases h : u ≤ cmN k
  · rw [if_pos (nI_le h (by omega)), if_pos h]
  · rw [if_neg (nI_ge (by omega) (by omega)), if_neg h]
theorem wdg_v {k v u : Nat} (hu : u ≤ 9) (h0 : 0 < v) (hv : v ≤ cmN k) : wdg k (nI v) (nI u) = if v * 10 + u ≤ cmN k then nI (v * 10 + u) else -8 := by
  have h1 := cmN_le k
  have e7 : ¬ nI v = -7 := EntOk.ne7 (k := k) (Or.inr (Or.inr ⟨v, hv, rfl⟩))
  unfold wdg
  rw [if_neg (fun q => nI_nle h0 (by omega) q.2), if_neg e7, cmax_N, show nI v * 10 + nI u = nI (v * 10 + u) by rw [← nI_add, ← pk_mul]; rfl]
  by_cases h : v * 10 + u ≤ cmN k
  · rw [if_pos (nI_le h (by omega)), if_pos h]
  · rw [if_neg (nI_ge (by omega) (by omega)), if_neg h]
theorem wdg_0 {k : Nat} {e d : Int32} (h7 : ¬ e = -7) (h0 : e ≤ 0) : wdg k e d = -8 := if_pos ⟨h7, h0⟩
theorem grw_d {k u : Nat} {e x : Int32} (hu : u ≤ 9) (hx : x = nI (48 + u)) : grw k e x = wdg k e (nI u) := by
  have e1 : (48 : Int32) ≤ nI (48 + u) := nI_le (a := 48) (by omega) (by omega)
  have e2 : nI (48 + u) ≤ (57 : Int32) := nI_le (b := 57) (by omega) (by omega)
  unfold grw
  rw [hx, if_pos ⟨e1, e2⟩]
  congr 1
  show nI (48 + u) - nI 48 = nI u
  rw [pk_sub (by omega), Nat.add_sub_cancel_left]
theorem grw_45 {k : Nat} {e : Int32} : grw k e 45 = if e = -7 then -5 else -8 := by
  unfold grw
  rw [if_neg (by decide)]
  by_cases h : e = -7
  · rw [if_pos ⟨h, rfl⟩, if_pos h]
  · rw [if_neg (fun q => h q.1), if_neg (fun q => h q.1), if_neg h]
theorem grw_39 {k : Nat} {e : Int32} : grw k e 39 = if e = -7 then -6 else -8 := by
  unfold grw
  rw [if_neg (by decide)]
  by_cases h : e = -7
  · rw [if_neg (fun q => absurd q.2 (by decide)), if_pos ⟨h, rfl⟩, if_pos h]
  · rw [if_neg (fun q => h q.1), if_neg (fun q => h q.1), if_neg h]
theorem grw_ok {k : Nat} {e x : Int32} (he : e = -7 ∨ EntOk k e) (h8 : ¬ grw k e x = -8) : EntOk k (grw k e x) := by
  have h1 := cmN_le k
  by_cases hx : 48 ≤ x ∧ x ≤ 57
  · obtain ⟨u, hu, ex, ed⟩ := dgt hx.1 hx.2
    rw [grw_d hu ex] at h8 ⊢
    rcases he with he | he
    · subst he
      rw [wdg_7 hu] at h8 ⊢
      split at h8
      · next h => rw [if_pos h]; exact Or.inr (Or.inr ⟨u, h, rfl⟩)
      · exact absurd rfl h8
    · by_cases h0 : e ≤ 0
      · exact absurd (wdg_0 he.ne7 h0) h8
      · obtain ⟨v, hv0, hv, rfl⟩ := he.pos h0
        rw [wdg_v hu hv0 hv] at h8 ⊢
        split at h8
        · next h => rw [if_pos h]; exact Or.inr (Or.inr ⟨_, h, rfl⟩)
        · exact absurd rfl h8
  · unfold grw at h8 ⊢
    rw [if_neg hx] at h8 ⊢
    by_cases h2 : e = -7 ∧ x = 45
    · rw [if_pos h2]; exact Or.inl rfl
    · rw [if_neg h2] at h8 ⊢
      by_cases h3 : e = -7 ∧ x = 39
      · rw [if_pos h3]; exact Or.inr (Or.inl rfl)
      · rw [if_neg h3] at h8; exact absurd rfl h8
/-- what is behind i signs -/
def PI (i : Nat) (s : PS) : Prop := 2 * s.1 + (if s.2.1 = -7 then 0 else 1) ≤ i ∧ (s.2.1 = -7 ∨ EntOk (s.1 % 4) s.2.1) ∧ ∀ q, q < s.1 → EntOk (q % 4) (s.2.2 q)
theorem pst_inv {tx : Nat → Int32} : ∀ {i : Nat} {s : PS}, pst tx i = some s → PI i s
  | 0, s, h => by cases h; exact ⟨by simp, Or.inl rfl, fun q hq => absurd hq (Nat.not_lt_zero _)⟩
  | i + 1, s, h => by
    cases h0 : pst tx i with
    | none => rw [pst, h0] at h; cases h
    | some t =>
      obtain ⟨a1, a2, a3⟩ := pst_inv h0
      rw [pst_s h0] at h
      by_cases g : grw (t.1 % 4) t.2.1 (tx i) = -8
      · by_cases g2 : ¬ t.2.1 = -7 ∧ tx i = sepC (t.1 % 4)
        · rw [stp_c g g2.1 g2.2] at h
          cases h
          rw [if_neg g2.1] at a1
          refine ⟨?_, Or.inl rfl, fun q hq => ?_⟩
          · show 2 * (t.1 + 1) + (if (-7 : Int32) = -7 then 0 else 1) ≤ i + 1
            rw [if_pos rfl]; omega
          · show EntOk (q % 4) (upd t.2.2 t.1 t.2.1 q)
            by_cases e : q = t.1
            · subst e; rw [upd_at]; exact a2.resolve_left g2.1
            · rw [upd_off e]; exact a3 q (by have : q < t.1 + 1 := hq; omega)
        · rw [stp_n g g2] at h; cases h
      · rw [stp_g g] at h
        cases h
        refine ⟨?_, Or.inr (grw_ok a2 g), a3⟩
        show 2 * t.1 + (if grw (t.1 % 4) t.2.1 (tx i) = -7 then 0 else 1) ≤ i + 1
        split <;> omega
theorem pst_lt {tx : Nat → Int32} {i : Nat} {s : PS} (h : pst tx i = some s) : 2 * s.1 ≤ i := by have := (pst_inv h).1; omega
theorem pst_lt7 {tx : Nat → Int32} {i : Nat} {s : PS} (h : pst tx i = some s) (h7 : ¬ s.2.1 = -7) : 2 * s.1 + 1 ≤ i := by have := (pst_inv h).1; rw [if_neg h7] at this; exact this
theorem pst_up {tx : Nat → Int32} {i : Nat} (h : pst tx i = none) : ∀ j, pst tx (i + j) = none
  | 0 => h
  | j + 1 => by rw [← Nat.add_assoc, pst, pst_up h j]; rfl
def PBad (tx : Nat → Int32) (n j : Nat) : Prop := ∃ s : PS, pst tx j = some s ∧ ((j < n ∧ stp s (tx j) = none) ∨ (j = n ∧ (s.2.1 = -7 ∨ ¬ s.1 % 4 = 3)))
def PGood (tx : Nat → Int32) (n c : Nat) (e : Int32) (f : Nat → Int32) : Prop := pst tx n = some (c, e, f) ∧ ¬ e = -7 ∧ c % 4 = 3
theorem PBad.le {tx : Nat → Int32} {n j : Nat} (h : PBad tx n j) : j ≤ n := by
  obtain ⟨s, h1, h2⟩ := h
  rcases h2 with h2 | h2
  · omega
  · omega
theorem PBad.nlt {tx : Nat → Int32} {n j k : Nat} {s : PS} (h : PBad tx n j) (hs : pst tx k = some s) (hk : k ≤ n) : ¬ j < k := fun hjk => by
  obtain ⟨t, h1, h2⟩ := h
  rcases h2 with h2 | h2
  · have e := pst_up (i := j + 1) (by rw [pst_s h1, h2.2]) (k - (j + 1))
    rw [show j + 1 + (k - (j + 1)) = k by omega, hs] at e
    cases e
  · omega
theorem PBad.uniq {tx : Nat → Int32} {n j k : Nat} (h : PBad tx n j) (h' : PBad tx n k) : j = k := by
  have hj := h.le; have hk := h'.le
  obtain ⟨s, h1, h2⟩ := h
  obtain ⟨t, h3, h4⟩ := h'
  have a := PBad.nlt (j := j) ⟨s, h1, h2⟩ h3 hk
  have b := PBad.nlt (j := k) ⟨t, h3, h4⟩ h1 hj
  omega
theorem PBad.ngood {tx : Nat → Int32} {n j c : Nat} {e : Int32} {f : Nat → Int32} (h : PBad tx n j) (h' : PGood tx n c e f) : False := by
  have hj := h.le
  have a := h.nlt h'.1 (Nat.le_refl _)
  obtain ⟨s, h1, h2⟩ := h
  have : j = n := by omega
  subst this
  rw [h'.1] at h1
  cases h1
  rcases h2 with h2 | h2
  · omega
  · rcases h2.2 with h | h
    · exact h'.2.1 h
    · exact h h'.2.2
theorem PGood.uniq {tx : Nat → Int32} {n c c' : Nat} {e e' : Int32} {f f' : Nat → Int32} (h : PGood tx n c e f) (h' : PGood tx n c' e' f') : c = c' ∧ e = e' ∧ f = f' := by
  have := h.1.symm.trans h'.1
  cases this
  exact ⟨rfl, rfl, rfl⟩
theorem PGood.ok {tx : Nat → Int32} {n c : Nat} {e : Int32} {f : Nat → Int32} (h : PGood tx n c e f) : 2 * c + 1 ≤ n ∧ ∀ q, q < c + 1 → EntOk (q % 4) (upd f c e q) := by
  obtain ⟨h1, h2, h3⟩ := pst_inv h.1
  refine ⟨pst_lt7 h.1 h.2.1, fun q hq => ?_⟩
  by_cases e' : q = c
  · subst e'; rw [upd_at]; exact h2.resolve_left h.2.1
  · rw [upd_off e']; exact h3 q (by show q < c; omega)
/-- rows that are added one after another -/
def adsW (w f : Nat → Int32) : Nat → Nat → Int32
  | 0 => w
  | n + 1 => addW (adsW w f n) (f (4 * n + 0)) (f (4 * n + 1)) (f (4 * n + 2)) (f (4 * n + 3))
theorem adsW_cong {w f h : Nat → Int32} : ∀ {n : Nat}, (∀ q, q < 4 * n → f q = h q) → adsW w f n = adsW w h n
  | 0, _ => rfl
  | n + 1, hq => by rw [adsW, adsW, adsW_cong (fun q h1 => hq q (by omega)), hq (4 * n + 0) (by omega), hq (4 * n + 1) (by omega), hq (4 * n + 2) (by omega), hq (4 * n + 3) (by omega)]
theorem adsW_ok {w f : Nat → Int32} (hW : WF w) : ∀ {n : Nat}, (∀ q, q < 4 * n → EntOk (q % 4) (f q)) → nr w + n ≤ 48 → WF (adsW w f n) ∧ nr (adsW w f n) = nr w + n
  | 0, _, _ => ⟨hW, rfl⟩
  | n + 1, hf, hn => by
    obtain ⟨h1, h2⟩ := adsW_ok (f := f) hW (n := n) (fun q hq => hf q (by omega)) (by omega)
    have k0 := hf (4 * n + 0) (by omega)
    have k1 := hf (4 * n + 1) (by omega)
    have k2 := hf (4 * n + 2) (by omega)
    have k3 := hf (4 * n + 3) (by omega)
    rw [show (4 * n + 0) % 4 = 0 by omega] at k0
    rw [show (4 * n + 1) % 4 = 1 by omega] at k1
    rw [show (4 * n + 2) % 4 = 2 by omega] at k2
    rw [show (4 * n + 3) % 4 = 3 by omega] at k3
    refine ⟨h1.add (by omega) k0 k1 k2 k3, ?_⟩
    rw [adsW, addW_nr _ _ _ _ _ (by omega), h2]; omega
/-- cells that are written one after another, behind row r -/
def cesW (w : Nat → Int32) (r : Nat) (f : Nat → Int32) : Nat → Nat → Int32
  | 0 => w
  | n + 1 => cmsW (cesW w r f n) (r + n / 4) (n % 4) (f n)
theorem cmsW_0 {w : Nat → Int32} {r k : Nat} {x v : Int32} : cmsW (upd w 0 v) r k x = upd (cmsW w r k x) 0 v := by
  funext j
  unfold cmsW upd
  by_cases h : j = 0
  · subst h; rw [if_neg (by omega), if_neg (by omega), if_pos rfl, if_pos rfl]
  · rw [if_neg h, if_neg h]
theorem cesW_ads {w f : Nat → Int32} (hW : WF w) : ∀ {n : Nat}, nr w + n ≤ 48 → adsW w f n = upd (cesW w (nr w) f (4 * n)) 0 (nI (nr w + n))
  | 0, _ => by
    funext j; unfold adsW cesW upd
    split
    · next e => subst e; exact hW.r0
    · rfl
  | n + 1, h => by
    have e1 := cesW_ads hW (f := f) (n := n) (by omega)
    have e2 : nr (adsW w f n) = nr w + n := by rw [e1]; show (upd _ 0 _ 0).toNatClampNeg = _; rw [upd_at]; exact nI_clamp (by omega)
    rw [adsW]
    unfold addW
    rw [e2, e1, cmsW_0, cmsW_0, cmsW_0, cmsW_0, upd_upd, show 4 * (n + 1) = 4 * n + 0 + 1 + 1 + 1 + 1 by omega]
    rw [cesW, cesW, cesW, cesW]
    rw [show nr w + n + 1 = nr w + (n + 1) by omega]
    rw [show (4 * n + 3) / 4 = n by omega, show (4 * n + 2) / 4 = n by omega, show (4 * n + 1) / 4 = n by omega, show 4 * n / 4 = n by omega]
    rw [show (4 * n + 3) % 4 = 3 by omega, show (4 * n + 2) % 4 = 2 by omega, show (4 * n + 1) % 4 = 1 by omega, show 4 * n % 4 = 0 by omega]
    rfl
theorem cesW_cong {w f h : Nat → Int32} {r : Nat} : ∀ {n : Nat}, (∀ q, q < n → f q = h q) → cesW w r f n = cesW w r h n
  | 0, _ => rfl
  | n + 1, hq => by rw [cesW, cesW, cesW_cong (fun q h1 => hq q (by omega)), hq n (by omega)]
