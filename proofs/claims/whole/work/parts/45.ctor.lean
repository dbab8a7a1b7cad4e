/-! new objects: rows, and how a constructor's cells come beside the rest -/
section XNW
variable {p : Program} {l : Launch} {e : Env} {R : Room} {s : State} {m : MethodId} {args : Array Value} {below : List Frame} {meth : Method} {c : Code} {H : Heap} {locs : List Loc} {cells slots : Nat} {Q : State → Prop}
variable {cc : ByteArray} {pc : Nat} {ls : Array Slot} {rest st : List Value} {g : XG} {nL : Nat} {own : String} {A : Nat → Prop} {ws : va_W} {H0 : Heap}
theorem xnewi (hF : FX p s m args c cc nL own g) (hP : va_P g.1 vwCl ws H) (hD : va_D A ws) (hS : va_S A H0 H locs) (hA : ∀ q, H0.size ≤ q → A q) (N : Nat) (hN : N < 10000) (hcells : cells + 1 ≤ R.cells) (hslots : slots + N ≤ R.slots) (hdg : decode cc pc = .ok (.newarray .int, 2))
    (kk : ∀ (q : Nat) (H1 : Heap), va_P g.1 vwCl (ws ++ [(q, .inl (g.2.1 0, N, .inl (fun _ => 0)))]) H1 → va_D A (ws ++ [(q, .inl (g.2.1 0, N, .inl (fun _ => 0)))]) → va_S A H0 H1 locs → W p l e R s m args below meth c H1 locs (cells + 1) (slots + N) Q (F0 m (pc + 2) ls (.ref q :: rest))) : W p l e R s m args below meth c H locs cells slots Q (F0 m pc ls (.int (nI N) :: rest)) := by
  refine va_newa (atype := .int) (ty := .int) (N' := N) (a0 := (N, .inl (fun _ => 0))) hF.1.1 hF.1.2.1 (hF.1.2.2.2.2 _ q_26) rfl hF.2.1 hP hD hS hA (fun _ => rfl) (nI_pos (by omega)) (nI_clamp (by omega)) (by show N * 4 ≤ 536870912; omega) hcells hslots hdg (fun q cA H1 hK hP hD hS => ?_)
  have e1 := va_nm_int (hK.2 3 (cA, .int) rfl).2
  have e2 := va_nm_int (hF.2.1.2 0 _ rfl).2
  have e3 : cA = g.2.1 0 := Option.some.inj (e1.symm.trans e2)
  rw [e3] at hP hD
  exact kk q H1 hP hD hS
theorem xnewc (hF : FX p s m args c cc nL own g) (hP : va_P g.1 vwCl ws H) (hD : va_D A ws) (hS : va_S A H0 H locs) (hA : ∀ q, H0.size ≤ q → A q) (N : Nat) (hN : N < 10000) (hcells : cells + 1 ≤ R.cells) (hslots : slots + N ≤ R.slots) (hdg : decode cc pc = .ok (.newarray .char, 2))
    (kk : ∀ (q : Nat) (H1 : Heap), va_P g.1 vwCl (ws ++ [(q, .inl (g.2.1 1, N, .inl (fun _ => 0)))]) H1 → va_D A (ws ++ [(q, .inl (g.2.1 1, N, .inl (fun _ => 0)))]) → va_S A H0 H1 locs → W p l e R s m args below meth c H1 locs (cells + 1) (slots + N) Q (F0 m (pc + 2) ls (.ref q :: rest))) : W p l e R s m args below meth c H locs cells slots Q (F0 m pc ls (.int (nI N) :: rest)) := by
  refine va_newa (atype := .char) (ty := .char) (N' := N) (a0 := (N, .inl (fun _ => 0))) hF.1.1 hF.1.2.1 (hF.1.2.2.2.2 _ q_52) rfl hF.2.1 hP hD hS hA (fun _ => rfl) (nI_pos (by omega)) (nI_clamp (by omega)) (by show N * 2 ≤ 536870912; omega) hcells hslots hdg (fun q cA H1 hK hP hD hS => ?_)
  have e1 := va_nm_char (hK.2 3 (cA, .char) rfl).2
  have e2 := va_nm_char (hF.2.1.2 1 _ rfl).2
  have e3 : cA = g.2.1 1 := Option.some.inj (e1.symm.trans e2)
  rw [e3] at hP hD
  exact kk q H1 hP hD hS
theorem xnewq (hF : FX p s m args c cc nL own g) (hAO : va_AO "DittoLog$Log" s) {index : Nat} (hcl : (Cond.classLink own index "DittoLog$Log") ∈ xALL) (hP : va_P g.1 vwCl ws H) (hD : va_D A ws) (hS : va_S A H0 H locs) (hA : ∀ q, H0.size ≤ q → A q) (N : Nat) (hN : N < 10000) (hcells : cells + 1 ≤ R.cells) (hslots : slots + N ≤ R.slots) (hdg : decode cc pc = .ok (.anewarray index, 3))
    (kk : ∀ (q : Nat) (H1 : Heap), va_P g.1 vwCl (ws ++ [(q, .inl (g.2.1 2, N, .inr (.inr (.inr (.inr (fun _ => none))))))]) H1 → va_D A (ws ++ [(q, .inl (g.2.1 2, N, .inr (.inr (.inr (.inr (fun _ => none))))))]) → va_S A H0 H1 locs → W p l e R s m args below meth c H1 locs (cells + 1) (slots + N) Q (F0 m (pc + 3) ls (.ref q :: rest))) : W p l e R s m args below meth c H locs cells slots Q (F0 m pc ls (.int (nI N) :: rest)) := by
  refine va_newq (C := "DittoLog$Log") (N' := N) hF.1.1 hF.1.2.1 hF.1.2.2.2.1 (hF.1.2.2.2.2 _ hcl) hAO hF.2.1 hP hD hS hA (nI_pos (by omega)) (nI_clamp (by omega)) (by omega) hcells hslots hdg (fun q cA H1 hK hP hD hS => ?_)
  have e1 := va_nmO (hK.2 3 (cA, .object "DittoLog$Log") rfl).2 rfl
  have e2 := va_nmO (hF.2.1.2 2 _ rfl).2 rfl
  have e3 : cA = g.2.1 2 := Option.some.inj (e1.symm.trans e2)
  rw [e3] at hP hD
  exact kk q H1 hP hD hS
theorem xobj (hF : FX p s m args c cc nL own g) (hls : ls.size = nL) {idx a : Nat} (hl : (Cond.methodLink own idx objectInit) ∈ xALL) (hR : 1 ≤ R.frames ∧ (rest.map fun v => v.category).sum + 12 ≤ R.locals) (hdg : decode cc pc = .ok (.invokespecial idx, 3))
    (kk : W p l e R s m args below meth c H locs cells slots Q (F0 m (pc + 3) ls rest)) : W p l e R s m args below meth c H locs cells slots Q (F0 m pc ls (.ref a :: rest)) :=
  W.objInit hF.1.1 hF.1.2.1 hF.1.2.2.2.1 (hF.1.2.2.2.2 _ hl) (hF.1.2.2.2.2 _ q_10) (hF.1.2.2.2.2 _ q_11) rfl (hls.trans hF.1.2.2.1.symm) rfl hdg hR.1 (by show 2 * 0 + _ + 12 ≤ _; omega) kk
def CalI (C : String) (y : MethodName) (bytes : ByteArray) (maxL n : Nat) : Prop := (y.cls = C ∧ y.cls ≠ "java/lang/invoke/MethodHandle" ∧ y.cls ≠ "java/lang/invoke/VarHandle" ∧ (parseMethodDescriptor y.desc).map (fun d => d.parameters.length) = some n) ∧ y.name = "<init>" ∧ .instanceMethod y ∈ xALL ∧ .initialized C ∈ xALL ∧ .code y bytes maxL none ∈ xALL
/-- an array class of the log's own stands in the tables -/
def xPO (g : XG) (As : List Value) (hp : Heap → Prop) : Array Value → State → Prop := va_Pc As (fun U => KT g U ∧ ZS g U U.heap ∧ va_AO "DittoLog$Log" U ∧ hp U.heap)
theorem xPO_blind {As : List Value} {hp : Heap → Prop} : FrameBlind (xPO g As hp) := fun a U k mk h => ⟨h.1, KT.same (s := U) (U := U.calling k mk a) rfl h.2.1, ZS.moved (u := U) (U := U.calling k mk a) (Vm.Alike.refl U.vm) h.2.2.1, va_AO.moved (u := U) (U := U.calling k mk a) (Vm.Alike.refl U.vm) h.2.2.2.1, h.2.2.2.2⟩
theorem xPO_at {As : List Value} {hp : Heap → Prop} {s U : State} {H : Heap} (hK : KT g s) (hZ : ZS g s H) (hO : va_AO "DittoLog$Log" s) (hh : hp H) (hU : U.heap = H) (hW : s.WarmedH U.vm) : xPO g As hp As.toArray U := ⟨rfl, hK.warm hW, by rw [hU]; exact hZ.moved hW.alike, hO.moved hW.alike, by rw [hU]; exact hh⟩
theorem xPS {As : List Value} {hp : Heap → Prop} (hF : FX p s m args c cc nL own g) (hZ : ZS g s H) (hh : hp H) : PreS s H (xP g As hp) As := ⟨xP_blind, fun U hU hW => xP_at hF.2 hZ hh hU hW⟩
theorem xPOS {As : List Value} {hp : Heap → Prop} (hF : FX p s m args c cc nL own g) (hZ : ZS g s H) (hO : va_AO "DittoLog$Log" s) (hh : hp H) : PreS s H (xPO g As hp) As := ⟨xPO_blind, fun U hU hW => xPO_at hF.2 hZ hO hh hU hW⟩
theorem xMetO {l : Launch} {y : MethodName} {maxL mc ms : Nat} {ret : Option FieldType} {rm : Room} {Qc : Array Value → State → Outcome → State → Prop} {free : Addr → Prop} {As : List Value} {hp : Heap → Prop} (hy : plainName y.cls = true) (hyc : y.cls = own) (hsz : (lg_sl As).length ≤ maxL)
    (body : ∀ (p : Program) (e : Env) (s : State) (m : MethodId) (below : List Frame) (meth : Method) (c : Code) (ls : Array Slot), FX p s m As.toArray c cc maxL own g → ZS g s s.heap → va_AO "DittoLog$Log" s → hp s.heap → meth.sig.returnType = ret → meth.locks = false → (y.name = "<init>" → meth.name = "<init>") → lv_has ls maxL (lv_args 0 As) → W p l e rm s m As.toArray below meth c s.heap [] 0 0 (MQ below Qc As.toArray s mc ms free) (F0 m 0 ls [])) : Met l y (ww y cc maxL ret) rm (xPO g As hp) Qc mc ms free := by
  refine Met.ofW (cc := cc) (maxL := maxL) (ret := ret) hy rfl ?_
  intro p e s m args below meth c s₁ B hml hv
  obtain ⟨rfl, hK, hZ, hO, hh⟩ := hv
  rw [lg_entry_eq]
  exact body p e s m below meth c _ (FX.of B.exec B.bytes hml (by rw [← hyc]; exact findClass_of_methodNamed B.named) (atoms_spec (ws := ww y cc maxL ret) B.pre) hK) hZ hO hh B.returns B.notSynchronized (fun q => (name_of_methodNamed B.named B.method).1.trans q) (lv_entry As hsz)
theorem xrIN {y : MethodName} {bytes : ByteArray} {maxL n idx mc ms : Nat} {rm : Room} {Pc : Array Value → State → Prop} {Qc : Array Value → State → Outcome → State → Prop} {free : Addr → Prop} {b : Addr} {As : List Value} {host C : String}
    (hF : FX p s m args c cc nL own g) (hM : Met l y (ww y bytes maxL none) rm Pc Qc mc ms free) (hC : CalI C y bytes maxL n) (hl : .methodLinkNest own idx y host ∈ xNest) (hR : rm.frames + 1 ≤ R.frames ∧ 8 + (maxL + 11) + rm.locals ≤ R.locals) (hrc : rm.cells = mc) (hrs : rm.slots = ms) (hn : As.length = n)
    (hp : PreS s H Pc (.ref b :: As)) (hls : ls.size = nL) (hst : st = As.reverse ++ .ref b :: rest) (hW : (rest.map fun v => v.category).sum ≤ 8) (hdg : decode cc pc = .ok (.invokespecial idx, 3)) (hf : cells + mc ≤ R.cells ∧ slots + ms ≤ R.slots) :
    va_Run p l e R s m args below meth c H locs cells slots mc ms (F0 m pc ls st) rest (Qc (Value.ref b :: As).toArray) free := by
  obtain ⟨⟨hC1, hC2⟩, h1, h2, h3, h4⟩ := hC
  have hts := hF.1.2.2.2.2
  subst hC1
  exact va_runIN hF.1 hM ⟨va_cnB n hts (ww_good h4) rfl hrc hrs (hF.2.2 _ hl) (hts _ h3) hC2 hR, h1, hts _ h2⟩ hp rfl hn hls hst (lv_room hW) hdg hf
theorem xrI {y : MethodName} {bytes : ByteArray} {maxL n idx mc ms : Nat} {rm : Room} {Pc : Array Value → State → Prop} {Qc : Array Value → State → Outcome → State → Prop} {free : Addr → Prop} {b : Addr} {As : List Value} {C : String}
    (hF : FX p s m args c cc nL own g) (hM : Met l y (ww y bytes maxL none) rm Pc Qc mc ms free) (hC : CalI C y bytes maxL n) (hl : .methodLink own idx y ∈ xALL) (hR : rm.frames + 1 ≤ R.frames ∧ 8 + (maxL + 11) + rm.locals ≤ R.locals) (hrc : rm.cells = mc) (hrs : rm.slots = ms) (hn : As.length = n)
    (hp : PreS s H Pc (.ref b :: As)) (hls : ls.size = nL) (hst : st = As.reverse ++ .ref b :: rest) (hW : (rest.map fun v => v.category).sum ≤ 8) (hdg : decode cc pc = .ok (.invokespecial idx, 3)) (hf : cells + mc ≤ R.cells ∧ slots + ms ≤ R.slots) :
    va_Run p l e R s m args below meth c H locs cells slots mc ms (F0 m pc ls st) rest (Qc (Value.ref b :: As).toArray) free := by
  obtain ⟨⟨hC1, hC2⟩, h1, h2, h3, h4⟩ := hC
  have hts := hF.1.2.2.2.2
  subst hC1
  exact va_runI hF.1 hM ⟨callB_of n hts (ww_good h4) rfl hrc hrs (hts _ h3) (hts _ hl) hC2 hR, h1, hts _ h2⟩ hp rfl hn hls hst (lv_room hW) hdg hf
end XNW
theorem va_D1 {x : Nat × va_E} {sz : Nat} : va_D (va_A [x] sz) [x] := by
  refine ⟨fun i j p q hi hj _ => ?_, fun k q hk => Or.inl ⟨k, q.2, hk⟩⟩
  have h1 := (List.getElem?_eq_some_iff.mp hi).1
  have h2 := (List.getElem?_eq_some_iff.mp hj).1
  simp at h1 h2; omega
theorem va_AB {g : XG} {x : Nat × va_E} {sz : Nat} (hx : xB g x.1) (hz : xB g sz) : ∀ q, va_A [x] sz q → xB g q := fun q h => by
  rcases h with ⟨k, e, h⟩ | h
  · have h1 := (List.getElem?_eq_some_iff.mp h).1
    simp at h1; subst h1
    cases h; exact hx
  · exact Nat.le_trans hz h
theorem xin1 {A : Nat → Prop} {a : Nat} (h : A a) : ∀ q, xin [a] q → A q := fun q hq => by
  have : q = a := List.mem_singleton.mp hq
  rw [this]; exact h

theorem calI_X0 : CalI RX0 yX0_init cX0_init 2 0 := ⟨⟨rfl, by decide, by decide, by decide +kernel⟩, rfl, q_42, q_20, q_43⟩
theorem calI_X1 : CalI RX1 yX1_init cX1_init 1 0 := ⟨⟨rfl, by decide, by decide, by decide +kernel⟩, rfl, q_28, q_14, q_29⟩
theorem calI_X2 : CalI RX2 yX2_init cX2_init 1 0 := ⟨⟨rfl, by decide, by decide, by decide +kernel⟩, rfl, q_49, q_24, q_50⟩
theorem calI_X3 : CalI RX3 yX3_init cX3_init 1 0 := ⟨⟨rfl, by decide, by decide, by decide +kernel⟩, rfl, q_7, q_2, q_8⟩
theorem calI_X4 : CalI RX4 yX4_init cX4_init 2 0 := ⟨⟨rfl, by decide, by decide, by decide +kernel⟩, rfl, q_58, q_5, q_59⟩
set_option maxHeartbeats 4000000 in
set_option maxRecDepth 100000 in
theorem c_X2_init (l : Launch) (g : XG) (xo sz : Nat) (h1B : xB g xo) (h2B : xB g sz) : Met l yX2_init (ww yX2_init cX2_init 1 none) ({ frames := 1, cells := 2, slots := 120, locals := 30 }) (xP g [.ref xo] (fun H => H.size = sz ∧ va_P g.1 vwCl [(xo, .inr (2, [.null, .null, .int 0, .int 0]))] H)) (xQv (fun H => ∃ q1 q2 : Nat, va_P g.1 vwCl [(xo, .inr (2, [.ref q1, .ref q2, .int (nI 0), .int (nI 0)])), (q1, .inl (g.2.1 1, 60, .inl (fun _ => 0))), (q2, .inl (g.2.1 0, 60, .inl (fun _ => 0)))] H ∧ va_D (va_A [(xo, .inr (2, [.null, .null, .int 0, .int 0]))] sz) [(xo, .inr (2, [.ref q1, .ref q2, .int (nI 0), .int (nI 0)])), (q1, .inl (g.2.1 1, 60, .inl (fun _ => 0))), (q2, .inl (g.2.1 0, 60, .inl (fun _ => 0)))]) (va_A [(xo, .inr (2, [.null, .null, .int 0, .int 0]))] sz)) 2 120 (va_A [(xo, .inr (2, [.null, .null, .int 0, .int 0]))] sz) := by
  refine xMet (by decide) rfl (Nat.le_of_ble_eq_true rfl) ?_
  intro p e s m below meth c ls hF hZ hh hret hlocks hin hl
  have hx := hF.1.1
  have hb := hF.1.2.1
  obtain ⟨hsz, hP⟩ := hh
  subst hsz
  have hA : ∀ q, s.heap.size ≤ q → (va_A [(xo, .inr (2, [.null, .null, .int 0, .int 0]))] s.heap.size) q := fun q h => Or.inr h
  have hAB : ∀ q, (va_A [(xo, .inr (2, [.null, .null, .int 0, .int 0]))] s.heap.size) q → xB g q := va_AB h1B h2B
  have hS : va_S (va_A [(xo, .inr (2, [.null, .null, .int 0, .int 0]))] s.heap.size) s.heap s.heap [] := va_S.rf
  have hD : va_D (va_A [(xo, .inr (2, [.null, .null, .int 0, .int 0]))] s.heap.size) [(xo, .inr (2, [.null, .null, .int 0, .int 0]))] := va_D1
  have hl : lv_has ls 1 [(0, .ref xo)] := hl
  have hP : va_P g.1 vwCl [(xo, .inr (2, [.null, .null, .int 0, .int 0]))] s.heap := hP
  obtain ⟨H, hHe⟩ : ∃ H, H = s.heap := ⟨_, rfl⟩
  obtain ⟨locs, hLe⟩ : ∃ locs : List Loc, locs = [] := ⟨_, rfl⟩
  have hP : va_P g.1 vwCl [(xo, .inr (2, [.null, .null, .int 0, .int 0]))] H := by rw [hHe]; exact hP
  have hS : va_S (va_A [(xo, .inr (2, [.null, .null, .int 0, .int 0]))] s.heap.size) s.heap H locs := by rw [hHe, hLe]; exact hS
  refine Eq.mp (congrArg (fun x : Heap × List Loc => W p l e _ s m _ below meth c x.1 x.2 0 0 _ (F0 m 0 ls [])) (show (H, locs) = (s.heap, []) by rw [hHe, hLe])) ?_
  clear hHe hLe
  show W p l e _ s m _ below meth c H locs 0 0 _ (F0 m 0 ls [])
  refine lv_aload_n hx hb dX2_init_0 rfl (lv_at hl 0 rfl) ?_
  refine xobj hF hl.1 q_51 ⟨Nat.le_of_ble_eq_true rfl, Nat.le_of_ble_eq_true rfl⟩ dX2_init_1 ?_
  refine lv_aload_n hx hb dX2_init_4 rfl (lv_at hl 0 rfl) ?_
  refine xN_bi hx hb 60 dX2_init_5 (by decide) ?_
  refine xnewc hF hP hD hS hA 60 (by decide) (Nat.le_of_ble_eq_true rfl) (Nat.le_of_ble_eq_true rfl) dX2_init_7 (fun q7 H hP hD hS => ?_)
  have hP : va_P g.1 vwCl [(xo, .inr (2, [.null, .null, .int 0, .int 0])), (q7, .inl (g.2.1 1, 60, .inl (fun _ => 0)))] H := hP
  have hD : va_D (va_A [(xo, .inr (2, [.null, .null, .int 0, .int 0]))] s.heap.size) [(xo, .inr (2, [.null, .null, .int 0, .int 0])), (q7, .inl (g.2.1 1, 60, .inl (fun _ => 0)))] := hD
  refine pF_X2_X2_characters hF (hin rfl) hP hD hS 0 rfl (Nat.le_of_ble_eq_true rfl) dX2_init_9 (fun H locs hP hD hS => ?_)
  have hP : va_P g.1 vwCl [(xo, .inr (2, [.ref q7, .null, .int 0, .int 0])), (q7, .inl (g.2.1 1, 60, .inl (fun _ => 0)))] H := hP
  have hD : va_D (va_A [(xo, .inr (2, [.null, .null, .int 0, .int 0]))] s.heap.size) [(xo, .inr (2, [.ref q7, .null, .int 0, .int 0])), (q7, .inl (g.2.1 1, 60, .inl (fun _ => 0)))] := (va_D_eqL [xo, q7] rfl rfl hD)
  refine lv_aload_n hx hb dX2_init_12 rfl (lv_at hl 0 rfl) ?_
  refine xN_bi hx hb 60 dX2_init_13 (by decide) ?_
  refine xnewi hF hP hD hS hA 60 (by decide) (Nat.le_of_ble_eq_true rfl) (Nat.le_of_ble_eq_true rfl) dX2_init_15 (fun q15 H hP hD hS => ?_)
  have hP : va_P g.1 vwCl [(xo, .inr (2, [.ref q7, .null, .int 0, .int 0])), (q7, .inl (g.2.1 1, 60, .inl (fun _ => 0))), (q15, .inl (g.2.1 0, 60, .inl (fun _ => 0)))] H := hP
  have hD : va_D (va_A [(xo, .inr (2, [.null, .null, .int 0, .int 0]))] s.heap.size) [(xo, .inr (2, [.ref q7, .null, .int 0, .int 0])), (q7, .inl (g.2.1 1, 60, .inl (fun _ => 0))), (q15, .inl (g.2.1 0, 60, .inl (fun _ => 0)))] := hD
  refine pF_X2_X2_cells hF (hin rfl) hP hD hS 0 rfl (Nat.le_of_ble_eq_true rfl) dX2_init_17 (fun H locs hP hD hS => ?_)
  have hP : va_P g.1 vwCl [(xo, .inr (2, [.ref q7, .ref q15, .int 0, .int 0])), (q7, .inl (g.2.1 1, 60, .inl (fun _ => 0))), (q15, .inl (g.2.1 0, 60, .inl (fun _ => 0)))] H := hP
  have hD : va_D (va_A [(xo, .inr (2, [.null, .null, .int 0, .int 0]))] s.heap.size) [(xo, .inr (2, [.ref q7, .ref q15, .int 0, .int 0])), (q7, .inl (g.2.1 1, 60, .inl (fun _ => 0))), (q15, .inl (g.2.1 0, 60, .inl (fun _ => 0)))] := (va_D_eqL [xo, q7, q15] rfl rfl hD)
  refine lv_aload_n hx hb dX2_init_20 rfl (lv_at hl 0 rfl) ?_
  refine xN_const hx hb 0 dX2_init_21 (by decide) ?_
  refine pf_X2_X2_length hF hP hD hS 0 rfl (Nat.le_of_ble_eq_true rfl) dX2_init_22 (fun H locs hP hS => ?_)
  have hP : va_P g.1 vwCl [(xo, .inr (2, [.ref q7, .ref q15, .int (nI 0), .int 0])), (q7, .inl (g.2.1 1, 60, .inl (fun _ => 0))), (q15, .inl (g.2.1 0, 60, .inl (fun _ => 0)))] H := hP
  have hD : va_D (va_A [(xo, .inr (2, [.null, .null, .int 0, .int 0]))] s.heap.size) [(xo, .inr (2, [.ref q7, .ref q15, .int (nI 0), .int 0])), (q7, .inl (g.2.1 1, 60, .inl (fun _ => 0))), (q15, .inl (g.2.1 0, 60, .inl (fun _ => 0)))] := (va_D_eqL [xo, q7, q15] rfl rfl hD)
  refine lv_aload_n hx hb dX2_init_25 rfl (lv_at hl 0 rfl) ?_
  refine xN_const hx hb 0 dX2_init_26 (by decide) ?_
  refine pf_X2_X2_cellsRead hF hP hD hS 0 rfl (Nat.le_of_ble_eq_true rfl) dX2_init_27 (fun H locs hP hS => ?_)
  have hP : va_P g.1 vwCl [(xo, .inr (2, [.ref q7, .ref q15, .int (nI 0), .int (nI 0)])), (q7, .inl (g.2.1 1, 60, .inl (fun _ => 0))), (q15, .inl (g.2.1 0, 60, .inl (fun _ => 0)))] H := hP
  have hD : va_D (va_A [(xo, .inr (2, [.null, .null, .int 0, .int 0]))] s.heap.size) [(xo, .inr (2, [.ref q7, .ref q15, .int (nI 0), .int (nI 0)])), (q7, .inl (g.2.1 1, 60, .inl (fun _ => 0))), (q15, .inl (g.2.1 0, 60, .inl (fun _ => 0)))] := (va_D_eqL [xo, q7, q15] rfl rfl hD)
  exact xend_v hF hret hlocks hS (⟨_, _, hP, hD⟩) dX2_init_30
set_option maxHeartbeats 4000000 in
set_option maxRecDepth 100000 in
theorem c_X1_init (l : Launch) (g : XG) (ao sz : Nat) (h1B : xB g ao) (h2B : xB g sz) : Met l yX1_init (ww yX1_init cX1_init 1 none) ({ frames := 1, cells := 3, slots := 984, locals := 30 }) (xP g [.ref ao] (fun H => H.size = sz ∧ va_P g.1 vwCl [(ao, .inr (1, [.null, .null, .null, .int 0, .int 0, .int 0, .int 0]))] H)) (xQv (fun H => ∃ e c u : Nat, va_P g.1 vwCl [(ao, .inr (1, [.ref e, .ref c, .ref u, .int (nI 0), .int (nI 12), .int (nI 0), .int (nI 4)])), (e, .inl (g.2.1 0, 768, .inl (fun _ => 0))), (c, .inl (g.2.1 0, 192, .inl (fun _ => 0))), (u, .inl (g.2.1 0, 24, .inl (fil (fun _ => 0) (-5) 24)))] H ∧ va_D (va_A [(ao, .inr (1, [.null, .null, .null, .int 0, .int 0, .int 0, .int 0]))] sz) [(ao, .inr (1, [.ref e, .ref c, .ref u, .int (nI 0), .int (nI 12), .int (nI 0), .int (nI 4)])), (e, .inl (g.2.1 0, 768, .inl (fun _ => 0))), (c, .inl (g.2.1 0, 192, .inl (fun _ => 0))), (u, .inl (g.2.1 0, 24, .inl (fil (fun _ => 0) (-5) 24)))]) (va_A [(ao, .inr (1, [.null, .null, .null, .int 0, .int 0, .int 0, .int 0]))] sz)) 3 984 (va_A [(ao, .inr (1, [.null, .null, .null, .int 0, .int 0, .int 0, .int 0]))] sz) := by
  refine xMet (by decide) rfl (Nat.le_of_ble_eq_true rfl) ?_
  intro p e s m below meth c ls hF hZ hh hret hlocks hin hl
  have hx := hF.1.1
  have hb := hF.1.2.1
  obtain ⟨hsz, hP⟩ := hh
  subst hsz
  have hA : ∀ q, s.heap.size ≤ q → (va_A [(ao, .inr (1, [.null, .null, .null, .int 0, .int 0, .int 0, .int 0]))] s.heap.size) q := fun q h => Or.inr h
  have hAB : ∀ q, (va_A [(ao, .inr (1, [.null, .null, .null, .int 0, .int 0, .int 0, .int 0]))] s.heap.size) q → xB g q := va_AB h1B h2B
  have hS : va_S (va_A [(ao, .inr (1, [.null, .null, .null, .int 0, .int 0, .int 0, .int 0]))] s.heap.size) s.heap s.heap [] := va_S.rf
  have hD : va_D (va_A [(ao, .inr (1, [.null, .null, .null, .int 0, .int 0, .int 0, .int 0]))] s.heap.size) [(ao, .inr (1, [.null, .null, .null, .int 0, .int 0, .int 0, .int 0]))] := va_D1
  have hl : lv_has ls 1 [(0, .ref ao)] := hl
  have hP : va_P g.1 vwCl [(ao, .inr (1, [.null, .null, .null, .int 0, .int 0, .int 0, .int 0]))] s.heap := hP
  obtain ⟨H, hHe⟩ : ∃ H, H = s.heap := ⟨_, rfl⟩
  obtain ⟨locs, hLe⟩ : ∃ locs : List Loc, locs = [] := ⟨_, rfl⟩
  have hP : va_P g.1 vwCl [(ao, .inr (1, [.null, .null, .null, .int 0, .int 0, .int 0, .int 0]))] H := by rw [hHe]; exact hP
  have hS : va_S (va_A [(ao, .inr (1, [.null, .null, .null, .int 0, .int 0, .int 0, .int 0]))] s.heap.size) s.heap H locs := by rw [hHe, hLe]; exact hS
  refine Eq.mp (congrArg (fun x : Heap × List Loc => W p l e _ s m _ below meth c x.1 x.2 0 0 _ (F0 m 0 ls [])) (show (H, locs) = (s.heap, []) by rw [hHe, hLe])) ?_
  clear hHe hLe
  show W p l e _ s m _ below meth c H locs 0 0 _ (F0 m 0 ls [])
  refine lv_aload_n hx hb dX1_init_0 rfl (lv_at hl 0 rfl) ?_
  refine xobj hF hl.1 q_30 ⟨Nat.le_of_ble_eq_true rfl, Nat.le_of_ble_eq_true rfl⟩ dX1_init_1 ?_
  refine lv_aload_n hx hb dX1_init_4 rfl (lv_at hl 0 rfl) ?_
  refine xN_si hx hb 768 dX1_init_5 (by decide) ?_
  refine xnewi hF hP hD hS hA 768 (by decide) (Nat.le_of_ble_eq_true rfl) (Nat.le_of_ble_eq_true rfl) dX1_init_8 (fun q8 H hP hD hS => ?_)
  have hP : va_P g.1 vwCl [(ao, .inr (1, [.null, .null, .null, .int 0, .int 0, .int 0, .int 0])), (q8, .inl (g.2.1 0, 768, .inl (fun _ => 0)))] H := hP
  have hD : va_D (va_A [(ao, .inr (1, [.null, .null, .null, .int 0, .int 0, .int 0, .int 0]))] s.heap.size) [(ao, .inr (1, [.null, .null, .null, .int 0, .int 0, .int 0, .int 0])), (q8, .inl (g.2.1 0, 768, .inl (fun _ => 0)))] := hD
  refine pF_X1_X1_entries hF (hin rfl) hP hD hS 0 rfl (Nat.le_of_ble_eq_true rfl) dX1_init_10 (fun H locs hP hD hS => ?_)
  have hP : va_P g.1 vwCl [(ao, .inr (1, [.ref q8, .null, .null, .int 0, .int 0, .int 0, .int 0])), (q8, .inl (g.2.1 0, 768, .inl (fun _ => 0)))] H := hP
  have hD : va_D (va_A [(ao, .inr (1, [.null, .null, .null, .int 0, .int 0, .int 0, .int 0]))] s.heap.size) [(ao, .inr (1, [.ref q8, .null, .null, .int 0, .int 0, .int 0, .int 0])), (q8, .inl (g.2.1 0, 768, .inl (fun _ => 0)))] := (va_D_eqL [ao, q8] rfl rfl hD)
  refine lv_aload_n hx hb dX1_init_13 rfl (lv_at hl 0 rfl) ?_
  refine xN_si hx hb 192 dX1_init_14 (by decide) ?_
  refine xnewi hF hP hD hS hA 192 (by decide) (Nat.le_of_ble_eq_true rfl) (Nat.le_of_ble_eq_true rfl) dX1_init_17 (fun q17 H hP hD hS => ?_)
  have hP : va_P g.1 vwCl [(ao, .inr (1, [.ref q8, .null, .null, .int 0, .int 0, .int 0, .int 0])), (q8, .inl (g.2.1 0, 768, .inl (fun _ => 0))), (q17, .inl (g.2.1 0, 192, .inl (fun _ => 0)))] H := hP
  have hD : va_D (va_A [(ao, .inr (1, [.null, .null, .null, .int 0, .int 0, .int 0, .int 0]))] s.heap.size) [(ao, .inr (1, [.ref q8, .null, .null, .int 0, .int 0, .int 0, .int 0])), (q8, .inl (g.2.1 0, 768, .inl (fun _ => 0))), (q17, .inl (g.2.1 0, 192, .inl (fun _ => 0)))] := hD
  refine pF_X1_X1_entryCounts hF (hin rfl) hP hD hS 0 rfl (Nat.le_of_ble_eq_true rfl) dX1_init_19 (fun H locs hP hD hS => ?_)
  have hP : va_P g.1 vwCl [(ao, .inr (1, [.ref q8, .ref q17, .null, .int 0, .int 0, .int 0, .int 0])), (q8, .inl (g.2.1 0, 768, .inl (fun _ => 0))), (q17, .inl (g.2.1 0, 192, .inl (fun _ => 0)))] H := hP
  have hD : va_D (va_A [(ao, .inr (1, [.null, .null, .null, .int 0, .int 0, .int 0, .int 0]))] s.heap.size) [(ao, .inr (1, [.ref q8, .ref q17, .null, .int 0, .int 0, .int 0, .int 0])), (q8, .inl (g.2.1 0, 768, .inl (fun _ => 0))), (q17, .inl (g.2.1 0, 192, .inl (fun _ => 0)))] := (va_D_eqL [ao, q8, q17] rfl rfl hD)
  refine lv_aload_n hx hb dX1_init_22 rfl (lv_at hl 0 rfl) ?_
  refine xN_bi hx hb 24 dX1_init_23 (by decide) ?_
  refine xnewi hF hP hD hS hA 24 (by decide) (Nat.le_of_ble_eq_true rfl) (Nat.le_of_ble_eq_true rfl) dX1_init_25 (fun q25 H hP hD hS => ?_)
  have hP : va_P g.1 vwCl [(ao, .inr (1, [.ref q8, .ref q17, .null, .int 0, .int 0, .int 0, .int 0])), (q8, .inl (g.2.1 0, 768, .inl (fun _ => 0))), (q17, .inl (g.2.1 0, 192, .inl (fun _ => 0))), (q25, .inl (g.2.1 0, 24, .inl (fun _ => 0)))] H := hP
  have hD : va_D (va_A [(ao, .inr (1, [.null, .null, .null, .int 0, .int 0, .int 0, .int 0]))] s.heap.size) [(ao, .inr (1, [.ref q8, .ref q17, .null, .int 0, .int 0, .int 0, .int 0])), (q8, .inl (g.2.1 0, 768, .inl (fun _ => 0))), (q17, .inl (g.2.1 0, 192, .inl (fun _ => 0))), (q25, .inl (g.2.1 0, 24, .inl (fun _ => 0)))] := hD
  refine pF_X1_X1_sums hF (hin rfl) hP hD hS 0 rfl (Nat.le_of_ble_eq_true rfl) dX1_init_27 (fun H locs hP hD hS => ?_)
  have hP : va_P g.1 vwCl [(ao, .inr (1, [.ref q8, .ref q17, .ref q25, .int 0, .int 0, .int 0, .int 0])), (q8, .inl (g.2.1 0, 768, .inl (fun _ => 0))), (q17, .inl (g.2.1 0, 192, .inl (fun _ => 0))), (q25, .inl (g.2.1 0, 24, .inl (fun _ => 0)))] H := hP
  have hD : va_D (va_A [(ao, .inr (1, [.null, .null, .null, .int 0, .int 0, .int 0, .int 0]))] s.heap.size) [(ao, .inr (1, [.ref q8, .ref q17, .ref q25, .int 0, .int 0, .int 0, .int 0])), (q8, .inl (g.2.1 0, 768, .inl (fun _ => 0))), (q17, .inl (g.2.1 0, 192, .inl (fun _ => 0))), (q25, .inl (g.2.1 0, 24, .inl (fun _ => 0)))] := (va_D_eqL [ao, q8, q17, q25] rfl rfl hD)
  refine lv_aload_n hx hb dX1_init_30 rfl (lv_at hl 0 rfl) ?_
  refine gf_X1_X1_sums hF hP 0 rfl rfl dX1_init_31 ?_
  refine lv_bipush hx hb (v := (-5)) dX1_init_34 (by decide) ?_
  have hAk : (va_A [(ao, .inr (1, [.null, .null, .null, .int 0, .int 0, .int 0, .int 0]))] s.heap.size) q25 := hD.2 3 _ rfl
  refine xcv (xrS hF (c_J7_fill_53178 l g q25 24 (fun _ => 0) ((-5)) (by decide) (hD.self2 [3] (by decide) rfl) (xin1 (hAB _ hAk))) cal_J7_fill_53178 q_38 ⟨Nat.le_of_ble_eq_true rfl, Nat.le_of_ble_eq_true rfl⟩ rfl rfl rfl (hZ.at hS hAB) (hP.sub [3] rfl) hl.1 rfl (Nat.le_of_ble_eq_true rfl) dX1_init_36 ⟨Nat.le_of_ble_eq_true rfl, Nat.le_of_ble_eq_true rfl⟩) hS (xin1 hAk) (xin1 hAk) (fun H locs hq_ hz_ hk_ hS => ?_)
  have hP : va_P g.1 vwCl [(ao, .inr (1, [.ref q8, .ref q17, .ref q25, .int 0, .int 0, .int 0, .int 0])), (q8, .inl (g.2.1 0, 768, .inl (fun _ => 0))), (q17, .inl (g.2.1 0, 192, .inl (fun _ => 0))), (q25, .inl (g.2.1 0, 24, .inl (fil (fun _ => 0) ((-5)) 24)))] H := xjoin hP hD hq_ hk_ [3] [(false, 0), (false, 1), (false, 2), (true, 0)] rfl rfl rfl
  have hD : va_D (va_A [(ao, .inr (1, [.null, .null, .null, .int 0, .int 0, .int 0, .int 0]))] s.heap.size) [(ao, .inr (1, [.ref q8, .ref q17, .ref q25, .int 0, .int 0, .int 0, .int 0])), (q8, .inl (g.2.1 0, 768, .inl (fun _ => 0))), (q17, .inl (g.2.1 0, 192, .inl (fun _ => 0))), (q25, .inl (g.2.1 0, 24, .inl (fil (fun _ => 0) ((-5)) 24)))] := va_D_eqL [ao, q8, q17, q25] rfl rfl hD
  refine lv_aload_n hx hb dX1_init_39 rfl (lv_at hl 0 rfl) ?_
  refine xN_const hx hb 0 dX1_init_40 (by decide) ?_
  refine pf_X1_X1_rows hF hP hD hS 0 rfl (Nat.le_of_ble_eq_true rfl) dX1_init_41 (fun H locs hP hS => ?_)
  have hP : va_P g.1 vwCl [(ao, .inr (1, [.ref q8, .ref q17, .ref q25, .int (nI 0), .int 0, .int 0, .int 0])), (q8, .inl (g.2.1 0, 768, .inl (fun _ => 0))), (q17, .inl (g.2.1 0, 192, .inl (fun _ => 0))), (q25, .inl (g.2.1 0, 24, .inl (fil (fun _ => 0) ((-5)) 24)))] H := hP
  have hD : va_D (va_A [(ao, .inr (1, [.null, .null, .null, .int 0, .int 0, .int 0, .int 0]))] s.heap.size) [(ao, .inr (1, [.ref q8, .ref q17, .ref q25, .int (nI 0), .int 0, .int 0, .int 0])), (q8, .inl (g.2.1 0, 768, .inl (fun _ => 0))), (q17, .inl (g.2.1 0, 192, .inl (fun _ => 0))), (q25, .inl (g.2.1 0, 24, .inl (fil (fun _ => 0) ((-5)) 24)))] := (va_D_eqL [ao, q8, q17, q25] rfl rfl hD)
  refine lv_aload_n hx hb dX1_init_44 rfl (lv_at hl 0 rfl) ?_
  refine xN_bi hx hb 12 dX1_init_45 (by decide) ?_
  refine pf_X1_X1_pageRows hF hP hD hS 0 rfl (Nat.le_of_ble_eq_true rfl) dX1_init_47 (fun H locs hP hS => ?_)
  have hP : va_P g.1 vwCl [(ao, .inr (1, [.ref q8, .ref q17, .ref q25, .int (nI 0), .int (nI 12), .int 0, .int 0])), (q8, .inl (g.2.1 0, 768, .inl (fun _ => 0))), (q17, .inl (g.2.1 0, 192, .inl (fun _ => 0))), (q25, .inl (g.2.1 0, 24, .inl (fil (fun _ => 0) ((-5)) 24)))] H := hP
  have hD : va_D (va_A [(ao, .inr (1, [.null, .null, .null, .int 0, .int 0, .int 0, .int 0]))] s.heap.size) [(ao, .inr (1, [.ref q8, .ref q17, .ref q25, .int (nI 0), .int (nI 12), .int 0, .int 0])), (q8, .inl (g.2.1 0, 768, .inl (fun _ => 0))), (q17, .inl (g.2.1 0, 192, .inl (fun _ => 0))), (q25, .inl (g.2.1 0, 24, .inl (fil (fun _ => 0) ((-5)) 24)))] := (va_D_eqL [ao, q8, q17, q25] rfl rfl hD)
  refine lv_aload_n hx hb dX1_init_50 rfl (lv_at hl 0 rfl) ?_
  refine xN_const hx hb 0 dX1_init_51 (by decide) ?_
  refine pf_X1_X1_stopsAtPages hF hP hD hS 0 rfl (Nat.le_of_ble_eq_true rfl) dX1_init_52 (fun H locs hP hS => ?_)
  have hP : va_P g.1 vwCl [(ao, .inr (1, [.ref q8, .ref q17, .ref q25, .int (nI 0), .int (nI 12), .int (nI 0), .int 0])), (q8, .inl (g.2.1 0, 768, .inl (fun _ => 0))), (q17, .inl (g.2.1 0, 192, .inl (fun _ => 0))), (q25, .inl (g.2.1 0, 24, .inl (fil (fun _ => 0) ((-5)) 24)))] H := hP
  have hD : va_D (va_A [(ao, .inr (1, [.null, .null, .null, .int 0, .int 0, .int 0, .int 0]))] s.heap.size) [(ao, .inr (1, [.ref q8, .ref q17, .ref q25, .int (nI 0), .int (nI 12), .int (nI 0), .int 0])), (q8, .inl (g.2.1 0, 768, .inl (fun _ => 0))), (q17, .inl (g.2.1 0, 192, .inl (fun _ => 0))), (q25, .inl (g.2.1 0, 24, .inl (fil (fun _ => 0) ((-5)) 24)))] := (va_D_eqL [ao, q8, q17, q25] rfl rfl hD)
  refine lv_aload_n hx hb dX1_init_55 rfl (lv_at hl 0 rfl) ?_
  refine xN_const hx hb 4 dX1_init_56 (by decide) ?_
  refine pf_X1_X1_watchRows hF hP hD hS 0 rfl (Nat.le_of_ble_eq_true rfl) dX1_init_57 (fun H locs hP hS => ?_)
  have hP : va_P g.1 vwCl [(ao, .inr (1, [.ref q8, .ref q17, .ref q25, .int (nI 0), .int (nI 12), .int (nI 0), .int (nI 4)])), (q8, .inl (g.2.1 0, 768, .inl (fun _ => 0))), (q17, .inl (g.2.1 0, 192, .inl (fun _ => 0))), (q25, .inl (g.2.1 0, 24, .inl (fil (fun _ => 0) ((-5)) 24)))] H := hP
  have hD : va_D (va_A [(ao, .inr (1, [.null, .null, .null, .int 0, .int 0, .int 0, .int 0]))] s.heap.size) [(ao, .inr (1, [.ref q8, .ref q17, .ref q25, .int (nI 0), .int (nI 12), .int (nI 0), .int (nI 4)])), (q8, .inl (g.2.1 0, 768, .inl (fun _ => 0))), (q17, .inl (g.2.1 0, 192, .inl (fun _ => 0))), (q25, .inl (g.2.1 0, 24, .inl (fil (fun _ => 0) ((-5)) 24)))] := (va_D_eqL [ao, q8, q17, q25] rfl rfl hD)
  exact xend_v hF hret hlocks hS (⟨_, _, _, hP, hD⟩) dX1_init_60
