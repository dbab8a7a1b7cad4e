/-! Float's own methods, and the reference's square -/
theorem Met.ofWF {l : Launch} {y : MethodName} {ws ws' : List Cond} {rm : Room} {Pc : Array Value → State → Prop} {Qc : Array Value → State → Outcome → State → Prop} {mc ms : Nat} {free : Addr → Prop} {cc : ByteArray} {maxL : Nat} {ret : Option FieldType}
    (hy : plainFor y = true) (hw : ws = Cond.code y cc maxL ret :: ws')
    (body : ∀ p e s m args below meth c s₁, BodyLoose p l y (headSpec ws rm) cc maxL ret e s m args below meth c s₁ → c.maxLocals = maxL → Pc args s →
      W p l e (headSpec ws rm).room s m args below meth c s.heap [] 0 0 (MQ below Qc args s mc ms free) (entryFrame m args maxL)) : Met l y ws rm Pc Qc mc ms free := by
  refine MetFree.of_bodySF (code := cc) (maxLocals := maxL) (ret := ret) hy ?_ ?_
  · intro args s m h hn
    obtain ⟨meth, c, h1, h2, h3, h4, h5, h6, -, -⟩ := Cond.code_spec hn (atoms_spec (ws := ws) h _ (by rw [hw]; exact List.mem_cons_self))
    exact ⟨meth, c, h1, h2, h3, h4, h5, h6⟩
  · intro p e s m args below meth c s₁ B hml hP _
    have hh0 : s₁.heap = s.heap := by rw [B.state]; rfl
    obtain ⟨t, a1, o, b1, b2, b3⟩ := body p e s m args below meth c s₁ B hml hP s₁ hh0 (Stand.of_body B)
    exact ⟨t, o, a1, b1, b2, ⟨b3.1, b3.2⟩⟩
theorem xMetF {l : Launch} {g : XG} {own : String} {cc : ByteArray} {y : MethodName} {maxL mc ms : Nat} {ret : Option FieldType} {rm : Room} {Qc : Array Value → State → Outcome → State → Prop} {free : Addr → Prop} {As : List Value} {hp : Heap → Prop} (hy : plainFor y = true) (hyc : y.cls = own) (hsz : (lg_sl As).length ≤ maxL)
    (body : ∀ (p : Program) (e : Env) (s : State) (m : MethodId) (below : List Frame) (meth : Method) (c : Code) (ls : Array Slot), FX p s m As.toArray c cc maxL own g → ZS g s s.heap → hp s.heap → meth.sig.returnType = ret → meth.locks = false → (y.name = "<init>" → meth.name = "<init>") → lv_has ls maxL (lv_args 0 As) → W p l e rm s m As.toArray below meth c s.heap [] 0 0 (MQ below Qc As.toArray s mc ms free) (F0 m 0 ls [])) : Met l y (ww y cc maxL ret) rm (xP g As hp) Qc mc ms free := by
  refine Met.ofWF (cc := cc) (maxL := maxL) (ret := ret) hy rfl ?_
  intro p e s m args below meth c s₁ B hml hv
  obtain ⟨rfl, hK, hZ, hh⟩ := hv
  rw [lg_entry_eq]
  exact body p e s m below meth c _ (FX.of B.exec B.bytes hml (by rw [← hyc]; exact findClass_of_methodNamed B.named) (atoms_spec (ws := ww y cc maxL ret) B.pre) hK) hZ hh B.returns B.notSynchronized (fun q => (name_of_methodNamed B.named B.method).1.trans q) (lv_entry As hsz)
set_option maxHeartbeats 4000000 in
set_option maxRecDepth 100000 in
theorem c_Jxf58ca_isNaN_12338 (l : Launch) (g : XG) (x : UInt32) (hv : FP.Core.val32 x ≠ .nan) : Met l yJxf58ca_isNaN_12338 (ww yJxf58ca_isNaN_12338 cJxf58ca_isNaN_12338 1 (some .boolean)) (rmD 0) (xP g [.float (x)] (fun H => True)) (vp_Si (fun r9 => r9 = xz false)) 0 0 (fun _ => False) := by
  refine xMetF (by decide +kernel) rfl (Nat.le_of_ble_eq_true rfl) ?_
  intro p e s m below meth c ls hF hZ hh hret hlocks hin hl
  have hx := hF.1.1
  have hb := hF.1.2.1
  have hl : lv_has ls 1 [(0, .float (x))] := hl
  refine lv_fload_n hx hb dJxf58ca_isNaN_12338_0 rfl (lv_at hl 0 rfl) ?_
  refine lv_fload_n hx hb dJxf58ca_isNaN_12338_1 rfl (lv_at hl 0 rfl) ?_
  refine lv_fcmp hx hb dJxf58ca_isNaN_12338_2 ?_
  refine lv_if_eq (tgt := 10) hx hb dJxf58ca_isNaN_12338_3 (by decide) (fun c_3 => ?_) (fun c_3 => absurd (by rw [fcmp_self hv]; rfl) c_3)
  refine xN_const hx hb 0 dJxf58ca_isNaN_12338_10 (by decide) ?_
  exact xret_t (V := nI (0)) hF hret hlocks rfl (rfl) dJxf58ca_isNaN_12338_11
set_option maxHeartbeats 4000000 in
set_option maxRecDepth 100000 in
theorem c_Jxf58ca_floatToIntBits_5c35a (l : Launch) (g : XG) (x : UInt32) (hv : FP.Core.val32 x ≠ .nan) : Met l yJxf58ca_floatToIntBits_5c35a (ww yJxf58ca_floatToIntBits_5c35a cJxf58ca_floatToIntBits_5c35a 1 (some .int)) (rmD 1) (xP g [.float (x)] (fun H => True)) (vp_Si (fun r9 => r9 = x.toInt32)) 0 0 (fun _ => False) := by
  refine xMetF (by decide +kernel) rfl (Nat.le_of_ble_eq_true rfl) ?_
  intro p e s m below meth c ls hF hZ hh hret hlocks hin hl
  have hx := hF.1.1
  have hb := hF.1.2.1
  have hl : lv_has ls 1 [(0, .float (x))] := hl
  refine lv_fload_n hx hb dJxf58ca_floatToIntBits_5c35a_0 rfl (lv_at hl 0 rfl) ?_
  refine vp_callSi (va_Run.run (xrS hF (c_Jxf58ca_isNaN_12338 l g x hv) cal_Jxf58ca_isNaN_12338 q_631 ⟨by decide, by decide⟩ rfl rfl rfl hZ (trivial) hl.1 rfl (Nat.le_of_ble_eq_true rfl) dJxf58ca_floatToIntBits_5c35a_1 ⟨Nat.le_refl _, Nat.le_refl _⟩)) (fun r_ h_ => ?_)
  subst h_
  refine xZ_ne (tgt := 12) hx hb dJxf58ca_floatToIntBits_5c35a_4 (by decide) (fun c_4 => absurd c_4 (by decide)) (fun c_4 => ?_)
  refine lv_fload_n hx hb dJxf58ca_floatToIntBits_5c35a_7 rfl (lv_at hl 0 rfl) ?_
  refine vn_f2i hx hb (hF.1.2.2.1.trans hl.1.symm) hF.1.2.2.2.1 (hF.1.2.2.2.2 _ q_626) (hF.1.2.2.2.2 _ q_627) (hF.1.2.2.2.2 _ q_628) (hF.1.2.2.2.2 _ q_629) (Nat.le_of_ble_eq_true rfl) (Nat.le_of_ble_eq_true rfl) dJxf58ca_floatToIntBits_5c35a_8 ?_
  exact xret_i (V := (x.toInt32)) hF hret hlocks (rfl) dJxf58ca_floatToIntBits_5c35a_11
set_option maxHeartbeats 4000000 in
set_option maxRecDepth 100000 in
theorem c_X4_square (l : Launch) (g : XG) (mo mn mp mq mt mm md zs zl zp zr : Nat) (zk : Bool) (w : Nat → Int32) (hW : WF w) (a b : Nat) (hab : a ≤ b) (hb9 : b < nr w) : Met l yX4_square (ww yX4_square cX4_square 7 (some .int)) (rmD 7) (xP g [.ref mo, .int (nI a), .int (nI b)] (fun H => va_P g.1 vwCl (ModC g mo mn mp mq mt mm md zs zl zp zr zk w) H)) (vp_Si (fun r9 => r9 = (sqF w a (b + 1)).toInt32)) 0 0 (fun _ => False) := by
  refine xMet (by decide) rfl (Nat.le_of_ble_eq_true rfl) ?_
  intro p e s m below meth c ls hF hZ hh hret hlocks hin hl
  have hx := hF.1.1
  have hb := hF.1.2.1
  have hP := hh
  have hP : va_P g.1 vwCl (ModC g mo mn mp mq mt mm md zs zl zp zr zk w) s.heap := hP
  have hl : lv_has ls 7 [(0, .ref mo), (1, .int (nI a)), (2, .int (nI b))] := hl
  have h48 := hW.n48
  have hp4 := hW.pg4
  have hp12 := hW.pg12
  have hs1 := hW.st1
  have hw2 := hW.wr2
  have hw6 := hW.wr6
  obtain ⟨d1, d2, c9, q9, hv⟩ := sqF_fin hW (a := a) (b := b + 1) (by omega) (by omega)
  refine lv_aload_n hx hb dX4_square_0 rfl (lv_at hl 0 rfl) ?_
  refine lv_iload_n hx hb dX4_square_1 rfl (lv_at hl 1 rfl) ?_
  refine lv_iload_n hx hb dX4_square_2 rfl (lv_at hl 2 rfl) ?_
  refine xN_const hx hb 0 dX4_square_3 (by decide) ?_
  refine W.eq (g2 := F0 m 4 ls [.int (nI 0), .int (nI (b + 1) - nI 1), .int (nI a), .ref mo]) (by rw [xE_pred]) ?_
  refine vp_callSd (va_Run.run (xrV hF (c_X4_brings l g mo mn mp mq mt mm md zs zl zp zr zk w hW a (b + 1) (by omega) (by omega) 0 (by omega)) cal_X4_brings q_586 ⟨by decide, by decide⟩ rfl rfl rfl (va_recv hF.2.1 hP (ci := 4) (q0 := 0) rfl rfl) hZ (hP) hl.1 rfl (Nat.le_of_ble_eq_true rfl) dX4_square_4 ⟨Nat.le_refl _, Nat.le_refl _⟩)) (fun r_ h_ => ?_)
  subst h_
  refine lv_dstore_n (lv' := [(3, .double (way w 0 a ((b + 1) - a))), (0, .ref mo), (1, .int (nI a)), (2, .int (nI b))]) hx hb dX4_square_7 rfl hl (by decide) rfl (fun ls hl => ?_)
  refine lv_aload_n hx hb dX4_square_8 rfl (lv_at hl 1 rfl) ?_
  refine lv_iload_n hx hb dX4_square_9 rfl (lv_at hl 2 rfl) ?_
  refine lv_iload_n hx hb dX4_square_10 rfl (lv_at hl 3 rfl) ?_
  refine xN_bi hx hb 6 dX4_square_11 (by decide) ?_
  refine W.eq (g2 := F0 m 13 ls [.int (nI 6), .int (nI (b + 1) - nI 1), .int (nI a), .ref mo]) (by rw [xE_pred]) ?_
  refine vp_callSd (va_Run.run (xrV hF (c_X4_brings l g mo mn mp mq mt mm md zs zl zp zr zk w hW a (b + 1) (by omega) (by omega) 6 (by omega)) cal_X4_brings q_586 ⟨by decide, by decide⟩ rfl rfl rfl (va_recv hF.2.1 hP (ci := 4) (q0 := 0) rfl rfl) hZ (hP) hl.1 rfl (Nat.le_of_ble_eq_true rfl) dX4_square_13 ⟨Nat.le_refl _, Nat.le_refl _⟩)) (fun r_ h_ => ?_)
  subst h_
  refine lv_dstore (lv' := [(5, .double (way w 6 a ((b + 1) - a))), (3, .double (way w 0 a ((b + 1) - a))), (0, .ref mo), (1, .int (nI a)), (2, .int (nI b))]) hx hb dX4_square_16 hl (by decide) rfl (fun ls hl => ?_)
  refine lv_dload_n hx hb dX4_square_18 rfl (lv_at hl 1 rfl) ?_
  refine lv_dload_n hx hb dX4_square_19 rfl (lv_at hl 1 rfl) ?_
  refine lv_dmul hx hb dX4_square_20 ((d1.mul d1 (by decide)).n64) ?_
  refine lv_dload hx hb dX4_square_21 (lv_at hl 0 rfl) ?_
  refine lv_dload hx hb dX4_square_23 (lv_at hl 0 rfl) ?_
  refine lv_dmul hx hb dX4_square_25 ((d2.mul d2 (by decide)).n64) ?_
  refine lv_dadd hx hb dX4_square_26 (((d1.mul d1 (by decide)).add (d2.mul d2 (by decide)) (by decide)).n64) ?_
  refine lv_d2f hx hb dX4_square_27 (n32_of (by intro h9; have h8 := hv; unfold sqF at h8; rw [h8] at h9; cases h9)) ?_
  refine vp_callSi (va_Run.run (xrS hF (c_Jxf58ca_floatToIntBits_5c35a l g (sqF w a (b + 1)) (by rw [hv]; exact FP.Core.Datum.noConfusion)) cal_Jxf58ca_floatToIntBits_5c35a q_622 ⟨by decide, by decide⟩ rfl rfl rfl hZ (trivial) hl.1 rfl (Nat.le_of_ble_eq_true rfl) dX4_square_28 ⟨Nat.le_refl _, Nat.le_refl _⟩)) (fun r_ h_ => ?_)
  subst h_
  exact xret_i (V := ((sqF w a (b + 1)).toInt32)) hF hret hlocks (rfl) dX4_square_31
set_option maxHeartbeats 4000000 in
set_option maxRecDepth 100000 in
theorem c_X4_squareBits (l : Launch) (g : XG) (mo mn mp mq mt mm md zs zl zp zr : Nat) (zk : Bool) (w : Nat → Int32) (hW : WF w) (x y : Int32) : Met l yX4_squareBits (ww yX4_squareBits cX4_squareBits 4 (some .int)) (rmD 8) (xP g [.ref mo, .int (x), .int (y)] (fun H => va_P g.1 vwCl (ModC g mo mn mp mq mt mm md zs zl zp zr zk w) H)) (vp_Si (fun r9 => r9 = sqA w x y)) 0 0 (fun _ => False) := by
  refine xMet (by decide) rfl (Nat.le_of_ble_eq_true rfl) ?_
  intro p e s m below meth c ls hF hZ hh hret hlocks hin hl
  have hx := hF.1.1
  have hb := hF.1.2.1
  have hP := hh
  have hP : va_P g.1 vwCl (ModC g mo mn mp mq mt mm md zs zl zp zr zk w) s.heap := hP
  have hl : lv_has ls 4 [(0, .ref mo), (1, .int (x)), (2, .int (y))] := hl
  have h48 := hW.n48
  have hp4 := hW.pg4
  have hp12 := hW.pg12
  have hs1 := hW.st1
  have hw2 := hW.wr2
  have hw6 := hW.wr6
  refine lv_aload_n hx hb dX4_squareBits_0 rfl (lv_at hl 0 rfl) ?_
  refine lv_iload_n hx hb dX4_squareBits_1 rfl (lv_at hl 1 rfl) ?_
  refine lv_iload_n hx hb dX4_squareBits_2 rfl (lv_at hl 2 rfl) ?_
  refine vp_callSi (va_Run.run (xrV hF (c_X4_mayGo l g mo mn mp mq mt mm md zs zl zp zr zk w hW ((x)) ((y)) ) cal_X4_mayGo q_560 ⟨by decide, by decide⟩ rfl rfl rfl (va_recv hF.2.1 hP (ci := 4) (q0 := 0) rfl rfl) hZ (hP) hl.1 rfl (Nat.le_of_ble_eq_true rfl) dX4_squareBits_3 ⟨Nat.le_refl _, Nat.le_refl _⟩)) (fun r_ h_ => ?_)
  subst h_
  refine lv_istore_n (lv' := [(3, .int (mg w ((x)) ((y)))), (0, .ref mo), (1, .int (x)), (2, .int (y))]) hx hb dX4_squareBits_6 rfl hl (by decide) rfl (fun ls hl => ?_)
  refine lv_iload_n hx hb dX4_squareBits_7 rfl (lv_at hl 0 rfl) ?_
  refine lv_if_ge (tgt := 15) hx hb dX4_squareBits_8 (by decide) (fun c_8 => ?_) (fun c_8 => ?_)
  · have hrw : rwB w x y = true := (by cases h9 : rwB w x y with | true => rfl | false => exact absurd (mg_rw.mpr h9) (Int32.not_lt.mpr c_8))
    obtain ⟨a, b, rfl, rfl, hab9, hb9⟩ := rwB_of hW hrw
    have ea : (nI a).toNatClampNeg = a := nI_clamp (by omega)
    have eb : (nI b).toNatClampNeg = b := nI_clamp (by omega)
    refine lv_aload_n hx hb dX4_squareBits_15 rfl (lv_at hl 1 rfl) ?_
    refine lv_iload_n hx hb dX4_squareBits_16 rfl (lv_at hl 2 rfl) ?_
    refine lv_iload_n hx hb dX4_squareBits_17 rfl (lv_at hl 3 rfl) ?_
    refine vp_callSi (va_Run.run (xrV hF (c_X4_square l g mo mn mp mq mt mm md zs zl zp zr zk w hW a b (by omega) (by omega)) cal_X4_square q_618 ⟨by decide, by decide⟩ rfl rfl rfl (va_recv hF.2.1 hP (ci := 4) (q0 := 0) rfl rfl) hZ (hP) hl.1 rfl (Nat.le_of_ble_eq_true rfl) dX4_squareBits_18 ⟨Nat.le_refl _, Nat.le_refl _⟩)) (fun r_ h_ => ?_)
    subst h_
    exact xret_i (V := ((sqF w a (b + 1)).toInt32)) hF hret hlocks (by unfold sqA; rw [if_neg (Int32.not_lt.mpr c_8), ea, eb]) dX4_squareBits_21
  · refine lv_iload_n hx hb dX4_squareBits_11 rfl (lv_at hl 0 rfl) ?_
    refine lv_goto (tgt := 21) hx hb dX4_squareBits_12 (by decide) ?_
    exact xret_i (V := (mg w ((x)) ((y)))) hF hret hlocks (by unfold sqA; rw [if_pos (Int32.not_le.mp c_8)]) dX4_squareBits_21
