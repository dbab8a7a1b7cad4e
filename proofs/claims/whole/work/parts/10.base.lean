/-! the environment of every method: tables, nest words, the static arrays; rooms; rows over whole numbers -/
abbrev XG : Type := va_G × (Nat → ClassId) × (Nat → Nat)
abbrev xTy (g : XG) : List (ClassId × FieldType) := [(g.2.1 0, .int), (g.2.1 1, .char), (g.2.1 2, .object "DittoLog$Log")]
def xB (g : XG) : Nat → Prop := fun q => g.2.2 3 ≤ q
def cmax : Nat → Int32 := fun k => match k with
  | 0 => 7
  | 1 => 199
  | 2 => 12
  | _ => 9
def smin : Nat → Int32 := fun k => match k with
  | 0 => 4
  | 1 => 0
  | _ => 2
def smax : Nat → Int32 := fun k => match k with
  | 0 => 12
  | 1 => 1
  | _ => 6
def ZA (n : String) (t N : Nat) (f : Nat → Int32) (g : XG) (U : State) (H : Heap) : Prop := va_Z "DittoLog" n "[I" (.ref t) (xB g) U H ∧ va_T .int t N (fun j => .int (f j)) (xB g) U H
def ZS (g : XG) (U : State) (H : Heap) : Prop := ZA "COLUMN_MAX" (g.2.2 0) 4 cmax g U H ∧ ZA "SETTING_MIN" (g.2.2 1) 3 smin g U H ∧ ZA "SETTING_MAX" (g.2.2 2) 3 smax g U H
theorem ZA.moved {n : String} {t N : Nat} {f : Nat → Int32} {g : XG} {u U : State} {H : Heap} (hvm : u.vm.Alike U.vm) (h : ZA n t N f g u H) : ZA n t N f g U H := ⟨h.1.moved hvm, h.2.moved hvm⟩
theorem ZA.kept {n : String} {t N : Nat} {f : Nat → Int32} {g : XG} {U : State} {H H1 : Heap} (h : ZA n t N f g U H) (hq : ∀ a : Nat, a < H.size → ¬ xB g a → H1[a]? = H[a]?) : ZA n t N f g U H1 := ⟨h.1.kept hq, h.2.kept hq⟩
theorem ZS.moved {g : XG} {u U : State} {H : Heap} (hvm : u.vm.Alike U.vm) (h : ZS g u H) : ZS g U H := ⟨h.1.moved hvm, h.2.1.moved hvm, h.2.2.moved hvm⟩
theorem ZS.kept {g : XG} {U : State} {H H1 : Heap} (h : ZS g U H) (hq : ∀ a : Nat, a < H.size → ¬ xB g a → H1[a]? = H[a]?) : ZS g U H1 := ⟨h.1.kept hq, h.2.1.kept hq, h.2.2.kept hq⟩
def xNestB : Cond → Bool
  | .fieldLinkNest _ _ _ _ _ _ => true
  | .methodLinkNest _ _ _ _ => true
  | _ => false
theorem xNest_all : ∀ w ∈ xNest, xNestB w = true := fun w h => List.all_eq_true.mp (show xNest.all xNestB = true by rfl) w h
theorem xNw_warm {w : Cond} (hw : xNestB w = true) {s U : State} (hW : s.WarmedH U.vm) (h : va_Nw w s) : va_Nw w U := by
  cases w <;> first | (exact va_Nw.warmF hW h) | (exact va_Nw.warmM hW h) | (exact absurd hw (by simp [xNestB]))
theorem xNw_same {w : Cond} (hw : xNestB w = true) {s U : State} (hW : s.vm = U.vm) (h : va_Nw w s) : va_Nw w U := by
  refine va_Nw.same ?_ hW h
  cases w <;> first | rfl | (exact absurd hw (by simp [xNestB]))
def KT (g : XG) (U : State) : Prop := va_K g.1 vwCl (xTy g) U ∧ ∀ w ∈ xNest, va_Nw w U
theorem KT.warm {g : XG} {s U : State} (hW : s.WarmedH U.vm) (h : KT g s) : KT g U := ⟨va_K.moved hW.alike h.1, fun w hw => xNw_warm (xNest_all w hw) hW (h.2 w hw)⟩
theorem KT.same {g : XG} {s U : State} (hW : s.vm = U.vm) (h : KT g s) : KT g U := ⟨va_K.moved (hW ▸ Vm.Alike.refl s.vm) h.1, fun w hw => xNw_same (xNest_all w hw) hW (h.2 w hw)⟩
/-- a contract's start: the arguments, the environment, what the heap holds -/
def xP (g : XG) (As : List Value) (hp : Heap → Prop) : Array Value → State → Prop := va_Pc As (fun U => KT g U ∧ ZS g U U.heap ∧ hp U.heap)
theorem xP_blind {g : XG} {As : List Value} {hp : Heap → Prop} : FrameBlind (xP g As hp) := fun a U k mk h => ⟨h.1, KT.same (s := U) (U := U.calling k mk a) rfl h.2.1, ZS.moved (u := U) (U := U.calling k mk a) (Vm.Alike.refl U.vm) h.2.2.1, h.2.2.2⟩
theorem xP_at {g : XG} {As : List Value} {hp : Heap → Prop} {s U : State} {H : Heap} (hK : KT g s) (hZ : ZS g s H) (hh : hp H) (hU : U.heap = H) (hW : s.WarmedH U.vm) : xP g As hp As.toArray U := ⟨rfl, hK.warm hW, by rw [hU]; exact hZ.moved hW.alike, by rw [hU]; exact hh⟩
/-- the words of a method: its own code ahead of all -/
abbrev ww (y : MethodName) (bytes : ByteArray) (maxL : Nat) (ret : Option FieldType) : List Cond := .code y bytes maxL ret :: xALL
/-- the room of a method under which d levels of calls may stand -/
abbrev rmD (d : Nat) : Room := { frames := d, cells := 0, slots := 0, locals := 30 * d }
theorem ww_good {y : MethodName} {bytes : ByteArray} {maxL : Nat} {ret : Option FieldType} (h : Cond.code y bytes maxL ret ∈ xALL) : GoodIn xALL (ww y bytes maxL ret) := fun w hw => by
  rcases List.mem_cons.mp hw with rfl | hw
  · exact ⟨h, xALL_good _ h⟩
  · exact ⟨hw, xALL_good _ hw⟩
/-- what stands at every row of a method's walk -/
def FX (p : Program) (s : State) (m : MethodId) (args : Array Value) (c : Code) (cc : ByteArray) (nL : Nat) (own : String) (g : XG) : Prop := CallFix p m c cc nL s args xALL own ∧ KT g s
def CalV (C : String) (y : MethodName) (bytes : ByteArray) (maxL : Nat) (ret : Option FieldType) (n : Nat) : Prop := (y.cls = C ∧ y.cls ≠ "java/lang/invoke/MethodHandle" ∧ y.cls ≠ "java/lang/invoke/VarHandle" ∧ (parseMethodDescriptor y.desc).map (fun d => d.parameters.length) = some n) ∧ .instanceMethod y ∈ xALL ∧ .selects C y y ∈ xALL ∧ .initialized C ∈ xALL ∧ .code y bytes maxL ret ∈ xALL
def CalS (C : String) (y : MethodName) (bytes : ByteArray) (maxL : Nat) (ret : Option FieldType) (n : Nat) : Prop := (y.cls = C ∧ y.cls ≠ "java/lang/invoke/MethodHandle" ∧ y.cls ≠ "java/lang/invoke/VarHandle" ∧ (parseMethodDescriptor y.desc).map (fun d => d.parameters.length) = some n) ∧ .static y ∈ xALL ∧ .initialized C ∈ xALL ∧ .code y bytes maxL ret ∈ xALL
section XB
variable {p : Program} {l : Launch} {e : Env} {R : Room} {s : State} {m : MethodId} {args : Array Value} {below : List Frame} {meth : Method} {c : Code} {H : Heap} {locs : List Loc} {cells slots : Nat} {Q : State → Prop}
variable {cc : ByteArray} {pc : Nat} {ls : Array Slot} {rest st : List Value} {g : XG} {nL : Nat} {own C : String} {A : Nat → Prop}
theorem FX.of {y : MethodName} {maxL : Nat} {ret : Option FieldType} (hx : p.tables.exec = Jvm.exec) (hb : c.code = cc) (hml : c.maxLocals = nL) (hown : s.vm.findClass own = some m.cls) (hts : ∀ w ∈ ww y cc maxL ret, w.before args s = true) (hK : KT g s) : FX p s m args c cc nL own g := ⟨⟨hx, hb, hml, hown, fun w h => hts w (List.mem_cons_of_mem _ h)⟩, hK⟩
theorem ZS.at {H0 : Heap} (h : ZS g s H0) (hS : va_S A H0 H locs) (hA : ∀ q, A q → xB g q) : ZS g s H := h.kept fun a h1 h2 => hS.2.1 a h1 (fun q => h2 (hA a q))
/-- calls: a method of an object of the own class, of a nest mate's, a static one, a nest mate's static one -/
theorem xrV {y : MethodName} {bytes : ByteArray} {maxL n idx mc ms : Nat} {ret : Option FieldType} {rm : Room} {Qc : Array Value → State → Outcome → State → Prop} {free : Addr → Prop} {b : Addr} {As : List Value} {hp : Heap → Prop}
    (hF : FX p s m args c cc nL own g) (hM : Met l y (ww y bytes maxL ret) rm (xP g (.ref b :: As) hp) Qc mc ms free) (hC : CalV C y bytes maxL ret n) (hl : .methodLink own idx y ∈ xALL) (hR : rm.frames + 1 ≤ R.frames ∧ 8 + (maxL + 11) + rm.locals ≤ R.locals) (hrc : rm.cells = mc) (hrs : rm.slots = ms) (hn : As.length = n)
    (hv : ∃ cell : Cell, H[b]? = some cell ∧ cell.vm.isStatics = false ∧ s.vm.findClass C = some cell.cls) (hZ : ZS g s H) (hh : hp H) (hls : ls.size = nL) (hst : st = As.reverse ++ .ref b :: rest) (hW : (rest.map fun v => v.category).sum ≤ 8) (hdg : decode cc pc = .ok (.invokevirtual idx, 3)) (hf : cells + mc ≤ R.cells ∧ slots + ms ≤ R.slots) :
    va_Run p l e R s m args below meth c H locs cells slots mc ms (F0 m pc ls st) rest (Qc (Value.ref b :: As).toArray) free := by
  obtain ⟨⟨hC1, hC2⟩, h1, h2, h3, h4⟩ := hC
  have hts := hF.1.2.2.2.2
  subst hC1
  exact va_runV hF.1 hM ⟨callB_of n hts (ww_good h4) rfl hrc hrs (hts _ h3) (hts _ hl) hC2 hR, hts _ h1, hts _ h2⟩ ⟨xP_blind, hv, fun U hU hW => xP_at hF.2 hZ hh hU hW⟩ rfl hn hls hst (lv_room hW) hdg hf
theorem xrVN {y : MethodName} {bytes : ByteArray} {maxL n idx mc ms : Nat} {ret : Option FieldType} {rm : Room} {Qc : Array Value → State → Outcome → State → Prop} {free : Addr → Prop} {b : Addr} {As : List Value} {hp : Heap → Prop} {host : String}
    (hF : FX p s m args c cc nL own g) (hM : Met l y (ww y bytes maxL ret) rm (xP g (.ref b :: As) hp) Qc mc ms free) (hC : CalV C y bytes maxL ret n) (hl : .methodLinkNest own idx y host ∈ xNest) (hR : rm.frames + 1 ≤ R.frames ∧ 8 + (maxL + 11) + rm.locals ≤ R.locals) (hrc : rm.cells = mc) (hrs : rm.slots = ms) (hn : As.length = n)
    (hv : ∃ cell : Cell, H[b]? = some cell ∧ cell.vm.isStatics = false ∧ s.vm.findClass C = some cell.cls) (hZ : ZS g s H) (hh : hp H) (hls : ls.size = nL) (hst : st = As.reverse ++ .ref b :: rest) (hW : (rest.map fun v => v.category).sum ≤ 8) (hdg : decode cc pc = .ok (.invokevirtual idx, 3)) (hf : cells + mc ≤ R.cells ∧ slots + ms ≤ R.slots) :
    va_Run p l e R s m args below meth c H locs cells slots mc ms (F0 m pc ls st) rest (Qc (Value.ref b :: As).toArray) free := by
  obtain ⟨⟨hC1, hC2⟩, h1, h2, h3, h4⟩ := hC
  have hts := hF.1.2.2.2.2
  subst hC1
  exact va_runVN hF.1 hM ⟨va_cnB n hts (ww_good h4) rfl hrc hrs (hF.2.2 _ hl) (hts _ h3) hC2 hR, hts _ h1, hts _ h2⟩ ⟨xP_blind, hv, fun U hU hW => xP_at hF.2 hZ hh hU hW⟩ rfl hn hls hst (lv_room hW) hdg hf
theorem xrS {y : MethodName} {bytes : ByteArray} {maxL n idx mc ms : Nat} {ret : Option FieldType} {rm : Room} {Qc : Array Value → State → Outcome → State → Prop} {free : Addr → Prop} {As : List Value} {hp : Heap → Prop}
    (hF : FX p s m args c cc nL own g) (hM : Met l y (ww y bytes maxL ret) rm (xP g As hp) Qc mc ms free) (hC : CalS C y bytes maxL ret n) (hl : .methodLink own idx y ∈ xALL) (hR : rm.frames + 1 ≤ R.frames ∧ 8 + (maxL + 11) + rm.locals ≤ R.locals) (hrc : rm.cells = mc) (hrs : rm.slots = ms) (hn : As.length = n)
    (hZ : ZS g s H) (hh : hp H) (hls : ls.size = nL) (hst : st = As.reverse ++ rest) (hW : (rest.map fun v => v.category).sum ≤ 8) (hdg : decode cc pc = .ok (.invokestatic idx, 3)) (hf : cells + mc ≤ R.cells ∧ slots + ms ≤ R.slots) :
    va_Run p l e R s m args below meth c H locs cells slots mc ms (F0 m pc ls st) rest (Qc As.toArray) free := by
  obtain ⟨⟨hC1, hC2⟩, h1, h3, h4⟩ := hC
  have hts := hF.1.2.2.2.2
  subst hC1
  exact va_runS hF.1 hM ⟨callB_of n hts (ww_good h4) rfl hrc hrs (hts _ h3) (hts _ hl) hC2 hR, hts _ h1⟩ ⟨xP_blind, fun U hU hW => xP_at hF.2 hZ hh hU hW⟩ rfl hn hls hst (lv_room hW) hdg hf
theorem xrSN {y : MethodName} {bytes : ByteArray} {maxL n idx mc ms : Nat} {ret : Option FieldType} {rm : Room} {Qc : Array Value → State → Outcome → State → Prop} {free : Addr → Prop} {As : List Value} {hp : Heap → Prop} {host : String}
    (hF : FX p s m args c cc nL own g) (hM : Met l y (ww y bytes maxL ret) rm (xP g As hp) Qc mc ms free) (hC : CalS C y bytes maxL ret n) (hl : .methodLinkNest own idx y host ∈ xNest) (hR : rm.frames + 1 ≤ R.frames ∧ 8 + (maxL + 11) + rm.locals ≤ R.locals) (hrc : rm.cells = mc) (hrs : rm.slots = ms) (hn : As.length = n)
    (hZ : ZS g s H) (hh : hp H) (hls : ls.size = nL) (hst : st = As.reverse ++ rest) (hW : (rest.map fun v => v.category).sum ≤ 8) (hdg : decode cc pc = .ok (.invokestatic idx, 3)) (hf : cells + mc ≤ R.cells ∧ slots + ms ≤ R.slots) :
    va_Run p l e R s m args below meth c H locs cells slots mc ms (F0 m pc ls st) rest (Qc As.toArray) free := by
  obtain ⟨⟨hC1, hC2⟩, h1, h3, h4⟩ := hC
  have hts := hF.1.2.2.2.2
  subst hC1
  exact va_runSN hF.1 hM ⟨va_cnB n hts (ww_good h4) rfl hrc hrs (hF.2.2 _ hl) (hts _ h3) hC2 hR, hts _ h1, trivial⟩ ⟨xP_blind, fun U hU hW => xP_at hF.2 hZ hh hU hW⟩ rfl hn hls hst (lv_room hW) hdg hf
/-- the end of a method that changes cells: its answer and its heap -/
def xQi (post : Int32 → Heap → Prop) (A : Nat → Prop) : Array Value → State → Outcome → State → Prop := fun _ st oc t => (∃ r : Int32, oc = .returned (some (.int r)) ∧ post r t.heap) ∧ va_F A st t
def xQv (post : Heap → Prop) (A : Nat → Prop) : Array Value → State → Outcome → State → Prop := fun _ st oc t => (oc = .returned none ∧ post t.heap) ∧ va_F A st t
theorem xci {A0 A1 : Nat → Prop} {H0 : Heap} {mc ms : Nat} {free : Addr → Prop} {a : Array Value} {post : Int32 → Heap → Prop} (hr : va_Run p l e R s m args below meth c H locs cells slots mc ms (F0 m pc ls st) rest (xQi post A1 a) free) (hS : va_S A0 H0 H locs) (hA : ∀ q, A1 q → A0 q) (hf : ∀ q, free q → A0 q)
    (kk : ∀ (r : Int32) (H1 : Heap) (locs1 : List Loc), post r H1 → H.size ≤ H1.size → (∀ q : Nat, q < H.size → ¬ A1 q → H1[q]? = H[q]?) → va_S A0 H0 H1 locs1 → W p l e R s m args below meth c H1 locs1 (cells + mc) (slots + ms) Q (F0 m (pc + 3) ls (.int r :: rest))) : W p l e R s m args below meth c H locs cells slots Q (F0 m pc ls st) := by
  intro T hT X
  obtain ⟨v, st₀, t, T', L, h0, X', hL, e1, e2, ⟨⟨r, hv, hb⟩, hz, hk⟩, hst⟩ := hr T hT X
  cases hv
  rw [h0] at hz hk
  obtain ⟨t2, a1, b1⟩ := kk r T'.heap (locs ++ L) (by rw [e1]; exact hb) (by rw [e1]; exact hz) (fun q h1 h2 => by rw [e1]; exact hk q h1 h2)
    ⟨Nat.le_trans hS.1 (by rw [e1]; exact hz), fun q h1 h2 => by rw [e1, hk q (Nat.lt_of_lt_of_le h1 hS.1) (fun z => h2 (hA q z))]; exact hS.2.1 q h1 h2, fun q hq => by
      rcases List.mem_append.mp hq with h | h
      · exact hS.2.2 q h
      · exact hf _ (hL q h)⟩ T' rfl X'
  exact ⟨t2, hst t2 a1, b1⟩
theorem xcv {A0 A1 : Nat → Prop} {H0 : Heap} {mc ms : Nat} {free : Addr → Prop} {a : Array Value} {post : Heap → Prop} (hr : va_Run p l e R s m args below meth c H locs cells slots mc ms (F0 m pc ls st) rest (xQv post A1 a) free) (hS : va_S A0 H0 H locs) (hA : ∀ q, A1 q → A0 q) (hf : ∀ q, free q → A0 q)
    (kk : ∀ (H1 : Heap) (locs1 : List Loc), post H1 → H.size ≤ H1.size → (∀ q : Nat, q < H.size → ¬ A1 q → H1[q]? = H[q]?) → va_S A0 H0 H1 locs1 → W p l e R s m args below meth c H1 locs1 (cells + mc) (slots + ms) Q (F0 m (pc + 3) ls rest)) : W p l e R s m args below meth c H locs cells slots Q (F0 m pc ls st) := by
  intro T hT X
  obtain ⟨v, st₀, t, T', L, h0, X', hL, e1, e2, ⟨⟨hv, hb⟩, hz, hk⟩, hst⟩ := hr T hT X
  cases hv
  rw [h0] at hz hk
  obtain ⟨t2, a1, b1⟩ := kk T'.heap (locs ++ L) (by rw [e1]; exact hb) (by rw [e1]; exact hz) (fun q h1 h2 => by rw [e1]; exact hk q h1 h2)
    ⟨Nat.le_trans hS.1 (by rw [e1]; exact hz), fun q h1 h2 => by rw [e1, hk q (Nat.lt_of_lt_of_le h1 hS.1) (fun z => h2 (hA q z))]; exact hS.2.1 q h1 h2, fun q hq => by
      rcases List.mem_append.mp hq with h | h
      · exact hS.2.2 q h
      · exact hf _ (hL q h)⟩ T' rfl X'
  exact ⟨t2, hst t2 a1, b1⟩
/-- whole numbers: constants, sums, products, differences, quotients -/
theorem xN_const (hx : p.tables.exec = Jvm.exec) (hb : c.code = cc) {n : Int} (v : Nat) (hdg : decode cc pc = .ok (.iconst n, 1)) (hv : Int32.ofInt n = nI v) (k : W p l e R s m args below meth c H locs cells slots Q (F0 m (pc + 1) ls (.int (nI v) :: rest))) : W p l e R s m args below meth c H locs cells slots Q (F0 m pc ls rest) := lv_iconst hx hb hdg hv k
theorem xN_bi (hx : p.tables.exec = Jvm.exec) (hb : c.code = cc) {n : Int} (v : Nat) (hdg : decode cc pc = .ok (.bipush n, 2)) (hv : (Int8.ofInt n).toInt32 = nI v) (k : W p l e R s m args below meth c H locs cells slots Q (F0 m (pc + 2) ls (.int (nI v) :: rest))) : W p l e R s m args below meth c H locs cells slots Q (F0 m pc ls rest) := lv_bipush hx hb hdg hv k
theorem xN_si (hx : p.tables.exec = Jvm.exec) (hb : c.code = cc) {n : Int} (v : Nat) (hdg : decode cc pc = .ok (.sipush n, 3)) (hv : (Int16.ofInt n).toInt32 = nI v) (k : W p l e R s m args below meth c H locs cells slots Q (F0 m (pc + 3) ls (.int (nI v) :: rest))) : W p l e R s m args below meth c H locs cells slots Q (F0 m pc ls rest) := lv_sipush hx hb hdg hv k
theorem xN_add (hx : p.tables.exec = Jvm.exec) (hb : c.code = cc) {a b : Nat} (hdg : decode cc pc = .ok (.iadd, 1)) (k : W p l e R s m args below meth c H locs cells slots Q (F0 m (pc + 1) ls (.int (nI (a + b)) :: rest))) : W p l e R s m args below meth c H locs cells slots Q (F0 m pc ls (.int (nI b) :: .int (nI a) :: rest)) := lv_iadd hx hb hdg (by rw [nI_add]; exact k)
theorem xN_mul (hx : p.tables.exec = Jvm.exec) (hb : c.code = cc) {a b : Nat} (hdg : decode cc pc = .ok (.imul, 1)) (k : W p l e R s m args below meth c H locs cells slots Q (F0 m (pc + 1) ls (.int (nI (a * b)) :: rest))) : W p l e R s m args below meth c H locs cells slots Q (F0 m pc ls (.int (nI b) :: .int (nI a) :: rest)) := lv_imul hx hb hdg (by rw [pk_mul]; exact k)
theorem xN_sub (hx : p.tables.exec = Jvm.exec) (hb : c.code = cc) {a b : Nat} (hba : b ≤ a) (hdg : decode cc pc = .ok (.isub, 1)) (k : W p l e R s m args below meth c H locs cells slots Q (F0 m (pc + 1) ls (.int (nI (a - b)) :: rest))) : W p l e R s m args below meth c H locs cells slots Q (F0 m pc ls (.int (nI b) :: .int (nI a) :: rest)) := lv_isub hx hb hdg (by rw [pk_sub hba]; exact k)
theorem xN_div (hx : p.tables.exec = Jvm.exec) (hb : c.code = cc) {a b : Nat} (ha : a < 2147483648) (h0 : 0 < b) (hb2 : b < 2147483648) (hdg : decode cc pc = .ok (.idiv, 1)) (k : W p l e R s m args below meth c H locs cells slots Q (F0 m (pc + 1) ls (.int (nI (a / b)) :: rest))) : W p l e R s m args below meth c H locs cells slots Q (F0 m pc ls (.int (nI b) :: .int (nI a) :: rest)) := lv_idiv hx hb hdg (nI_ne0 h0 hb2) (by rw [pk_div ha h0 hb2]; exact k)
theorem xN_rem (hx : p.tables.exec = Jvm.exec) (hb : c.code = cc) {a b : Nat} (ha : a < 2147483648) (h0 : 0 < b) (hb2 : b < 2147483648) (hdg : decode cc pc = .ok (.irem, 1)) (k : W p l e R s m args below meth c H locs cells slots Q (F0 m (pc + 1) ls (.int (nI (a % b)) :: rest))) : W p l e R s m args below meth c H locs cells slots Q (F0 m pc ls (.int (nI b) :: .int (nI a) :: rest)) := lv_irem hx hb hdg (nI_ne0 h0 hb2) (by rw [pk_rem ha h0 hb2]; exact k)
theorem xN_inc (hx : p.tables.exec = Jvm.exec) (hb : c.code = cc) {i k n0 : Nat} {n : Int} {a : Nat} (d : Nat) {lv lv' : List (Nat × Value)} (hdg : decode cc pc = .ok (.iinc i n, 3)) (h : lv_has ls n0 lv) (hk : lv[k]? = some (i, .int (nI a))) (hv : Int32.ofInt n = nI d) (hn : i < n0) (hl : (i, Value.int (nI (a + d))) :: lv.filter (fun q => !(q.1 == i) && !(q.1 + 1 == i && q.2.category == 2)) = lv')
    (kk : ∀ ls' : Array Slot, lv_has ls' n0 lv' → W p l e R s m args below meth c H locs cells slots Q (F0 m (pc + 3) ls' rest)) : W p l e R s m args below meth c H locs cells slots Q (F0 m pc ls rest) := lv_iinc hx hb hdg h hk (by rw [hv, nI_add]) hn hl kk
theorem xN_dec (hx : p.tables.exec = Jvm.exec) (hb : c.code = cc) {i k n0 : Nat} {a : Nat} (ha : 1 ≤ a) {lv lv' : List (Nat × Value)} (hdg : decode cc pc = .ok (.iinc i (-1), 3)) (h : lv_has ls n0 lv) (hk : lv[k]? = some (i, .int (nI a))) (hn : i < n0) (hl : (i, Value.int (nI (a - 1))) :: lv.filter (fun q => !(q.1 == i) && !(q.1 + 1 == i && q.2.category == 2)) = lv')
    (kk : ∀ ls' : Array Slot, lv_has ls' n0 lv' → W p l e R s m args below meth c H locs cells slots Q (F0 m (pc + 3) ls' rest)) : W p l e R s m args below meth c H locs cells slots Q (F0 m pc ls rest) := lv_iinc hx hb hdg h hk (by show nI a + (-1) = _; exact sb_m1 ha) hn hl kk
end XB
