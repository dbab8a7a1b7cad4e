section
/-- a private method of a class that the tables say can be made, by its rows of tables_1 -/
def lw_okq (q : MethodName × Nat) : Prop := (q.1.cls ≠ "java/lang/invoke/MethodHandle" ∧ q.1.cls ≠ "java/lang/invoke/VarHandle") ∧ Cond.instantiable q.1.cls q.2 ∈ tables_1 ∧ Cond.privateMethod q.1 ∈ tables_1 ∧ Cond.instanceMethod q.1 ∈ tables_1
theorem lw_p0 : lw_okq (⟨"DittoLog$History", "remember", "(LDittoLog$Log;)V"⟩, 3) := ⟨⟨by decide +kernel, by decide +kernel⟩, List.mem_of_getElem? (i := 53) (by decide +kernel), List.mem_of_getElem? (i := 125) (by decide +kernel), List.mem_of_getElem? (i := 126) (by decide +kernel)⟩
theorem lw_p1 : lw_okq (⟨"DittoLog$History", "latest", "()LDittoLog$Log;"⟩, 3) := ⟨⟨by decide +kernel, by decide +kernel⟩, List.mem_of_getElem? (i := 53) (by decide +kernel), List.mem_of_getElem? (i := 129) (by decide +kernel), List.mem_of_getElem? (i := 130) (by decide +kernel)⟩
theorem lw_p2 : lw_okq (⟨"DittoLog$Log", "copyFrom", "(LDittoLog$Log;)V"⟩, 7) := ⟨⟨by decide +kernel, by decide +kernel⟩, List.mem_of_getElem? (i := 20) (by decide +kernel), List.mem_of_getElem? (i := 133) (by decide +kernel), List.mem_of_getElem? (i := 134) (by decide +kernel)⟩
theorem lw_p3 : lw_okq (⟨"DittoLog$Log", "appendRow", "(IIII)V"⟩, 7) := ⟨⟨by decide +kernel, by decide +kernel⟩, List.mem_of_getElem? (i := 20) (by decide +kernel), List.mem_of_getElem? (i := 146) (by decide +kernel), List.mem_of_getElem? (i := 147) (by decide +kernel)⟩
theorem lw_p4 : lw_okq (⟨"DittoLog$Log", "startCell", "(III)V"⟩, 7) := ⟨⟨by decide +kernel, by decide +kernel⟩, List.mem_of_getElem? (i := 20) (by decide +kernel), List.mem_of_getElem? (i := 150) (by decide +kernel), List.mem_of_getElem? (i := 151) (by decide +kernel)⟩
theorem lw_p5 : lw_okq (⟨"DittoLog$Log", "pushEntry", "(III)V"⟩, 7) := ⟨⟨by decide +kernel, by decide +kernel⟩, List.mem_of_getElem? (i := 20) (by decide +kernel), List.mem_of_getElem? (i := 154) (by decide +kernel), List.mem_of_getElem? (i := 155) (by decide +kernel)⟩
theorem lw_p6 : lw_okq (⟨"DittoLog$RowsText", "readRows", "()I"⟩, 4) := ⟨⟨by decide +kernel, by decide +kernel⟩, List.mem_of_getElem? (i := 73) (by decide +kernel), List.mem_of_getElem? (i := 162) (by decide +kernel), List.mem_of_getElem? (i := 163) (by decide +kernel)⟩
theorem lw_p7 : lw_okq (⟨"DittoLog$RowsText", "grownBy", "(IC)I"⟩, 4) := ⟨⟨by decide +kernel, by decide +kernel⟩, List.mem_of_getElem? (i := 73) (by decide +kernel), List.mem_of_getElem? (i := 166) (by decide +kernel), List.mem_of_getElem? (i := 167) (by decide +kernel)⟩
theorem lw_p8 : lw_okq (⟨"DittoLog$RowsText", "withDigit", "(II)I"⟩, 4) := ⟨⟨by decide +kernel, by decide +kernel⟩, List.mem_of_getElem? (i := 73) (by decide +kernel), List.mem_of_getElem? (i := 170) (by decide +kernel), List.mem_of_getElem? (i := 171) (by decide +kernel)⟩
theorem lw_p9 : lw_okq (⟨"DittoLog$RowsText", "columnRead", "()I"⟩, 4) := ⟨⟨by decide +kernel, by decide +kernel⟩, List.mem_of_getElem? (i := 73) (by decide +kernel), List.mem_of_getElem? (i := 175) (by decide +kernel), List.mem_of_getElem? (i := 176) (by decide +kernel)⟩
theorem lw_p10 : lw_okq (⟨"DittoLog$RowsText", "separator", "()C"⟩, 4) := ⟨⟨by decide +kernel, by decide +kernel⟩, List.mem_of_getElem? (i := 73) (by decide +kernel), List.mem_of_getElem? (i := 180) (by decide +kernel), List.mem_of_getElem? (i := 181) (by decide +kernel)⟩
theorem lw_p11 : lw_okq (⟨"DittoLog$RowsText", "endCell", "(I)V"⟩, 4) := ⟨⟨by decide +kernel, by decide +kernel⟩, List.mem_of_getElem? (i := 73) (by decide +kernel), List.mem_of_getElem? (i := 184) (by decide +kernel), List.mem_of_getElem? (i := 185) (by decide +kernel)⟩
theorem lw_p12 : lw_okq (⟨"DittoLog$RowsText", "rowsRead", "()I"⟩, 4) := ⟨⟨by decide +kernel, by decide +kernel⟩, List.mem_of_getElem? (i := 73) (by decide +kernel), List.mem_of_getElem? (i := 188) (by decide +kernel), List.mem_of_getElem? (i := 189) (by decide +kernel)⟩
theorem lw_p13 : lw_okq (⟨"DittoLog$RowsText", "read", "(II)I"⟩, 4) := ⟨⟨by decide +kernel, by decide +kernel⟩, List.mem_of_getElem? (i := 73) (by decide +kernel), List.mem_of_getElem? (i := 192) (by decide +kernel), List.mem_of_getElem? (i := 193) (by decide +kernel)⟩
theorem lw_p14 : lw_okq (⟨"DittoLog$Log", "dropRow", "()V"⟩, 7) := ⟨⟨by decide +kernel, by decide +kernel⟩, List.mem_of_getElem? (i := 20) (by decide +kernel), List.mem_of_getElem? (i := 200) (by decide +kernel), List.mem_of_getElem? (i := 201) (by decide +kernel)⟩
theorem lw_p15 : lw_okq (⟨"DittoLog$Log", "isCell", "(II)Z"⟩, 7) := ⟨⟨by decide +kernel, by decide +kernel⟩, List.mem_of_getElem? (i := 20) (by decide +kernel), List.mem_of_getElem? (i := 208) (by decide +kernel), List.mem_of_getElem? (i := 209) (by decide +kernel)⟩
def lw_privs_1 : List (MethodName × Nat) := [(⟨"DittoLog$History", "remember", "(LDittoLog$Log;)V"⟩, 3), (⟨"DittoLog$History", "latest", "()LDittoLog$Log;"⟩, 3), (⟨"DittoLog$Log", "copyFrom", "(LDittoLog$Log;)V"⟩, 7), (⟨"DittoLog$Log", "appendRow", "(IIII)V"⟩, 7), (⟨"DittoLog$Log", "startCell", "(III)V"⟩, 7), (⟨"DittoLog$Log", "pushEntry", "(III)V"⟩, 7), (⟨"DittoLog$RowsText", "readRows", "()I"⟩, 4), (⟨"DittoLog$RowsText", "grownBy", "(IC)I"⟩, 4), (⟨"DittoLog$RowsText", "withDigit", "(II)I"⟩, 4), (⟨"DittoLog$RowsText", "columnRead", "()I"⟩, 4), (⟨"DittoLog$RowsText", "separator", "()C"⟩, 4), (⟨"DittoLog$RowsText", "endCell", "(I)V"⟩, 4), (⟨"DittoLog$RowsText", "rowsRead", "()I"⟩, 4), (⟨"DittoLog$RowsText", "read", "(II)I"⟩, 4), (⟨"DittoLog$Log", "dropRow", "()V"⟩, 7), (⟨"DittoLog$Log", "isCell", "(II)Z"⟩, 7)]
theorem lw_r1 : ∀ q ∈ lw_privs_1, lw_okq q := List.forall_mem_cons.mpr ⟨lw_p0, List.forall_mem_cons.mpr ⟨lw_p1, List.forall_mem_cons.mpr ⟨lw_p2, List.forall_mem_cons.mpr ⟨lw_p3, List.forall_mem_cons.mpr ⟨lw_p4, List.forall_mem_cons.mpr ⟨lw_p5, List.forall_mem_cons.mpr ⟨lw_p6, List.forall_mem_cons.mpr ⟨lw_p7, List.forall_mem_cons.mpr ⟨lw_p8, List.forall_mem_cons.mpr ⟨lw_p9, List.forall_mem_cons.mpr ⟨lw_p10, List.forall_mem_cons.mpr ⟨lw_p11, List.forall_mem_cons.mpr ⟨lw_p12, List.forall_mem_cons.mpr ⟨lw_p13, List.forall_mem_cons.mpr ⟨lw_p14, List.forall_mem_cons.mpr ⟨lw_p15, fun _ h => absurd h List.not_mem_nil⟩⟩⟩⟩⟩⟩⟩⟩⟩⟩⟩⟩⟩⟩⟩⟩
theorem lw_p16 : lw_okq (⟨"DittoLog$Log", "isRow", "(I)Z"⟩, 7) := ⟨⟨by decide +kernel, by decide +kernel⟩, List.mem_of_getElem? (i := 20) (by decide +kernel), List.mem_of_getElem? (i := 212) (by decide +kernel), List.mem_of_getElem? (i := 213) (by decide +kernel)⟩
theorem lw_p17 : lw_okq (⟨"DittoLog$Log", "entriesOf", "(II)I"⟩, 7) := ⟨⟨by decide +kernel, by decide +kernel⟩, List.mem_of_getElem? (i := 20) (by decide +kernel), List.mem_of_getElem? (i := 219) (by decide +kernel), List.mem_of_getElem? (i := 220) (by decide +kernel)⟩
theorem lw_p18 : lw_okq (⟨"DittoLog$Log", "latestOf", "(II)I"⟩, 7) := ⟨⟨by decide +kernel, by decide +kernel⟩, List.mem_of_getElem? (i := 20) (by decide +kernel), List.mem_of_getElem? (i := 224) (by decide +kernel), List.mem_of_getElem? (i := 225) (by decide +kernel)⟩
theorem lw_p19 : lw_okq (⟨"DittoLog$Log", "changedBy", "(III)I"⟩, 7) := ⟨⟨by decide +kernel, by decide +kernel⟩, List.mem_of_getElem? (i := 20) (by decide +kernel), List.mem_of_getElem? (i := 228) (by decide +kernel), List.mem_of_getElem? (i := 229) (by decide +kernel)⟩
theorem lw_p20 : lw_okq (⟨"DittoLog$Log", "meaningWith", "(III)I"⟩, 7) := ⟨⟨by decide +kernel, by decide +kernel⟩, List.mem_of_getElem? (i := 20) (by decide +kernel), List.mem_of_getElem? (i := 232) (by decide +kernel), List.mem_of_getElem? (i := 233) (by decide +kernel)⟩
theorem lw_p21 : lw_okq (⟨"DittoLog$Log", "hasAbove", "(I)Z"⟩, 7) := ⟨⟨by decide +kernel, by decide +kernel⟩, List.mem_of_getElem? (i := 20) (by decide +kernel), List.mem_of_getElem? (i := 236) (by decide +kernel), List.mem_of_getElem? (i := 237) (by decide +kernel)⟩
theorem lw_p22 : lw_okq (⟨"DittoLog$Log", "meaningOf", "(II)I"⟩, 7) := ⟨⟨by decide +kernel, by decide +kernel⟩, List.mem_of_getElem? (i := 20) (by decide +kernel), List.mem_of_getElem? (i := 240) (by decide +kernel), List.mem_of_getElem? (i := 241) (by decide +kernel)⟩
theorem lw_p23 : lw_okq (⟨"DittoLog$Log", "topOfChain", "(II)I"⟩, 7) := ⟨⟨by decide +kernel, by decide +kernel⟩, List.mem_of_getElem? (i := 20) (by decide +kernel), List.mem_of_getElem? (i := 244) (by decide +kernel), List.mem_of_getElem? (i := 245) (by decide +kernel)⟩
theorem lw_p24 : lw_okq (⟨"DittoLog$Log", "leansUp", "(II)Z"⟩, 7) := ⟨⟨by decide +kernel, by decide +kernel⟩, List.mem_of_getElem? (i := 20) (by decide +kernel), List.mem_of_getElem? (i := 248) (by decide +kernel), List.mem_of_getElem? (i := 249) (by decide +kernel)⟩
theorem lw_p25 : lw_okq (⟨"DittoLog$Log", "followersOf", "(II)I"⟩, 7) := ⟨⟨by decide +kernel, by decide +kernel⟩, List.mem_of_getElem? (i := 20) (by decide +kernel), List.mem_of_getElem? (i := 253) (by decide +kernel), List.mem_of_getElem? (i := 254) (by decide +kernel)⟩
theorem lw_p26 : lw_okq (⟨"DittoLog$Log", "entryOf", "(III)I"⟩, 7) := ⟨⟨by decide +kernel, by decide +kernel⟩, List.mem_of_getElem? (i := 20) (by decide +kernel), List.mem_of_getElem? (i := 262) (by decide +kernel), List.mem_of_getElem? (i := 263) (by decide +kernel)⟩
theorem lw_p27 : lw_okq (⟨"DittoLog$Log", "popEntry", "(II)V"⟩, 7) := ⟨⟨by decide +kernel, by decide +kernel⟩, List.mem_of_getElem? (i := 20) (by decide +kernel), List.mem_of_getElem? (i := 266) (by decide +kernel), List.mem_of_getElem? (i := 267) (by decide +kernel)⟩
theorem lw_p28 : lw_okq (⟨"DittoLog$Log", "sumOf", "(I)I"⟩, 7) := ⟨⟨by decide +kernel, by decide +kernel⟩, List.mem_of_getElem? (i := 20) (by decide +kernel), List.mem_of_getElem? (i := 274) (by decide +kernel), List.mem_of_getElem? (i := 275) (by decide +kernel)⟩
theorem lw_p29 : lw_okq (⟨"DittoLog$Log", "writeSum", "(II)V"⟩, 7) := ⟨⟨by decide +kernel, by decide +kernel⟩, List.mem_of_getElem? (i := 20) (by decide +kernel), List.mem_of_getElem? (i := 278) (by decide +kernel), List.mem_of_getElem? (i := 279) (by decide +kernel)⟩
theorem lw_p30 : lw_okq (⟨"DittoLog$Log", "settingOf", "(I)I"⟩, 7) := ⟨⟨by decide +kernel, by decide +kernel⟩, List.mem_of_getElem? (i := 20) (by decide +kernel), List.mem_of_getElem? (i := 290) (by decide +kernel), List.mem_of_getElem? (i := 291) (by decide +kernel)⟩
theorem lw_p31 : lw_okq (⟨"DittoLog$Log", "changeSetting", "(II)V"⟩, 7) := ⟨⟨by decide +kernel, by decide +kernel⟩, List.mem_of_getElem? (i := 20) (by decide +kernel), List.mem_of_getElem? (i := 294) (by decide +kernel), List.mem_of_getElem? (i := 295) (by decide +kernel)⟩
def lw_privs_2 : List (MethodName × Nat) := [(⟨"DittoLog$Log", "isRow", "(I)Z"⟩, 7), (⟨"DittoLog$Log", "entriesOf", "(II)I"⟩, 7), (⟨"DittoLog$Log", "latestOf", "(II)I"⟩, 7), (⟨"DittoLog$Log", "changedBy", "(III)I"⟩, 7), (⟨"DittoLog$Log", "meaningWith", "(III)I"⟩, 7), (⟨"DittoLog$Log", "hasAbove", "(I)Z"⟩, 7), (⟨"DittoLog$Log", "meaningOf", "(II)I"⟩, 7), (⟨"DittoLog$Log", "topOfChain", "(II)I"⟩, 7), (⟨"DittoLog$Log", "leansUp", "(II)Z"⟩, 7), (⟨"DittoLog$Log", "followersOf", "(II)I"⟩, 7), (⟨"DittoLog$Log", "entryOf", "(III)I"⟩, 7), (⟨"DittoLog$Log", "popEntry", "(II)V"⟩, 7), (⟨"DittoLog$Log", "sumOf", "(I)I"⟩, 7), (⟨"DittoLog$Log", "writeSum", "(II)V"⟩, 7), (⟨"DittoLog$Log", "settingOf", "(I)I"⟩, 7), (⟨"DittoLog$Log", "changeSetting", "(II)V"⟩, 7)]
theorem lw_r2 : ∀ q ∈ lw_privs_2, lw_okq q := List.forall_mem_cons.mpr ⟨lw_p16, List.forall_mem_cons.mpr ⟨lw_p17, List.forall_mem_cons.mpr ⟨lw_p18, List.forall_mem_cons.mpr ⟨lw_p19, List.forall_mem_cons.mpr ⟨lw_p20, List.forall_mem_cons.mpr ⟨lw_p21, List.forall_mem_cons.mpr ⟨lw_p22, List.forall_mem_cons.mpr ⟨lw_p23, List.forall_mem_cons.mpr ⟨lw_p24, List.forall_mem_cons.mpr ⟨lw_p25, List.forall_mem_cons.mpr ⟨lw_p26, List.forall_mem_cons.mpr ⟨lw_p27, List.forall_mem_cons.mpr ⟨lw_p28, List.forall_mem_cons.mpr ⟨lw_p29, List.forall_mem_cons.mpr ⟨lw_p30, List.forall_mem_cons.mpr ⟨lw_p31, fun _ h => absurd h List.not_mem_nil⟩⟩⟩⟩⟩⟩⟩⟩⟩⟩⟩⟩⟩⟩⟩⟩
theorem lw_p32 : lw_okq (⟨"DittoLog$RowsText", "append", "(C)Z"⟩, 4) := ⟨⟨by decide +kernel, by decide +kernel⟩, List.mem_of_getElem? (i := 73) (by decide +kernel), List.mem_of_getElem? (i := 302) (by decide +kernel), List.mem_of_getElem? (i := 303) (by decide +kernel)⟩
theorem lw_p33 : lw_okq (⟨"DittoLog$History", "takeInto", "(LDittoLog$Log;)Z"⟩, 3) := ⟨⟨by decide +kernel, by decide +kernel⟩, List.mem_of_getElem? (i := 53) (by decide +kernel), List.mem_of_getElem? (i := 314) (by decide +kernel), List.mem_of_getElem? (i := 315) (by decide +kernel)⟩
theorem lw_p34 : lw_okq (⟨"DittoLog$Log", "sourceOf", "(II)I"⟩, 7) := ⟨⟨by decide +kernel, by decide +kernel⟩, List.mem_of_getElem? (i := 20) (by decide +kernel), List.mem_of_getElem? (i := 332) (by decide +kernel), List.mem_of_getElem? (i := 333) (by decide +kernel)⟩
theorem lw_p35 : lw_okq (⟨"DittoLog$Log", "chainOf", "(II)I"⟩, 7) := ⟨⟨by decide +kernel, by decide +kernel⟩, List.mem_of_getElem? (i := 20) (by decide +kernel), List.mem_of_getElem? (i := 336) (by decide +kernel), List.mem_of_getElem? (i := 337) (by decide +kernel)⟩
theorem lw_p36 : lw_okq (⟨"DittoLog$Log", "isDoubtful", "(II)Z"⟩, 7) := ⟨⟨by decide +kernel, by decide +kernel⟩, List.mem_of_getElem? (i := 20) (by decide +kernel), List.mem_of_getElem? (i := 340) (by decide +kernel), List.mem_of_getElem? (i := 341) (by decide +kernel)⟩
theorem lw_p37 : lw_okq (⟨"DittoLog$Log", "isWrittenOut", "(I)Z"⟩, 7) := ⟨⟨by decide +kernel, by decide +kernel⟩, List.mem_of_getElem? (i := 20) (by decide +kernel), List.mem_of_getElem? (i := 355) (by decide +kernel), List.mem_of_getElem? (i := 356) (by decide +kernel)⟩
theorem lw_p38 : lw_okq (⟨"DittoLog$Log", "countLatest", "(II)I"⟩, 7) := ⟨⟨by decide +kernel, by decide +kernel⟩, List.mem_of_getElem? (i := 20) (by decide +kernel), List.mem_of_getElem? (i := 364) (by decide +kernel), List.mem_of_getElem? (i := 365) (by decide +kernel)⟩
theorem lw_p39 : lw_okq (⟨"DittoLog$Log", "countCorrections", "(I)I"⟩, 7) := ⟨⟨by decide +kernel, by decide +kernel⟩, List.mem_of_getElem? (i := 20) (by decide +kernel), List.mem_of_getElem? (i := 368) (by decide +kernel), List.mem_of_getElem? (i := 369) (by decide +kernel)⟩
theorem lw_p40 : lw_okq (⟨"DittoLog$Log", "countMeaningless", "(III)I"⟩, 7) := ⟨⟨by decide +kernel, by decide +kernel⟩, List.mem_of_getElem? (i := 20) (by decide +kernel), List.mem_of_getElem? (i := 372) (by decide +kernel), List.mem_of_getElem? (i := 373) (by decide +kernel)⟩
theorem lw_p41 : lw_okq (⟨"DittoLog$Log", "longestChain", "(I)I"⟩, 7) := ⟨⟨by decide +kernel, by decide +kernel⟩, List.mem_of_getElem? (i := 20) (by decide +kernel), List.mem_of_getElem? (i := 376) (by decide +kernel), List.mem_of_getElem? (i := 377) (by decide +kernel)⟩
theorem lw_p42 : lw_okq (⟨"DittoLog", "mostMeant", "(III)I"⟩, 6) := ⟨⟨by decide +kernel, by decide +kernel⟩, List.mem_of_getElem? (i := 12) (by decide +kernel), List.mem_of_getElem? (i := 384) (by decide +kernel), List.mem_of_getElem? (i := 385) (by decide +kernel)⟩
theorem lw_p43 : lw_okq (⟨"DittoLog$Log", "countDoubtful", "(III)I"⟩, 7) := ⟨⟨by decide +kernel, by decide +kernel⟩, List.mem_of_getElem? (i := 20) (by decide +kernel), List.mem_of_getElem? (i := 389) (by decide +kernel), List.mem_of_getElem? (i := 390) (by decide +kernel)⟩
theorem lw_p44 : lw_okq (⟨"DittoLog$Log", "watches", "()I"⟩, 7) := ⟨⟨by decide +kernel, by decide +kernel⟩, List.mem_of_getElem? (i := 20) (by decide +kernel), List.mem_of_getElem? (i := 398) (by decide +kernel), List.mem_of_getElem? (i := 399) (by decide +kernel)⟩
theorem lw_p45 : lw_okq (⟨"DittoLog$Log", "firstRowOf", "(I)I"⟩, 7) := ⟨⟨by decide +kernel, by decide +kernel⟩, List.mem_of_getElem? (i := 20) (by decide +kernel), List.mem_of_getElem? (i := 402) (by decide +kernel), List.mem_of_getElem? (i := 403) (by decide +kernel)⟩
theorem lw_p46 : lw_okq (⟨"DittoLog$Log", "lastRowOf", "(I)I"⟩, 7) := ⟨⟨by decide +kernel, by decide +kernel⟩, List.mem_of_getElem? (i := 20) (by decide +kernel), List.mem_of_getElem? (i := 406) (by decide +kernel), List.mem_of_getElem? (i := 407) (by decide +kernel)⟩
theorem lw_p47 : lw_okq (⟨"DittoLog$Log", "runOf", "(II)I"⟩, 7) := ⟨⟨by decide +kernel, by decide +kernel⟩, List.mem_of_getElem? (i := 20) (by decide +kernel), List.mem_of_getElem? (i := 411) (by decide +kernel), List.mem_of_getElem? (i := 412) (by decide +kernel)⟩
def lw_privs_3 : List (MethodName × Nat) := [(⟨"DittoLog$RowsText", "append", "(C)Z"⟩, 4), (⟨"DittoLog$History", "takeInto", "(LDittoLog$Log;)Z"⟩, 3), (⟨"DittoLog$Log", "sourceOf", "(II)I"⟩, 7), (⟨"DittoLog$Log", "chainOf", "(II)I"⟩, 7), (⟨"DittoLog$Log", "isDoubtful", "(II)Z"⟩, 7), (⟨"DittoLog$Log", "isWrittenOut", "(I)Z"⟩, 7), (⟨"DittoLog$Log", "countLatest", "(II)I"⟩, 7), (⟨"DittoLog$Log", "countCorrections", "(I)I"⟩, 7), (⟨"DittoLog$Log", "countMeaningless", "(III)I"⟩, 7), (⟨"DittoLog$Log", "longestChain", "(I)I"⟩, 7), (⟨"DittoLog", "mostMeant", "(III)I"⟩, 6), (⟨"DittoLog$Log", "countDoubtful", "(III)I"⟩, 7), (⟨"DittoLog$Log", "watches", "()I"⟩, 7), (⟨"DittoLog$Log", "firstRowOf", "(I)I"⟩, 7), (⟨"DittoLog$Log", "lastRowOf", "(I)I"⟩, 7), (⟨"DittoLog$Log", "runOf", "(II)I"⟩, 7)]
theorem lw_r3 : ∀ q ∈ lw_privs_3, lw_okq q := List.forall_mem_cons.mpr ⟨lw_p32, List.forall_mem_cons.mpr ⟨lw_p33, List.forall_mem_cons.mpr ⟨lw_p34, List.forall_mem_cons.mpr ⟨lw_p35, List.forall_mem_cons.mpr ⟨lw_p36, List.forall_mem_cons.mpr ⟨lw_p37, List.forall_mem_cons.mpr ⟨lw_p38, List.forall_mem_cons.mpr ⟨lw_p39, List.forall_mem_cons.mpr ⟨lw_p40, List.forall_mem_cons.mpr ⟨lw_p41, List.forall_mem_cons.mpr ⟨lw_p42, List.forall_mem_cons.mpr ⟨lw_p43, List.forall_mem_cons.mpr ⟨lw_p44, List.forall_mem_cons.mpr ⟨lw_p45, List.forall_mem_cons.mpr ⟨lw_p46, List.forall_mem_cons.mpr ⟨lw_p47, fun _ h => absurd h List.not_mem_nil⟩⟩⟩⟩⟩⟩⟩⟩⟩⟩⟩⟩⟩⟩⟩⟩
theorem lw_p48 : lw_okq (⟨"DittoLog", "doubtfulCells", "(II)I"⟩, 6) := ⟨⟨by decide +kernel, by decide +kernel⟩, List.mem_of_getElem? (i := 12) (by decide +kernel), List.mem_of_getElem? (i := 415) (by decide +kernel), List.mem_of_getElem? (i := 416) (by decide +kernel)⟩
theorem lw_p49 : lw_okq (⟨"DittoLog$Log", "areRows", "(II)Z"⟩, 7) := ⟨⟨by decide +kernel, by decide +kernel⟩, List.mem_of_getElem? (i := 20) (by decide +kernel), List.mem_of_getElem? (i := 427) (by decide +kernel), List.mem_of_getElem? (i := 428) (by decide +kernel)⟩
theorem lw_p50 : lw_okq (⟨"DittoLog$Log", "wayOf", "(III)D"⟩, 7) := ⟨⟨by decide +kernel, by decide +kernel⟩, List.mem_of_getElem? (i := 20) (by decide +kernel), List.mem_of_getElem? (i := 431) (by decide +kernel), List.mem_of_getElem? (i := 432) (by decide +kernel)⟩
theorem lw_p51 : lw_okq (⟨"DittoLog", "dittos", "()I"⟩, 6) := ⟨⟨by decide +kernel, by decide +kernel⟩, List.mem_of_getElem? (i := 12) (by decide +kernel), List.mem_of_getElem? (i := 464) (by decide +kernel), List.mem_of_getElem? (i := 465) (by decide +kernel)⟩
theorem lw_p52 : lw_okq (⟨"DittoLog", "corrections", "()I"⟩, 6) := ⟨⟨by decide +kernel, by decide +kernel⟩, List.mem_of_getElem? (i := 12) (by decide +kernel), List.mem_of_getElem? (i := 468) (by decide +kernel), List.mem_of_getElem? (i := 469) (by decide +kernel)⟩
theorem lw_p53 : lw_okq (⟨"DittoLog$Log", "countWrittenOut", "()I"⟩, 7) := ⟨⟨by decide +kernel, by decide +kernel⟩, List.mem_of_getElem? (i := 20) (by decide +kernel), List.mem_of_getElem? (i := 472) (by decide +kernel), List.mem_of_getElem? (i := 473) (by decide +kernel)⟩
theorem lw_p54 : lw_okq (⟨"DittoLog$Log", "countWrongSums", "()I"⟩, 7) := ⟨⟨by decide +kernel, by decide +kernel⟩, List.mem_of_getElem? (i := 20) (by decide +kernel), List.mem_of_getElem? (i := 477) (by decide +kernel), List.mem_of_getElem? (i := 478) (by decide +kernel)⟩
theorem lw_p55 : lw_okq (⟨"DittoLogModel", "records", "()V"⟩, 11) := ⟨⟨by decide +kernel, by decide +kernel⟩, List.mem_of_getElem? (i := 486) (by decide +kernel), List.mem_of_getElem? (i := 539) (by decide +kernel), List.mem_of_getElem? (i := 540) (by decide +kernel)⟩
theorem lw_p56 : lw_okq (⟨"DittoLogModel", "comes", "(III)V"⟩, 11) := ⟨⟨by decide +kernel, by decide +kernel⟩, List.mem_of_getElem? (i := 486) (by decide +kernel), List.mem_of_getElem? (i := 546) (by decide +kernel), List.mem_of_getElem? (i := 547) (by decide +kernel)⟩
theorem lw_p57 : lw_okq (⟨"DittoLogModel", "fault", "()I"⟩, 11) := ⟨⟨by decide +kernel, by decide +kernel⟩, List.mem_of_getElem? (i := 486) (by decide +kernel), List.mem_of_getElem? (i := 557) (by decide +kernel), List.mem_of_getElem? (i := 558) (by decide +kernel)⟩
theorem lw_p58 : lw_okq (⟨"DittoLogModel", "isRowNext", "()Z"⟩, 11) := ⟨⟨by decide +kernel, by decide +kernel⟩, List.mem_of_getElem? (i := 486) (by decide +kernel), List.mem_of_getElem? (i := 561) (by decide +kernel), List.mem_of_getElem? (i := 562) (by decide +kernel)⟩
theorem lw_p59 : lw_okq (⟨"DittoLogModel", "isCellNext", "(I)Z"⟩, 11) := ⟨⟨by decide +kernel, by decide +kernel⟩, List.mem_of_getElem? (i := 486) (by decide +kernel), List.mem_of_getElem? (i := 565) (by decide +kernel), List.mem_of_getElem? (i := 566) (by decide +kernel)⟩
theorem lw_p60 : lw_okq (⟨"DittoLogModel", "takes", "(I)Z"⟩, 11) := ⟨⟨by decide +kernel, by decide +kernel⟩, List.mem_of_getElem? (i := 486) (by decide +kernel), List.mem_of_getElem? (i := 569) (by decide +kernel), List.mem_of_getElem? (i := 570) (by decide +kernel)⟩
theorem lw_p61 : lw_okq (⟨"DittoLogModel", "sees", "(II)Z"⟩, 11) := ⟨⟨by decide +kernel, by decide +kernel⟩, List.mem_of_getElem? (i := 486) (by decide +kernel), List.mem_of_getElem? (i := 573) (by decide +kernel), List.mem_of_getElem? (i := 574) (by decide +kernel)⟩
theorem lw_p62 : lw_okq (⟨"DittoLogModel", "leaves", "(I)V"⟩, 11) := ⟨⟨by decide +kernel, by decide +kernel⟩, List.mem_of_getElem? (i := 486) (by decide +kernel), List.mem_of_getElem? (i := 581) (by decide +kernel), List.mem_of_getElem? (i := 582) (by decide +kernel)⟩
theorem lw_p63 : lw_okq (⟨"DittoLogModel", "isCell", "(II)Z"⟩, 11) := ⟨⟨by decide +kernel, by decide +kernel⟩, List.mem_of_getElem? (i := 486) (by decide +kernel), List.mem_of_getElem? (i := 589) (by decide +kernel), List.mem_of_getElem? (i := 590) (by decide +kernel)⟩
def lw_privs_4 : List (MethodName × Nat) := [(⟨"DittoLog", "doubtfulCells", "(II)I"⟩, 6), (⟨"DittoLog$Log", "areRows", "(II)Z"⟩, 7), (⟨"DittoLog$Log", "wayOf", "(III)D"⟩, 7), (⟨"DittoLog", "dittos", "()I"⟩, 6), (⟨"DittoLog", "corrections", "()I"⟩, 6), (⟨"DittoLog$Log", "countWrittenOut", "()I"⟩, 7), (⟨"DittoLog$Log", "countWrongSums", "()I"⟩, 7), (⟨"DittoLogModel", "records", "()V"⟩, 11), (⟨"DittoLogModel", "comes", "(III)V"⟩, 11), (⟨"DittoLogModel", "fault", "()I"⟩, 11), (⟨"DittoLogModel", "isRowNext", "()Z"⟩, 11), (⟨"DittoLogModel", "isCellNext", "(I)Z"⟩, 11), (⟨"DittoLogModel", "takes", "(I)Z"⟩, 11), (⟨"DittoLogModel", "sees", "(II)Z"⟩, 11), (⟨"DittoLogModel", "leaves", "(I)V"⟩, 11), (⟨"DittoLogModel", "isCell", "(II)Z"⟩, 11)]
theorem lw_r4 : ∀ q ∈ lw_privs_4, lw_okq q := List.forall_mem_cons.mpr ⟨lw_p48, List.forall_mem_cons.mpr ⟨lw_p49, List.forall_mem_cons.mpr ⟨lw_p50, List.forall_mem_cons.mpr ⟨lw_p51, List.forall_mem_cons.mpr ⟨lw_p52, List.forall_mem_cons.mpr ⟨lw_p53, List.forall_mem_cons.mpr ⟨lw_p54, List.forall_mem_cons.mpr ⟨lw_p55, List.forall_mem_cons.mpr ⟨lw_p56, List.forall_mem_cons.mpr ⟨lw_p57, List.forall_mem_cons.mpr ⟨lw_p58, List.forall_mem_cons.mpr ⟨lw_p59, List.forall_mem_cons.mpr ⟨lw_p60, List.forall_mem_cons.mpr ⟨lw_p61, List.forall_mem_cons.mpr ⟨lw_p62, List.forall_mem_cons.mpr ⟨lw_p63, fun _ h => absurd h List.not_mem_nil⟩⟩⟩⟩⟩⟩⟩⟩⟩⟩⟩⟩⟩⟩⟩⟩
theorem lw_p64 : lw_okq (⟨"DittoLogModel", "isRow", "(I)Z"⟩, 11) := ⟨⟨by decide +kernel, by decide +kernel⟩, List.mem_of_getElem? (i := 486) (by decide +kernel), List.mem_of_getElem? (i := 593) (by decide +kernel), List.mem_of_getElem? (i := 594) (by decide +kernel)⟩
theorem lw_p65 : lw_okq (⟨"DittoLogModel", "entries", "(II)I"⟩, 11) := ⟨⟨by decide +kernel, by decide +kernel⟩, List.mem_of_getElem? (i := 486) (by decide +kernel), List.mem_of_getElem? (i := 600) (by decide +kernel), List.mem_of_getElem? (i := 601) (by decide +kernel)⟩
theorem lw_p66 : lw_okq (⟨"DittoLogModel", "latest", "(II)I"⟩, 11) := ⟨⟨by decide +kernel, by decide +kernel⟩, List.mem_of_getElem? (i := 486) (by decide +kernel), List.mem_of_getElem? (i := 604) (by decide +kernel), List.mem_of_getElem? (i := 605) (by decide +kernel)⟩
theorem lw_p67 : lw_okq (⟨"DittoLogModel", "laysMeant", "(I)V"⟩, 11) := ⟨⟨by decide +kernel, by decide +kernel⟩, List.mem_of_getElem? (i := 486) (by decide +kernel), List.mem_of_getElem? (i := 608) (by decide +kernel), List.mem_of_getElem? (i := 609) (by decide +kernel)⟩
theorem lw_p68 : lw_okq (⟨"DittoLogModel", "means", "(II)I"⟩, 11) := ⟨⟨by decide +kernel, by decide +kernel⟩, List.mem_of_getElem? (i := 486) (by decide +kernel), List.mem_of_getElem? (i := 612) (by decide +kernel), List.mem_of_getElem? (i := 613) (by decide +kernel)⟩
theorem lw_p69 : lw_okq (⟨"DittoLogModel", "end", "(II)I"⟩, 11) := ⟨⟨by decide +kernel, by decide +kernel⟩, List.mem_of_getElem? (i := 486) (by decide +kernel), List.mem_of_getElem? (i := 616) (by decide +kernel), List.mem_of_getElem? (i := 617) (by decide +kernel)⟩
theorem lw_p70 : lw_okq (⟨"DittoLogModel", "goesUp", "(II)Z"⟩, 11) := ⟨⟨by decide +kernel, by decide +kernel⟩, List.mem_of_getElem? (i := 486) (by decide +kernel), List.mem_of_getElem? (i := 620) (by decide +kernel), List.mem_of_getElem? (i := 621) (by decide +kernel)⟩
theorem lw_p71 : lw_okq (⟨"DittoLogModel", "others", "(I)I"⟩, 11) := ⟨⟨by decide +kernel, by decide +kernel⟩, List.mem_of_getElem? (i := 486) (by decide +kernel), List.mem_of_getElem? (i := 624) (by decide +kernel), List.mem_of_getElem? (i := 625) (by decide +kernel)⟩
theorem lw_p72 : lw_okq (⟨"DittoLogModel", "source", "(II)I"⟩, 11) := ⟨⟨by decide +kernel, by decide +kernel⟩, List.mem_of_getElem? (i := 486) (by decide +kernel), List.mem_of_getElem? (i := 667) (by decide +kernel), List.mem_of_getElem? (i := 668) (by decide +kernel)⟩
theorem lw_p73 : lw_okq (⟨"DittoLogModel", "chain", "(II)I"⟩, 11) := ⟨⟨by decide +kernel, by decide +kernel⟩, List.mem_of_getElem? (i := 486) (by decide +kernel), List.mem_of_getElem? (i := 671) (by decide +kernel), List.mem_of_getElem? (i := 672) (by decide +kernel)⟩
theorem lw_p74 : lw_okq (⟨"DittoLogModel", "isDoubtful", "(II)Z"⟩, 11) := ⟨⟨by decide +kernel, by decide +kernel⟩, List.mem_of_getElem? (i := 486) (by decide +kernel), List.mem_of_getElem? (i := 675) (by decide +kernel), List.mem_of_getElem? (i := 676) (by decide +kernel)⟩
theorem lw_p75 : lw_okq (⟨"DittoLogModel", "below", "(II)I"⟩, 11) := ⟨⟨by decide +kernel, by decide +kernel⟩, List.mem_of_getElem? (i := 486) (by decide +kernel), List.mem_of_getElem? (i := 679) (by decide +kernel), List.mem_of_getElem? (i := 680) (by decide +kernel)⟩
theorem lw_p76 : lw_okq (⟨"DittoLogModel", "written", "(I)I"⟩, 11) := ⟨⟨by decide +kernel, by decide +kernel⟩, List.mem_of_getElem? (i := 486) (by decide +kernel), List.mem_of_getElem? (i := 691) (by decide +kernel), List.mem_of_getElem? (i := 692) (by decide +kernel)⟩
theorem lw_p77 : lw_okq (⟨"DittoLogModel", "withLatest", "(II)I"⟩, 11) := ⟨⟨by decide +kernel, by decide +kernel⟩, List.mem_of_getElem? (i := 486) (by decide +kernel), List.mem_of_getElem? (i := 699) (by decide +kernel), List.mem_of_getElem? (i := 700) (by decide +kernel)⟩
theorem lw_p78 : lw_okq (⟨"DittoLogModel", "corrections", "(I)I"⟩, 11) := ⟨⟨by decide +kernel, by decide +kernel⟩, List.mem_of_getElem? (i := 486) (by decide +kernel), List.mem_of_getElem? (i := 703) (by decide +kernel), List.mem_of_getElem? (i := 704) (by decide +kernel)⟩
theorem lw_p79 : lw_okq (⟨"DittoLogModel", "meaning", "(IIII)I"⟩, 11) := ⟨⟨by decide +kernel, by decide +kernel⟩, List.mem_of_getElem? (i := 486) (by decide +kernel), List.mem_of_getElem? (i := 707) (by decide +kernel), List.mem_of_getElem? (i := 708) (by decide +kernel)⟩
def lw_privs_5 : List (MethodName × Nat) := [(⟨"DittoLogModel", "isRow", "(I)Z"⟩, 11), (⟨"DittoLogModel", "entries", "(II)I"⟩, 11), (⟨"DittoLogModel", "latest", "(II)I"⟩, 11), (⟨"DittoLogModel", "laysMeant", "(I)V"⟩, 11), (⟨"DittoLogModel", "means", "(II)I"⟩, 11), (⟨"DittoLogModel", "end", "(II)I"⟩, 11), (⟨"DittoLogModel", "goesUp", "(II)Z"⟩, 11), (⟨"DittoLogModel", "others", "(I)I"⟩, 11), (⟨"DittoLogModel", "source", "(II)I"⟩, 11), (⟨"DittoLogModel", "chain", "(II)I"⟩, 11), (⟨"DittoLogModel", "isDoubtful", "(II)Z"⟩, 11), (⟨"DittoLogModel", "below", "(II)I"⟩, 11), (⟨"DittoLogModel", "written", "(I)I"⟩, 11), (⟨"DittoLogModel", "withLatest", "(II)I"⟩, 11), (⟨"DittoLogModel", "corrections", "(I)I"⟩, 11), (⟨"DittoLogModel", "meaning", "(IIII)I"⟩, 11)]
theorem lw_r5 : ∀ q ∈ lw_privs_5, lw_okq q := List.forall_mem_cons.mpr ⟨lw_p64, List.forall_mem_cons.mpr ⟨lw_p65, List.forall_mem_cons.mpr ⟨lw_p66, List.forall_mem_cons.mpr ⟨lw_p67, List.forall_mem_cons.mpr ⟨lw_p68, List.forall_mem_cons.mpr ⟨lw_p69, List.forall_mem_cons.mpr ⟨lw_p70, List.forall_mem_cons.mpr ⟨lw_p71, List.forall_mem_cons.mpr ⟨lw_p72, List.forall_mem_cons.mpr ⟨lw_p73, List.forall_mem_cons.mpr ⟨lw_p74, List.forall_mem_cons.mpr ⟨lw_p75, List.forall_mem_cons.mpr ⟨lw_p76, List.forall_mem_cons.mpr ⟨lw_p77, List.forall_mem_cons.mpr ⟨lw_p78, List.forall_mem_cons.mpr ⟨lw_p79, fun _ h => absurd h List.not_mem_nil⟩⟩⟩⟩⟩⟩⟩⟩⟩⟩⟩⟩⟩⟩⟩⟩
theorem lw_p80 : lw_okq (⟨"DittoLogModel", "longest", "(I)I"⟩, 11) := ⟨⟨by decide +kernel, by decide +kernel⟩, List.mem_of_getElem? (i := 486) (by decide +kernel), List.mem_of_getElem? (i := 711) (by decide +kernel), List.mem_of_getElem? (i := 712) (by decide +kernel)⟩
theorem lw_p81 : lw_okq (⟨"DittoLogModel", "commonest", "(III)I"⟩, 11) := ⟨⟨by decide +kernel, by decide +kernel⟩, List.mem_of_getElem? (i := 486) (by decide +kernel), List.mem_of_getElem? (i := 715) (by decide +kernel), List.mem_of_getElem? (i := 716) (by decide +kernel)⟩
theorem lw_p82 : lw_okq (⟨"DittoLogModel", "doubtful", "(III)I"⟩, 11) := ⟨⟨by decide +kernel, by decide +kernel⟩, List.mem_of_getElem? (i := 486) (by decide +kernel), List.mem_of_getElem? (i := 719) (by decide +kernel), List.mem_of_getElem? (i := 720) (by decide +kernel)⟩
theorem lw_p83 : lw_okq (⟨"DittoLogModel", "watches", "()I"⟩, 11) := ⟨⟨by decide +kernel, by decide +kernel⟩, List.mem_of_getElem? (i := 486) (by decide +kernel), List.mem_of_getElem? (i := 727) (by decide +kernel), List.mem_of_getElem? (i := 728) (by decide +kernel)⟩
theorem lw_p84 : lw_okq (⟨"DittoLogModel", "lastOf", "(I)I"⟩, 11) := ⟨⟨by decide +kernel, by decide +kernel⟩, List.mem_of_getElem? (i := 486) (by decide +kernel), List.mem_of_getElem? (i := 731) (by decide +kernel), List.mem_of_getElem? (i := 732) (by decide +kernel)⟩
theorem lw_p85 : lw_okq (⟨"DittoLogModel", "runOf", "(II)I"⟩, 11) := ⟨⟨by decide +kernel, by decide +kernel⟩, List.mem_of_getElem? (i := 486) (by decide +kernel), List.mem_of_getElem? (i := 735) (by decide +kernel), List.mem_of_getElem? (i := 736) (by decide +kernel)⟩
theorem lw_p86 : lw_okq (⟨"DittoLogModel", "inDoubt", "(II)I"⟩, 11) := ⟨⟨by decide +kernel, by decide +kernel⟩, List.mem_of_getElem? (i := 486) (by decide +kernel), List.mem_of_getElem? (i := 739) (by decide +kernel), List.mem_of_getElem? (i := 740) (by decide +kernel)⟩
theorem lw_p87 : lw_okq (⟨"DittoLogModel", "mayGo", "(II)I"⟩, 11) := ⟨⟨by decide +kernel, by decide +kernel⟩, List.mem_of_getElem? (i := 486) (by decide +kernel), List.mem_of_getElem? (i := 747) (by decide +kernel), List.mem_of_getElem? (i := 748) (by decide +kernel)⟩
theorem lw_p88 : lw_okq (⟨"DittoLogModel", "brings", "(III)D"⟩, 11) := ⟨⟨by decide +kernel, by decide +kernel⟩, List.mem_of_getElem? (i := 486) (by decide +kernel), List.mem_of_getElem? (i := 756) (by decide +kernel), List.mem_of_getElem? (i := 757) (by decide +kernel)⟩
theorem lw_p89 : lw_okq (⟨"DittoLogModel", "square", "(II)I"⟩, 11) := ⟨⟨by decide +kernel, by decide +kernel⟩, List.mem_of_getElem? (i := 486) (by decide +kernel), List.mem_of_getElem? (i := 775) (by decide +kernel), List.mem_of_getElem? (i := 776) (by decide +kernel)⟩
theorem lw_p90 : lw_okq (⟨"DittoLogModel", "overColumns", "(I)I"⟩, 11) := ⟨⟨by decide +kernel, by decide +kernel⟩, List.mem_of_getElem? (i := 486) (by decide +kernel), List.mem_of_getElem? (i := 797) (by decide +kernel), List.mem_of_getElem? (i := 798) (by decide +kernel)⟩
theorem lw_p91 : lw_okq (⟨"DittoLogModel", "allWritten", "()I"⟩, 11) := ⟨⟨by decide +kernel, by decide +kernel⟩, List.mem_of_getElem? (i := 486) (by decide +kernel), List.mem_of_getElem? (i := 802) (by decide +kernel), List.mem_of_getElem? (i := 803) (by decide +kernel)⟩
theorem lw_p92 : lw_okq (⟨"DittoLogModel", "unlike", "()I"⟩, 11) := ⟨⟨by decide +kernel, by decide +kernel⟩, List.mem_of_getElem? (i := 486) (by decide +kernel), List.mem_of_getElem? (i := 806) (by decide +kernel), List.mem_of_getElem? (i := 807) (by decide +kernel)⟩
def lw_privs_6 : List (MethodName × Nat) := [(⟨"DittoLogModel", "longest", "(I)I"⟩, 11), (⟨"DittoLogModel", "commonest", "(III)I"⟩, 11), (⟨"DittoLogModel", "doubtful", "(III)I"⟩, 11), (⟨"DittoLogModel", "watches", "()I"⟩, 11), (⟨"DittoLogModel", "lastOf", "(I)I"⟩, 11), (⟨"DittoLogModel", "runOf", "(II)I"⟩, 11), (⟨"DittoLogModel", "inDoubt", "(II)I"⟩, 11), (⟨"DittoLogModel", "mayGo", "(II)I"⟩, 11), (⟨"DittoLogModel", "brings", "(III)D"⟩, 11), (⟨"DittoLogModel", "square", "(II)I"⟩, 11), (⟨"DittoLogModel", "overColumns", "(I)I"⟩, 11), (⟨"DittoLogModel", "allWritten", "()I"⟩, 11), (⟨"DittoLogModel", "unlike", "()I"⟩, 11)]
theorem lw_r6 : ∀ q ∈ lw_privs_6, lw_okq q := List.forall_mem_cons.mpr ⟨lw_p80, List.forall_mem_cons.mpr ⟨lw_p81, List.forall_mem_cons.mpr ⟨lw_p82, List.forall_mem_cons.mpr ⟨lw_p83, List.forall_mem_cons.mpr ⟨lw_p84, List.forall_mem_cons.mpr ⟨lw_p85, List.forall_mem_cons.mpr ⟨lw_p86, List.forall_mem_cons.mpr ⟨lw_p87, List.forall_mem_cons.mpr ⟨lw_p88, List.forall_mem_cons.mpr ⟨lw_p89, List.forall_mem_cons.mpr ⟨lw_p90, List.forall_mem_cons.mpr ⟨lw_p91, List.forall_mem_cons.mpr ⟨lw_p92, fun _ h => absurd h List.not_mem_nil⟩⟩⟩⟩⟩⟩⟩⟩⟩⟩⟩⟩⟩
def lw_privs : List (MethodName × Nat) := lw_privs_1 ++ (lw_privs_2 ++ (lw_privs_3 ++ (lw_privs_4 ++ (lw_privs_5 ++ (lw_privs_6)))))
def lw_tbl : List Cond := k2_sels lw_privs ++ tables_1
theorem lw_privs_ok : ∀ q ∈ lw_privs, lw_okq q := by
  show ∀ q ∈ lw_privs_1 ++ (lw_privs_2 ++ (lw_privs_3 ++ (lw_privs_4 ++ (lw_privs_5 ++ (lw_privs_6))))), lw_okq q
  exact List.forall_mem_append.mpr ⟨lw_r1, List.forall_mem_append.mpr ⟨lw_r2, List.forall_mem_append.mpr ⟨lw_r3, List.forall_mem_append.mpr ⟨lw_r4, List.forall_mem_append.mpr ⟨lw_r5, lw_r6⟩⟩⟩⟩⟩
/-- the streams that the claim lets the run draw from -/
abbrev lw_cs : List Choice := [Jvm.Choice.named "NaN.bits"]
theorem lw_bits : nanBits ∈ lw_cs := by first | decide | exact List.mem_cons_self | simp [lw_cs, nanBits]
end
section
def RX0 : String := "DittoLog$History"
def TX0 : u_T := fun k => match k with
  | 0 => ("DittoLog$History", "states", "[LDittoLog$Log;", true)
  | 1 => ("DittoLog$History", "oldest", "I", false)
  | _ => ("DittoLog$History", "size", "I", false)
def tyX0 : Nat → FieldType := fun k => match k with
  | 0 => .array (.object "DittoLog$Log")
  | 1 => .int
  | _ => .int
abbrev wsX00 : List Cond := u_ws RX0 TX0 3
theorem nmX0 : ∀ a, a < 3 → ∀ b, b < 3 → a ≠ b → (TX0 a).2.1 ≠ (TX0 b).2.1 := by decide +kernel
theorem tyX0_ok : ∀ k, k < 3 → parseFieldDescriptor (TX0 k).2.2.1 = some (tyX0 k) := by decide +kernel
abbrev cX0_init : ByteArray := prog_2_method_1_code
def yX0_init : MethodName := ⟨RX0, "<init>", "()V"⟩
abbrev cX0_remember : ByteArray := prog_2_method_2_code
def yX0_remember : MethodName := ⟨RX0, "remember", "(LDittoLog$Log;)V"⟩
abbrev cX0_takeInto : ByteArray := prog_2_method_3_code
def yX0_takeInto : MethodName := ⟨RX0, "takeInto", "(LDittoLog$Log;)Z"⟩
abbrev cX0_latest : ByteArray := prog_2_method_4_code
def yX0_latest : MethodName := ⟨RX0, "latest", "()LDittoLog$Log;"⟩
def RX1 : String := "DittoLog$Log"
def TX1 : u_T := fun k => match k with
  | 0 => ("DittoLog$Log", "entries", "[I", true)
  | 1 => ("DittoLog$Log", "entryCounts", "[I", true)
  | 2 => ("DittoLog$Log", "sums", "[I", true)
  | 3 => ("DittoLog$Log", "rows", "I", false)
  | 4 => ("DittoLog$Log", "pageRows", "I", false)
  | 5 => ("DittoLog$Log", "stopsAtPages", "I", false)
  | _ => ("DittoLog$Log", "watchRows", "I", false)
def tyX1 : Nat → FieldType := fun k => match k with
  | 0 => .array .int
  | 1 => .array .int
  | 2 => .array .int
  | 3 => .int
  | 4 => .int
  | 5 => .int
  | _ => .int
abbrev wsX10 : List Cond := u_ws RX1 TX1 7
theorem nmX1 : ∀ a, a < 7 → ∀ b, b < 7 → a ≠ b → (TX1 a).2.1 ≠ (TX1 b).2.1 := by decide +kernel
theorem tyX1_ok : ∀ k, k < 7 → parseFieldDescriptor (TX1 k).2.2.1 = some (tyX1 k) := by decide +kernel
abbrev cX1_init : ByteArray := prog_3_method_1_code
def yX1_init : MethodName := ⟨RX1, "<init>", "()V"⟩
abbrev cX1_copyFrom : ByteArray := prog_3_method_2_code
def yX1_copyFrom : MethodName := ⟨RX1, "copyFrom", "(LDittoLog$Log;)V"⟩
abbrev cX1_settingOf : ByteArray := prog_3_method_3_code
def yX1_settingOf : MethodName := ⟨RX1, "settingOf", "(I)I"⟩
abbrev cX1_changeSetting : ByteArray := prog_3_method_4_code
def yX1_changeSetting : MethodName := ⟨RX1, "changeSetting", "(II)V"⟩
abbrev cX1_sumOf : ByteArray := prog_3_method_5_code
def yX1_sumOf : MethodName := ⟨RX1, "sumOf", "(I)I"⟩
abbrev cX1_writeSum : ByteArray := prog_3_method_6_code
def yX1_writeSum : MethodName := ⟨RX1, "writeSum", "(II)V"⟩
abbrev cX1_isRow : ByteArray := prog_3_method_7_code
def yX1_isRow : MethodName := ⟨RX1, "isRow", "(I)Z"⟩
abbrev cX1_areRows : ByteArray := prog_3_method_8_code
def yX1_areRows : MethodName := ⟨RX1, "areRows", "(II)Z"⟩
abbrev cX1_isCell : ByteArray := prog_3_method_9_code
def yX1_isCell : MethodName := ⟨RX1, "isCell", "(II)Z"⟩
abbrev cX1_appendRow : ByteArray := prog_3_method_10_code
def yX1_appendRow : MethodName := ⟨RX1, "appendRow", "(IIII)V"⟩
abbrev cX1_startCell : ByteArray := prog_3_method_11_code
def yX1_startCell : MethodName := ⟨RX1, "startCell", "(III)V"⟩
abbrev cX1_dropRow : ByteArray := prog_3_method_12_code
def yX1_dropRow : MethodName := ⟨RX1, "dropRow", "()V"⟩
abbrev cX1_pushEntry : ByteArray := prog_3_method_13_code
def yX1_pushEntry : MethodName := ⟨RX1, "pushEntry", "(III)V"⟩
abbrev cX1_popEntry : ByteArray := prog_3_method_14_code
def yX1_popEntry : MethodName := ⟨RX1, "popEntry", "(II)V"⟩
abbrev cX1_entriesOf : ByteArray := prog_3_method_15_code
def yX1_entriesOf : MethodName := ⟨RX1, "entriesOf", "(II)I"⟩
abbrev cX1_entryOf : ByteArray := prog_3_method_16_code
def yX1_entryOf : MethodName := ⟨RX1, "entryOf", "(III)I"⟩
abbrev cX1_latestOf : ByteArray := prog_3_method_17_code
def yX1_latestOf : MethodName := ⟨RX1, "latestOf", "(II)I"⟩
abbrev cX1_isWrittenOut : ByteArray := prog_3_method_18_code
def yX1_isWrittenOut : MethodName := ⟨RX1, "isWrittenOut", "(I)Z"⟩
abbrev cX1_hasAbove : ByteArray := prog_3_method_19_code
def yX1_hasAbove : MethodName := ⟨RX1, "hasAbove", "(I)Z"⟩
abbrev cX1_leansUp : ByteArray := prog_3_method_20_code
def yX1_leansUp : MethodName := ⟨RX1, "leansUp", "(II)Z"⟩
abbrev cX1_topOfChain : ByteArray := prog_3_method_21_code
def yX1_topOfChain : MethodName := ⟨RX1, "topOfChain", "(II)I"⟩
abbrev cX1_chainOf : ByteArray := prog_3_method_22_code
def yX1_chainOf : MethodName := ⟨RX1, "chainOf", "(II)I"⟩
abbrev cX1_meaningOf : ByteArray := prog_3_method_23_code
def yX1_meaningOf : MethodName := ⟨RX1, "meaningOf", "(II)I"⟩
abbrev cX1_sourceOf : ByteArray := prog_3_method_24_code
def yX1_sourceOf : MethodName := ⟨RX1, "sourceOf", "(II)I"⟩
abbrev cX1_isDoubtful : ByteArray := prog_3_method_25_code
def yX1_isDoubtful : MethodName := ⟨RX1, "isDoubtful", "(II)Z"⟩
abbrev cX1_followersOf : ByteArray := prog_3_method_26_code
def yX1_followersOf : MethodName := ⟨RX1, "followersOf", "(II)I"⟩
abbrev cX1_meaningWith : ByteArray := prog_3_method_27_code
def yX1_meaningWith : MethodName := ⟨RX1, "meaningWith", "(III)I"⟩
abbrev cX1_changedBy : ByteArray := prog_3_method_28_code
def yX1_changedBy : MethodName := ⟨RX1, "changedBy", "(III)I"⟩
abbrev cX1_countLatest : ByteArray := prog_3_method_29_code
def yX1_countLatest : MethodName := ⟨RX1, "countLatest", "(II)I"⟩
abbrev cX1_countCorrections : ByteArray := prog_3_method_30_code
def yX1_countCorrections : MethodName := ⟨RX1, "countCorrections", "(I)I"⟩
abbrev cX1_countMeaningless : ByteArray := prog_3_method_31_code
def yX1_countMeaningless : MethodName := ⟨RX1, "countMeaningless", "(III)I"⟩
abbrev cX1_countDoubtful : ByteArray := prog_3_method_32_code
def yX1_countDoubtful : MethodName := ⟨RX1, "countDoubtful", "(III)I"⟩
abbrev cX1_longestChain : ByteArray := prog_3_method_33_code
def yX1_longestChain : MethodName := ⟨RX1, "longestChain", "(I)I"⟩
abbrev cX1_countWrittenOut : ByteArray := prog_3_method_34_code
def yX1_countWrittenOut : MethodName := ⟨RX1, "countWrittenOut", "()I"⟩
abbrev cX1_watches : ByteArray := prog_3_method_35_code
def yX1_watches : MethodName := ⟨RX1, "watches", "()I"⟩
abbrev cX1_firstRowOf : ByteArray := prog_3_method_36_code
def yX1_firstRowOf : MethodName := ⟨RX1, "firstRowOf", "(I)I"⟩
abbrev cX1_lastRowOf : ByteArray := prog_3_method_37_code
def yX1_lastRowOf : MethodName := ⟨RX1, "lastRowOf", "(I)I"⟩
abbrev cX1_runOf : ByteArray := prog_3_method_38_code
def yX1_runOf : MethodName := ⟨RX1, "runOf", "(II)I"⟩
abbrev cX1_countWrongSums : ByteArray := prog_3_method_39_code
def yX1_countWrongSums : MethodName := ⟨RX1, "countWrongSums", "()I"⟩
abbrev cX1_wayOf : ByteArray := prog_3_method_40_code
def yX1_wayOf : MethodName := ⟨RX1, "wayOf", "(III)D"⟩
def RX2 : String := "DittoLog$RowsText"
def TX2 : u_T := fun k => match k with
  | 0 => ("DittoLog$RowsText", "characters", "[C", true)
  | 1 => ("DittoLog$RowsText", "cells", "[I", true)
  | 2 => ("DittoLog$RowsText", "length", "I", false)
  | _ => ("DittoLog$RowsText", "cellsRead", "I", false)
def tyX2 : Nat → FieldType := fun k => match k with
  | 0 => .array .char
  | 1 => .array .int
  | 2 => .int
  | _ => .int
abbrev wsX20 : List Cond := u_ws RX2 TX2 4
theorem nmX2 : ∀ a, a < 4 → ∀ b, b < 4 → a ≠ b → (TX2 a).2.1 ≠ (TX2 b).2.1 := by decide +kernel
theorem tyX2_ok : ∀ k, k < 4 → parseFieldDescriptor (TX2 k).2.2.1 = some (tyX2 k) := by decide +kernel
abbrev cX2_init : ByteArray := prog_4_method_1_code
def yX2_init : MethodName := ⟨RX2, "<init>", "()V"⟩
abbrev cX2_append : ByteArray := prog_4_method_2_code
def yX2_append : MethodName := ⟨RX2, "append", "(C)Z"⟩
abbrev cX2_readRows : ByteArray := prog_4_method_3_code
def yX2_readRows : MethodName := ⟨RX2, "readRows", "()I"⟩
abbrev cX2_columnRead : ByteArray := prog_4_method_4_code
def yX2_columnRead : MethodName := ⟨RX2, "columnRead", "()I"⟩
abbrev cX2_separator : ByteArray := prog_4_method_5_code
def yX2_separator : MethodName := ⟨RX2, "separator", "()C"⟩
abbrev cX2_grownBy : ByteArray := prog_4_method_6_code
def yX2_grownBy : MethodName := ⟨RX2, "grownBy", "(IC)I"⟩
abbrev cX2_withDigit : ByteArray := prog_4_method_7_code
def yX2_withDigit : MethodName := ⟨RX2, "withDigit", "(II)I"⟩
abbrev cX2_endCell : ByteArray := prog_4_method_8_code
def yX2_endCell : MethodName := ⟨RX2, "endCell", "(I)V"⟩
abbrev cX2_rowsRead : ByteArray := prog_4_method_9_code
def yX2_rowsRead : MethodName := ⟨RX2, "rowsRead", "()I"⟩
abbrev cX2_read : ByteArray := prog_4_method_10_code
def yX2_read : MethodName := ⟨RX2, "read", "(II)I"⟩
def RX3 : String := "DittoLog"
def TX3 : u_T := fun k => match k with
  | 0 => ("DittoLog", "log", "LDittoLog$Log;", true)
  | 1 => ("DittoLog", "snapshot", "LDittoLog$Log;", true)
  | 2 => ("DittoLog", "hasSnapshot", "Z", false)
  | 3 => ("DittoLog", "history", "LDittoLog$History;", true)
  | 4 => ("DittoLog", "text", "LDittoLog$RowsText;", true)
  | _ => ("DittoLog", "tally", "[I", true)
def tyX3 : Nat → FieldType := fun k => match k with
  | 0 => .object "DittoLog$Log"
  | 1 => .object "DittoLog$Log"
  | 2 => .boolean
  | 3 => .object "DittoLog$History"
  | 4 => .object "DittoLog$RowsText"
  | _ => .array .int
abbrev wsX30 : List Cond := u_ws RX3 TX3 6
theorem nmX3 : ∀ a, a < 6 → ∀ b, b < 6 → a ≠ b → (TX3 a).2.1 ≠ (TX3 b).2.1 := by decide +kernel
theorem tyX3_ok : ∀ k, k < 6 → parseFieldDescriptor (TX3 k).2.2.1 = some (tyX3 k) := by decide +kernel
abbrev cX3_init : ByteArray := prog_1_method_1_code
def yX3_init : MethodName := ⟨RX3, "<init>", "()V"⟩
abbrev cX3_addRow : ByteArray := prog_1_method_2_code
def yX3_addRow : MethodName := ⟨RX3, "addRow", "(IIII)I"⟩
abbrev cX3_addRows : ByteArray := prog_1_method_3_code
def yX3_addRows : MethodName := ⟨RX3, "addRows", "()I"⟩
abbrev cX3_removeRow : ByteArray := prog_1_method_4_code
def yX3_removeRow : MethodName := ⟨RX3, "removeRow", "()I"⟩
abbrev cX3_correct : ByteArray := prog_1_method_5_code
def yX3_correct : MethodName := ⟨RX3, "correct", "(III)I"⟩
abbrev cX3_takeBack : ByteArray := prog_1_method_6_code
def yX3_takeBack : MethodName := ⟨RX3, "takeBack", "(II)I"⟩
abbrev cX3_claim : ByteArray := prog_1_method_7_code
def yX3_claim : MethodName := ⟨RX3, "claim", "(II)I"⟩
abbrev cX3_set : ByteArray := prog_1_method_8_code
def yX3_set : MethodName := ⟨RX3, "set", "(II)I"⟩
abbrev cX3_type : ByteArray := prog_1_method_9_code
def yX3_type : MethodName := ⟨RX3, "type", "(C)I"⟩
abbrev cX3_clearText : ByteArray := prog_1_method_10_code
def yX3_clearText : MethodName := ⟨RX3, "clearText", "()I"⟩
abbrev cX3_undo : ByteArray := prog_1_method_11_code
def yX3_undo : MethodName := ⟨RX3, "undo", "()I"⟩
abbrev cX3_keep : ByteArray := prog_1_method_12_code
def yX3_keep : MethodName := ⟨RX3, "keep", "()I"⟩
abbrev cX3_restore : ByteArray := prog_1_method_13_code
def yX3_restore : MethodName := ⟨RX3, "restore", "()I"⟩
abbrev cX3_cell : ByteArray := prog_1_method_14_code
def yX3_cell : MethodName := ⟨RX3, "cell", "(III)I"⟩
abbrev cX3_entry : ByteArray := prog_1_method_15_code
def yX3_entry : MethodName := ⟨RX3, "entry", "(III)I"⟩
abbrev cX3_isWritten : ByteArray := prog_1_method_16_code
def yX3_isWritten : MethodName := ⟨RX3, "isWritten", "(I)I"⟩
abbrev cX3_column : ByteArray := prog_1_method_17_code
def yX3_column : MethodName := ⟨RX3, "column", "(II)I"⟩
abbrev cX3_watch : ByteArray := prog_1_method_18_code
def yX3_watch : MethodName := ⟨RX3, "watch", "(II)I"⟩
abbrev cX3_run : ByteArray := prog_1_method_19_code
def yX3_run : MethodName := ⟨RX3, "run", "(II)I"⟩
abbrev cX3_north : ByteArray := prog_1_method_20_code
def yX3_north : MethodName := ⟨RX3, "north", "(II)D"⟩
abbrev cX3_east : ByteArray := prog_1_method_21_code
def yX3_east : MethodName := ⟨RX3, "east", "(II)D"⟩
abbrev cX3_squareBits : ByteArray := prog_1_method_22_code
def yX3_squareBits : MethodName := ⟨RX3, "squareBits", "(II)I"⟩
abbrev cX3_wouldChange : ByteArray := prog_1_method_23_code
def yX3_wouldChange : MethodName := ⟨RX3, "wouldChange", "(III)I"⟩
abbrev cX3_count : ByteArray := prog_1_method_24_code
def yX3_count : MethodName := ⟨RX3, "count", "(I)I"⟩
abbrev cX3_dittos : ByteArray := prog_1_method_25_code
def yX3_dittos : MethodName := ⟨RX3, "dittos", "()I"⟩
abbrev cX3_corrections : ByteArray := prog_1_method_26_code
def yX3_corrections : MethodName := ⟨RX3, "corrections", "()I"⟩
abbrev cX3_doubtfulCells : ByteArray := prog_1_method_27_code
def yX3_doubtfulCells : MethodName := ⟨RX3, "doubtfulCells", "(II)I"⟩
abbrev cX3_mostMeant : ByteArray := prog_1_method_28_code
def yX3_mostMeant : MethodName := ⟨RX3, "mostMeant", "(III)I"⟩
abbrev cX3_isColumn : ByteArray := prog_1_method_29_code
def yX3_isColumn : MethodName := ⟨RX3, "isColumn", "(I)Z"⟩
abbrev cX3_isEntry : ByteArray := prog_1_method_30_code
def yX3_isEntry : MethodName := ⟨RX3, "isEntry", "(II)Z"⟩
abbrev cX3_at : ByteArray := prog_1_method_31_code
def yX3_at : MethodName := ⟨RX3, "at", "([II)I"⟩
abbrev cX3_copyInto : ByteArray := prog_1_method_32_code
def yX3_copyInto : MethodName := ⟨RX3, "copyInto", "([I[I)V"⟩
abbrev cX3_wayNorth : ByteArray := prog_1_method_33_code
def yX3_wayNorth : MethodName := ⟨RX3, "wayNorth", "(I)D"⟩
abbrev cX3_bitsOf : ByteArray := prog_1_method_34_code
def yX3_bitsOf : MethodName := ⟨RX3, "bitsOf", "(F)I"⟩
def RX4 : String := "DittoLogModel"
def TX4 : u_T := fun k => match k with
  | 0 => ("DittoLogModel", "now", "[I", true)
  | 1 => ("DittoLogModel", "past", "[I", true)
  | 2 => ("DittoLogModel", "states", "I", false)
  | 3 => ("DittoLogModel", "snapshot", "[I", true)
  | 4 => ("DittoLogModel", "isKept", "Z", false)
  | 5 => ("DittoLogModel", "text", "[C", true)
  | 6 => ("DittoLogModel", "length", "I", false)
  | 7 => ("DittoLogModel", "meant", "[I", true)
  | 8 => ("DittoLogModel", "spot", "I", false)
  | 9 => ("DittoLogModel", "told", "[I", true)
  | _ => ("DittoLogModel", "toldRows", "I", false)
def tyX4 : Nat → FieldType := fun k => match k with
  | 0 => .array .int
  | 1 => .array .int
  | 2 => .int
  | 3 => .array .int
  | 4 => .boolean
  | 5 => .array .char
  | 6 => .int
  | 7 => .array .int
  | 8 => .int
  | 9 => .array .int
  | _ => .int
abbrev wsX40 : List Cond := u_ws RX4 TX4 11
theorem nmX4 : ∀ a, a < 11 → ∀ b, b < 11 → a ≠ b → (TX4 a).2.1 ≠ (TX4 b).2.1 := by decide +kernel
theorem tyX4_ok : ∀ k, k < 11 → parseFieldDescriptor (TX4 k).2.2.1 = some (tyX4 k) := by decide +kernel
abbrev cX4_init : ByteArray := prog_6_method_1_code
def yX4_init : MethodName := ⟨RX4, "<init>", "()V"⟩
abbrev cX4_in : ByteArray := prog_6_method_3_code
def yX4_in : MethodName := ⟨RX4, "in", "(III)Z"⟩
abbrev cX4_lays : ByteArray := prog_6_method_4_code
def yX4_lays : MethodName := ⟨RX4, "lays", "([II[II)V"⟩
abbrev cX4_records : ByteArray := prog_6_method_5_code
def yX4_records : MethodName := ⟨RX4, "records", "()V"⟩
abbrev cX4_isRow : ByteArray := prog_6_method_6_code
def yX4_isRow : MethodName := ⟨RX4, "isRow", "(I)Z"⟩
abbrev cX4_isColumn : ByteArray := prog_6_method_7_code
def yX4_isColumn : MethodName := ⟨RX4, "isColumn", "(I)Z"⟩
abbrev cX4_isCell : ByteArray := prog_6_method_8_code
def yX4_isCell : MethodName := ⟨RX4, "isCell", "(II)Z"⟩
abbrev cX4_most : ByteArray := prog_6_method_9_code
def yX4_most : MethodName := ⟨RX4, "most", "(I)I"⟩
abbrev cX4_isEntry : ByteArray := prog_6_method_10_code
def yX4_isEntry : MethodName := ⟨RX4, "isEntry", "(II)Z"⟩
abbrev cX4_cellAt : ByteArray := prog_6_method_11_code
def yX4_cellAt : MethodName := ⟨RX4, "cellAt", "(II)I"⟩
abbrev cX4_entries : ByteArray := prog_6_method_12_code
def yX4_entries : MethodName := ⟨RX4, "entries", "(II)I"⟩
abbrev cX4_latest : ByteArray := prog_6_method_13_code
def yX4_latest : MethodName := ⟨RX4, "latest", "(II)I"⟩
abbrev cX4_goesUp : ByteArray := prog_6_method_14_code
def yX4_goesUp : MethodName := ⟨RX4, "goesUp", "(II)Z"⟩
abbrev cX4_end : ByteArray := prog_6_method_15_code
def yX4_end : MethodName := ⟨RX4, "end", "(II)I"⟩
abbrev cX4_means : ByteArray := prog_6_method_16_code
def yX4_means : MethodName := ⟨RX4, "means", "(II)I"⟩
abbrev cX4_source : ByteArray := prog_6_method_17_code
def yX4_source : MethodName := ⟨RX4, "source", "(II)I"⟩
abbrev cX4_chain : ByteArray := prog_6_method_18_code
def yX4_chain : MethodName := ⟨RX4, "chain", "(II)I"⟩
abbrev cX4_isDoubtful : ByteArray := prog_6_method_19_code
def yX4_isDoubtful : MethodName := ⟨RX4, "isDoubtful", "(II)Z"⟩
abbrev cX4_below : ByteArray := prog_6_method_20_code
def yX4_below : MethodName := ⟨RX4, "below", "(II)I"⟩
abbrev cX4_comes : ByteArray := prog_6_method_21_code
def yX4_comes : MethodName := ⟨RX4, "comes", "(III)V"⟩
abbrev cX4_leaves : ByteArray := prog_6_method_22_code
def yX4_leaves : MethodName := ⟨RX4, "leaves", "(I)V"⟩
abbrev cX4_addRow : ByteArray := prog_6_method_23_code
def yX4_addRow : MethodName := ⟨RX4, "addRow", "(IIII)I"⟩
abbrev cX4_addRows : ByteArray := prog_6_method_24_code
def yX4_addRows : MethodName := ⟨RX4, "addRows", "()I"⟩
abbrev cX4_removeRow : ByteArray := prog_6_method_25_code
def yX4_removeRow : MethodName := ⟨RX4, "removeRow", "()I"⟩
abbrev cX4_laysMeant : ByteArray := prog_6_method_26_code
def yX4_laysMeant : MethodName := ⟨RX4, "laysMeant", "(I)V"⟩
abbrev cX4_others : ByteArray := prog_6_method_27_code
def yX4_others : MethodName := ⟨RX4, "others", "(I)I"⟩
abbrev cX4_correct : ByteArray := prog_6_method_28_code
def yX4_correct : MethodName := ⟨RX4, "correct", "(III)I"⟩
abbrev cX4_takeBack : ByteArray := prog_6_method_29_code
def yX4_takeBack : MethodName := ⟨RX4, "takeBack", "(II)I"⟩
abbrev cX4_claim : ByteArray := prog_6_method_30_code
def yX4_claim : MethodName := ⟨RX4, "claim", "(II)I"⟩
abbrev cX4_isSetting : ByteArray := prog_6_method_31_code
def yX4_isSetting : MethodName := ⟨RX4, "isSetting", "(II)Z"⟩
abbrev cX4_set : ByteArray := prog_6_method_32_code
def yX4_set : MethodName := ⟨RX4, "set", "(II)I"⟩
abbrev cX4_type : ByteArray := prog_6_method_33_code
def yX4_type : MethodName := ⟨RX4, "type", "(C)I"⟩
abbrev cX4_clearText : ByteArray := prog_6_method_34_code
def yX4_clearText : MethodName := ⟨RX4, "clearText", "()I"⟩
abbrev cX4_sees : ByteArray := prog_6_method_35_code
def yX4_sees : MethodName := ⟨RX4, "sees", "(II)Z"⟩
abbrev cX4_takes : ByteArray := prog_6_method_36_code
def yX4_takes : MethodName := ⟨RX4, "takes", "(I)Z"⟩
abbrev cX4_isCellNext : ByteArray := prog_6_method_37_code
def yX4_isCellNext : MethodName := ⟨RX4, "isCellNext", "(I)Z"⟩
abbrev cX4_isRowNext : ByteArray := prog_6_method_38_code
def yX4_isRowNext : MethodName := ⟨RX4, "isRowNext", "()Z"⟩
abbrev cX4_fault : ByteArray := prog_6_method_39_code
def yX4_fault : MethodName := ⟨RX4, "fault", "()I"⟩
abbrev cX4_undo : ByteArray := prog_6_method_40_code
def yX4_undo : MethodName := ⟨RX4, "undo", "()I"⟩
abbrev cX4_keep : ByteArray := prog_6_method_41_code
def yX4_keep : MethodName := ⟨RX4, "keep", "()I"⟩
abbrev cX4_restore : ByteArray := prog_6_method_42_code
def yX4_restore : MethodName := ⟨RX4, "restore", "()I"⟩
abbrev cX4_cell : ByteArray := prog_6_method_43_code
def yX4_cell : MethodName := ⟨RX4, "cell", "(III)I"⟩
abbrev cX4_entry : ByteArray := prog_6_method_44_code
def yX4_entry : MethodName := ⟨RX4, "entry", "(III)I"⟩
abbrev cX4_written : ByteArray := prog_6_method_45_code
def yX4_written : MethodName := ⟨RX4, "written", "(I)I"⟩
abbrev cX4_isWritten : ByteArray := prog_6_method_46_code
def yX4_isWritten : MethodName := ⟨RX4, "isWritten", "(I)I"⟩
abbrev cX4_withLatest : ByteArray := prog_6_method_47_code
def yX4_withLatest : MethodName := ⟨RX4, "withLatest", "(II)I"⟩
abbrev cX4_corrections : ByteArray := prog_6_method_48_code
def yX4_corrections : MethodName := ⟨RX4, "corrections", "(I)I"⟩
abbrev cX4_meaning : ByteArray := prog_6_method_49_code
def yX4_meaning : MethodName := ⟨RX4, "meaning", "(IIII)I"⟩
abbrev cX4_longest : ByteArray := prog_6_method_50_code
def yX4_longest : MethodName := ⟨RX4, "longest", "(I)I"⟩
abbrev cX4_commonest : ByteArray := prog_6_method_51_code
def yX4_commonest : MethodName := ⟨RX4, "commonest", "(III)I"⟩
abbrev cX4_doubtful : ByteArray := prog_6_method_52_code
def yX4_doubtful : MethodName := ⟨RX4, "doubtful", "(III)I"⟩
abbrev cX4_column : ByteArray := prog_6_method_53_code
def yX4_column : MethodName := ⟨RX4, "column", "(II)I"⟩
abbrev cX4_watches : ByteArray := prog_6_method_54_code
def yX4_watches : MethodName := ⟨RX4, "watches", "()I"⟩
abbrev cX4_lastOf : ByteArray := prog_6_method_55_code
def yX4_lastOf : MethodName := ⟨RX4, "lastOf", "(I)I"⟩
abbrev cX4_runOf : ByteArray := prog_6_method_56_code
def yX4_runOf : MethodName := ⟨RX4, "runOf", "(II)I"⟩
abbrev cX4_inDoubt : ByteArray := prog_6_method_57_code
def yX4_inDoubt : MethodName := ⟨RX4, "inDoubt", "(II)I"⟩
abbrev cX4_watch : ByteArray := prog_6_method_58_code
def yX4_watch : MethodName := ⟨RX4, "watch", "(II)I"⟩
abbrev cX4_mayGo : ByteArray := prog_6_method_59_code
def yX4_mayGo : MethodName := ⟨RX4, "mayGo", "(II)I"⟩
abbrev cX4_run : ByteArray := prog_6_method_60_code
def yX4_run : MethodName := ⟨RX4, "run", "(II)I"⟩
abbrev cX4_northBy : ByteArray := prog_6_method_61_code
def yX4_northBy : MethodName := ⟨RX4, "northBy", "(I)D"⟩
abbrev cX4_brings : ByteArray := prog_6_method_62_code
def yX4_brings : MethodName := ⟨RX4, "brings", "(III)D"⟩
abbrev cX4_north : ByteArray := prog_6_method_63_code
def yX4_north : MethodName := ⟨RX4, "north", "(II)D"⟩
abbrev cX4_east : ByteArray := prog_6_method_64_code
def yX4_east : MethodName := ⟨RX4, "east", "(II)D"⟩
abbrev cX4_square : ByteArray := prog_6_method_65_code
def yX4_square : MethodName := ⟨RX4, "square", "(II)I"⟩
abbrev cX4_squareBits : ByteArray := prog_6_method_66_code
def yX4_squareBits : MethodName := ⟨RX4, "squareBits", "(II)I"⟩
abbrev cX4_wouldChange : ByteArray := prog_6_method_67_code
def yX4_wouldChange : MethodName := ⟨RX4, "wouldChange", "(III)I"⟩
abbrev cX4_overColumns : ByteArray := prog_6_method_68_code
def yX4_overColumns : MethodName := ⟨RX4, "overColumns", "(I)I"⟩
abbrev cX4_allWritten : ByteArray := prog_6_method_69_code
def yX4_allWritten : MethodName := ⟨RX4, "allWritten", "()I"⟩
abbrev cX4_unlike : ByteArray := prog_6_method_70_code
def yX4_unlike : MethodName := ⟨RX4, "unlike", "()I"⟩
abbrev cX4_count : ByteArray := prog_6_method_71_code
def yX4_count : MethodName := ⟨RX4, "count", "(I)I"⟩
def RJx145de : String := "java/io/Serializable"
def TJx145de : u_T := fun k => match k with
  | _ => ("", "", "", false)
def tyJx145de : Nat → FieldType := fun k => match k with
  | _ => .int
abbrev wsJx145de0 : List Cond := u_ws RJx145de TJx145de 0
theorem nmJx145de : ∀ a, a < 0 → ∀ b, b < 0 → a ≠ b → (TJx145de a).2.1 ≠ (TJx145de b).2.1 := by decide +kernel
theorem tyJx145de_ok : ∀ k, k < 0 → parseFieldDescriptor (TJx145de k).2.2.1 = some (tyJx145de k) := by decide +kernel
def RJxb160c : String := "java/lang/Comparable"
def TJxb160c : u_T := fun k => match k with
  | _ => ("", "", "", false)
def tyJxb160c : Nat → FieldType := fun k => match k with
  | _ => .int
abbrev wsJxb160c0 : List Cond := u_ws RJxb160c TJxb160c 0
theorem nmJxb160c : ∀ a, a < 0 → ∀ b, b < 0 → a ≠ b → (TJxb160c a).2.1 ≠ (TJxb160c b).2.1 := by decide +kernel
theorem tyJxb160c_ok : ∀ k, k < 0 → parseFieldDescriptor (TJxb160c k).2.2.1 = some (tyJxb160c k) := by decide +kernel
def RJxf58ca : String := "java/lang/Float"
def TJxf58ca : u_T := fun k => match k with
  | _ => ("", "", "", false)
def tyJxf58ca : Nat → FieldType := fun k => match k with
  | _ => .int
abbrev wsJxf58ca0 : List Cond := u_ws RJxf58ca TJxf58ca 0
theorem nmJxf58ca : ∀ a, a < 0 → ∀ b, b < 0 → a ≠ b → (TJxf58ca a).2.1 ≠ (TJxf58ca b).2.1 := by decide +kernel
theorem tyJxf58ca_ok : ∀ k, k < 0 → parseFieldDescriptor (TJxf58ca k).2.2.1 = some (tyJxf58ca k) := by decide +kernel
abbrev cJxf58ca_isNaN_12338 : ByteArray := prog_7_method_6_code
def yJxf58ca_isNaN_12338 : MethodName := ⟨RJxf58ca, "isNaN", "(F)Z"⟩
abbrev cJxf58ca_floatToIntBits_5c35a : ByteArray := prog_7_method_24_code
def yJxf58ca_floatToIntBits_5c35a : MethodName := ⟨RJxf58ca, "floatToIntBits", "(F)I"⟩
def RJ9 : String := "java/lang/Math"
def TJ9 : u_T := fun k => match k with
  | _ => ("", "", "", false)
def tyJ9 : Nat → FieldType := fun k => match k with
  | _ => .int
abbrev wsJ90 : List Cond := u_ws RJ9 TJ9 0
theorem nmJ9 : ∀ a, a < 0 → ∀ b, b < 0 → a ≠ b → (TJ9 a).2.1 ≠ (TJ9 b).2.1 := by decide +kernel
theorem tyJ9_ok : ∀ k, k < 0 → parseFieldDescriptor (TJ9 k).2.2.1 = some (tyJ9 k) := by decide +kernel
abbrev cJ9_max_7cf53 : ByteArray := prog_8_method_65_code
def yJ9_max_7cf53 : MethodName := ⟨RJ9, "max", "(II)I"⟩
abbrev cJ9_min_7cf53 : ByteArray := prog_8_method_69_code
def yJ9_min_7cf53 : MethodName := ⟨RJ9, "min", "(II)I"⟩
def RJxd2413 : String := "java/lang/Number"
def TJxd2413 : u_T := fun k => match k with
  | _ => ("", "", "", false)
def tyJxd2413 : Nat → FieldType := fun k => match k with
  | _ => .int
abbrev wsJxd24130 : List Cond := u_ws RJxd2413 TJxd2413 0
theorem nmJxd2413 : ∀ a, a < 0 → ∀ b, b < 0 → a ≠ b → (TJxd2413 a).2.1 ≠ (TJxd2413 b).2.1 := by decide +kernel
theorem tyJxd2413_ok : ∀ k, k < 0 → parseFieldDescriptor (TJxd2413 k).2.2.1 = some (tyJxd2413 k) := by decide +kernel
def RJ10 : String := "java/lang/System"
def TJ10 : u_T := fun k => match k with
  | _ => ("", "", "", false)
def tyJ10 : Nat → FieldType := fun k => match k with
  | _ => .int
abbrev wsJ100 : List Cond := u_ws RJ10 TJ10 0
theorem nmJ10 : ∀ a, a < 0 → ∀ b, b < 0 → a ≠ b → (TJ10 a).2.1 ≠ (TJ10 b).2.1 := by decide +kernel
theorem tyJ10_ok : ∀ k, k < 0 → parseFieldDescriptor (TJ10 k).2.2.1 = some (tyJ10 k) := by decide +kernel
def RJxfd54e : String := "java/lang/constant/Constable"
def TJxfd54e : u_T := fun k => match k with
  | _ => ("", "", "", false)
def tyJxfd54e : Nat → FieldType := fun k => match k with
  | _ => .int
abbrev wsJxfd54e0 : List Cond := u_ws RJxfd54e TJxfd54e 0
theorem nmJxfd54e : ∀ a, a < 0 → ∀ b, b < 0 → a ≠ b → (TJxfd54e a).2.1 ≠ (TJxfd54e b).2.1 := by decide +kernel
theorem tyJxfd54e_ok : ∀ k, k < 0 → parseFieldDescriptor (TJxfd54e k).2.2.1 = some (tyJxfd54e k) := by decide +kernel
def RJx3cf43 : String := "java/lang/constant/ConstantDesc"
def TJx3cf43 : u_T := fun k => match k with
  | _ => ("", "", "", false)
def tyJx3cf43 : Nat → FieldType := fun k => match k with
  | _ => .int
abbrev wsJx3cf430 : List Cond := u_ws RJx3cf43 TJx3cf43 0
theorem nmJx3cf43 : ∀ a, a < 0 → ∀ b, b < 0 → a ≠ b → (TJx3cf43 a).2.1 ≠ (TJx3cf43 b).2.1 := by decide +kernel
theorem tyJx3cf43_ok : ∀ k, k < 0 → parseFieldDescriptor (TJx3cf43 k).2.2.1 = some (tyJx3cf43 k) := by decide +kernel
def RJ7 : String := "java/util/Arrays"
def TJ7 : u_T := fun k => match k with
  | _ => ("", "", "", false)
def tyJ7 : Nat → FieldType := fun k => match k with
  | _ => .int
abbrev wsJ70 : List Cond := u_ws RJ7 TJ7 0
theorem nmJ7 : ∀ a, a < 0 → ∀ b, b < 0 → a ≠ b → (TJ7 a).2.1 ≠ (TJ7 b).2.1 := by decide +kernel
theorem tyJ7_ok : ∀ k, k < 0 → parseFieldDescriptor (TJ7 k).2.2.1 = some (tyJ7 k) := by decide +kernel
abbrev cJ7_fill_53178 : ByteArray := prog_11_method_103_code
def yJ7_fill_53178 : MethodName := ⟨RJ7, "fill", "([II)V"⟩
def RL : String := "DittoLogLaw"
abbrev cL_law : ByteArray := code
def yL_law : MethodName := ⟨RL, "law", "([I)Z"⟩
def xALL : List Cond := lw_tbl.filter goodWord
theorem xALL_tbl : ∀ w ∈ xALL, w ∈ lw_tbl := fun _ h => (List.mem_filter.mp h).1
theorem xALL_good : ∀ w ∈ xALL, (w.onTables && w.keeps) = true ∨ ∃ ty, w = .arrayClass ty := fun _ h => good_of_word (List.mem_filter.mp h).2
abbrev vwCl : List vw_C := [(RX0, TX0, 3), (RX1, TX1, 7), (RX2, TX2, 4), (RX3, TX3, 6), (RX4, TX4, 11)]
end
section
theorem wt_0 : ∀ w ∈ tables_1_1, goodWord w = true → w ∈ xALL := fun _ h q => List.mem_filter.mpr ⟨List.mem_append_right _ (List.mem_append_left _ h), q⟩
theorem wt_1 : ∀ w ∈ tables_1_2, goodWord w = true → w ∈ xALL := fun _ h q => List.mem_filter.mpr ⟨List.mem_append_right _ (List.mem_append_right _ (List.mem_append_left _ h)), q⟩
theorem wt_2 : ∀ w ∈ tables_1_3, goodWord w = true → w ∈ xALL := fun _ h q => List.mem_filter.mpr ⟨List.mem_append_right _ (List.mem_append_right _ (List.mem_append_right _ (List.mem_append_left _ h))), q⟩
theorem wt_3 : ∀ w ∈ tables_1_4, goodWord w = true → w ∈ xALL := fun _ h q => List.mem_filter.mpr ⟨List.mem_append_right _ (List.mem_append_right _ (List.mem_append_right _ (List.mem_append_right _ (h)))), q⟩
theorem wt_s : ∀ w ∈ k2_sels lw_privs, goodWord w = true → w ∈ xALL := fun _ h q => List.mem_filter.mpr ⟨List.mem_append_left _ h, q⟩
theorem q_0 : (Cond.classLink RL 7 RX3) ∈ xALL := wt_0 _ (List.mem_of_getElem? (i := 11) (by decide +kernel)) rfl
theorem q_1 : (Cond.instantiable RX3 6) ∈ xALL := wt_0 _ (List.mem_of_getElem? (i := 12) (by decide +kernel)) rfl
theorem q_2 : (Cond.initialized RX3) ∈ xALL := wt_0 _ (List.mem_of_getElem? (i := 1) (by decide +kernel)) rfl
theorem q_3 : (Cond.classLink RL 10 RX4) ∈ xALL := wt_2 _ (List.mem_of_getElem? (i := 5) (by decide +kernel)) rfl
theorem q_4 : (Cond.instantiable RX4 11) ∈ xALL := wt_2 _ (List.mem_of_getElem? (i := 6) (by decide +kernel)) rfl
theorem q_5 : (Cond.initialized RX4) ∈ xALL := wt_0 _ (List.mem_of_getElem? (i := 6) (by decide +kernel)) rfl
theorem q_6 : (Cond.methodLink RL 9 yX3_init) ∈ xALL := wt_0 _ (List.mem_of_getElem? (i := 13) (by decide +kernel)) rfl
theorem q_7 : (Cond.instanceMethod yX3_init) ∈ xALL := wt_0 _ (List.mem_of_getElem? (i := 14) (by decide +kernel)) rfl
theorem q_8 : (Cond.code yX3_init cX3_init 1 none) ∈ xALL := wt_0 _ (List.mem_of_getElem? (i := 15) (by decide +kernel)) rfl
theorem q_9 : (Cond.methodLink RX3 1 objectInit) ∈ xALL := wt_0 _ (List.mem_of_getElem? (i := 16) (by decide +kernel)) rfl
theorem q_10 : (Cond.instanceMethod objectInit) ∈ xALL := wt_0 _ (List.mem_of_getElem? (i := 17) (by decide +kernel)) rfl
theorem q_11 : (Cond.code objectInit ⟨#[0xb1]⟩ 1 none) ∈ xALL := wt_0 _ (List.mem_of_getElem? (i := 18) (by decide +kernel)) rfl
theorem q_12 : (Cond.classLink RX3 7 RX1) ∈ xALL := wt_0 _ (List.mem_of_getElem? (i := 19) (by decide +kernel)) rfl
theorem q_13 : (Cond.instantiable RX1 7) ∈ xALL := wt_0 _ (List.mem_of_getElem? (i := 20) (by decide +kernel)) rfl
theorem q_14 : (Cond.initialized RX1) ∈ xALL := wt_0 _ (List.mem_of_getElem? (i := 2) (by decide +kernel)) rfl
theorem q_15 : (Cond.fieldLink RX3 10 "DittoLog" "log" "LDittoLog$Log;") ∈ xALL := wt_0 _ (List.mem_of_getElem? (i := 93) (by decide +kernel)) rfl
theorem q_16 : (Cond.fieldLink RX3 16 "DittoLog" "snapshot" "LDittoLog$Log;") ∈ xALL := wt_0 _ (List.mem_of_getElem? (i := 94) (by decide +kernel)) rfl
theorem q_17 : (Cond.fieldLink RX3 19 "DittoLog" "hasSnapshot" "Z") ∈ xALL := wt_0 _ (List.mem_of_getElem? (i := 95) (by decide +kernel)) rfl
theorem q_18 : (Cond.classLink RX3 23 RX0) ∈ xALL := wt_0 _ (List.mem_of_getElem? (i := 52) (by decide +kernel)) rfl
theorem q_19 : (Cond.instantiable RX0 3) ∈ xALL := wt_0 _ (List.mem_of_getElem? (i := 53) (by decide +kernel)) rfl
theorem q_20 : (Cond.initialized RX0) ∈ xALL := wt_0 _ (List.mem_of_getElem? (i := 4) (by decide +kernel)) rfl
theorem q_21 : (Cond.fieldLink RX3 26 "DittoLog" "history" "LDittoLog$History;") ∈ xALL := wt_0 _ (List.mem_of_getElem? (i := 96) (by decide +kernel)) rfl
theorem q_22 : (Cond.classLink RX3 30 RX2) ∈ xALL := wt_0 _ (List.mem_of_getElem? (i := 72) (by decide +kernel)) rfl
theorem q_23 : (Cond.instantiable RX2 4) ∈ xALL := wt_0 _ (List.mem_of_getElem? (i := 73) (by decide +kernel)) rfl
theorem q_24 : (Cond.initialized RX2) ∈ xALL := wt_0 _ (List.mem_of_getElem? (i := 5) (by decide +kernel)) rfl
theorem q_25 : (Cond.fieldLink RX3 33 "DittoLog" "text" "LDittoLog$RowsText;") ∈ xALL := wt_0 _ (List.mem_of_getElem? (i := 97) (by decide +kernel)) rfl
theorem q_26 : (Cond.arrayClass .int) ∈ xALL := wt_0 _ (List.mem_of_getElem? (i := 51) (by decide +kernel)) rfl
theorem q_27 : (Cond.fieldLink RX3 37 "DittoLog" "tally" "[I") ∈ xALL := wt_0 _ (List.mem_of_getElem? (i := 98) (by decide +kernel)) rfl
theorem q_28 : (Cond.instanceMethod yX1_init) ∈ xALL := wt_0 _ (List.mem_of_getElem? (i := 22) (by decide +kernel)) rfl
theorem q_29 : (Cond.code yX1_init cX1_init 1 none) ∈ xALL := wt_0 _ (List.mem_of_getElem? (i := 23) (by decide +kernel)) rfl
theorem q_30 : (Cond.methodLink RX1 3 objectInit) ∈ xALL := wt_0 _ (List.mem_of_getElem? (i := 24) (by decide +kernel)) rfl
theorem q_31 : (Cond.fieldLink RX1 9 "DittoLog$Log" "entries" "[I") ∈ xALL := wt_0 _ (List.mem_of_getElem? (i := 28) (by decide +kernel)) rfl
theorem q_32 : (Cond.fieldLink RX1 15 "DittoLog$Log" "entryCounts" "[I") ∈ xALL := wt_0 _ (List.mem_of_getElem? (i := 29) (by decide +kernel)) rfl
theorem q_33 : (Cond.fieldLink RX1 18 "DittoLog$Log" "sums" "[I") ∈ xALL := wt_0 _ (List.mem_of_getElem? (i := 30) (by decide +kernel)) rfl
theorem q_34 : (Cond.fieldLink RX1 27 "DittoLog$Log" "rows" "I") ∈ xALL := wt_0 _ (List.mem_of_getElem? (i := 31) (by decide +kernel)) rfl
theorem q_35 : (Cond.fieldLink RX1 31 "DittoLog$Log" "pageRows" "I") ∈ xALL := wt_0 _ (List.mem_of_getElem? (i := 33) (by decide +kernel)) rfl
theorem q_36 : (Cond.fieldLink RX1 34 "DittoLog$Log" "stopsAtPages" "I") ∈ xALL := wt_0 _ (List.mem_of_getElem? (i := 34) (by decide +kernel)) rfl
theorem q_37 : (Cond.fieldLink RX1 37 "DittoLog$Log" "watchRows" "I") ∈ xALL := wt_0 _ (List.mem_of_getElem? (i := 35) (by decide +kernel)) rfl
theorem q_38 : (Cond.methodLink RX1 21 yJ7_fill_53178) ∈ xALL := wt_0 _ (List.mem_of_getElem? (i := 25) (by decide +kernel)) rfl
theorem q_39 : (Cond.static yJ7_fill_53178) ∈ xALL := wt_0 _ (List.mem_of_getElem? (i := 26) (by decide +kernel)) rfl
theorem q_40 : (Cond.initialized RJ7) ∈ xALL := wt_0 _ (List.mem_of_getElem? (i := 3) (by decide +kernel)) rfl
theorem q_41 : (Cond.code yJ7_fill_53178 cJ7_fill_53178 4 none) ∈ xALL := wt_0 _ (List.mem_of_getElem? (i := 27) (by decide +kernel)) rfl
theorem q_42 : (Cond.instanceMethod yX0_init) ∈ xALL := wt_0 _ (List.mem_of_getElem? (i := 55) (by decide +kernel)) rfl
theorem q_43 : (Cond.code yX0_init cX0_init 2 none) ∈ xALL := wt_0 _ (List.mem_of_getElem? (i := 56) (by decide +kernel)) rfl
theorem q_44 : (Cond.methodLink RX0 3 objectInit) ∈ xALL := wt_0 _ (List.mem_of_getElem? (i := 57) (by decide +kernel)) rfl
theorem q_45 : (Cond.classLink RX0 9 RX1) ∈ xALL := wt_0 _ (List.mem_of_getElem? (i := 58) (by decide +kernel)) rfl
theorem q_46 : (Cond.fieldLink RX0 11 "DittoLog$History" "states" "[LDittoLog$Log;") ∈ xALL := wt_0 _ (List.mem_of_getElem? (i := 61) (by decide +kernel)) rfl
theorem q_47 : (Cond.fieldLink RX0 18 "DittoLog$History" "oldest" "I") ∈ xALL := wt_0 _ (List.mem_of_getElem? (i := 62) (by decide +kernel)) rfl
theorem q_48 : (Cond.fieldLink RX0 22 "DittoLog$History" "size" "I") ∈ xALL := wt_0 _ (List.mem_of_getElem? (i := 63) (by decide +kernel)) rfl
theorem q_49 : (Cond.instanceMethod yX2_init) ∈ xALL := wt_0 _ (List.mem_of_getElem? (i := 75) (by decide +kernel)) rfl
theorem q_50 : (Cond.code yX2_init cX2_init 1 none) ∈ xALL := wt_0 _ (List.mem_of_getElem? (i := 76) (by decide +kernel)) rfl
theorem q_51 : (Cond.methodLink RX2 3 objectInit) ∈ xALL := wt_0 _ (List.mem_of_getElem? (i := 77) (by decide +kernel)) rfl
theorem q_52 : (Cond.arrayClass .char) ∈ xALL := wt_0 _ (List.mem_of_getElem? (i := 92) (by decide +kernel)) rfl
theorem q_53 : (Cond.fieldLink RX2 9 "DittoLog$RowsText" "characters" "[C") ∈ xALL := wt_0 _ (List.mem_of_getElem? (i := 78) (by decide +kernel)) rfl
theorem q_54 : (Cond.fieldLink RX2 15 "DittoLog$RowsText" "cells" "[I") ∈ xALL := wt_0 _ (List.mem_of_getElem? (i := 79) (by decide +kernel)) rfl
theorem q_55 : (Cond.fieldLink RX2 19 "DittoLog$RowsText" "length" "I") ∈ xALL := wt_0 _ (List.mem_of_getElem? (i := 80) (by decide +kernel)) rfl
theorem q_56 : (Cond.fieldLink RX2 23 "DittoLog$RowsText" "cellsRead" "I") ∈ xALL := wt_0 _ (List.mem_of_getElem? (i := 82) (by decide +kernel)) rfl
theorem q_57 : (Cond.methodLink RL 12 yX4_init) ∈ xALL := wt_2 _ (List.mem_of_getElem? (i := 7) (by decide +kernel)) rfl
theorem q_58 : (Cond.instanceMethod yX4_init) ∈ xALL := wt_2 _ (List.mem_of_getElem? (i := 8) (by decide +kernel)) rfl
theorem q_59 : (Cond.code yX4_init cX4_init 2 none) ∈ xALL := wt_2 _ (List.mem_of_getElem? (i := 9) (by decide +kernel)) rfl
theorem q_60 : (Cond.methodLink RX4 1 objectInit) ∈ xALL := wt_2 _ (List.mem_of_getElem? (i := 10) (by decide +kernel)) rfl
theorem q_61 : (Cond.fieldLink RX4 7 "DittoLogModel" "now" "[I") ∈ xALL := wt_2 _ (List.mem_of_getElem? (i := 11) (by decide +kernel)) rfl
theorem q_62 : (Cond.fieldLink RX4 13 "DittoLogModel" "past" "[I") ∈ xALL := wt_2 _ (List.mem_of_getElem? (i := 12) (by decide +kernel)) rfl
theorem q_63 : (Cond.fieldLink RX4 16 "DittoLogModel" "snapshot" "[I") ∈ xALL := wt_2 _ (List.mem_of_getElem? (i := 14) (by decide +kernel)) rfl
theorem q_64 : (Cond.fieldLink RX4 19 "DittoLogModel" "text" "[C") ∈ xALL := wt_2 _ (List.mem_of_getElem? (i := 16) (by decide +kernel)) rfl
theorem q_65 : (Cond.fieldLink RX4 23 "DittoLogModel" "meant" "[I") ∈ xALL := wt_2 _ (List.mem_of_getElem? (i := 18) (by decide +kernel)) rfl
theorem q_66 : (Cond.fieldLink RX4 26 "DittoLogModel" "told" "[I") ∈ xALL := wt_2 _ (List.mem_of_getElem? (i := 20) (by decide +kernel)) rfl
theorem q_67 : (Cond.methodLink RL 13 yX3_addRow) ∈ xALL := wt_0 _ (List.mem_of_getElem? (i := 112) (by decide +kernel)) rfl
theorem q_68 : (Cond.instanceMethod yX3_addRow) ∈ xALL := wt_0 _ (List.mem_of_getElem? (i := 113) (by decide +kernel)) rfl
theorem q_69 : (Cond.selects RX3 yX3_addRow yX3_addRow) ∈ xALL := wt_0 _ (List.mem_of_getElem? (i := 114) (by decide +kernel)) rfl
theorem q_70 : (Cond.code yX3_addRow cX3_addRow 5 (some .int)) ∈ xALL := wt_0 _ (List.mem_of_getElem? (i := 115) (by decide +kernel)) rfl
theorem q_71 : (Cond.methodLink RX3 41 yX3_isEntry) ∈ xALL := wt_0 _ (List.mem_of_getElem? (i := 116) (by decide +kernel)) rfl
theorem q_72 : (Cond.static yX3_isEntry) ∈ xALL := wt_0 _ (List.mem_of_getElem? (i := 117) (by decide +kernel)) rfl
theorem q_73 : (Cond.code yX3_isEntry cX3_isEntry 2 (some .boolean)) ∈ xALL := wt_0 _ (List.mem_of_getElem? (i := 118) (by decide +kernel)) rfl
theorem q_74 : (Cond.fieldLink RX3 224 "DittoLog" "COLUMN_MAX" "[I") ∈ xALL := wt_0 _ (List.mem_of_getElem? (i := 119) (by decide +kernel)) rfl
theorem q_75 : (Cond.methodLink RX3 105 yX3_at) ∈ xALL := wt_0 _ (List.mem_of_getElem? (i := 121) (by decide +kernel)) rfl
theorem q_76 : (Cond.static yX3_at) ∈ xALL := wt_0 _ (List.mem_of_getElem? (i := 122) (by decide +kernel)) rfl
theorem q_77 : (Cond.code yX3_at cX3_at 2 (some .int)) ∈ xALL := wt_0 _ (List.mem_of_getElem? (i := 123) (by decide +kernel)) rfl
theorem q_78 : (Cond.instanceMethod yX0_remember) ∈ xALL := wt_0 _ (List.mem_of_getElem? (i := 126) (by decide +kernel)) rfl
theorem q_79 : (Cond.selects RX0 yX0_remember yX0_remember) ∈ xALL := wt_s _ (List.mem_of_getElem? (i := 0) (by decide +kernel)) rfl
theorem q_80 : (Cond.code yX0_remember cX0_remember 3 none) ∈ xALL := wt_0 _ (List.mem_of_getElem? (i := 127) (by decide +kernel)) rfl
theorem q_81 : (Cond.methodLink RX0 25 yX0_latest) ∈ xALL := wt_0 _ (List.mem_of_getElem? (i := 128) (by decide +kernel)) rfl
theorem q_82 : (Cond.instanceMethod yX0_latest) ∈ xALL := wt_0 _ (List.mem_of_getElem? (i := 130) (by decide +kernel)) rfl
theorem q_83 : (Cond.selects RX0 yX0_latest yX0_latest) ∈ xALL := wt_s _ (List.mem_of_getElem? (i := 1) (by decide +kernel)) rfl
theorem q_84 : (Cond.code yX0_latest cX0_latest 2 (some (.object "DittoLog$Log"))) ∈ xALL := wt_0 _ (List.mem_of_getElem? (i := 131) (by decide +kernel)) rfl
theorem q_85 : (Cond.instanceMethod yX1_copyFrom) ∈ xALL := wt_0 _ (List.mem_of_getElem? (i := 134) (by decide +kernel)) rfl
theorem q_86 : (Cond.selects RX1 yX1_copyFrom yX1_copyFrom) ∈ xALL := wt_s _ (List.mem_of_getElem? (i := 2) (by decide +kernel)) rfl
theorem q_87 : (Cond.code yX1_copyFrom cX1_copyFrom 2 none) ∈ xALL := wt_0 _ (List.mem_of_getElem? (i := 135) (by decide +kernel)) rfl
theorem q_88 : (Cond.static yX3_copyInto) ∈ xALL := wt_0 _ (List.mem_of_getElem? (i := 137) (by decide +kernel)) rfl
theorem q_89 : (Cond.code yX3_copyInto cX3_copyInto 2 none) ∈ xALL := wt_0 _ (List.mem_of_getElem? (i := 138) (by decide +kernel)) rfl
theorem q_90 : (Cond.methodLink RX3 227 Lib.Math.min.name) ∈ xALL := wt_0 _ (List.mem_of_getElem? (i := 139) (by decide +kernel)) rfl
theorem q_91 : (Cond.static Lib.Math.min.name) ∈ xALL := wt_0 _ (List.mem_of_getElem? (i := 140) (by decide +kernel)) rfl
theorem q_92 : (Cond.initialized "java/lang/Math") ∈ xALL := wt_0 _ (List.mem_of_getElem? (i := 7) (by decide +kernel)) rfl
theorem q_93 : (Cond.code Lib.Math.min.name Lib.Math.min.code 2 (some .int)) ∈ xALL := wt_0 _ (List.mem_of_getElem? (i := 141) (by decide +kernel)) rfl
theorem q_94 : (Cond.methodLink RX3 232 arraycopyName) ∈ xALL := wt_0 _ (List.mem_of_getElem? (i := 142) (by decide +kernel)) rfl
theorem q_95 : (Cond.native arraycopyName) ∈ xALL := wt_0 _ (List.mem_of_getElem? (i := 144) (by decide +kernel)) rfl
theorem q_96 : (Cond.static arraycopyName) ∈ xALL := wt_0 _ (List.mem_of_getElem? (i := 143) (by decide +kernel)) rfl
theorem q_97 : (Cond.initialized "java/lang/System") ∈ xALL := wt_0 _ (List.mem_of_getElem? (i := 8) (by decide +kernel)) rfl
theorem q_98 : (Cond.instanceMethod yX1_appendRow) ∈ xALL := wt_0 _ (List.mem_of_getElem? (i := 147) (by decide +kernel)) rfl
theorem q_99 : (Cond.selects RX1 yX1_appendRow yX1_appendRow) ∈ xALL := wt_s _ (List.mem_of_getElem? (i := 3) (by decide +kernel)) rfl
theorem q_100 : (Cond.code yX1_appendRow cX1_appendRow 6 none) ∈ xALL := wt_0 _ (List.mem_of_getElem? (i := 148) (by decide +kernel)) rfl
theorem q_101 : (Cond.methodLink RX1 55 yX1_startCell) ∈ xALL := wt_0 _ (List.mem_of_getElem? (i := 149) (by decide +kernel)) rfl
theorem q_102 : (Cond.instanceMethod yX1_startCell) ∈ xALL := wt_0 _ (List.mem_of_getElem? (i := 151) (by decide +kernel)) rfl
theorem q_103 : (Cond.selects RX1 yX1_startCell yX1_startCell) ∈ xALL := wt_s _ (List.mem_of_getElem? (i := 4) (by decide +kernel)) rfl
theorem q_104 : (Cond.code yX1_startCell cX1_startCell 5 none) ∈ xALL := wt_0 _ (List.mem_of_getElem? (i := 152) (by decide +kernel)) rfl
theorem q_105 : (Cond.methodLink RX1 59 yX1_pushEntry) ∈ xALL := wt_0 _ (List.mem_of_getElem? (i := 153) (by decide +kernel)) rfl
theorem q_106 : (Cond.instanceMethod yX1_pushEntry) ∈ xALL := wt_0 _ (List.mem_of_getElem? (i := 155) (by decide +kernel)) rfl
theorem q_107 : (Cond.selects RX1 yX1_pushEntry yX1_pushEntry) ∈ xALL := wt_s _ (List.mem_of_getElem? (i := 5) (by decide +kernel)) rfl
theorem q_108 : (Cond.code yX1_pushEntry cX1_pushEntry 6 none) ∈ xALL := wt_0 _ (List.mem_of_getElem? (i := 156) (by decide +kernel)) rfl
theorem q_109 : (Cond.methodLink RL 17 yX4_addRow) ∈ xALL := wt_2 _ (List.mem_of_getElem? (i := 45) (by decide +kernel)) rfl
theorem q_110 : (Cond.instanceMethod yX4_addRow) ∈ xALL := wt_2 _ (List.mem_of_getElem? (i := 46) (by decide +kernel)) rfl
theorem q_111 : (Cond.selects RX4 yX4_addRow yX4_addRow) ∈ xALL := wt_2 _ (List.mem_of_getElem? (i := 47) (by decide +kernel)) rfl
theorem q_112 : (Cond.code yX4_addRow cX4_addRow 6 (some .int)) ∈ xALL := wt_2 _ (List.mem_of_getElem? (i := 48) (by decide +kernel)) rfl
theorem q_113 : (Cond.methodLink RX4 69 yX4_isEntry) ∈ xALL := wt_2 _ (List.mem_of_getElem? (i := 49) (by decide +kernel)) rfl
theorem q_114 : (Cond.static yX4_isEntry) ∈ xALL := wt_2 _ (List.mem_of_getElem? (i := 50) (by decide +kernel)) rfl
theorem q_115 : (Cond.code yX4_isEntry cX4_isEntry 2 (some .boolean)) ∈ xALL := wt_2 _ (List.mem_of_getElem? (i := 51) (by decide +kernel)) rfl
theorem q_116 : (Cond.methodLink RX4 48 yX4_most) ∈ xALL := wt_2 _ (List.mem_of_getElem? (i := 52) (by decide +kernel)) rfl
theorem q_117 : (Cond.static yX4_most) ∈ xALL := wt_2 _ (List.mem_of_getElem? (i := 53) (by decide +kernel)) rfl
theorem q_118 : (Cond.code yX4_most cX4_most 1 (some .int)) ∈ xALL := wt_2 _ (List.mem_of_getElem? (i := 54) (by decide +kernel)) rfl
theorem q_119 : (Cond.methodLink RX4 37 yX4_in) ∈ xALL := wt_2 _ (List.mem_of_getElem? (i := 55) (by decide +kernel)) rfl
theorem q_120 : (Cond.static yX4_in) ∈ xALL := wt_2 _ (List.mem_of_getElem? (i := 56) (by decide +kernel)) rfl
theorem q_121 : (Cond.code yX4_in cX4_in 3 (some .boolean)) ∈ xALL := wt_2 _ (List.mem_of_getElem? (i := 57) (by decide +kernel)) rfl
theorem q_122 : (Cond.methodLink RX4 72 yX4_records) ∈ xALL := wt_2 _ (List.mem_of_getElem? (i := 58) (by decide +kernel)) rfl
theorem q_123 : (Cond.instanceMethod yX4_records) ∈ xALL := wt_2 _ (List.mem_of_getElem? (i := 60) (by decide +kernel)) rfl
theorem q_124 : (Cond.selects RX4 yX4_records yX4_records) ∈ xALL := wt_s _ (List.mem_of_getElem? (i := 55) (by decide +kernel)) rfl
theorem q_125 : (Cond.code yX4_records cX4_records 2 none) ∈ xALL := wt_2 _ (List.mem_of_getElem? (i := 61) (by decide +kernel)) rfl
theorem q_126 : (Cond.fieldLink RX4 29 "DittoLogModel" "states" "I") ∈ xALL := wt_2 _ (List.mem_of_getElem? (i := 13) (by decide +kernel)) rfl
theorem q_127 : (Cond.methodLink RX4 33 yX4_lays) ∈ xALL := wt_2 _ (List.mem_of_getElem? (i := 62) (by decide +kernel)) rfl
theorem q_128 : (Cond.static yX4_lays) ∈ xALL := wt_2 _ (List.mem_of_getElem? (i := 63) (by decide +kernel)) rfl
theorem q_129 : (Cond.code yX4_lays cX4_lays 5 none) ∈ xALL := wt_2 _ (List.mem_of_getElem? (i := 64) (by decide +kernel)) rfl
theorem q_130 : (Cond.methodLink RX4 75 yX4_comes) ∈ xALL := wt_2 _ (List.mem_of_getElem? (i := 65) (by decide +kernel)) rfl
theorem q_131 : (Cond.instanceMethod yX4_comes) ∈ xALL := wt_2 _ (List.mem_of_getElem? (i := 67) (by decide +kernel)) rfl
theorem q_132 : (Cond.selects RX4 yX4_comes yX4_comes) ∈ xALL := wt_s _ (List.mem_of_getElem? (i := 56) (by decide +kernel)) rfl
theorem q_133 : (Cond.code yX4_comes cX4_comes 5 none) ∈ xALL := wt_2 _ (List.mem_of_getElem? (i := 68) (by decide +kernel)) rfl
theorem q_134 : (Cond.methodLink RX4 52 yX4_cellAt) ∈ xALL := wt_2 _ (List.mem_of_getElem? (i := 69) (by decide +kernel)) rfl
theorem q_135 : (Cond.static yX4_cellAt) ∈ xALL := wt_2 _ (List.mem_of_getElem? (i := 70) (by decide +kernel)) rfl
theorem q_136 : (Cond.code yX4_cellAt cX4_cellAt 2 (some .int)) ∈ xALL := wt_2 _ (List.mem_of_getElem? (i := 71) (by decide +kernel)) rfl
theorem q_137 : (Cond.methodLink RL 18 yX3_addRows) ∈ xALL := wt_0 _ (List.mem_of_getElem? (i := 157) (by decide +kernel)) rfl
theorem q_138 : (Cond.instanceMethod yX3_addRows) ∈ xALL := wt_0 _ (List.mem_of_getElem? (i := 158) (by decide +kernel)) rfl
theorem q_139 : (Cond.selects RX3 yX3_addRows yX3_addRows) ∈ xALL := wt_0 _ (List.mem_of_getElem? (i := 159) (by decide +kernel)) rfl
theorem q_140 : (Cond.code yX3_addRows cX3_addRows 4 (some .int)) ∈ xALL := wt_0 _ (List.mem_of_getElem? (i := 160) (by decide +kernel)) rfl
theorem q_141 : (Cond.instanceMethod yX2_readRows) ∈ xALL := wt_0 _ (List.mem_of_getElem? (i := 163) (by decide +kernel)) rfl
theorem q_142 : (Cond.selects RX2 yX2_readRows yX2_readRows) ∈ xALL := wt_s _ (List.mem_of_getElem? (i := 6) (by decide +kernel)) rfl
theorem q_143 : (Cond.code yX2_readRows cX2_readRows 5 (some .int)) ∈ xALL := wt_0 _ (List.mem_of_getElem? (i := 164) (by decide +kernel)) rfl
theorem q_144 : (Cond.methodLink RX2 26 yX2_grownBy) ∈ xALL := wt_0 _ (List.mem_of_getElem? (i := 165) (by decide +kernel)) rfl
theorem q_145 : (Cond.instanceMethod yX2_grownBy) ∈ xALL := wt_0 _ (List.mem_of_getElem? (i := 167) (by decide +kernel)) rfl
theorem q_146 : (Cond.selects RX2 yX2_grownBy yX2_grownBy) ∈ xALL := wt_s _ (List.mem_of_getElem? (i := 7) (by decide +kernel)) rfl
theorem q_147 : (Cond.code yX2_grownBy cX2_grownBy 3 (some .int)) ∈ xALL := wt_0 _ (List.mem_of_getElem? (i := 168) (by decide +kernel)) rfl
theorem q_148 : (Cond.methodLink RX2 42 yX2_withDigit) ∈ xALL := wt_0 _ (List.mem_of_getElem? (i := 169) (by decide +kernel)) rfl
theorem q_149 : (Cond.instanceMethod yX2_withDigit) ∈ xALL := wt_0 _ (List.mem_of_getElem? (i := 171) (by decide +kernel)) rfl
theorem q_150 : (Cond.selects RX2 yX2_withDigit yX2_withDigit) ∈ xALL := wt_s _ (List.mem_of_getElem? (i := 8) (by decide +kernel)) rfl
theorem q_151 : (Cond.code yX2_withDigit cX2_withDigit 4 (some .int)) ∈ xALL := wt_0 _ (List.mem_of_getElem? (i := 172) (by decide +kernel)) rfl
theorem q_152 : (Cond.methodLink RX2 38 yX2_columnRead) ∈ xALL := wt_0 _ (List.mem_of_getElem? (i := 174) (by decide +kernel)) rfl
theorem q_153 : (Cond.instanceMethod yX2_columnRead) ∈ xALL := wt_0 _ (List.mem_of_getElem? (i := 176) (by decide +kernel)) rfl
theorem q_154 : (Cond.selects RX2 yX2_columnRead yX2_columnRead) ∈ xALL := wt_s _ (List.mem_of_getElem? (i := 9) (by decide +kernel)) rfl
theorem q_155 : (Cond.code yX2_columnRead cX2_columnRead 1 (some .int)) ∈ xALL := wt_0 _ (List.mem_of_getElem? (i := 177) (by decide +kernel)) rfl
theorem q_156 : (Cond.methodLink RX2 30 yX2_separator) ∈ xALL := wt_0 _ (List.mem_of_getElem? (i := 179) (by decide +kernel)) rfl
theorem q_157 : (Cond.instanceMethod yX2_separator) ∈ xALL := wt_0 _ (List.mem_of_getElem? (i := 181) (by decide +kernel)) rfl
theorem q_158 : (Cond.selects RX2 yX2_separator yX2_separator) ∈ xALL := wt_s _ (List.mem_of_getElem? (i := 10) (by decide +kernel)) rfl
theorem q_159 : (Cond.code yX2_separator cX2_separator 1 (some .char)) ∈ xALL := wt_0 _ (List.mem_of_getElem? (i := 182) (by decide +kernel)) rfl
theorem q_160 : (Cond.methodLink RX2 34 yX2_endCell) ∈ xALL := wt_0 _ (List.mem_of_getElem? (i := 183) (by decide +kernel)) rfl
theorem q_161 : (Cond.instanceMethod yX2_endCell) ∈ xALL := wt_0 _ (List.mem_of_getElem? (i := 185) (by decide +kernel)) rfl
theorem q_162 : (Cond.selects RX2 yX2_endCell yX2_endCell) ∈ xALL := wt_s _ (List.mem_of_getElem? (i := 11) (by decide +kernel)) rfl
theorem q_163 : (Cond.code yX2_endCell cX2_endCell 2 none) ∈ xALL := wt_0 _ (List.mem_of_getElem? (i := 186) (by decide +kernel)) rfl
theorem q_164 : (Cond.instanceMethod yX2_rowsRead) ∈ xALL := wt_0 _ (List.mem_of_getElem? (i := 189) (by decide +kernel)) rfl
theorem q_165 : (Cond.selects RX2 yX2_rowsRead yX2_rowsRead) ∈ xALL := wt_s _ (List.mem_of_getElem? (i := 12) (by decide +kernel)) rfl
theorem q_166 : (Cond.code yX2_rowsRead cX2_rowsRead 1 (some .int)) ∈ xALL := wt_0 _ (List.mem_of_getElem? (i := 190) (by decide +kernel)) rfl
theorem q_167 : (Cond.instanceMethod yX2_read) ∈ xALL := wt_0 _ (List.mem_of_getElem? (i := 193) (by decide +kernel)) rfl
theorem q_168 : (Cond.selects RX2 yX2_read yX2_read) ∈ xALL := wt_s _ (List.mem_of_getElem? (i := 13) (by decide +kernel)) rfl
theorem q_169 : (Cond.code yX2_read cX2_read 3 (some .int)) ∈ xALL := wt_0 _ (List.mem_of_getElem? (i := 194) (by decide +kernel)) rfl
theorem q_170 : (Cond.methodLink RL 22 yX4_addRows) ∈ xALL := wt_2 _ (List.mem_of_getElem? (i := 72) (by decide +kernel)) rfl
theorem q_171 : (Cond.instanceMethod yX4_addRows) ∈ xALL := wt_2 _ (List.mem_of_getElem? (i := 73) (by decide +kernel)) rfl
theorem q_172 : (Cond.selects RX4 yX4_addRows yX4_addRows) ∈ xALL := wt_2 _ (List.mem_of_getElem? (i := 74) (by decide +kernel)) rfl
theorem q_173 : (Cond.code yX4_addRows cX4_addRows 3 (some .int)) ∈ xALL := wt_2 _ (List.mem_of_getElem? (i := 75) (by decide +kernel)) rfl
theorem q_174 : (Cond.fieldLink RX4 83 "DittoLogModel" "toldRows" "I") ∈ xALL := wt_2 _ (List.mem_of_getElem? (i := 21) (by decide +kernel)) rfl
theorem q_175 : (Cond.methodLink RX4 79 yX4_fault) ∈ xALL := wt_2 _ (List.mem_of_getElem? (i := 76) (by decide +kernel)) rfl
theorem q_176 : (Cond.instanceMethod yX4_fault) ∈ xALL := wt_2 _ (List.mem_of_getElem? (i := 78) (by decide +kernel)) rfl
theorem q_177 : (Cond.selects RX4 yX4_fault yX4_fault) ∈ xALL := wt_s _ (List.mem_of_getElem? (i := 57) (by decide +kernel)) rfl
theorem q_178 : (Cond.code yX4_fault cX4_fault 2 (some .int)) ∈ xALL := wt_2 _ (List.mem_of_getElem? (i := 79) (by decide +kernel)) rfl
theorem q_179 : (Cond.fieldLink RX4 108 "DittoLogModel" "spot" "I") ∈ xALL := wt_2 _ (List.mem_of_getElem? (i := 19) (by decide +kernel)) rfl
theorem q_180 : (Cond.fieldLink RX4 105 "DittoLogModel" "length" "I") ∈ xALL := wt_2 _ (List.mem_of_getElem? (i := 17) (by decide +kernel)) rfl
theorem q_181 : (Cond.methodLink RX4 120 yX4_isRowNext) ∈ xALL := wt_2 _ (List.mem_of_getElem? (i := 80) (by decide +kernel)) rfl
theorem q_182 : (Cond.instanceMethod yX4_isRowNext) ∈ xALL := wt_2 _ (List.mem_of_getElem? (i := 82) (by decide +kernel)) rfl
theorem q_183 : (Cond.selects RX4 yX4_isRowNext yX4_isRowNext) ∈ xALL := wt_s _ (List.mem_of_getElem? (i := 58) (by decide +kernel)) rfl
theorem q_184 : (Cond.code yX4_isRowNext cX4_isRowNext 2 (some .boolean)) ∈ xALL := wt_2 _ (List.mem_of_getElem? (i := 83) (by decide +kernel)) rfl
theorem q_185 : (Cond.methodLink RX4 117 yX4_isCellNext) ∈ xALL := wt_2 _ (List.mem_of_getElem? (i := 84) (by decide +kernel)) rfl
theorem q_186 : (Cond.instanceMethod yX4_isCellNext) ∈ xALL := wt_2 _ (List.mem_of_getElem? (i := 86) (by decide +kernel)) rfl
theorem q_187 : (Cond.selects RX4 yX4_isCellNext yX4_isCellNext) ∈ xALL := wt_s _ (List.mem_of_getElem? (i := 59) (by decide +kernel)) rfl
theorem q_188 : (Cond.code yX4_isCellNext cX4_isCellNext 4 (some .boolean)) ∈ xALL := wt_2 _ (List.mem_of_getElem? (i := 87) (by decide +kernel)) rfl
theorem q_189 : (Cond.methodLink RX4 114 yX4_takes) ∈ xALL := wt_2 _ (List.mem_of_getElem? (i := 88) (by decide +kernel)) rfl
theorem q_190 : (Cond.instanceMethod yX4_takes) ∈ xALL := wt_2 _ (List.mem_of_getElem? (i := 90) (by decide +kernel)) rfl
theorem q_191 : (Cond.selects RX4 yX4_takes yX4_takes) ∈ xALL := wt_s _ (List.mem_of_getElem? (i := 60) (by decide +kernel)) rfl
theorem q_192 : (Cond.code yX4_takes cX4_takes 3 (some .boolean)) ∈ xALL := wt_2 _ (List.mem_of_getElem? (i := 91) (by decide +kernel)) rfl
theorem q_193 : (Cond.methodLink RX4 111 yX4_sees) ∈ xALL := wt_2 _ (List.mem_of_getElem? (i := 92) (by decide +kernel)) rfl
theorem q_194 : (Cond.instanceMethod yX4_sees) ∈ xALL := wt_2 _ (List.mem_of_getElem? (i := 94) (by decide +kernel)) rfl
theorem q_195 : (Cond.selects RX4 yX4_sees yX4_sees) ∈ xALL := wt_s _ (List.mem_of_getElem? (i := 61) (by decide +kernel)) rfl
theorem q_196 : (Cond.code yX4_sees cX4_sees 3 (some .boolean)) ∈ xALL := wt_2 _ (List.mem_of_getElem? (i := 95) (by decide +kernel)) rfl
theorem q_197 : (Cond.methodLink RL 23 yX3_removeRow) ∈ xALL := wt_0 _ (List.mem_of_getElem? (i := 195) (by decide +kernel)) rfl
theorem q_198 : (Cond.instanceMethod yX3_removeRow) ∈ xALL := wt_0 _ (List.mem_of_getElem? (i := 196) (by decide +kernel)) rfl
theorem q_199 : (Cond.selects RX3 yX3_removeRow yX3_removeRow) ∈ xALL := wt_0 _ (List.mem_of_getElem? (i := 197) (by decide +kernel)) rfl
theorem q_200 : (Cond.code yX3_removeRow cX3_removeRow 1 (some .int)) ∈ xALL := wt_0 _ (List.mem_of_getElem? (i := 198) (by decide +kernel)) rfl
theorem q_201 : (Cond.instanceMethod yX1_dropRow) ∈ xALL := wt_0 _ (List.mem_of_getElem? (i := 201) (by decide +kernel)) rfl
theorem q_202 : (Cond.selects RX1 yX1_dropRow yX1_dropRow) ∈ xALL := wt_s _ (List.mem_of_getElem? (i := 14) (by decide +kernel)) rfl
theorem q_203 : (Cond.code yX1_dropRow cX1_dropRow 1 none) ∈ xALL := wt_0 _ (List.mem_of_getElem? (i := 202) (by decide +kernel)) rfl
theorem q_204 : (Cond.methodLink RL 26 yX4_removeRow) ∈ xALL := wt_2 _ (List.mem_of_getElem? (i := 96) (by decide +kernel)) rfl
theorem q_205 : (Cond.instanceMethod yX4_removeRow) ∈ xALL := wt_2 _ (List.mem_of_getElem? (i := 97) (by decide +kernel)) rfl
theorem q_206 : (Cond.selects RX4 yX4_removeRow yX4_removeRow) ∈ xALL := wt_2 _ (List.mem_of_getElem? (i := 98) (by decide +kernel)) rfl
theorem q_207 : (Cond.code yX4_removeRow cX4_removeRow 1 (some .int)) ∈ xALL := wt_2 _ (List.mem_of_getElem? (i := 99) (by decide +kernel)) rfl
theorem q_208 : (Cond.methodLink RX4 86 yX4_leaves) ∈ xALL := wt_2 _ (List.mem_of_getElem? (i := 100) (by decide +kernel)) rfl
theorem q_209 : (Cond.instanceMethod yX4_leaves) ∈ xALL := wt_2 _ (List.mem_of_getElem? (i := 102) (by decide +kernel)) rfl
theorem q_210 : (Cond.selects RX4 yX4_leaves yX4_leaves) ∈ xALL := wt_s _ (List.mem_of_getElem? (i := 62) (by decide +kernel)) rfl
theorem q_211 : (Cond.code yX4_leaves cX4_leaves 3 none) ∈ xALL := wt_2 _ (List.mem_of_getElem? (i := 103) (by decide +kernel)) rfl
theorem q_212 : (Cond.methodLink RL 27 yX3_correct) ∈ xALL := wt_0 _ (List.mem_of_getElem? (i := 203) (by decide +kernel)) rfl
theorem q_213 : (Cond.instanceMethod yX3_correct) ∈ xALL := wt_0 _ (List.mem_of_getElem? (i := 204) (by decide +kernel)) rfl
theorem q_214 : (Cond.selects RX3 yX3_correct yX3_correct) ∈ xALL := wt_0 _ (List.mem_of_getElem? (i := 205) (by decide +kernel)) rfl
theorem q_215 : (Cond.code yX3_correct cX3_correct 5 (some .int)) ∈ xALL := wt_0 _ (List.mem_of_getElem? (i := 206) (by decide +kernel)) rfl
theorem q_216 : (Cond.instanceMethod yX1_isCell) ∈ xALL := wt_0 _ (List.mem_of_getElem? (i := 209) (by decide +kernel)) rfl
theorem q_217 : (Cond.selects RX1 yX1_isCell yX1_isCell) ∈ xALL := wt_s _ (List.mem_of_getElem? (i := 15) (by decide +kernel)) rfl
theorem q_218 : (Cond.code yX1_isCell cX1_isCell 3 (some .boolean)) ∈ xALL := wt_0 _ (List.mem_of_getElem? (i := 210) (by decide +kernel)) rfl
theorem q_219 : (Cond.methodLink RX1 48 yX1_isRow) ∈ xALL := wt_0 _ (List.mem_of_getElem? (i := 211) (by decide +kernel)) rfl
theorem q_220 : (Cond.instanceMethod yX1_isRow) ∈ xALL := wt_0 _ (List.mem_of_getElem? (i := 213) (by decide +kernel)) rfl
theorem q_221 : (Cond.selects RX1 yX1_isRow yX1_isRow) ∈ xALL := wt_s _ (List.mem_of_getElem? (i := 16) (by decide +kernel)) rfl
theorem q_222 : (Cond.code yX1_isRow cX1_isRow 2 (some .boolean)) ∈ xALL := wt_0 _ (List.mem_of_getElem? (i := 214) (by decide +kernel)) rfl
theorem q_223 : (Cond.static yX3_isColumn) ∈ xALL := wt_0 _ (List.mem_of_getElem? (i := 216) (by decide +kernel)) rfl
theorem q_224 : (Cond.code yX3_isColumn cX3_isColumn 1 (some .boolean)) ∈ xALL := wt_0 _ (List.mem_of_getElem? (i := 217) (by decide +kernel)) rfl
theorem q_225 : (Cond.instanceMethod yX1_entriesOf) ∈ xALL := wt_0 _ (List.mem_of_getElem? (i := 220) (by decide +kernel)) rfl
theorem q_226 : (Cond.selects RX1 yX1_entriesOf yX1_entriesOf) ∈ xALL := wt_s _ (List.mem_of_getElem? (i := 17) (by decide +kernel)) rfl
theorem q_227 : (Cond.code yX1_entriesOf cX1_entriesOf 3 (some .int)) ∈ xALL := wt_0 _ (List.mem_of_getElem? (i := 221) (by decide +kernel)) rfl
theorem q_228 : (Cond.instanceMethod yX1_latestOf) ∈ xALL := wt_0 _ (List.mem_of_getElem? (i := 225) (by decide +kernel)) rfl
theorem q_229 : (Cond.selects RX1 yX1_latestOf yX1_latestOf) ∈ xALL := wt_s _ (List.mem_of_getElem? (i := 18) (by decide +kernel)) rfl
theorem q_230 : (Cond.code yX1_latestOf cX1_latestOf 5 (some .int)) ∈ xALL := wt_0 _ (List.mem_of_getElem? (i := 226) (by decide +kernel)) rfl
theorem q_231 : (Cond.instanceMethod yX1_changedBy) ∈ xALL := wt_0 _ (List.mem_of_getElem? (i := 229) (by decide +kernel)) rfl
theorem q_232 : (Cond.selects RX1 yX1_changedBy yX1_changedBy) ∈ xALL := wt_s _ (List.mem_of_getElem? (i := 19) (by decide +kernel)) rfl
theorem q_233 : (Cond.code yX1_changedBy cX1_changedBy 4 (some .int)) ∈ xALL := wt_0 _ (List.mem_of_getElem? (i := 230) (by decide +kernel)) rfl
theorem q_234 : (Cond.methodLink RX1 82 yX1_meaningWith) ∈ xALL := wt_0 _ (List.mem_of_getElem? (i := 231) (by decide +kernel)) rfl
theorem q_235 : (Cond.instanceMethod yX1_meaningWith) ∈ xALL := wt_0 _ (List.mem_of_getElem? (i := 233) (by decide +kernel)) rfl
theorem q_236 : (Cond.selects RX1 yX1_meaningWith yX1_meaningWith) ∈ xALL := wt_s _ (List.mem_of_getElem? (i := 20) (by decide +kernel)) rfl
theorem q_237 : (Cond.code yX1_meaningWith cX1_meaningWith 4 (some .int)) ∈ xALL := wt_0 _ (List.mem_of_getElem? (i := 234) (by decide +kernel)) rfl
theorem q_238 : (Cond.methodLink RX1 66 yX1_hasAbove) ∈ xALL := wt_0 _ (List.mem_of_getElem? (i := 235) (by decide +kernel)) rfl
theorem q_239 : (Cond.instanceMethod yX1_hasAbove) ∈ xALL := wt_0 _ (List.mem_of_getElem? (i := 237) (by decide +kernel)) rfl
theorem q_240 : (Cond.selects RX1 yX1_hasAbove yX1_hasAbove) ∈ xALL := wt_s _ (List.mem_of_getElem? (i := 21) (by decide +kernel)) rfl
theorem q_241 : (Cond.code yX1_hasAbove cX1_hasAbove 2 (some .boolean)) ∈ xALL := wt_0 _ (List.mem_of_getElem? (i := 238) (by decide +kernel)) rfl
theorem q_242 : (Cond.methodLink RX1 79 yX1_meaningOf) ∈ xALL := wt_0 _ (List.mem_of_getElem? (i := 239) (by decide +kernel)) rfl
theorem q_243 : (Cond.instanceMethod yX1_meaningOf) ∈ xALL := wt_1 _ (List.mem_of_getElem? (i := 1) (by decide +kernel)) rfl
theorem q_244 : (Cond.selects RX1 yX1_meaningOf yX1_meaningOf) ∈ xALL := wt_s _ (List.mem_of_getElem? (i := 22) (by decide +kernel)) rfl
theorem q_245 : (Cond.code yX1_meaningOf cX1_meaningOf 4 (some .int)) ∈ xALL := wt_1 _ (List.mem_of_getElem? (i := 2) (by decide +kernel)) rfl
theorem q_246 : (Cond.methodLink RX1 73 yX1_topOfChain) ∈ xALL := wt_1 _ (List.mem_of_getElem? (i := 3) (by decide +kernel)) rfl
theorem q_247 : (Cond.instanceMethod yX1_topOfChain) ∈ xALL := wt_1 _ (List.mem_of_getElem? (i := 5) (by decide +kernel)) rfl
theorem q_248 : (Cond.selects RX1 yX1_topOfChain yX1_topOfChain) ∈ xALL := wt_s _ (List.mem_of_getElem? (i := 23) (by decide +kernel)) rfl
theorem q_249 : (Cond.code yX1_topOfChain cX1_topOfChain 4 (some .int)) ∈ xALL := wt_1 _ (List.mem_of_getElem? (i := 6) (by decide +kernel)) rfl
theorem q_250 : (Cond.methodLink RX1 69 yX1_leansUp) ∈ xALL := wt_1 _ (List.mem_of_getElem? (i := 7) (by decide +kernel)) rfl
theorem q_251 : (Cond.instanceMethod yX1_leansUp) ∈ xALL := wt_1 _ (List.mem_of_getElem? (i := 9) (by decide +kernel)) rfl
theorem q_252 : (Cond.selects RX1 yX1_leansUp yX1_leansUp) ∈ xALL := wt_s _ (List.mem_of_getElem? (i := 24) (by decide +kernel)) rfl
theorem q_253 : (Cond.code yX1_leansUp cX1_leansUp 3 (some .boolean)) ∈ xALL := wt_1 _ (List.mem_of_getElem? (i := 10) (by decide +kernel)) rfl
theorem q_254 : (Cond.methodLink RX1 62 yX1_latestOf) ∈ xALL := wt_1 _ (List.mem_of_getElem? (i := 11) (by decide +kernel)) rfl
theorem q_255 : (Cond.methodLink RX1 86 yX1_followersOf) ∈ xALL := wt_1 _ (List.mem_of_getElem? (i := 12) (by decide +kernel)) rfl
theorem q_256 : (Cond.instanceMethod yX1_followersOf) ∈ xALL := wt_1 _ (List.mem_of_getElem? (i := 14) (by decide +kernel)) rfl
theorem q_257 : (Cond.selects RX1 yX1_followersOf yX1_followersOf) ∈ xALL := wt_s _ (List.mem_of_getElem? (i := 25) (by decide +kernel)) rfl
theorem q_258 : (Cond.code yX1_followersOf cX1_followersOf 4 (some .int)) ∈ xALL := wt_1 _ (List.mem_of_getElem? (i := 15) (by decide +kernel)) rfl
theorem q_259 : (Cond.methodLink RL 31 yX4_correct) ∈ xALL := wt_2 _ (List.mem_of_getElem? (i := 104) (by decide +kernel)) rfl
theorem q_260 : (Cond.instanceMethod yX4_correct) ∈ xALL := wt_2 _ (List.mem_of_getElem? (i := 105) (by decide +kernel)) rfl
theorem q_261 : (Cond.selects RX4 yX4_correct yX4_correct) ∈ xALL := wt_2 _ (List.mem_of_getElem? (i := 106) (by decide +kernel)) rfl
theorem q_262 : (Cond.code yX4_correct cX4_correct 5 (some .int)) ∈ xALL := wt_2 _ (List.mem_of_getElem? (i := 107) (by decide +kernel)) rfl
theorem q_263 : (Cond.methodLink RX4 93 yX4_isCell) ∈ xALL := wt_2 _ (List.mem_of_getElem? (i := 108) (by decide +kernel)) rfl
theorem q_264 : (Cond.instanceMethod yX4_isCell) ∈ xALL := wt_2 _ (List.mem_of_getElem? (i := 110) (by decide +kernel)) rfl
theorem q_265 : (Cond.selects RX4 yX4_isCell yX4_isCell) ∈ xALL := wt_s _ (List.mem_of_getElem? (i := 63) (by decide +kernel)) rfl
theorem q_266 : (Cond.code yX4_isCell cX4_isCell 3 (some .boolean)) ∈ xALL := wt_2 _ (List.mem_of_getElem? (i := 111) (by decide +kernel)) rfl
theorem q_267 : (Cond.methodLink RX4 41 yX4_isRow) ∈ xALL := wt_2 _ (List.mem_of_getElem? (i := 112) (by decide +kernel)) rfl
theorem q_268 : (Cond.instanceMethod yX4_isRow) ∈ xALL := wt_2 _ (List.mem_of_getElem? (i := 114) (by decide +kernel)) rfl
theorem q_269 : (Cond.selects RX4 yX4_isRow yX4_isRow) ∈ xALL := wt_s _ (List.mem_of_getElem? (i := 64) (by decide +kernel)) rfl
theorem q_270 : (Cond.code yX4_isRow cX4_isRow 2 (some .boolean)) ∈ xALL := wt_2 _ (List.mem_of_getElem? (i := 115) (by decide +kernel)) rfl
theorem q_271 : (Cond.methodLink RX4 45 yX4_isColumn) ∈ xALL := wt_2 _ (List.mem_of_getElem? (i := 116) (by decide +kernel)) rfl
theorem q_272 : (Cond.static yX4_isColumn) ∈ xALL := wt_2 _ (List.mem_of_getElem? (i := 117) (by decide +kernel)) rfl
theorem q_273 : (Cond.code yX4_isColumn cX4_isColumn 1 (some .boolean)) ∈ xALL := wt_2 _ (List.mem_of_getElem? (i := 118) (by decide +kernel)) rfl
theorem q_274 : (Cond.methodLink RX4 56 yX4_entries) ∈ xALL := wt_2 _ (List.mem_of_getElem? (i := 119) (by decide +kernel)) rfl
theorem q_275 : (Cond.instanceMethod yX4_entries) ∈ xALL := wt_2 _ (List.mem_of_getElem? (i := 121) (by decide +kernel)) rfl
theorem q_276 : (Cond.selects RX4 yX4_entries yX4_entries) ∈ xALL := wt_s _ (List.mem_of_getElem? (i := 65) (by decide +kernel)) rfl
theorem q_277 : (Cond.code yX4_entries cX4_entries 3 (some .int)) ∈ xALL := wt_2 _ (List.mem_of_getElem? (i := 122) (by decide +kernel)) rfl
theorem q_278 : (Cond.methodLink RX4 59 yX4_latest) ∈ xALL := wt_2 _ (List.mem_of_getElem? (i := 123) (by decide +kernel)) rfl
theorem q_279 : (Cond.instanceMethod yX4_latest) ∈ xALL := wt_2 _ (List.mem_of_getElem? (i := 125) (by decide +kernel)) rfl
theorem q_280 : (Cond.selects RX4 yX4_latest yX4_latest) ∈ xALL := wt_s _ (List.mem_of_getElem? (i := 66) (by decide +kernel)) rfl
theorem q_281 : (Cond.code yX4_latest cX4_latest 3 (some .int)) ∈ xALL := wt_2 _ (List.mem_of_getElem? (i := 126) (by decide +kernel)) rfl
theorem q_282 : (Cond.methodLink RX4 96 yX4_laysMeant) ∈ xALL := wt_2 _ (List.mem_of_getElem? (i := 127) (by decide +kernel)) rfl
theorem q_283 : (Cond.instanceMethod yX4_laysMeant) ∈ xALL := wt_2 _ (List.mem_of_getElem? (i := 129) (by decide +kernel)) rfl
theorem q_284 : (Cond.selects RX4 yX4_laysMeant yX4_laysMeant) ∈ xALL := wt_s _ (List.mem_of_getElem? (i := 67) (by decide +kernel)) rfl
theorem q_285 : (Cond.code yX4_laysMeant cX4_laysMeant 3 none) ∈ xALL := wt_2 _ (List.mem_of_getElem? (i := 130) (by decide +kernel)) rfl
theorem q_286 : (Cond.methodLink RX4 90 yX4_means) ∈ xALL := wt_2 _ (List.mem_of_getElem? (i := 131) (by decide +kernel)) rfl
theorem q_287 : (Cond.instanceMethod yX4_means) ∈ xALL := wt_2 _ (List.mem_of_getElem? (i := 133) (by decide +kernel)) rfl
theorem q_288 : (Cond.selects RX4 yX4_means yX4_means) ∈ xALL := wt_s _ (List.mem_of_getElem? (i := 68) (by decide +kernel)) rfl
theorem q_289 : (Cond.code yX4_means cX4_means 4 (some .int)) ∈ xALL := wt_2 _ (List.mem_of_getElem? (i := 134) (by decide +kernel)) rfl
theorem q_290 : (Cond.methodLink RX4 66 yX4_end) ∈ xALL := wt_2 _ (List.mem_of_getElem? (i := 135) (by decide +kernel)) rfl
theorem q_291 : (Cond.instanceMethod yX4_end) ∈ xALL := wt_2 _ (List.mem_of_getElem? (i := 137) (by decide +kernel)) rfl
theorem q_292 : (Cond.selects RX4 yX4_end yX4_end) ∈ xALL := wt_s _ (List.mem_of_getElem? (i := 69) (by decide +kernel)) rfl
theorem q_293 : (Cond.code yX4_end cX4_end 4 (some .int)) ∈ xALL := wt_2 _ (List.mem_of_getElem? (i := 138) (by decide +kernel)) rfl
theorem q_294 : (Cond.methodLink RX4 62 yX4_goesUp) ∈ xALL := wt_2 _ (List.mem_of_getElem? (i := 139) (by decide +kernel)) rfl
theorem q_295 : (Cond.instanceMethod yX4_goesUp) ∈ xALL := wt_2 _ (List.mem_of_getElem? (i := 141) (by decide +kernel)) rfl
theorem q_296 : (Cond.selects RX4 yX4_goesUp yX4_goesUp) ∈ xALL := wt_s _ (List.mem_of_getElem? (i := 70) (by decide +kernel)) rfl
theorem q_297 : (Cond.code yX4_goesUp cX4_goesUp 4 (some .boolean)) ∈ xALL := wt_2 _ (List.mem_of_getElem? (i := 142) (by decide +kernel)) rfl
theorem q_298 : (Cond.methodLink RX4 99 yX4_others) ∈ xALL := wt_2 _ (List.mem_of_getElem? (i := 143) (by decide +kernel)) rfl
theorem q_299 : (Cond.instanceMethod yX4_others) ∈ xALL := wt_2 _ (List.mem_of_getElem? (i := 145) (by decide +kernel)) rfl
theorem q_300 : (Cond.selects RX4 yX4_others yX4_others) ∈ xALL := wt_s _ (List.mem_of_getElem? (i := 71) (by decide +kernel)) rfl
theorem q_301 : (Cond.code yX4_others cX4_others 4 (some .int)) ∈ xALL := wt_2 _ (List.mem_of_getElem? (i := 146) (by decide +kernel)) rfl
theorem q_302 : (Cond.methodLink RL 32 yX3_takeBack) ∈ xALL := wt_1 _ (List.mem_of_getElem? (i := 17) (by decide +kernel)) rfl
theorem q_303 : (Cond.instanceMethod yX3_takeBack) ∈ xALL := wt_1 _ (List.mem_of_getElem? (i := 18) (by decide +kernel)) rfl
theorem q_304 : (Cond.selects RX3 yX3_takeBack yX3_takeBack) ∈ xALL := wt_1 _ (List.mem_of_getElem? (i := 19) (by decide +kernel)) rfl
theorem q_305 : (Cond.code yX3_takeBack cX3_takeBack 5 (some .int)) ∈ xALL := wt_1 _ (List.mem_of_getElem? (i := 20) (by decide +kernel)) rfl
theorem q_306 : (Cond.instanceMethod yX1_entryOf) ∈ xALL := wt_1 _ (List.mem_of_getElem? (i := 23) (by decide +kernel)) rfl
theorem q_307 : (Cond.selects RX1 yX1_entryOf yX1_entryOf) ∈ xALL := wt_s _ (List.mem_of_getElem? (i := 26) (by decide +kernel)) rfl
theorem q_308 : (Cond.code yX1_entryOf cX1_entryOf 4 (some .int)) ∈ xALL := wt_1 _ (List.mem_of_getElem? (i := 24) (by decide +kernel)) rfl
theorem q_309 : (Cond.instanceMethod yX1_popEntry) ∈ xALL := wt_1 _ (List.mem_of_getElem? (i := 27) (by decide +kernel)) rfl
theorem q_310 : (Cond.selects RX1 yX1_popEntry yX1_popEntry) ∈ xALL := wt_s _ (List.mem_of_getElem? (i := 27) (by decide +kernel)) rfl
theorem q_311 : (Cond.code yX1_popEntry cX1_popEntry 4 none) ∈ xALL := wt_1 _ (List.mem_of_getElem? (i := 28) (by decide +kernel)) rfl
theorem q_312 : (Cond.methodLink RL 36 yX4_takeBack) ∈ xALL := wt_2 _ (List.mem_of_getElem? (i := 147) (by decide +kernel)) rfl
theorem q_313 : (Cond.instanceMethod yX4_takeBack) ∈ xALL := wt_2 _ (List.mem_of_getElem? (i := 148) (by decide +kernel)) rfl
theorem q_314 : (Cond.selects RX4 yX4_takeBack yX4_takeBack) ∈ xALL := wt_2 _ (List.mem_of_getElem? (i := 149) (by decide +kernel)) rfl
theorem q_315 : (Cond.code yX4_takeBack cX4_takeBack 4 (some .int)) ∈ xALL := wt_2 _ (List.mem_of_getElem? (i := 150) (by decide +kernel)) rfl
theorem q_316 : (Cond.methodLink RL 37 yX3_claim) ∈ xALL := wt_1 _ (List.mem_of_getElem? (i := 29) (by decide +kernel)) rfl
theorem q_317 : (Cond.instanceMethod yX3_claim) ∈ xALL := wt_1 _ (List.mem_of_getElem? (i := 30) (by decide +kernel)) rfl
theorem q_318 : (Cond.selects RX3 yX3_claim yX3_claim) ∈ xALL := wt_1 _ (List.mem_of_getElem? (i := 31) (by decide +kernel)) rfl
theorem q_319 : (Cond.code yX3_claim cX3_claim 4 (some .int)) ∈ xALL := wt_1 _ (List.mem_of_getElem? (i := 32) (by decide +kernel)) rfl
theorem q_320 : (Cond.instanceMethod yX1_sumOf) ∈ xALL := wt_1 _ (List.mem_of_getElem? (i := 35) (by decide +kernel)) rfl
theorem q_321 : (Cond.selects RX1 yX1_sumOf yX1_sumOf) ∈ xALL := wt_s _ (List.mem_of_getElem? (i := 28) (by decide +kernel)) rfl
theorem q_322 : (Cond.code yX1_sumOf cX1_sumOf 2 (some .int)) ∈ xALL := wt_1 _ (List.mem_of_getElem? (i := 36) (by decide +kernel)) rfl
theorem q_323 : (Cond.instanceMethod yX1_writeSum) ∈ xALL := wt_1 _ (List.mem_of_getElem? (i := 39) (by decide +kernel)) rfl
theorem q_324 : (Cond.selects RX1 yX1_writeSum yX1_writeSum) ∈ xALL := wt_s _ (List.mem_of_getElem? (i := 29) (by decide +kernel)) rfl
theorem q_325 : (Cond.code yX1_writeSum cX1_writeSum 3 none) ∈ xALL := wt_1 _ (List.mem_of_getElem? (i := 40) (by decide +kernel)) rfl
theorem q_326 : (Cond.methodLink RL 40 yX4_claim) ∈ xALL := wt_2 _ (List.mem_of_getElem? (i := 151) (by decide +kernel)) rfl
theorem q_327 : (Cond.instanceMethod yX4_claim) ∈ xALL := wt_2 _ (List.mem_of_getElem? (i := 152) (by decide +kernel)) rfl
theorem q_328 : (Cond.selects RX4 yX4_claim yX4_claim) ∈ xALL := wt_2 _ (List.mem_of_getElem? (i := 153) (by decide +kernel)) rfl
theorem q_329 : (Cond.code yX4_claim cX4_claim 4 (some .int)) ∈ xALL := wt_2 _ (List.mem_of_getElem? (i := 154) (by decide +kernel)) rfl
theorem q_330 : (Cond.methodLink RL 41 yX3_set) ∈ xALL := wt_1 _ (List.mem_of_getElem? (i := 41) (by decide +kernel)) rfl
theorem q_331 : (Cond.instanceMethod yX3_set) ∈ xALL := wt_1 _ (List.mem_of_getElem? (i := 42) (by decide +kernel)) rfl
theorem q_332 : (Cond.selects RX3 yX3_set yX3_set) ∈ xALL := wt_1 _ (List.mem_of_getElem? (i := 43) (by decide +kernel)) rfl
theorem q_333 : (Cond.code yX3_set cX3_set 4 (some .int)) ∈ xALL := wt_1 _ (List.mem_of_getElem? (i := 44) (by decide +kernel)) rfl
theorem q_334 : (Cond.fieldLink RX3 102 "DittoLog" "SETTING_MIN" "[I") ∈ xALL := wt_1 _ (List.mem_of_getElem? (i := 45) (by decide +kernel)) rfl
theorem q_335 : (Cond.fieldLink RX3 109 "DittoLog" "SETTING_MAX" "[I") ∈ xALL := wt_1 _ (List.mem_of_getElem? (i := 47) (by decide +kernel)) rfl
theorem q_336 : (Cond.instanceMethod yX1_settingOf) ∈ xALL := wt_1 _ (List.mem_of_getElem? (i := 51) (by decide +kernel)) rfl
theorem q_337 : (Cond.selects RX1 yX1_settingOf yX1_settingOf) ∈ xALL := wt_s _ (List.mem_of_getElem? (i := 30) (by decide +kernel)) rfl
theorem q_338 : (Cond.code yX1_settingOf cX1_settingOf 2 (some .int)) ∈ xALL := wt_1 _ (List.mem_of_getElem? (i := 52) (by decide +kernel)) rfl
theorem q_339 : (Cond.instanceMethod yX1_changeSetting) ∈ xALL := wt_1 _ (List.mem_of_getElem? (i := 55) (by decide +kernel)) rfl
theorem q_340 : (Cond.selects RX1 yX1_changeSetting yX1_changeSetting) ∈ xALL := wt_s _ (List.mem_of_getElem? (i := 31) (by decide +kernel)) rfl
theorem q_341 : (Cond.code yX1_changeSetting cX1_changeSetting 3 none) ∈ xALL := wt_1 _ (List.mem_of_getElem? (i := 56) (by decide +kernel)) rfl
theorem q_342 : (Cond.methodLink RL 44 yX4_set) ∈ xALL := wt_2 _ (List.mem_of_getElem? (i := 155) (by decide +kernel)) rfl
theorem q_343 : (Cond.instanceMethod yX4_set) ∈ xALL := wt_2 _ (List.mem_of_getElem? (i := 156) (by decide +kernel)) rfl
theorem q_344 : (Cond.selects RX4 yX4_set yX4_set) ∈ xALL := wt_2 _ (List.mem_of_getElem? (i := 157) (by decide +kernel)) rfl
theorem q_345 : (Cond.code yX4_set cX4_set 4 (some .int)) ∈ xALL := wt_2 _ (List.mem_of_getElem? (i := 158) (by decide +kernel)) rfl
theorem q_346 : (Cond.methodLink RX4 102 yX4_isSetting) ∈ xALL := wt_2 _ (List.mem_of_getElem? (i := 159) (by decide +kernel)) rfl
theorem q_347 : (Cond.static yX4_isSetting) ∈ xALL := wt_2 _ (List.mem_of_getElem? (i := 160) (by decide +kernel)) rfl
theorem q_348 : (Cond.code yX4_isSetting cX4_isSetting 2 (some .boolean)) ∈ xALL := wt_2 _ (List.mem_of_getElem? (i := 161) (by decide +kernel)) rfl
theorem q_349 : (Cond.methodLink RL 45 yX3_type) ∈ xALL := wt_1 _ (List.mem_of_getElem? (i := 57) (by decide +kernel)) rfl
theorem q_350 : (Cond.instanceMethod yX3_type) ∈ xALL := wt_1 _ (List.mem_of_getElem? (i := 58) (by decide +kernel)) rfl
theorem q_351 : (Cond.selects RX3 yX3_type yX3_type) ∈ xALL := wt_1 _ (List.mem_of_getElem? (i := 59) (by decide +kernel)) rfl
theorem q_352 : (Cond.code yX3_type cX3_type 2 (some .int)) ∈ xALL := wt_1 _ (List.mem_of_getElem? (i := 60) (by decide +kernel)) rfl
theorem q_353 : (Cond.instanceMethod yX2_append) ∈ xALL := wt_1 _ (List.mem_of_getElem? (i := 63) (by decide +kernel)) rfl
theorem q_354 : (Cond.selects RX2 yX2_append yX2_append) ∈ xALL := wt_s _ (List.mem_of_getElem? (i := 32) (by decide +kernel)) rfl
theorem q_355 : (Cond.code yX2_append cX2_append 2 (some .boolean)) ∈ xALL := wt_1 _ (List.mem_of_getElem? (i := 64) (by decide +kernel)) rfl
theorem q_356 : (Cond.methodLink RL 49 yX4_type) ∈ xALL := wt_2 _ (List.mem_of_getElem? (i := 162) (by decide +kernel)) rfl
theorem q_357 : (Cond.instanceMethod yX4_type) ∈ xALL := wt_2 _ (List.mem_of_getElem? (i := 163) (by decide +kernel)) rfl
theorem q_358 : (Cond.selects RX4 yX4_type yX4_type) ∈ xALL := wt_2 _ (List.mem_of_getElem? (i := 164) (by decide +kernel)) rfl
theorem q_359 : (Cond.code yX4_type cX4_type 2 (some .int)) ∈ xALL := wt_2 _ (List.mem_of_getElem? (i := 165) (by decide +kernel)) rfl
theorem q_360 : (Cond.methodLink RL 50 yX3_clearText) ∈ xALL := wt_1 _ (List.mem_of_getElem? (i := 65) (by decide +kernel)) rfl
theorem q_361 : (Cond.instanceMethod yX3_clearText) ∈ xALL := wt_1 _ (List.mem_of_getElem? (i := 66) (by decide +kernel)) rfl
theorem q_362 : (Cond.selects RX3 yX3_clearText yX3_clearText) ∈ xALL := wt_1 _ (List.mem_of_getElem? (i := 67) (by decide +kernel)) rfl
theorem q_363 : (Cond.code yX3_clearText cX3_clearText 2 (some .int)) ∈ xALL := wt_1 _ (List.mem_of_getElem? (i := 68) (by decide +kernel)) rfl
theorem q_364 : (Cond.methodLink RL 53 yX4_clearText) ∈ xALL := wt_2 _ (List.mem_of_getElem? (i := 166) (by decide +kernel)) rfl
theorem q_365 : (Cond.instanceMethod yX4_clearText) ∈ xALL := wt_2 _ (List.mem_of_getElem? (i := 167) (by decide +kernel)) rfl
theorem q_366 : (Cond.selects RX4 yX4_clearText yX4_clearText) ∈ xALL := wt_2 _ (List.mem_of_getElem? (i := 168) (by decide +kernel)) rfl
theorem q_367 : (Cond.code yX4_clearText cX4_clearText 2 (some .int)) ∈ xALL := wt_2 _ (List.mem_of_getElem? (i := 169) (by decide +kernel)) rfl
theorem q_368 : (Cond.methodLink RL 54 yX3_undo) ∈ xALL := wt_1 _ (List.mem_of_getElem? (i := 69) (by decide +kernel)) rfl
theorem q_369 : (Cond.instanceMethod yX3_undo) ∈ xALL := wt_1 _ (List.mem_of_getElem? (i := 70) (by decide +kernel)) rfl
theorem q_370 : (Cond.selects RX3 yX3_undo yX3_undo) ∈ xALL := wt_1 _ (List.mem_of_getElem? (i := 71) (by decide +kernel)) rfl
theorem q_371 : (Cond.code yX3_undo cX3_undo 1 (some .int)) ∈ xALL := wt_1 _ (List.mem_of_getElem? (i := 72) (by decide +kernel)) rfl
theorem q_372 : (Cond.instanceMethod yX0_takeInto) ∈ xALL := wt_1 _ (List.mem_of_getElem? (i := 75) (by decide +kernel)) rfl
theorem q_373 : (Cond.selects RX0 yX0_takeInto yX0_takeInto) ∈ xALL := wt_s _ (List.mem_of_getElem? (i := 33) (by decide +kernel)) rfl
theorem q_374 : (Cond.code yX0_takeInto cX0_takeInto 3 (some .boolean)) ∈ xALL := wt_1 _ (List.mem_of_getElem? (i := 76) (by decide +kernel)) rfl
theorem q_375 : (Cond.methodLink RL 57 yX4_undo) ∈ xALL := wt_2 _ (List.mem_of_getElem? (i := 170) (by decide +kernel)) rfl
theorem q_376 : (Cond.instanceMethod yX4_undo) ∈ xALL := wt_2 _ (List.mem_of_getElem? (i := 171) (by decide +kernel)) rfl
theorem q_377 : (Cond.selects RX4 yX4_undo yX4_undo) ∈ xALL := wt_2 _ (List.mem_of_getElem? (i := 172) (by decide +kernel)) rfl
theorem q_378 : (Cond.code yX4_undo cX4_undo 1 (some .int)) ∈ xALL := wt_2 _ (List.mem_of_getElem? (i := 173) (by decide +kernel)) rfl
theorem q_379 : (Cond.methodLink RL 58 yX3_keep) ∈ xALL := wt_1 _ (List.mem_of_getElem? (i := 77) (by decide +kernel)) rfl
theorem q_380 : (Cond.instanceMethod yX3_keep) ∈ xALL := wt_1 _ (List.mem_of_getElem? (i := 78) (by decide +kernel)) rfl
theorem q_381 : (Cond.selects RX3 yX3_keep yX3_keep) ∈ xALL := wt_1 _ (List.mem_of_getElem? (i := 79) (by decide +kernel)) rfl
theorem q_382 : (Cond.code yX3_keep cX3_keep 1 (some .int)) ∈ xALL := wt_1 _ (List.mem_of_getElem? (i := 80) (by decide +kernel)) rfl
theorem q_383 : (Cond.methodLink RL 61 yX4_keep) ∈ xALL := wt_2 _ (List.mem_of_getElem? (i := 174) (by decide +kernel)) rfl
theorem q_384 : (Cond.instanceMethod yX4_keep) ∈ xALL := wt_2 _ (List.mem_of_getElem? (i := 175) (by decide +kernel)) rfl
theorem q_385 : (Cond.selects RX4 yX4_keep yX4_keep) ∈ xALL := wt_2 _ (List.mem_of_getElem? (i := 176) (by decide +kernel)) rfl
theorem q_386 : (Cond.code yX4_keep cX4_keep 1 (some .int)) ∈ xALL := wt_2 _ (List.mem_of_getElem? (i := 177) (by decide +kernel)) rfl
theorem q_387 : (Cond.fieldLink RX4 124 "DittoLogModel" "isKept" "Z") ∈ xALL := wt_2 _ (List.mem_of_getElem? (i := 15) (by decide +kernel)) rfl
theorem q_388 : (Cond.methodLink RL 62 yX3_restore) ∈ xALL := wt_1 _ (List.mem_of_getElem? (i := 82) (by decide +kernel)) rfl
theorem q_389 : (Cond.instanceMethod yX3_restore) ∈ xALL := wt_1 _ (List.mem_of_getElem? (i := 83) (by decide +kernel)) rfl
theorem q_390 : (Cond.selects RX3 yX3_restore yX3_restore) ∈ xALL := wt_1 _ (List.mem_of_getElem? (i := 84) (by decide +kernel)) rfl
theorem q_391 : (Cond.code yX3_restore cX3_restore 1 (some .int)) ∈ xALL := wt_1 _ (List.mem_of_getElem? (i := 85) (by decide +kernel)) rfl
theorem q_392 : (Cond.methodLink RL 65 yX4_restore) ∈ xALL := wt_2 _ (List.mem_of_getElem? (i := 178) (by decide +kernel)) rfl
theorem q_393 : (Cond.instanceMethod yX4_restore) ∈ xALL := wt_2 _ (List.mem_of_getElem? (i := 179) (by decide +kernel)) rfl
theorem q_394 : (Cond.selects RX4 yX4_restore yX4_restore) ∈ xALL := wt_2 _ (List.mem_of_getElem? (i := 180) (by decide +kernel)) rfl
theorem q_395 : (Cond.code yX4_restore cX4_restore 1 (some .int)) ∈ xALL := wt_2 _ (List.mem_of_getElem? (i := 181) (by decide +kernel)) rfl
theorem q_396 : (Cond.methodLink RL 66 yX3_cell) ∈ xALL := wt_1 _ (List.mem_of_getElem? (i := 86) (by decide +kernel)) rfl
theorem q_397 : (Cond.instanceMethod yX3_cell) ∈ xALL := wt_1 _ (List.mem_of_getElem? (i := 87) (by decide +kernel)) rfl
theorem q_398 : (Cond.selects RX3 yX3_cell yX3_cell) ∈ xALL := wt_1 _ (List.mem_of_getElem? (i := 88) (by decide +kernel)) rfl
theorem q_399 : (Cond.code yX3_cell cX3_cell 4 (some .int)) ∈ xALL := wt_1 _ (List.mem_of_getElem? (i := 89) (by decide +kernel)) rfl
theorem q_400 : (Cond.instanceMethod yX1_sourceOf) ∈ xALL := wt_1 _ (List.mem_of_getElem? (i := 93) (by decide +kernel)) rfl
theorem q_401 : (Cond.selects RX1 yX1_sourceOf yX1_sourceOf) ∈ xALL := wt_s _ (List.mem_of_getElem? (i := 34) (by decide +kernel)) rfl
theorem q_402 : (Cond.code yX1_sourceOf cX1_sourceOf 4 (some .int)) ∈ xALL := wt_1 _ (List.mem_of_getElem? (i := 94) (by decide +kernel)) rfl
theorem q_403 : (Cond.instanceMethod yX1_chainOf) ∈ xALL := wt_1 _ (List.mem_of_getElem? (i := 97) (by decide +kernel)) rfl
theorem q_404 : (Cond.selects RX1 yX1_chainOf yX1_chainOf) ∈ xALL := wt_s _ (List.mem_of_getElem? (i := 35) (by decide +kernel)) rfl
theorem q_405 : (Cond.code yX1_chainOf cX1_chainOf 3 (some .int)) ∈ xALL := wt_1 _ (List.mem_of_getElem? (i := 98) (by decide +kernel)) rfl
theorem q_406 : (Cond.instanceMethod yX1_isDoubtful) ∈ xALL := wt_1 _ (List.mem_of_getElem? (i := 101) (by decide +kernel)) rfl
theorem q_407 : (Cond.selects RX1 yX1_isDoubtful yX1_isDoubtful) ∈ xALL := wt_s _ (List.mem_of_getElem? (i := 36) (by decide +kernel)) rfl
theorem q_408 : (Cond.code yX1_isDoubtful cX1_isDoubtful 5 (some .boolean)) ∈ xALL := wt_1 _ (List.mem_of_getElem? (i := 102) (by decide +kernel)) rfl
theorem q_409 : (Cond.methodLink RX1 76 yX1_entriesOf) ∈ xALL := wt_1 _ (List.mem_of_getElem? (i := 103) (by decide +kernel)) rfl
theorem q_410 : (Cond.methodLink RL 69 yX4_cell) ∈ xALL := wt_2 _ (List.mem_of_getElem? (i := 182) (by decide +kernel)) rfl
theorem q_411 : (Cond.instanceMethod yX4_cell) ∈ xALL := wt_2 _ (List.mem_of_getElem? (i := 183) (by decide +kernel)) rfl
theorem q_412 : (Cond.selects RX4 yX4_cell yX4_cell) ∈ xALL := wt_2 _ (List.mem_of_getElem? (i := 184) (by decide +kernel)) rfl
theorem q_413 : (Cond.code yX4_cell cX4_cell 4 (some .int)) ∈ xALL := wt_2 _ (List.mem_of_getElem? (i := 185) (by decide +kernel)) rfl
theorem q_414 : (Cond.methodLink RX4 128 yX4_source) ∈ xALL := wt_2 _ (List.mem_of_getElem? (i := 186) (by decide +kernel)) rfl
theorem q_415 : (Cond.instanceMethod yX4_source) ∈ xALL := wt_2 _ (List.mem_of_getElem? (i := 188) (by decide +kernel)) rfl
theorem q_416 : (Cond.selects RX4 yX4_source yX4_source) ∈ xALL := wt_s _ (List.mem_of_getElem? (i := 72) (by decide +kernel)) rfl
theorem q_417 : (Cond.code yX4_source cX4_source 4 (some .int)) ∈ xALL := wt_2 _ (List.mem_of_getElem? (i := 189) (by decide +kernel)) rfl
theorem q_418 : (Cond.methodLink RX4 131 yX4_chain) ∈ xALL := wt_2 _ (List.mem_of_getElem? (i := 190) (by decide +kernel)) rfl
theorem q_419 : (Cond.instanceMethod yX4_chain) ∈ xALL := wt_2 _ (List.mem_of_getElem? (i := 192) (by decide +kernel)) rfl
theorem q_420 : (Cond.selects RX4 yX4_chain yX4_chain) ∈ xALL := wt_s _ (List.mem_of_getElem? (i := 73) (by decide +kernel)) rfl
theorem q_421 : (Cond.code yX4_chain cX4_chain 3 (some .int)) ∈ xALL := wt_2 _ (List.mem_of_getElem? (i := 193) (by decide +kernel)) rfl
theorem q_422 : (Cond.methodLink RX4 134 yX4_isDoubtful) ∈ xALL := wt_2 _ (List.mem_of_getElem? (i := 194) (by decide +kernel)) rfl
theorem q_423 : (Cond.instanceMethod yX4_isDoubtful) ∈ xALL := wt_2 _ (List.mem_of_getElem? (i := 196) (by decide +kernel)) rfl
theorem q_424 : (Cond.selects RX4 yX4_isDoubtful yX4_isDoubtful) ∈ xALL := wt_s _ (List.mem_of_getElem? (i := 74) (by decide +kernel)) rfl
theorem q_425 : (Cond.code yX4_isDoubtful cX4_isDoubtful 5 (some .boolean)) ∈ xALL := wt_2 _ (List.mem_of_getElem? (i := 197) (by decide +kernel)) rfl
theorem q_426 : (Cond.methodLink RX4 137 yX4_below) ∈ xALL := wt_2 _ (List.mem_of_getElem? (i := 198) (by decide +kernel)) rfl
theorem q_427 : (Cond.instanceMethod yX4_below) ∈ xALL := wt_2 _ (List.mem_of_getElem? (i := 200) (by decide +kernel)) rfl
theorem q_428 : (Cond.selects RX4 yX4_below yX4_below) ∈ xALL := wt_s _ (List.mem_of_getElem? (i := 75) (by decide +kernel)) rfl
theorem q_429 : (Cond.code yX4_below cX4_below 4 (some .int)) ∈ xALL := wt_2 _ (List.mem_of_getElem? (i := 201) (by decide +kernel)) rfl
theorem q_430 : (Cond.methodLink RL 70 yX3_entry) ∈ xALL := wt_1 _ (List.mem_of_getElem? (i := 105) (by decide +kernel)) rfl
theorem q_431 : (Cond.instanceMethod yX3_entry) ∈ xALL := wt_1 _ (List.mem_of_getElem? (i := 106) (by decide +kernel)) rfl
theorem q_432 : (Cond.selects RX3 yX3_entry yX3_entry) ∈ xALL := wt_1 _ (List.mem_of_getElem? (i := 107) (by decide +kernel)) rfl
theorem q_433 : (Cond.code yX3_entry cX3_entry 4 (some .int)) ∈ xALL := wt_1 _ (List.mem_of_getElem? (i := 108) (by decide +kernel)) rfl
theorem q_434 : (Cond.methodLink RL 73 yX4_entry) ∈ xALL := wt_2 _ (List.mem_of_getElem? (i := 202) (by decide +kernel)) rfl
theorem q_435 : (Cond.instanceMethod yX4_entry) ∈ xALL := wt_2 _ (List.mem_of_getElem? (i := 203) (by decide +kernel)) rfl
theorem q_436 : (Cond.selects RX4 yX4_entry yX4_entry) ∈ xALL := wt_2 _ (List.mem_of_getElem? (i := 204) (by decide +kernel)) rfl
theorem q_437 : (Cond.code yX4_entry cX4_entry 4 (some .int)) ∈ xALL := wt_2 _ (List.mem_of_getElem? (i := 205) (by decide +kernel)) rfl
theorem q_438 : (Cond.methodLink RL 74 yX3_isWritten) ∈ xALL := wt_1 _ (List.mem_of_getElem? (i := 109) (by decide +kernel)) rfl
theorem q_439 : (Cond.instanceMethod yX3_isWritten) ∈ xALL := wt_1 _ (List.mem_of_getElem? (i := 110) (by decide +kernel)) rfl
theorem q_440 : (Cond.selects RX3 yX3_isWritten yX3_isWritten) ∈ xALL := wt_1 _ (List.mem_of_getElem? (i := 111) (by decide +kernel)) rfl
theorem q_441 : (Cond.code yX3_isWritten cX3_isWritten 2 (some .int)) ∈ xALL := wt_1 _ (List.mem_of_getElem? (i := 112) (by decide +kernel)) rfl
theorem q_442 : (Cond.instanceMethod yX1_isWrittenOut) ∈ xALL := wt_1 _ (List.mem_of_getElem? (i := 116) (by decide +kernel)) rfl
theorem q_443 : (Cond.selects RX1 yX1_isWrittenOut yX1_isWrittenOut) ∈ xALL := wt_s _ (List.mem_of_getElem? (i := 37) (by decide +kernel)) rfl
theorem q_444 : (Cond.code yX1_isWrittenOut cX1_isWrittenOut 3 (some .boolean)) ∈ xALL := wt_1 _ (List.mem_of_getElem? (i := 117) (by decide +kernel)) rfl
theorem q_445 : (Cond.methodLink RL 78 yX4_isWritten) ∈ xALL := wt_2 _ (List.mem_of_getElem? (i := 206) (by decide +kernel)) rfl
theorem q_446 : (Cond.instanceMethod yX4_isWritten) ∈ xALL := wt_2 _ (List.mem_of_getElem? (i := 207) (by decide +kernel)) rfl
theorem q_447 : (Cond.selects RX4 yX4_isWritten yX4_isWritten) ∈ xALL := wt_2 _ (List.mem_of_getElem? (i := 208) (by decide +kernel)) rfl
theorem q_448 : (Cond.code yX4_isWritten cX4_isWritten 2 (some .int)) ∈ xALL := wt_2 _ (List.mem_of_getElem? (i := 209) (by decide +kernel)) rfl
theorem q_449 : (Cond.methodLink RX4 140 yX4_written) ∈ xALL := wt_2 _ (List.mem_of_getElem? (i := 210) (by decide +kernel)) rfl
theorem q_450 : (Cond.instanceMethod yX4_written) ∈ xALL := wt_2 _ (List.mem_of_getElem? (i := 212) (by decide +kernel)) rfl
theorem q_451 : (Cond.selects RX4 yX4_written yX4_written) ∈ xALL := wt_s _ (List.mem_of_getElem? (i := 76) (by decide +kernel)) rfl
theorem q_452 : (Cond.code yX4_written cX4_written 4 (some .int)) ∈ xALL := wt_2 _ (List.mem_of_getElem? (i := 213) (by decide +kernel)) rfl
theorem q_453 : (Cond.methodLink RL 79 yX3_column) ∈ xALL := wt_1 _ (List.mem_of_getElem? (i := 118) (by decide +kernel)) rfl
theorem q_454 : (Cond.instanceMethod yX3_column) ∈ xALL := wt_1 _ (List.mem_of_getElem? (i := 119) (by decide +kernel)) rfl
theorem q_455 : (Cond.selects RX3 yX3_column yX3_column) ∈ xALL := wt_1 _ (List.mem_of_getElem? (i := 120) (by decide +kernel)) rfl
theorem q_456 : (Cond.code yX3_column cX3_column 4 (some .int)) ∈ xALL := wt_1 _ (List.mem_of_getElem? (i := 121) (by decide +kernel)) rfl
theorem q_457 : (Cond.methodLink RX3 157 yX3_isColumn) ∈ xALL := wt_1 _ (List.mem_of_getElem? (i := 122) (by decide +kernel)) rfl
theorem q_458 : (Cond.instanceMethod yX1_countLatest) ∈ xALL := wt_1 _ (List.mem_of_getElem? (i := 125) (by decide +kernel)) rfl
theorem q_459 : (Cond.selects RX1 yX1_countLatest yX1_countLatest) ∈ xALL := wt_s _ (List.mem_of_getElem? (i := 38) (by decide +kernel)) rfl
theorem q_460 : (Cond.code yX1_countLatest cX1_countLatest 5 (some .int)) ∈ xALL := wt_1 _ (List.mem_of_getElem? (i := 126) (by decide +kernel)) rfl
theorem q_461 : (Cond.instanceMethod yX1_countCorrections) ∈ xALL := wt_1 _ (List.mem_of_getElem? (i := 129) (by decide +kernel)) rfl
theorem q_462 : (Cond.selects RX1 yX1_countCorrections yX1_countCorrections) ∈ xALL := wt_s _ (List.mem_of_getElem? (i := 39) (by decide +kernel)) rfl
theorem q_463 : (Cond.code yX1_countCorrections cX1_countCorrections 4 (some .int)) ∈ xALL := wt_1 _ (List.mem_of_getElem? (i := 130) (by decide +kernel)) rfl
theorem q_464 : (Cond.instanceMethod yX1_countMeaningless) ∈ xALL := wt_1 _ (List.mem_of_getElem? (i := 133) (by decide +kernel)) rfl
theorem q_465 : (Cond.selects RX1 yX1_countMeaningless yX1_countMeaningless) ∈ xALL := wt_s _ (List.mem_of_getElem? (i := 40) (by decide +kernel)) rfl
theorem q_466 : (Cond.code yX1_countMeaningless cX1_countMeaningless 6 (some .int)) ∈ xALL := wt_1 _ (List.mem_of_getElem? (i := 134) (by decide +kernel)) rfl
theorem q_467 : (Cond.instanceMethod yX1_longestChain) ∈ xALL := wt_1 _ (List.mem_of_getElem? (i := 137) (by decide +kernel)) rfl
theorem q_468 : (Cond.selects RX1 yX1_longestChain yX1_longestChain) ∈ xALL := wt_s _ (List.mem_of_getElem? (i := 41) (by decide +kernel)) rfl
theorem q_469 : (Cond.code yX1_longestChain cX1_longestChain 4 (some .int)) ∈ xALL := wt_1 _ (List.mem_of_getElem? (i := 138) (by decide +kernel)) rfl
theorem q_470 : (Cond.methodLink RX1 95 Lib.Math.max.name) ∈ xALL := wt_1 _ (List.mem_of_getElem? (i := 140) (by decide +kernel)) rfl
theorem q_471 : (Cond.static Lib.Math.max.name) ∈ xALL := wt_1 _ (List.mem_of_getElem? (i := 141) (by decide +kernel)) rfl
theorem q_472 : (Cond.code Lib.Math.max.name Lib.Math.max.code 2 (some .int)) ∈ xALL := wt_1 _ (List.mem_of_getElem? (i := 142) (by decide +kernel)) rfl
theorem q_473 : (Cond.methodLink RX1 92 yX1_chainOf) ∈ xALL := wt_1 _ (List.mem_of_getElem? (i := 139) (by decide +kernel)) rfl
theorem q_474 : (Cond.methodLink RX3 172 yX3_mostMeant) ∈ xALL := wt_1 _ (List.mem_of_getElem? (i := 143) (by decide +kernel)) rfl
theorem q_475 : (Cond.instanceMethod yX3_mostMeant) ∈ xALL := wt_1 _ (List.mem_of_getElem? (i := 145) (by decide +kernel)) rfl
theorem q_476 : (Cond.selects RX3 yX3_mostMeant yX3_mostMeant) ∈ xALL := wt_s _ (List.mem_of_getElem? (i := 42) (by decide +kernel)) rfl
theorem q_477 : (Cond.code yX3_mostMeant cX3_mostMeant 7 (some .int)) ∈ xALL := wt_1 _ (List.mem_of_getElem? (i := 146) (by decide +kernel)) rfl
theorem q_478 : (Cond.methodLink RX3 218 yJ7_fill_53178) ∈ xALL := wt_1 _ (List.mem_of_getElem? (i := 147) (by decide +kernel)) rfl
theorem q_479 : (Cond.instanceMethod yX1_countDoubtful) ∈ xALL := wt_1 _ (List.mem_of_getElem? (i := 150) (by decide +kernel)) rfl
theorem q_480 : (Cond.selects RX1 yX1_countDoubtful yX1_countDoubtful) ∈ xALL := wt_s _ (List.mem_of_getElem? (i := 43) (by decide +kernel)) rfl
theorem q_481 : (Cond.code yX1_countDoubtful cX1_countDoubtful 6 (some .int)) ∈ xALL := wt_1 _ (List.mem_of_getElem? (i := 151) (by decide +kernel)) rfl
theorem q_482 : (Cond.methodLink RX1 89 yX1_isDoubtful) ∈ xALL := wt_1 _ (List.mem_of_getElem? (i := 152) (by decide +kernel)) rfl
theorem q_483 : (Cond.methodLink RL 82 yX4_column) ∈ xALL := wt_2 _ (List.mem_of_getElem? (i := 214) (by decide +kernel)) rfl
theorem q_484 : (Cond.instanceMethod yX4_column) ∈ xALL := wt_2 _ (List.mem_of_getElem? (i := 215) (by decide +kernel)) rfl
theorem q_485 : (Cond.selects RX4 yX4_column yX4_column) ∈ xALL := wt_2 _ (List.mem_of_getElem? (i := 216) (by decide +kernel)) rfl
theorem q_486 : (Cond.code yX4_column cX4_column 4 (some .int)) ∈ xALL := wt_2 _ (List.mem_of_getElem? (i := 217) (by decide +kernel)) rfl
theorem q_487 : (Cond.methodLink RX4 147 yX4_withLatest) ∈ xALL := wt_2 _ (List.mem_of_getElem? (i := 218) (by decide +kernel)) rfl
theorem q_488 : (Cond.instanceMethod yX4_withLatest) ∈ xALL := wt_2 _ (List.mem_of_getElem? (i := 220) (by decide +kernel)) rfl
theorem q_489 : (Cond.selects RX4 yX4_withLatest yX4_withLatest) ∈ xALL := wt_s _ (List.mem_of_getElem? (i := 77) (by decide +kernel)) rfl
theorem q_490 : (Cond.code yX4_withLatest cX4_withLatest 5 (some .int)) ∈ xALL := wt_2 _ (List.mem_of_getElem? (i := 221) (by decide +kernel)) rfl
theorem q_491 : (Cond.methodLink RX4 150 yX4_corrections) ∈ xALL := wt_2 _ (List.mem_of_getElem? (i := 222) (by decide +kernel)) rfl
theorem q_492 : (Cond.instanceMethod yX4_corrections) ∈ xALL := wt_2 _ (List.mem_of_getElem? (i := 224) (by decide +kernel)) rfl
theorem q_493 : (Cond.selects RX4 yX4_corrections yX4_corrections) ∈ xALL := wt_s _ (List.mem_of_getElem? (i := 78) (by decide +kernel)) rfl
theorem q_494 : (Cond.code yX4_corrections cX4_corrections 4 (some .int)) ∈ xALL := wt_2 _ (List.mem_of_getElem? (i := 225) (by decide +kernel)) rfl
theorem q_495 : (Cond.methodLink RX4 143 yX4_meaning) ∈ xALL := wt_2 _ (List.mem_of_getElem? (i := 226) (by decide +kernel)) rfl
theorem q_496 : (Cond.instanceMethod yX4_meaning) ∈ xALL := wt_2 _ (List.mem_of_getElem? (i := 228) (by decide +kernel)) rfl
theorem q_497 : (Cond.selects RX4 yX4_meaning yX4_meaning) ∈ xALL := wt_s _ (List.mem_of_getElem? (i := 79) (by decide +kernel)) rfl
theorem q_498 : (Cond.code yX4_meaning cX4_meaning 7 (some .int)) ∈ xALL := wt_2 _ (List.mem_of_getElem? (i := 229) (by decide +kernel)) rfl
theorem q_499 : (Cond.methodLink RX4 153 yX4_longest) ∈ xALL := wt_2 _ (List.mem_of_getElem? (i := 230) (by decide +kernel)) rfl
theorem q_500 : (Cond.instanceMethod yX4_longest) ∈ xALL := wt_2 _ (List.mem_of_getElem? (i := 232) (by decide +kernel)) rfl
theorem q_501 : (Cond.selects RX4 yX4_longest yX4_longest) ∈ xALL := wt_s _ (List.mem_of_getElem? (i := 80) (by decide +kernel)) rfl
theorem q_502 : (Cond.code yX4_longest cX4_longest 4 (some .int)) ∈ xALL := wt_2 _ (List.mem_of_getElem? (i := 233) (by decide +kernel)) rfl
theorem q_503 : (Cond.methodLink RX4 156 yX4_commonest) ∈ xALL := wt_2 _ (List.mem_of_getElem? (i := 234) (by decide +kernel)) rfl
theorem q_504 : (Cond.instanceMethod yX4_commonest) ∈ xALL := wt_2 _ (List.mem_of_getElem? (i := 236) (by decide +kernel)) rfl
theorem q_505 : (Cond.selects RX4 yX4_commonest yX4_commonest) ∈ xALL := wt_s _ (List.mem_of_getElem? (i := 81) (by decide +kernel)) rfl
theorem q_506 : (Cond.code yX4_commonest cX4_commonest 8 (some .int)) ∈ xALL := wt_2 _ (List.mem_of_getElem? (i := 237) (by decide +kernel)) rfl
theorem q_507 : (Cond.methodLink RX4 160 yX4_doubtful) ∈ xALL := wt_2 _ (List.mem_of_getElem? (i := 238) (by decide +kernel)) rfl
theorem q_508 : (Cond.instanceMethod yX4_doubtful) ∈ xALL := wt_3 _ (List.mem_of_getElem? (i := 0) (by decide +kernel)) rfl
theorem q_509 : (Cond.selects RX4 yX4_doubtful yX4_doubtful) ∈ xALL := wt_s _ (List.mem_of_getElem? (i := 82) (by decide +kernel)) rfl
theorem q_510 : (Cond.code yX4_doubtful cX4_doubtful 6 (some .int)) ∈ xALL := wt_3 _ (List.mem_of_getElem? (i := 1) (by decide +kernel)) rfl
theorem q_511 : (Cond.methodLink RL 83 yX3_watch) ∈ xALL := wt_1 _ (List.mem_of_getElem? (i := 153) (by decide +kernel)) rfl
theorem q_512 : (Cond.instanceMethod yX3_watch) ∈ xALL := wt_1 _ (List.mem_of_getElem? (i := 154) (by decide +kernel)) rfl
theorem q_513 : (Cond.selects RX3 yX3_watch yX3_watch) ∈ xALL := wt_1 _ (List.mem_of_getElem? (i := 155) (by decide +kernel)) rfl
theorem q_514 : (Cond.code yX3_watch cX3_watch 5 (some .int)) ∈ xALL := wt_1 _ (List.mem_of_getElem? (i := 156) (by decide +kernel)) rfl
theorem q_515 : (Cond.instanceMethod yX1_watches) ∈ xALL := wt_1 _ (List.mem_of_getElem? (i := 159) (by decide +kernel)) rfl
theorem q_516 : (Cond.selects RX1 yX1_watches yX1_watches) ∈ xALL := wt_s _ (List.mem_of_getElem? (i := 44) (by decide +kernel)) rfl
theorem q_517 : (Cond.code yX1_watches cX1_watches 1 (some .int)) ∈ xALL := wt_1 _ (List.mem_of_getElem? (i := 160) (by decide +kernel)) rfl
theorem q_518 : (Cond.instanceMethod yX1_firstRowOf) ∈ xALL := wt_1 _ (List.mem_of_getElem? (i := 163) (by decide +kernel)) rfl
theorem q_519 : (Cond.selects RX1 yX1_firstRowOf yX1_firstRowOf) ∈ xALL := wt_s _ (List.mem_of_getElem? (i := 45) (by decide +kernel)) rfl
theorem q_520 : (Cond.code yX1_firstRowOf cX1_firstRowOf 2 (some .int)) ∈ xALL := wt_1 _ (List.mem_of_getElem? (i := 164) (by decide +kernel)) rfl
theorem q_521 : (Cond.instanceMethod yX1_lastRowOf) ∈ xALL := wt_1 _ (List.mem_of_getElem? (i := 167) (by decide +kernel)) rfl
theorem q_522 : (Cond.selects RX1 yX1_lastRowOf yX1_lastRowOf) ∈ xALL := wt_s _ (List.mem_of_getElem? (i := 46) (by decide +kernel)) rfl
theorem q_523 : (Cond.code yX1_lastRowOf cX1_lastRowOf 2 (some .int)) ∈ xALL := wt_1 _ (List.mem_of_getElem? (i := 168) (by decide +kernel)) rfl
theorem q_524 : (Cond.methodLink RX1 103 Lib.Math.min.name) ∈ xALL := wt_1 _ (List.mem_of_getElem? (i := 169) (by decide +kernel)) rfl
theorem q_525 : (Cond.instanceMethod yX1_runOf) ∈ xALL := wt_1 _ (List.mem_of_getElem? (i := 172) (by decide +kernel)) rfl
theorem q_526 : (Cond.selects RX1 yX1_runOf yX1_runOf) ∈ xALL := wt_s _ (List.mem_of_getElem? (i := 47) (by decide +kernel)) rfl
theorem q_527 : (Cond.code yX1_runOf cX1_runOf 5 (some .int)) ∈ xALL := wt_1 _ (List.mem_of_getElem? (i := 173) (by decide +kernel)) rfl
theorem q_528 : (Cond.methodLink RX3 190 yX3_doubtfulCells) ∈ xALL := wt_1 _ (List.mem_of_getElem? (i := 174) (by decide +kernel)) rfl
theorem q_529 : (Cond.instanceMethod yX3_doubtfulCells) ∈ xALL := wt_1 _ (List.mem_of_getElem? (i := 176) (by decide +kernel)) rfl
theorem q_530 : (Cond.selects RX3 yX3_doubtfulCells yX3_doubtfulCells) ∈ xALL := wt_s _ (List.mem_of_getElem? (i := 48) (by decide +kernel)) rfl
theorem q_531 : (Cond.code yX3_doubtfulCells cX3_doubtfulCells 5 (some .int)) ∈ xALL := wt_1 _ (List.mem_of_getElem? (i := 177) (by decide +kernel)) rfl
theorem q_532 : (Cond.methodLink RL 86 yX4_watch) ∈ xALL := wt_3 _ (List.mem_of_getElem? (i := 2) (by decide +kernel)) rfl
theorem q_533 : (Cond.instanceMethod yX4_watch) ∈ xALL := wt_3 _ (List.mem_of_getElem? (i := 3) (by decide +kernel)) rfl
theorem q_534 : (Cond.selects RX4 yX4_watch yX4_watch) ∈ xALL := wt_3 _ (List.mem_of_getElem? (i := 4) (by decide +kernel)) rfl
theorem q_535 : (Cond.code yX4_watch cX4_watch 6 (some .int)) ∈ xALL := wt_3 _ (List.mem_of_getElem? (i := 5) (by decide +kernel)) rfl
theorem q_536 : (Cond.methodLink RX4 163 yX4_watches) ∈ xALL := wt_3 _ (List.mem_of_getElem? (i := 6) (by decide +kernel)) rfl
theorem q_537 : (Cond.instanceMethod yX4_watches) ∈ xALL := wt_3 _ (List.mem_of_getElem? (i := 8) (by decide +kernel)) rfl
theorem q_538 : (Cond.selects RX4 yX4_watches yX4_watches) ∈ xALL := wt_s _ (List.mem_of_getElem? (i := 83) (by decide +kernel)) rfl
theorem q_539 : (Cond.code yX4_watches cX4_watches 1 (some .int)) ∈ xALL := wt_3 _ (List.mem_of_getElem? (i := 9) (by decide +kernel)) rfl
theorem q_540 : (Cond.methodLink RX4 166 yX4_lastOf) ∈ xALL := wt_3 _ (List.mem_of_getElem? (i := 10) (by decide +kernel)) rfl
theorem q_541 : (Cond.instanceMethod yX4_lastOf) ∈ xALL := wt_3 _ (List.mem_of_getElem? (i := 12) (by decide +kernel)) rfl
theorem q_542 : (Cond.selects RX4 yX4_lastOf yX4_lastOf) ∈ xALL := wt_s _ (List.mem_of_getElem? (i := 84) (by decide +kernel)) rfl
theorem q_543 : (Cond.code yX4_lastOf cX4_lastOf 3 (some .int)) ∈ xALL := wt_3 _ (List.mem_of_getElem? (i := 13) (by decide +kernel)) rfl
theorem q_544 : (Cond.methodLink RX4 169 yX4_runOf) ∈ xALL := wt_3 _ (List.mem_of_getElem? (i := 14) (by decide +kernel)) rfl
theorem q_545 : (Cond.instanceMethod yX4_runOf) ∈ xALL := wt_3 _ (List.mem_of_getElem? (i := 16) (by decide +kernel)) rfl
theorem q_546 : (Cond.selects RX4 yX4_runOf yX4_runOf) ∈ xALL := wt_s _ (List.mem_of_getElem? (i := 85) (by decide +kernel)) rfl
theorem q_547 : (Cond.code yX4_runOf cX4_runOf 5 (some .int)) ∈ xALL := wt_3 _ (List.mem_of_getElem? (i := 17) (by decide +kernel)) rfl
theorem q_548 : (Cond.methodLink RX4 172 yX4_inDoubt) ∈ xALL := wt_3 _ (List.mem_of_getElem? (i := 18) (by decide +kernel)) rfl
theorem q_549 : (Cond.instanceMethod yX4_inDoubt) ∈ xALL := wt_3 _ (List.mem_of_getElem? (i := 20) (by decide +kernel)) rfl
theorem q_550 : (Cond.selects RX4 yX4_inDoubt yX4_inDoubt) ∈ xALL := wt_s _ (List.mem_of_getElem? (i := 86) (by decide +kernel)) rfl
theorem q_551 : (Cond.code yX4_inDoubt cX4_inDoubt 5 (some .int)) ∈ xALL := wt_3 _ (List.mem_of_getElem? (i := 21) (by decide +kernel)) rfl
theorem q_552 : (Cond.methodLink RL 87 yX3_run) ∈ xALL := wt_1 _ (List.mem_of_getElem? (i := 178) (by decide +kernel)) rfl
theorem q_553 : (Cond.instanceMethod yX3_run) ∈ xALL := wt_1 _ (List.mem_of_getElem? (i := 179) (by decide +kernel)) rfl
theorem q_554 : (Cond.selects RX3 yX3_run yX3_run) ∈ xALL := wt_1 _ (List.mem_of_getElem? (i := 180) (by decide +kernel)) rfl
theorem q_555 : (Cond.code yX3_run cX3_run 3 (some .int)) ∈ xALL := wt_1 _ (List.mem_of_getElem? (i := 181) (by decide +kernel)) rfl
theorem q_556 : (Cond.methodLink RL 90 yX4_run) ∈ xALL := wt_3 _ (List.mem_of_getElem? (i := 22) (by decide +kernel)) rfl
theorem q_557 : (Cond.instanceMethod yX4_run) ∈ xALL := wt_3 _ (List.mem_of_getElem? (i := 23) (by decide +kernel)) rfl
theorem q_558 : (Cond.selects RX4 yX4_run yX4_run) ∈ xALL := wt_3 _ (List.mem_of_getElem? (i := 24) (by decide +kernel)) rfl
theorem q_559 : (Cond.code yX4_run cX4_run 4 (some .int)) ∈ xALL := wt_3 _ (List.mem_of_getElem? (i := 25) (by decide +kernel)) rfl
theorem q_560 : (Cond.methodLink RX4 175 yX4_mayGo) ∈ xALL := wt_3 _ (List.mem_of_getElem? (i := 26) (by decide +kernel)) rfl
theorem q_561 : (Cond.instanceMethod yX4_mayGo) ∈ xALL := wt_3 _ (List.mem_of_getElem? (i := 28) (by decide +kernel)) rfl
theorem q_562 : (Cond.selects RX4 yX4_mayGo yX4_mayGo) ∈ xALL := wt_s _ (List.mem_of_getElem? (i := 87) (by decide +kernel)) rfl
theorem q_563 : (Cond.code yX4_mayGo cX4_mayGo 3 (some .int)) ∈ xALL := wt_3 _ (List.mem_of_getElem? (i := 29) (by decide +kernel)) rfl
theorem q_564 : (Cond.methodLink RL 91 yX3_north) ∈ xALL := wt_1 _ (List.mem_of_getElem? (i := 182) (by decide +kernel)) rfl
theorem q_565 : (Cond.instanceMethod yX3_north) ∈ xALL := wt_1 _ (List.mem_of_getElem? (i := 183) (by decide +kernel)) rfl
theorem q_566 : (Cond.selects RX3 yX3_north yX3_north) ∈ xALL := wt_1 _ (List.mem_of_getElem? (i := 184) (by decide +kernel)) rfl
theorem q_567 : (Cond.code yX3_north cX3_north 3 (some .double)) ∈ xALL := wt_1 _ (List.mem_of_getElem? (i := 185) (by decide +kernel)) rfl
theorem q_568 : (Cond.constantDouble RX3 200 (13890094659566305280)) ∈ xALL := wt_1 _ (List.mem_of_getElem? (i := 201) (by decide +kernel)) rfl
theorem q_569 : (Cond.instanceMethod yX1_areRows) ∈ xALL := wt_1 _ (List.mem_of_getElem? (i := 188) (by decide +kernel)) rfl
theorem q_570 : (Cond.selects RX1 yX1_areRows yX1_areRows) ∈ xALL := wt_s _ (List.mem_of_getElem? (i := 49) (by decide +kernel)) rfl
theorem q_571 : (Cond.code yX1_areRows cX1_areRows 3 (some .boolean)) ∈ xALL := wt_1 _ (List.mem_of_getElem? (i := 189) (by decide +kernel)) rfl
theorem q_572 : (Cond.instanceMethod yX1_wayOf) ∈ xALL := wt_1 _ (List.mem_of_getElem? (i := 192) (by decide +kernel)) rfl
theorem q_573 : (Cond.selects RX1 yX1_wayOf yX1_wayOf) ∈ xALL := wt_s _ (List.mem_of_getElem? (i := 50) (by decide +kernel)) rfl
theorem q_574 : (Cond.code yX1_wayOf cX1_wayOf 9 (some .double)) ∈ xALL := wt_1 _ (List.mem_of_getElem? (i := 193) (by decide +kernel)) rfl
theorem q_575 : (Cond.constantDouble RX1 123 (4621819117588971520)) ∈ xALL := wt_1 _ (List.mem_of_getElem? (i := 194) (by decide +kernel)) rfl
theorem q_576 : (Cond.static yX3_wayNorth) ∈ xALL := wt_1 _ (List.mem_of_getElem? (i := 196) (by decide +kernel)) rfl
theorem q_577 : (Cond.code yX3_wayNorth cX3_wayNorth 1 (some .double)) ∈ xALL := wt_1 _ (List.mem_of_getElem? (i := 197) (by decide +kernel)) rfl
theorem q_578 : (Cond.constantDouble RX3 238 (4604544210138303771)) ∈ xALL := wt_1 _ (List.mem_of_getElem? (i := 198) (by decide +kernel)) rfl
theorem q_579 : (Cond.constantDouble RX3 240 (13827916246993079579)) ∈ xALL := wt_1 _ (List.mem_of_getElem? (i := 199) (by decide +kernel)) rfl
theorem q_580 : (Cond.constantDouble RX3 242 (13830554455654793216)) ∈ xALL := wt_1 _ (List.mem_of_getElem? (i := 200) (by decide +kernel)) rfl
theorem q_581 : (Cond.methodLink RL 95 yX4_north) ∈ xALL := wt_3 _ (List.mem_of_getElem? (i := 30) (by decide +kernel)) rfl
theorem q_582 : (Cond.instanceMethod yX4_north) ∈ xALL := wt_3 _ (List.mem_of_getElem? (i := 31) (by decide +kernel)) rfl
theorem q_583 : (Cond.selects RX4 yX4_north yX4_north) ∈ xALL := wt_3 _ (List.mem_of_getElem? (i := 32) (by decide +kernel)) rfl
theorem q_584 : (Cond.code yX4_north cX4_north 3 (some .double)) ∈ xALL := wt_3 _ (List.mem_of_getElem? (i := 33) (by decide +kernel)) rfl
theorem q_585 : (Cond.constantDouble RX4 190 (13890094659566305280)) ∈ xALL := wt_3 _ (List.mem_of_getElem? (i := 34) (by decide +kernel)) rfl
theorem q_586 : (Cond.methodLink RX4 192 yX4_brings) ∈ xALL := wt_3 _ (List.mem_of_getElem? (i := 35) (by decide +kernel)) rfl
theorem q_587 : (Cond.instanceMethod yX4_brings) ∈ xALL := wt_3 _ (List.mem_of_getElem? (i := 37) (by decide +kernel)) rfl
theorem q_588 : (Cond.selects RX4 yX4_brings yX4_brings) ∈ xALL := wt_s _ (List.mem_of_getElem? (i := 88) (by decide +kernel)) rfl
theorem q_589 : (Cond.code yX4_brings cX4_brings 9 (some .double)) ∈ xALL := wt_3 _ (List.mem_of_getElem? (i := 38) (by decide +kernel)) rfl
theorem q_590 : (Cond.constantDouble RX4 184 (4621819117588971520)) ∈ xALL := wt_3 _ (List.mem_of_getElem? (i := 39) (by decide +kernel)) rfl
theorem q_591 : (Cond.methodLink RX4 186 yX4_northBy) ∈ xALL := wt_3 _ (List.mem_of_getElem? (i := 40) (by decide +kernel)) rfl
theorem q_592 : (Cond.static yX4_northBy) ∈ xALL := wt_3 _ (List.mem_of_getElem? (i := 41) (by decide +kernel)) rfl
theorem q_593 : (Cond.code yX4_northBy cX4_northBy 1 (some .double)) ∈ xALL := wt_3 _ (List.mem_of_getElem? (i := 42) (by decide +kernel)) rfl
theorem q_594 : (Cond.constantDouble RX4 178 (4604544210138303771)) ∈ xALL := wt_3 _ (List.mem_of_getElem? (i := 43) (by decide +kernel)) rfl
theorem q_595 : (Cond.constantDouble RX4 180 (13827916246993079579)) ∈ xALL := wt_3 _ (List.mem_of_getElem? (i := 44) (by decide +kernel)) rfl
theorem q_596 : (Cond.constantDouble RX4 182 (13830554455654793216)) ∈ xALL := wt_3 _ (List.mem_of_getElem? (i := 45) (by decide +kernel)) rfl
theorem q_597 : (Cond.methodLink RL 96 yX3_east) ∈ xALL := wt_1 _ (List.mem_of_getElem? (i := 202) (by decide +kernel)) rfl
theorem q_598 : (Cond.instanceMethod yX3_east) ∈ xALL := wt_1 _ (List.mem_of_getElem? (i := 203) (by decide +kernel)) rfl
theorem q_599 : (Cond.selects RX3 yX3_east yX3_east) ∈ xALL := wt_1 _ (List.mem_of_getElem? (i := 204) (by decide +kernel)) rfl
theorem q_600 : (Cond.code yX3_east cX3_east 3 (some .double)) ∈ xALL := wt_1 _ (List.mem_of_getElem? (i := 205) (by decide +kernel)) rfl
theorem q_601 : (Cond.methodLink RL 99 yX4_east) ∈ xALL := wt_3 _ (List.mem_of_getElem? (i := 46) (by decide +kernel)) rfl
theorem q_602 : (Cond.instanceMethod yX4_east) ∈ xALL := wt_3 _ (List.mem_of_getElem? (i := 47) (by decide +kernel)) rfl
theorem q_603 : (Cond.selects RX4 yX4_east yX4_east) ∈ xALL := wt_3 _ (List.mem_of_getElem? (i := 48) (by decide +kernel)) rfl
theorem q_604 : (Cond.code yX4_east cX4_east 3 (some .double)) ∈ xALL := wt_3 _ (List.mem_of_getElem? (i := 49) (by decide +kernel)) rfl
theorem q_605 : (Cond.methodLink RL 100 yX3_squareBits) ∈ xALL := wt_1 _ (List.mem_of_getElem? (i := 206) (by decide +kernel)) rfl
theorem q_606 : (Cond.instanceMethod yX3_squareBits) ∈ xALL := wt_1 _ (List.mem_of_getElem? (i := 207) (by decide +kernel)) rfl
theorem q_607 : (Cond.selects RX3 yX3_squareBits yX3_squareBits) ∈ xALL := wt_1 _ (List.mem_of_getElem? (i := 208) (by decide +kernel)) rfl
theorem q_608 : (Cond.code yX3_squareBits cX3_squareBits 7 (some .int)) ∈ xALL := wt_1 _ (List.mem_of_getElem? (i := 209) (by decide +kernel)) rfl
theorem q_609 : (Cond.methodLink RX3 202 yX3_bitsOf) ∈ xALL := wt_1 _ (List.mem_of_getElem? (i := 210) (by decide +kernel)) rfl
theorem q_610 : (Cond.static yX3_bitsOf) ∈ xALL := wt_1 _ (List.mem_of_getElem? (i := 211) (by decide +kernel)) rfl
theorem q_611 : (Cond.code yX3_bitsOf cX3_bitsOf 5 (some .int)) ∈ xALL := wt_1 _ (List.mem_of_getElem? (i := 212) (by decide +kernel)) rfl
theorem q_612 : (Cond.constantDouble RX3 244 (4611686018427387904)) ∈ xALL := wt_1 _ (List.mem_of_getElem? (i := 213) (by decide +kernel)) rfl
theorem q_613 : (Cond.constantDouble RX3 246 (4710765210229538816)) ∈ xALL := wt_1 _ (List.mem_of_getElem? (i := 214) (by decide +kernel)) rfl
theorem q_614 : (Cond.methodLink RL 103 yX4_squareBits) ∈ xALL := wt_3 _ (List.mem_of_getElem? (i := 50) (by decide +kernel)) rfl
theorem q_615 : (Cond.instanceMethod yX4_squareBits) ∈ xALL := wt_3 _ (List.mem_of_getElem? (i := 51) (by decide +kernel)) rfl
theorem q_616 : (Cond.selects RX4 yX4_squareBits yX4_squareBits) ∈ xALL := wt_3 _ (List.mem_of_getElem? (i := 52) (by decide +kernel)) rfl
theorem q_617 : (Cond.code yX4_squareBits cX4_squareBits 4 (some .int)) ∈ xALL := wt_3 _ (List.mem_of_getElem? (i := 53) (by decide +kernel)) rfl
theorem q_618 : (Cond.methodLink RX4 202 yX4_square) ∈ xALL := wt_3 _ (List.mem_of_getElem? (i := 54) (by decide +kernel)) rfl
theorem q_619 : (Cond.instanceMethod yX4_square) ∈ xALL := wt_3 _ (List.mem_of_getElem? (i := 56) (by decide +kernel)) rfl
theorem q_620 : (Cond.selects RX4 yX4_square yX4_square) ∈ xALL := wt_s _ (List.mem_of_getElem? (i := 89) (by decide +kernel)) rfl
theorem q_621 : (Cond.code yX4_square cX4_square 7 (some .int)) ∈ xALL := wt_3 _ (List.mem_of_getElem? (i := 57) (by decide +kernel)) rfl
theorem q_622 : (Cond.methodLink RX4 196 yJxf58ca_floatToIntBits_5c35a) ∈ xALL := wt_3 _ (List.mem_of_getElem? (i := 58) (by decide +kernel)) rfl
theorem q_623 : (Cond.static yJxf58ca_floatToIntBits_5c35a) ∈ xALL := wt_3 _ (List.mem_of_getElem? (i := 59) (by decide +kernel)) rfl
theorem q_624 : (Cond.initialized RJxf58ca) ∈ xALL := wt_0 _ (List.mem_of_getElem? (i := 10) (by decide +kernel)) rfl
theorem q_625 : (Cond.code yJxf58ca_floatToIntBits_5c35a cJxf58ca_floatToIntBits_5c35a 1 (some .int)) ∈ xALL := wt_3 _ (List.mem_of_getElem? (i := 60) (by decide +kernel)) rfl
theorem q_626 : (Cond.methodLink RJxf58ca 74 ⟨"java/lang/Float", "floatToRawIntBits", "(F)I"⟩) ∈ xALL := wt_3 _ (List.mem_of_getElem? (i := 64) (by decide +kernel)) rfl
theorem q_627 : (Cond.native ⟨"java/lang/Float", "floatToRawIntBits", "(F)I"⟩) ∈ xALL := wt_3 _ (List.mem_of_getElem? (i := 66) (by decide +kernel)) rfl
theorem q_628 : (Cond.static ⟨"java/lang/Float", "floatToRawIntBits", "(F)I"⟩) ∈ xALL := wt_3 _ (List.mem_of_getElem? (i := 65) (by decide +kernel)) rfl
theorem q_629 : (Cond.initialized "java/lang/Float") ∈ xALL := wt_0 _ (List.mem_of_getElem? (i := 10) (by decide +kernel)) rfl
theorem q_630 : (Cond.constant RJxf58ca 77 (2143289344)) ∈ xALL := wt_3 _ (List.mem_of_getElem? (i := 67) (by decide +kernel)) rfl
theorem q_631 : (Cond.methodLink RJxf58ca 59 yJxf58ca_isNaN_12338) ∈ xALL := wt_3 _ (List.mem_of_getElem? (i := 61) (by decide +kernel)) rfl
theorem q_632 : (Cond.static yJxf58ca_isNaN_12338) ∈ xALL := wt_3 _ (List.mem_of_getElem? (i := 62) (by decide +kernel)) rfl
theorem q_633 : (Cond.code yJxf58ca_isNaN_12338 cJxf58ca_isNaN_12338 1 (some .boolean)) ∈ xALL := wt_3 _ (List.mem_of_getElem? (i := 63) (by decide +kernel)) rfl
theorem q_634 : (Cond.methodLink RL 104 yX3_wouldChange) ∈ xALL := wt_1 _ (List.mem_of_getElem? (i := 215) (by decide +kernel)) rfl
theorem q_635 : (Cond.instanceMethod yX3_wouldChange) ∈ xALL := wt_1 _ (List.mem_of_getElem? (i := 216) (by decide +kernel)) rfl
theorem q_636 : (Cond.selects RX3 yX3_wouldChange yX3_wouldChange) ∈ xALL := wt_1 _ (List.mem_of_getElem? (i := 217) (by decide +kernel)) rfl
theorem q_637 : (Cond.code yX3_wouldChange cX3_wouldChange 4 (some .int)) ∈ xALL := wt_1 _ (List.mem_of_getElem? (i := 218) (by decide +kernel)) rfl
theorem q_638 : (Cond.methodLink RL 107 yX4_wouldChange) ∈ xALL := wt_3 _ (List.mem_of_getElem? (i := 68) (by decide +kernel)) rfl
theorem q_639 : (Cond.instanceMethod yX4_wouldChange) ∈ xALL := wt_3 _ (List.mem_of_getElem? (i := 69) (by decide +kernel)) rfl
theorem q_640 : (Cond.selects RX4 yX4_wouldChange yX4_wouldChange) ∈ xALL := wt_3 _ (List.mem_of_getElem? (i := 70) (by decide +kernel)) rfl
theorem q_641 : (Cond.code yX4_wouldChange cX4_wouldChange 7 (some .int)) ∈ xALL := wt_3 _ (List.mem_of_getElem? (i := 71) (by decide +kernel)) rfl
theorem q_642 : (Cond.methodLink RL 108 yX3_count) ∈ xALL := wt_1 _ (List.mem_of_getElem? (i := 219) (by decide +kernel)) rfl
theorem q_643 : (Cond.instanceMethod yX3_count) ∈ xALL := wt_1 _ (List.mem_of_getElem? (i := 220) (by decide +kernel)) rfl
theorem q_644 : (Cond.selects RX3 yX3_count yX3_count) ∈ xALL := wt_1 _ (List.mem_of_getElem? (i := 221) (by decide +kernel)) rfl
theorem q_645 : (Cond.code yX3_count cX3_count 2 (some .int)) ∈ xALL := wt_1 _ (List.mem_of_getElem? (i := 222) (by decide +kernel)) rfl
theorem q_646 : (Cond.methodLink RX3 206 yX3_dittos) ∈ xALL := wt_1 _ (List.mem_of_getElem? (i := 223) (by decide +kernel)) rfl
theorem q_647 : (Cond.instanceMethod yX3_dittos) ∈ xALL := wt_1 _ (List.mem_of_getElem? (i := 225) (by decide +kernel)) rfl
theorem q_648 : (Cond.selects RX3 yX3_dittos yX3_dittos) ∈ xALL := wt_s _ (List.mem_of_getElem? (i := 51) (by decide +kernel)) rfl
theorem q_649 : (Cond.code yX3_dittos cX3_dittos 3 (some .int)) ∈ xALL := wt_1 _ (List.mem_of_getElem? (i := 226) (by decide +kernel)) rfl
theorem q_650 : (Cond.methodLink RX3 209 yX3_corrections) ∈ xALL := wt_1 _ (List.mem_of_getElem? (i := 227) (by decide +kernel)) rfl
theorem q_651 : (Cond.instanceMethod yX3_corrections) ∈ xALL := wt_1 _ (List.mem_of_getElem? (i := 229) (by decide +kernel)) rfl
theorem q_652 : (Cond.selects RX3 yX3_corrections yX3_corrections) ∈ xALL := wt_s _ (List.mem_of_getElem? (i := 52) (by decide +kernel)) rfl
theorem q_653 : (Cond.code yX3_corrections cX3_corrections 3 (some .int)) ∈ xALL := wt_1 _ (List.mem_of_getElem? (i := 230) (by decide +kernel)) rfl
theorem q_654 : (Cond.instanceMethod yX1_countWrittenOut) ∈ xALL := wt_1 _ (List.mem_of_getElem? (i := 233) (by decide +kernel)) rfl
theorem q_655 : (Cond.selects RX1 yX1_countWrittenOut yX1_countWrittenOut) ∈ xALL := wt_s _ (List.mem_of_getElem? (i := 53) (by decide +kernel)) rfl
theorem q_656 : (Cond.code yX1_countWrittenOut cX1_countWrittenOut 3 (some .int)) ∈ xALL := wt_1 _ (List.mem_of_getElem? (i := 234) (by decide +kernel)) rfl
theorem q_657 : (Cond.methodLink RX1 100 yX1_isWrittenOut) ∈ xALL := wt_1 _ (List.mem_of_getElem? (i := 235) (by decide +kernel)) rfl
theorem q_658 : (Cond.instanceMethod yX1_countWrongSums) ∈ xALL := wt_1 _ (List.mem_of_getElem? (i := 238) (by decide +kernel)) rfl
theorem q_659 : (Cond.selects RX1 yX1_countWrongSums yX1_countWrongSums) ∈ xALL := wt_s _ (List.mem_of_getElem? (i := 54) (by decide +kernel)) rfl
theorem q_660 : (Cond.code yX1_countWrongSums cX1_countWrongSums 5 (some .int)) ∈ xALL := wt_1 _ (List.mem_of_getElem? (i := 239) (by decide +kernel)) rfl
theorem q_661 : (Cond.methodLink RX1 106 yX1_watches) ∈ xALL := wt_2 _ (List.mem_of_getElem? (i := 0) (by decide +kernel)) rfl
theorem q_662 : (Cond.methodLink RX1 110 yX1_sumOf) ∈ xALL := wt_2 _ (List.mem_of_getElem? (i := 1) (by decide +kernel)) rfl
theorem q_663 : (Cond.methodLink RX1 114 yX1_firstRowOf) ∈ xALL := wt_2 _ (List.mem_of_getElem? (i := 2) (by decide +kernel)) rfl
theorem q_664 : (Cond.methodLink RX1 117 yX1_lastRowOf) ∈ xALL := wt_2 _ (List.mem_of_getElem? (i := 3) (by decide +kernel)) rfl
theorem q_665 : (Cond.methodLink RX1 120 yX1_runOf) ∈ xALL := wt_2 _ (List.mem_of_getElem? (i := 4) (by decide +kernel)) rfl
theorem q_666 : (Cond.methodLink RL 111 yX4_count) ∈ xALL := wt_3 _ (List.mem_of_getElem? (i := 72) (by decide +kernel)) rfl
theorem q_667 : (Cond.instanceMethod yX4_count) ∈ xALL := wt_3 _ (List.mem_of_getElem? (i := 73) (by decide +kernel)) rfl
theorem q_668 : (Cond.selects RX4 yX4_count yX4_count) ∈ xALL := wt_3 _ (List.mem_of_getElem? (i := 74) (by decide +kernel)) rfl
theorem q_669 : (Cond.code yX4_count cX4_count 2 (some .int)) ∈ xALL := wt_3 _ (List.mem_of_getElem? (i := 75) (by decide +kernel)) rfl
theorem q_670 : (Cond.methodLink RX4 208 yX4_overColumns) ∈ xALL := wt_3 _ (List.mem_of_getElem? (i := 76) (by decide +kernel)) rfl
theorem q_671 : (Cond.instanceMethod yX4_overColumns) ∈ xALL := wt_3 _ (List.mem_of_getElem? (i := 78) (by decide +kernel)) rfl
theorem q_672 : (Cond.selects RX4 yX4_overColumns yX4_overColumns) ∈ xALL := wt_s _ (List.mem_of_getElem? (i := 90) (by decide +kernel)) rfl
theorem q_673 : (Cond.code yX4_overColumns cX4_overColumns 4 (some .int)) ∈ xALL := wt_3 _ (List.mem_of_getElem? (i := 79) (by decide +kernel)) rfl
theorem q_674 : (Cond.methodLink RX4 205 yX4_column) ∈ xALL := wt_3 _ (List.mem_of_getElem? (i := 80) (by decide +kernel)) rfl
theorem q_675 : (Cond.methodLink RX4 211 yX4_allWritten) ∈ xALL := wt_3 _ (List.mem_of_getElem? (i := 81) (by decide +kernel)) rfl
theorem q_676 : (Cond.instanceMethod yX4_allWritten) ∈ xALL := wt_3 _ (List.mem_of_getElem? (i := 83) (by decide +kernel)) rfl
theorem q_677 : (Cond.selects RX4 yX4_allWritten yX4_allWritten) ∈ xALL := wt_s _ (List.mem_of_getElem? (i := 91) (by decide +kernel)) rfl
theorem q_678 : (Cond.code yX4_allWritten cX4_allWritten 3 (some .int)) ∈ xALL := wt_3 _ (List.mem_of_getElem? (i := 84) (by decide +kernel)) rfl
theorem q_679 : (Cond.methodLink RX4 214 yX4_unlike) ∈ xALL := wt_3 _ (List.mem_of_getElem? (i := 85) (by decide +kernel)) rfl
theorem q_680 : (Cond.instanceMethod yX4_unlike) ∈ xALL := wt_3 _ (List.mem_of_getElem? (i := 87) (by decide +kernel)) rfl
theorem q_681 : (Cond.selects RX4 yX4_unlike yX4_unlike) ∈ xALL := wt_s _ (List.mem_of_getElem? (i := 92) (by decide +kernel)) rfl
theorem q_682 : (Cond.code yX4_unlike cX4_unlike 4 (some .int)) ∈ xALL := wt_3 _ (List.mem_of_getElem? (i := 88) (by decide +kernel)) rfl
theorem inX0 : ∀ w ∈ wsX00, w ∈ xALL := List.forall_mem_cons.mpr ⟨wt_0 _ (List.mem_of_getElem? (i := 65) (by decide +kernel)) rfl, List.forall_mem_cons.mpr ⟨wt_0 _ (List.mem_of_getElem? (i := 67) (by decide +kernel)) rfl, List.forall_mem_cons.mpr ⟨wt_0 _ (List.mem_of_getElem? (i := 69) (by decide +kernel)) rfl, fun _ h => absurd h List.not_mem_nil⟩⟩⟩
theorem inX1 : ∀ w ∈ wsX10, w ∈ xALL := List.forall_mem_cons.mpr ⟨wt_0 _ (List.mem_of_getElem? (i := 36) (by decide +kernel)) rfl, List.forall_mem_cons.mpr ⟨wt_0 _ (List.mem_of_getElem? (i := 38) (by decide +kernel)) rfl, List.forall_mem_cons.mpr ⟨wt_0 _ (List.mem_of_getElem? (i := 40) (by decide +kernel)) rfl, List.forall_mem_cons.mpr ⟨wt_0 _ (List.mem_of_getElem? (i := 42) (by decide +kernel)) rfl, List.forall_mem_cons.mpr ⟨wt_0 _ (List.mem_of_getElem? (i := 44) (by decide +kernel)) rfl, List.forall_mem_cons.mpr ⟨wt_0 _ (List.mem_of_getElem? (i := 46) (by decide +kernel)) rfl, List.forall_mem_cons.mpr ⟨wt_0 _ (List.mem_of_getElem? (i := 48) (by decide +kernel)) rfl, fun _ h => absurd h List.not_mem_nil⟩⟩⟩⟩⟩⟩⟩
theorem inX2 : ∀ w ∈ wsX20, w ∈ xALL := List.forall_mem_cons.mpr ⟨wt_0 _ (List.mem_of_getElem? (i := 83) (by decide +kernel)) rfl, List.forall_mem_cons.mpr ⟨wt_0 _ (List.mem_of_getElem? (i := 85) (by decide +kernel)) rfl, List.forall_mem_cons.mpr ⟨wt_0 _ (List.mem_of_getElem? (i := 87) (by decide +kernel)) rfl, List.forall_mem_cons.mpr ⟨wt_0 _ (List.mem_of_getElem? (i := 89) (by decide +kernel)) rfl, fun _ h => absurd h List.not_mem_nil⟩⟩⟩⟩
theorem inX3 : ∀ w ∈ wsX30, w ∈ xALL := List.forall_mem_cons.mpr ⟨wt_0 _ (List.mem_of_getElem? (i := 99) (by decide +kernel)) rfl, List.forall_mem_cons.mpr ⟨wt_0 _ (List.mem_of_getElem? (i := 101) (by decide +kernel)) rfl, List.forall_mem_cons.mpr ⟨wt_0 _ (List.mem_of_getElem? (i := 103) (by decide +kernel)) rfl, List.forall_mem_cons.mpr ⟨wt_0 _ (List.mem_of_getElem? (i := 105) (by decide +kernel)) rfl, List.forall_mem_cons.mpr ⟨wt_0 _ (List.mem_of_getElem? (i := 107) (by decide +kernel)) rfl, List.forall_mem_cons.mpr ⟨wt_0 _ (List.mem_of_getElem? (i := 109) (by decide +kernel)) rfl, fun _ h => absurd h List.not_mem_nil⟩⟩⟩⟩⟩⟩
theorem inX4 : ∀ w ∈ wsX40, w ∈ xALL := List.forall_mem_cons.mpr ⟨wt_2 _ (List.mem_of_getElem? (i := 22) (by decide +kernel)) rfl, List.forall_mem_cons.mpr ⟨wt_2 _ (List.mem_of_getElem? (i := 24) (by decide +kernel)) rfl, List.forall_mem_cons.mpr ⟨wt_2 _ (List.mem_of_getElem? (i := 26) (by decide +kernel)) rfl, List.forall_mem_cons.mpr ⟨wt_2 _ (List.mem_of_getElem? (i := 28) (by decide +kernel)) rfl, List.forall_mem_cons.mpr ⟨wt_2 _ (List.mem_of_getElem? (i := 30) (by decide +kernel)) rfl, List.forall_mem_cons.mpr ⟨wt_2 _ (List.mem_of_getElem? (i := 32) (by decide +kernel)) rfl, List.forall_mem_cons.mpr ⟨wt_2 _ (List.mem_of_getElem? (i := 34) (by decide +kernel)) rfl, List.forall_mem_cons.mpr ⟨wt_2 _ (List.mem_of_getElem? (i := 36) (by decide +kernel)) rfl, List.forall_mem_cons.mpr ⟨wt_2 _ (List.mem_of_getElem? (i := 38) (by decide +kernel)) rfl, List.forall_mem_cons.mpr ⟨wt_2 _ (List.mem_of_getElem? (i := 40) (by decide +kernel)) rfl, List.forall_mem_cons.mpr ⟨wt_2 _ (List.mem_of_getElem? (i := 42) (by decide +kernel)) rfl, fun _ h => absurd h List.not_mem_nil⟩⟩⟩⟩⟩⟩⟩⟩⟩⟩⟩
def xNest : List Cond := [Cond.methodLinkNest RX3 9 yX1_init "DittoLog",
  Cond.fieldLinkNest RX3 45 "DittoLog$Log" "rows" "I" "DittoLog",
  Cond.methodLinkNest RX3 25 yX0_init "DittoLog",
  Cond.methodLinkNest RX0 17 yX1_init "DittoLog",
  Cond.fieldLinkNest RX3 129 "DittoLog$History" "size" "I" "DittoLog",
  Cond.methodLinkNest RX3 32 yX2_init "DittoLog",
  Cond.fieldLinkNest RX3 122 "DittoLog$RowsText" "length" "I" "DittoLog",
  Cond.methodLinkNest RX3 49 yX0_remember "DittoLog",
  Cond.methodLinkNest RX0 29 yX1_copyFrom "DittoLog",
  Cond.methodLinkNest RX1 40 yX3_copyInto "DittoLog",
  Cond.methodLinkNest RX3 53 yX1_appendRow "DittoLog",
  Cond.methodLinkNest RX3 57 yX2_readRows "DittoLog",
  Cond.fieldLinkNest RX2 46 "DittoLog" "COLUMN_MAX" "[I" "DittoLog",
  Cond.methodLinkNest RX2 49 yX3_at "DittoLog",
  Cond.methodLinkNest RX3 61 yX2_rowsRead "DittoLog",
  Cond.methodLinkNest RX3 64 yX2_read "DittoLog",
  Cond.methodLinkNest RX3 68 yX1_dropRow "DittoLog",
  Cond.methodLinkNest RX3 71 yX1_isCell "DittoLog",
  Cond.methodLinkNest RX1 52 yX3_isColumn "DittoLog",
  Cond.methodLinkNest RX3 74 yX1_entriesOf "DittoLog",
  Cond.methodLinkNest RX1 44 yX3_at "DittoLog",
  Cond.methodLinkNest RX3 77 yX1_latestOf "DittoLog",
  Cond.methodLinkNest RX3 80 yX1_changedBy "DittoLog",
  Cond.methodLinkNest RX3 84 yX1_pushEntry "DittoLog",
  Cond.methodLinkNest RX3 88 yX1_entryOf "DittoLog",
  Cond.methodLinkNest RX3 91 yX1_popEntry "DittoLog",
  Cond.methodLinkNest RX3 95 yX1_sumOf "DittoLog",
  Cond.methodLinkNest RX3 99 yX1_writeSum "DittoLog",
  Cond.methodLinkNest RX3 112 yX1_settingOf "DittoLog",
  Cond.methodLinkNest RX3 115 yX1_changeSetting "DittoLog",
  Cond.methodLinkNest RX3 118 yX2_append "DittoLog",
  Cond.methodLinkNest RX3 125 yX0_takeInto "DittoLog",
  Cond.methodLinkNest RX3 132 yX1_copyFrom "DittoLog",
  Cond.methodLinkNest RX3 135 yX1_meaningOf "DittoLog",
  Cond.methodLinkNest RX3 138 yX1_sourceOf "DittoLog",
  Cond.methodLinkNest RX3 141 yX1_chainOf "DittoLog",
  Cond.methodLinkNest RX3 144 yX1_isDoubtful "DittoLog",
  Cond.methodLinkNest RX3 147 yX1_followersOf "DittoLog",
  Cond.methodLinkNest RX3 150 yX1_isRow "DittoLog",
  Cond.methodLinkNest RX3 154 yX1_isWrittenOut "DittoLog",
  Cond.methodLinkNest RX3 160 yX1_countLatest "DittoLog",
  Cond.methodLinkNest RX3 163 yX1_countCorrections "DittoLog",
  Cond.methodLinkNest RX3 166 yX1_countMeaningless "DittoLog",
  Cond.methodLinkNest RX3 169 yX1_longestChain "DittoLog",
  Cond.methodLinkNest RX3 175 yX1_countDoubtful "DittoLog",
  Cond.methodLinkNest RX3 178 yX1_watches "DittoLog",
  Cond.methodLinkNest RX3 181 yX1_firstRowOf "DittoLog",
  Cond.methodLinkNest RX3 184 yX1_lastRowOf "DittoLog",
  Cond.methodLinkNest RX3 187 yX1_runOf "DittoLog",
  Cond.methodLinkNest RX3 193 yX1_areRows "DittoLog",
  Cond.methodLinkNest RX3 196 yX1_wayOf "DittoLog",
  Cond.methodLinkNest RX1 125 yX3_wayNorth "DittoLog",
  Cond.methodLinkNest RX3 212 yX1_countWrittenOut "DittoLog",
  Cond.methodLinkNest RX3 215 yX1_countWrongSums "DittoLog"]
theorem xt_0 : ∀ w ∈ tables_1_1, w ∈ lw_tbl := fun _ h => List.mem_append_right _ (List.mem_append_left _ h)
theorem xt_1 : ∀ w ∈ tables_1_2, w ∈ lw_tbl := fun _ h => List.mem_append_right _ (List.mem_append_right _ (List.mem_append_left _ h))
theorem xt_2 : ∀ w ∈ tables_1_3, w ∈ lw_tbl := fun _ h => List.mem_append_right _ (List.mem_append_right _ (List.mem_append_right _ (List.mem_append_left _ h)))
theorem xt_3 : ∀ w ∈ tables_1_4, w ∈ lw_tbl := fun _ h => List.mem_append_right _ (List.mem_append_right _ (List.mem_append_right _ (List.mem_append_right _ (h))))
theorem xn_0 : (Cond.methodLinkNest RX3 9 yX1_init "DittoLog") ∈ lw_tbl := xt_0 _ (List.mem_of_getElem? (i := 21) (by decide +kernel))
theorem xn_1 : (Cond.fieldLinkNest RX3 45 "DittoLog$Log" "rows" "I" "DittoLog") ∈ lw_tbl := xt_0 _ (List.mem_of_getElem? (i := 32) (by decide +kernel))
theorem xn_2 : (Cond.methodLinkNest RX3 25 yX0_init "DittoLog") ∈ lw_tbl := xt_0 _ (List.mem_of_getElem? (i := 54) (by decide +kernel))
theorem xn_3 : (Cond.methodLinkNest RX0 17 yX1_init "DittoLog") ∈ lw_tbl := xt_0 _ (List.mem_of_getElem? (i := 60) (by decide +kernel))
theorem xn_4 : (Cond.fieldLinkNest RX3 129 "DittoLog$History" "size" "I" "DittoLog") ∈ lw_tbl := xt_0 _ (List.mem_of_getElem? (i := 64) (by decide +kernel))
theorem xn_5 : (Cond.methodLinkNest RX3 32 yX2_init "DittoLog") ∈ lw_tbl := xt_0 _ (List.mem_of_getElem? (i := 74) (by decide +kernel))
theorem xn_6 : (Cond.fieldLinkNest RX3 122 "DittoLog$RowsText" "length" "I" "DittoLog") ∈ lw_tbl := xt_0 _ (List.mem_of_getElem? (i := 81) (by decide +kernel))
theorem xn_7 : (Cond.methodLinkNest RX3 49 yX0_remember "DittoLog") ∈ lw_tbl := xt_0 _ (List.mem_of_getElem? (i := 124) (by decide +kernel))
theorem xn_8 : (Cond.methodLinkNest RX0 29 yX1_copyFrom "DittoLog") ∈ lw_tbl := xt_0 _ (List.mem_of_getElem? (i := 132) (by decide +kernel))
theorem xn_9 : (Cond.methodLinkNest RX1 40 yX3_copyInto "DittoLog") ∈ lw_tbl := xt_0 _ (List.mem_of_getElem? (i := 136) (by decide +kernel))
theorem xn_10 : (Cond.methodLinkNest RX3 53 yX1_appendRow "DittoLog") ∈ lw_tbl := xt_0 _ (List.mem_of_getElem? (i := 145) (by decide +kernel))
theorem xn_11 : (Cond.methodLinkNest RX3 57 yX2_readRows "DittoLog") ∈ lw_tbl := xt_0 _ (List.mem_of_getElem? (i := 161) (by decide +kernel))
theorem xn_12 : (Cond.fieldLinkNest RX2 46 "DittoLog" "COLUMN_MAX" "[I" "DittoLog") ∈ lw_tbl := xt_0 _ (List.mem_of_getElem? (i := 173) (by decide +kernel))
theorem xn_13 : (Cond.methodLinkNest RX2 49 yX3_at "DittoLog") ∈ lw_tbl := xt_0 _ (List.mem_of_getElem? (i := 178) (by decide +kernel))
theorem xn_14 : (Cond.methodLinkNest RX3 61 yX2_rowsRead "DittoLog") ∈ lw_tbl := xt_0 _ (List.mem_of_getElem? (i := 187) (by decide +kernel))
theorem xn_15 : (Cond.methodLinkNest RX3 64 yX2_read "DittoLog") ∈ lw_tbl := xt_0 _ (List.mem_of_getElem? (i := 191) (by decide +kernel))
theorem xn_16 : (Cond.methodLinkNest RX3 68 yX1_dropRow "DittoLog") ∈ lw_tbl := xt_0 _ (List.mem_of_getElem? (i := 199) (by decide +kernel))
theorem xn_17 : (Cond.methodLinkNest RX3 71 yX1_isCell "DittoLog") ∈ lw_tbl := xt_0 _ (List.mem_of_getElem? (i := 207) (by decide +kernel))
theorem xn_18 : (Cond.methodLinkNest RX1 52 yX3_isColumn "DittoLog") ∈ lw_tbl := xt_0 _ (List.mem_of_getElem? (i := 215) (by decide +kernel))
theorem xn_19 : (Cond.methodLinkNest RX3 74 yX1_entriesOf "DittoLog") ∈ lw_tbl := xt_0 _ (List.mem_of_getElem? (i := 218) (by decide +kernel))
theorem xn_20 : (Cond.methodLinkNest RX1 44 yX3_at "DittoLog") ∈ lw_tbl := xt_0 _ (List.mem_of_getElem? (i := 222) (by decide +kernel))
theorem xn_21 : (Cond.methodLinkNest RX3 77 yX1_latestOf "DittoLog") ∈ lw_tbl := xt_0 _ (List.mem_of_getElem? (i := 223) (by decide +kernel))
theorem xn_22 : (Cond.methodLinkNest RX3 80 yX1_changedBy "DittoLog") ∈ lw_tbl := xt_0 _ (List.mem_of_getElem? (i := 227) (by decide +kernel))
theorem xn_23 : (Cond.methodLinkNest RX3 84 yX1_pushEntry "DittoLog") ∈ lw_tbl := xt_1 _ (List.mem_of_getElem? (i := 16) (by decide +kernel))
theorem xn_24 : (Cond.methodLinkNest RX3 88 yX1_entryOf "DittoLog") ∈ lw_tbl := xt_1 _ (List.mem_of_getElem? (i := 21) (by decide +kernel))
theorem xn_25 : (Cond.methodLinkNest RX3 91 yX1_popEntry "DittoLog") ∈ lw_tbl := xt_1 _ (List.mem_of_getElem? (i := 25) (by decide +kernel))
theorem xn_26 : (Cond.methodLinkNest RX3 95 yX1_sumOf "DittoLog") ∈ lw_tbl := xt_1 _ (List.mem_of_getElem? (i := 33) (by decide +kernel))
theorem xn_27 : (Cond.methodLinkNest RX3 99 yX1_writeSum "DittoLog") ∈ lw_tbl := xt_1 _ (List.mem_of_getElem? (i := 37) (by decide +kernel))
theorem xn_28 : (Cond.methodLinkNest RX3 112 yX1_settingOf "DittoLog") ∈ lw_tbl := xt_1 _ (List.mem_of_getElem? (i := 49) (by decide +kernel))
theorem xn_29 : (Cond.methodLinkNest RX3 115 yX1_changeSetting "DittoLog") ∈ lw_tbl := xt_1 _ (List.mem_of_getElem? (i := 53) (by decide +kernel))
theorem xn_30 : (Cond.methodLinkNest RX3 118 yX2_append "DittoLog") ∈ lw_tbl := xt_1 _ (List.mem_of_getElem? (i := 61) (by decide +kernel))
theorem xn_31 : (Cond.methodLinkNest RX3 125 yX0_takeInto "DittoLog") ∈ lw_tbl := xt_1 _ (List.mem_of_getElem? (i := 73) (by decide +kernel))
theorem xn_32 : (Cond.methodLinkNest RX3 132 yX1_copyFrom "DittoLog") ∈ lw_tbl := xt_1 _ (List.mem_of_getElem? (i := 81) (by decide +kernel))
theorem xn_33 : (Cond.methodLinkNest RX3 135 yX1_meaningOf "DittoLog") ∈ lw_tbl := xt_1 _ (List.mem_of_getElem? (i := 90) (by decide +kernel))
theorem xn_34 : (Cond.methodLinkNest RX3 138 yX1_sourceOf "DittoLog") ∈ lw_tbl := xt_1 _ (List.mem_of_getElem? (i := 91) (by decide +kernel))
theorem xn_35 : (Cond.methodLinkNest RX3 141 yX1_chainOf "DittoLog") ∈ lw_tbl := xt_1 _ (List.mem_of_getElem? (i := 95) (by decide +kernel))
theorem xn_36 : (Cond.methodLinkNest RX3 144 yX1_isDoubtful "DittoLog") ∈ lw_tbl := xt_1 _ (List.mem_of_getElem? (i := 99) (by decide +kernel))
theorem xn_37 : (Cond.methodLinkNest RX3 147 yX1_followersOf "DittoLog") ∈ lw_tbl := xt_1 _ (List.mem_of_getElem? (i := 104) (by decide +kernel))
theorem xn_38 : (Cond.methodLinkNest RX3 150 yX1_isRow "DittoLog") ∈ lw_tbl := xt_1 _ (List.mem_of_getElem? (i := 113) (by decide +kernel))
theorem xn_39 : (Cond.methodLinkNest RX3 154 yX1_isWrittenOut "DittoLog") ∈ lw_tbl := xt_1 _ (List.mem_of_getElem? (i := 114) (by decide +kernel))
theorem xn_40 : (Cond.methodLinkNest RX3 160 yX1_countLatest "DittoLog") ∈ lw_tbl := xt_1 _ (List.mem_of_getElem? (i := 123) (by decide +kernel))
theorem xn_41 : (Cond.methodLinkNest RX3 163 yX1_countCorrections "DittoLog") ∈ lw_tbl := xt_1 _ (List.mem_of_getElem? (i := 127) (by decide +kernel))
theorem xn_42 : (Cond.methodLinkNest RX3 166 yX1_countMeaningless "DittoLog") ∈ lw_tbl := xt_1 _ (List.mem_of_getElem? (i := 131) (by decide +kernel))
theorem xn_43 : (Cond.methodLinkNest RX3 169 yX1_longestChain "DittoLog") ∈ lw_tbl := xt_1 _ (List.mem_of_getElem? (i := 135) (by decide +kernel))
theorem xn_44 : (Cond.methodLinkNest RX3 175 yX1_countDoubtful "DittoLog") ∈ lw_tbl := xt_1 _ (List.mem_of_getElem? (i := 148) (by decide +kernel))
theorem xn_45 : (Cond.methodLinkNest RX3 178 yX1_watches "DittoLog") ∈ lw_tbl := xt_1 _ (List.mem_of_getElem? (i := 157) (by decide +kernel))
theorem xn_46 : (Cond.methodLinkNest RX3 181 yX1_firstRowOf "DittoLog") ∈ lw_tbl := xt_1 _ (List.mem_of_getElem? (i := 161) (by decide +kernel))
theorem xn_47 : (Cond.methodLinkNest RX3 184 yX1_lastRowOf "DittoLog") ∈ lw_tbl := xt_1 _ (List.mem_of_getElem? (i := 165) (by decide +kernel))
theorem xn_48 : (Cond.methodLinkNest RX3 187 yX1_runOf "DittoLog") ∈ lw_tbl := xt_1 _ (List.mem_of_getElem? (i := 170) (by decide +kernel))
theorem xn_49 : (Cond.methodLinkNest RX3 193 yX1_areRows "DittoLog") ∈ lw_tbl := xt_1 _ (List.mem_of_getElem? (i := 186) (by decide +kernel))
theorem xn_50 : (Cond.methodLinkNest RX3 196 yX1_wayOf "DittoLog") ∈ lw_tbl := xt_1 _ (List.mem_of_getElem? (i := 190) (by decide +kernel))
theorem xn_51 : (Cond.methodLinkNest RX1 125 yX3_wayNorth "DittoLog") ∈ lw_tbl := xt_1 _ (List.mem_of_getElem? (i := 195) (by decide +kernel))
theorem xn_52 : (Cond.methodLinkNest RX3 212 yX1_countWrittenOut "DittoLog") ∈ lw_tbl := xt_1 _ (List.mem_of_getElem? (i := 231) (by decide +kernel))
theorem xn_53 : (Cond.methodLinkNest RX3 215 yX1_countWrongSums "DittoLog") ∈ lw_tbl := xt_1 _ (List.mem_of_getElem? (i := 236) (by decide +kernel))
theorem xNest_tbl : ∀ w ∈ xNest, w ∈ lw_tbl := List.forall_mem_cons.mpr ⟨xn_0, List.forall_mem_cons.mpr ⟨xn_1, List.forall_mem_cons.mpr ⟨xn_2, List.forall_mem_cons.mpr ⟨xn_3, List.forall_mem_cons.mpr ⟨xn_4, List.forall_mem_cons.mpr ⟨xn_5, List.forall_mem_cons.mpr ⟨xn_6, List.forall_mem_cons.mpr ⟨xn_7, List.forall_mem_cons.mpr ⟨xn_8, List.forall_mem_cons.mpr ⟨xn_9, List.forall_mem_cons.mpr ⟨xn_10, List.forall_mem_cons.mpr ⟨xn_11, List.forall_mem_cons.mpr ⟨xn_12, List.forall_mem_cons.mpr ⟨xn_13, List.forall_mem_cons.mpr ⟨xn_14, List.forall_mem_cons.mpr ⟨xn_15, List.forall_mem_cons.mpr ⟨xn_16, List.forall_mem_cons.mpr ⟨xn_17, List.forall_mem_cons.mpr ⟨xn_18, List.forall_mem_cons.mpr ⟨xn_19, List.forall_mem_cons.mpr ⟨xn_20, List.forall_mem_cons.mpr ⟨xn_21, List.forall_mem_cons.mpr ⟨xn_22, List.forall_mem_cons.mpr ⟨xn_23, List.forall_mem_cons.mpr ⟨xn_24, List.forall_mem_cons.mpr ⟨xn_25, List.forall_mem_cons.mpr ⟨xn_26, List.forall_mem_cons.mpr ⟨xn_27, List.forall_mem_cons.mpr ⟨xn_28, List.forall_mem_cons.mpr ⟨xn_29, List.forall_mem_cons.mpr ⟨xn_30, List.forall_mem_cons.mpr ⟨xn_31, List.forall_mem_cons.mpr ⟨xn_32, List.forall_mem_cons.mpr ⟨xn_33, List.forall_mem_cons.mpr ⟨xn_34, List.forall_mem_cons.mpr ⟨xn_35, List.forall_mem_cons.mpr ⟨xn_36, List.forall_mem_cons.mpr ⟨xn_37, List.forall_mem_cons.mpr ⟨xn_38, List.forall_mem_cons.mpr ⟨xn_39, List.forall_mem_cons.mpr ⟨xn_40, List.forall_mem_cons.mpr ⟨xn_41, List.forall_mem_cons.mpr ⟨xn_42, List.forall_mem_cons.mpr ⟨xn_43, List.forall_mem_cons.mpr ⟨xn_44, List.forall_mem_cons.mpr ⟨xn_45, List.forall_mem_cons.mpr ⟨xn_46, List.forall_mem_cons.mpr ⟨xn_47, List.forall_mem_cons.mpr ⟨xn_48, List.forall_mem_cons.mpr ⟨xn_49, List.forall_mem_cons.mpr ⟨xn_50, List.forall_mem_cons.mpr ⟨xn_51, List.forall_mem_cons.mpr ⟨xn_52, List.forall_mem_cons.mpr ⟨xn_53, fun _ h => absurd h List.not_mem_nil⟩⟩⟩⟩⟩⟩⟩⟩⟩⟩⟩⟩⟩⟩⟩⟩⟩⟩⟩⟩⟩⟩⟩⟩⟩⟩⟩⟩⟩⟩⟩⟩⟩⟩⟩⟩⟩⟩⟩⟩⟩⟩⟩⟩⟩⟩⟩⟩⟩⟩⟩⟩⟩⟩
theorem n_0 : (Cond.methodLinkNest RX3 9 yX1_init "DittoLog") ∈ xNest := List.mem_of_getElem? (i := 0) rfl
theorem n_1 : (Cond.fieldLinkNest RX3 45 "DittoLog$Log" "rows" "I" "DittoLog") ∈ xNest := List.mem_of_getElem? (i := 1) rfl
theorem n_2 : (Cond.methodLinkNest RX3 25 yX0_init "DittoLog") ∈ xNest := List.mem_of_getElem? (i := 2) rfl
theorem n_3 : (Cond.methodLinkNest RX0 17 yX1_init "DittoLog") ∈ xNest := List.mem_of_getElem? (i := 3) rfl
theorem n_4 : (Cond.fieldLinkNest RX3 129 "DittoLog$History" "size" "I" "DittoLog") ∈ xNest := List.mem_of_getElem? (i := 4) rfl
theorem n_5 : (Cond.methodLinkNest RX3 32 yX2_init "DittoLog") ∈ xNest := List.mem_of_getElem? (i := 5) rfl
theorem n_6 : (Cond.fieldLinkNest RX3 122 "DittoLog$RowsText" "length" "I" "DittoLog") ∈ xNest := List.mem_of_getElem? (i := 6) rfl
theorem n_7 : (Cond.methodLinkNest RX3 49 yX0_remember "DittoLog") ∈ xNest := List.mem_of_getElem? (i := 7) rfl
theorem n_8 : (Cond.methodLinkNest RX0 29 yX1_copyFrom "DittoLog") ∈ xNest := List.mem_of_getElem? (i := 8) rfl
theorem n_9 : (Cond.methodLinkNest RX1 40 yX3_copyInto "DittoLog") ∈ xNest := List.mem_of_getElem? (i := 9) rfl
theorem n_10 : (Cond.methodLinkNest RX3 53 yX1_appendRow "DittoLog") ∈ xNest := List.mem_of_getElem? (i := 10) rfl
theorem n_11 : (Cond.methodLinkNest RX3 57 yX2_readRows "DittoLog") ∈ xNest := List.mem_of_getElem? (i := 11) rfl
theorem n_12 : (Cond.fieldLinkNest RX2 46 "DittoLog" "COLUMN_MAX" "[I" "DittoLog") ∈ xNest := List.mem_of_getElem? (i := 12) rfl
theorem n_13 : (Cond.methodLinkNest RX2 49 yX3_at "DittoLog") ∈ xNest := List.mem_of_getElem? (i := 13) rfl
theorem n_14 : (Cond.methodLinkNest RX3 61 yX2_rowsRead "DittoLog") ∈ xNest := List.mem_of_getElem? (i := 14) rfl
theorem n_15 : (Cond.methodLinkNest RX3 64 yX2_read "DittoLog") ∈ xNest := List.mem_of_getElem? (i := 15) rfl
theorem n_16 : (Cond.methodLinkNest RX3 68 yX1_dropRow "DittoLog") ∈ xNest := List.mem_of_getElem? (i := 16) rfl
theorem n_17 : (Cond.methodLinkNest RX3 71 yX1_isCell "DittoLog") ∈ xNest := List.mem_of_getElem? (i := 17) rfl
theorem n_18 : (Cond.methodLinkNest RX1 52 yX3_isColumn "DittoLog") ∈ xNest := List.mem_of_getElem? (i := 18) rfl
theorem n_19 : (Cond.methodLinkNest RX3 74 yX1_entriesOf "DittoLog") ∈ xNest := List.mem_of_getElem? (i := 19) rfl
theorem n_20 : (Cond.methodLinkNest RX1 44 yX3_at "DittoLog") ∈ xNest := List.mem_of_getElem? (i := 20) rfl
theorem n_21 : (Cond.methodLinkNest RX3 77 yX1_latestOf "DittoLog") ∈ xNest := List.mem_of_getElem? (i := 21) rfl
theorem n_22 : (Cond.methodLinkNest RX3 80 yX1_changedBy "DittoLog") ∈ xNest := List.mem_of_getElem? (i := 22) rfl
theorem n_23 : (Cond.methodLinkNest RX3 84 yX1_pushEntry "DittoLog") ∈ xNest := List.mem_of_getElem? (i := 23) rfl
theorem n_24 : (Cond.methodLinkNest RX3 88 yX1_entryOf "DittoLog") ∈ xNest := List.mem_of_getElem? (i := 24) rfl
theorem n_25 : (Cond.methodLinkNest RX3 91 yX1_popEntry "DittoLog") ∈ xNest := List.mem_of_getElem? (i := 25) rfl
theorem n_26 : (Cond.methodLinkNest RX3 95 yX1_sumOf "DittoLog") ∈ xNest := List.mem_of_getElem? (i := 26) rfl
theorem n_27 : (Cond.methodLinkNest RX3 99 yX1_writeSum "DittoLog") ∈ xNest := List.mem_of_getElem? (i := 27) rfl
theorem n_28 : (Cond.methodLinkNest RX3 112 yX1_settingOf "DittoLog") ∈ xNest := List.mem_of_getElem? (i := 28) rfl
theorem n_29 : (Cond.methodLinkNest RX3 115 yX1_changeSetting "DittoLog") ∈ xNest := List.mem_of_getElem? (i := 29) rfl
theorem n_30 : (Cond.methodLinkNest RX3 118 yX2_append "DittoLog") ∈ xNest := List.mem_of_getElem? (i := 30) rfl
theorem n_31 : (Cond.methodLinkNest RX3 125 yX0_takeInto "DittoLog") ∈ xNest := List.mem_of_getElem? (i := 31) rfl
theorem n_32 : (Cond.methodLinkNest RX3 132 yX1_copyFrom "DittoLog") ∈ xNest := List.mem_of_getElem? (i := 32) rfl
theorem n_33 : (Cond.methodLinkNest RX3 135 yX1_meaningOf "DittoLog") ∈ xNest := List.mem_of_getElem? (i := 33) rfl
theorem n_34 : (Cond.methodLinkNest RX3 138 yX1_sourceOf "DittoLog") ∈ xNest := List.mem_of_getElem? (i := 34) rfl
theorem n_35 : (Cond.methodLinkNest RX3 141 yX1_chainOf "DittoLog") ∈ xNest := List.mem_of_getElem? (i := 35) rfl
theorem n_36 : (Cond.methodLinkNest RX3 144 yX1_isDoubtful "DittoLog") ∈ xNest := List.mem_of_getElem? (i := 36) rfl
theorem n_37 : (Cond.methodLinkNest RX3 147 yX1_followersOf "DittoLog") ∈ xNest := List.mem_of_getElem? (i := 37) rfl
theorem n_38 : (Cond.methodLinkNest RX3 150 yX1_isRow "DittoLog") ∈ xNest := List.mem_of_getElem? (i := 38) rfl
theorem n_39 : (Cond.methodLinkNest RX3 154 yX1_isWrittenOut "DittoLog") ∈ xNest := List.mem_of_getElem? (i := 39) rfl
theorem n_40 : (Cond.methodLinkNest RX3 160 yX1_countLatest "DittoLog") ∈ xNest := List.mem_of_getElem? (i := 40) rfl
theorem n_41 : (Cond.methodLinkNest RX3 163 yX1_countCorrections "DittoLog") ∈ xNest := List.mem_of_getElem? (i := 41) rfl
theorem n_42 : (Cond.methodLinkNest RX3 166 yX1_countMeaningless "DittoLog") ∈ xNest := List.mem_of_getElem? (i := 42) rfl
theorem n_43 : (Cond.methodLinkNest RX3 169 yX1_longestChain "DittoLog") ∈ xNest := List.mem_of_getElem? (i := 43) rfl
theorem n_44 : (Cond.methodLinkNest RX3 175 yX1_countDoubtful "DittoLog") ∈ xNest := List.mem_of_getElem? (i := 44) rfl
theorem n_45 : (Cond.methodLinkNest RX3 178 yX1_watches "DittoLog") ∈ xNest := List.mem_of_getElem? (i := 45) rfl
theorem n_46 : (Cond.methodLinkNest RX3 181 yX1_firstRowOf "DittoLog") ∈ xNest := List.mem_of_getElem? (i := 46) rfl
theorem n_47 : (Cond.methodLinkNest RX3 184 yX1_lastRowOf "DittoLog") ∈ xNest := List.mem_of_getElem? (i := 47) rfl
theorem n_48 : (Cond.methodLinkNest RX3 187 yX1_runOf "DittoLog") ∈ xNest := List.mem_of_getElem? (i := 48) rfl
theorem n_49 : (Cond.methodLinkNest RX3 193 yX1_areRows "DittoLog") ∈ xNest := List.mem_of_getElem? (i := 49) rfl
theorem n_50 : (Cond.methodLinkNest RX3 196 yX1_wayOf "DittoLog") ∈ xNest := List.mem_of_getElem? (i := 50) rfl
theorem n_51 : (Cond.methodLinkNest RX1 125 yX3_wayNorth "DittoLog") ∈ xNest := List.mem_of_getElem? (i := 51) rfl
theorem n_52 : (Cond.methodLinkNest RX3 212 yX1_countWrittenOut "DittoLog") ∈ xNest := List.mem_of_getElem? (i := 52) rfl
theorem n_53 : (Cond.methodLinkNest RX3 215 yX1_countWrongSums "DittoLog") ∈ xNest := List.mem_of_getElem? (i := 53) rfl
end
section
theorem dX0_init_0 : decode cX0_init 0 = .ok (.aload_n 0, 1) := by decide +kernel
theorem dX0_init_1 : decode cX0_init 1 = .ok (.invokespecial 3, 3) := by decide +kernel
theorem dX0_init_4 : decode cX0_init 4 = .ok (.aload_n 0, 1) := by decide +kernel
theorem dX0_init_5 : decode cX0_init 5 = .ok (.iconst 4, 1) := by decide +kernel
theorem dX0_init_6 : decode cX0_init 6 = .ok (.anewarray 9, 3) := by decide +kernel
theorem dX0_init_9 : decode cX0_init 9 = .ok (.putfield 11, 3) := by decide +kernel
theorem dX0_init_12 : decode cX0_init 12 = .ok (.iconst 0, 1) := by decide +kernel
theorem dX0_init_13 : decode cX0_init 13 = .ok (.istore_n 1, 1) := by decide +kernel
theorem dX0_init_14 : decode cX0_init 14 = .ok (.iload_n 1, 1) := by decide +kernel
theorem dX0_init_15 : decode cX0_init 15 = .ok (.aload_n 0, 1) := by decide +kernel
theorem dX0_init_16 : decode cX0_init 16 = .ok (.getfield 11, 3) := by decide +kernel
theorem dX0_init_19 : decode cX0_init 19 = .ok (.arraylength, 1) := by decide +kernel
theorem dX0_init_20 : decode cX0_init 20 = .ok (.if_icmp .ge 22, 3) := by decide +kernel
theorem dX0_init_23 : decode cX0_init 23 = .ok (.aload_n 0, 1) := by decide +kernel
theorem dX0_init_24 : decode cX0_init 24 = .ok (.getfield 11, 3) := by decide +kernel
theorem dX0_init_27 : decode cX0_init 27 = .ok (.iload_n 1, 1) := by decide +kernel
theorem dX0_init_28 : decode cX0_init 28 = .ok (.new 9, 3) := by decide +kernel
theorem dX0_init_31 : decode cX0_init 31 = .ok (.dup, 1) := by decide +kernel
theorem dX0_init_32 : decode cX0_init 32 = .ok (.invokespecial 17, 3) := by decide +kernel
theorem dX0_init_35 : decode cX0_init 35 = .ok (.aastore, 1) := by decide +kernel
theorem dX0_init_36 : decode cX0_init 36 = .ok (.iinc 1 1, 3) := by decide +kernel
theorem dX0_init_39 : decode cX0_init 39 = .ok (.goto (-25), 3) := by decide +kernel
theorem dX0_init_42 : decode cX0_init 42 = .ok (.aload_n 0, 1) := by decide +kernel
theorem dX0_init_43 : decode cX0_init 43 = .ok (.iconst 0, 1) := by decide +kernel
theorem dX0_init_44 : decode cX0_init 44 = .ok (.putfield 18, 3) := by decide +kernel
theorem dX0_init_47 : decode cX0_init 47 = .ok (.aload_n 0, 1) := by decide +kernel
theorem dX0_init_48 : decode cX0_init 48 = .ok (.iconst 0, 1) := by decide +kernel
theorem dX0_init_49 : decode cX0_init 49 = .ok (.putfield 22, 3) := by decide +kernel
theorem dX0_init_52 : decode cX0_init 52 = .ok (.return_, 1) := by decide +kernel
theorem dX0_remember_0 : decode cX0_remember 0 = .ok (.aload_n 0, 1) := by decide +kernel
theorem dX0_remember_1 : decode cX0_remember 1 = .ok (.getfield 22, 3) := by decide +kernel
theorem dX0_remember_4 : decode cX0_remember 4 = .ok (.iconst 4, 1) := by decide +kernel
theorem dX0_remember_5 : decode cX0_remember 5 = .ok (.if_icmp .ge 16, 3) := by decide +kernel
theorem dX0_remember_8 : decode cX0_remember 8 = .ok (.aload_n 0, 1) := by decide +kernel
theorem dX0_remember_9 : decode cX0_remember 9 = .ok (.dup, 1) := by decide +kernel
theorem dX0_remember_10 : decode cX0_remember 10 = .ok (.getfield 22, 3) := by decide +kernel
theorem dX0_remember_13 : decode cX0_remember 13 = .ok (.iconst 1, 1) := by decide +kernel
theorem dX0_remember_14 : decode cX0_remember 14 = .ok (.iadd, 1) := by decide +kernel
theorem dX0_remember_15 : decode cX0_remember 15 = .ok (.putfield 22, 3) := by decide +kernel
theorem dX0_remember_18 : decode cX0_remember 18 = .ok (.goto 15, 3) := by decide +kernel
theorem dX0_remember_21 : decode cX0_remember 21 = .ok (.aload_n 0, 1) := by decide +kernel
theorem dX0_remember_22 : decode cX0_remember 22 = .ok (.aload_n 0, 1) := by decide +kernel
theorem dX0_remember_23 : decode cX0_remember 23 = .ok (.getfield 18, 3) := by decide +kernel
theorem dX0_remember_26 : decode cX0_remember 26 = .ok (.iconst 1, 1) := by decide +kernel
theorem dX0_remember_27 : decode cX0_remember 27 = .ok (.iadd, 1) := by decide +kernel
theorem dX0_remember_28 : decode cX0_remember 28 = .ok (.iconst 4, 1) := by decide +kernel
theorem dX0_remember_29 : decode cX0_remember 29 = .ok (.irem, 1) := by decide +kernel
theorem dX0_remember_30 : decode cX0_remember 30 = .ok (.putfield 18, 3) := by decide +kernel
theorem dX0_remember_33 : decode cX0_remember 33 = .ok (.aload_n 0, 1) := by decide +kernel
theorem dX0_remember_34 : decode cX0_remember 34 = .ok (.invokevirtual 25, 3) := by decide +kernel
theorem dX0_remember_37 : decode cX0_remember 37 = .ok (.astore_n 2, 1) := by decide +kernel
theorem dX0_remember_38 : decode cX0_remember 38 = .ok (.aload_n 2, 1) := by decide +kernel
theorem dX0_remember_39 : decode cX0_remember 39 = .ok (.ifnull 8, 3) := by decide +kernel
theorem dX0_remember_42 : decode cX0_remember 42 = .ok (.aload_n 2, 1) := by decide +kernel
theorem dX0_remember_43 : decode cX0_remember 43 = .ok (.aload_n 1, 1) := by decide +kernel
theorem dX0_remember_44 : decode cX0_remember 44 = .ok (.invokevirtual 29, 3) := by decide +kernel
theorem dX0_remember_47 : decode cX0_remember 47 = .ok (.return_, 1) := by decide +kernel
theorem dX0_takeInto_0 : decode cX0_takeInto 0 = .ok (.aload_n 0, 1) := by decide +kernel
theorem dX0_takeInto_1 : decode cX0_takeInto 1 = .ok (.getfield 22, 3) := by decide +kernel
theorem dX0_takeInto_4 : decode cX0_takeInto 4 = .ok (.ifCond .gt 5, 3) := by decide +kernel
theorem dX0_takeInto_7 : decode cX0_takeInto 7 = .ok (.iconst 0, 1) := by decide +kernel
theorem dX0_takeInto_8 : decode cX0_takeInto 8 = .ok (.ireturn, 1) := by decide +kernel
theorem dX0_takeInto_9 : decode cX0_takeInto 9 = .ok (.aload_n 0, 1) := by decide +kernel
theorem dX0_takeInto_10 : decode cX0_takeInto 10 = .ok (.invokevirtual 25, 3) := by decide +kernel
theorem dX0_takeInto_13 : decode cX0_takeInto 13 = .ok (.astore_n 2, 1) := by decide +kernel
theorem dX0_takeInto_14 : decode cX0_takeInto 14 = .ok (.aload_n 2, 1) := by decide +kernel
theorem dX0_takeInto_15 : decode cX0_takeInto 15 = .ok (.ifnull 8, 3) := by decide +kernel
theorem dX0_takeInto_18 : decode cX0_takeInto 18 = .ok (.aload_n 1, 1) := by decide +kernel
theorem dX0_takeInto_19 : decode cX0_takeInto 19 = .ok (.aload_n 2, 1) := by decide +kernel
theorem dX0_takeInto_20 : decode cX0_takeInto 20 = .ok (.invokevirtual 29, 3) := by decide +kernel
theorem dX0_takeInto_23 : decode cX0_takeInto 23 = .ok (.aload_n 0, 1) := by decide +kernel
theorem dX0_takeInto_24 : decode cX0_takeInto 24 = .ok (.dup, 1) := by decide +kernel
theorem dX0_takeInto_25 : decode cX0_takeInto 25 = .ok (.getfield 22, 3) := by decide +kernel
theorem dX0_takeInto_28 : decode cX0_takeInto 28 = .ok (.iconst 1, 1) := by decide +kernel
theorem dX0_takeInto_29 : decode cX0_takeInto 29 = .ok (.isub, 1) := by decide +kernel
theorem dX0_takeInto_30 : decode cX0_takeInto 30 = .ok (.putfield 22, 3) := by decide +kernel
theorem dX0_takeInto_33 : decode cX0_takeInto 33 = .ok (.iconst 1, 1) := by decide +kernel
theorem dX0_takeInto_34 : decode cX0_takeInto 34 = .ok (.ireturn, 1) := by decide +kernel
theorem dX0_latest_0 : decode cX0_latest 0 = .ok (.aload_n 0, 1) := by decide +kernel
theorem dX0_latest_1 : decode cX0_latest 1 = .ok (.getfield 18, 3) := by decide +kernel
theorem dX0_latest_4 : decode cX0_latest 4 = .ok (.aload_n 0, 1) := by decide +kernel
theorem dX0_latest_5 : decode cX0_latest 5 = .ok (.getfield 22, 3) := by decide +kernel
theorem dX0_latest_8 : decode cX0_latest 8 = .ok (.iadd, 1) := by decide +kernel
theorem dX0_latest_9 : decode cX0_latest 9 = .ok (.iconst 1, 1) := by decide +kernel
theorem dX0_latest_10 : decode cX0_latest 10 = .ok (.isub, 1) := by decide +kernel
theorem dX0_latest_11 : decode cX0_latest 11 = .ok (.iconst 4, 1) := by decide +kernel
theorem dX0_latest_12 : decode cX0_latest 12 = .ok (.irem, 1) := by decide +kernel
theorem dX0_latest_13 : decode cX0_latest 13 = .ok (.istore_n 1, 1) := by decide +kernel
theorem dX0_latest_14 : decode cX0_latest 14 = .ok (.iload_n 1, 1) := by decide +kernel
theorem dX0_latest_15 : decode cX0_latest 15 = .ok (.ifCond .lt 21, 3) := by decide +kernel
theorem dX0_latest_18 : decode cX0_latest 18 = .ok (.iload_n 1, 1) := by decide +kernel
theorem dX0_latest_19 : decode cX0_latest 19 = .ok (.aload_n 0, 1) := by decide +kernel
theorem dX0_latest_20 : decode cX0_latest 20 = .ok (.getfield 11, 3) := by decide +kernel
theorem dX0_latest_23 : decode cX0_latest 23 = .ok (.arraylength, 1) := by decide +kernel
theorem dX0_latest_24 : decode cX0_latest 24 = .ok (.if_icmp .ge 12, 3) := by decide +kernel
theorem dX0_latest_27 : decode cX0_latest 27 = .ok (.aload_n 0, 1) := by decide +kernel
theorem dX0_latest_28 : decode cX0_latest 28 = .ok (.getfield 11, 3) := by decide +kernel
theorem dX0_latest_31 : decode cX0_latest 31 = .ok (.iload_n 1, 1) := by decide +kernel
theorem dX0_latest_32 : decode cX0_latest 32 = .ok (.aaload, 1) := by decide +kernel
theorem dX0_latest_33 : decode cX0_latest 33 = .ok (.goto 4, 3) := by decide +kernel
theorem dX0_latest_36 : decode cX0_latest 36 = .ok (.aconst_null, 1) := by decide +kernel
theorem dX0_latest_37 : decode cX0_latest 37 = .ok (.areturn, 1) := by decide +kernel
theorem dX1_init_0 : decode cX1_init 0 = .ok (.aload_n 0, 1) := by decide +kernel
theorem dX1_init_1 : decode cX1_init 1 = .ok (.invokespecial 3, 3) := by decide +kernel
theorem dX1_init_4 : decode cX1_init 4 = .ok (.aload_n 0, 1) := by decide +kernel
theorem dX1_init_5 : decode cX1_init 5 = .ok (.sipush 768, 3) := by decide +kernel
theorem dX1_init_8 : decode cX1_init 8 = .ok (.newarray .int, 2) := by decide +kernel
theorem dX1_init_10 : decode cX1_init 10 = .ok (.putfield 9, 3) := by decide +kernel
theorem dX1_init_13 : decode cX1_init 13 = .ok (.aload_n 0, 1) := by decide +kernel
theorem dX1_init_14 : decode cX1_init 14 = .ok (.sipush 192, 3) := by decide +kernel
theorem dX1_init_17 : decode cX1_init 17 = .ok (.newarray .int, 2) := by decide +kernel
theorem dX1_init_19 : decode cX1_init 19 = .ok (.putfield 15, 3) := by decide +kernel
theorem dX1_init_22 : decode cX1_init 22 = .ok (.aload_n 0, 1) := by decide +kernel
theorem dX1_init_23 : decode cX1_init 23 = .ok (.bipush 24, 2) := by decide +kernel
theorem dX1_init_25 : decode cX1_init 25 = .ok (.newarray .int, 2) := by decide +kernel
theorem dX1_init_27 : decode cX1_init 27 = .ok (.putfield 18, 3) := by decide +kernel
theorem dX1_init_30 : decode cX1_init 30 = .ok (.aload_n 0, 1) := by decide +kernel
theorem dX1_init_31 : decode cX1_init 31 = .ok (.getfield 18, 3) := by decide +kernel
theorem dX1_init_34 : decode cX1_init 34 = .ok (.bipush (-5), 2) := by decide +kernel
theorem dX1_init_36 : decode cX1_init 36 = .ok (.invokestatic 21, 3) := by decide +kernel
theorem dX1_init_39 : decode cX1_init 39 = .ok (.aload_n 0, 1) := by decide +kernel
theorem dX1_init_40 : decode cX1_init 40 = .ok (.iconst 0, 1) := by decide +kernel
theorem dX1_init_41 : decode cX1_init 41 = .ok (.putfield 27, 3) := by decide +kernel
theorem dX1_init_44 : decode cX1_init 44 = .ok (.aload_n 0, 1) := by decide +kernel
theorem dX1_init_45 : decode cX1_init 45 = .ok (.bipush 12, 2) := by decide +kernel
theorem dX1_init_47 : decode cX1_init 47 = .ok (.putfield 31, 3) := by decide +kernel
theorem dX1_init_50 : decode cX1_init 50 = .ok (.aload_n 0, 1) := by decide +kernel
theorem dX1_init_51 : decode cX1_init 51 = .ok (.iconst 0, 1) := by decide +kernel
theorem dX1_init_52 : decode cX1_init 52 = .ok (.putfield 34, 3) := by decide +kernel
theorem dX1_init_55 : decode cX1_init 55 = .ok (.aload_n 0, 1) := by decide +kernel
theorem dX1_init_56 : decode cX1_init 56 = .ok (.iconst 4, 1) := by decide +kernel
theorem dX1_init_57 : decode cX1_init 57 = .ok (.putfield 37, 3) := by decide +kernel
theorem dX1_init_60 : decode cX1_init 60 = .ok (.return_, 1) := by decide +kernel
theorem dX1_copyFrom_0 : decode cX1_copyFrom 0 = .ok (.aload_n 1, 1) := by decide +kernel
theorem dX1_copyFrom_1 : decode cX1_copyFrom 1 = .ok (.getfield 9, 3) := by decide +kernel
theorem dX1_copyFrom_4 : decode cX1_copyFrom 4 = .ok (.aload_n 0, 1) := by decide +kernel
theorem dX1_copyFrom_5 : decode cX1_copyFrom 5 = .ok (.getfield 9, 3) := by decide +kernel
theorem dX1_copyFrom_8 : decode cX1_copyFrom 8 = .ok (.invokestatic 40, 3) := by decide +kernel
theorem dX1_copyFrom_11 : decode cX1_copyFrom 11 = .ok (.aload_n 1, 1) := by decide +kernel
theorem dX1_copyFrom_12 : decode cX1_copyFrom 12 = .ok (.getfield 15, 3) := by decide +kernel
theorem dX1_copyFrom_15 : decode cX1_copyFrom 15 = .ok (.aload_n 0, 1) := by decide +kernel
theorem dX1_copyFrom_16 : decode cX1_copyFrom 16 = .ok (.getfield 15, 3) := by decide +kernel
theorem dX1_copyFrom_19 : decode cX1_copyFrom 19 = .ok (.invokestatic 40, 3) := by decide +kernel
theorem dX1_copyFrom_22 : decode cX1_copyFrom 22 = .ok (.aload_n 1, 1) := by decide +kernel
theorem dX1_copyFrom_23 : decode cX1_copyFrom 23 = .ok (.getfield 18, 3) := by decide +kernel
theorem dX1_copyFrom_26 : decode cX1_copyFrom 26 = .ok (.aload_n 0, 1) := by decide +kernel
theorem dX1_copyFrom_27 : decode cX1_copyFrom 27 = .ok (.getfield 18, 3) := by decide +kernel
theorem dX1_copyFrom_30 : decode cX1_copyFrom 30 = .ok (.invokestatic 40, 3) := by decide +kernel
theorem dX1_copyFrom_33 : decode cX1_copyFrom 33 = .ok (.aload_n 0, 1) := by decide +kernel
theorem dX1_copyFrom_34 : decode cX1_copyFrom 34 = .ok (.aload_n 1, 1) := by decide +kernel
theorem dX1_copyFrom_35 : decode cX1_copyFrom 35 = .ok (.getfield 27, 3) := by decide +kernel
theorem dX1_copyFrom_38 : decode cX1_copyFrom 38 = .ok (.putfield 27, 3) := by decide +kernel
theorem dX1_copyFrom_41 : decode cX1_copyFrom 41 = .ok (.aload_n 0, 1) := by decide +kernel
theorem dX1_copyFrom_42 : decode cX1_copyFrom 42 = .ok (.aload_n 1, 1) := by decide +kernel
theorem dX1_copyFrom_43 : decode cX1_copyFrom 43 = .ok (.getfield 31, 3) := by decide +kernel
theorem dX1_copyFrom_46 : decode cX1_copyFrom 46 = .ok (.putfield 31, 3) := by decide +kernel
theorem dX1_copyFrom_49 : decode cX1_copyFrom 49 = .ok (.aload_n 0, 1) := by decide +kernel
theorem dX1_copyFrom_50 : decode cX1_copyFrom 50 = .ok (.aload_n 1, 1) := by decide +kernel
theorem dX1_copyFrom_51 : decode cX1_copyFrom 51 = .ok (.getfield 34, 3) := by decide +kernel
theorem dX1_copyFrom_54 : decode cX1_copyFrom 54 = .ok (.putfield 34, 3) := by decide +kernel
theorem dX1_copyFrom_57 : decode cX1_copyFrom 57 = .ok (.aload_n 0, 1) := by decide +kernel
theorem dX1_copyFrom_58 : decode cX1_copyFrom 58 = .ok (.aload_n 1, 1) := by decide +kernel
theorem dX1_copyFrom_59 : decode cX1_copyFrom 59 = .ok (.getfield 37, 3) := by decide +kernel
theorem dX1_copyFrom_62 : decode cX1_copyFrom 62 = .ok (.putfield 37, 3) := by decide +kernel
theorem dX1_copyFrom_65 : decode cX1_copyFrom 65 = .ok (.return_, 1) := by decide +kernel
theorem dX1_settingOf_0 : decode cX1_settingOf 0 = .ok (.iload_n 1, 1) := by decide +kernel
theorem dX1_settingOf_1 : decode cX1_settingOf 1 = .ok (.lookupswitch 37 #[(0, 27), (1, 32)], 27) := by decide +kernel
theorem dX1_settingOf_28 : decode cX1_settingOf 28 = .ok (.aload_n 0, 1) := by decide +kernel
theorem dX1_settingOf_29 : decode cX1_settingOf 29 = .ok (.getfield 31, 3) := by decide +kernel
theorem dX1_settingOf_32 : decode cX1_settingOf 32 = .ok (.ireturn, 1) := by decide +kernel
theorem dX1_settingOf_33 : decode cX1_settingOf 33 = .ok (.aload_n 0, 1) := by decide +kernel
theorem dX1_settingOf_34 : decode cX1_settingOf 34 = .ok (.getfield 34, 3) := by decide +kernel
theorem dX1_settingOf_37 : decode cX1_settingOf 37 = .ok (.ireturn, 1) := by decide +kernel
theorem dX1_settingOf_38 : decode cX1_settingOf 38 = .ok (.aload_n 0, 1) := by decide +kernel
theorem dX1_settingOf_39 : decode cX1_settingOf 39 = .ok (.getfield 37, 3) := by decide +kernel
theorem dX1_settingOf_42 : decode cX1_settingOf 42 = .ok (.ireturn, 1) := by decide +kernel
theorem dX1_changeSetting_0 : decode cX1_changeSetting 0 = .ok (.iload_n 1, 1) := by decide +kernel
theorem dX1_changeSetting_1 : decode cX1_changeSetting 1 = .ok (.lookupswitch 43 #[(0, 27), (1, 35)], 27) := by decide +kernel
theorem dX1_changeSetting_28 : decode cX1_changeSetting 28 = .ok (.aload_n 0, 1) := by decide +kernel
theorem dX1_changeSetting_29 : decode cX1_changeSetting 29 = .ok (.iload_n 2, 1) := by decide +kernel
theorem dX1_changeSetting_30 : decode cX1_changeSetting 30 = .ok (.putfield 31, 3) := by decide +kernel
theorem dX1_changeSetting_33 : decode cX1_changeSetting 33 = .ok (.goto 16, 3) := by decide +kernel
theorem dX1_changeSetting_36 : decode cX1_changeSetting 36 = .ok (.aload_n 0, 1) := by decide +kernel
theorem dX1_changeSetting_37 : decode cX1_changeSetting 37 = .ok (.iload_n 2, 1) := by decide +kernel
theorem dX1_changeSetting_38 : decode cX1_changeSetting 38 = .ok (.putfield 34, 3) := by decide +kernel
theorem dX1_changeSetting_41 : decode cX1_changeSetting 41 = .ok (.goto 8, 3) := by decide +kernel
theorem dX1_changeSetting_44 : decode cX1_changeSetting 44 = .ok (.aload_n 0, 1) := by decide +kernel
theorem dX1_changeSetting_45 : decode cX1_changeSetting 45 = .ok (.iload_n 2, 1) := by decide +kernel
theorem dX1_changeSetting_46 : decode cX1_changeSetting 46 = .ok (.putfield 37, 3) := by decide +kernel
theorem dX1_changeSetting_49 : decode cX1_changeSetting 49 = .ok (.return_, 1) := by decide +kernel
theorem dX1_sumOf_0 : decode cX1_sumOf 0 = .ok (.aload_n 0, 1) := by decide +kernel
theorem dX1_sumOf_1 : decode cX1_sumOf 1 = .ok (.getfield 18, 3) := by decide +kernel
theorem dX1_sumOf_4 : decode cX1_sumOf 4 = .ok (.iload_n 1, 1) := by decide +kernel
theorem dX1_sumOf_5 : decode cX1_sumOf 5 = .ok (.invokestatic 44, 3) := by decide +kernel
theorem dX1_sumOf_8 : decode cX1_sumOf 8 = .ok (.ireturn, 1) := by decide +kernel
theorem dX1_writeSum_0 : decode cX1_writeSum 0 = .ok (.iload_n 1, 1) := by decide +kernel
theorem dX1_writeSum_1 : decode cX1_writeSum 1 = .ok (.ifCond .lt 19, 3) := by decide +kernel
theorem dX1_writeSum_4 : decode cX1_writeSum 4 = .ok (.iload_n 1, 1) := by decide +kernel
theorem dX1_writeSum_5 : decode cX1_writeSum 5 = .ok (.aload_n 0, 1) := by decide +kernel
theorem dX1_writeSum_6 : decode cX1_writeSum 6 = .ok (.getfield 18, 3) := by decide +kernel
theorem dX1_writeSum_9 : decode cX1_writeSum 9 = .ok (.arraylength, 1) := by decide +kernel
theorem dX1_writeSum_10 : decode cX1_writeSum 10 = .ok (.if_icmp .ge 10, 3) := by decide +kernel
theorem dX1_writeSum_13 : decode cX1_writeSum 13 = .ok (.aload_n 0, 1) := by decide +kernel
theorem dX1_writeSum_14 : decode cX1_writeSum 14 = .ok (.getfield 18, 3) := by decide +kernel
theorem dX1_writeSum_17 : decode cX1_writeSum 17 = .ok (.iload_n 1, 1) := by decide +kernel
theorem dX1_writeSum_18 : decode cX1_writeSum 18 = .ok (.iload_n 2, 1) := by decide +kernel
theorem dX1_writeSum_19 : decode cX1_writeSum 19 = .ok (.iastore, 1) := by decide +kernel
theorem dX1_writeSum_20 : decode cX1_writeSum 20 = .ok (.return_, 1) := by decide +kernel
theorem dX1_isRow_0 : decode cX1_isRow 0 = .ok (.iload_n 1, 1) := by decide +kernel
theorem dX1_isRow_1 : decode cX1_isRow 1 = .ok (.ifCond .lt 15, 3) := by decide +kernel
theorem dX1_isRow_4 : decode cX1_isRow 4 = .ok (.iload_n 1, 1) := by decide +kernel
theorem dX1_isRow_5 : decode cX1_isRow 5 = .ok (.aload_n 0, 1) := by decide +kernel
theorem dX1_isRow_6 : decode cX1_isRow 6 = .ok (.getfield 27, 3) := by decide +kernel
theorem dX1_isRow_9 : decode cX1_isRow 9 = .ok (.if_icmp .ge 7, 3) := by decide +kernel
theorem dX1_isRow_12 : decode cX1_isRow 12 = .ok (.iconst 1, 1) := by decide +kernel
theorem dX1_isRow_13 : decode cX1_isRow 13 = .ok (.goto 4, 3) := by decide +kernel
theorem dX1_isRow_16 : decode cX1_isRow 16 = .ok (.iconst 0, 1) := by decide +kernel
theorem dX1_isRow_17 : decode cX1_isRow 17 = .ok (.ireturn, 1) := by decide +kernel
theorem dX1_areRows_0 : decode cX1_areRows 0 = .ok (.aload_n 0, 1) := by decide +kernel
theorem dX1_areRows_1 : decode cX1_areRows 1 = .ok (.iload_n 1, 1) := by decide +kernel
theorem dX1_areRows_2 : decode cX1_areRows 2 = .ok (.invokevirtual 48, 3) := by decide +kernel
theorem dX1_areRows_5 : decode cX1_areRows 5 = .ok (.ifCond .eq 20, 3) := by decide +kernel
theorem dX1_areRows_8 : decode cX1_areRows 8 = .ok (.aload_n 0, 1) := by decide +kernel
theorem dX1_areRows_9 : decode cX1_areRows 9 = .ok (.iload_n 2, 1) := by decide +kernel
theorem dX1_areRows_10 : decode cX1_areRows 10 = .ok (.invokevirtual 48, 3) := by decide +kernel
theorem dX1_areRows_13 : decode cX1_areRows 13 = .ok (.ifCond .eq 12, 3) := by decide +kernel
theorem dX1_areRows_16 : decode cX1_areRows 16 = .ok (.iload_n 1, 1) := by decide +kernel
theorem dX1_areRows_17 : decode cX1_areRows 17 = .ok (.iload_n 2, 1) := by decide +kernel
theorem dX1_areRows_18 : decode cX1_areRows 18 = .ok (.if_icmp .gt 7, 3) := by decide +kernel
theorem dX1_areRows_21 : decode cX1_areRows 21 = .ok (.iconst 1, 1) := by decide +kernel
theorem dX1_areRows_22 : decode cX1_areRows 22 = .ok (.goto 4, 3) := by decide +kernel
theorem dX1_areRows_25 : decode cX1_areRows 25 = .ok (.iconst 0, 1) := by decide +kernel
theorem dX1_areRows_26 : decode cX1_areRows 26 = .ok (.ireturn, 1) := by decide +kernel
theorem dX1_isCell_0 : decode cX1_isCell 0 = .ok (.aload_n 0, 1) := by decide +kernel
theorem dX1_isCell_1 : decode cX1_isCell 1 = .ok (.iload_n 1, 1) := by decide +kernel
theorem dX1_isCell_2 : decode cX1_isCell 2 = .ok (.invokevirtual 48, 3) := by decide +kernel
theorem dX1_isCell_5 : decode cX1_isCell 5 = .ok (.ifCond .eq 14, 3) := by decide +kernel
theorem dX1_isCell_8 : decode cX1_isCell 8 = .ok (.iload_n 2, 1) := by decide +kernel
theorem dX1_isCell_9 : decode cX1_isCell 9 = .ok (.invokestatic 52, 3) := by decide +kernel
theorem dX1_isCell_12 : decode cX1_isCell 12 = .ok (.ifCond .eq 7, 3) := by decide +kernel
theorem dX1_isCell_15 : decode cX1_isCell 15 = .ok (.iconst 1, 1) := by decide +kernel
theorem dX1_isCell_16 : decode cX1_isCell 16 = .ok (.goto 4, 3) := by decide +kernel
theorem dX1_isCell_19 : decode cX1_isCell 19 = .ok (.iconst 0, 1) := by decide +kernel
theorem dX1_isCell_20 : decode cX1_isCell 20 = .ok (.ireturn, 1) := by decide +kernel
theorem dX1_appendRow_0 : decode cX1_appendRow 0 = .ok (.aload_n 0, 1) := by decide +kernel
theorem dX1_appendRow_1 : decode cX1_appendRow 1 = .ok (.getfield 27, 3) := by decide +kernel
theorem dX1_appendRow_4 : decode cX1_appendRow 4 = .ok (.istore 5, 2) := by decide +kernel
theorem dX1_appendRow_6 : decode cX1_appendRow 6 = .ok (.aload_n 0, 1) := by decide +kernel
theorem dX1_appendRow_7 : decode cX1_appendRow 7 = .ok (.dup, 1) := by decide +kernel
theorem dX1_appendRow_8 : decode cX1_appendRow 8 = .ok (.getfield 27, 3) := by decide +kernel
theorem dX1_appendRow_11 : decode cX1_appendRow 11 = .ok (.iconst 1, 1) := by decide +kernel
theorem dX1_appendRow_12 : decode cX1_appendRow 12 = .ok (.iadd, 1) := by decide +kernel
theorem dX1_appendRow_13 : decode cX1_appendRow 13 = .ok (.putfield 27, 3) := by decide +kernel
theorem dX1_appendRow_16 : decode cX1_appendRow 16 = .ok (.aload_n 0, 1) := by decide +kernel
theorem dX1_appendRow_17 : decode cX1_appendRow 17 = .ok (.iload 5, 2) := by decide +kernel
theorem dX1_appendRow_19 : decode cX1_appendRow 19 = .ok (.iconst 0, 1) := by decide +kernel
theorem dX1_appendRow_20 : decode cX1_appendRow 20 = .ok (.iload_n 1, 1) := by decide +kernel
theorem dX1_appendRow_21 : decode cX1_appendRow 21 = .ok (.invokevirtual 55, 3) := by decide +kernel
theorem dX1_appendRow_24 : decode cX1_appendRow 24 = .ok (.aload_n 0, 1) := by decide +kernel
theorem dX1_appendRow_25 : decode cX1_appendRow 25 = .ok (.iload 5, 2) := by decide +kernel
theorem dX1_appendRow_27 : decode cX1_appendRow 27 = .ok (.iconst 1, 1) := by decide +kernel
theorem dX1_appendRow_28 : decode cX1_appendRow 28 = .ok (.iload_n 2, 1) := by decide +kernel
theorem dX1_appendRow_29 : decode cX1_appendRow 29 = .ok (.invokevirtual 55, 3) := by decide +kernel
theorem dX1_appendRow_32 : decode cX1_appendRow 32 = .ok (.aload_n 0, 1) := by decide +kernel
theorem dX1_appendRow_33 : decode cX1_appendRow 33 = .ok (.iload 5, 2) := by decide +kernel
theorem dX1_appendRow_35 : decode cX1_appendRow 35 = .ok (.iconst 2, 1) := by decide +kernel
theorem dX1_appendRow_36 : decode cX1_appendRow 36 = .ok (.iload_n 3, 1) := by decide +kernel
theorem dX1_appendRow_37 : decode cX1_appendRow 37 = .ok (.invokevirtual 55, 3) := by decide +kernel
theorem dX1_appendRow_40 : decode cX1_appendRow 40 = .ok (.aload_n 0, 1) := by decide +kernel
theorem dX1_appendRow_41 : decode cX1_appendRow 41 = .ok (.iload 5, 2) := by decide +kernel
theorem dX1_appendRow_43 : decode cX1_appendRow 43 = .ok (.iconst 3, 1) := by decide +kernel
theorem dX1_appendRow_44 : decode cX1_appendRow 44 = .ok (.iload 4, 2) := by decide +kernel
theorem dX1_appendRow_46 : decode cX1_appendRow 46 = .ok (.invokevirtual 55, 3) := by decide +kernel
theorem dX1_appendRow_49 : decode cX1_appendRow 49 = .ok (.return_, 1) := by decide +kernel
theorem dX1_startCell_0 : decode cX1_startCell 0 = .ok (.iload_n 1, 1) := by decide +kernel
theorem dX1_startCell_1 : decode cX1_startCell 1 = .ok (.iconst 4, 1) := by decide +kernel
theorem dX1_startCell_2 : decode cX1_startCell 2 = .ok (.imul, 1) := by decide +kernel
theorem dX1_startCell_3 : decode cX1_startCell 3 = .ok (.iload_n 2, 1) := by decide +kernel
theorem dX1_startCell_4 : decode cX1_startCell 4 = .ok (.iadd, 1) := by decide +kernel
theorem dX1_startCell_5 : decode cX1_startCell 5 = .ok (.istore 4, 2) := by decide +kernel
theorem dX1_startCell_7 : decode cX1_startCell 7 = .ok (.iload 4, 2) := by decide +kernel
theorem dX1_startCell_9 : decode cX1_startCell 9 = .ok (.ifCond .lt 21, 3) := by decide +kernel
theorem dX1_startCell_12 : decode cX1_startCell 12 = .ok (.iload 4, 2) := by decide +kernel
theorem dX1_startCell_14 : decode cX1_startCell 14 = .ok (.aload_n 0, 1) := by decide +kernel
theorem dX1_startCell_15 : decode cX1_startCell 15 = .ok (.getfield 15, 3) := by decide +kernel
theorem dX1_startCell_18 : decode cX1_startCell 18 = .ok (.arraylength, 1) := by decide +kernel
theorem dX1_startCell_19 : decode cX1_startCell 19 = .ok (.if_icmp .ge 11, 3) := by decide +kernel
theorem dX1_startCell_22 : decode cX1_startCell 22 = .ok (.aload_n 0, 1) := by decide +kernel
theorem dX1_startCell_23 : decode cX1_startCell 23 = .ok (.getfield 15, 3) := by decide +kernel
theorem dX1_startCell_26 : decode cX1_startCell 26 = .ok (.iload 4, 2) := by decide +kernel
theorem dX1_startCell_28 : decode cX1_startCell 28 = .ok (.iconst 0, 1) := by decide +kernel
theorem dX1_startCell_29 : decode cX1_startCell 29 = .ok (.iastore, 1) := by decide +kernel
theorem dX1_startCell_30 : decode cX1_startCell 30 = .ok (.aload_n 0, 1) := by decide +kernel
theorem dX1_startCell_31 : decode cX1_startCell 31 = .ok (.iload_n 1, 1) := by decide +kernel
theorem dX1_startCell_32 : decode cX1_startCell 32 = .ok (.iload_n 2, 1) := by decide +kernel
theorem dX1_startCell_33 : decode cX1_startCell 33 = .ok (.iload_n 3, 1) := by decide +kernel
theorem dX1_startCell_34 : decode cX1_startCell 34 = .ok (.invokevirtual 59, 3) := by decide +kernel
theorem dX1_startCell_37 : decode cX1_startCell 37 = .ok (.return_, 1) := by decide +kernel
theorem dX1_dropRow_0 : decode cX1_dropRow 0 = .ok (.aload_n 0, 1) := by decide +kernel
theorem dX1_dropRow_1 : decode cX1_dropRow 1 = .ok (.dup, 1) := by decide +kernel
theorem dX1_dropRow_2 : decode cX1_dropRow 2 = .ok (.getfield 27, 3) := by decide +kernel
theorem dX1_dropRow_5 : decode cX1_dropRow 5 = .ok (.iconst 1, 1) := by decide +kernel
theorem dX1_dropRow_6 : decode cX1_dropRow 6 = .ok (.isub, 1) := by decide +kernel
theorem dX1_dropRow_7 : decode cX1_dropRow 7 = .ok (.putfield 27, 3) := by decide +kernel
theorem dX1_dropRow_10 : decode cX1_dropRow 10 = .ok (.return_, 1) := by decide +kernel
theorem dX1_pushEntry_0 : decode cX1_pushEntry 0 = .ok (.iload_n 1, 1) := by decide +kernel
theorem dX1_pushEntry_1 : decode cX1_pushEntry 1 = .ok (.iconst 4, 1) := by decide +kernel
theorem dX1_pushEntry_2 : decode cX1_pushEntry 2 = .ok (.imul, 1) := by decide +kernel
theorem dX1_pushEntry_3 : decode cX1_pushEntry 3 = .ok (.iload_n 2, 1) := by decide +kernel
theorem dX1_pushEntry_4 : decode cX1_pushEntry 4 = .ok (.iadd, 1) := by decide +kernel
theorem dX1_pushEntry_5 : decode cX1_pushEntry 5 = .ok (.istore 4, 2) := by decide +kernel
theorem dX1_pushEntry_7 : decode cX1_pushEntry 7 = .ok (.iload 4, 2) := by decide +kernel
theorem dX1_pushEntry_9 : decode cX1_pushEntry 9 = .ok (.ifCond .lt 13, 3) := by decide +kernel
theorem dX1_pushEntry_12 : decode cX1_pushEntry 12 = .ok (.iload 4, 2) := by decide +kernel
theorem dX1_pushEntry_14 : decode cX1_pushEntry 14 = .ok (.aload_n 0, 1) := by decide +kernel
theorem dX1_pushEntry_15 : decode cX1_pushEntry 15 = .ok (.getfield 15, 3) := by decide +kernel
theorem dX1_pushEntry_18 : decode cX1_pushEntry 18 = .ok (.arraylength, 1) := by decide +kernel
theorem dX1_pushEntry_19 : decode cX1_pushEntry 19 = .ok (.if_icmp .lt 4, 3) := by decide +kernel
theorem dX1_pushEntry_22 : decode cX1_pushEntry 22 = .ok (.return_, 1) := by decide +kernel
theorem dX1_pushEntry_23 : decode cX1_pushEntry 23 = .ok (.iload 4, 2) := by decide +kernel
theorem dX1_pushEntry_25 : decode cX1_pushEntry 25 = .ok (.iconst 4, 1) := by decide +kernel
theorem dX1_pushEntry_26 : decode cX1_pushEntry 26 = .ok (.imul, 1) := by decide +kernel
theorem dX1_pushEntry_27 : decode cX1_pushEntry 27 = .ok (.aload_n 0, 1) := by decide +kernel
theorem dX1_pushEntry_28 : decode cX1_pushEntry 28 = .ok (.getfield 15, 3) := by decide +kernel
theorem dX1_pushEntry_31 : decode cX1_pushEntry 31 = .ok (.iload 4, 2) := by decide +kernel
theorem dX1_pushEntry_33 : decode cX1_pushEntry 33 = .ok (.iaload, 1) := by decide +kernel
theorem dX1_pushEntry_34 : decode cX1_pushEntry 34 = .ok (.iadd, 1) := by decide +kernel
theorem dX1_pushEntry_35 : decode cX1_pushEntry 35 = .ok (.istore 5, 2) := by decide +kernel
theorem dX1_pushEntry_37 : decode cX1_pushEntry 37 = .ok (.iload 5, 2) := by decide +kernel
theorem dX1_pushEntry_39 : decode cX1_pushEntry 39 = .ok (.ifCond .lt 32, 3) := by decide +kernel
theorem dX1_pushEntry_42 : decode cX1_pushEntry 42 = .ok (.iload 5, 2) := by decide +kernel
theorem dX1_pushEntry_44 : decode cX1_pushEntry 44 = .ok (.aload_n 0, 1) := by decide +kernel
theorem dX1_pushEntry_45 : decode cX1_pushEntry 45 = .ok (.getfield 9, 3) := by decide +kernel
theorem dX1_pushEntry_48 : decode cX1_pushEntry 48 = .ok (.arraylength, 1) := by decide +kernel
theorem dX1_pushEntry_49 : decode cX1_pushEntry 49 = .ok (.if_icmp .ge 22, 3) := by decide +kernel
theorem dX1_pushEntry_52 : decode cX1_pushEntry 52 = .ok (.aload_n 0, 1) := by decide +kernel
theorem dX1_pushEntry_53 : decode cX1_pushEntry 53 = .ok (.getfield 9, 3) := by decide +kernel
theorem dX1_pushEntry_56 : decode cX1_pushEntry 56 = .ok (.iload 5, 2) := by decide +kernel
theorem dX1_pushEntry_58 : decode cX1_pushEntry 58 = .ok (.iload_n 3, 1) := by decide +kernel
theorem dX1_pushEntry_59 : decode cX1_pushEntry 59 = .ok (.iastore, 1) := by decide +kernel
theorem dX1_pushEntry_60 : decode cX1_pushEntry 60 = .ok (.aload_n 0, 1) := by decide +kernel
theorem dX1_pushEntry_61 : decode cX1_pushEntry 61 = .ok (.getfield 15, 3) := by decide +kernel
theorem dX1_pushEntry_64 : decode cX1_pushEntry 64 = .ok (.iload 4, 2) := by decide +kernel
theorem dX1_pushEntry_66 : decode cX1_pushEntry 66 = .ok (.dup2, 1) := by decide +kernel
theorem dX1_pushEntry_67 : decode cX1_pushEntry 67 = .ok (.iaload, 1) := by decide +kernel
theorem dX1_pushEntry_68 : decode cX1_pushEntry 68 = .ok (.iconst 1, 1) := by decide +kernel
theorem dX1_pushEntry_69 : decode cX1_pushEntry 69 = .ok (.iadd, 1) := by decide +kernel
theorem dX1_pushEntry_70 : decode cX1_pushEntry 70 = .ok (.iastore, 1) := by decide +kernel
theorem dX1_pushEntry_71 : decode cX1_pushEntry 71 = .ok (.return_, 1) := by decide +kernel
theorem dX1_popEntry_0 : decode cX1_popEntry 0 = .ok (.iload_n 1, 1) := by decide +kernel
theorem dX1_popEntry_1 : decode cX1_popEntry 1 = .ok (.iconst 4, 1) := by decide +kernel
theorem dX1_popEntry_2 : decode cX1_popEntry 2 = .ok (.imul, 1) := by decide +kernel
theorem dX1_popEntry_3 : decode cX1_popEntry 3 = .ok (.iload_n 2, 1) := by decide +kernel
theorem dX1_popEntry_4 : decode cX1_popEntry 4 = .ok (.iadd, 1) := by decide +kernel
theorem dX1_popEntry_5 : decode cX1_popEntry 5 = .ok (.istore_n 3, 1) := by decide +kernel
theorem dX1_popEntry_6 : decode cX1_popEntry 6 = .ok (.iload_n 3, 1) := by decide +kernel
theorem dX1_popEntry_7 : decode cX1_popEntry 7 = .ok (.ifCond .lt 22, 3) := by decide +kernel
theorem dX1_popEntry_10 : decode cX1_popEntry 10 = .ok (.iload_n 3, 1) := by decide +kernel
theorem dX1_popEntry_11 : decode cX1_popEntry 11 = .ok (.aload_n 0, 1) := by decide +kernel
theorem dX1_popEntry_12 : decode cX1_popEntry 12 = .ok (.getfield 15, 3) := by decide +kernel
theorem dX1_popEntry_15 : decode cX1_popEntry 15 = .ok (.arraylength, 1) := by decide +kernel
theorem dX1_popEntry_16 : decode cX1_popEntry 16 = .ok (.if_icmp .ge 13, 3) := by decide +kernel
theorem dX1_popEntry_19 : decode cX1_popEntry 19 = .ok (.aload_n 0, 1) := by decide +kernel
theorem dX1_popEntry_20 : decode cX1_popEntry 20 = .ok (.getfield 15, 3) := by decide +kernel
theorem dX1_popEntry_23 : decode cX1_popEntry 23 = .ok (.iload_n 3, 1) := by decide +kernel
theorem dX1_popEntry_24 : decode cX1_popEntry 24 = .ok (.dup2, 1) := by decide +kernel
theorem dX1_popEntry_25 : decode cX1_popEntry 25 = .ok (.iaload, 1) := by decide +kernel
theorem dX1_popEntry_26 : decode cX1_popEntry 26 = .ok (.iconst 1, 1) := by decide +kernel
theorem dX1_popEntry_27 : decode cX1_popEntry 27 = .ok (.isub, 1) := by decide +kernel
theorem dX1_popEntry_28 : decode cX1_popEntry 28 = .ok (.iastore, 1) := by decide +kernel
theorem dX1_popEntry_29 : decode cX1_popEntry 29 = .ok (.return_, 1) := by decide +kernel
theorem dX1_entriesOf_0 : decode cX1_entriesOf 0 = .ok (.aload_n 0, 1) := by decide +kernel
theorem dX1_entriesOf_1 : decode cX1_entriesOf 1 = .ok (.getfield 15, 3) := by decide +kernel
theorem dX1_entriesOf_4 : decode cX1_entriesOf 4 = .ok (.iload_n 1, 1) := by decide +kernel
theorem dX1_entriesOf_5 : decode cX1_entriesOf 5 = .ok (.iconst 4, 1) := by decide +kernel
theorem dX1_entriesOf_6 : decode cX1_entriesOf 6 = .ok (.imul, 1) := by decide +kernel
theorem dX1_entriesOf_7 : decode cX1_entriesOf 7 = .ok (.iload_n 2, 1) := by decide +kernel
theorem dX1_entriesOf_8 : decode cX1_entriesOf 8 = .ok (.iadd, 1) := by decide +kernel
theorem dX1_entriesOf_9 : decode cX1_entriesOf 9 = .ok (.invokestatic 44, 3) := by decide +kernel
theorem dX1_entriesOf_12 : decode cX1_entriesOf 12 = .ok (.ireturn, 1) := by decide +kernel
theorem dX1_entryOf_0 : decode cX1_entryOf 0 = .ok (.aload_n 0, 1) := by decide +kernel
theorem dX1_entryOf_1 : decode cX1_entryOf 1 = .ok (.getfield 9, 3) := by decide +kernel
theorem dX1_entryOf_4 : decode cX1_entryOf 4 = .ok (.iload_n 1, 1) := by decide +kernel
theorem dX1_entryOf_5 : decode cX1_entryOf 5 = .ok (.iconst 4, 1) := by decide +kernel
theorem dX1_entryOf_6 : decode cX1_entryOf 6 = .ok (.imul, 1) := by decide +kernel
theorem dX1_entryOf_7 : decode cX1_entryOf 7 = .ok (.iload_n 2, 1) := by decide +kernel
theorem dX1_entryOf_8 : decode cX1_entryOf 8 = .ok (.iadd, 1) := by decide +kernel
theorem dX1_entryOf_9 : decode cX1_entryOf 9 = .ok (.iconst 4, 1) := by decide +kernel
theorem dX1_entryOf_10 : decode cX1_entryOf 10 = .ok (.imul, 1) := by decide +kernel
theorem dX1_entryOf_11 : decode cX1_entryOf 11 = .ok (.iload_n 3, 1) := by decide +kernel
theorem dX1_entryOf_12 : decode cX1_entryOf 12 = .ok (.iadd, 1) := by decide +kernel
theorem dX1_entryOf_13 : decode cX1_entryOf 13 = .ok (.invokestatic 44, 3) := by decide +kernel
theorem dX1_entryOf_16 : decode cX1_entryOf 16 = .ok (.ireturn, 1) := by decide +kernel
theorem dX1_latestOf_0 : decode cX1_latestOf 0 = .ok (.iload_n 1, 1) := by decide +kernel
theorem dX1_latestOf_1 : decode cX1_latestOf 1 = .ok (.iconst 4, 1) := by decide +kernel
theorem dX1_latestOf_2 : decode cX1_latestOf 2 = .ok (.imul, 1) := by decide +kernel
theorem dX1_latestOf_3 : decode cX1_latestOf 3 = .ok (.iload_n 2, 1) := by decide +kernel
theorem dX1_latestOf_4 : decode cX1_latestOf 4 = .ok (.iadd, 1) := by decide +kernel
theorem dX1_latestOf_5 : decode cX1_latestOf 5 = .ok (.istore_n 3, 1) := by decide +kernel
theorem dX1_latestOf_6 : decode cX1_latestOf 6 = .ok (.iload_n 3, 1) := by decide +kernel
theorem dX1_latestOf_7 : decode cX1_latestOf 7 = .ok (.ifCond .lt 12, 3) := by decide +kernel
theorem dX1_latestOf_10 : decode cX1_latestOf 10 = .ok (.iload_n 3, 1) := by decide +kernel
theorem dX1_latestOf_11 : decode cX1_latestOf 11 = .ok (.aload_n 0, 1) := by decide +kernel
theorem dX1_latestOf_12 : decode cX1_latestOf 12 = .ok (.getfield 15, 3) := by decide +kernel
theorem dX1_latestOf_15 : decode cX1_latestOf 15 = .ok (.arraylength, 1) := by decide +kernel
theorem dX1_latestOf_16 : decode cX1_latestOf 16 = .ok (.if_icmp .lt 6, 3) := by decide +kernel
theorem dX1_latestOf_19 : decode cX1_latestOf 19 = .ok (.bipush (-5), 2) := by decide +kernel
theorem dX1_latestOf_21 : decode cX1_latestOf 21 = .ok (.ireturn, 1) := by decide +kernel
theorem dX1_latestOf_22 : decode cX1_latestOf 22 = .ok (.iload_n 3, 1) := by decide +kernel
theorem dX1_latestOf_23 : decode cX1_latestOf 23 = .ok (.iconst 4, 1) := by decide +kernel
theorem dX1_latestOf_24 : decode cX1_latestOf 24 = .ok (.imul, 1) := by decide +kernel
theorem dX1_latestOf_25 : decode cX1_latestOf 25 = .ok (.aload_n 0, 1) := by decide +kernel
theorem dX1_latestOf_26 : decode cX1_latestOf 26 = .ok (.getfield 15, 3) := by decide +kernel
theorem dX1_latestOf_29 : decode cX1_latestOf 29 = .ok (.iload_n 3, 1) := by decide +kernel
theorem dX1_latestOf_30 : decode cX1_latestOf 30 = .ok (.iaload, 1) := by decide +kernel
theorem dX1_latestOf_31 : decode cX1_latestOf 31 = .ok (.iadd, 1) := by decide +kernel
theorem dX1_latestOf_32 : decode cX1_latestOf 32 = .ok (.iconst 1, 1) := by decide +kernel
theorem dX1_latestOf_33 : decode cX1_latestOf 33 = .ok (.isub, 1) := by decide +kernel
theorem dX1_latestOf_34 : decode cX1_latestOf 34 = .ok (.istore 4, 2) := by decide +kernel
theorem dX1_latestOf_36 : decode cX1_latestOf 36 = .ok (.iload 4, 2) := by decide +kernel
theorem dX1_latestOf_38 : decode cX1_latestOf 38 = .ok (.ifCond .lt 23, 3) := by decide +kernel
theorem dX1_latestOf_41 : decode cX1_latestOf 41 = .ok (.iload 4, 2) := by decide +kernel
theorem dX1_latestOf_43 : decode cX1_latestOf 43 = .ok (.aload_n 0, 1) := by decide +kernel
theorem dX1_latestOf_44 : decode cX1_latestOf 44 = .ok (.getfield 9, 3) := by decide +kernel
theorem dX1_latestOf_47 : decode cX1_latestOf 47 = .ok (.arraylength, 1) := by decide +kernel
theorem dX1_latestOf_48 : decode cX1_latestOf 48 = .ok (.if_icmp .ge 13, 3) := by decide +kernel
theorem dX1_latestOf_51 : decode cX1_latestOf 51 = .ok (.aload_n 0, 1) := by decide +kernel
theorem dX1_latestOf_52 : decode cX1_latestOf 52 = .ok (.getfield 9, 3) := by decide +kernel
theorem dX1_latestOf_55 : decode cX1_latestOf 55 = .ok (.iload 4, 2) := by decide +kernel
theorem dX1_latestOf_57 : decode cX1_latestOf 57 = .ok (.iaload, 1) := by decide +kernel
theorem dX1_latestOf_58 : decode cX1_latestOf 58 = .ok (.goto 5, 3) := by decide +kernel
theorem dX1_latestOf_61 : decode cX1_latestOf 61 = .ok (.bipush (-5), 2) := by decide +kernel
theorem dX1_latestOf_63 : decode cX1_latestOf 63 = .ok (.ireturn, 1) := by decide +kernel
theorem dX1_isWrittenOut_0 : decode cX1_isWrittenOut 0 = .ok (.iconst 0, 1) := by decide +kernel
theorem dX1_isWrittenOut_1 : decode cX1_isWrittenOut 1 = .ok (.istore_n 2, 1) := by decide +kernel
theorem dX1_isWrittenOut_2 : decode cX1_isWrittenOut 2 = .ok (.iload_n 2, 1) := by decide +kernel
theorem dX1_isWrittenOut_3 : decode cX1_isWrittenOut 3 = .ok (.iconst 4, 1) := by decide +kernel
theorem dX1_isWrittenOut_4 : decode cX1_isWrittenOut 4 = .ok (.if_icmp .ge 20, 3) := by decide +kernel
theorem dX1_isWrittenOut_7 : decode cX1_isWrittenOut 7 = .ok (.aload_n 0, 1) := by decide +kernel
theorem dX1_isWrittenOut_8 : decode cX1_isWrittenOut 8 = .ok (.iload_n 1, 1) := by decide +kernel
theorem dX1_isWrittenOut_9 : decode cX1_isWrittenOut 9 = .ok (.iload_n 2, 1) := by decide +kernel
theorem dX1_isWrittenOut_10 : decode cX1_isWrittenOut 10 = .ok (.invokevirtual 62, 3) := by decide +kernel
theorem dX1_isWrittenOut_13 : decode cX1_isWrittenOut 13 = .ok (.ifCond .ge 5, 3) := by decide +kernel
theorem dX1_isWrittenOut_16 : decode cX1_isWrittenOut 16 = .ok (.iconst 0, 1) := by decide +kernel
theorem dX1_isWrittenOut_17 : decode cX1_isWrittenOut 17 = .ok (.ireturn, 1) := by decide +kernel
theorem dX1_isWrittenOut_18 : decode cX1_isWrittenOut 18 = .ok (.iinc 2 1, 3) := by decide +kernel
theorem dX1_isWrittenOut_21 : decode cX1_isWrittenOut 21 = .ok (.goto (-19), 3) := by decide +kernel
theorem dX1_isWrittenOut_24 : decode cX1_isWrittenOut 24 = .ok (.iconst 1, 1) := by decide +kernel
theorem dX1_isWrittenOut_25 : decode cX1_isWrittenOut 25 = .ok (.ireturn, 1) := by decide +kernel
theorem dX1_hasAbove_0 : decode cX1_hasAbove 0 = .ok (.iload_n 1, 1) := by decide +kernel
theorem dX1_hasAbove_1 : decode cX1_hasAbove 1 = .ok (.ifCond .le 30, 3) := by decide +kernel
theorem dX1_hasAbove_4 : decode cX1_hasAbove 4 = .ok (.aload_n 0, 1) := by decide +kernel
theorem dX1_hasAbove_5 : decode cX1_hasAbove 5 = .ok (.getfield 34, 3) := by decide +kernel
theorem dX1_hasAbove_8 : decode cX1_hasAbove 8 = .ok (.ifCond .eq 19, 3) := by decide +kernel
theorem dX1_hasAbove_11 : decode cX1_hasAbove 11 = .ok (.aload_n 0, 1) := by decide +kernel
theorem dX1_hasAbove_12 : decode cX1_hasAbove 12 = .ok (.getfield 31, 3) := by decide +kernel
theorem dX1_hasAbove_15 : decode cX1_hasAbove 15 = .ok (.ifCond .le 12, 3) := by decide +kernel
theorem dX1_hasAbove_18 : decode cX1_hasAbove 18 = .ok (.iload_n 1, 1) := by decide +kernel
theorem dX1_hasAbove_19 : decode cX1_hasAbove 19 = .ok (.aload_n 0, 1) := by decide +kernel
theorem dX1_hasAbove_20 : decode cX1_hasAbove 20 = .ok (.getfield 31, 3) := by decide +kernel
theorem dX1_hasAbove_23 : decode cX1_hasAbove 23 = .ok (.irem, 1) := by decide +kernel
theorem dX1_hasAbove_24 : decode cX1_hasAbove 24 = .ok (.ifCond .eq 7, 3) := by decide +kernel
theorem dX1_hasAbove_27 : decode cX1_hasAbove 27 = .ok (.iconst 1, 1) := by decide +kernel
theorem dX1_hasAbove_28 : decode cX1_hasAbove 28 = .ok (.goto 4, 3) := by decide +kernel
theorem dX1_hasAbove_31 : decode cX1_hasAbove 31 = .ok (.iconst 0, 1) := by decide +kernel
theorem dX1_hasAbove_32 : decode cX1_hasAbove 32 = .ok (.ireturn, 1) := by decide +kernel
theorem dX1_leansUp_0 : decode cX1_leansUp 0 = .ok (.aload_n 0, 1) := by decide +kernel
theorem dX1_leansUp_1 : decode cX1_leansUp 1 = .ok (.iload_n 1, 1) := by decide +kernel
theorem dX1_leansUp_2 : decode cX1_leansUp 2 = .ok (.invokevirtual 66, 3) := by decide +kernel
theorem dX1_leansUp_5 : decode cX1_leansUp 5 = .ok (.ifCond .eq 18, 3) := by decide +kernel
theorem dX1_leansUp_8 : decode cX1_leansUp 8 = .ok (.aload_n 0, 1) := by decide +kernel
theorem dX1_leansUp_9 : decode cX1_leansUp 9 = .ok (.iload_n 1, 1) := by decide +kernel
theorem dX1_leansUp_10 : decode cX1_leansUp 10 = .ok (.iload_n 2, 1) := by decide +kernel
theorem dX1_leansUp_11 : decode cX1_leansUp 11 = .ok (.invokevirtual 62, 3) := by decide +kernel
theorem dX1_leansUp_14 : decode cX1_leansUp 14 = .ok (.bipush (-6), 2) := by decide +kernel
theorem dX1_leansUp_16 : decode cX1_leansUp 16 = .ok (.if_icmp .ne 7, 3) := by decide +kernel
theorem dX1_leansUp_19 : decode cX1_leansUp 19 = .ok (.iconst 1, 1) := by decide +kernel
theorem dX1_leansUp_20 : decode cX1_leansUp 20 = .ok (.goto 4, 3) := by decide +kernel
theorem dX1_leansUp_23 : decode cX1_leansUp 23 = .ok (.iconst 0, 1) := by decide +kernel
theorem dX1_leansUp_24 : decode cX1_leansUp 24 = .ok (.ireturn, 1) := by decide +kernel
theorem dX1_topOfChain_0 : decode cX1_topOfChain 0 = .ok (.iload_n 1, 1) := by decide +kernel
theorem dX1_topOfChain_1 : decode cX1_topOfChain 1 = .ok (.istore_n 3, 1) := by decide +kernel
theorem dX1_topOfChain_2 : decode cX1_topOfChain 2 = .ok (.iload_n 3, 1) := by decide +kernel
theorem dX1_topOfChain_3 : decode cX1_topOfChain 3 = .ok (.ifCond .le 18, 3) := by decide +kernel
theorem dX1_topOfChain_6 : decode cX1_topOfChain 6 = .ok (.aload_n 0, 1) := by decide +kernel
theorem dX1_topOfChain_7 : decode cX1_topOfChain 7 = .ok (.iload_n 3, 1) := by decide +kernel
theorem dX1_topOfChain_8 : decode cX1_topOfChain 8 = .ok (.iload_n 2, 1) := by decide +kernel
theorem dX1_topOfChain_9 : decode cX1_topOfChain 9 = .ok (.invokevirtual 69, 3) := by decide +kernel
theorem dX1_topOfChain_12 : decode cX1_topOfChain 12 = .ok (.ifCond .eq 9, 3) := by decide +kernel
theorem dX1_topOfChain_15 : decode cX1_topOfChain 15 = .ok (.iinc 3 (-1), 3) := by decide +kernel
theorem dX1_topOfChain_18 : decode cX1_topOfChain 18 = .ok (.goto (-16), 3) := by decide +kernel
theorem dX1_topOfChain_21 : decode cX1_topOfChain 21 = .ok (.iload_n 3, 1) := by decide +kernel
theorem dX1_topOfChain_22 : decode cX1_topOfChain 22 = .ok (.ireturn, 1) := by decide +kernel
theorem dX1_chainOf_0 : decode cX1_chainOf 0 = .ok (.iload_n 1, 1) := by decide +kernel
theorem dX1_chainOf_1 : decode cX1_chainOf 1 = .ok (.aload_n 0, 1) := by decide +kernel
theorem dX1_chainOf_2 : decode cX1_chainOf 2 = .ok (.iload_n 1, 1) := by decide +kernel
theorem dX1_chainOf_3 : decode cX1_chainOf 3 = .ok (.iload_n 2, 1) := by decide +kernel
theorem dX1_chainOf_4 : decode cX1_chainOf 4 = .ok (.invokevirtual 73, 3) := by decide +kernel
theorem dX1_chainOf_7 : decode cX1_chainOf 7 = .ok (.isub, 1) := by decide +kernel
theorem dX1_chainOf_8 : decode cX1_chainOf 8 = .ok (.iconst 1, 1) := by decide +kernel
theorem dX1_chainOf_9 : decode cX1_chainOf 9 = .ok (.iadd, 1) := by decide +kernel
theorem dX1_chainOf_10 : decode cX1_chainOf 10 = .ok (.ireturn, 1) := by decide +kernel
theorem dX1_meaningOf_0 : decode cX1_meaningOf 0 = .ok (.aload_n 0, 1) := by decide +kernel
theorem dX1_meaningOf_1 : decode cX1_meaningOf 1 = .ok (.aload_n 0, 1) := by decide +kernel
theorem dX1_meaningOf_2 : decode cX1_meaningOf 2 = .ok (.iload_n 1, 1) := by decide +kernel
theorem dX1_meaningOf_3 : decode cX1_meaningOf 3 = .ok (.iload_n 2, 1) := by decide +kernel
theorem dX1_meaningOf_4 : decode cX1_meaningOf 4 = .ok (.invokevirtual 73, 3) := by decide +kernel
theorem dX1_meaningOf_7 : decode cX1_meaningOf 7 = .ok (.iload_n 2, 1) := by decide +kernel
theorem dX1_meaningOf_8 : decode cX1_meaningOf 8 = .ok (.invokevirtual 62, 3) := by decide +kernel
theorem dX1_meaningOf_11 : decode cX1_meaningOf 11 = .ok (.istore_n 3, 1) := by decide +kernel
theorem dX1_meaningOf_12 : decode cX1_meaningOf 12 = .ok (.iload_n 3, 1) := by decide +kernel
theorem dX1_meaningOf_13 : decode cX1_meaningOf 13 = .ok (.ifCond .lt 7, 3) := by decide +kernel
theorem dX1_meaningOf_16 : decode cX1_meaningOf 16 = .ok (.iload_n 3, 1) := by decide +kernel
theorem dX1_meaningOf_17 : decode cX1_meaningOf 17 = .ok (.goto 5, 3) := by decide +kernel
theorem dX1_meaningOf_20 : decode cX1_meaningOf 20 = .ok (.bipush (-5), 2) := by decide +kernel
theorem dX1_meaningOf_22 : decode cX1_meaningOf 22 = .ok (.ireturn, 1) := by decide +kernel
theorem dX1_sourceOf_0 : decode cX1_sourceOf 0 = .ok (.aload_n 0, 1) := by decide +kernel
theorem dX1_sourceOf_1 : decode cX1_sourceOf 1 = .ok (.iload_n 1, 1) := by decide +kernel
theorem dX1_sourceOf_2 : decode cX1_sourceOf 2 = .ok (.iload_n 2, 1) := by decide +kernel
theorem dX1_sourceOf_3 : decode cX1_sourceOf 3 = .ok (.invokevirtual 73, 3) := by decide +kernel
theorem dX1_sourceOf_6 : decode cX1_sourceOf 6 = .ok (.istore_n 3, 1) := by decide +kernel
theorem dX1_sourceOf_7 : decode cX1_sourceOf 7 = .ok (.aload_n 0, 1) := by decide +kernel
theorem dX1_sourceOf_8 : decode cX1_sourceOf 8 = .ok (.iload_n 3, 1) := by decide +kernel
theorem dX1_sourceOf_9 : decode cX1_sourceOf 9 = .ok (.iload_n 2, 1) := by decide +kernel
theorem dX1_sourceOf_10 : decode cX1_sourceOf 10 = .ok (.invokevirtual 62, 3) := by decide +kernel
theorem dX1_sourceOf_13 : decode cX1_sourceOf 13 = .ok (.ifCond .lt 7, 3) := by decide +kernel
theorem dX1_sourceOf_16 : decode cX1_sourceOf 16 = .ok (.iload_n 3, 1) := by decide +kernel
theorem dX1_sourceOf_17 : decode cX1_sourceOf 17 = .ok (.goto 5, 3) := by decide +kernel
theorem dX1_sourceOf_20 : decode cX1_sourceOf 20 = .ok (.bipush (-5), 2) := by decide +kernel
theorem dX1_sourceOf_22 : decode cX1_sourceOf 22 = .ok (.ireturn, 1) := by decide +kernel
theorem dX1_isDoubtful_0 : decode cX1_isDoubtful 0 = .ok (.aload_n 0, 1) := by decide +kernel
theorem dX1_isDoubtful_1 : decode cX1_isDoubtful 1 = .ok (.iload_n 1, 1) := by decide +kernel
theorem dX1_isDoubtful_2 : decode cX1_isDoubtful 2 = .ok (.iload_n 2, 1) := by decide +kernel
theorem dX1_isDoubtful_3 : decode cX1_isDoubtful 3 = .ok (.invokevirtual 73, 3) := by decide +kernel
theorem dX1_isDoubtful_6 : decode cX1_isDoubtful 6 = .ok (.istore_n 3, 1) := by decide +kernel
theorem dX1_isDoubtful_7 : decode cX1_isDoubtful 7 = .ok (.iload_n 1, 1) := by decide +kernel
theorem dX1_isDoubtful_8 : decode cX1_isDoubtful 8 = .ok (.istore 4, 2) := by decide +kernel
theorem dX1_isDoubtful_10 : decode cX1_isDoubtful 10 = .ok (.iload 4, 2) := by decide +kernel
theorem dX1_isDoubtful_12 : decode cX1_isDoubtful 12 = .ok (.iload_n 3, 1) := by decide +kernel
theorem dX1_isDoubtful_13 : decode cX1_isDoubtful 13 = .ok (.if_icmp .lt 22, 3) := by decide +kernel
theorem dX1_isDoubtful_16 : decode cX1_isDoubtful 16 = .ok (.aload_n 0, 1) := by decide +kernel
theorem dX1_isDoubtful_17 : decode cX1_isDoubtful 17 = .ok (.iload 4, 2) := by decide +kernel
theorem dX1_isDoubtful_19 : decode cX1_isDoubtful 19 = .ok (.iload_n 2, 1) := by decide +kernel
theorem dX1_isDoubtful_20 : decode cX1_isDoubtful 20 = .ok (.invokevirtual 76, 3) := by decide +kernel
theorem dX1_isDoubtful_23 : decode cX1_isDoubtful 23 = .ok (.iconst 1, 1) := by decide +kernel
theorem dX1_isDoubtful_24 : decode cX1_isDoubtful 24 = .ok (.if_icmp .le 5, 3) := by decide +kernel
theorem dX1_isDoubtful_27 : decode cX1_isDoubtful 27 = .ok (.iconst 1, 1) := by decide +kernel
theorem dX1_isDoubtful_28 : decode cX1_isDoubtful 28 = .ok (.ireturn, 1) := by decide +kernel
theorem dX1_isDoubtful_29 : decode cX1_isDoubtful 29 = .ok (.iinc 4 (-1), 3) := by decide +kernel
theorem dX1_isDoubtful_32 : decode cX1_isDoubtful 32 = .ok (.goto (-22), 3) := by decide +kernel
theorem dX1_isDoubtful_35 : decode cX1_isDoubtful 35 = .ok (.iconst 0, 1) := by decide +kernel
theorem dX1_isDoubtful_36 : decode cX1_isDoubtful 36 = .ok (.ireturn, 1) := by decide +kernel
theorem dX1_followersOf_0 : decode cX1_followersOf 0 = .ok (.iload_n 1, 1) := by decide +kernel
theorem dX1_followersOf_1 : decode cX1_followersOf 1 = .ok (.istore_n 3, 1) := by decide +kernel
theorem dX1_followersOf_2 : decode cX1_followersOf 2 = .ok (.iload_n 3, 1) := by decide +kernel
theorem dX1_followersOf_3 : decode cX1_followersOf 3 = .ok (.iconst 1, 1) := by decide +kernel
theorem dX1_followersOf_4 : decode cX1_followersOf 4 = .ok (.iadd, 1) := by decide +kernel
theorem dX1_followersOf_5 : decode cX1_followersOf 5 = .ok (.aload_n 0, 1) := by decide +kernel
theorem dX1_followersOf_6 : decode cX1_followersOf 6 = .ok (.getfield 27, 3) := by decide +kernel
theorem dX1_followersOf_9 : decode cX1_followersOf 9 = .ok (.if_icmp .ge 20, 3) := by decide +kernel
theorem dX1_followersOf_12 : decode cX1_followersOf 12 = .ok (.aload_n 0, 1) := by decide +kernel
theorem dX1_followersOf_13 : decode cX1_followersOf 13 = .ok (.iload_n 3, 1) := by decide +kernel
theorem dX1_followersOf_14 : decode cX1_followersOf 14 = .ok (.iconst 1, 1) := by decide +kernel
theorem dX1_followersOf_15 : decode cX1_followersOf 15 = .ok (.iadd, 1) := by decide +kernel
theorem dX1_followersOf_16 : decode cX1_followersOf 16 = .ok (.iload_n 2, 1) := by decide +kernel
theorem dX1_followersOf_17 : decode cX1_followersOf 17 = .ok (.invokevirtual 69, 3) := by decide +kernel
theorem dX1_followersOf_20 : decode cX1_followersOf 20 = .ok (.ifCond .eq 9, 3) := by decide +kernel
theorem dX1_followersOf_23 : decode cX1_followersOf 23 = .ok (.iinc 3 1, 3) := by decide +kernel
theorem dX1_followersOf_26 : decode cX1_followersOf 26 = .ok (.goto (-24), 3) := by decide +kernel
theorem dX1_followersOf_29 : decode cX1_followersOf 29 = .ok (.iload_n 3, 1) := by decide +kernel
theorem dX1_followersOf_30 : decode cX1_followersOf 30 = .ok (.iload_n 1, 1) := by decide +kernel
theorem dX1_followersOf_31 : decode cX1_followersOf 31 = .ok (.isub, 1) := by decide +kernel
theorem dX1_followersOf_32 : decode cX1_followersOf 32 = .ok (.ireturn, 1) := by decide +kernel
theorem dX1_meaningWith_0 : decode cX1_meaningWith 0 = .ok (.iload_n 3, 1) := by decide +kernel
theorem dX1_meaningWith_1 : decode cX1_meaningWith 1 = .ok (.bipush (-6), 2) := by decide +kernel
theorem dX1_meaningWith_3 : decode cX1_meaningWith 3 = .ok (.if_icmp .ne 25, 3) := by decide +kernel
theorem dX1_meaningWith_6 : decode cX1_meaningWith 6 = .ok (.aload_n 0, 1) := by decide +kernel
theorem dX1_meaningWith_7 : decode cX1_meaningWith 7 = .ok (.iload_n 1, 1) := by decide +kernel
theorem dX1_meaningWith_8 : decode cX1_meaningWith 8 = .ok (.invokevirtual 66, 3) := by decide +kernel
theorem dX1_meaningWith_11 : decode cX1_meaningWith 11 = .ok (.ifCond .eq 14, 3) := by decide +kernel
theorem dX1_meaningWith_14 : decode cX1_meaningWith 14 = .ok (.aload_n 0, 1) := by decide +kernel
theorem dX1_meaningWith_15 : decode cX1_meaningWith 15 = .ok (.iload_n 1, 1) := by decide +kernel
theorem dX1_meaningWith_16 : decode cX1_meaningWith 16 = .ok (.iconst 1, 1) := by decide +kernel
theorem dX1_meaningWith_17 : decode cX1_meaningWith 17 = .ok (.isub, 1) := by decide +kernel
theorem dX1_meaningWith_18 : decode cX1_meaningWith 18 = .ok (.iload_n 2, 1) := by decide +kernel
theorem dX1_meaningWith_19 : decode cX1_meaningWith 19 = .ok (.invokevirtual 79, 3) := by decide +kernel
theorem dX1_meaningWith_22 : decode cX1_meaningWith 22 = .ok (.goto 5, 3) := by decide +kernel
theorem dX1_meaningWith_25 : decode cX1_meaningWith 25 = .ok (.bipush (-5), 2) := by decide +kernel
theorem dX1_meaningWith_27 : decode cX1_meaningWith 27 = .ok (.ireturn, 1) := by decide +kernel
theorem dX1_meaningWith_28 : decode cX1_meaningWith 28 = .ok (.iload_n 3, 1) := by decide +kernel
theorem dX1_meaningWith_29 : decode cX1_meaningWith 29 = .ok (.ireturn, 1) := by decide +kernel
theorem dX1_changedBy_0 : decode cX1_changedBy 0 = .ok (.aload_n 0, 1) := by decide +kernel
theorem dX1_changedBy_1 : decode cX1_changedBy 1 = .ok (.iload_n 1, 1) := by decide +kernel
theorem dX1_changedBy_2 : decode cX1_changedBy 2 = .ok (.iload_n 2, 1) := by decide +kernel
theorem dX1_changedBy_3 : decode cX1_changedBy 3 = .ok (.iload_n 3, 1) := by decide +kernel
theorem dX1_changedBy_4 : decode cX1_changedBy 4 = .ok (.invokevirtual 82, 3) := by decide +kernel
theorem dX1_changedBy_7 : decode cX1_changedBy 7 = .ok (.aload_n 0, 1) := by decide +kernel
theorem dX1_changedBy_8 : decode cX1_changedBy 8 = .ok (.iload_n 1, 1) := by decide +kernel
theorem dX1_changedBy_9 : decode cX1_changedBy 9 = .ok (.iload_n 2, 1) := by decide +kernel
theorem dX1_changedBy_10 : decode cX1_changedBy 10 = .ok (.invokevirtual 79, 3) := by decide +kernel
theorem dX1_changedBy_13 : decode cX1_changedBy 13 = .ok (.if_icmp .ne 5, 3) := by decide +kernel
theorem dX1_changedBy_16 : decode cX1_changedBy 16 = .ok (.iconst 0, 1) := by decide +kernel
theorem dX1_changedBy_17 : decode cX1_changedBy 17 = .ok (.ireturn, 1) := by decide +kernel
theorem dX1_changedBy_18 : decode cX1_changedBy 18 = .ok (.iconst 1, 1) := by decide +kernel
theorem dX1_changedBy_19 : decode cX1_changedBy 19 = .ok (.aload_n 0, 1) := by decide +kernel
theorem dX1_changedBy_20 : decode cX1_changedBy 20 = .ok (.iload_n 1, 1) := by decide +kernel
theorem dX1_changedBy_21 : decode cX1_changedBy 21 = .ok (.iload_n 2, 1) := by decide +kernel
theorem dX1_changedBy_22 : decode cX1_changedBy 22 = .ok (.invokevirtual 86, 3) := by decide +kernel
theorem dX1_changedBy_25 : decode cX1_changedBy 25 = .ok (.iadd, 1) := by decide +kernel
theorem dX1_changedBy_26 : decode cX1_changedBy 26 = .ok (.ireturn, 1) := by decide +kernel
theorem dX1_countLatest_0 : decode cX1_countLatest 0 = .ok (.iconst 0, 1) := by decide +kernel
theorem dX1_countLatest_1 : decode cX1_countLatest 1 = .ok (.istore_n 3, 1) := by decide +kernel
theorem dX1_countLatest_2 : decode cX1_countLatest 2 = .ok (.iconst 0, 1) := by decide +kernel
theorem dX1_countLatest_3 : decode cX1_countLatest 3 = .ok (.istore 4, 2) := by decide +kernel
theorem dX1_countLatest_5 : decode cX1_countLatest 5 = .ok (.iload 4, 2) := by decide +kernel
theorem dX1_countLatest_7 : decode cX1_countLatest 7 = .ok (.aload_n 0, 1) := by decide +kernel
theorem dX1_countLatest_8 : decode cX1_countLatest 8 = .ok (.getfield 27, 3) := by decide +kernel
theorem dX1_countLatest_11 : decode cX1_countLatest 11 = .ok (.if_icmp .ge 23, 3) := by decide +kernel
theorem dX1_countLatest_14 : decode cX1_countLatest 14 = .ok (.aload_n 0, 1) := by decide +kernel
theorem dX1_countLatest_15 : decode cX1_countLatest 15 = .ok (.iload 4, 2) := by decide +kernel
theorem dX1_countLatest_17 : decode cX1_countLatest 17 = .ok (.iload_n 1, 1) := by decide +kernel
theorem dX1_countLatest_18 : decode cX1_countLatest 18 = .ok (.invokevirtual 62, 3) := by decide +kernel
theorem dX1_countLatest_21 : decode cX1_countLatest 21 = .ok (.iload_n 2, 1) := by decide +kernel
theorem dX1_countLatest_22 : decode cX1_countLatest 22 = .ok (.if_icmp .ne 6, 3) := by decide +kernel
theorem dX1_countLatest_25 : decode cX1_countLatest 25 = .ok (.iinc 3 1, 3) := by decide +kernel
theorem dX1_countLatest_28 : decode cX1_countLatest 28 = .ok (.iinc 4 1, 3) := by decide +kernel
theorem dX1_countLatest_31 : decode cX1_countLatest 31 = .ok (.goto (-26), 3) := by decide +kernel
theorem dX1_countLatest_34 : decode cX1_countLatest 34 = .ok (.iload_n 3, 1) := by decide +kernel
theorem dX1_countLatest_35 : decode cX1_countLatest 35 = .ok (.ireturn, 1) := by decide +kernel
theorem dX1_countCorrections_0 : decode cX1_countCorrections 0 = .ok (.iconst 0, 1) := by decide +kernel
theorem dX1_countCorrections_1 : decode cX1_countCorrections 1 = .ok (.istore_n 2, 1) := by decide +kernel
theorem dX1_countCorrections_2 : decode cX1_countCorrections 2 = .ok (.iconst 0, 1) := by decide +kernel
theorem dX1_countCorrections_3 : decode cX1_countCorrections 3 = .ok (.istore_n 3, 1) := by decide +kernel
theorem dX1_countCorrections_4 : decode cX1_countCorrections 4 = .ok (.iload_n 3, 1) := by decide +kernel
theorem dX1_countCorrections_5 : decode cX1_countCorrections 5 = .ok (.aload_n 0, 1) := by decide +kernel
theorem dX1_countCorrections_6 : decode cX1_countCorrections 6 = .ok (.getfield 27, 3) := by decide +kernel
theorem dX1_countCorrections_9 : decode cX1_countCorrections 9 = .ok (.if_icmp .ge 20, 3) := by decide +kernel
theorem dX1_countCorrections_12 : decode cX1_countCorrections 12 = .ok (.iload_n 2, 1) := by decide +kernel
theorem dX1_countCorrections_13 : decode cX1_countCorrections 13 = .ok (.aload_n 0, 1) := by decide +kernel
theorem dX1_countCorrections_14 : decode cX1_countCorrections 14 = .ok (.iload_n 3, 1) := by decide +kernel
theorem dX1_countCorrections_15 : decode cX1_countCorrections 15 = .ok (.iload_n 1, 1) := by decide +kernel
theorem dX1_countCorrections_16 : decode cX1_countCorrections 16 = .ok (.invokevirtual 76, 3) := by decide +kernel
theorem dX1_countCorrections_19 : decode cX1_countCorrections 19 = .ok (.iconst 1, 1) := by decide +kernel
theorem dX1_countCorrections_20 : decode cX1_countCorrections 20 = .ok (.isub, 1) := by decide +kernel
theorem dX1_countCorrections_21 : decode cX1_countCorrections 21 = .ok (.iadd, 1) := by decide +kernel
theorem dX1_countCorrections_22 : decode cX1_countCorrections 22 = .ok (.istore_n 2, 1) := by decide +kernel
theorem dX1_countCorrections_23 : decode cX1_countCorrections 23 = .ok (.iinc 3 1, 3) := by decide +kernel
theorem dX1_countCorrections_26 : decode cX1_countCorrections 26 = .ok (.goto (-22), 3) := by decide +kernel
theorem dX1_countCorrections_29 : decode cX1_countCorrections 29 = .ok (.iload_n 2, 1) := by decide +kernel
theorem dX1_countCorrections_30 : decode cX1_countCorrections 30 = .ok (.ireturn, 1) := by decide +kernel
theorem dX1_countMeaningless_0 : decode cX1_countMeaningless 0 = .ok (.iconst 0, 1) := by decide +kernel
theorem dX1_countMeaningless_1 : decode cX1_countMeaningless 1 = .ok (.istore 4, 2) := by decide +kernel
theorem dX1_countMeaningless_3 : decode cX1_countMeaningless 3 = .ok (.iload_n 2, 1) := by decide +kernel
theorem dX1_countMeaningless_4 : decode cX1_countMeaningless 4 = .ok (.istore 5, 2) := by decide +kernel
theorem dX1_countMeaningless_6 : decode cX1_countMeaningless 6 = .ok (.iload 5, 2) := by decide +kernel
theorem dX1_countMeaningless_8 : decode cX1_countMeaningless 8 = .ok (.iload_n 3, 1) := by decide +kernel
theorem dX1_countMeaningless_9 : decode cX1_countMeaningless 9 = .ok (.if_icmp .gt 24, 3) := by decide +kernel
theorem dX1_countMeaningless_12 : decode cX1_countMeaningless 12 = .ok (.aload_n 0, 1) := by decide +kernel
theorem dX1_countMeaningless_13 : decode cX1_countMeaningless 13 = .ok (.iload 5, 2) := by decide +kernel
theorem dX1_countMeaningless_15 : decode cX1_countMeaningless 15 = .ok (.iload_n 1, 1) := by decide +kernel
theorem dX1_countMeaningless_16 : decode cX1_countMeaningless 16 = .ok (.invokevirtual 79, 3) := by decide +kernel
theorem dX1_countMeaningless_19 : decode cX1_countMeaningless 19 = .ok (.bipush (-5), 2) := by decide +kernel
theorem dX1_countMeaningless_21 : decode cX1_countMeaningless 21 = .ok (.if_icmp .ne 6, 3) := by decide +kernel
theorem dX1_countMeaningless_24 : decode cX1_countMeaningless 24 = .ok (.iinc 4 1, 3) := by decide +kernel
theorem dX1_countMeaningless_27 : decode cX1_countMeaningless 27 = .ok (.iinc 5 1, 3) := by decide +kernel
theorem dX1_countMeaningless_30 : decode cX1_countMeaningless 30 = .ok (.goto (-24), 3) := by decide +kernel
theorem dX1_countMeaningless_33 : decode cX1_countMeaningless 33 = .ok (.iload 4, 2) := by decide +kernel
theorem dX1_countMeaningless_35 : decode cX1_countMeaningless 35 = .ok (.ireturn, 1) := by decide +kernel
theorem dX1_countDoubtful_0 : decode cX1_countDoubtful 0 = .ok (.iconst 0, 1) := by decide +kernel
theorem dX1_countDoubtful_1 : decode cX1_countDoubtful 1 = .ok (.istore 4, 2) := by decide +kernel
theorem dX1_countDoubtful_3 : decode cX1_countDoubtful 3 = .ok (.iload_n 2, 1) := by decide +kernel
theorem dX1_countDoubtful_4 : decode cX1_countDoubtful 4 = .ok (.istore 5, 2) := by decide +kernel
theorem dX1_countDoubtful_6 : decode cX1_countDoubtful 6 = .ok (.iload 5, 2) := by decide +kernel
theorem dX1_countDoubtful_8 : decode cX1_countDoubtful 8 = .ok (.iload_n 3, 1) := by decide +kernel
theorem dX1_countDoubtful_9 : decode cX1_countDoubtful 9 = .ok (.if_icmp .gt 22, 3) := by decide +kernel
theorem dX1_countDoubtful_12 : decode cX1_countDoubtful 12 = .ok (.aload_n 0, 1) := by decide +kernel
theorem dX1_countDoubtful_13 : decode cX1_countDoubtful 13 = .ok (.iload 5, 2) := by decide +kernel
theorem dX1_countDoubtful_15 : decode cX1_countDoubtful 15 = .ok (.iload_n 1, 1) := by decide +kernel
theorem dX1_countDoubtful_16 : decode cX1_countDoubtful 16 = .ok (.invokevirtual 89, 3) := by decide +kernel
theorem dX1_countDoubtful_19 : decode cX1_countDoubtful 19 = .ok (.ifCond .eq 6, 3) := by decide +kernel
theorem dX1_countDoubtful_22 : decode cX1_countDoubtful 22 = .ok (.iinc 4 1, 3) := by decide +kernel
theorem dX1_countDoubtful_25 : decode cX1_countDoubtful 25 = .ok (.iinc 5 1, 3) := by decide +kernel
theorem dX1_countDoubtful_28 : decode cX1_countDoubtful 28 = .ok (.goto (-22), 3) := by decide +kernel
theorem dX1_countDoubtful_31 : decode cX1_countDoubtful 31 = .ok (.iload 4, 2) := by decide +kernel
theorem dX1_countDoubtful_33 : decode cX1_countDoubtful 33 = .ok (.ireturn, 1) := by decide +kernel
theorem dX1_longestChain_0 : decode cX1_longestChain 0 = .ok (.iconst 0, 1) := by decide +kernel
theorem dX1_longestChain_1 : decode cX1_longestChain 1 = .ok (.istore_n 2, 1) := by decide +kernel
theorem dX1_longestChain_2 : decode cX1_longestChain 2 = .ok (.iconst 0, 1) := by decide +kernel
theorem dX1_longestChain_3 : decode cX1_longestChain 3 = .ok (.istore_n 3, 1) := by decide +kernel
theorem dX1_longestChain_4 : decode cX1_longestChain 4 = .ok (.iload_n 3, 1) := by decide +kernel
theorem dX1_longestChain_5 : decode cX1_longestChain 5 = .ok (.aload_n 0, 1) := by decide +kernel
theorem dX1_longestChain_6 : decode cX1_longestChain 6 = .ok (.getfield 27, 3) := by decide +kernel
theorem dX1_longestChain_9 : decode cX1_longestChain 9 = .ok (.if_icmp .ge 20, 3) := by decide +kernel
theorem dX1_longestChain_12 : decode cX1_longestChain 12 = .ok (.iload_n 2, 1) := by decide +kernel
theorem dX1_longestChain_13 : decode cX1_longestChain 13 = .ok (.aload_n 0, 1) := by decide +kernel
theorem dX1_longestChain_14 : decode cX1_longestChain 14 = .ok (.iload_n 3, 1) := by decide +kernel
theorem dX1_longestChain_15 : decode cX1_longestChain 15 = .ok (.iload_n 1, 1) := by decide +kernel
theorem dX1_longestChain_16 : decode cX1_longestChain 16 = .ok (.invokevirtual 92, 3) := by decide +kernel
theorem dX1_longestChain_19 : decode cX1_longestChain 19 = .ok (.invokestatic 95, 3) := by decide +kernel
theorem dX1_longestChain_22 : decode cX1_longestChain 22 = .ok (.istore_n 2, 1) := by decide +kernel
theorem dX1_longestChain_23 : decode cX1_longestChain 23 = .ok (.iinc 3 1, 3) := by decide +kernel
theorem dX1_longestChain_26 : decode cX1_longestChain 26 = .ok (.goto (-22), 3) := by decide +kernel
theorem dX1_longestChain_29 : decode cX1_longestChain 29 = .ok (.iload_n 2, 1) := by decide +kernel
theorem dX1_longestChain_30 : decode cX1_longestChain 30 = .ok (.ireturn, 1) := by decide +kernel
theorem dX1_countWrittenOut_0 : decode cX1_countWrittenOut 0 = .ok (.iconst 0, 1) := by decide +kernel
theorem dX1_countWrittenOut_1 : decode cX1_countWrittenOut 1 = .ok (.istore_n 1, 1) := by decide +kernel
theorem dX1_countWrittenOut_2 : decode cX1_countWrittenOut 2 = .ok (.iconst 0, 1) := by decide +kernel
theorem dX1_countWrittenOut_3 : decode cX1_countWrittenOut 3 = .ok (.istore_n 2, 1) := by decide +kernel
theorem dX1_countWrittenOut_4 : decode cX1_countWrittenOut 4 = .ok (.iload_n 2, 1) := by decide +kernel
theorem dX1_countWrittenOut_5 : decode cX1_countWrittenOut 5 = .ok (.aload_n 0, 1) := by decide +kernel
theorem dX1_countWrittenOut_6 : decode cX1_countWrittenOut 6 = .ok (.getfield 27, 3) := by decide +kernel
theorem dX1_countWrittenOut_9 : decode cX1_countWrittenOut 9 = .ok (.if_icmp .ge 20, 3) := by decide +kernel
theorem dX1_countWrittenOut_12 : decode cX1_countWrittenOut 12 = .ok (.aload_n 0, 1) := by decide +kernel
theorem dX1_countWrittenOut_13 : decode cX1_countWrittenOut 13 = .ok (.iload_n 2, 1) := by decide +kernel
theorem dX1_countWrittenOut_14 : decode cX1_countWrittenOut 14 = .ok (.invokevirtual 100, 3) := by decide +kernel
theorem dX1_countWrittenOut_17 : decode cX1_countWrittenOut 17 = .ok (.ifCond .eq 6, 3) := by decide +kernel
theorem dX1_countWrittenOut_20 : decode cX1_countWrittenOut 20 = .ok (.iinc 1 1, 3) := by decide +kernel
theorem dX1_countWrittenOut_23 : decode cX1_countWrittenOut 23 = .ok (.iinc 2 1, 3) := by decide +kernel
theorem dX1_countWrittenOut_26 : decode cX1_countWrittenOut 26 = .ok (.goto (-22), 3) := by decide +kernel
theorem dX1_countWrittenOut_29 : decode cX1_countWrittenOut 29 = .ok (.iload_n 1, 1) := by decide +kernel
theorem dX1_countWrittenOut_30 : decode cX1_countWrittenOut 30 = .ok (.ireturn, 1) := by decide +kernel
theorem dX1_watches_0 : decode cX1_watches 0 = .ok (.aload_n 0, 1) := by decide +kernel
theorem dX1_watches_1 : decode cX1_watches 1 = .ok (.getfield 37, 3) := by decide +kernel
theorem dX1_watches_4 : decode cX1_watches 4 = .ok (.ifCond .le 22, 3) := by decide +kernel
theorem dX1_watches_7 : decode cX1_watches 7 = .ok (.aload_n 0, 1) := by decide +kernel
theorem dX1_watches_8 : decode cX1_watches 8 = .ok (.getfield 27, 3) := by decide +kernel
theorem dX1_watches_11 : decode cX1_watches 11 = .ok (.aload_n 0, 1) := by decide +kernel
theorem dX1_watches_12 : decode cX1_watches 12 = .ok (.getfield 37, 3) := by decide +kernel
theorem dX1_watches_15 : decode cX1_watches 15 = .ok (.iadd, 1) := by decide +kernel
theorem dX1_watches_16 : decode cX1_watches 16 = .ok (.iconst 1, 1) := by decide +kernel
theorem dX1_watches_17 : decode cX1_watches 17 = .ok (.isub, 1) := by decide +kernel
theorem dX1_watches_18 : decode cX1_watches 18 = .ok (.aload_n 0, 1) := by decide +kernel
theorem dX1_watches_19 : decode cX1_watches 19 = .ok (.getfield 37, 3) := by decide +kernel
theorem dX1_watches_22 : decode cX1_watches 22 = .ok (.idiv, 1) := by decide +kernel
theorem dX1_watches_23 : decode cX1_watches 23 = .ok (.goto 4, 3) := by decide +kernel
theorem dX1_watches_26 : decode cX1_watches 26 = .ok (.iconst 0, 1) := by decide +kernel
theorem dX1_watches_27 : decode cX1_watches 27 = .ok (.ireturn, 1) := by decide +kernel
theorem dX1_firstRowOf_0 : decode cX1_firstRowOf 0 = .ok (.iload_n 1, 1) := by decide +kernel
theorem dX1_firstRowOf_1 : decode cX1_firstRowOf 1 = .ok (.aload_n 0, 1) := by decide +kernel
theorem dX1_firstRowOf_2 : decode cX1_firstRowOf 2 = .ok (.getfield 37, 3) := by decide +kernel
theorem dX1_firstRowOf_5 : decode cX1_firstRowOf 5 = .ok (.imul, 1) := by decide +kernel
theorem dX1_firstRowOf_6 : decode cX1_firstRowOf 6 = .ok (.ireturn, 1) := by decide +kernel
theorem dX1_lastRowOf_0 : decode cX1_lastRowOf 0 = .ok (.iload_n 1, 1) := by decide +kernel
theorem dX1_lastRowOf_1 : decode cX1_lastRowOf 1 = .ok (.aload_n 0, 1) := by decide +kernel
theorem dX1_lastRowOf_2 : decode cX1_lastRowOf 2 = .ok (.getfield 37, 3) := by decide +kernel
theorem dX1_lastRowOf_5 : decode cX1_lastRowOf 5 = .ok (.imul, 1) := by decide +kernel
theorem dX1_lastRowOf_6 : decode cX1_lastRowOf 6 = .ok (.aload_n 0, 1) := by decide +kernel
theorem dX1_lastRowOf_7 : decode cX1_lastRowOf 7 = .ok (.getfield 37, 3) := by decide +kernel
theorem dX1_lastRowOf_10 : decode cX1_lastRowOf 10 = .ok (.iadd, 1) := by decide +kernel
theorem dX1_lastRowOf_11 : decode cX1_lastRowOf 11 = .ok (.aload_n 0, 1) := by decide +kernel
theorem dX1_lastRowOf_12 : decode cX1_lastRowOf 12 = .ok (.getfield 27, 3) := by decide +kernel
theorem dX1_lastRowOf_15 : decode cX1_lastRowOf 15 = .ok (.invokestatic 103, 3) := by decide +kernel
theorem dX1_lastRowOf_18 : decode cX1_lastRowOf 18 = .ok (.iconst 1, 1) := by decide +kernel
theorem dX1_lastRowOf_19 : decode cX1_lastRowOf 19 = .ok (.isub, 1) := by decide +kernel
theorem dX1_lastRowOf_20 : decode cX1_lastRowOf 20 = .ok (.ireturn, 1) := by decide +kernel
theorem dX1_runOf_0 : decode cX1_runOf 0 = .ok (.iconst 0, 1) := by decide +kernel
theorem dX1_runOf_1 : decode cX1_runOf 1 = .ok (.istore_n 3, 1) := by decide +kernel
theorem dX1_runOf_2 : decode cX1_runOf 2 = .ok (.iload_n 1, 1) := by decide +kernel
theorem dX1_runOf_3 : decode cX1_runOf 3 = .ok (.istore 4, 2) := by decide +kernel
theorem dX1_runOf_5 : decode cX1_runOf 5 = .ok (.iload 4, 2) := by decide +kernel
theorem dX1_runOf_7 : decode cX1_runOf 7 = .ok (.iload_n 2, 1) := by decide +kernel
theorem dX1_runOf_8 : decode cX1_runOf 8 = .ok (.if_icmp .gt 23, 3) := by decide +kernel
theorem dX1_runOf_11 : decode cX1_runOf 11 = .ok (.iload_n 3, 1) := by decide +kernel
theorem dX1_runOf_12 : decode cX1_runOf 12 = .ok (.iconst 0, 1) := by decide +kernel
theorem dX1_runOf_13 : decode cX1_runOf 13 = .ok (.aload_n 0, 1) := by decide +kernel
theorem dX1_runOf_14 : decode cX1_runOf 14 = .ok (.iload 4, 2) := by decide +kernel
theorem dX1_runOf_16 : decode cX1_runOf 16 = .ok (.iconst 1, 1) := by decide +kernel
theorem dX1_runOf_17 : decode cX1_runOf 17 = .ok (.invokevirtual 79, 3) := by decide +kernel
theorem dX1_runOf_20 : decode cX1_runOf 20 = .ok (.invokestatic 95, 3) := by decide +kernel
theorem dX1_runOf_23 : decode cX1_runOf 23 = .ok (.iadd, 1) := by decide +kernel
theorem dX1_runOf_24 : decode cX1_runOf 24 = .ok (.istore_n 3, 1) := by decide +kernel
theorem dX1_runOf_25 : decode cX1_runOf 25 = .ok (.iinc 4 1, 3) := by decide +kernel
theorem dX1_runOf_28 : decode cX1_runOf 28 = .ok (.goto (-23), 3) := by decide +kernel
theorem dX1_runOf_31 : decode cX1_runOf 31 = .ok (.iload_n 3, 1) := by decide +kernel
theorem dX1_runOf_32 : decode cX1_runOf 32 = .ok (.ireturn, 1) := by decide +kernel
theorem dX1_countWrongSums_0 : decode cX1_countWrongSums 0 = .ok (.iconst 0, 1) := by decide +kernel
theorem dX1_countWrongSums_1 : decode cX1_countWrongSums 1 = .ok (.istore_n 1, 1) := by decide +kernel
theorem dX1_countWrongSums_2 : decode cX1_countWrongSums 2 = .ok (.aload_n 0, 1) := by decide +kernel
theorem dX1_countWrongSums_3 : decode cX1_countWrongSums 3 = .ok (.invokevirtual 106, 3) := by decide +kernel
theorem dX1_countWrongSums_6 : decode cX1_countWrongSums 6 = .ok (.istore_n 2, 1) := by decide +kernel
theorem dX1_countWrongSums_7 : decode cX1_countWrongSums 7 = .ok (.iconst 0, 1) := by decide +kernel
theorem dX1_countWrongSums_8 : decode cX1_countWrongSums 8 = .ok (.istore_n 3, 1) := by decide +kernel
theorem dX1_countWrongSums_9 : decode cX1_countWrongSums 9 = .ok (.iload_n 3, 1) := by decide +kernel
theorem dX1_countWrongSums_10 : decode cX1_countWrongSums 10 = .ok (.iload_n 2, 1) := by decide +kernel
theorem dX1_countWrongSums_11 : decode cX1_countWrongSums 11 = .ok (.if_icmp .ge 45, 3) := by decide +kernel
theorem dX1_countWrongSums_14 : decode cX1_countWrongSums 14 = .ok (.aload_n 0, 1) := by decide +kernel
theorem dX1_countWrongSums_15 : decode cX1_countWrongSums 15 = .ok (.iload_n 3, 1) := by decide +kernel
theorem dX1_countWrongSums_16 : decode cX1_countWrongSums 16 = .ok (.invokevirtual 110, 3) := by decide +kernel
theorem dX1_countWrongSums_19 : decode cX1_countWrongSums 19 = .ok (.istore 4, 2) := by decide +kernel
theorem dX1_countWrongSums_21 : decode cX1_countWrongSums 21 = .ok (.iload 4, 2) := by decide +kernel
theorem dX1_countWrongSums_23 : decode cX1_countWrongSums 23 = .ok (.bipush (-5), 2) := by decide +kernel
theorem dX1_countWrongSums_25 : decode cX1_countWrongSums 25 = .ok (.if_icmp .eq 25, 3) := by decide +kernel
theorem dX1_countWrongSums_28 : decode cX1_countWrongSums 28 = .ok (.iload 4, 2) := by decide +kernel
theorem dX1_countWrongSums_30 : decode cX1_countWrongSums 30 = .ok (.aload_n 0, 1) := by decide +kernel
theorem dX1_countWrongSums_31 : decode cX1_countWrongSums 31 = .ok (.aload_n 0, 1) := by decide +kernel
theorem dX1_countWrongSums_32 : decode cX1_countWrongSums 32 = .ok (.iload_n 3, 1) := by decide +kernel
theorem dX1_countWrongSums_33 : decode cX1_countWrongSums 33 = .ok (.invokevirtual 114, 3) := by decide +kernel
theorem dX1_countWrongSums_36 : decode cX1_countWrongSums 36 = .ok (.aload_n 0, 1) := by decide +kernel
theorem dX1_countWrongSums_37 : decode cX1_countWrongSums 37 = .ok (.iload_n 3, 1) := by decide +kernel
theorem dX1_countWrongSums_38 : decode cX1_countWrongSums 38 = .ok (.invokevirtual 117, 3) := by decide +kernel
theorem dX1_countWrongSums_41 : decode cX1_countWrongSums 41 = .ok (.invokevirtual 120, 3) := by decide +kernel
theorem dX1_countWrongSums_44 : decode cX1_countWrongSums 44 = .ok (.if_icmp .eq 6, 3) := by decide +kernel
theorem dX1_countWrongSums_47 : decode cX1_countWrongSums 47 = .ok (.iinc 1 1, 3) := by decide +kernel
theorem dX1_countWrongSums_50 : decode cX1_countWrongSums 50 = .ok (.iinc 3 1, 3) := by decide +kernel
theorem dX1_countWrongSums_53 : decode cX1_countWrongSums 53 = .ok (.goto (-44), 3) := by decide +kernel
theorem dX1_countWrongSums_56 : decode cX1_countWrongSums 56 = .ok (.iload_n 1, 1) := by decide +kernel
theorem dX1_countWrongSums_57 : decode cX1_countWrongSums 57 = .ok (.ireturn, 1) := by decide +kernel
theorem dX1_wayOf_0 : decode cX1_wayOf 0 = .ok (.dconst 0, 1) := by decide +kernel
theorem dX1_wayOf_1 : decode cX1_wayOf 1 = .ok (.dstore 4, 2) := by decide +kernel
theorem dX1_wayOf_3 : decode cX1_wayOf 3 = .ok (.iload_n 1, 1) := by decide +kernel
theorem dX1_wayOf_4 : decode cX1_wayOf 4 = .ok (.istore 6, 2) := by decide +kernel
theorem dX1_wayOf_6 : decode cX1_wayOf 6 = .ok (.iload 6, 2) := by decide +kernel
theorem dX1_wayOf_8 : decode cX1_wayOf 8 = .ok (.iload_n 2, 1) := by decide +kernel
theorem dX1_wayOf_9 : decode cX1_wayOf 9 = .ok (.if_icmp .gt 60, 3) := by decide +kernel
theorem dX1_wayOf_12 : decode cX1_wayOf 12 = .ok (.aload_n 0, 1) := by decide +kernel
theorem dX1_wayOf_13 : decode cX1_wayOf 13 = .ok (.iload 6, 2) := by decide +kernel
theorem dX1_wayOf_15 : decode cX1_wayOf 15 = .ok (.iconst 0, 1) := by decide +kernel
theorem dX1_wayOf_16 : decode cX1_wayOf 16 = .ok (.invokevirtual 79, 3) := by decide +kernel
theorem dX1_wayOf_19 : decode cX1_wayOf 19 = .ok (.istore 7, 2) := by decide +kernel
theorem dX1_wayOf_21 : decode cX1_wayOf 21 = .ok (.aload_n 0, 1) := by decide +kernel
theorem dX1_wayOf_22 : decode cX1_wayOf 22 = .ok (.iload 6, 2) := by decide +kernel
theorem dX1_wayOf_24 : decode cX1_wayOf 24 = .ok (.iconst 1, 1) := by decide +kernel
theorem dX1_wayOf_25 : decode cX1_wayOf 25 = .ok (.invokevirtual 79, 3) := by decide +kernel
theorem dX1_wayOf_28 : decode cX1_wayOf 28 = .ok (.istore 8, 2) := by decide +kernel
theorem dX1_wayOf_30 : decode cX1_wayOf 30 = .ok (.iload 7, 2) := by decide +kernel
theorem dX1_wayOf_32 : decode cX1_wayOf 32 = .ok (.ifCond .lt 31, 3) := by decide +kernel
theorem dX1_wayOf_35 : decode cX1_wayOf 35 = .ok (.iload 8, 2) := by decide +kernel
theorem dX1_wayOf_37 : decode cX1_wayOf 37 = .ok (.ifCond .lt 26, 3) := by decide +kernel
theorem dX1_wayOf_40 : decode cX1_wayOf 40 = .ok (.dload 4, 2) := by decide +kernel
theorem dX1_wayOf_42 : decode cX1_wayOf 42 = .ok (.iload 8, 2) := by decide +kernel
theorem dX1_wayOf_44 : decode cX1_wayOf 44 = .ok (.i2d, 1) := by decide +kernel
theorem dX1_wayOf_45 : decode cX1_wayOf 45 = .ok (.ldc2_w 123, 3) := by decide +kernel
theorem dX1_wayOf_48 : decode cX1_wayOf 48 = .ok (.ddiv, 1) := by decide +kernel
theorem dX1_wayOf_49 : decode cX1_wayOf 49 = .ok (.iload 7, 2) := by decide +kernel
theorem dX1_wayOf_51 : decode cX1_wayOf 51 = .ok (.iload_n 3, 1) := by decide +kernel
theorem dX1_wayOf_52 : decode cX1_wayOf 52 = .ok (.iadd, 1) := by decide +kernel
theorem dX1_wayOf_53 : decode cX1_wayOf 53 = .ok (.bipush 8, 2) := by decide +kernel
theorem dX1_wayOf_55 : decode cX1_wayOf 55 = .ok (.irem, 1) := by decide +kernel
theorem dX1_wayOf_56 : decode cX1_wayOf 56 = .ok (.invokestatic 125, 3) := by decide +kernel
theorem dX1_wayOf_59 : decode cX1_wayOf 59 = .ok (.dmul, 1) := by decide +kernel
theorem dX1_wayOf_60 : decode cX1_wayOf 60 = .ok (.dadd, 1) := by decide +kernel
theorem dX1_wayOf_61 : decode cX1_wayOf 61 = .ok (.dstore 4, 2) := by decide +kernel
theorem dX1_wayOf_63 : decode cX1_wayOf 63 = .ok (.iinc 6 1, 3) := by decide +kernel
theorem dX1_wayOf_66 : decode cX1_wayOf 66 = .ok (.goto (-60), 3) := by decide +kernel
theorem dX1_wayOf_69 : decode cX1_wayOf 69 = .ok (.dload 4, 2) := by decide +kernel
theorem dX1_wayOf_71 : decode cX1_wayOf 71 = .ok (.dreturn, 1) := by decide +kernel
theorem dX2_init_0 : decode cX2_init 0 = .ok (.aload_n 0, 1) := by decide +kernel
theorem dX2_init_1 : decode cX2_init 1 = .ok (.invokespecial 3, 3) := by decide +kernel
theorem dX2_init_4 : decode cX2_init 4 = .ok (.aload_n 0, 1) := by decide +kernel
theorem dX2_init_5 : decode cX2_init 5 = .ok (.bipush 60, 2) := by decide +kernel
theorem dX2_init_7 : decode cX2_init 7 = .ok (.newarray .char, 2) := by decide +kernel
theorem dX2_init_9 : decode cX2_init 9 = .ok (.putfield 9, 3) := by decide +kernel
theorem dX2_init_12 : decode cX2_init 12 = .ok (.aload_n 0, 1) := by decide +kernel
theorem dX2_init_13 : decode cX2_init 13 = .ok (.bipush 60, 2) := by decide +kernel
theorem dX2_init_15 : decode cX2_init 15 = .ok (.newarray .int, 2) := by decide +kernel
theorem dX2_init_17 : decode cX2_init 17 = .ok (.putfield 15, 3) := by decide +kernel
theorem dX2_init_20 : decode cX2_init 20 = .ok (.aload_n 0, 1) := by decide +kernel
theorem dX2_init_21 : decode cX2_init 21 = .ok (.iconst 0, 1) := by decide +kernel
theorem dX2_init_22 : decode cX2_init 22 = .ok (.putfield 19, 3) := by decide +kernel
theorem dX2_init_25 : decode cX2_init 25 = .ok (.aload_n 0, 1) := by decide +kernel
theorem dX2_init_26 : decode cX2_init 26 = .ok (.iconst 0, 1) := by decide +kernel
theorem dX2_init_27 : decode cX2_init 27 = .ok (.putfield 23, 3) := by decide +kernel
theorem dX2_init_30 : decode cX2_init 30 = .ok (.return_, 1) := by decide +kernel
theorem dX2_append_0 : decode cX2_append 0 = .ok (.aload_n 0, 1) := by decide +kernel
theorem dX2_append_1 : decode cX2_append 1 = .ok (.getfield 19, 3) := by decide +kernel
theorem dX2_append_4 : decode cX2_append 4 = .ok (.ifCond .lt 15, 3) := by decide +kernel
theorem dX2_append_7 : decode cX2_append 7 = .ok (.aload_n 0, 1) := by decide +kernel
theorem dX2_append_8 : decode cX2_append 8 = .ok (.getfield 19, 3) := by decide +kernel
theorem dX2_append_11 : decode cX2_append 11 = .ok (.aload_n 0, 1) := by decide +kernel
theorem dX2_append_12 : decode cX2_append 12 = .ok (.getfield 9, 3) := by decide +kernel
theorem dX2_append_15 : decode cX2_append 15 = .ok (.arraylength, 1) := by decide +kernel
theorem dX2_append_16 : decode cX2_append 16 = .ok (.if_icmp .lt 5, 3) := by decide +kernel
theorem dX2_append_19 : decode cX2_append 19 = .ok (.iconst 0, 1) := by decide +kernel
theorem dX2_append_20 : decode cX2_append 20 = .ok (.ireturn, 1) := by decide +kernel
theorem dX2_append_21 : decode cX2_append 21 = .ok (.aload_n 0, 1) := by decide +kernel
theorem dX2_append_22 : decode cX2_append 22 = .ok (.getfield 9, 3) := by decide +kernel
theorem dX2_append_25 : decode cX2_append 25 = .ok (.aload_n 0, 1) := by decide +kernel
theorem dX2_append_26 : decode cX2_append 26 = .ok (.getfield 19, 3) := by decide +kernel
theorem dX2_append_29 : decode cX2_append 29 = .ok (.iload_n 1, 1) := by decide +kernel
theorem dX2_append_30 : decode cX2_append 30 = .ok (.castore, 1) := by decide +kernel
theorem dX2_append_31 : decode cX2_append 31 = .ok (.aload_n 0, 1) := by decide +kernel
theorem dX2_append_32 : decode cX2_append 32 = .ok (.dup, 1) := by decide +kernel
theorem dX2_append_33 : decode cX2_append 33 = .ok (.getfield 19, 3) := by decide +kernel
theorem dX2_append_36 : decode cX2_append 36 = .ok (.iconst 1, 1) := by decide +kernel
theorem dX2_append_37 : decode cX2_append 37 = .ok (.iadd, 1) := by decide +kernel
theorem dX2_append_38 : decode cX2_append 38 = .ok (.putfield 19, 3) := by decide +kernel
theorem dX2_append_41 : decode cX2_append 41 = .ok (.iconst 1, 1) := by decide +kernel
theorem dX2_append_42 : decode cX2_append 42 = .ok (.ireturn, 1) := by decide +kernel
theorem dX2_readRows_0 : decode cX2_readRows 0 = .ok (.aload_n 0, 1) := by decide +kernel
theorem dX2_readRows_1 : decode cX2_readRows 1 = .ok (.iconst 0, 1) := by decide +kernel
theorem dX2_readRows_2 : decode cX2_readRows 2 = .ok (.putfield 23, 3) := by decide +kernel
theorem dX2_readRows_5 : decode cX2_readRows 5 = .ok (.bipush (-7), 2) := by decide +kernel
theorem dX2_readRows_7 : decode cX2_readRows 7 = .ok (.istore_n 1, 1) := by decide +kernel
theorem dX2_readRows_8 : decode cX2_readRows 8 = .ok (.iconst 0, 1) := by decide +kernel
theorem dX2_readRows_9 : decode cX2_readRows 9 = .ok (.istore_n 2, 1) := by decide +kernel
theorem dX2_readRows_10 : decode cX2_readRows 10 = .ok (.iload_n 2, 1) := by decide +kernel
theorem dX2_readRows_11 : decode cX2_readRows 11 = .ok (.aload_n 0, 1) := by decide +kernel
theorem dX2_readRows_12 : decode cX2_readRows 12 = .ok (.getfield 19, 3) := by decide +kernel
theorem dX2_readRows_15 : decode cX2_readRows 15 = .ok (.if_icmp .ge 73, 3) := by decide +kernel
theorem dX2_readRows_18 : decode cX2_readRows 18 = .ok (.iload_n 2, 1) := by decide +kernel
theorem dX2_readRows_19 : decode cX2_readRows 19 = .ok (.aload_n 0, 1) := by decide +kernel
theorem dX2_readRows_20 : decode cX2_readRows 20 = .ok (.getfield 9, 3) := by decide +kernel
theorem dX2_readRows_23 : decode cX2_readRows 23 = .ok (.arraylength, 1) := by decide +kernel
theorem dX2_readRows_24 : decode cX2_readRows 24 = .ok (.if_icmp .ge 64, 3) := by decide +kernel
theorem dX2_readRows_27 : decode cX2_readRows 27 = .ok (.aload_n 0, 1) := by decide +kernel
theorem dX2_readRows_28 : decode cX2_readRows 28 = .ok (.getfield 9, 3) := by decide +kernel
theorem dX2_readRows_31 : decode cX2_readRows 31 = .ok (.iload_n 2, 1) := by decide +kernel
theorem dX2_readRows_32 : decode cX2_readRows 32 = .ok (.caload, 1) := by decide +kernel
theorem dX2_readRows_33 : decode cX2_readRows 33 = .ok (.istore_n 3, 1) := by decide +kernel
theorem dX2_readRows_34 : decode cX2_readRows 34 = .ok (.aload_n 0, 1) := by decide +kernel
theorem dX2_readRows_35 : decode cX2_readRows 35 = .ok (.iload_n 1, 1) := by decide +kernel
theorem dX2_readRows_36 : decode cX2_readRows 36 = .ok (.iload_n 3, 1) := by decide +kernel
theorem dX2_readRows_37 : decode cX2_readRows 37 = .ok (.invokevirtual 26, 3) := by decide +kernel
theorem dX2_readRows_40 : decode cX2_readRows 40 = .ok (.istore 4, 2) := by decide +kernel
theorem dX2_readRows_42 : decode cX2_readRows 42 = .ok (.iload 4, 2) := by decide +kernel
theorem dX2_readRows_44 : decode cX2_readRows 44 = .ok (.bipush (-8), 2) := by decide +kernel
theorem dX2_readRows_46 : decode cX2_readRows 46 = .ok (.if_icmp .eq 9, 3) := by decide +kernel
theorem dX2_readRows_49 : decode cX2_readRows 49 = .ok (.iload 4, 2) := by decide +kernel
theorem dX2_readRows_51 : decode cX2_readRows 51 = .ok (.istore_n 1, 1) := by decide +kernel
theorem dX2_readRows_52 : decode cX2_readRows 52 = .ok (.goto 30, 3) := by decide +kernel
theorem dX2_readRows_55 : decode cX2_readRows 55 = .ok (.iload_n 1, 1) := by decide +kernel
theorem dX2_readRows_56 : decode cX2_readRows 56 = .ok (.bipush (-7), 2) := by decide +kernel
theorem dX2_readRows_58 : decode cX2_readRows 58 = .ok (.if_icmp .eq 22, 3) := by decide +kernel
theorem dX2_readRows_61 : decode cX2_readRows 61 = .ok (.iload_n 3, 1) := by decide +kernel
theorem dX2_readRows_62 : decode cX2_readRows 62 = .ok (.aload_n 0, 1) := by decide +kernel
theorem dX2_readRows_63 : decode cX2_readRows 63 = .ok (.invokevirtual 30, 3) := by decide +kernel
theorem dX2_readRows_66 : decode cX2_readRows 66 = .ok (.if_icmp .ne 14, 3) := by decide +kernel
theorem dX2_readRows_69 : decode cX2_readRows 69 = .ok (.aload_n 0, 1) := by decide +kernel
theorem dX2_readRows_70 : decode cX2_readRows 70 = .ok (.iload_n 1, 1) := by decide +kernel
theorem dX2_readRows_71 : decode cX2_readRows 71 = .ok (.invokevirtual 34, 3) := by decide +kernel
theorem dX2_readRows_74 : decode cX2_readRows 74 = .ok (.bipush (-7), 2) := by decide +kernel
theorem dX2_readRows_76 : decode cX2_readRows 76 = .ok (.istore_n 1, 1) := by decide +kernel
theorem dX2_readRows_77 : decode cX2_readRows 77 = .ok (.goto 5, 3) := by decide +kernel
theorem dX2_readRows_80 : decode cX2_readRows 80 = .ok (.iload_n 2, 1) := by decide +kernel
theorem dX2_readRows_81 : decode cX2_readRows 81 = .ok (.ireturn, 1) := by decide +kernel
theorem dX2_readRows_82 : decode cX2_readRows 82 = .ok (.iinc 2 1, 3) := by decide +kernel
theorem dX2_readRows_85 : decode cX2_readRows 85 = .ok (.goto (-75), 3) := by decide +kernel
theorem dX2_readRows_88 : decode cX2_readRows 88 = .ok (.iload_n 1, 1) := by decide +kernel
theorem dX2_readRows_89 : decode cX2_readRows 89 = .ok (.bipush (-7), 2) := by decide +kernel
theorem dX2_readRows_91 : decode cX2_readRows 91 = .ok (.if_icmp .eq 11, 3) := by decide +kernel
theorem dX2_readRows_94 : decode cX2_readRows 94 = .ok (.aload_n 0, 1) := by decide +kernel
theorem dX2_readRows_95 : decode cX2_readRows 95 = .ok (.invokevirtual 38, 3) := by decide +kernel
theorem dX2_readRows_98 : decode cX2_readRows 98 = .ok (.iconst 3, 1) := by decide +kernel
theorem dX2_readRows_99 : decode cX2_readRows 99 = .ok (.if_icmp .eq 8, 3) := by decide +kernel
theorem dX2_readRows_102 : decode cX2_readRows 102 = .ok (.aload_n 0, 1) := by decide +kernel
theorem dX2_readRows_103 : decode cX2_readRows 103 = .ok (.getfield 19, 3) := by decide +kernel
theorem dX2_readRows_106 : decode cX2_readRows 106 = .ok (.ireturn, 1) := by decide +kernel
theorem dX2_readRows_107 : decode cX2_readRows 107 = .ok (.aload_n 0, 1) := by decide +kernel
theorem dX2_readRows_108 : decode cX2_readRows 108 = .ok (.iload_n 1, 1) := by decide +kernel
theorem dX2_readRows_109 : decode cX2_readRows 109 = .ok (.invokevirtual 34, 3) := by decide +kernel
theorem dX2_readRows_112 : decode cX2_readRows 112 = .ok (.iconst (-1), 1) := by decide +kernel
theorem dX2_readRows_113 : decode cX2_readRows 113 = .ok (.ireturn, 1) := by decide +kernel
theorem dX2_columnRead_0 : decode cX2_columnRead 0 = .ok (.aload_n 0, 1) := by decide +kernel
theorem dX2_columnRead_1 : decode cX2_columnRead 1 = .ok (.getfield 23, 3) := by decide +kernel
theorem dX2_columnRead_4 : decode cX2_columnRead 4 = .ok (.iconst 4, 1) := by decide +kernel
theorem dX2_columnRead_5 : decode cX2_columnRead 5 = .ok (.irem, 1) := by decide +kernel
theorem dX2_columnRead_6 : decode cX2_columnRead 6 = .ok (.ireturn, 1) := by decide +kernel
theorem dX2_separator_0 : decode cX2_separator 0 = .ok (.aload_n 0, 1) := by decide +kernel
theorem dX2_separator_1 : decode cX2_separator 1 = .ok (.invokevirtual 38, 3) := by decide +kernel
theorem dX2_separator_4 : decode cX2_separator 4 = .ok (.iconst 3, 1) := by decide +kernel
theorem dX2_separator_5 : decode cX2_separator 5 = .ok (.if_icmp .ne 8, 3) := by decide +kernel
theorem dX2_separator_8 : decode cX2_separator 8 = .ok (.bipush 59, 2) := by decide +kernel
theorem dX2_separator_10 : decode cX2_separator 10 = .ok (.goto 5, 3) := by decide +kernel
theorem dX2_separator_13 : decode cX2_separator 13 = .ok (.bipush 44, 2) := by decide +kernel
theorem dX2_separator_15 : decode cX2_separator 15 = .ok (.ireturn, 1) := by decide +kernel
theorem dX2_grownBy_0 : decode cX2_grownBy 0 = .ok (.iload_n 2, 1) := by decide +kernel
theorem dX2_grownBy_1 : decode cX2_grownBy 1 = .ok (.bipush 48, 2) := by decide +kernel
theorem dX2_grownBy_3 : decode cX2_grownBy 3 = .ok (.if_icmp .lt 19, 3) := by decide +kernel
theorem dX2_grownBy_6 : decode cX2_grownBy 6 = .ok (.iload_n 2, 1) := by decide +kernel
theorem dX2_grownBy_7 : decode cX2_grownBy 7 = .ok (.bipush 57, 2) := by decide +kernel
theorem dX2_grownBy_9 : decode cX2_grownBy 9 = .ok (.if_icmp .gt 13, 3) := by decide +kernel
theorem dX2_grownBy_12 : decode cX2_grownBy 12 = .ok (.aload_n 0, 1) := by decide +kernel
theorem dX2_grownBy_13 : decode cX2_grownBy 13 = .ok (.iload_n 1, 1) := by decide +kernel
theorem dX2_grownBy_14 : decode cX2_grownBy 14 = .ok (.iload_n 2, 1) := by decide +kernel
theorem dX2_grownBy_15 : decode cX2_grownBy 15 = .ok (.bipush 48, 2) := by decide +kernel
theorem dX2_grownBy_17 : decode cX2_grownBy 17 = .ok (.isub, 1) := by decide +kernel
theorem dX2_grownBy_18 : decode cX2_grownBy 18 = .ok (.invokevirtual 42, 3) := by decide +kernel
theorem dX2_grownBy_21 : decode cX2_grownBy 21 = .ok (.ireturn, 1) := by decide +kernel
theorem dX2_grownBy_22 : decode cX2_grownBy 22 = .ok (.iload_n 1, 1) := by decide +kernel
theorem dX2_grownBy_23 : decode cX2_grownBy 23 = .ok (.bipush (-7), 2) := by decide +kernel
theorem dX2_grownBy_25 : decode cX2_grownBy 25 = .ok (.if_icmp .ne 12, 3) := by decide +kernel
theorem dX2_grownBy_28 : decode cX2_grownBy 28 = .ok (.iload_n 2, 1) := by decide +kernel
theorem dX2_grownBy_29 : decode cX2_grownBy 29 = .ok (.bipush 45, 2) := by decide +kernel
theorem dX2_grownBy_31 : decode cX2_grownBy 31 = .ok (.if_icmp .ne 6, 3) := by decide +kernel
theorem dX2_grownBy_34 : decode cX2_grownBy 34 = .ok (.bipush (-5), 2) := by decide +kernel
theorem dX2_grownBy_36 : decode cX2_grownBy 36 = .ok (.ireturn, 1) := by decide +kernel
theorem dX2_grownBy_37 : decode cX2_grownBy 37 = .ok (.iload_n 1, 1) := by decide +kernel
theorem dX2_grownBy_38 : decode cX2_grownBy 38 = .ok (.bipush (-7), 2) := by decide +kernel
theorem dX2_grownBy_40 : decode cX2_grownBy 40 = .ok (.if_icmp .ne 14, 3) := by decide +kernel
theorem dX2_grownBy_43 : decode cX2_grownBy 43 = .ok (.iload_n 2, 1) := by decide +kernel
theorem dX2_grownBy_44 : decode cX2_grownBy 44 = .ok (.bipush 39, 2) := by decide +kernel
theorem dX2_grownBy_46 : decode cX2_grownBy 46 = .ok (.if_icmp .ne 8, 3) := by decide +kernel
theorem dX2_grownBy_49 : decode cX2_grownBy 49 = .ok (.bipush (-6), 2) := by decide +kernel
theorem dX2_grownBy_51 : decode cX2_grownBy 51 = .ok (.goto 5, 3) := by decide +kernel
theorem dX2_grownBy_54 : decode cX2_grownBy 54 = .ok (.bipush (-8), 2) := by decide +kernel
theorem dX2_grownBy_56 : decode cX2_grownBy 56 = .ok (.ireturn, 1) := by decide +kernel
theorem dX2_withDigit_0 : decode cX2_withDigit 0 = .ok (.iload_n 1, 1) := by decide +kernel
theorem dX2_withDigit_1 : decode cX2_withDigit 1 = .ok (.bipush (-7), 2) := by decide +kernel
theorem dX2_withDigit_3 : decode cX2_withDigit 3 = .ok (.if_icmp .eq 10, 3) := by decide +kernel
theorem dX2_withDigit_6 : decode cX2_withDigit 6 = .ok (.iload_n 1, 1) := by decide +kernel
theorem dX2_withDigit_7 : decode cX2_withDigit 7 = .ok (.ifCond .gt 6, 3) := by decide +kernel
theorem dX2_withDigit_10 : decode cX2_withDigit 10 = .ok (.bipush (-8), 2) := by decide +kernel
theorem dX2_withDigit_12 : decode cX2_withDigit 12 = .ok (.ireturn, 1) := by decide +kernel
theorem dX2_withDigit_13 : decode cX2_withDigit 13 = .ok (.iload_n 1, 1) := by decide +kernel
theorem dX2_withDigit_14 : decode cX2_withDigit 14 = .ok (.bipush (-7), 2) := by decide +kernel
theorem dX2_withDigit_16 : decode cX2_withDigit 16 = .ok (.if_icmp .ne 7, 3) := by decide +kernel
theorem dX2_withDigit_19 : decode cX2_withDigit 19 = .ok (.iload_n 2, 1) := by decide +kernel
theorem dX2_withDigit_20 : decode cX2_withDigit 20 = .ok (.goto 9, 3) := by decide +kernel
theorem dX2_withDigit_23 : decode cX2_withDigit 23 = .ok (.iload_n 1, 1) := by decide +kernel
theorem dX2_withDigit_24 : decode cX2_withDigit 24 = .ok (.bipush 10, 2) := by decide +kernel
theorem dX2_withDigit_26 : decode cX2_withDigit 26 = .ok (.imul, 1) := by decide +kernel
theorem dX2_withDigit_27 : decode cX2_withDigit 27 = .ok (.iload_n 2, 1) := by decide +kernel
theorem dX2_withDigit_28 : decode cX2_withDigit 28 = .ok (.iadd, 1) := by decide +kernel
theorem dX2_withDigit_29 : decode cX2_withDigit 29 = .ok (.istore_n 3, 1) := by decide +kernel
theorem dX2_withDigit_30 : decode cX2_withDigit 30 = .ok (.iload_n 3, 1) := by decide +kernel
theorem dX2_withDigit_31 : decode cX2_withDigit 31 = .ok (.getstatic 46, 3) := by decide +kernel
theorem dX2_withDigit_34 : decode cX2_withDigit 34 = .ok (.aload_n 0, 1) := by decide +kernel
theorem dX2_withDigit_35 : decode cX2_withDigit 35 = .ok (.invokevirtual 38, 3) := by decide +kernel
theorem dX2_withDigit_38 : decode cX2_withDigit 38 = .ok (.invokestatic 49, 3) := by decide +kernel
theorem dX2_withDigit_41 : decode cX2_withDigit 41 = .ok (.if_icmp .gt 7, 3) := by decide +kernel
theorem dX2_withDigit_44 : decode cX2_withDigit 44 = .ok (.iload_n 3, 1) := by decide +kernel
theorem dX2_withDigit_45 : decode cX2_withDigit 45 = .ok (.goto 5, 3) := by decide +kernel
theorem dX2_withDigit_48 : decode cX2_withDigit 48 = .ok (.bipush (-8), 2) := by decide +kernel
theorem dX2_withDigit_50 : decode cX2_withDigit 50 = .ok (.ireturn, 1) := by decide +kernel
theorem dX2_endCell_0 : decode cX2_endCell 0 = .ok (.aload_n 0, 1) := by decide +kernel
theorem dX2_endCell_1 : decode cX2_endCell 1 = .ok (.getfield 23, 3) := by decide +kernel
theorem dX2_endCell_4 : decode cX2_endCell 4 = .ok (.ifCond .lt 35, 3) := by decide +kernel
theorem dX2_endCell_7 : decode cX2_endCell 7 = .ok (.aload_n 0, 1) := by decide +kernel
theorem dX2_endCell_8 : decode cX2_endCell 8 = .ok (.getfield 23, 3) := by decide +kernel
theorem dX2_endCell_11 : decode cX2_endCell 11 = .ok (.aload_n 0, 1) := by decide +kernel
theorem dX2_endCell_12 : decode cX2_endCell 12 = .ok (.getfield 15, 3) := by decide +kernel
theorem dX2_endCell_15 : decode cX2_endCell 15 = .ok (.arraylength, 1) := by decide +kernel
theorem dX2_endCell_16 : decode cX2_endCell 16 = .ok (.if_icmp .ge 23, 3) := by decide +kernel
theorem dX2_endCell_19 : decode cX2_endCell 19 = .ok (.aload_n 0, 1) := by decide +kernel
theorem dX2_endCell_20 : decode cX2_endCell 20 = .ok (.getfield 15, 3) := by decide +kernel
theorem dX2_endCell_23 : decode cX2_endCell 23 = .ok (.aload_n 0, 1) := by decide +kernel
theorem dX2_endCell_24 : decode cX2_endCell 24 = .ok (.getfield 23, 3) := by decide +kernel
theorem dX2_endCell_27 : decode cX2_endCell 27 = .ok (.iload_n 1, 1) := by decide +kernel
theorem dX2_endCell_28 : decode cX2_endCell 28 = .ok (.iastore, 1) := by decide +kernel
theorem dX2_endCell_29 : decode cX2_endCell 29 = .ok (.aload_n 0, 1) := by decide +kernel
theorem dX2_endCell_30 : decode cX2_endCell 30 = .ok (.dup, 1) := by decide +kernel
theorem dX2_endCell_31 : decode cX2_endCell 31 = .ok (.getfield 23, 3) := by decide +kernel
theorem dX2_endCell_34 : decode cX2_endCell 34 = .ok (.iconst 1, 1) := by decide +kernel
theorem dX2_endCell_35 : decode cX2_endCell 35 = .ok (.iadd, 1) := by decide +kernel
theorem dX2_endCell_36 : decode cX2_endCell 36 = .ok (.putfield 23, 3) := by decide +kernel
theorem dX2_endCell_39 : decode cX2_endCell 39 = .ok (.return_, 1) := by decide +kernel
theorem dX2_rowsRead_0 : decode cX2_rowsRead 0 = .ok (.aload_n 0, 1) := by decide +kernel
theorem dX2_rowsRead_1 : decode cX2_rowsRead 1 = .ok (.getfield 23, 3) := by decide +kernel
theorem dX2_rowsRead_4 : decode cX2_rowsRead 4 = .ok (.iconst 4, 1) := by decide +kernel
theorem dX2_rowsRead_5 : decode cX2_rowsRead 5 = .ok (.idiv, 1) := by decide +kernel
theorem dX2_rowsRead_6 : decode cX2_rowsRead 6 = .ok (.ireturn, 1) := by decide +kernel
theorem dX2_read_0 : decode cX2_read 0 = .ok (.aload_n 0, 1) := by decide +kernel
theorem dX2_read_1 : decode cX2_read 1 = .ok (.getfield 15, 3) := by decide +kernel
theorem dX2_read_4 : decode cX2_read 4 = .ok (.iload_n 1, 1) := by decide +kernel
theorem dX2_read_5 : decode cX2_read 5 = .ok (.iconst 4, 1) := by decide +kernel
theorem dX2_read_6 : decode cX2_read 6 = .ok (.imul, 1) := by decide +kernel
theorem dX2_read_7 : decode cX2_read 7 = .ok (.iload_n 2, 1) := by decide +kernel
theorem dX2_read_8 : decode cX2_read 8 = .ok (.iadd, 1) := by decide +kernel
theorem dX2_read_9 : decode cX2_read 9 = .ok (.invokestatic 49, 3) := by decide +kernel
theorem dX2_read_12 : decode cX2_read 12 = .ok (.ireturn, 1) := by decide +kernel
theorem dJxf58ca_isNaN_12338_0 : decode cJxf58ca_isNaN_12338 0 = .ok (.fload_n 0, 1) := by decide +kernel
theorem dJxf58ca_isNaN_12338_1 : decode cJxf58ca_isNaN_12338 1 = .ok (.fload_n 0, 1) := by decide +kernel
theorem dJxf58ca_isNaN_12338_2 : decode cJxf58ca_isNaN_12338 2 = .ok (.fcmp .l, 1) := by decide +kernel
theorem dJxf58ca_isNaN_12338_3 : decode cJxf58ca_isNaN_12338 3 = .ok (.ifCond .eq 7, 3) := by decide +kernel
theorem dJxf58ca_isNaN_12338_6 : decode cJxf58ca_isNaN_12338 6 = .ok (.iconst 1, 1) := by decide +kernel
theorem dJxf58ca_isNaN_12338_7 : decode cJxf58ca_isNaN_12338 7 = .ok (.goto 4, 3) := by decide +kernel
theorem dJxf58ca_isNaN_12338_10 : decode cJxf58ca_isNaN_12338 10 = .ok (.iconst 0, 1) := by decide +kernel
theorem dJxf58ca_isNaN_12338_11 : decode cJxf58ca_isNaN_12338 11 = .ok (.ireturn, 1) := by decide +kernel
theorem dJxf58ca_floatToIntBits_5c35a_0 : decode cJxf58ca_floatToIntBits_5c35a 0 = .ok (.fload_n 0, 1) := by decide +kernel
theorem dJxf58ca_floatToIntBits_5c35a_1 : decode cJxf58ca_floatToIntBits_5c35a 1 = .ok (.invokestatic 59, 3) := by decide +kernel
theorem dJxf58ca_floatToIntBits_5c35a_4 : decode cJxf58ca_floatToIntBits_5c35a 4 = .ok (.ifCond .ne 8, 3) := by decide +kernel
theorem dJxf58ca_floatToIntBits_5c35a_7 : decode cJxf58ca_floatToIntBits_5c35a 7 = .ok (.fload_n 0, 1) := by decide +kernel
theorem dJxf58ca_floatToIntBits_5c35a_8 : decode cJxf58ca_floatToIntBits_5c35a 8 = .ok (.invokestatic 74, 3) := by decide +kernel
theorem dJxf58ca_floatToIntBits_5c35a_11 : decode cJxf58ca_floatToIntBits_5c35a 11 = .ok (.ireturn, 1) := by decide +kernel
theorem dJxf58ca_floatToIntBits_5c35a_12 : decode cJxf58ca_floatToIntBits_5c35a 12 = .ok (.ldc 77, 2) := by decide +kernel
theorem dJxf58ca_floatToIntBits_5c35a_14 : decode cJxf58ca_floatToIntBits_5c35a 14 = .ok (.ireturn, 1) := by decide +kernel
theorem dJ9_max_7cf53_0 : decode cJ9_max_7cf53 0 = .ok (.iload_n 0, 1) := by decide +kernel
theorem dJ9_max_7cf53_1 : decode cJ9_max_7cf53 1 = .ok (.iload_n 1, 1) := by decide +kernel
theorem dJ9_max_7cf53_2 : decode cJ9_max_7cf53 2 = .ok (.if_icmp .lt 7, 3) := by decide +kernel
theorem dJ9_max_7cf53_5 : decode cJ9_max_7cf53 5 = .ok (.iload_n 0, 1) := by decide +kernel
theorem dJ9_max_7cf53_6 : decode cJ9_max_7cf53 6 = .ok (.goto 4, 3) := by decide +kernel
theorem dJ9_max_7cf53_9 : decode cJ9_max_7cf53 9 = .ok (.iload_n 1, 1) := by decide +kernel
theorem dJ9_max_7cf53_10 : decode cJ9_max_7cf53 10 = .ok (.ireturn, 1) := by decide +kernel
theorem dJ9_min_7cf53_0 : decode cJ9_min_7cf53 0 = .ok (.iload_n 0, 1) := by decide +kernel
theorem dJ9_min_7cf53_1 : decode cJ9_min_7cf53 1 = .ok (.iload_n 1, 1) := by decide +kernel
theorem dJ9_min_7cf53_2 : decode cJ9_min_7cf53 2 = .ok (.if_icmp .gt 7, 3) := by decide +kernel
theorem dJ9_min_7cf53_5 : decode cJ9_min_7cf53 5 = .ok (.iload_n 0, 1) := by decide +kernel
theorem dJ9_min_7cf53_6 : decode cJ9_min_7cf53 6 = .ok (.goto 4, 3) := by decide +kernel
theorem dJ9_min_7cf53_9 : decode cJ9_min_7cf53 9 = .ok (.iload_n 1, 1) := by decide +kernel
theorem dJ9_min_7cf53_10 : decode cJ9_min_7cf53 10 = .ok (.ireturn, 1) := by decide +kernel
theorem dJ7_fill_53178_0 : decode cJ7_fill_53178 0 = .ok (.iconst 0, 1) := by decide +kernel
theorem dJ7_fill_53178_1 : decode cJ7_fill_53178 1 = .ok (.istore_n 2, 1) := by decide +kernel
theorem dJ7_fill_53178_2 : decode cJ7_fill_53178 2 = .ok (.aload_n 0, 1) := by decide +kernel
theorem dJ7_fill_53178_3 : decode cJ7_fill_53178 3 = .ok (.arraylength, 1) := by decide +kernel
theorem dJ7_fill_53178_4 : decode cJ7_fill_53178 4 = .ok (.istore_n 3, 1) := by decide +kernel
theorem dJ7_fill_53178_5 : decode cJ7_fill_53178 5 = .ok (.iload_n 2, 1) := by decide +kernel
theorem dJ7_fill_53178_6 : decode cJ7_fill_53178 6 = .ok (.iload_n 3, 1) := by decide +kernel
theorem dJ7_fill_53178_7 : decode cJ7_fill_53178 7 = .ok (.if_icmp .ge 13, 3) := by decide +kernel
theorem dJ7_fill_53178_10 : decode cJ7_fill_53178 10 = .ok (.aload_n 0, 1) := by decide +kernel
theorem dJ7_fill_53178_11 : decode cJ7_fill_53178 11 = .ok (.iload_n 2, 1) := by decide +kernel
theorem dJ7_fill_53178_12 : decode cJ7_fill_53178 12 = .ok (.iload_n 1, 1) := by decide +kernel
theorem dJ7_fill_53178_13 : decode cJ7_fill_53178 13 = .ok (.iastore, 1) := by decide +kernel
theorem dJ7_fill_53178_14 : decode cJ7_fill_53178 14 = .ok (.iinc 2 1, 3) := by decide +kernel
theorem dJ7_fill_53178_17 : decode cJ7_fill_53178 17 = .ok (.goto (-12), 3) := by decide +kernel
theorem dJ7_fill_53178_20 : decode cJ7_fill_53178 20 = .ok (.return_, 1) := by decide +kernel
end
section
theorem dX3_init_0 : decode cX3_init 0 = .ok (.aload_n 0, 1) := by decide +kernel
theorem dX3_init_1 : decode cX3_init 1 = .ok (.invokespecial 1, 3) := by decide +kernel
theorem dX3_init_4 : decode cX3_init 4 = .ok (.aload_n 0, 1) := by decide +kernel
theorem dX3_init_5 : decode cX3_init 5 = .ok (.new 7, 3) := by decide +kernel
theorem dX3_init_8 : decode cX3_init 8 = .ok (.dup, 1) := by decide +kernel
theorem dX3_init_9 : decode cX3_init 9 = .ok (.invokespecial 9, 3) := by decide +kernel
theorem dX3_init_12 : decode cX3_init 12 = .ok (.putfield 10, 3) := by decide +kernel
theorem dX3_init_15 : decode cX3_init 15 = .ok (.aload_n 0, 1) := by decide +kernel
theorem dX3_init_16 : decode cX3_init 16 = .ok (.new 7, 3) := by decide +kernel
theorem dX3_init_19 : decode cX3_init 19 = .ok (.dup, 1) := by decide +kernel
theorem dX3_init_20 : decode cX3_init 20 = .ok (.invokespecial 9, 3) := by decide +kernel
theorem dX3_init_23 : decode cX3_init 23 = .ok (.putfield 16, 3) := by decide +kernel
theorem dX3_init_26 : decode cX3_init 26 = .ok (.aload_n 0, 1) := by decide +kernel
theorem dX3_init_27 : decode cX3_init 27 = .ok (.iconst 0, 1) := by decide +kernel
theorem dX3_init_28 : decode cX3_init 28 = .ok (.putfield 19, 3) := by decide +kernel
theorem dX3_init_31 : decode cX3_init 31 = .ok (.aload_n 0, 1) := by decide +kernel
theorem dX3_init_32 : decode cX3_init 32 = .ok (.new 23, 3) := by decide +kernel
theorem dX3_init_35 : decode cX3_init 35 = .ok (.dup, 1) := by decide +kernel
theorem dX3_init_36 : decode cX3_init 36 = .ok (.invokespecial 25, 3) := by decide +kernel
theorem dX3_init_39 : decode cX3_init 39 = .ok (.putfield 26, 3) := by decide +kernel
theorem dX3_init_42 : decode cX3_init 42 = .ok (.aload_n 0, 1) := by decide +kernel
theorem dX3_init_43 : decode cX3_init 43 = .ok (.new 30, 3) := by decide +kernel
theorem dX3_init_46 : decode cX3_init 46 = .ok (.dup, 1) := by decide +kernel
theorem dX3_init_47 : decode cX3_init 47 = .ok (.invokespecial 32, 3) := by decide +kernel
theorem dX3_init_50 : decode cX3_init 50 = .ok (.putfield 33, 3) := by decide +kernel
theorem dX3_init_53 : decode cX3_init 53 = .ok (.aload_n 0, 1) := by decide +kernel
theorem dX3_init_54 : decode cX3_init 54 = .ok (.sipush 200, 3) := by decide +kernel
theorem dX3_init_57 : decode cX3_init 57 = .ok (.newarray .int, 2) := by decide +kernel
theorem dX3_init_59 : decode cX3_init 59 = .ok (.putfield 37, 3) := by decide +kernel
theorem dX3_init_62 : decode cX3_init 62 = .ok (.return_, 1) := by decide +kernel
theorem dX3_addRow_0 : decode cX3_addRow 0 = .ok (.iconst 0, 1) := by decide +kernel
theorem dX3_addRow_1 : decode cX3_addRow 1 = .ok (.iload_n 1, 1) := by decide +kernel
theorem dX3_addRow_2 : decode cX3_addRow 2 = .ok (.invokestatic 41, 3) := by decide +kernel
theorem dX3_addRow_5 : decode cX3_addRow 5 = .ok (.ifCond .eq 28, 3) := by decide +kernel
theorem dX3_addRow_8 : decode cX3_addRow 8 = .ok (.iconst 1, 1) := by decide +kernel
theorem dX3_addRow_9 : decode cX3_addRow 9 = .ok (.iload_n 2, 1) := by decide +kernel
theorem dX3_addRow_10 : decode cX3_addRow 10 = .ok (.invokestatic 41, 3) := by decide +kernel
theorem dX3_addRow_13 : decode cX3_addRow 13 = .ok (.ifCond .eq 20, 3) := by decide +kernel
theorem dX3_addRow_16 : decode cX3_addRow 16 = .ok (.iconst 2, 1) := by decide +kernel
theorem dX3_addRow_17 : decode cX3_addRow 17 = .ok (.iload_n 3, 1) := by decide +kernel
theorem dX3_addRow_18 : decode cX3_addRow 18 = .ok (.invokestatic 41, 3) := by decide +kernel
theorem dX3_addRow_21 : decode cX3_addRow 21 = .ok (.ifCond .eq 12, 3) := by decide +kernel
theorem dX3_addRow_24 : decode cX3_addRow 24 = .ok (.iconst 3, 1) := by decide +kernel
theorem dX3_addRow_25 : decode cX3_addRow 25 = .ok (.iload 4, 2) := by decide +kernel
theorem dX3_addRow_27 : decode cX3_addRow 27 = .ok (.invokestatic 41, 3) := by decide +kernel
theorem dX3_addRow_30 : decode cX3_addRow 30 = .ok (.ifCond .ne 6, 3) := by decide +kernel
theorem dX3_addRow_33 : decode cX3_addRow 33 = .ok (.bipush (-2), 2) := by decide +kernel
theorem dX3_addRow_35 : decode cX3_addRow 35 = .ok (.ireturn, 1) := by decide +kernel
theorem dX3_addRow_36 : decode cX3_addRow 36 = .ok (.aload_n 0, 1) := by decide +kernel
theorem dX3_addRow_37 : decode cX3_addRow 37 = .ok (.getfield 10, 3) := by decide +kernel
theorem dX3_addRow_40 : decode cX3_addRow 40 = .ok (.getfield 45, 3) := by decide +kernel
theorem dX3_addRow_43 : decode cX3_addRow 43 = .ok (.bipush 48, 2) := by decide +kernel
theorem dX3_addRow_45 : decode cX3_addRow 45 = .ok (.if_icmp .lt 6, 3) := by decide +kernel
theorem dX3_addRow_48 : decode cX3_addRow 48 = .ok (.bipush (-3), 2) := by decide +kernel
theorem dX3_addRow_50 : decode cX3_addRow 50 = .ok (.ireturn, 1) := by decide +kernel
theorem dX3_addRow_51 : decode cX3_addRow 51 = .ok (.aload_n 0, 1) := by decide +kernel
theorem dX3_addRow_52 : decode cX3_addRow 52 = .ok (.getfield 26, 3) := by decide +kernel
theorem dX3_addRow_55 : decode cX3_addRow 55 = .ok (.aload_n 0, 1) := by decide +kernel
theorem dX3_addRow_56 : decode cX3_addRow 56 = .ok (.getfield 10, 3) := by decide +kernel
theorem dX3_addRow_59 : decode cX3_addRow 59 = .ok (.invokevirtual 49, 3) := by decide +kernel
theorem dX3_addRow_62 : decode cX3_addRow 62 = .ok (.aload_n 0, 1) := by decide +kernel
theorem dX3_addRow_63 : decode cX3_addRow 63 = .ok (.getfield 10, 3) := by decide +kernel
theorem dX3_addRow_66 : decode cX3_addRow 66 = .ok (.iload_n 1, 1) := by decide +kernel
theorem dX3_addRow_67 : decode cX3_addRow 67 = .ok (.iload_n 2, 1) := by decide +kernel
theorem dX3_addRow_68 : decode cX3_addRow 68 = .ok (.iload_n 3, 1) := by decide +kernel
theorem dX3_addRow_69 : decode cX3_addRow 69 = .ok (.iload 4, 2) := by decide +kernel
theorem dX3_addRow_71 : decode cX3_addRow 71 = .ok (.invokevirtual 53, 3) := by decide +kernel
theorem dX3_addRow_74 : decode cX3_addRow 74 = .ok (.aload_n 0, 1) := by decide +kernel
theorem dX3_addRow_75 : decode cX3_addRow 75 = .ok (.getfield 10, 3) := by decide +kernel
theorem dX3_addRow_78 : decode cX3_addRow 78 = .ok (.getfield 45, 3) := by decide +kernel
theorem dX3_addRow_81 : decode cX3_addRow 81 = .ok (.iconst 1, 1) := by decide +kernel
theorem dX3_addRow_82 : decode cX3_addRow 82 = .ok (.isub, 1) := by decide +kernel
theorem dX3_addRow_83 : decode cX3_addRow 83 = .ok (.ireturn, 1) := by decide +kernel
theorem dX3_addRows_0 : decode cX3_addRows 0 = .ok (.aload_n 0, 1) := by decide +kernel
theorem dX3_addRows_1 : decode cX3_addRows 1 = .ok (.getfield 33, 3) := by decide +kernel
theorem dX3_addRows_4 : decode cX3_addRows 4 = .ok (.invokevirtual 57, 3) := by decide +kernel
theorem dX3_addRows_7 : decode cX3_addRows 7 = .ok (.istore_n 1, 1) := by decide +kernel
theorem dX3_addRows_8 : decode cX3_addRows 8 = .ok (.iload_n 1, 1) := by decide +kernel
theorem dX3_addRows_9 : decode cX3_addRows 9 = .ok (.iconst (-1), 1) := by decide +kernel
theorem dX3_addRows_10 : decode cX3_addRows 10 = .ok (.if_icmp .eq 8, 3) := by decide +kernel
theorem dX3_addRows_13 : decode cX3_addRows 13 = .ok (.bipush (-100), 2) := by decide +kernel
theorem dX3_addRows_15 : decode cX3_addRows 15 = .ok (.iload_n 1, 1) := by decide +kernel
theorem dX3_addRows_16 : decode cX3_addRows 16 = .ok (.isub, 1) := by decide +kernel
theorem dX3_addRows_17 : decode cX3_addRows 17 = .ok (.ireturn, 1) := by decide +kernel
theorem dX3_addRows_18 : decode cX3_addRows 18 = .ok (.aload_n 0, 1) := by decide +kernel
theorem dX3_addRows_19 : decode cX3_addRows 19 = .ok (.getfield 33, 3) := by decide +kernel
theorem dX3_addRows_22 : decode cX3_addRows 22 = .ok (.invokevirtual 61, 3) := by decide +kernel
theorem dX3_addRows_25 : decode cX3_addRows 25 = .ok (.istore_n 2, 1) := by decide +kernel
theorem dX3_addRows_26 : decode cX3_addRows 26 = .ok (.aload_n 0, 1) := by decide +kernel
theorem dX3_addRows_27 : decode cX3_addRows 27 = .ok (.getfield 10, 3) := by decide +kernel
theorem dX3_addRows_30 : decode cX3_addRows 30 = .ok (.getfield 45, 3) := by decide +kernel
theorem dX3_addRows_33 : decode cX3_addRows 33 = .ok (.iload_n 2, 1) := by decide +kernel
theorem dX3_addRows_34 : decode cX3_addRows 34 = .ok (.iadd, 1) := by decide +kernel
theorem dX3_addRows_35 : decode cX3_addRows 35 = .ok (.bipush 48, 2) := by decide +kernel
theorem dX3_addRows_37 : decode cX3_addRows 37 = .ok (.if_icmp .le 6, 3) := by decide +kernel
theorem dX3_addRows_40 : decode cX3_addRows 40 = .ok (.bipush (-3), 2) := by decide +kernel
theorem dX3_addRows_42 : decode cX3_addRows 42 = .ok (.ireturn, 1) := by decide +kernel
theorem dX3_addRows_43 : decode cX3_addRows 43 = .ok (.aload_n 0, 1) := by decide +kernel
theorem dX3_addRows_44 : decode cX3_addRows 44 = .ok (.getfield 26, 3) := by decide +kernel
theorem dX3_addRows_47 : decode cX3_addRows 47 = .ok (.aload_n 0, 1) := by decide +kernel
theorem dX3_addRows_48 : decode cX3_addRows 48 = .ok (.getfield 10, 3) := by decide +kernel
theorem dX3_addRows_51 : decode cX3_addRows 51 = .ok (.invokevirtual 49, 3) := by decide +kernel
theorem dX3_addRows_54 : decode cX3_addRows 54 = .ok (.iconst 0, 1) := by decide +kernel
theorem dX3_addRows_55 : decode cX3_addRows 55 = .ok (.istore_n 3, 1) := by decide +kernel
theorem dX3_addRows_56 : decode cX3_addRows 56 = .ok (.iload_n 3, 1) := by decide +kernel
theorem dX3_addRows_57 : decode cX3_addRows 57 = .ok (.iload_n 2, 1) := by decide +kernel
theorem dX3_addRows_58 : decode cX3_addRows 58 = .ok (.if_icmp .ge 52, 3) := by decide +kernel
theorem dX3_addRows_61 : decode cX3_addRows 61 = .ok (.aload_n 0, 1) := by decide +kernel
theorem dX3_addRows_62 : decode cX3_addRows 62 = .ok (.getfield 10, 3) := by decide +kernel
theorem dX3_addRows_65 : decode cX3_addRows 65 = .ok (.aload_n 0, 1) := by decide +kernel
theorem dX3_addRows_66 : decode cX3_addRows 66 = .ok (.getfield 33, 3) := by decide +kernel
theorem dX3_addRows_69 : decode cX3_addRows 69 = .ok (.iload_n 3, 1) := by decide +kernel
theorem dX3_addRows_70 : decode cX3_addRows 70 = .ok (.iconst 0, 1) := by decide +kernel
theorem dX3_addRows_71 : decode cX3_addRows 71 = .ok (.invokevirtual 64, 3) := by decide +kernel
theorem dX3_addRows_74 : decode cX3_addRows 74 = .ok (.aload_n 0, 1) := by decide +kernel
theorem dX3_addRows_75 : decode cX3_addRows 75 = .ok (.getfield 33, 3) := by decide +kernel
theorem dX3_addRows_78 : decode cX3_addRows 78 = .ok (.iload_n 3, 1) := by decide +kernel
theorem dX3_addRows_79 : decode cX3_addRows 79 = .ok (.iconst 1, 1) := by decide +kernel
theorem dX3_addRows_80 : decode cX3_addRows 80 = .ok (.invokevirtual 64, 3) := by decide +kernel
theorem dX3_addRows_83 : decode cX3_addRows 83 = .ok (.aload_n 0, 1) := by decide +kernel
theorem dX3_addRows_84 : decode cX3_addRows 84 = .ok (.getfield 33, 3) := by decide +kernel
theorem dX3_addRows_87 : decode cX3_addRows 87 = .ok (.iload_n 3, 1) := by decide +kernel
theorem dX3_addRows_88 : decode cX3_addRows 88 = .ok (.iconst 2, 1) := by decide +kernel
theorem dX3_addRows_89 : decode cX3_addRows 89 = .ok (.invokevirtual 64, 3) := by decide +kernel
theorem dX3_addRows_92 : decode cX3_addRows 92 = .ok (.aload_n 0, 1) := by decide +kernel
theorem dX3_addRows_93 : decode cX3_addRows 93 = .ok (.getfield 33, 3) := by decide +kernel
theorem dX3_addRows_96 : decode cX3_addRows 96 = .ok (.iload_n 3, 1) := by decide +kernel
theorem dX3_addRows_97 : decode cX3_addRows 97 = .ok (.iconst 3, 1) := by decide +kernel
theorem dX3_addRows_98 : decode cX3_addRows 98 = .ok (.invokevirtual 64, 3) := by decide +kernel
theorem dX3_addRows_101 : decode cX3_addRows 101 = .ok (.invokevirtual 53, 3) := by decide +kernel
theorem dX3_addRows_104 : decode cX3_addRows 104 = .ok (.iinc 3 1, 3) := by decide +kernel
theorem dX3_addRows_107 : decode cX3_addRows 107 = .ok (.goto (-51), 3) := by decide +kernel
theorem dX3_addRows_110 : decode cX3_addRows 110 = .ok (.iload_n 2, 1) := by decide +kernel
theorem dX3_addRows_111 : decode cX3_addRows 111 = .ok (.ireturn, 1) := by decide +kernel
theorem dX3_removeRow_0 : decode cX3_removeRow 0 = .ok (.aload_n 0, 1) := by decide +kernel
theorem dX3_removeRow_1 : decode cX3_removeRow 1 = .ok (.getfield 10, 3) := by decide +kernel
theorem dX3_removeRow_4 : decode cX3_removeRow 4 = .ok (.getfield 45, 3) := by decide +kernel
theorem dX3_removeRow_7 : decode cX3_removeRow 7 = .ok (.ifCond .gt 6, 3) := by decide +kernel
theorem dX3_removeRow_10 : decode cX3_removeRow 10 = .ok (.bipush (-4), 2) := by decide +kernel
theorem dX3_removeRow_12 : decode cX3_removeRow 12 = .ok (.ireturn, 1) := by decide +kernel
theorem dX3_removeRow_13 : decode cX3_removeRow 13 = .ok (.aload_n 0, 1) := by decide +kernel
theorem dX3_removeRow_14 : decode cX3_removeRow 14 = .ok (.getfield 26, 3) := by decide +kernel
theorem dX3_removeRow_17 : decode cX3_removeRow 17 = .ok (.aload_n 0, 1) := by decide +kernel
theorem dX3_removeRow_18 : decode cX3_removeRow 18 = .ok (.getfield 10, 3) := by decide +kernel
theorem dX3_removeRow_21 : decode cX3_removeRow 21 = .ok (.invokevirtual 49, 3) := by decide +kernel
theorem dX3_removeRow_24 : decode cX3_removeRow 24 = .ok (.aload_n 0, 1) := by decide +kernel
theorem dX3_removeRow_25 : decode cX3_removeRow 25 = .ok (.getfield 10, 3) := by decide +kernel
theorem dX3_removeRow_28 : decode cX3_removeRow 28 = .ok (.invokevirtual 68, 3) := by decide +kernel
theorem dX3_removeRow_31 : decode cX3_removeRow 31 = .ok (.aload_n 0, 1) := by decide +kernel
theorem dX3_removeRow_32 : decode cX3_removeRow 32 = .ok (.getfield 10, 3) := by decide +kernel
theorem dX3_removeRow_35 : decode cX3_removeRow 35 = .ok (.getfield 45, 3) := by decide +kernel
theorem dX3_removeRow_38 : decode cX3_removeRow 38 = .ok (.ireturn, 1) := by decide +kernel
theorem dX3_correct_0 : decode cX3_correct 0 = .ok (.aload_n 0, 1) := by decide +kernel
theorem dX3_correct_1 : decode cX3_correct 1 = .ok (.getfield 10, 3) := by decide +kernel
theorem dX3_correct_4 : decode cX3_correct 4 = .ok (.iload_n 1, 1) := by decide +kernel
theorem dX3_correct_5 : decode cX3_correct 5 = .ok (.iload_n 2, 1) := by decide +kernel
theorem dX3_correct_6 : decode cX3_correct 6 = .ok (.invokevirtual 71, 3) := by decide +kernel
theorem dX3_correct_9 : decode cX3_correct 9 = .ok (.ifCond .ne 5, 3) := by decide +kernel
theorem dX3_correct_12 : decode cX3_correct 12 = .ok (.iconst (-1), 1) := by decide +kernel
theorem dX3_correct_13 : decode cX3_correct 13 = .ok (.ireturn, 1) := by decide +kernel
theorem dX3_correct_14 : decode cX3_correct 14 = .ok (.iload_n 2, 1) := by decide +kernel
theorem dX3_correct_15 : decode cX3_correct 15 = .ok (.iload_n 3, 1) := by decide +kernel
theorem dX3_correct_16 : decode cX3_correct 16 = .ok (.invokestatic 41, 3) := by decide +kernel
theorem dX3_correct_19 : decode cX3_correct 19 = .ok (.ifCond .ne 6, 3) := by decide +kernel
theorem dX3_correct_22 : decode cX3_correct 22 = .ok (.bipush (-2), 2) := by decide +kernel
theorem dX3_correct_24 : decode cX3_correct 24 = .ok (.ireturn, 1) := by decide +kernel
theorem dX3_correct_25 : decode cX3_correct 25 = .ok (.aload_n 0, 1) := by decide +kernel
theorem dX3_correct_26 : decode cX3_correct 26 = .ok (.getfield 10, 3) := by decide +kernel
theorem dX3_correct_29 : decode cX3_correct 29 = .ok (.iload_n 1, 1) := by decide +kernel
theorem dX3_correct_30 : decode cX3_correct 30 = .ok (.iload_n 2, 1) := by decide +kernel
theorem dX3_correct_31 : decode cX3_correct 31 = .ok (.invokevirtual 74, 3) := by decide +kernel
theorem dX3_correct_34 : decode cX3_correct 34 = .ok (.iconst 4, 1) := by decide +kernel
theorem dX3_correct_35 : decode cX3_correct 35 = .ok (.if_icmp .lt 6, 3) := by decide +kernel
theorem dX3_correct_38 : decode cX3_correct 38 = .ok (.bipush (-3), 2) := by decide +kernel
theorem dX3_correct_40 : decode cX3_correct 40 = .ok (.ireturn, 1) := by decide +kernel
theorem dX3_correct_41 : decode cX3_correct 41 = .ok (.aload_n 0, 1) := by decide +kernel
theorem dX3_correct_42 : decode cX3_correct 42 = .ok (.getfield 10, 3) := by decide +kernel
theorem dX3_correct_45 : decode cX3_correct 45 = .ok (.iload_n 1, 1) := by decide +kernel
theorem dX3_correct_46 : decode cX3_correct 46 = .ok (.iload_n 2, 1) := by decide +kernel
theorem dX3_correct_47 : decode cX3_correct 47 = .ok (.invokevirtual 77, 3) := by decide +kernel
theorem dX3_correct_50 : decode cX3_correct 50 = .ok (.iload_n 3, 1) := by decide +kernel
theorem dX3_correct_51 : decode cX3_correct 51 = .ok (.if_icmp .ne 6, 3) := by decide +kernel
theorem dX3_correct_54 : decode cX3_correct 54 = .ok (.bipush (-5), 2) := by decide +kernel
theorem dX3_correct_56 : decode cX3_correct 56 = .ok (.ireturn, 1) := by decide +kernel
theorem dX3_correct_57 : decode cX3_correct 57 = .ok (.aload_n 0, 1) := by decide +kernel
theorem dX3_correct_58 : decode cX3_correct 58 = .ok (.getfield 10, 3) := by decide +kernel
theorem dX3_correct_61 : decode cX3_correct 61 = .ok (.iload_n 1, 1) := by decide +kernel
theorem dX3_correct_62 : decode cX3_correct 62 = .ok (.iload_n 2, 1) := by decide +kernel
theorem dX3_correct_63 : decode cX3_correct 63 = .ok (.iload_n 3, 1) := by decide +kernel
theorem dX3_correct_64 : decode cX3_correct 64 = .ok (.invokevirtual 80, 3) := by decide +kernel
theorem dX3_correct_67 : decode cX3_correct 67 = .ok (.istore 4, 2) := by decide +kernel
theorem dX3_correct_69 : decode cX3_correct 69 = .ok (.aload_n 0, 1) := by decide +kernel
theorem dX3_correct_70 : decode cX3_correct 70 = .ok (.getfield 26, 3) := by decide +kernel
theorem dX3_correct_73 : decode cX3_correct 73 = .ok (.aload_n 0, 1) := by decide +kernel
theorem dX3_correct_74 : decode cX3_correct 74 = .ok (.getfield 10, 3) := by decide +kernel
theorem dX3_correct_77 : decode cX3_correct 77 = .ok (.invokevirtual 49, 3) := by decide +kernel
theorem dX3_correct_80 : decode cX3_correct 80 = .ok (.aload_n 0, 1) := by decide +kernel
theorem dX3_correct_81 : decode cX3_correct 81 = .ok (.getfield 10, 3) := by decide +kernel
theorem dX3_correct_84 : decode cX3_correct 84 = .ok (.iload_n 1, 1) := by decide +kernel
theorem dX3_correct_85 : decode cX3_correct 85 = .ok (.iload_n 2, 1) := by decide +kernel
theorem dX3_correct_86 : decode cX3_correct 86 = .ok (.iload_n 3, 1) := by decide +kernel
theorem dX3_correct_87 : decode cX3_correct 87 = .ok (.invokevirtual 84, 3) := by decide +kernel
theorem dX3_correct_90 : decode cX3_correct 90 = .ok (.iload 4, 2) := by decide +kernel
theorem dX3_correct_92 : decode cX3_correct 92 = .ok (.ireturn, 1) := by decide +kernel
theorem dX3_takeBack_0 : decode cX3_takeBack 0 = .ok (.aload_n 0, 1) := by decide +kernel
theorem dX3_takeBack_1 : decode cX3_takeBack 1 = .ok (.getfield 10, 3) := by decide +kernel
theorem dX3_takeBack_4 : decode cX3_takeBack 4 = .ok (.iload_n 1, 1) := by decide +kernel
theorem dX3_takeBack_5 : decode cX3_takeBack 5 = .ok (.iload_n 2, 1) := by decide +kernel
theorem dX3_takeBack_6 : decode cX3_takeBack 6 = .ok (.invokevirtual 71, 3) := by decide +kernel
theorem dX3_takeBack_9 : decode cX3_takeBack 9 = .ok (.ifCond .ne 5, 3) := by decide +kernel
theorem dX3_takeBack_12 : decode cX3_takeBack 12 = .ok (.iconst (-1), 1) := by decide +kernel
theorem dX3_takeBack_13 : decode cX3_takeBack 13 = .ok (.ireturn, 1) := by decide +kernel
theorem dX3_takeBack_14 : decode cX3_takeBack 14 = .ok (.aload_n 0, 1) := by decide +kernel
theorem dX3_takeBack_15 : decode cX3_takeBack 15 = .ok (.getfield 10, 3) := by decide +kernel
theorem dX3_takeBack_18 : decode cX3_takeBack 18 = .ok (.iload_n 1, 1) := by decide +kernel
theorem dX3_takeBack_19 : decode cX3_takeBack 19 = .ok (.iload_n 2, 1) := by decide +kernel
theorem dX3_takeBack_20 : decode cX3_takeBack 20 = .ok (.invokevirtual 74, 3) := by decide +kernel
theorem dX3_takeBack_23 : decode cX3_takeBack 23 = .ok (.istore_n 3, 1) := by decide +kernel
theorem dX3_takeBack_24 : decode cX3_takeBack 24 = .ok (.iload_n 3, 1) := by decide +kernel
theorem dX3_takeBack_25 : decode cX3_takeBack 25 = .ok (.iconst 1, 1) := by decide +kernel
theorem dX3_takeBack_26 : decode cX3_takeBack 26 = .ok (.if_icmp .gt 6, 3) := by decide +kernel
theorem dX3_takeBack_29 : decode cX3_takeBack 29 = .ok (.bipush (-4), 2) := by decide +kernel
theorem dX3_takeBack_31 : decode cX3_takeBack 31 = .ok (.ireturn, 1) := by decide +kernel
theorem dX3_takeBack_32 : decode cX3_takeBack 32 = .ok (.aload_n 0, 1) := by decide +kernel
theorem dX3_takeBack_33 : decode cX3_takeBack 33 = .ok (.getfield 10, 3) := by decide +kernel
theorem dX3_takeBack_36 : decode cX3_takeBack 36 = .ok (.iload_n 1, 1) := by decide +kernel
theorem dX3_takeBack_37 : decode cX3_takeBack 37 = .ok (.iload_n 2, 1) := by decide +kernel
theorem dX3_takeBack_38 : decode cX3_takeBack 38 = .ok (.aload_n 0, 1) := by decide +kernel
theorem dX3_takeBack_39 : decode cX3_takeBack 39 = .ok (.getfield 10, 3) := by decide +kernel
theorem dX3_takeBack_42 : decode cX3_takeBack 42 = .ok (.iload_n 1, 1) := by decide +kernel
theorem dX3_takeBack_43 : decode cX3_takeBack 43 = .ok (.iload_n 2, 1) := by decide +kernel
theorem dX3_takeBack_44 : decode cX3_takeBack 44 = .ok (.iload_n 3, 1) := by decide +kernel
theorem dX3_takeBack_45 : decode cX3_takeBack 45 = .ok (.iconst 2, 1) := by decide +kernel
theorem dX3_takeBack_46 : decode cX3_takeBack 46 = .ok (.isub, 1) := by decide +kernel
theorem dX3_takeBack_47 : decode cX3_takeBack 47 = .ok (.invokevirtual 88, 3) := by decide +kernel
theorem dX3_takeBack_50 : decode cX3_takeBack 50 = .ok (.invokevirtual 80, 3) := by decide +kernel
theorem dX3_takeBack_53 : decode cX3_takeBack 53 = .ok (.istore 4, 2) := by decide +kernel
theorem dX3_takeBack_55 : decode cX3_takeBack 55 = .ok (.aload_n 0, 1) := by decide +kernel
theorem dX3_takeBack_56 : decode cX3_takeBack 56 = .ok (.getfield 26, 3) := by decide +kernel
theorem dX3_takeBack_59 : decode cX3_takeBack 59 = .ok (.aload_n 0, 1) := by decide +kernel
theorem dX3_takeBack_60 : decode cX3_takeBack 60 = .ok (.getfield 10, 3) := by decide +kernel
theorem dX3_takeBack_63 : decode cX3_takeBack 63 = .ok (.invokevirtual 49, 3) := by decide +kernel
theorem dX3_takeBack_66 : decode cX3_takeBack 66 = .ok (.aload_n 0, 1) := by decide +kernel
theorem dX3_takeBack_67 : decode cX3_takeBack 67 = .ok (.getfield 10, 3) := by decide +kernel
theorem dX3_takeBack_70 : decode cX3_takeBack 70 = .ok (.iload_n 1, 1) := by decide +kernel
theorem dX3_takeBack_71 : decode cX3_takeBack 71 = .ok (.iload_n 2, 1) := by decide +kernel
theorem dX3_takeBack_72 : decode cX3_takeBack 72 = .ok (.invokevirtual 91, 3) := by decide +kernel
theorem dX3_takeBack_75 : decode cX3_takeBack 75 = .ok (.iload 4, 2) := by decide +kernel
theorem dX3_takeBack_77 : decode cX3_takeBack 77 = .ok (.ireturn, 1) := by decide +kernel
theorem dX3_claim_0 : decode cX3_claim 0 = .ok (.iload_n 1, 1) := by decide +kernel
theorem dX3_claim_1 : decode cX3_claim 1 = .ok (.ifCond .lt 9, 3) := by decide +kernel
theorem dX3_claim_4 : decode cX3_claim 4 = .ok (.iload_n 1, 1) := by decide +kernel
theorem dX3_claim_5 : decode cX3_claim 5 = .ok (.bipush 24, 2) := by decide +kernel
theorem dX3_claim_7 : decode cX3_claim 7 = .ok (.if_icmp .lt 5, 3) := by decide +kernel
theorem dX3_claim_10 : decode cX3_claim 10 = .ok (.iconst (-1), 1) := by decide +kernel
theorem dX3_claim_11 : decode cX3_claim 11 = .ok (.ireturn, 1) := by decide +kernel
theorem dX3_claim_12 : decode cX3_claim 12 = .ok (.iload_n 2, 1) := by decide +kernel
theorem dX3_claim_13 : decode cX3_claim 13 = .ok (.bipush (-5), 2) := by decide +kernel
theorem dX3_claim_15 : decode cX3_claim 15 = .ok (.if_icmp .eq 17, 3) := by decide +kernel
theorem dX3_claim_18 : decode cX3_claim 18 = .ok (.iload_n 2, 1) := by decide +kernel
theorem dX3_claim_19 : decode cX3_claim 19 = .ok (.ifCond .lt 10, 3) := by decide +kernel
theorem dX3_claim_22 : decode cX3_claim 22 = .ok (.iload_n 2, 1) := by decide +kernel
theorem dX3_claim_23 : decode cX3_claim 23 = .ok (.sipush 9999, 3) := by decide +kernel
theorem dX3_claim_26 : decode cX3_claim 26 = .ok (.if_icmp .le 6, 3) := by decide +kernel
theorem dX3_claim_29 : decode cX3_claim 29 = .ok (.bipush (-2), 2) := by decide +kernel
theorem dX3_claim_31 : decode cX3_claim 31 = .ok (.ireturn, 1) := by decide +kernel
theorem dX3_claim_32 : decode cX3_claim 32 = .ok (.aload_n 0, 1) := by decide +kernel
theorem dX3_claim_33 : decode cX3_claim 33 = .ok (.getfield 10, 3) := by decide +kernel
theorem dX3_claim_36 : decode cX3_claim 36 = .ok (.iload_n 1, 1) := by decide +kernel
theorem dX3_claim_37 : decode cX3_claim 37 = .ok (.invokevirtual 95, 3) := by decide +kernel
theorem dX3_claim_40 : decode cX3_claim 40 = .ok (.istore_n 3, 1) := by decide +kernel
theorem dX3_claim_41 : decode cX3_claim 41 = .ok (.iload_n 3, 1) := by decide +kernel
theorem dX3_claim_42 : decode cX3_claim 42 = .ok (.iload_n 2, 1) := by decide +kernel
theorem dX3_claim_43 : decode cX3_claim 43 = .ok (.if_icmp .ne 6, 3) := by decide +kernel
theorem dX3_claim_46 : decode cX3_claim 46 = .ok (.bipush (-5), 2) := by decide +kernel
theorem dX3_claim_48 : decode cX3_claim 48 = .ok (.ireturn, 1) := by decide +kernel
theorem dX3_claim_49 : decode cX3_claim 49 = .ok (.aload_n 0, 1) := by decide +kernel
theorem dX3_claim_50 : decode cX3_claim 50 = .ok (.getfield 26, 3) := by decide +kernel
theorem dX3_claim_53 : decode cX3_claim 53 = .ok (.aload_n 0, 1) := by decide +kernel
theorem dX3_claim_54 : decode cX3_claim 54 = .ok (.getfield 10, 3) := by decide +kernel
theorem dX3_claim_57 : decode cX3_claim 57 = .ok (.invokevirtual 49, 3) := by decide +kernel
theorem dX3_claim_60 : decode cX3_claim 60 = .ok (.aload_n 0, 1) := by decide +kernel
theorem dX3_claim_61 : decode cX3_claim 61 = .ok (.getfield 10, 3) := by decide +kernel
theorem dX3_claim_64 : decode cX3_claim 64 = .ok (.iload_n 1, 1) := by decide +kernel
theorem dX3_claim_65 : decode cX3_claim 65 = .ok (.iload_n 2, 1) := by decide +kernel
theorem dX3_claim_66 : decode cX3_claim 66 = .ok (.invokevirtual 99, 3) := by decide +kernel
theorem dX3_claim_69 : decode cX3_claim 69 = .ok (.iload_n 3, 1) := by decide +kernel
theorem dX3_claim_70 : decode cX3_claim 70 = .ok (.sipush 10000, 3) := by decide +kernel
theorem dX3_claim_73 : decode cX3_claim 73 = .ok (.iadd, 1) := by decide +kernel
theorem dX3_claim_74 : decode cX3_claim 74 = .ok (.ireturn, 1) := by decide +kernel
theorem dX3_set_0 : decode cX3_set 0 = .ok (.iload_n 1, 1) := by decide +kernel
theorem dX3_set_1 : decode cX3_set 1 = .ok (.ifCond .lt 30, 3) := by decide +kernel
theorem dX3_set_4 : decode cX3_set 4 = .ok (.iload_n 1, 1) := by decide +kernel
theorem dX3_set_5 : decode cX3_set 5 = .ok (.iconst 3, 1) := by decide +kernel
theorem dX3_set_6 : decode cX3_set 6 = .ok (.if_icmp .ge 25, 3) := by decide +kernel
theorem dX3_set_9 : decode cX3_set 9 = .ok (.iload_n 2, 1) := by decide +kernel
theorem dX3_set_10 : decode cX3_set 10 = .ok (.getstatic 102, 3) := by decide +kernel
theorem dX3_set_13 : decode cX3_set 13 = .ok (.iload_n 1, 1) := by decide +kernel
theorem dX3_set_14 : decode cX3_set 14 = .ok (.invokestatic 105, 3) := by decide +kernel
theorem dX3_set_17 : decode cX3_set 17 = .ok (.if_icmp .lt 14, 3) := by decide +kernel
theorem dX3_set_20 : decode cX3_set 20 = .ok (.iload_n 2, 1) := by decide +kernel
theorem dX3_set_21 : decode cX3_set 21 = .ok (.getstatic 109, 3) := by decide +kernel
theorem dX3_set_24 : decode cX3_set 24 = .ok (.iload_n 1, 1) := by decide +kernel
theorem dX3_set_25 : decode cX3_set 25 = .ok (.invokestatic 105, 3) := by decide +kernel
theorem dX3_set_28 : decode cX3_set 28 = .ok (.if_icmp .le 6, 3) := by decide +kernel
theorem dX3_set_31 : decode cX3_set 31 = .ok (.bipush (-2), 2) := by decide +kernel
theorem dX3_set_33 : decode cX3_set 33 = .ok (.ireturn, 1) := by decide +kernel
theorem dX3_set_34 : decode cX3_set 34 = .ok (.aload_n 0, 1) := by decide +kernel
theorem dX3_set_35 : decode cX3_set 35 = .ok (.getfield 10, 3) := by decide +kernel
theorem dX3_set_38 : decode cX3_set 38 = .ok (.iload_n 1, 1) := by decide +kernel
theorem dX3_set_39 : decode cX3_set 39 = .ok (.invokevirtual 112, 3) := by decide +kernel
theorem dX3_set_42 : decode cX3_set 42 = .ok (.istore_n 3, 1) := by decide +kernel
theorem dX3_set_43 : decode cX3_set 43 = .ok (.iload_n 3, 1) := by decide +kernel
theorem dX3_set_44 : decode cX3_set 44 = .ok (.iload_n 2, 1) := by decide +kernel
theorem dX3_set_45 : decode cX3_set 45 = .ok (.if_icmp .ne 6, 3) := by decide +kernel
theorem dX3_set_48 : decode cX3_set 48 = .ok (.bipush (-5), 2) := by decide +kernel
theorem dX3_set_50 : decode cX3_set 50 = .ok (.ireturn, 1) := by decide +kernel
theorem dX3_set_51 : decode cX3_set 51 = .ok (.aload_n 0, 1) := by decide +kernel
theorem dX3_set_52 : decode cX3_set 52 = .ok (.getfield 26, 3) := by decide +kernel
theorem dX3_set_55 : decode cX3_set 55 = .ok (.aload_n 0, 1) := by decide +kernel
theorem dX3_set_56 : decode cX3_set 56 = .ok (.getfield 10, 3) := by decide +kernel
theorem dX3_set_59 : decode cX3_set 59 = .ok (.invokevirtual 49, 3) := by decide +kernel
theorem dX3_set_62 : decode cX3_set 62 = .ok (.aload_n 0, 1) := by decide +kernel
theorem dX3_set_63 : decode cX3_set 63 = .ok (.getfield 10, 3) := by decide +kernel
theorem dX3_set_66 : decode cX3_set 66 = .ok (.iload_n 1, 1) := by decide +kernel
theorem dX3_set_67 : decode cX3_set 67 = .ok (.iload_n 2, 1) := by decide +kernel
theorem dX3_set_68 : decode cX3_set 68 = .ok (.invokevirtual 115, 3) := by decide +kernel
theorem dX3_set_71 : decode cX3_set 71 = .ok (.iload_n 3, 1) := by decide +kernel
theorem dX3_set_72 : decode cX3_set 72 = .ok (.ireturn, 1) := by decide +kernel
theorem dX3_type_0 : decode cX3_type 0 = .ok (.aload_n 0, 1) := by decide +kernel
theorem dX3_type_1 : decode cX3_type 1 = .ok (.getfield 33, 3) := by decide +kernel
theorem dX3_type_4 : decode cX3_type 4 = .ok (.iload_n 1, 1) := by decide +kernel
theorem dX3_type_5 : decode cX3_type 5 = .ok (.invokevirtual 118, 3) := by decide +kernel
theorem dX3_type_8 : decode cX3_type 8 = .ok (.ifCond .eq 13, 3) := by decide +kernel
theorem dX3_type_11 : decode cX3_type 11 = .ok (.aload_n 0, 1) := by decide +kernel
theorem dX3_type_12 : decode cX3_type 12 = .ok (.getfield 33, 3) := by decide +kernel
theorem dX3_type_15 : decode cX3_type 15 = .ok (.getfield 122, 3) := by decide +kernel
theorem dX3_type_18 : decode cX3_type 18 = .ok (.goto 5, 3) := by decide +kernel
theorem dX3_type_21 : decode cX3_type 21 = .ok (.bipush (-3), 2) := by decide +kernel
theorem dX3_type_23 : decode cX3_type 23 = .ok (.ireturn, 1) := by decide +kernel
theorem dX3_clearText_0 : decode cX3_clearText 0 = .ok (.aload_n 0, 1) := by decide +kernel
theorem dX3_clearText_1 : decode cX3_clearText 1 = .ok (.getfield 33, 3) := by decide +kernel
theorem dX3_clearText_4 : decode cX3_clearText 4 = .ok (.getfield 122, 3) := by decide +kernel
theorem dX3_clearText_7 : decode cX3_clearText 7 = .ok (.istore_n 1, 1) := by decide +kernel
theorem dX3_clearText_8 : decode cX3_clearText 8 = .ok (.aload_n 0, 1) := by decide +kernel
theorem dX3_clearText_9 : decode cX3_clearText 9 = .ok (.getfield 33, 3) := by decide +kernel
theorem dX3_clearText_12 : decode cX3_clearText 12 = .ok (.iconst 0, 1) := by decide +kernel
theorem dX3_clearText_13 : decode cX3_clearText 13 = .ok (.putfield 122, 3) := by decide +kernel
theorem dX3_clearText_16 : decode cX3_clearText 16 = .ok (.iload_n 1, 1) := by decide +kernel
theorem dX3_clearText_17 : decode cX3_clearText 17 = .ok (.ireturn, 1) := by decide +kernel
theorem dX3_undo_0 : decode cX3_undo 0 = .ok (.aload_n 0, 1) := by decide +kernel
theorem dX3_undo_1 : decode cX3_undo 1 = .ok (.getfield 26, 3) := by decide +kernel
theorem dX3_undo_4 : decode cX3_undo 4 = .ok (.aload_n 0, 1) := by decide +kernel
theorem dX3_undo_5 : decode cX3_undo 5 = .ok (.getfield 10, 3) := by decide +kernel
theorem dX3_undo_8 : decode cX3_undo 8 = .ok (.invokevirtual 125, 3) := by decide +kernel
theorem dX3_undo_11 : decode cX3_undo 11 = .ok (.ifCond .eq 13, 3) := by decide +kernel
theorem dX3_undo_14 : decode cX3_undo 14 = .ok (.aload_n 0, 1) := by decide +kernel
theorem dX3_undo_15 : decode cX3_undo 15 = .ok (.getfield 26, 3) := by decide +kernel
theorem dX3_undo_18 : decode cX3_undo 18 = .ok (.getfield 129, 3) := by decide +kernel
theorem dX3_undo_21 : decode cX3_undo 21 = .ok (.goto 5, 3) := by decide +kernel
theorem dX3_undo_24 : decode cX3_undo 24 = .ok (.bipush (-5), 2) := by decide +kernel
theorem dX3_undo_26 : decode cX3_undo 26 = .ok (.ireturn, 1) := by decide +kernel
theorem dX3_keep_0 : decode cX3_keep 0 = .ok (.aload_n 0, 1) := by decide +kernel
theorem dX3_keep_1 : decode cX3_keep 1 = .ok (.getfield 16, 3) := by decide +kernel
theorem dX3_keep_4 : decode cX3_keep 4 = .ok (.aload_n 0, 1) := by decide +kernel
theorem dX3_keep_5 : decode cX3_keep 5 = .ok (.getfield 10, 3) := by decide +kernel
theorem dX3_keep_8 : decode cX3_keep 8 = .ok (.invokevirtual 132, 3) := by decide +kernel
theorem dX3_keep_11 : decode cX3_keep 11 = .ok (.aload_n 0, 1) := by decide +kernel
theorem dX3_keep_12 : decode cX3_keep 12 = .ok (.iconst 1, 1) := by decide +kernel
theorem dX3_keep_13 : decode cX3_keep 13 = .ok (.putfield 19, 3) := by decide +kernel
theorem dX3_keep_16 : decode cX3_keep 16 = .ok (.aload_n 0, 1) := by decide +kernel
theorem dX3_keep_17 : decode cX3_keep 17 = .ok (.getfield 10, 3) := by decide +kernel
theorem dX3_keep_20 : decode cX3_keep 20 = .ok (.getfield 45, 3) := by decide +kernel
theorem dX3_keep_23 : decode cX3_keep 23 = .ok (.ireturn, 1) := by decide +kernel
theorem dX3_restore_0 : decode cX3_restore 0 = .ok (.aload_n 0, 1) := by decide +kernel
theorem dX3_restore_1 : decode cX3_restore 1 = .ok (.getfield 19, 3) := by decide +kernel
theorem dX3_restore_4 : decode cX3_restore 4 = .ok (.ifCond .ne 6, 3) := by decide +kernel
theorem dX3_restore_7 : decode cX3_restore 7 = .ok (.bipush (-5), 2) := by decide +kernel
theorem dX3_restore_9 : decode cX3_restore 9 = .ok (.ireturn, 1) := by decide +kernel
theorem dX3_restore_10 : decode cX3_restore 10 = .ok (.aload_n 0, 1) := by decide +kernel
theorem dX3_restore_11 : decode cX3_restore 11 = .ok (.getfield 26, 3) := by decide +kernel
theorem dX3_restore_14 : decode cX3_restore 14 = .ok (.aload_n 0, 1) := by decide +kernel
theorem dX3_restore_15 : decode cX3_restore 15 = .ok (.getfield 10, 3) := by decide +kernel
theorem dX3_restore_18 : decode cX3_restore 18 = .ok (.invokevirtual 49, 3) := by decide +kernel
theorem dX3_restore_21 : decode cX3_restore 21 = .ok (.aload_n 0, 1) := by decide +kernel
theorem dX3_restore_22 : decode cX3_restore 22 = .ok (.getfield 10, 3) := by decide +kernel
theorem dX3_restore_25 : decode cX3_restore 25 = .ok (.aload_n 0, 1) := by decide +kernel
theorem dX3_restore_26 : decode cX3_restore 26 = .ok (.getfield 16, 3) := by decide +kernel
theorem dX3_restore_29 : decode cX3_restore 29 = .ok (.invokevirtual 132, 3) := by decide +kernel
theorem dX3_restore_32 : decode cX3_restore 32 = .ok (.aload_n 0, 1) := by decide +kernel
theorem dX3_restore_33 : decode cX3_restore 33 = .ok (.getfield 10, 3) := by decide +kernel
theorem dX3_restore_36 : decode cX3_restore 36 = .ok (.getfield 45, 3) := by decide +kernel
theorem dX3_restore_39 : decode cX3_restore 39 = .ok (.ireturn, 1) := by decide +kernel
theorem dX3_cell_0 : decode cX3_cell 0 = .ok (.aload_n 0, 1) := by decide +kernel
theorem dX3_cell_1 : decode cX3_cell 1 = .ok (.getfield 10, 3) := by decide +kernel
theorem dX3_cell_4 : decode cX3_cell 4 = .ok (.iload_n 1, 1) := by decide +kernel
theorem dX3_cell_5 : decode cX3_cell 5 = .ok (.iload_n 2, 1) := by decide +kernel
theorem dX3_cell_6 : decode cX3_cell 6 = .ok (.invokevirtual 71, 3) := by decide +kernel
theorem dX3_cell_9 : decode cX3_cell 9 = .ok (.ifCond .ne 5, 3) := by decide +kernel
theorem dX3_cell_12 : decode cX3_cell 12 = .ok (.iconst (-1), 1) := by decide +kernel
theorem dX3_cell_13 : decode cX3_cell 13 = .ok (.ireturn, 1) := by decide +kernel
theorem dX3_cell_14 : decode cX3_cell 14 = .ok (.iload_n 3, 1) := by decide +kernel
theorem dX3_cell_15 : decode cX3_cell 15 = .ok (.tableswitch 105 0 5 #[37, 47, 57, 67, 77, 95], 37) := by decide +kernel
theorem dX3_cell_52 : decode cX3_cell 52 = .ok (.aload_n 0, 1) := by decide +kernel
theorem dX3_cell_53 : decode cX3_cell 53 = .ok (.getfield 10, 3) := by decide +kernel
theorem dX3_cell_56 : decode cX3_cell 56 = .ok (.iload_n 1, 1) := by decide +kernel
theorem dX3_cell_57 : decode cX3_cell 57 = .ok (.iload_n 2, 1) := by decide +kernel
theorem dX3_cell_58 : decode cX3_cell 58 = .ok (.invokevirtual 135, 3) := by decide +kernel
theorem dX3_cell_61 : decode cX3_cell 61 = .ok (.ireturn, 1) := by decide +kernel
theorem dX3_cell_62 : decode cX3_cell 62 = .ok (.aload_n 0, 1) := by decide +kernel
theorem dX3_cell_63 : decode cX3_cell 63 = .ok (.getfield 10, 3) := by decide +kernel
theorem dX3_cell_66 : decode cX3_cell 66 = .ok (.iload_n 1, 1) := by decide +kernel
theorem dX3_cell_67 : decode cX3_cell 67 = .ok (.iload_n 2, 1) := by decide +kernel
theorem dX3_cell_68 : decode cX3_cell 68 = .ok (.invokevirtual 138, 3) := by decide +kernel
theorem dX3_cell_71 : decode cX3_cell 71 = .ok (.ireturn, 1) := by decide +kernel
theorem dX3_cell_72 : decode cX3_cell 72 = .ok (.aload_n 0, 1) := by decide +kernel
theorem dX3_cell_73 : decode cX3_cell 73 = .ok (.getfield 10, 3) := by decide +kernel
theorem dX3_cell_76 : decode cX3_cell 76 = .ok (.iload_n 1, 1) := by decide +kernel
theorem dX3_cell_77 : decode cX3_cell 77 = .ok (.iload_n 2, 1) := by decide +kernel
theorem dX3_cell_78 : decode cX3_cell 78 = .ok (.invokevirtual 74, 3) := by decide +kernel
theorem dX3_cell_81 : decode cX3_cell 81 = .ok (.ireturn, 1) := by decide +kernel
theorem dX3_cell_82 : decode cX3_cell 82 = .ok (.aload_n 0, 1) := by decide +kernel
theorem dX3_cell_83 : decode cX3_cell 83 = .ok (.getfield 10, 3) := by decide +kernel
theorem dX3_cell_86 : decode cX3_cell 86 = .ok (.iload_n 1, 1) := by decide +kernel
theorem dX3_cell_87 : decode cX3_cell 87 = .ok (.iload_n 2, 1) := by decide +kernel
theorem dX3_cell_88 : decode cX3_cell 88 = .ok (.invokevirtual 141, 3) := by decide +kernel
theorem dX3_cell_91 : decode cX3_cell 91 = .ok (.ireturn, 1) := by decide +kernel
theorem dX3_cell_92 : decode cX3_cell 92 = .ok (.aload_n 0, 1) := by decide +kernel
theorem dX3_cell_93 : decode cX3_cell 93 = .ok (.getfield 10, 3) := by decide +kernel
theorem dX3_cell_96 : decode cX3_cell 96 = .ok (.iload_n 1, 1) := by decide +kernel
theorem dX3_cell_97 : decode cX3_cell 97 = .ok (.iload_n 2, 1) := by decide +kernel
theorem dX3_cell_98 : decode cX3_cell 98 = .ok (.invokevirtual 144, 3) := by decide +kernel
theorem dX3_cell_101 : decode cX3_cell 101 = .ok (.ifCond .eq 7, 3) := by decide +kernel
theorem dX3_cell_104 : decode cX3_cell 104 = .ok (.iconst 1, 1) := by decide +kernel
theorem dX3_cell_105 : decode cX3_cell 105 = .ok (.goto 4, 3) := by decide +kernel
theorem dX3_cell_108 : decode cX3_cell 108 = .ok (.iconst 0, 1) := by decide +kernel
theorem dX3_cell_109 : decode cX3_cell 109 = .ok (.ireturn, 1) := by decide +kernel
theorem dX3_cell_110 : decode cX3_cell 110 = .ok (.aload_n 0, 1) := by decide +kernel
theorem dX3_cell_111 : decode cX3_cell 111 = .ok (.getfield 10, 3) := by decide +kernel
theorem dX3_cell_114 : decode cX3_cell 114 = .ok (.iload_n 1, 1) := by decide +kernel
theorem dX3_cell_115 : decode cX3_cell 115 = .ok (.iload_n 2, 1) := by decide +kernel
theorem dX3_cell_116 : decode cX3_cell 116 = .ok (.invokevirtual 147, 3) := by decide +kernel
theorem dX3_cell_119 : decode cX3_cell 119 = .ok (.ireturn, 1) := by decide +kernel
theorem dX3_cell_120 : decode cX3_cell 120 = .ok (.bipush (-2), 2) := by decide +kernel
theorem dX3_cell_122 : decode cX3_cell 122 = .ok (.ireturn, 1) := by decide +kernel
theorem dX3_entry_0 : decode cX3_entry 0 = .ok (.aload_n 0, 1) := by decide +kernel
theorem dX3_entry_1 : decode cX3_entry 1 = .ok (.getfield 10, 3) := by decide +kernel
theorem dX3_entry_4 : decode cX3_entry 4 = .ok (.iload_n 1, 1) := by decide +kernel
theorem dX3_entry_5 : decode cX3_entry 5 = .ok (.iload_n 2, 1) := by decide +kernel
theorem dX3_entry_6 : decode cX3_entry 6 = .ok (.invokevirtual 71, 3) := by decide +kernel
theorem dX3_entry_9 : decode cX3_entry 9 = .ok (.ifCond .ne 5, 3) := by decide +kernel
theorem dX3_entry_12 : decode cX3_entry 12 = .ok (.iconst (-1), 1) := by decide +kernel
theorem dX3_entry_13 : decode cX3_entry 13 = .ok (.ireturn, 1) := by decide +kernel
theorem dX3_entry_14 : decode cX3_entry 14 = .ok (.iload_n 3, 1) := by decide +kernel
theorem dX3_entry_15 : decode cX3_entry 15 = .ok (.ifCond .lt 16, 3) := by decide +kernel
theorem dX3_entry_18 : decode cX3_entry 18 = .ok (.iload_n 3, 1) := by decide +kernel
theorem dX3_entry_19 : decode cX3_entry 19 = .ok (.aload_n 0, 1) := by decide +kernel
theorem dX3_entry_20 : decode cX3_entry 20 = .ok (.getfield 10, 3) := by decide +kernel
theorem dX3_entry_23 : decode cX3_entry 23 = .ok (.iload_n 1, 1) := by decide +kernel
theorem dX3_entry_24 : decode cX3_entry 24 = .ok (.iload_n 2, 1) := by decide +kernel
theorem dX3_entry_25 : decode cX3_entry 25 = .ok (.invokevirtual 74, 3) := by decide +kernel
theorem dX3_entry_28 : decode cX3_entry 28 = .ok (.if_icmp .lt 6, 3) := by decide +kernel
theorem dX3_entry_31 : decode cX3_entry 31 = .ok (.bipush (-2), 2) := by decide +kernel
theorem dX3_entry_33 : decode cX3_entry 33 = .ok (.ireturn, 1) := by decide +kernel
theorem dX3_entry_34 : decode cX3_entry 34 = .ok (.aload_n 0, 1) := by decide +kernel
theorem dX3_entry_35 : decode cX3_entry 35 = .ok (.getfield 10, 3) := by decide +kernel
theorem dX3_entry_38 : decode cX3_entry 38 = .ok (.iload_n 1, 1) := by decide +kernel
theorem dX3_entry_39 : decode cX3_entry 39 = .ok (.iload_n 2, 1) := by decide +kernel
theorem dX3_entry_40 : decode cX3_entry 40 = .ok (.iload_n 3, 1) := by decide +kernel
theorem dX3_entry_41 : decode cX3_entry 41 = .ok (.invokevirtual 88, 3) := by decide +kernel
theorem dX3_entry_44 : decode cX3_entry 44 = .ok (.ireturn, 1) := by decide +kernel
theorem dX3_isWritten_0 : decode cX3_isWritten 0 = .ok (.aload_n 0, 1) := by decide +kernel
theorem dX3_isWritten_1 : decode cX3_isWritten 1 = .ok (.getfield 10, 3) := by decide +kernel
theorem dX3_isWritten_4 : decode cX3_isWritten 4 = .ok (.iload_n 1, 1) := by decide +kernel
theorem dX3_isWritten_5 : decode cX3_isWritten 5 = .ok (.invokevirtual 150, 3) := by decide +kernel
theorem dX3_isWritten_8 : decode cX3_isWritten 8 = .ok (.ifCond .ne 5, 3) := by decide +kernel
theorem dX3_isWritten_11 : decode cX3_isWritten 11 = .ok (.iconst (-1), 1) := by decide +kernel
theorem dX3_isWritten_12 : decode cX3_isWritten 12 = .ok (.ireturn, 1) := by decide +kernel
theorem dX3_isWritten_13 : decode cX3_isWritten 13 = .ok (.aload_n 0, 1) := by decide +kernel
theorem dX3_isWritten_14 : decode cX3_isWritten 14 = .ok (.getfield 10, 3) := by decide +kernel
theorem dX3_isWritten_17 : decode cX3_isWritten 17 = .ok (.iload_n 1, 1) := by decide +kernel
theorem dX3_isWritten_18 : decode cX3_isWritten 18 = .ok (.invokevirtual 154, 3) := by decide +kernel
theorem dX3_isWritten_21 : decode cX3_isWritten 21 = .ok (.ifCond .eq 7, 3) := by decide +kernel
theorem dX3_isWritten_24 : decode cX3_isWritten 24 = .ok (.iconst 1, 1) := by decide +kernel
theorem dX3_isWritten_25 : decode cX3_isWritten 25 = .ok (.goto 4, 3) := by decide +kernel
theorem dX3_isWritten_28 : decode cX3_isWritten 28 = .ok (.iconst 0, 1) := by decide +kernel
theorem dX3_isWritten_29 : decode cX3_isWritten 29 = .ok (.ireturn, 1) := by decide +kernel
theorem dX3_column_0 : decode cX3_column 0 = .ok (.iload_n 1, 1) := by decide +kernel
theorem dX3_column_1 : decode cX3_column 1 = .ok (.invokestatic 157, 3) := by decide +kernel
theorem dX3_column_4 : decode cX3_column 4 = .ok (.ifCond .ne 5, 3) := by decide +kernel
theorem dX3_column_7 : decode cX3_column 7 = .ok (.iconst (-1), 1) := by decide +kernel
theorem dX3_column_8 : decode cX3_column 8 = .ok (.ireturn, 1) := by decide +kernel
theorem dX3_column_9 : decode cX3_column 9 = .ok (.aload_n 0, 1) := by decide +kernel
theorem dX3_column_10 : decode cX3_column 10 = .ok (.getfield 10, 3) := by decide +kernel
theorem dX3_column_13 : decode cX3_column 13 = .ok (.getfield 45, 3) := by decide +kernel
theorem dX3_column_16 : decode cX3_column 16 = .ok (.iconst 1, 1) := by decide +kernel
theorem dX3_column_17 : decode cX3_column 17 = .ok (.isub, 1) := by decide +kernel
theorem dX3_column_18 : decode cX3_column 18 = .ok (.istore_n 3, 1) := by decide +kernel
theorem dX3_column_19 : decode cX3_column 19 = .ok (.iload_n 2, 1) := by decide +kernel
theorem dX3_column_20 : decode cX3_column 20 = .ok (.tableswitch 114 0 6 #[44, 55, 66, 75, 86, 95, 103], 44) := by decide +kernel
theorem dX3_column_64 : decode cX3_column 64 = .ok (.aload_n 0, 1) := by decide +kernel
theorem dX3_column_65 : decode cX3_column 65 = .ok (.getfield 10, 3) := by decide +kernel
theorem dX3_column_68 : decode cX3_column 68 = .ok (.iload_n 1, 1) := by decide +kernel
theorem dX3_column_69 : decode cX3_column 69 = .ok (.bipush (-6), 2) := by decide +kernel
theorem dX3_column_71 : decode cX3_column 71 = .ok (.invokevirtual 160, 3) := by decide +kernel
theorem dX3_column_74 : decode cX3_column 74 = .ok (.ireturn, 1) := by decide +kernel
theorem dX3_column_75 : decode cX3_column 75 = .ok (.aload_n 0, 1) := by decide +kernel
theorem dX3_column_76 : decode cX3_column 76 = .ok (.getfield 10, 3) := by decide +kernel
theorem dX3_column_79 : decode cX3_column 79 = .ok (.iload_n 1, 1) := by decide +kernel
theorem dX3_column_80 : decode cX3_column 80 = .ok (.bipush (-5), 2) := by decide +kernel
theorem dX3_column_82 : decode cX3_column 82 = .ok (.invokevirtual 160, 3) := by decide +kernel
theorem dX3_column_85 : decode cX3_column 85 = .ok (.ireturn, 1) := by decide +kernel
theorem dX3_column_86 : decode cX3_column 86 = .ok (.aload_n 0, 1) := by decide +kernel
theorem dX3_column_87 : decode cX3_column 87 = .ok (.getfield 10, 3) := by decide +kernel
theorem dX3_column_90 : decode cX3_column 90 = .ok (.iload_n 1, 1) := by decide +kernel
theorem dX3_column_91 : decode cX3_column 91 = .ok (.invokevirtual 163, 3) := by decide +kernel
theorem dX3_column_94 : decode cX3_column 94 = .ok (.ireturn, 1) := by decide +kernel
theorem dX3_column_95 : decode cX3_column 95 = .ok (.aload_n 0, 1) := by decide +kernel
theorem dX3_column_96 : decode cX3_column 96 = .ok (.getfield 10, 3) := by decide +kernel
theorem dX3_column_99 : decode cX3_column 99 = .ok (.iload_n 1, 1) := by decide +kernel
theorem dX3_column_100 : decode cX3_column 100 = .ok (.iconst 0, 1) := by decide +kernel
theorem dX3_column_101 : decode cX3_column 101 = .ok (.iload_n 3, 1) := by decide +kernel
theorem dX3_column_102 : decode cX3_column 102 = .ok (.invokevirtual 166, 3) := by decide +kernel
theorem dX3_column_105 : decode cX3_column 105 = .ok (.ireturn, 1) := by decide +kernel
theorem dX3_column_106 : decode cX3_column 106 = .ok (.aload_n 0, 1) := by decide +kernel
theorem dX3_column_107 : decode cX3_column 107 = .ok (.getfield 10, 3) := by decide +kernel
theorem dX3_column_110 : decode cX3_column 110 = .ok (.iload_n 1, 1) := by decide +kernel
theorem dX3_column_111 : decode cX3_column 111 = .ok (.invokevirtual 169, 3) := by decide +kernel
theorem dX3_column_114 : decode cX3_column 114 = .ok (.ireturn, 1) := by decide +kernel
theorem dX3_column_115 : decode cX3_column 115 = .ok (.aload_n 0, 1) := by decide +kernel
theorem dX3_column_116 : decode cX3_column 116 = .ok (.iload_n 1, 1) := by decide +kernel
theorem dX3_column_117 : decode cX3_column 117 = .ok (.iconst 0, 1) := by decide +kernel
theorem dX3_column_118 : decode cX3_column 118 = .ok (.iload_n 3, 1) := by decide +kernel
theorem dX3_column_119 : decode cX3_column 119 = .ok (.invokevirtual 172, 3) := by decide +kernel
theorem dX3_column_122 : decode cX3_column 122 = .ok (.ireturn, 1) := by decide +kernel
theorem dX3_column_123 : decode cX3_column 123 = .ok (.aload_n 0, 1) := by decide +kernel
theorem dX3_column_124 : decode cX3_column 124 = .ok (.getfield 10, 3) := by decide +kernel
theorem dX3_column_127 : decode cX3_column 127 = .ok (.iload_n 1, 1) := by decide +kernel
theorem dX3_column_128 : decode cX3_column 128 = .ok (.iconst 0, 1) := by decide +kernel
theorem dX3_column_129 : decode cX3_column 129 = .ok (.iload_n 3, 1) := by decide +kernel
theorem dX3_column_130 : decode cX3_column 130 = .ok (.invokevirtual 175, 3) := by decide +kernel
theorem dX3_column_133 : decode cX3_column 133 = .ok (.ireturn, 1) := by decide +kernel
theorem dX3_column_134 : decode cX3_column 134 = .ok (.bipush (-2), 2) := by decide +kernel
theorem dX3_column_136 : decode cX3_column 136 = .ok (.ireturn, 1) := by decide +kernel
theorem dX3_watch_0 : decode cX3_watch 0 = .ok (.iload_n 1, 1) := by decide +kernel
theorem dX3_watch_1 : decode cX3_watch 1 = .ok (.ifCond .lt 14, 3) := by decide +kernel
theorem dX3_watch_4 : decode cX3_watch 4 = .ok (.iload_n 1, 1) := by decide +kernel
theorem dX3_watch_5 : decode cX3_watch 5 = .ok (.aload_n 0, 1) := by decide +kernel
theorem dX3_watch_6 : decode cX3_watch 6 = .ok (.getfield 10, 3) := by decide +kernel
theorem dX3_watch_9 : decode cX3_watch 9 = .ok (.invokevirtual 178, 3) := by decide +kernel
theorem dX3_watch_12 : decode cX3_watch 12 = .ok (.if_icmp .lt 5, 3) := by decide +kernel
theorem dX3_watch_15 : decode cX3_watch 15 = .ok (.iconst (-1), 1) := by decide +kernel
theorem dX3_watch_16 : decode cX3_watch 16 = .ok (.ireturn, 1) := by decide +kernel
theorem dX3_watch_17 : decode cX3_watch 17 = .ok (.aload_n 0, 1) := by decide +kernel
theorem dX3_watch_18 : decode cX3_watch 18 = .ok (.getfield 10, 3) := by decide +kernel
theorem dX3_watch_21 : decode cX3_watch 21 = .ok (.iload_n 1, 1) := by decide +kernel
theorem dX3_watch_22 : decode cX3_watch 22 = .ok (.invokevirtual 181, 3) := by decide +kernel
theorem dX3_watch_25 : decode cX3_watch 25 = .ok (.istore_n 3, 1) := by decide +kernel
theorem dX3_watch_26 : decode cX3_watch 26 = .ok (.aload_n 0, 1) := by decide +kernel
theorem dX3_watch_27 : decode cX3_watch 27 = .ok (.getfield 10, 3) := by decide +kernel
theorem dX3_watch_30 : decode cX3_watch 30 = .ok (.iload_n 1, 1) := by decide +kernel
theorem dX3_watch_31 : decode cX3_watch 31 = .ok (.invokevirtual 184, 3) := by decide +kernel
theorem dX3_watch_34 : decode cX3_watch 34 = .ok (.istore 4, 2) := by decide +kernel
theorem dX3_watch_36 : decode cX3_watch 36 = .ok (.iload_n 2, 1) := by decide +kernel
theorem dX3_watch_37 : decode cX3_watch 37 = .ok (.tableswitch 141 0 6 #[43, 50, 61, 70, 79, 121, 133], 43) := by decide +kernel
theorem dX3_watch_80 : decode cX3_watch 80 = .ok (.iload 4, 2) := by decide +kernel
theorem dX3_watch_82 : decode cX3_watch 82 = .ok (.iload_n 3, 1) := by decide +kernel
theorem dX3_watch_83 : decode cX3_watch 83 = .ok (.isub, 1) := by decide +kernel
theorem dX3_watch_84 : decode cX3_watch 84 = .ok (.iconst 1, 1) := by decide +kernel
theorem dX3_watch_85 : decode cX3_watch 85 = .ok (.iadd, 1) := by decide +kernel
theorem dX3_watch_86 : decode cX3_watch 86 = .ok (.ireturn, 1) := by decide +kernel
theorem dX3_watch_87 : decode cX3_watch 87 = .ok (.aload_n 0, 1) := by decide +kernel
theorem dX3_watch_88 : decode cX3_watch 88 = .ok (.getfield 10, 3) := by decide +kernel
theorem dX3_watch_91 : decode cX3_watch 91 = .ok (.iload_n 3, 1) := by decide +kernel
theorem dX3_watch_92 : decode cX3_watch 92 = .ok (.iload 4, 2) := by decide +kernel
theorem dX3_watch_94 : decode cX3_watch 94 = .ok (.invokevirtual 187, 3) := by decide +kernel
theorem dX3_watch_97 : decode cX3_watch 97 = .ok (.ireturn, 1) := by decide +kernel
theorem dX3_watch_98 : decode cX3_watch 98 = .ok (.aload_n 0, 1) := by decide +kernel
theorem dX3_watch_99 : decode cX3_watch 99 = .ok (.iconst 3, 1) := by decide +kernel
theorem dX3_watch_100 : decode cX3_watch 100 = .ok (.iload_n 3, 1) := by decide +kernel
theorem dX3_watch_101 : decode cX3_watch 101 = .ok (.iload 4, 2) := by decide +kernel
theorem dX3_watch_103 : decode cX3_watch 103 = .ok (.invokevirtual 172, 3) := by decide +kernel
theorem dX3_watch_106 : decode cX3_watch 106 = .ok (.ireturn, 1) := by decide +kernel
theorem dX3_watch_107 : decode cX3_watch 107 = .ok (.aload_n 0, 1) := by decide +kernel
theorem dX3_watch_108 : decode cX3_watch 108 = .ok (.getfield 10, 3) := by decide +kernel
theorem dX3_watch_111 : decode cX3_watch 111 = .ok (.iload_n 1, 1) := by decide +kernel
theorem dX3_watch_112 : decode cX3_watch 112 = .ok (.invokevirtual 95, 3) := by decide +kernel
theorem dX3_watch_115 : decode cX3_watch 115 = .ok (.ireturn, 1) := by decide +kernel
theorem dX3_watch_116 : decode cX3_watch 116 = .ok (.aload_n 0, 1) := by decide +kernel
theorem dX3_watch_117 : decode cX3_watch 117 = .ok (.getfield 10, 3) := by decide +kernel
theorem dX3_watch_120 : decode cX3_watch 120 = .ok (.iload_n 1, 1) := by decide +kernel
theorem dX3_watch_121 : decode cX3_watch 121 = .ok (.invokevirtual 95, 3) := by decide +kernel
theorem dX3_watch_124 : decode cX3_watch 124 = .ok (.bipush (-5), 2) := by decide +kernel
theorem dX3_watch_126 : decode cX3_watch 126 = .ok (.if_icmp .ne 8, 3) := by decide +kernel
theorem dX3_watch_129 : decode cX3_watch 129 = .ok (.bipush (-5), 2) := by decide +kernel
theorem dX3_watch_131 : decode cX3_watch 131 = .ok (.goto 26, 3) := by decide +kernel
theorem dX3_watch_134 : decode cX3_watch 134 = .ok (.aload_n 0, 1) := by decide +kernel
theorem dX3_watch_135 : decode cX3_watch 135 = .ok (.getfield 10, 3) := by decide +kernel
theorem dX3_watch_138 : decode cX3_watch 138 = .ok (.iload_n 3, 1) := by decide +kernel
theorem dX3_watch_139 : decode cX3_watch 139 = .ok (.iload 4, 2) := by decide +kernel
theorem dX3_watch_141 : decode cX3_watch 141 = .ok (.invokevirtual 187, 3) := by decide +kernel
theorem dX3_watch_144 : decode cX3_watch 144 = .ok (.aload_n 0, 1) := by decide +kernel
theorem dX3_watch_145 : decode cX3_watch 145 = .ok (.getfield 10, 3) := by decide +kernel
theorem dX3_watch_148 : decode cX3_watch 148 = .ok (.iload_n 1, 1) := by decide +kernel
theorem dX3_watch_149 : decode cX3_watch 149 = .ok (.invokevirtual 95, 3) := by decide +kernel
theorem dX3_watch_152 : decode cX3_watch 152 = .ok (.isub, 1) := by decide +kernel
theorem dX3_watch_153 : decode cX3_watch 153 = .ok (.sipush 10000, 3) := by decide +kernel
theorem dX3_watch_156 : decode cX3_watch 156 = .ok (.iadd, 1) := by decide +kernel
theorem dX3_watch_157 : decode cX3_watch 157 = .ok (.ireturn, 1) := by decide +kernel
theorem dX3_watch_158 : decode cX3_watch 158 = .ok (.aload_n 0, 1) := by decide +kernel
theorem dX3_watch_159 : decode cX3_watch 159 = .ok (.getfield 10, 3) := by decide +kernel
theorem dX3_watch_162 : decode cX3_watch 162 = .ok (.iconst 1, 1) := by decide +kernel
theorem dX3_watch_163 : decode cX3_watch 163 = .ok (.iload_n 3, 1) := by decide +kernel
theorem dX3_watch_164 : decode cX3_watch 164 = .ok (.iload 4, 2) := by decide +kernel
theorem dX3_watch_166 : decode cX3_watch 166 = .ok (.invokevirtual 166, 3) := by decide +kernel
theorem dX3_watch_169 : decode cX3_watch 169 = .ok (.ireturn, 1) := by decide +kernel
theorem dX3_watch_170 : decode cX3_watch 170 = .ok (.aload_n 0, 1) := by decide +kernel
theorem dX3_watch_171 : decode cX3_watch 171 = .ok (.iload_n 3, 1) := by decide +kernel
theorem dX3_watch_172 : decode cX3_watch 172 = .ok (.iload 4, 2) := by decide +kernel
theorem dX3_watch_174 : decode cX3_watch 174 = .ok (.invokevirtual 190, 3) := by decide +kernel
theorem dX3_watch_177 : decode cX3_watch 177 = .ok (.ireturn, 1) := by decide +kernel
theorem dX3_watch_178 : decode cX3_watch 178 = .ok (.bipush (-2), 2) := by decide +kernel
theorem dX3_watch_180 : decode cX3_watch 180 = .ok (.ireturn, 1) := by decide +kernel
theorem dX3_run_0 : decode cX3_run 0 = .ok (.aload_n 0, 1) := by decide +kernel
theorem dX3_run_1 : decode cX3_run 1 = .ok (.getfield 10, 3) := by decide +kernel
theorem dX3_run_4 : decode cX3_run 4 = .ok (.iload_n 1, 1) := by decide +kernel
theorem dX3_run_5 : decode cX3_run 5 = .ok (.invokevirtual 150, 3) := by decide +kernel
theorem dX3_run_8 : decode cX3_run 8 = .ok (.ifCond .eq 14, 3) := by decide +kernel
theorem dX3_run_11 : decode cX3_run 11 = .ok (.aload_n 0, 1) := by decide +kernel
theorem dX3_run_12 : decode cX3_run 12 = .ok (.getfield 10, 3) := by decide +kernel
theorem dX3_run_15 : decode cX3_run 15 = .ok (.iload_n 2, 1) := by decide +kernel
theorem dX3_run_16 : decode cX3_run 16 = .ok (.invokevirtual 150, 3) := by decide +kernel
theorem dX3_run_19 : decode cX3_run 19 = .ok (.ifCond .ne 5, 3) := by decide +kernel
theorem dX3_run_22 : decode cX3_run 22 = .ok (.iconst (-1), 1) := by decide +kernel
theorem dX3_run_23 : decode cX3_run 23 = .ok (.ireturn, 1) := by decide +kernel
theorem dX3_run_24 : decode cX3_run 24 = .ok (.iload_n 2, 1) := by decide +kernel
theorem dX3_run_25 : decode cX3_run 25 = .ok (.iload_n 1, 1) := by decide +kernel
theorem dX3_run_26 : decode cX3_run 26 = .ok (.if_icmp .ge 8, 3) := by decide +kernel
theorem dX3_run_29 : decode cX3_run 29 = .ok (.bipush (-2), 2) := by decide +kernel
theorem dX3_run_31 : decode cX3_run 31 = .ok (.goto 12, 3) := by decide +kernel
theorem dX3_run_34 : decode cX3_run 34 = .ok (.aload_n 0, 1) := by decide +kernel
theorem dX3_run_35 : decode cX3_run 35 = .ok (.getfield 10, 3) := by decide +kernel
theorem dX3_run_38 : decode cX3_run 38 = .ok (.iload_n 1, 1) := by decide +kernel
theorem dX3_run_39 : decode cX3_run 39 = .ok (.iload_n 2, 1) := by decide +kernel
theorem dX3_run_40 : decode cX3_run 40 = .ok (.invokevirtual 187, 3) := by decide +kernel
theorem dX3_run_43 : decode cX3_run 43 = .ok (.ireturn, 1) := by decide +kernel
theorem dX3_north_0 : decode cX3_north 0 = .ok (.aload_n 0, 1) := by decide +kernel
theorem dX3_north_1 : decode cX3_north 1 = .ok (.getfield 10, 3) := by decide +kernel
theorem dX3_north_4 : decode cX3_north 4 = .ok (.iload_n 1, 1) := by decide +kernel
theorem dX3_north_5 : decode cX3_north 5 = .ok (.iload_n 2, 1) := by decide +kernel
theorem dX3_north_6 : decode cX3_north 6 = .ok (.invokevirtual 193, 3) := by decide +kernel
theorem dX3_north_9 : decode cX3_north 9 = .ok (.ifCond .eq 16, 3) := by decide +kernel
theorem dX3_north_12 : decode cX3_north 12 = .ok (.aload_n 0, 1) := by decide +kernel
theorem dX3_north_13 : decode cX3_north 13 = .ok (.getfield 10, 3) := by decide +kernel
theorem dX3_north_16 : decode cX3_north 16 = .ok (.iload_n 1, 1) := by decide +kernel
theorem dX3_north_17 : decode cX3_north 17 = .ok (.iload_n 2, 1) := by decide +kernel
theorem dX3_north_18 : decode cX3_north 18 = .ok (.iconst 0, 1) := by decide +kernel
theorem dX3_north_19 : decode cX3_north 19 = .ok (.invokevirtual 196, 3) := by decide +kernel
theorem dX3_north_22 : decode cX3_north 22 = .ok (.goto 6, 3) := by decide +kernel
theorem dX3_north_25 : decode cX3_north 25 = .ok (.ldc2_w 200, 3) := by decide +kernel
theorem dX3_north_28 : decode cX3_north 28 = .ok (.dreturn, 1) := by decide +kernel
theorem dX3_east_0 : decode cX3_east 0 = .ok (.aload_n 0, 1) := by decide +kernel
theorem dX3_east_1 : decode cX3_east 1 = .ok (.getfield 10, 3) := by decide +kernel
theorem dX3_east_4 : decode cX3_east 4 = .ok (.iload_n 1, 1) := by decide +kernel
theorem dX3_east_5 : decode cX3_east 5 = .ok (.iload_n 2, 1) := by decide +kernel
theorem dX3_east_6 : decode cX3_east 6 = .ok (.invokevirtual 193, 3) := by decide +kernel
theorem dX3_east_9 : decode cX3_east 9 = .ok (.ifCond .eq 17, 3) := by decide +kernel
theorem dX3_east_12 : decode cX3_east 12 = .ok (.aload_n 0, 1) := by decide +kernel
theorem dX3_east_13 : decode cX3_east 13 = .ok (.getfield 10, 3) := by decide +kernel
theorem dX3_east_16 : decode cX3_east 16 = .ok (.iload_n 1, 1) := by decide +kernel
theorem dX3_east_17 : decode cX3_east 17 = .ok (.iload_n 2, 1) := by decide +kernel
theorem dX3_east_18 : decode cX3_east 18 = .ok (.bipush 6, 2) := by decide +kernel
theorem dX3_east_20 : decode cX3_east 20 = .ok (.invokevirtual 196, 3) := by decide +kernel
theorem dX3_east_23 : decode cX3_east 23 = .ok (.goto 6, 3) := by decide +kernel
theorem dX3_east_26 : decode cX3_east 26 = .ok (.ldc2_w 200, 3) := by decide +kernel
theorem dX3_east_29 : decode cX3_east 29 = .ok (.dreturn, 1) := by decide +kernel
theorem dX3_squareBits_0 : decode cX3_squareBits 0 = .ok (.aload_n 0, 1) := by decide +kernel
theorem dX3_squareBits_1 : decode cX3_squareBits 1 = .ok (.getfield 10, 3) := by decide +kernel
theorem dX3_squareBits_4 : decode cX3_squareBits 4 = .ok (.iload_n 1, 1) := by decide +kernel
theorem dX3_squareBits_5 : decode cX3_squareBits 5 = .ok (.invokevirtual 150, 3) := by decide +kernel
theorem dX3_squareBits_8 : decode cX3_squareBits 8 = .ok (.ifCond .eq 14, 3) := by decide +kernel
theorem dX3_squareBits_11 : decode cX3_squareBits 11 = .ok (.aload_n 0, 1) := by decide +kernel
theorem dX3_squareBits_12 : decode cX3_squareBits 12 = .ok (.getfield 10, 3) := by decide +kernel
theorem dX3_squareBits_15 : decode cX3_squareBits 15 = .ok (.iload_n 2, 1) := by decide +kernel
theorem dX3_squareBits_16 : decode cX3_squareBits 16 = .ok (.invokevirtual 150, 3) := by decide +kernel
theorem dX3_squareBits_19 : decode cX3_squareBits 19 = .ok (.ifCond .ne 5, 3) := by decide +kernel
theorem dX3_squareBits_22 : decode cX3_squareBits 22 = .ok (.iconst (-1), 1) := by decide +kernel
theorem dX3_squareBits_23 : decode cX3_squareBits 23 = .ok (.ireturn, 1) := by decide +kernel
theorem dX3_squareBits_24 : decode cX3_squareBits 24 = .ok (.iload_n 2, 1) := by decide +kernel
theorem dX3_squareBits_25 : decode cX3_squareBits 25 = .ok (.iload_n 1, 1) := by decide +kernel
theorem dX3_squareBits_26 : decode cX3_squareBits 26 = .ok (.if_icmp .ge 6, 3) := by decide +kernel
theorem dX3_squareBits_29 : decode cX3_squareBits 29 = .ok (.bipush (-2), 2) := by decide +kernel
theorem dX3_squareBits_31 : decode cX3_squareBits 31 = .ok (.ireturn, 1) := by decide +kernel
theorem dX3_squareBits_32 : decode cX3_squareBits 32 = .ok (.aload_n 0, 1) := by decide +kernel
theorem dX3_squareBits_33 : decode cX3_squareBits 33 = .ok (.getfield 10, 3) := by decide +kernel
theorem dX3_squareBits_36 : decode cX3_squareBits 36 = .ok (.iload_n 1, 1) := by decide +kernel
theorem dX3_squareBits_37 : decode cX3_squareBits 37 = .ok (.iload_n 2, 1) := by decide +kernel
theorem dX3_squareBits_38 : decode cX3_squareBits 38 = .ok (.iconst 0, 1) := by decide +kernel
theorem dX3_squareBits_39 : decode cX3_squareBits 39 = .ok (.invokevirtual 196, 3) := by decide +kernel
theorem dX3_squareBits_42 : decode cX3_squareBits 42 = .ok (.dstore_n 3, 1) := by decide +kernel
theorem dX3_squareBits_43 : decode cX3_squareBits 43 = .ok (.aload_n 0, 1) := by decide +kernel
theorem dX3_squareBits_44 : decode cX3_squareBits 44 = .ok (.getfield 10, 3) := by decide +kernel
theorem dX3_squareBits_47 : decode cX3_squareBits 47 = .ok (.iload_n 1, 1) := by decide +kernel
theorem dX3_squareBits_48 : decode cX3_squareBits 48 = .ok (.iload_n 2, 1) := by decide +kernel
theorem dX3_squareBits_49 : decode cX3_squareBits 49 = .ok (.bipush 6, 2) := by decide +kernel
theorem dX3_squareBits_51 : decode cX3_squareBits 51 = .ok (.invokevirtual 196, 3) := by decide +kernel
theorem dX3_squareBits_54 : decode cX3_squareBits 54 = .ok (.dstore 5, 2) := by decide +kernel
theorem dX3_squareBits_56 : decode cX3_squareBits 56 = .ok (.dload_n 3, 1) := by decide +kernel
theorem dX3_squareBits_57 : decode cX3_squareBits 57 = .ok (.dload_n 3, 1) := by decide +kernel
theorem dX3_squareBits_58 : decode cX3_squareBits 58 = .ok (.dmul, 1) := by decide +kernel
theorem dX3_squareBits_59 : decode cX3_squareBits 59 = .ok (.dload 5, 2) := by decide +kernel
theorem dX3_squareBits_61 : decode cX3_squareBits 61 = .ok (.dload 5, 2) := by decide +kernel
theorem dX3_squareBits_63 : decode cX3_squareBits 63 = .ok (.dmul, 1) := by decide +kernel
theorem dX3_squareBits_64 : decode cX3_squareBits 64 = .ok (.dadd, 1) := by decide +kernel
theorem dX3_squareBits_65 : decode cX3_squareBits 65 = .ok (.d2f, 1) := by decide +kernel
theorem dX3_squareBits_66 : decode cX3_squareBits 66 = .ok (.invokestatic 202, 3) := by decide +kernel
theorem dX3_squareBits_69 : decode cX3_squareBits 69 = .ok (.ireturn, 1) := by decide +kernel
theorem dX3_wouldChange_0 : decode cX3_wouldChange 0 = .ok (.aload_n 0, 1) := by decide +kernel
theorem dX3_wouldChange_1 : decode cX3_wouldChange 1 = .ok (.getfield 10, 3) := by decide +kernel
theorem dX3_wouldChange_4 : decode cX3_wouldChange 4 = .ok (.iload_n 1, 1) := by decide +kernel
theorem dX3_wouldChange_5 : decode cX3_wouldChange 5 = .ok (.iload_n 2, 1) := by decide +kernel
theorem dX3_wouldChange_6 : decode cX3_wouldChange 6 = .ok (.invokevirtual 71, 3) := by decide +kernel
theorem dX3_wouldChange_9 : decode cX3_wouldChange 9 = .ok (.ifCond .ne 5, 3) := by decide +kernel
theorem dX3_wouldChange_12 : decode cX3_wouldChange 12 = .ok (.iconst (-1), 1) := by decide +kernel
theorem dX3_wouldChange_13 : decode cX3_wouldChange 13 = .ok (.ireturn, 1) := by decide +kernel
theorem dX3_wouldChange_14 : decode cX3_wouldChange 14 = .ok (.iload_n 2, 1) := by decide +kernel
theorem dX3_wouldChange_15 : decode cX3_wouldChange 15 = .ok (.iload_n 3, 1) := by decide +kernel
theorem dX3_wouldChange_16 : decode cX3_wouldChange 16 = .ok (.invokestatic 41, 3) := by decide +kernel
theorem dX3_wouldChange_19 : decode cX3_wouldChange 19 = .ok (.ifCond .eq 16, 3) := by decide +kernel
theorem dX3_wouldChange_22 : decode cX3_wouldChange 22 = .ok (.aload_n 0, 1) := by decide +kernel
theorem dX3_wouldChange_23 : decode cX3_wouldChange 23 = .ok (.getfield 10, 3) := by decide +kernel
theorem dX3_wouldChange_26 : decode cX3_wouldChange 26 = .ok (.iload_n 1, 1) := by decide +kernel
theorem dX3_wouldChange_27 : decode cX3_wouldChange 27 = .ok (.iload_n 2, 1) := by decide +kernel
theorem dX3_wouldChange_28 : decode cX3_wouldChange 28 = .ok (.iload_n 3, 1) := by decide +kernel
theorem dX3_wouldChange_29 : decode cX3_wouldChange 29 = .ok (.invokevirtual 80, 3) := by decide +kernel
theorem dX3_wouldChange_32 : decode cX3_wouldChange 32 = .ok (.goto 5, 3) := by decide +kernel
theorem dX3_wouldChange_35 : decode cX3_wouldChange 35 = .ok (.bipush (-2), 2) := by decide +kernel
theorem dX3_wouldChange_37 : decode cX3_wouldChange 37 = .ok (.ireturn, 1) := by decide +kernel
theorem dX3_count_0 : decode cX3_count 0 = .ok (.iload_n 1, 1) := by decide +kernel
theorem dX3_count_1 : decode cX3_count 1 = .ok (.tableswitch 163 0 11 #[63, 71, 76, 81, 96, 104, 112, 120, 129, 138, 147, 155], 63) := by decide +kernel
theorem dX3_count_64 : decode cX3_count 64 = .ok (.aload_n 0, 1) := by decide +kernel
theorem dX3_count_65 : decode cX3_count 65 = .ok (.getfield 10, 3) := by decide +kernel
theorem dX3_count_68 : decode cX3_count 68 = .ok (.getfield 45, 3) := by decide +kernel
theorem dX3_count_71 : decode cX3_count 71 = .ok (.ireturn, 1) := by decide +kernel
theorem dX3_count_72 : decode cX3_count 72 = .ok (.aload_n 0, 1) := by decide +kernel
theorem dX3_count_73 : decode cX3_count 73 = .ok (.invokevirtual 206, 3) := by decide +kernel
theorem dX3_count_76 : decode cX3_count 76 = .ok (.ireturn, 1) := by decide +kernel
theorem dX3_count_77 : decode cX3_count 77 = .ok (.aload_n 0, 1) := by decide +kernel
theorem dX3_count_78 : decode cX3_count 78 = .ok (.invokevirtual 209, 3) := by decide +kernel
theorem dX3_count_81 : decode cX3_count 81 = .ok (.ireturn, 1) := by decide +kernel
theorem dX3_count_82 : decode cX3_count 82 = .ok (.aload_n 0, 1) := by decide +kernel
theorem dX3_count_83 : decode cX3_count 83 = .ok (.iconst 0, 1) := by decide +kernel
theorem dX3_count_84 : decode cX3_count 84 = .ok (.aload_n 0, 1) := by decide +kernel
theorem dX3_count_85 : decode cX3_count 85 = .ok (.getfield 10, 3) := by decide +kernel
theorem dX3_count_88 : decode cX3_count 88 = .ok (.getfield 45, 3) := by decide +kernel
theorem dX3_count_91 : decode cX3_count 91 = .ok (.iconst 1, 1) := by decide +kernel
theorem dX3_count_92 : decode cX3_count 92 = .ok (.isub, 1) := by decide +kernel
theorem dX3_count_93 : decode cX3_count 93 = .ok (.invokevirtual 190, 3) := by decide +kernel
theorem dX3_count_96 : decode cX3_count 96 = .ok (.ireturn, 1) := by decide +kernel
theorem dX3_count_97 : decode cX3_count 97 = .ok (.aload_n 0, 1) := by decide +kernel
theorem dX3_count_98 : decode cX3_count 98 = .ok (.getfield 10, 3) := by decide +kernel
theorem dX3_count_101 : decode cX3_count 101 = .ok (.invokevirtual 212, 3) := by decide +kernel
theorem dX3_count_104 : decode cX3_count 104 = .ok (.ireturn, 1) := by decide +kernel
theorem dX3_count_105 : decode cX3_count 105 = .ok (.aload_n 0, 1) := by decide +kernel
theorem dX3_count_106 : decode cX3_count 106 = .ok (.getfield 10, 3) := by decide +kernel
theorem dX3_count_109 : decode cX3_count 109 = .ok (.invokevirtual 178, 3) := by decide +kernel
theorem dX3_count_112 : decode cX3_count 112 = .ok (.ireturn, 1) := by decide +kernel
theorem dX3_count_113 : decode cX3_count 113 = .ok (.aload_n 0, 1) := by decide +kernel
theorem dX3_count_114 : decode cX3_count 114 = .ok (.getfield 10, 3) := by decide +kernel
theorem dX3_count_117 : decode cX3_count 117 = .ok (.invokevirtual 215, 3) := by decide +kernel
theorem dX3_count_120 : decode cX3_count 120 = .ok (.ireturn, 1) := by decide +kernel
theorem dX3_count_121 : decode cX3_count 121 = .ok (.aload_n 0, 1) := by decide +kernel
theorem dX3_count_122 : decode cX3_count 122 = .ok (.getfield 10, 3) := by decide +kernel
theorem dX3_count_125 : decode cX3_count 125 = .ok (.iconst 0, 1) := by decide +kernel
theorem dX3_count_126 : decode cX3_count 126 = .ok (.invokevirtual 112, 3) := by decide +kernel
theorem dX3_count_129 : decode cX3_count 129 = .ok (.ireturn, 1) := by decide +kernel
theorem dX3_count_130 : decode cX3_count 130 = .ok (.aload_n 0, 1) := by decide +kernel
theorem dX3_count_131 : decode cX3_count 131 = .ok (.getfield 10, 3) := by decide +kernel
theorem dX3_count_134 : decode cX3_count 134 = .ok (.iconst 1, 1) := by decide +kernel
theorem dX3_count_135 : decode cX3_count 135 = .ok (.invokevirtual 112, 3) := by decide +kernel
theorem dX3_count_138 : decode cX3_count 138 = .ok (.ireturn, 1) := by decide +kernel
theorem dX3_count_139 : decode cX3_count 139 = .ok (.aload_n 0, 1) := by decide +kernel
theorem dX3_count_140 : decode cX3_count 140 = .ok (.getfield 10, 3) := by decide +kernel
theorem dX3_count_143 : decode cX3_count 143 = .ok (.iconst 2, 1) := by decide +kernel
theorem dX3_count_144 : decode cX3_count 144 = .ok (.invokevirtual 112, 3) := by decide +kernel
theorem dX3_count_147 : decode cX3_count 147 = .ok (.ireturn, 1) := by decide +kernel
theorem dX3_count_148 : decode cX3_count 148 = .ok (.aload_n 0, 1) := by decide +kernel
theorem dX3_count_149 : decode cX3_count 149 = .ok (.getfield 26, 3) := by decide +kernel
theorem dX3_count_152 : decode cX3_count 152 = .ok (.getfield 129, 3) := by decide +kernel
theorem dX3_count_155 : decode cX3_count 155 = .ok (.ireturn, 1) := by decide +kernel
theorem dX3_count_156 : decode cX3_count 156 = .ok (.aload_n 0, 1) := by decide +kernel
theorem dX3_count_157 : decode cX3_count 157 = .ok (.getfield 33, 3) := by decide +kernel
theorem dX3_count_160 : decode cX3_count 160 = .ok (.getfield 122, 3) := by decide +kernel
theorem dX3_count_163 : decode cX3_count 163 = .ok (.ireturn, 1) := by decide +kernel
theorem dX3_count_164 : decode cX3_count 164 = .ok (.bipush (-2), 2) := by decide +kernel
theorem dX3_count_166 : decode cX3_count 166 = .ok (.ireturn, 1) := by decide +kernel
theorem dX3_dittos_0 : decode cX3_dittos 0 = .ok (.iconst 0, 1) := by decide +kernel
theorem dX3_dittos_1 : decode cX3_dittos 1 = .ok (.istore_n 1, 1) := by decide +kernel
theorem dX3_dittos_2 : decode cX3_dittos 2 = .ok (.iconst 0, 1) := by decide +kernel
theorem dX3_dittos_3 : decode cX3_dittos 3 = .ok (.istore_n 2, 1) := by decide +kernel
theorem dX3_dittos_4 : decode cX3_dittos 4 = .ok (.iload_n 2, 1) := by decide +kernel
theorem dX3_dittos_5 : decode cX3_dittos 5 = .ok (.iconst 4, 1) := by decide +kernel
theorem dX3_dittos_6 : decode cX3_dittos 6 = .ok (.if_icmp .ge 22, 3) := by decide +kernel
theorem dX3_dittos_9 : decode cX3_dittos 9 = .ok (.iload_n 1, 1) := by decide +kernel
theorem dX3_dittos_10 : decode cX3_dittos 10 = .ok (.aload_n 0, 1) := by decide +kernel
theorem dX3_dittos_11 : decode cX3_dittos 11 = .ok (.getfield 10, 3) := by decide +kernel
theorem dX3_dittos_14 : decode cX3_dittos 14 = .ok (.iload_n 2, 1) := by decide +kernel
theorem dX3_dittos_15 : decode cX3_dittos 15 = .ok (.bipush (-6), 2) := by decide +kernel
theorem dX3_dittos_17 : decode cX3_dittos 17 = .ok (.invokevirtual 160, 3) := by decide +kernel
theorem dX3_dittos_20 : decode cX3_dittos 20 = .ok (.iadd, 1) := by decide +kernel
theorem dX3_dittos_21 : decode cX3_dittos 21 = .ok (.istore_n 1, 1) := by decide +kernel
theorem dX3_dittos_22 : decode cX3_dittos 22 = .ok (.iinc 2 1, 3) := by decide +kernel
theorem dX3_dittos_25 : decode cX3_dittos 25 = .ok (.goto (-21), 3) := by decide +kernel
theorem dX3_dittos_28 : decode cX3_dittos 28 = .ok (.iload_n 1, 1) := by decide +kernel
theorem dX3_dittos_29 : decode cX3_dittos 29 = .ok (.ireturn, 1) := by decide +kernel
theorem dX3_corrections_0 : decode cX3_corrections 0 = .ok (.iconst 0, 1) := by decide +kernel
theorem dX3_corrections_1 : decode cX3_corrections 1 = .ok (.istore_n 1, 1) := by decide +kernel
theorem dX3_corrections_2 : decode cX3_corrections 2 = .ok (.iconst 0, 1) := by decide +kernel
theorem dX3_corrections_3 : decode cX3_corrections 3 = .ok (.istore_n 2, 1) := by decide +kernel
theorem dX3_corrections_4 : decode cX3_corrections 4 = .ok (.iload_n 2, 1) := by decide +kernel
theorem dX3_corrections_5 : decode cX3_corrections 5 = .ok (.iconst 4, 1) := by decide +kernel
theorem dX3_corrections_6 : decode cX3_corrections 6 = .ok (.if_icmp .ge 20, 3) := by decide +kernel
theorem dX3_corrections_9 : decode cX3_corrections 9 = .ok (.iload_n 1, 1) := by decide +kernel
theorem dX3_corrections_10 : decode cX3_corrections 10 = .ok (.aload_n 0, 1) := by decide +kernel
theorem dX3_corrections_11 : decode cX3_corrections 11 = .ok (.getfield 10, 3) := by decide +kernel
theorem dX3_corrections_14 : decode cX3_corrections 14 = .ok (.iload_n 2, 1) := by decide +kernel
theorem dX3_corrections_15 : decode cX3_corrections 15 = .ok (.invokevirtual 163, 3) := by decide +kernel
theorem dX3_corrections_18 : decode cX3_corrections 18 = .ok (.iadd, 1) := by decide +kernel
theorem dX3_corrections_19 : decode cX3_corrections 19 = .ok (.istore_n 1, 1) := by decide +kernel
theorem dX3_corrections_20 : decode cX3_corrections 20 = .ok (.iinc 2 1, 3) := by decide +kernel
theorem dX3_corrections_23 : decode cX3_corrections 23 = .ok (.goto (-19), 3) := by decide +kernel
theorem dX3_corrections_26 : decode cX3_corrections 26 = .ok (.iload_n 1, 1) := by decide +kernel
theorem dX3_corrections_27 : decode cX3_corrections 27 = .ok (.ireturn, 1) := by decide +kernel
theorem dX3_doubtfulCells_0 : decode cX3_doubtfulCells 0 = .ok (.iconst 0, 1) := by decide +kernel
theorem dX3_doubtfulCells_1 : decode cX3_doubtfulCells 1 = .ok (.istore_n 3, 1) := by decide +kernel
theorem dX3_doubtfulCells_2 : decode cX3_doubtfulCells 2 = .ok (.iconst 0, 1) := by decide +kernel
theorem dX3_doubtfulCells_3 : decode cX3_doubtfulCells 3 = .ok (.istore 4, 2) := by decide +kernel
theorem dX3_doubtfulCells_5 : decode cX3_doubtfulCells 5 = .ok (.iload 4, 2) := by decide +kernel
theorem dX3_doubtfulCells_7 : decode cX3_doubtfulCells 7 = .ok (.iconst 4, 1) := by decide +kernel
theorem dX3_doubtfulCells_8 : decode cX3_doubtfulCells 8 = .ok (.if_icmp .ge 23, 3) := by decide +kernel
theorem dX3_doubtfulCells_11 : decode cX3_doubtfulCells 11 = .ok (.iload_n 3, 1) := by decide +kernel
theorem dX3_doubtfulCells_12 : decode cX3_doubtfulCells 12 = .ok (.aload_n 0, 1) := by decide +kernel
theorem dX3_doubtfulCells_13 : decode cX3_doubtfulCells 13 = .ok (.getfield 10, 3) := by decide +kernel
theorem dX3_doubtfulCells_16 : decode cX3_doubtfulCells 16 = .ok (.iload 4, 2) := by decide +kernel
theorem dX3_doubtfulCells_18 : decode cX3_doubtfulCells 18 = .ok (.iload_n 1, 1) := by decide +kernel
theorem dX3_doubtfulCells_19 : decode cX3_doubtfulCells 19 = .ok (.iload_n 2, 1) := by decide +kernel
theorem dX3_doubtfulCells_20 : decode cX3_doubtfulCells 20 = .ok (.invokevirtual 175, 3) := by decide +kernel
theorem dX3_doubtfulCells_23 : decode cX3_doubtfulCells 23 = .ok (.iadd, 1) := by decide +kernel
theorem dX3_doubtfulCells_24 : decode cX3_doubtfulCells 24 = .ok (.istore_n 3, 1) := by decide +kernel
theorem dX3_doubtfulCells_25 : decode cX3_doubtfulCells 25 = .ok (.iinc 4 1, 3) := by decide +kernel
theorem dX3_doubtfulCells_28 : decode cX3_doubtfulCells 28 = .ok (.goto (-23), 3) := by decide +kernel
theorem dX3_doubtfulCells_31 : decode cX3_doubtfulCells 31 = .ok (.iload_n 3, 1) := by decide +kernel
theorem dX3_doubtfulCells_32 : decode cX3_doubtfulCells 32 = .ok (.ireturn, 1) := by decide +kernel
theorem dX3_mostMeant_0 : decode cX3_mostMeant 0 = .ok (.aload_n 0, 1) := by decide +kernel
theorem dX3_mostMeant_1 : decode cX3_mostMeant 1 = .ok (.getfield 37, 3) := by decide +kernel
theorem dX3_mostMeant_4 : decode cX3_mostMeant 4 = .ok (.iconst 0, 1) := by decide +kernel
theorem dX3_mostMeant_5 : decode cX3_mostMeant 5 = .ok (.invokestatic 218, 3) := by decide +kernel
theorem dX3_mostMeant_8 : decode cX3_mostMeant 8 = .ok (.iload_n 2, 1) := by decide +kernel
theorem dX3_mostMeant_9 : decode cX3_mostMeant 9 = .ok (.istore 4, 2) := by decide +kernel
theorem dX3_mostMeant_11 : decode cX3_mostMeant 11 = .ok (.iload 4, 2) := by decide +kernel
theorem dX3_mostMeant_13 : decode cX3_mostMeant 13 = .ok (.iload_n 3, 1) := by decide +kernel
theorem dX3_mostMeant_14 : decode cX3_mostMeant 14 = .ok (.if_icmp .gt 47, 3) := by decide +kernel
theorem dX3_mostMeant_17 : decode cX3_mostMeant 17 = .ok (.aload_n 0, 1) := by decide +kernel
theorem dX3_mostMeant_18 : decode cX3_mostMeant 18 = .ok (.getfield 10, 3) := by decide +kernel
theorem dX3_mostMeant_21 : decode cX3_mostMeant 21 = .ok (.iload 4, 2) := by decide +kernel
theorem dX3_mostMeant_23 : decode cX3_mostMeant 23 = .ok (.iload_n 1, 1) := by decide +kernel
theorem dX3_mostMeant_24 : decode cX3_mostMeant 24 = .ok (.invokevirtual 135, 3) := by decide +kernel
theorem dX3_mostMeant_27 : decode cX3_mostMeant 27 = .ok (.istore 5, 2) := by decide +kernel
theorem dX3_mostMeant_29 : decode cX3_mostMeant 29 = .ok (.iload 5, 2) := by decide +kernel
theorem dX3_mostMeant_31 : decode cX3_mostMeant 31 = .ok (.ifCond .lt 24, 3) := by decide +kernel
theorem dX3_mostMeant_34 : decode cX3_mostMeant 34 = .ok (.iload 5, 2) := by decide +kernel
theorem dX3_mostMeant_36 : decode cX3_mostMeant 36 = .ok (.aload_n 0, 1) := by decide +kernel
theorem dX3_mostMeant_37 : decode cX3_mostMeant 37 = .ok (.getfield 37, 3) := by decide +kernel
theorem dX3_mostMeant_40 : decode cX3_mostMeant 40 = .ok (.arraylength, 1) := by decide +kernel
theorem dX3_mostMeant_41 : decode cX3_mostMeant 41 = .ok (.if_icmp .ge 14, 3) := by decide +kernel
theorem dX3_mostMeant_44 : decode cX3_mostMeant 44 = .ok (.aload_n 0, 1) := by decide +kernel
theorem dX3_mostMeant_45 : decode cX3_mostMeant 45 = .ok (.getfield 37, 3) := by decide +kernel
theorem dX3_mostMeant_48 : decode cX3_mostMeant 48 = .ok (.iload 5, 2) := by decide +kernel
theorem dX3_mostMeant_50 : decode cX3_mostMeant 50 = .ok (.dup2, 1) := by decide +kernel
theorem dX3_mostMeant_51 : decode cX3_mostMeant 51 = .ok (.iaload, 1) := by decide +kernel
theorem dX3_mostMeant_52 : decode cX3_mostMeant 52 = .ok (.iconst 1, 1) := by decide +kernel
theorem dX3_mostMeant_53 : decode cX3_mostMeant 53 = .ok (.iadd, 1) := by decide +kernel
theorem dX3_mostMeant_54 : decode cX3_mostMeant 54 = .ok (.iastore, 1) := by decide +kernel
theorem dX3_mostMeant_55 : decode cX3_mostMeant 55 = .ok (.iinc 4 1, 3) := by decide +kernel
theorem dX3_mostMeant_58 : decode cX3_mostMeant 58 = .ok (.goto (-47), 3) := by decide +kernel
theorem dX3_mostMeant_61 : decode cX3_mostMeant 61 = .ok (.bipush (-5), 2) := by decide +kernel
theorem dX3_mostMeant_63 : decode cX3_mostMeant 63 = .ok (.istore 4, 2) := by decide +kernel
theorem dX3_mostMeant_65 : decode cX3_mostMeant 65 = .ok (.iconst 0, 1) := by decide +kernel
theorem dX3_mostMeant_66 : decode cX3_mostMeant 66 = .ok (.istore 5, 2) := by decide +kernel
theorem dX3_mostMeant_68 : decode cX3_mostMeant 68 = .ok (.iconst 0, 1) := by decide +kernel
theorem dX3_mostMeant_69 : decode cX3_mostMeant 69 = .ok (.istore 6, 2) := by decide +kernel
theorem dX3_mostMeant_71 : decode cX3_mostMeant 71 = .ok (.iload 6, 2) := by decide +kernel
theorem dX3_mostMeant_73 : decode cX3_mostMeant 73 = .ok (.aload_n 0, 1) := by decide +kernel
theorem dX3_mostMeant_74 : decode cX3_mostMeant 74 = .ok (.getfield 37, 3) := by decide +kernel
theorem dX3_mostMeant_77 : decode cX3_mostMeant 77 = .ok (.arraylength, 1) := by decide +kernel
theorem dX3_mostMeant_78 : decode cX3_mostMeant 78 = .ok (.if_icmp .ge 34, 3) := by decide +kernel
theorem dX3_mostMeant_81 : decode cX3_mostMeant 81 = .ok (.aload_n 0, 1) := by decide +kernel
theorem dX3_mostMeant_82 : decode cX3_mostMeant 82 = .ok (.getfield 37, 3) := by decide +kernel
theorem dX3_mostMeant_85 : decode cX3_mostMeant 85 = .ok (.iload 6, 2) := by decide +kernel
theorem dX3_mostMeant_87 : decode cX3_mostMeant 87 = .ok (.iaload, 1) := by decide +kernel
theorem dX3_mostMeant_88 : decode cX3_mostMeant 88 = .ok (.iload 5, 2) := by decide +kernel
theorem dX3_mostMeant_90 : decode cX3_mostMeant 90 = .ok (.if_icmp .le 16, 3) := by decide +kernel
theorem dX3_mostMeant_93 : decode cX3_mostMeant 93 = .ok (.aload_n 0, 1) := by decide +kernel
theorem dX3_mostMeant_94 : decode cX3_mostMeant 94 = .ok (.getfield 37, 3) := by decide +kernel
theorem dX3_mostMeant_97 : decode cX3_mostMeant 97 = .ok (.iload 6, 2) := by decide +kernel
theorem dX3_mostMeant_99 : decode cX3_mostMeant 99 = .ok (.iaload, 1) := by decide +kernel
theorem dX3_mostMeant_100 : decode cX3_mostMeant 100 = .ok (.istore 5, 2) := by decide +kernel
theorem dX3_mostMeant_102 : decode cX3_mostMeant 102 = .ok (.iload 6, 2) := by decide +kernel
theorem dX3_mostMeant_104 : decode cX3_mostMeant 104 = .ok (.istore 4, 2) := by decide +kernel
theorem dX3_mostMeant_106 : decode cX3_mostMeant 106 = .ok (.iinc 6 1, 3) := by decide +kernel
theorem dX3_mostMeant_109 : decode cX3_mostMeant 109 = .ok (.goto (-38), 3) := by decide +kernel
theorem dX3_mostMeant_112 : decode cX3_mostMeant 112 = .ok (.iload 4, 2) := by decide +kernel
theorem dX3_mostMeant_114 : decode cX3_mostMeant 114 = .ok (.ireturn, 1) := by decide +kernel
theorem dX3_isColumn_0 : decode cX3_isColumn 0 = .ok (.iload_n 0, 1) := by decide +kernel
theorem dX3_isColumn_1 : decode cX3_isColumn 1 = .ok (.ifCond .lt 12, 3) := by decide +kernel
theorem dX3_isColumn_4 : decode cX3_isColumn 4 = .ok (.iload_n 0, 1) := by decide +kernel
theorem dX3_isColumn_5 : decode cX3_isColumn 5 = .ok (.iconst 4, 1) := by decide +kernel
theorem dX3_isColumn_6 : decode cX3_isColumn 6 = .ok (.if_icmp .ge 7, 3) := by decide +kernel
theorem dX3_isColumn_9 : decode cX3_isColumn 9 = .ok (.iconst 1, 1) := by decide +kernel
theorem dX3_isColumn_10 : decode cX3_isColumn 10 = .ok (.goto 4, 3) := by decide +kernel
theorem dX3_isColumn_13 : decode cX3_isColumn 13 = .ok (.iconst 0, 1) := by decide +kernel
theorem dX3_isColumn_14 : decode cX3_isColumn 14 = .ok (.ireturn, 1) := by decide +kernel
theorem dX3_isEntry_0 : decode cX3_isEntry 0 = .ok (.iload_n 1, 1) := by decide +kernel
theorem dX3_isEntry_1 : decode cX3_isEntry 1 = .ok (.bipush (-5), 2) := by decide +kernel
theorem dX3_isEntry_3 : decode cX3_isEntry 3 = .ok (.if_icmp .eq 24, 3) := by decide +kernel
theorem dX3_isEntry_6 : decode cX3_isEntry 6 = .ok (.iload_n 1, 1) := by decide +kernel
theorem dX3_isEntry_7 : decode cX3_isEntry 7 = .ok (.bipush (-6), 2) := by decide +kernel
theorem dX3_isEntry_9 : decode cX3_isEntry 9 = .ok (.if_icmp .eq 18, 3) := by decide +kernel
theorem dX3_isEntry_12 : decode cX3_isEntry 12 = .ok (.iload_n 1, 1) := by decide +kernel
theorem dX3_isEntry_13 : decode cX3_isEntry 13 = .ok (.ifCond .lt 18, 3) := by decide +kernel
theorem dX3_isEntry_16 : decode cX3_isEntry 16 = .ok (.iload_n 1, 1) := by decide +kernel
theorem dX3_isEntry_17 : decode cX3_isEntry 17 = .ok (.getstatic 224, 3) := by decide +kernel
theorem dX3_isEntry_20 : decode cX3_isEntry 20 = .ok (.iload_n 0, 1) := by decide +kernel
theorem dX3_isEntry_21 : decode cX3_isEntry 21 = .ok (.invokestatic 105, 3) := by decide +kernel
theorem dX3_isEntry_24 : decode cX3_isEntry 24 = .ok (.if_icmp .gt 7, 3) := by decide +kernel
theorem dX3_isEntry_27 : decode cX3_isEntry 27 = .ok (.iconst 1, 1) := by decide +kernel
theorem dX3_isEntry_28 : decode cX3_isEntry 28 = .ok (.goto 4, 3) := by decide +kernel
theorem dX3_isEntry_31 : decode cX3_isEntry 31 = .ok (.iconst 0, 1) := by decide +kernel
theorem dX3_isEntry_32 : decode cX3_isEntry 32 = .ok (.ireturn, 1) := by decide +kernel
theorem dX3_at_0 : decode cX3_at 0 = .ok (.iload_n 1, 1) := by decide +kernel
theorem dX3_at_1 : decode cX3_at 1 = .ok (.ifCond .lt 15, 3) := by decide +kernel
theorem dX3_at_4 : decode cX3_at 4 = .ok (.iload_n 1, 1) := by decide +kernel
theorem dX3_at_5 : decode cX3_at 5 = .ok (.aload_n 0, 1) := by decide +kernel
theorem dX3_at_6 : decode cX3_at 6 = .ok (.arraylength, 1) := by decide +kernel
theorem dX3_at_7 : decode cX3_at 7 = .ok (.if_icmp .ge 9, 3) := by decide +kernel
theorem dX3_at_10 : decode cX3_at 10 = .ok (.aload_n 0, 1) := by decide +kernel
theorem dX3_at_11 : decode cX3_at 11 = .ok (.iload_n 1, 1) := by decide +kernel
theorem dX3_at_12 : decode cX3_at 12 = .ok (.iaload, 1) := by decide +kernel
theorem dX3_at_13 : decode cX3_at 13 = .ok (.goto 5, 3) := by decide +kernel
theorem dX3_at_16 : decode cX3_at 16 = .ok (.bipush (-5), 2) := by decide +kernel
theorem dX3_at_18 : decode cX3_at 18 = .ok (.ireturn, 1) := by decide +kernel
theorem dX3_copyInto_0 : decode cX3_copyInto 0 = .ok (.aload_n 0, 1) := by decide +kernel
theorem dX3_copyInto_1 : decode cX3_copyInto 1 = .ok (.iconst 0, 1) := by decide +kernel
theorem dX3_copyInto_2 : decode cX3_copyInto 2 = .ok (.aload_n 1, 1) := by decide +kernel
theorem dX3_copyInto_3 : decode cX3_copyInto 3 = .ok (.iconst 0, 1) := by decide +kernel
theorem dX3_copyInto_4 : decode cX3_copyInto 4 = .ok (.aload_n 0, 1) := by decide +kernel
theorem dX3_copyInto_5 : decode cX3_copyInto 5 = .ok (.arraylength, 1) := by decide +kernel
theorem dX3_copyInto_6 : decode cX3_copyInto 6 = .ok (.aload_n 1, 1) := by decide +kernel
theorem dX3_copyInto_7 : decode cX3_copyInto 7 = .ok (.arraylength, 1) := by decide +kernel
theorem dX3_copyInto_8 : decode cX3_copyInto 8 = .ok (.invokestatic 227, 3) := by decide +kernel
theorem dX3_copyInto_11 : decode cX3_copyInto 11 = .ok (.invokestatic 232, 3) := by decide +kernel
theorem dX3_copyInto_14 : decode cX3_copyInto 14 = .ok (.return_, 1) := by decide +kernel
theorem dX3_wayNorth_0 : decode cX3_wayNorth 0 = .ok (.iload_n 0, 1) := by decide +kernel
theorem dX3_wayNorth_1 : decode cX3_wayNorth 1 = .ok (.tableswitch 69 0 7 #[47, 49, 69, 53, 57, 61, 69, 65], 47) := by decide +kernel
theorem dX3_wayNorth_48 : decode cX3_wayNorth 48 = .ok (.dconst 1, 1) := by decide +kernel
theorem dX3_wayNorth_49 : decode cX3_wayNorth 49 = .ok (.dreturn, 1) := by decide +kernel
theorem dX3_wayNorth_50 : decode cX3_wayNorth 50 = .ok (.ldc2_w 238, 3) := by decide +kernel
theorem dX3_wayNorth_53 : decode cX3_wayNorth 53 = .ok (.dreturn, 1) := by decide +kernel
theorem dX3_wayNorth_54 : decode cX3_wayNorth 54 = .ok (.ldc2_w 240, 3) := by decide +kernel
theorem dX3_wayNorth_57 : decode cX3_wayNorth 57 = .ok (.dreturn, 1) := by decide +kernel
theorem dX3_wayNorth_58 : decode cX3_wayNorth 58 = .ok (.ldc2_w 242, 3) := by decide +kernel
theorem dX3_wayNorth_61 : decode cX3_wayNorth 61 = .ok (.dreturn, 1) := by decide +kernel
theorem dX3_wayNorth_62 : decode cX3_wayNorth 62 = .ok (.ldc2_w 240, 3) := by decide +kernel
theorem dX3_wayNorth_65 : decode cX3_wayNorth 65 = .ok (.dreturn, 1) := by decide +kernel
theorem dX3_wayNorth_66 : decode cX3_wayNorth 66 = .ok (.ldc2_w 238, 3) := by decide +kernel
theorem dX3_wayNorth_69 : decode cX3_wayNorth 69 = .ok (.dreturn, 1) := by decide +kernel
theorem dX3_wayNorth_70 : decode cX3_wayNorth 70 = .ok (.dconst 0, 1) := by decide +kernel
theorem dX3_wayNorth_71 : decode cX3_wayNorth 71 = .ok (.dreturn, 1) := by decide +kernel
theorem dX3_bitsOf_0 : decode cX3_bitsOf 0 = .ok (.fload_n 0, 1) := by decide +kernel
theorem dX3_bitsOf_1 : decode cX3_bitsOf 1 = .ok (.f2d, 1) := by decide +kernel
theorem dX3_bitsOf_2 : decode cX3_bitsOf 2 = .ok (.dstore_n 1, 1) := by decide +kernel
theorem dX3_bitsOf_3 : decode cX3_bitsOf 3 = .ok (.bipush 126, 2) := by decide +kernel
theorem dX3_bitsOf_5 : decode cX3_bitsOf 5 = .ok (.istore_n 3, 1) := by decide +kernel
theorem dX3_bitsOf_6 : decode cX3_bitsOf 6 = .ok (.iconst 0, 1) := by decide +kernel
theorem dX3_bitsOf_7 : decode cX3_bitsOf 7 = .ok (.istore 4, 2) := by decide +kernel
theorem dX3_bitsOf_9 : decode cX3_bitsOf 9 = .ok (.iload 4, 2) := by decide +kernel
theorem dX3_bitsOf_11 : decode cX3_bitsOf 11 = .ok (.bipush 127, 2) := by decide +kernel
theorem dX3_bitsOf_13 : decode cX3_bitsOf 13 = .ok (.if_icmp .ge 26, 3) := by decide +kernel
theorem dX3_bitsOf_16 : decode cX3_bitsOf 16 = .ok (.dload_n 1, 1) := by decide +kernel
theorem dX3_bitsOf_17 : decode cX3_bitsOf 17 = .ok (.ldc2_w 244, 3) := by decide +kernel
theorem dX3_bitsOf_20 : decode cX3_bitsOf 20 = .ok (.dcmp .l, 1) := by decide +kernel
theorem dX3_bitsOf_21 : decode cX3_bitsOf 21 = .ok (.ifCond .lt 18, 3) := by decide +kernel
theorem dX3_bitsOf_24 : decode cX3_bitsOf 24 = .ok (.dload_n 1, 1) := by decide +kernel
theorem dX3_bitsOf_25 : decode cX3_bitsOf 25 = .ok (.ldc2_w 244, 3) := by decide +kernel
theorem dX3_bitsOf_28 : decode cX3_bitsOf 28 = .ok (.ddiv, 1) := by decide +kernel
theorem dX3_bitsOf_29 : decode cX3_bitsOf 29 = .ok (.dstore_n 1, 1) := by decide +kernel
theorem dX3_bitsOf_30 : decode cX3_bitsOf 30 = .ok (.iinc 3 1, 3) := by decide +kernel
theorem dX3_bitsOf_33 : decode cX3_bitsOf 33 = .ok (.iinc 4 1, 3) := by decide +kernel
theorem dX3_bitsOf_36 : decode cX3_bitsOf 36 = .ok (.goto (-27), 3) := by decide +kernel
theorem dX3_bitsOf_39 : decode cX3_bitsOf 39 = .ok (.iconst 0, 1) := by decide +kernel
theorem dX3_bitsOf_40 : decode cX3_bitsOf 40 = .ok (.istore 4, 2) := by decide +kernel
theorem dX3_bitsOf_42 : decode cX3_bitsOf 42 = .ok (.iload 4, 2) := by decide +kernel
theorem dX3_bitsOf_44 : decode cX3_bitsOf 44 = .ok (.bipush 126, 2) := by decide +kernel
theorem dX3_bitsOf_46 : decode cX3_bitsOf 46 = .ok (.if_icmp .ge 24, 3) := by decide +kernel
theorem dX3_bitsOf_49 : decode cX3_bitsOf 49 = .ok (.dload_n 1, 1) := by decide +kernel
theorem dX3_bitsOf_50 : decode cX3_bitsOf 50 = .ok (.dconst 1, 1) := by decide +kernel
theorem dX3_bitsOf_51 : decode cX3_bitsOf 51 = .ok (.dcmp .g, 1) := by decide +kernel
theorem dX3_bitsOf_52 : decode cX3_bitsOf 52 = .ok (.ifCond .ge 18, 3) := by decide +kernel
theorem dX3_bitsOf_55 : decode cX3_bitsOf 55 = .ok (.dload_n 1, 1) := by decide +kernel
theorem dX3_bitsOf_56 : decode cX3_bitsOf 56 = .ok (.ldc2_w 244, 3) := by decide +kernel
theorem dX3_bitsOf_59 : decode cX3_bitsOf 59 = .ok (.dmul, 1) := by decide +kernel
theorem dX3_bitsOf_60 : decode cX3_bitsOf 60 = .ok (.dstore_n 1, 1) := by decide +kernel
theorem dX3_bitsOf_61 : decode cX3_bitsOf 61 = .ok (.iinc 3 (-1), 3) := by decide +kernel
theorem dX3_bitsOf_64 : decode cX3_bitsOf 64 = .ok (.iinc 4 1, 3) := by decide +kernel
theorem dX3_bitsOf_67 : decode cX3_bitsOf 67 = .ok (.goto (-25), 3) := by decide +kernel
theorem dX3_bitsOf_70 : decode cX3_bitsOf 70 = .ok (.iload_n 3, 1) := by decide +kernel
theorem dX3_bitsOf_71 : decode cX3_bitsOf 71 = .ok (.bipush 23, 2) := by decide +kernel
theorem dX3_bitsOf_73 : decode cX3_bitsOf 73 = .ok (.ishl, 1) := by decide +kernel
theorem dX3_bitsOf_74 : decode cX3_bitsOf 74 = .ok (.dload_n 1, 1) := by decide +kernel
theorem dX3_bitsOf_75 : decode cX3_bitsOf 75 = .ok (.ldc2_w 246, 3) := by decide +kernel
theorem dX3_bitsOf_78 : decode cX3_bitsOf 78 = .ok (.dmul, 1) := by decide +kernel
theorem dX3_bitsOf_79 : decode cX3_bitsOf 79 = .ok (.d2i, 1) := by decide +kernel
theorem dX3_bitsOf_80 : decode cX3_bitsOf 80 = .ok (.iadd, 1) := by decide +kernel
theorem dX3_bitsOf_81 : decode cX3_bitsOf 81 = .ok (.ireturn, 1) := by decide +kernel
end
section
theorem dX4_init_0 : decode cX4_init 0 = .ok (.aload_n 0, 1) := by decide +kernel
theorem dX4_init_1 : decode cX4_init 1 = .ok (.invokespecial 1, 3) := by decide +kernel
theorem dX4_init_4 : decode cX4_init 4 = .ok (.aload_n 0, 1) := by decide +kernel
theorem dX4_init_5 : decode cX4_init 5 = .ok (.sipush 988, 3) := by decide +kernel
theorem dX4_init_8 : decode cX4_init 8 = .ok (.newarray .int, 2) := by decide +kernel
theorem dX4_init_10 : decode cX4_init 10 = .ok (.putfield 7, 3) := by decide +kernel
theorem dX4_init_13 : decode cX4_init 13 = .ok (.aload_n 0, 1) := by decide +kernel
theorem dX4_init_14 : decode cX4_init 14 = .ok (.sipush 3952, 3) := by decide +kernel
theorem dX4_init_17 : decode cX4_init 17 = .ok (.newarray .int, 2) := by decide +kernel
theorem dX4_init_19 : decode cX4_init 19 = .ok (.putfield 13, 3) := by decide +kernel
theorem dX4_init_22 : decode cX4_init 22 = .ok (.aload_n 0, 1) := by decide +kernel
theorem dX4_init_23 : decode cX4_init 23 = .ok (.sipush 988, 3) := by decide +kernel
theorem dX4_init_26 : decode cX4_init 26 = .ok (.newarray .int, 2) := by decide +kernel
theorem dX4_init_28 : decode cX4_init 28 = .ok (.putfield 16, 3) := by decide +kernel
theorem dX4_init_31 : decode cX4_init 31 = .ok (.aload_n 0, 1) := by decide +kernel
theorem dX4_init_32 : decode cX4_init 32 = .ok (.bipush 60, 2) := by decide +kernel
theorem dX4_init_34 : decode cX4_init 34 = .ok (.newarray .char, 2) := by decide +kernel
theorem dX4_init_36 : decode cX4_init 36 = .ok (.putfield 19, 3) := by decide +kernel
theorem dX4_init_39 : decode cX4_init 39 = .ok (.aload_n 0, 1) := by decide +kernel
theorem dX4_init_40 : decode cX4_init 40 = .ok (.bipush 48, 2) := by decide +kernel
theorem dX4_init_42 : decode cX4_init 42 = .ok (.newarray .int, 2) := by decide +kernel
theorem dX4_init_44 : decode cX4_init 44 = .ok (.putfield 23, 3) := by decide +kernel
theorem dX4_init_47 : decode cX4_init 47 = .ok (.aload_n 0, 1) := by decide +kernel
theorem dX4_init_48 : decode cX4_init 48 = .ok (.bipush 40, 2) := by decide +kernel
theorem dX4_init_50 : decode cX4_init 50 = .ok (.newarray .int, 2) := by decide +kernel
theorem dX4_init_52 : decode cX4_init 52 = .ok (.putfield 26, 3) := by decide +kernel
theorem dX4_init_55 : decode cX4_init 55 = .ok (.aload_n 0, 1) := by decide +kernel
theorem dX4_init_56 : decode cX4_init 56 = .ok (.getfield 7, 3) := by decide +kernel
theorem dX4_init_59 : decode cX4_init 59 = .ok (.iconst 1, 1) := by decide +kernel
theorem dX4_init_60 : decode cX4_init 60 = .ok (.bipush 12, 2) := by decide +kernel
theorem dX4_init_62 : decode cX4_init 62 = .ok (.iastore, 1) := by decide +kernel
theorem dX4_init_63 : decode cX4_init 63 = .ok (.aload_n 0, 1) := by decide +kernel
theorem dX4_init_64 : decode cX4_init 64 = .ok (.getfield 7, 3) := by decide +kernel
theorem dX4_init_67 : decode cX4_init 67 = .ok (.iconst 3, 1) := by decide +kernel
theorem dX4_init_68 : decode cX4_init 68 = .ok (.iconst 4, 1) := by decide +kernel
theorem dX4_init_69 : decode cX4_init 69 = .ok (.iastore, 1) := by decide +kernel
theorem dX4_init_70 : decode cX4_init 70 = .ok (.iconst 0, 1) := by decide +kernel
theorem dX4_init_71 : decode cX4_init 71 = .ok (.istore_n 1, 1) := by decide +kernel
theorem dX4_init_72 : decode cX4_init 72 = .ok (.iload_n 1, 1) := by decide +kernel
theorem dX4_init_73 : decode cX4_init 73 = .ok (.bipush 24, 2) := by decide +kernel
theorem dX4_init_75 : decode cX4_init 75 = .ok (.if_icmp .ge 19, 3) := by decide +kernel
theorem dX4_init_78 : decode cX4_init 78 = .ok (.aload_n 0, 1) := by decide +kernel
theorem dX4_init_79 : decode cX4_init 79 = .ok (.getfield 7, 3) := by decide +kernel
theorem dX4_init_82 : decode cX4_init 82 = .ok (.iconst 4, 1) := by decide +kernel
theorem dX4_init_83 : decode cX4_init 83 = .ok (.iload_n 1, 1) := by decide +kernel
theorem dX4_init_84 : decode cX4_init 84 = .ok (.iadd, 1) := by decide +kernel
theorem dX4_init_85 : decode cX4_init 85 = .ok (.bipush (-5), 2) := by decide +kernel
theorem dX4_init_87 : decode cX4_init 87 = .ok (.iastore, 1) := by decide +kernel
theorem dX4_init_88 : decode cX4_init 88 = .ok (.iinc 1 1, 3) := by decide +kernel
theorem dX4_init_91 : decode cX4_init 91 = .ok (.goto (-19), 3) := by decide +kernel
theorem dX4_init_94 : decode cX4_init 94 = .ok (.return_, 1) := by decide +kernel
theorem dX4_in_0 : decode cX4_in 0 = .ok (.iload_n 0, 1) := by decide +kernel
theorem dX4_in_1 : decode cX4_in 1 = .ok (.iload_n 1, 1) := by decide +kernel
theorem dX4_in_2 : decode cX4_in 2 = .ok (.if_icmp .lt 12, 3) := by decide +kernel
theorem dX4_in_5 : decode cX4_in 5 = .ok (.iload_n 0, 1) := by decide +kernel
theorem dX4_in_6 : decode cX4_in 6 = .ok (.iload_n 2, 1) := by decide +kernel
theorem dX4_in_7 : decode cX4_in 7 = .ok (.if_icmp .gt 7, 3) := by decide +kernel
theorem dX4_in_10 : decode cX4_in 10 = .ok (.iconst 1, 1) := by decide +kernel
theorem dX4_in_11 : decode cX4_in 11 = .ok (.goto 4, 3) := by decide +kernel
theorem dX4_in_14 : decode cX4_in 14 = .ok (.iconst 0, 1) := by decide +kernel
theorem dX4_in_15 : decode cX4_in 15 = .ok (.ireturn, 1) := by decide +kernel
theorem dX4_lays_0 : decode cX4_lays 0 = .ok (.iconst 0, 1) := by decide +kernel
theorem dX4_lays_1 : decode cX4_lays 1 = .ok (.istore 4, 2) := by decide +kernel
theorem dX4_lays_3 : decode cX4_lays 3 = .ok (.iload 4, 2) := by decide +kernel
theorem dX4_lays_5 : decode cX4_lays 5 = .ok (.sipush 988, 3) := by decide +kernel
theorem dX4_lays_8 : decode cX4_lays 8 = .ok (.if_icmp .ge 21, 3) := by decide +kernel
theorem dX4_lays_11 : decode cX4_lays 11 = .ok (.aload_n 2, 1) := by decide +kernel
theorem dX4_lays_12 : decode cX4_lays 12 = .ok (.iload_n 3, 1) := by decide +kernel
theorem dX4_lays_13 : decode cX4_lays 13 = .ok (.iload 4, 2) := by decide +kernel
theorem dX4_lays_15 : decode cX4_lays 15 = .ok (.iadd, 1) := by decide +kernel
theorem dX4_lays_16 : decode cX4_lays 16 = .ok (.aload_n 0, 1) := by decide +kernel
theorem dX4_lays_17 : decode cX4_lays 17 = .ok (.iload_n 1, 1) := by decide +kernel
theorem dX4_lays_18 : decode cX4_lays 18 = .ok (.iload 4, 2) := by decide +kernel
theorem dX4_lays_20 : decode cX4_lays 20 = .ok (.iadd, 1) := by decide +kernel
theorem dX4_lays_21 : decode cX4_lays 21 = .ok (.iaload, 1) := by decide +kernel
theorem dX4_lays_22 : decode cX4_lays 22 = .ok (.iastore, 1) := by decide +kernel
theorem dX4_lays_23 : decode cX4_lays 23 = .ok (.iinc 4 1, 3) := by decide +kernel
theorem dX4_lays_26 : decode cX4_lays 26 = .ok (.goto (-23), 3) := by decide +kernel
theorem dX4_lays_29 : decode cX4_lays 29 = .ok (.return_, 1) := by decide +kernel
theorem dX4_records_0 : decode cX4_records 0 = .ok (.aload_n 0, 1) := by decide +kernel
theorem dX4_records_1 : decode cX4_records 1 = .ok (.getfield 29, 3) := by decide +kernel
theorem dX4_records_4 : decode cX4_records 4 = .ok (.iconst 4, 1) := by decide +kernel
theorem dX4_records_5 : decode cX4_records 5 = .ok (.if_icmp .ne 44, 3) := by decide +kernel
theorem dX4_records_8 : decode cX4_records 8 = .ok (.iconst 0, 1) := by decide +kernel
theorem dX4_records_9 : decode cX4_records 9 = .ok (.istore_n 1, 1) := by decide +kernel
theorem dX4_records_10 : decode cX4_records 10 = .ok (.iload_n 1, 1) := by decide +kernel
theorem dX4_records_11 : decode cX4_records 11 = .ok (.sipush 2964, 3) := by decide +kernel
theorem dX4_records_14 : decode cX4_records 14 = .ok (.if_icmp .ge 25, 3) := by decide +kernel
theorem dX4_records_17 : decode cX4_records 17 = .ok (.aload_n 0, 1) := by decide +kernel
theorem dX4_records_18 : decode cX4_records 18 = .ok (.getfield 13, 3) := by decide +kernel
theorem dX4_records_21 : decode cX4_records 21 = .ok (.iload_n 1, 1) := by decide +kernel
theorem dX4_records_22 : decode cX4_records 22 = .ok (.aload_n 0, 1) := by decide +kernel
theorem dX4_records_23 : decode cX4_records 23 = .ok (.getfield 13, 3) := by decide +kernel
theorem dX4_records_26 : decode cX4_records 26 = .ok (.iload_n 1, 1) := by decide +kernel
theorem dX4_records_27 : decode cX4_records 27 = .ok (.sipush 988, 3) := by decide +kernel
theorem dX4_records_30 : decode cX4_records 30 = .ok (.iadd, 1) := by decide +kernel
theorem dX4_records_31 : decode cX4_records 31 = .ok (.iaload, 1) := by decide +kernel
theorem dX4_records_32 : decode cX4_records 32 = .ok (.iastore, 1) := by decide +kernel
theorem dX4_records_33 : decode cX4_records 33 = .ok (.iinc 1 1, 3) := by decide +kernel
theorem dX4_records_36 : decode cX4_records 36 = .ok (.goto (-26), 3) := by decide +kernel
theorem dX4_records_39 : decode cX4_records 39 = .ok (.aload_n 0, 1) := by decide +kernel
theorem dX4_records_40 : decode cX4_records 40 = .ok (.dup, 1) := by decide +kernel
theorem dX4_records_41 : decode cX4_records 41 = .ok (.getfield 29, 3) := by decide +kernel
theorem dX4_records_44 : decode cX4_records 44 = .ok (.iconst 1, 1) := by decide +kernel
theorem dX4_records_45 : decode cX4_records 45 = .ok (.isub, 1) := by decide +kernel
theorem dX4_records_46 : decode cX4_records 46 = .ok (.putfield 29, 3) := by decide +kernel
theorem dX4_records_49 : decode cX4_records 49 = .ok (.aload_n 0, 1) := by decide +kernel
theorem dX4_records_50 : decode cX4_records 50 = .ok (.getfield 7, 3) := by decide +kernel
theorem dX4_records_53 : decode cX4_records 53 = .ok (.iconst 0, 1) := by decide +kernel
theorem dX4_records_54 : decode cX4_records 54 = .ok (.aload_n 0, 1) := by decide +kernel
theorem dX4_records_55 : decode cX4_records 55 = .ok (.getfield 13, 3) := by decide +kernel
theorem dX4_records_58 : decode cX4_records 58 = .ok (.sipush 988, 3) := by decide +kernel
theorem dX4_records_61 : decode cX4_records 61 = .ok (.aload_n 0, 1) := by decide +kernel
theorem dX4_records_62 : decode cX4_records 62 = .ok (.getfield 29, 3) := by decide +kernel
theorem dX4_records_65 : decode cX4_records 65 = .ok (.imul, 1) := by decide +kernel
theorem dX4_records_66 : decode cX4_records 66 = .ok (.invokestatic 33, 3) := by decide +kernel
theorem dX4_records_69 : decode cX4_records 69 = .ok (.aload_n 0, 1) := by decide +kernel
theorem dX4_records_70 : decode cX4_records 70 = .ok (.dup, 1) := by decide +kernel
theorem dX4_records_71 : decode cX4_records 71 = .ok (.getfield 29, 3) := by decide +kernel
theorem dX4_records_74 : decode cX4_records 74 = .ok (.iconst 1, 1) := by decide +kernel
theorem dX4_records_75 : decode cX4_records 75 = .ok (.iadd, 1) := by decide +kernel
theorem dX4_records_76 : decode cX4_records 76 = .ok (.putfield 29, 3) := by decide +kernel
theorem dX4_records_79 : decode cX4_records 79 = .ok (.return_, 1) := by decide +kernel
theorem dX4_isRow_0 : decode cX4_isRow 0 = .ok (.iload_n 1, 1) := by decide +kernel
theorem dX4_isRow_1 : decode cX4_isRow 1 = .ok (.iconst 0, 1) := by decide +kernel
theorem dX4_isRow_2 : decode cX4_isRow 2 = .ok (.aload_n 0, 1) := by decide +kernel
theorem dX4_isRow_3 : decode cX4_isRow 3 = .ok (.getfield 7, 3) := by decide +kernel
theorem dX4_isRow_6 : decode cX4_isRow 6 = .ok (.iconst 0, 1) := by decide +kernel
theorem dX4_isRow_7 : decode cX4_isRow 7 = .ok (.iaload, 1) := by decide +kernel
theorem dX4_isRow_8 : decode cX4_isRow 8 = .ok (.iconst 1, 1) := by decide +kernel
theorem dX4_isRow_9 : decode cX4_isRow 9 = .ok (.isub, 1) := by decide +kernel
theorem dX4_isRow_10 : decode cX4_isRow 10 = .ok (.invokestatic 37, 3) := by decide +kernel
theorem dX4_isRow_13 : decode cX4_isRow 13 = .ok (.ireturn, 1) := by decide +kernel
theorem dX4_isColumn_0 : decode cX4_isColumn 0 = .ok (.iload_n 0, 1) := by decide +kernel
theorem dX4_isColumn_1 : decode cX4_isColumn 1 = .ok (.iconst 0, 1) := by decide +kernel
theorem dX4_isColumn_2 : decode cX4_isColumn 2 = .ok (.iconst 3, 1) := by decide +kernel
theorem dX4_isColumn_3 : decode cX4_isColumn 3 = .ok (.invokestatic 37, 3) := by decide +kernel
theorem dX4_isColumn_6 : decode cX4_isColumn 6 = .ok (.ireturn, 1) := by decide +kernel
theorem dX4_isCell_0 : decode cX4_isCell 0 = .ok (.aload_n 0, 1) := by decide +kernel
theorem dX4_isCell_1 : decode cX4_isCell 1 = .ok (.iload_n 1, 1) := by decide +kernel
theorem dX4_isCell_2 : decode cX4_isCell 2 = .ok (.invokevirtual 41, 3) := by decide +kernel
theorem dX4_isCell_5 : decode cX4_isCell 5 = .ok (.ifCond .eq 14, 3) := by decide +kernel
theorem dX4_isCell_8 : decode cX4_isCell 8 = .ok (.iload_n 2, 1) := by decide +kernel
theorem dX4_isCell_9 : decode cX4_isCell 9 = .ok (.invokestatic 45, 3) := by decide +kernel
theorem dX4_isCell_12 : decode cX4_isCell 12 = .ok (.ifCond .eq 7, 3) := by decide +kernel
theorem dX4_isCell_15 : decode cX4_isCell 15 = .ok (.iconst 1, 1) := by decide +kernel
theorem dX4_isCell_16 : decode cX4_isCell 16 = .ok (.goto 4, 3) := by decide +kernel
theorem dX4_isCell_19 : decode cX4_isCell 19 = .ok (.iconst 0, 1) := by decide +kernel
theorem dX4_isCell_20 : decode cX4_isCell 20 = .ok (.ireturn, 1) := by decide +kernel
theorem dX4_most_0 : decode cX4_most 0 = .ok (.iload_n 0, 1) := by decide +kernel
theorem dX4_most_1 : decode cX4_most 1 = .ok (.ifCond .ne 8, 3) := by decide +kernel
theorem dX4_most_4 : decode cX4_most 4 = .ok (.bipush 7, 2) := by decide +kernel
theorem dX4_most_6 : decode cX4_most 6 = .ok (.goto 26, 3) := by decide +kernel
theorem dX4_most_9 : decode cX4_most 9 = .ok (.iload_n 0, 1) := by decide +kernel
theorem dX4_most_10 : decode cX4_most 10 = .ok (.iconst 1, 1) := by decide +kernel
theorem dX4_most_11 : decode cX4_most 11 = .ok (.if_icmp .ne 9, 3) := by decide +kernel
theorem dX4_most_14 : decode cX4_most 14 = .ok (.sipush 199, 3) := by decide +kernel
theorem dX4_most_17 : decode cX4_most 17 = .ok (.goto 15, 3) := by decide +kernel
theorem dX4_most_20 : decode cX4_most 20 = .ok (.iload_n 0, 1) := by decide +kernel
theorem dX4_most_21 : decode cX4_most 21 = .ok (.iconst 3, 1) := by decide +kernel
theorem dX4_most_22 : decode cX4_most 22 = .ok (.if_icmp .ne 8, 3) := by decide +kernel
theorem dX4_most_25 : decode cX4_most 25 = .ok (.bipush 9, 2) := by decide +kernel
theorem dX4_most_27 : decode cX4_most 27 = .ok (.goto 5, 3) := by decide +kernel
theorem dX4_most_30 : decode cX4_most 30 = .ok (.bipush 12, 2) := by decide +kernel
theorem dX4_most_32 : decode cX4_most 32 = .ok (.ireturn, 1) := by decide +kernel
theorem dX4_isEntry_0 : decode cX4_isEntry 0 = .ok (.iload_n 1, 1) := by decide +kernel
theorem dX4_isEntry_1 : decode cX4_isEntry 1 = .ok (.bipush (-5), 2) := by decide +kernel
theorem dX4_isEntry_3 : decode cX4_isEntry 3 = .ok (.if_icmp .eq 21, 3) := by decide +kernel
theorem dX4_isEntry_6 : decode cX4_isEntry 6 = .ok (.iload_n 1, 1) := by decide +kernel
theorem dX4_isEntry_7 : decode cX4_isEntry 7 = .ok (.bipush (-6), 2) := by decide +kernel
theorem dX4_isEntry_9 : decode cX4_isEntry 9 = .ok (.if_icmp .eq 15, 3) := by decide +kernel
theorem dX4_isEntry_12 : decode cX4_isEntry 12 = .ok (.iload_n 1, 1) := by decide +kernel
theorem dX4_isEntry_13 : decode cX4_isEntry 13 = .ok (.iconst 0, 1) := by decide +kernel
theorem dX4_isEntry_14 : decode cX4_isEntry 14 = .ok (.iload_n 0, 1) := by decide +kernel
theorem dX4_isEntry_15 : decode cX4_isEntry 15 = .ok (.invokestatic 48, 3) := by decide +kernel
theorem dX4_isEntry_18 : decode cX4_isEntry 18 = .ok (.invokestatic 37, 3) := by decide +kernel
theorem dX4_isEntry_21 : decode cX4_isEntry 21 = .ok (.ifCond .eq 7, 3) := by decide +kernel
theorem dX4_isEntry_24 : decode cX4_isEntry 24 = .ok (.iconst 1, 1) := by decide +kernel
theorem dX4_isEntry_25 : decode cX4_isEntry 25 = .ok (.goto 4, 3) := by decide +kernel
theorem dX4_isEntry_28 : decode cX4_isEntry 28 = .ok (.iconst 0, 1) := by decide +kernel
theorem dX4_isEntry_29 : decode cX4_isEntry 29 = .ok (.ireturn, 1) := by decide +kernel
theorem dX4_cellAt_0 : decode cX4_cellAt 0 = .ok (.bipush 28, 2) := by decide +kernel
theorem dX4_cellAt_2 : decode cX4_cellAt 2 = .ok (.iconst 5, 1) := by decide +kernel
theorem dX4_cellAt_3 : decode cX4_cellAt 3 = .ok (.iconst 4, 1) := by decide +kernel
theorem dX4_cellAt_4 : decode cX4_cellAt 4 = .ok (.iload_n 0, 1) := by decide +kernel
theorem dX4_cellAt_5 : decode cX4_cellAt 5 = .ok (.imul, 1) := by decide +kernel
theorem dX4_cellAt_6 : decode cX4_cellAt 6 = .ok (.iload_n 1, 1) := by decide +kernel
theorem dX4_cellAt_7 : decode cX4_cellAt 7 = .ok (.iadd, 1) := by decide +kernel
theorem dX4_cellAt_8 : decode cX4_cellAt 8 = .ok (.imul, 1) := by decide +kernel
theorem dX4_cellAt_9 : decode cX4_cellAt 9 = .ok (.iadd, 1) := by decide +kernel
theorem dX4_cellAt_10 : decode cX4_cellAt 10 = .ok (.ireturn, 1) := by decide +kernel
theorem dX4_entries_0 : decode cX4_entries 0 = .ok (.aload_n 0, 1) := by decide +kernel
theorem dX4_entries_1 : decode cX4_entries 1 = .ok (.getfield 7, 3) := by decide +kernel
theorem dX4_entries_4 : decode cX4_entries 4 = .ok (.iload_n 1, 1) := by decide +kernel
theorem dX4_entries_5 : decode cX4_entries 5 = .ok (.iload_n 2, 1) := by decide +kernel
theorem dX4_entries_6 : decode cX4_entries 6 = .ok (.invokestatic 52, 3) := by decide +kernel
theorem dX4_entries_9 : decode cX4_entries 9 = .ok (.iaload, 1) := by decide +kernel
theorem dX4_entries_10 : decode cX4_entries 10 = .ok (.ireturn, 1) := by decide +kernel
theorem dX4_latest_0 : decode cX4_latest 0 = .ok (.aload_n 0, 1) := by decide +kernel
theorem dX4_latest_1 : decode cX4_latest 1 = .ok (.getfield 7, 3) := by decide +kernel
theorem dX4_latest_4 : decode cX4_latest 4 = .ok (.iload_n 1, 1) := by decide +kernel
theorem dX4_latest_5 : decode cX4_latest 5 = .ok (.iload_n 2, 1) := by decide +kernel
theorem dX4_latest_6 : decode cX4_latest 6 = .ok (.invokestatic 52, 3) := by decide +kernel
theorem dX4_latest_9 : decode cX4_latest 9 = .ok (.aload_n 0, 1) := by decide +kernel
theorem dX4_latest_10 : decode cX4_latest 10 = .ok (.iload_n 1, 1) := by decide +kernel
theorem dX4_latest_11 : decode cX4_latest 11 = .ok (.iload_n 2, 1) := by decide +kernel
theorem dX4_latest_12 : decode cX4_latest 12 = .ok (.invokevirtual 56, 3) := by decide +kernel
theorem dX4_latest_15 : decode cX4_latest 15 = .ok (.iadd, 1) := by decide +kernel
theorem dX4_latest_16 : decode cX4_latest 16 = .ok (.iaload, 1) := by decide +kernel
theorem dX4_latest_17 : decode cX4_latest 17 = .ok (.ireturn, 1) := by decide +kernel
theorem dX4_goesUp_0 : decode cX4_goesUp 0 = .ok (.iload_n 1, 1) := by decide +kernel
theorem dX4_goesUp_1 : decode cX4_goesUp 1 = .ok (.ifCond .eq 24, 3) := by decide +kernel
theorem dX4_goesUp_4 : decode cX4_goesUp 4 = .ok (.aload_n 0, 1) := by decide +kernel
theorem dX4_goesUp_5 : decode cX4_goesUp 5 = .ok (.getfield 7, 3) := by decide +kernel
theorem dX4_goesUp_8 : decode cX4_goesUp 8 = .ok (.iconst 2, 1) := by decide +kernel
theorem dX4_goesUp_9 : decode cX4_goesUp 9 = .ok (.iaload, 1) := by decide +kernel
theorem dX4_goesUp_10 : decode cX4_goesUp 10 = .ok (.iconst 1, 1) := by decide +kernel
theorem dX4_goesUp_11 : decode cX4_goesUp 11 = .ok (.if_icmp .ne 18, 3) := by decide +kernel
theorem dX4_goesUp_14 : decode cX4_goesUp 14 = .ok (.iload_n 1, 1) := by decide +kernel
theorem dX4_goesUp_15 : decode cX4_goesUp 15 = .ok (.aload_n 0, 1) := by decide +kernel
theorem dX4_goesUp_16 : decode cX4_goesUp 16 = .ok (.getfield 7, 3) := by decide +kernel
theorem dX4_goesUp_19 : decode cX4_goesUp 19 = .ok (.iconst 1, 1) := by decide +kernel
theorem dX4_goesUp_20 : decode cX4_goesUp 20 = .ok (.iaload, 1) := by decide +kernel
theorem dX4_goesUp_21 : decode cX4_goesUp 21 = .ok (.irem, 1) := by decide +kernel
theorem dX4_goesUp_22 : decode cX4_goesUp 22 = .ok (.ifCond .ne 7, 3) := by decide +kernel
theorem dX4_goesUp_25 : decode cX4_goesUp 25 = .ok (.iconst 1, 1) := by decide +kernel
theorem dX4_goesUp_26 : decode cX4_goesUp 26 = .ok (.goto 4, 3) := by decide +kernel
theorem dX4_goesUp_29 : decode cX4_goesUp 29 = .ok (.iconst 0, 1) := by decide +kernel
theorem dX4_goesUp_30 : decode cX4_goesUp 30 = .ok (.istore_n 3, 1) := by decide +kernel
theorem dX4_goesUp_31 : decode cX4_goesUp 31 = .ok (.aload_n 0, 1) := by decide +kernel
theorem dX4_goesUp_32 : decode cX4_goesUp 32 = .ok (.iload_n 1, 1) := by decide +kernel
theorem dX4_goesUp_33 : decode cX4_goesUp 33 = .ok (.iload_n 2, 1) := by decide +kernel
theorem dX4_goesUp_34 : decode cX4_goesUp 34 = .ok (.invokevirtual 59, 3) := by decide +kernel
theorem dX4_goesUp_37 : decode cX4_goesUp 37 = .ok (.bipush (-6), 2) := by decide +kernel
theorem dX4_goesUp_39 : decode cX4_goesUp 39 = .ok (.if_icmp .ne 11, 3) := by decide +kernel
theorem dX4_goesUp_42 : decode cX4_goesUp 42 = .ok (.iload_n 3, 1) := by decide +kernel
theorem dX4_goesUp_43 : decode cX4_goesUp 43 = .ok (.ifCond .ne 7, 3) := by decide +kernel
theorem dX4_goesUp_46 : decode cX4_goesUp 46 = .ok (.iconst 1, 1) := by decide +kernel
theorem dX4_goesUp_47 : decode cX4_goesUp 47 = .ok (.goto 4, 3) := by decide +kernel
theorem dX4_goesUp_50 : decode cX4_goesUp 50 = .ok (.iconst 0, 1) := by decide +kernel
theorem dX4_goesUp_51 : decode cX4_goesUp 51 = .ok (.ireturn, 1) := by decide +kernel
theorem dX4_end_0 : decode cX4_end 0 = .ok (.iload_n 1, 1) := by decide +kernel
theorem dX4_end_1 : decode cX4_end 1 = .ok (.istore_n 3, 1) := by decide +kernel
theorem dX4_end_2 : decode cX4_end 2 = .ok (.aload_n 0, 1) := by decide +kernel
theorem dX4_end_3 : decode cX4_end 3 = .ok (.iload_n 3, 1) := by decide +kernel
theorem dX4_end_4 : decode cX4_end 4 = .ok (.iload_n 2, 1) := by decide +kernel
theorem dX4_end_5 : decode cX4_end 5 = .ok (.invokevirtual 62, 3) := by decide +kernel
theorem dX4_end_8 : decode cX4_end 8 = .ok (.ifCond .eq 9, 3) := by decide +kernel
theorem dX4_end_11 : decode cX4_end 11 = .ok (.iinc 3 (-1), 3) := by decide +kernel
theorem dX4_end_14 : decode cX4_end 14 = .ok (.goto (-12), 3) := by decide +kernel
theorem dX4_end_17 : decode cX4_end 17 = .ok (.iload_n 3, 1) := by decide +kernel
theorem dX4_end_18 : decode cX4_end 18 = .ok (.ireturn, 1) := by decide +kernel
theorem dX4_means_0 : decode cX4_means 0 = .ok (.aload_n 0, 1) := by decide +kernel
theorem dX4_means_1 : decode cX4_means 1 = .ok (.aload_n 0, 1) := by decide +kernel
theorem dX4_means_2 : decode cX4_means 2 = .ok (.iload_n 1, 1) := by decide +kernel
theorem dX4_means_3 : decode cX4_means 3 = .ok (.iload_n 2, 1) := by decide +kernel
theorem dX4_means_4 : decode cX4_means 4 = .ok (.invokevirtual 66, 3) := by decide +kernel
theorem dX4_means_7 : decode cX4_means 7 = .ok (.iload_n 2, 1) := by decide +kernel
theorem dX4_means_8 : decode cX4_means 8 = .ok (.invokevirtual 59, 3) := by decide +kernel
theorem dX4_means_11 : decode cX4_means 11 = .ok (.istore_n 3, 1) := by decide +kernel
theorem dX4_means_12 : decode cX4_means 12 = .ok (.iload_n 3, 1) := by decide +kernel
theorem dX4_means_13 : decode cX4_means 13 = .ok (.ifCond .lt 7, 3) := by decide +kernel
theorem dX4_means_16 : decode cX4_means 16 = .ok (.iload_n 3, 1) := by decide +kernel
theorem dX4_means_17 : decode cX4_means 17 = .ok (.goto 5, 3) := by decide +kernel
theorem dX4_means_20 : decode cX4_means 20 = .ok (.bipush (-5), 2) := by decide +kernel
theorem dX4_means_22 : decode cX4_means 22 = .ok (.ireturn, 1) := by decide +kernel
theorem dX4_source_0 : decode cX4_source 0 = .ok (.aload_n 0, 1) := by decide +kernel
theorem dX4_source_1 : decode cX4_source 1 = .ok (.iload_n 1, 1) := by decide +kernel
theorem dX4_source_2 : decode cX4_source 2 = .ok (.iload_n 2, 1) := by decide +kernel
theorem dX4_source_3 : decode cX4_source 3 = .ok (.invokevirtual 66, 3) := by decide +kernel
theorem dX4_source_6 : decode cX4_source 6 = .ok (.istore_n 3, 1) := by decide +kernel
theorem dX4_source_7 : decode cX4_source 7 = .ok (.aload_n 0, 1) := by decide +kernel
theorem dX4_source_8 : decode cX4_source 8 = .ok (.iload_n 3, 1) := by decide +kernel
theorem dX4_source_9 : decode cX4_source 9 = .ok (.iload_n 2, 1) := by decide +kernel
theorem dX4_source_10 : decode cX4_source 10 = .ok (.invokevirtual 59, 3) := by decide +kernel
theorem dX4_source_13 : decode cX4_source 13 = .ok (.ifCond .lt 7, 3) := by decide +kernel
theorem dX4_source_16 : decode cX4_source 16 = .ok (.iload_n 3, 1) := by decide +kernel
theorem dX4_source_17 : decode cX4_source 17 = .ok (.goto 5, 3) := by decide +kernel
theorem dX4_source_20 : decode cX4_source 20 = .ok (.bipush (-5), 2) := by decide +kernel
theorem dX4_source_22 : decode cX4_source 22 = .ok (.ireturn, 1) := by decide +kernel
theorem dX4_chain_0 : decode cX4_chain 0 = .ok (.iload_n 1, 1) := by decide +kernel
theorem dX4_chain_1 : decode cX4_chain 1 = .ok (.aload_n 0, 1) := by decide +kernel
theorem dX4_chain_2 : decode cX4_chain 2 = .ok (.iload_n 1, 1) := by decide +kernel
theorem dX4_chain_3 : decode cX4_chain 3 = .ok (.iload_n 2, 1) := by decide +kernel
theorem dX4_chain_4 : decode cX4_chain 4 = .ok (.invokevirtual 66, 3) := by decide +kernel
theorem dX4_chain_7 : decode cX4_chain 7 = .ok (.isub, 1) := by decide +kernel
theorem dX4_chain_8 : decode cX4_chain 8 = .ok (.iconst 1, 1) := by decide +kernel
theorem dX4_chain_9 : decode cX4_chain 9 = .ok (.iadd, 1) := by decide +kernel
theorem dX4_chain_10 : decode cX4_chain 10 = .ok (.ireturn, 1) := by decide +kernel
theorem dX4_isDoubtful_0 : decode cX4_isDoubtful 0 = .ok (.iconst 0, 1) := by decide +kernel
theorem dX4_isDoubtful_1 : decode cX4_isDoubtful 1 = .ok (.istore_n 3, 1) := by decide +kernel
theorem dX4_isDoubtful_2 : decode cX4_isDoubtful 2 = .ok (.aload_n 0, 1) := by decide +kernel
theorem dX4_isDoubtful_3 : decode cX4_isDoubtful 3 = .ok (.iload_n 1, 1) := by decide +kernel
theorem dX4_isDoubtful_4 : decode cX4_isDoubtful 4 = .ok (.iload_n 2, 1) := by decide +kernel
theorem dX4_isDoubtful_5 : decode cX4_isDoubtful 5 = .ok (.invokevirtual 66, 3) := by decide +kernel
theorem dX4_isDoubtful_8 : decode cX4_isDoubtful 8 = .ok (.istore 4, 2) := by decide +kernel
theorem dX4_isDoubtful_10 : decode cX4_isDoubtful 10 = .ok (.iload 4, 2) := by decide +kernel
theorem dX4_isDoubtful_12 : decode cX4_isDoubtful 12 = .ok (.iload_n 1, 1) := by decide +kernel
theorem dX4_isDoubtful_13 : decode cX4_isDoubtful 13 = .ok (.if_icmp .gt 30, 3) := by decide +kernel
theorem dX4_isDoubtful_16 : decode cX4_isDoubtful 16 = .ok (.iload_n 3, 1) := by decide +kernel
theorem dX4_isDoubtful_17 : decode cX4_isDoubtful 17 = .ok (.ifCond .ne 14, 3) := by decide +kernel
theorem dX4_isDoubtful_20 : decode cX4_isDoubtful 20 = .ok (.aload_n 0, 1) := by decide +kernel
theorem dX4_isDoubtful_21 : decode cX4_isDoubtful 21 = .ok (.iload 4, 2) := by decide +kernel
theorem dX4_isDoubtful_23 : decode cX4_isDoubtful 23 = .ok (.iload_n 2, 1) := by decide +kernel
theorem dX4_isDoubtful_24 : decode cX4_isDoubtful 24 = .ok (.invokevirtual 56, 3) := by decide +kernel
theorem dX4_isDoubtful_27 : decode cX4_isDoubtful 27 = .ok (.iconst 1, 1) := by decide +kernel
theorem dX4_isDoubtful_28 : decode cX4_isDoubtful 28 = .ok (.if_icmp .le 7, 3) := by decide +kernel
theorem dX4_isDoubtful_31 : decode cX4_isDoubtful 31 = .ok (.iconst 1, 1) := by decide +kernel
theorem dX4_isDoubtful_32 : decode cX4_isDoubtful 32 = .ok (.goto 4, 3) := by decide +kernel
theorem dX4_isDoubtful_35 : decode cX4_isDoubtful 35 = .ok (.iconst 0, 1) := by decide +kernel
theorem dX4_isDoubtful_36 : decode cX4_isDoubtful 36 = .ok (.istore_n 3, 1) := by decide +kernel
theorem dX4_isDoubtful_37 : decode cX4_isDoubtful 37 = .ok (.iinc 4 1, 3) := by decide +kernel
theorem dX4_isDoubtful_40 : decode cX4_isDoubtful 40 = .ok (.goto (-30), 3) := by decide +kernel
theorem dX4_isDoubtful_43 : decode cX4_isDoubtful 43 = .ok (.iload_n 3, 1) := by decide +kernel
theorem dX4_isDoubtful_44 : decode cX4_isDoubtful 44 = .ok (.ireturn, 1) := by decide +kernel
theorem dX4_below_0 : decode cX4_below 0 = .ok (.iload_n 1, 1) := by decide +kernel
theorem dX4_below_1 : decode cX4_below 1 = .ok (.iconst 1, 1) := by decide +kernel
theorem dX4_below_2 : decode cX4_below 2 = .ok (.iadd, 1) := by decide +kernel
theorem dX4_below_3 : decode cX4_below 3 = .ok (.istore_n 3, 1) := by decide +kernel
theorem dX4_below_4 : decode cX4_below 4 = .ok (.iload_n 3, 1) := by decide +kernel
theorem dX4_below_5 : decode cX4_below 5 = .ok (.aload_n 0, 1) := by decide +kernel
theorem dX4_below_6 : decode cX4_below 6 = .ok (.getfield 7, 3) := by decide +kernel
theorem dX4_below_9 : decode cX4_below 9 = .ok (.iconst 0, 1) := by decide +kernel
theorem dX4_below_10 : decode cX4_below 10 = .ok (.iaload, 1) := by decide +kernel
theorem dX4_below_11 : decode cX4_below 11 = .ok (.if_icmp .ge 18, 3) := by decide +kernel
theorem dX4_below_14 : decode cX4_below 14 = .ok (.aload_n 0, 1) := by decide +kernel
theorem dX4_below_15 : decode cX4_below 15 = .ok (.iload_n 3, 1) := by decide +kernel
theorem dX4_below_16 : decode cX4_below 16 = .ok (.iload_n 2, 1) := by decide +kernel
theorem dX4_below_17 : decode cX4_below 17 = .ok (.invokevirtual 62, 3) := by decide +kernel
theorem dX4_below_20 : decode cX4_below 20 = .ok (.ifCond .eq 9, 3) := by decide +kernel
theorem dX4_below_23 : decode cX4_below 23 = .ok (.iinc 3 1, 3) := by decide +kernel
theorem dX4_below_26 : decode cX4_below 26 = .ok (.goto (-22), 3) := by decide +kernel
theorem dX4_below_29 : decode cX4_below 29 = .ok (.iload_n 3, 1) := by decide +kernel
theorem dX4_below_30 : decode cX4_below 30 = .ok (.iload_n 1, 1) := by decide +kernel
theorem dX4_below_31 : decode cX4_below 31 = .ok (.isub, 1) := by decide +kernel
theorem dX4_below_32 : decode cX4_below 32 = .ok (.iconst 1, 1) := by decide +kernel
theorem dX4_below_33 : decode cX4_below 33 = .ok (.isub, 1) := by decide +kernel
theorem dX4_below_34 : decode cX4_below 34 = .ok (.ireturn, 1) := by decide +kernel
theorem dX4_comes_0 : decode cX4_comes 0 = .ok (.iload_n 1, 1) := by decide +kernel
theorem dX4_comes_1 : decode cX4_comes 1 = .ok (.iload_n 2, 1) := by decide +kernel
theorem dX4_comes_2 : decode cX4_comes 2 = .ok (.invokestatic 52, 3) := by decide +kernel
theorem dX4_comes_5 : decode cX4_comes 5 = .ok (.istore 4, 2) := by decide +kernel
theorem dX4_comes_7 : decode cX4_comes 7 = .ok (.aload_n 0, 1) := by decide +kernel
theorem dX4_comes_8 : decode cX4_comes 8 = .ok (.getfield 7, 3) := by decide +kernel
theorem dX4_comes_11 : decode cX4_comes 11 = .ok (.iload 4, 2) := by decide +kernel
theorem dX4_comes_13 : decode cX4_comes 13 = .ok (.iconst 1, 1) := by decide +kernel
theorem dX4_comes_14 : decode cX4_comes 14 = .ok (.iastore, 1) := by decide +kernel
theorem dX4_comes_15 : decode cX4_comes 15 = .ok (.aload_n 0, 1) := by decide +kernel
theorem dX4_comes_16 : decode cX4_comes 16 = .ok (.getfield 7, 3) := by decide +kernel
theorem dX4_comes_19 : decode cX4_comes 19 = .ok (.iload 4, 2) := by decide +kernel
theorem dX4_comes_21 : decode cX4_comes 21 = .ok (.iconst 1, 1) := by decide +kernel
theorem dX4_comes_22 : decode cX4_comes 22 = .ok (.iadd, 1) := by decide +kernel
theorem dX4_comes_23 : decode cX4_comes 23 = .ok (.iload_n 3, 1) := by decide +kernel
theorem dX4_comes_24 : decode cX4_comes 24 = .ok (.iastore, 1) := by decide +kernel
theorem dX4_comes_25 : decode cX4_comes 25 = .ok (.return_, 1) := by decide +kernel
theorem dX4_leaves_0 : decode cX4_leaves 0 = .ok (.iload_n 1, 1) := by decide +kernel
theorem dX4_leaves_1 : decode cX4_leaves 1 = .ok (.iconst 0, 1) := by decide +kernel
theorem dX4_leaves_2 : decode cX4_leaves 2 = .ok (.invokestatic 52, 3) := by decide +kernel
theorem dX4_leaves_5 : decode cX4_leaves 5 = .ok (.istore_n 2, 1) := by decide +kernel
theorem dX4_leaves_6 : decode cX4_leaves 6 = .ok (.iload_n 2, 1) := by decide +kernel
theorem dX4_leaves_7 : decode cX4_leaves 7 = .ok (.iload_n 1, 1) := by decide +kernel
theorem dX4_leaves_8 : decode cX4_leaves 8 = .ok (.iconst 1, 1) := by decide +kernel
theorem dX4_leaves_9 : decode cX4_leaves 9 = .ok (.iadd, 1) := by decide +kernel
theorem dX4_leaves_10 : decode cX4_leaves 10 = .ok (.iconst 0, 1) := by decide +kernel
theorem dX4_leaves_11 : decode cX4_leaves 11 = .ok (.invokestatic 52, 3) := by decide +kernel
theorem dX4_leaves_14 : decode cX4_leaves 14 = .ok (.if_icmp .ge 16, 3) := by decide +kernel
theorem dX4_leaves_17 : decode cX4_leaves 17 = .ok (.aload_n 0, 1) := by decide +kernel
theorem dX4_leaves_18 : decode cX4_leaves 18 = .ok (.getfield 7, 3) := by decide +kernel
theorem dX4_leaves_21 : decode cX4_leaves 21 = .ok (.iload_n 2, 1) := by decide +kernel
theorem dX4_leaves_22 : decode cX4_leaves 22 = .ok (.iconst 0, 1) := by decide +kernel
theorem dX4_leaves_23 : decode cX4_leaves 23 = .ok (.iastore, 1) := by decide +kernel
theorem dX4_leaves_24 : decode cX4_leaves 24 = .ok (.iinc 2 1, 3) := by decide +kernel
theorem dX4_leaves_27 : decode cX4_leaves 27 = .ok (.goto (-21), 3) := by decide +kernel
theorem dX4_leaves_30 : decode cX4_leaves 30 = .ok (.return_, 1) := by decide +kernel
theorem dX4_addRow_0 : decode cX4_addRow 0 = .ok (.iconst 0, 1) := by decide +kernel
theorem dX4_addRow_1 : decode cX4_addRow 1 = .ok (.iload_n 1, 1) := by decide +kernel
theorem dX4_addRow_2 : decode cX4_addRow 2 = .ok (.invokestatic 69, 3) := by decide +kernel
theorem dX4_addRow_5 : decode cX4_addRow 5 = .ok (.ifCond .eq 28, 3) := by decide +kernel
theorem dX4_addRow_8 : decode cX4_addRow 8 = .ok (.iconst 1, 1) := by decide +kernel
theorem dX4_addRow_9 : decode cX4_addRow 9 = .ok (.iload_n 2, 1) := by decide +kernel
theorem dX4_addRow_10 : decode cX4_addRow 10 = .ok (.invokestatic 69, 3) := by decide +kernel
theorem dX4_addRow_13 : decode cX4_addRow 13 = .ok (.ifCond .eq 20, 3) := by decide +kernel
theorem dX4_addRow_16 : decode cX4_addRow 16 = .ok (.iconst 2, 1) := by decide +kernel
theorem dX4_addRow_17 : decode cX4_addRow 17 = .ok (.iload_n 3, 1) := by decide +kernel
theorem dX4_addRow_18 : decode cX4_addRow 18 = .ok (.invokestatic 69, 3) := by decide +kernel
theorem dX4_addRow_21 : decode cX4_addRow 21 = .ok (.ifCond .eq 12, 3) := by decide +kernel
theorem dX4_addRow_24 : decode cX4_addRow 24 = .ok (.iconst 3, 1) := by decide +kernel
theorem dX4_addRow_25 : decode cX4_addRow 25 = .ok (.iload 4, 2) := by decide +kernel
theorem dX4_addRow_27 : decode cX4_addRow 27 = .ok (.invokestatic 69, 3) := by decide +kernel
theorem dX4_addRow_30 : decode cX4_addRow 30 = .ok (.ifCond .ne 6, 3) := by decide +kernel
theorem dX4_addRow_33 : decode cX4_addRow 33 = .ok (.bipush (-2), 2) := by decide +kernel
theorem dX4_addRow_35 : decode cX4_addRow 35 = .ok (.ireturn, 1) := by decide +kernel
theorem dX4_addRow_36 : decode cX4_addRow 36 = .ok (.aload_n 0, 1) := by decide +kernel
theorem dX4_addRow_37 : decode cX4_addRow 37 = .ok (.getfield 7, 3) := by decide +kernel
theorem dX4_addRow_40 : decode cX4_addRow 40 = .ok (.iconst 0, 1) := by decide +kernel
theorem dX4_addRow_41 : decode cX4_addRow 41 = .ok (.iaload, 1) := by decide +kernel
theorem dX4_addRow_42 : decode cX4_addRow 42 = .ok (.bipush 48, 2) := by decide +kernel
theorem dX4_addRow_44 : decode cX4_addRow 44 = .ok (.if_icmp .ne 6, 3) := by decide +kernel
theorem dX4_addRow_47 : decode cX4_addRow 47 = .ok (.bipush (-3), 2) := by decide +kernel
theorem dX4_addRow_49 : decode cX4_addRow 49 = .ok (.ireturn, 1) := by decide +kernel
theorem dX4_addRow_50 : decode cX4_addRow 50 = .ok (.aload_n 0, 1) := by decide +kernel
theorem dX4_addRow_51 : decode cX4_addRow 51 = .ok (.invokevirtual 72, 3) := by decide +kernel
theorem dX4_addRow_54 : decode cX4_addRow 54 = .ok (.aload_n 0, 1) := by decide +kernel
theorem dX4_addRow_55 : decode cX4_addRow 55 = .ok (.getfield 7, 3) := by decide +kernel
theorem dX4_addRow_58 : decode cX4_addRow 58 = .ok (.iconst 0, 1) := by decide +kernel
theorem dX4_addRow_59 : decode cX4_addRow 59 = .ok (.iaload, 1) := by decide +kernel
theorem dX4_addRow_60 : decode cX4_addRow 60 = .ok (.istore 5, 2) := by decide +kernel
theorem dX4_addRow_62 : decode cX4_addRow 62 = .ok (.aload_n 0, 1) := by decide +kernel
theorem dX4_addRow_63 : decode cX4_addRow 63 = .ok (.iload 5, 2) := by decide +kernel
theorem dX4_addRow_65 : decode cX4_addRow 65 = .ok (.iconst 0, 1) := by decide +kernel
theorem dX4_addRow_66 : decode cX4_addRow 66 = .ok (.iload_n 1, 1) := by decide +kernel
theorem dX4_addRow_67 : decode cX4_addRow 67 = .ok (.invokevirtual 75, 3) := by decide +kernel
theorem dX4_addRow_70 : decode cX4_addRow 70 = .ok (.aload_n 0, 1) := by decide +kernel
theorem dX4_addRow_71 : decode cX4_addRow 71 = .ok (.iload 5, 2) := by decide +kernel
theorem dX4_addRow_73 : decode cX4_addRow 73 = .ok (.iconst 1, 1) := by decide +kernel
theorem dX4_addRow_74 : decode cX4_addRow 74 = .ok (.iload_n 2, 1) := by decide +kernel
theorem dX4_addRow_75 : decode cX4_addRow 75 = .ok (.invokevirtual 75, 3) := by decide +kernel
theorem dX4_addRow_78 : decode cX4_addRow 78 = .ok (.aload_n 0, 1) := by decide +kernel
theorem dX4_addRow_79 : decode cX4_addRow 79 = .ok (.iload 5, 2) := by decide +kernel
theorem dX4_addRow_81 : decode cX4_addRow 81 = .ok (.iconst 2, 1) := by decide +kernel
theorem dX4_addRow_82 : decode cX4_addRow 82 = .ok (.iload_n 3, 1) := by decide +kernel
theorem dX4_addRow_83 : decode cX4_addRow 83 = .ok (.invokevirtual 75, 3) := by decide +kernel
theorem dX4_addRow_86 : decode cX4_addRow 86 = .ok (.aload_n 0, 1) := by decide +kernel
theorem dX4_addRow_87 : decode cX4_addRow 87 = .ok (.iload 5, 2) := by decide +kernel
theorem dX4_addRow_89 : decode cX4_addRow 89 = .ok (.iconst 3, 1) := by decide +kernel
theorem dX4_addRow_90 : decode cX4_addRow 90 = .ok (.iload 4, 2) := by decide +kernel
theorem dX4_addRow_92 : decode cX4_addRow 92 = .ok (.invokevirtual 75, 3) := by decide +kernel
theorem dX4_addRow_95 : decode cX4_addRow 95 = .ok (.aload_n 0, 1) := by decide +kernel
theorem dX4_addRow_96 : decode cX4_addRow 96 = .ok (.getfield 7, 3) := by decide +kernel
theorem dX4_addRow_99 : decode cX4_addRow 99 = .ok (.iconst 0, 1) := by decide +kernel
theorem dX4_addRow_100 : decode cX4_addRow 100 = .ok (.dup2, 1) := by decide +kernel
theorem dX4_addRow_101 : decode cX4_addRow 101 = .ok (.iaload, 1) := by decide +kernel
theorem dX4_addRow_102 : decode cX4_addRow 102 = .ok (.iconst 1, 1) := by decide +kernel
theorem dX4_addRow_103 : decode cX4_addRow 103 = .ok (.iadd, 1) := by decide +kernel
theorem dX4_addRow_104 : decode cX4_addRow 104 = .ok (.iastore, 1) := by decide +kernel
theorem dX4_addRow_105 : decode cX4_addRow 105 = .ok (.iload 5, 2) := by decide +kernel
theorem dX4_addRow_107 : decode cX4_addRow 107 = .ok (.ireturn, 1) := by decide +kernel
theorem dX4_addRows_0 : decode cX4_addRows 0 = .ok (.aload_n 0, 1) := by decide +kernel
theorem dX4_addRows_1 : decode cX4_addRows 1 = .ok (.invokevirtual 79, 3) := by decide +kernel
theorem dX4_addRows_4 : decode cX4_addRows 4 = .ok (.istore_n 1, 1) := by decide +kernel
theorem dX4_addRows_5 : decode cX4_addRows 5 = .ok (.iload_n 1, 1) := by decide +kernel
theorem dX4_addRows_6 : decode cX4_addRows 6 = .ok (.bipush (-5), 2) := by decide +kernel
theorem dX4_addRows_8 : decode cX4_addRows 8 = .ok (.if_icmp .eq 8, 3) := by decide +kernel
theorem dX4_addRows_11 : decode cX4_addRows 11 = .ok (.bipush (-100), 2) := by decide +kernel
theorem dX4_addRows_13 : decode cX4_addRows 13 = .ok (.iload_n 1, 1) := by decide +kernel
theorem dX4_addRows_14 : decode cX4_addRows 14 = .ok (.isub, 1) := by decide +kernel
theorem dX4_addRows_15 : decode cX4_addRows 15 = .ok (.ireturn, 1) := by decide +kernel
theorem dX4_addRows_16 : decode cX4_addRows 16 = .ok (.aload_n 0, 1) := by decide +kernel
theorem dX4_addRows_17 : decode cX4_addRows 17 = .ok (.getfield 7, 3) := by decide +kernel
theorem dX4_addRows_20 : decode cX4_addRows 20 = .ok (.iconst 0, 1) := by decide +kernel
theorem dX4_addRows_21 : decode cX4_addRows 21 = .ok (.iaload, 1) := by decide +kernel
theorem dX4_addRows_22 : decode cX4_addRows 22 = .ok (.aload_n 0, 1) := by decide +kernel
theorem dX4_addRows_23 : decode cX4_addRows 23 = .ok (.getfield 83, 3) := by decide +kernel
theorem dX4_addRows_26 : decode cX4_addRows 26 = .ok (.iadd, 1) := by decide +kernel
theorem dX4_addRows_27 : decode cX4_addRows 27 = .ok (.bipush 48, 2) := by decide +kernel
theorem dX4_addRows_29 : decode cX4_addRows 29 = .ok (.if_icmp .le 6, 3) := by decide +kernel
theorem dX4_addRows_32 : decode cX4_addRows 32 = .ok (.bipush (-3), 2) := by decide +kernel
theorem dX4_addRows_34 : decode cX4_addRows 34 = .ok (.ireturn, 1) := by decide +kernel
theorem dX4_addRows_35 : decode cX4_addRows 35 = .ok (.aload_n 0, 1) := by decide +kernel
theorem dX4_addRows_36 : decode cX4_addRows 36 = .ok (.invokevirtual 72, 3) := by decide +kernel
theorem dX4_addRows_39 : decode cX4_addRows 39 = .ok (.iconst 0, 1) := by decide +kernel
theorem dX4_addRows_40 : decode cX4_addRows 40 = .ok (.istore_n 2, 1) := by decide +kernel
theorem dX4_addRows_41 : decode cX4_addRows 41 = .ok (.iload_n 2, 1) := by decide +kernel
theorem dX4_addRows_42 : decode cX4_addRows 42 = .ok (.iconst 4, 1) := by decide +kernel
theorem dX4_addRows_43 : decode cX4_addRows 43 = .ok (.aload_n 0, 1) := by decide +kernel
theorem dX4_addRows_44 : decode cX4_addRows 44 = .ok (.getfield 83, 3) := by decide +kernel
theorem dX4_addRows_47 : decode cX4_addRows 47 = .ok (.imul, 1) := by decide +kernel
theorem dX4_addRows_48 : decode cX4_addRows 48 = .ok (.if_icmp .ge 32, 3) := by decide +kernel
theorem dX4_addRows_51 : decode cX4_addRows 51 = .ok (.aload_n 0, 1) := by decide +kernel
theorem dX4_addRows_52 : decode cX4_addRows 52 = .ok (.aload_n 0, 1) := by decide +kernel
theorem dX4_addRows_53 : decode cX4_addRows 53 = .ok (.getfield 7, 3) := by decide +kernel
theorem dX4_addRows_56 : decode cX4_addRows 56 = .ok (.iconst 0, 1) := by decide +kernel
theorem dX4_addRows_57 : decode cX4_addRows 57 = .ok (.iaload, 1) := by decide +kernel
theorem dX4_addRows_58 : decode cX4_addRows 58 = .ok (.iload_n 2, 1) := by decide +kernel
theorem dX4_addRows_59 : decode cX4_addRows 59 = .ok (.iconst 4, 1) := by decide +kernel
theorem dX4_addRows_60 : decode cX4_addRows 60 = .ok (.idiv, 1) := by decide +kernel
theorem dX4_addRows_61 : decode cX4_addRows 61 = .ok (.iadd, 1) := by decide +kernel
theorem dX4_addRows_62 : decode cX4_addRows 62 = .ok (.iload_n 2, 1) := by decide +kernel
theorem dX4_addRows_63 : decode cX4_addRows 63 = .ok (.iconst 4, 1) := by decide +kernel
theorem dX4_addRows_64 : decode cX4_addRows 64 = .ok (.irem, 1) := by decide +kernel
theorem dX4_addRows_65 : decode cX4_addRows 65 = .ok (.aload_n 0, 1) := by decide +kernel
theorem dX4_addRows_66 : decode cX4_addRows 66 = .ok (.getfield 26, 3) := by decide +kernel
theorem dX4_addRows_69 : decode cX4_addRows 69 = .ok (.iload_n 2, 1) := by decide +kernel
theorem dX4_addRows_70 : decode cX4_addRows 70 = .ok (.iaload, 1) := by decide +kernel
theorem dX4_addRows_71 : decode cX4_addRows 71 = .ok (.invokevirtual 75, 3) := by decide +kernel
theorem dX4_addRows_74 : decode cX4_addRows 74 = .ok (.iinc 2 1, 3) := by decide +kernel
theorem dX4_addRows_77 : decode cX4_addRows 77 = .ok (.goto (-36), 3) := by decide +kernel
theorem dX4_addRows_80 : decode cX4_addRows 80 = .ok (.aload_n 0, 1) := by decide +kernel
theorem dX4_addRows_81 : decode cX4_addRows 81 = .ok (.getfield 7, 3) := by decide +kernel
theorem dX4_addRows_84 : decode cX4_addRows 84 = .ok (.iconst 0, 1) := by decide +kernel
theorem dX4_addRows_85 : decode cX4_addRows 85 = .ok (.dup2, 1) := by decide +kernel
theorem dX4_addRows_86 : decode cX4_addRows 86 = .ok (.iaload, 1) := by decide +kernel
theorem dX4_addRows_87 : decode cX4_addRows 87 = .ok (.aload_n 0, 1) := by decide +kernel
theorem dX4_addRows_88 : decode cX4_addRows 88 = .ok (.getfield 83, 3) := by decide +kernel
theorem dX4_addRows_91 : decode cX4_addRows 91 = .ok (.iadd, 1) := by decide +kernel
theorem dX4_addRows_92 : decode cX4_addRows 92 = .ok (.iastore, 1) := by decide +kernel
theorem dX4_addRows_93 : decode cX4_addRows 93 = .ok (.aload_n 0, 1) := by decide +kernel
theorem dX4_addRows_94 : decode cX4_addRows 94 = .ok (.getfield 83, 3) := by decide +kernel
theorem dX4_addRows_97 : decode cX4_addRows 97 = .ok (.ireturn, 1) := by decide +kernel
theorem dX4_removeRow_0 : decode cX4_removeRow 0 = .ok (.aload_n 0, 1) := by decide +kernel
theorem dX4_removeRow_1 : decode cX4_removeRow 1 = .ok (.getfield 7, 3) := by decide +kernel
theorem dX4_removeRow_4 : decode cX4_removeRow 4 = .ok (.iconst 0, 1) := by decide +kernel
theorem dX4_removeRow_5 : decode cX4_removeRow 5 = .ok (.iaload, 1) := by decide +kernel
theorem dX4_removeRow_6 : decode cX4_removeRow 6 = .ok (.ifCond .ne 6, 3) := by decide +kernel
theorem dX4_removeRow_9 : decode cX4_removeRow 9 = .ok (.bipush (-4), 2) := by decide +kernel
theorem dX4_removeRow_11 : decode cX4_removeRow 11 = .ok (.ireturn, 1) := by decide +kernel
theorem dX4_removeRow_12 : decode cX4_removeRow 12 = .ok (.aload_n 0, 1) := by decide +kernel
theorem dX4_removeRow_13 : decode cX4_removeRow 13 = .ok (.invokevirtual 72, 3) := by decide +kernel
theorem dX4_removeRow_16 : decode cX4_removeRow 16 = .ok (.aload_n 0, 1) := by decide +kernel
theorem dX4_removeRow_17 : decode cX4_removeRow 17 = .ok (.getfield 7, 3) := by decide +kernel
theorem dX4_removeRow_20 : decode cX4_removeRow 20 = .ok (.iconst 0, 1) := by decide +kernel
theorem dX4_removeRow_21 : decode cX4_removeRow 21 = .ok (.dup2, 1) := by decide +kernel
theorem dX4_removeRow_22 : decode cX4_removeRow 22 = .ok (.iaload, 1) := by decide +kernel
theorem dX4_removeRow_23 : decode cX4_removeRow 23 = .ok (.iconst 1, 1) := by decide +kernel
theorem dX4_removeRow_24 : decode cX4_removeRow 24 = .ok (.isub, 1) := by decide +kernel
theorem dX4_removeRow_25 : decode cX4_removeRow 25 = .ok (.iastore, 1) := by decide +kernel
theorem dX4_removeRow_26 : decode cX4_removeRow 26 = .ok (.aload_n 0, 1) := by decide +kernel
theorem dX4_removeRow_27 : decode cX4_removeRow 27 = .ok (.aload_n 0, 1) := by decide +kernel
theorem dX4_removeRow_28 : decode cX4_removeRow 28 = .ok (.getfield 7, 3) := by decide +kernel
theorem dX4_removeRow_31 : decode cX4_removeRow 31 = .ok (.iconst 0, 1) := by decide +kernel
theorem dX4_removeRow_32 : decode cX4_removeRow 32 = .ok (.iaload, 1) := by decide +kernel
theorem dX4_removeRow_33 : decode cX4_removeRow 33 = .ok (.invokevirtual 86, 3) := by decide +kernel
theorem dX4_removeRow_36 : decode cX4_removeRow 36 = .ok (.aload_n 0, 1) := by decide +kernel
theorem dX4_removeRow_37 : decode cX4_removeRow 37 = .ok (.getfield 7, 3) := by decide +kernel
theorem dX4_removeRow_40 : decode cX4_removeRow 40 = .ok (.iconst 0, 1) := by decide +kernel
theorem dX4_removeRow_41 : decode cX4_removeRow 41 = .ok (.iaload, 1) := by decide +kernel
theorem dX4_removeRow_42 : decode cX4_removeRow 42 = .ok (.ireturn, 1) := by decide +kernel
theorem dX4_laysMeant_0 : decode cX4_laysMeant 0 = .ok (.iconst 0, 1) := by decide +kernel
theorem dX4_laysMeant_1 : decode cX4_laysMeant 1 = .ok (.istore_n 2, 1) := by decide +kernel
theorem dX4_laysMeant_2 : decode cX4_laysMeant 2 = .ok (.iload_n 2, 1) := by decide +kernel
theorem dX4_laysMeant_3 : decode cX4_laysMeant 3 = .ok (.aload_n 0, 1) := by decide +kernel
theorem dX4_laysMeant_4 : decode cX4_laysMeant 4 = .ok (.getfield 7, 3) := by decide +kernel
theorem dX4_laysMeant_7 : decode cX4_laysMeant 7 = .ok (.iconst 0, 1) := by decide +kernel
theorem dX4_laysMeant_8 : decode cX4_laysMeant 8 = .ok (.iaload, 1) := by decide +kernel
theorem dX4_laysMeant_9 : decode cX4_laysMeant 9 = .ok (.if_icmp .ge 21, 3) := by decide +kernel
theorem dX4_laysMeant_12 : decode cX4_laysMeant 12 = .ok (.aload_n 0, 1) := by decide +kernel
theorem dX4_laysMeant_13 : decode cX4_laysMeant 13 = .ok (.getfield 23, 3) := by decide +kernel
theorem dX4_laysMeant_16 : decode cX4_laysMeant 16 = .ok (.iload_n 2, 1) := by decide +kernel
theorem dX4_laysMeant_17 : decode cX4_laysMeant 17 = .ok (.aload_n 0, 1) := by decide +kernel
theorem dX4_laysMeant_18 : decode cX4_laysMeant 18 = .ok (.iload_n 2, 1) := by decide +kernel
theorem dX4_laysMeant_19 : decode cX4_laysMeant 19 = .ok (.iload_n 1, 1) := by decide +kernel
theorem dX4_laysMeant_20 : decode cX4_laysMeant 20 = .ok (.invokevirtual 90, 3) := by decide +kernel
theorem dX4_laysMeant_23 : decode cX4_laysMeant 23 = .ok (.iastore, 1) := by decide +kernel
theorem dX4_laysMeant_24 : decode cX4_laysMeant 24 = .ok (.iinc 2 1, 3) := by decide +kernel
theorem dX4_laysMeant_27 : decode cX4_laysMeant 27 = .ok (.goto (-25), 3) := by decide +kernel
theorem dX4_laysMeant_30 : decode cX4_laysMeant 30 = .ok (.return_, 1) := by decide +kernel
theorem dX4_others_0 : decode cX4_others 0 = .ok (.iconst 0, 1) := by decide +kernel
theorem dX4_others_1 : decode cX4_others 1 = .ok (.istore_n 2, 1) := by decide +kernel
theorem dX4_others_2 : decode cX4_others 2 = .ok (.iconst 0, 1) := by decide +kernel
theorem dX4_others_3 : decode cX4_others 3 = .ok (.istore_n 3, 1) := by decide +kernel
theorem dX4_others_4 : decode cX4_others 4 = .ok (.iload_n 3, 1) := by decide +kernel
theorem dX4_others_5 : decode cX4_others 5 = .ok (.aload_n 0, 1) := by decide +kernel
theorem dX4_others_6 : decode cX4_others 6 = .ok (.getfield 7, 3) := by decide +kernel
theorem dX4_others_9 : decode cX4_others 9 = .ok (.iconst 0, 1) := by decide +kernel
theorem dX4_others_10 : decode cX4_others 10 = .ok (.iaload, 1) := by decide +kernel
theorem dX4_others_11 : decode cX4_others 11 = .ok (.if_icmp .ge 32, 3) := by decide +kernel
theorem dX4_others_14 : decode cX4_others 14 = .ok (.iload_n 2, 1) := by decide +kernel
theorem dX4_others_15 : decode cX4_others 15 = .ok (.aload_n 0, 1) := by decide +kernel
theorem dX4_others_16 : decode cX4_others 16 = .ok (.iload_n 3, 1) := by decide +kernel
theorem dX4_others_17 : decode cX4_others 17 = .ok (.iload_n 1, 1) := by decide +kernel
theorem dX4_others_18 : decode cX4_others 18 = .ok (.invokevirtual 90, 3) := by decide +kernel
theorem dX4_others_21 : decode cX4_others 21 = .ok (.aload_n 0, 1) := by decide +kernel
theorem dX4_others_22 : decode cX4_others 22 = .ok (.getfield 23, 3) := by decide +kernel
theorem dX4_others_25 : decode cX4_others 25 = .ok (.iload_n 3, 1) := by decide +kernel
theorem dX4_others_26 : decode cX4_others 26 = .ok (.iaload, 1) := by decide +kernel
theorem dX4_others_27 : decode cX4_others 27 = .ok (.if_icmp .ne 7, 3) := by decide +kernel
theorem dX4_others_30 : decode cX4_others 30 = .ok (.iconst 0, 1) := by decide +kernel
theorem dX4_others_31 : decode cX4_others 31 = .ok (.goto 4, 3) := by decide +kernel
theorem dX4_others_34 : decode cX4_others 34 = .ok (.iconst 1, 1) := by decide +kernel
theorem dX4_others_35 : decode cX4_others 35 = .ok (.iadd, 1) := by decide +kernel
theorem dX4_others_36 : decode cX4_others 36 = .ok (.istore_n 2, 1) := by decide +kernel
theorem dX4_others_37 : decode cX4_others 37 = .ok (.iinc 3 1, 3) := by decide +kernel
theorem dX4_others_40 : decode cX4_others 40 = .ok (.goto (-36), 3) := by decide +kernel
theorem dX4_others_43 : decode cX4_others 43 = .ok (.iload_n 2, 1) := by decide +kernel
theorem dX4_others_44 : decode cX4_others 44 = .ok (.ireturn, 1) := by decide +kernel
theorem dX4_correct_0 : decode cX4_correct 0 = .ok (.aload_n 0, 1) := by decide +kernel
theorem dX4_correct_1 : decode cX4_correct 1 = .ok (.iload_n 1, 1) := by decide +kernel
theorem dX4_correct_2 : decode cX4_correct 2 = .ok (.iload_n 2, 1) := by decide +kernel
theorem dX4_correct_3 : decode cX4_correct 3 = .ok (.invokevirtual 93, 3) := by decide +kernel
theorem dX4_correct_6 : decode cX4_correct 6 = .ok (.ifCond .ne 5, 3) := by decide +kernel
theorem dX4_correct_9 : decode cX4_correct 9 = .ok (.iconst (-1), 1) := by decide +kernel
theorem dX4_correct_10 : decode cX4_correct 10 = .ok (.ireturn, 1) := by decide +kernel
theorem dX4_correct_11 : decode cX4_correct 11 = .ok (.iload_n 2, 1) := by decide +kernel
theorem dX4_correct_12 : decode cX4_correct 12 = .ok (.iload_n 3, 1) := by decide +kernel
theorem dX4_correct_13 : decode cX4_correct 13 = .ok (.invokestatic 69, 3) := by decide +kernel
theorem dX4_correct_16 : decode cX4_correct 16 = .ok (.ifCond .ne 6, 3) := by decide +kernel
theorem dX4_correct_19 : decode cX4_correct 19 = .ok (.bipush (-2), 2) := by decide +kernel
theorem dX4_correct_21 : decode cX4_correct 21 = .ok (.ireturn, 1) := by decide +kernel
theorem dX4_correct_22 : decode cX4_correct 22 = .ok (.aload_n 0, 1) := by decide +kernel
theorem dX4_correct_23 : decode cX4_correct 23 = .ok (.iload_n 1, 1) := by decide +kernel
theorem dX4_correct_24 : decode cX4_correct 24 = .ok (.iload_n 2, 1) := by decide +kernel
theorem dX4_correct_25 : decode cX4_correct 25 = .ok (.invokevirtual 56, 3) := by decide +kernel
theorem dX4_correct_28 : decode cX4_correct 28 = .ok (.iconst 4, 1) := by decide +kernel
theorem dX4_correct_29 : decode cX4_correct 29 = .ok (.if_icmp .ne 6, 3) := by decide +kernel
theorem dX4_correct_32 : decode cX4_correct 32 = .ok (.bipush (-3), 2) := by decide +kernel
theorem dX4_correct_34 : decode cX4_correct 34 = .ok (.ireturn, 1) := by decide +kernel
theorem dX4_correct_35 : decode cX4_correct 35 = .ok (.aload_n 0, 1) := by decide +kernel
theorem dX4_correct_36 : decode cX4_correct 36 = .ok (.iload_n 1, 1) := by decide +kernel
theorem dX4_correct_37 : decode cX4_correct 37 = .ok (.iload_n 2, 1) := by decide +kernel
theorem dX4_correct_38 : decode cX4_correct 38 = .ok (.invokevirtual 59, 3) := by decide +kernel
theorem dX4_correct_41 : decode cX4_correct 41 = .ok (.iload_n 3, 1) := by decide +kernel
theorem dX4_correct_42 : decode cX4_correct 42 = .ok (.if_icmp .ne 6, 3) := by decide +kernel
theorem dX4_correct_45 : decode cX4_correct 45 = .ok (.bipush (-5), 2) := by decide +kernel
theorem dX4_correct_47 : decode cX4_correct 47 = .ok (.ireturn, 1) := by decide +kernel
theorem dX4_correct_48 : decode cX4_correct 48 = .ok (.aload_n 0, 1) := by decide +kernel
theorem dX4_correct_49 : decode cX4_correct 49 = .ok (.invokevirtual 72, 3) := by decide +kernel
theorem dX4_correct_52 : decode cX4_correct 52 = .ok (.aload_n 0, 1) := by decide +kernel
theorem dX4_correct_53 : decode cX4_correct 53 = .ok (.iload_n 2, 1) := by decide +kernel
theorem dX4_correct_54 : decode cX4_correct 54 = .ok (.invokevirtual 96, 3) := by decide +kernel
theorem dX4_correct_57 : decode cX4_correct 57 = .ok (.iload_n 1, 1) := by decide +kernel
theorem dX4_correct_58 : decode cX4_correct 58 = .ok (.iload_n 2, 1) := by decide +kernel
theorem dX4_correct_59 : decode cX4_correct 59 = .ok (.invokestatic 52, 3) := by decide +kernel
theorem dX4_correct_62 : decode cX4_correct 62 = .ok (.istore 4, 2) := by decide +kernel
theorem dX4_correct_64 : decode cX4_correct 64 = .ok (.aload_n 0, 1) := by decide +kernel
theorem dX4_correct_65 : decode cX4_correct 65 = .ok (.getfield 7, 3) := by decide +kernel
theorem dX4_correct_68 : decode cX4_correct 68 = .ok (.iload 4, 2) := by decide +kernel
theorem dX4_correct_70 : decode cX4_correct 70 = .ok (.dup2, 1) := by decide +kernel
theorem dX4_correct_71 : decode cX4_correct 71 = .ok (.iaload, 1) := by decide +kernel
theorem dX4_correct_72 : decode cX4_correct 72 = .ok (.iconst 1, 1) := by decide +kernel
theorem dX4_correct_73 : decode cX4_correct 73 = .ok (.iadd, 1) := by decide +kernel
theorem dX4_correct_74 : decode cX4_correct 74 = .ok (.iastore, 1) := by decide +kernel
theorem dX4_correct_75 : decode cX4_correct 75 = .ok (.aload_n 0, 1) := by decide +kernel
theorem dX4_correct_76 : decode cX4_correct 76 = .ok (.getfield 7, 3) := by decide +kernel
theorem dX4_correct_79 : decode cX4_correct 79 = .ok (.iload 4, 2) := by decide +kernel
theorem dX4_correct_81 : decode cX4_correct 81 = .ok (.aload_n 0, 1) := by decide +kernel
theorem dX4_correct_82 : decode cX4_correct 82 = .ok (.getfield 7, 3) := by decide +kernel
theorem dX4_correct_85 : decode cX4_correct 85 = .ok (.iload 4, 2) := by decide +kernel
theorem dX4_correct_87 : decode cX4_correct 87 = .ok (.iaload, 1) := by decide +kernel
theorem dX4_correct_88 : decode cX4_correct 88 = .ok (.iadd, 1) := by decide +kernel
theorem dX4_correct_89 : decode cX4_correct 89 = .ok (.iload_n 3, 1) := by decide +kernel
theorem dX4_correct_90 : decode cX4_correct 90 = .ok (.iastore, 1) := by decide +kernel
theorem dX4_correct_91 : decode cX4_correct 91 = .ok (.aload_n 0, 1) := by decide +kernel
theorem dX4_correct_92 : decode cX4_correct 92 = .ok (.iload_n 2, 1) := by decide +kernel
theorem dX4_correct_93 : decode cX4_correct 93 = .ok (.invokevirtual 99, 3) := by decide +kernel
theorem dX4_correct_96 : decode cX4_correct 96 = .ok (.ireturn, 1) := by decide +kernel
theorem dX4_takeBack_0 : decode cX4_takeBack 0 = .ok (.aload_n 0, 1) := by decide +kernel
theorem dX4_takeBack_1 : decode cX4_takeBack 1 = .ok (.iload_n 1, 1) := by decide +kernel
theorem dX4_takeBack_2 : decode cX4_takeBack 2 = .ok (.iload_n 2, 1) := by decide +kernel
theorem dX4_takeBack_3 : decode cX4_takeBack 3 = .ok (.invokevirtual 93, 3) := by decide +kernel
theorem dX4_takeBack_6 : decode cX4_takeBack 6 = .ok (.ifCond .ne 5, 3) := by decide +kernel
theorem dX4_takeBack_9 : decode cX4_takeBack 9 = .ok (.iconst (-1), 1) := by decide +kernel
theorem dX4_takeBack_10 : decode cX4_takeBack 10 = .ok (.ireturn, 1) := by decide +kernel
theorem dX4_takeBack_11 : decode cX4_takeBack 11 = .ok (.aload_n 0, 1) := by decide +kernel
theorem dX4_takeBack_12 : decode cX4_takeBack 12 = .ok (.iload_n 1, 1) := by decide +kernel
theorem dX4_takeBack_13 : decode cX4_takeBack 13 = .ok (.iload_n 2, 1) := by decide +kernel
theorem dX4_takeBack_14 : decode cX4_takeBack 14 = .ok (.invokevirtual 56, 3) := by decide +kernel
theorem dX4_takeBack_17 : decode cX4_takeBack 17 = .ok (.iconst 1, 1) := by decide +kernel
theorem dX4_takeBack_18 : decode cX4_takeBack 18 = .ok (.if_icmp .ne 6, 3) := by decide +kernel
theorem dX4_takeBack_21 : decode cX4_takeBack 21 = .ok (.bipush (-4), 2) := by decide +kernel
theorem dX4_takeBack_23 : decode cX4_takeBack 23 = .ok (.ireturn, 1) := by decide +kernel
theorem dX4_takeBack_24 : decode cX4_takeBack 24 = .ok (.aload_n 0, 1) := by decide +kernel
theorem dX4_takeBack_25 : decode cX4_takeBack 25 = .ok (.invokevirtual 72, 3) := by decide +kernel
theorem dX4_takeBack_28 : decode cX4_takeBack 28 = .ok (.aload_n 0, 1) := by decide +kernel
theorem dX4_takeBack_29 : decode cX4_takeBack 29 = .ok (.iload_n 2, 1) := by decide +kernel
theorem dX4_takeBack_30 : decode cX4_takeBack 30 = .ok (.invokevirtual 96, 3) := by decide +kernel
theorem dX4_takeBack_33 : decode cX4_takeBack 33 = .ok (.iload_n 1, 1) := by decide +kernel
theorem dX4_takeBack_34 : decode cX4_takeBack 34 = .ok (.iload_n 2, 1) := by decide +kernel
theorem dX4_takeBack_35 : decode cX4_takeBack 35 = .ok (.invokestatic 52, 3) := by decide +kernel
theorem dX4_takeBack_38 : decode cX4_takeBack 38 = .ok (.istore_n 3, 1) := by decide +kernel
theorem dX4_takeBack_39 : decode cX4_takeBack 39 = .ok (.aload_n 0, 1) := by decide +kernel
theorem dX4_takeBack_40 : decode cX4_takeBack 40 = .ok (.getfield 7, 3) := by decide +kernel
theorem dX4_takeBack_43 : decode cX4_takeBack 43 = .ok (.iload_n 3, 1) := by decide +kernel
theorem dX4_takeBack_44 : decode cX4_takeBack 44 = .ok (.aload_n 0, 1) := by decide +kernel
theorem dX4_takeBack_45 : decode cX4_takeBack 45 = .ok (.getfield 7, 3) := by decide +kernel
theorem dX4_takeBack_48 : decode cX4_takeBack 48 = .ok (.iload_n 3, 1) := by decide +kernel
theorem dX4_takeBack_49 : decode cX4_takeBack 49 = .ok (.iaload, 1) := by decide +kernel
theorem dX4_takeBack_50 : decode cX4_takeBack 50 = .ok (.iadd, 1) := by decide +kernel
theorem dX4_takeBack_51 : decode cX4_takeBack 51 = .ok (.iconst 0, 1) := by decide +kernel
theorem dX4_takeBack_52 : decode cX4_takeBack 52 = .ok (.iastore, 1) := by decide +kernel
theorem dX4_takeBack_53 : decode cX4_takeBack 53 = .ok (.aload_n 0, 1) := by decide +kernel
theorem dX4_takeBack_54 : decode cX4_takeBack 54 = .ok (.getfield 7, 3) := by decide +kernel
theorem dX4_takeBack_57 : decode cX4_takeBack 57 = .ok (.iload_n 3, 1) := by decide +kernel
theorem dX4_takeBack_58 : decode cX4_takeBack 58 = .ok (.dup2, 1) := by decide +kernel
theorem dX4_takeBack_59 : decode cX4_takeBack 59 = .ok (.iaload, 1) := by decide +kernel
theorem dX4_takeBack_60 : decode cX4_takeBack 60 = .ok (.iconst 1, 1) := by decide +kernel
theorem dX4_takeBack_61 : decode cX4_takeBack 61 = .ok (.isub, 1) := by decide +kernel
theorem dX4_takeBack_62 : decode cX4_takeBack 62 = .ok (.iastore, 1) := by decide +kernel
theorem dX4_takeBack_63 : decode cX4_takeBack 63 = .ok (.aload_n 0, 1) := by decide +kernel
theorem dX4_takeBack_64 : decode cX4_takeBack 64 = .ok (.iload_n 2, 1) := by decide +kernel
theorem dX4_takeBack_65 : decode cX4_takeBack 65 = .ok (.invokevirtual 99, 3) := by decide +kernel
theorem dX4_takeBack_68 : decode cX4_takeBack 68 = .ok (.ireturn, 1) := by decide +kernel
theorem dX4_claim_0 : decode cX4_claim 0 = .ok (.iload_n 1, 1) := by decide +kernel
theorem dX4_claim_1 : decode cX4_claim 1 = .ok (.iconst 0, 1) := by decide +kernel
theorem dX4_claim_2 : decode cX4_claim 2 = .ok (.bipush 23, 2) := by decide +kernel
theorem dX4_claim_4 : decode cX4_claim 4 = .ok (.invokestatic 37, 3) := by decide +kernel
theorem dX4_claim_7 : decode cX4_claim 7 = .ok (.ifCond .ne 5, 3) := by decide +kernel
theorem dX4_claim_10 : decode cX4_claim 10 = .ok (.iconst (-1), 1) := by decide +kernel
theorem dX4_claim_11 : decode cX4_claim 11 = .ok (.ireturn, 1) := by decide +kernel
theorem dX4_claim_12 : decode cX4_claim 12 = .ok (.iload_n 2, 1) := by decide +kernel
theorem dX4_claim_13 : decode cX4_claim 13 = .ok (.bipush (-5), 2) := by decide +kernel
theorem dX4_claim_15 : decode cX4_claim 15 = .ok (.if_icmp .eq 17, 3) := by decide +kernel
theorem dX4_claim_18 : decode cX4_claim 18 = .ok (.iload_n 2, 1) := by decide +kernel
theorem dX4_claim_19 : decode cX4_claim 19 = .ok (.iconst 0, 1) := by decide +kernel
theorem dX4_claim_20 : decode cX4_claim 20 = .ok (.sipush 9999, 3) := by decide +kernel
theorem dX4_claim_23 : decode cX4_claim 23 = .ok (.invokestatic 37, 3) := by decide +kernel
theorem dX4_claim_26 : decode cX4_claim 26 = .ok (.ifCond .ne 6, 3) := by decide +kernel
theorem dX4_claim_29 : decode cX4_claim 29 = .ok (.bipush (-2), 2) := by decide +kernel
theorem dX4_claim_31 : decode cX4_claim 31 = .ok (.ireturn, 1) := by decide +kernel
theorem dX4_claim_32 : decode cX4_claim 32 = .ok (.aload_n 0, 1) := by decide +kernel
theorem dX4_claim_33 : decode cX4_claim 33 = .ok (.getfield 7, 3) := by decide +kernel
theorem dX4_claim_36 : decode cX4_claim 36 = .ok (.iconst 4, 1) := by decide +kernel
theorem dX4_claim_37 : decode cX4_claim 37 = .ok (.iload_n 1, 1) := by decide +kernel
theorem dX4_claim_38 : decode cX4_claim 38 = .ok (.iadd, 1) := by decide +kernel
theorem dX4_claim_39 : decode cX4_claim 39 = .ok (.iaload, 1) := by decide +kernel
theorem dX4_claim_40 : decode cX4_claim 40 = .ok (.istore_n 3, 1) := by decide +kernel
theorem dX4_claim_41 : decode cX4_claim 41 = .ok (.iload_n 3, 1) := by decide +kernel
theorem dX4_claim_42 : decode cX4_claim 42 = .ok (.iload_n 2, 1) := by decide +kernel
theorem dX4_claim_43 : decode cX4_claim 43 = .ok (.if_icmp .ne 6, 3) := by decide +kernel
theorem dX4_claim_46 : decode cX4_claim 46 = .ok (.bipush (-5), 2) := by decide +kernel
theorem dX4_claim_48 : decode cX4_claim 48 = .ok (.ireturn, 1) := by decide +kernel
theorem dX4_claim_49 : decode cX4_claim 49 = .ok (.aload_n 0, 1) := by decide +kernel
theorem dX4_claim_50 : decode cX4_claim 50 = .ok (.invokevirtual 72, 3) := by decide +kernel
theorem dX4_claim_53 : decode cX4_claim 53 = .ok (.aload_n 0, 1) := by decide +kernel
theorem dX4_claim_54 : decode cX4_claim 54 = .ok (.getfield 7, 3) := by decide +kernel
theorem dX4_claim_57 : decode cX4_claim 57 = .ok (.iconst 4, 1) := by decide +kernel
theorem dX4_claim_58 : decode cX4_claim 58 = .ok (.iload_n 1, 1) := by decide +kernel
theorem dX4_claim_59 : decode cX4_claim 59 = .ok (.iadd, 1) := by decide +kernel
theorem dX4_claim_60 : decode cX4_claim 60 = .ok (.iload_n 2, 1) := by decide +kernel
theorem dX4_claim_61 : decode cX4_claim 61 = .ok (.iastore, 1) := by decide +kernel
theorem dX4_claim_62 : decode cX4_claim 62 = .ok (.iload_n 3, 1) := by decide +kernel
theorem dX4_claim_63 : decode cX4_claim 63 = .ok (.sipush 10000, 3) := by decide +kernel
theorem dX4_claim_66 : decode cX4_claim 66 = .ok (.iadd, 1) := by decide +kernel
theorem dX4_claim_67 : decode cX4_claim 67 = .ok (.ireturn, 1) := by decide +kernel
theorem dX4_isSetting_0 : decode cX4_isSetting 0 = .ok (.iload_n 0, 1) := by decide +kernel
theorem dX4_isSetting_1 : decode cX4_isSetting 1 = .ok (.tableswitch 50 0 2 #[27, 35, 42], 27) := by decide +kernel
theorem dX4_isSetting_28 : decode cX4_isSetting 28 = .ok (.iload_n 1, 1) := by decide +kernel
theorem dX4_isSetting_29 : decode cX4_isSetting 29 = .ok (.iconst 4, 1) := by decide +kernel
theorem dX4_isSetting_30 : decode cX4_isSetting 30 = .ok (.bipush 12, 2) := by decide +kernel
theorem dX4_isSetting_32 : decode cX4_isSetting 32 = .ok (.invokestatic 37, 3) := by decide +kernel
theorem dX4_isSetting_35 : decode cX4_isSetting 35 = .ok (.ireturn, 1) := by decide +kernel
theorem dX4_isSetting_36 : decode cX4_isSetting 36 = .ok (.iload_n 1, 1) := by decide +kernel
theorem dX4_isSetting_37 : decode cX4_isSetting 37 = .ok (.iconst 0, 1) := by decide +kernel
theorem dX4_isSetting_38 : decode cX4_isSetting 38 = .ok (.iconst 1, 1) := by decide +kernel
theorem dX4_isSetting_39 : decode cX4_isSetting 39 = .ok (.invokestatic 37, 3) := by decide +kernel
theorem dX4_isSetting_42 : decode cX4_isSetting 42 = .ok (.ireturn, 1) := by decide +kernel
theorem dX4_isSetting_43 : decode cX4_isSetting 43 = .ok (.iload_n 1, 1) := by decide +kernel
theorem dX4_isSetting_44 : decode cX4_isSetting 44 = .ok (.iconst 2, 1) := by decide +kernel
theorem dX4_isSetting_45 : decode cX4_isSetting 45 = .ok (.bipush 6, 2) := by decide +kernel
theorem dX4_isSetting_47 : decode cX4_isSetting 47 = .ok (.invokestatic 37, 3) := by decide +kernel
theorem dX4_isSetting_50 : decode cX4_isSetting 50 = .ok (.ireturn, 1) := by decide +kernel
theorem dX4_isSetting_51 : decode cX4_isSetting 51 = .ok (.iconst 0, 1) := by decide +kernel
theorem dX4_isSetting_52 : decode cX4_isSetting 52 = .ok (.ireturn, 1) := by decide +kernel
theorem dX4_set_0 : decode cX4_set 0 = .ok (.iload_n 1, 1) := by decide +kernel
theorem dX4_set_1 : decode cX4_set 1 = .ok (.iload_n 2, 1) := by decide +kernel
theorem dX4_set_2 : decode cX4_set 2 = .ok (.invokestatic 102, 3) := by decide +kernel
theorem dX4_set_5 : decode cX4_set 5 = .ok (.ifCond .ne 6, 3) := by decide +kernel
theorem dX4_set_8 : decode cX4_set 8 = .ok (.bipush (-2), 2) := by decide +kernel
theorem dX4_set_10 : decode cX4_set 10 = .ok (.ireturn, 1) := by decide +kernel
theorem dX4_set_11 : decode cX4_set 11 = .ok (.aload_n 0, 1) := by decide +kernel
theorem dX4_set_12 : decode cX4_set 12 = .ok (.getfield 7, 3) := by decide +kernel
theorem dX4_set_15 : decode cX4_set 15 = .ok (.iconst 1, 1) := by decide +kernel
theorem dX4_set_16 : decode cX4_set 16 = .ok (.iload_n 1, 1) := by decide +kernel
theorem dX4_set_17 : decode cX4_set 17 = .ok (.iadd, 1) := by decide +kernel
theorem dX4_set_18 : decode cX4_set 18 = .ok (.iaload, 1) := by decide +kernel
theorem dX4_set_19 : decode cX4_set 19 = .ok (.istore_n 3, 1) := by decide +kernel
theorem dX4_set_20 : decode cX4_set 20 = .ok (.iload_n 3, 1) := by decide +kernel
theorem dX4_set_21 : decode cX4_set 21 = .ok (.iload_n 2, 1) := by decide +kernel
theorem dX4_set_22 : decode cX4_set 22 = .ok (.if_icmp .ne 6, 3) := by decide +kernel
theorem dX4_set_25 : decode cX4_set 25 = .ok (.bipush (-5), 2) := by decide +kernel
theorem dX4_set_27 : decode cX4_set 27 = .ok (.ireturn, 1) := by decide +kernel
theorem dX4_set_28 : decode cX4_set 28 = .ok (.aload_n 0, 1) := by decide +kernel
theorem dX4_set_29 : decode cX4_set 29 = .ok (.invokevirtual 72, 3) := by decide +kernel
theorem dX4_set_32 : decode cX4_set 32 = .ok (.aload_n 0, 1) := by decide +kernel
theorem dX4_set_33 : decode cX4_set 33 = .ok (.getfield 7, 3) := by decide +kernel
theorem dX4_set_36 : decode cX4_set 36 = .ok (.iconst 1, 1) := by decide +kernel
theorem dX4_set_37 : decode cX4_set 37 = .ok (.iload_n 1, 1) := by decide +kernel
theorem dX4_set_38 : decode cX4_set 38 = .ok (.iadd, 1) := by decide +kernel
theorem dX4_set_39 : decode cX4_set 39 = .ok (.iload_n 2, 1) := by decide +kernel
theorem dX4_set_40 : decode cX4_set 40 = .ok (.iastore, 1) := by decide +kernel
theorem dX4_set_41 : decode cX4_set 41 = .ok (.iload_n 3, 1) := by decide +kernel
theorem dX4_set_42 : decode cX4_set 42 = .ok (.ireturn, 1) := by decide +kernel
theorem dX4_type_0 : decode cX4_type 0 = .ok (.aload_n 0, 1) := by decide +kernel
theorem dX4_type_1 : decode cX4_type 1 = .ok (.getfield 105, 3) := by decide +kernel
theorem dX4_type_4 : decode cX4_type 4 = .ok (.bipush 60, 2) := by decide +kernel
theorem dX4_type_6 : decode cX4_type 6 = .ok (.if_icmp .ne 6, 3) := by decide +kernel
theorem dX4_type_9 : decode cX4_type 9 = .ok (.bipush (-3), 2) := by decide +kernel
theorem dX4_type_11 : decode cX4_type 11 = .ok (.ireturn, 1) := by decide +kernel
theorem dX4_type_12 : decode cX4_type 12 = .ok (.aload_n 0, 1) := by decide +kernel
theorem dX4_type_13 : decode cX4_type 13 = .ok (.getfield 19, 3) := by decide +kernel
theorem dX4_type_16 : decode cX4_type 16 = .ok (.aload_n 0, 1) := by decide +kernel
theorem dX4_type_17 : decode cX4_type 17 = .ok (.getfield 105, 3) := by decide +kernel
theorem dX4_type_20 : decode cX4_type 20 = .ok (.iload_n 1, 1) := by decide +kernel
theorem dX4_type_21 : decode cX4_type 21 = .ok (.castore, 1) := by decide +kernel
theorem dX4_type_22 : decode cX4_type 22 = .ok (.aload_n 0, 1) := by decide +kernel
theorem dX4_type_23 : decode cX4_type 23 = .ok (.dup, 1) := by decide +kernel
theorem dX4_type_24 : decode cX4_type 24 = .ok (.getfield 105, 3) := by decide +kernel
theorem dX4_type_27 : decode cX4_type 27 = .ok (.iconst 1, 1) := by decide +kernel
theorem dX4_type_28 : decode cX4_type 28 = .ok (.iadd, 1) := by decide +kernel
theorem dX4_type_29 : decode cX4_type 29 = .ok (.putfield 105, 3) := by decide +kernel
theorem dX4_type_32 : decode cX4_type 32 = .ok (.aload_n 0, 1) := by decide +kernel
theorem dX4_type_33 : decode cX4_type 33 = .ok (.getfield 105, 3) := by decide +kernel
theorem dX4_type_36 : decode cX4_type 36 = .ok (.ireturn, 1) := by decide +kernel
theorem dX4_clearText_0 : decode cX4_clearText 0 = .ok (.aload_n 0, 1) := by decide +kernel
theorem dX4_clearText_1 : decode cX4_clearText 1 = .ok (.getfield 105, 3) := by decide +kernel
theorem dX4_clearText_4 : decode cX4_clearText 4 = .ok (.istore_n 1, 1) := by decide +kernel
theorem dX4_clearText_5 : decode cX4_clearText 5 = .ok (.aload_n 0, 1) := by decide +kernel
theorem dX4_clearText_6 : decode cX4_clearText 6 = .ok (.iconst 0, 1) := by decide +kernel
theorem dX4_clearText_7 : decode cX4_clearText 7 = .ok (.putfield 105, 3) := by decide +kernel
theorem dX4_clearText_10 : decode cX4_clearText 10 = .ok (.iload_n 1, 1) := by decide +kernel
theorem dX4_clearText_11 : decode cX4_clearText 11 = .ok (.ireturn, 1) := by decide +kernel
theorem dX4_sees_0 : decode cX4_sees 0 = .ok (.aload_n 0, 1) := by decide +kernel
theorem dX4_sees_1 : decode cX4_sees 1 = .ok (.getfield 108, 3) := by decide +kernel
theorem dX4_sees_4 : decode cX4_sees 4 = .ok (.aload_n 0, 1) := by decide +kernel
theorem dX4_sees_5 : decode cX4_sees 5 = .ok (.getfield 105, 3) := by decide +kernel
theorem dX4_sees_8 : decode cX4_sees 8 = .ok (.if_icmp .ge 24, 3) := by decide +kernel
theorem dX4_sees_11 : decode cX4_sees 11 = .ok (.aload_n 0, 1) := by decide +kernel
theorem dX4_sees_12 : decode cX4_sees 12 = .ok (.getfield 19, 3) := by decide +kernel
theorem dX4_sees_15 : decode cX4_sees 15 = .ok (.aload_n 0, 1) := by decide +kernel
theorem dX4_sees_16 : decode cX4_sees 16 = .ok (.getfield 108, 3) := by decide +kernel
theorem dX4_sees_19 : decode cX4_sees 19 = .ok (.caload, 1) := by decide +kernel
theorem dX4_sees_20 : decode cX4_sees 20 = .ok (.iload_n 1, 1) := by decide +kernel
theorem dX4_sees_21 : decode cX4_sees 21 = .ok (.iload_n 2, 1) := by decide +kernel
theorem dX4_sees_22 : decode cX4_sees 22 = .ok (.invokestatic 37, 3) := by decide +kernel
theorem dX4_sees_25 : decode cX4_sees 25 = .ok (.ifCond .eq 7, 3) := by decide +kernel
theorem dX4_sees_28 : decode cX4_sees 28 = .ok (.iconst 1, 1) := by decide +kernel
theorem dX4_sees_29 : decode cX4_sees 29 = .ok (.goto 4, 3) := by decide +kernel
theorem dX4_sees_32 : decode cX4_sees 32 = .ok (.iconst 0, 1) := by decide +kernel
theorem dX4_sees_33 : decode cX4_sees 33 = .ok (.ireturn, 1) := by decide +kernel
theorem dX4_takes_0 : decode cX4_takes 0 = .ok (.aload_n 0, 1) := by decide +kernel
theorem dX4_takes_1 : decode cX4_takes 1 = .ok (.iload_n 1, 1) := by decide +kernel
theorem dX4_takes_2 : decode cX4_takes 2 = .ok (.iload_n 1, 1) := by decide +kernel
theorem dX4_takes_3 : decode cX4_takes 3 = .ok (.invokevirtual 111, 3) := by decide +kernel
theorem dX4_takes_6 : decode cX4_takes 6 = .ok (.istore_n 2, 1) := by decide +kernel
theorem dX4_takes_7 : decode cX4_takes 7 = .ok (.aload_n 0, 1) := by decide +kernel
theorem dX4_takes_8 : decode cX4_takes 8 = .ok (.dup, 1) := by decide +kernel
theorem dX4_takes_9 : decode cX4_takes 9 = .ok (.getfield 108, 3) := by decide +kernel
theorem dX4_takes_12 : decode cX4_takes 12 = .ok (.iload_n 2, 1) := by decide +kernel
theorem dX4_takes_13 : decode cX4_takes 13 = .ok (.ifCond .eq 7, 3) := by decide +kernel
theorem dX4_takes_16 : decode cX4_takes 16 = .ok (.iconst 1, 1) := by decide +kernel
theorem dX4_takes_17 : decode cX4_takes 17 = .ok (.goto 4, 3) := by decide +kernel
theorem dX4_takes_20 : decode cX4_takes 20 = .ok (.iconst 0, 1) := by decide +kernel
theorem dX4_takes_21 : decode cX4_takes 21 = .ok (.iadd, 1) := by decide +kernel
theorem dX4_takes_22 : decode cX4_takes 22 = .ok (.putfield 108, 3) := by decide +kernel
theorem dX4_takes_25 : decode cX4_takes 25 = .ok (.iload_n 2, 1) := by decide +kernel
theorem dX4_takes_26 : decode cX4_takes 26 = .ok (.ireturn, 1) := by decide +kernel
theorem dX4_isCellNext_0 : decode cX4_isCellNext 0 = .ok (.iload_n 1, 1) := by decide +kernel
theorem dX4_isCellNext_1 : decode cX4_isCellNext 1 = .ok (.iconst 4, 1) := by decide +kernel
theorem dX4_isCellNext_2 : decode cX4_isCellNext 2 = .ok (.irem, 1) := by decide +kernel
theorem dX4_isCellNext_3 : decode cX4_isCellNext 3 = .ok (.istore_n 2, 1) := by decide +kernel
theorem dX4_isCellNext_4 : decode cX4_isCellNext 4 = .ok (.aload_n 0, 1) := by decide +kernel
theorem dX4_isCellNext_5 : decode cX4_isCellNext 5 = .ok (.bipush 45, 2) := by decide +kernel
theorem dX4_isCellNext_7 : decode cX4_isCellNext 7 = .ok (.invokevirtual 114, 3) := by decide +kernel
theorem dX4_isCellNext_10 : decode cX4_isCellNext 10 = .ok (.ifCond .ne 12, 3) := by decide +kernel
theorem dX4_isCellNext_13 : decode cX4_isCellNext 13 = .ok (.aload_n 0, 1) := by decide +kernel
theorem dX4_isCellNext_14 : decode cX4_isCellNext 14 = .ok (.bipush 39, 2) := by decide +kernel
theorem dX4_isCellNext_16 : decode cX4_isCellNext 16 = .ok (.invokevirtual 114, 3) := by decide +kernel
theorem dX4_isCellNext_19 : decode cX4_isCellNext 19 = .ok (.ifCond .eq 34, 3) := by decide +kernel
theorem dX4_isCellNext_22 : decode cX4_isCellNext 22 = .ok (.aload_n 0, 1) := by decide +kernel
theorem dX4_isCellNext_23 : decode cX4_isCellNext 23 = .ok (.getfield 26, 3) := by decide +kernel
theorem dX4_isCellNext_26 : decode cX4_isCellNext 26 = .ok (.iload_n 1, 1) := by decide +kernel
theorem dX4_isCellNext_27 : decode cX4_isCellNext 27 = .ok (.aload_n 0, 1) := by decide +kernel
theorem dX4_isCellNext_28 : decode cX4_isCellNext 28 = .ok (.getfield 19, 3) := by decide +kernel
theorem dX4_isCellNext_31 : decode cX4_isCellNext 31 = .ok (.aload_n 0, 1) := by decide +kernel
theorem dX4_isCellNext_32 : decode cX4_isCellNext 32 = .ok (.getfield 108, 3) := by decide +kernel
theorem dX4_isCellNext_35 : decode cX4_isCellNext 35 = .ok (.iconst 1, 1) := by decide +kernel
theorem dX4_isCellNext_36 : decode cX4_isCellNext 36 = .ok (.isub, 1) := by decide +kernel
theorem dX4_isCellNext_37 : decode cX4_isCellNext 37 = .ok (.caload, 1) := by decide +kernel
theorem dX4_isCellNext_38 : decode cX4_isCellNext 38 = .ok (.bipush 45, 2) := by decide +kernel
theorem dX4_isCellNext_40 : decode cX4_isCellNext 40 = .ok (.if_icmp .ne 8, 3) := by decide +kernel
theorem dX4_isCellNext_43 : decode cX4_isCellNext 43 = .ok (.bipush (-5), 2) := by decide +kernel
theorem dX4_isCellNext_45 : decode cX4_isCellNext 45 = .ok (.goto 5, 3) := by decide +kernel
theorem dX4_isCellNext_48 : decode cX4_isCellNext 48 = .ok (.bipush (-6), 2) := by decide +kernel
theorem dX4_isCellNext_50 : decode cX4_isCellNext 50 = .ok (.iastore, 1) := by decide +kernel
theorem dX4_isCellNext_51 : decode cX4_isCellNext 51 = .ok (.iconst 1, 1) := by decide +kernel
theorem dX4_isCellNext_52 : decode cX4_isCellNext 52 = .ok (.ireturn, 1) := by decide +kernel
theorem dX4_isCellNext_53 : decode cX4_isCellNext 53 = .ok (.aload_n 0, 1) := by decide +kernel
theorem dX4_isCellNext_54 : decode cX4_isCellNext 54 = .ok (.bipush 48, 2) := by decide +kernel
theorem dX4_isCellNext_56 : decode cX4_isCellNext 56 = .ok (.bipush 48, 2) := by decide +kernel
theorem dX4_isCellNext_58 : decode cX4_isCellNext 58 = .ok (.iload_n 2, 1) := by decide +kernel
theorem dX4_isCellNext_59 : decode cX4_isCellNext 59 = .ok (.invokestatic 48, 3) := by decide +kernel
theorem dX4_isCellNext_62 : decode cX4_isCellNext 62 = .ok (.bipush 9, 2) := by decide +kernel
theorem dX4_isCellNext_64 : decode cX4_isCellNext 64 = .ok (.if_icmp .ge 10, 3) := by decide +kernel
theorem dX4_isCellNext_67 : decode cX4_isCellNext 67 = .ok (.iload_n 2, 1) := by decide +kernel
theorem dX4_isCellNext_68 : decode cX4_isCellNext 68 = .ok (.invokestatic 48, 3) := by decide +kernel
theorem dX4_isCellNext_71 : decode cX4_isCellNext 71 = .ok (.goto 5, 3) := by decide +kernel
theorem dX4_isCellNext_74 : decode cX4_isCellNext 74 = .ok (.bipush 9, 2) := by decide +kernel
theorem dX4_isCellNext_76 : decode cX4_isCellNext 76 = .ok (.iadd, 1) := by decide +kernel
theorem dX4_isCellNext_77 : decode cX4_isCellNext 77 = .ok (.invokevirtual 111, 3) := by decide +kernel
theorem dX4_isCellNext_80 : decode cX4_isCellNext 80 = .ok (.ifCond .ne 5, 3) := by decide +kernel
theorem dX4_isCellNext_83 : decode cX4_isCellNext 83 = .ok (.iconst 0, 1) := by decide +kernel
theorem dX4_isCellNext_84 : decode cX4_isCellNext 84 = .ok (.ireturn, 1) := by decide +kernel
theorem dX4_isCellNext_85 : decode cX4_isCellNext 85 = .ok (.aload_n 0, 1) := by decide +kernel
theorem dX4_isCellNext_86 : decode cX4_isCellNext 86 = .ok (.getfield 19, 3) := by decide +kernel
theorem dX4_isCellNext_89 : decode cX4_isCellNext 89 = .ok (.aload_n 0, 1) := by decide +kernel
theorem dX4_isCellNext_90 : decode cX4_isCellNext 90 = .ok (.getfield 108, 3) := by decide +kernel
theorem dX4_isCellNext_93 : decode cX4_isCellNext 93 = .ok (.caload, 1) := by decide +kernel
theorem dX4_isCellNext_94 : decode cX4_isCellNext 94 = .ok (.bipush 48, 2) := by decide +kernel
theorem dX4_isCellNext_96 : decode cX4_isCellNext 96 = .ok (.isub, 1) := by decide +kernel
theorem dX4_isCellNext_97 : decode cX4_isCellNext 97 = .ok (.istore_n 3, 1) := by decide +kernel
theorem dX4_isCellNext_98 : decode cX4_isCellNext 98 = .ok (.aload_n 0, 1) := by decide +kernel
theorem dX4_isCellNext_99 : decode cX4_isCellNext 99 = .ok (.dup, 1) := by decide +kernel
theorem dX4_isCellNext_100 : decode cX4_isCellNext 100 = .ok (.getfield 108, 3) := by decide +kernel
theorem dX4_isCellNext_103 : decode cX4_isCellNext 103 = .ok (.iconst 1, 1) := by decide +kernel
theorem dX4_isCellNext_104 : decode cX4_isCellNext 104 = .ok (.iadd, 1) := by decide +kernel
theorem dX4_isCellNext_105 : decode cX4_isCellNext 105 = .ok (.putfield 108, 3) := by decide +kernel
theorem dX4_isCellNext_108 : decode cX4_isCellNext 108 = .ok (.iload_n 3, 1) := by decide +kernel
theorem dX4_isCellNext_109 : decode cX4_isCellNext 109 = .ok (.ifCond .le 69, 3) := by decide +kernel
theorem dX4_isCellNext_112 : decode cX4_isCellNext 112 = .ok (.aload_n 0, 1) := by decide +kernel
theorem dX4_isCellNext_113 : decode cX4_isCellNext 113 = .ok (.bipush 48, 2) := by decide +kernel
theorem dX4_isCellNext_115 : decode cX4_isCellNext 115 = .ok (.bipush 57, 2) := by decide +kernel
theorem dX4_isCellNext_117 : decode cX4_isCellNext 117 = .ok (.invokevirtual 111, 3) := by decide +kernel
theorem dX4_isCellNext_120 : decode cX4_isCellNext 120 = .ok (.ifCond .eq 58, 3) := by decide +kernel
theorem dX4_isCellNext_123 : decode cX4_isCellNext 123 = .ok (.bipush 10, 2) := by decide +kernel
theorem dX4_isCellNext_125 : decode cX4_isCellNext 125 = .ok (.iload_n 3, 1) := by decide +kernel
theorem dX4_isCellNext_126 : decode cX4_isCellNext 126 = .ok (.imul, 1) := by decide +kernel
theorem dX4_isCellNext_127 : decode cX4_isCellNext 127 = .ok (.aload_n 0, 1) := by decide +kernel
theorem dX4_isCellNext_128 : decode cX4_isCellNext 128 = .ok (.getfield 19, 3) := by decide +kernel
theorem dX4_isCellNext_131 : decode cX4_isCellNext 131 = .ok (.aload_n 0, 1) := by decide +kernel
theorem dX4_isCellNext_132 : decode cX4_isCellNext 132 = .ok (.getfield 108, 3) := by decide +kernel
theorem dX4_isCellNext_135 : decode cX4_isCellNext 135 = .ok (.caload, 1) := by decide +kernel
theorem dX4_isCellNext_136 : decode cX4_isCellNext 136 = .ok (.iadd, 1) := by decide +kernel
theorem dX4_isCellNext_137 : decode cX4_isCellNext 137 = .ok (.bipush 48, 2) := by decide +kernel
theorem dX4_isCellNext_139 : decode cX4_isCellNext 139 = .ok (.isub, 1) := by decide +kernel
theorem dX4_isCellNext_140 : decode cX4_isCellNext 140 = .ok (.iload_n 2, 1) := by decide +kernel
theorem dX4_isCellNext_141 : decode cX4_isCellNext 141 = .ok (.invokestatic 48, 3) := by decide +kernel
theorem dX4_isCellNext_144 : decode cX4_isCellNext 144 = .ok (.if_icmp .gt 34, 3) := by decide +kernel
theorem dX4_isCellNext_147 : decode cX4_isCellNext 147 = .ok (.bipush 10, 2) := by decide +kernel
theorem dX4_isCellNext_149 : decode cX4_isCellNext 149 = .ok (.iload_n 3, 1) := by decide +kernel
theorem dX4_isCellNext_150 : decode cX4_isCellNext 150 = .ok (.imul, 1) := by decide +kernel
theorem dX4_isCellNext_151 : decode cX4_isCellNext 151 = .ok (.aload_n 0, 1) := by decide +kernel
theorem dX4_isCellNext_152 : decode cX4_isCellNext 152 = .ok (.getfield 19, 3) := by decide +kernel
theorem dX4_isCellNext_155 : decode cX4_isCellNext 155 = .ok (.aload_n 0, 1) := by decide +kernel
theorem dX4_isCellNext_156 : decode cX4_isCellNext 156 = .ok (.getfield 108, 3) := by decide +kernel
theorem dX4_isCellNext_159 : decode cX4_isCellNext 159 = .ok (.caload, 1) := by decide +kernel
theorem dX4_isCellNext_160 : decode cX4_isCellNext 160 = .ok (.iadd, 1) := by decide +kernel
theorem dX4_isCellNext_161 : decode cX4_isCellNext 161 = .ok (.bipush 48, 2) := by decide +kernel
theorem dX4_isCellNext_163 : decode cX4_isCellNext 163 = .ok (.isub, 1) := by decide +kernel
theorem dX4_isCellNext_164 : decode cX4_isCellNext 164 = .ok (.istore_n 3, 1) := by decide +kernel
theorem dX4_isCellNext_165 : decode cX4_isCellNext 165 = .ok (.aload_n 0, 1) := by decide +kernel
theorem dX4_isCellNext_166 : decode cX4_isCellNext 166 = .ok (.dup, 1) := by decide +kernel
theorem dX4_isCellNext_167 : decode cX4_isCellNext 167 = .ok (.getfield 108, 3) := by decide +kernel
theorem dX4_isCellNext_170 : decode cX4_isCellNext 170 = .ok (.iconst 1, 1) := by decide +kernel
theorem dX4_isCellNext_171 : decode cX4_isCellNext 171 = .ok (.iadd, 1) := by decide +kernel
theorem dX4_isCellNext_172 : decode cX4_isCellNext 172 = .ok (.putfield 108, 3) := by decide +kernel
theorem dX4_isCellNext_175 : decode cX4_isCellNext 175 = .ok (.goto (-67), 3) := by decide +kernel
theorem dX4_isCellNext_178 : decode cX4_isCellNext 178 = .ok (.aload_n 0, 1) := by decide +kernel
theorem dX4_isCellNext_179 : decode cX4_isCellNext 179 = .ok (.getfield 26, 3) := by decide +kernel
theorem dX4_isCellNext_182 : decode cX4_isCellNext 182 = .ok (.iload_n 1, 1) := by decide +kernel
theorem dX4_isCellNext_183 : decode cX4_isCellNext 183 = .ok (.iload_n 3, 1) := by decide +kernel
theorem dX4_isCellNext_184 : decode cX4_isCellNext 184 = .ok (.iastore, 1) := by decide +kernel
theorem dX4_isCellNext_185 : decode cX4_isCellNext 185 = .ok (.iconst 1, 1) := by decide +kernel
theorem dX4_isCellNext_186 : decode cX4_isCellNext 186 = .ok (.ireturn, 1) := by decide +kernel
theorem dX4_isRowNext_0 : decode cX4_isRowNext 0 = .ok (.iconst 4, 1) := by decide +kernel
theorem dX4_isRowNext_1 : decode cX4_isRowNext 1 = .ok (.aload_n 0, 1) := by decide +kernel
theorem dX4_isRowNext_2 : decode cX4_isRowNext 2 = .ok (.getfield 83, 3) := by decide +kernel
theorem dX4_isRowNext_5 : decode cX4_isRowNext 5 = .ok (.imul, 1) := by decide +kernel
theorem dX4_isRowNext_6 : decode cX4_isRowNext 6 = .ok (.istore_n 1, 1) := by decide +kernel
theorem dX4_isRowNext_7 : decode cX4_isRowNext 7 = .ok (.aload_n 0, 1) := by decide +kernel
theorem dX4_isRowNext_8 : decode cX4_isRowNext 8 = .ok (.iload_n 1, 1) := by decide +kernel
theorem dX4_isRowNext_9 : decode cX4_isRowNext 9 = .ok (.invokevirtual 117, 3) := by decide +kernel
theorem dX4_isRowNext_12 : decode cX4_isRowNext 12 = .ok (.ifCond .eq 64, 3) := by decide +kernel
theorem dX4_isRowNext_15 : decode cX4_isRowNext 15 = .ok (.aload_n 0, 1) := by decide +kernel
theorem dX4_isRowNext_16 : decode cX4_isRowNext 16 = .ok (.bipush 44, 2) := by decide +kernel
theorem dX4_isRowNext_18 : decode cX4_isRowNext 18 = .ok (.invokevirtual 114, 3) := by decide +kernel
theorem dX4_isRowNext_21 : decode cX4_isRowNext 21 = .ok (.ifCond .eq 55, 3) := by decide +kernel
theorem dX4_isRowNext_24 : decode cX4_isRowNext 24 = .ok (.aload_n 0, 1) := by decide +kernel
theorem dX4_isRowNext_25 : decode cX4_isRowNext 25 = .ok (.iload_n 1, 1) := by decide +kernel
theorem dX4_isRowNext_26 : decode cX4_isRowNext 26 = .ok (.iconst 1, 1) := by decide +kernel
theorem dX4_isRowNext_27 : decode cX4_isRowNext 27 = .ok (.iadd, 1) := by decide +kernel
theorem dX4_isRowNext_28 : decode cX4_isRowNext 28 = .ok (.invokevirtual 117, 3) := by decide +kernel
theorem dX4_isRowNext_31 : decode cX4_isRowNext 31 = .ok (.ifCond .eq 45, 3) := by decide +kernel
theorem dX4_isRowNext_34 : decode cX4_isRowNext 34 = .ok (.aload_n 0, 1) := by decide +kernel
theorem dX4_isRowNext_35 : decode cX4_isRowNext 35 = .ok (.bipush 44, 2) := by decide +kernel
theorem dX4_isRowNext_37 : decode cX4_isRowNext 37 = .ok (.invokevirtual 114, 3) := by decide +kernel
theorem dX4_isRowNext_40 : decode cX4_isRowNext 40 = .ok (.ifCond .eq 36, 3) := by decide +kernel
theorem dX4_isRowNext_43 : decode cX4_isRowNext 43 = .ok (.aload_n 0, 1) := by decide +kernel
theorem dX4_isRowNext_44 : decode cX4_isRowNext 44 = .ok (.iload_n 1, 1) := by decide +kernel
theorem dX4_isRowNext_45 : decode cX4_isRowNext 45 = .ok (.iconst 2, 1) := by decide +kernel
theorem dX4_isRowNext_46 : decode cX4_isRowNext 46 = .ok (.iadd, 1) := by decide +kernel
theorem dX4_isRowNext_47 : decode cX4_isRowNext 47 = .ok (.invokevirtual 117, 3) := by decide +kernel
theorem dX4_isRowNext_50 : decode cX4_isRowNext 50 = .ok (.ifCond .eq 26, 3) := by decide +kernel
theorem dX4_isRowNext_53 : decode cX4_isRowNext 53 = .ok (.aload_n 0, 1) := by decide +kernel
theorem dX4_isRowNext_54 : decode cX4_isRowNext 54 = .ok (.bipush 44, 2) := by decide +kernel
theorem dX4_isRowNext_56 : decode cX4_isRowNext 56 = .ok (.invokevirtual 114, 3) := by decide +kernel
theorem dX4_isRowNext_59 : decode cX4_isRowNext 59 = .ok (.ifCond .eq 17, 3) := by decide +kernel
theorem dX4_isRowNext_62 : decode cX4_isRowNext 62 = .ok (.aload_n 0, 1) := by decide +kernel
theorem dX4_isRowNext_63 : decode cX4_isRowNext 63 = .ok (.iload_n 1, 1) := by decide +kernel
theorem dX4_isRowNext_64 : decode cX4_isRowNext 64 = .ok (.iconst 3, 1) := by decide +kernel
theorem dX4_isRowNext_65 : decode cX4_isRowNext 65 = .ok (.iadd, 1) := by decide +kernel
theorem dX4_isRowNext_66 : decode cX4_isRowNext 66 = .ok (.invokevirtual 117, 3) := by decide +kernel
theorem dX4_isRowNext_69 : decode cX4_isRowNext 69 = .ok (.ifCond .eq 7, 3) := by decide +kernel
theorem dX4_isRowNext_72 : decode cX4_isRowNext 72 = .ok (.iconst 1, 1) := by decide +kernel
theorem dX4_isRowNext_73 : decode cX4_isRowNext 73 = .ok (.goto 4, 3) := by decide +kernel
theorem dX4_isRowNext_76 : decode cX4_isRowNext 76 = .ok (.iconst 0, 1) := by decide +kernel
theorem dX4_isRowNext_77 : decode cX4_isRowNext 77 = .ok (.ireturn, 1) := by decide +kernel
theorem dX4_fault_0 : decode cX4_fault 0 = .ok (.aload_n 0, 1) := by decide +kernel
theorem dX4_fault_1 : decode cX4_fault 1 = .ok (.iconst 0, 1) := by decide +kernel
theorem dX4_fault_2 : decode cX4_fault 2 = .ok (.putfield 108, 3) := by decide +kernel
theorem dX4_fault_5 : decode cX4_fault 5 = .ok (.aload_n 0, 1) := by decide +kernel
theorem dX4_fault_6 : decode cX4_fault 6 = .ok (.iconst 0, 1) := by decide +kernel
theorem dX4_fault_7 : decode cX4_fault 7 = .ok (.putfield 83, 3) := by decide +kernel
theorem dX4_fault_10 : decode cX4_fault 10 = .ok (.iconst 1, 1) := by decide +kernel
theorem dX4_fault_11 : decode cX4_fault 11 = .ok (.istore_n 1, 1) := by decide +kernel
theorem dX4_fault_12 : decode cX4_fault 12 = .ok (.iload_n 1, 1) := by decide +kernel
theorem dX4_fault_13 : decode cX4_fault 13 = .ok (.ifCond .eq 35, 3) := by decide +kernel
theorem dX4_fault_16 : decode cX4_fault 16 = .ok (.aload_n 0, 1) := by decide +kernel
theorem dX4_fault_17 : decode cX4_fault 17 = .ok (.invokevirtual 120, 3) := by decide +kernel
theorem dX4_fault_20 : decode cX4_fault 20 = .ok (.ifCond .ne 8, 3) := by decide +kernel
theorem dX4_fault_23 : decode cX4_fault 23 = .ok (.aload_n 0, 1) := by decide +kernel
theorem dX4_fault_24 : decode cX4_fault 24 = .ok (.getfield 108, 3) := by decide +kernel
theorem dX4_fault_27 : decode cX4_fault 27 = .ok (.ireturn, 1) := by decide +kernel
theorem dX4_fault_28 : decode cX4_fault 28 = .ok (.aload_n 0, 1) := by decide +kernel
theorem dX4_fault_29 : decode cX4_fault 29 = .ok (.dup, 1) := by decide +kernel
theorem dX4_fault_30 : decode cX4_fault 30 = .ok (.getfield 83, 3) := by decide +kernel
theorem dX4_fault_33 : decode cX4_fault 33 = .ok (.iconst 1, 1) := by decide +kernel
theorem dX4_fault_34 : decode cX4_fault 34 = .ok (.iadd, 1) := by decide +kernel
theorem dX4_fault_35 : decode cX4_fault 35 = .ok (.putfield 83, 3) := by decide +kernel
theorem dX4_fault_38 : decode cX4_fault 38 = .ok (.aload_n 0, 1) := by decide +kernel
theorem dX4_fault_39 : decode cX4_fault 39 = .ok (.bipush 59, 2) := by decide +kernel
theorem dX4_fault_41 : decode cX4_fault 41 = .ok (.invokevirtual 114, 3) := by decide +kernel
theorem dX4_fault_44 : decode cX4_fault 44 = .ok (.istore_n 1, 1) := by decide +kernel
theorem dX4_fault_45 : decode cX4_fault 45 = .ok (.goto (-33), 3) := by decide +kernel
theorem dX4_fault_48 : decode cX4_fault 48 = .ok (.aload_n 0, 1) := by decide +kernel
theorem dX4_fault_49 : decode cX4_fault 49 = .ok (.getfield 108, 3) := by decide +kernel
theorem dX4_fault_52 : decode cX4_fault 52 = .ok (.aload_n 0, 1) := by decide +kernel
theorem dX4_fault_53 : decode cX4_fault 53 = .ok (.getfield 105, 3) := by decide +kernel
theorem dX4_fault_56 : decode cX4_fault 56 = .ok (.if_icmp .ne 8, 3) := by decide +kernel
theorem dX4_fault_59 : decode cX4_fault 59 = .ok (.bipush (-5), 2) := by decide +kernel
theorem dX4_fault_61 : decode cX4_fault 61 = .ok (.goto 7, 3) := by decide +kernel
theorem dX4_fault_64 : decode cX4_fault 64 = .ok (.aload_n 0, 1) := by decide +kernel
theorem dX4_fault_65 : decode cX4_fault 65 = .ok (.getfield 108, 3) := by decide +kernel
theorem dX4_fault_68 : decode cX4_fault 68 = .ok (.ireturn, 1) := by decide +kernel
theorem dX4_undo_0 : decode cX4_undo 0 = .ok (.aload_n 0, 1) := by decide +kernel
theorem dX4_undo_1 : decode cX4_undo 1 = .ok (.getfield 29, 3) := by decide +kernel
theorem dX4_undo_4 : decode cX4_undo 4 = .ok (.ifCond .ne 6, 3) := by decide +kernel
theorem dX4_undo_7 : decode cX4_undo 7 = .ok (.bipush (-5), 2) := by decide +kernel
theorem dX4_undo_9 : decode cX4_undo 9 = .ok (.ireturn, 1) := by decide +kernel
theorem dX4_undo_10 : decode cX4_undo 10 = .ok (.aload_n 0, 1) := by decide +kernel
theorem dX4_undo_11 : decode cX4_undo 11 = .ok (.dup, 1) := by decide +kernel
theorem dX4_undo_12 : decode cX4_undo 12 = .ok (.getfield 29, 3) := by decide +kernel
theorem dX4_undo_15 : decode cX4_undo 15 = .ok (.iconst 1, 1) := by decide +kernel
theorem dX4_undo_16 : decode cX4_undo 16 = .ok (.isub, 1) := by decide +kernel
theorem dX4_undo_17 : decode cX4_undo 17 = .ok (.putfield 29, 3) := by decide +kernel
theorem dX4_undo_20 : decode cX4_undo 20 = .ok (.aload_n 0, 1) := by decide +kernel
theorem dX4_undo_21 : decode cX4_undo 21 = .ok (.getfield 13, 3) := by decide +kernel
theorem dX4_undo_24 : decode cX4_undo 24 = .ok (.sipush 988, 3) := by decide +kernel
theorem dX4_undo_27 : decode cX4_undo 27 = .ok (.aload_n 0, 1) := by decide +kernel
theorem dX4_undo_28 : decode cX4_undo 28 = .ok (.getfield 29, 3) := by decide +kernel
theorem dX4_undo_31 : decode cX4_undo 31 = .ok (.imul, 1) := by decide +kernel
theorem dX4_undo_32 : decode cX4_undo 32 = .ok (.aload_n 0, 1) := by decide +kernel
theorem dX4_undo_33 : decode cX4_undo 33 = .ok (.getfield 7, 3) := by decide +kernel
theorem dX4_undo_36 : decode cX4_undo 36 = .ok (.iconst 0, 1) := by decide +kernel
theorem dX4_undo_37 : decode cX4_undo 37 = .ok (.invokestatic 33, 3) := by decide +kernel
theorem dX4_undo_40 : decode cX4_undo 40 = .ok (.aload_n 0, 1) := by decide +kernel
theorem dX4_undo_41 : decode cX4_undo 41 = .ok (.getfield 29, 3) := by decide +kernel
theorem dX4_undo_44 : decode cX4_undo 44 = .ok (.ireturn, 1) := by decide +kernel
theorem dX4_keep_0 : decode cX4_keep 0 = .ok (.aload_n 0, 1) := by decide +kernel
theorem dX4_keep_1 : decode cX4_keep 1 = .ok (.getfield 7, 3) := by decide +kernel
theorem dX4_keep_4 : decode cX4_keep 4 = .ok (.iconst 0, 1) := by decide +kernel
theorem dX4_keep_5 : decode cX4_keep 5 = .ok (.aload_n 0, 1) := by decide +kernel
theorem dX4_keep_6 : decode cX4_keep 6 = .ok (.getfield 16, 3) := by decide +kernel
theorem dX4_keep_9 : decode cX4_keep 9 = .ok (.iconst 0, 1) := by decide +kernel
theorem dX4_keep_10 : decode cX4_keep 10 = .ok (.invokestatic 33, 3) := by decide +kernel
theorem dX4_keep_13 : decode cX4_keep 13 = .ok (.aload_n 0, 1) := by decide +kernel
theorem dX4_keep_14 : decode cX4_keep 14 = .ok (.iconst 1, 1) := by decide +kernel
theorem dX4_keep_15 : decode cX4_keep 15 = .ok (.putfield 124, 3) := by decide +kernel
theorem dX4_keep_18 : decode cX4_keep 18 = .ok (.aload_n 0, 1) := by decide +kernel
theorem dX4_keep_19 : decode cX4_keep 19 = .ok (.getfield 7, 3) := by decide +kernel
theorem dX4_keep_22 : decode cX4_keep 22 = .ok (.iconst 0, 1) := by decide +kernel
theorem dX4_keep_23 : decode cX4_keep 23 = .ok (.iaload, 1) := by decide +kernel
theorem dX4_keep_24 : decode cX4_keep 24 = .ok (.ireturn, 1) := by decide +kernel
theorem dX4_restore_0 : decode cX4_restore 0 = .ok (.aload_n 0, 1) := by decide +kernel
theorem dX4_restore_1 : decode cX4_restore 1 = .ok (.getfield 124, 3) := by decide +kernel
theorem dX4_restore_4 : decode cX4_restore 4 = .ok (.ifCond .ne 6, 3) := by decide +kernel
theorem dX4_restore_7 : decode cX4_restore 7 = .ok (.bipush (-5), 2) := by decide +kernel
theorem dX4_restore_9 : decode cX4_restore 9 = .ok (.ireturn, 1) := by decide +kernel
theorem dX4_restore_10 : decode cX4_restore 10 = .ok (.aload_n 0, 1) := by decide +kernel
theorem dX4_restore_11 : decode cX4_restore 11 = .ok (.invokevirtual 72, 3) := by decide +kernel
theorem dX4_restore_14 : decode cX4_restore 14 = .ok (.aload_n 0, 1) := by decide +kernel
theorem dX4_restore_15 : decode cX4_restore 15 = .ok (.getfield 16, 3) := by decide +kernel
theorem dX4_restore_18 : decode cX4_restore 18 = .ok (.iconst 0, 1) := by decide +kernel
theorem dX4_restore_19 : decode cX4_restore 19 = .ok (.aload_n 0, 1) := by decide +kernel
theorem dX4_restore_20 : decode cX4_restore 20 = .ok (.getfield 7, 3) := by decide +kernel
theorem dX4_restore_23 : decode cX4_restore 23 = .ok (.iconst 0, 1) := by decide +kernel
theorem dX4_restore_24 : decode cX4_restore 24 = .ok (.invokestatic 33, 3) := by decide +kernel
theorem dX4_restore_27 : decode cX4_restore 27 = .ok (.aload_n 0, 1) := by decide +kernel
theorem dX4_restore_28 : decode cX4_restore 28 = .ok (.getfield 7, 3) := by decide +kernel
theorem dX4_restore_31 : decode cX4_restore 31 = .ok (.iconst 0, 1) := by decide +kernel
theorem dX4_restore_32 : decode cX4_restore 32 = .ok (.iaload, 1) := by decide +kernel
theorem dX4_restore_33 : decode cX4_restore 33 = .ok (.ireturn, 1) := by decide +kernel
theorem dX4_cell_0 : decode cX4_cell 0 = .ok (.aload_n 0, 1) := by decide +kernel
theorem dX4_cell_1 : decode cX4_cell 1 = .ok (.iload_n 1, 1) := by decide +kernel
theorem dX4_cell_2 : decode cX4_cell 2 = .ok (.iload_n 2, 1) := by decide +kernel
theorem dX4_cell_3 : decode cX4_cell 3 = .ok (.invokevirtual 93, 3) := by decide +kernel
theorem dX4_cell_6 : decode cX4_cell 6 = .ok (.ifCond .ne 5, 3) := by decide +kernel
theorem dX4_cell_9 : decode cX4_cell 9 = .ok (.iconst (-1), 1) := by decide +kernel
theorem dX4_cell_10 : decode cX4_cell 10 = .ok (.ireturn, 1) := by decide +kernel
theorem dX4_cell_11 : decode cX4_cell 11 = .ok (.iload_n 3, 1) := by decide +kernel
theorem dX4_cell_12 : decode cX4_cell 12 = .ok (.tableswitch 90 0 5 #[40, 47, 54, 61, 68, 83], 40) := by decide +kernel
theorem dX4_cell_52 : decode cX4_cell 52 = .ok (.aload_n 0, 1) := by decide +kernel
theorem dX4_cell_53 : decode cX4_cell 53 = .ok (.iload_n 1, 1) := by decide +kernel
theorem dX4_cell_54 : decode cX4_cell 54 = .ok (.iload_n 2, 1) := by decide +kernel
theorem dX4_cell_55 : decode cX4_cell 55 = .ok (.invokevirtual 90, 3) := by decide +kernel
theorem dX4_cell_58 : decode cX4_cell 58 = .ok (.ireturn, 1) := by decide +kernel
theorem dX4_cell_59 : decode cX4_cell 59 = .ok (.aload_n 0, 1) := by decide +kernel
theorem dX4_cell_60 : decode cX4_cell 60 = .ok (.iload_n 1, 1) := by decide +kernel
theorem dX4_cell_61 : decode cX4_cell 61 = .ok (.iload_n 2, 1) := by decide +kernel
theorem dX4_cell_62 : decode cX4_cell 62 = .ok (.invokevirtual 128, 3) := by decide +kernel
theorem dX4_cell_65 : decode cX4_cell 65 = .ok (.ireturn, 1) := by decide +kernel
theorem dX4_cell_66 : decode cX4_cell 66 = .ok (.aload_n 0, 1) := by decide +kernel
theorem dX4_cell_67 : decode cX4_cell 67 = .ok (.iload_n 1, 1) := by decide +kernel
theorem dX4_cell_68 : decode cX4_cell 68 = .ok (.iload_n 2, 1) := by decide +kernel
theorem dX4_cell_69 : decode cX4_cell 69 = .ok (.invokevirtual 56, 3) := by decide +kernel
theorem dX4_cell_72 : decode cX4_cell 72 = .ok (.ireturn, 1) := by decide +kernel
theorem dX4_cell_73 : decode cX4_cell 73 = .ok (.aload_n 0, 1) := by decide +kernel
theorem dX4_cell_74 : decode cX4_cell 74 = .ok (.iload_n 1, 1) := by decide +kernel
theorem dX4_cell_75 : decode cX4_cell 75 = .ok (.iload_n 2, 1) := by decide +kernel
theorem dX4_cell_76 : decode cX4_cell 76 = .ok (.invokevirtual 131, 3) := by decide +kernel
theorem dX4_cell_79 : decode cX4_cell 79 = .ok (.ireturn, 1) := by decide +kernel
theorem dX4_cell_80 : decode cX4_cell 80 = .ok (.aload_n 0, 1) := by decide +kernel
theorem dX4_cell_81 : decode cX4_cell 81 = .ok (.iload_n 1, 1) := by decide +kernel
theorem dX4_cell_82 : decode cX4_cell 82 = .ok (.iload_n 2, 1) := by decide +kernel
theorem dX4_cell_83 : decode cX4_cell 83 = .ok (.invokevirtual 134, 3) := by decide +kernel
theorem dX4_cell_86 : decode cX4_cell 86 = .ok (.ifCond .eq 7, 3) := by decide +kernel
theorem dX4_cell_89 : decode cX4_cell 89 = .ok (.iconst 1, 1) := by decide +kernel
theorem dX4_cell_90 : decode cX4_cell 90 = .ok (.goto 4, 3) := by decide +kernel
theorem dX4_cell_93 : decode cX4_cell 93 = .ok (.iconst 0, 1) := by decide +kernel
theorem dX4_cell_94 : decode cX4_cell 94 = .ok (.ireturn, 1) := by decide +kernel
theorem dX4_cell_95 : decode cX4_cell 95 = .ok (.aload_n 0, 1) := by decide +kernel
theorem dX4_cell_96 : decode cX4_cell 96 = .ok (.iload_n 1, 1) := by decide +kernel
theorem dX4_cell_97 : decode cX4_cell 97 = .ok (.iload_n 2, 1) := by decide +kernel
theorem dX4_cell_98 : decode cX4_cell 98 = .ok (.invokevirtual 137, 3) := by decide +kernel
theorem dX4_cell_101 : decode cX4_cell 101 = .ok (.ireturn, 1) := by decide +kernel
theorem dX4_cell_102 : decode cX4_cell 102 = .ok (.bipush (-2), 2) := by decide +kernel
theorem dX4_cell_104 : decode cX4_cell 104 = .ok (.ireturn, 1) := by decide +kernel
theorem dX4_entry_0 : decode cX4_entry 0 = .ok (.aload_n 0, 1) := by decide +kernel
theorem dX4_entry_1 : decode cX4_entry 1 = .ok (.iload_n 1, 1) := by decide +kernel
theorem dX4_entry_2 : decode cX4_entry 2 = .ok (.iload_n 2, 1) := by decide +kernel
theorem dX4_entry_3 : decode cX4_entry 3 = .ok (.invokevirtual 93, 3) := by decide +kernel
theorem dX4_entry_6 : decode cX4_entry 6 = .ok (.ifCond .ne 5, 3) := by decide +kernel
theorem dX4_entry_9 : decode cX4_entry 9 = .ok (.iconst (-1), 1) := by decide +kernel
theorem dX4_entry_10 : decode cX4_entry 10 = .ok (.ireturn, 1) := by decide +kernel
theorem dX4_entry_11 : decode cX4_entry 11 = .ok (.iload_n 3, 1) := by decide +kernel
theorem dX4_entry_12 : decode cX4_entry 12 = .ok (.iconst 0, 1) := by decide +kernel
theorem dX4_entry_13 : decode cX4_entry 13 = .ok (.aload_n 0, 1) := by decide +kernel
theorem dX4_entry_14 : decode cX4_entry 14 = .ok (.iload_n 1, 1) := by decide +kernel
theorem dX4_entry_15 : decode cX4_entry 15 = .ok (.iload_n 2, 1) := by decide +kernel
theorem dX4_entry_16 : decode cX4_entry 16 = .ok (.invokevirtual 56, 3) := by decide +kernel
theorem dX4_entry_19 : decode cX4_entry 19 = .ok (.iconst 1, 1) := by decide +kernel
theorem dX4_entry_20 : decode cX4_entry 20 = .ok (.isub, 1) := by decide +kernel
theorem dX4_entry_21 : decode cX4_entry 21 = .ok (.invokestatic 37, 3) := by decide +kernel
theorem dX4_entry_24 : decode cX4_entry 24 = .ok (.ifCond .eq 20, 3) := by decide +kernel
theorem dX4_entry_27 : decode cX4_entry 27 = .ok (.aload_n 0, 1) := by decide +kernel
theorem dX4_entry_28 : decode cX4_entry 28 = .ok (.getfield 7, 3) := by decide +kernel
theorem dX4_entry_31 : decode cX4_entry 31 = .ok (.iload_n 1, 1) := by decide +kernel
theorem dX4_entry_32 : decode cX4_entry 32 = .ok (.iload_n 2, 1) := by decide +kernel
theorem dX4_entry_33 : decode cX4_entry 33 = .ok (.invokestatic 52, 3) := by decide +kernel
theorem dX4_entry_36 : decode cX4_entry 36 = .ok (.iconst 1, 1) := by decide +kernel
theorem dX4_entry_37 : decode cX4_entry 37 = .ok (.iadd, 1) := by decide +kernel
theorem dX4_entry_38 : decode cX4_entry 38 = .ok (.iload_n 3, 1) := by decide +kernel
theorem dX4_entry_39 : decode cX4_entry 39 = .ok (.iadd, 1) := by decide +kernel
theorem dX4_entry_40 : decode cX4_entry 40 = .ok (.iaload, 1) := by decide +kernel
theorem dX4_entry_41 : decode cX4_entry 41 = .ok (.goto 5, 3) := by decide +kernel
theorem dX4_entry_44 : decode cX4_entry 44 = .ok (.bipush (-2), 2) := by decide +kernel
theorem dX4_entry_46 : decode cX4_entry 46 = .ok (.ireturn, 1) := by decide +kernel
theorem dX4_written_0 : decode cX4_written 0 = .ok (.iconst 1, 1) := by decide +kernel
theorem dX4_written_1 : decode cX4_written 1 = .ok (.istore_n 2, 1) := by decide +kernel
theorem dX4_written_2 : decode cX4_written 2 = .ok (.iconst 0, 1) := by decide +kernel
theorem dX4_written_3 : decode cX4_written 3 = .ok (.istore_n 3, 1) := by decide +kernel
theorem dX4_written_4 : decode cX4_written 4 = .ok (.iload_n 3, 1) := by decide +kernel
theorem dX4_written_5 : decode cX4_written 5 = .ok (.iconst 4, 1) := by decide +kernel
theorem dX4_written_6 : decode cX4_written 6 = .ok (.if_icmp .ge 28, 3) := by decide +kernel
theorem dX4_written_9 : decode cX4_written 9 = .ok (.iload_n 2, 1) := by decide +kernel
theorem dX4_written_10 : decode cX4_written 10 = .ok (.ifCond .eq 16, 3) := by decide +kernel
theorem dX4_written_13 : decode cX4_written 13 = .ok (.aload_n 0, 1) := by decide +kernel
theorem dX4_written_14 : decode cX4_written 14 = .ok (.iload_n 1, 1) := by decide +kernel
theorem dX4_written_15 : decode cX4_written 15 = .ok (.iload_n 3, 1) := by decide +kernel
theorem dX4_written_16 : decode cX4_written 16 = .ok (.invokevirtual 59, 3) := by decide +kernel
theorem dX4_written_19 : decode cX4_written 19 = .ok (.ifCond .lt 7, 3) := by decide +kernel
theorem dX4_written_22 : decode cX4_written 22 = .ok (.iconst 1, 1) := by decide +kernel
theorem dX4_written_23 : decode cX4_written 23 = .ok (.goto 4, 3) := by decide +kernel
theorem dX4_written_26 : decode cX4_written 26 = .ok (.iconst 0, 1) := by decide +kernel
theorem dX4_written_27 : decode cX4_written 27 = .ok (.istore_n 2, 1) := by decide +kernel
theorem dX4_written_28 : decode cX4_written 28 = .ok (.iinc 3 1, 3) := by decide +kernel
theorem dX4_written_31 : decode cX4_written 31 = .ok (.goto (-27), 3) := by decide +kernel
theorem dX4_written_34 : decode cX4_written 34 = .ok (.iload_n 2, 1) := by decide +kernel
theorem dX4_written_35 : decode cX4_written 35 = .ok (.ifCond .eq 7, 3) := by decide +kernel
theorem dX4_written_38 : decode cX4_written 38 = .ok (.iconst 1, 1) := by decide +kernel
theorem dX4_written_39 : decode cX4_written 39 = .ok (.goto 4, 3) := by decide +kernel
theorem dX4_written_42 : decode cX4_written 42 = .ok (.iconst 0, 1) := by decide +kernel
theorem dX4_written_43 : decode cX4_written 43 = .ok (.ireturn, 1) := by decide +kernel
theorem dX4_isWritten_0 : decode cX4_isWritten 0 = .ok (.aload_n 0, 1) := by decide +kernel
theorem dX4_isWritten_1 : decode cX4_isWritten 1 = .ok (.iload_n 1, 1) := by decide +kernel
theorem dX4_isWritten_2 : decode cX4_isWritten 2 = .ok (.invokevirtual 41, 3) := by decide +kernel
theorem dX4_isWritten_5 : decode cX4_isWritten 5 = .ok (.ifCond .eq 11, 3) := by decide +kernel
theorem dX4_isWritten_8 : decode cX4_isWritten 8 = .ok (.aload_n 0, 1) := by decide +kernel
theorem dX4_isWritten_9 : decode cX4_isWritten 9 = .ok (.iload_n 1, 1) := by decide +kernel
theorem dX4_isWritten_10 : decode cX4_isWritten 10 = .ok (.invokevirtual 140, 3) := by decide +kernel
theorem dX4_isWritten_13 : decode cX4_isWritten 13 = .ok (.goto 4, 3) := by decide +kernel
theorem dX4_isWritten_16 : decode cX4_isWritten 16 = .ok (.iconst (-1), 1) := by decide +kernel
theorem dX4_isWritten_17 : decode cX4_isWritten 17 = .ok (.ireturn, 1) := by decide +kernel
theorem dX4_withLatest_0 : decode cX4_withLatest 0 = .ok (.iconst 0, 1) := by decide +kernel
theorem dX4_withLatest_1 : decode cX4_withLatest 1 = .ok (.istore_n 3, 1) := by decide +kernel
theorem dX4_withLatest_2 : decode cX4_withLatest 2 = .ok (.iconst 0, 1) := by decide +kernel
theorem dX4_withLatest_3 : decode cX4_withLatest 3 = .ok (.istore 4, 2) := by decide +kernel
theorem dX4_withLatest_5 : decode cX4_withLatest 5 = .ok (.iload 4, 2) := by decide +kernel
theorem dX4_withLatest_7 : decode cX4_withLatest 7 = .ok (.aload_n 0, 1) := by decide +kernel
theorem dX4_withLatest_8 : decode cX4_withLatest 8 = .ok (.getfield 7, 3) := by decide +kernel
theorem dX4_withLatest_11 : decode cX4_withLatest 11 = .ok (.iconst 0, 1) := by decide +kernel
theorem dX4_withLatest_12 : decode cX4_withLatest 12 = .ok (.iaload, 1) := by decide +kernel
theorem dX4_withLatest_13 : decode cX4_withLatest 13 = .ok (.if_icmp .ge 28, 3) := by decide +kernel
theorem dX4_withLatest_16 : decode cX4_withLatest 16 = .ok (.iload_n 3, 1) := by decide +kernel
theorem dX4_withLatest_17 : decode cX4_withLatest 17 = .ok (.aload_n 0, 1) := by decide +kernel
theorem dX4_withLatest_18 : decode cX4_withLatest 18 = .ok (.iload 4, 2) := by decide +kernel
theorem dX4_withLatest_20 : decode cX4_withLatest 20 = .ok (.iload_n 1, 1) := by decide +kernel
theorem dX4_withLatest_21 : decode cX4_withLatest 21 = .ok (.invokevirtual 59, 3) := by decide +kernel
theorem dX4_withLatest_24 : decode cX4_withLatest 24 = .ok (.iload_n 2, 1) := by decide +kernel
theorem dX4_withLatest_25 : decode cX4_withLatest 25 = .ok (.if_icmp .ne 7, 3) := by decide +kernel
theorem dX4_withLatest_28 : decode cX4_withLatest 28 = .ok (.iconst 1, 1) := by decide +kernel
theorem dX4_withLatest_29 : decode cX4_withLatest 29 = .ok (.goto 4, 3) := by decide +kernel
theorem dX4_withLatest_32 : decode cX4_withLatest 32 = .ok (.iconst 0, 1) := by decide +kernel
theorem dX4_withLatest_33 : decode cX4_withLatest 33 = .ok (.iadd, 1) := by decide +kernel
theorem dX4_withLatest_34 : decode cX4_withLatest 34 = .ok (.istore_n 3, 1) := by decide +kernel
theorem dX4_withLatest_35 : decode cX4_withLatest 35 = .ok (.iinc 4 1, 3) := by decide +kernel
theorem dX4_withLatest_38 : decode cX4_withLatest 38 = .ok (.goto (-33), 3) := by decide +kernel
theorem dX4_withLatest_41 : decode cX4_withLatest 41 = .ok (.iload_n 3, 1) := by decide +kernel
theorem dX4_withLatest_42 : decode cX4_withLatest 42 = .ok (.ireturn, 1) := by decide +kernel
theorem dX4_corrections_0 : decode cX4_corrections 0 = .ok (.iconst 0, 1) := by decide +kernel
theorem dX4_corrections_1 : decode cX4_corrections 1 = .ok (.istore_n 2, 1) := by decide +kernel
theorem dX4_corrections_2 : decode cX4_corrections 2 = .ok (.iconst 0, 1) := by decide +kernel
theorem dX4_corrections_3 : decode cX4_corrections 3 = .ok (.istore_n 3, 1) := by decide +kernel
theorem dX4_corrections_4 : decode cX4_corrections 4 = .ok (.iload_n 3, 1) := by decide +kernel
theorem dX4_corrections_5 : decode cX4_corrections 5 = .ok (.aload_n 0, 1) := by decide +kernel
theorem dX4_corrections_6 : decode cX4_corrections 6 = .ok (.getfield 7, 3) := by decide +kernel
theorem dX4_corrections_9 : decode cX4_corrections 9 = .ok (.iconst 0, 1) := by decide +kernel
theorem dX4_corrections_10 : decode cX4_corrections 10 = .ok (.iaload, 1) := by decide +kernel
theorem dX4_corrections_11 : decode cX4_corrections 11 = .ok (.if_icmp .ge 20, 3) := by decide +kernel
theorem dX4_corrections_14 : decode cX4_corrections 14 = .ok (.iload_n 2, 1) := by decide +kernel
theorem dX4_corrections_15 : decode cX4_corrections 15 = .ok (.aload_n 0, 1) := by decide +kernel
theorem dX4_corrections_16 : decode cX4_corrections 16 = .ok (.iload_n 3, 1) := by decide +kernel
theorem dX4_corrections_17 : decode cX4_corrections 17 = .ok (.iload_n 1, 1) := by decide +kernel
theorem dX4_corrections_18 : decode cX4_corrections 18 = .ok (.invokevirtual 56, 3) := by decide +kernel
theorem dX4_corrections_21 : decode cX4_corrections 21 = .ok (.iconst 1, 1) := by decide +kernel
theorem dX4_corrections_22 : decode cX4_corrections 22 = .ok (.isub, 1) := by decide +kernel
theorem dX4_corrections_23 : decode cX4_corrections 23 = .ok (.iadd, 1) := by decide +kernel
theorem dX4_corrections_24 : decode cX4_corrections 24 = .ok (.istore_n 2, 1) := by decide +kernel
theorem dX4_corrections_25 : decode cX4_corrections 25 = .ok (.iinc 3 1, 3) := by decide +kernel
theorem dX4_corrections_28 : decode cX4_corrections 28 = .ok (.goto (-24), 3) := by decide +kernel
theorem dX4_corrections_31 : decode cX4_corrections 31 = .ok (.iload_n 2, 1) := by decide +kernel
theorem dX4_corrections_32 : decode cX4_corrections 32 = .ok (.ireturn, 1) := by decide +kernel
theorem dX4_meaning_0 : decode cX4_meaning 0 = .ok (.iconst 0, 1) := by decide +kernel
theorem dX4_meaning_1 : decode cX4_meaning 1 = .ok (.istore 5, 2) := by decide +kernel
theorem dX4_meaning_3 : decode cX4_meaning 3 = .ok (.iload_n 1, 1) := by decide +kernel
theorem dX4_meaning_4 : decode cX4_meaning 4 = .ok (.istore 6, 2) := by decide +kernel
theorem dX4_meaning_6 : decode cX4_meaning 6 = .ok (.iload 6, 2) := by decide +kernel
theorem dX4_meaning_8 : decode cX4_meaning 8 = .ok (.iload_n 2, 1) := by decide +kernel
theorem dX4_meaning_9 : decode cX4_meaning 9 = .ok (.if_icmp .gt 31, 3) := by decide +kernel
theorem dX4_meaning_12 : decode cX4_meaning 12 = .ok (.iload 5, 2) := by decide +kernel
theorem dX4_meaning_14 : decode cX4_meaning 14 = .ok (.aload_n 0, 1) := by decide +kernel
theorem dX4_meaning_15 : decode cX4_meaning 15 = .ok (.iload 6, 2) := by decide +kernel
theorem dX4_meaning_17 : decode cX4_meaning 17 = .ok (.iload_n 3, 1) := by decide +kernel
theorem dX4_meaning_18 : decode cX4_meaning 18 = .ok (.invokevirtual 90, 3) := by decide +kernel
theorem dX4_meaning_21 : decode cX4_meaning 21 = .ok (.iload 4, 2) := by decide +kernel
theorem dX4_meaning_23 : decode cX4_meaning 23 = .ok (.if_icmp .ne 7, 3) := by decide +kernel
theorem dX4_meaning_26 : decode cX4_meaning 26 = .ok (.iconst 1, 1) := by decide +kernel
theorem dX4_meaning_27 : decode cX4_meaning 27 = .ok (.goto 4, 3) := by decide +kernel
theorem dX4_meaning_30 : decode cX4_meaning 30 = .ok (.iconst 0, 1) := by decide +kernel
theorem dX4_meaning_31 : decode cX4_meaning 31 = .ok (.iadd, 1) := by decide +kernel
theorem dX4_meaning_32 : decode cX4_meaning 32 = .ok (.istore 5, 2) := by decide +kernel
theorem dX4_meaning_34 : decode cX4_meaning 34 = .ok (.iinc 6 1, 3) := by decide +kernel
theorem dX4_meaning_37 : decode cX4_meaning 37 = .ok (.goto (-31), 3) := by decide +kernel
theorem dX4_meaning_40 : decode cX4_meaning 40 = .ok (.iload 5, 2) := by decide +kernel
theorem dX4_meaning_42 : decode cX4_meaning 42 = .ok (.ireturn, 1) := by decide +kernel
theorem dX4_longest_0 : decode cX4_longest 0 = .ok (.iconst 0, 1) := by decide +kernel
theorem dX4_longest_1 : decode cX4_longest 1 = .ok (.istore_n 2, 1) := by decide +kernel
theorem dX4_longest_2 : decode cX4_longest 2 = .ok (.iconst 0, 1) := by decide +kernel
theorem dX4_longest_3 : decode cX4_longest 3 = .ok (.istore_n 3, 1) := by decide +kernel
theorem dX4_longest_4 : decode cX4_longest 4 = .ok (.iload_n 3, 1) := by decide +kernel
theorem dX4_longest_5 : decode cX4_longest 5 = .ok (.aload_n 0, 1) := by decide +kernel
theorem dX4_longest_6 : decode cX4_longest 6 = .ok (.getfield 7, 3) := by decide +kernel
theorem dX4_longest_9 : decode cX4_longest 9 = .ok (.iconst 0, 1) := by decide +kernel
theorem dX4_longest_10 : decode cX4_longest 10 = .ok (.iaload, 1) := by decide +kernel
theorem dX4_longest_11 : decode cX4_longest 11 = .ok (.if_icmp .ge 30, 3) := by decide +kernel
theorem dX4_longest_14 : decode cX4_longest 14 = .ok (.aload_n 0, 1) := by decide +kernel
theorem dX4_longest_15 : decode cX4_longest 15 = .ok (.iload_n 3, 1) := by decide +kernel
theorem dX4_longest_16 : decode cX4_longest 16 = .ok (.iload_n 1, 1) := by decide +kernel
theorem dX4_longest_17 : decode cX4_longest 17 = .ok (.invokevirtual 131, 3) := by decide +kernel
theorem dX4_longest_20 : decode cX4_longest 20 = .ok (.iload_n 2, 1) := by decide +kernel
theorem dX4_longest_21 : decode cX4_longest 21 = .ok (.if_icmp .le 12, 3) := by decide +kernel
theorem dX4_longest_24 : decode cX4_longest 24 = .ok (.aload_n 0, 1) := by decide +kernel
theorem dX4_longest_25 : decode cX4_longest 25 = .ok (.iload_n 3, 1) := by decide +kernel
theorem dX4_longest_26 : decode cX4_longest 26 = .ok (.iload_n 1, 1) := by decide +kernel
theorem dX4_longest_27 : decode cX4_longest 27 = .ok (.invokevirtual 131, 3) := by decide +kernel
theorem dX4_longest_30 : decode cX4_longest 30 = .ok (.goto 4, 3) := by decide +kernel
theorem dX4_longest_33 : decode cX4_longest 33 = .ok (.iload_n 2, 1) := by decide +kernel
theorem dX4_longest_34 : decode cX4_longest 34 = .ok (.istore_n 2, 1) := by decide +kernel
theorem dX4_longest_35 : decode cX4_longest 35 = .ok (.iinc 3 1, 3) := by decide +kernel
theorem dX4_longest_38 : decode cX4_longest 38 = .ok (.goto (-34), 3) := by decide +kernel
theorem dX4_longest_41 : decode cX4_longest 41 = .ok (.iload_n 2, 1) := by decide +kernel
theorem dX4_longest_42 : decode cX4_longest 42 = .ok (.ireturn, 1) := by decide +kernel
theorem dX4_commonest_0 : decode cX4_commonest 0 = .ok (.bipush (-5), 2) := by decide +kernel
theorem dX4_commonest_2 : decode cX4_commonest 2 = .ok (.istore 4, 2) := by decide +kernel
theorem dX4_commonest_4 : decode cX4_commonest 4 = .ok (.iconst 0, 1) := by decide +kernel
theorem dX4_commonest_5 : decode cX4_commonest 5 = .ok (.istore 5, 2) := by decide +kernel
theorem dX4_commonest_7 : decode cX4_commonest 7 = .ok (.iconst 0, 1) := by decide +kernel
theorem dX4_commonest_8 : decode cX4_commonest 8 = .ok (.istore 6, 2) := by decide +kernel
theorem dX4_commonest_10 : decode cX4_commonest 10 = .ok (.iload 6, 2) := by decide +kernel
theorem dX4_commonest_12 : decode cX4_commonest 12 = .ok (.iload_n 3, 1) := by decide +kernel
theorem dX4_commonest_13 : decode cX4_commonest 13 = .ok (.invokestatic 48, 3) := by decide +kernel
theorem dX4_commonest_16 : decode cX4_commonest 16 = .ok (.if_icmp .gt 52, 3) := by decide +kernel
theorem dX4_commonest_19 : decode cX4_commonest 19 = .ok (.aload_n 0, 1) := by decide +kernel
theorem dX4_commonest_20 : decode cX4_commonest 20 = .ok (.iload_n 1, 1) := by decide +kernel
theorem dX4_commonest_21 : decode cX4_commonest 21 = .ok (.iload_n 2, 1) := by decide +kernel
theorem dX4_commonest_22 : decode cX4_commonest 22 = .ok (.iload_n 3, 1) := by decide +kernel
theorem dX4_commonest_23 : decode cX4_commonest 23 = .ok (.iload 6, 2) := by decide +kernel
theorem dX4_commonest_25 : decode cX4_commonest 25 = .ok (.invokevirtual 143, 3) := by decide +kernel
theorem dX4_commonest_28 : decode cX4_commonest 28 = .ok (.istore 7, 2) := by decide +kernel
theorem dX4_commonest_30 : decode cX4_commonest 30 = .ok (.iload 7, 2) := by decide +kernel
theorem dX4_commonest_32 : decode cX4_commonest 32 = .ok (.iload 5, 2) := by decide +kernel
theorem dX4_commonest_34 : decode cX4_commonest 34 = .ok (.if_icmp .le 8, 3) := by decide +kernel
theorem dX4_commonest_37 : decode cX4_commonest 37 = .ok (.iload 6, 2) := by decide +kernel
theorem dX4_commonest_39 : decode cX4_commonest 39 = .ok (.goto 5, 3) := by decide +kernel
theorem dX4_commonest_42 : decode cX4_commonest 42 = .ok (.iload 4, 2) := by decide +kernel
theorem dX4_commonest_44 : decode cX4_commonest 44 = .ok (.istore 4, 2) := by decide +kernel
theorem dX4_commonest_46 : decode cX4_commonest 46 = .ok (.iload 7, 2) := by decide +kernel
theorem dX4_commonest_48 : decode cX4_commonest 48 = .ok (.iload 5, 2) := by decide +kernel
theorem dX4_commonest_50 : decode cX4_commonest 50 = .ok (.if_icmp .le 8, 3) := by decide +kernel
theorem dX4_commonest_53 : decode cX4_commonest 53 = .ok (.iload 7, 2) := by decide +kernel
theorem dX4_commonest_55 : decode cX4_commonest 55 = .ok (.goto 5, 3) := by decide +kernel
theorem dX4_commonest_58 : decode cX4_commonest 58 = .ok (.iload 5, 2) := by decide +kernel
theorem dX4_commonest_60 : decode cX4_commonest 60 = .ok (.istore 5, 2) := by decide +kernel
theorem dX4_commonest_62 : decode cX4_commonest 62 = .ok (.iinc 6 1, 3) := by decide +kernel
theorem dX4_commonest_65 : decode cX4_commonest 65 = .ok (.goto (-55), 3) := by decide +kernel
theorem dX4_commonest_68 : decode cX4_commonest 68 = .ok (.iload 4, 2) := by decide +kernel
theorem dX4_commonest_70 : decode cX4_commonest 70 = .ok (.ireturn, 1) := by decide +kernel
theorem dX4_doubtful_0 : decode cX4_doubtful 0 = .ok (.iconst 0, 1) := by decide +kernel
theorem dX4_doubtful_1 : decode cX4_doubtful 1 = .ok (.istore 4, 2) := by decide +kernel
theorem dX4_doubtful_3 : decode cX4_doubtful 3 = .ok (.iload_n 1, 1) := by decide +kernel
theorem dX4_doubtful_4 : decode cX4_doubtful 4 = .ok (.istore 5, 2) := by decide +kernel
theorem dX4_doubtful_6 : decode cX4_doubtful 6 = .ok (.iload 5, 2) := by decide +kernel
theorem dX4_doubtful_8 : decode cX4_doubtful 8 = .ok (.iload_n 2, 1) := by decide +kernel
theorem dX4_doubtful_9 : decode cX4_doubtful 9 = .ok (.if_icmp .gt 29, 3) := by decide +kernel
theorem dX4_doubtful_12 : decode cX4_doubtful 12 = .ok (.iload 4, 2) := by decide +kernel
theorem dX4_doubtful_14 : decode cX4_doubtful 14 = .ok (.aload_n 0, 1) := by decide +kernel
theorem dX4_doubtful_15 : decode cX4_doubtful 15 = .ok (.iload 5, 2) := by decide +kernel
theorem dX4_doubtful_17 : decode cX4_doubtful 17 = .ok (.iload_n 3, 1) := by decide +kernel
theorem dX4_doubtful_18 : decode cX4_doubtful 18 = .ok (.invokevirtual 134, 3) := by decide +kernel
theorem dX4_doubtful_21 : decode cX4_doubtful 21 = .ok (.ifCond .eq 7, 3) := by decide +kernel
theorem dX4_doubtful_24 : decode cX4_doubtful 24 = .ok (.iconst 1, 1) := by decide +kernel
theorem dX4_doubtful_25 : decode cX4_doubtful 25 = .ok (.goto 4, 3) := by decide +kernel
theorem dX4_doubtful_28 : decode cX4_doubtful 28 = .ok (.iconst 0, 1) := by decide +kernel
theorem dX4_doubtful_29 : decode cX4_doubtful 29 = .ok (.iadd, 1) := by decide +kernel
theorem dX4_doubtful_30 : decode cX4_doubtful 30 = .ok (.istore 4, 2) := by decide +kernel
theorem dX4_doubtful_32 : decode cX4_doubtful 32 = .ok (.iinc 5 1, 3) := by decide +kernel
theorem dX4_doubtful_35 : decode cX4_doubtful 35 = .ok (.goto (-29), 3) := by decide +kernel
theorem dX4_doubtful_38 : decode cX4_doubtful 38 = .ok (.iload 4, 2) := by decide +kernel
theorem dX4_doubtful_40 : decode cX4_doubtful 40 = .ok (.ireturn, 1) := by decide +kernel
theorem dX4_column_0 : decode cX4_column 0 = .ok (.iload_n 1, 1) := by decide +kernel
theorem dX4_column_1 : decode cX4_column 1 = .ok (.invokestatic 45, 3) := by decide +kernel
theorem dX4_column_4 : decode cX4_column 4 = .ok (.ifCond .ne 5, 3) := by decide +kernel
theorem dX4_column_7 : decode cX4_column 7 = .ok (.iconst (-1), 1) := by decide +kernel
theorem dX4_column_8 : decode cX4_column 8 = .ok (.ireturn, 1) := by decide +kernel
theorem dX4_column_9 : decode cX4_column 9 = .ok (.aload_n 0, 1) := by decide +kernel
theorem dX4_column_10 : decode cX4_column 10 = .ok (.getfield 7, 3) := by decide +kernel
theorem dX4_column_13 : decode cX4_column 13 = .ok (.iconst 0, 1) := by decide +kernel
theorem dX4_column_14 : decode cX4_column 14 = .ok (.iaload, 1) := by decide +kernel
theorem dX4_column_15 : decode cX4_column 15 = .ok (.iconst 1, 1) := by decide +kernel
theorem dX4_column_16 : decode cX4_column 16 = .ok (.isub, 1) := by decide +kernel
theorem dX4_column_17 : decode cX4_column 17 = .ok (.istore_n 3, 1) := by decide +kernel
theorem dX4_column_18 : decode cX4_column 18 = .ok (.iload_n 2, 1) := by decide +kernel
theorem dX4_column_19 : decode cX4_column 19 = .ok (.tableswitch 95 0 6 #[41, 49, 57, 63, 73, 79, 87], 41) := by decide +kernel
theorem dX4_column_60 : decode cX4_column 60 = .ok (.aload_n 0, 1) := by decide +kernel
theorem dX4_column_61 : decode cX4_column 61 = .ok (.iload_n 1, 1) := by decide +kernel
theorem dX4_column_62 : decode cX4_column 62 = .ok (.bipush (-6), 2) := by decide +kernel
theorem dX4_column_64 : decode cX4_column 64 = .ok (.invokevirtual 147, 3) := by decide +kernel
theorem dX4_column_67 : decode cX4_column 67 = .ok (.ireturn, 1) := by decide +kernel
theorem dX4_column_68 : decode cX4_column 68 = .ok (.aload_n 0, 1) := by decide +kernel
theorem dX4_column_69 : decode cX4_column 69 = .ok (.iload_n 1, 1) := by decide +kernel
theorem dX4_column_70 : decode cX4_column 70 = .ok (.bipush (-5), 2) := by decide +kernel
theorem dX4_column_72 : decode cX4_column 72 = .ok (.invokevirtual 147, 3) := by decide +kernel
theorem dX4_column_75 : decode cX4_column 75 = .ok (.ireturn, 1) := by decide +kernel
theorem dX4_column_76 : decode cX4_column 76 = .ok (.aload_n 0, 1) := by decide +kernel
theorem dX4_column_77 : decode cX4_column 77 = .ok (.iload_n 1, 1) := by decide +kernel
theorem dX4_column_78 : decode cX4_column 78 = .ok (.invokevirtual 150, 3) := by decide +kernel
theorem dX4_column_81 : decode cX4_column 81 = .ok (.ireturn, 1) := by decide +kernel
theorem dX4_column_82 : decode cX4_column 82 = .ok (.aload_n 0, 1) := by decide +kernel
theorem dX4_column_83 : decode cX4_column 83 = .ok (.iconst 0, 1) := by decide +kernel
theorem dX4_column_84 : decode cX4_column 84 = .ok (.iload_n 3, 1) := by decide +kernel
theorem dX4_column_85 : decode cX4_column 85 = .ok (.iload_n 1, 1) := by decide +kernel
theorem dX4_column_86 : decode cX4_column 86 = .ok (.bipush (-5), 2) := by decide +kernel
theorem dX4_column_88 : decode cX4_column 88 = .ok (.invokevirtual 143, 3) := by decide +kernel
theorem dX4_column_91 : decode cX4_column 91 = .ok (.ireturn, 1) := by decide +kernel
theorem dX4_column_92 : decode cX4_column 92 = .ok (.aload_n 0, 1) := by decide +kernel
theorem dX4_column_93 : decode cX4_column 93 = .ok (.iload_n 1, 1) := by decide +kernel
theorem dX4_column_94 : decode cX4_column 94 = .ok (.invokevirtual 153, 3) := by decide +kernel
theorem dX4_column_97 : decode cX4_column 97 = .ok (.ireturn, 1) := by decide +kernel
theorem dX4_column_98 : decode cX4_column 98 = .ok (.aload_n 0, 1) := by decide +kernel
theorem dX4_column_99 : decode cX4_column 99 = .ok (.iconst 0, 1) := by decide +kernel
theorem dX4_column_100 : decode cX4_column 100 = .ok (.iload_n 3, 1) := by decide +kernel
theorem dX4_column_101 : decode cX4_column 101 = .ok (.iload_n 1, 1) := by decide +kernel
theorem dX4_column_102 : decode cX4_column 102 = .ok (.invokevirtual 156, 3) := by decide +kernel
theorem dX4_column_105 : decode cX4_column 105 = .ok (.ireturn, 1) := by decide +kernel
theorem dX4_column_106 : decode cX4_column 106 = .ok (.aload_n 0, 1) := by decide +kernel
theorem dX4_column_107 : decode cX4_column 107 = .ok (.iconst 0, 1) := by decide +kernel
theorem dX4_column_108 : decode cX4_column 108 = .ok (.iload_n 3, 1) := by decide +kernel
theorem dX4_column_109 : decode cX4_column 109 = .ok (.iload_n 1, 1) := by decide +kernel
theorem dX4_column_110 : decode cX4_column 110 = .ok (.invokevirtual 160, 3) := by decide +kernel
theorem dX4_column_113 : decode cX4_column 113 = .ok (.ireturn, 1) := by decide +kernel
theorem dX4_column_114 : decode cX4_column 114 = .ok (.bipush (-2), 2) := by decide +kernel
theorem dX4_column_116 : decode cX4_column 116 = .ok (.ireturn, 1) := by decide +kernel
theorem dX4_watches_0 : decode cX4_watches 0 = .ok (.aload_n 0, 1) := by decide +kernel
theorem dX4_watches_1 : decode cX4_watches 1 = .ok (.getfield 7, 3) := by decide +kernel
theorem dX4_watches_4 : decode cX4_watches 4 = .ok (.iconst 0, 1) := by decide +kernel
theorem dX4_watches_5 : decode cX4_watches 5 = .ok (.iaload, 1) := by decide +kernel
theorem dX4_watches_6 : decode cX4_watches 6 = .ok (.aload_n 0, 1) := by decide +kernel
theorem dX4_watches_7 : decode cX4_watches 7 = .ok (.getfield 7, 3) := by decide +kernel
theorem dX4_watches_10 : decode cX4_watches 10 = .ok (.iconst 3, 1) := by decide +kernel
theorem dX4_watches_11 : decode cX4_watches 11 = .ok (.iaload, 1) := by decide +kernel
theorem dX4_watches_12 : decode cX4_watches 12 = .ok (.iadd, 1) := by decide +kernel
theorem dX4_watches_13 : decode cX4_watches 13 = .ok (.iconst 1, 1) := by decide +kernel
theorem dX4_watches_14 : decode cX4_watches 14 = .ok (.isub, 1) := by decide +kernel
theorem dX4_watches_15 : decode cX4_watches 15 = .ok (.aload_n 0, 1) := by decide +kernel
theorem dX4_watches_16 : decode cX4_watches 16 = .ok (.getfield 7, 3) := by decide +kernel
theorem dX4_watches_19 : decode cX4_watches 19 = .ok (.iconst 3, 1) := by decide +kernel
theorem dX4_watches_20 : decode cX4_watches 20 = .ok (.iaload, 1) := by decide +kernel
theorem dX4_watches_21 : decode cX4_watches 21 = .ok (.idiv, 1) := by decide +kernel
theorem dX4_watches_22 : decode cX4_watches 22 = .ok (.ireturn, 1) := by decide +kernel
theorem dX4_lastOf_0 : decode cX4_lastOf 0 = .ok (.iload_n 1, 1) := by decide +kernel
theorem dX4_lastOf_1 : decode cX4_lastOf 1 = .ok (.iconst 1, 1) := by decide +kernel
theorem dX4_lastOf_2 : decode cX4_lastOf 2 = .ok (.iadd, 1) := by decide +kernel
theorem dX4_lastOf_3 : decode cX4_lastOf 3 = .ok (.aload_n 0, 1) := by decide +kernel
theorem dX4_lastOf_4 : decode cX4_lastOf 4 = .ok (.getfield 7, 3) := by decide +kernel
theorem dX4_lastOf_7 : decode cX4_lastOf 7 = .ok (.iconst 3, 1) := by decide +kernel
theorem dX4_lastOf_8 : decode cX4_lastOf 8 = .ok (.iaload, 1) := by decide +kernel
theorem dX4_lastOf_9 : decode cX4_lastOf 9 = .ok (.imul, 1) := by decide +kernel
theorem dX4_lastOf_10 : decode cX4_lastOf 10 = .ok (.istore_n 2, 1) := by decide +kernel
theorem dX4_lastOf_11 : decode cX4_lastOf 11 = .ok (.iload_n 2, 1) := by decide +kernel
theorem dX4_lastOf_12 : decode cX4_lastOf 12 = .ok (.aload_n 0, 1) := by decide +kernel
theorem dX4_lastOf_13 : decode cX4_lastOf 13 = .ok (.getfield 7, 3) := by decide +kernel
theorem dX4_lastOf_16 : decode cX4_lastOf 16 = .ok (.iconst 0, 1) := by decide +kernel
theorem dX4_lastOf_17 : decode cX4_lastOf 17 = .ok (.iaload, 1) := by decide +kernel
theorem dX4_lastOf_18 : decode cX4_lastOf 18 = .ok (.if_icmp .ge 7, 3) := by decide +kernel
theorem dX4_lastOf_21 : decode cX4_lastOf 21 = .ok (.iload_n 2, 1) := by decide +kernel
theorem dX4_lastOf_22 : decode cX4_lastOf 22 = .ok (.goto 9, 3) := by decide +kernel
theorem dX4_lastOf_25 : decode cX4_lastOf 25 = .ok (.aload_n 0, 1) := by decide +kernel
theorem dX4_lastOf_26 : decode cX4_lastOf 26 = .ok (.getfield 7, 3) := by decide +kernel
theorem dX4_lastOf_29 : decode cX4_lastOf 29 = .ok (.iconst 0, 1) := by decide +kernel
theorem dX4_lastOf_30 : decode cX4_lastOf 30 = .ok (.iaload, 1) := by decide +kernel
theorem dX4_lastOf_31 : decode cX4_lastOf 31 = .ok (.iconst 1, 1) := by decide +kernel
theorem dX4_lastOf_32 : decode cX4_lastOf 32 = .ok (.isub, 1) := by decide +kernel
theorem dX4_lastOf_33 : decode cX4_lastOf 33 = .ok (.ireturn, 1) := by decide +kernel
theorem dX4_runOf_0 : decode cX4_runOf 0 = .ok (.iconst 0, 1) := by decide +kernel
theorem dX4_runOf_1 : decode cX4_runOf 1 = .ok (.istore_n 3, 1) := by decide +kernel
theorem dX4_runOf_2 : decode cX4_runOf 2 = .ok (.iload_n 1, 1) := by decide +kernel
theorem dX4_runOf_3 : decode cX4_runOf 3 = .ok (.istore 4, 2) := by decide +kernel
theorem dX4_runOf_5 : decode cX4_runOf 5 = .ok (.iload 4, 2) := by decide +kernel
theorem dX4_runOf_7 : decode cX4_runOf 7 = .ok (.iload_n 2, 1) := by decide +kernel
theorem dX4_runOf_8 : decode cX4_runOf 8 = .ok (.if_icmp .gt 33, 3) := by decide +kernel
theorem dX4_runOf_11 : decode cX4_runOf 11 = .ok (.iload_n 3, 1) := by decide +kernel
theorem dX4_runOf_12 : decode cX4_runOf 12 = .ok (.aload_n 0, 1) := by decide +kernel
theorem dX4_runOf_13 : decode cX4_runOf 13 = .ok (.iload 4, 2) := by decide +kernel
theorem dX4_runOf_15 : decode cX4_runOf 15 = .ok (.iconst 1, 1) := by decide +kernel
theorem dX4_runOf_16 : decode cX4_runOf 16 = .ok (.invokevirtual 90, 3) := by decide +kernel
theorem dX4_runOf_19 : decode cX4_runOf 19 = .ok (.ifCond .lt 13, 3) := by decide +kernel
theorem dX4_runOf_22 : decode cX4_runOf 22 = .ok (.aload_n 0, 1) := by decide +kernel
theorem dX4_runOf_23 : decode cX4_runOf 23 = .ok (.iload 4, 2) := by decide +kernel
theorem dX4_runOf_25 : decode cX4_runOf 25 = .ok (.iconst 1, 1) := by decide +kernel
theorem dX4_runOf_26 : decode cX4_runOf 26 = .ok (.invokevirtual 90, 3) := by decide +kernel
theorem dX4_runOf_29 : decode cX4_runOf 29 = .ok (.goto 4, 3) := by decide +kernel
theorem dX4_runOf_32 : decode cX4_runOf 32 = .ok (.iconst 0, 1) := by decide +kernel
theorem dX4_runOf_33 : decode cX4_runOf 33 = .ok (.iadd, 1) := by decide +kernel
theorem dX4_runOf_34 : decode cX4_runOf 34 = .ok (.istore_n 3, 1) := by decide +kernel
theorem dX4_runOf_35 : decode cX4_runOf 35 = .ok (.iinc 4 1, 3) := by decide +kernel
theorem dX4_runOf_38 : decode cX4_runOf 38 = .ok (.goto (-33), 3) := by decide +kernel
theorem dX4_runOf_41 : decode cX4_runOf 41 = .ok (.iload_n 3, 1) := by decide +kernel
theorem dX4_runOf_42 : decode cX4_runOf 42 = .ok (.ireturn, 1) := by decide +kernel
theorem dX4_inDoubt_0 : decode cX4_inDoubt 0 = .ok (.iconst 0, 1) := by decide +kernel
theorem dX4_inDoubt_1 : decode cX4_inDoubt 1 = .ok (.istore_n 3, 1) := by decide +kernel
theorem dX4_inDoubt_2 : decode cX4_inDoubt 2 = .ok (.iconst 0, 1) := by decide +kernel
theorem dX4_inDoubt_3 : decode cX4_inDoubt 3 = .ok (.istore 4, 2) := by decide +kernel
theorem dX4_inDoubt_5 : decode cX4_inDoubt 5 = .ok (.iload 4, 2) := by decide +kernel
theorem dX4_inDoubt_7 : decode cX4_inDoubt 7 = .ok (.iconst 4, 1) := by decide +kernel
theorem dX4_inDoubt_8 : decode cX4_inDoubt 8 = .ok (.if_icmp .ge 20, 3) := by decide +kernel
theorem dX4_inDoubt_11 : decode cX4_inDoubt 11 = .ok (.iload_n 3, 1) := by decide +kernel
theorem dX4_inDoubt_12 : decode cX4_inDoubt 12 = .ok (.aload_n 0, 1) := by decide +kernel
theorem dX4_inDoubt_13 : decode cX4_inDoubt 13 = .ok (.iload_n 1, 1) := by decide +kernel
theorem dX4_inDoubt_14 : decode cX4_inDoubt 14 = .ok (.iload_n 2, 1) := by decide +kernel
theorem dX4_inDoubt_15 : decode cX4_inDoubt 15 = .ok (.iload 4, 2) := by decide +kernel
theorem dX4_inDoubt_17 : decode cX4_inDoubt 17 = .ok (.invokevirtual 160, 3) := by decide +kernel
theorem dX4_inDoubt_20 : decode cX4_inDoubt 20 = .ok (.iadd, 1) := by decide +kernel
theorem dX4_inDoubt_21 : decode cX4_inDoubt 21 = .ok (.istore_n 3, 1) := by decide +kernel
theorem dX4_inDoubt_22 : decode cX4_inDoubt 22 = .ok (.iinc 4 1, 3) := by decide +kernel
theorem dX4_inDoubt_25 : decode cX4_inDoubt 25 = .ok (.goto (-20), 3) := by decide +kernel
theorem dX4_inDoubt_28 : decode cX4_inDoubt 28 = .ok (.iload_n 3, 1) := by decide +kernel
theorem dX4_inDoubt_29 : decode cX4_inDoubt 29 = .ok (.ireturn, 1) := by decide +kernel
theorem dX4_watch_0 : decode cX4_watch 0 = .ok (.iload_n 1, 1) := by decide +kernel
theorem dX4_watch_1 : decode cX4_watch 1 = .ok (.iconst 0, 1) := by decide +kernel
theorem dX4_watch_2 : decode cX4_watch 2 = .ok (.aload_n 0, 1) := by decide +kernel
theorem dX4_watch_3 : decode cX4_watch 3 = .ok (.invokevirtual 163, 3) := by decide +kernel
theorem dX4_watch_6 : decode cX4_watch 6 = .ok (.iconst 1, 1) := by decide +kernel
theorem dX4_watch_7 : decode cX4_watch 7 = .ok (.isub, 1) := by decide +kernel
theorem dX4_watch_8 : decode cX4_watch 8 = .ok (.invokestatic 37, 3) := by decide +kernel
theorem dX4_watch_11 : decode cX4_watch 11 = .ok (.ifCond .ne 5, 3) := by decide +kernel
theorem dX4_watch_14 : decode cX4_watch 14 = .ok (.iconst (-1), 1) := by decide +kernel
theorem dX4_watch_15 : decode cX4_watch 15 = .ok (.ireturn, 1) := by decide +kernel
theorem dX4_watch_16 : decode cX4_watch 16 = .ok (.iload_n 1, 1) := by decide +kernel
theorem dX4_watch_17 : decode cX4_watch 17 = .ok (.aload_n 0, 1) := by decide +kernel
theorem dX4_watch_18 : decode cX4_watch 18 = .ok (.getfield 7, 3) := by decide +kernel
theorem dX4_watch_21 : decode cX4_watch 21 = .ok (.iconst 3, 1) := by decide +kernel
theorem dX4_watch_22 : decode cX4_watch 22 = .ok (.iaload, 1) := by decide +kernel
theorem dX4_watch_23 : decode cX4_watch 23 = .ok (.imul, 1) := by decide +kernel
theorem dX4_watch_24 : decode cX4_watch 24 = .ok (.istore_n 3, 1) := by decide +kernel
theorem dX4_watch_25 : decode cX4_watch 25 = .ok (.aload_n 0, 1) := by decide +kernel
theorem dX4_watch_26 : decode cX4_watch 26 = .ok (.iload_n 1, 1) := by decide +kernel
theorem dX4_watch_27 : decode cX4_watch 27 = .ok (.invokevirtual 166, 3) := by decide +kernel
theorem dX4_watch_30 : decode cX4_watch 30 = .ok (.istore 4, 2) := by decide +kernel
theorem dX4_watch_32 : decode cX4_watch 32 = .ok (.aload_n 0, 1) := by decide +kernel
theorem dX4_watch_33 : decode cX4_watch 33 = .ok (.getfield 7, 3) := by decide +kernel
theorem dX4_watch_36 : decode cX4_watch 36 = .ok (.iconst 4, 1) := by decide +kernel
theorem dX4_watch_37 : decode cX4_watch 37 = .ok (.iload_n 1, 1) := by decide +kernel
theorem dX4_watch_38 : decode cX4_watch 38 = .ok (.iadd, 1) := by decide +kernel
theorem dX4_watch_39 : decode cX4_watch 39 = .ok (.iaload, 1) := by decide +kernel
theorem dX4_watch_40 : decode cX4_watch 40 = .ok (.istore 5, 2) := by decide +kernel
theorem dX4_watch_42 : decode cX4_watch 42 = .ok (.iload_n 2, 1) := by decide +kernel
theorem dX4_watch_43 : decode cX4_watch 43 = .ok (.tableswitch 114 0 6 #[41, 48, 56, 65, 68, 95, 106], 41) := by decide +kernel
theorem dX4_watch_84 : decode cX4_watch 84 = .ok (.iload 4, 2) := by decide +kernel
theorem dX4_watch_86 : decode cX4_watch 86 = .ok (.iload_n 3, 1) := by decide +kernel
theorem dX4_watch_87 : decode cX4_watch 87 = .ok (.isub, 1) := by decide +kernel
theorem dX4_watch_88 : decode cX4_watch 88 = .ok (.iconst 1, 1) := by decide +kernel
theorem dX4_watch_89 : decode cX4_watch 89 = .ok (.iadd, 1) := by decide +kernel
theorem dX4_watch_90 : decode cX4_watch 90 = .ok (.ireturn, 1) := by decide +kernel
theorem dX4_watch_91 : decode cX4_watch 91 = .ok (.aload_n 0, 1) := by decide +kernel
theorem dX4_watch_92 : decode cX4_watch 92 = .ok (.iload_n 3, 1) := by decide +kernel
theorem dX4_watch_93 : decode cX4_watch 93 = .ok (.iload 4, 2) := by decide +kernel
theorem dX4_watch_95 : decode cX4_watch 95 = .ok (.invokevirtual 169, 3) := by decide +kernel
theorem dX4_watch_98 : decode cX4_watch 98 = .ok (.ireturn, 1) := by decide +kernel
theorem dX4_watch_99 : decode cX4_watch 99 = .ok (.aload_n 0, 1) := by decide +kernel
theorem dX4_watch_100 : decode cX4_watch 100 = .ok (.iload_n 3, 1) := by decide +kernel
theorem dX4_watch_101 : decode cX4_watch 101 = .ok (.iload 4, 2) := by decide +kernel
theorem dX4_watch_103 : decode cX4_watch 103 = .ok (.iconst 3, 1) := by decide +kernel
theorem dX4_watch_104 : decode cX4_watch 104 = .ok (.invokevirtual 156, 3) := by decide +kernel
theorem dX4_watch_107 : decode cX4_watch 107 = .ok (.ireturn, 1) := by decide +kernel
theorem dX4_watch_108 : decode cX4_watch 108 = .ok (.iload 5, 2) := by decide +kernel
theorem dX4_watch_110 : decode cX4_watch 110 = .ok (.ireturn, 1) := by decide +kernel
theorem dX4_watch_111 : decode cX4_watch 111 = .ok (.iload 5, 2) := by decide +kernel
theorem dX4_watch_113 : decode cX4_watch 113 = .ok (.bipush (-5), 2) := by decide +kernel
theorem dX4_watch_115 : decode cX4_watch 115 = .ok (.if_icmp .ne 8, 3) := by decide +kernel
theorem dX4_watch_118 : decode cX4_watch 118 = .ok (.bipush (-5), 2) := by decide +kernel
theorem dX4_watch_120 : decode cX4_watch 120 = .ok (.goto 17, 3) := by decide +kernel
theorem dX4_watch_123 : decode cX4_watch 123 = .ok (.aload_n 0, 1) := by decide +kernel
theorem dX4_watch_124 : decode cX4_watch 124 = .ok (.iload_n 3, 1) := by decide +kernel
theorem dX4_watch_125 : decode cX4_watch 125 = .ok (.iload 4, 2) := by decide +kernel
theorem dX4_watch_127 : decode cX4_watch 127 = .ok (.invokevirtual 169, 3) := by decide +kernel
theorem dX4_watch_130 : decode cX4_watch 130 = .ok (.iload 5, 2) := by decide +kernel
theorem dX4_watch_132 : decode cX4_watch 132 = .ok (.isub, 1) := by decide +kernel
theorem dX4_watch_133 : decode cX4_watch 133 = .ok (.sipush 10000, 3) := by decide +kernel
theorem dX4_watch_136 : decode cX4_watch 136 = .ok (.iadd, 1) := by decide +kernel
theorem dX4_watch_137 : decode cX4_watch 137 = .ok (.ireturn, 1) := by decide +kernel
theorem dX4_watch_138 : decode cX4_watch 138 = .ok (.aload_n 0, 1) := by decide +kernel
theorem dX4_watch_139 : decode cX4_watch 139 = .ok (.iload_n 3, 1) := by decide +kernel
theorem dX4_watch_140 : decode cX4_watch 140 = .ok (.iload 4, 2) := by decide +kernel
theorem dX4_watch_142 : decode cX4_watch 142 = .ok (.iconst 1, 1) := by decide +kernel
theorem dX4_watch_143 : decode cX4_watch 143 = .ok (.bipush (-5), 2) := by decide +kernel
theorem dX4_watch_145 : decode cX4_watch 145 = .ok (.invokevirtual 143, 3) := by decide +kernel
theorem dX4_watch_148 : decode cX4_watch 148 = .ok (.ireturn, 1) := by decide +kernel
theorem dX4_watch_149 : decode cX4_watch 149 = .ok (.aload_n 0, 1) := by decide +kernel
theorem dX4_watch_150 : decode cX4_watch 150 = .ok (.iload_n 3, 1) := by decide +kernel
theorem dX4_watch_151 : decode cX4_watch 151 = .ok (.iload 4, 2) := by decide +kernel
theorem dX4_watch_153 : decode cX4_watch 153 = .ok (.invokevirtual 172, 3) := by decide +kernel
theorem dX4_watch_156 : decode cX4_watch 156 = .ok (.ireturn, 1) := by decide +kernel
theorem dX4_watch_157 : decode cX4_watch 157 = .ok (.bipush (-2), 2) := by decide +kernel
theorem dX4_watch_159 : decode cX4_watch 159 = .ok (.ireturn, 1) := by decide +kernel
theorem dX4_mayGo_0 : decode cX4_mayGo 0 = .ok (.aload_n 0, 1) := by decide +kernel
theorem dX4_mayGo_1 : decode cX4_mayGo 1 = .ok (.iload_n 1, 1) := by decide +kernel
theorem dX4_mayGo_2 : decode cX4_mayGo 2 = .ok (.invokevirtual 41, 3) := by decide +kernel
theorem dX4_mayGo_5 : decode cX4_mayGo 5 = .ok (.ifCond .eq 11, 3) := by decide +kernel
theorem dX4_mayGo_8 : decode cX4_mayGo 8 = .ok (.aload_n 0, 1) := by decide +kernel
theorem dX4_mayGo_9 : decode cX4_mayGo 9 = .ok (.iload_n 2, 1) := by decide +kernel
theorem dX4_mayGo_10 : decode cX4_mayGo 10 = .ok (.invokevirtual 41, 3) := by decide +kernel
theorem dX4_mayGo_13 : decode cX4_mayGo 13 = .ok (.ifCond .ne 7, 3) := by decide +kernel
theorem dX4_mayGo_16 : decode cX4_mayGo 16 = .ok (.iconst (-1), 1) := by decide +kernel
theorem dX4_mayGo_17 : decode cX4_mayGo 17 = .ok (.goto 14, 3) := by decide +kernel
theorem dX4_mayGo_20 : decode cX4_mayGo 20 = .ok (.iload_n 2, 1) := by decide +kernel
theorem dX4_mayGo_21 : decode cX4_mayGo 21 = .ok (.iload_n 1, 1) := by decide +kernel
theorem dX4_mayGo_22 : decode cX4_mayGo 22 = .ok (.if_icmp .ge 8, 3) := by decide +kernel
theorem dX4_mayGo_25 : decode cX4_mayGo 25 = .ok (.bipush (-2), 2) := by decide +kernel
theorem dX4_mayGo_27 : decode cX4_mayGo 27 = .ok (.goto 4, 3) := by decide +kernel
theorem dX4_mayGo_30 : decode cX4_mayGo 30 = .ok (.iconst 0, 1) := by decide +kernel
theorem dX4_mayGo_31 : decode cX4_mayGo 31 = .ok (.ireturn, 1) := by decide +kernel
theorem dX4_run_0 : decode cX4_run 0 = .ok (.aload_n 0, 1) := by decide +kernel
theorem dX4_run_1 : decode cX4_run 1 = .ok (.iload_n 1, 1) := by decide +kernel
theorem dX4_run_2 : decode cX4_run 2 = .ok (.iload_n 2, 1) := by decide +kernel
theorem dX4_run_3 : decode cX4_run 3 = .ok (.invokevirtual 175, 3) := by decide +kernel
theorem dX4_run_6 : decode cX4_run 6 = .ok (.istore_n 3, 1) := by decide +kernel
theorem dX4_run_7 : decode cX4_run 7 = .ok (.iload_n 3, 1) := by decide +kernel
theorem dX4_run_8 : decode cX4_run 8 = .ok (.ifCond .ge 7, 3) := by decide +kernel
theorem dX4_run_11 : decode cX4_run 11 = .ok (.iload_n 3, 1) := by decide +kernel
theorem dX4_run_12 : decode cX4_run 12 = .ok (.goto 9, 3) := by decide +kernel
theorem dX4_run_15 : decode cX4_run 15 = .ok (.aload_n 0, 1) := by decide +kernel
theorem dX4_run_16 : decode cX4_run 16 = .ok (.iload_n 1, 1) := by decide +kernel
theorem dX4_run_17 : decode cX4_run 17 = .ok (.iload_n 2, 1) := by decide +kernel
theorem dX4_run_18 : decode cX4_run 18 = .ok (.invokevirtual 169, 3) := by decide +kernel
theorem dX4_run_21 : decode cX4_run 21 = .ok (.ireturn, 1) := by decide +kernel
theorem dX4_northBy_0 : decode cX4_northBy 0 = .ok (.iload_n 0, 1) := by decide +kernel
theorem dX4_northBy_1 : decode cX4_northBy 1 = .ok (.tableswitch 61 0 7 #[47, 49, 61, 53, 57, 53, 61, 49], 47) := by decide +kernel
theorem dX4_northBy_48 : decode cX4_northBy 48 = .ok (.dconst 1, 1) := by decide +kernel
theorem dX4_northBy_49 : decode cX4_northBy 49 = .ok (.dreturn, 1) := by decide +kernel
theorem dX4_northBy_50 : decode cX4_northBy 50 = .ok (.ldc2_w 178, 3) := by decide +kernel
theorem dX4_northBy_53 : decode cX4_northBy 53 = .ok (.dreturn, 1) := by decide +kernel
theorem dX4_northBy_54 : decode cX4_northBy 54 = .ok (.ldc2_w 180, 3) := by decide +kernel
theorem dX4_northBy_57 : decode cX4_northBy 57 = .ok (.dreturn, 1) := by decide +kernel
theorem dX4_northBy_58 : decode cX4_northBy 58 = .ok (.ldc2_w 182, 3) := by decide +kernel
theorem dX4_northBy_61 : decode cX4_northBy 61 = .ok (.dreturn, 1) := by decide +kernel
theorem dX4_northBy_62 : decode cX4_northBy 62 = .ok (.dconst 0, 1) := by decide +kernel
theorem dX4_northBy_63 : decode cX4_northBy 63 = .ok (.dreturn, 1) := by decide +kernel
theorem dX4_brings_0 : decode cX4_brings 0 = .ok (.dconst 0, 1) := by decide +kernel
theorem dX4_brings_1 : decode cX4_brings 1 = .ok (.dstore 4, 2) := by decide +kernel
theorem dX4_brings_3 : decode cX4_brings 3 = .ok (.iload_n 1, 1) := by decide +kernel
theorem dX4_brings_4 : decode cX4_brings 4 = .ok (.istore 6, 2) := by decide +kernel
theorem dX4_brings_6 : decode cX4_brings 6 = .ok (.iload 6, 2) := by decide +kernel
theorem dX4_brings_8 : decode cX4_brings 8 = .ok (.iload_n 2, 1) := by decide +kernel
theorem dX4_brings_9 : decode cX4_brings 9 = .ok (.if_icmp .gt 60, 3) := by decide +kernel
theorem dX4_brings_12 : decode cX4_brings 12 = .ok (.aload_n 0, 1) := by decide +kernel
theorem dX4_brings_13 : decode cX4_brings 13 = .ok (.iload 6, 2) := by decide +kernel
theorem dX4_brings_15 : decode cX4_brings 15 = .ok (.iconst 0, 1) := by decide +kernel
theorem dX4_brings_16 : decode cX4_brings 16 = .ok (.invokevirtual 90, 3) := by decide +kernel
theorem dX4_brings_19 : decode cX4_brings 19 = .ok (.istore 7, 2) := by decide +kernel
theorem dX4_brings_21 : decode cX4_brings 21 = .ok (.aload_n 0, 1) := by decide +kernel
theorem dX4_brings_22 : decode cX4_brings 22 = .ok (.iload 6, 2) := by decide +kernel
theorem dX4_brings_24 : decode cX4_brings 24 = .ok (.iconst 1, 1) := by decide +kernel
theorem dX4_brings_25 : decode cX4_brings 25 = .ok (.invokevirtual 90, 3) := by decide +kernel
theorem dX4_brings_28 : decode cX4_brings 28 = .ok (.istore 8, 2) := by decide +kernel
theorem dX4_brings_30 : decode cX4_brings 30 = .ok (.iload 7, 2) := by decide +kernel
theorem dX4_brings_32 : decode cX4_brings 32 = .ok (.ifCond .lt 31, 3) := by decide +kernel
theorem dX4_brings_35 : decode cX4_brings 35 = .ok (.iload 8, 2) := by decide +kernel
theorem dX4_brings_37 : decode cX4_brings 37 = .ok (.ifCond .lt 26, 3) := by decide +kernel
theorem dX4_brings_40 : decode cX4_brings 40 = .ok (.dload 4, 2) := by decide +kernel
theorem dX4_brings_42 : decode cX4_brings 42 = .ok (.iload 8, 2) := by decide +kernel
theorem dX4_brings_44 : decode cX4_brings 44 = .ok (.i2d, 1) := by decide +kernel
theorem dX4_brings_45 : decode cX4_brings 45 = .ok (.ldc2_w 184, 3) := by decide +kernel
theorem dX4_brings_48 : decode cX4_brings 48 = .ok (.ddiv, 1) := by decide +kernel
theorem dX4_brings_49 : decode cX4_brings 49 = .ok (.iload 7, 2) := by decide +kernel
theorem dX4_brings_51 : decode cX4_brings 51 = .ok (.iload_n 3, 1) := by decide +kernel
theorem dX4_brings_52 : decode cX4_brings 52 = .ok (.iadd, 1) := by decide +kernel
theorem dX4_brings_53 : decode cX4_brings 53 = .ok (.bipush 8, 2) := by decide +kernel
theorem dX4_brings_55 : decode cX4_brings 55 = .ok (.irem, 1) := by decide +kernel
theorem dX4_brings_56 : decode cX4_brings 56 = .ok (.invokestatic 186, 3) := by decide +kernel
theorem dX4_brings_59 : decode cX4_brings 59 = .ok (.dmul, 1) := by decide +kernel
theorem dX4_brings_60 : decode cX4_brings 60 = .ok (.dadd, 1) := by decide +kernel
theorem dX4_brings_61 : decode cX4_brings 61 = .ok (.dstore 4, 2) := by decide +kernel
theorem dX4_brings_63 : decode cX4_brings 63 = .ok (.iinc 6 1, 3) := by decide +kernel
theorem dX4_brings_66 : decode cX4_brings 66 = .ok (.goto (-60), 3) := by decide +kernel
theorem dX4_brings_69 : decode cX4_brings 69 = .ok (.dload 4, 2) := by decide +kernel
theorem dX4_brings_71 : decode cX4_brings 71 = .ok (.dreturn, 1) := by decide +kernel
theorem dX4_north_0 : decode cX4_north 0 = .ok (.aload_n 0, 1) := by decide +kernel
theorem dX4_north_1 : decode cX4_north 1 = .ok (.iload_n 1, 1) := by decide +kernel
theorem dX4_north_2 : decode cX4_north 2 = .ok (.iload_n 2, 1) := by decide +kernel
theorem dX4_north_3 : decode cX4_north 3 = .ok (.invokevirtual 175, 3) := by decide +kernel
theorem dX4_north_6 : decode cX4_north 6 = .ok (.ifCond .ge 9, 3) := by decide +kernel
theorem dX4_north_9 : decode cX4_north 9 = .ok (.ldc2_w 190, 3) := by decide +kernel
theorem dX4_north_12 : decode cX4_north 12 = .ok (.goto 10, 3) := by decide +kernel
theorem dX4_north_15 : decode cX4_north 15 = .ok (.aload_n 0, 1) := by decide +kernel
theorem dX4_north_16 : decode cX4_north 16 = .ok (.iload_n 1, 1) := by decide +kernel
theorem dX4_north_17 : decode cX4_north 17 = .ok (.iload_n 2, 1) := by decide +kernel
theorem dX4_north_18 : decode cX4_north 18 = .ok (.iconst 0, 1) := by decide +kernel
theorem dX4_north_19 : decode cX4_north 19 = .ok (.invokevirtual 192, 3) := by decide +kernel
theorem dX4_north_22 : decode cX4_north 22 = .ok (.dreturn, 1) := by decide +kernel
theorem dX4_east_0 : decode cX4_east 0 = .ok (.aload_n 0, 1) := by decide +kernel
theorem dX4_east_1 : decode cX4_east 1 = .ok (.iload_n 1, 1) := by decide +kernel
theorem dX4_east_2 : decode cX4_east 2 = .ok (.iload_n 2, 1) := by decide +kernel
theorem dX4_east_3 : decode cX4_east 3 = .ok (.invokevirtual 175, 3) := by decide +kernel
theorem dX4_east_6 : decode cX4_east 6 = .ok (.ifCond .ge 9, 3) := by decide +kernel
theorem dX4_east_9 : decode cX4_east 9 = .ok (.ldc2_w 190, 3) := by decide +kernel
theorem dX4_east_12 : decode cX4_east 12 = .ok (.goto 11, 3) := by decide +kernel
theorem dX4_east_15 : decode cX4_east 15 = .ok (.aload_n 0, 1) := by decide +kernel
theorem dX4_east_16 : decode cX4_east 16 = .ok (.iload_n 1, 1) := by decide +kernel
theorem dX4_east_17 : decode cX4_east 17 = .ok (.iload_n 2, 1) := by decide +kernel
theorem dX4_east_18 : decode cX4_east 18 = .ok (.bipush 6, 2) := by decide +kernel
theorem dX4_east_20 : decode cX4_east 20 = .ok (.invokevirtual 192, 3) := by decide +kernel
theorem dX4_east_23 : decode cX4_east 23 = .ok (.dreturn, 1) := by decide +kernel
theorem dX4_square_0 : decode cX4_square 0 = .ok (.aload_n 0, 1) := by decide +kernel
theorem dX4_square_1 : decode cX4_square 1 = .ok (.iload_n 1, 1) := by decide +kernel
theorem dX4_square_2 : decode cX4_square 2 = .ok (.iload_n 2, 1) := by decide +kernel
theorem dX4_square_3 : decode cX4_square 3 = .ok (.iconst 0, 1) := by decide +kernel
theorem dX4_square_4 : decode cX4_square 4 = .ok (.invokevirtual 192, 3) := by decide +kernel
theorem dX4_square_7 : decode cX4_square 7 = .ok (.dstore_n 3, 1) := by decide +kernel
theorem dX4_square_8 : decode cX4_square 8 = .ok (.aload_n 0, 1) := by decide +kernel
theorem dX4_square_9 : decode cX4_square 9 = .ok (.iload_n 1, 1) := by decide +kernel
theorem dX4_square_10 : decode cX4_square 10 = .ok (.iload_n 2, 1) := by decide +kernel
theorem dX4_square_11 : decode cX4_square 11 = .ok (.bipush 6, 2) := by decide +kernel
theorem dX4_square_13 : decode cX4_square 13 = .ok (.invokevirtual 192, 3) := by decide +kernel
theorem dX4_square_16 : decode cX4_square 16 = .ok (.dstore 5, 2) := by decide +kernel
theorem dX4_square_18 : decode cX4_square 18 = .ok (.dload_n 3, 1) := by decide +kernel
theorem dX4_square_19 : decode cX4_square 19 = .ok (.dload_n 3, 1) := by decide +kernel
theorem dX4_square_20 : decode cX4_square 20 = .ok (.dmul, 1) := by decide +kernel
theorem dX4_square_21 : decode cX4_square 21 = .ok (.dload 5, 2) := by decide +kernel
theorem dX4_square_23 : decode cX4_square 23 = .ok (.dload 5, 2) := by decide +kernel
theorem dX4_square_25 : decode cX4_square 25 = .ok (.dmul, 1) := by decide +kernel
theorem dX4_square_26 : decode cX4_square 26 = .ok (.dadd, 1) := by decide +kernel
theorem dX4_square_27 : decode cX4_square 27 = .ok (.d2f, 1) := by decide +kernel
theorem dX4_square_28 : decode cX4_square 28 = .ok (.invokestatic 196, 3) := by decide +kernel
theorem dX4_square_31 : decode cX4_square 31 = .ok (.ireturn, 1) := by decide +kernel
theorem dX4_squareBits_0 : decode cX4_squareBits 0 = .ok (.aload_n 0, 1) := by decide +kernel
theorem dX4_squareBits_1 : decode cX4_squareBits 1 = .ok (.iload_n 1, 1) := by decide +kernel
theorem dX4_squareBits_2 : decode cX4_squareBits 2 = .ok (.iload_n 2, 1) := by decide +kernel
theorem dX4_squareBits_3 : decode cX4_squareBits 3 = .ok (.invokevirtual 175, 3) := by decide +kernel
theorem dX4_squareBits_6 : decode cX4_squareBits 6 = .ok (.istore_n 3, 1) := by decide +kernel
theorem dX4_squareBits_7 : decode cX4_squareBits 7 = .ok (.iload_n 3, 1) := by decide +kernel
theorem dX4_squareBits_8 : decode cX4_squareBits 8 = .ok (.ifCond .ge 7, 3) := by decide +kernel
theorem dX4_squareBits_11 : decode cX4_squareBits 11 = .ok (.iload_n 3, 1) := by decide +kernel
theorem dX4_squareBits_12 : decode cX4_squareBits 12 = .ok (.goto 9, 3) := by decide +kernel
theorem dX4_squareBits_15 : decode cX4_squareBits 15 = .ok (.aload_n 0, 1) := by decide +kernel
theorem dX4_squareBits_16 : decode cX4_squareBits 16 = .ok (.iload_n 1, 1) := by decide +kernel
theorem dX4_squareBits_17 : decode cX4_squareBits 17 = .ok (.iload_n 2, 1) := by decide +kernel
theorem dX4_squareBits_18 : decode cX4_squareBits 18 = .ok (.invokevirtual 202, 3) := by decide +kernel
theorem dX4_squareBits_21 : decode cX4_squareBits 21 = .ok (.ireturn, 1) := by decide +kernel
theorem dX4_wouldChange_0 : decode cX4_wouldChange 0 = .ok (.aload_n 0, 1) := by decide +kernel
theorem dX4_wouldChange_1 : decode cX4_wouldChange 1 = .ok (.iload_n 1, 1) := by decide +kernel
theorem dX4_wouldChange_2 : decode cX4_wouldChange 2 = .ok (.iload_n 2, 1) := by decide +kernel
theorem dX4_wouldChange_3 : decode cX4_wouldChange 3 = .ok (.invokevirtual 93, 3) := by decide +kernel
theorem dX4_wouldChange_6 : decode cX4_wouldChange 6 = .ok (.ifCond .ne 5, 3) := by decide +kernel
theorem dX4_wouldChange_9 : decode cX4_wouldChange 9 = .ok (.iconst (-1), 1) := by decide +kernel
theorem dX4_wouldChange_10 : decode cX4_wouldChange 10 = .ok (.ireturn, 1) := by decide +kernel
theorem dX4_wouldChange_11 : decode cX4_wouldChange 11 = .ok (.iload_n 2, 1) := by decide +kernel
theorem dX4_wouldChange_12 : decode cX4_wouldChange 12 = .ok (.iload_n 3, 1) := by decide +kernel
theorem dX4_wouldChange_13 : decode cX4_wouldChange 13 = .ok (.invokestatic 69, 3) := by decide +kernel
theorem dX4_wouldChange_16 : decode cX4_wouldChange 16 = .ok (.ifCond .ne 6, 3) := by decide +kernel
theorem dX4_wouldChange_19 : decode cX4_wouldChange 19 = .ok (.bipush (-2), 2) := by decide +kernel
theorem dX4_wouldChange_21 : decode cX4_wouldChange 21 = .ok (.ireturn, 1) := by decide +kernel
theorem dX4_wouldChange_22 : decode cX4_wouldChange 22 = .ok (.aload_n 0, 1) := by decide +kernel
theorem dX4_wouldChange_23 : decode cX4_wouldChange 23 = .ok (.iload_n 2, 1) := by decide +kernel
theorem dX4_wouldChange_24 : decode cX4_wouldChange 24 = .ok (.invokevirtual 96, 3) := by decide +kernel
theorem dX4_wouldChange_27 : decode cX4_wouldChange 27 = .ok (.iload_n 1, 1) := by decide +kernel
theorem dX4_wouldChange_28 : decode cX4_wouldChange 28 = .ok (.iload_n 2, 1) := by decide +kernel
theorem dX4_wouldChange_29 : decode cX4_wouldChange 29 = .ok (.invokestatic 52, 3) := by decide +kernel
theorem dX4_wouldChange_32 : decode cX4_wouldChange 32 = .ok (.aload_n 0, 1) := by decide +kernel
theorem dX4_wouldChange_33 : decode cX4_wouldChange 33 = .ok (.iload_n 1, 1) := by decide +kernel
theorem dX4_wouldChange_34 : decode cX4_wouldChange 34 = .ok (.iload_n 2, 1) := by decide +kernel
theorem dX4_wouldChange_35 : decode cX4_wouldChange 35 = .ok (.invokevirtual 56, 3) := by decide +kernel
theorem dX4_wouldChange_38 : decode cX4_wouldChange 38 = .ok (.iadd, 1) := by decide +kernel
theorem dX4_wouldChange_39 : decode cX4_wouldChange 39 = .ok (.istore 4, 2) := by decide +kernel
theorem dX4_wouldChange_41 : decode cX4_wouldChange 41 = .ok (.aload_n 0, 1) := by decide +kernel
theorem dX4_wouldChange_42 : decode cX4_wouldChange 42 = .ok (.getfield 7, 3) := by decide +kernel
theorem dX4_wouldChange_45 : decode cX4_wouldChange 45 = .ok (.iload 4, 2) := by decide +kernel
theorem dX4_wouldChange_47 : decode cX4_wouldChange 47 = .ok (.iaload, 1) := by decide +kernel
theorem dX4_wouldChange_48 : decode cX4_wouldChange 48 = .ok (.istore 5, 2) := by decide +kernel
theorem dX4_wouldChange_50 : decode cX4_wouldChange 50 = .ok (.aload_n 0, 1) := by decide +kernel
theorem dX4_wouldChange_51 : decode cX4_wouldChange 51 = .ok (.getfield 7, 3) := by decide +kernel
theorem dX4_wouldChange_54 : decode cX4_wouldChange 54 = .ok (.iload 4, 2) := by decide +kernel
theorem dX4_wouldChange_56 : decode cX4_wouldChange 56 = .ok (.iload_n 3, 1) := by decide +kernel
theorem dX4_wouldChange_57 : decode cX4_wouldChange 57 = .ok (.iastore, 1) := by decide +kernel
theorem dX4_wouldChange_58 : decode cX4_wouldChange 58 = .ok (.aload_n 0, 1) := by decide +kernel
theorem dX4_wouldChange_59 : decode cX4_wouldChange 59 = .ok (.iload_n 2, 1) := by decide +kernel
theorem dX4_wouldChange_60 : decode cX4_wouldChange 60 = .ok (.invokevirtual 99, 3) := by decide +kernel
theorem dX4_wouldChange_63 : decode cX4_wouldChange 63 = .ok (.istore 6, 2) := by decide +kernel
theorem dX4_wouldChange_65 : decode cX4_wouldChange 65 = .ok (.aload_n 0, 1) := by decide +kernel
theorem dX4_wouldChange_66 : decode cX4_wouldChange 66 = .ok (.getfield 7, 3) := by decide +kernel
theorem dX4_wouldChange_69 : decode cX4_wouldChange 69 = .ok (.iload 4, 2) := by decide +kernel
theorem dX4_wouldChange_71 : decode cX4_wouldChange 71 = .ok (.iload 5, 2) := by decide +kernel
theorem dX4_wouldChange_73 : decode cX4_wouldChange 73 = .ok (.iastore, 1) := by decide +kernel
theorem dX4_wouldChange_74 : decode cX4_wouldChange 74 = .ok (.iload 6, 2) := by decide +kernel
theorem dX4_wouldChange_76 : decode cX4_wouldChange 76 = .ok (.ireturn, 1) := by decide +kernel
theorem dX4_overColumns_0 : decode cX4_overColumns 0 = .ok (.iconst 0, 1) := by decide +kernel
theorem dX4_overColumns_1 : decode cX4_overColumns 1 = .ok (.istore_n 2, 1) := by decide +kernel
theorem dX4_overColumns_2 : decode cX4_overColumns 2 = .ok (.iconst 0, 1) := by decide +kernel
theorem dX4_overColumns_3 : decode cX4_overColumns 3 = .ok (.istore_n 3, 1) := by decide +kernel
theorem dX4_overColumns_4 : decode cX4_overColumns 4 = .ok (.iload_n 3, 1) := by decide +kernel
theorem dX4_overColumns_5 : decode cX4_overColumns 5 = .ok (.iconst 4, 1) := by decide +kernel
theorem dX4_overColumns_6 : decode cX4_overColumns 6 = .ok (.if_icmp .ge 18, 3) := by decide +kernel
theorem dX4_overColumns_9 : decode cX4_overColumns 9 = .ok (.iload_n 2, 1) := by decide +kernel
theorem dX4_overColumns_10 : decode cX4_overColumns 10 = .ok (.aload_n 0, 1) := by decide +kernel
theorem dX4_overColumns_11 : decode cX4_overColumns 11 = .ok (.iload_n 3, 1) := by decide +kernel
theorem dX4_overColumns_12 : decode cX4_overColumns 12 = .ok (.iload_n 1, 1) := by decide +kernel
theorem dX4_overColumns_13 : decode cX4_overColumns 13 = .ok (.invokevirtual 205, 3) := by decide +kernel
theorem dX4_overColumns_16 : decode cX4_overColumns 16 = .ok (.iadd, 1) := by decide +kernel
theorem dX4_overColumns_17 : decode cX4_overColumns 17 = .ok (.istore_n 2, 1) := by decide +kernel
theorem dX4_overColumns_18 : decode cX4_overColumns 18 = .ok (.iinc 3 1, 3) := by decide +kernel
theorem dX4_overColumns_21 : decode cX4_overColumns 21 = .ok (.goto (-17), 3) := by decide +kernel
theorem dX4_overColumns_24 : decode cX4_overColumns 24 = .ok (.iload_n 2, 1) := by decide +kernel
theorem dX4_overColumns_25 : decode cX4_overColumns 25 = .ok (.ireturn, 1) := by decide +kernel
theorem dX4_allWritten_0 : decode cX4_allWritten 0 = .ok (.iconst 0, 1) := by decide +kernel
theorem dX4_allWritten_1 : decode cX4_allWritten 1 = .ok (.istore_n 1, 1) := by decide +kernel
theorem dX4_allWritten_2 : decode cX4_allWritten 2 = .ok (.iconst 0, 1) := by decide +kernel
theorem dX4_allWritten_3 : decode cX4_allWritten 3 = .ok (.istore_n 2, 1) := by decide +kernel
theorem dX4_allWritten_4 : decode cX4_allWritten 4 = .ok (.iload_n 2, 1) := by decide +kernel
theorem dX4_allWritten_5 : decode cX4_allWritten 5 = .ok (.aload_n 0, 1) := by decide +kernel
theorem dX4_allWritten_6 : decode cX4_allWritten 6 = .ok (.getfield 7, 3) := by decide +kernel
theorem dX4_allWritten_9 : decode cX4_allWritten 9 = .ok (.iconst 0, 1) := by decide +kernel
theorem dX4_allWritten_10 : decode cX4_allWritten 10 = .ok (.iaload, 1) := by decide +kernel
theorem dX4_allWritten_11 : decode cX4_allWritten 11 = .ok (.if_icmp .ge 17, 3) := by decide +kernel
theorem dX4_allWritten_14 : decode cX4_allWritten 14 = .ok (.iload_n 1, 1) := by decide +kernel
theorem dX4_allWritten_15 : decode cX4_allWritten 15 = .ok (.aload_n 0, 1) := by decide +kernel
theorem dX4_allWritten_16 : decode cX4_allWritten 16 = .ok (.iload_n 2, 1) := by decide +kernel
theorem dX4_allWritten_17 : decode cX4_allWritten 17 = .ok (.invokevirtual 140, 3) := by decide +kernel
theorem dX4_allWritten_20 : decode cX4_allWritten 20 = .ok (.iadd, 1) := by decide +kernel
theorem dX4_allWritten_21 : decode cX4_allWritten 21 = .ok (.istore_n 1, 1) := by decide +kernel
theorem dX4_allWritten_22 : decode cX4_allWritten 22 = .ok (.iinc 2 1, 3) := by decide +kernel
theorem dX4_allWritten_25 : decode cX4_allWritten 25 = .ok (.goto (-21), 3) := by decide +kernel
theorem dX4_allWritten_28 : decode cX4_allWritten 28 = .ok (.iload_n 1, 1) := by decide +kernel
theorem dX4_allWritten_29 : decode cX4_allWritten 29 = .ok (.ireturn, 1) := by decide +kernel
theorem dX4_unlike_0 : decode cX4_unlike 0 = .ok (.iconst 0, 1) := by decide +kernel
theorem dX4_unlike_1 : decode cX4_unlike 1 = .ok (.istore_n 1, 1) := by decide +kernel
theorem dX4_unlike_2 : decode cX4_unlike 2 = .ok (.iconst 0, 1) := by decide +kernel
theorem dX4_unlike_3 : decode cX4_unlike 3 = .ok (.istore_n 2, 1) := by decide +kernel
theorem dX4_unlike_4 : decode cX4_unlike 4 = .ok (.iload_n 2, 1) := by decide +kernel
theorem dX4_unlike_5 : decode cX4_unlike 5 = .ok (.aload_n 0, 1) := by decide +kernel
theorem dX4_unlike_6 : decode cX4_unlike 6 = .ok (.invokevirtual 163, 3) := by decide +kernel
theorem dX4_unlike_9 : decode cX4_unlike 9 = .ok (.if_icmp .ge 53, 3) := by decide +kernel
theorem dX4_unlike_12 : decode cX4_unlike 12 = .ok (.aload_n 0, 1) := by decide +kernel
theorem dX4_unlike_13 : decode cX4_unlike 13 = .ok (.getfield 7, 3) := by decide +kernel
theorem dX4_unlike_16 : decode cX4_unlike 16 = .ok (.iconst 4, 1) := by decide +kernel
theorem dX4_unlike_17 : decode cX4_unlike 17 = .ok (.iload_n 2, 1) := by decide +kernel
theorem dX4_unlike_18 : decode cX4_unlike 18 = .ok (.iadd, 1) := by decide +kernel
theorem dX4_unlike_19 : decode cX4_unlike 19 = .ok (.iaload, 1) := by decide +kernel
theorem dX4_unlike_20 : decode cX4_unlike 20 = .ok (.istore_n 3, 1) := by decide +kernel
theorem dX4_unlike_21 : decode cX4_unlike 21 = .ok (.iload_n 1, 1) := by decide +kernel
theorem dX4_unlike_22 : decode cX4_unlike 22 = .ok (.iload_n 3, 1) := by decide +kernel
theorem dX4_unlike_23 : decode cX4_unlike 23 = .ok (.bipush (-5), 2) := by decide +kernel
theorem dX4_unlike_25 : decode cX4_unlike 25 = .ok (.if_icmp .eq 28, 3) := by decide +kernel
theorem dX4_unlike_28 : decode cX4_unlike 28 = .ok (.iload_n 3, 1) := by decide +kernel
theorem dX4_unlike_29 : decode cX4_unlike 29 = .ok (.aload_n 0, 1) := by decide +kernel
theorem dX4_unlike_30 : decode cX4_unlike 30 = .ok (.iload_n 2, 1) := by decide +kernel
theorem dX4_unlike_31 : decode cX4_unlike 31 = .ok (.aload_n 0, 1) := by decide +kernel
theorem dX4_unlike_32 : decode cX4_unlike 32 = .ok (.getfield 7, 3) := by decide +kernel
theorem dX4_unlike_35 : decode cX4_unlike 35 = .ok (.iconst 3, 1) := by decide +kernel
theorem dX4_unlike_36 : decode cX4_unlike 36 = .ok (.iaload, 1) := by decide +kernel
theorem dX4_unlike_37 : decode cX4_unlike 37 = .ok (.imul, 1) := by decide +kernel
theorem dX4_unlike_38 : decode cX4_unlike 38 = .ok (.aload_n 0, 1) := by decide +kernel
theorem dX4_unlike_39 : decode cX4_unlike 39 = .ok (.iload_n 2, 1) := by decide +kernel
theorem dX4_unlike_40 : decode cX4_unlike 40 = .ok (.invokevirtual 166, 3) := by decide +kernel
theorem dX4_unlike_43 : decode cX4_unlike 43 = .ok (.invokevirtual 169, 3) := by decide +kernel
theorem dX4_unlike_46 : decode cX4_unlike 46 = .ok (.if_icmp .eq 7, 3) := by decide +kernel
theorem dX4_unlike_49 : decode cX4_unlike 49 = .ok (.iconst 1, 1) := by decide +kernel
theorem dX4_unlike_50 : decode cX4_unlike 50 = .ok (.goto 4, 3) := by decide +kernel
theorem dX4_unlike_53 : decode cX4_unlike 53 = .ok (.iconst 0, 1) := by decide +kernel
theorem dX4_unlike_54 : decode cX4_unlike 54 = .ok (.iadd, 1) := by decide +kernel
theorem dX4_unlike_55 : decode cX4_unlike 55 = .ok (.istore_n 1, 1) := by decide +kernel
theorem dX4_unlike_56 : decode cX4_unlike 56 = .ok (.iinc 2 1, 3) := by decide +kernel
theorem dX4_unlike_59 : decode cX4_unlike 59 = .ok (.goto (-55), 3) := by decide +kernel
theorem dX4_unlike_62 : decode cX4_unlike 62 = .ok (.iload_n 1, 1) := by decide +kernel
theorem dX4_unlike_63 : decode cX4_unlike 63 = .ok (.ireturn, 1) := by decide +kernel
theorem dX4_count_0 : decode cX4_count 0 = .ok (.iload_n 1, 1) := by decide +kernel
theorem dX4_count_1 : decode cX4_count 1 = .ok (.tableswitch 126 0 11 #[63, 70, 76, 82, 89, 94, 99, 104, 104, 104, 116, 121], 63) := by decide +kernel
theorem dX4_count_64 : decode cX4_count 64 = .ok (.aload_n 0, 1) := by decide +kernel
theorem dX4_count_65 : decode cX4_count 65 = .ok (.getfield 7, 3) := by decide +kernel
theorem dX4_count_68 : decode cX4_count 68 = .ok (.iconst 0, 1) := by decide +kernel
theorem dX4_count_69 : decode cX4_count 69 = .ok (.iaload, 1) := by decide +kernel
theorem dX4_count_70 : decode cX4_count 70 = .ok (.ireturn, 1) := by decide +kernel
theorem dX4_count_71 : decode cX4_count 71 = .ok (.aload_n 0, 1) := by decide +kernel
theorem dX4_count_72 : decode cX4_count 72 = .ok (.iconst 0, 1) := by decide +kernel
theorem dX4_count_73 : decode cX4_count 73 = .ok (.invokevirtual 208, 3) := by decide +kernel
theorem dX4_count_76 : decode cX4_count 76 = .ok (.ireturn, 1) := by decide +kernel
theorem dX4_count_77 : decode cX4_count 77 = .ok (.aload_n 0, 1) := by decide +kernel
theorem dX4_count_78 : decode cX4_count 78 = .ok (.iconst 2, 1) := by decide +kernel
theorem dX4_count_79 : decode cX4_count 79 = .ok (.invokevirtual 208, 3) := by decide +kernel
theorem dX4_count_82 : decode cX4_count 82 = .ok (.ireturn, 1) := by decide +kernel
theorem dX4_count_83 : decode cX4_count 83 = .ok (.aload_n 0, 1) := by decide +kernel
theorem dX4_count_84 : decode cX4_count 84 = .ok (.bipush 6, 2) := by decide +kernel
theorem dX4_count_86 : decode cX4_count 86 = .ok (.invokevirtual 208, 3) := by decide +kernel
theorem dX4_count_89 : decode cX4_count 89 = .ok (.ireturn, 1) := by decide +kernel
theorem dX4_count_90 : decode cX4_count 90 = .ok (.aload_n 0, 1) := by decide +kernel
theorem dX4_count_91 : decode cX4_count 91 = .ok (.invokevirtual 211, 3) := by decide +kernel
theorem dX4_count_94 : decode cX4_count 94 = .ok (.ireturn, 1) := by decide +kernel
theorem dX4_count_95 : decode cX4_count 95 = .ok (.aload_n 0, 1) := by decide +kernel
theorem dX4_count_96 : decode cX4_count 96 = .ok (.invokevirtual 163, 3) := by decide +kernel
theorem dX4_count_99 : decode cX4_count 99 = .ok (.ireturn, 1) := by decide +kernel
theorem dX4_count_100 : decode cX4_count 100 = .ok (.aload_n 0, 1) := by decide +kernel
theorem dX4_count_101 : decode cX4_count 101 = .ok (.invokevirtual 214, 3) := by decide +kernel
theorem dX4_count_104 : decode cX4_count 104 = .ok (.ireturn, 1) := by decide +kernel
theorem dX4_count_105 : decode cX4_count 105 = .ok (.aload_n 0, 1) := by decide +kernel
theorem dX4_count_106 : decode cX4_count 106 = .ok (.getfield 7, 3) := by decide +kernel
theorem dX4_count_109 : decode cX4_count 109 = .ok (.iconst 1, 1) := by decide +kernel
theorem dX4_count_110 : decode cX4_count 110 = .ok (.iload_n 1, 1) := by decide +kernel
theorem dX4_count_111 : decode cX4_count 111 = .ok (.iadd, 1) := by decide +kernel
theorem dX4_count_112 : decode cX4_count 112 = .ok (.bipush 7, 2) := by decide +kernel
theorem dX4_count_114 : decode cX4_count 114 = .ok (.isub, 1) := by decide +kernel
theorem dX4_count_115 : decode cX4_count 115 = .ok (.iaload, 1) := by decide +kernel
theorem dX4_count_116 : decode cX4_count 116 = .ok (.ireturn, 1) := by decide +kernel
theorem dX4_count_117 : decode cX4_count 117 = .ok (.aload_n 0, 1) := by decide +kernel
theorem dX4_count_118 : decode cX4_count 118 = .ok (.getfield 29, 3) := by decide +kernel
theorem dX4_count_121 : decode cX4_count 121 = .ok (.ireturn, 1) := by decide +kernel
theorem dX4_count_122 : decode cX4_count 122 = .ok (.aload_n 0, 1) := by decide +kernel
theorem dX4_count_123 : decode cX4_count 123 = .ok (.getfield 105, 3) := by decide +kernel
theorem dX4_count_126 : decode cX4_count 126 = .ok (.ireturn, 1) := by decide +kernel
theorem dX4_count_127 : decode cX4_count 127 = .ok (.bipush (-2), 2) := by decide +kernel
theorem dX4_count_129 : decode cX4_count 129 = .ok (.ireturn, 1) := by decide +kernel
end
section
theorem dL_law_0 : decode cL_law 0 = .ok (.new 7, 3) := by decide +kernel
theorem dL_law_3 : decode cL_law 3 = .ok (.dup, 1) := by decide +kernel
theorem dL_law_4 : decode cL_law 4 = .ok (.invokespecial 9, 3) := by decide +kernel
theorem dL_law_7 : decode cL_law 7 = .ok (.astore_n 1, 1) := by decide +kernel
theorem dL_law_8 : decode cL_law 8 = .ok (.new 10, 3) := by decide +kernel
theorem dL_law_11 : decode cL_law 11 = .ok (.dup, 1) := by decide +kernel
theorem dL_law_12 : decode cL_law 12 = .ok (.invokespecial 12, 3) := by decide +kernel
theorem dL_law_15 : decode cL_law 15 = .ok (.astore_n 2, 1) := by decide +kernel
theorem dL_law_16 : decode cL_law 16 = .ok (.iconst 0, 1) := by decide +kernel
theorem dL_law_17 : decode cL_law 17 = .ok (.istore_n 3, 1) := by decide +kernel
theorem dL_law_18 : decode cL_law 18 = .ok (.iload_n 3, 1) := by decide +kernel
theorem dL_law_19 : decode cL_law 19 = .ok (.aload_n 0, 1) := by decide +kernel
theorem dL_law_20 : decode cL_law 20 = .ok (.arraylength, 1) := by decide +kernel
theorem dL_law_21 : decode cL_law 21 = .ok (.iconst 5, 1) := by decide +kernel
theorem dL_law_22 : decode cL_law 22 = .ok (.isub, 1) := by decide +kernel
theorem dL_law_23 : decode cL_law 23 = .ok (.if_icmp .gt 850, 3) := by decide +kernel
theorem dL_law_26 : decode cL_law 26 = .ok (.aload_n 0, 1) := by decide +kernel
theorem dL_law_27 : decode cL_law 27 = .ok (.iload_n 3, 1) := by decide +kernel
theorem dL_law_28 : decode cL_law 28 = .ok (.iaload, 1) := by decide +kernel
theorem dL_law_29 : decode cL_law 29 = .ok (.bipush 31, 2) := by decide +kernel
theorem dL_law_31 : decode cL_law 31 = .ok (.iand, 1) := by decide +kernel
theorem dL_law_32 : decode cL_law 32 = .ok (.tableswitch 835 0 22 #[108, 161, 174, 187, 230, 263, 296, 329, 354, 367, 380, 393, 406, 449, 492, 515, 548, 581, 614, 675, 736, 769, 812], 108) := by decide +kernel
theorem dL_law_140 : decode cL_law 140 = .ok (.aload_n 1, 1) := by decide +kernel
theorem dL_law_141 : decode cL_law 141 = .ok (.aload_n 0, 1) := by decide +kernel
theorem dL_law_142 : decode cL_law 142 = .ok (.iload_n 3, 1) := by decide +kernel
theorem dL_law_143 : decode cL_law 143 = .ok (.iconst 1, 1) := by decide +kernel
theorem dL_law_144 : decode cL_law 144 = .ok (.iadd, 1) := by decide +kernel
theorem dL_law_145 : decode cL_law 145 = .ok (.iaload, 1) := by decide +kernel
theorem dL_law_146 : decode cL_law 146 = .ok (.aload_n 0, 1) := by decide +kernel
theorem dL_law_147 : decode cL_law 147 = .ok (.iload_n 3, 1) := by decide +kernel
theorem dL_law_148 : decode cL_law 148 = .ok (.iconst 2, 1) := by decide +kernel
theorem dL_law_149 : decode cL_law 149 = .ok (.iadd, 1) := by decide +kernel
theorem dL_law_150 : decode cL_law 150 = .ok (.iaload, 1) := by decide +kernel
theorem dL_law_151 : decode cL_law 151 = .ok (.aload_n 0, 1) := by decide +kernel
theorem dL_law_152 : decode cL_law 152 = .ok (.iload_n 3, 1) := by decide +kernel
theorem dL_law_153 : decode cL_law 153 = .ok (.iconst 3, 1) := by decide +kernel
theorem dL_law_154 : decode cL_law 154 = .ok (.iadd, 1) := by decide +kernel
theorem dL_law_155 : decode cL_law 155 = .ok (.iaload, 1) := by decide +kernel
theorem dL_law_156 : decode cL_law 156 = .ok (.aload_n 0, 1) := by decide +kernel
theorem dL_law_157 : decode cL_law 157 = .ok (.iload_n 3, 1) := by decide +kernel
theorem dL_law_158 : decode cL_law 158 = .ok (.iconst 4, 1) := by decide +kernel
theorem dL_law_159 : decode cL_law 159 = .ok (.iadd, 1) := by decide +kernel
theorem dL_law_160 : decode cL_law 160 = .ok (.iaload, 1) := by decide +kernel
theorem dL_law_161 : decode cL_law 161 = .ok (.invokevirtual 13, 3) := by decide +kernel
theorem dL_law_164 : decode cL_law 164 = .ok (.aload_n 2, 1) := by decide +kernel
theorem dL_law_165 : decode cL_law 165 = .ok (.aload_n 0, 1) := by decide +kernel
theorem dL_law_166 : decode cL_law 166 = .ok (.iload_n 3, 1) := by decide +kernel
theorem dL_law_167 : decode cL_law 167 = .ok (.iconst 1, 1) := by decide +kernel
theorem dL_law_168 : decode cL_law 168 = .ok (.iadd, 1) := by decide +kernel
theorem dL_law_169 : decode cL_law 169 = .ok (.iaload, 1) := by decide +kernel
theorem dL_law_170 : decode cL_law 170 = .ok (.aload_n 0, 1) := by decide +kernel
theorem dL_law_171 : decode cL_law 171 = .ok (.iload_n 3, 1) := by decide +kernel
theorem dL_law_172 : decode cL_law 172 = .ok (.iconst 2, 1) := by decide +kernel
theorem dL_law_173 : decode cL_law 173 = .ok (.iadd, 1) := by decide +kernel
theorem dL_law_174 : decode cL_law 174 = .ok (.iaload, 1) := by decide +kernel
theorem dL_law_175 : decode cL_law 175 = .ok (.aload_n 0, 1) := by decide +kernel
theorem dL_law_176 : decode cL_law 176 = .ok (.iload_n 3, 1) := by decide +kernel
theorem dL_law_177 : decode cL_law 177 = .ok (.iconst 3, 1) := by decide +kernel
theorem dL_law_178 : decode cL_law 178 = .ok (.iadd, 1) := by decide +kernel
theorem dL_law_179 : decode cL_law 179 = .ok (.iaload, 1) := by decide +kernel
theorem dL_law_180 : decode cL_law 180 = .ok (.aload_n 0, 1) := by decide +kernel
theorem dL_law_181 : decode cL_law 181 = .ok (.iload_n 3, 1) := by decide +kernel
theorem dL_law_182 : decode cL_law 182 = .ok (.iconst 4, 1) := by decide +kernel
theorem dL_law_183 : decode cL_law 183 = .ok (.iadd, 1) := by decide +kernel
theorem dL_law_184 : decode cL_law 184 = .ok (.iaload, 1) := by decide +kernel
theorem dL_law_185 : decode cL_law 185 = .ok (.invokevirtual 17, 3) := by decide +kernel
theorem dL_law_188 : decode cL_law 188 = .ok (.if_icmp .eq 679, 3) := by decide +kernel
theorem dL_law_191 : decode cL_law 191 = .ok (.iconst 0, 1) := by decide +kernel
theorem dL_law_192 : decode cL_law 192 = .ok (.ireturn, 1) := by decide +kernel
theorem dL_law_193 : decode cL_law 193 = .ok (.aload_n 1, 1) := by decide +kernel
theorem dL_law_194 : decode cL_law 194 = .ok (.invokevirtual 18, 3) := by decide +kernel
theorem dL_law_197 : decode cL_law 197 = .ok (.aload_n 2, 1) := by decide +kernel
theorem dL_law_198 : decode cL_law 198 = .ok (.invokevirtual 22, 3) := by decide +kernel
theorem dL_law_201 : decode cL_law 201 = .ok (.if_icmp .eq 666, 3) := by decide +kernel
theorem dL_law_204 : decode cL_law 204 = .ok (.iconst 0, 1) := by decide +kernel
theorem dL_law_205 : decode cL_law 205 = .ok (.ireturn, 1) := by decide +kernel
theorem dL_law_206 : decode cL_law 206 = .ok (.aload_n 1, 1) := by decide +kernel
theorem dL_law_207 : decode cL_law 207 = .ok (.invokevirtual 23, 3) := by decide +kernel
theorem dL_law_210 : decode cL_law 210 = .ok (.aload_n 2, 1) := by decide +kernel
theorem dL_law_211 : decode cL_law 211 = .ok (.invokevirtual 26, 3) := by decide +kernel
theorem dL_law_214 : decode cL_law 214 = .ok (.if_icmp .eq 653, 3) := by decide +kernel
theorem dL_law_217 : decode cL_law 217 = .ok (.iconst 0, 1) := by decide +kernel
theorem dL_law_218 : decode cL_law 218 = .ok (.ireturn, 1) := by decide +kernel
theorem dL_law_219 : decode cL_law 219 = .ok (.aload_n 1, 1) := by decide +kernel
theorem dL_law_220 : decode cL_law 220 = .ok (.aload_n 0, 1) := by decide +kernel
theorem dL_law_221 : decode cL_law 221 = .ok (.iload_n 3, 1) := by decide +kernel
theorem dL_law_222 : decode cL_law 222 = .ok (.iconst 1, 1) := by decide +kernel
theorem dL_law_223 : decode cL_law 223 = .ok (.iadd, 1) := by decide +kernel
theorem dL_law_224 : decode cL_law 224 = .ok (.iaload, 1) := by decide +kernel
theorem dL_law_225 : decode cL_law 225 = .ok (.aload_n 0, 1) := by decide +kernel
theorem dL_law_226 : decode cL_law 226 = .ok (.iload_n 3, 1) := by decide +kernel
theorem dL_law_227 : decode cL_law 227 = .ok (.iconst 2, 1) := by decide +kernel
theorem dL_law_228 : decode cL_law 228 = .ok (.iadd, 1) := by decide +kernel
theorem dL_law_229 : decode cL_law 229 = .ok (.iaload, 1) := by decide +kernel
theorem dL_law_230 : decode cL_law 230 = .ok (.aload_n 0, 1) := by decide +kernel
theorem dL_law_231 : decode cL_law 231 = .ok (.iload_n 3, 1) := by decide +kernel
theorem dL_law_232 : decode cL_law 232 = .ok (.iconst 3, 1) := by decide +kernel
theorem dL_law_233 : decode cL_law 233 = .ok (.iadd, 1) := by decide +kernel
theorem dL_law_234 : decode cL_law 234 = .ok (.iaload, 1) := by decide +kernel
theorem dL_law_235 : decode cL_law 235 = .ok (.invokevirtual 27, 3) := by decide +kernel
theorem dL_law_238 : decode cL_law 238 = .ok (.aload_n 2, 1) := by decide +kernel
theorem dL_law_239 : decode cL_law 239 = .ok (.aload_n 0, 1) := by decide +kernel
theorem dL_law_240 : decode cL_law 240 = .ok (.iload_n 3, 1) := by decide +kernel
theorem dL_law_241 : decode cL_law 241 = .ok (.iconst 1, 1) := by decide +kernel
theorem dL_law_242 : decode cL_law 242 = .ok (.iadd, 1) := by decide +kernel
theorem dL_law_243 : decode cL_law 243 = .ok (.iaload, 1) := by decide +kernel
theorem dL_law_244 : decode cL_law 244 = .ok (.aload_n 0, 1) := by decide +kernel
theorem dL_law_245 : decode cL_law 245 = .ok (.iload_n 3, 1) := by decide +kernel
theorem dL_law_246 : decode cL_law 246 = .ok (.iconst 2, 1) := by decide +kernel
theorem dL_law_247 : decode cL_law 247 = .ok (.iadd, 1) := by decide +kernel
theorem dL_law_248 : decode cL_law 248 = .ok (.iaload, 1) := by decide +kernel
theorem dL_law_249 : decode cL_law 249 = .ok (.aload_n 0, 1) := by decide +kernel
theorem dL_law_250 : decode cL_law 250 = .ok (.iload_n 3, 1) := by decide +kernel
theorem dL_law_251 : decode cL_law 251 = .ok (.iconst 3, 1) := by decide +kernel
theorem dL_law_252 : decode cL_law 252 = .ok (.iadd, 1) := by decide +kernel
theorem dL_law_253 : decode cL_law 253 = .ok (.iaload, 1) := by decide +kernel
theorem dL_law_254 : decode cL_law 254 = .ok (.invokevirtual 31, 3) := by decide +kernel
theorem dL_law_257 : decode cL_law 257 = .ok (.if_icmp .eq 610, 3) := by decide +kernel
theorem dL_law_260 : decode cL_law 260 = .ok (.iconst 0, 1) := by decide +kernel
theorem dL_law_261 : decode cL_law 261 = .ok (.ireturn, 1) := by decide +kernel
theorem dL_law_262 : decode cL_law 262 = .ok (.aload_n 1, 1) := by decide +kernel
theorem dL_law_263 : decode cL_law 263 = .ok (.aload_n 0, 1) := by decide +kernel
theorem dL_law_264 : decode cL_law 264 = .ok (.iload_n 3, 1) := by decide +kernel
theorem dL_law_265 : decode cL_law 265 = .ok (.iconst 1, 1) := by decide +kernel
theorem dL_law_266 : decode cL_law 266 = .ok (.iadd, 1) := by decide +kernel
theorem dL_law_267 : decode cL_law 267 = .ok (.iaload, 1) := by decide +kernel
theorem dL_law_268 : decode cL_law 268 = .ok (.aload_n 0, 1) := by decide +kernel
theorem dL_law_269 : decode cL_law 269 = .ok (.iload_n 3, 1) := by decide +kernel
theorem dL_law_270 : decode cL_law 270 = .ok (.iconst 2, 1) := by decide +kernel
theorem dL_law_271 : decode cL_law 271 = .ok (.iadd, 1) := by decide +kernel
theorem dL_law_272 : decode cL_law 272 = .ok (.iaload, 1) := by decide +kernel
theorem dL_law_273 : decode cL_law 273 = .ok (.invokevirtual 32, 3) := by decide +kernel
theorem dL_law_276 : decode cL_law 276 = .ok (.aload_n 2, 1) := by decide +kernel
theorem dL_law_277 : decode cL_law 277 = .ok (.aload_n 0, 1) := by decide +kernel
theorem dL_law_278 : decode cL_law 278 = .ok (.iload_n 3, 1) := by decide +kernel
theorem dL_law_279 : decode cL_law 279 = .ok (.iconst 1, 1) := by decide +kernel
theorem dL_law_280 : decode cL_law 280 = .ok (.iadd, 1) := by decide +kernel
theorem dL_law_281 : decode cL_law 281 = .ok (.iaload, 1) := by decide +kernel
theorem dL_law_282 : decode cL_law 282 = .ok (.aload_n 0, 1) := by decide +kernel
theorem dL_law_283 : decode cL_law 283 = .ok (.iload_n 3, 1) := by decide +kernel
theorem dL_law_284 : decode cL_law 284 = .ok (.iconst 2, 1) := by decide +kernel
theorem dL_law_285 : decode cL_law 285 = .ok (.iadd, 1) := by decide +kernel
theorem dL_law_286 : decode cL_law 286 = .ok (.iaload, 1) := by decide +kernel
theorem dL_law_287 : decode cL_law 287 = .ok (.invokevirtual 36, 3) := by decide +kernel
theorem dL_law_290 : decode cL_law 290 = .ok (.if_icmp .eq 577, 3) := by decide +kernel
theorem dL_law_293 : decode cL_law 293 = .ok (.iconst 0, 1) := by decide +kernel
theorem dL_law_294 : decode cL_law 294 = .ok (.ireturn, 1) := by decide +kernel
theorem dL_law_295 : decode cL_law 295 = .ok (.aload_n 1, 1) := by decide +kernel
theorem dL_law_296 : decode cL_law 296 = .ok (.aload_n 0, 1) := by decide +kernel
theorem dL_law_297 : decode cL_law 297 = .ok (.iload_n 3, 1) := by decide +kernel
theorem dL_law_298 : decode cL_law 298 = .ok (.iconst 1, 1) := by decide +kernel
theorem dL_law_299 : decode cL_law 299 = .ok (.iadd, 1) := by decide +kernel
theorem dL_law_300 : decode cL_law 300 = .ok (.iaload, 1) := by decide +kernel
theorem dL_law_301 : decode cL_law 301 = .ok (.aload_n 0, 1) := by decide +kernel
theorem dL_law_302 : decode cL_law 302 = .ok (.iload_n 3, 1) := by decide +kernel
theorem dL_law_303 : decode cL_law 303 = .ok (.iconst 2, 1) := by decide +kernel
theorem dL_law_304 : decode cL_law 304 = .ok (.iadd, 1) := by decide +kernel
theorem dL_law_305 : decode cL_law 305 = .ok (.iaload, 1) := by decide +kernel
theorem dL_law_306 : decode cL_law 306 = .ok (.invokevirtual 37, 3) := by decide +kernel
theorem dL_law_309 : decode cL_law 309 = .ok (.aload_n 2, 1) := by decide +kernel
theorem dL_law_310 : decode cL_law 310 = .ok (.aload_n 0, 1) := by decide +kernel
theorem dL_law_311 : decode cL_law 311 = .ok (.iload_n 3, 1) := by decide +kernel
theorem dL_law_312 : decode cL_law 312 = .ok (.iconst 1, 1) := by decide +kernel
theorem dL_law_313 : decode cL_law 313 = .ok (.iadd, 1) := by decide +kernel
theorem dL_law_314 : decode cL_law 314 = .ok (.iaload, 1) := by decide +kernel
theorem dL_law_315 : decode cL_law 315 = .ok (.aload_n 0, 1) := by decide +kernel
theorem dL_law_316 : decode cL_law 316 = .ok (.iload_n 3, 1) := by decide +kernel
theorem dL_law_317 : decode cL_law 317 = .ok (.iconst 2, 1) := by decide +kernel
theorem dL_law_318 : decode cL_law 318 = .ok (.iadd, 1) := by decide +kernel
theorem dL_law_319 : decode cL_law 319 = .ok (.iaload, 1) := by decide +kernel
theorem dL_law_320 : decode cL_law 320 = .ok (.invokevirtual 40, 3) := by decide +kernel
theorem dL_law_323 : decode cL_law 323 = .ok (.if_icmp .eq 544, 3) := by decide +kernel
theorem dL_law_326 : decode cL_law 326 = .ok (.iconst 0, 1) := by decide +kernel
theorem dL_law_327 : decode cL_law 327 = .ok (.ireturn, 1) := by decide +kernel
theorem dL_law_328 : decode cL_law 328 = .ok (.aload_n 1, 1) := by decide +kernel
theorem dL_law_329 : decode cL_law 329 = .ok (.aload_n 0, 1) := by decide +kernel
theorem dL_law_330 : decode cL_law 330 = .ok (.iload_n 3, 1) := by decide +kernel
theorem dL_law_331 : decode cL_law 331 = .ok (.iconst 1, 1) := by decide +kernel
theorem dL_law_332 : decode cL_law 332 = .ok (.iadd, 1) := by decide +kernel
theorem dL_law_333 : decode cL_law 333 = .ok (.iaload, 1) := by decide +kernel
theorem dL_law_334 : decode cL_law 334 = .ok (.aload_n 0, 1) := by decide +kernel
theorem dL_law_335 : decode cL_law 335 = .ok (.iload_n 3, 1) := by decide +kernel
theorem dL_law_336 : decode cL_law 336 = .ok (.iconst 2, 1) := by decide +kernel
theorem dL_law_337 : decode cL_law 337 = .ok (.iadd, 1) := by decide +kernel
theorem dL_law_338 : decode cL_law 338 = .ok (.iaload, 1) := by decide +kernel
theorem dL_law_339 : decode cL_law 339 = .ok (.invokevirtual 41, 3) := by decide +kernel
theorem dL_law_342 : decode cL_law 342 = .ok (.aload_n 2, 1) := by decide +kernel
theorem dL_law_343 : decode cL_law 343 = .ok (.aload_n 0, 1) := by decide +kernel
theorem dL_law_344 : decode cL_law 344 = .ok (.iload_n 3, 1) := by decide +kernel
theorem dL_law_345 : decode cL_law 345 = .ok (.iconst 1, 1) := by decide +kernel
theorem dL_law_346 : decode cL_law 346 = .ok (.iadd, 1) := by decide +kernel
theorem dL_law_347 : decode cL_law 347 = .ok (.iaload, 1) := by decide +kernel
theorem dL_law_348 : decode cL_law 348 = .ok (.aload_n 0, 1) := by decide +kernel
theorem dL_law_349 : decode cL_law 349 = .ok (.iload_n 3, 1) := by decide +kernel
theorem dL_law_350 : decode cL_law 350 = .ok (.iconst 2, 1) := by decide +kernel
theorem dL_law_351 : decode cL_law 351 = .ok (.iadd, 1) := by decide +kernel
theorem dL_law_352 : decode cL_law 352 = .ok (.iaload, 1) := by decide +kernel
theorem dL_law_353 : decode cL_law 353 = .ok (.invokevirtual 44, 3) := by decide +kernel
theorem dL_law_356 : decode cL_law 356 = .ok (.if_icmp .eq 511, 3) := by decide +kernel
theorem dL_law_359 : decode cL_law 359 = .ok (.iconst 0, 1) := by decide +kernel
end
section
theorem dL_law_360 : decode cL_law 360 = .ok (.ireturn, 1) := by decide +kernel
theorem dL_law_361 : decode cL_law 361 = .ok (.aload_n 1, 1) := by decide +kernel
theorem dL_law_362 : decode cL_law 362 = .ok (.aload_n 0, 1) := by decide +kernel
theorem dL_law_363 : decode cL_law 363 = .ok (.iload_n 3, 1) := by decide +kernel
theorem dL_law_364 : decode cL_law 364 = .ok (.iconst 1, 1) := by decide +kernel
theorem dL_law_365 : decode cL_law 365 = .ok (.iadd, 1) := by decide +kernel
theorem dL_law_366 : decode cL_law 366 = .ok (.iaload, 1) := by decide +kernel
theorem dL_law_367 : decode cL_law 367 = .ok (.i2c, 1) := by decide +kernel
theorem dL_law_368 : decode cL_law 368 = .ok (.invokevirtual 45, 3) := by decide +kernel
theorem dL_law_371 : decode cL_law 371 = .ok (.aload_n 2, 1) := by decide +kernel
theorem dL_law_372 : decode cL_law 372 = .ok (.aload_n 0, 1) := by decide +kernel
theorem dL_law_373 : decode cL_law 373 = .ok (.iload_n 3, 1) := by decide +kernel
theorem dL_law_374 : decode cL_law 374 = .ok (.iconst 1, 1) := by decide +kernel
theorem dL_law_375 : decode cL_law 375 = .ok (.iadd, 1) := by decide +kernel
theorem dL_law_376 : decode cL_law 376 = .ok (.iaload, 1) := by decide +kernel
theorem dL_law_377 : decode cL_law 377 = .ok (.i2c, 1) := by decide +kernel
theorem dL_law_378 : decode cL_law 378 = .ok (.invokevirtual 49, 3) := by decide +kernel
theorem dL_law_381 : decode cL_law 381 = .ok (.if_icmp .eq 486, 3) := by decide +kernel
theorem dL_law_384 : decode cL_law 384 = .ok (.iconst 0, 1) := by decide +kernel
theorem dL_law_385 : decode cL_law 385 = .ok (.ireturn, 1) := by decide +kernel
theorem dL_law_386 : decode cL_law 386 = .ok (.aload_n 1, 1) := by decide +kernel
theorem dL_law_387 : decode cL_law 387 = .ok (.invokevirtual 50, 3) := by decide +kernel
theorem dL_law_390 : decode cL_law 390 = .ok (.aload_n 2, 1) := by decide +kernel
theorem dL_law_391 : decode cL_law 391 = .ok (.invokevirtual 53, 3) := by decide +kernel
theorem dL_law_394 : decode cL_law 394 = .ok (.if_icmp .eq 473, 3) := by decide +kernel
theorem dL_law_397 : decode cL_law 397 = .ok (.iconst 0, 1) := by decide +kernel
theorem dL_law_398 : decode cL_law 398 = .ok (.ireturn, 1) := by decide +kernel
theorem dL_law_399 : decode cL_law 399 = .ok (.aload_n 1, 1) := by decide +kernel
theorem dL_law_400 : decode cL_law 400 = .ok (.invokevirtual 54, 3) := by decide +kernel
theorem dL_law_403 : decode cL_law 403 = .ok (.aload_n 2, 1) := by decide +kernel
theorem dL_law_404 : decode cL_law 404 = .ok (.invokevirtual 57, 3) := by decide +kernel
theorem dL_law_407 : decode cL_law 407 = .ok (.if_icmp .eq 460, 3) := by decide +kernel
theorem dL_law_410 : decode cL_law 410 = .ok (.iconst 0, 1) := by decide +kernel
theorem dL_law_411 : decode cL_law 411 = .ok (.ireturn, 1) := by decide +kernel
theorem dL_law_412 : decode cL_law 412 = .ok (.aload_n 1, 1) := by decide +kernel
theorem dL_law_413 : decode cL_law 413 = .ok (.invokevirtual 58, 3) := by decide +kernel
theorem dL_law_416 : decode cL_law 416 = .ok (.aload_n 2, 1) := by decide +kernel
theorem dL_law_417 : decode cL_law 417 = .ok (.invokevirtual 61, 3) := by decide +kernel
theorem dL_law_420 : decode cL_law 420 = .ok (.if_icmp .eq 447, 3) := by decide +kernel
theorem dL_law_423 : decode cL_law 423 = .ok (.iconst 0, 1) := by decide +kernel
theorem dL_law_424 : decode cL_law 424 = .ok (.ireturn, 1) := by decide +kernel
theorem dL_law_425 : decode cL_law 425 = .ok (.aload_n 1, 1) := by decide +kernel
theorem dL_law_426 : decode cL_law 426 = .ok (.invokevirtual 62, 3) := by decide +kernel
theorem dL_law_429 : decode cL_law 429 = .ok (.aload_n 2, 1) := by decide +kernel
theorem dL_law_430 : decode cL_law 430 = .ok (.invokevirtual 65, 3) := by decide +kernel
theorem dL_law_433 : decode cL_law 433 = .ok (.if_icmp .eq 434, 3) := by decide +kernel
theorem dL_law_436 : decode cL_law 436 = .ok (.iconst 0, 1) := by decide +kernel
theorem dL_law_437 : decode cL_law 437 = .ok (.ireturn, 1) := by decide +kernel
theorem dL_law_438 : decode cL_law 438 = .ok (.aload_n 1, 1) := by decide +kernel
theorem dL_law_439 : decode cL_law 439 = .ok (.aload_n 0, 1) := by decide +kernel
theorem dL_law_440 : decode cL_law 440 = .ok (.iload_n 3, 1) := by decide +kernel
theorem dL_law_441 : decode cL_law 441 = .ok (.iconst 1, 1) := by decide +kernel
theorem dL_law_442 : decode cL_law 442 = .ok (.iadd, 1) := by decide +kernel
theorem dL_law_443 : decode cL_law 443 = .ok (.iaload, 1) := by decide +kernel
theorem dL_law_444 : decode cL_law 444 = .ok (.aload_n 0, 1) := by decide +kernel
theorem dL_law_445 : decode cL_law 445 = .ok (.iload_n 3, 1) := by decide +kernel
theorem dL_law_446 : decode cL_law 446 = .ok (.iconst 2, 1) := by decide +kernel
theorem dL_law_447 : decode cL_law 447 = .ok (.iadd, 1) := by decide +kernel
theorem dL_law_448 : decode cL_law 448 = .ok (.iaload, 1) := by decide +kernel
theorem dL_law_449 : decode cL_law 449 = .ok (.aload_n 0, 1) := by decide +kernel
theorem dL_law_450 : decode cL_law 450 = .ok (.iload_n 3, 1) := by decide +kernel
theorem dL_law_451 : decode cL_law 451 = .ok (.iconst 3, 1) := by decide +kernel
theorem dL_law_452 : decode cL_law 452 = .ok (.iadd, 1) := by decide +kernel
theorem dL_law_453 : decode cL_law 453 = .ok (.iaload, 1) := by decide +kernel
theorem dL_law_454 : decode cL_law 454 = .ok (.invokevirtual 66, 3) := by decide +kernel
theorem dL_law_457 : decode cL_law 457 = .ok (.aload_n 2, 1) := by decide +kernel
theorem dL_law_458 : decode cL_law 458 = .ok (.aload_n 0, 1) := by decide +kernel
theorem dL_law_459 : decode cL_law 459 = .ok (.iload_n 3, 1) := by decide +kernel
theorem dL_law_460 : decode cL_law 460 = .ok (.iconst 1, 1) := by decide +kernel
theorem dL_law_461 : decode cL_law 461 = .ok (.iadd, 1) := by decide +kernel
theorem dL_law_462 : decode cL_law 462 = .ok (.iaload, 1) := by decide +kernel
theorem dL_law_463 : decode cL_law 463 = .ok (.aload_n 0, 1) := by decide +kernel
theorem dL_law_464 : decode cL_law 464 = .ok (.iload_n 3, 1) := by decide +kernel
theorem dL_law_465 : decode cL_law 465 = .ok (.iconst 2, 1) := by decide +kernel
theorem dL_law_466 : decode cL_law 466 = .ok (.iadd, 1) := by decide +kernel
theorem dL_law_467 : decode cL_law 467 = .ok (.iaload, 1) := by decide +kernel
theorem dL_law_468 : decode cL_law 468 = .ok (.aload_n 0, 1) := by decide +kernel
theorem dL_law_469 : decode cL_law 469 = .ok (.iload_n 3, 1) := by decide +kernel
theorem dL_law_470 : decode cL_law 470 = .ok (.iconst 3, 1) := by decide +kernel
theorem dL_law_471 : decode cL_law 471 = .ok (.iadd, 1) := by decide +kernel
theorem dL_law_472 : decode cL_law 472 = .ok (.iaload, 1) := by decide +kernel
theorem dL_law_473 : decode cL_law 473 = .ok (.invokevirtual 69, 3) := by decide +kernel
theorem dL_law_476 : decode cL_law 476 = .ok (.if_icmp .eq 391, 3) := by decide +kernel
theorem dL_law_479 : decode cL_law 479 = .ok (.iconst 0, 1) := by decide +kernel
theorem dL_law_480 : decode cL_law 480 = .ok (.ireturn, 1) := by decide +kernel
theorem dL_law_481 : decode cL_law 481 = .ok (.aload_n 1, 1) := by decide +kernel
theorem dL_law_482 : decode cL_law 482 = .ok (.aload_n 0, 1) := by decide +kernel
theorem dL_law_483 : decode cL_law 483 = .ok (.iload_n 3, 1) := by decide +kernel
theorem dL_law_484 : decode cL_law 484 = .ok (.iconst 1, 1) := by decide +kernel
theorem dL_law_485 : decode cL_law 485 = .ok (.iadd, 1) := by decide +kernel
theorem dL_law_486 : decode cL_law 486 = .ok (.iaload, 1) := by decide +kernel
theorem dL_law_487 : decode cL_law 487 = .ok (.aload_n 0, 1) := by decide +kernel
theorem dL_law_488 : decode cL_law 488 = .ok (.iload_n 3, 1) := by decide +kernel
theorem dL_law_489 : decode cL_law 489 = .ok (.iconst 2, 1) := by decide +kernel
theorem dL_law_490 : decode cL_law 490 = .ok (.iadd, 1) := by decide +kernel
theorem dL_law_491 : decode cL_law 491 = .ok (.iaload, 1) := by decide +kernel
theorem dL_law_492 : decode cL_law 492 = .ok (.aload_n 0, 1) := by decide +kernel
theorem dL_law_493 : decode cL_law 493 = .ok (.iload_n 3, 1) := by decide +kernel
theorem dL_law_494 : decode cL_law 494 = .ok (.iconst 3, 1) := by decide +kernel
theorem dL_law_495 : decode cL_law 495 = .ok (.iadd, 1) := by decide +kernel
theorem dL_law_496 : decode cL_law 496 = .ok (.iaload, 1) := by decide +kernel
theorem dL_law_497 : decode cL_law 497 = .ok (.invokevirtual 70, 3) := by decide +kernel
theorem dL_law_500 : decode cL_law 500 = .ok (.aload_n 2, 1) := by decide +kernel
theorem dL_law_501 : decode cL_law 501 = .ok (.aload_n 0, 1) := by decide +kernel
theorem dL_law_502 : decode cL_law 502 = .ok (.iload_n 3, 1) := by decide +kernel
theorem dL_law_503 : decode cL_law 503 = .ok (.iconst 1, 1) := by decide +kernel
theorem dL_law_504 : decode cL_law 504 = .ok (.iadd, 1) := by decide +kernel
theorem dL_law_505 : decode cL_law 505 = .ok (.iaload, 1) := by decide +kernel
theorem dL_law_506 : decode cL_law 506 = .ok (.aload_n 0, 1) := by decide +kernel
theorem dL_law_507 : decode cL_law 507 = .ok (.iload_n 3, 1) := by decide +kernel
theorem dL_law_508 : decode cL_law 508 = .ok (.iconst 2, 1) := by decide +kernel
theorem dL_law_509 : decode cL_law 509 = .ok (.iadd, 1) := by decide +kernel
theorem dL_law_510 : decode cL_law 510 = .ok (.iaload, 1) := by decide +kernel
theorem dL_law_511 : decode cL_law 511 = .ok (.aload_n 0, 1) := by decide +kernel
theorem dL_law_512 : decode cL_law 512 = .ok (.iload_n 3, 1) := by decide +kernel
theorem dL_law_513 : decode cL_law 513 = .ok (.iconst 3, 1) := by decide +kernel
theorem dL_law_514 : decode cL_law 514 = .ok (.iadd, 1) := by decide +kernel
theorem dL_law_515 : decode cL_law 515 = .ok (.iaload, 1) := by decide +kernel
theorem dL_law_516 : decode cL_law 516 = .ok (.invokevirtual 73, 3) := by decide +kernel
theorem dL_law_519 : decode cL_law 519 = .ok (.if_icmp .eq 348, 3) := by decide +kernel
theorem dL_law_522 : decode cL_law 522 = .ok (.iconst 0, 1) := by decide +kernel
theorem dL_law_523 : decode cL_law 523 = .ok (.ireturn, 1) := by decide +kernel
theorem dL_law_524 : decode cL_law 524 = .ok (.aload_n 1, 1) := by decide +kernel
theorem dL_law_525 : decode cL_law 525 = .ok (.aload_n 0, 1) := by decide +kernel
theorem dL_law_526 : decode cL_law 526 = .ok (.iload_n 3, 1) := by decide +kernel
theorem dL_law_527 : decode cL_law 527 = .ok (.iconst 1, 1) := by decide +kernel
theorem dL_law_528 : decode cL_law 528 = .ok (.iadd, 1) := by decide +kernel
theorem dL_law_529 : decode cL_law 529 = .ok (.iaload, 1) := by decide +kernel
theorem dL_law_530 : decode cL_law 530 = .ok (.invokevirtual 74, 3) := by decide +kernel
theorem dL_law_533 : decode cL_law 533 = .ok (.aload_n 2, 1) := by decide +kernel
theorem dL_law_534 : decode cL_law 534 = .ok (.aload_n 0, 1) := by decide +kernel
theorem dL_law_535 : decode cL_law 535 = .ok (.iload_n 3, 1) := by decide +kernel
theorem dL_law_536 : decode cL_law 536 = .ok (.iconst 1, 1) := by decide +kernel
theorem dL_law_537 : decode cL_law 537 = .ok (.iadd, 1) := by decide +kernel
theorem dL_law_538 : decode cL_law 538 = .ok (.iaload, 1) := by decide +kernel
theorem dL_law_539 : decode cL_law 539 = .ok (.invokevirtual 78, 3) := by decide +kernel
theorem dL_law_542 : decode cL_law 542 = .ok (.if_icmp .eq 325, 3) := by decide +kernel
theorem dL_law_545 : decode cL_law 545 = .ok (.iconst 0, 1) := by decide +kernel
theorem dL_law_546 : decode cL_law 546 = .ok (.ireturn, 1) := by decide +kernel
theorem dL_law_547 : decode cL_law 547 = .ok (.aload_n 1, 1) := by decide +kernel
theorem dL_law_548 : decode cL_law 548 = .ok (.aload_n 0, 1) := by decide +kernel
theorem dL_law_549 : decode cL_law 549 = .ok (.iload_n 3, 1) := by decide +kernel
theorem dL_law_550 : decode cL_law 550 = .ok (.iconst 1, 1) := by decide +kernel
theorem dL_law_551 : decode cL_law 551 = .ok (.iadd, 1) := by decide +kernel
theorem dL_law_552 : decode cL_law 552 = .ok (.iaload, 1) := by decide +kernel
theorem dL_law_553 : decode cL_law 553 = .ok (.aload_n 0, 1) := by decide +kernel
theorem dL_law_554 : decode cL_law 554 = .ok (.iload_n 3, 1) := by decide +kernel
theorem dL_law_555 : decode cL_law 555 = .ok (.iconst 2, 1) := by decide +kernel
theorem dL_law_556 : decode cL_law 556 = .ok (.iadd, 1) := by decide +kernel
theorem dL_law_557 : decode cL_law 557 = .ok (.iaload, 1) := by decide +kernel
theorem dL_law_558 : decode cL_law 558 = .ok (.invokevirtual 79, 3) := by decide +kernel
theorem dL_law_561 : decode cL_law 561 = .ok (.aload_n 2, 1) := by decide +kernel
theorem dL_law_562 : decode cL_law 562 = .ok (.aload_n 0, 1) := by decide +kernel
theorem dL_law_563 : decode cL_law 563 = .ok (.iload_n 3, 1) := by decide +kernel
theorem dL_law_564 : decode cL_law 564 = .ok (.iconst 1, 1) := by decide +kernel
theorem dL_law_565 : decode cL_law 565 = .ok (.iadd, 1) := by decide +kernel
theorem dL_law_566 : decode cL_law 566 = .ok (.iaload, 1) := by decide +kernel
theorem dL_law_567 : decode cL_law 567 = .ok (.aload_n 0, 1) := by decide +kernel
theorem dL_law_568 : decode cL_law 568 = .ok (.iload_n 3, 1) := by decide +kernel
theorem dL_law_569 : decode cL_law 569 = .ok (.iconst 2, 1) := by decide +kernel
theorem dL_law_570 : decode cL_law 570 = .ok (.iadd, 1) := by decide +kernel
theorem dL_law_571 : decode cL_law 571 = .ok (.iaload, 1) := by decide +kernel
theorem dL_law_572 : decode cL_law 572 = .ok (.invokevirtual 82, 3) := by decide +kernel
theorem dL_law_575 : decode cL_law 575 = .ok (.if_icmp .eq 292, 3) := by decide +kernel
theorem dL_law_578 : decode cL_law 578 = .ok (.iconst 0, 1) := by decide +kernel
theorem dL_law_579 : decode cL_law 579 = .ok (.ireturn, 1) := by decide +kernel
theorem dL_law_580 : decode cL_law 580 = .ok (.aload_n 1, 1) := by decide +kernel
theorem dL_law_581 : decode cL_law 581 = .ok (.aload_n 0, 1) := by decide +kernel
theorem dL_law_582 : decode cL_law 582 = .ok (.iload_n 3, 1) := by decide +kernel
theorem dL_law_583 : decode cL_law 583 = .ok (.iconst 1, 1) := by decide +kernel
theorem dL_law_584 : decode cL_law 584 = .ok (.iadd, 1) := by decide +kernel
theorem dL_law_585 : decode cL_law 585 = .ok (.iaload, 1) := by decide +kernel
theorem dL_law_586 : decode cL_law 586 = .ok (.aload_n 0, 1) := by decide +kernel
theorem dL_law_587 : decode cL_law 587 = .ok (.iload_n 3, 1) := by decide +kernel
theorem dL_law_588 : decode cL_law 588 = .ok (.iconst 2, 1) := by decide +kernel
theorem dL_law_589 : decode cL_law 589 = .ok (.iadd, 1) := by decide +kernel
theorem dL_law_590 : decode cL_law 590 = .ok (.iaload, 1) := by decide +kernel
theorem dL_law_591 : decode cL_law 591 = .ok (.invokevirtual 83, 3) := by decide +kernel
theorem dL_law_594 : decode cL_law 594 = .ok (.aload_n 2, 1) := by decide +kernel
theorem dL_law_595 : decode cL_law 595 = .ok (.aload_n 0, 1) := by decide +kernel
theorem dL_law_596 : decode cL_law 596 = .ok (.iload_n 3, 1) := by decide +kernel
theorem dL_law_597 : decode cL_law 597 = .ok (.iconst 1, 1) := by decide +kernel
theorem dL_law_598 : decode cL_law 598 = .ok (.iadd, 1) := by decide +kernel
theorem dL_law_599 : decode cL_law 599 = .ok (.iaload, 1) := by decide +kernel
theorem dL_law_600 : decode cL_law 600 = .ok (.aload_n 0, 1) := by decide +kernel
theorem dL_law_601 : decode cL_law 601 = .ok (.iload_n 3, 1) := by decide +kernel
theorem dL_law_602 : decode cL_law 602 = .ok (.iconst 2, 1) := by decide +kernel
theorem dL_law_603 : decode cL_law 603 = .ok (.iadd, 1) := by decide +kernel
theorem dL_law_604 : decode cL_law 604 = .ok (.iaload, 1) := by decide +kernel
theorem dL_law_605 : decode cL_law 605 = .ok (.invokevirtual 86, 3) := by decide +kernel
theorem dL_law_608 : decode cL_law 608 = .ok (.if_icmp .eq 259, 3) := by decide +kernel
theorem dL_law_611 : decode cL_law 611 = .ok (.iconst 0, 1) := by decide +kernel
theorem dL_law_612 : decode cL_law 612 = .ok (.ireturn, 1) := by decide +kernel
theorem dL_law_613 : decode cL_law 613 = .ok (.aload_n 1, 1) := by decide +kernel
theorem dL_law_614 : decode cL_law 614 = .ok (.aload_n 0, 1) := by decide +kernel
theorem dL_law_615 : decode cL_law 615 = .ok (.iload_n 3, 1) := by decide +kernel
theorem dL_law_616 : decode cL_law 616 = .ok (.iconst 1, 1) := by decide +kernel
theorem dL_law_617 : decode cL_law 617 = .ok (.iadd, 1) := by decide +kernel
theorem dL_law_618 : decode cL_law 618 = .ok (.iaload, 1) := by decide +kernel
theorem dL_law_619 : decode cL_law 619 = .ok (.aload_n 0, 1) := by decide +kernel
end
section
theorem dL_law_620 : decode cL_law 620 = .ok (.iload_n 3, 1) := by decide +kernel
theorem dL_law_621 : decode cL_law 621 = .ok (.iconst 2, 1) := by decide +kernel
theorem dL_law_622 : decode cL_law 622 = .ok (.iadd, 1) := by decide +kernel
theorem dL_law_623 : decode cL_law 623 = .ok (.iaload, 1) := by decide +kernel
theorem dL_law_624 : decode cL_law 624 = .ok (.invokevirtual 87, 3) := by decide +kernel
theorem dL_law_627 : decode cL_law 627 = .ok (.aload_n 2, 1) := by decide +kernel
theorem dL_law_628 : decode cL_law 628 = .ok (.aload_n 0, 1) := by decide +kernel
theorem dL_law_629 : decode cL_law 629 = .ok (.iload_n 3, 1) := by decide +kernel
theorem dL_law_630 : decode cL_law 630 = .ok (.iconst 1, 1) := by decide +kernel
theorem dL_law_631 : decode cL_law 631 = .ok (.iadd, 1) := by decide +kernel
theorem dL_law_632 : decode cL_law 632 = .ok (.iaload, 1) := by decide +kernel
theorem dL_law_633 : decode cL_law 633 = .ok (.aload_n 0, 1) := by decide +kernel
theorem dL_law_634 : decode cL_law 634 = .ok (.iload_n 3, 1) := by decide +kernel
theorem dL_law_635 : decode cL_law 635 = .ok (.iconst 2, 1) := by decide +kernel
theorem dL_law_636 : decode cL_law 636 = .ok (.iadd, 1) := by decide +kernel
theorem dL_law_637 : decode cL_law 637 = .ok (.iaload, 1) := by decide +kernel
theorem dL_law_638 : decode cL_law 638 = .ok (.invokevirtual 90, 3) := by decide +kernel
theorem dL_law_641 : decode cL_law 641 = .ok (.if_icmp .eq 226, 3) := by decide +kernel
theorem dL_law_644 : decode cL_law 644 = .ok (.iconst 0, 1) := by decide +kernel
theorem dL_law_645 : decode cL_law 645 = .ok (.ireturn, 1) := by decide +kernel
theorem dL_law_646 : decode cL_law 646 = .ok (.aload_n 1, 1) := by decide +kernel
theorem dL_law_647 : decode cL_law 647 = .ok (.aload_n 0, 1) := by decide +kernel
theorem dL_law_648 : decode cL_law 648 = .ok (.iload_n 3, 1) := by decide +kernel
theorem dL_law_649 : decode cL_law 649 = .ok (.iconst 1, 1) := by decide +kernel
theorem dL_law_650 : decode cL_law 650 = .ok (.iadd, 1) := by decide +kernel
theorem dL_law_651 : decode cL_law 651 = .ok (.iaload, 1) := by decide +kernel
theorem dL_law_652 : decode cL_law 652 = .ok (.aload_n 0, 1) := by decide +kernel
theorem dL_law_653 : decode cL_law 653 = .ok (.iload_n 3, 1) := by decide +kernel
theorem dL_law_654 : decode cL_law 654 = .ok (.iconst 2, 1) := by decide +kernel
theorem dL_law_655 : decode cL_law 655 = .ok (.iadd, 1) := by decide +kernel
theorem dL_law_656 : decode cL_law 656 = .ok (.iaload, 1) := by decide +kernel
theorem dL_law_657 : decode cL_law 657 = .ok (.invokevirtual 91, 3) := by decide +kernel
theorem dL_law_660 : decode cL_law 660 = .ok (.dstore 4, 2) := by decide +kernel
theorem dL_law_662 : decode cL_law 662 = .ok (.aload_n 2, 1) := by decide +kernel
theorem dL_law_663 : decode cL_law 663 = .ok (.aload_n 0, 1) := by decide +kernel
theorem dL_law_664 : decode cL_law 664 = .ok (.iload_n 3, 1) := by decide +kernel
theorem dL_law_665 : decode cL_law 665 = .ok (.iconst 1, 1) := by decide +kernel
theorem dL_law_666 : decode cL_law 666 = .ok (.iadd, 1) := by decide +kernel
theorem dL_law_667 : decode cL_law 667 = .ok (.iaload, 1) := by decide +kernel
theorem dL_law_668 : decode cL_law 668 = .ok (.aload_n 0, 1) := by decide +kernel
theorem dL_law_669 : decode cL_law 669 = .ok (.iload_n 3, 1) := by decide +kernel
theorem dL_law_670 : decode cL_law 670 = .ok (.iconst 2, 1) := by decide +kernel
theorem dL_law_671 : decode cL_law 671 = .ok (.iadd, 1) := by decide +kernel
theorem dL_law_672 : decode cL_law 672 = .ok (.iaload, 1) := by decide +kernel
theorem dL_law_673 : decode cL_law 673 = .ok (.invokevirtual 95, 3) := by decide +kernel
theorem dL_law_676 : decode cL_law 676 = .ok (.dstore 6, 2) := by decide +kernel
theorem dL_law_678 : decode cL_law 678 = .ok (.dload 4, 2) := by decide +kernel
theorem dL_law_680 : decode cL_law 680 = .ok (.dload 6, 2) := by decide +kernel
theorem dL_law_682 : decode cL_law 682 = .ok (.dcmp .l, 1) := by decide +kernel
theorem dL_law_683 : decode cL_law 683 = .ok (.ifCond .eq 21, 3) := by decide +kernel
theorem dL_law_686 : decode cL_law 686 = .ok (.dload 4, 2) := by decide +kernel
theorem dL_law_688 : decode cL_law 688 = .ok (.dload 4, 2) := by decide +kernel
theorem dL_law_690 : decode cL_law 690 = .ok (.dcmp .l, 1) := by decide +kernel
theorem dL_law_691 : decode cL_law 691 = .ok (.ifCond .eq 11, 3) := by decide +kernel
theorem dL_law_694 : decode cL_law 694 = .ok (.dload 6, 2) := by decide +kernel
theorem dL_law_696 : decode cL_law 696 = .ok (.dload 6, 2) := by decide +kernel
theorem dL_law_698 : decode cL_law 698 = .ok (.dcmp .l, 1) := by decide +kernel
theorem dL_law_699 : decode cL_law 699 = .ok (.ifCond .ne 5, 3) := by decide +kernel
theorem dL_law_702 : decode cL_law 702 = .ok (.iconst 0, 1) := by decide +kernel
theorem dL_law_703 : decode cL_law 703 = .ok (.ireturn, 1) := by decide +kernel
theorem dL_law_704 : decode cL_law 704 = .ok (.goto 163, 3) := by decide +kernel
theorem dL_law_707 : decode cL_law 707 = .ok (.aload_n 1, 1) := by decide +kernel
theorem dL_law_708 : decode cL_law 708 = .ok (.aload_n 0, 1) := by decide +kernel
theorem dL_law_709 : decode cL_law 709 = .ok (.iload_n 3, 1) := by decide +kernel
theorem dL_law_710 : decode cL_law 710 = .ok (.iconst 1, 1) := by decide +kernel
theorem dL_law_711 : decode cL_law 711 = .ok (.iadd, 1) := by decide +kernel
theorem dL_law_712 : decode cL_law 712 = .ok (.iaload, 1) := by decide +kernel
theorem dL_law_713 : decode cL_law 713 = .ok (.aload_n 0, 1) := by decide +kernel
theorem dL_law_714 : decode cL_law 714 = .ok (.iload_n 3, 1) := by decide +kernel
theorem dL_law_715 : decode cL_law 715 = .ok (.iconst 2, 1) := by decide +kernel
theorem dL_law_716 : decode cL_law 716 = .ok (.iadd, 1) := by decide +kernel
theorem dL_law_717 : decode cL_law 717 = .ok (.iaload, 1) := by decide +kernel
theorem dL_law_718 : decode cL_law 718 = .ok (.invokevirtual 96, 3) := by decide +kernel
theorem dL_law_721 : decode cL_law 721 = .ok (.dstore 4, 2) := by decide +kernel
theorem dL_law_723 : decode cL_law 723 = .ok (.aload_n 2, 1) := by decide +kernel
theorem dL_law_724 : decode cL_law 724 = .ok (.aload_n 0, 1) := by decide +kernel
theorem dL_law_725 : decode cL_law 725 = .ok (.iload_n 3, 1) := by decide +kernel
theorem dL_law_726 : decode cL_law 726 = .ok (.iconst 1, 1) := by decide +kernel
theorem dL_law_727 : decode cL_law 727 = .ok (.iadd, 1) := by decide +kernel
theorem dL_law_728 : decode cL_law 728 = .ok (.iaload, 1) := by decide +kernel
theorem dL_law_729 : decode cL_law 729 = .ok (.aload_n 0, 1) := by decide +kernel
theorem dL_law_730 : decode cL_law 730 = .ok (.iload_n 3, 1) := by decide +kernel
theorem dL_law_731 : decode cL_law 731 = .ok (.iconst 2, 1) := by decide +kernel
theorem dL_law_732 : decode cL_law 732 = .ok (.iadd, 1) := by decide +kernel
theorem dL_law_733 : decode cL_law 733 = .ok (.iaload, 1) := by decide +kernel
theorem dL_law_734 : decode cL_law 734 = .ok (.invokevirtual 99, 3) := by decide +kernel
theorem dL_law_737 : decode cL_law 737 = .ok (.dstore 6, 2) := by decide +kernel
theorem dL_law_739 : decode cL_law 739 = .ok (.dload 4, 2) := by decide +kernel
theorem dL_law_741 : decode cL_law 741 = .ok (.dload 6, 2) := by decide +kernel
theorem dL_law_743 : decode cL_law 743 = .ok (.dcmp .l, 1) := by decide +kernel
theorem dL_law_744 : decode cL_law 744 = .ok (.ifCond .eq 21, 3) := by decide +kernel
theorem dL_law_747 : decode cL_law 747 = .ok (.dload 4, 2) := by decide +kernel
theorem dL_law_749 : decode cL_law 749 = .ok (.dload 4, 2) := by decide +kernel
theorem dL_law_751 : decode cL_law 751 = .ok (.dcmp .l, 1) := by decide +kernel
theorem dL_law_752 : decode cL_law 752 = .ok (.ifCond .eq 11, 3) := by decide +kernel
theorem dL_law_755 : decode cL_law 755 = .ok (.dload 6, 2) := by decide +kernel
theorem dL_law_757 : decode cL_law 757 = .ok (.dload 6, 2) := by decide +kernel
theorem dL_law_759 : decode cL_law 759 = .ok (.dcmp .l, 1) := by decide +kernel
theorem dL_law_760 : decode cL_law 760 = .ok (.ifCond .ne 5, 3) := by decide +kernel
theorem dL_law_763 : decode cL_law 763 = .ok (.iconst 0, 1) := by decide +kernel
theorem dL_law_764 : decode cL_law 764 = .ok (.ireturn, 1) := by decide +kernel
theorem dL_law_765 : decode cL_law 765 = .ok (.goto 102, 3) := by decide +kernel
theorem dL_law_768 : decode cL_law 768 = .ok (.aload_n 1, 1) := by decide +kernel
theorem dL_law_769 : decode cL_law 769 = .ok (.aload_n 0, 1) := by decide +kernel
theorem dL_law_770 : decode cL_law 770 = .ok (.iload_n 3, 1) := by decide +kernel
theorem dL_law_771 : decode cL_law 771 = .ok (.iconst 1, 1) := by decide +kernel
theorem dL_law_772 : decode cL_law 772 = .ok (.iadd, 1) := by decide +kernel
theorem dL_law_773 : decode cL_law 773 = .ok (.iaload, 1) := by decide +kernel
theorem dL_law_774 : decode cL_law 774 = .ok (.aload_n 0, 1) := by decide +kernel
theorem dL_law_775 : decode cL_law 775 = .ok (.iload_n 3, 1) := by decide +kernel
theorem dL_law_776 : decode cL_law 776 = .ok (.iconst 2, 1) := by decide +kernel
theorem dL_law_777 : decode cL_law 777 = .ok (.iadd, 1) := by decide +kernel
theorem dL_law_778 : decode cL_law 778 = .ok (.iaload, 1) := by decide +kernel
theorem dL_law_779 : decode cL_law 779 = .ok (.invokevirtual 100, 3) := by decide +kernel
theorem dL_law_782 : decode cL_law 782 = .ok (.aload_n 2, 1) := by decide +kernel
theorem dL_law_783 : decode cL_law 783 = .ok (.aload_n 0, 1) := by decide +kernel
theorem dL_law_784 : decode cL_law 784 = .ok (.iload_n 3, 1) := by decide +kernel
theorem dL_law_785 : decode cL_law 785 = .ok (.iconst 1, 1) := by decide +kernel
theorem dL_law_786 : decode cL_law 786 = .ok (.iadd, 1) := by decide +kernel
theorem dL_law_787 : decode cL_law 787 = .ok (.iaload, 1) := by decide +kernel
theorem dL_law_788 : decode cL_law 788 = .ok (.aload_n 0, 1) := by decide +kernel
theorem dL_law_789 : decode cL_law 789 = .ok (.iload_n 3, 1) := by decide +kernel
theorem dL_law_790 : decode cL_law 790 = .ok (.iconst 2, 1) := by decide +kernel
theorem dL_law_791 : decode cL_law 791 = .ok (.iadd, 1) := by decide +kernel
theorem dL_law_792 : decode cL_law 792 = .ok (.iaload, 1) := by decide +kernel
theorem dL_law_793 : decode cL_law 793 = .ok (.invokevirtual 103, 3) := by decide +kernel
theorem dL_law_796 : decode cL_law 796 = .ok (.if_icmp .eq 71, 3) := by decide +kernel
theorem dL_law_799 : decode cL_law 799 = .ok (.iconst 0, 1) := by decide +kernel
theorem dL_law_800 : decode cL_law 800 = .ok (.ireturn, 1) := by decide +kernel
theorem dL_law_801 : decode cL_law 801 = .ok (.aload_n 1, 1) := by decide +kernel
theorem dL_law_802 : decode cL_law 802 = .ok (.aload_n 0, 1) := by decide +kernel
theorem dL_law_803 : decode cL_law 803 = .ok (.iload_n 3, 1) := by decide +kernel
theorem dL_law_804 : decode cL_law 804 = .ok (.iconst 1, 1) := by decide +kernel
theorem dL_law_805 : decode cL_law 805 = .ok (.iadd, 1) := by decide +kernel
theorem dL_law_806 : decode cL_law 806 = .ok (.iaload, 1) := by decide +kernel
theorem dL_law_807 : decode cL_law 807 = .ok (.aload_n 0, 1) := by decide +kernel
theorem dL_law_808 : decode cL_law 808 = .ok (.iload_n 3, 1) := by decide +kernel
theorem dL_law_809 : decode cL_law 809 = .ok (.iconst 2, 1) := by decide +kernel
theorem dL_law_810 : decode cL_law 810 = .ok (.iadd, 1) := by decide +kernel
theorem dL_law_811 : decode cL_law 811 = .ok (.iaload, 1) := by decide +kernel
theorem dL_law_812 : decode cL_law 812 = .ok (.aload_n 0, 1) := by decide +kernel
theorem dL_law_813 : decode cL_law 813 = .ok (.iload_n 3, 1) := by decide +kernel
theorem dL_law_814 : decode cL_law 814 = .ok (.iconst 3, 1) := by decide +kernel
theorem dL_law_815 : decode cL_law 815 = .ok (.iadd, 1) := by decide +kernel
theorem dL_law_816 : decode cL_law 816 = .ok (.iaload, 1) := by decide +kernel
theorem dL_law_817 : decode cL_law 817 = .ok (.invokevirtual 104, 3) := by decide +kernel
theorem dL_law_820 : decode cL_law 820 = .ok (.aload_n 2, 1) := by decide +kernel
theorem dL_law_821 : decode cL_law 821 = .ok (.aload_n 0, 1) := by decide +kernel
theorem dL_law_822 : decode cL_law 822 = .ok (.iload_n 3, 1) := by decide +kernel
theorem dL_law_823 : decode cL_law 823 = .ok (.iconst 1, 1) := by decide +kernel
theorem dL_law_824 : decode cL_law 824 = .ok (.iadd, 1) := by decide +kernel
theorem dL_law_825 : decode cL_law 825 = .ok (.iaload, 1) := by decide +kernel
theorem dL_law_826 : decode cL_law 826 = .ok (.aload_n 0, 1) := by decide +kernel
theorem dL_law_827 : decode cL_law 827 = .ok (.iload_n 3, 1) := by decide +kernel
theorem dL_law_828 : decode cL_law 828 = .ok (.iconst 2, 1) := by decide +kernel
theorem dL_law_829 : decode cL_law 829 = .ok (.iadd, 1) := by decide +kernel
theorem dL_law_830 : decode cL_law 830 = .ok (.iaload, 1) := by decide +kernel
theorem dL_law_831 : decode cL_law 831 = .ok (.aload_n 0, 1) := by decide +kernel
theorem dL_law_832 : decode cL_law 832 = .ok (.iload_n 3, 1) := by decide +kernel
theorem dL_law_833 : decode cL_law 833 = .ok (.iconst 3, 1) := by decide +kernel
theorem dL_law_834 : decode cL_law 834 = .ok (.iadd, 1) := by decide +kernel
theorem dL_law_835 : decode cL_law 835 = .ok (.iaload, 1) := by decide +kernel
theorem dL_law_836 : decode cL_law 836 = .ok (.invokevirtual 107, 3) := by decide +kernel
theorem dL_law_839 : decode cL_law 839 = .ok (.if_icmp .eq 28, 3) := by decide +kernel
theorem dL_law_842 : decode cL_law 842 = .ok (.iconst 0, 1) := by decide +kernel
theorem dL_law_843 : decode cL_law 843 = .ok (.ireturn, 1) := by decide +kernel
theorem dL_law_844 : decode cL_law 844 = .ok (.aload_n 1, 1) := by decide +kernel
theorem dL_law_845 : decode cL_law 845 = .ok (.aload_n 0, 1) := by decide +kernel
theorem dL_law_846 : decode cL_law 846 = .ok (.iload_n 3, 1) := by decide +kernel
theorem dL_law_847 : decode cL_law 847 = .ok (.iconst 1, 1) := by decide +kernel
theorem dL_law_848 : decode cL_law 848 = .ok (.iadd, 1) := by decide +kernel
theorem dL_law_849 : decode cL_law 849 = .ok (.iaload, 1) := by decide +kernel
theorem dL_law_850 : decode cL_law 850 = .ok (.invokevirtual 108, 3) := by decide +kernel
theorem dL_law_853 : decode cL_law 853 = .ok (.aload_n 2, 1) := by decide +kernel
theorem dL_law_854 : decode cL_law 854 = .ok (.aload_n 0, 1) := by decide +kernel
theorem dL_law_855 : decode cL_law 855 = .ok (.iload_n 3, 1) := by decide +kernel
theorem dL_law_856 : decode cL_law 856 = .ok (.iconst 1, 1) := by decide +kernel
theorem dL_law_857 : decode cL_law 857 = .ok (.iadd, 1) := by decide +kernel
theorem dL_law_858 : decode cL_law 858 = .ok (.iaload, 1) := by decide +kernel
theorem dL_law_859 : decode cL_law 859 = .ok (.invokevirtual 111, 3) := by decide +kernel
theorem dL_law_862 : decode cL_law 862 = .ok (.if_icmp .eq 5, 3) := by decide +kernel
theorem dL_law_865 : decode cL_law 865 = .ok (.iconst 0, 1) := by decide +kernel
theorem dL_law_866 : decode cL_law 866 = .ok (.ireturn, 1) := by decide +kernel
theorem dL_law_867 : decode cL_law 867 = .ok (.iinc 3 5, 3) := by decide +kernel
theorem dL_law_870 : decode cL_law 870 = .ok (.goto (-852), 3) := by decide +kernel
theorem dL_law_873 : decode cL_law 873 = .ok (.iconst 1, 1) := by decide +kernel
theorem dL_law_874 : decode cL_law 874 = .ok (.ireturn, 1) := by decide +kernel
end
section
/-! the environment of every method: tables, nest words, the static arrays; rooms; rows over whole numbers -/
abbrev XG : Type := va_G × (Nat → ClassId) × (Nat → Nat)
abbrev xTy (g : XG) : List (ClassId × FieldType) := [(g.2.1 0, .int), (g.2.1 1, .char), (g.2.1 2, .object "DittoLog$Log")]
def xB (g : XG) : Nat → Prop := fun q => g.2.2 3 ≤ q
def cmax : Nat → Int32 := fun k => match k with
  | 0 => 7
  | 1 => 199
  | 2 => 12
  | _ => 9
def smin : Nat → Int32 := fun k => match k with
  | 0 => 4
  | 1 => 0
  | _ => 2
def smax : Nat → Int32 := fun k => match k with
  | 0 => 12
  | 1 => 1
  | _ => 6
def ZA (n : String) (t N : Nat) (f : Nat → Int32) (g : XG) (U : State) (H : Heap) : Prop := va_Z "DittoLog" n "[I" (.ref t) (xB g) U H ∧ va_T .int t N (fun j => .int (f j)) (xB g) U H
def ZS (g : XG) (U : State) (H : Heap) : Prop := ZA "COLUMN_MAX" (g.2.2 0) 4 cmax g U H ∧ ZA "SETTING_MIN" (g.2.2 1) 3 smin g U H ∧ ZA "SETTING_MAX" (g.2.2 2) 3 smax g U H
theorem ZA.moved {n : String} {t N : Nat} {f : Nat → Int32} {g : XG} {u U : State} {H : Heap} (hvm : u.vm.Alike U.vm) (h : ZA n t N f g u H) : ZA n t N f g U H := ⟨h.1.moved hvm, h.2.moved hvm⟩
theorem ZA.kept {n : String} {t N : Nat} {f : Nat → Int32} {g : XG} {U : State} {H H1 : Heap} (h : ZA n t N f g U H) (hq : ∀ a : Nat, a < H.size → ¬ xB g a → H1[a]? = H[a]?) : ZA n t N f g U H1 := ⟨h.1.kept hq, h.2.kept hq⟩
theorem ZS.moved {g : XG} {u U : State} {H : Heap} (hvm : u.vm.Alike U.vm) (h : ZS g u H) : ZS g U H := ⟨h.1.moved hvm, h.2.1.moved hvm, h.2.2.moved hvm⟩
theorem ZS.kept {g : XG} {U : State} {H H1 : Heap} (h : ZS g U H) (hq : ∀ a : Nat, a < H.size → ¬ xB g a → H1[a]? = H[a]?) : ZS g U H1 := ⟨h.1.kept hq, h.2.1.kept hq, h.2.2.kept hq⟩
def xNestB : Cond → Bool
  | .fieldLinkNest _ _ _ _ _ _ => true
  | .methodLinkNest _ _ _ _ => true
  | _ => false
theorem xNest_all : ∀ w ∈ xNest, xNestB w = true := fun w h => List.all_eq_true.mp (show xNest.all xNestB = true by rfl) w h
theorem xNw_warm {w : Cond} (hw : xNestB w = true) {s U : State} (hW : s.WarmedH U.vm) (h : va_Nw w s) : va_Nw w U := by
  cases w <;> first | (exact va_Nw.warmF hW h) | (exact va_Nw.warmM hW h) | (exact absurd hw (by simp [xNestB]))
theorem xNw_same {w : Cond} (hw : xNestB w = true) {s U : State} (hW : s.vm = U.vm) (h : va_Nw w s) : va_Nw w U := by
  refine va_Nw.same ?_ hW h
  cases w <;> first | rfl | (exact absurd hw (by simp [xNestB]))
def KT (g : XG) (U : State) : Prop := va_K g.1 vwCl (xTy g) U ∧ ∀ w ∈ xNest, va_Nw w U
theorem KT.warm {g : XG} {s U : State} (hW : s.WarmedH U.vm) (h : KT g s) : KT g U := ⟨va_K.moved hW.alike h.1, fun w hw => xNw_warm (xNest_all w hw) hW (h.2 w hw)⟩
theorem KT.same {g : XG} {s U : State} (hW : s.vm = U.vm) (h : KT g s) : KT g U := ⟨va_K.moved (hW ▸ Vm.Alike.refl s.vm) h.1, fun w hw => xNw_same (xNest_all w hw) hW (h.2 w hw)⟩
/-- a contract's start: the arguments, the environment, what the heap holds -/
def xP (g : XG) (As : List Value) (hp : Heap → Prop) : Array Value → State → Prop := va_Pc As (fun U => KT g U ∧ ZS g U U.heap ∧ hp U.heap)
theorem xP_blind {g : XG} {As : List Value} {hp : Heap → Prop} : FrameBlind (xP g As hp) := fun a U k mk h => ⟨h.1, KT.same (s := U) (U := U.calling k mk a) rfl h.2.1, ZS.moved (u := U) (U := U.calling k mk a) (Vm.Alike.refl U.vm) h.2.2.1, h.2.2.2⟩
theorem xP_at {g : XG} {As : List Value} {hp : Heap → Prop} {s U : State} {H : Heap} (hK : KT g s) (hZ : ZS g s H) (hh : hp H) (hU : U.heap = H) (hW : s.WarmedH U.vm) : xP g As hp As.toArray U := ⟨rfl, hK.warm hW, by rw [hU]; exact hZ.moved hW.alike, by rw [hU]; exact hh⟩
/-- the words of a method: its own code ahead of all -/
abbrev ww (y : MethodName) (bytes : ByteArray) (maxL : Nat) (ret : Option FieldType) : List Cond := .code y bytes maxL ret :: xALL
/-- the room of a method under which d levels of calls may stand -/
abbrev rmD (d : Nat) : Room := { frames := d, cells := 0, slots := 0, locals := 30 * d }
theorem ww_good {y : MethodName} {bytes : ByteArray} {maxL : Nat} {ret : Option FieldType} (h : Cond.code y bytes maxL ret ∈ xALL) : GoodIn xALL (ww y bytes maxL ret) := fun w hw => by
  rcases List.mem_cons.mp hw with rfl | hw
  · exact ⟨h, xALL_good _ h⟩
  · exact ⟨hw, xALL_good _ hw⟩
/-- what stands at every row of a method's walk -/
def FX (p : Program) (s : State) (m : MethodId) (args : Array Value) (c : Code) (cc : ByteArray) (nL : Nat) (own : String) (g : XG) : Prop := CallFix p m c cc nL s args xALL own ∧ KT g s
def CalV (C : String) (y : MethodName) (bytes : ByteArray) (maxL : Nat) (ret : Option FieldType) (n : Nat) : Prop := (y.cls = C ∧ y.cls ≠ "java/lang/invoke/MethodHandle" ∧ y.cls ≠ "java/lang/invoke/VarHandle" ∧ (parseMethodDescriptor y.desc).map (fun d => d.parameters.length) = some n) ∧ .instanceMethod y ∈ xALL ∧ .selects C y y ∈ xALL ∧ .initialized C ∈ xALL ∧ .code y bytes maxL ret ∈ xALL
def CalS (C : String) (y : MethodName) (bytes : ByteArray) (maxL : Nat) (ret : Option FieldType) (n : Nat) : Prop := (y.cls = C ∧ y.cls ≠ "java/lang/invoke/MethodHandle" ∧ y.cls ≠ "java/lang/invoke/VarHandle" ∧ (parseMethodDescriptor y.desc).map (fun d => d.parameters.length) = some n) ∧ .static y ∈ xALL ∧ .initialized C ∈ xALL ∧ .code y bytes maxL ret ∈ xALL
section XB
variable {p : Program} {l : Launch} {e : Env} {R : Room} {s : State} {m : MethodId} {args : Array Value} {below : List Frame} {meth : Method} {c : Code} {H : Heap} {locs : List Loc} {cells slots : Nat} {Q : State → Prop}
variable {cc : ByteArray} {pc : Nat} {ls : Array Slot} {rest st : List Value} {g : XG} {nL : Nat} {own C : String} {A : Nat → Prop}
theorem FX.of {y : MethodName} {maxL : Nat} {ret : Option FieldType} (hx : p.tables.exec = Jvm.exec) (hb : c.code = cc) (hml : c.maxLocals = nL) (hown : s.vm.findClass own = some m.cls) (hts : ∀ w ∈ ww y cc maxL ret, w.before args s = true) (hK : KT g s) : FX p s m args c cc nL own g := ⟨⟨hx, hb, hml, hown, fun w h => hts w (List.mem_cons_of_mem _ h)⟩, hK⟩
theorem ZS.at {H0 : Heap} (h : ZS g s H0) (hS : va_S A H0 H locs) (hA : ∀ q, A q → xB g q) : ZS g s H := h.kept fun a h1 h2 => hS.2.1 a h1 (fun q => h2 (hA a q))
/-- calls: a method of an object of the own class, of a nest mate's, a static one, a nest mate's static one -/
theorem xrV {y : MethodName} {bytes : ByteArray} {maxL n idx mc ms : Nat} {ret : Option FieldType} {rm : Room} {Qc : Array Value → State → Outcome → State → Prop} {free : Addr → Prop} {b : Addr} {As : List Value} {hp : Heap → Prop}
    (hF : FX p s m args c cc nL own g) (hM : Met l y (ww y bytes maxL ret) rm (xP g (.ref b :: As) hp) Qc mc ms free) (hC : CalV C y bytes maxL ret n) (hl : .methodLink own idx y ∈ xALL) (hR : rm.frames + 1 ≤ R.frames ∧ 8 + (maxL + 11) + rm.locals ≤ R.locals) (hrc : rm.cells = mc) (hrs : rm.slots = ms) (hn : As.length = n)
    (hv : ∃ cell : Cell, H[b]? = some cell ∧ cell.vm.isStatics = false ∧ s.vm.findClass C = some cell.cls) (hZ : ZS g s H) (hh : hp H) (hls : ls.size = nL) (hst : st = As.reverse ++ .ref b :: rest) (hW : (rest.map fun v => v.category).sum ≤ 8) (hdg : decode cc pc = .ok (.invokevirtual idx, 3)) (hf : cells + mc ≤ R.cells ∧ slots + ms ≤ R.slots) :
    va_Run p l e R s m args below meth c H locs cells slots mc ms (F0 m pc ls st) rest (Qc (Value.ref b :: As).toArray) free := by
  obtain ⟨⟨hC1, hC2⟩, h1, h2, h3, h4⟩ := hC
  have hts := hF.1.2.2.2.2
  subst hC1
  exact va_runV hF.1 hM ⟨callB_of n hts (ww_good h4) rfl hrc hrs (hts _ h3) (hts _ hl) hC2 hR, hts _ h1, hts _ h2⟩ ⟨xP_blind, hv, fun U hU hW => xP_at hF.2 hZ hh hU hW⟩ rfl hn hls hst (lv_room hW) hdg hf
theorem xrVN {y : MethodName} {bytes : ByteArray} {maxL n idx mc ms : Nat} {ret : Option FieldType} {rm : Room} {Qc : Array Value → State → Outcome → State → Prop} {free : Addr → Prop} {b : Addr} {As : List Value} {hp : Heap → Prop} {host : String}
    (hF : FX p s m args c cc nL own g) (hM : Met l y (ww y bytes maxL ret) rm (xP g (.ref b :: As) hp) Qc mc ms free) (hC : CalV C y bytes maxL ret n) (hl : .methodLinkNest own idx y host ∈ xNest) (hR : rm.frames + 1 ≤ R.frames ∧ 8 + (maxL + 11) + rm.locals ≤ R.locals) (hrc : rm.cells = mc) (hrs : rm.slots = ms) (hn : As.length = n)
    (hv : ∃ cell : Cell, H[b]? = some cell ∧ cell.vm.isStatics = false ∧ s.vm.findClass C = some cell.cls) (hZ : ZS g s H) (hh : hp H) (hls : ls.size = nL) (hst : st = As.reverse ++ .ref b :: rest) (hW : (rest.map fun v => v.category).sum ≤ 8) (hdg : decode cc pc = .ok (.invokevirtual idx, 3)) (hf : cells + mc ≤ R.cells ∧ slots + ms ≤ R.slots) :
    va_Run p l e R s m args below meth c H locs cells slots mc ms (F0 m pc ls st) rest (Qc (Value.ref b :: As).toArray) free := by
  obtain ⟨⟨hC1, hC2⟩, h1, h2, h3, h4⟩ := hC
  have hts := hF.1.2.2.2.2
  subst hC1
  exact va_runVN hF.1 hM ⟨va_cnB n hts (ww_good h4) rfl hrc hrs (hF.2.2 _ hl) (hts _ h3) hC2 hR, hts _ h1, hts _ h2⟩ ⟨xP_blind, hv, fun U hU hW => xP_at hF.2 hZ hh hU hW⟩ rfl hn hls hst (lv_room hW) hdg hf
theorem xrS {y : MethodName} {bytes : ByteArray} {maxL n idx mc ms : Nat} {ret : Option FieldType} {rm : Room} {Qc : Array Value → State → Outcome → State → Prop} {free : Addr → Prop} {As : List Value} {hp : Heap → Prop}
    (hF : FX p s m args c cc nL own g) (hM : Met l y (ww y bytes maxL ret) rm (xP g As hp) Qc mc ms free) (hC : CalS C y bytes maxL ret n) (hl : .methodLink own idx y ∈ xALL) (hR : rm.frames + 1 ≤ R.frames ∧ 8 + (maxL + 11) + rm.locals ≤ R.locals) (hrc : rm.cells = mc) (hrs : rm.slots = ms) (hn : As.length = n)
    (hZ : ZS g s H) (hh : hp H) (hls : ls.size = nL) (hst : st = As.reverse ++ rest) (hW : (rest.map fun v => v.category).sum ≤ 8) (hdg : decode cc pc = .ok (.invokestatic idx, 3)) (hf : cells + mc ≤ R.cells ∧ slots + ms ≤ R.slots) :
    va_Run p l e R s m args below meth c H locs cells slots mc ms (F0 m pc ls st) rest (Qc As.toArray) free := by
  obtain ⟨⟨hC1, hC2⟩, h1, h3, h4⟩ := hC
  have hts := hF.1.2.2.2.2
  subst hC1
  exact va_runS hF.1 hM ⟨callB_of n hts (ww_good h4) rfl hrc hrs (hts _ h3) (hts _ hl) hC2 hR, hts _ h1⟩ ⟨xP_blind, fun U hU hW => xP_at hF.2 hZ hh hU hW⟩ rfl hn hls hst (lv_room hW) hdg hf
theorem xrSN {y : MethodName} {bytes : ByteArray} {maxL n idx mc ms : Nat} {ret : Option FieldType} {rm : Room} {Qc : Array Value → State → Outcome → State → Prop} {free : Addr → Prop} {As : List Value} {hp : Heap → Prop} {host : String}
    (hF : FX p s m args c cc nL own g) (hM : Met l y (ww y bytes maxL ret) rm (xP g As hp) Qc mc ms free) (hC : CalS C y bytes maxL ret n) (hl : .methodLinkNest own idx y host ∈ xNest) (hR : rm.frames + 1 ≤ R.frames ∧ 8 + (maxL + 11) + rm.locals ≤ R.locals) (hrc : rm.cells = mc) (hrs : rm.slots = ms) (hn : As.length = n)
    (hZ : ZS g s H) (hh : hp H) (hls : ls.size = nL) (hst : st = As.reverse ++ rest) (hW : (rest.map fun v => v.category).sum ≤ 8) (hdg : decode cc pc = .ok (.invokestatic idx, 3)) (hf : cells + mc ≤ R.cells ∧ slots + ms ≤ R.slots) :
    va_Run p l e R s m args below meth c H locs cells slots mc ms (F0 m pc ls st) rest (Qc As.toArray) free := by
  obtain ⟨⟨hC1, hC2⟩, h1, h3, h4⟩ := hC
  have hts := hF.1.2.2.2.2
  subst hC1
  exact va_runSN hF.1 hM ⟨va_cnB n hts (ww_good h4) rfl hrc hrs (hF.2.2 _ hl) (hts _ h3) hC2 hR, hts _ h1, trivial⟩ ⟨xP_blind, fun U hU hW => xP_at hF.2 hZ hh hU hW⟩ rfl hn hls hst (lv_room hW) hdg hf
/-- the end of a method that changes cells: its answer and its heap -/
def xQi (post : Int32 → Heap → Prop) (A : Nat → Prop) : Array Value → State → Outcome → State → Prop := fun _ st oc t => (∃ r : Int32, oc = .returned (some (.int r)) ∧ post r t.heap) ∧ va_F A st t
def xQv (post : Heap → Prop) (A : Nat → Prop) : Array Value → State → Outcome → State → Prop := fun _ st oc t => (oc = .returned none ∧ post t.heap) ∧ va_F A st t
theorem xci {A0 A1 : Nat → Prop} {H0 : Heap} {mc ms : Nat} {free : Addr → Prop} {a : Array Value} {post : Int32 → Heap → Prop} (hr : va_Run p l e R s m args below meth c H locs cells slots mc ms (F0 m pc ls st) rest (xQi post A1 a) free) (hS : va_S A0 H0 H locs) (hA : ∀ q, A1 q → A0 q) (hf : ∀ q, free q → A0 q)
    (kk : ∀ (r : Int32) (H1 : Heap) (locs1 : List Loc), post r H1 → H.size ≤ H1.size → (∀ q : Nat, q < H.size → ¬ A1 q → H1[q]? = H[q]?) → va_S A0 H0 H1 locs1 → W p l e R s m args below meth c H1 locs1 (cells + mc) (slots + ms) Q (F0 m (pc + 3) ls (.int r :: rest))) : W p l e R s m args below meth c H locs cells slots Q (F0 m pc ls st) := by
  intro T hT X
  obtain ⟨v, st₀, t, T', L, h0, X', hL, e1, e2, ⟨⟨r, hv, hb⟩, hz, hk⟩, hst⟩ := hr T hT X
  cases hv
  rw [h0] at hz hk
  obtain ⟨t2, a1, b1⟩ := kk r T'.heap (locs ++ L) (by rw [e1]; exact hb) (by rw [e1]; exact hz) (fun q h1 h2 => by rw [e1]; exact hk q h1 h2)
    ⟨Nat.le_trans hS.1 (by rw [e1]; exact hz), fun q h1 h2 => by rw [e1, hk q (Nat.lt_of_lt_of_le h1 hS.1) (fun z => h2 (hA q z))]; exact hS.2.1 q h1 h2, fun q hq => by
      rcases List.mem_append.mp hq with h | h
      · exact hS.2.2 q h
      · exact hf _ (hL q h)⟩ T' rfl X'
  exact ⟨t2, hst t2 a1, b1⟩
theorem xcv {A0 A1 : Nat → Prop} {H0 : Heap} {mc ms : Nat} {free : Addr → Prop} {a : Array Value} {post : Heap → Prop} (hr : va_Run p l e R s m args below meth c H locs cells slots mc ms (F0 m pc ls st) rest (xQv post A1 a) free) (hS : va_S A0 H0 H locs) (hA : ∀ q, A1 q → A0 q) (hf : ∀ q, free q → A0 q)
    (kk : ∀ (H1 : Heap) (locs1 : List Loc), post H1 → H.size ≤ H1.size → (∀ q : Nat, q < H.size → ¬ A1 q → H1[q]? = H[q]?) → va_S A0 H0 H1 locs1 → W p l e R s m args below meth c H1 locs1 (cells + mc) (slots + ms) Q (F0 m (pc + 3) ls rest)) : W p l e R s m args below meth c H locs cells slots Q (F0 m pc ls st) := by
  intro T hT X
  obtain ⟨v, st₀, t, T', L, h0, X', hL, e1, e2, ⟨⟨hv, hb⟩, hz, hk⟩, hst⟩ := hr T hT X
  cases hv
  rw [h0] at hz hk
  obtain ⟨t2, a1, b1⟩ := kk T'.heap (locs ++ L) (by rw [e1]; exact hb) (by rw [e1]; exact hz) (fun q h1 h2 => by rw [e1]; exact hk q h1 h2)
    ⟨Nat.le_trans hS.1 (by rw [e1]; exact hz), fun q h1 h2 => by rw [e1, hk q (Nat.lt_of_lt_of_le h1 hS.1) (fun z => h2 (hA q z))]; exact hS.2.1 q h1 h2, fun q hq => by
      rcases List.mem_append.mp hq with h | h
      · exact hS.2.2 q h
      · exact hf _ (hL q h)⟩ T' rfl X'
  exact ⟨t2, hst t2 a1, b1⟩
/-- whole numbers: constants, sums, products, differences, quotients -/
theorem xN_const (hx : p.tables.exec = Jvm.exec) (hb : c.code = cc) {n : Int} (v : Nat) (hdg : decode cc pc = .ok (.iconst n, 1)) (hv : Int32.ofInt n = nI v) (k : W p l e R s m args below meth c H locs cells slots Q (F0 m (pc + 1) ls (.int (nI v) :: rest))) : W p l e R s m args below meth c H locs cells slots Q (F0 m pc ls rest) := lv_iconst hx hb hdg hv k
theorem xN_bi (hx : p.tables.exec = Jvm.exec) (hb : c.code = cc) {n : Int} (v : Nat) (hdg : decode cc pc = .ok (.bipush n, 2)) (hv : (Int8.ofInt n).toInt32 = nI v) (k : W p l e R s m args below meth c H locs cells slots Q (F0 m (pc + 2) ls (.int (nI v) :: rest))) : W p l e R s m args below meth c H locs cells slots Q (F0 m pc ls rest) := lv_bipush hx hb hdg hv k
theorem xN_si (hx : p.tables.exec = Jvm.exec) (hb : c.code = cc) {n : Int} (v : Nat) (hdg : decode cc pc = .ok (.sipush n, 3)) (hv : (Int16.ofInt n).toInt32 = nI v) (k : W p l e R s m args below meth c H locs cells slots Q (F0 m (pc + 3) ls (.int (nI v) :: rest))) : W p l e R s m args below meth c H locs cells slots Q (F0 m pc ls rest) := lv_sipush hx hb hdg hv k
theorem xN_add (hx : p.tables.exec = Jvm.exec) (hb : c.code = cc) {a b : Nat} (hdg : decode cc pc = .ok (.iadd, 1)) (k : W p l e R s m args below meth c H locs cells slots Q (F0 m (pc + 1) ls (.int (nI (a + b)) :: rest))) : W p l e R s m args below meth c H locs cells slots Q (F0 m pc ls (.int (nI b) :: .int (nI a) :: rest)) := lv_iadd hx hb hdg (by rw [nI_add]; exact k)
theorem xN_mul (hx : p.tables.exec = Jvm.exec) (hb : c.code = cc) {a b : Nat} (hdg : decode cc pc = .ok (.imul, 1)) (k : W p l e R s m args below meth c H locs cells slots Q (F0 m (pc + 1) ls (.int (nI (a * b)) :: rest))) : W p l e R s m args below meth c H locs cells slots Q (F0 m pc ls (.int (nI b) :: .int (nI a) :: rest)) := lv_imul hx hb hdg (by rw [pk_mul]; exact k)
theorem xN_sub (hx : p.tables.exec = Jvm.exec) (hb : c.code = cc) {a b : Nat} (hba : b ≤ a) (hdg : decode cc pc = .ok (.isub, 1)) (k : W p l e R s m args below meth c H locs cells slots Q (F0 m (pc + 1) ls (.int (nI (a - b)) :: rest))) : W p l e R s m args below meth c H locs cells slots Q (F0 m pc ls (.int (nI b) :: .int (nI a) :: rest)) := lv_isub hx hb hdg (by rw [pk_sub hba]; exact k)
theorem xN_div (hx : p.tables.exec = Jvm.exec) (hb : c.code = cc) {a b : Nat} (ha : a < 2147483648) (h0 : 0 < b) (hb2 : b < 2147483648) (hdg : decode cc pc = .ok (.idiv, 1)) (k : W p l e R s m args below meth c H locs cells slots Q (F0 m (pc + 1) ls (.int (nI (a / b)) :: rest))) : W p l e R s m args below meth c H locs cells slots Q (F0 m pc ls (.int (nI b) :: .int (nI a) :: rest)) := lv_idiv hx hb hdg (nI_ne0 h0 hb2) (by rw [pk_div ha h0 hb2]; exact k)
theorem xN_rem (hx : p.tables.exec = Jvm.exec) (hb : c.code = cc) {a b : Nat} (ha : a < 2147483648) (h0 : 0 < b) (hb2 : b < 2147483648) (hdg : decode cc pc = .ok (.irem, 1)) (k : W p l e R s m args below meth c H locs cells slots Q (F0 m (pc + 1) ls (.int (nI (a % b)) :: rest))) : W p l e R s m args below meth c H locs cells slots Q (F0 m pc ls (.int (nI b) :: .int (nI a) :: rest)) := lv_irem hx hb hdg (nI_ne0 h0 hb2) (by rw [pk_rem ha h0 hb2]; exact k)
theorem xN_inc (hx : p.tables.exec = Jvm.exec) (hb : c.code = cc) {i k n0 : Nat} {n : Int} {a : Nat} (d : Nat) {lv lv' : List (Nat × Value)} (hdg : decode cc pc = .ok (.iinc i n, 3)) (h : lv_has ls n0 lv) (hk : lv[k]? = some (i, .int (nI a))) (hv : Int32.ofInt n = nI d) (hn : i < n0) (hl : (i, Value.int (nI (a + d))) :: lv.filter (fun q => !(q.1 == i) && !(q.1 + 1 == i && q.2.category == 2)) = lv')
    (kk : ∀ ls' : Array Slot, lv_has ls' n0 lv' → W p l e R s m args below meth c H locs cells slots Q (F0 m (pc + 3) ls' rest)) : W p l e R s m args below meth c H locs cells slots Q (F0 m pc ls rest) := lv_iinc hx hb hdg h hk (by rw [hv, nI_add]) hn hl kk
theorem xN_dec (hx : p.tables.exec = Jvm.exec) (hb : c.code = cc) {i k n0 : Nat} {a : Nat} (ha : 1 ≤ a) {lv lv' : List (Nat × Value)} (hdg : decode cc pc = .ok (.iinc i (-1), 3)) (h : lv_has ls n0 lv) (hk : lv[k]? = some (i, .int (nI a))) (hn : i < n0) (hl : (i, Value.int (nI (a - 1))) :: lv.filter (fun q => !(q.1 == i) && !(q.1 + 1 == i && q.2.category == 2)) = lv')
    (kk : ∀ ls' : Array Slot, lv_has ls' n0 lv' → W p l e R s m args below meth c H locs cells slots Q (F0 m (pc + 3) ls' rest)) : W p l e R s m args below meth c H locs cells slots Q (F0 m pc ls rest) := lv_iinc hx hb hdg h hk (by show nI a + (-1) = _; exact sb_m1 ha) hn hl kk
end XB
end
section
/-! rows over whole numbers and truth values: comparisons, arrays, a method's entry and ends -/
def xz (b : Bool) : Int32 := if b then 1 else 0
theorem xz_01 (b : Bool) : xz b = 0 ∨ xz b = 1 := by cases b <;> simp [xz]
section XR
variable {p : Program} {l : Launch} {e : Env} {R : Room} {s : State} {m : MethodId} {args : Array Value} {below : List Frame} {meth : Method} {c : Code} {H : Heap} {locs : List Loc} {cells slots : Nat} {Q : State → Prop}
variable {cc : ByteArray} {pc : Nat} {ls : Array Slot} {rest st : List Value} {g : XG} {nL : Nat} {own C : String} {A : Nat → Prop} {ws : va_W} {H0 : Heap}
theorem xC_lt (hx : p.tables.exec = Jvm.exec) (hb : c.code = cc) {a b tgt : Nat} {off : Int} (ha : a < 2147483648) (hb2 : b < 2147483648) (hdg : decode cc pc = .ok (.if_icmp .lt off, 3)) (ht : (pc : Int) + off = (tgt : Int)) (kt : a < b → W p l e R s m args below meth c H locs cells slots Q (F0 m tgt ls rest)) (kf : b ≤ a → W p l e R s m args below meth c H locs cells slots Q (F0 m (pc + 3) ls rest)) : W p l e R s m args below meth c H locs cells slots Q (F0 m pc ls (.int (nI b) :: .int (nI a) :: rest)) := lv_icmp_lt hx hb hdg ht (fun h => kt ((nI_ltI ha hb2).mp h)) (fun h => kf (Nat.le_of_not_lt fun q => h ((nI_ltI ha hb2).mpr q)))
theorem xC_ge (hx : p.tables.exec = Jvm.exec) (hb : c.code = cc) {a b tgt : Nat} {off : Int} (ha : a < 2147483648) (hb2 : b < 2147483648) (hdg : decode cc pc = .ok (.if_icmp .ge off, 3)) (ht : (pc : Int) + off = (tgt : Int)) (kt : b ≤ a → W p l e R s m args below meth c H locs cells slots Q (F0 m tgt ls rest)) (kf : a < b → W p l e R s m args below meth c H locs cells slots Q (F0 m (pc + 3) ls rest)) : W p l e R s m args below meth c H locs cells slots Q (F0 m pc ls (.int (nI b) :: .int (nI a) :: rest)) := lv_icmp_ge hx hb hdg ht (fun h => kt ((nI_leI hb2 ha).mp h)) (fun h => kf (Nat.lt_of_not_le fun q => h ((nI_leI hb2 ha).mpr q)))
theorem xC_gt (hx : p.tables.exec = Jvm.exec) (hb : c.code = cc) {a b tgt : Nat} {off : Int} (ha : a < 2147483648) (hb2 : b < 2147483648) (hdg : decode cc pc = .ok (.if_icmp .gt off, 3)) (ht : (pc : Int) + off = (tgt : Int)) (kt : b < a → W p l e R s m args below meth c H locs cells slots Q (F0 m tgt ls rest)) (kf : a ≤ b → W p l e R s m args below meth c H locs cells slots Q (F0 m (pc + 3) ls rest)) : W p l e R s m args below meth c H locs cells slots Q (F0 m pc ls (.int (nI b) :: .int (nI a) :: rest)) := lv_icmp_gt hx hb hdg ht (fun h => kt ((nI_ltI hb2 ha).mp h)) (fun h => kf (Nat.le_of_not_lt fun q => h ((nI_ltI hb2 ha).mpr q)))
theorem xC_le (hx : p.tables.exec = Jvm.exec) (hb : c.code = cc) {a b tgt : Nat} {off : Int} (ha : a < 2147483648) (hb2 : b < 2147483648) (hdg : decode cc pc = .ok (.if_icmp .le off, 3)) (ht : (pc : Int) + off = (tgt : Int)) (kt : a ≤ b → W p l e R s m args below meth c H locs cells slots Q (F0 m tgt ls rest)) (kf : b < a → W p l e R s m args below meth c H locs cells slots Q (F0 m (pc + 3) ls rest)) : W p l e R s m args below meth c H locs cells slots Q (F0 m pc ls (.int (nI b) :: .int (nI a) :: rest)) := lv_icmp_le hx hb hdg ht (fun h => kt ((nI_leI ha hb2).mp h)) (fun h => kf (Nat.lt_of_not_le fun q => h ((nI_leI ha hb2).mpr q)))
theorem xC_eq (hx : p.tables.exec = Jvm.exec) (hb : c.code = cc) {a b tgt : Nat} {off : Int} (ha : a < 2147483648) (hb2 : b < 2147483648) (hdg : decode cc pc = .ok (.if_icmp .eq off, 3)) (ht : (pc : Int) + off = (tgt : Int)) (kt : a = b → W p l e R s m args below meth c H locs cells slots Q (F0 m tgt ls rest)) (kf : a ≠ b → W p l e R s m args below meth c H locs cells slots Q (F0 m (pc + 3) ls rest)) : W p l e R s m args below meth c H locs cells slots Q (F0 m pc ls (.int (nI b) :: .int (nI a) :: rest)) := lv_icmp_eq hx hb hdg ht (fun h => kt ((nI_eq ha hb2).mp h)) (fun h => kf (fun q => h ((nI_eq ha hb2).mpr q)))
theorem xC_ne (hx : p.tables.exec = Jvm.exec) (hb : c.code = cc) {a b tgt : Nat} {off : Int} (ha : a < 2147483648) (hb2 : b < 2147483648) (hdg : decode cc pc = .ok (.if_icmp .ne off, 3)) (ht : (pc : Int) + off = (tgt : Int)) (kt : a ≠ b → W p l e R s m args below meth c H locs cells slots Q (F0 m tgt ls rest)) (kf : a = b → W p l e R s m args below meth c H locs cells slots Q (F0 m (pc + 3) ls rest)) : W p l e R s m args below meth c H locs cells slots Q (F0 m pc ls (.int (nI b) :: .int (nI a) :: rest)) := lv_icmp_ne hx hb hdg ht (fun h => kt (fun q => h ((nI_eq ha hb2).mpr q))) (fun h => kf ((nI_eq ha hb2).mp h))
theorem xI_eq (hx : p.tables.exec = Jvm.exec) (hb : c.code = cc) {a tgt : Nat} {off : Int} (ha : a < 2147483648) (hdg : decode cc pc = .ok (.ifCond .eq off, 3)) (ht : (pc : Int) + off = (tgt : Int)) (kt : a = 0 → W p l e R s m args below meth c H locs cells slots Q (F0 m tgt ls rest)) (kf : 0 < a → W p l e R s m args below meth c H locs cells slots Q (F0 m (pc + 3) ls rest)) : W p l e R s m args below meth c H locs cells slots Q (F0 m pc ls (.int (nI a) :: rest)) := lv_if_eq hx hb hdg ht (fun h => kt (Nat.eq_zero_of_not_pos fun q => nI_ne0 q ha h)) (fun h => kf (Nat.pos_of_ne_zero fun q => h (by rw [q]; rfl)))
theorem xI_ne (hx : p.tables.exec = Jvm.exec) (hb : c.code = cc) {a tgt : Nat} {off : Int} (ha : a < 2147483648) (hdg : decode cc pc = .ok (.ifCond .ne off, 3)) (ht : (pc : Int) + off = (tgt : Int)) (kt : 0 < a → W p l e R s m args below meth c H locs cells slots Q (F0 m tgt ls rest)) (kf : a = 0 → W p l e R s m args below meth c H locs cells slots Q (F0 m (pc + 3) ls rest)) : W p l e R s m args below meth c H locs cells slots Q (F0 m pc ls (.int (nI a) :: rest)) := lv_if_ne hx hb hdg ht (fun h => kt (Nat.pos_of_ne_zero fun q => h (by rw [q]; rfl))) (fun h => kf (Nat.eq_zero_of_not_pos fun q => nI_ne0 q ha h))
theorem xI_gt (hx : p.tables.exec = Jvm.exec) (hb : c.code = cc) {a tgt : Nat} {off : Int} (ha : a < 2147483648) (hdg : decode cc pc = .ok (.ifCond .gt off, 3)) (ht : (pc : Int) + off = (tgt : Int)) (kt : 0 < a → W p l e R s m args below meth c H locs cells slots Q (F0 m tgt ls rest)) (kf : a = 0 → W p l e R s m args below meth c H locs cells slots Q (F0 m (pc + 3) ls rest)) : W p l e R s m args below meth c H locs cells slots Q (F0 m pc ls (.int (nI a) :: rest)) := lv_if_gt hx hb hdg ht (fun h => kt (Nat.pos_of_ne_zero fun q => by subst q; exact absurd h (by decide))) (fun h => kf (Nat.eq_zero_of_not_pos fun q => h (show nI 0 < nI a from nI_lt q ha)))
theorem xI_le (hx : p.tables.exec = Jvm.exec) (hb : c.code = cc) {a tgt : Nat} {off : Int} (ha : a < 2147483648) (hdg : decode cc pc = .ok (.ifCond .le off, 3)) (ht : (pc : Int) + off = (tgt : Int)) (kt : a = 0 → W p l e R s m args below meth c H locs cells slots Q (F0 m tgt ls rest)) (kf : 0 < a → W p l e R s m args below meth c H locs cells slots Q (F0 m (pc + 3) ls rest)) : W p l e R s m args below meth c H locs cells slots Q (F0 m pc ls (.int (nI a) :: rest)) := lv_if_le hx hb hdg ht (fun h => kt (Nat.eq_zero_of_not_pos fun q => nI_nle q ha h)) (fun h => kf (Nat.pos_of_ne_zero fun q => h (by subst q; decide)))
theorem xI_lt (hx : p.tables.exec = Jvm.exec) (hb : c.code = cc) {a tgt : Nat} {off : Int} (ha : a < 2147483648) (hdg : decode cc pc = .ok (.ifCond .lt off, 3)) (ht : (pc : Int) + off = (tgt : Int)) (kf : W p l e R s m args below meth c H locs cells slots Q (F0 m (pc + 3) ls rest)) : W p l e R s m args below meth c H locs cells slots Q (F0 m pc ls (.int (nI a) :: rest)) := lv_if_lt hx hb hdg ht (fun h => absurd h (nI_pos ha)) (fun _ => kf)
theorem xI_ge (hx : p.tables.exec = Jvm.exec) (hb : c.code = cc) {a tgt : Nat} {off : Int} (ha : a < 2147483648) (hdg : decode cc pc = .ok (.ifCond .ge off, 3)) (ht : (pc : Int) + off = (tgt : Int)) (kt : W p l e R s m args below meth c H locs cells slots Q (F0 m tgt ls rest)) : W p l e R s m args below meth c H locs cells slots Q (F0 m pc ls (.int (nI a) :: rest)) := lv_if_ge hx hb hdg ht (fun _ => kt) (fun h => absurd (nI_pos' ha) h)
theorem xZ_eq (hx : p.tables.exec = Jvm.exec) (hb : c.code = cc) {b : Bool} {tgt : Nat} {off : Int} (hdg : decode cc pc = .ok (.ifCond .eq off, 3)) (ht : (pc : Int) + off = (tgt : Int)) (kt : b = false → W p l e R s m args below meth c H locs cells slots Q (F0 m tgt ls rest)) (kf : b = true → W p l e R s m args below meth c H locs cells slots Q (F0 m (pc + 3) ls rest)) : W p l e R s m args below meth c H locs cells slots Q (F0 m pc ls (.int (xz b) :: rest)) := by
  cases b
  · exact lv_if_eq hx hb hdg ht (fun _ => kt rfl) (fun h => absurd rfl h)
  · exact lv_if_eq hx hb hdg ht (fun h => absurd h (by decide)) (fun _ => kf rfl)
theorem xZ_ne (hx : p.tables.exec = Jvm.exec) (hb : c.code = cc) {b : Bool} {tgt : Nat} {off : Int} (hdg : decode cc pc = .ok (.ifCond .ne off, 3)) (ht : (pc : Int) + off = (tgt : Int)) (kt : b = true → W p l e R s m args below meth c H locs cells slots Q (F0 m tgt ls rest)) (kf : b = false → W p l e R s m args below meth c H locs cells slots Q (F0 m (pc + 3) ls rest)) : W p l e R s m args below meth c H locs cells slots Q (F0 m pc ls (.int (xz b) :: rest)) := by
  cases b
  · exact lv_if_ne hx hb hdg ht (fun h => absurd rfl h) (fun _ => kf rfl)
  · exact lv_if_ne hx hb hdg ht (fun _ => kt rfl) (fun h => absurd h (by decide))
theorem xA_ild (hF : FX p s m args c cc nL own g) (hP : va_P g.1 vwCl ws H) (q0 : Nat) {a n k : Nat} {f : Nat → Int32} {v : Int32} (ha : ws[q0]? = some (a, .inl (g.2.1 0, n, .inl f))) (hk : k < n) (hn : n < 2147483648) (hv : f k = v) (hdg : decode cc pc = .ok (.iaload, 1)) (kk : W p l e R s m args below meth c H locs cells slots Q (F0 m (pc + 1) ls (.int v :: rest))) : W p l e R s m args below meth c H locs cells slots Q (F0 m pc ls (.int (nI k) :: .ref a :: rest)) := va_iald hF.1.1 hF.1.2.1 hF.2.1 hP q0 0 ha rfl (vp_in_nI hk hn) hdg (by rw [nI_clamp (Nat.lt_trans hk hn), hv]; exact kk)
theorem xA_cld (hF : FX p s m args c cc nL own g) (hP : va_P g.1 vwCl ws H) (q0 : Nat) {a n k : Nat} {f : Nat → Int32} {v : Int32} (ha : ws[q0]? = some (a, .inl (g.2.1 1, n, .inl f))) (hk : k < n) (hn : n < 2147483648) (hv : f k = v) (hdg : decode cc pc = .ok (.caload, 1)) (kk : W p l e R s m args below meth c H locs cells slots Q (F0 m (pc + 1) ls (.int v :: rest))) : W p l e R s m args below meth c H locs cells slots Q (F0 m pc ls (.int (nI k) :: .ref a :: rest)) := va_cald hF.1.1 hF.1.2.1 hF.2.1 hP q0 1 ha rfl (vp_in_nI hk hn) hdg (by rw [nI_clamp (Nat.lt_trans hk hn), hv]; exact kk)
theorem xA_qld (hF : FX p s m args c cc nL own g) (hP : va_P g.1 vwCl ws H) (q0 : Nat) {a n k : Nat} {f : Nat → Option Nat} {v : Value} (ha : ws[q0]? = some (a, .inl (g.2.1 2, n, .inr (.inr (.inr (.inr f)))))) (hk : k < n) (hn : n < 2147483648) (hv : va_rf (f k) = v) (hdg : decode cc pc = .ok (.aaload, 1)) (kk : W p l e R s m args below meth c H locs cells slots Q (F0 m (pc + 1) ls (v :: rest))) : W p l e R s m args below meth c H locs cells slots Q (F0 m pc ls (.int (nI k) :: .ref a :: rest)) := va_aldq hF.1.1 hF.1.2.1 hF.2.1 hP q0 2 ha rfl (vp_in_nI hk hn) hdg (by rw [nI_clamp (Nat.lt_trans hk hn), hv]; exact kk)
theorem xA_len (hF : FX p s m args c cc nL own g) (hP : va_P g.1 vwCl ws H) (q0 t0 : Nat) {a n : Nat} {cA : ClassId} {ty : FieldType} {y : (Nat → Int32) ⊕ (Nat → Int64) ⊕ (Nat → UInt32) ⊕ (Nat → UInt64) ⊕ (Nat → Option Nat)} (ha : ws[q0]? = some (a, .inl (cA, n, y))) (ht : (xTy g)[t0]? = some (cA, ty)) (hdg : decode cc pc = .ok (.arraylength, 1)) (kk : W p l e R s m args below meth c H locs cells slots Q (F0 m (pc + 1) ls (.int (nI n) :: rest))) : W p l e R s m args below meth c H locs cells slots Q (F0 m pc ls (.ref a :: rest)) := va_alen hF.1.1 hF.1.2.1 hF.2.1 hP q0 t0 ha ht rfl hdg kk
theorem xA_ist (hF : FX p s m args c cc nL own g) (hP : va_P g.1 vwCl ws H) (hD : va_D A ws) (hS : va_S A H0 H locs) (q0 : Nat) {a n k : Nat} {f : Nat → Int32} {v : Int32} (ha : ws[q0]? = some (a, .inl (g.2.1 0, n, .inl f))) (hk : k < n) (hn : n < 2147483648) (hdg : decode cc pc = .ok (.iastore, 1)) (kk : ∀ (H1 : Heap) (locs1 : List Loc), va_P g.1 vwCl (ws.set q0 (a, .inl (g.2.1 0, n, .inl (upd f k v)))) H1 → va_S A H0 H1 locs1 → W p l e R s m args below meth c H1 locs1 cells slots Q (F0 m (pc + 1) ls rest)) : W p l e R s m args below meth c H locs cells slots Q (F0 m pc ls (.int v :: .int (nI k) :: .ref a :: rest)) := va_iast hF.1.1 hF.1.2.1 hF.2.1 hP hD hS q0 0 ha rfl (vp_in_nI hk hn) hdg (fun H1 l1 h1 _ h3 => kk H1 l1 (by rw [nI_clamp (Nat.lt_trans hk hn)] at h1; exact h1) h3)
theorem xA_cst (hF : FX p s m args c cc nL own g) (hP : va_P g.1 vwCl ws H) (hD : va_D A ws) (hS : va_S A H0 H locs) (q0 : Nat) {a n k : Nat} {f : Nat → Int32} {v v2 : Int32} (ha : ws[q0]? = some (a, .inl (g.2.1 1, n, .inl f))) (hk : k < n) (hn : n < 2147483648) (hv : vp_nar .char v = v2) (hdg : decode cc pc = .ok (.castore, 1)) (kk : ∀ (H1 : Heap) (locs1 : List Loc), va_P g.1 vwCl (ws.set q0 (a, .inl (g.2.1 1, n, .inl (upd f k v2)))) H1 → va_S A H0 H1 locs1 → W p l e R s m args below meth c H1 locs1 cells slots Q (F0 m (pc + 1) ls rest)) : W p l e R s m args below meth c H locs cells slots Q (F0 m pc ls (.int v :: .int (nI k) :: .ref a :: rest)) := va_cast hF.1.1 hF.1.2.1 hF.2.1 hP hD hS q0 1 ha rfl (vp_in_nI hk hn) hdg (fun H1 l1 h1 _ h3 => kk H1 l1 (by rw [nI_clamp (Nat.lt_trans hk hn), hv] at h1; exact h1) h3)
/-- a method's entry -/
theorem xMet {y : MethodName} {maxL mc ms : Nat} {ret : Option FieldType} {rm : Room} {Qc : Array Value → State → Outcome → State → Prop} {free : Addr → Prop} {As : List Value} {hp : Heap → Prop} (hy : plainName y.cls = true) (hyc : y.cls = own) (hsz : (lg_sl As).length ≤ maxL)
    (body : ∀ (p : Program) (e : Env) (s : State) (m : MethodId) (below : List Frame) (meth : Method) (c : Code) (ls : Array Slot), FX p s m As.toArray c cc maxL own g → ZS g s s.heap → hp s.heap → meth.sig.returnType = ret → meth.locks = false → (y.name = "<init>" → meth.name = "<init>") → lv_has ls maxL (lv_args 0 As) → W p l e rm s m As.toArray below meth c s.heap [] 0 0 (MQ below Qc As.toArray s mc ms free) (F0 m 0 ls [])) : Met l y (ww y cc maxL ret) rm (xP g As hp) Qc mc ms free := by
  refine Met.ofW (cc := cc) (maxL := maxL) (ret := ret) hy rfl ?_
  intro p e s m args below meth c s₁ B hml hv
  obtain ⟨rfl, hK, hZ, hh⟩ := hv
  rw [lg_entry_eq]
  exact body p e s m below meth c _ (FX.of B.exec B.bytes hml (by rw [← hyc]; exact findClass_of_methodNamed B.named) (atoms_spec (ws := ww y cc maxL ret) B.pre) hK) hZ hh B.returns B.notSynchronized (fun q => (name_of_methodNamed B.named B.method).1.trans q) (lv_entry As hsz)
/-- ends of methods that change nothing -/
theorem xret_i {post : Int32 → Prop} {V : Int32} (hF : FX p s m args c cc nL own g) (hr : meth.sig.returnType = some .int) (hlocks : meth.locks = false) (hp : post V) (hdg : decode cc pc = .ok (.ireturn, 1)) : W p l e R s m args below meth c s.heap [] 0 0 (MQ below (vp_Si post) args s 0 0 (fun _ => False)) (F0 m pc ls [.int V]) := W.iret hF.1.1 hF.1.2.1 hr (fun t ht _ => ⟨V, rfl, hp, ht⟩) (fun q hq => absurd hq List.not_mem_nil) hdg hlocks
theorem xret_t {post : Int32 → Prop} {V : Int32} {ty : FieldType} (hF : FX p s m args c cc nL own g) (hr : meth.sig.returnType = some ty) (hlocks : meth.locks = false) (hn : narrow ty (.int V) = .int V) (hp : post V) (hdg : decode cc pc = .ok (.ireturn, 1)) : W p l e R s m args below meth c s.heap [] 0 0 (MQ below (vp_Si post) args s 0 0 (fun _ => False)) (F0 m pc ls [.int V]) := W.zret hF.1.1 hF.1.2.1 hr hn (fun t ht _ => ⟨V, rfl, hp, ht⟩) (fun q hq => absurd hq List.not_mem_nil) hdg hlocks
theorem xz_nar (b : Bool) : narrow .boolean (.int (xz b)) = .int (xz b) := by cases b <;> rfl
theorem xret_d {post : UInt64 → Prop} {V : UInt64} (hF : FX p s m args c cc nL own g) (hr : meth.sig.returnType = some .double) (hlocks : meth.locks = false) (hp : post V) (hdg : decode cc pc = .ok (.dreturn, 1)) : W p l e R s m args below meth c s.heap [] 0 0 (MQ below (vp_Sd post) args s 0 0 (fun _ => False)) (F0 m pc ls [.double V]) := W.dret hF.1.1 hF.1.2.1 hr (fun t ht _ => ⟨V, rfl, hp, ht⟩) (fun q hq => absurd hq List.not_mem_nil) hdg hlocks
theorem xret_q {post : Option Nat → Prop} {V : Nat} {ty : FieldType} (hF : FX p s m args c cc nL own g) (hr : meth.sig.returnType = some ty) (hlocks : meth.locks = false) (hn : (∃ n, ty = FieldType.object n) ∨ ∃ t, ty = FieldType.array t) (hp : post (some V)) (hdg : decode cc pc = .ok (.areturn, 1)) : W p l e R s m args below meth c s.heap [] 0 0 (MQ below (va_Sq post) args s 0 0 (fun _ => False)) (F0 m pc ls [.ref V]) := W.aret hF.1.1 hF.1.2.1 hr hn (Or.inr ⟨V, rfl⟩) (fun t ht _ => ⟨some V, rfl, hp, ht⟩) (fun q hq => absurd hq List.not_mem_nil) hdg hlocks
/-- ends of methods that change cells -/
theorem xend_i {post : Int32 → Heap → Prop} {V : Int32} (hF : FX p s m args c cc nL own g) (hr : meth.sig.returnType = some .int) (hlocks : meth.locks = false) (hS : va_S A s.heap H locs) (hp : post V H) (hdg : decode cc pc = .ok (.ireturn, 1)) : W p l e R s m args below meth c H locs cells slots (MQ below (xQi post A) args s cells slots A) (F0 m pc ls [.int V]) := W.iret hF.1.1 hF.1.2.1 hr (fun t ht _ => ⟨⟨V, rfl, by rw [ht]; exact hp⟩, hS.F ht⟩) hS.2.2 hdg hlocks
theorem xend_t {post : Int32 → Heap → Prop} {V : Int32} {ty : FieldType} (hF : FX p s m args c cc nL own g) (hr : meth.sig.returnType = some ty) (hlocks : meth.locks = false) (hn : narrow ty (.int V) = .int V) (hS : va_S A s.heap H locs) (hp : post V H) (hdg : decode cc pc = .ok (.ireturn, 1)) : W p l e R s m args below meth c H locs cells slots (MQ below (xQi post A) args s cells slots A) (F0 m pc ls [.int V]) := W.zret hF.1.1 hF.1.2.1 hr hn (fun t ht _ => ⟨⟨V, rfl, by rw [ht]; exact hp⟩, hS.F ht⟩) hS.2.2 hdg hlocks
theorem xend_v {post : Heap → Prop} (hF : FX p s m args c cc nL own g) (hr : meth.sig.returnType = none) (hlocks : meth.locks = false) (hS : va_S A s.heap H locs) (hp : post H) (hdg : decode cc pc = .ok (.return_, 1)) : W p l e R s m args below meth c H locs cells slots (MQ below (xQv post A) args s cells slots A) (F0 m pc ls []) := W.vret hF.1.1 hF.1.2.1 hr (fun t ht _ => ⟨⟨rfl, by rw [ht]; exact hp⟩, hS.F ht⟩) hS.2.2 hdg hlocks
end XR
end
section
/-! a row for each field that a class reads or writes -/
section XF
variable {p : Program} {l : Launch} {e : Env} {R : Room} {s : State} {m : MethodId} {args : Array Value} {below : List Frame} {meth : Method} {c : Code} {H : Heap} {locs : List Loc} {cells slots : Nat} {Q : State → Prop}
variable {cc : ByteArray} {pc : Nat} {ls : Array Slot} {rest st : List Value} {g : XG} {nL : Nat} {A : Nat → Prop} {ws : va_W} {H0 : Heap}
theorem xz_fit (b : Bool) : fits .boolean (.int (xz b)) = true := by cases b <;> rfl
theorem gf_X3_X3_log (hF : FX p s m args c cc nL RX3 g) (hP : va_P g.1 vwCl ws H) (q0 : Nat) {a : Nat} {fs : List Value} {v : Value} (he : ws[q0]? = some (a, .inr (3, fs))) (hv : fs[0]? = some v) (hdg : decode cc pc = .ok (.getfield 10, 3)) (kk : W p l e R s m args below meth c H locs cells slots Q (F0 m (pc + 3) ls (v :: rest))) : W p l e R s m args below meth c H locs cells slots Q (F0 m pc ls (.ref a :: rest)) := va_get (C := RX3) (T := TX3) (N := 6) hF.1.1 hF.1.2.1 hF.1.2.2.2.2 inX3 hF.1.2.2.2.1 hF.2.1 hP q0 he rfl 0 (by decide) (hF.1.2.2.2.2 _ q_15) (fun _ h => h) hv hdg kk
theorem pF_X3_X3_log (hF : FX p s m args c cc nL RX3 g) (hin : meth.name = "<init>") (hP : va_P g.1 vwCl ws H) (hD : va_D A ws) (hS : va_S A H0 H locs) (q0 : Nat) {a x : Nat} {fs : List Value} (he : ws[q0]? = some (a, .inr (3, fs))) (hlen : 0 < fs.length) (hdg : decode cc pc = .ok (.putfield 10, 3)) (kk : ∀ (H1 : Heap) (locs1 : List Loc), va_P g.1 vwCl (ws.set q0 (a, .inr (3, fs.set 0 (.ref x)))) H1 → va_D A (ws.set q0 (a, .inr (3, fs.set 0 (.ref x)))) → va_S A H0 H1 locs1 → W p l e R s m args below meth c H1 locs1 cells slots Q (F0 m (pc + 3) ls rest)) : W p l e R s m args below meth c H locs cells slots Q (F0 m pc ls (.ref x :: .ref a :: rest)) := va_putF (C := RX3) (T := TX3) (N := 6) hF.1.1 hF.1.2.1 hF.1.2.2.2.2 inX3 tyX3 tyX3_ok nmX3 hF.1.2.2.2.1 hF.2.1 hP hD hS q0 he rfl 0 (by decide) (hF.1.2.2.2.2 _ q_15) (fun _ h => h) rfl hin rfl (ty := .object "DittoLog$Log") rfl rfl rfl hlen hdg kk
theorem gf_X3_X3_snapshot (hF : FX p s m args c cc nL RX3 g) (hP : va_P g.1 vwCl ws H) (q0 : Nat) {a : Nat} {fs : List Value} {v : Value} (he : ws[q0]? = some (a, .inr (3, fs))) (hv : fs[1]? = some v) (hdg : decode cc pc = .ok (.getfield 16, 3)) (kk : W p l e R s m args below meth c H locs cells slots Q (F0 m (pc + 3) ls (v :: rest))) : W p l e R s m args below meth c H locs cells slots Q (F0 m pc ls (.ref a :: rest)) := va_get (C := RX3) (T := TX3) (N := 6) hF.1.1 hF.1.2.1 hF.1.2.2.2.2 inX3 hF.1.2.2.2.1 hF.2.1 hP q0 he rfl 1 (by decide) (hF.1.2.2.2.2 _ q_16) (fun _ h => h) hv hdg kk
theorem pF_X3_X3_snapshot (hF : FX p s m args c cc nL RX3 g) (hin : meth.name = "<init>") (hP : va_P g.1 vwCl ws H) (hD : va_D A ws) (hS : va_S A H0 H locs) (q0 : Nat) {a x : Nat} {fs : List Value} (he : ws[q0]? = some (a, .inr (3, fs))) (hlen : 1 < fs.length) (hdg : decode cc pc = .ok (.putfield 16, 3)) (kk : ∀ (H1 : Heap) (locs1 : List Loc), va_P g.1 vwCl (ws.set q0 (a, .inr (3, fs.set 1 (.ref x)))) H1 → va_D A (ws.set q0 (a, .inr (3, fs.set 1 (.ref x)))) → va_S A H0 H1 locs1 → W p l e R s m args below meth c H1 locs1 cells slots Q (F0 m (pc + 3) ls rest)) : W p l e R s m args below meth c H locs cells slots Q (F0 m pc ls (.ref x :: .ref a :: rest)) := va_putF (C := RX3) (T := TX3) (N := 6) hF.1.1 hF.1.2.1 hF.1.2.2.2.2 inX3 tyX3 tyX3_ok nmX3 hF.1.2.2.2.1 hF.2.1 hP hD hS q0 he rfl 1 (by decide) (hF.1.2.2.2.2 _ q_16) (fun _ h => h) rfl hin rfl (ty := .object "DittoLog$Log") rfl rfl rfl hlen hdg kk
theorem gf_X3_X3_hasSnapshot (hF : FX p s m args c cc nL RX3 g) (hP : va_P g.1 vwCl ws H) (q0 : Nat) {a : Nat} {fs : List Value} {v : Value} (he : ws[q0]? = some (a, .inr (3, fs))) (hv : fs[2]? = some v) (hdg : decode cc pc = .ok (.getfield 19, 3)) (kk : W p l e R s m args below meth c H locs cells slots Q (F0 m (pc + 3) ls (v :: rest))) : W p l e R s m args below meth c H locs cells slots Q (F0 m pc ls (.ref a :: rest)) := va_get (C := RX3) (T := TX3) (N := 6) hF.1.1 hF.1.2.1 hF.1.2.2.2.2 inX3 hF.1.2.2.2.1 hF.2.1 hP q0 he rfl 2 (by decide) (hF.1.2.2.2.2 _ q_17) (fun _ h => h) hv hdg kk
theorem pf_X3_X3_hasSnapshot (hF : FX p s m args c cc nL RX3 g) (hP : va_P g.1 vwCl ws H) (hD : va_D A ws) (hS : va_S A H0 H locs) (q0 : Nat) {a : Nat} {fs : List Value} {x : Bool} (he : ws[q0]? = some (a, .inr (3, fs))) (hlen : 2 < fs.length) (hdg : decode cc pc = .ok (.putfield 19, 3)) (kk : ∀ (H1 : Heap) (locs1 : List Loc), va_P g.1 vwCl (ws.set q0 (a, .inr (3, fs.set 2 (.int (xz x))))) H1 → va_S A H0 H1 locs1 → W p l e R s m args below meth c H1 locs1 cells slots Q (F0 m (pc + 3) ls rest)) : W p l e R s m args below meth c H locs cells slots Q (F0 m pc ls (.int (xz x) :: .ref a :: rest)) := va_put (C := RX3) (T := TX3) (N := 6) hF.1.1 hF.1.2.1 hF.1.2.2.2.2 inX3 tyX3 tyX3_ok nmX3 hF.1.2.2.2.1 hF.2.1 hP hD hS q0 he rfl 2 (by decide) (hF.1.2.2.2.2 _ q_17) (fun _ h => h) rfl (ty := .boolean) rfl (xz_nar x) (xz_fit x) hlen hdg (fun H1 l1 h1 _ h3 => kk H1 l1 h1 h3)
theorem gf_X3_X3_history (hF : FX p s m args c cc nL RX3 g) (hP : va_P g.1 vwCl ws H) (q0 : Nat) {a : Nat} {fs : List Value} {v : Value} (he : ws[q0]? = some (a, .inr (3, fs))) (hv : fs[3]? = some v) (hdg : decode cc pc = .ok (.getfield 26, 3)) (kk : W p l e R s m args below meth c H locs cells slots Q (F0 m (pc + 3) ls (v :: rest))) : W p l e R s m args below meth c H locs cells slots Q (F0 m pc ls (.ref a :: rest)) := va_get (C := RX3) (T := TX3) (N := 6) hF.1.1 hF.1.2.1 hF.1.2.2.2.2 inX3 hF.1.2.2.2.1 hF.2.1 hP q0 he rfl 3 (by decide) (hF.1.2.2.2.2 _ q_21) (fun _ h => h) hv hdg kk
theorem pF_X3_X3_history (hF : FX p s m args c cc nL RX3 g) (hin : meth.name = "<init>") (hP : va_P g.1 vwCl ws H) (hD : va_D A ws) (hS : va_S A H0 H locs) (q0 : Nat) {a x : Nat} {fs : List Value} (he : ws[q0]? = some (a, .inr (3, fs))) (hlen : 3 < fs.length) (hdg : decode cc pc = .ok (.putfield 26, 3)) (kk : ∀ (H1 : Heap) (locs1 : List Loc), va_P g.1 vwCl (ws.set q0 (a, .inr (3, fs.set 3 (.ref x)))) H1 → va_D A (ws.set q0 (a, .inr (3, fs.set 3 (.ref x)))) → va_S A H0 H1 locs1 → W p l e R s m args below meth c H1 locs1 cells slots Q (F0 m (pc + 3) ls rest)) : W p l e R s m args below meth c H locs cells slots Q (F0 m pc ls (.ref x :: .ref a :: rest)) := va_putF (C := RX3) (T := TX3) (N := 6) hF.1.1 hF.1.2.1 hF.1.2.2.2.2 inX3 tyX3 tyX3_ok nmX3 hF.1.2.2.2.1 hF.2.1 hP hD hS q0 he rfl 3 (by decide) (hF.1.2.2.2.2 _ q_21) (fun _ h => h) rfl hin rfl (ty := .object "DittoLog$History") rfl rfl rfl hlen hdg kk
theorem gf_X3_X3_text (hF : FX p s m args c cc nL RX3 g) (hP : va_P g.1 vwCl ws H) (q0 : Nat) {a : Nat} {fs : List Value} {v : Value} (he : ws[q0]? = some (a, .inr (3, fs))) (hv : fs[4]? = some v) (hdg : decode cc pc = .ok (.getfield 33, 3)) (kk : W p l e R s m args below meth c H locs cells slots Q (F0 m (pc + 3) ls (v :: rest))) : W p l e R s m args below meth c H locs cells slots Q (F0 m pc ls (.ref a :: rest)) := va_get (C := RX3) (T := TX3) (N := 6) hF.1.1 hF.1.2.1 hF.1.2.2.2.2 inX3 hF.1.2.2.2.1 hF.2.1 hP q0 he rfl 4 (by decide) (hF.1.2.2.2.2 _ q_25) (fun _ h => h) hv hdg kk
theorem pF_X3_X3_text (hF : FX p s m args c cc nL RX3 g) (hin : meth.name = "<init>") (hP : va_P g.1 vwCl ws H) (hD : va_D A ws) (hS : va_S A H0 H locs) (q0 : Nat) {a x : Nat} {fs : List Value} (he : ws[q0]? = some (a, .inr (3, fs))) (hlen : 4 < fs.length) (hdg : decode cc pc = .ok (.putfield 33, 3)) (kk : ∀ (H1 : Heap) (locs1 : List Loc), va_P g.1 vwCl (ws.set q0 (a, .inr (3, fs.set 4 (.ref x)))) H1 → va_D A (ws.set q0 (a, .inr (3, fs.set 4 (.ref x)))) → va_S A H0 H1 locs1 → W p l e R s m args below meth c H1 locs1 cells slots Q (F0 m (pc + 3) ls rest)) : W p l e R s m args below meth c H locs cells slots Q (F0 m pc ls (.ref x :: .ref a :: rest)) := va_putF (C := RX3) (T := TX3) (N := 6) hF.1.1 hF.1.2.1 hF.1.2.2.2.2 inX3 tyX3 tyX3_ok nmX3 hF.1.2.2.2.1 hF.2.1 hP hD hS q0 he rfl 4 (by decide) (hF.1.2.2.2.2 _ q_25) (fun _ h => h) rfl hin rfl (ty := .object "DittoLog$RowsText") rfl rfl rfl hlen hdg kk
theorem gf_X3_X3_tally (hF : FX p s m args c cc nL RX3 g) (hP : va_P g.1 vwCl ws H) (q0 : Nat) {a : Nat} {fs : List Value} {v : Value} (he : ws[q0]? = some (a, .inr (3, fs))) (hv : fs[5]? = some v) (hdg : decode cc pc = .ok (.getfield 37, 3)) (kk : W p l e R s m args below meth c H locs cells slots Q (F0 m (pc + 3) ls (v :: rest))) : W p l e R s m args below meth c H locs cells slots Q (F0 m pc ls (.ref a :: rest)) := va_get (C := RX3) (T := TX3) (N := 6) hF.1.1 hF.1.2.1 hF.1.2.2.2.2 inX3 hF.1.2.2.2.1 hF.2.1 hP q0 he rfl 5 (by decide) (hF.1.2.2.2.2 _ q_27) (fun _ h => h) hv hdg kk
theorem pF_X3_X3_tally (hF : FX p s m args c cc nL RX3 g) (hin : meth.name = "<init>") (hP : va_P g.1 vwCl ws H) (hD : va_D A ws) (hS : va_S A H0 H locs) (q0 : Nat) {a x : Nat} {fs : List Value} (he : ws[q0]? = some (a, .inr (3, fs))) (hlen : 5 < fs.length) (hdg : decode cc pc = .ok (.putfield 37, 3)) (kk : ∀ (H1 : Heap) (locs1 : List Loc), va_P g.1 vwCl (ws.set q0 (a, .inr (3, fs.set 5 (.ref x)))) H1 → va_D A (ws.set q0 (a, .inr (3, fs.set 5 (.ref x)))) → va_S A H0 H1 locs1 → W p l e R s m args below meth c H1 locs1 cells slots Q (F0 m (pc + 3) ls rest)) : W p l e R s m args below meth c H locs cells slots Q (F0 m pc ls (.ref x :: .ref a :: rest)) := va_putF (C := RX3) (T := TX3) (N := 6) hF.1.1 hF.1.2.1 hF.1.2.2.2.2 inX3 tyX3 tyX3_ok nmX3 hF.1.2.2.2.1 hF.2.1 hP hD hS q0 he rfl 5 (by decide) (hF.1.2.2.2.2 _ q_27) (fun _ h => h) rfl hin rfl (ty := .array .int) rfl rfl rfl hlen hdg kk
theorem gf_X1_X1_entries (hF : FX p s m args c cc nL RX1 g) (hP : va_P g.1 vwCl ws H) (q0 : Nat) {a : Nat} {fs : List Value} {v : Value} (he : ws[q0]? = some (a, .inr (1, fs))) (hv : fs[0]? = some v) (hdg : decode cc pc = .ok (.getfield 9, 3)) (kk : W p l e R s m args below meth c H locs cells slots Q (F0 m (pc + 3) ls (v :: rest))) : W p l e R s m args below meth c H locs cells slots Q (F0 m pc ls (.ref a :: rest)) := va_get (C := RX1) (T := TX1) (N := 7) hF.1.1 hF.1.2.1 hF.1.2.2.2.2 inX1 hF.1.2.2.2.1 hF.2.1 hP q0 he rfl 0 (by decide) (hF.1.2.2.2.2 _ q_31) (fun _ h => h) hv hdg kk
theorem pF_X1_X1_entries (hF : FX p s m args c cc nL RX1 g) (hin : meth.name = "<init>") (hP : va_P g.1 vwCl ws H) (hD : va_D A ws) (hS : va_S A H0 H locs) (q0 : Nat) {a x : Nat} {fs : List Value} (he : ws[q0]? = some (a, .inr (1, fs))) (hlen : 0 < fs.length) (hdg : decode cc pc = .ok (.putfield 9, 3)) (kk : ∀ (H1 : Heap) (locs1 : List Loc), va_P g.1 vwCl (ws.set q0 (a, .inr (1, fs.set 0 (.ref x)))) H1 → va_D A (ws.set q0 (a, .inr (1, fs.set 0 (.ref x)))) → va_S A H0 H1 locs1 → W p l e R s m args below meth c H1 locs1 cells slots Q (F0 m (pc + 3) ls rest)) : W p l e R s m args below meth c H locs cells slots Q (F0 m pc ls (.ref x :: .ref a :: rest)) := va_putF (C := RX1) (T := TX1) (N := 7) hF.1.1 hF.1.2.1 hF.1.2.2.2.2 inX1 tyX1 tyX1_ok nmX1 hF.1.2.2.2.1 hF.2.1 hP hD hS q0 he rfl 0 (by decide) (hF.1.2.2.2.2 _ q_31) (fun _ h => h) rfl hin rfl (ty := .array .int) rfl rfl rfl hlen hdg kk
theorem gf_X1_X1_entryCounts (hF : FX p s m args c cc nL RX1 g) (hP : va_P g.1 vwCl ws H) (q0 : Nat) {a : Nat} {fs : List Value} {v : Value} (he : ws[q0]? = some (a, .inr (1, fs))) (hv : fs[1]? = some v) (hdg : decode cc pc = .ok (.getfield 15, 3)) (kk : W p l e R s m args below meth c H locs cells slots Q (F0 m (pc + 3) ls (v :: rest))) : W p l e R s m args below meth c H locs cells slots Q (F0 m pc ls (.ref a :: rest)) := va_get (C := RX1) (T := TX1) (N := 7) hF.1.1 hF.1.2.1 hF.1.2.2.2.2 inX1 hF.1.2.2.2.1 hF.2.1 hP q0 he rfl 1 (by decide) (hF.1.2.2.2.2 _ q_32) (fun _ h => h) hv hdg kk
theorem pF_X1_X1_entryCounts (hF : FX p s m args c cc nL RX1 g) (hin : meth.name = "<init>") (hP : va_P g.1 vwCl ws H) (hD : va_D A ws) (hS : va_S A H0 H locs) (q0 : Nat) {a x : Nat} {fs : List Value} (he : ws[q0]? = some (a, .inr (1, fs))) (hlen : 1 < fs.length) (hdg : decode cc pc = .ok (.putfield 15, 3)) (kk : ∀ (H1 : Heap) (locs1 : List Loc), va_P g.1 vwCl (ws.set q0 (a, .inr (1, fs.set 1 (.ref x)))) H1 → va_D A (ws.set q0 (a, .inr (1, fs.set 1 (.ref x)))) → va_S A H0 H1 locs1 → W p l e R s m args below meth c H1 locs1 cells slots Q (F0 m (pc + 3) ls rest)) : W p l e R s m args below meth c H locs cells slots Q (F0 m pc ls (.ref x :: .ref a :: rest)) := va_putF (C := RX1) (T := TX1) (N := 7) hF.1.1 hF.1.2.1 hF.1.2.2.2.2 inX1 tyX1 tyX1_ok nmX1 hF.1.2.2.2.1 hF.2.1 hP hD hS q0 he rfl 1 (by decide) (hF.1.2.2.2.2 _ q_32) (fun _ h => h) rfl hin rfl (ty := .array .int) rfl rfl rfl hlen hdg kk
theorem gf_X1_X1_sums (hF : FX p s m args c cc nL RX1 g) (hP : va_P g.1 vwCl ws H) (q0 : Nat) {a : Nat} {fs : List Value} {v : Value} (he : ws[q0]? = some (a, .inr (1, fs))) (hv : fs[2]? = some v) (hdg : decode cc pc = .ok (.getfield 18, 3)) (kk : W p l e R s m args below meth c H locs cells slots Q (F0 m (pc + 3) ls (v :: rest))) : W p l e R s m args below meth c H locs cells slots Q (F0 m pc ls (.ref a :: rest)) := va_get (C := RX1) (T := TX1) (N := 7) hF.1.1 hF.1.2.1 hF.1.2.2.2.2 inX1 hF.1.2.2.2.1 hF.2.1 hP q0 he rfl 2 (by decide) (hF.1.2.2.2.2 _ q_33) (fun _ h => h) hv hdg kk
theorem pF_X1_X1_sums (hF : FX p s m args c cc nL RX1 g) (hin : meth.name = "<init>") (hP : va_P g.1 vwCl ws H) (hD : va_D A ws) (hS : va_S A H0 H locs) (q0 : Nat) {a x : Nat} {fs : List Value} (he : ws[q0]? = some (a, .inr (1, fs))) (hlen : 2 < fs.length) (hdg : decode cc pc = .ok (.putfield 18, 3)) (kk : ∀ (H1 : Heap) (locs1 : List Loc), va_P g.1 vwCl (ws.set q0 (a, .inr (1, fs.set 2 (.ref x)))) H1 → va_D A (ws.set q0 (a, .inr (1, fs.set 2 (.ref x)))) → va_S A H0 H1 locs1 → W p l e R s m args below meth c H1 locs1 cells slots Q (F0 m (pc + 3) ls rest)) : W p l e R s m args below meth c H locs cells slots Q (F0 m pc ls (.ref x :: .ref a :: rest)) := va_putF (C := RX1) (T := TX1) (N := 7) hF.1.1 hF.1.2.1 hF.1.2.2.2.2 inX1 tyX1 tyX1_ok nmX1 hF.1.2.2.2.1 hF.2.1 hP hD hS q0 he rfl 2 (by decide) (hF.1.2.2.2.2 _ q_33) (fun _ h => h) rfl hin rfl (ty := .array .int) rfl rfl rfl hlen hdg kk
theorem gf_X1_X1_rows (hF : FX p s m args c cc nL RX1 g) (hP : va_P g.1 vwCl ws H) (q0 : Nat) {a : Nat} {fs : List Value} {v : Value} (he : ws[q0]? = some (a, .inr (1, fs))) (hv : fs[3]? = some v) (hdg : decode cc pc = .ok (.getfield 27, 3)) (kk : W p l e R s m args below meth c H locs cells slots Q (F0 m (pc + 3) ls (v :: rest))) : W p l e R s m args below meth c H locs cells slots Q (F0 m pc ls (.ref a :: rest)) := va_get (C := RX1) (T := TX1) (N := 7) hF.1.1 hF.1.2.1 hF.1.2.2.2.2 inX1 hF.1.2.2.2.1 hF.2.1 hP q0 he rfl 3 (by decide) (hF.1.2.2.2.2 _ q_34) (fun _ h => h) hv hdg kk
theorem pf_X1_X1_rows (hF : FX p s m args c cc nL RX1 g) (hP : va_P g.1 vwCl ws H) (hD : va_D A ws) (hS : va_S A H0 H locs) (q0 : Nat) {a : Nat} {fs : List Value} {x : Int32} (he : ws[q0]? = some (a, .inr (1, fs))) (hlen : 3 < fs.length) (hdg : decode cc pc = .ok (.putfield 27, 3)) (kk : ∀ (H1 : Heap) (locs1 : List Loc), va_P g.1 vwCl (ws.set q0 (a, .inr (1, fs.set 3 (.int x)))) H1 → va_S A H0 H1 locs1 → W p l e R s m args below meth c H1 locs1 cells slots Q (F0 m (pc + 3) ls rest)) : W p l e R s m args below meth c H locs cells slots Q (F0 m pc ls (.int x :: .ref a :: rest)) := va_put (C := RX1) (T := TX1) (N := 7) hF.1.1 hF.1.2.1 hF.1.2.2.2.2 inX1 tyX1 tyX1_ok nmX1 hF.1.2.2.2.1 hF.2.1 hP hD hS q0 he rfl 3 (by decide) (hF.1.2.2.2.2 _ q_34) (fun _ h => h) rfl (ty := .int) rfl rfl rfl hlen hdg (fun H1 l1 h1 _ h3 => kk H1 l1 h1 h3)
theorem gf_X1_X1_pageRows (hF : FX p s m args c cc nL RX1 g) (hP : va_P g.1 vwCl ws H) (q0 : Nat) {a : Nat} {fs : List Value} {v : Value} (he : ws[q0]? = some (a, .inr (1, fs))) (hv : fs[4]? = some v) (hdg : decode cc pc = .ok (.getfield 31, 3)) (kk : W p l e R s m args below meth c H locs cells slots Q (F0 m (pc + 3) ls (v :: rest))) : W p l e R s m args below meth c H locs cells slots Q (F0 m pc ls (.ref a :: rest)) := va_get (C := RX1) (T := TX1) (N := 7) hF.1.1 hF.1.2.1 hF.1.2.2.2.2 inX1 hF.1.2.2.2.1 hF.2.1 hP q0 he rfl 4 (by decide) (hF.1.2.2.2.2 _ q_35) (fun _ h => h) hv hdg kk
theorem pf_X1_X1_pageRows (hF : FX p s m args c cc nL RX1 g) (hP : va_P g.1 vwCl ws H) (hD : va_D A ws) (hS : va_S A H0 H locs) (q0 : Nat) {a : Nat} {fs : List Value} {x : Int32} (he : ws[q0]? = some (a, .inr (1, fs))) (hlen : 4 < fs.length) (hdg : decode cc pc = .ok (.putfield 31, 3)) (kk : ∀ (H1 : Heap) (locs1 : List Loc), va_P g.1 vwCl (ws.set q0 (a, .inr (1, fs.set 4 (.int x)))) H1 → va_S A H0 H1 locs1 → W p l e R s m args below meth c H1 locs1 cells slots Q (F0 m (pc + 3) ls rest)) : W p l e R s m args below meth c H locs cells slots Q (F0 m pc ls (.int x :: .ref a :: rest)) := va_put (C := RX1) (T := TX1) (N := 7) hF.1.1 hF.1.2.1 hF.1.2.2.2.2 inX1 tyX1 tyX1_ok nmX1 hF.1.2.2.2.1 hF.2.1 hP hD hS q0 he rfl 4 (by decide) (hF.1.2.2.2.2 _ q_35) (fun _ h => h) rfl (ty := .int) rfl rfl rfl hlen hdg (fun H1 l1 h1 _ h3 => kk H1 l1 h1 h3)
theorem gf_X1_X1_stopsAtPages (hF : FX p s m args c cc nL RX1 g) (hP : va_P g.1 vwCl ws H) (q0 : Nat) {a : Nat} {fs : List Value} {v : Value} (he : ws[q0]? = some (a, .inr (1, fs))) (hv : fs[5]? = some v) (hdg : decode cc pc = .ok (.getfield 34, 3)) (kk : W p l e R s m args below meth c H locs cells slots Q (F0 m (pc + 3) ls (v :: rest))) : W p l e R s m args below meth c H locs cells slots Q (F0 m pc ls (.ref a :: rest)) := va_get (C := RX1) (T := TX1) (N := 7) hF.1.1 hF.1.2.1 hF.1.2.2.2.2 inX1 hF.1.2.2.2.1 hF.2.1 hP q0 he rfl 5 (by decide) (hF.1.2.2.2.2 _ q_36) (fun _ h => h) hv hdg kk
theorem pf_X1_X1_stopsAtPages (hF : FX p s m args c cc nL RX1 g) (hP : va_P g.1 vwCl ws H) (hD : va_D A ws) (hS : va_S A H0 H locs) (q0 : Nat) {a : Nat} {fs : List Value} {x : Int32} (he : ws[q0]? = some (a, .inr (1, fs))) (hlen : 5 < fs.length) (hdg : decode cc pc = .ok (.putfield 34, 3)) (kk : ∀ (H1 : Heap) (locs1 : List Loc), va_P g.1 vwCl (ws.set q0 (a, .inr (1, fs.set 5 (.int x)))) H1 → va_S A H0 H1 locs1 → W p l e R s m args below meth c H1 locs1 cells slots Q (F0 m (pc + 3) ls rest)) : W p l e R s m args below meth c H locs cells slots Q (F0 m pc ls (.int x :: .ref a :: rest)) := va_put (C := RX1) (T := TX1) (N := 7) hF.1.1 hF.1.2.1 hF.1.2.2.2.2 inX1 tyX1 tyX1_ok nmX1 hF.1.2.2.2.1 hF.2.1 hP hD hS q0 he rfl 5 (by decide) (hF.1.2.2.2.2 _ q_36) (fun _ h => h) rfl (ty := .int) rfl rfl rfl hlen hdg (fun H1 l1 h1 _ h3 => kk H1 l1 h1 h3)
theorem gf_X1_X1_watchRows (hF : FX p s m args c cc nL RX1 g) (hP : va_P g.1 vwCl ws H) (q0 : Nat) {a : Nat} {fs : List Value} {v : Value} (he : ws[q0]? = some (a, .inr (1, fs))) (hv : fs[6]? = some v) (hdg : decode cc pc = .ok (.getfield 37, 3)) (kk : W p l e R s m args below meth c H locs cells slots Q (F0 m (pc + 3) ls (v :: rest))) : W p l e R s m args below meth c H locs cells slots Q (F0 m pc ls (.ref a :: rest)) := va_get (C := RX1) (T := TX1) (N := 7) hF.1.1 hF.1.2.1 hF.1.2.2.2.2 inX1 hF.1.2.2.2.1 hF.2.1 hP q0 he rfl 6 (by decide) (hF.1.2.2.2.2 _ q_37) (fun _ h => h) hv hdg kk
theorem pf_X1_X1_watchRows (hF : FX p s m args c cc nL RX1 g) (hP : va_P g.1 vwCl ws H) (hD : va_D A ws) (hS : va_S A H0 H locs) (q0 : Nat) {a : Nat} {fs : List Value} {x : Int32} (he : ws[q0]? = some (a, .inr (1, fs))) (hlen : 6 < fs.length) (hdg : decode cc pc = .ok (.putfield 37, 3)) (kk : ∀ (H1 : Heap) (locs1 : List Loc), va_P g.1 vwCl (ws.set q0 (a, .inr (1, fs.set 6 (.int x)))) H1 → va_S A H0 H1 locs1 → W p l e R s m args below meth c H1 locs1 cells slots Q (F0 m (pc + 3) ls rest)) : W p l e R s m args below meth c H locs cells slots Q (F0 m pc ls (.int x :: .ref a :: rest)) := va_put (C := RX1) (T := TX1) (N := 7) hF.1.1 hF.1.2.1 hF.1.2.2.2.2 inX1 tyX1 tyX1_ok nmX1 hF.1.2.2.2.1 hF.2.1 hP hD hS q0 he rfl 6 (by decide) (hF.1.2.2.2.2 _ q_37) (fun _ h => h) rfl (ty := .int) rfl rfl rfl hlen hdg (fun H1 l1 h1 _ h3 => kk H1 l1 h1 h3)
theorem gf_X0_X0_states (hF : FX p s m args c cc nL RX0 g) (hP : va_P g.1 vwCl ws H) (q0 : Nat) {a : Nat} {fs : List Value} {v : Value} (he : ws[q0]? = some (a, .inr (0, fs))) (hv : fs[0]? = some v) (hdg : decode cc pc = .ok (.getfield 11, 3)) (kk : W p l e R s m args below meth c H locs cells slots Q (F0 m (pc + 3) ls (v :: rest))) : W p l e R s m args below meth c H locs cells slots Q (F0 m pc ls (.ref a :: rest)) := va_get (C := RX0) (T := TX0) (N := 3) hF.1.1 hF.1.2.1 hF.1.2.2.2.2 inX0 hF.1.2.2.2.1 hF.2.1 hP q0 he rfl 0 (by decide) (hF.1.2.2.2.2 _ q_46) (fun _ h => h) hv hdg kk
theorem pF_X0_X0_states (hF : FX p s m args c cc nL RX0 g) (hin : meth.name = "<init>") (hP : va_P g.1 vwCl ws H) (hD : va_D A ws) (hS : va_S A H0 H locs) (q0 : Nat) {a x : Nat} {fs : List Value} (he : ws[q0]? = some (a, .inr (0, fs))) (hlen : 0 < fs.length) (hdg : decode cc pc = .ok (.putfield 11, 3)) (kk : ∀ (H1 : Heap) (locs1 : List Loc), va_P g.1 vwCl (ws.set q0 (a, .inr (0, fs.set 0 (.ref x)))) H1 → va_D A (ws.set q0 (a, .inr (0, fs.set 0 (.ref x)))) → va_S A H0 H1 locs1 → W p l e R s m args below meth c H1 locs1 cells slots Q (F0 m (pc + 3) ls rest)) : W p l e R s m args below meth c H locs cells slots Q (F0 m pc ls (.ref x :: .ref a :: rest)) := va_putF (C := RX0) (T := TX0) (N := 3) hF.1.1 hF.1.2.1 hF.1.2.2.2.2 inX0 tyX0 tyX0_ok nmX0 hF.1.2.2.2.1 hF.2.1 hP hD hS q0 he rfl 0 (by decide) (hF.1.2.2.2.2 _ q_46) (fun _ h => h) rfl hin rfl (ty := .array (.object "DittoLog$Log")) rfl rfl rfl hlen hdg kk
theorem gf_X0_X0_oldest (hF : FX p s m args c cc nL RX0 g) (hP : va_P g.1 vwCl ws H) (q0 : Nat) {a : Nat} {fs : List Value} {v : Value} (he : ws[q0]? = some (a, .inr (0, fs))) (hv : fs[1]? = some v) (hdg : decode cc pc = .ok (.getfield 18, 3)) (kk : W p l e R s m args below meth c H locs cells slots Q (F0 m (pc + 3) ls (v :: rest))) : W p l e R s m args below meth c H locs cells slots Q (F0 m pc ls (.ref a :: rest)) := va_get (C := RX0) (T := TX0) (N := 3) hF.1.1 hF.1.2.1 hF.1.2.2.2.2 inX0 hF.1.2.2.2.1 hF.2.1 hP q0 he rfl 1 (by decide) (hF.1.2.2.2.2 _ q_47) (fun _ h => h) hv hdg kk
theorem pf_X0_X0_oldest (hF : FX p s m args c cc nL RX0 g) (hP : va_P g.1 vwCl ws H) (hD : va_D A ws) (hS : va_S A H0 H locs) (q0 : Nat) {a : Nat} {fs : List Value} {x : Int32} (he : ws[q0]? = some (a, .inr (0, fs))) (hlen : 1 < fs.length) (hdg : decode cc pc = .ok (.putfield 18, 3)) (kk : ∀ (H1 : Heap) (locs1 : List Loc), va_P g.1 vwCl (ws.set q0 (a, .inr (0, fs.set 1 (.int x)))) H1 → va_S A H0 H1 locs1 → W p l e R s m args below meth c H1 locs1 cells slots Q (F0 m (pc + 3) ls rest)) : W p l e R s m args below meth c H locs cells slots Q (F0 m pc ls (.int x :: .ref a :: rest)) := va_put (C := RX0) (T := TX0) (N := 3) hF.1.1 hF.1.2.1 hF.1.2.2.2.2 inX0 tyX0 tyX0_ok nmX0 hF.1.2.2.2.1 hF.2.1 hP hD hS q0 he rfl 1 (by decide) (hF.1.2.2.2.2 _ q_47) (fun _ h => h) rfl (ty := .int) rfl rfl rfl hlen hdg (fun H1 l1 h1 _ h3 => kk H1 l1 h1 h3)
theorem gf_X0_X0_size (hF : FX p s m args c cc nL RX0 g) (hP : va_P g.1 vwCl ws H) (q0 : Nat) {a : Nat} {fs : List Value} {v : Value} (he : ws[q0]? = some (a, .inr (0, fs))) (hv : fs[2]? = some v) (hdg : decode cc pc = .ok (.getfield 22, 3)) (kk : W p l e R s m args below meth c H locs cells slots Q (F0 m (pc + 3) ls (v :: rest))) : W p l e R s m args below meth c H locs cells slots Q (F0 m pc ls (.ref a :: rest)) := va_get (C := RX0) (T := TX0) (N := 3) hF.1.1 hF.1.2.1 hF.1.2.2.2.2 inX0 hF.1.2.2.2.1 hF.2.1 hP q0 he rfl 2 (by decide) (hF.1.2.2.2.2 _ q_48) (fun _ h => h) hv hdg kk
theorem pf_X0_X0_size (hF : FX p s m args c cc nL RX0 g) (hP : va_P g.1 vwCl ws H) (hD : va_D A ws) (hS : va_S A H0 H locs) (q0 : Nat) {a : Nat} {fs : List Value} {x : Int32} (he : ws[q0]? = some (a, .inr (0, fs))) (hlen : 2 < fs.length) (hdg : decode cc pc = .ok (.putfield 22, 3)) (kk : ∀ (H1 : Heap) (locs1 : List Loc), va_P g.1 vwCl (ws.set q0 (a, .inr (0, fs.set 2 (.int x)))) H1 → va_S A H0 H1 locs1 → W p l e R s m args below meth c H1 locs1 cells slots Q (F0 m (pc + 3) ls rest)) : W p l e R s m args below meth c H locs cells slots Q (F0 m pc ls (.int x :: .ref a :: rest)) := va_put (C := RX0) (T := TX0) (N := 3) hF.1.1 hF.1.2.1 hF.1.2.2.2.2 inX0 tyX0 tyX0_ok nmX0 hF.1.2.2.2.1 hF.2.1 hP hD hS q0 he rfl 2 (by decide) (hF.1.2.2.2.2 _ q_48) (fun _ h => h) rfl (ty := .int) rfl rfl rfl hlen hdg (fun H1 l1 h1 _ h3 => kk H1 l1 h1 h3)
theorem gf_X2_X2_characters (hF : FX p s m args c cc nL RX2 g) (hP : va_P g.1 vwCl ws H) (q0 : Nat) {a : Nat} {fs : List Value} {v : Value} (he : ws[q0]? = some (a, .inr (2, fs))) (hv : fs[0]? = some v) (hdg : decode cc pc = .ok (.getfield 9, 3)) (kk : W p l e R s m args below meth c H locs cells slots Q (F0 m (pc + 3) ls (v :: rest))) : W p l e R s m args below meth c H locs cells slots Q (F0 m pc ls (.ref a :: rest)) := va_get (C := RX2) (T := TX2) (N := 4) hF.1.1 hF.1.2.1 hF.1.2.2.2.2 inX2 hF.1.2.2.2.1 hF.2.1 hP q0 he rfl 0 (by decide) (hF.1.2.2.2.2 _ q_53) (fun _ h => h) hv hdg kk
theorem pF_X2_X2_characters (hF : FX p s m args c cc nL RX2 g) (hin : meth.name = "<init>") (hP : va_P g.1 vwCl ws H) (hD : va_D A ws) (hS : va_S A H0 H locs) (q0 : Nat) {a x : Nat} {fs : List Value} (he : ws[q0]? = some (a, .inr (2, fs))) (hlen : 0 < fs.length) (hdg : decode cc pc = .ok (.putfield 9, 3)) (kk : ∀ (H1 : Heap) (locs1 : List Loc), va_P g.1 vwCl (ws.set q0 (a, .inr (2, fs.set 0 (.ref x)))) H1 → va_D A (ws.set q0 (a, .inr (2, fs.set 0 (.ref x)))) → va_S A H0 H1 locs1 → W p l e R s m args below meth c H1 locs1 cells slots Q (F0 m (pc + 3) ls rest)) : W p l e R s m args below meth c H locs cells slots Q (F0 m pc ls (.ref x :: .ref a :: rest)) := va_putF (C := RX2) (T := TX2) (N := 4) hF.1.1 hF.1.2.1 hF.1.2.2.2.2 inX2 tyX2 tyX2_ok nmX2 hF.1.2.2.2.1 hF.2.1 hP hD hS q0 he rfl 0 (by decide) (hF.1.2.2.2.2 _ q_53) (fun _ h => h) rfl hin rfl (ty := .array .char) rfl rfl rfl hlen hdg kk
theorem gf_X2_X2_cells (hF : FX p s m args c cc nL RX2 g) (hP : va_P g.1 vwCl ws H) (q0 : Nat) {a : Nat} {fs : List Value} {v : Value} (he : ws[q0]? = some (a, .inr (2, fs))) (hv : fs[1]? = some v) (hdg : decode cc pc = .ok (.getfield 15, 3)) (kk : W p l e R s m args below meth c H locs cells slots Q (F0 m (pc + 3) ls (v :: rest))) : W p l e R s m args below meth c H locs cells slots Q (F0 m pc ls (.ref a :: rest)) := va_get (C := RX2) (T := TX2) (N := 4) hF.1.1 hF.1.2.1 hF.1.2.2.2.2 inX2 hF.1.2.2.2.1 hF.2.1 hP q0 he rfl 1 (by decide) (hF.1.2.2.2.2 _ q_54) (fun _ h => h) hv hdg kk
theorem pF_X2_X2_cells (hF : FX p s m args c cc nL RX2 g) (hin : meth.name = "<init>") (hP : va_P g.1 vwCl ws H) (hD : va_D A ws) (hS : va_S A H0 H locs) (q0 : Nat) {a x : Nat} {fs : List Value} (he : ws[q0]? = some (a, .inr (2, fs))) (hlen : 1 < fs.length) (hdg : decode cc pc = .ok (.putfield 15, 3)) (kk : ∀ (H1 : Heap) (locs1 : List Loc), va_P g.1 vwCl (ws.set q0 (a, .inr (2, fs.set 1 (.ref x)))) H1 → va_D A (ws.set q0 (a, .inr (2, fs.set 1 (.ref x)))) → va_S A H0 H1 locs1 → W p l e R s m args below meth c H1 locs1 cells slots Q (F0 m (pc + 3) ls rest)) : W p l e R s m args below meth c H locs cells slots Q (F0 m pc ls (.ref x :: .ref a :: rest)) := va_putF (C := RX2) (T := TX2) (N := 4) hF.1.1 hF.1.2.1 hF.1.2.2.2.2 inX2 tyX2 tyX2_ok nmX2 hF.1.2.2.2.1 hF.2.1 hP hD hS q0 he rfl 1 (by decide) (hF.1.2.2.2.2 _ q_54) (fun _ h => h) rfl hin rfl (ty := .array .int) rfl rfl rfl hlen hdg kk
theorem gf_X2_X2_length (hF : FX p s m args c cc nL RX2 g) (hP : va_P g.1 vwCl ws H) (q0 : Nat) {a : Nat} {fs : List Value} {v : Value} (he : ws[q0]? = some (a, .inr (2, fs))) (hv : fs[2]? = some v) (hdg : decode cc pc = .ok (.getfield 19, 3)) (kk : W p l e R s m args below meth c H locs cells slots Q (F0 m (pc + 3) ls (v :: rest))) : W p l e R s m args below meth c H locs cells slots Q (F0 m pc ls (.ref a :: rest)) := va_get (C := RX2) (T := TX2) (N := 4) hF.1.1 hF.1.2.1 hF.1.2.2.2.2 inX2 hF.1.2.2.2.1 hF.2.1 hP q0 he rfl 2 (by decide) (hF.1.2.2.2.2 _ q_55) (fun _ h => h) hv hdg kk
theorem pf_X2_X2_length (hF : FX p s m args c cc nL RX2 g) (hP : va_P g.1 vwCl ws H) (hD : va_D A ws) (hS : va_S A H0 H locs) (q0 : Nat) {a : Nat} {fs : List Value} {x : Int32} (he : ws[q0]? = some (a, .inr (2, fs))) (hlen : 2 < fs.length) (hdg : decode cc pc = .ok (.putfield 19, 3)) (kk : ∀ (H1 : Heap) (locs1 : List Loc), va_P g.1 vwCl (ws.set q0 (a, .inr (2, fs.set 2 (.int x)))) H1 → va_S A H0 H1 locs1 → W p l e R s m args below meth c H1 locs1 cells slots Q (F0 m (pc + 3) ls rest)) : W p l e R s m args below meth c H locs cells slots Q (F0 m pc ls (.int x :: .ref a :: rest)) := va_put (C := RX2) (T := TX2) (N := 4) hF.1.1 hF.1.2.1 hF.1.2.2.2.2 inX2 tyX2 tyX2_ok nmX2 hF.1.2.2.2.1 hF.2.1 hP hD hS q0 he rfl 2 (by decide) (hF.1.2.2.2.2 _ q_55) (fun _ h => h) rfl (ty := .int) rfl rfl rfl hlen hdg (fun H1 l1 h1 _ h3 => kk H1 l1 h1 h3)
theorem gf_X2_X2_cellsRead (hF : FX p s m args c cc nL RX2 g) (hP : va_P g.1 vwCl ws H) (q0 : Nat) {a : Nat} {fs : List Value} {v : Value} (he : ws[q0]? = some (a, .inr (2, fs))) (hv : fs[3]? = some v) (hdg : decode cc pc = .ok (.getfield 23, 3)) (kk : W p l e R s m args below meth c H locs cells slots Q (F0 m (pc + 3) ls (v :: rest))) : W p l e R s m args below meth c H locs cells slots Q (F0 m pc ls (.ref a :: rest)) := va_get (C := RX2) (T := TX2) (N := 4) hF.1.1 hF.1.2.1 hF.1.2.2.2.2 inX2 hF.1.2.2.2.1 hF.2.1 hP q0 he rfl 3 (by decide) (hF.1.2.2.2.2 _ q_56) (fun _ h => h) hv hdg kk
theorem pf_X2_X2_cellsRead (hF : FX p s m args c cc nL RX2 g) (hP : va_P g.1 vwCl ws H) (hD : va_D A ws) (hS : va_S A H0 H locs) (q0 : Nat) {a : Nat} {fs : List Value} {x : Int32} (he : ws[q0]? = some (a, .inr (2, fs))) (hlen : 3 < fs.length) (hdg : decode cc pc = .ok (.putfield 23, 3)) (kk : ∀ (H1 : Heap) (locs1 : List Loc), va_P g.1 vwCl (ws.set q0 (a, .inr (2, fs.set 3 (.int x)))) H1 → va_S A H0 H1 locs1 → W p l e R s m args below meth c H1 locs1 cells slots Q (F0 m (pc + 3) ls rest)) : W p l e R s m args below meth c H locs cells slots Q (F0 m pc ls (.int x :: .ref a :: rest)) := va_put (C := RX2) (T := TX2) (N := 4) hF.1.1 hF.1.2.1 hF.1.2.2.2.2 inX2 tyX2 tyX2_ok nmX2 hF.1.2.2.2.1 hF.2.1 hP hD hS q0 he rfl 3 (by decide) (hF.1.2.2.2.2 _ q_56) (fun _ h => h) rfl (ty := .int) rfl rfl rfl hlen hdg (fun H1 l1 h1 _ h3 => kk H1 l1 h1 h3)
theorem gf_X4_X4_now (hF : FX p s m args c cc nL RX4 g) (hP : va_P g.1 vwCl ws H) (q0 : Nat) {a : Nat} {fs : List Value} {v : Value} (he : ws[q0]? = some (a, .inr (4, fs))) (hv : fs[0]? = some v) (hdg : decode cc pc = .ok (.getfield 7, 3)) (kk : W p l e R s m args below meth c H locs cells slots Q (F0 m (pc + 3) ls (v :: rest))) : W p l e R s m args below meth c H locs cells slots Q (F0 m pc ls (.ref a :: rest)) := va_get (C := RX4) (T := TX4) (N := 11) hF.1.1 hF.1.2.1 hF.1.2.2.2.2 inX4 hF.1.2.2.2.1 hF.2.1 hP q0 he rfl 0 (by decide) (hF.1.2.2.2.2 _ q_61) (fun _ h => h) hv hdg kk
theorem pF_X4_X4_now (hF : FX p s m args c cc nL RX4 g) (hin : meth.name = "<init>") (hP : va_P g.1 vwCl ws H) (hD : va_D A ws) (hS : va_S A H0 H locs) (q0 : Nat) {a x : Nat} {fs : List Value} (he : ws[q0]? = some (a, .inr (4, fs))) (hlen : 0 < fs.length) (hdg : decode cc pc = .ok (.putfield 7, 3)) (kk : ∀ (H1 : Heap) (locs1 : List Loc), va_P g.1 vwCl (ws.set q0 (a, .inr (4, fs.set 0 (.ref x)))) H1 → va_D A (ws.set q0 (a, .inr (4, fs.set 0 (.ref x)))) → va_S A H0 H1 locs1 → W p l e R s m args below meth c H1 locs1 cells slots Q (F0 m (pc + 3) ls rest)) : W p l e R s m args below meth c H locs cells slots Q (F0 m pc ls (.ref x :: .ref a :: rest)) := va_putF (C := RX4) (T := TX4) (N := 11) hF.1.1 hF.1.2.1 hF.1.2.2.2.2 inX4 tyX4 tyX4_ok nmX4 hF.1.2.2.2.1 hF.2.1 hP hD hS q0 he rfl 0 (by decide) (hF.1.2.2.2.2 _ q_61) (fun _ h => h) rfl hin rfl (ty := .array .int) rfl rfl rfl hlen hdg kk
theorem gf_X4_X4_past (hF : FX p s m args c cc nL RX4 g) (hP : va_P g.1 vwCl ws H) (q0 : Nat) {a : Nat} {fs : List Value} {v : Value} (he : ws[q0]? = some (a, .inr (4, fs))) (hv : fs[1]? = some v) (hdg : decode cc pc = .ok (.getfield 13, 3)) (kk : W p l e R s m args below meth c H locs cells slots Q (F0 m (pc + 3) ls (v :: rest))) : W p l e R s m args below meth c H locs cells slots Q (F0 m pc ls (.ref a :: rest)) := va_get (C := RX4) (T := TX4) (N := 11) hF.1.1 hF.1.2.1 hF.1.2.2.2.2 inX4 hF.1.2.2.2.1 hF.2.1 hP q0 he rfl 1 (by decide) (hF.1.2.2.2.2 _ q_62) (fun _ h => h) hv hdg kk
theorem pF_X4_X4_past (hF : FX p s m args c cc nL RX4 g) (hin : meth.name = "<init>") (hP : va_P g.1 vwCl ws H) (hD : va_D A ws) (hS : va_S A H0 H locs) (q0 : Nat) {a x : Nat} {fs : List Value} (he : ws[q0]? = some (a, .inr (4, fs))) (hlen : 1 < fs.length) (hdg : decode cc pc = .ok (.putfield 13, 3)) (kk : ∀ (H1 : Heap) (locs1 : List Loc), va_P g.1 vwCl (ws.set q0 (a, .inr (4, fs.set 1 (.ref x)))) H1 → va_D A (ws.set q0 (a, .inr (4, fs.set 1 (.ref x)))) → va_S A H0 H1 locs1 → W p l e R s m args below meth c H1 locs1 cells slots Q (F0 m (pc + 3) ls rest)) : W p l e R s m args below meth c H locs cells slots Q (F0 m pc ls (.ref x :: .ref a :: rest)) := va_putF (C := RX4) (T := TX4) (N := 11) hF.1.1 hF.1.2.1 hF.1.2.2.2.2 inX4 tyX4 tyX4_ok nmX4 hF.1.2.2.2.1 hF.2.1 hP hD hS q0 he rfl 1 (by decide) (hF.1.2.2.2.2 _ q_62) (fun _ h => h) rfl hin rfl (ty := .array .int) rfl rfl rfl hlen hdg kk
theorem gf_X4_X4_snapshot (hF : FX p s m args c cc nL RX4 g) (hP : va_P g.1 vwCl ws H) (q0 : Nat) {a : Nat} {fs : List Value} {v : Value} (he : ws[q0]? = some (a, .inr (4, fs))) (hv : fs[3]? = some v) (hdg : decode cc pc = .ok (.getfield 16, 3)) (kk : W p l e R s m args below meth c H locs cells slots Q (F0 m (pc + 3) ls (v :: rest))) : W p l e R s m args below meth c H locs cells slots Q (F0 m pc ls (.ref a :: rest)) := va_get (C := RX4) (T := TX4) (N := 11) hF.1.1 hF.1.2.1 hF.1.2.2.2.2 inX4 hF.1.2.2.2.1 hF.2.1 hP q0 he rfl 3 (by decide) (hF.1.2.2.2.2 _ q_63) (fun _ h => h) hv hdg kk
theorem pF_X4_X4_snapshot (hF : FX p s m args c cc nL RX4 g) (hin : meth.name = "<init>") (hP : va_P g.1 vwCl ws H) (hD : va_D A ws) (hS : va_S A H0 H locs) (q0 : Nat) {a x : Nat} {fs : List Value} (he : ws[q0]? = some (a, .inr (4, fs))) (hlen : 3 < fs.length) (hdg : decode cc pc = .ok (.putfield 16, 3)) (kk : ∀ (H1 : Heap) (locs1 : List Loc), va_P g.1 vwCl (ws.set q0 (a, .inr (4, fs.set 3 (.ref x)))) H1 → va_D A (ws.set q0 (a, .inr (4, fs.set 3 (.ref x)))) → va_S A H0 H1 locs1 → W p l e R s m args below meth c H1 locs1 cells slots Q (F0 m (pc + 3) ls rest)) : W p l e R s m args below meth c H locs cells slots Q (F0 m pc ls (.ref x :: .ref a :: rest)) := va_putF (C := RX4) (T := TX4) (N := 11) hF.1.1 hF.1.2.1 hF.1.2.2.2.2 inX4 tyX4 tyX4_ok nmX4 hF.1.2.2.2.1 hF.2.1 hP hD hS q0 he rfl 3 (by decide) (hF.1.2.2.2.2 _ q_63) (fun _ h => h) rfl hin rfl (ty := .array .int) rfl rfl rfl hlen hdg kk
theorem gf_X4_X4_text (hF : FX p s m args c cc nL RX4 g) (hP : va_P g.1 vwCl ws H) (q0 : Nat) {a : Nat} {fs : List Value} {v : Value} (he : ws[q0]? = some (a, .inr (4, fs))) (hv : fs[5]? = some v) (hdg : decode cc pc = .ok (.getfield 19, 3)) (kk : W p l e R s m args below meth c H locs cells slots Q (F0 m (pc + 3) ls (v :: rest))) : W p l e R s m args below meth c H locs cells slots Q (F0 m pc ls (.ref a :: rest)) := va_get (C := RX4) (T := TX4) (N := 11) hF.1.1 hF.1.2.1 hF.1.2.2.2.2 inX4 hF.1.2.2.2.1 hF.2.1 hP q0 he rfl 5 (by decide) (hF.1.2.2.2.2 _ q_64) (fun _ h => h) hv hdg kk
theorem pF_X4_X4_text (hF : FX p s m args c cc nL RX4 g) (hin : meth.name = "<init>") (hP : va_P g.1 vwCl ws H) (hD : va_D A ws) (hS : va_S A H0 H locs) (q0 : Nat) {a x : Nat} {fs : List Value} (he : ws[q0]? = some (a, .inr (4, fs))) (hlen : 5 < fs.length) (hdg : decode cc pc = .ok (.putfield 19, 3)) (kk : ∀ (H1 : Heap) (locs1 : List Loc), va_P g.1 vwCl (ws.set q0 (a, .inr (4, fs.set 5 (.ref x)))) H1 → va_D A (ws.set q0 (a, .inr (4, fs.set 5 (.ref x)))) → va_S A H0 H1 locs1 → W p l e R s m args below meth c H1 locs1 cells slots Q (F0 m (pc + 3) ls rest)) : W p l e R s m args below meth c H locs cells slots Q (F0 m pc ls (.ref x :: .ref a :: rest)) := va_putF (C := RX4) (T := TX4) (N := 11) hF.1.1 hF.1.2.1 hF.1.2.2.2.2 inX4 tyX4 tyX4_ok nmX4 hF.1.2.2.2.1 hF.2.1 hP hD hS q0 he rfl 5 (by decide) (hF.1.2.2.2.2 _ q_64) (fun _ h => h) rfl hin rfl (ty := .array .char) rfl rfl rfl hlen hdg kk
theorem gf_X4_X4_meant (hF : FX p s m args c cc nL RX4 g) (hP : va_P g.1 vwCl ws H) (q0 : Nat) {a : Nat} {fs : List Value} {v : Value} (he : ws[q0]? = some (a, .inr (4, fs))) (hv : fs[7]? = some v) (hdg : decode cc pc = .ok (.getfield 23, 3)) (kk : W p l e R s m args below meth c H locs cells slots Q (F0 m (pc + 3) ls (v :: rest))) : W p l e R s m args below meth c H locs cells slots Q (F0 m pc ls (.ref a :: rest)) := va_get (C := RX4) (T := TX4) (N := 11) hF.1.1 hF.1.2.1 hF.1.2.2.2.2 inX4 hF.1.2.2.2.1 hF.2.1 hP q0 he rfl 7 (by decide) (hF.1.2.2.2.2 _ q_65) (fun _ h => h) hv hdg kk
theorem pF_X4_X4_meant (hF : FX p s m args c cc nL RX4 g) (hin : meth.name = "<init>") (hP : va_P g.1 vwCl ws H) (hD : va_D A ws) (hS : va_S A H0 H locs) (q0 : Nat) {a x : Nat} {fs : List Value} (he : ws[q0]? = some (a, .inr (4, fs))) (hlen : 7 < fs.length) (hdg : decode cc pc = .ok (.putfield 23, 3)) (kk : ∀ (H1 : Heap) (locs1 : List Loc), va_P g.1 vwCl (ws.set q0 (a, .inr (4, fs.set 7 (.ref x)))) H1 → va_D A (ws.set q0 (a, .inr (4, fs.set 7 (.ref x)))) → va_S A H0 H1 locs1 → W p l e R s m args below meth c H1 locs1 cells slots Q (F0 m (pc + 3) ls rest)) : W p l e R s m args below meth c H locs cells slots Q (F0 m pc ls (.ref x :: .ref a :: rest)) := va_putF (C := RX4) (T := TX4) (N := 11) hF.1.1 hF.1.2.1 hF.1.2.2.2.2 inX4 tyX4 tyX4_ok nmX4 hF.1.2.2.2.1 hF.2.1 hP hD hS q0 he rfl 7 (by decide) (hF.1.2.2.2.2 _ q_65) (fun _ h => h) rfl hin rfl (ty := .array .int) rfl rfl rfl hlen hdg kk
theorem gf_X4_X4_told (hF : FX p s m args c cc nL RX4 g) (hP : va_P g.1 vwCl ws H) (q0 : Nat) {a : Nat} {fs : List Value} {v : Value} (he : ws[q0]? = some (a, .inr (4, fs))) (hv : fs[9]? = some v) (hdg : decode cc pc = .ok (.getfield 26, 3)) (kk : W p l e R s m args below meth c H locs cells slots Q (F0 m (pc + 3) ls (v :: rest))) : W p l e R s m args below meth c H locs cells slots Q (F0 m pc ls (.ref a :: rest)) := va_get (C := RX4) (T := TX4) (N := 11) hF.1.1 hF.1.2.1 hF.1.2.2.2.2 inX4 hF.1.2.2.2.1 hF.2.1 hP q0 he rfl 9 (by decide) (hF.1.2.2.2.2 _ q_66) (fun _ h => h) hv hdg kk
theorem pF_X4_X4_told (hF : FX p s m args c cc nL RX4 g) (hin : meth.name = "<init>") (hP : va_P g.1 vwCl ws H) (hD : va_D A ws) (hS : va_S A H0 H locs) (q0 : Nat) {a x : Nat} {fs : List Value} (he : ws[q0]? = some (a, .inr (4, fs))) (hlen : 9 < fs.length) (hdg : decode cc pc = .ok (.putfield 26, 3)) (kk : ∀ (H1 : Heap) (locs1 : List Loc), va_P g.1 vwCl (ws.set q0 (a, .inr (4, fs.set 9 (.ref x)))) H1 → va_D A (ws.set q0 (a, .inr (4, fs.set 9 (.ref x)))) → va_S A H0 H1 locs1 → W p l e R s m args below meth c H1 locs1 cells slots Q (F0 m (pc + 3) ls rest)) : W p l e R s m args below meth c H locs cells slots Q (F0 m pc ls (.ref x :: .ref a :: rest)) := va_putF (C := RX4) (T := TX4) (N := 11) hF.1.1 hF.1.2.1 hF.1.2.2.2.2 inX4 tyX4 tyX4_ok nmX4 hF.1.2.2.2.1 hF.2.1 hP hD hS q0 he rfl 9 (by decide) (hF.1.2.2.2.2 _ q_66) (fun _ h => h) rfl hin rfl (ty := .array .int) rfl rfl rfl hlen hdg kk
theorem gf_X4_X4_states (hF : FX p s m args c cc nL RX4 g) (hP : va_P g.1 vwCl ws H) (q0 : Nat) {a : Nat} {fs : List Value} {v : Value} (he : ws[q0]? = some (a, .inr (4, fs))) (hv : fs[2]? = some v) (hdg : decode cc pc = .ok (.getfield 29, 3)) (kk : W p l e R s m args below meth c H locs cells slots Q (F0 m (pc + 3) ls (v :: rest))) : W p l e R s m args below meth c H locs cells slots Q (F0 m pc ls (.ref a :: rest)) := va_get (C := RX4) (T := TX4) (N := 11) hF.1.1 hF.1.2.1 hF.1.2.2.2.2 inX4 hF.1.2.2.2.1 hF.2.1 hP q0 he rfl 2 (by decide) (hF.1.2.2.2.2 _ q_126) (fun _ h => h) hv hdg kk
theorem pf_X4_X4_states (hF : FX p s m args c cc nL RX4 g) (hP : va_P g.1 vwCl ws H) (hD : va_D A ws) (hS : va_S A H0 H locs) (q0 : Nat) {a : Nat} {fs : List Value} {x : Int32} (he : ws[q0]? = some (a, .inr (4, fs))) (hlen : 2 < fs.length) (hdg : decode cc pc = .ok (.putfield 29, 3)) (kk : ∀ (H1 : Heap) (locs1 : List Loc), va_P g.1 vwCl (ws.set q0 (a, .inr (4, fs.set 2 (.int x)))) H1 → va_S A H0 H1 locs1 → W p l e R s m args below meth c H1 locs1 cells slots Q (F0 m (pc + 3) ls rest)) : W p l e R s m args below meth c H locs cells slots Q (F0 m pc ls (.int x :: .ref a :: rest)) := va_put (C := RX4) (T := TX4) (N := 11) hF.1.1 hF.1.2.1 hF.1.2.2.2.2 inX4 tyX4 tyX4_ok nmX4 hF.1.2.2.2.1 hF.2.1 hP hD hS q0 he rfl 2 (by decide) (hF.1.2.2.2.2 _ q_126) (fun _ h => h) rfl (ty := .int) rfl rfl rfl hlen hdg (fun H1 l1 h1 _ h3 => kk H1 l1 h1 h3)
theorem gf_X4_X4_toldRows (hF : FX p s m args c cc nL RX4 g) (hP : va_P g.1 vwCl ws H) (q0 : Nat) {a : Nat} {fs : List Value} {v : Value} (he : ws[q0]? = some (a, .inr (4, fs))) (hv : fs[10]? = some v) (hdg : decode cc pc = .ok (.getfield 83, 3)) (kk : W p l e R s m args below meth c H locs cells slots Q (F0 m (pc + 3) ls (v :: rest))) : W p l e R s m args below meth c H locs cells slots Q (F0 m pc ls (.ref a :: rest)) := va_get (C := RX4) (T := TX4) (N := 11) hF.1.1 hF.1.2.1 hF.1.2.2.2.2 inX4 hF.1.2.2.2.1 hF.2.1 hP q0 he rfl 10 (by decide) (hF.1.2.2.2.2 _ q_174) (fun _ h => h) hv hdg kk
theorem pf_X4_X4_toldRows (hF : FX p s m args c cc nL RX4 g) (hP : va_P g.1 vwCl ws H) (hD : va_D A ws) (hS : va_S A H0 H locs) (q0 : Nat) {a : Nat} {fs : List Value} {x : Int32} (he : ws[q0]? = some (a, .inr (4, fs))) (hlen : 10 < fs.length) (hdg : decode cc pc = .ok (.putfield 83, 3)) (kk : ∀ (H1 : Heap) (locs1 : List Loc), va_P g.1 vwCl (ws.set q0 (a, .inr (4, fs.set 10 (.int x)))) H1 → va_S A H0 H1 locs1 → W p l e R s m args below meth c H1 locs1 cells slots Q (F0 m (pc + 3) ls rest)) : W p l e R s m args below meth c H locs cells slots Q (F0 m pc ls (.int x :: .ref a :: rest)) := va_put (C := RX4) (T := TX4) (N := 11) hF.1.1 hF.1.2.1 hF.1.2.2.2.2 inX4 tyX4 tyX4_ok nmX4 hF.1.2.2.2.1 hF.2.1 hP hD hS q0 he rfl 10 (by decide) (hF.1.2.2.2.2 _ q_174) (fun _ h => h) rfl (ty := .int) rfl rfl rfl hlen hdg (fun H1 l1 h1 _ h3 => kk H1 l1 h1 h3)
theorem gf_X4_X4_spot (hF : FX p s m args c cc nL RX4 g) (hP : va_P g.1 vwCl ws H) (q0 : Nat) {a : Nat} {fs : List Value} {v : Value} (he : ws[q0]? = some (a, .inr (4, fs))) (hv : fs[8]? = some v) (hdg : decode cc pc = .ok (.getfield 108, 3)) (kk : W p l e R s m args below meth c H locs cells slots Q (F0 m (pc + 3) ls (v :: rest))) : W p l e R s m args below meth c H locs cells slots Q (F0 m pc ls (.ref a :: rest)) := va_get (C := RX4) (T := TX4) (N := 11) hF.1.1 hF.1.2.1 hF.1.2.2.2.2 inX4 hF.1.2.2.2.1 hF.2.1 hP q0 he rfl 8 (by decide) (hF.1.2.2.2.2 _ q_179) (fun _ h => h) hv hdg kk
theorem pf_X4_X4_spot (hF : FX p s m args c cc nL RX4 g) (hP : va_P g.1 vwCl ws H) (hD : va_D A ws) (hS : va_S A H0 H locs) (q0 : Nat) {a : Nat} {fs : List Value} {x : Int32} (he : ws[q0]? = some (a, .inr (4, fs))) (hlen : 8 < fs.length) (hdg : decode cc pc = .ok (.putfield 108, 3)) (kk : ∀ (H1 : Heap) (locs1 : List Loc), va_P g.1 vwCl (ws.set q0 (a, .inr (4, fs.set 8 (.int x)))) H1 → va_S A H0 H1 locs1 → W p l e R s m args below meth c H1 locs1 cells slots Q (F0 m (pc + 3) ls rest)) : W p l e R s m args below meth c H locs cells slots Q (F0 m pc ls (.int x :: .ref a :: rest)) := va_put (C := RX4) (T := TX4) (N := 11) hF.1.1 hF.1.2.1 hF.1.2.2.2.2 inX4 tyX4 tyX4_ok nmX4 hF.1.2.2.2.1 hF.2.1 hP hD hS q0 he rfl 8 (by decide) (hF.1.2.2.2.2 _ q_179) (fun _ h => h) rfl (ty := .int) rfl rfl rfl hlen hdg (fun H1 l1 h1 _ h3 => kk H1 l1 h1 h3)
theorem gf_X4_X4_length (hF : FX p s m args c cc nL RX4 g) (hP : va_P g.1 vwCl ws H) (q0 : Nat) {a : Nat} {fs : List Value} {v : Value} (he : ws[q0]? = some (a, .inr (4, fs))) (hv : fs[6]? = some v) (hdg : decode cc pc = .ok (.getfield 105, 3)) (kk : W p l e R s m args below meth c H locs cells slots Q (F0 m (pc + 3) ls (v :: rest))) : W p l e R s m args below meth c H locs cells slots Q (F0 m pc ls (.ref a :: rest)) := va_get (C := RX4) (T := TX4) (N := 11) hF.1.1 hF.1.2.1 hF.1.2.2.2.2 inX4 hF.1.2.2.2.1 hF.2.1 hP q0 he rfl 6 (by decide) (hF.1.2.2.2.2 _ q_180) (fun _ h => h) hv hdg kk
theorem pf_X4_X4_length (hF : FX p s m args c cc nL RX4 g) (hP : va_P g.1 vwCl ws H) (hD : va_D A ws) (hS : va_S A H0 H locs) (q0 : Nat) {a : Nat} {fs : List Value} {x : Int32} (he : ws[q0]? = some (a, .inr (4, fs))) (hlen : 6 < fs.length) (hdg : decode cc pc = .ok (.putfield 105, 3)) (kk : ∀ (H1 : Heap) (locs1 : List Loc), va_P g.1 vwCl (ws.set q0 (a, .inr (4, fs.set 6 (.int x)))) H1 → va_S A H0 H1 locs1 → W p l e R s m args below meth c H1 locs1 cells slots Q (F0 m (pc + 3) ls rest)) : W p l e R s m args below meth c H locs cells slots Q (F0 m pc ls (.int x :: .ref a :: rest)) := va_put (C := RX4) (T := TX4) (N := 11) hF.1.1 hF.1.2.1 hF.1.2.2.2.2 inX4 tyX4 tyX4_ok nmX4 hF.1.2.2.2.1 hF.2.1 hP hD hS q0 he rfl 6 (by decide) (hF.1.2.2.2.2 _ q_180) (fun _ h => h) rfl (ty := .int) rfl rfl rfl hlen hdg (fun H1 l1 h1 _ h3 => kk H1 l1 h1 h3)
theorem gf_X4_X4_isKept (hF : FX p s m args c cc nL RX4 g) (hP : va_P g.1 vwCl ws H) (q0 : Nat) {a : Nat} {fs : List Value} {v : Value} (he : ws[q0]? = some (a, .inr (4, fs))) (hv : fs[4]? = some v) (hdg : decode cc pc = .ok (.getfield 124, 3)) (kk : W p l e R s m args below meth c H locs cells slots Q (F0 m (pc + 3) ls (v :: rest))) : W p l e R s m args below meth c H locs cells slots Q (F0 m pc ls (.ref a :: rest)) := va_get (C := RX4) (T := TX4) (N := 11) hF.1.1 hF.1.2.1 hF.1.2.2.2.2 inX4 hF.1.2.2.2.1 hF.2.1 hP q0 he rfl 4 (by decide) (hF.1.2.2.2.2 _ q_387) (fun _ h => h) hv hdg kk
theorem pf_X4_X4_isKept (hF : FX p s m args c cc nL RX4 g) (hP : va_P g.1 vwCl ws H) (hD : va_D A ws) (hS : va_S A H0 H locs) (q0 : Nat) {a : Nat} {fs : List Value} {x : Bool} (he : ws[q0]? = some (a, .inr (4, fs))) (hlen : 4 < fs.length) (hdg : decode cc pc = .ok (.putfield 124, 3)) (kk : ∀ (H1 : Heap) (locs1 : List Loc), va_P g.1 vwCl (ws.set q0 (a, .inr (4, fs.set 4 (.int (xz x))))) H1 → va_S A H0 H1 locs1 → W p l e R s m args below meth c H1 locs1 cells slots Q (F0 m (pc + 3) ls rest)) : W p l e R s m args below meth c H locs cells slots Q (F0 m pc ls (.int (xz x) :: .ref a :: rest)) := va_put (C := RX4) (T := TX4) (N := 11) hF.1.1 hF.1.2.1 hF.1.2.2.2.2 inX4 tyX4 tyX4_ok nmX4 hF.1.2.2.2.1 hF.2.1 hP hD hS q0 he rfl 4 (by decide) (hF.1.2.2.2.2 _ q_387) (fun _ h => h) rfl (ty := .boolean) rfl (xz_nar x) (xz_fit x) hlen hdg (fun H1 l1 h1 _ h3 => kk H1 l1 h1 h3)
theorem gf_X3_X1_rows (hF : FX p s m args c cc nL RX3 g) (hP : va_P g.1 vwCl ws H) (q0 : Nat) {a : Nat} {fs : List Value} {v : Value} (he : ws[q0]? = some (a, .inr (1, fs))) (hv : fs[3]? = some v) (hdg : decode cc pc = .ok (.getfield 45, 3)) (kk : W p l e R s m args below meth c H locs cells slots Q (F0 m (pc + 3) ls (v :: rest))) : W p l e R s m args below meth c H locs cells slots Q (F0 m pc ls (.ref a :: rest)) := va_getN (C := RX1) (T := TX1) (N := 7) hF.1.1 hF.1.2.1 hF.1.2.2.2.2 inX1 hF.1.2.2.2.1 hF.2.1 hP q0 he rfl 3 (by decide) (va_Nw.use rfl (hF.2.2 _ n_1)) (fun _ h => h) hv hdg kk
theorem pf_X3_X1_rows (hF : FX p s m args c cc nL RX3 g) (hP : va_P g.1 vwCl ws H) (hD : va_D A ws) (hS : va_S A H0 H locs) (q0 : Nat) {a : Nat} {fs : List Value} {x : Int32} (he : ws[q0]? = some (a, .inr (1, fs))) (hlen : 3 < fs.length) (hdg : decode cc pc = .ok (.putfield 45, 3)) (kk : ∀ (H1 : Heap) (locs1 : List Loc), va_P g.1 vwCl (ws.set q0 (a, .inr (1, fs.set 3 (.int x)))) H1 → va_S A H0 H1 locs1 → W p l e R s m args below meth c H1 locs1 cells slots Q (F0 m (pc + 3) ls rest)) : W p l e R s m args below meth c H locs cells slots Q (F0 m pc ls (.int x :: .ref a :: rest)) := va_putN (C := RX1) (T := TX1) (N := 7) hF.1.1 hF.1.2.1 hF.1.2.2.2.2 inX1 tyX1 tyX1_ok nmX1 hF.1.2.2.2.1 hF.2.1 hP hD hS q0 he rfl 3 (by decide) (va_Nw.use rfl (hF.2.2 _ n_1)) (fun _ h => h) rfl (ty := .int) rfl rfl rfl hlen hdg (fun H1 l1 h1 _ h3 => kk H1 l1 h1 h3)
theorem gf_X3_X0_size (hF : FX p s m args c cc nL RX3 g) (hP : va_P g.1 vwCl ws H) (q0 : Nat) {a : Nat} {fs : List Value} {v : Value} (he : ws[q0]? = some (a, .inr (0, fs))) (hv : fs[2]? = some v) (hdg : decode cc pc = .ok (.getfield 129, 3)) (kk : W p l e R s m args below meth c H locs cells slots Q (F0 m (pc + 3) ls (v :: rest))) : W p l e R s m args below meth c H locs cells slots Q (F0 m pc ls (.ref a :: rest)) := va_getN (C := RX0) (T := TX0) (N := 3) hF.1.1 hF.1.2.1 hF.1.2.2.2.2 inX0 hF.1.2.2.2.1 hF.2.1 hP q0 he rfl 2 (by decide) (va_Nw.use rfl (hF.2.2 _ n_4)) (fun _ h => h) hv hdg kk
theorem pf_X3_X0_size (hF : FX p s m args c cc nL RX3 g) (hP : va_P g.1 vwCl ws H) (hD : va_D A ws) (hS : va_S A H0 H locs) (q0 : Nat) {a : Nat} {fs : List Value} {x : Int32} (he : ws[q0]? = some (a, .inr (0, fs))) (hlen : 2 < fs.length) (hdg : decode cc pc = .ok (.putfield 129, 3)) (kk : ∀ (H1 : Heap) (locs1 : List Loc), va_P g.1 vwCl (ws.set q0 (a, .inr (0, fs.set 2 (.int x)))) H1 → va_S A H0 H1 locs1 → W p l e R s m args below meth c H1 locs1 cells slots Q (F0 m (pc + 3) ls rest)) : W p l e R s m args below meth c H locs cells slots Q (F0 m pc ls (.int x :: .ref a :: rest)) := va_putN (C := RX0) (T := TX0) (N := 3) hF.1.1 hF.1.2.1 hF.1.2.2.2.2 inX0 tyX0 tyX0_ok nmX0 hF.1.2.2.2.1 hF.2.1 hP hD hS q0 he rfl 2 (by decide) (va_Nw.use rfl (hF.2.2 _ n_4)) (fun _ h => h) rfl (ty := .int) rfl rfl rfl hlen hdg (fun H1 l1 h1 _ h3 => kk H1 l1 h1 h3)
theorem gf_X3_X2_length (hF : FX p s m args c cc nL RX3 g) (hP : va_P g.1 vwCl ws H) (q0 : Nat) {a : Nat} {fs : List Value} {v : Value} (he : ws[q0]? = some (a, .inr (2, fs))) (hv : fs[2]? = some v) (hdg : decode cc pc = .ok (.getfield 122, 3)) (kk : W p l e R s m args below meth c H locs cells slots Q (F0 m (pc + 3) ls (v :: rest))) : W p l e R s m args below meth c H locs cells slots Q (F0 m pc ls (.ref a :: rest)) := va_getN (C := RX2) (T := TX2) (N := 4) hF.1.1 hF.1.2.1 hF.1.2.2.2.2 inX2 hF.1.2.2.2.1 hF.2.1 hP q0 he rfl 2 (by decide) (va_Nw.use rfl (hF.2.2 _ n_6)) (fun _ h => h) hv hdg kk
theorem pf_X3_X2_length (hF : FX p s m args c cc nL RX3 g) (hP : va_P g.1 vwCl ws H) (hD : va_D A ws) (hS : va_S A H0 H locs) (q0 : Nat) {a : Nat} {fs : List Value} {x : Int32} (he : ws[q0]? = some (a, .inr (2, fs))) (hlen : 2 < fs.length) (hdg : decode cc pc = .ok (.putfield 122, 3)) (kk : ∀ (H1 : Heap) (locs1 : List Loc), va_P g.1 vwCl (ws.set q0 (a, .inr (2, fs.set 2 (.int x)))) H1 → va_S A H0 H1 locs1 → W p l e R s m args below meth c H1 locs1 cells slots Q (F0 m (pc + 3) ls rest)) : W p l e R s m args below meth c H locs cells slots Q (F0 m pc ls (.int x :: .ref a :: rest)) := va_putN (C := RX2) (T := TX2) (N := 4) hF.1.1 hF.1.2.1 hF.1.2.2.2.2 inX2 tyX2 tyX2_ok nmX2 hF.1.2.2.2.1 hF.2.1 hP hD hS q0 he rfl 2 (by decide) (va_Nw.use rfl (hF.2.2 _ n_6)) (fun _ h => h) rfl (ty := .int) rfl rfl rfl hlen hdg (fun H1 l1 h1 _ h3 => kk H1 l1 h1 h3)
end XF
theorem cal_J7_fill_53178 : CalS RJ7 yJ7_fill_53178 cJ7_fill_53178 4 none 2 := ⟨⟨rfl, by decide, by decide, by decide +kernel⟩, q_39, q_40, q_41⟩
theorem cal_X3_addRow : CalV RX3 yX3_addRow cX3_addRow 5 (some .int) 4 := ⟨⟨rfl, by decide, by decide, by decide +kernel⟩, q_68, q_69, q_2, q_70⟩
theorem cal_X3_isEntry : CalS RX3 yX3_isEntry cX3_isEntry 2 (some .boolean) 2 := ⟨⟨rfl, by decide, by decide, by decide +kernel⟩, q_72, q_2, q_73⟩
theorem cal_X3_at : CalS RX3 yX3_at cX3_at 2 (some .int) 2 := ⟨⟨rfl, by decide, by decide, by decide +kernel⟩, q_76, q_2, q_77⟩
theorem cal_X0_remember : CalV RX0 yX0_remember cX0_remember 3 none 1 := ⟨⟨rfl, by decide, by decide, by decide +kernel⟩, q_78, q_79, q_20, q_80⟩
theorem cal_X0_latest : CalV RX0 yX0_latest cX0_latest 2 (some (.object "DittoLog$Log")) 0 := ⟨⟨rfl, by decide, by decide, by decide +kernel⟩, q_82, q_83, q_20, q_84⟩
theorem cal_X1_copyFrom : CalV RX1 yX1_copyFrom cX1_copyFrom 2 none 1 := ⟨⟨rfl, by decide, by decide, by decide +kernel⟩, q_85, q_86, q_14, q_87⟩
theorem cal_X3_copyInto : CalS RX3 yX3_copyInto cX3_copyInto 2 none 2 := ⟨⟨rfl, by decide, by decide, by decide +kernel⟩, q_88, q_2, q_89⟩
theorem cal_X1_appendRow : CalV RX1 yX1_appendRow cX1_appendRow 6 none 4 := ⟨⟨rfl, by decide, by decide, by decide +kernel⟩, q_98, q_99, q_14, q_100⟩
theorem cal_X1_startCell : CalV RX1 yX1_startCell cX1_startCell 5 none 3 := ⟨⟨rfl, by decide, by decide, by decide +kernel⟩, q_102, q_103, q_14, q_104⟩
theorem cal_X1_pushEntry : CalV RX1 yX1_pushEntry cX1_pushEntry 6 none 3 := ⟨⟨rfl, by decide, by decide, by decide +kernel⟩, q_106, q_107, q_14, q_108⟩
theorem cal_X4_addRow : CalV RX4 yX4_addRow cX4_addRow 6 (some .int) 4 := ⟨⟨rfl, by decide, by decide, by decide +kernel⟩, q_110, q_111, q_5, q_112⟩
theorem cal_X4_isEntry : CalS RX4 yX4_isEntry cX4_isEntry 2 (some .boolean) 2 := ⟨⟨rfl, by decide, by decide, by decide +kernel⟩, q_114, q_5, q_115⟩
theorem cal_X4_most : CalS RX4 yX4_most cX4_most 1 (some .int) 1 := ⟨⟨rfl, by decide, by decide, by decide +kernel⟩, q_117, q_5, q_118⟩
theorem cal_X4_in : CalS RX4 yX4_in cX4_in 3 (some .boolean) 3 := ⟨⟨rfl, by decide, by decide, by decide +kernel⟩, q_120, q_5, q_121⟩
theorem cal_X4_records : CalV RX4 yX4_records cX4_records 2 none 0 := ⟨⟨rfl, by decide, by decide, by decide +kernel⟩, q_123, q_124, q_5, q_125⟩
theorem cal_X4_lays : CalS RX4 yX4_lays cX4_lays 5 none 4 := ⟨⟨rfl, by decide, by decide, by decide +kernel⟩, q_128, q_5, q_129⟩
theorem cal_X4_comes : CalV RX4 yX4_comes cX4_comes 5 none 3 := ⟨⟨rfl, by decide, by decide, by decide +kernel⟩, q_131, q_132, q_5, q_133⟩
theorem cal_X4_cellAt : CalS RX4 yX4_cellAt cX4_cellAt 2 (some .int) 2 := ⟨⟨rfl, by decide, by decide, by decide +kernel⟩, q_135, q_5, q_136⟩
theorem cal_X3_addRows : CalV RX3 yX3_addRows cX3_addRows 4 (some .int) 0 := ⟨⟨rfl, by decide, by decide, by decide +kernel⟩, q_138, q_139, q_2, q_140⟩
theorem cal_X2_readRows : CalV RX2 yX2_readRows cX2_readRows 5 (some .int) 0 := ⟨⟨rfl, by decide, by decide, by decide +kernel⟩, q_141, q_142, q_24, q_143⟩
theorem cal_X2_grownBy : CalV RX2 yX2_grownBy cX2_grownBy 3 (some .int) 2 := ⟨⟨rfl, by decide, by decide, by decide +kernel⟩, q_145, q_146, q_24, q_147⟩
theorem cal_X2_withDigit : CalV RX2 yX2_withDigit cX2_withDigit 4 (some .int) 2 := ⟨⟨rfl, by decide, by decide, by decide +kernel⟩, q_149, q_150, q_24, q_151⟩
theorem cal_X2_columnRead : CalV RX2 yX2_columnRead cX2_columnRead 1 (some .int) 0 := ⟨⟨rfl, by decide, by decide, by decide +kernel⟩, q_153, q_154, q_24, q_155⟩
theorem cal_X2_separator : CalV RX2 yX2_separator cX2_separator 1 (some .char) 0 := ⟨⟨rfl, by decide, by decide, by decide +kernel⟩, q_157, q_158, q_24, q_159⟩
theorem cal_X2_endCell : CalV RX2 yX2_endCell cX2_endCell 2 none 1 := ⟨⟨rfl, by decide, by decide, by decide +kernel⟩, q_161, q_162, q_24, q_163⟩
theorem cal_X2_rowsRead : CalV RX2 yX2_rowsRead cX2_rowsRead 1 (some .int) 0 := ⟨⟨rfl, by decide, by decide, by decide +kernel⟩, q_164, q_165, q_24, q_166⟩
theorem cal_X2_read : CalV RX2 yX2_read cX2_read 3 (some .int) 2 := ⟨⟨rfl, by decide, by decide, by decide +kernel⟩, q_167, q_168, q_24, q_169⟩
theorem cal_X4_addRows : CalV RX4 yX4_addRows cX4_addRows 3 (some .int) 0 := ⟨⟨rfl, by decide, by decide, by decide +kernel⟩, q_171, q_172, q_5, q_173⟩
theorem cal_X4_fault : CalV RX4 yX4_fault cX4_fault 2 (some .int) 0 := ⟨⟨rfl, by decide, by decide, by decide +kernel⟩, q_176, q_177, q_5, q_178⟩
theorem cal_X4_isRowNext : CalV RX4 yX4_isRowNext cX4_isRowNext 2 (some .boolean) 0 := ⟨⟨rfl, by decide, by decide, by decide +kernel⟩, q_182, q_183, q_5, q_184⟩
theorem cal_X4_isCellNext : CalV RX4 yX4_isCellNext cX4_isCellNext 4 (some .boolean) 1 := ⟨⟨rfl, by decide, by decide, by decide +kernel⟩, q_186, q_187, q_5, q_188⟩
theorem cal_X4_takes : CalV RX4 yX4_takes cX4_takes 3 (some .boolean) 1 := ⟨⟨rfl, by decide, by decide, by decide +kernel⟩, q_190, q_191, q_5, q_192⟩
theorem cal_X4_sees : CalV RX4 yX4_sees cX4_sees 3 (some .boolean) 2 := ⟨⟨rfl, by decide, by decide, by decide +kernel⟩, q_194, q_195, q_5, q_196⟩
theorem cal_X3_removeRow : CalV RX3 yX3_removeRow cX3_removeRow 1 (some .int) 0 := ⟨⟨rfl, by decide, by decide, by decide +kernel⟩, q_198, q_199, q_2, q_200⟩
theorem cal_X1_dropRow : CalV RX1 yX1_dropRow cX1_dropRow 1 none 0 := ⟨⟨rfl, by decide, by decide, by decide +kernel⟩, q_201, q_202, q_14, q_203⟩
theorem cal_X4_removeRow : CalV RX4 yX4_removeRow cX4_removeRow 1 (some .int) 0 := ⟨⟨rfl, by decide, by decide, by decide +kernel⟩, q_205, q_206, q_5, q_207⟩
theorem cal_X4_leaves : CalV RX4 yX4_leaves cX4_leaves 3 none 1 := ⟨⟨rfl, by decide, by decide, by decide +kernel⟩, q_209, q_210, q_5, q_211⟩
theorem cal_X3_correct : CalV RX3 yX3_correct cX3_correct 5 (some .int) 3 := ⟨⟨rfl, by decide, by decide, by decide +kernel⟩, q_213, q_214, q_2, q_215⟩
theorem cal_X1_isCell : CalV RX1 yX1_isCell cX1_isCell 3 (some .boolean) 2 := ⟨⟨rfl, by decide, by decide, by decide +kernel⟩, q_216, q_217, q_14, q_218⟩
theorem cal_X1_isRow : CalV RX1 yX1_isRow cX1_isRow 2 (some .boolean) 1 := ⟨⟨rfl, by decide, by decide, by decide +kernel⟩, q_220, q_221, q_14, q_222⟩
theorem cal_X3_isColumn : CalS RX3 yX3_isColumn cX3_isColumn 1 (some .boolean) 1 := ⟨⟨rfl, by decide, by decide, by decide +kernel⟩, q_223, q_2, q_224⟩
theorem cal_X1_entriesOf : CalV RX1 yX1_entriesOf cX1_entriesOf 3 (some .int) 2 := ⟨⟨rfl, by decide, by decide, by decide +kernel⟩, q_225, q_226, q_14, q_227⟩
theorem cal_X1_latestOf : CalV RX1 yX1_latestOf cX1_latestOf 5 (some .int) 2 := ⟨⟨rfl, by decide, by decide, by decide +kernel⟩, q_228, q_229, q_14, q_230⟩
theorem cal_X1_changedBy : CalV RX1 yX1_changedBy cX1_changedBy 4 (some .int) 3 := ⟨⟨rfl, by decide, by decide, by decide +kernel⟩, q_231, q_232, q_14, q_233⟩
theorem cal_X1_meaningWith : CalV RX1 yX1_meaningWith cX1_meaningWith 4 (some .int) 3 := ⟨⟨rfl, by decide, by decide, by decide +kernel⟩, q_235, q_236, q_14, q_237⟩
theorem cal_X1_hasAbove : CalV RX1 yX1_hasAbove cX1_hasAbove 2 (some .boolean) 1 := ⟨⟨rfl, by decide, by decide, by decide +kernel⟩, q_239, q_240, q_14, q_241⟩
theorem cal_X1_meaningOf : CalV RX1 yX1_meaningOf cX1_meaningOf 4 (some .int) 2 := ⟨⟨rfl, by decide, by decide, by decide +kernel⟩, q_243, q_244, q_14, q_245⟩
theorem cal_X1_topOfChain : CalV RX1 yX1_topOfChain cX1_topOfChain 4 (some .int) 2 := ⟨⟨rfl, by decide, by decide, by decide +kernel⟩, q_247, q_248, q_14, q_249⟩
theorem cal_X1_leansUp : CalV RX1 yX1_leansUp cX1_leansUp 3 (some .boolean) 2 := ⟨⟨rfl, by decide, by decide, by decide +kernel⟩, q_251, q_252, q_14, q_253⟩
theorem cal_X1_followersOf : CalV RX1 yX1_followersOf cX1_followersOf 4 (some .int) 2 := ⟨⟨rfl, by decide, by decide, by decide +kernel⟩, q_256, q_257, q_14, q_258⟩
theorem cal_X4_correct : CalV RX4 yX4_correct cX4_correct 5 (some .int) 3 := ⟨⟨rfl, by decide, by decide, by decide +kernel⟩, q_260, q_261, q_5, q_262⟩
theorem cal_X4_isCell : CalV RX4 yX4_isCell cX4_isCell 3 (some .boolean) 2 := ⟨⟨rfl, by decide, by decide, by decide +kernel⟩, q_264, q_265, q_5, q_266⟩
theorem cal_X4_isRow : CalV RX4 yX4_isRow cX4_isRow 2 (some .boolean) 1 := ⟨⟨rfl, by decide, by decide, by decide +kernel⟩, q_268, q_269, q_5, q_270⟩
theorem cal_X4_isColumn : CalS RX4 yX4_isColumn cX4_isColumn 1 (some .boolean) 1 := ⟨⟨rfl, by decide, by decide, by decide +kernel⟩, q_272, q_5, q_273⟩
theorem cal_X4_entries : CalV RX4 yX4_entries cX4_entries 3 (some .int) 2 := ⟨⟨rfl, by decide, by decide, by decide +kernel⟩, q_275, q_276, q_5, q_277⟩
theorem cal_X4_latest : CalV RX4 yX4_latest cX4_latest 3 (some .int) 2 := ⟨⟨rfl, by decide, by decide, by decide +kernel⟩, q_279, q_280, q_5, q_281⟩
theorem cal_X4_laysMeant : CalV RX4 yX4_laysMeant cX4_laysMeant 3 none 1 := ⟨⟨rfl, by decide, by decide, by decide +kernel⟩, q_283, q_284, q_5, q_285⟩
theorem cal_X4_means : CalV RX4 yX4_means cX4_means 4 (some .int) 2 := ⟨⟨rfl, by decide, by decide, by decide +kernel⟩, q_287, q_288, q_5, q_289⟩
theorem cal_X4_end : CalV RX4 yX4_end cX4_end 4 (some .int) 2 := ⟨⟨rfl, by decide, by decide, by decide +kernel⟩, q_291, q_292, q_5, q_293⟩
theorem cal_X4_goesUp : CalV RX4 yX4_goesUp cX4_goesUp 4 (some .boolean) 2 := ⟨⟨rfl, by decide, by decide, by decide +kernel⟩, q_295, q_296, q_5, q_297⟩
theorem cal_X4_others : CalV RX4 yX4_others cX4_others 4 (some .int) 1 := ⟨⟨rfl, by decide, by decide, by decide +kernel⟩, q_299, q_300, q_5, q_301⟩
theorem cal_X3_takeBack : CalV RX3 yX3_takeBack cX3_takeBack 5 (some .int) 2 := ⟨⟨rfl, by decide, by decide, by decide +kernel⟩, q_303, q_304, q_2, q_305⟩
theorem cal_X1_entryOf : CalV RX1 yX1_entryOf cX1_entryOf 4 (some .int) 3 := ⟨⟨rfl, by decide, by decide, by decide +kernel⟩, q_306, q_307, q_14, q_308⟩
theorem cal_X1_popEntry : CalV RX1 yX1_popEntry cX1_popEntry 4 none 2 := ⟨⟨rfl, by decide, by decide, by decide +kernel⟩, q_309, q_310, q_14, q_311⟩
theorem cal_X4_takeBack : CalV RX4 yX4_takeBack cX4_takeBack 4 (some .int) 2 := ⟨⟨rfl, by decide, by decide, by decide +kernel⟩, q_313, q_314, q_5, q_315⟩
theorem cal_X3_claim : CalV RX3 yX3_claim cX3_claim 4 (some .int) 2 := ⟨⟨rfl, by decide, by decide, by decide +kernel⟩, q_317, q_318, q_2, q_319⟩
theorem cal_X1_sumOf : CalV RX1 yX1_sumOf cX1_sumOf 2 (some .int) 1 := ⟨⟨rfl, by decide, by decide, by decide +kernel⟩, q_320, q_321, q_14, q_322⟩
theorem cal_X1_writeSum : CalV RX1 yX1_writeSum cX1_writeSum 3 none 2 := ⟨⟨rfl, by decide, by decide, by decide +kernel⟩, q_323, q_324, q_14, q_325⟩
theorem cal_X4_claim : CalV RX4 yX4_claim cX4_claim 4 (some .int) 2 := ⟨⟨rfl, by decide, by decide, by decide +kernel⟩, q_327, q_328, q_5, q_329⟩
theorem cal_X3_set : CalV RX3 yX3_set cX3_set 4 (some .int) 2 := ⟨⟨rfl, by decide, by decide, by decide +kernel⟩, q_331, q_332, q_2, q_333⟩
theorem cal_X1_settingOf : CalV RX1 yX1_settingOf cX1_settingOf 2 (some .int) 1 := ⟨⟨rfl, by decide, by decide, by decide +kernel⟩, q_336, q_337, q_14, q_338⟩
theorem cal_X1_changeSetting : CalV RX1 yX1_changeSetting cX1_changeSetting 3 none 2 := ⟨⟨rfl, by decide, by decide, by decide +kernel⟩, q_339, q_340, q_14, q_341⟩
theorem cal_X4_set : CalV RX4 yX4_set cX4_set 4 (some .int) 2 := ⟨⟨rfl, by decide, by decide, by decide +kernel⟩, q_343, q_344, q_5, q_345⟩
theorem cal_X4_isSetting : CalS RX4 yX4_isSetting cX4_isSetting 2 (some .boolean) 2 := ⟨⟨rfl, by decide, by decide, by decide +kernel⟩, q_347, q_5, q_348⟩
theorem cal_X3_type : CalV RX3 yX3_type cX3_type 2 (some .int) 1 := ⟨⟨rfl, by decide, by decide, by decide +kernel⟩, q_350, q_351, q_2, q_352⟩
theorem cal_X2_append : CalV RX2 yX2_append cX2_append 2 (some .boolean) 1 := ⟨⟨rfl, by decide, by decide, by decide +kernel⟩, q_353, q_354, q_24, q_355⟩
theorem cal_X4_type : CalV RX4 yX4_type cX4_type 2 (some .int) 1 := ⟨⟨rfl, by decide, by decide, by decide +kernel⟩, q_357, q_358, q_5, q_359⟩
theorem cal_X3_clearText : CalV RX3 yX3_clearText cX3_clearText 2 (some .int) 0 := ⟨⟨rfl, by decide, by decide, by decide +kernel⟩, q_361, q_362, q_2, q_363⟩
theorem cal_X4_clearText : CalV RX4 yX4_clearText cX4_clearText 2 (some .int) 0 := ⟨⟨rfl, by decide, by decide, by decide +kernel⟩, q_365, q_366, q_5, q_367⟩
theorem cal_X3_undo : CalV RX3 yX3_undo cX3_undo 1 (some .int) 0 := ⟨⟨rfl, by decide, by decide, by decide +kernel⟩, q_369, q_370, q_2, q_371⟩
theorem cal_X0_takeInto : CalV RX0 yX0_takeInto cX0_takeInto 3 (some .boolean) 1 := ⟨⟨rfl, by decide, by decide, by decide +kernel⟩, q_372, q_373, q_20, q_374⟩
theorem cal_X4_undo : CalV RX4 yX4_undo cX4_undo 1 (some .int) 0 := ⟨⟨rfl, by decide, by decide, by decide +kernel⟩, q_376, q_377, q_5, q_378⟩
theorem cal_X3_keep : CalV RX3 yX3_keep cX3_keep 1 (some .int) 0 := ⟨⟨rfl, by decide, by decide, by decide +kernel⟩, q_380, q_381, q_2, q_382⟩
theorem cal_X4_keep : CalV RX4 yX4_keep cX4_keep 1 (some .int) 0 := ⟨⟨rfl, by decide, by decide, by decide +kernel⟩, q_384, q_385, q_5, q_386⟩
theorem cal_X3_restore : CalV RX3 yX3_restore cX3_restore 1 (some .int) 0 := ⟨⟨rfl, by decide, by decide, by decide +kernel⟩, q_389, q_390, q_2, q_391⟩
theorem cal_X4_restore : CalV RX4 yX4_restore cX4_restore 1 (some .int) 0 := ⟨⟨rfl, by decide, by decide, by decide +kernel⟩, q_393, q_394, q_5, q_395⟩
theorem cal_X3_cell : CalV RX3 yX3_cell cX3_cell 4 (some .int) 3 := ⟨⟨rfl, by decide, by decide, by decide +kernel⟩, q_397, q_398, q_2, q_399⟩
theorem cal_X1_sourceOf : CalV RX1 yX1_sourceOf cX1_sourceOf 4 (some .int) 2 := ⟨⟨rfl, by decide, by decide, by decide +kernel⟩, q_400, q_401, q_14, q_402⟩
theorem cal_X1_chainOf : CalV RX1 yX1_chainOf cX1_chainOf 3 (some .int) 2 := ⟨⟨rfl, by decide, by decide, by decide +kernel⟩, q_403, q_404, q_14, q_405⟩
theorem cal_X1_isDoubtful : CalV RX1 yX1_isDoubtful cX1_isDoubtful 5 (some .boolean) 2 := ⟨⟨rfl, by decide, by decide, by decide +kernel⟩, q_406, q_407, q_14, q_408⟩
theorem cal_X4_cell : CalV RX4 yX4_cell cX4_cell 4 (some .int) 3 := ⟨⟨rfl, by decide, by decide, by decide +kernel⟩, q_411, q_412, q_5, q_413⟩
theorem cal_X4_source : CalV RX4 yX4_source cX4_source 4 (some .int) 2 := ⟨⟨rfl, by decide, by decide, by decide +kernel⟩, q_415, q_416, q_5, q_417⟩
theorem cal_X4_chain : CalV RX4 yX4_chain cX4_chain 3 (some .int) 2 := ⟨⟨rfl, by decide, by decide, by decide +kernel⟩, q_419, q_420, q_5, q_421⟩
theorem cal_X4_isDoubtful : CalV RX4 yX4_isDoubtful cX4_isDoubtful 5 (some .boolean) 2 := ⟨⟨rfl, by decide, by decide, by decide +kernel⟩, q_423, q_424, q_5, q_425⟩
theorem cal_X4_below : CalV RX4 yX4_below cX4_below 4 (some .int) 2 := ⟨⟨rfl, by decide, by decide, by decide +kernel⟩, q_427, q_428, q_5, q_429⟩
theorem cal_X3_entry : CalV RX3 yX3_entry cX3_entry 4 (some .int) 3 := ⟨⟨rfl, by decide, by decide, by decide +kernel⟩, q_431, q_432, q_2, q_433⟩
theorem cal_X4_entry : CalV RX4 yX4_entry cX4_entry 4 (some .int) 3 := ⟨⟨rfl, by decide, by decide, by decide +kernel⟩, q_435, q_436, q_5, q_437⟩
theorem cal_X3_isWritten : CalV RX3 yX3_isWritten cX3_isWritten 2 (some .int) 1 := ⟨⟨rfl, by decide, by decide, by decide +kernel⟩, q_439, q_440, q_2, q_441⟩
theorem cal_X1_isWrittenOut : CalV RX1 yX1_isWrittenOut cX1_isWrittenOut 3 (some .boolean) 1 := ⟨⟨rfl, by decide, by decide, by decide +kernel⟩, q_442, q_443, q_14, q_444⟩
theorem cal_X4_isWritten : CalV RX4 yX4_isWritten cX4_isWritten 2 (some .int) 1 := ⟨⟨rfl, by decide, by decide, by decide +kernel⟩, q_446, q_447, q_5, q_448⟩
theorem cal_X4_written : CalV RX4 yX4_written cX4_written 4 (some .int) 1 := ⟨⟨rfl, by decide, by decide, by decide +kernel⟩, q_450, q_451, q_5, q_452⟩
theorem cal_X3_column : CalV RX3 yX3_column cX3_column 4 (some .int) 2 := ⟨⟨rfl, by decide, by decide, by decide +kernel⟩, q_454, q_455, q_2, q_456⟩
theorem cal_X1_countLatest : CalV RX1 yX1_countLatest cX1_countLatest 5 (some .int) 2 := ⟨⟨rfl, by decide, by decide, by decide +kernel⟩, q_458, q_459, q_14, q_460⟩
theorem cal_X1_countCorrections : CalV RX1 yX1_countCorrections cX1_countCorrections 4 (some .int) 1 := ⟨⟨rfl, by decide, by decide, by decide +kernel⟩, q_461, q_462, q_14, q_463⟩
theorem cal_X1_countMeaningless : CalV RX1 yX1_countMeaningless cX1_countMeaningless 6 (some .int) 3 := ⟨⟨rfl, by decide, by decide, by decide +kernel⟩, q_464, q_465, q_14, q_466⟩
theorem cal_X1_longestChain : CalV RX1 yX1_longestChain cX1_longestChain 4 (some .int) 1 := ⟨⟨rfl, by decide, by decide, by decide +kernel⟩, q_467, q_468, q_14, q_469⟩
theorem cal_X3_mostMeant : CalV RX3 yX3_mostMeant cX3_mostMeant 7 (some .int) 3 := ⟨⟨rfl, by decide, by decide, by decide +kernel⟩, q_475, q_476, q_2, q_477⟩
theorem cal_X1_countDoubtful : CalV RX1 yX1_countDoubtful cX1_countDoubtful 6 (some .int) 3 := ⟨⟨rfl, by decide, by decide, by decide +kernel⟩, q_479, q_480, q_14, q_481⟩
theorem cal_X4_column : CalV RX4 yX4_column cX4_column 4 (some .int) 2 := ⟨⟨rfl, by decide, by decide, by decide +kernel⟩, q_484, q_485, q_5, q_486⟩
theorem cal_X4_withLatest : CalV RX4 yX4_withLatest cX4_withLatest 5 (some .int) 2 := ⟨⟨rfl, by decide, by decide, by decide +kernel⟩, q_488, q_489, q_5, q_490⟩
theorem cal_X4_corrections : CalV RX4 yX4_corrections cX4_corrections 4 (some .int) 1 := ⟨⟨rfl, by decide, by decide, by decide +kernel⟩, q_492, q_493, q_5, q_494⟩
theorem cal_X4_meaning : CalV RX4 yX4_meaning cX4_meaning 7 (some .int) 4 := ⟨⟨rfl, by decide, by decide, by decide +kernel⟩, q_496, q_497, q_5, q_498⟩
theorem cal_X4_longest : CalV RX4 yX4_longest cX4_longest 4 (some .int) 1 := ⟨⟨rfl, by decide, by decide, by decide +kernel⟩, q_500, q_501, q_5, q_502⟩
theorem cal_X4_commonest : CalV RX4 yX4_commonest cX4_commonest 8 (some .int) 3 := ⟨⟨rfl, by decide, by decide, by decide +kernel⟩, q_504, q_505, q_5, q_506⟩
theorem cal_X4_doubtful : CalV RX4 yX4_doubtful cX4_doubtful 6 (some .int) 3 := ⟨⟨rfl, by decide, by decide, by decide +kernel⟩, q_508, q_509, q_5, q_510⟩
theorem cal_X3_watch : CalV RX3 yX3_watch cX3_watch 5 (some .int) 2 := ⟨⟨rfl, by decide, by decide, by decide +kernel⟩, q_512, q_513, q_2, q_514⟩
theorem cal_X1_watches : CalV RX1 yX1_watches cX1_watches 1 (some .int) 0 := ⟨⟨rfl, by decide, by decide, by decide +kernel⟩, q_515, q_516, q_14, q_517⟩
theorem cal_X1_firstRowOf : CalV RX1 yX1_firstRowOf cX1_firstRowOf 2 (some .int) 1 := ⟨⟨rfl, by decide, by decide, by decide +kernel⟩, q_518, q_519, q_14, q_520⟩
theorem cal_X1_lastRowOf : CalV RX1 yX1_lastRowOf cX1_lastRowOf 2 (some .int) 1 := ⟨⟨rfl, by decide, by decide, by decide +kernel⟩, q_521, q_522, q_14, q_523⟩
theorem cal_X1_runOf : CalV RX1 yX1_runOf cX1_runOf 5 (some .int) 2 := ⟨⟨rfl, by decide, by decide, by decide +kernel⟩, q_525, q_526, q_14, q_527⟩
theorem cal_X3_doubtfulCells : CalV RX3 yX3_doubtfulCells cX3_doubtfulCells 5 (some .int) 2 := ⟨⟨rfl, by decide, by decide, by decide +kernel⟩, q_529, q_530, q_2, q_531⟩
theorem cal_X4_watch : CalV RX4 yX4_watch cX4_watch 6 (some .int) 2 := ⟨⟨rfl, by decide, by decide, by decide +kernel⟩, q_533, q_534, q_5, q_535⟩
theorem cal_X4_watches : CalV RX4 yX4_watches cX4_watches 1 (some .int) 0 := ⟨⟨rfl, by decide, by decide, by decide +kernel⟩, q_537, q_538, q_5, q_539⟩
theorem cal_X4_lastOf : CalV RX4 yX4_lastOf cX4_lastOf 3 (some .int) 1 := ⟨⟨rfl, by decide, by decide, by decide +kernel⟩, q_541, q_542, q_5, q_543⟩
theorem cal_X4_runOf : CalV RX4 yX4_runOf cX4_runOf 5 (some .int) 2 := ⟨⟨rfl, by decide, by decide, by decide +kernel⟩, q_545, q_546, q_5, q_547⟩
theorem cal_X4_inDoubt : CalV RX4 yX4_inDoubt cX4_inDoubt 5 (some .int) 2 := ⟨⟨rfl, by decide, by decide, by decide +kernel⟩, q_549, q_550, q_5, q_551⟩
theorem cal_X3_run : CalV RX3 yX3_run cX3_run 3 (some .int) 2 := ⟨⟨rfl, by decide, by decide, by decide +kernel⟩, q_553, q_554, q_2, q_555⟩
theorem cal_X4_run : CalV RX4 yX4_run cX4_run 4 (some .int) 2 := ⟨⟨rfl, by decide, by decide, by decide +kernel⟩, q_557, q_558, q_5, q_559⟩
theorem cal_X4_mayGo : CalV RX4 yX4_mayGo cX4_mayGo 3 (some .int) 2 := ⟨⟨rfl, by decide, by decide, by decide +kernel⟩, q_561, q_562, q_5, q_563⟩
theorem cal_X3_north : CalV RX3 yX3_north cX3_north 3 (some .double) 2 := ⟨⟨rfl, by decide, by decide, by decide +kernel⟩, q_565, q_566, q_2, q_567⟩
theorem cal_X1_areRows : CalV RX1 yX1_areRows cX1_areRows 3 (some .boolean) 2 := ⟨⟨rfl, by decide, by decide, by decide +kernel⟩, q_569, q_570, q_14, q_571⟩
theorem cal_X1_wayOf : CalV RX1 yX1_wayOf cX1_wayOf 9 (some .double) 3 := ⟨⟨rfl, by decide, by decide, by decide +kernel⟩, q_572, q_573, q_14, q_574⟩
theorem cal_X3_wayNorth : CalS RX3 yX3_wayNorth cX3_wayNorth 1 (some .double) 1 := ⟨⟨rfl, by decide, by decide, by decide +kernel⟩, q_576, q_2, q_577⟩
theorem cal_X4_north : CalV RX4 yX4_north cX4_north 3 (some .double) 2 := ⟨⟨rfl, by decide, by decide, by decide +kernel⟩, q_582, q_583, q_5, q_584⟩
theorem cal_X4_brings : CalV RX4 yX4_brings cX4_brings 9 (some .double) 3 := ⟨⟨rfl, by decide, by decide, by decide +kernel⟩, q_587, q_588, q_5, q_589⟩
theorem cal_X4_northBy : CalS RX4 yX4_northBy cX4_northBy 1 (some .double) 1 := ⟨⟨rfl, by decide, by decide, by decide +kernel⟩, q_592, q_5, q_593⟩
theorem cal_X3_east : CalV RX3 yX3_east cX3_east 3 (some .double) 2 := ⟨⟨rfl, by decide, by decide, by decide +kernel⟩, q_598, q_599, q_2, q_600⟩
theorem cal_X4_east : CalV RX4 yX4_east cX4_east 3 (some .double) 2 := ⟨⟨rfl, by decide, by decide, by decide +kernel⟩, q_602, q_603, q_5, q_604⟩
theorem cal_X3_squareBits : CalV RX3 yX3_squareBits cX3_squareBits 7 (some .int) 2 := ⟨⟨rfl, by decide, by decide, by decide +kernel⟩, q_606, q_607, q_2, q_608⟩
theorem cal_X3_bitsOf : CalS RX3 yX3_bitsOf cX3_bitsOf 5 (some .int) 1 := ⟨⟨rfl, by decide, by decide, by decide +kernel⟩, q_610, q_2, q_611⟩
theorem cal_X4_squareBits : CalV RX4 yX4_squareBits cX4_squareBits 4 (some .int) 2 := ⟨⟨rfl, by decide, by decide, by decide +kernel⟩, q_615, q_616, q_5, q_617⟩
theorem cal_X4_square : CalV RX4 yX4_square cX4_square 7 (some .int) 2 := ⟨⟨rfl, by decide, by decide, by decide +kernel⟩, q_619, q_620, q_5, q_621⟩
theorem cal_Jxf58ca_floatToIntBits_5c35a : CalS RJxf58ca yJxf58ca_floatToIntBits_5c35a cJxf58ca_floatToIntBits_5c35a 1 (some .int) 1 := ⟨⟨rfl, by decide, by decide, by decide +kernel⟩, q_623, q_629, q_625⟩
theorem cal_Jxf58ca_isNaN_12338 : CalS RJxf58ca yJxf58ca_isNaN_12338 cJxf58ca_isNaN_12338 1 (some .boolean) 1 := ⟨⟨rfl, by decide, by decide, by decide +kernel⟩, q_632, q_629, q_633⟩
theorem cal_X3_wouldChange : CalV RX3 yX3_wouldChange cX3_wouldChange 4 (some .int) 3 := ⟨⟨rfl, by decide, by decide, by decide +kernel⟩, q_635, q_636, q_2, q_637⟩
theorem cal_X4_wouldChange : CalV RX4 yX4_wouldChange cX4_wouldChange 7 (some .int) 3 := ⟨⟨rfl, by decide, by decide, by decide +kernel⟩, q_639, q_640, q_5, q_641⟩
theorem cal_X3_count : CalV RX3 yX3_count cX3_count 2 (some .int) 1 := ⟨⟨rfl, by decide, by decide, by decide +kernel⟩, q_643, q_644, q_2, q_645⟩
theorem cal_X3_dittos : CalV RX3 yX3_dittos cX3_dittos 3 (some .int) 0 := ⟨⟨rfl, by decide, by decide, by decide +kernel⟩, q_647, q_648, q_2, q_649⟩
theorem cal_X3_corrections : CalV RX3 yX3_corrections cX3_corrections 3 (some .int) 0 := ⟨⟨rfl, by decide, by decide, by decide +kernel⟩, q_651, q_652, q_2, q_653⟩
theorem cal_X1_countWrittenOut : CalV RX1 yX1_countWrittenOut cX1_countWrittenOut 3 (some .int) 0 := ⟨⟨rfl, by decide, by decide, by decide +kernel⟩, q_654, q_655, q_14, q_656⟩
theorem cal_X1_countWrongSums : CalV RX1 yX1_countWrongSums cX1_countWrongSums 5 (some .int) 0 := ⟨⟨rfl, by decide, by decide, by decide +kernel⟩, q_658, q_659, q_14, q_660⟩
theorem cal_X4_count : CalV RX4 yX4_count cX4_count 2 (some .int) 1 := ⟨⟨rfl, by decide, by decide, by decide +kernel⟩, q_667, q_668, q_5, q_669⟩
theorem cal_X4_overColumns : CalV RX4 yX4_overColumns cX4_overColumns 4 (some .int) 1 := ⟨⟨rfl, by decide, by decide, by decide +kernel⟩, q_671, q_672, q_5, q_673⟩
theorem cal_X4_allWritten : CalV RX4 yX4_allWritten cX4_allWritten 3 (some .int) 0 := ⟨⟨rfl, by decide, by decide, by decide +kernel⟩, q_676, q_677, q_5, q_678⟩
theorem cal_X4_unlike : CalV RX4 yX4_unlike cX4_unlike 4 (some .int) 0 := ⟨⟨rfl, by decide, by decide, by decide +kernel⟩, q_680, q_681, q_5, q_682⟩
end
section
/-! the logbook as one row of numbers: its shape, and what is read off it -/
def nr (w : Nat → Int32) : Nat := (w 0).toNatClampNeg
def pgN (w : Nat → Int32) : Nat := (w 1).toNatClampNeg
def stN (w : Nat → Int32) : Nat := (w 2).toNatClampNeg
def wrN (w : Nat → Int32) : Nat := (w 3).toNatClampNeg
def cnt (w : Nat → Int32) (i : Nat) : Nat := (w (28 + 5 * i)).toNatClampNeg
def cmN (k : Nat) : Nat := match k with
  | 0 => 7
  | 1 => 199
  | 2 => 12
  | _ => 9
theorem cmax_N : ∀ k : Nat, cmax k = nI (cmN k)
  | 0 => rfl
  | 1 => rfl
  | 2 => rfl
  | _ + 3 => rfl
theorem cmN_le (k : Nat) : cmN k ≤ 199 := by unfold cmN; split <;> decide
def EntOk (k : Nat) (x : Int32) : Prop := x = -5 ∨ x = -6 ∨ ∃ v : Nat, v ≤ cmN k ∧ x = nI v
def SumOk (x : Int32) : Prop := x = -5 ∨ ∃ v : Nat, v ≤ 9999 ∧ x = nI v
def WF (w : Nat → Int32) : Prop := (w 0 = nI (nr w) ∧ nr w ≤ 48) ∧ (w 1 = nI (pgN w) ∧ 4 ≤ pgN w ∧ pgN w ≤ 12) ∧ (w 2 = nI (stN w) ∧ stN w ≤ 1) ∧ (w 3 = nI (wrN w) ∧ 2 ≤ wrN w ∧ wrN w ≤ 6) ∧ (∀ k, k < 24 → SumOk (w (4 + k))) ∧ ∀ i, i < 4 * nr w → (w (28 + 5 * i) = nI (cnt w i) ∧ 1 ≤ cnt w i ∧ cnt w i ≤ 4) ∧ ∀ j, j < cnt w i → EntOk (i % 4) (w (29 + 5 * i + j))
/-- the class's arrays hold the row of numbers w -/
def LR (fe fc fs w : Nat → Int32) : Prop := (∀ k, k < 24 → fs k = w (4 + k)) ∧ ∀ i, i < 4 * nr w → fc i = w (28 + 5 * i) ∧ ∀ j, j < cnt w i → fe (4 * i + j) = w (29 + 5 * i + j)
def lat (w : Nat → Int32) (r c : Nat) : Int32 := w (28 + 5 * (4 * r + c) + cnt w (4 * r + c))
def abvB (w : Nat → Int32) (r : Nat) : Bool := !(r == 0 || (stN w == 1 && r % pgN w == 0))
def upB (w : Nat → Int32) (r c : Nat) : Bool := (lat w r c == -6) && abvB w r
def top (w : Nat → Int32) (c : Nat) : Nat → Nat
  | 0 => 0
  | r + 1 => if upB w (r + 1) c then top w c r else r + 1
def mean (w : Nat → Int32) (r c : Nat) : Int32 := if lat w (top w c r) c < 0 then -5 else lat w (top w c r) c
def srcI (w : Nat → Int32) (r c : Nat) : Int32 := if lat w (top w c r) c < 0 then -5 else nI (top w c r)
def dB (w : Nat → Int32) (c a : Nat) : Nat → Bool
  | 0 => false
  | n + 1 => dB w c a n || decide (1 < cnt w (4 * (a + n) + c))
def dbt (w : Nat → Int32) (r c : Nat) : Bool := dB w c (top w c r) (r - top w c r + 1)
def stopF (w : Nat → Int32) (c : Nat) : Nat → Nat → Nat
  | 0, a => a
  | n + 1, a => if upB w a c then stopF w c n (a + 1) else a
def stop (w : Nat → Int32) (c a : Nat) : Nat := stopF w c (nr w - a) a
def ctR (p : Nat → Bool) (a : Nat) : Nat → Nat
  | 0 => 0
  | n + 1 => ctR p a n + (if p (a + n) then 1 else 0)
def smR (f : Nat → Nat) (a : Nat) : Nat → Nat
  | 0 => 0
  | n + 1 => smR f a n + f (a + n)
def mxR (f : Nat → Nat) : Nat → Nat
  | 0 => 0
  | n + 1 => if mxR f n < f n then f n else mxR f n
def wr4 (w : Nat → Int32) (r : Nat) : Nat → Bool
  | 0 => true
  | n + 1 => wr4 w r n && decide (0 ≤ lat w r n)
def spd (w : Nat → Int32) (r : Nat) : Nat := (mean w r 1).toNatClampNeg
theorem WF.r0 {w : Nat → Int32} (h : WF w) : w 0 = nI (nr w) := h.1.1
theorem WF.n48 {w : Nat → Int32} (h : WF w) : nr w ≤ 48 := h.1.2
theorem WF.r1 {w : Nat → Int32} (h : WF w) : w 1 = nI (pgN w) := h.2.1.1
theorem WF.pg4 {w : Nat → Int32} (h : WF w) : 4 ≤ pgN w := h.2.1.2.1
theorem WF.pg12 {w : Nat → Int32} (h : WF w) : pgN w ≤ 12 := h.2.1.2.2
theorem WF.r2 {w : Nat → Int32} (h : WF w) : w 2 = nI (stN w) := h.2.2.1.1
theorem WF.st1 {w : Nat → Int32} (h : WF w) : stN w ≤ 1 := h.2.2.1.2
theorem WF.r3 {w : Nat → Int32} (h : WF w) : w 3 = nI (wrN w) := h.2.2.2.1.1
theorem WF.wr2 {w : Nat → Int32} (h : WF w) : 2 ≤ wrN w := h.2.2.2.1.2.1
theorem WF.wr6 {w : Nat → Int32} (h : WF w) : wrN w ≤ 6 := h.2.2.2.1.2.2
theorem WF.sum {w : Nat → Int32} (h : WF w) {k : Nat} (hk : k < 24) : SumOk (w (4 + k)) := h.2.2.2.2.1 k hk
theorem WF.c {w : Nat → Int32} (h : WF w) {i : Nat} (hi : i < 4 * nr w) : w (28 + 5 * i) = nI (cnt w i) := (h.2.2.2.2.2 i hi).1.1
theorem WF.c1 {w : Nat → Int32} (h : WF w) {i : Nat} (hi : i < 4 * nr w) : 1 ≤ cnt w i := (h.2.2.2.2.2 i hi).1.2.1
theorem WF.c4 {w : Nat → Int32} (h : WF w) {i : Nat} (hi : i < 4 * nr w) : cnt w i ≤ 4 := (h.2.2.2.2.2 i hi).1.2.2
theorem WF.ent {w : Nat → Int32} (h : WF w) {i j : Nat} (hi : i < 4 * nr w) (hj : j < cnt w i) : EntOk (i % 4) (w (29 + 5 * i + j)) := (h.2.2.2.2.2 i hi).2 j hj
theorem LR.c {fe fc fs w : Nat → Int32} (h : LR fe fc fs w) (hW : WF w) {i : Nat} (hi : i < 4 * nr w) : fc i = nI (cnt w i) := (h.2 i hi).1.trans (hW.c hi)
theorem LR.e {fe fc fs w : Nat → Int32} (h : LR fe fc fs w) {i j : Nat} (hi : i < 4 * nr w) (hj : j < cnt w i) : fe (4 * i + j) = w (29 + 5 * i + j) := (h.2 i hi).2 j hj
theorem LR.la {fe fc fs w : Nat → Int32} (h : LR fe fc fs w) (hW : WF w) {r c : Nat} (hi : 4 * r + c < 4 * nr w) : fe ((r * 4 + c) * 4 + cnt w (4 * r + c) - 1) = lat w r c := by
  have h1 := hW.c1 hi
  have h2 := h.e (i := 4 * r + c) (j := cnt w (4 * r + c) - 1) hi (by omega)
  rw [show (r * 4 + c) * 4 + cnt w (4 * r + c) - 1 = 4 * (4 * r + c) + (cnt w (4 * r + c) - 1) by omega, h2]
  unfold lat
  congr 1
  omega
theorem EntOk.neg {k : Nat} {x : Int32} (h : EntOk k x) : x < 0 ↔ (x = -5 ∨ x = -6) := by
  rcases h with rfl | rfl | ⟨v, hv, rfl⟩
  · simp
  · simp
  · have := cmN_le k
    have h1 := nI_pos (n := v) (by omega)
    refine ⟨fun q => absurd q h1, fun q => ?_⟩
    rcases q with q | q
    · rw [q] at h1; exact absurd (by decide) h1
    · rw [q] at h1; exact absurd (by decide) h1
theorem WF.latOk {w : Nat → Int32} (h : WF w) {r c : Nat} (hc : c < 4) (hi : 4 * r + c < 4 * nr w) : EntOk c (lat w r c) := by
  have h1 := h.c1 hi
  have h2 := h.ent (i := 4 * r + c) (j := cnt w (4 * r + c) - 1) hi (by omega)
  rw [show (4 * r + c) % 4 = c by omega, show 29 + 5 * (4 * r + c) + (cnt w (4 * r + c) - 1) = 28 + 5 * (4 * r + c) + cnt w (4 * r + c) by omega] at h2
  exact h2
theorem top_le (w : Nat → Int32) (c : Nat) : ∀ r, top w c r ≤ r
  | 0 => Nat.le_refl 0
  | r + 1 => by
    unfold top
    split
    · exact Nat.le_succ_of_le (top_le w c r)
    · exact Nat.le_refl _
theorem top_up {w : Nat → Int32} {c r : Nat} (h0 : 0 < r) (h : upB w r c = true) : top w c r = top w c (r - 1) := by
  obtain ⟨k, rfl⟩ : ∃ k, r = k + 1 := ⟨r - 1, by omega⟩
  rw [top, if_pos h]; rfl
theorem top_no {w : Nat → Int32} {c r : Nat} (h : upB w r c = false) : top w c r = r := by
  cases r with
  | zero => rfl
  | succ k => rw [top, if_neg (by rw [h]; decide)]
theorem upB_0 (w : Nat → Int32) (c : Nat) : upB w 0 c = false := by simp [upB, abvB]
theorem dB_iff (w : Nat → Int32) (c a : Nat) : ∀ n, dB w c a n = true ↔ ∃ k, k < n ∧ 1 < cnt w (4 * (a + k) + c)
  | 0 => by simp [dB]
  | n + 1 => by
    rw [dB, Bool.or_eq_true, dB_iff w c a n, decide_eq_true_eq]
    constructor
    · rintro (⟨k, h1, h2⟩ | h)
      · exact ⟨k, by omega, h2⟩
      · exact ⟨n, by omega, h⟩
    · rintro ⟨k, h1, h2⟩
      by_cases hk : k = n
      · subst hk; exact Or.inr h2
      · exact Or.inl ⟨k, by omega, h2⟩
theorem stop_up {w : Nat → Int32} {c a : Nat} (h0 : a < nr w) (h : upB w a c = true) : stop w c a = stop w c (a + 1) := by
  unfold stop
  rw [show nr w - a = (nr w - (a + 1)) + 1 by omega, stopF, if_pos h]
theorem stop_no {w : Nat → Int32} {c a : Nat} (h : upB w a c = false) : stop w c a = a := by
  unfold stop
  cases nr w - a with
  | zero => rfl
  | succ n => rw [stopF, if_neg (by rw [h]; decide)]
theorem stop_end {w : Nat → Int32} {c a : Nat} (h : nr w ≤ a) : stop w c a = a := by
  unfold stop
  rw [show nr w - a = 0 by omega]; rfl
theorem stopF_ge (w : Nat → Int32) (c : Nat) : ∀ n a, a ≤ stopF w c n a
  | 0, a => Nat.le_refl a
  | n + 1, a => by
    unfold stopF
    split
    · exact Nat.le_trans (Nat.le_succ a) (stopF_ge w c n (a + 1))
    · exact Nat.le_refl _
theorem stopF_le (w : Nat → Int32) (c : Nat) : ∀ n a, stopF w c n a ≤ a + n
  | 0, a => Nat.le_refl a
  | n + 1, a => by
    unfold stopF
    split
    · have := stopF_le w c n (a + 1); omega
    · omega
theorem stop_ge (w : Nat → Int32) (c a : Nat) : a ≤ stop w c a := stopF_ge w c _ a
theorem stop_le {w : Nat → Int32} {c a : Nat} (h : a ≤ nr w) : stop w c a ≤ nr w := by have := stopF_le w c (nr w - a) a; unfold stop; omega
theorem ctR_le (p : Nat → Bool) (a : Nat) : ∀ n, ctR p a n ≤ n
  | 0 => Nat.le_refl 0
  | n + 1 => by
    have := ctR_le p a n
    unfold ctR
    split <;> omega
theorem smR_le (f : Nat → Nat) (a b : Nat) : ∀ n, (∀ k, k < n → f (a + k) ≤ b) → smR f a n ≤ n * b
  | 0, _ => by simp [smR]
  | n + 1, h => by
    have h1 := smR_le f a b n (fun k hk => h k (by omega))
    have h2 := h n (by omega)
    rw [smR, Nat.succ_mul]
    omega
theorem mxR_le (f : Nat → Nat) (b : Nat) : ∀ n, (∀ k, k < n → f k ≤ b) → mxR f n ≤ b
  | 0, _ => Nat.zero_le _
  | n + 1, h => by
    unfold mxR
    split
    · exact h n (by omega)
    · exact mxR_le f b n (fun k hk => h k (by omega))
theorem mean_ok {w : Nat → Int32} (h : WF w) {r c : Nat} (hc : c < 4) (hr : r < nr w) : mean w r c = -5 ∨ ∃ v : Nat, v ≤ cmN c ∧ mean w r c = nI v := by
  have ht := top_le w c r
  have h1 := h.latOk hc (r := top w c r) (by omega)
  unfold mean
  by_cases hn : lat w (top w c r) c < 0
  · rw [if_pos hn]; exact Or.inl rfl
  · rw [if_neg hn]
    rcases h1 with h1 | h1 | h1
    · exact absurd (by rw [h1]; decide) hn
    · exact absurd (by rw [h1]; decide) hn
    · exact Or.inr h1
theorem spd_le {w : Nat → Int32} (h : WF w) {r : Nat} (hr : r < nr w) : spd w r ≤ 199 := by
  unfold spd
  rcases mean_ok h (c := 1) (by decide) hr with h1 | ⟨v, hv, h1⟩
  · rw [h1]; decide
  · have : v ≤ 199 := hv
    rw [h1, nI_clamp (by omega)]; exact hv
end
section
/-! loops, methods that change cells, and more of what is read off the row of numbers -/
theorem xloop {α : Type} (I : α → Array Slot → Prop) (μ : α → Nat) {goal : Array Slot → Prop} (step : ∀ (a : α) (ls : Array Slot), I a ls → (∀ (b : α) (ls' : Array Slot), I b ls' → μ b < μ a → goal ls') → goal ls) (a : α) (ls : Array Slot) (h : I a ls) : goal ls := by
  have key : ∀ (n : Nat) (a : α) (ls : Array Slot), μ a < n → I a ls → goal ls := by
    intro n
    induction n with
    | zero => intro a ls h; exact absurd h (Nat.not_lt_zero _)
    | succ n ih => intro a ls h1 h2; exact step a ls h2 (fun b ls' h3 h4 => ih b ls' (by omega) h3)
  exact key (μ a + 1) a ls (Nat.lt_succ_self _) h
theorem xloopM {α : Type} (I : α → Array Slot → Heap → List Loc → Prop) (μ : α → Nat) {goal : Array Slot → Heap → List Loc → Prop} (step : ∀ (a : α) (ls : Array Slot) (H : Heap) (locs : List Loc), I a ls H locs → (∀ (b : α) (ls' : Array Slot) (H' : Heap) (locs' : List Loc), I b ls' H' locs' → μ b < μ a → goal ls' H' locs') → goal ls H locs) (a : α) (ls : Array Slot) (H : Heap) (locs : List Loc) (h : I a ls H locs) : goal ls H locs := by
  have key : ∀ (n : Nat) (a : α) (ls : Array Slot) (H : Heap) (locs : List Loc), μ a < n → I a ls H locs → goal ls H locs := by
    intro n
    induction n with
    | zero => intro a ls H locs h; exact absurd h (Nat.not_lt_zero _)
    | succ n ih => intro a ls H locs h1 h2; exact step a ls H locs h2 (fun b ls' H' locs' h3 h4 => ih b ls' H' locs' (by omega) h3)
  exact key (μ a + 1) a ls H locs (Nat.lt_succ_self _) h
theorem xMetM {l : Launch} {g : XG} {y : MethodName} {cc : ByteArray} {maxL mc ms : Nat} {ret : Option FieldType} {rm : Room} {Qc : Array Value → State → Outcome → State → Prop} {free : Addr → Prop} {As : List Value} {hp : Heap → Prop} {own : String} (hy : plainName y.cls = true) (hyc : y.cls = own) (hsz : (lg_sl As).length ≤ maxL)
    (body : ∀ (p : Program) (e : Env) (s : State) (m : MethodId) (below : List Frame) (meth : Method) (c : Code) (ls : Array Slot) (H : Heap) (locs : List Loc), FX p s m As.toArray c cc maxL own g → ZS g s s.heap → hp H → va_S free s.heap H locs → meth.sig.returnType = ret → meth.locks = false → (y.name = "<init>" → meth.name = "<init>") → lv_has ls maxL (lv_args 0 As) → W p l e rm s m As.toArray below meth c H locs 0 0 (MQ below Qc As.toArray s mc ms free) (F0 m 0 ls [])) : Met l y (ww y cc maxL ret) rm (xP g As hp) Qc mc ms free :=
  xMet hy hyc hsz (fun p e s m below meth c ls hF hZ hh hr hlocks hin hl => body p e s m below meth c ls s.heap [] hF hZ hh va_S.rf hr hlocks hin hl)
theorem va_D_eq {A : Nat → Prop} {ws ws' : va_W} (h : ws.map Prod.fst = ws'.map Prod.fst) (hD : va_D A ws) : va_D A ws' := by
  have key : ∀ (k : Nat) (q : Nat × va_E), ws'[k]? = some q → ∃ q0, ws[k]? = some q0 ∧ q0.1 = q.1 := by
    intro k q hk
    have h1 : (ws'.map Prod.fst)[k]? = some q.1 := by rw [List.getElem?_map, hk]; rfl
    rw [← h, List.getElem?_map] at h1
    cases hq : ws[k]? with
    | none => rw [hq] at h1; cases h1
    | some q0 => rw [hq] at h1; exact ⟨q0, rfl, Option.some.inj h1⟩
  refine ⟨fun i j p q hi hj hpq => ?_, fun k q hk => ?_⟩
  · obtain ⟨p0, h1, h2⟩ := key i p hi
    obtain ⟨q0, h3, h4⟩ := key j q hj
    exact hD.1 i j p0 q0 h1 h3 (h2.trans (hpq.trans h4.symm))
  · obtain ⟨q0, h1, h2⟩ := key k q hk
    rw [← h2]; exact hD.2 k q0 h1
abbrev LogC (g : XG) (ao ae ac au : Nat) (fe fc fs w : Nat → Int32) : va_W := [(ao, .inr (1, [.ref ae, .ref ac, .ref au, .int (nI (nr w)), .int (nI (pgN w)), .int (nI (stN w)), .int (nI (wrN w))])), (ae, .inl (g.2.1 0, 768, .inl fe)), (ac, .inl (g.2.1 0, 192, .inl fc)), (au, .inl (g.2.1 0, 24, .inl fs))]
def colB (x : Int32) : Bool := decide (0 ≤ x) && decide (x < 4)
def rowB (w : Nat → Int32) (x : Int32) : Bool := decide (0 ≤ x) && decide (x < nI (nr w))
def entB (k : Nat) (x : Int32) : Bool := x == -5 || (x == -6 || (decide (0 ≤ x) && decide (x ≤ cmax k)))
theorem colB_iff {x : Int32} : colB x = true ↔ ∃ k : Nat, k < 4 ∧ x = nI k := by
  unfold colB
  rw [Bool.and_eq_true, decide_eq_true_eq, decide_eq_true_eq]
  constructor
  · rintro ⟨h1, h2⟩
    obtain ⟨j, hj, rfl⟩ := nI_of (Int32.not_lt.mpr h1)
    exact ⟨j, (nI_ltI hj (by decide)).mp (show nI j < nI 4 from h2), rfl⟩
  · rintro ⟨k, hk, rfl⟩
    exact ⟨nI_pos' (by omega), show nI k < nI 4 from nI_lt hk (by decide)⟩
theorem rowB_iff {w : Nat → Int32} (hW : WF w) {x : Int32} : rowB w x = true ↔ ∃ r : Nat, r < nr w ∧ x = nI r := by
  have h48 := hW.n48
  unfold rowB
  rw [Bool.and_eq_true, decide_eq_true_eq, decide_eq_true_eq]
  constructor
  · rintro ⟨h1, h2⟩
    obtain ⟨j, hj, rfl⟩ := nI_of (Int32.not_lt.mpr h1)
    exact ⟨j, (nI_ltI hj (by omega)).mp h2, rfl⟩
  · rintro ⟨k, hk, rfl⟩
    exact ⟨nI_pos' (by omega), nI_lt hk (by omega)⟩
theorem entB_iff {k : Nat} {x : Int32} : entB k x = true ↔ EntOk k x := by
  have := cmN_le k
  unfold entB EntOk
  rw [Bool.or_eq_true, Bool.or_eq_true, Bool.and_eq_true, decide_eq_true_eq, decide_eq_true_eq, beq_iff_eq, beq_iff_eq, cmax_N]
  constructor
  · rintro (h | h | ⟨h1, h2⟩)
    · exact Or.inl h
    · exact Or.inr (Or.inl h)
    · obtain ⟨j, hj, rfl⟩ := nI_of (Int32.not_lt.mpr h1)
      exact Or.inr (Or.inr ⟨j, (nI_leI hj (by omega)).mp h2, rfl⟩)
  · rintro (h | h | ⟨v, hv, rfl⟩)
    · exact Or.inl h
    · exact Or.inr (Or.inl h)
    · exact Or.inr (Or.inr ⟨nI_pos' (by omega), nI_le hv (by omega)⟩)
def mwI (w : Nat → Int32) (r k : Nat) (x : Int32) : Int32 := if x = -6 then (if abvB w r then mean w (r - 1) k else -5) else x
def chg (w : Nat → Int32) (r k : Nat) (x : Int32) : Nat := if mwI w r k x = mean w r k then 0 else 1 + (stop w k (r + 1) - 1 - r)
def wrB (w : Nat → Int32) (r : Nat) : Bool := wr4 w r 4
theorem wr4_false {w : Nat → Int32} {r j : Nat} (h : lat w r j < 0) : ∀ n, j < n → wr4 w r n = false
  | 0, hn => absurd hn (Nat.not_lt_zero _)
  | n + 1, hn => by
    rw [wr4, Bool.and_eq_false_iff]
    by_cases hj : j = n
    · subst hj
      exact Or.inr (decide_eq_false (Int32.not_le.mpr h))
    · exact Or.inl (wr4_false h n (by omega))
theorem xz_t {b : Bool} (h : b = true) : nI 1 = xz b := by subst h; rfl
theorem xz_f {b : Bool} (h : b = false) : nI 0 = xz b := by subst h; rfl
theorem colB_f1 {x : Int32} (h : x < 0) : colB x = false := by simp [colB, Int32.not_le.mpr h]
theorem colB_f2 {x : Int32} (h : nI 4 ≤ x) : colB x = false := by simp [colB, Int32.not_lt.mpr (show (4 : Int32) ≤ x from h)]
theorem colB_t {x : Int32} (h : ¬ x < 0) (h2 : ¬ nI 4 ≤ x) : colB x = true := by simp [colB, Int32.not_lt.mp h, Int32.not_le.mp (show ¬ (4 : Int32) ≤ x from h2)]
theorem rowB_f1 {w : Nat → Int32} {x : Int32} (h : x < 0) : rowB w x = false := by simp [rowB, Int32.not_le.mpr h]
theorem rowB_f2 {w : Nat → Int32} {x : Int32} (h : nI (nr w) ≤ x) : rowB w x = false := by simp [rowB, Int32.not_lt.mpr h]
theorem rowB_t {w : Nat → Int32} {x : Int32} (h : ¬ x < 0) (h2 : ¬ nI (nr w) ≤ x) : rowB w x = true := by simp [rowB, Int32.not_lt.mp h, Int32.not_le.mp h2]
theorem entB_t1 {k : Nat} {x : Int32} (h : x = -5) : entB k x = true := by simp [entB, h]
theorem entB_t2 {k : Nat} {x : Int32} (h : x = -6) : entB k x = true := by simp [entB, h]
theorem entB_t3 {k : Nat} {x : Int32} (h : ¬ x < 0) (h2 : ¬ cmax k < x) : entB k x = true := by simp [entB, Int32.not_lt.mp h, Int32.not_lt.mp h2]
theorem entB_f1 {k : Nat} {x : Int32} (h5 : ¬ x = -5) (h6 : ¬ x = -6) (h : x < 0) : entB k x = false := by simp [entB, h5, h6, Int32.not_le.mpr h]
theorem entB_f2 {k : Nat} {x : Int32} (h5 : ¬ x = -5) (h6 : ¬ x = -6) (h : cmax k < x) : entB k x = false := by simp [entB, h5, h6, Int32.not_le.mpr h]
end
section
theorem xm1_lt {k : Nat} (h : k < 2147483648) : (-1 : Int32) < nI k := Int32.lt_of_lt_of_le (by decide) (nI_pos' h)
theorem xE_pred (n : Nat) : nI (n + 1) - nI 1 = nI n := nI_pred n
theorem xE_toInt {b : Nat} (hb : b < 1000000) : (nI b - nI 1).toInt = (b : Int) - 1 := pk_sub_toInt (by omega) (by decide)
section XE
variable {p : Program} {l : Launch} {e : Env} {R : Room} {s : State} {m : MethodId} {args : Array Value} {below : List Frame} {meth : Method} {c : Code} {H : Heap} {locs : List Loc} {cells slots : Nat} {Q : State → Prop}
variable {cc : ByteArray} {pc : Nat} {ls : Array Slot} {rest : List Value}
theorem xE_gt (hx : p.tables.exec = Jvm.exec) (hb : c.code = cc) {a b tgt : Nat} {off : Int} (ha : a < 1000000) (hb2 : b < 1000000) (hdg : decode cc pc = .ok (.if_icmp .gt off, 3)) (ht : (pc : Int) + off = (tgt : Int)) (kt : b ≤ a → W p l e R s m args below meth c H locs cells slots Q (F0 m tgt ls rest)) (kf : a < b → W p l e R s m args below meth c H locs cells slots Q (F0 m (pc + 3) ls rest)) : W p l e R s m args below meth c H locs cells slots Q (F0 m pc ls (.int (nI b - nI 1) :: .int (nI a) :: rest)) := by
  have e1 := xE_toInt hb2
  have e2 := nI_toInt (n := a) (by omega)
  refine lv_icmp_gt hx hb hdg ht (fun h => kt ?_) (fun h => kf ?_)
  · rw [Int32.lt_iff_toInt_lt, e1, e2] at h; omega
  · rw [Int32.lt_iff_toInt_lt, e1, e2] at h; omega
end XE
theorem ctR_step {p : Nat → Bool} {a i : Nat} (h : a ≤ i) : ctR p a (i + 1 - a) = ctR p a (i - a) + (if p i then 1 else 0) := by
  rw [show i + 1 - a = (i - a) + 1 by omega, ctR, show a + (i - a) = i by omega]
theorem ctR_t {p : Nat → Bool} {a i : Nat} (h : a ≤ i) (hp : p i = true) : ctR p a (i + 1 - a) = ctR p a (i - a) + 1 := by rw [ctR_step h, if_pos hp]
theorem ctR_f {p : Nat → Bool} {a i : Nat} (h : a ≤ i) (hp : p i = false) : ctR p a (i + 1 - a) = ctR p a (i - a) := by rw [ctR_step h, if_neg (by rw [hp]; decide)]; rfl
theorem smR_step {f : Nat → Nat} {a i : Nat} (h : a ≤ i) : smR f a (i + 1 - a) = smR f a (i - a) + f i := by
  rw [show i + 1 - a = (i - a) + 1 by omega, smR, show a + (i - a) = i by omega]
def wcs (w : Nat → Int32) : Nat := (nr w + wrN w - 1) / wrN w
def lstN (w : Nat → Int32) (t : Nat) : Nat := if nr w < (t + 1) * wrN w then nr w else (t + 1) * wrN w
def runN (w : Nat → Int32) (a b : Nat) : Nat := smR (spd w) a (b - a)
def wrgB (w : Nat → Int32) (t : Nat) : Bool := !(w (4 + t) == -5) && !(w (4 + t) == nI (runN w (t * wrN w) (lstN w t)))
theorem nI_ite (a b : Nat) (ha : a < 2147483648) (hb : b < 2147483648) : (if nI a < nI b then nI b else nI a) = nI (if a < b then b else a) := by
  by_cases h : a < b
  · rw [if_pos h, if_pos (nI_lt h hb)]
  · rw [if_neg h, if_neg (nI_nlt (by omega) ha)]
theorem xmax0 (x : Int32) : (if nI 0 < x then x else nI 0) = nI x.toNatClampNeg := by
  have h0 : (nI 0).toInt = 0 := rfl
  by_cases h : nI 0 < x
  · rw [if_pos h]
    obtain ⟨j, hj, rfl⟩ := nI_of (x := x) (fun q => Int32.lt_irrefl (Int32.lt_trans (show (0:Int32) < x from h) q))
    rw [nI_clamp hj]
  · rw [if_neg h]
    rw [Int32.lt_iff_toInt_lt, h0] at h
    have : x.toNatClampNeg = 0 := by
      show x.toInt.toNat = 0
      omega
    rw [this]
theorem wcs_le {w : Nat → Int32} (h : WF w) : wcs w ≤ 24 := by
  have := h.n48; have := h.wr2; have := h.wr6
  unfold wcs
  exact Nat.le_of_lt_succ ((Nat.div_lt_iff_lt_mul (by omega)).mpr (by omega))
theorem wcs_lt {w : Nat → Int32} (h : WF w) {t : Nat} (ht : t < wcs w) : t * wrN w < nr w := by
  have h2 := h.wr2
  unfold wcs at ht
  have h3 := (Nat.le_div_iff_mul_le (by omega)).mp (Nat.succ_le_of_lt ht)
  rw [Nat.succ_mul] at h3
  omega
theorem lstN_le (w : Nat → Int32) (t : Nat) : lstN w t ≤ nr w := by unfold lstN; split <;> omega
theorem lstN_ge {w : Nat → Int32} (h : WF w) {t : Nat} (ht : t < wcs w) : t * wrN w ≤ lstN w t := by
  have := wcs_lt h ht
  unfold lstN
  rw [Nat.succ_mul]
  split <;> omega
theorem smR_spd_le {w : Nat → Int32} (h : WF w) {a n : Nat} (hn : a + n ≤ nr w) : smR (spd w) a n ≤ 9552 := by
  have h1 := smR_le (spd w) a 199 n (fun k hk => spd_le h (by omega))
  have := h.n48
  omega
theorem runN_le {w : Nat → Int32} (h : WF w) {a b : Nat} (hb : b ≤ nr w) : runN w a b ≤ 9552 := by
  unfold runN
  by_cases hab : a ≤ b
  · exact smR_spd_le h (by omega)
  · rw [show b - a = 0 by omega]; exact Nat.zero_le _
def stg (w : Nat → Int32) (k : Nat) : Nat := match k with
  | 0 => pgN w
  | 1 => stN w
  | _ => wrN w
theorem stg_w {w : Nat → Int32} (h : WF w) : ∀ k, k < 3 → w (1 + k) = nI (stg w k)
  | 0, _ => h.r1
  | 1, _ => h.r2
  | 2, _ => h.r3
abbrev ModO (mo mn mp mq mt mm md zs zl zp zr : Nat) (zk : Bool) : Nat × va_E := (mo, .inr (4, [.ref mn, .ref mp, .int (nI zs), .ref mq, .int (xz zk), .ref mt, .int (nI zl), .ref mm, .int (nI zp), .ref md, .int (nI zr)]))
abbrev ModC (g : XG) (mo mn mp mq mt mm md zs zl zp zr : Nat) (zk : Bool) (w : Nat → Int32) : va_W := [ModO mo mn mp mq mt mm md zs zl zp zr zk, (mn, .inl (g.2.1 0, 988, .inl w))]
theorem rowB_in {w : Nat → Int32} (hW : WF w) (x : Int32) : (decide (nI 0 ≤ x) && decide (x ≤ nI (nr w) - nI 1)) = rowB w x := by
  have h48 := hW.n48
  have e1 := xE_toInt (b := nr w) (by omega)
  have e2 := nI_toInt (n := nr w) (by omega)
  unfold rowB
  have : (x ≤ nI (nr w) - nI 1) ↔ (x < nI (nr w)) := by rw [Int32.le_iff_toInt_le, Int32.lt_iff_toInt_lt, e1, e2]; omega
  rw [decide_eq_decide.mpr this]; rfl
theorem colB_in (x : Int32) : (decide (nI 0 ≤ x) && decide (x ≤ nI 3)) = colB x := by
  have e1 : (nI 3).toInt = 3 := rfl
  have e2 : (4 : Int32).toInt = 4 := rfl
  unfold colB
  have : (x ≤ nI 3) ↔ (x < 4) := by rw [Int32.le_iff_toInt_le, Int32.lt_iff_toInt_lt, e1, e2]; omega
  rw [decide_eq_decide.mpr this]; rfl
theorem entB_in {k : Nat} {x : Int32} (h5 : ¬ x = -5) (h6 : ¬ x = -6) : (decide (nI 0 ≤ x) && decide (x ≤ nI (cmN k))) = entB k x := by
  unfold entB
  rw [beq_eq_false_iff_ne.mpr h5, beq_eq_false_iff_ne.mpr h6, Bool.false_or, Bool.false_or, cmax_N]; rfl
theorem dB_step {w : Nat → Int32} {c a i : Nat} (h : a ≤ i) : dB w c a (i + 1 - a) = (dB w c a (i - a) || decide (1 < cnt w (4 * i + c))) := by
  rw [show i + 1 - a = (i - a) + 1 by omega, dB, show a + (i - a) = i by omega]
def cmP (f : Nat → Nat) : Nat → Int32 × Nat
  | 0 => (-5, 0)
  | n + 1 => if (cmP f n).2 < f n then (nI n, f n) else cmP f n
def mnR (w : Nat → Int32) (k a b v : Nat) : Nat := ctR (fun i => mean w i k == nI v) a (b - a)
def cmI (w : Nat → Int32) (k a b : Nat) : Int32 := (cmP (mnR w k a b) (cmN k + 1)).1
theorem cmP_le (f : Nat → Nat) (b : Nat) (h : ∀ v, f v ≤ b) : ∀ n, (cmP f n).2 ≤ b
  | 0 => Nat.zero_le _
  | n + 1 => by
    unfold cmP
    split
    · exact h n
    · exact cmP_le f b h n
theorem mnR_le (w : Nat → Int32) (k a b v : Nat) : mnR w k a b v ≤ b - a := ctR_le _ _ _
def mg (w : Nat → Int32) (x y : Int32) : Int32 := if rowB w x && rowB w y then (if y < x then -2 else 0) else -1
def runA (w : Nat → Int32) (x y : Int32) : Int32 := if mg w x y < 0 then mg w x y else nI (runN w x.toNatClampNeg (y.toNatClampNeg + 1))
theorem mg_neg {w : Nat → Int32} {x y : Int32} : ¬ mg w x y < 0 ↔ (rowB w x = true ∧ rowB w y = true ∧ ¬ y < x) := by
  unfold mg
  cases rowB w x <;> cases rowB w y
  · simp
  · simp
  · simp
  · by_cases h : y < x <;> simp [h]
def idN (w : Nat → Int32) (a b : Nat) : Nat → Nat
  | 0 => 0
  | n + 1 => idN w a b n + ctR (fun i => dbt w i n) a (b - a)
theorem idN_le (w : Nat → Int32) (a b : Nat) : ∀ n, idN w a b n ≤ n * (b - a)
  | 0 => by simp [idN]
  | n + 1 => by
    have h1 := idN_le w a b n
    have h2 := ctR_le (fun i => dbt w i n) a (b - a)
    rw [idN, Nat.succ_mul]; omega
def cellA (w : Nat → Int32) (x y z : Int32) : Int32 :=
  if rowB w x && colB y then
    if z = 0 then mean w x.toNatClampNeg y.toNatClampNeg
    else if z = 1 then srcI w x.toNatClampNeg y.toNatClampNeg
    else if z = 2 then nI (cnt w (4 * x.toNatClampNeg + y.toNatClampNeg))
    else if z = 3 then nI (x.toNatClampNeg - top w y.toNatClampNeg x.toNatClampNeg + 1)
    else if z = 4 then xz (dbt w x.toNatClampNeg y.toNatClampNeg)
    else if z = 5 then nI (stop w y.toNatClampNeg (x.toNatClampNeg + 1) - 1 - x.toNatClampNeg)
    else -2
  else -1
def entryA (w : Nat → Int32) (x y z : Int32) : Int32 :=
  if rowB w x && colB y then
    if ¬ z < 0 ∧ z < nI (cnt w (4 * x.toNatClampNeg + y.toNatClampNeg)) then w (29 + 5 * (4 * x.toNatClampNeg + y.toNatClampNeg) + z.toNatClampNeg) else -2
  else -1
def isWrA (w : Nat → Int32) (x : Int32) : Int32 := if rowB w x then xz (wrB w x.toNatClampNeg) else -1
theorem spd_neg {w : Nat → Int32} {i : Nat} (h : mean w i 1 < 0) : spd w i = 0 := by
  unfold spd
  have h0 : (0 : Int32).toInt = 0 := rfl
  rw [Int32.lt_iff_toInt_lt, h0] at h
  show (mean w i 1).toInt.toNat = 0
  omega
theorem spd_pos {w : Nat → Int32} {i : Nat} (h : ¬ mean w i 1 < 0) : mean w i 1 = nI (spd w i) := by
  unfold spd
  obtain ⟨j, hj, e⟩ := nI_of h
  rw [e, nI_clamp hj]
theorem entry_in {w : Nat → Int32} (hW : WF w) {r k : Nat} (hk : k < 4) (hr : r < nr w) (z : Int32) : (decide (nI 0 ≤ z) && decide (z ≤ nI (cnt w (4 * r + k)) - nI 1)) = true ↔ (¬ z < 0 ∧ z < nI (cnt w (4 * r + k))) := by
  have hc4 := hW.c4 (i := 4 * r + k) (by omega)
  have e1 := xE_toInt (b := cnt w (4 * r + k)) (by omega)
  have e2 := nI_toInt (n := cnt w (4 * r + k)) (by omega)
  have e0 : (0 : Int32).toInt = 0 := rfl
  have e0' : (nI 0).toInt = 0 := rfl
  rw [Bool.and_eq_true, decide_eq_true_eq, decide_eq_true_eq]
  simp only [Int32.le_iff_toInt_le, Int32.lt_iff_toInt_lt, e1, e2, e0, e0']
  omega
end
section
/-! methods that change cells: which cells, and what stands behind a call -/
def xin (L : List Nat) : Nat → Prop := fun q => q ∈ L
theorem xin_sub {L0 L1 : List Nat} (is : List Nat) (h : is.filterMap (fun i => L0[i]?) = L1) : ∀ q, xin L1 q → xin L0 q := by
  intro q hq
  subst h
  obtain ⟨i, -, hi⟩ := List.mem_filterMap.mp hq
  exact List.mem_of_getElem? hi
/-- behind a call: what the callee's cells are now, and the rest as it was -/
theorem xjoin {D : va_G} {cl : List vw_C} {A0 : Nat → Prop} {L1 : List Nat} {ws ws' w1 : va_W} {H H1 : Heap} (hP : va_P D cl ws H) (hD : va_D A0 ws) (h1 : va_P D cl w1 H1) (hk : ∀ q : Nat, q < H.size → ¬ xin L1 q → H1[q]? = H[q]?) (isC : List Nat) (ps : List (Bool × Nat)) (hC : isC.filterMap (fun i => (ws[i]?).map Prod.fst) = L1) (hn : ps.all (fun p => p.1 || !(isC.contains p.2)) = true) (hw : ps.map (fun p => if p.1 then w1[p.2]? else ws[p.2]?) = ws'.map some) : va_P D cl ws' H1 := by
  intro k q hq
  have h2 : (ps.map (fun p => if p.1 then w1[p.2]? else ws[p.2]?))[k]? = some (some q) := by rw [hw, List.getElem?_map, hq]; rfl
  rw [List.getElem?_map] at h2
  cases hp : ps[k]? with
  | none => rw [hp] at h2; cases h2
  | some p =>
    rw [hp] at h2
    have h3 : (if p.1 then w1[p.2]? else ws[p.2]?) = some q := Option.some.inj h2
    have h4 := List.all_eq_true.mp hn p (List.mem_of_getElem? hp)
    cases hb : p.1 with
    | true => rw [hb] at h3; exact h1 _ q h3
    | false =>
      rw [hb] at h3 h4
      have h3 : ws[p.2]? = some q := h3
      refine (hP _ q h3).kept (hk q.1 (hP _ q h3).lt fun hx => ?_)
      rw [← hC] at hx
      obtain ⟨i, hi, hi2⟩ := List.mem_filterMap.mp hx
      cases hwi : ws[i]? with
      | none => rw [hwi] at hi2; cases hi2
      | some q2 =>
        rw [hwi] at hi2
        have e : q2.1 = q.1 := Option.some.inj hi2
        have hij := hD.1 i p.2 q2 q hwi h3 e
        subst hij
        rw [Bool.false_or, Bool.not_eq_true'] at h4
        have : isC.contains p.2 = true := List.contains_iff_mem.mpr hi
        rw [this] at h4; cases h4
theorem xcpy_step {f h : Nat → Int32} {s t n : Nat} : upd (va_cpy f h s t n) (t + n) (f (s + n)) = va_cpy f h s t (n + 1) := by
  funext j
  unfold upd va_cpy
  by_cases h1 : j = t + n
  · subst h1
    rw [if_pos rfl, if_pos ⟨by omega, by omega⟩, show s + (t + n - t) = s + n by omega]
  · rw [if_neg h1]
    by_cases h2 : t ≤ j ∧ j < t + n
    · rw [if_pos h2, if_pos ⟨h2.1, by omega⟩]
    · rw [if_neg h2, if_neg (fun q => h2 ⟨q.1, by omega⟩)]
theorem xcpy_0 {f h : Nat → Int32} {s t : Nat} : va_cpy f h s t 0 = h := by
  funext j
  unfold va_cpy
  rw [if_neg (by omega)]
/-- the first n entries moved down by d -/
def xdown (f : Nat → Int32) (d n : Nat) : Nat → Int32 := fun j => if j < n then f (j + d) else f j
theorem xdown_0 (f : Nat → Int32) (d : Nat) : xdown f d 0 = f := by
  funext j; unfold xdown; rw [if_neg (Nat.not_lt_zero j)]
theorem xdown_step {f : Nat → Int32} {d n : Nat} (hd : 0 < d) : upd (xdown f d n) n (xdown f d n (n + d)) = xdown f d (n + 1) := by
  funext j
  unfold upd xdown
  by_cases h1 : j = n
  · subst h1
    rw [if_pos rfl, if_neg (by omega), if_pos (by omega)]
  · rw [if_neg h1]
    by_cases h2 : j < n
    · rw [if_pos h2, if_pos (by omega)]
    · rw [if_neg h2, if_neg (by omega)]
def xzero (f : Nat → Int32) (a n : Nat) : Nat → Int32 := fun j => if a ≤ j ∧ j < a + n then 0 else f j
theorem xzero_0 (f : Nat → Int32) (a : Nat) : xzero f a 0 = f := by
  funext j; unfold xzero; rw [if_neg (by omega)]
theorem xzero_step {f : Nat → Int32} {a i : Nat} (h : a ≤ i) : upd (xzero f a (i - a)) i 0 = xzero f a (i + 1 - a) := by
  funext j
  unfold upd xzero
  by_cases h1 : j = i
  · subst h1
    rw [if_pos rfl, if_pos ⟨h, by omega⟩]
  · rw [if_neg h1]
    by_cases h2 : a ≤ j ∧ j < a + (i - a)
    · rw [if_pos h2, if_pos ⟨h2.1, by omega⟩]
    · rw [if_neg h2, if_neg (fun q => h2 ⟨q.1, by omega⟩)]
abbrev ModW (g : XG) (mo mn mp mq mt mm md zs zl zp zr : Nat) (zk : Bool) (w pa sn tx me td : Nat → Int32) : va_W := [ModO mo mn mp mq mt mm md zs zl zp zr zk, (mn, .inl (g.2.1 0, 988, .inl w)), (mp, .inl (g.2.1 0, 3952, .inl pa)), (mq, .inl (g.2.1 0, 988, .inl sn)), (mt, .inl (g.2.1 1, 60, .inl tx)), (mm, .inl (g.2.1 0, 48, .inl me)), (md, .inl (g.2.1 0, 40, .inl td))]
abbrev MF (mo mn mp mq mt mm md : Nat) : Nat → Prop := xin [mo, mn, mp, mq, mt, mm, md]
/-- how the row of numbers changes -/
def cmsW (w : Nat → Int32) (r k : Nat) (x : Int32) : Nat → Int32 := upd (upd w (28 + 5 * (4 * r + k)) (nI 1)) (28 + 5 * (4 * r + k) + 1) x
def addW (w : Nat → Int32) (a b c d : Int32) : Nat → Int32 := upd (cmsW (cmsW (cmsW (cmsW w (nr w) 0 a) (nr w) 1 b) (nr w) 2 c) (nr w) 3 d) 0 (nI (nr w + 1))
def remW (w : Nat → Int32) : Nat → Int32 := xzero (upd w 0 (nI (nr w - 1))) (28 + 5 * (4 * (nr w - 1))) 20
def corW (w : Nat → Int32) (r k : Nat) (x : Int32) : Nat → Int32 := upd (upd w (28 + 5 * (4 * r + k)) (nI (cnt w (4 * r + k) + 1))) (28 + 5 * (4 * r + k) + (cnt w (4 * r + k) + 1)) x
def tkbW (w : Nat → Int32) (r k : Nat) : Nat → Int32 := upd (upd w (28 + 5 * (4 * r + k) + cnt w (4 * r + k)) 0) (28 + 5 * (4 * r + k)) (nI (cnt w (4 * r + k) - 1))
/-- the states that the history holds: the next one's place, and the row of all -/
def recS (zs : Nat) : Nat := if zs = 4 then 3 else zs
def recP (w pa : Nat → Int32) (zs : Nat) : Nat → Int32 := va_cpy w (if zs = 4 then xdown pa 988 2964 else pa) 0 (988 * recS zs) 988
theorem xcpy0_step {f h : Nat → Int32} {n : Nat} : upd (va_cpy f h 0 0 n) n (f n) = va_cpy f h 0 0 (n + 1) := by
  have := xcpy_step (f := f) (h := h) (s := 0) (t := 0) (n := n)
  rwa [Nat.zero_add] at this
theorem xcpy0_in {f h : Nat → Int32} {n j : Nat} (hj : j < n) : va_cpy f h 0 0 n j = f j := by
  unfold va_cpy
  rw [if_pos ⟨Nat.zero_le _, by omega⟩, Nat.zero_add, Nat.sub_zero]
theorem cmsW_lo {w : Nat → Int32} {r k j : Nat} {x : Int32} (h : j < 28 + 5 * (4 * r + k)) : cmsW w r k x j = w j := by
  unfold cmsW upd
  rw [if_neg (by omega), if_neg (by omega)]
theorem ctR_cong {p q : Nat → Bool} {a : Nat} : ∀ {n : Nat}, (∀ j, j < n → p (a + j) = q (a + j)) → ctR p a n = ctR q a n
  | 0, _ => rfl
  | n + 1, h => by rw [ctR, ctR, ctR_cong (fun j hj => h j (by omega)), h n (by omega)]
def wldW (w : Nat → Int32) (r k : Nat) (x : Int32) : Nat → Int32 := upd w (28 + 5 * (4 * r + k) + cnt w (4 * r + k)) x
def othN (w w' : Nat → Int32) (k : Nat) : Nat := ctR (fun i9 => !(mean w' i9 k == mean w i9 k)) 0 (nr w)
theorem upd_at (f : Nat → Int32) (k : Nat) (x : Int32) : upd f k x k = x := by unfold upd; rw [if_pos rfl]
theorem upd_off {f : Nat → Int32} {k j : Nat} {x : Int32} (h : j ≠ k) : upd f k x j = f j := by unfold upd; rw [if_neg h]
theorem upd_back {f : Nat → Int32} {k : Nat} {x v : Int32} (h : f k = v) : upd (upd f k x) k v = f := by
  funext j; unfold upd; split
  · next e => rw [e, h]
  · rfl
theorem upd_upd {f : Nat → Int32} {k : Nat} {x v : Int32} : upd (upd f k x) k v = upd f k v := by
  funext j; unfold upd; split <;> rfl
/-- the acts: whether they go through, and their answers -/
def addB (w : Nat → Int32) (a b c d : Int32) : Bool := entB 0 a && (entB 1 b && (entB 2 c && (entB 3 d && !(nr w == 48))))
def addA (w : Nat → Int32) (a b c d : Int32) : Int32 := if entB 0 a && (entB 1 b && (entB 2 c && entB 3 d)) then (if nr w = 48 then -3 else nI (nr w)) else -2
def remA (w : Nat → Int32) : Int32 := if nr w = 0 then -4 else nI (nr w - 1)
def corB (w : Nat → Int32) (x y z : Int32) : Bool := (rowB w x && colB y) && (entB y.toNatClampNeg z && (!(cnt w (4 * x.toNatClampNeg + y.toNatClampNeg) == 4) && !(lat w x.toNatClampNeg y.toNatClampNeg == z)))
def corA (w : Nat → Int32) (x y z : Int32) : Int32 := if rowB w x && colB y then (if entB y.toNatClampNeg z then (if cnt w (4 * x.toNatClampNeg + y.toNatClampNeg) = 4 then -3 else if lat w x.toNatClampNeg y.toNatClampNeg = z then -5 else nI (othN w (corW w x.toNatClampNeg y.toNatClampNeg z) y.toNatClampNeg)) else -2) else -1
def tkbB (w : Nat → Int32) (x y : Int32) : Bool := (rowB w x && colB y) && !(cnt w (4 * x.toNatClampNeg + y.toNatClampNeg) == 1)
def tkbA (w : Nat → Int32) (x y : Int32) : Int32 := if rowB w x && colB y then (if cnt w (4 * x.toNatClampNeg + y.toNatClampNeg) = 1 then -4 else nI (othN w (tkbW w x.toNatClampNeg y.toNatClampNeg) y.toNatClampNeg)) else -1
def wldA (w : Nat → Int32) (x y z : Int32) : Int32 := if rowB w x && colB y then (if entB y.toNatClampNeg z then nI (othN w (wldW w x.toNatClampNeg y.toNatClampNeg z) y.toNatClampNeg) else -2) else -1
def wchB (x : Int32) : Bool := decide (nI 0 ≤ x) && decide (x ≤ nI 23)
def sumB (x : Int32) : Bool := x == -5 || (decide (nI 0 ≤ x) && decide (x ≤ nI 9999))
def clmB (w : Nat → Int32) (x y : Int32) : Bool := wchB x && (sumB y && !(w (4 + x.toNatClampNeg) == y))
def clmA (w : Nat → Int32) (x y : Int32) : Int32 := if wchB x then (if sumB y then (if w (4 + x.toNatClampNeg) = y then -5 else w (4 + x.toNatClampNeg) + nI 10000) else -2) else -1
def clmW (w : Nat → Int32) (t : Nat) (x : Int32) : Nat → Int32 := upd w (4 + t) x
def setV (x y : Int32) : Bool := if x = 0 then decide (nI 4 ≤ y) && decide (y ≤ nI 12) else if x = 1 then decide (nI 0 ≤ y) && decide (y ≤ nI 1) else if x = 2 then decide (nI 2 ≤ y) && decide (y ≤ nI 6) else false
def setB (w : Nat → Int32) (x y : Int32) : Bool := setV x y && !(w (1 + x.toNatClampNeg) == y)
def setA (w : Nat → Int32) (x y : Int32) : Int32 := if setV x y then (if w (1 + x.toNatClampNeg) = y then -5 else w (1 + x.toNatClampNeg)) else -2
def setW (w : Nat → Int32) (t : Nat) (x : Int32) : Nat → Int32 := upd w (1 + t) x
theorem wchB_iff {x : Int32} : wchB x = true ↔ ∃ t : Nat, t < 24 ∧ x = nI t := by
  unfold wchB
  rw [Bool.and_eq_true, decide_eq_true_eq, decide_eq_true_eq]
  constructor
  · rintro ⟨h1, h2⟩
    obtain ⟨j, hj, rfl⟩ := nI_of (x := x) (Int32.not_lt.mpr h1)
    exact ⟨j, Nat.lt_succ_of_le ((nI_leI hj (by decide)).mp h2), rfl⟩
  · rintro ⟨t, ht, rfl⟩
    exact ⟨nI_pos' (by omega), nI_le (by omega) (by decide)⟩
theorem sumB_iff {x : Int32} : sumB x = true ↔ SumOk x := by
  unfold sumB SumOk
  rw [Bool.or_eq_true, beq_iff_eq, Bool.and_eq_true, decide_eq_true_eq, decide_eq_true_eq]
  constructor
  · rintro (h | ⟨h1, h2⟩)
    · exact Or.inl h
    · obtain ⟨j, hj, rfl⟩ := nI_of (x := x) (Int32.not_lt.mpr h1)
      exact Or.inr ⟨j, (nI_leI hj (by decide)).mp h2, rfl⟩
  · rintro (h | ⟨v, hv, rfl⟩)
    · exact Or.inl h
    · exact Or.inr ⟨nI_pos' (by omega), nI_le hv (by decide)⟩
theorem setV_3 {x y : Int32} (h : setV x y = true) : ∃ t : Nat, t < 3 ∧ x = nI t := by
  unfold setV at h
  by_cases h0 : x = 0
  · exact ⟨0, by decide, h0⟩
  by_cases h1 : x = 1
  · exact ⟨1, by decide, h1⟩
  by_cases h2 : x = 2
  · exact ⟨2, by decide, h2⟩
  rw [if_neg h0, if_neg h1, if_neg h2] at h
  exact absurd h (by decide)
/-- what changes keep the shape -/
theorem nr_of {w w' : Nat → Int32} (h : w' 0 = w 0) : nr w' = nr w := by unfold nr; rw [h]
theorem cnt_of {w w' : Nat → Int32} {i : Nat} (h : w' (28 + 5 * i) = w (28 + 5 * i)) : cnt w' i = cnt w i := by unfold cnt; rw [h]
/-- a cell's entries are written anew: its count q and its entries are right -/
theorem WF.cell {w w' : Nat → Int32} (hW : WF w) {i q : Nat} (hi : i < 4 * nr w) (hlo : ∀ j, j < 28 → w' j = w j) (hoff : ∀ j, (j < 28 + 5 * i ∨ 28 + 5 * i + 5 ≤ j) → w' j = w j) (hq : w' (28 + 5 * i) = nI q) (h1 : 1 ≤ q) (h4 : q ≤ 4) (he : ∀ j, j < q → EntOk (i % 4) (w' (29 + 5 * i + j))) : WF w' := by
  have en : nr w' = nr w := nr_of (hlo 0 (by omega))
  have e1 : pgN w' = pgN w := by unfold pgN; rw [hlo 1 (by omega)]
  have e2 : stN w' = stN w := by unfold stN; rw [hlo 2 (by omega)]
  have e3 : wrN w' = wrN w := by unfold wrN; rw [hlo 3 (by omega)]
  refine ⟨⟨by rw [hlo 0 (by omega), en]; exact hW.r0, by rw [en]; exact hW.n48⟩, ⟨by rw [hlo 1 (by omega), e1]; exact hW.r1, by rw [e1]; exact hW.pg4, by rw [e1]; exact hW.pg12⟩, ⟨by rw [hlo 2 (by omega), e2]; exact hW.r2, by rw [e2]; exact hW.st1⟩, ⟨by rw [hlo 3 (by omega), e3]; exact hW.r3, by rw [e3]; exact hW.wr2, by rw [e3]; exact hW.wr6⟩, fun k hk => by rw [hlo (4 + k) (by omega)]; exact hW.sum hk, fun i' hi' => ?_⟩
  rw [en] at hi'
  by_cases hii : i' = i
  · subst hii
    have ec : cnt w' i' = q := by unfold cnt; rw [hq]; exact nI_clamp (by omega)
    rw [ec]
    exact ⟨⟨hq, h1, h4⟩, he⟩
  · have ec : cnt w' i' = cnt w i' := cnt_of (hoff _ (by omega))
    rw [ec]
    refine ⟨⟨by rw [hoff _ (by omega)]; exact hW.c hi', hW.c1 hi', hW.c4 hi'⟩, fun j hj => ?_⟩
    have := hW.c4 hi'
    rw [hoff _ (by omega)]
    exact hW.ent hi' hj
theorem WF.cor {w : Nat → Int32} (hW : WF w) {r k : Nat} {x : Int32} (hk : k < 4) (hr : r < nr w) (hx : EntOk k x) (hc : cnt w (4 * r + k) < 4) : WF (corW w r k x) := by
  have h1 := hW.c1 (i := 4 * r + k) (by omega)
  refine hW.cell (i := 4 * r + k) (q := cnt w (4 * r + k) + 1) (by omega) (fun j hj => ?_) (fun j hj => ?_) ?_ (by omega) (by omega) (fun j hj => ?_)
  · unfold corW; rw [upd_off (by omega), upd_off (by omega)]
  · unfold corW; rw [upd_off (by omega), upd_off (by omega)]
  · unfold corW; rw [upd_off (by omega), upd_at]
  · unfold corW
    by_cases hj2 : j = cnt w (4 * r + k)
    · subst hj2
      rw [show 29 + 5 * (4 * r + k) + cnt w (4 * r + k) = 28 + 5 * (4 * r + k) + (cnt w (4 * r + k) + 1) by omega, upd_at, show (4 * r + k) % 4 = k by omega]
      exact hx
    · rw [upd_off (by omega), upd_off (by omega)]
      exact hW.ent (by omega) (by omega)
theorem WF.tkb {w : Nat → Int32} (hW : WF w) {r k : Nat} (hk : k < 4) (hr : r < nr w) (hc : cnt w (4 * r + k) ≠ 1) : WF (tkbW w r k) := by
  have h1 := hW.c1 (i := 4 * r + k) (by omega)
  have h4 := hW.c4 (i := 4 * r + k) (by omega)
  refine hW.cell (i := 4 * r + k) (q := cnt w (4 * r + k) - 1) (by omega) (fun j hj => ?_) (fun j hj => ?_) ?_ (by omega) (by omega) (fun j hj => ?_)
  · unfold tkbW; rw [upd_off (by omega), upd_off (by omega)]
  · unfold tkbW; rw [upd_off (by omega), upd_off (by omega)]
  · unfold tkbW; rw [upd_at]
  · unfold tkbW
    rw [upd_off (by omega), upd_off (by omega)]
    exact hW.ent (by omega) (by omega)
theorem WF.wld {w : Nat → Int32} (hW : WF w) {r k : Nat} {x : Int32} (hk : k < 4) (hr : r < nr w) (hx : EntOk k x) : WF (wldW w r k x) := by
  have h1 := hW.c1 (i := 4 * r + k) (by omega)
  have h4 := hW.c4 (i := 4 * r + k) (by omega)
  refine hW.cell (i := 4 * r + k) (q := cnt w (4 * r + k)) (by omega) (fun j hj => ?_) (fun j hj => ?_) ?_ (by omega) (by omega) (fun j hj => ?_)
  · unfold wldW; rw [upd_off (by omega)]
  · unfold wldW; rw [upd_off (by omega)]
  · unfold wldW; rw [upd_off (by omega)]; exact hW.c (by omega)
  · unfold wldW
    by_cases hj2 : 29 + 5 * (4 * r + k) + j = 28 + 5 * (4 * r + k) + cnt w (4 * r + k)
    · rw [hj2, upd_at, show (4 * r + k) % 4 = k by omega]; exact hx
    · rw [upd_off hj2]
      exact hW.ent (by omega) hj
end
section
/-! the logbook: its methods that read -/
set_option maxHeartbeats 4000000 in
set_option maxRecDepth 100000 in
theorem c_X3_at (l : Launch) (g : XG) (a n k : Nat) (f : Nat → Int32) (hk : k < n) (hn : n < 2147483648) : Met l yX3_at (ww yX3_at cX3_at 2 (some .int)) (rmD 0) (xP g [.ref a, .int (nI k)] (fun H => va_P g.1 vwCl [(a, .inl (g.2.1 0, n, .inl f))] H)) (vp_Si (fun r9 => r9 = f k)) 0 0 (fun _ => False) := by
  refine xMet (by decide) rfl (Nat.le_of_ble_eq_true rfl) ?_
  intro p e s m below meth c ls hF hZ hh hret hlocks hin hl
  have hx := hF.1.1
  have hb := hF.1.2.1
  have hP := hh
  have hP : va_P g.1 vwCl [(a, .inl (g.2.1 0, n, .inl f))] s.heap := hP
  have hl : lv_has ls 2 [(0, .ref a), (1, .int (nI k))] := hl
  refine lv_iload_n hx hb dX3_at_0 rfl (lv_at hl 1 rfl) ?_
  refine xI_lt (tgt := 16) hx hb (by omega) dX3_at_1 (by decide) ?_
  refine lv_iload_n hx hb dX3_at_4 rfl (lv_at hl 1 rfl) ?_
  refine lv_aload_n hx hb dX3_at_5 rfl (lv_at hl 0 rfl) ?_
  refine xA_len hF hP 0 0 rfl rfl dX3_at_6 ?_
  refine xC_ge (tgt := 16) hx hb (by omega) (by omega) dX3_at_7 (by decide) (fun c_7 => absurd c_7 (by omega)) (fun c_7 => ?_)
  refine lv_aload_n hx hb dX3_at_10 rfl (lv_at hl 0 rfl) ?_
  refine lv_iload_n hx hb dX3_at_11 rfl (lv_at hl 1 rfl) ?_
  refine xA_ild hF hP 0 rfl (by omega) hn (v := (f (k))) rfl dX3_at_12 ?_
  refine lv_goto (tgt := 18) hx hb dX3_at_13 (by decide) ?_
  exact xret_i (V := (f (k))) hF hret hlocks (rfl) dX3_at_18
set_option maxHeartbeats 4000000 in
set_option maxRecDepth 100000 in
theorem c_X3_atZ0 (l : Launch) (g : XG) (k : Nat) (hk : k < 4) : Met l yX3_at (ww yX3_at cX3_at 2 (some .int)) (rmD 0) (xP g [.ref ((g.2.2 0)), .int (nI k)] (fun H => True)) (vp_Si (fun r9 => r9 = cmax k)) 0 0 (fun _ => False) := by
  refine xMet (by decide) rfl (Nat.le_of_ble_eq_true rfl) ?_
  intro p e s m below meth c ls hF hZ hh hret hlocks hin hl
  have hx := hF.1.1
  have hb := hF.1.2.1
  have hl : lv_has ls 2 [(0, .ref ((g.2.2 0))), (1, .int (nI k))] := hl
  have hSB : va_S (xB g) s.heap s.heap [] := va_S.rf
  refine lv_iload_n hx hb dX3_at_0 rfl (lv_at hl 1 rfl) ?_
  refine xI_lt (tgt := 16) hx hb (by omega) dX3_at_1 (by decide) ?_
  refine lv_iload_n hx hb dX3_at_4 rfl (lv_at hl 1 rfl) ?_
  refine lv_aload_n hx hb dX3_at_5 rfl (lv_at hl 0 rfl) ?_
  refine va_tlen hx hb hZ.1.2 hSB (v := nI 4) rfl dX3_at_6 ?_
  refine xC_ge (tgt := 16) hx hb (by omega) (by omega) dX3_at_7 (by decide) (fun c_7 => absurd c_7 (by omega)) (fun c_7 => ?_)
  refine lv_aload_n hx hb dX3_at_10 rfl (lv_at hl 0 rfl) ?_
  refine lv_iload_n hx hb dX3_at_11 rfl (lv_at hl 1 rfl) ?_
  refine va_ti hx hb hZ.1.2 hSB (vp_in_nI (by omega) (by decide)) (v := .int (cmax (k))) (by rw [nI_clamp (by omega)]) dX3_at_12 ?_
  refine lv_goto (tgt := 18) hx hb dX3_at_13 (by decide) ?_
  exact xret_i (V := (cmax (k))) hF hret hlocks (rfl) dX3_at_18
set_option maxHeartbeats 4000000 in
set_option maxRecDepth 100000 in
theorem c_X3_atZ1 (l : Launch) (g : XG) (k : Nat) (hk : k < 3) : Met l yX3_at (ww yX3_at cX3_at 2 (some .int)) (rmD 0) (xP g [.ref ((g.2.2 1)), .int (nI k)] (fun H => True)) (vp_Si (fun r9 => r9 = smin k)) 0 0 (fun _ => False) := by
  refine xMet (by decide) rfl (Nat.le_of_ble_eq_true rfl) ?_
  intro p e s m below meth c ls hF hZ hh hret hlocks hin hl
  have hx := hF.1.1
  have hb := hF.1.2.1
  have hl : lv_has ls 2 [(0, .ref ((g.2.2 1))), (1, .int (nI k))] := hl
  have hSB : va_S (xB g) s.heap s.heap [] := va_S.rf
  refine lv_iload_n hx hb dX3_at_0 rfl (lv_at hl 1 rfl) ?_
  refine xI_lt (tgt := 16) hx hb (by omega) dX3_at_1 (by decide) ?_
  refine lv_iload_n hx hb dX3_at_4 rfl (lv_at hl 1 rfl) ?_
  refine lv_aload_n hx hb dX3_at_5 rfl (lv_at hl 0 rfl) ?_
  refine va_tlen hx hb hZ.2.1.2 hSB (v := nI 3) rfl dX3_at_6 ?_
  refine xC_ge (tgt := 16) hx hb (by omega) (by omega) dX3_at_7 (by decide) (fun c_7 => absurd c_7 (by omega)) (fun c_7 => ?_)
  refine lv_aload_n hx hb dX3_at_10 rfl (lv_at hl 0 rfl) ?_
  refine lv_iload_n hx hb dX3_at_11 rfl (lv_at hl 1 rfl) ?_
  refine va_ti hx hb hZ.2.1.2 hSB (vp_in_nI (by omega) (by decide)) (v := .int (smin (k))) (by rw [nI_clamp (by omega)]) dX3_at_12 ?_
  refine lv_goto (tgt := 18) hx hb dX3_at_13 (by decide) ?_
  exact xret_i (V := (smin (k))) hF hret hlocks (rfl) dX3_at_18
set_option maxHeartbeats 4000000 in
set_option maxRecDepth 100000 in
theorem c_X3_atZ2 (l : Launch) (g : XG) (k : Nat) (hk : k < 3) : Met l yX3_at (ww yX3_at cX3_at 2 (some .int)) (rmD 0) (xP g [.ref ((g.2.2 2)), .int (nI k)] (fun H => True)) (vp_Si (fun r9 => r9 = smax k)) 0 0 (fun _ => False) := by
  refine xMet (by decide) rfl (Nat.le_of_ble_eq_true rfl) ?_
  intro p e s m below meth c ls hF hZ hh hret hlocks hin hl
  have hx := hF.1.1
  have hb := hF.1.2.1
  have hl : lv_has ls 2 [(0, .ref ((g.2.2 2))), (1, .int (nI k))] := hl
  have hSB : va_S (xB g) s.heap s.heap [] := va_S.rf
  refine lv_iload_n hx hb dX3_at_0 rfl (lv_at hl 1 rfl) ?_
  refine xI_lt (tgt := 16) hx hb (by omega) dX3_at_1 (by decide) ?_
  refine lv_iload_n hx hb dX3_at_4 rfl (lv_at hl 1 rfl) ?_
  refine lv_aload_n hx hb dX3_at_5 rfl (lv_at hl 0 rfl) ?_
  refine va_tlen hx hb hZ.2.2.2 hSB (v := nI 3) rfl dX3_at_6 ?_
  refine xC_ge (tgt := 16) hx hb (by omega) (by omega) dX3_at_7 (by decide) (fun c_7 => absurd c_7 (by omega)) (fun c_7 => ?_)
  refine lv_aload_n hx hb dX3_at_10 rfl (lv_at hl 0 rfl) ?_
  refine lv_iload_n hx hb dX3_at_11 rfl (lv_at hl 1 rfl) ?_
  refine va_ti hx hb hZ.2.2.2 hSB (vp_in_nI (by omega) (by decide)) (v := .int (smax (k))) (by rw [nI_clamp (by omega)]) dX3_at_12 ?_
  refine lv_goto (tgt := 18) hx hb dX3_at_13 (by decide) ?_
  exact xret_i (V := (smax (k))) hF hret hlocks (rfl) dX3_at_18
set_option maxHeartbeats 4000000 in
set_option maxRecDepth 100000 in
theorem c_X3_isColumn (l : Launch) (g : XG) (x : Int32) : Met l yX3_isColumn (ww yX3_isColumn cX3_isColumn 1 (some .boolean)) (rmD 0) (xP g [.int (x)] (fun H => True)) (vp_Si (fun r9 => r9 = xz (colB x))) 0 0 (fun _ => False) := by
  refine xMet (by decide) rfl (Nat.le_of_ble_eq_true rfl) ?_
  intro p e s m below meth c ls hF hZ hh hret hlocks hin hl
  have hx := hF.1.1
  have hb := hF.1.2.1
  have hl : lv_has ls 1 [(0, .int (x))] := hl
  refine lv_iload_n hx hb dX3_isColumn_0 rfl (lv_at hl 0 rfl) ?_
  refine lv_if_lt (tgt := 13) hx hb dX3_isColumn_1 (by decide) (fun c_1 => ?_) (fun c_1 => ?_)
  · refine xN_const hx hb 0 dX3_isColumn_13 (by decide) ?_
    exact xret_t (V := nI (0)) hF hret hlocks rfl (xz_f (colB_f1 c_1)) dX3_isColumn_14
  · refine lv_iload_n hx hb dX3_isColumn_4 rfl (lv_at hl 0 rfl) ?_
    refine xN_const hx hb 4 dX3_isColumn_5 (by decide) ?_
    refine lv_icmp_ge (tgt := 13) hx hb dX3_isColumn_6 (by decide) (fun c_6 => ?_) (fun c_6 => ?_)
    · refine xN_const hx hb 0 dX3_isColumn_13 (by decide) ?_
      exact xret_t (V := nI (0)) hF hret hlocks rfl (xz_f (colB_f2 c_6)) dX3_isColumn_14
    · refine xN_const hx hb 1 dX3_isColumn_9 (by decide) ?_
      refine lv_goto (tgt := 14) hx hb dX3_isColumn_10 (by decide) ?_
      exact xret_t (V := nI (1)) hF hret hlocks rfl (xz_t (colB_t c_1 c_6)) dX3_isColumn_14
set_option maxHeartbeats 4000000 in
set_option maxRecDepth 100000 in
theorem c_X3_isEntry (l : Launch) (g : XG) (k : Nat) (x : Int32) (hk : k < 4) : Met l yX3_isEntry (ww yX3_isEntry cX3_isEntry 2 (some .boolean)) (rmD 1) (xP g [.int (nI k), .int (x)] (fun H => True)) (vp_Si (fun r9 => r9 = xz (entB k x))) 0 0 (fun _ => False) := by
  refine xMet (by decide) rfl (Nat.le_of_ble_eq_true rfl) ?_
  intro p e s m below meth c ls hF hZ hh hret hlocks hin hl
  have hx := hF.1.1
  have hb := hF.1.2.1
  have hl : lv_has ls 2 [(0, .int (nI k)), (1, .int (x))] := hl
  have hSB : va_S (xB g) s.heap s.heap [] := va_S.rf
  refine lv_iload_n hx hb dX3_isEntry_0 rfl (lv_at hl 1 rfl) ?_
  refine lv_bipush hx hb (v := (-5)) dX3_isEntry_1 (by decide) ?_
  refine lv_icmp_eq (tgt := 27) hx hb dX3_isEntry_3 (by decide) (fun c_3 => ?_) (fun c_3 => ?_)
  · refine xN_const hx hb 1 dX3_isEntry_27 (by decide) ?_
    refine lv_goto (tgt := 32) hx hb dX3_isEntry_28 (by decide) ?_
    exact xret_t (V := nI (1)) hF hret hlocks rfl (xz_t (entB_t1 c_3)) dX3_isEntry_32
  · refine lv_iload_n hx hb dX3_isEntry_6 rfl (lv_at hl 1 rfl) ?_
    refine lv_bipush hx hb (v := (-6)) dX3_isEntry_7 (by decide) ?_
    refine lv_icmp_eq (tgt := 27) hx hb dX3_isEntry_9 (by decide) (fun c_9 => ?_) (fun c_9 => ?_)
    · refine xN_const hx hb 1 dX3_isEntry_27 (by decide) ?_
      refine lv_goto (tgt := 32) hx hb dX3_isEntry_28 (by decide) ?_
      exact xret_t (V := nI (1)) hF hret hlocks rfl (xz_t (entB_t2 c_9)) dX3_isEntry_32
    · refine lv_iload_n hx hb dX3_isEntry_12 rfl (lv_at hl 1 rfl) ?_
      refine lv_if_lt (tgt := 31) hx hb dX3_isEntry_13 (by decide) (fun c_13 => ?_) (fun c_13 => ?_)
      · refine xN_const hx hb 0 dX3_isEntry_31 (by decide) ?_
        exact xret_t (V := nI (0)) hF hret hlocks rfl (xz_f (entB_f1 c_3 c_9 c_13)) dX3_isEntry_32
      · refine lv_iload_n hx hb dX3_isEntry_16 rfl (lv_at hl 1 rfl) ?_
        refine va_gets hx hb (hZ.1.1) hSB hF.1.2.2.2.1 (hF.1.2.2.2.2 _ q_74) (fun _ h => h) dX3_isEntry_17 ?_
        refine lv_iload_n hx hb dX3_isEntry_20 rfl (lv_at hl 0 rfl) ?_
        refine vp_callSi (va_Run.run (xrS hF (c_X3_atZ0 l g k (by omega)) cal_X3_at q_75 ⟨by decide, by decide⟩ rfl rfl rfl hZ (trivial) hl.1 rfl (Nat.le_of_ble_eq_true rfl) dX3_isEntry_21 ⟨Nat.le_refl _, Nat.le_refl _⟩)) (fun r_ h_ => ?_)
        subst h_
        refine lv_icmp_gt (tgt := 31) hx hb dX3_isEntry_24 (by decide) (fun c_24 => ?_) (fun c_24 => ?_)
        · refine xN_const hx hb 0 dX3_isEntry_31 (by decide) ?_
          exact xret_t (V := nI (0)) hF hret hlocks rfl (xz_f (entB_f2 c_3 c_9 c_24)) dX3_isEntry_32
        · refine xN_const hx hb 1 dX3_isEntry_27 (by decide) ?_
          refine lv_goto (tgt := 32) hx hb dX3_isEntry_28 (by decide) ?_
          exact xret_t (V := nI (1)) hF hret hlocks rfl (xz_t (entB_t3 c_13 c_24)) dX3_isEntry_32
set_option maxHeartbeats 4000000 in
set_option maxRecDepth 100000 in
theorem c_X1_isRow (l : Launch) (g : XG) (ao ae ac au : Nat) (fe fc fs w : Nat → Int32) (hW : WF w) (hR : LR fe fc fs w) (x : Int32) : Met l yX1_isRow (ww yX1_isRow cX1_isRow 2 (some .boolean)) (rmD 0) (xP g [.ref ao, .int (x)] (fun H => va_P g.1 vwCl (LogC g ao ae ac au fe fc fs w) H)) (vp_Si (fun r9 => r9 = xz (rowB w x))) 0 0 (fun _ => False) := by
  refine xMet (by decide) rfl (Nat.le_of_ble_eq_true rfl) ?_
  intro p e s m below meth c ls hF hZ hh hret hlocks hin hl
  have hx := hF.1.1
  have hb := hF.1.2.1
  have hP := hh
  have hP : va_P g.1 vwCl (LogC g ao ae ac au fe fc fs w) s.heap := hP
  have hl : lv_has ls 2 [(0, .ref ao), (1, .int (x))] := hl
  have h48 := hW.n48
  have hp4 := hW.pg4
  have hp12 := hW.pg12
  have hs1 := hW.st1
  have hw2 := hW.wr2
  have hw6 := hW.wr6
  refine lv_iload_n hx hb dX1_isRow_0 rfl (lv_at hl 1 rfl) ?_
  refine lv_if_lt (tgt := 16) hx hb dX1_isRow_1 (by decide) (fun c_1 => ?_) (fun c_1 => ?_)
  · refine xN_const hx hb 0 dX1_isRow_16 (by decide) ?_
    exact xret_t (V := nI (0)) hF hret hlocks rfl (xz_f (rowB_f1 c_1)) dX1_isRow_17
  · refine lv_iload_n hx hb dX1_isRow_4 rfl (lv_at hl 1 rfl) ?_
    refine lv_aload_n hx hb dX1_isRow_5 rfl (lv_at hl 0 rfl) ?_
    refine gf_X1_X1_rows hF hP 0 rfl rfl dX1_isRow_6 ?_
    refine lv_icmp_ge (tgt := 16) hx hb dX1_isRow_9 (by decide) (fun c_9 => ?_) (fun c_9 => ?_)
    · refine xN_const hx hb 0 dX1_isRow_16 (by decide) ?_
      exact xret_t (V := nI (0)) hF hret hlocks rfl (xz_f (rowB_f2 c_9)) dX1_isRow_17
    · refine xN_const hx hb 1 dX1_isRow_12 (by decide) ?_
      refine lv_goto (tgt := 17) hx hb dX1_isRow_13 (by decide) ?_
      exact xret_t (V := nI (1)) hF hret hlocks rfl (xz_t (rowB_t c_1 c_9)) dX1_isRow_17
set_option maxHeartbeats 4000000 in
set_option maxRecDepth 100000 in
theorem c_X1_areRows (l : Launch) (g : XG) (ao ae ac au : Nat) (fe fc fs w : Nat → Int32) (hW : WF w) (hR : LR fe fc fs w) (x y : Int32) : Met l yX1_areRows (ww yX1_areRows cX1_areRows 3 (some .boolean)) (rmD 1) (xP g [.ref ao, .int (x), .int (y)] (fun H => va_P g.1 vwCl (LogC g ao ae ac au fe fc fs w) H)) (vp_Si (fun r9 => r9 = xz (rowB w x && (rowB w y && decide (x ≤ y))))) 0 0 (fun _ => False) := by
  refine xMet (by decide) rfl (Nat.le_of_ble_eq_true rfl) ?_
  intro p e s m below meth c ls hF hZ hh hret hlocks hin hl
  have hx := hF.1.1
  have hb := hF.1.2.1
  have hP := hh
  have hP : va_P g.1 vwCl (LogC g ao ae ac au fe fc fs w) s.heap := hP
  have hl : lv_has ls 3 [(0, .ref ao), (1, .int (x)), (2, .int (y))] := hl
  have h48 := hW.n48
  have hp4 := hW.pg4
  have hp12 := hW.pg12
  have hs1 := hW.st1
  have hw2 := hW.wr2
  have hw6 := hW.wr6
  refine lv_aload_n hx hb dX1_areRows_0 rfl (lv_at hl 0 rfl) ?_
  refine lv_iload_n hx hb dX1_areRows_1 rfl (lv_at hl 1 rfl) ?_
  refine vp_callSi (va_Run.run (xrV hF (c_X1_isRow l g ao ae ac au fe fc fs w hW hR ((x)) ) cal_X1_isRow q_219 ⟨by decide, by decide⟩ rfl rfl rfl (va_recv hF.2.1 hP (ci := 1) (q0 := 0) rfl rfl) hZ (hP) hl.1 rfl (Nat.le_of_ble_eq_true rfl) dX1_areRows_2 ⟨Nat.le_refl _, Nat.le_refl _⟩)) (fun r_ h_ => ?_)
  subst h_
  refine xZ_eq (tgt := 25) hx hb dX1_areRows_5 (by decide) (fun c_5 => ?_) (fun c_5 => ?_)
  · refine xN_const hx hb 0 dX1_areRows_25 (by decide) ?_
    exact xret_t (V := nI (0)) hF hret hlocks rfl (by rw [c_5]; rfl) dX1_areRows_26
  · refine lv_aload_n hx hb dX1_areRows_8 rfl (lv_at hl 0 rfl) ?_
    refine lv_iload_n hx hb dX1_areRows_9 rfl (lv_at hl 2 rfl) ?_
    refine vp_callSi (va_Run.run (xrV hF (c_X1_isRow l g ao ae ac au fe fc fs w hW hR ((y)) ) cal_X1_isRow q_219 ⟨by decide, by decide⟩ rfl rfl rfl (va_recv hF.2.1 hP (ci := 1) (q0 := 0) rfl rfl) hZ (hP) hl.1 rfl (Nat.le_of_ble_eq_true rfl) dX1_areRows_10 ⟨Nat.le_refl _, Nat.le_refl _⟩)) (fun r_ h_ => ?_)
    subst h_
    refine xZ_eq (tgt := 25) hx hb dX1_areRows_13 (by decide) (fun c_13 => ?_) (fun c_13 => ?_)
    · refine xN_const hx hb 0 dX1_areRows_25 (by decide) ?_
      exact xret_t (V := nI (0)) hF hret hlocks rfl (by rw [c_5, c_13]; rfl) dX1_areRows_26
    · refine lv_iload_n hx hb dX1_areRows_16 rfl (lv_at hl 1 rfl) ?_
      refine lv_iload_n hx hb dX1_areRows_17 rfl (lv_at hl 2 rfl) ?_
      refine lv_icmp_gt (tgt := 25) hx hb dX1_areRows_18 (by decide) (fun c_18 => ?_) (fun c_18 => ?_)
      · refine xN_const hx hb 0 dX1_areRows_25 (by decide) ?_
        exact xret_t (V := nI (0)) hF hret hlocks rfl (by rw [c_5, c_13, decide_eq_false (Int32.not_le.mpr c_18)]; rfl) dX1_areRows_26
      · refine xN_const hx hb 1 dX1_areRows_21 (by decide) ?_
        refine lv_goto (tgt := 26) hx hb dX1_areRows_22 (by decide) ?_
        exact xret_t (V := nI (1)) hF hret hlocks rfl (by rw [c_5, c_13, decide_eq_true (Int32.not_lt.mp c_18)]; rfl) dX1_areRows_26
set_option maxHeartbeats 4000000 in
set_option maxRecDepth 100000 in
theorem c_X1_isCell (l : Launch) (g : XG) (ao ae ac au : Nat) (fe fc fs w : Nat → Int32) (hW : WF w) (hR : LR fe fc fs w) (x y : Int32) : Met l yX1_isCell (ww yX1_isCell cX1_isCell 3 (some .boolean)) (rmD 1) (xP g [.ref ao, .int (x), .int (y)] (fun H => va_P g.1 vwCl (LogC g ao ae ac au fe fc fs w) H)) (vp_Si (fun r9 => r9 = xz (rowB w x && colB y))) 0 0 (fun _ => False) := by
  refine xMet (by decide) rfl (Nat.le_of_ble_eq_true rfl) ?_
  intro p e s m below meth c ls hF hZ hh hret hlocks hin hl
  have hx := hF.1.1
  have hb := hF.1.2.1
  have hP := hh
  have hP : va_P g.1 vwCl (LogC g ao ae ac au fe fc fs w) s.heap := hP
  have hl : lv_has ls 3 [(0, .ref ao), (1, .int (x)), (2, .int (y))] := hl
  have h48 := hW.n48
  have hp4 := hW.pg4
  have hp12 := hW.pg12
  have hs1 := hW.st1
  have hw2 := hW.wr2
  have hw6 := hW.wr6
  refine lv_aload_n hx hb dX1_isCell_0 rfl (lv_at hl 0 rfl) ?_
  refine lv_iload_n hx hb dX1_isCell_1 rfl (lv_at hl 1 rfl) ?_
  refine vp_callSi (va_Run.run (xrV hF (c_X1_isRow l g ao ae ac au fe fc fs w hW hR ((x)) ) cal_X1_isRow q_219 ⟨by decide, by decide⟩ rfl rfl rfl (va_recv hF.2.1 hP (ci := 1) (q0 := 0) rfl rfl) hZ (hP) hl.1 rfl (Nat.le_of_ble_eq_true rfl) dX1_isCell_2 ⟨Nat.le_refl _, Nat.le_refl _⟩)) (fun r_ h_ => ?_)
  subst h_
  refine xZ_eq (tgt := 19) hx hb dX1_isCell_5 (by decide) (fun c_5 => ?_) (fun c_5 => ?_)
  · refine xN_const hx hb 0 dX1_isCell_19 (by decide) ?_
    exact xret_t (V := nI (0)) hF hret hlocks rfl (by rw [c_5]; rfl) dX1_isCell_20
  · refine lv_iload_n hx hb dX1_isCell_8 rfl (lv_at hl 2 rfl) ?_
    refine vp_callSi (va_Run.run (xrSN hF (c_X3_isColumn l g ((y))) cal_X3_isColumn n_18 ⟨by decide, by decide⟩ rfl rfl rfl hZ (trivial) hl.1 rfl (Nat.le_of_ble_eq_true rfl) dX1_isCell_9 ⟨Nat.le_refl _, Nat.le_refl _⟩)) (fun r_ h_ => ?_)
    subst h_
    refine xZ_eq (tgt := 19) hx hb dX1_isCell_12 (by decide) (fun c_12 => ?_) (fun c_12 => ?_)
    · refine xN_const hx hb 0 dX1_isCell_19 (by decide) ?_
      exact xret_t (V := nI (0)) hF hret hlocks rfl (by rw [c_5, c_12]; rfl) dX1_isCell_20
    · refine xN_const hx hb 1 dX1_isCell_15 (by decide) ?_
      refine lv_goto (tgt := 20) hx hb dX1_isCell_16 (by decide) ?_
      exact xret_t (V := nI (1)) hF hret hlocks rfl (by rw [c_5, c_12]; rfl) dX1_isCell_20
set_option maxHeartbeats 4000000 in
set_option maxRecDepth 100000 in
theorem c_X1_sumOf (l : Launch) (g : XG) (ao ae ac au : Nat) (fe fc fs w : Nat → Int32) (hW : WF w) (hR : LR fe fc fs w) (k : Nat) (hk : k < 24) : Met l yX1_sumOf (ww yX1_sumOf cX1_sumOf 2 (some .int)) (rmD 1) (xP g [.ref ao, .int (nI k)] (fun H => va_P g.1 vwCl (LogC g ao ae ac au fe fc fs w) H)) (vp_Si (fun r9 => r9 = w (4 + k))) 0 0 (fun _ => False) := by
  refine xMet (by decide) rfl (Nat.le_of_ble_eq_true rfl) ?_
  intro p e s m below meth c ls hF hZ hh hret hlocks hin hl
  have hx := hF.1.1
  have hb := hF.1.2.1
  have hP := hh
  have hP : va_P g.1 vwCl (LogC g ao ae ac au fe fc fs w) s.heap := hP
  have hl : lv_has ls 2 [(0, .ref ao), (1, .int (nI k))] := hl
  have h48 := hW.n48
  have hp4 := hW.pg4
  have hp12 := hW.pg12
  have hs1 := hW.st1
  have hw2 := hW.wr2
  have hw6 := hW.wr6
  refine lv_aload_n hx hb dX1_sumOf_0 rfl (lv_at hl 0 rfl) ?_
  refine gf_X1_X1_sums hF hP 0 rfl rfl dX1_sumOf_1 ?_
  refine lv_iload_n hx hb dX1_sumOf_4 rfl (lv_at hl 1 rfl) ?_
  refine vp_callSi (va_Run.run (xrSN hF (c_X3_at l g au 24 k fs (by omega) (by decide)) cal_X3_at n_20 ⟨by decide, by decide⟩ rfl rfl rfl hZ (hP.sub [3] rfl) hl.1 rfl (Nat.le_of_ble_eq_true rfl) dX1_sumOf_5 ⟨Nat.le_refl _, Nat.le_refl _⟩)) (fun r_ h_ => ?_)
  subst h_
  exact xret_i (V := (fs (k))) hF hret hlocks (hR.1 k hk) dX1_sumOf_8
set_option maxHeartbeats 4000000 in
set_option maxRecDepth 100000 in
theorem c_X1_entriesOf (l : Launch) (g : XG) (ao ae ac au : Nat) (fe fc fs w : Nat → Int32) (hW : WF w) (hR : LR fe fc fs w) (r k : Nat) (hr : r < nr w) (hk : k < 4) : Met l yX1_entriesOf (ww yX1_entriesOf cX1_entriesOf 3 (some .int)) (rmD 1) (xP g [.ref ao, .int (nI r), .int (nI k)] (fun H => va_P g.1 vwCl (LogC g ao ae ac au fe fc fs w) H)) (vp_Si (fun r9 => r9 = nI (cnt w (4 * r + k)))) 0 0 (fun _ => False) := by
  refine xMet (by decide) rfl (Nat.le_of_ble_eq_true rfl) ?_
  intro p e s m below meth c ls hF hZ hh hret hlocks hin hl
  have hx := hF.1.1
  have hb := hF.1.2.1
  have hP := hh
  have hP : va_P g.1 vwCl (LogC g ao ae ac au fe fc fs w) s.heap := hP
  have hl : lv_has ls 3 [(0, .ref ao), (1, .int (nI r)), (2, .int (nI k))] := hl
  have h48 := hW.n48
  have hp4 := hW.pg4
  have hp12 := hW.pg12
  have hs1 := hW.st1
  have hw2 := hW.wr2
  have hw6 := hW.wr6
  refine lv_aload_n hx hb dX1_entriesOf_0 rfl (lv_at hl 0 rfl) ?_
  refine gf_X1_X1_entryCounts hF hP 0 rfl rfl dX1_entriesOf_1 ?_
  refine lv_iload_n hx hb dX1_entriesOf_4 rfl (lv_at hl 1 rfl) ?_
  refine xN_const hx hb 4 dX1_entriesOf_5 (by decide) ?_
  refine xN_mul hx hb dX1_entriesOf_6 ?_
  refine lv_iload_n hx hb dX1_entriesOf_7 rfl (lv_at hl 2 rfl) ?_
  refine xN_add hx hb dX1_entriesOf_8 ?_
  refine vp_callSi (va_Run.run (xrSN hF (c_X3_at l g ac 192 (r * 4 + k) fc (by omega) (by decide)) cal_X3_at n_20 ⟨by decide, by decide⟩ rfl rfl rfl hZ (hP.sub [2] rfl) hl.1 rfl (Nat.le_of_ble_eq_true rfl) dX1_entriesOf_9 ⟨Nat.le_refl _, Nat.le_refl _⟩)) (fun r_ h_ => ?_)
  subst h_
  exact xret_i (V := (fc (r * 4 + k))) hF hret hlocks (by rw [show r * 4 + k = 4 * r + k by omega]; exact hR.c hW (by omega)) dX1_entriesOf_12
set_option maxHeartbeats 4000000 in
set_option maxRecDepth 100000 in
theorem c_X1_entryOf (l : Launch) (g : XG) (ao ae ac au : Nat) (fe fc fs w : Nat → Int32) (hW : WF w) (hR : LR fe fc fs w) (r k : Nat) (hr : r < nr w) (hk : k < 4) (j : Nat) (hj : j < cnt w (4 * r + k)) : Met l yX1_entryOf (ww yX1_entryOf cX1_entryOf 4 (some .int)) (rmD 1) (xP g [.ref ao, .int (nI r), .int (nI k), .int (nI j)] (fun H => va_P g.1 vwCl (LogC g ao ae ac au fe fc fs w) H)) (vp_Si (fun r9 => r9 = w (29 + 5 * (4 * r + k) + j))) 0 0 (fun _ => False) := by
  refine xMet (by decide) rfl (Nat.le_of_ble_eq_true rfl) ?_
  intro p e s m below meth c ls hF hZ hh hret hlocks hin hl
  have hx := hF.1.1
  have hb := hF.1.2.1
  have hP := hh
  have hP : va_P g.1 vwCl (LogC g ao ae ac au fe fc fs w) s.heap := hP
  have hl : lv_has ls 4 [(0, .ref ao), (1, .int (nI r)), (2, .int (nI k)), (3, .int (nI j))] := hl
  have h48 := hW.n48
  have hp4 := hW.pg4
  have hp12 := hW.pg12
  have hs1 := hW.st1
  have hw2 := hW.wr2
  have hw6 := hW.wr6
  have hc4 := hW.c4 (i := 4 * r + k) (by omega)
  refine lv_aload_n hx hb dX1_entryOf_0 rfl (lv_at hl 0 rfl) ?_
  refine gf_X1_X1_entries hF hP 0 rfl rfl dX1_entryOf_1 ?_
  refine lv_iload_n hx hb dX1_entryOf_4 rfl (lv_at hl 1 rfl) ?_
  refine xN_const hx hb 4 dX1_entryOf_5 (by decide) ?_
  refine xN_mul hx hb dX1_entryOf_6 ?_
  refine lv_iload_n hx hb dX1_entryOf_7 rfl (lv_at hl 2 rfl) ?_
  refine xN_add hx hb dX1_entryOf_8 ?_
  refine xN_const hx hb 4 dX1_entryOf_9 (by decide) ?_
  refine xN_mul hx hb dX1_entryOf_10 ?_
  refine lv_iload_n hx hb dX1_entryOf_11 rfl (lv_at hl 3 rfl) ?_
  refine xN_add hx hb dX1_entryOf_12 ?_
  refine vp_callSi (va_Run.run (xrSN hF (c_X3_at l g ae 768 ((r * 4 + k) * 4 + j) fe (by omega) (by decide)) cal_X3_at n_20 ⟨by decide, by decide⟩ rfl rfl rfl hZ (hP.sub [1] rfl) hl.1 rfl (Nat.le_of_ble_eq_true rfl) dX1_entryOf_13 ⟨Nat.le_refl _, Nat.le_refl _⟩)) (fun r_ h_ => ?_)
  subst h_
  exact xret_i (V := (fe ((r * 4 + k) * 4 + j))) hF hret hlocks (by rw [show (r * 4 + k) * 4 + j = 4 * (4 * r + k) + j by omega]; exact hR.e (by omega) hj) dX1_entryOf_16
set_option maxHeartbeats 4000000 in
set_option maxRecDepth 100000 in
theorem c_X1_latestOf (l : Launch) (g : XG) (ao ae ac au : Nat) (fe fc fs w : Nat → Int32) (hW : WF w) (hR : LR fe fc fs w) (r k : Nat) (hr : r < nr w) (hk : k < 4) : Met l yX1_latestOf (ww yX1_latestOf cX1_latestOf 5 (some .int)) (rmD 0) (xP g [.ref ao, .int (nI r), .int (nI k)] (fun H => va_P g.1 vwCl (LogC g ao ae ac au fe fc fs w) H)) (vp_Si (fun r9 => r9 = lat w r k)) 0 0 (fun _ => False) := by
  refine xMet (by decide) rfl (Nat.le_of_ble_eq_true rfl) ?_
  intro p e s m below meth c ls hF hZ hh hret hlocks hin hl
  have hx := hF.1.1
  have hb := hF.1.2.1
  have hP := hh
  have hP : va_P g.1 vwCl (LogC g ao ae ac au fe fc fs w) s.heap := hP
  have hl : lv_has ls 5 [(0, .ref ao), (1, .int (nI r)), (2, .int (nI k))] := hl
  have h48 := hW.n48
  have hp4 := hW.pg4
  have hp12 := hW.pg12
  have hs1 := hW.st1
  have hw2 := hW.wr2
  have hw6 := hW.wr6
  have hc1 := hW.c1 (i := 4 * r + k) (by omega)
  have hc4 := hW.c4 (i := 4 * r + k) (by omega)
  refine lv_iload_n hx hb dX1_latestOf_0 rfl (lv_at hl 1 rfl) ?_
  refine xN_const hx hb 4 dX1_latestOf_1 (by decide) ?_
  refine xN_mul hx hb dX1_latestOf_2 ?_
  refine lv_iload_n hx hb dX1_latestOf_3 rfl (lv_at hl 2 rfl) ?_
  refine xN_add hx hb dX1_latestOf_4 ?_
  refine lv_istore_n (lv' := [(3, .int (nI (r * 4 + k))), (0, .ref ao), (1, .int (nI r)), (2, .int (nI k))]) hx hb dX1_latestOf_5 rfl hl (by decide) rfl (fun ls hl => ?_)
  refine lv_iload_n hx hb dX1_latestOf_6 rfl (lv_at hl 0 rfl) ?_
  refine xI_lt (tgt := 19) hx hb (by omega) dX1_latestOf_7 (by decide) ?_
  refine lv_iload_n hx hb dX1_latestOf_10 rfl (lv_at hl 0 rfl) ?_
  refine lv_aload_n hx hb dX1_latestOf_11 rfl (lv_at hl 1 rfl) ?_
  refine gf_X1_X1_entryCounts hF hP 0 rfl rfl dX1_latestOf_12 ?_
  refine xA_len hF hP 2 0 rfl rfl dX1_latestOf_15 ?_
  refine xC_lt (tgt := 22) hx hb (by omega) (by omega) dX1_latestOf_16 (by decide) (fun c_16 => ?_) (fun c_16 => absurd c_16 (by omega))
  refine lv_iload_n hx hb dX1_latestOf_22 rfl (lv_at hl 0 rfl) ?_
  refine xN_const hx hb 4 dX1_latestOf_23 (by decide) ?_
  refine xN_mul hx hb dX1_latestOf_24 ?_
  refine lv_aload_n hx hb dX1_latestOf_25 rfl (lv_at hl 1 rfl) ?_
  refine gf_X1_X1_entryCounts hF hP 0 rfl rfl dX1_latestOf_26 ?_
  refine lv_iload_n hx hb dX1_latestOf_29 rfl (lv_at hl 0 rfl) ?_
  refine xA_ild hF hP 2 rfl (by omega) (by decide) (v := nI (cnt w (4 * r + k))) (by rw [show r * 4 + k = 4 * r + k by omega]; exact hR.c hW (by omega)) dX1_latestOf_30 ?_
  refine xN_add hx hb dX1_latestOf_31 ?_
  refine xN_const hx hb 1 dX1_latestOf_32 (by decide) ?_
  refine xN_sub hx hb (by omega) dX1_latestOf_33 ?_
  refine lv_istore (lv' := [(4, .int (nI (((r * 4 + k) * 4 + (cnt w (4 * r + k))) - 1))), (3, .int (nI (r * 4 + k))), (0, .ref ao), (1, .int (nI r)), (2, .int (nI k))]) hx hb dX1_latestOf_34 hl (by decide) rfl (fun ls hl => ?_)
  refine lv_iload hx hb dX1_latestOf_36 (lv_at hl 0 rfl) ?_
  refine xI_lt (tgt := 61) hx hb (by omega) dX1_latestOf_38 (by decide) ?_
  refine lv_iload hx hb dX1_latestOf_41 (lv_at hl 0 rfl) ?_
  refine lv_aload_n hx hb dX1_latestOf_43 rfl (lv_at hl 2 rfl) ?_
  refine gf_X1_X1_entries hF hP 0 rfl rfl dX1_latestOf_44 ?_
  refine xA_len hF hP 1 0 rfl rfl dX1_latestOf_47 ?_
  refine xC_ge (tgt := 61) hx hb (by omega) (by omega) dX1_latestOf_48 (by decide) (fun c_48 => absurd c_48 (by omega)) (fun c_48 => ?_)
  refine lv_aload_n hx hb dX1_latestOf_51 rfl (lv_at hl 2 rfl) ?_
  refine gf_X1_X1_entries hF hP 0 rfl rfl dX1_latestOf_52 ?_
  refine lv_iload hx hb dX1_latestOf_55 (lv_at hl 0 rfl) ?_
  refine xA_ild hF hP 1 rfl (by omega) (by decide) (v := (lat w r k)) (hR.la hW (by omega)) dX1_latestOf_57 ?_
  refine lv_goto (tgt := 63) hx hb dX1_latestOf_58 (by decide) ?_
  exact xret_i (V := (lat w r k)) hF hret hlocks (rfl) dX1_latestOf_63
set_option maxHeartbeats 4000000 in
set_option maxRecDepth 100000 in
theorem c_X1_hasAbove (l : Launch) (g : XG) (ao ae ac au : Nat) (fe fc fs w : Nat → Int32) (hW : WF w) (hR : LR fe fc fs w) (r : Nat) (hr : r < nr w) : Met l yX1_hasAbove (ww yX1_hasAbove cX1_hasAbove 2 (some .boolean)) (rmD 0) (xP g [.ref ao, .int (nI r)] (fun H => va_P g.1 vwCl (LogC g ao ae ac au fe fc fs w) H)) (vp_Si (fun r9 => r9 = xz (abvB w r))) 0 0 (fun _ => False) := by
  refine xMet (by decide) rfl (Nat.le_of_ble_eq_true rfl) ?_
  intro p e s m below meth c ls hF hZ hh hret hlocks hin hl
  have hx := hF.1.1
  have hb := hF.1.2.1
  have hP := hh
  have hP : va_P g.1 vwCl (LogC g ao ae ac au fe fc fs w) s.heap := hP
  have hl : lv_has ls 2 [(0, .ref ao), (1, .int (nI r))] := hl
  have h48 := hW.n48
  have hp4 := hW.pg4
  have hp12 := hW.pg12
  have hs1 := hW.st1
  have hw2 := hW.wr2
  have hw6 := hW.wr6
  have hm := Nat.mod_lt r (show 0 < pgN w by omega)
  refine lv_iload_n hx hb dX1_hasAbove_0 rfl (lv_at hl 1 rfl) ?_
  refine xI_le (tgt := 31) hx hb (by omega) dX1_hasAbove_1 (by decide) (fun c_1 => ?_) (fun c_1 => ?_)
  · refine xN_const hx hb 0 dX1_hasAbove_31 (by decide) ?_
    exact xret_t (V := nI (0)) hF hret hlocks rfl (by rw [c_1]; rfl) dX1_hasAbove_32
  · refine lv_aload_n hx hb dX1_hasAbove_4 rfl (lv_at hl 0 rfl) ?_
    refine gf_X1_X1_stopsAtPages hF hP 0 rfl rfl dX1_hasAbove_5 ?_
    refine xI_eq (tgt := 27) hx hb (by omega) dX1_hasAbove_8 (by decide) (fun c_8 => ?_) (fun c_8 => ?_)
    · refine xN_const hx hb 1 dX1_hasAbove_27 (by decide) ?_
      refine lv_goto (tgt := 32) hx hb dX1_hasAbove_28 (by decide) ?_
      exact xret_t (V := nI (1)) hF hret hlocks rfl (xz_t (by unfold abvB; rw [c_8]; simp; omega)) dX1_hasAbove_32
    · refine lv_aload_n hx hb dX1_hasAbove_11 rfl (lv_at hl 0 rfl) ?_
      refine gf_X1_X1_pageRows hF hP 0 rfl rfl dX1_hasAbove_12 ?_
      refine xI_le (tgt := 27) hx hb (by omega) dX1_hasAbove_15 (by decide) (fun c_15 => absurd c_15 (by omega)) (fun c_15 => ?_)
      refine lv_iload_n hx hb dX1_hasAbove_18 rfl (lv_at hl 1 rfl) ?_
      refine lv_aload_n hx hb dX1_hasAbove_19 rfl (lv_at hl 0 rfl) ?_
      refine gf_X1_X1_pageRows hF hP 0 rfl rfl dX1_hasAbove_20 ?_
      refine xN_rem hx hb (by omega) (by omega) (by omega) dX1_hasAbove_23 ?_
      refine xI_eq (tgt := 31) hx hb (by omega) dX1_hasAbove_24 (by decide) (fun c_24 => ?_) (fun c_24 => ?_)
      · refine xN_const hx hb 0 dX1_hasAbove_31 (by decide) ?_
        exact xret_t (V := nI (0)) hF hret hlocks rfl (xz_f (by unfold abvB; rw [show stN w = 1 by omega, c_24]; simp)) dX1_hasAbove_32
      · refine xN_const hx hb 1 dX1_hasAbove_27 (by decide) ?_
        refine lv_goto (tgt := 32) hx hb dX1_hasAbove_28 (by decide) ?_
        exact xret_t (V := nI (1)) hF hret hlocks rfl (xz_t (by unfold abvB; simp; omega)) dX1_hasAbove_32
set_option maxHeartbeats 4000000 in
set_option maxRecDepth 100000 in
theorem c_X1_leansUp (l : Launch) (g : XG) (ao ae ac au : Nat) (fe fc fs w : Nat → Int32) (hW : WF w) (hR : LR fe fc fs w) (r k : Nat) (hr : r < nr w) (hk : k < 4) : Met l yX1_leansUp (ww yX1_leansUp cX1_leansUp 3 (some .boolean)) (rmD 1) (xP g [.ref ao, .int (nI r), .int (nI k)] (fun H => va_P g.1 vwCl (LogC g ao ae ac au fe fc fs w) H)) (vp_Si (fun r9 => r9 = xz (upB w r k))) 0 0 (fun _ => False) := by
  refine xMet (by decide) rfl (Nat.le_of_ble_eq_true rfl) ?_
  intro p e s m below meth c ls hF hZ hh hret hlocks hin hl
  have hx := hF.1.1
  have hb := hF.1.2.1
  have hP := hh
  have hP : va_P g.1 vwCl (LogC g ao ae ac au fe fc fs w) s.heap := hP
  have hl : lv_has ls 3 [(0, .ref ao), (1, .int (nI r)), (2, .int (nI k))] := hl
  have h48 := hW.n48
  have hp4 := hW.pg4
  have hp12 := hW.pg12
  have hs1 := hW.st1
  have hw2 := hW.wr2
  have hw6 := hW.wr6
  refine lv_aload_n hx hb dX1_leansUp_0 rfl (lv_at hl 0 rfl) ?_
  refine lv_iload_n hx hb dX1_leansUp_1 rfl (lv_at hl 1 rfl) ?_
  refine vp_callSi (va_Run.run (xrV hF (c_X1_hasAbove l g ao ae ac au fe fc fs w hW hR r (by omega)) cal_X1_hasAbove q_238 ⟨by decide, by decide⟩ rfl rfl rfl (va_recv hF.2.1 hP (ci := 1) (q0 := 0) rfl rfl) hZ (hP) hl.1 rfl (Nat.le_of_ble_eq_true rfl) dX1_leansUp_2 ⟨Nat.le_refl _, Nat.le_refl _⟩)) (fun r_ h_ => ?_)
  subst h_
  refine xZ_eq (tgt := 23) hx hb dX1_leansUp_5 (by decide) (fun c_5 => ?_) (fun c_5 => ?_)
  · refine xN_const hx hb 0 dX1_leansUp_23 (by decide) ?_
    exact xret_t (V := nI (0)) hF hret hlocks rfl (xz_f (by unfold upB; rw [c_5, Bool.and_false])) dX1_leansUp_24
  · refine lv_aload_n hx hb dX1_leansUp_8 rfl (lv_at hl 0 rfl) ?_
    refine lv_iload_n hx hb dX1_leansUp_9 rfl (lv_at hl 1 rfl) ?_
    refine lv_iload_n hx hb dX1_leansUp_10 rfl (lv_at hl 2 rfl) ?_
    refine vp_callSi (va_Run.run (xrV hF (c_X1_latestOf l g ao ae ac au fe fc fs w hW hR r k (by omega) (by omega)) cal_X1_latestOf q_254 ⟨by decide, by decide⟩ rfl rfl rfl (va_recv hF.2.1 hP (ci := 1) (q0 := 0) rfl rfl) hZ (hP) hl.1 rfl (Nat.le_of_ble_eq_true rfl) dX1_leansUp_11 ⟨Nat.le_refl _, Nat.le_refl _⟩)) (fun r_ h_ => ?_)
    subst h_
    refine lv_bipush hx hb (v := (-6)) dX1_leansUp_14 (by decide) ?_
    refine lv_icmp_ne (tgt := 23) hx hb dX1_leansUp_16 (by decide) (fun c_16 => ?_) (fun c_16 => ?_)
    · refine xN_const hx hb 0 dX1_leansUp_23 (by decide) ?_
      exact xret_t (V := nI (0)) hF hret hlocks rfl (xz_f (by unfold upB; rw [beq_eq_false_iff_ne.mpr c_16, Bool.false_and])) dX1_leansUp_24
    · refine xN_const hx hb 1 dX1_leansUp_19 (by decide) ?_
      refine lv_goto (tgt := 24) hx hb dX1_leansUp_20 (by decide) ?_
      exact xret_t (V := nI (1)) hF hret hlocks rfl (xz_t (by unfold upB; rw [c_5, c_16]; rfl)) dX1_leansUp_24
set_option maxHeartbeats 4000000 in
set_option maxRecDepth 100000 in
theorem c_X1_topOfChain (l : Launch) (g : XG) (ao ae ac au : Nat) (fe fc fs w : Nat → Int32) (hW : WF w) (hR : LR fe fc fs w) (r k : Nat) (hr : r < nr w) (hk : k < 4) : Met l yX1_topOfChain (ww yX1_topOfChain cX1_topOfChain 4 (some .int)) (rmD 2) (xP g [.ref ao, .int (nI r), .int (nI k)] (fun H => va_P g.1 vwCl (LogC g ao ae ac au fe fc fs w) H)) (vp_Si (fun r9 => r9 = nI (top w k r))) 0 0 (fun _ => False) := by
  refine xMet (by decide) rfl (Nat.le_of_ble_eq_true rfl) ?_
  intro p e s m below meth c ls hF hZ hh hret hlocks hin hl
  have hx := hF.1.1
  have hb := hF.1.2.1
  have hP := hh
  have hP : va_P g.1 vwCl (LogC g ao ae ac au fe fc fs w) s.heap := hP
  have hl : lv_has ls 4 [(0, .ref ao), (1, .int (nI r)), (2, .int (nI k))] := hl
  have h48 := hW.n48
  have hp4 := hW.pg4
  have hp12 := hW.pg12
  have hs1 := hW.st1
  have hw2 := hW.wr2
  have hw6 := hW.wr6
  refine lv_iload_n hx hb dX1_topOfChain_0 rfl (lv_at hl 1 rfl) ?_
  refine lv_istore_n (lv' := [(3, .int (nI r)), (0, .ref ao), (1, .int (nI r)), (2, .int (nI k))]) hx hb dX1_topOfChain_1 rfl hl (by decide) rfl (fun ls hl => ?_)
  refine xloop (goal := fun ls => W p l e _ s m _ below meth c s.heap [] _ _ _ (F0 m _ ls [])) (fun (z_ : Nat) (ls : Array Slot) => match z_ with | t => (t ≤ r) ∧ (top w k t = top w k r) ∧ lv_has ls 4 [(0, .ref ao), (1, .int (nI r)), (2, .int (nI k)), (3, .int (nI t))]) (fun (z_ : Nat) => match z_ with | t => t) ?_ (r) ls ⟨Nat.le_refl r, rfl, lv_sub hl [1, 2, 3, 0] rfl⟩
  rintro t ls ⟨I1, I2, hl⟩ ih
  refine lv_iload_n hx hb dX1_topOfChain_2 rfl (lv_at hl 3 rfl) ?_
  refine xI_le (tgt := 21) hx hb (by omega) dX1_topOfChain_3 (by decide) (fun c_3 => ?_) (fun c_3 => ?_)
  · refine lv_iload_n hx hb dX1_topOfChain_21 rfl (lv_at hl 3 rfl) ?_
    exact xret_i (V := nI (t)) hF hret hlocks (by rw [← I2, c_3]; rfl) dX1_topOfChain_22
  · refine lv_aload_n hx hb dX1_topOfChain_6 rfl (lv_at hl 0 rfl) ?_
    refine lv_iload_n hx hb dX1_topOfChain_7 rfl (lv_at hl 3 rfl) ?_
    refine lv_iload_n hx hb dX1_topOfChain_8 rfl (lv_at hl 2 rfl) ?_
    refine vp_callSi (va_Run.run (xrV hF (c_X1_leansUp l g ao ae ac au fe fc fs w hW hR t k (by omega) (by omega)) cal_X1_leansUp q_250 ⟨by decide, by decide⟩ rfl rfl rfl (va_recv hF.2.1 hP (ci := 1) (q0 := 0) rfl rfl) hZ (hP) hl.1 rfl (Nat.le_of_ble_eq_true rfl) dX1_topOfChain_9 ⟨Nat.le_refl _, Nat.le_refl _⟩)) (fun r_ h_ => ?_)
    subst h_
    refine xZ_eq (tgt := 21) hx hb dX1_topOfChain_12 (by decide) (fun c_12 => ?_) (fun c_12 => ?_)
    · refine lv_iload_n hx hb dX1_topOfChain_21 rfl (lv_at hl 3 rfl) ?_
      exact xret_i (V := nI (t)) hF hret hlocks (by rw [← I2, top_no c_12]) dX1_topOfChain_22
    · refine xN_dec (lv' := [(3, .int (nI (t - 1))), (0, .ref ao), (1, .int (nI r)), (2, .int (nI k))]) hx hb (by omega) dX1_topOfChain_15 hl (k := 3) rfl (by decide) rfl (fun ls hl => ?_)
      refine lv_goto (tgt := 2) hx hb dX1_topOfChain_18 (by decide) ?_
      exact ih (t - 1) ls ⟨by omega, (top_up c_3 c_12).symm.trans I2, lv_sub hl [1, 2, 3, 0] rfl⟩ (by dsimp only; omega)
set_option maxHeartbeats 4000000 in
set_option maxRecDepth 100000 in
theorem c_X1_chainOf (l : Launch) (g : XG) (ao ae ac au : Nat) (fe fc fs w : Nat → Int32) (hW : WF w) (hR : LR fe fc fs w) (r k : Nat) (hr : r < nr w) (hk : k < 4) : Met l yX1_chainOf (ww yX1_chainOf cX1_chainOf 3 (some .int)) (rmD 3) (xP g [.ref ao, .int (nI r), .int (nI k)] (fun H => va_P g.1 vwCl (LogC g ao ae ac au fe fc fs w) H)) (vp_Si (fun r9 => r9 = nI (r - top w k r + 1))) 0 0 (fun _ => False) := by
  refine xMet (by decide) rfl (Nat.le_of_ble_eq_true rfl) ?_
  intro p e s m below meth c ls hF hZ hh hret hlocks hin hl
  have hx := hF.1.1
  have hb := hF.1.2.1
  have hP := hh
  have hP : va_P g.1 vwCl (LogC g ao ae ac au fe fc fs w) s.heap := hP
  have hl : lv_has ls 3 [(0, .ref ao), (1, .int (nI r)), (2, .int (nI k))] := hl
  have h48 := hW.n48
  have hp4 := hW.pg4
  have hp12 := hW.pg12
  have hs1 := hW.st1
  have hw2 := hW.wr2
  have hw6 := hW.wr6
  have ht := top_le w k r
  refine lv_iload_n hx hb dX1_chainOf_0 rfl (lv_at hl 1 rfl) ?_
  refine lv_aload_n hx hb dX1_chainOf_1 rfl (lv_at hl 0 rfl) ?_
  refine lv_iload_n hx hb dX1_chainOf_2 rfl (lv_at hl 1 rfl) ?_
  refine lv_iload_n hx hb dX1_chainOf_3 rfl (lv_at hl 2 rfl) ?_
  refine vp_callSi (va_Run.run (xrV hF (c_X1_topOfChain l g ao ae ac au fe fc fs w hW hR r k (by omega) (by omega)) cal_X1_topOfChain q_246 ⟨by decide, by decide⟩ rfl rfl rfl (va_recv hF.2.1 hP (ci := 1) (q0 := 0) rfl rfl) hZ (hP) hl.1 rfl (Nat.le_of_ble_eq_true rfl) dX1_chainOf_4 ⟨Nat.le_refl _, Nat.le_refl _⟩)) (fun r_ h_ => ?_)
  subst h_
  refine xN_sub hx hb (by omega) dX1_chainOf_7 ?_
  refine xN_const hx hb 1 dX1_chainOf_8 (by decide) ?_
  refine xN_add hx hb dX1_chainOf_9 ?_
  exact xret_i (V := nI ((r - (top w k r)) + 1)) hF hret hlocks (rfl) dX1_chainOf_10
set_option maxHeartbeats 4000000 in
set_option maxRecDepth 100000 in
theorem c_X1_meaningOf (l : Launch) (g : XG) (ao ae ac au : Nat) (fe fc fs w : Nat → Int32) (hW : WF w) (hR : LR fe fc fs w) (r k : Nat) (hr : r < nr w) (hk : k < 4) : Met l yX1_meaningOf (ww yX1_meaningOf cX1_meaningOf 4 (some .int)) (rmD 3) (xP g [.ref ao, .int (nI r), .int (nI k)] (fun H => va_P g.1 vwCl (LogC g ao ae ac au fe fc fs w) H)) (vp_Si (fun r9 => r9 = mean w r k)) 0 0 (fun _ => False) := by
  refine xMet (by decide) rfl (Nat.le_of_ble_eq_true rfl) ?_
  intro p e s m below meth c ls hF hZ hh hret hlocks hin hl
  have hx := hF.1.1
  have hb := hF.1.2.1
  have hP := hh
  have hP : va_P g.1 vwCl (LogC g ao ae ac au fe fc fs w) s.heap := hP
  have hl : lv_has ls 4 [(0, .ref ao), (1, .int (nI r)), (2, .int (nI k))] := hl
  have h48 := hW.n48
  have hp4 := hW.pg4
  have hp12 := hW.pg12
  have hs1 := hW.st1
  have hw2 := hW.wr2
  have hw6 := hW.wr6
  have ht := top_le w k r
  refine lv_aload_n hx hb dX1_meaningOf_0 rfl (lv_at hl 0 rfl) ?_
  refine lv_aload_n hx hb dX1_meaningOf_1 rfl (lv_at hl 0 rfl) ?_
  refine lv_iload_n hx hb dX1_meaningOf_2 rfl (lv_at hl 1 rfl) ?_
  refine lv_iload_n hx hb dX1_meaningOf_3 rfl (lv_at hl 2 rfl) ?_
  refine vp_callSi (va_Run.run (xrV hF (c_X1_topOfChain l g ao ae ac au fe fc fs w hW hR r k (by omega) (by omega)) cal_X1_topOfChain q_246 ⟨by decide, by decide⟩ rfl rfl rfl (va_recv hF.2.1 hP (ci := 1) (q0 := 0) rfl rfl) hZ (hP) hl.1 rfl (Nat.le_of_ble_eq_true rfl) dX1_meaningOf_4 ⟨Nat.le_refl _, Nat.le_refl _⟩)) (fun r_ h_ => ?_)
  subst h_
  refine lv_iload_n hx hb dX1_meaningOf_7 rfl (lv_at hl 2 rfl) ?_
  refine vp_callSi (va_Run.run (xrV hF (c_X1_latestOf l g ao ae ac au fe fc fs w hW hR (top w k r) k (by omega) (by omega)) cal_X1_latestOf q_254 ⟨by decide, by decide⟩ rfl rfl rfl (va_recv hF.2.1 hP (ci := 1) (q0 := 0) rfl rfl) hZ (hP) hl.1 rfl (Nat.le_of_ble_eq_true rfl) dX1_meaningOf_8 ⟨Nat.le_refl _, Nat.le_refl _⟩)) (fun r_ h_ => ?_)
  subst h_
  refine lv_istore_n (lv' := [(3, .int (lat w (top w k r) k)), (0, .ref ao), (1, .int (nI r)), (2, .int (nI k))]) hx hb dX1_meaningOf_11 rfl hl (by decide) rfl (fun ls hl => ?_)
  refine lv_iload_n hx hb dX1_meaningOf_12 rfl (lv_at hl 0 rfl) ?_
  refine lv_if_lt (tgt := 20) hx hb dX1_meaningOf_13 (by decide) (fun c_13 => ?_) (fun c_13 => ?_)
  · refine lv_bipush hx hb (v := (-5)) dX1_meaningOf_20 (by decide) ?_
    exact xret_i (V := (-5)) hF hret hlocks (by unfold mean; rw [if_pos c_13]) dX1_meaningOf_22
  · refine lv_iload_n hx hb dX1_meaningOf_16 rfl (lv_at hl 0 rfl) ?_
    refine lv_goto (tgt := 22) hx hb dX1_meaningOf_17 (by decide) ?_
    exact xret_i (V := (lat w (top w k r) k)) hF hret hlocks (by unfold mean; rw [if_neg c_13]) dX1_meaningOf_22
set_option maxHeartbeats 4000000 in
set_option maxRecDepth 100000 in
theorem c_X1_sourceOf (l : Launch) (g : XG) (ao ae ac au : Nat) (fe fc fs w : Nat → Int32) (hW : WF w) (hR : LR fe fc fs w) (r k : Nat) (hr : r < nr w) (hk : k < 4) : Met l yX1_sourceOf (ww yX1_sourceOf cX1_sourceOf 4 (some .int)) (rmD 3) (xP g [.ref ao, .int (nI r), .int (nI k)] (fun H => va_P g.1 vwCl (LogC g ao ae ac au fe fc fs w) H)) (vp_Si (fun r9 => r9 = srcI w r k)) 0 0 (fun _ => False) := by
  refine xMet (by decide) rfl (Nat.le_of_ble_eq_true rfl) ?_
  intro p e s m below meth c ls hF hZ hh hret hlocks hin hl
  have hx := hF.1.1
  have hb := hF.1.2.1
  have hP := hh
  have hP : va_P g.1 vwCl (LogC g ao ae ac au fe fc fs w) s.heap := hP
  have hl : lv_has ls 4 [(0, .ref ao), (1, .int (nI r)), (2, .int (nI k))] := hl
  have h48 := hW.n48
  have hp4 := hW.pg4
  have hp12 := hW.pg12
  have hs1 := hW.st1
  have hw2 := hW.wr2
  have hw6 := hW.wr6
  have ht := top_le w k r
  refine lv_aload_n hx hb dX1_sourceOf_0 rfl (lv_at hl 0 rfl) ?_
  refine lv_iload_n hx hb dX1_sourceOf_1 rfl (lv_at hl 1 rfl) ?_
  refine lv_iload_n hx hb dX1_sourceOf_2 rfl (lv_at hl 2 rfl) ?_
  refine vp_callSi (va_Run.run (xrV hF (c_X1_topOfChain l g ao ae ac au fe fc fs w hW hR r k (by omega) (by omega)) cal_X1_topOfChain q_246 ⟨by decide, by decide⟩ rfl rfl rfl (va_recv hF.2.1 hP (ci := 1) (q0 := 0) rfl rfl) hZ (hP) hl.1 rfl (Nat.le_of_ble_eq_true rfl) dX1_sourceOf_3 ⟨Nat.le_refl _, Nat.le_refl _⟩)) (fun r_ h_ => ?_)
  subst h_
  refine lv_istore_n (lv' := [(3, .int (nI (top w k r))), (0, .ref ao), (1, .int (nI r)), (2, .int (nI k))]) hx hb dX1_sourceOf_6 rfl hl (by decide) rfl (fun ls hl => ?_)
  refine lv_aload_n hx hb dX1_sourceOf_7 rfl (lv_at hl 1 rfl) ?_
  refine lv_iload_n hx hb dX1_sourceOf_8 rfl (lv_at hl 0 rfl) ?_
  refine lv_iload_n hx hb dX1_sourceOf_9 rfl (lv_at hl 3 rfl) ?_
  refine vp_callSi (va_Run.run (xrV hF (c_X1_latestOf l g ao ae ac au fe fc fs w hW hR (top w k r) k (by omega) (by omega)) cal_X1_latestOf q_254 ⟨by decide, by decide⟩ rfl rfl rfl (va_recv hF.2.1 hP (ci := 1) (q0 := 0) rfl rfl) hZ (hP) hl.1 rfl (Nat.le_of_ble_eq_true rfl) dX1_sourceOf_10 ⟨Nat.le_refl _, Nat.le_refl _⟩)) (fun r_ h_ => ?_)
  subst h_
  refine lv_if_lt (tgt := 20) hx hb dX1_sourceOf_13 (by decide) (fun c_13 => ?_) (fun c_13 => ?_)
  · refine lv_bipush hx hb (v := (-5)) dX1_sourceOf_20 (by decide) ?_
    exact xret_i (V := (-5)) hF hret hlocks (by unfold srcI; rw [if_pos c_13]) dX1_sourceOf_22
  · refine lv_iload_n hx hb dX1_sourceOf_16 rfl (lv_at hl 0 rfl) ?_
    refine lv_goto (tgt := 22) hx hb dX1_sourceOf_17 (by decide) ?_
    exact xret_i (V := nI (top w k r)) hF hret hlocks (by unfold srcI; rw [if_neg c_13]) dX1_sourceOf_22
set_option maxHeartbeats 4000000 in
set_option maxRecDepth 100000 in
theorem c_X1_isDoubtful (l : Launch) (g : XG) (ao ae ac au : Nat) (fe fc fs w : Nat → Int32) (hW : WF w) (hR : LR fe fc fs w) (r k : Nat) (hr : r < nr w) (hk : k < 4) : Met l yX1_isDoubtful (ww yX1_isDoubtful cX1_isDoubtful 5 (some .boolean)) (rmD 3) (xP g [.ref ao, .int (nI r), .int (nI k)] (fun H => va_P g.1 vwCl (LogC g ao ae ac au fe fc fs w) H)) (vp_Si (fun r9 => r9 = xz (dbt w r k))) 0 0 (fun _ => False) := by
  refine xMet (by decide) rfl (Nat.le_of_ble_eq_true rfl) ?_
  intro p e s m below meth c ls hF hZ hh hret hlocks hin hl
  have hx := hF.1.1
  have hb := hF.1.2.1
  have hP := hh
  have hP : va_P g.1 vwCl (LogC g ao ae ac au fe fc fs w) s.heap := hP
  have hl : lv_has ls 5 [(0, .ref ao), (1, .int (nI r)), (2, .int (nI k))] := hl
  have h48 := hW.n48
  have hp4 := hW.pg4
  have hp12 := hW.pg12
  have hs1 := hW.st1
  have hw2 := hW.wr2
  have hw6 := hW.wr6
  have ht := top_le w k r
  refine lv_aload_n hx hb dX1_isDoubtful_0 rfl (lv_at hl 0 rfl) ?_
  refine lv_iload_n hx hb dX1_isDoubtful_1 rfl (lv_at hl 1 rfl) ?_
  refine lv_iload_n hx hb dX1_isDoubtful_2 rfl (lv_at hl 2 rfl) ?_
  refine vp_callSi (va_Run.run (xrV hF (c_X1_topOfChain l g ao ae ac au fe fc fs w hW hR r k (by omega) (by omega)) cal_X1_topOfChain q_246 ⟨by decide, by decide⟩ rfl rfl rfl (va_recv hF.2.1 hP (ci := 1) (q0 := 0) rfl rfl) hZ (hP) hl.1 rfl (Nat.le_of_ble_eq_true rfl) dX1_isDoubtful_3 ⟨Nat.le_refl _, Nat.le_refl _⟩)) (fun r_ h_ => ?_)
  subst h_
  refine lv_istore_n (lv' := [(3, .int (nI (top w k r))), (0, .ref ao), (1, .int (nI r)), (2, .int (nI k))]) hx hb dX1_isDoubtful_6 rfl hl (by decide) rfl (fun ls hl => ?_)
  refine lv_iload_n hx hb dX1_isDoubtful_7 rfl (lv_at hl 2 rfl) ?_
  refine lv_istore (lv' := [(4, .int (nI r)), (3, .int (nI (top w k r))), (0, .ref ao), (1, .int (nI r)), (2, .int (nI k))]) hx hb dX1_isDoubtful_8 hl (by decide) rfl (fun ls hl => ?_)
  refine xloop (goal := fun ls => W p l e _ s m _ below meth c s.heap [] _ _ _ (F0 m _ ls [])) (fun (z_ : Nat) (ls : Array Slot) => match z_ with | j => (j ≤ r + 1) ∧ (top w k r ≤ j) ∧ (∀ q, j ≤ q → q ≤ r → ¬ 1 < cnt w (4 * q + k)) ∧ lv_has ls 5 [(0, .ref ao), (1, .int (nI r)), (2, .int (nI k)), (3, .int (nI (top w k r))), (4, .int (nI j - 1))]) (fun (z_ : Nat) => match z_ with | j => j) ?_ (r + 1) ls ⟨Nat.le_refl _, by omega, fun q h1 h2 => absurd h1 (by omega), by rw [nI_pred]; exact lv_sub hl [2, 3, 4, 1, 0] rfl⟩
  rintro j ls ⟨I1, I2, I3, hl⟩ ih
  by_cases hj : j = 0
  · subst hj
    rw [show nI 0 - 1 = (-1 : Int32) from rfl] at hl
    refine lv_iload hx hb dX1_isDoubtful_10 (lv_at hl 4 rfl) ?_
    refine lv_iload_n hx hb dX1_isDoubtful_12 rfl (lv_at hl 3 rfl) ?_
    refine lv_icmp_lt (tgt := 35) hx hb dX1_isDoubtful_13 (by decide) (fun c_13 => ?_) (fun c_13 => absurd (xm1_lt (by omega)) c_13)
    refine xN_const hx hb 0 dX1_isDoubtful_35 (by decide) ?_
    exact xret_t (V := nI (0)) hF hret hlocks rfl (xz_f (Bool.eq_false_iff.mpr (fun h => by obtain ⟨q, hq, h2⟩ := (dB_iff w k (top w k r) _).mp h; have := I3 (top w k r + q) (by omega) (by omega); omega))) dX1_isDoubtful_36
  obtain ⟨i, rfl⟩ : ∃ i, j = i + 1 := ⟨j - 1, by omega⟩
  rw [nI_pred] at hl
  refine lv_iload hx hb dX1_isDoubtful_10 (lv_at hl 4 rfl) ?_
  refine lv_iload_n hx hb dX1_isDoubtful_12 rfl (lv_at hl 3 rfl) ?_
  refine xC_lt (tgt := 35) hx hb (by omega) (by omega) dX1_isDoubtful_13 (by decide) (fun c_13 => ?_) (fun c_13 => ?_)
  · refine xN_const hx hb 0 dX1_isDoubtful_35 (by decide) ?_
    exact xret_t (V := nI (0)) hF hret hlocks rfl (xz_f (Bool.eq_false_iff.mpr (fun h => by obtain ⟨q, hq, h2⟩ := (dB_iff w k (top w k r) _).mp h; exact I3 (top w k r + q) (by omega) (by omega) h2))) dX1_isDoubtful_36
  · refine lv_aload_n hx hb dX1_isDoubtful_16 rfl (lv_at hl 0 rfl) ?_
    refine lv_iload hx hb dX1_isDoubtful_17 (lv_at hl 4 rfl) ?_
    refine lv_iload_n hx hb dX1_isDoubtful_19 rfl (lv_at hl 2 rfl) ?_
    refine vp_callSi (va_Run.run (xrV hF (c_X1_entriesOf l g ao ae ac au fe fc fs w hW hR i k (by omega) (by omega)) cal_X1_entriesOf q_409 ⟨by decide, by decide⟩ rfl rfl rfl (va_recv hF.2.1 hP (ci := 1) (q0 := 0) rfl rfl) hZ (hP) hl.1 rfl (Nat.le_of_ble_eq_true rfl) dX1_isDoubtful_20 ⟨Nat.le_refl _, Nat.le_refl _⟩)) (fun r_ h_ => ?_)
    subst h_
    refine xN_const hx hb 1 dX1_isDoubtful_23 (by decide) ?_
    have hq4 := hW.c4 (i := 4 * i + k) (by omega)
    refine xC_le (tgt := 29) hx hb (by omega) (by omega) dX1_isDoubtful_24 (by decide) (fun c_24 => ?_) (fun c_24 => ?_)
    · refine lv_iinc (v := nI i - 1) (lv' := [(4, .int (nI i - 1)), (0, .ref ao), (1, .int (nI r)), (2, .int (nI k)), (3, .int (nI (top w k r)))]) hx hb dX1_isDoubtful_29 hl (k := 4) rfl (by show nI i + (-1) = _; rw [Int32.sub_eq_add_neg]) (by decide) rfl (fun ls hl => ?_)
      refine lv_goto (tgt := 10) hx hb dX1_isDoubtful_32 (by decide) ?_
      exact ih (i) ls ⟨by omega, by omega, fun q h1 h2 => if hq : q = i then (by subst hq; omega) else I3 q (by omega) h2, lv_sub hl [1, 2, 3, 4, 0] rfl⟩ (by dsimp only; omega)
    · refine xN_const hx hb 1 dX1_isDoubtful_27 (by decide) ?_
      exact xret_t (V := nI (1)) hF hret hlocks rfl (xz_t ((dB_iff w k (top w k r) _).mpr ⟨i - top w k r, by omega, by rw [show top w k r + (i - top w k r) = i by omega]; omega⟩)) dX1_isDoubtful_28
set_option maxHeartbeats 4000000 in
set_option maxRecDepth 100000 in
theorem c_X1_followersOf (l : Launch) (g : XG) (ao ae ac au : Nat) (fe fc fs w : Nat → Int32) (hW : WF w) (hR : LR fe fc fs w) (r k : Nat) (hr : r < nr w) (hk : k < 4) : Met l yX1_followersOf (ww yX1_followersOf cX1_followersOf 4 (some .int)) (rmD 2) (xP g [.ref ao, .int (nI r), .int (nI k)] (fun H => va_P g.1 vwCl (LogC g ao ae ac au fe fc fs w) H)) (vp_Si (fun r9 => r9 = nI (stop w k (r + 1) - 1 - r))) 0 0 (fun _ => False) := by
  refine xMet (by decide) rfl (Nat.le_of_ble_eq_true rfl) ?_
  intro p e s m below meth c ls hF hZ hh hret hlocks hin hl
  have hx := hF.1.1
  have hb := hF.1.2.1
  have hP := hh
  have hP : va_P g.1 vwCl (LogC g ao ae ac au fe fc fs w) s.heap := hP
  have hl : lv_has ls 4 [(0, .ref ao), (1, .int (nI r)), (2, .int (nI k))] := hl
  have h48 := hW.n48
  have hp4 := hW.pg4
  have hp12 := hW.pg12
  have hs1 := hW.st1
  have hw2 := hW.wr2
  have hw6 := hW.wr6
  refine lv_iload_n hx hb dX1_followersOf_0 rfl (lv_at hl 1 rfl) ?_
  refine lv_istore_n (lv' := [(3, .int (nI r)), (0, .ref ao), (1, .int (nI r)), (2, .int (nI k))]) hx hb dX1_followersOf_1 rfl hl (by decide) rfl (fun ls hl => ?_)
  refine xloop (goal := fun ls => W p l e _ s m _ below meth c s.heap [] _ _ _ (F0 m _ ls [])) (fun (z_ : Nat) (ls : Array Slot) => match z_ with | t => (r ≤ t) ∧ (t < nr w) ∧ (stop w k (t + 1) = stop w k (r + 1)) ∧ lv_has ls 4 [(0, .ref ao), (1, .int (nI r)), (2, .int (nI k)), (3, .int (nI t))]) (fun (z_ : Nat) => match z_ with | t => nr w - t) ?_ (r) ls ⟨Nat.le_refl r, hr, rfl, lv_sub hl [1, 2, 3, 0] rfl⟩
  rintro t ls ⟨I1, I2, I3, hl⟩ ih
  refine lv_iload_n hx hb dX1_followersOf_2 rfl (lv_at hl 3 rfl) ?_
  refine xN_const hx hb 1 dX1_followersOf_3 (by decide) ?_
  refine xN_add hx hb dX1_followersOf_4 ?_
  refine lv_aload_n hx hb dX1_followersOf_5 rfl (lv_at hl 0 rfl) ?_
  refine gf_X1_X1_rows hF hP 0 rfl rfl dX1_followersOf_6 ?_
  refine xC_ge (tgt := 29) hx hb (by omega) (by omega) dX1_followersOf_9 (by decide) (fun c_9 => ?_) (fun c_9 => ?_)
  · refine lv_iload_n hx hb dX1_followersOf_29 rfl (lv_at hl 3 rfl) ?_
    refine lv_iload_n hx hb dX1_followersOf_30 rfl (lv_at hl 1 rfl) ?_
    refine xN_sub hx hb (by omega) dX1_followersOf_31 ?_
    exact xret_i (V := nI (t - r)) hF hret hlocks (by rw [← I3, stop_end (by omega)]; rfl) dX1_followersOf_32
  · refine lv_aload_n hx hb dX1_followersOf_12 rfl (lv_at hl 0 rfl) ?_
    refine lv_iload_n hx hb dX1_followersOf_13 rfl (lv_at hl 3 rfl) ?_
    refine xN_const hx hb 1 dX1_followersOf_14 (by decide) ?_
    refine xN_add hx hb dX1_followersOf_15 ?_
    refine lv_iload_n hx hb dX1_followersOf_16 rfl (lv_at hl 2 rfl) ?_
    refine vp_callSi (va_Run.run (xrV hF (c_X1_leansUp l g ao ae ac au fe fc fs w hW hR (t + 1) k (by omega) (by omega)) cal_X1_leansUp q_250 ⟨by decide, by decide⟩ rfl rfl rfl (va_recv hF.2.1 hP (ci := 1) (q0 := 0) rfl rfl) hZ (hP) hl.1 rfl (Nat.le_of_ble_eq_true rfl) dX1_followersOf_17 ⟨Nat.le_refl _, Nat.le_refl _⟩)) (fun r_ h_ => ?_)
    subst h_
    refine xZ_eq (tgt := 29) hx hb dX1_followersOf_20 (by decide) (fun c_20 => ?_) (fun c_20 => ?_)
    · refine lv_iload_n hx hb dX1_followersOf_29 rfl (lv_at hl 3 rfl) ?_
      refine lv_iload_n hx hb dX1_followersOf_30 rfl (lv_at hl 1 rfl) ?_
      refine xN_sub hx hb (by omega) dX1_followersOf_31 ?_
      exact xret_i (V := nI (t - r)) hF hret hlocks (by rw [← I3, stop_no c_20]; rfl) dX1_followersOf_32
    · refine xN_inc (lv' := [(3, .int (nI (t + 1))), (0, .ref ao), (1, .int (nI r)), (2, .int (nI k))]) hx hb 1 dX1_followersOf_23 hl (k := 3) rfl (by decide) (by decide) rfl (fun ls hl => ?_)
      refine lv_goto (tgt := 2) hx hb dX1_followersOf_26 (by decide) ?_
      exact ih (t + 1) ls ⟨by omega, by omega, (stop_up (by omega) c_20).symm.trans I3, lv_sub hl [1, 2, 3, 0] rfl⟩ (by dsimp only; omega)
set_option maxHeartbeats 4000000 in
set_option maxRecDepth 100000 in
theorem c_X1_meaningWith (l : Launch) (g : XG) (ao ae ac au : Nat) (fe fc fs w : Nat → Int32) (hW : WF w) (hR : LR fe fc fs w) (r k : Nat) (hr : r < nr w) (hk : k < 4) (x : Int32) : Met l yX1_meaningWith (ww yX1_meaningWith cX1_meaningWith 4 (some .int)) (rmD 4) (xP g [.ref ao, .int (nI r), .int (nI k), .int (x)] (fun H => va_P g.1 vwCl (LogC g ao ae ac au fe fc fs w) H)) (vp_Si (fun r9 => r9 = mwI w r k x)) 0 0 (fun _ => False) := by
  refine xMet (by decide) rfl (Nat.le_of_ble_eq_true rfl) ?_
  intro p e s m below meth c ls hF hZ hh hret hlocks hin hl
  have hx := hF.1.1
  have hb := hF.1.2.1
  have hP := hh
  have hP : va_P g.1 vwCl (LogC g ao ae ac au fe fc fs w) s.heap := hP
  have hl : lv_has ls 4 [(0, .ref ao), (1, .int (nI r)), (2, .int (nI k)), (3, .int (x))] := hl
  have h48 := hW.n48
  have hp4 := hW.pg4
  have hp12 := hW.pg12
  have hs1 := hW.st1
  have hw2 := hW.wr2
  have hw6 := hW.wr6
  refine lv_iload_n hx hb dX1_meaningWith_0 rfl (lv_at hl 3 rfl) ?_
  refine lv_bipush hx hb (v := (-6)) dX1_meaningWith_1 (by decide) ?_
  refine lv_icmp_ne (tgt := 28) hx hb dX1_meaningWith_3 (by decide) (fun c_3 => ?_) (fun c_3 => ?_)
  · refine lv_iload_n hx hb dX1_meaningWith_28 rfl (lv_at hl 3 rfl) ?_
    exact xret_i (V := (x)) hF hret hlocks (by unfold mwI; rw [if_neg c_3]) dX1_meaningWith_29
  · refine lv_aload_n hx hb dX1_meaningWith_6 rfl (lv_at hl 0 rfl) ?_
    refine lv_iload_n hx hb dX1_meaningWith_7 rfl (lv_at hl 1 rfl) ?_
    refine vp_callSi (va_Run.run (xrV hF (c_X1_hasAbove l g ao ae ac au fe fc fs w hW hR r (by omega)) cal_X1_hasAbove q_238 ⟨by decide, by decide⟩ rfl rfl rfl (va_recv hF.2.1 hP (ci := 1) (q0 := 0) rfl rfl) hZ (hP) hl.1 rfl (Nat.le_of_ble_eq_true rfl) dX1_meaningWith_8 ⟨Nat.le_refl _, Nat.le_refl _⟩)) (fun r_ h_ => ?_)
    subst h_
    refine xZ_eq (tgt := 25) hx hb dX1_meaningWith_11 (by decide) (fun c_11 => ?_) (fun c_11 => ?_)
    · refine lv_bipush hx hb (v := (-5)) dX1_meaningWith_25 (by decide) ?_
      exact xret_i (V := (-5)) hF hret hlocks (by unfold mwI; rw [if_pos c_3, c_11]; rfl) dX1_meaningWith_27
    · have hr0 : 0 < r := Nat.pos_of_ne_zero (fun q => by subst q; exact absurd c_11 (by simp [abvB]))
      refine lv_aload_n hx hb dX1_meaningWith_14 rfl (lv_at hl 0 rfl) ?_
      refine lv_iload_n hx hb dX1_meaningWith_15 rfl (lv_at hl 1 rfl) ?_
      refine xN_const hx hb 1 dX1_meaningWith_16 (by decide) ?_
      refine xN_sub hx hb (by omega) dX1_meaningWith_17 ?_
      refine lv_iload_n hx hb dX1_meaningWith_18 rfl (lv_at hl 2 rfl) ?_
      refine vp_callSi (va_Run.run (xrV hF (c_X1_meaningOf l g ao ae ac au fe fc fs w hW hR (r - 1) k (by omega) (by omega)) cal_X1_meaningOf q_242 ⟨by decide, by decide⟩ rfl rfl rfl (va_recv hF.2.1 hP (ci := 1) (q0 := 0) rfl rfl) hZ (hP) hl.1 rfl (Nat.le_of_ble_eq_true rfl) dX1_meaningWith_19 ⟨Nat.le_refl _, Nat.le_refl _⟩)) (fun r_ h_ => ?_)
      subst h_
      refine lv_goto (tgt := 27) hx hb dX1_meaningWith_22 (by decide) ?_
      exact xret_i (V := (mean w (r - 1) k)) hF hret hlocks (by unfold mwI; rw [if_pos c_3, c_11]; rfl) dX1_meaningWith_27
set_option maxHeartbeats 4000000 in
set_option maxRecDepth 100000 in
theorem c_X1_changedBy (l : Launch) (g : XG) (ao ae ac au : Nat) (fe fc fs w : Nat → Int32) (hW : WF w) (hR : LR fe fc fs w) (r k : Nat) (hr : r < nr w) (hk : k < 4) (x : Int32) : Met l yX1_changedBy (ww yX1_changedBy cX1_changedBy 4 (some .int)) (rmD 5) (xP g [.ref ao, .int (nI r), .int (nI k), .int (x)] (fun H => va_P g.1 vwCl (LogC g ao ae ac au fe fc fs w) H)) (vp_Si (fun r9 => r9 = nI (chg w r k x))) 0 0 (fun _ => False) := by
  refine xMet (by decide) rfl (Nat.le_of_ble_eq_true rfl) ?_
  intro p e s m below meth c ls hF hZ hh hret hlocks hin hl
  have hx := hF.1.1
  have hb := hF.1.2.1
  have hP := hh
  have hP : va_P g.1 vwCl (LogC g ao ae ac au fe fc fs w) s.heap := hP
  have hl : lv_has ls 4 [(0, .ref ao), (1, .int (nI r)), (2, .int (nI k)), (3, .int (x))] := hl
  have h48 := hW.n48
  have hp4 := hW.pg4
  have hp12 := hW.pg12
  have hs1 := hW.st1
  have hw2 := hW.wr2
  have hw6 := hW.wr6
  refine lv_aload_n hx hb dX1_changedBy_0 rfl (lv_at hl 0 rfl) ?_
  refine lv_iload_n hx hb dX1_changedBy_1 rfl (lv_at hl 1 rfl) ?_
  refine lv_iload_n hx hb dX1_changedBy_2 rfl (lv_at hl 2 rfl) ?_
  refine lv_iload_n hx hb dX1_changedBy_3 rfl (lv_at hl 3 rfl) ?_
  refine vp_callSi (va_Run.run (xrV hF (c_X1_meaningWith l g ao ae ac au fe fc fs w hW hR r k (by omega) (by omega) ((x))) cal_X1_meaningWith q_234 ⟨by decide, by decide⟩ rfl rfl rfl (va_recv hF.2.1 hP (ci := 1) (q0 := 0) rfl rfl) hZ (hP) hl.1 rfl (Nat.le_of_ble_eq_true rfl) dX1_changedBy_4 ⟨Nat.le_refl _, Nat.le_refl _⟩)) (fun r_ h_ => ?_)
  subst h_
  refine lv_aload_n hx hb dX1_changedBy_7 rfl (lv_at hl 0 rfl) ?_
  refine lv_iload_n hx hb dX1_changedBy_8 rfl (lv_at hl 1 rfl) ?_
  refine lv_iload_n hx hb dX1_changedBy_9 rfl (lv_at hl 2 rfl) ?_
  refine vp_callSi (va_Run.run (xrV hF (c_X1_meaningOf l g ao ae ac au fe fc fs w hW hR r k (by omega) (by omega)) cal_X1_meaningOf q_242 ⟨by decide, by decide⟩ rfl rfl rfl (va_recv hF.2.1 hP (ci := 1) (q0 := 0) rfl rfl) hZ (hP) hl.1 rfl (Nat.le_of_ble_eq_true rfl) dX1_changedBy_10 ⟨Nat.le_refl _, Nat.le_refl _⟩)) (fun r_ h_ => ?_)
  subst h_
  refine lv_icmp_ne (tgt := 18) hx hb dX1_changedBy_13 (by decide) (fun c_13 => ?_) (fun c_13 => ?_)
  · refine xN_const hx hb 1 dX1_changedBy_18 (by decide) ?_
    refine lv_aload_n hx hb dX1_changedBy_19 rfl (lv_at hl 0 rfl) ?_
    refine lv_iload_n hx hb dX1_changedBy_20 rfl (lv_at hl 1 rfl) ?_
    refine lv_iload_n hx hb dX1_changedBy_21 rfl (lv_at hl 2 rfl) ?_
    refine vp_callSi (va_Run.run (xrV hF (c_X1_followersOf l g ao ae ac au fe fc fs w hW hR r k (by omega) (by omega)) cal_X1_followersOf q_255 ⟨by decide, by decide⟩ rfl rfl rfl (va_recv hF.2.1 hP (ci := 1) (q0 := 0) rfl rfl) hZ (hP) hl.1 rfl (Nat.le_of_ble_eq_true rfl) dX1_changedBy_22 ⟨Nat.le_refl _, Nat.le_refl _⟩)) (fun r_ h_ => ?_)
    subst h_
    refine xN_add hx hb dX1_changedBy_25 ?_
    exact xret_i (V := nI (1 + (stop w k (r + 1) - 1 - r))) hF hret hlocks (by unfold chg; rw [if_neg c_13]) dX1_changedBy_26
  · refine xN_const hx hb 0 dX1_changedBy_16 (by decide) ?_
    exact xret_i (V := nI (0)) hF hret hlocks (by unfold chg; rw [if_pos c_13]) dX1_changedBy_17
set_option maxHeartbeats 4000000 in
set_option maxRecDepth 100000 in
theorem c_X1_isWrittenOut (l : Launch) (g : XG) (ao ae ac au : Nat) (fe fc fs w : Nat → Int32) (hW : WF w) (hR : LR fe fc fs w) (r : Nat) (hr : r < nr w) : Met l yX1_isWrittenOut (ww yX1_isWrittenOut cX1_isWrittenOut 3 (some .boolean)) (rmD 1) (xP g [.ref ao, .int (nI r)] (fun H => va_P g.1 vwCl (LogC g ao ae ac au fe fc fs w) H)) (vp_Si (fun r9 => r9 = xz (wrB w r))) 0 0 (fun _ => False) := by
  refine xMet (by decide) rfl (Nat.le_of_ble_eq_true rfl) ?_
  intro p e s m below meth c ls hF hZ hh hret hlocks hin hl
  have hx := hF.1.1
  have hb := hF.1.2.1
  have hP := hh
  have hP : va_P g.1 vwCl (LogC g ao ae ac au fe fc fs w) s.heap := hP
  have hl : lv_has ls 3 [(0, .ref ao), (1, .int (nI r))] := hl
  have h48 := hW.n48
  have hp4 := hW.pg4
  have hp12 := hW.pg12
  have hs1 := hW.st1
  have hw2 := hW.wr2
  have hw6 := hW.wr6
  refine xN_const hx hb 0 dX1_isWrittenOut_0 (by decide) ?_
  refine lv_istore_n (lv' := [(2, .int (nI 0)), (0, .ref ao), (1, .int (nI r))]) hx hb dX1_isWrittenOut_1 rfl hl (by decide) rfl (fun ls hl => ?_)
  refine xloop (goal := fun ls => W p l e _ s m _ below meth c s.heap [] _ _ _ (F0 m _ ls [])) (fun (z_ : Nat) (ls : Array Slot) => match z_ with | i => (i ≤ 4) ∧ (wr4 w r i = true) ∧ lv_has ls 3 [(0, .ref ao), (1, .int (nI r)), (2, .int (nI i))]) (fun (z_ : Nat) => match z_ with | i => 4 - i) ?_ (0) ls ⟨by omega, rfl, lv_sub hl [1, 2, 0] rfl⟩
  rintro i ls ⟨I1, I2, hl⟩ ih
  refine lv_iload_n hx hb dX1_isWrittenOut_2 rfl (lv_at hl 2 rfl) ?_
  refine xN_const hx hb 4 dX1_isWrittenOut_3 (by decide) ?_
  refine xC_ge (tgt := 24) hx hb (by omega) (by omega) dX1_isWrittenOut_4 (by decide) (fun c_4 => ?_) (fun c_4 => ?_)
  · refine xN_const hx hb 1 dX1_isWrittenOut_24 (by decide) ?_
    exact xret_t (V := nI (1)) hF hret hlocks rfl (xz_t (by rw [show i = 4 by omega] at I2; exact I2)) dX1_isWrittenOut_25
  · refine lv_aload_n hx hb dX1_isWrittenOut_7 rfl (lv_at hl 0 rfl) ?_
    refine lv_iload_n hx hb dX1_isWrittenOut_8 rfl (lv_at hl 1 rfl) ?_
    refine lv_iload_n hx hb dX1_isWrittenOut_9 rfl (lv_at hl 2 rfl) ?_
    refine vp_callSi (va_Run.run (xrV hF (c_X1_latestOf l g ao ae ac au fe fc fs w hW hR r i (by omega) (by omega)) cal_X1_latestOf q_254 ⟨by decide, by decide⟩ rfl rfl rfl (va_recv hF.2.1 hP (ci := 1) (q0 := 0) rfl rfl) hZ (hP) hl.1 rfl (Nat.le_of_ble_eq_true rfl) dX1_isWrittenOut_10 ⟨Nat.le_refl _, Nat.le_refl _⟩)) (fun r_ h_ => ?_)
    subst h_
    refine lv_if_ge (tgt := 18) hx hb dX1_isWrittenOut_13 (by decide) (fun c_13 => ?_) (fun c_13 => ?_)
    · refine xN_inc (lv' := [(2, .int (nI (i + 1))), (0, .ref ao), (1, .int (nI r))]) hx hb 1 dX1_isWrittenOut_18 hl (k := 2) rfl (by decide) (by decide) rfl (fun ls hl => ?_)
      refine lv_goto (tgt := 2) hx hb dX1_isWrittenOut_21 (by decide) ?_
      exact ih (i + 1) ls ⟨by omega, by rw [wr4, I2, Bool.true_and]; exact decide_eq_true c_13, lv_sub hl [1, 2, 0] rfl⟩ (by dsimp only; omega)
    · refine xN_const hx hb 0 dX1_isWrittenOut_16 (by decide) ?_
      exact xret_t (V := nI (0)) hF hret hlocks rfl (xz_f (wr4_false (Int32.not_le.mp c_13) 4 (by omega))) dX1_isWrittenOut_17
end
section
/-! the logbook: its counts -/
set_option maxHeartbeats 4000000 in
set_option maxRecDepth 100000 in
theorem c_X1_settingOf (l : Launch) (g : XG) (ao ae ac au : Nat) (fe fc fs w : Nat → Int32) (hW : WF w) (hR : LR fe fc fs w) (k : Nat) (hk : k < 3) : Met l yX1_settingOf (ww yX1_settingOf cX1_settingOf 2 (some .int)) (rmD 0) (xP g [.ref ao, .int (nI k)] (fun H => va_P g.1 vwCl (LogC g ao ae ac au fe fc fs w) H)) (vp_Si (fun r9 => r9 = nI (stg w k))) 0 0 (fun _ => False) := by
  refine xMet (by decide) rfl (Nat.le_of_ble_eq_true rfl) ?_
  intro p e s m below meth c ls hF hZ hh hret hlocks hin hl
  have hx := hF.1.1
  have hb := hF.1.2.1
  have hP := hh
  have hP : va_P g.1 vwCl (LogC g ao ae ac au fe fc fs w) s.heap := hP
  have hl : lv_has ls 2 [(0, .ref ao), (1, .int (nI k))] := hl
  have h48 := hW.n48
  have hp4 := hW.pg4
  have hp12 := hW.pg12
  have hs1 := hW.st1
  have hw2 := hW.wr2
  have hw6 := hW.wr6
  refine lv_iload_n hx hb dX1_settingOf_0 rfl (lv_at hl 1 rfl) ?_
  rcases (show k = 0 ∨ k = 1 ∨ k = 2 by omega) with rfl | rfl | rfl
  · refine lv_lookup (off := 27) (tgt := 28) hx hb dX1_settingOf_1 (by decide) (by decide) (by decide) ?_
    refine lv_aload_n hx hb dX1_settingOf_28 rfl (lv_at hl 0 rfl) ?_
    refine gf_X1_X1_pageRows hF hP 0 rfl rfl dX1_settingOf_29 ?_
    exact xret_i (V := nI (pgN w)) hF hret hlocks (rfl) dX1_settingOf_32
  · refine lv_lookup (off := 32) (tgt := 33) hx hb dX1_settingOf_1 (by decide) (by decide) (by decide) ?_
    refine lv_aload_n hx hb dX1_settingOf_33 rfl (lv_at hl 0 rfl) ?_
    refine gf_X1_X1_stopsAtPages hF hP 0 rfl rfl dX1_settingOf_34 ?_
    exact xret_i (V := nI (stN w)) hF hret hlocks (rfl) dX1_settingOf_37
  · refine lv_lookup (off := 37) (tgt := 38) hx hb dX1_settingOf_1 (by decide) (by decide) (by decide) ?_
    refine lv_aload_n hx hb dX1_settingOf_38 rfl (lv_at hl 0 rfl) ?_
    refine gf_X1_X1_watchRows hF hP 0 rfl rfl dX1_settingOf_39 ?_
    exact xret_i (V := nI (wrN w)) hF hret hlocks (rfl) dX1_settingOf_42
set_option maxHeartbeats 4000000 in
set_option maxRecDepth 100000 in
theorem c_X1_countLatest (l : Launch) (g : XG) (ao ae ac au : Nat) (fe fc fs w : Nat → Int32) (hW : WF w) (hR : LR fe fc fs w) (k : Nat) (hk : k < 4) (x : Int32) : Met l yX1_countLatest (ww yX1_countLatest cX1_countLatest 5 (some .int)) (rmD 1) (xP g [.ref ao, .int (nI k), .int (x)] (fun H => va_P g.1 vwCl (LogC g ao ae ac au fe fc fs w) H)) (vp_Si (fun r9 => r9 = nI (ctR (fun i9 => lat w i9 k == x) 0 (nr w)))) 0 0 (fun _ => False) := by
  refine xMet (by decide) rfl (Nat.le_of_ble_eq_true rfl) ?_
  intro p e s m below meth c ls hF hZ hh hret hlocks hin hl
  have hx := hF.1.1
  have hb := hF.1.2.1
  have hP := hh
  have hP : va_P g.1 vwCl (LogC g ao ae ac au fe fc fs w) s.heap := hP
  have hl : lv_has ls 5 [(0, .ref ao), (1, .int (nI k)), (2, .int (x))] := hl
  have h48 := hW.n48
  have hp4 := hW.pg4
  have hp12 := hW.pg12
  have hs1 := hW.st1
  have hw2 := hW.wr2
  have hw6 := hW.wr6
  refine xN_const hx hb 0 dX1_countLatest_0 (by decide) ?_
  refine lv_istore_n (lv' := [(3, .int (nI 0)), (0, .ref ao), (1, .int (nI k)), (2, .int (x))]) hx hb dX1_countLatest_1 rfl hl (by decide) rfl (fun ls hl => ?_)
  refine xN_const hx hb 0 dX1_countLatest_2 (by decide) ?_
  refine lv_istore (lv' := [(4, .int (nI 0)), (3, .int (nI 0)), (0, .ref ao), (1, .int (nI k)), (2, .int (x))]) hx hb dX1_countLatest_3 hl (by decide) rfl (fun ls hl => ?_)
  refine xloop (goal := fun ls => W p l e _ s m _ below meth c s.heap [] _ _ _ (F0 m _ ls [])) (fun (z_ : Nat × Nat) (ls : Array Slot) => match z_ with | (f, i) => (i ≤ nr w) ∧ (f = ctR (fun i9 => lat w i9 k == x) 0 (i - 0)) ∧ lv_has ls 5 [(0, .ref ao), (1, .int (nI k)), (2, .int (x)), (3, .int (nI f)), (4, .int (nI i))]) (fun (z_ : Nat × Nat) => match z_ with | (f, i) => nr w - i) ?_ (0, 0) ls ⟨Nat.zero_le _, rfl, lv_sub hl [2, 3, 4, 1, 0] rfl⟩
  rintro ⟨f, i⟩ ls ⟨I1, I2, hl⟩ ih
  have hf := ctR_le (fun i9 => lat w i9 k == x) 0 (i - 0)
  refine lv_iload hx hb dX1_countLatest_5 (lv_at hl 4 rfl) ?_
  refine lv_aload_n hx hb dX1_countLatest_7 rfl (lv_at hl 0 rfl) ?_
  refine gf_X1_X1_rows hF hP 0 rfl rfl dX1_countLatest_8 ?_
  refine xC_ge (tgt := 34) hx hb (by omega) (by omega) dX1_countLatest_11 (by decide) (fun c_11 => ?_) (fun c_11 => ?_)
  · refine lv_iload_n hx hb dX1_countLatest_34 rfl (lv_at hl 3 rfl) ?_
    exact xret_i (V := nI (f)) hF hret hlocks (by rw [I2, show i = nr w by omega]; rfl) dX1_countLatest_35
  · refine lv_aload_n hx hb dX1_countLatest_14 rfl (lv_at hl 0 rfl) ?_
    refine lv_iload hx hb dX1_countLatest_15 (lv_at hl 4 rfl) ?_
    refine lv_iload_n hx hb dX1_countLatest_17 rfl (lv_at hl 1 rfl) ?_
    refine vp_callSi (va_Run.run (xrV hF (c_X1_latestOf l g ao ae ac au fe fc fs w hW hR i k (by omega) (by omega)) cal_X1_latestOf q_254 ⟨by decide, by decide⟩ rfl rfl rfl (va_recv hF.2.1 hP (ci := 1) (q0 := 0) rfl rfl) hZ (hP) hl.1 rfl (Nat.le_of_ble_eq_true rfl) dX1_countLatest_18 ⟨Nat.le_refl _, Nat.le_refl _⟩)) (fun r_ h_ => ?_)
    subst h_
    refine lv_iload_n hx hb dX1_countLatest_21 rfl (lv_at hl 2 rfl) ?_
    refine lv_icmp_ne (tgt := 28) hx hb dX1_countLatest_22 (by decide) (fun c_22 => ?_) (fun c_22 => ?_)
    · refine xN_inc (lv' := [(4, .int (nI (i + 1))), (0, .ref ao), (1, .int (nI k)), (2, .int (x)), (3, .int (nI f))]) hx hb 1 dX1_countLatest_28 hl (k := 4) rfl (by decide) (by decide) rfl (fun ls hl => ?_)
      refine lv_goto (tgt := 5) hx hb dX1_countLatest_31 (by decide) ?_
      exact ih (f, i + 1) ls ⟨by omega, by rw [I2, ctR_f (p := fun i9 => lat w i9 k == x) (Nat.zero_le _) (beq_eq_false_iff_ne.mpr c_22)], lv_sub hl [1, 2, 3, 4, 0] rfl⟩ (by dsimp only; omega)
    · refine xN_inc (lv' := [(3, .int (nI (f + 1))), (0, .ref ao), (1, .int (nI k)), (2, .int (x)), (4, .int (nI i))]) hx hb 1 dX1_countLatest_25 hl (k := 3) rfl (by decide) (by decide) rfl (fun ls hl => ?_)
      refine xN_inc (lv' := [(4, .int (nI (i + 1))), (3, .int (nI (f + 1))), (0, .ref ao), (1, .int (nI k)), (2, .int (x))]) hx hb 1 dX1_countLatest_28 hl (k := 4) rfl (by decide) (by decide) rfl (fun ls hl => ?_)
      refine lv_goto (tgt := 5) hx hb dX1_countLatest_31 (by decide) ?_
      exact ih (f + 1, i + 1) ls ⟨by omega, by rw [I2, ctR_t (p := fun i9 => lat w i9 k == x) (Nat.zero_le _) (beq_iff_eq.mpr c_22)], lv_sub hl [2, 3, 4, 1, 0] rfl⟩ (by dsimp only; omega)
set_option maxHeartbeats 4000000 in
set_option maxRecDepth 100000 in
theorem c_X1_countCorrections (l : Launch) (g : XG) (ao ae ac au : Nat) (fe fc fs w : Nat → Int32) (hW : WF w) (hR : LR fe fc fs w) (k : Nat) (hk : k < 4) : Met l yX1_countCorrections (ww yX1_countCorrections cX1_countCorrections 4 (some .int)) (rmD 2) (xP g [.ref ao, .int (nI k)] (fun H => va_P g.1 vwCl (LogC g ao ae ac au fe fc fs w) H)) (vp_Si (fun r9 => r9 = nI (smR (fun i9 => cnt w (4 * i9 + k) - 1) 0 (nr w)))) 0 0 (fun _ => False) := by
  refine xMet (by decide) rfl (Nat.le_of_ble_eq_true rfl) ?_
  intro p e s m below meth c ls hF hZ hh hret hlocks hin hl
  have hx := hF.1.1
  have hb := hF.1.2.1
  have hP := hh
  have hP : va_P g.1 vwCl (LogC g ao ae ac au fe fc fs w) s.heap := hP
  have hl : lv_has ls 4 [(0, .ref ao), (1, .int (nI k))] := hl
  have h48 := hW.n48
  have hp4 := hW.pg4
  have hp12 := hW.pg12
  have hs1 := hW.st1
  have hw2 := hW.wr2
  have hw6 := hW.wr6
  refine xN_const hx hb 0 dX1_countCorrections_0 (by decide) ?_
  refine lv_istore_n (lv' := [(2, .int (nI 0)), (0, .ref ao), (1, .int (nI k))]) hx hb dX1_countCorrections_1 rfl hl (by decide) rfl (fun ls hl => ?_)
  refine xN_const hx hb 0 dX1_countCorrections_2 (by decide) ?_
  refine lv_istore_n (lv' := [(3, .int (nI 0)), (2, .int (nI 0)), (0, .ref ao), (1, .int (nI k))]) hx hb dX1_countCorrections_3 rfl hl (by decide) rfl (fun ls hl => ?_)
  refine xloop (goal := fun ls => W p l e _ s m _ below meth c s.heap [] _ _ _ (F0 m _ ls [])) (fun (z_ : Nat × Nat) (ls : Array Slot) => match z_ with | (f, i) => (i ≤ nr w) ∧ (f = smR (fun i9 => cnt w (4 * i9 + k) - 1) 0 (i - 0)) ∧ lv_has ls 4 [(0, .ref ao), (1, .int (nI k)), (2, .int (nI f)), (3, .int (nI i))]) (fun (z_ : Nat × Nat) => match z_ with | (f, i) => nr w - i) ?_ (0, 0) ls ⟨Nat.zero_le _, rfl, lv_sub hl [2, 3, 1, 0] rfl⟩
  rintro ⟨f, i⟩ ls ⟨I1, I2, hl⟩ ih
  refine lv_iload_n hx hb dX1_countCorrections_4 rfl (lv_at hl 3 rfl) ?_
  refine lv_aload_n hx hb dX1_countCorrections_5 rfl (lv_at hl 0 rfl) ?_
  refine gf_X1_X1_rows hF hP 0 rfl rfl dX1_countCorrections_6 ?_
  refine xC_ge (tgt := 29) hx hb (by omega) (by omega) dX1_countCorrections_9 (by decide) (fun c_9 => ?_) (fun c_9 => ?_)
  · refine lv_iload_n hx hb dX1_countCorrections_29 rfl (lv_at hl 2 rfl) ?_
    exact xret_i (V := nI (f)) hF hret hlocks (by rw [I2, show i = nr w by omega]; rfl) dX1_countCorrections_30
  · refine lv_iload_n hx hb dX1_countCorrections_12 rfl (lv_at hl 2 rfl) ?_
    refine lv_aload_n hx hb dX1_countCorrections_13 rfl (lv_at hl 0 rfl) ?_
    refine lv_iload_n hx hb dX1_countCorrections_14 rfl (lv_at hl 3 rfl) ?_
    refine lv_iload_n hx hb dX1_countCorrections_15 rfl (lv_at hl 1 rfl) ?_
    refine vp_callSi (va_Run.run (xrV hF (c_X1_entriesOf l g ao ae ac au fe fc fs w hW hR i k (by omega) (by omega)) cal_X1_entriesOf q_409 ⟨by decide, by decide⟩ rfl rfl rfl (va_recv hF.2.1 hP (ci := 1) (q0 := 0) rfl rfl) hZ (hP) hl.1 rfl (Nat.le_of_ble_eq_true rfl) dX1_countCorrections_16 ⟨Nat.le_refl _, Nat.le_refl _⟩)) (fun r_ h_ => ?_)
    subst h_
    refine xN_const hx hb 1 dX1_countCorrections_19 (by decide) ?_
    have hc1 := hW.c1 (i := 4 * i + k) (by omega)
    refine xN_sub hx hb (by omega) dX1_countCorrections_20 ?_
    refine xN_add hx hb dX1_countCorrections_21 ?_
    refine lv_istore_n (lv' := [(2, .int (nI (f + ((cnt w (4 * i + k)) - 1)))), (0, .ref ao), (1, .int (nI k)), (3, .int (nI i))]) hx hb dX1_countCorrections_22 rfl hl (by decide) rfl (fun ls hl => ?_)
    refine xN_inc (lv' := [(3, .int (nI (i + 1))), (2, .int (nI (f + ((cnt w (4 * i + k)) - 1)))), (0, .ref ao), (1, .int (nI k))]) hx hb 1 dX1_countCorrections_23 hl (k := 3) rfl (by decide) (by decide) rfl (fun ls hl => ?_)
    refine lv_goto (tgt := 4) hx hb dX1_countCorrections_26 (by decide) ?_
    exact ih (f + ((cnt w (4 * i + k)) - 1), i + 1) ls ⟨by omega, by rw [I2, smR_step (Nat.zero_le _)], lv_sub hl [2, 3, 1, 0] rfl⟩ (by dsimp only; omega)
set_option maxHeartbeats 4000000 in
set_option maxRecDepth 100000 in
theorem c_X1_countMeaningless (l : Launch) (g : XG) (ao ae ac au : Nat) (fe fc fs w : Nat → Int32) (hW : WF w) (hR : LR fe fc fs w) (k : Nat) (hk : k < 4) (a b : Nat) (hab : a ≤ b) (hb : b ≤ nr w) : Met l yX1_countMeaningless (ww yX1_countMeaningless cX1_countMeaningless 6 (some .int)) (rmD 4) (xP g [.ref ao, .int (nI k), .int (nI a), .int (nI (b) - nI 1)] (fun H => va_P g.1 vwCl (LogC g ao ae ac au fe fc fs w) H)) (vp_Si (fun r9 => r9 = nI (ctR (fun i9 => mean w i9 k == -5) a (b - a)))) 0 0 (fun _ => False) := by
  refine xMet (by decide) rfl (Nat.le_of_ble_eq_true rfl) ?_
  intro p e s m below meth c ls hF hZ hh hret hlocks hin hl
  have hx := hF.1.1
  have hb := hF.1.2.1
  have hP := hh
  have hP : va_P g.1 vwCl (LogC g ao ae ac au fe fc fs w) s.heap := hP
  have hl : lv_has ls 6 [(0, .ref ao), (1, .int (nI k)), (2, .int (nI a)), (3, .int (nI (b) - nI 1))] := hl
  have h48 := hW.n48
  have hp4 := hW.pg4
  have hp12 := hW.pg12
  have hs1 := hW.st1
  have hw2 := hW.wr2
  have hw6 := hW.wr6
  refine xN_const hx hb 0 dX1_countMeaningless_0 (by decide) ?_
  refine lv_istore (lv' := [(4, .int (nI 0)), (0, .ref ao), (1, .int (nI k)), (2, .int (nI a)), (3, .int (nI (b) - nI 1))]) hx hb dX1_countMeaningless_1 hl (by decide) rfl (fun ls hl => ?_)
  refine lv_iload_n hx hb dX1_countMeaningless_3 rfl (lv_at hl 3 rfl) ?_
  refine lv_istore (lv' := [(5, .int (nI a)), (4, .int (nI 0)), (0, .ref ao), (1, .int (nI k)), (2, .int (nI a)), (3, .int (nI (b) - nI 1))]) hx hb dX1_countMeaningless_4 hl (by decide) rfl (fun ls hl => ?_)
  refine xloop (goal := fun ls => W p l e _ s m _ below meth c s.heap [] _ _ _ (F0 m _ ls [])) (fun (z_ : Nat × Nat) (ls : Array Slot) => match z_ with | (f, i) => (a ≤ i) ∧ (i ≤ b) ∧ (f = ctR (fun i9 => mean w i9 k == -5) a (i - a)) ∧ lv_has ls 6 [(0, .ref ao), (1, .int (nI k)), (2, .int (nI a)), (3, .int (nI (b) - nI 1)), (4, .int (nI f)), (5, .int (nI i))]) (fun (z_ : Nat × Nat) => match z_ with | (f, i) => b - i) ?_ (0, a) ls ⟨Nat.le_refl _, hab, by rw [Nat.sub_self]; rfl, lv_sub hl [2, 3, 4, 5, 1, 0] rfl⟩
  rintro ⟨f, i⟩ ls ⟨I0, I1, I2, hl⟩ ih
  have hf := ctR_le (fun i9 => mean w i9 k == -5) a (i - a)
  refine lv_iload hx hb dX1_countMeaningless_6 (lv_at hl 5 rfl) ?_
  refine lv_iload_n hx hb dX1_countMeaningless_8 rfl (lv_at hl 3 rfl) ?_
  refine xE_gt (tgt := 33) hx hb (by omega) (by omega) dX1_countMeaningless_9 (by decide) (fun c_9 => ?_) (fun c_9 => ?_)
  · refine lv_iload hx hb dX1_countMeaningless_33 (lv_at hl 4 rfl) ?_
    exact xret_i (V := nI (f)) hF hret hlocks (by rw [I2, show i = b by omega]) dX1_countMeaningless_35
  · refine lv_aload_n hx hb dX1_countMeaningless_12 rfl (lv_at hl 0 rfl) ?_
    refine lv_iload hx hb dX1_countMeaningless_13 (lv_at hl 5 rfl) ?_
    refine lv_iload_n hx hb dX1_countMeaningless_15 rfl (lv_at hl 1 rfl) ?_
    refine vp_callSi (va_Run.run (xrV hF (c_X1_meaningOf l g ao ae ac au fe fc fs w hW hR i k (by omega) (by omega)) cal_X1_meaningOf q_242 ⟨by decide, by decide⟩ rfl rfl rfl (va_recv hF.2.1 hP (ci := 1) (q0 := 0) rfl rfl) hZ (hP) hl.1 rfl (Nat.le_of_ble_eq_true rfl) dX1_countMeaningless_16 ⟨Nat.le_refl _, Nat.le_refl _⟩)) (fun r_ h_ => ?_)
    subst h_
    refine lv_bipush hx hb (v := (-5)) dX1_countMeaningless_19 (by decide) ?_
    refine lv_icmp_ne (tgt := 27) hx hb dX1_countMeaningless_21 (by decide) (fun c_21 => ?_) (fun c_21 => ?_)
    · refine xN_inc (lv' := [(5, .int (nI (i + 1))), (0, .ref ao), (1, .int (nI k)), (2, .int (nI a)), (3, .int (nI (b) - nI 1)), (4, .int (nI f))]) hx hb 1 dX1_countMeaningless_27 hl (k := 5) rfl (by decide) (by decide) rfl (fun ls hl => ?_)
      refine lv_goto (tgt := 6) hx hb dX1_countMeaningless_30 (by decide) ?_
      exact ih (f, i + 1) ls ⟨by omega, by omega, by rw [I2, ctR_f (p := fun i9 => mean w i9 k == -5) I0 (beq_eq_false_iff_ne.mpr c_21)], lv_sub hl [1, 2, 3, 4, 5, 0] rfl⟩ (by dsimp only; omega)
    · refine xN_inc (lv' := [(4, .int (nI (f + 1))), (0, .ref ao), (1, .int (nI k)), (2, .int (nI a)), (3, .int (nI (b) - nI 1)), (5, .int (nI i))]) hx hb 1 dX1_countMeaningless_24 hl (k := 4) rfl (by decide) (by decide) rfl (fun ls hl => ?_)
      refine xN_inc (lv' := [(5, .int (nI (i + 1))), (4, .int (nI (f + 1))), (0, .ref ao), (1, .int (nI k)), (2, .int (nI a)), (3, .int (nI (b) - nI 1))]) hx hb 1 dX1_countMeaningless_27 hl (k := 5) rfl (by decide) (by decide) rfl (fun ls hl => ?_)
      refine lv_goto (tgt := 6) hx hb dX1_countMeaningless_30 (by decide) ?_
      exact ih (f + 1, i + 1) ls ⟨by omega, by omega, by rw [I2, ctR_t (p := fun i9 => mean w i9 k == -5) I0 (beq_iff_eq.mpr c_21)], lv_sub hl [2, 3, 4, 5, 1, 0] rfl⟩ (by dsimp only; omega)
set_option maxHeartbeats 4000000 in
set_option maxRecDepth 100000 in
theorem c_X1_countDoubtful (l : Launch) (g : XG) (ao ae ac au : Nat) (fe fc fs w : Nat → Int32) (hW : WF w) (hR : LR fe fc fs w) (k : Nat) (hk : k < 4) (a b : Nat) (hab : a ≤ b) (hb : b ≤ nr w) : Met l yX1_countDoubtful (ww yX1_countDoubtful cX1_countDoubtful 6 (some .int)) (rmD 4) (xP g [.ref ao, .int (nI k), .int (nI a), .int (nI (b) - nI 1)] (fun H => va_P g.1 vwCl (LogC g ao ae ac au fe fc fs w) H)) (vp_Si (fun r9 => r9 = nI (ctR (fun i9 => dbt w i9 k) a (b - a)))) 0 0 (fun _ => False) := by
  refine xMet (by decide) rfl (Nat.le_of_ble_eq_true rfl) ?_
  intro p e s m below meth c ls hF hZ hh hret hlocks hin hl
  have hx := hF.1.1
  have hb := hF.1.2.1
  have hP := hh
  have hP : va_P g.1 vwCl (LogC g ao ae ac au fe fc fs w) s.heap := hP
  have hl : lv_has ls 6 [(0, .ref ao), (1, .int (nI k)), (2, .int (nI a)), (3, .int (nI (b) - nI 1))] := hl
  have h48 := hW.n48
  have hp4 := hW.pg4
  have hp12 := hW.pg12
  have hs1 := hW.st1
  have hw2 := hW.wr2
  have hw6 := hW.wr6
  refine xN_const hx hb 0 dX1_countDoubtful_0 (by decide) ?_
  refine lv_istore (lv' := [(4, .int (nI 0)), (0, .ref ao), (1, .int (nI k)), (2, .int (nI a)), (3, .int (nI (b) - nI 1))]) hx hb dX1_countDoubtful_1 hl (by decide) rfl (fun ls hl => ?_)
  refine lv_iload_n hx hb dX1_countDoubtful_3 rfl (lv_at hl 3 rfl) ?_
  refine lv_istore (lv' := [(5, .int (nI a)), (4, .int (nI 0)), (0, .ref ao), (1, .int (nI k)), (2, .int (nI a)), (3, .int (nI (b) - nI 1))]) hx hb dX1_countDoubtful_4 hl (by decide) rfl (fun ls hl => ?_)
  refine xloop (goal := fun ls => W p l e _ s m _ below meth c s.heap [] _ _ _ (F0 m _ ls [])) (fun (z_ : Nat × Nat) (ls : Array Slot) => match z_ with | (f, i) => (a ≤ i) ∧ (i ≤ b) ∧ (f = ctR (fun i9 => dbt w i9 k) a (i - a)) ∧ lv_has ls 6 [(0, .ref ao), (1, .int (nI k)), (2, .int (nI a)), (3, .int (nI (b) - nI 1)), (4, .int (nI f)), (5, .int (nI i))]) (fun (z_ : Nat × Nat) => match z_ with | (f, i) => b - i) ?_ (0, a) ls ⟨Nat.le_refl _, hab, by rw [Nat.sub_self]; rfl, lv_sub hl [2, 3, 4, 5, 1, 0] rfl⟩
  rintro ⟨f, i⟩ ls ⟨I0, I1, I2, hl⟩ ih
  have hf := ctR_le (fun i9 => dbt w i9 k) a (i - a)
  refine lv_iload hx hb dX1_countDoubtful_6 (lv_at hl 5 rfl) ?_
  refine lv_iload_n hx hb dX1_countDoubtful_8 rfl (lv_at hl 3 rfl) ?_
  refine xE_gt (tgt := 31) hx hb (by omega) (by omega) dX1_countDoubtful_9 (by decide) (fun c_9 => ?_) (fun c_9 => ?_)
  · refine lv_iload hx hb dX1_countDoubtful_31 (lv_at hl 4 rfl) ?_
    exact xret_i (V := nI (f)) hF hret hlocks (by rw [I2, show i = b by omega]) dX1_countDoubtful_33
  · refine lv_aload_n hx hb dX1_countDoubtful_12 rfl (lv_at hl 0 rfl) ?_
    refine lv_iload hx hb dX1_countDoubtful_13 (lv_at hl 5 rfl) ?_
    refine lv_iload_n hx hb dX1_countDoubtful_15 rfl (lv_at hl 1 rfl) ?_
    refine vp_callSi (va_Run.run (xrV hF (c_X1_isDoubtful l g ao ae ac au fe fc fs w hW hR i k (by omega) (by omega)) cal_X1_isDoubtful q_482 ⟨by decide, by decide⟩ rfl rfl rfl (va_recv hF.2.1 hP (ci := 1) (q0 := 0) rfl rfl) hZ (hP) hl.1 rfl (Nat.le_of_ble_eq_true rfl) dX1_countDoubtful_16 ⟨Nat.le_refl _, Nat.le_refl _⟩)) (fun r_ h_ => ?_)
    subst h_
    refine xZ_eq (tgt := 25) hx hb dX1_countDoubtful_19 (by decide) (fun c_19 => ?_) (fun c_19 => ?_)
    · refine xN_inc (lv' := [(5, .int (nI (i + 1))), (0, .ref ao), (1, .int (nI k)), (2, .int (nI a)), (3, .int (nI (b) - nI 1)), (4, .int (nI f))]) hx hb 1 dX1_countDoubtful_25 hl (k := 5) rfl (by decide) (by decide) rfl (fun ls hl => ?_)
      refine lv_goto (tgt := 6) hx hb dX1_countDoubtful_28 (by decide) ?_
      exact ih (f, i + 1) ls ⟨by omega, by omega, by rw [I2, ctR_f I0 c_19], lv_sub hl [1, 2, 3, 4, 5, 0] rfl⟩ (by dsimp only; omega)
    · refine xN_inc (lv' := [(4, .int (nI (f + 1))), (0, .ref ao), (1, .int (nI k)), (2, .int (nI a)), (3, .int (nI (b) - nI 1)), (5, .int (nI i))]) hx hb 1 dX1_countDoubtful_22 hl (k := 4) rfl (by decide) (by decide) rfl (fun ls hl => ?_)
      refine xN_inc (lv' := [(5, .int (nI (i + 1))), (4, .int (nI (f + 1))), (0, .ref ao), (1, .int (nI k)), (2, .int (nI a)), (3, .int (nI (b) - nI 1))]) hx hb 1 dX1_countDoubtful_25 hl (k := 5) rfl (by decide) (by decide) rfl (fun ls hl => ?_)
      refine lv_goto (tgt := 6) hx hb dX1_countDoubtful_28 (by decide) ?_
      exact ih (f + 1, i + 1) ls ⟨by omega, by omega, by rw [I2, ctR_t I0 c_19], lv_sub hl [2, 3, 4, 5, 1, 0] rfl⟩ (by dsimp only; omega)
set_option maxHeartbeats 4000000 in
set_option maxRecDepth 100000 in
theorem c_X1_longestChain (l : Launch) (g : XG) (ao ae ac au : Nat) (fe fc fs w : Nat → Int32) (hW : WF w) (hR : LR fe fc fs w) (k : Nat) (hk : k < 4) : Met l yX1_longestChain (ww yX1_longestChain cX1_longestChain 4 (some .int)) (rmD 4) (xP g [.ref ao, .int (nI k)] (fun H => va_P g.1 vwCl (LogC g ao ae ac au fe fc fs w) H)) (vp_Si (fun r9 => r9 = nI (mxR (fun i9 => i9 - top w k i9 + 1) (nr w)))) 0 0 (fun _ => False) := by
  refine xMet (by decide) rfl (Nat.le_of_ble_eq_true rfl) ?_
  intro p e s m below meth c ls hF hZ hh hret hlocks hin hl
  have hx := hF.1.1
  have hb := hF.1.2.1
  have hP := hh
  have hP : va_P g.1 vwCl (LogC g ao ae ac au fe fc fs w) s.heap := hP
  have hl : lv_has ls 4 [(0, .ref ao), (1, .int (nI k))] := hl
  have h48 := hW.n48
  have hp4 := hW.pg4
  have hp12 := hW.pg12
  have hs1 := hW.st1
  have hw2 := hW.wr2
  have hw6 := hW.wr6
  refine xN_const hx hb 0 dX1_longestChain_0 (by decide) ?_
  refine lv_istore_n (lv' := [(2, .int (nI 0)), (0, .ref ao), (1, .int (nI k))]) hx hb dX1_longestChain_1 rfl hl (by decide) rfl (fun ls hl => ?_)
  refine xN_const hx hb 0 dX1_longestChain_2 (by decide) ?_
  refine lv_istore_n (lv' := [(3, .int (nI 0)), (2, .int (nI 0)), (0, .ref ao), (1, .int (nI k))]) hx hb dX1_longestChain_3 rfl hl (by decide) rfl (fun ls hl => ?_)
  refine xloop (goal := fun ls => W p l e _ s m _ below meth c s.heap [] _ _ _ (F0 m _ ls [])) (fun (z_ : Nat × Nat) (ls : Array Slot) => match z_ with | (f, i) => (i ≤ nr w) ∧ (f = mxR (fun i9 => i9 - top w k i9 + 1) i) ∧ lv_has ls 4 [(0, .ref ao), (1, .int (nI k)), (2, .int (nI f)), (3, .int (nI i))]) (fun (z_ : Nat × Nat) => match z_ with | (f, i) => nr w - i) ?_ (0, 0) ls ⟨Nat.zero_le _, rfl, lv_sub hl [2, 3, 1, 0] rfl⟩
  rintro ⟨f, i⟩ ls ⟨I1, I2, hl⟩ ih
  have hf : f ≤ 49 := by rw [I2]; exact mxR_le _ 49 i (fun q hq => by omega)
  refine lv_iload_n hx hb dX1_longestChain_4 rfl (lv_at hl 3 rfl) ?_
  refine lv_aload_n hx hb dX1_longestChain_5 rfl (lv_at hl 0 rfl) ?_
  refine gf_X1_X1_rows hF hP 0 rfl rfl dX1_longestChain_6 ?_
  refine xC_ge (tgt := 29) hx hb (by omega) (by omega) dX1_longestChain_9 (by decide) (fun c_9 => ?_) (fun c_9 => ?_)
  · refine lv_iload_n hx hb dX1_longestChain_29 rfl (lv_at hl 2 rfl) ?_
    exact xret_i (V := nI (f)) hF hret hlocks (by rw [I2, show i = nr w by omega]) dX1_longestChain_30
  · refine lv_iload_n hx hb dX1_longestChain_12 rfl (lv_at hl 2 rfl) ?_
    refine lv_aload_n hx hb dX1_longestChain_13 rfl (lv_at hl 0 rfl) ?_
    refine lv_iload_n hx hb dX1_longestChain_14 rfl (lv_at hl 3 rfl) ?_
    refine lv_iload_n hx hb dX1_longestChain_15 rfl (lv_at hl 1 rfl) ?_
    refine vp_callSi (va_Run.run (xrV hF (c_X1_chainOf l g ao ae ac au fe fc fs w hW hR i k (by omega) (by omega)) cal_X1_chainOf q_473 ⟨by decide, by decide⟩ rfl rfl rfl (va_recv hF.2.1 hP (ci := 1) (q0 := 0) rfl rfl) hZ (hP) hl.1 rfl (Nat.le_of_ble_eq_true rfl) dX1_longestChain_16 ⟨Nat.le_refl _, Nat.le_refl _⟩)) (fun r_ h_ => ?_)
    subst h_
    refine va_mmax hx hb (hF.1.2.2.1.trans hl.1.symm) hF.1.2.2.2.1 (hF.1.2.2.2.2 _ q_470) (hF.1.2.2.2.2 _ q_471) (hF.1.2.2.2.2 _ q_92) (hF.1.2.2.2.2 _ q_472) (Nat.le_of_ble_eq_true rfl) (Nat.le_of_ble_eq_true rfl) (Nat.le_refl _) (Nat.le_refl _) dX1_longestChain_19 ?_
    rw [show ((if nI (f) < nI (i - top w k i + 1) then nI (i - top w k i + 1) else nI (f)) : Int32) = nI (if f < i - top w k i + 1 then i - top w k i + 1 else f) from nI_ite _ _ (by omega) (by omega)]
    refine lv_istore_n (lv' := [(2, .int (nI (if f < i - top w k i + 1 then i - top w k i + 1 else f))), (0, .ref ao), (1, .int (nI k)), (3, .int (nI i))]) hx hb dX1_longestChain_22 rfl hl (by decide) rfl (fun ls hl => ?_)
    refine xN_inc (lv' := [(3, .int (nI (i + 1))), (2, .int (nI (if f < i - top w k i + 1 then i - top w k i + 1 else f))), (0, .ref ao), (1, .int (nI k))]) hx hb 1 dX1_longestChain_23 hl (k := 3) rfl (by decide) (by decide) rfl (fun ls hl => ?_)
    refine lv_goto (tgt := 4) hx hb dX1_longestChain_26 (by decide) ?_
    exact ih (if f < i - top w k i + 1 then i - top w k i + 1 else f, i + 1) ls ⟨by omega, by rw [I2]; rfl, lv_sub hl [2, 3, 1, 0] rfl⟩ (by dsimp only; omega)
set_option maxHeartbeats 4000000 in
set_option maxRecDepth 100000 in
theorem c_X1_countWrittenOut (l : Launch) (g : XG) (ao ae ac au : Nat) (fe fc fs w : Nat → Int32) (hW : WF w) (hR : LR fe fc fs w)  : Met l yX1_countWrittenOut (ww yX1_countWrittenOut cX1_countWrittenOut 3 (some .int)) (rmD 2) (xP g [.ref ao] (fun H => va_P g.1 vwCl (LogC g ao ae ac au fe fc fs w) H)) (vp_Si (fun r9 => r9 = nI (ctR (wrB w) 0 (nr w)))) 0 0 (fun _ => False) := by
  refine xMet (by decide) rfl (Nat.le_of_ble_eq_true rfl) ?_
  intro p e s m below meth c ls hF hZ hh hret hlocks hin hl
  have hx := hF.1.1
  have hb := hF.1.2.1
  have hP := hh
  have hP : va_P g.1 vwCl (LogC g ao ae ac au fe fc fs w) s.heap := hP
  have hl : lv_has ls 3 [(0, .ref ao)] := hl
  have h48 := hW.n48
  have hp4 := hW.pg4
  have hp12 := hW.pg12
  have hs1 := hW.st1
  have hw2 := hW.wr2
  have hw6 := hW.wr6
  refine xN_const hx hb 0 dX1_countWrittenOut_0 (by decide) ?_
  refine lv_istore_n (lv' := [(1, .int (nI 0)), (0, .ref ao)]) hx hb dX1_countWrittenOut_1 rfl hl (by decide) rfl (fun ls hl => ?_)
  refine xN_const hx hb 0 dX1_countWrittenOut_2 (by decide) ?_
  refine lv_istore_n (lv' := [(2, .int (nI 0)), (1, .int (nI 0)), (0, .ref ao)]) hx hb dX1_countWrittenOut_3 rfl hl (by decide) rfl (fun ls hl => ?_)
  refine xloop (goal := fun ls => W p l e _ s m _ below meth c s.heap [] _ _ _ (F0 m _ ls [])) (fun (z_ : Nat × Nat) (ls : Array Slot) => match z_ with | (f, i) => (i ≤ nr w) ∧ (f = ctR (wrB w) 0 (i - 0)) ∧ lv_has ls 3 [(0, .ref ao), (1, .int (nI f)), (2, .int (nI i))]) (fun (z_ : Nat × Nat) => match z_ with | (f, i) => nr w - i) ?_ (0, 0) ls ⟨Nat.zero_le _, rfl, lv_sub hl [2, 1, 0] rfl⟩
  rintro ⟨f, i⟩ ls ⟨I1, I2, hl⟩ ih
  have hf := ctR_le (wrB w) 0 (i - 0)
  refine lv_iload_n hx hb dX1_countWrittenOut_4 rfl (lv_at hl 2 rfl) ?_
  refine lv_aload_n hx hb dX1_countWrittenOut_5 rfl (lv_at hl 0 rfl) ?_
  refine gf_X1_X1_rows hF hP 0 rfl rfl dX1_countWrittenOut_6 ?_
  refine xC_ge (tgt := 29) hx hb (by omega) (by omega) dX1_countWrittenOut_9 (by decide) (fun c_9 => ?_) (fun c_9 => ?_)
  · refine lv_iload_n hx hb dX1_countWrittenOut_29 rfl (lv_at hl 1 rfl) ?_
    exact xret_i (V := nI (f)) hF hret hlocks (by rw [I2, show i = nr w by omega]; rfl) dX1_countWrittenOut_30
  · refine lv_aload_n hx hb dX1_countWrittenOut_12 rfl (lv_at hl 0 rfl) ?_
    refine lv_iload_n hx hb dX1_countWrittenOut_13 rfl (lv_at hl 2 rfl) ?_
    refine vp_callSi (va_Run.run (xrV hF (c_X1_isWrittenOut l g ao ae ac au fe fc fs w hW hR i (by omega)) cal_X1_isWrittenOut q_657 ⟨by decide, by decide⟩ rfl rfl rfl (va_recv hF.2.1 hP (ci := 1) (q0 := 0) rfl rfl) hZ (hP) hl.1 rfl (Nat.le_of_ble_eq_true rfl) dX1_countWrittenOut_14 ⟨Nat.le_refl _, Nat.le_refl _⟩)) (fun r_ h_ => ?_)
    subst h_
    refine xZ_eq (tgt := 23) hx hb dX1_countWrittenOut_17 (by decide) (fun c_17 => ?_) (fun c_17 => ?_)
    · refine xN_inc (lv' := [(2, .int (nI (i + 1))), (0, .ref ao), (1, .int (nI f))]) hx hb 1 dX1_countWrittenOut_23 hl (k := 2) rfl (by decide) (by decide) rfl (fun ls hl => ?_)
      refine lv_goto (tgt := 4) hx hb dX1_countWrittenOut_26 (by decide) ?_
      exact ih (f, i + 1) ls ⟨by omega, by rw [I2, ctR_f (Nat.zero_le _) c_17], lv_sub hl [1, 2, 0] rfl⟩ (by dsimp only; omega)
    · refine xN_inc (lv' := [(1, .int (nI (f + 1))), (0, .ref ao), (2, .int (nI i))]) hx hb 1 dX1_countWrittenOut_20 hl (k := 1) rfl (by decide) (by decide) rfl (fun ls hl => ?_)
      refine xN_inc (lv' := [(2, .int (nI (i + 1))), (1, .int (nI (f + 1))), (0, .ref ao)]) hx hb 1 dX1_countWrittenOut_23 hl (k := 2) rfl (by decide) (by decide) rfl (fun ls hl => ?_)
      refine lv_goto (tgt := 4) hx hb dX1_countWrittenOut_26 (by decide) ?_
      exact ih (f + 1, i + 1) ls ⟨by omega, by rw [I2, ctR_t (Nat.zero_le _) c_17], lv_sub hl [2, 1, 0] rfl⟩ (by dsimp only; omega)
set_option maxHeartbeats 4000000 in
set_option maxRecDepth 100000 in
theorem c_X1_watches (l : Launch) (g : XG) (ao ae ac au : Nat) (fe fc fs w : Nat → Int32) (hW : WF w) (hR : LR fe fc fs w)  : Met l yX1_watches (ww yX1_watches cX1_watches 1 (some .int)) (rmD 0) (xP g [.ref ao] (fun H => va_P g.1 vwCl (LogC g ao ae ac au fe fc fs w) H)) (vp_Si (fun r9 => r9 = nI (wcs w))) 0 0 (fun _ => False) := by
  refine xMet (by decide) rfl (Nat.le_of_ble_eq_true rfl) ?_
  intro p e s m below meth c ls hF hZ hh hret hlocks hin hl
  have hx := hF.1.1
  have hb := hF.1.2.1
  have hP := hh
  have hP : va_P g.1 vwCl (LogC g ao ae ac au fe fc fs w) s.heap := hP
  have hl : lv_has ls 1 [(0, .ref ao)] := hl
  have h48 := hW.n48
  have hp4 := hW.pg4
  have hp12 := hW.pg12
  have hs1 := hW.st1
  have hw2 := hW.wr2
  have hw6 := hW.wr6
  refine lv_aload_n hx hb dX1_watches_0 rfl (lv_at hl 0 rfl) ?_
  refine gf_X1_X1_watchRows hF hP 0 rfl rfl dX1_watches_1 ?_
  refine xI_le (tgt := 26) hx hb (by omega) dX1_watches_4 (by decide) (fun c_4 => absurd c_4 (by omega)) (fun c_4 => ?_)
  refine lv_aload_n hx hb dX1_watches_7 rfl (lv_at hl 0 rfl) ?_
  refine gf_X1_X1_rows hF hP 0 rfl rfl dX1_watches_8 ?_
  refine lv_aload_n hx hb dX1_watches_11 rfl (lv_at hl 0 rfl) ?_
  refine gf_X1_X1_watchRows hF hP 0 rfl rfl dX1_watches_12 ?_
  refine xN_add hx hb dX1_watches_15 ?_
  refine xN_const hx hb 1 dX1_watches_16 (by decide) ?_
  refine xN_sub hx hb (by omega) dX1_watches_17 ?_
  refine lv_aload_n hx hb dX1_watches_18 rfl (lv_at hl 0 rfl) ?_
  refine gf_X1_X1_watchRows hF hP 0 rfl rfl dX1_watches_19 ?_
  refine xN_div hx hb (by omega) (by omega) (by omega) dX1_watches_22 ?_
  refine lv_goto (tgt := 27) hx hb dX1_watches_23 (by decide) ?_
  exact xret_i (V := nI (((nr w + (wrN w)) - 1) / (wrN w))) hF hret hlocks (rfl) dX1_watches_27
set_option maxHeartbeats 4000000 in
set_option maxRecDepth 100000 in
theorem c_X1_firstRowOf (l : Launch) (g : XG) (ao ae ac au : Nat) (fe fc fs w : Nat → Int32) (hW : WF w) (hR : LR fe fc fs w) (t : Nat) : Met l yX1_firstRowOf (ww yX1_firstRowOf cX1_firstRowOf 2 (some .int)) (rmD 0) (xP g [.ref ao, .int (nI t)] (fun H => va_P g.1 vwCl (LogC g ao ae ac au fe fc fs w) H)) (vp_Si (fun r9 => r9 = nI (t * wrN w))) 0 0 (fun _ => False) := by
  refine xMet (by decide) rfl (Nat.le_of_ble_eq_true rfl) ?_
  intro p e s m below meth c ls hF hZ hh hret hlocks hin hl
  have hx := hF.1.1
  have hb := hF.1.2.1
  have hP := hh
  have hP : va_P g.1 vwCl (LogC g ao ae ac au fe fc fs w) s.heap := hP
  have hl : lv_has ls 2 [(0, .ref ao), (1, .int (nI t))] := hl
  have h48 := hW.n48
  have hp4 := hW.pg4
  have hp12 := hW.pg12
  have hs1 := hW.st1
  have hw2 := hW.wr2
  have hw6 := hW.wr6
  refine lv_iload_n hx hb dX1_firstRowOf_0 rfl (lv_at hl 1 rfl) ?_
  refine lv_aload_n hx hb dX1_firstRowOf_1 rfl (lv_at hl 0 rfl) ?_
  refine gf_X1_X1_watchRows hF hP 0 rfl rfl dX1_firstRowOf_2 ?_
  refine xN_mul hx hb dX1_firstRowOf_5 ?_
  exact xret_i (V := nI (t * (wrN w))) hF hret hlocks (rfl) dX1_firstRowOf_6
set_option maxHeartbeats 4000000 in
set_option maxRecDepth 100000 in
theorem c_X1_lastRowOf (l : Launch) (g : XG) (ao ae ac au : Nat) (fe fc fs w : Nat → Int32) (hW : WF w) (hR : LR fe fc fs w) (t : Nat) (ht : t < 24) : Met l yX1_lastRowOf (ww yX1_lastRowOf cX1_lastRowOf 2 (some .int)) (rmD 1) (xP g [.ref ao, .int (nI t)] (fun H => va_P g.1 vwCl (LogC g ao ae ac au fe fc fs w) H)) (vp_Si (fun r9 => r9 = nI (lstN w t) - nI 1)) 0 0 (fun _ => False) := by
  refine xMet (by decide) rfl (Nat.le_of_ble_eq_true rfl) ?_
  intro p e s m below meth c ls hF hZ hh hret hlocks hin hl
  have hx := hF.1.1
  have hb := hF.1.2.1
  have hP := hh
  have hP : va_P g.1 vwCl (LogC g ao ae ac au fe fc fs w) s.heap := hP
  have hl : lv_has ls 2 [(0, .ref ao), (1, .int (nI t))] := hl
  have h48 := hW.n48
  have hp4 := hW.pg4
  have hp12 := hW.pg12
  have hs1 := hW.st1
  have hw2 := hW.wr2
  have hw6 := hW.wr6
  have htw : t * wrN w ≤ 24 * 6 := Nat.mul_le_mul (by omega) (by omega)
  refine lv_iload_n hx hb dX1_lastRowOf_0 rfl (lv_at hl 1 rfl) ?_
  refine lv_aload_n hx hb dX1_lastRowOf_1 rfl (lv_at hl 0 rfl) ?_
  refine gf_X1_X1_watchRows hF hP 0 rfl rfl dX1_lastRowOf_2 ?_
  refine xN_mul hx hb dX1_lastRowOf_5 ?_
  refine lv_aload_n hx hb dX1_lastRowOf_6 rfl (lv_at hl 0 rfl) ?_
  refine gf_X1_X1_watchRows hF hP 0 rfl rfl dX1_lastRowOf_7 ?_
  refine xN_add hx hb dX1_lastRowOf_10 ?_
  refine lv_aload_n hx hb dX1_lastRowOf_11 rfl (lv_at hl 0 rfl) ?_
  refine gf_X1_X1_rows hF hP 0 rfl rfl dX1_lastRowOf_12 ?_
  refine va_mmin hx hb (hF.1.2.2.1.trans hl.1.symm) hF.1.2.2.2.1 (hF.1.2.2.2.2 _ q_524) (hF.1.2.2.2.2 _ q_91) (hF.1.2.2.2.2 _ q_92) (hF.1.2.2.2.2 _ q_93) (Nat.le_of_ble_eq_true rfl) (Nat.le_of_ble_eq_true rfl) (Nat.le_refl _) (Nat.le_refl _) dX1_lastRowOf_15 ?_
  rw [show ((if nI (nr w) < nI (t * (wrN w) + (wrN w)) then nI (nr w) else nI (t * (wrN w) + (wrN w))) : Int32) = nI (lstN w t) from by rw [show (if nI (nr w) < nI (t * wrN w + wrN w) then nI (nr w) else nI (t * wrN w + wrN w)) = nI (if nr w < t * wrN w + wrN w then nr w else t * wrN w + wrN w) from (by by_cases h : nr w < t * wrN w + wrN w; { rw [if_pos h, if_pos (nI_lt h (by omega))] }; { rw [if_neg h, if_neg (nI_nlt (by omega) (by omega))] })]; unfold lstN; rw [Nat.succ_mul]]
  refine xN_const hx hb 1 dX1_lastRowOf_18 (by decide) ?_
  refine lv_isub hx hb dX1_lastRowOf_19 ?_
  exact xret_i (V := nI (lstN w t) - nI 1) hF hret hlocks (rfl) dX1_lastRowOf_20
set_option maxHeartbeats 4000000 in
set_option maxRecDepth 100000 in
theorem c_X1_runOf (l : Launch) (g : XG) (ao ae ac au : Nat) (fe fc fs w : Nat → Int32) (hW : WF w) (hR : LR fe fc fs w) (a b : Nat) (hab : a ≤ b) (hb : b ≤ nr w) : Met l yX1_runOf (ww yX1_runOf cX1_runOf 5 (some .int)) (rmD 4) (xP g [.ref ao, .int (nI a), .int (nI (b) - nI 1)] (fun H => va_P g.1 vwCl (LogC g ao ae ac au fe fc fs w) H)) (vp_Si (fun r9 => r9 = nI (runN w a b))) 0 0 (fun _ => False) := by
  refine xMet (by decide) rfl (Nat.le_of_ble_eq_true rfl) ?_
  intro p e s m below meth c ls hF hZ hh hret hlocks hin hl
  have hx := hF.1.1
  have hb := hF.1.2.1
  have hP := hh
  have hP : va_P g.1 vwCl (LogC g ao ae ac au fe fc fs w) s.heap := hP
  have hl : lv_has ls 5 [(0, .ref ao), (1, .int (nI a)), (2, .int (nI (b) - nI 1))] := hl
  have h48 := hW.n48
  have hp4 := hW.pg4
  have hp12 := hW.pg12
  have hs1 := hW.st1
  have hw2 := hW.wr2
  have hw6 := hW.wr6
  refine xN_const hx hb 0 dX1_runOf_0 (by decide) ?_
  refine lv_istore_n (lv' := [(3, .int (nI 0)), (0, .ref ao), (1, .int (nI a)), (2, .int (nI (b) - nI 1))]) hx hb dX1_runOf_1 rfl hl (by decide) rfl (fun ls hl => ?_)
  refine lv_iload_n hx hb dX1_runOf_2 rfl (lv_at hl 2 rfl) ?_
  refine lv_istore (lv' := [(4, .int (nI a)), (3, .int (nI 0)), (0, .ref ao), (1, .int (nI a)), (2, .int (nI (b) - nI 1))]) hx hb dX1_runOf_3 hl (by decide) rfl (fun ls hl => ?_)
  refine xloop (goal := fun ls => W p l e _ s m _ below meth c s.heap [] _ _ _ (F0 m _ ls [])) (fun (z_ : Nat × Nat) (ls : Array Slot) => match z_ with | (f, i) => (a ≤ i) ∧ (i ≤ b) ∧ (f = smR (spd w) a (i - a)) ∧ lv_has ls 5 [(0, .ref ao), (1, .int (nI a)), (2, .int (nI (b) - nI 1)), (3, .int (nI f)), (4, .int (nI i))]) (fun (z_ : Nat × Nat) => match z_ with | (f, i) => b - i) ?_ (0, a) ls ⟨Nat.le_refl _, hab, by rw [Nat.sub_self]; rfl, lv_sub hl [2, 3, 4, 1, 0] rfl⟩
  rintro ⟨f, i⟩ ls ⟨I0, I1, I2, hl⟩ ih
  refine lv_iload hx hb dX1_runOf_5 (lv_at hl 4 rfl) ?_
  refine lv_iload_n hx hb dX1_runOf_7 rfl (lv_at hl 2 rfl) ?_
  refine xE_gt (tgt := 31) hx hb (by omega) (by omega) dX1_runOf_8 (by decide) (fun c_8 => ?_) (fun c_8 => ?_)
  · refine lv_iload_n hx hb dX1_runOf_31 rfl (lv_at hl 3 rfl) ?_
    exact xret_i (V := nI (f)) hF hret hlocks (by rw [I2, show i = b by omega]; rfl) dX1_runOf_32
  · refine lv_iload_n hx hb dX1_runOf_11 rfl (lv_at hl 3 rfl) ?_
    refine xN_const hx hb 0 dX1_runOf_12 (by decide) ?_
    refine lv_aload_n hx hb dX1_runOf_13 rfl (lv_at hl 0 rfl) ?_
    refine lv_iload hx hb dX1_runOf_14 (lv_at hl 4 rfl) ?_
    refine xN_const hx hb 1 dX1_runOf_16 (by decide) ?_
    refine vp_callSi (va_Run.run (xrV hF (c_X1_meaningOf l g ao ae ac au fe fc fs w hW hR i 1 (by omega) (by omega)) cal_X1_meaningOf q_242 ⟨by decide, by decide⟩ rfl rfl rfl (va_recv hF.2.1 hP (ci := 1) (q0 := 0) rfl rfl) hZ (hP) hl.1 rfl (Nat.le_of_ble_eq_true rfl) dX1_runOf_17 ⟨Nat.le_refl _, Nat.le_refl _⟩)) (fun r_ h_ => ?_)
    subst h_
    refine va_mmax hx hb (hF.1.2.2.1.trans hl.1.symm) hF.1.2.2.2.1 (hF.1.2.2.2.2 _ q_470) (hF.1.2.2.2.2 _ q_471) (hF.1.2.2.2.2 _ q_92) (hF.1.2.2.2.2 _ q_472) (Nat.le_of_ble_eq_true rfl) (Nat.le_of_ble_eq_true rfl) (Nat.le_refl _) (Nat.le_refl _) dX1_runOf_20 ?_
    rw [show ((if nI (0) < (mean w i 1) then (mean w i 1) else nI (0)) : Int32) = nI (spd w i) from xmax0 _]
    refine xN_add hx hb dX1_runOf_23 ?_
    refine lv_istore_n (lv' := [(3, .int (nI (f + (spd w i)))), (0, .ref ao), (1, .int (nI a)), (2, .int (nI (b) - nI 1)), (4, .int (nI i))]) hx hb dX1_runOf_24 rfl hl (by decide) rfl (fun ls hl => ?_)
    refine xN_inc (lv' := [(4, .int (nI (i + 1))), (3, .int (nI (f + (spd w i)))), (0, .ref ao), (1, .int (nI a)), (2, .int (nI (b) - nI 1))]) hx hb 1 dX1_runOf_25 hl (k := 4) rfl (by decide) (by decide) rfl (fun ls hl => ?_)
    refine lv_goto (tgt := 5) hx hb dX1_runOf_28 (by decide) ?_
    exact ih (f + (spd w i), i + 1) ls ⟨by omega, by omega, by rw [I2, smR_step I0], lv_sub hl [2, 3, 4, 1, 0] rfl⟩ (by dsimp only; omega)
set_option maxHeartbeats 4000000 in
set_option maxRecDepth 100000 in
theorem c_X1_countWrongSums (l : Launch) (g : XG) (ao ae ac au : Nat) (fe fc fs w : Nat → Int32) (hW : WF w) (hR : LR fe fc fs w)  : Met l yX1_countWrongSums (ww yX1_countWrongSums cX1_countWrongSums 5 (some .int)) (rmD 5) (xP g [.ref ao] (fun H => va_P g.1 vwCl (LogC g ao ae ac au fe fc fs w) H)) (vp_Si (fun r9 => r9 = nI (ctR (wrgB w) 0 (wcs w)))) 0 0 (fun _ => False) := by
  refine xMet (by decide) rfl (Nat.le_of_ble_eq_true rfl) ?_
  intro p e s m below meth c ls hF hZ hh hret hlocks hin hl
  have hx := hF.1.1
  have hb := hF.1.2.1
  have hP := hh
  have hP : va_P g.1 vwCl (LogC g ao ae ac au fe fc fs w) s.heap := hP
  have hl : lv_has ls 5 [(0, .ref ao)] := hl
  have h48 := hW.n48
  have hp4 := hW.pg4
  have hp12 := hW.pg12
  have hs1 := hW.st1
  have hw2 := hW.wr2
  have hw6 := hW.wr6
  have hwc := wcs_le hW
  refine xN_const hx hb 0 dX1_countWrongSums_0 (by decide) ?_
  refine lv_istore_n (lv' := [(1, .int (nI 0)), (0, .ref ao)]) hx hb dX1_countWrongSums_1 rfl hl (by decide) rfl (fun ls hl => ?_)
  refine lv_aload_n hx hb dX1_countWrongSums_2 rfl (lv_at hl 1 rfl) ?_
  refine vp_callSi (va_Run.run (xrV hF (c_X1_watches l g ao ae ac au fe fc fs w hW hR  ) cal_X1_watches q_661 ⟨by decide, by decide⟩ rfl rfl rfl (va_recv hF.2.1 hP (ci := 1) (q0 := 0) rfl rfl) hZ (hP) hl.1 rfl (Nat.le_of_ble_eq_true rfl) dX1_countWrongSums_3 ⟨Nat.le_refl _, Nat.le_refl _⟩)) (fun r_ h_ => ?_)
  subst h_
  refine lv_istore_n (lv' := [(2, .int (nI (wcs w))), (1, .int (nI 0)), (0, .ref ao)]) hx hb dX1_countWrongSums_6 rfl hl (by decide) rfl (fun ls hl => ?_)
  refine xN_const hx hb 0 dX1_countWrongSums_7 (by decide) ?_
  refine lv_istore_n (lv' := [(3, .int (nI 0)), (2, .int (nI (wcs w))), (1, .int (nI 0)), (0, .ref ao)]) hx hb dX1_countWrongSums_8 rfl hl (by decide) rfl (fun ls hl => ?_)
  refine xloop (goal := fun ls => W p l e _ s m _ below meth c s.heap [] _ _ _ (F0 m _ ls [])) (fun (z_ : Nat × Nat) (ls : Array Slot) => match z_ with | (f, i) => (i ≤ wcs w) ∧ (f = ctR (wrgB w) 0 (i - 0)) ∧ lv_has ls 5 [(0, .ref ao), (1, .int (nI f)), (2, .int (nI (wcs w))), (3, .int (nI i))]) (fun (z_ : Nat × Nat) => match z_ with | (f, i) => wcs w - i) ?_ (0, 0) ls ⟨Nat.zero_le _, rfl, lv_sub hl [3, 2, 1, 0] rfl⟩
  rintro ⟨f, i⟩ ls ⟨I1, I2, hl⟩ ih
  have hf := ctR_le (wrgB w) 0 (i - 0)
  refine lv_iload_n hx hb dX1_countWrongSums_9 rfl (lv_at hl 3 rfl) ?_
  refine lv_iload_n hx hb dX1_countWrongSums_10 rfl (lv_at hl 2 rfl) ?_
  refine xC_ge (tgt := 56) hx hb (by omega) (by omega) dX1_countWrongSums_11 (by decide) (fun c_11 => ?_) (fun c_11 => ?_)
  · refine lv_iload_n hx hb dX1_countWrongSums_56 rfl (lv_at hl 1 rfl) ?_
    exact xret_i (V := nI (f)) hF hret hlocks (by rw [I2, show i = wcs w by omega]; rfl) dX1_countWrongSums_57
  · refine lv_aload_n hx hb dX1_countWrongSums_14 rfl (lv_at hl 0 rfl) ?_
    refine lv_iload_n hx hb dX1_countWrongSums_15 rfl (lv_at hl 3 rfl) ?_
    refine vp_callSi (va_Run.run (xrV hF (c_X1_sumOf l g ao ae ac au fe fc fs w hW hR i (by omega)) cal_X1_sumOf q_662 ⟨by decide, by decide⟩ rfl rfl rfl (va_recv hF.2.1 hP (ci := 1) (q0 := 0) rfl rfl) hZ (hP) hl.1 rfl (Nat.le_of_ble_eq_true rfl) dX1_countWrongSums_16 ⟨Nat.le_refl _, Nat.le_refl _⟩)) (fun r_ h_ => ?_)
    subst h_
    refine lv_istore (lv' := [(4, .int (w (4 + i))), (0, .ref ao), (1, .int (nI f)), (2, .int (nI (wcs w))), (3, .int (nI i))]) hx hb dX1_countWrongSums_19 hl (by decide) rfl (fun ls hl => ?_)
    refine lv_iload hx hb dX1_countWrongSums_21 (lv_at hl 0 rfl) ?_
    refine lv_bipush hx hb (v := (-5)) dX1_countWrongSums_23 (by decide) ?_
    refine lv_icmp_eq (tgt := 50) hx hb dX1_countWrongSums_25 (by decide) (fun c_25 => ?_) (fun c_25 => ?_)
    · refine xN_inc (lv' := [(3, .int (nI (i + 1))), (4, .int (w (4 + i))), (0, .ref ao), (1, .int (nI f)), (2, .int (nI (wcs w)))]) hx hb 1 dX1_countWrongSums_50 hl (k := 4) rfl (by decide) (by decide) rfl (fun ls hl => ?_)
      refine lv_goto (tgt := 9) hx hb dX1_countWrongSums_53 (by decide) ?_
      exact ih (f, i + 1) ls ⟨by omega, by rw [I2, ctR_f (Nat.zero_le _) (by unfold wrgB; rw [c_25]; rfl)], lv_sub hl [2, 3, 4, 0] rfl⟩ (by dsimp only; omega)
    · refine lv_iload hx hb dX1_countWrongSums_28 (lv_at hl 0 rfl) ?_
      refine lv_aload_n hx hb dX1_countWrongSums_30 rfl (lv_at hl 1 rfl) ?_
      refine lv_aload_n hx hb dX1_countWrongSums_31 rfl (lv_at hl 1 rfl) ?_
      refine lv_iload_n hx hb dX1_countWrongSums_32 rfl (lv_at hl 4 rfl) ?_
      refine vp_callSi (va_Run.run (xrV hF (c_X1_firstRowOf l g ao ae ac au fe fc fs w hW hR i ) cal_X1_firstRowOf q_663 ⟨by decide, by decide⟩ rfl rfl rfl (va_recv hF.2.1 hP (ci := 1) (q0 := 0) rfl rfl) hZ (hP) hl.1 rfl (Nat.le_of_ble_eq_true rfl) dX1_countWrongSums_33 ⟨Nat.le_refl _, Nat.le_refl _⟩)) (fun r_ h_ => ?_)
      subst h_
      refine lv_aload_n hx hb dX1_countWrongSums_36 rfl (lv_at hl 1 rfl) ?_
      refine lv_iload_n hx hb dX1_countWrongSums_37 rfl (lv_at hl 4 rfl) ?_
      refine vp_callSi (va_Run.run (xrV hF (c_X1_lastRowOf l g ao ae ac au fe fc fs w hW hR i (by omega)) cal_X1_lastRowOf q_664 ⟨by decide, by decide⟩ rfl rfl rfl (va_recv hF.2.1 hP (ci := 1) (q0 := 0) rfl rfl) hZ (hP) hl.1 rfl (Nat.le_of_ble_eq_true rfl) dX1_countWrongSums_38 ⟨Nat.le_refl _, Nat.le_refl _⟩)) (fun r_ h_ => ?_)
      subst h_
      have hl1 := lstN_le w i
      have hl2 := lstN_ge hW (t := i) (by omega)
      refine vp_callSi (va_Run.run (xrV hF (c_X1_runOf l g ao ae ac au fe fc fs w hW hR (i * wrN w) (lstN w i) (by omega) (by omega)) cal_X1_runOf q_665 ⟨by decide, by decide⟩ rfl rfl rfl (va_recv hF.2.1 hP (ci := 1) (q0 := 0) rfl rfl) hZ (hP) hl.1 rfl (Nat.le_of_ble_eq_true rfl) dX1_countWrongSums_41 ⟨Nat.le_refl _, Nat.le_refl _⟩)) (fun r_ h_ => ?_)
      subst h_
      refine lv_icmp_eq (tgt := 50) hx hb dX1_countWrongSums_44 (by decide) (fun c_44 => ?_) (fun c_44 => ?_)
      · refine xN_inc (lv' := [(3, .int (nI (i + 1))), (4, .int (w (4 + i))), (0, .ref ao), (1, .int (nI f)), (2, .int (nI (wcs w)))]) hx hb 1 dX1_countWrongSums_50 hl (k := 4) rfl (by decide) (by decide) rfl (fun ls hl => ?_)
        refine lv_goto (tgt := 9) hx hb dX1_countWrongSums_53 (by decide) ?_
        exact ih (f, i + 1) ls ⟨by omega, by rw [I2, ctR_f (Nat.zero_le _) (by unfold wrgB; rw [c_44, beq_self_eq_true, Bool.not_true, Bool.and_false])], lv_sub hl [2, 3, 4, 0] rfl⟩ (by dsimp only; omega)
      · refine xN_inc (lv' := [(1, .int (nI (f + 1))), (4, .int (w (4 + i))), (0, .ref ao), (2, .int (nI (wcs w))), (3, .int (nI i))]) hx hb 1 dX1_countWrongSums_47 hl (k := 2) rfl (by decide) (by decide) rfl (fun ls hl => ?_)
        refine xN_inc (lv' := [(3, .int (nI (i + 1))), (1, .int (nI (f + 1))), (4, .int (w (4 + i))), (0, .ref ao), (2, .int (nI (wcs w)))]) hx hb 1 dX1_countWrongSums_50 hl (k := 4) rfl (by decide) (by decide) rfl (fun ls hl => ?_)
        refine lv_goto (tgt := 9) hx hb dX1_countWrongSums_53 (by decide) ?_
        exact ih (f + 1, i + 1) ls ⟨by omega, by rw [I2, ctR_t (Nat.zero_le _) (by unfold wrgB; rw [beq_eq_false_iff_ne.mpr c_25, beq_eq_false_iff_ne.mpr c_44]; rfl)], lv_sub hl [3, 1, 4, 0] rfl⟩ (by dsimp only; omega)
end
section
/-! the reference: its methods that read -/
set_option maxHeartbeats 4000000 in
set_option maxRecDepth 100000 in
theorem c_X4_in (l : Launch) (g : XG) (v lo hi : Int32) : Met l yX4_in (ww yX4_in cX4_in 3 (some .boolean)) (rmD 0) (xP g [.int (v), .int (lo), .int (hi)] (fun H => True)) (vp_Si (fun r9 => r9 = xz (decide (lo ≤ v) && decide (v ≤ hi)))) 0 0 (fun _ => False) := by
  refine xMet (by decide) rfl (Nat.le_of_ble_eq_true rfl) ?_
  intro p e s m below meth c ls hF hZ hh hret hlocks hin hl
  have hx := hF.1.1
  have hb := hF.1.2.1
  have hl : lv_has ls 3 [(0, .int (v)), (1, .int (lo)), (2, .int (hi))] := hl
  refine lv_iload_n hx hb dX4_in_0 rfl (lv_at hl 0 rfl) ?_
  refine lv_iload_n hx hb dX4_in_1 rfl (lv_at hl 1 rfl) ?_
  refine lv_icmp_lt (tgt := 14) hx hb dX4_in_2 (by decide) (fun c_2 => ?_) (fun c_2 => ?_)
  · refine xN_const hx hb 0 dX4_in_14 (by decide) ?_
    exact xret_t (V := nI (0)) hF hret hlocks rfl (xz_f (by rw [decide_eq_false (Int32.not_le.mpr c_2)]; rfl)) dX4_in_15
  · refine lv_iload_n hx hb dX4_in_5 rfl (lv_at hl 0 rfl) ?_
    refine lv_iload_n hx hb dX4_in_6 rfl (lv_at hl 2 rfl) ?_
    refine lv_icmp_gt (tgt := 14) hx hb dX4_in_7 (by decide) (fun c_7 => ?_) (fun c_7 => ?_)
    · refine xN_const hx hb 0 dX4_in_14 (by decide) ?_
      exact xret_t (V := nI (0)) hF hret hlocks rfl (xz_f (by rw [decide_eq_false (Int32.not_le.mpr c_7), Bool.and_false])) dX4_in_15
    · refine xN_const hx hb 1 dX4_in_10 (by decide) ?_
      refine lv_goto (tgt := 15) hx hb dX4_in_11 (by decide) ?_
      exact xret_t (V := nI (1)) hF hret hlocks rfl (xz_t (by rw [decide_eq_true (Int32.not_lt.mp c_2), decide_eq_true (Int32.not_lt.mp c_7)]; rfl)) dX4_in_15
set_option maxHeartbeats 4000000 in
set_option maxRecDepth 100000 in
theorem c_X4_isRow (l : Launch) (g : XG) (mo mn mp mq mt mm md zs zl zp zr : Nat) (zk : Bool) (w : Nat → Int32) (hW : WF w) (x : Int32) : Met l yX4_isRow (ww yX4_isRow cX4_isRow 2 (some .boolean)) (rmD 1) (xP g [.ref mo, .int (x)] (fun H => va_P g.1 vwCl (ModC g mo mn mp mq mt mm md zs zl zp zr zk w) H)) (vp_Si (fun r9 => r9 = xz (rowB w x))) 0 0 (fun _ => False) := by
  refine xMet (by decide) rfl (Nat.le_of_ble_eq_true rfl) ?_
  intro p e s m below meth c ls hF hZ hh hret hlocks hin hl
  have hx := hF.1.1
  have hb := hF.1.2.1
  have hP := hh
  have hP : va_P g.1 vwCl (ModC g mo mn mp mq mt mm md zs zl zp zr zk w) s.heap := hP
  have hl : lv_has ls 2 [(0, .ref mo), (1, .int (x))] := hl
  have h48 := hW.n48
  have hp4 := hW.pg4
  have hp12 := hW.pg12
  have hs1 := hW.st1
  have hw2 := hW.wr2
  have hw6 := hW.wr6
  refine lv_iload_n hx hb dX4_isRow_0 rfl (lv_at hl 1 rfl) ?_
  refine xN_const hx hb 0 dX4_isRow_1 (by decide) ?_
  refine lv_aload_n hx hb dX4_isRow_2 rfl (lv_at hl 0 rfl) ?_
  refine gf_X4_X4_now hF hP 0 rfl rfl dX4_isRow_3 ?_
  refine xN_const hx hb 0 dX4_isRow_6 (by decide) ?_
  refine xA_ild hF hP 1 rfl (by omega) (by decide) (v := nI (nr w)) (hW.r0) dX4_isRow_7 ?_
  refine xN_const hx hb 1 dX4_isRow_8 (by decide) ?_
  refine lv_isub hx hb dX4_isRow_9 ?_
  refine vp_callSi (va_Run.run (xrS hF (c_X4_in l g ((x)) (nI (0)) (nI (nr w) - nI 1) ) cal_X4_in q_119 ⟨by decide, by decide⟩ rfl rfl rfl hZ (trivial) hl.1 rfl (Nat.le_of_ble_eq_true rfl) dX4_isRow_10 ⟨Nat.le_refl _, Nat.le_refl _⟩)) (fun r_ h_ => ?_)
  subst h_
  exact xret_t (V := xz (decide ((nI (0)) ≤ ((x))) && decide (((x)) ≤ (nI (nr w) - nI 1)))) hF hret hlocks (xz_nar _) (congrArg xz (rowB_in hW x)) dX4_isRow_13
set_option maxHeartbeats 4000000 in
set_option maxRecDepth 100000 in
theorem c_X4_isColumn (l : Launch) (g : XG) (x : Int32) : Met l yX4_isColumn (ww yX4_isColumn cX4_isColumn 1 (some .boolean)) (rmD 1) (xP g [.int (x)] (fun H => True)) (vp_Si (fun r9 => r9 = xz (colB x))) 0 0 (fun _ => False) := by
  refine xMet (by decide) rfl (Nat.le_of_ble_eq_true rfl) ?_
  intro p e s m below meth c ls hF hZ hh hret hlocks hin hl
  have hx := hF.1.1
  have hb := hF.1.2.1
  have hl : lv_has ls 1 [(0, .int (x))] := hl
  refine lv_iload_n hx hb dX4_isColumn_0 rfl (lv_at hl 0 rfl) ?_
  refine xN_const hx hb 0 dX4_isColumn_1 (by decide) ?_
  refine xN_const hx hb 3 dX4_isColumn_2 (by decide) ?_
  refine vp_callSi (va_Run.run (xrS hF (c_X4_in l g ((x)) (nI (0)) (nI (3)) ) cal_X4_in q_119 ⟨by decide, by decide⟩ rfl rfl rfl hZ (trivial) hl.1 rfl (Nat.le_of_ble_eq_true rfl) dX4_isColumn_3 ⟨Nat.le_refl _, Nat.le_refl _⟩)) (fun r_ h_ => ?_)
  subst h_
  exact xret_t (V := xz (decide ((nI (0)) ≤ ((x))) && decide (((x)) ≤ (nI (3))))) hF hret hlocks (xz_nar _) (congrArg xz (colB_in x)) dX4_isColumn_6
set_option maxHeartbeats 4000000 in
set_option maxRecDepth 100000 in
theorem c_X4_isCell (l : Launch) (g : XG) (mo mn mp mq mt mm md zs zl zp zr : Nat) (zk : Bool) (w : Nat → Int32) (hW : WF w) (x y : Int32) : Met l yX4_isCell (ww yX4_isCell cX4_isCell 3 (some .boolean)) (rmD 2) (xP g [.ref mo, .int (x), .int (y)] (fun H => va_P g.1 vwCl (ModC g mo mn mp mq mt mm md zs zl zp zr zk w) H)) (vp_Si (fun r9 => r9 = xz (rowB w x && colB y))) 0 0 (fun _ => False) := by
  refine xMet (by decide) rfl (Nat.le_of_ble_eq_true rfl) ?_
  intro p e s m below meth c ls hF hZ hh hret hlocks hin hl
  have hx := hF.1.1
  have hb := hF.1.2.1
  have hP := hh
  have hP : va_P g.1 vwCl (ModC g mo mn mp mq mt mm md zs zl zp zr zk w) s.heap := hP
  have hl : lv_has ls 3 [(0, .ref mo), (1, .int (x)), (2, .int (y))] := hl
  have h48 := hW.n48
  have hp4 := hW.pg4
  have hp12 := hW.pg12
  have hs1 := hW.st1
  have hw2 := hW.wr2
  have hw6 := hW.wr6
  refine lv_aload_n hx hb dX4_isCell_0 rfl (lv_at hl 0 rfl) ?_
  refine lv_iload_n hx hb dX4_isCell_1 rfl (lv_at hl 1 rfl) ?_
  refine vp_callSi (va_Run.run (xrV hF (c_X4_isRow l g mo mn mp mq mt mm md zs zl zp zr zk w hW ((x)) ) cal_X4_isRow q_267 ⟨by decide, by decide⟩ rfl rfl rfl (va_recv hF.2.1 hP (ci := 4) (q0 := 0) rfl rfl) hZ (hP) hl.1 rfl (Nat.le_of_ble_eq_true rfl) dX4_isCell_2 ⟨Nat.le_refl _, Nat.le_refl _⟩)) (fun r_ h_ => ?_)
  subst h_
  refine xZ_eq (tgt := 19) hx hb dX4_isCell_5 (by decide) (fun c_5 => ?_) (fun c_5 => ?_)
  · refine xN_const hx hb 0 dX4_isCell_19 (by decide) ?_
    exact xret_t (V := nI (0)) hF hret hlocks rfl (by rw [c_5]; rfl) dX4_isCell_20
  · refine lv_iload_n hx hb dX4_isCell_8 rfl (lv_at hl 2 rfl) ?_
    refine vp_callSi (va_Run.run (xrS hF (c_X4_isColumn l g ((y)) ) cal_X4_isColumn q_271 ⟨by decide, by decide⟩ rfl rfl rfl hZ (trivial) hl.1 rfl (Nat.le_of_ble_eq_true rfl) dX4_isCell_9 ⟨Nat.le_refl _, Nat.le_refl _⟩)) (fun r_ h_ => ?_)
    subst h_
    refine xZ_eq (tgt := 19) hx hb dX4_isCell_12 (by decide) (fun c_12 => ?_) (fun c_12 => ?_)
    · refine xN_const hx hb 0 dX4_isCell_19 (by decide) ?_
      exact xret_t (V := nI (0)) hF hret hlocks rfl (by rw [c_5, c_12]; rfl) dX4_isCell_20
    · refine xN_const hx hb 1 dX4_isCell_15 (by decide) ?_
      refine lv_goto (tgt := 20) hx hb dX4_isCell_16 (by decide) ?_
      exact xret_t (V := nI (1)) hF hret hlocks rfl (by rw [c_5, c_12]; rfl) dX4_isCell_20
set_option maxHeartbeats 4000000 in
set_option maxRecDepth 100000 in
theorem c_X4_most (l : Launch) (g : XG) (k : Nat) (hk : k < 4) : Met l yX4_most (ww yX4_most cX4_most 1 (some .int)) (rmD 0) (xP g [.int (nI k)] (fun H => True)) (vp_Si (fun r9 => r9 = nI (cmN k))) 0 0 (fun _ => False) := by
  refine xMet (by decide) rfl (Nat.le_of_ble_eq_true rfl) ?_
  intro p e s m below meth c ls hF hZ hh hret hlocks hin hl
  have hx := hF.1.1
  have hb := hF.1.2.1
  have hl : lv_has ls 1 [(0, .int (nI k))] := hl
  refine lv_iload_n hx hb dX4_most_0 rfl (lv_at hl 0 rfl) ?_
  refine xI_ne (tgt := 9) hx hb (by omega) dX4_most_1 (by decide) (fun c_1 => ?_) (fun c_1 => ?_)
  · have hk9 : k = 1 ∨ k = 2 ∨ k = 3 := by omega
    refine lv_iload_n hx hb dX4_most_9 rfl (lv_at hl 0 rfl) ?_
    refine xN_const hx hb 1 dX4_most_10 (by decide) ?_
    refine xC_ne (tgt := 20) hx hb (by omega) (by omega) dX4_most_11 (by decide) (fun c_11 => ?_) (fun c_11 => ?_)
    · refine lv_iload_n hx hb dX4_most_20 rfl (lv_at hl 0 rfl) ?_
      refine xN_const hx hb 3 dX4_most_21 (by decide) ?_
      refine xC_ne (tgt := 30) hx hb (by omega) (by omega) dX4_most_22 (by decide) (fun c_22 => ?_) (fun c_22 => ?_)
      · refine xN_bi hx hb 12 dX4_most_30 (by decide) ?_
        exact xret_i (V := nI (12)) hF hret hlocks (by rw [show k = 2 by omega]; rfl) dX4_most_32
      · refine xN_bi hx hb 9 dX4_most_25 (by decide) ?_
        refine lv_goto (tgt := 32) hx hb dX4_most_27 (by decide) ?_
        exact xret_i (V := nI (9)) hF hret hlocks (by rw [c_22]; rfl) dX4_most_32
    · refine xN_si hx hb 199 dX4_most_14 (by decide) ?_
      refine lv_goto (tgt := 32) hx hb dX4_most_17 (by decide) ?_
      exact xret_i (V := nI (199)) hF hret hlocks (by rw [c_11]; rfl) dX4_most_32
  · refine xN_bi hx hb 7 dX4_most_4 (by decide) ?_
    refine lv_goto (tgt := 32) hx hb dX4_most_6 (by decide) ?_
    exact xret_i (V := nI (7)) hF hret hlocks (by rw [c_1]; rfl) dX4_most_32
set_option maxHeartbeats 4000000 in
set_option maxRecDepth 100000 in
theorem c_X4_isEntry (l : Launch) (g : XG) (k : Nat) (x : Int32) (hk : k < 4) : Met l yX4_isEntry (ww yX4_isEntry cX4_isEntry 2 (some .boolean)) (rmD 1) (xP g [.int (nI k), .int (x)] (fun H => True)) (vp_Si (fun r9 => r9 = xz (entB k x))) 0 0 (fun _ => False) := by
  refine xMet (by decide) rfl (Nat.le_of_ble_eq_true rfl) ?_
  intro p e s m below meth c ls hF hZ hh hret hlocks hin hl
  have hx := hF.1.1
  have hb := hF.1.2.1
  have hl : lv_has ls 2 [(0, .int (nI k)), (1, .int (x))] := hl
  refine lv_iload_n hx hb dX4_isEntry_0 rfl (lv_at hl 1 rfl) ?_
  refine lv_bipush hx hb (v := (-5)) dX4_isEntry_1 (by decide) ?_
  refine lv_icmp_eq (tgt := 24) hx hb dX4_isEntry_3 (by decide) (fun c_3 => ?_) (fun c_3 => ?_)
  · refine xN_const hx hb 1 dX4_isEntry_24 (by decide) ?_
    refine lv_goto (tgt := 29) hx hb dX4_isEntry_25 (by decide) ?_
    exact xret_t (V := nI (1)) hF hret hlocks rfl (xz_t (entB_t1 c_3)) dX4_isEntry_29
  · refine lv_iload_n hx hb dX4_isEntry_6 rfl (lv_at hl 1 rfl) ?_
    refine lv_bipush hx hb (v := (-6)) dX4_isEntry_7 (by decide) ?_
    refine lv_icmp_eq (tgt := 24) hx hb dX4_isEntry_9 (by decide) (fun c_9 => ?_) (fun c_9 => ?_)
    · refine xN_const hx hb 1 dX4_isEntry_24 (by decide) ?_
      refine lv_goto (tgt := 29) hx hb dX4_isEntry_25 (by decide) ?_
      exact xret_t (V := nI (1)) hF hret hlocks rfl (xz_t (entB_t2 c_9)) dX4_isEntry_29
    · refine lv_iload_n hx hb dX4_isEntry_12 rfl (lv_at hl 1 rfl) ?_
      refine xN_const hx hb 0 dX4_isEntry_13 (by decide) ?_
      refine lv_iload_n hx hb dX4_isEntry_14 rfl (lv_at hl 0 rfl) ?_
      refine vp_callSi (va_Run.run (xrS hF (c_X4_most l g k (by omega)) cal_X4_most q_116 ⟨by decide, by decide⟩ rfl rfl rfl hZ (trivial) hl.1 rfl (Nat.le_of_ble_eq_true rfl) dX4_isEntry_15 ⟨Nat.le_refl _, Nat.le_refl _⟩)) (fun r_ h_ => ?_)
      subst h_
      refine vp_callSi (va_Run.run (xrS hF (c_X4_in l g ((x)) (nI (0)) (nI (cmN k)) ) cal_X4_in q_119 ⟨by decide, by decide⟩ rfl rfl rfl hZ (trivial) hl.1 rfl (Nat.le_of_ble_eq_true rfl) dX4_isEntry_18 ⟨Nat.le_refl _, Nat.le_refl _⟩)) (fun r_ h_ => ?_)
      subst h_
      refine xZ_eq (tgt := 28) hx hb dX4_isEntry_21 (by decide) (fun c_21 => ?_) (fun c_21 => ?_)
      · refine xN_const hx hb 0 dX4_isEntry_28 (by decide) ?_
        exact xret_t (V := nI (0)) hF hret hlocks rfl (xz_f ((entB_in c_3 c_9).symm.trans c_21)) dX4_isEntry_29
      · refine xN_const hx hb 1 dX4_isEntry_24 (by decide) ?_
        refine lv_goto (tgt := 29) hx hb dX4_isEntry_25 (by decide) ?_
        exact xret_t (V := nI (1)) hF hret hlocks rfl (xz_t ((entB_in c_3 c_9).symm.trans c_21)) dX4_isEntry_29
set_option maxHeartbeats 4000000 in
set_option maxRecDepth 100000 in
theorem c_X4_cellAt (l : Launch) (g : XG) (r k : Nat) : Met l yX4_cellAt (ww yX4_cellAt cX4_cellAt 2 (some .int)) (rmD 0) (xP g [.int (nI r), .int (nI k)] (fun H => True)) (vp_Si (fun r9 => r9 = nI (28 + 5 * (4 * r + k)))) 0 0 (fun _ => False) := by
  refine xMet (by decide) rfl (Nat.le_of_ble_eq_true rfl) ?_
  intro p e s m below meth c ls hF hZ hh hret hlocks hin hl
  have hx := hF.1.1
  have hb := hF.1.2.1
  have hl : lv_has ls 2 [(0, .int (nI r)), (1, .int (nI k))] := hl
  refine xN_bi hx hb 28 dX4_cellAt_0 (by decide) ?_
  refine xN_const hx hb 5 dX4_cellAt_2 (by decide) ?_
  refine xN_const hx hb 4 dX4_cellAt_3 (by decide) ?_
  refine lv_iload_n hx hb dX4_cellAt_4 rfl (lv_at hl 0 rfl) ?_
  refine xN_mul hx hb dX4_cellAt_5 ?_
  refine lv_iload_n hx hb dX4_cellAt_6 rfl (lv_at hl 1 rfl) ?_
  refine xN_add hx hb dX4_cellAt_7 ?_
  refine xN_mul hx hb dX4_cellAt_8 ?_
  refine xN_add hx hb dX4_cellAt_9 ?_
  exact xret_i (V := nI (28 + (5 * (4 * r + k)))) hF hret hlocks (rfl) dX4_cellAt_10
set_option maxHeartbeats 4000000 in
set_option maxRecDepth 100000 in
theorem c_X4_entries (l : Launch) (g : XG) (mo mn mp mq mt mm md zs zl zp zr : Nat) (zk : Bool) (w : Nat → Int32) (hW : WF w) (r k : Nat) (hr : r < nr w) (hk : k < 4) : Met l yX4_entries (ww yX4_entries cX4_entries 3 (some .int)) (rmD 1) (xP g [.ref mo, .int (nI r), .int (nI k)] (fun H => va_P g.1 vwCl (ModC g mo mn mp mq mt mm md zs zl zp zr zk w) H)) (vp_Si (fun r9 => r9 = nI (cnt w (4 * r + k)))) 0 0 (fun _ => False) := by
  refine xMet (by decide) rfl (Nat.le_of_ble_eq_true rfl) ?_
  intro p e s m below meth c ls hF hZ hh hret hlocks hin hl
  have hx := hF.1.1
  have hb := hF.1.2.1
  have hP := hh
  have hP : va_P g.1 vwCl (ModC g mo mn mp mq mt mm md zs zl zp zr zk w) s.heap := hP
  have hl : lv_has ls 3 [(0, .ref mo), (1, .int (nI r)), (2, .int (nI k))] := hl
  have h48 := hW.n48
  have hp4 := hW.pg4
  have hp12 := hW.pg12
  have hs1 := hW.st1
  have hw2 := hW.wr2
  have hw6 := hW.wr6
  refine lv_aload_n hx hb dX4_entries_0 rfl (lv_at hl 0 rfl) ?_
  refine gf_X4_X4_now hF hP 0 rfl rfl dX4_entries_1 ?_
  refine lv_iload_n hx hb dX4_entries_4 rfl (lv_at hl 1 rfl) ?_
  refine lv_iload_n hx hb dX4_entries_5 rfl (lv_at hl 2 rfl) ?_
  refine vp_callSi (va_Run.run (xrS hF (c_X4_cellAt l g r k ) cal_X4_cellAt q_134 ⟨by decide, by decide⟩ rfl rfl rfl hZ (trivial) hl.1 rfl (Nat.le_of_ble_eq_true rfl) dX4_entries_6 ⟨Nat.le_refl _, Nat.le_refl _⟩)) (fun r_ h_ => ?_)
  subst h_
  refine xA_ild hF hP 1 rfl (by omega) (by decide) (v := nI (cnt w (4 * r + k))) (hW.c (by omega)) dX4_entries_9 ?_
  exact xret_i (V := nI (cnt w (4 * r + k))) hF hret hlocks (rfl) dX4_entries_10
set_option maxHeartbeats 4000000 in
set_option maxRecDepth 100000 in
theorem c_X4_latest (l : Launch) (g : XG) (mo mn mp mq mt mm md zs zl zp zr : Nat) (zk : Bool) (w : Nat → Int32) (hW : WF w) (r k : Nat) (hr : r < nr w) (hk : k < 4) : Met l yX4_latest (ww yX4_latest cX4_latest 3 (some .int)) (rmD 2) (xP g [.ref mo, .int (nI r), .int (nI k)] (fun H => va_P g.1 vwCl (ModC g mo mn mp mq mt mm md zs zl zp zr zk w) H)) (vp_Si (fun r9 => r9 = lat w r k)) 0 0 (fun _ => False) := by
  refine xMet (by decide) rfl (Nat.le_of_ble_eq_true rfl) ?_
  intro p e s m below meth c ls hF hZ hh hret hlocks hin hl
  have hx := hF.1.1
  have hb := hF.1.2.1
  have hP := hh
  have hP : va_P g.1 vwCl (ModC g mo mn mp mq mt mm md zs zl zp zr zk w) s.heap := hP
  have hl : lv_has ls 3 [(0, .ref mo), (1, .int (nI r)), (2, .int (nI k))] := hl
  have h48 := hW.n48
  have hp4 := hW.pg4
  have hp12 := hW.pg12
  have hs1 := hW.st1
  have hw2 := hW.wr2
  have hw6 := hW.wr6
  have hc4 := hW.c4 (i := 4 * r + k) (by omega)
  refine lv_aload_n hx hb dX4_latest_0 rfl (lv_at hl 0 rfl) ?_
  refine gf_X4_X4_now hF hP 0 rfl rfl dX4_latest_1 ?_
  refine lv_iload_n hx hb dX4_latest_4 rfl (lv_at hl 1 rfl) ?_
  refine lv_iload_n hx hb dX4_latest_5 rfl (lv_at hl 2 rfl) ?_
  refine vp_callSi (va_Run.run (xrS hF (c_X4_cellAt l g r k ) cal_X4_cellAt q_134 ⟨by decide, by decide⟩ rfl rfl rfl hZ (trivial) hl.1 rfl (Nat.le_of_ble_eq_true rfl) dX4_latest_6 ⟨Nat.le_refl _, Nat.le_refl _⟩)) (fun r_ h_ => ?_)
  subst h_
  refine lv_aload_n hx hb dX4_latest_9 rfl (lv_at hl 0 rfl) ?_
  refine lv_iload_n hx hb dX4_latest_10 rfl (lv_at hl 1 rfl) ?_
  refine lv_iload_n hx hb dX4_latest_11 rfl (lv_at hl 2 rfl) ?_
  refine vp_callSi (va_Run.run (xrV hF (c_X4_entries l g mo mn mp mq mt mm md zs zl zp zr zk w hW r k (by omega) (by omega)) cal_X4_entries q_274 ⟨by decide, by decide⟩ rfl rfl rfl (va_recv hF.2.1 hP (ci := 4) (q0 := 0) rfl rfl) hZ (hP) hl.1 rfl (Nat.le_of_ble_eq_true rfl) dX4_latest_12 ⟨Nat.le_refl _, Nat.le_refl _⟩)) (fun r_ h_ => ?_)
  subst h_
  refine xN_add hx hb dX4_latest_15 ?_
  refine xA_ild hF hP 1 rfl (by omega) (by decide) (v := (lat w r k)) rfl dX4_latest_16 ?_
  exact xret_i (V := (lat w r k)) hF hret hlocks (rfl) dX4_latest_17
set_option maxHeartbeats 4000000 in
set_option maxRecDepth 100000 in
theorem c_X4_goesUp (l : Launch) (g : XG) (mo mn mp mq mt mm md zs zl zp zr : Nat) (zk : Bool) (w : Nat → Int32) (hW : WF w) (r k : Nat) (hr : r < nr w) (hk : k < 4) : Met l yX4_goesUp (ww yX4_goesUp cX4_goesUp 4 (some .boolean)) (rmD 3) (xP g [.ref mo, .int (nI r), .int (nI k)] (fun H => va_P g.1 vwCl (ModC g mo mn mp mq mt mm md zs zl zp zr zk w) H)) (vp_Si (fun r9 => r9 = xz (upB w r k))) 0 0 (fun _ => False) := by
  refine xMet (by decide) rfl (Nat.le_of_ble_eq_true rfl) ?_
  intro p e s m below meth c ls hF hZ hh hret hlocks hin hl
  have hx := hF.1.1
  have hb := hF.1.2.1
  have hP := hh
  have hP : va_P g.1 vwCl (ModC g mo mn mp mq mt mm md zs zl zp zr zk w) s.heap := hP
  have hl : lv_has ls 4 [(0, .ref mo), (1, .int (nI r)), (2, .int (nI k))] := hl
  have h48 := hW.n48
  have hp4 := hW.pg4
  have hp12 := hW.pg12
  have hs1 := hW.st1
  have hw2 := hW.wr2
  have hw6 := hW.wr6
  have hm := Nat.mod_lt r (show 0 < pgN w by omega)
  refine lv_iload_n hx hb dX4_goesUp_0 rfl (lv_at hl 1 rfl) ?_
  refine xI_eq (tgt := 25) hx hb (by omega) dX4_goesUp_1 (by decide) (fun c_1 => ?_) (fun c_1 => ?_)
  · have ab : abvB w r = false := by rw [c_1]; rfl
    refine xN_const hx hb 1 dX4_goesUp_25 (by decide) ?_
    refine lv_goto (tgt := 30) hx hb dX4_goesUp_26 (by decide) ?_
    refine lv_istore_n (lv' := [(3, .int (nI 1)), (0, .ref mo), (1, .int (nI r)), (2, .int (nI k))]) hx hb dX4_goesUp_30 rfl hl (by decide) rfl (fun ls hl => ?_)
    refine lv_aload_n hx hb dX4_goesUp_31 rfl (lv_at hl 1 rfl) ?_
    refine lv_iload_n hx hb dX4_goesUp_32 rfl (lv_at hl 2 rfl) ?_
    refine lv_iload_n hx hb dX4_goesUp_33 rfl (lv_at hl 3 rfl) ?_
    refine vp_callSi (va_Run.run (xrV hF (c_X4_latest l g mo mn mp mq mt mm md zs zl zp zr zk w hW r k (by omega) (by omega)) cal_X4_latest q_278 ⟨by decide, by decide⟩ rfl rfl rfl (va_recv hF.2.1 hP (ci := 4) (q0 := 0) rfl rfl) hZ (hP) hl.1 rfl (Nat.le_of_ble_eq_true rfl) dX4_goesUp_34 ⟨Nat.le_refl _, Nat.le_refl _⟩)) (fun r_ h_ => ?_)
    subst h_
    refine lv_bipush hx hb (v := (-6)) dX4_goesUp_37 (by decide) ?_
    refine lv_icmp_ne (tgt := 50) hx hb dX4_goesUp_39 (by decide) (fun c_39 => ?_) (fun c_39 => ?_)
    · refine xN_const hx hb 0 dX4_goesUp_50 (by decide) ?_
      exact xret_t (V := nI (0)) hF hret hlocks rfl (xz_f (by unfold upB; rw [beq_eq_false_iff_ne.mpr c_39, Bool.false_and])) dX4_goesUp_51
    · refine lv_iload_n hx hb dX4_goesUp_42 rfl (lv_at hl 0 rfl) ?_
      refine xI_ne (tgt := 50) hx hb (by omega) dX4_goesUp_43 (by decide) (fun c_43 => ?_) (fun c_43 => absurd c_43 (by decide))
      refine xN_const hx hb 0 dX4_goesUp_50 (by decide) ?_
      exact xret_t (V := nI (0)) hF hret hlocks rfl (xz_f (by unfold upB; rw [ab, Bool.and_false])) dX4_goesUp_51
  · refine lv_aload_n hx hb dX4_goesUp_4 rfl (lv_at hl 0 rfl) ?_
    refine gf_X4_X4_now hF hP 0 rfl rfl dX4_goesUp_5 ?_
    refine xN_const hx hb 2 dX4_goesUp_8 (by decide) ?_
    refine xA_ild hF hP 1 rfl (by omega) (by decide) (v := nI (stN w)) (hW.r2) dX4_goesUp_9 ?_
    refine xN_const hx hb 1 dX4_goesUp_10 (by decide) ?_
    refine xC_ne (tgt := 29) hx hb (by omega) (by omega) dX4_goesUp_11 (by decide) (fun c_11 => ?_) (fun c_11 => ?_)
    · have ab : abvB w r = true := by unfold abvB; rw [show stN w = 0 by omega]; simp; omega
      refine xN_const hx hb 0 dX4_goesUp_29 (by decide) ?_
      refine lv_istore_n (lv' := [(3, .int (nI 0)), (0, .ref mo), (1, .int (nI r)), (2, .int (nI k))]) hx hb dX4_goesUp_30 rfl hl (by decide) rfl (fun ls hl => ?_)
      refine lv_aload_n hx hb dX4_goesUp_31 rfl (lv_at hl 1 rfl) ?_
      refine lv_iload_n hx hb dX4_goesUp_32 rfl (lv_at hl 2 rfl) ?_
      refine lv_iload_n hx hb dX4_goesUp_33 rfl (lv_at hl 3 rfl) ?_
      refine vp_callSi (va_Run.run (xrV hF (c_X4_latest l g mo mn mp mq mt mm md zs zl zp zr zk w hW r k (by omega) (by omega)) cal_X4_latest q_278 ⟨by decide, by decide⟩ rfl rfl rfl (va_recv hF.2.1 hP (ci := 4) (q0 := 0) rfl rfl) hZ (hP) hl.1 rfl (Nat.le_of_ble_eq_true rfl) dX4_goesUp_34 ⟨Nat.le_refl _, Nat.le_refl _⟩)) (fun r_ h_ => ?_)
      subst h_
      refine lv_bipush hx hb (v := (-6)) dX4_goesUp_37 (by decide) ?_
      refine lv_icmp_ne (tgt := 50) hx hb dX4_goesUp_39 (by decide) (fun c_39 => ?_) (fun c_39 => ?_)
      · refine xN_const hx hb 0 dX4_goesUp_50 (by decide) ?_
        exact xret_t (V := nI (0)) hF hret hlocks rfl (xz_f (by unfold upB; rw [beq_eq_false_iff_ne.mpr c_39, Bool.false_and])) dX4_goesUp_51
      · refine lv_iload_n hx hb dX4_goesUp_42 rfl (lv_at hl 0 rfl) ?_
        refine xI_ne (tgt := 50) hx hb (by omega) dX4_goesUp_43 (by decide) (fun c_43 => absurd c_43 (by decide)) (fun c_43 => ?_)
        refine xN_const hx hb 1 dX4_goesUp_46 (by decide) ?_
        refine lv_goto (tgt := 51) hx hb dX4_goesUp_47 (by decide) ?_
        exact xret_t (V := nI (1)) hF hret hlocks rfl (xz_t (by unfold upB; rw [ab, c_39]; rfl)) dX4_goesUp_51
    · refine lv_iload_n hx hb dX4_goesUp_14 rfl (lv_at hl 1 rfl) ?_
      refine lv_aload_n hx hb dX4_goesUp_15 rfl (lv_at hl 0 rfl) ?_
      refine gf_X4_X4_now hF hP 0 rfl rfl dX4_goesUp_16 ?_
      refine xN_const hx hb 1 dX4_goesUp_19 (by decide) ?_
      refine xA_ild hF hP 1 rfl (by omega) (by decide) (v := nI (pgN w)) (hW.r1) dX4_goesUp_20 ?_
      refine xN_rem hx hb (by omega) (by omega) (by omega) dX4_goesUp_21 ?_
      refine xI_ne (tgt := 29) hx hb (by omega) dX4_goesUp_22 (by decide) (fun c_22 => ?_) (fun c_22 => ?_)
      · have ab : abvB w r = true := by unfold abvB; simp; omega
        refine xN_const hx hb 0 dX4_goesUp_29 (by decide) ?_
        refine lv_istore_n (lv' := [(3, .int (nI 0)), (0, .ref mo), (1, .int (nI r)), (2, .int (nI k))]) hx hb dX4_goesUp_30 rfl hl (by decide) rfl (fun ls hl => ?_)
        refine lv_aload_n hx hb dX4_goesUp_31 rfl (lv_at hl 1 rfl) ?_
        refine lv_iload_n hx hb dX4_goesUp_32 rfl (lv_at hl 2 rfl) ?_
        refine lv_iload_n hx hb dX4_goesUp_33 rfl (lv_at hl 3 rfl) ?_
        refine vp_callSi (va_Run.run (xrV hF (c_X4_latest l g mo mn mp mq mt mm md zs zl zp zr zk w hW r k (by omega) (by omega)) cal_X4_latest q_278 ⟨by decide, by decide⟩ rfl rfl rfl (va_recv hF.2.1 hP (ci := 4) (q0 := 0) rfl rfl) hZ (hP) hl.1 rfl (Nat.le_of_ble_eq_true rfl) dX4_goesUp_34 ⟨Nat.le_refl _, Nat.le_refl _⟩)) (fun r_ h_ => ?_)
        subst h_
        refine lv_bipush hx hb (v := (-6)) dX4_goesUp_37 (by decide) ?_
        refine lv_icmp_ne (tgt := 50) hx hb dX4_goesUp_39 (by decide) (fun c_39 => ?_) (fun c_39 => ?_)
        · refine xN_const hx hb 0 dX4_goesUp_50 (by decide) ?_
          exact xret_t (V := nI (0)) hF hret hlocks rfl (xz_f (by unfold upB; rw [beq_eq_false_iff_ne.mpr c_39, Bool.false_and])) dX4_goesUp_51
        · refine lv_iload_n hx hb dX4_goesUp_42 rfl (lv_at hl 0 rfl) ?_
          refine xI_ne (tgt := 50) hx hb (by omega) dX4_goesUp_43 (by decide) (fun c_43 => absurd c_43 (by decide)) (fun c_43 => ?_)
          refine xN_const hx hb 1 dX4_goesUp_46 (by decide) ?_
          refine lv_goto (tgt := 51) hx hb dX4_goesUp_47 (by decide) ?_
          exact xret_t (V := nI (1)) hF hret hlocks rfl (xz_t (by unfold upB; rw [ab, c_39]; rfl)) dX4_goesUp_51
      · have ab : abvB w r = false := by unfold abvB; rw [c_11, c_22]; simp
        refine xN_const hx hb 1 dX4_goesUp_25 (by decide) ?_
        refine lv_goto (tgt := 30) hx hb dX4_goesUp_26 (by decide) ?_
        refine lv_istore_n (lv' := [(3, .int (nI 1)), (0, .ref mo), (1, .int (nI r)), (2, .int (nI k))]) hx hb dX4_goesUp_30 rfl hl (by decide) rfl (fun ls hl => ?_)
        refine lv_aload_n hx hb dX4_goesUp_31 rfl (lv_at hl 1 rfl) ?_
        refine lv_iload_n hx hb dX4_goesUp_32 rfl (lv_at hl 2 rfl) ?_
        refine lv_iload_n hx hb dX4_goesUp_33 rfl (lv_at hl 3 rfl) ?_
        refine vp_callSi (va_Run.run (xrV hF (c_X4_latest l g mo mn mp mq mt mm md zs zl zp zr zk w hW r k (by omega) (by omega)) cal_X4_latest q_278 ⟨by decide, by decide⟩ rfl rfl rfl (va_recv hF.2.1 hP (ci := 4) (q0 := 0) rfl rfl) hZ (hP) hl.1 rfl (Nat.le_of_ble_eq_true rfl) dX4_goesUp_34 ⟨Nat.le_refl _, Nat.le_refl _⟩)) (fun r_ h_ => ?_)
        subst h_
        refine lv_bipush hx hb (v := (-6)) dX4_goesUp_37 (by decide) ?_
        refine lv_icmp_ne (tgt := 50) hx hb dX4_goesUp_39 (by decide) (fun c_39 => ?_) (fun c_39 => ?_)
        · refine xN_const hx hb 0 dX4_goesUp_50 (by decide) ?_
          exact xret_t (V := nI (0)) hF hret hlocks rfl (xz_f (by unfold upB; rw [beq_eq_false_iff_ne.mpr c_39, Bool.false_and])) dX4_goesUp_51
        · refine lv_iload_n hx hb dX4_goesUp_42 rfl (lv_at hl 0 rfl) ?_
          refine xI_ne (tgt := 50) hx hb (by omega) dX4_goesUp_43 (by decide) (fun c_43 => ?_) (fun c_43 => absurd c_43 (by decide))
          refine xN_const hx hb 0 dX4_goesUp_50 (by decide) ?_
          exact xret_t (V := nI (0)) hF hret hlocks rfl (xz_f (by unfold upB; rw [ab, Bool.and_false])) dX4_goesUp_51
set_option maxHeartbeats 4000000 in
set_option maxRecDepth 100000 in
theorem c_X4_end (l : Launch) (g : XG) (mo mn mp mq mt mm md zs zl zp zr : Nat) (zk : Bool) (w : Nat → Int32) (hW : WF w) (r k : Nat) (hr : r < nr w) (hk : k < 4) : Met l yX4_end (ww yX4_end cX4_end 4 (some .int)) (rmD 4) (xP g [.ref mo, .int (nI r), .int (nI k)] (fun H => va_P g.1 vwCl (ModC g mo mn mp mq mt mm md zs zl zp zr zk w) H)) (vp_Si (fun r9 => r9 = nI (top w k r))) 0 0 (fun _ => False) := by
  refine xMet (by decide) rfl (Nat.le_of_ble_eq_true rfl) ?_
  intro p e s m below meth c ls hF hZ hh hret hlocks hin hl
  have hx := hF.1.1
  have hb := hF.1.2.1
  have hP := hh
  have hP : va_P g.1 vwCl (ModC g mo mn mp mq mt mm md zs zl zp zr zk w) s.heap := hP
  have hl : lv_has ls 4 [(0, .ref mo), (1, .int (nI r)), (2, .int (nI k))] := hl
  have h48 := hW.n48
  have hp4 := hW.pg4
  have hp12 := hW.pg12
  have hs1 := hW.st1
  have hw2 := hW.wr2
  have hw6 := hW.wr6
  refine lv_iload_n hx hb dX4_end_0 rfl (lv_at hl 1 rfl) ?_
  refine lv_istore_n (lv' := [(3, .int (nI r)), (0, .ref mo), (1, .int (nI r)), (2, .int (nI k))]) hx hb dX4_end_1 rfl hl (by decide) rfl (fun ls hl => ?_)
  refine xloop (goal := fun ls => W p l e _ s m _ below meth c s.heap [] _ _ _ (F0 m _ ls [])) (fun (z_ : Nat) (ls : Array Slot) => match z_ with | t => (t ≤ r) ∧ (top w k t = top w k r) ∧ lv_has ls 4 [(0, .ref mo), (1, .int (nI r)), (2, .int (nI k)), (3, .int (nI t))]) (fun (z_ : Nat) => match z_ with | t => t) ?_ (r) ls ⟨Nat.le_refl r, rfl, lv_sub hl [1, 2, 3, 0] rfl⟩
  rintro t ls ⟨I1, I2, hl⟩ ih
  refine lv_aload_n hx hb dX4_end_2 rfl (lv_at hl 0 rfl) ?_
  refine lv_iload_n hx hb dX4_end_3 rfl (lv_at hl 3 rfl) ?_
  refine lv_iload_n hx hb dX4_end_4 rfl (lv_at hl 2 rfl) ?_
  refine vp_callSi (va_Run.run (xrV hF (c_X4_goesUp l g mo mn mp mq mt mm md zs zl zp zr zk w hW t k (by omega) (by omega)) cal_X4_goesUp q_294 ⟨by decide, by decide⟩ rfl rfl rfl (va_recv hF.2.1 hP (ci := 4) (q0 := 0) rfl rfl) hZ (hP) hl.1 rfl (Nat.le_of_ble_eq_true rfl) dX4_end_5 ⟨Nat.le_refl _, Nat.le_refl _⟩)) (fun r_ h_ => ?_)
  subst h_
  refine xZ_eq (tgt := 17) hx hb dX4_end_8 (by decide) (fun c_8 => ?_) (fun c_8 => ?_)
  · refine lv_iload_n hx hb dX4_end_17 rfl (lv_at hl 3 rfl) ?_
    exact xret_i (V := nI (t)) hF hret hlocks (by rw [← I2, top_no c_8]) dX4_end_18
  · have ht0 : 0 < t := Nat.pos_of_ne_zero (fun q => by subst q; rw [upB_0] at c_8; exact absurd c_8 (by decide))
    refine xN_dec (lv' := [(3, .int (nI (t - 1))), (0, .ref mo), (1, .int (nI r)), (2, .int (nI k))]) hx hb (by omega) dX4_end_11 hl (k := 3) rfl (by decide) rfl (fun ls hl => ?_)
    refine lv_goto (tgt := 2) hx hb dX4_end_14 (by decide) ?_
    exact ih (t - 1) ls ⟨by omega, (top_up ht0 c_8).symm.trans I2, lv_sub hl [1, 2, 3, 0] rfl⟩ (by dsimp only; omega)
set_option maxHeartbeats 4000000 in
set_option maxRecDepth 100000 in
theorem c_X4_means (l : Launch) (g : XG) (mo mn mp mq mt mm md zs zl zp zr : Nat) (zk : Bool) (w : Nat → Int32) (hW : WF w) (r k : Nat) (hr : r < nr w) (hk : k < 4) : Met l yX4_means (ww yX4_means cX4_means 4 (some .int)) (rmD 5) (xP g [.ref mo, .int (nI r), .int (nI k)] (fun H => va_P g.1 vwCl (ModC g mo mn mp mq mt mm md zs zl zp zr zk w) H)) (vp_Si (fun r9 => r9 = mean w r k)) 0 0 (fun _ => False) := by
  refine xMet (by decide) rfl (Nat.le_of_ble_eq_true rfl) ?_
  intro p e s m below meth c ls hF hZ hh hret hlocks hin hl
  have hx := hF.1.1
  have hb := hF.1.2.1
  have hP := hh
  have hP : va_P g.1 vwCl (ModC g mo mn mp mq mt mm md zs zl zp zr zk w) s.heap := hP
  have hl : lv_has ls 4 [(0, .ref mo), (1, .int (nI r)), (2, .int (nI k))] := hl
  have h48 := hW.n48
  have hp4 := hW.pg4
  have hp12 := hW.pg12
  have hs1 := hW.st1
  have hw2 := hW.wr2
  have hw6 := hW.wr6
  have ht := top_le w k r
  refine lv_aload_n hx hb dX4_means_0 rfl (lv_at hl 0 rfl) ?_
  refine lv_aload_n hx hb dX4_means_1 rfl (lv_at hl 0 rfl) ?_
  refine lv_iload_n hx hb dX4_means_2 rfl (lv_at hl 1 rfl) ?_
  refine lv_iload_n hx hb dX4_means_3 rfl (lv_at hl 2 rfl) ?_
  refine vp_callSi (va_Run.run (xrV hF (c_X4_end l g mo mn mp mq mt mm md zs zl zp zr zk w hW r k (by omega) (by omega)) cal_X4_end q_290 ⟨by decide, by decide⟩ rfl rfl rfl (va_recv hF.2.1 hP (ci := 4) (q0 := 0) rfl rfl) hZ (hP) hl.1 rfl (Nat.le_of_ble_eq_true rfl) dX4_means_4 ⟨Nat.le_refl _, Nat.le_refl _⟩)) (fun r_ h_ => ?_)
  subst h_
  refine lv_iload_n hx hb dX4_means_7 rfl (lv_at hl 2 rfl) ?_
  refine vp_callSi (va_Run.run (xrV hF (c_X4_latest l g mo mn mp mq mt mm md zs zl zp zr zk w hW (top w k r) k (by omega) (by omega)) cal_X4_latest q_278 ⟨by decide, by decide⟩ rfl rfl rfl (va_recv hF.2.1 hP (ci := 4) (q0 := 0) rfl rfl) hZ (hP) hl.1 rfl (Nat.le_of_ble_eq_true rfl) dX4_means_8 ⟨Nat.le_refl _, Nat.le_refl _⟩)) (fun r_ h_ => ?_)
  subst h_
  refine lv_istore_n (lv' := [(3, .int (lat w (top w k r) k)), (0, .ref mo), (1, .int (nI r)), (2, .int (nI k))]) hx hb dX4_means_11 rfl hl (by decide) rfl (fun ls hl => ?_)
  refine lv_iload_n hx hb dX4_means_12 rfl (lv_at hl 0 rfl) ?_
  refine lv_if_lt (tgt := 20) hx hb dX4_means_13 (by decide) (fun c_13 => ?_) (fun c_13 => ?_)
  · refine lv_bipush hx hb (v := (-5)) dX4_means_20 (by decide) ?_
    exact xret_i (V := (-5)) hF hret hlocks (by unfold mean; rw [if_pos c_13]) dX4_means_22
  · refine lv_iload_n hx hb dX4_means_16 rfl (lv_at hl 0 rfl) ?_
    refine lv_goto (tgt := 22) hx hb dX4_means_17 (by decide) ?_
    exact xret_i (V := (lat w (top w k r) k)) hF hret hlocks (by unfold mean; rw [if_neg c_13]) dX4_means_22
set_option maxHeartbeats 4000000 in
set_option maxRecDepth 100000 in
theorem c_X4_source (l : Launch) (g : XG) (mo mn mp mq mt mm md zs zl zp zr : Nat) (zk : Bool) (w : Nat → Int32) (hW : WF w) (r k : Nat) (hr : r < nr w) (hk : k < 4) : Met l yX4_source (ww yX4_source cX4_source 4 (some .int)) (rmD 5) (xP g [.ref mo, .int (nI r), .int (nI k)] (fun H => va_P g.1 vwCl (ModC g mo mn mp mq mt mm md zs zl zp zr zk w) H)) (vp_Si (fun r9 => r9 = srcI w r k)) 0 0 (fun _ => False) := by
  refine xMet (by decide) rfl (Nat.le_of_ble_eq_true rfl) ?_
  intro p e s m below meth c ls hF hZ hh hret hlocks hin hl
  have hx := hF.1.1
  have hb := hF.1.2.1
  have hP := hh
  have hP : va_P g.1 vwCl (ModC g mo mn mp mq mt mm md zs zl zp zr zk w) s.heap := hP
  have hl : lv_has ls 4 [(0, .ref mo), (1, .int (nI r)), (2, .int (nI k))] := hl
  have h48 := hW.n48
  have hp4 := hW.pg4
  have hp12 := hW.pg12
  have hs1 := hW.st1
  have hw2 := hW.wr2
  have hw6 := hW.wr6
  have ht := top_le w k r
  refine lv_aload_n hx hb dX4_source_0 rfl (lv_at hl 0 rfl) ?_
  refine lv_iload_n hx hb dX4_source_1 rfl (lv_at hl 1 rfl) ?_
  refine lv_iload_n hx hb dX4_source_2 rfl (lv_at hl 2 rfl) ?_
  refine vp_callSi (va_Run.run (xrV hF (c_X4_end l g mo mn mp mq mt mm md zs zl zp zr zk w hW r k (by omega) (by omega)) cal_X4_end q_290 ⟨by decide, by decide⟩ rfl rfl rfl (va_recv hF.2.1 hP (ci := 4) (q0 := 0) rfl rfl) hZ (hP) hl.1 rfl (Nat.le_of_ble_eq_true rfl) dX4_source_3 ⟨Nat.le_refl _, Nat.le_refl _⟩)) (fun r_ h_ => ?_)
  subst h_
  refine lv_istore_n (lv' := [(3, .int (nI (top w k r))), (0, .ref mo), (1, .int (nI r)), (2, .int (nI k))]) hx hb dX4_source_6 rfl hl (by decide) rfl (fun ls hl => ?_)
  refine lv_aload_n hx hb dX4_source_7 rfl (lv_at hl 1 rfl) ?_
  refine lv_iload_n hx hb dX4_source_8 rfl (lv_at hl 0 rfl) ?_
  refine lv_iload_n hx hb dX4_source_9 rfl (lv_at hl 3 rfl) ?_
  refine vp_callSi (va_Run.run (xrV hF (c_X4_latest l g mo mn mp mq mt mm md zs zl zp zr zk w hW (top w k r) k (by omega) (by omega)) cal_X4_latest q_278 ⟨by decide, by decide⟩ rfl rfl rfl (va_recv hF.2.1 hP (ci := 4) (q0 := 0) rfl rfl) hZ (hP) hl.1 rfl (Nat.le_of_ble_eq_true rfl) dX4_source_10 ⟨Nat.le_refl _, Nat.le_refl _⟩)) (fun r_ h_ => ?_)
  subst h_
  refine lv_if_lt (tgt := 20) hx hb dX4_source_13 (by decide) (fun c_13 => ?_) (fun c_13 => ?_)
  · refine lv_bipush hx hb (v := (-5)) dX4_source_20 (by decide) ?_
    exact xret_i (V := (-5)) hF hret hlocks (by unfold srcI; rw [if_pos c_13]) dX4_source_22
  · refine lv_iload_n hx hb dX4_source_16 rfl (lv_at hl 0 rfl) ?_
    refine lv_goto (tgt := 22) hx hb dX4_source_17 (by decide) ?_
    exact xret_i (V := nI (top w k r)) hF hret hlocks (by unfold srcI; rw [if_neg c_13]) dX4_source_22
set_option maxHeartbeats 4000000 in
set_option maxRecDepth 100000 in
theorem c_X4_chain (l : Launch) (g : XG) (mo mn mp mq mt mm md zs zl zp zr : Nat) (zk : Bool) (w : Nat → Int32) (hW : WF w) (r k : Nat) (hr : r < nr w) (hk : k < 4) : Met l yX4_chain (ww yX4_chain cX4_chain 3 (some .int)) (rmD 5) (xP g [.ref mo, .int (nI r), .int (nI k)] (fun H => va_P g.1 vwCl (ModC g mo mn mp mq mt mm md zs zl zp zr zk w) H)) (vp_Si (fun r9 => r9 = nI (r - top w k r + 1))) 0 0 (fun _ => False) := by
  refine xMet (by decide) rfl (Nat.le_of_ble_eq_true rfl) ?_
  intro p e s m below meth c ls hF hZ hh hret hlocks hin hl
  have hx := hF.1.1
  have hb := hF.1.2.1
  have hP := hh
  have hP : va_P g.1 vwCl (ModC g mo mn mp mq mt mm md zs zl zp zr zk w) s.heap := hP
  have hl : lv_has ls 3 [(0, .ref mo), (1, .int (nI r)), (2, .int (nI k))] := hl
  have h48 := hW.n48
  have hp4 := hW.pg4
  have hp12 := hW.pg12
  have hs1 := hW.st1
  have hw2 := hW.wr2
  have hw6 := hW.wr6
  have ht := top_le w k r
  refine lv_iload_n hx hb dX4_chain_0 rfl (lv_at hl 1 rfl) ?_
  refine lv_aload_n hx hb dX4_chain_1 rfl (lv_at hl 0 rfl) ?_
  refine lv_iload_n hx hb dX4_chain_2 rfl (lv_at hl 1 rfl) ?_
  refine lv_iload_n hx hb dX4_chain_3 rfl (lv_at hl 2 rfl) ?_
  refine vp_callSi (va_Run.run (xrV hF (c_X4_end l g mo mn mp mq mt mm md zs zl zp zr zk w hW r k (by omega) (by omega)) cal_X4_end q_290 ⟨by decide, by decide⟩ rfl rfl rfl (va_recv hF.2.1 hP (ci := 4) (q0 := 0) rfl rfl) hZ (hP) hl.1 rfl (Nat.le_of_ble_eq_true rfl) dX4_chain_4 ⟨Nat.le_refl _, Nat.le_refl _⟩)) (fun r_ h_ => ?_)
  subst h_
  refine xN_sub hx hb (by omega) dX4_chain_7 ?_
  refine xN_const hx hb 1 dX4_chain_8 (by decide) ?_
  refine xN_add hx hb dX4_chain_9 ?_
  exact xret_i (V := nI ((r - (top w k r)) + 1)) hF hret hlocks (rfl) dX4_chain_10
set_option maxHeartbeats 4000000 in
set_option maxRecDepth 100000 in
theorem c_X4_isDoubtful (l : Launch) (g : XG) (mo mn mp mq mt mm md zs zl zp zr : Nat) (zk : Bool) (w : Nat → Int32) (hW : WF w) (r k : Nat) (hr : r < nr w) (hk : k < 4) : Met l yX4_isDoubtful (ww yX4_isDoubtful cX4_isDoubtful 5 (some .boolean)) (rmD 5) (xP g [.ref mo, .int (nI r), .int (nI k)] (fun H => va_P g.1 vwCl (ModC g mo mn mp mq mt mm md zs zl zp zr zk w) H)) (vp_Si (fun r9 => r9 = xz (dbt w r k))) 0 0 (fun _ => False) := by
  refine xMet (by decide) rfl (Nat.le_of_ble_eq_true rfl) ?_
  intro p e s m below meth c ls hF hZ hh hret hlocks hin hl
  have hx := hF.1.1
  have hb := hF.1.2.1
  have hP := hh
  have hP : va_P g.1 vwCl (ModC g mo mn mp mq mt mm md zs zl zp zr zk w) s.heap := hP
  have hl : lv_has ls 5 [(0, .ref mo), (1, .int (nI r)), (2, .int (nI k))] := hl
  have h48 := hW.n48
  have hp4 := hW.pg4
  have hp12 := hW.pg12
  have hs1 := hW.st1
  have hw2 := hW.wr2
  have hw6 := hW.wr6
  have ht := top_le w k r
  refine xN_const hx hb 0 dX4_isDoubtful_0 (by decide) ?_
  refine lv_istore_n (lv' := [(3, .int (nI 0)), (0, .ref mo), (1, .int (nI r)), (2, .int (nI k))]) hx hb dX4_isDoubtful_1 rfl hl (by decide) rfl (fun ls hl => ?_)
  refine lv_aload_n hx hb dX4_isDoubtful_2 rfl (lv_at hl 1 rfl) ?_
  refine lv_iload_n hx hb dX4_isDoubtful_3 rfl (lv_at hl 2 rfl) ?_
  refine lv_iload_n hx hb dX4_isDoubtful_4 rfl (lv_at hl 3 rfl) ?_
  refine vp_callSi (va_Run.run (xrV hF (c_X4_end l g mo mn mp mq mt mm md zs zl zp zr zk w hW r k (by omega) (by omega)) cal_X4_end q_290 ⟨by decide, by decide⟩ rfl rfl rfl (va_recv hF.2.1 hP (ci := 4) (q0 := 0) rfl rfl) hZ (hP) hl.1 rfl (Nat.le_of_ble_eq_true rfl) dX4_isDoubtful_5 ⟨Nat.le_refl _, Nat.le_refl _⟩)) (fun r_ h_ => ?_)
  subst h_
  refine lv_istore (lv' := [(4, .int (nI (top w k r))), (3, .int (nI 0)), (0, .ref mo), (1, .int (nI r)), (2, .int (nI k))]) hx hb dX4_isDoubtful_8 hl (by decide) rfl (fun ls hl => ?_)
  refine xloop (goal := fun ls => W p l e _ s m _ below meth c s.heap [] _ _ _ (F0 m _ ls [])) (fun (z_ : Bool × Nat) (ls : Array Slot) => match z_ with | (b, i) => (top w k r ≤ i) ∧ (i ≤ r + 1) ∧ (b = dB w k (top w k r) (i - top w k r)) ∧ lv_has ls 5 [(0, .ref mo), (1, .int (nI r)), (2, .int (nI k)), (3, .int (xz (b))), (4, .int (nI i))]) (fun (z_ : Bool × Nat) => match z_ with | (b, i) => r + 1 - i) ?_ (false, top w k r) ls ⟨Nat.le_refl _, by omega, by rw [Nat.sub_self]; rfl, lv_sub hl [2, 3, 4, 1, 0] rfl⟩
  rintro ⟨b, i⟩ ls ⟨I1, I2, I3, hl⟩ ih
  refine lv_iload hx hb dX4_isDoubtful_10 (lv_at hl 4 rfl) ?_
  refine lv_iload_n hx hb dX4_isDoubtful_12 rfl (lv_at hl 1 rfl) ?_
  refine xC_gt (tgt := 43) hx hb (by omega) (by omega) dX4_isDoubtful_13 (by decide) (fun c_13 => ?_) (fun c_13 => ?_)
  · refine lv_iload_n hx hb dX4_isDoubtful_43 rfl (lv_at hl 3 rfl) ?_
    exact xret_t (V := xz (b)) hF hret hlocks (xz_nar _) (by rw [I3, show i = r + 1 by omega, show r + 1 - top w k r = r - top w k r + 1 by omega]; rfl) dX4_isDoubtful_44
  · refine lv_iload_n hx hb dX4_isDoubtful_16 rfl (lv_at hl 3 rfl) ?_
    refine xZ_ne (tgt := 31) hx hb dX4_isDoubtful_17 (by decide) (fun c_17 => ?_) (fun c_17 => ?_)
    · refine xN_const hx hb 1 dX4_isDoubtful_31 (by decide) ?_
      refine lv_goto (tgt := 36) hx hb dX4_isDoubtful_32 (by decide) ?_
      refine lv_istore_n (lv' := [(3, .int (nI 1)), (0, .ref mo), (1, .int (nI r)), (2, .int (nI k)), (4, .int (nI i))]) hx hb dX4_isDoubtful_36 rfl hl (by decide) rfl (fun ls hl => ?_)
      refine xN_inc (lv' := [(4, .int (nI (i + 1))), (3, .int (nI 1)), (0, .ref mo), (1, .int (nI r)), (2, .int (nI k))]) hx hb 1 dX4_isDoubtful_37 hl (k := 4) rfl (by decide) (by decide) rfl (fun ls hl => ?_)
      refine lv_goto (tgt := 10) hx hb dX4_isDoubtful_40 (by decide) ?_
      exact ih (true, i + 1) ls ⟨by omega, by omega, by rw [dB_step I1, ← I3, c_17]; rfl, lv_sub hl [2, 3, 4, 1, 0] rfl⟩ (by dsimp only; omega)
    · refine lv_aload_n hx hb dX4_isDoubtful_20 rfl (lv_at hl 0 rfl) ?_
      refine lv_iload hx hb dX4_isDoubtful_21 (lv_at hl 4 rfl) ?_
      refine lv_iload_n hx hb dX4_isDoubtful_23 rfl (lv_at hl 2 rfl) ?_
      refine vp_callSi (va_Run.run (xrV hF (c_X4_entries l g mo mn mp mq mt mm md zs zl zp zr zk w hW i k (by omega) (by omega)) cal_X4_entries q_274 ⟨by decide, by decide⟩ rfl rfl rfl (va_recv hF.2.1 hP (ci := 4) (q0 := 0) rfl rfl) hZ (hP) hl.1 rfl (Nat.le_of_ble_eq_true rfl) dX4_isDoubtful_24 ⟨Nat.le_refl _, Nat.le_refl _⟩)) (fun r_ h_ => ?_)
      subst h_
      refine xN_const hx hb 1 dX4_isDoubtful_27 (by decide) ?_
      have hq4 := hW.c4 (i := 4 * i + k) (by omega)
      refine xC_le (tgt := 35) hx hb (by omega) (by omega) dX4_isDoubtful_28 (by decide) (fun c_28 => ?_) (fun c_28 => ?_)
      · refine xN_const hx hb 0 dX4_isDoubtful_35 (by decide) ?_
        refine lv_istore_n (lv' := [(3, .int (nI 0)), (0, .ref mo), (1, .int (nI r)), (2, .int (nI k)), (4, .int (nI i))]) hx hb dX4_isDoubtful_36 rfl hl (by decide) rfl (fun ls hl => ?_)
        refine xN_inc (lv' := [(4, .int (nI (i + 1))), (3, .int (nI 0)), (0, .ref mo), (1, .int (nI r)), (2, .int (nI k))]) hx hb 1 dX4_isDoubtful_37 hl (k := 4) rfl (by decide) (by decide) rfl (fun ls hl => ?_)
        refine lv_goto (tgt := 10) hx hb dX4_isDoubtful_40 (by decide) ?_
        exact ih (false, i + 1) ls ⟨by omega, by omega, by rw [dB_step I1, ← I3, c_17, decide_eq_false (by omega)]; rfl, lv_sub hl [2, 3, 4, 1, 0] rfl⟩ (by dsimp only; omega)
      · refine xN_const hx hb 1 dX4_isDoubtful_31 (by decide) ?_
        refine lv_goto (tgt := 36) hx hb dX4_isDoubtful_32 (by decide) ?_
        refine lv_istore_n (lv' := [(3, .int (nI 1)), (0, .ref mo), (1, .int (nI r)), (2, .int (nI k)), (4, .int (nI i))]) hx hb dX4_isDoubtful_36 rfl hl (by decide) rfl (fun ls hl => ?_)
        refine xN_inc (lv' := [(4, .int (nI (i + 1))), (3, .int (nI 1)), (0, .ref mo), (1, .int (nI r)), (2, .int (nI k))]) hx hb 1 dX4_isDoubtful_37 hl (k := 4) rfl (by decide) (by decide) rfl (fun ls hl => ?_)
        refine lv_goto (tgt := 10) hx hb dX4_isDoubtful_40 (by decide) ?_
        exact ih (true, i + 1) ls ⟨by omega, by omega, by rw [dB_step I1, decide_eq_true (by omega), Bool.or_true], lv_sub hl [2, 3, 4, 1, 0] rfl⟩ (by dsimp only; omega)
set_option maxHeartbeats 4000000 in
set_option maxRecDepth 100000 in
theorem c_X4_below (l : Launch) (g : XG) (mo mn mp mq mt mm md zs zl zp zr : Nat) (zk : Bool) (w : Nat → Int32) (hW : WF w) (r k : Nat) (hr : r < nr w) (hk : k < 4) : Met l yX4_below (ww yX4_below cX4_below 4 (some .int)) (rmD 4) (xP g [.ref mo, .int (nI r), .int (nI k)] (fun H => va_P g.1 vwCl (ModC g mo mn mp mq mt mm md zs zl zp zr zk w) H)) (vp_Si (fun r9 => r9 = nI (stop w k (r + 1) - 1 - r))) 0 0 (fun _ => False) := by
  refine xMet (by decide) rfl (Nat.le_of_ble_eq_true rfl) ?_
  intro p e s m below meth c ls hF hZ hh hret hlocks hin hl
  have hx := hF.1.1
  have hb := hF.1.2.1
  have hP := hh
  have hP : va_P g.1 vwCl (ModC g mo mn mp mq mt mm md zs zl zp zr zk w) s.heap := hP
  have hl : lv_has ls 4 [(0, .ref mo), (1, .int (nI r)), (2, .int (nI k))] := hl
  have h48 := hW.n48
  have hp4 := hW.pg4
  have hp12 := hW.pg12
  have hs1 := hW.st1
  have hw2 := hW.wr2
  have hw6 := hW.wr6
  refine lv_iload_n hx hb dX4_below_0 rfl (lv_at hl 1 rfl) ?_
  refine xN_const hx hb 1 dX4_below_1 (by decide) ?_
  refine xN_add hx hb dX4_below_2 ?_
  refine lv_istore_n (lv' := [(3, .int (nI (r + 1))), (0, .ref mo), (1, .int (nI r)), (2, .int (nI k))]) hx hb dX4_below_3 rfl hl (by decide) rfl (fun ls hl => ?_)
  refine xloop (goal := fun ls => W p l e _ s m _ below meth c s.heap [] _ _ _ (F0 m _ ls [])) (fun (z_ : Nat) (ls : Array Slot) => match z_ with | t => (r + 1 ≤ t) ∧ (t ≤ nr w) ∧ (stop w k t = stop w k (r + 1)) ∧ lv_has ls 4 [(0, .ref mo), (1, .int (nI r)), (2, .int (nI k)), (3, .int (nI t))]) (fun (z_ : Nat) => match z_ with | t => nr w - t) ?_ (r + 1) ls ⟨Nat.le_refl _, by omega, rfl, lv_sub hl [1, 2, 3, 0] rfl⟩
  rintro t ls ⟨I1, I2, I3, hl⟩ ih
  refine lv_iload_n hx hb dX4_below_4 rfl (lv_at hl 3 rfl) ?_
  refine lv_aload_n hx hb dX4_below_5 rfl (lv_at hl 0 rfl) ?_
  refine gf_X4_X4_now hF hP 0 rfl rfl dX4_below_6 ?_
  refine xN_const hx hb 0 dX4_below_9 (by decide) ?_
  refine xA_ild hF hP 1 rfl (by omega) (by decide) (v := nI (nr w)) (hW.r0) dX4_below_10 ?_
  refine xC_ge (tgt := 29) hx hb (by omega) (by omega) dX4_below_11 (by decide) (fun c_11 => ?_) (fun c_11 => ?_)
  · refine lv_iload_n hx hb dX4_below_29 rfl (lv_at hl 3 rfl) ?_
    refine lv_iload_n hx hb dX4_below_30 rfl (lv_at hl 1 rfl) ?_
    refine xN_sub hx hb (by omega) dX4_below_31 ?_
    refine xN_const hx hb 1 dX4_below_32 (by decide) ?_
    refine xN_sub hx hb (by omega) dX4_below_33 ?_
    exact xret_i (V := nI ((t - r) - 1)) hF hret hlocks (by rw [← I3, stop_end (by omega), Nat.sub_right_comm]) dX4_below_34
  · refine lv_aload_n hx hb dX4_below_14 rfl (lv_at hl 0 rfl) ?_
    refine lv_iload_n hx hb dX4_below_15 rfl (lv_at hl 3 rfl) ?_
    refine lv_iload_n hx hb dX4_below_16 rfl (lv_at hl 2 rfl) ?_
    refine vp_callSi (va_Run.run (xrV hF (c_X4_goesUp l g mo mn mp mq mt mm md zs zl zp zr zk w hW t k (by omega) (by omega)) cal_X4_goesUp q_294 ⟨by decide, by decide⟩ rfl rfl rfl (va_recv hF.2.1 hP (ci := 4) (q0 := 0) rfl rfl) hZ (hP) hl.1 rfl (Nat.le_of_ble_eq_true rfl) dX4_below_17 ⟨Nat.le_refl _, Nat.le_refl _⟩)) (fun r_ h_ => ?_)
    subst h_
    refine xZ_eq (tgt := 29) hx hb dX4_below_20 (by decide) (fun c_20 => ?_) (fun c_20 => ?_)
    · refine lv_iload_n hx hb dX4_below_29 rfl (lv_at hl 3 rfl) ?_
      refine lv_iload_n hx hb dX4_below_30 rfl (lv_at hl 1 rfl) ?_
      refine xN_sub hx hb (by omega) dX4_below_31 ?_
      refine xN_const hx hb 1 dX4_below_32 (by decide) ?_
      refine xN_sub hx hb (by omega) dX4_below_33 ?_
      exact xret_i (V := nI ((t - r) - 1)) hF hret hlocks (by rw [← I3, stop_no c_20, Nat.sub_right_comm]) dX4_below_34
    · refine xN_inc (lv' := [(3, .int (nI (t + 1))), (0, .ref mo), (1, .int (nI r)), (2, .int (nI k))]) hx hb 1 dX4_below_23 hl (k := 3) rfl (by decide) (by decide) rfl (fun ls hl => ?_)
      refine lv_goto (tgt := 4) hx hb dX4_below_26 (by decide) ?_
      exact ih (t + 1) ls ⟨by omega, by omega, (stop_up (by omega) c_20).symm.trans I3, lv_sub hl [1, 2, 3, 0] rfl⟩ (by dsimp only; omega)
set_option maxHeartbeats 4000000 in
set_option maxRecDepth 100000 in
theorem c_X4_written (l : Launch) (g : XG) (mo mn mp mq mt mm md zs zl zp zr : Nat) (zk : Bool) (w : Nat → Int32) (hW : WF w) (r : Nat) (hr : r < nr w) : Met l yX4_written (ww yX4_written cX4_written 4 (some .int)) (rmD 3) (xP g [.ref mo, .int (nI r)] (fun H => va_P g.1 vwCl (ModC g mo mn mp mq mt mm md zs zl zp zr zk w) H)) (vp_Si (fun r9 => r9 = xz (wrB w r))) 0 0 (fun _ => False) := by
  refine xMet (by decide) rfl (Nat.le_of_ble_eq_true rfl) ?_
  intro p e s m below meth c ls hF hZ hh hret hlocks hin hl
  have hx := hF.1.1
  have hb := hF.1.2.1
  have hP := hh
  have hP : va_P g.1 vwCl (ModC g mo mn mp mq mt mm md zs zl zp zr zk w) s.heap := hP
  have hl : lv_has ls 4 [(0, .ref mo), (1, .int (nI r))] := hl
  have h48 := hW.n48
  have hp4 := hW.pg4
  have hp12 := hW.pg12
  have hs1 := hW.st1
  have hw2 := hW.wr2
  have hw6 := hW.wr6
  refine xN_const hx hb 1 dX4_written_0 (by decide) ?_
  refine lv_istore_n (lv' := [(2, .int (nI 1)), (0, .ref mo), (1, .int (nI r))]) hx hb dX4_written_1 rfl hl (by decide) rfl (fun ls hl => ?_)
  refine xN_const hx hb 0 dX4_written_2 (by decide) ?_
  refine lv_istore_n (lv' := [(3, .int (nI 0)), (2, .int (nI 1)), (0, .ref mo), (1, .int (nI r))]) hx hb dX4_written_3 rfl hl (by decide) rfl (fun ls hl => ?_)
  refine xloop (goal := fun ls => W p l e _ s m _ below meth c s.heap [] _ _ _ (F0 m _ ls [])) (fun (z_ : Bool × Nat) (ls : Array Slot) => match z_ with | (b, i) => (i ≤ 4) ∧ (b = wr4 w r i) ∧ lv_has ls 4 [(0, .ref mo), (1, .int (nI r)), (2, .int (xz (b))), (3, .int (nI i))]) (fun (z_ : Bool × Nat) => match z_ with | (b, i) => 4 - i) ?_ (true, 0) ls ⟨by omega, rfl, lv_sub hl [2, 3, 1, 0] rfl⟩
  rintro ⟨b, i⟩ ls ⟨I1, I2, hl⟩ ih
  refine lv_iload_n hx hb dX4_written_4 rfl (lv_at hl 3 rfl) ?_
  refine xN_const hx hb 4 dX4_written_5 (by decide) ?_
  refine xC_ge (tgt := 34) hx hb (by omega) (by omega) dX4_written_6 (by decide) (fun c_6 => ?_) (fun c_6 => ?_)
  · refine lv_iload_n hx hb dX4_written_34 rfl (lv_at hl 2 rfl) ?_
    refine xZ_eq (tgt := 42) hx hb dX4_written_35 (by decide) (fun c_35 => ?_) (fun c_35 => ?_)
    · refine xN_const hx hb 0 dX4_written_42 (by decide) ?_
      exact xret_i (V := nI (0)) hF hret hlocks (xz_f (by rw [c_35, show i = 4 by omega] at I2; exact I2.symm)) dX4_written_43
    · refine xN_const hx hb 1 dX4_written_38 (by decide) ?_
      refine lv_goto (tgt := 43) hx hb dX4_written_39 (by decide) ?_
      exact xret_i (V := nI (1)) hF hret hlocks (xz_t (by rw [c_35, show i = 4 by omega] at I2; exact I2.symm)) dX4_written_43
  · refine lv_iload_n hx hb dX4_written_9 rfl (lv_at hl 2 rfl) ?_
    refine xZ_eq (tgt := 26) hx hb dX4_written_10 (by decide) (fun c_10 => ?_) (fun c_10 => ?_)
    · refine xN_const hx hb 0 dX4_written_26 (by decide) ?_
      refine lv_istore_n (lv' := [(2, .int (nI 0)), (0, .ref mo), (1, .int (nI r)), (3, .int (nI i))]) hx hb dX4_written_27 rfl hl (by decide) rfl (fun ls hl => ?_)
      refine xN_inc (lv' := [(3, .int (nI (i + 1))), (2, .int (nI 0)), (0, .ref mo), (1, .int (nI r))]) hx hb 1 dX4_written_28 hl (k := 3) rfl (by decide) (by decide) rfl (fun ls hl => ?_)
      refine lv_goto (tgt := 4) hx hb dX4_written_31 (by decide) ?_
      exact ih (false, i + 1) ls ⟨by omega, by rw [wr4, ← I2, c_10]; rfl, lv_sub hl [2, 3, 1, 0] rfl⟩ (by dsimp only; omega)
    · refine lv_aload_n hx hb dX4_written_13 rfl (lv_at hl 0 rfl) ?_
      refine lv_iload_n hx hb dX4_written_14 rfl (lv_at hl 1 rfl) ?_
      refine lv_iload_n hx hb dX4_written_15 rfl (lv_at hl 3 rfl) ?_
      refine vp_callSi (va_Run.run (xrV hF (c_X4_latest l g mo mn mp mq mt mm md zs zl zp zr zk w hW r i (by omega) (by omega)) cal_X4_latest q_278 ⟨by decide, by decide⟩ rfl rfl rfl (va_recv hF.2.1 hP (ci := 4) (q0 := 0) rfl rfl) hZ (hP) hl.1 rfl (Nat.le_of_ble_eq_true rfl) dX4_written_16 ⟨Nat.le_refl _, Nat.le_refl _⟩)) (fun r_ h_ => ?_)
      subst h_
      refine lv_if_lt (tgt := 26) hx hb dX4_written_19 (by decide) (fun c_19 => ?_) (fun c_19 => ?_)
      · refine xN_const hx hb 0 dX4_written_26 (by decide) ?_
        refine lv_istore_n (lv' := [(2, .int (nI 0)), (0, .ref mo), (1, .int (nI r)), (3, .int (nI i))]) hx hb dX4_written_27 rfl hl (by decide) rfl (fun ls hl => ?_)
        refine xN_inc (lv' := [(3, .int (nI (i + 1))), (2, .int (nI 0)), (0, .ref mo), (1, .int (nI r))]) hx hb 1 dX4_written_28 hl (k := 3) rfl (by decide) (by decide) rfl (fun ls hl => ?_)
        refine lv_goto (tgt := 4) hx hb dX4_written_31 (by decide) ?_
        exact ih (false, i + 1) ls ⟨by omega, by rw [wr4, decide_eq_false (Int32.not_le.mpr c_19), Bool.and_false], lv_sub hl [2, 3, 1, 0] rfl⟩ (by dsimp only; omega)
      · refine xN_const hx hb 1 dX4_written_22 (by decide) ?_
        refine lv_goto (tgt := 27) hx hb dX4_written_23 (by decide) ?_
        refine lv_istore_n (lv' := [(2, .int (nI 1)), (0, .ref mo), (1, .int (nI r)), (3, .int (nI i))]) hx hb dX4_written_27 rfl hl (by decide) rfl (fun ls hl => ?_)
        refine xN_inc (lv' := [(3, .int (nI (i + 1))), (2, .int (nI 1)), (0, .ref mo), (1, .int (nI r))]) hx hb 1 dX4_written_28 hl (k := 3) rfl (by decide) (by decide) rfl (fun ls hl => ?_)
        refine lv_goto (tgt := 4) hx hb dX4_written_31 (by decide) ?_
        exact ih (true, i + 1) ls ⟨by omega, by rw [wr4, ← I2, c_10, decide_eq_true (Int32.not_lt.mp c_19)]; rfl, lv_sub hl [2, 3, 1, 0] rfl⟩ (by dsimp only; omega)
set_option maxHeartbeats 4000000 in
set_option maxRecDepth 100000 in
theorem c_X4_isWritten (l : Launch) (g : XG) (mo mn mp mq mt mm md zs zl zp zr : Nat) (zk : Bool) (w : Nat → Int32) (hW : WF w) (x : Int32) : Met l yX4_isWritten (ww yX4_isWritten cX4_isWritten 2 (some .int)) (rmD 4) (xP g [.ref mo, .int (x)] (fun H => va_P g.1 vwCl (ModC g mo mn mp mq mt mm md zs zl zp zr zk w) H)) (vp_Si (fun r9 => r9 = isWrA w x)) 0 0 (fun _ => False) := by
  refine xMet (by decide) rfl (Nat.le_of_ble_eq_true rfl) ?_
  intro p e s m below meth c ls hF hZ hh hret hlocks hin hl
  have hx := hF.1.1
  have hb := hF.1.2.1
  have hP := hh
  have hP : va_P g.1 vwCl (ModC g mo mn mp mq mt mm md zs zl zp zr zk w) s.heap := hP
  have hl : lv_has ls 2 [(0, .ref mo), (1, .int (x))] := hl
  have h48 := hW.n48
  have hp4 := hW.pg4
  have hp12 := hW.pg12
  have hs1 := hW.st1
  have hw2 := hW.wr2
  have hw6 := hW.wr6
  refine lv_aload_n hx hb dX4_isWritten_0 rfl (lv_at hl 0 rfl) ?_
  refine lv_iload_n hx hb dX4_isWritten_1 rfl (lv_at hl 1 rfl) ?_
  refine vp_callSi (va_Run.run (xrV hF (c_X4_isRow l g mo mn mp mq mt mm md zs zl zp zr zk w hW ((x)) ) cal_X4_isRow q_267 ⟨by decide, by decide⟩ rfl rfl rfl (va_recv hF.2.1 hP (ci := 4) (q0 := 0) rfl rfl) hZ (hP) hl.1 rfl (Nat.le_of_ble_eq_true rfl) dX4_isWritten_2 ⟨Nat.le_refl _, Nat.le_refl _⟩)) (fun r_ h_ => ?_)
  subst h_
  refine xZ_eq (tgt := 16) hx hb dX4_isWritten_5 (by decide) (fun c_5 => ?_) (fun c_5 => ?_)
  · refine lv_iconst hx hb (v := (-1)) dX4_isWritten_16 (by decide) ?_
    exact xret_i (V := (-1)) hF hret hlocks (by unfold isWrA; rw [c_5]; rfl) dX4_isWritten_17
  · obtain ⟨r, hr, rfl⟩ := (rowB_iff hW).mp c_5
    refine lv_aload_n hx hb dX4_isWritten_8 rfl (lv_at hl 0 rfl) ?_
    refine lv_iload_n hx hb dX4_isWritten_9 rfl (lv_at hl 1 rfl) ?_
    refine vp_callSi (va_Run.run (xrV hF (c_X4_written l g mo mn mp mq mt mm md zs zl zp zr zk w hW r (by omega)) cal_X4_written q_449 ⟨by decide, by decide⟩ rfl rfl rfl (va_recv hF.2.1 hP (ci := 4) (q0 := 0) rfl rfl) hZ (hP) hl.1 rfl (Nat.le_of_ble_eq_true rfl) dX4_isWritten_10 ⟨Nat.le_refl _, Nat.le_refl _⟩)) (fun r_ h_ => ?_)
    subst h_
    refine lv_goto (tgt := 17) hx hb dX4_isWritten_13 (by decide) ?_
    exact xret_i (V := xz (wrB w r)) hF hret hlocks (by unfold isWrA; rw [if_pos c_5, nI_clamp (by omega)]) dX4_isWritten_17
end
section
/-! the reference: its counts -/
set_option maxHeartbeats 4000000 in
set_option maxRecDepth 100000 in
theorem c_X4_withLatest (l : Launch) (g : XG) (mo mn mp mq mt mm md zs zl zp zr : Nat) (zk : Bool) (w : Nat → Int32) (hW : WF w) (k : Nat) (hk : k < 4) (x : Int32) : Met l yX4_withLatest (ww yX4_withLatest cX4_withLatest 5 (some .int)) (rmD 3) (xP g [.ref mo, .int (nI k), .int (x)] (fun H => va_P g.1 vwCl (ModC g mo mn mp mq mt mm md zs zl zp zr zk w) H)) (vp_Si (fun r9 => r9 = nI (ctR (fun i9 => lat w i9 k == x) 0 (nr w)))) 0 0 (fun _ => False) := by
  refine xMet (by decide) rfl (Nat.le_of_ble_eq_true rfl) ?_
  intro p e s m below meth c ls hF hZ hh hret hlocks hin hl
  have hx := hF.1.1
  have hb := hF.1.2.1
  have hP := hh
  have hP : va_P g.1 vwCl (ModC g mo mn mp mq mt mm md zs zl zp zr zk w) s.heap := hP
  have hl : lv_has ls 5 [(0, .ref mo), (1, .int (nI k)), (2, .int (x))] := hl
  have h48 := hW.n48
  have hp4 := hW.pg4
  have hp12 := hW.pg12
  have hs1 := hW.st1
  have hw2 := hW.wr2
  have hw6 := hW.wr6
  refine xN_const hx hb 0 dX4_withLatest_0 (by decide) ?_
  refine lv_istore_n (lv' := [(3, .int (nI 0)), (0, .ref mo), (1, .int (nI k)), (2, .int (x))]) hx hb dX4_withLatest_1 rfl hl (by decide) rfl (fun ls hl => ?_)
  refine xN_const hx hb 0 dX4_withLatest_2 (by decide) ?_
  refine lv_istore (lv' := [(4, .int (nI 0)), (3, .int (nI 0)), (0, .ref mo), (1, .int (nI k)), (2, .int (x))]) hx hb dX4_withLatest_3 hl (by decide) rfl (fun ls hl => ?_)
  refine xloop (goal := fun ls => W p l e _ s m _ below meth c s.heap [] _ _ _ (F0 m _ ls [])) (fun (z_ : Nat × Nat) (ls : Array Slot) => match z_ with | (f, i) => (i ≤ nr w) ∧ (f = ctR (fun i9 => lat w i9 k == x) 0 (i - 0)) ∧ lv_has ls 5 [(0, .ref mo), (1, .int (nI k)), (2, .int (x)), (3, .int (nI f)), (4, .int (nI i))]) (fun (z_ : Nat × Nat) => match z_ with | (f, i) => nr w - i) ?_ (0, 0) ls ⟨Nat.zero_le _, rfl, lv_sub hl [2, 3, 4, 1, 0] rfl⟩
  rintro ⟨f, i⟩ ls ⟨I1, I2, hl⟩ ih
  have hf := ctR_le (fun i9 => lat w i9 k == x) 0 (i - 0)
  refine lv_iload hx hb dX4_withLatest_5 (lv_at hl 4 rfl) ?_
  refine lv_aload_n hx hb dX4_withLatest_7 rfl (lv_at hl 0 rfl) ?_
  refine gf_X4_X4_now hF hP 0 rfl rfl dX4_withLatest_8 ?_
  refine xN_const hx hb 0 dX4_withLatest_11 (by decide) ?_
  refine xA_ild hF hP 1 rfl (by omega) (by decide) (v := nI (nr w)) (hW.r0) dX4_withLatest_12 ?_
  refine xC_ge (tgt := 41) hx hb (by omega) (by omega) dX4_withLatest_13 (by decide) (fun c_13 => ?_) (fun c_13 => ?_)
  · refine lv_iload_n hx hb dX4_withLatest_41 rfl (lv_at hl 3 rfl) ?_
    exact xret_i (V := nI (f)) hF hret hlocks (by rw [I2, show i = nr w by omega]; rfl) dX4_withLatest_42
  · refine lv_iload_n hx hb dX4_withLatest_16 rfl (lv_at hl 3 rfl) ?_
    refine lv_aload_n hx hb dX4_withLatest_17 rfl (lv_at hl 0 rfl) ?_
    refine lv_iload hx hb dX4_withLatest_18 (lv_at hl 4 rfl) ?_
    refine lv_iload_n hx hb dX4_withLatest_20 rfl (lv_at hl 1 rfl) ?_
    refine vp_callSi (va_Run.run (xrV hF (c_X4_latest l g mo mn mp mq mt mm md zs zl zp zr zk w hW i k (by omega) (by omega)) cal_X4_latest q_278 ⟨by decide, by decide⟩ rfl rfl rfl (va_recv hF.2.1 hP (ci := 4) (q0 := 0) rfl rfl) hZ (hP) hl.1 rfl (Nat.le_of_ble_eq_true rfl) dX4_withLatest_21 ⟨Nat.le_refl _, Nat.le_refl _⟩)) (fun r_ h_ => ?_)
    subst h_
    refine lv_iload_n hx hb dX4_withLatest_24 rfl (lv_at hl 2 rfl) ?_
    refine lv_icmp_ne (tgt := 32) hx hb dX4_withLatest_25 (by decide) (fun c_25 => ?_) (fun c_25 => ?_)
    · refine xN_const hx hb 0 dX4_withLatest_32 (by decide) ?_
      refine xN_add hx hb dX4_withLatest_33 ?_
      refine lv_istore_n (lv' := [(3, .int (nI (f + 0))), (0, .ref mo), (1, .int (nI k)), (2, .int (x)), (4, .int (nI i))]) hx hb dX4_withLatest_34 rfl hl (by decide) rfl (fun ls hl => ?_)
      refine xN_inc (lv' := [(4, .int (nI (i + 1))), (3, .int (nI (f + 0))), (0, .ref mo), (1, .int (nI k)), (2, .int (x))]) hx hb 1 dX4_withLatest_35 hl (k := 4) rfl (by decide) (by decide) rfl (fun ls hl => ?_)
      refine lv_goto (tgt := 5) hx hb dX4_withLatest_38 (by decide) ?_
      exact ih (f + 0, i + 1) ls ⟨by omega, by rw [I2, ctR_f (p := fun i9 => lat w i9 k == x) (Nat.zero_le _) (beq_eq_false_iff_ne.mpr c_25)]; rfl, lv_sub hl [2, 3, 4, 1, 0] rfl⟩ (by dsimp only; omega)
    · refine xN_const hx hb 1 dX4_withLatest_28 (by decide) ?_
      refine lv_goto (tgt := 33) hx hb dX4_withLatest_29 (by decide) ?_
      refine xN_add hx hb dX4_withLatest_33 ?_
      refine lv_istore_n (lv' := [(3, .int (nI (f + 1))), (0, .ref mo), (1, .int (nI k)), (2, .int (x)), (4, .int (nI i))]) hx hb dX4_withLatest_34 rfl hl (by decide) rfl (fun ls hl => ?_)
      refine xN_inc (lv' := [(4, .int (nI (i + 1))), (3, .int (nI (f + 1))), (0, .ref mo), (1, .int (nI k)), (2, .int (x))]) hx hb 1 dX4_withLatest_35 hl (k := 4) rfl (by decide) (by decide) rfl (fun ls hl => ?_)
      refine lv_goto (tgt := 5) hx hb dX4_withLatest_38 (by decide) ?_
      exact ih (f + 1, i + 1) ls ⟨by omega, by rw [I2, ctR_t (p := fun i9 => lat w i9 k == x) (Nat.zero_le _) (beq_iff_eq.mpr c_25)], lv_sub hl [2, 3, 4, 1, 0] rfl⟩ (by dsimp only; omega)
set_option maxHeartbeats 4000000 in
set_option maxRecDepth 100000 in
theorem c_X4_corrections (l : Launch) (g : XG) (mo mn mp mq mt mm md zs zl zp zr : Nat) (zk : Bool) (w : Nat → Int32) (hW : WF w) (k : Nat) (hk : k < 4) : Met l yX4_corrections (ww yX4_corrections cX4_corrections 4 (some .int)) (rmD 2) (xP g [.ref mo, .int (nI k)] (fun H => va_P g.1 vwCl (ModC g mo mn mp mq mt mm md zs zl zp zr zk w) H)) (vp_Si (fun r9 => r9 = nI (smR (fun i9 => cnt w (4 * i9 + k) - 1) 0 (nr w)))) 0 0 (fun _ => False) := by
  refine xMet (by decide) rfl (Nat.le_of_ble_eq_true rfl) ?_
  intro p e s m below meth c ls hF hZ hh hret hlocks hin hl
  have hx := hF.1.1
  have hb := hF.1.2.1
  have hP := hh
  have hP : va_P g.1 vwCl (ModC g mo mn mp mq mt mm md zs zl zp zr zk w) s.heap := hP
  have hl : lv_has ls 4 [(0, .ref mo), (1, .int (nI k))] := hl
  have h48 := hW.n48
  have hp4 := hW.pg4
  have hp12 := hW.pg12
  have hs1 := hW.st1
  have hw2 := hW.wr2
  have hw6 := hW.wr6
  refine xN_const hx hb 0 dX4_corrections_0 (by decide) ?_
  refine lv_istore_n (lv' := [(2, .int (nI 0)), (0, .ref mo), (1, .int (nI k))]) hx hb dX4_corrections_1 rfl hl (by decide) rfl (fun ls hl => ?_)
  refine xN_const hx hb 0 dX4_corrections_2 (by decide) ?_
  refine lv_istore_n (lv' := [(3, .int (nI 0)), (2, .int (nI 0)), (0, .ref mo), (1, .int (nI k))]) hx hb dX4_corrections_3 rfl hl (by decide) rfl (fun ls hl => ?_)
  refine xloop (goal := fun ls => W p l e _ s m _ below meth c s.heap [] _ _ _ (F0 m _ ls [])) (fun (z_ : Nat × Nat) (ls : Array Slot) => match z_ with | (f, i) => (i ≤ nr w) ∧ (f = smR (fun i9 => cnt w (4 * i9 + k) - 1) 0 (i - 0)) ∧ lv_has ls 4 [(0, .ref mo), (1, .int (nI k)), (2, .int (nI f)), (3, .int (nI i))]) (fun (z_ : Nat × Nat) => match z_ with | (f, i) => nr w - i) ?_ (0, 0) ls ⟨Nat.zero_le _, rfl, lv_sub hl [2, 3, 1, 0] rfl⟩
  rintro ⟨f, i⟩ ls ⟨I1, I2, hl⟩ ih
  refine lv_iload_n hx hb dX4_corrections_4 rfl (lv_at hl 3 rfl) ?_
  refine lv_aload_n hx hb dX4_corrections_5 rfl (lv_at hl 0 rfl) ?_
  refine gf_X4_X4_now hF hP 0 rfl rfl dX4_corrections_6 ?_
  refine xN_const hx hb 0 dX4_corrections_9 (by decide) ?_
  refine xA_ild hF hP 1 rfl (by omega) (by decide) (v := nI (nr w)) (hW.r0) dX4_corrections_10 ?_
  refine xC_ge (tgt := 31) hx hb (by omega) (by omega) dX4_corrections_11 (by decide) (fun c_11 => ?_) (fun c_11 => ?_)
  · refine lv_iload_n hx hb dX4_corrections_31 rfl (lv_at hl 2 rfl) ?_
    exact xret_i (V := nI (f)) hF hret hlocks (by rw [I2, show i = nr w by omega]; rfl) dX4_corrections_32
  · refine lv_iload_n hx hb dX4_corrections_14 rfl (lv_at hl 2 rfl) ?_
    refine lv_aload_n hx hb dX4_corrections_15 rfl (lv_at hl 0 rfl) ?_
    refine lv_iload_n hx hb dX4_corrections_16 rfl (lv_at hl 3 rfl) ?_
    refine lv_iload_n hx hb dX4_corrections_17 rfl (lv_at hl 1 rfl) ?_
    refine vp_callSi (va_Run.run (xrV hF (c_X4_entries l g mo mn mp mq mt mm md zs zl zp zr zk w hW i k (by omega) (by omega)) cal_X4_entries q_274 ⟨by decide, by decide⟩ rfl rfl rfl (va_recv hF.2.1 hP (ci := 4) (q0 := 0) rfl rfl) hZ (hP) hl.1 rfl (Nat.le_of_ble_eq_true rfl) dX4_corrections_18 ⟨Nat.le_refl _, Nat.le_refl _⟩)) (fun r_ h_ => ?_)
    subst h_
    refine xN_const hx hb 1 dX4_corrections_21 (by decide) ?_
    have hc1 := hW.c1 (i := 4 * i + k) (by omega)
    refine xN_sub hx hb (by omega) dX4_corrections_22 ?_
    refine xN_add hx hb dX4_corrections_23 ?_
    refine lv_istore_n (lv' := [(2, .int (nI (f + ((cnt w (4 * i + k)) - 1)))), (0, .ref mo), (1, .int (nI k)), (3, .int (nI i))]) hx hb dX4_corrections_24 rfl hl (by decide) rfl (fun ls hl => ?_)
    refine xN_inc (lv' := [(3, .int (nI (i + 1))), (2, .int (nI (f + ((cnt w (4 * i + k)) - 1)))), (0, .ref mo), (1, .int (nI k))]) hx hb 1 dX4_corrections_25 hl (k := 3) rfl (by decide) (by decide) rfl (fun ls hl => ?_)
    refine lv_goto (tgt := 4) hx hb dX4_corrections_28 (by decide) ?_
    exact ih (f + ((cnt w (4 * i + k)) - 1), i + 1) ls ⟨by omega, by rw [I2, smR_step (Nat.zero_le _)], lv_sub hl [2, 3, 1, 0] rfl⟩ (by dsimp only; omega)
set_option maxHeartbeats 4000000 in
set_option maxRecDepth 100000 in
theorem c_X4_meaning (l : Launch) (g : XG) (mo mn mp mq mt mm md zs zl zp zr : Nat) (zk : Bool) (w : Nat → Int32) (hW : WF w) (a b : Nat) (hab : a ≤ b) (hb : b ≤ nr w) (k : Nat) (hk : k < 4) (x : Int32) : Met l yX4_meaning (ww yX4_meaning cX4_meaning 7 (some .int)) (rmD 6) (xP g [.ref mo, .int (nI a), .int (nI (b) - nI 1), .int (nI k), .int (x)] (fun H => va_P g.1 vwCl (ModC g mo mn mp mq mt mm md zs zl zp zr zk w) H)) (vp_Si (fun r9 => r9 = nI (ctR (fun i9 => mean w i9 k == x) a (b - a)))) 0 0 (fun _ => False) := by
  refine xMet (by decide) rfl (Nat.le_of_ble_eq_true rfl) ?_
  intro p e s m below meth c ls hF hZ hh hret hlocks hin hl
  have hx := hF.1.1
  have hb := hF.1.2.1
  have hP := hh
  have hP : va_P g.1 vwCl (ModC g mo mn mp mq mt mm md zs zl zp zr zk w) s.heap := hP
  have hl : lv_has ls 7 [(0, .ref mo), (1, .int (nI a)), (2, .int (nI (b) - nI 1)), (3, .int (nI k)), (4, .int (x))] := hl
  have h48 := hW.n48
  have hp4 := hW.pg4
  have hp12 := hW.pg12
  have hs1 := hW.st1
  have hw2 := hW.wr2
  have hw6 := hW.wr6
  refine xN_const hx hb 0 dX4_meaning_0 (by decide) ?_
  refine lv_istore (lv' := [(5, .int (nI 0)), (0, .ref mo), (1, .int (nI a)), (2, .int (nI (b) - nI 1)), (3, .int (nI k)), (4, .int (x))]) hx hb dX4_meaning_1 hl (by decide) rfl (fun ls hl => ?_)
  refine lv_iload_n hx hb dX4_meaning_3 rfl (lv_at hl 2 rfl) ?_
  refine lv_istore (lv' := [(6, .int (nI a)), (5, .int (nI 0)), (0, .ref mo), (1, .int (nI a)), (2, .int (nI (b) - nI 1)), (3, .int (nI k)), (4, .int (x))]) hx hb dX4_meaning_4 hl (by decide) rfl (fun ls hl => ?_)
  refine xloop (goal := fun ls => W p l e _ s m _ below meth c s.heap [] _ _ _ (F0 m _ ls [])) (fun (z_ : Nat × Nat) (ls : Array Slot) => match z_ with | (f, i) => (a ≤ i) ∧ (i ≤ b) ∧ (f = ctR (fun i9 => mean w i9 k == x) a (i - a)) ∧ lv_has ls 7 [(0, .ref mo), (1, .int (nI a)), (2, .int (nI (b) - nI 1)), (3, .int (nI k)), (4, .int (x)), (5, .int (nI f)), (6, .int (nI i))]) (fun (z_ : Nat × Nat) => match z_ with | (f, i) => b - i) ?_ (0, a) ls ⟨Nat.le_refl _, hab, by rw [Nat.sub_self]; rfl, lv_sub hl [2, 3, 4, 5, 6, 1, 0] rfl⟩
  rintro ⟨f, i⟩ ls ⟨I0, I1, I2, hl⟩ ih
  have hf := ctR_le (fun i9 => mean w i9 k == x) a (i - a)
  refine lv_iload hx hb dX4_meaning_6 (lv_at hl 6 rfl) ?_
  refine lv_iload_n hx hb dX4_meaning_8 rfl (lv_at hl 2 rfl) ?_
  refine xE_gt (tgt := 40) hx hb (by omega) (by omega) dX4_meaning_9 (by decide) (fun c_9 => ?_) (fun c_9 => ?_)
  · refine lv_iload hx hb dX4_meaning_40 (lv_at hl 5 rfl) ?_
    exact xret_i (V := nI (f)) hF hret hlocks (by rw [I2, show i = b by omega]) dX4_meaning_42
  · refine lv_iload hx hb dX4_meaning_12 (lv_at hl 5 rfl) ?_
    refine lv_aload_n hx hb dX4_meaning_14 rfl (lv_at hl 0 rfl) ?_
    refine lv_iload hx hb dX4_meaning_15 (lv_at hl 6 rfl) ?_
    refine lv_iload_n hx hb dX4_meaning_17 rfl (lv_at hl 3 rfl) ?_
    refine vp_callSi (va_Run.run (xrV hF (c_X4_means l g mo mn mp mq mt mm md zs zl zp zr zk w hW i k (by omega) (by omega)) cal_X4_means q_286 ⟨by decide, by decide⟩ rfl rfl rfl (va_recv hF.2.1 hP (ci := 4) (q0 := 0) rfl rfl) hZ (hP) hl.1 rfl (Nat.le_of_ble_eq_true rfl) dX4_meaning_18 ⟨Nat.le_refl _, Nat.le_refl _⟩)) (fun r_ h_ => ?_)
    subst h_
    refine lv_iload hx hb dX4_meaning_21 (lv_at hl 4 rfl) ?_
    refine lv_icmp_ne (tgt := 30) hx hb dX4_meaning_23 (by decide) (fun c_23 => ?_) (fun c_23 => ?_)
    · refine xN_const hx hb 0 dX4_meaning_30 (by decide) ?_
      refine xN_add hx hb dX4_meaning_31 ?_
      refine lv_istore (lv' := [(5, .int (nI (f + 0))), (0, .ref mo), (1, .int (nI a)), (2, .int (nI (b) - nI 1)), (3, .int (nI k)), (4, .int (x)), (6, .int (nI i))]) hx hb dX4_meaning_32 hl (by decide) rfl (fun ls hl => ?_)
      refine xN_inc (lv' := [(6, .int (nI (i + 1))), (5, .int (nI (f + 0))), (0, .ref mo), (1, .int (nI a)), (2, .int (nI (b) - nI 1)), (3, .int (nI k)), (4, .int (x))]) hx hb 1 dX4_meaning_34 hl (k := 6) rfl (by decide) (by decide) rfl (fun ls hl => ?_)
      refine lv_goto (tgt := 6) hx hb dX4_meaning_37 (by decide) ?_
      exact ih (f + 0, i + 1) ls ⟨by omega, by omega, by rw [I2, ctR_f (p := fun i9 => mean w i9 k == x) I0 (beq_eq_false_iff_ne.mpr c_23)]; rfl, lv_sub hl [2, 3, 4, 5, 6, 1, 0] rfl⟩ (by dsimp only; omega)
    · refine xN_const hx hb 1 dX4_meaning_26 (by decide) ?_
      refine lv_goto (tgt := 31) hx hb dX4_meaning_27 (by decide) ?_
      refine xN_add hx hb dX4_meaning_31 ?_
      refine lv_istore (lv' := [(5, .int (nI (f + 1))), (0, .ref mo), (1, .int (nI a)), (2, .int (nI (b) - nI 1)), (3, .int (nI k)), (4, .int (x)), (6, .int (nI i))]) hx hb dX4_meaning_32 hl (by decide) rfl (fun ls hl => ?_)
      refine xN_inc (lv' := [(6, .int (nI (i + 1))), (5, .int (nI (f + 1))), (0, .ref mo), (1, .int (nI a)), (2, .int (nI (b) - nI 1)), (3, .int (nI k)), (4, .int (x))]) hx hb 1 dX4_meaning_34 hl (k := 6) rfl (by decide) (by decide) rfl (fun ls hl => ?_)
      refine lv_goto (tgt := 6) hx hb dX4_meaning_37 (by decide) ?_
      exact ih (f + 1, i + 1) ls ⟨by omega, by omega, by rw [I2, ctR_t (p := fun i9 => mean w i9 k == x) I0 (beq_iff_eq.mpr c_23)], lv_sub hl [2, 3, 4, 5, 6, 1, 0] rfl⟩ (by dsimp only; omega)
set_option maxHeartbeats 4000000 in
set_option maxRecDepth 100000 in
theorem c_X4_longest (l : Launch) (g : XG) (mo mn mp mq mt mm md zs zl zp zr : Nat) (zk : Bool) (w : Nat → Int32) (hW : WF w) (k : Nat) (hk : k < 4) : Met l yX4_longest (ww yX4_longest cX4_longest 4 (some .int)) (rmD 6) (xP g [.ref mo, .int (nI k)] (fun H => va_P g.1 vwCl (ModC g mo mn mp mq mt mm md zs zl zp zr zk w) H)) (vp_Si (fun r9 => r9 = nI (mxR (fun i9 => i9 - top w k i9 + 1) (nr w)))) 0 0 (fun _ => False) := by
  refine xMet (by decide) rfl (Nat.le_of_ble_eq_true rfl) ?_
  intro p e s m below meth c ls hF hZ hh hret hlocks hin hl
  have hx := hF.1.1
  have hb := hF.1.2.1
  have hP := hh
  have hP : va_P g.1 vwCl (ModC g mo mn mp mq mt mm md zs zl zp zr zk w) s.heap := hP
  have hl : lv_has ls 4 [(0, .ref mo), (1, .int (nI k))] := hl
  have h48 := hW.n48
  have hp4 := hW.pg4
  have hp12 := hW.pg12
  have hs1 := hW.st1
  have hw2 := hW.wr2
  have hw6 := hW.wr6
  refine xN_const hx hb 0 dX4_longest_0 (by decide) ?_
  refine lv_istore_n (lv' := [(2, .int (nI 0)), (0, .ref mo), (1, .int (nI k))]) hx hb dX4_longest_1 rfl hl (by decide) rfl (fun ls hl => ?_)
  refine xN_const hx hb 0 dX4_longest_2 (by decide) ?_
  refine lv_istore_n (lv' := [(3, .int (nI 0)), (2, .int (nI 0)), (0, .ref mo), (1, .int (nI k))]) hx hb dX4_longest_3 rfl hl (by decide) rfl (fun ls hl => ?_)
  refine xloop (goal := fun ls => W p l e _ s m _ below meth c s.heap [] _ _ _ (F0 m _ ls [])) (fun (z_ : Nat × Nat) (ls : Array Slot) => match z_ with | (f, i) => (i ≤ nr w) ∧ (f = mxR (fun i9 => i9 - top w k i9 + 1) i) ∧ lv_has ls 4 [(0, .ref mo), (1, .int (nI k)), (2, .int (nI f)), (3, .int (nI i))]) (fun (z_ : Nat × Nat) => match z_ with | (f, i) => nr w - i) ?_ (0, 0) ls ⟨Nat.zero_le _, rfl, lv_sub hl [2, 3, 1, 0] rfl⟩
  rintro ⟨f, i⟩ ls ⟨I1, I2, hl⟩ ih
  have hf : f ≤ 49 := by rw [I2]; exact mxR_le _ 49 i (fun q hq => by omega)
  refine lv_iload_n hx hb dX4_longest_4 rfl (lv_at hl 3 rfl) ?_
  refine lv_aload_n hx hb dX4_longest_5 rfl (lv_at hl 0 rfl) ?_
  refine gf_X4_X4_now hF hP 0 rfl rfl dX4_longest_6 ?_
  refine xN_const hx hb 0 dX4_longest_9 (by decide) ?_
  refine xA_ild hF hP 1 rfl (by omega) (by decide) (v := nI (nr w)) (hW.r0) dX4_longest_10 ?_
  refine xC_ge (tgt := 41) hx hb (by omega) (by omega) dX4_longest_11 (by decide) (fun c_11 => ?_) (fun c_11 => ?_)
  · refine lv_iload_n hx hb dX4_longest_41 rfl (lv_at hl 2 rfl) ?_
    exact xret_i (V := nI (f)) hF hret hlocks (by rw [I2, show i = nr w by omega]) dX4_longest_42
  · refine lv_aload_n hx hb dX4_longest_14 rfl (lv_at hl 0 rfl) ?_
    refine lv_iload_n hx hb dX4_longest_15 rfl (lv_at hl 3 rfl) ?_
    refine lv_iload_n hx hb dX4_longest_16 rfl (lv_at hl 1 rfl) ?_
    refine vp_callSi (va_Run.run (xrV hF (c_X4_chain l g mo mn mp mq mt mm md zs zl zp zr zk w hW i k (by omega) (by omega)) cal_X4_chain q_418 ⟨by decide, by decide⟩ rfl rfl rfl (va_recv hF.2.1 hP (ci := 4) (q0 := 0) rfl rfl) hZ (hP) hl.1 rfl (Nat.le_of_ble_eq_true rfl) dX4_longest_17 ⟨Nat.le_refl _, Nat.le_refl _⟩)) (fun r_ h_ => ?_)
    subst h_
    refine lv_iload_n hx hb dX4_longest_20 rfl (lv_at hl 2 rfl) ?_
    refine xC_le (tgt := 33) hx hb (by omega) (by omega) dX4_longest_21 (by decide) (fun c_21 => ?_) (fun c_21 => ?_)
    · refine lv_iload_n hx hb dX4_longest_33 rfl (lv_at hl 2 rfl) ?_
      refine lv_istore_n (lv' := [(2, .int (nI f)), (0, .ref mo), (1, .int (nI k)), (3, .int (nI i))]) hx hb dX4_longest_34 rfl hl (by decide) rfl (fun ls hl => ?_)
      refine xN_inc (lv' := [(3, .int (nI (i + 1))), (2, .int (nI f)), (0, .ref mo), (1, .int (nI k))]) hx hb 1 dX4_longest_35 hl (k := 3) rfl (by decide) (by decide) rfl (fun ls hl => ?_)
      refine lv_goto (tgt := 4) hx hb dX4_longest_38 (by decide) ?_
      exact ih (f, i + 1) ls ⟨by omega, by rw [mxR, if_neg (by rw [← I2]; omega)]; exact I2, lv_sub hl [2, 3, 1, 0] rfl⟩ (by dsimp only; omega)
    · refine lv_aload_n hx hb dX4_longest_24 rfl (lv_at hl 0 rfl) ?_
      refine lv_iload_n hx hb dX4_longest_25 rfl (lv_at hl 3 rfl) ?_
      refine lv_iload_n hx hb dX4_longest_26 rfl (lv_at hl 1 rfl) ?_
      refine vp_callSi (va_Run.run (xrV hF (c_X4_chain l g mo mn mp mq mt mm md zs zl zp zr zk w hW i k (by omega) (by omega)) cal_X4_chain q_418 ⟨by decide, by decide⟩ rfl rfl rfl (va_recv hF.2.1 hP (ci := 4) (q0 := 0) rfl rfl) hZ (hP) hl.1 rfl (Nat.le_of_ble_eq_true rfl) dX4_longest_27 ⟨Nat.le_refl _, Nat.le_refl _⟩)) (fun r_ h_ => ?_)
      subst h_
      refine lv_goto (tgt := 34) hx hb dX4_longest_30 (by decide) ?_
      refine lv_istore_n (lv' := [(2, .int (nI (i - top w k i + 1))), (0, .ref mo), (1, .int (nI k)), (3, .int (nI i))]) hx hb dX4_longest_34 rfl hl (by decide) rfl (fun ls hl => ?_)
      refine xN_inc (lv' := [(3, .int (nI (i + 1))), (2, .int (nI (i - top w k i + 1))), (0, .ref mo), (1, .int (nI k))]) hx hb 1 dX4_longest_35 hl (k := 3) rfl (by decide) (by decide) rfl (fun ls hl => ?_)
      refine lv_goto (tgt := 4) hx hb dX4_longest_38 (by decide) ?_
      exact ih (i - top w k i + 1, i + 1) ls ⟨by omega, by rw [mxR, if_pos (by rw [← I2]; omega)], lv_sub hl [2, 3, 1, 0] rfl⟩ (by dsimp only; omega)
set_option maxHeartbeats 4000000 in
set_option maxRecDepth 100000 in
theorem c_X4_commonest (l : Launch) (g : XG) (mo mn mp mq mt mm md zs zl zp zr : Nat) (zk : Bool) (w : Nat → Int32) (hW : WF w) (a b : Nat) (hab : a ≤ b) (hb : b ≤ nr w) (k : Nat) (hk : k < 4) : Met l yX4_commonest (ww yX4_commonest cX4_commonest 8 (some .int)) (rmD 7) (xP g [.ref mo, .int (nI a), .int (nI (b) - nI 1), .int (nI k)] (fun H => va_P g.1 vwCl (ModC g mo mn mp mq mt mm md zs zl zp zr zk w) H)) (vp_Si (fun r9 => r9 = cmI w k a b)) 0 0 (fun _ => False) := by
  refine xMet (by decide) rfl (Nat.le_of_ble_eq_true rfl) ?_
  intro p e s m below meth c ls hF hZ hh hret hlocks hin hl
  have hx := hF.1.1
  have hb := hF.1.2.1
  have hP := hh
  have hP : va_P g.1 vwCl (ModC g mo mn mp mq mt mm md zs zl zp zr zk w) s.heap := hP
  have hl : lv_has ls 8 [(0, .ref mo), (1, .int (nI a)), (2, .int (nI (b) - nI 1)), (3, .int (nI k))] := hl
  have h48 := hW.n48
  have hp4 := hW.pg4
  have hp12 := hW.pg12
  have hs1 := hW.st1
  have hw2 := hW.wr2
  have hw6 := hW.wr6
  have hcm := cmN_le k
  refine lv_bipush hx hb (v := (-5)) dX4_commonest_0 (by decide) ?_
  refine lv_istore (lv' := [(4, .int (-5)), (0, .ref mo), (1, .int (nI a)), (2, .int (nI (b) - nI 1)), (3, .int (nI k))]) hx hb dX4_commonest_2 hl (by decide) rfl (fun ls hl => ?_)
  refine xN_const hx hb 0 dX4_commonest_4 (by decide) ?_
  refine lv_istore (lv' := [(5, .int (nI 0)), (4, .int (-5)), (0, .ref mo), (1, .int (nI a)), (2, .int (nI (b) - nI 1)), (3, .int (nI k))]) hx hb dX4_commonest_5 hl (by decide) rfl (fun ls hl => ?_)
  refine xN_const hx hb 0 dX4_commonest_7 (by decide) ?_
  refine lv_istore (lv' := [(6, .int (nI 0)), (5, .int (nI 0)), (4, .int (-5)), (0, .ref mo), (1, .int (nI a)), (2, .int (nI (b) - nI 1)), (3, .int (nI k))]) hx hb dX4_commonest_8 hl (by decide) rfl (fun ls hl => ?_)
  refine xloop (goal := fun ls => W p l e _ s m _ below meth c s.heap [] _ _ _ (F0 m _ ls [])) (fun (z_ : Int32 × Nat × Nat) (ls : Array Slot) => match z_ with | (be, q, v) => (v ≤ cmN k + 1) ∧ (cmP (mnR w k a b) v = (be, q)) ∧ lv_has ls 8 [(0, .ref mo), (1, .int (nI a)), (2, .int (nI (b) - nI 1)), (3, .int (nI k)), (4, .int (be)), (5, .int (nI q)), (6, .int (nI v))]) (fun (z_ : Int32 × Nat × Nat) => match z_ with | (be, q, v) => cmN k + 1 - v) ?_ (-5, 0, 0) ls ⟨by omega, rfl, lv_sub hl [3, 4, 5, 6, 2, 1, 0] rfl⟩
  rintro ⟨be, q, v⟩ ls ⟨I1, I2, hl⟩ ih
  have hq : q ≤ b - a := by have := cmP_le (mnR w k a b) (b - a) (mnR_le w k a b) v; rw [I2] at this; exact this
  refine lv_iload hx hb dX4_commonest_10 (lv_at hl 6 rfl) ?_
  refine lv_iload_n hx hb dX4_commonest_12 rfl (lv_at hl 3 rfl) ?_
  refine vp_callSi (va_Run.run (xrS hF (c_X4_most l g k (by omega)) cal_X4_most q_116 ⟨by decide, by decide⟩ rfl rfl rfl hZ (trivial) hl.1 rfl (Nat.le_of_ble_eq_true rfl) dX4_commonest_13 ⟨Nat.le_refl _, Nat.le_refl _⟩)) (fun r_ h_ => ?_)
  subst h_
  refine xC_gt (tgt := 68) hx hb (by omega) (by omega) dX4_commonest_16 (by decide) (fun c_16 => ?_) (fun c_16 => ?_)
  · refine lv_iload hx hb dX4_commonest_68 (lv_at hl 4 rfl) ?_
    exact xret_i (V := (be)) hF hret hlocks (by unfold cmI; rw [show cmN k + 1 = v by omega, I2]) dX4_commonest_70
  · refine lv_aload_n hx hb dX4_commonest_19 rfl (lv_at hl 0 rfl) ?_
    refine lv_iload_n hx hb dX4_commonest_20 rfl (lv_at hl 1 rfl) ?_
    refine lv_iload_n hx hb dX4_commonest_21 rfl (lv_at hl 2 rfl) ?_
    refine lv_iload_n hx hb dX4_commonest_22 rfl (lv_at hl 3 rfl) ?_
    refine lv_iload hx hb dX4_commonest_23 (lv_at hl 6 rfl) ?_
    refine vp_callSi (va_Run.run (xrV hF (c_X4_meaning l g mo mn mp mq mt mm md zs zl zp zr zk w hW a b (by omega) (by omega) k (by omega) (nI (v))) cal_X4_meaning q_495 ⟨by decide, by decide⟩ rfl rfl rfl (va_recv hF.2.1 hP (ci := 4) (q0 := 0) rfl rfl) hZ (hP) hl.1 rfl (Nat.le_of_ble_eq_true rfl) dX4_commonest_25 ⟨Nat.le_refl _, Nat.le_refl _⟩)) (fun r_ h_ => ?_)
    subst h_
    refine lv_istore (lv' := [(7, .int (nI (ctR (fun i9 => mean w i9 k == (nI (v))) a (b - a)))), (0, .ref mo), (1, .int (nI a)), (2, .int (nI (b) - nI 1)), (3, .int (nI k)), (4, .int (be)), (5, .int (nI q)), (6, .int (nI v))]) hx hb dX4_commonest_28 hl (by decide) rfl (fun ls hl => ?_)
    have hn := mnR_le w k a b v
    unfold mnR at hn
    refine lv_iload hx hb dX4_commonest_30 (lv_at hl 0 rfl) ?_
    refine lv_iload hx hb dX4_commonest_32 (lv_at hl 6 rfl) ?_
    refine xC_le (tgt := 42) hx hb (by omega) (by omega) dX4_commonest_34 (by decide) (fun c_34 => ?_) (fun c_34 => ?_)
    · refine lv_iload hx hb dX4_commonest_42 (lv_at hl 5 rfl) ?_
      refine lv_istore (lv' := [(4, .int (be)), (7, .int (nI (ctR (fun i9 => mean w i9 k == (nI (v))) a (b - a)))), (0, .ref mo), (1, .int (nI a)), (2, .int (nI (b) - nI 1)), (3, .int (nI k)), (5, .int (nI q)), (6, .int (nI v))]) hx hb dX4_commonest_44 hl (by decide) rfl (fun ls hl => ?_)
      refine lv_iload hx hb dX4_commonest_46 (lv_at hl 1 rfl) ?_
      refine lv_iload hx hb dX4_commonest_48 (lv_at hl 6 rfl) ?_
      refine xC_le (tgt := 58) hx hb (by omega) (by omega) dX4_commonest_50 (by decide) (fun c_50 => ?_) (fun c_50 => absurd c_50 (by omega))
      refine lv_iload hx hb dX4_commonest_58 (lv_at hl 6 rfl) ?_
      refine lv_istore (lv' := [(5, .int (nI q)), (4, .int (be)), (7, .int (nI (ctR (fun i9 => mean w i9 k == (nI (v))) a (b - a)))), (0, .ref mo), (1, .int (nI a)), (2, .int (nI (b) - nI 1)), (3, .int (nI k)), (6, .int (nI v))]) hx hb dX4_commonest_60 hl (by decide) rfl (fun ls hl => ?_)
      refine xN_inc (lv' := [(6, .int (nI (v + 1))), (5, .int (nI q)), (4, .int (be)), (7, .int (nI (ctR (fun i9 => mean w i9 k == (nI (v))) a (b - a)))), (0, .ref mo), (1, .int (nI a)), (2, .int (nI (b) - nI 1)), (3, .int (nI k))]) hx hb 1 dX4_commonest_62 hl (k := 7) rfl (by decide) (by decide) rfl (fun ls hl => ?_)
      refine lv_goto (tgt := 10) hx hb dX4_commonest_65 (by decide) ?_
      exact ih (be, q, v + 1) ls ⟨by omega, by rw [cmP, I2, if_neg (by unfold mnR; omega)], lv_sub hl [4, 5, 6, 7, 2, 1, 0] rfl⟩ (by dsimp only; omega)
    · refine lv_iload hx hb dX4_commonest_37 (lv_at hl 7 rfl) ?_
      refine lv_goto (tgt := 44) hx hb dX4_commonest_39 (by decide) ?_
      refine lv_istore (lv' := [(4, .int (nI v)), (7, .int (nI (ctR (fun i9 => mean w i9 k == (nI (v))) a (b - a)))), (0, .ref mo), (1, .int (nI a)), (2, .int (nI (b) - nI 1)), (3, .int (nI k)), (5, .int (nI q)), (6, .int (nI v))]) hx hb dX4_commonest_44 hl (by decide) rfl (fun ls hl => ?_)
      refine lv_iload hx hb dX4_commonest_46 (lv_at hl 1 rfl) ?_
      refine lv_iload hx hb dX4_commonest_48 (lv_at hl 6 rfl) ?_
      refine xC_le (tgt := 58) hx hb (by omega) (by omega) dX4_commonest_50 (by decide) (fun c_50 => absurd c_50 (by omega)) (fun c_50 => ?_)
      refine lv_iload hx hb dX4_commonest_53 (lv_at hl 1 rfl) ?_
      refine lv_goto (tgt := 60) hx hb dX4_commonest_55 (by decide) ?_
      refine lv_istore (lv' := [(5, .int (nI (ctR (fun i9 => mean w i9 k == (nI (v))) a (b - a)))), (4, .int (nI v)), (7, .int (nI (ctR (fun i9 => mean w i9 k == (nI (v))) a (b - a)))), (0, .ref mo), (1, .int (nI a)), (2, .int (nI (b) - nI 1)), (3, .int (nI k)), (6, .int (nI v))]) hx hb dX4_commonest_60 hl (by decide) rfl (fun ls hl => ?_)
      refine xN_inc (lv' := [(6, .int (nI (v + 1))), (5, .int (nI (ctR (fun i9 => mean w i9 k == (nI (v))) a (b - a)))), (4, .int (nI v)), (7, .int (nI (ctR (fun i9 => mean w i9 k == (nI (v))) a (b - a)))), (0, .ref mo), (1, .int (nI a)), (2, .int (nI (b) - nI 1)), (3, .int (nI k))]) hx hb 1 dX4_commonest_62 hl (k := 7) rfl (by decide) (by decide) rfl (fun ls hl => ?_)
      refine lv_goto (tgt := 10) hx hb dX4_commonest_65 (by decide) ?_
      exact ih (nI (v), ctR (fun i9 => mean w i9 k == (nI (v))) a (b - a), v + 1) ls ⟨by omega, by rw [cmP, I2, if_pos (by unfold mnR; omega)]; rfl, lv_sub hl [4, 5, 6, 7, 2, 1, 0] rfl⟩ (by dsimp only; omega)
set_option maxHeartbeats 4000000 in
set_option maxRecDepth 100000 in
theorem c_X4_doubtful (l : Launch) (g : XG) (mo mn mp mq mt mm md zs zl zp zr : Nat) (zk : Bool) (w : Nat → Int32) (hW : WF w) (a b : Nat) (hab : a ≤ b) (hb : b ≤ nr w) (k : Nat) (hk : k < 4) : Met l yX4_doubtful (ww yX4_doubtful cX4_doubtful 6 (some .int)) (rmD 6) (xP g [.ref mo, .int (nI a), .int (nI (b) - nI 1), .int (nI k)] (fun H => va_P g.1 vwCl (ModC g mo mn mp mq mt mm md zs zl zp zr zk w) H)) (vp_Si (fun r9 => r9 = nI (ctR (fun i9 => dbt w i9 k) a (b - a)))) 0 0 (fun _ => False) := by
  refine xMet (by decide) rfl (Nat.le_of_ble_eq_true rfl) ?_
  intro p e s m below meth c ls hF hZ hh hret hlocks hin hl
  have hx := hF.1.1
  have hb := hF.1.2.1
  have hP := hh
  have hP : va_P g.1 vwCl (ModC g mo mn mp mq mt mm md zs zl zp zr zk w) s.heap := hP
  have hl : lv_has ls 6 [(0, .ref mo), (1, .int (nI a)), (2, .int (nI (b) - nI 1)), (3, .int (nI k))] := hl
  have h48 := hW.n48
  have hp4 := hW.pg4
  have hp12 := hW.pg12
  have hs1 := hW.st1
  have hw2 := hW.wr2
  have hw6 := hW.wr6
  refine xN_const hx hb 0 dX4_doubtful_0 (by decide) ?_
  refine lv_istore (lv' := [(4, .int (nI 0)), (0, .ref mo), (1, .int (nI a)), (2, .int (nI (b) - nI 1)), (3, .int (nI k))]) hx hb dX4_doubtful_1 hl (by decide) rfl (fun ls hl => ?_)
  refine lv_iload_n hx hb dX4_doubtful_3 rfl (lv_at hl 2 rfl) ?_
  refine lv_istore (lv' := [(5, .int (nI a)), (4, .int (nI 0)), (0, .ref mo), (1, .int (nI a)), (2, .int (nI (b) - nI 1)), (3, .int (nI k))]) hx hb dX4_doubtful_4 hl (by decide) rfl (fun ls hl => ?_)
  refine xloop (goal := fun ls => W p l e _ s m _ below meth c s.heap [] _ _ _ (F0 m _ ls [])) (fun (z_ : Nat × Nat) (ls : Array Slot) => match z_ with | (f, i) => (a ≤ i) ∧ (i ≤ b) ∧ (f = ctR (fun i9 => dbt w i9 k) a (i - a)) ∧ lv_has ls 6 [(0, .ref mo), (1, .int (nI a)), (2, .int (nI (b) - nI 1)), (3, .int (nI k)), (4, .int (nI f)), (5, .int (nI i))]) (fun (z_ : Nat × Nat) => match z_ with | (f, i) => b - i) ?_ (0, a) ls ⟨Nat.le_refl _, hab, by rw [Nat.sub_self]; rfl, lv_sub hl [2, 3, 4, 5, 1, 0] rfl⟩
  rintro ⟨f, i⟩ ls ⟨I0, I1, I2, hl⟩ ih
  have hf := ctR_le (fun i9 => dbt w i9 k) a (i - a)
  refine lv_iload hx hb dX4_doubtful_6 (lv_at hl 5 rfl) ?_
  refine lv_iload_n hx hb dX4_doubtful_8 rfl (lv_at hl 2 rfl) ?_
  refine xE_gt (tgt := 38) hx hb (by omega) (by omega) dX4_doubtful_9 (by decide) (fun c_9 => ?_) (fun c_9 => ?_)
  · refine lv_iload hx hb dX4_doubtful_38 (lv_at hl 4 rfl) ?_
    exact xret_i (V := nI (f)) hF hret hlocks (by rw [I2, show i = b by omega]) dX4_doubtful_40
  · refine lv_iload hx hb dX4_doubtful_12 (lv_at hl 4 rfl) ?_
    refine lv_aload_n hx hb dX4_doubtful_14 rfl (lv_at hl 0 rfl) ?_
    refine lv_iload hx hb dX4_doubtful_15 (lv_at hl 5 rfl) ?_
    refine lv_iload_n hx hb dX4_doubtful_17 rfl (lv_at hl 3 rfl) ?_
    refine vp_callSi (va_Run.run (xrV hF (c_X4_isDoubtful l g mo mn mp mq mt mm md zs zl zp zr zk w hW i k (by omega) (by omega)) cal_X4_isDoubtful q_422 ⟨by decide, by decide⟩ rfl rfl rfl (va_recv hF.2.1 hP (ci := 4) (q0 := 0) rfl rfl) hZ (hP) hl.1 rfl (Nat.le_of_ble_eq_true rfl) dX4_doubtful_18 ⟨Nat.le_refl _, Nat.le_refl _⟩)) (fun r_ h_ => ?_)
    subst h_
    refine xZ_eq (tgt := 28) hx hb dX4_doubtful_21 (by decide) (fun c_21 => ?_) (fun c_21 => ?_)
    · refine xN_const hx hb 0 dX4_doubtful_28 (by decide) ?_
      refine xN_add hx hb dX4_doubtful_29 ?_
      refine lv_istore (lv' := [(4, .int (nI (f + 0))), (0, .ref mo), (1, .int (nI a)), (2, .int (nI (b) - nI 1)), (3, .int (nI k)), (5, .int (nI i))]) hx hb dX4_doubtful_30 hl (by decide) rfl (fun ls hl => ?_)
      refine xN_inc (lv' := [(5, .int (nI (i + 1))), (4, .int (nI (f + 0))), (0, .ref mo), (1, .int (nI a)), (2, .int (nI (b) - nI 1)), (3, .int (nI k))]) hx hb 1 dX4_doubtful_32 hl (k := 5) rfl (by decide) (by decide) rfl (fun ls hl => ?_)
      refine lv_goto (tgt := 6) hx hb dX4_doubtful_35 (by decide) ?_
      exact ih (f + 0, i + 1) ls ⟨by omega, by omega, by rw [I2, ctR_f I0 c_21]; rfl, lv_sub hl [2, 3, 4, 5, 1, 0] rfl⟩ (by dsimp only; omega)
    · refine xN_const hx hb 1 dX4_doubtful_24 (by decide) ?_
      refine lv_goto (tgt := 29) hx hb dX4_doubtful_25 (by decide) ?_
      refine xN_add hx hb dX4_doubtful_29 ?_
      refine lv_istore (lv' := [(4, .int (nI (f + 1))), (0, .ref mo), (1, .int (nI a)), (2, .int (nI (b) - nI 1)), (3, .int (nI k)), (5, .int (nI i))]) hx hb dX4_doubtful_30 hl (by decide) rfl (fun ls hl => ?_)
      refine xN_inc (lv' := [(5, .int (nI (i + 1))), (4, .int (nI (f + 1))), (0, .ref mo), (1, .int (nI a)), (2, .int (nI (b) - nI 1)), (3, .int (nI k))]) hx hb 1 dX4_doubtful_32 hl (k := 5) rfl (by decide) (by decide) rfl (fun ls hl => ?_)
      refine lv_goto (tgt := 6) hx hb dX4_doubtful_35 (by decide) ?_
      exact ih (f + 1, i + 1) ls ⟨by omega, by omega, by rw [I2, ctR_t I0 c_21], lv_sub hl [2, 3, 4, 5, 1, 0] rfl⟩ (by dsimp only; omega)
set_option maxHeartbeats 4000000 in
set_option maxRecDepth 100000 in
theorem c_X4_watches (l : Launch) (g : XG) (mo mn mp mq mt mm md zs zl zp zr : Nat) (zk : Bool) (w : Nat → Int32) (hW : WF w)  : Met l yX4_watches (ww yX4_watches cX4_watches 1 (some .int)) (rmD 0) (xP g [.ref mo] (fun H => va_P g.1 vwCl (ModC g mo mn mp mq mt mm md zs zl zp zr zk w) H)) (vp_Si (fun r9 => r9 = nI (wcs w))) 0 0 (fun _ => False) := by
  refine xMet (by decide) rfl (Nat.le_of_ble_eq_true rfl) ?_
  intro p e s m below meth c ls hF hZ hh hret hlocks hin hl
  have hx := hF.1.1
  have hb := hF.1.2.1
  have hP := hh
  have hP : va_P g.1 vwCl (ModC g mo mn mp mq mt mm md zs zl zp zr zk w) s.heap := hP
  have hl : lv_has ls 1 [(0, .ref mo)] := hl
  have h48 := hW.n48
  have hp4 := hW.pg4
  have hp12 := hW.pg12
  have hs1 := hW.st1
  have hw2 := hW.wr2
  have hw6 := hW.wr6
  refine lv_aload_n hx hb dX4_watches_0 rfl (lv_at hl 0 rfl) ?_
  refine gf_X4_X4_now hF hP 0 rfl rfl dX4_watches_1 ?_
  refine xN_const hx hb 0 dX4_watches_4 (by decide) ?_
  refine xA_ild hF hP 1 rfl (by omega) (by decide) (v := nI (nr w)) (hW.r0) dX4_watches_5 ?_
  refine lv_aload_n hx hb dX4_watches_6 rfl (lv_at hl 0 rfl) ?_
  refine gf_X4_X4_now hF hP 0 rfl rfl dX4_watches_7 ?_
  refine xN_const hx hb 3 dX4_watches_10 (by decide) ?_
  refine xA_ild hF hP 1 rfl (by omega) (by decide) (v := nI (wrN w)) (hW.r3) dX4_watches_11 ?_
  refine xN_add hx hb dX4_watches_12 ?_
  refine xN_const hx hb 1 dX4_watches_13 (by decide) ?_
  refine xN_sub hx hb (by omega) dX4_watches_14 ?_
  refine lv_aload_n hx hb dX4_watches_15 rfl (lv_at hl 0 rfl) ?_
  refine gf_X4_X4_now hF hP 0 rfl rfl dX4_watches_16 ?_
  refine xN_const hx hb 3 dX4_watches_19 (by decide) ?_
  refine xA_ild hF hP 1 rfl (by omega) (by decide) (v := nI (wrN w)) (hW.r3) dX4_watches_20 ?_
  refine xN_div hx hb (by omega) (by omega) (by omega) dX4_watches_21 ?_
  exact xret_i (V := nI (((nr w + (wrN w)) - 1) / (wrN w))) hF hret hlocks (rfl) dX4_watches_22
set_option maxHeartbeats 4000000 in
set_option maxRecDepth 100000 in
theorem c_X4_lastOf (l : Launch) (g : XG) (mo mn mp mq mt mm md zs zl zp zr : Nat) (zk : Bool) (w : Nat → Int32) (hW : WF w) (t : Nat) (ht : t < 24) : Met l yX4_lastOf (ww yX4_lastOf cX4_lastOf 3 (some .int)) (rmD 0) (xP g [.ref mo, .int (nI t)] (fun H => va_P g.1 vwCl (ModC g mo mn mp mq mt mm md zs zl zp zr zk w) H)) (vp_Si (fun r9 => r9 = nI (lstN w t) - nI 1)) 0 0 (fun _ => False) := by
  refine xMet (by decide) rfl (Nat.le_of_ble_eq_true rfl) ?_
  intro p e s m below meth c ls hF hZ hh hret hlocks hin hl
  have hx := hF.1.1
  have hb := hF.1.2.1
  have hP := hh
  have hP : va_P g.1 vwCl (ModC g mo mn mp mq mt mm md zs zl zp zr zk w) s.heap := hP
  have hl : lv_has ls 3 [(0, .ref mo), (1, .int (nI t))] := hl
  have h48 := hW.n48
  have hp4 := hW.pg4
  have hp12 := hW.pg12
  have hs1 := hW.st1
  have hw2 := hW.wr2
  have hw6 := hW.wr6
  have htw : (t + 1) * wrN w ≤ 24 * 6 := Nat.mul_le_mul (by omega) (by omega)
  refine lv_iload_n hx hb dX4_lastOf_0 rfl (lv_at hl 1 rfl) ?_
  refine xN_const hx hb 1 dX4_lastOf_1 (by decide) ?_
  refine xN_add hx hb dX4_lastOf_2 ?_
  refine lv_aload_n hx hb dX4_lastOf_3 rfl (lv_at hl 0 rfl) ?_
  refine gf_X4_X4_now hF hP 0 rfl rfl dX4_lastOf_4 ?_
  refine xN_const hx hb 3 dX4_lastOf_7 (by decide) ?_
  refine xA_ild hF hP 1 rfl (by omega) (by decide) (v := nI (wrN w)) (hW.r3) dX4_lastOf_8 ?_
  refine xN_mul hx hb dX4_lastOf_9 ?_
  refine lv_istore_n (lv' := [(2, .int (nI ((t + 1) * (wrN w)))), (0, .ref mo), (1, .int (nI t))]) hx hb dX4_lastOf_10 rfl hl (by decide) rfl (fun ls hl => ?_)
  refine lv_iload_n hx hb dX4_lastOf_11 rfl (lv_at hl 0 rfl) ?_
  refine lv_aload_n hx hb dX4_lastOf_12 rfl (lv_at hl 1 rfl) ?_
  refine gf_X4_X4_now hF hP 0 rfl rfl dX4_lastOf_13 ?_
  refine xN_const hx hb 0 dX4_lastOf_16 (by decide) ?_
  refine xA_ild hF hP 1 rfl (by omega) (by decide) (v := nI (nr w)) (hW.r0) dX4_lastOf_17 ?_
  refine xC_ge (tgt := 25) hx hb (by omega) (by omega) dX4_lastOf_18 (by decide) (fun c_18 => ?_) (fun c_18 => ?_)
  · refine lv_aload_n hx hb dX4_lastOf_25 rfl (lv_at hl 1 rfl) ?_
    refine gf_X4_X4_now hF hP 0 rfl rfl dX4_lastOf_26 ?_
    refine xN_const hx hb 0 dX4_lastOf_29 (by decide) ?_
    refine xA_ild hF hP 1 rfl (by omega) (by decide) (v := nI (nr w)) (hW.r0) dX4_lastOf_30 ?_
    refine xN_const hx hb 1 dX4_lastOf_31 (by decide) ?_
    refine lv_isub hx hb dX4_lastOf_32 ?_
    exact xret_i (V := nI (nr w) - nI 1) hF hret hlocks (by unfold lstN; by_cases h : nr w < (t + 1) * wrN w; { rw [if_pos h] }; { rw [if_neg h, show (t + 1) * wrN w = nr w by omega] }) dX4_lastOf_33
  · refine lv_iload_n hx hb dX4_lastOf_21 rfl (lv_at hl 0 rfl) ?_
    refine lv_goto (tgt := 31) hx hb dX4_lastOf_22 (by decide) ?_
    refine xN_const hx hb 1 dX4_lastOf_31 (by decide) ?_
    refine lv_isub hx hb dX4_lastOf_32 ?_
    exact xret_i (V := nI ((t + 1) * (wrN w)) - nI 1) hF hret hlocks (by unfold lstN; rw [if_neg (by omega)]) dX4_lastOf_33
set_option maxHeartbeats 4000000 in
set_option maxRecDepth 100000 in
theorem c_X4_runOf (l : Launch) (g : XG) (mo mn mp mq mt mm md zs zl zp zr : Nat) (zk : Bool) (w : Nat → Int32) (hW : WF w) (a b : Nat) (hab : a ≤ b) (hb : b ≤ nr w) : Met l yX4_runOf (ww yX4_runOf cX4_runOf 5 (some .int)) (rmD 6) (xP g [.ref mo, .int (nI a), .int (nI (b) - nI 1)] (fun H => va_P g.1 vwCl (ModC g mo mn mp mq mt mm md zs zl zp zr zk w) H)) (vp_Si (fun r9 => r9 = nI (runN w a b))) 0 0 (fun _ => False) := by
  refine xMet (by decide) rfl (Nat.le_of_ble_eq_true rfl) ?_
  intro p e s m below meth c ls hF hZ hh hret hlocks hin hl
  have hx := hF.1.1
  have hb := hF.1.2.1
  have hP := hh
  have hP : va_P g.1 vwCl (ModC g mo mn mp mq mt mm md zs zl zp zr zk w) s.heap := hP
  have hl : lv_has ls 5 [(0, .ref mo), (1, .int (nI a)), (2, .int (nI (b) - nI 1))] := hl
  have h48 := hW.n48
  have hp4 := hW.pg4
  have hp12 := hW.pg12
  have hs1 := hW.st1
  have hw2 := hW.wr2
  have hw6 := hW.wr6
  refine xN_const hx hb 0 dX4_runOf_0 (by decide) ?_
  refine lv_istore_n (lv' := [(3, .int (nI 0)), (0, .ref mo), (1, .int (nI a)), (2, .int (nI (b) - nI 1))]) hx hb dX4_runOf_1 rfl hl (by decide) rfl (fun ls hl => ?_)
  refine lv_iload_n hx hb dX4_runOf_2 rfl (lv_at hl 2 rfl) ?_
  refine lv_istore (lv' := [(4, .int (nI a)), (3, .int (nI 0)), (0, .ref mo), (1, .int (nI a)), (2, .int (nI (b) - nI 1))]) hx hb dX4_runOf_3 hl (by decide) rfl (fun ls hl => ?_)
  refine xloop (goal := fun ls => W p l e _ s m _ below meth c s.heap [] _ _ _ (F0 m _ ls [])) (fun (z_ : Nat × Nat) (ls : Array Slot) => match z_ with | (f, i) => (a ≤ i) ∧ (i ≤ b) ∧ (f = smR (spd w) a (i - a)) ∧ lv_has ls 5 [(0, .ref mo), (1, .int (nI a)), (2, .int (nI (b) - nI 1)), (3, .int (nI f)), (4, .int (nI i))]) (fun (z_ : Nat × Nat) => match z_ with | (f, i) => b - i) ?_ (0, a) ls ⟨Nat.le_refl _, hab, by rw [Nat.sub_self]; rfl, lv_sub hl [2, 3, 4, 1, 0] rfl⟩
  rintro ⟨f, i⟩ ls ⟨I0, I1, I2, hl⟩ ih
  refine lv_iload hx hb dX4_runOf_5 (lv_at hl 4 rfl) ?_
  refine lv_iload_n hx hb dX4_runOf_7 rfl (lv_at hl 2 rfl) ?_
  refine xE_gt (tgt := 41) hx hb (by omega) (by omega) dX4_runOf_8 (by decide) (fun c_8 => ?_) (fun c_8 => ?_)
  · refine lv_iload_n hx hb dX4_runOf_41 rfl (lv_at hl 3 rfl) ?_
    exact xret_i (V := nI (f)) hF hret hlocks (by rw [I2, show i = b by omega]; rfl) dX4_runOf_42
  · refine lv_iload_n hx hb dX4_runOf_11 rfl (lv_at hl 3 rfl) ?_
    refine lv_aload_n hx hb dX4_runOf_12 rfl (lv_at hl 0 rfl) ?_
    refine lv_iload hx hb dX4_runOf_13 (lv_at hl 4 rfl) ?_
    refine xN_const hx hb 1 dX4_runOf_15 (by decide) ?_
    refine vp_callSi (va_Run.run (xrV hF (c_X4_means l g mo mn mp mq mt mm md zs zl zp zr zk w hW i 1 (by omega) (by omega)) cal_X4_means q_286 ⟨by decide, by decide⟩ rfl rfl rfl (va_recv hF.2.1 hP (ci := 4) (q0 := 0) rfl rfl) hZ (hP) hl.1 rfl (Nat.le_of_ble_eq_true rfl) dX4_runOf_16 ⟨Nat.le_refl _, Nat.le_refl _⟩)) (fun r_ h_ => ?_)
    subst h_
    refine lv_if_lt (tgt := 32) hx hb dX4_runOf_19 (by decide) (fun c_19 => ?_) (fun c_19 => ?_)
    · refine xN_const hx hb 0 dX4_runOf_32 (by decide) ?_
      refine xN_add hx hb dX4_runOf_33 ?_
      refine lv_istore_n (lv' := [(3, .int (nI (f + 0))), (0, .ref mo), (1, .int (nI a)), (2, .int (nI (b) - nI 1)), (4, .int (nI i))]) hx hb dX4_runOf_34 rfl hl (by decide) rfl (fun ls hl => ?_)
      refine xN_inc (lv' := [(4, .int (nI (i + 1))), (3, .int (nI (f + 0))), (0, .ref mo), (1, .int (nI a)), (2, .int (nI (b) - nI 1))]) hx hb 1 dX4_runOf_35 hl (k := 4) rfl (by decide) (by decide) rfl (fun ls hl => ?_)
      refine lv_goto (tgt := 5) hx hb dX4_runOf_38 (by decide) ?_
      exact ih (f + 0, i + 1) ls ⟨by omega, by omega, by rw [I2, smR_step I0, show spd w i = 0 from spd_neg c_19], lv_sub hl [2, 3, 4, 1, 0] rfl⟩ (by dsimp only; omega)
    · refine lv_aload_n hx hb dX4_runOf_22 rfl (lv_at hl 0 rfl) ?_
      refine lv_iload hx hb dX4_runOf_23 (lv_at hl 4 rfl) ?_
      refine xN_const hx hb 1 dX4_runOf_25 (by decide) ?_
      refine vp_callSi (va_Run.run (xrV hF (c_X4_means l g mo mn mp mq mt mm md zs zl zp zr zk w hW i 1 (by omega) (by omega)) cal_X4_means q_286 ⟨by decide, by decide⟩ rfl rfl rfl (va_recv hF.2.1 hP (ci := 4) (q0 := 0) rfl rfl) hZ (hP) hl.1 rfl (Nat.le_of_ble_eq_true rfl) dX4_runOf_26 ⟨Nat.le_refl _, Nat.le_refl _⟩)) (fun r_ h_ => ?_)
      subst h_
      rw [show ((mean w i 1) : Int32) = nI (spd w i) from spd_pos c_19]
      refine lv_goto (tgt := 33) hx hb dX4_runOf_29 (by decide) ?_
      refine xN_add hx hb dX4_runOf_33 ?_
      refine lv_istore_n (lv' := [(3, .int (nI (f + (spd w i)))), (0, .ref mo), (1, .int (nI a)), (2, .int (nI (b) - nI 1)), (4, .int (nI i))]) hx hb dX4_runOf_34 rfl hl (by decide) rfl (fun ls hl => ?_)
      refine xN_inc (lv' := [(4, .int (nI (i + 1))), (3, .int (nI (f + (spd w i)))), (0, .ref mo), (1, .int (nI a)), (2, .int (nI (b) - nI 1))]) hx hb 1 dX4_runOf_35 hl (k := 4) rfl (by decide) (by decide) rfl (fun ls hl => ?_)
      refine lv_goto (tgt := 5) hx hb dX4_runOf_38 (by decide) ?_
      exact ih (f + (spd w i), i + 1) ls ⟨by omega, by omega, by rw [I2, smR_step I0], lv_sub hl [2, 3, 4, 1, 0] rfl⟩ (by dsimp only; omega)
set_option maxHeartbeats 4000000 in
set_option maxRecDepth 100000 in
theorem c_X4_inDoubt (l : Launch) (g : XG) (mo mn mp mq mt mm md zs zl zp zr : Nat) (zk : Bool) (w : Nat → Int32) (hW : WF w) (a b : Nat) (hab : a ≤ b) (hb : b ≤ nr w) : Met l yX4_inDoubt (ww yX4_inDoubt cX4_inDoubt 5 (some .int)) (rmD 7) (xP g [.ref mo, .int (nI a), .int (nI (b) - nI 1)] (fun H => va_P g.1 vwCl (ModC g mo mn mp mq mt mm md zs zl zp zr zk w) H)) (vp_Si (fun r9 => r9 = nI (idN w a b 4))) 0 0 (fun _ => False) := by
  refine xMet (by decide) rfl (Nat.le_of_ble_eq_true rfl) ?_
  intro p e s m below meth c ls hF hZ hh hret hlocks hin hl
  have hx := hF.1.1
  have hb := hF.1.2.1
  have hP := hh
  have hP : va_P g.1 vwCl (ModC g mo mn mp mq mt mm md zs zl zp zr zk w) s.heap := hP
  have hl : lv_has ls 5 [(0, .ref mo), (1, .int (nI a)), (2, .int (nI (b) - nI 1))] := hl
  have h48 := hW.n48
  have hp4 := hW.pg4
  have hp12 := hW.pg12
  have hs1 := hW.st1
  have hw2 := hW.wr2
  have hw6 := hW.wr6
  refine xN_const hx hb 0 dX4_inDoubt_0 (by decide) ?_
  refine lv_istore_n (lv' := [(3, .int (nI 0)), (0, .ref mo), (1, .int (nI a)), (2, .int (nI (b) - nI 1))]) hx hb dX4_inDoubt_1 rfl hl (by decide) rfl (fun ls hl => ?_)
  refine xN_const hx hb 0 dX4_inDoubt_2 (by decide) ?_
  refine lv_istore (lv' := [(4, .int (nI 0)), (3, .int (nI 0)), (0, .ref mo), (1, .int (nI a)), (2, .int (nI (b) - nI 1))]) hx hb dX4_inDoubt_3 hl (by decide) rfl (fun ls hl => ?_)
  refine xloop (goal := fun ls => W p l e _ s m _ below meth c s.heap [] _ _ _ (F0 m _ ls [])) (fun (z_ : Nat × Nat) (ls : Array Slot) => match z_ with | (f, i) => (i ≤ 4) ∧ (f = idN w a b i) ∧ lv_has ls 5 [(0, .ref mo), (1, .int (nI a)), (2, .int (nI (b) - nI 1)), (3, .int (nI f)), (4, .int (nI i))]) (fun (z_ : Nat × Nat) => match z_ with | (f, i) => 4 - i) ?_ (0, 0) ls ⟨by omega, rfl, lv_sub hl [2, 3, 4, 1, 0] rfl⟩
  rintro ⟨f, i⟩ ls ⟨I1, I2, hl⟩ ih
  refine lv_iload hx hb dX4_inDoubt_5 (lv_at hl 4 rfl) ?_
  refine xN_const hx hb 4 dX4_inDoubt_7 (by decide) ?_
  refine xC_ge (tgt := 28) hx hb (by omega) (by omega) dX4_inDoubt_8 (by decide) (fun c_8 => ?_) (fun c_8 => ?_)
  · refine lv_iload_n hx hb dX4_inDoubt_28 rfl (lv_at hl 3 rfl) ?_
    exact xret_i (V := nI (f)) hF hret hlocks (by rw [I2, show i = 4 by omega]) dX4_inDoubt_29
  · refine lv_iload_n hx hb dX4_inDoubt_11 rfl (lv_at hl 3 rfl) ?_
    refine lv_aload_n hx hb dX4_inDoubt_12 rfl (lv_at hl 0 rfl) ?_
    refine lv_iload_n hx hb dX4_inDoubt_13 rfl (lv_at hl 1 rfl) ?_
    refine lv_iload_n hx hb dX4_inDoubt_14 rfl (lv_at hl 2 rfl) ?_
    refine lv_iload hx hb dX4_inDoubt_15 (lv_at hl 4 rfl) ?_
    refine vp_callSi (va_Run.run (xrV hF (c_X4_doubtful l g mo mn mp mq mt mm md zs zl zp zr zk w hW a b (by omega) (by omega) i (by omega)) cal_X4_doubtful q_507 ⟨by decide, by decide⟩ rfl rfl rfl (va_recv hF.2.1 hP (ci := 4) (q0 := 0) rfl rfl) hZ (hP) hl.1 rfl (Nat.le_of_ble_eq_true rfl) dX4_inDoubt_17 ⟨Nat.le_refl _, Nat.le_refl _⟩)) (fun r_ h_ => ?_)
    subst h_
    refine xN_add hx hb dX4_inDoubt_20 ?_
    refine lv_istore_n (lv' := [(3, .int (nI (f + (ctR (fun i9 => dbt w i9 i) a (b - a))))), (0, .ref mo), (1, .int (nI a)), (2, .int (nI (b) - nI 1)), (4, .int (nI i))]) hx hb dX4_inDoubt_21 rfl hl (by decide) rfl (fun ls hl => ?_)
    refine xN_inc (lv' := [(4, .int (nI (i + 1))), (3, .int (nI (f + (ctR (fun i9 => dbt w i9 i) a (b - a))))), (0, .ref mo), (1, .int (nI a)), (2, .int (nI (b) - nI 1))]) hx hb 1 dX4_inDoubt_22 hl (k := 4) rfl (by decide) (by decide) rfl (fun ls hl => ?_)
    refine lv_goto (tgt := 5) hx hb dX4_inDoubt_25 (by decide) ?_
    exact ih (f + (ctR (fun i9 => dbt w i9 i) a (b - a)), i + 1) ls ⟨by omega, by rw [I2, idN], lv_sub hl [2, 3, 4, 1, 0] rfl⟩ (by dsimp only; omega)
set_option maxHeartbeats 4000000 in
set_option maxRecDepth 100000 in
theorem c_X4_mayGo (l : Launch) (g : XG) (mo mn mp mq mt mm md zs zl zp zr : Nat) (zk : Bool) (w : Nat → Int32) (hW : WF w) (x y : Int32) : Met l yX4_mayGo (ww yX4_mayGo cX4_mayGo 3 (some .int)) (rmD 2) (xP g [.ref mo, .int (x), .int (y)] (fun H => va_P g.1 vwCl (ModC g mo mn mp mq mt mm md zs zl zp zr zk w) H)) (vp_Si (fun r9 => r9 = mg w x y)) 0 0 (fun _ => False) := by
  refine xMet (by decide) rfl (Nat.le_of_ble_eq_true rfl) ?_
  intro p e s m below meth c ls hF hZ hh hret hlocks hin hl
  have hx := hF.1.1
  have hb := hF.1.2.1
  have hP := hh
  have hP : va_P g.1 vwCl (ModC g mo mn mp mq mt mm md zs zl zp zr zk w) s.heap := hP
  have hl : lv_has ls 3 [(0, .ref mo), (1, .int (x)), (2, .int (y))] := hl
  have h48 := hW.n48
  have hp4 := hW.pg4
  have hp12 := hW.pg12
  have hs1 := hW.st1
  have hw2 := hW.wr2
  have hw6 := hW.wr6
  refine lv_aload_n hx hb dX4_mayGo_0 rfl (lv_at hl 0 rfl) ?_
  refine lv_iload_n hx hb dX4_mayGo_1 rfl (lv_at hl 1 rfl) ?_
  refine vp_callSi (va_Run.run (xrV hF (c_X4_isRow l g mo mn mp mq mt mm md zs zl zp zr zk w hW ((x)) ) cal_X4_isRow q_267 ⟨by decide, by decide⟩ rfl rfl rfl (va_recv hF.2.1 hP (ci := 4) (q0 := 0) rfl rfl) hZ (hP) hl.1 rfl (Nat.le_of_ble_eq_true rfl) dX4_mayGo_2 ⟨Nat.le_refl _, Nat.le_refl _⟩)) (fun r_ h_ => ?_)
  subst h_
  refine xZ_eq (tgt := 16) hx hb dX4_mayGo_5 (by decide) (fun c_5 => ?_) (fun c_5 => ?_)
  · refine lv_iconst hx hb (v := (-1)) dX4_mayGo_16 (by decide) ?_
    refine lv_goto (tgt := 31) hx hb dX4_mayGo_17 (by decide) ?_
    exact xret_i (V := (-1)) hF hret hlocks (by unfold mg; rw [c_5]; rfl) dX4_mayGo_31
  · refine lv_aload_n hx hb dX4_mayGo_8 rfl (lv_at hl 0 rfl) ?_
    refine lv_iload_n hx hb dX4_mayGo_9 rfl (lv_at hl 2 rfl) ?_
    refine vp_callSi (va_Run.run (xrV hF (c_X4_isRow l g mo mn mp mq mt mm md zs zl zp zr zk w hW ((y)) ) cal_X4_isRow q_267 ⟨by decide, by decide⟩ rfl rfl rfl (va_recv hF.2.1 hP (ci := 4) (q0 := 0) rfl rfl) hZ (hP) hl.1 rfl (Nat.le_of_ble_eq_true rfl) dX4_mayGo_10 ⟨Nat.le_refl _, Nat.le_refl _⟩)) (fun r_ h_ => ?_)
    subst h_
    refine xZ_ne (tgt := 20) hx hb dX4_mayGo_13 (by decide) (fun c_13 => ?_) (fun c_13 => ?_)
    · refine lv_iload_n hx hb dX4_mayGo_20 rfl (lv_at hl 2 rfl) ?_
      refine lv_iload_n hx hb dX4_mayGo_21 rfl (lv_at hl 1 rfl) ?_
      refine lv_icmp_ge (tgt := 30) hx hb dX4_mayGo_22 (by decide) (fun c_22 => ?_) (fun c_22 => ?_)
      · refine xN_const hx hb 0 dX4_mayGo_30 (by decide) ?_
        exact xret_i (V := nI (0)) hF hret hlocks (by unfold mg; rw [c_5, c_13, if_neg (Int32.not_lt.mpr c_22)]; rfl) dX4_mayGo_31
      · refine lv_bipush hx hb (v := (-2)) dX4_mayGo_25 (by decide) ?_
        refine lv_goto (tgt := 31) hx hb dX4_mayGo_27 (by decide) ?_
        exact xret_i (V := (-2)) hF hret hlocks (by unfold mg; rw [c_5, c_13, if_pos (Int32.not_le.mp c_22)]; rfl) dX4_mayGo_31
    · refine lv_iconst hx hb (v := (-1)) dX4_mayGo_16 (by decide) ?_
      refine lv_goto (tgt := 31) hx hb dX4_mayGo_17 (by decide) ?_
      exact xret_i (V := (-1)) hF hret hlocks (by unfold mg; rw [c_13, Bool.and_false]; rfl) dX4_mayGo_31
set_option maxHeartbeats 4000000 in
set_option maxRecDepth 100000 in
theorem c_X4_run (l : Launch) (g : XG) (mo mn mp mq mt mm md zs zl zp zr : Nat) (zk : Bool) (w : Nat → Int32) (hW : WF w) (x y : Int32) : Met l yX4_run (ww yX4_run cX4_run 4 (some .int)) (rmD 7) (xP g [.ref mo, .int (x), .int (y)] (fun H => va_P g.1 vwCl (ModC g mo mn mp mq mt mm md zs zl zp zr zk w) H)) (vp_Si (fun r9 => r9 = runA w x y)) 0 0 (fun _ => False) := by
  refine xMet (by decide) rfl (Nat.le_of_ble_eq_true rfl) ?_
  intro p e s m below meth c ls hF hZ hh hret hlocks hin hl
  have hx := hF.1.1
  have hb := hF.1.2.1
  have hP := hh
  have hP : va_P g.1 vwCl (ModC g mo mn mp mq mt mm md zs zl zp zr zk w) s.heap := hP
  have hl : lv_has ls 4 [(0, .ref mo), (1, .int (x)), (2, .int (y))] := hl
  have h48 := hW.n48
  have hp4 := hW.pg4
  have hp12 := hW.pg12
  have hs1 := hW.st1
  have hw2 := hW.wr2
  have hw6 := hW.wr6
  refine lv_aload_n hx hb dX4_run_0 rfl (lv_at hl 0 rfl) ?_
  refine lv_iload_n hx hb dX4_run_1 rfl (lv_at hl 1 rfl) ?_
  refine lv_iload_n hx hb dX4_run_2 rfl (lv_at hl 2 rfl) ?_
  refine vp_callSi (va_Run.run (xrV hF (c_X4_mayGo l g mo mn mp mq mt mm md zs zl zp zr zk w hW ((x)) ((y)) ) cal_X4_mayGo q_560 ⟨by decide, by decide⟩ rfl rfl rfl (va_recv hF.2.1 hP (ci := 4) (q0 := 0) rfl rfl) hZ (hP) hl.1 rfl (Nat.le_of_ble_eq_true rfl) dX4_run_3 ⟨Nat.le_refl _, Nat.le_refl _⟩)) (fun r_ h_ => ?_)
  subst h_
  refine lv_istore_n (lv' := [(3, .int (mg w ((x)) ((y)))), (0, .ref mo), (1, .int (x)), (2, .int (y))]) hx hb dX4_run_6 rfl hl (by decide) rfl (fun ls hl => ?_)
  refine lv_iload_n hx hb dX4_run_7 rfl (lv_at hl 0 rfl) ?_
  refine lv_if_ge (tgt := 15) hx hb dX4_run_8 (by decide) (fun c_8 => ?_) (fun c_8 => ?_)
  · obtain ⟨q1, q2, q3⟩ := mg_neg.mp (Int32.not_lt.mpr c_8)
    obtain ⟨a, ha9, rfl⟩ := (rowB_iff hW).mp q1
    obtain ⟨b, hb9, rfl⟩ := (rowB_iff hW).mp q2
    have hab : a ≤ b := Nat.le_of_not_lt (fun q => q3 (nI_lt q (by omega)))
    refine lv_aload_n hx hb dX4_run_15 rfl (lv_at hl 1 rfl) ?_
    refine lv_iload_n hx hb dX4_run_16 rfl (lv_at hl 2 rfl) ?_
    refine lv_iload_n hx hb dX4_run_17 rfl (lv_at hl 3 rfl) ?_
    refine W.eq (g2 := F0 m 18 ls [.int (nI (b + 1) - nI 1), .int (nI a), .ref mo]) (by rw [xE_pred]) ?_
    refine vp_callSi (va_Run.run (xrV hF (c_X4_runOf l g mo mn mp mq mt mm md zs zl zp zr zk w hW a (b + 1) (by omega) (by omega)) cal_X4_runOf q_544 ⟨by decide, by decide⟩ rfl rfl rfl (va_recv hF.2.1 hP (ci := 4) (q0 := 0) rfl rfl) hZ (hP) hl.1 rfl (Nat.le_of_ble_eq_true rfl) dX4_run_18 ⟨Nat.le_refl _, Nat.le_refl _⟩)) (fun r_ h_ => ?_)
    subst h_
    exact xret_i (V := nI (runN w a (b + 1))) hF hret hlocks (by unfold runA; rw [if_neg (Int32.not_lt.mpr c_8), nI_clamp (by omega), nI_clamp (by omega)]) dX4_run_21
  · refine lv_iload_n hx hb dX4_run_11 rfl (lv_at hl 0 rfl) ?_
    refine lv_goto (tgt := 21) hx hb dX4_run_12 (by decide) ?_
    exact xret_i (V := (mg w ((x)) ((y)))) hF hret hlocks (by unfold runA; rw [if_pos (Int32.not_le.mp c_8)]) dX4_run_21
set_option maxHeartbeats 4000000 in
set_option maxRecDepth 100000 in
theorem c_X4_allWritten (l : Launch) (g : XG) (mo mn mp mq mt mm md zs zl zp zr : Nat) (zk : Bool) (w : Nat → Int32) (hW : WF w)  : Met l yX4_allWritten (ww yX4_allWritten cX4_allWritten 3 (some .int)) (rmD 4) (xP g [.ref mo] (fun H => va_P g.1 vwCl (ModC g mo mn mp mq mt mm md zs zl zp zr zk w) H)) (vp_Si (fun r9 => r9 = nI (ctR (wrB w) 0 (nr w)))) 0 0 (fun _ => False) := by
  refine xMet (by decide) rfl (Nat.le_of_ble_eq_true rfl) ?_
  intro p e s m below meth c ls hF hZ hh hret hlocks hin hl
  have hx := hF.1.1
  have hb := hF.1.2.1
  have hP := hh
  have hP : va_P g.1 vwCl (ModC g mo mn mp mq mt mm md zs zl zp zr zk w) s.heap := hP
  have hl : lv_has ls 3 [(0, .ref mo)] := hl
  have h48 := hW.n48
  have hp4 := hW.pg4
  have hp12 := hW.pg12
  have hs1 := hW.st1
  have hw2 := hW.wr2
  have hw6 := hW.wr6
  refine xN_const hx hb 0 dX4_allWritten_0 (by decide) ?_
  refine lv_istore_n (lv' := [(1, .int (nI 0)), (0, .ref mo)]) hx hb dX4_allWritten_1 rfl hl (by decide) rfl (fun ls hl => ?_)
  refine xN_const hx hb 0 dX4_allWritten_2 (by decide) ?_
  refine lv_istore_n (lv' := [(2, .int (nI 0)), (1, .int (nI 0)), (0, .ref mo)]) hx hb dX4_allWritten_3 rfl hl (by decide) rfl (fun ls hl => ?_)
  refine xloop (goal := fun ls => W p l e _ s m _ below meth c s.heap [] _ _ _ (F0 m _ ls [])) (fun (z_ : Nat × Nat) (ls : Array Slot) => match z_ with | (f, i) => (i ≤ nr w) ∧ (f = ctR (wrB w) 0 (i - 0)) ∧ lv_has ls 3 [(0, .ref mo), (1, .int (nI f)), (2, .int (nI i))]) (fun (z_ : Nat × Nat) => match z_ with | (f, i) => nr w - i) ?_ (0, 0) ls ⟨Nat.zero_le _, rfl, lv_sub hl [2, 1, 0] rfl⟩
  rintro ⟨f, i⟩ ls ⟨I1, I2, hl⟩ ih
  have hf := ctR_le (wrB w) 0 (i - 0)
  refine lv_iload_n hx hb dX4_allWritten_4 rfl (lv_at hl 2 rfl) ?_
  refine lv_aload_n hx hb dX4_allWritten_5 rfl (lv_at hl 0 rfl) ?_
  refine gf_X4_X4_now hF hP 0 rfl rfl dX4_allWritten_6 ?_
  refine xN_const hx hb 0 dX4_allWritten_9 (by decide) ?_
  refine xA_ild hF hP 1 rfl (by omega) (by decide) (v := nI (nr w)) (hW.r0) dX4_allWritten_10 ?_
  refine xC_ge (tgt := 28) hx hb (by omega) (by omega) dX4_allWritten_11 (by decide) (fun c_11 => ?_) (fun c_11 => ?_)
  · refine lv_iload_n hx hb dX4_allWritten_28 rfl (lv_at hl 1 rfl) ?_
    exact xret_i (V := nI (f)) hF hret hlocks (by rw [I2, show i = nr w by omega]; rfl) dX4_allWritten_29
  · refine lv_iload_n hx hb dX4_allWritten_14 rfl (lv_at hl 1 rfl) ?_
    refine lv_aload_n hx hb dX4_allWritten_15 rfl (lv_at hl 0 rfl) ?_
    refine lv_iload_n hx hb dX4_allWritten_16 rfl (lv_at hl 2 rfl) ?_
    refine vp_callSi (va_Run.run (xrV hF (c_X4_written l g mo mn mp mq mt mm md zs zl zp zr zk w hW i (by omega)) cal_X4_written q_449 ⟨by decide, by decide⟩ rfl rfl rfl (va_recv hF.2.1 hP (ci := 4) (q0 := 0) rfl rfl) hZ (hP) hl.1 rfl (Nat.le_of_ble_eq_true rfl) dX4_allWritten_17 ⟨Nat.le_refl _, Nat.le_refl _⟩)) (fun r_ h_ => ?_)
    subst h_
    rw [show (xz (wrB w i) : Int32) = nI (if wrB w i then 1 else 0) from by cases wrB w i <;> rfl]
    refine xN_add hx hb dX4_allWritten_20 ?_
    refine lv_istore_n (lv' := [(1, .int (nI (f + (if wrB w i then 1 else 0)))), (0, .ref mo), (2, .int (nI i))]) hx hb dX4_allWritten_21 rfl hl (by decide) rfl (fun ls hl => ?_)
    refine xN_inc (lv' := [(2, .int (nI (i + 1))), (1, .int (nI (f + (if wrB w i then 1 else 0)))), (0, .ref mo)]) hx hb 1 dX4_allWritten_22 hl (k := 2) rfl (by decide) (by decide) rfl (fun ls hl => ?_)
    refine lv_goto (tgt := 4) hx hb dX4_allWritten_25 (by decide) ?_
    exact ih (f + (if wrB w i then 1 else 0), i + 1) ls ⟨by omega, by rw [I2, ctR_step (Nat.zero_le _)], lv_sub hl [2, 1, 0] rfl⟩ (by dsimp only; omega)
set_option maxHeartbeats 4000000 in
set_option maxRecDepth 100000 in
theorem c_X4_unlike (l : Launch) (g : XG) (mo mn mp mq mt mm md zs zl zp zr : Nat) (zk : Bool) (w : Nat → Int32) (hW : WF w)  : Met l yX4_unlike (ww yX4_unlike cX4_unlike 4 (some .int)) (rmD 7) (xP g [.ref mo] (fun H => va_P g.1 vwCl (ModC g mo mn mp mq mt mm md zs zl zp zr zk w) H)) (vp_Si (fun r9 => r9 = nI (ctR (wrgB w) 0 (wcs w)))) 0 0 (fun _ => False) := by
  refine xMet (by decide) rfl (Nat.le_of_ble_eq_true rfl) ?_
  intro p e s m below meth c ls hF hZ hh hret hlocks hin hl
  have hx := hF.1.1
  have hb := hF.1.2.1
  have hP := hh
  have hP : va_P g.1 vwCl (ModC g mo mn mp mq mt mm md zs zl zp zr zk w) s.heap := hP
  have hl : lv_has ls 4 [(0, .ref mo)] := hl
  have h48 := hW.n48
  have hp4 := hW.pg4
  have hp12 := hW.pg12
  have hs1 := hW.st1
  have hw2 := hW.wr2
  have hw6 := hW.wr6
  have hwc := wcs_le hW
  refine xN_const hx hb 0 dX4_unlike_0 (by decide) ?_
  refine lv_istore_n (lv' := [(1, .int (nI 0)), (0, .ref mo)]) hx hb dX4_unlike_1 rfl hl (by decide) rfl (fun ls hl => ?_)
  refine xN_const hx hb 0 dX4_unlike_2 (by decide) ?_
  refine lv_istore_n (lv' := [(2, .int (nI 0)), (1, .int (nI 0)), (0, .ref mo)]) hx hb dX4_unlike_3 rfl hl (by decide) rfl (fun ls hl => ?_)
  refine xloop (goal := fun ls => W p l e _ s m _ below meth c s.heap [] _ _ _ (F0 m _ ls [])) (fun (z_ : Nat × Nat) (ls : Array Slot) => match z_ with | (f, i) => (i ≤ wcs w) ∧ (f = ctR (wrgB w) 0 (i - 0)) ∧ lv_has ls 4 [(0, .ref mo), (1, .int (nI f)), (2, .int (nI i))]) (fun (z_ : Nat × Nat) => match z_ with | (f, i) => wcs w - i) ?_ (0, 0) ls ⟨Nat.zero_le _, rfl, lv_sub hl [2, 1, 0] rfl⟩
  rintro ⟨f, i⟩ ls ⟨I1, I2, hl⟩ ih
  have hf := ctR_le (wrgB w) 0 (i - 0)
  refine lv_iload_n hx hb dX4_unlike_4 rfl (lv_at hl 2 rfl) ?_
  refine lv_aload_n hx hb dX4_unlike_5 rfl (lv_at hl 0 rfl) ?_
  refine vp_callSi (va_Run.run (xrV hF (c_X4_watches l g mo mn mp mq mt mm md zs zl zp zr zk w hW  ) cal_X4_watches q_536 ⟨by decide, by decide⟩ rfl rfl rfl (va_recv hF.2.1 hP (ci := 4) (q0 := 0) rfl rfl) hZ (hP) hl.1 rfl (Nat.le_of_ble_eq_true rfl) dX4_unlike_6 ⟨Nat.le_refl _, Nat.le_refl _⟩)) (fun r_ h_ => ?_)
  subst h_
  refine xC_ge (tgt := 62) hx hb (by omega) (by omega) dX4_unlike_9 (by decide) (fun c_9 => ?_) (fun c_9 => ?_)
  · refine lv_iload_n hx hb dX4_unlike_62 rfl (lv_at hl 1 rfl) ?_
    exact xret_i (V := nI (f)) hF hret hlocks (by rw [I2, show i = wcs w by omega]; rfl) dX4_unlike_63
  · refine lv_aload_n hx hb dX4_unlike_12 rfl (lv_at hl 0 rfl) ?_
    refine gf_X4_X4_now hF hP 0 rfl rfl dX4_unlike_13 ?_
    refine xN_const hx hb 4 dX4_unlike_16 (by decide) ?_
    refine lv_iload_n hx hb dX4_unlike_17 rfl (lv_at hl 2 rfl) ?_
    refine xN_add hx hb dX4_unlike_18 ?_
    refine xA_ild hF hP 1 rfl (by omega) (by decide) (v := (w (4 + i))) rfl dX4_unlike_19 ?_
    refine lv_istore_n (lv' := [(3, .int (w (4 + i))), (0, .ref mo), (1, .int (nI f)), (2, .int (nI i))]) hx hb dX4_unlike_20 rfl hl (by decide) rfl (fun ls hl => ?_)
    refine lv_iload_n hx hb dX4_unlike_21 rfl (lv_at hl 2 rfl) ?_
    refine lv_iload_n hx hb dX4_unlike_22 rfl (lv_at hl 0 rfl) ?_
    refine lv_bipush hx hb (v := (-5)) dX4_unlike_23 (by decide) ?_
    refine lv_icmp_eq (tgt := 53) hx hb dX4_unlike_25 (by decide) (fun c_25 => ?_) (fun c_25 => ?_)
    · refine xN_const hx hb 0 dX4_unlike_53 (by decide) ?_
      refine xN_add hx hb dX4_unlike_54 ?_
      refine lv_istore_n (lv' := [(1, .int (nI (f + 0))), (3, .int (w (4 + i))), (0, .ref mo), (2, .int (nI i))]) hx hb dX4_unlike_55 rfl hl (by decide) rfl (fun ls hl => ?_)
      refine xN_inc (lv' := [(2, .int (nI (i + 1))), (1, .int (nI (f + 0))), (3, .int (w (4 + i))), (0, .ref mo)]) hx hb 1 dX4_unlike_56 hl (k := 3) rfl (by decide) (by decide) rfl (fun ls hl => ?_)
      refine lv_goto (tgt := 4) hx hb dX4_unlike_59 (by decide) ?_
      exact ih (f + 0, i + 1) ls ⟨by omega, by rw [I2, ctR_f (Nat.zero_le _) (by unfold wrgB; rw [c_25]; rfl)]; rfl, lv_sub hl [3, 1, 0] rfl⟩ (by dsimp only; omega)
    · refine lv_iload_n hx hb dX4_unlike_28 rfl (lv_at hl 0 rfl) ?_
      refine lv_aload_n hx hb dX4_unlike_29 rfl (lv_at hl 1 rfl) ?_
      refine lv_iload_n hx hb dX4_unlike_30 rfl (lv_at hl 3 rfl) ?_
      refine lv_aload_n hx hb dX4_unlike_31 rfl (lv_at hl 1 rfl) ?_
      refine gf_X4_X4_now hF hP 0 rfl rfl dX4_unlike_32 ?_
      refine xN_const hx hb 3 dX4_unlike_35 (by decide) ?_
      refine xA_ild hF hP 1 rfl (by omega) (by decide) (v := nI (wrN w)) (hW.r3) dX4_unlike_36 ?_
      refine xN_mul hx hb dX4_unlike_37 ?_
      refine lv_aload_n hx hb dX4_unlike_38 rfl (lv_at hl 1 rfl) ?_
      refine lv_iload_n hx hb dX4_unlike_39 rfl (lv_at hl 3 rfl) ?_
      refine vp_callSi (va_Run.run (xrV hF (c_X4_lastOf l g mo mn mp mq mt mm md zs zl zp zr zk w hW i (by omega)) cal_X4_lastOf q_540 ⟨by decide, by decide⟩ rfl rfl rfl (va_recv hF.2.1 hP (ci := 4) (q0 := 0) rfl rfl) hZ (hP) hl.1 rfl (Nat.le_of_ble_eq_true rfl) dX4_unlike_40 ⟨Nat.le_refl _, Nat.le_refl _⟩)) (fun r_ h_ => ?_)
      subst h_
      have hl1 := lstN_le w i
      have hl2 := lstN_ge hW (t := i) (by omega)
      refine vp_callSi (va_Run.run (xrV hF (c_X4_runOf l g mo mn mp mq mt mm md zs zl zp zr zk w hW (i * (wrN w)) (lstN w i) (by omega) (by omega)) cal_X4_runOf q_544 ⟨by decide, by decide⟩ rfl rfl rfl (va_recv hF.2.1 hP (ci := 4) (q0 := 0) rfl rfl) hZ (hP) hl.1 rfl (Nat.le_of_ble_eq_true rfl) dX4_unlike_43 ⟨Nat.le_refl _, Nat.le_refl _⟩)) (fun r_ h_ => ?_)
      subst h_
      refine lv_icmp_eq (tgt := 53) hx hb dX4_unlike_46 (by decide) (fun c_46 => ?_) (fun c_46 => ?_)
      · refine xN_const hx hb 0 dX4_unlike_53 (by decide) ?_
        refine xN_add hx hb dX4_unlike_54 ?_
        refine lv_istore_n (lv' := [(1, .int (nI (f + 0))), (3, .int (w (4 + i))), (0, .ref mo), (2, .int (nI i))]) hx hb dX4_unlike_55 rfl hl (by decide) rfl (fun ls hl => ?_)
        refine xN_inc (lv' := [(2, .int (nI (i + 1))), (1, .int (nI (f + 0))), (3, .int (w (4 + i))), (0, .ref mo)]) hx hb 1 dX4_unlike_56 hl (k := 3) rfl (by decide) (by decide) rfl (fun ls hl => ?_)
        refine lv_goto (tgt := 4) hx hb dX4_unlike_59 (by decide) ?_
        exact ih (f + 0, i + 1) ls ⟨by omega, by rw [I2, ctR_f (Nat.zero_le _) (by unfold wrgB; rw [c_46, beq_self_eq_true, Bool.not_true, Bool.and_false])]; rfl, lv_sub hl [3, 1, 0] rfl⟩ (by dsimp only; omega)
      · refine xN_const hx hb 1 dX4_unlike_49 (by decide) ?_
        refine lv_goto (tgt := 54) hx hb dX4_unlike_50 (by decide) ?_
        refine xN_add hx hb dX4_unlike_54 ?_
        refine lv_istore_n (lv' := [(1, .int (nI (f + 1))), (3, .int (w (4 + i))), (0, .ref mo), (2, .int (nI i))]) hx hb dX4_unlike_55 rfl hl (by decide) rfl (fun ls hl => ?_)
        refine xN_inc (lv' := [(2, .int (nI (i + 1))), (1, .int (nI (f + 1))), (3, .int (w (4 + i))), (0, .ref mo)]) hx hb 1 dX4_unlike_56 hl (k := 3) rfl (by decide) (by decide) rfl (fun ls hl => ?_)
        refine lv_goto (tgt := 4) hx hb dX4_unlike_59 (by decide) ?_
        exact ih (f + 1, i + 1) ls ⟨by omega, by rw [I2, ctR_t (Nat.zero_le _) (by unfold wrgB; rw [beq_eq_false_iff_ne.mpr c_25, beq_eq_false_iff_ne.mpr c_46]; rfl)], lv_sub hl [3, 1, 0] rfl⟩ (by dsimp only; omega)
set_option maxHeartbeats 4000000 in
set_option maxRecDepth 100000 in
theorem c_X4_cell (l : Launch) (g : XG) (mo mn mp mq mt mm md zs zl zp zr : Nat) (zk : Bool) (w : Nat → Int32) (hW : WF w) (x y z : Int32) : Met l yX4_cell (ww yX4_cell cX4_cell 4 (some .int)) (rmD 6) (xP g [.ref mo, .int (x), .int (y), .int (z)] (fun H => va_P g.1 vwCl (ModC g mo mn mp mq mt mm md zs zl zp zr zk w) H)) (vp_Si (fun r9 => r9 = cellA w x y z)) 0 0 (fun _ => False) := by
  refine xMet (by decide) rfl (Nat.le_of_ble_eq_true rfl) ?_
  intro p e s m below meth c ls hF hZ hh hret hlocks hin hl
  have hx := hF.1.1
  have hb := hF.1.2.1
  have hP := hh
  have hP : va_P g.1 vwCl (ModC g mo mn mp mq mt mm md zs zl zp zr zk w) s.heap := hP
  have hl : lv_has ls 4 [(0, .ref mo), (1, .int (x)), (2, .int (y)), (3, .int (z))] := hl
  have h48 := hW.n48
  have hp4 := hW.pg4
  have hp12 := hW.pg12
  have hs1 := hW.st1
  have hw2 := hW.wr2
  have hw6 := hW.wr6
  refine lv_aload_n hx hb dX4_cell_0 rfl (lv_at hl 0 rfl) ?_
  refine lv_iload_n hx hb dX4_cell_1 rfl (lv_at hl 1 rfl) ?_
  refine lv_iload_n hx hb dX4_cell_2 rfl (lv_at hl 2 rfl) ?_
  refine vp_callSi (va_Run.run (xrV hF (c_X4_isCell l g mo mn mp mq mt mm md zs zl zp zr zk w hW ((x)) ((y)) ) cal_X4_isCell q_263 ⟨by decide, by decide⟩ rfl rfl rfl (va_recv hF.2.1 hP (ci := 4) (q0 := 0) rfl rfl) hZ (hP) hl.1 rfl (Nat.le_of_ble_eq_true rfl) dX4_cell_3 ⟨Nat.le_refl _, Nat.le_refl _⟩)) (fun r_ h_ => ?_)
  subst h_
  refine xZ_ne (tgt := 11) hx hb dX4_cell_6 (by decide) (fun c_6 => ?_) (fun c_6 => ?_)
  · obtain ⟨q1, q2⟩ := Bool.and_eq_true_iff.mp c_6
    obtain ⟨r, hr, rfl⟩ := (rowB_iff hW).mp q1
    obtain ⟨k, hk, rfl⟩ := colB_iff.mp q2
    have er : (nI r).toNatClampNeg = r := nI_clamp (by omega)
    have ek : (nI k).toNatClampNeg = k := nI_clamp (by omega)
    refine lv_iload_n hx hb dX4_cell_11 rfl (lv_at hl 3 rfl) ?_
    by_cases w_12_0 : (z) = 0
    · refine lv_tableIn (off := 40) (tgt := 52) hx hb dX4_cell_12 (by rw [w_12_0]; decide) (by rw [w_12_0]; decide) (by rw [w_12_0]; rfl) (by decide) ?_
      refine lv_aload_n hx hb dX4_cell_52 rfl (lv_at hl 0 rfl) ?_
      refine lv_iload_n hx hb dX4_cell_53 rfl (lv_at hl 1 rfl) ?_
      refine lv_iload_n hx hb dX4_cell_54 rfl (lv_at hl 2 rfl) ?_
      refine vp_callSi (va_Run.run (xrV hF (c_X4_means l g mo mn mp mq mt mm md zs zl zp zr zk w hW r k (by omega) (by omega)) cal_X4_means q_286 ⟨by decide, by decide⟩ rfl rfl rfl (va_recv hF.2.1 hP (ci := 4) (q0 := 0) rfl rfl) hZ (hP) hl.1 rfl (Nat.le_of_ble_eq_true rfl) dX4_cell_55 ⟨Nat.le_refl _, Nat.le_refl _⟩)) (fun r_ h_ => ?_)
      subst h_
      exact xret_i (V := (mean w r k)) hF hret hlocks (by unfold cellA; rw [if_pos c_6, if_pos w_12_0, er, ek]) dX4_cell_58
    by_cases w_12_1 : (z) = 1
    · refine lv_tableIn (off := 47) (tgt := 59) hx hb dX4_cell_12 (by rw [w_12_1]; decide) (by rw [w_12_1]; decide) (by rw [w_12_1]; rfl) (by decide) ?_
      refine lv_aload_n hx hb dX4_cell_59 rfl (lv_at hl 0 rfl) ?_
      refine lv_iload_n hx hb dX4_cell_60 rfl (lv_at hl 1 rfl) ?_
      refine lv_iload_n hx hb dX4_cell_61 rfl (lv_at hl 2 rfl) ?_
      refine vp_callSi (va_Run.run (xrV hF (c_X4_source l g mo mn mp mq mt mm md zs zl zp zr zk w hW r k (by omega) (by omega)) cal_X4_source q_414 ⟨by decide, by decide⟩ rfl rfl rfl (va_recv hF.2.1 hP (ci := 4) (q0 := 0) rfl rfl) hZ (hP) hl.1 rfl (Nat.le_of_ble_eq_true rfl) dX4_cell_62 ⟨Nat.le_refl _, Nat.le_refl _⟩)) (fun r_ h_ => ?_)
      subst h_
      exact xret_i (V := (srcI w r k)) hF hret hlocks (by unfold cellA; rw [if_pos c_6, if_neg w_12_0, if_pos w_12_1, er, ek]) dX4_cell_65
    by_cases w_12_2 : (z) = 2
    · refine lv_tableIn (off := 54) (tgt := 66) hx hb dX4_cell_12 (by rw [w_12_2]; decide) (by rw [w_12_2]; decide) (by rw [w_12_2]; rfl) (by decide) ?_
      refine lv_aload_n hx hb dX4_cell_66 rfl (lv_at hl 0 rfl) ?_
      refine lv_iload_n hx hb dX4_cell_67 rfl (lv_at hl 1 rfl) ?_
      refine lv_iload_n hx hb dX4_cell_68 rfl (lv_at hl 2 rfl) ?_
      refine vp_callSi (va_Run.run (xrV hF (c_X4_entries l g mo mn mp mq mt mm md zs zl zp zr zk w hW r k (by omega) (by omega)) cal_X4_entries q_274 ⟨by decide, by decide⟩ rfl rfl rfl (va_recv hF.2.1 hP (ci := 4) (q0 := 0) rfl rfl) hZ (hP) hl.1 rfl (Nat.le_of_ble_eq_true rfl) dX4_cell_69 ⟨Nat.le_refl _, Nat.le_refl _⟩)) (fun r_ h_ => ?_)
      subst h_
      exact xret_i (V := nI (cnt w (4 * r + k))) hF hret hlocks (by unfold cellA; rw [if_pos c_6, if_neg w_12_0, if_neg w_12_1, if_pos w_12_2, er, ek]) dX4_cell_72
    by_cases w_12_3 : (z) = 3
    · refine lv_tableIn (off := 61) (tgt := 73) hx hb dX4_cell_12 (by rw [w_12_3]; decide) (by rw [w_12_3]; decide) (by rw [w_12_3]; rfl) (by decide) ?_
      refine lv_aload_n hx hb dX4_cell_73 rfl (lv_at hl 0 rfl) ?_
      refine lv_iload_n hx hb dX4_cell_74 rfl (lv_at hl 1 rfl) ?_
      refine lv_iload_n hx hb dX4_cell_75 rfl (lv_at hl 2 rfl) ?_
      refine vp_callSi (va_Run.run (xrV hF (c_X4_chain l g mo mn mp mq mt mm md zs zl zp zr zk w hW r k (by omega) (by omega)) cal_X4_chain q_418 ⟨by decide, by decide⟩ rfl rfl rfl (va_recv hF.2.1 hP (ci := 4) (q0 := 0) rfl rfl) hZ (hP) hl.1 rfl (Nat.le_of_ble_eq_true rfl) dX4_cell_76 ⟨Nat.le_refl _, Nat.le_refl _⟩)) (fun r_ h_ => ?_)
      subst h_
      exact xret_i (V := nI (r - top w k r + 1)) hF hret hlocks (by unfold cellA; rw [if_pos c_6, if_neg w_12_0, if_neg w_12_1, if_neg w_12_2, if_pos w_12_3, er, ek]) dX4_cell_79
    by_cases w_12_4 : (z) = 4
    · refine lv_tableIn (off := 68) (tgt := 80) hx hb dX4_cell_12 (by rw [w_12_4]; decide) (by rw [w_12_4]; decide) (by rw [w_12_4]; rfl) (by decide) ?_
      refine lv_aload_n hx hb dX4_cell_80 rfl (lv_at hl 0 rfl) ?_
      refine lv_iload_n hx hb dX4_cell_81 rfl (lv_at hl 1 rfl) ?_
      refine lv_iload_n hx hb dX4_cell_82 rfl (lv_at hl 2 rfl) ?_
      refine vp_callSi (va_Run.run (xrV hF (c_X4_isDoubtful l g mo mn mp mq mt mm md zs zl zp zr zk w hW r k (by omega) (by omega)) cal_X4_isDoubtful q_422 ⟨by decide, by decide⟩ rfl rfl rfl (va_recv hF.2.1 hP (ci := 4) (q0 := 0) rfl rfl) hZ (hP) hl.1 rfl (Nat.le_of_ble_eq_true rfl) dX4_cell_83 ⟨Nat.le_refl _, Nat.le_refl _⟩)) (fun r_ h_ => ?_)
      subst h_
      refine xZ_eq (tgt := 93) hx hb dX4_cell_86 (by decide) (fun c_86 => ?_) (fun c_86 => ?_)
      · refine xN_const hx hb 0 dX4_cell_93 (by decide) ?_
        exact xret_i (V := nI (0)) hF hret hlocks (by unfold cellA; rw [if_pos c_6, if_neg w_12_0, if_neg w_12_1, if_neg w_12_2, if_neg w_12_3, if_pos w_12_4, er, ek, c_86]; rfl) dX4_cell_94
      · refine xN_const hx hb 1 dX4_cell_89 (by decide) ?_
        refine lv_goto (tgt := 94) hx hb dX4_cell_90 (by decide) ?_
        exact xret_i (V := nI (1)) hF hret hlocks (by unfold cellA; rw [if_pos c_6, if_neg w_12_0, if_neg w_12_1, if_neg w_12_2, if_neg w_12_3, if_pos w_12_4, er, ek, c_86]; rfl) dX4_cell_94
    by_cases w_12_5 : (z) = 5
    · refine lv_tableIn (off := 83) (tgt := 95) hx hb dX4_cell_12 (by rw [w_12_5]; decide) (by rw [w_12_5]; decide) (by rw [w_12_5]; rfl) (by decide) ?_
      refine lv_aload_n hx hb dX4_cell_95 rfl (lv_at hl 0 rfl) ?_
      refine lv_iload_n hx hb dX4_cell_96 rfl (lv_at hl 1 rfl) ?_
      refine lv_iload_n hx hb dX4_cell_97 rfl (lv_at hl 2 rfl) ?_
      refine vp_callSi (va_Run.run (xrV hF (c_X4_below l g mo mn mp mq mt mm md zs zl zp zr zk w hW r k (by omega) (by omega)) cal_X4_below q_426 ⟨by decide, by decide⟩ rfl rfl rfl (va_recv hF.2.1 hP (ci := 4) (q0 := 0) rfl rfl) hZ (hP) hl.1 rfl (Nat.le_of_ble_eq_true rfl) dX4_cell_98 ⟨Nat.le_refl _, Nat.le_refl _⟩)) (fun r_ h_ => ?_)
      subst h_
      exact xret_i (V := nI (stop w k (r + 1) - 1 - r)) hF hret hlocks (by unfold cellA; rw [if_pos c_6, if_neg w_12_0, if_neg w_12_1, if_neg w_12_2, if_neg w_12_3, if_neg w_12_4, if_pos w_12_5, er, ek]) dX4_cell_101
    refine lv_tableOut (tgt := 102) hx hb dX4_cell_12 (by have a0 := lv_neT w_12_0 (a := 0) (by decide); have a1 := lv_neT w_12_1 (a := 1) (by decide); have a2 := lv_neT w_12_2 (a := 2) (by decide); have a3 := lv_neT w_12_3 (a := 3) (by decide); have a4 := lv_neT w_12_4 (a := 4) (by decide); have a5 := lv_neT w_12_5 (a := 5) (by decide); omega) (by decide) ?_
    refine lv_bipush hx hb (v := (-2)) dX4_cell_102 (by decide) ?_
    exact xret_i (V := (-2)) hF hret hlocks (by unfold cellA; rw [if_pos c_6, if_neg w_12_0, if_neg w_12_1, if_neg w_12_2, if_neg w_12_3, if_neg w_12_4, if_neg w_12_5]) dX4_cell_104
  · refine lv_iconst hx hb (v := (-1)) dX4_cell_9 (by decide) ?_
    exact xret_i (V := (-1)) hF hret hlocks (by unfold cellA; rw [if_neg (by rw [c_6]; decide)]) dX4_cell_10
set_option maxHeartbeats 4000000 in
set_option maxRecDepth 100000 in
theorem c_X4_entry (l : Launch) (g : XG) (mo mn mp mq mt mm md zs zl zp zr : Nat) (zk : Bool) (w : Nat → Int32) (hW : WF w) (x y z : Int32) : Met l yX4_entry (ww yX4_entry cX4_entry 4 (some .int)) (rmD 3) (xP g [.ref mo, .int (x), .int (y), .int (z)] (fun H => va_P g.1 vwCl (ModC g mo mn mp mq mt mm md zs zl zp zr zk w) H)) (vp_Si (fun r9 => r9 = entryA w x y z)) 0 0 (fun _ => False) := by
  refine xMet (by decide) rfl (Nat.le_of_ble_eq_true rfl) ?_
  intro p e s m below meth c ls hF hZ hh hret hlocks hin hl
  have hx := hF.1.1
  have hb := hF.1.2.1
  have hP := hh
  have hP : va_P g.1 vwCl (ModC g mo mn mp mq mt mm md zs zl zp zr zk w) s.heap := hP
  have hl : lv_has ls 4 [(0, .ref mo), (1, .int (x)), (2, .int (y)), (3, .int (z))] := hl
  have h48 := hW.n48
  have hp4 := hW.pg4
  have hp12 := hW.pg12
  have hs1 := hW.st1
  have hw2 := hW.wr2
  have hw6 := hW.wr6
  refine lv_aload_n hx hb dX4_entry_0 rfl (lv_at hl 0 rfl) ?_
  refine lv_iload_n hx hb dX4_entry_1 rfl (lv_at hl 1 rfl) ?_
  refine lv_iload_n hx hb dX4_entry_2 rfl (lv_at hl 2 rfl) ?_
  refine vp_callSi (va_Run.run (xrV hF (c_X4_isCell l g mo mn mp mq mt mm md zs zl zp zr zk w hW ((x)) ((y)) ) cal_X4_isCell q_263 ⟨by decide, by decide⟩ rfl rfl rfl (va_recv hF.2.1 hP (ci := 4) (q0 := 0) rfl rfl) hZ (hP) hl.1 rfl (Nat.le_of_ble_eq_true rfl) dX4_entry_3 ⟨Nat.le_refl _, Nat.le_refl _⟩)) (fun r_ h_ => ?_)
  subst h_
  refine xZ_ne (tgt := 11) hx hb dX4_entry_6 (by decide) (fun c_6 => ?_) (fun c_6 => ?_)
  · obtain ⟨q1, q2⟩ := Bool.and_eq_true_iff.mp c_6
    obtain ⟨r, hr, rfl⟩ := (rowB_iff hW).mp q1
    obtain ⟨k, hk, rfl⟩ := colB_iff.mp q2
    have er : (nI r).toNatClampNeg = r := nI_clamp (by omega)
    have ek : (nI k).toNatClampNeg = k := nI_clamp (by omega)
    refine lv_iload_n hx hb dX4_entry_11 rfl (lv_at hl 3 rfl) ?_
    refine xN_const hx hb 0 dX4_entry_12 (by decide) ?_
    refine lv_aload_n hx hb dX4_entry_13 rfl (lv_at hl 0 rfl) ?_
    refine lv_iload_n hx hb dX4_entry_14 rfl (lv_at hl 1 rfl) ?_
    refine lv_iload_n hx hb dX4_entry_15 rfl (lv_at hl 2 rfl) ?_
    refine vp_callSi (va_Run.run (xrV hF (c_X4_entries l g mo mn mp mq mt mm md zs zl zp zr zk w hW r k (by omega) (by omega)) cal_X4_entries q_274 ⟨by decide, by decide⟩ rfl rfl rfl (va_recv hF.2.1 hP (ci := 4) (q0 := 0) rfl rfl) hZ (hP) hl.1 rfl (Nat.le_of_ble_eq_true rfl) dX4_entry_16 ⟨Nat.le_refl _, Nat.le_refl _⟩)) (fun r_ h_ => ?_)
    subst h_
    refine xN_const hx hb 1 dX4_entry_19 (by decide) ?_
    refine lv_isub hx hb dX4_entry_20 ?_
    refine vp_callSi (va_Run.run (xrS hF (c_X4_in l g ((z)) (nI (0)) (nI (cnt w (4 * r + k)) - nI 1) ) cal_X4_in q_119 ⟨by decide, by decide⟩ rfl rfl rfl hZ (trivial) hl.1 rfl (Nat.le_of_ble_eq_true rfl) dX4_entry_21 ⟨Nat.le_refl _, Nat.le_refl _⟩)) (fun r_ h_ => ?_)
    subst h_
    refine xZ_eq (tgt := 44) hx hb dX4_entry_24 (by decide) (fun c_24 => ?_) (fun c_24 => ?_)
    · refine lv_bipush hx hb (v := (-2)) dX4_entry_44 (by decide) ?_
      exact xret_i (V := (-2)) hF hret hlocks (by unfold entryA; rw [if_pos c_6, er, ek, if_neg (fun q => absurd ((entry_in hW hk hr z).mpr q) (by rw [c_24]; decide))]) dX4_entry_46
    · have qz := (entry_in hW hk hr z).mp c_24
      obtain ⟨j, hj, rfl⟩ := nI_of qz.1
      have hj2 := (nI_ltI hj (by have := hW.c4 (i := 4 * r + k) (by omega); omega)).mp qz.2
      have hc4 := hW.c4 (i := 4 * r + k) (by omega)
      have ej : (nI j).toNatClampNeg = j := nI_clamp hj
      refine lv_aload_n hx hb dX4_entry_27 rfl (lv_at hl 0 rfl) ?_
      refine gf_X4_X4_now hF hP 0 rfl rfl dX4_entry_28 ?_
      refine lv_iload_n hx hb dX4_entry_31 rfl (lv_at hl 1 rfl) ?_
      refine lv_iload_n hx hb dX4_entry_32 rfl (lv_at hl 2 rfl) ?_
      refine vp_callSi (va_Run.run (xrS hF (c_X4_cellAt l g r k ) cal_X4_cellAt q_134 ⟨by decide, by decide⟩ rfl rfl rfl hZ (trivial) hl.1 rfl (Nat.le_of_ble_eq_true rfl) dX4_entry_33 ⟨Nat.le_refl _, Nat.le_refl _⟩)) (fun r_ h_ => ?_)
      subst h_
      refine xN_const hx hb 1 dX4_entry_36 (by decide) ?_
      refine xN_add hx hb dX4_entry_37 ?_
      refine lv_iload_n hx hb dX4_entry_38 rfl (lv_at hl 3 rfl) ?_
      refine xN_add hx hb dX4_entry_39 ?_
      refine xA_ild hF hP 1 rfl (by omega) (by decide) (v := (w (28 + 5 * (4 * r + k) + 1 + j))) rfl dX4_entry_40 ?_
      refine lv_goto (tgt := 46) hx hb dX4_entry_41 (by decide) ?_
      exact xret_i (V := (w (28 + 5 * (4 * r + k) + 1 + j))) hF hret hlocks (by unfold entryA; rw [if_pos c_6, er, ek, if_pos qz, ej, show 29 + 5 * (4 * r + k) + j = 28 + 5 * (4 * r + k) + 1 + j by omega]) dX4_entry_46
  · refine lv_iconst hx hb (v := (-1)) dX4_entry_9 (by decide) ?_
    exact xret_i (V := (-1)) hF hret hlocks (by unfold entryA; rw [if_neg (by rw [c_6]; decide)]) dX4_entry_10
end
