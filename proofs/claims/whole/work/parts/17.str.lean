/-! ===== the JDK's String: length() and charAt(k) of the three texts; spells, joiningSort ===== -/
abbrev c_St_length : ByteArray := prog_15_method_54_code
def y_St_length : MethodName := ⟨"java/lang/String", "length", "()I"⟩
abbrev c_St_coder : ByteArray := prog_15_method_152_code
def y_St_coder : MethodName := ⟨"java/lang/String", "coder", "()B"⟩
abbrev c_St_charAt : ByteArray := prog_15_method_56_code
def y_St_charAt : MethodName := ⟨"java/lang/String", "charAt", "(I)C"⟩
abbrev c_St_isLatin1 : ByteArray := prog_15_method_154_code
def y_St_isLatin1 : MethodName := ⟨"java/lang/String", "isLatin1", "()Z"⟩
abbrev c_Sl_charAt : ByteArray := prog_16_method_2_code
def y_Sl_charAt : MethodName := ⟨"java/lang/StringLatin1", "charAt", "([BI)C"⟩
abbrev c_St_checkIndex : ByteArray := prog_15_method_155_code
def y_St_checkIndex : MethodName := ⟨"java/lang/String", "checkIndex", "(II)V"⟩
abbrev c_Pc_checkIndex : ByteArray := prog_18_method_11_code
def y_Pc_checkIndex : MethodName := ⟨"jdk/internal/util/Preconditions", "checkIndex", "(IILjava/util/function/BiFunction;)I"⟩
section ZS
variable {x : ZC} {l : Launch} {g : ZG} {R : Room} {cc : ByteArray} {nL : Nat} {own : String} {u : Nat × Nat} {w : va_W} {pc : Nat} {lv : List (Nat × Value)} {st : List Value}
theorem zS_up {A B : Nat → Prop} {H0 H : Heap} {locs : List Loc} (h : va_S A H0 H locs) (hAB : ∀ q, A q → B q) : va_S B H0 H locs := ⟨h.1, fun q h1 h2 => h.2.1 q h1 (fun z => h2 (hAB q z)), fun l hl => hAB _ (h.2.2 l hl)⟩
theorem z_ldcS (hC : zO x l g R cc nL own) {index i : Nat} {tx : String} (j : Nat) (ht : zSt[j]? = some (own, index, tx, i)) (hd : decode cc pc = .ok (.ldc index, 2)) (k : Z x u w (pc + 2) lv (.ref (g.2.2.2.1 i) :: st)) : Z x u w pc lv st := by
  obtain ⟨p, l', e, R', s, m, args, below, meth, c, g', A, H0, Q, nL'⟩ := x
  obtain ⟨rfl, rfl, rfl, rfl, ⟨hx, hb, hml, hown, hts⟩, hK, rfl, hA⟩ := hC
  exact fun H locs ls hP hD hS hl => va_ldcS hx hb hown (hK.2.2.2.1 _ (List.mem_of_getElem? ht)) hd (k H locs ls hP hD hS hl)
theorem z_sval (hC : zO x l g R cc nL own) {i index : Nat} (hi : i < 3) (hd : decode cc pc = .ok (.getfield index, 3)) (hl1 : Cond.fieldLink own index "java/lang/String" "value" "[B" ∈ zTB) (k : Z x u w (pc + 3) lv (.ref (g.2.2.2.2 i) :: st)) : Z x u w pc lv (.ref (g.2.2.2.1 i) :: st) := by
  obtain ⟨p, l', e, R', s, m, args, below, meth, c, g', A, H0, Q, nL'⟩ := x
  obtain ⟨rfl, rfl, rfl, rfl, ⟨hx, hb, hml, hown, hts⟩, hK, rfl, hA⟩ := hC
  exact fun H locs ls hP hD hS hl => vk_getf hx hb (hK.2.2.1.1 i hi).2.2.1 (zS_up hS hA) hown (hts _ hl1) (fun _ h9 => h9) hd (k H locs ls hP hD hS hl)
theorem z_scod (hC : zO x l g R cc nL own) {i index : Nat} (hi : i < 3) (hl1 : Cond.fieldLink own index "java/lang/String" "coder" "B" ∈ zTB) (hd : decode cc pc = .ok (.getfield index, 3)) (k : Z x u w (pc + 3) lv (.int (iI ((0 : Nat) : Int)) :: st)) : Z x u w pc lv (.ref (g.2.2.2.1 i) :: st) := by
  obtain ⟨p, l', e, R', s, m, args, below, meth, c, g', A, H0, Q, nL'⟩ := x
  obtain ⟨rfl, rfl, rfl, rfl, ⟨hx, hb, hml, hown, hts⟩, hK, rfl, hA⟩ := hC
  exact fun H locs ls hP hD hS hl => vk_getf hx hb (hK.2.2.1.1 i hi).2.1 (zS_up hS hA) hown (hts _ hl1) (fun _ h9 => h9) hd (k H locs ls hP hD hS hl)
theorem z_slen (hC : zO x l g R cc nL own) {i : Nat} (hi : i < 3) (hd : decode cc pc = .ok (.arraylength, 1)) (k : Z x u w (pc + 1) lv (.int (iI ((zSl.getD i 0 : Nat) : Int)) :: st)) : Z x u w pc lv (.ref (g.2.2.2.2 i) :: st) := by
  obtain ⟨p, l', e, R', s, m, args, below, meth, c, g', A, H0, Q, nL'⟩ := x
  obtain ⟨rfl, rfl, rfl, rfl, ⟨hx, hb, hml, hown, hts⟩, hK, rfl, hA⟩ := hC
  exact fun H locs ls hP hD hS hl => va_tlen hx hb (hK.2.2.1.1 i hi).2.2.2 (zS_up hS hA) (Int32.ofInt_eq_ofNat (n := zSl.getD i 0)).symm hd (k H locs ls hP hD hS hl)
theorem z_sbld (hC : zO x l g R cc nL own) {i k0 : Nat} (hi : i < 3) (hk : k0 < zSl.getD i 0) (h3 : zSl.getD i 0 ≤ 3) (hd : decode cc pc = .ok (.baload, 1)) (k : Z x u w (pc + 1) lv (.int ((zSb.getD i []).getD k0 0) :: st)) : Z x u w pc lv (.int (iI ((k0 : Nat) : Int)) :: .ref (g.2.2.2.2 i) :: st) := by
  obtain ⟨p, l', e, R', s, m, args, below, meth, c, g', A, H0, Q, nL'⟩ := x
  obtain ⟨rfl, rfl, rfl, rfl, ⟨hx, hb, hml, hown, hts⟩, hK, rfl, hA⟩ := hC
  exact fun H locs ls hP hD hS hl => va_tb hx hb (hK.2.2.1.1 i hi).2.2.2 (zS_up hS hA) (iI_in (by omega) (by omega) (by omega)) (by rw [iI_cl rfl (by omega)]) hd (k H locs ls hP hD hS hl)
theorem z_gcs (hC : zO x l g R cc nL own) {index : Nat} (hl1 : Cond.fieldLink own index "java/lang/String" "COMPACT_STRINGS" "Z" ∈ zTB) (hd : decode cc pc = .ok (.getstatic index, 3)) (k : Z x u w (pc + 3) lv (.int (iI ((1 : Nat) : Int)) :: st)) : Z x u w pc lv st := by
  obtain ⟨p, l', e, R', s, m, args, below, meth, c, g', A, H0, Q, nL'⟩ := x
  obtain ⟨rfl, rfl, rfl, rfl, ⟨hx, hb, hml, hown, hts⟩, hK, rfl, hA⟩ := hC
  exact fun H locs ls hP hD hS hl => va_gets hx hb hK.2.2.2.2.1 (zS_up hS hA) hown (hts _ hl1) (fun _ h9 => h9) hd (k H locs ls hP hD hS hl)
theorem z_gfm (hC : zO x l g R cc nL own) {index : Nat} (hl1 : Cond.fieldLink own index "jdk/internal/util/Preconditions" "SIOOBE_FORMATTER" "Ljava/util/function/BiFunction;" ∈ zTB) (hd : decode cc pc = .ok (.getstatic index, 3)) (k : ∀ v : Value, (v = .null ∨ ∃ t, v = .ref t) → Z x u w (pc + 3) lv (v :: st)) : Z x u w pc lv st := by
  obtain ⟨p, l', e, R', s, m, args, below, meth, c, g', A, H0, Q, nL'⟩ := x
  obtain ⟨rfl, rfl, rfl, rfl, ⟨hx, hb, hml, hown, hts⟩, hK, rfl, hA⟩ := hC
  intro H locs ls hP hD hS hl
  rcases hK.2.2.2.2.2 with h | ⟨t, h⟩
  · exact va_gets hx hb h (zS_up hS hA) hown (hts _ hl1) (fun _ h9 => h9) hd (k .null (Or.inl rfl) H locs ls hP hD hS hl)
  · exact va_gets hx hb h (zS_up hS hA) hown (hts _ hl1) (fun _ h9 => h9) hd (k (.ref t) (Or.inr ⟨t, rfl⟩) H locs ls hP hD hS hl)
theorem z_iandR (hC : zO x l g R cc nL own) {a b : Int32} (hd : decode cc pc = .ok (.iand, 1)) (k : Z x u w (pc + 1) lv (.int (a &&& b) :: st)) : Z x u w pc lv (.int b :: .int a :: st) := by
  obtain ⟨p, l', e, R', s, m, args, below, meth, c, g', A, H0, Q, nL'⟩ := x
  obtain ⟨rfl, rfl, rfl, rfl, ⟨hx, hb, hml, hown, hts⟩, hK, rfl, hA⟩ := hC
  exact fun H locs ls hP hD hS hl => lv_iand hx hb hd (k H locs ls hP hD hS hl)
theorem z_ishr0 (hC : zO x l g R cc nL own) {a : Int32} (hd : decode cc pc = .ok (.ishr, 1)) (k : Z x u w (pc + 1) lv (.int a :: st)) : Z x u w pc lv (.int (iI ((0 : Nat) : Int)) :: .int a :: st) := by
  obtain ⟨p, l', e, R', s, m, args, below, meth, c, g', A, H0, Q, nL'⟩ := x
  obtain ⟨rfl, rfl, rfl, rfl, ⟨hx, hb, hml, hown, hts⟩, hK, rfl, hA⟩ := hC
  exact fun H locs ls hP hD hS hl => lv_ishr hx hb hd (by rw [show a >>> (iI ((0 : Nat) : Int) &&& 31) = a from sb_shr0 a]; exact k H locs ls hP hD hS hl)
theorem z_i2c (hC : zO x l g R cc nL own) {a v : Int32} (hd : decode cc pc = .ok (.i2c, 1)) (hv : (a.toUInt32 % 65536).toInt32 = v) (k : Z x u w (pc + 1) lv (.int v :: st)) : Z x u w pc lv (.int a :: st) := by
  obtain ⟨p, l', e, R', s, m, args, below, meth, c, g', A, H0, Q, nL'⟩ := x
  obtain ⟨rfl, rfl, rfl, rfl, ⟨hx, hb, hml, hown, hts⟩, hK, rfl, hA⟩ := hC
  exact fun H locs ls hP hD hS hl => lv_i2c hx hb hd hv (k H locs ls hP hD hS hl)
/-- a call on one of the texts -/
theorem z_callT (hC : zO x l g R cc nL own) {y : MethodName} {rm : Room} {bytes : ByteArray} {maxL n index i : Nat} {ret : Option FieldType} {As : List Value} {r : Option Value} (hM : Ct l g y bytes maxL ret rm (.ref (g.2.2.2.1 i) :: As) [] r [])
    (hi : i < 3) (hl0 : Cond.methodLink own index y ∈ zTB) (hv : zVir y "java/lang/String" bytes maxL ret n) (hrc : rm.cells = 0) (hrs : rm.slots = 0) (hR : rm.frames + 1 ≤ R.frames ∧ 8 + (maxL + 11) + rm.locals ≤ R.locals)
    (hn : As.length = n) (hsum : (st.map fun v => v.category).sum ≤ 8) (hd : decode cc pc = .ok (.invokevirtual index, 3)) {st0 : List Value} (hst : As.reverse ++ .ref (g.2.2.2.1 i) :: st = st0) (hu : u.1 ≤ R.cells ∧ u.2 ≤ R.slots) {st1 : List Value} (hs1 : r.toList ++ st = st1)
    (kk : Z x u w (pc + 3) lv st1) : Z x u w pc lv st0 := by
  obtain ⟨p, l', e, R', s, m, args, below, meth, c, g', A, H0, Q, nL'⟩ := x
  obtain ⟨rfl, rfl, rfl, rfl, ⟨hx, hb, hml, hown, hts⟩, hK, rfl, hA⟩ := hC
  subst hst hs1
  obtain ⟨v1, v2, v3, v4, v5⟩ := hv
  have hT : GoodIn zTB (wsV own index "java/lang/String" y (Cond.code y bytes maxL ret :: zTB)) := by
    intro w hw
    rcases List.mem_append.mp hw with h | h
    · rcases List.mem_cons.mp h with rfl | h
      · exact ⟨hl0, zTB_good hl0⟩
      · rcases List.mem_cons.mp h with rfl | h
        · exact ⟨v1, zTB_good v1⟩
        · rcases List.mem_cons.mp h with rfl | h
          · exact ⟨v2, zTB_good v2⟩
          · rcases List.mem_cons.mp h with rfl | h
            · exact ⟨v3, zTB_good v3⟩
            · cases h
    · exact zG v4 w h
  exact fun H locs ls hP hD hS hl => z_back (is := []) (wc := []) (w' := w) (va_runV (As := As) (rest := st) ⟨hx, hb, hml, hown, hts⟩ hM (cwV n hts hT rfl hrc hrs v5 hR) ⟨(z_pre (is := []) (av := .ref (g'.2.2.2.1 i) :: As) hK hA hP hD hS rfl rfl).1, vk_recv hK.2.2.1 hi (zS_up hS hA), (z_pre (is := []) hK hA hP hD hS rfl rfl).2⟩ rfl hn hl.1 rfl (lv_room hsum) hd hu) hP hD hS hl rfl rfl rfl kk
end ZS
theorem ct_n {l : Launch} {g : ZG} {y : MethodName} {rm : Room} {av : List Value} {w w' : va_W} {cc : ByteArray} {maxL : Nat} {lv : List (Nat × Value)} {ty : FieldType} {v : Int32} (hnr : narrow ty (.int v) = .int v) (hy : plainName y.cls = true) (hlv : lv_args 0 av = lv) (hle : (lg_sl av).length ≤ maxL)
    (body : ∀ x : ZC, zO x l g rm cc maxL y.cls → (∀ (pc : Nat) (lv : List (Nat × Value)), decode cc pc = .ok (.ireturn, 1) → Z x (0, 0) w' pc lv [.int v]) → Z x (0, 0) w 0 lv []) : Ct l g y cc maxL (some ty) rm av w (some (.int v)) w' := by
  refine Met.ofW (cc := cc) (maxL := maxL) (ret := (some ty)) hy rfl ?_
  intro p e s m args below meth c s₁ B hml hv
  obtain ⟨rfl, hK, hP, hD0⟩ := hv
  have hx := B.exec
  have hb := B.bytes
  have hr := B.returns
  have hts : ∀ w ∈ zTB, w.before av.toArray s = true := fun w hw => atoms_spec (ws := Cond.code y cc maxL (some ty) :: zTB) B.pre w (List.mem_cons_of_mem _ hw)
  have hown : s.vm.findClass y.cls = some m.cls := findClass_of_methodNamed B.named
  have hlocks := B.notSynchronized
  have hl := lv_entry av (n := maxL) hle
  rw [lg_entry_eq]
  rw [hlv] at hl
  refine body (p, l, e, rm, s, m, av.toArray, below, meth, c, g, (fun q => q ∈ w.map Prod.fst), s.heap, MQ below _ av.toArray s 0 0 _, maxL) ⟨rfl, rfl, rfl, rfl, ⟨hx, hb, hml, hown, hts⟩, hK, rfl, fun q hq => zD_in hD0 hq⟩ ?_ s.heap [] _ hP (zD_self hD0) va_S.rf hl
  intro pc lv hd H locs ls hP hD hS hl
  exact W.zret hx hb hr hnr (fun t ht hW => ⟨rfl, by rw [ht]; exact hP, hS.F ht⟩) hS.2.2 hd hlocks
theorem d_St_length_0 : decode c_St_length 0 = .ok (.aload_n 0, 1) := by decide +kernel
theorem d_St_length_1 : decode c_St_length 1 = .ok (.getfield 9, 3) := by decide +kernel
theorem d_St_length_4 : decode c_St_length 4 = .ok (.arraylength, 1) := by decide +kernel
theorem d_St_length_5 : decode c_St_length 5 = .ok (.aload_n 0, 1) := by decide +kernel
theorem d_St_length_6 : decode c_St_length 6 = .ok (.invokevirtual 335, 3) := by decide +kernel
theorem d_St_length_9 : decode c_St_length 9 = .ok (.ishr, 1) := by decide +kernel
theorem d_St_length_10 : decode c_St_length 10 = .ok (.ireturn, 1) := by decide +kernel
theorem d_St_coder_0 : decode c_St_coder 0 = .ok (.getstatic 38, 3) := by decide +kernel
theorem d_St_coder_3 : decode c_St_coder 3 = .ok (.ifCond .eq 10, 3) := by decide +kernel
theorem d_St_coder_6 : decode c_St_coder 6 = .ok (.aload_n 0, 1) := by decide +kernel
theorem d_St_coder_7 : decode c_St_coder 7 = .ok (.getfield 15, 3) := by decide +kernel
theorem d_St_coder_10 : decode c_St_coder 10 = .ok (.goto 4, 3) := by decide +kernel
theorem d_St_coder_14 : decode c_St_coder 14 = .ok (.ireturn, 1) := by decide +kernel
theorem d_St_charAt_0 : decode c_St_charAt 0 = .ok (.aload_n 0, 1) := by decide +kernel
theorem d_St_charAt_1 : decode c_St_charAt 1 = .ok (.invokevirtual 492, 3) := by decide +kernel
theorem d_St_charAt_4 : decode c_St_charAt 4 = .ok (.ifCond .eq 12, 3) := by decide +kernel
theorem d_St_charAt_7 : decode c_St_charAt 7 = .ok (.aload_n 0, 1) := by decide +kernel
theorem d_St_charAt_8 : decode c_St_charAt 8 = .ok (.getfield 9, 3) := by decide +kernel
theorem d_St_charAt_11 : decode c_St_charAt 11 = .ok (.iload_n 1, 1) := by decide +kernel
theorem d_St_charAt_12 : decode c_St_charAt 12 = .ok (.invokestatic 495, 3) := by decide +kernel
theorem d_St_charAt_15 : decode c_St_charAt 15 = .ok (.ireturn, 1) := by decide +kernel
theorem d_St_isLatin1_0 : decode c_St_isLatin1 0 = .ok (.getstatic 38, 3) := by decide +kernel
theorem d_St_isLatin1_3 : decode c_St_isLatin1 3 = .ok (.ifCond .eq 14, 3) := by decide +kernel
theorem d_St_isLatin1_6 : decode c_St_isLatin1 6 = .ok (.aload_n 0, 1) := by decide +kernel
theorem d_St_isLatin1_7 : decode c_St_isLatin1 7 = .ok (.getfield 15, 3) := by decide +kernel
theorem d_St_isLatin1_10 : decode c_St_isLatin1 10 = .ok (.ifCond .ne 7, 3) := by decide +kernel
theorem d_St_isLatin1_13 : decode c_St_isLatin1 13 = .ok (.iconst 1, 1) := by decide +kernel
theorem d_St_isLatin1_14 : decode c_St_isLatin1 14 = .ok (.goto 4, 3) := by decide +kernel
theorem d_St_isLatin1_18 : decode c_St_isLatin1 18 = .ok (.ireturn, 1) := by decide +kernel
theorem d_Sl_charAt_0 : decode c_Sl_charAt 0 = .ok (.iload_n 1, 1) := by decide +kernel
theorem d_Sl_charAt_1 : decode c_Sl_charAt 1 = .ok (.aload_n 0, 1) := by decide +kernel
theorem d_Sl_charAt_2 : decode c_Sl_charAt 2 = .ok (.arraylength, 1) := by decide +kernel
theorem d_Sl_charAt_3 : decode c_Sl_charAt 3 = .ok (.invokestatic 9, 3) := by decide +kernel
theorem d_Sl_charAt_6 : decode c_Sl_charAt 6 = .ok (.aload_n 0, 1) := by decide +kernel
theorem d_Sl_charAt_7 : decode c_Sl_charAt 7 = .ok (.iload_n 1, 1) := by decide +kernel
theorem d_Sl_charAt_8 : decode c_Sl_charAt 8 = .ok (.baload, 1) := by decide +kernel
theorem d_Sl_charAt_9 : decode c_Sl_charAt 9 = .ok (.sipush 255, 3) := by decide +kernel
theorem d_Sl_charAt_12 : decode c_Sl_charAt 12 = .ok (.iand, 1) := by decide +kernel
theorem d_Sl_charAt_13 : decode c_Sl_charAt 13 = .ok (.i2c, 1) := by decide +kernel
theorem d_Sl_charAt_14 : decode c_Sl_charAt 14 = .ok (.ireturn, 1) := by decide +kernel
theorem d_St_checkIndex_0 : decode c_St_checkIndex 0 = .ok (.iload_n 0, 1) := by decide +kernel
theorem d_St_checkIndex_1 : decode c_St_checkIndex 1 = .ok (.iload_n 1, 1) := by decide +kernel
theorem d_St_checkIndex_2 : decode c_St_checkIndex 2 = .ok (.getstatic 1053, 3) := by decide +kernel
theorem d_St_checkIndex_5 : decode c_St_checkIndex 5 = .ok (.invokestatic 1059, 3) := by decide +kernel
theorem d_St_checkIndex_8 : decode c_St_checkIndex 8 = .ok (.pop, 1) := by decide +kernel
theorem d_St_checkIndex_9 : decode c_St_checkIndex 9 = .ok (.return_, 1) := by decide +kernel
theorem d_Pc_checkIndex_0 : decode c_Pc_checkIndex 0 = .ok (.iload_n 0, 1) := by decide +kernel
theorem d_Pc_checkIndex_1 : decode c_Pc_checkIndex 1 = .ok (.ifCond .lt 8, 3) := by decide +kernel
theorem d_Pc_checkIndex_4 : decode c_Pc_checkIndex 4 = .ok (.iload_n 0, 1) := by decide +kernel
theorem d_Pc_checkIndex_5 : decode c_Pc_checkIndex 5 = .ok (.iload_n 1, 1) := by decide +kernel
theorem d_Pc_checkIndex_6 : decode c_Pc_checkIndex 6 = .ok (.if_icmp .lt 10, 3) := by decide +kernel
theorem d_Pc_checkIndex_16 : decode c_Pc_checkIndex 16 = .ok (.iload_n 0, 1) := by decide +kernel
theorem d_Pc_checkIndex_17 : decode c_Pc_checkIndex 17 = .ok (.ireturn, 1) := by decide +kernel
theorem zv_St_length : zVir y_St_length "java/lang/String" c_St_length 1 (some .int) 0 := ⟨mw_328, mw_329, mw_59, mw_330, rfl, by decide +kernel, by decide +kernel, by decide +kernel⟩
theorem zv_St_coder : zVir y_St_coder "java/lang/String" c_St_coder 1 (some .byte) 0 := ⟨mw_332, mw_333, mw_59, mw_334, rfl, by decide +kernel, by decide +kernel, by decide +kernel⟩
theorem zv_St_charAt : zVir y_St_charAt "java/lang/String" c_St_charAt 2 (some .char) 1 := ⟨mw_338, mw_339, mw_59, mw_340, rfl, by decide +kernel, by decide +kernel, by decide +kernel⟩
theorem zv_St_isLatin1 : zVir y_St_isLatin1 "java/lang/String" c_St_isLatin1 1 (some .boolean) 0 := ⟨mw_342, mw_343, mw_59, mw_344, rfl, by decide +kernel, by decide +kernel, by decide +kernel⟩
theorem zs_Sl_charAt : zSta y_Sl_charAt c_Sl_charAt 2 (some .char) 2 := ⟨mw_346, mw_60, mw_347, by decide +kernel, by decide +kernel, by decide +kernel⟩
theorem zs_St_checkIndex : zSta y_St_checkIndex c_St_checkIndex 2 none 2 := ⟨mw_349, mw_59, mw_350, by decide +kernel, by decide +kernel, by decide +kernel⟩
theorem zs_Pc_checkIndex : zSta y_Pc_checkIndex c_Pc_checkIndex 3 (some .int) 3 := ⟨mw_354, mw_61, mw_355, by decide +kernel, by decide +kernel, by decide +kernel⟩
theorem zSl3 : ∀ i, i < 3 → zSl.getD i 0 ≤ 3 := by decide
theorem zch_ok : ∀ i, i < 3 → ∀ k, k < zSl.getD i 0 → (((zSb.getD i []).getD k 0 &&& iI ((255 : Nat) : Int)).toUInt32 % 65536).toInt32 = (zSb.getD i []).getD k 0 ∧ narrow .char (.int ((zSb.getD i []).getD k 0)) = .int ((zSb.getD i []).getD k 0) := by decide +kernel
theorem k_Pc_checkIndex (l : Launch) (g : ZG) (k n : Nat) (v : Value) (hv : v = .null ∨ ∃ t, v = .ref t) (h : k < n) (hn : n ≤ 3) : Ct l g y_Pc_checkIndex c_Pc_checkIndex 3 (some .int) { frames := 0, cells := 0, slots := 0, locals := 0 } [.int (iI ((k : Nat) : Int)), .int (iI ((n : Nat) : Int)), v] [] (some (.int (iI ((k : Nat) : Int)))) [] := by
  rcases hv with rfl | ⟨t, rfl⟩
  all_goals
    refine ct_i (lv := [(0, .int (iI ((k : Nat) : Int))), (1, .int (iI ((n : Nat) : Int))), (2, _)]) (by decide) rfl (Nat.le_of_ble_eq_true rfl) rfl ?_
    intro x hC hR
    refine z_iload_n hC d_Pc_checkIndex_0 rfl 0 rfl ?_
    refine z_if_lt (tgt := 9) hC ((k : Nat) : Int) d_Pc_checkIndex_1 rfl (iI_t (by omega)) (fun c => absurd c (by omega)) (fun c => ?_)
    refine z_iload_n hC d_Pc_checkIndex_4 rfl 0 rfl ?_
    refine z_iload_n hC d_Pc_checkIndex_5 rfl 1 rfl ?_
    refine z_icmp_lt (tgt := 16) hC ((k : Nat) : Int) ((n : Nat) : Int) d_Pc_checkIndex_6 rfl (iI_t (by omega)) (iI_t (by omega)) (fun c => ?_) (fun c => absurd c (by omega))
    refine z_iload_n hC d_Pc_checkIndex_16 rfl 0 rfl ?_
    exact hR _ _ d_Pc_checkIndex_17
theorem k_St_checkIndex (l : Launch) (g : ZG) (k n : Nat) (h : k < n) (hn : n ≤ 3) : Ct l g y_St_checkIndex c_St_checkIndex 2 none { frames := 1, cells := 0, slots := 0, locals := 22 } [.int (iI ((k : Nat) : Int)), .int (iI ((n : Nat) : Int))] [] none [] := by
  refine ct_v (lv := [(0, .int (iI ((k : Nat) : Int))), (1, .int (iI ((n : Nat) : Int)))]) (by decide) rfl (Nat.le_of_ble_eq_true rfl) rfl ?_
  intro x hC hR
  refine z_iload_n hC d_St_checkIndex_0 rfl 0 rfl ?_
  refine z_iload_n hC d_St_checkIndex_1 rfl 1 rfl ?_
  refine z_gfm hC mw_351 d_St_checkIndex_2 (fun v hv => ?_)
  refine z_callS (w' := []) (st1 := [.int (iI ((k : Nat) : Int))]) hC (k_Pc_checkIndex l g k n v hv h hn) mw_353 zs_Pc_checkIndex rfl rfl ⟨Nat.le_of_ble_eq_true rfl, Nat.le_of_ble_eq_true rfl⟩ [] rfl rfl rfl rfl rfl (Nat.le_of_ble_eq_true rfl) d_St_checkIndex_5 rfl ⟨Nat.zero_le _, Nat.zero_le _⟩ rfl ?_
  refine z_pop hC d_St_checkIndex_8 rfl ?_
  exact hR _ _ d_St_checkIndex_9
theorem k_Sl_charAt (l : Launch) (g : ZG) (i k : Nat) (hi : i < 3) (hk : k < zSl.getD i 0) : Ct l g y_Sl_charAt c_Sl_charAt 2 (some .char) { frames := 2, cells := 0, slots := 0, locals := 43 } [.ref (g.2.2.2.2 i), .int (iI ((k : Nat) : Int))] [] (some (.int ((zSb.getD i []).getD k 0))) [] := by
  have h3 := zSl3 i hi
  refine ct_n (zch_ok i hi k hk).2 (lv := [(0, .ref (g.2.2.2.2 i)), (1, .int (iI ((k : Nat) : Int)))]) (by decide) rfl (Nat.le_of_ble_eq_true rfl) ?_
  intro x hC hR
  refine z_iload_n hC d_Sl_charAt_0 rfl 1 rfl ?_
  refine z_aload_n hC d_Sl_charAt_1 rfl 0 rfl ?_
  refine z_slen hC hi d_Sl_charAt_2 ?_
  refine z_callS (w' := []) (st1 := []) hC (k_St_checkIndex l g k _ hk h3) mw_348 zs_St_checkIndex rfl rfl ⟨Nat.le_of_ble_eq_true rfl, Nat.le_of_ble_eq_true rfl⟩ [] rfl rfl rfl rfl rfl (Nat.le_of_ble_eq_true rfl) d_Sl_charAt_3 rfl ⟨Nat.zero_le _, Nat.zero_le _⟩ rfl ?_
  refine z_aload_n hC d_Sl_charAt_6 rfl 0 rfl ?_
  refine z_iload_n hC d_Sl_charAt_7 rfl 1 rfl ?_
  refine z_sbld hC hi hk h3 d_Sl_charAt_8 ?_
  refine z_sipush (a := ((255 : Nat) : Int)) hC d_Sl_charAt_9 (by decide) ?_
  refine z_iandR hC d_Sl_charAt_12 ?_
  refine z_i2c hC d_Sl_charAt_13 (zch_ok i hi k hk).1 ?_
  exact hR _ _ d_Sl_charAt_14
theorem k_St_coder (l : Launch) (g : ZG) (i : Nat) (hi : i < 3) : Ct l g y_St_coder c_St_coder 1 (some .byte) { frames := 0, cells := 0, slots := 0, locals := 0 } [.ref (g.2.2.2.1 i)] [] (some (.int (iI ((0 : Nat) : Int)))) [] := by
  refine ct_n (by decide) (lv := [(0, .ref (g.2.2.2.1 i))]) (by decide) rfl (Nat.le_of_ble_eq_true rfl) ?_
  intro x hC hR
  refine z_gcs hC mw_335 d_St_coder_0 ?_
  refine z_if_eq (tgt := 13) hC ((1 : Nat) : Int) d_St_coder_3 rfl (iI_t (by omega)) (fun c => absurd c (by decide)) (fun c => ?_)
  refine z_aload_n hC d_St_coder_6 rfl 0 rfl ?_
  refine z_scod hC hi mw_1001 d_St_coder_7 ?_
  refine z_goto (tgt := 14) hC d_St_coder_10 rfl ?_
  exact hR _ _ d_St_coder_14
theorem k_St_isLatin1 (l : Launch) (g : ZG) (i : Nat) (hi : i < 3) : Ct l g y_St_isLatin1 c_St_isLatin1 1 (some .boolean) { frames := 0, cells := 0, slots := 0, locals := 0 } [.ref (g.2.2.2.1 i)] [] (some (.int (iI (bI true)))) [] := by
  refine ct_z (lv := [(0, .ref (g.2.2.2.1 i))]) (by decide) rfl (Nat.le_of_ble_eq_true rfl) rfl ?_
  intro x hC hR
  refine z_gcs hC mw_335 d_St_isLatin1_0 ?_
  refine z_if_eq (tgt := 17) hC ((1 : Nat) : Int) d_St_isLatin1_3 rfl (iI_t (by omega)) (fun c => absurd c (by decide)) (fun c => ?_)
  refine z_aload_n hC d_St_isLatin1_6 rfl 0 rfl ?_
  refine z_scod hC hi mw_1001 d_St_isLatin1_7 ?_
  refine z_if_ne (tgt := 17) hC ((0 : Nat) : Int) d_St_isLatin1_10 rfl (iI_t (by omega)) (fun c => absurd rfl c) (fun c => ?_)
  refine z_iconstN hC 1 d_St_isLatin1_13 rfl ?_
  refine z_goto (tgt := 18) hC d_St_isLatin1_14 rfl ?_
  exact Z.eq rfl rfl rfl rfl (hR _ _ d_St_isLatin1_18)
theorem k_St_length (l : Launch) (g : ZG) (i : Nat) (hi : i < 3) : Ct l g y_St_length c_St_length 1 (some .int) { frames := 1, cells := 0, slots := 0, locals := 20 } [.ref (g.2.2.2.1 i)] [] (some (.int (iI ((zSl.getD i 0 : Nat) : Int)))) [] := by
  refine ct_i (lv := [(0, .ref (g.2.2.2.1 i))]) (by decide) rfl (Nat.le_of_ble_eq_true rfl) rfl ?_
  intro x hC hR
  refine z_aload_n hC d_St_length_0 rfl 0 rfl ?_
  refine z_sval hC hi d_St_length_1 mw_1000 ?_
  refine z_slen hC hi d_St_length_4 ?_
  refine z_aload_n hC d_St_length_5 rfl 0 rfl ?_
  refine z_callT (st1 := [.int (iI ((0 : Nat) : Int)), .int (iI ((zSl.getD i 0 : Nat) : Int))]) hC (k_St_coder l g i hi) hi mw_331 zv_St_coder rfl rfl ⟨Nat.le_of_ble_eq_true rfl, Nat.le_of_ble_eq_true rfl⟩ rfl (Nat.le_of_ble_eq_true rfl) d_St_length_6 rfl ⟨Nat.zero_le _, Nat.zero_le _⟩ rfl ?_
  refine z_ishr0 hC d_St_length_9 ?_
  exact hR _ _ d_St_length_10
theorem k_St_charAt (l : Launch) (g : ZG) (i k : Nat) (hi : i < 3) (hk : k < zSl.getD i 0) : Ct l g y_St_charAt c_St_charAt 2 (some .char) { frames := 3, cells := 0, slots := 0, locals := 64 } [.ref (g.2.2.2.1 i), .int (iI ((k : Nat) : Int))] [] (some (.int ((zSb.getD i []).getD k 0))) [] := by
  refine ct_n (zch_ok i hi k hk).2 (lv := [(0, .ref (g.2.2.2.1 i)), (1, .int (iI ((k : Nat) : Int)))]) (by decide) rfl (Nat.le_of_ble_eq_true rfl) ?_
  intro x hC hR
  refine z_aload_n hC d_St_charAt_0 rfl 0 rfl ?_
  refine z_callT (st1 := [.int (iI (bI true))]) hC (k_St_isLatin1 l g i hi) hi mw_341 zv_St_isLatin1 rfl rfl ⟨Nat.le_of_ble_eq_true rfl, Nat.le_of_ble_eq_true rfl⟩ rfl (Nat.le_of_ble_eq_true rfl) d_St_charAt_1 rfl ⟨Nat.zero_le _, Nat.zero_le _⟩ rfl ?_
  refine z_ifeqB (tgt := 16) hC d_St_charAt_4 rfl (fun c => by cases c) (fun c => ?_)
  refine z_aload_n hC d_St_charAt_7 rfl 0 rfl ?_
  refine z_sval hC hi d_St_charAt_8 mw_1000 ?_
  refine z_iload_n hC d_St_charAt_11 rfl 1 rfl ?_
  refine z_callS (w' := []) (st1 := [.int ((zSb.getD i []).getD k 0)]) hC (k_Sl_charAt l g i k hi hk) mw_345 zs_Sl_charAt rfl rfl ⟨Nat.le_of_ble_eq_true rfl, Nat.le_of_ble_eq_true rfl⟩ [] rfl rfl rfl rfl rfl (Nat.le_of_ble_eq_true rfl) d_St_charAt_12 rfl ⟨Nat.zero_le _, Nat.zero_le _⟩ rfl ?_
  exact hR _ _ d_St_charAt_15
/-- a text's word stands from p to e -/
def wdB (n : Nat) (f : Nat → Int32) (p e i : Nat) : Bool := decide (e - p = zSl.getD i 0) && allB (fun j => decide (sN n f (p + j) = (zSb.getD i []).getD j 0)) (zSl.getD i 0)
def jS (n : Nat) (f : Nat → Int32) (p e : Nat) : Int := if wdB n f p e 0 = true then 3 else if wdB n f p e 1 = true then 4 else if wdB n f p e 2 = true then 5 else -1
theorem jS_rng (n : Nat) (f : Nat → Int32) (p e : Nat) : jS n f p e = -1 ∨ (3 ≤ jS n f p e ∧ jS n f p e ≤ 5) := by
  unfold jS
  split
  · omega
  · split
    · omega
    · split
      · omega
      · omega
set_option maxHeartbeats 4000000 in
set_option maxRecDepth 100000 in
theorem k_So_spells (l : Launch) (g : ZG) (s0 s1 sn sp : Nat) (sf : Nat → Int32) (i e : Nat) (hsn : sn ≤ 200) (hsp : sp ≤ sn) (hi : i < 3) (hpe : sp ≤ e) (hes : e ≤ sn)   : Ct l g y_So_spells c_So_spells 4 (some .boolean) { frames := 4, cells := 0, slots := 0, locals := 85 } [.ref s0, .ref (g.2.2.2.1 i), .int (iI ((e : Nat) : Int))] [(s0, .inr (6, [.ref s1, .int (iI ((sn : Nat) : Int)), .int (iI ((sp : Nat) : Int))])), (s1, .inl ((g.2.1 0), 200, .inl sf))] (some (.int (iI (bI (wdB sn sf sp e i))))) [(s0, .inr (6, [.ref s1, .int (iI ((sn : Nat) : Int)), .int (iI ((sp : Nat) : Int))])), (s1, .inl ((g.2.1 0), 200, .inl sf))] := by
  refine ct_z (lv := [(0, .ref s0), (1, .ref (g.2.2.2.1 i)), (2, .int (iI ((e : Nat) : Int)))]) (by decide) rfl (Nat.le_of_ble_eq_true rfl) rfl ?_
  intro x hC hR
  have hz3 := zSl3 i hi
  refine z_iload_n hC d_So_spells_0 rfl 2 rfl ?_
  refine z_aload_n hC d_So_spells_1 rfl 0 rfl ?_
  refine z_get hC hi_So 0 rfl rfl 2 (by decide) mw_80 (Or.inl rfl) rfl d_So_spells_2 ?_
  refine z_isubN hC d_So_spells_5 (by omega) ?_
  refine z_aload_n hC d_So_spells_6 rfl 1 rfl ?_
  refine z_callT (st1 := [.int (iI ((zSl.getD i 0 : Nat) : Int)), .int (iI ((e - sp : Nat) : Int))]) hC (k_St_length l g i hi) hi mw_327 zv_St_length rfl rfl ⟨Nat.le_of_ble_eq_true rfl, Nat.le_of_ble_eq_true rfl⟩ rfl (Nat.le_of_ble_eq_true rfl) d_So_spells_7 rfl ⟨Nat.zero_le _, Nat.zero_le _⟩ rfl ?_
  refine z_icmp_eq (tgt := 15) hC ((e - sp : Nat) : Int) ((zSl.getD i 0 : Nat) : Int) d_So_spells_10 rfl (iI_t (by omega)) (iI_t (by omega)) (fun c_1 => ?_) (fun c_1 => ?_)
  · refine z_iconstN hC 0 d_So_spells_15 rfl ?_
    refine z_istore_n (lv' := [(3, .int (iI ((0 : Nat) : Int))), (0, .ref s0), (1, .ref (g.2.2.2.1 i)), (2, .int (iI ((e : Nat) : Int)))]) hC d_So_spells_16 rfl (by decide) rfl ?_
    have L_17 : ∀ (fu : Nat) (j : Nat), (j ≤ zSl.getD i 0) → (∀ m, m < j → sN sn sf (sp + m) = (zSb.getD i []).getD m 0) → zSl.getD i 0 - j < fu → Z x (0, 0) [(s0, .inr (6, [.ref s1, .int (iI ((sn : Nat) : Int)), .int (iI ((sp : Nat) : Int))])), (s1, .inl ((g.2.1 0), 200, .inl sf))] 17 [(3, .int (iI ((j : Nat) : Int))), (0, .ref s0), (1, .ref (g.2.2.2.1 i)), (2, .int (iI ((e : Nat) : Int)))] [] := by
      intro fu
      induction fu with
      | zero => intro j hj hall hmu; exact absurd hmu (Nat.not_lt_zero _)
      | succ fu ih_17 =>
        intro j hj hall hmu
        refine z_iload_n hC d_So_spells_17 rfl 0 rfl ?_
        refine z_aload_n hC d_So_spells_18 rfl 2 rfl ?_
        refine z_callT (st1 := [.int (iI ((zSl.getD i 0 : Nat) : Int)), .int (iI ((j : Nat) : Int))]) hC (k_St_length l g i hi) hi mw_327 zv_St_length rfl rfl ⟨Nat.le_of_ble_eq_true rfl, Nat.le_of_ble_eq_true rfl⟩ rfl (Nat.le_of_ble_eq_true rfl) d_So_spells_19 rfl ⟨Nat.zero_le _, Nat.zero_le _⟩ rfl ?_
        refine z_icmp_ge (tgt := 51) hC ((j : Nat) : Int) ((zSl.getD i 0 : Nat) : Int) d_So_spells_22 rfl (iI_t (by omega)) (iI_t (by omega)) (fun c_2 => ?_) (fun c_2 => ?_)
        · refine z_iconstN hC 1 d_So_spells_51 rfl ?_
          exact Z.eq rfl rfl rfl (zb_t (by unfold wdB; first | (rw [Bool.and_eq_false_iff]; exact Or.inl (decide_eq_false (by omega))) | (rw [Bool.and_eq_false_iff]; exact Or.inr (allB_no (k := j) (by omega) (decide_eq_false (by assumption)))) | (rw [Bool.and_eq_true]; exact ⟨decide_eq_true (by omega), allB_iff.mpr (fun m hm => decide_eq_true (hall m (by omega)))⟩))) (hR _ _ d_So_spells_52)
        · refine z_aload_n hC d_So_spells_25 rfl 1 rfl ?_
          refine z_aload_n hC d_So_spells_26 rfl 1 rfl ?_
          refine z_get hC hi_So 0 rfl rfl 2 (by decide) mw_80 (Or.inl rfl) rfl d_So_spells_27 ?_
          refine z_iload_n hC d_So_spells_30 rfl 0 rfl ?_
          refine z_iaddN hC d_So_spells_31 ?_
          refine z_callV (q0 := 0) (ci := 6) (w' := [(s0, .inr (6, [.ref s1, .int (iI ((sn : Nat) : Int)), .int (iI ((sp : Nat) : Int))])), (s1, .inl ((g.2.1 0), 200, .inl sf))]) (st1 := [.int (sN sn sf (sp + j))]) hC (k_So_signAt l g s0 s1 sn sp sf (sp + j) hsn (by omega)) mw_311 zv_So_signAt rfl rfl ⟨Nat.le_of_ble_eq_true rfl, Nat.le_of_ble_eq_true rfl⟩ [0, 1] rfl rfl rfl rfl rfl rfl rfl rfl (Nat.le_of_ble_eq_true rfl) d_So_spells_32 rfl ⟨Nat.zero_le _, Nat.zero_le _⟩ rfl ?_
          refine z_aload_n hC d_So_spells_35 rfl 2 rfl ?_
          refine z_iload_n hC d_So_spells_36 rfl 0 rfl ?_
          refine z_callT (st1 := [.int ((zSb.getD i []).getD j 0), .int (sN sn sf (sp + j))]) hC (k_St_charAt l g i j hi (by omega)) hi mw_337 zv_St_charAt rfl rfl ⟨Nat.le_of_ble_eq_true rfl, Nat.le_of_ble_eq_true rfl⟩ rfl (Nat.le_of_ble_eq_true rfl) d_So_spells_37 rfl ⟨Nat.zero_le _, Nat.zero_le _⟩ rfl ?_
          refine z_icmp_eqR (tgt := 45) hC d_So_spells_40 rfl (fun c_3 => ?_) (fun c_3 => ?_)
          · refine z_iincN (lv' := [(3, .int (iI ((j + 1 : Nat) : Int))), (0, .ref s0), (1, .ref (g.2.2.2.1 i)), (2, .int (iI ((e : Nat) : Int)))]) hC 1 d_So_spells_45 rfl 0 rfl (by decide) rfl ?_
            refine z_goto (tgt := 17) hC d_So_spells_48 rfl ?_
            exact Zloc [0, 1, 2, 3] rfl (Z.eq (w' := [(s0, .inr (6, [.ref s1, .int (iI ((sn : Nat) : Int)), .int (iI ((sp : Nat) : Int))])), (s1, .inl ((g.2.1 0), 200, .inl sf))]) rfl rfl rfl rfl (ih_17 (j + 1) (by omega) (lt_s hall (by assumption)) (by omega)))
          · refine z_iconstN hC 0 d_So_spells_43 rfl ?_
            exact Z.eq rfl rfl rfl (zb_f (by unfold wdB; first | (rw [Bool.and_eq_false_iff]; exact Or.inl (decide_eq_false (by omega))) | (rw [Bool.and_eq_false_iff]; exact Or.inr (allB_no (k := j) (by omega) (decide_eq_false (by assumption)))) | (rw [Bool.and_eq_true]; exact ⟨decide_eq_true (by omega), allB_iff.mpr (fun m hm => decide_eq_true (hall m (by omega)))⟩))) (hR _ _ d_So_spells_44)
    exact Zloc [0, 1, 2, 3] rfl (Z.eq (w' := [(s0, .inr (6, [.ref s1, .int (iI ((sn : Nat) : Int)), .int (iI ((sp : Nat) : Int))])), (s1, .inl ((g.2.1 0), 200, .inl sf))]) rfl rfl rfl rfl (L_17 _ 0 (by omega) (fun m h => absurd h (Nat.not_lt_zero m)) (Nat.lt_succ_self _)))
  · refine z_iconstN hC 0 d_So_spells_13 rfl ?_
    exact Z.eq rfl rfl rfl (zb_f (by unfold wdB; first | (rw [Bool.and_eq_false_iff]; exact Or.inl (decide_eq_false (by omega))) | (rw [Bool.and_eq_false_iff]; exact Or.inr (allB_no (k := j) (by omega) (decide_eq_false (by assumption)))) | (rw [Bool.and_eq_true]; exact ⟨decide_eq_true (by omega), allB_iff.mpr (fun m hm => decide_eq_true (hall m (by omega)))⟩))) (hR _ _ d_So_spells_14)
set_option maxHeartbeats 4000000 in
set_option maxRecDepth 100000 in
theorem k_So_joiningSort (l : Launch) (g : ZG) (s0 s1 sn sp : Nat) (sf : Nat → Int32) (e : Nat) (hsn : sn ≤ 200) (hsp : sp ≤ sn) (hpe : sp ≤ e) (hes : e ≤ sn)   : Ct l g y_So_joiningSort c_So_joiningSort 2 (some .int) { frames := 5, cells := 0, slots := 0, locals := 108 } [.ref s0, .int (iI ((e : Nat) : Int))] [(s0, .inr (6, [.ref s1, .int (iI ((sn : Nat) : Int)), .int (iI ((sp : Nat) : Int))])), (s1, .inl ((g.2.1 0), 200, .inl sf))] (some (.int (iI (jS sn sf sp e)))) [(s0, .inr (6, [.ref s1, .int (iI ((sn : Nat) : Int)), .int (iI ((sp : Nat) : Int))])), (s1, .inl ((g.2.1 0), 200, .inl sf))] := by
  refine ct_i (lv := [(0, .ref s0), (1, .int (iI ((e : Nat) : Int)))]) (by decide) rfl (Nat.le_of_ble_eq_true rfl) rfl ?_
  intro x hC hR
  refine z_aload_n hC d_So_joiningSort_0 rfl 0 rfl ?_
  refine z_ldcS hC 0 rfl d_So_joiningSort_1 ?_
  refine z_iload_n hC d_So_joiningSort_3 rfl 1 rfl ?_
  refine z_callV (q0 := 0) (ci := 6) (w' := [(s0, .inr (6, [.ref s1, .int (iI ((sn : Nat) : Int)), .int (iI ((sp : Nat) : Int))])), (s1, .inl ((g.2.1 0), 200, .inl sf))]) (st1 := [.int (iI (bI (wdB sn sf sp e 0)))]) hC (k_So_spells l g s0 s1 sn sp sf 0 e hsn hsp (by omega) hpe hes) mw_323 zv_So_spells rfl rfl ⟨Nat.le_of_ble_eq_true rfl, Nat.le_of_ble_eq_true rfl⟩ [0, 1] rfl rfl rfl rfl rfl rfl rfl rfl (Nat.le_of_ble_eq_true rfl) d_So_joiningSort_4 rfl ⟨Nat.zero_le _, Nat.zero_le _⟩ rfl ?_
  refine z_ifeqB (tgt := 12) hC d_So_joiningSort_7 rfl (fun c_1 => ?_) (fun c_1 => ?_)
  · refine z_aload_n hC d_So_joiningSort_12 rfl 0 rfl ?_
    refine z_ldcS hC 1 rfl d_So_joiningSort_13 ?_
    refine z_iload_n hC d_So_joiningSort_15 rfl 1 rfl ?_
    refine z_callV (q0 := 0) (ci := 6) (w' := [(s0, .inr (6, [.ref s1, .int (iI ((sn : Nat) : Int)), .int (iI ((sp : Nat) : Int))])), (s1, .inl ((g.2.1 0), 200, .inl sf))]) (st1 := [.int (iI (bI (wdB sn sf sp e 1)))]) hC (k_So_spells l g s0 s1 sn sp sf 1 e hsn hsp (by omega) hpe hes) mw_323 zv_So_spells rfl rfl ⟨Nat.le_of_ble_eq_true rfl, Nat.le_of_ble_eq_true rfl⟩ [0, 1] rfl rfl rfl rfl rfl rfl rfl rfl (Nat.le_of_ble_eq_true rfl) d_So_joiningSort_16 rfl ⟨Nat.zero_le _, Nat.zero_le _⟩ rfl ?_
    refine z_ifeqB (tgt := 24) hC d_So_joiningSort_19 rfl (fun c_2 => ?_) (fun c_2 => ?_)
    · refine z_aload_n hC d_So_joiningSort_24 rfl 0 rfl ?_
      refine z_ldcS hC 2 rfl d_So_joiningSort_25 ?_
      refine z_iload_n hC d_So_joiningSort_27 rfl 1 rfl ?_
      refine z_callV (q0 := 0) (ci := 6) (w' := [(s0, .inr (6, [.ref s1, .int (iI ((sn : Nat) : Int)), .int (iI ((sp : Nat) : Int))])), (s1, .inl ((g.2.1 0), 200, .inl sf))]) (st1 := [.int (iI (bI (wdB sn sf sp e 2)))]) hC (k_So_spells l g s0 s1 sn sp sf 2 e hsn hsp (by omega) hpe hes) mw_323 zv_So_spells rfl rfl ⟨Nat.le_of_ble_eq_true rfl, Nat.le_of_ble_eq_true rfl⟩ [0, 1] rfl rfl rfl rfl rfl rfl rfl rfl (Nat.le_of_ble_eq_true rfl) d_So_joiningSort_28 rfl ⟨Nat.zero_le _, Nat.zero_le _⟩ rfl ?_
      refine z_ifeqB (tgt := 38) hC d_So_joiningSort_31 rfl (fun c_3 => ?_) (fun c_3 => ?_)
      · refine z_iconst hC d_So_joiningSort_38 ?_
        exact Z.eq rfl rfl rfl (by unfold jS; first | (rw [if_pos (by assumption)]; rfl) | (rw [if_neg (by simp_all), if_pos (by assumption)]; rfl) | (rw [if_neg (by simp_all), if_neg (by simp_all), if_pos (by assumption)]; rfl) | (rw [if_neg (by simp_all), if_neg (by simp_all), if_neg (by simp_all)])) (hR _ _ d_So_joiningSort_39)
      · refine z_iconstN hC 5 d_So_joiningSort_34 rfl ?_
        refine z_goto (tgt := 39) hC d_So_joiningSort_35 rfl ?_
        exact Z.eq rfl rfl rfl (by unfold jS; first | (rw [if_pos (by assumption)]; rfl) | (rw [if_neg (by simp_all), if_pos (by assumption)]; rfl) | (rw [if_neg (by simp_all), if_neg (by simp_all), if_pos (by assumption)]; rfl) | (rw [if_neg (by simp_all), if_neg (by simp_all), if_neg (by simp_all)])) (hR _ _ d_So_joiningSort_39)
    · refine z_iconstN hC 4 d_So_joiningSort_22 rfl ?_
      exact Z.eq rfl rfl rfl (by unfold jS; first | (rw [if_pos (by assumption)]; rfl) | (rw [if_neg (by simp_all), if_pos (by assumption)]; rfl) | (rw [if_neg (by simp_all), if_neg (by simp_all), if_pos (by assumption)]; rfl) | (rw [if_neg (by simp_all), if_neg (by simp_all), if_neg (by simp_all)])) (hR _ _ d_So_joiningSort_23)
  · refine z_iconstN hC 3 d_So_joiningSort_10 rfl ?_
    exact Z.eq rfl rfl rfl (by unfold jS; first | (rw [if_pos (by assumption)]; rfl) | (rw [if_neg (by simp_all), if_pos (by assumption)]; rfl) | (rw [if_neg (by simp_all), if_neg (by simp_all), if_pos (by assumption)]; rfl) | (rw [if_neg (by simp_all), if_neg (by simp_all), if_neg (by simp_all)])) (hR _ _ d_So_joiningSort_11)
