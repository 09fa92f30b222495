/-! ===== what constructors make ===== -/
section ZA
variable {x : ZC} {l : Launch} {g : ZG} {R : Room} {cc : ByteArray} {nL : Nat} {own : String} {u u' : Nat × Nat} {w : va_W} {pc : Nat} {lv : List (Nat × Value)} {st : List Value} {ib : Bool}
/-- what a maker knows besides: new cells are its own; a constructor's name -/
def zI (x : ZC) (ib : Bool) : Prop := match x with
  | (_, _, _, _, s, _, _, _, meth, _, g, A, H0, _, _) => (∀ q, H0.size ≤ q → A q) ∧ g.2.2.1 ≤ H0.size ∧ (ib = true → meth.name = "<init>") ∧ va_AO "QuerySteps$Question" s
def Cn (l : Launch) (g : ZG) (y : MethodName) (cc : ByteArray) (maxL : Nat) (rm : Room) (sz : Nat) (av : List Value) (w : va_W) (post : va_W → Prop) : Prop :=
  Met l y (Cond.code y cc maxL none :: zTB) rm (va_Pc av (fun U => U.heap.size = sz ∧ zK g U ∧ va_AO "QuerySteps$Question" U ∧ g.2.2.1 ≤ sz ∧ va_P g.1 vwCl w U.heap ∧ va_D (fun q => g.2.2.1 ≤ q) w)) (va_Qv post (fun w' t => va_P g.1 vwCl w' t.heap ∧ va_D (va_A w sz) w') (va_A w sz)) rm.cells rm.slots (va_A w sz)
theorem ct_new {y : MethodName} {rm : Room} {maxL : Nat} {av : List Value} {post : va_W → Prop} (hy : plainName y.cls = true) (hyn : y.name = "<init>") (hlv : lv_args 0 av = lv) (hle : (lg_sl av).length ≤ maxL)
    (body : ∀ x : ZC, zO x l g rm cc maxL y.cls → zI x true → (∀ (pc : Nat) (lv : List (Nat × Value)) (w' : va_W), post w' → decode cc pc = .ok (.return_, 1) → Z x (rm.cells, rm.slots) w' pc lv []) → Z x (0, 0) w 0 lv []) (sz : Nat) : Cn l g y cc maxL rm sz av w post := by
  refine Met.ofW (cc := cc) (maxL := maxL) (ret := none) hy rfl ?_
  intro p e s m args below meth c s₁ B hml hv
  obtain ⟨rfl, hsz, hK, hAO, hg, hP, hD0⟩ := hv
  subst hsz
  have hx := B.exec
  have hb := B.bytes
  have hr := B.returns
  have hts : ∀ w ∈ zTB, w.before av.toArray s = true := fun w hw => atoms_spec (ws := Cond.code y cc maxL none :: zTB) B.pre w (List.mem_cons_of_mem _ hw)
  have hown : s.vm.findClass y.cls = some m.cls := findClass_of_methodNamed B.named
  have hin : meth.name = "<init>" := ((name_of_methodNamed B.named B.method).1).trans hyn
  have hlocks := B.notSynchronized
  have hl := lv_entry av (n := maxL) hle
  rw [lg_entry_eq]
  rw [hlv] at hl
  refine body (p, l, e, rm, s, m, av.toArray, below, meth, c, g, va_A w s.heap.size, s.heap, MQ below _ av.toArray s _ _ _, maxL) ⟨rfl, rfl, rfl, rfl, ⟨hx, hb, hml, hown, hts⟩, hK, rfl, fun q hq => ?_⟩ ⟨fun q hq => Or.inr hq, hg, fun _ => hin, hAO⟩ ?_ s.heap [] _ hP hD0.self va_S.rf hl
  · rcases hq with ⟨k, e2, h⟩ | h
    · exact hD0.2 k _ h
    · exact Nat.le_trans hg h
  · intro pc lv w' hp hd H locs ls hP hD hS hl
    exact W.vret hx hb hr (fun t ht hW => ⟨⟨w', rfl, hp, by rw [ht]; exact hP, hD⟩, hS.F ht⟩) hS.2.2 hd hlocks
theorem zn_obj (hC : zO x l g R cc nL own) {index a : Nat} (hl0 : Cond.methodLink own index Lib.objectInit ∈ zTB) (hi : Cond.instanceMethod Lib.objectInit ∈ zTB) (hco : Cond.code Lib.objectInit ⟨#[0xb1]⟩ 1 none ∈ zTB) (hR : 1 ≤ R.frames ∧ 20 ≤ R.locals) (hsum : (st.map fun v => v.category).sum ≤ 8) (hd : decode cc pc = .ok (.invokespecial index, 3)) (kk : Z x u w (pc + 3) lv st) : Z x u w pc lv (.ref a :: st) := by
  obtain ⟨p, l', e, R', s, m, args, below, meth, c, g', A, H0, Q, nL'⟩ := x
  obtain ⟨rfl, rfl, rfl, rfl, ⟨hx, hb, hml, hown, hts⟩, hK, rfl, hA⟩ := hC
  exact fun H locs ls hP hD hS hl => W.objInit hx hb hown (hts _ hl0) (hts _ hi) (hts _ hco) rfl (hl.1.trans hml.symm) rfl hd hR.1 (by
    have h2 : 2 * (F0 m pc ls (Value.ref a :: st)).monitorRoom + (st.map fun v => v.category).sum ≤ 8 := lv_room hsum
    omega) (kk H locs ls hP hD hS hl)
theorem zn_new (hC : zO x l g R cc nL own) (hI : zI x ib) {C : String} {T : u_T} {N ci index : Nat} {fs : List Value} (hin : ∀ w ∈ u_ws C T N, w ∈ zTB) (ty : Nat → FieldType) (hty : ∀ k, k < N → parseFieldDescriptor (T k).2.2.1 = some (ty k)) (hcl : Cond.classLink own index C ∈ zTB) (hinst : Cond.instantiable C N ∈ zTB) (hini : Cond.initialized C ∈ zTB) (hc : vwCl[ci]? = some (C, T, N)) (hfs : ∀ j, j < N → defaultValue (ty j) = vp_V fs j) (hR : u.1 + 1 ≤ R.cells ∧ u.2 + N ≤ R.slots) (hu : (u.1 + 1, u.2 + N) = u') (hd : decode cc pc = .ok (.new index, 3)) (kk : ∀ q : Nat, Z x u' ((q, .inr (ci, fs)) :: w) (pc + 3) lv (.ref q :: st)) : Z x u w pc lv st := by
  obtain ⟨p, l', e, R', s, m, args, below, meth, c, g', A, H0, Q, nL'⟩ := x
  obtain ⟨rfl, rfl, rfl, rfl, ⟨hx, hb, hml, hown, hts⟩, hK, rfl, hA⟩ := hC
  subst hu
  exact fun H locs ls hP hD hS hl => va_new hx hb hts hin ty hty hown (hts _ hcl) (hts _ hinst) (hts _ hini) hK.1 hP hD hS hI.1 hc hfs hR.1 hR.2 hd (fun q H1 hP1 hD1 hS1 => Z.perm (x := (p, l', e, R', s, m, args, below, meth, c, g', A, s.heap, Q, nL')) (u := (u.1 + 1, u.2 + N)) (lv := lv) (pc := pc + 3) (st := .ref q :: st) List.perm_append_comm (kk q) H1 locs ls hP1 hD1 hS1 hl)
theorem ha_i {n : Nat} {f : Nat → Int32} {ty : FieldType} (hd : defaultValue ty = .int 0) (h : ∀ j, f j = 0) : ∀ cA : ClassId, vp_cell cA (n, .inl f) = arrV cA n (fun _ => defaultValue ty) := fun cA => by
  rw [vp_cell_i, hd]
  congr 1
  funext j
  rw [h j]
theorem ha_l {n : Nat} {f : Nat → Int64} (h : ∀ j, f j = 0) : ∀ cA : ClassId, vp_cell cA (n, .inr (.inl f)) = arrV cA n (fun _ => defaultValue .long) := fun cA => by
  rw [vp_cell_l]
  congr 1
  funext j
  rw [h j]
  rfl
theorem zn_newa (hC : zO x l g R cc nL own) (hI : zI x ib) {atype : ArrayType} {i : Int} {N' t0 : Nat} {cA : ClassId} {ty : FieldType} {a0 : vp_A} (harr : Cond.arrayClass (newarray.typeOf atype) ∈ zTB) (hty : newarray.typeOf atype = ty) (hnob : ∀ (U : State) (c : ClassId), va_RA U c ty → U.vm.findClass ("[" ++ ty.toString) = some c) (ht : (zty g.2.1)[t0]? = some (cA, ty)) (ha : ∀ cA : ClassId, vp_cell cA a0 = arrV cA N' (fun _ => defaultValue ty)) (hi : i = N') (hN : N' < 100000) (hbytes : N' * componentBytes ty ≤ 536870912) (hR : u.1 + 1 ≤ R.cells ∧ u.2 + N' ≤ R.slots) (hu : (u.1 + 1, u.2 + N') = u') (hd : decode cc pc = .ok (.newarray atype, 2)) (kk : ∀ q : Nat, Z x u' ((q, .inl (cA, a0)) :: w) (pc + 2) lv (.ref q :: st)) : Z x u w pc lv (.int (iI i) :: st) := by
  obtain ⟨p, l', e, R', s, m, args, below, meth, c, g', A, H0, Q, nL'⟩ := x
  obtain ⟨rfl, rfl, rfl, rfl, ⟨hx, hb, hml, hown, hts⟩, hK, rfl, hA⟩ := hC
  subst hu
  subst hi
  have h0 : ¬ iI (N' : Int) < 0 := fun q => by
    have := Int32.lt_iff_toInt_lt.mp q
    rw [iI_t (by omega)] at this
    have z : (0 : Int32).toInt = 0 := rfl
    omega
  have hk := hnob s cA (hK.1.2 t0 _ ht).2
  refine fun H locs ls hP hD hS hl => va_newa hx hb (hts _ harr) hty hK.1 hP hD hS hI.1 ha h0 (iI_cl rfl (by omega)) hbytes hR.1 hR.2 hd (fun q cB H1 hK1 hP1 hD1 hS1 => ?_)
  have e1 : ((zty g'.2.1) ++ [(cB, ty)])[(zty g'.2.1).length]? = some (cB, ty) := by simp
  have h2 := hnob s cB (hK1.2 _ _ e1).2
  have e3 : cB = cA := Option.some.inj (h2.symm.trans hk)
  subst e3
  exact Z.perm (x := (p, l', e, R', s, m, args, below, meth, c, g', A, s.heap, Q, nL')) (u := (u.1 + 1, u.2 + N')) (lv := lv) (pc := pc + 2) (st := .ref q :: st) List.perm_append_comm (kk q) H1 locs ls hP1 hD1 hS1 hl
theorem zn_newq (hC : zO x l g R cc nL own) (hI : zI x ib) {index : Nat} {i : Int} {N' t0 : Nat} {cA : ClassId} (hcl : Cond.classLink own index "QuerySteps$Question" ∈ zTB) (ht : (zty g.2.1)[t0]? = some (cA, .object "QuerySteps$Question")) (hi : i = N') (hN : N' < 100000) (hR : u.1 + 1 ≤ R.cells ∧ u.2 + N' ≤ R.slots) (hu : (u.1 + 1, u.2 + N') = u') (hd : decode cc pc = .ok (.anewarray index, 3)) (kk : ∀ q : Nat, Z x u' ((q, .inl (cA, N', .inr (.inr (.inr (.inr (fun _ => none)))))) :: w) (pc + 3) lv (.ref q :: st)) : Z x u w pc lv (.int (iI i) :: st) := by
  obtain ⟨p, l', e, R', s, m, args, below, meth, c, g', A, H0, Q, nL'⟩ := x
  obtain ⟨rfl, rfl, rfl, rfl, ⟨hx, hb, hml, hown, hts⟩, hK, rfl, hA⟩ := hC
  subst hu
  subst hi
  have h0 : ¬ iI (N' : Int) < 0 := fun q => by
    have := Int32.lt_iff_toInt_lt.mp q
    rw [iI_t (by omega)] at this
    have z : (0 : Int32).toInt = 0 := rfl
    omega
  obtain ⟨_, _, _, _, _, hk⟩ := (hK.1.2 t0 _ ht).2
  refine fun H locs ls hP hD hS hl => va_newq hx hb hown (hts _ hcl) hI.2.2.2 hK.1 hP hD hS hI.1 h0 (iI_cl rfl (by omega)) (by omega) hR.1 hR.2 hd (fun q cB H1 hK1 hP1 hD1 hS1 => ?_)
  have e1 : ((zty g'.2.1) ++ [(cB, FieldType.object "QuerySteps$Question")])[(zty g'.2.1).length]? = some (cB, .object "QuerySteps$Question") := by simp
  obtain ⟨_, _, _, _, _, h2⟩ := (hK1.2 _ _ e1).2
  have e3 : cB = cA := Option.some.inj (h2.symm.trans hk)
  subst e3
  exact Z.perm (x := (p, l', e, R', s, m, args, below, meth, c, g', A, s.heap, Q, nL')) (u := (u.1 + 1, u.2 + N')) (lv := lv) (pc := pc + 3) (st := .ref q :: st) List.perm_append_comm (kk q) H1 locs ls hP1 hD1 hS1 hl
theorem zn_astq (hC : zO x l g R cc nL own) {a n v : Nat} {cA : ClassId} {r : vw_C} {vs : List Value} {f : Nat → Option Nat} {i : Int} {w' : va_W} (q0 t0 qk ci : Nat) (he : w[q0]? = some (a, .inl (cA, n, .inr (.inr (.inr (.inr f)))))) (ht : (zty g.2.1)[t0]? = some (cA, .object r.1)) (hv : w[qk]? = some (v, .inr (ci, vs))) (hc : vwCl[ci]? = some r) (k : Nat) (hk : i = k) (hlt : k < n) (hn : n < 2147483648) (hw : w.set q0 (a, .inl (cA, n, .inr (.inr (.inr (.inr (va_up f k (some v))))))) = w') (hd : decode cc pc = .ok (.aastore, 1)) (kk : Z x u w' (pc + 1) lv st) : Z x u w pc lv (.ref v :: .int (iI i) :: .ref a :: st) := by
  obtain ⟨p, l', e, R', s, m, args, below, meth, c, g', A, H0, Q, nL'⟩ := x
  obtain ⟨rfl, rfl, rfl, rfl, ⟨hx, hb, hml, hown, hts⟩, hK, rfl, hA⟩ := hC
  have hcl := iI_cl hk (by omega)
  subst hw
  exact fun H locs ls hP hD hS hl => va_astq hx hb hK.1 hP hD hS q0 t0 qk ci he ht hv hc (iI_in (by omega) (by omega) hn) hd (fun H' locs' hP hD hS => by rw [hcl] at hP hD; exact kk H' locs' ls hP hD hS hl)
theorem zn_putF (hC : zO x l g R cc nL own) (hI : zI x true) {ref C : String} {T : u_T} {N ci index : Nat} {a : Nat} {fs : List Value} {v : Value} {ty : FieldType} {w' : va_W} (hin : ∀ w ∈ u_ws C T N, w ∈ zTB) (ty0 : Nat → FieldType) (hty : ∀ k, k < N → parseFieldDescriptor (T k).2.2.1 = some (ty0 k)) (hnm : ∀ a, a < N → ∀ b, b < N → a ≠ b → (T a).2.1 ≠ (T b).2.1) (q0 : Nat) (he : w[q0]? = some (a, .inr (ci, fs))) (hc : vwCl[ci]? = some (C, T, N)) (k : Nat) (hk : k < N) (hlink : Cond.fieldLink own index ref (T k).2.1 (T k).2.2.1 ∈ zTB) (href : ref = (T k).1) (hfin : (T k).2.2.2 = true) (hdecl : (T k).1 = own) (hdsc : ty0 k = ty) (hn : narrow ty v = v) (hfit : fits ty v = true) (hl0 : k < fs.length) (hw : w.set q0 (a, .inr (ci, fs.set k v)) = w') (hd : decode cc pc = .ok (.putfield index, 3)) (kk : Z x u w' (pc + 3) lv st) : Z x u w pc lv (v :: .ref a :: st) := by
  obtain ⟨p, l', e, R', s, m, args, below, meth, c, g', A, H0, Q, nL'⟩ := x
  obtain ⟨rfl, rfl, rfl, rfl, ⟨hx, hb, hml, hown, hts⟩, hK, rfl, hA⟩ := hC
  subst hw
  exact fun H locs ls hP hD hS hl => va_putF (ty := ty) hx hb hts hin ty0 hty hnm hown hK.1 hP hD hS q0 he hc k hk (hts _ hlink) (fun x9 h9 => by rw [href]; exact h9) hfin (hI.2.2.1 rfl) hdecl (by rw [← hdsc]; exact hty k hk) hn hfit hl0 hd (fun H' locs' hP hD hS => kk H' locs' ls hP hD hS hl)
/-- what the tables say of a constructor -/
def zIni (y : MethodName) (bytes : ByteArray) (maxL : Nat) (n : Nat) : Prop := Cond.instanceMethod y ∈ zTB ∧ Cond.initialized y.cls ∈ zTB ∧ Cond.code y bytes maxL none ∈ zTB ∧ y.name = "<init>" ∧ y.cls ≠ "java/lang/invoke/MethodHandle" ∧ y.cls ≠ "java/lang/invoke/VarHandle" ∧ (parseMethodDescriptor y.desc).map (fun d => d.parameters.length) = some n
theorem zn_call (hC : zO x l g R cc nL own) (hI : zI x ib) {y : MethodName} {rm : Room} {bytes : ByteArray} {maxL n index b : Nat} {eb : va_E} {As : List Value} {post : va_W → Prop} (hM : ∀ sz : Nat, Cn l g y bytes maxL rm sz (.ref b :: As) [(b, eb)] post) (hl0 : Cond.methodLink own index y ∈ zTB ∨ (own, index, y, "QuerySteps") ∈ zNM) (hv : zIni y bytes maxL n) (hR : rm.frames + 1 ≤ R.frames ∧ 8 + (maxL + 11) + rm.locals ≤ R.locals) (hn : As.length = n) (hsum : (st.map fun v => v.category).sum ≤ 8) (hd : decode cc pc = .ok (.invokespecial index, 3)) {st0 : List Value} (hst : As.reverse ++ .ref b :: st = st0) (hRc : u.1 + rm.cells ≤ R.cells ∧ u.2 + rm.slots ≤ R.slots) (hu : (u.1 + rm.cells, u.2 + rm.slots) = u')
    (kk : ∀ w1 : va_W, post w1 → Z x u' (w1 ++ w) (pc + 3) lv st) : Z x u ((b, eb) :: w) pc lv st0 := by
  obtain ⟨p, l', e, R', s, m, args, below, meth, c, g', A, H0, Q, nL'⟩ := x
  obtain ⟨rfl, rfl, rfl, rfl, ⟨hx, hb, hml, hown, hts⟩, hK, rfl, hA⟩ := hC
  obtain ⟨v1, v2, v3, v4, v5⟩ := hv
  subst hst
  subst hu
  intro H locs ls hP hD hS hl
  have hPc : va_P g'.1 vwCl [(b, eb)] H := hP.sub [0] rfl
  have hDc : va_D A [(b, eb)] := hD.sub [0] rfl rfl
  have hFc := va_free (wc := [(b, eb)]) hD hS hI.1 [0] rfl
  have hpre : PreS s H (va_Pc (.ref b :: As) (fun U => U.heap.size = H.size ∧ zK g' U ∧ va_AO "QuerySteps$Question" U ∧ g'.2.2.1 ≤ H.size ∧ va_P g'.1 vwCl [(b, eb)] U.heap ∧ va_D (fun q => g'.2.2.1 ≤ q) [(b, eb)])) (.ref b :: As) :=
    ⟨fun _ U _ _ q => ⟨q.1, q.2.1, zK.blind rfl rfl q.2.2.1, va_AO.moved (Vm.Alike.refl U.vm) q.2.2.2.1, q.2.2.2.2⟩, fun U hU hW => ⟨rfl, by rw [hU], zK.warm hW (fun q h1 h2 => by rw [hU]; exact hS.2.1 q h1 (fun h => h2 (hA q h))) hK, va_AO.moved hW.alike hI.2.2.2, Nat.le_trans hI.2.1 hS.1, by rw [hU]; exact hPc, hDc.weaken (fun k q _ h => hA _ h)⟩⟩
  have hgo : va_Run p l' e R' s m args below meth c H locs u.1 u.2 rm.cells rm.slots (F0 m pc ls (As.reverse ++ .ref b :: st)) st (va_Qv post (fun w' t => va_P g'.1 vwCl w' t.heap ∧ va_D (va_A [(b, eb)] H.size) w') (va_A [(b, eb)] H.size) (.ref b :: As).toArray) (va_A [(b, eb)] H.size) := by
    rcases hl0 with h | h
    · exact va_runI (As := As) (rest := st) ⟨hx, hb, hml, hown, hts⟩ (hM H.size) (cwI n hts (zG v3) rfl rfl rfl (hts _ v2) (hts _ h) (hts _ v1) v4 v5 hR) hpre rfl hn hl.1 rfl (lv_room hsum) hd hRc
    · exact va_runIN (As := As) (rest := st) ⟨hx, hb, hml, hown, hts⟩ (hM H.size) ⟨va_cnB n hts (zG v3) rfl rfl rfl (hK.2.1.2.1 _ h) (hts _ v2) v5 hR, v4, hts _ v1⟩ hpre rfl hn hl.1 rfl (lv_room hsum) hd hRc
  refine va_callv hgo hS (fun q _ h => hFc q h) hFc (fun w1 t H1 locs1 ht hvm hp hB hz1 hk1 hS1 => ?_)
  obtain ⟨hP1, hD1⟩ := hB
  rw [ht] at hP1
  have hj := va_join (wr := w) (w1 := w1) hP hD [0] (List.range' 1 w.length) rfl (zis_mid w [(b, eb)] [] |>.symm ▸ by simp [zis_mid]) (znd_range _ _) (by intro i hi; have := List.mem_range'.mp hi; simp; omega) hk1 hFc hP1 hD1
  exact Z.perm (x := (p, l', e, R', s, m, args, below, meth, c, g', A, s.heap, Q, nL')) (u := (u.1 + rm.cells, u.2 + rm.slots)) (lv := lv) (pc := pc + 3) (st := st) List.perm_append_comm (kk w1 hp) H1 locs1 ls hj.1 hj.2 hS1 hl
end ZA
