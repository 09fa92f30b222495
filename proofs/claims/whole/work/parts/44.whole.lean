/-! ===== the start of the law ===== -/
theorem zArr {s : State} {args : Array Value} {ty : FieldType} (h : (Cond.arrayClass ty).before args s = true) (hn : ∀ (U : State) (c : ClassId), U.vm.findClass ("[" ++ ty.toString) = some c → va_RA U c ty) : ∃ cA : ClassId, ArrOfT s cA ty ∧ va_RA s cA ty := by
  obtain ⟨cA, kA, comp, hfind, hk, hkind⟩ := Cond.arrayClass_spec h
  exact ⟨cA, fun n z => ⟨fun k h => (by cases h), kA, hk, comp, hkind⟩, hn s cA hfind⟩
theorem zArrO {s : State} {args : Array Value} {n : String} (h : (Cond.arrayOver (.object n)).before args s = true) : ∃ cA : ClassId, ArrOfT s cA (.object n) ∧ va_RA s cA (.object n) := by
  obtain ⟨comp, cA, kA, hfc, _, hk, hkind, hfind⟩ := Cond.arrayOver_spec h
  exact ⟨cA, fun n z => ⟨fun k h => (by cases h), kA, hk, comp, hkind⟩, kA, comp, hk, hkind, hfc, hfind⟩
def zTm (i : Nat) : Term := .string "QuerySteps$Source" ([33, 39, 41].getD i 0)
theorem z3 {P : Nat → Prop} (h0 : P 0) (h1 : P 1) (h2 : P 2) : ∀ i : Nat, i < zSn → P i := by
  intro i hi
  have h3 : i < 3 := hi
  rcases (show i = 0 ∨ i = 1 ∨ i = 2 by omega) with rfl | rfl | rfl
  · exact h0
  · exact h1
  · exact h2
theorem zK_start {s : State} {args : Array Value} (hts : ∀ w ∈ lw_tbl, w.before args s = true) (hgv : (Jvm.Cond.and given_1 narrow_1).before args s = true) : ∃ g : ZG, g.2.2.1 = s.heap.size ∧ zK g s := by
  have hs := flat_of_before _ hgv
  have hA : ∀ a : Nat, a < s.heap.size → ¬ (fun q : Nat => s.heap.size ≤ q) a := fun a h => Nat.not_le.mpr h
  obtain ⟨c0, i0, k0⟩ := u_known (C := R_Bt) (T := T_Bt) (N := 4) (n := 4) hts (fun w hw => zTB_in (hi_Bt w hw)) (hts _ (zTB_in mw_148))
  obtain ⟨c1, i1, k1⟩ := u_known (C := R_Fr) (T := T_Fr) (N := 4) (n := 4) hts (fun w hw => zTB_in (hi_Fr w hw)) (hts _ (zTB_in mw_178))
  obtain ⟨c2, i2, k2⟩ := u_known (C := R_Hi) (T := T_Hi) (N := 2) (n := 2) hts (fun w hw => zTB_in (hi_Hi w hw)) (hts _ (zTB_in mw_240))
  obtain ⟨c3, i3, k3⟩ := u_known (C := R_Ix) (T := T_Ix) (N := 5) (n := 5) hts (fun w hw => zTB_in (hi_Ix w hw)) (hts _ (zTB_in mw_90))
  obtain ⟨c4, i4, k4⟩ := u_known (C := R_Qu) (T := T_Qu) (N := 4) (n := 4) hts (fun w hw => zTB_in (hi_Qu w hw)) (hts _ (zTB_in mw_216))
  obtain ⟨c5, i5, k5⟩ := u_known (C := R_Rc) (T := T_Rc) (N := 6) (n := 6) hts (fun w hw => zTB_in (hi_Rc w hw)) (hts _ (zTB_in mw_189))
  obtain ⟨c6, i6, k6⟩ := u_known (C := R_So) (T := T_So) (N := 3) (n := 3) hts (fun w hw => zTB_in (hi_So w hw)) (hts _ (zTB_in mw_73))
  obtain ⟨c7, i7, k7⟩ := u_known (C := R_Tr) (T := T_Tr) (N := 5) (n := 5) hts (fun w hw => zTB_in (hi_Tr w hw)) (hts _ (zTB_in mw_126))
  obtain ⟨c8, i8, k8⟩ := u_known (C := R_Un) (T := T_Un) (N := 2) (n := 2) hts (fun w hw => zTB_in (hi_Un w hw)) (hts _ (zTB_in mw_113))
  obtain ⟨c9, i9, k9⟩ := u_known (C := R_QS) (T := T_QS) (N := 10) (n := 10) hts (fun w hw => zTB_in (hi_QS w hw)) (hts _ (zTB_in mw_65))
  obtain ⟨c10, i10, k10⟩ := u_known (C := R_Mo) (T := T_Mo) (N := 29) (n := 29) hts (fun w hw => zTB_in (hi_Mo w hw)) (hts _ (zTB_in mw_730))
  obtain ⟨dC, dI, hKc⟩ : ∃ (dC : Nat → ClassId) (dI : Nat → Nat → Nat), ∀ (k : Nat) (q : vw_C), vwCl[k]? = some q → u_Kn s q.1 q.2.1 q.2.2 (dC k) (dI k) := by
    refine ⟨fun k => if k = 0 then c0 else if k = 1 then c1 else if k = 2 then c2 else if k = 3 then c3 else if k = 4 then c4 else if k = 5 then c5 else if k = 6 then c6 else if k = 7 then c7 else if k = 8 then c8 else if k = 9 then c9 else c10, fun k => if k = 0 then i0 else if k = 1 then i1 else if k = 2 then i2 else if k = 3 then i3 else if k = 4 then i4 else if k = 5 then i5 else if k = 6 then i6 else if k = 7 then i7 else if k = 8 then i8 else if k = 9 then i9 else i10, ?_⟩
    intro k q hq
    match k, hq with
    | 0, hq => cases hq; exact k0
    | 1, hq => cases hq; exact k1
    | 2, hq => cases hq; exact k2
    | 3, hq => cases hq; exact k3
    | 4, hq => cases hq; exact k4
    | 5, hq => cases hq; exact k5
    | 6, hq => cases hq; exact k6
    | 7, hq => cases hq; exact k7
    | 8, hq => cases hq; exact k8
    | 9, hq => cases hq; exact k9
    | 10, hq => cases hq; exact k10
    | k + 11, hq => simp [vwCl] at hq
  obtain ⟨a0, b0⟩ := zArr (ty := .int) (hts _ (zTB_in mw_88)) (fun _ _ h => h)
  obtain ⟨a1, b1⟩ := zArr (ty := .long) (hts _ (zTB_in mw_213)) (fun _ _ h => h)
  obtain ⟨a2, b2⟩ := zArr (ty := .boolean) (hts _ (zTB_in mw_111)) (fun _ _ h => h)
  obtain ⟨a3, b3⟩ := zArrO (n := "QuerySteps$Question") (hts _ (List.mem_of_getElem? (i := 215) (by decide +kernel)))
  obtain ⟨a4, b4⟩ := zArr (ty := .byte) (hts _ (zTB_in mw_412)) (fun _ _ h => h)
  obtain ⟨dK, hKt⟩ : ∃ dK : Nat → ClassId, ∀ (k : Nat) (q : ClassId × FieldType), (zty dK)[k]? = some q → ArrOfT s q.1 q.2 ∧ va_RA s q.1 q.2 := by
    refine ⟨fun k => if k = 0 then a0 else if k = 1 then a1 else if k = 2 then a2 else if k = 3 then a3 else a4, ?_⟩
    intro k q hq
    match k, hq with
    | 0, hq => cases hq; exact b0
    | 1, hq => cases hq; exact b1
    | 2, hq => cases hq; exact b2
    | 3, hq => cases hq; exact b3
    | 4, hq => cases hq; exact b4
    | k + 5, hq => simp [zty] at hq
  obtain ⟨adK, adV, hSt, hEv⟩ := vk_Sof (args := args) (s := s) (N := zSn) (tm := zTm) (len := zSl) (byt := zSb) (A := fun q : Nat => s.heap.size ≤ q) (z3 (by decide) (by decide) (by decide)) (z3 (hs _ (by decide +kernel)) (hs _ (by decide +kernel)) (hs _ (by decide +kernel))) (z3 (hs _ (by decide +kernel)) (hs _ (by decide +kernel)) (hs _ (by decide +kernel))) (z3 (hs _ (by decide +kernel)) (hs _ (by decide +kernel)) (hs _ (by decide +kernel))) (z3 (hs _ (by decide +kernel)) (hs _ (by decide +kernel)) (hs _ (by decide +kernel)))
    (z3 (fun j hj => by
      have h : j < 3 := hj
      rcases (show j = 0 ∨ j = 1 ∨ j = 2 by omega) with rfl | rfl | rfl
      · exact hs _ (by decide +kernel)
      · exact hs _ (by decide +kernel)
      · exact hs _ (by decide +kernel)) (fun j hj => by
      have h : j < 2 := hj
      rcases (show j = 0 ∨ j = 1 by omega) with rfl | rfl
      · exact hs _ (by decide +kernel)
      · exact hs _ (by decide +kernel)) (fun j hj => by
      have h : j < 3 := hj
      rcases (show j = 0 ∨ j = 1 ∨ j = 2 by omega) with rfl | rfl | rfl
      · exact hs _ (by decide +kernel)
      · exact hs _ (by decide +kernel)
      · exact hs _ (by decide +kernel)))
    (fun i j hi hj hne => by
      have h1 : i < 3 := hi
      have h2 : j < 3 := hj
      rcases (show (i = 0 ∧ j = 1) ∨ (i = 1 ∧ j = 0) ∨ (i = 0 ∧ j = 2) ∨ (i = 2 ∧ j = 0) ∨ (i = 1 ∧ j = 2) ∨ (i = 2 ∧ j = 1) by omega) with ⟨rfl, rfl⟩ | ⟨rfl, rfl⟩ | ⟨rfl, rfl⟩ | ⟨rfl, rfl⟩ | ⟨rfl, rfl⟩ | ⟨rfl, rfl⟩
      · exact Or.inl (hs _ (by decide +kernel))
      · exact Or.inr (hs _ (by decide +kernel))
      · exact Or.inl (hs _ (by decide +kernel))
      · exact Or.inr (hs _ (by decide +kernel))
      · exact Or.inl (hs _ (by decide +kernel))
      · exact Or.inr (hs _ (by decide +kernel))) hA
  refine ⟨((dC, dI), dK, s.heap.size, adK, adV), rfl, ⟨hKc, hKt⟩, ⟨?_, ?_, ?_⟩, hSt, ?_, ?_, ?_⟩
  · exact List.forall_mem_cons.mpr ⟨va_Nw.of rfl (hts _ (List.mem_of_getElem? (i := 224) (by decide +kernel))), List.forall_mem_cons.mpr ⟨va_Nw.of rfl (hts _ (List.mem_of_getElem? (i := 225) (by decide +kernel))), List.forall_mem_cons.mpr ⟨va_Nw.of rfl (hts _ (List.mem_of_getElem? (i := 227) (by decide +kernel))), fun _ h => absurd h List.not_mem_nil⟩⟩⟩
  · exact List.forall_mem_cons.mpr ⟨va_Nw.of rfl (hts _ (List.mem_of_getElem? (i := 74) (by decide +kernel))), List.forall_mem_cons.mpr ⟨va_Nw.of rfl (hts _ (List.mem_of_getElem? (i := 91) (by decide +kernel))), List.forall_mem_cons.mpr ⟨va_Nw.of rfl (hts _ (List.mem_of_getElem? (i := 114) (by decide +kernel))), List.forall_mem_cons.mpr ⟨va_Nw.of rfl (hts _ (List.mem_of_getElem? (i := 127) (by decide +kernel))), List.forall_mem_cons.mpr ⟨va_Nw.of rfl (hts _ (List.mem_of_getElem? (i := 190) (by decide +kernel))), List.forall_mem_cons.mpr ⟨va_Nw.of rfl (hts _ (List.mem_of_getElem? (i := 217) (by decide +kernel))), List.forall_mem_cons.mpr ⟨va_Nw.of rfl (hts _ (List.mem_of_getElem? (i := 222) (by decide +kernel))), List.forall_mem_cons.mpr ⟨va_Nw.of rfl (hts _ (List.mem_of_getElem? (i := 241) (by decide +kernel))), fun _ h => absurd h List.not_mem_nil⟩⟩⟩⟩⟩⟩⟩⟩
  · exact List.forall_mem_cons.mpr ⟨va_Nw.of rfl (hts _ (List.mem_of_getElem? (i := 435) (by decide +kernel))), List.forall_mem_cons.mpr ⟨va_Nw.of rfl (hts _ (List.mem_of_getElem? (i := 457) (by decide +kernel))), List.forall_mem_cons.mpr ⟨va_Nw.of rfl (hts _ (List.mem_of_getElem? (i := 501) (by decide +kernel))), fun _ h => absurd h List.not_mem_nil⟩⟩⟩
  · exact List.forall_mem_cons.mpr ⟨vk_R.of (hts _ (List.mem_of_getElem? (i := 322) (by decide +kernel))) (hEv 0 (by decide)), List.forall_mem_cons.mpr ⟨vk_R.of (hts _ (List.mem_of_getElem? (i := 375) (by decide +kernel))) (hEv 1 (by decide)), List.forall_mem_cons.mpr ⟨vk_R.of (hts _ (List.mem_of_getElem? (i := 376) (by decide +kernel))) (hEv 2 (by decide)), fun _ h => absurd h List.not_mem_nil⟩⟩⟩
  · exact va_Zof (hts _ (List.mem_of_getElem? (i := 336) (by decide +kernel))) (hts _ (zTB_in mw_59)) (va_eqt (hs _ (by decide +kernel))) hA
  · exact va_Zqof (hts _ (List.mem_of_getElem? (i := 352) (by decide +kernel))) (hts _ (zTB_in mw_61)) (hs _ (by decide +kernel)) hA
theorem y8_0 : y8 z0F := fun _ => by show yb (iI ((0 : Nat) : Int)) &&& iI ((255 : Nat) : Int) = iI ((0 : Nat) : Int); decide
theorem g1_i : G1 0 0 z0F z0F := ⟨rfl, rfl, by omega, y8_0⟩
theorem g2_i : G2 0 0 z0N z0N z0F z0F z0B z0B := ⟨rfl, rfl, rfl, by omega, fun j h => absurd h (Nat.not_lt_zero _), y8_0, fun k h => absurd h (Nat.not_lt_zero _), fun _ _ => rfl⟩
theorem g3_i : G3 0 0 z0F z0F := ⟨rfl, rfl, by omega, y8_0⟩
theorem tok_i : tok 0 z0Q 0 := ⟨by omega, fun h => absurd h (Nat.lt_irrefl _), fun j h => absurd h (Nat.not_lt_zero _)⟩
theorem g4_i : G4 0 0 z0Q z0N z0Q := ⟨rfl, fun i h => absurd h (Nat.not_lt_zero _), tok_i⟩
theorem g5_i : G5 0 0 z0L z0L z0N z0N z0F z0N z0E := ⟨rfl, by omega, fun k h1 h2 => absurd h2 (by omega), fun i h1 h2 => absurd h2 (by omega), ⟨fun _ => by show 0 ≤ 8; omega, fun _ => by show 0 ≤ 8; omega, fun _ => by show 0 < 100000; omega, fun _ => by show 0 < 100000; omega⟩, fun k h1 h2 => absurd h2 (by omega), fun _ _ => rfl, fun k e h1 h2 => absurd h2 (by omega)⟩
theorem g6_i : G6 0 0 z0N z0N := ⟨rfl, by omega, fun k h => absurd h (Nat.not_lt_zero _)⟩
theorem g7_i : G7 0 z0V z0N z0Q z0B z0L := ⟨fun _ => by show 0 ≤ 40; omega, fun _ => by show 0 ≤ 40; omega, fun i _ => ⟨rfl, rfl, rfl, rfl, fun j h => absurd h (Nat.not_lt_zero _), tok_i⟩⟩
theorem g8_i : 0 ≤ 40 ∧ (∀ k, z0N k < 1000) := ⟨by omega, fun _ => by show 0 < 1000; omega⟩
/-! THE CLAIM OUT OF ONE WALK OF THE LAW'S BODY. Your part is whole_start (and what it stands on); all else here is the same for every law, but numbers. -/
def R_law : String := "QueryStepsLaw"
def lw_P (b : Addr) (xs : List Int32) (args : Array Value) (s : State) : Prop := args = #[.ref b] ∧ s.IntsAt b xs ∧ xs.length ≤ 2048 ∧ (Jvm.Cond.and given_1 narrow_1).before args s = true
def lw_Q (_ : Array Value) (s : State) (o : Outcome) (t : State) : Prop := o = .returned (some (.int 1)) ∧ Framed s o t [] 600000 7302250
def lw_Z (below : List Frame) (a : Array Value) (s : State) : State → Prop := fun t => ∃ o, t.status = .running ∧ Ended t below o ∧ lw_Q a s o t
/-- the law's own end, with 1 on the stack, nothing written that was there before, its room as the claim has it -/
theorem lw_ret {p : Program} {l : Launch} {e : Env} {s : State} {m : MethodId} {below : List Frame} {meth : Method} {c : Code} {b : Nat} (hx : p.tables.exec = Jvm.exec) (hb : c.code = code) (hr : meth.sig.returnType = ret) (hlocks : meth.locks = false) {pc : Nat} {H : Heap} {ls : Array Slot} (hdg : decode code pc = .ok (.ireturn, 1)) : W p l e room_1 s m #[Value.ref b] below meth c H [] 600000 7302250 (lw_Z below #[Value.ref b] s) (F0 m pc ls [.int 1]) := by
  intro T hT X
  obtain ⟨fs, hret, hrun, hended, hW, hframe⟩ := X.leave (v := some (.int 1)) (hlocks := hlocks) (fun h => by rw [hr] at h; cases h)
  have hmeth' : T.vm.method? m = some meth := X.method'
  refine ⟨T.setFrames fs, ?_, .returned (some (.int 1)), hrun, hended, rfl, ⟨_, rfl⟩, hW, hframe⟩
  jvm_step X.here [X.here.top, hx, hb, hdg, hmeth', hr, ret, narrow_b1]
  (try refine ⟨rfl, ?_⟩); (try refine ⟨rfl, ?_⟩)
  first | (intro acts; rw [hret _ acts rfl rfl rfl]) | rw [hret _ _ rfl rfl rfl]
  exact Steps.refl _
/-- what holds at the law's entry: the machine, the code, the tables' words (any of lw_tbl by 'hts w (by decide +kernel)'), the script of L ints xs at the cell b, what the Statement gives of the start (any of its parts by flat_of_before) -/
def lw_At (p : Program) (s : State) (m : MethodId) (meth : Method) (c : Code) (b L : Nat) (xs : Nat → Int32) : Prop :=
  p.tables.exec = Jvm.exec ∧ c.code = code ∧ meth.sig.returnType = ret ∧ c.maxLocals = 4 ∧ s.vm.findClass R_law = some m.cls ∧ (∀ w ∈ lw_tbl, w.before #[Value.ref b] s = true) ∧ va_X b L xs s s.heap ∧ b < s.heap.size ∧ meth.locks = false ∧ (Jvm.Cond.and given_1 narrow_1).before #[Value.ref b] s = true
/-- from the entry the law comes to its end -/
theorem whole_start {p : Program} {e : Env} {s : State} {m : MethodId} {below : List Frame} {meth : Method} {c : Code} (l : Launch) {b L : Nat} {xs : Nat → Int32} (hL : L ≤ 2048) (C0 : lw_At p s m meth c b L xs) : W p l e room_1 s m #[Value.ref b] below meth c s.heap [] 0 0 (lw_Z below #[Value.ref b] s) (entryFrame m ([Value.ref b] : List Value).toArray 4) := by
  obtain ⟨hx, hb, hr, hml, hown, hts, hX, hbl, hlocks, hgv⟩ := C0
  obtain ⟨g, hg, hK⟩ := zK_start hts hgv
  obtain ⟨x, hxe⟩ : ∃ x : ZC, x = (p, l, e, room_1, s, m, #[Value.ref b], below, meth, c, g, (fun q : Nat => s.heap.size ≤ q), s.heap, lw_Z below #[Value.ref b] s, 4) := ⟨_, rfl⟩
  have hC : zO x l g room_1 code 4 "QueryStepsLaw" := by rw [hxe]; exact ⟨rfl, rfl, rfl, rfl, ⟨hx, hb, hml, hown, fun w hw => hts w (zTB_in hw)⟩, hK, rfl, fun q hq => by rw [hg]; exact hq⟩
  have hI : zI x false := by rw [hxe]; exact ⟨fun q h => h, by rw [hg]; exact Nat.le_refl _, fun h => Bool.noConfusion h, va_AO.of (hts _ (List.mem_of_getElem? (i := 215) (by decide +kernel)))⟩
  have hXx : zX x b L xs := by rw [hxe]; exact ⟨hX, hbl, Nat.not_le.mpr hbl⟩
  have hend : ∀ (w : va_W) (lv : List (Nat × Value)), Z x (600000, 7302250) w 496 lv [] := by
    intro w lv
    rw [hxe]
    intro H locs ls hP hD hS hl
    refine lv_iconst (v := 1) hx hb d_La_law_496 (by decide) ?_
    refine va_forget (fun q hq => hS.2.2 q hq) ?_
    exact lw_ret hx hb hr hlocks d_La_law_497
  have hl := lv_entry ([.ref b]) (n := 4) (Nat.le_of_ble_eq_true rfl)
  rw [lg_entry_eq]
  have hZ : Z x (0, 0) [] 0 [(0, .ref b)] [] := by
    refine zn_new (u := (0, 0)) (u' := (1, 10)) (ci := 9) (fs := [.null, .null, .null, .null, .null, .null, .null, .null, .null, .null]) hC hI hi_QS ty_QS ok_QS mw_64 mw_65 mw_47 rfl (fun j hj => by rcases (show j = 0 ∨ j = 1 ∨ j = 2 ∨ j = 3 ∨ j = 4 ∨ j = 5 ∨ j = 6 ∨ j = 7 ∨ j = 8 ∨ j = 9 by omega) with rfl | rfl | rfl | rfl | rfl | rfl | rfl | rfl | rfl | rfl <;> rfl) ⟨Nat.le_of_ble_eq_true rfl, Nat.le_of_ble_eq_true rfl⟩ rfl d_La_law_0 (fun z0 => ?_)
    refine z_dup hC d_La_law_3 rfl ?_
    refine zn_call (u := (1, 10)) (u' := (91, 3735)) (st := [.ref z0]) (b := z0) (As := []) (w := []) hC hI (k_QS_init l g z0) (Or.inl mw_66) zi_QS_init ⟨Nat.le_of_ble_eq_true rfl, Nat.le_of_ble_eq_true rfl⟩ rfl (Nat.le_of_ble_eq_true rfl) d_La_law_4 rfl ⟨Nat.le_of_ble_eq_true rfl, Nat.le_of_ble_eq_true rfl⟩ rfl (fun w1 hw1 => ?_)
    obtain ⟨a1, a2, a3, a4, a5, a6, a7, a8, a9, a10, a11, a12, a13, a14, a15, a16, a17, a18, a19, a20, a21, a22, a23, a24, a25, a26, a27, a28, kq, tq, a39, a40, rfl⟩ := hw1
    refine Z.eq (w' := (((a40, .inl ((g.2.1 0), 60, .inl (nF z0N))) :: (a39, .inr (2, [.ref a40, .int (iI ((0 : Nat) : Int))])) :: (a28, .inl ((g.2.1 3), 10, .inr (.inr (.inr (.inr (fun z9 => some (kq z9))))))) :: (a27, .inl ((g.2.1 2), 40, .inl (bF z0B))) :: (a26, .inl ((g.2.1 0), 480, .inl (nF z0N))) :: (a25, .inl ((g.2.1 0), 480, .inl z0F)) :: (a24, .inl ((g.2.1 0), 60, .inl (nF z0N))) :: (a23, .inl ((g.2.1 1), 60, .inr (.inl z0L))) :: (a22, .inr (5, [.ref a23, .ref a24, .ref a25, .ref a26, .ref a27, .int (iI ((0 : Nat) : Int))])) :: (a21, .inr (1, [.ref a1, .ref a10, .ref a3, .ref a8])) :: (a20, .inr (0, [.ref a1, .ref a10, .ref a3, .ref a8])) :: (a19, .inl ((g.2.1 0), 40, .inl (q4 z0Q))) :: (a18, .inl ((g.2.1 0), 40, .inl (q3 z0Q))) :: (a17, .inl ((g.2.1 0), 40, .inl (q2 z0Q))) :: (a16, .inl ((g.2.1 0), 40, .inl (q1 z0Q))) :: (a15, .inr (7, [.ref a16, .ref a17, .ref a18, .ref a19, .int (iI ((0 : Nat) : Int))])) :: (a14, .inl ((g.2.1 0), 40, .inl (q4 z0Q))) :: (a13, .inl ((g.2.1 0), 40, .inl (q3 z0Q))) :: (a12, .inl ((g.2.1 0), 40, .inl (q2 z0Q))) :: (a11, .inl ((g.2.1 0), 40, .inl (q1 z0Q))) :: (a10, .inr (7, [.ref a11, .ref a12, .ref a13, .ref a14, .int (iI ((0 : Nat) : Int))])) :: (a9, .inl ((g.2.1 0), 200, .inl z0F)) :: (a8, .inr (8, [.ref a9, .int (iI ((0 : Nat) : Int))])) :: (a7, .inl ((g.2.1 0), 9, .inl (nF z0N))) :: (a6, .inl ((g.2.1 2), 8, .inl (bF z0B))) :: (a5, .inl ((g.2.1 0), 8, .inl (nF z0N))) :: (a4, .inl ((g.2.1 0), 64, .inl z0F)) :: (a3, .inr (3, [.ref a4, .ref a5, .ref a6, .ref a7, .int (iI ((0 : Nat) : Int))])) :: (a2, .inl ((g.2.1 0), 200, .inl z0F)) :: (a1, .inr (6, [.ref a2, .int (iI ((0 : Nat) : Int)), .int (iI ((0 : Nat) : Int))])) :: (z0, .inr (9, [.ref a1, .ref a3, .ref a8, .ref a10, .ref a15, .ref a20, .ref a21, .ref a22, .ref a28, .ref a39])) :: []) ++ qW g kq tq z0V)) (List.append_nil _) rfl rfl rfl ?_
    refine z_astore_n (lv' := [(1, .ref z0), (0, .ref b)]) hC d_La_law_7 rfl (by decide) rfl ?_
    refine zn_new (u := (91, 3735)) (u' := (92, 3764)) (ci := 10) (fs := [.int (iI ((0 : Nat) : Int)), .null, .int (iI ((0 : Nat) : Int)), .int (iI ((0 : Nat) : Int)), .int (iI ((0 : Nat) : Int)), .null, .null, .null, .int (iI ((0 : Nat) : Int)), .null, .int (iI ((0 : Nat) : Int)), .null, .null, .int (iI ((0 : Nat) : Int)), .null, .int (iI ((0 : Nat) : Int)), .null, .null, .null, .null, .int (iI ((0 : Nat) : Int)), .null, .null, .null, .null, .null, .int (iI ((0 : Nat) : Int)), .null, .null]) hC hI hi_Mo ty_Mo ok_Mo mw_729 mw_730 mw_58 rfl (fun j hj => by rcases (show j = 0 ∨ j = 1 ∨ j = 2 ∨ j = 3 ∨ j = 4 ∨ j = 5 ∨ j = 6 ∨ j = 7 ∨ j = 8 ∨ j = 9 ∨ j = 10 ∨ j = 11 ∨ j = 12 ∨ j = 13 ∨ j = 14 ∨ j = 15 ∨ j = 16 ∨ j = 17 ∨ j = 18 ∨ j = 19 ∨ j = 20 ∨ j = 21 ∨ j = 22 ∨ j = 23 ∨ j = 24 ∨ j = 25 ∨ j = 26 ∨ j = 27 ∨ j = 28 by omega) with rfl | rfl | rfl | rfl | rfl | rfl | rfl | rfl | rfl | rfl | rfl | rfl | rfl | rfl | rfl | rfl | rfl | rfl | rfl | rfl | rfl | rfl | rfl | rfl | rfl | rfl | rfl | rfl | rfl <;> rfl) ⟨Nat.le_of_ble_eq_true rfl, Nat.le_of_ble_eq_true rfl⟩ rfl d_La_law_8 (fun m0 => ?_)
    refine z_dup hC d_La_law_11 rfl ?_
    refine zn_call (u := (92, 3764)) (u' := (111, 7532)) (st := [.ref m0]) (b := m0) (As := []) (w := (((a40, .inl ((g.2.1 0), 60, .inl (nF z0N))) :: (a39, .inr (2, [.ref a40, .int (iI ((0 : Nat) : Int))])) :: (a28, .inl ((g.2.1 3), 10, .inr (.inr (.inr (.inr (fun z9 => some (kq z9))))))) :: (a27, .inl ((g.2.1 2), 40, .inl (bF z0B))) :: (a26, .inl ((g.2.1 0), 480, .inl (nF z0N))) :: (a25, .inl ((g.2.1 0), 480, .inl z0F)) :: (a24, .inl ((g.2.1 0), 60, .inl (nF z0N))) :: (a23, .inl ((g.2.1 1), 60, .inr (.inl z0L))) :: (a22, .inr (5, [.ref a23, .ref a24, .ref a25, .ref a26, .ref a27, .int (iI ((0 : Nat) : Int))])) :: (a21, .inr (1, [.ref a1, .ref a10, .ref a3, .ref a8])) :: (a20, .inr (0, [.ref a1, .ref a10, .ref a3, .ref a8])) :: (a19, .inl ((g.2.1 0), 40, .inl (q4 z0Q))) :: (a18, .inl ((g.2.1 0), 40, .inl (q3 z0Q))) :: (a17, .inl ((g.2.1 0), 40, .inl (q2 z0Q))) :: (a16, .inl ((g.2.1 0), 40, .inl (q1 z0Q))) :: (a15, .inr (7, [.ref a16, .ref a17, .ref a18, .ref a19, .int (iI ((0 : Nat) : Int))])) :: (a14, .inl ((g.2.1 0), 40, .inl (q4 z0Q))) :: (a13, .inl ((g.2.1 0), 40, .inl (q3 z0Q))) :: (a12, .inl ((g.2.1 0), 40, .inl (q2 z0Q))) :: (a11, .inl ((g.2.1 0), 40, .inl (q1 z0Q))) :: (a10, .inr (7, [.ref a11, .ref a12, .ref a13, .ref a14, .int (iI ((0 : Nat) : Int))])) :: (a9, .inl ((g.2.1 0), 200, .inl z0F)) :: (a8, .inr (8, [.ref a9, .int (iI ((0 : Nat) : Int))])) :: (a7, .inl ((g.2.1 0), 9, .inl (nF z0N))) :: (a6, .inl ((g.2.1 2), 8, .inl (bF z0B))) :: (a5, .inl ((g.2.1 0), 8, .inl (nF z0N))) :: (a4, .inl ((g.2.1 0), 64, .inl z0F)) :: (a3, .inr (3, [.ref a4, .ref a5, .ref a6, .ref a7, .int (iI ((0 : Nat) : Int))])) :: (a2, .inl ((g.2.1 0), 200, .inl z0F)) :: (a1, .inr (6, [.ref a2, .int (iI ((0 : Nat) : Int)), .int (iI ((0 : Nat) : Int))])) :: (z0, .inr (9, [.ref a1, .ref a3, .ref a8, .ref a10, .ref a15, .ref a20, .ref a21, .ref a22, .ref a28, .ref a39])) :: []) ++ qW g kq tq z0V)) hC hI (k_Mo_init l g m0) (Or.inl mw_731) zi_Mo_init ⟨Nat.le_of_ble_eq_true rfl, Nat.le_of_ble_eq_true rfl⟩ rfl (Nat.le_of_ble_eq_true rfl) d_La_law_12 rfl ⟨Nat.le_of_ble_eq_true rfl, Nat.le_of_ble_eq_true rfl⟩ rfl (fun w1 hw1 => ?_)
    obtain ⟨n1, n2, n3, n4, n5, n6, n7, n8, n9, n10, n11, n12, n13, n14, n15, n16, n17, n18, n19, rfl⟩ := hw1
    refine z_astore_n (lv' := [(2, .ref m0), (1, .ref z0), (0, .ref b)]) hC d_La_law_15 rfl (by decide) rfl ?_
    refine z_iconstN hC 0 d_La_law_16 rfl ?_
    refine z_istore_n (lv' := [(3, .int (iI ((0 : Nat) : Int))), (2, .ref m0), (1, .ref z0), (0, .ref b)]) hC d_La_law_17 rfl (by decide) rfl ?_
    refine Z.widen (u' := (600000, 7302250)) (Nat.le_of_ble_eq_true rfl) (Nat.le_of_ble_eq_true rfl) ?_
    refine Zloc (lv' := [(3, .int (iI ((0 : Nat) : Int))), (0, .ref b), (1, .ref z0), (2, .ref m0)]) [0, 3, 2, 1] rfl ?_
    refine Z.eq (w' := (((n19, .inl ((g.2.1 0), 9, .inl (nF z0N))) :: (n18, .inl ((g.2.1 0), 9, .inl (nF z0N))) :: (n17, .inl ((g.2.1 0), 60, .inl (nF z0N))) :: (n16, .inl ((g.2.1 2), 41, .inl (bF z0B))) :: (n15, .inl ((g.2.1 0), 61, .inl (nF z0N))) :: (n14, .inl ((g.2.1 0), 976, .inl (pe z0E))) :: (n13, .inl ((g.2.1 1), 61, .inr (.inl z0L))) :: (n12, .inl ((g.2.1 1), 10, .inr (.inl z0L))) :: (n11, .inl ((g.2.1 2), 10, .inl (bF z0B))) :: (n10, .inl ((g.2.1 0), 11, .inl (nF z0N))) :: (n9, .inl ((g.2.1 0), 1760, .inl (pk z0Q))) :: (n8, .inl ((g.2.1 0), 80, .inl (nF z0N))) :: (n7, .inl ((g.2.1 0), 40, .inl (nF z0N))) :: (n6, .inl ((g.2.1 0), 160, .inl (pk z0Q))) :: (n5, .inl ((g.2.1 4), 200, .inl (yF z0F))) :: (n4, .inl ((g.2.1 2), 8, .inl (bF z0B))) :: (n3, .inl ((g.2.1 0), 8, .inl (nF z0N))) :: (n2, .inl ((g.2.1 4), 64, .inl (yF z0F))) :: (n1, .inl ((g.2.1 4), 200, .inl (yF z0F))) :: (m0, .inr (10, [.int (iI ((0 : Nat) : Int)), .ref n1, .int (iI ((0 : Nat) : Int)), .int (iI ((0 : Nat) : Int)), .int (iI ((0 : Nat) : Int)), .ref n2, .ref n3, .ref n4, .int (iI ((0 : Nat) : Int)), .ref n5, .int (iI ((0 : Nat) : Int)), .ref n6, .ref n7, .int (iI ((0 : Nat) : Int)), .ref n8, .int (iI ((0 : Nat) : Int)), .ref n9, .ref n10, .ref n11, .ref n12, .int (iI ((0 : Nat) : Int)), .ref n13, .ref n14, .ref n15, .ref n16, .ref n17, .int (iI ((0 : Nat) : Int)), .ref n18, .ref n19])) :: (a40, .inl ((g.2.1 0), 60, .inl (nF z0N))) :: (a39, .inr (2, [.ref a40, .int (iI ((0 : Nat) : Int))])) :: (a28, .inl ((g.2.1 3), 10, .inr (.inr (.inr (.inr (fun z9 => some (kq z9))))))) :: (a27, .inl ((g.2.1 2), 40, .inl (bF z0B))) :: (a26, .inl ((g.2.1 0), 480, .inl (nF z0N))) :: (a25, .inl ((g.2.1 0), 480, .inl z0F)) :: (a24, .inl ((g.2.1 0), 60, .inl (nF z0N))) :: (a23, .inl ((g.2.1 1), 60, .inr (.inl z0L))) :: (a22, .inr (5, [.ref a23, .ref a24, .ref a25, .ref a26, .ref a27, .int (iI ((0 : Nat) : Int))])) :: (a21, .inr (1, [.ref a1, .ref a10, .ref a3, .ref a8])) :: (a20, .inr (0, [.ref a1, .ref a10, .ref a3, .ref a8])) :: (a19, .inl ((g.2.1 0), 40, .inl (q4 z0Q))) :: (a18, .inl ((g.2.1 0), 40, .inl (q3 z0Q))) :: (a17, .inl ((g.2.1 0), 40, .inl (q2 z0Q))) :: (a16, .inl ((g.2.1 0), 40, .inl (q1 z0Q))) :: (a15, .inr (7, [.ref a16, .ref a17, .ref a18, .ref a19, .int (iI ((0 : Nat) : Int))])) :: (a14, .inl ((g.2.1 0), 40, .inl (q4 z0Q))) :: (a13, .inl ((g.2.1 0), 40, .inl (q3 z0Q))) :: (a12, .inl ((g.2.1 0), 40, .inl (q2 z0Q))) :: (a11, .inl ((g.2.1 0), 40, .inl (q1 z0Q))) :: (a10, .inr (7, [.ref a11, .ref a12, .ref a13, .ref a14, .int (iI ((0 : Nat) : Int))])) :: (a9, .inl ((g.2.1 0), 200, .inl z0F)) :: (a8, .inr (8, [.ref a9, .int (iI ((0 : Nat) : Int))])) :: (a7, .inl ((g.2.1 0), 9, .inl (nF z0N))) :: (a6, .inl ((g.2.1 2), 8, .inl (bF z0B))) :: (a5, .inl ((g.2.1 0), 8, .inl (nF z0N))) :: (a4, .inl ((g.2.1 0), 64, .inl z0F)) :: (a3, .inr (3, [.ref a4, .ref a5, .ref a6, .ref a7, .int (iI ((0 : Nat) : Int))])) :: (a2, .inl ((g.2.1 0), 200, .inl z0F)) :: (a1, .inr (6, [.ref a2, .int (iI ((0 : Nat) : Int)), .int (iI ((0 : Nat) : Int))])) :: (z0, .inr (9, [.ref a1, .ref a3, .ref a8, .ref a10, .ref a15, .ref a20, .ref a21, .ref a22, .ref a28, .ref a39])) :: []) ++ qW g kq tq z0V)) (by simp only [List.cons_append, List.nil_append]) rfl rfl rfl ?_
    refine Z.perm (w' := ((cwC g z0 a1 a2 a3 a4 a5 a6 a7 a8 a9 a10 a11 a12 a13 a14 a15 a16 a17 a18 a19 a20 a21 a22 a23 a24 a25 a26 a27 a28 a39 a40 kq 0 0 z0F 0 z0F z0N z0B z0N 0 z0F 0 z0Q 0 z0Q 0 z0L z0N z0F z0N z0B 0 z0N ++ cwM g m0 n1 n2 n3 n4 n5 n6 n7 n8 n9 n10 n11 n12 n13 n14 n15 n16 n17 n18 n19 0 0 0 0 0 0 0 0 0 z0F z0F z0N z0B z0F z0Q z0N z0N z0Q z0N z0B z0L z0L z0E z0N z0B z0N z0N z0N) ++ qW g kq tq z0V)) (List.Perm.append_right _ (perm_sel _ [50, 49, 48, 47, 46, 45, 44, 43, 42, 41, 40, 39, 38, 37, 36, 35, 34, 33, 32, 31, 30, 29, 28, 27, 26, 25, 24, 23, 21, 20, 22] [19, 18, 17, 16, 15, 14, 13, 12, 11, 10, 9, 8, 7, 6, 5, 4, 3, 2, 1, 0] (show ([50, 49, 48, 47, 46, 45, 44, 43, 42, 41, 40, 39, 38, 37, 36, 35, 34, 33, 32, 31, 30, 29, 28, 27, 26, 25, 24, 23, 21, 20, 22] ++ [19, 18, 17, 16, 15, 14, 13, 12, 11, 10, 9, 8, 7, 6, 5, 4, 3, 2, 1, 0]).Perm (List.range 51) from List.isPerm_iff.mp (by decide)) (by simp only [cwC, List.filterMap_cons, List.filterMap_nil, List.getElem?_cons_succ, List.getElem?_cons_zero]) (by simp only [cwM, List.filterMap_cons, List.filterMap_nil, List.getElem?_cons_succ, List.getElem?_cons_zero]))) ?_
    exact law_loop l g hL hC hXx hend z0 a1 a2 a3 a4 a5 a6 a7 a8 a9 a10 a11 a12 a13 a14 a15 a16 a17 a18 a19 a20 a21 a22 a23 a24 a25 a26 a27 a28 a39 a40 m0 n1 n2 n3 n4 n5 n6 n7 n8 n9 n10 n11 n12 n13 n14 n15 n16 n17 n18 n19 kq tq 0 0 0 z0F 0 z0F z0N z0B z0N 0 z0F 0 z0Q 0 z0Q 0 z0L z0N z0F z0N z0B 0 z0N z0V 0 0 0 0 0 0 0 0 0 z0F z0F z0N z0B z0F z0Q z0N z0N z0Q z0N z0B z0L z0L z0E z0N z0B z0N z0N z0N (by omega) g1_i g2_i g3_i g4_i g5_i g6_i g7_i g8_i
  rw [hxe] at hZ
  exact hZ s.heap [] _ (fun k q h => by simp at h) ⟨fun i j p q h => by simp at h, fun k q h => by simp at h⟩ va_S.rf hl
set_option maxHeartbeats 4000000 in
theorem lw_walk (l : Launch) (b : Addr) (xs : List Int32) : MetFree l x (headSpec (Jvm.Cond.code x code maxLocals ret :: tables_1) room_1) (lw_P b xs) (fun _ _ _ _ _ => True) lw_Q := by
  refine MetFree.of_bodyS (code := code) (maxLocals := maxLocals) (ret := ret) (by decide) ?_ ?_
  · intro args s m h hn
    obtain ⟨meth, c, h1, h2, h3, h4, h5, h6, -, -⟩ := Cond.code_spec hn (atoms_spec (ws := Jvm.Cond.code x code maxLocals ret :: tables_1) h _ List.mem_cons_self)
    exact ⟨meth, c, h1, h2, h3, h4, h5, h6⟩
  · intro p e s m args below meth c s₁ B hml0 hP _
    obtain ⟨rfl, hx, hbd, hgv⟩ := hP
    obtain ⟨scr, harrAt, hlist, hof, hsmall⟩ := hx
    obtain ⟨hcb, hkn, -, -⟩ := State.arrayAt?_spec harrAt
    have hown : s.vm.findClass R_law = some m.cls := findClass_of_methodNamed B.named
    have hts0 : ∀ c ∈ (Jvm.Cond.code x code maxLocals ret :: tables_1), c.before #[Value.ref b] s = true := atoms_spec (ws := Jvm.Cond.code x code maxLocals ret :: tables_1) B.pre
    have hts : ∀ w ∈ lw_tbl, w.before #[Value.ref b] s = true := k2_hts_sels lw_privs (fun w hw => hts0 w (List.mem_cons_of_mem _ hw)) lw_privs_ok
    have hml : c.maxLocals = 4 := B.maxLocals_eq (hts0 _ List.mem_cons_self)
    have X₀ : Stand p l e room_1 s m #[Value.ref b] below meth c s₁ [] 0 0 := Stand.of_body B
    have hh0 : s₁.heap = s.heap := by rw [B.state]; rfl
    have hsz : scr.slots.size = xs.length := by rw [← Array.length_toList, hlist, List.length_map]
    have hval : ∀ j : Nat, j < xs.length → scr.slots[j]? = some (.int (xs.getD j 0)) := fun j hj => by
      rw [← Array.getElem?_toList, hlist]
      simp [hj]
    have hbl : b < s.heap.size := (Array.getElem?_eq_some_iff.mp hcb).1
    have hX : va_X b xs.length (fun j => xs.getD j 0) s s.heap := ⟨scr, hcb, hof, hkn, hsz, hval⟩
    have K : W p l e room_1 s m #[Value.ref b] below meth c s₁.heap [] 0 0 (lw_Z below #[Value.ref b] s) (entryFrame m ([Value.ref b] : List Value).toArray 4) := by
      rw [hh0]
      exact whole_start l hbd ⟨B.exec, B.bytes, B.returns, hml, hown, hts, hX, hbl, B.notSynchronized, hgv⟩
    obtain ⟨t, a1, o, b1, b2, b3⟩ := K s₁ rfl X₀
    exact ⟨t, o, a1, b1, b2, b3⟩
theorem lw_pre_spec {args : Array Value} {s : State} (h : (Jvm.Cond.and given_1 narrow_1).before args s = true) (hr : rest_1_c.before args s = true) : ∃ (b : Addr) (xs : List Int32), lw_P b xs args s := by
  have hs := flat_of_before _ h
  have hq := flat_of_before _ hr
  have hc : (Cond.count 1).before args s = true := hs _ (by decide +kernel)
  have harr : (Cond.arrayOf (.arg 0) .int).before args s = true := hs _ (by decide +kernel)
  have hle : (Cond.le (.length (.arg 0)) (.int 2048)).before args s = true := hs _ (by decide +kernel)
  have hlen : (Cond.isInt (.length (.arg 0))).before args s = true := hq _ (by decide +kernel)
  have hall : (Cond.all (.arg 0) (.isInt (.elem (.arg 0) (.index 0)))).before args s = true := hq _ (by decide +kernel)
  obtain ⟨b, xs, hb, hx⟩ := State.ints_of_pre rfl harr hlen hall
  have hsm : xs.length < 2 ^ 31 := hx.choose_spec.2.2.2
  have hev : (Term.length (.arg 0)).eval args s none [] s = some (.int xs.length.toInt32) := hx.length_eval hb
  have hv := Cond.le_ints hev (show (Term.int 2048).eval args s none [] s = some (.int 2048) from rfl)
  have hd : xs.length.toInt32 ≤ 2048 := by
    simpa [Cond.before, Cond.holds, hv] using hle
  have hN : xs.length ≤ 2048 := (Int32.ofNat_le_ofNat hsm (by decide)).mp (show Int32.ofNat xs.length ≤ Int32.ofNat 2048 from hd)
  exact ⟨b, xs, Cond.one_arg hc (show args[0]? = some (.ref b) from hb), hx, hN, h⟩
theorem lw_comes (l : Launch) : Comes l x (Jvm.Cond.code x code maxLocals ret :: tables_1) room_1 (fun tb e args s => Calls_1 tb e args s ∧ rest_1 tb e args s ∧ Pre_1 tb e args s)
    (fun _ _ args s o t => lw_Q args s o t) := by
  intro p e ha hc hk s m args below hf hfit hheap happ hpre
  obtain ⟨b, xs, hP⟩ := lw_pre_spec hpre.2.2 hpre.2.1
  obtain ⟨k, o, h1, h2, h3, hQ⟩ := lw_walk l b xs p e ha hc hk s m args below hf ((Spec.applies_iff_loose hf).mp happ).1 hP trivial
  exact ⟨k, o, h1, h2, h3, hQ⟩
theorem lw_frame {s t : State} {o : Outcome} {args : Array Value} (h : Framed s o t [] 600000 7302250) :
    Framed s o t (fieldLocs frame_1_writes args s ++ arrayLocs frame_1_arrays args s ++ staticLocs frame_1_statics s) 600000 7302250 := h
theorem lw_limb (L : Cond) (hL : ∀ (args : Array Value) (s t : State), L.after args s (.returned (some (.int 1))) t = true) :
    ArmFor flags0 classFile x code maxLocals ret World_1 tables_1 room_1 Calls_1 rest_1 Pre_1
      (fun tb e a s o t => postC L tb e a s o t ∧ Framed s o t (fieldLocs frame_1_writes a s ++ arrayLocs frame_1_arrays a s ++ staticLocs frame_1_statics s) 600000 7302250) := by
  intro l _ _ _ p e ha hc hk s m args below hf hfit hheap happ hpre
  obtain ⟨k, o, h1, h2, h3, rfl, hF⟩ := lw_comes l p e ha hc hk s m args below hf hfit hheap happ hpre
  exact ⟨k, _, h1, h2, h3, hL args s _, lw_frame hF⟩
theorem i_vc : Claimed_1_1 ∧ Claimed_1_2 := ⟨lw_limb limb_1_1 (fun args s t => by simp [limb_1_1, Cond.after, Cond.holds, Cond.value]), lw_limb limb_1_2 (fun args s t => Cond.after_iff.mpr (by
  first | (rw [show limb_1_2 = Cond.eq .result (.int 1) from rfl, Cond.eq_ints (x := 1) (y := 1) rfl rfl]; simp; done) | (simp [limb_1_2, Cond.value, Term.eval]; done)))⟩
