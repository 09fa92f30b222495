/-! ===== the kinds of arrays; nest mates; texts ===== -/
def zty (k : Nat → ClassId) : List (ClassId × FieldType) := [(k 0, .int), (k 1, .long), (k 2, .boolean), (k 3, .object "QuerySteps$Question"), (k 4, .byte)]
def zNF : List (String × Nat × String × String × String × String) := [("QuerySteps$Hits", 35, "QuerySteps$Question", "tree", "LQuerySteps$Tree;", "QuerySteps"), ("QuerySteps", 173, "QuerySteps$Question", "tree", "LQuerySteps$Tree;", "QuerySteps"), ("QuerySteps", 181, "QuerySteps$Question", "isKept", "Z", "QuerySteps")]
def zNM : List (String × Nat × MethodName × String) := [("QuerySteps", 9, ⟨"QuerySteps$Source", "<init>", "()V"⟩, "QuerySteps"), ("QuerySteps", 18, ⟨"QuerySteps$Indexes", "<init>", "()V"⟩, "QuerySteps"), ("QuerySteps", 25, ⟨"QuerySteps$Unknown", "<init>", "()V"⟩, "QuerySteps"), ("QuerySteps", 32, ⟨"QuerySteps$Tree", "<init>", "()V"⟩, "QuerySteps"), ("QuerySteps", 57, ⟨"QuerySteps$Records", "<init>", "()V"⟩, "QuerySteps"), ("QuerySteps", 68, ⟨"QuerySteps$Question", "<init>", "()V"⟩, "QuerySteps"), ("QuerySteps$Question", 9, ⟨"QuerySteps$Tree", "<init>", "()V"⟩, "QuerySteps"), ("QuerySteps", 71, ⟨"QuerySteps$Hits", "<init>", "()V"⟩, "QuerySteps")]
def zND : List MethodName := [⟨"QuerySteps$Reader", "takesTree", "(I)Z"⟩, ⟨"QuerySteps$Reader", "takeName", "()I"⟩, ⟨"QuerySteps$Reader", "takesGreatest", "(II)Z"⟩]
def zSn : Nat := 3
def zSl : List Nat := [3, 2, 3]
def zSb : List (List Int32) := [[97, 110, 100], [111, 114], [110, 111, 116]]
def zSt : List (String × Nat × String × Nat) := [("QuerySteps$Source", 33, "and", 0), ("QuerySteps$Source", 39, "or", 1), ("QuerySteps$Source", 41, "not", 2)]
/-- nest mates' words and abstract methods, at a state -/
def zNe (U : State) : Prop := (∀ f ∈ zNF, va_Nw (.fieldLinkNest f.1 f.2.1 f.2.2.1 f.2.2.2.1 f.2.2.2.2.1 f.2.2.2.2.2) U) ∧ (∀ q ∈ zNM, va_Nw (.methodLinkNest q.1 q.2.1 q.2.2.1 q.2.2.2) U) ∧ (∀ y ∈ zND, va_Nw (.declares y) U)
theorem zNe.same {u U : State} (h : u.vm = U.vm) (z : zNe u) : zNe U := ⟨fun f hf => va_Nw.same rfl h (z.1 f hf), fun q hq => va_Nw.same rfl h (z.2.1 q hq), fun y hy => va_Nw.same rfl h (z.2.2 y hy)⟩
theorem zNe.warm {s U : State} (hW : s.WarmedH U.vm) (z : zNe s) : zNe U := ⟨fun f hf => va_Nw.warmF hW (z.1 f hf), fun q hq => va_Nw.warmM hW (z.2.1 q hq), fun y hy => va_Nw.warmD hW (z.2.2 y hy)⟩
/-- texts: where they lie, at a state -/
def zTx (g : va_G × (Nat → ClassId) × Nat × (Nat → Nat) × (Nat → Nat)) (U : State) : Prop := vk_S zSn zSl zSb g.2.2.2.1 g.2.2.2.2 (fun q => g.2.2.1 ≤ q) U U.heap ∧ (∀ t ∈ zSt, vk_R t.1 t.2.1 t.2.2.1 (g.2.2.2.1 t.2.2.2) U) ∧ va_Z "java/lang/String" "COMPACT_STRINGS" "Z" (.int 1) (fun q => g.2.2.1 ≤ q) U U.heap ∧ va_Zq "jdk/internal/util/Preconditions" "SIOOBE_FORMATTER" "Ljava/util/function/BiFunction;" (fun q => g.2.2.1 ≤ q) U U.heap
theorem zTx.same {g : va_G × (Nat → ClassId) × Nat × (Nat → Nat) × (Nat → Nat)} {U V : State} (hh : V.heap = U.heap) (hv : V.vm = U.vm) (z : zTx g U) : zTx g V := ⟨by rw [hh]; exact vk_S.moved (by rw [hv]; exact Vm.Alike.refl U.vm) z.1, fun t ht => vk_R.same hv (z.2.1 t ht), by rw [hh]; exact va_Z.moved (by rw [hv]; exact Vm.Alike.refl U.vm) z.2.2.1, by rw [hh]; exact va_Zq.moved (by rw [hv]; exact Vm.Alike.refl U.vm) z.2.2.2⟩
theorem zTx.warm {g : va_G × (Nat → ClassId) × Nat × (Nat → Nat) × (Nat → Nat)} {s U : State} (hW : s.WarmedH U.vm) (hq : ∀ q : Nat, q < s.heap.size → ¬ g.2.2.1 ≤ q → U.heap[q]? = s.heap[q]?) (z : zTx g s) : zTx g U := ⟨vk_S.moved hW.alike (vk_S.kept z.1 hq), fun t ht => vk_R.warm hW (z.2.1 t ht), va_Z.moved hW.alike (va_Z.kept z.2.2.1 hq), va_Zq.moved hW.alike (va_Zq.kept z.2.2.2 hq)⟩

/-! ===== ints out of whole numbers ===== -/
def iI (z : Int) : Int32 := Int32.ofInt z
theorem iI_t {a : Int} (h : -2147483648 ≤ a ∧ a < 2147483648) : (iI a).toInt = a := Int32.toInt_ofInt_of_le (by omega) (by omega)
theorem iI_of (x : Int32) : iI x.toInt = x := Int32.ofInt_toInt x
theorem iI_rng (x : Int32) : -2147483648 ≤ x.toInt ∧ x.toInt < 2147483648 := ⟨Int32.le_toInt x, Int32.toInt_lt x⟩
theorem iI_add (a b : Int) : iI a + iI b = iI (a + b) := (Int32.ofInt_add a b).symm
theorem iI_sub (a b : Int) : iI a - iI b = iI (a - b) := (Int32.ofInt_sub a b).symm
theorem iI_mul (a b : Int) : iI a * iI b = iI (a * b) := (Int32.ofInt_mul a b).symm
theorem iI_eq {a b : Int} (ha : -2147483648 ≤ a ∧ a < 2147483648) (hb : -2147483648 ≤ b ∧ b < 2147483648) : iI a = iI b ↔ a = b := by
  rw [← Int32.toInt_inj, iI_t ha, iI_t hb]
theorem iI_in {a : Int} {n : Nat} (h0 : 0 ≤ a) (h : a < n) (hn : n < 2147483648) : vp_in (iI a) n := vp_in_iff.mpr (by
  rw [iI_t (by omega)]
  exact ⟨h0, h⟩)
theorem iI_cl {a : Int} {k : Nat} (h : a = k) (hk : k < 2147483648) : (iI a).toNatClampNeg = k := by
  rw [← Int32.toNat_toInt, iI_t (by omega), h]
  exact Int.toNat_natCast k
def bI (b : Bool) : Int := if b then 1 else 0
theorem bI_rng (b : Bool) : 0 ≤ bI b ∧ bI b ≤ 1 := by cases b <;> decide
theorem bI_0 {b : Bool} : bI b = 0 ↔ b = false := by cases b <;> decide
theorem bI_nar (b : Bool) : narrow .boolean (.int (iI (bI b))) = .int (iI (bI b)) := by cases b <;> decide
theorem bI_fit (b : Bool) : fits .boolean (.int (iI (bI b))) = true := by cases b <;> decide
theorem bI_vnar (b : Bool) : vp_nar .boolean (iI (bI b)) = iI (bI b) := by cases b <;> decide
def nF (h : Nat → Nat) : Nat → Int32 := fun k => iI ((h k : Nat) : Int)
def bF (h : Nat → Bool) : Nat → Int32 := fun k => iI (bI (h k))
def up {α : Type} (f : Nat → α) (k : Nat) (v : α) : Nat → α := fun j => if j = k then v else f j
theorem upd_nF (h : Nat → Nat) (k v : Nat) : upd (nF h) k (iI ((v : Nat) : Int)) = nF (up h k v) := by
  funext j
  unfold upd nF up
  by_cases e : j = k <;> simp [e]
theorem upd_bF (h : Nat → Bool) (k : Nat) (v : Bool) : upd (bF h) k (iI (bI v)) = bF (up h k v) := by
  funext j
  unfold upd bF up
  by_cases e : j = k <;> simp [e]
/-! ===== the context: x hides what never changes within a method ===== -/
abbrev ZG : Type := va_G × (Nat → ClassId) × Nat × (Nat → Nat) × (Nat → Nat)
def zK (g : ZG) (U : State) : Prop := va_K g.1 vwCl (zty g.2.1) U ∧ zNe U ∧ zTx g U
theorem zK.blind {g : ZG} {U V : State} (hh : V.heap = U.heap) (hv : V.vm = U.vm) (h : zK g U) : zK g V :=
  ⟨va_K.moved (by rw [hv]; exact Vm.Alike.refl U.vm) h.1, zNe.same hv.symm h.2.1, zTx.same hh hv h.2.2⟩
theorem zK.warm {g : ZG} {s U : State} (hW : s.WarmedH U.vm) (hq : ∀ q : Nat, q < s.heap.size → ¬ g.2.2.1 ≤ q → U.heap[q]? = s.heap[q]?) (h : zK g s) : zK g U :=
  ⟨va_K.moved hW.alike h.1, zNe.warm hW h.2.1, zTx.warm hW hq h.2.2⟩
abbrev ZC : Type := Program × Launch × Env × Room × State × MethodId × Array Value × List Frame × Method × Code × ZG × (Nat → Prop) × Heap × (State → Prop) × Nat
/-- the machine at pc with the world w, the locals lv, the stack st comes to its end -/
def Z (x : ZC) (u : Nat × Nat) (w : va_W) (pc : Nat) (lv : List (Nat × Value)) (st : List Value) : Prop := match x with
  | (p, l, e, R, s, m, args, below, meth, c, g, A, H0, Q, nL) => ∀ (H : Heap) (locs : List Loc) (ls : Array Slot), va_P g.1 vwCl w H → va_D A w → va_S A H0 H locs → lv_has ls nL lv → W p l e R s m args below meth c H locs u.1 u.2 Q (F0 m pc ls st)
/-- what is known of x -/
def zO (x : ZC) (l : Launch) (g : ZG) (R : Room) (cc : ByteArray) (nL : Nat) (own : String) : Prop := match x with
  | (p, l', _, R', s, m, args, _, _, c, g', A, H0, _, nL') => l' = l ∧ g' = g ∧ R' = R ∧ nL' = nL ∧ CallFix p m c cc nL s args zTB own ∧ zK g s ∧ H0 = s.heap ∧ ∀ q, A q → g.2.2.1 ≤ q
/-- a contract: from the world w the answer is r, and the world is w' -/
def Ct (l : Launch) (g : ZG) (y : MethodName) (cc : ByteArray) (maxL : Nat) (ret : Option FieldType) (rm : Room) (av : List Value) (w : va_W) (r : Option Value) (w' : va_W) : Prop :=
  Met l y (Cond.code y cc maxL ret :: zTB) rm (va_Pc av (fun U => zK g U ∧ va_P g.1 vwCl w U.heap ∧ va_D (fun q => g.2.2.1 ≤ q) w)) (fun _ st o t => o = .returned r ∧ va_P g.1 vwCl w' t.heap ∧ va_F (fun q => q ∈ w.map Prod.fst) st t) 0 0 (fun q => q ∈ w.map Prod.fst)
theorem zD_self {B : Nat → Prop} {w : va_W} (h : va_D B w) : va_D (fun q => q ∈ w.map Prod.fst) w := ⟨h.1, fun k q hk => List.mem_map.mpr ⟨q, List.mem_of_getElem? hk, rfl⟩⟩
theorem zD_in {B : Nat → Prop} {w : va_W} (h : va_D B w) {q : Nat} (hq : q ∈ w.map Prod.fst) : B q := by
  obtain ⟨e, he, rfl⟩ := List.mem_map.mp hq
  obtain ⟨k, hk⟩ := List.getElem?_of_mem he
  exact h.2 k e hk

section ZE
variable {l : Launch} {g : ZG} {y : MethodName} {rm : Room} {av : List Value} {w : va_W} {w' : va_W} {cc : ByteArray} {maxL : Nat} {lv : List (Nat × Value)}

/-- a contract out of a walk from the method's entry (answer: i) -/
theorem ct_i {v : Int32} (hy : plainName y.cls = true) (hlv : lv_args 0 av = lv) (hle : (lg_sl av).length ≤ maxL) (hww : w'.map Prod.fst = w.map Prod.fst)
    (body : ∀ x : ZC, zO x l g rm cc maxL y.cls → (∀ (pc : Nat) (lv : List (Nat × Value)), decode cc pc = .ok (.ireturn, 1) → Z x (0, 0) w' pc lv [.int v]) → Z x (0, 0) w 0 lv []) : Ct l g y cc maxL (some .int) rm av w (some (.int v)) w' := by
  refine Met.ofW (cc := cc) (maxL := maxL) (ret := (some .int)) hy rfl ?_
  intro p e s m args below meth c s₁ B hml hv
  obtain ⟨rfl, hK, hP, hD0⟩ := hv
  have hx := B.exec
  have hb := B.bytes
  have hr := B.returns
  have hts : ∀ w ∈ zTB, w.before av.toArray s = true := fun w hw => atoms_spec (ws := Cond.code y cc maxL (some .int) :: zTB) B.pre w (List.mem_cons_of_mem _ hw)
  have hown : s.vm.findClass y.cls = some m.cls := findClass_of_methodNamed B.named
  have hlocks := B.notSynchronized
  have hl := lv_entry av (n := maxL) hle
  rw [lg_entry_eq]
  rw [hlv] at hl
  refine body (p, l, e, rm, s, m, av.toArray, below, meth, c, g, (fun q => q ∈ w.map Prod.fst), s.heap, MQ below _ av.toArray s 0 0 _, maxL) ⟨rfl, rfl, rfl, rfl, ⟨hx, hb, hml, hown, hts⟩, hK, rfl, fun q hq => zD_in hD0 hq⟩ ?_ s.heap [] _ hP (zD_self hD0) va_S.rf hl
  intro pc lv hd H locs ls hP hD hS hl
  exact W.iret hx hb hr (fun t ht hW => ⟨rfl, by rw [ht]; exact hP, hS.F ht⟩) hS.2.2 hd hlocks
/-- a contract out of a walk from the method's entry (answer: z) -/
theorem ct_z {v : Bool} (hy : plainName y.cls = true) (hlv : lv_args 0 av = lv) (hle : (lg_sl av).length ≤ maxL) (hww : w'.map Prod.fst = w.map Prod.fst)
    (body : ∀ x : ZC, zO x l g rm cc maxL y.cls → (∀ (pc : Nat) (lv : List (Nat × Value)), decode cc pc = .ok (.ireturn, 1) → Z x (0, 0) w' pc lv [.int (iI (bI v))]) → Z x (0, 0) w 0 lv []) : Ct l g y cc maxL (some .boolean) rm av w (some (.int (iI (bI v)))) w' := by
  refine Met.ofW (cc := cc) (maxL := maxL) (ret := (some .boolean)) hy rfl ?_
  intro p e s m args below meth c s₁ B hml hv
  obtain ⟨rfl, hK, hP, hD0⟩ := hv
  have hx := B.exec
  have hb := B.bytes
  have hr := B.returns
  have hts : ∀ w ∈ zTB, w.before av.toArray s = true := fun w hw => atoms_spec (ws := Cond.code y cc maxL (some .boolean) :: zTB) B.pre w (List.mem_cons_of_mem _ hw)
  have hown : s.vm.findClass y.cls = some m.cls := findClass_of_methodNamed B.named
  have hlocks := B.notSynchronized
  have hl := lv_entry av (n := maxL) hle
  rw [lg_entry_eq]
  rw [hlv] at hl
  refine body (p, l, e, rm, s, m, av.toArray, below, meth, c, g, (fun q => q ∈ w.map Prod.fst), s.heap, MQ below _ av.toArray s 0 0 _, maxL) ⟨rfl, rfl, rfl, rfl, ⟨hx, hb, hml, hown, hts⟩, hK, rfl, fun q hq => zD_in hD0 hq⟩ ?_ s.heap [] _ hP (zD_self hD0) va_S.rf hl
  intro pc lv hd H locs ls hP hD hS hl
  exact W.zret hx hb hr (bI_nar v) (fun t ht hW => ⟨rfl, by rw [ht]; exact hP, hS.F ht⟩) hS.2.2 hd hlocks
/-- a contract out of a walk from the method's entry (answer: l) -/
theorem ct_l {v : Int64} (hy : plainName y.cls = true) (hlv : lv_args 0 av = lv) (hle : (lg_sl av).length ≤ maxL) (hww : w'.map Prod.fst = w.map Prod.fst)
    (body : ∀ x : ZC, zO x l g rm cc maxL y.cls → (∀ (pc : Nat) (lv : List (Nat × Value)), decode cc pc = .ok (.lreturn, 1) → Z x (0, 0) w' pc lv [.long v]) → Z x (0, 0) w 0 lv []) : Ct l g y cc maxL (some .long) rm av w (some (.long v)) w' := by
  refine Met.ofW (cc := cc) (maxL := maxL) (ret := (some .long)) hy rfl ?_
  intro p e s m args below meth c s₁ B hml hv
  obtain ⟨rfl, hK, hP, hD0⟩ := hv
  have hx := B.exec
  have hb := B.bytes
  have hr := B.returns
  have hts : ∀ w ∈ zTB, w.before av.toArray s = true := fun w hw => atoms_spec (ws := Cond.code y cc maxL (some .long) :: zTB) B.pre w (List.mem_cons_of_mem _ hw)
  have hown : s.vm.findClass y.cls = some m.cls := findClass_of_methodNamed B.named
  have hlocks := B.notSynchronized
  have hl := lv_entry av (n := maxL) hle
  rw [lg_entry_eq]
  rw [hlv] at hl
  refine body (p, l, e, rm, s, m, av.toArray, below, meth, c, g, (fun q => q ∈ w.map Prod.fst), s.heap, MQ below _ av.toArray s 0 0 _, maxL) ⟨rfl, rfl, rfl, rfl, ⟨hx, hb, hml, hown, hts⟩, hK, rfl, fun q hq => zD_in hD0 hq⟩ ?_ s.heap [] _ hP (zD_self hD0) va_S.rf hl
  intro pc lv hd H locs ls hP hD hS hl
  exact W.lret hx hb hr (fun t ht hW => ⟨rfl, by rw [ht]; exact hP, hS.F ht⟩) hS.2.2 hd hlocks
/-- a contract out of a walk from the method's entry (answer: v) -/
theorem ct_v  (hy : plainName y.cls = true) (hlv : lv_args 0 av = lv) (hle : (lg_sl av).length ≤ maxL) (hww : w'.map Prod.fst = w.map Prod.fst)
    (body : ∀ x : ZC, zO x l g rm cc maxL y.cls → (∀ (pc : Nat) (lv : List (Nat × Value)), decode cc pc = .ok (.return_, 1) → Z x (0, 0) w' pc lv []) → Z x (0, 0) w 0 lv []) : Ct l g y cc maxL none rm av w none w' := by
  refine Met.ofW (cc := cc) (maxL := maxL) (ret := none) hy rfl ?_
  intro p e s m args below meth c s₁ B hml hv
  obtain ⟨rfl, hK, hP, hD0⟩ := hv
  have hx := B.exec
  have hb := B.bytes
  have hr := B.returns
  have hts : ∀ w ∈ zTB, w.before av.toArray s = true := fun w hw => atoms_spec (ws := Cond.code y cc maxL none :: zTB) B.pre w (List.mem_cons_of_mem _ hw)
  have hown : s.vm.findClass y.cls = some m.cls := findClass_of_methodNamed B.named
  have hlocks := B.notSynchronized
  have hl := lv_entry av (n := maxL) hle
  rw [lg_entry_eq]
  rw [hlv] at hl
  refine body (p, l, e, rm, s, m, av.toArray, below, meth, c, g, (fun q => q ∈ w.map Prod.fst), s.heap, MQ below _ av.toArray s 0 0 _, maxL) ⟨rfl, rfl, rfl, rfl, ⟨hx, hb, hml, hown, hts⟩, hK, rfl, fun q hq => zD_in hD0 hq⟩ ?_ s.heap [] _ hP (zD_self hD0) va_S.rf hl
  intro pc lv hd H locs ls hP hD hS hl
  exact W.vret hx hb hr (fun t ht hW => ⟨rfl, by rw [ht]; exact hP, hS.F ht⟩) hS.2.2 hd hlocks
end ZE
section ZR
variable {x : ZC} {l : Launch} {g : ZG} {R : Room} {cc : ByteArray} {nL : Nat} {own : String} {u : Nat × Nat} {w : va_W} {pc : Nat} {lv : List (Nat × Value)} {st : List Value}
theorem Z.eq {pc' : Nat} {w' : va_W} {lv' : List (Nat × Value)} {st' : List Value} (h1 : w = w') (h2 : pc = pc') (h3 : lv = lv') (h4 : st = st') (k : Z x u w' pc' lv' st') : Z x u w pc lv st := by subst h1 h2 h3 h4; exact k
theorem Zloc {lv' : List (Nat × Value)} (ks : List Nat) (h : lv_pick lv ks = lv') (k : Z x u w pc lv' st) : Z x u w pc lv st := by
  obtain ⟨p, l, e, R, s, m, args, below, meth, c, g, A, H0, Q, nL⟩ := x
  exact fun H locs ls hP hD hS hl => k H locs ls hP hD hS (lv_sub hl ks h)
theorem z_iconst (hC : zO x l g R cc nL own) {n : Int} (hd : decode cc pc = .ok (.iconst n, 1)) (k : Z x u w (pc + 1) lv (.int (iI n) :: st)) : Z x u w pc lv (st) := by
  obtain ⟨p, l', e, R', s, m, args, below, meth, c, g', A, H0, Q, nL'⟩ := x
  obtain ⟨rfl, rfl, rfl, rfl, ⟨hx, hb, hml, hown, hts⟩, hK, rfl, hA⟩ := hC
  exact fun H locs ls hP hD hS hl => lv_iconst (v := iI n) hx hb hd rfl (k H locs ls hP hD hS hl)
theorem z_bipush (hC : zO x l g R cc nL own) {n : Int} {a : Int} (hd : decode cc pc = .ok (.bipush n, 2)) (hv : (Int8.ofInt n).toInt32 = iI a) (k : Z x u w (pc + 2) lv (.int (iI a) :: st)) : Z x u w pc lv (st) := by
  obtain ⟨p, l', e, R', s, m, args, below, meth, c, g', A, H0, Q, nL'⟩ := x
  obtain ⟨rfl, rfl, rfl, rfl, ⟨hx, hb, hml, hown, hts⟩, hK, rfl, hA⟩ := hC
  exact fun H locs ls hP hD hS hl => lv_bipush (v := iI a) hx hb hd hv (k H locs ls hP hD hS hl)
theorem z_sipush (hC : zO x l g R cc nL own) {n : Int} {a : Int} (hd : decode cc pc = .ok (.sipush n, 3)) (hv : (Int16.ofInt n).toInt32 = iI a) (k : Z x u w (pc + 3) lv (.int (iI a) :: st)) : Z x u w pc lv (st) := by
  obtain ⟨p, l', e, R', s, m, args, below, meth, c, g', A, H0, Q, nL'⟩ := x
  obtain ⟨rfl, rfl, rfl, rfl, ⟨hx, hb, hml, hown, hts⟩, hK, rfl, hA⟩ := hC
  exact fun H locs ls hP hD hS hl => lv_sipush (v := iI a) hx hb hd hv (k H locs ls hP hD hS hl)
theorem z_lconst (hC : zO x l g R cc nL own) {n : Fin 2} {v : Int64} (hd : decode cc pc = .ok (.lconst n, 1)) (hv : Int64.ofNat (n : Nat) = v) (k : Z x u w (pc + 1) lv (.long v :: st)) : Z x u w pc lv (st) := by
  obtain ⟨p, l', e, R', s, m, args, below, meth, c, g', A, H0, Q, nL'⟩ := x
  obtain ⟨rfl, rfl, rfl, rfl, ⟨hx, hb, hml, hown, hts⟩, hK, rfl, hA⟩ := hC
  exact fun H locs ls hP hD hS hl => lv_lconst (v := v) hx hb hd hv (k H locs ls hP hD hS hl)
theorem z_iload_n (hC : zO x l g R cc nL own) {k0 : Fin 4} {i : Nat} {v : Int32} (hd : decode cc pc = .ok (.iload_n k0, 1)) (hi : (k0 : Nat) = i) (j : Nat) (hj : lv[j]? = some (i, .int v)) (k : Z x u w (pc + 1) lv (.int v :: st)) : Z x u w pc lv (st) := by
  obtain ⟨p, l', e, R', s, m, args, below, meth, c, g', A, H0, Q, nL'⟩ := x
  obtain ⟨rfl, rfl, rfl, rfl, ⟨hx, hb, hml, hown, hts⟩, hK, rfl, hA⟩ := hC
  exact fun H locs ls hP hD hS hl => lv_iload_n hx hb hd hi (lv_at hl j hj) (k H locs ls hP hD hS hl)
theorem z_iload (hC : zO x l g R cc nL own) {i : Nat} {v : Int32} (hd : decode cc pc = .ok (.iload i, 2)) (j : Nat) (hj : lv[j]? = some (i, .int v)) (k : Z x u w (pc + 2) lv (.int v :: st)) : Z x u w pc lv (st) := by
  obtain ⟨p, l', e, R', s, m, args, below, meth, c, g', A, H0, Q, nL'⟩ := x
  obtain ⟨rfl, rfl, rfl, rfl, ⟨hx, hb, hml, hown, hts⟩, hK, rfl, hA⟩ := hC
  exact fun H locs ls hP hD hS hl => lv_iload hx hb hd (lv_at hl j hj) (k H locs ls hP hD hS hl)
theorem z_istore_n (hC : zO x l g R cc nL own) {k0 : Fin 4} {i : Nat} {v : Int32} {lv' : List (Nat × Value)} (hd : decode cc pc = .ok (.istore_n k0, 1)) (hi : (k0 : Nat) = i) (hn : i < nL) (hv : (i, Value.int v) :: lv.filter (fun q => !(q.1 == i) && !(q.1 + 1 == i && q.2.category == 2)) = lv') (k : Z x u w (pc + 1) lv' st) : Z x u w pc lv (.int v :: st) := by
  obtain ⟨p, l', e, R', s, m, args, below, meth, c, g', A, H0, Q, nL'⟩ := x
  obtain ⟨rfl, rfl, rfl, rfl, ⟨hx, hb, hml, hown, hts⟩, hK, rfl, hA⟩ := hC
  exact fun H locs ls hP hD hS hl => lv_istore_n hx hb hd hi hl hn hv (fun ls' hl' => k H locs ls' hP hD hS hl')
theorem z_istore (hC : zO x l g R cc nL own) {i : Nat} {v : Int32} {lv' : List (Nat × Value)} (hd : decode cc pc = .ok (.istore i, 2)) (hn : i < nL) (hv : (i, Value.int v) :: lv.filter (fun q => !(q.1 == i) && !(q.1 + 1 == i && q.2.category == 2)) = lv') (k : Z x u w (pc + 2) lv' st) : Z x u w pc lv (.int v :: st) := by
  obtain ⟨p, l', e, R', s, m, args, below, meth, c, g', A, H0, Q, nL'⟩ := x
  obtain ⟨rfl, rfl, rfl, rfl, ⟨hx, hb, hml, hown, hts⟩, hK, rfl, hA⟩ := hC
  exact fun H locs ls hP hD hS hl => lv_istore hx hb hd hl hn hv (fun ls' hl' => k H locs ls' hP hD hS hl')
theorem z_lload_n (hC : zO x l g R cc nL own) {k0 : Fin 4} {i : Nat} {v : Int64} (hd : decode cc pc = .ok (.lload_n k0, 1)) (hi : (k0 : Nat) = i) (j : Nat) (hj : lv[j]? = some (i, .long v)) (k : Z x u w (pc + 1) lv (.long v :: st)) : Z x u w pc lv (st) := by
  obtain ⟨p, l', e, R', s, m, args, below, meth, c, g', A, H0, Q, nL'⟩ := x
  obtain ⟨rfl, rfl, rfl, rfl, ⟨hx, hb, hml, hown, hts⟩, hK, rfl, hA⟩ := hC
  exact fun H locs ls hP hD hS hl => lv_lload_n hx hb hd hi (lv_at hl j hj) (k H locs ls hP hD hS hl)
theorem z_lload (hC : zO x l g R cc nL own) {i : Nat} {v : Int64} (hd : decode cc pc = .ok (.lload i, 2)) (j : Nat) (hj : lv[j]? = some (i, .long v)) (k : Z x u w (pc + 2) lv (.long v :: st)) : Z x u w pc lv (st) := by
  obtain ⟨p, l', e, R', s, m, args, below, meth, c, g', A, H0, Q, nL'⟩ := x
  obtain ⟨rfl, rfl, rfl, rfl, ⟨hx, hb, hml, hown, hts⟩, hK, rfl, hA⟩ := hC
  exact fun H locs ls hP hD hS hl => lv_lload hx hb hd (lv_at hl j hj) (k H locs ls hP hD hS hl)
theorem z_lstore_n (hC : zO x l g R cc nL own) {k0 : Fin 4} {i : Nat} {v : Int64} {lv' : List (Nat × Value)} (hd : decode cc pc = .ok (.lstore_n k0, 1)) (hi : (k0 : Nat) = i) (hn : i + 1 < nL) (hv : (i, Value.long v) :: lv.filter (fun q => !(q.1 == i) && (!(q.1 == i + 1) && !(q.1 + 1 == i && q.2.category == 2))) = lv') (k : Z x u w (pc + 1) lv' st) : Z x u w pc lv (.long v :: st) := by
  obtain ⟨p, l', e, R', s, m, args, below, meth, c, g', A, H0, Q, nL'⟩ := x
  obtain ⟨rfl, rfl, rfl, rfl, ⟨hx, hb, hml, hown, hts⟩, hK, rfl, hA⟩ := hC
  exact fun H locs ls hP hD hS hl => lv_lstore_n hx hb hd hi hl hn hv (fun ls' hl' => k H locs ls' hP hD hS hl')
theorem z_lstore (hC : zO x l g R cc nL own) {i : Nat} {v : Int64} {lv' : List (Nat × Value)} (hd : decode cc pc = .ok (.lstore i, 2)) (hn : i + 1 < nL) (hv : (i, Value.long v) :: lv.filter (fun q => !(q.1 == i) && (!(q.1 == i + 1) && !(q.1 + 1 == i && q.2.category == 2))) = lv') (k : Z x u w (pc + 2) lv' st) : Z x u w pc lv (.long v :: st) := by
  obtain ⟨p, l', e, R', s, m, args, below, meth, c, g', A, H0, Q, nL'⟩ := x
  obtain ⟨rfl, rfl, rfl, rfl, ⟨hx, hb, hml, hown, hts⟩, hK, rfl, hA⟩ := hC
  exact fun H locs ls hP hD hS hl => lv_lstore hx hb hd hl hn hv (fun ls' hl' => k H locs ls' hP hD hS hl')
theorem z_aload_n (hC : zO x l g R cc nL own) {k0 : Fin 4} {i : Nat} {v : Nat} (hd : decode cc pc = .ok (.aload_n k0, 1)) (hi : (k0 : Nat) = i) (j : Nat) (hj : lv[j]? = some (i, .ref v)) (k : Z x u w (pc + 1) lv (.ref v :: st)) : Z x u w pc lv (st) := by
  obtain ⟨p, l', e, R', s, m, args, below, meth, c, g', A, H0, Q, nL'⟩ := x
  obtain ⟨rfl, rfl, rfl, rfl, ⟨hx, hb, hml, hown, hts⟩, hK, rfl, hA⟩ := hC
  exact fun H locs ls hP hD hS hl => lv_aload_n hx hb hd hi (lv_at hl j hj) (k H locs ls hP hD hS hl)
theorem z_aload (hC : zO x l g R cc nL own) {i : Nat} {v : Nat} (hd : decode cc pc = .ok (.aload i, 2)) (j : Nat) (hj : lv[j]? = some (i, .ref v)) (k : Z x u w (pc + 2) lv (.ref v :: st)) : Z x u w pc lv (st) := by
  obtain ⟨p, l', e, R', s, m, args, below, meth, c, g', A, H0, Q, nL'⟩ := x
  obtain ⟨rfl, rfl, rfl, rfl, ⟨hx, hb, hml, hown, hts⟩, hK, rfl, hA⟩ := hC
  exact fun H locs ls hP hD hS hl => lv_aload hx hb hd (lv_at hl j hj) (k H locs ls hP hD hS hl)
theorem z_astore_n (hC : zO x l g R cc nL own) {k0 : Fin 4} {i : Nat} {v : Nat} {lv' : List (Nat × Value)} (hd : decode cc pc = .ok (.astore_n k0, 1)) (hi : (k0 : Nat) = i) (hn : i < nL) (hv : (i, Value.ref v) :: lv.filter (fun q => !(q.1 == i) && !(q.1 + 1 == i && q.2.category == 2)) = lv') (k : Z x u w (pc + 1) lv' st) : Z x u w pc lv (.ref v :: st) := by
  obtain ⟨p, l', e, R', s, m, args, below, meth, c, g', A, H0, Q, nL'⟩ := x
  obtain ⟨rfl, rfl, rfl, rfl, ⟨hx, hb, hml, hown, hts⟩, hK, rfl, hA⟩ := hC
  exact fun H locs ls hP hD hS hl => lv_astore_n hx hb hd hi hl hn hv (fun ls' hl' => k H locs ls' hP hD hS hl')
theorem z_astore (hC : zO x l g R cc nL own) {i : Nat} {v : Nat} {lv' : List (Nat × Value)} (hd : decode cc pc = .ok (.astore i, 2)) (hn : i < nL) (hv : (i, Value.ref v) :: lv.filter (fun q => !(q.1 == i) && !(q.1 + 1 == i && q.2.category == 2)) = lv') (k : Z x u w (pc + 2) lv' st) : Z x u w pc lv (.ref v :: st) := by
  obtain ⟨p, l', e, R', s, m, args, below, meth, c, g', A, H0, Q, nL'⟩ := x
  obtain ⟨rfl, rfl, rfl, rfl, ⟨hx, hb, hml, hown, hts⟩, hK, rfl, hA⟩ := hC
  exact fun H locs ls hP hD hS hl => lv_astore hx hb hd hl hn hv (fun ls' hl' => k H locs ls' hP hD hS hl')
theorem z_iinc (hC : zO x l g R cc nL own) {i : Nat} {n a : Int} {lv' : List (Nat × Value)} (hd : decode cc pc = .ok (.iinc i n, 3)) (j : Nat) (hj : lv[j]? = some (i, .int (iI a))) (hn : i < nL) (hv : (i, Value.int (iI (a + n))) :: lv.filter (fun q => !(q.1 == i) && !(q.1 + 1 == i && q.2.category == 2)) = lv') (k : Z x u w (pc + 3) lv' st) : Z x u w pc lv st := by
  obtain ⟨p, l', e, R', s, m, args, below, meth, c, g', A, H0, Q, nL'⟩ := x
  obtain ⟨rfl, rfl, rfl, rfl, ⟨hx, hb, hml, hown, hts⟩, hK, rfl, hA⟩ := hC
  exact fun H locs ls hP hD hS hl => lv_iinc (v := iI (a + n)) hx hb hd hl hj (iI_add a n) hn hv (fun ls' hl' => k H locs ls' hP hD hS hl')
theorem z_iadd (hC : zO x l g R cc nL own) {a b : Int} (hd : decode cc pc = .ok (.iadd, 1)) (k : Z x u w (pc + 1) lv (.int (iI (a + b)) :: st)) : Z x u w pc lv (.int (iI b) :: .int (iI a) :: st) := by
  obtain ⟨p, l', e, R', s, m, args, below, meth, c, g', A, H0, Q, nL'⟩ := x
  obtain ⟨rfl, rfl, rfl, rfl, ⟨hx, hb, hml, hown, hts⟩, hK, rfl, hA⟩ := hC
  exact fun H locs ls hP hD hS hl => lv_iadd hx hb hd <| by rw [iI_add]; exact (k H locs ls hP hD hS hl)
theorem z_isub (hC : zO x l g R cc nL own) {a b : Int} (hd : decode cc pc = .ok (.isub, 1)) (k : Z x u w (pc + 1) lv (.int (iI (a - b)) :: st)) : Z x u w pc lv (.int (iI b) :: .int (iI a) :: st) := by
  obtain ⟨p, l', e, R', s, m, args, below, meth, c, g', A, H0, Q, nL'⟩ := x
  obtain ⟨rfl, rfl, rfl, rfl, ⟨hx, hb, hml, hown, hts⟩, hK, rfl, hA⟩ := hC
  exact fun H locs ls hP hD hS hl => lv_isub hx hb hd <| by rw [iI_sub]; exact (k H locs ls hP hD hS hl)
theorem z_imul (hC : zO x l g R cc nL own) {a b : Int} (hd : decode cc pc = .ok (.imul, 1)) (k : Z x u w (pc + 1) lv (.int (iI (a * b)) :: st)) : Z x u w pc lv (.int (iI b) :: .int (iI a) :: st) := by
  obtain ⟨p, l', e, R', s, m, args, below, meth, c, g', A, H0, Q, nL'⟩ := x
  obtain ⟨rfl, rfl, rfl, rfl, ⟨hx, hb, hml, hown, hts⟩, hK, rfl, hA⟩ := hC
  exact fun H locs ls hP hD hS hl => lv_imul hx hb hd <| by rw [iI_mul]; exact (k H locs ls hP hD hS hl)
theorem z_dup (hC : zO x l g R cc nL own) {v : Value} (hd : decode cc pc = .ok (.dup, 1)) (hv : v.category = 1) (k : Z x u w (pc + 1) lv (v :: v :: st)) : Z x u w pc lv (v :: st) := by
  obtain ⟨p, l', e, R', s, m, args, below, meth, c, g', A, H0, Q, nL'⟩ := x
  obtain ⟨rfl, rfl, rfl, rfl, ⟨hx, hb, hml, hown, hts⟩, hK, rfl, hA⟩ := hC
  exact fun H locs ls hP hD hS hl => lv_dup hx hb hd hv (k H locs ls hP hD hS hl)
theorem z_pop (hC : zO x l g R cc nL own) {v : Value} (hd : decode cc pc = .ok (.pop, 1)) (hv : v.category = 1) (k : Z x u w (pc + 1) lv (st)) : Z x u w pc lv (v :: st) := by
  obtain ⟨p, l', e, R', s, m, args, below, meth, c, g', A, H0, Q, nL'⟩ := x
  obtain ⟨rfl, rfl, rfl, rfl, ⟨hx, hb, hml, hown, hts⟩, hK, rfl, hA⟩ := hC
  exact fun H locs ls hP hD hS hl => lv_pop hx hb hd hv (k H locs ls hP hD hS hl)
theorem z_dup_x1 (hC : zO x l g R cc nL own) {v v2 : Value} (hd : decode cc pc = .ok (.dup_x1, 1)) (hv : v.category = 1) (hv2 : v2.category = 1) (k : Z x u w (pc + 1) lv (v :: v2 :: v :: st)) : Z x u w pc lv (v :: v2 :: st) := by
  obtain ⟨p, l', e, R', s, m, args, below, meth, c, g', A, H0, Q, nL'⟩ := x
  obtain ⟨rfl, rfl, rfl, rfl, ⟨hx, hb, hml, hown, hts⟩, hK, rfl, hA⟩ := hC
  exact fun H locs ls hP hD hS hl => lv_dup_x1 hx hb hd hv hv2 (k H locs ls hP hD hS hl)
theorem z_dup2 (hC : zO x l g R cc nL own) {v v2 : Value} (hd : decode cc pc = .ok (.dup2, 1)) (hv : v.category = 1) (hv2 : v2.category = 1) (k : Z x u w (pc + 1) lv (v :: v2 :: v :: v2 :: st)) : Z x u w pc lv (v :: v2 :: st) := by
  obtain ⟨p, l', e, R', s, m, args, below, meth, c, g', A, H0, Q, nL'⟩ := x
  obtain ⟨rfl, rfl, rfl, rfl, ⟨hx, hb, hml, hown, hts⟩, hK, rfl, hA⟩ := hC
  exact fun H locs ls hP hD hS hl => lv_dup2_11 hx hb hd hv hv2 (k H locs ls hP hD hS hl)
theorem z_goto (hC : zO x l g R cc nL own) {off : Int} {tgt : Nat} (hd : decode cc pc = .ok (.goto off, 3)) (ht : (pc : Int) + off = (tgt : Int)) (k : Z x u w tgt lv st) : Z x u w pc lv st := by
  obtain ⟨p, l', e, R', s, m, args, below, meth, c, g', A, H0, Q, nL'⟩ := x
  obtain ⟨rfl, rfl, rfl, rfl, ⟨hx, hb, hml, hown, hts⟩, hK, rfl, hA⟩ := hC
  exact fun H locs ls hP hD hS hl => lv_goto hx hb hd ht (k H locs ls hP hD hS hl)
theorem zc_eq {x y : Int32} {a b : Int} (hx : x.toInt = a) (hy : y.toInt = b) : x = y ↔ a = b := by rw [← Int32.toInt_inj, hx, hy]
theorem zc_lt {x y : Int32} {a b : Int} (hx : x.toInt = a) (hy : y.toInt = b) : x < y ↔ a < b := by rw [Int32.lt_iff_toInt_lt, hx, hy]
theorem zc_le {x y : Int32} {a b : Int} (hx : x.toInt = a) (hy : y.toInt = b) : x ≤ y ↔ a ≤ b := by rw [Int32.le_iff_toInt_le, hx, hy]
theorem z_icmp_eq (hC : zO x l g R cc nL own) {v1 v2 : Int32} (a b : Int) {off : Int} {tgt : Nat} (hd : decode cc pc = .ok (.if_icmp .eq off, 3)) (ht : (pc : Int) + off = (tgt : Int)) (hx1 : v1.toInt = a) (hy1 : v2.toInt = b) (kt : a = b → Z x u w tgt lv st) (kf : ¬ a = b → Z x u w (pc + 3) lv st) : Z x u w pc lv (.int v2 :: .int v1 :: st) := by
  obtain ⟨p, l', e, R', s, m, args, below, meth, c, g', A, H0, Q, nL'⟩ := x
  obtain ⟨rfl, rfl, rfl, rfl, ⟨hx, hb, hml, hown, hts⟩, hK, rfl, hA⟩ := hC
  exact fun H locs ls hP hD hS hl => lv_icmp_eq hx hb hd ht (fun z => kt ((zc_eq hx1 hy1).mp z) H locs ls hP hD hS hl) (fun z => kf (fun e => z ((zc_eq hx1 hy1).mpr e)) H locs ls hP hD hS hl)
theorem z_if_eq (hC : zO x l g R cc nL own) {v1 : Int32} (a : Int) {off : Int} {tgt : Nat} (hd : decode cc pc = .ok (.ifCond .eq off, 3)) (ht : (pc : Int) + off = (tgt : Int)) (hx1 : v1.toInt = a) (kt : a = 0 → Z x u w tgt lv st) (kf : ¬ a = 0 → Z x u w (pc + 3) lv st) : Z x u w pc lv (.int v1 :: st) := by
  obtain ⟨p, l', e, R', s, m, args, below, meth, c, g', A, H0, Q, nL'⟩ := x
  obtain ⟨rfl, rfl, rfl, rfl, ⟨hx, hb, hml, hown, hts⟩, hK, rfl, hA⟩ := hC
  have hy1 : (0 : Int32).toInt = 0 := rfl
  exact fun H locs ls hP hD hS hl => lv_if_eq hx hb hd ht (fun z => kt ((zc_eq hx1 hy1).mp z) H locs ls hP hD hS hl) (fun z => kf (fun e => z ((zc_eq hx1 hy1).mpr e)) H locs ls hP hD hS hl)
theorem z_icmp_ne (hC : zO x l g R cc nL own) {v1 v2 : Int32} (a b : Int) {off : Int} {tgt : Nat} (hd : decode cc pc = .ok (.if_icmp .ne off, 3)) (ht : (pc : Int) + off = (tgt : Int)) (hx1 : v1.toInt = a) (hy1 : v2.toInt = b) (kt : ¬ a = b → Z x u w tgt lv st) (kf : a = b → Z x u w (pc + 3) lv st) : Z x u w pc lv (.int v2 :: .int v1 :: st) := by
  obtain ⟨p, l', e, R', s, m, args, below, meth, c, g', A, H0, Q, nL'⟩ := x
  obtain ⟨rfl, rfl, rfl, rfl, ⟨hx, hb, hml, hown, hts⟩, hK, rfl, hA⟩ := hC
  exact fun H locs ls hP hD hS hl => lv_icmp_ne hx hb hd ht (fun z => kt (fun e => z ((zc_eq hx1 hy1).mpr e)) H locs ls hP hD hS hl) (fun z => kf ((zc_eq hx1 hy1).mp z) H locs ls hP hD hS hl)
theorem z_if_ne (hC : zO x l g R cc nL own) {v1 : Int32} (a : Int) {off : Int} {tgt : Nat} (hd : decode cc pc = .ok (.ifCond .ne off, 3)) (ht : (pc : Int) + off = (tgt : Int)) (hx1 : v1.toInt = a) (kt : ¬ a = 0 → Z x u w tgt lv st) (kf : a = 0 → Z x u w (pc + 3) lv st) : Z x u w pc lv (.int v1 :: st) := by
  obtain ⟨p, l', e, R', s, m, args, below, meth, c, g', A, H0, Q, nL'⟩ := x
  obtain ⟨rfl, rfl, rfl, rfl, ⟨hx, hb, hml, hown, hts⟩, hK, rfl, hA⟩ := hC
  have hy1 : (0 : Int32).toInt = 0 := rfl
  exact fun H locs ls hP hD hS hl => lv_if_ne hx hb hd ht (fun z => kt (fun e => z ((zc_eq hx1 hy1).mpr e)) H locs ls hP hD hS hl) (fun z => kf ((zc_eq hx1 hy1).mp z) H locs ls hP hD hS hl)
theorem z_icmp_lt (hC : zO x l g R cc nL own) {v1 v2 : Int32} (a b : Int) {off : Int} {tgt : Nat} (hd : decode cc pc = .ok (.if_icmp .lt off, 3)) (ht : (pc : Int) + off = (tgt : Int)) (hx1 : v1.toInt = a) (hy1 : v2.toInt = b) (kt : a < b → Z x u w tgt lv st) (kf : b ≤ a → Z x u w (pc + 3) lv st) : Z x u w pc lv (.int v2 :: .int v1 :: st) := by
  obtain ⟨p, l', e, R', s, m, args, below, meth, c, g', A, H0, Q, nL'⟩ := x
  obtain ⟨rfl, rfl, rfl, rfl, ⟨hx, hb, hml, hown, hts⟩, hK, rfl, hA⟩ := hC
  exact fun H locs ls hP hD hS hl => lv_icmp_lt hx hb hd ht (fun z => kt ((zc_lt hx1 hy1).mp z) H locs ls hP hD hS hl) (fun z => kf (Int.not_lt.mp fun e => z ((zc_lt hx1 hy1).mpr e)) H locs ls hP hD hS hl)
theorem z_if_lt (hC : zO x l g R cc nL own) {v1 : Int32} (a : Int) {off : Int} {tgt : Nat} (hd : decode cc pc = .ok (.ifCond .lt off, 3)) (ht : (pc : Int) + off = (tgt : Int)) (hx1 : v1.toInt = a) (kt : a < 0 → Z x u w tgt lv st) (kf : 0 ≤ a → Z x u w (pc + 3) lv st) : Z x u w pc lv (.int v1 :: st) := by
  obtain ⟨p, l', e, R', s, m, args, below, meth, c, g', A, H0, Q, nL'⟩ := x
  obtain ⟨rfl, rfl, rfl, rfl, ⟨hx, hb, hml, hown, hts⟩, hK, rfl, hA⟩ := hC
  have hy1 : (0 : Int32).toInt = 0 := rfl
  exact fun H locs ls hP hD hS hl => lv_if_lt hx hb hd ht (fun z => kt ((zc_lt hx1 hy1).mp z) H locs ls hP hD hS hl) (fun z => kf (Int.not_lt.mp fun e => z ((zc_lt hx1 hy1).mpr e)) H locs ls hP hD hS hl)
theorem z_icmp_ge (hC : zO x l g R cc nL own) {v1 v2 : Int32} (a b : Int) {off : Int} {tgt : Nat} (hd : decode cc pc = .ok (.if_icmp .ge off, 3)) (ht : (pc : Int) + off = (tgt : Int)) (hx1 : v1.toInt = a) (hy1 : v2.toInt = b) (kt : b ≤ a → Z x u w tgt lv st) (kf : a < b → Z x u w (pc + 3) lv st) : Z x u w pc lv (.int v2 :: .int v1 :: st) := by
  obtain ⟨p, l', e, R', s, m, args, below, meth, c, g', A, H0, Q, nL'⟩ := x
  obtain ⟨rfl, rfl, rfl, rfl, ⟨hx, hb, hml, hown, hts⟩, hK, rfl, hA⟩ := hC
  exact fun H locs ls hP hD hS hl => lv_icmp_ge hx hb hd ht (fun z => kt ((zc_le hy1 hx1).mp z) H locs ls hP hD hS hl) (fun z => kf (Int.not_le.mp fun e => z ((zc_le hy1 hx1).mpr e)) H locs ls hP hD hS hl)
theorem z_if_ge (hC : zO x l g R cc nL own) {v1 : Int32} (a : Int) {off : Int} {tgt : Nat} (hd : decode cc pc = .ok (.ifCond .ge off, 3)) (ht : (pc : Int) + off = (tgt : Int)) (hx1 : v1.toInt = a) (kt : 0 ≤ a → Z x u w tgt lv st) (kf : a < 0 → Z x u w (pc + 3) lv st) : Z x u w pc lv (.int v1 :: st) := by
  obtain ⟨p, l', e, R', s, m, args, below, meth, c, g', A, H0, Q, nL'⟩ := x
  obtain ⟨rfl, rfl, rfl, rfl, ⟨hx, hb, hml, hown, hts⟩, hK, rfl, hA⟩ := hC
  have hy1 : (0 : Int32).toInt = 0 := rfl
  exact fun H locs ls hP hD hS hl => lv_if_ge hx hb hd ht (fun z => kt ((zc_le hy1 hx1).mp z) H locs ls hP hD hS hl) (fun z => kf (Int.not_le.mp fun e => z ((zc_le hy1 hx1).mpr e)) H locs ls hP hD hS hl)
theorem z_icmp_gt (hC : zO x l g R cc nL own) {v1 v2 : Int32} (a b : Int) {off : Int} {tgt : Nat} (hd : decode cc pc = .ok (.if_icmp .gt off, 3)) (ht : (pc : Int) + off = (tgt : Int)) (hx1 : v1.toInt = a) (hy1 : v2.toInt = b) (kt : b < a → Z x u w tgt lv st) (kf : a ≤ b → Z x u w (pc + 3) lv st) : Z x u w pc lv (.int v2 :: .int v1 :: st) := by
  obtain ⟨p, l', e, R', s, m, args, below, meth, c, g', A, H0, Q, nL'⟩ := x
  obtain ⟨rfl, rfl, rfl, rfl, ⟨hx, hb, hml, hown, hts⟩, hK, rfl, hA⟩ := hC
  exact fun H locs ls hP hD hS hl => lv_icmp_gt hx hb hd ht (fun z => kt ((zc_lt hy1 hx1).mp z) H locs ls hP hD hS hl) (fun z => kf (Int.not_lt.mp fun e => z ((zc_lt hy1 hx1).mpr e)) H locs ls hP hD hS hl)
theorem z_if_gt (hC : zO x l g R cc nL own) {v1 : Int32} (a : Int) {off : Int} {tgt : Nat} (hd : decode cc pc = .ok (.ifCond .gt off, 3)) (ht : (pc : Int) + off = (tgt : Int)) (hx1 : v1.toInt = a) (kt : 0 < a → Z x u w tgt lv st) (kf : a ≤ 0 → Z x u w (pc + 3) lv st) : Z x u w pc lv (.int v1 :: st) := by
  obtain ⟨p, l', e, R', s, m, args, below, meth, c, g', A, H0, Q, nL'⟩ := x
  obtain ⟨rfl, rfl, rfl, rfl, ⟨hx, hb, hml, hown, hts⟩, hK, rfl, hA⟩ := hC
  have hy1 : (0 : Int32).toInt = 0 := rfl
  exact fun H locs ls hP hD hS hl => lv_if_gt hx hb hd ht (fun z => kt ((zc_lt hy1 hx1).mp z) H locs ls hP hD hS hl) (fun z => kf (Int.not_lt.mp fun e => z ((zc_lt hy1 hx1).mpr e)) H locs ls hP hD hS hl)
theorem z_icmp_le (hC : zO x l g R cc nL own) {v1 v2 : Int32} (a b : Int) {off : Int} {tgt : Nat} (hd : decode cc pc = .ok (.if_icmp .le off, 3)) (ht : (pc : Int) + off = (tgt : Int)) (hx1 : v1.toInt = a) (hy1 : v2.toInt = b) (kt : a ≤ b → Z x u w tgt lv st) (kf : b < a → Z x u w (pc + 3) lv st) : Z x u w pc lv (.int v2 :: .int v1 :: st) := by
  obtain ⟨p, l', e, R', s, m, args, below, meth, c, g', A, H0, Q, nL'⟩ := x
  obtain ⟨rfl, rfl, rfl, rfl, ⟨hx, hb, hml, hown, hts⟩, hK, rfl, hA⟩ := hC
  exact fun H locs ls hP hD hS hl => lv_icmp_le hx hb hd ht (fun z => kt ((zc_le hx1 hy1).mp z) H locs ls hP hD hS hl) (fun z => kf (Int.not_le.mp fun e => z ((zc_le hx1 hy1).mpr e)) H locs ls hP hD hS hl)
theorem z_if_le (hC : zO x l g R cc nL own) {v1 : Int32} (a : Int) {off : Int} {tgt : Nat} (hd : decode cc pc = .ok (.ifCond .le off, 3)) (ht : (pc : Int) + off = (tgt : Int)) (hx1 : v1.toInt = a) (kt : a ≤ 0 → Z x u w tgt lv st) (kf : 0 < a → Z x u w (pc + 3) lv st) : Z x u w pc lv (.int v1 :: st) := by
  obtain ⟨p, l', e, R', s, m, args, below, meth, c, g', A, H0, Q, nL'⟩ := x
  obtain ⟨rfl, rfl, rfl, rfl, ⟨hx, hb, hml, hown, hts⟩, hK, rfl, hA⟩ := hC
  have hy1 : (0 : Int32).toInt = 0 := rfl
  exact fun H locs ls hP hD hS hl => lv_if_le hx hb hd ht (fun z => kt ((zc_le hx1 hy1).mp z) H locs ls hP hD hS hl) (fun z => kf (Int.not_le.mp fun e => z ((zc_le hx1 hy1).mpr e)) H locs ls hP hD hS hl)
theorem z_ifeqB (hC : zO x l g R cc nL own) {v : Bool} {off : Int} {tgt : Nat} (hd : decode cc pc = .ok (.ifCond .eq off, 3)) (ht : (pc : Int) + off = (tgt : Int)) (kt : v = false → Z x u w tgt lv st) (kf : v = true → Z x u w (pc + 3) lv st) : Z x u w pc lv (.int (iI (bI v)) :: st) :=
  z_if_eq hC (bI v) hd ht (iI_t (by have := bI_rng v; omega)) (fun z => kt (bI_0.mp z)) (fun z => kf (by cases v with | true => rfl | false => exact absurd rfl z))
theorem z_ifneB (hC : zO x l g R cc nL own) {v : Bool} {off : Int} {tgt : Nat} (hd : decode cc pc = .ok (.ifCond .ne off, 3)) (ht : (pc : Int) + off = (tgt : Int)) (kt : v = true → Z x u w tgt lv st) (kf : v = false → Z x u w (pc + 3) lv st) : Z x u w pc lv (.int (iI (bI v)) :: st) :=
  z_if_ne hC (bI v) hd ht (iI_t (by have := bI_rng v; omega)) (fun z => kt (by cases v with | true => rfl | false => exact absurd rfl z)) (fun z => kf (bI_0.mp z))
theorem z_get (hC : zO x l g R cc nL own) {ref C : String} {T : u_T} {N ci index : Nat} {a : Nat} {fs : List Value} {v : Value} (hin : ∀ w ∈ u_ws C T N, w ∈ zTB) (q0 : Nat) (he : w[q0]? = some (a, .inr (ci, fs))) (hc : vwCl[ci]? = some (C, T, N)) (k : Nat) (hk : k < N) (hlink : Cond.fieldLink own index ref (T k).2.1 (T k).2.2.1 ∈ zTB) (hsame : ref = (T k).1 ∨ Cond.sameField ref (T k).1 (T k).2.1 (T k).2.2.1 ∈ zTB) (hv : fs[k]? = some v) (hd : decode cc pc = .ok (.getfield index, 3)) (kk : Z x u w (pc + 3) lv (v :: st)) : Z x u w pc lv (.ref a :: st) := by
  obtain ⟨p, l', e, R', s, m, args, below, meth, c, g', A, H0, Q, nL'⟩ := x
  obtain ⟨rfl, rfl, rfl, rfl, ⟨hx, hb, hml, hown, hts⟩, hK, rfl, hA⟩ := hC
  refine fun H locs ls hP hD hS hl => va_get hx hb hts hin hown hK.1 hP q0 he hc k hk (hts _ hlink) (fun x9 h9 => ?_) hv hd (kk H locs ls hP hD hS hl)
  rcases hsame with h | h
  · rw [h]; exact h9
  · exact u_same (hts _ h) x9 h9
theorem z_getN (hC : zO x l g R cc nL own) {ref C : String} {T : u_T} {N ci index : Nat} {a : Nat} {fs : List Value} {v : Value} (hin : ∀ w ∈ u_ws C T N, w ∈ zTB) (q0 : Nat) (he : w[q0]? = some (a, .inr (ci, fs))) (hc : vwCl[ci]? = some (C, T, N)) (k : Nat) (hk : k < N) {host : String} (hlink : (own, index, ref, (T k).2.1, (T k).2.2.1, host) ∈ zNF) (href : ref = (T k).1) (hv : fs[k]? = some v) (hd : decode cc pc = .ok (.getfield index, 3)) (kk : Z x u w (pc + 3) lv (v :: st)) : Z x u w pc lv (.ref a :: st) := by
  obtain ⟨p, l', e, R', s, m, args, below, meth, c, g', A, H0, Q, nL'⟩ := x
  obtain ⟨rfl, rfl, rfl, rfl, ⟨hx, hb, hml, hown, hts⟩, hK, rfl, hA⟩ := hC
  exact fun H locs ls hP hD hS hl => va_getN hx hb hts hin hown hK.1 hP q0 he hc k hk (va_Nw.use rfl (hK.2.1.1 _ hlink)) (fun x9 h9 => by rw [href]; exact h9) hv hd (kk H locs ls hP hD hS hl)
theorem z_put (hC : zO x l g R cc nL own) {ref C : String} {T : u_T} {N ci index : Nat} {a : Nat} {fs : List Value} {v : Value} {ty : FieldType} {w' : va_W} (hin : ∀ w ∈ u_ws C T N, w ∈ zTB) (ty0 : Nat → FieldType) (hty : ∀ k, k < N → parseFieldDescriptor (T k).2.2.1 = some (ty0 k)) (hnm : ∀ a, a < N → ∀ b, b < N → a ≠ b → (T a).2.1 ≠ (T b).2.1) (q0 : Nat) (he : w[q0]? = some (a, .inr (ci, fs))) (hc : vwCl[ci]? = some (C, T, N)) (k : Nat) (hk : k < N) (hlink : Cond.fieldLink own index ref (T k).2.1 (T k).2.2.1 ∈ zTB) (href : ref = (T k).1) (hfin : (T k).2.2.2 = false) (hdsc : ty0 k = ty) (hn : narrow ty v = v) (hfit : fits ty v = true) (hl0 : k < fs.length) (hw : w.set q0 (a, .inr (ci, fs.set k v)) = w') (hd : decode cc pc = .ok (.putfield index, 3)) (kk : Z x u w' (pc + 3) lv st) : Z x u w pc lv (v :: .ref a :: st) := by
  obtain ⟨p, l', e, R', s, m, args, below, meth, c, g', A, H0, Q, nL'⟩ := x
  obtain ⟨rfl, rfl, rfl, rfl, ⟨hx, hb, hml, hown, hts⟩, hK, rfl, hA⟩ := hC
  subst hw
  exact fun H locs ls hP hD hS hl => va_put (ty := ty) hx hb hts hin ty0 hty hnm hown hK.1 hP hD hS q0 he hc k hk (hts _ hlink) (fun x9 h9 => by rw [href]; exact h9) hfin (by rw [← hdsc]; exact hty k hk) hn hfit hl0 hd (fun H' locs' hP hD hS => kk H' locs' ls hP hD hS hl)
theorem z_iald (hC : zO x l g R cc nL own) {a n : Nat} {cA : ClassId} {f : Nat → Int32} {i : Int} (q0 t0 : Nat) (he : w[q0]? = some (a, .inl (cA, n, .inl f))) (ht : (zty g.2.1)[t0]? = some (cA, .int)) (k : Nat) (hk : i = k) (hlt : k < n) (hn : n < 2147483648) (hd : decode cc pc = .ok (.iaload, 1)) (kk : Z x u w (pc + 1) lv (.int (f k) :: st)) : Z x u w pc lv (.int (iI i) :: .ref a :: st) := by
  obtain ⟨p, l', e, R', s, m, args, below, meth, c, g', A, H0, Q, nL'⟩ := x
  obtain ⟨rfl, rfl, rfl, rfl, ⟨hx, hb, hml, hown, hts⟩, hK, rfl, hA⟩ := hC
  have hcl := iI_cl hk (by omega)
  exact fun H locs ls hP hD hS hl => va_iald hx hb hK.1 hP q0 t0 he ht (iI_in (by omega) (by omega) hn) hd (by rw [hcl]; exact kk H locs ls hP hD hS hl)
theorem z_zald (hC : zO x l g R cc nL own) {a n : Nat} {cA : ClassId} {f : Nat → Int32} {i : Int} (q0 t0 : Nat) (he : w[q0]? = some (a, .inl (cA, n, .inl f))) (ht : (zty g.2.1)[t0]? = some (cA, .boolean)) (k : Nat) (hk : i = k) (hlt : k < n) (hn : n < 2147483648) (hd : decode cc pc = .ok (.baload, 1)) (kk : Z x u w (pc + 1) lv (.int (f k) :: st)) : Z x u w pc lv (.int (iI i) :: .ref a :: st) := by
  obtain ⟨p, l', e, R', s, m, args, below, meth, c, g', A, H0, Q, nL'⟩ := x
  obtain ⟨rfl, rfl, rfl, rfl, ⟨hx, hb, hml, hown, hts⟩, hK, rfl, hA⟩ := hC
  have hcl := iI_cl hk (by omega)
  exact fun H locs ls hP hD hS hl => va_zald hx hb hK.1 hP q0 t0 he ht (iI_in (by omega) (by omega) hn) hd (by rw [hcl]; exact kk H locs ls hP hD hS hl)
theorem z_lald (hC : zO x l g R cc nL own) {a n : Nat} {cA : ClassId} {f : Nat → Int64} {i : Int} (q0 t0 : Nat) (he : w[q0]? = some (a, .inl (cA, n, .inr (.inl f)))) (ht : (zty g.2.1)[t0]? = some (cA, .long)) (k : Nat) (hk : i = k) (hlt : k < n) (hn : n < 2147483648) (hd : decode cc pc = .ok (.laload, 1)) (kk : Z x u w (pc + 1) lv (.long (f k) :: st)) : Z x u w pc lv (.int (iI i) :: .ref a :: st) := by
  obtain ⟨p, l', e, R', s, m, args, below, meth, c, g', A, H0, Q, nL'⟩ := x
  obtain ⟨rfl, rfl, rfl, rfl, ⟨hx, hb, hml, hown, hts⟩, hK, rfl, hA⟩ := hC
  have hcl := iI_cl hk (by omega)
  exact fun H locs ls hP hD hS hl => va_lald hx hb hK.1 hP q0 t0 he ht (iI_in (by omega) (by omega) hn) hd (by rw [hcl]; exact kk H locs ls hP hD hS hl)
theorem z_iast (hC : zO x l g R cc nL own) {a n : Nat} {cA : ClassId} {f : Nat → Int32} {i : Int} {v : Int32} {w' : va_W} (q0 t0 : Nat) (he : w[q0]? = some (a, .inl (cA, n, .inl f))) (ht : (zty g.2.1)[t0]? = some (cA, .int)) (k : Nat) (hk : i = k) (hlt : k < n) (hn : n < 2147483648) (hw : w.set q0 (a, .inl (cA, n, .inl (upd f k v))) = w') (hd : decode cc pc = .ok (.iastore, 1)) (kk : Z x u w' (pc + 1) lv st) : Z x u w pc lv (.int v :: .int (iI i) :: .ref a :: st) := by
  obtain ⟨p, l', e, R', s, m, args, below, meth, c, g', A, H0, Q, nL'⟩ := x
  obtain ⟨rfl, rfl, rfl, rfl, ⟨hx, hb, hml, hown, hts⟩, hK, rfl, hA⟩ := hC
  have hcl := iI_cl hk (by omega)
  subst hw
  exact fun H locs ls hP hD hS hl => va_iast hx hb hK.1 hP hD hS q0 t0 he ht (iI_in (by omega) (by omega) hn) hd (fun H' locs' hP hD hS => by rw [hcl] at hP hD; exact kk H' locs' ls hP hD hS hl)
theorem z_last (hC : zO x l g R cc nL own) {a n : Nat} {cA : ClassId} {f : Nat → Int64} {i : Int} {v : Int64} {w' : va_W} (q0 t0 : Nat) (he : w[q0]? = some (a, .inl (cA, n, .inr (.inl f)))) (ht : (zty g.2.1)[t0]? = some (cA, .long)) (k : Nat) (hk : i = k) (hlt : k < n) (hn : n < 2147483648) (hw : w.set q0 (a, .inl (cA, n, .inr (.inl (vp_updL f k v)))) = w') (hd : decode cc pc = .ok (.lastore, 1)) (kk : Z x u w' (pc + 1) lv st) : Z x u w pc lv (.long v :: .int (iI i) :: .ref a :: st) := by
  obtain ⟨p, l', e, R', s, m, args, below, meth, c, g', A, H0, Q, nL'⟩ := x
  obtain ⟨rfl, rfl, rfl, rfl, ⟨hx, hb, hml, hown, hts⟩, hK, rfl, hA⟩ := hC
  have hcl := iI_cl hk (by omega)
  subst hw
  exact fun H locs ls hP hD hS hl => va_last hx hb hK.1 hP hD hS q0 t0 he ht (iI_in (by omega) (by omega) hn) hd (fun H' locs' hP hD hS => by rw [hcl] at hP hD; exact kk H' locs' ls hP hD hS hl)
theorem z_zast (hC : zO x l g R cc nL own) {a n : Nat} {cA : ClassId} {f : Nat → Int32} {i : Int} {v : Bool} {w' : va_W} (q0 t0 : Nat) (he : w[q0]? = some (a, .inl (cA, n, .inl f))) (ht : (zty g.2.1)[t0]? = some (cA, .boolean)) (k : Nat) (hk : i = k) (hlt : k < n) (hn : n < 2147483648) (hw : w.set q0 (a, .inl (cA, n, .inl (upd f k (iI (bI v))))) = w') (hd : decode cc pc = .ok (.bastore, 1)) (kk : Z x u w' (pc + 1) lv st) : Z x u w pc lv (.int (iI (bI v)) :: .int (iI i) :: .ref a :: st) := by
  obtain ⟨p, l', e, R', s, m, args, below, meth, c, g', A, H0, Q, nL'⟩ := x
  obtain ⟨rfl, rfl, rfl, rfl, ⟨hx, hb, hml, hown, hts⟩, hK, rfl, hA⟩ := hC
  have hcl := iI_cl hk (by omega)
  subst hw
  exact fun H locs ls hP hD hS hl => va_zast hx hb hK.1 hP hD hS q0 t0 he ht (iI_in (by omega) (by omega) hn) hd (fun H' locs' hP hD hS => by rw [hcl, bI_vnar] at hP hD; exact kk H' locs' ls hP hD hS hl)
theorem z_aald (hC : zO x l g R cc nL own) {a n r : Nat} {cA : ClassId} {C : String} {f : Nat → Option Nat} {i : Int} (q0 t0 : Nat) (he : w[q0]? = some (a, .inl (cA, n, .inr (.inr (.inr (.inr f)))))) (ht : (zty g.2.1)[t0]? = some (cA, .object C)) (k : Nat) (hk : i = k) (hlt : k < n) (hn : n < 2147483648) (hr : f k = some r) (hd : decode cc pc = .ok (.aaload, 1)) (kk : Z x u w (pc + 1) lv (.ref r :: st)) : Z x u w pc lv (.int (iI i) :: .ref a :: st) := by
  obtain ⟨p, l', e, R', s, m, args, below, meth, c, g', A, H0, Q, nL'⟩ := x
  obtain ⟨rfl, rfl, rfl, rfl, ⟨hx, hb, hml, hown, hts⟩, hK, rfl, hA⟩ := hC
  have hcl := iI_cl hk (by omega)
  exact fun H locs ls hP hD hS hl => va_aldq hx hb hK.1 hP q0 t0 he ht (iI_in (by omega) (by omega) hn) hd (by rw [hcl, hr]; exact kk H locs ls hP hD hS hl)
theorem z_alen (hC : zO x l g R cc nL own) {a : Nat} {cA : ClassId} {y : vp_A} {ty : FieldType} (q0 t0 : Nat) (he : w[q0]? = some (a, .inl (cA, y))) (ht : (zty g.2.1)[t0]? = some (cA, ty)) (hd : decode cc pc = .ok (.arraylength, 1)) (kk : Z x u w (pc + 1) lv (.int (iI y.1) :: st)) : Z x u w pc lv (.ref a :: st) := by
  obtain ⟨p, l', e, R', s, m, args, below, meth, c, g', A, H0, Q, nL'⟩ := x
  obtain ⟨rfl, rfl, rfl, rfl, ⟨hx, hb, hml, hown, hts⟩, hK, rfl, hA⟩ := hC
  exact fun H locs ls hP hD hS hl => va_alen hx hb hK.1 hP q0 t0 he ht (Int32.ofInt_eq_ofNat (n := y.1)).symm hd (kk H locs ls hP hD hS hl)
theorem z_iconstN (hC : zO x l g R cc nL own) {n : Int} (k0 : Nat) (hd : decode cc pc = .ok (.iconst n, 1)) (hk0 : n = (k0 : Int)) (k : Z x u w (pc + 1) lv (.int (iI ((k0 : Nat) : Int)) :: st)) : Z x u w pc lv (st) := by
  obtain ⟨p, l', e, R', s, m, args, below, meth, c, g', A, H0, Q, nL'⟩ := x
  obtain ⟨rfl, rfl, rfl, rfl, ⟨hx, hb, hml, hown, hts⟩, hK, rfl, hA⟩ := hC
  exact fun H locs ls hP hD hS hl => lv_iconst (v := iI ((k0 : Nat) : Int)) hx hb hd (by rw [hk0]; rfl) (k H locs ls hP hD hS hl)
theorem z_ldc (hC : zO x l g R cc nL own) {a : Int} {v : Int32} {index : Nat} (hm : Cond.constant own index v ∈ zTB) (hv : v = iI a) (hd : decode cc pc = .ok (.ldc index, 2)) (k : Z x u w (pc + 2) lv (.int (iI a) :: st)) : Z x u w pc lv st := by
  obtain ⟨p, l', e, R', s, m, args, below, meth, c, g', A, H0, Q, nL'⟩ := x
  obtain ⟨rfl, rfl, rfl, rfl, ⟨hx, hb, hml, hown, hts⟩, hK, rfl, hA⟩ := hC
  subst hv
  exact fun H locs ls hP hD hS hl => lv_ldc hx hb hown (hts _ hm) hd (k H locs ls hP hD hS hl)
theorem z_iincN (hC : zO x l g R cc nL own) {i a : Nat} {n : Int} {lv' : List (Nat × Value)} (k0 : Nat) (hd : decode cc pc = .ok (.iinc i n, 3)) (hk0 : n = (k0 : Int)) (j : Nat) (hj : lv[j]? = some (i, .int (iI ((a : Nat) : Int)))) (hn : i < nL) (hv : (i, Value.int (iI ((a + k0 : Nat) : Int))) :: lv.filter (fun q => !(q.1 == i) && !(q.1 + 1 == i && q.2.category == 2)) = lv') (k : Z x u w (pc + 3) lv' st) : Z x u w pc lv st := by
  subst hk0
  exact z_iinc hC hd j hj hn hv k
theorem z_idecN (hC : zO x l g R cc nL own) {i a : Nat} {lv' : List (Nat × Value)} (hd : decode cc pc = .ok (.iinc i (-1), 3)) (j : Nat) (hj : lv[j]? = some (i, .int (iI ((a : Nat) : Int)))) (ha : 1 ≤ a) (hn : i < nL) (hv : (i, Value.int (iI ((a - 1 : Nat) : Int))) :: lv.filter (fun q => !(q.1 == i) && !(q.1 + 1 == i && q.2.category == 2)) = lv') (k : Z x u w (pc + 3) lv' st) : Z x u w pc lv st := by
  have e : ((a - 1 : Nat) : Int) = (a : Int) + (-1) := by omega
  rw [e] at hv
  exact z_iinc hC hd j hj hn hv k
theorem z_iaddN (hC : zO x l g R cc nL own) {a b : Nat} (hd : decode cc pc = .ok (.iadd, 1)) (k : Z x u w (pc + 1) lv (.int (iI ((a + b : Nat) : Int)) :: st)) : Z x u w pc lv (.int (iI ((b : Nat) : Int)) :: .int (iI ((a : Nat) : Int)) :: st) := z_iadd hC hd k
theorem z_imulN (hC : zO x l g R cc nL own) {a b : Nat} (hd : decode cc pc = .ok (.imul, 1)) (k : Z x u w (pc + 1) lv (.int (iI ((a * b : Nat) : Int)) :: st)) : Z x u w pc lv (.int (iI ((b : Nat) : Int)) :: .int (iI ((a : Nat) : Int)) :: st) := z_imul hC hd (by rw [← Int.natCast_mul]; exact k)
theorem z_isubN (hC : zO x l g R cc nL own) {a b : Nat} (hd : decode cc pc = .ok (.isub, 1)) (hle : b ≤ a) (k : Z x u w (pc + 1) lv (.int (iI ((a - b : Nat) : Int)) :: st)) : Z x u w pc lv (.int (iI ((b : Nat) : Int)) :: .int (iI ((a : Nat) : Int)) :: st) := z_isub hC hd (by rw [show (a : Int) - (b : Int) = ((a - b : Nat) : Int) by omega]; exact k)
theorem z_RI {v : Int32} (k : Z x u w pc lv (.int (iI v.toInt) :: st)) : Z x u w pc lv (.int v :: st) := by rw [iI_of] at k; exact k
theorem z_RI2 {v : Int32} {y : Value} (k : Z x u w pc lv (y :: .int (iI v.toInt) :: st)) : Z x u w pc lv (y :: .int v :: st) := by rw [iI_of] at k; exact k
theorem z_icmp_eqR (hC : zO x l g R cc nL own) {v1 v2 : Int32} {off : Int} {tgt : Nat} (hd : decode cc pc = .ok (.if_icmp .eq off, 3)) (ht : (pc : Int) + off = (tgt : Int)) (kt : v1 = v2 → Z x u w tgt lv st) (kf : ¬ v1 = v2 → Z x u w (pc + 3) lv st) : Z x u w pc lv (.int v2 :: .int v1 :: st) := by
  obtain ⟨p, l', e, R', s, m, args, below, meth, c, g', A, H0, Q, nL'⟩ := x
  obtain ⟨rfl, rfl, rfl, rfl, ⟨hx, hb, hml, hown, hts⟩, hK, rfl, hA⟩ := hC
  exact fun H locs ls hP hD hS hl => lv_icmp_eq hx hb hd ht (fun z => kt z H locs ls hP hD hS hl) (fun z => kf z H locs ls hP hD hS hl)
theorem z_icmp_neR (hC : zO x l g R cc nL own) {v1 v2 : Int32} {off : Int} {tgt : Nat} (hd : decode cc pc = .ok (.if_icmp .ne off, 3)) (ht : (pc : Int) + off = (tgt : Int)) (kt : ¬ v1 = v2 → Z x u w tgt lv st) (kf : v1 = v2 → Z x u w (pc + 3) lv st) : Z x u w pc lv (.int v2 :: .int v1 :: st) := by
  obtain ⟨p, l', e, R', s, m, args, below, meth, c, g', A, H0, Q, nL'⟩ := x
  obtain ⟨rfl, rfl, rfl, rfl, ⟨hx, hb, hml, hown, hts⟩, hK, rfl, hA⟩ := hC
  exact fun H locs ls hP hD hS hl => lv_icmp_ne hx hb hd ht (fun z => kt z H locs ls hP hD hS hl) (fun z => kf z H locs ls hP hD hS hl)
theorem z_lcmp (hC : zO x l g R cc nL own) {a b : Int64} (hd : decode cc pc = .ok (.lcmp, 1)) (k : Z x u w (pc + 1) lv (.int (lg_cmp a b) :: st)) : Z x u w pc lv (.long b :: .long a :: st) := by
  obtain ⟨p, l', e, R', s, m, args, below, meth, c, g', A, H0, Q, nL'⟩ := x
  obtain ⟨rfl, rfl, rfl, rfl, ⟨hx, hb, hml, hown, hts⟩, hK, rfl, hA⟩ := hC
  exact fun H locs ls hP hD hS hl => W.lcmp hx hb hd (k H locs ls hP hD hS hl)
theorem zb_t {b : Bool} (h : b = true) : [Value.int (iI ((1 : Nat) : Int))] = [Value.int (iI (bI b))] := by subst h; rfl
theorem zb_f {b : Bool} (h : b = false) : [Value.int (iI ((0 : Nat) : Int))] = [Value.int (iI (bI b))] := by subst h; rfl
theorem zb_e {a b : Bool} (h : a = b) : [Value.int (iI (bI a))] = [Value.int (iI (bI b))] := by rw [h]
theorem z_ialdN (hC : zO x l g R cc nL own) {a n : Nat} {cA : ClassId} {h : Nat → Nat} {i : Int} (q0 t0 : Nat) (he : w[q0]? = some (a, .inl (cA, n, .inl (nF h)))) (ht : (zty g.2.1)[t0]? = some (cA, .int)) (k : Nat) (hk : i = k) (hlt : k < n) (hn : n < 2147483648) (hd : decode cc pc = .ok (.iaload, 1)) (kk : Z x u w (pc + 1) lv (.int (iI ((h k : Nat) : Int)) :: st)) : Z x u w pc lv (.int (iI i) :: .ref a :: st) := z_iald hC q0 t0 he ht k hk hlt hn hd kk
theorem z_zaldB (hC : zO x l g R cc nL own) {a n : Nat} {cA : ClassId} {h : Nat → Bool} {i : Int} (q0 t0 : Nat) (he : w[q0]? = some (a, .inl (cA, n, .inl (bF h)))) (ht : (zty g.2.1)[t0]? = some (cA, .boolean)) (k : Nat) (hk : i = k) (hlt : k < n) (hn : n < 2147483648) (hd : decode cc pc = .ok (.baload, 1)) (kk : Z x u w (pc + 1) lv (.int (iI (bI (h k))) :: st)) : Z x u w pc lv (.int (iI i) :: .ref a :: st) := z_zald hC q0 t0 he ht k hk hlt hn hd kk
theorem z_iastN (hC : zO x l g R cc nL own) {a n : Nat} {cA : ClassId} {h : Nat → Nat} {i : Int} {v : Nat} {w' : va_W} (q0 t0 : Nat) (he : w[q0]? = some (a, .inl (cA, n, .inl (nF h)))) (ht : (zty g.2.1)[t0]? = some (cA, .int)) (k : Nat) (hk : i = k) (hlt : k < n) (hn : n < 2147483648) (hw : w.set q0 (a, .inl (cA, n, .inl (nF (up h k v)))) = w') (hd : decode cc pc = .ok (.iastore, 1)) (kk : Z x u w' (pc + 1) lv st) : Z x u w pc lv (.int (iI ((v : Nat) : Int)) :: .int (iI i) :: .ref a :: st) := z_iast hC q0 t0 he ht k hk hlt hn (by rw [upd_nF]; exact hw) hd kk
theorem z_zastB (hC : zO x l g R cc nL own) {a n : Nat} {cA : ClassId} {h : Nat → Bool} {i : Int} {v : Bool} {w' : va_W} (q0 t0 : Nat) (he : w[q0]? = some (a, .inl (cA, n, .inl (bF h)))) (ht : (zty g.2.1)[t0]? = some (cA, .boolean)) (k : Nat) (hk : i = k) (hlt : k < n) (hn : n < 2147483648) (hw : w.set q0 (a, .inl (cA, n, .inl (bF (up h k v)))) = w') (hd : decode cc pc = .ok (.bastore, 1)) (kk : Z x u w' (pc + 1) lv st) : Z x u w pc lv (.int (iI (bI v)) :: .int (iI i) :: .ref a :: st) := z_zast hC q0 t0 he ht k hk hlt hn (by rw [upd_bF]; exact hw) hd kk
/-! ===== calls ===== -/
/-- the world w with the cells at the places put anew -/
def zset (w : va_W) : List Nat → va_W → va_W
  | i :: is, e :: es => zset (w.set i e) is es
  | _, _ => w
theorem zset_at : ∀ (is : List Nat) (es : va_W) (w : va_W) (k : Nat) (q : Nat × va_E), (zset w is es)[k]? = some q → (∃ j : Nat, is[j]? = some k ∧ es[j]? = some q) ∨ (k ∉ is ∧ w[k]? = some q) ∨ (∃ j : Nat, is[j]? = some k ∧ es.length ≤ j ∧ w[k]? = some q)
  | [], _, w, k, q, h => Or.inr (Or.inl ⟨List.not_mem_nil, by simpa [zset] using h⟩)
  | i :: is, [], w, k, q, h => by
    by_cases hk : k ∈ i :: is
    · obtain ⟨j, hj⟩ := List.getElem?_of_mem hk
      exact Or.inr (Or.inr ⟨j, hj, Nat.zero_le _, h⟩)
    · exact Or.inr (Or.inl ⟨hk, h⟩)
  | i :: is, e :: es, w, k, q, h => by
    rw [zset] at h
    rcases zset_at is es _ k q h with ⟨j, h1, h2⟩ | ⟨h1, h2⟩ | ⟨j, h1, h2, h3⟩
    · exact Or.inl ⟨j + 1, h1, h2⟩
    · by_cases hki : k = i
      · subst hki
        rw [List.getElem?_set] at h2
        by_cases hl : k < w.length
        · simp [hl] at h2
          exact Or.inl ⟨0, rfl, by rw [← h2]; rfl⟩
        · simp [hl] at h2
      · rw [List.getElem?_set_ne (Ne.symm hki)] at h2
        exact Or.inr (Or.inl ⟨by simp [hki, h1], h2⟩)
    · by_cases hki : k = i
      · subst hki
        rw [List.getElem?_set] at h3
        by_cases hl : k < w.length
        · simp [hl] at h3
          exact Or.inl ⟨0, rfl, by rw [← h3]; rfl⟩
        · simp [hl] at h3
      · rw [List.getElem?_set_ne (Ne.symm hki)] at h3
        exact Or.inr (Or.inr ⟨j + 1, h1, by simp; omega, h3⟩)
theorem zset_fst {is : List Nat} {w wc w1 : va_W} (his : is.map (fun i => w[i]?) = wc.map some) (hf : w1.map Prod.fst = wc.map Prod.fst) {k : Nat} {q : Nat × va_E} (h : (zset w is w1)[k]? = some q) : ∃ q0, w[k]? = some q0 ∧ q0.1 = q.1 := by
  rcases zset_at is w1 w k q h with ⟨j, h1, h2⟩ | ⟨h1, h2⟩ | ⟨j, h1, h2, h3⟩
  · have hj : (is.map (fun i => w[i]?))[j]? = some (w[k]?) := by rw [List.getElem?_map, h1]; rfl
    rw [his, List.getElem?_map] at hj
    cases hc : wc[j]? with
    | none => rw [hc] at hj; cases hj
    | some q0 =>
      rw [hc] at hj
      have e1 : some q0 = w[k]? := Option.some.inj hj
      refine ⟨q0, e1.symm, ?_⟩
      have e2 : (wc.map Prod.fst)[j]? = some q0.1 := by rw [List.getElem?_map, hc]; rfl
      rw [← hf, List.getElem?_map, h2] at e2
      exact (Option.some.inj e2).symm
  · exact ⟨q, h2, rfl⟩
  · exact ⟨q, h3, rfl⟩
theorem zset_P {D : va_G} {cl : List vw_C} {A : Nat → Prop} {is : List Nat} {w wc w1 : va_W} {H H1 : Heap} (hP : va_P D cl w H) (hD : va_D A w) (his : is.map (fun i => w[i]?) = wc.map some) (hf : w1.map Prod.fst = wc.map Prod.fst) (hP1 : va_P D cl w1 H1) (hk : ∀ q : Nat, q < H.size → ¬ q ∈ wc.map Prod.fst → H1[q]? = H[q]?) : va_P D cl (zset w is w1) H1 := by
  have hlen : is.length = wc.length := by have := congrArg List.length his; simpa using this
  have hlen1 : w1.length = wc.length := by have := congrArg List.length hf; simpa using this
  intro k q hq
  rcases zset_at is w1 w k q hq with ⟨j, h1, h2⟩ | ⟨h1, h2⟩ | ⟨j, h1, h2, h3⟩
  · exact hP1 j q h2
  · refine (hP k q h2).kept (hk q.1 (hP k q h2).lt (fun hm => h1 ?_))
    obtain ⟨e, he, he2⟩ := List.mem_map.mp hm
    obtain ⟨j, hj⟩ := List.getElem?_of_mem he
    have hj2 : (is.map (fun i => w[i]?))[j]? = some (some e) := by rw [his, List.getElem?_map, hj]; rfl
    rw [List.getElem?_map] at hj2
    cases hi : is[j]? with
    | none => rw [hi] at hj2; cases hj2
    | some i =>
      rw [hi] at hj2
      have e1 : w[i]? = some e := Option.some.inj hj2
      have e2 := hD.1 i k e q e1 h2 he2
      subst e2
      exact List.mem_of_getElem? hi
  · have := (List.getElem?_eq_some_iff.mp h1).1
    omega
theorem zset_D {A : Nat → Prop} {is : List Nat} {w wc w1 : va_W} (hD : va_D A w) (his : is.map (fun i => w[i]?) = wc.map some) (hf : w1.map Prod.fst = wc.map Prod.fst) : va_D A (zset w is w1) := by
  refine ⟨fun i j p q h1 h2 h3 => ?_, fun k q h => ?_⟩
  · obtain ⟨p0, a1, a2⟩ := zset_fst his hf h1
    obtain ⟨q0, b1, b2⟩ := zset_fst his hf h2
    exact hD.1 i j p0 q0 a1 b1 (by rw [a2, b2, h3])
  · obtain ⟨p0, a1, a2⟩ := zset_fst his hf h
    rw [← a2]
    exact hD.2 k p0 a1
theorem zsub_D {A B : Nat → Prop} {is : List Nat} {w wc : va_W} (hD : va_D A w) (hAB : ∀ q, A q → B q) (hnd : va_nd is = true) (his : is.map (fun i => w[i]?) = wc.map some) : va_D B wc := (hD.sub is hnd his).weaken (fun _ _ _ h => hAB _ h)
theorem zsub_P {D : va_G} {cl : List vw_C} {is : List Nat} {w wc : va_W} {H : Heap} (hP : va_P D cl w H) (his : is.map (fun i => w[i]?) = wc.map some) : va_P D cl wc H := by
  intro k q hk
  have h1 : (is.map (fun i => w[i]?))[k]? = some (some q) := by rw [his, List.getElem?_map, hk]; rfl
  rw [List.getElem?_map] at h1
  cases hi : is[k]? with
  | none => rw [hi] at h1; cases h1
  | some i => rw [hi] at h1; exact hP i q (Option.some.inj h1)

/-- behind any call -/
theorem z_back {p : Program} {e : Env} {s : State} {m : MethodId} {args : Array Value} {below : List Frame} {meth : Method} {c : Code} {A : Nat → Prop} {Q : State → Prop} {H : Heap} {locs : List Loc} {ls : Array Slot} {rest st0 : List Value} {is : List Nat} {wc w1 w' : va_W} {r : Option Value}
    (hr : va_Run p l e R s m args below meth c H locs u.1 u.2 0 0 (F0 m pc ls st0) rest (fun st o t => o = .returned r ∧ va_P g.1 vwCl w1 t.heap ∧ va_F (fun q => q ∈ wc.map Prod.fst) st t) (fun q => q ∈ wc.map Prod.fst))
    (hP : va_P g.1 vwCl w H) (hD : va_D A w) (hS : va_S A s.heap H locs) (hl : lv_has ls nL lv) (his : is.map (fun i => w[i]?) = wc.map some) (hf : w1.map Prod.fst = wc.map Prod.fst) (hw : zset w is w1 = w')
    (kk : Z (p, l, e, R, s, m, args, below, meth, c, g, A, s.heap, Q, nL) u w' (pc + 3) lv (r.toList ++ rest)) : W p l e R s m args below meth c H locs u.1 u.2 Q (F0 m pc ls st0) := by
  subst hw
  intro T hT X
  obtain ⟨v, st₀, t, T', L, h0, X', hL, e1, e2, ⟨hv, hP1, hz, hk⟩, st⟩ := hr T hT X
  cases hv
  rw [h0] at hz hk
  have hin : ∀ q, q ∈ wc.map Prod.fst → A q := by
    intro q hq
    obtain ⟨y, hy, rfl⟩ := List.mem_map.mp hq
    obtain ⟨j, hj⟩ := List.getElem?_of_mem hy
    have hj2 : (is.map (fun i => w[i]?))[j]? = some (some y) := by rw [his, List.getElem?_map, hj]; rfl
    rw [List.getElem?_map] at hj2
    cases hi : is[j]? with
    | none => rw [hi] at hj2; cases hj2
    | some i => rw [hi] at hj2; exact hD.2 i y (Option.some.inj hj2)
  obtain ⟨t2, a1, b1⟩ := kk T'.heap (locs ++ L) ls (by rw [e1]; exact zset_P hP hD his hf hP1 hk) (zset_D hD his hf)
    ⟨Nat.le_trans hS.1 (by rw [e1]; exact hz), fun q h1 h2 => by rw [e1, hk q (Nat.lt_of_lt_of_le h1 hS.1) (fun z => h2 (hin q z))]; exact hS.2.1 q h1 h2, fun q hq => by
      rcases List.mem_append.mp hq with h | h
      · exact hS.2.2 q h
      · exact hin _ (hL q h)⟩ hl T' rfl X'
  exact ⟨t2, st t2 a1, b1⟩
/-- the start of a callee's world -/
theorem z_pre {s : State} {A : Nat → Prop} {H : Heap} {locs : List Loc} {is : List Nat} {wc : va_W} {av : List Value} (hK : zK g s) (hA : ∀ q, A q → g.2.2.1 ≤ q) (hP : va_P g.1 vwCl w H) (hD : va_D A w) (hS : va_S A s.heap H locs) (hnd : va_nd is = true) (his : is.map (fun i => w[i]?) = wc.map some) : PreS s H (va_Pc av (fun U => zK g U ∧ va_P g.1 vwCl wc U.heap ∧ va_D (fun q => g.2.2.1 ≤ q) wc)) av :=
  ⟨fun _ U _ _ q => ⟨q.1, zK.blind rfl rfl q.2.1, q.2.2.1, q.2.2.2⟩, fun U hU hW => ⟨rfl, zK.warm hW (fun q h1 h2 => by rw [hU]; exact hS.2.1 q h1 (fun h => h2 (hA q h))) hK, by rw [hU]; exact zsub_P hP his, zsub_D hD hA hnd his⟩⟩
/-- what the tables say of a callee: virtual, static -/
def zVir (y : MethodName) (C : String) (bytes : ByteArray) (maxL : Nat) (ret : Option FieldType) (n : Nat) : Prop := Cond.instanceMethod y ∈ zTB ∧ Cond.selects C y y ∈ zTB ∧ Cond.initialized C ∈ zTB ∧ Cond.code y bytes maxL ret ∈ zTB ∧ y.cls = C ∧ y.cls ≠ "java/lang/invoke/MethodHandle" ∧ y.cls ≠ "java/lang/invoke/VarHandle" ∧ (parseMethodDescriptor y.desc).map (fun d => d.parameters.length) = some n
def zSta (y : MethodName) (bytes : ByteArray) (maxL : Nat) (ret : Option FieldType) (n : Nat) : Prop := Cond.static y ∈ zTB ∧ Cond.initialized y.cls ∈ zTB ∧ Cond.code y bytes maxL ret ∈ zTB ∧ y.cls ≠ "java/lang/invoke/MethodHandle" ∧ y.cls ≠ "java/lang/invoke/VarHandle" ∧ (parseMethodDescriptor y.desc).map (fun d => d.parameters.length) = some n
theorem zG {y : MethodName} {bytes : ByteArray} {maxL : Nat} {ret : Option FieldType} (h : Cond.code y bytes maxL ret ∈ zTB) : GoodIn zTB (Cond.code y bytes maxL ret :: zTB) := fun w hw => by
  rcases List.mem_cons.mp hw with rfl | hw
  · exact ⟨h, zTB_good h⟩
  · exact ⟨hw, zTB_good hw⟩
theorem z_callV (hC : zO x l g R cc nL own) {C : String} {y : MethodName} {rm : Room} {bytes : ByteArray} {maxL n index b ci q0 : Nat} {ret : Option FieldType} {q : vw_C} {fs : List Value} {As : List Value} {wc w1 w' : va_W} {r : Option Value} (hM : Ct l g y bytes maxL ret rm (.ref b :: As) wc r w1)
    (hl0 : Cond.methodLink own index y ∈ zTB) (hv : zVir y C bytes maxL ret n) (hrc : rm.cells = 0) (hrs : rm.slots = 0) (hR : rm.frames + 1 ≤ R.frames ∧ 8 + (maxL + 11) + rm.locals ≤ R.locals)
    (is : List Nat) (his : is.map (fun i => w[i]?) = wc.map some) (hnd : va_nd is = true) (hf : w1.map Prod.fst = wc.map Prod.fst) (hw : zset w is w1 = w') (hc : vwCl[ci]? = some q) (hCq : q.1 = C) (he : w[q0]? = some (b, .inr (ci, fs))) (hn : As.length = n) (hsum : (st.map fun v => v.category).sum ≤ 8) (hd : decode cc pc = .ok (.invokevirtual index, 3)) {st0 : List Value} (hst : As.reverse ++ .ref b :: st = st0) (hu : u.1 ≤ R.cells ∧ u.2 ≤ R.slots) {st1 : List Value} (hs1 : r.toList ++ st = st1)
    (kk : Z x u w' (pc + 3) lv st1) : Z x u w pc lv st0 := by
  obtain ⟨p, l', e, R', s, m, args, below, meth, c, g', A, H0, Q, nL'⟩ := x
  obtain ⟨rfl, rfl, rfl, rfl, ⟨hx, hb, hml, hown, hts⟩, hK, rfl, hA⟩ := hC
  subst hst hCq hs1
  obtain ⟨v1, v2, v3, v4, v5⟩ := hv
  have hT : GoodIn zTB (wsV own index q.1 y (Cond.code y bytes maxL ret :: zTB)) := by
    intro w hw
    rcases List.mem_append.mp hw with h | h
    · rcases List.mem_cons.mp h with rfl | h
      · exact ⟨hl0, zTB_good hl0⟩
      · rcases List.mem_cons.mp h with rfl | h
        · exact ⟨v1, zTB_good v1⟩
        · rcases List.mem_cons.mp h with rfl | h
          · exact ⟨v2, zTB_good v2⟩
          · rcases List.mem_cons.mp h with rfl | h
            · exact ⟨v3, zTB_good v3⟩
            · cases h
    · exact zG v4 w h
  exact fun H locs ls hP hD hS hl => z_back (va_runV (As := As) (rest := st) ⟨hx, hb, hml, hown, hts⟩ hM (cwV n hts hT rfl hrc hrs v5 hR) ⟨(z_pre (av := .ref b :: As) hK hA hP hD hS hnd his).1, va_recv hK.1 hP hc he, (z_pre hK hA hP hD hS hnd his).2⟩ rfl hn hl.1 rfl (lv_room hsum) hd hu) hP hD hS hl his hf hw kk
theorem z_callS (hC : zO x l g R cc nL own) {y : MethodName} {rm : Room} {bytes : ByteArray} {maxL n index : Nat} {ret : Option FieldType} {As : List Value} {wc w1 w' : va_W} {r : Option Value} (hM : Ct l g y bytes maxL ret rm As wc r w1)
    (hl0 : Cond.methodLink own index y ∈ zTB) (hv : zSta y bytes maxL ret n) (hrc : rm.cells = 0) (hrs : rm.slots = 0) (hR : rm.frames + 1 ≤ R.frames ∧ 8 + (maxL + 11) + rm.locals ≤ R.locals)
    (is : List Nat) (his : is.map (fun i => w[i]?) = wc.map some) (hnd : va_nd is = true) (hf : w1.map Prod.fst = wc.map Prod.fst) (hw : zset w is w1 = w') (hn : As.length = n) (hsum : (st.map fun v => v.category).sum ≤ 8) (hd : decode cc pc = .ok (.invokestatic index, 3)) {st0 : List Value} (hst : As.reverse ++ st = st0) (hu : u.1 ≤ R.cells ∧ u.2 ≤ R.slots) {st1 : List Value} (hs1 : r.toList ++ st = st1)
    (kk : Z x u w' (pc + 3) lv st1) : Z x u w pc lv st0 := by
  obtain ⟨p, l', e, R', s, m, args, below, meth, c, g', A, H0, Q, nL'⟩ := x
  obtain ⟨rfl, rfl, rfl, rfl, ⟨hx, hb, hml, hown, hts⟩, hK, rfl, hA⟩ := hC
  subst hst hs1
  obtain ⟨v1, v2, v3, v4⟩ := hv
  exact fun H locs ls hP hD hS hl => z_back (va_runS (As := As) (rest := st) ⟨hx, hb, hml, hown, hts⟩ hM ⟨callB_of n hts (zG v3) rfl hrc hrs (hts _ v2) (hts _ hl0) v4 hR, hts _ v1⟩ (z_pre (av := As) hK hA hP hD hS hnd his) rfl hn hl.1 rfl (lv_room hsum) hd hu) hP hD hS hl his hf hw kk
end ZR
