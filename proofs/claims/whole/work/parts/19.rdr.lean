/-! ===== the class's readers, as functions ===== -/
section ZU
variable {x : ZC} {l : Launch} {g : ZG} {R : Room} {cc : ByteArray} {nL : Nat} {own : String} {u : Nat × Nat} {w : va_W} {pc : Nat} {lv : List (Nat × Value)} {st : List Value}
/-- a call of an inherited or abstract method -/
theorem z_callU (hC : zO x l g R cc nL own) {C owner : String} {xm y : MethodName} {rm : Room} {bytes : ByteArray} {maxL n index b ci q0 : Nat} {ret : Option FieldType} {q : vw_C} {fs : List Value} {As : List Value} {wc w1 w' : va_W} {r : Option Value} (hM : Ct l g y bytes maxL ret rm (.ref b :: As) wc r w1)
    (hl0 : Cond.methodLink own index xm ∈ zTB) (hsm : Cond.sameMethod xm.cls owner xm.name xm.desc ∈ zTB) (hse : Cond.selects C xm y ∈ zTB) (hin : Cond.instanceMethod y ∈ zTB) (hini : Cond.initialized y.cls ∈ zTB) (hco : Cond.code y bytes maxL ret ∈ zTB) (jd : Nat) (hdc : zND[jd]? = some ⟨owner, xm.name, xm.desc⟩) (hdy : owner ≠ "java/lang/invoke/MethodHandle" ∧ owner ≠ "java/lang/invoke/VarHandle" ∧ (parseMethodDescriptor xm.desc).map (fun d => d.parameters.length) = some n) (hrc : rm.cells = 0) (hrs : rm.slots = 0) (hR : rm.frames + 1 ≤ R.frames ∧ 8 + (maxL + 11) + rm.locals ≤ R.locals)
    (is : List Nat) (his : is.map (fun i => w[i]?) = wc.map some) (hnd : va_nd is = true) (hf : w1.map Prod.fst = wc.map Prod.fst) (hw : zset w is w1 = w') (hc : vwCl[ci]? = some q) (hCq : q.1 = C) (he : w[q0]? = some (b, .inr (ci, fs))) (hn : As.length = n) (hsum : (st.map fun v => v.category).sum ≤ 8) (hd : decode cc pc = .ok (.invokevirtual index, 3)) {st0 : List Value} (hst : As.reverse ++ .ref b :: st = st0) (hu : u.1 ≤ R.cells ∧ u.2 ≤ R.slots) {st1 : List Value} (hs1 : r.toList ++ st = st1)
    (kk : Z x u w' (pc + 3) lv st1) : Z x u w pc lv st0 := by
  obtain ⟨p, l', e, R', s, m, args, below, meth, c, g', A, H0, Q, nL'⟩ := x
  obtain ⟨rfl, rfl, rfl, rfl, ⟨hx, hb, hml, hown, hts⟩, hK, rfl, hA⟩ := hC
  subst hst hCq hs1
  have hT : GoodIn zTB (va_wsU own index q.1 owner xm y (Cond.code y bytes maxL ret :: zTB)) := by
    intro w hw
    rcases List.mem_append.mp hw with h | h
    · rcases List.mem_cons.mp h with rfl | h
      · exact ⟨hl0, zTB_good hl0⟩
      · rcases List.mem_cons.mp h with rfl | h
        · exact ⟨hsm, zTB_good hsm⟩
        · rcases List.mem_cons.mp h with rfl | h
          · exact ⟨hse, zTB_good hse⟩
          · rcases List.mem_cons.mp h with rfl | h
            · exact ⟨hin, zTB_good hin⟩
            · rcases List.mem_cons.mp h with rfl | h
              · exact ⟨hini, zTB_good hini⟩
              · cases h
    · exact zG hco w h
  exact fun H locs ls hP hD hS hl => z_back (va_runU (As := As) (rest := st) ⟨hx, hb, hml, hown, hts⟩ hM (va_cwA n hts hT rfl hrc hrs (hK.2.1.2.2 _ (List.mem_of_getElem? hdc)) hdy hR) ⟨(z_pre (av := .ref b :: As) hK hA hP hD hS hnd his).1, va_recv hK.1 hP hc he, (z_pre hK hA hP hD hS hnd his).2⟩ rfl hn hl.1 rfl (lv_room hsum) hd hu) hP hD hS hl his hf hw kk
end ZU
theorem tvL_rng (n : Nat) (f : Nat → Int32) : ∀ (k : Nat) (v : Int) (p : Nat), p ≤ n → p ≤ (tvL n f k v p).2 ∧ (tvL n f k v p).2 ≤ n
  | 0, _, _, h => ⟨Nat.le_refl _, h⟩
  | k + 1, v, p, h => by
    simp only [tvL]
    split
    · next c =>
      have := isD_lt c
      have := tvL_rng n f k (v * 10 + (sN n f p).toInt - 48) (p + 1) (by omega)
      omega
    · exact ⟨Nat.le_refl _, h⟩
theorem tvL_val (n : Nat) (f : Nat → Int32) : ∀ (k : Nat) (v B : Int) (p : Nat), 0 ≤ v → v < B → 0 ≤ (tvL n f k v p).1 ∧ (tvL n f k v p).1 < B * 10 ^ k
  | 0, v, B, p, h0, h => by
    show 0 ≤ v ∧ v < B * 10 ^ 0
    omega
  | k + 1, v, B, p, h0, h => by
    simp only [tvL]
    split
    · next c =>
      have h1 : 48 ≤ (sN n f p).toInt ∧ (sN n f p).toInt ≤ 57 := of_decide_eq_true c
      have := tvL_val n f k (v * 10 + (sN n f p).toInt - 48) (B * 10) (p + 1) (by omega) (by omega)
      rw [show B * 10 ^ (k + 1) = B * 10 * 10 ^ k by rw [Int.pow_succ]; rw [Int.mul_assoc, Int.mul_comm (10 ^ k) 10]]
      exact this
    · refine ⟨h0, Int.lt_of_lt_of_le h ?_⟩
      have h2 : (0 : Int) < 10 ^ (k + 1) := Int.pow_pos (by decide)
      have h3 : B * 1 ≤ B * 10 ^ (k + 1) := Int.mul_le_mul_of_nonneg_left (show (1 : Int) ≤ 10 ^ (k + 1) by omega) (by omega)
      omega
theorem tvR_rng (n : Nat) (f : Nat → Int32) (p : Nat) : -1 ≤ tvR n f p ∧ tvR n f p < 100000 := by
  have h := tvL_val n f 5 0 1 p (by decide) (by decide)
  unfold tvR
  split
  · decide
  · have e : (1 : Int) * 10 ^ 5 = 100000 := by decide
    omega
theorem tvP_rng (n : Nat) (f : Nat → Int32) (p : Nat) (h : p ≤ n) : p ≤ tvP n f p ∧ tvP n f p ≤ n := tvL_rng n f 5 0 p h
theorem sN_lt {n : Nat} {f : Nat → Int32} {p k : Nat} (h : sN n f p = iI ((k : Nat) : Int)) (hk : k < 256) : p < n := by
  rcases Nat.lt_or_ge p n with q | q
  · exact q
  · unfold sN at h
    rw [if_neg (by omega)] at h
    have h2 := (iI_eq (a := -1) (b := (k : Int)) (by omega) (by omega)).mp h
    omega
abbrev RS : Type := Nat × Nat × (Nat → QD) × Nat × (Nat → Int32)
def tkN (n : Nat) (f : Nat → Int32) (xc : Nat) (xn : Nat → Nat) (xl : Nat → Int32) (s : RS) : Int × RS :=
  if rowE n f (n - s.1) s.1 = s.1 then (-1, s)
  else if fnd (nmB xn xl n f s.1 (rowE n f (n - s.1) s.1)) xc 0 = -1 then (-1, (s.1, s.2.1, s.2.2.1, rowE n f (n - s.1) s.1 - s.1, kpF s.2.2.2.2 n f s.1 (rowE n f (n - s.1) s.1)))
  else if 40 ≤ s.2.1 then (-1, s)
  else (fnd (nmB xn xl n f s.1 (rowE n f (n - s.1) s.1)) xc 0, (rowE n f (n - s.1) s.1, s.2))
theorem tkN_ok {n : Nat} {f : Nat → Int32} {xc : Nat} {xn : Nat → Nat} {xl : Nat → Int32} {s : RS} {w : Int × RS} (hw : w = tkN n f xc xn xl s) (h1 : s.1 ≤ n) (h2 : s.2.1 ≤ 40) (hc : xc ≤ 8) : w.2.1 ≤ n ∧ w.2.2.1 ≤ 40 ∧ s.2.1 ≤ w.2.2.1 ∧ -1 ≤ w.1 ∧ w.1 < 8 := by
  have a := rowE_rng n f (n - s.1) s.1
  have b := fnd_rng (nmB xn xl n f s.1 (rowE n f (n - s.1) s.1)) xc 0
  subst hw
  unfold tkN
  repeat' split
  all_goals dsimp only
  all_goals omega
/-- a node more behind, the place p -/
def apB (s : RS) (p : Nat) (q : QD) : Bool × RS := if s.2.1 < 40 then (true, (p, s.2.1 + 1, up s.2.2.1 s.2.1 q, s.2.2.2)) else (false, (p, s.2))
def tkG (n : Nat) (f : Nat → Int32) (s : RS) (ix lo : Int) : Bool × RS :=
  if tvR n f s.1 = -1 then (false, (tvP n f s.1, s.2))
  else if tvR n f s.1 < lo then (false, s)
  else apB s (tvP n f s.1) (iI ((1 : Nat) : Int), iI ix, iI lo, iI (tvR n f s.1))
theorem apB_ok {n : Nat} {s : RS} {p : Nat} {q : QD} (h1 : p ≤ n) (h2 : s.2.1 ≤ 40) : (apB s p q).2.1 ≤ n ∧ (apB s p q).2.2.1 ≤ 40 ∧ s.2.1 ≤ (apB s p q).2.2.1 := by
  unfold apB
  split
  all_goals dsimp only
  all_goals omega
theorem tkG_ok {n : Nat} {f : Nat → Int32} {s : RS} {ix lo : Int} {w : Bool × RS} (hw : w = tkG n f s ix lo) (h1 : s.1 ≤ n) (h2 : s.2.1 ≤ 40) : w.2.1 ≤ n ∧ w.2.2.1 ≤ 40 ∧ s.2.1 ≤ w.2.2.1 := by
  have a := tvP_rng n f s.1 h1
  subst hw
  unfold tkG
  split
  · dsimp only; omega
  · split
    · dsimp only; omega
    · exact apB_ok a.2 h2
theorem k_So_take_T (l : Launch) (g : ZG) (s0 s1 sn sp : Nat) (sf : Nat → Int32) (c : Int32) (hsn : sn ≤ 200) (hsp : sp ≤ sn) (hcs : sN sn sf sp = c)   : Ct l g y_So_take c_So_take 2 (some .boolean) { frames := 1, cells := 0, slots := 0, locals := 21 } [.ref s0, .int c] [(s0, .inr (6, [.ref s1, .int (iI ((sn : Nat) : Int)), .int (iI ((sp : Nat) : Int))])), (s1, .inl ((g.2.1 0), 200, .inl sf))] (some (.int (iI (bI true)))) [(s0, .inr (6, [.ref s1, .int (iI ((sn : Nat) : Int)), .int (iI ((sp + 1 : Nat) : Int))])), (s1, .inl ((g.2.1 0), 200, .inl sf))] := by
  have h := k_So_take l g s0 s1 sn sp sf c hsn hsp
  rw [if_pos hcs, decide_eq_true hcs] at h
  exact h
theorem k_So_take_F (l : Launch) (g : ZG) (s0 s1 sn sp : Nat) (sf : Nat → Int32) (c : Int32) (hsn : sn ≤ 200) (hsp : sp ≤ sn) (hcs : ¬ sN sn sf sp = c)   : Ct l g y_So_take c_So_take 2 (some .boolean) { frames := 1, cells := 0, slots := 0, locals := 21 } [.ref s0, .int c] [(s0, .inr (6, [.ref s1, .int (iI ((sn : Nat) : Int)), .int (iI ((sp : Nat) : Int))])), (s1, .inl ((g.2.1 0), 200, .inl sf))] (some (.int (iI (bI false)))) [(s0, .inr (6, [.ref s1, .int (iI ((sn : Nat) : Int)), .int (iI ((sp : Nat) : Int))])), (s1, .inl ((g.2.1 0), 200, .inl sf))] := by
  have h := k_So_take l g s0 s1 sn sp sf c hsn hsp
  rw [if_neg hcs, decide_eq_false hcs] at h
  exact h
theorem k_Tr_append_T (l : Launch) (g : ZG) (t0 t1 t2 t3 t4 tn : Nat) (nd : Nat → QD) (a b c d : Int32) (htn : tn ≤ 40) (hcs : tn < 40)   : Ct l g y_Tr_append c_Tr_append 5 (some .boolean) { frames := 2, cells := 0, slots := 0, locals := 46 } [.ref t0, .int a, .int b, .int c, .int d] [(t0, .inr (7, [.ref t1, .ref t2, .ref t3, .ref t4, .int (iI ((tn : Nat) : Int))])), (t1, .inl ((g.2.1 0), 40, .inl (q1 nd))), (t2, .inl ((g.2.1 0), 40, .inl (q2 nd))), (t3, .inl ((g.2.1 0), 40, .inl (q3 nd))), (t4, .inl ((g.2.1 0), 40, .inl (q4 nd)))] (some (.int (iI (bI true)))) [(t0, .inr (7, [.ref t1, .ref t2, .ref t3, .ref t4, .int (iI ((tn + 1 : Nat) : Int))])), (t1, .inl ((g.2.1 0), 40, .inl (q1 (up nd tn (a, b, c, d))))), (t2, .inl ((g.2.1 0), 40, .inl (q2 (up nd tn (a, b, c, d))))), (t3, .inl ((g.2.1 0), 40, .inl (q3 (up nd tn (a, b, c, d))))), (t4, .inl ((g.2.1 0), 40, .inl (q4 (up nd tn (a, b, c, d)))))] := by
  have h := k_Tr_append l g t0 t1 t2 t3 t4 tn nd a b c d htn
  rw [if_pos hcs, if_pos hcs, decide_eq_true hcs] at h
  exact h
theorem k_Tr_append_F (l : Launch) (g : ZG) (t0 t1 t2 t3 t4 tn : Nat) (nd : Nat → QD) (a b c d : Int32) (htn : tn ≤ 40) (hcs : ¬ tn < 40)   : Ct l g y_Tr_append c_Tr_append 5 (some .boolean) { frames := 2, cells := 0, slots := 0, locals := 46 } [.ref t0, .int a, .int b, .int c, .int d] [(t0, .inr (7, [.ref t1, .ref t2, .ref t3, .ref t4, .int (iI ((tn : Nat) : Int))])), (t1, .inl ((g.2.1 0), 40, .inl (q1 nd))), (t2, .inl ((g.2.1 0), 40, .inl (q2 nd))), (t3, .inl ((g.2.1 0), 40, .inl (q3 nd))), (t4, .inl ((g.2.1 0), 40, .inl (q4 nd)))] (some (.int (iI (bI false)))) [(t0, .inr (7, [.ref t1, .ref t2, .ref t3, .ref t4, .int (iI ((tn : Nat) : Int))])), (t1, .inl ((g.2.1 0), 40, .inl (q1 nd))), (t2, .inl ((g.2.1 0), 40, .inl (q2 nd))), (t3, .inl ((g.2.1 0), 40, .inl (q3 nd))), (t4, .inl ((g.2.1 0), 40, .inl (q4 nd)))] := by
  have h := k_Tr_append l g t0 t1 t2 t3 t4 tn nd a b c d htn
  rw [if_neg hcs, if_neg hcs, decide_eq_false hcs] at h
  exact h
theorem k_Tr_insert_T (l : Launch) (g : ZG) (t0 t1 t2 t3 t4 tn : Nat) (nd : Nat → QD) (p : Nat) (s : Int32) (htn : tn ≤ 40) (hp : p ≤ tn) (hcs : tn < 40)   : Ct l g y_Tr_insert c_Tr_insert 4 (some .boolean) { frames := 3, cells := 0, slots := 0, locals := 69 } [.ref t0, .int (iI ((p : Nat) : Int)), .int s] [(t0, .inr (7, [.ref t1, .ref t2, .ref t3, .ref t4, .int (iI ((tn : Nat) : Int))])), (t1, .inl ((g.2.1 0), 40, .inl (q1 nd))), (t2, .inl ((g.2.1 0), 40, .inl (q2 nd))), (t3, .inl ((g.2.1 0), 40, .inl (q3 nd))), (t4, .inl ((g.2.1 0), 40, .inl (q4 nd)))] (some (.int (iI (bI true)))) [(t0, .inr (7, [.ref t1, .ref t2, .ref t3, .ref t4, .int (iI ((tn + 1 : Nat) : Int))])), (t1, .inl ((g.2.1 0), 40, .inl (q1 (insN nd tn p (s, iI (-1), iI (-1), iI (-1)))))), (t2, .inl ((g.2.1 0), 40, .inl (q2 (insN nd tn p (s, iI (-1), iI (-1), iI (-1)))))), (t3, .inl ((g.2.1 0), 40, .inl (q3 (insN nd tn p (s, iI (-1), iI (-1), iI (-1)))))), (t4, .inl ((g.2.1 0), 40, .inl (q4 (insN nd tn p (s, iI (-1), iI (-1), iI (-1))))))] := by
  have h := k_Tr_insert l g t0 t1 t2 t3 t4 tn nd p s htn hp
  rw [if_pos hcs, if_pos hcs, decide_eq_true hcs] at h
  exact h
theorem k_Tr_insert_F (l : Launch) (g : ZG) (t0 t1 t2 t3 t4 tn : Nat) (nd : Nat → QD) (p : Nat) (s : Int32) (htn : tn ≤ 40) (hp : p ≤ tn) (hcs : ¬ tn < 40)   : Ct l g y_Tr_insert c_Tr_insert 4 (some .boolean) { frames := 3, cells := 0, slots := 0, locals := 69 } [.ref t0, .int (iI ((p : Nat) : Int)), .int s] [(t0, .inr (7, [.ref t1, .ref t2, .ref t3, .ref t4, .int (iI ((tn : Nat) : Int))])), (t1, .inl ((g.2.1 0), 40, .inl (q1 nd))), (t2, .inl ((g.2.1 0), 40, .inl (q2 nd))), (t3, .inl ((g.2.1 0), 40, .inl (q3 nd))), (t4, .inl ((g.2.1 0), 40, .inl (q4 nd)))] (some (.int (iI (bI false)))) [(t0, .inr (7, [.ref t1, .ref t2, .ref t3, .ref t4, .int (iI ((tn : Nat) : Int))])), (t1, .inl ((g.2.1 0), 40, .inl (q1 nd))), (t2, .inl ((g.2.1 0), 40, .inl (q2 nd))), (t3, .inl ((g.2.1 0), 40, .inl (q3 nd))), (t4, .inl ((g.2.1 0), 40, .inl (q4 nd)))] := by
  have h := k_Tr_insert l g t0 t1 t2 t3 t4 tn nd p s htn hp
  rw [if_neg hcs, if_neg hcs, decide_eq_false hcs] at h
  exact h
set_option maxHeartbeats 4000000 in
set_option maxRecDepth 100000 in
theorem k_Rd_takeName_b (l : Launch) (g : ZG) (d0 s0 s1 sn sp : Nat) (sf : Nat → Int32) (t0 t1 t2 t3 t4 tn : Nat) (nd : Nat → QD) (x0 x1 x2 x3 x4 xc : Nat) (xl : Nat → Int32) (xn : Nat → Nat) (xo : Nat → Bool) (ch : Nat → Nat) (u0 u1 un : Nat) (uf : Nat → Int32) (hsn : sn ≤ 200) (hsp : sp ≤ sn) (htn : tn ≤ 40) (hxc : xc ≤ 8) (hxn : ∀ j, j < xc → xn j ≤ 8)  (w : Int × RS) (hw : w = tkN sn sf xc xn xl (sp, tn, nd, un, uf)) : Ct l g y_Rd_takeName c_Rd_takeName 3 (some .int) { frames := 4, cells := 0, slots := 0, locals := 91 } [.ref d0] [(d0, .inr (0, [.ref s0, .ref t0, .ref x0, .ref u0])), (s0, .inr (6, [.ref s1, .int (iI ((sn : Nat) : Int)), .int (iI ((sp : Nat) : Int))])), (s1, .inl ((g.2.1 0), 200, .inl sf)), (t0, .inr (7, [.ref t1, .ref t2, .ref t3, .ref t4, .int (iI ((tn : Nat) : Int))])), (t1, .inl ((g.2.1 0), 40, .inl (q1 nd))), (t2, .inl ((g.2.1 0), 40, .inl (q2 nd))), (t3, .inl ((g.2.1 0), 40, .inl (q3 nd))), (t4, .inl ((g.2.1 0), 40, .inl (q4 nd))), (x0, .inr (3, [.ref x1, .ref x2, .ref x3, .ref x4, .int (iI ((xc : Nat) : Int))])), (x1, .inl ((g.2.1 0), 64, .inl xl)), (x2, .inl ((g.2.1 0), 8, .inl (nF xn))), (x3, .inl ((g.2.1 2), 8, .inl (bF xo))), (x4, .inl ((g.2.1 0), 9, .inl (nF ch))), (u0, .inr (8, [.ref u1, .int (iI ((un : Nat) : Int))])), (u1, .inl ((g.2.1 0), 200, .inl uf))] (some (.int (iI w.1))) [(d0, .inr (0, [.ref s0, .ref t0, .ref x0, .ref u0])), (s0, .inr (6, [.ref s1, .int (iI ((sn : Nat) : Int)), .int (iI ((w.2.1 : Nat) : Int))])), (s1, .inl ((g.2.1 0), 200, .inl sf)), (t0, .inr (7, [.ref t1, .ref t2, .ref t3, .ref t4, .int (iI ((w.2.2.1 : Nat) : Int))])), (t1, .inl ((g.2.1 0), 40, .inl (q1 w.2.2.2.1))), (t2, .inl ((g.2.1 0), 40, .inl (q2 w.2.2.2.1))), (t3, .inl ((g.2.1 0), 40, .inl (q3 w.2.2.2.1))), (t4, .inl ((g.2.1 0), 40, .inl (q4 w.2.2.2.1))), (x0, .inr (3, [.ref x1, .ref x2, .ref x3, .ref x4, .int (iI ((xc : Nat) : Int))])), (x1, .inl ((g.2.1 0), 64, .inl xl)), (x2, .inl ((g.2.1 0), 8, .inl (nF xn))), (x3, .inl ((g.2.1 2), 8, .inl (bF xo))), (x4, .inl ((g.2.1 0), 9, .inl (nF ch))), (u0, .inr (8, [.ref u1, .int (iI ((w.2.2.2.2.1 : Nat) : Int))])), (u1, .inl ((g.2.1 0), 200, .inl w.2.2.2.2.2))] := by
  refine ct_i (lv := [(0, .ref d0)]) (by decide) rfl (Nat.le_of_ble_eq_true rfl) rfl ?_
  intro x hC hR
  have hr9 := rowE_rng sn sf (sn - sp) sp
  have hf9 := fnd_rng (nmB xn xl sn sf sp (rowE sn sf (sn - sp) sp)) xc 0
  refine z_aload_n hC d_Rd_takeName_0 rfl 0 rfl ?_
  refine z_get hC hi_Bt 0 rfl rfl 0 (by decide) mw_156 (Or.inl rfl) rfl d_Rd_takeName_1 ?_
  refine z_callV (q0 := 1) (ci := 6) (w' := [(d0, .inr (0, [.ref s0, .ref t0, .ref x0, .ref u0])), (s0, .inr (6, [.ref s1, .int (iI ((sn : Nat) : Int)), .int (iI ((sp : Nat) : Int))])), (s1, .inl ((g.2.1 0), 200, .inl sf)), (t0, .inr (7, [.ref t1, .ref t2, .ref t3, .ref t4, .int (iI ((tn : Nat) : Int))])), (t1, .inl ((g.2.1 0), 40, .inl (q1 nd))), (t2, .inl ((g.2.1 0), 40, .inl (q2 nd))), (t3, .inl ((g.2.1 0), 40, .inl (q3 nd))), (t4, .inl ((g.2.1 0), 40, .inl (q4 nd))), (x0, .inr (3, [.ref x1, .ref x2, .ref x3, .ref x4, .int (iI ((xc : Nat) : Int))])), (x1, .inl ((g.2.1 0), 64, .inl xl)), (x2, .inl ((g.2.1 0), 8, .inl (nF xn))), (x3, .inl ((g.2.1 2), 8, .inl (bF xo))), (x4, .inl ((g.2.1 0), 9, .inl (nF ch))), (u0, .inr (8, [.ref u1, .int (iI ((un : Nat) : Int))])), (u1, .inl ((g.2.1 0), 200, .inl uf))]) (st1 := [.int (iI ((rowE sn sf (sn - sp) sp : Nat) : Int))]) hC (k_So_rowEnd l g s0 s1 sn sp sf hsn hsp) mw_461 zv_So_rowEnd rfl rfl ⟨Nat.le_of_ble_eq_true rfl, Nat.le_of_ble_eq_true rfl⟩ [1, 2] rfl rfl rfl rfl rfl rfl rfl rfl (Nat.le_of_ble_eq_true rfl) d_Rd_takeName_4 rfl ⟨Nat.zero_le _, Nat.zero_le _⟩ rfl ?_
  refine z_istore_n (lv' := [(1, .int (iI ((rowE sn sf (sn - sp) sp : Nat) : Int))), (0, .ref d0)]) hC d_Rd_takeName_7 rfl (by decide) rfl ?_
  refine z_iload_n hC d_Rd_takeName_8 rfl 0 rfl ?_
  refine z_aload_n hC d_Rd_takeName_9 rfl 1 rfl ?_
  refine z_get hC hi_Bt 0 rfl rfl 0 (by decide) mw_156 (Or.inl rfl) rfl d_Rd_takeName_10 ?_
  refine z_callV (q0 := 1) (ci := 6) (w' := [(d0, .inr (0, [.ref s0, .ref t0, .ref x0, .ref u0])), (s0, .inr (6, [.ref s1, .int (iI ((sn : Nat) : Int)), .int (iI ((sp : Nat) : Int))])), (s1, .inl ((g.2.1 0), 200, .inl sf)), (t0, .inr (7, [.ref t1, .ref t2, .ref t3, .ref t4, .int (iI ((tn : Nat) : Int))])), (t1, .inl ((g.2.1 0), 40, .inl (q1 nd))), (t2, .inl ((g.2.1 0), 40, .inl (q2 nd))), (t3, .inl ((g.2.1 0), 40, .inl (q3 nd))), (t4, .inl ((g.2.1 0), 40, .inl (q4 nd))), (x0, .inr (3, [.ref x1, .ref x2, .ref x3, .ref x4, .int (iI ((xc : Nat) : Int))])), (x1, .inl ((g.2.1 0), 64, .inl xl)), (x2, .inl ((g.2.1 0), 8, .inl (nF xn))), (x3, .inl ((g.2.1 2), 8, .inl (bF xo))), (x4, .inl ((g.2.1 0), 9, .inl (nF ch))), (u0, .inr (8, [.ref u1, .int (iI ((un : Nat) : Int))])), (u1, .inl ((g.2.1 0), 200, .inl uf))]) (st1 := [.int (iI ((sp : Nat) : Int)), .int (iI ((rowE sn sf (sn - sp) sp : Nat) : Int))]) hC (k_So_place l g s0 s1 sn sp sf) mw_462 zv_So_place rfl rfl ⟨Nat.le_of_ble_eq_true rfl, Nat.le_of_ble_eq_true rfl⟩ [1, 2] rfl rfl rfl rfl rfl rfl rfl rfl (Nat.le_of_ble_eq_true rfl) d_Rd_takeName_13 rfl ⟨Nat.zero_le _, Nat.zero_le _⟩ rfl ?_
  refine z_icmp_ne (tgt := 21) hC ((rowE sn sf (sn - sp) sp : Nat) : Int) ((sp : Nat) : Int) d_Rd_takeName_16 rfl (iI_t (by omega)) (iI_t (by omega)) (fun c_1 => ?_) (fun c_1 => ?_)
  · refine z_aload_n hC d_Rd_takeName_21 rfl 1 rfl ?_
    refine z_get hC hi_Bt 0 rfl rfl 2 (by decide) mw_166 (Or.inl rfl) rfl d_Rd_takeName_22 ?_
    refine z_aload_n hC d_Rd_takeName_25 rfl 1 rfl ?_
    refine z_get hC hi_Bt 0 rfl rfl 0 (by decide) mw_156 (Or.inl rfl) rfl d_Rd_takeName_26 ?_
    refine z_iload_n hC d_Rd_takeName_29 rfl 0 rfl ?_
    refine z_callV (q0 := 8) (ci := 3) (w' := [(d0, .inr (0, [.ref s0, .ref t0, .ref x0, .ref u0])), (s0, .inr (6, [.ref s1, .int (iI ((sn : Nat) : Int)), .int (iI ((sp : Nat) : Int))])), (s1, .inl ((g.2.1 0), 200, .inl sf)), (t0, .inr (7, [.ref t1, .ref t2, .ref t3, .ref t4, .int (iI ((tn : Nat) : Int))])), (t1, .inl ((g.2.1 0), 40, .inl (q1 nd))), (t2, .inl ((g.2.1 0), 40, .inl (q2 nd))), (t3, .inl ((g.2.1 0), 40, .inl (q3 nd))), (t4, .inl ((g.2.1 0), 40, .inl (q4 nd))), (x0, .inr (3, [.ref x1, .ref x2, .ref x3, .ref x4, .int (iI ((xc : Nat) : Int))])), (x1, .inl ((g.2.1 0), 64, .inl xl)), (x2, .inl ((g.2.1 0), 8, .inl (nF xn))), (x3, .inl ((g.2.1 2), 8, .inl (bF xo))), (x4, .inl ((g.2.1 0), 9, .inl (nF ch))), (u0, .inr (8, [.ref u1, .int (iI ((un : Nat) : Int))])), (u1, .inl ((g.2.1 0), 200, .inl uf))]) (st1 := [.int (iI (fnd (nmB xn xl sn sf sp (rowE sn sf (sn - sp) sp)) xc 0))]) hC (k_Ix_find l g x0 x1 x2 x3 x4 xc xl xn xo ch s0 s1 sn sp sf (rowE sn sf (sn - sp) sp) hxc hxn hsn hsp (by omega) (by omega)) mw_463 zv_Ix_find rfl rfl ⟨Nat.le_of_ble_eq_true rfl, Nat.le_of_ble_eq_true rfl⟩ [8, 9, 10, 11, 12, 1, 2] rfl rfl rfl rfl rfl rfl rfl rfl (Nat.le_of_ble_eq_true rfl) d_Rd_takeName_30 rfl ⟨Nat.zero_le _, Nat.zero_le _⟩ rfl ?_
    refine z_istore_n (lv' := [(2, .int (iI (fnd (nmB xn xl sn sf sp (rowE sn sf (sn - sp) sp)) xc 0))), (1, .int (iI ((rowE sn sf (sn - sp) sp : Nat) : Int))), (0, .ref d0)]) hC d_Rd_takeName_33 rfl (by decide) rfl ?_
    refine z_iload_n hC d_Rd_takeName_34 rfl 0 rfl ?_
    refine z_iconst hC d_Rd_takeName_35 ?_
    refine z_icmp_ne (tgt := 53) hC (fnd (nmB xn xl sn sf sp (rowE sn sf (sn - sp) sp)) xc 0) (-1) d_Rd_takeName_36 rfl (iI_t (by omega)) (iI_t (by omega)) (fun c_2 => ?_) (fun c_2 => ?_)
    · refine z_aload_n hC d_Rd_takeName_53 rfl 2 rfl ?_
      refine z_get hC hi_Bt 0 rfl rfl 1 (by decide) mw_161 (Or.inl rfl) rfl d_Rd_takeName_54 ?_
      refine z_callV (q0 := 3) (ci := 7) (w' := [(d0, .inr (0, [.ref s0, .ref t0, .ref x0, .ref u0])), (s0, .inr (6, [.ref s1, .int (iI ((sn : Nat) : Int)), .int (iI ((sp : Nat) : Int))])), (s1, .inl ((g.2.1 0), 200, .inl sf)), (t0, .inr (7, [.ref t1, .ref t2, .ref t3, .ref t4, .int (iI ((tn : Nat) : Int))])), (t1, .inl ((g.2.1 0), 40, .inl (q1 nd))), (t2, .inl ((g.2.1 0), 40, .inl (q2 nd))), (t3, .inl ((g.2.1 0), 40, .inl (q3 nd))), (t4, .inl ((g.2.1 0), 40, .inl (q4 nd))), (x0, .inr (3, [.ref x1, .ref x2, .ref x3, .ref x4, .int (iI ((xc : Nat) : Int))])), (x1, .inl ((g.2.1 0), 64, .inl xl)), (x2, .inl ((g.2.1 0), 8, .inl (nF xn))), (x3, .inl ((g.2.1 2), 8, .inl (bF xo))), (x4, .inl ((g.2.1 0), 9, .inl (nF ch))), (u0, .inr (8, [.ref u1, .int (iI ((un : Nat) : Int))])), (u1, .inl ((g.2.1 0), 200, .inl uf))]) (st1 := [.int (iI (bI (decide (40 ≤ tn))))]) hC (k_Tr_isFull l g t0 t1 t2 t3 t4 tn nd htn) mw_470 zv_Tr_isFull rfl rfl ⟨Nat.le_of_ble_eq_true rfl, Nat.le_of_ble_eq_true rfl⟩ [3, 4, 5, 6, 7] rfl rfl rfl rfl rfl rfl rfl rfl (Nat.le_of_ble_eq_true rfl) d_Rd_takeName_57 rfl ⟨Nat.zero_le _, Nat.zero_le _⟩ rfl ?_
      refine z_ifeqD (tgt := 65) hC d_Rd_takeName_60 rfl (fun c_3 => ?_) (fun c_3 => ?_)
      · refine z_aload_n hC d_Rd_takeName_65 rfl 2 rfl ?_
        refine z_get hC hi_Bt 0 rfl rfl 0 (by decide) mw_156 (Or.inl rfl) rfl d_Rd_takeName_66 ?_
        refine z_iload_n hC d_Rd_takeName_69 rfl 1 rfl ?_
        refine z_callV (q0 := 1) (ci := 6) (w' := [(d0, .inr (0, [.ref s0, .ref t0, .ref x0, .ref u0])), (s0, .inr (6, [.ref s1, .int (iI ((sn : Nat) : Int)), .int (iI (((rowE sn sf (sn - sp) sp) : Nat) : Int))])), (s1, .inl ((g.2.1 0), 200, .inl sf)), (t0, .inr (7, [.ref t1, .ref t2, .ref t3, .ref t4, .int (iI ((tn : Nat) : Int))])), (t1, .inl ((g.2.1 0), 40, .inl (q1 nd))), (t2, .inl ((g.2.1 0), 40, .inl (q2 nd))), (t3, .inl ((g.2.1 0), 40, .inl (q3 nd))), (t4, .inl ((g.2.1 0), 40, .inl (q4 nd))), (x0, .inr (3, [.ref x1, .ref x2, .ref x3, .ref x4, .int (iI ((xc : Nat) : Int))])), (x1, .inl ((g.2.1 0), 64, .inl xl)), (x2, .inl ((g.2.1 0), 8, .inl (nF xn))), (x3, .inl ((g.2.1 2), 8, .inl (bF xo))), (x4, .inl ((g.2.1 0), 9, .inl (nF ch))), (u0, .inr (8, [.ref u1, .int (iI ((un : Nat) : Int))])), (u1, .inl ((g.2.1 0), 200, .inl uf))]) (st1 := []) hC (k_So_moveTo l g s0 s1 sn sp sf (rowE sn sf (sn - sp) sp)) mw_474 zv_So_moveTo rfl rfl ⟨Nat.le_of_ble_eq_true rfl, Nat.le_of_ble_eq_true rfl⟩ [1, 2] rfl rfl rfl rfl rfl rfl rfl rfl (Nat.le_of_ble_eq_true rfl) d_Rd_takeName_70 rfl ⟨Nat.zero_le _, Nat.zero_le _⟩ rfl ?_
        refine z_iload_n hC d_Rd_takeName_73 rfl 0 rfl ?_
        have hz9 : w = (fnd (nmB xn xl sn sf sp (rowE sn sf (sn - sp) sp)) xc 0, ((rowE sn sf (sn - sp) sp), tn, nd, un, uf)) := by rw [hw]; unfold tkN; (try dsimp only); skip; (try dsimp only); (repeat' split) <;> first | rfl | exact Prod.ext (by assumption) rfl | (exfalso; omega) | (exfalso; contradiction) | (subst_vars; rfl) | (exfalso; simp_all; done)
        subst hz9
        exact Z.eq rfl rfl rfl rfl (hR _ _ d_Rd_takeName_74)
      · refine z_iconst hC d_Rd_takeName_63 ?_
        have hz9 : w = (-1, (sp, tn, nd, un, uf)) := by rw [hw]; unfold tkN; (try dsimp only); skip; (try dsimp only); (repeat' split) <;> first | rfl | exact Prod.ext (by assumption) rfl | (exfalso; omega) | (exfalso; contradiction) | (subst_vars; rfl) | (exfalso; simp_all; done)
        subst hz9
        exact Z.eq rfl rfl rfl rfl (hR _ _ d_Rd_takeName_64)
    · refine z_aload_n hC d_Rd_takeName_39 rfl 2 rfl ?_
      refine z_get hC hi_Bt 0 rfl rfl 3 (by decide) mw_167 (Or.inl rfl) rfl d_Rd_takeName_40 ?_
      refine z_aload_n hC d_Rd_takeName_43 rfl 2 rfl ?_
      refine z_get hC hi_Bt 0 rfl rfl 0 (by decide) mw_156 (Or.inl rfl) rfl d_Rd_takeName_44 ?_
      refine z_iload_n hC d_Rd_takeName_47 rfl 1 rfl ?_
      refine z_callV (q0 := 13) (ci := 8) (w' := [(d0, .inr (0, [.ref s0, .ref t0, .ref x0, .ref u0])), (s0, .inr (6, [.ref s1, .int (iI ((sn : Nat) : Int)), .int (iI ((sp : Nat) : Int))])), (s1, .inl ((g.2.1 0), 200, .inl sf)), (t0, .inr (7, [.ref t1, .ref t2, .ref t3, .ref t4, .int (iI ((tn : Nat) : Int))])), (t1, .inl ((g.2.1 0), 40, .inl (q1 nd))), (t2, .inl ((g.2.1 0), 40, .inl (q2 nd))), (t3, .inl ((g.2.1 0), 40, .inl (q3 nd))), (t4, .inl ((g.2.1 0), 40, .inl (q4 nd))), (x0, .inr (3, [.ref x1, .ref x2, .ref x3, .ref x4, .int (iI ((xc : Nat) : Int))])), (x1, .inl ((g.2.1 0), 64, .inl xl)), (x2, .inl ((g.2.1 0), 8, .inl (nF xn))), (x3, .inl ((g.2.1 2), 8, .inl (bF xo))), (x4, .inl ((g.2.1 0), 9, .inl (nF ch))), (u0, .inr (8, [.ref u1, .int (iI (((rowE sn sf (sn - sp) sp) - sp : Nat) : Int))])), (u1, .inl ((g.2.1 0), 200, .inl (kpF uf sn sf sp (rowE sn sf (sn - sp) sp))))]) (st1 := []) hC (k_Un_keep l g u0 u1 un uf s0 s1 sn sp sf (rowE sn sf (sn - sp) sp) hsn hsp (by omega) (by omega)) mw_464 zv_Un_keep rfl rfl ⟨Nat.le_of_ble_eq_true rfl, Nat.le_of_ble_eq_true rfl⟩ [13, 14, 1, 2] rfl rfl rfl rfl rfl rfl rfl rfl (Nat.le_of_ble_eq_true rfl) d_Rd_takeName_48 rfl ⟨Nat.zero_le _, Nat.zero_le _⟩ rfl ?_
      refine z_iconst hC d_Rd_takeName_51 ?_
      have hz9 : w = (-1, (sp, tn, nd, (rowE sn sf (sn - sp) sp) - sp, kpF uf sn sf sp (rowE sn sf (sn - sp) sp))) := by rw [hw]; unfold tkN; (try dsimp only); skip; (try dsimp only); (repeat' split) <;> first | rfl | exact Prod.ext (by assumption) rfl | (exfalso; omega) | (exfalso; contradiction) | (subst_vars; rfl) | (exfalso; simp_all; done)
      subst hz9
      exact Z.eq rfl rfl rfl rfl (hR _ _ d_Rd_takeName_52)
  · refine z_iconst hC d_Rd_takeName_19 ?_
    have hz9 : w = (-1, (sp, tn, nd, un, uf)) := by rw [hw]; unfold tkN; (try dsimp only); skip; (try dsimp only); (repeat' split) <;> first | rfl | exact Prod.ext (by assumption) rfl | (exfalso; omega) | (exfalso; contradiction) | (subst_vars; rfl) | (exfalso; simp_all; done)
    subst hz9
    exact Z.eq rfl rfl rfl rfl (hR _ _ d_Rd_takeName_20)
set_option maxHeartbeats 4000000 in
set_option maxRecDepth 100000 in
theorem k_Rd_takesGreatest_b (l : Launch) (g : ZG) (d0 s0 s1 sn sp : Nat) (sf : Nat → Int32) (t0 t1 t2 t3 t4 tn : Nat) (nd : Nat → QD) (x0 x1 x2 x3 x4 xc : Nat) (xl : Nat → Int32) (xn : Nat → Nat) (xo : Nat → Bool) (ch : Nat → Nat) (u0 u1 un : Nat) (uf : Nat → Int32) (ix lo : Int) (hsn : sn ≤ 200) (hsp : sp ≤ sn) (htn : tn ≤ 40) (hxc : xc ≤ 8) (hxn : ∀ j, j < xc → xn j ≤ 8) (hix : -2147483648 ≤ ix ∧ ix < 2147483648) (hlo : -2147483648 ≤ lo ∧ lo < 2147483648)  (w : Bool × RS) (hw : w = tkG sn sf (sp, tn, nd, un, uf) ix lo) : Ct l g y_Rd_takesGreatest c_Rd_takesGreatest 5 (some .boolean) { frames := 3, cells := 0, slots := 0, locals := 70 } [.ref d0, .int (iI ix), .int (iI lo)] [(d0, .inr (0, [.ref s0, .ref t0, .ref x0, .ref u0])), (s0, .inr (6, [.ref s1, .int (iI ((sn : Nat) : Int)), .int (iI ((sp : Nat) : Int))])), (s1, .inl ((g.2.1 0), 200, .inl sf)), (t0, .inr (7, [.ref t1, .ref t2, .ref t3, .ref t4, .int (iI ((tn : Nat) : Int))])), (t1, .inl ((g.2.1 0), 40, .inl (q1 nd))), (t2, .inl ((g.2.1 0), 40, .inl (q2 nd))), (t3, .inl ((g.2.1 0), 40, .inl (q3 nd))), (t4, .inl ((g.2.1 0), 40, .inl (q4 nd))), (x0, .inr (3, [.ref x1, .ref x2, .ref x3, .ref x4, .int (iI ((xc : Nat) : Int))])), (x1, .inl ((g.2.1 0), 64, .inl xl)), (x2, .inl ((g.2.1 0), 8, .inl (nF xn))), (x3, .inl ((g.2.1 2), 8, .inl (bF xo))), (x4, .inl ((g.2.1 0), 9, .inl (nF ch))), (u0, .inr (8, [.ref u1, .int (iI ((un : Nat) : Int))])), (u1, .inl ((g.2.1 0), 200, .inl uf))] (some (.int (iI (bI w.1)))) [(d0, .inr (0, [.ref s0, .ref t0, .ref x0, .ref u0])), (s0, .inr (6, [.ref s1, .int (iI ((sn : Nat) : Int)), .int (iI ((w.2.1 : Nat) : Int))])), (s1, .inl ((g.2.1 0), 200, .inl sf)), (t0, .inr (7, [.ref t1, .ref t2, .ref t3, .ref t4, .int (iI ((w.2.2.1 : Nat) : Int))])), (t1, .inl ((g.2.1 0), 40, .inl (q1 w.2.2.2.1))), (t2, .inl ((g.2.1 0), 40, .inl (q2 w.2.2.2.1))), (t3, .inl ((g.2.1 0), 40, .inl (q3 w.2.2.2.1))), (t4, .inl ((g.2.1 0), 40, .inl (q4 w.2.2.2.1))), (x0, .inr (3, [.ref x1, .ref x2, .ref x3, .ref x4, .int (iI ((xc : Nat) : Int))])), (x1, .inl ((g.2.1 0), 64, .inl xl)), (x2, .inl ((g.2.1 0), 8, .inl (nF xn))), (x3, .inl ((g.2.1 2), 8, .inl (bF xo))), (x4, .inl ((g.2.1 0), 9, .inl (nF ch))), (u0, .inr (8, [.ref u1, .int (iI ((w.2.2.2.2.1 : Nat) : Int))])), (u1, .inl ((g.2.1 0), 200, .inl w.2.2.2.2.2))] := by
  refine ct_z (lv := [(0, .ref d0), (1, .int (iI ix)), (2, .int (iI lo))]) (by decide) rfl (Nat.le_of_ble_eq_true rfl) rfl ?_
  intro x hC hR
  have hr9 := tvR_rng sn sf sp
  have hp9 := tvP_rng sn sf sp hsp
  refine z_aload_n hC d_Rd_takesGreatest_0 rfl 0 rfl ?_
  refine z_get hC hi_Bt 0 rfl rfl 0 (by decide) mw_156 (Or.inl rfl) rfl d_Rd_takesGreatest_1 ?_
  refine z_callV (q0 := 1) (ci := 6) (w' := [(d0, .inr (0, [.ref s0, .ref t0, .ref x0, .ref u0])), (s0, .inr (6, [.ref s1, .int (iI ((sn : Nat) : Int)), .int (iI ((sp : Nat) : Int))])), (s1, .inl ((g.2.1 0), 200, .inl sf)), (t0, .inr (7, [.ref t1, .ref t2, .ref t3, .ref t4, .int (iI ((tn : Nat) : Int))])), (t1, .inl ((g.2.1 0), 40, .inl (q1 nd))), (t2, .inl ((g.2.1 0), 40, .inl (q2 nd))), (t3, .inl ((g.2.1 0), 40, .inl (q3 nd))), (t4, .inl ((g.2.1 0), 40, .inl (q4 nd))), (x0, .inr (3, [.ref x1, .ref x2, .ref x3, .ref x4, .int (iI ((xc : Nat) : Int))])), (x1, .inl ((g.2.1 0), 64, .inl xl)), (x2, .inl ((g.2.1 0), 8, .inl (nF xn))), (x3, .inl ((g.2.1 2), 8, .inl (bF xo))), (x4, .inl ((g.2.1 0), 9, .inl (nF ch))), (u0, .inr (8, [.ref u1, .int (iI ((un : Nat) : Int))])), (u1, .inl ((g.2.1 0), 200, .inl uf))]) (st1 := [.int (iI ((sp : Nat) : Int))]) hC (k_So_place l g s0 s1 sn sp sf) mw_462 zv_So_place rfl rfl ⟨Nat.le_of_ble_eq_true rfl, Nat.le_of_ble_eq_true rfl⟩ [1, 2] rfl rfl rfl rfl rfl rfl rfl rfl (Nat.le_of_ble_eq_true rfl) d_Rd_takesGreatest_4 rfl ⟨Nat.zero_le _, Nat.zero_le _⟩ rfl ?_
  refine z_istore_n (lv' := [(3, .int (iI ((sp : Nat) : Int))), (0, .ref d0), (1, .int (iI ix)), (2, .int (iI lo))]) hC d_Rd_takesGreatest_7 rfl (by decide) rfl ?_
  refine z_aload_n hC d_Rd_takesGreatest_8 rfl 1 rfl ?_
  refine z_get hC hi_Bt 0 rfl rfl 0 (by decide) mw_156 (Or.inl rfl) rfl d_Rd_takesGreatest_9 ?_
  refine z_callV (q0 := 1) (ci := 6) (w' := [(d0, .inr (0, [.ref s0, .ref t0, .ref x0, .ref u0])), (s0, .inr (6, [.ref s1, .int (iI ((sn : Nat) : Int)), .int (iI ((tvP sn sf sp : Nat) : Int))])), (s1, .inl ((g.2.1 0), 200, .inl sf)), (t0, .inr (7, [.ref t1, .ref t2, .ref t3, .ref t4, .int (iI ((tn : Nat) : Int))])), (t1, .inl ((g.2.1 0), 40, .inl (q1 nd))), (t2, .inl ((g.2.1 0), 40, .inl (q2 nd))), (t3, .inl ((g.2.1 0), 40, .inl (q3 nd))), (t4, .inl ((g.2.1 0), 40, .inl (q4 nd))), (x0, .inr (3, [.ref x1, .ref x2, .ref x3, .ref x4, .int (iI ((xc : Nat) : Int))])), (x1, .inl ((g.2.1 0), 64, .inl xl)), (x2, .inl ((g.2.1 0), 8, .inl (nF xn))), (x3, .inl ((g.2.1 2), 8, .inl (bF xo))), (x4, .inl ((g.2.1 0), 9, .inl (nF ch))), (u0, .inr (8, [.ref u1, .int (iI ((un : Nat) : Int))])), (u1, .inl ((g.2.1 0), 200, .inl uf))]) (st1 := [.int (iI (tvR sn sf sp))]) hC (k_So_takeValue l g s0 s1 sn sp sf hsn hsp) mw_505 zv_So_takeValue rfl rfl ⟨Nat.le_of_ble_eq_true rfl, Nat.le_of_ble_eq_true rfl⟩ [1, 2] rfl rfl rfl rfl rfl rfl rfl rfl (Nat.le_of_ble_eq_true rfl) d_Rd_takesGreatest_12 rfl ⟨Nat.zero_le _, Nat.zero_le _⟩ rfl ?_
  refine z_istore (lv' := [(4, .int (iI (tvR sn sf sp))), (3, .int (iI ((sp : Nat) : Int))), (0, .ref d0), (1, .int (iI ix)), (2, .int (iI lo))]) hC d_Rd_takesGreatest_15 (by decide) rfl ?_
  refine z_iload hC d_Rd_takesGreatest_17 0 rfl ?_
  refine z_iconst hC d_Rd_takesGreatest_19 ?_
  refine z_icmp_ne (tgt := 25) hC (tvR sn sf sp) (-1) d_Rd_takesGreatest_20 rfl (iI_t (by omega)) (iI_t (by omega)) (fun c_1 => ?_) (fun c_1 => ?_)
  · refine z_iload hC d_Rd_takesGreatest_25 0 rfl ?_
    refine z_iload_n hC d_Rd_takesGreatest_27 rfl 4 rfl ?_
    refine z_icmp_ge (tgt := 41) hC (tvR sn sf sp) lo d_Rd_takesGreatest_28 rfl (iI_t (by omega)) (iI_t (by omega)) (fun c_2 => ?_) (fun c_2 => ?_)
    · refine z_aload_n hC d_Rd_takesGreatest_41 rfl 2 rfl ?_
      refine z_get hC hi_Bt 0 rfl rfl 1 (by decide) mw_161 (Or.inl rfl) rfl d_Rd_takesGreatest_42 ?_
      refine z_iconstN hC 1 d_Rd_takesGreatest_45 rfl ?_
      refine z_iload_n hC d_Rd_takesGreatest_46 rfl 3 rfl ?_
      refine z_iload_n hC d_Rd_takesGreatest_47 rfl 4 rfl ?_
      refine z_iload hC d_Rd_takesGreatest_48 0 rfl ?_
      by_cases c_3 : tn < 40
      · refine z_callV (q0 := 3) (ci := 7) (w' := [(d0, .inr (0, [.ref s0, .ref t0, .ref x0, .ref u0])), (s0, .inr (6, [.ref s1, .int (iI ((sn : Nat) : Int)), .int (iI ((tvP sn sf sp : Nat) : Int))])), (s1, .inl ((g.2.1 0), 200, .inl sf)), (t0, .inr (7, [.ref t1, .ref t2, .ref t3, .ref t4, .int (iI ((tn + 1 : Nat) : Int))])), (t1, .inl ((g.2.1 0), 40, .inl (q1 (up nd tn ((iI ((1 : Nat) : Int)), (iI ix), (iI lo), (iI (tvR sn sf sp))))))), (t2, .inl ((g.2.1 0), 40, .inl (q2 (up nd tn ((iI ((1 : Nat) : Int)), (iI ix), (iI lo), (iI (tvR sn sf sp))))))), (t3, .inl ((g.2.1 0), 40, .inl (q3 (up nd tn ((iI ((1 : Nat) : Int)), (iI ix), (iI lo), (iI (tvR sn sf sp))))))), (t4, .inl ((g.2.1 0), 40, .inl (q4 (up nd tn ((iI ((1 : Nat) : Int)), (iI ix), (iI lo), (iI (tvR sn sf sp))))))), (x0, .inr (3, [.ref x1, .ref x2, .ref x3, .ref x4, .int (iI ((xc : Nat) : Int))])), (x1, .inl ((g.2.1 0), 64, .inl xl)), (x2, .inl ((g.2.1 0), 8, .inl (nF xn))), (x3, .inl ((g.2.1 2), 8, .inl (bF xo))), (x4, .inl ((g.2.1 0), 9, .inl (nF ch))), (u0, .inr (8, [.ref u1, .int (iI ((un : Nat) : Int))])), (u1, .inl ((g.2.1 0), 200, .inl uf))]) (st1 := [.int (iI (bI true))]) hC (k_Tr_append_T l g t0 t1 t2 t3 t4 tn nd (iI ((1 : Nat) : Int)) (iI ix) (iI lo) (iI (tvR sn sf sp)) htn (by omega)) mw_506 zv_Tr_append rfl rfl ⟨Nat.le_of_ble_eq_true rfl, Nat.le_of_ble_eq_true rfl⟩ [3, 4, 5, 6, 7] rfl rfl rfl rfl rfl rfl rfl rfl (Nat.le_of_ble_eq_true rfl) d_Rd_takesGreatest_50 rfl ⟨Nat.zero_le _, Nat.zero_le _⟩ rfl ?_
        have hz9 : w = (true, (tvP sn sf sp, tn + 1, (up nd tn ((iI ((1 : Nat) : Int)), (iI ix), (iI lo), (iI (tvR sn sf sp)))), un, uf)) := by rw [hw]; unfold tkG apB; (try dsimp only); skip; (try dsimp only); (repeat' split) <;> first | rfl | exact Prod.ext (by assumption) rfl | (exfalso; omega) | (exfalso; contradiction) | (subst_vars; rfl) | (exfalso; simp_all; done)
        subst hz9
        exact Z.eq rfl rfl rfl rfl (hR _ _ d_Rd_takesGreatest_53)
      · refine z_callV (q0 := 3) (ci := 7) (w' := [(d0, .inr (0, [.ref s0, .ref t0, .ref x0, .ref u0])), (s0, .inr (6, [.ref s1, .int (iI ((sn : Nat) : Int)), .int (iI ((tvP sn sf sp : Nat) : Int))])), (s1, .inl ((g.2.1 0), 200, .inl sf)), (t0, .inr (7, [.ref t1, .ref t2, .ref t3, .ref t4, .int (iI ((tn : Nat) : Int))])), (t1, .inl ((g.2.1 0), 40, .inl (q1 nd))), (t2, .inl ((g.2.1 0), 40, .inl (q2 nd))), (t3, .inl ((g.2.1 0), 40, .inl (q3 nd))), (t4, .inl ((g.2.1 0), 40, .inl (q4 nd))), (x0, .inr (3, [.ref x1, .ref x2, .ref x3, .ref x4, .int (iI ((xc : Nat) : Int))])), (x1, .inl ((g.2.1 0), 64, .inl xl)), (x2, .inl ((g.2.1 0), 8, .inl (nF xn))), (x3, .inl ((g.2.1 2), 8, .inl (bF xo))), (x4, .inl ((g.2.1 0), 9, .inl (nF ch))), (u0, .inr (8, [.ref u1, .int (iI ((un : Nat) : Int))])), (u1, .inl ((g.2.1 0), 200, .inl uf))]) (st1 := [.int (iI (bI false))]) hC (k_Tr_append_F l g t0 t1 t2 t3 t4 tn nd (iI ((1 : Nat) : Int)) (iI ix) (iI lo) (iI (tvR sn sf sp)) htn (by omega)) mw_506 zv_Tr_append rfl rfl ⟨Nat.le_of_ble_eq_true rfl, Nat.le_of_ble_eq_true rfl⟩ [3, 4, 5, 6, 7] rfl rfl rfl rfl rfl rfl rfl rfl (Nat.le_of_ble_eq_true rfl) d_Rd_takesGreatest_50 rfl ⟨Nat.zero_le _, Nat.zero_le _⟩ rfl ?_
        have hz9 : w = (false, (tvP sn sf sp, tn, nd, un, uf)) := by rw [hw]; unfold tkG apB; (try dsimp only); skip; (try dsimp only); (repeat' split) <;> first | rfl | exact Prod.ext (by assumption) rfl | (exfalso; omega) | (exfalso; contradiction) | (subst_vars; rfl) | (exfalso; simp_all; done)
        subst hz9
        exact Z.eq rfl rfl rfl rfl (hR _ _ d_Rd_takesGreatest_53)
    · refine z_aload_n hC d_Rd_takesGreatest_31 rfl 2 rfl ?_
      refine z_get hC hi_Bt 0 rfl rfl 0 (by decide) mw_156 (Or.inl rfl) rfl d_Rd_takesGreatest_32 ?_
      refine z_iload_n hC d_Rd_takesGreatest_35 rfl 1 rfl ?_
      refine z_callV (q0 := 1) (ci := 6) (w' := [(d0, .inr (0, [.ref s0, .ref t0, .ref x0, .ref u0])), (s0, .inr (6, [.ref s1, .int (iI ((sn : Nat) : Int)), .int (iI ((sp : Nat) : Int))])), (s1, .inl ((g.2.1 0), 200, .inl sf)), (t0, .inr (7, [.ref t1, .ref t2, .ref t3, .ref t4, .int (iI ((tn : Nat) : Int))])), (t1, .inl ((g.2.1 0), 40, .inl (q1 nd))), (t2, .inl ((g.2.1 0), 40, .inl (q2 nd))), (t3, .inl ((g.2.1 0), 40, .inl (q3 nd))), (t4, .inl ((g.2.1 0), 40, .inl (q4 nd))), (x0, .inr (3, [.ref x1, .ref x2, .ref x3, .ref x4, .int (iI ((xc : Nat) : Int))])), (x1, .inl ((g.2.1 0), 64, .inl xl)), (x2, .inl ((g.2.1 0), 8, .inl (nF xn))), (x3, .inl ((g.2.1 2), 8, .inl (bF xo))), (x4, .inl ((g.2.1 0), 9, .inl (nF ch))), (u0, .inr (8, [.ref u1, .int (iI ((un : Nat) : Int))])), (u1, .inl ((g.2.1 0), 200, .inl uf))]) (st1 := []) hC (k_So_moveTo l g s0 s1 sn (tvP sn sf sp) sf sp) mw_474 zv_So_moveTo rfl rfl ⟨Nat.le_of_ble_eq_true rfl, Nat.le_of_ble_eq_true rfl⟩ [1, 2] rfl rfl rfl rfl rfl rfl rfl rfl (Nat.le_of_ble_eq_true rfl) d_Rd_takesGreatest_36 rfl ⟨Nat.zero_le _, Nat.zero_le _⟩ rfl ?_
      refine z_iconstN hC 0 d_Rd_takesGreatest_39 rfl ?_
      have hz9 : w = (false, (sp, tn, nd, un, uf)) := by rw [hw]; unfold tkG apB; (try dsimp only); skip; (try dsimp only); (repeat' split) <;> first | rfl | exact Prod.ext (by assumption) rfl | (exfalso; omega) | (exfalso; contradiction) | (subst_vars; rfl) | (exfalso; simp_all; done)
      subst hz9
      exact Z.eq rfl rfl rfl rfl (hR _ _ d_Rd_takesGreatest_40)
  · refine z_iconstN hC 0 d_Rd_takesGreatest_23 rfl ?_
    have hz9 : w = (false, (tvP sn sf sp, tn, nd, un, uf)) := by rw [hw]; unfold tkG apB; (try dsimp only); skip; (try dsimp only); (repeat' split) <;> first | rfl | exact Prod.ext (by assumption) rfl | (exfalso; omega) | (exfalso; contradiction) | (subst_vars; rfl) | (exfalso; simp_all; done)
    subst hz9
    exact Z.eq rfl rfl rfl rfl (hR _ _ d_Rd_takesGreatest_24)
set_option maxHeartbeats 4000000 in
set_option maxRecDepth 100000 in
theorem k_Rd_takeName_f (l : Launch) (g : ZG) (d0 s0 s1 sn sp : Nat) (sf : Nat → Int32) (t0 t1 t2 t3 t4 tn : Nat) (nd : Nat → QD) (x0 x1 x2 x3 x4 xc : Nat) (xl : Nat → Int32) (xn : Nat → Nat) (xo : Nat → Bool) (ch : Nat → Nat) (u0 u1 un : Nat) (uf : Nat → Int32) (hsn : sn ≤ 200) (hsp : sp ≤ sn) (htn : tn ≤ 40) (hxc : xc ≤ 8) (hxn : ∀ j, j < xc → xn j ≤ 8)  (w : Int × RS) (hw : w = tkN sn sf xc xn xl (sp, tn, nd, un, uf)) : Ct l g y_Rd_takeName c_Rd_takeName 3 (some .int) { frames := 4, cells := 0, slots := 0, locals := 91 } [.ref d0] [(d0, .inr (1, [.ref s0, .ref t0, .ref x0, .ref u0])), (s0, .inr (6, [.ref s1, .int (iI ((sn : Nat) : Int)), .int (iI ((sp : Nat) : Int))])), (s1, .inl ((g.2.1 0), 200, .inl sf)), (t0, .inr (7, [.ref t1, .ref t2, .ref t3, .ref t4, .int (iI ((tn : Nat) : Int))])), (t1, .inl ((g.2.1 0), 40, .inl (q1 nd))), (t2, .inl ((g.2.1 0), 40, .inl (q2 nd))), (t3, .inl ((g.2.1 0), 40, .inl (q3 nd))), (t4, .inl ((g.2.1 0), 40, .inl (q4 nd))), (x0, .inr (3, [.ref x1, .ref x2, .ref x3, .ref x4, .int (iI ((xc : Nat) : Int))])), (x1, .inl ((g.2.1 0), 64, .inl xl)), (x2, .inl ((g.2.1 0), 8, .inl (nF xn))), (x3, .inl ((g.2.1 2), 8, .inl (bF xo))), (x4, .inl ((g.2.1 0), 9, .inl (nF ch))), (u0, .inr (8, [.ref u1, .int (iI ((un : Nat) : Int))])), (u1, .inl ((g.2.1 0), 200, .inl uf))] (some (.int (iI w.1))) [(d0, .inr (1, [.ref s0, .ref t0, .ref x0, .ref u0])), (s0, .inr (6, [.ref s1, .int (iI ((sn : Nat) : Int)), .int (iI ((w.2.1 : Nat) : Int))])), (s1, .inl ((g.2.1 0), 200, .inl sf)), (t0, .inr (7, [.ref t1, .ref t2, .ref t3, .ref t4, .int (iI ((w.2.2.1 : Nat) : Int))])), (t1, .inl ((g.2.1 0), 40, .inl (q1 w.2.2.2.1))), (t2, .inl ((g.2.1 0), 40, .inl (q2 w.2.2.2.1))), (t3, .inl ((g.2.1 0), 40, .inl (q3 w.2.2.2.1))), (t4, .inl ((g.2.1 0), 40, .inl (q4 w.2.2.2.1))), (x0, .inr (3, [.ref x1, .ref x2, .ref x3, .ref x4, .int (iI ((xc : Nat) : Int))])), (x1, .inl ((g.2.1 0), 64, .inl xl)), (x2, .inl ((g.2.1 0), 8, .inl (nF xn))), (x3, .inl ((g.2.1 2), 8, .inl (bF xo))), (x4, .inl ((g.2.1 0), 9, .inl (nF ch))), (u0, .inr (8, [.ref u1, .int (iI ((w.2.2.2.2.1 : Nat) : Int))])), (u1, .inl ((g.2.1 0), 200, .inl w.2.2.2.2.2))] := by
  refine ct_i (lv := [(0, .ref d0)]) (by decide) rfl (Nat.le_of_ble_eq_true rfl) rfl ?_
  intro x hC hR
  have hr9 := rowE_rng sn sf (sn - sp) sp
  have hf9 := fnd_rng (nmB xn xl sn sf sp (rowE sn sf (sn - sp) sp)) xc 0
  refine z_aload_n hC d_Rd_takeName_0 rfl 0 rfl ?_
  refine z_get hC hi_Fr 0 rfl rfl 0 (by decide) mw_156 (Or.inl rfl) rfl d_Rd_takeName_1 ?_
  refine z_callV (q0 := 1) (ci := 6) (w' := [(d0, .inr (1, [.ref s0, .ref t0, .ref x0, .ref u0])), (s0, .inr (6, [.ref s1, .int (iI ((sn : Nat) : Int)), .int (iI ((sp : Nat) : Int))])), (s1, .inl ((g.2.1 0), 200, .inl sf)), (t0, .inr (7, [.ref t1, .ref t2, .ref t3, .ref t4, .int (iI ((tn : Nat) : Int))])), (t1, .inl ((g.2.1 0), 40, .inl (q1 nd))), (t2, .inl ((g.2.1 0), 40, .inl (q2 nd))), (t3, .inl ((g.2.1 0), 40, .inl (q3 nd))), (t4, .inl ((g.2.1 0), 40, .inl (q4 nd))), (x0, .inr (3, [.ref x1, .ref x2, .ref x3, .ref x4, .int (iI ((xc : Nat) : Int))])), (x1, .inl ((g.2.1 0), 64, .inl xl)), (x2, .inl ((g.2.1 0), 8, .inl (nF xn))), (x3, .inl ((g.2.1 2), 8, .inl (bF xo))), (x4, .inl ((g.2.1 0), 9, .inl (nF ch))), (u0, .inr (8, [.ref u1, .int (iI ((un : Nat) : Int))])), (u1, .inl ((g.2.1 0), 200, .inl uf))]) (st1 := [.int (iI ((rowE sn sf (sn - sp) sp : Nat) : Int))]) hC (k_So_rowEnd l g s0 s1 sn sp sf hsn hsp) mw_461 zv_So_rowEnd rfl rfl ⟨Nat.le_of_ble_eq_true rfl, Nat.le_of_ble_eq_true rfl⟩ [1, 2] rfl rfl rfl rfl rfl rfl rfl rfl (Nat.le_of_ble_eq_true rfl) d_Rd_takeName_4 rfl ⟨Nat.zero_le _, Nat.zero_le _⟩ rfl ?_
  refine z_istore_n (lv' := [(1, .int (iI ((rowE sn sf (sn - sp) sp : Nat) : Int))), (0, .ref d0)]) hC d_Rd_takeName_7 rfl (by decide) rfl ?_
  refine z_iload_n hC d_Rd_takeName_8 rfl 0 rfl ?_
  refine z_aload_n hC d_Rd_takeName_9 rfl 1 rfl ?_
  refine z_get hC hi_Fr 0 rfl rfl 0 (by decide) mw_156 (Or.inl rfl) rfl d_Rd_takeName_10 ?_
  refine z_callV (q0 := 1) (ci := 6) (w' := [(d0, .inr (1, [.ref s0, .ref t0, .ref x0, .ref u0])), (s0, .inr (6, [.ref s1, .int (iI ((sn : Nat) : Int)), .int (iI ((sp : Nat) : Int))])), (s1, .inl ((g.2.1 0), 200, .inl sf)), (t0, .inr (7, [.ref t1, .ref t2, .ref t3, .ref t4, .int (iI ((tn : Nat) : Int))])), (t1, .inl ((g.2.1 0), 40, .inl (q1 nd))), (t2, .inl ((g.2.1 0), 40, .inl (q2 nd))), (t3, .inl ((g.2.1 0), 40, .inl (q3 nd))), (t4, .inl ((g.2.1 0), 40, .inl (q4 nd))), (x0, .inr (3, [.ref x1, .ref x2, .ref x3, .ref x4, .int (iI ((xc : Nat) : Int))])), (x1, .inl ((g.2.1 0), 64, .inl xl)), (x2, .inl ((g.2.1 0), 8, .inl (nF xn))), (x3, .inl ((g.2.1 2), 8, .inl (bF xo))), (x4, .inl ((g.2.1 0), 9, .inl (nF ch))), (u0, .inr (8, [.ref u1, .int (iI ((un : Nat) : Int))])), (u1, .inl ((g.2.1 0), 200, .inl uf))]) (st1 := [.int (iI ((sp : Nat) : Int)), .int (iI ((rowE sn sf (sn - sp) sp : Nat) : Int))]) hC (k_So_place l g s0 s1 sn sp sf) mw_462 zv_So_place rfl rfl ⟨Nat.le_of_ble_eq_true rfl, Nat.le_of_ble_eq_true rfl⟩ [1, 2] rfl rfl rfl rfl rfl rfl rfl rfl (Nat.le_of_ble_eq_true rfl) d_Rd_takeName_13 rfl ⟨Nat.zero_le _, Nat.zero_le _⟩ rfl ?_
  refine z_icmp_ne (tgt := 21) hC ((rowE sn sf (sn - sp) sp : Nat) : Int) ((sp : Nat) : Int) d_Rd_takeName_16 rfl (iI_t (by omega)) (iI_t (by omega)) (fun c_1 => ?_) (fun c_1 => ?_)
  · refine z_aload_n hC d_Rd_takeName_21 rfl 1 rfl ?_
    refine z_get hC hi_Fr 0 rfl rfl 2 (by decide) mw_166 (Or.inl rfl) rfl d_Rd_takeName_22 ?_
    refine z_aload_n hC d_Rd_takeName_25 rfl 1 rfl ?_
    refine z_get hC hi_Fr 0 rfl rfl 0 (by decide) mw_156 (Or.inl rfl) rfl d_Rd_takeName_26 ?_
    refine z_iload_n hC d_Rd_takeName_29 rfl 0 rfl ?_
    refine z_callV (q0 := 8) (ci := 3) (w' := [(d0, .inr (1, [.ref s0, .ref t0, .ref x0, .ref u0])), (s0, .inr (6, [.ref s1, .int (iI ((sn : Nat) : Int)), .int (iI ((sp : Nat) : Int))])), (s1, .inl ((g.2.1 0), 200, .inl sf)), (t0, .inr (7, [.ref t1, .ref t2, .ref t3, .ref t4, .int (iI ((tn : Nat) : Int))])), (t1, .inl ((g.2.1 0), 40, .inl (q1 nd))), (t2, .inl ((g.2.1 0), 40, .inl (q2 nd))), (t3, .inl ((g.2.1 0), 40, .inl (q3 nd))), (t4, .inl ((g.2.1 0), 40, .inl (q4 nd))), (x0, .inr (3, [.ref x1, .ref x2, .ref x3, .ref x4, .int (iI ((xc : Nat) : Int))])), (x1, .inl ((g.2.1 0), 64, .inl xl)), (x2, .inl ((g.2.1 0), 8, .inl (nF xn))), (x3, .inl ((g.2.1 2), 8, .inl (bF xo))), (x4, .inl ((g.2.1 0), 9, .inl (nF ch))), (u0, .inr (8, [.ref u1, .int (iI ((un : Nat) : Int))])), (u1, .inl ((g.2.1 0), 200, .inl uf))]) (st1 := [.int (iI (fnd (nmB xn xl sn sf sp (rowE sn sf (sn - sp) sp)) xc 0))]) hC (k_Ix_find l g x0 x1 x2 x3 x4 xc xl xn xo ch s0 s1 sn sp sf (rowE sn sf (sn - sp) sp) hxc hxn hsn hsp (by omega) (by omega)) mw_463 zv_Ix_find rfl rfl ⟨Nat.le_of_ble_eq_true rfl, Nat.le_of_ble_eq_true rfl⟩ [8, 9, 10, 11, 12, 1, 2] rfl rfl rfl rfl rfl rfl rfl rfl (Nat.le_of_ble_eq_true rfl) d_Rd_takeName_30 rfl ⟨Nat.zero_le _, Nat.zero_le _⟩ rfl ?_
    refine z_istore_n (lv' := [(2, .int (iI (fnd (nmB xn xl sn sf sp (rowE sn sf (sn - sp) sp)) xc 0))), (1, .int (iI ((rowE sn sf (sn - sp) sp : Nat) : Int))), (0, .ref d0)]) hC d_Rd_takeName_33 rfl (by decide) rfl ?_
    refine z_iload_n hC d_Rd_takeName_34 rfl 0 rfl ?_
    refine z_iconst hC d_Rd_takeName_35 ?_
    refine z_icmp_ne (tgt := 53) hC (fnd (nmB xn xl sn sf sp (rowE sn sf (sn - sp) sp)) xc 0) (-1) d_Rd_takeName_36 rfl (iI_t (by omega)) (iI_t (by omega)) (fun c_2 => ?_) (fun c_2 => ?_)
    · refine z_aload_n hC d_Rd_takeName_53 rfl 2 rfl ?_
      refine z_get hC hi_Fr 0 rfl rfl 1 (by decide) mw_161 (Or.inl rfl) rfl d_Rd_takeName_54 ?_
      refine z_callV (q0 := 3) (ci := 7) (w' := [(d0, .inr (1, [.ref s0, .ref t0, .ref x0, .ref u0])), (s0, .inr (6, [.ref s1, .int (iI ((sn : Nat) : Int)), .int (iI ((sp : Nat) : Int))])), (s1, .inl ((g.2.1 0), 200, .inl sf)), (t0, .inr (7, [.ref t1, .ref t2, .ref t3, .ref t4, .int (iI ((tn : Nat) : Int))])), (t1, .inl ((g.2.1 0), 40, .inl (q1 nd))), (t2, .inl ((g.2.1 0), 40, .inl (q2 nd))), (t3, .inl ((g.2.1 0), 40, .inl (q3 nd))), (t4, .inl ((g.2.1 0), 40, .inl (q4 nd))), (x0, .inr (3, [.ref x1, .ref x2, .ref x3, .ref x4, .int (iI ((xc : Nat) : Int))])), (x1, .inl ((g.2.1 0), 64, .inl xl)), (x2, .inl ((g.2.1 0), 8, .inl (nF xn))), (x3, .inl ((g.2.1 2), 8, .inl (bF xo))), (x4, .inl ((g.2.1 0), 9, .inl (nF ch))), (u0, .inr (8, [.ref u1, .int (iI ((un : Nat) : Int))])), (u1, .inl ((g.2.1 0), 200, .inl uf))]) (st1 := [.int (iI (bI (decide (40 ≤ tn))))]) hC (k_Tr_isFull l g t0 t1 t2 t3 t4 tn nd htn) mw_470 zv_Tr_isFull rfl rfl ⟨Nat.le_of_ble_eq_true rfl, Nat.le_of_ble_eq_true rfl⟩ [3, 4, 5, 6, 7] rfl rfl rfl rfl rfl rfl rfl rfl (Nat.le_of_ble_eq_true rfl) d_Rd_takeName_57 rfl ⟨Nat.zero_le _, Nat.zero_le _⟩ rfl ?_
      refine z_ifeqD (tgt := 65) hC d_Rd_takeName_60 rfl (fun c_3 => ?_) (fun c_3 => ?_)
      · refine z_aload_n hC d_Rd_takeName_65 rfl 2 rfl ?_
        refine z_get hC hi_Fr 0 rfl rfl 0 (by decide) mw_156 (Or.inl rfl) rfl d_Rd_takeName_66 ?_
        refine z_iload_n hC d_Rd_takeName_69 rfl 1 rfl ?_
        refine z_callV (q0 := 1) (ci := 6) (w' := [(d0, .inr (1, [.ref s0, .ref t0, .ref x0, .ref u0])), (s0, .inr (6, [.ref s1, .int (iI ((sn : Nat) : Int)), .int (iI (((rowE sn sf (sn - sp) sp) : Nat) : Int))])), (s1, .inl ((g.2.1 0), 200, .inl sf)), (t0, .inr (7, [.ref t1, .ref t2, .ref t3, .ref t4, .int (iI ((tn : Nat) : Int))])), (t1, .inl ((g.2.1 0), 40, .inl (q1 nd))), (t2, .inl ((g.2.1 0), 40, .inl (q2 nd))), (t3, .inl ((g.2.1 0), 40, .inl (q3 nd))), (t4, .inl ((g.2.1 0), 40, .inl (q4 nd))), (x0, .inr (3, [.ref x1, .ref x2, .ref x3, .ref x4, .int (iI ((xc : Nat) : Int))])), (x1, .inl ((g.2.1 0), 64, .inl xl)), (x2, .inl ((g.2.1 0), 8, .inl (nF xn))), (x3, .inl ((g.2.1 2), 8, .inl (bF xo))), (x4, .inl ((g.2.1 0), 9, .inl (nF ch))), (u0, .inr (8, [.ref u1, .int (iI ((un : Nat) : Int))])), (u1, .inl ((g.2.1 0), 200, .inl uf))]) (st1 := []) hC (k_So_moveTo l g s0 s1 sn sp sf (rowE sn sf (sn - sp) sp)) mw_474 zv_So_moveTo rfl rfl ⟨Nat.le_of_ble_eq_true rfl, Nat.le_of_ble_eq_true rfl⟩ [1, 2] rfl rfl rfl rfl rfl rfl rfl rfl (Nat.le_of_ble_eq_true rfl) d_Rd_takeName_70 rfl ⟨Nat.zero_le _, Nat.zero_le _⟩ rfl ?_
        refine z_iload_n hC d_Rd_takeName_73 rfl 0 rfl ?_
        have hz9 : w = (fnd (nmB xn xl sn sf sp (rowE sn sf (sn - sp) sp)) xc 0, ((rowE sn sf (sn - sp) sp), tn, nd, un, uf)) := by rw [hw]; unfold tkN; (try dsimp only); skip; (try dsimp only); (repeat' split) <;> first | rfl | exact Prod.ext (by assumption) rfl | (exfalso; omega) | (exfalso; contradiction) | (subst_vars; rfl) | (exfalso; simp_all; done)
        subst hz9
        exact Z.eq rfl rfl rfl rfl (hR _ _ d_Rd_takeName_74)
      · refine z_iconst hC d_Rd_takeName_63 ?_
        have hz9 : w = (-1, (sp, tn, nd, un, uf)) := by rw [hw]; unfold tkN; (try dsimp only); skip; (try dsimp only); (repeat' split) <;> first | rfl | exact Prod.ext (by assumption) rfl | (exfalso; omega) | (exfalso; contradiction) | (subst_vars; rfl) | (exfalso; simp_all; done)
        subst hz9
        exact Z.eq rfl rfl rfl rfl (hR _ _ d_Rd_takeName_64)
    · refine z_aload_n hC d_Rd_takeName_39 rfl 2 rfl ?_
      refine z_get hC hi_Fr 0 rfl rfl 3 (by decide) mw_167 (Or.inl rfl) rfl d_Rd_takeName_40 ?_
      refine z_aload_n hC d_Rd_takeName_43 rfl 2 rfl ?_
      refine z_get hC hi_Fr 0 rfl rfl 0 (by decide) mw_156 (Or.inl rfl) rfl d_Rd_takeName_44 ?_
      refine z_iload_n hC d_Rd_takeName_47 rfl 1 rfl ?_
      refine z_callV (q0 := 13) (ci := 8) (w' := [(d0, .inr (1, [.ref s0, .ref t0, .ref x0, .ref u0])), (s0, .inr (6, [.ref s1, .int (iI ((sn : Nat) : Int)), .int (iI ((sp : Nat) : Int))])), (s1, .inl ((g.2.1 0), 200, .inl sf)), (t0, .inr (7, [.ref t1, .ref t2, .ref t3, .ref t4, .int (iI ((tn : Nat) : Int))])), (t1, .inl ((g.2.1 0), 40, .inl (q1 nd))), (t2, .inl ((g.2.1 0), 40, .inl (q2 nd))), (t3, .inl ((g.2.1 0), 40, .inl (q3 nd))), (t4, .inl ((g.2.1 0), 40, .inl (q4 nd))), (x0, .inr (3, [.ref x1, .ref x2, .ref x3, .ref x4, .int (iI ((xc : Nat) : Int))])), (x1, .inl ((g.2.1 0), 64, .inl xl)), (x2, .inl ((g.2.1 0), 8, .inl (nF xn))), (x3, .inl ((g.2.1 2), 8, .inl (bF xo))), (x4, .inl ((g.2.1 0), 9, .inl (nF ch))), (u0, .inr (8, [.ref u1, .int (iI (((rowE sn sf (sn - sp) sp) - sp : Nat) : Int))])), (u1, .inl ((g.2.1 0), 200, .inl (kpF uf sn sf sp (rowE sn sf (sn - sp) sp))))]) (st1 := []) hC (k_Un_keep l g u0 u1 un uf s0 s1 sn sp sf (rowE sn sf (sn - sp) sp) hsn hsp (by omega) (by omega)) mw_464 zv_Un_keep rfl rfl ⟨Nat.le_of_ble_eq_true rfl, Nat.le_of_ble_eq_true rfl⟩ [13, 14, 1, 2] rfl rfl rfl rfl rfl rfl rfl rfl (Nat.le_of_ble_eq_true rfl) d_Rd_takeName_48 rfl ⟨Nat.zero_le _, Nat.zero_le _⟩ rfl ?_
      refine z_iconst hC d_Rd_takeName_51 ?_
      have hz9 : w = (-1, (sp, tn, nd, (rowE sn sf (sn - sp) sp) - sp, kpF uf sn sf sp (rowE sn sf (sn - sp) sp))) := by rw [hw]; unfold tkN; (try dsimp only); skip; (try dsimp only); (repeat' split) <;> first | rfl | exact Prod.ext (by assumption) rfl | (exfalso; omega) | (exfalso; contradiction) | (subst_vars; rfl) | (exfalso; simp_all; done)
      subst hz9
      exact Z.eq rfl rfl rfl rfl (hR _ _ d_Rd_takeName_52)
  · refine z_iconst hC d_Rd_takeName_19 ?_
    have hz9 : w = (-1, (sp, tn, nd, un, uf)) := by rw [hw]; unfold tkN; (try dsimp only); skip; (try dsimp only); (repeat' split) <;> first | rfl | exact Prod.ext (by assumption) rfl | (exfalso; omega) | (exfalso; contradiction) | (subst_vars; rfl) | (exfalso; simp_all; done)
    subst hz9
    exact Z.eq rfl rfl rfl rfl (hR _ _ d_Rd_takeName_20)
set_option maxHeartbeats 4000000 in
set_option maxRecDepth 100000 in
theorem k_Rd_takesGreatest_f (l : Launch) (g : ZG) (d0 s0 s1 sn sp : Nat) (sf : Nat → Int32) (t0 t1 t2 t3 t4 tn : Nat) (nd : Nat → QD) (x0 x1 x2 x3 x4 xc : Nat) (xl : Nat → Int32) (xn : Nat → Nat) (xo : Nat → Bool) (ch : Nat → Nat) (u0 u1 un : Nat) (uf : Nat → Int32) (ix lo : Int) (hsn : sn ≤ 200) (hsp : sp ≤ sn) (htn : tn ≤ 40) (hxc : xc ≤ 8) (hxn : ∀ j, j < xc → xn j ≤ 8) (hix : -2147483648 ≤ ix ∧ ix < 2147483648) (hlo : -2147483648 ≤ lo ∧ lo < 2147483648)  (w : Bool × RS) (hw : w = tkG sn sf (sp, tn, nd, un, uf) ix lo) : Ct l g y_Rd_takesGreatest c_Rd_takesGreatest 5 (some .boolean) { frames := 3, cells := 0, slots := 0, locals := 70 } [.ref d0, .int (iI ix), .int (iI lo)] [(d0, .inr (1, [.ref s0, .ref t0, .ref x0, .ref u0])), (s0, .inr (6, [.ref s1, .int (iI ((sn : Nat) : Int)), .int (iI ((sp : Nat) : Int))])), (s1, .inl ((g.2.1 0), 200, .inl sf)), (t0, .inr (7, [.ref t1, .ref t2, .ref t3, .ref t4, .int (iI ((tn : Nat) : Int))])), (t1, .inl ((g.2.1 0), 40, .inl (q1 nd))), (t2, .inl ((g.2.1 0), 40, .inl (q2 nd))), (t3, .inl ((g.2.1 0), 40, .inl (q3 nd))), (t4, .inl ((g.2.1 0), 40, .inl (q4 nd))), (x0, .inr (3, [.ref x1, .ref x2, .ref x3, .ref x4, .int (iI ((xc : Nat) : Int))])), (x1, .inl ((g.2.1 0), 64, .inl xl)), (x2, .inl ((g.2.1 0), 8, .inl (nF xn))), (x3, .inl ((g.2.1 2), 8, .inl (bF xo))), (x4, .inl ((g.2.1 0), 9, .inl (nF ch))), (u0, .inr (8, [.ref u1, .int (iI ((un : Nat) : Int))])), (u1, .inl ((g.2.1 0), 200, .inl uf))] (some (.int (iI (bI w.1)))) [(d0, .inr (1, [.ref s0, .ref t0, .ref x0, .ref u0])), (s0, .inr (6, [.ref s1, .int (iI ((sn : Nat) : Int)), .int (iI ((w.2.1 : Nat) : Int))])), (s1, .inl ((g.2.1 0), 200, .inl sf)), (t0, .inr (7, [.ref t1, .ref t2, .ref t3, .ref t4, .int (iI ((w.2.2.1 : Nat) : Int))])), (t1, .inl ((g.2.1 0), 40, .inl (q1 w.2.2.2.1))), (t2, .inl ((g.2.1 0), 40, .inl (q2 w.2.2.2.1))), (t3, .inl ((g.2.1 0), 40, .inl (q3 w.2.2.2.1))), (t4, .inl ((g.2.1 0), 40, .inl (q4 w.2.2.2.1))), (x0, .inr (3, [.ref x1, .ref x2, .ref x3, .ref x4, .int (iI ((xc : Nat) : Int))])), (x1, .inl ((g.2.1 0), 64, .inl xl)), (x2, .inl ((g.2.1 0), 8, .inl (nF xn))), (x3, .inl ((g.2.1 2), 8, .inl (bF xo))), (x4, .inl ((g.2.1 0), 9, .inl (nF ch))), (u0, .inr (8, [.ref u1, .int (iI ((w.2.2.2.2.1 : Nat) : Int))])), (u1, .inl ((g.2.1 0), 200, .inl w.2.2.2.2.2))] := by
  refine ct_z (lv := [(0, .ref d0), (1, .int (iI ix)), (2, .int (iI lo))]) (by decide) rfl (Nat.le_of_ble_eq_true rfl) rfl ?_
  intro x hC hR
  have hr9 := tvR_rng sn sf sp
  have hp9 := tvP_rng sn sf sp hsp
  refine z_aload_n hC d_Rd_takesGreatest_0 rfl 0 rfl ?_
  refine z_get hC hi_Fr 0 rfl rfl 0 (by decide) mw_156 (Or.inl rfl) rfl d_Rd_takesGreatest_1 ?_
  refine z_callV (q0 := 1) (ci := 6) (w' := [(d0, .inr (1, [.ref s0, .ref t0, .ref x0, .ref u0])), (s0, .inr (6, [.ref s1, .int (iI ((sn : Nat) : Int)), .int (iI ((sp : Nat) : Int))])), (s1, .inl ((g.2.1 0), 200, .inl sf)), (t0, .inr (7, [.ref t1, .ref t2, .ref t3, .ref t4, .int (iI ((tn : Nat) : Int))])), (t1, .inl ((g.2.1 0), 40, .inl (q1 nd))), (t2, .inl ((g.2.1 0), 40, .inl (q2 nd))), (t3, .inl ((g.2.1 0), 40, .inl (q3 nd))), (t4, .inl ((g.2.1 0), 40, .inl (q4 nd))), (x0, .inr (3, [.ref x1, .ref x2, .ref x3, .ref x4, .int (iI ((xc : Nat) : Int))])), (x1, .inl ((g.2.1 0), 64, .inl xl)), (x2, .inl ((g.2.1 0), 8, .inl (nF xn))), (x3, .inl ((g.2.1 2), 8, .inl (bF xo))), (x4, .inl ((g.2.1 0), 9, .inl (nF ch))), (u0, .inr (8, [.ref u1, .int (iI ((un : Nat) : Int))])), (u1, .inl ((g.2.1 0), 200, .inl uf))]) (st1 := [.int (iI ((sp : Nat) : Int))]) hC (k_So_place l g s0 s1 sn sp sf) mw_462 zv_So_place rfl rfl ⟨Nat.le_of_ble_eq_true rfl, Nat.le_of_ble_eq_true rfl⟩ [1, 2] rfl rfl rfl rfl rfl rfl rfl rfl (Nat.le_of_ble_eq_true rfl) d_Rd_takesGreatest_4 rfl ⟨Nat.zero_le _, Nat.zero_le _⟩ rfl ?_
  refine z_istore_n (lv' := [(3, .int (iI ((sp : Nat) : Int))), (0, .ref d0), (1, .int (iI ix)), (2, .int (iI lo))]) hC d_Rd_takesGreatest_7 rfl (by decide) rfl ?_
  refine z_aload_n hC d_Rd_takesGreatest_8 rfl 1 rfl ?_
  refine z_get hC hi_Fr 0 rfl rfl 0 (by decide) mw_156 (Or.inl rfl) rfl d_Rd_takesGreatest_9 ?_
  refine z_callV (q0 := 1) (ci := 6) (w' := [(d0, .inr (1, [.ref s0, .ref t0, .ref x0, .ref u0])), (s0, .inr (6, [.ref s1, .int (iI ((sn : Nat) : Int)), .int (iI ((tvP sn sf sp : Nat) : Int))])), (s1, .inl ((g.2.1 0), 200, .inl sf)), (t0, .inr (7, [.ref t1, .ref t2, .ref t3, .ref t4, .int (iI ((tn : Nat) : Int))])), (t1, .inl ((g.2.1 0), 40, .inl (q1 nd))), (t2, .inl ((g.2.1 0), 40, .inl (q2 nd))), (t3, .inl ((g.2.1 0), 40, .inl (q3 nd))), (t4, .inl ((g.2.1 0), 40, .inl (q4 nd))), (x0, .inr (3, [.ref x1, .ref x2, .ref x3, .ref x4, .int (iI ((xc : Nat) : Int))])), (x1, .inl ((g.2.1 0), 64, .inl xl)), (x2, .inl ((g.2.1 0), 8, .inl (nF xn))), (x3, .inl ((g.2.1 2), 8, .inl (bF xo))), (x4, .inl ((g.2.1 0), 9, .inl (nF ch))), (u0, .inr (8, [.ref u1, .int (iI ((un : Nat) : Int))])), (u1, .inl ((g.2.1 0), 200, .inl uf))]) (st1 := [.int (iI (tvR sn sf sp))]) hC (k_So_takeValue l g s0 s1 sn sp sf hsn hsp) mw_505 zv_So_takeValue rfl rfl ⟨Nat.le_of_ble_eq_true rfl, Nat.le_of_ble_eq_true rfl⟩ [1, 2] rfl rfl rfl rfl rfl rfl rfl rfl (Nat.le_of_ble_eq_true rfl) d_Rd_takesGreatest_12 rfl ⟨Nat.zero_le _, Nat.zero_le _⟩ rfl ?_
  refine z_istore (lv' := [(4, .int (iI (tvR sn sf sp))), (3, .int (iI ((sp : Nat) : Int))), (0, .ref d0), (1, .int (iI ix)), (2, .int (iI lo))]) hC d_Rd_takesGreatest_15 (by decide) rfl ?_
  refine z_iload hC d_Rd_takesGreatest_17 0 rfl ?_
  refine z_iconst hC d_Rd_takesGreatest_19 ?_
  refine z_icmp_ne (tgt := 25) hC (tvR sn sf sp) (-1) d_Rd_takesGreatest_20 rfl (iI_t (by omega)) (iI_t (by omega)) (fun c_1 => ?_) (fun c_1 => ?_)
  · refine z_iload hC d_Rd_takesGreatest_25 0 rfl ?_
    refine z_iload_n hC d_Rd_takesGreatest_27 rfl 4 rfl ?_
    refine z_icmp_ge (tgt := 41) hC (tvR sn sf sp) lo d_Rd_takesGreatest_28 rfl (iI_t (by omega)) (iI_t (by omega)) (fun c_2 => ?_) (fun c_2 => ?_)
    · refine z_aload_n hC d_Rd_takesGreatest_41 rfl 2 rfl ?_
      refine z_get hC hi_Fr 0 rfl rfl 1 (by decide) mw_161 (Or.inl rfl) rfl d_Rd_takesGreatest_42 ?_
      refine z_iconstN hC 1 d_Rd_takesGreatest_45 rfl ?_
      refine z_iload_n hC d_Rd_takesGreatest_46 rfl 3 rfl ?_
      refine z_iload_n hC d_Rd_takesGreatest_47 rfl 4 rfl ?_
      refine z_iload hC d_Rd_takesGreatest_48 0 rfl ?_
      by_cases c_3 : tn < 40
      · refine z_callV (q0 := 3) (ci := 7) (w' := [(d0, .inr (1, [.ref s0, .ref t0, .ref x0, .ref u0])), (s0, .inr (6, [.ref s1, .int (iI ((sn : Nat) : Int)), .int (iI ((tvP sn sf sp : Nat) : Int))])), (s1, .inl ((g.2.1 0), 200, .inl sf)), (t0, .inr (7, [.ref t1, .ref t2, .ref t3, .ref t4, .int (iI ((tn + 1 : Nat) : Int))])), (t1, .inl ((g.2.1 0), 40, .inl (q1 (up nd tn ((iI ((1 : Nat) : Int)), (iI ix), (iI lo), (iI (tvR sn sf sp))))))), (t2, .inl ((g.2.1 0), 40, .inl (q2 (up nd tn ((iI ((1 : Nat) : Int)), (iI ix), (iI lo), (iI (tvR sn sf sp))))))), (t3, .inl ((g.2.1 0), 40, .inl (q3 (up nd tn ((iI ((1 : Nat) : Int)), (iI ix), (iI lo), (iI (tvR sn sf sp))))))), (t4, .inl ((g.2.1 0), 40, .inl (q4 (up nd tn ((iI ((1 : Nat) : Int)), (iI ix), (iI lo), (iI (tvR sn sf sp))))))), (x0, .inr (3, [.ref x1, .ref x2, .ref x3, .ref x4, .int (iI ((xc : Nat) : Int))])), (x1, .inl ((g.2.1 0), 64, .inl xl)), (x2, .inl ((g.2.1 0), 8, .inl (nF xn))), (x3, .inl ((g.2.1 2), 8, .inl (bF xo))), (x4, .inl ((g.2.1 0), 9, .inl (nF ch))), (u0, .inr (8, [.ref u1, .int (iI ((un : Nat) : Int))])), (u1, .inl ((g.2.1 0), 200, .inl uf))]) (st1 := [.int (iI (bI true))]) hC (k_Tr_append_T l g t0 t1 t2 t3 t4 tn nd (iI ((1 : Nat) : Int)) (iI ix) (iI lo) (iI (tvR sn sf sp)) htn (by omega)) mw_506 zv_Tr_append rfl rfl ⟨Nat.le_of_ble_eq_true rfl, Nat.le_of_ble_eq_true rfl⟩ [3, 4, 5, 6, 7] rfl rfl rfl rfl rfl rfl rfl rfl (Nat.le_of_ble_eq_true rfl) d_Rd_takesGreatest_50 rfl ⟨Nat.zero_le _, Nat.zero_le _⟩ rfl ?_
        have hz9 : w = (true, (tvP sn sf sp, tn + 1, (up nd tn ((iI ((1 : Nat) : Int)), (iI ix), (iI lo), (iI (tvR sn sf sp)))), un, uf)) := by rw [hw]; unfold tkG apB; (try dsimp only); skip; (try dsimp only); (repeat' split) <;> first | rfl | exact Prod.ext (by assumption) rfl | (exfalso; omega) | (exfalso; contradiction) | (subst_vars; rfl) | (exfalso; simp_all; done)
        subst hz9
        exact Z.eq rfl rfl rfl rfl (hR _ _ d_Rd_takesGreatest_53)
      · refine z_callV (q0 := 3) (ci := 7) (w' := [(d0, .inr (1, [.ref s0, .ref t0, .ref x0, .ref u0])), (s0, .inr (6, [.ref s1, .int (iI ((sn : Nat) : Int)), .int (iI ((tvP sn sf sp : Nat) : Int))])), (s1, .inl ((g.2.1 0), 200, .inl sf)), (t0, .inr (7, [.ref t1, .ref t2, .ref t3, .ref t4, .int (iI ((tn : Nat) : Int))])), (t1, .inl ((g.2.1 0), 40, .inl (q1 nd))), (t2, .inl ((g.2.1 0), 40, .inl (q2 nd))), (t3, .inl ((g.2.1 0), 40, .inl (q3 nd))), (t4, .inl ((g.2.1 0), 40, .inl (q4 nd))), (x0, .inr (3, [.ref x1, .ref x2, .ref x3, .ref x4, .int (iI ((xc : Nat) : Int))])), (x1, .inl ((g.2.1 0), 64, .inl xl)), (x2, .inl ((g.2.1 0), 8, .inl (nF xn))), (x3, .inl ((g.2.1 2), 8, .inl (bF xo))), (x4, .inl ((g.2.1 0), 9, .inl (nF ch))), (u0, .inr (8, [.ref u1, .int (iI ((un : Nat) : Int))])), (u1, .inl ((g.2.1 0), 200, .inl uf))]) (st1 := [.int (iI (bI false))]) hC (k_Tr_append_F l g t0 t1 t2 t3 t4 tn nd (iI ((1 : Nat) : Int)) (iI ix) (iI lo) (iI (tvR sn sf sp)) htn (by omega)) mw_506 zv_Tr_append rfl rfl ⟨Nat.le_of_ble_eq_true rfl, Nat.le_of_ble_eq_true rfl⟩ [3, 4, 5, 6, 7] rfl rfl rfl rfl rfl rfl rfl rfl (Nat.le_of_ble_eq_true rfl) d_Rd_takesGreatest_50 rfl ⟨Nat.zero_le _, Nat.zero_le _⟩ rfl ?_
        have hz9 : w = (false, (tvP sn sf sp, tn, nd, un, uf)) := by rw [hw]; unfold tkG apB; (try dsimp only); skip; (try dsimp only); (repeat' split) <;> first | rfl | exact Prod.ext (by assumption) rfl | (exfalso; omega) | (exfalso; contradiction) | (subst_vars; rfl) | (exfalso; simp_all; done)
        subst hz9
        exact Z.eq rfl rfl rfl rfl (hR _ _ d_Rd_takesGreatest_53)
    · refine z_aload_n hC d_Rd_takesGreatest_31 rfl 2 rfl ?_
      refine z_get hC hi_Fr 0 rfl rfl 0 (by decide) mw_156 (Or.inl rfl) rfl d_Rd_takesGreatest_32 ?_
      refine z_iload_n hC d_Rd_takesGreatest_35 rfl 1 rfl ?_
      refine z_callV (q0 := 1) (ci := 6) (w' := [(d0, .inr (1, [.ref s0, .ref t0, .ref x0, .ref u0])), (s0, .inr (6, [.ref s1, .int (iI ((sn : Nat) : Int)), .int (iI ((sp : Nat) : Int))])), (s1, .inl ((g.2.1 0), 200, .inl sf)), (t0, .inr (7, [.ref t1, .ref t2, .ref t3, .ref t4, .int (iI ((tn : Nat) : Int))])), (t1, .inl ((g.2.1 0), 40, .inl (q1 nd))), (t2, .inl ((g.2.1 0), 40, .inl (q2 nd))), (t3, .inl ((g.2.1 0), 40, .inl (q3 nd))), (t4, .inl ((g.2.1 0), 40, .inl (q4 nd))), (x0, .inr (3, [.ref x1, .ref x2, .ref x3, .ref x4, .int (iI ((xc : Nat) : Int))])), (x1, .inl ((g.2.1 0), 64, .inl xl)), (x2, .inl ((g.2.1 0), 8, .inl (nF xn))), (x3, .inl ((g.2.1 2), 8, .inl (bF xo))), (x4, .inl ((g.2.1 0), 9, .inl (nF ch))), (u0, .inr (8, [.ref u1, .int (iI ((un : Nat) : Int))])), (u1, .inl ((g.2.1 0), 200, .inl uf))]) (st1 := []) hC (k_So_moveTo l g s0 s1 sn (tvP sn sf sp) sf sp) mw_474 zv_So_moveTo rfl rfl ⟨Nat.le_of_ble_eq_true rfl, Nat.le_of_ble_eq_true rfl⟩ [1, 2] rfl rfl rfl rfl rfl rfl rfl rfl (Nat.le_of_ble_eq_true rfl) d_Rd_takesGreatest_36 rfl ⟨Nat.zero_le _, Nat.zero_le _⟩ rfl ?_
      refine z_iconstN hC 0 d_Rd_takesGreatest_39 rfl ?_
      have hz9 : w = (false, (sp, tn, nd, un, uf)) := by rw [hw]; unfold tkG apB; (try dsimp only); skip; (try dsimp only); (repeat' split) <;> first | rfl | exact Prod.ext (by assumption) rfl | (exfalso; omega) | (exfalso; contradiction) | (subst_vars; rfl) | (exfalso; simp_all; done)
      subst hz9
      exact Z.eq rfl rfl rfl rfl (hR _ _ d_Rd_takesGreatest_40)
  · refine z_iconstN hC 0 d_Rd_takesGreatest_23 rfl ?_
    have hz9 : w = (false, (tvP sn sf sp, tn, nd, un, uf)) := by rw [hw]; unfold tkG apB; (try dsimp only); skip; (try dsimp only); (repeat' split) <;> first | rfl | exact Prod.ext (by assumption) rfl | (exfalso; omega) | (exfalso; contradiction) | (subst_vars; rfl) | (exfalso; simp_all; done)
    subst hz9
    exact Z.eq rfl rfl rfl rfl (hR _ _ d_Rd_takesGreatest_24)
