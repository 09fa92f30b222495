theorem z_RI3 {x : ZC} {u : Nat × Nat} {w : va_W} {pc : Nat} {lv : List (Nat × Value)} {st : List Value} {v : Int32} {y y2 : Value} (k : Z x u w pc lv (y :: y2 :: .int (iI v.toInt) :: st)) : Z x u w pc lv (y :: y2 :: .int v :: st) := by rw [iI_of] at k; exact k
theorem zmin_code : Cond.code Lib.Math.min.name Lib.Math.min.code 2 (some .int) ∈ zTB := mw_399
theorem z_mminN {x : ZC} {l : Launch} {g : ZG} {R : Room} {cc : ByteArray} {nL : Nat} {own : String} {u : Nat × Nat} {w : va_W} {pc : Nat} {lv : List (Nat × Value)} {st : List Value} (hC : zO x l g R cc nL own) {a b index : Nat} (hl0 : Cond.methodLink own index ⟨"java/lang/Math", "min", "(II)I"⟩ ∈ zTB) (ha : a < 2147483648) (hb9 : b < 2147483648) (hf : 1 ≤ R.frames) (hlo : 21 ≤ R.locals) (hd : decode cc pc = .ok (.invokestatic index, 3)) (k : Z x u w (pc + 3) lv (.int (iI ((min a b : Nat) : Int)) :: st)) (hsum : (st.map fun v => v.category).sum ≤ 8 := by exact Nat.le_of_ble_eq_true rfl) (hu : u.1 ≤ R.cells ∧ u.2 ≤ R.slots := by exact ⟨Nat.zero_le _, Nat.zero_le _⟩) : Z x u w pc lv (.int (iI ((b : Nat) : Int)) :: .int (iI ((a : Nat) : Int)) :: st) := by
  obtain ⟨p, l', e, R', s, m, args, below, meth, c, g', A, H0, Q, nL'⟩ := x
  obtain ⟨rfl, rfl, rfl, rfl, ⟨hx, hb, hml, hown, hts⟩, hK, rfl, hA⟩ := hC
  have e1 : (if iI ((b : Nat) : Int) < iI ((a : Nat) : Int) then iI ((b : Nat) : Int) else iI ((a : Nat) : Int)) = iI ((min a b : Nat) : Int) := by
    by_cases h : b < a
    · rw [if_pos ((zc_lt (iI_t (by omega)) (iI_t (by omega))).mpr (by omega)), show min a b = b by omega]
    · rw [if_neg (fun z => h (by have := (zc_lt (a := (b : Int)) (b := (a : Int)) (iI_t (by omega)) (iI_t (by omega))).mp z; omega)), show min a b = a by omega]
  exact fun H locs ls hP hD hS hl => va_mmin hx hb (hml.trans hl.1.symm) hown (hts _ hl0) (hts _ mw_398) (hts _ mw_63) (hts _ zmin_code) hf (by omega) hu.1 hu.2 hd (by rw [e1]; exact k H locs ls hP hD hS hl)
theorem zmax_code : Cond.code Lib.Math.max.name Lib.Math.max.code 2 (some .int) ∈ zTB := mw_402
theorem z_mmaxN {x : ZC} {l : Launch} {g : ZG} {R : Room} {cc : ByteArray} {nL : Nat} {own : String} {u : Nat × Nat} {w : va_W} {pc : Nat} {lv : List (Nat × Value)} {st : List Value} (hC : zO x l g R cc nL own) {a b index : Nat} (hl0 : Cond.methodLink own index ⟨"java/lang/Math", "max", "(II)I"⟩ ∈ zTB) (ha : a < 2147483648) (hb9 : b < 2147483648) (hf : 1 ≤ R.frames) (hlo : 21 ≤ R.locals) (hd : decode cc pc = .ok (.invokestatic index, 3)) (k : Z x u w (pc + 3) lv (.int (iI ((max a b : Nat) : Int)) :: st)) (hsum : (st.map fun v => v.category).sum ≤ 8 := by exact Nat.le_of_ble_eq_true rfl) (hu : u.1 ≤ R.cells ∧ u.2 ≤ R.slots := by exact ⟨Nat.zero_le _, Nat.zero_le _⟩) : Z x u w pc lv (.int (iI ((b : Nat) : Int)) :: .int (iI ((a : Nat) : Int)) :: st) := by
  obtain ⟨p, l', e, R', s, m, args, below, meth, c, g', A, H0, Q, nL'⟩ := x
  obtain ⟨rfl, rfl, rfl, rfl, ⟨hx, hb, hml, hown, hts⟩, hK, rfl, hA⟩ := hC
  have e1 : (if iI ((a : Nat) : Int) < iI ((b : Nat) : Int) then iI ((b : Nat) : Int) else iI ((a : Nat) : Int)) = iI ((max a b : Nat) : Int) := by
    by_cases h : a < b
    · rw [if_pos ((zc_lt (iI_t (by omega)) (iI_t (by omega))).mpr (by omega)), show max a b = b by omega]
    · rw [if_neg (fun z => h (by have := (zc_lt (a := (a : Int)) (b := (b : Int)) (iI_t (by omega)) (iI_t (by omega))).mp z; omega)), show max a b = a by omega]
  exact fun H locs ls hP hD hS hl => va_mmax hx hb (hml.trans hl.1.symm) hown (hts _ hl0) (hts _ mw_401) (hts _ mw_63) (hts _ zmax_code) hf (by omega) hu.1 hu.2 hd (by rw [e1]; exact k H locs ls hP hD hS hl)
/-! ===== indexes ===== -/
def brk (c : Nat) (o : Nat → Bool) (x : Int32) : Bool := decide (0 ≤ x.toInt ∧ x.toInt < c) && !(o x.toInt.toNat)
def nmB (xn : Nat → Nat) (xl : Nat → Int32) (n : Nat) (f : Nat → Int32) (p e k : Nat) : Bool := decide (xn k = e - p) && allB (fun j => decide (xl (k * 8 + j) = sN n f (p + j))) (xn k)
def fnd (P : Nat → Bool) : Nat → Nat → Int
  | 0, _ => -1
  | n + 1, i => if P i = true then (i : Int) else fnd P n (i + 1)
theorem fnd_go {P : Nat → Bool} {c i : Nat} (hi : i < c) (h : P i = false) : fnd P (c - (i + 1)) (i + 1) = fnd P (c - i) i := by
  rw [show c - i = (c - (i + 1)) + 1 by omega]
  simp only [fnd]
  rw [if_neg (by rw [h]; decide)]
theorem fnd_hit {P : Nat → Bool} {c i : Nat} (hi : i < c) (h : P i = true) : fnd P (c - i) i = (i : Int) := by
  rw [show c - i = (c - (i + 1)) + 1 by omega]
  simp only [fnd]
  rw [if_pos h]
theorem fnd_out {P : Nat → Bool} {c i : Nat} (hi : c ≤ i) : fnd P (c - i) i = -1 := by
  rw [show c - i = 0 by omega]
  rfl
theorem fnd_rng (P : Nat → Bool) : ∀ (n i : Nat), fnd P n i = -1 ∨ ((i : Int) ≤ fnd P n i ∧ fnd P n i < i + n)
  | 0, i => Or.inl rfl
  | n + 1, i => by
    simp only [fnd]
    split
    · exact Or.inr (by omega)
    · rcases fnd_rng P n (i + 1) with h | h
      · exact Or.inl h
      · exact Or.inr (by omega)
set_option maxHeartbeats 4000000 in
set_option maxRecDepth 100000 in
theorem k_Ix_has (l : Launch) (g : ZG) (x0 x1 x2 x3 x4 xc : Nat) (xl : Nat → Int32) (xn : Nat → Nat) (xo : Nat → Bool) (ch : Nat → Nat) (i : Int) (hxc : xc ≤ 8) (hi : -2147483648 ≤ i ∧ i < 2147483648)   : Ct l g y_Ix_has c_Ix_has 2 (some .boolean) { frames := 0, cells := 0, slots := 0, locals := 0 } [.ref x0, .int (iI i)] [(x0, .inr (3, [.ref x1, .ref x2, .ref x3, .ref x4, .int (iI ((xc : Nat) : Int))])), (x1, .inl ((g.2.1 0), 64, .inl xl)), (x2, .inl ((g.2.1 0), 8, .inl (nF xn))), (x3, .inl ((g.2.1 2), 8, .inl (bF xo))), (x4, .inl ((g.2.1 0), 9, .inl (nF ch)))] (some (.int (iI (bI (decide (0 ≤ i ∧ i < xc)))))) [(x0, .inr (3, [.ref x1, .ref x2, .ref x3, .ref x4, .int (iI ((xc : Nat) : Int))])), (x1, .inl ((g.2.1 0), 64, .inl xl)), (x2, .inl ((g.2.1 0), 8, .inl (nF xn))), (x3, .inl ((g.2.1 2), 8, .inl (bF xo))), (x4, .inl ((g.2.1 0), 9, .inl (nF ch)))] := by
  refine ct_z (lv := [(0, .ref x0), (1, .int (iI i))]) (by decide) rfl (Nat.le_of_ble_eq_true rfl) rfl ?_
  intro x hC hR
  refine z_iload_n hC d_Ix_has_0 rfl 1 rfl ?_
  refine z_if_lt (tgt := 22) hC i d_Ix_has_1 rfl (iI_t (by omega)) (fun c_1 => ?_) (fun c_1 => ?_)
  · refine z_iconstN hC 0 d_Ix_has_22 rfl ?_
    exact Z.eq rfl rfl rfl (zb_f (decide_eq_false (by omega))) (hR _ _ d_Ix_has_23)
  · refine z_iload_n hC d_Ix_has_4 rfl 1 rfl ?_
    refine z_aload_n hC d_Ix_has_5 rfl 0 rfl ?_
    refine z_get hC hi_Ix 0 rfl rfl 4 (by decide) mw_99 (Or.inl rfl) rfl d_Ix_has_6 ?_
    refine z_icmp_ge (tgt := 22) hC i ((xc : Nat) : Int) d_Ix_has_9 rfl (iI_t (by omega)) (iI_t (by omega)) (fun c_2 => ?_) (fun c_2 => ?_)
    · refine z_iconstN hC 0 d_Ix_has_22 rfl ?_
      exact Z.eq rfl rfl rfl (zb_f (decide_eq_false (by omega))) (hR _ _ d_Ix_has_23)
    · refine z_iload_n hC d_Ix_has_12 rfl 1 rfl ?_
      refine z_bipush (a := ((8 : Nat) : Int)) hC d_Ix_has_13 (by decide) ?_
      refine z_icmp_ge (tgt := 22) hC i ((8 : Nat) : Int) d_Ix_has_15 rfl (iI_t (by omega)) (iI_t (by omega)) (fun c_3 => ?_) (fun c_3 => ?_)
      · refine z_iconstN hC 0 d_Ix_has_22 rfl ?_
        exact Z.eq rfl rfl rfl (zb_f (decide_eq_false (by omega))) (hR _ _ d_Ix_has_23)
      · refine z_iconstN hC 1 d_Ix_has_18 rfl ?_
        refine z_goto (tgt := 23) hC d_Ix_has_19 rfl ?_
        exact Z.eq rfl rfl rfl (zb_t (decide_eq_true (by omega))) (hR _ _ d_Ix_has_23)
set_option maxHeartbeats 4000000 in
set_option maxRecDepth 100000 in
theorem k_Ix_turn (l : Launch) (g : ZG) (x0 x1 x2 x3 x4 xc : Nat) (xl : Nat → Int32) (xn : Nat → Nat) (xo : Nat → Bool) (ch : Nat → Nat) (i : Int) (on : Bool) (hxc : xc ≤ 8) (hi : -2147483648 ≤ i ∧ i < 2147483648)   : Ct l g y_Ix_turn c_Ix_turn 4 (some .boolean) { frames := 1, cells := 0, slots := 0, locals := 21 } [.ref x0, .int (iI i), .int (iI (bI on))] [(x0, .inr (3, [.ref x1, .ref x2, .ref x3, .ref x4, .int (iI ((xc : Nat) : Int))])), (x1, .inl ((g.2.1 0), 64, .inl xl)), (x2, .inl ((g.2.1 0), 8, .inl (nF xn))), (x3, .inl ((g.2.1 2), 8, .inl (bF xo))), (x4, .inl ((g.2.1 0), 9, .inl (nF ch)))] (some (.int (iI (bI (decide (0 ≤ i ∧ i < xc) && xo i.toNat))))) [(x0, .inr (3, [.ref x1, .ref x2, .ref x3, .ref x4, .int (iI ((xc : Nat) : Int))])), (x1, .inl ((g.2.1 0), 64, .inl xl)), (x2, .inl ((g.2.1 0), 8, .inl (nF xn))), (x3, .inl ((g.2.1 2), 8, .inl (bF (if 0 ≤ i ∧ i < xc then up xo i.toNat on else xo)))), (x4, .inl ((g.2.1 0), 9, .inl (nF ch)))] := by
  refine ct_z (lv := [(0, .ref x0), (1, .int (iI i)), (2, .int (iI (bI on)))]) (by decide) rfl (Nat.le_of_ble_eq_true rfl) rfl ?_
  intro x hC hR
  refine z_aload_n hC d_Ix_turn_0 rfl 0 rfl ?_
  refine z_iload_n hC d_Ix_turn_1 rfl 1 rfl ?_
  refine z_callV (q0 := 0) (ci := 3) (w' := [(x0, .inr (3, [.ref x1, .ref x2, .ref x3, .ref x4, .int (iI ((xc : Nat) : Int))])), (x1, .inl ((g.2.1 0), 64, .inl xl)), (x2, .inl ((g.2.1 0), 8, .inl (nF xn))), (x3, .inl ((g.2.1 2), 8, .inl (bF xo))), (x4, .inl ((g.2.1 0), 9, .inl (nF ch)))]) (st1 := [.int (iI (bI (decide (0 ≤ i ∧ i < xc))))]) hC (k_Ix_has l g x0 x1 x2 x3 x4 xc xl xn xo ch i hxc hi) mw_393 zv_Ix_has rfl rfl ⟨Nat.le_of_ble_eq_true rfl, Nat.le_of_ble_eq_true rfl⟩ [0, 1, 2, 3, 4] rfl rfl rfl rfl rfl rfl rfl rfl (Nat.le_of_ble_eq_true rfl) d_Ix_turn_2 rfl ⟨Nat.zero_le _, Nat.zero_le _⟩ rfl ?_
  refine z_ifneD (tgt := 10) hC d_Ix_turn_5 rfl (fun c_1 => ?_) (fun c_1 => ?_)
  · refine z_aload_n hC d_Ix_turn_10 rfl 0 rfl ?_
    refine z_get hC hi_Ix 0 rfl rfl 2 (by decide) mw_97 (Or.inl rfl) rfl d_Ix_turn_11 ?_
    refine z_iload_n hC d_Ix_turn_14 rfl 1 rfl ?_
    refine z_zaldB hC 3 2 rfl rfl ((i).toNat) (by omega) (by omega) (by decide) d_Ix_turn_15 ?_
    refine z_istore_n (lv' := [(3, .int (iI (bI (xo ((i).toNat))))), (0, .ref x0), (1, .int (iI i)), (2, .int (iI (bI on)))]) hC d_Ix_turn_16 rfl (by decide) rfl ?_
    refine z_aload_n hC d_Ix_turn_17 rfl 1 rfl ?_
    refine z_get hC hi_Ix 0 rfl rfl 2 (by decide) mw_97 (Or.inl rfl) rfl d_Ix_turn_18 ?_
    refine z_iload_n hC d_Ix_turn_21 rfl 2 rfl ?_
    refine z_iload_n hC d_Ix_turn_22 rfl 3 rfl ?_
    refine z_zastB (v := on) (w' := [(x0, .inr (3, [.ref x1, .ref x2, .ref x3, .ref x4, .int (iI ((xc : Nat) : Int))])), (x1, .inl ((g.2.1 0), 64, .inl xl)), (x2, .inl ((g.2.1 0), 8, .inl (nF xn))), (x3, .inl ((g.2.1 2), 8, .inl (bF (up xo ((i).toNat) on)))), (x4, .inl ((g.2.1 0), 9, .inl (nF ch)))]) hC 3 2 rfl rfl ((i).toNat) (by omega) (by omega) (by decide) rfl d_Ix_turn_23 ?_
    refine z_iload_n hC d_Ix_turn_24 rfl 0 rfl ?_
    exact Z.eq (by first | (rw [if_neg (by omega)]; done) | (rw [if_pos (by omega)]; done)) rfl rfl (zb_e (by first | (rw [decide_eq_false (by omega)]; rfl) | (rw [decide_eq_true (by omega)]; rfl))) (hR _ _ d_Ix_turn_25)
  · refine z_iconstN hC 0 d_Ix_turn_8 rfl ?_
    exact Z.eq (by first | (rw [if_neg (by omega)]; done) | (rw [if_pos (by omega)]; done)) rfl rfl (zb_f (by first | (rw [decide_eq_false (by omega)]; rfl) | (rw [decide_eq_true (by omega)]; rfl))) (hR _ _ d_Ix_turn_9)
set_option maxHeartbeats 4000000 in
set_option maxRecDepth 100000 in
theorem k_Ix_isBroken (l : Launch) (g : ZG) (x0 x1 x2 x3 x4 xc : Nat) (xl : Nat → Int32) (xn : Nat → Nat) (xo : Nat → Bool) (ch : Nat → Nat) (t0 t1 t2 t3 t4 tn : Nat) (nd : Nat → QD) (hxc : xc ≤ 8) (htn : tn ≤ 40)   : Ct l g y_Ix_isBroken c_Ix_isBroken 4 (some .boolean) { frames := 2, cells := 0, slots := 0, locals := 42 } [.ref x0, .ref t0] [(x0, .inr (3, [.ref x1, .ref x2, .ref x3, .ref x4, .int (iI ((xc : Nat) : Int))])), (x1, .inl ((g.2.1 0), 64, .inl xl)), (x2, .inl ((g.2.1 0), 8, .inl (nF xn))), (x3, .inl ((g.2.1 2), 8, .inl (bF xo))), (x4, .inl ((g.2.1 0), 9, .inl (nF ch))), (t0, .inr (7, [.ref t1, .ref t2, .ref t3, .ref t4, .int (iI ((tn : Nat) : Int))])), (t1, .inl ((g.2.1 0), 40, .inl (q1 nd))), (t2, .inl ((g.2.1 0), 40, .inl (q2 nd))), (t3, .inl ((g.2.1 0), 40, .inl (q3 nd))), (t4, .inl ((g.2.1 0), 40, .inl (q4 nd)))] (some (.int (iI (bI (exB (fun k => brk xc xo (nd k).2.1) tn))))) [(x0, .inr (3, [.ref x1, .ref x2, .ref x3, .ref x4, .int (iI ((xc : Nat) : Int))])), (x1, .inl ((g.2.1 0), 64, .inl xl)), (x2, .inl ((g.2.1 0), 8, .inl (nF xn))), (x3, .inl ((g.2.1 2), 8, .inl (bF xo))), (x4, .inl ((g.2.1 0), 9, .inl (nF ch))), (t0, .inr (7, [.ref t1, .ref t2, .ref t3, .ref t4, .int (iI ((tn : Nat) : Int))])), (t1, .inl ((g.2.1 0), 40, .inl (q1 nd))), (t2, .inl ((g.2.1 0), 40, .inl (q2 nd))), (t3, .inl ((g.2.1 0), 40, .inl (q3 nd))), (t4, .inl ((g.2.1 0), 40, .inl (q4 nd)))] := by
  refine ct_z (lv := [(0, .ref x0), (1, .ref t0)]) (by decide) rfl (Nat.le_of_ble_eq_true rfl) rfl ?_
  intro x hC hR
  refine z_iconstN hC 0 d_Ix_isBroken_0 rfl ?_
  refine z_istore_n (lv' := [(2, .int (iI ((0 : Nat) : Int))), (0, .ref x0), (1, .ref t0)]) hC d_Ix_isBroken_1 rfl (by decide) rfl ?_
  have L_2 : ∀ (fu : Nat) (i : Nat), (i ≤ tn) → (∀ k, k < i → brk xc xo (nd k).2.1 = false) → tn - i < fu → Z x (0, 0) [(x0, .inr (3, [.ref x1, .ref x2, .ref x3, .ref x4, .int (iI ((xc : Nat) : Int))])), (x1, .inl ((g.2.1 0), 64, .inl xl)), (x2, .inl ((g.2.1 0), 8, .inl (nF xn))), (x3, .inl ((g.2.1 2), 8, .inl (bF xo))), (x4, .inl ((g.2.1 0), 9, .inl (nF ch))), (t0, .inr (7, [.ref t1, .ref t2, .ref t3, .ref t4, .int (iI ((tn : Nat) : Int))])), (t1, .inl ((g.2.1 0), 40, .inl (q1 nd))), (t2, .inl ((g.2.1 0), 40, .inl (q2 nd))), (t3, .inl ((g.2.1 0), 40, .inl (q3 nd))), (t4, .inl ((g.2.1 0), 40, .inl (q4 nd)))] 2 [(2, .int (iI ((i : Nat) : Int))), (0, .ref x0), (1, .ref t0)] [] := by
    intro fu
    induction fu with
    | zero => intro i hi hall hmu; exact absurd hmu (Nat.not_lt_zero _)
    | succ fu ih_2 =>
      intro i hi hall hmu
      refine z_iload_n hC d_Ix_isBroken_2 rfl 0 rfl ?_
      refine z_aload_n hC d_Ix_isBroken_3 rfl 2 rfl ?_
      refine z_callV (q0 := 5) (ci := 7) (w' := [(x0, .inr (3, [.ref x1, .ref x2, .ref x3, .ref x4, .int (iI ((xc : Nat) : Int))])), (x1, .inl ((g.2.1 0), 64, .inl xl)), (x2, .inl ((g.2.1 0), 8, .inl (nF xn))), (x3, .inl ((g.2.1 2), 8, .inl (bF xo))), (x4, .inl ((g.2.1 0), 9, .inl (nF ch))), (t0, .inr (7, [.ref t1, .ref t2, .ref t3, .ref t4, .int (iI ((tn : Nat) : Int))])), (t1, .inl ((g.2.1 0), 40, .inl (q1 nd))), (t2, .inl ((g.2.1 0), 40, .inl (q2 nd))), (t3, .inl ((g.2.1 0), 40, .inl (q3 nd))), (t4, .inl ((g.2.1 0), 40, .inl (q4 nd)))]) (st1 := [.int (iI ((tn : Nat) : Int)), .int (iI ((i : Nat) : Int))]) hC (k_Tr_size l g t0 t1 t2 t3 t4 tn nd) mw_653 zv_Tr_size rfl rfl ⟨Nat.le_of_ble_eq_true rfl, Nat.le_of_ble_eq_true rfl⟩ [5, 6, 7, 8, 9] rfl rfl rfl rfl rfl rfl rfl rfl (Nat.le_of_ble_eq_true rfl) d_Ix_isBroken_4 rfl ⟨Nat.zero_le _, Nat.zero_le _⟩ rfl ?_
      refine z_icmp_ge (tgt := 41) hC ((i : Nat) : Int) ((tn : Nat) : Int) d_Ix_isBroken_7 rfl (iI_t (by omega)) (iI_t (by omega)) (fun c_1 => ?_) (fun c_1 => ?_)
      · refine z_iconstN hC 0 d_Ix_isBroken_41 rfl ?_
        exact Z.eq rfl rfl rfl (zb_f (by first | exact exB_no (fun k h => hall k (by omega)) | exact exB_iff.mpr ⟨i, by omega, by unfold brk; rw [decide_eq_true (by assumption)]; simp_all⟩)) (hR _ _ d_Ix_isBroken_42)
      · refine z_aload_n hC d_Ix_isBroken_10 rfl 2 rfl ?_
        refine z_iload_n hC d_Ix_isBroken_11 rfl 0 rfl ?_
        refine z_callV (q0 := 5) (ci := 7) (w' := [(x0, .inr (3, [.ref x1, .ref x2, .ref x3, .ref x4, .int (iI ((xc : Nat) : Int))])), (x1, .inl ((g.2.1 0), 64, .inl xl)), (x2, .inl ((g.2.1 0), 8, .inl (nF xn))), (x3, .inl ((g.2.1 2), 8, .inl (bF xo))), (x4, .inl ((g.2.1 0), 9, .inl (nF ch))), (t0, .inr (7, [.ref t1, .ref t2, .ref t3, .ref t4, .int (iI ((tn : Nat) : Int))])), (t1, .inl ((g.2.1 0), 40, .inl (q1 nd))), (t2, .inl ((g.2.1 0), 40, .inl (q2 nd))), (t3, .inl ((g.2.1 0), 40, .inl (q3 nd))), (t4, .inl ((g.2.1 0), 40, .inl (q4 nd)))]) (st1 := [.int ((nd i).2.1)]) hC (k_Tr_indexAt_N l g t0 t1 t2 t3 t4 tn nd i htn (by omega)) mw_654 zv_Tr_indexAt rfl rfl ⟨Nat.le_of_ble_eq_true rfl, Nat.le_of_ble_eq_true rfl⟩ [5, 6, 7, 8, 9] rfl rfl rfl rfl rfl rfl rfl rfl (Nat.le_of_ble_eq_true rfl) d_Ix_isBroken_12 rfl ⟨Nat.zero_le _, Nat.zero_le _⟩ rfl ?_
        refine z_istore_n (lv' := [(3, .int ((nd i).2.1)), (2, .int (iI ((i : Nat) : Int))), (0, .ref x0), (1, .ref t0)]) hC d_Ix_isBroken_15 rfl (by decide) rfl ?_
        refine z_aload_n hC d_Ix_isBroken_16 rfl 2 rfl ?_
        refine z_iload_n hC d_Ix_isBroken_17 rfl 0 rfl ?_
        refine z_RI ?_
        refine z_callV (q0 := 0) (ci := 3) (w' := [(x0, .inr (3, [.ref x1, .ref x2, .ref x3, .ref x4, .int (iI ((xc : Nat) : Int))])), (x1, .inl ((g.2.1 0), 64, .inl xl)), (x2, .inl ((g.2.1 0), 8, .inl (nF xn))), (x3, .inl ((g.2.1 2), 8, .inl (bF xo))), (x4, .inl ((g.2.1 0), 9, .inl (nF ch))), (t0, .inr (7, [.ref t1, .ref t2, .ref t3, .ref t4, .int (iI ((tn : Nat) : Int))])), (t1, .inl ((g.2.1 0), 40, .inl (q1 nd))), (t2, .inl ((g.2.1 0), 40, .inl (q2 nd))), (t3, .inl ((g.2.1 0), 40, .inl (q3 nd))), (t4, .inl ((g.2.1 0), 40, .inl (q4 nd)))]) (st1 := [.int (iI (bI (decide (0 ≤ (((nd i).2.1).toInt) ∧ (((nd i).2.1).toInt) < xc))))]) hC (k_Ix_has l g x0 x1 x2 x3 x4 xc xl xn xo ch (((nd i).2.1).toInt) hxc (iI_rng _)) mw_393 zv_Ix_has rfl rfl ⟨Nat.le_of_ble_eq_true rfl, Nat.le_of_ble_eq_true rfl⟩ [0, 1, 2, 3, 4] rfl rfl rfl rfl rfl rfl rfl rfl (Nat.le_of_ble_eq_true rfl) d_Ix_isBroken_18 rfl ⟨Nat.zero_le _, Nat.zero_le _⟩ rfl ?_
        refine z_ifeqD (tgt := 35) hC d_Ix_isBroken_21 rfl (fun c_2 => ?_) (fun c_2 => ?_)
        · refine z_iincN (lv' := [(2, .int (iI ((i + 1 : Nat) : Int))), (3, .int ((nd i).2.1)), (0, .ref x0), (1, .ref t0)]) hC 1 d_Ix_isBroken_35 rfl 1 rfl (by decide) rfl ?_
          refine z_goto (tgt := 2) hC d_Ix_isBroken_38 rfl ?_
          exact Zloc [0, 2, 3] rfl (Z.eq (w' := [(x0, .inr (3, [.ref x1, .ref x2, .ref x3, .ref x4, .int (iI ((xc : Nat) : Int))])), (x1, .inl ((g.2.1 0), 64, .inl xl)), (x2, .inl ((g.2.1 0), 8, .inl (nF xn))), (x3, .inl ((g.2.1 2), 8, .inl (bF xo))), (x4, .inl ((g.2.1 0), 9, .inl (nF ch))), (t0, .inr (7, [.ref t1, .ref t2, .ref t3, .ref t4, .int (iI ((tn : Nat) : Int))])), (t1, .inl ((g.2.1 0), 40, .inl (q1 nd))), (t2, .inl ((g.2.1 0), 40, .inl (q2 nd))), (t3, .inl ((g.2.1 0), 40, .inl (q3 nd))), (t4, .inl ((g.2.1 0), 40, .inl (q4 nd)))]) rfl rfl rfl rfl (ih_2 (i + 1) (by omega) (lt_s hall (by unfold brk; first | (rw [decide_eq_false (by assumption)]; rfl) | simp_all)) (by omega)))
        · refine z_aload_n hC d_Ix_isBroken_24 rfl 2 rfl ?_
          refine z_get hC hi_Ix 0 rfl rfl 2 (by decide) mw_97 (Or.inl rfl) rfl d_Ix_isBroken_25 ?_
          refine z_iload_n hC d_Ix_isBroken_28 rfl 0 rfl ?_
          refine z_RI ?_
          refine z_zaldB hC 3 2 rfl rfl ((((nd i).2.1).toInt).toNat) (by omega) (by omega) (by decide) d_Ix_isBroken_29 ?_
          refine z_ifneB (tgt := 35) hC d_Ix_isBroken_30 rfl (fun c_3 => ?_) (fun c_3 => ?_)
          · refine z_iincN (lv' := [(2, .int (iI ((i + 1 : Nat) : Int))), (3, .int ((nd i).2.1)), (0, .ref x0), (1, .ref t0)]) hC 1 d_Ix_isBroken_35 rfl 1 rfl (by decide) rfl ?_
            refine z_goto (tgt := 2) hC d_Ix_isBroken_38 rfl ?_
            exact Zloc [0, 2, 3] rfl (Z.eq (w' := [(x0, .inr (3, [.ref x1, .ref x2, .ref x3, .ref x4, .int (iI ((xc : Nat) : Int))])), (x1, .inl ((g.2.1 0), 64, .inl xl)), (x2, .inl ((g.2.1 0), 8, .inl (nF xn))), (x3, .inl ((g.2.1 2), 8, .inl (bF xo))), (x4, .inl ((g.2.1 0), 9, .inl (nF ch))), (t0, .inr (7, [.ref t1, .ref t2, .ref t3, .ref t4, .int (iI ((tn : Nat) : Int))])), (t1, .inl ((g.2.1 0), 40, .inl (q1 nd))), (t2, .inl ((g.2.1 0), 40, .inl (q2 nd))), (t3, .inl ((g.2.1 0), 40, .inl (q3 nd))), (t4, .inl ((g.2.1 0), 40, .inl (q4 nd)))]) rfl rfl rfl rfl (ih_2 (i + 1) (by omega) (lt_s hall (by unfold brk; first | (rw [decide_eq_false (by assumption)]; rfl) | simp_all)) (by omega)))
          · refine z_iconstN hC 1 d_Ix_isBroken_33 rfl ?_
            exact Z.eq rfl rfl rfl (zb_t (by first | exact exB_no (fun k h => hall k (by omega)) | exact exB_iff.mpr ⟨i, by omega, by unfold brk; rw [decide_eq_true (by assumption)]; simp_all⟩)) (hR _ _ d_Ix_isBroken_34)
  exact Zloc [0, 1, 2] rfl (Z.eq (w' := [(x0, .inr (3, [.ref x1, .ref x2, .ref x3, .ref x4, .int (iI ((xc : Nat) : Int))])), (x1, .inl ((g.2.1 0), 64, .inl xl)), (x2, .inl ((g.2.1 0), 8, .inl (nF xn))), (x3, .inl ((g.2.1 2), 8, .inl (bF xo))), (x4, .inl ((g.2.1 0), 9, .inl (nF ch))), (t0, .inr (7, [.ref t1, .ref t2, .ref t3, .ref t4, .int (iI ((tn : Nat) : Int))])), (t1, .inl ((g.2.1 0), 40, .inl (q1 nd))), (t2, .inl ((g.2.1 0), 40, .inl (q2 nd))), (t3, .inl ((g.2.1 0), 40, .inl (q3 nd))), (t4, .inl ((g.2.1 0), 40, .inl (q4 nd)))]) rfl rfl rfl rfl (L_2 _ 0 (by omega) (fun k h => absurd h (Nat.not_lt_zero k)) (Nat.lt_succ_self _)))
set_option maxHeartbeats 4000000 in
set_option maxRecDepth 100000 in
theorem k_Ix_lengthOf (l : Launch) (g : ZG) (x0 x1 x2 x3 x4 xc : Nat) (xl : Nat → Int32) (xn : Nat → Nat) (xo : Nat → Bool) (ch : Nat → Nat) (k : Nat) (hxc : xc ≤ 8) (hk : k < xc) (hx9 : xn k ≤ 8)   : Ct l g y_Ix_lengthOf c_Ix_lengthOf 2 (some .int) { frames := 1, cells := 0, slots := 0, locals := 21 } [.ref x0, .int (iI ((k : Nat) : Int))] [(x0, .inr (3, [.ref x1, .ref x2, .ref x3, .ref x4, .int (iI ((xc : Nat) : Int))])), (x1, .inl ((g.2.1 0), 64, .inl xl)), (x2, .inl ((g.2.1 0), 8, .inl (nF xn))), (x3, .inl ((g.2.1 2), 8, .inl (bF xo))), (x4, .inl ((g.2.1 0), 9, .inl (nF ch)))] (some (.int (iI ((xn k : Nat) : Int)))) [(x0, .inr (3, [.ref x1, .ref x2, .ref x3, .ref x4, .int (iI ((xc : Nat) : Int))])), (x1, .inl ((g.2.1 0), 64, .inl xl)), (x2, .inl ((g.2.1 0), 8, .inl (nF xn))), (x3, .inl ((g.2.1 2), 8, .inl (bF xo))), (x4, .inl ((g.2.1 0), 9, .inl (nF ch)))] := by
  refine ct_i (lv := [(0, .ref x0), (1, .int (iI ((k : Nat) : Int)))]) (by decide) rfl (Nat.le_of_ble_eq_true rfl) rfl ?_
  intro x hC hR
  refine z_aload_n hC d_Ix_lengthOf_0 rfl 0 rfl ?_
  refine z_iload_n hC d_Ix_lengthOf_1 rfl 1 rfl ?_
  refine z_callV (q0 := 0) (ci := 3) (w' := [(x0, .inr (3, [.ref x1, .ref x2, .ref x3, .ref x4, .int (iI ((xc : Nat) : Int))])), (x1, .inl ((g.2.1 0), 64, .inl xl)), (x2, .inl ((g.2.1 0), 8, .inl (nF xn))), (x3, .inl ((g.2.1 2), 8, .inl (bF xo))), (x4, .inl ((g.2.1 0), 9, .inl (nF ch)))]) (st1 := [.int (iI (bI (decide (0 ≤ ((k : Nat) : Int) ∧ ((k : Nat) : Int) < xc))))]) hC (k_Ix_has l g x0 x1 x2 x3 x4 xc xl xn xo ch ((k : Nat) : Int) hxc (by omega)) mw_393 zv_Ix_has rfl rfl ⟨Nat.le_of_ble_eq_true rfl, Nat.le_of_ble_eq_true rfl⟩ [0, 1, 2, 3, 4] rfl rfl rfl rfl rfl rfl rfl rfl (Nat.le_of_ble_eq_true rfl) d_Ix_lengthOf_2 rfl ⟨Nat.zero_le _, Nat.zero_le _⟩ rfl ?_
  refine z_ifeqD (tgt := 26) hC d_Ix_lengthOf_5 rfl (fun c_1 => ?_) (fun c_1 => ?_)
  · refine z_iconstN hC 0 d_Ix_lengthOf_26 rfl ?_
    exact Z.eq rfl rfl rfl (by first | (rw [show max 0 (min (xn k) 8) = xn k by omega]; done) | (exfalso; omega)) (hR _ _ d_Ix_lengthOf_27)
  · refine z_iconstN hC 0 d_Ix_lengthOf_8 rfl ?_
    refine z_aload_n hC d_Ix_lengthOf_9 rfl 0 rfl ?_
    refine z_get hC hi_Ix 0 rfl rfl 1 (by decide) mw_96 (Or.inl rfl) rfl d_Ix_lengthOf_10 ?_
    refine z_iload_n hC d_Ix_lengthOf_13 rfl 1 rfl ?_
    refine z_ialdN hC 2 0 rfl rfl k rfl (by omega) (by decide) d_Ix_lengthOf_14 ?_
    refine z_bipush (a := ((8 : Nat) : Int)) hC d_Ix_lengthOf_15 (by decide) ?_
    refine z_mminN hC mw_397 (by omega) (by omega) (Nat.le_of_ble_eq_true rfl) (Nat.le_of_ble_eq_true rfl) d_Ix_lengthOf_17 ?_
    refine z_mmaxN hC mw_400 (by omega) (by omega) (Nat.le_of_ble_eq_true rfl) (Nat.le_of_ble_eq_true rfl) d_Ix_lengthOf_20 ?_
    refine z_goto (tgt := 27) hC d_Ix_lengthOf_23 rfl ?_
    exact Z.eq rfl rfl rfl (by first | (rw [show max 0 (min (xn k) 8) = xn k by omega]; done) | (exfalso; omega)) (hR _ _ d_Ix_lengthOf_27)
set_option maxHeartbeats 4000000 in
set_option maxRecDepth 100000 in
theorem k_Ix_letterOf (l : Launch) (g : ZG) (x0 x1 x2 x3 x4 xc : Nat) (xl : Nat → Int32) (xn : Nat → Nat) (xo : Nat → Bool) (ch : Nat → Nat) (k j : Nat) (hxc : xc ≤ 8) (hk : k < xc) (hj : j < 8)   : Ct l g y_Ix_letterOf c_Ix_letterOf 3 (some .int) { frames := 1, cells := 0, slots := 0, locals := 21 } [.ref x0, .int (iI ((k : Nat) : Int)), .int (iI ((j : Nat) : Int))] [(x0, .inr (3, [.ref x1, .ref x2, .ref x3, .ref x4, .int (iI ((xc : Nat) : Int))])), (x1, .inl ((g.2.1 0), 64, .inl xl)), (x2, .inl ((g.2.1 0), 8, .inl (nF xn))), (x3, .inl ((g.2.1 2), 8, .inl (bF xo))), (x4, .inl ((g.2.1 0), 9, .inl (nF ch)))] (some (.int (xl (k * 8 + j)))) [(x0, .inr (3, [.ref x1, .ref x2, .ref x3, .ref x4, .int (iI ((xc : Nat) : Int))])), (x1, .inl ((g.2.1 0), 64, .inl xl)), (x2, .inl ((g.2.1 0), 8, .inl (nF xn))), (x3, .inl ((g.2.1 2), 8, .inl (bF xo))), (x4, .inl ((g.2.1 0), 9, .inl (nF ch)))] := by
  refine ct_i (lv := [(0, .ref x0), (1, .int (iI ((k : Nat) : Int))), (2, .int (iI ((j : Nat) : Int)))]) (by decide) rfl (Nat.le_of_ble_eq_true rfl) rfl ?_
  intro x hC hR
  refine z_aload_n hC d_Ix_letterOf_0 rfl 0 rfl ?_
  refine z_iload_n hC d_Ix_letterOf_1 rfl 1 rfl ?_
  refine z_callV (q0 := 0) (ci := 3) (w' := [(x0, .inr (3, [.ref x1, .ref x2, .ref x3, .ref x4, .int (iI ((xc : Nat) : Int))])), (x1, .inl ((g.2.1 0), 64, .inl xl)), (x2, .inl ((g.2.1 0), 8, .inl (nF xn))), (x3, .inl ((g.2.1 2), 8, .inl (bF xo))), (x4, .inl ((g.2.1 0), 9, .inl (nF ch)))]) (st1 := [.int (iI (bI (decide (0 ≤ ((k : Nat) : Int) ∧ ((k : Nat) : Int) < xc))))]) hC (k_Ix_has l g x0 x1 x2 x3 x4 xc xl xn xo ch ((k : Nat) : Int) hxc (by omega)) mw_393 zv_Ix_has rfl rfl ⟨Nat.le_of_ble_eq_true rfl, Nat.le_of_ble_eq_true rfl⟩ [0, 1, 2, 3, 4] rfl rfl rfl rfl rfl rfl rfl rfl (Nat.le_of_ble_eq_true rfl) d_Ix_letterOf_2 rfl ⟨Nat.zero_le _, Nat.zero_le _⟩ rfl ?_
  refine z_ifeqD (tgt := 32) hC d_Ix_letterOf_5 rfl (fun c_1 => ?_) (fun c_1 => ?_)
  · refine z_iconst hC d_Ix_letterOf_32 ?_
    exact Z.eq rfl rfl rfl (by first | rfl | (exfalso; omega)) (hR _ _ d_Ix_letterOf_33)
  · refine z_iload_n hC d_Ix_letterOf_8 rfl 2 rfl ?_
    refine z_if_lt (tgt := 32) hC ((j : Nat) : Int) d_Ix_letterOf_9 rfl (iI_t (by omega)) (fun c_2 => ?_) (fun c_2 => ?_)
    · refine z_iconst hC d_Ix_letterOf_32 ?_
      exact Z.eq rfl rfl rfl (by first | rfl | (exfalso; omega)) (hR _ _ d_Ix_letterOf_33)
    · refine z_iload_n hC d_Ix_letterOf_12 rfl 2 rfl ?_
      refine z_bipush (a := ((8 : Nat) : Int)) hC d_Ix_letterOf_13 (by decide) ?_
      refine z_icmp_ge (tgt := 32) hC ((j : Nat) : Int) ((8 : Nat) : Int) d_Ix_letterOf_15 rfl (iI_t (by omega)) (iI_t (by omega)) (fun c_3 => ?_) (fun c_3 => ?_)
      · refine z_iconst hC d_Ix_letterOf_32 ?_
        exact Z.eq rfl rfl rfl (by first | rfl | (exfalso; omega)) (hR _ _ d_Ix_letterOf_33)
      · refine z_aload_n hC d_Ix_letterOf_18 rfl 0 rfl ?_
        refine z_get hC hi_Ix 0 rfl rfl 0 (by decide) mw_95 (Or.inl rfl) rfl d_Ix_letterOf_19 ?_
        refine z_iload_n hC d_Ix_letterOf_22 rfl 1 rfl ?_
        refine z_bipush (a := ((8 : Nat) : Int)) hC d_Ix_letterOf_23 (by decide) ?_
        refine z_imulN hC d_Ix_letterOf_25 ?_
        refine z_iload_n hC d_Ix_letterOf_26 rfl 2 rfl ?_
        refine z_iaddN hC d_Ix_letterOf_27 ?_
        refine z_iald hC 1 0 rfl rfl ((k * 8) + j) rfl (by omega) (by decide) d_Ix_letterOf_28 ?_
        refine z_goto (tgt := 33) hC d_Ix_letterOf_29 rfl ?_
        exact Z.eq rfl rfl rfl (by first | rfl | (exfalso; omega)) (hR _ _ d_Ix_letterOf_33)
set_option maxHeartbeats 4000000 in
set_option maxRecDepth 100000 in
theorem k_Ix_isNameOf (l : Launch) (g : ZG) (x0 x1 x2 x3 x4 xc : Nat) (xl : Nat → Int32) (xn : Nat → Nat) (xo : Nat → Bool) (ch : Nat → Nat) (s0 s1 sn sp : Nat) (sf : Nat → Int32) (k e : Nat) (hxc : xc ≤ 8) (hxn : ∀ j, j < xc → xn j ≤ 8) (hsn : sn ≤ 200) (hsp : sp ≤ sn) (hk : k < xc) (hpe : sp ≤ e) (hes : e ≤ sn)   : Ct l g y_Ix_isNameOf c_Ix_isNameOf 6 (some .boolean) { frames := 2, cells := 0, slots := 0, locals := 43 } [.ref x0, .int (iI ((k : Nat) : Int)), .ref s0, .int (iI ((e : Nat) : Int))] [(x0, .inr (3, [.ref x1, .ref x2, .ref x3, .ref x4, .int (iI ((xc : Nat) : Int))])), (x1, .inl ((g.2.1 0), 64, .inl xl)), (x2, .inl ((g.2.1 0), 8, .inl (nF xn))), (x3, .inl ((g.2.1 2), 8, .inl (bF xo))), (x4, .inl ((g.2.1 0), 9, .inl (nF ch))), (s0, .inr (6, [.ref s1, .int (iI ((sn : Nat) : Int)), .int (iI ((sp : Nat) : Int))])), (s1, .inl ((g.2.1 0), 200, .inl sf))] (some (.int (iI (bI (nmB xn xl sn sf sp e k))))) [(x0, .inr (3, [.ref x1, .ref x2, .ref x3, .ref x4, .int (iI ((xc : Nat) : Int))])), (x1, .inl ((g.2.1 0), 64, .inl xl)), (x2, .inl ((g.2.1 0), 8, .inl (nF xn))), (x3, .inl ((g.2.1 2), 8, .inl (bF xo))), (x4, .inl ((g.2.1 0), 9, .inl (nF ch))), (s0, .inr (6, [.ref s1, .int (iI ((sn : Nat) : Int)), .int (iI ((sp : Nat) : Int))])), (s1, .inl ((g.2.1 0), 200, .inl sf))] := by
  refine ct_z (lv := [(0, .ref x0), (1, .int (iI ((k : Nat) : Int))), (2, .ref s0), (3, .int (iI ((e : Nat) : Int)))]) (by decide) rfl (Nat.le_of_ble_eq_true rfl) rfl ?_
  intro x hC hR
  have hx8 := hxn k hk
  refine z_aload_n hC d_Ix_isNameOf_0 rfl 2 rfl ?_
  refine z_callV (q0 := 5) (ci := 6) (w' := [(x0, .inr (3, [.ref x1, .ref x2, .ref x3, .ref x4, .int (iI ((xc : Nat) : Int))])), (x1, .inl ((g.2.1 0), 64, .inl xl)), (x2, .inl ((g.2.1 0), 8, .inl (nF xn))), (x3, .inl ((g.2.1 2), 8, .inl (bF xo))), (x4, .inl ((g.2.1 0), 9, .inl (nF ch))), (s0, .inr (6, [.ref s1, .int (iI ((sn : Nat) : Int)), .int (iI ((sp : Nat) : Int))])), (s1, .inl ((g.2.1 0), 200, .inl sf))]) (st1 := [.int (iI ((sp : Nat) : Int))]) hC (k_So_place l g s0 s1 sn sp sf) mw_385 zv_So_place rfl rfl ⟨Nat.le_of_ble_eq_true rfl, Nat.le_of_ble_eq_true rfl⟩ [5, 6] rfl rfl rfl rfl rfl rfl rfl rfl (Nat.le_of_ble_eq_true rfl) d_Ix_isNameOf_1 rfl ⟨Nat.zero_le _, Nat.zero_le _⟩ rfl ?_
  refine z_istore (lv' := [(4, .int (iI ((sp : Nat) : Int))), (0, .ref x0), (1, .int (iI ((k : Nat) : Int))), (2, .ref s0), (3, .int (iI ((e : Nat) : Int)))]) hC d_Ix_isNameOf_4 (by decide) rfl ?_
  refine z_aload_n hC d_Ix_isNameOf_6 rfl 1 rfl ?_
  refine z_iload_n hC d_Ix_isNameOf_7 rfl 2 rfl ?_
  refine z_callV (q0 := 0) (ci := 3) (w' := [(x0, .inr (3, [.ref x1, .ref x2, .ref x3, .ref x4, .int (iI ((xc : Nat) : Int))])), (x1, .inl ((g.2.1 0), 64, .inl xl)), (x2, .inl ((g.2.1 0), 8, .inl (nF xn))), (x3, .inl ((g.2.1 2), 8, .inl (bF xo))), (x4, .inl ((g.2.1 0), 9, .inl (nF ch))), (s0, .inr (6, [.ref s1, .int (iI ((sn : Nat) : Int)), .int (iI ((sp : Nat) : Int))])), (s1, .inl ((g.2.1 0), 200, .inl sf))]) (st1 := [.int (iI ((xn k : Nat) : Int))]) hC (k_Ix_lengthOf l g x0 x1 x2 x3 x4 xc xl xn xo ch k hxc hk (by omega)) mw_389 zv_Ix_lengthOf rfl rfl ⟨Nat.le_of_ble_eq_true rfl, Nat.le_of_ble_eq_true rfl⟩ [0, 1, 2, 3, 4] rfl rfl rfl rfl rfl rfl rfl rfl (Nat.le_of_ble_eq_true rfl) d_Ix_isNameOf_8 rfl ⟨Nat.zero_le _, Nat.zero_le _⟩ rfl ?_
  refine z_iload_n hC d_Ix_isNameOf_11 rfl 4 rfl ?_
  refine z_iload hC d_Ix_isNameOf_12 0 rfl ?_
  refine z_isubN hC d_Ix_isNameOf_14 (by omega) ?_
  refine z_icmp_eq (tgt := 20) hC ((xn k : Nat) : Int) ((e - sp : Nat) : Int) d_Ix_isNameOf_15 rfl (iI_t (by omega)) (iI_t (by omega)) (fun c_1 => ?_) (fun c_1 => ?_)
  · refine z_iconstN hC 0 d_Ix_isNameOf_20 rfl ?_
    refine z_istore (lv' := [(5, .int (iI ((0 : Nat) : Int))), (4, .int (iI ((sp : Nat) : Int))), (0, .ref x0), (1, .int (iI ((k : Nat) : Int))), (2, .ref s0), (3, .int (iI ((e : Nat) : Int)))]) hC d_Ix_isNameOf_21 (by decide) rfl ?_
    have L_23 : ∀ (fu : Nat) (j : Nat), (j ≤ xn k) → (∀ m, m < j → xl (k * 8 + m) = sN sn sf (sp + m)) → xn k - j < fu → Z x (0, 0) [(x0, .inr (3, [.ref x1, .ref x2, .ref x3, .ref x4, .int (iI ((xc : Nat) : Int))])), (x1, .inl ((g.2.1 0), 64, .inl xl)), (x2, .inl ((g.2.1 0), 8, .inl (nF xn))), (x3, .inl ((g.2.1 2), 8, .inl (bF xo))), (x4, .inl ((g.2.1 0), 9, .inl (nF ch))), (s0, .inr (6, [.ref s1, .int (iI ((sn : Nat) : Int)), .int (iI ((sp : Nat) : Int))])), (s1, .inl ((g.2.1 0), 200, .inl sf))] 23 [(5, .int (iI ((j : Nat) : Int))), (4, .int (iI ((sp : Nat) : Int))), (0, .ref x0), (1, .int (iI ((k : Nat) : Int))), (2, .ref s0), (3, .int (iI ((e : Nat) : Int)))] [] := by
      intro fu
      induction fu with
      | zero => intro j hj hall hmu; exact absurd hmu (Nat.not_lt_zero _)
      | succ fu ih_23 =>
        intro j hj hall hmu
        refine z_iload hC d_Ix_isNameOf_23 0 rfl ?_
        refine z_aload_n hC d_Ix_isNameOf_25 rfl 2 rfl ?_
        refine z_iload_n hC d_Ix_isNameOf_26 rfl 3 rfl ?_
        refine z_callV (q0 := 0) (ci := 3) (w' := [(x0, .inr (3, [.ref x1, .ref x2, .ref x3, .ref x4, .int (iI ((xc : Nat) : Int))])), (x1, .inl ((g.2.1 0), 64, .inl xl)), (x2, .inl ((g.2.1 0), 8, .inl (nF xn))), (x3, .inl ((g.2.1 2), 8, .inl (bF xo))), (x4, .inl ((g.2.1 0), 9, .inl (nF ch))), (s0, .inr (6, [.ref s1, .int (iI ((sn : Nat) : Int)), .int (iI ((sp : Nat) : Int))])), (s1, .inl ((g.2.1 0), 200, .inl sf))]) (st1 := [.int (iI ((xn k : Nat) : Int)), .int (iI ((j : Nat) : Int))]) hC (k_Ix_lengthOf l g x0 x1 x2 x3 x4 xc xl xn xo ch k hxc hk (by omega)) mw_389 zv_Ix_lengthOf rfl rfl ⟨Nat.le_of_ble_eq_true rfl, Nat.le_of_ble_eq_true rfl⟩ [0, 1, 2, 3, 4] rfl rfl rfl rfl rfl rfl rfl rfl (Nat.le_of_ble_eq_true rfl) d_Ix_isNameOf_27 rfl ⟨Nat.zero_le _, Nat.zero_le _⟩ rfl ?_
        refine z_icmp_ge (tgt := 60) hC ((j : Nat) : Int) ((xn k : Nat) : Int) d_Ix_isNameOf_30 rfl (iI_t (by omega)) (iI_t (by omega)) (fun c_2 => ?_) (fun c_2 => ?_)
        · refine z_iconstN hC 1 d_Ix_isNameOf_60 rfl ?_
          exact Z.eq rfl rfl rfl (zb_t (by unfold nmB; first | (rw [Bool.and_eq_false_iff]; exact Or.inl (decide_eq_false (by omega))) | (rw [Bool.and_eq_false_iff]; exact Or.inr (allB_no (k := j) (by omega) (decide_eq_false (by assumption)))) | (rw [Bool.and_eq_true]; exact ⟨decide_eq_true (by omega), allB_iff.mpr (fun m hm => decide_eq_true (hall m (by omega)))⟩))) (hR _ _ d_Ix_isNameOf_61)
        · refine z_aload_n hC d_Ix_isNameOf_33 rfl 2 rfl ?_
          refine z_iload_n hC d_Ix_isNameOf_34 rfl 3 rfl ?_
          refine z_iload hC d_Ix_isNameOf_35 0 rfl ?_
          refine z_callV (q0 := 0) (ci := 3) (w' := [(x0, .inr (3, [.ref x1, .ref x2, .ref x3, .ref x4, .int (iI ((xc : Nat) : Int))])), (x1, .inl ((g.2.1 0), 64, .inl xl)), (x2, .inl ((g.2.1 0), 8, .inl (nF xn))), (x3, .inl ((g.2.1 2), 8, .inl (bF xo))), (x4, .inl ((g.2.1 0), 9, .inl (nF ch))), (s0, .inr (6, [.ref s1, .int (iI ((sn : Nat) : Int)), .int (iI ((sp : Nat) : Int))])), (s1, .inl ((g.2.1 0), 200, .inl sf))]) (st1 := [.int (xl (k * 8 + j))]) hC (k_Ix_letterOf l g x0 x1 x2 x3 x4 xc xl xn xo ch k j hxc hk (by omega)) mw_403 zv_Ix_letterOf rfl rfl ⟨Nat.le_of_ble_eq_true rfl, Nat.le_of_ble_eq_true rfl⟩ [0, 1, 2, 3, 4] rfl rfl rfl rfl rfl rfl rfl rfl (Nat.le_of_ble_eq_true rfl) d_Ix_isNameOf_37 rfl ⟨Nat.zero_le _, Nat.zero_le _⟩ rfl ?_
          refine z_aload_n hC d_Ix_isNameOf_40 rfl 4 rfl ?_
          refine z_iload hC d_Ix_isNameOf_41 1 rfl ?_
          refine z_iload hC d_Ix_isNameOf_43 0 rfl ?_
          refine z_iaddN hC d_Ix_isNameOf_45 ?_
          refine z_callV (q0 := 5) (ci := 6) (w' := [(x0, .inr (3, [.ref x1, .ref x2, .ref x3, .ref x4, .int (iI ((xc : Nat) : Int))])), (x1, .inl ((g.2.1 0), 64, .inl xl)), (x2, .inl ((g.2.1 0), 8, .inl (nF xn))), (x3, .inl ((g.2.1 2), 8, .inl (bF xo))), (x4, .inl ((g.2.1 0), 9, .inl (nF ch))), (s0, .inr (6, [.ref s1, .int (iI ((sn : Nat) : Int)), .int (iI ((sp : Nat) : Int))])), (s1, .inl ((g.2.1 0), 200, .inl sf))]) (st1 := [.int (sN sn sf (sp + j)), .int (xl (k * 8 + j))]) hC (k_So_signAt l g s0 s1 sn sp sf (sp + j) hsn (by omega)) mw_407 zv_So_signAt rfl rfl ⟨Nat.le_of_ble_eq_true rfl, Nat.le_of_ble_eq_true rfl⟩ [5, 6] rfl rfl rfl rfl rfl rfl rfl rfl (Nat.le_of_ble_eq_true rfl) d_Ix_isNameOf_46 rfl ⟨Nat.zero_le _, Nat.zero_le _⟩ rfl ?_
          refine z_icmp_eqR (tgt := 54) hC d_Ix_isNameOf_49 rfl (fun c_3 => ?_) (fun c_3 => ?_)
          · refine z_iincN (lv' := [(5, .int (iI ((j + 1 : Nat) : Int))), (4, .int (iI ((sp : Nat) : Int))), (0, .ref x0), (1, .int (iI ((k : Nat) : Int))), (2, .ref s0), (3, .int (iI ((e : Nat) : Int)))]) hC 1 d_Ix_isNameOf_54 rfl 0 rfl (by decide) rfl ?_
            refine z_goto (tgt := 23) hC d_Ix_isNameOf_57 rfl ?_
            exact Zloc [0, 1, 2, 3, 4, 5] rfl (Z.eq (w' := [(x0, .inr (3, [.ref x1, .ref x2, .ref x3, .ref x4, .int (iI ((xc : Nat) : Int))])), (x1, .inl ((g.2.1 0), 64, .inl xl)), (x2, .inl ((g.2.1 0), 8, .inl (nF xn))), (x3, .inl ((g.2.1 2), 8, .inl (bF xo))), (x4, .inl ((g.2.1 0), 9, .inl (nF ch))), (s0, .inr (6, [.ref s1, .int (iI ((sn : Nat) : Int)), .int (iI ((sp : Nat) : Int))])), (s1, .inl ((g.2.1 0), 200, .inl sf))]) rfl rfl rfl rfl (ih_23 (j + 1) (by omega) (lt_s hall (by assumption)) (by omega)))
          · refine z_iconstN hC 0 d_Ix_isNameOf_52 rfl ?_
            exact Z.eq rfl rfl rfl (zb_f (by unfold nmB; first | (rw [Bool.and_eq_false_iff]; exact Or.inl (decide_eq_false (by omega))) | (rw [Bool.and_eq_false_iff]; exact Or.inr (allB_no (k := j) (by omega) (decide_eq_false (by assumption)))) | (rw [Bool.and_eq_true]; exact ⟨decide_eq_true (by omega), allB_iff.mpr (fun m hm => decide_eq_true (hall m (by omega)))⟩))) (hR _ _ d_Ix_isNameOf_53)
    exact Zloc [0, 1, 2, 3, 4, 5] rfl (Z.eq (w' := [(x0, .inr (3, [.ref x1, .ref x2, .ref x3, .ref x4, .int (iI ((xc : Nat) : Int))])), (x1, .inl ((g.2.1 0), 64, .inl xl)), (x2, .inl ((g.2.1 0), 8, .inl (nF xn))), (x3, .inl ((g.2.1 2), 8, .inl (bF xo))), (x4, .inl ((g.2.1 0), 9, .inl (nF ch))), (s0, .inr (6, [.ref s1, .int (iI ((sn : Nat) : Int)), .int (iI ((sp : Nat) : Int))])), (s1, .inl ((g.2.1 0), 200, .inl sf))]) rfl rfl rfl rfl (L_23 _ 0 (by omega) (fun m h => absurd h (Nat.not_lt_zero m)) (Nat.lt_succ_self _)))
  · refine z_iconstN hC 0 d_Ix_isNameOf_18 rfl ?_
    exact Z.eq rfl rfl rfl (zb_f (by unfold nmB; first | (rw [Bool.and_eq_false_iff]; exact Or.inl (decide_eq_false (by omega))) | (rw [Bool.and_eq_false_iff]; exact Or.inr (allB_no (k := j) (by omega) (decide_eq_false (by assumption)))) | (rw [Bool.and_eq_true]; exact ⟨decide_eq_true (by omega), allB_iff.mpr (fun m hm => decide_eq_true (hall m (by omega)))⟩))) (hR _ _ d_Ix_isNameOf_19)
set_option maxHeartbeats 4000000 in
set_option maxRecDepth 100000 in
theorem k_Ix_find (l : Launch) (g : ZG) (x0 x1 x2 x3 x4 xc : Nat) (xl : Nat → Int32) (xn : Nat → Nat) (xo : Nat → Bool) (ch : Nat → Nat) (s0 s1 sn sp : Nat) (sf : Nat → Int32) (e : Nat) (hxc : xc ≤ 8) (hxn : ∀ j, j < xc → xn j ≤ 8) (hsn : sn ≤ 200) (hsp : sp ≤ sn) (hpe : sp ≤ e) (hes : e ≤ sn)   : Ct l g y_Ix_find c_Ix_find 4 (some .int) { frames := 3, cells := 0, slots := 0, locals := 68 } [.ref x0, .ref s0, .int (iI ((e : Nat) : Int))] [(x0, .inr (3, [.ref x1, .ref x2, .ref x3, .ref x4, .int (iI ((xc : Nat) : Int))])), (x1, .inl ((g.2.1 0), 64, .inl xl)), (x2, .inl ((g.2.1 0), 8, .inl (nF xn))), (x3, .inl ((g.2.1 2), 8, .inl (bF xo))), (x4, .inl ((g.2.1 0), 9, .inl (nF ch))), (s0, .inr (6, [.ref s1, .int (iI ((sn : Nat) : Int)), .int (iI ((sp : Nat) : Int))])), (s1, .inl ((g.2.1 0), 200, .inl sf))] (some (.int (iI (fnd (nmB xn xl sn sf sp e) xc 0)))) [(x0, .inr (3, [.ref x1, .ref x2, .ref x3, .ref x4, .int (iI ((xc : Nat) : Int))])), (x1, .inl ((g.2.1 0), 64, .inl xl)), (x2, .inl ((g.2.1 0), 8, .inl (nF xn))), (x3, .inl ((g.2.1 2), 8, .inl (bF xo))), (x4, .inl ((g.2.1 0), 9, .inl (nF ch))), (s0, .inr (6, [.ref s1, .int (iI ((sn : Nat) : Int)), .int (iI ((sp : Nat) : Int))])), (s1, .inl ((g.2.1 0), 200, .inl sf))] := by
  refine ct_i (lv := [(0, .ref x0), (1, .ref s0), (2, .int (iI ((e : Nat) : Int)))]) (by decide) rfl (Nat.le_of_ble_eq_true rfl) rfl ?_
  intro x hC hR
  refine z_iconstN hC 0 d_Ix_find_0 rfl ?_
  refine z_istore_n (lv' := [(3, .int (iI ((0 : Nat) : Int))), (0, .ref x0), (1, .ref s0), (2, .int (iI ((e : Nat) : Int)))]) hC d_Ix_find_1 rfl (by decide) rfl ?_
  have L_2 : ∀ (fu : Nat) (i : Nat), (i ≤ xc) → (fnd (nmB xn xl sn sf sp e) (xc - i) i = fnd (nmB xn xl sn sf sp e) xc 0) → xc - i < fu → Z x (0, 0) [(x0, .inr (3, [.ref x1, .ref x2, .ref x3, .ref x4, .int (iI ((xc : Nat) : Int))])), (x1, .inl ((g.2.1 0), 64, .inl xl)), (x2, .inl ((g.2.1 0), 8, .inl (nF xn))), (x3, .inl ((g.2.1 2), 8, .inl (bF xo))), (x4, .inl ((g.2.1 0), 9, .inl (nF ch))), (s0, .inr (6, [.ref s1, .int (iI ((sn : Nat) : Int)), .int (iI ((sp : Nat) : Int))])), (s1, .inl ((g.2.1 0), 200, .inl sf))] 2 [(3, .int (iI ((i : Nat) : Int))), (0, .ref x0), (1, .ref s0), (2, .int (iI ((e : Nat) : Int)))] [] := by
    intro fu
    induction fu with
    | zero => intro i hi hr hmu; exact absurd hmu (Nat.not_lt_zero _)
    | succ fu ih_2 =>
      intro i hi hr hmu
      refine z_iload_n hC d_Ix_find_2 rfl 0 rfl ?_
      refine z_aload_n hC d_Ix_find_3 rfl 1 rfl ?_
      refine z_get hC hi_Ix 0 rfl rfl 4 (by decide) mw_99 (Or.inl rfl) rfl d_Ix_find_4 ?_
      refine z_icmp_ge (tgt := 28) hC ((i : Nat) : Int) ((xc : Nat) : Int) d_Ix_find_7 rfl (iI_t (by omega)) (iI_t (by omega)) (fun c_1 => ?_) (fun c_1 => ?_)
      · refine z_iconst hC d_Ix_find_28 ?_
        exact Z.eq rfl rfl rfl (by first | (rw [← hr, fnd_hit (by omega) (by assumption)]) | (rw [← hr, fnd_out (by omega)])) (hR _ _ d_Ix_find_29)
      · refine z_aload_n hC d_Ix_find_10 rfl 1 rfl ?_
        refine z_iload_n hC d_Ix_find_11 rfl 0 rfl ?_
        refine z_aload_n hC d_Ix_find_12 rfl 2 rfl ?_
        refine z_iload_n hC d_Ix_find_13 rfl 3 rfl ?_
        refine z_callV (q0 := 0) (ci := 3) (w' := [(x0, .inr (3, [.ref x1, .ref x2, .ref x3, .ref x4, .int (iI ((xc : Nat) : Int))])), (x1, .inl ((g.2.1 0), 64, .inl xl)), (x2, .inl ((g.2.1 0), 8, .inl (nF xn))), (x3, .inl ((g.2.1 2), 8, .inl (bF xo))), (x4, .inl ((g.2.1 0), 9, .inl (nF ch))), (s0, .inr (6, [.ref s1, .int (iI ((sn : Nat) : Int)), .int (iI ((sp : Nat) : Int))])), (s1, .inl ((g.2.1 0), 200, .inl sf))]) (st1 := [.int (iI (bI (nmB xn xl sn sf sp e i)))]) hC (k_Ix_isNameOf l g x0 x1 x2 x3 x4 xc xl xn xo ch s0 s1 sn sp sf i e hxc hxn hsn hsp (by omega) hpe hes) mw_381 zv_Ix_isNameOf rfl rfl ⟨Nat.le_of_ble_eq_true rfl, Nat.le_of_ble_eq_true rfl⟩ [0, 1, 2, 3, 4, 5, 6] rfl rfl rfl rfl rfl rfl rfl rfl (Nat.le_of_ble_eq_true rfl) d_Ix_find_14 rfl ⟨Nat.zero_le _, Nat.zero_le _⟩ rfl ?_
        refine z_ifeqB (tgt := 22) hC d_Ix_find_17 rfl (fun c_2 => ?_) (fun c_2 => ?_)
        · refine z_iincN (lv' := [(3, .int (iI ((i + 1 : Nat) : Int))), (0, .ref x0), (1, .ref s0), (2, .int (iI ((e : Nat) : Int)))]) hC 1 d_Ix_find_22 rfl 0 rfl (by decide) rfl ?_
          refine z_goto (tgt := 2) hC d_Ix_find_25 rfl ?_
          exact Zloc [0, 1, 2, 3] rfl (Z.eq (w' := [(x0, .inr (3, [.ref x1, .ref x2, .ref x3, .ref x4, .int (iI ((xc : Nat) : Int))])), (x1, .inl ((g.2.1 0), 64, .inl xl)), (x2, .inl ((g.2.1 0), 8, .inl (nF xn))), (x3, .inl ((g.2.1 2), 8, .inl (bF xo))), (x4, .inl ((g.2.1 0), 9, .inl (nF ch))), (s0, .inr (6, [.ref s1, .int (iI ((sn : Nat) : Int)), .int (iI ((sp : Nat) : Int))])), (s1, .inl ((g.2.1 0), 200, .inl sf))]) rfl rfl rfl rfl (ih_2 (i + 1) (by omega) ((fnd_go (by omega) (by assumption)).trans hr) (by omega)))
        · refine z_iload_n hC d_Ix_find_20 rfl 0 rfl ?_
          exact Z.eq rfl rfl rfl (by first | (rw [← hr, fnd_hit (by omega) (by assumption)]) | (rw [← hr, fnd_out (by omega)])) (hR _ _ d_Ix_find_21)
  exact Zloc [0, 1, 2, 3] rfl (Z.eq (w' := [(x0, .inr (3, [.ref x1, .ref x2, .ref x3, .ref x4, .int (iI ((xc : Nat) : Int))])), (x1, .inl ((g.2.1 0), 64, .inl xl)), (x2, .inl ((g.2.1 0), 8, .inl (nF xn))), (x3, .inl ((g.2.1 2), 8, .inl (bF xo))), (x4, .inl ((g.2.1 0), 9, .inl (nF ch))), (s0, .inr (6, [.ref s1, .int (iI ((sn : Nat) : Int)), .int (iI ((sp : Nat) : Int))])), (s1, .inl ((g.2.1 0), 200, .inl sf))]) rfl rfl rfl rfl (L_2 _ 0 (by omega) rfl (Nat.lt_succ_self _)))
