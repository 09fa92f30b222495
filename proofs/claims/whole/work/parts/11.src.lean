/-! ===== rows that came later ===== -/
theorem z_ifeqD {x : ZC} {l : Launch} {g : ZG} {R : Room} {cc : ByteArray} {nL : Nat} {own : String} {u : Nat × Nat} {w : va_W} {pc : Nat} {lv : List (Nat × Value)} {st : List Value} (hC : zO x l g R cc nL own) {P : Prop} [Decidable P] {off : Int} {tgt : Nat} (hd : decode cc pc = .ok (.ifCond .eq off, 3)) (ht : (pc : Int) + off = (tgt : Int)) (kt : ¬ P → Z x u w tgt lv st) (kf : P → Z x u w (pc + 3) lv st) : Z x u w pc lv (.int (iI (bI (decide P))) :: st) :=
  z_ifeqB hC hd ht (fun z => kt (of_decide_eq_false z)) (fun z => kf (of_decide_eq_true z))
theorem z_ifneD {x : ZC} {l : Launch} {g : ZG} {R : Room} {cc : ByteArray} {nL : Nat} {own : String} {u : Nat × Nat} {w : va_W} {pc : Nat} {lv : List (Nat × Value)} {st : List Value} (hC : zO x l g R cc nL own) {P : Prop} [Decidable P] {off : Int} {tgt : Nat} (hd : decode cc pc = .ok (.ifCond .ne off, 3)) (ht : (pc : Int) + off = (tgt : Int)) (kt : P → Z x u w tgt lv st) (kf : ¬ P → Z x u w (pc + 3) lv st) : Z x u w pc lv (.int (iI (bI (decide P))) :: st) :=
  z_ifneB hC hd ht (fun z => kt (of_decide_eq_true z)) (fun z => kf (of_decide_eq_false z))
/-! ===== what the class's small methods answer ===== -/
/-- the sign at a place, or -1 -/
def sN (n : Nat) (f : Nat → Int32) (k : Nat) : Int32 := if k < n then f k else iI (-1)
def isL (c : Int32) : Bool := decide (97 ≤ c.toInt ∧ c.toInt ≤ 122)
def isD (c : Int32) : Bool := decide (48 ≤ c.toInt ∧ c.toInt ≤ 57)
/-- the end of a row of small letters -/
def rowE (n : Nat) (f : Nat → Int32) : Nat → Nat → Nat
  | 0, e => e
  | k + 1, e => if e < n ∧ isL (sN n f e) = true then rowE n f k (e + 1) else e
theorem rowE_go {n : Nat} {f : Nat → Int32} {e : Nat} (h : e < n) (hl : isL (sN n f e) = true) : rowE n f (n - (e + 1)) (e + 1) = rowE n f (n - e) e := by
  rw [show n - e = (n - (e + 1)) + 1 by omega]
  simp only [rowE]
  rw [if_pos ⟨h, hl⟩]
theorem rowE_out {n : Nat} {f : Nat → Int32} {e : Nat} (h : n ≤ e) : rowE n f (n - e) e = e := by
  rw [show n - e = 0 by omega]
  rfl
theorem rowE_no {n : Nat} {f : Nat → Int32} {e : Nat} (hl : isL (sN n f e) = false) : rowE n f (n - e) e = e := by
  cases n - e with
  | zero => rfl
  | succ k =>
    simp only [rowE]
    rw [if_neg]
    intro q
    rw [hl] at q
    exact absurd q.2 (by decide)
/-- up to k digits more -/
def tvL (n : Nat) (f : Nat → Int32) : Nat → Int → Nat → Int × Nat
  | 0, v, p => (v, p)
  | k + 1, v, p => if isD (sN n f p) = true then tvL n f k (v * 10 + (sN n f p).toInt - 48) (p + 1) else (v, p)
set_option maxHeartbeats 4000000 in
set_option maxRecDepth 100000 in
theorem k_So_isSmallLetter (l : Launch) (g : ZG) (c : Int32)    : Ct l g y_So_isSmallLetter c_So_isSmallLetter 1 (some .boolean) { frames := 0, cells := 0, slots := 0, locals := 0 } [.int c] [] (some (.int (iI (bI (isL c))))) [] := by
  refine ct_z (lv := [(0, .int c)]) (by decide) rfl (Nat.le_of_ble_eq_true rfl) rfl ?_
  intro x hC hR
  refine z_iload_n hC d_So_isSmallLetter_0 rfl 0 rfl ?_
  refine z_bipush (a := ((97 : Nat) : Int)) hC d_So_isSmallLetter_1 (by decide) ?_
  refine z_icmp_lt (tgt := 16) hC ((c : Int32).toInt) ((97 : Nat) : Int) d_So_isSmallLetter_3 rfl rfl (iI_t (by omega)) (fun c_1 => ?_) (fun c_1 => ?_)
  · refine z_iconstN hC 0 d_So_isSmallLetter_16 rfl ?_
    exact Z.eq rfl rfl rfl (zb_f (by first | exact decide_eq_true (by omega) | exact decide_eq_false (by omega))) (hR _ _ d_So_isSmallLetter_17)
  · refine z_iload_n hC d_So_isSmallLetter_6 rfl 0 rfl ?_
    refine z_bipush (a := ((122 : Nat) : Int)) hC d_So_isSmallLetter_7 (by decide) ?_
    refine z_icmp_gt (tgt := 16) hC ((c : Int32).toInt) ((122 : Nat) : Int) d_So_isSmallLetter_9 rfl rfl (iI_t (by omega)) (fun c_2 => ?_) (fun c_2 => ?_)
    · refine z_iconstN hC 0 d_So_isSmallLetter_16 rfl ?_
      exact Z.eq rfl rfl rfl (zb_f (by first | exact decide_eq_true (by omega) | exact decide_eq_false (by omega))) (hR _ _ d_So_isSmallLetter_17)
    · refine z_iconstN hC 1 d_So_isSmallLetter_12 rfl ?_
      refine z_goto (tgt := 17) hC d_So_isSmallLetter_13 rfl ?_
      exact Z.eq rfl rfl rfl (zb_t (by first | exact decide_eq_true (by omega) | exact decide_eq_false (by omega))) (hR _ _ d_So_isSmallLetter_17)
set_option maxHeartbeats 4000000 in
set_option maxRecDepth 100000 in
theorem k_So_isDigit (l : Launch) (g : ZG) (c : Int32)    : Ct l g y_So_isDigit c_So_isDigit 1 (some .boolean) { frames := 0, cells := 0, slots := 0, locals := 0 } [.int c] [] (some (.int (iI (bI (isD c))))) [] := by
  refine ct_z (lv := [(0, .int c)]) (by decide) rfl (Nat.le_of_ble_eq_true rfl) rfl ?_
  intro x hC hR
  refine z_iload_n hC d_So_isDigit_0 rfl 0 rfl ?_
  refine z_bipush (a := ((48 : Nat) : Int)) hC d_So_isDigit_1 (by decide) ?_
  refine z_icmp_lt (tgt := 16) hC ((c : Int32).toInt) ((48 : Nat) : Int) d_So_isDigit_3 rfl rfl (iI_t (by omega)) (fun c_1 => ?_) (fun c_1 => ?_)
  · refine z_iconstN hC 0 d_So_isDigit_16 rfl ?_
    exact Z.eq rfl rfl rfl (zb_f (by first | exact decide_eq_true (by omega) | exact decide_eq_false (by omega))) (hR _ _ d_So_isDigit_17)
  · refine z_iload_n hC d_So_isDigit_6 rfl 0 rfl ?_
    refine z_bipush (a := ((57 : Nat) : Int)) hC d_So_isDigit_7 (by decide) ?_
    refine z_icmp_gt (tgt := 16) hC ((c : Int32).toInt) ((57 : Nat) : Int) d_So_isDigit_9 rfl rfl (iI_t (by omega)) (fun c_2 => ?_) (fun c_2 => ?_)
    · refine z_iconstN hC 0 d_So_isDigit_16 rfl ?_
      exact Z.eq rfl rfl rfl (zb_f (by first | exact decide_eq_true (by omega) | exact decide_eq_false (by omega))) (hR _ _ d_So_isDigit_17)
    · refine z_iconstN hC 1 d_So_isDigit_12 rfl ?_
      refine z_goto (tgt := 17) hC d_So_isDigit_13 rfl ?_
      exact Z.eq rfl rfl rfl (zb_t (by first | exact decide_eq_true (by omega) | exact decide_eq_false (by omega))) (hR _ _ d_So_isDigit_17)
set_option maxHeartbeats 4000000 in
set_option maxRecDepth 100000 in
theorem k_So_collect (l : Launch) (g : ZG) (s0 s1 sn sp : Nat) (sf : Nat → Int32) (c : Int32) (hsn : sn ≤ 200)   : Ct l g y_So_collect c_So_collect 2 none { frames := 0, cells := 0, slots := 0, locals := 0 } [.ref s0, .int c] [(s0, .inr (6, [.ref s1, .int (iI ((sn : Nat) : Int)), .int (iI ((sp : Nat) : Int))])), (s1, .inl ((g.2.1 0), 200, .inl sf))] none [(s0, .inr (6, [.ref s1, .int (iI ((if sn < 200 then sn + 1 else sn : Nat) : Int)), .int (iI ((sp : Nat) : Int))])), (s1, .inl ((g.2.1 0), 200, .inl (if sn < 200 then upd sf sn c else sf)))] := by
  refine ct_v (lv := [(0, .ref s0), (1, .int c)]) (by decide) rfl (Nat.le_of_ble_eq_true rfl) rfl ?_
  intro x hC hR
  refine z_aload_n hC d_So_collect_0 rfl 0 rfl ?_
  refine z_get hC hi_So 0 rfl rfl 1 (by decide) mw_79 (Or.inl rfl) rfl d_So_collect_1 ?_
  refine z_if_lt (tgt := 37) hC ((sn : Nat) : Int) d_So_collect_4 rfl (iI_t (by omega)) (fun c_1 => ?_) (fun c_1 => ?_)
  · exact Z.eq (by first | rfl | (exfalso; omega) | (rw [if_pos (by omega)]; done) | (rw [if_neg (by omega)]; done) | (rw [if_pos (by omega), if_pos (by omega)]) | (rw [if_neg (by omega), if_neg (by omega)])  ) rfl rfl rfl (hR _ _ d_So_collect_37)
  · refine z_aload_n hC d_So_collect_7 rfl 0 rfl ?_
    refine z_get hC hi_So 0 rfl rfl 1 (by decide) mw_79 (Or.inl rfl) rfl d_So_collect_8 ?_
    refine z_sipush (a := ((200 : Nat) : Int)) hC d_So_collect_11 (by decide) ?_
    refine z_icmp_ge (tgt := 37) hC ((sn : Nat) : Int) ((200 : Nat) : Int) d_So_collect_14 rfl (iI_t (by omega)) (iI_t (by omega)) (fun c_2 => ?_) (fun c_2 => ?_)
    · exact Z.eq (by first | rfl | (exfalso; omega) | (rw [if_pos (by omega)]; done) | (rw [if_neg (by omega)]; done) | (rw [if_pos (by omega), if_pos (by omega)]) | (rw [if_neg (by omega), if_neg (by omega)])  ) rfl rfl rfl (hR _ _ d_So_collect_37)
    · refine z_aload_n hC d_So_collect_17 rfl 0 rfl ?_
      refine z_get hC hi_So 0 rfl rfl 0 (by decide) mw_78 (Or.inl rfl) rfl d_So_collect_18 ?_
      refine z_aload_n hC d_So_collect_21 rfl 0 rfl ?_
      refine z_get hC hi_So 0 rfl rfl 1 (by decide) mw_79 (Or.inl rfl) rfl d_So_collect_22 ?_
      refine z_iload_n hC d_So_collect_25 rfl 1 rfl ?_
      refine z_iast (v := c) (w' := [(s0, .inr (6, [.ref s1, .int (iI ((sn : Nat) : Int)), .int (iI ((sp : Nat) : Int))])), (s1, .inl ((g.2.1 0), 200, .inl (upd sf sn c)))]) hC 1 0 rfl rfl sn rfl (by omega) (by decide) rfl d_So_collect_26 ?_
      refine z_aload_n hC d_So_collect_27 rfl 0 rfl ?_
      refine z_dup hC d_So_collect_28 rfl ?_
      refine z_get hC hi_So 0 rfl rfl 1 (by decide) mw_79 (Or.inl rfl) rfl d_So_collect_29 ?_
      refine z_iconstN hC 1 d_So_collect_32 rfl ?_
      refine z_iaddN hC d_So_collect_33 ?_
      refine z_put (v := .int (iI ((sn + 1 : Nat) : Int))) (ty := .int) (w' := [(s0, .inr (6, [.ref s1, .int (iI ((sn + 1 : Nat) : Int)), .int (iI ((sp : Nat) : Int))])), (s1, .inl ((g.2.1 0), 200, .inl (upd sf sn c)))]) hC hi_So ty_So ok_So nm_So 0 rfl rfl 1 (by decide) mw_79 rfl rfl rfl rfl rfl (Nat.le_of_ble_eq_true rfl) rfl d_So_collect_34 ?_
      exact Z.eq (by first | rfl | (exfalso; omega) | (rw [if_pos (by omega)]; done) | (rw [if_neg (by omega)]; done) | (rw [if_pos (by omega), if_pos (by omega)]) | (rw [if_neg (by omega), if_neg (by omega)])  ) rfl rfl rfl (hR _ _ d_So_collect_37)
set_option maxHeartbeats 4000000 in
set_option maxRecDepth 100000 in
theorem k_So_clear (l : Launch) (g : ZG) (s0 s1 sn sp : Nat) (sf : Nat → Int32)    : Ct l g y_So_clear c_So_clear 1 none { frames := 0, cells := 0, slots := 0, locals := 0 } [.ref s0] [(s0, .inr (6, [.ref s1, .int (iI ((sn : Nat) : Int)), .int (iI ((sp : Nat) : Int))])), (s1, .inl ((g.2.1 0), 200, .inl sf))] none [(s0, .inr (6, [.ref s1, .int (iI ((0 : Nat) : Int)), .int (iI ((0 : Nat) : Int))])), (s1, .inl ((g.2.1 0), 200, .inl sf))] := by
  refine ct_v (lv := [(0, .ref s0)]) (by decide) rfl (Nat.le_of_ble_eq_true rfl) rfl ?_
  intro x hC hR
  refine z_aload_n hC d_So_clear_0 rfl 0 rfl ?_
  refine z_iconstN hC 0 d_So_clear_1 rfl ?_
  refine z_put (v := .int (iI ((0 : Nat) : Int))) (ty := .int) (w' := [(s0, .inr (6, [.ref s1, .int (iI ((0 : Nat) : Int)), .int (iI ((sp : Nat) : Int))])), (s1, .inl ((g.2.1 0), 200, .inl sf))]) hC hi_So ty_So ok_So nm_So 0 rfl rfl 1 (by decide) mw_79 rfl rfl rfl rfl rfl (Nat.le_of_ble_eq_true rfl) rfl d_So_clear_2 ?_
  refine z_aload_n hC d_So_clear_5 rfl 0 rfl ?_
  refine z_iconstN hC 0 d_So_clear_6 rfl ?_
  refine z_put (v := .int (iI ((0 : Nat) : Int))) (ty := .int) (w' := [(s0, .inr (6, [.ref s1, .int (iI ((0 : Nat) : Int)), .int (iI ((0 : Nat) : Int))])), (s1, .inl ((g.2.1 0), 200, .inl sf))]) hC hi_So ty_So ok_So nm_So 0 rfl rfl 2 (by decide) mw_80 rfl rfl rfl rfl rfl (Nat.le_of_ble_eq_true rfl) rfl d_So_clear_7 ?_
  exact Z.eq rfl rfl rfl rfl (hR _ _ d_So_clear_10)
set_option maxHeartbeats 4000000 in
set_option maxRecDepth 100000 in
theorem k_So_length (l : Launch) (g : ZG) (s0 s1 sn sp : Nat) (sf : Nat → Int32)    : Ct l g y_So_length c_So_length 1 (some .int) { frames := 0, cells := 0, slots := 0, locals := 0 } [.ref s0] [(s0, .inr (6, [.ref s1, .int (iI ((sn : Nat) : Int)), .int (iI ((sp : Nat) : Int))])), (s1, .inl ((g.2.1 0), 200, .inl sf))] (some (.int (iI ((sn : Nat) : Int)))) [(s0, .inr (6, [.ref s1, .int (iI ((sn : Nat) : Int)), .int (iI ((sp : Nat) : Int))])), (s1, .inl ((g.2.1 0), 200, .inl sf))] := by
  refine ct_i (lv := [(0, .ref s0)]) (by decide) rfl (Nat.le_of_ble_eq_true rfl) rfl ?_
  intro x hC hR
  refine z_aload_n hC d_So_length_0 rfl 0 rfl ?_
  refine z_get hC hi_So 0 rfl rfl 1 (by decide) mw_79 (Or.inl rfl) rfl d_So_length_1 ?_
  exact Z.eq rfl rfl rfl rfl (hR _ _ d_So_length_4)
set_option maxHeartbeats 4000000 in
set_option maxRecDepth 100000 in
theorem k_So_place (l : Launch) (g : ZG) (s0 s1 sn sp : Nat) (sf : Nat → Int32)    : Ct l g y_So_place c_So_place 1 (some .int) { frames := 0, cells := 0, slots := 0, locals := 0 } [.ref s0] [(s0, .inr (6, [.ref s1, .int (iI ((sn : Nat) : Int)), .int (iI ((sp : Nat) : Int))])), (s1, .inl ((g.2.1 0), 200, .inl sf))] (some (.int (iI ((sp : Nat) : Int)))) [(s0, .inr (6, [.ref s1, .int (iI ((sn : Nat) : Int)), .int (iI ((sp : Nat) : Int))])), (s1, .inl ((g.2.1 0), 200, .inl sf))] := by
  refine ct_i (lv := [(0, .ref s0)]) (by decide) rfl (Nat.le_of_ble_eq_true rfl) rfl ?_
  intro x hC hR
  refine z_aload_n hC d_So_place_0 rfl 0 rfl ?_
  refine z_get hC hi_So 0 rfl rfl 2 (by decide) mw_80 (Or.inl rfl) rfl d_So_place_1 ?_
  exact Z.eq rfl rfl rfl rfl (hR _ _ d_So_place_4)
set_option maxHeartbeats 4000000 in
set_option maxRecDepth 100000 in
theorem k_So_moveTo (l : Launch) (g : ZG) (s0 s1 sn sp : Nat) (sf : Nat → Int32) (k : Nat)    : Ct l g y_So_moveTo c_So_moveTo 2 none { frames := 0, cells := 0, slots := 0, locals := 0 } [.ref s0, .int (iI ((k : Nat) : Int))] [(s0, .inr (6, [.ref s1, .int (iI ((sn : Nat) : Int)), .int (iI ((sp : Nat) : Int))])), (s1, .inl ((g.2.1 0), 200, .inl sf))] none [(s0, .inr (6, [.ref s1, .int (iI ((sn : Nat) : Int)), .int (iI ((k : Nat) : Int))])), (s1, .inl ((g.2.1 0), 200, .inl sf))] := by
  refine ct_v (lv := [(0, .ref s0), (1, .int (iI ((k : Nat) : Int)))]) (by decide) rfl (Nat.le_of_ble_eq_true rfl) rfl ?_
  intro x hC hR
  refine z_aload_n hC d_So_moveTo_0 rfl 0 rfl ?_
  refine z_iload_n hC d_So_moveTo_1 rfl 1 rfl ?_
  refine z_put (v := .int (iI ((k : Nat) : Int))) (ty := .int) (w' := [(s0, .inr (6, [.ref s1, .int (iI ((sn : Nat) : Int)), .int (iI ((k : Nat) : Int))])), (s1, .inl ((g.2.1 0), 200, .inl sf))]) hC hi_So ty_So ok_So nm_So 0 rfl rfl 2 (by decide) mw_80 rfl rfl rfl rfl rfl (Nat.le_of_ble_eq_true rfl) rfl d_So_moveTo_2 ?_
  exact Z.eq rfl rfl rfl rfl (hR _ _ d_So_moveTo_5)
set_option maxHeartbeats 4000000 in
set_option maxRecDepth 100000 in
theorem k_So_isAtEnd (l : Launch) (g : ZG) (s0 s1 sn sp : Nat) (sf : Nat → Int32) (hsn : sn ≤ 200) (hsp : sp ≤ sn)   : Ct l g y_So_isAtEnd c_So_isAtEnd 1 (some .boolean) { frames := 0, cells := 0, slots := 0, locals := 0 } [.ref s0] [(s0, .inr (6, [.ref s1, .int (iI ((sn : Nat) : Int)), .int (iI ((sp : Nat) : Int))])), (s1, .inl ((g.2.1 0), 200, .inl sf))] (some (.int (iI (bI (decide (sn ≤ sp)))))) [(s0, .inr (6, [.ref s1, .int (iI ((sn : Nat) : Int)), .int (iI ((sp : Nat) : Int))])), (s1, .inl ((g.2.1 0), 200, .inl sf))] := by
  refine ct_z (lv := [(0, .ref s0)]) (by decide) rfl (Nat.le_of_ble_eq_true rfl) rfl ?_
  intro x hC hR
  refine z_aload_n hC d_So_isAtEnd_0 rfl 0 rfl ?_
  refine z_get hC hi_So 0 rfl rfl 2 (by decide) mw_80 (Or.inl rfl) rfl d_So_isAtEnd_1 ?_
  refine z_aload_n hC d_So_isAtEnd_4 rfl 0 rfl ?_
  refine z_get hC hi_So 0 rfl rfl 1 (by decide) mw_79 (Or.inl rfl) rfl d_So_isAtEnd_5 ?_
  refine z_icmp_lt (tgt := 15) hC ((sp : Nat) : Int) ((sn : Nat) : Int) d_So_isAtEnd_8 rfl (iI_t (by omega)) (iI_t (by omega)) (fun c_1 => ?_) (fun c_1 => ?_)
  · refine z_iconstN hC 0 d_So_isAtEnd_15 rfl ?_
    exact Z.eq rfl rfl rfl (zb_f (decide_eq_false (by omega))) (hR _ _ d_So_isAtEnd_16)
  · refine z_iconstN hC 1 d_So_isAtEnd_11 rfl ?_
    refine z_goto (tgt := 16) hC d_So_isAtEnd_12 rfl ?_
    exact Z.eq rfl rfl rfl (zb_t (decide_eq_true (by omega))) (hR _ _ d_So_isAtEnd_16)
set_option maxHeartbeats 4000000 in
set_option maxRecDepth 100000 in
theorem k_So_signAt (l : Launch) (g : ZG) (s0 s1 sn sp : Nat) (sf : Nat → Int32) (k : Nat) (hsn : sn ≤ 200) (hk : k < 1000000)   : Ct l g y_So_signAt c_So_signAt 2 (some .int) { frames := 0, cells := 0, slots := 0, locals := 0 } [.ref s0, .int (iI ((k : Nat) : Int))] [(s0, .inr (6, [.ref s1, .int (iI ((sn : Nat) : Int)), .int (iI ((sp : Nat) : Int))])), (s1, .inl ((g.2.1 0), 200, .inl sf))] (some (.int (sN sn sf k))) [(s0, .inr (6, [.ref s1, .int (iI ((sn : Nat) : Int)), .int (iI ((sp : Nat) : Int))])), (s1, .inl ((g.2.1 0), 200, .inl sf))] := by
  refine ct_i (lv := [(0, .ref s0), (1, .int (iI ((k : Nat) : Int)))]) (by decide) rfl (Nat.le_of_ble_eq_true rfl) rfl ?_
  intro x hC hR
  refine z_iload_n hC d_So_signAt_0 rfl 1 rfl ?_
  refine z_if_lt (tgt := 28) hC ((k : Nat) : Int) d_So_signAt_1 rfl (iI_t (by omega)) (fun c_1 => ?_) (fun c_1 => ?_)
  · refine z_iconst hC d_So_signAt_28 ?_
    exact Z.eq rfl rfl rfl (by first | (exfalso; omega) | (unfold sN; rw [if_pos (by omega)]; done) | (unfold sN; rw [if_neg (by omega)]; done) | (exfalso; omega)) (hR _ _ d_So_signAt_29)
  · refine z_iload_n hC d_So_signAt_4 rfl 1 rfl ?_
    refine z_aload_n hC d_So_signAt_5 rfl 0 rfl ?_
    refine z_get hC hi_So 0 rfl rfl 1 (by decide) mw_79 (Or.inl rfl) rfl d_So_signAt_6 ?_
    refine z_icmp_ge (tgt := 28) hC ((k : Nat) : Int) ((sn : Nat) : Int) d_So_signAt_9 rfl (iI_t (by omega)) (iI_t (by omega)) (fun c_2 => ?_) (fun c_2 => ?_)
    · refine z_iconst hC d_So_signAt_28 ?_
      exact Z.eq rfl rfl rfl (by first | (exfalso; omega) | (unfold sN; rw [if_pos (by omega)]; done) | (unfold sN; rw [if_neg (by omega)]; done) | (exfalso; omega)) (hR _ _ d_So_signAt_29)
    · refine z_iload_n hC d_So_signAt_12 rfl 1 rfl ?_
      refine z_sipush (a := ((200 : Nat) : Int)) hC d_So_signAt_13 (by decide) ?_
      refine z_icmp_ge (tgt := 28) hC ((k : Nat) : Int) ((200 : Nat) : Int) d_So_signAt_16 rfl (iI_t (by omega)) (iI_t (by omega)) (fun c_3 => ?_) (fun c_3 => ?_)
      · refine z_iconst hC d_So_signAt_28 ?_
        exact Z.eq rfl rfl rfl (by first | (exfalso; omega) | (unfold sN; rw [if_pos (by omega)]; done) | (unfold sN; rw [if_neg (by omega)]; done) | (exfalso; omega)) (hR _ _ d_So_signAt_29)
      · refine z_aload_n hC d_So_signAt_19 rfl 0 rfl ?_
        refine z_get hC hi_So 0 rfl rfl 0 (by decide) mw_78 (Or.inl rfl) rfl d_So_signAt_20 ?_
        refine z_iload_n hC d_So_signAt_23 rfl 1 rfl ?_
        refine z_iald hC 1 0 rfl rfl k rfl (by omega) (by decide) d_So_signAt_24 ?_
        refine z_goto (tgt := 29) hC d_So_signAt_25 rfl ?_
        exact Z.eq rfl rfl rfl (by first | (exfalso; omega) | (unfold sN; rw [if_pos (by omega)]; done) | (unfold sN; rw [if_neg (by omega)]; done) | (exfalso; omega)) (hR _ _ d_So_signAt_29)
set_option maxHeartbeats 4000000 in
set_option maxRecDepth 100000 in
theorem k_So_take (l : Launch) (g : ZG) (s0 s1 sn sp : Nat) (sf : Nat → Int32) (c : Int32) (hsn : sn ≤ 200) (hsp : sp ≤ sn)   : Ct l g y_So_take c_So_take 2 (some .boolean) { frames := 1, cells := 0, slots := 0, locals := 21 } [.ref s0, .int c] [(s0, .inr (6, [.ref s1, .int (iI ((sn : Nat) : Int)), .int (iI ((sp : Nat) : Int))])), (s1, .inl ((g.2.1 0), 200, .inl sf))] (some (.int (iI (bI (decide (sN sn sf sp = c)))))) [(s0, .inr (6, [.ref s1, .int (iI ((sn : Nat) : Int)), .int (iI ((if sN sn sf sp = c then sp + 1 else sp : Nat) : Int))])), (s1, .inl ((g.2.1 0), 200, .inl sf))] := by
  refine ct_z (lv := [(0, .ref s0), (1, .int c)]) (by decide) rfl (Nat.le_of_ble_eq_true rfl) rfl ?_
  intro x hC hR
  refine z_aload_n hC d_So_take_0 rfl 0 rfl ?_
  refine z_aload_n hC d_So_take_1 rfl 0 rfl ?_
  refine z_get hC hi_So 0 rfl rfl 2 (by decide) mw_80 (Or.inl rfl) rfl d_So_take_2 ?_
  refine z_callV (q0 := 0) (ci := 6) (w' := [(s0, .inr (6, [.ref s1, .int (iI ((sn : Nat) : Int)), .int (iI ((sp : Nat) : Int))])), (s1, .inl ((g.2.1 0), 200, .inl sf))]) (st1 := [.int (sN sn sf sp)]) hC (k_So_signAt l g s0 s1 sn sp sf sp hsn (by omega)) mw_311 zv_So_signAt rfl rfl ⟨Nat.le_of_ble_eq_true rfl, Nat.le_of_ble_eq_true rfl⟩ [0, 1] rfl rfl rfl rfl rfl rfl rfl rfl (Nat.le_of_ble_eq_true rfl) d_So_take_5 rfl ⟨Nat.zero_le _, Nat.zero_le _⟩ rfl ?_
  refine z_iload_n hC d_So_take_8 rfl 1 rfl ?_
  refine z_icmp_eqR (tgt := 14) hC d_So_take_9 rfl (fun c_1 => ?_) (fun c_1 => ?_)
  · refine z_aload_n hC d_So_take_14 rfl 0 rfl ?_
    refine z_dup hC d_So_take_15 rfl ?_
    refine z_get hC hi_So 0 rfl rfl 2 (by decide) mw_80 (Or.inl rfl) rfl d_So_take_16 ?_
    refine z_iconstN hC 1 d_So_take_19 rfl ?_
    refine z_iaddN hC d_So_take_20 ?_
    refine z_put (v := .int (iI ((sp + 1 : Nat) : Int))) (ty := .int) (w' := [(s0, .inr (6, [.ref s1, .int (iI ((sn : Nat) : Int)), .int (iI ((sp + 1 : Nat) : Int))])), (s1, .inl ((g.2.1 0), 200, .inl sf))]) hC hi_So ty_So ok_So nm_So 0 rfl rfl 2 (by decide) mw_80 rfl rfl rfl rfl rfl (Nat.le_of_ble_eq_true rfl) rfl d_So_take_21 ?_
    refine z_iconstN hC 1 d_So_take_24 rfl ?_
    exact Z.eq (by first | (rw [if_pos (by assumption)]; done) | (rw [if_neg (by assumption)]; done)) rfl rfl (zb_t (decide_eq_true (by assumption))) (hR _ _ d_So_take_25)
  · refine z_iconstN hC 0 d_So_take_12 rfl ?_
    exact Z.eq (by first | (rw [if_pos (by assumption)]; done) | (rw [if_neg (by assumption)]; done)) rfl rfl (zb_f (decide_eq_false (by assumption))) (hR _ _ d_So_take_13)
set_option maxHeartbeats 4000000 in
set_option maxRecDepth 100000 in
theorem k_So_rowEnd (l : Launch) (g : ZG) (s0 s1 sn sp : Nat) (sf : Nat → Int32) (hsn : sn ≤ 200) (hsp : sp ≤ sn)   : Ct l g y_So_rowEnd c_So_rowEnd 2 (some .int) { frames := 1, cells := 0, slots := 0, locals := 21 } [.ref s0] [(s0, .inr (6, [.ref s1, .int (iI ((sn : Nat) : Int)), .int (iI ((sp : Nat) : Int))])), (s1, .inl ((g.2.1 0), 200, .inl sf))] (some (.int (iI ((rowE sn sf (sn - sp) sp : Nat) : Int)))) [(s0, .inr (6, [.ref s1, .int (iI ((sn : Nat) : Int)), .int (iI ((sp : Nat) : Int))])), (s1, .inl ((g.2.1 0), 200, .inl sf))] := by
  refine ct_i (lv := [(0, .ref s0)]) (by decide) rfl (Nat.le_of_ble_eq_true rfl) rfl ?_
  intro x hC hR
  refine z_aload_n hC d_So_rowEnd_0 rfl 0 rfl ?_
  refine z_get hC hi_So 0 rfl rfl 2 (by decide) mw_80 (Or.inl rfl) rfl d_So_rowEnd_1 ?_
  refine z_istore_n (lv' := [(1, .int (iI ((sp : Nat) : Int))), (0, .ref s0)]) hC d_So_rowEnd_4 rfl (by decide) rfl ?_
  have L_5 : ∀ (fu : Nat) (e : Nat), (e ≤ sn) → (rowE sn sf (sn - e) e = rowE sn sf (sn - sp) sp) → sn - e < fu → Z x (0, 0) [(s0, .inr (6, [.ref s1, .int (iI ((sn : Nat) : Int)), .int (iI ((sp : Nat) : Int))])), (s1, .inl ((g.2.1 0), 200, .inl sf))] 5 [(0, .ref s0), (1, .int (iI ((e : Nat) : Int)))] [] := by
    intro fu
    induction fu with
    | zero => intro e he hr hmu; exact absurd hmu (Nat.not_lt_zero _)
    | succ fu ih_5 =>
      intro e he hr hmu
      refine z_iload_n hC d_So_rowEnd_5 rfl 1 rfl ?_
      refine z_aload_n hC d_So_rowEnd_6 rfl 0 rfl ?_
      refine z_get hC hi_So 0 rfl rfl 1 (by decide) mw_79 (Or.inl rfl) rfl d_So_rowEnd_7 ?_
      refine z_icmp_ge (tgt := 30) hC ((e : Nat) : Int) ((sn : Nat) : Int) d_So_rowEnd_10 rfl (iI_t (by omega)) (iI_t (by omega)) (fun c_1 => ?_) (fun c_1 => ?_)
      · refine z_iload_n hC d_So_rowEnd_30 rfl 1 rfl ?_
        exact Z.eq rfl rfl rfl (by first | (rw [← hr, rowE_out (by omega)]) | (rw [← hr, rowE_no (by assumption)])) (hR _ _ d_So_rowEnd_31)
      · refine z_aload_n hC d_So_rowEnd_13 rfl 0 rfl ?_
        refine z_iload_n hC d_So_rowEnd_14 rfl 1 rfl ?_
        refine z_callV (q0 := 0) (ci := 6) (w' := [(s0, .inr (6, [.ref s1, .int (iI ((sn : Nat) : Int)), .int (iI ((sp : Nat) : Int))])), (s1, .inl ((g.2.1 0), 200, .inl sf))]) (st1 := [.int (sN sn sf e)]) hC (k_So_signAt l g s0 s1 sn sp sf e hsn (by omega)) mw_311 zv_So_signAt rfl rfl ⟨Nat.le_of_ble_eq_true rfl, Nat.le_of_ble_eq_true rfl⟩ [0, 1] rfl rfl rfl rfl rfl rfl rfl rfl (Nat.le_of_ble_eq_true rfl) d_So_rowEnd_15 rfl ⟨Nat.zero_le _, Nat.zero_le _⟩ rfl ?_
        refine z_callS (w' := [(s0, .inr (6, [.ref s1, .int (iI ((sn : Nat) : Int)), .int (iI ((sp : Nat) : Int))])), (s1, .inl ((g.2.1 0), 200, .inl sf))]) (st1 := [.int (iI (bI (isL (sN sn sf e))))]) hC (k_So_isSmallLetter l g (sN sn sf e)) mw_315 zs_So_isSmallLetter rfl rfl ⟨Nat.le_of_ble_eq_true rfl, Nat.le_of_ble_eq_true rfl⟩ [] rfl rfl rfl rfl rfl (Nat.le_of_ble_eq_true rfl) d_So_rowEnd_18 rfl ⟨Nat.zero_le _, Nat.zero_le _⟩ rfl ?_
        refine z_ifeqB (tgt := 30) hC d_So_rowEnd_21 rfl (fun c_2 => ?_) (fun c_2 => ?_)
        · refine z_iload_n hC d_So_rowEnd_30 rfl 1 rfl ?_
          exact Z.eq rfl rfl rfl (by first | (rw [← hr, rowE_out (by omega)]) | (rw [← hr, rowE_no (by assumption)])) (hR _ _ d_So_rowEnd_31)
        · refine z_iincN (lv' := [(1, .int (iI ((e + 1 : Nat) : Int))), (0, .ref s0)]) hC 1 d_So_rowEnd_24 rfl 1 rfl (by decide) rfl ?_
          refine z_goto (tgt := 5) hC d_So_rowEnd_27 rfl ?_
          exact Zloc [1, 0] rfl (Z.eq (w' := [(s0, .inr (6, [.ref s1, .int (iI ((sn : Nat) : Int)), .int (iI ((sp : Nat) : Int))])), (s1, .inl ((g.2.1 0), 200, .inl sf))]) rfl rfl rfl rfl (ih_5 (e + 1) (by omega) ((rowE_go (by omega) (by assumption)).trans hr) (by omega)))
  exact Zloc [1, 0] rfl (Z.eq (w' := [(s0, .inr (6, [.ref s1, .int (iI ((sn : Nat) : Int)), .int (iI ((sp : Nat) : Int))])), (s1, .inl ((g.2.1 0), 200, .inl sf))]) rfl rfl rfl rfl (L_5 _ sp hsp rfl (Nat.lt_succ_self _)))
