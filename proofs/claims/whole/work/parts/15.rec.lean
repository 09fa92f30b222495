/-! ===== longs, switches, division ===== -/
section ZR5
variable {x : ZC} {l : Launch} {g : ZG} {R : Room} {cc : ByteArray} {nL : Nat} {own : String} {u : Nat × Nat} {w : va_W} {pc : Nat} {lv : List (Nat × Value)} {st : List Value}
theorem lgc_lt (a b : Int64) : (lg_cmp a b).toInt < 0 ↔ a < b := by
  unfold lg_cmp
  by_cases h1 : a > b
  · rw [if_pos h1]
    exact ⟨fun z => absurd z (by decide), fun z => absurd h1 (lg_lt_not z)⟩
  · rw [if_neg h1]
    by_cases h2 : a = b
    · rw [if_pos h2]
      exact ⟨fun z => absurd z (by decide), fun z => absurd h2 (lg_lt_ne z)⟩
    · rw [if_neg h2]
      refine ⟨fun _ => ?_, fun _ => by decide⟩
      simp only [Int64.lt_iff_toInt_lt, ← Int64.toInt_inj, GT.gt] at *
      omega
theorem lgc_gt (a b : Int64) : 0 < (lg_cmp a b).toInt ↔ b < a := by
  unfold lg_cmp
  by_cases h1 : a > b
  · rw [if_pos h1]
    exact ⟨fun _ => h1, fun _ => by decide⟩
  · rw [if_neg h1]
    by_cases h2 : a = b
    · rw [if_pos h2]
      exact ⟨fun z => absurd z (by decide), fun z => absurd z h1⟩
    · rw [if_neg h2]
      exact ⟨fun z => absurd z (by decide), fun z => absurd z h1⟩
theorem z_lc_ge (hC : zO x l g R cc nL own) {a b : Int64} {off : Int} {tgt : Nat} (hd : decode cc pc = .ok (.lcmp, 1)) (hd2 : decode cc (pc + 1) = .ok (.ifCond .ge off, 3)) (ht : ((pc + 1 : Nat) : Int) + off = (tgt : Int)) (kt : ¬ a < b → Z x u w tgt lv st) (kf : a < b → Z x u w (pc + 4) lv st) : Z x u w pc lv (.long b :: .long a :: st) :=
  z_lcmp hC hd (z_if_ge hC _ hd2 ht rfl (fun c => kt (fun z => by have := (lgc_lt a b).mpr z; omega)) (fun c => kf ((lgc_lt a b).mp c)))
theorem z_lc_lt (hC : zO x l g R cc nL own) {a b : Int64} {off : Int} {tgt : Nat} (hd : decode cc pc = .ok (.lcmp, 1)) (hd2 : decode cc (pc + 1) = .ok (.ifCond .lt off, 3)) (ht : ((pc + 1 : Nat) : Int) + off = (tgt : Int)) (kt : a < b → Z x u w tgt lv st) (kf : ¬ a < b → Z x u w (pc + 4) lv st) : Z x u w pc lv (.long b :: .long a :: st) :=
  z_lcmp hC hd (z_if_lt hC _ hd2 ht rfl (fun c => kt ((lgc_lt a b).mp c)) (fun c => kf (fun z => by have := (lgc_lt a b).mpr z; omega)))
theorem z_lc_le (hC : zO x l g R cc nL own) {a b : Int64} {off : Int} {tgt : Nat} (hd : decode cc pc = .ok (.lcmp, 1)) (hd2 : decode cc (pc + 1) = .ok (.ifCond .le off, 3)) (ht : ((pc + 1 : Nat) : Int) + off = (tgt : Int)) (kt : ¬ b < a → Z x u w tgt lv st) (kf : b < a → Z x u w (pc + 4) lv st) : Z x u w pc lv (.long b :: .long a :: st) :=
  z_lcmp hC hd (z_if_le hC _ hd2 ht rfl (fun c => kt (fun z => by have := (lgc_gt a b).mpr z; omega)) (fun c => kf ((lgc_gt a b).mp c)))
theorem lgc_eq (a b : Int64) : (lg_cmp a b).toInt = 0 ↔ a = b := by
  have h1 := lgc_lt a b
  have h2 := lgc_gt a b
  constructor
  · intro h
    have n1 : ¬ a < b := fun z => by have := h1.mpr z; omega
    have n2 : ¬ b < a := fun z => by have := h2.mpr z; omega
    simp only [Int64.lt_iff_toInt_lt, ← Int64.toInt_inj] at *
    omega
  · intro h
    subst h
    have n1 : ¬ a < a := fun z => lg_lt_ne z rfl
    have a1 : ¬ (lg_cmp a a).toInt < 0 := fun z => n1 (h1.mp z)
    have a2 : ¬ 0 < (lg_cmp a a).toInt := fun z => n1 (h2.mp z)
    omega
theorem z_lc_ne (hC : zO x l g R cc nL own) {a b : Int64} {off : Int} {tgt : Nat} (hd : decode cc pc = .ok (.lcmp, 1)) (hd2 : decode cc (pc + 1) = .ok (.ifCond .ne off, 3)) (ht : ((pc + 1 : Nat) : Int) + off = (tgt : Int)) (kt : ¬ a = b → Z x u w tgt lv st) (kf : a = b → Z x u w (pc + 4) lv st) : Z x u w pc lv (.long b :: .long a :: st) :=
  z_lcmp hC hd (z_if_ne hC _ hd2 ht rfl (fun c => kt (fun z => c ((lgc_eq a b).mpr z))) (fun c => kf ((lgc_eq a b).mp c)))
theorem z_lsw2 (hC : zO x l g R cc nL own) {v : Int32} (a : Int) {d k0 k1 o0 o1 : Int} {len t0 t1 td : Nat} (hd : decode cc pc = .ok (.lookupswitch d #[(k0, o0), (k1, o1)], len)) (hs : k0 < k1) (hv : v.toInt = a) (h0 : (pc : Int) + o0 = (t0 : Int)) (h1 : (pc : Int) + o1 = (t1 : Int)) (h2 : (pc : Int) + d = (td : Int)) (c0 : a = k0 → Z x u w t0 lv st) (c1 : ¬ a = k0 → a = k1 → Z x u w t1 lv st) (c2 : ¬ a = k0 → ¬ a = k1 → Z x u w td lv st) : Z x u w pc lv (.int v :: st) := by
  obtain ⟨p, l', e, R', s, m, args, below, meth, c, g', A, H0, Q, nL'⟩ := x
  obtain ⟨rfl, rfl, rfl, rfl, ⟨hx, hb, hml, hown, hts⟩, hK, rfl, hA⟩ := hC
  subst hv
  intro H locs ls hP hD hS hl
  by_cases e0 : v.toInt = k0
  · exact lv_lookup (off := o0) hx hb hd (by simpa using hs) (by rw [Op.lookupswitch.offset_cons, if_pos e0.symm]) h0 (c0 e0 H locs ls hP hD hS hl)
  · by_cases e1 : v.toInt = k1
    · exact lv_lookup (off := o1) hx hb hd (by simpa using hs) (by rw [Op.lookupswitch.offset_cons, if_neg (fun z => e0 z.symm), Op.lookupswitch.offset_cons, if_pos e1.symm]) h1 (c1 e0 e1 H locs ls hP hD hS hl)
    · exact lv_lookup (off := d) hx hb hd (by simpa using hs) (by rw [Op.lookupswitch.offset_cons, if_neg (fun z => e0 z.symm), Op.lookupswitch.offset_cons, if_neg (fun z => e1 z.symm)]; rfl) h2 (c2 e0 e1 H locs ls hP hD hS hl)
theorem z_idivN (hC : zO x l g R cc nL own) {a b : Nat} (hd : decode cc pc = .ok (.idiv, 1)) (ha : a < 2147483648) (hb9 : b < 2147483648) (h0 : 0 < b) (k : Z x u w (pc + 1) lv (.int (iI ((a / b : Nat) : Int)) :: st)) : Z x u w pc lv (.int (iI ((b : Nat) : Int)) :: .int (iI ((a : Nat) : Int)) :: st) := by
  obtain ⟨p, l', e, R', s, m, args, below, meth, c, g', A, H0, Q, nL'⟩ := x
  obtain ⟨rfl, rfl, rfl, rfl, ⟨hx, hb, hml, hown, hts⟩, hK, rfl, hA⟩ := hC
  have e1 : ∀ n : Nat, iI ((n : Nat) : Int) = nI n := fun n => Int32.ofInt_eq_ofNat
  have e2 : iI ((a : Nat) : Int) / iI ((b : Nat) : Int) = iI ((a / b : Nat) : Int) := by rw [e1, e1, e1]; exact pk_div ha h0 hb9
  exact fun H locs ls hP hD hS hl => lv_idiv hx hb hd (by rw [e1]; exact nI_ne0 h0 hb9) (by rw [e2]; exact k H locs ls hP hD hS hl)
end ZR5
/-! ===== records ===== -/
def bgL (b : Int) : Nat → Nat → Nat
  | 0, r => r
  | k + 1, r => if b < r then bgL b k (r / 10) else r
def bgB (b : Int) (v : Nat) : Bool := if b = 0 then decide (v = 0) else decide ((bgL b 5 v : Int) = b)
theorem bgL_go {b : Int} {c r : Nat} (hc : c < 5) (h : b < r) : bgL b (5 - (c + 1)) (r / 10) = bgL b (5 - c) r := by
  rw [show 5 - c = (5 - (c + 1)) + 1 by omega]
  simp only [bgL]
  rw [if_pos h]
theorem bgL_no {b : Int} {k r : Nat} (h : (r : Int) ≤ b) : bgL b k r = r := by
  cases k with
  | zero => rfl
  | succ k => simp only [bgL]; rw [if_neg (by omega)]
theorem bgL_0 {b : Int} {c r : Nat} (h : 5 ≤ c) : bgL b (5 - c) r = r := by
  rw [show 5 - c = 0 by omega]
  rfl
def vlB (q : QD) (v : Nat) : Bool := if q.1.toInt = 0 then decide ((v : Int) = q.2.2.1.toInt) else if q.1.toInt = 1 then decide (q.2.2.1.toInt ≤ (v : Int) ∧ (v : Int) ≤ q.2.2.2.toInt) else bgB q.2.2.1.toInt v
def smB (re : Nat → Nat) (ri : Nat → Int32) (rv : Nat → Nat) (r : Nat) (q : QD) : Bool := exB (fun e => decide (ri ((r - 1) * 8 + e) = q.2.1) && vlB q (rv ((r - 1) * 8 + e))) (min (re (r - 1)) 8)
def jnB (s : Int) (a b : Bool) : Bool := if s = 3 then a && b else if s = 4 then a || b else a && !b
def mtS (P : QD → Bool) (q : QD) (s : Nat × (Nat → Bool)) : Nat × (Nat → Bool) :=
  if q.1.toInt < 3 then (if s.1 < 40 then (s.1 + 1, up s.2 s.1 (P q)) else s)
  else if 2 ≤ s.1 ∧ s.1 ≤ 40 then (s.1 - 1, up s.2 (s.1 - 2) (jnB q.1.toInt (s.2 (s.1 - 1)) (s.2 (s.1 - 2)))) else s
def mtR (P : QD → Bool) (nd : Nat → QD) : Nat → Nat × (Nat → Bool) → Nat × (Nat → Bool)
  | 0, s => s
  | i + 1, s => mtR P nd i (mtS P (nd i) s)
theorem mtS_le {P : QD → Bool} {q : QD} {s : Nat × (Nat → Bool)} (h : s.1 ≤ 40) : (mtS P q s).1 ≤ 40 := by
  unfold mtS
  split
  · split
    · show s.1 + 1 ≤ 40; omega
    · exact h
  · split
    · show s.1 - 1 ≤ 40; omega
    · exact h
set_option maxHeartbeats 4000000 in
set_option maxRecDepth 100000 in
theorem k_Rc_size (l : Launch) (g : ZG) (r0 r1 r2 r3 r4 r5 rc : Nat) (rm : Nat → Int64) (re : Nat → Nat) (ri : Nat → Int32) (rv : Nat → Nat) (rb : Nat → Bool)    : Ct l g y_Rc_size c_Rc_size 1 (some .int) { frames := 0, cells := 0, slots := 0, locals := 0 } [.ref r0] [(r0, .inr (5, [.ref r1, .ref r2, .ref r3, .ref r4, .ref r5, .int (iI ((rc : Nat) : Int))])), (r1, .inl ((g.2.1 1), 60, .inr (.inl rm))), (r2, .inl ((g.2.1 0), 60, .inl (nF re))), (r3, .inl ((g.2.1 0), 480, .inl ri)), (r4, .inl ((g.2.1 0), 480, .inl (nF rv))), (r5, .inl ((g.2.1 2), 40, .inl (bF rb)))] (some (.int (iI ((rc : Nat) : Int)))) [(r0, .inr (5, [.ref r1, .ref r2, .ref r3, .ref r4, .ref r5, .int (iI ((rc : Nat) : Int))])), (r1, .inl ((g.2.1 1), 60, .inr (.inl rm))), (r2, .inl ((g.2.1 0), 60, .inl (nF re))), (r3, .inl ((g.2.1 0), 480, .inl ri)), (r4, .inl ((g.2.1 0), 480, .inl (nF rv))), (r5, .inl ((g.2.1 2), 40, .inl (bF rb)))] := by
  refine ct_i (lv := [(0, .ref r0)]) (by decide) rfl (Nat.le_of_ble_eq_true rfl) rfl ?_
  intro x hC hR
  refine z_aload_n hC d_Rc_size_0 rfl 0 rfl ?_
  refine z_get hC hi_Rc 0 rfl rfl 5 (by decide) mw_199 (Or.inl rfl) rfl d_Rc_size_1 ?_
  exact Z.eq rfl rfl rfl rfl (hR _ _ d_Rc_size_4)
set_option maxHeartbeats 4000000 in
set_option maxRecDepth 100000 in
theorem k_Rc_has (l : Launch) (g : ZG) (r0 r1 r2 r3 r4 r5 rc : Nat) (rm : Nat → Int64) (re : Nat → Nat) (ri : Nat → Int32) (rv : Nat → Nat) (rb : Nat → Bool) (i : Int) (hrc : rc ≤ 60) (hi : -2147483648 ≤ i ∧ i < 2147483648)   : Ct l g y_Rc_has c_Rc_has 2 (some .boolean) { frames := 0, cells := 0, slots := 0, locals := 0 } [.ref r0, .int (iI i)] [(r0, .inr (5, [.ref r1, .ref r2, .ref r3, .ref r4, .ref r5, .int (iI ((rc : Nat) : Int))])), (r1, .inl ((g.2.1 1), 60, .inr (.inl rm))), (r2, .inl ((g.2.1 0), 60, .inl (nF re))), (r3, .inl ((g.2.1 0), 480, .inl ri)), (r4, .inl ((g.2.1 0), 480, .inl (nF rv))), (r5, .inl ((g.2.1 2), 40, .inl (bF rb)))] (some (.int (iI (bI (decide (1 ≤ i ∧ i ≤ rc)))))) [(r0, .inr (5, [.ref r1, .ref r2, .ref r3, .ref r4, .ref r5, .int (iI ((rc : Nat) : Int))])), (r1, .inl ((g.2.1 1), 60, .inr (.inl rm))), (r2, .inl ((g.2.1 0), 60, .inl (nF re))), (r3, .inl ((g.2.1 0), 480, .inl ri)), (r4, .inl ((g.2.1 0), 480, .inl (nF rv))), (r5, .inl ((g.2.1 2), 40, .inl (bF rb)))] := by
  refine ct_z (lv := [(0, .ref r0), (1, .int (iI i))]) (by decide) rfl (Nat.le_of_ble_eq_true rfl) rfl ?_
  intro x hC hR
  refine z_iload_n hC d_Rc_has_0 rfl 1 rfl ?_
  refine z_iconstN hC 1 d_Rc_has_1 rfl ?_
  refine z_icmp_lt (tgt := 23) hC i ((1 : Nat) : Int) d_Rc_has_2 rfl (iI_t (by omega)) (iI_t (by omega)) (fun c_1 => ?_) (fun c_1 => ?_)
  · refine z_iconstN hC 0 d_Rc_has_23 rfl ?_
    exact Z.eq rfl rfl rfl (zb_f (decide_eq_false (by omega))) (hR _ _ d_Rc_has_24)
  · refine z_iload_n hC d_Rc_has_5 rfl 1 rfl ?_
    refine z_aload_n hC d_Rc_has_6 rfl 0 rfl ?_
    refine z_get hC hi_Rc 0 rfl rfl 5 (by decide) mw_199 (Or.inl rfl) rfl d_Rc_has_7 ?_
    refine z_icmp_gt (tgt := 23) hC i ((rc : Nat) : Int) d_Rc_has_10 rfl (iI_t (by omega)) (iI_t (by omega)) (fun c_2 => ?_) (fun c_2 => ?_)
    · refine z_iconstN hC 0 d_Rc_has_23 rfl ?_
      exact Z.eq rfl rfl rfl (zb_f (decide_eq_false (by omega))) (hR _ _ d_Rc_has_24)
    · refine z_iload_n hC d_Rc_has_13 rfl 1 rfl ?_
      refine z_bipush (a := ((60 : Nat) : Int)) hC d_Rc_has_14 (by decide) ?_
      refine z_icmp_gt (tgt := 23) hC i ((60 : Nat) : Int) d_Rc_has_16 rfl (iI_t (by omega)) (iI_t (by omega)) (fun c_3 => ?_) (fun c_3 => ?_)
      · refine z_iconstN hC 0 d_Rc_has_23 rfl ?_
        exact Z.eq rfl rfl rfl (zb_f (decide_eq_false (by omega))) (hR _ _ d_Rc_has_24)
      · refine z_iconstN hC 1 d_Rc_has_19 rfl ?_
        refine z_goto (tgt := 24) hC d_Rc_has_20 rfl ?_
        exact Z.eq rfl rfl rfl (zb_t (decide_eq_true (by omega))) (hR _ _ d_Rc_has_24)
set_option maxHeartbeats 4000000 in
set_option maxRecDepth 100000 in
theorem k_Rc_momentOf (l : Launch) (g : ZG) (r0 r1 r2 r3 r4 r5 rc : Nat) (rm : Nat → Int64) (re : Nat → Nat) (ri : Nat → Int32) (rv : Nat → Nat) (rb : Nat → Bool) (k : Nat) (hrc : rc ≤ 60) (hk : 1 ≤ k ∧ k ≤ rc)   : Ct l g y_Rc_momentOf c_Rc_momentOf 2 (some .long) { frames := 1, cells := 0, slots := 0, locals := 21 } [.ref r0, .int (iI ((k : Nat) : Int))] [(r0, .inr (5, [.ref r1, .ref r2, .ref r3, .ref r4, .ref r5, .int (iI ((rc : Nat) : Int))])), (r1, .inl ((g.2.1 1), 60, .inr (.inl rm))), (r2, .inl ((g.2.1 0), 60, .inl (nF re))), (r3, .inl ((g.2.1 0), 480, .inl ri)), (r4, .inl ((g.2.1 0), 480, .inl (nF rv))), (r5, .inl ((g.2.1 2), 40, .inl (bF rb)))] (some (.long (rm (k - 1)))) [(r0, .inr (5, [.ref r1, .ref r2, .ref r3, .ref r4, .ref r5, .int (iI ((rc : Nat) : Int))])), (r1, .inl ((g.2.1 1), 60, .inr (.inl rm))), (r2, .inl ((g.2.1 0), 60, .inl (nF re))), (r3, .inl ((g.2.1 0), 480, .inl ri)), (r4, .inl ((g.2.1 0), 480, .inl (nF rv))), (r5, .inl ((g.2.1 2), 40, .inl (bF rb)))] := by
  refine ct_l (lv := [(0, .ref r0), (1, .int (iI ((k : Nat) : Int)))]) (by decide) rfl (Nat.le_of_ble_eq_true rfl) rfl ?_
  intro x hC hR
  refine z_aload_n hC d_Rc_momentOf_0 rfl 0 rfl ?_
  refine z_iload_n hC d_Rc_momentOf_1 rfl 1 rfl ?_
  refine z_callV (q0 := 0) (ci := 5) (w' := [(r0, .inr (5, [.ref r1, .ref r2, .ref r3, .ref r4, .ref r5, .int (iI ((rc : Nat) : Int))])), (r1, .inl ((g.2.1 1), 60, .inr (.inl rm))), (r2, .inl ((g.2.1 0), 60, .inl (nF re))), (r3, .inl ((g.2.1 0), 480, .inl ri)), (r4, .inl ((g.2.1 0), 480, .inl (nF rv))), (r5, .inl ((g.2.1 2), 40, .inl (bF rb)))]) (st1 := [.int (iI (bI (decide (1 ≤ ((k : Nat) : Int) ∧ ((k : Nat) : Int) ≤ rc))))]) hC (k_Rc_has l g r0 r1 r2 r3 r4 r5 rc rm re ri rv rb ((k : Nat) : Int) hrc (by omega)) mw_614 zv_Rc_has rfl rfl ⟨Nat.le_of_ble_eq_true rfl, Nat.le_of_ble_eq_true rfl⟩ [0, 1, 2, 3, 4, 5] rfl rfl rfl rfl rfl rfl rfl rfl (Nat.le_of_ble_eq_true rfl) d_Rc_momentOf_2 rfl ⟨Nat.zero_le _, Nat.zero_le _⟩ rfl ?_
  refine z_ifeqD (tgt := 19) hC d_Rc_momentOf_5 rfl (fun c_1 => ?_) (fun c_1 => ?_)
  · refine z_lconst (v := 0) hC d_Rc_momentOf_19 rfl ?_
    exact Z.eq rfl rfl rfl (by first | rfl | (exfalso; omega)) (hR _ _ d_Rc_momentOf_20)
  · refine z_aload_n hC d_Rc_momentOf_8 rfl 0 rfl ?_
    refine z_get hC hi_Rc 0 rfl rfl 0 (by decide) mw_194 (Or.inl rfl) rfl d_Rc_momentOf_9 ?_
    refine z_iload_n hC d_Rc_momentOf_12 rfl 1 rfl ?_
    refine z_iconstN hC 1 d_Rc_momentOf_13 rfl ?_
    refine z_isubN hC d_Rc_momentOf_14 (by omega) ?_
    refine z_lald hC 1 1 rfl rfl (k - 1) rfl (by omega) (by decide) d_Rc_momentOf_15 ?_
    refine z_goto (tgt := 20) hC d_Rc_momentOf_16 rfl ?_
    exact Z.eq rfl rfl rfl rfl (hR _ _ d_Rc_momentOf_20)
set_option maxHeartbeats 4000000 in
set_option maxRecDepth 100000 in
theorem k_Rc_add (l : Launch) (g : ZG) (r0 r1 r2 r3 r4 r5 rc : Nat) (rm : Nat → Int64) (re : Nat → Nat) (ri : Nat → Int32) (rv : Nat → Nat) (rb : Nat → Bool) (mo : Int64) (hrc : rc ≤ 60)   : Ct l g y_Rc_add c_Rc_add 3 (some .int) { frames := 2, cells := 0, slots := 0, locals := 42 } [.ref r0, .long mo] [(r0, .inr (5, [.ref r1, .ref r2, .ref r3, .ref r4, .ref r5, .int (iI ((rc : Nat) : Int))])), (r1, .inl ((g.2.1 1), 60, .inr (.inl rm))), (r2, .inl ((g.2.1 0), 60, .inl (nF re))), (r3, .inl ((g.2.1 0), 480, .inl ri)), (r4, .inl ((g.2.1 0), 480, .inl (nF rv))), (r5, .inl ((g.2.1 2), 40, .inl (bF rb)))] (some (.int (iI ((if rc < 60 ∧ (rc = 0 ∨ ¬ mo < rm (rc - 1)) then rc + 1 else 0 : Nat) : Int)))) [(r0, .inr (5, [.ref r1, .ref r2, .ref r3, .ref r4, .ref r5, .int (iI ((if rc < 60 ∧ (rc = 0 ∨ ¬ mo < rm (rc - 1)) then rc + 1 else rc : Nat) : Int))])), (r1, .inl ((g.2.1 1), 60, .inr (.inl (if rc < 60 ∧ (rc = 0 ∨ ¬ mo < rm (rc - 1)) then vp_updL rm rc mo else rm)))), (r2, .inl ((g.2.1 0), 60, .inl (nF (if rc < 60 ∧ (rc = 0 ∨ ¬ mo < rm (rc - 1)) then up re rc 0 else re)))), (r3, .inl ((g.2.1 0), 480, .inl ri)), (r4, .inl ((g.2.1 0), 480, .inl (nF rv))), (r5, .inl ((g.2.1 2), 40, .inl (bF rb)))] := by
  refine ct_i (lv := [(0, .ref r0), (1, .long mo)]) (by decide) rfl (Nat.le_of_ble_eq_true rfl) rfl ?_
  intro x hC hR
  refine z_aload_n hC d_Rc_add_0 rfl 0 rfl ?_
  refine z_get hC hi_Rc 0 rfl rfl 5 (by decide) mw_199 (Or.inl rfl) rfl d_Rc_add_1 ?_
  refine z_if_lt (tgt := 36) hC ((rc : Nat) : Int) d_Rc_add_4 rfl (iI_t (by omega)) (fun c_1 => ?_) (fun c_1 => ?_)
  · refine z_iconstN hC 0 d_Rc_add_36 rfl ?_
    exact Z.eq (by first | (exfalso; omega) | (simp only [if_pos (show rc < 60 ∧ (rc = 0 ∨ ¬ mo < rm (rc - 1)) from ⟨by omega, Or.inl (by omega)⟩)]; done) | (simp only [if_pos (show rc < 60 ∧ (rc = 0 ∨ ¬ mo < rm (rc - 1)) from ⟨by omega, Or.inr (by assumption)⟩)]; done) | (simp only [if_neg (show ¬ (rc < 60 ∧ (rc = 0 ∨ ¬ mo < rm (rc - 1))) from fun h => absurd h.1 (by omega))]; done) | (simp only [if_neg (show ¬ (rc < 60 ∧ (rc = 0 ∨ ¬ mo < rm (rc - 1))) from fun h => h.2.elim (fun z => by omega) (fun z => z (by assumption)))]; done)) rfl rfl (by first | (exfalso; omega) | (simp only [if_pos (show rc < 60 ∧ (rc = 0 ∨ ¬ mo < rm (rc - 1)) from ⟨by omega, Or.inl (by omega)⟩)]; done) | (simp only [if_pos (show rc < 60 ∧ (rc = 0 ∨ ¬ mo < rm (rc - 1)) from ⟨by omega, Or.inr (by assumption)⟩)]; done) | (simp only [if_neg (show ¬ (rc < 60 ∧ (rc = 0 ∨ ¬ mo < rm (rc - 1))) from fun h => absurd h.1 (by omega))]; done) | (simp only [if_neg (show ¬ (rc < 60 ∧ (rc = 0 ∨ ¬ mo < rm (rc - 1))) from fun h => h.2.elim (fun z => by omega) (fun z => z (by assumption)))]; done)) (hR _ _ d_Rc_add_37)
  · refine z_aload_n hC d_Rc_add_7 rfl 0 rfl ?_
    refine z_get hC hi_Rc 0 rfl rfl 5 (by decide) mw_199 (Or.inl rfl) rfl d_Rc_add_8 ?_
    refine z_bipush (a := ((60 : Nat) : Int)) hC d_Rc_add_11 (by decide) ?_
    refine z_icmp_ge (tgt := 36) hC ((rc : Nat) : Int) ((60 : Nat) : Int) d_Rc_add_13 rfl (iI_t (by omega)) (iI_t (by omega)) (fun c_2 => ?_) (fun c_2 => ?_)
    · refine z_iconstN hC 0 d_Rc_add_36 rfl ?_
      exact Z.eq (by first | (exfalso; omega) | (simp only [if_pos (show rc < 60 ∧ (rc = 0 ∨ ¬ mo < rm (rc - 1)) from ⟨by omega, Or.inl (by omega)⟩)]; done) | (simp only [if_pos (show rc < 60 ∧ (rc = 0 ∨ ¬ mo < rm (rc - 1)) from ⟨by omega, Or.inr (by assumption)⟩)]; done) | (simp only [if_neg (show ¬ (rc < 60 ∧ (rc = 0 ∨ ¬ mo < rm (rc - 1))) from fun h => absurd h.1 (by omega))]; done) | (simp only [if_neg (show ¬ (rc < 60 ∧ (rc = 0 ∨ ¬ mo < rm (rc - 1))) from fun h => h.2.elim (fun z => by omega) (fun z => z (by assumption)))]; done)) rfl rfl (by first | (exfalso; omega) | (simp only [if_pos (show rc < 60 ∧ (rc = 0 ∨ ¬ mo < rm (rc - 1)) from ⟨by omega, Or.inl (by omega)⟩)]; done) | (simp only [if_pos (show rc < 60 ∧ (rc = 0 ∨ ¬ mo < rm (rc - 1)) from ⟨by omega, Or.inr (by assumption)⟩)]; done) | (simp only [if_neg (show ¬ (rc < 60 ∧ (rc = 0 ∨ ¬ mo < rm (rc - 1))) from fun h => absurd h.1 (by omega))]; done) | (simp only [if_neg (show ¬ (rc < 60 ∧ (rc = 0 ∨ ¬ mo < rm (rc - 1))) from fun h => h.2.elim (fun z => by omega) (fun z => z (by assumption)))]; done)) (hR _ _ d_Rc_add_37)
    · refine z_aload_n hC d_Rc_add_16 rfl 0 rfl ?_
      refine z_get hC hi_Rc 0 rfl rfl 5 (by decide) mw_199 (Or.inl rfl) rfl d_Rc_add_17 ?_
      refine z_if_le (tgt := 38) hC ((rc : Nat) : Int) d_Rc_add_20 rfl (iI_t (by omega)) (fun c_3 => ?_) (fun c_3 => ?_)
      · refine z_aload_n hC d_Rc_add_38 rfl 0 rfl ?_
        refine z_get hC hi_Rc 0 rfl rfl 0 (by decide) mw_194 (Or.inl rfl) rfl d_Rc_add_39 ?_
        refine z_aload_n hC d_Rc_add_42 rfl 0 rfl ?_
        refine z_get hC hi_Rc 0 rfl rfl 5 (by decide) mw_199 (Or.inl rfl) rfl d_Rc_add_43 ?_
        refine z_lload_n hC d_Rc_add_46 rfl 1 rfl ?_
        refine z_last (v := mo) (w' := [(r0, .inr (5, [.ref r1, .ref r2, .ref r3, .ref r4, .ref r5, .int (iI ((rc : Nat) : Int))])), (r1, .inl ((g.2.1 1), 60, .inr (.inl (vp_updL rm rc mo)))), (r2, .inl ((g.2.1 0), 60, .inl (nF re))), (r3, .inl ((g.2.1 0), 480, .inl ri)), (r4, .inl ((g.2.1 0), 480, .inl (nF rv))), (r5, .inl ((g.2.1 2), 40, .inl (bF rb)))]) hC 1 1 rfl rfl rc rfl (by omega) (by decide) rfl d_Rc_add_47 ?_
        refine z_aload_n hC d_Rc_add_48 rfl 0 rfl ?_
        refine z_get hC hi_Rc 0 rfl rfl 1 (by decide) mw_195 (Or.inl rfl) rfl d_Rc_add_49 ?_
        refine z_aload_n hC d_Rc_add_52 rfl 0 rfl ?_
        refine z_get hC hi_Rc 0 rfl rfl 5 (by decide) mw_199 (Or.inl rfl) rfl d_Rc_add_53 ?_
        refine z_iconstN hC 0 d_Rc_add_56 rfl ?_
        refine z_iastN (v := 0) (w' := [(r0, .inr (5, [.ref r1, .ref r2, .ref r3, .ref r4, .ref r5, .int (iI ((rc : Nat) : Int))])), (r1, .inl ((g.2.1 1), 60, .inr (.inl (vp_updL rm rc mo)))), (r2, .inl ((g.2.1 0), 60, .inl (nF (up re rc 0)))), (r3, .inl ((g.2.1 0), 480, .inl ri)), (r4, .inl ((g.2.1 0), 480, .inl (nF rv))), (r5, .inl ((g.2.1 2), 40, .inl (bF rb)))]) hC 2 0 rfl rfl rc rfl (by omega) (by decide) rfl d_Rc_add_57 ?_
        refine z_aload_n hC d_Rc_add_58 rfl 0 rfl ?_
        refine z_dup hC d_Rc_add_59 rfl ?_
        refine z_get hC hi_Rc 0 rfl rfl 5 (by decide) mw_199 (Or.inl rfl) rfl d_Rc_add_60 ?_
        refine z_iconstN hC 1 d_Rc_add_63 rfl ?_
        refine z_iaddN hC d_Rc_add_64 ?_
        refine z_put (v := .int (iI ((rc + 1 : Nat) : Int))) (ty := .int) (w' := [(r0, .inr (5, [.ref r1, .ref r2, .ref r3, .ref r4, .ref r5, .int (iI ((rc + 1 : Nat) : Int))])), (r1, .inl ((g.2.1 1), 60, .inr (.inl (vp_updL rm rc mo)))), (r2, .inl ((g.2.1 0), 60, .inl (nF (up re rc 0)))), (r3, .inl ((g.2.1 0), 480, .inl ri)), (r4, .inl ((g.2.1 0), 480, .inl (nF rv))), (r5, .inl ((g.2.1 2), 40, .inl (bF rb)))]) hC hi_Rc ty_Rc ok_Rc nm_Rc 0 rfl rfl 5 (by decide) mw_199 rfl rfl rfl rfl rfl (Nat.le_of_ble_eq_true rfl) rfl d_Rc_add_65 ?_
        refine z_aload_n hC d_Rc_add_68 rfl 0 rfl ?_
        refine z_get hC hi_Rc 0 rfl rfl 5 (by decide) mw_199 (Or.inl rfl) rfl d_Rc_add_69 ?_
        exact Z.eq (by first | (exfalso; omega) | (simp only [if_pos (show rc < 60 ∧ (rc = 0 ∨ ¬ mo < rm (rc - 1)) from ⟨by omega, Or.inl (by omega)⟩)]; done) | (simp only [if_pos (show rc < 60 ∧ (rc = 0 ∨ ¬ mo < rm (rc - 1)) from ⟨by omega, Or.inr (by assumption)⟩)]; done) | (simp only [if_neg (show ¬ (rc < 60 ∧ (rc = 0 ∨ ¬ mo < rm (rc - 1))) from fun h => absurd h.1 (by omega))]; done) | (simp only [if_neg (show ¬ (rc < 60 ∧ (rc = 0 ∨ ¬ mo < rm (rc - 1))) from fun h => h.2.elim (fun z => by omega) (fun z => z (by assumption)))]; done)) rfl rfl (by first | (exfalso; omega) | (simp only [if_pos (show rc < 60 ∧ (rc = 0 ∨ ¬ mo < rm (rc - 1)) from ⟨by omega, Or.inl (by omega)⟩)]; done) | (simp only [if_pos (show rc < 60 ∧ (rc = 0 ∨ ¬ mo < rm (rc - 1)) from ⟨by omega, Or.inr (by assumption)⟩)]; done) | (simp only [if_neg (show ¬ (rc < 60 ∧ (rc = 0 ∨ ¬ mo < rm (rc - 1))) from fun h => absurd h.1 (by omega))]; done) | (simp only [if_neg (show ¬ (rc < 60 ∧ (rc = 0 ∨ ¬ mo < rm (rc - 1))) from fun h => h.2.elim (fun z => by omega) (fun z => z (by assumption)))]; done)) (hR _ _ d_Rc_add_72)
      · refine z_lload_n hC d_Rc_add_23 rfl 1 rfl ?_
        refine z_aload_n hC d_Rc_add_24 rfl 0 rfl ?_
        refine z_aload_n hC d_Rc_add_25 rfl 0 rfl ?_
        refine z_get hC hi_Rc 0 rfl rfl 5 (by decide) mw_199 (Or.inl rfl) rfl d_Rc_add_26 ?_
        refine z_callV (q0 := 0) (ci := 5) (w' := [(r0, .inr (5, [.ref r1, .ref r2, .ref r3, .ref r4, .ref r5, .int (iI ((rc : Nat) : Int))])), (r1, .inl ((g.2.1 1), 60, .inr (.inl rm))), (r2, .inl ((g.2.1 0), 60, .inl (nF re))), (r3, .inl ((g.2.1 0), 480, .inl ri)), (r4, .inl ((g.2.1 0), 480, .inl (nF rv))), (r5, .inl ((g.2.1 2), 40, .inl (bF rb)))]) (st1 := [.long (rm (rc - 1)), .long mo]) hC (k_Rc_momentOf l g r0 r1 r2 r3 r4 r5 rc rm re ri rv rb rc hrc (by omega)) mw_610 zv_Rc_momentOf rfl rfl ⟨Nat.le_of_ble_eq_true rfl, Nat.le_of_ble_eq_true rfl⟩ [0, 1, 2, 3, 4, 5] rfl rfl rfl rfl rfl rfl rfl rfl (Nat.le_of_ble_eq_true rfl) d_Rc_add_29 rfl ⟨Nat.zero_le _, Nat.zero_le _⟩ rfl ?_
        refine z_lc_ge (tgt := 38) hC d_Rc_add_32 d_Rc_add_33 rfl (fun c_4 => ?_) (fun c_4 => ?_)
        · refine z_aload_n hC d_Rc_add_38 rfl 0 rfl ?_
          refine z_get hC hi_Rc 0 rfl rfl 0 (by decide) mw_194 (Or.inl rfl) rfl d_Rc_add_39 ?_
          refine z_aload_n hC d_Rc_add_42 rfl 0 rfl ?_
          refine z_get hC hi_Rc 0 rfl rfl 5 (by decide) mw_199 (Or.inl rfl) rfl d_Rc_add_43 ?_
          refine z_lload_n hC d_Rc_add_46 rfl 1 rfl ?_
          refine z_last (v := mo) (w' := [(r0, .inr (5, [.ref r1, .ref r2, .ref r3, .ref r4, .ref r5, .int (iI ((rc : Nat) : Int))])), (r1, .inl ((g.2.1 1), 60, .inr (.inl (vp_updL rm rc mo)))), (r2, .inl ((g.2.1 0), 60, .inl (nF re))), (r3, .inl ((g.2.1 0), 480, .inl ri)), (r4, .inl ((g.2.1 0), 480, .inl (nF rv))), (r5, .inl ((g.2.1 2), 40, .inl (bF rb)))]) hC 1 1 rfl rfl rc rfl (by omega) (by decide) rfl d_Rc_add_47 ?_
          refine z_aload_n hC d_Rc_add_48 rfl 0 rfl ?_
          refine z_get hC hi_Rc 0 rfl rfl 1 (by decide) mw_195 (Or.inl rfl) rfl d_Rc_add_49 ?_
          refine z_aload_n hC d_Rc_add_52 rfl 0 rfl ?_
          refine z_get hC hi_Rc 0 rfl rfl 5 (by decide) mw_199 (Or.inl rfl) rfl d_Rc_add_53 ?_
          refine z_iconstN hC 0 d_Rc_add_56 rfl ?_
          refine z_iastN (v := 0) (w' := [(r0, .inr (5, [.ref r1, .ref r2, .ref r3, .ref r4, .ref r5, .int (iI ((rc : Nat) : Int))])), (r1, .inl ((g.2.1 1), 60, .inr (.inl (vp_updL rm rc mo)))), (r2, .inl ((g.2.1 0), 60, .inl (nF (up re rc 0)))), (r3, .inl ((g.2.1 0), 480, .inl ri)), (r4, .inl ((g.2.1 0), 480, .inl (nF rv))), (r5, .inl ((g.2.1 2), 40, .inl (bF rb)))]) hC 2 0 rfl rfl rc rfl (by omega) (by decide) rfl d_Rc_add_57 ?_
          refine z_aload_n hC d_Rc_add_58 rfl 0 rfl ?_
          refine z_dup hC d_Rc_add_59 rfl ?_
          refine z_get hC hi_Rc 0 rfl rfl 5 (by decide) mw_199 (Or.inl rfl) rfl d_Rc_add_60 ?_
          refine z_iconstN hC 1 d_Rc_add_63 rfl ?_
          refine z_iaddN hC d_Rc_add_64 ?_
          refine z_put (v := .int (iI ((rc + 1 : Nat) : Int))) (ty := .int) (w' := [(r0, .inr (5, [.ref r1, .ref r2, .ref r3, .ref r4, .ref r5, .int (iI ((rc + 1 : Nat) : Int))])), (r1, .inl ((g.2.1 1), 60, .inr (.inl (vp_updL rm rc mo)))), (r2, .inl ((g.2.1 0), 60, .inl (nF (up re rc 0)))), (r3, .inl ((g.2.1 0), 480, .inl ri)), (r4, .inl ((g.2.1 0), 480, .inl (nF rv))), (r5, .inl ((g.2.1 2), 40, .inl (bF rb)))]) hC hi_Rc ty_Rc ok_Rc nm_Rc 0 rfl rfl 5 (by decide) mw_199 rfl rfl rfl rfl rfl (Nat.le_of_ble_eq_true rfl) rfl d_Rc_add_65 ?_
          refine z_aload_n hC d_Rc_add_68 rfl 0 rfl ?_
          refine z_get hC hi_Rc 0 rfl rfl 5 (by decide) mw_199 (Or.inl rfl) rfl d_Rc_add_69 ?_
          exact Z.eq (by first | (exfalso; omega) | (simp only [if_pos (show rc < 60 ∧ (rc = 0 ∨ ¬ mo < rm (rc - 1)) from ⟨by omega, Or.inl (by omega)⟩)]; done) | (simp only [if_pos (show rc < 60 ∧ (rc = 0 ∨ ¬ mo < rm (rc - 1)) from ⟨by omega, Or.inr (by assumption)⟩)]; done) | (simp only [if_neg (show ¬ (rc < 60 ∧ (rc = 0 ∨ ¬ mo < rm (rc - 1))) from fun h => absurd h.1 (by omega))]; done) | (simp only [if_neg (show ¬ (rc < 60 ∧ (rc = 0 ∨ ¬ mo < rm (rc - 1))) from fun h => h.2.elim (fun z => by omega) (fun z => z (by assumption)))]; done)) rfl rfl (by first | (exfalso; omega) | (simp only [if_pos (show rc < 60 ∧ (rc = 0 ∨ ¬ mo < rm (rc - 1)) from ⟨by omega, Or.inl (by omega)⟩)]; done) | (simp only [if_pos (show rc < 60 ∧ (rc = 0 ∨ ¬ mo < rm (rc - 1)) from ⟨by omega, Or.inr (by assumption)⟩)]; done) | (simp only [if_neg (show ¬ (rc < 60 ∧ (rc = 0 ∨ ¬ mo < rm (rc - 1))) from fun h => absurd h.1 (by omega))]; done) | (simp only [if_neg (show ¬ (rc < 60 ∧ (rc = 0 ∨ ¬ mo < rm (rc - 1))) from fun h => h.2.elim (fun z => by omega) (fun z => z (by assumption)))]; done)) (hR _ _ d_Rc_add_72)
        · refine z_iconstN hC 0 d_Rc_add_36 rfl ?_
          exact Z.eq (by first | (exfalso; omega) | (simp only [if_pos (show rc < 60 ∧ (rc = 0 ∨ ¬ mo < rm (rc - 1)) from ⟨by omega, Or.inl (by omega)⟩)]; done) | (simp only [if_pos (show rc < 60 ∧ (rc = 0 ∨ ¬ mo < rm (rc - 1)) from ⟨by omega, Or.inr (by assumption)⟩)]; done) | (simp only [if_neg (show ¬ (rc < 60 ∧ (rc = 0 ∨ ¬ mo < rm (rc - 1))) from fun h => absurd h.1 (by omega))]; done) | (simp only [if_neg (show ¬ (rc < 60 ∧ (rc = 0 ∨ ¬ mo < rm (rc - 1))) from fun h => h.2.elim (fun z => by omega) (fun z => z (by assumption)))]; done)) rfl rfl (by first | (exfalso; omega) | (simp only [if_pos (show rc < 60 ∧ (rc = 0 ∨ ¬ mo < rm (rc - 1)) from ⟨by omega, Or.inl (by omega)⟩)]; done) | (simp only [if_pos (show rc < 60 ∧ (rc = 0 ∨ ¬ mo < rm (rc - 1)) from ⟨by omega, Or.inr (by assumption)⟩)]; done) | (simp only [if_neg (show ¬ (rc < 60 ∧ (rc = 0 ∨ ¬ mo < rm (rc - 1))) from fun h => absurd h.1 (by omega))]; done) | (simp only [if_neg (show ¬ (rc < 60 ∧ (rc = 0 ∨ ¬ mo < rm (rc - 1))) from fun h => h.2.elim (fun z => by omega) (fun z => z (by assumption)))]; done)) (hR _ _ d_Rc_add_37)
set_option maxHeartbeats 4000000 in
set_option maxRecDepth 100000 in
theorem k_Rc_addEntry (l : Launch) (g : ZG) (r0 r1 r2 r3 r4 r5 rc : Nat) (rm : Nat → Int64) (re : Nat → Nat) (ri : Nat → Int32) (rv : Nat → Nat) (rb : Nat → Bool) (i : Int) (xi : Int32) (v : Nat) (hrc : rc ≤ 60) (hi : -2147483648 ≤ i ∧ i < 2147483648) (hre : ∀ j, re j ≤ 8)   : Ct l g y_Rc_addEntry c_Rc_addEntry 6 (some .int) { frames := 1, cells := 0, slots := 0, locals := 21 } [.ref r0, .int (iI i), .int xi, .int (iI ((v : Nat) : Int))] [(r0, .inr (5, [.ref r1, .ref r2, .ref r3, .ref r4, .ref r5, .int (iI ((rc : Nat) : Int))])), (r1, .inl ((g.2.1 1), 60, .inr (.inl rm))), (r2, .inl ((g.2.1 0), 60, .inl (nF re))), (r3, .inl ((g.2.1 0), 480, .inl ri)), (r4, .inl ((g.2.1 0), 480, .inl (nF rv))), (r5, .inl ((g.2.1 2), 40, .inl (bF rb)))] (some (.int (iI ((if 1 ≤ i ∧ i ≤ rc ∧ re (i - ((1 : Nat) : Int)).toNat < 8 then re (i - ((1 : Nat) : Int)).toNat + 1 else 0 : Nat) : Int)))) [(r0, .inr (5, [.ref r1, .ref r2, .ref r3, .ref r4, .ref r5, .int (iI ((rc : Nat) : Int))])), (r1, .inl ((g.2.1 1), 60, .inr (.inl rm))), (r2, .inl ((g.2.1 0), 60, .inl (nF (if 1 ≤ i ∧ i ≤ rc ∧ re (i - ((1 : Nat) : Int)).toNat < 8 then up re (i - ((1 : Nat) : Int)).toNat (re (i - ((1 : Nat) : Int)).toNat + 1) else re)))), (r3, .inl ((g.2.1 0), 480, .inl (if 1 ≤ i ∧ i ≤ rc ∧ re (i - ((1 : Nat) : Int)).toNat < 8 then upd ri ((i - ((1 : Nat) : Int)).toNat * 8 + re (i - ((1 : Nat) : Int)).toNat) xi else ri))), (r4, .inl ((g.2.1 0), 480, .inl (nF (if 1 ≤ i ∧ i ≤ rc ∧ re (i - ((1 : Nat) : Int)).toNat < 8 then up rv ((i - ((1 : Nat) : Int)).toNat * 8 + re (i - ((1 : Nat) : Int)).toNat) v else rv)))), (r5, .inl ((g.2.1 2), 40, .inl (bF rb)))] := by
  refine ct_i (lv := [(0, .ref r0), (1, .int (iI i)), (2, .int xi), (3, .int (iI ((v : Nat) : Int)))]) (by decide) rfl (Nat.le_of_ble_eq_true rfl) rfl ?_
  intro x hC hR
  have hr8 := hre (i - ((1 : Nat) : Int)).toNat
  refine z_aload_n hC d_Rc_addEntry_0 rfl 0 rfl ?_
  refine z_iload_n hC d_Rc_addEntry_1 rfl 1 rfl ?_
  refine z_callV (q0 := 0) (ci := 5) (w' := [(r0, .inr (5, [.ref r1, .ref r2, .ref r3, .ref r4, .ref r5, .int (iI ((rc : Nat) : Int))])), (r1, .inl ((g.2.1 1), 60, .inr (.inl rm))), (r2, .inl ((g.2.1 0), 60, .inl (nF re))), (r3, .inl ((g.2.1 0), 480, .inl ri)), (r4, .inl ((g.2.1 0), 480, .inl (nF rv))), (r5, .inl ((g.2.1 2), 40, .inl (bF rb)))]) (st1 := [.int (iI (bI (decide (1 ≤ i ∧ i ≤ rc))))]) hC (k_Rc_has l g r0 r1 r2 r3 r4 r5 rc rm re ri rv rb i hrc hi) mw_614 zv_Rc_has rfl rfl ⟨Nat.le_of_ble_eq_true rfl, Nat.le_of_ble_eq_true rfl⟩ [0, 1, 2, 3, 4, 5] rfl rfl rfl rfl rfl rfl rfl rfl (Nat.le_of_ble_eq_true rfl) d_Rc_addEntry_2 rfl ⟨Nat.zero_le _, Nat.zero_le _⟩ rfl ?_
  refine z_ifneD (tgt := 10) hC d_Rc_addEntry_5 rfl (fun c_1 => ?_) (fun c_1 => ?_)
  · refine z_aload_n hC d_Rc_addEntry_10 rfl 0 rfl ?_
    refine z_get hC hi_Rc 0 rfl rfl 1 (by decide) mw_195 (Or.inl rfl) rfl d_Rc_addEntry_11 ?_
    refine z_iload_n hC d_Rc_addEntry_14 rfl 1 rfl ?_
    refine z_iconstN hC 1 d_Rc_addEntry_15 rfl ?_
    refine z_isub hC d_Rc_addEntry_16 ?_
    refine z_ialdN hC 2 0 rfl rfl ((i - ((1 : Nat) : Int)).toNat) (by omega) (by omega) (by decide) d_Rc_addEntry_17 ?_
    refine z_istore (lv' := [(4, .int (iI ((re ((i - ((1 : Nat) : Int)).toNat) : Nat) : Int))), (0, .ref r0), (1, .int (iI i)), (2, .int xi), (3, .int (iI ((v : Nat) : Int)))]) hC d_Rc_addEntry_18 (by decide) rfl ?_
    refine z_iload hC d_Rc_addEntry_20 0 rfl ?_
    refine z_if_lt (tgt := 32) hC ((re ((i - ((1 : Nat) : Int)).toNat) : Nat) : Int) d_Rc_addEntry_22 rfl (iI_t (by omega)) (fun c_2 => ?_) (fun c_2 => ?_)
    · refine z_iconstN hC 0 d_Rc_addEntry_32 rfl ?_
      exact Z.eq (by first | (simp only [if_neg (show ¬ (1 ≤ i ∧ i ≤ rc ∧ re (i - ((1 : Nat) : Int)).toNat < 8) by omega)]; done) | (simp only [if_pos (show 1 ≤ i ∧ i ≤ rc ∧ re (i - ((1 : Nat) : Int)).toNat < 8 by omega)]; done)) rfl rfl (by first | (simp only [if_neg (show ¬ (1 ≤ i ∧ i ≤ rc ∧ re (i - ((1 : Nat) : Int)).toNat < 8) by omega)]; done) | (simp only [if_pos (show 1 ≤ i ∧ i ≤ rc ∧ re (i - ((1 : Nat) : Int)).toNat < 8 by omega)]; done)) (hR _ _ d_Rc_addEntry_33)
    · refine z_iload hC d_Rc_addEntry_25 0 rfl ?_
      refine z_bipush (a := ((8 : Nat) : Int)) hC d_Rc_addEntry_27 (by decide) ?_
      refine z_icmp_lt (tgt := 34) hC ((re ((i - ((1 : Nat) : Int)).toNat) : Nat) : Int) ((8 : Nat) : Int) d_Rc_addEntry_29 rfl (iI_t (by omega)) (iI_t (by omega)) (fun c_3 => ?_) (fun c_3 => ?_)
      · refine z_iload_n hC d_Rc_addEntry_34 rfl 2 rfl ?_
        refine z_iconstN hC 1 d_Rc_addEntry_35 rfl ?_
        refine z_isub hC d_Rc_addEntry_36 ?_
        refine z_bipush (a := ((8 : Nat) : Int)) hC d_Rc_addEntry_37 (by decide) ?_
        refine z_imul hC d_Rc_addEntry_39 ?_
        refine z_iload hC d_Rc_addEntry_40 0 rfl ?_
        refine z_iadd hC d_Rc_addEntry_42 ?_
        refine z_istore (lv' := [(5, .int (iI (((i - ((1 : Nat) : Int)) * ((8 : Nat) : Int)) + ((re ((i - ((1 : Nat) : Int)).toNat) : Nat) : Int)))), (4, .int (iI ((re ((i - ((1 : Nat) : Int)).toNat) : Nat) : Int))), (0, .ref r0), (1, .int (iI i)), (2, .int xi), (3, .int (iI ((v : Nat) : Int)))]) hC d_Rc_addEntry_43 (by decide) rfl ?_
        refine z_aload_n hC d_Rc_addEntry_45 rfl 2 rfl ?_
        refine z_get hC hi_Rc 0 rfl rfl 2 (by decide) mw_196 (Or.inl rfl) rfl d_Rc_addEntry_46 ?_
        refine z_iload hC d_Rc_addEntry_49 0 rfl ?_
        refine z_iload_n hC d_Rc_addEntry_51 rfl 4 rfl ?_
        refine z_iast (v := xi) (w' := [(r0, .inr (5, [.ref r1, .ref r2, .ref r3, .ref r4, .ref r5, .int (iI ((rc : Nat) : Int))])), (r1, .inl ((g.2.1 1), 60, .inr (.inl rm))), (r2, .inl ((g.2.1 0), 60, .inl (nF re))), (r3, .inl ((g.2.1 0), 480, .inl (upd ri ((i - ((1 : Nat) : Int)).toNat * 8 + re (i - ((1 : Nat) : Int)).toNat) xi))), (r4, .inl ((g.2.1 0), 480, .inl (nF rv))), (r5, .inl ((g.2.1 2), 40, .inl (bF rb)))]) hC 3 0 rfl rfl ((i - ((1 : Nat) : Int)).toNat * 8 + re (i - ((1 : Nat) : Int)).toNat) (by omega) (by omega) (by decide) rfl d_Rc_addEntry_52 ?_
        refine z_aload_n hC d_Rc_addEntry_53 rfl 2 rfl ?_
        refine z_get hC hi_Rc 0 rfl rfl 3 (by decide) mw_197 (Or.inl rfl) rfl d_Rc_addEntry_54 ?_
        refine z_iload hC d_Rc_addEntry_57 0 rfl ?_
        refine z_iload_n hC d_Rc_addEntry_59 rfl 5 rfl ?_
        refine z_iastN (v := v) (w' := [(r0, .inr (5, [.ref r1, .ref r2, .ref r3, .ref r4, .ref r5, .int (iI ((rc : Nat) : Int))])), (r1, .inl ((g.2.1 1), 60, .inr (.inl rm))), (r2, .inl ((g.2.1 0), 60, .inl (nF re))), (r3, .inl ((g.2.1 0), 480, .inl (upd ri ((i - ((1 : Nat) : Int)).toNat * 8 + re (i - ((1 : Nat) : Int)).toNat) xi))), (r4, .inl ((g.2.1 0), 480, .inl (nF (up rv ((i - ((1 : Nat) : Int)).toNat * 8 + re (i - ((1 : Nat) : Int)).toNat) v)))), (r5, .inl ((g.2.1 2), 40, .inl (bF rb)))]) hC 4 0 rfl rfl ((i - ((1 : Nat) : Int)).toNat * 8 + re (i - ((1 : Nat) : Int)).toNat) (by omega) (by omega) (by decide) rfl d_Rc_addEntry_60 ?_
        refine z_aload_n hC d_Rc_addEntry_61 rfl 2 rfl ?_
        refine z_get hC hi_Rc 0 rfl rfl 1 (by decide) mw_195 (Or.inl rfl) rfl d_Rc_addEntry_62 ?_
        refine z_iload_n hC d_Rc_addEntry_65 rfl 3 rfl ?_
        refine z_iconstN hC 1 d_Rc_addEntry_66 rfl ?_
        refine z_isub hC d_Rc_addEntry_67 ?_
        refine z_iload hC d_Rc_addEntry_68 1 rfl ?_
        refine z_iconstN hC 1 d_Rc_addEntry_70 rfl ?_
        refine z_iaddN hC d_Rc_addEntry_71 ?_
        refine z_iastN (v := (re ((i - ((1 : Nat) : Int)).toNat)) + 1) (w' := [(r0, .inr (5, [.ref r1, .ref r2, .ref r3, .ref r4, .ref r5, .int (iI ((rc : Nat) : Int))])), (r1, .inl ((g.2.1 1), 60, .inr (.inl rm))), (r2, .inl ((g.2.1 0), 60, .inl (nF (up re ((i - ((1 : Nat) : Int)).toNat) ((re ((i - ((1 : Nat) : Int)).toNat)) + 1))))), (r3, .inl ((g.2.1 0), 480, .inl (upd ri ((i - ((1 : Nat) : Int)).toNat * 8 + re (i - ((1 : Nat) : Int)).toNat) xi))), (r4, .inl ((g.2.1 0), 480, .inl (nF (up rv ((i - ((1 : Nat) : Int)).toNat * 8 + re (i - ((1 : Nat) : Int)).toNat) v)))), (r5, .inl ((g.2.1 2), 40, .inl (bF rb)))]) hC 2 0 rfl rfl ((i - ((1 : Nat) : Int)).toNat) (by omega) (by omega) (by decide) rfl d_Rc_addEntry_72 ?_
        refine z_iload hC d_Rc_addEntry_73 1 rfl ?_
        refine z_iconstN hC 1 d_Rc_addEntry_75 rfl ?_
        refine z_iaddN hC d_Rc_addEntry_76 ?_
        exact Z.eq (by first | (simp only [if_neg (show ¬ (1 ≤ i ∧ i ≤ rc ∧ re (i - ((1 : Nat) : Int)).toNat < 8) by omega)]; done) | (simp only [if_pos (show 1 ≤ i ∧ i ≤ rc ∧ re (i - ((1 : Nat) : Int)).toNat < 8 by omega)]; done)) rfl rfl (by first | (simp only [if_neg (show ¬ (1 ≤ i ∧ i ≤ rc ∧ re (i - ((1 : Nat) : Int)).toNat < 8) by omega)]; done) | (simp only [if_pos (show 1 ≤ i ∧ i ≤ rc ∧ re (i - ((1 : Nat) : Int)).toNat < 8 by omega)]; done)) (hR _ _ d_Rc_addEntry_77)
      · refine z_iconstN hC 0 d_Rc_addEntry_32 rfl ?_
        exact Z.eq (by first | (simp only [if_neg (show ¬ (1 ≤ i ∧ i ≤ rc ∧ re (i - ((1 : Nat) : Int)).toNat < 8) by omega)]; done) | (simp only [if_pos (show 1 ≤ i ∧ i ≤ rc ∧ re (i - ((1 : Nat) : Int)).toNat < 8 by omega)]; done)) rfl rfl (by first | (simp only [if_neg (show ¬ (1 ≤ i ∧ i ≤ rc ∧ re (i - ((1 : Nat) : Int)).toNat < 8) by omega)]; done) | (simp only [if_pos (show 1 ≤ i ∧ i ≤ rc ∧ re (i - ((1 : Nat) : Int)).toNat < 8 by omega)]; done)) (hR _ _ d_Rc_addEntry_33)
  · refine z_iconstN hC 0 d_Rc_addEntry_8 rfl ?_
    exact Z.eq (by first | (simp only [if_neg (show ¬ (1 ≤ i ∧ i ≤ rc ∧ re (i - ((1 : Nat) : Int)).toNat < 8) by omega)]; done) | (simp only [if_pos (show 1 ≤ i ∧ i ≤ rc ∧ re (i - ((1 : Nat) : Int)).toNat < 8 by omega)]; done)) rfl rfl (by first | (simp only [if_neg (show ¬ (1 ≤ i ∧ i ≤ rc ∧ re (i - ((1 : Nat) : Int)).toNat < 8) by omega)]; done) | (simp only [if_pos (show 1 ≤ i ∧ i ≤ rc ∧ re (i - ((1 : Nat) : Int)).toNat < 8 by omega)]; done)) (hR _ _ d_Rc_addEntry_9)
set_option maxHeartbeats 4000000 in
set_option maxRecDepth 100000 in
theorem k_Rc_isBeginning (l : Launch) (g : ZG) (b : Int) (v : Nat) (hb : -2147483648 ≤ b ∧ b < 2147483648) (hv : v < 100000)   : Ct l g y_Rc_isBeginning c_Rc_isBeginning 4 (some .boolean) { frames := 0, cells := 0, slots := 0, locals := 0 } [.int (iI b), .int (iI ((v : Nat) : Int))] [] (some (.int (iI (bI (bgB b v))))) [] := by
  refine ct_z (lv := [(0, .int (iI b)), (1, .int (iI ((v : Nat) : Int)))]) (by decide) rfl (Nat.le_of_ble_eq_true rfl) rfl ?_
  intro x hC hR
  refine z_iload_n hC d_Rc_isBeginning_0 rfl 0 rfl ?_
  refine z_if_ne (tgt := 14) hC b d_Rc_isBeginning_1 rfl (iI_t (by omega)) (fun c_1 => ?_) (fun c_1 => ?_)
  · refine z_iload_n hC d_Rc_isBeginning_14 rfl 1 rfl ?_
    refine z_istore_n (lv' := [(2, .int (iI ((v : Nat) : Int))), (0, .int (iI b)), (1, .int (iI ((v : Nat) : Int)))]) hC d_Rc_isBeginning_15 rfl (by decide) rfl ?_
    refine z_iconstN hC 0 d_Rc_isBeginning_16 rfl ?_
    refine z_istore_n (lv' := [(3, .int (iI ((0 : Nat) : Int))), (2, .int (iI ((v : Nat) : Int))), (0, .int (iI b)), (1, .int (iI ((v : Nat) : Int)))]) hC d_Rc_isBeginning_17 rfl (by decide) rfl ?_
    have L_18 : ∀ (fu : Nat) (c r : Nat), (c ≤ 5) → (r < 100000) → (bgL b (5 - c) r = bgL b 5 v) → 5 - c < fu → Z x (0, 0) [] 18 [(3, .int (iI ((c : Nat) : Int))), (2, .int (iI ((r : Nat) : Int))), (0, .int (iI b)), (1, .int (iI ((v : Nat) : Int)))] [] := by
      intro fu
      induction fu with
      | zero => intro c r hc hr hq hmu; exact absurd hmu (Nat.not_lt_zero _)
      | succ fu ih_18 =>
        intro c r hc hr hq hmu
        refine z_iload_n hC d_Rc_isBeginning_18 rfl 0 rfl ?_
        refine z_iconstN hC 5 d_Rc_isBeginning_19 rfl ?_
        refine z_icmp_ge (tgt := 39) hC ((c : Nat) : Int) ((5 : Nat) : Int) d_Rc_isBeginning_20 rfl (iI_t (by omega)) (iI_t (by omega)) (fun c_2 => ?_) (fun c_2 => ?_)
        · have hz : r = bgL b 5 v := by first | exact (bgL_0 (by omega)).symm.trans hq | exact (bgL_no (by omega)).symm.trans hq
          refine z_iload_n hC d_Rc_isBeginning_39 rfl 1 rfl ?_
          refine z_iload_n hC d_Rc_isBeginning_40 rfl 2 rfl ?_
          refine z_icmp_ne (tgt := 48) hC ((r : Nat) : Int) b d_Rc_isBeginning_41 rfl (iI_t (by omega)) (iI_t (by omega)) (fun c_3 => ?_) (fun c_3 => ?_)
          · refine z_iconstN hC 0 d_Rc_isBeginning_48 rfl ?_
            exact Z.eq rfl rfl rfl (zb_f (by unfold bgB; first | (rw [if_pos (by omega)]; first | exact decide_eq_true (by omega) | exact decide_eq_false (by omega)) | (rw [if_neg (by omega), ← hz]; first | exact decide_eq_true (by omega) | exact decide_eq_false (by omega)))) (hR _ _ d_Rc_isBeginning_49)
          · refine z_iconstN hC 1 d_Rc_isBeginning_44 rfl ?_
            refine z_goto (tgt := 49) hC d_Rc_isBeginning_45 rfl ?_
            exact Z.eq rfl rfl rfl (zb_t (by unfold bgB; first | (rw [if_pos (by omega)]; first | exact decide_eq_true (by omega) | exact decide_eq_false (by omega)) | (rw [if_neg (by omega), ← hz]; first | exact decide_eq_true (by omega) | exact decide_eq_false (by omega)))) (hR _ _ d_Rc_isBeginning_49)
        · refine z_iload_n hC d_Rc_isBeginning_23 rfl 1 rfl ?_
          refine z_iload_n hC d_Rc_isBeginning_24 rfl 2 rfl ?_
          refine z_icmp_le (tgt := 39) hC ((r : Nat) : Int) b d_Rc_isBeginning_25 rfl (iI_t (by omega)) (iI_t (by omega)) (fun c_4 => ?_) (fun c_4 => ?_)
          · have hz : r = bgL b 5 v := by first | exact (bgL_0 (by omega)).symm.trans hq | exact (bgL_no (by omega)).symm.trans hq
            refine z_iload_n hC d_Rc_isBeginning_39 rfl 1 rfl ?_
            refine z_iload_n hC d_Rc_isBeginning_40 rfl 2 rfl ?_
            refine z_icmp_ne (tgt := 48) hC ((r : Nat) : Int) b d_Rc_isBeginning_41 rfl (iI_t (by omega)) (iI_t (by omega)) (fun c_5 => ?_) (fun c_5 => ?_)
            · refine z_iconstN hC 0 d_Rc_isBeginning_48 rfl ?_
              exact Z.eq rfl rfl rfl (zb_f (by unfold bgB; first | (rw [if_pos (by omega)]; first | exact decide_eq_true (by omega) | exact decide_eq_false (by omega)) | (rw [if_neg (by omega), ← hz]; first | exact decide_eq_true (by omega) | exact decide_eq_false (by omega)))) (hR _ _ d_Rc_isBeginning_49)
            · refine z_iconstN hC 1 d_Rc_isBeginning_44 rfl ?_
              refine z_goto (tgt := 49) hC d_Rc_isBeginning_45 rfl ?_
              exact Z.eq rfl rfl rfl (zb_t (by unfold bgB; first | (rw [if_pos (by omega)]; first | exact decide_eq_true (by omega) | exact decide_eq_false (by omega)) | (rw [if_neg (by omega), ← hz]; first | exact decide_eq_true (by omega) | exact decide_eq_false (by omega)))) (hR _ _ d_Rc_isBeginning_49)
          · refine z_iload_n hC d_Rc_isBeginning_28 rfl 1 rfl ?_
            refine z_bipush (a := ((10 : Nat) : Int)) hC d_Rc_isBeginning_29 (by decide) ?_
            refine z_idivN hC d_Rc_isBeginning_31 (by omega) (by omega) (by omega) ?_
            refine z_istore_n (lv' := [(2, .int (iI ((r / 10 : Nat) : Int))), (3, .int (iI ((c : Nat) : Int))), (0, .int (iI b)), (1, .int (iI ((v : Nat) : Int)))]) hC d_Rc_isBeginning_32 rfl (by decide) rfl ?_
            refine z_iincN (lv' := [(3, .int (iI ((c + 1 : Nat) : Int))), (2, .int (iI ((r / 10 : Nat) : Int))), (0, .int (iI b)), (1, .int (iI ((v : Nat) : Int)))]) hC 1 d_Rc_isBeginning_33 rfl 1 rfl (by decide) rfl ?_
            refine z_goto (tgt := 18) hC d_Rc_isBeginning_36 rfl ?_
            exact Zloc [0, 1, 2, 3] rfl (Z.eq (w' := []) rfl rfl rfl rfl (ih_18 (c + 1) (r / 10) (by omega) (by omega) ((bgL_go (by omega) (by omega)).trans hq) (by omega)))
    exact Zloc [0, 1, 2, 3] rfl (Z.eq (w' := []) rfl rfl rfl rfl (L_18 _ 0 v (by omega) hv rfl (Nat.lt_succ_self _)))
  · refine z_iload_n hC d_Rc_isBeginning_4 rfl 1 rfl ?_
    refine z_if_ne (tgt := 12) hC ((v : Nat) : Int) d_Rc_isBeginning_5 rfl (iI_t (by omega)) (fun c_6 => ?_) (fun c_6 => ?_)
    · refine z_iconstN hC 0 d_Rc_isBeginning_12 rfl ?_
      exact Z.eq rfl rfl rfl (zb_f (by unfold bgB; first | (rw [if_pos (by omega)]; first | exact decide_eq_true (by omega) | exact decide_eq_false (by omega)) | (rw [if_neg (by omega), ← hz]; first | exact decide_eq_true (by omega) | exact decide_eq_false (by omega)))) (hR _ _ d_Rc_isBeginning_13)
    · refine z_iconstN hC 1 d_Rc_isBeginning_8 rfl ?_
      refine z_goto (tgt := 13) hC d_Rc_isBeginning_9 rfl ?_
      exact Z.eq rfl rfl rfl (zb_t (by unfold bgB; first | (rw [if_pos (by omega)]; first | exact decide_eq_true (by omega) | exact decide_eq_false (by omega)) | (rw [if_neg (by omega), ← hz]; first | exact decide_eq_true (by omega) | exact decide_eq_false (by omega)))) (hR _ _ d_Rc_isBeginning_13)
set_option maxHeartbeats 4000000 in
set_option maxRecDepth 100000 in
theorem k_Rc_isJoinedMet (l : Launch) (g : ZG) (s : Int32) (a b : Bool)    : Ct l g y_Rc_isJoinedMet c_Rc_isJoinedMet 3 (some .boolean) { frames := 0, cells := 0, slots := 0, locals := 0 } [.int s, .int (iI (bI a)), .int (iI (bI b))] [] (some (.int (iI (bI (jnB s.toInt a b))))) [] := by
  refine ct_z (lv := [(0, .int s), (1, .int (iI (bI a))), (2, .int (iI (bI b)))]) (by decide) rfl (Nat.le_of_ble_eq_true rfl) rfl ?_
  intro x hC hR
  refine z_iload_n hC d_Rc_isJoinedMet_0 rfl 0 rfl ?_
  refine z_iconstN hC 3 d_Rc_isJoinedMet_1 rfl ?_
  refine z_icmp_ne (tgt := 19) hC ((s : Int32).toInt) ((3 : Nat) : Int) d_Rc_isJoinedMet_2 rfl rfl (iI_t (by omega)) (fun c_1 => ?_) (fun c_1 => ?_)
  · refine z_iload_n hC d_Rc_isJoinedMet_19 rfl 0 rfl ?_
    refine z_iconstN hC 4 d_Rc_isJoinedMet_20 rfl ?_
    refine z_icmp_ne (tgt := 40) hC ((s : Int32).toInt) ((4 : Nat) : Int) d_Rc_isJoinedMet_21 rfl rfl (iI_t (by omega)) (fun c_2 => ?_) (fun c_2 => ?_)
    · refine z_iload_n hC d_Rc_isJoinedMet_40 rfl 1 rfl ?_
      refine z_ifeqB (tgt := 52) hC d_Rc_isJoinedMet_41 rfl (fun c_3 => ?_) (fun c_3 => ?_)
      · refine z_iconstN hC 0 d_Rc_isJoinedMet_52 rfl ?_
        exact Z.eq rfl rfl rfl (zb_f (by unfold jnB; first | (rw [if_pos (by omega)]; simp_all; done) | (rw [if_neg (by omega), if_pos (by omega)]; simp_all; done) | (rw [if_neg (by omega), if_neg (by omega)]; simp_all; done))) (hR _ _ d_Rc_isJoinedMet_53)
      · refine z_iload_n hC d_Rc_isJoinedMet_44 rfl 2 rfl ?_
        refine z_ifneB (tgt := 52) hC d_Rc_isJoinedMet_45 rfl (fun c_4 => ?_) (fun c_4 => ?_)
        · refine z_iconstN hC 0 d_Rc_isJoinedMet_52 rfl ?_
          exact Z.eq rfl rfl rfl (zb_f (by unfold jnB; first | (rw [if_pos (by omega)]; simp_all; done) | (rw [if_neg (by omega), if_pos (by omega)]; simp_all; done) | (rw [if_neg (by omega), if_neg (by omega)]; simp_all; done))) (hR _ _ d_Rc_isJoinedMet_53)
        · refine z_iconstN hC 1 d_Rc_isJoinedMet_48 rfl ?_
          refine z_goto (tgt := 53) hC d_Rc_isJoinedMet_49 rfl ?_
          exact Z.eq rfl rfl rfl (zb_t (by unfold jnB; first | (rw [if_pos (by omega)]; simp_all; done) | (rw [if_neg (by omega), if_pos (by omega)]; simp_all; done) | (rw [if_neg (by omega), if_neg (by omega)]; simp_all; done))) (hR _ _ d_Rc_isJoinedMet_53)
    · refine z_iload_n hC d_Rc_isJoinedMet_24 rfl 1 rfl ?_
      refine z_ifneB (tgt := 32) hC d_Rc_isJoinedMet_25 rfl (fun c_5 => ?_) (fun c_5 => ?_)
      · refine z_iconstN hC 1 d_Rc_isJoinedMet_32 rfl ?_
        refine z_goto (tgt := 53) hC d_Rc_isJoinedMet_33 rfl ?_
        exact Z.eq rfl rfl rfl (zb_t (by unfold jnB; first | (rw [if_pos (by omega)]; simp_all; done) | (rw [if_neg (by omega), if_pos (by omega)]; simp_all; done) | (rw [if_neg (by omega), if_neg (by omega)]; simp_all; done))) (hR _ _ d_Rc_isJoinedMet_53)
      · refine z_iload_n hC d_Rc_isJoinedMet_28 rfl 2 rfl ?_
        refine z_ifeqB (tgt := 36) hC d_Rc_isJoinedMet_29 rfl (fun c_6 => ?_) (fun c_6 => ?_)
        · refine z_iconstN hC 0 d_Rc_isJoinedMet_36 rfl ?_
          refine z_goto (tgt := 53) hC d_Rc_isJoinedMet_37 rfl ?_
          exact Z.eq rfl rfl rfl (zb_f (by unfold jnB; first | (rw [if_pos (by omega)]; simp_all; done) | (rw [if_neg (by omega), if_pos (by omega)]; simp_all; done) | (rw [if_neg (by omega), if_neg (by omega)]; simp_all; done))) (hR _ _ d_Rc_isJoinedMet_53)
        · refine z_iconstN hC 1 d_Rc_isJoinedMet_32 rfl ?_
          refine z_goto (tgt := 53) hC d_Rc_isJoinedMet_33 rfl ?_
          exact Z.eq rfl rfl rfl (zb_t (by unfold jnB; first | (rw [if_pos (by omega)]; simp_all; done) | (rw [if_neg (by omega), if_pos (by omega)]; simp_all; done) | (rw [if_neg (by omega), if_neg (by omega)]; simp_all; done))) (hR _ _ d_Rc_isJoinedMet_53)
  · refine z_iload_n hC d_Rc_isJoinedMet_5 rfl 1 rfl ?_
    refine z_ifeqB (tgt := 17) hC d_Rc_isJoinedMet_6 rfl (fun c_7 => ?_) (fun c_7 => ?_)
    · refine z_iconstN hC 0 d_Rc_isJoinedMet_17 rfl ?_
      exact Z.eq rfl rfl rfl (zb_f (by unfold jnB; first | (rw [if_pos (by omega)]; simp_all; done) | (rw [if_neg (by omega), if_pos (by omega)]; simp_all; done) | (rw [if_neg (by omega), if_neg (by omega)]; simp_all; done))) (hR _ _ d_Rc_isJoinedMet_18)
    · refine z_iload_n hC d_Rc_isJoinedMet_9 rfl 2 rfl ?_
      refine z_ifeqB (tgt := 17) hC d_Rc_isJoinedMet_10 rfl (fun c_8 => ?_) (fun c_8 => ?_)
      · refine z_iconstN hC 0 d_Rc_isJoinedMet_17 rfl ?_
        exact Z.eq rfl rfl rfl (zb_f (by unfold jnB; first | (rw [if_pos (by omega)]; simp_all; done) | (rw [if_neg (by omega), if_pos (by omega)]; simp_all; done) | (rw [if_neg (by omega), if_neg (by omega)]; simp_all; done))) (hR _ _ d_Rc_isJoinedMet_18)
      · refine z_iconstN hC 1 d_Rc_isJoinedMet_13 rfl ?_
        refine z_goto (tgt := 18) hC d_Rc_isJoinedMet_14 rfl ?_
        exact Z.eq rfl rfl rfl (zb_t (by unfold jnB; first | (rw [if_pos (by omega)]; simp_all; done) | (rw [if_neg (by omega), if_pos (by omega)]; simp_all; done) | (rw [if_neg (by omega), if_neg (by omega)]; simp_all; done))) (hR _ _ d_Rc_isJoinedMet_18)
set_option maxHeartbeats 4000000 in
set_option maxRecDepth 100000 in
theorem k_Rc_isValueMet (l : Launch) (g : ZG) (t0 t1 t2 t3 t4 tn : Nat) (nd : Nat → QD) (k v : Nat) (htn : tn ≤ 40) (hk : k < tn) (hv : v < 100000)   : Ct l g y_Rc_isValueMet c_Rc_isValueMet 4 (some .boolean) { frames := 2, cells := 0, slots := 0, locals := 42 } [.ref t0, .int (iI ((k : Nat) : Int)), .int (iI ((v : Nat) : Int))] [(t0, .inr (7, [.ref t1, .ref t2, .ref t3, .ref t4, .int (iI ((tn : Nat) : Int))])), (t1, .inl ((g.2.1 0), 40, .inl (q1 nd))), (t2, .inl ((g.2.1 0), 40, .inl (q2 nd))), (t3, .inl ((g.2.1 0), 40, .inl (q3 nd))), (t4, .inl ((g.2.1 0), 40, .inl (q4 nd)))] (some (.int (iI (bI (vlB (nd k) v))))) [(t0, .inr (7, [.ref t1, .ref t2, .ref t3, .ref t4, .int (iI ((tn : Nat) : Int))])), (t1, .inl ((g.2.1 0), 40, .inl (q1 nd))), (t2, .inl ((g.2.1 0), 40, .inl (q2 nd))), (t3, .inl ((g.2.1 0), 40, .inl (q3 nd))), (t4, .inl ((g.2.1 0), 40, .inl (q4 nd)))] := by
  refine ct_z (lv := [(0, .ref t0), (1, .int (iI ((k : Nat) : Int))), (2, .int (iI ((v : Nat) : Int)))]) (by decide) rfl (Nat.le_of_ble_eq_true rfl) rfl ?_
  intro x hC hR
  refine z_aload_n hC d_Rc_isValueMet_0 rfl 0 rfl ?_
  refine z_iload_n hC d_Rc_isValueMet_1 rfl 1 rfl ?_
  refine z_callV (q0 := 0) (ci := 7) (w' := [(t0, .inr (7, [.ref t1, .ref t2, .ref t3, .ref t4, .int (iI ((tn : Nat) : Int))])), (t1, .inl ((g.2.1 0), 40, .inl (q1 nd))), (t2, .inl ((g.2.1 0), 40, .inl (q2 nd))), (t3, .inl ((g.2.1 0), 40, .inl (q3 nd))), (t4, .inl ((g.2.1 0), 40, .inl (q4 nd)))]) (st1 := [.int ((nd k).2.2.1)]) hC (k_Tr_leastAt_N l g t0 t1 t2 t3 t4 tn nd k htn hk) mw_683 zv_Tr_leastAt rfl rfl ⟨Nat.le_of_ble_eq_true rfl, Nat.le_of_ble_eq_true rfl⟩ [0, 1, 2, 3, 4] rfl rfl rfl rfl rfl rfl rfl rfl (Nat.le_of_ble_eq_true rfl) d_Rc_isValueMet_2 rfl ⟨Nat.zero_le _, Nat.zero_le _⟩ rfl ?_
  refine z_istore_n (lv' := [(3, .int ((nd k).2.2.1)), (0, .ref t0), (1, .int (iI ((k : Nat) : Int))), (2, .int (iI ((v : Nat) : Int)))]) hC d_Rc_isValueMet_5 rfl (by decide) rfl ?_
  refine z_aload_n hC d_Rc_isValueMet_6 rfl 1 rfl ?_
  refine z_iload_n hC d_Rc_isValueMet_7 rfl 2 rfl ?_
  refine z_callV (q0 := 0) (ci := 7) (w' := [(t0, .inr (7, [.ref t1, .ref t2, .ref t3, .ref t4, .int (iI ((tn : Nat) : Int))])), (t1, .inl ((g.2.1 0), 40, .inl (q1 nd))), (t2, .inl ((g.2.1 0), 40, .inl (q2 nd))), (t3, .inl ((g.2.1 0), 40, .inl (q3 nd))), (t4, .inl ((g.2.1 0), 40, .inl (q4 nd)))]) (st1 := [.int ((nd k).1)]) hC (k_Tr_sortAt_N l g t0 t1 t2 t3 t4 tn nd k htn hk) mw_673 zv_Tr_sortAt rfl rfl ⟨Nat.le_of_ble_eq_true rfl, Nat.le_of_ble_eq_true rfl⟩ [0, 1, 2, 3, 4] rfl rfl rfl rfl rfl rfl rfl rfl (Nat.le_of_ble_eq_true rfl) d_Rc_isValueMet_8 rfl ⟨Nat.zero_le _, Nat.zero_le _⟩ rfl ?_
  refine z_lsw2 (t0 := 36) (t1 := 47) (td := 67) hC (((nd k).1 : Int32).toInt) d_Rc_isValueMet_11 (by decide) rfl rfl rfl rfl (fun c_1 => ?_) (fun c_1 c_2 => ?_) (fun c_1 c_2 => ?_)
  · refine z_iload_n hC d_Rc_isValueMet_36 rfl 3 rfl ?_
    refine z_iload_n hC d_Rc_isValueMet_37 rfl 0 rfl ?_
    refine z_icmp_ne (tgt := 45) hC ((v : Nat) : Int) (((nd k).2.2.1 : Int32).toInt) d_Rc_isValueMet_38 rfl (iI_t (by omega)) rfl (fun c_3 => ?_) (fun c_3 => ?_)
    · refine z_iconstN hC 0 d_Rc_isValueMet_45 rfl ?_
      exact Z.eq rfl rfl rfl (zb_f (by unfold vlB; first | (rw [if_pos (by assumption)]; first | exact decide_eq_true (by omega) | exact decide_eq_false (by omega)) | (rw [if_neg (by assumption), if_pos (by assumption)]; first | exact decide_eq_true (by omega) | exact decide_eq_false (by omega)) | (rw [if_neg (by assumption), if_neg (by assumption)]))) (hR _ _ d_Rc_isValueMet_46)
    · refine z_iconstN hC 1 d_Rc_isValueMet_41 rfl ?_
      refine z_goto (tgt := 46) hC d_Rc_isValueMet_42 rfl ?_
      exact Z.eq rfl rfl rfl (zb_t (by unfold vlB; first | (rw [if_pos (by assumption)]; first | exact decide_eq_true (by omega) | exact decide_eq_false (by omega)) | (rw [if_neg (by assumption), if_pos (by assumption)]; first | exact decide_eq_true (by omega) | exact decide_eq_false (by omega)) | (rw [if_neg (by assumption), if_neg (by assumption)]))) (hR _ _ d_Rc_isValueMet_46)
  · refine z_iload_n hC d_Rc_isValueMet_47 rfl 3 rfl ?_
    refine z_iload_n hC d_Rc_isValueMet_48 rfl 0 rfl ?_
    refine z_icmp_lt (tgt := 65) hC ((v : Nat) : Int) (((nd k).2.2.1 : Int32).toInt) d_Rc_isValueMet_49 rfl (iI_t (by omega)) rfl (fun c_4 => ?_) (fun c_4 => ?_)
    · refine z_iconstN hC 0 d_Rc_isValueMet_65 rfl ?_
      exact Z.eq rfl rfl rfl (zb_f (by unfold vlB; first | (rw [if_pos (by assumption)]; first | exact decide_eq_true (by omega) | exact decide_eq_false (by omega)) | (rw [if_neg (by assumption), if_pos (by assumption)]; first | exact decide_eq_true (by omega) | exact decide_eq_false (by omega)) | (rw [if_neg (by assumption), if_neg (by assumption)]))) (hR _ _ d_Rc_isValueMet_66)
    · refine z_iload_n hC d_Rc_isValueMet_52 rfl 3 rfl ?_
      refine z_aload_n hC d_Rc_isValueMet_53 rfl 1 rfl ?_
      refine z_iload_n hC d_Rc_isValueMet_54 rfl 2 rfl ?_
      refine z_callV (q0 := 0) (ci := 7) (w' := [(t0, .inr (7, [.ref t1, .ref t2, .ref t3, .ref t4, .int (iI ((tn : Nat) : Int))])), (t1, .inl ((g.2.1 0), 40, .inl (q1 nd))), (t2, .inl ((g.2.1 0), 40, .inl (q2 nd))), (t3, .inl ((g.2.1 0), 40, .inl (q3 nd))), (t4, .inl ((g.2.1 0), 40, .inl (q4 nd)))]) (st1 := [.int ((nd k).2.2.2), .int (iI ((v : Nat) : Int))]) hC (k_Tr_greatestAt_N l g t0 t1 t2 t3 t4 tn nd k htn hk) mw_684 zv_Tr_greatestAt rfl rfl ⟨Nat.le_of_ble_eq_true rfl, Nat.le_of_ble_eq_true rfl⟩ [0, 1, 2, 3, 4] rfl rfl rfl rfl rfl rfl rfl rfl (Nat.le_of_ble_eq_true rfl) d_Rc_isValueMet_55 rfl ⟨Nat.zero_le _, Nat.zero_le _⟩ rfl ?_
      refine z_icmp_gt (tgt := 65) hC ((v : Nat) : Int) (((nd k).2.2.2 : Int32).toInt) d_Rc_isValueMet_58 rfl (iI_t (by omega)) rfl (fun c_5 => ?_) (fun c_5 => ?_)
      · refine z_iconstN hC 0 d_Rc_isValueMet_65 rfl ?_
        exact Z.eq rfl rfl rfl (zb_f (by unfold vlB; first | (rw [if_pos (by assumption)]; first | exact decide_eq_true (by omega) | exact decide_eq_false (by omega)) | (rw [if_neg (by assumption), if_pos (by assumption)]; first | exact decide_eq_true (by omega) | exact decide_eq_false (by omega)) | (rw [if_neg (by assumption), if_neg (by assumption)]))) (hR _ _ d_Rc_isValueMet_66)
      · refine z_iconstN hC 1 d_Rc_isValueMet_61 rfl ?_
        refine z_goto (tgt := 66) hC d_Rc_isValueMet_62 rfl ?_
        exact Z.eq rfl rfl rfl (zb_t (by unfold vlB; first | (rw [if_pos (by assumption)]; first | exact decide_eq_true (by omega) | exact decide_eq_false (by omega)) | (rw [if_neg (by assumption), if_pos (by assumption)]; first | exact decide_eq_true (by omega) | exact decide_eq_false (by omega)) | (rw [if_neg (by assumption), if_neg (by assumption)]))) (hR _ _ d_Rc_isValueMet_66)
  · refine z_iload_n hC d_Rc_isValueMet_67 rfl 0 rfl ?_
    refine z_iload_n hC d_Rc_isValueMet_68 rfl 3 rfl ?_
    refine z_RI2 ?_
    refine z_callS (w' := [(t0, .inr (7, [.ref t1, .ref t2, .ref t3, .ref t4, .int (iI ((tn : Nat) : Int))])), (t1, .inl ((g.2.1 0), 40, .inl (q1 nd))), (t2, .inl ((g.2.1 0), 40, .inl (q2 nd))), (t3, .inl ((g.2.1 0), 40, .inl (q3 nd))), (t4, .inl ((g.2.1 0), 40, .inl (q4 nd)))]) (st1 := [.int (iI (bI (bgB (((nd k).2.2.1).toInt) v)))]) hC (k_Rc_isBeginning l g (((nd k).2.2.1).toInt) v (iI_rng _) hv) mw_685 zs_Rc_isBeginning rfl rfl ⟨Nat.le_of_ble_eq_true rfl, Nat.le_of_ble_eq_true rfl⟩ [] rfl rfl rfl rfl rfl (Nat.le_of_ble_eq_true rfl) d_Rc_isValueMet_69 rfl ⟨Nat.zero_le _, Nat.zero_le _⟩ rfl ?_
    exact Z.eq rfl rfl rfl (zb_e (by unfold vlB; first | (rw [if_pos (by assumption)]; first | exact decide_eq_true (by omega) | exact decide_eq_false (by omega)) | (rw [if_neg (by assumption), if_pos (by assumption)]; first | exact decide_eq_true (by omega) | exact decide_eq_false (by omega)) | (rw [if_neg (by assumption), if_neg (by assumption)]))) (hR _ _ d_Rc_isValueMet_72)
set_option maxHeartbeats 4000000 in
set_option maxRecDepth 100000 in
theorem k_Rc_isSimpleMet (l : Launch) (g : ZG) (r0 r1 r2 r3 r4 r5 rc : Nat) (rm : Nat → Int64) (re : Nat → Nat) (ri : Nat → Int32) (rv : Nat → Nat) (rb : Nat → Bool) (t0 t1 t2 t3 t4 tn : Nat) (nd : Nat → QD) (k n : Nat) (hrc : rc ≤ 60) (htn : tn ≤ 40) (hk : k < tn) (hn : 1 ≤ n ∧ n ≤ rc) (hre : ∀ j, re j ≤ 8) (hrv : ∀ j, rv j < 100000)   : Ct l g y_Rc_isSimpleMet c_Rc_isSimpleMet 7 (some .boolean) { frames := 3, cells := 0, slots := 0, locals := 65 } [.ref r0, .ref t0, .int (iI ((k : Nat) : Int)), .int (iI ((n : Nat) : Int))] [(r0, .inr (5, [.ref r1, .ref r2, .ref r3, .ref r4, .ref r5, .int (iI ((rc : Nat) : Int))])), (r1, .inl ((g.2.1 1), 60, .inr (.inl rm))), (r2, .inl ((g.2.1 0), 60, .inl (nF re))), (r3, .inl ((g.2.1 0), 480, .inl ri)), (r4, .inl ((g.2.1 0), 480, .inl (nF rv))), (r5, .inl ((g.2.1 2), 40, .inl (bF rb))), (t0, .inr (7, [.ref t1, .ref t2, .ref t3, .ref t4, .int (iI ((tn : Nat) : Int))])), (t1, .inl ((g.2.1 0), 40, .inl (q1 nd))), (t2, .inl ((g.2.1 0), 40, .inl (q2 nd))), (t3, .inl ((g.2.1 0), 40, .inl (q3 nd))), (t4, .inl ((g.2.1 0), 40, .inl (q4 nd)))] (some (.int (iI (bI (smB re ri rv n (nd k)))))) [(r0, .inr (5, [.ref r1, .ref r2, .ref r3, .ref r4, .ref r5, .int (iI ((rc : Nat) : Int))])), (r1, .inl ((g.2.1 1), 60, .inr (.inl rm))), (r2, .inl ((g.2.1 0), 60, .inl (nF re))), (r3, .inl ((g.2.1 0), 480, .inl ri)), (r4, .inl ((g.2.1 0), 480, .inl (nF rv))), (r5, .inl ((g.2.1 2), 40, .inl (bF rb))), (t0, .inr (7, [.ref t1, .ref t2, .ref t3, .ref t4, .int (iI ((tn : Nat) : Int))])), (t1, .inl ((g.2.1 0), 40, .inl (q1 nd))), (t2, .inl ((g.2.1 0), 40, .inl (q2 nd))), (t3, .inl ((g.2.1 0), 40, .inl (q3 nd))), (t4, .inl ((g.2.1 0), 40, .inl (q4 nd)))] := by
  refine ct_z (lv := [(0, .ref r0), (1, .ref t0), (2, .int (iI ((k : Nat) : Int))), (3, .int (iI ((n : Nat) : Int)))]) (by decide) rfl (Nat.le_of_ble_eq_true rfl) rfl ?_
  intro x hC hR
  have hr8 := hre (n - 1)
  refine z_aload_n hC d_Rc_isSimpleMet_0 rfl 0 rfl ?_
  refine z_iload_n hC d_Rc_isSimpleMet_1 rfl 3 rfl ?_
  refine z_callV (q0 := 0) (ci := 5) (w' := [(r0, .inr (5, [.ref r1, .ref r2, .ref r3, .ref r4, .ref r5, .int (iI ((rc : Nat) : Int))])), (r1, .inl ((g.2.1 1), 60, .inr (.inl rm))), (r2, .inl ((g.2.1 0), 60, .inl (nF re))), (r3, .inl ((g.2.1 0), 480, .inl ri)), (r4, .inl ((g.2.1 0), 480, .inl (nF rv))), (r5, .inl ((g.2.1 2), 40, .inl (bF rb))), (t0, .inr (7, [.ref t1, .ref t2, .ref t3, .ref t4, .int (iI ((tn : Nat) : Int))])), (t1, .inl ((g.2.1 0), 40, .inl (q1 nd))), (t2, .inl ((g.2.1 0), 40, .inl (q2 nd))), (t3, .inl ((g.2.1 0), 40, .inl (q3 nd))), (t4, .inl ((g.2.1 0), 40, .inl (q4 nd)))]) (st1 := [.int (iI (bI (decide (1 ≤ ((n : Nat) : Int) ∧ ((n : Nat) : Int) ≤ rc))))]) hC (k_Rc_has l g r0 r1 r2 r3 r4 r5 rc rm re ri rv rb ((n : Nat) : Int) hrc (by omega)) mw_614 zv_Rc_has rfl rfl ⟨Nat.le_of_ble_eq_true rfl, Nat.le_of_ble_eq_true rfl⟩ [0, 1, 2, 3, 4, 5] rfl rfl rfl rfl rfl rfl rfl rfl (Nat.le_of_ble_eq_true rfl) d_Rc_isSimpleMet_2 rfl ⟨Nat.zero_le _, Nat.zero_le _⟩ rfl ?_
  refine z_ifneD (tgt := 10) hC d_Rc_isSimpleMet_5 rfl (fun c_1 => ?_) (fun c_1 => ?_)
  · refine z_iload_n hC d_Rc_isSimpleMet_10 rfl 3 rfl ?_
    refine z_iconstN hC 1 d_Rc_isSimpleMet_11 rfl ?_
    refine z_isubN hC d_Rc_isSimpleMet_12 (by omega) ?_
    refine z_bipush (a := ((8 : Nat) : Int)) hC d_Rc_isSimpleMet_13 (by decide) ?_
    refine z_imulN hC d_Rc_isSimpleMet_15 ?_
    refine z_istore (lv' := [(4, .int (iI (((n - 1) * 8 : Nat) : Int))), (0, .ref r0), (1, .ref t0), (2, .int (iI ((k : Nat) : Int))), (3, .int (iI ((n : Nat) : Int)))]) hC d_Rc_isSimpleMet_16 (by decide) rfl ?_
    refine z_aload_n hC d_Rc_isSimpleMet_18 rfl 1 rfl ?_
    refine z_get hC hi_Rc 0 rfl rfl 1 (by decide) mw_195 (Or.inl rfl) rfl d_Rc_isSimpleMet_19 ?_
    refine z_iload_n hC d_Rc_isSimpleMet_22 rfl 4 rfl ?_
    refine z_iconstN hC 1 d_Rc_isSimpleMet_23 rfl ?_
    refine z_isubN hC d_Rc_isSimpleMet_24 (by omega) ?_
    refine z_ialdN hC 2 0 rfl rfl (n - 1) rfl (by omega) (by decide) d_Rc_isSimpleMet_25 ?_
    refine z_bipush (a := ((8 : Nat) : Int)) hC d_Rc_isSimpleMet_26 (by decide) ?_
    refine z_mminN hC mw_678 (by omega) (by omega) (Nat.le_of_ble_eq_true rfl) (Nat.le_of_ble_eq_true rfl) d_Rc_isSimpleMet_28 ?_
    refine z_istore (lv' := [(5, .int (iI ((min (re (n - 1)) 8 : Nat) : Int))), (4, .int (iI (((n - 1) * 8 : Nat) : Int))), (0, .ref r0), (1, .ref t0), (2, .int (iI ((k : Nat) : Int))), (3, .int (iI ((n : Nat) : Int)))]) hC d_Rc_isSimpleMet_31 (by decide) rfl ?_
    refine z_iconstN hC 0 d_Rc_isSimpleMet_33 rfl ?_
    refine z_istore (lv' := [(6, .int (iI ((0 : Nat) : Int))), (5, .int (iI ((min (re (n - 1)) 8 : Nat) : Int))), (4, .int (iI (((n - 1) * 8 : Nat) : Int))), (0, .ref r0), (1, .ref t0), (2, .int (iI ((k : Nat) : Int))), (3, .int (iI ((n : Nat) : Int)))]) hC d_Rc_isSimpleMet_34 (by decide) rfl ?_
    have L_36 : ∀ (fu : Nat) (e : Nat), (e ≤ min (re (n - 1)) 8) → (∀ j, j < e → (decide (ri ((n - 1) * 8 + j) = (nd k).2.1) && vlB (nd k) (rv ((n - 1) * 8 + j))) = false) → min (re (n - 1)) 8 - e < fu → Z x (0, 0) [(r0, .inr (5, [.ref r1, .ref r2, .ref r3, .ref r4, .ref r5, .int (iI ((rc : Nat) : Int))])), (r1, .inl ((g.2.1 1), 60, .inr (.inl rm))), (r2, .inl ((g.2.1 0), 60, .inl (nF re))), (r3, .inl ((g.2.1 0), 480, .inl ri)), (r4, .inl ((g.2.1 0), 480, .inl (nF rv))), (r5, .inl ((g.2.1 2), 40, .inl (bF rb))), (t0, .inr (7, [.ref t1, .ref t2, .ref t3, .ref t4, .int (iI ((tn : Nat) : Int))])), (t1, .inl ((g.2.1 0), 40, .inl (q1 nd))), (t2, .inl ((g.2.1 0), 40, .inl (q2 nd))), (t3, .inl ((g.2.1 0), 40, .inl (q3 nd))), (t4, .inl ((g.2.1 0), 40, .inl (q4 nd)))] 36 [(6, .int (iI ((e : Nat) : Int))), (5, .int (iI ((min (re (n - 1)) 8 : Nat) : Int))), (4, .int (iI (((n - 1) * 8 : Nat) : Int))), (0, .ref r0), (1, .ref t0), (2, .int (iI ((k : Nat) : Int))), (3, .int (iI ((n : Nat) : Int)))] [] := by
      intro fu
      induction fu with
      | zero => intro e he hall hmu; exact absurd hmu (Nat.not_lt_zero _)
      | succ fu ih_36 =>
        intro e he hall hmu
        refine z_iload hC d_Rc_isSimpleMet_36 0 rfl ?_
        refine z_iload hC d_Rc_isSimpleMet_38 1 rfl ?_
        refine z_icmp_ge (tgt := 87) hC ((e : Nat) : Int) ((min (re (n - 1)) 8 : Nat) : Int) d_Rc_isSimpleMet_40 rfl (iI_t (by omega)) (iI_t (by omega)) (fun c_2 => ?_) (fun c_2 => ?_)
        · refine z_iconstN hC 0 d_Rc_isSimpleMet_87 rfl ?_
          exact Z.eq rfl rfl rfl (zb_f (by unfold smB; first | (exfalso; omega) | exact exB_no (fun j h => hall j (by omega)) | exact exB_iff.mpr ⟨e, by omega, by rw [decide_eq_true (by assumption)]; simp_all⟩)) (hR _ _ d_Rc_isSimpleMet_88)
        · refine z_aload_n hC d_Rc_isSimpleMet_43 rfl 3 rfl ?_
          refine z_get hC hi_Rc 0 rfl rfl 2 (by decide) mw_196 (Or.inl rfl) rfl d_Rc_isSimpleMet_44 ?_
          refine z_iload hC d_Rc_isSimpleMet_47 2 rfl ?_
          refine z_iload hC d_Rc_isSimpleMet_49 0 rfl ?_
          refine z_iaddN hC d_Rc_isSimpleMet_51 ?_
          refine z_iald hC 3 0 rfl rfl (((n - 1) * 8) + e) rfl (by omega) (by decide) d_Rc_isSimpleMet_52 ?_
          refine z_aload_n hC d_Rc_isSimpleMet_53 rfl 4 rfl ?_
          refine z_iload_n hC d_Rc_isSimpleMet_54 rfl 5 rfl ?_
          refine z_callV (q0 := 6) (ci := 7) (w' := [(r0, .inr (5, [.ref r1, .ref r2, .ref r3, .ref r4, .ref r5, .int (iI ((rc : Nat) : Int))])), (r1, .inl ((g.2.1 1), 60, .inr (.inl rm))), (r2, .inl ((g.2.1 0), 60, .inl (nF re))), (r3, .inl ((g.2.1 0), 480, .inl ri)), (r4, .inl ((g.2.1 0), 480, .inl (nF rv))), (r5, .inl ((g.2.1 2), 40, .inl (bF rb))), (t0, .inr (7, [.ref t1, .ref t2, .ref t3, .ref t4, .int (iI ((tn : Nat) : Int))])), (t1, .inl ((g.2.1 0), 40, .inl (q1 nd))), (t2, .inl ((g.2.1 0), 40, .inl (q2 nd))), (t3, .inl ((g.2.1 0), 40, .inl (q3 nd))), (t4, .inl ((g.2.1 0), 40, .inl (q4 nd)))]) (st1 := [.int ((nd k).2.1), .int (ri (((n - 1) * 8) + e))]) hC (k_Tr_indexAt_N l g t0 t1 t2 t3 t4 tn nd k htn hk) mw_679 zv_Tr_indexAt rfl rfl ⟨Nat.le_of_ble_eq_true rfl, Nat.le_of_ble_eq_true rfl⟩ [6, 7, 8, 9, 10] rfl rfl rfl rfl rfl rfl rfl rfl (Nat.le_of_ble_eq_true rfl) d_Rc_isSimpleMet_55 rfl ⟨Nat.zero_le _, Nat.zero_le _⟩ rfl ?_
          refine z_icmp_neR (tgt := 81) hC d_Rc_isSimpleMet_58 rfl (fun c_3 => ?_) (fun c_3 => ?_)
          · refine z_iincN (lv' := [(6, .int (iI ((e + 1 : Nat) : Int))), (5, .int (iI ((min (re (n - 1)) 8 : Nat) : Int))), (4, .int (iI (((n - 1) * 8 : Nat) : Int))), (0, .ref r0), (1, .ref t0), (2, .int (iI ((k : Nat) : Int))), (3, .int (iI ((n : Nat) : Int)))]) hC 1 d_Rc_isSimpleMet_81 rfl 0 rfl (by decide) rfl ?_
            refine z_goto (tgt := 36) hC d_Rc_isSimpleMet_84 rfl ?_
            exact Zloc [0, 1, 2, 3, 4, 5, 6] rfl (Z.eq (w' := [(r0, .inr (5, [.ref r1, .ref r2, .ref r3, .ref r4, .ref r5, .int (iI ((rc : Nat) : Int))])), (r1, .inl ((g.2.1 1), 60, .inr (.inl rm))), (r2, .inl ((g.2.1 0), 60, .inl (nF re))), (r3, .inl ((g.2.1 0), 480, .inl ri)), (r4, .inl ((g.2.1 0), 480, .inl (nF rv))), (r5, .inl ((g.2.1 2), 40, .inl (bF rb))), (t0, .inr (7, [.ref t1, .ref t2, .ref t3, .ref t4, .int (iI ((tn : Nat) : Int))])), (t1, .inl ((g.2.1 0), 40, .inl (q1 nd))), (t2, .inl ((g.2.1 0), 40, .inl (q2 nd))), (t3, .inl ((g.2.1 0), 40, .inl (q3 nd))), (t4, .inl ((g.2.1 0), 40, .inl (q4 nd)))]) rfl rfl rfl rfl (ih_36 (e + 1) (by omega) (lt_s hall (by first | (rw [decide_eq_false (by assumption)]; rfl) | simp_all)) (by omega)))
          · refine z_aload_n hC d_Rc_isSimpleMet_61 rfl 4 rfl ?_
            refine z_iload_n hC d_Rc_isSimpleMet_62 rfl 5 rfl ?_
            refine z_aload_n hC d_Rc_isSimpleMet_63 rfl 3 rfl ?_
            refine z_get hC hi_Rc 0 rfl rfl 3 (by decide) mw_197 (Or.inl rfl) rfl d_Rc_isSimpleMet_64 ?_
            refine z_iload hC d_Rc_isSimpleMet_67 2 rfl ?_
            refine z_iload hC d_Rc_isSimpleMet_69 0 rfl ?_
            refine z_iaddN hC d_Rc_isSimpleMet_71 ?_
            refine z_ialdN hC 4 0 rfl rfl (((n - 1) * 8) + e) rfl (by omega) (by decide) d_Rc_isSimpleMet_72 ?_
            refine z_callS (w' := [(r0, .inr (5, [.ref r1, .ref r2, .ref r3, .ref r4, .ref r5, .int (iI ((rc : Nat) : Int))])), (r1, .inl ((g.2.1 1), 60, .inr (.inl rm))), (r2, .inl ((g.2.1 0), 60, .inl (nF re))), (r3, .inl ((g.2.1 0), 480, .inl ri)), (r4, .inl ((g.2.1 0), 480, .inl (nF rv))), (r5, .inl ((g.2.1 2), 40, .inl (bF rb))), (t0, .inr (7, [.ref t1, .ref t2, .ref t3, .ref t4, .int (iI ((tn : Nat) : Int))])), (t1, .inl ((g.2.1 0), 40, .inl (q1 nd))), (t2, .inl ((g.2.1 0), 40, .inl (q2 nd))), (t3, .inl ((g.2.1 0), 40, .inl (q3 nd))), (t4, .inl ((g.2.1 0), 40, .inl (q4 nd)))]) (st1 := [.int (iI (bI (vlB (nd k) (rv (((n - 1) * 8) + e)))))]) hC (k_Rc_isValueMet l g t0 t1 t2 t3 t4 tn nd k (rv (((n - 1) * 8) + e)) htn hk (hrv _)) mw_680 zs_Rc_isValueMet rfl rfl ⟨Nat.le_of_ble_eq_true rfl, Nat.le_of_ble_eq_true rfl⟩ [6, 7, 8, 9, 10] rfl rfl rfl rfl rfl (Nat.le_of_ble_eq_true rfl) d_Rc_isSimpleMet_73 rfl ⟨Nat.zero_le _, Nat.zero_le _⟩ rfl ?_
            refine z_ifeqB (tgt := 81) hC d_Rc_isSimpleMet_76 rfl (fun c_4 => ?_) (fun c_4 => ?_)
            · refine z_iincN (lv' := [(6, .int (iI ((e + 1 : Nat) : Int))), (5, .int (iI ((min (re (n - 1)) 8 : Nat) : Int))), (4, .int (iI (((n - 1) * 8 : Nat) : Int))), (0, .ref r0), (1, .ref t0), (2, .int (iI ((k : Nat) : Int))), (3, .int (iI ((n : Nat) : Int)))]) hC 1 d_Rc_isSimpleMet_81 rfl 0 rfl (by decide) rfl ?_
              refine z_goto (tgt := 36) hC d_Rc_isSimpleMet_84 rfl ?_
              exact Zloc [0, 1, 2, 3, 4, 5, 6] rfl (Z.eq (w' := [(r0, .inr (5, [.ref r1, .ref r2, .ref r3, .ref r4, .ref r5, .int (iI ((rc : Nat) : Int))])), (r1, .inl ((g.2.1 1), 60, .inr (.inl rm))), (r2, .inl ((g.2.1 0), 60, .inl (nF re))), (r3, .inl ((g.2.1 0), 480, .inl ri)), (r4, .inl ((g.2.1 0), 480, .inl (nF rv))), (r5, .inl ((g.2.1 2), 40, .inl (bF rb))), (t0, .inr (7, [.ref t1, .ref t2, .ref t3, .ref t4, .int (iI ((tn : Nat) : Int))])), (t1, .inl ((g.2.1 0), 40, .inl (q1 nd))), (t2, .inl ((g.2.1 0), 40, .inl (q2 nd))), (t3, .inl ((g.2.1 0), 40, .inl (q3 nd))), (t4, .inl ((g.2.1 0), 40, .inl (q4 nd)))]) rfl rfl rfl rfl (ih_36 (e + 1) (by omega) (lt_s hall (by first | (rw [decide_eq_false (by assumption)]; rfl) | simp_all)) (by omega)))
            · refine z_iconstN hC 1 d_Rc_isSimpleMet_79 rfl ?_
              exact Z.eq rfl rfl rfl (zb_t (by unfold smB; first | (exfalso; omega) | exact exB_no (fun j h => hall j (by omega)) | exact exB_iff.mpr ⟨e, by omega, by rw [decide_eq_true (by assumption)]; simp_all⟩)) (hR _ _ d_Rc_isSimpleMet_80)
    exact Zloc [0, 1, 2, 3, 4, 5, 6] rfl (Z.eq (w' := [(r0, .inr (5, [.ref r1, .ref r2, .ref r3, .ref r4, .ref r5, .int (iI ((rc : Nat) : Int))])), (r1, .inl ((g.2.1 1), 60, .inr (.inl rm))), (r2, .inl ((g.2.1 0), 60, .inl (nF re))), (r3, .inl ((g.2.1 0), 480, .inl ri)), (r4, .inl ((g.2.1 0), 480, .inl (nF rv))), (r5, .inl ((g.2.1 2), 40, .inl (bF rb))), (t0, .inr (7, [.ref t1, .ref t2, .ref t3, .ref t4, .int (iI ((tn : Nat) : Int))])), (t1, .inl ((g.2.1 0), 40, .inl (q1 nd))), (t2, .inl ((g.2.1 0), 40, .inl (q2 nd))), (t3, .inl ((g.2.1 0), 40, .inl (q3 nd))), (t4, .inl ((g.2.1 0), 40, .inl (q4 nd)))]) rfl rfl rfl rfl (L_36 _ 0 (by omega) (fun k h => absurd h (Nat.not_lt_zero k)) (Nat.lt_succ_self _)))
  · refine z_iconstN hC 0 d_Rc_isSimpleMet_8 rfl ?_
    exact Z.eq rfl rfl rfl (zb_f (by unfold smB; first | (exfalso; omega) | exact exB_no (fun j h => hall j (by omega)) | exact exB_iff.mpr ⟨e, by omega, by rw [decide_eq_true (by assumption)]; simp_all⟩)) (hR _ _ d_Rc_isSimpleMet_9)
set_option maxHeartbeats 4000000 in
set_option maxRecDepth 100000 in
theorem k_Rc_isMet (l : Launch) (g : ZG) (r0 r1 r2 r3 r4 r5 rc : Nat) (rm : Nat → Int64) (re : Nat → Nat) (ri : Nat → Int32) (rv : Nat → Nat) (rb : Nat → Bool) (t0 t1 t2 t3 t4 tn : Nat) (nd : Nat → QD) (n : Nat) (hrc : rc ≤ 60) (htn : tn ≤ 40) (hn : 1 ≤ n ∧ n ≤ rc) (hre : ∀ j, re j ≤ 8) (hrv : ∀ j, rv j < 100000)  (w : Nat × (Nat → Bool)) (hw : w = mtR (smB re ri rv n) nd tn (0, rb)) : Ct l g y_Rc_isMet c_Rc_isMet 6 (some .boolean) { frames := 4, cells := 0, slots := 0, locals := 91 } [.ref r0, .ref t0, .int (iI ((n : Nat) : Int))] [(r0, .inr (5, [.ref r1, .ref r2, .ref r3, .ref r4, .ref r5, .int (iI ((rc : Nat) : Int))])), (r1, .inl ((g.2.1 1), 60, .inr (.inl rm))), (r2, .inl ((g.2.1 0), 60, .inl (nF re))), (r3, .inl ((g.2.1 0), 480, .inl ri)), (r4, .inl ((g.2.1 0), 480, .inl (nF rv))), (r5, .inl ((g.2.1 2), 40, .inl (bF rb))), (t0, .inr (7, [.ref t1, .ref t2, .ref t3, .ref t4, .int (iI ((tn : Nat) : Int))])), (t1, .inl ((g.2.1 0), 40, .inl (q1 nd))), (t2, .inl ((g.2.1 0), 40, .inl (q2 nd))), (t3, .inl ((g.2.1 0), 40, .inl (q3 nd))), (t4, .inl ((g.2.1 0), 40, .inl (q4 nd)))] (some (.int (iI (bI (decide (w.1 = 1) && w.2 0))))) [(r0, .inr (5, [.ref r1, .ref r2, .ref r3, .ref r4, .ref r5, .int (iI ((rc : Nat) : Int))])), (r1, .inl ((g.2.1 1), 60, .inr (.inl rm))), (r2, .inl ((g.2.1 0), 60, .inl (nF re))), (r3, .inl ((g.2.1 0), 480, .inl ri)), (r4, .inl ((g.2.1 0), 480, .inl (nF rv))), (r5, .inl ((g.2.1 2), 40, .inl (bF w.2))), (t0, .inr (7, [.ref t1, .ref t2, .ref t3, .ref t4, .int (iI ((tn : Nat) : Int))])), (t1, .inl ((g.2.1 0), 40, .inl (q1 nd))), (t2, .inl ((g.2.1 0), 40, .inl (q2 nd))), (t3, .inl ((g.2.1 0), 40, .inl (q3 nd))), (t4, .inl ((g.2.1 0), 40, .inl (q4 nd)))] := by
  refine ct_z (lv := [(0, .ref r0), (1, .ref t0), (2, .int (iI ((n : Nat) : Int)))]) (by decide) rfl (Nat.le_of_ble_eq_true rfl) rfl ?_
  intro x hC hR
  refine z_iconstN hC 0 d_Rc_isMet_0 rfl ?_
  refine z_istore_n (lv' := [(3, .int (iI ((0 : Nat) : Int))), (0, .ref r0), (1, .ref t0), (2, .int (iI ((n : Nat) : Int)))]) hC d_Rc_isMet_1 rfl (by decide) rfl ?_
  refine z_aload_n hC d_Rc_isMet_2 rfl 2 rfl ?_
  refine z_callV (q0 := 6) (ci := 7) (w' := [(r0, .inr (5, [.ref r1, .ref r2, .ref r3, .ref r4, .ref r5, .int (iI ((rc : Nat) : Int))])), (r1, .inl ((g.2.1 1), 60, .inr (.inl rm))), (r2, .inl ((g.2.1 0), 60, .inl (nF re))), (r3, .inl ((g.2.1 0), 480, .inl ri)), (r4, .inl ((g.2.1 0), 480, .inl (nF rv))), (r5, .inl ((g.2.1 2), 40, .inl (bF rb))), (t0, .inr (7, [.ref t1, .ref t2, .ref t3, .ref t4, .int (iI ((tn : Nat) : Int))])), (t1, .inl ((g.2.1 0), 40, .inl (q1 nd))), (t2, .inl ((g.2.1 0), 40, .inl (q2 nd))), (t3, .inl ((g.2.1 0), 40, .inl (q3 nd))), (t4, .inl ((g.2.1 0), 40, .inl (q4 nd)))]) (st1 := [.int (iI ((tn : Nat) : Int))]) hC (k_Tr_size l g t0 t1 t2 t3 t4 tn nd) mw_672 zv_Tr_size rfl rfl ⟨Nat.le_of_ble_eq_true rfl, Nat.le_of_ble_eq_true rfl⟩ [6, 7, 8, 9, 10] rfl rfl rfl rfl rfl rfl rfl rfl (Nat.le_of_ble_eq_true rfl) d_Rc_isMet_3 rfl ⟨Nat.zero_le _, Nat.zero_le _⟩ rfl ?_
  refine z_iconstN hC 1 d_Rc_isMet_6 rfl ?_
  refine z_isub hC d_Rc_isMet_7 ?_
  refine z_istore (lv' := [(4, .int (iI (((tn : Nat) : Int) - ((1 : Nat) : Int)))), (3, .int (iI ((0 : Nat) : Int))), (0, .ref r0), (1, .ref t0), (2, .int (iI ((n : Nat) : Int)))]) hC d_Rc_isMet_8 (by decide) rfl ?_
  have L_10 : ∀ (fu : Nat) (i : Int) (o : Nat) (m : Nat → Bool), (-1 ≤ i ∧ i < tn) → (o ≤ 40) → (mtR (smB re ri rv n) nd (i + 1).toNat (o, m) = w) → (i + 1).toNat < fu → Z x (0, 0) [(r0, .inr (5, [.ref r1, .ref r2, .ref r3, .ref r4, .ref r5, .int (iI ((rc : Nat) : Int))])), (r1, .inl ((g.2.1 1), 60, .inr (.inl rm))), (r2, .inl ((g.2.1 0), 60, .inl (nF re))), (r3, .inl ((g.2.1 0), 480, .inl ri)), (r4, .inl ((g.2.1 0), 480, .inl (nF rv))), (r5, .inl ((g.2.1 2), 40, .inl (bF m))), (t0, .inr (7, [.ref t1, .ref t2, .ref t3, .ref t4, .int (iI ((tn : Nat) : Int))])), (t1, .inl ((g.2.1 0), 40, .inl (q1 nd))), (t2, .inl ((g.2.1 0), 40, .inl (q2 nd))), (t3, .inl ((g.2.1 0), 40, .inl (q3 nd))), (t4, .inl ((g.2.1 0), 40, .inl (q4 nd)))] 10 [(4, .int (iI i)), (3, .int (iI ((o : Nat) : Int))), (0, .ref r0), (1, .ref t0), (2, .int (iI ((n : Nat) : Int)))] [] := by
    intro fu
    induction fu with
    | zero => intro i o m hi ho hq hmu; exact absurd hmu (Nat.not_lt_zero _)
    | succ fu ih_10 =>
      intro i o m hi ho hq hmu
      refine z_iload hC d_Rc_isMet_10 0 rfl ?_
      refine z_if_lt (tgt := 108) hC i d_Rc_isMet_12 rfl (iI_t (by omega)) (fun c_1 => ?_) (fun c_1 => ?_)
      · have hz : (o, m) = w := by rw [← hq, show (i + 1).toNat = 0 by omega]; rfl
        subst hz
        refine z_iload_n hC d_Rc_isMet_108 rfl 1 rfl ?_
        refine z_iconstN hC 1 d_Rc_isMet_109 rfl ?_
        refine z_icmp_ne (tgt := 126) hC ((o : Nat) : Int) ((1 : Nat) : Int) d_Rc_isMet_110 rfl (iI_t (by omega)) (iI_t (by omega)) (fun c_2 => ?_) (fun c_2 => ?_)
        · refine z_iconstN hC 0 d_Rc_isMet_126 rfl ?_
          exact Z.eq rfl rfl rfl (zb_f (by first | (rw [Bool.and_eq_true]; exact ⟨decide_eq_true (by omega), by assumption⟩) | (rw [Bool.and_eq_false_iff]; exact Or.inl (decide_eq_false (by omega))) | (rw [Bool.and_eq_false_iff]; exact Or.inr (by assumption)))) (hR _ _ d_Rc_isMet_127)
        · refine z_aload_n hC d_Rc_isMet_113 rfl 2 rfl ?_
          refine z_get hC hi_Rc 0 rfl rfl 4 (by decide) mw_198 (Or.inl rfl) rfl d_Rc_isMet_114 ?_
          refine z_iconstN hC 0 d_Rc_isMet_117 rfl ?_
          refine z_zaldB hC 5 2 rfl rfl 0 rfl (by omega) (by decide) d_Rc_isMet_118 ?_
          refine z_ifeqB (tgt := 126) hC d_Rc_isMet_119 rfl (fun c_3 => ?_) (fun c_3 => ?_)
          · refine z_iconstN hC 0 d_Rc_isMet_126 rfl ?_
            exact Z.eq rfl rfl rfl (zb_f (by first | (rw [Bool.and_eq_true]; exact ⟨decide_eq_true (by omega), by assumption⟩) | (rw [Bool.and_eq_false_iff]; exact Or.inl (decide_eq_false (by omega))) | (rw [Bool.and_eq_false_iff]; exact Or.inr (by assumption)))) (hR _ _ d_Rc_isMet_127)
          · refine z_iconstN hC 1 d_Rc_isMet_122 rfl ?_
            refine z_goto (tgt := 127) hC d_Rc_isMet_123 rfl ?_
            exact Z.eq rfl rfl rfl (zb_t (by first | (rw [Bool.and_eq_true]; exact ⟨decide_eq_true (by omega), by assumption⟩) | (rw [Bool.and_eq_false_iff]; exact Or.inl (decide_eq_false (by omega))) | (rw [Bool.and_eq_false_iff]; exact Or.inr (by assumption)))) (hR _ _ d_Rc_isMet_127)
      · obtain ⟨j, rfl⟩ : ∃ j : Nat, i = (j : Int) := ⟨i.toNat, by omega⟩
        refine z_aload_n hC d_Rc_isMet_15 rfl 3 rfl ?_
        refine z_iload hC d_Rc_isMet_16 0 rfl ?_
        refine z_callV (q0 := 6) (ci := 7) (w' := [(r0, .inr (5, [.ref r1, .ref r2, .ref r3, .ref r4, .ref r5, .int (iI ((rc : Nat) : Int))])), (r1, .inl ((g.2.1 1), 60, .inr (.inl rm))), (r2, .inl ((g.2.1 0), 60, .inl (nF re))), (r3, .inl ((g.2.1 0), 480, .inl ri)), (r4, .inl ((g.2.1 0), 480, .inl (nF rv))), (r5, .inl ((g.2.1 2), 40, .inl (bF m))), (t0, .inr (7, [.ref t1, .ref t2, .ref t3, .ref t4, .int (iI ((tn : Nat) : Int))])), (t1, .inl ((g.2.1 0), 40, .inl (q1 nd))), (t2, .inl ((g.2.1 0), 40, .inl (q2 nd))), (t3, .inl ((g.2.1 0), 40, .inl (q3 nd))), (t4, .inl ((g.2.1 0), 40, .inl (q4 nd)))]) (st1 := [.int ((nd j).1)]) hC (k_Tr_sortAt_N l g t0 t1 t2 t3 t4 tn nd j htn (by omega)) mw_673 zv_Tr_sortAt rfl rfl ⟨Nat.le_of_ble_eq_true rfl, Nat.le_of_ble_eq_true rfl⟩ [6, 7, 8, 9, 10] rfl rfl rfl rfl rfl rfl rfl rfl (Nat.le_of_ble_eq_true rfl) d_Rc_isMet_18 rfl ⟨Nat.zero_le _, Nat.zero_le _⟩ rfl ?_
        refine z_istore (lv' := [(5, .int ((nd j).1)), (4, .int (iI ((j : Nat) : Int))), (3, .int (iI ((o : Nat) : Int))), (0, .ref r0), (1, .ref t0), (2, .int (iI ((n : Nat) : Int)))]) hC d_Rc_isMet_21 (by decide) rfl ?_
        refine z_iload hC d_Rc_isMet_23 0 rfl ?_
        refine z_iconstN hC 3 d_Rc_isMet_25 rfl ?_
        refine z_icmp_ge (tgt := 59) hC (((nd j).1 : Int32).toInt) ((3 : Nat) : Int) d_Rc_isMet_26 rfl rfl (iI_t (by omega)) (fun c_4 => ?_) (fun c_4 => ?_)
        · refine z_iload_n hC d_Rc_isMet_59 rfl 2 rfl ?_
          refine z_iconstN hC 2 d_Rc_isMet_60 rfl ?_
          refine z_icmp_lt (tgt := 102) hC ((o : Nat) : Int) ((2 : Nat) : Int) d_Rc_isMet_61 rfl (iI_t (by omega)) (iI_t (by omega)) (fun c_5 => ?_) (fun c_5 => ?_)
          · refine z_iinc (lv' := [(4, .int (iI (((j : Nat) : Int) + (-1)))), (5, .int ((nd j).1)), (3, .int (iI ((o : Nat) : Int))), (0, .ref r0), (1, .ref t0), (2, .int (iI ((n : Nat) : Int)))]) hC d_Rc_isMet_102 1 rfl (by decide) rfl ?_
            refine z_goto (tgt := 10) hC d_Rc_isMet_105 rfl ?_
            exact Zloc [0, 2, 3, 4, 5] rfl (Z.eq (w' := [(r0, .inr (5, [.ref r1, .ref r2, .ref r3, .ref r4, .ref r5, .int (iI ((rc : Nat) : Int))])), (r1, .inl ((g.2.1 1), 60, .inr (.inl rm))), (r2, .inl ((g.2.1 0), 60, .inl (nF re))), (r3, .inl ((g.2.1 0), 480, .inl ri)), (r4, .inl ((g.2.1 0), 480, .inl (nF rv))), (r5, .inl ((g.2.1 2), 40, .inl (bF m))), (t0, .inr (7, [.ref t1, .ref t2, .ref t3, .ref t4, .int (iI ((tn : Nat) : Int))])), (t1, .inl ((g.2.1 0), 40, .inl (q1 nd))), (t2, .inl ((g.2.1 0), 40, .inl (q2 nd))), (t3, .inl ((g.2.1 0), 40, .inl (q3 nd))), (t4, .inl ((g.2.1 0), 40, .inl (q4 nd)))]) rfl rfl rfl rfl (ih_10 (((j : Nat) : Int) + (-1)) o m (by omega) ho (by first | (exfalso; omega) | (rw [← hq, show (((j : Nat) : Int) + 1).toNat = j + 1 by omega, show (((j : Nat) : Int) + (-1) + 1).toNat = j by omega]; simp only [mtR]; unfold mtS; first | (rw [if_pos (by omega), if_pos (by omega)]) | (rw [if_neg (by omega), if_pos (by omega)]) | (rw [if_neg (by omega), if_neg (by omega)]) | (rw [if_pos (by omega), if_neg (by omega)]))) (by omega)))
          · refine z_iload_n hC d_Rc_isMet_64 rfl 2 rfl ?_
            refine z_bipush (a := ((40 : Nat) : Int)) hC d_Rc_isMet_65 (by decide) ?_
            refine z_icmp_gt (tgt := 102) hC ((o : Nat) : Int) ((40 : Nat) : Int) d_Rc_isMet_67 rfl (iI_t (by omega)) (iI_t (by omega)) (fun c_6 => ?_) (fun c_6 => ?_)
            · refine z_iinc (lv' := [(4, .int (iI (((j : Nat) : Int) + (-1)))), (5, .int ((nd j).1)), (3, .int (iI ((o : Nat) : Int))), (0, .ref r0), (1, .ref t0), (2, .int (iI ((n : Nat) : Int)))]) hC d_Rc_isMet_102 1 rfl (by decide) rfl ?_
              refine z_goto (tgt := 10) hC d_Rc_isMet_105 rfl ?_
              exact Zloc [0, 2, 3, 4, 5] rfl (Z.eq (w' := [(r0, .inr (5, [.ref r1, .ref r2, .ref r3, .ref r4, .ref r5, .int (iI ((rc : Nat) : Int))])), (r1, .inl ((g.2.1 1), 60, .inr (.inl rm))), (r2, .inl ((g.2.1 0), 60, .inl (nF re))), (r3, .inl ((g.2.1 0), 480, .inl ri)), (r4, .inl ((g.2.1 0), 480, .inl (nF rv))), (r5, .inl ((g.2.1 2), 40, .inl (bF m))), (t0, .inr (7, [.ref t1, .ref t2, .ref t3, .ref t4, .int (iI ((tn : Nat) : Int))])), (t1, .inl ((g.2.1 0), 40, .inl (q1 nd))), (t2, .inl ((g.2.1 0), 40, .inl (q2 nd))), (t3, .inl ((g.2.1 0), 40, .inl (q3 nd))), (t4, .inl ((g.2.1 0), 40, .inl (q4 nd)))]) rfl rfl rfl rfl (ih_10 (((j : Nat) : Int) + (-1)) o m (by omega) ho (by first | (exfalso; omega) | (rw [← hq, show (((j : Nat) : Int) + 1).toNat = j + 1 by omega, show (((j : Nat) : Int) + (-1) + 1).toNat = j by omega]; simp only [mtR]; unfold mtS; first | (rw [if_pos (by omega), if_pos (by omega)]) | (rw [if_neg (by omega), if_pos (by omega)]) | (rw [if_neg (by omega), if_neg (by omega)]) | (rw [if_pos (by omega), if_neg (by omega)]))) (by omega)))
            · refine z_aload_n hC d_Rc_isMet_70 rfl 3 rfl ?_
              refine z_get hC hi_Rc 0 rfl rfl 4 (by decide) mw_198 (Or.inl rfl) rfl d_Rc_isMet_71 ?_
              refine z_iload_n hC d_Rc_isMet_74 rfl 2 rfl ?_
              refine z_iconstN hC 2 d_Rc_isMet_75 rfl ?_
              refine z_isubN hC d_Rc_isMet_76 (by omega) ?_
              refine z_iload hC d_Rc_isMet_77 0 rfl ?_
              refine z_aload_n hC d_Rc_isMet_79 rfl 3 rfl ?_
              refine z_get hC hi_Rc 0 rfl rfl 4 (by decide) mw_198 (Or.inl rfl) rfl d_Rc_isMet_80 ?_
              refine z_iload_n hC d_Rc_isMet_83 rfl 2 rfl ?_
              refine z_iconstN hC 1 d_Rc_isMet_84 rfl ?_
              refine z_isubN hC d_Rc_isMet_85 (by omega) ?_
              refine z_zaldB hC 5 2 rfl rfl (o - 1) rfl (by omega) (by decide) d_Rc_isMet_86 ?_
              refine z_aload_n hC d_Rc_isMet_87 rfl 3 rfl ?_
              refine z_get hC hi_Rc 0 rfl rfl 4 (by decide) mw_198 (Or.inl rfl) rfl d_Rc_isMet_88 ?_
              refine z_iload_n hC d_Rc_isMet_91 rfl 2 rfl ?_
              refine z_iconstN hC 2 d_Rc_isMet_92 rfl ?_
              refine z_isubN hC d_Rc_isMet_93 (by omega) ?_
              refine z_zaldB hC 5 2 rfl rfl (o - 2) rfl (by omega) (by decide) d_Rc_isMet_94 ?_
              refine z_callS (w' := [(r0, .inr (5, [.ref r1, .ref r2, .ref r3, .ref r4, .ref r5, .int (iI ((rc : Nat) : Int))])), (r1, .inl ((g.2.1 1), 60, .inr (.inl rm))), (r2, .inl ((g.2.1 0), 60, .inl (nF re))), (r3, .inl ((g.2.1 0), 480, .inl ri)), (r4, .inl ((g.2.1 0), 480, .inl (nF rv))), (r5, .inl ((g.2.1 2), 40, .inl (bF m))), (t0, .inr (7, [.ref t1, .ref t2, .ref t3, .ref t4, .int (iI ((tn : Nat) : Int))])), (t1, .inl ((g.2.1 0), 40, .inl (q1 nd))), (t2, .inl ((g.2.1 0), 40, .inl (q2 nd))), (t3, .inl ((g.2.1 0), 40, .inl (q3 nd))), (t4, .inl ((g.2.1 0), 40, .inl (q4 nd)))]) (st1 := [.int (iI (bI (jnB ((nd j).1).toInt (m (o - 1)) (m (o - 2))))), .int (iI ((o - 2 : Nat) : Int)), .ref r5]) hC (k_Rc_isJoinedMet l g ((nd j).1) (m (o - 1)) (m (o - 2))) mw_688 zs_Rc_isJoinedMet rfl rfl ⟨Nat.le_of_ble_eq_true rfl, Nat.le_of_ble_eq_true rfl⟩ [] rfl rfl rfl rfl rfl (Nat.le_of_ble_eq_true rfl) d_Rc_isMet_95 rfl ⟨Nat.zero_le _, Nat.zero_le _⟩ rfl ?_
              refine z_zastB (v := jnB ((nd j).1).toInt (m (o - 1)) (m (o - 2))) (w' := [(r0, .inr (5, [.ref r1, .ref r2, .ref r3, .ref r4, .ref r5, .int (iI ((rc : Nat) : Int))])), (r1, .inl ((g.2.1 1), 60, .inr (.inl rm))), (r2, .inl ((g.2.1 0), 60, .inl (nF re))), (r3, .inl ((g.2.1 0), 480, .inl ri)), (r4, .inl ((g.2.1 0), 480, .inl (nF rv))), (r5, .inl ((g.2.1 2), 40, .inl (bF (up m (o - 2) (jnB ((nd j).1).toInt (m (o - 1)) (m (o - 2))))))), (t0, .inr (7, [.ref t1, .ref t2, .ref t3, .ref t4, .int (iI ((tn : Nat) : Int))])), (t1, .inl ((g.2.1 0), 40, .inl (q1 nd))), (t2, .inl ((g.2.1 0), 40, .inl (q2 nd))), (t3, .inl ((g.2.1 0), 40, .inl (q3 nd))), (t4, .inl ((g.2.1 0), 40, .inl (q4 nd)))]) hC 5 2 rfl rfl (o - 2) rfl (by omega) (by decide) rfl d_Rc_isMet_98 ?_
              refine z_idecN (lv' := [(3, .int (iI ((o - 1 : Nat) : Int))), (5, .int ((nd j).1)), (4, .int (iI ((j : Nat) : Int))), (0, .ref r0), (1, .ref t0), (2, .int (iI ((n : Nat) : Int)))]) hC d_Rc_isMet_99 2 rfl (by omega) (by decide) rfl ?_
              refine z_iinc (lv' := [(4, .int (iI (((j : Nat) : Int) + (-1)))), (3, .int (iI ((o - 1 : Nat) : Int))), (5, .int ((nd j).1)), (0, .ref r0), (1, .ref t0), (2, .int (iI ((n : Nat) : Int)))]) hC d_Rc_isMet_102 2 rfl (by decide) rfl ?_
              refine z_goto (tgt := 10) hC d_Rc_isMet_105 rfl ?_
              exact Zloc [0, 1, 3, 4, 5] rfl (Z.eq (w' := [(r0, .inr (5, [.ref r1, .ref r2, .ref r3, .ref r4, .ref r5, .int (iI ((rc : Nat) : Int))])), (r1, .inl ((g.2.1 1), 60, .inr (.inl rm))), (r2, .inl ((g.2.1 0), 60, .inl (nF re))), (r3, .inl ((g.2.1 0), 480, .inl ri)), (r4, .inl ((g.2.1 0), 480, .inl (nF rv))), (r5, .inl ((g.2.1 2), 40, .inl (bF (up m (o - 2) (jnB ((nd j).1).toInt (m (o - 1)) (m (o - 2))))))), (t0, .inr (7, [.ref t1, .ref t2, .ref t3, .ref t4, .int (iI ((tn : Nat) : Int))])), (t1, .inl ((g.2.1 0), 40, .inl (q1 nd))), (t2, .inl ((g.2.1 0), 40, .inl (q2 nd))), (t3, .inl ((g.2.1 0), 40, .inl (q3 nd))), (t4, .inl ((g.2.1 0), 40, .inl (q4 nd)))]) rfl rfl rfl rfl (ih_10 (((j : Nat) : Int) + (-1)) (o - 1) (up m (o - 2) (jnB ((nd j).1).toInt (m (o - 1)) (m (o - 2)))) (by omega) (by omega) (by first | (exfalso; omega) | (rw [← hq, show (((j : Nat) : Int) + 1).toNat = j + 1 by omega, show (((j : Nat) : Int) + (-1) + 1).toNat = j by omega]; simp only [mtR]; unfold mtS; first | (rw [if_pos (by omega), if_pos (by omega)]) | (rw [if_neg (by omega), if_pos (by omega)]) | (rw [if_neg (by omega), if_neg (by omega)]) | (rw [if_pos (by omega), if_neg (by omega)]))) (by omega)))
        · refine z_iload_n hC d_Rc_isMet_29 rfl 2 rfl ?_
          refine z_if_lt (tgt := 102) hC ((o : Nat) : Int) d_Rc_isMet_30 rfl (iI_t (by omega)) (fun c_7 => ?_) (fun c_7 => ?_)
          · refine z_iinc (lv' := [(4, .int (iI (((j : Nat) : Int) + (-1)))), (5, .int ((nd j).1)), (3, .int (iI ((o : Nat) : Int))), (0, .ref r0), (1, .ref t0), (2, .int (iI ((n : Nat) : Int)))]) hC d_Rc_isMet_102 1 rfl (by decide) rfl ?_
            refine z_goto (tgt := 10) hC d_Rc_isMet_105 rfl ?_
            exact Zloc [0, 2, 3, 4, 5] rfl (Z.eq (w' := [(r0, .inr (5, [.ref r1, .ref r2, .ref r3, .ref r4, .ref r5, .int (iI ((rc : Nat) : Int))])), (r1, .inl ((g.2.1 1), 60, .inr (.inl rm))), (r2, .inl ((g.2.1 0), 60, .inl (nF re))), (r3, .inl ((g.2.1 0), 480, .inl ri)), (r4, .inl ((g.2.1 0), 480, .inl (nF rv))), (r5, .inl ((g.2.1 2), 40, .inl (bF m))), (t0, .inr (7, [.ref t1, .ref t2, .ref t3, .ref t4, .int (iI ((tn : Nat) : Int))])), (t1, .inl ((g.2.1 0), 40, .inl (q1 nd))), (t2, .inl ((g.2.1 0), 40, .inl (q2 nd))), (t3, .inl ((g.2.1 0), 40, .inl (q3 nd))), (t4, .inl ((g.2.1 0), 40, .inl (q4 nd)))]) rfl rfl rfl rfl (ih_10 (((j : Nat) : Int) + (-1)) o m (by omega) ho (by first | (exfalso; omega) | (rw [← hq, show (((j : Nat) : Int) + 1).toNat = j + 1 by omega, show (((j : Nat) : Int) + (-1) + 1).toNat = j by omega]; simp only [mtR]; unfold mtS; first | (rw [if_pos (by omega), if_pos (by omega)]) | (rw [if_neg (by omega), if_pos (by omega)]) | (rw [if_neg (by omega), if_neg (by omega)]) | (rw [if_pos (by omega), if_neg (by omega)]))) (by omega)))
          · refine z_iload_n hC d_Rc_isMet_33 rfl 2 rfl ?_
            refine z_bipush (a := ((40 : Nat) : Int)) hC d_Rc_isMet_34 (by decide) ?_
            refine z_icmp_ge (tgt := 102) hC ((o : Nat) : Int) ((40 : Nat) : Int) d_Rc_isMet_36 rfl (iI_t (by omega)) (iI_t (by omega)) (fun c_8 => ?_) (fun c_8 => ?_)
            · refine z_iinc (lv' := [(4, .int (iI (((j : Nat) : Int) + (-1)))), (5, .int ((nd j).1)), (3, .int (iI ((o : Nat) : Int))), (0, .ref r0), (1, .ref t0), (2, .int (iI ((n : Nat) : Int)))]) hC d_Rc_isMet_102 1 rfl (by decide) rfl ?_
              refine z_goto (tgt := 10) hC d_Rc_isMet_105 rfl ?_
              exact Zloc [0, 2, 3, 4, 5] rfl (Z.eq (w' := [(r0, .inr (5, [.ref r1, .ref r2, .ref r3, .ref r4, .ref r5, .int (iI ((rc : Nat) : Int))])), (r1, .inl ((g.2.1 1), 60, .inr (.inl rm))), (r2, .inl ((g.2.1 0), 60, .inl (nF re))), (r3, .inl ((g.2.1 0), 480, .inl ri)), (r4, .inl ((g.2.1 0), 480, .inl (nF rv))), (r5, .inl ((g.2.1 2), 40, .inl (bF m))), (t0, .inr (7, [.ref t1, .ref t2, .ref t3, .ref t4, .int (iI ((tn : Nat) : Int))])), (t1, .inl ((g.2.1 0), 40, .inl (q1 nd))), (t2, .inl ((g.2.1 0), 40, .inl (q2 nd))), (t3, .inl ((g.2.1 0), 40, .inl (q3 nd))), (t4, .inl ((g.2.1 0), 40, .inl (q4 nd)))]) rfl rfl rfl rfl (ih_10 (((j : Nat) : Int) + (-1)) o m (by omega) ho (by first | (exfalso; omega) | (rw [← hq, show (((j : Nat) : Int) + 1).toNat = j + 1 by omega, show (((j : Nat) : Int) + (-1) + 1).toNat = j by omega]; simp only [mtR]; unfold mtS; first | (rw [if_pos (by omega), if_pos (by omega)]) | (rw [if_neg (by omega), if_pos (by omega)]) | (rw [if_neg (by omega), if_neg (by omega)]) | (rw [if_pos (by omega), if_neg (by omega)]))) (by omega)))
            · refine z_aload_n hC d_Rc_isMet_39 rfl 3 rfl ?_
              refine z_get hC hi_Rc 0 rfl rfl 4 (by decide) mw_198 (Or.inl rfl) rfl d_Rc_isMet_40 ?_
              refine z_iload_n hC d_Rc_isMet_43 rfl 2 rfl ?_
              refine z_aload_n hC d_Rc_isMet_44 rfl 3 rfl ?_
              refine z_aload_n hC d_Rc_isMet_45 rfl 4 rfl ?_
              refine z_iload hC d_Rc_isMet_46 1 rfl ?_
              refine z_iload_n hC d_Rc_isMet_48 rfl 5 rfl ?_
              refine z_callV (q0 := 0) (ci := 5) (w' := [(r0, .inr (5, [.ref r1, .ref r2, .ref r3, .ref r4, .ref r5, .int (iI ((rc : Nat) : Int))])), (r1, .inl ((g.2.1 1), 60, .inr (.inl rm))), (r2, .inl ((g.2.1 0), 60, .inl (nF re))), (r3, .inl ((g.2.1 0), 480, .inl ri)), (r4, .inl ((g.2.1 0), 480, .inl (nF rv))), (r5, .inl ((g.2.1 2), 40, .inl (bF m))), (t0, .inr (7, [.ref t1, .ref t2, .ref t3, .ref t4, .int (iI ((tn : Nat) : Int))])), (t1, .inl ((g.2.1 0), 40, .inl (q1 nd))), (t2, .inl ((g.2.1 0), 40, .inl (q2 nd))), (t3, .inl ((g.2.1 0), 40, .inl (q3 nd))), (t4, .inl ((g.2.1 0), 40, .inl (q4 nd)))]) (st1 := [.int (iI (bI (smB re ri rv n (nd j)))), .int (iI ((o : Nat) : Int)), .ref r5]) hC (k_Rc_isSimpleMet l g r0 r1 r2 r3 r4 r5 rc rm re ri rv m t0 t1 t2 t3 t4 tn nd j n hrc htn (by omega) hn hre hrv) mw_674 zv_Rc_isSimpleMet rfl rfl ⟨Nat.le_of_ble_eq_true rfl, Nat.le_of_ble_eq_true rfl⟩ [0, 1, 2, 3, 4, 5, 6, 7, 8, 9, 10] rfl rfl rfl rfl rfl rfl rfl rfl (Nat.le_of_ble_eq_true rfl) d_Rc_isMet_49 rfl ⟨Nat.zero_le _, Nat.zero_le _⟩ rfl ?_
              refine z_zastB (v := smB re ri rv n (nd j)) (w' := [(r0, .inr (5, [.ref r1, .ref r2, .ref r3, .ref r4, .ref r5, .int (iI ((rc : Nat) : Int))])), (r1, .inl ((g.2.1 1), 60, .inr (.inl rm))), (r2, .inl ((g.2.1 0), 60, .inl (nF re))), (r3, .inl ((g.2.1 0), 480, .inl ri)), (r4, .inl ((g.2.1 0), 480, .inl (nF rv))), (r5, .inl ((g.2.1 2), 40, .inl (bF (up m o (smB re ri rv n (nd j)))))), (t0, .inr (7, [.ref t1, .ref t2, .ref t3, .ref t4, .int (iI ((tn : Nat) : Int))])), (t1, .inl ((g.2.1 0), 40, .inl (q1 nd))), (t2, .inl ((g.2.1 0), 40, .inl (q2 nd))), (t3, .inl ((g.2.1 0), 40, .inl (q3 nd))), (t4, .inl ((g.2.1 0), 40, .inl (q4 nd)))]) hC 5 2 rfl rfl o rfl (by omega) (by decide) rfl d_Rc_isMet_52 ?_
              refine z_iincN (lv' := [(3, .int (iI ((o + 1 : Nat) : Int))), (5, .int ((nd j).1)), (4, .int (iI ((j : Nat) : Int))), (0, .ref r0), (1, .ref t0), (2, .int (iI ((n : Nat) : Int)))]) hC 1 d_Rc_isMet_53 rfl 2 rfl (by decide) rfl ?_
              refine z_goto (tgt := 102) hC d_Rc_isMet_56 rfl ?_
              refine z_iinc (lv' := [(4, .int (iI (((j : Nat) : Int) + (-1)))), (3, .int (iI ((o + 1 : Nat) : Int))), (5, .int ((nd j).1)), (0, .ref r0), (1, .ref t0), (2, .int (iI ((n : Nat) : Int)))]) hC d_Rc_isMet_102 2 rfl (by decide) rfl ?_
              refine z_goto (tgt := 10) hC d_Rc_isMet_105 rfl ?_
              exact Zloc [0, 1, 3, 4, 5] rfl (Z.eq (w' := [(r0, .inr (5, [.ref r1, .ref r2, .ref r3, .ref r4, .ref r5, .int (iI ((rc : Nat) : Int))])), (r1, .inl ((g.2.1 1), 60, .inr (.inl rm))), (r2, .inl ((g.2.1 0), 60, .inl (nF re))), (r3, .inl ((g.2.1 0), 480, .inl ri)), (r4, .inl ((g.2.1 0), 480, .inl (nF rv))), (r5, .inl ((g.2.1 2), 40, .inl (bF (up m o (smB re ri rv n (nd j)))))), (t0, .inr (7, [.ref t1, .ref t2, .ref t3, .ref t4, .int (iI ((tn : Nat) : Int))])), (t1, .inl ((g.2.1 0), 40, .inl (q1 nd))), (t2, .inl ((g.2.1 0), 40, .inl (q2 nd))), (t3, .inl ((g.2.1 0), 40, .inl (q3 nd))), (t4, .inl ((g.2.1 0), 40, .inl (q4 nd)))]) rfl rfl rfl rfl (ih_10 (((j : Nat) : Int) + (-1)) (o + 1) (up m o (smB re ri rv n (nd j))) (by omega) (by omega) (by first | (exfalso; omega) | (rw [← hq, show (((j : Nat) : Int) + 1).toNat = j + 1 by omega, show (((j : Nat) : Int) + (-1) + 1).toNat = j by omega]; simp only [mtR]; unfold mtS; first | (rw [if_pos (by omega), if_pos (by omega)]) | (rw [if_neg (by omega), if_pos (by omega)]) | (rw [if_neg (by omega), if_neg (by omega)]) | (rw [if_pos (by omega), if_neg (by omega)]))) (by omega)))
  exact Zloc [0, 1, 2, 3, 4] rfl (Z.eq (w' := [(r0, .inr (5, [.ref r1, .ref r2, .ref r3, .ref r4, .ref r5, .int (iI ((rc : Nat) : Int))])), (r1, .inl ((g.2.1 1), 60, .inr (.inl rm))), (r2, .inl ((g.2.1 0), 60, .inl (nF re))), (r3, .inl ((g.2.1 0), 480, .inl ri)), (r4, .inl ((g.2.1 0), 480, .inl (nF rv))), (r5, .inl ((g.2.1 2), 40, .inl (bF rb))), (t0, .inr (7, [.ref t1, .ref t2, .ref t3, .ref t4, .int (iI ((tn : Nat) : Int))])), (t1, .inl ((g.2.1 0), 40, .inl (q1 nd))), (t2, .inl ((g.2.1 0), 40, .inl (q2 nd))), (t3, .inl ((g.2.1 0), 40, .inl (q3 nd))), (t4, .inl ((g.2.1 0), 40, .inl (q4 nd)))]) rfl rfl rfl rfl (L_10 _ (((tn : Nat) : Int) - ((1 : Nat) : Int)) 0 rb (by omega) (by omega) (by rw [hw, show (((tn : Nat) : Int) - ((1 : Nat) : Int) + 1).toNat = tn by omega]) (Nat.lt_succ_self _)))
