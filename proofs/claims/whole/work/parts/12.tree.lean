/-! ===== trees: what they hold ===== -/
abbrev QD : Type := Int32 × Int32 × Int32 × Int32
def q1 (nd : Nat → QD) : Nat → Int32 := fun k => (nd k).1
def q2 (nd : Nat → QD) : Nat → Int32 := fun k => (nd k).2.1
def q3 (nd : Nat → QD) : Nat → Int32 := fun k => (nd k).2.2.1
def q4 (nd : Nat → QD) : Nat → Int32 := fun k => (nd k).2.2.2
def qN : QD := (iI (-1), iI (-1), iI (-1), iI (-1))
def tA (n : Nat) (nd : Nat → QD) (i : Int) : QD := if 0 ≤ i ∧ i < n then nd i.toNat else qN
theorem q1_up (nd : Nat → QD) (k : Nat) (a b c d : Int32) : upd (q1 nd) k a = q1 (up nd k (a, b, c, d)) := by
  funext j
  unfold upd q1 up
  by_cases e : j = k <;> simp [e]
theorem q2_up (nd : Nat → QD) (k : Nat) (a b c d : Int32) : upd (q2 nd) k b = q2 (up nd k (a, b, c, d)) := by
  funext j
  unfold upd q2 up
  by_cases e : j = k <;> simp [e]
theorem q3_up (nd : Nat → QD) (k : Nat) (a b c d : Int32) : upd (q3 nd) k c = q3 (up nd k (a, b, c, d)) := by
  funext j
  unfold upd q3 up
  by_cases e : j = k <;> simp [e]
theorem q4_up (nd : Nat → QD) (k : Nat) (a b c d : Int32) : upd (q4 nd) k d = q4 (up nd k (a, b, c, d)) := by
  funext j
  unfold upd q4 up
  by_cases e : j = k <;> simp [e]
def allB (P : Nat → Bool) : Nat → Bool
  | 0 => true
  | n + 1 => allB P n && P n
theorem allB_iff {P : Nat → Bool} : ∀ {n : Nat}, allB P n = true ↔ ∀ k, k < n → P k = true
  | 0 => ⟨fun _ k h => absurd h (Nat.not_lt_zero k), fun _ => rfl⟩
  | n + 1 => by
    simp only [allB, Bool.and_eq_true]
    rw [allB_iff (n := n)]
    constructor
    · intro h k hk
      by_cases e : k = n
      · rw [e]; exact h.2
      · exact h.1 k (by omega)
    · intro h
      exact ⟨fun k hk => h k (by omega), h n (by omega)⟩
theorem allB_no {P : Nat → Bool} {n k : Nat} (hk : k < n) (h : P k = false) : allB P n = false := by
  cases e : allB P n with
  | false => rfl
  | true => have := allB_iff.mp e k hk; rw [h] at this; cases this
def exB (P : Nat → Bool) : Nat → Bool
  | 0 => false
  | n + 1 => exB P n || P n
theorem exB_iff {P : Nat → Bool} : ∀ {n : Nat}, exB P n = true ↔ ∃ k, k < n ∧ P k = true
  | 0 => ⟨fun h => absurd h (by simp [exB]), fun ⟨k, h, _⟩ => absurd h (Nat.not_lt_zero k)⟩
  | n + 1 => by
    simp only [exB, Bool.or_eq_true]
    rw [exB_iff (n := n)]
    constructor
    · rintro (⟨k, h1, h2⟩ | h)
      · exact ⟨k, by omega, h2⟩
      · exact ⟨n, by omega, h⟩
    · rintro ⟨k, h1, h2⟩
      by_cases e : k = n
      · rw [e] at h2; exact Or.inr h2
      · exact Or.inl ⟨k, by omega, h2⟩
theorem exB_no {P : Nat → Bool} {n : Nat} (h : ∀ k, k < n → P k = false) : exB P n = false := by
  cases e : exB P n with
  | false => rfl
  | true => obtain ⟨k, h1, h2⟩ := exB_iff.mp e; rw [h k h1] at h2; cases h2
/-- a node put in front at a place -/
def insN (nd : Nat → QD) (n p : Nat) (q : QD) : Nat → QD := fun k => if k = p then q else if p < k ∧ k ≤ n then nd (k - 1) else nd k
def cpN (nd od : Nat → QD) (n : Nat) : Nat → QD := fun k => if k < n then od k else nd k
theorem ins_go {nd m : Nat → QD} {n i : Nat} (h1 : 1 ≤ i) (h : ∀ k, m k = if i < k ∧ k ≤ n then nd (k - 1) else nd k) (hi : i ≤ n) : ∀ k, up m i (m (i - 1)) k = if i - 1 < k ∧ k ≤ n then nd (k - 1) else nd k := by
  intro k
  unfold up
  by_cases e : k = i
  · subst e
    rw [if_pos rfl, h, if_neg (by omega), if_pos (by omega)]
  · rw [if_neg e, h]
    by_cases c : i < k ∧ k ≤ n
    · rw [if_pos c, if_pos (by omega)]
    · rw [if_neg c, if_neg (by omega)]
theorem ins_end {nd m : Nat → QD} {n i p : Nat} (h : ∀ k, m k = if i < k ∧ k ≤ n then nd (k - 1) else nd k) (e : i = p) (q : QD) : up m p q = insN nd n p q := by
  funext k
  unfold up insN
  rw [h, e]
theorem cp_go {nd od m : Nat → QD} {i : Nat} (h : ∀ k, m k = if k < i then od k else nd k) : ∀ k, up m i (od i) k = if k < i + 1 then od k else nd k := by
  intro k
  unfold up
  by_cases e : k = i
  · subst e
    rw [if_pos rfl, if_pos (by omega)]
  · rw [if_neg e, h]
    by_cases c : k < i
    · rw [if_pos c, if_pos (by omega)]
    · rw [if_neg c, if_neg (by omega)]
theorem qd_eta (q : QD) : (q.1, q.2.1, q.2.2.1, q.2.2.2) = q := rfl
set_option maxHeartbeats 4000000 in
set_option maxRecDepth 100000 in
theorem k_Tr_clear (l : Launch) (g : ZG) (t0 t1 t2 t3 t4 tn : Nat) (nd : Nat → QD)    : Ct l g y_Tr_clear c_Tr_clear 1 none { frames := 0, cells := 0, slots := 0, locals := 0 } [.ref t0] [(t0, .inr (7, [.ref t1, .ref t2, .ref t3, .ref t4, .int (iI ((tn : Nat) : Int))])), (t1, .inl ((g.2.1 0), 40, .inl (q1 nd))), (t2, .inl ((g.2.1 0), 40, .inl (q2 nd))), (t3, .inl ((g.2.1 0), 40, .inl (q3 nd))), (t4, .inl ((g.2.1 0), 40, .inl (q4 nd)))] none [(t0, .inr (7, [.ref t1, .ref t2, .ref t3, .ref t4, .int (iI ((0 : Nat) : Int))])), (t1, .inl ((g.2.1 0), 40, .inl (q1 nd))), (t2, .inl ((g.2.1 0), 40, .inl (q2 nd))), (t3, .inl ((g.2.1 0), 40, .inl (q3 nd))), (t4, .inl ((g.2.1 0), 40, .inl (q4 nd)))] := by
  refine ct_v (lv := [(0, .ref t0)]) (by decide) rfl (Nat.le_of_ble_eq_true rfl) rfl ?_
  intro x hC hR
  refine z_aload_n hC d_Tr_clear_0 rfl 0 rfl ?_
  refine z_iconstN hC 0 d_Tr_clear_1 rfl ?_
  refine z_put (v := .int (iI ((0 : Nat) : Int))) (ty := .int) (w' := [(t0, .inr (7, [.ref t1, .ref t2, .ref t3, .ref t4, .int (iI ((0 : Nat) : Int))])), (t1, .inl ((g.2.1 0), 40, .inl (q1 nd))), (t2, .inl ((g.2.1 0), 40, .inl (q2 nd))), (t3, .inl ((g.2.1 0), 40, .inl (q3 nd))), (t4, .inl ((g.2.1 0), 40, .inl (q4 nd)))]) hC hi_Tr ty_Tr ok_Tr nm_Tr 0 rfl rfl 4 (by decide) mw_135 rfl rfl rfl rfl rfl (Nat.le_of_ble_eq_true rfl) rfl d_Tr_clear_2 ?_
  exact Z.eq rfl rfl rfl rfl (hR _ _ d_Tr_clear_5)
set_option maxHeartbeats 4000000 in
set_option maxRecDepth 100000 in
theorem k_Tr_size (l : Launch) (g : ZG) (t0 t1 t2 t3 t4 tn : Nat) (nd : Nat → QD)    : Ct l g y_Tr_size c_Tr_size 1 (some .int) { frames := 0, cells := 0, slots := 0, locals := 0 } [.ref t0] [(t0, .inr (7, [.ref t1, .ref t2, .ref t3, .ref t4, .int (iI ((tn : Nat) : Int))])), (t1, .inl ((g.2.1 0), 40, .inl (q1 nd))), (t2, .inl ((g.2.1 0), 40, .inl (q2 nd))), (t3, .inl ((g.2.1 0), 40, .inl (q3 nd))), (t4, .inl ((g.2.1 0), 40, .inl (q4 nd)))] (some (.int (iI ((tn : Nat) : Int)))) [(t0, .inr (7, [.ref t1, .ref t2, .ref t3, .ref t4, .int (iI ((tn : Nat) : Int))])), (t1, .inl ((g.2.1 0), 40, .inl (q1 nd))), (t2, .inl ((g.2.1 0), 40, .inl (q2 nd))), (t3, .inl ((g.2.1 0), 40, .inl (q3 nd))), (t4, .inl ((g.2.1 0), 40, .inl (q4 nd)))] := by
  refine ct_i (lv := [(0, .ref t0)]) (by decide) rfl (Nat.le_of_ble_eq_true rfl) rfl ?_
  intro x hC hR
  refine z_aload_n hC d_Tr_size_0 rfl 0 rfl ?_
  refine z_get hC hi_Tr 0 rfl rfl 4 (by decide) mw_135 (Or.inl rfl) rfl d_Tr_size_1 ?_
  exact Z.eq rfl rfl rfl rfl (hR _ _ d_Tr_size_4)
set_option maxHeartbeats 4000000 in
set_option maxRecDepth 100000 in
theorem k_Tr_isFull (l : Launch) (g : ZG) (t0 t1 t2 t3 t4 tn : Nat) (nd : Nat → QD) (htn : tn ≤ 40)   : Ct l g y_Tr_isFull c_Tr_isFull 1 (some .boolean) { frames := 0, cells := 0, slots := 0, locals := 0 } [.ref t0] [(t0, .inr (7, [.ref t1, .ref t2, .ref t3, .ref t4, .int (iI ((tn : Nat) : Int))])), (t1, .inl ((g.2.1 0), 40, .inl (q1 nd))), (t2, .inl ((g.2.1 0), 40, .inl (q2 nd))), (t3, .inl ((g.2.1 0), 40, .inl (q3 nd))), (t4, .inl ((g.2.1 0), 40, .inl (q4 nd)))] (some (.int (iI (bI (decide (40 ≤ tn)))))) [(t0, .inr (7, [.ref t1, .ref t2, .ref t3, .ref t4, .int (iI ((tn : Nat) : Int))])), (t1, .inl ((g.2.1 0), 40, .inl (q1 nd))), (t2, .inl ((g.2.1 0), 40, .inl (q2 nd))), (t3, .inl ((g.2.1 0), 40, .inl (q3 nd))), (t4, .inl ((g.2.1 0), 40, .inl (q4 nd)))] := by
  refine ct_z (lv := [(0, .ref t0)]) (by decide) rfl (Nat.le_of_ble_eq_true rfl) rfl ?_
  intro x hC hR
  refine z_aload_n hC d_Tr_isFull_0 rfl 0 rfl ?_
  refine z_get hC hi_Tr 0 rfl rfl 4 (by decide) mw_135 (Or.inl rfl) rfl d_Tr_isFull_1 ?_
  refine z_if_lt (tgt := 16) hC ((tn : Nat) : Int) d_Tr_isFull_4 rfl (iI_t (by omega)) (fun c_1 => ?_) (fun c_1 => ?_)
  · refine z_iconstN hC 1 d_Tr_isFull_16 rfl ?_
    refine z_goto (tgt := 21) hC d_Tr_isFull_17 rfl ?_
    exact Z.eq rfl rfl rfl (zb_t (decide_eq_true (by omega))) (hR _ _ d_Tr_isFull_21)
  · refine z_aload_n hC d_Tr_isFull_7 rfl 0 rfl ?_
    refine z_get hC hi_Tr 0 rfl rfl 4 (by decide) mw_135 (Or.inl rfl) rfl d_Tr_isFull_8 ?_
    refine z_bipush (a := ((40 : Nat) : Int)) hC d_Tr_isFull_11 (by decide) ?_
    refine z_icmp_lt (tgt := 20) hC ((tn : Nat) : Int) ((40 : Nat) : Int) d_Tr_isFull_13 rfl (iI_t (by omega)) (iI_t (by omega)) (fun c_2 => ?_) (fun c_2 => ?_)
    · refine z_iconstN hC 0 d_Tr_isFull_20 rfl ?_
      exact Z.eq rfl rfl rfl (zb_f (decide_eq_false (by omega))) (hR _ _ d_Tr_isFull_21)
    · refine z_iconstN hC 1 d_Tr_isFull_16 rfl ?_
      refine z_goto (tgt := 21) hC d_Tr_isFull_17 rfl ?_
      exact Z.eq rfl rfl rfl (zb_t (decide_eq_true (by omega))) (hR _ _ d_Tr_isFull_21)
set_option maxHeartbeats 4000000 in
set_option maxRecDepth 100000 in
theorem k_Tr_has (l : Launch) (g : ZG) (t0 t1 t2 t3 t4 tn : Nat) (nd : Nat → QD) (i : Int) (htn : tn ≤ 40) (hi : -2147483648 ≤ i ∧ i < 2147483648)   : Ct l g y_Tr_has c_Tr_has 2 (some .boolean) { frames := 0, cells := 0, slots := 0, locals := 0 } [.ref t0, .int (iI i)] [(t0, .inr (7, [.ref t1, .ref t2, .ref t3, .ref t4, .int (iI ((tn : Nat) : Int))])), (t1, .inl ((g.2.1 0), 40, .inl (q1 nd))), (t2, .inl ((g.2.1 0), 40, .inl (q2 nd))), (t3, .inl ((g.2.1 0), 40, .inl (q3 nd))), (t4, .inl ((g.2.1 0), 40, .inl (q4 nd)))] (some (.int (iI (bI (decide (0 ≤ i ∧ i < tn)))))) [(t0, .inr (7, [.ref t1, .ref t2, .ref t3, .ref t4, .int (iI ((tn : Nat) : Int))])), (t1, .inl ((g.2.1 0), 40, .inl (q1 nd))), (t2, .inl ((g.2.1 0), 40, .inl (q2 nd))), (t3, .inl ((g.2.1 0), 40, .inl (q3 nd))), (t4, .inl ((g.2.1 0), 40, .inl (q4 nd)))] := by
  refine ct_z (lv := [(0, .ref t0), (1, .int (iI i))]) (by decide) rfl (Nat.le_of_ble_eq_true rfl) rfl ?_
  intro x hC hR
  refine z_iload_n hC d_Tr_has_0 rfl 1 rfl ?_
  refine z_if_lt (tgt := 22) hC i d_Tr_has_1 rfl (iI_t (by omega)) (fun c_1 => ?_) (fun c_1 => ?_)
  · refine z_iconstN hC 0 d_Tr_has_22 rfl ?_
    exact Z.eq rfl rfl rfl (zb_f (decide_eq_false (by omega))) (hR _ _ d_Tr_has_23)
  · refine z_iload_n hC d_Tr_has_4 rfl 1 rfl ?_
    refine z_aload_n hC d_Tr_has_5 rfl 0 rfl ?_
    refine z_get hC hi_Tr 0 rfl rfl 4 (by decide) mw_135 (Or.inl rfl) rfl d_Tr_has_6 ?_
    refine z_icmp_ge (tgt := 22) hC i ((tn : Nat) : Int) d_Tr_has_9 rfl (iI_t (by omega)) (iI_t (by omega)) (fun c_2 => ?_) (fun c_2 => ?_)
    · refine z_iconstN hC 0 d_Tr_has_22 rfl ?_
      exact Z.eq rfl rfl rfl (zb_f (decide_eq_false (by omega))) (hR _ _ d_Tr_has_23)
    · refine z_iload_n hC d_Tr_has_12 rfl 1 rfl ?_
      refine z_bipush (a := ((40 : Nat) : Int)) hC d_Tr_has_13 (by decide) ?_
      refine z_icmp_ge (tgt := 22) hC i ((40 : Nat) : Int) d_Tr_has_15 rfl (iI_t (by omega)) (iI_t (by omega)) (fun c_3 => ?_) (fun c_3 => ?_)
      · refine z_iconstN hC 0 d_Tr_has_22 rfl ?_
        exact Z.eq rfl rfl rfl (zb_f (decide_eq_false (by omega))) (hR _ _ d_Tr_has_23)
      · refine z_iconstN hC 1 d_Tr_has_18 rfl ?_
        refine z_goto (tgt := 23) hC d_Tr_has_19 rfl ?_
        exact Z.eq rfl rfl rfl (zb_t (decide_eq_true (by omega))) (hR _ _ d_Tr_has_23)
set_option maxHeartbeats 4000000 in
set_option maxRecDepth 100000 in
theorem k_Tr_sortAt (l : Launch) (g : ZG) (t0 t1 t2 t3 t4 tn : Nat) (nd : Nat → QD) (i : Int) (htn : tn ≤ 40) (hi : -2147483648 ≤ i ∧ i < 2147483648)   : Ct l g y_Tr_sortAt c_Tr_sortAt 2 (some .int) { frames := 1, cells := 0, slots := 0, locals := 21 } [.ref t0, .int (iI i)] [(t0, .inr (7, [.ref t1, .ref t2, .ref t3, .ref t4, .int (iI ((tn : Nat) : Int))])), (t1, .inl ((g.2.1 0), 40, .inl (q1 nd))), (t2, .inl ((g.2.1 0), 40, .inl (q2 nd))), (t3, .inl ((g.2.1 0), 40, .inl (q3 nd))), (t4, .inl ((g.2.1 0), 40, .inl (q4 nd)))] (some (.int ((tA tn nd i).1))) [(t0, .inr (7, [.ref t1, .ref t2, .ref t3, .ref t4, .int (iI ((tn : Nat) : Int))])), (t1, .inl ((g.2.1 0), 40, .inl (q1 nd))), (t2, .inl ((g.2.1 0), 40, .inl (q2 nd))), (t3, .inl ((g.2.1 0), 40, .inl (q3 nd))), (t4, .inl ((g.2.1 0), 40, .inl (q4 nd)))] := by
  refine ct_i (lv := [(0, .ref t0), (1, .int (iI i))]) (by decide) rfl (Nat.le_of_ble_eq_true rfl) rfl ?_
  intro x hC hR
  refine z_aload_n hC d_Tr_sortAt_0 rfl 0 rfl ?_
  refine z_iload_n hC d_Tr_sortAt_1 rfl 1 rfl ?_
  refine z_callV (q0 := 0) (ci := 7) (w' := [(t0, .inr (7, [.ref t1, .ref t2, .ref t3, .ref t4, .int (iI ((tn : Nat) : Int))])), (t1, .inl ((g.2.1 0), 40, .inl (q1 nd))), (t2, .inl ((g.2.1 0), 40, .inl (q2 nd))), (t3, .inl ((g.2.1 0), 40, .inl (q3 nd))), (t4, .inl ((g.2.1 0), 40, .inl (q4 nd)))]) (st1 := [.int (iI (bI (decide (0 ≤ i ∧ i < tn))))]) hC (k_Tr_has l g t0 t1 t2 t3 t4 tn nd i htn hi) mw_495 zv_Tr_has rfl rfl ⟨Nat.le_of_ble_eq_true rfl, Nat.le_of_ble_eq_true rfl⟩ [0, 1, 2, 3, 4] rfl rfl rfl rfl rfl rfl rfl rfl (Nat.le_of_ble_eq_true rfl) d_Tr_sortAt_2 rfl ⟨Nat.zero_le _, Nat.zero_le _⟩ rfl ?_
  refine z_ifeqD (tgt := 17) hC d_Tr_sortAt_5 rfl (fun c_1 => ?_) (fun c_1 => ?_)
  · refine z_iconst hC d_Tr_sortAt_17 ?_
    exact Z.eq rfl rfl rfl (by first | (rw [tA, if_pos (by omega)]; rfl) | (rw [tA, if_neg (by omega)]; rfl)) (hR _ _ d_Tr_sortAt_18)
  · refine z_aload_n hC d_Tr_sortAt_8 rfl 0 rfl ?_
    refine z_get hC hi_Tr 0 rfl rfl 0 (by decide) mw_131 (Or.inl rfl) rfl d_Tr_sortAt_9 ?_
    refine z_iload_n hC d_Tr_sortAt_12 rfl 1 rfl ?_
    refine z_iald hC 1 0 rfl rfl ((i).toNat) (by omega) (by omega) (by decide) d_Tr_sortAt_13 ?_
    refine z_goto (tgt := 18) hC d_Tr_sortAt_14 rfl ?_
    exact Z.eq rfl rfl rfl (by first | (rw [tA, if_pos (by omega)]; rfl) | (rw [tA, if_neg (by omega)]; rfl)) (hR _ _ d_Tr_sortAt_18)
set_option maxHeartbeats 4000000 in
set_option maxRecDepth 100000 in
theorem k_Tr_sortAt_N (l : Launch) (g : ZG) (t0 t1 t2 t3 t4 tn : Nat) (nd : Nat → QD) (k : Nat) (htn : tn ≤ 40) (hk : k < tn)   : Ct l g y_Tr_sortAt c_Tr_sortAt 2 (some .int) { frames := 1, cells := 0, slots := 0, locals := 21 } [.ref t0, .int (iI ((k : Nat) : Int))] [(t0, .inr (7, [.ref t1, .ref t2, .ref t3, .ref t4, .int (iI ((tn : Nat) : Int))])), (t1, .inl ((g.2.1 0), 40, .inl (q1 nd))), (t2, .inl ((g.2.1 0), 40, .inl (q2 nd))), (t3, .inl ((g.2.1 0), 40, .inl (q3 nd))), (t4, .inl ((g.2.1 0), 40, .inl (q4 nd)))] (some (.int ((nd k).1))) [(t0, .inr (7, [.ref t1, .ref t2, .ref t3, .ref t4, .int (iI ((tn : Nat) : Int))])), (t1, .inl ((g.2.1 0), 40, .inl (q1 nd))), (t2, .inl ((g.2.1 0), 40, .inl (q2 nd))), (t3, .inl ((g.2.1 0), 40, .inl (q3 nd))), (t4, .inl ((g.2.1 0), 40, .inl (q4 nd)))] := by
  refine ct_i (lv := [(0, .ref t0), (1, .int (iI ((k : Nat) : Int)))]) (by decide) rfl (Nat.le_of_ble_eq_true rfl) rfl ?_
  intro x hC hR
  refine z_aload_n hC d_Tr_sortAt_0 rfl 0 rfl ?_
  refine z_iload_n hC d_Tr_sortAt_1 rfl 1 rfl ?_
  refine z_callV (q0 := 0) (ci := 7) (w' := [(t0, .inr (7, [.ref t1, .ref t2, .ref t3, .ref t4, .int (iI ((tn : Nat) : Int))])), (t1, .inl ((g.2.1 0), 40, .inl (q1 nd))), (t2, .inl ((g.2.1 0), 40, .inl (q2 nd))), (t3, .inl ((g.2.1 0), 40, .inl (q3 nd))), (t4, .inl ((g.2.1 0), 40, .inl (q4 nd)))]) (st1 := [.int (iI (bI (decide (0 ≤ ((k : Nat) : Int) ∧ ((k : Nat) : Int) < tn))))]) hC (k_Tr_has l g t0 t1 t2 t3 t4 tn nd ((k : Nat) : Int) htn (by omega)) mw_495 zv_Tr_has rfl rfl ⟨Nat.le_of_ble_eq_true rfl, Nat.le_of_ble_eq_true rfl⟩ [0, 1, 2, 3, 4] rfl rfl rfl rfl rfl rfl rfl rfl (Nat.le_of_ble_eq_true rfl) d_Tr_sortAt_2 rfl ⟨Nat.zero_le _, Nat.zero_le _⟩ rfl ?_
  refine z_ifeqD (tgt := 17) hC d_Tr_sortAt_5 rfl (fun c_1 => ?_) (fun c_1 => ?_)
  · refine z_iconst hC d_Tr_sortAt_17 ?_
    exact Z.eq rfl rfl rfl (by first | rfl | (exfalso; omega)) (hR _ _ d_Tr_sortAt_18)
  · refine z_aload_n hC d_Tr_sortAt_8 rfl 0 rfl ?_
    refine z_get hC hi_Tr 0 rfl rfl 0 (by decide) mw_131 (Or.inl rfl) rfl d_Tr_sortAt_9 ?_
    refine z_iload_n hC d_Tr_sortAt_12 rfl 1 rfl ?_
    refine z_iald hC 1 0 rfl rfl k rfl (by omega) (by decide) d_Tr_sortAt_13 ?_
    refine z_goto (tgt := 18) hC d_Tr_sortAt_14 rfl ?_
    exact Z.eq rfl rfl rfl (by first | rfl | (exfalso; omega)) (hR _ _ d_Tr_sortAt_18)
set_option maxHeartbeats 4000000 in
set_option maxRecDepth 100000 in
theorem k_Tr_indexAt (l : Launch) (g : ZG) (t0 t1 t2 t3 t4 tn : Nat) (nd : Nat → QD) (i : Int) (htn : tn ≤ 40) (hi : -2147483648 ≤ i ∧ i < 2147483648)   : Ct l g y_Tr_indexAt c_Tr_indexAt 2 (some .int) { frames := 1, cells := 0, slots := 0, locals := 21 } [.ref t0, .int (iI i)] [(t0, .inr (7, [.ref t1, .ref t2, .ref t3, .ref t4, .int (iI ((tn : Nat) : Int))])), (t1, .inl ((g.2.1 0), 40, .inl (q1 nd))), (t2, .inl ((g.2.1 0), 40, .inl (q2 nd))), (t3, .inl ((g.2.1 0), 40, .inl (q3 nd))), (t4, .inl ((g.2.1 0), 40, .inl (q4 nd)))] (some (.int ((tA tn nd i).2.1))) [(t0, .inr (7, [.ref t1, .ref t2, .ref t3, .ref t4, .int (iI ((tn : Nat) : Int))])), (t1, .inl ((g.2.1 0), 40, .inl (q1 nd))), (t2, .inl ((g.2.1 0), 40, .inl (q2 nd))), (t3, .inl ((g.2.1 0), 40, .inl (q3 nd))), (t4, .inl ((g.2.1 0), 40, .inl (q4 nd)))] := by
  refine ct_i (lv := [(0, .ref t0), (1, .int (iI i))]) (by decide) rfl (Nat.le_of_ble_eq_true rfl) rfl ?_
  intro x hC hR
  refine z_aload_n hC d_Tr_indexAt_0 rfl 0 rfl ?_
  refine z_iload_n hC d_Tr_indexAt_1 rfl 1 rfl ?_
  refine z_callV (q0 := 0) (ci := 7) (w' := [(t0, .inr (7, [.ref t1, .ref t2, .ref t3, .ref t4, .int (iI ((tn : Nat) : Int))])), (t1, .inl ((g.2.1 0), 40, .inl (q1 nd))), (t2, .inl ((g.2.1 0), 40, .inl (q2 nd))), (t3, .inl ((g.2.1 0), 40, .inl (q3 nd))), (t4, .inl ((g.2.1 0), 40, .inl (q4 nd)))]) (st1 := [.int (iI (bI (decide (0 ≤ i ∧ i < tn))))]) hC (k_Tr_has l g t0 t1 t2 t3 t4 tn nd i htn hi) mw_495 zv_Tr_has rfl rfl ⟨Nat.le_of_ble_eq_true rfl, Nat.le_of_ble_eq_true rfl⟩ [0, 1, 2, 3, 4] rfl rfl rfl rfl rfl rfl rfl rfl (Nat.le_of_ble_eq_true rfl) d_Tr_indexAt_2 rfl ⟨Nat.zero_le _, Nat.zero_le _⟩ rfl ?_
  refine z_ifeqD (tgt := 17) hC d_Tr_indexAt_5 rfl (fun c_1 => ?_) (fun c_1 => ?_)
  · refine z_iconst hC d_Tr_indexAt_17 ?_
    exact Z.eq rfl rfl rfl (by first | (rw [tA, if_pos (by omega)]; rfl) | (rw [tA, if_neg (by omega)]; rfl)) (hR _ _ d_Tr_indexAt_18)
  · refine z_aload_n hC d_Tr_indexAt_8 rfl 0 rfl ?_
    refine z_get hC hi_Tr 0 rfl rfl 1 (by decide) mw_132 (Or.inl rfl) rfl d_Tr_indexAt_9 ?_
    refine z_iload_n hC d_Tr_indexAt_12 rfl 1 rfl ?_
    refine z_iald hC 2 0 rfl rfl ((i).toNat) (by omega) (by omega) (by decide) d_Tr_indexAt_13 ?_
    refine z_goto (tgt := 18) hC d_Tr_indexAt_14 rfl ?_
    exact Z.eq rfl rfl rfl (by first | (rw [tA, if_pos (by omega)]; rfl) | (rw [tA, if_neg (by omega)]; rfl)) (hR _ _ d_Tr_indexAt_18)
set_option maxHeartbeats 4000000 in
set_option maxRecDepth 100000 in
theorem k_Tr_indexAt_N (l : Launch) (g : ZG) (t0 t1 t2 t3 t4 tn : Nat) (nd : Nat → QD) (k : Nat) (htn : tn ≤ 40) (hk : k < tn)   : Ct l g y_Tr_indexAt c_Tr_indexAt 2 (some .int) { frames := 1, cells := 0, slots := 0, locals := 21 } [.ref t0, .int (iI ((k : Nat) : Int))] [(t0, .inr (7, [.ref t1, .ref t2, .ref t3, .ref t4, .int (iI ((tn : Nat) : Int))])), (t1, .inl ((g.2.1 0), 40, .inl (q1 nd))), (t2, .inl ((g.2.1 0), 40, .inl (q2 nd))), (t3, .inl ((g.2.1 0), 40, .inl (q3 nd))), (t4, .inl ((g.2.1 0), 40, .inl (q4 nd)))] (some (.int ((nd k).2.1))) [(t0, .inr (7, [.ref t1, .ref t2, .ref t3, .ref t4, .int (iI ((tn : Nat) : Int))])), (t1, .inl ((g.2.1 0), 40, .inl (q1 nd))), (t2, .inl ((g.2.1 0), 40, .inl (q2 nd))), (t3, .inl ((g.2.1 0), 40, .inl (q3 nd))), (t4, .inl ((g.2.1 0), 40, .inl (q4 nd)))] := by
  refine ct_i (lv := [(0, .ref t0), (1, .int (iI ((k : Nat) : Int)))]) (by decide) rfl (Nat.le_of_ble_eq_true rfl) rfl ?_
  intro x hC hR
  refine z_aload_n hC d_Tr_indexAt_0 rfl 0 rfl ?_
  refine z_iload_n hC d_Tr_indexAt_1 rfl 1 rfl ?_
  refine z_callV (q0 := 0) (ci := 7) (w' := [(t0, .inr (7, [.ref t1, .ref t2, .ref t3, .ref t4, .int (iI ((tn : Nat) : Int))])), (t1, .inl ((g.2.1 0), 40, .inl (q1 nd))), (t2, .inl ((g.2.1 0), 40, .inl (q2 nd))), (t3, .inl ((g.2.1 0), 40, .inl (q3 nd))), (t4, .inl ((g.2.1 0), 40, .inl (q4 nd)))]) (st1 := [.int (iI (bI (decide (0 ≤ ((k : Nat) : Int) ∧ ((k : Nat) : Int) < tn))))]) hC (k_Tr_has l g t0 t1 t2 t3 t4 tn nd ((k : Nat) : Int) htn (by omega)) mw_495 zv_Tr_has rfl rfl ⟨Nat.le_of_ble_eq_true rfl, Nat.le_of_ble_eq_true rfl⟩ [0, 1, 2, 3, 4] rfl rfl rfl rfl rfl rfl rfl rfl (Nat.le_of_ble_eq_true rfl) d_Tr_indexAt_2 rfl ⟨Nat.zero_le _, Nat.zero_le _⟩ rfl ?_
  refine z_ifeqD (tgt := 17) hC d_Tr_indexAt_5 rfl (fun c_1 => ?_) (fun c_1 => ?_)
  · refine z_iconst hC d_Tr_indexAt_17 ?_
    exact Z.eq rfl rfl rfl (by first | rfl | (exfalso; omega)) (hR _ _ d_Tr_indexAt_18)
  · refine z_aload_n hC d_Tr_indexAt_8 rfl 0 rfl ?_
    refine z_get hC hi_Tr 0 rfl rfl 1 (by decide) mw_132 (Or.inl rfl) rfl d_Tr_indexAt_9 ?_
    refine z_iload_n hC d_Tr_indexAt_12 rfl 1 rfl ?_
    refine z_iald hC 2 0 rfl rfl k rfl (by omega) (by decide) d_Tr_indexAt_13 ?_
    refine z_goto (tgt := 18) hC d_Tr_indexAt_14 rfl ?_
    exact Z.eq rfl rfl rfl (by first | rfl | (exfalso; omega)) (hR _ _ d_Tr_indexAt_18)
set_option maxHeartbeats 4000000 in
set_option maxRecDepth 100000 in
theorem k_Tr_leastAt (l : Launch) (g : ZG) (t0 t1 t2 t3 t4 tn : Nat) (nd : Nat → QD) (i : Int) (htn : tn ≤ 40) (hi : -2147483648 ≤ i ∧ i < 2147483648)   : Ct l g y_Tr_leastAt c_Tr_leastAt 2 (some .int) { frames := 1, cells := 0, slots := 0, locals := 21 } [.ref t0, .int (iI i)] [(t0, .inr (7, [.ref t1, .ref t2, .ref t3, .ref t4, .int (iI ((tn : Nat) : Int))])), (t1, .inl ((g.2.1 0), 40, .inl (q1 nd))), (t2, .inl ((g.2.1 0), 40, .inl (q2 nd))), (t3, .inl ((g.2.1 0), 40, .inl (q3 nd))), (t4, .inl ((g.2.1 0), 40, .inl (q4 nd)))] (some (.int ((tA tn nd i).2.2.1))) [(t0, .inr (7, [.ref t1, .ref t2, .ref t3, .ref t4, .int (iI ((tn : Nat) : Int))])), (t1, .inl ((g.2.1 0), 40, .inl (q1 nd))), (t2, .inl ((g.2.1 0), 40, .inl (q2 nd))), (t3, .inl ((g.2.1 0), 40, .inl (q3 nd))), (t4, .inl ((g.2.1 0), 40, .inl (q4 nd)))] := by
  refine ct_i (lv := [(0, .ref t0), (1, .int (iI i))]) (by decide) rfl (Nat.le_of_ble_eq_true rfl) rfl ?_
  intro x hC hR
  refine z_aload_n hC d_Tr_leastAt_0 rfl 0 rfl ?_
  refine z_iload_n hC d_Tr_leastAt_1 rfl 1 rfl ?_
  refine z_callV (q0 := 0) (ci := 7) (w' := [(t0, .inr (7, [.ref t1, .ref t2, .ref t3, .ref t4, .int (iI ((tn : Nat) : Int))])), (t1, .inl ((g.2.1 0), 40, .inl (q1 nd))), (t2, .inl ((g.2.1 0), 40, .inl (q2 nd))), (t3, .inl ((g.2.1 0), 40, .inl (q3 nd))), (t4, .inl ((g.2.1 0), 40, .inl (q4 nd)))]) (st1 := [.int (iI (bI (decide (0 ≤ i ∧ i < tn))))]) hC (k_Tr_has l g t0 t1 t2 t3 t4 tn nd i htn hi) mw_495 zv_Tr_has rfl rfl ⟨Nat.le_of_ble_eq_true rfl, Nat.le_of_ble_eq_true rfl⟩ [0, 1, 2, 3, 4] rfl rfl rfl rfl rfl rfl rfl rfl (Nat.le_of_ble_eq_true rfl) d_Tr_leastAt_2 rfl ⟨Nat.zero_le _, Nat.zero_le _⟩ rfl ?_
  refine z_ifeqD (tgt := 17) hC d_Tr_leastAt_5 rfl (fun c_1 => ?_) (fun c_1 => ?_)
  · refine z_iconst hC d_Tr_leastAt_17 ?_
    exact Z.eq rfl rfl rfl (by first | (rw [tA, if_pos (by omega)]; rfl) | (rw [tA, if_neg (by omega)]; rfl)) (hR _ _ d_Tr_leastAt_18)
  · refine z_aload_n hC d_Tr_leastAt_8 rfl 0 rfl ?_
    refine z_get hC hi_Tr 0 rfl rfl 2 (by decide) mw_133 (Or.inl rfl) rfl d_Tr_leastAt_9 ?_
    refine z_iload_n hC d_Tr_leastAt_12 rfl 1 rfl ?_
    refine z_iald hC 3 0 rfl rfl ((i).toNat) (by omega) (by omega) (by decide) d_Tr_leastAt_13 ?_
    refine z_goto (tgt := 18) hC d_Tr_leastAt_14 rfl ?_
    exact Z.eq rfl rfl rfl (by first | (rw [tA, if_pos (by omega)]; rfl) | (rw [tA, if_neg (by omega)]; rfl)) (hR _ _ d_Tr_leastAt_18)
set_option maxHeartbeats 4000000 in
set_option maxRecDepth 100000 in
theorem k_Tr_leastAt_N (l : Launch) (g : ZG) (t0 t1 t2 t3 t4 tn : Nat) (nd : Nat → QD) (k : Nat) (htn : tn ≤ 40) (hk : k < tn)   : Ct l g y_Tr_leastAt c_Tr_leastAt 2 (some .int) { frames := 1, cells := 0, slots := 0, locals := 21 } [.ref t0, .int (iI ((k : Nat) : Int))] [(t0, .inr (7, [.ref t1, .ref t2, .ref t3, .ref t4, .int (iI ((tn : Nat) : Int))])), (t1, .inl ((g.2.1 0), 40, .inl (q1 nd))), (t2, .inl ((g.2.1 0), 40, .inl (q2 nd))), (t3, .inl ((g.2.1 0), 40, .inl (q3 nd))), (t4, .inl ((g.2.1 0), 40, .inl (q4 nd)))] (some (.int ((nd k).2.2.1))) [(t0, .inr (7, [.ref t1, .ref t2, .ref t3, .ref t4, .int (iI ((tn : Nat) : Int))])), (t1, .inl ((g.2.1 0), 40, .inl (q1 nd))), (t2, .inl ((g.2.1 0), 40, .inl (q2 nd))), (t3, .inl ((g.2.1 0), 40, .inl (q3 nd))), (t4, .inl ((g.2.1 0), 40, .inl (q4 nd)))] := by
  refine ct_i (lv := [(0, .ref t0), (1, .int (iI ((k : Nat) : Int)))]) (by decide) rfl (Nat.le_of_ble_eq_true rfl) rfl ?_
  intro x hC hR
  refine z_aload_n hC d_Tr_leastAt_0 rfl 0 rfl ?_
  refine z_iload_n hC d_Tr_leastAt_1 rfl 1 rfl ?_
  refine z_callV (q0 := 0) (ci := 7) (w' := [(t0, .inr (7, [.ref t1, .ref t2, .ref t3, .ref t4, .int (iI ((tn : Nat) : Int))])), (t1, .inl ((g.2.1 0), 40, .inl (q1 nd))), (t2, .inl ((g.2.1 0), 40, .inl (q2 nd))), (t3, .inl ((g.2.1 0), 40, .inl (q3 nd))), (t4, .inl ((g.2.1 0), 40, .inl (q4 nd)))]) (st1 := [.int (iI (bI (decide (0 ≤ ((k : Nat) : Int) ∧ ((k : Nat) : Int) < tn))))]) hC (k_Tr_has l g t0 t1 t2 t3 t4 tn nd ((k : Nat) : Int) htn (by omega)) mw_495 zv_Tr_has rfl rfl ⟨Nat.le_of_ble_eq_true rfl, Nat.le_of_ble_eq_true rfl⟩ [0, 1, 2, 3, 4] rfl rfl rfl rfl rfl rfl rfl rfl (Nat.le_of_ble_eq_true rfl) d_Tr_leastAt_2 rfl ⟨Nat.zero_le _, Nat.zero_le _⟩ rfl ?_
  refine z_ifeqD (tgt := 17) hC d_Tr_leastAt_5 rfl (fun c_1 => ?_) (fun c_1 => ?_)
  · refine z_iconst hC d_Tr_leastAt_17 ?_
    exact Z.eq rfl rfl rfl (by first | rfl | (exfalso; omega)) (hR _ _ d_Tr_leastAt_18)
  · refine z_aload_n hC d_Tr_leastAt_8 rfl 0 rfl ?_
    refine z_get hC hi_Tr 0 rfl rfl 2 (by decide) mw_133 (Or.inl rfl) rfl d_Tr_leastAt_9 ?_
    refine z_iload_n hC d_Tr_leastAt_12 rfl 1 rfl ?_
    refine z_iald hC 3 0 rfl rfl k rfl (by omega) (by decide) d_Tr_leastAt_13 ?_
    refine z_goto (tgt := 18) hC d_Tr_leastAt_14 rfl ?_
    exact Z.eq rfl rfl rfl (by first | rfl | (exfalso; omega)) (hR _ _ d_Tr_leastAt_18)
set_option maxHeartbeats 4000000 in
set_option maxRecDepth 100000 in
theorem k_Tr_greatestAt (l : Launch) (g : ZG) (t0 t1 t2 t3 t4 tn : Nat) (nd : Nat → QD) (i : Int) (htn : tn ≤ 40) (hi : -2147483648 ≤ i ∧ i < 2147483648)   : Ct l g y_Tr_greatestAt c_Tr_greatestAt 2 (some .int) { frames := 1, cells := 0, slots := 0, locals := 21 } [.ref t0, .int (iI i)] [(t0, .inr (7, [.ref t1, .ref t2, .ref t3, .ref t4, .int (iI ((tn : Nat) : Int))])), (t1, .inl ((g.2.1 0), 40, .inl (q1 nd))), (t2, .inl ((g.2.1 0), 40, .inl (q2 nd))), (t3, .inl ((g.2.1 0), 40, .inl (q3 nd))), (t4, .inl ((g.2.1 0), 40, .inl (q4 nd)))] (some (.int ((tA tn nd i).2.2.2))) [(t0, .inr (7, [.ref t1, .ref t2, .ref t3, .ref t4, .int (iI ((tn : Nat) : Int))])), (t1, .inl ((g.2.1 0), 40, .inl (q1 nd))), (t2, .inl ((g.2.1 0), 40, .inl (q2 nd))), (t3, .inl ((g.2.1 0), 40, .inl (q3 nd))), (t4, .inl ((g.2.1 0), 40, .inl (q4 nd)))] := by
  refine ct_i (lv := [(0, .ref t0), (1, .int (iI i))]) (by decide) rfl (Nat.le_of_ble_eq_true rfl) rfl ?_
  intro x hC hR
  refine z_aload_n hC d_Tr_greatestAt_0 rfl 0 rfl ?_
  refine z_iload_n hC d_Tr_greatestAt_1 rfl 1 rfl ?_
  refine z_callV (q0 := 0) (ci := 7) (w' := [(t0, .inr (7, [.ref t1, .ref t2, .ref t3, .ref t4, .int (iI ((tn : Nat) : Int))])), (t1, .inl ((g.2.1 0), 40, .inl (q1 nd))), (t2, .inl ((g.2.1 0), 40, .inl (q2 nd))), (t3, .inl ((g.2.1 0), 40, .inl (q3 nd))), (t4, .inl ((g.2.1 0), 40, .inl (q4 nd)))]) (st1 := [.int (iI (bI (decide (0 ≤ i ∧ i < tn))))]) hC (k_Tr_has l g t0 t1 t2 t3 t4 tn nd i htn hi) mw_495 zv_Tr_has rfl rfl ⟨Nat.le_of_ble_eq_true rfl, Nat.le_of_ble_eq_true rfl⟩ [0, 1, 2, 3, 4] rfl rfl rfl rfl rfl rfl rfl rfl (Nat.le_of_ble_eq_true rfl) d_Tr_greatestAt_2 rfl ⟨Nat.zero_le _, Nat.zero_le _⟩ rfl ?_
  refine z_ifeqD (tgt := 17) hC d_Tr_greatestAt_5 rfl (fun c_1 => ?_) (fun c_1 => ?_)
  · refine z_iconst hC d_Tr_greatestAt_17 ?_
    exact Z.eq rfl rfl rfl (by first | (rw [tA, if_pos (by omega)]; rfl) | (rw [tA, if_neg (by omega)]; rfl)) (hR _ _ d_Tr_greatestAt_18)
  · refine z_aload_n hC d_Tr_greatestAt_8 rfl 0 rfl ?_
    refine z_get hC hi_Tr 0 rfl rfl 3 (by decide) mw_134 (Or.inl rfl) rfl d_Tr_greatestAt_9 ?_
    refine z_iload_n hC d_Tr_greatestAt_12 rfl 1 rfl ?_
    refine z_iald hC 4 0 rfl rfl ((i).toNat) (by omega) (by omega) (by decide) d_Tr_greatestAt_13 ?_
    refine z_goto (tgt := 18) hC d_Tr_greatestAt_14 rfl ?_
    exact Z.eq rfl rfl rfl (by first | (rw [tA, if_pos (by omega)]; rfl) | (rw [tA, if_neg (by omega)]; rfl)) (hR _ _ d_Tr_greatestAt_18)
set_option maxHeartbeats 4000000 in
set_option maxRecDepth 100000 in
theorem k_Tr_greatestAt_N (l : Launch) (g : ZG) (t0 t1 t2 t3 t4 tn : Nat) (nd : Nat → QD) (k : Nat) (htn : tn ≤ 40) (hk : k < tn)   : Ct l g y_Tr_greatestAt c_Tr_greatestAt 2 (some .int) { frames := 1, cells := 0, slots := 0, locals := 21 } [.ref t0, .int (iI ((k : Nat) : Int))] [(t0, .inr (7, [.ref t1, .ref t2, .ref t3, .ref t4, .int (iI ((tn : Nat) : Int))])), (t1, .inl ((g.2.1 0), 40, .inl (q1 nd))), (t2, .inl ((g.2.1 0), 40, .inl (q2 nd))), (t3, .inl ((g.2.1 0), 40, .inl (q3 nd))), (t4, .inl ((g.2.1 0), 40, .inl (q4 nd)))] (some (.int ((nd k).2.2.2))) [(t0, .inr (7, [.ref t1, .ref t2, .ref t3, .ref t4, .int (iI ((tn : Nat) : Int))])), (t1, .inl ((g.2.1 0), 40, .inl (q1 nd))), (t2, .inl ((g.2.1 0), 40, .inl (q2 nd))), (t3, .inl ((g.2.1 0), 40, .inl (q3 nd))), (t4, .inl ((g.2.1 0), 40, .inl (q4 nd)))] := by
  refine ct_i (lv := [(0, .ref t0), (1, .int (iI ((k : Nat) : Int)))]) (by decide) rfl (Nat.le_of_ble_eq_true rfl) rfl ?_
  intro x hC hR
  refine z_aload_n hC d_Tr_greatestAt_0 rfl 0 rfl ?_
  refine z_iload_n hC d_Tr_greatestAt_1 rfl 1 rfl ?_
  refine z_callV (q0 := 0) (ci := 7) (w' := [(t0, .inr (7, [.ref t1, .ref t2, .ref t3, .ref t4, .int (iI ((tn : Nat) : Int))])), (t1, .inl ((g.2.1 0), 40, .inl (q1 nd))), (t2, .inl ((g.2.1 0), 40, .inl (q2 nd))), (t3, .inl ((g.2.1 0), 40, .inl (q3 nd))), (t4, .inl ((g.2.1 0), 40, .inl (q4 nd)))]) (st1 := [.int (iI (bI (decide (0 ≤ ((k : Nat) : Int) ∧ ((k : Nat) : Int) < tn))))]) hC (k_Tr_has l g t0 t1 t2 t3 t4 tn nd ((k : Nat) : Int) htn (by omega)) mw_495 zv_Tr_has rfl rfl ⟨Nat.le_of_ble_eq_true rfl, Nat.le_of_ble_eq_true rfl⟩ [0, 1, 2, 3, 4] rfl rfl rfl rfl rfl rfl rfl rfl (Nat.le_of_ble_eq_true rfl) d_Tr_greatestAt_2 rfl ⟨Nat.zero_le _, Nat.zero_le _⟩ rfl ?_
  refine z_ifeqD (tgt := 17) hC d_Tr_greatestAt_5 rfl (fun c_1 => ?_) (fun c_1 => ?_)
  · refine z_iconst hC d_Tr_greatestAt_17 ?_
    exact Z.eq rfl rfl rfl (by first | rfl | (exfalso; omega)) (hR _ _ d_Tr_greatestAt_18)
  · refine z_aload_n hC d_Tr_greatestAt_8 rfl 0 rfl ?_
    refine z_get hC hi_Tr 0 rfl rfl 3 (by decide) mw_134 (Or.inl rfl) rfl d_Tr_greatestAt_9 ?_
    refine z_iload_n hC d_Tr_greatestAt_12 rfl 1 rfl ?_
    refine z_iald hC 4 0 rfl rfl k rfl (by omega) (by decide) d_Tr_greatestAt_13 ?_
    refine z_goto (tgt := 18) hC d_Tr_greatestAt_14 rfl ?_
    exact Z.eq rfl rfl rfl (by first | rfl | (exfalso; omega)) (hR _ _ d_Tr_greatestAt_18)
set_option maxHeartbeats 4000000 in
set_option maxRecDepth 100000 in
theorem k_Tr_put (l : Launch) (g : ZG) (t0 t1 t2 t3 t4 tn : Nat) (nd : Nat → QD) (k : Nat) (a b c d : Int32) (htn : tn ≤ 40) (hk : k < tn)   : Ct l g y_Tr_put c_Tr_put 6 none { frames := 1, cells := 0, slots := 0, locals := 21 } [.ref t0, .int (iI ((k : Nat) : Int)), .int a, .int b, .int c, .int d] [(t0, .inr (7, [.ref t1, .ref t2, .ref t3, .ref t4, .int (iI ((tn : Nat) : Int))])), (t1, .inl ((g.2.1 0), 40, .inl (q1 nd))), (t2, .inl ((g.2.1 0), 40, .inl (q2 nd))), (t3, .inl ((g.2.1 0), 40, .inl (q3 nd))), (t4, .inl ((g.2.1 0), 40, .inl (q4 nd)))] none [(t0, .inr (7, [.ref t1, .ref t2, .ref t3, .ref t4, .int (iI ((tn : Nat) : Int))])), (t1, .inl ((g.2.1 0), 40, .inl (q1 (up nd k (a, b, c, d))))), (t2, .inl ((g.2.1 0), 40, .inl (q2 (up nd k (a, b, c, d))))), (t3, .inl ((g.2.1 0), 40, .inl (q3 (up nd k (a, b, c, d))))), (t4, .inl ((g.2.1 0), 40, .inl (q4 (up nd k (a, b, c, d)))))] := by
  refine ct_v (lv := [(0, .ref t0), (1, .int (iI ((k : Nat) : Int))), (2, .int a), (3, .int b), (4, .int c), (5, .int d)]) (by decide) rfl (Nat.le_of_ble_eq_true rfl) rfl ?_
  intro x hC hR
  refine z_aload_n hC d_Tr_put_0 rfl 0 rfl ?_
  refine z_iload_n hC d_Tr_put_1 rfl 1 rfl ?_
  refine z_callV (q0 := 0) (ci := 7) (w' := [(t0, .inr (7, [.ref t1, .ref t2, .ref t3, .ref t4, .int (iI ((tn : Nat) : Int))])), (t1, .inl ((g.2.1 0), 40, .inl (q1 nd))), (t2, .inl ((g.2.1 0), 40, .inl (q2 nd))), (t3, .inl ((g.2.1 0), 40, .inl (q3 nd))), (t4, .inl ((g.2.1 0), 40, .inl (q4 nd)))]) (st1 := [.int (iI (bI (decide (0 ≤ ((k : Nat) : Int) ∧ ((k : Nat) : Int) < tn))))]) hC (k_Tr_has l g t0 t1 t2 t3 t4 tn nd ((k : Nat) : Int) htn (by omega)) mw_495 zv_Tr_has rfl rfl ⟨Nat.le_of_ble_eq_true rfl, Nat.le_of_ble_eq_true rfl⟩ [0, 1, 2, 3, 4] rfl rfl rfl rfl rfl rfl rfl rfl (Nat.le_of_ble_eq_true rfl) d_Tr_put_2 rfl ⟨Nat.zero_le _, Nat.zero_le _⟩ rfl ?_
  refine z_ifeqD (tgt := 38) hC d_Tr_put_5 rfl (fun c_1 => ?_) (fun c_1 => ?_)
  · exact Z.eq (by first | (exfalso; omega) | (rw [q1_up nd k a b c d, q2_up nd k a b c d, q3_up nd k a b c d, q4_up nd k a b c d])) rfl rfl rfl (hR _ _ d_Tr_put_38)
  · refine z_aload_n hC d_Tr_put_8 rfl 0 rfl ?_
    refine z_get hC hi_Tr 0 rfl rfl 0 (by decide) mw_131 (Or.inl rfl) rfl d_Tr_put_9 ?_
    refine z_iload_n hC d_Tr_put_12 rfl 1 rfl ?_
    refine z_iload_n hC d_Tr_put_13 rfl 2 rfl ?_
    refine z_iast (v := a) (w' := [(t0, .inr (7, [.ref t1, .ref t2, .ref t3, .ref t4, .int (iI ((tn : Nat) : Int))])), (t1, .inl ((g.2.1 0), 40, .inl (upd (q1 nd) k a))), (t2, .inl ((g.2.1 0), 40, .inl (q2 nd))), (t3, .inl ((g.2.1 0), 40, .inl (q3 nd))), (t4, .inl ((g.2.1 0), 40, .inl (q4 nd)))]) hC 1 0 rfl rfl k rfl (by omega) (by decide) rfl d_Tr_put_14 ?_
    refine z_aload_n hC d_Tr_put_15 rfl 0 rfl ?_
    refine z_get hC hi_Tr 0 rfl rfl 1 (by decide) mw_132 (Or.inl rfl) rfl d_Tr_put_16 ?_
    refine z_iload_n hC d_Tr_put_19 rfl 1 rfl ?_
    refine z_iload_n hC d_Tr_put_20 rfl 3 rfl ?_
    refine z_iast (v := b) (w' := [(t0, .inr (7, [.ref t1, .ref t2, .ref t3, .ref t4, .int (iI ((tn : Nat) : Int))])), (t1, .inl ((g.2.1 0), 40, .inl (upd (q1 nd) k a))), (t2, .inl ((g.2.1 0), 40, .inl (upd (q2 nd) k b))), (t3, .inl ((g.2.1 0), 40, .inl (q3 nd))), (t4, .inl ((g.2.1 0), 40, .inl (q4 nd)))]) hC 2 0 rfl rfl k rfl (by omega) (by decide) rfl d_Tr_put_21 ?_
    refine z_aload_n hC d_Tr_put_22 rfl 0 rfl ?_
    refine z_get hC hi_Tr 0 rfl rfl 2 (by decide) mw_133 (Or.inl rfl) rfl d_Tr_put_23 ?_
    refine z_iload_n hC d_Tr_put_26 rfl 1 rfl ?_
    refine z_iload hC d_Tr_put_27 4 rfl ?_
    refine z_iast (v := c) (w' := [(t0, .inr (7, [.ref t1, .ref t2, .ref t3, .ref t4, .int (iI ((tn : Nat) : Int))])), (t1, .inl ((g.2.1 0), 40, .inl (upd (q1 nd) k a))), (t2, .inl ((g.2.1 0), 40, .inl (upd (q2 nd) k b))), (t3, .inl ((g.2.1 0), 40, .inl (upd (q3 nd) k c))), (t4, .inl ((g.2.1 0), 40, .inl (q4 nd)))]) hC 3 0 rfl rfl k rfl (by omega) (by decide) rfl d_Tr_put_29 ?_
    refine z_aload_n hC d_Tr_put_30 rfl 0 rfl ?_
    refine z_get hC hi_Tr 0 rfl rfl 3 (by decide) mw_134 (Or.inl rfl) rfl d_Tr_put_31 ?_
    refine z_iload_n hC d_Tr_put_34 rfl 1 rfl ?_
    refine z_iload hC d_Tr_put_35 5 rfl ?_
    refine z_iast (v := d) (w' := [(t0, .inr (7, [.ref t1, .ref t2, .ref t3, .ref t4, .int (iI ((tn : Nat) : Int))])), (t1, .inl ((g.2.1 0), 40, .inl (upd (q1 nd) k a))), (t2, .inl ((g.2.1 0), 40, .inl (upd (q2 nd) k b))), (t3, .inl ((g.2.1 0), 40, .inl (upd (q3 nd) k c))), (t4, .inl ((g.2.1 0), 40, .inl (upd (q4 nd) k d)))]) hC 4 0 rfl rfl k rfl (by omega) (by decide) rfl d_Tr_put_37 ?_
    exact Z.eq (by first | (exfalso; omega) | (rw [q1_up nd k a b c d, q2_up nd k a b c d, q3_up nd k a b c d, q4_up nd k a b c d])) rfl rfl rfl (hR _ _ d_Tr_put_38)
set_option maxHeartbeats 4000000 in
set_option maxRecDepth 100000 in
theorem k_Tr_append (l : Launch) (g : ZG) (t0 t1 t2 t3 t4 tn : Nat) (nd : Nat → QD) (a b c d : Int32) (htn : tn ≤ 40)   : Ct l g y_Tr_append c_Tr_append 5 (some .boolean) { frames := 2, cells := 0, slots := 0, locals := 46 } [.ref t0, .int a, .int b, .int c, .int d] [(t0, .inr (7, [.ref t1, .ref t2, .ref t3, .ref t4, .int (iI ((tn : Nat) : Int))])), (t1, .inl ((g.2.1 0), 40, .inl (q1 nd))), (t2, .inl ((g.2.1 0), 40, .inl (q2 nd))), (t3, .inl ((g.2.1 0), 40, .inl (q3 nd))), (t4, .inl ((g.2.1 0), 40, .inl (q4 nd)))] (some (.int (iI (bI (decide (tn < 40)))))) [(t0, .inr (7, [.ref t1, .ref t2, .ref t3, .ref t4, .int (iI ((if tn < 40 then tn + 1 else tn : Nat) : Int))])), (t1, .inl ((g.2.1 0), 40, .inl (q1 (if tn < 40 then up nd tn (a, b, c, d) else nd)))), (t2, .inl ((g.2.1 0), 40, .inl (q2 (if tn < 40 then up nd tn (a, b, c, d) else nd)))), (t3, .inl ((g.2.1 0), 40, .inl (q3 (if tn < 40 then up nd tn (a, b, c, d) else nd)))), (t4, .inl ((g.2.1 0), 40, .inl (q4 (if tn < 40 then up nd tn (a, b, c, d) else nd))))] := by
  refine ct_z (lv := [(0, .ref t0), (1, .int a), (2, .int b), (3, .int c), (4, .int d)]) (by decide) rfl (Nat.le_of_ble_eq_true rfl) rfl ?_
  intro x hC hR
  refine z_aload_n hC d_Tr_append_0 rfl 0 rfl ?_
  refine z_callV (q0 := 0) (ci := 7) (w' := [(t0, .inr (7, [.ref t1, .ref t2, .ref t3, .ref t4, .int (iI ((tn : Nat) : Int))])), (t1, .inl ((g.2.1 0), 40, .inl (q1 nd))), (t2, .inl ((g.2.1 0), 40, .inl (q2 nd))), (t3, .inl ((g.2.1 0), 40, .inl (q3 nd))), (t4, .inl ((g.2.1 0), 40, .inl (q4 nd)))]) (st1 := [.int (iI (bI (decide (40 ≤ tn))))]) hC (k_Tr_isFull l g t0 t1 t2 t3 t4 tn nd htn) mw_490 zv_Tr_isFull rfl rfl ⟨Nat.le_of_ble_eq_true rfl, Nat.le_of_ble_eq_true rfl⟩ [0, 1, 2, 3, 4] rfl rfl rfl rfl rfl rfl rfl rfl (Nat.le_of_ble_eq_true rfl) d_Tr_append_1 rfl ⟨Nat.zero_le _, Nat.zero_le _⟩ rfl ?_
  refine z_ifeqD (tgt := 9) hC d_Tr_append_4 rfl (fun c_1 => ?_) (fun c_1 => ?_)
  · refine z_aload_n hC d_Tr_append_9 rfl 0 rfl ?_
    refine z_dup hC d_Tr_append_10 rfl ?_
    refine z_get hC hi_Tr 0 rfl rfl 4 (by decide) mw_135 (Or.inl rfl) rfl d_Tr_append_11 ?_
    refine z_iconstN hC 1 d_Tr_append_14 rfl ?_
    refine z_iaddN hC d_Tr_append_15 ?_
    refine z_put (v := .int (iI ((tn + 1 : Nat) : Int))) (ty := .int) (w' := [(t0, .inr (7, [.ref t1, .ref t2, .ref t3, .ref t4, .int (iI ((tn + 1 : Nat) : Int))])), (t1, .inl ((g.2.1 0), 40, .inl (q1 nd))), (t2, .inl ((g.2.1 0), 40, .inl (q2 nd))), (t3, .inl ((g.2.1 0), 40, .inl (q3 nd))), (t4, .inl ((g.2.1 0), 40, .inl (q4 nd)))]) hC hi_Tr ty_Tr ok_Tr nm_Tr 0 rfl rfl 4 (by decide) mw_135 rfl rfl rfl rfl rfl (Nat.le_of_ble_eq_true rfl) rfl d_Tr_append_16 ?_
    refine z_aload_n hC d_Tr_append_19 rfl 0 rfl ?_
    refine z_aload_n hC d_Tr_append_20 rfl 0 rfl ?_
    refine z_get hC hi_Tr 0 rfl rfl 4 (by decide) mw_135 (Or.inl rfl) rfl d_Tr_append_21 ?_
    refine z_iconstN hC 1 d_Tr_append_24 rfl ?_
    refine z_isubN hC d_Tr_append_25 (by omega) ?_
    refine z_iload_n hC d_Tr_append_26 rfl 1 rfl ?_
    refine z_iload_n hC d_Tr_append_27 rfl 2 rfl ?_
    refine z_iload_n hC d_Tr_append_28 rfl 3 rfl ?_
    refine z_iload hC d_Tr_append_29 4 rfl ?_
    refine z_callV (q0 := 0) (ci := 7) (w' := [(t0, .inr (7, [.ref t1, .ref t2, .ref t3, .ref t4, .int (iI (((tn + 1) : Nat) : Int))])), (t1, .inl ((g.2.1 0), 40, .inl (q1 (up nd ((tn + 1) - 1) (a, b, c, d))))), (t2, .inl ((g.2.1 0), 40, .inl (q2 (up nd ((tn + 1) - 1) (a, b, c, d))))), (t3, .inl ((g.2.1 0), 40, .inl (q3 (up nd ((tn + 1) - 1) (a, b, c, d))))), (t4, .inl ((g.2.1 0), 40, .inl (q4 (up nd ((tn + 1) - 1) (a, b, c, d)))))]) (st1 := []) hC (k_Tr_put l g t0 t1 t2 t3 t4 (tn + 1) nd ((tn + 1) - 1) a b c d (by omega) (by omega)) mw_491 zv_Tr_put rfl rfl ⟨Nat.le_of_ble_eq_true rfl, Nat.le_of_ble_eq_true rfl⟩ [0, 1, 2, 3, 4] rfl rfl rfl rfl rfl rfl rfl rfl (Nat.le_of_ble_eq_true rfl) d_Tr_append_31 rfl ⟨Nat.zero_le _, Nat.zero_le _⟩ rfl ?_
    refine z_iconstN hC 1 d_Tr_append_34 rfl ?_
    exact Z.eq (by first | (rw [if_pos (by omega), if_pos (by omega)]; rfl) | (rw [if_neg (by omega), if_neg (by omega)]; done)) rfl rfl (zb_t (decide_eq_true (by omega))) (hR _ _ d_Tr_append_35)
  · refine z_iconstN hC 0 d_Tr_append_7 rfl ?_
    exact Z.eq (by first | (rw [if_pos (by omega), if_pos (by omega)]; rfl) | (rw [if_neg (by omega), if_neg (by omega)]; done)) rfl rfl (zb_f (decide_eq_false (by omega))) (hR _ _ d_Tr_append_8)
set_option maxHeartbeats 4000000 in
set_option maxRecDepth 100000 in
theorem k_Tr_copyNode (l : Launch) (g : ZG) (t0 t1 t2 t3 t4 tn : Nat) (nd : Nat → QD) (o0 o1 o2 o3 o4 on : Nat) (od : Nat → QD) (k j : Nat) (htn : tn ≤ 40) (hon : on ≤ 40) (hk : k < tn) (hj : j < on)   : Ct l g y_Tr_copyNode c_Tr_copyNode 4 none { frames := 2, cells := 0, slots := 0, locals := 46 } [.ref t0, .int (iI ((k : Nat) : Int)), .ref o0, .int (iI ((j : Nat) : Int))] [(t0, .inr (7, [.ref t1, .ref t2, .ref t3, .ref t4, .int (iI ((tn : Nat) : Int))])), (t1, .inl ((g.2.1 0), 40, .inl (q1 nd))), (t2, .inl ((g.2.1 0), 40, .inl (q2 nd))), (t3, .inl ((g.2.1 0), 40, .inl (q3 nd))), (t4, .inl ((g.2.1 0), 40, .inl (q4 nd))), (o0, .inr (7, [.ref o1, .ref o2, .ref o3, .ref o4, .int (iI ((on : Nat) : Int))])), (o1, .inl ((g.2.1 0), 40, .inl (q1 od))), (o2, .inl ((g.2.1 0), 40, .inl (q2 od))), (o3, .inl ((g.2.1 0), 40, .inl (q3 od))), (o4, .inl ((g.2.1 0), 40, .inl (q4 od)))] none [(t0, .inr (7, [.ref t1, .ref t2, .ref t3, .ref t4, .int (iI ((tn : Nat) : Int))])), (t1, .inl ((g.2.1 0), 40, .inl (q1 (up nd k (od j))))), (t2, .inl ((g.2.1 0), 40, .inl (q2 (up nd k (od j))))), (t3, .inl ((g.2.1 0), 40, .inl (q3 (up nd k (od j))))), (t4, .inl ((g.2.1 0), 40, .inl (q4 (up nd k (od j))))), (o0, .inr (7, [.ref o1, .ref o2, .ref o3, .ref o4, .int (iI ((on : Nat) : Int))])), (o1, .inl ((g.2.1 0), 40, .inl (q1 od))), (o2, .inl ((g.2.1 0), 40, .inl (q2 od))), (o3, .inl ((g.2.1 0), 40, .inl (q3 od))), (o4, .inl ((g.2.1 0), 40, .inl (q4 od)))] := by
  refine ct_v (lv := [(0, .ref t0), (1, .int (iI ((k : Nat) : Int))), (2, .ref o0), (3, .int (iI ((j : Nat) : Int)))]) (by decide) rfl (Nat.le_of_ble_eq_true rfl) rfl ?_
  intro x hC hR
  refine z_aload_n hC d_Tr_copyNode_0 rfl 0 rfl ?_
  refine z_iload_n hC d_Tr_copyNode_1 rfl 1 rfl ?_
  refine z_aload_n hC d_Tr_copyNode_2 rfl 2 rfl ?_
  refine z_iload_n hC d_Tr_copyNode_3 rfl 3 rfl ?_
  refine z_callV (q0 := 5) (ci := 7) (w' := [(t0, .inr (7, [.ref t1, .ref t2, .ref t3, .ref t4, .int (iI ((tn : Nat) : Int))])), (t1, .inl ((g.2.1 0), 40, .inl (q1 nd))), (t2, .inl ((g.2.1 0), 40, .inl (q2 nd))), (t3, .inl ((g.2.1 0), 40, .inl (q3 nd))), (t4, .inl ((g.2.1 0), 40, .inl (q4 nd))), (o0, .inr (7, [.ref o1, .ref o2, .ref o3, .ref o4, .int (iI ((on : Nat) : Int))])), (o1, .inl ((g.2.1 0), 40, .inl (q1 od))), (o2, .inl ((g.2.1 0), 40, .inl (q2 od))), (o3, .inl ((g.2.1 0), 40, .inl (q3 od))), (o4, .inl ((g.2.1 0), 40, .inl (q4 od)))]) (st1 := [.int ((od j).1), .int (iI ((k : Nat) : Int)), .ref t0]) hC (k_Tr_sortAt_N l g o0 o1 o2 o3 o4 on od j hon hj) mw_521 zv_Tr_sortAt rfl rfl ⟨Nat.le_of_ble_eq_true rfl, Nat.le_of_ble_eq_true rfl⟩ [5, 6, 7, 8, 9] rfl rfl rfl rfl rfl rfl rfl rfl (Nat.le_of_ble_eq_true rfl) d_Tr_copyNode_4 rfl ⟨Nat.zero_le _, Nat.zero_le _⟩ rfl ?_
  refine z_aload_n hC d_Tr_copyNode_7 rfl 2 rfl ?_
  refine z_iload_n hC d_Tr_copyNode_8 rfl 3 rfl ?_
  refine z_callV (q0 := 5) (ci := 7) (w' := [(t0, .inr (7, [.ref t1, .ref t2, .ref t3, .ref t4, .int (iI ((tn : Nat) : Int))])), (t1, .inl ((g.2.1 0), 40, .inl (q1 nd))), (t2, .inl ((g.2.1 0), 40, .inl (q2 nd))), (t3, .inl ((g.2.1 0), 40, .inl (q3 nd))), (t4, .inl ((g.2.1 0), 40, .inl (q4 nd))), (o0, .inr (7, [.ref o1, .ref o2, .ref o3, .ref o4, .int (iI ((on : Nat) : Int))])), (o1, .inl ((g.2.1 0), 40, .inl (q1 od))), (o2, .inl ((g.2.1 0), 40, .inl (q2 od))), (o3, .inl ((g.2.1 0), 40, .inl (q3 od))), (o4, .inl ((g.2.1 0), 40, .inl (q4 od)))]) (st1 := [.int ((od j).2.1), .int ((od j).1), .int (iI ((k : Nat) : Int)), .ref t0]) hC (k_Tr_indexAt_N l g o0 o1 o2 o3 o4 on od j hon hj) mw_525 zv_Tr_indexAt rfl rfl ⟨Nat.le_of_ble_eq_true rfl, Nat.le_of_ble_eq_true rfl⟩ [5, 6, 7, 8, 9] rfl rfl rfl rfl rfl rfl rfl rfl (Nat.le_of_ble_eq_true rfl) d_Tr_copyNode_9 rfl ⟨Nat.zero_le _, Nat.zero_le _⟩ rfl ?_
  refine z_aload_n hC d_Tr_copyNode_12 rfl 2 rfl ?_
  refine z_iload_n hC d_Tr_copyNode_13 rfl 3 rfl ?_
  refine z_callV (q0 := 5) (ci := 7) (w' := [(t0, .inr (7, [.ref t1, .ref t2, .ref t3, .ref t4, .int (iI ((tn : Nat) : Int))])), (t1, .inl ((g.2.1 0), 40, .inl (q1 nd))), (t2, .inl ((g.2.1 0), 40, .inl (q2 nd))), (t3, .inl ((g.2.1 0), 40, .inl (q3 nd))), (t4, .inl ((g.2.1 0), 40, .inl (q4 nd))), (o0, .inr (7, [.ref o1, .ref o2, .ref o3, .ref o4, .int (iI ((on : Nat) : Int))])), (o1, .inl ((g.2.1 0), 40, .inl (q1 od))), (o2, .inl ((g.2.1 0), 40, .inl (q2 od))), (o3, .inl ((g.2.1 0), 40, .inl (q3 od))), (o4, .inl ((g.2.1 0), 40, .inl (q4 od)))]) (st1 := [.int ((od j).2.2.1), .int ((od j).2.1), .int ((od j).1), .int (iI ((k : Nat) : Int)), .ref t0]) hC (k_Tr_leastAt_N l g o0 o1 o2 o3 o4 on od j hon hj) mw_529 zv_Tr_leastAt rfl rfl ⟨Nat.le_of_ble_eq_true rfl, Nat.le_of_ble_eq_true rfl⟩ [5, 6, 7, 8, 9] rfl rfl rfl rfl rfl rfl rfl rfl (Nat.le_of_ble_eq_true rfl) d_Tr_copyNode_14 rfl ⟨Nat.zero_le _, Nat.zero_le _⟩ rfl ?_
  refine z_aload_n hC d_Tr_copyNode_17 rfl 2 rfl ?_
  refine z_iload_n hC d_Tr_copyNode_18 rfl 3 rfl ?_
  refine z_callV (q0 := 5) (ci := 7) (w' := [(t0, .inr (7, [.ref t1, .ref t2, .ref t3, .ref t4, .int (iI ((tn : Nat) : Int))])), (t1, .inl ((g.2.1 0), 40, .inl (q1 nd))), (t2, .inl ((g.2.1 0), 40, .inl (q2 nd))), (t3, .inl ((g.2.1 0), 40, .inl (q3 nd))), (t4, .inl ((g.2.1 0), 40, .inl (q4 nd))), (o0, .inr (7, [.ref o1, .ref o2, .ref o3, .ref o4, .int (iI ((on : Nat) : Int))])), (o1, .inl ((g.2.1 0), 40, .inl (q1 od))), (o2, .inl ((g.2.1 0), 40, .inl (q2 od))), (o3, .inl ((g.2.1 0), 40, .inl (q3 od))), (o4, .inl ((g.2.1 0), 40, .inl (q4 od)))]) (st1 := [.int ((od j).2.2.2), .int ((od j).2.2.1), .int ((od j).2.1), .int ((od j).1), .int (iI ((k : Nat) : Int)), .ref t0]) hC (k_Tr_greatestAt_N l g o0 o1 o2 o3 o4 on od j hon hj) mw_533 zv_Tr_greatestAt rfl rfl ⟨Nat.le_of_ble_eq_true rfl, Nat.le_of_ble_eq_true rfl⟩ [5, 6, 7, 8, 9] rfl rfl rfl rfl rfl rfl rfl rfl (Nat.le_of_ble_eq_true rfl) d_Tr_copyNode_19 rfl ⟨Nat.zero_le _, Nat.zero_le _⟩ rfl ?_
  refine z_callV (q0 := 0) (ci := 7) (w' := [(t0, .inr (7, [.ref t1, .ref t2, .ref t3, .ref t4, .int (iI ((tn : Nat) : Int))])), (t1, .inl ((g.2.1 0), 40, .inl (q1 (up nd k (((od j).1), ((od j).2.1), ((od j).2.2.1), ((od j).2.2.2)))))), (t2, .inl ((g.2.1 0), 40, .inl (q2 (up nd k (((od j).1), ((od j).2.1), ((od j).2.2.1), ((od j).2.2.2)))))), (t3, .inl ((g.2.1 0), 40, .inl (q3 (up nd k (((od j).1), ((od j).2.1), ((od j).2.2.1), ((od j).2.2.2)))))), (t4, .inl ((g.2.1 0), 40, .inl (q4 (up nd k (((od j).1), ((od j).2.1), ((od j).2.2.1), ((od j).2.2.2)))))), (o0, .inr (7, [.ref o1, .ref o2, .ref o3, .ref o4, .int (iI ((on : Nat) : Int))])), (o1, .inl ((g.2.1 0), 40, .inl (q1 od))), (o2, .inl ((g.2.1 0), 40, .inl (q2 od))), (o3, .inl ((g.2.1 0), 40, .inl (q3 od))), (o4, .inl ((g.2.1 0), 40, .inl (q4 od)))]) (st1 := []) hC (k_Tr_put l g t0 t1 t2 t3 t4 tn nd k ((od j).1) ((od j).2.1) ((od j).2.2.1) ((od j).2.2.2) htn hk) mw_491 zv_Tr_put rfl rfl ⟨Nat.le_of_ble_eq_true rfl, Nat.le_of_ble_eq_true rfl⟩ [0, 1, 2, 3, 4] rfl rfl rfl rfl rfl rfl rfl rfl (Nat.le_of_ble_eq_true rfl) d_Tr_copyNode_22 rfl ⟨Nat.zero_le _, Nat.zero_le _⟩ rfl ?_
  exact Z.eq rfl rfl rfl rfl (hR _ _ d_Tr_copyNode_25)
set_option maxHeartbeats 4000000 in
set_option maxRecDepth 100000 in
theorem k_Tr_copyNode_s (l : Launch) (g : ZG) (t0 t1 t2 t3 t4 tn : Nat) (nd : Nat → QD) (k j : Nat) (htn : tn ≤ 40) (hk : k < tn) (hj : j < tn)   : Ct l g y_Tr_copyNode c_Tr_copyNode 4 none { frames := 2, cells := 0, slots := 0, locals := 46 } [.ref t0, .int (iI ((k : Nat) : Int)), .ref t0, .int (iI ((j : Nat) : Int))] [(t0, .inr (7, [.ref t1, .ref t2, .ref t3, .ref t4, .int (iI ((tn : Nat) : Int))])), (t1, .inl ((g.2.1 0), 40, .inl (q1 nd))), (t2, .inl ((g.2.1 0), 40, .inl (q2 nd))), (t3, .inl ((g.2.1 0), 40, .inl (q3 nd))), (t4, .inl ((g.2.1 0), 40, .inl (q4 nd)))] none [(t0, .inr (7, [.ref t1, .ref t2, .ref t3, .ref t4, .int (iI ((tn : Nat) : Int))])), (t1, .inl ((g.2.1 0), 40, .inl (q1 (up nd k (nd j))))), (t2, .inl ((g.2.1 0), 40, .inl (q2 (up nd k (nd j))))), (t3, .inl ((g.2.1 0), 40, .inl (q3 (up nd k (nd j))))), (t4, .inl ((g.2.1 0), 40, .inl (q4 (up nd k (nd j)))))] := by
  refine ct_v (lv := [(0, .ref t0), (1, .int (iI ((k : Nat) : Int))), (2, .ref t0), (3, .int (iI ((j : Nat) : Int)))]) (by decide) rfl (Nat.le_of_ble_eq_true rfl) rfl ?_
  intro x hC hR
  refine z_aload_n hC d_Tr_copyNode_0 rfl 0 rfl ?_
  refine z_iload_n hC d_Tr_copyNode_1 rfl 1 rfl ?_
  refine z_aload_n hC d_Tr_copyNode_2 rfl 2 rfl ?_
  refine z_iload_n hC d_Tr_copyNode_3 rfl 3 rfl ?_
  refine z_callV (q0 := 0) (ci := 7) (w' := [(t0, .inr (7, [.ref t1, .ref t2, .ref t3, .ref t4, .int (iI ((tn : Nat) : Int))])), (t1, .inl ((g.2.1 0), 40, .inl (q1 nd))), (t2, .inl ((g.2.1 0), 40, .inl (q2 nd))), (t3, .inl ((g.2.1 0), 40, .inl (q3 nd))), (t4, .inl ((g.2.1 0), 40, .inl (q4 nd)))]) (st1 := [.int ((nd j).1), .int (iI ((k : Nat) : Int)), .ref t0]) hC (k_Tr_sortAt_N l g t0 t1 t2 t3 t4 tn nd j htn hj) mw_521 zv_Tr_sortAt rfl rfl ⟨Nat.le_of_ble_eq_true rfl, Nat.le_of_ble_eq_true rfl⟩ [0, 1, 2, 3, 4] rfl rfl rfl rfl rfl rfl rfl rfl (Nat.le_of_ble_eq_true rfl) d_Tr_copyNode_4 rfl ⟨Nat.zero_le _, Nat.zero_le _⟩ rfl ?_
  refine z_aload_n hC d_Tr_copyNode_7 rfl 2 rfl ?_
  refine z_iload_n hC d_Tr_copyNode_8 rfl 3 rfl ?_
  refine z_callV (q0 := 0) (ci := 7) (w' := [(t0, .inr (7, [.ref t1, .ref t2, .ref t3, .ref t4, .int (iI ((tn : Nat) : Int))])), (t1, .inl ((g.2.1 0), 40, .inl (q1 nd))), (t2, .inl ((g.2.1 0), 40, .inl (q2 nd))), (t3, .inl ((g.2.1 0), 40, .inl (q3 nd))), (t4, .inl ((g.2.1 0), 40, .inl (q4 nd)))]) (st1 := [.int ((nd j).2.1), .int ((nd j).1), .int (iI ((k : Nat) : Int)), .ref t0]) hC (k_Tr_indexAt_N l g t0 t1 t2 t3 t4 tn nd j htn hj) mw_525 zv_Tr_indexAt rfl rfl ⟨Nat.le_of_ble_eq_true rfl, Nat.le_of_ble_eq_true rfl⟩ [0, 1, 2, 3, 4] rfl rfl rfl rfl rfl rfl rfl rfl (Nat.le_of_ble_eq_true rfl) d_Tr_copyNode_9 rfl ⟨Nat.zero_le _, Nat.zero_le _⟩ rfl ?_
  refine z_aload_n hC d_Tr_copyNode_12 rfl 2 rfl ?_
  refine z_iload_n hC d_Tr_copyNode_13 rfl 3 rfl ?_
  refine z_callV (q0 := 0) (ci := 7) (w' := [(t0, .inr (7, [.ref t1, .ref t2, .ref t3, .ref t4, .int (iI ((tn : Nat) : Int))])), (t1, .inl ((g.2.1 0), 40, .inl (q1 nd))), (t2, .inl ((g.2.1 0), 40, .inl (q2 nd))), (t3, .inl ((g.2.1 0), 40, .inl (q3 nd))), (t4, .inl ((g.2.1 0), 40, .inl (q4 nd)))]) (st1 := [.int ((nd j).2.2.1), .int ((nd j).2.1), .int ((nd j).1), .int (iI ((k : Nat) : Int)), .ref t0]) hC (k_Tr_leastAt_N l g t0 t1 t2 t3 t4 tn nd j htn hj) mw_529 zv_Tr_leastAt rfl rfl ⟨Nat.le_of_ble_eq_true rfl, Nat.le_of_ble_eq_true rfl⟩ [0, 1, 2, 3, 4] rfl rfl rfl rfl rfl rfl rfl rfl (Nat.le_of_ble_eq_true rfl) d_Tr_copyNode_14 rfl ⟨Nat.zero_le _, Nat.zero_le _⟩ rfl ?_
  refine z_aload_n hC d_Tr_copyNode_17 rfl 2 rfl ?_
  refine z_iload_n hC d_Tr_copyNode_18 rfl 3 rfl ?_
  refine z_callV (q0 := 0) (ci := 7) (w' := [(t0, .inr (7, [.ref t1, .ref t2, .ref t3, .ref t4, .int (iI ((tn : Nat) : Int))])), (t1, .inl ((g.2.1 0), 40, .inl (q1 nd))), (t2, .inl ((g.2.1 0), 40, .inl (q2 nd))), (t3, .inl ((g.2.1 0), 40, .inl (q3 nd))), (t4, .inl ((g.2.1 0), 40, .inl (q4 nd)))]) (st1 := [.int ((nd j).2.2.2), .int ((nd j).2.2.1), .int ((nd j).2.1), .int ((nd j).1), .int (iI ((k : Nat) : Int)), .ref t0]) hC (k_Tr_greatestAt_N l g t0 t1 t2 t3 t4 tn nd j htn hj) mw_533 zv_Tr_greatestAt rfl rfl ⟨Nat.le_of_ble_eq_true rfl, Nat.le_of_ble_eq_true rfl⟩ [0, 1, 2, 3, 4] rfl rfl rfl rfl rfl rfl rfl rfl (Nat.le_of_ble_eq_true rfl) d_Tr_copyNode_19 rfl ⟨Nat.zero_le _, Nat.zero_le _⟩ rfl ?_
  refine z_callV (q0 := 0) (ci := 7) (w' := [(t0, .inr (7, [.ref t1, .ref t2, .ref t3, .ref t4, .int (iI ((tn : Nat) : Int))])), (t1, .inl ((g.2.1 0), 40, .inl (q1 (up nd k (((nd j).1), ((nd j).2.1), ((nd j).2.2.1), ((nd j).2.2.2)))))), (t2, .inl ((g.2.1 0), 40, .inl (q2 (up nd k (((nd j).1), ((nd j).2.1), ((nd j).2.2.1), ((nd j).2.2.2)))))), (t3, .inl ((g.2.1 0), 40, .inl (q3 (up nd k (((nd j).1), ((nd j).2.1), ((nd j).2.2.1), ((nd j).2.2.2)))))), (t4, .inl ((g.2.1 0), 40, .inl (q4 (up nd k (((nd j).1), ((nd j).2.1), ((nd j).2.2.1), ((nd j).2.2.2))))))]) (st1 := []) hC (k_Tr_put l g t0 t1 t2 t3 t4 tn nd k ((nd j).1) ((nd j).2.1) ((nd j).2.2.1) ((nd j).2.2.2) htn hk) mw_491 zv_Tr_put rfl rfl ⟨Nat.le_of_ble_eq_true rfl, Nat.le_of_ble_eq_true rfl⟩ [0, 1, 2, 3, 4] rfl rfl rfl rfl rfl rfl rfl rfl (Nat.le_of_ble_eq_true rfl) d_Tr_copyNode_22 rfl ⟨Nat.zero_le _, Nat.zero_le _⟩ rfl ?_
  exact Z.eq rfl rfl rfl rfl (hR _ _ d_Tr_copyNode_25)
set_option maxHeartbeats 4000000 in
set_option maxRecDepth 100000 in
theorem k_Tr_insert (l : Launch) (g : ZG) (t0 t1 t2 t3 t4 tn : Nat) (nd : Nat → QD) (p : Nat) (s : Int32) (htn : tn ≤ 40) (hp : p ≤ tn)   : Ct l g y_Tr_insert c_Tr_insert 4 (some .boolean) { frames := 3, cells := 0, slots := 0, locals := 69 } [.ref t0, .int (iI ((p : Nat) : Int)), .int s] [(t0, .inr (7, [.ref t1, .ref t2, .ref t3, .ref t4, .int (iI ((tn : Nat) : Int))])), (t1, .inl ((g.2.1 0), 40, .inl (q1 nd))), (t2, .inl ((g.2.1 0), 40, .inl (q2 nd))), (t3, .inl ((g.2.1 0), 40, .inl (q3 nd))), (t4, .inl ((g.2.1 0), 40, .inl (q4 nd)))] (some (.int (iI (bI (decide (tn < 40)))))) [(t0, .inr (7, [.ref t1, .ref t2, .ref t3, .ref t4, .int (iI ((if tn < 40 then tn + 1 else tn : Nat) : Int))])), (t1, .inl ((g.2.1 0), 40, .inl (q1 (if tn < 40 then insN nd tn p (s, iI (-1), iI (-1), iI (-1)) else nd)))), (t2, .inl ((g.2.1 0), 40, .inl (q2 (if tn < 40 then insN nd tn p (s, iI (-1), iI (-1), iI (-1)) else nd)))), (t3, .inl ((g.2.1 0), 40, .inl (q3 (if tn < 40 then insN nd tn p (s, iI (-1), iI (-1), iI (-1)) else nd)))), (t4, .inl ((g.2.1 0), 40, .inl (q4 (if tn < 40 then insN nd tn p (s, iI (-1), iI (-1), iI (-1)) else nd))))] := by
  refine ct_z (lv := [(0, .ref t0), (1, .int (iI ((p : Nat) : Int))), (2, .int s)]) (by decide) rfl (Nat.le_of_ble_eq_true rfl) rfl ?_
  intro x hC hR
  refine z_aload_n hC d_Tr_insert_0 rfl 0 rfl ?_
  refine z_callV (q0 := 0) (ci := 7) (w' := [(t0, .inr (7, [.ref t1, .ref t2, .ref t3, .ref t4, .int (iI ((tn : Nat) : Int))])), (t1, .inl ((g.2.1 0), 40, .inl (q1 nd))), (t2, .inl ((g.2.1 0), 40, .inl (q2 nd))), (t3, .inl ((g.2.1 0), 40, .inl (q3 nd))), (t4, .inl ((g.2.1 0), 40, .inl (q4 nd)))]) (st1 := [.int (iI (bI (decide (40 ≤ tn))))]) hC (k_Tr_isFull l g t0 t1 t2 t3 t4 tn nd htn) mw_490 zv_Tr_isFull rfl rfl ⟨Nat.le_of_ble_eq_true rfl, Nat.le_of_ble_eq_true rfl⟩ [0, 1, 2, 3, 4] rfl rfl rfl rfl rfl rfl rfl rfl (Nat.le_of_ble_eq_true rfl) d_Tr_insert_1 rfl ⟨Nat.zero_le _, Nat.zero_le _⟩ rfl ?_
  refine z_ifneD (tgt := 11) hC d_Tr_insert_4 rfl (fun c_1 => ?_) (fun c_1 => ?_)
  · refine z_iconstN hC 0 d_Tr_insert_11 rfl ?_
    exact Z.eq (by first | (exfalso; omega) | (rw [if_pos (by omega), if_pos (by omega), ins_end hm (by omega)]) | (rw [if_neg (by omega), if_neg (by omega)])) rfl rfl (zb_f (decide_eq_false (by omega))) (hR _ _ d_Tr_insert_12)
  · refine z_iload_n hC d_Tr_insert_7 rfl 1 rfl ?_
    refine z_if_ge (tgt := 13) hC ((p : Nat) : Int) d_Tr_insert_8 rfl (iI_t (by omega)) (fun c_2 => ?_) (fun c_2 => ?_)
    · refine z_aload_n hC d_Tr_insert_13 rfl 0 rfl ?_
      refine z_dup hC d_Tr_insert_14 rfl ?_
      refine z_get hC hi_Tr 0 rfl rfl 4 (by decide) mw_135 (Or.inl rfl) rfl d_Tr_insert_15 ?_
      refine z_iconstN hC 1 d_Tr_insert_18 rfl ?_
      refine z_iaddN hC d_Tr_insert_19 ?_
      refine z_put (v := .int (iI ((tn + 1 : Nat) : Int))) (ty := .int) (w' := [(t0, .inr (7, [.ref t1, .ref t2, .ref t3, .ref t4, .int (iI ((tn + 1 : Nat) : Int))])), (t1, .inl ((g.2.1 0), 40, .inl (q1 nd))), (t2, .inl ((g.2.1 0), 40, .inl (q2 nd))), (t3, .inl ((g.2.1 0), 40, .inl (q3 nd))), (t4, .inl ((g.2.1 0), 40, .inl (q4 nd)))]) hC hi_Tr ty_Tr ok_Tr nm_Tr 0 rfl rfl 4 (by decide) mw_135 rfl rfl rfl rfl rfl (Nat.le_of_ble_eq_true rfl) rfl d_Tr_insert_20 ?_
      refine z_aload_n hC d_Tr_insert_23 rfl 0 rfl ?_
      refine z_get hC hi_Tr 0 rfl rfl 4 (by decide) mw_135 (Or.inl rfl) rfl d_Tr_insert_24 ?_
      refine z_iconstN hC 1 d_Tr_insert_27 rfl ?_
      refine z_isubN hC d_Tr_insert_28 (by omega) ?_
      refine z_istore_n (lv' := [(3, .int (iI (((tn + 1) - 1 : Nat) : Int))), (0, .ref t0), (1, .int (iI ((p : Nat) : Int))), (2, .int s)]) hC d_Tr_insert_29 rfl (by decide) rfl ?_
      have L_30 : ∀ (fu : Nat) (i : Nat) (m : Nat → QD), (p ≤ i) → (i ≤ tn) → (∀ k, m k = if i < k ∧ k ≤ tn then nd (k - 1) else nd k) → i < fu → Z x (0, 0) [(t0, .inr (7, [.ref t1, .ref t2, .ref t3, .ref t4, .int (iI ((tn + 1 : Nat) : Int))])), (t1, .inl ((g.2.1 0), 40, .inl (q1 m))), (t2, .inl ((g.2.1 0), 40, .inl (q2 m))), (t3, .inl ((g.2.1 0), 40, .inl (q3 m))), (t4, .inl ((g.2.1 0), 40, .inl (q4 m)))] 30 [(3, .int (iI ((i : Nat) : Int))), (0, .ref t0), (1, .int (iI ((p : Nat) : Int))), (2, .int s)] [] := by
        intro fu
        induction fu with
        | zero => intro i m hpi hin hm hmu; exact absurd hmu (Nat.not_lt_zero _)
        | succ fu ih_30 =>
          intro i m hpi hin hm hmu
          refine z_iload_n hC d_Tr_insert_30 rfl 0 rfl ?_
          refine z_iload_n hC d_Tr_insert_31 rfl 2 rfl ?_
          refine z_icmp_le (tgt := 50) hC ((i : Nat) : Int) ((p : Nat) : Int) d_Tr_insert_32 rfl (iI_t (by omega)) (iI_t (by omega)) (fun c_3 => ?_) (fun c_3 => ?_)
          · refine z_aload_n hC d_Tr_insert_50 rfl 1 rfl ?_
            refine z_iload_n hC d_Tr_insert_51 rfl 2 rfl ?_
            refine z_iload_n hC d_Tr_insert_52 rfl 3 rfl ?_
            refine z_iconst hC d_Tr_insert_53 ?_
            refine z_iconst hC d_Tr_insert_54 ?_
            refine z_iconst hC d_Tr_insert_55 ?_
            refine z_callV (q0 := 0) (ci := 7) (w' := [(t0, .inr (7, [.ref t1, .ref t2, .ref t3, .ref t4, .int (iI (((tn + 1) : Nat) : Int))])), (t1, .inl ((g.2.1 0), 40, .inl (q1 (up m p (s, (iI (-1)), (iI (-1)), (iI (-1))))))), (t2, .inl ((g.2.1 0), 40, .inl (q2 (up m p (s, (iI (-1)), (iI (-1)), (iI (-1))))))), (t3, .inl ((g.2.1 0), 40, .inl (q3 (up m p (s, (iI (-1)), (iI (-1)), (iI (-1))))))), (t4, .inl ((g.2.1 0), 40, .inl (q4 (up m p (s, (iI (-1)), (iI (-1)), (iI (-1)))))))]) (st1 := []) hC (k_Tr_put l g t0 t1 t2 t3 t4 (tn + 1) m p s (iI (-1)) (iI (-1)) (iI (-1)) (by omega) (by omega)) mw_491 zv_Tr_put rfl rfl ⟨Nat.le_of_ble_eq_true rfl, Nat.le_of_ble_eq_true rfl⟩ [0, 1, 2, 3, 4] rfl rfl rfl rfl rfl rfl rfl rfl (Nat.le_of_ble_eq_true rfl) d_Tr_insert_56 rfl ⟨Nat.zero_le _, Nat.zero_le _⟩ rfl ?_
            refine z_iconstN hC 1 d_Tr_insert_59 rfl ?_
            exact Z.eq (by first | (exfalso; omega) | (rw [if_pos (by omega), if_pos (by omega), ins_end hm (by omega)]) | (rw [if_neg (by omega), if_neg (by omega)])) rfl rfl (zb_t (decide_eq_true (by omega))) (hR _ _ d_Tr_insert_60)
          · refine z_aload_n hC d_Tr_insert_35 rfl 1 rfl ?_
            refine z_iload_n hC d_Tr_insert_36 rfl 0 rfl ?_
            refine z_aload_n hC d_Tr_insert_37 rfl 1 rfl ?_
            refine z_iload_n hC d_Tr_insert_38 rfl 0 rfl ?_
            refine z_iconstN hC 1 d_Tr_insert_39 rfl ?_
            refine z_isubN hC d_Tr_insert_40 (by omega) ?_
            refine z_callV (q0 := 0) (ci := 7) (w' := [(t0, .inr (7, [.ref t1, .ref t2, .ref t3, .ref t4, .int (iI (((tn + 1) : Nat) : Int))])), (t1, .inl ((g.2.1 0), 40, .inl (q1 (up m i (m (i - 1)))))), (t2, .inl ((g.2.1 0), 40, .inl (q2 (up m i (m (i - 1)))))), (t3, .inl ((g.2.1 0), 40, .inl (q3 (up m i (m (i - 1)))))), (t4, .inl ((g.2.1 0), 40, .inl (q4 (up m i (m (i - 1))))))]) (st1 := []) hC (k_Tr_copyNode_s l g t0 t1 t2 t3 t4 (tn + 1) m i (i - 1) (by omega) (by omega) (by omega)) mw_517 zv_Tr_copyNode rfl rfl ⟨Nat.le_of_ble_eq_true rfl, Nat.le_of_ble_eq_true rfl⟩ [0, 1, 2, 3, 4] rfl rfl rfl rfl rfl rfl rfl rfl (Nat.le_of_ble_eq_true rfl) d_Tr_insert_41 rfl ⟨Nat.zero_le _, Nat.zero_le _⟩ rfl ?_
            refine z_idecN (lv' := [(3, .int (iI ((i - 1 : Nat) : Int))), (0, .ref t0), (1, .int (iI ((p : Nat) : Int))), (2, .int s)]) hC d_Tr_insert_44 0 rfl (by omega) (by decide) rfl ?_
            refine z_goto (tgt := 30) hC d_Tr_insert_47 rfl ?_
            exact Zloc [0, 1, 2, 3] rfl (Z.eq (w' := [(t0, .inr (7, [.ref t1, .ref t2, .ref t3, .ref t4, .int (iI ((tn + 1 : Nat) : Int))])), (t1, .inl ((g.2.1 0), 40, .inl (q1 (up m i (m (i - 1)))))), (t2, .inl ((g.2.1 0), 40, .inl (q2 (up m i (m (i - 1)))))), (t3, .inl ((g.2.1 0), 40, .inl (q3 (up m i (m (i - 1)))))), (t4, .inl ((g.2.1 0), 40, .inl (q4 (up m i (m (i - 1))))))]) rfl rfl rfl rfl (ih_30 (i - 1) (up m i (m (i - 1))) (by omega) (by omega) (ins_go (by omega) hm (by omega)) (by omega)))
      exact Zloc [0, 1, 2, 3] rfl (Z.eq (w' := [(t0, .inr (7, [.ref t1, .ref t2, .ref t3, .ref t4, .int (iI ((tn + 1 : Nat) : Int))])), (t1, .inl ((g.2.1 0), 40, .inl (q1 nd))), (t2, .inl ((g.2.1 0), 40, .inl (q2 nd))), (t3, .inl ((g.2.1 0), 40, .inl (q3 nd))), (t4, .inl ((g.2.1 0), 40, .inl (q4 nd)))]) rfl rfl rfl rfl (L_30 _ ((tn + 1) - 1) nd (by omega) (by omega) (fun k => by rw [if_neg (by omega)]) (Nat.lt_succ_self _)))
    · refine z_iconstN hC 0 d_Tr_insert_11 rfl ?_
      exact Z.eq (by first | (exfalso; omega) | (rw [if_pos (by omega), if_pos (by omega), ins_end hm (by omega)]) | (rw [if_neg (by omega), if_neg (by omega)])) rfl rfl (zb_f (decide_eq_false (by omega))) (hR _ _ d_Tr_insert_12)
set_option maxHeartbeats 4000000 in
set_option maxRecDepth 100000 in
theorem k_Tr_copyFrom (l : Launch) (g : ZG) (t0 t1 t2 t3 t4 tn : Nat) (nd : Nat → QD) (o0 o1 o2 o3 o4 on : Nat) (od : Nat → QD) (htn : tn ≤ 40) (hon : on ≤ 40)   : Ct l g y_Tr_copyFrom c_Tr_copyFrom 3 none { frames := 3, cells := 0, slots := 0, locals := 69 } [.ref t0, .ref o0] [(t0, .inr (7, [.ref t1, .ref t2, .ref t3, .ref t4, .int (iI ((tn : Nat) : Int))])), (t1, .inl ((g.2.1 0), 40, .inl (q1 nd))), (t2, .inl ((g.2.1 0), 40, .inl (q2 nd))), (t3, .inl ((g.2.1 0), 40, .inl (q3 nd))), (t4, .inl ((g.2.1 0), 40, .inl (q4 nd))), (o0, .inr (7, [.ref o1, .ref o2, .ref o3, .ref o4, .int (iI ((on : Nat) : Int))])), (o1, .inl ((g.2.1 0), 40, .inl (q1 od))), (o2, .inl ((g.2.1 0), 40, .inl (q2 od))), (o3, .inl ((g.2.1 0), 40, .inl (q3 od))), (o4, .inl ((g.2.1 0), 40, .inl (q4 od)))] none [(t0, .inr (7, [.ref t1, .ref t2, .ref t3, .ref t4, .int (iI ((on : Nat) : Int))])), (t1, .inl ((g.2.1 0), 40, .inl (q1 (cpN nd od on)))), (t2, .inl ((g.2.1 0), 40, .inl (q2 (cpN nd od on)))), (t3, .inl ((g.2.1 0), 40, .inl (q3 (cpN nd od on)))), (t4, .inl ((g.2.1 0), 40, .inl (q4 (cpN nd od on)))), (o0, .inr (7, [.ref o1, .ref o2, .ref o3, .ref o4, .int (iI ((on : Nat) : Int))])), (o1, .inl ((g.2.1 0), 40, .inl (q1 od))), (o2, .inl ((g.2.1 0), 40, .inl (q2 od))), (o3, .inl ((g.2.1 0), 40, .inl (q3 od))), (o4, .inl ((g.2.1 0), 40, .inl (q4 od)))] := by
  refine ct_v (lv := [(0, .ref t0), (1, .ref o0)]) (by decide) rfl (Nat.le_of_ble_eq_true rfl) rfl ?_
  intro x hC hR
  refine z_aload_n hC d_Tr_copyFrom_0 rfl 0 rfl ?_
  refine z_aload_n hC d_Tr_copyFrom_1 rfl 1 rfl ?_
  refine z_get hC hi_Tr 5 rfl rfl 4 (by decide) mw_135 (Or.inl rfl) rfl d_Tr_copyFrom_2 ?_
  refine z_put (v := .int (iI ((on : Nat) : Int))) (ty := .int) (w' := [(t0, .inr (7, [.ref t1, .ref t2, .ref t3, .ref t4, .int (iI ((on : Nat) : Int))])), (t1, .inl ((g.2.1 0), 40, .inl (q1 nd))), (t2, .inl ((g.2.1 0), 40, .inl (q2 nd))), (t3, .inl ((g.2.1 0), 40, .inl (q3 nd))), (t4, .inl ((g.2.1 0), 40, .inl (q4 nd))), (o0, .inr (7, [.ref o1, .ref o2, .ref o3, .ref o4, .int (iI ((on : Nat) : Int))])), (o1, .inl ((g.2.1 0), 40, .inl (q1 od))), (o2, .inl ((g.2.1 0), 40, .inl (q2 od))), (o3, .inl ((g.2.1 0), 40, .inl (q3 od))), (o4, .inl ((g.2.1 0), 40, .inl (q4 od)))]) hC hi_Tr ty_Tr ok_Tr nm_Tr 0 rfl rfl 4 (by decide) mw_135 rfl rfl rfl rfl rfl (Nat.le_of_ble_eq_true rfl) rfl d_Tr_copyFrom_5 ?_
  refine z_iconstN hC 0 d_Tr_copyFrom_8 rfl ?_
  refine z_istore_n (lv' := [(2, .int (iI ((0 : Nat) : Int))), (0, .ref t0), (1, .ref o0)]) hC d_Tr_copyFrom_9 rfl (by decide) rfl ?_
  have L_10 : ∀ (fu : Nat) (i : Nat) (m : Nat → QD), (i ≤ on) → (∀ k, m k = if k < i then od k else nd k) → on - i < fu → Z x (0, 0) [(t0, .inr (7, [.ref t1, .ref t2, .ref t3, .ref t4, .int (iI ((on : Nat) : Int))])), (t1, .inl ((g.2.1 0), 40, .inl (q1 m))), (t2, .inl ((g.2.1 0), 40, .inl (q2 m))), (t3, .inl ((g.2.1 0), 40, .inl (q3 m))), (t4, .inl ((g.2.1 0), 40, .inl (q4 m))), (o0, .inr (7, [.ref o1, .ref o2, .ref o3, .ref o4, .int (iI ((on : Nat) : Int))])), (o1, .inl ((g.2.1 0), 40, .inl (q1 od))), (o2, .inl ((g.2.1 0), 40, .inl (q2 od))), (o3, .inl ((g.2.1 0), 40, .inl (q3 od))), (o4, .inl ((g.2.1 0), 40, .inl (q4 od)))] 10 [(2, .int (iI ((i : Nat) : Int))), (0, .ref t0), (1, .ref o0)] [] := by
    intro fu
    induction fu with
    | zero => intro i m hi hm hmu; exact absurd hmu (Nat.not_lt_zero _)
    | succ fu ih_10 =>
      intro i m hi hm hmu
      refine z_iload_n hC d_Tr_copyFrom_10 rfl 0 rfl ?_
      refine z_aload_n hC d_Tr_copyFrom_11 rfl 1 rfl ?_
      refine z_get hC hi_Tr 0 rfl rfl 4 (by decide) mw_135 (Or.inl rfl) rfl d_Tr_copyFrom_12 ?_
      refine z_icmp_ge (tgt := 31) hC ((i : Nat) : Int) ((on : Nat) : Int) d_Tr_copyFrom_15 rfl (iI_t (by omega)) (iI_t (by omega)) (fun c_1 => ?_) (fun c_1 => ?_)
      · exact Z.eq (by rw [show m = cpN nd od on from funext (fun k => by rw [hm, cpN, show i = on by omega])]) rfl rfl rfl (hR _ _ d_Tr_copyFrom_31)
      · refine z_aload_n hC d_Tr_copyFrom_18 rfl 1 rfl ?_
        refine z_iload_n hC d_Tr_copyFrom_19 rfl 0 rfl ?_
        refine z_aload_n hC d_Tr_copyFrom_20 rfl 2 rfl ?_
        refine z_iload_n hC d_Tr_copyFrom_21 rfl 0 rfl ?_
        refine z_callV (q0 := 0) (ci := 7) (w' := [(t0, .inr (7, [.ref t1, .ref t2, .ref t3, .ref t4, .int (iI ((on : Nat) : Int))])), (t1, .inl ((g.2.1 0), 40, .inl (q1 (up m i (od i))))), (t2, .inl ((g.2.1 0), 40, .inl (q2 (up m i (od i))))), (t3, .inl ((g.2.1 0), 40, .inl (q3 (up m i (od i))))), (t4, .inl ((g.2.1 0), 40, .inl (q4 (up m i (od i))))), (o0, .inr (7, [.ref o1, .ref o2, .ref o3, .ref o4, .int (iI ((on : Nat) : Int))])), (o1, .inl ((g.2.1 0), 40, .inl (q1 od))), (o2, .inl ((g.2.1 0), 40, .inl (q2 od))), (o3, .inl ((g.2.1 0), 40, .inl (q3 od))), (o4, .inl ((g.2.1 0), 40, .inl (q4 od)))]) (st1 := []) hC (k_Tr_copyNode l g t0 t1 t2 t3 t4 on m o0 o1 o2 o3 o4 on od i i hon hon (by omega) (by omega)) mw_517 zv_Tr_copyNode rfl rfl ⟨Nat.le_of_ble_eq_true rfl, Nat.le_of_ble_eq_true rfl⟩ [0, 1, 2, 3, 4, 5, 6, 7, 8, 9] rfl rfl rfl rfl rfl rfl rfl rfl (Nat.le_of_ble_eq_true rfl) d_Tr_copyFrom_22 rfl ⟨Nat.zero_le _, Nat.zero_le _⟩ rfl ?_
        refine z_iincN (lv' := [(2, .int (iI ((i + 1 : Nat) : Int))), (0, .ref t0), (1, .ref o0)]) hC 1 d_Tr_copyFrom_25 rfl 0 rfl (by decide) rfl ?_
        refine z_goto (tgt := 10) hC d_Tr_copyFrom_28 rfl ?_
        exact Zloc [0, 1, 2] rfl (Z.eq (w' := [(t0, .inr (7, [.ref t1, .ref t2, .ref t3, .ref t4, .int (iI ((on : Nat) : Int))])), (t1, .inl ((g.2.1 0), 40, .inl (q1 (up m i (od i))))), (t2, .inl ((g.2.1 0), 40, .inl (q2 (up m i (od i))))), (t3, .inl ((g.2.1 0), 40, .inl (q3 (up m i (od i))))), (t4, .inl ((g.2.1 0), 40, .inl (q4 (up m i (od i))))), (o0, .inr (7, [.ref o1, .ref o2, .ref o3, .ref o4, .int (iI ((on : Nat) : Int))])), (o1, .inl ((g.2.1 0), 40, .inl (q1 od))), (o2, .inl ((g.2.1 0), 40, .inl (q2 od))), (o3, .inl ((g.2.1 0), 40, .inl (q3 od))), (o4, .inl ((g.2.1 0), 40, .inl (q4 od)))]) rfl rfl rfl rfl (ih_10 (i + 1) (up m i (od i)) (by omega) (cp_go hm) (by omega)))
  exact Zloc [0, 1, 2] rfl (Z.eq (w' := [(t0, .inr (7, [.ref t1, .ref t2, .ref t3, .ref t4, .int (iI ((on : Nat) : Int))])), (t1, .inl ((g.2.1 0), 40, .inl (q1 nd))), (t2, .inl ((g.2.1 0), 40, .inl (q2 nd))), (t3, .inl ((g.2.1 0), 40, .inl (q3 nd))), (t4, .inl ((g.2.1 0), 40, .inl (q4 nd))), (o0, .inr (7, [.ref o1, .ref o2, .ref o3, .ref o4, .int (iI ((on : Nat) : Int))])), (o1, .inl ((g.2.1 0), 40, .inl (q1 od))), (o2, .inl ((g.2.1 0), 40, .inl (q2 od))), (o3, .inl ((g.2.1 0), 40, .inl (q3 od))), (o4, .inl ((g.2.1 0), 40, .inl (q4 od)))]) rfl rfl rfl rfl (L_10 _ 0 nd (by omega) (fun k => by rw [if_neg (by omega)]) (Nat.lt_succ_self _)))
set_option maxHeartbeats 4000000 in
set_option maxRecDepth 100000 in
theorem k_Tr_isNodeLike (l : Launch) (g : ZG) (t0 t1 t2 t3 t4 tn : Nat) (nd : Nat → QD) (o0 o1 o2 o3 o4 on : Nat) (od : Nat → QD) (k : Nat) (htn : tn ≤ 40) (hon : on ≤ 40) (hk : k < tn) (hj : k < on)   : Ct l g y_Tr_isNodeLike c_Tr_isNodeLike 3 (some .boolean) { frames := 2, cells := 0, slots := 0, locals := 42 } [.ref t0, .ref o0, .int (iI ((k : Nat) : Int))] [(t0, .inr (7, [.ref t1, .ref t2, .ref t3, .ref t4, .int (iI ((tn : Nat) : Int))])), (t1, .inl ((g.2.1 0), 40, .inl (q1 nd))), (t2, .inl ((g.2.1 0), 40, .inl (q2 nd))), (t3, .inl ((g.2.1 0), 40, .inl (q3 nd))), (t4, .inl ((g.2.1 0), 40, .inl (q4 nd))), (o0, .inr (7, [.ref o1, .ref o2, .ref o3, .ref o4, .int (iI ((on : Nat) : Int))])), (o1, .inl ((g.2.1 0), 40, .inl (q1 od))), (o2, .inl ((g.2.1 0), 40, .inl (q2 od))), (o3, .inl ((g.2.1 0), 40, .inl (q3 od))), (o4, .inl ((g.2.1 0), 40, .inl (q4 od)))] (some (.int (iI (bI (decide (nd k = od k)))))) [(t0, .inr (7, [.ref t1, .ref t2, .ref t3, .ref t4, .int (iI ((tn : Nat) : Int))])), (t1, .inl ((g.2.1 0), 40, .inl (q1 nd))), (t2, .inl ((g.2.1 0), 40, .inl (q2 nd))), (t3, .inl ((g.2.1 0), 40, .inl (q3 nd))), (t4, .inl ((g.2.1 0), 40, .inl (q4 nd))), (o0, .inr (7, [.ref o1, .ref o2, .ref o3, .ref o4, .int (iI ((on : Nat) : Int))])), (o1, .inl ((g.2.1 0), 40, .inl (q1 od))), (o2, .inl ((g.2.1 0), 40, .inl (q2 od))), (o3, .inl ((g.2.1 0), 40, .inl (q3 od))), (o4, .inl ((g.2.1 0), 40, .inl (q4 od)))] := by
  refine ct_z (lv := [(0, .ref t0), (1, .ref o0), (2, .int (iI ((k : Nat) : Int)))]) (by decide) rfl (Nat.le_of_ble_eq_true rfl) rfl ?_
  intro x hC hR
  refine z_aload_n hC d_Tr_isNodeLike_0 rfl 0 rfl ?_
  refine z_iload_n hC d_Tr_isNodeLike_1 rfl 2 rfl ?_
  refine z_callV (q0 := 0) (ci := 7) (w' := [(t0, .inr (7, [.ref t1, .ref t2, .ref t3, .ref t4, .int (iI ((tn : Nat) : Int))])), (t1, .inl ((g.2.1 0), 40, .inl (q1 nd))), (t2, .inl ((g.2.1 0), 40, .inl (q2 nd))), (t3, .inl ((g.2.1 0), 40, .inl (q3 nd))), (t4, .inl ((g.2.1 0), 40, .inl (q4 nd))), (o0, .inr (7, [.ref o1, .ref o2, .ref o3, .ref o4, .int (iI ((on : Nat) : Int))])), (o1, .inl ((g.2.1 0), 40, .inl (q1 od))), (o2, .inl ((g.2.1 0), 40, .inl (q2 od))), (o3, .inl ((g.2.1 0), 40, .inl (q3 od))), (o4, .inl ((g.2.1 0), 40, .inl (q4 od)))]) (st1 := [.int ((nd k).1)]) hC (k_Tr_sortAt_N l g t0 t1 t2 t3 t4 tn nd k htn hk) mw_521 zv_Tr_sortAt rfl rfl ⟨Nat.le_of_ble_eq_true rfl, Nat.le_of_ble_eq_true rfl⟩ [0, 1, 2, 3, 4] rfl rfl rfl rfl rfl rfl rfl rfl (Nat.le_of_ble_eq_true rfl) d_Tr_isNodeLike_2 rfl ⟨Nat.zero_le _, Nat.zero_le _⟩ rfl ?_
  refine z_aload_n hC d_Tr_isNodeLike_5 rfl 1 rfl ?_
  refine z_iload_n hC d_Tr_isNodeLike_6 rfl 2 rfl ?_
  refine z_callV (q0 := 5) (ci := 7) (w' := [(t0, .inr (7, [.ref t1, .ref t2, .ref t3, .ref t4, .int (iI ((tn : Nat) : Int))])), (t1, .inl ((g.2.1 0), 40, .inl (q1 nd))), (t2, .inl ((g.2.1 0), 40, .inl (q2 nd))), (t3, .inl ((g.2.1 0), 40, .inl (q3 nd))), (t4, .inl ((g.2.1 0), 40, .inl (q4 nd))), (o0, .inr (7, [.ref o1, .ref o2, .ref o3, .ref o4, .int (iI ((on : Nat) : Int))])), (o1, .inl ((g.2.1 0), 40, .inl (q1 od))), (o2, .inl ((g.2.1 0), 40, .inl (q2 od))), (o3, .inl ((g.2.1 0), 40, .inl (q3 od))), (o4, .inl ((g.2.1 0), 40, .inl (q4 od)))]) (st1 := [.int ((od k).1), .int ((nd k).1)]) hC (k_Tr_sortAt_N l g o0 o1 o2 o3 o4 on od k hon hj) mw_521 zv_Tr_sortAt rfl rfl ⟨Nat.le_of_ble_eq_true rfl, Nat.le_of_ble_eq_true rfl⟩ [5, 6, 7, 8, 9] rfl rfl rfl rfl rfl rfl rfl rfl (Nat.le_of_ble_eq_true rfl) d_Tr_isNodeLike_7 rfl ⟨Nat.zero_le _, Nat.zero_le _⟩ rfl ?_
  refine z_icmp_neR (tgt := 56) hC d_Tr_isNodeLike_10 rfl (fun c_1 => ?_) (fun c_1 => ?_)
  · refine z_iconstN hC 0 d_Tr_isNodeLike_56 rfl ?_
    exact Z.eq rfl rfl rfl (zb_f (decide_eq_false (by first | (exact Prod.ext (by assumption) (Prod.ext (by assumption) (Prod.ext (by assumption) (by assumption)))) | (intro e; simp_all)))) (hR _ _ d_Tr_isNodeLike_57)
  · refine z_aload_n hC d_Tr_isNodeLike_13 rfl 0 rfl ?_
    refine z_iload_n hC d_Tr_isNodeLike_14 rfl 2 rfl ?_
    refine z_callV (q0 := 0) (ci := 7) (w' := [(t0, .inr (7, [.ref t1, .ref t2, .ref t3, .ref t4, .int (iI ((tn : Nat) : Int))])), (t1, .inl ((g.2.1 0), 40, .inl (q1 nd))), (t2, .inl ((g.2.1 0), 40, .inl (q2 nd))), (t3, .inl ((g.2.1 0), 40, .inl (q3 nd))), (t4, .inl ((g.2.1 0), 40, .inl (q4 nd))), (o0, .inr (7, [.ref o1, .ref o2, .ref o3, .ref o4, .int (iI ((on : Nat) : Int))])), (o1, .inl ((g.2.1 0), 40, .inl (q1 od))), (o2, .inl ((g.2.1 0), 40, .inl (q2 od))), (o3, .inl ((g.2.1 0), 40, .inl (q3 od))), (o4, .inl ((g.2.1 0), 40, .inl (q4 od)))]) (st1 := [.int ((nd k).2.1)]) hC (k_Tr_indexAt_N l g t0 t1 t2 t3 t4 tn nd k htn hk) mw_525 zv_Tr_indexAt rfl rfl ⟨Nat.le_of_ble_eq_true rfl, Nat.le_of_ble_eq_true rfl⟩ [0, 1, 2, 3, 4] rfl rfl rfl rfl rfl rfl rfl rfl (Nat.le_of_ble_eq_true rfl) d_Tr_isNodeLike_15 rfl ⟨Nat.zero_le _, Nat.zero_le _⟩ rfl ?_
    refine z_aload_n hC d_Tr_isNodeLike_18 rfl 1 rfl ?_
    refine z_iload_n hC d_Tr_isNodeLike_19 rfl 2 rfl ?_
    refine z_callV (q0 := 5) (ci := 7) (w' := [(t0, .inr (7, [.ref t1, .ref t2, .ref t3, .ref t4, .int (iI ((tn : Nat) : Int))])), (t1, .inl ((g.2.1 0), 40, .inl (q1 nd))), (t2, .inl ((g.2.1 0), 40, .inl (q2 nd))), (t3, .inl ((g.2.1 0), 40, .inl (q3 nd))), (t4, .inl ((g.2.1 0), 40, .inl (q4 nd))), (o0, .inr (7, [.ref o1, .ref o2, .ref o3, .ref o4, .int (iI ((on : Nat) : Int))])), (o1, .inl ((g.2.1 0), 40, .inl (q1 od))), (o2, .inl ((g.2.1 0), 40, .inl (q2 od))), (o3, .inl ((g.2.1 0), 40, .inl (q3 od))), (o4, .inl ((g.2.1 0), 40, .inl (q4 od)))]) (st1 := [.int ((od k).2.1), .int ((nd k).2.1)]) hC (k_Tr_indexAt_N l g o0 o1 o2 o3 o4 on od k hon hj) mw_525 zv_Tr_indexAt rfl rfl ⟨Nat.le_of_ble_eq_true rfl, Nat.le_of_ble_eq_true rfl⟩ [5, 6, 7, 8, 9] rfl rfl rfl rfl rfl rfl rfl rfl (Nat.le_of_ble_eq_true rfl) d_Tr_isNodeLike_20 rfl ⟨Nat.zero_le _, Nat.zero_le _⟩ rfl ?_
    refine z_icmp_neR (tgt := 56) hC d_Tr_isNodeLike_23 rfl (fun c_2 => ?_) (fun c_2 => ?_)
    · refine z_iconstN hC 0 d_Tr_isNodeLike_56 rfl ?_
      exact Z.eq rfl rfl rfl (zb_f (decide_eq_false (by first | (exact Prod.ext (by assumption) (Prod.ext (by assumption) (Prod.ext (by assumption) (by assumption)))) | (intro e; simp_all)))) (hR _ _ d_Tr_isNodeLike_57)
    · refine z_aload_n hC d_Tr_isNodeLike_26 rfl 0 rfl ?_
      refine z_iload_n hC d_Tr_isNodeLike_27 rfl 2 rfl ?_
      refine z_callV (q0 := 0) (ci := 7) (w' := [(t0, .inr (7, [.ref t1, .ref t2, .ref t3, .ref t4, .int (iI ((tn : Nat) : Int))])), (t1, .inl ((g.2.1 0), 40, .inl (q1 nd))), (t2, .inl ((g.2.1 0), 40, .inl (q2 nd))), (t3, .inl ((g.2.1 0), 40, .inl (q3 nd))), (t4, .inl ((g.2.1 0), 40, .inl (q4 nd))), (o0, .inr (7, [.ref o1, .ref o2, .ref o3, .ref o4, .int (iI ((on : Nat) : Int))])), (o1, .inl ((g.2.1 0), 40, .inl (q1 od))), (o2, .inl ((g.2.1 0), 40, .inl (q2 od))), (o3, .inl ((g.2.1 0), 40, .inl (q3 od))), (o4, .inl ((g.2.1 0), 40, .inl (q4 od)))]) (st1 := [.int ((nd k).2.2.1)]) hC (k_Tr_leastAt_N l g t0 t1 t2 t3 t4 tn nd k htn hk) mw_529 zv_Tr_leastAt rfl rfl ⟨Nat.le_of_ble_eq_true rfl, Nat.le_of_ble_eq_true rfl⟩ [0, 1, 2, 3, 4] rfl rfl rfl rfl rfl rfl rfl rfl (Nat.le_of_ble_eq_true rfl) d_Tr_isNodeLike_28 rfl ⟨Nat.zero_le _, Nat.zero_le _⟩ rfl ?_
      refine z_aload_n hC d_Tr_isNodeLike_31 rfl 1 rfl ?_
      refine z_iload_n hC d_Tr_isNodeLike_32 rfl 2 rfl ?_
      refine z_callV (q0 := 5) (ci := 7) (w' := [(t0, .inr (7, [.ref t1, .ref t2, .ref t3, .ref t4, .int (iI ((tn : Nat) : Int))])), (t1, .inl ((g.2.1 0), 40, .inl (q1 nd))), (t2, .inl ((g.2.1 0), 40, .inl (q2 nd))), (t3, .inl ((g.2.1 0), 40, .inl (q3 nd))), (t4, .inl ((g.2.1 0), 40, .inl (q4 nd))), (o0, .inr (7, [.ref o1, .ref o2, .ref o3, .ref o4, .int (iI ((on : Nat) : Int))])), (o1, .inl ((g.2.1 0), 40, .inl (q1 od))), (o2, .inl ((g.2.1 0), 40, .inl (q2 od))), (o3, .inl ((g.2.1 0), 40, .inl (q3 od))), (o4, .inl ((g.2.1 0), 40, .inl (q4 od)))]) (st1 := [.int ((od k).2.2.1), .int ((nd k).2.2.1)]) hC (k_Tr_leastAt_N l g o0 o1 o2 o3 o4 on od k hon hj) mw_529 zv_Tr_leastAt rfl rfl ⟨Nat.le_of_ble_eq_true rfl, Nat.le_of_ble_eq_true rfl⟩ [5, 6, 7, 8, 9] rfl rfl rfl rfl rfl rfl rfl rfl (Nat.le_of_ble_eq_true rfl) d_Tr_isNodeLike_33 rfl ⟨Nat.zero_le _, Nat.zero_le _⟩ rfl ?_
      refine z_icmp_neR (tgt := 56) hC d_Tr_isNodeLike_36 rfl (fun c_3 => ?_) (fun c_3 => ?_)
      · refine z_iconstN hC 0 d_Tr_isNodeLike_56 rfl ?_
        exact Z.eq rfl rfl rfl (zb_f (decide_eq_false (by first | (exact Prod.ext (by assumption) (Prod.ext (by assumption) (Prod.ext (by assumption) (by assumption)))) | (intro e; simp_all)))) (hR _ _ d_Tr_isNodeLike_57)
      · refine z_aload_n hC d_Tr_isNodeLike_39 rfl 0 rfl ?_
        refine z_iload_n hC d_Tr_isNodeLike_40 rfl 2 rfl ?_
        refine z_callV (q0 := 0) (ci := 7) (w' := [(t0, .inr (7, [.ref t1, .ref t2, .ref t3, .ref t4, .int (iI ((tn : Nat) : Int))])), (t1, .inl ((g.2.1 0), 40, .inl (q1 nd))), (t2, .inl ((g.2.1 0), 40, .inl (q2 nd))), (t3, .inl ((g.2.1 0), 40, .inl (q3 nd))), (t4, .inl ((g.2.1 0), 40, .inl (q4 nd))), (o0, .inr (7, [.ref o1, .ref o2, .ref o3, .ref o4, .int (iI ((on : Nat) : Int))])), (o1, .inl ((g.2.1 0), 40, .inl (q1 od))), (o2, .inl ((g.2.1 0), 40, .inl (q2 od))), (o3, .inl ((g.2.1 0), 40, .inl (q3 od))), (o4, .inl ((g.2.1 0), 40, .inl (q4 od)))]) (st1 := [.int ((nd k).2.2.2)]) hC (k_Tr_greatestAt_N l g t0 t1 t2 t3 t4 tn nd k htn hk) mw_533 zv_Tr_greatestAt rfl rfl ⟨Nat.le_of_ble_eq_true rfl, Nat.le_of_ble_eq_true rfl⟩ [0, 1, 2, 3, 4] rfl rfl rfl rfl rfl rfl rfl rfl (Nat.le_of_ble_eq_true rfl) d_Tr_isNodeLike_41 rfl ⟨Nat.zero_le _, Nat.zero_le _⟩ rfl ?_
        refine z_aload_n hC d_Tr_isNodeLike_44 rfl 1 rfl ?_
        refine z_iload_n hC d_Tr_isNodeLike_45 rfl 2 rfl ?_
        refine z_callV (q0 := 5) (ci := 7) (w' := [(t0, .inr (7, [.ref t1, .ref t2, .ref t3, .ref t4, .int (iI ((tn : Nat) : Int))])), (t1, .inl ((g.2.1 0), 40, .inl (q1 nd))), (t2, .inl ((g.2.1 0), 40, .inl (q2 nd))), (t3, .inl ((g.2.1 0), 40, .inl (q3 nd))), (t4, .inl ((g.2.1 0), 40, .inl (q4 nd))), (o0, .inr (7, [.ref o1, .ref o2, .ref o3, .ref o4, .int (iI ((on : Nat) : Int))])), (o1, .inl ((g.2.1 0), 40, .inl (q1 od))), (o2, .inl ((g.2.1 0), 40, .inl (q2 od))), (o3, .inl ((g.2.1 0), 40, .inl (q3 od))), (o4, .inl ((g.2.1 0), 40, .inl (q4 od)))]) (st1 := [.int ((od k).2.2.2), .int ((nd k).2.2.2)]) hC (k_Tr_greatestAt_N l g o0 o1 o2 o3 o4 on od k hon hj) mw_533 zv_Tr_greatestAt rfl rfl ⟨Nat.le_of_ble_eq_true rfl, Nat.le_of_ble_eq_true rfl⟩ [5, 6, 7, 8, 9] rfl rfl rfl rfl rfl rfl rfl rfl (Nat.le_of_ble_eq_true rfl) d_Tr_isNodeLike_46 rfl ⟨Nat.zero_le _, Nat.zero_le _⟩ rfl ?_
        refine z_icmp_neR (tgt := 56) hC d_Tr_isNodeLike_49 rfl (fun c_4 => ?_) (fun c_4 => ?_)
        · refine z_iconstN hC 0 d_Tr_isNodeLike_56 rfl ?_
          exact Z.eq rfl rfl rfl (zb_f (decide_eq_false (by first | (exact Prod.ext (by assumption) (Prod.ext (by assumption) (Prod.ext (by assumption) (by assumption)))) | (intro e; simp_all)))) (hR _ _ d_Tr_isNodeLike_57)
        · refine z_iconstN hC 1 d_Tr_isNodeLike_52 rfl ?_
          refine z_goto (tgt := 57) hC d_Tr_isNodeLike_53 rfl ?_
          exact Z.eq rfl rfl rfl (zb_t (decide_eq_true (by first | (exact Prod.ext (by assumption) (Prod.ext (by assumption) (Prod.ext (by assumption) (by assumption)))) | (intro e; simp_all)))) (hR _ _ d_Tr_isNodeLike_57)
set_option maxHeartbeats 4000000 in
set_option maxRecDepth 100000 in
theorem k_Tr_isLike (l : Launch) (g : ZG) (t0 t1 t2 t3 t4 tn : Nat) (nd : Nat → QD) (o0 o1 o2 o3 o4 on : Nat) (od : Nat → QD) (htn : tn ≤ 40) (hon : on ≤ 40)   : Ct l g y_Tr_isLike c_Tr_isLike 3 (some .boolean) { frames := 3, cells := 0, slots := 0, locals := 64 } [.ref t0, .ref o0] [(t0, .inr (7, [.ref t1, .ref t2, .ref t3, .ref t4, .int (iI ((tn : Nat) : Int))])), (t1, .inl ((g.2.1 0), 40, .inl (q1 nd))), (t2, .inl ((g.2.1 0), 40, .inl (q2 nd))), (t3, .inl ((g.2.1 0), 40, .inl (q3 nd))), (t4, .inl ((g.2.1 0), 40, .inl (q4 nd))), (o0, .inr (7, [.ref o1, .ref o2, .ref o3, .ref o4, .int (iI ((on : Nat) : Int))])), (o1, .inl ((g.2.1 0), 40, .inl (q1 od))), (o2, .inl ((g.2.1 0), 40, .inl (q2 od))), (o3, .inl ((g.2.1 0), 40, .inl (q3 od))), (o4, .inl ((g.2.1 0), 40, .inl (q4 od)))] (some (.int (iI (bI (decide (tn = on) && allB (fun k => decide (nd k = od k)) tn))))) [(t0, .inr (7, [.ref t1, .ref t2, .ref t3, .ref t4, .int (iI ((tn : Nat) : Int))])), (t1, .inl ((g.2.1 0), 40, .inl (q1 nd))), (t2, .inl ((g.2.1 0), 40, .inl (q2 nd))), (t3, .inl ((g.2.1 0), 40, .inl (q3 nd))), (t4, .inl ((g.2.1 0), 40, .inl (q4 nd))), (o0, .inr (7, [.ref o1, .ref o2, .ref o3, .ref o4, .int (iI ((on : Nat) : Int))])), (o1, .inl ((g.2.1 0), 40, .inl (q1 od))), (o2, .inl ((g.2.1 0), 40, .inl (q2 od))), (o3, .inl ((g.2.1 0), 40, .inl (q3 od))), (o4, .inl ((g.2.1 0), 40, .inl (q4 od)))] := by
  refine ct_z (lv := [(0, .ref t0), (1, .ref o0)]) (by decide) rfl (Nat.le_of_ble_eq_true rfl) rfl ?_
  intro x hC hR
  refine z_aload_n hC d_Tr_isLike_0 rfl 0 rfl ?_
  refine z_get hC hi_Tr 0 rfl rfl 4 (by decide) mw_135 (Or.inl rfl) rfl d_Tr_isLike_1 ?_
  refine z_aload_n hC d_Tr_isLike_4 rfl 1 rfl ?_
  refine z_get hC hi_Tr 5 rfl rfl 4 (by decide) mw_135 (Or.inl rfl) rfl d_Tr_isLike_5 ?_
  refine z_icmp_eq (tgt := 13) hC ((tn : Nat) : Int) ((on : Nat) : Int) d_Tr_isLike_8 rfl (iI_t (by omega)) (iI_t (by omega)) (fun c_1 => ?_) (fun c_1 => ?_)
  · refine z_iconstN hC 0 d_Tr_isLike_13 rfl ?_
    refine z_istore_n (lv' := [(2, .int (iI ((0 : Nat) : Int))), (0, .ref t0), (1, .ref o0)]) hC d_Tr_isLike_14 rfl (by decide) rfl ?_
    have L_15 : ∀ (fu : Nat) (i : Nat), (i ≤ tn) → (∀ k, k < i → nd k = od k) → tn - i < fu → Z x (0, 0) [(t0, .inr (7, [.ref t1, .ref t2, .ref t3, .ref t4, .int (iI ((tn : Nat) : Int))])), (t1, .inl ((g.2.1 0), 40, .inl (q1 nd))), (t2, .inl ((g.2.1 0), 40, .inl (q2 nd))), (t3, .inl ((g.2.1 0), 40, .inl (q3 nd))), (t4, .inl ((g.2.1 0), 40, .inl (q4 nd))), (o0, .inr (7, [.ref o1, .ref o2, .ref o3, .ref o4, .int (iI ((on : Nat) : Int))])), (o1, .inl ((g.2.1 0), 40, .inl (q1 od))), (o2, .inl ((g.2.1 0), 40, .inl (q2 od))), (o3, .inl ((g.2.1 0), 40, .inl (q3 od))), (o4, .inl ((g.2.1 0), 40, .inl (q4 od)))] 15 [(2, .int (iI ((i : Nat) : Int))), (0, .ref t0), (1, .ref o0)] [] := by
      intro fu
      induction fu with
      | zero => intro i hi hall hmu; exact absurd hmu (Nat.not_lt_zero _)
      | succ fu ih_15 =>
        intro i hi hall hmu
        refine z_iload_n hC d_Tr_isLike_15 rfl 0 rfl ?_
        refine z_aload_n hC d_Tr_isLike_16 rfl 1 rfl ?_
        refine z_get hC hi_Tr 0 rfl rfl 4 (by decide) mw_135 (Or.inl rfl) rfl d_Tr_isLike_17 ?_
        refine z_icmp_ge (tgt := 40) hC ((i : Nat) : Int) ((tn : Nat) : Int) d_Tr_isLike_20 rfl (iI_t (by omega)) (iI_t (by omega)) (fun c_2 => ?_) (fun c_2 => ?_)
        · refine z_iconstN hC 1 d_Tr_isLike_40 rfl ?_
          exact Z.eq rfl rfl rfl (zb_t (by first | (rw [Bool.and_eq_false_iff]; exact Or.inl (decide_eq_false (by omega))) | (rw [Bool.and_eq_false_iff]; exact Or.inr (allB_no (k := i) (by omega) (decide_eq_false (by assumption)))) | (rw [Bool.and_eq_true]; exact ⟨decide_eq_true (by omega), allB_iff.mpr (fun k hk => decide_eq_true (hall k (by omega)))⟩))) (hR _ _ d_Tr_isLike_41)
        · refine z_aload_n hC d_Tr_isLike_23 rfl 1 rfl ?_
          refine z_aload_n hC d_Tr_isLike_24 rfl 2 rfl ?_
          refine z_iload_n hC d_Tr_isLike_25 rfl 0 rfl ?_
          refine z_callV (q0 := 0) (ci := 7) (w' := [(t0, .inr (7, [.ref t1, .ref t2, .ref t3, .ref t4, .int (iI ((tn : Nat) : Int))])), (t1, .inl ((g.2.1 0), 40, .inl (q1 nd))), (t2, .inl ((g.2.1 0), 40, .inl (q2 nd))), (t3, .inl ((g.2.1 0), 40, .inl (q3 nd))), (t4, .inl ((g.2.1 0), 40, .inl (q4 nd))), (o0, .inr (7, [.ref o1, .ref o2, .ref o3, .ref o4, .int (iI ((on : Nat) : Int))])), (o1, .inl ((g.2.1 0), 40, .inl (q1 od))), (o2, .inl ((g.2.1 0), 40, .inl (q2 od))), (o3, .inl ((g.2.1 0), 40, .inl (q3 od))), (o4, .inl ((g.2.1 0), 40, .inl (q4 od)))]) (st1 := [.int (iI (bI (decide (nd i = od i))))]) hC (k_Tr_isNodeLike l g t0 t1 t2 t3 t4 tn nd o0 o1 o2 o3 o4 on od i htn hon (by omega) (by omega)) mw_721 zv_Tr_isNodeLike rfl rfl ⟨Nat.le_of_ble_eq_true rfl, Nat.le_of_ble_eq_true rfl⟩ [0, 1, 2, 3, 4, 5, 6, 7, 8, 9] rfl rfl rfl rfl rfl rfl rfl rfl (Nat.le_of_ble_eq_true rfl) d_Tr_isLike_26 rfl ⟨Nat.zero_le _, Nat.zero_le _⟩ rfl ?_
          refine z_ifneD (tgt := 34) hC d_Tr_isLike_29 rfl (fun c_3 => ?_) (fun c_3 => ?_)
          · refine z_iincN (lv' := [(2, .int (iI ((i + 1 : Nat) : Int))), (0, .ref t0), (1, .ref o0)]) hC 1 d_Tr_isLike_34 rfl 0 rfl (by decide) rfl ?_
            refine z_goto (tgt := 15) hC d_Tr_isLike_37 rfl ?_
            exact Zloc [0, 1, 2] rfl (Z.eq (w' := [(t0, .inr (7, [.ref t1, .ref t2, .ref t3, .ref t4, .int (iI ((tn : Nat) : Int))])), (t1, .inl ((g.2.1 0), 40, .inl (q1 nd))), (t2, .inl ((g.2.1 0), 40, .inl (q2 nd))), (t3, .inl ((g.2.1 0), 40, .inl (q3 nd))), (t4, .inl ((g.2.1 0), 40, .inl (q4 nd))), (o0, .inr (7, [.ref o1, .ref o2, .ref o3, .ref o4, .int (iI ((on : Nat) : Int))])), (o1, .inl ((g.2.1 0), 40, .inl (q1 od))), (o2, .inl ((g.2.1 0), 40, .inl (q2 od))), (o3, .inl ((g.2.1 0), 40, .inl (q3 od))), (o4, .inl ((g.2.1 0), 40, .inl (q4 od)))]) rfl rfl rfl rfl (ih_15 (i + 1) (by omega) (lt_s hall (by assumption)) (by omega)))
          · refine z_iconstN hC 0 d_Tr_isLike_32 rfl ?_
            exact Z.eq rfl rfl rfl (zb_f (by first | (rw [Bool.and_eq_false_iff]; exact Or.inl (decide_eq_false (by omega))) | (rw [Bool.and_eq_false_iff]; exact Or.inr (allB_no (k := i) (by omega) (decide_eq_false (by assumption)))) | (rw [Bool.and_eq_true]; exact ⟨decide_eq_true (by omega), allB_iff.mpr (fun k hk => decide_eq_true (hall k (by omega)))⟩))) (hR _ _ d_Tr_isLike_33)
    exact Zloc [0, 1, 2] rfl (Z.eq (w' := [(t0, .inr (7, [.ref t1, .ref t2, .ref t3, .ref t4, .int (iI ((tn : Nat) : Int))])), (t1, .inl ((g.2.1 0), 40, .inl (q1 nd))), (t2, .inl ((g.2.1 0), 40, .inl (q2 nd))), (t3, .inl ((g.2.1 0), 40, .inl (q3 nd))), (t4, .inl ((g.2.1 0), 40, .inl (q4 nd))), (o0, .inr (7, [.ref o1, .ref o2, .ref o3, .ref o4, .int (iI ((on : Nat) : Int))])), (o1, .inl ((g.2.1 0), 40, .inl (q1 od))), (o2, .inl ((g.2.1 0), 40, .inl (q2 od))), (o3, .inl ((g.2.1 0), 40, .inl (q3 od))), (o4, .inl ((g.2.1 0), 40, .inl (q4 od)))]) rfl rfl rfl rfl (L_15 _ 0 (by omega) (fun k h => absurd h (Nat.not_lt_zero k)) (Nat.lt_succ_self _)))
  · refine z_iconstN hC 0 d_Tr_isLike_11 rfl ?_
    exact Z.eq rfl rfl rfl (zb_f (by first | (rw [Bool.and_eq_false_iff]; exact Or.inl (decide_eq_false (by omega))) | (rw [Bool.and_eq_false_iff]; exact Or.inr (allB_no (k := i) (by omega) (decide_eq_false (by assumption)))) | (rw [Bool.and_eq_true]; exact ⟨decide_eq_true (by omega), allB_iff.mpr (fun k hk => decide_eq_true (hall k (by omega)))⟩))) (hR _ _ d_Tr_isLike_12)
