/-! ===== hits ===== -/
theorem insG_go {α : Type} {nd m : Nat → α} {n i : Nat} (h1 : 1 ≤ i) (h : ∀ k, m k = if i < k ∧ k ≤ n then nd (k - 1) else nd k) (hi : i ≤ n) : ∀ k, up m i (m (i - 1)) k = if i - 1 < k ∧ k ≤ n then nd (k - 1) else nd k := by
  intro k
  unfold up
  by_cases e : k = i
  · subst e
    rw [if_pos rfl, h, if_neg (by omega), if_pos (by omega)]
  · rw [if_neg e, h]
    by_cases c : i < k ∧ k ≤ n
    · rw [if_pos c, if_pos (by omega)]
    · rw [if_neg c, if_neg (by omega)]
def insP (rm : Nat → Int64) (hn : Nat → Nat) (n : Nat) : Nat → Nat
  | 0 => 0
  | p + 1 => if rm (hn p - 1) < rm (n - 1) then insP rm hn n p else p + 1
def insF (rm : Nat → Int64) (hn : Nat → Nat) (hc n : Nat) : Nat → Nat := fun k => if k = insP rm hn n hc then n else if insP rm hn n hc < k ∧ k ≤ hc then hn (k - 1) else hn k
theorem insP_go {rm : Nat → Int64} {hn : Nat → Nat} {n p : Nat} (h0 : 1 ≤ p) (h : rm (hn (p - 1) - 1) < rm (n - 1)) : insP rm hn n (p - 1) = insP rm hn n p := by
  obtain ⟨q, rfl⟩ : ∃ q, p = q + 1 := ⟨p - 1, by omega⟩
  simp only [insP]
  rw [show q + 1 - 1 = q by omega] at *
  rw [if_pos h]
theorem insP_stop {rm : Nat → Int64} {hn : Nat → Nat} {n p : Nat} (h : ¬ rm (hn (p - 1) - 1) < rm (n - 1)) : insP rm hn n p = p := by
  cases p with
  | zero => rfl
  | succ q => exact if_neg h
theorem insP_le {rm : Nat → Int64} {hn : Nat → Nat} {n : Nat} : ∀ p, insP rm hn n p ≤ p
  | 0 => Nat.le_refl 0
  | p + 1 => by
    simp only [insP]
    split
    · exact Nat.le_succ_of_le (insP_le p)
    · exact Nat.le_refl _
theorem insF_end {rm : Nat → Int64} {hn m : Nat → Nat} {hc p n : Nat} (hm : ∀ k, m k = if p < k ∧ k ≤ hc then hn (k - 1) else hn k) (h : p = insP rm hn n hc) : up m p n = insF rm hn hc n := by
  funext k
  unfold up insF
  rw [hm, h]
theorem insF_in {rm : Nat → Int64} {hn : Nat → Nat} {hc n c : Nat} (h : ∀ k, k < hc → 1 ≤ hn k ∧ hn k ≤ c) (hn1 : 1 ≤ n ∧ n ≤ c) : ∀ k, k < hc + 1 → 1 ≤ insF rm hn hc n k ∧ insF rm hn hc n k ≤ c := by
  intro k hk
  have hP := insP_le (rm := rm) (hn := hn) (n := n) hc
  unfold insF
  split
  · exact hn1
  · split
    · exact h (k - 1) (by omega)
    · exact h k (by omega)
def gaT (lk : Nat → Bool) (P : Nat → QD → Bool) (nd : Nat → QD) (tn : Nat) (rm : Nat → Int64) (i : Nat) (s : Nat × (Nat → Nat) × (Nat → Bool)) : Nat × (Nat → Nat) × (Nat → Bool) :=
  if lk i = true then
    (if (decide ((mtR (P i) nd tn (0, s.2.2)).1 = 1) && (mtR (P i) nd tn (0, s.2.2)).2 0) = true then (s.1 + 1, insF rm s.2.1 s.1 i, (mtR (P i) nd tn (0, s.2.2)).2) else (s.1, s.2.1, (mtR (P i) nd tn (0, s.2.2)).2))
  else s
def gaS (lk : Nat → Bool) (P : Nat → QD → Bool) (nd : Nat → QD) (tn : Nat) (rm : Nat → Int64) : Nat → Nat → Nat × (Nat → Nat) × (Nat → Bool) → Nat × (Nat → Nat) × (Nat → Bool)
  | 0, _, s => s
  | f + 1, i, s => gaS lk P nd tn rm f (i + 1) (gaT lk P nd tn rm i s)
theorem gaS_go {lk : Nat → Bool} {P : Nat → QD → Bool} {nd : Nat → QD} {tn : Nat} {rm : Nat → Int64} {c i : Nat} {s w : Nat × (Nat → Nat) × (Nat → Bool)} (hi : i ≤ c) (h : gaS lk P nd tn rm (c + 1 - i) i s = w) {s' : Nat × (Nat → Nat) × (Nat → Bool)} (e : gaT lk P nd tn rm i s = s') : gaS lk P nd tn rm (c + 1 - (i + 1)) (i + 1) s' = w := by
  rw [show c + 1 - i = (c + 1 - (i + 1)) + 1 by omega] at h
  simp only [gaS] at h
  rw [e] at h
  exact h
theorem gaT_no {lk : Nat → Bool} {P : Nat → QD → Bool} {nd : Nat → QD} {tn : Nat} {rm : Nat → Int64} {i : Nat} {s : Nat × (Nat → Nat) × (Nat → Bool)} (h : lk i = false) : gaT lk P nd tn rm i s = s := by
  unfold gaT
  rw [if_neg (by rw [h]; decide)]
theorem gaT_hit {lk : Nat → Bool} {P : Nat → QD → Bool} {nd : Nat → QD} {tn : Nat} {rm : Nat → Int64} {i c : Nat} {m : Nat → Nat} {b : Nat → Bool} {t : Nat × (Nat → Bool)} (h : lk i = true) (ht : t = mtR (P i) nd tn (0, b)) (hh : (decide (t.1 = 1) && t.2 0) = true) : gaT lk P nd tn rm i (c, m, b) = (c + 1, insF rm m c i, t.2) := by
  subst ht
  unfold gaT
  rw [if_pos h]
  show (if _ then _ else _) = _
  rw [if_pos hh]
theorem gaT_miss {lk : Nat → Bool} {P : Nat → QD → Bool} {nd : Nat → QD} {tn : Nat} {rm : Nat → Int64} {i c : Nat} {m : Nat → Nat} {b : Nat → Bool} {t : Nat × (Nat → Bool)} (h : lk i = true) (ht : t = mtR (P i) nd tn (0, b)) (hh : (decide (t.1 = 1) && t.2 0) = false) : gaT lk P nd tn rm i (c, m, b) = (c, m, t.2) := by
  subst ht
  unfold gaT
  rw [if_pos h]
  show (if _ then _ else _) = _
  rw [if_neg (by rw [hh]; decide)]
def nwB (ql : Bool) (qm : Int64) (mo : Int64) : Bool := !ql || decide (qm < mo)
def lkB (on ql : Bool) (qm : Int64) (rm : Nat → Int64) (i : Nat) : Bool := !on || nwB ql qm (rm (i - 1))
set_option maxHeartbeats 4000000 in
set_option maxRecDepth 100000 in
theorem k_Qu_keep (l : Launch) (g : ZG) (k0 : Nat) (qk ql : Bool) (qm : Int64) (t0 t1 t2 t3 t4 tn : Nat) (nd : Nat → QD) (o0 o1 o2 o3 o4 on : Nat) (od : Nat → QD) (htn : tn ≤ 40) (hon : on ≤ 40)   : Ct l g y_Qu_keep c_Qu_keep 2 none { frames := 4, cells := 0, slots := 0, locals := 91 } [.ref k0, .ref o0] [(k0, .inr (4, [.ref t0, .int (iI (bI qk)), .int (iI (bI ql)), .long qm])), (t0, .inr (7, [.ref t1, .ref t2, .ref t3, .ref t4, .int (iI ((tn : Nat) : Int))])), (t1, .inl ((g.2.1 0), 40, .inl (q1 nd))), (t2, .inl ((g.2.1 0), 40, .inl (q2 nd))), (t3, .inl ((g.2.1 0), 40, .inl (q3 nd))), (t4, .inl ((g.2.1 0), 40, .inl (q4 nd))), (o0, .inr (7, [.ref o1, .ref o2, .ref o3, .ref o4, .int (iI ((on : Nat) : Int))])), (o1, .inl ((g.2.1 0), 40, .inl (q1 od))), (o2, .inl ((g.2.1 0), 40, .inl (q2 od))), (o3, .inl ((g.2.1 0), 40, .inl (q3 od))), (o4, .inl ((g.2.1 0), 40, .inl (q4 od)))] none [(k0, .inr (4, [.ref t0, .int (iI (bI true)), .int (iI (bI false)), .long qm])), (t0, .inr (7, [.ref t1, .ref t2, .ref t3, .ref t4, .int (iI ((on : Nat) : Int))])), (t1, .inl ((g.2.1 0), 40, .inl (q1 (cpN nd od on)))), (t2, .inl ((g.2.1 0), 40, .inl (q2 (cpN nd od on)))), (t3, .inl ((g.2.1 0), 40, .inl (q3 (cpN nd od on)))), (t4, .inl ((g.2.1 0), 40, .inl (q4 (cpN nd od on)))), (o0, .inr (7, [.ref o1, .ref o2, .ref o3, .ref o4, .int (iI ((on : Nat) : Int))])), (o1, .inl ((g.2.1 0), 40, .inl (q1 od))), (o2, .inl ((g.2.1 0), 40, .inl (q2 od))), (o3, .inl ((g.2.1 0), 40, .inl (q3 od))), (o4, .inl ((g.2.1 0), 40, .inl (q4 od)))] := by
  refine ct_v (lv := [(0, .ref k0), (1, .ref o0)]) (by decide) rfl (Nat.le_of_ble_eq_true rfl) rfl ?_
  intro x hC hR
  refine z_aload_n hC d_Qu_keep_0 rfl 0 rfl ?_
  refine z_get hC hi_Qu 0 rfl rfl 0 (by decide) mw_223 (Or.inl rfl) rfl d_Qu_keep_1 ?_
  refine z_aload_n hC d_Qu_keep_4 rfl 1 rfl ?_
  refine z_callV (q0 := 1) (ci := 7) (w' := [(k0, .inr (4, [.ref t0, .int (iI (bI qk)), .int (iI (bI ql)), .long qm])), (t0, .inr (7, [.ref t1, .ref t2, .ref t3, .ref t4, .int (iI ((on : Nat) : Int))])), (t1, .inl ((g.2.1 0), 40, .inl (q1 (cpN nd od on)))), (t2, .inl ((g.2.1 0), 40, .inl (q2 (cpN nd od on)))), (t3, .inl ((g.2.1 0), 40, .inl (q3 (cpN nd od on)))), (t4, .inl ((g.2.1 0), 40, .inl (q4 (cpN nd od on)))), (o0, .inr (7, [.ref o1, .ref o2, .ref o3, .ref o4, .int (iI ((on : Nat) : Int))])), (o1, .inl ((g.2.1 0), 40, .inl (q1 od))), (o2, .inl ((g.2.1 0), 40, .inl (q2 od))), (o3, .inl ((g.2.1 0), 40, .inl (q3 od))), (o4, .inl ((g.2.1 0), 40, .inl (q4 od)))]) (st1 := []) hC (k_Tr_copyFrom l g t0 t1 t2 t3 t4 tn nd o0 o1 o2 o3 o4 on od htn hon) mw_636 zv_Tr_copyFrom rfl rfl ⟨Nat.le_of_ble_eq_true rfl, Nat.le_of_ble_eq_true rfl⟩ [1, 2, 3, 4, 5, 6, 7, 8, 9, 10] rfl rfl rfl rfl rfl rfl rfl rfl (Nat.le_of_ble_eq_true rfl) d_Qu_keep_5 rfl ⟨Nat.zero_le _, Nat.zero_le _⟩ rfl ?_
  refine z_aload_n hC d_Qu_keep_8 rfl 0 rfl ?_
  refine z_iconstN hC 1 d_Qu_keep_9 rfl ?_
  refine z_put (v := .int (iI (bI true))) (ty := .boolean) (w' := [(k0, .inr (4, [.ref t0, .int (iI (bI true)), .int (iI (bI ql)), .long qm])), (t0, .inr (7, [.ref t1, .ref t2, .ref t3, .ref t4, .int (iI ((on : Nat) : Int))])), (t1, .inl ((g.2.1 0), 40, .inl (q1 (cpN nd od on)))), (t2, .inl ((g.2.1 0), 40, .inl (q2 (cpN nd od on)))), (t3, .inl ((g.2.1 0), 40, .inl (q3 (cpN nd od on)))), (t4, .inl ((g.2.1 0), 40, .inl (q4 (cpN nd od on)))), (o0, .inr (7, [.ref o1, .ref o2, .ref o3, .ref o4, .int (iI ((on : Nat) : Int))])), (o1, .inl ((g.2.1 0), 40, .inl (q1 od))), (o2, .inl ((g.2.1 0), 40, .inl (q2 od))), (o3, .inl ((g.2.1 0), 40, .inl (q3 od))), (o4, .inl ((g.2.1 0), 40, .inl (q4 od)))]) hC hi_Qu ty_Qu ok_Qu nm_Qu 0 rfl rfl 1 (by decide) mw_226 rfl rfl rfl (bI_nar true) (bI_fit true) (Nat.le_of_ble_eq_true rfl) rfl d_Qu_keep_10 ?_
  refine z_aload_n hC d_Qu_keep_13 rfl 0 rfl ?_
  refine z_iconstN hC 0 d_Qu_keep_14 rfl ?_
  refine z_put (v := .int (iI (bI false))) (ty := .boolean) (w' := [(k0, .inr (4, [.ref t0, .int (iI (bI true)), .int (iI (bI false)), .long qm])), (t0, .inr (7, [.ref t1, .ref t2, .ref t3, .ref t4, .int (iI ((on : Nat) : Int))])), (t1, .inl ((g.2.1 0), 40, .inl (q1 (cpN nd od on)))), (t2, .inl ((g.2.1 0), 40, .inl (q2 (cpN nd od on)))), (t3, .inl ((g.2.1 0), 40, .inl (q3 (cpN nd od on)))), (t4, .inl ((g.2.1 0), 40, .inl (q4 (cpN nd od on)))), (o0, .inr (7, [.ref o1, .ref o2, .ref o3, .ref o4, .int (iI ((on : Nat) : Int))])), (o1, .inl ((g.2.1 0), 40, .inl (q1 od))), (o2, .inl ((g.2.1 0), 40, .inl (q2 od))), (o3, .inl ((g.2.1 0), 40, .inl (q3 od))), (o4, .inl ((g.2.1 0), 40, .inl (q4 od)))]) hC hi_Qu ty_Qu ok_Qu nm_Qu 0 rfl rfl 2 (by decide) mw_228 rfl rfl rfl (bI_nar false) (bI_fit false) (Nat.le_of_ble_eq_true rfl) rfl d_Qu_keep_15 ?_
  exact Z.eq rfl rfl rfl rfl (hR _ _ d_Qu_keep_18)
set_option maxHeartbeats 4000000 in
set_option maxRecDepth 100000 in
theorem k_Qu_isNew (l : Launch) (g : ZG) (k0 : Nat) (qk ql : Bool) (qm : Int64) (t0 : Nat) (mo : Int64)    : Ct l g y_Qu_isNew c_Qu_isNew 3 (some .boolean) { frames := 0, cells := 0, slots := 0, locals := 0 } [.ref k0, .long mo] [(k0, .inr (4, [.ref t0, .int (iI (bI qk)), .int (iI (bI ql)), .long qm]))] (some (.int (iI (bI (nwB ql qm mo))))) [(k0, .inr (4, [.ref t0, .int (iI (bI qk)), .int (iI (bI ql)), .long qm]))] := by
  refine ct_z (lv := [(0, .ref k0), (1, .long mo)]) (by decide) rfl (Nat.le_of_ble_eq_true rfl) rfl ?_
  intro x hC hR
  refine z_aload_n hC d_Qu_isNew_0 rfl 0 rfl ?_
  refine z_get hC hi_Qu 0 rfl rfl 2 (by decide) mw_228 (Or.inl rfl) rfl d_Qu_isNew_1 ?_
  refine z_ifeqB (tgt := 16) hC d_Qu_isNew_4 rfl (fun c_1 => ?_) (fun c_1 => ?_)
  · refine z_iconstN hC 1 d_Qu_isNew_16 rfl ?_
    refine z_goto (tgt := 21) hC d_Qu_isNew_17 rfl ?_
    exact Z.eq rfl rfl rfl (zb_t (by unfold nwB; simp_all)) (hR _ _ d_Qu_isNew_21)
  · refine z_lload_n hC d_Qu_isNew_7 rfl 1 rfl ?_
    refine z_aload_n hC d_Qu_isNew_8 rfl 0 rfl ?_
    refine z_get hC hi_Qu 0 rfl rfl 3 (by decide) mw_229 (Or.inl rfl) rfl d_Qu_isNew_9 ?_
    refine z_lc_le (tgt := 20) hC d_Qu_isNew_12 d_Qu_isNew_13 rfl (fun c_2 => ?_) (fun c_2 => ?_)
    · refine z_iconstN hC 0 d_Qu_isNew_20 rfl ?_
      exact Z.eq rfl rfl rfl (zb_f (by unfold nwB; simp_all)) (hR _ _ d_Qu_isNew_21)
    · refine z_iconstN hC 1 d_Qu_isNew_16 rfl ?_
      refine z_goto (tgt := 21) hC d_Qu_isNew_17 rfl ?_
      exact Z.eq rfl rfl rfl (zb_t (by unfold nwB; simp_all)) (hR _ _ d_Qu_isNew_21)
set_option maxHeartbeats 4000000 in
set_option maxRecDepth 100000 in
theorem k_Qu_lookedUpTo (l : Launch) (g : ZG) (k0 : Nat) (qk ql : Bool) (qm : Int64) (t0 : Nat) (mo : Int64)    : Ct l g y_Qu_lookedUpTo c_Qu_lookedUpTo 3 none { frames := 0, cells := 0, slots := 0, locals := 0 } [.ref k0, .long mo] [(k0, .inr (4, [.ref t0, .int (iI (bI qk)), .int (iI (bI ql)), .long qm]))] none [(k0, .inr (4, [.ref t0, .int (iI (bI qk)), .int (iI (bI true)), .long mo]))] := by
  refine ct_v (lv := [(0, .ref k0), (1, .long mo)]) (by decide) rfl (Nat.le_of_ble_eq_true rfl) rfl ?_
  intro x hC hR
  refine z_aload_n hC d_Qu_lookedUpTo_0 rfl 0 rfl ?_
  refine z_iconstN hC 1 d_Qu_lookedUpTo_1 rfl ?_
  refine z_put (v := .int (iI (bI true))) (ty := .boolean) (w' := [(k0, .inr (4, [.ref t0, .int (iI (bI qk)), .int (iI (bI true)), .long qm]))]) hC hi_Qu ty_Qu ok_Qu nm_Qu 0 rfl rfl 2 (by decide) mw_228 rfl rfl rfl (bI_nar true) (bI_fit true) (Nat.le_of_ble_eq_true rfl) rfl d_Qu_lookedUpTo_2 ?_
  refine z_aload_n hC d_Qu_lookedUpTo_5 rfl 0 rfl ?_
  refine z_lload_n hC d_Qu_lookedUpTo_6 rfl 1 rfl ?_
  refine z_put (v := .long mo) (ty := .long) (w' := [(k0, .inr (4, [.ref t0, .int (iI (bI qk)), .int (iI (bI true)), .long mo]))]) hC hi_Qu ty_Qu ok_Qu nm_Qu 0 rfl rfl 3 (by decide) mw_229 rfl rfl rfl rfl rfl (Nat.le_of_ble_eq_true rfl) rfl d_Qu_lookedUpTo_7 ?_
  exact Z.eq rfl rfl rfl rfl (hR _ _ d_Qu_lookedUpTo_10)
set_option maxHeartbeats 4000000 in
set_option maxRecDepth 100000 in
theorem k_Hi_numberAt (l : Launch) (g : ZG) (h0 h1 hc : Nat) (hn : Nat → Nat) (i : Int) (hhc : hc ≤ 60) (hi : -2147483648 ≤ i ∧ i < 2147483648)   : Ct l g y_Hi_numberAt c_Hi_numberAt 2 (some .int) { frames := 0, cells := 0, slots := 0, locals := 0 } [.ref h0, .int (iI i)] [(h0, .inr (2, [.ref h1, .int (iI ((hc : Nat) : Int))])), (h1, .inl ((g.2.1 0), 60, .inl (nF hn)))] (some (.int (iI ((if 0 ≤ i ∧ i < hc then hn i.toNat else 0 : Nat) : Int)))) [(h0, .inr (2, [.ref h1, .int (iI ((hc : Nat) : Int))])), (h1, .inl ((g.2.1 0), 60, .inl (nF hn)))] := by
  refine ct_i (lv := [(0, .ref h0), (1, .int (iI i))]) (by decide) rfl (Nat.le_of_ble_eq_true rfl) rfl ?_
  intro x hC hR
  refine z_iload_n hC d_Hi_numberAt_0 rfl 1 rfl ?_
  refine z_if_lt (tgt := 27) hC i d_Hi_numberAt_1 rfl (iI_t (by omega)) (fun c_1 => ?_) (fun c_1 => ?_)
  · refine z_iconstN hC 0 d_Hi_numberAt_27 rfl ?_
    exact Z.eq rfl rfl rfl (by first | (exfalso; omega) | (rw [if_pos (by omega)]; done) | (rw [if_neg (by omega)]; done)) (hR _ _ d_Hi_numberAt_28)
  · refine z_iload_n hC d_Hi_numberAt_4 rfl 1 rfl ?_
    refine z_aload_n hC d_Hi_numberAt_5 rfl 0 rfl ?_
    refine z_get hC hi_Hi 0 rfl rfl 1 (by decide) mw_246 (Or.inl rfl) rfl d_Hi_numberAt_6 ?_
    refine z_icmp_ge (tgt := 27) hC i ((hc : Nat) : Int) d_Hi_numberAt_9 rfl (iI_t (by omega)) (iI_t (by omega)) (fun c_2 => ?_) (fun c_2 => ?_)
    · refine z_iconstN hC 0 d_Hi_numberAt_27 rfl ?_
      exact Z.eq rfl rfl rfl (by first | (exfalso; omega) | (rw [if_pos (by omega)]; done) | (rw [if_neg (by omega)]; done)) (hR _ _ d_Hi_numberAt_28)
    · refine z_iload_n hC d_Hi_numberAt_12 rfl 1 rfl ?_
      refine z_bipush (a := ((60 : Nat) : Int)) hC d_Hi_numberAt_13 (by decide) ?_
      refine z_icmp_ge (tgt := 27) hC i ((60 : Nat) : Int) d_Hi_numberAt_15 rfl (iI_t (by omega)) (iI_t (by omega)) (fun c_3 => ?_) (fun c_3 => ?_)
      · refine z_iconstN hC 0 d_Hi_numberAt_27 rfl ?_
        exact Z.eq rfl rfl rfl (by first | (exfalso; omega) | (rw [if_pos (by omega)]; done) | (rw [if_neg (by omega)]; done)) (hR _ _ d_Hi_numberAt_28)
      · refine z_aload_n hC d_Hi_numberAt_18 rfl 0 rfl ?_
        refine z_get hC hi_Hi 0 rfl rfl 0 (by decide) mw_245 (Or.inl rfl) rfl d_Hi_numberAt_19 ?_
        refine z_iload_n hC d_Hi_numberAt_22 rfl 1 rfl ?_
        refine z_ialdN hC 1 0 rfl rfl ((i).toNat) (by omega) (by omega) (by decide) d_Hi_numberAt_23 ?_
        refine z_goto (tgt := 28) hC d_Hi_numberAt_24 rfl ?_
        exact Z.eq rfl rfl rfl (by first | (exfalso; omega) | (rw [if_pos (by omega)]; done) | (rw [if_neg (by omega)]; done)) (hR _ _ d_Hi_numberAt_28)
set_option maxHeartbeats 4000000 in
set_option maxRecDepth 100000 in
theorem k_Hi_insert (l : Launch) (g : ZG) (h0 h1 hc : Nat) (hn : Nat → Nat) (r0 r1 r2 r3 r4 r5 rc : Nat) (rm : Nat → Int64) (re : Nat → Nat) (ri : Nat → Int32) (rv : Nat → Nat) (rb : Nat → Bool) (n : Nat) (hrc : rc ≤ 60) (hhc : hc < 60) (hn1 : 1 ≤ n ∧ n ≤ rc) (hhn : ∀ k, k < hc → 1 ≤ hn k ∧ hn k ≤ rc)   : Ct l g y_Hi_insert c_Hi_insert 4 none { frames := 2, cells := 0, slots := 0, locals := 42 } [.ref h0, .ref r0, .int (iI ((n : Nat) : Int))] [(h0, .inr (2, [.ref h1, .int (iI ((hc : Nat) : Int))])), (h1, .inl ((g.2.1 0), 60, .inl (nF hn))), (r0, .inr (5, [.ref r1, .ref r2, .ref r3, .ref r4, .ref r5, .int (iI ((rc : Nat) : Int))])), (r1, .inl ((g.2.1 1), 60, .inr (.inl rm))), (r2, .inl ((g.2.1 0), 60, .inl (nF re))), (r3, .inl ((g.2.1 0), 480, .inl ri)), (r4, .inl ((g.2.1 0), 480, .inl (nF rv))), (r5, .inl ((g.2.1 2), 40, .inl (bF rb)))] none [(h0, .inr (2, [.ref h1, .int (iI ((hc + 1 : Nat) : Int))])), (h1, .inl ((g.2.1 0), 60, .inl (nF (insF rm hn hc n)))), (r0, .inr (5, [.ref r1, .ref r2, .ref r3, .ref r4, .ref r5, .int (iI ((rc : Nat) : Int))])), (r1, .inl ((g.2.1 1), 60, .inr (.inl rm))), (r2, .inl ((g.2.1 0), 60, .inl (nF re))), (r3, .inl ((g.2.1 0), 480, .inl ri)), (r4, .inl ((g.2.1 0), 480, .inl (nF rv))), (r5, .inl ((g.2.1 2), 40, .inl (bF rb)))] := by
  refine ct_v (lv := [(0, .ref h0), (1, .ref r0), (2, .int (iI ((n : Nat) : Int)))]) (by decide) rfl (Nat.le_of_ble_eq_true rfl) rfl ?_
  intro x hC hR
  refine z_aload_n hC d_Hi_insert_0 rfl 0 rfl ?_
  refine z_get hC hi_Hi 0 rfl rfl 1 (by decide) mw_246 (Or.inl rfl) rfl d_Hi_insert_1 ?_
  refine z_if_lt (tgt := 16) hC ((hc : Nat) : Int) d_Hi_insert_4 rfl (iI_t (by omega)) (fun c_1 => ?_) (fun c_1 => ?_)
  · exact Z.eq (by first | (exfalso; omega) | (rw [insF_end hm (by rw [← hP, show p = 0 by omega]; rfl)]) | (rw [insF_end hm (by rw [← hP, insP_stop (by rw [← hmp]; assumption)])])) rfl rfl rfl (hR _ _ d_Hi_insert_16)
  · refine z_aload_n hC d_Hi_insert_7 rfl 0 rfl ?_
    refine z_get hC hi_Hi 0 rfl rfl 1 (by decide) mw_246 (Or.inl rfl) rfl d_Hi_insert_8 ?_
    refine z_bipush (a := ((60 : Nat) : Int)) hC d_Hi_insert_11 (by decide) ?_
    refine z_icmp_lt (tgt := 17) hC ((hc : Nat) : Int) ((60 : Nat) : Int) d_Hi_insert_13 rfl (iI_t (by omega)) (iI_t (by omega)) (fun c_2 => ?_) (fun c_2 => ?_)
    · refine z_aload_n hC d_Hi_insert_17 rfl 0 rfl ?_
      refine z_get hC hi_Hi 0 rfl rfl 1 (by decide) mw_246 (Or.inl rfl) rfl d_Hi_insert_18 ?_
      refine z_istore_n (lv' := [(3, .int (iI ((hc : Nat) : Int))), (0, .ref h0), (1, .ref r0), (2, .int (iI ((n : Nat) : Int)))]) hC d_Hi_insert_21 rfl (by decide) rfl ?_
      have L_22 : ∀ (fu : Nat) (p : Nat) (m : Nat → Nat), (p ≤ hc) → (∀ k, m k = if p < k ∧ k ≤ hc then hn (k - 1) else hn k) → (insP rm hn n p = insP rm hn n hc) → p < fu → Z x (0, 0) [(h0, .inr (2, [.ref h1, .int (iI ((hc : Nat) : Int))])), (h1, .inl ((g.2.1 0), 60, .inl (nF m))), (r0, .inr (5, [.ref r1, .ref r2, .ref r3, .ref r4, .ref r5, .int (iI ((rc : Nat) : Int))])), (r1, .inl ((g.2.1 1), 60, .inr (.inl rm))), (r2, .inl ((g.2.1 0), 60, .inl (nF re))), (r3, .inl ((g.2.1 0), 480, .inl ri)), (r4, .inl ((g.2.1 0), 480, .inl (nF rv))), (r5, .inl ((g.2.1 2), 40, .inl (bF rb)))] 22 [(3, .int (iI ((p : Nat) : Int))), (0, .ref h0), (1, .ref r0), (2, .int (iI ((n : Nat) : Int)))] [] := by
        intro fu
        induction fu with
        | zero => intro p m hp hm hP hmu; exact absurd hmu (Nat.not_lt_zero _)
        | succ fu ih_22 =>
          intro p m hp hm hP hmu
          refine z_iload_n hC d_Hi_insert_22 rfl 0 rfl ?_
          refine z_if_le (tgt := 67) hC ((p : Nat) : Int) d_Hi_insert_23 rfl (iI_t (by omega)) (fun c_3 => ?_) (fun c_3 => ?_)
          · refine z_aload_n hC d_Hi_insert_67 rfl 1 rfl ?_
            refine z_get hC hi_Hi 0 rfl rfl 0 (by decide) mw_245 (Or.inl rfl) rfl d_Hi_insert_68 ?_
            refine z_iload_n hC d_Hi_insert_71 rfl 0 rfl ?_
            refine z_iload_n hC d_Hi_insert_72 rfl 3 rfl ?_
            refine z_iastN (v := n) (w' := [(h0, .inr (2, [.ref h1, .int (iI ((hc : Nat) : Int))])), (h1, .inl ((g.2.1 0), 60, .inl (nF (up m p n)))), (r0, .inr (5, [.ref r1, .ref r2, .ref r3, .ref r4, .ref r5, .int (iI ((rc : Nat) : Int))])), (r1, .inl ((g.2.1 1), 60, .inr (.inl rm))), (r2, .inl ((g.2.1 0), 60, .inl (nF re))), (r3, .inl ((g.2.1 0), 480, .inl ri)), (r4, .inl ((g.2.1 0), 480, .inl (nF rv))), (r5, .inl ((g.2.1 2), 40, .inl (bF rb)))]) hC 1 0 rfl rfl p rfl (by omega) (by decide) rfl d_Hi_insert_73 ?_
            refine z_aload_n hC d_Hi_insert_74 rfl 1 rfl ?_
            refine z_dup hC d_Hi_insert_75 rfl ?_
            refine z_get hC hi_Hi 0 rfl rfl 1 (by decide) mw_246 (Or.inl rfl) rfl d_Hi_insert_76 ?_
            refine z_iconstN hC 1 d_Hi_insert_79 rfl ?_
            refine z_iaddN hC d_Hi_insert_80 ?_
            refine z_put (v := .int (iI ((hc + 1 : Nat) : Int))) (ty := .int) (w' := [(h0, .inr (2, [.ref h1, .int (iI ((hc + 1 : Nat) : Int))])), (h1, .inl ((g.2.1 0), 60, .inl (nF (up m p n)))), (r0, .inr (5, [.ref r1, .ref r2, .ref r3, .ref r4, .ref r5, .int (iI ((rc : Nat) : Int))])), (r1, .inl ((g.2.1 1), 60, .inr (.inl rm))), (r2, .inl ((g.2.1 0), 60, .inl (nF re))), (r3, .inl ((g.2.1 0), 480, .inl ri)), (r4, .inl ((g.2.1 0), 480, .inl (nF rv))), (r5, .inl ((g.2.1 2), 40, .inl (bF rb)))]) hC hi_Hi ty_Hi ok_Hi nm_Hi 0 rfl rfl 1 (by decide) mw_246 rfl rfl rfl rfl rfl (Nat.le_of_ble_eq_true rfl) rfl d_Hi_insert_81 ?_
            exact Z.eq (by first | (exfalso; omega) | (rw [insF_end hm (by rw [← hP, show p = 0 by omega]; rfl)]) | (rw [insF_end hm (by rw [← hP, insP_stop (by rw [← hmp]; assumption)])])) rfl rfl rfl (hR _ _ d_Hi_insert_84)
          · have hmp : m (p - 1) = hn (p - 1) := by rw [hm, if_neg (by omega)]
            have hh := hhn (p - 1) (by omega)
            refine z_aload_n hC d_Hi_insert_26 rfl 2 rfl ?_
            refine z_aload_n hC d_Hi_insert_27 rfl 1 rfl ?_
            refine z_get hC hi_Hi 0 rfl rfl 0 (by decide) mw_245 (Or.inl rfl) rfl d_Hi_insert_28 ?_
            refine z_iload_n hC d_Hi_insert_31 rfl 0 rfl ?_
            refine z_iconstN hC 1 d_Hi_insert_32 rfl ?_
            refine z_isubN hC d_Hi_insert_33 (by omega) ?_
            refine z_ialdN hC 1 0 rfl rfl (p - 1) rfl (by omega) (by decide) d_Hi_insert_34 ?_
            refine z_callV (q0 := 2) (ci := 5) (w' := [(h0, .inr (2, [.ref h1, .int (iI ((hc : Nat) : Int))])), (h1, .inl ((g.2.1 0), 60, .inl (nF m))), (r0, .inr (5, [.ref r1, .ref r2, .ref r3, .ref r4, .ref r5, .int (iI ((rc : Nat) : Int))])), (r1, .inl ((g.2.1 1), 60, .inr (.inl rm))), (r2, .inl ((g.2.1 0), 60, .inl (nF re))), (r3, .inl ((g.2.1 0), 480, .inl ri)), (r4, .inl ((g.2.1 0), 480, .inl (nF rv))), (r5, .inl ((g.2.1 2), 40, .inl (bF rb)))]) (st1 := [.long (rm ((m (p - 1)) - 1))]) hC (k_Rc_momentOf l g r0 r1 r2 r3 r4 r5 rc rm re ri rv rb (m (p - 1)) hrc (by omega)) mw_663 zv_Rc_momentOf rfl rfl ⟨Nat.le_of_ble_eq_true rfl, Nat.le_of_ble_eq_true rfl⟩ [2, 3, 4, 5, 6, 7] rfl rfl rfl rfl rfl rfl rfl rfl (Nat.le_of_ble_eq_true rfl) d_Hi_insert_35 rfl ⟨Nat.zero_le _, Nat.zero_le _⟩ rfl ?_
            refine z_aload_n hC d_Hi_insert_38 rfl 2 rfl ?_
            refine z_iload_n hC d_Hi_insert_39 rfl 3 rfl ?_
            refine z_callV (q0 := 2) (ci := 5) (w' := [(h0, .inr (2, [.ref h1, .int (iI ((hc : Nat) : Int))])), (h1, .inl ((g.2.1 0), 60, .inl (nF m))), (r0, .inr (5, [.ref r1, .ref r2, .ref r3, .ref r4, .ref r5, .int (iI ((rc : Nat) : Int))])), (r1, .inl ((g.2.1 1), 60, .inr (.inl rm))), (r2, .inl ((g.2.1 0), 60, .inl (nF re))), (r3, .inl ((g.2.1 0), 480, .inl ri)), (r4, .inl ((g.2.1 0), 480, .inl (nF rv))), (r5, .inl ((g.2.1 2), 40, .inl (bF rb)))]) (st1 := [.long (rm (n - 1)), .long (rm ((m (p - 1)) - 1))]) hC (k_Rc_momentOf l g r0 r1 r2 r3 r4 r5 rc rm re ri rv rb n hrc hn1) mw_663 zv_Rc_momentOf rfl rfl ⟨Nat.le_of_ble_eq_true rfl, Nat.le_of_ble_eq_true rfl⟩ [2, 3, 4, 5, 6, 7] rfl rfl rfl rfl rfl rfl rfl rfl (Nat.le_of_ble_eq_true rfl) d_Hi_insert_40 rfl ⟨Nat.zero_le _, Nat.zero_le _⟩ rfl ?_
            refine z_lc_ge (tgt := 67) hC d_Hi_insert_43 d_Hi_insert_44 rfl (fun c_4 => ?_) (fun c_4 => ?_)
            · refine z_aload_n hC d_Hi_insert_67 rfl 1 rfl ?_
              refine z_get hC hi_Hi 0 rfl rfl 0 (by decide) mw_245 (Or.inl rfl) rfl d_Hi_insert_68 ?_
              refine z_iload_n hC d_Hi_insert_71 rfl 0 rfl ?_
              refine z_iload_n hC d_Hi_insert_72 rfl 3 rfl ?_
              refine z_iastN (v := n) (w' := [(h0, .inr (2, [.ref h1, .int (iI ((hc : Nat) : Int))])), (h1, .inl ((g.2.1 0), 60, .inl (nF (up m p n)))), (r0, .inr (5, [.ref r1, .ref r2, .ref r3, .ref r4, .ref r5, .int (iI ((rc : Nat) : Int))])), (r1, .inl ((g.2.1 1), 60, .inr (.inl rm))), (r2, .inl ((g.2.1 0), 60, .inl (nF re))), (r3, .inl ((g.2.1 0), 480, .inl ri)), (r4, .inl ((g.2.1 0), 480, .inl (nF rv))), (r5, .inl ((g.2.1 2), 40, .inl (bF rb)))]) hC 1 0 rfl rfl p rfl (by omega) (by decide) rfl d_Hi_insert_73 ?_
              refine z_aload_n hC d_Hi_insert_74 rfl 1 rfl ?_
              refine z_dup hC d_Hi_insert_75 rfl ?_
              refine z_get hC hi_Hi 0 rfl rfl 1 (by decide) mw_246 (Or.inl rfl) rfl d_Hi_insert_76 ?_
              refine z_iconstN hC 1 d_Hi_insert_79 rfl ?_
              refine z_iaddN hC d_Hi_insert_80 ?_
              refine z_put (v := .int (iI ((hc + 1 : Nat) : Int))) (ty := .int) (w' := [(h0, .inr (2, [.ref h1, .int (iI ((hc + 1 : Nat) : Int))])), (h1, .inl ((g.2.1 0), 60, .inl (nF (up m p n)))), (r0, .inr (5, [.ref r1, .ref r2, .ref r3, .ref r4, .ref r5, .int (iI ((rc : Nat) : Int))])), (r1, .inl ((g.2.1 1), 60, .inr (.inl rm))), (r2, .inl ((g.2.1 0), 60, .inl (nF re))), (r3, .inl ((g.2.1 0), 480, .inl ri)), (r4, .inl ((g.2.1 0), 480, .inl (nF rv))), (r5, .inl ((g.2.1 2), 40, .inl (bF rb)))]) hC hi_Hi ty_Hi ok_Hi nm_Hi 0 rfl rfl 1 (by decide) mw_246 rfl rfl rfl rfl rfl (Nat.le_of_ble_eq_true rfl) rfl d_Hi_insert_81 ?_
              exact Z.eq (by first | (exfalso; omega) | (rw [insF_end hm (by rw [← hP, show p = 0 by omega]; rfl)]) | (rw [insF_end hm (by rw [← hP, insP_stop (by rw [← hmp]; assumption)])])) rfl rfl rfl (hR _ _ d_Hi_insert_84)
            · refine z_aload_n hC d_Hi_insert_47 rfl 1 rfl ?_
              refine z_get hC hi_Hi 0 rfl rfl 0 (by decide) mw_245 (Or.inl rfl) rfl d_Hi_insert_48 ?_
              refine z_iload_n hC d_Hi_insert_51 rfl 0 rfl ?_
              refine z_aload_n hC d_Hi_insert_52 rfl 1 rfl ?_
              refine z_get hC hi_Hi 0 rfl rfl 0 (by decide) mw_245 (Or.inl rfl) rfl d_Hi_insert_53 ?_
              refine z_iload_n hC d_Hi_insert_56 rfl 0 rfl ?_
              refine z_iconstN hC 1 d_Hi_insert_57 rfl ?_
              refine z_isubN hC d_Hi_insert_58 (by omega) ?_
              refine z_ialdN hC 1 0 rfl rfl (p - 1) rfl (by omega) (by decide) d_Hi_insert_59 ?_
              refine z_iastN (v := m (p - 1)) (w' := [(h0, .inr (2, [.ref h1, .int (iI ((hc : Nat) : Int))])), (h1, .inl ((g.2.1 0), 60, .inl (nF (up m p (m (p - 1)))))), (r0, .inr (5, [.ref r1, .ref r2, .ref r3, .ref r4, .ref r5, .int (iI ((rc : Nat) : Int))])), (r1, .inl ((g.2.1 1), 60, .inr (.inl rm))), (r2, .inl ((g.2.1 0), 60, .inl (nF re))), (r3, .inl ((g.2.1 0), 480, .inl ri)), (r4, .inl ((g.2.1 0), 480, .inl (nF rv))), (r5, .inl ((g.2.1 2), 40, .inl (bF rb)))]) hC 1 0 rfl rfl p rfl (by omega) (by decide) rfl d_Hi_insert_60 ?_
              refine z_idecN (lv' := [(3, .int (iI ((p - 1 : Nat) : Int))), (0, .ref h0), (1, .ref r0), (2, .int (iI ((n : Nat) : Int)))]) hC d_Hi_insert_61 0 rfl (by omega) (by decide) rfl ?_
              refine z_goto (tgt := 22) hC d_Hi_insert_64 rfl ?_
              exact Zloc [0, 1, 2, 3] rfl (Z.eq (w' := [(h0, .inr (2, [.ref h1, .int (iI ((hc : Nat) : Int))])), (h1, .inl ((g.2.1 0), 60, .inl (nF (up m p (m (p - 1)))))), (r0, .inr (5, [.ref r1, .ref r2, .ref r3, .ref r4, .ref r5, .int (iI ((rc : Nat) : Int))])), (r1, .inl ((g.2.1 1), 60, .inr (.inl rm))), (r2, .inl ((g.2.1 0), 60, .inl (nF re))), (r3, .inl ((g.2.1 0), 480, .inl ri)), (r4, .inl ((g.2.1 0), 480, .inl (nF rv))), (r5, .inl ((g.2.1 2), 40, .inl (bF rb)))]) rfl rfl rfl rfl (ih_22 (p - 1) (up m p (m (p - 1))) (by omega) (insG_go (by omega) hm hp) ((insP_go (by omega) (by rw [← hmp]; assumption)).trans hP) (by omega)))
      exact Zloc [0, 1, 2, 3] rfl (Z.eq (w' := [(h0, .inr (2, [.ref h1, .int (iI ((hc : Nat) : Int))])), (h1, .inl ((g.2.1 0), 60, .inl (nF hn))), (r0, .inr (5, [.ref r1, .ref r2, .ref r3, .ref r4, .ref r5, .int (iI ((rc : Nat) : Int))])), (r1, .inl ((g.2.1 1), 60, .inr (.inl rm))), (r2, .inl ((g.2.1 0), 60, .inl (nF re))), (r3, .inl ((g.2.1 0), 480, .inl ri)), (r4, .inl ((g.2.1 0), 480, .inl (nF rv))), (r5, .inl ((g.2.1 2), 40, .inl (bF rb)))]) rfl rfl rfl rfl (L_22 _ hc hn (by omega) (fun k => by rw [if_neg (by omega)]) rfl (Nat.lt_succ_self _)))
    · exact Z.eq (by first | (exfalso; omega) | (rw [insF_end hm (by rw [← hP, show p = 0 by omega]; rfl)]) | (rw [insF_end hm (by rw [← hP, insP_stop (by rw [← hmp]; assumption)])])) rfl rfl rfl (hR _ _ d_Hi_insert_16)
set_option maxHeartbeats 4000000 in
set_option maxRecDepth 100000 in
theorem k_Hi_gather (l : Launch) (g : ZG) (h0 h1 hc : Nat) (hn : Nat → Nat) (r0 r1 r2 r3 r4 r5 rc : Nat) (rm : Nat → Int64) (re : Nat → Nat) (ri : Nat → Int32) (rv : Nat → Nat) (rb : Nat → Bool) (k0 : Nat) (qk ql : Bool) (qm : Int64) (t0 t1 t2 t3 t4 tn : Nat) (nd : Nat → QD) (on : Bool) (hrc : rc ≤ 60) (htn : tn ≤ 40) (hre : ∀ j, re j ≤ 8) (hrv : ∀ j, rv j < 100000)  (w : Nat × (Nat → Nat) × (Nat → Bool)) (hw : w = gaS (lkB on ql qm rm) (smB re ri rv) nd tn rm rc 1 (0, hn, rb)) : Ct l g y_Hi_gather c_Hi_gather 6 (some .int) { frames := 5, cells := 0, slots := 0, locals := 116 } [.ref h0, .ref r0, .ref k0, .int (iI (bI on))] [(h0, .inr (2, [.ref h1, .int (iI ((hc : Nat) : Int))])), (h1, .inl ((g.2.1 0), 60, .inl (nF hn))), (r0, .inr (5, [.ref r1, .ref r2, .ref r3, .ref r4, .ref r5, .int (iI ((rc : Nat) : Int))])), (r1, .inl ((g.2.1 1), 60, .inr (.inl rm))), (r2, .inl ((g.2.1 0), 60, .inl (nF re))), (r3, .inl ((g.2.1 0), 480, .inl ri)), (r4, .inl ((g.2.1 0), 480, .inl (nF rv))), (r5, .inl ((g.2.1 2), 40, .inl (bF rb))), (k0, .inr (4, [.ref t0, .int (iI (bI qk)), .int (iI (bI ql)), .long qm])), (t0, .inr (7, [.ref t1, .ref t2, .ref t3, .ref t4, .int (iI ((tn : Nat) : Int))])), (t1, .inl ((g.2.1 0), 40, .inl (q1 nd))), (t2, .inl ((g.2.1 0), 40, .inl (q2 nd))), (t3, .inl ((g.2.1 0), 40, .inl (q3 nd))), (t4, .inl ((g.2.1 0), 40, .inl (q4 nd)))] (some (.int (iI ((w.1 : Nat) : Int)))) [(h0, .inr (2, [.ref h1, .int (iI ((w.1 : Nat) : Int))])), (h1, .inl ((g.2.1 0), 60, .inl (nF w.2.1))), (r0, .inr (5, [.ref r1, .ref r2, .ref r3, .ref r4, .ref r5, .int (iI ((rc : Nat) : Int))])), (r1, .inl ((g.2.1 1), 60, .inr (.inl rm))), (r2, .inl ((g.2.1 0), 60, .inl (nF re))), (r3, .inl ((g.2.1 0), 480, .inl ri)), (r4, .inl ((g.2.1 0), 480, .inl (nF rv))), (r5, .inl ((g.2.1 2), 40, .inl (bF w.2.2))), (k0, .inr (4, [.ref t0, .int (iI (bI qk)), .int (iI (bI ql)), .long qm])), (t0, .inr (7, [.ref t1, .ref t2, .ref t3, .ref t4, .int (iI ((tn : Nat) : Int))])), (t1, .inl ((g.2.1 0), 40, .inl (q1 nd))), (t2, .inl ((g.2.1 0), 40, .inl (q2 nd))), (t3, .inl ((g.2.1 0), 40, .inl (q3 nd))), (t4, .inl ((g.2.1 0), 40, .inl (q4 nd)))] := by
  refine ct_i (lv := [(0, .ref h0), (1, .ref r0), (2, .ref k0), (3, .int (iI (bI on)))]) (by decide) rfl (Nat.le_of_ble_eq_true rfl) rfl ?_
  intro x hC hR
  refine z_aload_n hC d_Hi_gather_0 rfl 0 rfl ?_
  refine z_iconstN hC 0 d_Hi_gather_1 rfl ?_
  refine z_put (v := .int (iI ((0 : Nat) : Int))) (ty := .int) (w' := [(h0, .inr (2, [.ref h1, .int (iI ((0 : Nat) : Int))])), (h1, .inl ((g.2.1 0), 60, .inl (nF hn))), (r0, .inr (5, [.ref r1, .ref r2, .ref r3, .ref r4, .ref r5, .int (iI ((rc : Nat) : Int))])), (r1, .inl ((g.2.1 1), 60, .inr (.inl rm))), (r2, .inl ((g.2.1 0), 60, .inl (nF re))), (r3, .inl ((g.2.1 0), 480, .inl ri)), (r4, .inl ((g.2.1 0), 480, .inl (nF rv))), (r5, .inl ((g.2.1 2), 40, .inl (bF rb))), (k0, .inr (4, [.ref t0, .int (iI (bI qk)), .int (iI (bI ql)), .long qm])), (t0, .inr (7, [.ref t1, .ref t2, .ref t3, .ref t4, .int (iI ((tn : Nat) : Int))])), (t1, .inl ((g.2.1 0), 40, .inl (q1 nd))), (t2, .inl ((g.2.1 0), 40, .inl (q2 nd))), (t3, .inl ((g.2.1 0), 40, .inl (q3 nd))), (t4, .inl ((g.2.1 0), 40, .inl (q4 nd)))]) hC hi_Hi ty_Hi ok_Hi nm_Hi 0 rfl rfl 1 (by decide) mw_246 rfl rfl rfl rfl rfl (Nat.le_of_ble_eq_true rfl) rfl d_Hi_gather_2 ?_
  refine z_iconstN hC 1 d_Hi_gather_5 rfl ?_
  refine z_istore (lv' := [(4, .int (iI ((1 : Nat) : Int))), (0, .ref h0), (1, .ref r0), (2, .ref k0), (3, .int (iI (bI on)))]) hC d_Hi_gather_6 (by decide) rfl ?_
  have L_8 : ∀ (fu : Nat) (i c : Nat) (m : Nat → Nat) (b : Nat → Bool), (1 ≤ i ∧ i ≤ rc + 1) → (c + 1 ≤ i) → (∀ k, k < c → 1 ≤ m k ∧ m k ≤ rc) → (gaS (lkB on ql qm rm) (smB re ri rv) nd tn rm (rc + 1 - i) i (c, m, b) = w) → rc + 1 - i < fu → Z x (0, 0) [(h0, .inr (2, [.ref h1, .int (iI ((c : Nat) : Int))])), (h1, .inl ((g.2.1 0), 60, .inl (nF m))), (r0, .inr (5, [.ref r1, .ref r2, .ref r3, .ref r4, .ref r5, .int (iI ((rc : Nat) : Int))])), (r1, .inl ((g.2.1 1), 60, .inr (.inl rm))), (r2, .inl ((g.2.1 0), 60, .inl (nF re))), (r3, .inl ((g.2.1 0), 480, .inl ri)), (r4, .inl ((g.2.1 0), 480, .inl (nF rv))), (r5, .inl ((g.2.1 2), 40, .inl (bF b))), (k0, .inr (4, [.ref t0, .int (iI (bI qk)), .int (iI (bI ql)), .long qm])), (t0, .inr (7, [.ref t1, .ref t2, .ref t3, .ref t4, .int (iI ((tn : Nat) : Int))])), (t1, .inl ((g.2.1 0), 40, .inl (q1 nd))), (t2, .inl ((g.2.1 0), 40, .inl (q2 nd))), (t3, .inl ((g.2.1 0), 40, .inl (q3 nd))), (t4, .inl ((g.2.1 0), 40, .inl (q4 nd)))] 8 [(4, .int (iI ((i : Nat) : Int))), (0, .ref h0), (1, .ref r0), (2, .ref k0), (3, .int (iI (bI on)))] [] := by
    intro fu
    induction fu with
    | zero => intro i c m b hi hci hhn hq hmu; exact absurd hmu (Nat.not_lt_zero _)
    | succ fu ih_8 =>
      intro i c m b hi hci hhn hq hmu
      refine z_iload hC d_Hi_gather_8 0 rfl ?_
      refine z_aload_n hC d_Hi_gather_10 rfl 2 rfl ?_
      refine z_callV (q0 := 2) (ci := 5) (w' := [(h0, .inr (2, [.ref h1, .int (iI ((c : Nat) : Int))])), (h1, .inl ((g.2.1 0), 60, .inl (nF m))), (r0, .inr (5, [.ref r1, .ref r2, .ref r3, .ref r4, .ref r5, .int (iI ((rc : Nat) : Int))])), (r1, .inl ((g.2.1 1), 60, .inr (.inl rm))), (r2, .inl ((g.2.1 0), 60, .inl (nF re))), (r3, .inl ((g.2.1 0), 480, .inl ri)), (r4, .inl ((g.2.1 0), 480, .inl (nF rv))), (r5, .inl ((g.2.1 2), 40, .inl (bF b))), (k0, .inr (4, [.ref t0, .int (iI (bI qk)), .int (iI (bI ql)), .long qm])), (t0, .inr (7, [.ref t1, .ref t2, .ref t3, .ref t4, .int (iI ((tn : Nat) : Int))])), (t1, .inl ((g.2.1 0), 40, .inl (q1 nd))), (t2, .inl ((g.2.1 0), 40, .inl (q2 nd))), (t3, .inl ((g.2.1 0), 40, .inl (q3 nd))), (t4, .inl ((g.2.1 0), 40, .inl (q4 nd)))]) (st1 := [.int (iI ((rc : Nat) : Int)), .int (iI ((i : Nat) : Int))]) hC (k_Rc_size l g r0 r1 r2 r3 r4 r5 rc rm re ri rv b) mw_659 zv_Rc_size rfl rfl ⟨Nat.le_of_ble_eq_true rfl, Nat.le_of_ble_eq_true rfl⟩ [2, 3, 4, 5, 6, 7] rfl rfl rfl rfl rfl rfl rfl rfl (Nat.le_of_ble_eq_true rfl) d_Hi_gather_11 rfl ⟨Nat.zero_le _, Nat.zero_le _⟩ rfl ?_
      refine z_icmp_gt (tgt := 72) hC ((i : Nat) : Int) ((rc : Nat) : Int) d_Hi_gather_14 rfl (iI_t (by omega)) (iI_t (by omega)) (fun c_1 => ?_) (fun c_1 => ?_)
      · have hz : (c, m, b) = w := by rw [← hq, show rc + 1 - i = 0 by omega]; rfl
        subst hz
        refine z_aload_n hC d_Hi_gather_72 rfl 1 rfl ?_
        refine z_get hC hi_Hi 0 rfl rfl 1 (by decide) mw_246 (Or.inl rfl) rfl d_Hi_gather_73 ?_
        exact Z.eq rfl rfl rfl (by rfl) (hR _ _ d_Hi_gather_76)
      · refine z_iload_n hC d_Hi_gather_17 rfl 4 rfl ?_
        refine z_ifeqB (tgt := 34) hC d_Hi_gather_18 rfl (fun c_2 => ?_) (fun c_2 => ?_)
        · refine z_iconstN hC 1 d_Hi_gather_34 rfl ?_
          refine z_goto (tgt := 39) hC d_Hi_gather_35 rfl ?_
          refine z_istore (lv' := [(5, .int (iI ((1 : Nat) : Int))), (4, .int (iI ((i : Nat) : Int))), (0, .ref h0), (1, .ref r0), (2, .ref k0), (3, .int (iI (bI on)))]) hC d_Hi_gather_39 (by decide) rfl ?_
          refine z_iload hC d_Hi_gather_41 0 rfl ?_
          refine z_if_eq (tgt := 66) hC ((1 : Nat) : Int) d_Hi_gather_43 rfl (iI_t (by omega)) (fun c_3 => absurd c_3 (by decide)) (fun c_3 => ?_)
          refine z_aload_n hC d_Hi_gather_46 rfl 3 rfl ?_
          refine z_aload_n hC d_Hi_gather_47 rfl 4 rfl ?_
          refine z_getN hC hi_Qu 8 rfl rfl 0 (by decide) (List.mem_of_getElem? (i := 0) rfl) rfl rfl d_Hi_gather_48 ?_
          refine z_iload hC d_Hi_gather_51 1 rfl ?_
          obtain ⟨w_4, hw_4⟩ : ∃ z : Nat × (Nat → Bool), z = mtR (smB re ri rv i) nd tn (0, b) := ⟨_, rfl⟩
          refine z_callV (q0 := 2) (ci := 5) (w' := [(h0, .inr (2, [.ref h1, .int (iI ((c : Nat) : Int))])), (h1, .inl ((g.2.1 0), 60, .inl (nF m))), (r0, .inr (5, [.ref r1, .ref r2, .ref r3, .ref r4, .ref r5, .int (iI ((rc : Nat) : Int))])), (r1, .inl ((g.2.1 1), 60, .inr (.inl rm))), (r2, .inl ((g.2.1 0), 60, .inl (nF re))), (r3, .inl ((g.2.1 0), 480, .inl ri)), (r4, .inl ((g.2.1 0), 480, .inl (nF rv))), (r5, .inl ((g.2.1 2), 40, .inl (bF w_4.2))), (k0, .inr (4, [.ref t0, .int (iI (bI qk)), .int (iI (bI ql)), .long qm])), (t0, .inr (7, [.ref t1, .ref t2, .ref t3, .ref t4, .int (iI ((tn : Nat) : Int))])), (t1, .inl ((g.2.1 0), 40, .inl (q1 nd))), (t2, .inl ((g.2.1 0), 40, .inl (q2 nd))), (t3, .inl ((g.2.1 0), 40, .inl (q3 nd))), (t4, .inl ((g.2.1 0), 40, .inl (q4 nd)))]) (st1 := [.int (iI (bI (decide (w_4.1 = 1) && w_4.2 0)))]) hC (k_Rc_isMet l g r0 r1 r2 r3 r4 r5 rc rm re ri rv b t0 t1 t2 t3 t4 tn nd i hrc htn (by omega) hre hrv w_4 hw_4) mw_668 zv_Rc_isMet rfl rfl ⟨Nat.le_of_ble_eq_true rfl, Nat.le_of_ble_eq_true rfl⟩ [2, 3, 4, 5, 6, 7, 9, 10, 11, 12, 13] rfl rfl rfl rfl rfl rfl rfl rfl (Nat.le_of_ble_eq_true rfl) d_Hi_gather_53 rfl ⟨Nat.zero_le _, Nat.zero_le _⟩ rfl ?_
          refine z_ifeqB (tgt := 66) hC d_Hi_gather_56 rfl (fun c_5 => ?_) (fun c_5 => ?_)
          · refine z_iincN (lv' := [(4, .int (iI ((i + 1 : Nat) : Int))), (5, .int (iI ((1 : Nat) : Int))), (0, .ref h0), (1, .ref r0), (2, .ref k0), (3, .int (iI (bI on)))]) hC 1 d_Hi_gather_66 rfl 1 rfl (by decide) rfl ?_
            refine z_goto (tgt := 8) hC d_Hi_gather_69 rfl ?_
            exact Zloc [0, 2, 3, 4, 5] rfl (Z.eq (w' := [(h0, .inr (2, [.ref h1, .int (iI ((c : Nat) : Int))])), (h1, .inl ((g.2.1 0), 60, .inl (nF m))), (r0, .inr (5, [.ref r1, .ref r2, .ref r3, .ref r4, .ref r5, .int (iI ((rc : Nat) : Int))])), (r1, .inl ((g.2.1 1), 60, .inr (.inl rm))), (r2, .inl ((g.2.1 0), 60, .inl (nF re))), (r3, .inl ((g.2.1 0), 480, .inl ri)), (r4, .inl ((g.2.1 0), 480, .inl (nF rv))), (r5, .inl ((g.2.1 2), 40, .inl (bF w_4.2))), (k0, .inr (4, [.ref t0, .int (iI (bI qk)), .int (iI (bI ql)), .long qm])), (t0, .inr (7, [.ref t1, .ref t2, .ref t3, .ref t4, .int (iI ((tn : Nat) : Int))])), (t1, .inl ((g.2.1 0), 40, .inl (q1 nd))), (t2, .inl ((g.2.1 0), 40, .inl (q2 nd))), (t3, .inl ((g.2.1 0), 40, .inl (q3 nd))), (t4, .inl ((g.2.1 0), 40, .inl (q4 nd)))]) rfl rfl rfl rfl (ih_8 (i + 1) c m w_4.2 (by omega) (by omega) (by first | exact hhn | exact insF_in hhn (by omega)) (gaS_go (by omega) hq (by first | exact gaT_no (by unfold lkB; simp_all) | exact gaT_hit (by unfold lkB; simp_all) (by assumption) (by assumption) | exact gaT_miss (by unfold lkB; simp_all) (by assumption) (by assumption))) (by omega)))
          · refine z_aload_n hC d_Hi_gather_59 rfl 2 rfl ?_
            refine z_aload_n hC d_Hi_gather_60 rfl 3 rfl ?_
            refine z_iload hC d_Hi_gather_61 1 rfl ?_
            refine z_callV (q0 := 0) (ci := 2) (w' := [(h0, .inr (2, [.ref h1, .int (iI ((c + 1 : Nat) : Int))])), (h1, .inl ((g.2.1 0), 60, .inl (nF (insF rm m c i)))), (r0, .inr (5, [.ref r1, .ref r2, .ref r3, .ref r4, .ref r5, .int (iI ((rc : Nat) : Int))])), (r1, .inl ((g.2.1 1), 60, .inr (.inl rm))), (r2, .inl ((g.2.1 0), 60, .inl (nF re))), (r3, .inl ((g.2.1 0), 480, .inl ri)), (r4, .inl ((g.2.1 0), 480, .inl (nF rv))), (r5, .inl ((g.2.1 2), 40, .inl (bF w_4.2))), (k0, .inr (4, [.ref t0, .int (iI (bI qk)), .int (iI (bI ql)), .long qm])), (t0, .inr (7, [.ref t1, .ref t2, .ref t3, .ref t4, .int (iI ((tn : Nat) : Int))])), (t1, .inl ((g.2.1 0), 40, .inl (q1 nd))), (t2, .inl ((g.2.1 0), 40, .inl (q2 nd))), (t3, .inl ((g.2.1 0), 40, .inl (q3 nd))), (t4, .inl ((g.2.1 0), 40, .inl (q4 nd)))]) (st1 := []) hC (k_Hi_insert l g h0 h1 c m r0 r1 r2 r3 r4 r5 rc rm re ri rv w_4.2 i hrc (by omega) (by omega) hhn) mw_691 zv_Hi_insert rfl rfl ⟨Nat.le_of_ble_eq_true rfl, Nat.le_of_ble_eq_true rfl⟩ [0, 1, 2, 3, 4, 5, 6, 7] rfl rfl rfl rfl rfl rfl rfl rfl (Nat.le_of_ble_eq_true rfl) d_Hi_gather_63 rfl ⟨Nat.zero_le _, Nat.zero_le _⟩ rfl ?_
            refine z_iincN (lv' := [(4, .int (iI ((i + 1 : Nat) : Int))), (5, .int (iI ((1 : Nat) : Int))), (0, .ref h0), (1, .ref r0), (2, .ref k0), (3, .int (iI (bI on)))]) hC 1 d_Hi_gather_66 rfl 1 rfl (by decide) rfl ?_
            refine z_goto (tgt := 8) hC d_Hi_gather_69 rfl ?_
            exact Zloc [0, 2, 3, 4, 5] rfl (Z.eq (w' := [(h0, .inr (2, [.ref h1, .int (iI (((c + 1) : Nat) : Int))])), (h1, .inl ((g.2.1 0), 60, .inl (nF (insF rm m c i)))), (r0, .inr (5, [.ref r1, .ref r2, .ref r3, .ref r4, .ref r5, .int (iI ((rc : Nat) : Int))])), (r1, .inl ((g.2.1 1), 60, .inr (.inl rm))), (r2, .inl ((g.2.1 0), 60, .inl (nF re))), (r3, .inl ((g.2.1 0), 480, .inl ri)), (r4, .inl ((g.2.1 0), 480, .inl (nF rv))), (r5, .inl ((g.2.1 2), 40, .inl (bF w_4.2))), (k0, .inr (4, [.ref t0, .int (iI (bI qk)), .int (iI (bI ql)), .long qm])), (t0, .inr (7, [.ref t1, .ref t2, .ref t3, .ref t4, .int (iI ((tn : Nat) : Int))])), (t1, .inl ((g.2.1 0), 40, .inl (q1 nd))), (t2, .inl ((g.2.1 0), 40, .inl (q2 nd))), (t3, .inl ((g.2.1 0), 40, .inl (q3 nd))), (t4, .inl ((g.2.1 0), 40, .inl (q4 nd)))]) rfl rfl rfl rfl (ih_8 (i + 1) (c + 1) (insF rm m c i) w_4.2 (by omega) (by omega) (by first | exact hhn | exact insF_in hhn (by omega)) (gaS_go (by omega) hq (by first | exact gaT_no (by unfold lkB; simp_all) | exact gaT_hit (by unfold lkB; simp_all) (by assumption) (by assumption) | exact gaT_miss (by unfold lkB; simp_all) (by assumption) (by assumption))) (by omega)))
        · refine z_aload_n hC d_Hi_gather_21 rfl 3 rfl ?_
          refine z_aload_n hC d_Hi_gather_22 rfl 2 rfl ?_
          refine z_iload hC d_Hi_gather_23 0 rfl ?_
          refine z_callV (q0 := 2) (ci := 5) (w' := [(h0, .inr (2, [.ref h1, .int (iI ((c : Nat) : Int))])), (h1, .inl ((g.2.1 0), 60, .inl (nF m))), (r0, .inr (5, [.ref r1, .ref r2, .ref r3, .ref r4, .ref r5, .int (iI ((rc : Nat) : Int))])), (r1, .inl ((g.2.1 1), 60, .inr (.inl rm))), (r2, .inl ((g.2.1 0), 60, .inl (nF re))), (r3, .inl ((g.2.1 0), 480, .inl ri)), (r4, .inl ((g.2.1 0), 480, .inl (nF rv))), (r5, .inl ((g.2.1 2), 40, .inl (bF b))), (k0, .inr (4, [.ref t0, .int (iI (bI qk)), .int (iI (bI ql)), .long qm])), (t0, .inr (7, [.ref t1, .ref t2, .ref t3, .ref t4, .int (iI ((tn : Nat) : Int))])), (t1, .inl ((g.2.1 0), 40, .inl (q1 nd))), (t2, .inl ((g.2.1 0), 40, .inl (q2 nd))), (t3, .inl ((g.2.1 0), 40, .inl (q3 nd))), (t4, .inl ((g.2.1 0), 40, .inl (q4 nd)))]) (st1 := [.long (rm (i - 1)), .ref k0]) hC (k_Rc_momentOf l g r0 r1 r2 r3 r4 r5 rc rm re ri rv b i hrc (by omega)) mw_663 zv_Rc_momentOf rfl rfl ⟨Nat.le_of_ble_eq_true rfl, Nat.le_of_ble_eq_true rfl⟩ [2, 3, 4, 5, 6, 7] rfl rfl rfl rfl rfl rfl rfl rfl (Nat.le_of_ble_eq_true rfl) d_Hi_gather_25 rfl ⟨Nat.zero_le _, Nat.zero_le _⟩ rfl ?_
          refine z_callV (q0 := 8) (ci := 4) (w' := [(h0, .inr (2, [.ref h1, .int (iI ((c : Nat) : Int))])), (h1, .inl ((g.2.1 0), 60, .inl (nF m))), (r0, .inr (5, [.ref r1, .ref r2, .ref r3, .ref r4, .ref r5, .int (iI ((rc : Nat) : Int))])), (r1, .inl ((g.2.1 1), 60, .inr (.inl rm))), (r2, .inl ((g.2.1 0), 60, .inl (nF re))), (r3, .inl ((g.2.1 0), 480, .inl ri)), (r4, .inl ((g.2.1 0), 480, .inl (nF rv))), (r5, .inl ((g.2.1 2), 40, .inl (bF b))), (k0, .inr (4, [.ref t0, .int (iI (bI qk)), .int (iI (bI ql)), .long qm])), (t0, .inr (7, [.ref t1, .ref t2, .ref t3, .ref t4, .int (iI ((tn : Nat) : Int))])), (t1, .inl ((g.2.1 0), 40, .inl (q1 nd))), (t2, .inl ((g.2.1 0), 40, .inl (q2 nd))), (t3, .inl ((g.2.1 0), 40, .inl (q3 nd))), (t4, .inl ((g.2.1 0), 40, .inl (q4 nd)))]) (st1 := [.int (iI (bI (nwB ql qm (rm (i - 1)))))]) hC (k_Qu_isNew l g k0 qk ql qm t0 (rm (i - 1))) mw_664 zv_Qu_isNew rfl rfl ⟨Nat.le_of_ble_eq_true rfl, Nat.le_of_ble_eq_true rfl⟩ [8] rfl rfl rfl rfl rfl rfl rfl rfl (Nat.le_of_ble_eq_true rfl) d_Hi_gather_28 rfl ⟨Nat.zero_le _, Nat.zero_le _⟩ rfl ?_
          refine z_ifeqB (tgt := 38) hC d_Hi_gather_31 rfl (fun c_6 => ?_) (fun c_6 => ?_)
          · refine z_iconstN hC 0 d_Hi_gather_38 rfl ?_
            refine z_istore (lv' := [(5, .int (iI ((0 : Nat) : Int))), (4, .int (iI ((i : Nat) : Int))), (0, .ref h0), (1, .ref r0), (2, .ref k0), (3, .int (iI (bI on)))]) hC d_Hi_gather_39 (by decide) rfl ?_
            refine z_iload hC d_Hi_gather_41 0 rfl ?_
            refine z_if_eq (tgt := 66) hC ((0 : Nat) : Int) d_Hi_gather_43 rfl (iI_t (by omega)) (fun c_7 => ?_) (fun c_7 => absurd c_7 (by decide))
            refine z_iincN (lv' := [(4, .int (iI ((i + 1 : Nat) : Int))), (5, .int (iI ((0 : Nat) : Int))), (0, .ref h0), (1, .ref r0), (2, .ref k0), (3, .int (iI (bI on)))]) hC 1 d_Hi_gather_66 rfl 1 rfl (by decide) rfl ?_
            refine z_goto (tgt := 8) hC d_Hi_gather_69 rfl ?_
            exact Zloc [0, 2, 3, 4, 5] rfl (Z.eq (w' := [(h0, .inr (2, [.ref h1, .int (iI ((c : Nat) : Int))])), (h1, .inl ((g.2.1 0), 60, .inl (nF m))), (r0, .inr (5, [.ref r1, .ref r2, .ref r3, .ref r4, .ref r5, .int (iI ((rc : Nat) : Int))])), (r1, .inl ((g.2.1 1), 60, .inr (.inl rm))), (r2, .inl ((g.2.1 0), 60, .inl (nF re))), (r3, .inl ((g.2.1 0), 480, .inl ri)), (r4, .inl ((g.2.1 0), 480, .inl (nF rv))), (r5, .inl ((g.2.1 2), 40, .inl (bF b))), (k0, .inr (4, [.ref t0, .int (iI (bI qk)), .int (iI (bI ql)), .long qm])), (t0, .inr (7, [.ref t1, .ref t2, .ref t3, .ref t4, .int (iI ((tn : Nat) : Int))])), (t1, .inl ((g.2.1 0), 40, .inl (q1 nd))), (t2, .inl ((g.2.1 0), 40, .inl (q2 nd))), (t3, .inl ((g.2.1 0), 40, .inl (q3 nd))), (t4, .inl ((g.2.1 0), 40, .inl (q4 nd)))]) rfl rfl rfl rfl (ih_8 (i + 1) c m b (by omega) (by omega) (by first | exact hhn | exact insF_in hhn (by omega)) (gaS_go (by omega) hq (by first | exact gaT_no (by unfold lkB; simp_all) | exact gaT_hit (by unfold lkB; simp_all) (by assumption) (by assumption) | exact gaT_miss (by unfold lkB; simp_all) (by assumption) (by assumption))) (by omega)))
          · refine z_iconstN hC 1 d_Hi_gather_34 rfl ?_
            refine z_goto (tgt := 39) hC d_Hi_gather_35 rfl ?_
            refine z_istore (lv' := [(5, .int (iI ((1 : Nat) : Int))), (4, .int (iI ((i : Nat) : Int))), (0, .ref h0), (1, .ref r0), (2, .ref k0), (3, .int (iI (bI on)))]) hC d_Hi_gather_39 (by decide) rfl ?_
            refine z_iload hC d_Hi_gather_41 0 rfl ?_
            refine z_if_eq (tgt := 66) hC ((1 : Nat) : Int) d_Hi_gather_43 rfl (iI_t (by omega)) (fun c_8 => absurd c_8 (by decide)) (fun c_8 => ?_)
            refine z_aload_n hC d_Hi_gather_46 rfl 3 rfl ?_
            refine z_aload_n hC d_Hi_gather_47 rfl 4 rfl ?_
            refine z_getN hC hi_Qu 8 rfl rfl 0 (by decide) (List.mem_of_getElem? (i := 0) rfl) rfl rfl d_Hi_gather_48 ?_
            refine z_iload hC d_Hi_gather_51 1 rfl ?_
            obtain ⟨w_9, hw_9⟩ : ∃ z : Nat × (Nat → Bool), z = mtR (smB re ri rv i) nd tn (0, b) := ⟨_, rfl⟩
            refine z_callV (q0 := 2) (ci := 5) (w' := [(h0, .inr (2, [.ref h1, .int (iI ((c : Nat) : Int))])), (h1, .inl ((g.2.1 0), 60, .inl (nF m))), (r0, .inr (5, [.ref r1, .ref r2, .ref r3, .ref r4, .ref r5, .int (iI ((rc : Nat) : Int))])), (r1, .inl ((g.2.1 1), 60, .inr (.inl rm))), (r2, .inl ((g.2.1 0), 60, .inl (nF re))), (r3, .inl ((g.2.1 0), 480, .inl ri)), (r4, .inl ((g.2.1 0), 480, .inl (nF rv))), (r5, .inl ((g.2.1 2), 40, .inl (bF w_9.2))), (k0, .inr (4, [.ref t0, .int (iI (bI qk)), .int (iI (bI ql)), .long qm])), (t0, .inr (7, [.ref t1, .ref t2, .ref t3, .ref t4, .int (iI ((tn : Nat) : Int))])), (t1, .inl ((g.2.1 0), 40, .inl (q1 nd))), (t2, .inl ((g.2.1 0), 40, .inl (q2 nd))), (t3, .inl ((g.2.1 0), 40, .inl (q3 nd))), (t4, .inl ((g.2.1 0), 40, .inl (q4 nd)))]) (st1 := [.int (iI (bI (decide (w_9.1 = 1) && w_9.2 0)))]) hC (k_Rc_isMet l g r0 r1 r2 r3 r4 r5 rc rm re ri rv b t0 t1 t2 t3 t4 tn nd i hrc htn (by omega) hre hrv w_9 hw_9) mw_668 zv_Rc_isMet rfl rfl ⟨Nat.le_of_ble_eq_true rfl, Nat.le_of_ble_eq_true rfl⟩ [2, 3, 4, 5, 6, 7, 9, 10, 11, 12, 13] rfl rfl rfl rfl rfl rfl rfl rfl (Nat.le_of_ble_eq_true rfl) d_Hi_gather_53 rfl ⟨Nat.zero_le _, Nat.zero_le _⟩ rfl ?_
            refine z_ifeqB (tgt := 66) hC d_Hi_gather_56 rfl (fun c_10 => ?_) (fun c_10 => ?_)
            · refine z_iincN (lv' := [(4, .int (iI ((i + 1 : Nat) : Int))), (5, .int (iI ((1 : Nat) : Int))), (0, .ref h0), (1, .ref r0), (2, .ref k0), (3, .int (iI (bI on)))]) hC 1 d_Hi_gather_66 rfl 1 rfl (by decide) rfl ?_
              refine z_goto (tgt := 8) hC d_Hi_gather_69 rfl ?_
              exact Zloc [0, 2, 3, 4, 5] rfl (Z.eq (w' := [(h0, .inr (2, [.ref h1, .int (iI ((c : Nat) : Int))])), (h1, .inl ((g.2.1 0), 60, .inl (nF m))), (r0, .inr (5, [.ref r1, .ref r2, .ref r3, .ref r4, .ref r5, .int (iI ((rc : Nat) : Int))])), (r1, .inl ((g.2.1 1), 60, .inr (.inl rm))), (r2, .inl ((g.2.1 0), 60, .inl (nF re))), (r3, .inl ((g.2.1 0), 480, .inl ri)), (r4, .inl ((g.2.1 0), 480, .inl (nF rv))), (r5, .inl ((g.2.1 2), 40, .inl (bF w_9.2))), (k0, .inr (4, [.ref t0, .int (iI (bI qk)), .int (iI (bI ql)), .long qm])), (t0, .inr (7, [.ref t1, .ref t2, .ref t3, .ref t4, .int (iI ((tn : Nat) : Int))])), (t1, .inl ((g.2.1 0), 40, .inl (q1 nd))), (t2, .inl ((g.2.1 0), 40, .inl (q2 nd))), (t3, .inl ((g.2.1 0), 40, .inl (q3 nd))), (t4, .inl ((g.2.1 0), 40, .inl (q4 nd)))]) rfl rfl rfl rfl (ih_8 (i + 1) c m w_9.2 (by omega) (by omega) (by first | exact hhn | exact insF_in hhn (by omega)) (gaS_go (by omega) hq (by first | exact gaT_no (by unfold lkB; simp_all) | exact gaT_hit (by unfold lkB; simp_all) (by assumption) (by assumption) | exact gaT_miss (by unfold lkB; simp_all) (by assumption) (by assumption))) (by omega)))
            · refine z_aload_n hC d_Hi_gather_59 rfl 2 rfl ?_
              refine z_aload_n hC d_Hi_gather_60 rfl 3 rfl ?_
              refine z_iload hC d_Hi_gather_61 1 rfl ?_
              refine z_callV (q0 := 0) (ci := 2) (w' := [(h0, .inr (2, [.ref h1, .int (iI ((c + 1 : Nat) : Int))])), (h1, .inl ((g.2.1 0), 60, .inl (nF (insF rm m c i)))), (r0, .inr (5, [.ref r1, .ref r2, .ref r3, .ref r4, .ref r5, .int (iI ((rc : Nat) : Int))])), (r1, .inl ((g.2.1 1), 60, .inr (.inl rm))), (r2, .inl ((g.2.1 0), 60, .inl (nF re))), (r3, .inl ((g.2.1 0), 480, .inl ri)), (r4, .inl ((g.2.1 0), 480, .inl (nF rv))), (r5, .inl ((g.2.1 2), 40, .inl (bF w_9.2))), (k0, .inr (4, [.ref t0, .int (iI (bI qk)), .int (iI (bI ql)), .long qm])), (t0, .inr (7, [.ref t1, .ref t2, .ref t3, .ref t4, .int (iI ((tn : Nat) : Int))])), (t1, .inl ((g.2.1 0), 40, .inl (q1 nd))), (t2, .inl ((g.2.1 0), 40, .inl (q2 nd))), (t3, .inl ((g.2.1 0), 40, .inl (q3 nd))), (t4, .inl ((g.2.1 0), 40, .inl (q4 nd)))]) (st1 := []) hC (k_Hi_insert l g h0 h1 c m r0 r1 r2 r3 r4 r5 rc rm re ri rv w_9.2 i hrc (by omega) (by omega) hhn) mw_691 zv_Hi_insert rfl rfl ⟨Nat.le_of_ble_eq_true rfl, Nat.le_of_ble_eq_true rfl⟩ [0, 1, 2, 3, 4, 5, 6, 7] rfl rfl rfl rfl rfl rfl rfl rfl (Nat.le_of_ble_eq_true rfl) d_Hi_gather_63 rfl ⟨Nat.zero_le _, Nat.zero_le _⟩ rfl ?_
              refine z_iincN (lv' := [(4, .int (iI ((i + 1 : Nat) : Int))), (5, .int (iI ((1 : Nat) : Int))), (0, .ref h0), (1, .ref r0), (2, .ref k0), (3, .int (iI (bI on)))]) hC 1 d_Hi_gather_66 rfl 1 rfl (by decide) rfl ?_
              refine z_goto (tgt := 8) hC d_Hi_gather_69 rfl ?_
              exact Zloc [0, 2, 3, 4, 5] rfl (Z.eq (w' := [(h0, .inr (2, [.ref h1, .int (iI (((c + 1) : Nat) : Int))])), (h1, .inl ((g.2.1 0), 60, .inl (nF (insF rm m c i)))), (r0, .inr (5, [.ref r1, .ref r2, .ref r3, .ref r4, .ref r5, .int (iI ((rc : Nat) : Int))])), (r1, .inl ((g.2.1 1), 60, .inr (.inl rm))), (r2, .inl ((g.2.1 0), 60, .inl (nF re))), (r3, .inl ((g.2.1 0), 480, .inl ri)), (r4, .inl ((g.2.1 0), 480, .inl (nF rv))), (r5, .inl ((g.2.1 2), 40, .inl (bF w_9.2))), (k0, .inr (4, [.ref t0, .int (iI (bI qk)), .int (iI (bI ql)), .long qm])), (t0, .inr (7, [.ref t1, .ref t2, .ref t3, .ref t4, .int (iI ((tn : Nat) : Int))])), (t1, .inl ((g.2.1 0), 40, .inl (q1 nd))), (t2, .inl ((g.2.1 0), 40, .inl (q2 nd))), (t3, .inl ((g.2.1 0), 40, .inl (q3 nd))), (t4, .inl ((g.2.1 0), 40, .inl (q4 nd)))]) rfl rfl rfl rfl (ih_8 (i + 1) (c + 1) (insF rm m c i) w_9.2 (by omega) (by omega) (by first | exact hhn | exact insF_in hhn (by omega)) (gaS_go (by omega) hq (by first | exact gaT_no (by unfold lkB; simp_all) | exact gaT_hit (by unfold lkB; simp_all) (by assumption) (by assumption) | exact gaT_miss (by unfold lkB; simp_all) (by assumption) (by assumption))) (by omega)))
  exact Zloc [0, 1, 2, 3, 4] rfl (Z.eq (w' := [(h0, .inr (2, [.ref h1, .int (iI ((0 : Nat) : Int))])), (h1, .inl ((g.2.1 0), 60, .inl (nF hn))), (r0, .inr (5, [.ref r1, .ref r2, .ref r3, .ref r4, .ref r5, .int (iI ((rc : Nat) : Int))])), (r1, .inl ((g.2.1 1), 60, .inr (.inl rm))), (r2, .inl ((g.2.1 0), 60, .inl (nF re))), (r3, .inl ((g.2.1 0), 480, .inl ri)), (r4, .inl ((g.2.1 0), 480, .inl (nF rv))), (r5, .inl ((g.2.1 2), 40, .inl (bF rb))), (k0, .inr (4, [.ref t0, .int (iI (bI qk)), .int (iI (bI ql)), .long qm])), (t0, .inr (7, [.ref t1, .ref t2, .ref t3, .ref t4, .int (iI ((tn : Nat) : Int))])), (t1, .inl ((g.2.1 0), 40, .inl (q1 nd))), (t2, .inl ((g.2.1 0), 40, .inl (q2 nd))), (t3, .inl ((g.2.1 0), 40, .inl (q3 nd))), (t4, .inl ((g.2.1 0), 40, .inl (q4 nd)))]) rfl rfl rfl rfl (L_8 _ 1 0 hn rb (by omega) (by omega) (fun k h => absurd h (Nat.not_lt_zero k)) (by rw [hw]; rfl) (Nat.lt_succ_self _)))
