/-! ===== register, the nearest NAME ===== -/
theorem rowE_rng (n : Nat) (f : Nat → Int32) : ∀ (k e : Nat), e ≤ rowE n f k e ∧ rowE n f k e ≤ e + k
  | 0, e => ⟨Nat.le_refl _, Nat.le_refl _⟩
  | k + 1, e => by
    simp only [rowE]
    split
    · have := rowE_rng n f k (e + 1)
      omega
    · omega
def rgF (xl : Nat → Int32) (n : Nat) (f : Nat → Int32) (c : Nat) : Nat → Int32 := fun k => if c * 8 ≤ k ∧ k < c * 8 + n then sN n f (k - c * 8) else xl k
theorem rg_go {xl m : Nat → Int32} {n : Nat} {f : Nat → Int32} {c j : Nat} (hm : ∀ k, m k = if c * 8 ≤ k ∧ k < c * 8 + j then sN n f (k - c * 8) else xl k) : ∀ k, upd m (c * 8 + j) (sN n f j) k = if c * 8 ≤ k ∧ k < c * 8 + (j + 1) then sN n f (k - c * 8) else xl k := by
  intro k
  unfold upd
  by_cases e : k = c * 8 + j
  · subst e
    rw [if_pos rfl, if_pos (by omega), show c * 8 + j - c * 8 = j by omega]
  · rw [if_neg e, hm]
    by_cases q : c * 8 ≤ k ∧ k < c * 8 + j
    · rw [if_pos q, if_pos (by omega)]
    · rw [if_neg q, if_neg (by omega)]
/-- a row more of the table of changes -/
def nxt (r : Nat → Nat) (c : Nat → Bool) (i : Nat) : Nat → Nat
  | 0 => i + 1
  | j + 1 => min (r j + (if c j = true then 0 else 1)) (min (r (j + 1)) (nxt r c i j) + 1)
def rowD (q : Nat → Nat → Bool) : Nat → Nat → Nat
  | 0 => fun j => j
  | i + 1 => nxt (rowD q i) (q i) i
theorem rowD_le (q : Nat → Nat → Bool) : ∀ (i j : Nat), rowD q i j ≤ i + j
  | 0, j => by show j ≤ 0 + j; omega
  | i + 1, 0 => by show i + 1 ≤ i + 1 + 0; omega
  | i + 1, j + 1 => by
    show min (rowD q i j + _) (min (rowD q i (j + 1)) (nxt (rowD q i) (q i) i j) + 1) ≤ _
    have h1 := rowD_le q i j
    split <;> omega
def eqF (un : Nat) (uf xl : Nat → Int32) (k : Nat) : Nat → Nat → Bool := fun i j => decide (sN un uf i = xl (k * 8 + j))
def chF (ch : Nat → Nat) (n : Nat) (r : Nat → Nat) : Nat → Nat := fun j => if j ≤ n then r j else ch j
theorem ch_go {ch m : Nat → Nat} {j : Nat} (hm : ∀ t, m t = if t < j then t else ch t) : ∀ t, up m j j t = if t < j + 1 then t else ch t := by
  intro t
  unfold up
  by_cases e : t = j
  · subst e
    rw [if_pos rfl, if_pos (by omega)]
  · rw [if_neg e, hm]
    by_cases q : t < j
    · rw [if_pos q, if_pos (by omega)]
    · rw [if_neg q, if_neg (by omega)]
theorem ch_0 {ch m : Nat → Nat} {n j : Nat} {q : Nat → Nat → Bool} (hj : j = n + 1) (hm : ∀ t, m t = if t < j then t else ch t) : ∀ t, m t = chF ch n (rowD q 0) t := by
  intro t
  rw [hm]
  unfold chF
  by_cases z : t ≤ n
  · rw [if_pos (by omega), if_pos z]
    rfl
  · rw [if_neg (by omega), if_neg z]
theorem ch_1 {ch m : Nat → Nat} {n i : Nat} {q : Nat → Nat → Bool} (hm : ∀ t, m t = chF ch n (rowD q i) t) : ∀ t, up m 0 (i + 1) t = if t < 1 then rowD q (i + 1) t else chF ch n (rowD q i) t := by
  intro t
  unfold up
  by_cases e : t = 0
  · subst e
    rw [if_pos rfl, if_pos (by omega)]
    rfl
  · rw [if_neg e, hm, if_neg (by omega)]
theorem ch_2 {ch m : Nat → Nat} {n i j b : Nat} {q : Nat → Nat → Bool} (h1 : 1 ≤ j) (hj : j ≤ n) (hb : b = rowD q i (j - 1)) (hm : ∀ t, m t = if t < j then rowD q (i + 1) t else chF ch n (rowD q i) t) {c : Nat} (hc : c = if q i (j - 1) = true then 0 else 1) : ∀ t, up m j (min (b + c) (min (m j) (m (j - 1)) + 1)) t = if t < j + 1 then rowD q (i + 1) t else chF ch n (rowD q i) t := by
  intro t
  unfold up
  by_cases e : t = j
  · subst e
    rw [if_pos rfl, if_pos (by omega), hm t, if_neg (by omega), hm (t - 1), if_pos (by omega), hb, hc]
    obtain ⟨s, rfl⟩ : ∃ s, t = s + 1 := ⟨t - 1, by omega⟩
    unfold chF
    rw [if_pos hj]
    rfl
  · rw [if_neg e, hm]
    by_cases z : t < j
    · rw [if_pos z, if_pos (by omega)]
    · rw [if_neg z, if_neg (by omega)]
theorem ch_3 {ch m : Nat → Nat} {n i j : Nat} {q : Nat → Nat → Bool} (hj : j = n + 1) (hm : ∀ t, m t = if t < j then rowD q (i + 1) t else chF ch n (rowD q i) t) : ∀ t, m t = chF ch n (rowD q (i + 1)) t := by
  intro t
  rw [hm]
  unfold chF
  by_cases z : t ≤ n
  · rw [if_pos (by omega), if_pos z]
  · rw [if_neg (by omega), if_neg z, if_neg z]
def nrS (d : Nat → Nat) : Nat → Int × Nat
  | 0 => (-1, 0)
  | i + 1 => if (nrS d i).1 = -1 ∨ d i < (nrS d i).2 then ((i : Int), d i) else nrS d i
theorem nr_hit {d : Nat → Nat} {i f : Nat} {b : Int} (h : (b, f) = nrS d i) (c : b = -1 ∨ d i < f) : ((i : Int), d i) = nrS d (i + 1) := by
  simp only [nrS]
  rw [← h, if_pos c]
theorem nr_keep {d : Nat → Nat} {i f : Nat} {b : Int} (h : (b, f) = nrS d i) (c1 : ¬ b = -1) (c2 : f ≤ d i) : (b, f) = nrS d (i + 1) := by
  simp only [nrS]
  rw [← h, if_neg (by omega)]
def nrC (ch : Nat → Nat) (un : Nat) (uf xl : Nat → Int32) (xn : Nat → Nat) : Nat → Nat → Nat
  | 0 => ch
  | i + 1 => chF (nrC ch un uf xl xn i) (xn i) (rowD (eqF un uf xl i) un)
set_option maxHeartbeats 4000000 in
set_option maxRecDepth 100000 in
theorem k_Ix_register (l : Launch) (g : ZG) (x0 x1 x2 x3 x4 xc : Nat) (xl : Nat → Int32) (xn : Nat → Nat) (xo : Nat → Bool) (ch : Nat → Nat) (s0 s1 sn sp : Nat) (sf : Nat → Int32) (hxc : xc ≤ 8) (hxn : ∀ j, j < xc → xn j ≤ 8) (hsn : sn ≤ 200)   : Ct l g y_Ix_register c_Ix_register 5 (some .int) { frames := 6, cells := 0, slots := 0, locals := 129 } [.ref x0, .ref s0] [(x0, .inr (3, [.ref x1, .ref x2, .ref x3, .ref x4, .int (iI ((xc : Nat) : Int))])), (x1, .inl ((g.2.1 0), 64, .inl xl)), (x2, .inl ((g.2.1 0), 8, .inl (nF xn))), (x3, .inl ((g.2.1 2), 8, .inl (bF xo))), (x4, .inl ((g.2.1 0), 9, .inl (nF ch))), (s0, .inr (6, [.ref s1, .int (iI ((sn : Nat) : Int)), .int (iI ((sp : Nat) : Int))])), (s1, .inl ((g.2.1 0), 200, .inl sf))] (some (.int (iI (if xc < 8 ∧ 1 ≤ sn ∧ sn ≤ 8 ∧ rowE sn sf (sn - 0) 0 = sn ∧ jS sn sf 0 sn = -1 ∧ fnd (nmB xn xl sn sf 0 sn) xc 0 = -1 then ((xc : Nat) : Int) else -1)))) [(x0, .inr (3, [.ref x1, .ref x2, .ref x3, .ref x4, .int (iI ((if xc < 8 ∧ 1 ≤ sn ∧ sn ≤ 8 ∧ rowE sn sf (sn - 0) 0 = sn ∧ jS sn sf 0 sn = -1 ∧ fnd (nmB xn xl sn sf 0 sn) xc 0 = -1 then xc + 1 else xc : Nat) : Int))])), (x1, .inl ((g.2.1 0), 64, .inl (if xc < 8 ∧ 1 ≤ sn ∧ sn ≤ 8 ∧ rowE sn sf (sn - 0) 0 = sn ∧ jS sn sf 0 sn = -1 ∧ fnd (nmB xn xl sn sf 0 sn) xc 0 = -1 then rgF xl sn sf xc else xl))), (x2, .inl ((g.2.1 0), 8, .inl (nF (if xc < 8 ∧ 1 ≤ sn ∧ sn ≤ 8 ∧ rowE sn sf (sn - 0) 0 = sn ∧ jS sn sf 0 sn = -1 ∧ fnd (nmB xn xl sn sf 0 sn) xc 0 = -1 then up xn xc sn else xn)))), (x3, .inl ((g.2.1 2), 8, .inl (bF (if xc < 8 ∧ 1 ≤ sn ∧ sn ≤ 8 ∧ rowE sn sf (sn - 0) 0 = sn ∧ jS sn sf 0 sn = -1 ∧ fnd (nmB xn xl sn sf 0 sn) xc 0 = -1 then up xo xc true else xo)))), (x4, .inl ((g.2.1 0), 9, .inl (nF ch))), (s0, .inr (6, [.ref s1, .int (iI ((sn : Nat) : Int)), .int (iI ((0 : Nat) : Int))])), (s1, .inl ((g.2.1 0), 200, .inl sf))] := by
  refine ct_i (lv := [(0, .ref x0), (1, .ref s0)]) (by decide) rfl (Nat.le_of_ble_eq_true rfl) rfl ?_
  intro x hC hR
  have hr9 := rowE_rng sn sf (sn - 0) 0
  have hj9 := jS_rng sn sf 0 sn
  have hf9 := fnd_rng (nmB xn xl sn sf 0 sn) xc 0
  refine z_aload_n hC d_Ix_register_0 rfl 1 rfl ?_
  refine z_iconstN hC 0 d_Ix_register_1 rfl ?_
  refine z_callV (q0 := 5) (ci := 6) (w' := [(x0, .inr (3, [.ref x1, .ref x2, .ref x3, .ref x4, .int (iI ((xc : Nat) : Int))])), (x1, .inl ((g.2.1 0), 64, .inl xl)), (x2, .inl ((g.2.1 0), 8, .inl (nF xn))), (x3, .inl ((g.2.1 2), 8, .inl (bF xo))), (x4, .inl ((g.2.1 0), 9, .inl (nF ch))), (s0, .inr (6, [.ref s1, .int (iI ((sn : Nat) : Int)), .int (iI ((0 : Nat) : Int))])), (s1, .inl ((g.2.1 0), 200, .inl sf))]) (st1 := []) hC (k_So_moveTo l g s0 s1 sn sp sf 0) mw_299 zv_So_moveTo rfl rfl ⟨Nat.le_of_ble_eq_true rfl, Nat.le_of_ble_eq_true rfl⟩ [5, 6] rfl rfl rfl rfl rfl rfl rfl rfl (Nat.le_of_ble_eq_true rfl) d_Ix_register_2 rfl ⟨Nat.zero_le _, Nat.zero_le _⟩ rfl ?_
  refine z_aload_n hC d_Ix_register_5 rfl 1 rfl ?_
  refine z_callV (q0 := 5) (ci := 6) (w' := [(x0, .inr (3, [.ref x1, .ref x2, .ref x3, .ref x4, .int (iI ((xc : Nat) : Int))])), (x1, .inl ((g.2.1 0), 64, .inl xl)), (x2, .inl ((g.2.1 0), 8, .inl (nF xn))), (x3, .inl ((g.2.1 2), 8, .inl (bF xo))), (x4, .inl ((g.2.1 0), 9, .inl (nF ch))), (s0, .inr (6, [.ref s1, .int (iI ((sn : Nat) : Int)), .int (iI ((0 : Nat) : Int))])), (s1, .inl ((g.2.1 0), 200, .inl sf))]) (st1 := [.int (iI ((sn : Nat) : Int))]) hC (k_So_length l g s0 s1 sn 0 sf) mw_303 zv_So_length rfl rfl ⟨Nat.le_of_ble_eq_true rfl, Nat.le_of_ble_eq_true rfl⟩ [5, 6] rfl rfl rfl rfl rfl rfl rfl rfl (Nat.le_of_ble_eq_true rfl) d_Ix_register_6 rfl ⟨Nat.zero_le _, Nat.zero_le _⟩ rfl ?_
  refine z_istore_n (lv' := [(2, .int (iI ((sn : Nat) : Int))), (0, .ref x0), (1, .ref s0)]) hC d_Ix_register_9 rfl (by decide) rfl ?_
  refine z_aload_n hC d_Ix_register_10 rfl 1 rfl ?_
  refine z_get hC hi_Ix 0 rfl rfl 4 (by decide) mw_99 (Or.inl rfl) rfl d_Ix_register_11 ?_
  refine z_if_lt (tgt := 37) hC ((xc : Nat) : Int) d_Ix_register_14 rfl (iI_t (by omega)) (fun c_1 => ?_) (fun c_1 => ?_)
  · refine z_iconst hC d_Ix_register_37 ?_
    exact Z.eq (by first | (exfalso; omega) | (simp only [if_neg (show ¬ (xc < 8 ∧ 1 ≤ sn ∧ sn ≤ 8 ∧ rowE sn sf (sn - 0) 0 = sn ∧ jS sn sf 0 sn = -1 ∧ fnd (nmB xn xl sn sf 0 sn) xc 0 = -1) by omega)]; done) | (simp only [if_pos (show xc < 8 ∧ 1 ≤ sn ∧ sn ≤ 8 ∧ rowE sn sf (sn - 0) 0 = sn ∧ jS sn sf 0 sn = -1 ∧ fnd (nmB xn xl sn sf 0 sn) xc 0 = -1 by omega)]; rw [show m = rgF xl sn sf xc from funext (fun k => by rw [hm, rgF, show j = sn by omega])])) rfl rfl (by first | (exfalso; omega) | (rw [if_neg (by omega)]; done) | (rw [if_pos (by omega)]; rfl)) (hR _ _ d_Ix_register_38)
  · refine z_aload_n hC d_Ix_register_17 rfl 1 rfl ?_
    refine z_get hC hi_Ix 0 rfl rfl 4 (by decide) mw_99 (Or.inl rfl) rfl d_Ix_register_18 ?_
    refine z_bipush (a := ((8 : Nat) : Int)) hC d_Ix_register_21 (by decide) ?_
    refine z_icmp_ge (tgt := 37) hC ((xc : Nat) : Int) ((8 : Nat) : Int) d_Ix_register_23 rfl (iI_t (by omega)) (iI_t (by omega)) (fun c_2 => ?_) (fun c_2 => ?_)
    · refine z_iconst hC d_Ix_register_37 ?_
      exact Z.eq (by first | (exfalso; omega) | (simp only [if_neg (show ¬ (xc < 8 ∧ 1 ≤ sn ∧ sn ≤ 8 ∧ rowE sn sf (sn - 0) 0 = sn ∧ jS sn sf 0 sn = -1 ∧ fnd (nmB xn xl sn sf 0 sn) xc 0 = -1) by omega)]; done) | (simp only [if_pos (show xc < 8 ∧ 1 ≤ sn ∧ sn ≤ 8 ∧ rowE sn sf (sn - 0) 0 = sn ∧ jS sn sf 0 sn = -1 ∧ fnd (nmB xn xl sn sf 0 sn) xc 0 = -1 by omega)]; rw [show m = rgF xl sn sf xc from funext (fun k => by rw [hm, rgF, show j = sn by omega])])) rfl rfl (by first | (exfalso; omega) | (rw [if_neg (by omega)]; done) | (rw [if_pos (by omega)]; rfl)) (hR _ _ d_Ix_register_38)
    · refine z_iload_n hC d_Ix_register_26 rfl 0 rfl ?_
      refine z_iconstN hC 1 d_Ix_register_27 rfl ?_
      refine z_icmp_lt (tgt := 37) hC ((sn : Nat) : Int) ((1 : Nat) : Int) d_Ix_register_28 rfl (iI_t (by omega)) (iI_t (by omega)) (fun c_3 => ?_) (fun c_3 => ?_)
      · refine z_iconst hC d_Ix_register_37 ?_
        exact Z.eq (by first | (exfalso; omega) | (simp only [if_neg (show ¬ (xc < 8 ∧ 1 ≤ sn ∧ sn ≤ 8 ∧ rowE sn sf (sn - 0) 0 = sn ∧ jS sn sf 0 sn = -1 ∧ fnd (nmB xn xl sn sf 0 sn) xc 0 = -1) by omega)]; done) | (simp only [if_pos (show xc < 8 ∧ 1 ≤ sn ∧ sn ≤ 8 ∧ rowE sn sf (sn - 0) 0 = sn ∧ jS sn sf 0 sn = -1 ∧ fnd (nmB xn xl sn sf 0 sn) xc 0 = -1 by omega)]; rw [show m = rgF xl sn sf xc from funext (fun k => by rw [hm, rgF, show j = sn by omega])])) rfl rfl (by first | (exfalso; omega) | (rw [if_neg (by omega)]; done) | (rw [if_pos (by omega)]; rfl)) (hR _ _ d_Ix_register_38)
      · refine z_iload_n hC d_Ix_register_31 rfl 0 rfl ?_
        refine z_bipush (a := ((8 : Nat) : Int)) hC d_Ix_register_32 (by decide) ?_
        refine z_icmp_le (tgt := 39) hC ((sn : Nat) : Int) ((8 : Nat) : Int) d_Ix_register_34 rfl (iI_t (by omega)) (iI_t (by omega)) (fun c_4 => ?_) (fun c_4 => ?_)
        · refine z_aload_n hC d_Ix_register_39 rfl 2 rfl ?_
          refine z_callV (q0 := 5) (ci := 6) (w' := [(x0, .inr (3, [.ref x1, .ref x2, .ref x3, .ref x4, .int (iI ((xc : Nat) : Int))])), (x1, .inl ((g.2.1 0), 64, .inl xl)), (x2, .inl ((g.2.1 0), 8, .inl (nF xn))), (x3, .inl ((g.2.1 2), 8, .inl (bF xo))), (x4, .inl ((g.2.1 0), 9, .inl (nF ch))), (s0, .inr (6, [.ref s1, .int (iI ((sn : Nat) : Int)), .int (iI ((0 : Nat) : Int))])), (s1, .inl ((g.2.1 0), 200, .inl sf))]) (st1 := [.int (iI ((rowE sn sf (sn - 0) 0 : Nat) : Int))]) hC (k_So_rowEnd l g s0 s1 sn 0 sf hsn (by omega)) mw_307 zv_So_rowEnd rfl rfl ⟨Nat.le_of_ble_eq_true rfl, Nat.le_of_ble_eq_true rfl⟩ [5, 6] rfl rfl rfl rfl rfl rfl rfl rfl (Nat.le_of_ble_eq_true rfl) d_Ix_register_40 rfl ⟨Nat.zero_le _, Nat.zero_le _⟩ rfl ?_
          refine z_iload_n hC d_Ix_register_43 rfl 0 rfl ?_
          refine z_icmp_ne (tgt := 51) hC ((rowE sn sf (sn - 0) 0 : Nat) : Int) ((sn : Nat) : Int) d_Ix_register_44 rfl (iI_t (by omega)) (iI_t (by omega)) (fun c_5 => ?_) (fun c_5 => ?_)
          · refine z_iconstN hC 0 d_Ix_register_51 rfl ?_
            refine z_istore_n (lv' := [(3, .int (iI ((0 : Nat) : Int))), (2, .int (iI ((sn : Nat) : Int))), (0, .ref x0), (1, .ref s0)]) hC d_Ix_register_52 rfl (by decide) rfl ?_
            refine z_iload_n hC d_Ix_register_53 rfl 0 rfl ?_
            refine z_if_eq (tgt := 76) hC ((0 : Nat) : Int) d_Ix_register_54 rfl (iI_t (by omega)) (fun c_6 => ?_) (fun c_6 => absurd c_6 (by decide))
            refine z_iconst hC d_Ix_register_76 ?_
            exact Z.eq (by first | (exfalso; omega) | (simp only [if_neg (show ¬ (xc < 8 ∧ 1 ≤ sn ∧ sn ≤ 8 ∧ rowE sn sf (sn - 0) 0 = sn ∧ jS sn sf 0 sn = -1 ∧ fnd (nmB xn xl sn sf 0 sn) xc 0 = -1) by omega)]; done) | (simp only [if_pos (show xc < 8 ∧ 1 ≤ sn ∧ sn ≤ 8 ∧ rowE sn sf (sn - 0) 0 = sn ∧ jS sn sf 0 sn = -1 ∧ fnd (nmB xn xl sn sf 0 sn) xc 0 = -1 by omega)]; rw [show m = rgF xl sn sf xc from funext (fun k => by rw [hm, rgF, show j = sn by omega])])) rfl rfl (by first | (exfalso; omega) | (rw [if_neg (by omega)]; done) | (rw [if_pos (by omega)]; rfl)) (hR _ _ d_Ix_register_77)
          · refine z_iconstN hC 1 d_Ix_register_47 rfl ?_
            refine z_goto (tgt := 52) hC d_Ix_register_48 rfl ?_
            refine z_istore_n (lv' := [(3, .int (iI ((1 : Nat) : Int))), (2, .int (iI ((sn : Nat) : Int))), (0, .ref x0), (1, .ref s0)]) hC d_Ix_register_52 rfl (by decide) rfl ?_
            refine z_iload_n hC d_Ix_register_53 rfl 0 rfl ?_
            refine z_if_eq (tgt := 76) hC ((1 : Nat) : Int) d_Ix_register_54 rfl (iI_t (by omega)) (fun c_7 => absurd c_7 (by decide)) (fun c_7 => ?_)
            refine z_aload_n hC d_Ix_register_57 rfl 3 rfl ?_
            refine z_iload_n hC d_Ix_register_58 rfl 1 rfl ?_
            refine z_callV (q0 := 5) (ci := 6) (w' := [(x0, .inr (3, [.ref x1, .ref x2, .ref x3, .ref x4, .int (iI ((xc : Nat) : Int))])), (x1, .inl ((g.2.1 0), 64, .inl xl)), (x2, .inl ((g.2.1 0), 8, .inl (nF xn))), (x3, .inl ((g.2.1 2), 8, .inl (bF xo))), (x4, .inl ((g.2.1 0), 9, .inl (nF ch))), (s0, .inr (6, [.ref s1, .int (iI ((sn : Nat) : Int)), .int (iI ((0 : Nat) : Int))])), (s1, .inl ((g.2.1 0), 200, .inl sf))]) (st1 := [.int (iI (jS sn sf 0 sn))]) hC (k_So_joiningSort l g s0 s1 sn 0 sf sn hsn (by omega) (by omega) (by omega)) mw_318 zv_So_joiningSort rfl rfl ⟨Nat.le_of_ble_eq_true rfl, Nat.le_of_ble_eq_true rfl⟩ [5, 6] rfl rfl rfl rfl rfl rfl rfl rfl (Nat.le_of_ble_eq_true rfl) d_Ix_register_59 rfl ⟨Nat.zero_le _, Nat.zero_le _⟩ rfl ?_
            refine z_iconst hC d_Ix_register_62 ?_
            refine z_icmp_ne (tgt := 76) hC (jS sn sf 0 sn) (-1) d_Ix_register_63 rfl (iI_t (by omega)) (iI_t (by omega)) (fun c_8 => ?_) (fun c_8 => ?_)
            · refine z_iconst hC d_Ix_register_76 ?_
              exact Z.eq (by first | (exfalso; omega) | (simp only [if_neg (show ¬ (xc < 8 ∧ 1 ≤ sn ∧ sn ≤ 8 ∧ rowE sn sf (sn - 0) 0 = sn ∧ jS sn sf 0 sn = -1 ∧ fnd (nmB xn xl sn sf 0 sn) xc 0 = -1) by omega)]; done) | (simp only [if_pos (show xc < 8 ∧ 1 ≤ sn ∧ sn ≤ 8 ∧ rowE sn sf (sn - 0) 0 = sn ∧ jS sn sf 0 sn = -1 ∧ fnd (nmB xn xl sn sf 0 sn) xc 0 = -1 by omega)]; rw [show m = rgF xl sn sf xc from funext (fun k => by rw [hm, rgF, show j = sn by omega])])) rfl rfl (by first | (exfalso; omega) | (rw [if_neg (by omega)]; done) | (rw [if_pos (by omega)]; rfl)) (hR _ _ d_Ix_register_77)
            · refine z_aload_n hC d_Ix_register_66 rfl 2 rfl ?_
              refine z_aload_n hC d_Ix_register_67 rfl 3 rfl ?_
              refine z_iload_n hC d_Ix_register_68 rfl 1 rfl ?_
              refine z_callV (q0 := 0) (ci := 3) (w' := [(x0, .inr (3, [.ref x1, .ref x2, .ref x3, .ref x4, .int (iI ((xc : Nat) : Int))])), (x1, .inl ((g.2.1 0), 64, .inl xl)), (x2, .inl ((g.2.1 0), 8, .inl (nF xn))), (x3, .inl ((g.2.1 2), 8, .inl (bF xo))), (x4, .inl ((g.2.1 0), 9, .inl (nF ch))), (s0, .inr (6, [.ref s1, .int (iI ((sn : Nat) : Int)), .int (iI ((0 : Nat) : Int))])), (s1, .inl ((g.2.1 0), 200, .inl sf))]) (st1 := [.int (iI (fnd (nmB xn xl sn sf 0 sn) xc 0))]) hC (k_Ix_find l g x0 x1 x2 x3 x4 xc xl xn xo ch s0 s1 sn 0 sf sn hxc hxn hsn (by omega) (by omega) (by omega)) mw_377 zv_Ix_find rfl rfl ⟨Nat.le_of_ble_eq_true rfl, Nat.le_of_ble_eq_true rfl⟩ [0, 1, 2, 3, 4, 5, 6] rfl rfl rfl rfl rfl rfl rfl rfl (Nat.le_of_ble_eq_true rfl) d_Ix_register_69 rfl ⟨Nat.zero_le _, Nat.zero_le _⟩ rfl ?_
              refine z_iconst hC d_Ix_register_72 ?_
              refine z_icmp_eq (tgt := 78) hC (fnd (nmB xn xl sn sf 0 sn) xc 0) (-1) d_Ix_register_73 rfl (iI_t (by omega)) (iI_t (by omega)) (fun c_9 => ?_) (fun c_9 => ?_)
              · refine z_iconstN hC 0 d_Ix_register_78 rfl ?_
                refine z_istore (lv' := [(4, .int (iI ((0 : Nat) : Int))), (3, .int (iI ((1 : Nat) : Int))), (2, .int (iI ((sn : Nat) : Int))), (0, .ref x0), (1, .ref s0)]) hC d_Ix_register_79 (by decide) rfl ?_
                have L_81 : ∀ (fu : Nat) (j : Nat) (m : Nat → Int32), (j ≤ sn) → (∀ k, m k = if xc * 8 ≤ k ∧ k < xc * 8 + j then sN sn sf (k - xc * 8) else xl k) → sn - j < fu → Z x (0, 0) [(x0, .inr (3, [.ref x1, .ref x2, .ref x3, .ref x4, .int (iI ((xc : Nat) : Int))])), (x1, .inl ((g.2.1 0), 64, .inl m)), (x2, .inl ((g.2.1 0), 8, .inl (nF xn))), (x3, .inl ((g.2.1 2), 8, .inl (bF xo))), (x4, .inl ((g.2.1 0), 9, .inl (nF ch))), (s0, .inr (6, [.ref s1, .int (iI ((sn : Nat) : Int)), .int (iI ((0 : Nat) : Int))])), (s1, .inl ((g.2.1 0), 200, .inl sf))] 81 [(4, .int (iI ((j : Nat) : Int))), (3, .int (iI ((1 : Nat) : Int))), (2, .int (iI ((sn : Nat) : Int))), (0, .ref x0), (1, .ref s0)] [] := by
                  intro fu
                  induction fu with
                  | zero => intro j m hj hm hmu; exact absurd hmu (Nat.not_lt_zero _)
                  | succ fu ih_81 =>
                    intro j m hj hm hmu
                    refine z_iload hC d_Ix_register_81 0 rfl ?_
                    refine z_iload_n hC d_Ix_register_83 rfl 2 rfl ?_
                    refine z_icmp_ge (tgt := 114) hC ((j : Nat) : Int) ((sn : Nat) : Int) d_Ix_register_84 rfl (iI_t (by omega)) (iI_t (by omega)) (fun c_10 => ?_) (fun c_10 => ?_)
                    · refine z_aload_n hC d_Ix_register_114 rfl 3 rfl ?_
                      refine z_get hC hi_Ix 0 rfl rfl 1 (by decide) mw_96 (Or.inl rfl) rfl d_Ix_register_115 ?_
                      refine z_aload_n hC d_Ix_register_118 rfl 3 rfl ?_
                      refine z_get hC hi_Ix 0 rfl rfl 4 (by decide) mw_99 (Or.inl rfl) rfl d_Ix_register_119 ?_
                      refine z_iload_n hC d_Ix_register_122 rfl 2 rfl ?_
                      refine z_iastN (v := sn) (w' := [(x0, .inr (3, [.ref x1, .ref x2, .ref x3, .ref x4, .int (iI ((xc : Nat) : Int))])), (x1, .inl ((g.2.1 0), 64, .inl m)), (x2, .inl ((g.2.1 0), 8, .inl (nF (up xn xc sn)))), (x3, .inl ((g.2.1 2), 8, .inl (bF xo))), (x4, .inl ((g.2.1 0), 9, .inl (nF ch))), (s0, .inr (6, [.ref s1, .int (iI ((sn : Nat) : Int)), .int (iI ((0 : Nat) : Int))])), (s1, .inl ((g.2.1 0), 200, .inl sf))]) hC 2 0 rfl rfl xc rfl (by omega) (by decide) rfl d_Ix_register_123 ?_
                      refine z_aload_n hC d_Ix_register_124 rfl 3 rfl ?_
                      refine z_get hC hi_Ix 0 rfl rfl 2 (by decide) mw_97 (Or.inl rfl) rfl d_Ix_register_125 ?_
                      refine z_aload_n hC d_Ix_register_128 rfl 3 rfl ?_
                      refine z_get hC hi_Ix 0 rfl rfl 4 (by decide) mw_99 (Or.inl rfl) rfl d_Ix_register_129 ?_
                      refine z_iconstN hC 1 d_Ix_register_132 rfl ?_
                      refine z_zastB (v := true) (w' := [(x0, .inr (3, [.ref x1, .ref x2, .ref x3, .ref x4, .int (iI ((xc : Nat) : Int))])), (x1, .inl ((g.2.1 0), 64, .inl m)), (x2, .inl ((g.2.1 0), 8, .inl (nF (up xn xc sn)))), (x3, .inl ((g.2.1 2), 8, .inl (bF (up xo xc true)))), (x4, .inl ((g.2.1 0), 9, .inl (nF ch))), (s0, .inr (6, [.ref s1, .int (iI ((sn : Nat) : Int)), .int (iI ((0 : Nat) : Int))])), (s1, .inl ((g.2.1 0), 200, .inl sf))]) hC 3 2 rfl rfl xc rfl (by omega) (by decide) rfl d_Ix_register_133 ?_
                      refine z_aload_n hC d_Ix_register_134 rfl 3 rfl ?_
                      refine z_dup hC d_Ix_register_135 rfl ?_
                      refine z_get hC hi_Ix 0 rfl rfl 4 (by decide) mw_99 (Or.inl rfl) rfl d_Ix_register_136 ?_
                      refine z_iconstN hC 1 d_Ix_register_139 rfl ?_
                      refine z_iaddN hC d_Ix_register_140 ?_
                      refine z_put (v := .int (iI ((xc + 1 : Nat) : Int))) (ty := .int) (w' := [(x0, .inr (3, [.ref x1, .ref x2, .ref x3, .ref x4, .int (iI ((xc + 1 : Nat) : Int))])), (x1, .inl ((g.2.1 0), 64, .inl m)), (x2, .inl ((g.2.1 0), 8, .inl (nF (up xn xc sn)))), (x3, .inl ((g.2.1 2), 8, .inl (bF (up xo xc true)))), (x4, .inl ((g.2.1 0), 9, .inl (nF ch))), (s0, .inr (6, [.ref s1, .int (iI ((sn : Nat) : Int)), .int (iI ((0 : Nat) : Int))])), (s1, .inl ((g.2.1 0), 200, .inl sf))]) hC hi_Ix ty_Ix ok_Ix nm_Ix 0 rfl rfl 4 (by decide) mw_99 rfl rfl rfl rfl rfl (Nat.le_of_ble_eq_true rfl) rfl d_Ix_register_141 ?_
                      refine z_aload_n hC d_Ix_register_144 rfl 3 rfl ?_
                      refine z_get hC hi_Ix 0 rfl rfl 4 (by decide) mw_99 (Or.inl rfl) rfl d_Ix_register_145 ?_
                      refine z_iconstN hC 1 d_Ix_register_148 rfl ?_
                      refine z_isubN hC d_Ix_register_149 (by omega) ?_
                      exact Z.eq (by first | (exfalso; omega) | (simp only [if_neg (show ¬ (xc < 8 ∧ 1 ≤ sn ∧ sn ≤ 8 ∧ rowE sn sf (sn - 0) 0 = sn ∧ jS sn sf 0 sn = -1 ∧ fnd (nmB xn xl sn sf 0 sn) xc 0 = -1) by omega)]; done) | (simp only [if_pos (show xc < 8 ∧ 1 ≤ sn ∧ sn ≤ 8 ∧ rowE sn sf (sn - 0) 0 = sn ∧ jS sn sf 0 sn = -1 ∧ fnd (nmB xn xl sn sf 0 sn) xc 0 = -1 by omega)]; rw [show m = rgF xl sn sf xc from funext (fun k => by rw [hm, rgF, show j = sn by omega])])) rfl rfl (by first | (exfalso; omega) | (rw [if_neg (by omega)]; done) | (rw [if_pos (by omega)]; rfl)) (hR _ _ d_Ix_register_150)
                    · refine z_aload_n hC d_Ix_register_87 rfl 3 rfl ?_
                      refine z_get hC hi_Ix 0 rfl rfl 0 (by decide) mw_95 (Or.inl rfl) rfl d_Ix_register_88 ?_
                      refine z_aload_n hC d_Ix_register_91 rfl 3 rfl ?_
                      refine z_get hC hi_Ix 0 rfl rfl 4 (by decide) mw_99 (Or.inl rfl) rfl d_Ix_register_92 ?_
                      refine z_bipush (a := ((8 : Nat) : Int)) hC d_Ix_register_95 (by decide) ?_
                      refine z_imulN hC d_Ix_register_97 ?_
                      refine z_iload hC d_Ix_register_98 0 rfl ?_
                      refine z_iaddN hC d_Ix_register_100 ?_
                      refine z_aload_n hC d_Ix_register_101 rfl 4 rfl ?_
                      refine z_iload hC d_Ix_register_102 0 rfl ?_
                      refine z_callV (q0 := 5) (ci := 6) (w' := [(x0, .inr (3, [.ref x1, .ref x2, .ref x3, .ref x4, .int (iI ((xc : Nat) : Int))])), (x1, .inl ((g.2.1 0), 64, .inl m)), (x2, .inl ((g.2.1 0), 8, .inl (nF xn))), (x3, .inl ((g.2.1 2), 8, .inl (bF xo))), (x4, .inl ((g.2.1 0), 9, .inl (nF ch))), (s0, .inr (6, [.ref s1, .int (iI ((sn : Nat) : Int)), .int (iI ((0 : Nat) : Int))])), (s1, .inl ((g.2.1 0), 200, .inl sf))]) (st1 := [.int (sN sn sf j), .int (iI (((xc * 8) + j : Nat) : Int)), .ref x1]) hC (k_So_signAt l g s0 s1 sn 0 sf j hsn (by omega)) mw_407 zv_So_signAt rfl rfl ⟨Nat.le_of_ble_eq_true rfl, Nat.le_of_ble_eq_true rfl⟩ [5, 6] rfl rfl rfl rfl rfl rfl rfl rfl (Nat.le_of_ble_eq_true rfl) d_Ix_register_104 rfl ⟨Nat.zero_le _, Nat.zero_le _⟩ rfl ?_
                      refine z_iast (v := (sN sn sf j)) (w' := [(x0, .inr (3, [.ref x1, .ref x2, .ref x3, .ref x4, .int (iI ((xc : Nat) : Int))])), (x1, .inl ((g.2.1 0), 64, .inl (upd m ((xc * 8) + j) (sN sn sf j)))), (x2, .inl ((g.2.1 0), 8, .inl (nF xn))), (x3, .inl ((g.2.1 2), 8, .inl (bF xo))), (x4, .inl ((g.2.1 0), 9, .inl (nF ch))), (s0, .inr (6, [.ref s1, .int (iI ((sn : Nat) : Int)), .int (iI ((0 : Nat) : Int))])), (s1, .inl ((g.2.1 0), 200, .inl sf))]) hC 1 0 rfl rfl ((xc * 8) + j) rfl (by omega) (by decide) rfl d_Ix_register_107 ?_
                      refine z_iincN (lv' := [(4, .int (iI ((j + 1 : Nat) : Int))), (3, .int (iI ((1 : Nat) : Int))), (2, .int (iI ((sn : Nat) : Int))), (0, .ref x0), (1, .ref s0)]) hC 1 d_Ix_register_108 rfl 0 rfl (by decide) rfl ?_
                      refine z_goto (tgt := 81) hC d_Ix_register_111 rfl ?_
                      exact Zloc [0, 1, 2, 3, 4] rfl (Z.eq (w' := [(x0, .inr (3, [.ref x1, .ref x2, .ref x3, .ref x4, .int (iI ((xc : Nat) : Int))])), (x1, .inl ((g.2.1 0), 64, .inl (upd m ((xc * 8) + j) (sN sn sf j)))), (x2, .inl ((g.2.1 0), 8, .inl (nF xn))), (x3, .inl ((g.2.1 2), 8, .inl (bF xo))), (x4, .inl ((g.2.1 0), 9, .inl (nF ch))), (s0, .inr (6, [.ref s1, .int (iI ((sn : Nat) : Int)), .int (iI ((0 : Nat) : Int))])), (s1, .inl ((g.2.1 0), 200, .inl sf))]) rfl rfl rfl rfl (ih_81 (j + 1) (upd m ((xc * 8) + j) (sN sn sf j)) (by omega) (rg_go hm) (by omega)))
                exact Zloc [0, 1, 2, 3, 4] rfl (Z.eq (w' := [(x0, .inr (3, [.ref x1, .ref x2, .ref x3, .ref x4, .int (iI ((xc : Nat) : Int))])), (x1, .inl ((g.2.1 0), 64, .inl xl)), (x2, .inl ((g.2.1 0), 8, .inl (nF xn))), (x3, .inl ((g.2.1 2), 8, .inl (bF xo))), (x4, .inl ((g.2.1 0), 9, .inl (nF ch))), (s0, .inr (6, [.ref s1, .int (iI ((sn : Nat) : Int)), .int (iI ((0 : Nat) : Int))])), (s1, .inl ((g.2.1 0), 200, .inl sf))]) rfl rfl rfl rfl (L_81 _ 0 xl (by omega) (fun k => by rw [if_neg (by omega)]) (Nat.lt_succ_self _)))
              · refine z_iconst hC d_Ix_register_76 ?_
                exact Z.eq (by first | (exfalso; omega) | (simp only [if_neg (show ¬ (xc < 8 ∧ 1 ≤ sn ∧ sn ≤ 8 ∧ rowE sn sf (sn - 0) 0 = sn ∧ jS sn sf 0 sn = -1 ∧ fnd (nmB xn xl sn sf 0 sn) xc 0 = -1) by omega)]; done) | (simp only [if_pos (show xc < 8 ∧ 1 ≤ sn ∧ sn ≤ 8 ∧ rowE sn sf (sn - 0) 0 = sn ∧ jS sn sf 0 sn = -1 ∧ fnd (nmB xn xl sn sf 0 sn) xc 0 = -1 by omega)]; rw [show m = rgF xl sn sf xc from funext (fun k => by rw [hm, rgF, show j = sn by omega])])) rfl rfl (by first | (exfalso; omega) | (rw [if_neg (by omega)]; done) | (rw [if_pos (by omega)]; rfl)) (hR _ _ d_Ix_register_77)
        · refine z_iconst hC d_Ix_register_37 ?_
          exact Z.eq (by first | (exfalso; omega) | (simp only [if_neg (show ¬ (xc < 8 ∧ 1 ≤ sn ∧ sn ≤ 8 ∧ rowE sn sf (sn - 0) 0 = sn ∧ jS sn sf 0 sn = -1 ∧ fnd (nmB xn xl sn sf 0 sn) xc 0 = -1) by omega)]; done) | (simp only [if_pos (show xc < 8 ∧ 1 ≤ sn ∧ sn ≤ 8 ∧ rowE sn sf (sn - 0) 0 = sn ∧ jS sn sf 0 sn = -1 ∧ fnd (nmB xn xl sn sf 0 sn) xc 0 = -1 by omega)]; rw [show m = rgF xl sn sf xc from funext (fun k => by rw [hm, rgF, show j = sn by omega])])) rfl rfl (by first | (exfalso; omega) | (rw [if_neg (by omega)]; done) | (rw [if_pos (by omega)]; rfl)) (hR _ _ d_Ix_register_38)
set_option maxHeartbeats 4000000 in
set_option maxRecDepth 100000 in
theorem k_Ix_changesTo (l : Launch) (g : ZG) (x0 x1 x2 x3 x4 xc : Nat) (xl : Nat → Int32) (xn : Nat → Nat) (xo : Nat → Bool) (ch : Nat → Nat) (u0 u1 un : Nat) (uf : Nat → Int32) (k : Nat) (hxc : xc ≤ 8) (hxn : ∀ j, j < xc → xn j ≤ 8) (hun : un ≤ 200) (hk : k < xc)   : Ct l g y_Ix_changesTo c_Ix_changesTo 8 (some .int) { frames := 2, cells := 0, slots := 0, locals := 43 } [.ref x0, .int (iI ((k : Nat) : Int)), .ref u0] [(x0, .inr (3, [.ref x1, .ref x2, .ref x3, .ref x4, .int (iI ((xc : Nat) : Int))])), (x1, .inl ((g.2.1 0), 64, .inl xl)), (x2, .inl ((g.2.1 0), 8, .inl (nF xn))), (x3, .inl ((g.2.1 2), 8, .inl (bF xo))), (x4, .inl ((g.2.1 0), 9, .inl (nF ch))), (u0, .inr (8, [.ref u1, .int (iI ((un : Nat) : Int))])), (u1, .inl ((g.2.1 0), 200, .inl uf))] (some (.int (iI ((rowD (eqF un uf xl k) un (xn k) : Nat) : Int)))) [(x0, .inr (3, [.ref x1, .ref x2, .ref x3, .ref x4, .int (iI ((xc : Nat) : Int))])), (x1, .inl ((g.2.1 0), 64, .inl xl)), (x2, .inl ((g.2.1 0), 8, .inl (nF xn))), (x3, .inl ((g.2.1 2), 8, .inl (bF xo))), (x4, .inl ((g.2.1 0), 9, .inl (nF (chF ch (xn k) (rowD (eqF un uf xl k) un))))), (u0, .inr (8, [.ref u1, .int (iI ((un : Nat) : Int))])), (u1, .inl ((g.2.1 0), 200, .inl uf))] := by
  refine ct_i (lv := [(0, .ref x0), (1, .int (iI ((k : Nat) : Int))), (2, .ref u0)]) (by decide) rfl (Nat.le_of_ble_eq_true rfl) rfl ?_
  intro x hC hR
  have hx8 := hxn k hk
  refine z_aload_n hC d_Ix_changesTo_0 rfl 0 rfl ?_
  refine z_iload_n hC d_Ix_changesTo_1 rfl 1 rfl ?_
  refine z_callV (q0 := 0) (ci := 3) (w' := [(x0, .inr (3, [.ref x1, .ref x2, .ref x3, .ref x4, .int (iI ((xc : Nat) : Int))])), (x1, .inl ((g.2.1 0), 64, .inl xl)), (x2, .inl ((g.2.1 0), 8, .inl (nF xn))), (x3, .inl ((g.2.1 2), 8, .inl (bF xo))), (x4, .inl ((g.2.1 0), 9, .inl (nF ch))), (u0, .inr (8, [.ref u1, .int (iI ((un : Nat) : Int))])), (u1, .inl ((g.2.1 0), 200, .inl uf))]) (st1 := [.int (iI ((xn k : Nat) : Int))]) hC (k_Ix_lengthOf l g x0 x1 x2 x3 x4 xc xl xn xo ch k hxc hk (by omega)) mw_389 zv_Ix_lengthOf rfl rfl ⟨Nat.le_of_ble_eq_true rfl, Nat.le_of_ble_eq_true rfl⟩ [0, 1, 2, 3, 4] rfl rfl rfl rfl rfl rfl rfl rfl (Nat.le_of_ble_eq_true rfl) d_Ix_changesTo_2 rfl ⟨Nat.zero_le _, Nat.zero_le _⟩ rfl ?_
  refine z_istore_n (lv' := [(3, .int (iI ((xn k : Nat) : Int))), (0, .ref x0), (1, .int (iI ((k : Nat) : Int))), (2, .ref u0)]) hC d_Ix_changesTo_5 rfl (by decide) rfl ?_
  refine z_iconstN hC 0 d_Ix_changesTo_6 rfl ?_
  refine z_istore (lv' := [(4, .int (iI ((0 : Nat) : Int))), (3, .int (iI ((xn k : Nat) : Int))), (0, .ref x0), (1, .int (iI ((k : Nat) : Int))), (2, .ref u0)]) hC d_Ix_changesTo_7 (by decide) rfl ?_
  have L_9 : ∀ (fu : Nat) (j : Nat) (m : Nat → Nat), (j ≤ xn k + 1) → (∀ t, m t = if t < j then t else ch t) → xn k + 1 - j < fu → Z x (0, 0) [(x0, .inr (3, [.ref x1, .ref x2, .ref x3, .ref x4, .int (iI ((xc : Nat) : Int))])), (x1, .inl ((g.2.1 0), 64, .inl xl)), (x2, .inl ((g.2.1 0), 8, .inl (nF xn))), (x3, .inl ((g.2.1 2), 8, .inl (bF xo))), (x4, .inl ((g.2.1 0), 9, .inl (nF m))), (u0, .inr (8, [.ref u1, .int (iI ((un : Nat) : Int))])), (u1, .inl ((g.2.1 0), 200, .inl uf))] 9 [(4, .int (iI ((j : Nat) : Int))), (3, .int (iI ((xn k : Nat) : Int))), (0, .ref x0), (1, .int (iI ((k : Nat) : Int))), (2, .ref u0)] [] := by
    intro fu
    induction fu with
    | zero => intro j m hj hm hmu; exact absurd hmu (Nat.not_lt_zero _)
    | succ fu ih_9 =>
      intro j m hj hm hmu
      refine z_iload hC d_Ix_changesTo_9 0 rfl ?_
      refine z_iload_n hC d_Ix_changesTo_11 rfl 1 rfl ?_
      refine z_icmp_gt (tgt := 30) hC ((j : Nat) : Int) ((xn k : Nat) : Int) d_Ix_changesTo_12 rfl (iI_t (by omega)) (iI_t (by omega)) (fun c_1 => ?_) (fun c_1 => ?_)
      · refine z_iconstN hC 0 d_Ix_changesTo_30 rfl ?_
        refine z_istore (lv' := [(4, .int (iI ((0 : Nat) : Int))), (3, .int (iI ((xn k : Nat) : Int))), (0, .ref x0), (1, .int (iI ((k : Nat) : Int))), (2, .ref u0)]) hC d_Ix_changesTo_31 (by decide) rfl ?_
        have L_33 : ∀ (fu : Nat) (i : Nat) (m : Nat → Nat), (i ≤ un) → (∀ t, m t = chF ch (xn k) (rowD (eqF un uf xl k) i) t) → un - i < fu → Z x (0, 0) [(x0, .inr (3, [.ref x1, .ref x2, .ref x3, .ref x4, .int (iI ((xc : Nat) : Int))])), (x1, .inl ((g.2.1 0), 64, .inl xl)), (x2, .inl ((g.2.1 0), 8, .inl (nF xn))), (x3, .inl ((g.2.1 2), 8, .inl (bF xo))), (x4, .inl ((g.2.1 0), 9, .inl (nF m))), (u0, .inr (8, [.ref u1, .int (iI ((un : Nat) : Int))])), (u1, .inl ((g.2.1 0), 200, .inl uf))] 33 [(4, .int (iI ((i : Nat) : Int))), (3, .int (iI ((xn k : Nat) : Int))), (0, .ref x0), (1, .int (iI ((k : Nat) : Int))), (2, .ref u0)] [] := by
          intro fu
          induction fu with
          | zero => intro i m hi hm hmu; exact absurd hmu (Nat.not_lt_zero _)
          | succ fu ih_33 =>
            intro i m hi hm hmu
            refine z_iload hC d_Ix_changesTo_33 0 rfl ?_
            refine z_aload_n hC d_Ix_changesTo_35 rfl 4 rfl ?_
            refine z_callV (q0 := 5) (ci := 8) (w' := [(x0, .inr (3, [.ref x1, .ref x2, .ref x3, .ref x4, .int (iI ((xc : Nat) : Int))])), (x1, .inl ((g.2.1 0), 64, .inl xl)), (x2, .inl ((g.2.1 0), 8, .inl (nF xn))), (x3, .inl ((g.2.1 2), 8, .inl (bF xo))), (x4, .inl ((g.2.1 0), 9, .inl (nF m))), (u0, .inr (8, [.ref u1, .int (iI ((un : Nat) : Int))])), (u1, .inl ((g.2.1 0), 200, .inl uf))]) (st1 := [.int (iI ((un : Nat) : Int)), .int (iI ((i : Nat) : Int))]) hC (k_Un_length l g u0 u1 un uf) mw_590 zv_Un_length rfl rfl ⟨Nat.le_of_ble_eq_true rfl, Nat.le_of_ble_eq_true rfl⟩ [5, 6] rfl rfl rfl rfl rfl rfl rfl rfl (Nat.le_of_ble_eq_true rfl) d_Ix_changesTo_36 rfl ⟨Nat.zero_le _, Nat.zero_le _⟩ rfl ?_
            refine z_icmp_ge (tgt := 146) hC ((i : Nat) : Int) ((un : Nat) : Int) d_Ix_changesTo_39 rfl (iI_t (by omega)) (iI_t (by omega)) (fun c_2 => ?_) (fun c_2 => ?_)
            · refine z_aload_n hC d_Ix_changesTo_146 rfl 2 rfl ?_
              refine z_get hC hi_Ix 0 rfl rfl 3 (by decide) mw_98 (Or.inl rfl) rfl d_Ix_changesTo_147 ?_
              refine z_iload_n hC d_Ix_changesTo_150 rfl 1 rfl ?_
              refine z_ialdN hC 4 0 rfl rfl (xn k) rfl (by omega) (by decide) d_Ix_changesTo_151 ?_
              exact Z.eq (by rw [show m = chF ch (xn k) (rowD (eqF un uf xl k) un) from funext (fun t => by rw [hm, show i = un by omega])]) rfl rfl (by rw [hm, chF, if_pos (Nat.le_refl _), show i = un by omega]) (hR _ _ d_Ix_changesTo_152)
            · refine z_aload_n hC d_Ix_changesTo_42 rfl 2 rfl ?_
              refine z_get hC hi_Ix 0 rfl rfl 3 (by decide) mw_98 (Or.inl rfl) rfl d_Ix_changesTo_43 ?_
              refine z_iconstN hC 0 d_Ix_changesTo_46 rfl ?_
              refine z_ialdN hC 4 0 rfl rfl 0 rfl (by omega) (by decide) d_Ix_changesTo_47 ?_
              refine z_istore (lv' := [(5, .int (iI ((m 0 : Nat) : Int))), (4, .int (iI ((i : Nat) : Int))), (3, .int (iI ((xn k : Nat) : Int))), (0, .ref x0), (1, .int (iI ((k : Nat) : Int))), (2, .ref u0)]) hC d_Ix_changesTo_48 (by decide) rfl ?_
              refine z_aload_n hC d_Ix_changesTo_50 rfl 3 rfl ?_
              refine z_get hC hi_Ix 0 rfl rfl 3 (by decide) mw_98 (Or.inl rfl) rfl d_Ix_changesTo_51 ?_
              refine z_iconstN hC 0 d_Ix_changesTo_54 rfl ?_
              refine z_iload hC d_Ix_changesTo_55 1 rfl ?_
              refine z_iconstN hC 1 d_Ix_changesTo_57 rfl ?_
              refine z_iaddN hC d_Ix_changesTo_58 ?_
              refine z_iastN (v := i + 1) (w' := [(x0, .inr (3, [.ref x1, .ref x2, .ref x3, .ref x4, .int (iI ((xc : Nat) : Int))])), (x1, .inl ((g.2.1 0), 64, .inl xl)), (x2, .inl ((g.2.1 0), 8, .inl (nF xn))), (x3, .inl ((g.2.1 2), 8, .inl (bF xo))), (x4, .inl ((g.2.1 0), 9, .inl (nF (up m 0 (i + 1))))), (u0, .inr (8, [.ref u1, .int (iI ((un : Nat) : Int))])), (u1, .inl ((g.2.1 0), 200, .inl uf))]) hC 4 0 rfl rfl 0 rfl (by omega) (by decide) rfl d_Ix_changesTo_59 ?_
              refine z_iconstN hC 1 d_Ix_changesTo_60 rfl ?_
              refine z_istore (lv' := [(6, .int (iI ((1 : Nat) : Int))), (5, .int (iI ((m 0 : Nat) : Int))), (4, .int (iI ((i : Nat) : Int))), (3, .int (iI ((xn k : Nat) : Int))), (0, .ref x0), (1, .int (iI ((k : Nat) : Int))), (2, .ref u0)]) hC d_Ix_changesTo_61 (by decide) rfl ?_
              have L_63 : ∀ (fu : Nat) (j b : Nat) (m2 : Nat → Nat), (1 ≤ j) → (j ≤ xn k + 1) → (b = rowD (eqF un uf xl k) i (j - 1)) → (∀ t, m2 t = if t < j then rowD (eqF un uf xl k) (i + 1) t else chF ch (xn k) (rowD (eqF un uf xl k) i) t) → xn k + 1 - j < fu → Z x (0, 0) [(x0, .inr (3, [.ref x1, .ref x2, .ref x3, .ref x4, .int (iI ((xc : Nat) : Int))])), (x1, .inl ((g.2.1 0), 64, .inl xl)), (x2, .inl ((g.2.1 0), 8, .inl (nF xn))), (x3, .inl ((g.2.1 2), 8, .inl (bF xo))), (x4, .inl ((g.2.1 0), 9, .inl (nF m2))), (u0, .inr (8, [.ref u1, .int (iI ((un : Nat) : Int))])), (u1, .inl ((g.2.1 0), 200, .inl uf))] 63 [(6, .int (iI ((j : Nat) : Int))), (5, .int (iI ((b : Nat) : Int))), (4, .int (iI ((i : Nat) : Int))), (3, .int (iI ((xn k : Nat) : Int))), (0, .ref x0), (1, .int (iI ((k : Nat) : Int))), (2, .ref u0)] [] := by
                intro fu
                induction fu with
                | zero => intro j b m2 hj1 hj2 hb hm2 hmu; exact absurd hmu (Nat.not_lt_zero _)
                | succ fu ih_63 =>
                  intro j b m2 hj1 hj2 hb hm2 hmu
                  refine z_iload hC d_Ix_changesTo_63 0 rfl ?_
                  refine z_iload_n hC d_Ix_changesTo_65 rfl 3 rfl ?_
                  refine z_icmp_gt (tgt := 140) hC ((j : Nat) : Int) ((xn k : Nat) : Int) d_Ix_changesTo_66 rfl (iI_t (by omega)) (iI_t (by omega)) (fun c_3 => ?_) (fun c_3 => ?_)
                  · refine z_iincN (lv' := [(4, .int (iI ((i + 1 : Nat) : Int))), (6, .int (iI ((j : Nat) : Int))), (5, .int (iI ((b : Nat) : Int))), (3, .int (iI ((xn k : Nat) : Int))), (0, .ref x0), (1, .int (iI ((k : Nat) : Int))), (2, .ref u0)]) hC 1 d_Ix_changesTo_140 rfl 2 rfl (by decide) rfl ?_
                    refine z_goto (tgt := 33) hC d_Ix_changesTo_143 rfl ?_
                    exact Zloc [0, 3, 4, 5, 6] rfl (Z.eq (w' := [(x0, .inr (3, [.ref x1, .ref x2, .ref x3, .ref x4, .int (iI ((xc : Nat) : Int))])), (x1, .inl ((g.2.1 0), 64, .inl xl)), (x2, .inl ((g.2.1 0), 8, .inl (nF xn))), (x3, .inl ((g.2.1 2), 8, .inl (bF xo))), (x4, .inl ((g.2.1 0), 9, .inl (nF m2))), (u0, .inr (8, [.ref u1, .int (iI ((un : Nat) : Int))])), (u1, .inl ((g.2.1 0), 200, .inl uf))]) rfl rfl rfl rfl (ih_33 (i + 1) m2 (by omega) (ch_3 (by omega) hm2) (by omega)))
                  · refine z_iload hC d_Ix_changesTo_69 1 rfl ?_
                    refine z_aload_n hC d_Ix_changesTo_71 rfl 6 rfl ?_
                    refine z_iload hC d_Ix_changesTo_72 2 rfl ?_
                    refine z_callV (q0 := 5) (ci := 8) (w' := [(x0, .inr (3, [.ref x1, .ref x2, .ref x3, .ref x4, .int (iI ((xc : Nat) : Int))])), (x1, .inl ((g.2.1 0), 64, .inl xl)), (x2, .inl ((g.2.1 0), 8, .inl (nF xn))), (x3, .inl ((g.2.1 2), 8, .inl (bF xo))), (x4, .inl ((g.2.1 0), 9, .inl (nF m2))), (u0, .inr (8, [.ref u1, .int (iI ((un : Nat) : Int))])), (u1, .inl ((g.2.1 0), 200, .inl uf))]) (st1 := [.int (sN un uf i), .int (iI ((b : Nat) : Int))]) hC (k_Un_letterAt l g u0 u1 un uf i hun (by omega)) mw_598 zv_Un_letterAt rfl rfl ⟨Nat.le_of_ble_eq_true rfl, Nat.le_of_ble_eq_true rfl⟩ [5, 6] rfl rfl rfl rfl rfl rfl rfl rfl (Nat.le_of_ble_eq_true rfl) d_Ix_changesTo_74 rfl ⟨Nat.zero_le _, Nat.zero_le _⟩ rfl ?_
                    refine z_aload_n hC d_Ix_changesTo_77 rfl 4 rfl ?_
                    refine z_iload_n hC d_Ix_changesTo_78 rfl 5 rfl ?_
                    refine z_iload hC d_Ix_changesTo_79 0 rfl ?_
                    refine z_iconstN hC 1 d_Ix_changesTo_81 rfl ?_
                    refine z_isubN hC d_Ix_changesTo_82 (by omega) ?_
                    refine z_callV (q0 := 0) (ci := 3) (w' := [(x0, .inr (3, [.ref x1, .ref x2, .ref x3, .ref x4, .int (iI ((xc : Nat) : Int))])), (x1, .inl ((g.2.1 0), 64, .inl xl)), (x2, .inl ((g.2.1 0), 8, .inl (nF xn))), (x3, .inl ((g.2.1 2), 8, .inl (bF xo))), (x4, .inl ((g.2.1 0), 9, .inl (nF m2))), (u0, .inr (8, [.ref u1, .int (iI ((un : Nat) : Int))])), (u1, .inl ((g.2.1 0), 200, .inl uf))]) (st1 := [.int (xl (k * 8 + (j - 1))), .int (sN un uf i), .int (iI ((b : Nat) : Int))]) hC (k_Ix_letterOf l g x0 x1 x2 x3 x4 xc xl xn xo m2 k (j - 1) hxc hk (by omega)) mw_403 zv_Ix_letterOf rfl rfl ⟨Nat.le_of_ble_eq_true rfl, Nat.le_of_ble_eq_true rfl⟩ [0, 1, 2, 3, 4] rfl rfl rfl rfl rfl rfl rfl rfl (Nat.le_of_ble_eq_true rfl) d_Ix_changesTo_83 rfl ⟨Nat.zero_le _, Nat.zero_le _⟩ rfl ?_
                    refine z_icmp_neR (tgt := 93) hC d_Ix_changesTo_86 rfl (fun c_4 => ?_) (fun c_4 => ?_)
                    · refine z_iconstN hC 1 d_Ix_changesTo_93 rfl ?_
                      refine z_iaddN hC d_Ix_changesTo_94 ?_
                      refine z_istore (lv' := [(7, .int (iI ((b + 1 : Nat) : Int))), (6, .int (iI ((j : Nat) : Int))), (5, .int (iI ((b : Nat) : Int))), (4, .int (iI ((i : Nat) : Int))), (3, .int (iI ((xn k : Nat) : Int))), (0, .ref x0), (1, .int (iI ((k : Nat) : Int))), (2, .ref u0)]) hC d_Ix_changesTo_95 (by decide) rfl ?_
                      have hmj : m2 j = rowD (eqF un uf xl k) i j := by rw [hm2, if_neg (by omega)]; unfold chF; rw [if_pos (by omega)]
                      have hmj1 : m2 (j - 1) = rowD (eqF un uf xl k) (i + 1) (j - 1) := by rw [hm2, if_pos (by omega)]
                      have bd1 := rowD_le (eqF un uf xl k) i j
                      have bd2 := rowD_le (eqF un uf xl k) (i + 1) (j - 1)
                      have bd3 := rowD_le (eqF un uf xl k) i (j - 1)
                      refine z_aload_n hC d_Ix_changesTo_97 rfl 5 rfl ?_
                      refine z_get hC hi_Ix 0 rfl rfl 3 (by decide) mw_98 (Or.inl rfl) rfl d_Ix_changesTo_98 ?_
                      refine z_iload hC d_Ix_changesTo_101 1 rfl ?_
                      refine z_ialdN hC 4 0 rfl rfl j rfl (by omega) (by decide) d_Ix_changesTo_103 ?_
                      refine z_istore (lv' := [(5, .int (iI ((m2 j : Nat) : Int))), (7, .int (iI ((b + 1 : Nat) : Int))), (6, .int (iI ((j : Nat) : Int))), (4, .int (iI ((i : Nat) : Int))), (3, .int (iI ((xn k : Nat) : Int))), (0, .ref x0), (1, .int (iI ((k : Nat) : Int))), (2, .ref u0)]) hC d_Ix_changesTo_104 (by decide) rfl ?_
                      refine z_aload_n hC d_Ix_changesTo_106 rfl 5 rfl ?_
                      refine z_get hC hi_Ix 0 rfl rfl 3 (by decide) mw_98 (Or.inl rfl) rfl d_Ix_changesTo_107 ?_
                      refine z_iload hC d_Ix_changesTo_110 2 rfl ?_
                      refine z_iload hC d_Ix_changesTo_112 1 rfl ?_
                      refine z_iload hC d_Ix_changesTo_114 0 rfl ?_
                      refine z_aload_n hC d_Ix_changesTo_116 rfl 5 rfl ?_
                      refine z_get hC hi_Ix 0 rfl rfl 3 (by decide) mw_98 (Or.inl rfl) rfl d_Ix_changesTo_117 ?_
                      refine z_iload hC d_Ix_changesTo_120 2 rfl ?_
                      refine z_iconstN hC 1 d_Ix_changesTo_122 rfl ?_
                      refine z_isubN hC d_Ix_changesTo_123 (by omega) ?_
                      refine z_ialdN hC 4 0 rfl rfl (j - 1) rfl (by omega) (by decide) d_Ix_changesTo_124 ?_
                      refine z_mminN hC mw_397 (by omega) (by omega) (Nat.le_of_ble_eq_true rfl) (Nat.le_of_ble_eq_true rfl) d_Ix_changesTo_125 ?_
                      refine z_iconstN hC 1 d_Ix_changesTo_128 rfl ?_
                      refine z_iaddN hC d_Ix_changesTo_129 ?_
                      refine z_mminN hC mw_397 (by omega) (by omega) (Nat.le_of_ble_eq_true rfl) (Nat.le_of_ble_eq_true rfl) d_Ix_changesTo_130 ?_
                      refine z_iastN (v := min (b + 1) ((min (m2 j) (m2 (j - 1))) + 1)) (w' := [(x0, .inr (3, [.ref x1, .ref x2, .ref x3, .ref x4, .int (iI ((xc : Nat) : Int))])), (x1, .inl ((g.2.1 0), 64, .inl xl)), (x2, .inl ((g.2.1 0), 8, .inl (nF xn))), (x3, .inl ((g.2.1 2), 8, .inl (bF xo))), (x4, .inl ((g.2.1 0), 9, .inl (nF (up m2 j (min (b + 1) ((min (m2 j) (m2 (j - 1))) + 1)))))), (u0, .inr (8, [.ref u1, .int (iI ((un : Nat) : Int))])), (u1, .inl ((g.2.1 0), 200, .inl uf))]) hC 4 0 rfl rfl j rfl (by omega) (by decide) rfl d_Ix_changesTo_133 ?_
                      refine z_iincN (lv' := [(6, .int (iI ((j + 1 : Nat) : Int))), (5, .int (iI ((m2 j : Nat) : Int))), (7, .int (iI ((b + 1 : Nat) : Int))), (4, .int (iI ((i : Nat) : Int))), (3, .int (iI ((xn k : Nat) : Int))), (0, .ref x0), (1, .int (iI ((k : Nat) : Int))), (2, .ref u0)]) hC 1 d_Ix_changesTo_134 rfl 2 rfl (by decide) rfl ?_
                      refine z_goto (tgt := 63) hC d_Ix_changesTo_137 rfl ?_
                      exact Zloc [0, 1, 3, 4, 5, 6, 7] rfl (Z.eq (w' := [(x0, .inr (3, [.ref x1, .ref x2, .ref x3, .ref x4, .int (iI ((xc : Nat) : Int))])), (x1, .inl ((g.2.1 0), 64, .inl xl)), (x2, .inl ((g.2.1 0), 8, .inl (nF xn))), (x3, .inl ((g.2.1 2), 8, .inl (bF xo))), (x4, .inl ((g.2.1 0), 9, .inl (nF (up m2 j (min (b + 1) ((min (m2 j) (m2 (j - 1))) + 1)))))), (u0, .inr (8, [.ref u1, .int (iI ((un : Nat) : Int))])), (u1, .inl ((g.2.1 0), 200, .inl uf))]) rfl rfl rfl rfl (ih_63 (j + 1) (m2 j) (up m2 j (min (b + 1) ((min (m2 j) (m2 (j - 1))) + 1))) (by omega) (by omega) (by rw [hm2, if_neg (by omega)]; unfold chF; rw [if_pos (by omega)]; rfl) (ch_2 hj1 (by omega) hb hm2 (by first | exact (if_pos (show eqF un uf xl k i (j - 1) = true from decide_eq_true (by assumption))).symm | exact (if_neg (show ¬ eqF un uf xl k i (j - 1) = true from fun z => absurd (of_decide_eq_true z) (by assumption))).symm)) (by omega)))
                    · refine z_iconstN hC 0 d_Ix_changesTo_89 rfl ?_
                      refine z_goto (tgt := 94) hC d_Ix_changesTo_90 rfl ?_
                      refine z_iaddN hC d_Ix_changesTo_94 ?_
                      refine z_istore (lv' := [(7, .int (iI ((b + 0 : Nat) : Int))), (6, .int (iI ((j : Nat) : Int))), (5, .int (iI ((b : Nat) : Int))), (4, .int (iI ((i : Nat) : Int))), (3, .int (iI ((xn k : Nat) : Int))), (0, .ref x0), (1, .int (iI ((k : Nat) : Int))), (2, .ref u0)]) hC d_Ix_changesTo_95 (by decide) rfl ?_
                      have hmj : m2 j = rowD (eqF un uf xl k) i j := by rw [hm2, if_neg (by omega)]; unfold chF; rw [if_pos (by omega)]
                      have hmj1 : m2 (j - 1) = rowD (eqF un uf xl k) (i + 1) (j - 1) := by rw [hm2, if_pos (by omega)]
                      have bd1 := rowD_le (eqF un uf xl k) i j
                      have bd2 := rowD_le (eqF un uf xl k) (i + 1) (j - 1)
                      have bd3 := rowD_le (eqF un uf xl k) i (j - 1)
                      refine z_aload_n hC d_Ix_changesTo_97 rfl 5 rfl ?_
                      refine z_get hC hi_Ix 0 rfl rfl 3 (by decide) mw_98 (Or.inl rfl) rfl d_Ix_changesTo_98 ?_
                      refine z_iload hC d_Ix_changesTo_101 1 rfl ?_
                      refine z_ialdN hC 4 0 rfl rfl j rfl (by omega) (by decide) d_Ix_changesTo_103 ?_
                      refine z_istore (lv' := [(5, .int (iI ((m2 j : Nat) : Int))), (7, .int (iI ((b + 0 : Nat) : Int))), (6, .int (iI ((j : Nat) : Int))), (4, .int (iI ((i : Nat) : Int))), (3, .int (iI ((xn k : Nat) : Int))), (0, .ref x0), (1, .int (iI ((k : Nat) : Int))), (2, .ref u0)]) hC d_Ix_changesTo_104 (by decide) rfl ?_
                      refine z_aload_n hC d_Ix_changesTo_106 rfl 5 rfl ?_
                      refine z_get hC hi_Ix 0 rfl rfl 3 (by decide) mw_98 (Or.inl rfl) rfl d_Ix_changesTo_107 ?_
                      refine z_iload hC d_Ix_changesTo_110 2 rfl ?_
                      refine z_iload hC d_Ix_changesTo_112 1 rfl ?_
                      refine z_iload hC d_Ix_changesTo_114 0 rfl ?_
                      refine z_aload_n hC d_Ix_changesTo_116 rfl 5 rfl ?_
                      refine z_get hC hi_Ix 0 rfl rfl 3 (by decide) mw_98 (Or.inl rfl) rfl d_Ix_changesTo_117 ?_
                      refine z_iload hC d_Ix_changesTo_120 2 rfl ?_
                      refine z_iconstN hC 1 d_Ix_changesTo_122 rfl ?_
                      refine z_isubN hC d_Ix_changesTo_123 (by omega) ?_
                      refine z_ialdN hC 4 0 rfl rfl (j - 1) rfl (by omega) (by decide) d_Ix_changesTo_124 ?_
                      refine z_mminN hC mw_397 (by omega) (by omega) (Nat.le_of_ble_eq_true rfl) (Nat.le_of_ble_eq_true rfl) d_Ix_changesTo_125 ?_
                      refine z_iconstN hC 1 d_Ix_changesTo_128 rfl ?_
                      refine z_iaddN hC d_Ix_changesTo_129 ?_
                      refine z_mminN hC mw_397 (by omega) (by omega) (Nat.le_of_ble_eq_true rfl) (Nat.le_of_ble_eq_true rfl) d_Ix_changesTo_130 ?_
                      refine z_iastN (v := min (b + 0) ((min (m2 j) (m2 (j - 1))) + 1)) (w' := [(x0, .inr (3, [.ref x1, .ref x2, .ref x3, .ref x4, .int (iI ((xc : Nat) : Int))])), (x1, .inl ((g.2.1 0), 64, .inl xl)), (x2, .inl ((g.2.1 0), 8, .inl (nF xn))), (x3, .inl ((g.2.1 2), 8, .inl (bF xo))), (x4, .inl ((g.2.1 0), 9, .inl (nF (up m2 j (min (b + 0) ((min (m2 j) (m2 (j - 1))) + 1)))))), (u0, .inr (8, [.ref u1, .int (iI ((un : Nat) : Int))])), (u1, .inl ((g.2.1 0), 200, .inl uf))]) hC 4 0 rfl rfl j rfl (by omega) (by decide) rfl d_Ix_changesTo_133 ?_
                      refine z_iincN (lv' := [(6, .int (iI ((j + 1 : Nat) : Int))), (5, .int (iI ((m2 j : Nat) : Int))), (7, .int (iI ((b + 0 : Nat) : Int))), (4, .int (iI ((i : Nat) : Int))), (3, .int (iI ((xn k : Nat) : Int))), (0, .ref x0), (1, .int (iI ((k : Nat) : Int))), (2, .ref u0)]) hC 1 d_Ix_changesTo_134 rfl 2 rfl (by decide) rfl ?_
                      refine z_goto (tgt := 63) hC d_Ix_changesTo_137 rfl ?_
                      exact Zloc [0, 1, 3, 4, 5, 6, 7] rfl (Z.eq (w' := [(x0, .inr (3, [.ref x1, .ref x2, .ref x3, .ref x4, .int (iI ((xc : Nat) : Int))])), (x1, .inl ((g.2.1 0), 64, .inl xl)), (x2, .inl ((g.2.1 0), 8, .inl (nF xn))), (x3, .inl ((g.2.1 2), 8, .inl (bF xo))), (x4, .inl ((g.2.1 0), 9, .inl (nF (up m2 j (min (b + 0) ((min (m2 j) (m2 (j - 1))) + 1)))))), (u0, .inr (8, [.ref u1, .int (iI ((un : Nat) : Int))])), (u1, .inl ((g.2.1 0), 200, .inl uf))]) rfl rfl rfl rfl (ih_63 (j + 1) (m2 j) (up m2 j (min (b + 0) ((min (m2 j) (m2 (j - 1))) + 1))) (by omega) (by omega) (by rw [hm2, if_neg (by omega)]; unfold chF; rw [if_pos (by omega)]; rfl) (ch_2 hj1 (by omega) hb hm2 (by first | exact (if_pos (show eqF un uf xl k i (j - 1) = true from decide_eq_true (by assumption))).symm | exact (if_neg (show ¬ eqF un uf xl k i (j - 1) = true from fun z => absurd (of_decide_eq_true z) (by assumption))).symm)) (by omega)))
              exact Zloc [0, 1, 2, 3, 4, 5, 6] rfl (Z.eq (w' := [(x0, .inr (3, [.ref x1, .ref x2, .ref x3, .ref x4, .int (iI ((xc : Nat) : Int))])), (x1, .inl ((g.2.1 0), 64, .inl xl)), (x2, .inl ((g.2.1 0), 8, .inl (nF xn))), (x3, .inl ((g.2.1 2), 8, .inl (bF xo))), (x4, .inl ((g.2.1 0), 9, .inl (nF (up m 0 (i + 1))))), (u0, .inr (8, [.ref u1, .int (iI ((un : Nat) : Int))])), (u1, .inl ((g.2.1 0), 200, .inl uf))]) rfl rfl rfl rfl (L_63 _ 1 (m 0) (up m 0 (i + 1)) (by omega) (by omega) (by rw [hm]; unfold chF; rw [if_pos (by omega)]) (ch_1 hm) (Nat.lt_succ_self _)))
        exact Zloc [0, 1, 2, 3, 4] rfl (Z.eq (w' := [(x0, .inr (3, [.ref x1, .ref x2, .ref x3, .ref x4, .int (iI ((xc : Nat) : Int))])), (x1, .inl ((g.2.1 0), 64, .inl xl)), (x2, .inl ((g.2.1 0), 8, .inl (nF xn))), (x3, .inl ((g.2.1 2), 8, .inl (bF xo))), (x4, .inl ((g.2.1 0), 9, .inl (nF m))), (u0, .inr (8, [.ref u1, .int (iI ((un : Nat) : Int))])), (u1, .inl ((g.2.1 0), 200, .inl uf))]) rfl rfl rfl rfl (L_33 _ 0 m (by omega) (ch_0 (by omega) hm) (Nat.lt_succ_self _)))
      · refine z_aload_n hC d_Ix_changesTo_15 rfl 2 rfl ?_
        refine z_get hC hi_Ix 0 rfl rfl 3 (by decide) mw_98 (Or.inl rfl) rfl d_Ix_changesTo_16 ?_
        refine z_iload hC d_Ix_changesTo_19 0 rfl ?_
        refine z_iload hC d_Ix_changesTo_21 0 rfl ?_
        refine z_iastN (v := j) (w' := [(x0, .inr (3, [.ref x1, .ref x2, .ref x3, .ref x4, .int (iI ((xc : Nat) : Int))])), (x1, .inl ((g.2.1 0), 64, .inl xl)), (x2, .inl ((g.2.1 0), 8, .inl (nF xn))), (x3, .inl ((g.2.1 2), 8, .inl (bF xo))), (x4, .inl ((g.2.1 0), 9, .inl (nF (up m j j)))), (u0, .inr (8, [.ref u1, .int (iI ((un : Nat) : Int))])), (u1, .inl ((g.2.1 0), 200, .inl uf))]) hC 4 0 rfl rfl j rfl (by omega) (by decide) rfl d_Ix_changesTo_23 ?_
        refine z_iincN (lv' := [(4, .int (iI ((j + 1 : Nat) : Int))), (3, .int (iI ((xn k : Nat) : Int))), (0, .ref x0), (1, .int (iI ((k : Nat) : Int))), (2, .ref u0)]) hC 1 d_Ix_changesTo_24 rfl 0 rfl (by decide) rfl ?_
        refine z_goto (tgt := 9) hC d_Ix_changesTo_27 rfl ?_
        exact Zloc [0, 1, 2, 3, 4] rfl (Z.eq (w' := [(x0, .inr (3, [.ref x1, .ref x2, .ref x3, .ref x4, .int (iI ((xc : Nat) : Int))])), (x1, .inl ((g.2.1 0), 64, .inl xl)), (x2, .inl ((g.2.1 0), 8, .inl (nF xn))), (x3, .inl ((g.2.1 2), 8, .inl (bF xo))), (x4, .inl ((g.2.1 0), 9, .inl (nF (up m j j)))), (u0, .inr (8, [.ref u1, .int (iI ((un : Nat) : Int))])), (u1, .inl ((g.2.1 0), 200, .inl uf))]) rfl rfl rfl rfl (ih_9 (j + 1) (up m j j) (by omega) (ch_go hm) (by omega)))
  exact Zloc [0, 1, 2, 3, 4] rfl (Z.eq (w' := [(x0, .inr (3, [.ref x1, .ref x2, .ref x3, .ref x4, .int (iI ((xc : Nat) : Int))])), (x1, .inl ((g.2.1 0), 64, .inl xl)), (x2, .inl ((g.2.1 0), 8, .inl (nF xn))), (x3, .inl ((g.2.1 2), 8, .inl (bF xo))), (x4, .inl ((g.2.1 0), 9, .inl (nF ch))), (u0, .inr (8, [.ref u1, .int (iI ((un : Nat) : Int))])), (u1, .inl ((g.2.1 0), 200, .inl uf))]) rfl rfl rfl rfl (L_9 _ 0 ch (by omega) (fun t => by rw [if_neg (by omega)]) (Nat.lt_succ_self _)))
set_option maxHeartbeats 4000000 in
set_option maxRecDepth 100000 in
theorem k_Ix_nearest (l : Launch) (g : ZG) (x0 x1 x2 x3 x4 xc : Nat) (xl : Nat → Int32) (xn : Nat → Nat) (xo : Nat → Bool) (ch : Nat → Nat) (u0 u1 un : Nat) (uf : Nat → Int32) (hxc : xc ≤ 8) (hxn : ∀ j, j < xc → xn j ≤ 8) (hun : un ≤ 200)   : Ct l g y_Ix_nearest c_Ix_nearest 6 (some .int) { frames := 3, cells := 0, slots := 0, locals := 70 } [.ref x0, .ref u0] [(x0, .inr (3, [.ref x1, .ref x2, .ref x3, .ref x4, .int (iI ((xc : Nat) : Int))])), (x1, .inl ((g.2.1 0), 64, .inl xl)), (x2, .inl ((g.2.1 0), 8, .inl (nF xn))), (x3, .inl ((g.2.1 2), 8, .inl (bF xo))), (x4, .inl ((g.2.1 0), 9, .inl (nF ch))), (u0, .inr (8, [.ref u1, .int (iI ((un : Nat) : Int))])), (u1, .inl ((g.2.1 0), 200, .inl uf))] (some (.int (iI (if un = 0 then -1 else (nrS (fun k => rowD (eqF un uf xl k) un (xn k)) xc).1)))) [(x0, .inr (3, [.ref x1, .ref x2, .ref x3, .ref x4, .int (iI ((xc : Nat) : Int))])), (x1, .inl ((g.2.1 0), 64, .inl xl)), (x2, .inl ((g.2.1 0), 8, .inl (nF xn))), (x3, .inl ((g.2.1 2), 8, .inl (bF xo))), (x4, .inl ((g.2.1 0), 9, .inl (nF (if un = 0 then ch else nrC ch un uf xl xn xc)))), (u0, .inr (8, [.ref u1, .int (iI ((un : Nat) : Int))])), (u1, .inl ((g.2.1 0), 200, .inl uf))] := by
  refine ct_i (lv := [(0, .ref x0), (1, .ref u0)]) (by decide) rfl (Nat.le_of_ble_eq_true rfl) rfl ?_
  intro x hC hR
  refine z_iconst hC d_Ix_nearest_0 ?_
  refine z_istore_n (lv' := [(2, .int (iI (-1))), (0, .ref x0), (1, .ref u0)]) hC d_Ix_nearest_1 rfl (by decide) rfl ?_
  refine z_iconstN hC 0 d_Ix_nearest_2 rfl ?_
  refine z_istore_n (lv' := [(3, .int (iI ((0 : Nat) : Int))), (2, .int (iI (-1))), (0, .ref x0), (1, .ref u0)]) hC d_Ix_nearest_3 rfl (by decide) rfl ?_
  refine z_aload_n hC d_Ix_nearest_4 rfl 3 rfl ?_
  refine z_callV (q0 := 5) (ci := 8) (w' := [(x0, .inr (3, [.ref x1, .ref x2, .ref x3, .ref x4, .int (iI ((xc : Nat) : Int))])), (x1, .inl ((g.2.1 0), 64, .inl xl)), (x2, .inl ((g.2.1 0), 8, .inl (nF xn))), (x3, .inl ((g.2.1 2), 8, .inl (bF xo))), (x4, .inl ((g.2.1 0), 9, .inl (nF ch))), (u0, .inr (8, [.ref u1, .int (iI ((un : Nat) : Int))])), (u1, .inl ((g.2.1 0), 200, .inl uf))]) (st1 := [.int (iI ((un : Nat) : Int))]) hC (k_Un_length l g u0 u1 un uf) mw_590 zv_Un_length rfl rfl ⟨Nat.le_of_ble_eq_true rfl, Nat.le_of_ble_eq_true rfl⟩ [5, 6] rfl rfl rfl rfl rfl rfl rfl rfl (Nat.le_of_ble_eq_true rfl) d_Ix_nearest_5 rfl ⟨Nat.zero_le _, Nat.zero_le _⟩ rfl ?_
  refine z_if_ne (tgt := 13) hC ((un : Nat) : Int) d_Ix_nearest_8 rfl (iI_t (by omega)) (fun c_1 => ?_) (fun c_1 => ?_)
  · refine z_iconstN hC 0 d_Ix_nearest_13 rfl ?_
    refine z_istore (lv' := [(4, .int (iI ((0 : Nat) : Int))), (3, .int (iI ((0 : Nat) : Int))), (2, .int (iI (-1))), (0, .ref x0), (1, .ref u0)]) hC d_Ix_nearest_14 (by decide) rfl ?_
    have L_16 : ∀ (fu : Nat) (i : Nat) (b : Int) (f : Nat) (m : Nat → Nat), (i ≤ xc) → (-1 ≤ b ∧ b ≤ i) → (f ≤ 300) → ((b, f) = nrS (fun k => rowD (eqF un uf xl k) un (xn k)) i) → (m = nrC ch un uf xl xn i) → xc - i < fu → Z x (0, 0) [(x0, .inr (3, [.ref x1, .ref x2, .ref x3, .ref x4, .int (iI ((xc : Nat) : Int))])), (x1, .inl ((g.2.1 0), 64, .inl xl)), (x2, .inl ((g.2.1 0), 8, .inl (nF xn))), (x3, .inl ((g.2.1 2), 8, .inl (bF xo))), (x4, .inl ((g.2.1 0), 9, .inl (nF m))), (u0, .inr (8, [.ref u1, .int (iI ((un : Nat) : Int))])), (u1, .inl ((g.2.1 0), 200, .inl uf))] 16 [(4, .int (iI ((i : Nat) : Int))), (3, .int (iI ((f : Nat) : Int))), (2, .int (iI b)), (0, .ref x0), (1, .ref u0)] [] := by
      intro fu
      induction fu with
      | zero => intro i b f m hi hb hf hq hm hmu; exact absurd hmu (Nat.not_lt_zero _)
      | succ fu ih_16 =>
        intro i b f m hi hb hf hq hm hmu
        refine z_iload hC d_Ix_nearest_16 0 rfl ?_
        refine z_aload_n hC d_Ix_nearest_18 rfl 3 rfl ?_
        refine z_get hC hi_Ix 0 rfl rfl 4 (by decide) mw_99 (Or.inl rfl) rfl d_Ix_nearest_19 ?_
        refine z_icmp_ge (tgt := 57) hC ((i : Nat) : Int) ((xc : Nat) : Int) d_Ix_nearest_22 rfl (iI_t (by omega)) (iI_t (by omega)) (fun c_2 => ?_) (fun c_2 => ?_)
        · refine z_iload_n hC d_Ix_nearest_57 rfl 2 rfl ?_
          exact Z.eq (by first | (rw [if_pos (by omega)]; done) | (rw [if_neg (by omega), hm, show i = xc by omega])) rfl rfl (by first | (rw [if_pos (by omega)]; done) | (rw [if_neg (by omega), ← show i = xc by omega, ← hq])) (hR _ _ d_Ix_nearest_58)
        · refine z_aload_n hC d_Ix_nearest_25 rfl 3 rfl ?_
          refine z_iload hC d_Ix_nearest_26 0 rfl ?_
          refine z_aload_n hC d_Ix_nearest_28 rfl 4 rfl ?_
          refine z_callV (q0 := 0) (ci := 3) (w' := [(x0, .inr (3, [.ref x1, .ref x2, .ref x3, .ref x4, .int (iI ((xc : Nat) : Int))])), (x1, .inl ((g.2.1 0), 64, .inl xl)), (x2, .inl ((g.2.1 0), 8, .inl (nF xn))), (x3, .inl ((g.2.1 2), 8, .inl (bF xo))), (x4, .inl ((g.2.1 0), 9, .inl (nF (chF m (xn i) (rowD (eqF un uf xl i) un))))), (u0, .inr (8, [.ref u1, .int (iI ((un : Nat) : Int))])), (u1, .inl ((g.2.1 0), 200, .inl uf))]) (st1 := [.int (iI ((rowD (eqF un uf xl i) un (xn i) : Nat) : Int))]) hC (k_Ix_changesTo l g x0 x1 x2 x3 x4 xc xl xn xo m u0 u1 un uf i hxc hxn hun (by omega)) mw_594 zv_Ix_changesTo rfl rfl ⟨Nat.le_of_ble_eq_true rfl, Nat.le_of_ble_eq_true rfl⟩ [0, 1, 2, 3, 4, 5, 6] rfl rfl rfl rfl rfl rfl rfl rfl (Nat.le_of_ble_eq_true rfl) d_Ix_nearest_29 rfl ⟨Nat.zero_le _, Nat.zero_le _⟩ rfl ?_
          refine z_istore (lv' := [(5, .int (iI ((rowD (eqF un uf xl i) un (xn i) : Nat) : Int))), (4, .int (iI ((i : Nat) : Int))), (3, .int (iI ((f : Nat) : Int))), (2, .int (iI b)), (0, .ref x0), (1, .ref u0)]) hC d_Ix_nearest_32 (by decide) rfl ?_
          have bd := rowD_le (eqF un uf xl i) un (xn i)
          have hx8 := hxn i (by omega)
          refine z_iload_n hC d_Ix_nearest_34 rfl 3 rfl ?_
          refine z_iconst hC d_Ix_nearest_35 ?_
          refine z_icmp_eq (tgt := 45) hC b (-1) d_Ix_nearest_36 rfl (iI_t (by omega)) (iI_t (by omega)) (fun c_3 => ?_) (fun c_3 => ?_)
          · refine z_iload hC d_Ix_nearest_45 1 rfl ?_
            refine z_istore_n (lv' := [(2, .int (iI ((i : Nat) : Int))), (5, .int (iI ((rowD (eqF un uf xl i) un (xn i) : Nat) : Int))), (4, .int (iI ((i : Nat) : Int))), (3, .int (iI ((f : Nat) : Int))), (0, .ref x0), (1, .ref u0)]) hC d_Ix_nearest_47 rfl (by decide) rfl ?_
            refine z_iload hC d_Ix_nearest_48 1 rfl ?_
            refine z_istore_n (lv' := [(3, .int (iI ((rowD (eqF un uf xl i) un (xn i) : Nat) : Int))), (2, .int (iI ((i : Nat) : Int))), (5, .int (iI ((rowD (eqF un uf xl i) un (xn i) : Nat) : Int))), (4, .int (iI ((i : Nat) : Int))), (0, .ref x0), (1, .ref u0)]) hC d_Ix_nearest_50 rfl (by decide) rfl ?_
            refine z_iincN (lv' := [(4, .int (iI ((i + 1 : Nat) : Int))), (3, .int (iI ((rowD (eqF un uf xl i) un (xn i) : Nat) : Int))), (2, .int (iI ((i : Nat) : Int))), (5, .int (iI ((rowD (eqF un uf xl i) un (xn i) : Nat) : Int))), (0, .ref x0), (1, .ref u0)]) hC 1 d_Ix_nearest_51 rfl 3 rfl (by decide) rfl ?_
            refine z_goto (tgt := 16) hC d_Ix_nearest_54 rfl ?_
            exact Zloc [0, 1, 2, 4, 5] rfl (Z.eq (w' := [(x0, .inr (3, [.ref x1, .ref x2, .ref x3, .ref x4, .int (iI ((xc : Nat) : Int))])), (x1, .inl ((g.2.1 0), 64, .inl xl)), (x2, .inl ((g.2.1 0), 8, .inl (nF xn))), (x3, .inl ((g.2.1 2), 8, .inl (bF xo))), (x4, .inl ((g.2.1 0), 9, .inl (nF (chF m (xn i) (rowD (eqF un uf xl i) un))))), (u0, .inr (8, [.ref u1, .int (iI ((un : Nat) : Int))])), (u1, .inl ((g.2.1 0), 200, .inl uf))]) rfl rfl rfl rfl (ih_16 (i + 1) ((i : Nat) : Int) (rowD (eqF un uf xl i) un (xn i)) (chF m (xn i) (rowD (eqF un uf xl i) un)) (by omega) (by omega) (by omega) (by first | exact nr_hit hq (Or.inl (by omega)) | exact nr_hit hq (Or.inr (by omega)) | exact nr_keep hq (by omega) (by omega)) (by rw [hm]; rfl) (by omega)))
          · refine z_iload hC d_Ix_nearest_39 0 rfl ?_
            refine z_iload_n hC d_Ix_nearest_41 rfl 2 rfl ?_
            refine z_icmp_ge (tgt := 51) hC ((rowD (eqF un uf xl i) un (xn i) : Nat) : Int) ((f : Nat) : Int) d_Ix_nearest_42 rfl (iI_t (by omega)) (iI_t (by omega)) (fun c_4 => ?_) (fun c_4 => ?_)
            · refine z_iincN (lv' := [(4, .int (iI ((i + 1 : Nat) : Int))), (5, .int (iI ((rowD (eqF un uf xl i) un (xn i) : Nat) : Int))), (3, .int (iI ((f : Nat) : Int))), (2, .int (iI b)), (0, .ref x0), (1, .ref u0)]) hC 1 d_Ix_nearest_51 rfl 1 rfl (by decide) rfl ?_
              refine z_goto (tgt := 16) hC d_Ix_nearest_54 rfl ?_
              exact Zloc [0, 2, 3, 4, 5] rfl (Z.eq (w' := [(x0, .inr (3, [.ref x1, .ref x2, .ref x3, .ref x4, .int (iI ((xc : Nat) : Int))])), (x1, .inl ((g.2.1 0), 64, .inl xl)), (x2, .inl ((g.2.1 0), 8, .inl (nF xn))), (x3, .inl ((g.2.1 2), 8, .inl (bF xo))), (x4, .inl ((g.2.1 0), 9, .inl (nF (chF m (xn i) (rowD (eqF un uf xl i) un))))), (u0, .inr (8, [.ref u1, .int (iI ((un : Nat) : Int))])), (u1, .inl ((g.2.1 0), 200, .inl uf))]) rfl rfl rfl rfl (ih_16 (i + 1) b f (chF m (xn i) (rowD (eqF un uf xl i) un)) (by omega) (by omega) hf (by first | exact nr_hit hq (Or.inl (by omega)) | exact nr_hit hq (Or.inr (by omega)) | exact nr_keep hq (by omega) (by omega)) (by rw [hm]; rfl) (by omega)))
            · refine z_iload hC d_Ix_nearest_45 1 rfl ?_
              refine z_istore_n (lv' := [(2, .int (iI ((i : Nat) : Int))), (5, .int (iI ((rowD (eqF un uf xl i) un (xn i) : Nat) : Int))), (4, .int (iI ((i : Nat) : Int))), (3, .int (iI ((f : Nat) : Int))), (0, .ref x0), (1, .ref u0)]) hC d_Ix_nearest_47 rfl (by decide) rfl ?_
              refine z_iload hC d_Ix_nearest_48 1 rfl ?_
              refine z_istore_n (lv' := [(3, .int (iI ((rowD (eqF un uf xl i) un (xn i) : Nat) : Int))), (2, .int (iI ((i : Nat) : Int))), (5, .int (iI ((rowD (eqF un uf xl i) un (xn i) : Nat) : Int))), (4, .int (iI ((i : Nat) : Int))), (0, .ref x0), (1, .ref u0)]) hC d_Ix_nearest_50 rfl (by decide) rfl ?_
              refine z_iincN (lv' := [(4, .int (iI ((i + 1 : Nat) : Int))), (3, .int (iI ((rowD (eqF un uf xl i) un (xn i) : Nat) : Int))), (2, .int (iI ((i : Nat) : Int))), (5, .int (iI ((rowD (eqF un uf xl i) un (xn i) : Nat) : Int))), (0, .ref x0), (1, .ref u0)]) hC 1 d_Ix_nearest_51 rfl 3 rfl (by decide) rfl ?_
              refine z_goto (tgt := 16) hC d_Ix_nearest_54 rfl ?_
              exact Zloc [0, 1, 2, 4, 5] rfl (Z.eq (w' := [(x0, .inr (3, [.ref x1, .ref x2, .ref x3, .ref x4, .int (iI ((xc : Nat) : Int))])), (x1, .inl ((g.2.1 0), 64, .inl xl)), (x2, .inl ((g.2.1 0), 8, .inl (nF xn))), (x3, .inl ((g.2.1 2), 8, .inl (bF xo))), (x4, .inl ((g.2.1 0), 9, .inl (nF (chF m (xn i) (rowD (eqF un uf xl i) un))))), (u0, .inr (8, [.ref u1, .int (iI ((un : Nat) : Int))])), (u1, .inl ((g.2.1 0), 200, .inl uf))]) rfl rfl rfl rfl (ih_16 (i + 1) ((i : Nat) : Int) (rowD (eqF un uf xl i) un (xn i)) (chF m (xn i) (rowD (eqF un uf xl i) un)) (by omega) (by omega) (by omega) (by first | exact nr_hit hq (Or.inl (by omega)) | exact nr_hit hq (Or.inr (by omega)) | exact nr_keep hq (by omega) (by omega)) (by rw [hm]; rfl) (by omega)))
    exact Zloc [0, 1, 2, 3, 4] rfl (Z.eq (w' := [(x0, .inr (3, [.ref x1, .ref x2, .ref x3, .ref x4, .int (iI ((xc : Nat) : Int))])), (x1, .inl ((g.2.1 0), 64, .inl xl)), (x2, .inl ((g.2.1 0), 8, .inl (nF xn))), (x3, .inl ((g.2.1 2), 8, .inl (bF xo))), (x4, .inl ((g.2.1 0), 9, .inl (nF ch))), (u0, .inr (8, [.ref u1, .int (iI ((un : Nat) : Int))])), (u1, .inl ((g.2.1 0), 200, .inl uf))]) rfl rfl rfl rfl (L_16 _ 0 (-1) 0 ch (by omega) (by omega) (by omega) rfl rfl (Nat.lt_succ_self _)))
  · refine z_iconst hC d_Ix_nearest_11 ?_
    exact Z.eq (by first | (rw [if_pos (by omega)]; done) | (rw [if_neg (by omega), hm, show i = xc by omega])) rfl rfl (by first | (rw [if_pos (by omega)]; done) | (rw [if_neg (by omega), ← show i = xc by omega, ← hq])) (hR _ _ d_Ix_nearest_12)
