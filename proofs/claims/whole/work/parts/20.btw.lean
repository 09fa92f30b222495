/-! ===== FORM 0 and FORM 1, as the class reads them ===== -/
def tkV (n : Nat) (f : Nat → Int32) (s : RS) (ix : Int) : Bool × RS :=
  if tvR n f s.1 = -1 then (false, (tvP n f s.1, s.2))
  else if sN n f (tvP n f s.1) = iI ((42 : Nat) : Int) then apB s (tvP n f s.1 + 1) (iI ((2 : Nat) : Int), iI ix, iI (tvR n f s.1), iI (-1))
  else if sN n f (tvP n f s.1) = iI ((46 : Nat) : Int) then (if sN n f (tvP n f s.1 + 1) = iI ((46 : Nat) : Int) then tkG n f (tvP n f s.1 + 1 + 1, s.2) ix (tvR n f s.1) else (false, (tvP n f s.1 + 1, s.2)))
  else apB s (tvP n f s.1) (iI ((0 : Nat) : Int), iI ix, iI (tvR n f s.1), iI (-1))
theorem tkV_ok {n : Nat} {f : Nat → Int32} {s : RS} {ix : Int} {w : Bool × RS} (hw : w = tkV n f s ix) (h1 : s.1 ≤ n) (h2 : s.2.1 ≤ 40) : w.2.1 ≤ n ∧ w.2.2.1 ≤ 40 ∧ s.2.1 ≤ w.2.2.1 := by
  have a := tvP_rng n f s.1 h1
  subst hw
  unfold tkV
  split
  · dsimp only; omega
  · split
    · next c => have := sN_lt c (by decide); exact apB_ok (by omega) h2
    · split
      · next c =>
        have := sN_lt c (by decide)
        split
        · next c2 =>
          have := sN_lt c2 (by decide)
          exact tkG_ok (s := (tvP n f s.1 + 1 + 1, s.2)) rfl (by dsimp only; omega) h2
        · dsimp only; omega
      · exact apB_ok a.2 h2
def bJt (n : Nat) (f : Nat → Int32) (s : RS) (lo la : Nat) : Int × RS :=
  if jS n f s.1 (rowE n f (n - s.1) s.1) = -1 then (-1, s)
  else if s.2.1 < 40 then
    (if sN n f (rowE n f (n - s.1) s.1) = iI ((32 : Nat) : Int) then (jS n f s.1 (rowE n f (n - s.1) s.1), (rowE n f (n - s.1) s.1 + 1, s.2.1 + 1, insN s.2.2.1 s.2.1 (if jS n f s.1 (rowE n f (n - s.1) s.1) = 3 then la else lo) (iI (jS n f s.1 (rowE n f (n - s.1) s.1)), iI (-1), iI (-1), iI (-1)), s.2.2.2))
     else (-1, (rowE n f (n - s.1) s.1, s.2.1 + 1, insN s.2.2.1 s.2.1 (if jS n f s.1 (rowE n f (n - s.1) s.1) = 3 then la else lo) (iI (jS n f s.1 (rowE n f (n - s.1) s.1)), iI (-1), iI (-1), iI (-1)), s.2.2.2)))
  else (-1, s)
theorem bJt_ok {n : Nat} {f : Nat → Int32} {s : RS} {lo la : Nat} {w : Int × RS} (hw : w = bJt n f s lo la) (h1 : s.1 ≤ n) (h2 : s.2.1 ≤ 40) : w.2.1 ≤ n ∧ w.2.2.1 ≤ 40 ∧ s.2.1 ≤ w.2.2.1 ∧ -1 ≤ w.1 ∧ w.1 ≤ 5 := by
  have a := rowE_rng n f (n - s.1) s.1
  have b := jS_rng n f s.1 (rowE n f (n - s.1) s.1)
  subst hw
  unfold bJt
  split
  · dsimp only; omega
  · split
    · split
      · next c => have := sN_lt c (by decide); dsimp only; omega
      · dsimp only; omega
    · dsimp only; omega
def bTm (n : Nat) (f : Nat → Int32) (xc : Nat) (xn : Nat → Nat) (xl : Nat → Int32) (T : RS → Bool × RS) (d : Nat) (s : RS) : Bool × RS :=
  if sN n f s.1 = iI ((40 : Nat) : Int) then
    (if d = 0 then (false, s)
     else if (T (s.1 + 1, s.2)).1 = true then (if sN n f (T (s.1 + 1, s.2)).2.1 = iI ((41 : Nat) : Int) then (true, ((T (s.1 + 1, s.2)).2.1 + 1, (T (s.1 + 1, s.2)).2.2)) else (false, (T (s.1 + 1, s.2)).2))
     else (false, (T (s.1 + 1, s.2)).2))
  else if (tkN n f xc xn xl s).1 = -1 then (false, (tkN n f xc xn xl s).2)
  else if sN n f (tkN n f xc xn xl s).2.1 = iI ((61 : Nat) : Int) then tkV n f ((tkN n f xc xn xl s).2.1 + 1, (tkN n f xc xn xl s).2.2) (tkN n f xc xn xl s).1
  else (false, (tkN n f xc xn xl s).2)
/-- what every reading function keeps -/
def okF (n : Nat) (M : RS → Bool × RS) : Prop := ∀ s : RS, s.1 ≤ n → s.2.1 ≤ 40 → (M s).2.1 ≤ n ∧ (M s).2.2.1 ≤ 40 ∧ s.2.1 ≤ (M s).2.2.1
theorem bTm_ok {n : Nat} {f : Nat → Int32} {xc : Nat} {xn : Nat → Nat} {xl : Nat → Int32} {T : RS → Bool × RS} {d : Nat} (hT : d = 0 ∨ okF n T) (hc : xc ≤ 8) : okF n (bTm n f xc xn xl T d) := by
  intro s h1 h2
  have a := tkN_ok (s := s) (n := n) (f := f) (xc := xc) (xn := xn) (xl := xl) rfl h1 h2 hc
  unfold bTm
  split
  · next c =>
    have := sN_lt c (by decide)
    split
    · dsimp only; omega
    · next hd =>
      have b := (hT.resolve_left hd) (s.1 + 1, s.2) (by dsimp only; omega) h2
      dsimp only at b
      split
      · split
        · next c2 => have := sN_lt c2 (by decide); dsimp only; omega
        · dsimp only; omega
      · dsimp only; omega
  · split
    · dsimp only; omega
    · split
      · next c =>
        have := sN_lt c (by decide)
        have b := tkV_ok (n := n) (f := f) (s := ((tkN n f xc xn xl s).2.1 + 1, (tkN n f xc xn xl s).2.2)) (ix := (tkN n f xc xn xl s).1) rfl (by dsimp only; omega) (by dsimp only; omega)
        dsimp only at b
        omega
      · dsimp only; omega
def bLp (n : Nat) (f : Nat → Int32) (M : RS → Bool × RS) (lo : Nat) : Nat → Nat → RS → Bool × RS
  | 0, _, s => (true, s)
  | k + 1, la, s => if sN n f s.1 = iI ((32 : Nat) : Int) then
      (if (bJt n f (s.1 + 1, s.2) lo la).1 = -1 then (false, (bJt n f (s.1 + 1, s.2) lo la).2)
       else if (M (bJt n f (s.1 + 1, s.2) lo la).2).1 = true then bLp n f M lo k (if (bJt n f (s.1 + 1, s.2) lo la).1 = 3 then la else (bJt n f (s.1 + 1, s.2) lo la).2.2.1) (M (bJt n f (s.1 + 1, s.2) lo la).2).2
       else (false, (M (bJt n f (s.1 + 1, s.2) lo la).2).2))
     else (true, s)
theorem bLp_ok {n : Nat} {f : Nat → Int32} {M : RS → Bool × RS} {lo : Nat} (hM : okF n M) : ∀ (k la : Nat) (s : RS), s.1 ≤ n → s.2.1 ≤ 40 → (bLp n f M lo k la s).2.1 ≤ n ∧ (bLp n f M lo k la s).2.2.1 ≤ 40 ∧ s.2.1 ≤ (bLp n f M lo k la s).2.2.1
  | 0, _, s, h1, h2 => ⟨h1, h2, Nat.le_refl _⟩
  | k + 1, la, s, h1, h2 => by
    simp only [bLp]
    split
    · next c =>
      have := sN_lt c (by decide)
      have a := bJt_ok (n := n) (f := f) (s := (s.1 + 1, s.2)) (lo := lo) (la := la) rfl (by dsimp only; omega) h2
      have b := hM (bJt n f (s.1 + 1, s.2) lo la).2 (by omega) (by omega)
      dsimp only at a
      split
      · dsimp only; omega
      · split
        · have e := bLp_ok (f := f) (lo := lo) hM k (if (bJt n f (s.1 + 1, s.2) lo la).1 = 3 then la else (bJt n f (s.1 + 1, s.2) lo la).2.2.1) (M (bJt n f (s.1 + 1, s.2) lo la).2).2 (by omega) (by omega)
          omega
        · dsimp only; omega
    · dsimp only; omega
def bSt (n : Nat) (f : Nat → Int32) (M : RS → Bool × RS) (s : RS) : Bool × RS := if (M s).1 = true then bLp n f M s.2.1 200 s.2.1 (M s).2 else (false, (M s).2)
theorem bSt_ok {n : Nat} {f : Nat → Int32} {M : RS → Bool × RS} (hM : okF n M) : okF n (bSt n f M) := by
  intro s h1 h2
  have a := hM s h1 h2
  unfold bSt
  split
  · have b := bLp_ok (f := f) (lo := s.2.1) hM 200 s.2.1 (M s).2 a.1 a.2.1
    omega
  · dsimp only; omega
/-- FORM 0, with d brackets left -/
def bTr (n : Nat) (f : Nat → Int32) (xc : Nat) (xn : Nat → Nat) (xl : Nat → Int32) : Nat → RS → Bool × RS
  | 0 => bSt n f (bTm n f xc xn xl (fun s => (false, s)) 0)
  | d + 1 => bSt n f (bTm n f xc xn xl (bTr n f xc xn xl d) (d + 1))
theorem bTr_ok {n : Nat} {f : Nat → Int32} {xc : Nat} {xn : Nat → Nat} {xl : Nat → Int32} (hc : xc ≤ 8) : ∀ d, okF n (bTr n f xc xn xl d)
  | 0 => bSt_ok (bTm_ok (Or.inl rfl) hc)
  | d + 1 => bSt_ok (bTm_ok (Or.inr (bTr_ok hc d)) hc)
theorem okF.at {n : Nat} {M : RS → Bool × RS} {w : Bool × RS} {s : RS} (hM : okF n M) (hw : w = M s) (h1 : s.1 ≤ n) (h2 : s.2.1 ≤ 40) : w.2.1 ≤ n ∧ w.2.2.1 ≤ 40 ∧ s.2.1 ≤ w.2.2.1 := by subst hw; exact hM s h1 h2
theorem bLp_go {n : Nat} {f : Nat → Int32} {M : RS → Bool × RS} {lo j la la' : Nat} {s s' : RS} {w w2 : Bool × RS} {w1 : Int × RS} (hj : j < 200) (hq : bLp n f M lo (200 - j) la s = w) (h1 : sN n f s.1 = iI ((32 : Nat) : Int)) (e1 : w1 = bJt n f (s.1 + 1, s.2) lo la) (h2 : ¬ w1.1 = -1) (e2 : w2 = M w1.2) (h3 : w2.1 = true) (hs : s' = w2.2) (hla : la' = if w1.1 = 3 then la else w1.2.2.1) : bLp n f M lo (200 - (j + 1)) la' s' = w := by
  rw [show 200 - j = (200 - (j + 1)) + 1 by omega] at hq
  simp only [bLp] at hq
  rw [if_pos h1, ← e1, if_neg h2, ← e2, if_pos h3] at hq
  rw [hs, hla]
  exact hq
theorem bLp_stop {n : Nat} {f : Nat → Int32} {M : RS → Bool × RS} {lo j la : Nat} {s : RS} {w : Bool × RS} (hq : bLp n f M lo (200 - j) la s = w) (h : 200 ≤ j ∨ ¬ sN n f s.1 = iI ((32 : Nat) : Int)) : w = (true, s) := by
  rw [← hq]
  rcases h with h | h
  · rw [show 200 - j = 0 by omega]
    rfl
  · cases 200 - j with
    | zero => rfl
    | succ k => simp only [bLp]; rw [if_neg h]
theorem bLp_f1 {n : Nat} {f : Nat → Int32} {M : RS → Bool × RS} {lo j la : Nat} {s : RS} {w : Bool × RS} {w1 : Int × RS} (hj : j < 200) (hq : bLp n f M lo (200 - j) la s = w) (h1 : sN n f s.1 = iI ((32 : Nat) : Int)) (e1 : w1 = bJt n f (s.1 + 1, s.2) lo la) (h2 : w1.1 = -1) : w = (false, w1.2) := by
  rw [show 200 - j = (200 - (j + 1)) + 1 by omega] at hq
  simp only [bLp] at hq
  rw [if_pos h1, ← e1, if_pos h2] at hq
  exact hq.symm
theorem bLp_f2 {n : Nat} {f : Nat → Int32} {M : RS → Bool × RS} {lo j la : Nat} {s : RS} {w w2 : Bool × RS} {w1 : Int × RS} (hj : j < 200) (hq : bLp n f M lo (200 - j) la s = w) (h1 : sN n f s.1 = iI ((32 : Nat) : Int)) (e1 : w1 = bJt n f (s.1 + 1, s.2) lo la) (h2 : ¬ w1.1 = -1) (e2 : w2 = M w1.2) (h3 : w2.1 = false) : w = (false, w2.2) := by
  rw [show 200 - j = (200 - (j + 1)) + 1 by omega] at hq
  simp only [bLp] at hq
  rw [if_pos h1, ← e1, if_neg h2, ← e2, if_neg (by rw [h3]; decide)] at hq
  exact hq.symm
set_option maxHeartbeats 4000000 in
set_option maxRecDepth 100000 in
theorem k_Bt_takesValues (l : Launch) (g : ZG) (d0 s0 s1 sn sp : Nat) (sf : Nat → Int32) (t0 t1 t2 t3 t4 tn : Nat) (nd : Nat → QD) (x0 x1 x2 x3 x4 xc : Nat) (xl : Nat → Int32) (xn : Nat → Nat) (xo : Nat → Bool) (ch : Nat → Nat) (u0 u1 un : Nat) (uf : Nat → Int32) (ix : Int) (hsn : sn ≤ 200) (hsp : sp ≤ sn) (htn : tn ≤ 40) (hxc : xc ≤ 8) (hxn : ∀ j, j < xc → xn j ≤ 8) (hix : -2147483648 ≤ ix ∧ ix < 2147483648)  (w : Bool × RS) (hw : w = tkV sn sf (sp, tn, nd, un, uf) ix) : Ct l g y_Bt_takesValues c_Bt_takesValues 3 (some .boolean) { frames := 4, cells := 0, slots := 0, locals := 94 } [.ref d0, .int (iI ix)] [(d0, .inr (0, [.ref s0, .ref t0, .ref x0, .ref u0])), (s0, .inr (6, [.ref s1, .int (iI ((sn : Nat) : Int)), .int (iI ((sp : Nat) : Int))])), (s1, .inl ((g.2.1 0), 200, .inl sf)), (t0, .inr (7, [.ref t1, .ref t2, .ref t3, .ref t4, .int (iI ((tn : Nat) : Int))])), (t1, .inl ((g.2.1 0), 40, .inl (q1 nd))), (t2, .inl ((g.2.1 0), 40, .inl (q2 nd))), (t3, .inl ((g.2.1 0), 40, .inl (q3 nd))), (t4, .inl ((g.2.1 0), 40, .inl (q4 nd))), (x0, .inr (3, [.ref x1, .ref x2, .ref x3, .ref x4, .int (iI ((xc : Nat) : Int))])), (x1, .inl ((g.2.1 0), 64, .inl xl)), (x2, .inl ((g.2.1 0), 8, .inl (nF xn))), (x3, .inl ((g.2.1 2), 8, .inl (bF xo))), (x4, .inl ((g.2.1 0), 9, .inl (nF ch))), (u0, .inr (8, [.ref u1, .int (iI ((un : Nat) : Int))])), (u1, .inl ((g.2.1 0), 200, .inl uf))] (some (.int (iI (bI w.1)))) [(d0, .inr (0, [.ref s0, .ref t0, .ref x0, .ref u0])), (s0, .inr (6, [.ref s1, .int (iI ((sn : Nat) : Int)), .int (iI ((w.2.1 : Nat) : Int))])), (s1, .inl ((g.2.1 0), 200, .inl sf)), (t0, .inr (7, [.ref t1, .ref t2, .ref t3, .ref t4, .int (iI ((w.2.2.1 : Nat) : Int))])), (t1, .inl ((g.2.1 0), 40, .inl (q1 w.2.2.2.1))), (t2, .inl ((g.2.1 0), 40, .inl (q2 w.2.2.2.1))), (t3, .inl ((g.2.1 0), 40, .inl (q3 w.2.2.2.1))), (t4, .inl ((g.2.1 0), 40, .inl (q4 w.2.2.2.1))), (x0, .inr (3, [.ref x1, .ref x2, .ref x3, .ref x4, .int (iI ((xc : Nat) : Int))])), (x1, .inl ((g.2.1 0), 64, .inl xl)), (x2, .inl ((g.2.1 0), 8, .inl (nF xn))), (x3, .inl ((g.2.1 2), 8, .inl (bF xo))), (x4, .inl ((g.2.1 0), 9, .inl (nF ch))), (u0, .inr (8, [.ref u1, .int (iI ((w.2.2.2.2.1 : Nat) : Int))])), (u1, .inl ((g.2.1 0), 200, .inl w.2.2.2.2.2))] := by
  refine ct_z (lv := [(0, .ref d0), (1, .int (iI ix))]) (by decide) rfl (Nat.le_of_ble_eq_true rfl) rfl ?_
  intro x hC hR
  have hr9 := tvR_rng sn sf sp
  have hp9 := tvP_rng sn sf sp hsp
  refine z_aload_n hC d_Bt_takesValues_0 rfl 0 rfl ?_
  refine z_get hC hi_Bt 0 rfl rfl 0 (by decide) mw_159 (Or.inr mw_160) rfl d_Bt_takesValues_1 ?_
  refine z_callV (q0 := 1) (ci := 6) (w' := [(d0, .inr (0, [.ref s0, .ref t0, .ref x0, .ref u0])), (s0, .inr (6, [.ref s1, .int (iI ((sn : Nat) : Int)), .int (iI ((tvP sn sf sp : Nat) : Int))])), (s1, .inl ((g.2.1 0), 200, .inl sf)), (t0, .inr (7, [.ref t1, .ref t2, .ref t3, .ref t4, .int (iI ((tn : Nat) : Int))])), (t1, .inl ((g.2.1 0), 40, .inl (q1 nd))), (t2, .inl ((g.2.1 0), 40, .inl (q2 nd))), (t3, .inl ((g.2.1 0), 40, .inl (q3 nd))), (t4, .inl ((g.2.1 0), 40, .inl (q4 nd))), (x0, .inr (3, [.ref x1, .ref x2, .ref x3, .ref x4, .int (iI ((xc : Nat) : Int))])), (x1, .inl ((g.2.1 0), 64, .inl xl)), (x2, .inl ((g.2.1 0), 8, .inl (nF xn))), (x3, .inl ((g.2.1 2), 8, .inl (bF xo))), (x4, .inl ((g.2.1 0), 9, .inl (nF ch))), (u0, .inr (8, [.ref u1, .int (iI ((un : Nat) : Int))])), (u1, .inl ((g.2.1 0), 200, .inl uf))]) (st1 := [.int (iI (tvR sn sf sp))]) hC (k_So_takeValue l g s0 s1 sn sp sf hsn hsp) mw_473 zv_So_takeValue rfl rfl ⟨Nat.le_of_ble_eq_true rfl, Nat.le_of_ble_eq_true rfl⟩ [1, 2] rfl rfl rfl rfl rfl rfl rfl rfl (Nat.le_of_ble_eq_true rfl) d_Bt_takesValues_4 rfl ⟨Nat.zero_le _, Nat.zero_le _⟩ rfl ?_
  refine z_istore_n (lv' := [(2, .int (iI (tvR sn sf sp))), (0, .ref d0), (1, .int (iI ix))]) hC d_Bt_takesValues_7 rfl (by decide) rfl ?_
  refine z_iload_n hC d_Bt_takesValues_8 rfl 0 rfl ?_
  refine z_iconst hC d_Bt_takesValues_9 ?_
  refine z_icmp_ne (tgt := 15) hC (tvR sn sf sp) (-1) d_Bt_takesValues_10 rfl (iI_t (by omega)) (iI_t (by omega)) (fun c_1 => ?_) (fun c_1 => ?_)
  · refine z_aload_n hC d_Bt_takesValues_15 rfl 1 rfl ?_
    refine z_get hC hi_Bt 0 rfl rfl 0 (by decide) mw_159 (Or.inr mw_160) rfl d_Bt_takesValues_16 ?_
    refine z_bipush (a := ((42 : Nat) : Int)) hC d_Bt_takesValues_19 (by decide) ?_
    by_cases c_2 : sN sn sf (tvP sn sf sp) = (iI ((42 : Nat) : Int))
    · refine z_callV (q0 := 1) (ci := 6) (w' := [(d0, .inr (0, [.ref s0, .ref t0, .ref x0, .ref u0])), (s0, .inr (6, [.ref s1, .int (iI ((sn : Nat) : Int)), .int (iI (((tvP sn sf sp) + 1 : Nat) : Int))])), (s1, .inl ((g.2.1 0), 200, .inl sf)), (t0, .inr (7, [.ref t1, .ref t2, .ref t3, .ref t4, .int (iI ((tn : Nat) : Int))])), (t1, .inl ((g.2.1 0), 40, .inl (q1 nd))), (t2, .inl ((g.2.1 0), 40, .inl (q2 nd))), (t3, .inl ((g.2.1 0), 40, .inl (q3 nd))), (t4, .inl ((g.2.1 0), 40, .inl (q4 nd))), (x0, .inr (3, [.ref x1, .ref x2, .ref x3, .ref x4, .int (iI ((xc : Nat) : Int))])), (x1, .inl ((g.2.1 0), 64, .inl xl)), (x2, .inl ((g.2.1 0), 8, .inl (nF xn))), (x3, .inl ((g.2.1 2), 8, .inl (bF xo))), (x4, .inl ((g.2.1 0), 9, .inl (nF ch))), (u0, .inr (8, [.ref u1, .int (iI ((un : Nat) : Int))])), (u1, .inl ((g.2.1 0), 200, .inl uf))]) (st1 := [.int (iI (bI true))]) hC (k_So_take_T l g s0 s1 sn (tvP sn sf sp) sf (iI ((42 : Nat) : Int)) hsn (by omega) (by omega)) mw_444 zv_So_take rfl rfl ⟨Nat.le_of_ble_eq_true rfl, Nat.le_of_ble_eq_true rfl⟩ [1, 2] rfl rfl rfl rfl rfl rfl rfl rfl (Nat.le_of_ble_eq_true rfl) d_Bt_takesValues_21 rfl ⟨Nat.zero_le _, Nat.zero_le _⟩ rfl ?_
      refine z_ifeqB (tgt := 39) hC d_Bt_takesValues_24 rfl (fun c_3 => Bool.noConfusion c_3) (fun c_3 => ?_)
      have sl1 := sN_lt (by assumption) (by decide : 42 < 256)
      refine z_aload_n hC d_Bt_takesValues_27 rfl 1 rfl ?_
      refine z_get hC hi_Bt 0 rfl rfl 1 (by decide) mw_162 (Or.inr mw_163) rfl d_Bt_takesValues_28 ?_
      refine z_iconstN hC 2 d_Bt_takesValues_31 rfl ?_
      refine z_iload_n hC d_Bt_takesValues_32 rfl 2 rfl ?_
      refine z_iload_n hC d_Bt_takesValues_33 rfl 0 rfl ?_
      refine z_iconst hC d_Bt_takesValues_34 ?_
      by_cases c_4 : tn < 40
      · refine z_callV (q0 := 3) (ci := 7) (w' := [(d0, .inr (0, [.ref s0, .ref t0, .ref x0, .ref u0])), (s0, .inr (6, [.ref s1, .int (iI ((sn : Nat) : Int)), .int (iI (((tvP sn sf sp) + 1 : Nat) : Int))])), (s1, .inl ((g.2.1 0), 200, .inl sf)), (t0, .inr (7, [.ref t1, .ref t2, .ref t3, .ref t4, .int (iI ((tn + 1 : Nat) : Int))])), (t1, .inl ((g.2.1 0), 40, .inl (q1 (up nd tn ((iI ((2 : Nat) : Int)), (iI ix), (iI (tvR sn sf sp)), (iI (-1))))))), (t2, .inl ((g.2.1 0), 40, .inl (q2 (up nd tn ((iI ((2 : Nat) : Int)), (iI ix), (iI (tvR sn sf sp)), (iI (-1))))))), (t3, .inl ((g.2.1 0), 40, .inl (q3 (up nd tn ((iI ((2 : Nat) : Int)), (iI ix), (iI (tvR sn sf sp)), (iI (-1))))))), (t4, .inl ((g.2.1 0), 40, .inl (q4 (up nd tn ((iI ((2 : Nat) : Int)), (iI ix), (iI (tvR sn sf sp)), (iI (-1))))))), (x0, .inr (3, [.ref x1, .ref x2, .ref x3, .ref x4, .int (iI ((xc : Nat) : Int))])), (x1, .inl ((g.2.1 0), 64, .inl xl)), (x2, .inl ((g.2.1 0), 8, .inl (nF xn))), (x3, .inl ((g.2.1 2), 8, .inl (bF xo))), (x4, .inl ((g.2.1 0), 9, .inl (nF ch))), (u0, .inr (8, [.ref u1, .int (iI ((un : Nat) : Int))])), (u1, .inl ((g.2.1 0), 200, .inl uf))]) (st1 := [.int (iI (bI true))]) hC (k_Tr_append_T l g t0 t1 t2 t3 t4 tn nd (iI ((2 : Nat) : Int)) (iI ix) (iI (tvR sn sf sp)) (iI (-1)) htn (by omega)) mw_480 zv_Tr_append rfl rfl ⟨Nat.le_of_ble_eq_true rfl, Nat.le_of_ble_eq_true rfl⟩ [3, 4, 5, 6, 7] rfl rfl rfl rfl rfl rfl rfl rfl (Nat.le_of_ble_eq_true rfl) d_Bt_takesValues_35 rfl ⟨Nat.zero_le _, Nat.zero_le _⟩ rfl ?_
        have hz9 : w = (true, ((tvP sn sf sp) + 1, tn + 1, (up nd tn ((iI ((2 : Nat) : Int)), (iI ix), (iI (tvR sn sf sp)), (iI (-1)))), un, uf)) := by rw [hw]; unfold tkV apB; dsimp only; skip; (repeat' split) <;> first | rfl | exact Prod.ext (by assumption) rfl | (exfalso; omega) | (exfalso; contradiction) | (subst_vars; rfl) | (exfalso; simp_all; done)
        subst hz9
        exact Z.eq rfl rfl rfl rfl (hR _ _ d_Bt_takesValues_38)
      · refine z_callV (q0 := 3) (ci := 7) (w' := [(d0, .inr (0, [.ref s0, .ref t0, .ref x0, .ref u0])), (s0, .inr (6, [.ref s1, .int (iI ((sn : Nat) : Int)), .int (iI (((tvP sn sf sp) + 1 : Nat) : Int))])), (s1, .inl ((g.2.1 0), 200, .inl sf)), (t0, .inr (7, [.ref t1, .ref t2, .ref t3, .ref t4, .int (iI ((tn : Nat) : Int))])), (t1, .inl ((g.2.1 0), 40, .inl (q1 nd))), (t2, .inl ((g.2.1 0), 40, .inl (q2 nd))), (t3, .inl ((g.2.1 0), 40, .inl (q3 nd))), (t4, .inl ((g.2.1 0), 40, .inl (q4 nd))), (x0, .inr (3, [.ref x1, .ref x2, .ref x3, .ref x4, .int (iI ((xc : Nat) : Int))])), (x1, .inl ((g.2.1 0), 64, .inl xl)), (x2, .inl ((g.2.1 0), 8, .inl (nF xn))), (x3, .inl ((g.2.1 2), 8, .inl (bF xo))), (x4, .inl ((g.2.1 0), 9, .inl (nF ch))), (u0, .inr (8, [.ref u1, .int (iI ((un : Nat) : Int))])), (u1, .inl ((g.2.1 0), 200, .inl uf))]) (st1 := [.int (iI (bI false))]) hC (k_Tr_append_F l g t0 t1 t2 t3 t4 tn nd (iI ((2 : Nat) : Int)) (iI ix) (iI (tvR sn sf sp)) (iI (-1)) htn (by omega)) mw_480 zv_Tr_append rfl rfl ⟨Nat.le_of_ble_eq_true rfl, Nat.le_of_ble_eq_true rfl⟩ [3, 4, 5, 6, 7] rfl rfl rfl rfl rfl rfl rfl rfl (Nat.le_of_ble_eq_true rfl) d_Bt_takesValues_35 rfl ⟨Nat.zero_le _, Nat.zero_le _⟩ rfl ?_
        have hz9 : w = (false, ((tvP sn sf sp) + 1, tn, nd, un, uf)) := by rw [hw]; unfold tkV apB; dsimp only; skip; (repeat' split) <;> first | rfl | exact Prod.ext (by assumption) rfl | (exfalso; omega) | (exfalso; contradiction) | (subst_vars; rfl) | (exfalso; simp_all; done)
        subst hz9
        exact Z.eq rfl rfl rfl rfl (hR _ _ d_Bt_takesValues_38)
    · refine z_callV (q0 := 1) (ci := 6) (w' := [(d0, .inr (0, [.ref s0, .ref t0, .ref x0, .ref u0])), (s0, .inr (6, [.ref s1, .int (iI ((sn : Nat) : Int)), .int (iI (((tvP sn sf sp) : Nat) : Int))])), (s1, .inl ((g.2.1 0), 200, .inl sf)), (t0, .inr (7, [.ref t1, .ref t2, .ref t3, .ref t4, .int (iI ((tn : Nat) : Int))])), (t1, .inl ((g.2.1 0), 40, .inl (q1 nd))), (t2, .inl ((g.2.1 0), 40, .inl (q2 nd))), (t3, .inl ((g.2.1 0), 40, .inl (q3 nd))), (t4, .inl ((g.2.1 0), 40, .inl (q4 nd))), (x0, .inr (3, [.ref x1, .ref x2, .ref x3, .ref x4, .int (iI ((xc : Nat) : Int))])), (x1, .inl ((g.2.1 0), 64, .inl xl)), (x2, .inl ((g.2.1 0), 8, .inl (nF xn))), (x3, .inl ((g.2.1 2), 8, .inl (bF xo))), (x4, .inl ((g.2.1 0), 9, .inl (nF ch))), (u0, .inr (8, [.ref u1, .int (iI ((un : Nat) : Int))])), (u1, .inl ((g.2.1 0), 200, .inl uf))]) (st1 := [.int (iI (bI false))]) hC (k_So_take_F l g s0 s1 sn (tvP sn sf sp) sf (iI ((42 : Nat) : Int)) hsn (by omega) (by omega)) mw_444 zv_So_take rfl rfl ⟨Nat.le_of_ble_eq_true rfl, Nat.le_of_ble_eq_true rfl⟩ [1, 2] rfl rfl rfl rfl rfl rfl rfl rfl (Nat.le_of_ble_eq_true rfl) d_Bt_takesValues_21 rfl ⟨Nat.zero_le _, Nat.zero_le _⟩ rfl ?_
      refine z_ifeqB (tgt := 39) hC d_Bt_takesValues_24 rfl (fun c_5 => ?_) (fun c_5 => Bool.noConfusion c_5)
      refine z_aload_n hC d_Bt_takesValues_39 rfl 1 rfl ?_
      refine z_get hC hi_Bt 0 rfl rfl 0 (by decide) mw_159 (Or.inr mw_160) rfl d_Bt_takesValues_40 ?_
      refine z_bipush (a := ((46 : Nat) : Int)) hC d_Bt_takesValues_43 (by decide) ?_
      by_cases c_6 : sN sn sf (tvP sn sf sp) = (iI ((46 : Nat) : Int))
      · refine z_callV (q0 := 1) (ci := 6) (w' := [(d0, .inr (0, [.ref s0, .ref t0, .ref x0, .ref u0])), (s0, .inr (6, [.ref s1, .int (iI ((sn : Nat) : Int)), .int (iI (((tvP sn sf sp) + 1 : Nat) : Int))])), (s1, .inl ((g.2.1 0), 200, .inl sf)), (t0, .inr (7, [.ref t1, .ref t2, .ref t3, .ref t4, .int (iI ((tn : Nat) : Int))])), (t1, .inl ((g.2.1 0), 40, .inl (q1 nd))), (t2, .inl ((g.2.1 0), 40, .inl (q2 nd))), (t3, .inl ((g.2.1 0), 40, .inl (q3 nd))), (t4, .inl ((g.2.1 0), 40, .inl (q4 nd))), (x0, .inr (3, [.ref x1, .ref x2, .ref x3, .ref x4, .int (iI ((xc : Nat) : Int))])), (x1, .inl ((g.2.1 0), 64, .inl xl)), (x2, .inl ((g.2.1 0), 8, .inl (nF xn))), (x3, .inl ((g.2.1 2), 8, .inl (bF xo))), (x4, .inl ((g.2.1 0), 9, .inl (nF ch))), (u0, .inr (8, [.ref u1, .int (iI ((un : Nat) : Int))])), (u1, .inl ((g.2.1 0), 200, .inl uf))]) (st1 := [.int (iI (bI true))]) hC (k_So_take_T l g s0 s1 sn (tvP sn sf sp) sf (iI ((46 : Nat) : Int)) hsn (by omega) (by omega)) mw_444 zv_So_take rfl rfl ⟨Nat.le_of_ble_eq_true rfl, Nat.le_of_ble_eq_true rfl⟩ [1, 2] rfl rfl rfl rfl rfl rfl rfl rfl (Nat.le_of_ble_eq_true rfl) d_Bt_takesValues_45 rfl ⟨Nat.zero_le _, Nat.zero_le _⟩ rfl ?_
        refine z_ifeqB (tgt := 78) hC d_Bt_takesValues_48 rfl (fun c_7 => Bool.noConfusion c_7) (fun c_7 => ?_)
        have sl1 := sN_lt (by assumption) (by decide : 46 < 256)
        refine z_aload_n hC d_Bt_takesValues_51 rfl 1 rfl ?_
        refine z_get hC hi_Bt 0 rfl rfl 0 (by decide) mw_159 (Or.inr mw_160) rfl d_Bt_takesValues_52 ?_
        refine z_bipush (a := ((46 : Nat) : Int)) hC d_Bt_takesValues_55 (by decide) ?_
        by_cases c_8 : sN sn sf ((tvP sn sf sp) + 1) = (iI ((46 : Nat) : Int))
        · refine z_callV (q0 := 1) (ci := 6) (w' := [(d0, .inr (0, [.ref s0, .ref t0, .ref x0, .ref u0])), (s0, .inr (6, [.ref s1, .int (iI ((sn : Nat) : Int)), .int (iI ((((tvP sn sf sp) + 1) + 1 : Nat) : Int))])), (s1, .inl ((g.2.1 0), 200, .inl sf)), (t0, .inr (7, [.ref t1, .ref t2, .ref t3, .ref t4, .int (iI ((tn : Nat) : Int))])), (t1, .inl ((g.2.1 0), 40, .inl (q1 nd))), (t2, .inl ((g.2.1 0), 40, .inl (q2 nd))), (t3, .inl ((g.2.1 0), 40, .inl (q3 nd))), (t4, .inl ((g.2.1 0), 40, .inl (q4 nd))), (x0, .inr (3, [.ref x1, .ref x2, .ref x3, .ref x4, .int (iI ((xc : Nat) : Int))])), (x1, .inl ((g.2.1 0), 64, .inl xl)), (x2, .inl ((g.2.1 0), 8, .inl (nF xn))), (x3, .inl ((g.2.1 2), 8, .inl (bF xo))), (x4, .inl ((g.2.1 0), 9, .inl (nF ch))), (u0, .inr (8, [.ref u1, .int (iI ((un : Nat) : Int))])), (u1, .inl ((g.2.1 0), 200, .inl uf))]) (st1 := [.int (iI (bI true))]) hC (k_So_take_T l g s0 s1 sn ((tvP sn sf sp) + 1) sf (iI ((46 : Nat) : Int)) hsn (by omega) (by omega)) mw_444 zv_So_take rfl rfl ⟨Nat.le_of_ble_eq_true rfl, Nat.le_of_ble_eq_true rfl⟩ [1, 2] rfl rfl rfl rfl rfl rfl rfl rfl (Nat.le_of_ble_eq_true rfl) d_Bt_takesValues_57 rfl ⟨Nat.zero_le _, Nat.zero_le _⟩ rfl ?_
          refine z_ifeqB (tgt := 76) hC d_Bt_takesValues_60 rfl (fun c_9 => Bool.noConfusion c_9) (fun c_9 => ?_)
          have sl2 := sN_lt (p := tvP sn sf sp + 1) (by assumption) (by decide : 46 < 256)
          refine z_aload_n hC d_Bt_takesValues_63 rfl 1 rfl ?_
          refine z_iload_n hC d_Bt_takesValues_64 rfl 2 rfl ?_
          refine z_iload_n hC d_Bt_takesValues_65 rfl 0 rfl ?_
          obtain ⟨w_10, hw_10⟩ : ∃ z : Bool × RS, z = tkG sn sf ((((tvP sn sf sp) + 1) + 1), tn, nd, un, uf) ix (tvR sn sf sp) := ⟨_, rfl⟩
          have hpw_10 := tkG_ok hw_10 (by omega) (by omega)
          refine z_callU (q0 := 0) (ci := 0) (w' := [(d0, .inr (0, [.ref s0, .ref t0, .ref x0, .ref u0])), (s0, .inr (6, [.ref s1, .int (iI ((sn : Nat) : Int)), .int (iI ((w_10.2.1 : Nat) : Int))])), (s1, .inl ((g.2.1 0), 200, .inl sf)), (t0, .inr (7, [.ref t1, .ref t2, .ref t3, .ref t4, .int (iI ((w_10.2.2.1 : Nat) : Int))])), (t1, .inl ((g.2.1 0), 40, .inl (q1 w_10.2.2.2.1))), (t2, .inl ((g.2.1 0), 40, .inl (q2 w_10.2.2.2.1))), (t3, .inl ((g.2.1 0), 40, .inl (q3 w_10.2.2.2.1))), (t4, .inl ((g.2.1 0), 40, .inl (q4 w_10.2.2.2.1))), (x0, .inr (3, [.ref x1, .ref x2, .ref x3, .ref x4, .int (iI ((xc : Nat) : Int))])), (x1, .inl ((g.2.1 0), 64, .inl xl)), (x2, .inl ((g.2.1 0), 8, .inl (nF xn))), (x3, .inl ((g.2.1 2), 8, .inl (bF xo))), (x4, .inl ((g.2.1 0), 9, .inl (nF ch))), (u0, .inr (8, [.ref u1, .int (iI ((w_10.2.2.2.2.1 : Nat) : Int))])), (u1, .inl ((g.2.1 0), 200, .inl w_10.2.2.2.2.2))]) (st1 := [.int (iI (bI w_10.1))]) (owner := "QuerySteps$Reader") (n := 2) hC (k_Rd_takesGreatest_b l g d0 s0 s1 sn (((tvP sn sf sp) + 1) + 1) sf t0 t1 t2 t3 t4 tn nd x0 x1 x2 x3 x4 xc xl xn xo ch u0 u1 un uf ix (tvR sn sf sp) hsn (by omega) htn hxc hxn hix (by omega) w_10 hw_10) mw_493 mw_494 mw_496 mw_497 mw_52 mw_498 2 rfl (by decide +kernel) rfl rfl ⟨Nat.le_of_ble_eq_true rfl, Nat.le_of_ble_eq_true rfl⟩ [0, 1, 2, 3, 4, 5, 6, 7, 8, 9, 10, 11, 12, 13, 14] rfl rfl rfl rfl rfl rfl rfl rfl (Nat.le_of_ble_eq_true rfl) d_Bt_takesValues_66 rfl ⟨Nat.zero_le _, Nat.zero_le _⟩ rfl ?_
          refine z_ifeqB (tgt := 76) hC d_Bt_takesValues_69 rfl (fun c_11 => ?_) (fun c_11 => ?_)
          · refine z_iconstN hC 0 d_Bt_takesValues_76 rfl ?_
            have hz9 : w = (false, w_10.2) := by rw [hw]; unfold tkV apB; dsimp only; (try simp only [← hw_10]); (repeat' split) <;> first | rfl | exact Prod.ext (by assumption) rfl | (exfalso; omega) | (exfalso; contradiction) | (subst_vars; rfl) | (exfalso; simp_all; done)
            subst hz9
            exact Z.eq rfl rfl rfl rfl (hR _ _ d_Bt_takesValues_77)
          · refine z_iconstN hC 1 d_Bt_takesValues_72 rfl ?_
            refine z_goto (tgt := 77) hC d_Bt_takesValues_73 rfl ?_
            have hz9 : w = (true, w_10.2) := by rw [hw]; unfold tkV apB; dsimp only; (try simp only [← hw_10]); (repeat' split) <;> first | rfl | exact Prod.ext (by assumption) rfl | (exfalso; omega) | (exfalso; contradiction) | (subst_vars; rfl) | (exfalso; simp_all; done)
            subst hz9
            exact Z.eq rfl rfl rfl rfl (hR _ _ d_Bt_takesValues_77)
        · refine z_callV (q0 := 1) (ci := 6) (w' := [(d0, .inr (0, [.ref s0, .ref t0, .ref x0, .ref u0])), (s0, .inr (6, [.ref s1, .int (iI ((sn : Nat) : Int)), .int (iI ((((tvP sn sf sp) + 1) : Nat) : Int))])), (s1, .inl ((g.2.1 0), 200, .inl sf)), (t0, .inr (7, [.ref t1, .ref t2, .ref t3, .ref t4, .int (iI ((tn : Nat) : Int))])), (t1, .inl ((g.2.1 0), 40, .inl (q1 nd))), (t2, .inl ((g.2.1 0), 40, .inl (q2 nd))), (t3, .inl ((g.2.1 0), 40, .inl (q3 nd))), (t4, .inl ((g.2.1 0), 40, .inl (q4 nd))), (x0, .inr (3, [.ref x1, .ref x2, .ref x3, .ref x4, .int (iI ((xc : Nat) : Int))])), (x1, .inl ((g.2.1 0), 64, .inl xl)), (x2, .inl ((g.2.1 0), 8, .inl (nF xn))), (x3, .inl ((g.2.1 2), 8, .inl (bF xo))), (x4, .inl ((g.2.1 0), 9, .inl (nF ch))), (u0, .inr (8, [.ref u1, .int (iI ((un : Nat) : Int))])), (u1, .inl ((g.2.1 0), 200, .inl uf))]) (st1 := [.int (iI (bI false))]) hC (k_So_take_F l g s0 s1 sn ((tvP sn sf sp) + 1) sf (iI ((46 : Nat) : Int)) hsn (by omega) (by omega)) mw_444 zv_So_take rfl rfl ⟨Nat.le_of_ble_eq_true rfl, Nat.le_of_ble_eq_true rfl⟩ [1, 2] rfl rfl rfl rfl rfl rfl rfl rfl (Nat.le_of_ble_eq_true rfl) d_Bt_takesValues_57 rfl ⟨Nat.zero_le _, Nat.zero_le _⟩ rfl ?_
          refine z_ifeqB (tgt := 76) hC d_Bt_takesValues_60 rfl (fun c_12 => ?_) (fun c_12 => Bool.noConfusion c_12)
          refine z_iconstN hC 0 d_Bt_takesValues_76 rfl ?_
          have hz9 : w = (false, (((tvP sn sf sp) + 1), tn, nd, un, uf)) := by rw [hw]; unfold tkV apB; dsimp only; skip; (repeat' split) <;> first | rfl | exact Prod.ext (by assumption) rfl | (exfalso; omega) | (exfalso; contradiction) | (subst_vars; rfl) | (exfalso; simp_all; done)
          subst hz9
          exact Z.eq rfl rfl rfl rfl (hR _ _ d_Bt_takesValues_77)
      · refine z_callV (q0 := 1) (ci := 6) (w' := [(d0, .inr (0, [.ref s0, .ref t0, .ref x0, .ref u0])), (s0, .inr (6, [.ref s1, .int (iI ((sn : Nat) : Int)), .int (iI (((tvP sn sf sp) : Nat) : Int))])), (s1, .inl ((g.2.1 0), 200, .inl sf)), (t0, .inr (7, [.ref t1, .ref t2, .ref t3, .ref t4, .int (iI ((tn : Nat) : Int))])), (t1, .inl ((g.2.1 0), 40, .inl (q1 nd))), (t2, .inl ((g.2.1 0), 40, .inl (q2 nd))), (t3, .inl ((g.2.1 0), 40, .inl (q3 nd))), (t4, .inl ((g.2.1 0), 40, .inl (q4 nd))), (x0, .inr (3, [.ref x1, .ref x2, .ref x3, .ref x4, .int (iI ((xc : Nat) : Int))])), (x1, .inl ((g.2.1 0), 64, .inl xl)), (x2, .inl ((g.2.1 0), 8, .inl (nF xn))), (x3, .inl ((g.2.1 2), 8, .inl (bF xo))), (x4, .inl ((g.2.1 0), 9, .inl (nF ch))), (u0, .inr (8, [.ref u1, .int (iI ((un : Nat) : Int))])), (u1, .inl ((g.2.1 0), 200, .inl uf))]) (st1 := [.int (iI (bI false))]) hC (k_So_take_F l g s0 s1 sn (tvP sn sf sp) sf (iI ((46 : Nat) : Int)) hsn (by omega) (by omega)) mw_444 zv_So_take rfl rfl ⟨Nat.le_of_ble_eq_true rfl, Nat.le_of_ble_eq_true rfl⟩ [1, 2] rfl rfl rfl rfl rfl rfl rfl rfl (Nat.le_of_ble_eq_true rfl) d_Bt_takesValues_45 rfl ⟨Nat.zero_le _, Nat.zero_le _⟩ rfl ?_
        refine z_ifeqB (tgt := 78) hC d_Bt_takesValues_48 rfl (fun c_13 => ?_) (fun c_13 => Bool.noConfusion c_13)
        refine z_aload_n hC d_Bt_takesValues_78 rfl 1 rfl ?_
        refine z_get hC hi_Bt 0 rfl rfl 1 (by decide) mw_162 (Or.inr mw_163) rfl d_Bt_takesValues_79 ?_
        refine z_iconstN hC 0 d_Bt_takesValues_82 rfl ?_
        refine z_iload_n hC d_Bt_takesValues_83 rfl 2 rfl ?_
        refine z_iload_n hC d_Bt_takesValues_84 rfl 0 rfl ?_
        refine z_iconst hC d_Bt_takesValues_85 ?_
        by_cases c_14 : tn < 40
        · refine z_callV (q0 := 3) (ci := 7) (w' := [(d0, .inr (0, [.ref s0, .ref t0, .ref x0, .ref u0])), (s0, .inr (6, [.ref s1, .int (iI ((sn : Nat) : Int)), .int (iI (((tvP sn sf sp) : Nat) : Int))])), (s1, .inl ((g.2.1 0), 200, .inl sf)), (t0, .inr (7, [.ref t1, .ref t2, .ref t3, .ref t4, .int (iI ((tn + 1 : Nat) : Int))])), (t1, .inl ((g.2.1 0), 40, .inl (q1 (up nd tn ((iI ((0 : Nat) : Int)), (iI ix), (iI (tvR sn sf sp)), (iI (-1))))))), (t2, .inl ((g.2.1 0), 40, .inl (q2 (up nd tn ((iI ((0 : Nat) : Int)), (iI ix), (iI (tvR sn sf sp)), (iI (-1))))))), (t3, .inl ((g.2.1 0), 40, .inl (q3 (up nd tn ((iI ((0 : Nat) : Int)), (iI ix), (iI (tvR sn sf sp)), (iI (-1))))))), (t4, .inl ((g.2.1 0), 40, .inl (q4 (up nd tn ((iI ((0 : Nat) : Int)), (iI ix), (iI (tvR sn sf sp)), (iI (-1))))))), (x0, .inr (3, [.ref x1, .ref x2, .ref x3, .ref x4, .int (iI ((xc : Nat) : Int))])), (x1, .inl ((g.2.1 0), 64, .inl xl)), (x2, .inl ((g.2.1 0), 8, .inl (nF xn))), (x3, .inl ((g.2.1 2), 8, .inl (bF xo))), (x4, .inl ((g.2.1 0), 9, .inl (nF ch))), (u0, .inr (8, [.ref u1, .int (iI ((un : Nat) : Int))])), (u1, .inl ((g.2.1 0), 200, .inl uf))]) (st1 := [.int (iI (bI true))]) hC (k_Tr_append_T l g t0 t1 t2 t3 t4 tn nd (iI ((0 : Nat) : Int)) (iI ix) (iI (tvR sn sf sp)) (iI (-1)) htn (by omega)) mw_480 zv_Tr_append rfl rfl ⟨Nat.le_of_ble_eq_true rfl, Nat.le_of_ble_eq_true rfl⟩ [3, 4, 5, 6, 7] rfl rfl rfl rfl rfl rfl rfl rfl (Nat.le_of_ble_eq_true rfl) d_Bt_takesValues_86 rfl ⟨Nat.zero_le _, Nat.zero_le _⟩ rfl ?_
          have hz9 : w = (true, ((tvP sn sf sp), tn + 1, (up nd tn ((iI ((0 : Nat) : Int)), (iI ix), (iI (tvR sn sf sp)), (iI (-1)))), un, uf)) := by rw [hw]; unfold tkV apB; dsimp only; skip; (repeat' split) <;> first | rfl | exact Prod.ext (by assumption) rfl | (exfalso; omega) | (exfalso; contradiction) | (subst_vars; rfl) | (exfalso; simp_all; done)
          subst hz9
          exact Z.eq rfl rfl rfl rfl (hR _ _ d_Bt_takesValues_89)
        · refine z_callV (q0 := 3) (ci := 7) (w' := [(d0, .inr (0, [.ref s0, .ref t0, .ref x0, .ref u0])), (s0, .inr (6, [.ref s1, .int (iI ((sn : Nat) : Int)), .int (iI (((tvP sn sf sp) : Nat) : Int))])), (s1, .inl ((g.2.1 0), 200, .inl sf)), (t0, .inr (7, [.ref t1, .ref t2, .ref t3, .ref t4, .int (iI ((tn : Nat) : Int))])), (t1, .inl ((g.2.1 0), 40, .inl (q1 nd))), (t2, .inl ((g.2.1 0), 40, .inl (q2 nd))), (t3, .inl ((g.2.1 0), 40, .inl (q3 nd))), (t4, .inl ((g.2.1 0), 40, .inl (q4 nd))), (x0, .inr (3, [.ref x1, .ref x2, .ref x3, .ref x4, .int (iI ((xc : Nat) : Int))])), (x1, .inl ((g.2.1 0), 64, .inl xl)), (x2, .inl ((g.2.1 0), 8, .inl (nF xn))), (x3, .inl ((g.2.1 2), 8, .inl (bF xo))), (x4, .inl ((g.2.1 0), 9, .inl (nF ch))), (u0, .inr (8, [.ref u1, .int (iI ((un : Nat) : Int))])), (u1, .inl ((g.2.1 0), 200, .inl uf))]) (st1 := [.int (iI (bI false))]) hC (k_Tr_append_F l g t0 t1 t2 t3 t4 tn nd (iI ((0 : Nat) : Int)) (iI ix) (iI (tvR sn sf sp)) (iI (-1)) htn (by omega)) mw_480 zv_Tr_append rfl rfl ⟨Nat.le_of_ble_eq_true rfl, Nat.le_of_ble_eq_true rfl⟩ [3, 4, 5, 6, 7] rfl rfl rfl rfl rfl rfl rfl rfl (Nat.le_of_ble_eq_true rfl) d_Bt_takesValues_86 rfl ⟨Nat.zero_le _, Nat.zero_le _⟩ rfl ?_
          have hz9 : w = (false, ((tvP sn sf sp), tn, nd, un, uf)) := by rw [hw]; unfold tkV apB; dsimp only; skip; (repeat' split) <;> first | rfl | exact Prod.ext (by assumption) rfl | (exfalso; omega) | (exfalso; contradiction) | (subst_vars; rfl) | (exfalso; simp_all; done)
          subst hz9
          exact Z.eq rfl rfl rfl rfl (hR _ _ d_Bt_takesValues_89)
  · refine z_iconstN hC 0 d_Bt_takesValues_13 rfl ?_
    have hz9 : w = (false, (tvP sn sf sp, tn, nd, un, uf)) := by rw [hw]; unfold tkV apB; dsimp only; skip; (repeat' split) <;> first | rfl | exact Prod.ext (by assumption) rfl | (exfalso; omega) | (exfalso; contradiction) | (subst_vars; rfl) | (exfalso; simp_all; done)
    subst hz9
    exact Z.eq rfl rfl rfl rfl (hR _ _ d_Bt_takesValues_14)
set_option maxHeartbeats 4000000 in
set_option maxRecDepth 100000 in
theorem k_Bt_takeJoint (l : Launch) (g : ZG) (d0 s0 s1 sn sp : Nat) (sf : Nat → Int32) (t0 t1 t2 t3 t4 tn : Nat) (nd : Nat → QD) (x0 x1 x2 x3 x4 xc : Nat) (xl : Nat → Int32) (xn : Nat → Nat) (xo : Nat → Bool) (ch : Nat → Nat) (u0 u1 un : Nat) (uf : Nat → Int32) (lo la : Nat) (hsn : sn ≤ 200) (hsp : sp ≤ sn) (htn : tn ≤ 40) (hxc : xc ≤ 8) (hxn : ∀ j, j < xc → xn j ≤ 8) (hlo : lo ≤ tn) (hla : la ≤ tn)  (w : Int × RS) (hw : w = bJt sn sf (sp, tn, nd, un, uf) lo la) : Ct l g y_Bt_takeJoint c_Bt_takeJoint 5 (some .int) { frames := 6, cells := 0, slots := 0, locals := 129 } [.ref d0, .int (iI ((lo : Nat) : Int)), .int (iI ((la : Nat) : Int))] [(d0, .inr (0, [.ref s0, .ref t0, .ref x0, .ref u0])), (s0, .inr (6, [.ref s1, .int (iI ((sn : Nat) : Int)), .int (iI ((sp : Nat) : Int))])), (s1, .inl ((g.2.1 0), 200, .inl sf)), (t0, .inr (7, [.ref t1, .ref t2, .ref t3, .ref t4, .int (iI ((tn : Nat) : Int))])), (t1, .inl ((g.2.1 0), 40, .inl (q1 nd))), (t2, .inl ((g.2.1 0), 40, .inl (q2 nd))), (t3, .inl ((g.2.1 0), 40, .inl (q3 nd))), (t4, .inl ((g.2.1 0), 40, .inl (q4 nd))), (x0, .inr (3, [.ref x1, .ref x2, .ref x3, .ref x4, .int (iI ((xc : Nat) : Int))])), (x1, .inl ((g.2.1 0), 64, .inl xl)), (x2, .inl ((g.2.1 0), 8, .inl (nF xn))), (x3, .inl ((g.2.1 2), 8, .inl (bF xo))), (x4, .inl ((g.2.1 0), 9, .inl (nF ch))), (u0, .inr (8, [.ref u1, .int (iI ((un : Nat) : Int))])), (u1, .inl ((g.2.1 0), 200, .inl uf))] (some (.int (iI w.1))) [(d0, .inr (0, [.ref s0, .ref t0, .ref x0, .ref u0])), (s0, .inr (6, [.ref s1, .int (iI ((sn : Nat) : Int)), .int (iI ((w.2.1 : Nat) : Int))])), (s1, .inl ((g.2.1 0), 200, .inl sf)), (t0, .inr (7, [.ref t1, .ref t2, .ref t3, .ref t4, .int (iI ((w.2.2.1 : Nat) : Int))])), (t1, .inl ((g.2.1 0), 40, .inl (q1 w.2.2.2.1))), (t2, .inl ((g.2.1 0), 40, .inl (q2 w.2.2.2.1))), (t3, .inl ((g.2.1 0), 40, .inl (q3 w.2.2.2.1))), (t4, .inl ((g.2.1 0), 40, .inl (q4 w.2.2.2.1))), (x0, .inr (3, [.ref x1, .ref x2, .ref x3, .ref x4, .int (iI ((xc : Nat) : Int))])), (x1, .inl ((g.2.1 0), 64, .inl xl)), (x2, .inl ((g.2.1 0), 8, .inl (nF xn))), (x3, .inl ((g.2.1 2), 8, .inl (bF xo))), (x4, .inl ((g.2.1 0), 9, .inl (nF ch))), (u0, .inr (8, [.ref u1, .int (iI ((w.2.2.2.2.1 : Nat) : Int))])), (u1, .inl ((g.2.1 0), 200, .inl w.2.2.2.2.2))] := by
  refine ct_i (lv := [(0, .ref d0), (1, .int (iI ((lo : Nat) : Int))), (2, .int (iI ((la : Nat) : Int)))]) (by decide) rfl (Nat.le_of_ble_eq_true rfl) rfl ?_
  intro x hC hR
  have hr9 := rowE_rng sn sf (sn - sp) sp
  have hj9 := jS_rng sn sf sp (rowE sn sf (sn - sp) sp)
  refine z_aload_n hC d_Bt_takeJoint_0 rfl 0 rfl ?_
  refine z_get hC hi_Bt 0 rfl rfl 0 (by decide) mw_159 (Or.inr mw_160) rfl d_Bt_takeJoint_1 ?_
  refine z_callV (q0 := 1) (ci := 6) (w' := [(d0, .inr (0, [.ref s0, .ref t0, .ref x0, .ref u0])), (s0, .inr (6, [.ref s1, .int (iI ((sn : Nat) : Int)), .int (iI ((sp : Nat) : Int))])), (s1, .inl ((g.2.1 0), 200, .inl sf)), (t0, .inr (7, [.ref t1, .ref t2, .ref t3, .ref t4, .int (iI ((tn : Nat) : Int))])), (t1, .inl ((g.2.1 0), 40, .inl (q1 nd))), (t2, .inl ((g.2.1 0), 40, .inl (q2 nd))), (t3, .inl ((g.2.1 0), 40, .inl (q3 nd))), (t4, .inl ((g.2.1 0), 40, .inl (q4 nd))), (x0, .inr (3, [.ref x1, .ref x2, .ref x3, .ref x4, .int (iI ((xc : Nat) : Int))])), (x1, .inl ((g.2.1 0), 64, .inl xl)), (x2, .inl ((g.2.1 0), 8, .inl (nF xn))), (x3, .inl ((g.2.1 2), 8, .inl (bF xo))), (x4, .inl ((g.2.1 0), 9, .inl (nF ch))), (u0, .inr (8, [.ref u1, .int (iI ((un : Nat) : Int))])), (u1, .inl ((g.2.1 0), 200, .inl uf))]) (st1 := [.int (iI ((rowE sn sf (sn - sp) sp : Nat) : Int))]) hC (k_So_rowEnd l g s0 s1 sn sp sf hsn hsp) mw_505 zv_So_rowEnd rfl rfl ⟨Nat.le_of_ble_eq_true rfl, Nat.le_of_ble_eq_true rfl⟩ [1, 2] rfl rfl rfl rfl rfl rfl rfl rfl (Nat.le_of_ble_eq_true rfl) d_Bt_takeJoint_4 rfl ⟨Nat.zero_le _, Nat.zero_le _⟩ rfl ?_
  refine z_istore_n (lv' := [(3, .int (iI ((rowE sn sf (sn - sp) sp : Nat) : Int))), (0, .ref d0), (1, .int (iI ((lo : Nat) : Int))), (2, .int (iI ((la : Nat) : Int)))]) hC d_Bt_takeJoint_7 rfl (by decide) rfl ?_
  refine z_aload_n hC d_Bt_takeJoint_8 rfl 1 rfl ?_
  refine z_get hC hi_Bt 0 rfl rfl 0 (by decide) mw_159 (Or.inr mw_160) rfl d_Bt_takeJoint_9 ?_
  refine z_iload_n hC d_Bt_takeJoint_12 rfl 0 rfl ?_
  refine z_callV (q0 := 1) (ci := 6) (w' := [(d0, .inr (0, [.ref s0, .ref t0, .ref x0, .ref u0])), (s0, .inr (6, [.ref s1, .int (iI ((sn : Nat) : Int)), .int (iI ((sp : Nat) : Int))])), (s1, .inl ((g.2.1 0), 200, .inl sf)), (t0, .inr (7, [.ref t1, .ref t2, .ref t3, .ref t4, .int (iI ((tn : Nat) : Int))])), (t1, .inl ((g.2.1 0), 40, .inl (q1 nd))), (t2, .inl ((g.2.1 0), 40, .inl (q2 nd))), (t3, .inl ((g.2.1 0), 40, .inl (q3 nd))), (t4, .inl ((g.2.1 0), 40, .inl (q4 nd))), (x0, .inr (3, [.ref x1, .ref x2, .ref x3, .ref x4, .int (iI ((xc : Nat) : Int))])), (x1, .inl ((g.2.1 0), 64, .inl xl)), (x2, .inl ((g.2.1 0), 8, .inl (nF xn))), (x3, .inl ((g.2.1 2), 8, .inl (bF xo))), (x4, .inl ((g.2.1 0), 9, .inl (nF ch))), (u0, .inr (8, [.ref u1, .int (iI ((un : Nat) : Int))])), (u1, .inl ((g.2.1 0), 200, .inl uf))]) (st1 := [.int (iI (jS sn sf sp (rowE sn sf (sn - sp) sp)))]) hC (k_So_joiningSort l g s0 s1 sn sp sf (rowE sn sf (sn - sp) sp) hsn hsp (by omega) (by omega)) mw_506 zv_So_joiningSort rfl rfl ⟨Nat.le_of_ble_eq_true rfl, Nat.le_of_ble_eq_true rfl⟩ [1, 2] rfl rfl rfl rfl rfl rfl rfl rfl (Nat.le_of_ble_eq_true rfl) d_Bt_takeJoint_13 rfl ⟨Nat.zero_le _, Nat.zero_le _⟩ rfl ?_
  refine z_istore (lv' := [(4, .int (iI (jS sn sf sp (rowE sn sf (sn - sp) sp)))), (3, .int (iI ((rowE sn sf (sn - sp) sp : Nat) : Int))), (0, .ref d0), (1, .int (iI ((lo : Nat) : Int))), (2, .int (iI ((la : Nat) : Int)))]) hC d_Bt_takeJoint_16 (by decide) rfl ?_
  refine z_iload hC d_Bt_takeJoint_18 0 rfl ?_
  refine z_iconst hC d_Bt_takeJoint_20 ?_
  refine z_icmp_eq (tgt := 47) hC (jS sn sf sp (rowE sn sf (sn - sp) sp)) (-1) d_Bt_takeJoint_21 rfl (iI_t (by omega)) (iI_t (by omega)) (fun c_1 => ?_) (fun c_1 => ?_)
  · refine z_iconst hC d_Bt_takeJoint_47 ?_
    have hz9 : w = (-1, (sp, tn, nd, un, uf)) := by rw [hw]; unfold bJt; dsimp only; skip; (repeat' split) <;> first | rfl | exact Prod.ext (by assumption) rfl | (exfalso; omega) | (exfalso; contradiction) | (subst_vars; rfl) | (exfalso; simp_all; done)
    subst hz9
    exact Z.eq rfl rfl rfl rfl (hR _ _ d_Bt_takeJoint_48)
  · refine z_aload_n hC d_Bt_takeJoint_24 rfl 2 rfl ?_
    refine z_get hC hi_Bt 0 rfl rfl 1 (by decide) mw_162 (Or.inr mw_163) rfl d_Bt_takeJoint_25 ?_
    refine z_iload hC d_Bt_takeJoint_28 0 rfl ?_
    refine z_iconstN hC 3 d_Bt_takeJoint_30 rfl ?_
    refine z_icmp_ne (tgt := 38) hC (jS sn sf sp (rowE sn sf (sn - sp) sp)) ((3 : Nat) : Int) d_Bt_takeJoint_31 rfl (iI_t (by omega)) (iI_t (by omega)) (fun c_2 => ?_) (fun c_2 => ?_)
    · refine z_iload_n hC d_Bt_takeJoint_38 rfl 3 rfl ?_
      refine z_iload hC d_Bt_takeJoint_39 0 rfl ?_
      by_cases c_3 : tn < 40
      · refine z_callV (q0 := 3) (ci := 7) (w' := [(d0, .inr (0, [.ref s0, .ref t0, .ref x0, .ref u0])), (s0, .inr (6, [.ref s1, .int (iI ((sn : Nat) : Int)), .int (iI ((sp : Nat) : Int))])), (s1, .inl ((g.2.1 0), 200, .inl sf)), (t0, .inr (7, [.ref t1, .ref t2, .ref t3, .ref t4, .int (iI ((tn + 1 : Nat) : Int))])), (t1, .inl ((g.2.1 0), 40, .inl (q1 (insN nd tn lo ((iI (jS sn sf sp (rowE sn sf (sn - sp) sp))), iI (-1), iI (-1), iI (-1)))))), (t2, .inl ((g.2.1 0), 40, .inl (q2 (insN nd tn lo ((iI (jS sn sf sp (rowE sn sf (sn - sp) sp))), iI (-1), iI (-1), iI (-1)))))), (t3, .inl ((g.2.1 0), 40, .inl (q3 (insN nd tn lo ((iI (jS sn sf sp (rowE sn sf (sn - sp) sp))), iI (-1), iI (-1), iI (-1)))))), (t4, .inl ((g.2.1 0), 40, .inl (q4 (insN nd tn lo ((iI (jS sn sf sp (rowE sn sf (sn - sp) sp))), iI (-1), iI (-1), iI (-1)))))), (x0, .inr (3, [.ref x1, .ref x2, .ref x3, .ref x4, .int (iI ((xc : Nat) : Int))])), (x1, .inl ((g.2.1 0), 64, .inl xl)), (x2, .inl ((g.2.1 0), 8, .inl (nF xn))), (x3, .inl ((g.2.1 2), 8, .inl (bF xo))), (x4, .inl ((g.2.1 0), 9, .inl (nF ch))), (u0, .inr (8, [.ref u1, .int (iI ((un : Nat) : Int))])), (u1, .inl ((g.2.1 0), 200, .inl uf))]) (st1 := [.int (iI (bI true))]) hC (k_Tr_insert_T l g t0 t1 t2 t3 t4 tn nd lo (iI (jS sn sf sp (rowE sn sf (sn - sp) sp))) htn hlo (by omega)) mw_507 zv_Tr_insert rfl rfl ⟨Nat.le_of_ble_eq_true rfl, Nat.le_of_ble_eq_true rfl⟩ [3, 4, 5, 6, 7] rfl rfl rfl rfl rfl rfl rfl rfl (Nat.le_of_ble_eq_true rfl) d_Bt_takeJoint_41 rfl ⟨Nat.zero_le _, Nat.zero_le _⟩ rfl ?_
        refine z_ifneB (tgt := 49) hC d_Bt_takeJoint_44 rfl (fun c_4 => ?_) (fun c_4 => Bool.noConfusion c_4)
        refine z_aload_n hC d_Bt_takeJoint_49 rfl 2 rfl ?_
        refine z_get hC hi_Bt 0 rfl rfl 0 (by decide) mw_159 (Or.inr mw_160) rfl d_Bt_takeJoint_50 ?_
        refine z_iload_n hC d_Bt_takeJoint_53 rfl 1 rfl ?_
        refine z_callV (q0 := 1) (ci := 6) (w' := [(d0, .inr (0, [.ref s0, .ref t0, .ref x0, .ref u0])), (s0, .inr (6, [.ref s1, .int (iI ((sn : Nat) : Int)), .int (iI (((rowE sn sf (sn - sp) sp) : Nat) : Int))])), (s1, .inl ((g.2.1 0), 200, .inl sf)), (t0, .inr (7, [.ref t1, .ref t2, .ref t3, .ref t4, .int (iI ((tn + 1 : Nat) : Int))])), (t1, .inl ((g.2.1 0), 40, .inl (q1 (insN nd tn lo ((iI (jS sn sf sp (rowE sn sf (sn - sp) sp))), iI (-1), iI (-1), iI (-1)))))), (t2, .inl ((g.2.1 0), 40, .inl (q2 (insN nd tn lo ((iI (jS sn sf sp (rowE sn sf (sn - sp) sp))), iI (-1), iI (-1), iI (-1)))))), (t3, .inl ((g.2.1 0), 40, .inl (q3 (insN nd tn lo ((iI (jS sn sf sp (rowE sn sf (sn - sp) sp))), iI (-1), iI (-1), iI (-1)))))), (t4, .inl ((g.2.1 0), 40, .inl (q4 (insN nd tn lo ((iI (jS sn sf sp (rowE sn sf (sn - sp) sp))), iI (-1), iI (-1), iI (-1)))))), (x0, .inr (3, [.ref x1, .ref x2, .ref x3, .ref x4, .int (iI ((xc : Nat) : Int))])), (x1, .inl ((g.2.1 0), 64, .inl xl)), (x2, .inl ((g.2.1 0), 8, .inl (nF xn))), (x3, .inl ((g.2.1 2), 8, .inl (bF xo))), (x4, .inl ((g.2.1 0), 9, .inl (nF ch))), (u0, .inr (8, [.ref u1, .int (iI ((un : Nat) : Int))])), (u1, .inl ((g.2.1 0), 200, .inl uf))]) (st1 := []) hC (k_So_moveTo l g s0 s1 sn sp sf (rowE sn sf (sn - sp) sp)) mw_531 zv_So_moveTo rfl rfl ⟨Nat.le_of_ble_eq_true rfl, Nat.le_of_ble_eq_true rfl⟩ [1, 2] rfl rfl rfl rfl rfl rfl rfl rfl (Nat.le_of_ble_eq_true rfl) d_Bt_takeJoint_54 rfl ⟨Nat.zero_le _, Nat.zero_le _⟩ rfl ?_
        refine z_aload_n hC d_Bt_takeJoint_57 rfl 2 rfl ?_
        refine z_get hC hi_Bt 0 rfl rfl 0 (by decide) mw_159 (Or.inr mw_160) rfl d_Bt_takeJoint_58 ?_
        refine z_bipush (a := ((32 : Nat) : Int)) hC d_Bt_takeJoint_61 (by decide) ?_
        by_cases c_5 : sN sn sf (rowE sn sf (sn - sp) sp) = (iI ((32 : Nat) : Int))
        · refine z_callV (q0 := 1) (ci := 6) (w' := [(d0, .inr (0, [.ref s0, .ref t0, .ref x0, .ref u0])), (s0, .inr (6, [.ref s1, .int (iI ((sn : Nat) : Int)), .int (iI (((rowE sn sf (sn - sp) sp) + 1 : Nat) : Int))])), (s1, .inl ((g.2.1 0), 200, .inl sf)), (t0, .inr (7, [.ref t1, .ref t2, .ref t3, .ref t4, .int (iI ((tn + 1 : Nat) : Int))])), (t1, .inl ((g.2.1 0), 40, .inl (q1 (insN nd tn lo ((iI (jS sn sf sp (rowE sn sf (sn - sp) sp))), iI (-1), iI (-1), iI (-1)))))), (t2, .inl ((g.2.1 0), 40, .inl (q2 (insN nd tn lo ((iI (jS sn sf sp (rowE sn sf (sn - sp) sp))), iI (-1), iI (-1), iI (-1)))))), (t3, .inl ((g.2.1 0), 40, .inl (q3 (insN nd tn lo ((iI (jS sn sf sp (rowE sn sf (sn - sp) sp))), iI (-1), iI (-1), iI (-1)))))), (t4, .inl ((g.2.1 0), 40, .inl (q4 (insN nd tn lo ((iI (jS sn sf sp (rowE sn sf (sn - sp) sp))), iI (-1), iI (-1), iI (-1)))))), (x0, .inr (3, [.ref x1, .ref x2, .ref x3, .ref x4, .int (iI ((xc : Nat) : Int))])), (x1, .inl ((g.2.1 0), 64, .inl xl)), (x2, .inl ((g.2.1 0), 8, .inl (nF xn))), (x3, .inl ((g.2.1 2), 8, .inl (bF xo))), (x4, .inl ((g.2.1 0), 9, .inl (nF ch))), (u0, .inr (8, [.ref u1, .int (iI ((un : Nat) : Int))])), (u1, .inl ((g.2.1 0), 200, .inl uf))]) (st1 := [.int (iI (bI true))]) hC (k_So_take_T l g s0 s1 sn (rowE sn sf (sn - sp) sp) sf (iI ((32 : Nat) : Int)) hsn (by omega) (by omega)) mw_444 zv_So_take rfl rfl ⟨Nat.le_of_ble_eq_true rfl, Nat.le_of_ble_eq_true rfl⟩ [1, 2] rfl rfl rfl rfl rfl rfl rfl rfl (Nat.le_of_ble_eq_true rfl) d_Bt_takeJoint_63 rfl ⟨Nat.zero_le _, Nat.zero_le _⟩ rfl ?_
          refine z_ifeqB (tgt := 74) hC d_Bt_takeJoint_66 rfl (fun c_6 => Bool.noConfusion c_6) (fun c_6 => ?_)
          refine z_iload hC d_Bt_takeJoint_69 0 rfl ?_
          refine z_goto (tgt := 75) hC d_Bt_takeJoint_71 rfl ?_
          have hz9 : w = (jS sn sf sp (rowE sn sf (sn - sp) sp), ((rowE sn sf (sn - sp) sp) + 1, tn + 1, (insN nd tn lo ((iI (jS sn sf sp (rowE sn sf (sn - sp) sp))), iI (-1), iI (-1), iI (-1))), un, uf)) := by rw [hw]; unfold bJt; dsimp only; skip; (repeat' split) <;> first | rfl | exact Prod.ext (by assumption) rfl | (exfalso; omega) | (exfalso; contradiction) | (subst_vars; rfl) | (exfalso; simp_all; done)
          subst hz9
          exact Z.eq rfl rfl rfl rfl (hR _ _ d_Bt_takeJoint_75)
        · refine z_callV (q0 := 1) (ci := 6) (w' := [(d0, .inr (0, [.ref s0, .ref t0, .ref x0, .ref u0])), (s0, .inr (6, [.ref s1, .int (iI ((sn : Nat) : Int)), .int (iI (((rowE sn sf (sn - sp) sp) : Nat) : Int))])), (s1, .inl ((g.2.1 0), 200, .inl sf)), (t0, .inr (7, [.ref t1, .ref t2, .ref t3, .ref t4, .int (iI ((tn + 1 : Nat) : Int))])), (t1, .inl ((g.2.1 0), 40, .inl (q1 (insN nd tn lo ((iI (jS sn sf sp (rowE sn sf (sn - sp) sp))), iI (-1), iI (-1), iI (-1)))))), (t2, .inl ((g.2.1 0), 40, .inl (q2 (insN nd tn lo ((iI (jS sn sf sp (rowE sn sf (sn - sp) sp))), iI (-1), iI (-1), iI (-1)))))), (t3, .inl ((g.2.1 0), 40, .inl (q3 (insN nd tn lo ((iI (jS sn sf sp (rowE sn sf (sn - sp) sp))), iI (-1), iI (-1), iI (-1)))))), (t4, .inl ((g.2.1 0), 40, .inl (q4 (insN nd tn lo ((iI (jS sn sf sp (rowE sn sf (sn - sp) sp))), iI (-1), iI (-1), iI (-1)))))), (x0, .inr (3, [.ref x1, .ref x2, .ref x3, .ref x4, .int (iI ((xc : Nat) : Int))])), (x1, .inl ((g.2.1 0), 64, .inl xl)), (x2, .inl ((g.2.1 0), 8, .inl (nF xn))), (x3, .inl ((g.2.1 2), 8, .inl (bF xo))), (x4, .inl ((g.2.1 0), 9, .inl (nF ch))), (u0, .inr (8, [.ref u1, .int (iI ((un : Nat) : Int))])), (u1, .inl ((g.2.1 0), 200, .inl uf))]) (st1 := [.int (iI (bI false))]) hC (k_So_take_F l g s0 s1 sn (rowE sn sf (sn - sp) sp) sf (iI ((32 : Nat) : Int)) hsn (by omega) (by omega)) mw_444 zv_So_take rfl rfl ⟨Nat.le_of_ble_eq_true rfl, Nat.le_of_ble_eq_true rfl⟩ [1, 2] rfl rfl rfl rfl rfl rfl rfl rfl (Nat.le_of_ble_eq_true rfl) d_Bt_takeJoint_63 rfl ⟨Nat.zero_le _, Nat.zero_le _⟩ rfl ?_
          refine z_ifeqB (tgt := 74) hC d_Bt_takeJoint_66 rfl (fun c_7 => ?_) (fun c_7 => Bool.noConfusion c_7)
          refine z_iconst hC d_Bt_takeJoint_74 ?_
          have hz9 : w = (-1, ((rowE sn sf (sn - sp) sp), tn + 1, (insN nd tn lo ((iI (jS sn sf sp (rowE sn sf (sn - sp) sp))), iI (-1), iI (-1), iI (-1))), un, uf)) := by rw [hw]; unfold bJt; dsimp only; skip; (repeat' split) <;> first | rfl | exact Prod.ext (by assumption) rfl | (exfalso; omega) | (exfalso; contradiction) | (subst_vars; rfl) | (exfalso; simp_all; done)
          subst hz9
          exact Z.eq rfl rfl rfl rfl (hR _ _ d_Bt_takeJoint_75)
      · refine z_callV (q0 := 3) (ci := 7) (w' := [(d0, .inr (0, [.ref s0, .ref t0, .ref x0, .ref u0])), (s0, .inr (6, [.ref s1, .int (iI ((sn : Nat) : Int)), .int (iI ((sp : Nat) : Int))])), (s1, .inl ((g.2.1 0), 200, .inl sf)), (t0, .inr (7, [.ref t1, .ref t2, .ref t3, .ref t4, .int (iI ((tn : Nat) : Int))])), (t1, .inl ((g.2.1 0), 40, .inl (q1 nd))), (t2, .inl ((g.2.1 0), 40, .inl (q2 nd))), (t3, .inl ((g.2.1 0), 40, .inl (q3 nd))), (t4, .inl ((g.2.1 0), 40, .inl (q4 nd))), (x0, .inr (3, [.ref x1, .ref x2, .ref x3, .ref x4, .int (iI ((xc : Nat) : Int))])), (x1, .inl ((g.2.1 0), 64, .inl xl)), (x2, .inl ((g.2.1 0), 8, .inl (nF xn))), (x3, .inl ((g.2.1 2), 8, .inl (bF xo))), (x4, .inl ((g.2.1 0), 9, .inl (nF ch))), (u0, .inr (8, [.ref u1, .int (iI ((un : Nat) : Int))])), (u1, .inl ((g.2.1 0), 200, .inl uf))]) (st1 := [.int (iI (bI false))]) hC (k_Tr_insert_F l g t0 t1 t2 t3 t4 tn nd lo (iI (jS sn sf sp (rowE sn sf (sn - sp) sp))) htn hlo (by omega)) mw_507 zv_Tr_insert rfl rfl ⟨Nat.le_of_ble_eq_true rfl, Nat.le_of_ble_eq_true rfl⟩ [3, 4, 5, 6, 7] rfl rfl rfl rfl rfl rfl rfl rfl (Nat.le_of_ble_eq_true rfl) d_Bt_takeJoint_41 rfl ⟨Nat.zero_le _, Nat.zero_le _⟩ rfl ?_
        refine z_ifneB (tgt := 49) hC d_Bt_takeJoint_44 rfl (fun c_8 => Bool.noConfusion c_8) (fun c_8 => ?_)
        refine z_iconst hC d_Bt_takeJoint_47 ?_
        have hz9 : w = (-1, (sp, tn, nd, un, uf)) := by rw [hw]; unfold bJt; dsimp only; skip; (repeat' split) <;> first | rfl | exact Prod.ext (by assumption) rfl | (exfalso; omega) | (exfalso; contradiction) | (subst_vars; rfl) | (exfalso; simp_all; done)
        subst hz9
        exact Z.eq rfl rfl rfl rfl (hR _ _ d_Bt_takeJoint_48)
    · refine z_iload_n hC d_Bt_takeJoint_34 rfl 4 rfl ?_
      refine z_goto (tgt := 39) hC d_Bt_takeJoint_35 rfl ?_
      refine z_iload hC d_Bt_takeJoint_39 0 rfl ?_
      by_cases c_9 : tn < 40
      · refine z_callV (q0 := 3) (ci := 7) (w' := [(d0, .inr (0, [.ref s0, .ref t0, .ref x0, .ref u0])), (s0, .inr (6, [.ref s1, .int (iI ((sn : Nat) : Int)), .int (iI ((sp : Nat) : Int))])), (s1, .inl ((g.2.1 0), 200, .inl sf)), (t0, .inr (7, [.ref t1, .ref t2, .ref t3, .ref t4, .int (iI ((tn + 1 : Nat) : Int))])), (t1, .inl ((g.2.1 0), 40, .inl (q1 (insN nd tn la ((iI (jS sn sf sp (rowE sn sf (sn - sp) sp))), iI (-1), iI (-1), iI (-1)))))), (t2, .inl ((g.2.1 0), 40, .inl (q2 (insN nd tn la ((iI (jS sn sf sp (rowE sn sf (sn - sp) sp))), iI (-1), iI (-1), iI (-1)))))), (t3, .inl ((g.2.1 0), 40, .inl (q3 (insN nd tn la ((iI (jS sn sf sp (rowE sn sf (sn - sp) sp))), iI (-1), iI (-1), iI (-1)))))), (t4, .inl ((g.2.1 0), 40, .inl (q4 (insN nd tn la ((iI (jS sn sf sp (rowE sn sf (sn - sp) sp))), iI (-1), iI (-1), iI (-1)))))), (x0, .inr (3, [.ref x1, .ref x2, .ref x3, .ref x4, .int (iI ((xc : Nat) : Int))])), (x1, .inl ((g.2.1 0), 64, .inl xl)), (x2, .inl ((g.2.1 0), 8, .inl (nF xn))), (x3, .inl ((g.2.1 2), 8, .inl (bF xo))), (x4, .inl ((g.2.1 0), 9, .inl (nF ch))), (u0, .inr (8, [.ref u1, .int (iI ((un : Nat) : Int))])), (u1, .inl ((g.2.1 0), 200, .inl uf))]) (st1 := [.int (iI (bI true))]) hC (k_Tr_insert_T l g t0 t1 t2 t3 t4 tn nd la (iI (jS sn sf sp (rowE sn sf (sn - sp) sp))) htn hla (by omega)) mw_507 zv_Tr_insert rfl rfl ⟨Nat.le_of_ble_eq_true rfl, Nat.le_of_ble_eq_true rfl⟩ [3, 4, 5, 6, 7] rfl rfl rfl rfl rfl rfl rfl rfl (Nat.le_of_ble_eq_true rfl) d_Bt_takeJoint_41 rfl ⟨Nat.zero_le _, Nat.zero_le _⟩ rfl ?_
        refine z_ifneB (tgt := 49) hC d_Bt_takeJoint_44 rfl (fun c_10 => ?_) (fun c_10 => Bool.noConfusion c_10)
        refine z_aload_n hC d_Bt_takeJoint_49 rfl 2 rfl ?_
        refine z_get hC hi_Bt 0 rfl rfl 0 (by decide) mw_159 (Or.inr mw_160) rfl d_Bt_takeJoint_50 ?_
        refine z_iload_n hC d_Bt_takeJoint_53 rfl 1 rfl ?_
        refine z_callV (q0 := 1) (ci := 6) (w' := [(d0, .inr (0, [.ref s0, .ref t0, .ref x0, .ref u0])), (s0, .inr (6, [.ref s1, .int (iI ((sn : Nat) : Int)), .int (iI (((rowE sn sf (sn - sp) sp) : Nat) : Int))])), (s1, .inl ((g.2.1 0), 200, .inl sf)), (t0, .inr (7, [.ref t1, .ref t2, .ref t3, .ref t4, .int (iI ((tn + 1 : Nat) : Int))])), (t1, .inl ((g.2.1 0), 40, .inl (q1 (insN nd tn la ((iI (jS sn sf sp (rowE sn sf (sn - sp) sp))), iI (-1), iI (-1), iI (-1)))))), (t2, .inl ((g.2.1 0), 40, .inl (q2 (insN nd tn la ((iI (jS sn sf sp (rowE sn sf (sn - sp) sp))), iI (-1), iI (-1), iI (-1)))))), (t3, .inl ((g.2.1 0), 40, .inl (q3 (insN nd tn la ((iI (jS sn sf sp (rowE sn sf (sn - sp) sp))), iI (-1), iI (-1), iI (-1)))))), (t4, .inl ((g.2.1 0), 40, .inl (q4 (insN nd tn la ((iI (jS sn sf sp (rowE sn sf (sn - sp) sp))), iI (-1), iI (-1), iI (-1)))))), (x0, .inr (3, [.ref x1, .ref x2, .ref x3, .ref x4, .int (iI ((xc : Nat) : Int))])), (x1, .inl ((g.2.1 0), 64, .inl xl)), (x2, .inl ((g.2.1 0), 8, .inl (nF xn))), (x3, .inl ((g.2.1 2), 8, .inl (bF xo))), (x4, .inl ((g.2.1 0), 9, .inl (nF ch))), (u0, .inr (8, [.ref u1, .int (iI ((un : Nat) : Int))])), (u1, .inl ((g.2.1 0), 200, .inl uf))]) (st1 := []) hC (k_So_moveTo l g s0 s1 sn sp sf (rowE sn sf (sn - sp) sp)) mw_531 zv_So_moveTo rfl rfl ⟨Nat.le_of_ble_eq_true rfl, Nat.le_of_ble_eq_true rfl⟩ [1, 2] rfl rfl rfl rfl rfl rfl rfl rfl (Nat.le_of_ble_eq_true rfl) d_Bt_takeJoint_54 rfl ⟨Nat.zero_le _, Nat.zero_le _⟩ rfl ?_
        refine z_aload_n hC d_Bt_takeJoint_57 rfl 2 rfl ?_
        refine z_get hC hi_Bt 0 rfl rfl 0 (by decide) mw_159 (Or.inr mw_160) rfl d_Bt_takeJoint_58 ?_
        refine z_bipush (a := ((32 : Nat) : Int)) hC d_Bt_takeJoint_61 (by decide) ?_
        by_cases c_11 : sN sn sf (rowE sn sf (sn - sp) sp) = (iI ((32 : Nat) : Int))
        · refine z_callV (q0 := 1) (ci := 6) (w' := [(d0, .inr (0, [.ref s0, .ref t0, .ref x0, .ref u0])), (s0, .inr (6, [.ref s1, .int (iI ((sn : Nat) : Int)), .int (iI (((rowE sn sf (sn - sp) sp) + 1 : Nat) : Int))])), (s1, .inl ((g.2.1 0), 200, .inl sf)), (t0, .inr (7, [.ref t1, .ref t2, .ref t3, .ref t4, .int (iI ((tn + 1 : Nat) : Int))])), (t1, .inl ((g.2.1 0), 40, .inl (q1 (insN nd tn la ((iI (jS sn sf sp (rowE sn sf (sn - sp) sp))), iI (-1), iI (-1), iI (-1)))))), (t2, .inl ((g.2.1 0), 40, .inl (q2 (insN nd tn la ((iI (jS sn sf sp (rowE sn sf (sn - sp) sp))), iI (-1), iI (-1), iI (-1)))))), (t3, .inl ((g.2.1 0), 40, .inl (q3 (insN nd tn la ((iI (jS sn sf sp (rowE sn sf (sn - sp) sp))), iI (-1), iI (-1), iI (-1)))))), (t4, .inl ((g.2.1 0), 40, .inl (q4 (insN nd tn la ((iI (jS sn sf sp (rowE sn sf (sn - sp) sp))), iI (-1), iI (-1), iI (-1)))))), (x0, .inr (3, [.ref x1, .ref x2, .ref x3, .ref x4, .int (iI ((xc : Nat) : Int))])), (x1, .inl ((g.2.1 0), 64, .inl xl)), (x2, .inl ((g.2.1 0), 8, .inl (nF xn))), (x3, .inl ((g.2.1 2), 8, .inl (bF xo))), (x4, .inl ((g.2.1 0), 9, .inl (nF ch))), (u0, .inr (8, [.ref u1, .int (iI ((un : Nat) : Int))])), (u1, .inl ((g.2.1 0), 200, .inl uf))]) (st1 := [.int (iI (bI true))]) hC (k_So_take_T l g s0 s1 sn (rowE sn sf (sn - sp) sp) sf (iI ((32 : Nat) : Int)) hsn (by omega) (by omega)) mw_444 zv_So_take rfl rfl ⟨Nat.le_of_ble_eq_true rfl, Nat.le_of_ble_eq_true rfl⟩ [1, 2] rfl rfl rfl rfl rfl rfl rfl rfl (Nat.le_of_ble_eq_true rfl) d_Bt_takeJoint_63 rfl ⟨Nat.zero_le _, Nat.zero_le _⟩ rfl ?_
          refine z_ifeqB (tgt := 74) hC d_Bt_takeJoint_66 rfl (fun c_12 => Bool.noConfusion c_12) (fun c_12 => ?_)
          refine z_iload hC d_Bt_takeJoint_69 0 rfl ?_
          refine z_goto (tgt := 75) hC d_Bt_takeJoint_71 rfl ?_
          have hz9 : w = (jS sn sf sp (rowE sn sf (sn - sp) sp), ((rowE sn sf (sn - sp) sp) + 1, tn + 1, (insN nd tn la ((iI (jS sn sf sp (rowE sn sf (sn - sp) sp))), iI (-1), iI (-1), iI (-1))), un, uf)) := by rw [hw]; unfold bJt; dsimp only; skip; (repeat' split) <;> first | rfl | exact Prod.ext (by assumption) rfl | (exfalso; omega) | (exfalso; contradiction) | (subst_vars; rfl) | (exfalso; simp_all; done)
          subst hz9
          exact Z.eq rfl rfl rfl rfl (hR _ _ d_Bt_takeJoint_75)
        · refine z_callV (q0 := 1) (ci := 6) (w' := [(d0, .inr (0, [.ref s0, .ref t0, .ref x0, .ref u0])), (s0, .inr (6, [.ref s1, .int (iI ((sn : Nat) : Int)), .int (iI (((rowE sn sf (sn - sp) sp) : Nat) : Int))])), (s1, .inl ((g.2.1 0), 200, .inl sf)), (t0, .inr (7, [.ref t1, .ref t2, .ref t3, .ref t4, .int (iI ((tn + 1 : Nat) : Int))])), (t1, .inl ((g.2.1 0), 40, .inl (q1 (insN nd tn la ((iI (jS sn sf sp (rowE sn sf (sn - sp) sp))), iI (-1), iI (-1), iI (-1)))))), (t2, .inl ((g.2.1 0), 40, .inl (q2 (insN nd tn la ((iI (jS sn sf sp (rowE sn sf (sn - sp) sp))), iI (-1), iI (-1), iI (-1)))))), (t3, .inl ((g.2.1 0), 40, .inl (q3 (insN nd tn la ((iI (jS sn sf sp (rowE sn sf (sn - sp) sp))), iI (-1), iI (-1), iI (-1)))))), (t4, .inl ((g.2.1 0), 40, .inl (q4 (insN nd tn la ((iI (jS sn sf sp (rowE sn sf (sn - sp) sp))), iI (-1), iI (-1), iI (-1)))))), (x0, .inr (3, [.ref x1, .ref x2, .ref x3, .ref x4, .int (iI ((xc : Nat) : Int))])), (x1, .inl ((g.2.1 0), 64, .inl xl)), (x2, .inl ((g.2.1 0), 8, .inl (nF xn))), (x3, .inl ((g.2.1 2), 8, .inl (bF xo))), (x4, .inl ((g.2.1 0), 9, .inl (nF ch))), (u0, .inr (8, [.ref u1, .int (iI ((un : Nat) : Int))])), (u1, .inl ((g.2.1 0), 200, .inl uf))]) (st1 := [.int (iI (bI false))]) hC (k_So_take_F l g s0 s1 sn (rowE sn sf (sn - sp) sp) sf (iI ((32 : Nat) : Int)) hsn (by omega) (by omega)) mw_444 zv_So_take rfl rfl ⟨Nat.le_of_ble_eq_true rfl, Nat.le_of_ble_eq_true rfl⟩ [1, 2] rfl rfl rfl rfl rfl rfl rfl rfl (Nat.le_of_ble_eq_true rfl) d_Bt_takeJoint_63 rfl ⟨Nat.zero_le _, Nat.zero_le _⟩ rfl ?_
          refine z_ifeqB (tgt := 74) hC d_Bt_takeJoint_66 rfl (fun c_13 => ?_) (fun c_13 => Bool.noConfusion c_13)
          refine z_iconst hC d_Bt_takeJoint_74 ?_
          have hz9 : w = (-1, ((rowE sn sf (sn - sp) sp), tn + 1, (insN nd tn la ((iI (jS sn sf sp (rowE sn sf (sn - sp) sp))), iI (-1), iI (-1), iI (-1))), un, uf)) := by rw [hw]; unfold bJt; dsimp only; skip; (repeat' split) <;> first | rfl | exact Prod.ext (by assumption) rfl | (exfalso; omega) | (exfalso; contradiction) | (subst_vars; rfl) | (exfalso; simp_all; done)
          subst hz9
          exact Z.eq rfl rfl rfl rfl (hR _ _ d_Bt_takeJoint_75)
      · refine z_callV (q0 := 3) (ci := 7) (w' := [(d0, .inr (0, [.ref s0, .ref t0, .ref x0, .ref u0])), (s0, .inr (6, [.ref s1, .int (iI ((sn : Nat) : Int)), .int (iI ((sp : Nat) : Int))])), (s1, .inl ((g.2.1 0), 200, .inl sf)), (t0, .inr (7, [.ref t1, .ref t2, .ref t3, .ref t4, .int (iI ((tn : Nat) : Int))])), (t1, .inl ((g.2.1 0), 40, .inl (q1 nd))), (t2, .inl ((g.2.1 0), 40, .inl (q2 nd))), (t3, .inl ((g.2.1 0), 40, .inl (q3 nd))), (t4, .inl ((g.2.1 0), 40, .inl (q4 nd))), (x0, .inr (3, [.ref x1, .ref x2, .ref x3, .ref x4, .int (iI ((xc : Nat) : Int))])), (x1, .inl ((g.2.1 0), 64, .inl xl)), (x2, .inl ((g.2.1 0), 8, .inl (nF xn))), (x3, .inl ((g.2.1 2), 8, .inl (bF xo))), (x4, .inl ((g.2.1 0), 9, .inl (nF ch))), (u0, .inr (8, [.ref u1, .int (iI ((un : Nat) : Int))])), (u1, .inl ((g.2.1 0), 200, .inl uf))]) (st1 := [.int (iI (bI false))]) hC (k_Tr_insert_F l g t0 t1 t2 t3 t4 tn nd la (iI (jS sn sf sp (rowE sn sf (sn - sp) sp))) htn hla (by omega)) mw_507 zv_Tr_insert rfl rfl ⟨Nat.le_of_ble_eq_true rfl, Nat.le_of_ble_eq_true rfl⟩ [3, 4, 5, 6, 7] rfl rfl rfl rfl rfl rfl rfl rfl (Nat.le_of_ble_eq_true rfl) d_Bt_takeJoint_41 rfl ⟨Nat.zero_le _, Nat.zero_le _⟩ rfl ?_
        refine z_ifneB (tgt := 49) hC d_Bt_takeJoint_44 rfl (fun c_14 => Bool.noConfusion c_14) (fun c_14 => ?_)
        refine z_iconst hC d_Bt_takeJoint_47 ?_
        have hz9 : w = (-1, (sp, tn, nd, un, uf)) := by rw [hw]; unfold bJt; dsimp only; skip; (repeat' split) <;> first | rfl | exact Prod.ext (by assumption) rfl | (exfalso; omega) | (exfalso; contradiction) | (subst_vars; rfl) | (exfalso; simp_all; done)
        subst hz9
        exact Z.eq rfl rfl rfl rfl (hR _ _ d_Bt_takeJoint_48)
