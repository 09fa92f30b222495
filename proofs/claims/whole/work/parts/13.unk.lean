theorem isD_lt {n : Nat} {f : Nat → Int32} {p : Nat} (h : isD (sN n f p) = true) : p < n := by
  rcases Nat.lt_or_ge p n with q | q
  · exact q
  · unfold sN at h
    rw [if_neg (by omega)] at h
    exact absurd h (by decide)
theorem isL_lt {n : Nat} {f : Nat → Int32} {p : Nat} (h : isL (sN n f p) = true) : p < n := by
  rcases Nat.lt_or_ge p n with q | q
  · exact q
  · unfold sN at h
    rw [if_neg (by omega)] at h
    exact absurd h (by decide)
theorem tvL_go {n : Nat} {f : Nat → Int32} {v : Int} {d p : Nat} (hd : d < 5) (h : isD (sN n f p) = true) : tvL n f (5 - (d + 1)) (v * ((10 : Nat) : Int) + (sN n f p).toInt - ((48 : Nat) : Int)) (p + 1) = tvL n f (5 - d) v p := by
  rw [show 5 - d = (5 - (d + 1)) + 1 by omega]
  simp only [tvL]
  rw [if_pos h]
  rfl
theorem tvL_no {n : Nat} {f : Nat → Int32} {v : Int} {k p : Nat} (h : isD (sN n f p) = false) : tvL n f k v p = (v, p) := by
  cases k with
  | zero => rfl
  | succ k =>
    simp only [tvL]
    rw [if_neg (by rw [h]; decide)]
theorem tvL_0 {n : Nat} {f : Nat → Int32} {v : Int} {d p : Nat} (h : 5 ≤ d) : tvL n f (5 - d) v p = (v, p) := by
  rw [show 5 - d = 0 by omega]
  rfl
/-- a value: -1 where there is none -/
def tvR (n : Nat) (f : Nat → Int32) (p : Nat) : Int := if (tvL n f 5 0 p).2 = p ∨ isD (sN n f (tvL n f 5 0 p).2) = true then -1 else (tvL n f 5 0 p).1
def tvP (n : Nat) (f : Nat → Int32) (p : Nat) : Nat := (tvL n f 5 0 p).2
theorem tvR_is {n : Nat} {f : Nat → Int32} {p q : Nat} {v : Int} (h : (v, q) = tvL n f 5 0 p) (hq : ¬ q = p) (hd : isD (sN n f q) = false) : v = tvR n f p := by
  unfold tvR
  rw [← h, if_neg]
  intro c
  rcases c with c | c
  · exact hq c
  · rw [hd] at c; cases c
theorem tvR_no {n : Nat} {f : Nat → Int32} {p q : Nat} {v : Int} (h : (v, q) = tvL n f 5 0 p) (hq : q = p ∨ isD (sN n f q) = true) : (-1 : Int) = tvR n f p := by
  unfold tvR
  rw [← h, if_pos hq]
/-- a row of letters kept -/
def kpF (uf : Nat → Int32) (n : Nat) (f : Nat → Int32) (p e : Nat) : Nat → Int32 := fun k => if k < e - p then sN n f (p + k) else uf k
theorem kp_go {uf h : Nat → Int32} {n : Nat} {f : Nat → Int32} {p i j : Nat} (hi : i = p + j) (hh : ∀ k, h k = if k < j then sN n f (p + k) else uf k) : ∀ k, upd h j (sN n f i) k = if k < j + 1 then sN n f (p + k) else uf k := by
  intro k
  unfold upd
  by_cases e : k = j
  · subst e
    rw [if_pos rfl, if_pos (by omega), hi]
  · rw [if_neg e, hh]
    by_cases c : k < j
    · rw [if_pos c, if_pos (by omega)]
    · rw [if_neg c, if_neg (by omega)]
set_option maxHeartbeats 4000000 in
set_option maxRecDepth 100000 in
theorem k_So_takeValue (l : Launch) (g : ZG) (s0 s1 sn sp : Nat) (sf : Nat → Int32) (hsn : sn ≤ 200) (hsp : sp ≤ sn)   : Ct l g y_So_takeValue c_So_takeValue 3 (some .int) { frames := 1, cells := 0, slots := 0, locals := 21 } [.ref s0] [(s0, .inr (6, [.ref s1, .int (iI ((sn : Nat) : Int)), .int (iI ((sp : Nat) : Int))])), (s1, .inl ((g.2.1 0), 200, .inl sf))] (some (.int (iI (tvR sn sf sp)))) [(s0, .inr (6, [.ref s1, .int (iI ((sn : Nat) : Int)), .int (iI ((tvP sn sf sp : Nat) : Int))])), (s1, .inl ((g.2.1 0), 200, .inl sf))] := by
  refine ct_i (lv := [(0, .ref s0)]) (by decide) rfl (Nat.le_of_ble_eq_true rfl) rfl ?_
  intro x hC hR
  refine z_iconstN hC 0 d_So_takeValue_0 rfl ?_
  refine z_istore_n (lv' := [(1, .int (iI ((0 : Nat) : Int))), (0, .ref s0)]) hC d_So_takeValue_1 rfl (by decide) rfl ?_
  refine z_iconstN hC 0 d_So_takeValue_2 rfl ?_
  refine z_istore_n (lv' := [(2, .int (iI ((0 : Nat) : Int))), (1, .int (iI ((0 : Nat) : Int))), (0, .ref s0)]) hC d_So_takeValue_3 rfl (by decide) rfl ?_
  have L_4 : ∀ (fu : Nat) (v : Int) (d p : Nat), (d ≤ 5) → (p = sp + d) → (p ≤ sn) → (tvL sn sf (5 - d) v p = tvL sn sf 5 0 sp) → 5 - d < fu → Z x (0, 0) [(s0, .inr (6, [.ref s1, .int (iI ((sn : Nat) : Int)), .int (iI ((p : Nat) : Int))])), (s1, .inl ((g.2.1 0), 200, .inl sf))] 4 [(2, .int (iI ((d : Nat) : Int))), (1, .int (iI v)), (0, .ref s0)] [] := by
    intro fu
    induction fu with
    | zero => intro v d p hd hp hpn ht hmu; exact absurd hmu (Nat.not_lt_zero _)
    | succ fu ih_4 =>
      intro v d p hd hp hpn ht hmu
      refine z_iload_n hC d_So_takeValue_4 rfl 0 rfl ?_
      refine z_iconstN hC 5 d_So_takeValue_5 rfl ?_
      refine z_icmp_ge (tgt := 56) hC ((d : Nat) : Int) ((5 : Nat) : Int) d_So_takeValue_6 rfl (iI_t (by omega)) (iI_t (by omega)) (fun c_1 => ?_) (fun c_1 => ?_)
      · have hq : (v, p) = tvL sn sf 5 0 sp := by first | exact (tvL_0 (by omega)).symm.trans ht | exact (tvL_no (by assumption)).symm.trans ht
        refine z_iload_n hC d_So_takeValue_56 rfl 0 rfl ?_
        refine z_if_eq (tgt := 74) hC ((d : Nat) : Int) d_So_takeValue_57 rfl (iI_t (by omega)) (fun c_2 => ?_) (fun c_2 => ?_)
        · refine z_iconst hC d_So_takeValue_74 ?_
          refine z_goto (tgt := 79) hC d_So_takeValue_75 rfl ?_
          exact Z.eq (by rw [tvP, ← hq]) rfl rfl (by first | (rw [tvR_no hq (Or.inl (by omega))]) | (rw [tvR_no hq (Or.inr (by assumption))]) | (rw [tvR_is hq (by omega) (by assumption)])) (hR _ _ d_So_takeValue_79)
        · refine z_aload_n hC d_So_takeValue_60 rfl 2 rfl ?_
          refine z_aload_n hC d_So_takeValue_61 rfl 2 rfl ?_
          refine z_get hC hi_So 0 rfl rfl 2 (by decide) mw_80 (Or.inl rfl) rfl d_So_takeValue_62 ?_
          refine z_callV (q0 := 0) (ci := 6) (w' := [(s0, .inr (6, [.ref s1, .int (iI ((sn : Nat) : Int)), .int (iI ((p : Nat) : Int))])), (s1, .inl ((g.2.1 0), 200, .inl sf))]) (st1 := [.int (sN sn sf p)]) hC (k_So_signAt l g s0 s1 sn p sf p hsn (by omega)) mw_311 zv_So_signAt rfl rfl ⟨Nat.le_of_ble_eq_true rfl, Nat.le_of_ble_eq_true rfl⟩ [0, 1] rfl rfl rfl rfl rfl rfl rfl rfl (Nat.le_of_ble_eq_true rfl) d_So_takeValue_65 rfl ⟨Nat.zero_le _, Nat.zero_le _⟩ rfl ?_
          refine z_callS (w' := [(s0, .inr (6, [.ref s1, .int (iI ((sn : Nat) : Int)), .int (iI ((p : Nat) : Int))])), (s1, .inl ((g.2.1 0), 200, .inl sf))]) (st1 := [.int (iI (bI (isD (sN sn sf p))))]) hC (k_So_isDigit l g (sN sn sf p)) mw_483 zs_So_isDigit rfl rfl ⟨Nat.le_of_ble_eq_true rfl, Nat.le_of_ble_eq_true rfl⟩ [] rfl rfl rfl rfl rfl (Nat.le_of_ble_eq_true rfl) d_So_takeValue_68 rfl ⟨Nat.zero_le _, Nat.zero_le _⟩ rfl ?_
          refine z_ifeqB (tgt := 78) hC d_So_takeValue_71 rfl (fun c_3 => ?_) (fun c_3 => ?_)
          · refine z_iload_n hC d_So_takeValue_78 rfl 1 rfl ?_
            exact Z.eq (by rw [tvP, ← hq]) rfl rfl (by first | (rw [tvR_no hq (Or.inl (by omega))]) | (rw [tvR_no hq (Or.inr (by assumption))]) | (rw [tvR_is hq (by omega) (by assumption)])) (hR _ _ d_So_takeValue_79)
          · refine z_iconst hC d_So_takeValue_74 ?_
            refine z_goto (tgt := 79) hC d_So_takeValue_75 rfl ?_
            exact Z.eq (by rw [tvP, ← hq]) rfl rfl (by first | (rw [tvR_no hq (Or.inl (by omega))]) | (rw [tvR_no hq (Or.inr (by assumption))]) | (rw [tvR_is hq (by omega) (by assumption)])) (hR _ _ d_So_takeValue_79)
      · refine z_aload_n hC d_So_takeValue_9 rfl 2 rfl ?_
        refine z_aload_n hC d_So_takeValue_10 rfl 2 rfl ?_
        refine z_get hC hi_So 0 rfl rfl 2 (by decide) mw_80 (Or.inl rfl) rfl d_So_takeValue_11 ?_
        refine z_callV (q0 := 0) (ci := 6) (w' := [(s0, .inr (6, [.ref s1, .int (iI ((sn : Nat) : Int)), .int (iI ((p : Nat) : Int))])), (s1, .inl ((g.2.1 0), 200, .inl sf))]) (st1 := [.int (sN sn sf p)]) hC (k_So_signAt l g s0 s1 sn p sf p hsn (by omega)) mw_311 zv_So_signAt rfl rfl ⟨Nat.le_of_ble_eq_true rfl, Nat.le_of_ble_eq_true rfl⟩ [0, 1] rfl rfl rfl rfl rfl rfl rfl rfl (Nat.le_of_ble_eq_true rfl) d_So_takeValue_14 rfl ⟨Nat.zero_le _, Nat.zero_le _⟩ rfl ?_
        refine z_callS (w' := [(s0, .inr (6, [.ref s1, .int (iI ((sn : Nat) : Int)), .int (iI ((p : Nat) : Int))])), (s1, .inl ((g.2.1 0), 200, .inl sf))]) (st1 := [.int (iI (bI (isD (sN sn sf p))))]) hC (k_So_isDigit l g (sN sn sf p)) mw_483 zs_So_isDigit rfl rfl ⟨Nat.le_of_ble_eq_true rfl, Nat.le_of_ble_eq_true rfl⟩ [] rfl rfl rfl rfl rfl (Nat.le_of_ble_eq_true rfl) d_So_takeValue_17 rfl ⟨Nat.zero_le _, Nat.zero_le _⟩ rfl ?_
        refine z_ifeqB (tgt := 56) hC d_So_takeValue_20 rfl (fun c_4 => ?_) (fun c_4 => ?_)
        · have hq : (v, p) = tvL sn sf 5 0 sp := by first | exact (tvL_0 (by omega)).symm.trans ht | exact (tvL_no (by assumption)).symm.trans ht
          refine z_iload_n hC d_So_takeValue_56 rfl 0 rfl ?_
          refine z_if_eq (tgt := 74) hC ((d : Nat) : Int) d_So_takeValue_57 rfl (iI_t (by omega)) (fun c_5 => ?_) (fun c_5 => ?_)
          · refine z_iconst hC d_So_takeValue_74 ?_
            refine z_goto (tgt := 79) hC d_So_takeValue_75 rfl ?_
            exact Z.eq (by rw [tvP, ← hq]) rfl rfl (by first | (rw [tvR_no hq (Or.inl (by omega))]) | (rw [tvR_no hq (Or.inr (by assumption))]) | (rw [tvR_is hq (by omega) (by assumption)])) (hR _ _ d_So_takeValue_79)
          · refine z_aload_n hC d_So_takeValue_60 rfl 2 rfl ?_
            refine z_aload_n hC d_So_takeValue_61 rfl 2 rfl ?_
            refine z_get hC hi_So 0 rfl rfl 2 (by decide) mw_80 (Or.inl rfl) rfl d_So_takeValue_62 ?_
            refine z_callV (q0 := 0) (ci := 6) (w' := [(s0, .inr (6, [.ref s1, .int (iI ((sn : Nat) : Int)), .int (iI ((p : Nat) : Int))])), (s1, .inl ((g.2.1 0), 200, .inl sf))]) (st1 := [.int (sN sn sf p)]) hC (k_So_signAt l g s0 s1 sn p sf p hsn (by omega)) mw_311 zv_So_signAt rfl rfl ⟨Nat.le_of_ble_eq_true rfl, Nat.le_of_ble_eq_true rfl⟩ [0, 1] rfl rfl rfl rfl rfl rfl rfl rfl (Nat.le_of_ble_eq_true rfl) d_So_takeValue_65 rfl ⟨Nat.zero_le _, Nat.zero_le _⟩ rfl ?_
            refine z_callS (w' := [(s0, .inr (6, [.ref s1, .int (iI ((sn : Nat) : Int)), .int (iI ((p : Nat) : Int))])), (s1, .inl ((g.2.1 0), 200, .inl sf))]) (st1 := [.int (iI (bI (isD (sN sn sf p))))]) hC (k_So_isDigit l g (sN sn sf p)) mw_483 zs_So_isDigit rfl rfl ⟨Nat.le_of_ble_eq_true rfl, Nat.le_of_ble_eq_true rfl⟩ [] rfl rfl rfl rfl rfl (Nat.le_of_ble_eq_true rfl) d_So_takeValue_68 rfl ⟨Nat.zero_le _, Nat.zero_le _⟩ rfl ?_
            refine z_ifeqB (tgt := 78) hC d_So_takeValue_71 rfl (fun c_6 => ?_) (fun c_6 => ?_)
            · refine z_iload_n hC d_So_takeValue_78 rfl 1 rfl ?_
              exact Z.eq (by rw [tvP, ← hq]) rfl rfl (by first | (rw [tvR_no hq (Or.inl (by omega))]) | (rw [tvR_no hq (Or.inr (by assumption))]) | (rw [tvR_is hq (by omega) (by assumption)])) (hR _ _ d_So_takeValue_79)
            · refine z_iconst hC d_So_takeValue_74 ?_
              refine z_goto (tgt := 79) hC d_So_takeValue_75 rfl ?_
              exact Z.eq (by rw [tvP, ← hq]) rfl rfl (by first | (rw [tvR_no hq (Or.inl (by omega))]) | (rw [tvR_no hq (Or.inr (by assumption))]) | (rw [tvR_is hq (by omega) (by assumption)])) (hR _ _ d_So_takeValue_79)
        · refine z_iload_n hC d_So_takeValue_23 rfl 1 rfl ?_
          refine z_bipush (a := ((10 : Nat) : Int)) hC d_So_takeValue_24 (by decide) ?_
          refine z_imul hC d_So_takeValue_26 ?_
          refine z_aload_n hC d_So_takeValue_27 rfl 2 rfl ?_
          refine z_aload_n hC d_So_takeValue_28 rfl 2 rfl ?_
          refine z_get hC hi_So 0 rfl rfl 2 (by decide) mw_80 (Or.inl rfl) rfl d_So_takeValue_29 ?_
          refine z_callV (q0 := 0) (ci := 6) (w' := [(s0, .inr (6, [.ref s1, .int (iI ((sn : Nat) : Int)), .int (iI ((p : Nat) : Int))])), (s1, .inl ((g.2.1 0), 200, .inl sf))]) (st1 := [.int (sN sn sf p), .int (iI (v * ((10 : Nat) : Int)))]) hC (k_So_signAt l g s0 s1 sn p sf p hsn (by omega)) mw_311 zv_So_signAt rfl rfl ⟨Nat.le_of_ble_eq_true rfl, Nat.le_of_ble_eq_true rfl⟩ [0, 1] rfl rfl rfl rfl rfl rfl rfl rfl (Nat.le_of_ble_eq_true rfl) d_So_takeValue_32 rfl ⟨Nat.zero_le _, Nat.zero_le _⟩ rfl ?_
          refine z_RI ?_
          refine z_iadd hC d_So_takeValue_35 ?_
          refine z_bipush (a := ((48 : Nat) : Int)) hC d_So_takeValue_36 (by decide) ?_
          refine z_isub hC d_So_takeValue_38 ?_
          refine z_istore_n (lv' := [(1, .int (iI (((v * ((10 : Nat) : Int)) + ((sN sn sf p).toInt)) - ((48 : Nat) : Int)))), (2, .int (iI ((d : Nat) : Int))), (0, .ref s0)]) hC d_So_takeValue_39 rfl (by decide) rfl ?_
          refine z_aload_n hC d_So_takeValue_40 rfl 2 rfl ?_
          refine z_dup hC d_So_takeValue_41 rfl ?_
          refine z_get hC hi_So 0 rfl rfl 2 (by decide) mw_80 (Or.inl rfl) rfl d_So_takeValue_42 ?_
          refine z_iconstN hC 1 d_So_takeValue_45 rfl ?_
          refine z_iaddN hC d_So_takeValue_46 ?_
          refine z_put (v := .int (iI ((p + 1 : Nat) : Int))) (ty := .int) (w' := [(s0, .inr (6, [.ref s1, .int (iI ((sn : Nat) : Int)), .int (iI ((p + 1 : Nat) : Int))])), (s1, .inl ((g.2.1 0), 200, .inl sf))]) hC hi_So ty_So ok_So nm_So 0 rfl rfl 2 (by decide) mw_80 rfl rfl rfl rfl rfl (Nat.le_of_ble_eq_true rfl) rfl d_So_takeValue_47 ?_
          refine z_iincN (lv' := [(2, .int (iI ((d + 1 : Nat) : Int))), (1, .int (iI (((v * ((10 : Nat) : Int)) + ((sN sn sf p).toInt)) - ((48 : Nat) : Int)))), (0, .ref s0)]) hC 1 d_So_takeValue_50 rfl 1 rfl (by decide) rfl ?_
          refine z_goto (tgt := 4) hC d_So_takeValue_53 rfl ?_
          exact Zloc [0, 1, 2] rfl (Z.eq (w' := [(s0, .inr (6, [.ref s1, .int (iI ((sn : Nat) : Int)), .int (iI (((p + 1) : Nat) : Int))])), (s1, .inl ((g.2.1 0), 200, .inl sf))]) rfl rfl rfl rfl (ih_4 (((v * ((10 : Nat) : Int)) + ((sN sn sf p).toInt)) - ((48 : Nat) : Int)) (d + 1) (p + 1) (by omega) (by omega) (isD_lt (by assumption)) ((tvL_go (by omega) (by assumption)).trans ht) (by omega)))
  exact Zloc [0, 1, 2] rfl (Z.eq (w' := [(s0, .inr (6, [.ref s1, .int (iI ((sn : Nat) : Int)), .int (iI ((sp : Nat) : Int))])), (s1, .inl ((g.2.1 0), 200, .inl sf))]) rfl rfl rfl rfl (L_4 _ ((0 : Nat) : Int) 0 sp (by omega) (by omega) (by omega) rfl (Nat.lt_succ_self _)))
set_option maxHeartbeats 4000000 in
set_option maxRecDepth 100000 in
theorem k_Un_forget (l : Launch) (g : ZG) (u0 u1 un : Nat) (uf : Nat → Int32)    : Ct l g y_Un_forget c_Un_forget 1 none { frames := 0, cells := 0, slots := 0, locals := 0 } [.ref u0] [(u0, .inr (8, [.ref u1, .int (iI ((un : Nat) : Int))])), (u1, .inl ((g.2.1 0), 200, .inl uf))] none [(u0, .inr (8, [.ref u1, .int (iI ((0 : Nat) : Int))])), (u1, .inl ((g.2.1 0), 200, .inl uf))] := by
  refine ct_v (lv := [(0, .ref u0)]) (by decide) rfl (Nat.le_of_ble_eq_true rfl) rfl ?_
  intro x hC hR
  refine z_aload_n hC d_Un_forget_0 rfl 0 rfl ?_
  refine z_iconstN hC 0 d_Un_forget_1 rfl ?_
  refine z_put (v := .int (iI ((0 : Nat) : Int))) (ty := .int) (w' := [(u0, .inr (8, [.ref u1, .int (iI ((0 : Nat) : Int))])), (u1, .inl ((g.2.1 0), 200, .inl uf))]) hC hi_Un ty_Un ok_Un nm_Un 0 rfl rfl 1 (by decide) mw_119 rfl rfl rfl rfl rfl (Nat.le_of_ble_eq_true rfl) rfl d_Un_forget_2 ?_
  exact Z.eq rfl rfl rfl rfl (hR _ _ d_Un_forget_5)
set_option maxHeartbeats 4000000 in
set_option maxRecDepth 100000 in
theorem k_Un_length (l : Launch) (g : ZG) (u0 u1 un : Nat) (uf : Nat → Int32)    : Ct l g y_Un_length c_Un_length 1 (some .int) { frames := 0, cells := 0, slots := 0, locals := 0 } [.ref u0] [(u0, .inr (8, [.ref u1, .int (iI ((un : Nat) : Int))])), (u1, .inl ((g.2.1 0), 200, .inl uf))] (some (.int (iI ((un : Nat) : Int)))) [(u0, .inr (8, [.ref u1, .int (iI ((un : Nat) : Int))])), (u1, .inl ((g.2.1 0), 200, .inl uf))] := by
  refine ct_i (lv := [(0, .ref u0)]) (by decide) rfl (Nat.le_of_ble_eq_true rfl) rfl ?_
  intro x hC hR
  refine z_aload_n hC d_Un_length_0 rfl 0 rfl ?_
  refine z_get hC hi_Un 0 rfl rfl 1 (by decide) mw_119 (Or.inl rfl) rfl d_Un_length_1 ?_
  exact Z.eq rfl rfl rfl rfl (hR _ _ d_Un_length_4)
set_option maxHeartbeats 4000000 in
set_option maxRecDepth 100000 in
theorem k_Un_letterAt (l : Launch) (g : ZG) (u0 u1 un : Nat) (uf : Nat → Int32) (k : Nat) (hun : un ≤ 200) (hk : k < 1000000)   : Ct l g y_Un_letterAt c_Un_letterAt 2 (some .int) { frames := 0, cells := 0, slots := 0, locals := 0 } [.ref u0, .int (iI ((k : Nat) : Int))] [(u0, .inr (8, [.ref u1, .int (iI ((un : Nat) : Int))])), (u1, .inl ((g.2.1 0), 200, .inl uf))] (some (.int (sN un uf k))) [(u0, .inr (8, [.ref u1, .int (iI ((un : Nat) : Int))])), (u1, .inl ((g.2.1 0), 200, .inl uf))] := by
  refine ct_i (lv := [(0, .ref u0), (1, .int (iI ((k : Nat) : Int)))]) (by decide) rfl (Nat.le_of_ble_eq_true rfl) rfl ?_
  intro x hC hR
  refine z_iload_n hC d_Un_letterAt_0 rfl 1 rfl ?_
  refine z_if_lt (tgt := 28) hC ((k : Nat) : Int) d_Un_letterAt_1 rfl (iI_t (by omega)) (fun c_1 => ?_) (fun c_1 => ?_)
  · refine z_iconst hC d_Un_letterAt_28 ?_
    exact Z.eq rfl rfl rfl (by first | (exfalso; omega) | (unfold sN; rw [if_pos (by omega)]; done) | (unfold sN; rw [if_neg (by omega)]; done)) (hR _ _ d_Un_letterAt_29)
  · refine z_iload_n hC d_Un_letterAt_4 rfl 1 rfl ?_
    refine z_aload_n hC d_Un_letterAt_5 rfl 0 rfl ?_
    refine z_get hC hi_Un 0 rfl rfl 1 (by decide) mw_119 (Or.inl rfl) rfl d_Un_letterAt_6 ?_
    refine z_icmp_ge (tgt := 28) hC ((k : Nat) : Int) ((un : Nat) : Int) d_Un_letterAt_9 rfl (iI_t (by omega)) (iI_t (by omega)) (fun c_2 => ?_) (fun c_2 => ?_)
    · refine z_iconst hC d_Un_letterAt_28 ?_
      exact Z.eq rfl rfl rfl (by first | (exfalso; omega) | (unfold sN; rw [if_pos (by omega)]; done) | (unfold sN; rw [if_neg (by omega)]; done)) (hR _ _ d_Un_letterAt_29)
    · refine z_iload_n hC d_Un_letterAt_12 rfl 1 rfl ?_
      refine z_sipush (a := ((200 : Nat) : Int)) hC d_Un_letterAt_13 (by decide) ?_
      refine z_icmp_ge (tgt := 28) hC ((k : Nat) : Int) ((200 : Nat) : Int) d_Un_letterAt_16 rfl (iI_t (by omega)) (iI_t (by omega)) (fun c_3 => ?_) (fun c_3 => ?_)
      · refine z_iconst hC d_Un_letterAt_28 ?_
        exact Z.eq rfl rfl rfl (by first | (exfalso; omega) | (unfold sN; rw [if_pos (by omega)]; done) | (unfold sN; rw [if_neg (by omega)]; done)) (hR _ _ d_Un_letterAt_29)
      · refine z_aload_n hC d_Un_letterAt_19 rfl 0 rfl ?_
        refine z_get hC hi_Un 0 rfl rfl 0 (by decide) mw_118 (Or.inl rfl) rfl d_Un_letterAt_20 ?_
        refine z_iload_n hC d_Un_letterAt_23 rfl 1 rfl ?_
        refine z_iald hC 1 0 rfl rfl k rfl (by omega) (by decide) d_Un_letterAt_24 ?_
        refine z_goto (tgt := 29) hC d_Un_letterAt_25 rfl ?_
        exact Z.eq rfl rfl rfl (by first | (exfalso; omega) | (unfold sN; rw [if_pos (by omega)]; done) | (unfold sN; rw [if_neg (by omega)]; done)) (hR _ _ d_Un_letterAt_29)
set_option maxHeartbeats 4000000 in
set_option maxRecDepth 100000 in
theorem k_Un_keep (l : Launch) (g : ZG) (u0 u1 un : Nat) (uf : Nat → Int32) (s0 s1 sn sp : Nat) (sf : Nat → Int32) (e : Nat) (hsn : sn ≤ 200) (hsp : sp ≤ sn) (hpe : sp ≤ e) (hes : e ≤ sn)   : Ct l g y_Un_keep c_Un_keep 5 none { frames := 1, cells := 0, slots := 0, locals := 21 } [.ref u0, .ref s0, .int (iI ((e : Nat) : Int))] [(u0, .inr (8, [.ref u1, .int (iI ((un : Nat) : Int))])), (u1, .inl ((g.2.1 0), 200, .inl uf)), (s0, .inr (6, [.ref s1, .int (iI ((sn : Nat) : Int)), .int (iI ((sp : Nat) : Int))])), (s1, .inl ((g.2.1 0), 200, .inl sf))] none [(u0, .inr (8, [.ref u1, .int (iI ((e - sp : Nat) : Int))])), (u1, .inl ((g.2.1 0), 200, .inl (kpF uf sn sf sp e))), (s0, .inr (6, [.ref s1, .int (iI ((sn : Nat) : Int)), .int (iI ((sp : Nat) : Int))])), (s1, .inl ((g.2.1 0), 200, .inl sf))] := by
  refine ct_v (lv := [(0, .ref u0), (1, .ref s0), (2, .int (iI ((e : Nat) : Int)))]) (by decide) rfl (Nat.le_of_ble_eq_true rfl) rfl ?_
  intro x hC hR
  refine z_aload_n hC d_Un_keep_0 rfl 1 rfl ?_
  refine z_callV (q0 := 2) (ci := 6) (w' := [(u0, .inr (8, [.ref u1, .int (iI ((un : Nat) : Int))])), (u1, .inl ((g.2.1 0), 200, .inl uf)), (s0, .inr (6, [.ref s1, .int (iI ((sn : Nat) : Int)), .int (iI ((sp : Nat) : Int))])), (s1, .inl ((g.2.1 0), 200, .inl sf))]) (st1 := [.int (iI ((sp : Nat) : Int))]) hC (k_So_place l g s0 s1 sn sp sf) mw_468 zv_So_place rfl rfl ⟨Nat.le_of_ble_eq_true rfl, Nat.le_of_ble_eq_true rfl⟩ [2, 3] rfl rfl rfl rfl rfl rfl rfl rfl (Nat.le_of_ble_eq_true rfl) d_Un_keep_1 rfl ⟨Nat.zero_le _, Nat.zero_le _⟩ rfl ?_
  refine z_istore_n (lv' := [(3, .int (iI ((sp : Nat) : Int))), (0, .ref u0), (1, .ref s0), (2, .int (iI ((e : Nat) : Int)))]) hC d_Un_keep_4 rfl (by decide) rfl ?_
  refine z_aload_n hC d_Un_keep_5 rfl 1 rfl ?_
  refine z_iconstN hC 0 d_Un_keep_6 rfl ?_
  refine z_put (v := .int (iI ((0 : Nat) : Int))) (ty := .int) (w' := [(u0, .inr (8, [.ref u1, .int (iI ((0 : Nat) : Int))])), (u1, .inl ((g.2.1 0), 200, .inl uf)), (s0, .inr (6, [.ref s1, .int (iI ((sn : Nat) : Int)), .int (iI ((sp : Nat) : Int))])), (s1, .inl ((g.2.1 0), 200, .inl sf))]) hC hi_Un ty_Un ok_Un nm_Un 0 rfl rfl 1 (by decide) mw_119 rfl rfl rfl rfl rfl (Nat.le_of_ble_eq_true rfl) rfl d_Un_keep_7 ?_
  refine z_iload_n hC d_Un_keep_10 rfl 0 rfl ?_
  refine z_istore (lv' := [(4, .int (iI ((sp : Nat) : Int))), (3, .int (iI ((sp : Nat) : Int))), (0, .ref u0), (1, .ref s0), (2, .int (iI ((e : Nat) : Int)))]) hC d_Un_keep_11 (by decide) rfl ?_
  have L_13 : ∀ (fu : Nat) (i j : Nat) (h : Nat → Int32), (i = sp + j) → (i ≤ e) → (∀ k, h k = if k < j then sN sn sf (sp + k) else uf k) → e - i < fu → Z x (0, 0) [(u0, .inr (8, [.ref u1, .int (iI ((j : Nat) : Int))])), (u1, .inl ((g.2.1 0), 200, .inl h)), (s0, .inr (6, [.ref s1, .int (iI ((sn : Nat) : Int)), .int (iI ((sp : Nat) : Int))])), (s1, .inl ((g.2.1 0), 200, .inl sf))] 13 [(4, .int (iI ((i : Nat) : Int))), (3, .int (iI ((sp : Nat) : Int))), (0, .ref u0), (1, .ref s0), (2, .int (iI ((e : Nat) : Int)))] [] := by
    intro fu
    induction fu with
    | zero => intro i j h hij hie hh hmu; exact absurd hmu (Nat.not_lt_zero _)
    | succ fu ih_13 =>
      intro i j h hij hie hh hmu
      refine z_iload hC d_Un_keep_13 0 rfl ?_
      refine z_iload_n hC d_Un_keep_15 rfl 4 rfl ?_
      refine z_icmp_ge (tgt := 60) hC ((i : Nat) : Int) ((e : Nat) : Int) d_Un_keep_16 rfl (iI_t (by omega)) (iI_t (by omega)) (fun c_1 => ?_) (fun c_1 => ?_)
      · exact Z.eq (by first | (exfalso; omega) | (rw [show h = kpF uf sn sf sp e from funext (fun k => by rw [hh, kpF, show j = e - sp by omega]), show j = e - sp by omega])) rfl rfl rfl (hR _ _ d_Un_keep_60)
      · refine z_aload_n hC d_Un_keep_19 rfl 2 rfl ?_
        refine z_get hC hi_Un 0 rfl rfl 1 (by decide) mw_119 (Or.inl rfl) rfl d_Un_keep_20 ?_
        refine z_sipush (a := ((200 : Nat) : Int)) hC d_Un_keep_23 (by decide) ?_
        refine z_icmp_ge (tgt := 60) hC ((j : Nat) : Int) ((200 : Nat) : Int) d_Un_keep_26 rfl (iI_t (by omega)) (iI_t (by omega)) (fun c_2 => ?_) (fun c_2 => ?_)
        · exact Z.eq (by first | (exfalso; omega) | (rw [show h = kpF uf sn sf sp e from funext (fun k => by rw [hh, kpF, show j = e - sp by omega]), show j = e - sp by omega])) rfl rfl rfl (hR _ _ d_Un_keep_60)
        · refine z_aload_n hC d_Un_keep_29 rfl 2 rfl ?_
          refine z_get hC hi_Un 0 rfl rfl 0 (by decide) mw_118 (Or.inl rfl) rfl d_Un_keep_30 ?_
          refine z_aload_n hC d_Un_keep_33 rfl 2 rfl ?_
          refine z_get hC hi_Un 0 rfl rfl 1 (by decide) mw_119 (Or.inl rfl) rfl d_Un_keep_34 ?_
          refine z_aload_n hC d_Un_keep_37 rfl 3 rfl ?_
          refine z_iload hC d_Un_keep_38 0 rfl ?_
          refine z_callV (q0 := 2) (ci := 6) (w' := [(u0, .inr (8, [.ref u1, .int (iI ((j : Nat) : Int))])), (u1, .inl ((g.2.1 0), 200, .inl h)), (s0, .inr (6, [.ref s1, .int (iI ((sn : Nat) : Int)), .int (iI ((sp : Nat) : Int))])), (s1, .inl ((g.2.1 0), 200, .inl sf))]) (st1 := [.int (sN sn sf i), .int (iI ((j : Nat) : Int)), .ref u1]) hC (k_So_signAt l g s0 s1 sn sp sf i hsn (by omega)) mw_469 zv_So_signAt rfl rfl ⟨Nat.le_of_ble_eq_true rfl, Nat.le_of_ble_eq_true rfl⟩ [2, 3] rfl rfl rfl rfl rfl rfl rfl rfl (Nat.le_of_ble_eq_true rfl) d_Un_keep_40 rfl ⟨Nat.zero_le _, Nat.zero_le _⟩ rfl ?_
          refine z_iast (v := (sN sn sf i)) (w' := [(u0, .inr (8, [.ref u1, .int (iI ((j : Nat) : Int))])), (u1, .inl ((g.2.1 0), 200, .inl (upd h j (sN sn sf i)))), (s0, .inr (6, [.ref s1, .int (iI ((sn : Nat) : Int)), .int (iI ((sp : Nat) : Int))])), (s1, .inl ((g.2.1 0), 200, .inl sf))]) hC 1 0 rfl rfl j rfl (by omega) (by decide) rfl d_Un_keep_43 ?_
          refine z_aload_n hC d_Un_keep_44 rfl 2 rfl ?_
          refine z_dup hC d_Un_keep_45 rfl ?_
          refine z_get hC hi_Un 0 rfl rfl 1 (by decide) mw_119 (Or.inl rfl) rfl d_Un_keep_46 ?_
          refine z_iconstN hC 1 d_Un_keep_49 rfl ?_
          refine z_iaddN hC d_Un_keep_50 ?_
          refine z_put (v := .int (iI ((j + 1 : Nat) : Int))) (ty := .int) (w' := [(u0, .inr (8, [.ref u1, .int (iI ((j + 1 : Nat) : Int))])), (u1, .inl ((g.2.1 0), 200, .inl (upd h j (sN sn sf i)))), (s0, .inr (6, [.ref s1, .int (iI ((sn : Nat) : Int)), .int (iI ((sp : Nat) : Int))])), (s1, .inl ((g.2.1 0), 200, .inl sf))]) hC hi_Un ty_Un ok_Un nm_Un 0 rfl rfl 1 (by decide) mw_119 rfl rfl rfl rfl rfl (Nat.le_of_ble_eq_true rfl) rfl d_Un_keep_51 ?_
          refine z_iincN (lv' := [(4, .int (iI ((i + 1 : Nat) : Int))), (3, .int (iI ((sp : Nat) : Int))), (0, .ref u0), (1, .ref s0), (2, .int (iI ((e : Nat) : Int)))]) hC 1 d_Un_keep_54 rfl 0 rfl (by decide) rfl ?_
          refine z_goto (tgt := 13) hC d_Un_keep_57 rfl ?_
          exact Zloc [0, 1, 2, 3, 4] rfl (Z.eq (w' := [(u0, .inr (8, [.ref u1, .int (iI (((j + 1) : Nat) : Int))])), (u1, .inl ((g.2.1 0), 200, .inl (upd h j (sN sn sf i)))), (s0, .inr (6, [.ref s1, .int (iI ((sn : Nat) : Int)), .int (iI ((sp : Nat) : Int))])), (s1, .inl ((g.2.1 0), 200, .inl sf))]) rfl rfl rfl rfl (ih_13 (i + 1) (j + 1) (upd h j (sN sn sf i)) (by omega) (by omega) (kp_go hij hh) (by omega)))
  exact Zloc [0, 1, 2, 3, 4] rfl (Z.eq (w' := [(u0, .inr (8, [.ref u1, .int (iI ((0 : Nat) : Int))])), (u1, .inl ((g.2.1 0), 200, .inl uf)), (s0, .inr (6, [.ref s1, .int (iI ((sn : Nat) : Int)), .int (iI ((sp : Nat) : Int))])), (s1, .inl ((g.2.1 0), 200, .inl sf))]) rfl rfl rfl rfl (L_13 _ sp 0 uf (by omega) hpe (fun k => by rw [if_neg (by omega)]) (Nat.lt_succ_self _)))
