/-! ===== the reference's reading of form 0 ===== -/
def cnt6 (wt : Nat → Nat) (wc : Nat) : Nat := cntB (fun z9 => decide (wt z9 < 6)) wc
def dpt6 (wt : Nat → Nat) (wc : Nat) : Nat := cntB (fun z9 => decide (wt z9 = 6)) wc
def wSt (s : QLS) (p : Nat) (r : ST) : QLS := (p, s.2.1, s.2.2.1, s.2.2.2.1, r.1, r.2.1, r.2.2.1)
abbrev RM : Type := QLS × Nat × (Nat → Nat)
def r1F (n : Nat) (f : Nat → Int32) (xc : Nat) (xn : Nat → Nat) (xl : Nat → Int32) : Nat → Bool → QLS → Nat → (Nat → Nat) → Bool × RM
  | 0, _, s, wc, wt => (false, s, wc, wt)
  | k + 1, true, s, wc, wt =>
    if sN n f s.1 = iI ((40 : Nat) : Int) then (if dpt6 wt wc = 20 then (false, (s.1, s.1, s.2.2), wc, wt) else r1F n f xc xn xl k true (s.1 + 1, s.2) (wc + 1) (up wt wc 6))
    else if (lfR n f xc xn xl (s.2.2.2.2.1 + cnt6 wt wc) s).1 = true then r1F n f xc xn xl k false (lfR n f xc xn xl (s.2.2.2.2.1 + cnt6 wt wc) s).2 wc wt
    else (false, (lfR n f xc xn xl (s.2.2.2.2.1 + cnt6 wt wc) s).2, wc, wt)
  | k + 1, false, s, wc, wt =>
    if s.1 = n ∧ dpt6 wt wc = 0 then (true, wSt s s.1 (stF wt 0 wc s.2.2.2.2.1 s.2.2.2.2.2.1 s.2.2.2.2.2.2), (stF wt 0 wc s.2.2.2.2.1 s.2.2.2.2.2.1 s.2.2.2.2.2.2).2.2.2, wt)
    else if sN n f s.1 = iI ((41 : Nat) : Int) ∧ 0 < dpt6 wt wc then r1F n f xc xn xl k false (wSt s (s.1 + 1) (stF wt 0 wc s.2.2.2.2.1 s.2.2.2.2.2.1 s.2.2.2.2.2.2)) ((stF wt 0 wc s.2.2.2.2.1 s.2.2.2.2.2.1 s.2.2.2.2.2.2).2.2.2 - 1) wt
    else if sN n f s.1 = iI ((32 : Nat) : Int) then
      (if wd0 (jS n f (s.1 + 1) (rowE n f (n - (s.1 + 1)) (s.1 + 1))) = 0 ∨ s.2.2.2.2.1 + cnt6 wt wc = 40 then (false, (s.1 + 1, s.1 + 1, s.2.2), wc, wt)
       else if sN n f (rowE n f (n - (s.1 + 1)) (s.1 + 1)) = iI ((32 : Nat) : Int) then
         r1F n f xc xn xl k true (wSt s (rowE n f (n - (s.1 + 1)) (s.1 + 1) + 1) (stF wt (if wd0 (jS n f (s.1 + 1) (rowE n f (n - (s.1 + 1)) (s.1 + 1))) = 3 then 1 else 0) wc s.2.2.2.2.1 s.2.2.2.2.2.1 s.2.2.2.2.2.2)) ((stF wt (if wd0 (jS n f (s.1 + 1) (rowE n f (n - (s.1 + 1)) (s.1 + 1))) = 3 then 1 else 0) wc s.2.2.2.2.1 s.2.2.2.2.2.1 s.2.2.2.2.2.2).2.2.2 + 1) (up wt (stF wt (if wd0 (jS n f (s.1 + 1) (rowE n f (n - (s.1 + 1)) (s.1 + 1))) = 3 then 1 else 0) wc s.2.2.2.2.1 s.2.2.2.2.2.1 s.2.2.2.2.2.2).2.2.2 (wd0 (jS n f (s.1 + 1) (rowE n f (n - (s.1 + 1)) (s.1 + 1)))).toNat)
       else (false, (rowE n f (n - (s.1 + 1)) (s.1 + 1), rowE n f (n - (s.1 + 1)) (s.1 + 1), s.2.2), wc, wt))
    else (false, (s.1, s.1, s.2.2), wc, wt)
/-- a leaf's node -/
def lfP (xc : Nat) (q : QD) : Prop := q.1.toInt < 3 ∧ 0 ≤ q.2.1.toInt ∧ q.2.1.toInt < xc
theorem lfP_mk {xc k : Nat} {i : Int} {v t : Int32} (hk : k < 3) (h0 : 0 ≤ i) (hi : i < xc) (hx : xc ≤ 8) : lfP xc (iI ((k : Nat) : Int), iI i, v, t) := by
  refine ⟨?_, ?_, ?_⟩
  · show (iI ((k : Nat) : Int)).toInt < 3
    rw [iI_t (by omega)]; omega
  · show 0 ≤ (iI i).toInt
    rw [iI_t (by omega)]; omega
  · show (iI i).toInt < xc
    rw [iI_t (by omega)]; omega
theorem rnG_ok {n : Nat} {f : Nat → Int32} {s : QLS} {ix lo : Int} {xc : Nat} (h1 : s.1 ≤ n) (h0 : 0 ≤ ix) (hi : ix < xc) (hx : xc ≤ 8) : ((rnG n f s ix lo).1 = true → s.1 ≤ (rnG n f s ix lo).2.1 ∧ (rnG n f s ix lo).2.1 ≤ n ∧ ∃ q, lfP xc q ∧ (rnG n f s ix lo).2.2 = (s.2.1, s.2.2.1, s.2.2.2.1, s.2.2.2.2.1 + 1, up s.2.2.2.2.2.1 s.2.2.2.2.1 q, up s.2.2.2.2.2.2 s.2.2.2.2.1 s.2.2.2.2.1)) := by
  have a := tvP_rng n f s.1 h1
  unfold rnG
  split
  · intro h; exact Bool.noConfusion h
  · split
    · intro h; exact Bool.noConfusion h
    · intro _
      exact ⟨a.1, a.2, _, lfP_mk (by decide) h0 hi hx, rfl⟩
theorem lfR_ok {n : Nat} {f : Nat → Int32} {xc : Nat} {xn : Nat → Nat} {xl : Nat → Int32} {c : Nat} {s : QLS} {w : Bool × QLS} (hw : w = lfR n f xc xn xl c s) (h1 : s.1 ≤ n) (hx : xc ≤ 8) : (w.1 = true → c ≠ 40 ∧ s.1 < w.2.1 ∧ w.2.1 ≤ n ∧ ∃ q, lfP xc q ∧ w.2.2 = (s.2.1, s.2.2.1, s.2.2.2.1, s.2.2.2.2.1 + 1, up s.2.2.2.2.2.1 s.2.2.2.2.1 q, up s.2.2.2.2.2.2 s.2.2.2.2.1 s.2.2.2.2.1)) := by
  subst hw
  have a := rowE_rng n f (n - s.1) s.1
  have b := fnd_rng (nmB xn xl n f s.1 (rowE n f (n - s.1) s.1)) xc 0
  unfold lfR
  split
  · intro h; exact Bool.noConfusion h
  · split
    · intro h; exact Bool.noConfusion h
    · split
      · intro h; exact Bool.noConfusion h
      · split
        · next c1 =>
          have s1 := sN_lt c1 (by decide)
          have p1 := tvP_rng n f (rowE n f (n - s.1) s.1 + 1) (by omega)
          split
          · intro h; exact Bool.noConfusion h
          · split
            · next c2 =>
              have s2 := sN_lt c2 (by decide)
              split
              · next c3 =>
                have s3 := sN_lt c3 (by decide)
                intro h
                have r := rnG_ok (n := n) (f := f) (s := (tvP n f (rowE n f (n - s.1) s.1 + 1) + 1 + 1, s.2)) (ix := fnd (nmB xn xl n f s.1 (rowE n f (n - s.1) s.1)) xc 0) (lo := tvR n f (rowE n f (n - s.1) s.1 + 1)) (xc := xc) (by dsimp only; omega) (by omega) (by omega) hx h
                dsimp only at r
                exact ⟨by assumption, by omega, r.2.1, r.2.2⟩
              · intro h; exact Bool.noConfusion h
            · split
              · next c3 =>
                have s3 := sN_lt c3 (by decide)
                intro _
                refine ⟨by assumption, ?_, ?_, _, lfP_mk (by decide) (by omega) (by omega) hx, rfl⟩
                · show s.1 < tvP n f (rowE n f (n - s.1) s.1 + 1) + 1
                  omega
                · show tvP n f (rowE n f (n - s.1) s.1 + 1) + 1 ≤ n
                  omega
              · intro _
                refine ⟨by assumption, ?_, ?_, _, lfP_mk (by decide) (by omega) (by omega) hx, rfl⟩
                · show s.1 < tvP n f (rowE n f (n - s.1) s.1 + 1)
                  omega
                · show tvP n f (rowE n f (n - s.1) s.1 + 1) ≤ n
                  omega
        · intro h; exact Bool.noConfusion h
/-! one step of the loop -/
section R1
variable {n : Nat} {f : Nat → Int32} {xc : Nat} {xn : Nat → Nat} {xl : Nat → Int32} {k wc : Nat} {s : QLS} {wt : Nat → Nat} {w : Bool × RM}
theorem r1_f20 (hq : r1F n f xc xn xl k true s wc wt = w) (hk : 0 < k) (h1 : sN n f s.1 = iI ((40 : Nat) : Int)) (h2 : dpt6 wt wc = 20) : w = (false, (s.1, s.1, s.2.2), wc, wt) := by
  obtain ⟨k, rfl⟩ : ∃ j, k = j + 1 := ⟨k - 1, by omega⟩
  subst hq
  simp only [r1F]
  rw [if_pos h1, if_pos h2]
theorem r1_open (hq : r1F n f xc xn xl k true s wc wt = w) (hk : 0 < k) (h1 : sN n f s.1 = iI ((40 : Nat) : Int)) (h2 : ¬ dpt6 wt wc = 20) : r1F n f xc xn xl (k - 1) true (s.1 + 1, s.2) (wc + 1) (up wt wc 6) = w := by
  obtain ⟨k, rfl⟩ : ∃ j, k = j + 1 := ⟨k - 1, by omega⟩
  subst hq
  simp only [r1F, Nat.add_sub_cancel]
  rw [if_pos h1, if_neg h2]
theorem r1_leaf {w1 : Bool × QLS} (hq : r1F n f xc xn xl k true s wc wt = w) (hk : 0 < k) (h1 : ¬ sN n f s.1 = iI ((40 : Nat) : Int)) (e1 : w1 = lfR n f xc xn xl (s.2.2.2.2.1 + cnt6 wt wc) s) (h2 : w1.1 = true) : r1F n f xc xn xl (k - 1) false w1.2 wc wt = w := by
  obtain ⟨k, rfl⟩ : ∃ j, k = j + 1 := ⟨k - 1, by omega⟩
  subst hq
  subst e1
  simp only [r1F, Nat.add_sub_cancel]
  rw [if_neg h1, if_pos h2]
theorem r1_fleaf {w1 : Bool × QLS} (hq : r1F n f xc xn xl k true s wc wt = w) (hk : 0 < k) (h1 : ¬ sN n f s.1 = iI ((40 : Nat) : Int)) (e1 : w1 = lfR n f xc xn xl (s.2.2.2.2.1 + cnt6 wt wc) s) (h2 : w1.1 = false) : w = (false, w1.2, wc, wt) := by
  obtain ⟨k, rfl⟩ : ∃ j, k = j + 1 := ⟨k - 1, by omega⟩
  subst hq
  subst e1
  simp only [r1F]
  rw [if_neg h1, if_neg (by rw [h2]; decide)]
theorem r1_end {r : ST} (hq : r1F n f xc xn xl k false s wc wt = w) (hk : 0 < k) (h1 : s.1 = n) (h2 : dpt6 wt wc = 0) (er : r = stF wt 0 wc s.2.2.2.2.1 s.2.2.2.2.2.1 s.2.2.2.2.2.2) : w = (true, wSt s s.1 r, r.2.2.2, wt) := by
  obtain ⟨k, rfl⟩ : ∃ j, k = j + 1 := ⟨k - 1, by omega⟩
  subst hq
  subst er
  simp only [r1F]
  rw [if_pos ⟨h1, h2⟩]
theorem r1_close {r : ST} (hq : r1F n f xc xn xl k false s wc wt = w) (hk : 0 < k) (h1 : sN n f s.1 = iI ((41 : Nat) : Int)) (h2 : 0 < dpt6 wt wc) (er : r = stF wt 0 wc s.2.2.2.2.1 s.2.2.2.2.2.1 s.2.2.2.2.2.2) : r1F n f xc xn xl (k - 1) false (wSt s (s.1 + 1) r) (r.2.2.2 - 1) wt = w := by
  obtain ⟨k, rfl⟩ : ∃ j, k = j + 1 := ⟨k - 1, by omega⟩
  subst hq
  subst er
  simp only [r1F, Nat.add_sub_cancel]
  rw [if_neg (by omega), if_pos ⟨h1, h2⟩]
theorem r1_f32 (hq : r1F n f xc xn xl k false s wc wt = w) (hk : 0 < k) (h0 : ¬ (s.1 = n ∧ dpt6 wt wc = 0)) (h1 : ¬ (sN n f s.1 = iI ((41 : Nat) : Int) ∧ 0 < dpt6 wt wc)) (h2 : ¬ sN n f s.1 = iI ((32 : Nat) : Int)) : w = (false, (s.1, s.1, s.2.2), wc, wt) := by
  obtain ⟨k, rfl⟩ : ∃ j, k = j + 1 := ⟨k - 1, by omega⟩
  subst hq
  simp only [r1F]
  rw [if_neg h0, if_neg h1, if_neg h2]
theorem i32_41 {n : Nat} {f : Nat → Int32} {p : Nat} (h2 : sN n f p = iI ((32 : Nat) : Int)) : p < n ∧ ¬ sN n f p = iI ((41 : Nat) : Int) := ⟨sN_lt h2 (by decide), fun h => absurd (h2.symm.trans h) (by decide)⟩
theorem r1_fw {e : Nat} {v : Int} (hq : r1F n f xc xn xl k false s wc wt = w) (hk : 0 < k) (h2 : sN n f s.1 = iI ((32 : Nat) : Int)) (he : e = rowE n f (n - (s.1 + 1)) (s.1 + 1)) (hv : v = wd0 (jS n f (s.1 + 1) e)) (h3 : v = 0 ∨ s.2.2.2.2.1 + cnt6 wt wc = 40) : w = (false, (s.1 + 1, s.1 + 1, s.2.2), wc, wt) := by
  obtain ⟨k, rfl⟩ : ∃ j, k = j + 1 := ⟨k - 1, by omega⟩
  have a := i32_41 h2
  subst hq
  subst he
  subst hv
  simp only [r1F]
  rw [if_neg (by omega), if_neg (fun h => a.2 h.1), if_pos h2, if_pos h3]
theorem r1_fe {e : Nat} {v : Int} (hq : r1F n f xc xn xl k false s wc wt = w) (hk : 0 < k) (h2 : sN n f s.1 = iI ((32 : Nat) : Int)) (he : e = rowE n f (n - (s.1 + 1)) (s.1 + 1)) (hv : v = wd0 (jS n f (s.1 + 1) e)) (h3 : ¬ (v = 0 ∨ s.2.2.2.2.1 + cnt6 wt wc = 40)) (h4 : ¬ sN n f e = iI ((32 : Nat) : Int)) : w = (false, (e, e, s.2.2), wc, wt) := by
  obtain ⟨k, rfl⟩ : ∃ j, k = j + 1 := ⟨k - 1, by omega⟩
  have a := i32_41 h2
  subst hq
  subst he
  subst hv
  simp only [r1F]
  rw [if_neg (by omega), if_neg (fun h => a.2 h.1), if_pos h2, if_neg h3, if_neg h4]
theorem r1_word {e z : Nat} {v : Int} {r : ST} (hq : r1F n f xc xn xl k false s wc wt = w) (hk : 0 < k) (h2 : sN n f s.1 = iI ((32 : Nat) : Int)) (he : e = rowE n f (n - (s.1 + 1)) (s.1 + 1)) (hv : v = wd0 (jS n f (s.1 + 1) e)) (h3 : ¬ (v = 0 ∨ s.2.2.2.2.1 + cnt6 wt wc = 40)) (h4 : sN n f e = iI ((32 : Nat) : Int)) (hz : z = if v = 3 then 1 else 0) (er : r = stF wt z wc s.2.2.2.2.1 s.2.2.2.2.2.1 s.2.2.2.2.2.2) : r1F n f xc xn xl (k - 1) true (wSt s (e + 1) r) (r.2.2.2 + 1) (up wt r.2.2.2 v.toNat) = w := by
  obtain ⟨k, rfl⟩ : ∃ j, k = j + 1 := ⟨k - 1, by omega⟩
  have a := i32_41 h2
  subst hq
  subst he
  subst er
  subst hz
  subst hv
  simp only [r1F, Nat.add_sub_cancel]
  rw [if_neg (show ¬ (s.1 = n ∧ dpt6 wt wc = 0) by omega), if_neg (show ¬ (sN n f s.1 = iI ((41 : Nat) : Int) ∧ 0 < dpt6 wt wc) from fun h => a.2 h.1), if_pos h2, if_neg h3, if_pos h4]
end R1
theorem RIx_lf {n : Nat} {f : Nat → Int32} {xc : Nat} {xn : Nat → Nat} {xl : Nat → Int32} {nd : Nat → QD} {bg : Nat → Nat} {ap wr un : Nat} {uf : Nat → Int32} {bc wc : Nat} {wt : Nat → Nat} {w : Bool × QLS} (h : RIx (lfP xc) true nd bg bc wc wt) (hw : w = lfR n f xc xn xl (bc + cntB (fun z9 => decide (wt z9 < 6)) wc) (ap, wr, un, uf, bc, nd, bg)) (ht : w.1 = true) (h1 : ap ≤ n) (hx : xc ≤ 8) : RIx (lfP xc) false w.2.2.2.2.2.2.1 w.2.2.2.2.2.2.2 w.2.2.2.2.2.1 wc wt := by
  obtain ⟨a, _, _, q, hq, e⟩ := lfR_ok hw h1 hx ht
  rw [e]
  exact RIx_leaf h a hq
theorem wt_up {wt : Nat → Nat} {c v : Nat} (h : ∀ k, wt k < 1000) (hv : v < 1000) : ∀ k, up wt c v k < 1000 := by
  intro k
  unfold up
  split
  · exact hv
  · exact h k
theorem wd0_v (n : Nat) (f : Nat → Int32) (p e : Nat) (h : ¬ wd0 (jS n f p e) = 0) : (wd0 (jS n f p e)).toNat = 3 ∨ (wd0 (jS n f p e)).toNat = 4 ∨ (wd0 (jS n f p e)).toNat = 5 := by
  have a := wd0_0 n f p e
  have b := a.2.2.2 h
  omega
/-! ===== form 1 ===== -/
def ok2 (K : KL) : Prop := ∀ i ∈ K, ((i.1 = 13 ∨ i.1 = 14 ∨ i.1 = 15) ∧ i.2 = []) ∨ i.1 = 23 ∨ i.1 = 24 ∨ i.1 = 25
theorem ok2_len : ∀ (K : KL), ok2 K → (flK K).length = szL (opK K) + K.length
  | [], _ => rfl
  | i :: K, h => by
    have a := ok2_len K (fun j hj => h j (List.mem_cons_of_mem _ hj))
    have b := h i (List.mem_cons_self ..)
    simp only [flK, opK, List.length_append, List.length_cons, flI]
    rw [if_neg (by omega)]
    by_cases c : 20 ≤ i.1
    · rw [if_pos (Or.inr c)]
      simp only [List.length_cons, szL]
      omega
    · rw [if_neg (by omega)]
      rcases b with b | b
      · rw [b.2]
        simp only [List.length_cons, List.length_nil]
        omega
      · omega
def R2 (P : QD → Prop) (nd : Nat → QD) (bg : Nat → Nat) (bc wc : Nat) (wt : Nat → Nat) (K : KL) (T : List (List QD)) : Prop :=
  ok2 K ∧ wc = K.length ∧ WK wt K ∧ HF P nd bg (T ++ opK K) bc ∧ bc + wc ≤ 40 ∧ wc ≤ 20
theorem ok2_c6 {wt : Nat → Nat} : ∀ (K : KL), ok2 K → WK wt K → nK P6 K = 0
  | [], _, _ => rfl
  | i :: K, h, hw => by
    have a := ok2_c6 (wt := wt) K (fun j hj => h j (List.mem_cons_of_mem _ hj)) hw.2
    have b := h i (List.mem_cons_self ..)
    simp only [nK]
    rw [a, P6_f (by omega)]
theorem R2_b {P : QD → Prop} {nd : Nat → QD} {bg : Nat → Nat} {bc wc : Nat} {wt : Nat → Nat} {K : KL} {T : List (List QD)} (h : R2 P nd bg bc wc wt K T) : cntB (fun z9 => decide (wt z9 < 6)) wc = 0 ∧ bc + wc = (flK K).length + szL T := by
  obtain ⟨h1, h2, h3, h4, h5, h6⟩ := h
  subst h2
  have a : cntB (fun z9 => decide (wt z9 < 6)) K.length = nK P6 K := nK_cnt (P := P6) K h3
  have b := ok2_c6 K h1 h3
  have c := ok2_len K h1
  have d := HF_len _ _ h4
  rw [szL_app] at d
  exact ⟨by omega, by omega⟩
theorem R2_open {P : QD → Prop} {nd : Nat → QD} {bg : Nat → Nat} {bc wc : Nat} {wt : Nat → Nat} {K : KL} {T : List (List QD)} {v : Nat} (h : R2 P nd bg bc wc wt K T) (hv : v = 3 ∨ v = 4 ∨ v = 5) (hc : bc + wc < 40) (hd : wc < 20) : R2 P nd bg bc (wc + 1) (up wt wc (10 + v)) ((10 + v, []) :: K) T := by
  obtain ⟨h1, h2, h3, h4, h5, h6⟩ := h
  subst h2
  refine ⟨?_, rfl, ⟨up_eq _ _ _, WK_up K (Nat.le_refl _) h3⟩, ?_, by omega, by omega⟩
  · intro i hi
    rcases List.mem_cons.mp hi with rfl | hi
    · exact Or.inl ⟨by show 10 + v = 13 ∨ 10 + v = 14 ∨ 10 + v = 15; omega, rfl⟩
    · exact h1 i hi
  · simp only [opK]
    rw [if_neg (by omega)]
    exact h4
theorem R2_leaf {P : QD → Prop} {nd : Nat → QD} {bg : Nat → Nat} {bc wc : Nat} {wt : Nat → Nat} {K : KL} {q : QD} (h : R2 P nd bg bc wc wt K []) (hd : bc + wc < 40) (hq : P q) : R2 P (up nd bc q) (up bg bc bc) (bc + 1) wc wt K [[q]] := by
  obtain ⟨h1, h2, h3, h4, h5, h6⟩ := h
  exact ⟨h1, h2, h3, HF_leaf h4 hq, by omega, h6⟩
theorem R2_top {P : QD → Prop} {nd : Nat → QD} {bg : Nat → Nat} {bc wc : Nat} {wt : Nat → Nat} {K : KL} {T : List (List QD)} (h : R2 P nd bg bc wc wt K T) (hd : 0 < wc) : ∃ v u K', K = (v, u) :: K' ∧ wt (wc - 1) = v ∧ (((v = 13 ∨ v = 14 ∨ v = 15) ∧ u = []) ∨ v = 23 ∨ v = 24 ∨ v = 25) ∧ wc - 1 = K'.length := by
  obtain ⟨h1, h2, h3, h4, h5, h6⟩ := h
  cases K with
  | nil => simp at h2; omega
  | cons i K =>
    have e : wc - 1 = K.length := by simp only [List.length_cons] at h2; omega
    exact ⟨i.1, i.2, K, rfl, by rw [e]; exact h3.1, h1 i (List.mem_cons_self ..), e⟩
theorem R2_flip {P : QD → Prop} {nd : Nat → QD} {bg : Nat → Nat} {bc wc : Nat} {wt : Nat → Nat} {K : KL} {v : Nat} {u t : List QD} (h : R2 P nd bg bc wc wt ((v, u) :: K) [t]) (hv : v < 20) : R2 P nd bg bc wc (up wt (wc - 1) (wt (wc - 1) + 10)) ((v + 10, t) :: K) [] := by
  obtain ⟨h1, h2, h3, h4, h5, h6⟩ := h
  have e : wc - 1 = K.length := by simp only [List.length_cons] at h2; omega
  have b := h1 (v, u) (List.mem_cons_self ..)
  dsimp only at b
  have w0 : wt K.length = v := h3.1
  refine ⟨?_, h2, ⟨by rw [e, up_eq, w0], by rw [e]; exact WK_up K (Nat.le_refl _) h3.2⟩, ?_, h5, h6⟩
  · intro i hi
    rcases List.mem_cons.mp hi with rfl | hi
    · exact Or.inr (by show v + 10 = 23 ∨ v + 10 = 24 ∨ v + 10 = 25; omega)
    · exact h1 i (List.mem_cons_of_mem _ hi)
  · simp only [opK, List.nil_append]
    rw [if_pos (by omega)]
    simp only [opK] at h4
    rw [if_neg (by omega)] at h4
    exact h4
theorem R2_join {P : QD → Prop} {nd : Nat → QD} {bg : Nat → Nat} {bc wc : Nat} {wt : Nat → Nat} {K : KL} {v : Nat} {u t : List QD} (h : R2 P nd bg bc wc wt ((v, u) :: K) [t]) (hv : 20 ≤ v) : (1 ≤ bc ∧ bc < 40 ∧ 1 ≤ bg (bc - 1) ∧ bg (bc - 1) ≤ 40) ∧ wt (wc - 1) = v ∧ R2 P (up nd bc (nO (v - 20))) (up bg bc (bg (bg (bc - 1) - 1))) (bc + 1) (wc - 1) wt K [nO (v - 20) :: (u ++ t)] := by
  obtain ⟨h1, h2, h3, h4, h5, h6⟩ := h
  have e : wc - 1 = K.length := by simp only [List.length_cons] at h2; omega
  have b := h1 (v, u) (List.mem_cons_self ..)
  dsimp only at b
  simp only [opK, List.singleton_append] at h4
  rw [if_pos (by omega)] at h4
  have j := HF_join (o := v - 20) h4 (by omega)
  have w0 : wt K.length = v := h3.1
  simp only [List.length_cons] at h2
  exact ⟨⟨j.1.1, by omega, j.1.2.1, by omega⟩, by rw [e]; exact w0, fun i hi => h1 i (List.mem_cons_of_mem _ hi), e, h3.2, j.2, by omega, by omega⟩
def R2x (P : QD → Prop) (tm : Bool) (nd : Nat → QD) (bg : Nat → Nat) (bc wc : Nat) (wt : Nat → Nat) : Prop := ∃ K, if tm = true then R2 P nd bg bc wc wt K [] else ∃ t, R2 P nd bg bc wc wt K [t]
theorem R2x_ff {P : QD → Prop} {nd : Nat → QD} {bg : Nat → Nat} {bc wc : Nat} {wt : Nat → Nat} : R2x P false nd bg bc wc wt ↔ ∃ K t, R2 P nd bg bc wc wt K [t] := Iff.rfl
theorem R2x_tt {P : QD → Prop} {nd : Nat → QD} {bg : Nat → Nat} {bc wc : Nat} {wt : Nat → Nat} : R2x P true nd bg bc wc wt ↔ ∃ K, R2 P nd bg bc wc wt K [] := Iff.rfl
theorem R2x_b {P : QD → Prop} {tm : Bool} {nd : Nat → QD} {bg : Nat → Nat} {bc wc : Nat} {wt : Nat → Nat} (h : R2x P tm nd bg bc wc wt) : bc + wc ≤ 40 ∧ wc ≤ 20 ∧ bc + cntB (fun z9 => decide (wt z9 < 6)) wc ≤ 40 ∧ cntB (fun z9 => decide (wt z9 < 6)) wc = 0 := by
  cases tm with
  | true =>
    obtain ⟨K, h⟩ := R2x_tt.mp h
    have a := R2_b h
    have b := h.2.2.2.2
    omega
  | false =>
    obtain ⟨K, t, h⟩ := R2x_ff.mp h
    have a := R2_b h
    have b := h.2.2.2.2
    omega
theorem R2x_open {P : QD → Prop} {nd : Nat → QD} {bg : Nat → Nat} {bc wc : Nat} {wt : Nat → Nat} {v : Int} (h : R2x P true nd bg bc wc wt) (hv : v = 3 ∨ v = 4 ∨ v = 5) (hc : bc + wc ≠ 40) (hd : wc ≠ 20) : R2x P true nd bg bc (wc + 1) (up wt wc (10 + v).toNat) := by
  obtain ⟨K, h⟩ := R2x_tt.mp h
  have b := h.2.2.2.2
  rw [show (10 + v).toNat = 10 + v.toNat by omega]
  exact R2x_tt.mpr ⟨_, R2_open h (by omega) (by omega) (by omega)⟩
theorem nm2_ok {n : Nat} {f : Nat → Int32} {xc : Nat} {xn : Nat → Nat} {xl : Nat → Int32} {c wc : Nat} {s : QLS} {w : Bool × QLS} (hw : w = nm2 n f xc xn xl c wc s) (h1 : s.1 ≤ n) (hx : xc ≤ 8) : (w.1 = true → fnd (nmB xn xl n f s.1 (rowE n f (n - s.1) s.1)) xc 0 ≠ -1 ∧ s.1 < w.2.1 ∧ w.2.1 ≤ n ∧ ∃ q, lfP xc q ∧ w.2.2 = (s.2.1, s.2.2.1, s.2.2.2.1, s.2.2.2.2.1 + 1, up s.2.2.2.2.2.1 s.2.2.2.2.1 q, up s.2.2.2.2.2.2 s.2.2.2.2.1 s.2.2.2.2.1)) := by
  subst hw
  have a := rowE_rng n f (n - s.1) s.1
  have b := fnd_rng (nmB xn xl n f s.1 (rowE n f (n - s.1) s.1)) xc 0
  unfold nm2
  split
  · intro h; exact Bool.noConfusion h
  · split
    · intro h; exact Bool.noConfusion h
    · split
      · next c1 =>
        have s1 := sN_lt c1 (by decide)
        have p1 := tvP_rng n f (rowE n f (n - s.1) s.1 + 1) (by omega)
        split
        · intro h; exact Bool.noConfusion h
        · split
          · next c2 =>
            have s2 := sN_lt c2 (by decide)
            split
            · intro h
              have r := rnG_ok (n := n) (f := f) (s := (tvP n f (rowE n f (n - s.1) s.1 + 1) + 1, s.2)) (ix := fnd (nmB xn xl n f s.1 (rowE n f (n - s.1) s.1)) xc 0) (lo := tvR n f (rowE n f (n - s.1) s.1 + 1)) (xc := xc) (by dsimp only; omega) (by omega) (by omega) hx h
              dsimp only at r
              exact ⟨by assumption, by omega, r.2.1, r.2.2⟩
            · split
              · next c3 =>
                have s3 := sN_lt c3 (by decide)
                intro _
                refine ⟨by assumption, ?_, ?_, _, lfP_mk (by decide) (by omega) (by omega) hx, rfl⟩
                · show s.1 < tvP n f (rowE n f (n - s.1) s.1 + 1) + 2
                  omega
                · show tvP n f (rowE n f (n - s.1) s.1 + 1) + 2 ≤ n
                  omega
              · split
                · intro h; exact Bool.noConfusion h
                · intro _
                  refine ⟨by assumption, ?_, ?_, _, lfP_mk (by decide) (by omega) (by omega) hx, rfl⟩
                  · show s.1 < tvP n f (rowE n f (n - s.1) s.1 + 1)
                    omega
                  · show tvP n f (rowE n f (n - s.1) s.1 + 1) ≤ n
                    omega
          · intro _
            refine ⟨by assumption, ?_, ?_, _, lfP_mk (by decide) (by omega) (by omega) hx, rfl⟩
            · show s.1 < tvP n f (rowE n f (n - s.1) s.1 + 1)
              omega
            · show tvP n f (rowE n f (n - s.1) s.1 + 1) ≤ n
              omega
      · intro h; exact Bool.noConfusion h
theorem R2x_lf {n : Nat} {f : Nat → Int32} {xc : Nat} {xn : Nat → Nat} {xl : Nat → Int32} {nd : Nat → QD} {bg : Nat → Nat} {ap wr un : Nat} {uf : Nat → Int32} {bc wc cc : Nat} {wt : Nat → Nat} {w : Bool × QLS} (h : R2x (lfP xc) true nd bg bc wc wt) (hw : w = nm2 n f xc xn xl cc wc (ap, wr, un, uf, bc, nd, bg)) (ht : w.1 = true) (h1 : ap ≤ n) (hx : xc ≤ 8) (h40 : bc + wc ≠ 40) : R2x (lfP xc) false w.2.2.2.2.2.2.1 w.2.2.2.2.2.2.2 w.2.2.2.2.2.1 wc wt := by
  obtain ⟨_, _, _, q, hq, e⟩ := nm2_ok hw h1 hx ht
  obtain ⟨K, h⟩ := R2x_tt.mp h
  have b := h.2.2.2.2
  rw [e]
  exact R2x_ff.mpr ⟨K, [q], R2_leaf h (show bc + wc < 40 by omega) hq⟩
theorem R2x_top {P : QD → Prop} {nd : Nat → QD} {bg : Nat → Nat} {bc wc : Nat} {wt : Nat → Nat} (h : R2x P false nd bg bc wc wt) (hd : ¬ wc = 0) : (wt (wc - 1) < 20 → R2x P true nd bg bc wc (up wt (wc - 1) (wt (wc - 1) + 10))) ∧ (¬ wt (wc - 1) < 20 → (1 ≤ bc ∧ bc < 40 ∧ 1 ≤ bg (bc - 1) ∧ bg (bc - 1) ≤ 40) ∧ R2x P false (up nd bc (iI (((wt (wc - 1) - 20 : Nat)) : Int), iI (-1), iI (-1), iI (-1))) (up bg bc (bg (bg (bc - 1) - 1))) (bc + 1) (wc - 1) wt) := by
  obtain ⟨K, t, h⟩ := R2x_ff.mp h
  obtain ⟨v, u, K', rfl, hv, _, _⟩ := R2_top h (by omega)
  refine ⟨fun hl => R2x_tt.mpr ⟨_, R2_flip h (by omega)⟩, fun hl => ?_⟩
  have a := R2_join h (by omega)
  rw [hv]
  exact ⟨a.1, R2x_ff.mpr ⟨_, _, a.2.2⟩⟩
def fpl (n : Nat) (f : Nat → Int32) (c : Nat) (p : Nat) : Nat := if sN n f p = iI ((c : Nat) : Int) then p + 1 else p
def r2F (n : Nat) (f : Nat → Int32) (xc : Nat) (xn : Nat → Nat) (xl : Nat → Int32) : Nat → Bool → QLS → Nat → (Nat → Nat) → Bool × RM
  | 0, _, s, wc, wt => (false, s, wc, wt)
  | k + 1, true, s, wc, wt =>
    if 0 < wd0 (jS n f s.1 (rowE n f (n - s.1) s.1)) then
      (if s.2.2.2.2.1 + wc = 40 then (false, (s.1, s.1, s.2.2), wc, wt)
       else if sN n f (rowE n f (n - s.1) s.1) = iI ((32 : Nat) : Int) then
         (if sN n f (rowE n f (n - s.1) s.1 + 1) = iI ((40 : Nat) : Int) ∧ wc = 20 then (false, (rowE n f (n - s.1) s.1 + 1, rowE n f (n - s.1) s.1 + 1, s.2.2), wc, wt)
          else if sN n f (rowE n f (n - s.1) s.1 + 1) = iI ((40 : Nat) : Int) ∧ sN n f (rowE n f (n - s.1) s.1 + 1 + 1) = iI ((32 : Nat) : Int) then r2F n f xc xn xl k true (rowE n f (n - s.1) s.1 + 1 + 1 + 1, s.2) (wc + 1) (up wt wc (10 + wd0 (jS n f s.1 (rowE n f (n - s.1) s.1))).toNat)
          else (false, (fpl n f 40 (rowE n f (n - s.1) s.1 + 1), fpl n f 40 (rowE n f (n - s.1) s.1 + 1), s.2.2), wc, wt))
       else (false, (rowE n f (n - s.1) s.1, rowE n f (n - s.1) s.1, s.2.2), wc, wt))
    else if isL (sN n f s.1) = false then (false, (s.1, s.1, s.2.2), wc, wt)
    else if ¬ fnd (nmB xn xl n f s.1 (rowE n f (n - s.1) s.1)) xc 0 = -1 ∧ s.2.2.2.2.1 + wc = 40 then (false, (s.1, s.1, s.2.2), wc, wt)
    else if (nm2 n f xc xn xl (s.2.2.2.2.1 + cnt6 wt wc) wc s).1 = true then r2F n f xc xn xl k false (nm2 n f xc xn xl (s.2.2.2.2.1 + cnt6 wt wc) wc s).2 wc wt
    else (false, (nm2 n f xc xn xl (s.2.2.2.2.1 + cnt6 wt wc) wc s).2, wc, wt)
  | k + 1, false, s, wc, wt =>
    if wc = 0 then (if s.1 = n then (true, s, wc, wt) else (false, (s.1, s.1, s.2.2), wc, wt))
    else if sN n f s.1 = iI ((32 : Nat) : Int) ∧ sN n f (s.1 + 1) = iI ((41 : Nat) : Int) then
      (if wt (wc - 1) < 20 then
        (if sN n f (s.1 + 1 + 1) = iI ((32 : Nat) : Int) ∧ sN n f (s.1 + 1 + 1 + 1) = iI ((40 : Nat) : Int) then
          (if sN n f (s.1 + 1 + 1 + 1 + 1) = iI ((32 : Nat) : Int) then r2F n f xc xn xl k true (s.1 + 1 + 1 + 1 + 1 + 1, s.2) wc (up wt (wc - 1) (wt (wc - 1) + 10))
           else (false, (s.1 + 1 + 1 + 1 + 1, s.1 + 1 + 1 + 1 + 1, s.2.2), wc, wt))
         else (false, (fpl n f 32 (s.1 + 1 + 1), fpl n f 32 (s.1 + 1 + 1), s.2.2), wc, wt))
       else r2F n f xc xn xl k false (s.1 + 1 + 1, s.2.1, s.2.2.1, s.2.2.2.1, s.2.2.2.2.1 + 1, up s.2.2.2.2.2.1 s.2.2.2.2.1 (iI (((wt (wc - 1) - 20 : Nat)) : Int), iI (-1), iI (-1), iI (-1)), up s.2.2.2.2.2.2 s.2.2.2.2.1 (s.2.2.2.2.2.2 (s.2.2.2.2.2.2 (s.2.2.2.2.1 - 1) - 1))) (wc - 1) wt)
    else (false, (fpl n f 32 s.1, fpl n f 32 s.1, s.2.2), wc, wt)
section R2S
variable {n : Nat} {f : Nat → Int32} {xc : Nat} {xn : Nat → Nat} {xl : Nat → Int32} {k wc : Nat} {s : QLS} {wt : Nat → Nat} {w : Bool × RM}
theorem r2_40 {e : Nat} (hq : r2F n f xc xn xl k true s wc wt = w) (hk : 0 < k) (he : e = rowE n f (n - s.1) s.1) (hv : 0 < wd0 (jS n f s.1 e)) (h2 : s.2.2.2.2.1 + wc = 40) : w = (false, (s.1, s.1, s.2.2), wc, wt) := by
  obtain ⟨k, rfl⟩ : ∃ j, k = j + 1 := ⟨k - 1, by omega⟩
  subst hq; subst he
  simp only [r2F]
  rw [if_pos hv, if_pos h2]
theorem r2_e {e : Nat} (hq : r2F n f xc xn xl k true s wc wt = w) (hk : 0 < k) (he : e = rowE n f (n - s.1) s.1) (hv : 0 < wd0 (jS n f s.1 e)) (h2 : ¬ s.2.2.2.2.1 + wc = 40) (h3 : ¬ sN n f e = iI ((32 : Nat) : Int)) : w = (false, (e, e, s.2.2), wc, wt) := by
  obtain ⟨k, rfl⟩ : ∃ j, k = j + 1 := ⟨k - 1, by omega⟩
  subst hq; subst he
  simp only [r2F]
  rw [if_pos hv, if_neg h2, if_neg h3]
theorem r2_20 {e : Nat} (hq : r2F n f xc xn xl k true s wc wt = w) (hk : 0 < k) (he : e = rowE n f (n - s.1) s.1) (hv : 0 < wd0 (jS n f s.1 e)) (h2 : ¬ s.2.2.2.2.1 + wc = 40) (h3 : sN n f e = iI ((32 : Nat) : Int)) (h4 : sN n f (e + 1) = iI ((40 : Nat) : Int)) (h5 : wc = 20) : w = (false, (e + 1, e + 1, s.2.2), wc, wt) := by
  obtain ⟨k, rfl⟩ : ∃ j, k = j + 1 := ⟨k - 1, by omega⟩
  subst hq; subst he
  simp only [r2F]
  rw [if_pos hv, if_neg h2, if_pos h3, if_pos ⟨h4, h5⟩]
theorem r2_f40 {e : Nat} (hq : r2F n f xc xn xl k true s wc wt = w) (hk : 0 < k) (he : e = rowE n f (n - s.1) s.1) (hv : 0 < wd0 (jS n f s.1 e)) (h2 : ¬ s.2.2.2.2.1 + wc = 40) (h3 : sN n f e = iI ((32 : Nat) : Int)) (h4 : ¬ (sN n f (e + 1) = iI ((40 : Nat) : Int) ∧ wc = 20)) (h5 : ¬ (sN n f (e + 1) = iI ((40 : Nat) : Int) ∧ sN n f (e + 1 + 1) = iI ((32 : Nat) : Int))) : w = (false, (fpl n f 40 (e + 1), fpl n f 40 (e + 1), s.2.2), wc, wt) := by
  obtain ⟨k, rfl⟩ : ∃ j, k = j + 1 := ⟨k - 1, by omega⟩
  subst hq; subst he
  simp only [r2F]
  rw [if_pos hv, if_neg h2, if_pos h3, if_neg h4, if_neg h5]
theorem r2_open {e : Nat} (hq : r2F n f xc xn xl k true s wc wt = w) (hk : 0 < k) (he : e = rowE n f (n - s.1) s.1) (hv : 0 < wd0 (jS n f s.1 e)) (h2 : ¬ s.2.2.2.2.1 + wc = 40) (h3 : sN n f e = iI ((32 : Nat) : Int)) (h4 : ¬ wc = 20) (h5 : sN n f (e + 1) = iI ((40 : Nat) : Int) ∧ sN n f (e + 1 + 1) = iI ((32 : Nat) : Int)) : r2F n f xc xn xl (k - 1) true (e + 1 + 1 + 1, s.2) (wc + 1) (up wt wc (10 + wd0 (jS n f s.1 e)).toNat) = w := by
  obtain ⟨k, rfl⟩ : ∃ j, k = j + 1 := ⟨k - 1, by omega⟩
  subst hq; subst he
  simp only [r2F, Nat.add_sub_cancel]
  rw [if_pos hv, if_neg h2, if_pos h3, if_neg (fun h => h4 h.2), if_pos h5]
theorem r2_fl (hq : r2F n f xc xn xl k true s wc wt = w) (hk : 0 < k) (hv : ¬ 0 < wd0 (jS n f s.1 (rowE n f (n - s.1) s.1))) (h2 : isL (sN n f s.1) = false) : w = (false, (s.1, s.1, s.2.2), wc, wt) := by
  obtain ⟨k, rfl⟩ : ∃ j, k = j + 1 := ⟨k - 1, by omega⟩
  subst hq
  simp only [r2F]
  rw [if_neg hv, if_pos h2]
theorem r2_fn (hq : r2F n f xc xn xl k true s wc wt = w) (hk : 0 < k) (hv : ¬ 0 < wd0 (jS n f s.1 (rowE n f (n - s.1) s.1))) (h2 : isL (sN n f s.1) = true) (h3 : ¬ fnd (nmB xn xl n f s.1 (rowE n f (n - s.1) s.1)) xc 0 = -1) (h4 : s.2.2.2.2.1 + wc = 40) : w = (false, (s.1, s.1, s.2.2), wc, wt) := by
  obtain ⟨k, rfl⟩ : ∃ j, k = j + 1 := ⟨k - 1, by omega⟩
  subst hq
  simp only [r2F]
  rw [if_neg hv, if_neg (by rw [h2]; decide), if_pos ⟨h3, h4⟩]
theorem r2_leaf {w1 : Bool × QLS} (hq : r2F n f xc xn xl k true s wc wt = w) (hk : 0 < k) (hv : ¬ 0 < wd0 (jS n f s.1 (rowE n f (n - s.1) s.1))) (h2 : isL (sN n f s.1) = true) (h3 : fnd (nmB xn xl n f s.1 (rowE n f (n - s.1) s.1)) xc 0 = -1 ∨ ¬ s.2.2.2.2.1 + wc = 40) (e1 : w1 = nm2 n f xc xn xl (s.2.2.2.2.1 + cnt6 wt wc) wc s) (h4 : w1.1 = true) : r2F n f xc xn xl (k - 1) false w1.2 wc wt = w := by
  obtain ⟨k, rfl⟩ : ∃ j, k = j + 1 := ⟨k - 1, by omega⟩
  subst hq; subst e1
  simp only [r2F, Nat.add_sub_cancel]
  rw [if_neg hv, if_neg (by rw [h2]; decide), if_neg (fun h => h3.elim h.1 (fun q => q h.2)), if_pos h4]
theorem r2_fleaf {w1 : Bool × QLS} (hq : r2F n f xc xn xl k true s wc wt = w) (hk : 0 < k) (hv : ¬ 0 < wd0 (jS n f s.1 (rowE n f (n - s.1) s.1))) (h2 : isL (sN n f s.1) = true) (h3 : fnd (nmB xn xl n f s.1 (rowE n f (n - s.1) s.1)) xc 0 = -1 ∨ ¬ s.2.2.2.2.1 + wc = 40) (e1 : w1 = nm2 n f xc xn xl (s.2.2.2.2.1 + cnt6 wt wc) wc s) (h4 : w1.1 = false) : w = (false, w1.2, wc, wt) := by
  obtain ⟨k, rfl⟩ : ∃ j, k = j + 1 := ⟨k - 1, by omega⟩
  subst hq; subst e1
  simp only [r2F]
  rw [if_neg hv, if_neg (by rw [h2]; decide), if_neg (fun h => h3.elim h.1 (fun q => q h.2)), if_neg (by rw [h4]; decide)]
theorem r2_end (hq : r2F n f xc xn xl k false s wc wt = w) (hk : 0 < k) (h1 : wc = 0) (h2 : s.1 = n) : w = (true, s, wc, wt) := by
  obtain ⟨k, rfl⟩ : ∃ j, k = j + 1 := ⟨k - 1, by omega⟩
  subst hq
  simp only [r2F]
  rw [if_pos h1, if_pos h2]
theorem r2_fend (hq : r2F n f xc xn xl k false s wc wt = w) (hk : 0 < k) (h1 : wc = 0) (h2 : ¬ s.1 = n) : w = (false, (s.1, s.1, s.2.2), wc, wt) := by
  obtain ⟨k, rfl⟩ : ∃ j, k = j + 1 := ⟨k - 1, by omega⟩
  subst hq
  simp only [r2F]
  rw [if_pos h1, if_neg h2]
theorem r2_f41 (hq : r2F n f xc xn xl k false s wc wt = w) (hk : 0 < k) (h1 : ¬ wc = 0) (h2 : ¬ (sN n f s.1 = iI ((32 : Nat) : Int) ∧ sN n f (s.1 + 1) = iI ((41 : Nat) : Int))) : w = (false, (fpl n f 32 s.1, fpl n f 32 s.1, s.2.2), wc, wt) := by
  obtain ⟨k, rfl⟩ : ∃ j, k = j + 1 := ⟨k - 1, by omega⟩
  subst hq
  simp only [r2F]
  rw [if_neg h1, if_neg h2]
theorem r2_fb (hq : r2F n f xc xn xl k false s wc wt = w) (hk : 0 < k) (h1 : ¬ wc = 0) (h2 : sN n f s.1 = iI ((32 : Nat) : Int) ∧ sN n f (s.1 + 1) = iI ((41 : Nat) : Int)) (h3 : wt (wc - 1) < 20) (h4 : ¬ (sN n f (s.1 + 1 + 1) = iI ((32 : Nat) : Int) ∧ sN n f (s.1 + 1 + 1 + 1) = iI ((40 : Nat) : Int))) : w = (false, (fpl n f 32 (s.1 + 1 + 1), fpl n f 32 (s.1 + 1 + 1), s.2.2), wc, wt) := by
  obtain ⟨k, rfl⟩ : ∃ j, k = j + 1 := ⟨k - 1, by omega⟩
  subst hq
  simp only [r2F]
  rw [if_neg h1, if_pos h2, if_pos h3, if_neg h4]
theorem r2_fc (hq : r2F n f xc xn xl k false s wc wt = w) (hk : 0 < k) (h1 : ¬ wc = 0) (h2 : sN n f s.1 = iI ((32 : Nat) : Int) ∧ sN n f (s.1 + 1) = iI ((41 : Nat) : Int)) (h3 : wt (wc - 1) < 20) (h4 : sN n f (s.1 + 1 + 1) = iI ((32 : Nat) : Int) ∧ sN n f (s.1 + 1 + 1 + 1) = iI ((40 : Nat) : Int)) (h5 : ¬ sN n f (s.1 + 1 + 1 + 1 + 1) = iI ((32 : Nat) : Int)) : w = (false, (s.1 + 1 + 1 + 1 + 1, s.1 + 1 + 1 + 1 + 1, s.2.2), wc, wt) := by
  obtain ⟨k, rfl⟩ : ∃ j, k = j + 1 := ⟨k - 1, by omega⟩
  subst hq
  simp only [r2F]
  rw [if_neg h1, if_pos h2, if_pos h3, if_pos h4, if_neg h5]
theorem r2_flip (hq : r2F n f xc xn xl k false s wc wt = w) (hk : 0 < k) (h1 : ¬ wc = 0) (h2 : sN n f s.1 = iI ((32 : Nat) : Int) ∧ sN n f (s.1 + 1) = iI ((41 : Nat) : Int)) (h3 : wt (wc - 1) < 20) (h4 : sN n f (s.1 + 1 + 1) = iI ((32 : Nat) : Int) ∧ sN n f (s.1 + 1 + 1 + 1) = iI ((40 : Nat) : Int)) (h5 : sN n f (s.1 + 1 + 1 + 1 + 1) = iI ((32 : Nat) : Int)) : r2F n f xc xn xl (k - 1) true (s.1 + 1 + 1 + 1 + 1 + 1, s.2) wc (up wt (wc - 1) (wt (wc - 1) + 10)) = w := by
  obtain ⟨k, rfl⟩ : ∃ j, k = j + 1 := ⟨k - 1, by omega⟩
  subst hq
  simp only [r2F, Nat.add_sub_cancel]
  rw [if_neg h1, if_pos h2, if_pos h3, if_pos h4, if_pos h5]
theorem r2_join (hq : r2F n f xc xn xl k false s wc wt = w) (hk : 0 < k) (h1 : ¬ wc = 0) (h2 : sN n f s.1 = iI ((32 : Nat) : Int) ∧ sN n f (s.1 + 1) = iI ((41 : Nat) : Int)) (h3 : ¬ wt (wc - 1) < 20) : r2F n f xc xn xl (k - 1) false (s.1 + 1 + 1, s.2.1, s.2.2.1, s.2.2.2.1, s.2.2.2.2.1 + 1, up s.2.2.2.2.2.1 s.2.2.2.2.1 (iI (((wt (wc - 1) - 20 : Nat)) : Int), iI (-1), iI (-1), iI (-1)), up s.2.2.2.2.2.2 s.2.2.2.2.1 (s.2.2.2.2.2.2 (s.2.2.2.2.2.2 (s.2.2.2.2.1 - 1) - 1))) (wc - 1) wt = w := by
  obtain ⟨k, rfl⟩ : ∃ j, k = j + 1 := ⟨k - 1, by omega⟩
  subst hq
  simp only [r2F, Nat.add_sub_cancel]
  rw [if_neg h1, if_pos h2, if_neg h3]
end R2S
