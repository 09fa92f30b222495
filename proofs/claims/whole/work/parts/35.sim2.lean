/-! ===== form 1: the class and the reference read alike ===== -/
section SF
variable {n : Nat} {f : Nat → Int32} {xc : Nat} {xn : Nat → Nat} {xl : Nat → Int32}
def RA2 (xc : Nat) (K : KL) (s : RS) (m : QLS) (wc : Nat) (wt : Nat → Nat) : Prop := m.1 = s.1 ∧ m.2.2.1 = s.2.2.2.1 ∧ m.2.2.2.1 = s.2.2.2.2 ∧ lsN s.2.2.1 s.2.1 = flK K ∧ R2 (lfP xc) m.2.2.2.2.2.1 m.2.2.2.2.2.2 m.2.2.2.2.1 wc wt K [] ∧ (∀ j, wt j < 1000)
def RB2 (xc : Nat) (K : KL) (t : List QD) (s : RS) (m : QLS) (wc : Nat) (wt : Nat → Nat) : Prop := m.1 = s.1 ∧ m.2.2.1 = s.2.2.2.1 ∧ m.2.2.2.1 = s.2.2.2.2 ∧ lsN s.2.2.1 s.2.1 = flK K ++ t ∧ R2 (lfP xc) m.2.2.2.2.2.1 m.2.2.2.2.2.2 m.2.2.2.2.1 wc wt K [t] ∧ (∀ j, wt j < 1000)
theorem RA2_cnt {K : KL} {s : RS} {m : QLS} {wc : Nat} {wt : Nat → Nat} (h : RA2 xc K s m wc wt) : m.2.2.2.2.1 + wc = s.2.1 ∧ cnt6 wt wc = 0 ∧ s.2.1 ≤ 40 ∧ wc ≤ 20 := by
  obtain ⟨h1, h2, h3, h4, h5, h6⟩ := h
  have a := R2_b h5
  have b := congrArg List.length h4
  rw [lsN_len] at b
  have c := h5.2.2.2.2
  simp only [szL] at a
  unfold cnt6
  omega
theorem RB2_cnt {K : KL} {t : List QD} {s : RS} {m : QLS} {wc : Nat} {wt : Nat → Nat} (h : RB2 xc K t s m wc wt) : m.2.2.2.2.1 + wc = s.2.1 ∧ cnt6 wt wc = 0 ∧ s.2.1 ≤ 40 ∧ wc ≤ 20 := by
  obtain ⟨h1, h2, h3, h4, h5, h6⟩ := h
  have a := R2_b h5
  have b := congrArg List.length h4
  rw [lsN_len, List.length_append] at b
  have c := h5.2.2.2.2
  simp only [szL] at a
  unfold cnt6
  omega
theorem tv_no {p : Nat} (h : isD (sN n f p) = false) : tvR n f p = -1 ∧ tvP n f p = p := by
  have e : tvL n f 5 0 p = (0, p) := by
    simp only [tvL]
    rw [if_neg (by rw [h]; decide)]
  unfold tvR tvP
  rw [e]
  exact ⟨if_pos (Or.inl rfl), rfl⟩
theorem isD_k {k : Nat} (h : k < 48) : isD (iI ((k : Nat) : Int)) = false := by
  unfold isD
  rw [iI_t (by omega)]
  exact decide_eq_false (by omega)
theorem leaf_sim2 {p tn : Nat} {nd : Nat → QD} {un : Nat} {uf : Nat → Int32} {wr bc : Nat} {nb : Nat → QD} {bg : Nat → Nat} {c dp wc : Nat} (hx : xc ≤ 8) (hp : p ≤ n) (ht : tn < 40 ∨ fnd (nmB xn xl n f p (rowE n f (n - p) p)) xc 0 = -1) (hc : c = 40 → tn = 40) (hw : wc = dp) (c1 : isL (sN n f p) = true) :
    LFS n xc p tn nd un uf wr bc nb bg (fLf n f xc xn xl dp (p, tn, nd, un, uf)) (nm2 n f xc xn xl c wc (p, wr, un, uf, bc, nb, bg)) ∨ (∃ q p', tn < 40 ∧ lfP xc q ∧ p < p' ∧ p' ≤ n ∧ 0 < dp ∧ sN n f p' = iI ((32 : Nat) : Int) ∧ ¬ sN n f (p' + 1) = iI ((41 : Nat) : Int) ∧ fLf n f xc xn xl dp (p, tn, nd, un, uf) = (false, (p' + 1, tn, nd, un, uf)) ∧ nm2 n f xc xn xl c wc (p, wr, un, uf, bc, nb, bg) = (true, (p', wr, un, uf, bc + 1, up nb bc q, up bg bc bc))) := by
  subst hw
  have hr := rowE_rng n f (n - p) p
  have hf := fnd_rng (nmB xn xl n f p (rowE n f (n - p) p)) xc 0
  unfold fLf nm2
  dsimp only
  by_cases c2 : fnd (nmB xn xl n f p (rowE n f (n - p) p)) xc 0 = -1
  · rw [tkN_2 (s := (p, tn, nd, un, uf)) c1 c2, if_pos rfl, if_pos c2]
    exact Or.inl (Or.inr ⟨_, _, rfl, rfl, rfl, rfl, rfl⟩)
  · have ht2 : tn < 40 := ht.resolve_right c2
    rw [if_neg c2, if_neg (by omega : ¬ c = 40), tkN_4 (s := (p, tn, nd, un, uf)) c1 c2 (by dsimp only; omega)]
    dsimp only
    rw [if_neg c2]
    by_cases c4 : sN n f (rowE n f (n - p) p) = iI ((32 : Nat) : Int)
    · have s4 := sN_lt c4 (by decide)
      have hq := tvP_rng n f (rowE n f (n - p) p + 1) (by omega)
      rw [if_pos c4, if_pos c4]
      by_cases c5 : tvR n f (rowE n f (n - p) p + 1) = -1
      · rw [if_pos c5, if_pos c5]
        exact Or.inl (Or.inr ⟨_, _, rfl, rfl, rfl, rfl, rfl⟩)
      · rw [if_neg c5, if_neg c5]
        unfold apB adN
        dsimp only
        generalize hQ : tvP n f (rowE n f (n - p) p + 1) = q at *
        by_cases c6 : 0 < wc ∧ sN n f (q + 1) = iI ((41 : Nat) : Int)
        · rw [if_pos c6, if_pos ht2]
          refine Or.inl (Or.inl ⟨_, _, ht2, lfP_mk (by decide) (by omega) (by omega) hx, by omega, hq.2, rfl, ?_⟩)
          by_cases c7 : sN n f q = iI ((32 : Nat) : Int)
          · rw [if_pos c7, if_neg (by rw [c6.2, isD_k (by decide)]; decide), if_neg (by rw [c6.2]; decide), if_neg (by omega)]
          · rw [if_neg c7]
        · rw [if_neg c6]
          by_cases c7 : sN n f q = iI ((32 : Nat) : Int)
          · have s7 := sN_lt c7 (by decide)
            rw [if_pos c7, if_pos c7]
            by_cases c8 : sN n f (q + 1) = iI ((42 : Nat) : Int)
            · have s8 := sN_lt c8 (by decide)
              rw [if_pos c8, if_pos ht2, if_neg (by rw [c8, isD_k (by decide)]; decide), if_pos c8]
              exact Or.inl (Or.inl ⟨_, _, ht2, lfP_mk (by decide) (by omega) (by omega) hx, by omega, by omega, rfl, rfl⟩)
            · rw [if_neg c8]
              cases c9 : isD (sN n f (q + 1)) with
              | true =>
                rw [if_pos rfl]
                exact Or.inl (rn_sim hx (by omega) (by omega) ht2 (by omega) (by omega))
              | false =>
                rw [if_neg (by decide), if_neg c8]
                have tv := tv_no c9
                unfold tkG
                dsimp only
                rw [if_pos tv.1, tv.2]
                by_cases c10 : wc = 0
                · rw [if_pos c10]
                  exact Or.inl (Or.inr ⟨_, _, rfl, rfl, rfl, rfl, rfl⟩)
                · rw [if_neg c10]
                  exact Or.inr ⟨_, _, ht2, lfP_mk (by decide) (by omega) (by omega) hx, by omega, hq.2, by omega, c7, fun e => c6 ⟨by omega, e⟩, rfl, rfl⟩
          · rw [if_neg c7, if_neg c7, if_pos ht2]
            exact Or.inl (Or.inl ⟨_, _, ht2, lfP_mk (by decide) (by omega) (by omega) hx, by omega, hq.2, rfl, rfl⟩)
    · rw [if_neg c4, if_neg c4]
      exact Or.inl (Or.inr ⟨_, _, rfl, rfl, rfl, rfl, rfl⟩)
/-- a tree of form 1, dp brackets open -/
def SimF (n : Nat) (f : Nat → Int32) (xc : Nat) (xn : Nat → Nat) (xl : Nat → Int32) (dp : Nat) (T : RS → Bool × RS) : Prop :=
  ∀ (K : KL) (s : RS) (m : QLS) (wt : Nat → Nat) (k : Nat), RA2 xc K s m dp wt → s.1 ≤ n → n - s.1 < k →
    ((T s).1 = true → ∃ t m' wt' k', RB2 xc K t (T s).2 m' dp wt' ∧ s.1 < (T s).2.1 ∧ (T s).2.1 ≤ n ∧ n - (T s).2.1 < k' ∧ r2F n f xc xn xl k true m dp wt = r2F n f xc xn xl k' false m' dp wt') ∧
    ((T s).1 = false → OUT (r2F n f xc xn xl k true m dp wt) (T s).2)
theorem fpl_y {c p : Nat} (h : sN n f p = iI ((c : Nat) : Int)) : fpl n f c p = p + 1 := if_pos h
theorem fpl_n {c p : Nat} (h : ¬ sN n f p = iI ((c : Nat) : Int)) : fpl n f c p = p := if_neg h
theorem sim_leafF {dp : Nat} {s : RS} {m : QLS} {wt : Nat → Nat} {k : Nat} {K : KL} (hx : xc ≤ 8) (h : RA2 xc K s m dp wt) (h1 : s.1 ≤ n) (hk : n - s.1 < k) (hj : jS n f s.1 (rowE n f (n - s.1) s.1) = -1) :
    ((fLf n f xc xn xl dp s).1 = true → ∃ t m' wt' k', RB2 xc K t (fLf n f xc xn xl dp s).2 m' dp wt' ∧ s.1 < (fLf n f xc xn xl dp s).2.1 ∧ (fLf n f xc xn xl dp s).2.1 ≤ n ∧ n - (fLf n f xc xn xl dp s).2.1 < k' ∧ r2F n f xc xn xl k true m dp wt = r2F n f xc xn xl k' false m' dp wt') ∧
    ((fLf n f xc xn xl dp s).1 = false → OUT (r2F n f xc xn xl k true m dp wt) (fLf n f xc xn xl dp s).2) := by
  have hc := RA2_cnt h
  have hkk : 0 < k := by omega
  obtain ⟨p, tn, nd, un, uf⟩ := s
  obtain ⟨mp, wr, mu, mf, bc, nb, bg⟩ := m
  obtain ⟨g1, g2, g3, g4, g5, g6⟩ := h
  dsimp only at *
  subst g1
  subst g2
  subst g3
  have hv : ¬ 0 < wd0 (jS n f mp (rowE n f (n - mp) mp)) := by rw [hj]; decide
  cases c1 : isL (sN n f mp) with
  | false =>
    have e : fLf n f xc xn xl dp (mp, tn, nd, mu, mf) = (false, (mp, tn, nd, mu, mf)) := by
      unfold fLf
      rw [tkN_1 (p := mp) rfl c1, if_pos rfl]
    rw [e]
    refine ⟨fun e => Bool.noConfusion e, fun _ => ?_⟩
    rw [r2_fl (s := (mp, wr, mu, mf, bc, nb, bg)) rfl hkk hv c1]
    exact ⟨rfl, rfl, rfl, rfl⟩
  | true =>
    by_cases c2 : ¬ fnd (nmB xn xl n f mp (rowE n f (n - mp) mp)) xc 0 = -1 ∧ tn = 40
    · have e : fLf n f xc xn xl dp (mp, tn, nd, mu, mf) = (false, (mp, tn, nd, mu, mf)) := by
        unfold fLf
        rw [tkN_3 (s := (mp, tn, nd, mu, mf)) c1 c2.1 (by dsimp only; omega), if_pos rfl]
      rw [e]
      refine ⟨fun e => Bool.noConfusion e, fun _ => ?_⟩
      rw [r2_fn (s := (mp, wr, mu, mf, bc, nb, bg)) rfl hkk hv c1 c2.1 (by dsimp only; omega)]
      exact ⟨rfl, rfl, rfl, rfl⟩
    · have ls := leaf_sim2 (n := n) (f := f) (xc := xc) (xn := xn) (xl := xl) (p := mp) (tn := tn) (nd := nd) (un := mu) (uf := mf) (wr := wr) (bc := bc) (nb := nb) (bg := bg) (c := bc + cnt6 wt dp) (dp := dp) (wc := dp) hx h1 (by omega) (by omega) rfl c1
      have h3 : fnd (nmB xn xl n f mp (rowE n f (n - mp) mp)) xc 0 = -1 ∨ ¬ bc + dp = 40 := by omega
      rcases ls with (⟨q, p', l0, l1, l2, l3, l4, l5⟩ | ⟨s', m', l1, l2, l3, l4, l5⟩) | ⟨q, p', l0, l1, l2, l3, a1, a2, a3, l4, l5⟩
      · rw [l4]
        refine ⟨fun _ => ⟨[q], _, wt, k - 1, ⟨rfl, rfl, rfl, ?_, R2_leaf g5 (by omega) l1, g6⟩, l2, l3, by dsimp only; omega, (r2_leaf (s := (mp, wr, mu, mf, bc, nb, bg)) rfl hkk hv c1 h3 l5.symm rfl).symm⟩, fun e => Bool.noConfusion e⟩
        show lsN (up nd tn q) (tn + 1) = flK K ++ [q]
        rw [lsN_up, g4]
      · rw [l1]
        refine ⟨fun e => Bool.noConfusion e, fun _ => ?_⟩
        rw [r2_fleaf (s := (mp, wr, mu, mf, bc, nb, bg)) rfl hkk hv c1 h3 l2.symm rfl]
        exact ⟨rfl, l3, l4, l5⟩
      · rw [l4]
        refine ⟨fun e => Bool.noConfusion e, fun _ => ?_⟩
        have sl := sN_lt a2 (by decide)
        rw [← r2_leaf (s := (mp, wr, mu, mf, bc, nb, bg)) rfl hkk hv c1 h3 l5.symm rfl, r2_f41 rfl (by omega) (by omega) (fun hh => a3 hh.2)]
        exact ⟨rfl, fpl_y a2, rfl, rfl⟩
/-- the brackets close behind a tree -/
theorem sim_shut {K : KL} {t : List QD} {s : RS} {m : QLS} {dp : Nat} {wt : Nat → Nat} {k : Nat} (h : RB2 xc K t s m dp wt) (hd : ¬ dp = 0) (hk : 0 < k) (hc : ¬ (sN n f s.1 = iI ((32 : Nat) : Int) ∧ sN n f (s.1 + 1) = iI ((41 : Nat) : Int))) {p : Nat} (hp : p = fpl n f 32 s.1) : OUT (r2F n f xc xn xl k false m dp wt) (p, s.2) := by
  obtain ⟨g1, g2, g3, g4, g5, g6⟩ := h
  rw [r2_f41 (s := m) rfl hk hd (by rw [g1]; exact hc)]
  exact ⟨rfl, by show fpl n f 32 m.1 = p; rw [g1, hp], g2, g3⟩
theorem sim_node {dp d : Nat} {T : RS → Bool × RS} (hd : dp + d = 20) (hT : d = 0 ∨ SimF n f xc xn xl (dp + 1) T) {s : RS} {m : QLS} {wt : Nat → Nat} {k : Nat} {K : KL} (h : RA2 xc K s m dp wt) (h1 : s.1 ≤ n) (hk : n - s.1 < k) (hj : ¬ jS n f s.1 (rowE n f (n - s.1) s.1) = -1) (r : Bool × RS) (hr : r = fSt n f xc xn xl (fBr n f T d) dp s) :
    (r.1 = true → ∃ t m' wt' k', RB2 xc K t r.2 m' dp wt' ∧ s.1 < r.2.1 ∧ r.2.1 ≤ n ∧ n - r.2.1 < k' ∧ r2F n f xc xn xl k true m dp wt = r2F n f xc xn xl k' false m' dp wt') ∧
    (r.1 = false → OUT (r2F n f xc xn xl k true m dp wt) r.2) := by
  have hc := RA2_cnt h
  have hkk : 0 < k := by omega
  have hre := rowE_rng n f (n - s.1) s.1
  have hw := wd0_0 n f s.1 (rowE n f (n - s.1) s.1)
  have v0 : ¬ wd0 (jS n f s.1 (rowE n f (n - s.1) s.1)) = 0 := fun e => hj (hw.1.mp e)
  have v1 := hw.2.2.2 v0
  obtain ⟨v, hv⟩ : ∃ v : Nat, (v : Int) = jS n f s.1 (rowE n f (n - s.1) s.1) := ⟨(jS n f s.1 (rowE n f (n - s.1) s.1)).toNat, by omega⟩
  have hv3 : v = 3 ∨ v = 4 ∨ v = 5 := by omega
  obtain ⟨g1, g2, g3, g4, g5, g6⟩ := h
  unfold fSt at hr
  rw [if_neg hj] at hr
  generalize he : rowE n f (n - s.1) s.1 = e at *
  have hvp : 0 < wd0 (jS n f m.1 e) := by rw [g1]; omega
  have hme : e = rowE n f (n - m.1) m.1 := by rw [g1, he]
  by_cases c1 : s.2.1 < 40
  · rw [if_pos c1, ← hv] at hr
    have h2 : ¬ m.2.2.2.2.1 + dp = 40 := by omega
    have key : ∀ s1 : RS, s1 = (e, s.2.1 + 1, up s.2.2.1 s.2.1 (iI (v : Int), iI (-1), iI (-1), iI (-1)), s.2.2.2) → r = (if (fBr n f T d s1).1 = true then (if (fBr n f T d (fBr n f T d s1).2).1 = true then (true, (fBr n f T d (fBr n f T d s1).2).2) else (false, (fBr n f T d (fBr n f T d s1).2).2)) else (false, (fBr n f T d s1).2)) →
      (r.1 = true → ∃ t m' wt' k', RB2 xc K t r.2 m' dp wt' ∧ s.1 < r.2.1 ∧ r.2.1 ≤ n ∧ n - r.2.1 < k' ∧ r2F n f xc xn xl k true m dp wt = r2F n f xc xn xl k' false m' dp wt') ∧
      (r.1 = false → OUT (r2F n f xc xn xl k true m dp wt) r.2) := by
      intro s1 hs1 hr1
      have q1 : s1.1 = e := by rw [hs1]
      have q2 : s1.2.2.2 = s.2.2.2 := by rw [hs1]
      have qn : lsN s1.2.2.1 s1.2.1 = flK K ++ [nO v] := by
        rw [hs1]
        show lsN (up s.2.2.1 s.2.1 (nO v)) (s.2.1 + 1) = _
        rw [lsN_up, g4]
      have qc : s1.2.1 = s.2.1 + 1 := by rw [hs1]
      -- the first branch fails
      have hfail : ∀ b : RS, fBr n f T d s1 = (false, b) → OUT (r2F n f xc xn xl k true m dp wt) b → (r.1 = true → ∃ t m' wt' k', RB2 xc K t r.2 m' dp wt' ∧ s.1 < r.2.1 ∧ r.2.1 ≤ n ∧ n - r.2.1 < k' ∧ r2F n f xc xn xl k true m dp wt = r2F n f xc xn xl k' false m' dp wt') ∧ (r.1 = false → OUT (r2F n f xc xn xl k true m dp wt) r.2) := by
        intro b hb ho
        rw [hb, if_neg (fun q => Bool.noConfusion q)] at hr1
        subst hr1
        exact ⟨fun e => Bool.noConfusion e, fun _ => ho⟩
      by_cases c2 : sN n f e = iI ((32 : Nat) : Int)
      · have s2 := sN_lt c2 (by decide)
        by_cases c3 : d = 0
        · refine hfail (s1.1 + 1, s1.2) (by unfold fBr; rw [if_pos (by rw [q1]; exact c2), if_pos c3]) ?_
          by_cases c4 : sN n f (e + 1) = iI ((40 : Nat) : Int)
          · rw [r2_20 (s := m) rfl hkk hme hvp h2 c2 c4 (by omega)]
            exact ⟨rfl, by show e + 1 = s1.1 + 1; rw [q1], by show m.2.2.1 = s1.2.2.2.1; rw [q2]; exact g2, by show m.2.2.2.1 = s1.2.2.2.2; rw [q2]; exact g3⟩
          · rw [r2_f40 (s := m) rfl hkk hme hvp h2 c2 (fun q => c4 q.1) (fun q => c4 q.1)]
            exact ⟨rfl, by show fpl n f 40 (e + 1) = s1.1 + 1; rw [q1]; exact fpl_n c4, by show m.2.2.1 = s1.2.2.2.1; rw [q2]; exact g2, by show m.2.2.2.1 = s1.2.2.2.2; rw [q2]; exact g3⟩
        · have hd20 : ¬ dp = 20 := by omega
          by_cases c4 : sN n f (e + 1) = iI ((40 : Nat) : Int)
          · by_cases c5 : sN n f (e + 1 + 1) = iI ((32 : Nat) : Int)
            · have s5 := sN_lt c5 (by decide)
              -- into the first tree
              have hA : RA2 xc ((10 + v, []) :: K) (s1.1 + 1 + 1 + 1, s1.2) (e + 1 + 1 + 1, m.2) (dp + 1) (up wt dp (10 + wd0 (jS n f m.1 e)).toNat) := by
                rw [show (10 + wd0 (jS n f m.1 e)).toNat = 10 + v by rw [g1]; omega]
                refine ⟨by show e + 1 + 1 + 1 = s1.1 + 1 + 1 + 1; rw [q1], by show m.2.2.1 = s1.2.2.2.1; rw [q2]; exact g2, by show m.2.2.2.1 = s1.2.2.2.2; rw [q2]; exact g3, ?_, R2_open g5 hv3 (show m.2.2.2.2.1 + dp < 40 by omega) (by omega), wt_up g6 (by omega)⟩
                show lsN s1.2.2.1 s1.2.1 = _
                rw [qn]
                simp only [flK, flI]
                rw [if_neg (by omega), show (10 + v) % 10 = v by omega]
              have w1 := (hT.resolve_left c3) ((10 + v, []) :: K) _ _ _ (k - 1) hA (by dsimp only; omega) (by dsimp only; omega)
              rw [r2_open (s := m) rfl hkk hme hvp h2 c2 hd20 ⟨c4, c5⟩] at w1
              dsimp only at w1
              have eb : fBr n f T d s1 = (if (T (s1.1 + 1 + 1 + 1, s1.2)).1 = true then (if sN n f (T (s1.1 + 1 + 1 + 1, s1.2)).2.1 = iI ((32 : Nat) : Int) then (if sN n f ((T (s1.1 + 1 + 1 + 1, s1.2)).2.1 + 1) = iI ((41 : Nat) : Int) then (true, ((T (s1.1 + 1 + 1 + 1, s1.2)).2.1 + 1 + 1, (T (s1.1 + 1 + 1 + 1, s1.2)).2.2)) else (false, ((T (s1.1 + 1 + 1 + 1, s1.2)).2.1 + 1, (T (s1.1 + 1 + 1 + 1, s1.2)).2.2))) else (false, (T (s1.1 + 1 + 1 + 1, s1.2)).2)) else (false, (T (s1.1 + 1 + 1 + 1, s1.2)).2)) := by
                unfold fBr
                rw [if_pos (by rw [q1]; exact c2), if_neg c3, if_pos (by rw [q1]; exact c4), if_pos (by rw [q1]; exact c5)]
              generalize hx1 : T (s1.1 + 1 + 1 + 1, s1.2) = x1 at w1 eb
              cases b1 : x1.1 with
              | false =>
                rw [b1, if_neg (by decide)] at eb
                exact hfail _ eb (w1.2 b1)
              | true =>
                rw [b1, if_pos rfl] at eb
                obtain ⟨t1, m1, wt1, k1, y1, y2, y3, y4, y5⟩ := w1.1 b1
                by_cases c6 : sN n f x1.2.1 = iI ((32 : Nat) : Int) ∧ sN n f (x1.2.1 + 1) = iI ((41 : Nat) : Int)
                · have s6 := sN_lt c6.1 (by decide)
                  have s7 := sN_lt c6.2 (by decide)
                  rw [if_pos c6.1, if_pos c6.2] at eb
                  rw [eb, if_pos rfl] at hr1
                  dsimp only at hr1
                  obtain ⟨j1, j2, j3, j4, j5, j6⟩ := y1
                  have jt : wt1 (dp + 1 - 1) = 10 + v := by
                    obtain ⟨v', u, K', z1, z2, _, _⟩ := R2_top j5 (by omega)
                    rw [z2]
                    exact (Prod.ext_iff.mp (List.cons.inj z1).1).1.symm
                  have jl : wt1 (dp + 1 - 1) < 20 := by omega
                  have m32 : sN n f m1.1 = iI ((32 : Nat) : Int) ∧ sN n f (m1.1 + 1) = iI ((41 : Nat) : Int) := by rw [j1]; exact c6
                  -- the second branch
                  have hfail2 : ∀ b : RS, fBr n f T d (x1.2.1 + 1 + 1, x1.2.2) = (false, b) → OUT (r2F n f xc xn xl k true m dp wt) b → (r.1 = true → ∃ t m' wt' k', RB2 xc K t r.2 m' dp wt' ∧ s.1 < r.2.1 ∧ r.2.1 ≤ n ∧ n - r.2.1 < k' ∧ r2F n f xc xn xl k true m dp wt = r2F n f xc xn xl k' false m' dp wt') ∧ (r.1 = false → OUT (r2F n f xc xn xl k true m dp wt) r.2) := by
                    intro b hb ho
                    rw [hb, if_neg (fun q => Bool.noConfusion q)] at hr1
                    subst hr1
                    exact ⟨fun e => Bool.noConfusion e, fun _ => ho⟩
                  by_cases c7 : sN n f (x1.2.1 + 1 + 1) = iI ((32 : Nat) : Int)
                  · have s8 := sN_lt c7 (by decide)
                    by_cases c8 : sN n f (x1.2.1 + 1 + 1 + 1) = iI ((40 : Nat) : Int)
                    · have s9 := sN_lt c8 (by decide)
                      by_cases c9 : sN n f (x1.2.1 + 1 + 1 + 1 + 1) = iI ((32 : Nat) : Int)
                      · have s10 := sN_lt c9 (by decide)
                        have hA2 : RA2 xc ((10 + v + 10, t1) :: K) (x1.2.1 + 1 + 1 + 1 + 1 + 1, x1.2.2) (m1.1 + 1 + 1 + 1 + 1 + 1, m1.2) (dp + 1) (up wt1 (dp + 1 - 1) (wt1 (dp + 1 - 1) + 10)) := by
                          refine ⟨by show m1.1 + 1 + 1 + 1 + 1 + 1 = x1.2.1 + 1 + 1 + 1 + 1 + 1; rw [j1], j2, j3, ?_, R2_flip j5 (by omega), wt_up j6 (by omega)⟩
                          show lsN x1.2.2.2.1 x1.2.2.1 = _
                          rw [j4]
                          simp only [flK, flI]
                          rw [if_neg (by omega), if_neg (by omega), show (10 + v) % 10 = v by omega, show (10 + v + 10) % 10 = v by omega]
                          simp
                        have w2 := (hT.resolve_left c3) _ _ _ _ (k1 - 1) hA2 (by dsimp only; omega) (by dsimp only; omega)
                        rw [r2_flip (s := m1) rfl (by omega) (by omega) m32 jl (by rw [j1]; exact ⟨c7, c8⟩) (by rw [j1]; exact c9), ← y5] at w2
                        dsimp only at w2
                        have eb2 : fBr n f T d (x1.2.1 + 1 + 1, x1.2.2) = (if (T (x1.2.1 + 1 + 1 + 1 + 1 + 1, x1.2.2)).1 = true then (if sN n f (T (x1.2.1 + 1 + 1 + 1 + 1 + 1, x1.2.2)).2.1 = iI ((32 : Nat) : Int) then (if sN n f ((T (x1.2.1 + 1 + 1 + 1 + 1 + 1, x1.2.2)).2.1 + 1) = iI ((41 : Nat) : Int) then (true, ((T (x1.2.1 + 1 + 1 + 1 + 1 + 1, x1.2.2)).2.1 + 1 + 1, (T (x1.2.1 + 1 + 1 + 1 + 1 + 1, x1.2.2)).2.2)) else (false, ((T (x1.2.1 + 1 + 1 + 1 + 1 + 1, x1.2.2)).2.1 + 1, (T (x1.2.1 + 1 + 1 + 1 + 1 + 1, x1.2.2)).2.2))) else (false, (T (x1.2.1 + 1 + 1 + 1 + 1 + 1, x1.2.2)).2)) else (false, (T (x1.2.1 + 1 + 1 + 1 + 1 + 1, x1.2.2)).2)) := by
                          unfold fBr
                          dsimp only
                          rw [if_pos c7, if_neg c3, if_pos c8, if_pos c9]
                        generalize hx2 : T (x1.2.1 + 1 + 1 + 1 + 1 + 1, x1.2.2) = x2 at w2 eb2
                        cases b2 : x2.1 with
                        | false =>
                          rw [b2, if_neg (by decide)] at eb2
                          exact hfail2 _ eb2 (w2.2 b2)
                        | true =>
                          rw [b2, if_pos rfl] at eb2
                          obtain ⟨t2, m2, wt2, k2, z1, z2, z3, z4, z5⟩ := w2.1 b2
                          by_cases c10 : sN n f x2.2.1 = iI ((32 : Nat) : Int) ∧ sN n f (x2.2.1 + 1) = iI ((41 : Nat) : Int)
                          · have s11 := sN_lt c10.2 (by decide)
                            rw [if_pos c10.1, if_pos c10.2] at eb2
                            rw [eb2, if_pos rfl] at hr1
                            subst hr1
                            refine ⟨fun _ => ?_, fun e => Bool.noConfusion e⟩
                            obtain ⟨i1, i2, i3, i4, i5, i6⟩ := z1
                            have ij := R2_join i5 (by omega)
                            have go := r2_join (s := m2) (k := k2) (n := n) (f := f) (xc := xc) (xn := xn) (xl := xl) (wc := dp + 1) (wt := wt2) rfl (by omega) (by omega) (by rw [i1]; exact c10) (by rw [ij.2.1]; omega)
                            refine ⟨nO v :: (t1 ++ t2), (m2.1 + 1 + 1, m2.2.1, m2.2.2.1, m2.2.2.2.1, m2.2.2.2.2.1 + 1, up m2.2.2.2.2.2.1 m2.2.2.2.2.1 (iI (((wt2 (dp + 1 - 1) - 20 : Nat)) : Int), iI (-1), iI (-1), iI (-1)), up m2.2.2.2.2.2.2 m2.2.2.2.2.1 (m2.2.2.2.2.2.2 (m2.2.2.2.2.2.2 (m2.2.2.2.2.1 - 1) - 1))), wt2, k2 - 1, ⟨?_, i2, i3, ?_, ?_, i6⟩, by dsimp only; omega, by dsimp only; omega, by dsimp only; omega, z5.trans go.symm⟩
                            · show m2.1 + 1 + 1 = x2.2.1 + 1 + 1
                              rw [i1]
                            · show lsN x2.2.2.2.1 x2.2.2.1 = _
                              rw [i4]
                              simp only [flK, flI]
                              rw [if_neg (by omega), show (10 + v + 10) % 10 = v by omega]
                              simp
                            · have i7 := ij.2.2
                              rw [Nat.add_sub_cancel] at i7
                              have e1 : wt2 dp = 10 + v + 10 := ij.2.1
                              rw [show 10 + v + 10 - 20 = v by omega] at i7
                              show R2 (lfP xc) (up m2.2.2.2.2.2.1 m2.2.2.2.2.1 (nO (wt2 dp - 20))) _ _ _ _ _ _
                              rw [e1, show 10 + v + 10 - 20 = v by omega]
                              exact i7
                          · have sh := sim_shut (f := f) (n := n) (xn := xn) (xl := xl) (k := k2) z1 (by omega) (by omega) c10 rfl
                            rw [← z5] at sh
                            by_cases c11 : sN n f x2.2.1 = iI ((32 : Nat) : Int)
                            · rw [if_pos c11, if_neg (fun q => c10 ⟨c11, q⟩)] at eb2
                              rw [fpl_y c11] at sh
                              exact hfail2 _ eb2 sh
                            · rw [if_neg c11] at eb2
                              rw [fpl_n c11] at sh
                              exact hfail2 _ eb2 sh
                      · refine hfail2 (x1.2.1 + 1 + 1 + 1 + 1, x1.2.2) (by unfold fBr; dsimp only; rw [if_pos c7, if_neg c3, if_pos c8, if_neg c9]) ?_
                        rw [y5, r2_fc (s := m1) rfl (by omega) (by omega) m32 jl (by rw [j1]; exact ⟨c7, c8⟩) (by rw [j1]; exact c9)]
                        exact ⟨rfl, by show m1.1 + 1 + 1 + 1 + 1 = x1.2.1 + 1 + 1 + 1 + 1; rw [j1], j2, j3⟩
                    · refine hfail2 (x1.2.1 + 1 + 1 + 1, x1.2.2) (by unfold fBr; dsimp only; rw [if_pos c7, if_neg c3, if_neg c8]) ?_
                      rw [y5, r2_fb (s := m1) rfl (by omega) (by omega) m32 jl (by rw [j1]; exact fun q => c8 q.2)]
                      exact ⟨rfl, by show fpl n f 32 (m1.1 + 1 + 1) = x1.2.1 + 1 + 1 + 1; rw [j1]; exact fpl_y c7, j2, j3⟩
                  · refine hfail2 (x1.2.1 + 1 + 1, x1.2.2) (by unfold fBr; dsimp only; rw [if_neg c7]) ?_
                    rw [y5, r2_fb (s := m1) rfl (by omega) (by omega) m32 jl (by rw [j1]; exact fun q => c7 q.1)]
                    exact ⟨rfl, by show fpl n f 32 (m1.1 + 1 + 1) = x1.2.1 + 1 + 1; rw [j1]; exact fpl_n c7, j2, j3⟩
                · have sh := sim_shut (f := f) (n := n) (xn := xn) (xl := xl) (k := k1) y1 (by omega) (by omega) c6 rfl
                  rw [← y5] at sh
                  by_cases c7 : sN n f x1.2.1 = iI ((32 : Nat) : Int)
                  · rw [if_pos c7, if_neg (fun q => c6 ⟨c7, q⟩)] at eb
                    rw [fpl_y c7] at sh
                    exact hfail _ eb sh
                  · rw [if_neg c7] at eb
                    rw [fpl_n c7] at sh
                    exact hfail _ eb sh
            · refine hfail (s1.1 + 1 + 1, s1.2) (by unfold fBr; rw [if_pos (by rw [q1]; exact c2), if_neg c3, if_pos (by rw [q1]; exact c4), if_neg (by rw [q1]; exact c5)]) ?_
              rw [r2_f40 (s := m) rfl hkk hme hvp h2 c2 (fun q => hd20 q.2) (fun q => c5 q.2)]
              exact ⟨rfl, by show fpl n f 40 (e + 1) = s1.1 + 1 + 1; rw [q1]; exact fpl_y c4, by show m.2.2.1 = s1.2.2.2.1; rw [q2]; exact g2, by show m.2.2.2.1 = s1.2.2.2.2; rw [q2]; exact g3⟩
          · refine hfail (s1.1 + 1, s1.2) (by unfold fBr; rw [if_pos (by rw [q1]; exact c2), if_neg c3, if_neg (by rw [q1]; exact c4)]) ?_
            rw [r2_f40 (s := m) rfl hkk hme hvp h2 c2 (fun q => c4 q.1) (fun q => c4 q.1)]
            exact ⟨rfl, by show fpl n f 40 (e + 1) = s1.1 + 1; rw [q1]; exact fpl_n c4, by show m.2.2.1 = s1.2.2.2.1; rw [q2]; exact g2, by show m.2.2.2.1 = s1.2.2.2.2; rw [q2]; exact g3⟩
      · refine hfail s1 (by unfold fBr; rw [if_neg (by rw [q1]; exact c2)]) ?_
        rw [r2_e (s := m) rfl hkk hme hvp h2 c2]
        exact ⟨rfl, by show e = s1.1; rw [q1], by show m.2.2.1 = s1.2.2.2.1; rw [q2]; exact g2, by show m.2.2.2.1 = s1.2.2.2.2; rw [q2]; exact g3⟩
    exact key _ rfl hr
  · rw [if_neg c1] at hr
    subst hr
    refine ⟨fun e => Bool.noConfusion e, fun _ => ?_⟩
    rw [r2_40 (s := m) rfl hkk hme hvp (by omega)]
    exact ⟨rfl, g1, g2, g3⟩
theorem sim_tree {dp d : Nat} {T : RS → Bool × RS} (hx : xc ≤ 8) (hd : dp + d = 20) (hT : d = 0 ∨ SimF n f xc xn xl (dp + 1) T) : SimF n f xc xn xl dp (fSt n f xc xn xl (fBr n f T d) dp) := by
  intro K s m wt k h h1 hk
  by_cases hj : jS n f s.1 (rowE n f (n - s.1) s.1) = -1
  · have e : fSt n f xc xn xl (fBr n f T d) dp s = fLf n f xc xn xl dp s := by
      unfold fSt
      rw [if_pos hj]
    rw [e]
    exact sim_leafF hx h h1 hk hj
  · exact sim_node hd hT h h1 hk hj _ rfl
theorem sim_allF (hx : xc ≤ 8) : ∀ (d dp : Nat), dp + d = 20 → SimF n f xc xn xl dp (fTr n f xc xn xl d)
  | 0, dp, hd => by
    obtain rfl : dp = 20 := by omega
    exact sim_tree hx rfl (Or.inl rfl)
  | d + 1, dp, hd => by
    have e : fTr n f xc xn xl (d + 1) = fSt n f xc xn xl (fBr n f (fTr n f xc xn xl d) (d + 1)) (20 - (d + 1)) := rfl
    obtain rfl : dp = 20 - (d + 1) := by omega
    rw [e]
    exact sim_tree hx hd (Or.inr (sim_allF hx d (20 - (d + 1) + 1) (by omega)))
/-- form 1, all of it -/
theorem read1 (hx : xc ≤ 8) {nd : Nat → QD} {uf : Nat → Int32} {wr : Nat} {nb : Nat → QD} {bg : Nat → Nat} {wt : Nat → Nat} (hwt : ∀ j, wt j < 1000) :
    ((fTr n f xc xn xl 20 (0, 0, nd, 0, uf)).1 = true ∧ n ≤ (fTr n f xc xn xl 20 (0, 0, nd, 0, uf)).2.1 → (r2F n f xc xn xl (n + 1) true (0, wr, 0, uf, 0, nb, bg) 0 wt).1 = true ∧ (r2F n f xc xn xl (n + 1) true (0, wr, 0, uf, 0, nb, bg) 0 wt).2.1.2.2.1 = (fTr n f xc xn xl 20 (0, 0, nd, 0, uf)).2.2.2.2.1 ∧ (r2F n f xc xn xl (n + 1) true (0, wr, 0, uf, 0, nb, bg) 0 wt).2.1.2.2.2.1 = (fTr n f xc xn xl 20 (0, 0, nd, 0, uf)).2.2.2.2.2 ∧ (∀ j, (r2F n f xc xn xl (n + 1) true (0, wr, 0, uf, 0, nb, bg) 0 wt).2.2.2 j < 1000) ∧ (r2F n f xc xn xl (n + 1) true (0, wr, 0, uf, 0, nb, bg) 0 wt).2.1.2.2.2.2.1 ≤ 40 ∧ HF (lfP xc) (r2F n f xc xn xl (n + 1) true (0, wr, 0, uf, 0, nb, bg) 0 wt).2.1.2.2.2.2.2.1 (r2F n f xc xn xl (n + 1) true (0, wr, 0, uf, 0, nb, bg) 0 wt).2.1.2.2.2.2.2.2 [lsN (fTr n f xc xn xl 20 (0, 0, nd, 0, uf)).2.2.2.1 (fTr n f xc xn xl 20 (0, 0, nd, 0, uf)).2.2.1] (r2F n f xc xn xl (n + 1) true (0, wr, 0, uf, 0, nb, bg) 0 wt).2.1.2.2.2.2.1) ∧
    (¬ ((fTr n f xc xn xl 20 (0, 0, nd, 0, uf)).1 = true ∧ n ≤ (fTr n f xc xn xl 20 (0, 0, nd, 0, uf)).2.1) → OUT (r2F n f xc xn xl (n + 1) true (0, wr, 0, uf, 0, nb, bg) 0 wt) (fTr n f xc xn xl 20 (0, 0, nd, 0, uf)).2) := by
  have hA : RA2 xc [] (0, 0, nd, 0, uf) (0, wr, 0, uf, 0, nb, bg) 0 wt := ⟨rfl, rfl, rfl, rfl, ⟨fun _ h => absurd h List.not_mem_nil, rfl, True.intro, rfl, (show 0 + 0 ≤ 40 by omega), (show 0 ≤ 20 by omega)⟩, hwt⟩
  have w := sim_allF (n := n) (f := f) (xn := xn) (xl := xl) hx 20 0 rfl [] _ _ wt (n + 1) hA (Nat.zero_le _) (by dsimp only; omega)
  generalize fTr n f xc xn xl 20 (0, 0, nd, 0, uf) = r at w ⊢
  generalize r2F n f xc xn xl (n + 1) true (0, wr, 0, uf, 0, nb, bg) 0 wt = x at w ⊢
  cases c : r.1 with
  | false => exact ⟨fun h => Bool.noConfusion h.1, fun _ => w.2 c⟩
  | true =>
    obtain ⟨t, m', wt', k', x2, x3, x4, x6, x7⟩ := w.1 c
    have hcn := RB2_cnt x2
    obtain ⟨y1, y2, y3, y4, y5, y6⟩ := x2
    refine ⟨fun hh => ?_, fun hh => ?_⟩
    · have e := r2_end (s := m') (k := k') (n := n) (f := f) (xc := xc) (xn := xn) (xl := xl) (wc := 0) (wt := wt') rfl (by omega) rfl (by omega)
      rw [← x7] at e
      subst e
      refine ⟨rfl, y2, y3, y6, by dsimp only; omega, ?_⟩
      rw [y4]
      exact y5.2.2.2.1
    · rw [x7, r2_fend (s := m') rfl (by omega) rfl (fun q => hh ⟨by trivial, by omega⟩)]
      exact ⟨rfl, y1, y2, y3⟩
end SF
