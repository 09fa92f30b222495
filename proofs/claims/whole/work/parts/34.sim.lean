/-! ===== form 0: the class and the reference read alike ===== -/
theorem lsN_split (f : Nat → QD) (a : Nat) : ∀ b, lsN f (a + b) = lsN f a ++ lsN (fun i => f (a + i)) b
  | 0 => by simp [lsN]
  | b + 1 => by
    rw [show a + (b + 1) = (a + b) + 1 by omega]
    simp only [lsN]
    rw [lsN_split f a b, List.append_assoc]
theorem lsN_up (f : Nat → QD) (n : Nat) (q : QD) : lsN (up f n q) (n + 1) = lsN f n ++ [q] := by
  simp only [lsN]
  rw [up_eq, lsN_congr n (fun i hi => up_ne _ _ (by omega))]
theorem lsN_ins {f : Nat → QD} {n p : Nat} {q : QD} {A B : List QD} (h : lsN f n = A ++ B) (hp : A.length = p) : lsN (insN f n p q) (n + 1) = A ++ q :: B := by
  have hl := congrArg List.length h
  rw [lsN_len, List.length_append] at hl
  obtain ⟨r, rfl⟩ : ∃ r, n = p + r := ⟨n - p, by omega⟩
  rw [lsN_split] at h
  have a := List.append_inj h (by rw [lsN_len, hp])
  rw [show p + r + 1 = p + (1 + r) by omega, lsN_split, lsN_split (fun i => insN f (p + r) p q (p + i)) 1 r]
  rw [lsN_congr (g := f) p (fun i hi => by unfold insN; rw [if_neg (by omega), if_neg (by omega)]), a.1]
  rw [lsN_congr (g := fun i => f (p + i)) r (fun i hi => by
    show insN f (p + r) p q (p + (1 + i)) = f (p + i)
    unfold insN
    rw [if_neg (by omega), if_pos (by omega), show p + (1 + i) - 1 = p + i by omega]), a.2]
  simp only [lsN, List.nil_append]
  have e : insN f (p + r) p q (p + 0) = q := by
    unfold insN
    rw [if_pos (by omega)]
  rw [e]
  rfl
def OUT (res : Bool × RM) (r : RS) : Prop := res.1 = false ∧ res.2.1.2.1 = r.1 ∧ res.2.1.2.2.1 = r.2.2.2.1 ∧ res.2.1.2.2.2.1 = r.2.2.2.2
def RA (xc : Nat) (K : KL) (s : RS) (m : QLS) (wc : Nat) (wt : Nat → Nat) : Prop := m.1 = s.1 ∧ m.2.2.1 = s.2.2.2.1 ∧ m.2.2.2.1 = s.2.2.2.2 ∧ lsN s.2.2.1 s.2.1 = flK K ∧ RI (lfP xc) m.2.2.2.2.2.1 m.2.2.2.2.2.2 m.2.2.2.2.1 wc wt K [] ∧ (∀ j, wt j < 1000)
def RB (xc : Nat) (K : KL) (t : List QD) (s : RS) (m : QLS) (wc : Nat) (wt : Nat → Nat) : Prop := m.1 = s.1 ∧ m.2.2.1 = s.2.2.2.1 ∧ m.2.2.2.1 = s.2.2.2.2 ∧ lsN s.2.2.1 s.2.1 = flK K ++ t ∧ RI (lfP xc) m.2.2.2.2.2.1 m.2.2.2.2.2.2 m.2.2.2.2.1 wc wt K [t] ∧ (∀ j, wt j < 1000)
theorem RA_cnt {xc : Nat} {K : KL} {s : RS} {m : QLS} {wc : Nat} {wt : Nat → Nat} (h : RA xc K s m wc wt) : m.2.2.2.2.1 + cnt6 wt wc = s.2.1 ∧ dpt6 wt wc = nK E6 K ∧ s.2.1 ≤ 40 ∧ m.2.2.2.2.1 + nK P6 K = s.2.1 := by
  obtain ⟨h1, h2, h3, h4, h5, h6⟩ := h
  have a := RI_b h5
  have b := congrArg List.length h4
  rw [lsN_len] at b
  have c := h5.2.2.2.2
  simp only [szL] at a
  unfold cnt6 dpt6
  omega
theorem RB_cnt {xc : Nat} {K : KL} {t : List QD} {s : RS} {m : QLS} {wc : Nat} {wt : Nat → Nat} (h : RB xc K t s m wc wt) : m.2.2.2.2.1 + cnt6 wt wc = s.2.1 ∧ dpt6 wt wc = nK E6 K ∧ s.2.1 ≤ 40 ∧ m.2.2.2.2.1 + nK P6 K = s.2.1 ∧ (flK K).length + t.length = s.2.1 := by
  obtain ⟨h1, h2, h3, h4, h5, h6⟩ := h
  have a := RI_b h5
  have b := congrArg List.length h4
  rw [lsN_len, List.length_append] at b
  have c := h5.2.2.2.2
  simp only [szL] at a
  unfold cnt6 dpt6
  omega
section SL
variable {n : Nat} {f : Nat → Int32} {xc : Nat} {xn : Nat → Nat} {xl : Nat → Int32}
theorem tkN_1 {p : Nat} {s : RS} (hp : s.1 = p) (h : isL (sN n f p) = false) : tkN n f xc xn xl s = (-1, s) := by
  subst hp
  unfold tkN
  rw [if_pos (rowE_no h)]
theorem rowE_gt {p : Nat} (h : isL (sN n f p) = true) : p < rowE n f (n - p) p := by
  have a := isL_lt h
  rw [← rowE_go a h]
  have := rowE_rng n f (n - (p + 1)) (p + 1)
  omega
theorem tkN_2 {s : RS} (h : isL (sN n f s.1) = true) (h2 : fnd (nmB xn xl n f s.1 (rowE n f (n - s.1) s.1)) xc 0 = -1) : tkN n f xc xn xl s = (-1, (s.1, s.2.1, s.2.2.1, rowE n f (n - s.1) s.1 - s.1, kpF s.2.2.2.2 n f s.1 (rowE n f (n - s.1) s.1))) := by
  have a := rowE_gt h
  unfold tkN
  rw [if_neg (by omega), if_pos h2]
theorem tkN_3 {s : RS} (h : isL (sN n f s.1) = true) (h2 : ¬ fnd (nmB xn xl n f s.1 (rowE n f (n - s.1) s.1)) xc 0 = -1) (h3 : 40 ≤ s.2.1) : tkN n f xc xn xl s = (-1, s) := by
  have a := rowE_gt h
  unfold tkN
  rw [if_neg (by omega), if_neg h2, if_pos h3]
theorem tkN_4 {s : RS} (h : isL (sN n f s.1) = true) (h2 : ¬ fnd (nmB xn xl n f s.1 (rowE n f (n - s.1) s.1)) xc 0 = -1) (h3 : ¬ 40 ≤ s.2.1) : tkN n f xc xn xl s = (fnd (nmB xn xl n f s.1 (rowE n f (n - s.1) s.1)) xc 0, (rowE n f (n - s.1) s.1, s.2)) := by
  have a := rowE_gt h
  unfold tkN
  rw [if_neg (by omega), if_neg h2, if_neg h3]
/-- the class's leaf of form 0 -/
def cLf (n : Nat) (f : Nat → Int32) (xc : Nat) (xn : Nat → Nat) (xl : Nat → Int32) (s : RS) : Bool × RS :=
  if (tkN n f xc xn xl s).1 = -1 then (false, (tkN n f xc xn xl s).2)
  else if sN n f (tkN n f xc xn xl s).2.1 = iI ((61 : Nat) : Int) then tkV n f ((tkN n f xc xn xl s).2.1 + 1, (tkN n f xc xn xl s).2.2) (tkN n f xc xn xl s).1
  else (false, (tkN n f xc xn xl s).2)
theorem bTm_l {T : RS → Bool × RS} {d : Nat} {s : RS} (h : ¬ sN n f s.1 = iI ((40 : Nat) : Int)) : bTm n f xc xn xl T d s = cLf n f xc xn xl s := by
  unfold bTm cLf
  rw [if_neg h]
def LFS (n : Nat) (xc : Nat) (p tn : Nat) (nd : Nat → QD) (un : Nat) (uf : Nat → Int32) (wr bc : Nat) (nb : Nat → QD) (bg : Nat → Nat) (w : Bool × RS) (v : Bool × QLS) : Prop :=
  (∃ q p', tn < 40 ∧ lfP xc q ∧ p < p' ∧ p' ≤ n ∧ w = (true, (p', tn + 1, up nd tn q, un, uf)) ∧ v = (true, (p', wr, un, uf, bc + 1, up nb bc q, up bg bc bc))) ∨ (∃ s' m', w = (false, s') ∧ v = (false, m') ∧ m'.2.1 = s'.1 ∧ m'.2.2.1 = s'.2.2.2.1 ∧ m'.2.2.2.1 = s'.2.2.2.2)
theorem rn_sim {p0 p tn : Nat} {nd : Nat → QD} {un : Nat} {uf : Nat → Int32} {wr bc : Nat} {nb : Nat → QD} {bg : Nat → Nat} {ix lo : Int} (hx : xc ≤ 8) (h0 : 0 ≤ ix) (hi : ix < xc) (ht : tn < 40) (hp : p ≤ n) (hp0 : p0 < p) : LFS n xc p0 tn nd un uf wr bc nb bg (tkG n f (p, tn, nd, un, uf) ix lo) (rnG n f (p, wr, un, uf, bc, nb, bg) ix lo) := by
  have a := tvP_rng n f p hp
  unfold tkG rnG apB
  by_cases c1 : tvR n f p = -1
  · rw [if_pos c1, if_pos c1]
    exact Or.inr ⟨_, _, rfl, rfl, rfl, rfl, rfl⟩
  · rw [if_neg c1, if_neg c1]
    by_cases c2 : tvR n f p < lo
    · rw [if_pos c2, if_pos c2]
      exact Or.inr ⟨_, _, rfl, rfl, rfl, rfl, rfl⟩
    · rw [if_neg c2, if_neg c2, if_pos ht]
      exact Or.inl ⟨_, _, by omega, lfP_mk (by decide) h0 hi hx, by omega, a.2, rfl, rfl⟩
theorem leaf_sim {p tn : Nat} {nd : Nat → QD} {un : Nat} {uf : Nat → Int32} {wr bc : Nat} {nb : Nat → QD} {bg : Nat → Nat} (hx : xc ≤ 8) (ht : tn ≤ 40) (hp : p ≤ n) : LFS n xc p tn nd un uf wr bc nb bg (cLf n f xc xn xl (p, tn, nd, un, uf)) (lfR n f xc xn xl tn (p, wr, un, uf, bc, nb, bg)) := by
  have hr := rowE_rng n f (n - p) p
  have hf := fnd_rng (nmB xn xl n f p (rowE n f (n - p) p)) xc 0
  unfold cLf lfR
  dsimp only
  cases c1 : isL (sN n f p) with
  | false =>
    rw [tkN_1 (p := p) rfl c1, if_pos rfl, if_pos rfl]
    exact Or.inr ⟨_, _, rfl, rfl, rfl, rfl, rfl⟩
  | true =>
    rw [if_neg (show ¬ (true = false) by decide)]
    by_cases c2 : fnd (nmB xn xl n f p (rowE n f (n - p) p)) xc 0 = -1
    · rw [tkN_2 (s := (p, tn, nd, un, uf)) c1 c2, if_pos rfl, if_pos c2]
      exact Or.inr ⟨_, _, rfl, rfl, rfl, rfl, rfl⟩
    · rw [if_neg c2]
      by_cases c3 : tn = 40
      · rw [tkN_3 (s := (p, tn, nd, un, uf)) c1 c2 (by dsimp only; omega), if_pos rfl, if_pos c3]
        exact Or.inr ⟨_, _, rfl, rfl, rfl, rfl, rfl⟩
      · rw [tkN_4 (s := (p, tn, nd, un, uf)) c1 c2 (by dsimp only; omega), if_neg c3]
        dsimp only
        rw [if_neg c2]
        by_cases c4 : sN n f (rowE n f (n - p) p) = iI ((61 : Nat) : Int)
        · have s4 := sN_lt c4 (by decide)
          have hq := tvP_rng n f (rowE n f (n - p) p + 1) (by omega)
          rw [if_pos c4, if_pos c4]
          unfold tkV apB adN
          dsimp only
          by_cases c5 : tvR n f (rowE n f (n - p) p + 1) = -1
          · rw [if_pos c5, if_pos c5]
            exact Or.inr ⟨_, _, rfl, rfl, rfl, rfl, rfl⟩
          · rw [if_neg c5, if_neg c5]
            by_cases c6 : sN n f (tvP n f (rowE n f (n - p) p + 1)) = iI ((42 : Nat) : Int)
            · have s6 := sN_lt c6 (by decide)
              have c7 : ¬ sN n f (tvP n f (rowE n f (n - p) p + 1)) = iI ((46 : Nat) : Int) := fun h => absurd (c6.symm.trans h) (by decide)
              rw [if_pos c6, if_pos (show tn < 40 by omega), if_neg c7, if_pos c6]
              exact Or.inl ⟨_, _, by omega, lfP_mk (by decide) (by omega) (by omega) hx, by omega, by omega, rfl, rfl⟩
            · rw [if_neg c6]
              by_cases c7 : sN n f (tvP n f (rowE n f (n - p) p + 1)) = iI ((46 : Nat) : Int)
              · have s7 := sN_lt c7 (by decide)
                rw [if_pos c7, if_pos c7]
                by_cases c8 : sN n f (tvP n f (rowE n f (n - p) p + 1) + 1) = iI ((46 : Nat) : Int)
                · have s8 := sN_lt c8 (by decide)
                  rw [if_pos c8, if_pos c8]
                  exact rn_sim hx (by omega) (by omega) (by omega) (by omega) (by omega)
                · rw [if_neg c8, if_neg c8]
                  exact Or.inr ⟨_, _, rfl, rfl, rfl, rfl, rfl⟩
              · rw [if_neg c7, if_neg c7, if_neg c6, if_pos (show tn < 40 by omega)]
                exact Or.inl ⟨_, _, by omega, lfP_mk (by decide) (by omega) (by omega) hx, by omega, by omega, rfl, rfl⟩
        · rw [if_neg c4, if_neg c4]
          exact Or.inr ⟨_, _, rfl, rfl, rfl, rfl, rfl⟩
/-! the words that wait in one pair of brackets -/
def bas (K0 : KL) : Prop := K0 = [] ∨ ∃ u K', K0 = (6, u) :: K'
theorem stl_bas {K0 : KL} (h : bas K0) (z : Nat) (t : List QD) : stl z K0 t = (K0, t) := by
  rcases h with rfl | ⟨u, K', rfl⟩
  · rfl
  · simp only [stl]
    rw [if_neg (by omega)]
theorem stl_all {K0 : KL} (h : bas K0) : ∀ (Pd : KL) (t : List QD), (∀ i ∈ Pd, i.1 < 6) → ∃ t', stl 0 (Pd ++ K0) t = (K0, t')
  | [], t, _ => ⟨t, stl_bas h 0 t⟩
  | i :: Pd, t, hi => by
    obtain ⟨t', e⟩ := stl_all h Pd (nO i.1 :: (i.2 ++ t)) (fun j hj => hi j (List.mem_cons_of_mem _ hj))
    refine ⟨t', ?_⟩
    simp only [List.cons_append, stl]
    rw [if_pos ⟨hi i (List.mem_cons_self ..), Or.inr (by trivial)⟩, e]
def pnd (Pd : KL) (lo la : Nat) : Prop := (Pd = [] ∧ la = lo) ∨ (∃ u, Pd = [(3, u)] ∧ la = lo) ∨ (∃ o u, (o = 4 ∨ o = 5) ∧ Pd = [(o, u)] ∧ la = lo + 1 + u.length) ∨ (∃ o u v, (o = 4 ∨ o = 5) ∧ Pd = [(3, v), (o, u)] ∧ la = lo + 1 + u.length)
theorem pnd_6 {Pd : KL} {lo la : Nat} (h : pnd Pd lo la) : ∀ i ∈ Pd, i.1 < 6 := by
  rcases h with ⟨rfl, _⟩ | ⟨u, rfl, _⟩ | ⟨o, u, ho, rfl, _⟩ | ⟨o, u, v, ho, rfl, _⟩
  · intro i hi; exact absurd hi List.not_mem_nil
  · intro i hi; simp at hi; subst hi; show 3 < 6; omega
  · intro i hi; simp at hi; subst hi; show o < 6; omega
  · intro i hi
    simp at hi
    rcases hi with rfl | rfl
    · show 3 < 6; omega
    · show o < 6; omega
/-- what a word settles, and where the class puts it -/
theorem stl_pnd {K0 Pd : KL} {lo la v : Nat} {t : List QD} (hb : bas K0) (hl : (flK K0).length = lo) (hp : pnd Pd lo la) (hv : v = 3 ∨ v = 4 ∨ v = 5) : ∃ Pd' t', stl (if v = 3 then 1 else 0) (Pd ++ K0) t = (Pd' ++ K0, t') ∧ (flK (Pd' ++ K0)).length = (if v = 3 then la else lo) ∧ pnd ((v, t') :: Pd') lo (if v = 3 then la else lo + 1 + t'.length) := by
  by_cases c : v = 3
  · subst c
    simp only [if_true]
    rcases hp with ⟨rfl, rfl⟩ | ⟨u, rfl, rfl⟩ | ⟨o, u, ho, rfl, rfl⟩ | ⟨o, u, w, ho, rfl, rfl⟩
    · exact ⟨[], t, stl_bas hb _ _, hl, Or.inr (Or.inl ⟨_, rfl, rfl⟩)⟩
    · refine ⟨[], nO 3 :: (u ++ t), ?_, hl, Or.inr (Or.inl ⟨_, rfl, rfl⟩)⟩
      simp only [List.cons_append, List.nil_append, stl]
      rw [if_pos (by simp), stl_bas hb]
    · refine ⟨[(o, u)], t, ?_, ?_, Or.inr (Or.inr (Or.inr ⟨o, u, t, ho, rfl, rfl⟩))⟩
      · simp only [List.cons_append, List.nil_append, stl]
        rw [if_neg (by omega)]
      · simp only [List.cons_append, List.nil_append, flK, flI, List.length_append]
        rw [if_neg (by omega), hl]
        simp only [List.length_cons]
        omega
    · refine ⟨[(o, u)], nO 3 :: (w ++ t), ?_, ?_, Or.inr (Or.inr (Or.inr ⟨o, u, _, ho, rfl, rfl⟩))⟩
      · simp only [List.cons_append, List.nil_append, stl]
        rw [if_pos (by simp), if_neg (by omega)]
      · simp only [List.cons_append, List.nil_append, flK, flI, List.length_append]
        rw [if_neg (by omega), hl]
        simp only [List.length_cons]
        omega
  · simp only [if_neg c]
    obtain ⟨t', e⟩ := stl_all hb Pd t (pnd_6 hp)
    exact ⟨[], t', e, hl, Or.inr (Or.inr (Or.inl ⟨v, t', by omega, rfl, rfl⟩))⟩
end SL
/-! ===== form 0, the two machines side by side ===== -/
section SM
variable {n : Nat} {f : Nat → Int32} {xc : Nat} {xn : Nat → Nat} {xl : Nat → Int32}
/-- a term: the class's function M, dp brackets open -/
def SimT (n : Nat) (f : Nat → Int32) (xc : Nat) (xn : Nat → Nat) (xl : Nat → Int32) (dp : Nat) (M : RS → Bool × RS) : Prop :=
  ∀ (K : KL) (s : RS) (m : QLS) (wc : Nat) (wt : Nat → Nat) (k : Nat), RA xc K s m wc wt → nK E6 K = dp → s.1 ≤ n → n - s.1 < k →
    ((M s).1 = true → ∃ t m' wc' wt' k', RB xc K t (M s).2 m' wc' wt' ∧ s.1 < (M s).2.1 ∧ (M s).2.1 ≤ n ∧ n - (M s).2.1 < k' ∧ r1F n f xc xn xl k true m wc wt = r1F n f xc xn xl k' false m' wc' wt') ∧
    ((M s).1 = false → OUT (r1F n f xc xn xl k true m wc wt) (M s).2)
/-- a row of terms -/
def SimE (n : Nat) (f : Nat → Int32) (xc : Nat) (xn : Nat → Nat) (xl : Nat → Int32) (K0 : KL) (p : Nat) (r : Bool × RS) (x : Bool × RM) : Prop :=
  (r.1 = true → ∃ Pd t m' wc' wt' k', (∀ i ∈ Pd, i.1 < 6) ∧ RB xc (Pd ++ K0) t r.2 m' wc' wt' ∧ p ≤ r.2.1 ∧ r.2.1 ≤ n ∧ ¬ sN n f r.2.1 = iI ((32 : Nat) : Int) ∧ n - r.2.1 < k' ∧ x = r1F n f xc xn xl k' false m' wc' wt') ∧ (r.1 = false → OUT x r.2)
theorem if3 {α : Type} (v : Nat) (a b : α) : (if v = 3 then a else b) = if (v : Int) = 3 then a else b := by
  by_cases q : v = 3
  · rw [if_pos q, if_pos (by omega)]
  · rw [if_neg q, if_neg (by omega)]
theorem sN_out {p : Nat} (h : n ≤ p) (k : Nat) (hk : k < 256) : ¬ sN n f p = iI ((k : Nat) : Int) := fun e => absurd (sN_lt e hk) (by omega)
theorem E6_app {Pd K0 : KL} (h : ∀ i ∈ Pd, i.1 < 6) : nK E6 (Pd ++ K0) = nK E6 K0 := by
  induction Pd with
  | nil => rfl
  | cons i Pd ih =>
    simp only [List.cons_append, nK]
    rw [ih (fun j hj => h j (List.mem_cons_of_mem _ hj)), E6_f (by have := h i (List.mem_cons_self ..); omega)]
    rfl
theorem sim_loop {dp : Nat} {M : RS → Bool × RS} {K0 : KL} {lo : Nat} (hM : SimT n f xc xn xl dp M) (hb : bas K0) (hdp : nK E6 K0 = dp) (hl : (flK K0).length = lo) : ∀ (k0 la : Nat) (Pd : KL) (t : List QD) (s : RS) (m : QLS) (wc : Nat) (wt : Nat → Nat) (k : Nat), RB xc (Pd ++ K0) t s m wc wt → pnd Pd lo la → s.1 ≤ n → n - s.1 ≤ k0 → n - s.1 < k →
    SimE n f xc xn xl K0 s.1 (bLp n f M lo k0 la s) (r1F n f xc xn xl k false m wc wt)
  | 0, la, Pd, t, s, m, wc, wt, k, h, hp, h1, h0, hk => by
    simp only [bLp]
    exact ⟨fun _ => ⟨Pd, t, m, wc, wt, k, pnd_6 hp, h, Nat.le_refl _, h1, sN_out (show n ≤ s.1 by omega) 32 (by decide), hk, rfl⟩, fun e => Bool.noConfusion e⟩
  | k0 + 1, la, Pd, t, s, m, wc, wt, k, h, hp, h1, h0, hk => by
    simp only [bLp]
    by_cases c1 : sN n f s.1 = iI ((32 : Nat) : Int)
    · have s1 := sN_lt c1 (by decide)
      rw [if_pos c1]
      have hc := RB_cnt h
      obtain ⟨g1, g2, g3, g4, g5, g6⟩ := h
      have c1m : sN n f m.1 = iI ((32 : Nat) : Int) := by rw [g1]; exact c1
      have hr := rowE_rng n f (n - (s.1 + 1)) (s.1 + 1)
      have hw := wd0_0 n f (s.1 + 1) (rowE n f (n - (s.1 + 1)) (s.1 + 1))
      have hkk : 0 < k := by omega
      unfold bJt
      dsimp only
      by_cases c2 : jS n f (s.1 + 1) (rowE n f (n - (s.1 + 1)) (s.1 + 1)) = -1
      · rw [if_pos c2, if_pos rfl]
        refine ⟨fun e => Bool.noConfusion e, fun _ => ?_⟩
        rw [r1_fw (s := m) rfl hkk c1m rfl rfl (Or.inl (by rw [g1]; exact hw.1.mpr c2))]
        exact ⟨rfl, by rw [← g1], g2, g3⟩
      · rw [if_neg c2]
        have v0 : ¬ wd0 (jS n f (s.1 + 1) (rowE n f (n - (s.1 + 1)) (s.1 + 1))) = 0 := fun e => c2 (hw.1.mp e)
        have v1 := hw.2.2.2 v0
        by_cases c3 : s.2.1 < 40
        · rw [if_pos c3]
          have h3 : ¬ (wd0 (jS n f (s.1 + 1) (rowE n f (n - (s.1 + 1)) (s.1 + 1))) = 0 ∨ m.2.2.2.2.1 + cnt6 wt wc = 40) := by omega
          by_cases c4 : sN n f (rowE n f (n - (s.1 + 1)) (s.1 + 1)) = iI ((32 : Nat) : Int)
          · have s4 := sN_lt c4 (by decide)
            simp only [if_pos c4]
            rw [if_neg c2]
            -- the word
            obtain ⟨v, hv⟩ : ∃ v : Nat, (v : Int) = jS n f (s.1 + 1) (rowE n f (n - (s.1 + 1)) (s.1 + 1)) := ⟨(jS n f (s.1 + 1) (rowE n f (n - (s.1 + 1)) (s.1 + 1))).toNat, by omega⟩
            have hv3 : v = 3 ∨ v = 4 ∨ v = 5 := by omega
            obtain ⟨Pd', t', e1, e2, e3⟩ := stl_pnd (t := t) hb hl hp hv3
            have gz := RI_st (if v = 3 then 1 else 0) g5
            have gf := stl_fl (if v = 3 then 1 else 0) (Pd ++ K0) t g5.1
            rw [e1] at gz gf
            dsimp only at gz gf
            have hgo := r1_word (s := m) (z := if v = 3 then 1 else 0) (v := (v : Int)) (e := rowE n f (n - (s.1 + 1)) (s.1 + 1)) (k := k) (n := n) (f := f) (xc := xc) (xn := xn) (xl := xl) (wc := wc) (wt := wt) rfl hkk c1m (by rw [g1]) (by rw [g1, v1.1, hv]) (by rw [hv]; omega) c4 (if3 v 1 0) rfl
            rw [← hgo, ← hv]
            generalize stF wt (if v = 3 then 1 else 0) wc m.2.2.2.2.1 m.2.2.2.2.2.1 m.2.2.2.2.2.2 = r at gz ⊢
            have hA : RA xc (((v, t') :: Pd') ++ K0) (rowE n f (n - (s.1 + 1)) (s.1 + 1) + 1, s.2.1 + 1, insN s.2.2.1 s.2.1 (if (v : Int) = 3 then la else lo) (iI (v : Int), iI (-1), iI (-1), iI (-1)), s.2.2.2) (wSt m (rowE n f (n - (s.1 + 1)) (s.1 + 1) + 1) r) (r.2.2.2 + 1) (up wt r.2.2.2 ((v : Int)).toNat) := by
              have q1 := RI_b gz.2.1
              have q2 := congrArg List.length gf
              simp only [List.length_append] at q2
              simp only [szL] at q1
              refine ⟨rfl, g2, g3, ?_, ?_, ?_⟩
              · have z : lsN s.2.2.1 s.2.1 = flK (Pd' ++ K0) ++ t' := by rw [g4, gf]
                have y := lsN_ins (q := nO v) z (p := if (v : Int) = 3 then la else lo) (by rw [e2]; exact if3 v la lo)
                refine Eq.trans y ?_
                simp only [List.cons_append, flK, flI]
                rw [if_neg (by omega), show v % 10 = v by omega]
              · rw [show ((v : Int)).toNat = v by omega]
                exact RI_push gz.2.1 hv3 (show r.1 + nK P6 (Pd' ++ K0) < 40 by omega)
              · exact wt_up g6 (by omega)
            have hE : nK E6 (((v, t') :: Pd') ++ K0) = dp := by rw [E6_app (pnd_6 e3), hdp]
            have hT := hM _ _ _ _ _ (k - 1) hA hE (by dsimp only; omega) (by dsimp only; omega)
            dsimp only at hT
            cases hr1 : (M (rowE n f (n - (s.1 + 1)) (s.1 + 1) + 1, s.2.1 + 1, insN s.2.2.1 s.2.1 (if (v : Int) = 3 then la else lo) (iI (v : Int), iI (-1), iI (-1), iI (-1)), s.2.2.2)).1 with
            | false =>
              rw [if_neg (by decide)]
              exact ⟨fun e => Bool.noConfusion e, fun _ => hT.2 hr1⟩
            | true =>
              rw [if_pos rfl]
              obtain ⟨t2, m2, wc2, wt2, k2, b1, b2, b3, b4, b5⟩ := hT.1 hr1
              have b6 := RB_cnt b1
              rw [b5]
              have hq : pnd ((v, t') :: Pd') lo (if (v : Int) = 3 then la else s.2.1 + 1) := by
                have z : (if (v : Int) = 3 then la else s.2.1 + 1) = (if v = 3 then la else lo + 1 + t'.length) := by
                  have q2 := congrArg List.length gf
                  simp only [List.length_append] at q2
                  by_cases q : v = 3
                  · rw [if_pos q, if_pos (by omega)]
                  · rw [if_neg q] at e2
                    rw [if_neg q, if_neg (by omega)]
                    omega
                rw [z]
                exact e3
              have w := sim_loop hM hb hdp hl k0 _ ((v, t') :: Pd') t2 _ m2 wc2 wt2 k2 b1 hq b3 (by omega) b4
              refine ⟨fun e => ?_, w.2⟩
              obtain ⟨Pd3, t3, m3, wc3, wt3, k3, x1, x2, x3, x4⟩ := w.1 e
              exact ⟨Pd3, t3, m3, wc3, wt3, k3, x1, x2, by omega, x4⟩
          · simp only [if_neg c4]
            rw [if_pos trivial]
            refine ⟨fun e => Bool.noConfusion e, fun _ => ?_⟩
            rw [r1_fe (s := m) rfl hkk c1m rfl rfl (by rw [g1]; exact h3) (by rw [g1]; exact c4)]
            exact ⟨rfl, by rw [← g1], g2, g3⟩
        · rw [if_neg c3, if_pos rfl]
          refine ⟨fun e => Bool.noConfusion e, fun _ => ?_⟩
          rw [r1_fw (s := m) rfl hkk c1m rfl rfl (Or.inr (by omega))]
          exact ⟨rfl, by rw [← g1], g2, g3⟩
    · rw [if_neg c1]
      exact ⟨fun _ => ⟨Pd, t, m, wc, wt, k, pnd_6 hp, h, Nat.le_refl _, h1, c1, hk, rfl⟩, fun e => Bool.noConfusion e⟩
theorem sim_row {dp : Nat} {M : RS → Bool × RS} (hM : SimT n f xc xn xl dp M) (hn : n ≤ 200) {K0 : KL} (hb : bas K0) (hdp : nK E6 K0 = dp) {s : RS} {m : QLS} {wc : Nat} {wt : Nat → Nat} {k : Nat} (h : RA xc K0 s m wc wt) (h1 : s.1 ≤ n) (hk : n - s.1 < k) : SimE n f xc xn xl K0 (s.1 + 1) (bSt n f M s) (r1F n f xc xn xl k true m wc wt) := by
  have a := hM K0 s m wc wt k h hdp h1 hk
  have hl : (flK K0).length = s.2.1 := by rw [← h.2.2.2.1, lsN_len]
  unfold bSt
  cases c : (M s).1 with
  | false =>
    rw [if_neg (by decide)]
    exact ⟨fun e => Bool.noConfusion e, fun _ => a.2 c⟩
  | true =>
    rw [if_pos rfl]
    obtain ⟨t, m', wc', wt', k', b1, b2, b3, b4, b5⟩ := a.1 c
    rw [b5]
    have w := sim_loop hM hb hdp hl 200 s.2.1 [] t (M s).2 m' wc' wt' k' b1 (Or.inl ⟨rfl, rfl⟩) b3 (by omega) b4
    refine ⟨fun e => ?_, w.2⟩
    obtain ⟨Pd3, t3, m3, wc3, wt3, k3, x1, x2, x3, x4⟩ := w.1 e
    exact ⟨Pd3, t3, m3, wc3, wt3, k3, x1, x2, by omega, x4⟩
theorem sim_term {d dp : Nat} {T : RS → Bool × RS} (hx : xc ≤ 8) (hd : dp + d = 20)
    (hT : d = 0 ∨ ∀ (K0 : KL), bas K0 → nK E6 K0 = dp + 1 → ∀ (s : RS) (m : QLS) (wc : Nat) (wt : Nat → Nat) (k : Nat), RA xc K0 s m wc wt → s.1 ≤ n → n - s.1 < k → SimE n f xc xn xl K0 (s.1 + 1) (T s) (r1F n f xc xn xl k true m wc wt)) :
    SimT n f xc xn xl dp (bTm n f xc xn xl T d) := by
  intro K s m wc wt k h hdp h1 hk
  have hc := RA_cnt h
  have hkk : 0 < k := by omega
  by_cases c1 : sN n f s.1 = iI ((40 : Nat) : Int)
  · have s1 := sN_lt c1 (by decide)
    obtain ⟨g1, g2, g3, g4, g5, g6⟩ := h
    have c1m : sN n f m.1 = iI ((40 : Nat) : Int) := by rw [g1]; exact c1
    unfold bTm
    rw [if_pos c1]
    by_cases c2 : d = 0
    · rw [if_pos c2]
      refine ⟨fun e => Bool.noConfusion e, fun _ => ?_⟩
      rw [r1_f20 (s := m) rfl hkk c1m (by omega)]
      exact ⟨rfl, g1, g2, g3⟩
    · rw [if_neg c2]
      rw [← r1_open (s := m) rfl hkk c1m (by omega)]
      have hA : RA xc ((6, []) :: K) (s.1 + 1, s.2) (m.1 + 1, m.2) (wc + 1) (up wt wc 6) := by
        refine ⟨by show m.1 + 1 = s.1 + 1; rw [g1], g2, g3, ?_, RI_open g5 (by omega), wt_up g6 (by decide)⟩
        show lsN s.2.2.1 s.2.1 = _
        rw [g4]
        simp [flK, flI]
      have hE6 : nK E6 ((6, []) :: K) = dp + 1 := by
        simp only [nK]
        rw [E6_t rfl, hdp]
      have w := (hT.resolve_left c2) ((6, []) :: K) (Or.inr ⟨_, _, rfl⟩) hE6 _ _ _ _ (k - 1) hA (by dsimp only; omega) (by dsimp only; omega)
      dsimp only at w
      cases c3 : (T (s.1 + 1, s.2)).1 with
      | false =>
        rw [if_neg (by decide)]
        exact ⟨fun e => Bool.noConfusion e, fun _ => w.2 c3⟩
      | true =>
        rw [if_pos rfl]
        obtain ⟨Pd, t, m', wc', wt', k', x1, x2, x3, x4, x5, x6, x7⟩ := w.1 c3
        rw [x7]
        have xc2 := RB_cnt x2
        have hE2 : nK E6 (Pd ++ (6, []) :: K) = dp + 1 := by rw [E6_app x1, hE6]
        obtain ⟨y1, y2, y3, y4, y5, y6⟩ := x2
        by_cases c4 : sN n f (T (s.1 + 1, s.2)).2.1 = iI ((41 : Nat) : Int)
        · have s4 := sN_lt c4 (by decide)
          rw [if_pos c4]
          refine ⟨fun _ => ?_, fun e => Bool.noConfusion e⟩
          obtain ⟨t', e1⟩ := stl_all (K0 := (6, []) :: K) (Or.inr ⟨_, _, rfl⟩) Pd t x1
          have gz := (RI_st 0 y5).2.1
          have gf := stl_fl 0 (Pd ++ (6, []) :: K) t y5.1
          rw [e1] at gz gf
          dsimp only at gz gf
          have gp := RI_pop gz
          refine ⟨t', _, _, _, k' - 1, ⟨?_, ?_, ?_, ?_, gp.2, y6⟩, by dsimp only; omega, by dsimp only; omega, by dsimp only; omega, (r1_close (s := m') rfl (by omega) (by rw [y1]; exact c4) (by omega) rfl).symm⟩
          · show m'.1 + 1 = (T (s.1 + 1, s.2)).2.1 + 1
            rw [y1]
          · exact y2
          · exact y3
          · show lsN (T (s.1 + 1, s.2)).2.2.2.1 (T (s.1 + 1, s.2)).2.2.1 = flK K ++ t'
            rw [y4, ← gf]
            simp [flK, flI]
        · rw [if_neg c4]
          refine ⟨fun e => Bool.noConfusion e, fun _ => ?_⟩
          rw [r1_f32 (s := m') rfl (by omega) (by omega) (fun hh => c4 (by rw [← y1]; exact hh.1)) (by rw [y1]; exact x5)]
          exact ⟨rfl, y1, y2, y3⟩
  · rw [bTm_l c1]
    obtain ⟨p, tn, nd, un, uf⟩ := s
    obtain ⟨mp, wr, mu, mf, bc, nb, bg⟩ := m
    obtain ⟨g1, g2, g3, g4, g5, g6⟩ := h
    dsimp only at *
    subst g1
    subst g2
    subst g3
    have ls := leaf_sim (n := n) (f := f) (xc := xc) (xn := xn) (xl := xl) (p := mp) (tn := tn) (nd := nd) (un := mu) (uf := mf) (wr := wr) (bc := bc) (nb := nb) (bg := bg) hx hc.2.2.1 h1
    rw [← hc.1] at ls
    rcases ls with ⟨q, p', l0, l1, l2, l3, l4, l5⟩ | ⟨s', m', l1, l2, l3, l4, l5⟩
    · rw [hc.1] at l0 l4
      rw [l4]
      refine ⟨fun _ => ⟨[q], _, wc, wt, k - 1, ⟨rfl, rfl, rfl, ?_, RI_leaf g5 (by omega) l1, g6⟩, l2, l3, by dsimp only; omega, (r1_leaf (s := (mp, wr, mu, mf, bc, nb, bg)) rfl hkk c1 l5.symm rfl).symm⟩, fun e => Bool.noConfusion e⟩
      show lsN (up nd tn q) (tn + 1) = flK K ++ [q]
      rw [lsN_up, g4]
    · rw [hc.1] at l1
      rw [l1]
      refine ⟨fun e => Bool.noConfusion e, fun _ => ?_⟩
      rw [r1_fleaf (s := (mp, wr, mu, mf, bc, nb, bg)) rfl hkk c1 l2.symm rfl]
      exact ⟨rfl, l3, l4, l5⟩
theorem sim_all (hx : xc ≤ 8) (hn : n ≤ 200) : ∀ (d dp : Nat), dp + d = 20 → ∀ (K0 : KL), bas K0 → nK E6 K0 = dp → ∀ (s : RS) (m : QLS) (wc : Nat) (wt : Nat → Nat) (k : Nat), RA xc K0 s m wc wt → s.1 ≤ n → n - s.1 < k → SimE n f xc xn xl K0 (s.1 + 1) (bTr n f xc xn xl d s) (r1F n f xc xn xl k true m wc wt)
  | 0, dp, hd, K0, hb, hE, s, m, wc, wt, k, h, h1, hk => sim_row (sim_term hx hd (Or.inl rfl)) hn hb hE h h1 hk
  | d + 1, dp, hd, K0, hb, hE, s, m, wc, wt, k, h, h1, hk => sim_row (sim_term hx hd (Or.inr (fun K1 hb1 hE1 s m wc wt k h h1 hk => sim_all hx hn d (dp + 1) (by omega) K1 hb1 hE1 s m wc wt k h h1 hk))) hn hb hE h h1 hk
/-- form 0, all of it: the class's place or nodes, and the reference's -/
theorem read0 (hx : xc ≤ 8) (hn : n ≤ 200) {nd : Nat → QD} {uf : Nat → Int32} {wr : Nat} {nb : Nat → QD} {bg : Nat → Nat} {wt : Nat → Nat} (hwt : ∀ j, wt j < 1000) :
    ((bTr n f xc xn xl 20 (0, 0, nd, 0, uf)).1 = true ∧ n ≤ (bTr n f xc xn xl 20 (0, 0, nd, 0, uf)).2.1 → (r1F n f xc xn xl (n + 1) true (0, wr, 0, uf, 0, nb, bg) 0 wt).1 = true ∧ (r1F n f xc xn xl (n + 1) true (0, wr, 0, uf, 0, nb, bg) 0 wt).2.1.2.2.1 = (bTr n f xc xn xl 20 (0, 0, nd, 0, uf)).2.2.2.2.1 ∧ (r1F n f xc xn xl (n + 1) true (0, wr, 0, uf, 0, nb, bg) 0 wt).2.1.2.2.2.1 = (bTr n f xc xn xl 20 (0, 0, nd, 0, uf)).2.2.2.2.2 ∧ (∀ j, (r1F n f xc xn xl (n + 1) true (0, wr, 0, uf, 0, nb, bg) 0 wt).2.2.2 j < 1000) ∧ (r1F n f xc xn xl (n + 1) true (0, wr, 0, uf, 0, nb, bg) 0 wt).2.1.2.2.2.2.1 ≤ 40 ∧ HF (lfP xc) (r1F n f xc xn xl (n + 1) true (0, wr, 0, uf, 0, nb, bg) 0 wt).2.1.2.2.2.2.2.1 (r1F n f xc xn xl (n + 1) true (0, wr, 0, uf, 0, nb, bg) 0 wt).2.1.2.2.2.2.2.2 [lsN (bTr n f xc xn xl 20 (0, 0, nd, 0, uf)).2.2.2.1 (bTr n f xc xn xl 20 (0, 0, nd, 0, uf)).2.2.1] (r1F n f xc xn xl (n + 1) true (0, wr, 0, uf, 0, nb, bg) 0 wt).2.1.2.2.2.2.1) ∧
    (¬ ((bTr n f xc xn xl 20 (0, 0, nd, 0, uf)).1 = true ∧ n ≤ (bTr n f xc xn xl 20 (0, 0, nd, 0, uf)).2.1) → OUT (r1F n f xc xn xl (n + 1) true (0, wr, 0, uf, 0, nb, bg) 0 wt) (bTr n f xc xn xl 20 (0, 0, nd, 0, uf)).2) := by
  have hA : RA xc [] (0, 0, nd, 0, uf) (0, wr, 0, uf, 0, nb, bg) 0 wt := ⟨rfl, rfl, rfl, rfl, ⟨fun _ h => absurd h List.not_mem_nil, rfl, True.intro, rfl, (show 0 + 0 ≤ 40 by omega), (show 0 ≤ 20 by omega)⟩, hwt⟩
  have w := sim_all (f := f) (xn := xn) (xl := xl) hx hn 20 0 rfl [] (Or.inl rfl) rfl _ _ 0 wt (n + 1) hA (Nat.zero_le _) (by dsimp only; omega)
  generalize bTr n f xc xn xl 20 (0, 0, nd, 0, uf) = r at w ⊢
  generalize r1F n f xc xn xl (n + 1) true (0, wr, 0, uf, 0, nb, bg) 0 wt = x at w ⊢
  cases c : r.1 with
  | false => exact ⟨fun h => Bool.noConfusion h.1, fun _ => w.2 c⟩
  | true =>
    obtain ⟨Pd, t, m', wc', wt', k', x1, x2, x3, x4, x5, x6, x7⟩ := w.1 c
    have hcn := RB_cnt x2
    rw [List.append_nil] at x2 hcn
    have hz : nK E6 Pd = 0 := by
      have := E6_app (K0 := []) x1
      rw [List.append_nil] at this
      rw [this]
      rfl
    obtain ⟨y1, y2, y3, y4, y5, y6⟩ := x2
    refine ⟨fun hh => ?_, fun hh => ?_⟩
    · have e := r1_end (s := m') (k := k') (n := n) (f := f) (xc := xc) (xn := xn) (xl := xl) (wc := wc') (wt := wt') rfl (by omega) (by omega) (by omega) rfl
      rw [← x7] at e
      obtain ⟨t', e1⟩ := stl_all (K0 := []) (Or.inl rfl) Pd t x1
      rw [List.append_nil] at e1
      have gz := (RI_st 0 y5).2.1
      have gf := stl_fl 0 Pd t y5.1
      rw [e1] at gz gf
      dsimp only at gz gf
      simp only [flK, List.nil_append] at gf
      have gl := gz.2.2.2.2
      subst e
      refine ⟨rfl, y2, y3, y6, ?_, ?_⟩
      · show (stF wt' 0 wc' m'.2.2.2.2.1 m'.2.2.2.2.2.1 m'.2.2.2.2.2.2).1 ≤ 40
        omega
      · rw [y4, ← gf]
        exact gz.2.2.2.1
    · rw [x7, r1_f32 (s := m') rfl (by omega) (fun q => hh ⟨by trivial, by omega⟩) (by omega) (by rw [y1]; exact x5)]
      exact ⟨rfl, y1, y2, y3⟩
end SM
