/-! ===== a tree that was read can be met ===== -/
theorem HT_okT {P : QD → Prop} {nd : Nat → QD} {bg : Nat → Nat} (hP : ∀ q, P q → q.1.toInt < 3) : ∀ (f b e : Nat) (L : List QD), HT P nd bg f b e L → ∀ (od : Nat → QD) (p o : Nat), lsN (fun i => od (p + i)) L.length = L → o + L.length ≤ 40 → okT od p (o + 1) → okT od (p + L.length) o
  | 0, _, _, _, h, _, _, _, _, _, _ => h.elim
  | f + 1, b, e, L, h, od, p, o, hl, h40, hok => by
    obtain ⟨h1, h2, h3⟩ := h
    rcases h3 with ⟨h3, hp, rfl⟩ | ⟨m, o2, L1, L2, ho, hn, a1, a2, rfl⟩
    · simp only [List.length_cons, List.length_nil, lsN, List.nil_append] at hl h40 ⊢
      have e0 : od p = nd b := (List.cons.inj hl).1
      show okT od (p + 1) o
      simp only [okT]
      rw [if_pos (by rw [e0]; exact hP _ hp)]
      exact ⟨by omega, hok⟩
    · simp only [List.length_cons, List.length_append] at hl h40 ⊢
      rw [show L1.length + L2.length + 1 = 1 + (L1.length + L2.length) by omega, lsN_split, lsN_split _ L1.length L2.length] at hl
      simp only [lsN, List.nil_append, List.cons_append, List.nil_append] at hl
      have z := List.cons.inj hl
      have z2 := List.append_inj z.2 (by rw [lsN_len])
      have e1 : lsN (fun i => od (p + 1 + i)) L1.length = L1 := by
        rw [lsN_congr (g := fun i => od (p + (1 + i))) _ (fun i _ => by rw [show p + 1 + i = p + (1 + i) by omega])]
        exact z2.1
      have e2 : lsN (fun i => od (p + 1 + L1.length + i)) L2.length = L2 := by
        rw [lsN_congr (g := fun i => od (p + (1 + (L1.length + i)))) _ (fun i _ => by rw [show p + 1 + L1.length + i = p + (1 + (L1.length + i)) by omega])]
        exact z2.2
      rw [show p + (L1.length + L2.length + 1) = p + 1 + L1.length + L2.length by omega]
      refine HT_okT hP f _ _ L2 a2 od (p + 1 + L1.length) o e2 (by omega) ?_
      refine HT_okT hP f _ _ L1 a1 od (p + 1) (o + 1) e1 (by omega) ?_
      show okT od (p + 1) (o + 1 + 1)
      simp only [okT]
      have e0 : od p = nO o2 := z.1
      rw [if_neg (by rw [e0]; rcases ho with rfl | rfl | rfl <;> decide)]
      exact ⟨by omega, hok⟩
theorem HT_ix {xc : Nat} {nd : Nat → QD} {bg : Nat → Nat} : ∀ (f b e : Nat) (L : List QD), HT (lfP xc) nd bg f b e L → ∀ q ∈ L, -1 ≤ q.2.1.toInt ∧ q.2.1.toInt < xc
  | 0, _, _, _, h, _, _ => h.elim
  | f + 1, b, e, L, h, q, hq => by
    obtain ⟨h1, h2, h3⟩ := h
    rcases h3 with ⟨h3, hp, rfl⟩ | ⟨m, o2, L1, L2, ho, hn, a1, a2, rfl⟩
    · simp at hq
      subst hq
      have := hp.2
      omega
    · rcases List.mem_cons.mp hq with rfl | hq
      · have e0 : (nO o2).2.1.toInt = -1 := by show (iI (-1)).toInt = -1; decide
        rw [e0]
        omega
      · rcases List.mem_append.mp hq with hq | hq
        · exact HT_ix f _ _ L1 a1 q hq
        · exact HT_ix f _ _ L2 a2 q hq
theorem lsN_mem (f : Nat → QD) : ∀ n k, k < n → f k ∈ lsN f n
  | 0, k, h => absurd h (Nat.not_lt_zero _)
  | n + 1, k, h => by
    simp only [lsN, List.mem_append]
    rcases Nat.lt_or_ge k n with c | c
    · exact Or.inl (lsN_mem f n k c)
    · obtain rfl : k = n := by omega
      exact Or.inr (List.mem_cons_self ..)
/-- a tree: at most 40 nodes, well made, its indexes known -/
def tok (xc : Nat) (nd : Nat → QD) (n : Nat) : Prop := n ≤ 40 ∧ (0 < n → okT nd n 0) ∧ ∀ j, j < n → -1 ≤ (nd j).2.1.toInt ∧ (nd j).2.1.toInt < xc
theorem tok_of {xc : Nat} {nd : Nat → QD} {bg : Nat → Nat} {od : Nat → QD} {n bc : Nat} (h : HF (lfP xc) nd bg [lsN od n] bc) (hn : n ≤ 40) : tok xc od n := by
  obtain ⟨f, b, a1, a2⟩ := h
  refine ⟨hn, fun _ => ?_, fun j hj => HT_ix _ _ _ _ a1 _ (lsN_mem od n j hj)⟩
  have z := HT_okT lfP_3 _ _ _ _ a1 od 0 0 (by rw [lsN_len]; exact lsN_congr n (fun i _ => by rw [Nat.zero_add])) (by rw [lsN_len]; omega) rfl
  rwa [lsN_len, Nat.zero_add] at z
theorem tok_mono {xc xc' : Nat} {nd : Nat → QD} {n : Nat} (h : tok xc nd n) (hx : xc ≤ xc') : tok xc' nd n := ⟨h.1, h.2.1, fun j hj => by have := h.2.2 j hj; omega⟩
theorem tok_congr {xc : Nat} {nd nd' : Nat → QD} {n : Nat} (h : tok xc nd n) (e : ∀ k, k < n → nd k = nd' k) : tok xc nd' n := ⟨h.1, fun q => okT_congr n 0 e (h.2.1 q), fun j hj => by rw [← e j hj]; exact h.2.2 j hj⟩
/-! ===== what class and reference hold in common ===== -/
def G1 (sn sn' : Nat) (sf sf' : Nat → Int32) : Prop := sn' = sn ∧ sf' = sf ∧ sn ≤ 200 ∧ y8 sf
def G2 (xc xc' : Nat) (xn xn' : Nat → Nat) (xl xl' : Nat → Int32) (xo fo : Nat → Bool) : Prop := xc' = xc ∧ xn' = xn ∧ xl' = xl ∧ xc ≤ 8 ∧ (∀ j, j < xc → xn j ≤ 8) ∧ y8 xl ∧ (∀ k, k < xc → fo k = !(xo k)) ∧ (∀ k, xc ≤ k → fo k = false)
def G3 (un un' : Nat) (uf uf' : Nat → Int32) : Prop := un' = un ∧ uf' = uf ∧ un ≤ 200 ∧ y8 uf
def G4 (xc on : Nat) (od : Nat → QD) (ts : Nat → Nat) (tr : Nat → QD) : Prop := ts 10 = on ∧ (∀ i, i < on → tr (400 + i) = od i) ∧ tok xc od on
def G5 (rc rc' : Nat) (rm mo : Nat → Int64) (re ec : Nat → Nat) (ri : Nat → Int32) (rv : Nat → Nat) (en : Nat → Int32 × Nat) : Prop := rc' = rc ∧ rc ≤ 60 ∧ (∀ k, 1 ≤ k → k ≤ rc → mo k = rm (k - 1)) ∧ (∀ i, 1 ≤ i → i < rc → mo i ≤ mo (i + 1)) ∧ ((∀ k, re k ≤ 8) ∧ (∀ k, ec k ≤ 8) ∧ (∀ k, rv k < 100000) ∧ (∀ k, (en k).2 < 100000)) ∧ (∀ k, 1 ≤ k → k ≤ rc → ec k = re (k - 1)) ∧ (∀ k, rc < k → ec k = 0) ∧ (∀ k e, 1 ≤ k → k ≤ rc → e < ec k → en (8 * k + e) = (ri ((k - 1) * 8 + e), rv ((k - 1) * 8 + e)))
def G6 (hc hc' : Nat) (hn hn' : Nat → Nat) : Prop := hc' = hc ∧ hc ≤ 60 ∧ ∀ k, k < hc → hn' k = hn k
def G7 (xc : Nat) (q : Nat → QV) (ts : Nat → Nat) (tr : Nat → QD) (lk : Nat → Bool) (se : Nat → Int64) : Prop := (∀ i, (q i).2.2.2.1 ≤ 40) ∧ (∀ k, ts k ≤ 40) ∧ ∀ i, i < 10 → ts i = (q i).2.2.2.1 ∧ (q i).1 = decide (0 < ts i) ∧ lk i = (q i).2.1 ∧ se i = (q i).2.2.1 ∧ (∀ j, j < ts i → tr (40 * i + j) = (q i).2.2.2.2 j) ∧ tok xc (q i).2.2.2.2 (ts i)
section GG
variable {sn sn' : Nat} {sf sf' : Nat → Int32} {xc xc' : Nat} {xn xn' : Nat → Nat} {xl xl' : Nat → Int32} {xo fo : Nat → Bool} {un un' : Nat} {uf uf' : Nat → Int32} {on : Nat} {od : Nat → QD} {ts : Nat → Nat} {tr : Nat → QD} {rc rc' : Nat} {rm mo : Nat → Int64} {re ec : Nat → Nat} {ri : Nat → Int32} {rv : Nat → Nat} {en : Nat → Int32 × Nat} {hc hc' : Nat} {hn hn' : Nat → Nat} {q : Nat → QV} {lk : Nat → Bool} {se : Nat → Int64}
theorem g1_sign (h : G1 sn sn' sf sf') (c : Int32) : G1 (if sn < 200 then sn + 1 else sn) (if sn' < 200 then sn' + 1 else sn') (if sn < 200 then upd sf sn (c &&& (iI ((255 : Nat) : Int))) else sf) (if sn' < 200 then upd sf' sn' (c &&& (iI ((255 : Nat) : Int))) else sf') := by
  obtain ⟨rfl, rfl, h3, h4⟩ := h
  refine ⟨rfl, rfl, ?_, ?_⟩
  · split <;> omega
  · split
    · exact y8_sign h4 _ _
    · exact h4
theorem g1_0 (h : G1 sn sn' sf sf') : G1 0 0 sf sf' := ⟨rfl, h.2.1, by omega, h.2.2.2⟩
def okC (sn : Nat) (sf : Nat → Int32) (xc : Nat) (xn : Nat → Nat) (xl : Nat → Int32) : Prop := xc < 8 ∧ 1 ≤ sn ∧ sn ≤ 8 ∧ rowE sn sf (sn - 0) 0 = sn ∧ jS sn sf 0 sn = -1 ∧ fnd (nmB xn xl sn sf 0 sn) xc 0 = -1
theorem ix_iff : (xc < 8 ∧ 1 ≤ sn ∧ sn ≤ 8 ∧ rowE sn sf (sn - 0) 0 = sn ∧ jS sn sf 0 sn = -1 ∧ fnd (nmB xn xl sn sf 0 sn) xc 0 = -1) ↔ (xc < 8 ∧ 1 ≤ rowE sn sf (sn - 0) 0 ∧ rowE sn sf (sn - 0) 0 ≤ 8 ∧ rowE sn sf (sn - 0) 0 = sn ∧ jS sn sf 0 (rowE sn sf (sn - 0) 0) = -1 ∧ fnd (nmB xn xl sn sf 0 (rowE sn sf (sn - 0) 0)) xc 0 = -1) := by
  constructor
  · intro h
    rw [h.2.2.2.1]
    exact ⟨h.1, h.2.1, h.2.2.1, rfl, h.2.2.2.2⟩
  · intro h
    have e := h.2.2.2.1
    rw [e] at h
    exact ⟨h.1, h.2.1, h.2.2.1, e, h.2.2.2.2⟩
theorem r_index (h1 : G1 sn sn' sf sf') (h2 : G2 xc xc' xn xn' xl xl' xo fo) : (if xc < 8 ∧ 1 ≤ sn ∧ sn ≤ 8 ∧ rowE sn sf (sn - 0) 0 = sn ∧ jS sn sf 0 sn = -1 ∧ fnd (nmB xn xl sn sf 0 sn) xc 0 = -1 then ((xc : Nat) : Int) else -1) = (if xc' < 8 ∧ 1 ≤ rowE sn' sf' (sn' - 0) 0 ∧ rowE sn' sf' (sn' - 0) 0 ≤ 8 ∧ rowE sn' sf' (sn' - 0) 0 = sn' ∧ jS sn' sf' 0 (rowE sn' sf' (sn' - 0) 0) = -1 ∧ fnd (nmB xn' xl' sn' sf' 0 (rowE sn' sf' (sn' - 0) 0)) xc' 0 = -1 then ((xc' : Nat) : Int) else -1) := by
  obtain ⟨rfl, rfl, h13, h14⟩ := h1
  obtain ⟨rfl, rfl, rfl, h23⟩ := h2
  simp only [← ix_iff]
theorem g2_index (h1 : G1 sn sn' sf sf') (h2 : G2 xc xc' xn xn' xl xl' xo fo) : G2 (if xc < 8 ∧ 1 ≤ sn ∧ sn ≤ 8 ∧ rowE sn sf (sn - 0) 0 = sn ∧ jS sn sf 0 sn = -1 ∧ fnd (nmB xn xl sn sf 0 sn) xc 0 = -1 then xc + 1 else xc) (if xc' < 8 ∧ 1 ≤ rowE sn' sf' (sn' - 0) 0 ∧ rowE sn' sf' (sn' - 0) 0 ≤ 8 ∧ rowE sn' sf' (sn' - 0) 0 = sn' ∧ jS sn' sf' 0 (rowE sn' sf' (sn' - 0) 0) = -1 ∧ fnd (nmB xn' xl' sn' sf' 0 (rowE sn' sf' (sn' - 0) 0)) xc' 0 = -1 then xc' + 1 else xc')
    (if xc < 8 ∧ 1 ≤ sn ∧ sn ≤ 8 ∧ rowE sn sf (sn - 0) 0 = sn ∧ jS sn sf 0 sn = -1 ∧ fnd (nmB xn xl sn sf 0 sn) xc 0 = -1 then up xn xc sn else xn) (if xc' < 8 ∧ 1 ≤ rowE sn' sf' (sn' - 0) 0 ∧ rowE sn' sf' (sn' - 0) 0 ≤ 8 ∧ rowE sn' sf' (sn' - 0) 0 = sn' ∧ jS sn' sf' 0 (rowE sn' sf' (sn' - 0) 0) = -1 ∧ fnd (nmB xn' xl' sn' sf' 0 (rowE sn' sf' (sn' - 0) 0)) xc' 0 = -1 then up xn' xc' sn' else xn')
    (if xc < 8 ∧ 1 ≤ sn ∧ sn ≤ 8 ∧ rowE sn sf (sn - 0) 0 = sn ∧ jS sn sf 0 sn = -1 ∧ fnd (nmB xn xl sn sf 0 sn) xc 0 = -1 then rgF xl sn sf xc else xl) (if xc' < 8 ∧ 1 ≤ rowE sn' sf' (sn' - 0) 0 ∧ rowE sn' sf' (sn' - 0) 0 ≤ 8 ∧ rowE sn' sf' (sn' - 0) 0 = sn' ∧ jS sn' sf' 0 (rowE sn' sf' (sn' - 0) 0) = -1 ∧ fnd (nmB xn' xl' sn' sf' 0 (rowE sn' sf' (sn' - 0) 0)) xc' 0 = -1 then rgF xl' sn' sf' xc' else xl')
    (if xc < 8 ∧ 1 ≤ sn ∧ sn ≤ 8 ∧ rowE sn sf (sn - 0) 0 = sn ∧ jS sn sf 0 sn = -1 ∧ fnd (nmB xn xl sn sf 0 sn) xc 0 = -1 then up xo xc true else xo) fo := by
  obtain ⟨rfl, rfl, h13, h14⟩ := h1
  obtain ⟨rfl, rfl, rfl, h23, h24, h25, h26, h27⟩ := h2
  simp only [← ix_iff]
  by_cases c : xc' < 8 ∧ 1 ≤ sn' ∧ sn' ≤ 8 ∧ rowE sn' sf' (sn' - 0) 0 = sn' ∧ jS sn' sf' 0 sn' = -1 ∧ fnd (nmB xn' xl' sn' sf' 0 sn') xc' 0 = -1
  · simp only [if_pos c]
    refine ⟨rfl, rfl, rfl, by omega, fun j hj => ?_, y8_rg h25 h14, fun k hk => ?_, fun k hk => h27 k (by omega)⟩
    · unfold up
      split
      · omega
      · exact h24 j (by omega)
    · unfold up
      split
      · next e => rw [h27 k (by omega)]; rfl
      · exact h26 k (by omega)
  · simp only [if_neg c]
    exact ⟨rfl, rfl, rfl, h23, h24, h25, h26, h27⟩
theorem xc_le : xc ≤ (if xc < 8 ∧ 1 ≤ sn ∧ sn ≤ 8 ∧ rowE sn sf (sn - 0) 0 = sn ∧ jS sn sf 0 sn = -1 ∧ fnd (nmB xn xl sn sf 0 sn) xc 0 = -1 then xc + 1 else xc) := by split <;> omega
theorem g4_mono (h : G4 xc on od ts tr) {x2 : Nat} (hx : xc ≤ x2) : G4 x2 on od ts tr := ⟨h.1, h.2.1, tok_mono h.2.2 hx⟩
theorem g7_mono (h : G7 xc q ts tr lk se) {x2 : Nat} (hx : xc ≤ x2) : G7 x2 q ts tr lk se := ⟨h.1, h.2.1, fun i hi => by
  have z := h.2.2 i hi
  exact ⟨z.1, z.2.1, z.2.2.1, z.2.2.2.1, z.2.2.2.2.1, tok_mono z.2.2.2.2.2 hx⟩⟩
theorem r_on (h : G2 xc xc' xn xn' xl xl' xo fo) (i : Int) : (decide (0 ≤ i ∧ i < xc) && xo i.toNat) = (decide (0 ≤ i ∧ i < xc') && !(fo i.toNat)) := by
  obtain ⟨rfl, rfl, rfl, h23, h24, h25, h26, h27⟩ := h
  by_cases c : 0 ≤ i ∧ i < xc'
  · rw [h26 i.toNat (by omega), Bool.not_not]
  · rw [decide_eq_false c]
    rfl
theorem g2_on (h : G2 xc xc' xn xn' xl xl' xo fo) (i : Int) (b : Bool) : G2 xc xc' xn xn' xl xl' (if 0 ≤ i ∧ i < xc then up xo i.toNat b else xo) (if 0 ≤ i ∧ i < xc' then up fo i.toNat (!b) else fo) := by
  obtain ⟨rfl, rfl, rfl, h23, h24, h25, h26, h27⟩ := h
  refine ⟨rfl, rfl, rfl, h23, h24, h25, ?_, ?_⟩
  · intro k hk
    split
    · unfold up
      split
      · rfl
      · exact h26 k hk
    · exact h26 k hk
  · intro k hk
    split
    · unfold up
      split
      · omega
      · exact h27 k hk
    · exact h27 k hk
theorem r_node (h : G4 xc on od ts tr) (i what : Int) : ndW on od i what = ndW (ts 10) (fun z9 => tr (400 + z9)) i what := by
  obtain ⟨rfl, h2, h3⟩ := h
  have e : tA (ts 10) od i = tA (ts 10) (fun z9 => tr (400 + z9)) i := by
    unfold tA
    by_cases c : 0 ≤ i ∧ i < (ts 10 : Nat)
    · rw [if_pos c, if_pos c]
      exact (h2 i.toNat (by omega)).symm
    · rw [if_neg c, if_neg c]
  unfold ndW
  rw [e]
theorem r_near (h2 : G2 xc xc' xn xn' xl xl' xo fo) (h3 : G3 un un' uf uf') : (if un = 0 then -1 else (nrS (fun k => rowD (eqF un uf xl k) un (xn k)) xc).1) = (if un' = 0 then -1 else (nrS (fun k => rowD (eqF un' uf' xl' k) un' (xn' k)) xc').1) := by
  obtain ⟨rfl, rfl, _⟩ := h3
  obtain ⟨rfl, rfl, rfl, _⟩ := h2
  rfl
theorem rec_iff (h : G5 rc rc' rm mo re ec ri rv en) (t : Int64) : (rc < 60 ∧ (rc = 0 ∨ ¬ t < rm (rc - 1))) ↔ (rc' < 60 ∧ (rc' = 0 ∨ ¬ t < mo rc')) := by
  obtain ⟨rfl, h2, h3, _⟩ := h
  by_cases c : rc' = 0
  · subst c; simp
  · rw [h3 rc' (by omega) (Nat.le_refl _)]
theorem r_record (h : G5 rc rc' rm mo re ec ri rv en) (t : Int64) : (if rc < 60 ∧ (rc = 0 ∨ ¬ t < rm (rc - 1)) then rc + 1 else 0) = (if rc' < 60 ∧ (rc' = 0 ∨ ¬ t < mo rc') then rc' + 1 else 0) := by
  have i := rec_iff h t
  obtain ⟨rfl, _⟩ := h
  simp only [i]
theorem g5_record (h : G5 rc rc' rm mo re ec ri rv en) (t : Int64) : G5 (if rc < 60 ∧ (rc = 0 ∨ ¬ t < rm (rc - 1)) then rc + 1 else rc) (if rc' < 60 ∧ (rc' = 0 ∨ ¬ t < mo rc') then rc' + 1 else rc') (if rc < 60 ∧ (rc = 0 ∨ ¬ t < rm (rc - 1)) then vp_updL rm rc t else rm) (if rc' < 60 ∧ (rc' = 0 ∨ ¬ t < mo rc') then vp_updL mo (rc' + 1) t else mo) (if rc < 60 ∧ (rc = 0 ∨ ¬ t < rm (rc - 1)) then up re rc 0 else re) ec ri rv en := by
  have i := rec_iff h t
  obtain ⟨rfl, h2, h3, h4, ⟨b1, b2, b3, b4⟩, h6, h7, h8⟩ := h
  simp only [i]
  by_cases c : rc' < 60 ∧ (rc' = 0 ∨ ¬ t < mo rc')
  · simp only [if_pos c]
    refine ⟨rfl, by omega, fun k k1 k2 => ?_, fun j j1 j2 => ?_, ⟨fun k => ?_, b2, b3, b4⟩, fun k k1 k2 => ?_, fun k hk => h7 k (by omega), fun k e k1 k2 he => ?_⟩
    · unfold vp_updL
      by_cases e : k = rc' + 1
      · rw [if_pos e, if_pos (by omega)]
      · rw [if_neg e, if_neg (by omega)]
        exact h3 k k1 (by omega)
    · unfold vp_updL
      rw [if_neg (by omega)]
      by_cases e : j + 1 = rc' + 1
      · rw [if_pos e]
        have := c.2.resolve_left (by omega)
        have ej : j = rc' := by omega
        subst ej
        exact Int64.not_lt.mp this
      · rw [if_neg e]
        exact h4 j j1 (by omega)
    · unfold up
      split
      · omega
      · exact b1 k
    · unfold up
      by_cases e : k = rc' + 1
      · rw [if_pos (by omega), h7 k (by omega)]
      · rw [if_neg (by omega)]
        exact h6 k k1 (by omega)
    · by_cases e2 : k = rc' + 1
      · rw [h7 k (by omega)] at he
        omega
      · exact h8 k e k1 (by omega) he
  · simp only [if_neg c]
    exact ⟨rfl, h2, h3, h4, ⟨b1, b2, b3, b4⟩, h6, h7, h8⟩
theorem g6_at (h : G6 hc hc' hn hn') (i : Int) : (if 0 ≤ i ∧ i < hc then hn i.toNat else 0) = (if 0 ≤ i ∧ i < hc' then hn' i.toNat else 0) := by
  obtain ⟨rfl, h2, h3⟩ := h
  by_cases c : 0 ≤ i ∧ i < hc'
  · rw [if_pos c, if_pos c, h3 i.toNat (by omega)]
  · rw [if_neg c, if_neg c]
end GG
