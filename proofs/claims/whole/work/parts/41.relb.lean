/-! ===== entries, saved questions ===== -/
section GH
variable {sn sn' : Nat} {sf sf' : Nat → Int32} {xc xc' : Nat} {xn xn' : Nat → Nat} {xl xl' : Nat → Int32} {xo fo : Nat → Bool} {un un' : Nat} {uf uf' : Nat → Int32} {on : Nat} {od : Nat → QD} {ts : Nat → Nat} {tr : Nat → QD} {rc rc' : Nat} {rm mo : Nat → Int64} {re ec : Nat → Nat} {ri : Nat → Int32} {rv : Nat → Nat} {en : Nat → Int32 × Nat} {hc hc' : Nat} {hn hn' : Nat → Nat} {q : Nat → QV} {lk : Nat → Bool} {se : Nat → Int64}
theorem en_iff (h2 : G2 xc xc' xn xn' xl xl' xo fo) (h : G5 rc rc' rm mo re ec ri rv en) (i j v : Int) : ((0 ≤ j ∧ j < xc ∧ 0 ≤ v ∧ v ≤ 99999) ∧ (1 ≤ i ∧ i ≤ rc ∧ re (i - ((1 : Nat) : Int)).toNat < 8)) ↔ (1 ≤ i ∧ i ≤ rc' ∧ 0 ≤ j ∧ j < xc' ∧ 0 ≤ v ∧ v ≤ 99999 ∧ ec i.toNat < 8) := by
  obtain ⟨rfl, _⟩ := h2
  obtain ⟨rfl, h2, h3, h4, h5, h6, _⟩ := h
  by_cases c : 1 ≤ i ∧ i ≤ rc'
  · rw [h6 i.toNat (by omega) (by omega), show (i - ((1 : Nat) : Int)).toNat = i.toNat - 1 by omega]
    constructor
    · intro z; exact ⟨z.2.1, z.2.2.1, z.1.1, z.1.2.1, z.1.2.2.1, z.1.2.2.2, z.2.2.2⟩
    · intro z; exact ⟨⟨z.2.2.1, z.2.2.2.1, z.2.2.2.2.1, z.2.2.2.2.2.1⟩, z.1, z.2.1, z.2.2.2.2.2.2⟩
  · constructor
    · intro z; exact absurd ⟨z.2.1, z.2.2.1⟩ c
    · intro z; exact absurd ⟨z.1, z.2.1⟩ c
theorem if2 {α : Type} {p r : Prop} [Decidable p] [Decidable r] (a b : α) : (if p then (if r then a else b) else b) = if p ∧ r then a else b := by
  by_cases c : p
  · rw [if_pos c]
    by_cases d : r
    · rw [if_pos d, if_pos ⟨c, d⟩]
    · rw [if_neg d, if_neg (fun h => d h.2)]
  · rw [if_neg c, if_neg (fun h => c h.1)]
theorem r_entry (h2 : G2 xc xc' xn xn' xl xl' xo fo) (h : G5 rc rc' rm mo re ec ri rv en) (i j v : Int) : (if 0 ≤ j ∧ j < xc ∧ 0 ≤ v ∧ v ≤ 99999 then (if 1 ≤ i ∧ i ≤ rc ∧ re (i - ((1 : Nat) : Int)).toNat < 8 then re (i - ((1 : Nat) : Int)).toNat + 1 else 0) else 0) = (if 1 ≤ i ∧ i ≤ rc' ∧ 0 ≤ j ∧ j < xc' ∧ 0 ≤ v ∧ v ≤ 99999 ∧ ec i.toNat < 8 then ec i.toNat + 1 else 0) := by
  have z := en_iff h2 h i j v
  rw [if2]
  simp only [z]
  by_cases c : 1 ≤ i ∧ i ≤ rc' ∧ 0 ≤ j ∧ j < xc' ∧ 0 ≤ v ∧ v ≤ 99999 ∧ ec i.toNat < 8
  · rw [if_pos c, if_pos c]
    obtain ⟨rfl, h2, h3, h4, h5, h6, _⟩ := h
    rw [h6 i.toNat (by omega) (by omega), show (i - ((1 : Nat) : Int)).toNat = i.toNat - 1 by omega]
  · rw [if_neg c, if_neg c]
theorem g5_entry (h2 : G2 xc xc' xn xn' xl xl' xo fo) (h : G5 rc rc' rm mo re ec ri rv en) (i j v : Int) : G5 rc rc' rm mo
    (if 0 ≤ j ∧ j < xc ∧ 0 ≤ v ∧ v ≤ 99999 then (if 1 ≤ i ∧ i ≤ rc ∧ re (i - ((1 : Nat) : Int)).toNat < 8 then up re (i - ((1 : Nat) : Int)).toNat (re (i - ((1 : Nat) : Int)).toNat + 1) else re) else re)
    (if 1 ≤ i ∧ i ≤ rc' ∧ 0 ≤ j ∧ j < xc' ∧ 0 ≤ v ∧ v ≤ 99999 ∧ ec i.toNat < 8 then up ec i.toNat (ec i.toNat + 1) else ec)
    (if 0 ≤ j ∧ j < xc ∧ 0 ≤ v ∧ v ≤ 99999 then (if 1 ≤ i ∧ i ≤ rc ∧ re (i - ((1 : Nat) : Int)).toNat < 8 then upd ri ((i - ((1 : Nat) : Int)).toNat * 8 + re (i - ((1 : Nat) : Int)).toNat) (iI j) else ri) else ri)
    (if 0 ≤ j ∧ j < xc ∧ 0 ≤ v ∧ v ≤ 99999 then (if 1 ≤ i ∧ i ≤ rc ∧ re (i - ((1 : Nat) : Int)).toNat < 8 then up rv ((i - ((1 : Nat) : Int)).toNat * 8 + re (i - ((1 : Nat) : Int)).toNat) v.toNat else rv) else rv)
    (if 1 ≤ i ∧ i ≤ rc' ∧ 0 ≤ j ∧ j < xc' ∧ 0 ≤ v ∧ v ≤ 99999 ∧ ec i.toNat < 8 then up en (8 * i.toNat + ec i.toNat) (iI j, v.toNat) else en) := by
  have z := en_iff h2 h i j v
  rw [if2, if2, if2]
  simp only [z]
  by_cases c : 1 ≤ i ∧ i ≤ rc' ∧ 0 ≤ j ∧ j < xc' ∧ 0 ≤ v ∧ v ≤ 99999 ∧ ec i.toNat < 8
  · simp only [if_pos c]
    obtain ⟨rfl, h2, h3, h4, ⟨b1, b2, b3, b4⟩, h6, h7, h8⟩ := h
    have hk := h6 i.toNat (by omega) (by omega)
    rw [show (i - ((1 : Nat) : Int)).toNat = i.toNat - 1 by omega]
    generalize hK : i.toNat = k at *
    have k1 : 1 ≤ k := by omega
    have k2 : k ≤ rc' := by omega
    refine ⟨rfl, h2, h3, h4, ⟨fun n => ?_, fun n => ?_, fun n => ?_, fun n => ?_⟩, fun n n1 n2 => ?_, fun n hn => ?_, fun n e n1 n2 he => ?_⟩
    · unfold up
      split
      · omega
      · exact b1 n
    · unfold up
      split
      · omega
      · exact b2 n
    · unfold up
      split
      · omega
      · exact b3 n
    · unfold up
      split
      · show v.toNat < 100000
        omega
      · exact b4 n
    · unfold up
      by_cases e : n = k
      · rw [if_pos e, if_pos (by omega), hk]
      · rw [if_neg e, if_neg (by omega)]
        exact h6 n n1 n2
    · unfold up
      rw [if_neg (by omega)]
      exact h7 n hn
    · unfold up at he ⊢
      unfold upd
      by_cases e1 : n = k
      · rw [if_pos e1] at he
        subst e1
        by_cases e2 : e = ec n
        · rw [if_pos (by omega), if_pos (by omega), if_pos (by omega)]
        · rw [if_neg (by omega), if_neg (by omega), if_neg (by omega)]
          exact h8 n e n1 n2 (by omega)
      · rw [if_neg e1] at he
        have a1 := b2 n
        have a2 := b2 k
        rw [if_neg (by omega), if_neg (by omega), if_neg (by omega)]
        exact h8 n e n1 n2 he
  · simp only [if_neg c]
    exact h
theorem r_save (h : G4 xc on od ts tr) (i : Int) : (if 0 ≤ i ∧ i < 10 ∧ 1 ≤ on then 1 else 0) = (if 0 ≤ i ∧ i < 10 ∧ 1 ≤ ts 10 then 1 else 0) := by
  obtain ⟨rfl, _⟩ := h
  rfl
theorem g4_save (h : G4 xc on od ts tr) (i : Int) : G4 xc on od (if 0 ≤ i ∧ i < 10 ∧ 1 ≤ ts 10 then up ts i.toNat (ts 10) else ts) (if 0 ≤ i ∧ i < 10 ∧ 1 ≤ ts 10 then svF tr i.toNat else tr) := by
  by_cases c : 0 ≤ i ∧ i < 10 ∧ 1 ≤ ts 10
  · simp only [if_pos c]
    refine ⟨?_, fun k hk => ?_, h.2.2⟩
    · rw [up_ne _ _ (by omega)]
      exact h.1
    · unfold svF
      rw [if_neg (by omega)]
      exact h.2.1 k hk
  · simp only [if_neg c]
    exact h
theorem g7_save (h4 : G4 xc on od ts tr) (h : G7 xc q ts tr lk se) (i : Int) : G7 xc (if 0 ≤ i ∧ i < 10 ∧ 1 ≤ on then up q i.toNat (true, false, (q i.toNat).2.2.1, on, cpN (q i.toNat).2.2.2.2 od on) else q) (if 0 ≤ i ∧ i < 10 ∧ 1 ≤ ts 10 then up ts i.toNat (ts 10) else ts) (if 0 ≤ i ∧ i < 10 ∧ 1 ≤ ts 10 then svF tr i.toNat else tr) (if 0 ≤ i ∧ i < 10 ∧ 1 ≤ ts 10 then up lk i.toNat false else lk) se := by
  obtain ⟨rfl, a2, a3⟩ := h4
  by_cases c : 0 ≤ i ∧ i < 10 ∧ 1 ≤ ts 10
  · simp only [if_pos c]
    obtain ⟨h1, h2, h3⟩ := h
    have t10 := a3.1
    refine ⟨fun k => ?_, fun k => ?_, fun k hk => ?_⟩
    · unfold up
      split
      · exact t10
      · exact h1 k
    · unfold up
      split
      · exact t10
      · exact h2 k
    · by_cases e : k = i.toNat
      · subst e
        rw [up_eq, up_eq, up_eq]
        refine ⟨rfl, (decide_eq_true (by omega)).symm, rfl, (h3 _ hk).2.2.2.1, fun j hj => ?_, ?_⟩
        · unfold svF cpN
          dsimp only
          rw [if_pos (by omega), show 400 + (40 * i.toNat + j - 40 * i.toNat) = 400 + j by omega, if_pos hj]
          exact a2 j hj
        · exact tok_congr a3 (fun j hj => by unfold cpN; dsimp only; rw [if_pos hj])
      · rw [up_ne _ _ e, up_ne _ _ e, up_ne _ _ e]
        have z := h3 k hk
        refine ⟨z.1, z.2.1, z.2.2.1, z.2.2.2.1, fun j hj => ?_, z.2.2.2.2.2⟩
        have := h2 k
        unfold svF
        rw [if_neg (by omega)]
        exact z.2.2.2.2.1 j hj
  · simp only [if_neg c]
    exact h
theorem br_eq (h2 : G2 xc xc' xn xn' xl xl' xo fo) {x : Int32} (hx : -1 ≤ x.toInt ∧ x.toInt < xc) : brk xc xo x = brR fo x := by
  obtain ⟨rfl, rfl, rfl, h23, h24, h25, h26, h27⟩ := h2
  unfold brk brR
  by_cases c : x.toInt = -1
  · rw [decide_eq_false (by omega), decide_eq_false (by omega)]
    rfl
  · rw [decide_eq_true (by omega), decide_eq_true c, h26 x.toInt.toNat (by omega)]
theorem exB_congr {F F' : Nat → Bool} : ∀ n, (∀ k, k < n → F k = F' k) → exB F n = exB F' n
  | 0, _ => rfl
  | n + 1, h => by simp only [exB]; rw [exB_congr n (fun k hk => h k (by omega)), h n (by omega)]
theorem brs_eq (h2 : G2 xc xc' xn xn' xl xl' xo fo) (h : G7 xc q ts tr lk se) {i : Nat} (hi : i < 10) : exB (fun k => brk xc xo ((q i).2.2.2.2 k).2.1) (q i).2.2.2.1 = exB (fun z9 => brR fo (tr (40 * i + z9)).2.1) (ts i) := by
  have z := h.2.2 i hi
  rw [← z.1]
  refine exB_congr _ (fun k hk => ?_)
  show brk xc xo ((q i).2.2.2.2 k).2.1 = brR fo (tr (40 * i + k)).2.1
  rw [z.2.2.2.2.1 k hk]
  exact br_eq h2 (z.2.2.2.2.2.2.2 k hk)
theorem r_can (h2 : G2 xc xc' xn xn' xl xl' xo fo) (h : G7 xc q ts tr lk se) (i : Int) : ((decide (0 ≤ i ∧ i < 10) && (q i.toNat).1) && !(exB (fun k => brk xc xo ((q i.toNat).2.2.2.2 k).2.1) (q i.toNat).2.2.2.1)) = ((decide (0 ≤ i ∧ i < 10) && decide (0 < ts i.toNat)) && !(exB (fun z9 => brR fo (tr (40 * i.toNat + z9)).2.1) (ts i.toNat))) := by
  by_cases c : 0 ≤ i ∧ i < 10
  · rw [brs_eq h2 h (by omega), (h.2.2 i.toNat (by omega)).2.1]
  · rw [decide_eq_false c]
    rfl
theorem r_broken (h2 : G2 xc xc' xn xn' xl xl' xo fo) (h : G7 xc q ts tr lk se) : cntB (fun z9 => (q z9).1 && exB (fun z8 => brk xc xo ((q z9).2.2.2.2 z8).2.1) (q z9).2.2.2.1) 10 = cntB (fun z9 => decide (0 < ts z9) && exB (fun z8 => brR fo (tr (40 * z9 + z8)).2.1) (ts z9)) 10 := by
  have key : ∀ n, n ≤ 10 → cntB (fun z9 => (q z9).1 && exB (fun z8 => brk xc xo ((q z9).2.2.2.2 z8).2.1) (q z9).2.2.2.1) n = cntB (fun z9 => decide (0 < ts z9) && exB (fun z8 => brR fo (tr (40 * z9 + z8)).2.1) (ts z9)) n := by
    intro n
    induction n with
    | zero => intro _; rfl
    | succ n ih =>
      intro hn
      have e1 := brs_eq h2 h (show n < 10 by omega)
      have e2 := (h.2.2 n (by omega)).2.1
      have e : ((q n).1 && exB (fun z8 => brk xc xo ((q n).2.2.2.2 z8).2.1) (q n).2.2.2.1) = (decide (0 < ts n) && exB (fun z8 => brR fo (tr (40 * n + z8)).2.1) (ts n)) := by rw [e1, e2]
      simp only [cntB]
      rw [ih (by omega)]
      simp only [e]
  exact key 10 (Nat.le_refl _)
theorem sm_eq (h : G5 rc rc' rm mo re ec ri rv en) {r : Nat} (h1 : 1 ≤ r) (hr : r ≤ rc) : smB re ri rv r = smR ec en r := by
  obtain ⟨rfl, h2, h3, h4, ⟨b1, b2, b3, b4⟩, h6, h7, h8⟩ := h
  funext qd
  unfold smB smR
  have e := h6 r h1 hr
  have b := b1 (r - 1)
  rw [show min (re (r - 1)) 8 = ec r by omega]
  refine exB_congr _ (fun k hk => ?_)
  rw [h8 r k h1 hr hk]
theorem g_find (h5 : G5 rc rc' rm mo re ec ri rv en) (h7 : G7 xc q ts tr lk se) {i : Nat} (hi : i < 10) (h0 : 0 < ts i) {a b : Nat → Bool} (hab : ∀ r, 1 ≤ r → r ≤ rc → a r = b r) {rb me : Nat → Bool} {w w' : HS} (hw : w = gaS a (smB re ri rv) (q i).2.2.2.2 (q i).2.2.2.1 rm rc 1 (0, hn, rb)) (hw' : w' = fdO (fdT b (smR ec en) (fun z9 => tr (40 * i + z9)) (ts i)) mo rc' rc' (0, hn', me)) : w.1 = w'.1 ∧ G6 w.1 w'.1 w.2.1 w'.2.1 := by
  have z := h7.2.2 i hi
  rw [← z.1] at hw
  have hok : okT (fun z9 => tr (40 * i + z9)) (ts i) 0 := okT_congr _ _ (fun k hk => (z.2.2.2.2.1 k hk).symm) (z.2.2.2.2.2.2.1 h0)
  have e := h5.1
  rw [e] at hw'
  have g := ga_fd (w := w) (w' := w') hok (fun k hk => (z.2.2.2.2.1 k hk).symm) h5.2.2.1 h5.2.2.2.1 hab (fun r r1 r2 => sm_eq h5 r1 r2) hw hw'
  have := h5.2.1
  exact ⟨g.1, g.1.symm, by omega, fun k hk => (g.2.1 k hk).symm⟩
theorem lk_run (h5 : G5 rc rc' rm mo re ec ri rv en) {ql : Bool} {qm s : Int64} : ∀ r, 1 ≤ r → r ≤ rc → lkB false ql qm rm r = lkR true s mo r := fun r _ _ => rfl
theorem lk_alert (h5 : G5 rc rc' rm mo re ec ri rv en) (h7 : G7 xc q ts tr lk se) {i : Nat} (hi : i < 10) : ∀ r, 1 ≤ r → r ≤ rc → lkB true (q i).2.1 (q i).2.2.1 rm r = lkR (!(lk i)) (se i) mo r := by
  intro r r1 r2
  have z := h7.2.2 i hi
  unfold lkB lkR nwB
  rw [z.2.2.1, z.2.2.2.1, h5.2.2.1 r r1 r2]
  rfl
theorem g7_alert (h5 : G5 rc rc' rm mo re ec ri rv en) (h : G7 xc q ts tr lk se) {i : Int} (hi : 0 ≤ i ∧ i < 10) : G7 xc (if rc = 0 then q else up q i.toNat ((q i.toNat).1, true, rm (rc - 1), (q i.toNat).2.2.2.1, (q i.toNat).2.2.2.2)) ts tr (if rc' = 0 then lk else up lk i.toNat true) (if rc' = 0 then se else vp_updL se i.toNat (mo rc')) := by
  have e := h5.1
  subst e
  by_cases c : rc' = 0
  · simp only [if_pos c]
    exact h
  · simp only [if_neg c]
    obtain ⟨h1, h2, h3⟩ := h
    refine ⟨fun k => ?_, h2, fun k hk => ?_⟩
    · unfold up
      split
      · exact h1 _
      · exact h1 k
    · have z := h3 k hk
      by_cases e : k = i.toNat
      · subst e
        rw [up_eq, up_eq]
        refine ⟨z.1, z.2.1, rfl, ?_, z.2.2.2.2.1, z.2.2.2.2.2⟩
        show vp_updL se i.toNat (mo rc') i.toNat = rm (rc' - 1)
        unfold vp_updL
        rw [if_pos rfl]
        exact h5.2.2.1 rc' (by omega) (Nat.le_refl _)
      · rw [up_ne _ _ e, up_ne _ _ e]
        refine ⟨z.1, z.2.1, z.2.2.1, ?_, z.2.2.2.2.1, z.2.2.2.2.2⟩
        unfold vp_updL
        rw [if_neg e]
        exact z.2.2.2.1
theorem pk_all {tr : Nat → QD} {a b n : Nat} : allB (fun z9 => decide (pk tr (160 * a + z9) = pk tr (160 * b + z9))) (4 * n) = allB (fun k => decide (tr (40 * a + k) = tr (40 * b + k))) n := by
  rw [Bool.eq_iff_iff, allB_iff, allB_iff]
  constructor
  · intro h k hk
    have e0 := of_decide_eq_true (h (4 * k) (by omega))
    have e1 := of_decide_eq_true (h (4 * k + 1) (by omega))
    have e2 := of_decide_eq_true (h (4 * k + 2) (by omega))
    have e3 := of_decide_eq_true (h (4 * k + 3) (by omega))
    rw [pk_0 tr (k := 40 * a + k) (by omega), pk_0 tr (k := 40 * b + k) (by omega)] at e0
    rw [pk_1 tr (k := 40 * a + k) (by omega), pk_1 tr (k := 40 * b + k) (by omega)] at e1
    rw [pk_2 tr (k := 40 * a + k) (by omega), pk_2 tr (k := 40 * b + k) (by omega)] at e2
    rw [pk_3 tr (k := 40 * a + k) (by omega), pk_3 tr (k := 40 * b + k) (by omega)] at e3
    exact decide_eq_true (Prod.ext e0 (Prod.ext e1 (Prod.ext e2 e3)))
  · intro h z hz
    have e := of_decide_eq_true (h (z / 4) (by omega))
    refine decide_eq_true ?_
    unfold pk
    rw [show (160 * a + z) / 4 = 40 * a + z / 4 by omega, show (160 * b + z) / 4 = 40 * b + z / 4 by omega, show (160 * a + z) % 4 = (160 * b + z) % 4 by omega, e]
theorem r_same_n (h : G7 xc q ts tr lk se) (i j : Int) : ((decide (0 ≤ i ∧ i < 10) && (q i.toNat).1) && (decide (0 ≤ j ∧ j < 10) && (q j.toNat).1) && ((decide ((q i.toNat).2.2.2.1 = (q j.toNat).2.2.2.1)) && allB (fun k => decide ((q i.toNat).2.2.2.2 k = (q j.toNat).2.2.2.2 k)) (q i.toNat).2.2.2.1)) = ((decide (0 ≤ i ∧ i < 10) && decide (0 < ts i.toNat)) && (decide (0 ≤ j ∧ j < 10) && decide (0 < ts j.toNat)) && (decide (ts i.toNat = ts j.toNat) && allB (fun z9 => decide (pk tr (160 * i.toNat + z9) = pk tr (160 * j.toNat + z9))) (4 * ts i.toNat))) := by
  by_cases c1 : 0 ≤ i ∧ i < 10
  · by_cases c2 : 0 ≤ j ∧ j < 10
    · have z1 := h.2.2 i.toNat (by omega)
      have z2 := h.2.2 j.toNat (by omega)
      rw [z1.2.1, z2.2.1, ← z1.1, ← z2.1, pk_all]
      congr 1
      by_cases c3 : ts i.toNat = ts j.toNat
      · congr 1
        rw [Bool.eq_iff_iff, allB_iff, allB_iff]
        constructor
        · intro g k hk
          rw [z1.2.2.2.2.1 k hk, z2.2.2.2.2.1 k (by omega)]
          exact g k hk
        · intro g k hk
          have y := g k hk
          rw [z1.2.2.2.2.1 k hk, z2.2.2.2.2.1 k (by omega)] at y
          exact y
      · rw [decide_eq_false c3]
        rfl
    · rw [decide_eq_false c2]
      simp
  · rw [decide_eq_false c1]
    rfl
theorem r_same_s (h : G7 xc q ts tr lk se) (i : Int) : (decide (0 ≤ i ∧ i < 10) && (q i.toNat).1) = ((decide (0 ≤ i ∧ i < 10) && decide (0 < ts i.toNat)) && (decide (0 ≤ i ∧ i < 10) && decide (0 < ts i.toNat)) && (decide (ts i.toNat = ts i.toNat) && allB (fun z9 => decide (pk tr (160 * i.toNat + z9) = pk tr (160 * i.toNat + z9))) (4 * ts i.toNat))) := by
  have e : allB (fun z9 => decide (pk tr (160 * i.toNat + z9) = pk tr (160 * i.toNat + z9))) (4 * ts i.toNat) = true := allB_iff.mpr (fun k _ => decide_eq_true rfl)
  rw [e, decide_eq_true rfl, Bool.and_true, Bool.and_true, Bool.and_self]
  by_cases c1 : 0 ≤ i ∧ i < 10
  · rw [(h.2.2 i.toNat (by omega)).2.1]
  · rw [decide_eq_false c1]
    rfl
theorem hwf_of (h : G7 xc q ts tr lk se) : ∀ k, k < 10 → 0 < ts k → okT (fun z9 => tr (40 * k + z9)) (ts k) 0 := fun k hk h0 => by
  have z := h.2.2 k hk
  exact okT_congr _ _ (fun j hj => (z.2.2.2.2.1 j hj).symm) (z.2.2.2.2.2.2.1 h0)
theorem hix_of (h : G7 xc q ts tr lk se) (hx : xc ≤ 8) : ∀ k, k < 10 → ∀ j, j < ts k → -1 ≤ (tr (40 * k + j)).2.1.toInt ∧ (tr (40 * k + j)).2.1.toInt < 8 := fun k hk j hj => by
  have z := h.2.2 k hk
  rw [z.2.2.2.2.1 j hj]
  have := z.2.2.2.2.2.2.2 j hj
  omega
end GH
/-! ===== reading keeps the unknown word's signs ===== -/
def UK (s : RS) : Prop := s.2.2.2.1 ≤ 200 ∧ y8 s.2.2.2.2
def okY (M : RS → Bool × RS) : Prop := ∀ s : RS, UK s → UK (M s).2
section UU
variable {n : Nat} {f : Nat → Int32} {xc : Nat} {xn : Nat → Nat} {xl : Nat → Int32}
theorem tkN_y (hn : n ≤ 200) (hf : y8 f) {s : RS} (h : UK s) : UK (tkN n f xc xn xl s).2 := by
  have a := rowE_rng n f (n - s.1) s.1
  unfold tkN
  split
  · exact h
  · split
    · refine ⟨?_, ?_⟩
      · show rowE n f (n - s.1) s.1 - s.1 ≤ 200
        omega
      · show y8 (kpF s.2.2.2.2 n f s.1 (rowE n f (n - s.1) s.1))
        rcases Nat.lt_or_ge n s.1 with c | c
        · intro k
          unfold kpF
          rw [if_neg (by omega)]
          exact h.2 k
        · exact y8_kp h.2 hf (by omega)
    · split
      · exact h
      · exact h
theorem apB_y {s : RS} {p : Nat} {q : QD} (h : UK s) : UK (apB s p q).2 := by
  unfold apB
  split <;> exact h
theorem tkG_y {s : RS} {ix lo : Int} (h : UK s) : UK (tkG n f s ix lo).2 := by
  unfold tkG
  split
  · exact h
  · split
    · exact h
    · exact apB_y h
theorem tkV_y {s : RS} {ix : Int} (h : UK s) : UK (tkV n f s ix).2 := by
  unfold tkV
  split
  · exact h
  · split
    · exact apB_y h
    · split
      · split
        · exact tkG_y h
        · exact h
      · exact apB_y h
theorem bTm_y (hn : n ≤ 200) (hf : y8 f) {T : RS → Bool × RS} (hT : okY T) {d : Nat} : okY (bTm n f xc xn xl T d) := by
  intro s h
  have a := tkN_y (xc := xc) (xn := xn) (xl := xl) hn hf h
  have b := hT (s.1 + 1, s.2) h
  unfold bTm
  split
  · split
    · exact h
    · split
      · split
        · exact b
        · exact b
      · exact b
  · split
    · exact a
    · split
      · exact tkV_y a
      · exact a
theorem bJt_y {s : RS} {lo la : Nat} (h : UK s) : UK (bJt n f s lo la).2 := by
  unfold bJt
  split
  · exact h
  · split
    · split
      · exact h
      · exact h
    · exact h
theorem bLp_y {M : RS → Bool × RS} (hM : okY M) {lo : Nat} : ∀ (k la : Nat) (s : RS), UK s → UK (bLp n f M lo k la s).2
  | 0, _, s, h => h
  | k + 1, la, s, h => by
    have a := bJt_y (n := n) (f := f) (s := (s.1 + 1, s.2)) (lo := lo) (la := la) h
    have b := hM _ a
    simp only [bLp]
    split
    · split
      · exact a
      · split
        · exact bLp_y hM k _ _ b
        · exact b
    · exact h
theorem bSt_y {M : RS → Bool × RS} (hM : okY M) : okY (bSt n f M) := by
  intro s h
  unfold bSt
  split
  · exact bLp_y hM _ _ _ (hM s h)
  · exact hM s h
theorem bTr_y (hn : n ≤ 200) (hf : y8 f) : ∀ d, okY (bTr n f xc xn xl d)
  | 0 => bSt_y (bTm_y hn hf (fun _ h => h))
  | d + 1 => bSt_y (bTm_y hn hf (bTr_y hn hf d))
theorem fLf_y (hn : n ≤ 200) (hf : y8 f) {dp : Nat} : okY (fLf n f xc xn xl dp) := by
  intro s h
  have a := tkN_y (xc := xc) (xn := xn) (xl := xl) hn hf h
  unfold fLf
  split
  · exact a
  · split
    · split
      · exact a
      · split
        · exact apB_y a
        · split
          · split
            · exact apB_y a
            · exact tkG_y a
          · exact apB_y a
    · exact a
theorem fBr_y {T : RS → Bool × RS} (hT : okY T) {d : Nat} : okY (fBr n f T d) := by
  intro s h
  have b := hT (s.1 + 1 + 1 + 1, s.2) h
  unfold fBr
  repeat' split
  all_goals first | exact h | exact b
theorem fSt_y (hn : n ≤ 200) (hf : y8 f) {M : RS → Bool × RS} (hM : okY M) {dp : Nat} : okY (fSt n f xc xn xl M dp) := by
  intro s h
  unfold fSt
  split
  · exact fLf_y hn hf s h
  · split
    · have b := hM (rowE n f (n - s.1) s.1, s.2.1 + 1, up s.2.2.1 s.2.1 (iI (jS n f s.1 (rowE n f (n - s.1) s.1)), iI (-1), iI (-1), iI (-1)), s.2.2.2) h
      have e := hM _ b
      split
      · split
        · exact e
        · exact e
      · exact b
    · exact h
theorem fTr_y (hn : n ≤ 200) (hf : y8 f) : ∀ d, okY (fTr n f xc xn xl d)
  | 0 => fSt_y hn hf (fBr_y (fun _ h => h))
  | d + 1 => fSt_y hn hf (fBr_y (fTr_y hn hf d))
theorem r1_wt : ∀ (k : Nat) (tm : Bool) (s : QLS) (wc : Nat) (wt : Nat → Nat), (∀ j, wt j < 1000) → ∀ j, (r1F n f xc xn xl k tm s wc wt).2.2.2 j < 1000
  | 0, _, _, _, _, h => h
  | k + 1, true, s, wc, wt, h => by
    simp only [r1F]
    split
    · split
      · exact h
      · exact r1_wt k _ _ _ _ (wt_up h (by decide))
    · split
      · exact r1_wt k _ _ _ _ h
      · exact h
  | k + 1, false, s, wc, wt, h => by
    have hw := wd0_0 n f (s.1 + 1) (rowE n f (n - (s.1 + 1)) (s.1 + 1))
    simp only [r1F]
    split
    · exact h
    · split
      · exact r1_wt k _ _ _ _ h
      · split
        · split
          · exact h
          · split
            · exact r1_wt k _ _ _ _ (wt_up h (by omega))
            · exact h
        · exact h
theorem r2_wt : ∀ (k : Nat) (tm : Bool) (s : QLS) (wc : Nat) (wt : Nat → Nat), (∀ j, wt j < 1000) → ∀ j, (r2F n f xc xn xl k tm s wc wt).2.2.2 j < 1000
  | 0, _, _, _, _, h => h
  | k + 1, true, s, wc, wt, h => by
    have hw := wd0_0 n f s.1 (rowE n f (n - s.1) s.1)
    simp only [r2F]
    split
    · split
      · exact h
      · split
        · split
          · exact h
          · split
            · exact r2_wt k _ _ _ _ (wt_up h (by omega))
            · exact h
        · exact h
    · split
      · exact h
      · split
        · exact h
        · split
          · exact r2_wt k _ _ _ _ h
          · exact h
  | k + 1, false, s, wc, wt, h => by
    simp only [r2F]
    split
    · split <;> exact h
    · split
      · split
        · split
          · split
            · exact r2_wt k _ _ _ _ (wt_up h (by omega))
            · exact h
          · exact h
        · exact r2_wt k _ _ _ _ h
      · exact h
end UU
