/-! ===== the reference's laying of a tree in front ===== -/
def lsN (f : Nat → QD) : Nat → List QD
  | 0 => []
  | n + 1 => lsN f n ++ [f n]
theorem lsN_len (f : Nat → QD) : ∀ n, (lsN f n).length = n
  | 0 => rfl
  | n + 1 => by simp only [lsN, List.length_append, List.length_cons, List.length_nil]; rw [lsN_len f n]
theorem lsN_congr {f g : Nat → QD} : ∀ n, (∀ i, i < n → f i = g i) → lsN f n = lsN g n
  | 0, _ => rfl
  | n + 1, h => by simp only [lsN]; rw [lsN_congr n (fun i hi => h i (by omega)), h n (by omega)]
theorem lsN_inj {f g : Nat → QD} : ∀ n, lsN f n = lsN g n → ∀ i, i < n → f i = g i
  | 0, _, i, hi => absurd hi (Nat.not_lt_zero _)
  | n + 1, h, i, hi => by
    simp only [lsN] at h
    have a := List.append_inj h (by rw [lsN_len, lsN_len])
    rcases Nat.lt_or_ge i n with c | c
    · exact lsN_inj n a.1 i c
    · obtain rfl : i = n := by omega
      exact (List.cons.inj a.2).1
abbrev LY3 : Type := (Nat → Nat) × Nat × (Nat → QD)
def lyS (nd : Nat → QD) (bg : Nat → Nat) : Nat → Nat → (Nat → Nat) → Nat → (Nat → QD) → LY3
  | 0, _, wt, n, tr => (wt, n, tr)
  | _ + 1, 0, wt, n, tr => (wt, n, tr)
  | k + 1, c + 1, wt, n, tr => if (nd (wt c)).1.toInt ≤ 2 then lyS nd bg k c wt (n + 1) (up tr (400 + n) (nd (wt c))) else lyS nd bg k (c + 2) (up (up wt c (wt c - 1)) (c + 1) (bg (wt c - 1) - 1)) (n + 1) (up tr (400 + n) (nd (wt c)))
theorem lyS_0 {nd : Nat → QD} {bg : Nat → Nat} {k c : Nat} {wt : Nat → Nat} {n : Nat} {tr : Nat → QD} {w : LY3} (hq : lyS nd bg k c wt n tr = w) (hc : c = 0) : w = (wt, n, tr) := by
  subst hq
  subst hc
  cases k <;> rfl
theorem lyS_l {nd : Nat → QD} {bg : Nat → Nat} {k c : Nat} {wt : Nat → Nat} {n : Nat} {tr : Nat → QD} {w : LY3} (hq : lyS nd bg k c wt n tr = w) (hc : 0 < c) (hk : 0 < k) (h : (nd (wt (c - 1))).1.toInt ≤ 2) : lyS nd bg (k - 1) (c - 1) wt (n + 1) (up tr (400 + n) (nd (wt (c - 1)))) = w := by
  subst hq
  obtain ⟨k, rfl⟩ : ∃ j, k = j + 1 := ⟨k - 1, by omega⟩
  obtain ⟨c, rfl⟩ : ∃ j, c = j + 1 := ⟨c - 1, by omega⟩
  simp only [Nat.add_sub_cancel] at h ⊢
  simp only [lyS]
  rw [if_pos h]
theorem lyS_o {nd : Nat → QD} {bg : Nat → Nat} {k c : Nat} {wt : Nat → Nat} {n : Nat} {tr : Nat → QD} {w : LY3} (hq : lyS nd bg k c wt n tr = w) (hc : 0 < c) (hk : 0 < k) (h : ¬ (nd (wt (c - 1))).1.toInt ≤ 2) : lyS nd bg (k - 1) (c - 1 + 2) (up (up wt (c - 1) (wt (c - 1) - 1)) (c - 1 + 1) (bg (wt (c - 1) - 1) - 1)) (n + 1) (up tr (400 + n) (nd (wt (c - 1)))) = w := by
  subst hq
  obtain ⟨k, rfl⟩ : ∃ j, k = j + 1 := ⟨k - 1, by omega⟩
  obtain ⟨c, rfl⟩ : ∃ j, c = j + 1 := ⟨c - 1, by omega⟩
  simp only [Nat.add_sub_cancel] at h ⊢
  simp only [lyS]
  rw [if_neg h]
def catK : KL → List QD
  | [] => []
  | i :: K => i.2 ++ catK K
/-- the trees that wait, and what is laid -/
def LY (P : QD → Prop) (nd : Nat → QD) (bg : Nat → Nat) (c : Nat) (wt : Nat → Nat) (n : Nat) (D : List QD) : Prop :=
  ∃ S Dn, c = List.length S ∧ WK wt S ∧ (∀ i ∈ S, i.1 < 40 ∧ ∃ f b, HT P nd bg f b (i.1 + 1) i.2) ∧ D = Dn ++ catK S ∧ Dn.length = n ∧ D.length ≤ 40
theorem catK_len {P : QD → Prop} {nd : Nat → QD} {bg : Nat → Nat} : ∀ (S : KL), (∀ i ∈ S, i.1 < 40 ∧ ∃ f b, HT P nd bg f b (i.1 + 1) i.2) → S.length ≤ (catK S).length
  | [], _ => Nat.le_refl _
  | i :: S, h => by
    have a := catK_len S (fun j hj => h j (List.mem_cons_of_mem _ hj))
    obtain ⟨_, f, b, x⟩ := h i (List.mem_cons_self ..)
    have y := HT_len _ _ _ _ x
    simp only [catK, List.length_cons, List.length_append]
    omega
theorem LY_step {P : QD → Prop} {nd : Nat → QD} {bg : Nat → Nat} {c : Nat} {wt : Nat → Nat} {n : Nat} {D : List QD} (hP : ∀ q, P q → q.1.toInt < 3) (h : LY P nd bg c wt n D) (hc : 0 < c) : n < D.length ∧ D.length ≤ 40 ∧ c ≤ 40 ∧ wt (c - 1) < 40 ∧ (∃ E, D = E ++ nd (wt (c - 1)) :: (D.drop (n + 1)) ∧ E.length = n) ∧ ((nd (wt (c - 1))).1.toInt ≤ 2 → LY P nd bg (c - 1) wt (n + 1) D) ∧ (¬ (nd (wt (c - 1))).1.toInt ≤ 2 → 1 ≤ wt (c - 1) ∧ 1 ≤ bg (wt (c - 1) - 1) ∧ bg (wt (c - 1) - 1) ≤ 40 ∧ LY P nd bg (c - 1 + 2) (up (up wt (c - 1) (wt (c - 1) - 1)) (c - 1 + 1) (bg (wt (c - 1) - 1) - 1)) (n + 1) D) := by
  obtain ⟨S, Dn, h1, h2, h3, h4, h5, h6⟩ := h
  cases S with
  | nil => simp at h1; omega
  | cons i S =>
    have e : c - 1 = S.length := by simp only [List.length_cons] at h1; omega
    have w0 : wt (c - 1) = i.1 := by rw [e]; exact h2.1
    have g := catK_len (i :: S) h3
    obtain ⟨i40, f, b, x⟩ := h3 i (List.mem_cons_self ..)
    have h3' : ∀ j ∈ S, j.1 < 40 ∧ ∃ f b, HT P nd bg f b (j.1 + 1) j.2 := fun j hj => h3 j (List.mem_cons_of_mem _ hj)
    have lD : D.length = n + (catK (i :: S)).length := by rw [h4, List.length_append, h5]
    have y := HT_len _ _ _ _ x
    cases f with
    | zero => exact x.elim
    | succ f =>
    obtain ⟨x1, x2, x3⟩ := x
    rw [w0]
    have key : ∀ r, i.2 = nd i.1 :: r → D = Dn ++ nd i.1 :: (r ++ catK S) ∧ D.drop (n + 1) = r ++ catK S := by
      intro r hr
      have z : D = Dn ++ nd i.1 :: (r ++ catK S) := by
        rw [h4]
        simp only [catK]
        rw [hr]
        rfl
      refine ⟨z, ?_⟩
      rw [z, ← h5]
      simp
    have lc : (i :: S).length = c := h1.symm
    have hlt : n < D.length := by
      simp only [List.length_cons] at g
      omega
    refine ⟨hlt, h6, by omega, i40, ?_, ?_, ?_⟩
    · rcases x3 with ⟨x4, hp, hL⟩ | ⟨m, o, L1, L2, ho, hn, a1, a2, hL⟩
      · obtain rfl : b = i.1 := by omega
        have z := key [] hL
        exact ⟨Dn, by rw [z.2]; exact z.1, h5⟩
      · rw [Nat.add_sub_cancel] at hn
        have z := key (L1 ++ L2) (by rw [hn]; exact hL)
        exact ⟨Dn, by rw [z.2]; exact z.1, h5⟩
    · intro hs
      rcases x3 with ⟨x4, hp, hL⟩ | ⟨m, o, L1, L2, ho, hn, a1, a2, hL⟩
      · obtain rfl : b = i.1 := by omega
        have z := key [] hL
        exact ⟨S, Dn ++ [nd i.1], e, h2.2, h3', by rw [z.1]; simp, by simp [h5], h6⟩
      · exfalso
        rw [Nat.add_sub_cancel] at hn
        rw [hn] at hs
        rcases ho with rfl | rfl | rfl <;> exact absurd hs (by decide)
    · intro hs
      rcases x3 with ⟨x4, hp, hL⟩ | ⟨m, o, L1, L2, ho, hn, a1, a2, hL⟩
      · exfalso
        obtain rfl : b = i.1 := by omega
        have := hP _ hp
        omega
      · rw [Nat.add_sub_cancel] at hn a2
        have z := key (L1 ++ L2) (by rw [hn]; exact hL)
        have b1 := HT_len _ _ _ _ a1
        have b2 := HT_len _ _ _ _ a2
        have g2 : bg (i.1 - 1) = m := by
          cases f with
          | zero => exact a2.elim
          | succ f => exact a2.2.1
        rw [g2, e]
        refine ⟨by omega, by omega, by omega, (m - 1, L1) :: (i.1 - 1, L2) :: S, Dn ++ [nd i.1], by simp, ⟨?_, ?_, ?_⟩, ?_, ?_, by simp [h5], h6⟩
        · simp only [List.length_cons]
          exact up_eq _ _ _
        · show up (up wt S.length (i.1 - 1)) (S.length + 1) (m - 1) S.length = i.1 - 1
          rw [up_ne _ _ (by omega), up_eq]
        · exact WK_up S (by omega) (WK_up S (Nat.le_refl _) h2.2)
        · intro j hj
          rcases List.mem_cons.mp hj with rfl | hj
          · exact ⟨by dsimp only; omega, f, b, by rw [show (m - 1, L1).1 + 1 = m by dsimp only; omega]; exact a1⟩
          · rcases List.mem_cons.mp hj with rfl | hj
            · exact ⟨by dsimp only; omega, f, m, by rw [show (i.1 - 1, L2).1 + 1 = i.1 by dsimp only; omega]; exact a2⟩
            · exact h3' j hj
        · rw [z.1]
          simp [catK]
theorem lyS_ok {P : QD → Prop} {nd : Nat → QD} {bg : Nat → Nat} {D : List QD} (hP : ∀ q, P q → q.1.toInt < 3) : ∀ (k c : Nat) (wt : Nat → Nat) (n : Nat) (tr : Nat → QD), LY P nd bg c wt n D → D.length - n < k → lsN (fun i => tr (400 + i)) n = D.take n → (∀ j, wt j < 1000) →
    (lyS nd bg k c wt n tr).2.1 = D.length ∧ lsN (fun i => (lyS nd bg k c wt n tr).2.2 (400 + i)) D.length = D ∧ (∀ j, j < 400 → (lyS nd bg k c wt n tr).2.2 j = tr j) ∧ (∀ j, (lyS nd bg k c wt n tr).1 j < 1000)
  | 0, _, _, _, _, _, hk, _, _ => absurd hk (Nat.not_lt_zero _)
  | k + 1, 0, wt, n, tr, h, hk, ht, hw => by
    obtain ⟨S, Dn, h1, h2, h3, h4, h5, h6⟩ := h
    have e : S = [] := List.length_eq_zero_iff.mp h1.symm
    subst e
    simp only [catK, List.append_nil] at h4
    subst h4
    subst h5
    simp only [lyS]
    refine ⟨by trivial, ?_, fun _ _ => by trivial, hw⟩
    rw [ht]
    exact List.take_length
  | k + 1, c + 1, wt, n, tr, h, hk, ht, hw => by
    have a := LY_step hP h (by omega)
    simp only [Nat.add_sub_cancel] at a
    obtain ⟨a1, a2, a3, a4, ⟨E, a5, a5'⟩, a6, a7⟩ := a
    have hnew : lsN (fun i => up tr (400 + n) (nd (wt c)) (400 + i)) (n + 1) = D.take (n + 1) := by
      simp only [lsN]
      rw [up_eq, lsN_congr (g := fun i => tr (400 + i)) n (fun i hi => up_ne _ _ (by omega)), ht]
      have z : D.take (n + 1) = E ++ [nd (wt c)] := by
        rw [a5, ← a5', List.take_append]
        simp
        exact List.take_of_length_le (by omega)
      have z2 : D.take n = E := by
        rw [a5, ← a5']
        simp
      rw [z, z2]
    simp only [lyS]
    split
    · next hs =>
      have r := lyS_ok hP k c wt (n + 1) _ (a6 hs) (by omega) hnew hw
      exact ⟨r.1, r.2.1, fun j hj => by rw [r.2.2.1 j hj, up_ne _ _ (by omega)], r.2.2.2⟩
    · next hs =>
      have b := a7 hs
      have r := lyS_ok hP k (c + 2) _ (n + 1) _ b.2.2.2 (by omega) hnew (wt_up (wt_up hw (by omega)) (by omega))
      exact ⟨r.1, r.2.1, fun j hj => by rw [r.2.2.1 j hj, up_ne _ _ (by omega)], r.2.2.2⟩
theorem LY_0 {P : QD → Prop} {nd : Nat → QD} {bg : Nat → Nat} {bc : Nat} {D : List QD} {wt : Nat → Nat} (h : HF P nd bg [D] bc) (hb : bc ≤ 40) : 1 ≤ bc ∧ LY P nd bg 1 (up wt 0 (bc - 1)) 0 D := by
  obtain ⟨f, b, a1, a2⟩ := h
  have y := HT_len _ _ _ _ a1
  have z : b = 0 := a2
  refine ⟨by omega, [(bc - 1, D)], [], rfl, ⟨up_eq _ _ _, True.intro⟩, ?_, by simp [catK], rfl, by omega⟩
  intro i hi
  rcases List.mem_cons.mp hi with rfl | hi
  · exact ⟨by dsimp only; omega, f, b, by rw [show (bc - 1, D).1 + 1 = bc by dsimp only; omega]; exact a1⟩
  · exact absurd hi List.not_mem_nil
theorem lfP_3 {xc : Nat} : ∀ q, lfP xc q → q.1.toInt < 3 := fun _ h => h.1
theorem RIx_0 {P : QD → Prop} {nd : Nat → QD} {bg : Nat → Nat} {wt : Nat → Nat} : RIx P true nd bg 0 0 wt := RIx_tt.mpr ⟨[], fun _ h => absurd h List.not_mem_nil, rfl, True.intro, rfl, by decide, by decide⟩
theorem R2x_0 {P : QD → Prop} {nd : Nat → QD} {bg : Nat → Nat} {wt : Nat → Nat} : R2x P true nd bg 0 0 wt := R2x_tt.mpr ⟨[], fun _ h => absurd h List.not_mem_nil, rfl, True.intro, rfl, by decide, by decide⟩
/-- four cells are copied -/
theorem cp4 {nd tr : Nat → QD} {n k : Nat} {h : Nat → Int32} {j : Nat} (hj : j = 4) (hh : ∀ i, h i = if 1600 + 4 * n ≤ i ∧ i < 1600 + 4 * n + j then pk nd (4 * k + (i - (1600 + 4 * n))) else pk tr i) : h = pk (up tr (400 + n) (nd k)) := by
  subst hj
  funext i
  rw [hh i]
  by_cases c : 1600 + 4 * n ≤ i ∧ i < 1600 + 4 * n + 4
  · rw [if_pos c]
    have e1 : (4 * k + (i - (1600 + 4 * n))) / 4 = k := by omega
    have e2 : i / 4 = 400 + n := by omega
    unfold pk
    rw [e1, e2, up_eq, show (4 * k + (i - (1600 + 4 * n))) % 4 = i % 4 by omega]
  · rw [if_neg c]
    unfold pk
    rw [up_ne _ _ (by omega)]
theorem cp4_go {nd tr : Nat → QD} {n k a b : Nat} {h : Nat → Int32} {j : Nat} (ha : a = 1600 + 4 * n + j) (hb : b = 4 * k + j) (hh : ∀ i, h i = if 1600 + 4 * n ≤ i ∧ i < 1600 + 4 * n + j then pk nd (4 * k + (i - (1600 + 4 * n))) else pk tr i) : ∀ i, upd h a (pk nd b) i = if 1600 + 4 * n ≤ i ∧ i < 1600 + 4 * n + (j + 1) then pk nd (4 * k + (i - (1600 + 4 * n))) else pk tr i := by
  intro i
  subst ha
  subst hb
  unfold upd
  by_cases c : i = 1600 + 4 * n + j
  · subst c
    rw [if_pos rfl, if_pos (by omega), show 1600 + 4 * n + j - (1600 + 4 * n) = j by omega]
  · rw [if_neg c, hh i]
    by_cases d : 1600 + 4 * n ≤ i ∧ i < 1600 + 4 * n + j
    · rw [if_pos d, if_pos (by omega)]
    · rw [if_neg d, if_neg (by omega)]
