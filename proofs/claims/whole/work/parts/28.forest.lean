/-! ===== the reference's settling ===== -/
abbrev ST : Type := Nat × (Nat → QD) × (Nat → Nat) × Nat
def stF (wt : Nat → Nat) (z : Nat) : Nat → Nat → (Nat → QD) → (Nat → Nat) → ST
  | 0, b, nd, bg => (b, nd, bg, 0)
  | k + 1, b, nd, bg => if wt k < 6 ∧ (wt k = 3 ∨ z = 0) then stF wt z k (b + 1) (up nd b (iI ((wt k : Nat) : Int), iI (-1), iI (-1), iI (-1))) (up bg b (bg (bg (b - 1) - 1))) else (b, nd, bg, k + 1)
def stO (wt : Nat → Nat) (z : Nat) : Nat → Nat → (Nat → QD) → (Nat → Nat) → Prop
  | 0, _, _, _ => True
  | k + 1, b, nd, bg => wt k < 6 ∧ (wt k = 3 ∨ z = 0) → (1 ≤ b ∧ b < 40 ∧ 1 ≤ bg (b - 1) ∧ bg (b - 1) ≤ 40) ∧ stO wt z k (b + 1) (up nd b (iI ((wt k : Nat) : Int), iI (-1), iI (-1), iI (-1))) (up bg b (bg (bg (b - 1) - 1)))
theorem stF_stop {wt : Nat → Nat} {z k b : Nat} {nd : Nat → QD} {bg : Nat → Nat} {w : ST} (hq : stF wt z k b nd bg = w) (h : k = 0 ∨ ¬ (wt (k - 1) < 6 ∧ (wt (k - 1) = 3 ∨ z = 0))) : w = (b, nd, bg, k) := by
  subst hq
  cases k with
  | zero => rfl
  | succ k =>
    rcases h with h | h
    · omega
    · simp only [stF]
      exact if_neg h
theorem stF_go {wt : Nat → Nat} {z k b : Nat} {nd : Nat → QD} {bg : Nat → Nat} {w : ST} (hq : stF wt z k b nd bg = w) (hk : 0 < k) (h : wt (k - 1) < 6 ∧ (wt (k - 1) = 3 ∨ z = 0)) : stF wt z (k - 1) (b + 1) (up nd b (iI ((wt (k - 1) : Nat) : Int), iI (-1), iI (-1), iI (-1))) (up bg b (bg (bg (b - 1) - 1))) = w := by
  subst hq
  obtain ⟨k, rfl⟩ : ∃ j, k = j + 1 := ⟨k - 1, by omega⟩
  simp only [stF, Nat.add_sub_cancel] at h ⊢
  rw [if_pos h]
theorem stO_go {wt : Nat → Nat} {z k b : Nat} {nd : Nat → QD} {bg : Nat → Nat} (hq : stO wt z k b nd bg) (hk : 0 < k) (h : wt (k - 1) < 6 ∧ (wt (k - 1) = 3 ∨ z = 0)) : (1 ≤ b ∧ b < 40 ∧ 1 ≤ bg (b - 1) ∧ bg (b - 1) ≤ 40) ∧ stO wt z (k - 1) (b + 1) (up nd b (iI ((wt (k - 1) : Nat) : Int), iI (-1), iI (-1), iI (-1))) (up bg b (bg (bg (b - 1) - 1))) := by
  obtain ⟨k, rfl⟩ : ∃ j, k = j + 1 := ⟨k - 1, by omega⟩
  simp only [Nat.add_sub_cancel] at h ⊢
  exact hq h
/-! ===== trees laid behind, and their rows in front ===== -/
def nO (o : Nat) : QD := (iI ((o : Nat) : Int), iI (-1), iI (-1), iI (-1))
def HT (P : QD → Prop) (nd : Nat → QD) (bg : Nat → Nat) : Nat → Nat → Nat → List QD → Prop
  | 0, _, _, _ => False
  | f + 1, b, e, L => b < e ∧ bg (e - 1) = b ∧ ((e = b + 1 ∧ P (nd b) ∧ L = [nd b]) ∨ (∃ m o L1 L2, (o = 3 ∨ o = 4 ∨ o = 5) ∧ nd (e - 1) = nO o ∧ HT P nd bg f b m L1 ∧ HT P nd bg f m (e - 1) L2 ∧ L = nO o :: (L1 ++ L2)))
theorem HT_mono {P : QD → Prop} {nd : Nat → QD} {bg : Nat → Nat} : ∀ (f f' b e : Nat) (L : List QD), f ≤ f' → HT P nd bg f b e L → HT P nd bg f' b e L
  | 0, _, _, _, _, _, h => h.elim
  | f + 1, 0, _, _, _, hf, _ => absurd hf (by omega)
  | f + 1, f' + 1, b, e, L, hf, h => by
    obtain ⟨h1, h2, h3⟩ := h
    refine ⟨h1, h2, ?_⟩
    rcases h3 with h3 | ⟨m, o, L1, L2, ho, hn, a1, a2, hL⟩
    · exact Or.inl h3
    · exact Or.inr ⟨m, o, L1, L2, ho, hn, HT_mono f f' _ _ _ (by omega) a1, HT_mono f f' _ _ _ (by omega) a2, hL⟩
theorem HT_len {P : QD → Prop} {nd : Nat → QD} {bg : Nat → Nat} : ∀ (f b e : Nat) (L : List QD), HT P nd bg f b e L → e = b + L.length ∧ b < e
  | 0, _, _, _, h => h.elim
  | f + 1, b, e, L, h => by
    obtain ⟨h1, h2, h3⟩ := h
    refine ⟨?_, h1⟩
    rcases h3 with ⟨h3, _, rfl⟩ | ⟨m, o, L1, L2, ho, hn, a1, a2, rfl⟩
    · rw [h3]; rfl
    · have b1 := HT_len f _ _ _ a1
      have b2 := HT_len f _ _ _ a2
      simp only [List.length_cons, List.length_append]
      omega
theorem HT_congr {P : QD → Prop} {nd nd' : Nat → QD} {bg bg' : Nat → Nat} : ∀ (f b e : Nat) (L : List QD), (∀ k, k < e → nd' k = nd k ∧ bg' k = bg k) → HT P nd bg f b e L → HT P nd' bg' f b e L
  | 0, _, _, _, _, h => h.elim
  | f + 1, b, e, L, hk, h => by
    obtain ⟨h1, h2, h3⟩ := h
    refine ⟨h1, by rw [(hk _ (by omega)).2]; exact h2, ?_⟩
    rcases h3 with ⟨h3, hP, hL⟩ | ⟨m, o, L1, L2, ho, hn, a1, a2, hL⟩
    · exact Or.inl ⟨h3, by rw [(hk b (by omega)).1]; exact hP, by rw [(hk b (by omega)).1]; exact hL⟩
    · have b2 := HT_len f _ _ _ a2
      exact Or.inr ⟨m, o, L1, L2, ho, by rw [(hk _ (by omega)).1]; exact hn, HT_congr f _ _ _ (fun k hh => hk k (by omega)) a1, HT_congr f _ _ _ (fun k hh => hk k (by omega)) a2, hL⟩
def HF (P : QD → Prop) (nd : Nat → QD) (bg : Nat → Nat) : List (List QD) → Nat → Prop
  | [], e => e = 0
  | L :: Ls, e => ∃ f b, HT P nd bg f b e L ∧ HF P nd bg Ls b
theorem HF_congr {P : QD → Prop} {nd nd' : Nat → QD} {bg bg' : Nat → Nat} : ∀ (Ls : List (List QD)) (e : Nat), (∀ k, k < e → nd' k = nd k ∧ bg' k = bg k) → HF P nd bg Ls e → HF P nd' bg' Ls e
  | [], _, _, h => h
  | L :: Ls, e, hk, h => by
    obtain ⟨f, b, a1, a2⟩ := h
    have b1 := HT_len f _ _ _ a1
    exact ⟨f, b, HT_congr f b e L hk a1, HF_congr Ls b (fun k hh => hk k (by omega)) a2⟩
def szL : List (List QD) → Nat
  | [] => 0
  | L :: Ls => L.length + szL Ls
theorem HF_len {P : QD → Prop} {nd : Nat → QD} {bg : Nat → Nat} : ∀ (Ls : List (List QD)) (e : Nat), HF P nd bg Ls e → e = szL Ls
  | [], _, h => h
  | L :: Ls, e, h => by
    obtain ⟨f, b, a1, a2⟩ := h
    have b1 := HT_len f _ _ _ a1
    have b2 := HF_len Ls b a2
    simp only [szL]
    omega
theorem up_ne {α : Type} (f : Nat → α) {k j : Nat} (v : α) (h : j ≠ k) : up f k v j = f j := if_neg h
theorem up_lt {nd : Nat → QD} {bg : Nat → Nat} {e k : Nat} {q : QD} {c : Nat} (h : k < e) : up nd e q k = nd k ∧ up bg e c k = bg k := ⟨up_ne _ _ (by omega), up_ne _ _ (by omega)⟩
theorem HF_leaf {P : QD → Prop} {nd : Nat → QD} {bg : Nat → Nat} {Ls : List (List QD)} {e : Nat} {q : QD} (h : HF P nd bg Ls e) (hq : P q) : HF P (up nd e q) (up bg e e) ([q] :: Ls) (e + 1) := by
  refine ⟨1, e, ⟨by omega, ?_, Or.inl ⟨rfl, ?_, ?_⟩⟩, HF_congr Ls e (fun k hk => up_lt hk) h⟩
  · exact up_eq _ _ _
  · rw [up_eq]; exact hq
  · rw [up_eq]
theorem HF_join {P : QD → Prop} {nd : Nat → QD} {bg : Nat → Nat} {L1 L2 : List QD} {Ls : List (List QD)} {e o : Nat} (h : HF P nd bg (L2 :: L1 :: Ls) e) (ho : o = 3 ∨ o = 4 ∨ o = 5) : (1 ≤ e ∧ 1 ≤ bg (e - 1) ∧ bg (e - 1) < e) ∧ HF P (up nd e (nO o)) (up bg e (bg (bg (e - 1) - 1))) ((nO o :: (L1 ++ L2)) :: Ls) (e + 1) := by
  obtain ⟨f2, m, a2, f1, b, a1, a0⟩ := h
  have b2 := HT_len f2 _ _ _ a2
  have b1 := HT_len f1 _ _ _ a1
  have g2 : bg (e - 1) = m := by
    cases f2 with
    | zero => exact a2.elim
    | succ f2 => exact a2.2.1
  have g1 : bg (m - 1) = b := by
    cases f1 with
    | zero => exact a1.elim
    | succ f1 => exact a1.2.1
  refine ⟨⟨by omega, by omega, by omega⟩, (f1 + f2) + 1, b, ⟨by omega, ?_, Or.inr ⟨m, o, L1, L2, ho, ?_, ?_, ?_, rfl⟩⟩, HF_congr Ls b (fun k hk => up_lt (by omega)) a0⟩
  · rw [Nat.add_sub_cancel, up_eq, g2, g1]
  · rw [Nat.add_sub_cancel, up_eq]
  · exact HT_mono f1 _ _ _ _ (by omega) (HT_congr f1 b m L1 (fun k hk => up_lt (by omega)) a1)
  · rw [Nat.add_sub_cancel]
    exact HT_mono f2 _ _ _ _ (by omega) (HT_congr f2 m e L2 (fun k hk => up_lt (by omega)) a2)
/-! the waiting words, the last first -/
abbrev KL : Type := List (Nat × List QD)
def flI (i : Nat × List QD) : List QD := if i.1 = 6 then [] else nO (i.1 % 10) :: i.2
def flK : KL → List QD
  | [] => []
  | i :: K => flK K ++ flI i
def opK : KL → List (List QD)
  | [] => []
  | i :: K => if i.1 < 6 ∨ 20 ≤ i.1 then i.2 :: opK K else opK K
def WK (wt : Nat → Nat) : KL → Prop
  | [] => True
  | i :: K => wt K.length = i.1 ∧ WK wt K
def nK (P : Nat → Bool) : KL → Nat
  | [] => 0
  | i :: K => nK P K + (P i.1).toNat
theorem WK_up {wt : Nat → Nat} {v j : Nat} : ∀ (K : KL), K.length ≤ j → WK wt K → WK (up wt j v) K
  | [], _, _ => True.intro
  | i :: K, hj, h => by
    simp only [List.length_cons] at hj
    exact ⟨by rw [up_ne _ _ (by omega)]; exact h.1, WK_up K (by omega) h.2⟩
theorem nK_cnt {wt : Nat → Nat} {P : Nat → Bool} : ∀ (K : KL), WK wt K → cntB (fun z9 => P (wt z9)) K.length = nK P K
  | [], _ => rfl
  | i :: K, h => by
    have := nK_cnt (P := P) K h.2
    simp only [List.length_cons, cntB, nK]
    rw [this, h.1]
    cases P i.1 <;> rfl
/-- form 0: 3, 4, 5 and the bracket 6 -/
def ok1 (K : KL) : Prop := ∀ i ∈ K, i.1 = 3 ∨ i.1 = 4 ∨ i.1 = 5 ∨ i.1 = 6
def P6 (v : Nat) : Bool := decide (v < 6)
def E6 (v : Nat) : Bool := decide (v = 6)
theorem P6_t {v : Nat} (h : v < 6) : (P6 v).toNat = 1 := by
  unfold P6
  rw [decide_eq_true h]
  rfl
theorem P6_f {v : Nat} (h : ¬ v < 6) : (P6 v).toNat = 0 := by
  unfold P6
  rw [decide_eq_false h]
  rfl
theorem E6_t {v : Nat} (h : v = 6) : (E6 v).toNat = 1 := by
  unfold E6
  rw [decide_eq_true h]
  rfl
theorem E6_f {v : Nat} (h : ¬ v = 6) : (E6 v).toNat = 0 := by
  unfold E6
  rw [decide_eq_false h]
  rfl
theorem ok1_len : ∀ (K : KL), ok1 K → (flK K).length = szL (opK K) + nK P6 K ∧ K.length = nK P6 K + nK E6 K
  | [], _ => ⟨rfl, rfl⟩
  | i :: K, h => by
    have a := ok1_len K (fun j hj => h j (List.mem_cons_of_mem _ hj))
    have b := h i (List.mem_cons_self ..)
    simp only [flK, opK, nK, List.length_append, List.length_cons, flI]
    by_cases c : i.1 = 6
    · rw [if_pos c, if_neg (by omega), P6_f (by omega), E6_t c]
      simp only [List.length_nil]
      omega
    · rw [if_neg c, if_pos (by omega), P6_t (by omega), E6_f c]
      simp only [List.length_cons, szL]
      omega
def stl (z : Nat) : KL → List QD → KL × List QD
  | [], t => ([], t)
  | i :: K, t => if i.1 < 6 ∧ (i.1 = 3 ∨ z = 0) then stl z K (nO i.1 :: (i.2 ++ t)) else (i :: K, t)
theorem stl_fl (z : Nat) : ∀ (K : KL) (t : List QD), ok1 K → flK (stl z K t).1 ++ (stl z K t).2 = flK K ++ t
  | [], _, _ => rfl
  | i :: K, t, h => by
    simp only [stl]
    split
    · next c =>
      rw [stl_fl z K _ (fun j hj => h j (List.mem_cons_of_mem _ hj))]
      simp only [flK, flI]
      rw [if_neg (by omega), show i.1 % 10 = i.1 by omega]
      simp only [List.cons_append, List.append_assoc]
    · rfl
theorem stl_ok (z : Nat) : ∀ (K : KL) (t : List QD), ok1 K → ok1 (stl z K t).1 ∧ nK E6 (stl z K t).1 = nK E6 K ∧ (stl z K t).1.length ≤ K.length
  | [], _, _ => ⟨fun _ h => absurd h (List.not_mem_nil), rfl, Nat.le_refl _⟩
  | i :: K, t, h => by
    simp only [stl]
    split
    · next c =>
      have a := stl_ok z K (nO i.1 :: (i.2 ++ t)) (fun j hj => h j (List.mem_cons_of_mem _ hj))
      refine ⟨a.1, ?_, by simp only [List.length_cons]; omega⟩
      rw [a.2.1]
      simp only [nK]
      rw [E6_f (by omega)]
      rfl
    · exact ⟨h, rfl, Nat.le_refl _⟩
theorem stl_WK (z : Nat) {wt : Nat → Nat} : ∀ (K : KL) (t : List QD), WK wt K → WK wt (stl z K t).1
  | [], _, _ => True.intro
  | i :: K, t, h => by
    simp only [stl]
    split
    · exact stl_WK z K _ h.2
    · exact h
theorem st_ok (z : Nat) {P : QD → Prop} {wt : Nat → Nat} : ∀ (K : KL) (t : List QD) (b : Nat) (nd : Nat → QD) (bg : Nat → Nat), ok1 K → WK wt K → HF P nd bg (t :: opK K) b → b + nK P6 K ≤ 40 →
    stO wt z K.length b nd bg ∧ (stF wt z K.length b nd bg).2.2.2 = (stl z K t).1.length ∧ HF P (stF wt z K.length b nd bg).2.1 (stF wt z K.length b nd bg).2.2.1 ((stl z K t).2 :: opK (stl z K t).1) (stF wt z K.length b nd bg).1 ∧ (stF wt z K.length b nd bg).1 + nK P6 (stl z K t).1 = b + nK P6 K
  | [], t, b, nd, bg, _, _, h, _ => ⟨True.intro, rfl, h, rfl⟩
  | i :: K, t, b, nd, bg, h1, h2, h3, h4 => by
    simp only [List.length_cons, stO, stF, stl, h2.1]
    by_cases c : i.1 < 6 ∧ (i.1 = 3 ∨ z = 0)
    · have o3 : i.1 = 3 ∨ i.1 = 4 ∨ i.1 = 5 := by
        have := h1 i (List.mem_cons_self ..)
        omega
      have e1 : opK (i :: K) = i.2 :: opK K := by
        simp only [opK]
        rw [if_pos (Or.inl c.1)]
      have e2 : nK P6 (i :: K) = nK P6 K + 1 := by
        simp only [nK]
        rw [P6_t c.1]
      rw [e1] at h3
      have j := HF_join h3 o3
      have a := st_ok z K (nO i.1 :: (i.2 ++ t)) (b + 1) _ _ (fun j hj => h1 j (List.mem_cons_of_mem _ hj)) h2.2 j.2 (by omega)
      rw [if_pos c, if_pos c]
      unfold nO at a
      refine ⟨fun _ => ⟨⟨j.1.1, by omega, j.1.2.1, by omega⟩, a.1⟩, a.2.1, a.2.2.1, ?_⟩
      have a4 := a.2.2.2
      unfold nO
      omega
    · rw [if_neg c, if_neg c]
      exact ⟨fun hc => absurd hc c, rfl, h3, rfl⟩
/-- the reference's state of reading form 0 stands for the words K and the trees T (none or one) behind them -/
def RI (P : QD → Prop) (nd : Nat → QD) (bg : Nat → Nat) (bc wc : Nat) (wt : Nat → Nat) (K : KL) (T : List (List QD)) : Prop :=
  ok1 K ∧ wc = K.length ∧ WK wt K ∧ HF P nd bg (T ++ opK K) bc ∧ bc + nK P6 K ≤ 40 ∧ nK E6 K ≤ 20
theorem szL_app : ∀ (T U : List (List QD)), szL (T ++ U) = szL T + szL U
  | [], U => by simp [szL]
  | t :: T, U => by
    simp only [List.cons_append, szL]
    rw [szL_app T U]
    omega
theorem RI_b {P : QD → Prop} {nd : Nat → QD} {bg : Nat → Nat} {bc wc : Nat} {wt : Nat → Nat} {K : KL} {T : List (List QD)} (h : RI P nd bg bc wc wt K T) : bc + cntB (fun z9 => decide (wt z9 < 6)) wc = bc + nK P6 K ∧ cntB (fun z9 => decide (wt z9 = 6)) wc = nK E6 K ∧ wc ≤ 60 ∧ bc + nK P6 K = (flK K).length + szL T := by
  obtain ⟨h1, h2, h3, h4, h5, h6⟩ := h
  subst h2
  have a : cntB (fun z9 => decide (wt z9 < 6)) K.length = nK P6 K := nK_cnt (P := P6) K h3
  have b : cntB (fun z9 => decide (wt z9 = 6)) K.length = nK E6 K := nK_cnt (P := E6) K h3
  have c := ok1_len K h1
  have d := HF_len _ _ h4
  rw [szL_app] at d
  exact ⟨by rw [a], b, by omega, by omega⟩
theorem RI_open {P : QD → Prop} {nd : Nat → QD} {bg : Nat → Nat} {bc wc : Nat} {wt : Nat → Nat} {K : KL} {T : List (List QD)} (h : RI P nd bg bc wc wt K T) (hd : nK E6 K < 20) : RI P nd bg bc (wc + 1) (up wt wc 6) ((6, []) :: K) T := by
  obtain ⟨h1, h2, h3, h4, h5, h6⟩ := h
  subst h2
  refine ⟨?_, rfl, ⟨up_eq _ _ _, WK_up K (Nat.le_refl _) h3⟩, ?_, ?_, ?_⟩
  · intro i hi
    rcases List.mem_cons.mp hi with rfl | hi
    · exact Or.inr (Or.inr (Or.inr rfl))
    · exact h1 i hi
  · exact h4
  · exact h5
  · simp only [nK]
    rw [E6_t rfl]
    omega
theorem RI_leaf {P : QD → Prop} {nd : Nat → QD} {bg : Nat → Nat} {bc wc : Nat} {wt : Nat → Nat} {K : KL} {q : QD} (h : RI P nd bg bc wc wt K []) (hd : bc + nK P6 K < 40) (hq : P q) : RI P (up nd bc q) (up bg bc bc) (bc + 1) wc wt K [[q]] := by
  obtain ⟨h1, h2, h3, h4, h5, h6⟩ := h
  exact ⟨h1, h2, h3, HF_leaf h4 hq, by omega, h6⟩
theorem RI_st {P : QD → Prop} {nd : Nat → QD} {bg : Nat → Nat} {bc wc : Nat} {wt : Nat → Nat} {K : KL} {t : List QD} (z : Nat) (h : RI P nd bg bc wc wt K [t]) : stO wt z wc bc nd bg ∧ RI P (stF wt z wc bc nd bg).2.1 (stF wt z wc bc nd bg).2.2.1 (stF wt z wc bc nd bg).1 (stF wt z wc bc nd bg).2.2.2 wt (stl z K t).1 [(stl z K t).2] ∧ (stF wt z wc bc nd bg).2.2.2 ≤ wc := by
  obtain ⟨h1, h2, h3, h4, h5, h6⟩ := h
  subst h2
  have a := st_ok z K t bc nd bg h1 h3 h4 h5
  have b := stl_ok z K t h1
  exact ⟨a.1, ⟨b.1, a.2.1, stl_WK z K t h3, a.2.2.1, by omega, by omega⟩, by omega⟩
theorem RI_push {P : QD → Prop} {nd : Nat → QD} {bg : Nat → Nat} {bc wc : Nat} {wt : Nat → Nat} {K : KL} {t : List QD} {v : Nat} (h : RI P nd bg bc wc wt K [t]) (hv : v = 3 ∨ v = 4 ∨ v = 5) (hc : bc + nK P6 K < 40) : RI P nd bg bc (wc + 1) (up wt wc v) ((v, t) :: K) [] := by
  obtain ⟨h1, h2, h3, h4, h5, h6⟩ := h
  subst h2
  refine ⟨?_, rfl, ⟨up_eq _ _ _, WK_up K (Nat.le_refl _) h3⟩, ?_, ?_, ?_⟩
  · intro i hi
    rcases List.mem_cons.mp hi with rfl | hi
    · show v = 3 ∨ v = 4 ∨ v = 5 ∨ v = 6
      omega
    · exact h1 i hi
  · simp only [opK, List.nil_append]
    rw [if_pos (by omega)]
    exact h4
  · simp only [nK]
    rw [P6_t (by omega)]
    omega
  · simp only [nK]
    rw [E6_f (by omega)]
    exact h6
/-- with strength 0 all settles down to a bracket -/
theorem stl_top : ∀ (K : KL) (t : List QD), ok1 K → (stl 0 K t).1 = [] ∨ ∃ u K', (stl 0 K t).1 = (6, u) :: K'
  | [], _, _ => Or.inl rfl
  | i :: K, t, h => by
    simp only [stl]
    split
    · exact stl_top K _ (fun j hj => h j (List.mem_cons_of_mem _ hj))
    · next c =>
      have a := h i (List.mem_cons_self ..)
      have e : i.1 = 6 := by
        rcases a with a | a | a | a
        · exact absurd ⟨by omega, Or.inr (by trivial)⟩ c
        · exact absurd ⟨by omega, Or.inr (by trivial)⟩ c
        · exact absurd ⟨by omega, Or.inr (by trivial)⟩ c
        · exact a
      exact Or.inr ⟨i.2, K, by rw [← e]⟩
theorem RI_pop {P : QD → Prop} {nd : Nat → QD} {bg : Nat → Nat} {bc wc : Nat} {wt : Nat → Nat} {K : KL} {u : List QD} {T : List (List QD)} (h : RI P nd bg bc wc wt ((6, u) :: K) T) : 1 ≤ wc ∧ RI P nd bg bc (wc - 1) wt K T := by
  obtain ⟨h1, h2, h3, h4, h5, h6⟩ := h
  subst h2
  simp only [nK] at h5 h6
  rw [E6_t rfl] at h6
  rw [P6_f (by decide)] at h5
  exact ⟨by simp, fun i hi => h1 i (List.mem_cons_of_mem _ hi), by simp, h3.2, h4, h5, by omega⟩
theorem RI_close {P : QD → Prop} {nd : Nat → QD} {bg : Nat → Nat} {bc wc : Nat} {wt : Nat → Nat} {K : KL} {t : List QD} (h : RI P nd bg bc wc wt K [t]) (hd : 0 < nK E6 K) : ∃ K' u, (stl 0 K t).1 = (6, u) :: K' ∧ 1 ≤ (stF wt 0 wc bc nd bg).2.2.2 ∧ RI P (stF wt 0 wc bc nd bg).2.1 (stF wt 0 wc bc nd bg).2.2.1 (stF wt 0 wc bc nd bg).1 ((stF wt 0 wc bc nd bg).2.2.2 - 1) wt K' [(stl 0 K t).2] := by
  have a := (RI_st 0 h).2.1
  have b := stl_ok 0 K t h.1
  rcases stl_top K t h.1 with c | ⟨u, K', c⟩
  · rw [c] at b
    simp only [nK] at b
    omega
  · rw [c] at a
    have d := RI_pop a
    exact ⟨K', u, c, d⟩
/-- the same, of some words -/
def RIx (P : QD → Prop) (tm : Bool) (nd : Nat → QD) (bg : Nat → Nat) (bc wc : Nat) (wt : Nat → Nat) : Prop := ∃ K, if tm = true then RI P nd bg bc wc wt K [] else ∃ t, RI P nd bg bc wc wt K [t]
theorem RIx_ff {P : QD → Prop} {nd : Nat → QD} {bg : Nat → Nat} {bc wc : Nat} {wt : Nat → Nat} : RIx P false nd bg bc wc wt ↔ ∃ K t, RI P nd bg bc wc wt K [t] := Iff.rfl
theorem RIx_tt {P : QD → Prop} {nd : Nat → QD} {bg : Nat → Nat} {bc wc : Nat} {wt : Nat → Nat} : RIx P true nd bg bc wc wt ↔ ∃ K, RI P nd bg bc wc wt K [] := Iff.rfl
theorem RIx_b {P : QD → Prop} {tm : Bool} {nd : Nat → QD} {bg : Nat → Nat} {bc wc : Nat} {wt : Nat → Nat} (h : RIx P tm nd bg bc wc wt) : bc + cntB (fun z9 => decide (wt z9 < 6)) wc ≤ 40 ∧ cntB (fun z9 => decide (wt z9 = 6)) wc ≤ 20 ∧ wc ≤ 60 ∧ bc ≤ 40 := by
  cases tm with
  | true =>
    obtain ⟨K, h⟩ := RIx_tt.mp h
    have a := RI_b h
    have b := h.2.2.2.2
    omega
  | false =>
    obtain ⟨K, t, h⟩ := RIx_ff.mp h
    have a := RI_b h
    have b := h.2.2.2.2
    omega
theorem RIx_open {P : QD → Prop} {nd : Nat → QD} {bg : Nat → Nat} {bc wc : Nat} {wt : Nat → Nat} (h : RIx P true nd bg bc wc wt) (hd : cntB (fun z9 => decide (wt z9 = 6)) wc ≠ 20) : RIx P true nd bg bc (wc + 1) (up wt wc 6) := by
  obtain ⟨K, h⟩ := RIx_tt.mp h
  have a := RI_b h
  have b := h.2.2.2.2
  exact RIx_tt.mpr ⟨(6, []) :: K, RI_open h (by omega)⟩
theorem RIx_leaf {P : QD → Prop} {nd : Nat → QD} {bg : Nat → Nat} {bc wc : Nat} {wt : Nat → Nat} {q : QD} (h : RIx P true nd bg bc wc wt) (hd : bc + cntB (fun z9 => decide (wt z9 < 6)) wc ≠ 40) (hq : P q) : RIx P false (up nd bc q) (up bg bc bc) (bc + 1) wc wt := by
  obtain ⟨K, h⟩ := RIx_tt.mp h
  have a := RI_b h
  have b := h.2.2.2.2
  exact RIx_ff.mpr ⟨K, [q], RI_leaf h (by omega) hq⟩
theorem RIx_st {P : QD → Prop} {nd : Nat → QD} {bg : Nat → Nat} {bc wc : Nat} {wt : Nat → Nat} (z : Nat) (h : RIx P false nd bg bc wc wt) : stO wt z wc bc nd bg ∧ RIx P false (stF wt z wc bc nd bg).2.1 (stF wt z wc bc nd bg).2.2.1 (stF wt z wc bc nd bg).1 (stF wt z wc bc nd bg).2.2.2 wt ∧ (stF wt z wc bc nd bg).2.2.2 ≤ wc := by
  obtain ⟨K, t, h⟩ := RIx_ff.mp h
  have a := RI_st z h
  exact ⟨a.1, RIx_ff.mpr ⟨_, _, a.2.1⟩, a.2.2⟩
theorem RIx_close {P : QD → Prop} {nd : Nat → QD} {bg : Nat → Nat} {bc wc : Nat} {wt : Nat → Nat} (h : RIx P false nd bg bc wc wt) (hd : 0 < cntB (fun z9 => decide (wt z9 = 6)) wc) : 1 ≤ (stF wt 0 wc bc nd bg).2.2.2 ∧ RIx P false (stF wt 0 wc bc nd bg).2.1 (stF wt 0 wc bc nd bg).2.2.1 (stF wt 0 wc bc nd bg).1 ((stF wt 0 wc bc nd bg).2.2.2 - 1) wt := by
  obtain ⟨K, t, h⟩ := RIx_ff.mp h
  have a := RI_b h
  obtain ⟨K', u, c, d, e⟩ := RI_close h (by omega)
  exact ⟨d, RIx_ff.mpr ⟨K', _, e⟩⟩
theorem RIx_push {P : QD → Prop} {nd : Nat → QD} {bg : Nat → Nat} {bc wc : Nat} {wt : Nat → Nat} {v : Nat} (z : Nat) (h : RIx P false nd bg bc wc wt) (hv : v = 3 ∨ v = 4 ∨ v = 5) (hc : bc + cntB (fun z9 => decide (wt z9 < 6)) wc ≠ 40) : RIx P true (stF wt z wc bc nd bg).2.1 (stF wt z wc bc nd bg).2.2.1 (stF wt z wc bc nd bg).1 ((stF wt z wc bc nd bg).2.2.2 + 1) (up wt (stF wt z wc bc nd bg).2.2.2 v) := by
  obtain ⟨K, t, h⟩ := RIx_ff.mp h
  have a := RI_b h
  have b := h.2.2.2.2
  have e := RI_st z h
  have e2 := RI_b e.2.1
  have e3 := congrArg List.length (stl_fl z K t h.1)
  simp only [List.length_append] at e3
  simp only [szL] at e2 a
  exact RIx_tt.mpr ⟨_, RI_push e.2.1 hv (by omega)⟩
