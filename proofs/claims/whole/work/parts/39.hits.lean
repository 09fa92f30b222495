/-! ===== hits: insertion and groups ===== -/
def lsG {α : Type} (f : Nat → α) : Nat → List α
  | 0 => []
  | n + 1 => lsG f n ++ [f n]
theorem lsG_len {α : Type} (f : Nat → α) : ∀ n, (lsG f n).length = n
  | 0 => rfl
  | n + 1 => by simp only [lsG, List.length_append, List.length_cons, List.length_nil]; rw [lsG_len f n]
theorem lsG_congr {α : Type} {f g : Nat → α} : ∀ n, (∀ i, i < n → f i = g i) → lsG f n = lsG g n
  | 0, _ => rfl
  | n + 1, h => by simp only [lsG]; rw [lsG_congr n (fun i hi => h i (by omega)), h n (by omega)]
theorem lsG_inj {α : Type} {f g : Nat → α} : ∀ n, lsG f n = lsG g n → ∀ i, i < n → f i = g i
  | 0, _, i, hi => absurd hi (Nat.not_lt_zero _)
  | n + 1, h, i, hi => by
    simp only [lsG] at h
    have a := List.append_inj h (by rw [lsG_len, lsG_len])
    rcases Nat.lt_or_ge i n with c | c
    · exact lsG_inj n a.1 i c
    · obtain rfl : i = n := by omega
      exact (List.cons.inj a.2).1
theorem lsG_split {α : Type} (f : Nat → α) (a : Nat) : ∀ b, lsG f (a + b) = lsG f a ++ lsG (fun i => f (a + i)) b
  | 0 => by simp [lsG]
  | b + 1 => by
    rw [show a + (b + 1) = (a + b) + 1 by omega]
    simp only [lsG]
    rw [lsG_split f a b, List.append_assoc]
theorem lsG_up {α : Type} (f : Nat → α) (n : Nat) (q : α) : lsG (up f n q) (n + 1) = lsG f n ++ [q] := by
  simp only [lsG]
  rw [up_eq, lsG_congr n (fun i hi => up_ne _ _ (by omega))]
theorem lsG_mem {α : Type} (f : Nat → α) : ∀ n k, k < n → f k ∈ lsG f n
  | 0, k, h => absurd h (Nat.not_lt_zero _)
  | n + 1, k, h => by
    simp only [lsG, List.mem_append]
    rcases Nat.lt_or_ge k n with c | c
    · exact Or.inl (lsG_mem f n k c)
    · obtain rfl : k = n := by omega
      exact Or.inr (List.mem_cons_self ..)
/-- the class puts a number behind those whose moment is not smaller -/
theorem insP_at {rm : Nat → Int64} {hn : Nat → Nat} {n a : Nat} (h1 : a = 0 ∨ ¬ rm (hn (a - 1) - 1) < rm (n - 1)) : ∀ p, a ≤ p → (∀ k, a ≤ k → k < p → rm (hn k - 1) < rm (n - 1)) → insP rm hn n p = a
  | 0, ha, _ => by
    obtain rfl : a = 0 := by omega
    rfl
  | p + 1, ha, h => by
    rcases Nat.lt_or_ge p a with c | c
    · obtain rfl : a = p + 1 := by omega
      exact insP_stop (h1.resolve_left (by omega))
    · simp only [insP]
      rw [if_pos (h p c (by omega))]
      exact insP_at h1 p c (fun k hk hp => h k hk (by omega))
theorem insF_ls {rm : Nat → Int64} {hn : Nat → Nat} {hc n : Nat} {A B : List Nat} (h : lsG hn hc = A ++ B) (hA : ∀ a ∈ A, ¬ rm (a - 1) < rm (n - 1)) (hB : ∀ b ∈ B, rm (b - 1) < rm (n - 1)) : lsG (insF rm hn hc n) (hc + 1) = A ++ n :: B := by
  have hl := congrArg List.length h
  rw [lsG_len, List.length_append] at hl
  generalize ha : A.length = a at hl
  obtain ⟨r, rfl⟩ : ∃ r, hc = a + r := ⟨hc - a, by omega⟩
  rw [lsG_split] at h
  have q := List.append_inj h (by rw [lsG_len, ha])
  have hP : insP rm hn n (a + r) = a := by
    refine insP_at ?_ _ (by omega) ?_
    · rcases Nat.eq_zero_or_pos a with c | c
      · exact Or.inl c
      · refine Or.inr (hA _ ?_)
        rw [← q.1]
        exact lsG_mem hn a (a - 1) (by omega)
    · intro k h1 h2
      refine hB _ ?_
      rw [← q.2]
      have := lsG_mem (fun i => hn (a + i)) r (k - a) (by omega)
      rwa [show a + (k - a) = k by omega] at this
  rw [show a + r + 1 = a + (1 + r) by omega, lsG_split, lsG_split (fun i => insF rm hn (a + r) n (a + i)) 1 r]
  rw [lsG_congr (g := hn) a (fun i hi => by unfold insF; rw [hP, if_neg (by omega), if_neg (by omega)]), q.1]
  rw [lsG_congr (g := fun i => hn (a + i)) r (fun i hi => by
    show insF rm hn (a + r) n (a + (1 + i)) = hn (a + i)
    unfold insF
    rw [hP, if_neg (by omega), if_pos (by omega), show a + (1 + i) - 1 = a + i by omega]), q.2]
  have e : insF rm hn (a + r) n (a + 0) = n := by
    unfold insF
    rw [hP, if_pos (by omega)]
  simp only [lsG, List.nil_append]
  rw [e]
  rfl
/-- hits of the newest moment, and of the elder ones -/
def hR (H : Nat → Bool) (r : Nat) : List Nat := if H r = true then [r] else []
def dG (H : Nat → Bool) (mo : Nat → Int64) : Nat → List Nat × List Nat
  | 0 => ([], [])
  | i + 1 => if 1 ≤ i ∧ mo i = mo (i + 1) then ((dG H mo i).1 ++ hR H (i + 1), (dG H mo i).2) else (hR H (i + 1), (dG H mo i).1 ++ (dG H mo i).2)
theorem hR_mem {H : Nat → Bool} {r a : Nat} (h : a ∈ hR H r) : a = r := by
  unfold hR at h
  split at h
  · simpa using h
  · exact absurd h List.not_mem_nil
theorem dG_ok {H : Nat → Bool} {mo : Nat → Int64} {c : Nat} (hs : ∀ i, 1 ≤ i → i < c → mo i ≤ mo (i + 1)) : ∀ i, i ≤ c → (∀ a ∈ (dG H mo i).1, 1 ≤ a ∧ a ≤ i ∧ mo a = mo i) ∧ (∀ b ∈ (dG H mo i).2, 1 ≤ b ∧ b ≤ i ∧ mo b < mo i)
  | 0, _ => ⟨fun a h => absurd h List.not_mem_nil, fun a h => absurd h List.not_mem_nil⟩
  | i + 1, hc => by
    have q := dG_ok (H := H) hs i (by omega)
    simp only [dG]
    by_cases c1 : 1 ≤ i ∧ mo i = mo (i + 1)
    · rw [if_pos c1]
      refine ⟨fun a h => ?_, fun b h => ?_⟩
      · rcases List.mem_append.mp h with h | h
        · have z := q.1 a h
          exact ⟨z.1, by omega, z.2.2.trans c1.2⟩
        · have z := hR_mem h
          subst z
          exact ⟨by omega, Nat.le_refl _, rfl⟩
      · have z := q.2 b h
        exact ⟨z.1, by omega, by rw [← c1.2]; exact z.2.2⟩
    · rw [if_neg c1]
      refine ⟨fun a h => ?_, fun b h => ?_⟩
      · have z := hR_mem h
        subst z
        exact ⟨by omega, Nat.le_refl _, rfl⟩
      · have hi : 1 ≤ b ∧ b ≤ i ∧ mo b ≤ mo i := by
          rcases List.mem_append.mp h with h | h
          · have z := q.1 b h
            exact ⟨z.1, z.2.1, by rw [z.2.2]; exact Int64.le_refl _⟩
          · have z := q.2 b h
            exact ⟨z.1, z.2.1, Int64.le_of_lt z.2.2⟩
        have hlt : mo i < mo (i + 1) := Int64.lt_of_le_of_ne (hs i (by omega) (by omega)) (fun e => c1 ⟨by omega, e⟩)
        exact ⟨hi.1, by omega, Int64.lt_of_le_of_lt hi.2.2 hlt⟩
def grp (H : Nat → Bool) (r k : Nat) : List Nat := (List.range' r k).filter H
theorem grp_succ (H : Nat → Bool) (r k : Nat) : grp H r (k + 1) = grp H r k ++ hR H (r + k) := by
  unfold grp hR
  rw [List.range'_concat, List.filter_append]
  simp only [Nat.one_mul]
  cases c : H (r + k) <;> simp [List.filter, c]
theorem frm_e {mo : Nat → Int64} {e e' : Nat} (h : mo e = mo e') : ∀ k, frm mo e k = frm mo e' k
  | 0 => rfl
  | k + 1 => by
    simp only [frm]
    rw [h, frm_e h k]
theorem frm_rng (mo : Nat → Int64) (e : Nat) : ∀ k, 1 ≤ k → 1 ≤ frm mo e k ∧ frm mo e k ≤ k
  | 0, h => absurd h (by omega)
  | k + 1, h => by
    simp only [frm]
    split
    · have := frm_rng mo e k (by omega)
      omega
    · omega
theorem dG_grp {H : Nat → Bool} {mo : Nat → Int64} : ∀ e, 1 ≤ e → dG H mo e = (grp H (frm mo e e) (e + 1 - frm mo e e), (dG H mo (frm mo e e - 1)).1 ++ (dG H mo (frm mo e e - 1)).2)
  | 0, h => absurd h (by omega)
  | i + 1, _ => by
    simp only [dG]
    by_cases c1 : 1 ≤ i ∧ mo i = mo (i + 1)
    · have hf : frm mo (i + 1) (i + 1) = frm mo i i := by
        simp only [frm]
        rw [if_pos ⟨by omega, c1.2⟩, frm_e c1.2.symm]
      have hr := frm_rng mo i i c1.1
      rw [if_pos c1, dG_grp i c1.1, hf]
      refine Prod.ext ?_ rfl
      show grp H (frm mo i i) (i + 1 - frm mo i i) ++ hR H (i + 1) = grp H (frm mo i i) (i + 1 + 1 - frm mo i i)
      rw [show i + 1 + 1 - frm mo i i = (i + 1 - frm mo i i) + 1 by omega, grp_succ, show frm mo i i + (i + 1 - frm mo i i) = i + 1 by omega]
    · have hf : frm mo (i + 1) (i + 1) = i + 1 := by
        simp only [frm]
        rw [if_neg (by intro h; exact c1 ⟨by omega, h.2⟩)]
      rw [if_neg c1, hf, Nat.add_sub_cancel, show i + 1 + 1 - (i + 1) = 0 + 1 by omega, grp_succ]
      simp [grp]
/-! meeting a tree doesn't look at what was there before -/
theorem mt_indep {P : QD → Bool} {nd : Nat → QD} : ∀ (n o : Nat) (s s' : Nat → Bool), okT nd n o → o ≤ 40 → (∀ k, k < o → s k = s' k) → (mtR P nd n (o, s)).1 = 1 ∧ (mtR P nd n (o, s')).1 = 1 ∧ (mtR P nd n (o, s)).2 0 = (mtR P nd n (o, s')).2 0
  | 0, o, s, s', h, _, hk => by
    have e : o = 1 := h
    subst e
    exact ⟨rfl, rfl, hk 0 (by omega)⟩
  | n + 1, o, s, s', h, h40, hk => by
    simp only [okT] at h
    simp only [mtR, mtS]
    by_cases c : (nd n).1.toInt < 3
    · rw [if_pos c] at h
      rw [if_pos c, if_pos c, if_pos h.1, if_pos h.1]
      refine mt_indep n (o + 1) _ _ h.2 (by omega) (fun k hk2 => ?_)
      unfold up
      split
      · rfl
      · exact hk k (by omega)
    · rw [if_neg c] at h
      rw [if_neg c, if_neg c, if_pos ⟨h.1, h40⟩, if_pos ⟨h.1, h40⟩]
      refine mt_indep n (o - 1) _ _ h.2 (by omega) (fun k hk2 => ?_)
      rw [hk (o - 1) (by omega), hk (o - 2) (by omega)]
      unfold up
      split
      · rfl
      · exact hk k (by omega)
theorem mtR_congr {P : QD → Bool} {nd nd' : Nat → QD} : ∀ (n : Nat) (s : Nat × (Nat → Bool)), (∀ k, k < n → nd k = nd' k) → mtR P nd n s = mtR P nd' n s
  | 0, _, _ => rfl
  | n + 1, s, h => by
    simp only [mtR]
    rw [h n (by omega)]
    exact mtR_congr n _ (fun k hk => h k (by omega))
theorem okT_congr {nd nd' : Nat → QD} : ∀ (n o : Nat), (∀ k, k < n → nd k = nd' k) → okT nd n o → okT nd' n o
  | 0, _, _, h => h
  | n + 1, o, hk, h => by
    simp only [okT] at h ⊢
    rw [← hk n (by omega)]
    split
    · next c =>
      rw [if_pos c] at h
      exact ⟨h.1, okT_congr n _ (fun k q => hk k (by omega)) h.2⟩
    · next c =>
      rw [if_neg c] at h
      exact ⟨h.1, okT_congr n _ (fun k q => hk k (by omega)) h.2⟩
def mB (P : QD → Bool) (nd : Nat → QD) (n : Nat) : Bool := (mtR P nd n (0, fun _ => false)).2 0
theorem mB_of {P : QD → Bool} {nd : Nat → QD} {n : Nat} (h : okT nd n 0) (s : Nat → Bool) : (mtR P nd n (0, s)).1 = 1 ∧ (mtR P nd n (0, s)).2 0 = mB P nd n := by
  have a := mt_indep (P := P) n 0 s (fun _ => false) h (by omega) (fun k hk => absurd hk (Nat.not_lt_zero _))
  exact ⟨a.1, a.2.2⟩
abbrev HS : Type := Nat × (Nat → Nat) × (Nat → Bool)
theorem ga_list {lk : Nat → Bool} {P : Nat → QD → Bool} {nd : Nat → QD} {tn : Nat} {rm mo : Nat → Int64} {c : Nat} (hok : okT nd tn 0) (hm : ∀ k, 1 ≤ k → k ≤ c → mo k = rm (k - 1)) (hs : ∀ i, 1 ≤ i → i < c → mo i ≤ mo (i + 1)) : ∀ (f i : Nat) (s : HS), i + f = c → lsG s.2.1 s.1 = (dG (fun r => lk r && mB (P r) nd tn) mo i).1 ++ (dG (fun r => lk r && mB (P r) nd tn) mo i).2 →
    lsG (gaS lk P nd tn rm f (i + 1) s).2.1 (gaS lk P nd tn rm f (i + 1) s).1 = (dG (fun r => lk r && mB (P r) nd tn) mo c).1 ++ (dG (fun r => lk r && mB (P r) nd tn) mo c).2
  | 0, i, s, hc, h => by
    obtain rfl : i = c := by omega
    exact h
  | f + 1, i, s, hc, h => by
    simp only [gaS]
    refine ga_list hok hm hs f (i + 1) _ (by omega) ?_
    have q := dG_ok (H := fun r => lk r && mB (P r) nd tn) hs i (by omega)
    have mi := hm (i + 1) (by omega) (by omega)
    have b := mB_of (P := P (i + 1)) hok s.2.2
    have step : lsG (gaT lk P nd tn rm (i + 1) s).2.1 (gaT lk P nd tn rm (i + 1) s).1 = if (lk (i + 1) && mB (P (i + 1)) nd tn) = true then lsG (insF rm s.2.1 s.1 (i + 1)) (s.1 + 1) else lsG s.2.1 s.1 := by
      unfold gaT
      cases c1 : lk (i + 1) with
      | false =>
        rw [if_neg (by decide), if_neg (by rw [Bool.false_and]; decide)]
      | true =>
        rw [if_pos rfl, b.1, b.2, decide_eq_true rfl, Bool.true_and]
        cases mB (P (i + 1)) nd tn with
        | false => rw [if_neg (by decide), if_neg (by decide)]
        | true => rw [if_pos rfl, if_pos rfl]
    rw [step]
    simp only [dG, hR]
    by_cases cH : (lk (i + 1) && mB (P (i + 1)) nd tn) = true
    · rw [if_pos cH]
      simp only [if_pos cH]
      by_cases c1 : 1 ≤ i ∧ mo i = mo (i + 1)
      · rw [if_pos c1]
        rw [insF_ls h (fun a ha => ?_) (fun a ha => ?_)]
        · simp
        · have z := q.1 a ha
          rw [← hm a z.1 (by omega), Nat.add_sub_cancel] 
          have e : rm i = mo (i + 1) := by rw [mi, Nat.add_sub_cancel]
          rw [e, z.2.2, c1.2]
          exact fun z => Int64.lt_irrefl z
        · have z := q.2 a ha
          rw [← hm a z.1 (by omega), ← mi, ← c1.2]
          exact z.2.2
      · rw [if_neg c1]
        rw [insF_ls (A := []) (B := (dG (fun r => lk r && mB (P r) nd tn) mo i).1 ++ (dG (fun r => lk r && mB (P r) nd tn) mo i).2) h (fun a ha => absurd ha List.not_mem_nil) (fun a ha => ?_)]
        · simp
        · have hlt : 1 ≤ i → mo i < mo (i + 1) := fun h1 => Int64.lt_of_le_of_ne (hs i h1 (by omega)) (fun e => c1 ⟨h1, e⟩)
          rcases List.mem_append.mp ha with ha | ha
          · have z := q.1 a ha
            rw [← hm a z.1 (by omega), ← mi, z.2.2]
            exact hlt (by omega)
          · have z := q.2 a ha
            rw [← hm a z.1 (by omega), ← mi]
            exact Int64.lt_trans z.2.2 (hlt (by omega))
    · rw [if_neg cH]
      simp only [if_neg cH, List.append_nil, List.nil_append]
      split
      · exact h
      · exact h
theorem fdI_list {L : Nat → Bool} {P : Nat → QD → Bool} {nd : Nat → QD} {tn : Nat} (hok : okT nd tn 0) : ∀ (k r : Nat) (s : HS), lsG (fdI (fdT L P nd tn) k r s).2.1 (fdI (fdT L P nd tn) k r s).1 = lsG s.2.1 s.1 ++ grp (fun r => L r && mB (P r) nd tn) r k
  | 0, r, s => by simp [fdI, grp]
  | k + 1, r, s => by
    simp only [fdI]
    rw [fdI_list hok k (r + 1)]
    have b := mB_of (P := P r) hok s.2.2
    have e : grp (fun r => L r && mB (P r) nd tn) r (k + 1) = hR (fun r => L r && mB (P r) nd tn) r ++ grp (fun r => L r && mB (P r) nd tn) (r + 1) k := by
      unfold grp hR
      rw [List.range'_succ]
      cases c : (L r && mB (P r) nd tn) <;> simp [List.filter, c]
    rw [e, ← List.append_assoc]
    congr 1
    unfold fdT hR
    cases c1 : L r with
    | false => rw [if_neg (by decide)]; simp [c1]
    | true =>
      rw [if_pos rfl, b.2]
      cases c2 : mB (P r) nd tn with
      | false => rw [if_neg (by decide)]; simp [c2]
      | true => rw [if_pos rfl]; simp only [lsG_up, c1, c2]; rfl
theorem fdO_list {L : Nat → Bool} {P : Nat → QD → Bool} {nd : Nat → QD} {tn : Nat} {mo : Nat → Int64} (hok : okT nd tn 0) : ∀ (f e : Nat) (s : HS), e ≤ f → lsG (fdO (fdT L P nd tn) mo f e s).2.1 (fdO (fdT L P nd tn) mo f e s).1 = lsG s.2.1 s.1 ++ ((dG (fun r => L r && mB (P r) nd tn) mo e).1 ++ (dG (fun r => L r && mB (P r) nd tn) mo e).2)
  | 0, e, s, h => by
    obtain rfl : e = 0 := by omega
    simp [fdO, dG]
  | f + 1, e, s, h => by
    simp only [fdO]
    by_cases c : e = 0
    · subst c
      rw [if_pos rfl]
      simp [dG]
    · have hr := frm_rng mo e e (by omega)
      rw [if_neg c, fdO_list hok f _ _ (by omega), fdI_list hok, dG_grp e (by omega), List.append_assoc]
theorem dG_congr {H H' : Nat → Bool} {mo : Nat → Int64} : ∀ i, (∀ r, 1 ≤ r → r ≤ i → H r = H' r) → dG H mo i = dG H' mo i
  | 0, _ => rfl
  | i + 1, h => by
    simp only [dG, hR]
    rw [dG_congr i (fun r h1 h2 => h r h1 (by omega)), h (i + 1) (by omega) (by omega)]
theorem dG_len {H : Nat → Bool} {mo : Nat → Int64} : ∀ i, (dG H mo i).1.length + (dG H mo i).2.length ≤ i
  | 0 => Nat.le_refl _
  | i + 1 => by
    have q := dG_len (H := H) (mo := mo) i
    have r : (hR H (i + 1)).length ≤ 1 := by
      unfold hR
      split
      · exact Nat.le_refl _
      · exact Nat.zero_le _
    simp only [dG]
    split
    · simp only [List.length_append]; omega
    · simp only [List.length_append]; omega
/-- the class gathers what the reference finds -/
theorem ga_fd {lk L : Nat → Bool} {P P' : Nat → QD → Bool} {nd nd' : Nat → QD} {tn : Nat} {rm mo : Nat → Int64} {c : Nat} {hn hn' : Nat → Nat} {rb me : Nat → Bool} {w w' : HS} (hok : okT nd' tn 0) (hnd : ∀ k, k < tn → nd k = nd' k) (hm : ∀ k, 1 ≤ k → k ≤ c → mo k = rm (k - 1)) (hs : ∀ i, 1 ≤ i → i < c → mo i ≤ mo (i + 1)) (hL : ∀ r, 1 ≤ r → r ≤ c → lk r = L r) (hPP : ∀ r, 1 ≤ r → r ≤ c → P r = P' r) (hw : w = gaS lk P nd tn rm c 1 (0, hn, rb)) (hw' : w' = fdO (fdT L P' nd' tn) mo c c (0, hn', me)) : w.1 = w'.1 ∧ (∀ k, k < w.1 → w.2.1 k = w'.2.1 k) ∧ w.1 ≤ c := by
  have hok2 : okT nd tn 0 := okT_congr tn 0 (fun k hk => (hnd k hk).symm) hok
  have a := ga_list (lk := lk) (P := P) (c := c) hok2 hm hs c 0 (0, hn, rb) (by omega) rfl
  have b := fdO_list (L := L) (P := P') (mo := mo) hok c c (0, hn', me) (Nat.le_refl _)
  have e : dG (fun r => lk r && mB (P r) nd tn) mo c = dG (fun r => L r && mB (P' r) nd' tn) mo c := by
    refine dG_congr c (fun r h1 h2 => ?_)
    show (lk r && mB (P r) nd tn) = (L r && mB (P' r) nd' tn)
    rw [hL r h1 h2, hPP r h1 h2]
    unfold mB
    rw [mtR_congr tn _ hnd]
  simp only [lsG, List.nil_append] at b
  rw [Nat.zero_add, ← hw, e] at a
  rw [← hw'] at b
  have z := a.trans b.symm
  have z1 := congrArg List.length z
  rw [lsG_len, lsG_len] at z1
  have z2 := congrArg List.length a
  rw [lsG_len, List.length_append] at z2
  have z3 := dG_len (H := fun r => L r && mB (P' r) nd' tn) (mo := mo) c
  rw [← z1] at z
  exact ⟨z1, lsG_inj _ z, by omega⟩
