/-! ===== the reference: trees, records, questions ===== -/
theorem up_eq {α : Type} (f : Nat → α) (k : Nat) (v : α) : up f k v k = v := if_pos rfl
theorem nd_no {n : Nat} {nd : Nat → QD} {i wh : Int} (h : i < 0 ∨ (n : Int) ≤ i ∨ wh < 0 ∨ 3 < wh) : ndW n nd i wh = iI (-1) := by
  unfold ndW tA
  by_cases c : 0 ≤ i ∧ i < n
  · rw [if_neg (by omega), if_neg (by omega), if_neg (by omega), if_neg (by omega)]
  · rw [if_neg c]
    repeat' split
    all_goals rfl
theorem nd_is {n : Nat} {tr : Nat → QD} {i wh : Int} {z : Nat} (h : 0 ≤ i ∧ i < n) (h2 : 0 ≤ wh ∧ wh ≤ 3) (hz : (z : Int) = 1600 + 4 * i + wh) : pk tr z = ndW n (fun z9 => tr (400 + z9)) i wh := by
  unfold ndW tA
  rw [if_pos h]
  rcases (show wh = 0 ∨ wh = 1 ∨ wh = 2 ∨ wh = 3 by omega) with e | e | e | e
  · rw [if_pos e, pk_0 tr (k := 400 + i.toNat) (by omega)]
  · rw [if_neg (by omega), if_pos e, pk_1 tr (k := 400 + i.toNat) (by omega)]
  · rw [if_neg (by omega), if_neg (by omega), if_pos e, pk_2 tr (k := 400 + i.toNat) (by omega)]
  · rw [if_neg (by omega), if_neg (by omega), if_neg (by omega), if_pos e, pk_3 tr (k := 400 + i.toNat) (by omega)]
/-- entries: index and value -/
def pe (en : Nat → Int32 × Nat) : Nat → Int32 := fun i => if i % 2 = 0 then (en (i / 2)).1 else iI (((en (i / 2)).2 : Nat) : Int)
theorem pe_0 (en : Nat → Int32 × Nat) {i k : Nat} (h : i = 2 * k) : pe en i = (en k).1 := by
  subst h
  unfold pe
  rw [if_pos (by omega), show 2 * k / 2 = k by omega]
theorem pe_1 (en : Nat → Int32 × Nat) {i k : Nat} (h : i = 2 * k + 1) : pe en i = iI (((en k).2 : Nat) : Int) := by
  subst h
  unfold pe
  rw [if_neg (by omega), show (2 * k + 1) / 2 = k by omega]
theorem pe_up (en : Nat → Int32 × Nat) {i i2 n : Nat} {a : Int32} {v : Int} {c : Nat} (h1 : i = 2 * n) (h2 : i2 = 2 * n + 1) (hv : v = (c : Int)) : upd (upd (pe en) i a) i2 (iI v) = pe (up en n (a, c)) := by
  subst h1 h2 hv
  funext j
  unfold upd pe up
  by_cases e : j / 2 = n
  · rw [if_pos e]
    by_cases h : j % 2 = 0
    · rw [if_neg (by omega), if_pos (by omega), if_pos h]
    · rw [if_pos (by omega), if_neg h]
  · rw [if_neg e, if_neg (by omega), if_neg (by omega)]
theorem bgL_fuel {b : Int} : ∀ {k w : Nat}, w < 10 ^ k → bgL b (k + 1) w = bgL b k w
  | 0, w, h => by
    have : w = 0 := by omega
    subst this
    simp only [bgL]
    split <;> rfl
  | k + 1, w, h => by
    rw [show bgL b (k + 1 + 1) w = if b < w then bgL b (k + 1) (w / 10) else w from rfl, show bgL b (k + 1) w = if b < w then bgL b k (w / 10) else w from rfl]
    rw [bgL_fuel (k := k) (w := w / 10) (by rw [Nat.pow_succ] at h; omega)]
theorem bgL_zero (b : Int) : ∀ k, bgL b k 0 = 0
  | 0 => rfl
  | k + 1 => by
    simp only [bgL]
    split
    · exact bgL_zero b k
    · rfl
theorem bg_step {b : Int} {w : Nat} (h9 : 9 < w) (hb : b < w) (hw : w < 100000) : bgB b (w / 10) = bgB b w := by
  unfold bgB
  by_cases e : b = 0
  · rw [if_pos e, if_pos e, decide_eq_false (by omega), decide_eq_false (by omega)]
  · have h4 : w / 10 < 10 ^ 4 := by
      have : (10 : Nat) ^ 4 = 10000 := by decide
      omega
    rw [if_neg e, if_neg e, show bgL b 5 w = if b < w then bgL b 4 (w / 10) else w from rfl, if_pos hb, bgL_fuel h4]
theorem bg_end {b : Int} {w : Nat} (h : (w : Int) ≤ b ∨ w ≤ 9) : bgB b w = decide ((w : Int) = b) := by
  unfold bgB
  by_cases e : b = 0
  · rw [if_pos e]
    by_cases c : w = 0
    · rw [decide_eq_true c, decide_eq_true (by omega)]
    · rw [decide_eq_false c, decide_eq_false (by omega)]
  · rw [if_neg e]
    by_cases c : (w : Int) ≤ b
    · rw [bgL_no c]
    · rw [show bgL b 5 w = if b < w then bgL b 4 (w / 10) else w from rfl, if_pos (by omega), show w / 10 = 0 by omega, bgL_zero, decide_eq_false (by omega), decide_eq_false (by omega)]
def smR (ec : Nat → Nat) (en : Nat → Int32 × Nat) (r : Nat) (q : QD) : Bool := exB (fun z9 => decide ((en (8 * r + z9)).1 = q.2.1) && vlB q (en (8 * r + z9)).2) (ec r)
theorem hs_1 {F : Nat → Bool} {j : Nat} {is : Bool} (h : is = exB F j) (h1 : is = true) : true = exB F (j + 1) := by
  simp only [exB]
  rw [← h, h1]
  rfl
theorem hs_2 {F : Nat → Bool} {j : Nat} (h1 : F j = true) : true = exB F (j + 1) := by
  simp only [exB]
  rw [h1, Bool.or_true]
theorem hs_3 {F : Nat → Bool} {j : Nat} {is : Bool} (h : is = exB F j) (h1 : is = false) (h2 : F j = false) : false = exB F (j + 1) := by
  simp only [exB]
  rw [← h, h1, h2]
  rfl
theorem hF_t {P : Prop} [Decidable P] {v : Bool} (h : P) (hv : v = true) : (decide P && v) = true := by rw [decide_eq_true h, hv]; rfl
theorem hF_n {P : Prop} [Decidable P] {v : Bool} (h : ¬ P) : (decide P && v) = false := by rw [decide_eq_false h]; rfl
theorem hF_v {P : Prop} [Decidable P] {v : Bool} (hv : v = false) : (decide P && v) = false := by rw [hv, Bool.and_false]
/-- trees that can be decided from the last node to the first -/
def okT (nd : Nat → QD) : Nat → Nat → Prop
  | 0, o => o = 1
  | i + 1, o => if (nd i).1.toInt < 3 then o < 40 ∧ okT nd i (o + 1) else 2 ≤ o ∧ okT nd i (o - 1)
theorem okT_leaf {nd : Nat → QD} {j o : Nat} (h : okT nd (((j : Nat) : Int) + 1).toNat o) (hs : (nd j).1.toInt < 3) : o < 40 ∧ okT nd j (o + 1) := by
  rw [show (((j : Nat) : Int) + 1).toNat = j + 1 by omega] at h
  simp only [okT] at h
  rw [if_pos hs] at h
  exact h
theorem okT_join {nd : Nat → QD} {j o : Nat} (h : okT nd (((j : Nat) : Int) + 1).toNat o) (hs : ¬ (nd j).1.toInt < 3) : 2 ≤ o ∧ okT nd j (o - 1) := by
  rw [show (((j : Nat) : Int) + 1).toNat = j + 1 by omega] at h
  simp only [okT] at h
  rw [if_neg hs] at h
  exact h
theorem mt_leaf {P : QD → Bool} {q : QD} {o : Nat} {m : Nat → Bool} (hs : q.1.toInt < 3) (ho : o < 40) : mtS P q (o, m) = (o + 1, up m o (P q)) := by
  unfold mtS
  rw [if_pos hs, if_pos ho]
theorem mt_join {P : QD → Bool} {q : QD} {o : Nat} {m : Nat → Bool} {v : Bool} (hs : ¬ q.1.toInt < 3) (ho : 2 ≤ o) (h40 : o ≤ 40) (hv : jnB q.1.toInt (m (o - 1)) (m (o - 2)) = v) : mtS P q (o, m) = (o - 1, up m (o - 1 - 1) v) := by
  unfold mtS
  rw [if_neg hs, if_pos ⟨ho, h40⟩, ← hv, show o - 1 - 1 = o - 2 by omega]
theorem mtR_go {P : QD → Bool} {nd : Nat → QD} {j : Nat} {s s' w : Nat × (Nat → Bool)} (h : mtR P nd (((j : Nat) : Int) + 1).toNat s = w) (e : mtS P (nd j) s = s') : mtR P nd (((j : Nat) : Int) + (-1) + 1).toNat s' = w := by
  rw [show (((j : Nat) : Int) + 1).toNat = j + 1 by omega] at h
  rw [show (((j : Nat) : Int) + (-1) + 1).toNat = j by omega, ← e]
  exact h
def brR (fo : Nat → Bool) (x : Int32) : Bool := decide (¬ x.toInt = -1) && fo x.toInt.toNat
def svF (tr : Nat → QD) (k : Nat) : Nat → QD := fun z => if 40 * k ≤ z ∧ z < 40 * k + 40 then tr (400 + (z - 40 * k)) else tr z
theorem sv_go {tr : Nat → QD} {m : Nat → Int32} {k j : Nat} (hk : k < 10) (hj : j < 160) (hm : ∀ z, m z = if 160 * k ≤ z ∧ z < 160 * k + j then pk tr (1600 + (z - 160 * k)) else pk tr z) : ∀ z, upd m (160 * k + j) (m (1600 + j)) z = if 160 * k ≤ z ∧ z < 160 * k + (j + 1) then pk tr (1600 + (z - 160 * k)) else pk tr z := by
  intro z
  unfold upd
  by_cases e : z = 160 * k + j
  · subst e
    rw [if_pos rfl, if_pos (by omega), hm, if_neg (by omega), show 160 * k + j - 160 * k = j by omega]
  · rw [if_neg e, hm]
    by_cases c : 160 * k ≤ z ∧ z < 160 * k + j
    · rw [if_pos c, if_pos (by omega)]
    · rw [if_neg c, if_neg (by omega)]
theorem sv_end {tr : Nat → QD} {m : Nat → Int32} {k : Nat} (hm : ∀ z, m z = if 160 * k ≤ z ∧ z < 160 * k + 160 then pk tr (1600 + (z - 160 * k)) else pk tr z) : m = pk (svF tr k) := by
  funext z
  rw [hm]
  unfold pk svF
  by_cases c : 160 * k ≤ z ∧ z < 160 * k + 160
  · rw [if_pos c, if_pos (show 40 * k ≤ z / 4 ∧ z / 4 < 40 * k + 40 by omega), show (1600 + (z - 160 * k)) % 4 = z % 4 by omega, show (1600 + (z - 160 * k)) / 4 = 400 + (z / 4 - 40 * k) by omega]
  · rw [if_neg c, if_neg (show ¬ (40 * k ≤ z / 4 ∧ z / 4 < 40 * k + 40) by omega)]
/-! ===== the nearest NAME, as the reference seeks it ===== -/
theorem eq_b {un : Nat} {uf xl : Nat → Int32} {k a b c : Nat} (hu : y8 uf) (hx : y8 xl) (ha : a < un) (hb : b = k * 8 + c) : (yb (uf a) = yb (xl b)) ↔ eqF un uf xl k a c = true := by
  subst hb
  unfold eqF sN
  rw [if_pos ha, decide_eq_true_eq]
  exact ⟨fun h => yb_inj (hu _) (hx _) h, fun h => by rw [h]⟩
theorem ds_1 {q : Nat → Nat → Bool} {i : Nat} {m2 : Nat → Nat} (hi : 1 ≤ i) : ∀ t, up m2 0 i t = if t < 1 then rowD q i t else m2 t := by
  intro t
  unfold up
  obtain ⟨k, rfl⟩ : ∃ k, i = k + 1 := ⟨i - 1, by omega⟩
  by_cases e : t = 0
  · subst e
    rw [if_pos rfl, if_pos (by omega)]
    rfl
  · rw [if_neg e, if_neg (by omega)]
theorem ds_2 {q : Nat → Nat → Bool} {i j n : Nat} {fa m1 m2 m3 : Nat → Nat} (hi : 1 ≤ i) (hj : 1 ≤ j) (hjn : j ≤ n) (h1 : ∀ t, m1 t = chF fa n (rowD q (i - 1)) t) (h3 : ∀ t, m3 t = if t < j then rowD q i t else m2 t) {v : Nat} (hv : v = min (m1 (j - 1) + (if q (i - 1) (j - 1) = true then 0 else 1)) (min (m1 j) (m3 (j - 1)) + 1)) : ∀ t, up m3 j v t = if t < j + 1 then rowD q i t else m2 t := by
  intro t
  obtain ⟨k, rfl⟩ : ∃ k, i = k + 1 := ⟨i - 1, by omega⟩
  unfold up
  by_cases e : t = j
  · subst e
    obtain ⟨s, rfl⟩ : ∃ s, t = s + 1 := ⟨t - 1, by omega⟩
    rw [if_pos rfl, if_pos (show s + 1 < s + 1 + 1 by omega), hv, h1, h1, h3, if_pos (show s + 1 - 1 < s + 1 by omega)]
    unfold chF
    rw [if_pos (show s + 1 - 1 ≤ n by omega), if_pos (show s + 1 ≤ n by omega)]
    rfl
  · rw [if_neg e, h3]
    by_cases z : t < j
    · rw [if_pos z, if_pos (by omega)]
    · rw [if_neg z, if_neg (by omega)]
theorem ds_3 {m1 m3 m4 : Nat → Nat} {j : Nat} (h : ∀ t, m4 t = if t < j then m3 t else m1 t) : ∀ t, up m4 j (m3 j) t = if t < j + 1 then m3 t else m1 t := by
  intro t
  unfold up
  by_cases e : t = j
  · subst e
    rw [if_pos rfl, if_pos (by omega)]
  · rw [if_neg e, h]
    by_cases z : t < j
    · rw [if_pos z, if_pos (by omega)]
    · rw [if_neg z, if_neg (by omega)]
theorem ds_4 {q : Nat → Nat → Bool} {i n j j2 : Nat} {fa m1 m2 m3 m4 : Nat → Nat} (hi : 1 ≤ i) (hj : j = n + 1) (hj2 : j2 = n + 1) (h1 : ∀ t, m1 t = chF fa n (rowD q (i - 1)) t) (h3 : ∀ t, m3 t = if t < j then rowD q i t else m2 t) (h4 : ∀ t, m4 t = if t < j2 then m3 t else m1 t) : ∀ t, m4 t = chF fa n (rowD q (i + 1 - 1)) t := by
  intro t
  rw [h4]
  unfold chF
  by_cases z : t ≤ n
  · rw [if_pos (by omega), if_pos z, h3, if_pos (by omega), show i + 1 - 1 = i by omega]
  · rw [if_neg (by omega), if_neg z, h1]
    unfold chF
    rw [if_neg z]
theorem ds_5 {q : Nat → Nat → Bool} {i n j : Nat} {fb m2 m3 : Nat → Nat} (hj : j = n + 1) (h2 : ∀ t, m2 t = if i = 1 then fb t else chF fb n (rowD q (i - 1)) t) (h3 : ∀ t, m3 t = if t < j then rowD q i t else m2 t) (hi : 1 ≤ i) : ∀ t, m3 t = if i + 1 = 1 then fb t else chF fb n (rowD q (i + 1 - 1)) t := by
  intro t
  rw [if_neg (by omega), h3]
  unfold chF
  by_cases z : t ≤ n
  · rw [if_pos (by omega), if_pos z, show i + 1 - 1 = i by omega]
  · rw [if_neg (by omega), if_neg z, h2]
    split
    · rfl
    · unfold chF
      rw [if_neg z]
theorem nr_ref {d : Nat → Nat} {i le : Nat} {b : Int} (hd : d i < 1000) (h : (i = 0 ∧ b = -1 ∧ le = 1000) ∨ (1 ≤ i ∧ ¬ b = -1 ∧ (b, le) = nrS d i)) (c : d i < le) : (i + 1 = 0 ∧ ((i : Nat) : Int) = -1 ∧ d i = 1000) ∨ (1 ≤ i + 1 ∧ ¬ ((i : Nat) : Int) = -1 ∧ (((i : Nat) : Int), d i) = nrS d (i + 1)) := by
  refine Or.inr ⟨by omega, by omega, ?_⟩
  rcases h with ⟨h1, h2, h3⟩ | ⟨h1, h2, h3⟩
  · subst h1
    rfl
  · exact nr_hit h3 (Or.inr c)
theorem nr_ref2 {d : Nat → Nat} {i le : Nat} {b : Int} (hd : d i < 1000) (h : (i = 0 ∧ b = -1 ∧ le = 1000) ∨ (1 ≤ i ∧ ¬ b = -1 ∧ (b, le) = nrS d i)) (c : ¬ d i < le) : (i + 1 = 0 ∧ b = -1 ∧ le = 1000) ∨ (1 ≤ i + 1 ∧ ¬ b = -1 ∧ (b, le) = nrS d (i + 1)) := by
  rcases h with ⟨h1, h2, h3⟩ | ⟨h1, h2, h3⟩
  · omega
  · exact Or.inr ⟨by omega, h2, nr_keep h3 h2 (by omega)⟩
theorem nr_end {d : Nat → Nat} {i le : Nat} {b : Int} (h : (i = 0 ∧ b = -1 ∧ le = 1000) ∨ (1 ≤ i ∧ ¬ b = -1 ∧ (b, le) = nrS d i)) : b = (nrS d i).1 := by
  rcases h with ⟨h1, h2, h3⟩ | ⟨h1, h2, h3⟩
  · subst h1
    exact h2
  · rw [← h3]
theorem nr_b0 {d : Nat → Nat} {i le : Nat} {b : Int} (h : (i = 0 ∧ b = -1 ∧ le = 1000) ∨ (1 ≤ i ∧ ¬ b = -1 ∧ (b, le) = nrS d i)) (hi : i = 0) : b = -1 := by
  rcases h with ⟨h1, h2, h3⟩ | ⟨h1, h2, h3⟩
  · exact h2
  · omega
/-! ===== the hits, as the reference gathers them ===== -/
def fdT (L : Nat → Bool) (P : Nat → QD → Bool) (nd : Nat → QD) (tn : Nat) (r : Nat) (s : Nat × (Nat → Nat) × (Nat → Bool)) : Nat × (Nat → Nat) × (Nat → Bool) :=
  if L r = true then (if (mtR (P r) nd tn (0, s.2.2)).2 0 = true then (s.1 + 1, up s.2.1 s.1 r, (mtR (P r) nd tn (0, s.2.2)).2) else (s.1, s.2.1, (mtR (P r) nd tn (0, s.2.2)).2)) else s
def fdI (T : Nat → Nat × (Nat → Nat) × (Nat → Bool) → Nat × (Nat → Nat) × (Nat → Bool)) : Nat → Nat → Nat × (Nat → Nat) × (Nat → Bool) → Nat × (Nat → Nat) × (Nat → Bool)
  | 0, _, s => s
  | k + 1, r, s => fdI T k (r + 1) (T r s)
def frm (mo : Nat → Int64) (e : Nat) : Nat → Nat
  | 0 => 0
  | k + 1 => if 1 < k + 1 ∧ mo k = mo e then frm mo e k else k + 1
def fdO (T : Nat → Nat × (Nat → Nat) × (Nat → Bool) → Nat × (Nat → Nat) × (Nat → Bool)) (mo : Nat → Int64) : Nat → Nat → Nat × (Nat → Nat) × (Nat → Bool) → Nat × (Nat → Nat) × (Nat → Bool)
  | 0, _, s => s
  | f + 1, e, s => if e = 0 then s else fdO T mo f (frm mo e e - 1) (fdI T (e + 1 - frm mo e e) (frm mo e e) s)
theorem frm_go {mo : Nat → Int64} {e k : Nat} (h1 : 1 < k) (h : mo (k - 1) = mo e) : frm mo e (k - 1) = frm mo e k := by
  obtain ⟨j, rfl⟩ : ∃ j, k = j + 1 := ⟨k - 1, by omega⟩
  rw [show j + 1 - 1 = j by omega] at *
  simp only [frm]
  rw [if_pos ⟨h1, h⟩]
theorem frm_stop {mo : Nat → Int64} {e k : Nat} (h : k ≤ 1 ∨ ¬ mo (k - 1) = mo e) : frm mo e k = k := by
  cases k with
  | zero => rfl
  | succ j =>
    simp only [frm]
    rw [if_neg]
    intro z
    rcases h with h | h
    · omega
    · exact h z.2
theorem fdI_go {T : Nat → Nat × (Nat → Nat) × (Nat → Bool) → Nat × (Nat → Nat) × (Nat → Bool)} {e r : Nat} {s s' w : Nat × (Nat → Nat) × (Nat → Bool)} (hr : r ≤ e) (h : fdI T (e + 1 - r) r s = w) (hs : T r s = s') : fdI T (e + 1 - (r + 1)) (r + 1) s' = w := by
  rw [show e + 1 - r = (e + 1 - (r + 1)) + 1 by omega] at h
  simp only [fdI] at h
  rw [hs] at h
  exact h
theorem fdO_go {T : Nat → Nat × (Nat → Nat) × (Nat → Bool) → Nat × (Nat → Nat) × (Nat → Bool)} {mo : Nat → Int64} {f e k r : Nat} {s s' w : Nat × (Nat → Nat) × (Nat → Bool)} (he : 0 < e) (hf : e ≤ f) (h : fdO T mo f e s = w) (hk : k = frm mo e e) (hr : r = e + 1) (hi : fdI T (e + 1 - r) r s' = fdI T (e + 1 - k) k s) : fdO T mo (f - 1) (k - 1) s' = w := by
  obtain ⟨f, rfl⟩ : ∃ j, f = j + 1 := ⟨f - 1, by omega⟩
  simp only [fdO] at h
  rw [if_neg (by omega), ← hk, ← hi, hr, show e + 1 - (e + 1) = 0 by omega] at h
  exact h
theorem fdO_end {T : Nat → Nat × (Nat → Nat) × (Nat → Bool) → Nat × (Nat → Nat) × (Nat → Bool)} {mo : Nat → Int64} {f e : Nat} {s w : Nat × (Nat → Nat) × (Nat → Bool)} (he : e = 0) (h : fdO T mo f e s = w) : s = w := by
  subst he
  cases f with
  | zero => exact h
  | succ f =>
    rw [show fdO T mo (f + 1) 0 s = s from if_pos rfl] at h
    exact h
theorem fdT_no {L : Nat → Bool} {P : Nat → QD → Bool} {nd : Nat → QD} {tn r : Nat} {s : Nat × (Nat → Nat) × (Nat → Bool)} (h : L r = false) : fdT L P nd tn r s = s := by
  unfold fdT
  rw [if_neg (by rw [h]; decide)]
theorem fdT_hit {L : Nat → Bool} {P : Nat → QD → Bool} {nd : Nat → QD} {tn r c : Nat} {m : Nat → Nat} {b : Nat → Bool} {t : Nat × (Nat → Bool)} (h : L r = true) (ht : t = mtR (P r) nd tn (0, b)) (hh : t.2 0 = true) : fdT L P nd tn r (c, m, b) = (c + 1, up m c r, t.2) := by
  subst ht
  unfold fdT
  rw [if_pos h]
  show (if _ then _ else _) = _
  rw [if_pos hh]
theorem fdT_miss {L : Nat → Bool} {P : Nat → QD → Bool} {nd : Nat → QD} {tn r c : Nat} {m : Nat → Nat} {b : Nat → Bool} {t : Nat × (Nat → Bool)} (h : L r = true) (ht : t = mtR (P r) nd tn (0, b)) (hh : t.2 0 = false) : fdT L P nd tn r (c, m, b) = (c, m, t.2) := by
  subst ht
  unfold fdT
  rw [if_pos h]
  show (if _ then _ else _) = _
  rw [if_neg (by rw [hh]; decide)]
def lkR (all : Bool) (s : Int64) (mo : Nat → Int64) (r : Nat) : Bool := all || decide (s < mo r)
set_option maxHeartbeats 4000000 in
set_option maxRecDepth 100000 in
theorem k_Mo_node (l : Launch) (g : ZG) (m0 m1 m2 m3 m4 m5 m6 m7 m8 m9 m10 m11 m12 m13 m14 m15 m16 m17 m18 m19 sn ap wr xc un bc wc rc hc : Nat) (tr : Nat → QD) (ts : Nat → Nat) (i wh : Int) (hts : ts 10 ≤ 40) (hi : -2147483648 ≤ i ∧ i < 2147483648) (hw : -2147483648 ≤ wh ∧ wh < 2147483648)   : Ct l g y_Mo_node c_Mo_node 3 (some .int) { frames := 0, cells := 0, slots := 0, locals := 0 } [.ref m0, .int (iI i), .int (iI wh)] [(m0, .inr (10, [.int (iI ((0 : Nat) : Int)), .ref m1, .int (iI ((sn : Nat) : Int)), .int (iI ((ap : Nat) : Int)), .int (iI ((wr : Nat) : Int)), .ref m2, .ref m3, .ref m4, .int (iI ((xc : Nat) : Int)), .ref m5, .int (iI ((un : Nat) : Int)), .ref m6, .ref m7, .int (iI ((bc : Nat) : Int)), .ref m8, .int (iI ((wc : Nat) : Int)), .ref m9, .ref m10, .ref m11, .ref m12, .int (iI ((rc : Nat) : Int)), .ref m13, .ref m14, .ref m15, .ref m16, .ref m17, .int (iI ((hc : Nat) : Int)), .ref m18, .ref m19])), (m9, .inl ((g.2.1 0), 1760, .inl (pk tr))), (m10, .inl ((g.2.1 0), 11, .inl (nF ts)))] (some (.int (ndW (ts 10) (fun z9 => tr (400 + z9)) i wh))) [(m0, .inr (10, [.int (iI ((0 : Nat) : Int)), .ref m1, .int (iI ((sn : Nat) : Int)), .int (iI ((ap : Nat) : Int)), .int (iI ((wr : Nat) : Int)), .ref m2, .ref m3, .ref m4, .int (iI ((xc : Nat) : Int)), .ref m5, .int (iI ((un : Nat) : Int)), .ref m6, .ref m7, .int (iI ((bc : Nat) : Int)), .ref m8, .int (iI ((wc : Nat) : Int)), .ref m9, .ref m10, .ref m11, .ref m12, .int (iI ((rc : Nat) : Int)), .ref m13, .ref m14, .ref m15, .ref m16, .ref m17, .int (iI ((hc : Nat) : Int)), .ref m18, .ref m19])), (m9, .inl ((g.2.1 0), 1760, .inl (pk tr))), (m10, .inl ((g.2.1 0), 11, .inl (nF ts)))] := by
  refine ct_i (lv := [(0, .ref m0), (1, .int (iI i)), (2, .int (iI wh))]) (by decide) rfl (Nat.le_of_ble_eq_true rfl) rfl ?_
  intro x hC hR
  refine z_aload_n hC d_Mo_node_0 rfl 0 rfl ?_
  refine z_iconstN hC 0 d_Mo_node_1 rfl ?_
  refine z_put (v := .int (iI ((0 : Nat) : Int))) (ty := .int) (w' := [(m0, .inr (10, [.int (iI ((0 : Nat) : Int)), .ref m1, .int (iI ((sn : Nat) : Int)), .int (iI ((ap : Nat) : Int)), .int (iI ((wr : Nat) : Int)), .ref m2, .ref m3, .ref m4, .int (iI ((xc : Nat) : Int)), .ref m5, .int (iI ((un : Nat) : Int)), .ref m6, .ref m7, .int (iI ((bc : Nat) : Int)), .ref m8, .int (iI ((wc : Nat) : Int)), .ref m9, .ref m10, .ref m11, .ref m12, .int (iI ((rc : Nat) : Int)), .ref m13, .ref m14, .ref m15, .ref m16, .ref m17, .int (iI ((hc : Nat) : Int)), .ref m18, .ref m19])), (m9, .inl ((g.2.1 0), 1760, .inl (pk tr))), (m10, .inl ((g.2.1 0), 11, .inl (nF ts)))]) hC hi_Mo ty_Mo ok_Mo nm_Mo 0 rfl rfl 0 (by decide) mw_735 rfl rfl rfl rfl rfl (Nat.le_of_ble_eq_true rfl) rfl d_Mo_node_2 ?_
  refine z_iload_n hC d_Mo_node_5 rfl 1 rfl ?_
  refine z_if_lt (tgt := 29) hC i d_Mo_node_6 rfl (iI_t (by omega)) (fun c_1 => ?_) (fun c_1 => ?_)
  · refine z_iconst hC d_Mo_node_29 ?_
    refine z_goto (tgt := 47) hC d_Mo_node_30 rfl ?_
    exact Z.eq rfl rfl rfl (by first | (rw [nd_no (by omega)]; done) | (refine congrArg (fun v => [Value.int v]) ?_; exact nd_is (by omega) (by omega) (by omega))) (hR _ _ d_Mo_node_47)
  · refine z_iload_n hC d_Mo_node_9 rfl 1 rfl ?_
    refine z_aload_n hC d_Mo_node_10 rfl 0 rfl ?_
    refine z_get hC hi_Mo 0 rfl rfl 17 (by decide) mw_752 (Or.inl rfl) rfl d_Mo_node_11 ?_
    refine z_bipush (a := ((10 : Nat) : Int)) hC d_Mo_node_14 (by decide) ?_
    refine z_ialdN hC 2 0 rfl rfl 10 rfl (by omega) (by decide) d_Mo_node_16 ?_
    refine z_icmp_ge (tgt := 29) hC i ((ts 10 : Nat) : Int) d_Mo_node_17 rfl (iI_t (by omega)) (iI_t (by omega)) (fun c_2 => ?_) (fun c_2 => ?_)
    · refine z_iconst hC d_Mo_node_29 ?_
      refine z_goto (tgt := 47) hC d_Mo_node_30 rfl ?_
      exact Z.eq rfl rfl rfl (by first | (rw [nd_no (by omega)]; done) | (refine congrArg (fun v => [Value.int v]) ?_; exact nd_is (by omega) (by omega) (by omega))) (hR _ _ d_Mo_node_47)
    · refine z_iload_n hC d_Mo_node_20 rfl 2 rfl ?_
      refine z_if_lt (tgt := 29) hC wh d_Mo_node_21 rfl (iI_t (by omega)) (fun c_3 => ?_) (fun c_3 => ?_)
      · refine z_iconst hC d_Mo_node_29 ?_
        refine z_goto (tgt := 47) hC d_Mo_node_30 rfl ?_
        exact Z.eq rfl rfl rfl (by first | (rw [nd_no (by omega)]; done) | (refine congrArg (fun v => [Value.int v]) ?_; exact nd_is (by omega) (by omega) (by omega))) (hR _ _ d_Mo_node_47)
      · refine z_iload_n hC d_Mo_node_24 rfl 2 rfl ?_
        refine z_iconstN hC 3 d_Mo_node_25 rfl ?_
        refine z_icmp_le (tgt := 33) hC wh ((3 : Nat) : Int) d_Mo_node_26 rfl (iI_t (by omega)) (iI_t (by omega)) (fun c_4 => ?_) (fun c_4 => ?_)
        · refine z_aload_n hC d_Mo_node_33 rfl 0 rfl ?_
          refine z_get hC hi_Mo 0 rfl rfl 16 (by decide) mw_751 (Or.inl rfl) rfl d_Mo_node_34 ?_
          refine z_sipush (a := ((1600 : Nat) : Int)) hC d_Mo_node_37 (by decide) ?_
          refine z_iconstN hC 4 d_Mo_node_40 rfl ?_
          refine z_iload_n hC d_Mo_node_41 rfl 1 rfl ?_
          refine z_imul hC d_Mo_node_42 ?_
          refine z_iadd hC d_Mo_node_43 ?_
          refine z_iload_n hC d_Mo_node_44 rfl 2 rfl ?_
          refine z_iadd hC d_Mo_node_45 ?_
          refine z_iald hC 1 0 rfl rfl (((((1600 : Nat) : Int) + (((4 : Nat) : Int) * i)) + wh).toNat) (by omega) (by omega) (by decide) d_Mo_node_46 ?_
          exact Z.eq rfl rfl rfl (by first | (rw [nd_no (by omega)]; done) | (refine congrArg (fun v => [Value.int v]) ?_; exact nd_is (by omega) (by omega) (by omega))) (hR _ _ d_Mo_node_47)
        · refine z_iconst hC d_Mo_node_29 ?_
          refine z_goto (tgt := 47) hC d_Mo_node_30 rfl ?_
          exact Z.eq rfl rfl rfl (by first | (rw [nd_no (by omega)]; done) | (refine congrArg (fun v => [Value.int v]) ?_; exact nd_is (by omega) (by omega) (by omega))) (hR _ _ d_Mo_node_47)
set_option maxHeartbeats 4000000 in
set_option maxRecDepth 100000 in
theorem k_Mo_distance (l : Launch) (g : ZG) (m0 m1 m2 m3 m4 m5 m6 m7 m8 m9 m10 m11 m12 m13 m14 m15 m16 m17 m18 m19 sn ap wr xc un bc wc rc hc : Nat) (xl : Nat → Int32) (xn : Nat → Nat) (uf : Nat → Int32) (fa fb : Nat → Nat) (k : Nat) (hxc : xc ≤ 8) (hxn : ∀ j, j < xc → xn j ≤ 8) (h8x : y8 xl) (hun : 1 ≤ un ∧ un ≤ 200) (h8u : y8 uf) (hk : k < xc)   : Ct l g y_Mo_distance c_Mo_distance 7 (some .int) { frames := 0, cells := 0, slots := 0, locals := 0 } [.ref m0, .int (iI ((k : Nat) : Int))] [(m0, .inr (10, [.int (iI ((0 : Nat) : Int)), .ref m1, .int (iI ((sn : Nat) : Int)), .int (iI ((ap : Nat) : Int)), .int (iI ((wr : Nat) : Int)), .ref m2, .ref m3, .ref m4, .int (iI ((xc : Nat) : Int)), .ref m5, .int (iI ((un : Nat) : Int)), .ref m6, .ref m7, .int (iI ((bc : Nat) : Int)), .ref m8, .int (iI ((wc : Nat) : Int)), .ref m9, .ref m10, .ref m11, .ref m12, .int (iI ((rc : Nat) : Int)), .ref m13, .ref m14, .ref m15, .ref m16, .ref m17, .int (iI ((hc : Nat) : Int)), .ref m18, .ref m19])), (m2, .inl ((g.2.1 4), 64, .inl (yF xl))), (m3, .inl ((g.2.1 0), 8, .inl (nF xn))), (m5, .inl ((g.2.1 4), 200, .inl (yF uf))), (m18, .inl ((g.2.1 0), 9, .inl (nF fa))), (m19, .inl ((g.2.1 0), 9, .inl (nF fb)))] (some (.int (iI ((rowD (eqF un uf xl k) un (xn k) : Nat) : Int)))) [(m0, .inr (10, [.int (iI ((0 : Nat) : Int)), .ref m1, .int (iI ((sn : Nat) : Int)), .int (iI ((ap : Nat) : Int)), .int (iI ((wr : Nat) : Int)), .ref m2, .ref m3, .ref m4, .int (iI ((xc : Nat) : Int)), .ref m5, .int (iI ((un : Nat) : Int)), .ref m6, .ref m7, .int (iI ((bc : Nat) : Int)), .ref m8, .int (iI ((wc : Nat) : Int)), .ref m9, .ref m10, .ref m11, .ref m12, .int (iI ((rc : Nat) : Int)), .ref m13, .ref m14, .ref m15, .ref m16, .ref m17, .int (iI ((hc : Nat) : Int)), .ref m18, .ref m19])), (m2, .inl ((g.2.1 4), 64, .inl (yF xl))), (m3, .inl ((g.2.1 0), 8, .inl (nF xn))), (m5, .inl ((g.2.1 4), 200, .inl (yF uf))), (m18, .inl ((g.2.1 0), 9, .inl (nF (chF fa (xn k) (rowD (eqF un uf xl k) un))))), (m19, .inl ((g.2.1 0), 9, .inl (nF (chF fb (xn k) (rowD (eqF un uf xl k) un)))))] := by
  refine ct_i (lv := [(0, .ref m0), (1, .int (iI ((k : Nat) : Int)))]) (by decide) rfl (Nat.le_of_ble_eq_true rfl) rfl ?_
  intro x hC hR
  have hx9 := hxn k hk
  refine z_aload_n hC d_Mo_distance_0 rfl 0 rfl ?_
  refine z_get hC hi_Mo 0 rfl rfl 6 (by decide) mw_741 (Or.inl rfl) rfl d_Mo_distance_1 ?_
  refine z_iload_n hC d_Mo_distance_4 rfl 1 rfl ?_
  refine z_ialdN hC 2 0 rfl rfl k rfl (by omega) (by decide) d_Mo_distance_5 ?_
  refine z_istore_n (lv' := [(2, .int (iI ((xn k : Nat) : Int))), (0, .ref m0), (1, .int (iI ((k : Nat) : Int)))]) hC d_Mo_distance_6 rfl (by decide) rfl ?_
  refine z_iconstN hC 0 d_Mo_distance_7 rfl ?_
  refine z_istore_n (lv' := [(3, .int (iI ((0 : Nat) : Int))), (2, .int (iI ((xn k : Nat) : Int))), (0, .ref m0), (1, .int (iI ((k : Nat) : Int)))]) hC d_Mo_distance_8 rfl (by decide) rfl ?_
  have L_9 : ∀ (fu : Nat) (j : Nat) (f1 : Nat → Nat), (j ≤ xn k + 1) → (∀ t, f1 t = if t < j then t else fa t) → xn k + 1 - j < fu → Z x (0, 0) [(m0, .inr (10, [.int (iI ((0 : Nat) : Int)), .ref m1, .int (iI ((sn : Nat) : Int)), .int (iI ((ap : Nat) : Int)), .int (iI ((wr : Nat) : Int)), .ref m2, .ref m3, .ref m4, .int (iI ((xc : Nat) : Int)), .ref m5, .int (iI ((un : Nat) : Int)), .ref m6, .ref m7, .int (iI ((bc : Nat) : Int)), .ref m8, .int (iI ((wc : Nat) : Int)), .ref m9, .ref m10, .ref m11, .ref m12, .int (iI ((rc : Nat) : Int)), .ref m13, .ref m14, .ref m15, .ref m16, .ref m17, .int (iI ((hc : Nat) : Int)), .ref m18, .ref m19])), (m2, .inl ((g.2.1 4), 64, .inl (yF xl))), (m3, .inl ((g.2.1 0), 8, .inl (nF xn))), (m5, .inl ((g.2.1 4), 200, .inl (yF uf))), (m18, .inl ((g.2.1 0), 9, .inl (nF f1))), (m19, .inl ((g.2.1 0), 9, .inl (nF fb)))] 9 [(3, .int (iI ((j : Nat) : Int))), (2, .int (iI ((xn k : Nat) : Int))), (0, .ref m0), (1, .int (iI ((k : Nat) : Int)))] [] := by
    intro fu
    induction fu with
    | zero => intro j f1 hj hm hmu; exact absurd hmu (Nat.not_lt_zero _)
    | succ fu ih_9 =>
      intro j f1 hj hm hmu
      refine z_iload_n hC d_Mo_distance_9 rfl 0 rfl ?_
      refine z_iload_n hC d_Mo_distance_10 rfl 1 rfl ?_
      refine z_icmp_gt (tgt := 27) hC ((j : Nat) : Int) ((xn k : Nat) : Int) d_Mo_distance_11 rfl (iI_t (by omega)) (iI_t (by omega)) (fun c_1 => ?_) (fun c_1 => ?_)
      · refine z_iconstN hC 1 d_Mo_distance_27 rfl ?_
        refine z_istore_n (lv' := [(3, .int (iI ((1 : Nat) : Int))), (2, .int (iI ((xn k : Nat) : Int))), (0, .ref m0), (1, .int (iI ((k : Nat) : Int)))]) hC d_Mo_distance_28 rfl (by decide) rfl ?_
        have L_29 : ∀ (fu : Nat) (i : Nat) (f1 f2 : Nat → Nat), (1 ≤ i ∧ i ≤ un + 1) → (∀ t, f1 t = chF fa (xn k) (rowD (eqF un uf xl k) (i - 1)) t) → (∀ t, f2 t = if i = 1 then fb t else chF fb (xn k) (rowD (eqF un uf xl k) (i - 1)) t) → un + 1 - i < fu → Z x (0, 0) [(m0, .inr (10, [.int (iI ((0 : Nat) : Int)), .ref m1, .int (iI ((sn : Nat) : Int)), .int (iI ((ap : Nat) : Int)), .int (iI ((wr : Nat) : Int)), .ref m2, .ref m3, .ref m4, .int (iI ((xc : Nat) : Int)), .ref m5, .int (iI ((un : Nat) : Int)), .ref m6, .ref m7, .int (iI ((bc : Nat) : Int)), .ref m8, .int (iI ((wc : Nat) : Int)), .ref m9, .ref m10, .ref m11, .ref m12, .int (iI ((rc : Nat) : Int)), .ref m13, .ref m14, .ref m15, .ref m16, .ref m17, .int (iI ((hc : Nat) : Int)), .ref m18, .ref m19])), (m2, .inl ((g.2.1 4), 64, .inl (yF xl))), (m3, .inl ((g.2.1 0), 8, .inl (nF xn))), (m5, .inl ((g.2.1 4), 200, .inl (yF uf))), (m18, .inl ((g.2.1 0), 9, .inl (nF f1))), (m19, .inl ((g.2.1 0), 9, .inl (nF f2)))] 29 [(3, .int (iI ((i : Nat) : Int))), (2, .int (iI ((xn k : Nat) : Int))), (0, .ref m0), (1, .int (iI ((k : Nat) : Int)))] [] := by
          intro fu
          induction fu with
          | zero => intro i f1 f2 hi hm1 hm2 hmu; exact absurd hmu (Nat.not_lt_zero _)
          | succ fu ih_29 =>
            intro i f1 f2 hi hm1 hm2 hmu
            refine z_iload_n hC d_Mo_distance_29 rfl 0 rfl ?_
            refine z_aload_n hC d_Mo_distance_30 rfl 2 rfl ?_
            refine z_get hC hi_Mo 0 rfl rfl 10 (by decide) mw_745 (Or.inl rfl) rfl d_Mo_distance_31 ?_
            refine z_icmp_gt (tgt := 199) hC ((i : Nat) : Int) ((un : Nat) : Int) d_Mo_distance_34 rfl (iI_t (by omega)) (iI_t (by omega)) (fun c_2 => ?_) (fun c_2 => ?_)
            · refine z_aload_n hC d_Mo_distance_199 rfl 2 rfl ?_
              refine z_get hC hi_Mo 0 rfl rfl 27 (by decide) mw_762 (Or.inl rfl) rfl d_Mo_distance_200 ?_
              refine z_iload_n hC d_Mo_distance_203 rfl 1 rfl ?_
              refine z_ialdN hC 4 0 rfl rfl (xn k) rfl (by omega) (by decide) d_Mo_distance_204 ?_
              exact Z.eq (by rw [show f1 = chF fa (xn k) (rowD (eqF un uf xl k) un) from funext (fun t => by rw [hm1, show i - 1 = un by omega]), show f2 = chF fb (xn k) (rowD (eqF un uf xl k) un) from funext (fun t => by rw [hm2, if_neg (by omega), show i - 1 = un by omega])]) rfl rfl (by rw [hm1, chF, if_pos (Nat.le_refl _), show i - 1 = un by omega]) (hR _ _ d_Mo_distance_205)
            · refine z_aload_n hC d_Mo_distance_37 rfl 2 rfl ?_
              refine z_get hC hi_Mo 0 rfl rfl 28 (by decide) mw_763 (Or.inl rfl) rfl d_Mo_distance_38 ?_
              refine z_iconstN hC 0 d_Mo_distance_41 rfl ?_
              refine z_iload_n hC d_Mo_distance_42 rfl 0 rfl ?_
              refine z_iastN (v := i) (w' := [(m0, .inr (10, [.int (iI ((0 : Nat) : Int)), .ref m1, .int (iI ((sn : Nat) : Int)), .int (iI ((ap : Nat) : Int)), .int (iI ((wr : Nat) : Int)), .ref m2, .ref m3, .ref m4, .int (iI ((xc : Nat) : Int)), .ref m5, .int (iI ((un : Nat) : Int)), .ref m6, .ref m7, .int (iI ((bc : Nat) : Int)), .ref m8, .int (iI ((wc : Nat) : Int)), .ref m9, .ref m10, .ref m11, .ref m12, .int (iI ((rc : Nat) : Int)), .ref m13, .ref m14, .ref m15, .ref m16, .ref m17, .int (iI ((hc : Nat) : Int)), .ref m18, .ref m19])), (m2, .inl ((g.2.1 4), 64, .inl (yF xl))), (m3, .inl ((g.2.1 0), 8, .inl (nF xn))), (m5, .inl ((g.2.1 4), 200, .inl (yF uf))), (m18, .inl ((g.2.1 0), 9, .inl (nF f1))), (m19, .inl ((g.2.1 0), 9, .inl (nF (up f2 0 i))))]) hC 5 0 rfl rfl 0 rfl (by omega) (by decide) rfl d_Mo_distance_43 ?_
              refine z_iconstN hC 1 d_Mo_distance_44 rfl ?_
              refine z_istore (lv' := [(4, .int (iI ((1 : Nat) : Int))), (3, .int (iI ((i : Nat) : Int))), (2, .int (iI ((xn k : Nat) : Int))), (0, .ref m0), (1, .int (iI ((k : Nat) : Int)))]) hC d_Mo_distance_45 (by decide) rfl ?_
              have L_47 : ∀ (fu : Nat) (j : Nat) (f3 : Nat → Nat), (1 ≤ j ∧ j ≤ xn k + 1) → (∀ t, f3 t = if t < j then rowD (eqF un uf xl k) i t else f2 t) → xn k + 1 - j < fu → Z x (0, 0) [(m0, .inr (10, [.int (iI ((0 : Nat) : Int)), .ref m1, .int (iI ((sn : Nat) : Int)), .int (iI ((ap : Nat) : Int)), .int (iI ((wr : Nat) : Int)), .ref m2, .ref m3, .ref m4, .int (iI ((xc : Nat) : Int)), .ref m5, .int (iI ((un : Nat) : Int)), .ref m6, .ref m7, .int (iI ((bc : Nat) : Int)), .ref m8, .int (iI ((wc : Nat) : Int)), .ref m9, .ref m10, .ref m11, .ref m12, .int (iI ((rc : Nat) : Int)), .ref m13, .ref m14, .ref m15, .ref m16, .ref m17, .int (iI ((hc : Nat) : Int)), .ref m18, .ref m19])), (m2, .inl ((g.2.1 4), 64, .inl (yF xl))), (m3, .inl ((g.2.1 0), 8, .inl (nF xn))), (m5, .inl ((g.2.1 4), 200, .inl (yF uf))), (m18, .inl ((g.2.1 0), 9, .inl (nF f1))), (m19, .inl ((g.2.1 0), 9, .inl (nF f3)))] 47 [(4, .int (iI ((j : Nat) : Int))), (3, .int (iI ((i : Nat) : Int))), (2, .int (iI ((xn k : Nat) : Int))), (0, .ref m0), (1, .int (iI ((k : Nat) : Int)))] [] := by
                intro fu
                induction fu with
                | zero => intro j f3 hj hm3 hmu; exact absurd hmu (Nat.not_lt_zero _)
                | succ fu ih_47 =>
                  intro j f3 hj hm3 hmu
                  refine z_iload hC d_Mo_distance_47 0 rfl ?_
                  refine z_iload_n hC d_Mo_distance_49 rfl 2 rfl ?_
                  refine z_icmp_gt (tgt := 164) hC ((j : Nat) : Int) ((xn k : Nat) : Int) d_Mo_distance_50 rfl (iI_t (by omega)) (iI_t (by omega)) (fun c_3 => ?_) (fun c_3 => ?_)
                  · refine z_iconstN hC 0 d_Mo_distance_164 rfl ?_
                    refine z_istore (lv' := [(4, .int (iI ((0 : Nat) : Int))), (3, .int (iI ((i : Nat) : Int))), (2, .int (iI ((xn k : Nat) : Int))), (0, .ref m0), (1, .int (iI ((k : Nat) : Int)))]) hC d_Mo_distance_165 (by decide) rfl ?_
                    have L_167 : ∀ (fu : Nat) (j2 : Nat) (f4 : Nat → Nat), (j2 ≤ xn k + 1) → (∀ t, f4 t = if t < j2 then f3 t else f1 t) → xn k + 1 - j2 < fu → Z x (0, 0) [(m0, .inr (10, [.int (iI ((0 : Nat) : Int)), .ref m1, .int (iI ((sn : Nat) : Int)), .int (iI ((ap : Nat) : Int)), .int (iI ((wr : Nat) : Int)), .ref m2, .ref m3, .ref m4, .int (iI ((xc : Nat) : Int)), .ref m5, .int (iI ((un : Nat) : Int)), .ref m6, .ref m7, .int (iI ((bc : Nat) : Int)), .ref m8, .int (iI ((wc : Nat) : Int)), .ref m9, .ref m10, .ref m11, .ref m12, .int (iI ((rc : Nat) : Int)), .ref m13, .ref m14, .ref m15, .ref m16, .ref m17, .int (iI ((hc : Nat) : Int)), .ref m18, .ref m19])), (m2, .inl ((g.2.1 4), 64, .inl (yF xl))), (m3, .inl ((g.2.1 0), 8, .inl (nF xn))), (m5, .inl ((g.2.1 4), 200, .inl (yF uf))), (m18, .inl ((g.2.1 0), 9, .inl (nF f4))), (m19, .inl ((g.2.1 0), 9, .inl (nF f3)))] 167 [(4, .int (iI ((j2 : Nat) : Int))), (3, .int (iI ((i : Nat) : Int))), (2, .int (iI ((xn k : Nat) : Int))), (0, .ref m0), (1, .int (iI ((k : Nat) : Int)))] [] := by
                      intro fu
                      induction fu with
                      | zero => intro j2 f4 hj2 hm4 hmu; exact absurd hmu (Nat.not_lt_zero _)
                      | succ fu ih_167 =>
                        intro j2 f4 hj2 hm4 hmu
                        refine z_iload hC d_Mo_distance_167 0 rfl ?_
                        refine z_iload_n hC d_Mo_distance_169 rfl 2 rfl ?_
                        refine z_icmp_gt (tgt := 193) hC ((j2 : Nat) : Int) ((xn k : Nat) : Int) d_Mo_distance_170 rfl (iI_t (by omega)) (iI_t (by omega)) (fun c_4 => ?_) (fun c_4 => ?_)
                        · refine z_iincN (lv' := [(3, .int (iI ((i + 1 : Nat) : Int))), (4, .int (iI ((j2 : Nat) : Int))), (2, .int (iI ((xn k : Nat) : Int))), (0, .ref m0), (1, .int (iI ((k : Nat) : Int)))]) hC 1 d_Mo_distance_193 rfl 1 rfl (by decide) rfl ?_
                          refine z_goto (tgt := 29) hC d_Mo_distance_196 rfl ?_
                          exact Zloc [0, 2, 3, 4] rfl (Z.eq (w' := [(m0, .inr (10, [.int (iI ((0 : Nat) : Int)), .ref m1, .int (iI ((sn : Nat) : Int)), .int (iI ((ap : Nat) : Int)), .int (iI ((wr : Nat) : Int)), .ref m2, .ref m3, .ref m4, .int (iI ((xc : Nat) : Int)), .ref m5, .int (iI ((un : Nat) : Int)), .ref m6, .ref m7, .int (iI ((bc : Nat) : Int)), .ref m8, .int (iI ((wc : Nat) : Int)), .ref m9, .ref m10, .ref m11, .ref m12, .int (iI ((rc : Nat) : Int)), .ref m13, .ref m14, .ref m15, .ref m16, .ref m17, .int (iI ((hc : Nat) : Int)), .ref m18, .ref m19])), (m2, .inl ((g.2.1 4), 64, .inl (yF xl))), (m3, .inl ((g.2.1 0), 8, .inl (nF xn))), (m5, .inl ((g.2.1 4), 200, .inl (yF uf))), (m18, .inl ((g.2.1 0), 9, .inl (nF f4))), (m19, .inl ((g.2.1 0), 9, .inl (nF f3)))]) rfl rfl rfl rfl (ih_29 (i + 1) f4 f3 (by omega) (ds_4 (by omega) (by omega) (by omega) hm1 hm3 hm4) (ds_5 (by omega) hm2 hm3 (by omega)) (by omega)))
                        · refine z_aload_n hC d_Mo_distance_173 rfl 3 rfl ?_
                          refine z_get hC hi_Mo 0 rfl rfl 27 (by decide) mw_762 (Or.inl rfl) rfl d_Mo_distance_174 ?_
                          refine z_iload hC d_Mo_distance_177 0 rfl ?_
                          refine z_aload_n hC d_Mo_distance_179 rfl 3 rfl ?_
                          refine z_get hC hi_Mo 0 rfl rfl 28 (by decide) mw_763 (Or.inl rfl) rfl d_Mo_distance_180 ?_
                          refine z_iload hC d_Mo_distance_183 0 rfl ?_
                          refine z_ialdN hC 5 0 rfl rfl j2 rfl (by omega) (by decide) d_Mo_distance_185 ?_
                          refine z_iastN (v := f3 j2) (w' := [(m0, .inr (10, [.int (iI ((0 : Nat) : Int)), .ref m1, .int (iI ((sn : Nat) : Int)), .int (iI ((ap : Nat) : Int)), .int (iI ((wr : Nat) : Int)), .ref m2, .ref m3, .ref m4, .int (iI ((xc : Nat) : Int)), .ref m5, .int (iI ((un : Nat) : Int)), .ref m6, .ref m7, .int (iI ((bc : Nat) : Int)), .ref m8, .int (iI ((wc : Nat) : Int)), .ref m9, .ref m10, .ref m11, .ref m12, .int (iI ((rc : Nat) : Int)), .ref m13, .ref m14, .ref m15, .ref m16, .ref m17, .int (iI ((hc : Nat) : Int)), .ref m18, .ref m19])), (m2, .inl ((g.2.1 4), 64, .inl (yF xl))), (m3, .inl ((g.2.1 0), 8, .inl (nF xn))), (m5, .inl ((g.2.1 4), 200, .inl (yF uf))), (m18, .inl ((g.2.1 0), 9, .inl (nF (up f4 j2 (f3 j2))))), (m19, .inl ((g.2.1 0), 9, .inl (nF f3)))]) hC 4 0 rfl rfl j2 rfl (by omega) (by decide) rfl d_Mo_distance_186 ?_
                          refine z_iincN (lv' := [(4, .int (iI ((j2 + 1 : Nat) : Int))), (3, .int (iI ((i : Nat) : Int))), (2, .int (iI ((xn k : Nat) : Int))), (0, .ref m0), (1, .int (iI ((k : Nat) : Int)))]) hC 1 d_Mo_distance_187 rfl 0 rfl (by decide) rfl ?_
                          refine z_goto (tgt := 167) hC d_Mo_distance_190 rfl ?_
                          exact Zloc [0, 1, 2, 3, 4] rfl (Z.eq (w' := [(m0, .inr (10, [.int (iI ((0 : Nat) : Int)), .ref m1, .int (iI ((sn : Nat) : Int)), .int (iI ((ap : Nat) : Int)), .int (iI ((wr : Nat) : Int)), .ref m2, .ref m3, .ref m4, .int (iI ((xc : Nat) : Int)), .ref m5, .int (iI ((un : Nat) : Int)), .ref m6, .ref m7, .int (iI ((bc : Nat) : Int)), .ref m8, .int (iI ((wc : Nat) : Int)), .ref m9, .ref m10, .ref m11, .ref m12, .int (iI ((rc : Nat) : Int)), .ref m13, .ref m14, .ref m15, .ref m16, .ref m17, .int (iI ((hc : Nat) : Int)), .ref m18, .ref m19])), (m2, .inl ((g.2.1 4), 64, .inl (yF xl))), (m3, .inl ((g.2.1 0), 8, .inl (nF xn))), (m5, .inl ((g.2.1 4), 200, .inl (yF uf))), (m18, .inl ((g.2.1 0), 9, .inl (nF (up f4 j2 (f3 j2))))), (m19, .inl ((g.2.1 0), 9, .inl (nF f3)))]) rfl rfl rfl rfl (ih_167 (j2 + 1) (up f4 j2 (f3 j2)) (by omega) (ds_3 hm4) (by omega)))
                    exact Zloc [0, 1, 2, 3, 4] rfl (Z.eq (w' := [(m0, .inr (10, [.int (iI ((0 : Nat) : Int)), .ref m1, .int (iI ((sn : Nat) : Int)), .int (iI ((ap : Nat) : Int)), .int (iI ((wr : Nat) : Int)), .ref m2, .ref m3, .ref m4, .int (iI ((xc : Nat) : Int)), .ref m5, .int (iI ((un : Nat) : Int)), .ref m6, .ref m7, .int (iI ((bc : Nat) : Int)), .ref m8, .int (iI ((wc : Nat) : Int)), .ref m9, .ref m10, .ref m11, .ref m12, .int (iI ((rc : Nat) : Int)), .ref m13, .ref m14, .ref m15, .ref m16, .ref m17, .int (iI ((hc : Nat) : Int)), .ref m18, .ref m19])), (m2, .inl ((g.2.1 4), 64, .inl (yF xl))), (m3, .inl ((g.2.1 0), 8, .inl (nF xn))), (m5, .inl ((g.2.1 4), 200, .inl (yF uf))), (m18, .inl ((g.2.1 0), 9, .inl (nF f1))), (m19, .inl ((g.2.1 0), 9, .inl (nF f3)))]) rfl rfl rfl rfl (L_167 _ 0 f1 (by omega) (fun t => by rw [if_neg (by omega)]) (Nat.lt_succ_self _)))
                  · have b1 : f1 j ≤ 300 := by rw [hm1, chF, if_pos (by omega)]; have := rowD_le (eqF un uf xl k) (i - 1) j; omega
                    have b2 : f3 (j - 1) ≤ 300 := by rw [hm3, if_pos (by omega)]; have := rowD_le (eqF un uf xl k) i (j - 1); omega
                    have b3 : f1 (j - 1) ≤ 300 := by rw [hm1, chF, if_pos (by omega)]; have := rowD_le (eqF un uf xl k) (i - 1) (j - 1); omega
                    refine z_aload_n hC d_Mo_distance_53 rfl 3 rfl ?_
                    refine z_get hC hi_Mo 0 rfl rfl 27 (by decide) mw_762 (Or.inl rfl) rfl d_Mo_distance_54 ?_
                    refine z_iload hC d_Mo_distance_57 0 rfl ?_
                    refine z_iconstN hC 1 d_Mo_distance_59 rfl ?_
                    refine z_isubN hC d_Mo_distance_60 (by omega) ?_
                    refine z_ialdN hC 4 0 rfl rfl (j - 1) rfl (by omega) (by decide) d_Mo_distance_61 ?_
                    refine z_aload_n hC d_Mo_distance_62 rfl 3 rfl ?_
                    refine z_get hC hi_Mo 0 rfl rfl 9 (by decide) mw_744 (Or.inl rfl) rfl d_Mo_distance_63 ?_
                    refine z_iload_n hC d_Mo_distance_66 rfl 1 rfl ?_
                    refine z_iconstN hC 1 d_Mo_distance_67 rfl ?_
                    refine z_isubN hC d_Mo_distance_68 (by omega) ?_
                    refine z_yald hC 3 4 rfl rfl (i - 1) rfl (by omega) (by decide) d_Mo_distance_69 ?_
                    refine z_aload_n hC d_Mo_distance_70 rfl 3 rfl ?_
                    refine z_get hC hi_Mo 0 rfl rfl 5 (by decide) mw_740 (Or.inl rfl) rfl d_Mo_distance_71 ?_
                    refine z_bipush (a := ((8 : Nat) : Int)) hC d_Mo_distance_74 (by decide) ?_
                    refine z_iload_n hC d_Mo_distance_76 rfl 4 rfl ?_
                    refine z_imulN hC d_Mo_distance_77 ?_
                    refine z_iload hC d_Mo_distance_78 0 rfl ?_
                    refine z_iaddN hC d_Mo_distance_80 ?_
                    refine z_iconstN hC 1 d_Mo_distance_81 rfl ?_
                    refine z_isubN hC d_Mo_distance_82 (by omega) ?_
                    refine z_yald hC 1 4 rfl rfl (((8 * k) + j) - 1) rfl (by omega) (by decide) d_Mo_distance_83 ?_
                    refine z_icmp_neR (tgt := 91) hC d_Mo_distance_84 rfl (fun c_5 => ?_) (fun c_5 => ?_)
                    · have hq9 : ¬ (eqF un uf xl k) (i - 1) (j - 1) = true := fun z => c_5 ((eq_b h8u h8x (by omega) (by omega)).mpr z)
                      refine z_iconstN hC 1 d_Mo_distance_91 rfl ?_
                      refine z_iaddN hC d_Mo_distance_92 ?_
                      refine z_istore (lv' := [(5, .int (iI (((f1 (j - 1)) + 1 : Nat) : Int))), (4, .int (iI ((j : Nat) : Int))), (3, .int (iI ((i : Nat) : Int))), (2, .int (iI ((xn k : Nat) : Int))), (0, .ref m0), (1, .int (iI ((k : Nat) : Int)))]) hC d_Mo_distance_93 (by decide) rfl ?_
                      refine z_aload_n hC d_Mo_distance_95 rfl 4 rfl ?_
                      refine z_get hC hi_Mo 0 rfl rfl 27 (by decide) mw_762 (Or.inl rfl) rfl d_Mo_distance_96 ?_
                      refine z_iload hC d_Mo_distance_99 1 rfl ?_
                      refine z_ialdN hC 4 0 rfl rfl j rfl (by omega) (by decide) d_Mo_distance_101 ?_
                      refine z_aload_n hC d_Mo_distance_102 rfl 4 rfl ?_
                      refine z_get hC hi_Mo 0 rfl rfl 28 (by decide) mw_763 (Or.inl rfl) rfl d_Mo_distance_103 ?_
                      refine z_iload hC d_Mo_distance_106 1 rfl ?_
                      refine z_iconstN hC 1 d_Mo_distance_108 rfl ?_
                      refine z_isubN hC d_Mo_distance_109 (by omega) ?_
                      refine z_ialdN hC 5 0 rfl rfl (j - 1) rfl (by omega) (by decide) d_Mo_distance_110 ?_
                      refine z_icmp_ge (tgt := 124) hC ((f1 j : Nat) : Int) ((f3 (j - 1) : Nat) : Int) d_Mo_distance_111 rfl (iI_t (by omega)) (iI_t (by omega)) (fun c_6 => ?_) (fun c_6 => ?_)
                      · refine z_aload_n hC d_Mo_distance_124 rfl 4 rfl ?_
                        refine z_get hC hi_Mo 0 rfl rfl 28 (by decide) mw_763 (Or.inl rfl) rfl d_Mo_distance_125 ?_
                        refine z_iload hC d_Mo_distance_128 1 rfl ?_
                        refine z_iconstN hC 1 d_Mo_distance_130 rfl ?_
                        refine z_isubN hC d_Mo_distance_131 (by omega) ?_
                        refine z_ialdN hC 5 0 rfl rfl (j - 1) rfl (by omega) (by decide) d_Mo_distance_132 ?_
                        refine z_iconstN hC 1 d_Mo_distance_133 rfl ?_
                        refine z_iaddN hC d_Mo_distance_134 ?_
                        refine z_istore (lv' := [(6, .int (iI (((f3 (j - 1)) + 1 : Nat) : Int))), (5, .int (iI (((f1 (j - 1)) + 1 : Nat) : Int))), (4, .int (iI ((j : Nat) : Int))), (3, .int (iI ((i : Nat) : Int))), (2, .int (iI ((xn k : Nat) : Int))), (0, .ref m0), (1, .int (iI ((k : Nat) : Int)))]) hC d_Mo_distance_135 (by decide) rfl ?_
                        refine z_aload_n hC d_Mo_distance_137 rfl 5 rfl ?_
                        refine z_get hC hi_Mo 0 rfl rfl 28 (by decide) mw_763 (Or.inl rfl) rfl d_Mo_distance_138 ?_
                        refine z_iload hC d_Mo_distance_141 2 rfl ?_
                        refine z_iload hC d_Mo_distance_143 1 rfl ?_
                        refine z_iload hC d_Mo_distance_145 0 rfl ?_
                        refine z_icmp_ge (tgt := 155) hC (((f1 (j - 1)) + 1 : Nat) : Int) (((f3 (j - 1)) + 1 : Nat) : Int) d_Mo_distance_147 rfl (iI_t (by omega)) (iI_t (by omega)) (fun c_7 => ?_) (fun c_7 => ?_)
                        · refine z_iload hC d_Mo_distance_155 0 rfl ?_
                          refine z_iastN (v := (f3 (j - 1)) + 1) (w' := [(m0, .inr (10, [.int (iI ((0 : Nat) : Int)), .ref m1, .int (iI ((sn : Nat) : Int)), .int (iI ((ap : Nat) : Int)), .int (iI ((wr : Nat) : Int)), .ref m2, .ref m3, .ref m4, .int (iI ((xc : Nat) : Int)), .ref m5, .int (iI ((un : Nat) : Int)), .ref m6, .ref m7, .int (iI ((bc : Nat) : Int)), .ref m8, .int (iI ((wc : Nat) : Int)), .ref m9, .ref m10, .ref m11, .ref m12, .int (iI ((rc : Nat) : Int)), .ref m13, .ref m14, .ref m15, .ref m16, .ref m17, .int (iI ((hc : Nat) : Int)), .ref m18, .ref m19])), (m2, .inl ((g.2.1 4), 64, .inl (yF xl))), (m3, .inl ((g.2.1 0), 8, .inl (nF xn))), (m5, .inl ((g.2.1 4), 200, .inl (yF uf))), (m18, .inl ((g.2.1 0), 9, .inl (nF f1))), (m19, .inl ((g.2.1 0), 9, .inl (nF (up f3 j ((f3 (j - 1)) + 1)))))]) hC 5 0 rfl rfl j rfl (by omega) (by decide) rfl d_Mo_distance_157 ?_
                          refine z_iincN (lv' := [(4, .int (iI ((j + 1 : Nat) : Int))), (6, .int (iI (((f3 (j - 1)) + 1 : Nat) : Int))), (5, .int (iI (((f1 (j - 1)) + 1 : Nat) : Int))), (3, .int (iI ((i : Nat) : Int))), (2, .int (iI ((xn k : Nat) : Int))), (0, .ref m0), (1, .int (iI ((k : Nat) : Int)))]) hC 1 d_Mo_distance_158 rfl 2 rfl (by decide) rfl ?_
                          refine z_goto (tgt := 47) hC d_Mo_distance_161 rfl ?_
                          exact Zloc [0, 3, 4, 5, 6] rfl (Z.eq (w' := [(m0, .inr (10, [.int (iI ((0 : Nat) : Int)), .ref m1, .int (iI ((sn : Nat) : Int)), .int (iI ((ap : Nat) : Int)), .int (iI ((wr : Nat) : Int)), .ref m2, .ref m3, .ref m4, .int (iI ((xc : Nat) : Int)), .ref m5, .int (iI ((un : Nat) : Int)), .ref m6, .ref m7, .int (iI ((bc : Nat) : Int)), .ref m8, .int (iI ((wc : Nat) : Int)), .ref m9, .ref m10, .ref m11, .ref m12, .int (iI ((rc : Nat) : Int)), .ref m13, .ref m14, .ref m15, .ref m16, .ref m17, .int (iI ((hc : Nat) : Int)), .ref m18, .ref m19])), (m2, .inl ((g.2.1 4), 64, .inl (yF xl))), (m3, .inl ((g.2.1 0), 8, .inl (nF xn))), (m5, .inl ((g.2.1 4), 200, .inl (yF uf))), (m18, .inl ((g.2.1 0), 9, .inl (nF f1))), (m19, .inl ((g.2.1 0), 9, .inl (nF (up f3 j ((f3 (j - 1)) + 1)))))]) rfl rfl rfl rfl (ih_47 (j + 1) (up f3 j ((f3 (j - 1)) + 1)) (by omega) (ds_2 (n := xn k) (by omega) (by omega) (by omega) hm1 hm3 (by first | (rw [if_pos (by assumption)]; omega) | (rw [if_neg (by assumption)]; omega))) (by omega)))
                        · refine z_iload hC d_Mo_distance_150 1 rfl ?_
                          refine z_goto (tgt := 157) hC d_Mo_distance_152 rfl ?_
                          refine z_iastN (v := (f1 (j - 1)) + 1) (w' := [(m0, .inr (10, [.int (iI ((0 : Nat) : Int)), .ref m1, .int (iI ((sn : Nat) : Int)), .int (iI ((ap : Nat) : Int)), .int (iI ((wr : Nat) : Int)), .ref m2, .ref m3, .ref m4, .int (iI ((xc : Nat) : Int)), .ref m5, .int (iI ((un : Nat) : Int)), .ref m6, .ref m7, .int (iI ((bc : Nat) : Int)), .ref m8, .int (iI ((wc : Nat) : Int)), .ref m9, .ref m10, .ref m11, .ref m12, .int (iI ((rc : Nat) : Int)), .ref m13, .ref m14, .ref m15, .ref m16, .ref m17, .int (iI ((hc : Nat) : Int)), .ref m18, .ref m19])), (m2, .inl ((g.2.1 4), 64, .inl (yF xl))), (m3, .inl ((g.2.1 0), 8, .inl (nF xn))), (m5, .inl ((g.2.1 4), 200, .inl (yF uf))), (m18, .inl ((g.2.1 0), 9, .inl (nF f1))), (m19, .inl ((g.2.1 0), 9, .inl (nF (up f3 j ((f1 (j - 1)) + 1)))))]) hC 5 0 rfl rfl j rfl (by omega) (by decide) rfl d_Mo_distance_157 ?_
                          refine z_iincN (lv' := [(4, .int (iI ((j + 1 : Nat) : Int))), (6, .int (iI (((f3 (j - 1)) + 1 : Nat) : Int))), (5, .int (iI (((f1 (j - 1)) + 1 : Nat) : Int))), (3, .int (iI ((i : Nat) : Int))), (2, .int (iI ((xn k : Nat) : Int))), (0, .ref m0), (1, .int (iI ((k : Nat) : Int)))]) hC 1 d_Mo_distance_158 rfl 2 rfl (by decide) rfl ?_
                          refine z_goto (tgt := 47) hC d_Mo_distance_161 rfl ?_
                          exact Zloc [0, 3, 4, 5, 6] rfl (Z.eq (w' := [(m0, .inr (10, [.int (iI ((0 : Nat) : Int)), .ref m1, .int (iI ((sn : Nat) : Int)), .int (iI ((ap : Nat) : Int)), .int (iI ((wr : Nat) : Int)), .ref m2, .ref m3, .ref m4, .int (iI ((xc : Nat) : Int)), .ref m5, .int (iI ((un : Nat) : Int)), .ref m6, .ref m7, .int (iI ((bc : Nat) : Int)), .ref m8, .int (iI ((wc : Nat) : Int)), .ref m9, .ref m10, .ref m11, .ref m12, .int (iI ((rc : Nat) : Int)), .ref m13, .ref m14, .ref m15, .ref m16, .ref m17, .int (iI ((hc : Nat) : Int)), .ref m18, .ref m19])), (m2, .inl ((g.2.1 4), 64, .inl (yF xl))), (m3, .inl ((g.2.1 0), 8, .inl (nF xn))), (m5, .inl ((g.2.1 4), 200, .inl (yF uf))), (m18, .inl ((g.2.1 0), 9, .inl (nF f1))), (m19, .inl ((g.2.1 0), 9, .inl (nF (up f3 j ((f1 (j - 1)) + 1)))))]) rfl rfl rfl rfl (ih_47 (j + 1) (up f3 j ((f1 (j - 1)) + 1)) (by omega) (ds_2 (n := xn k) (by omega) (by omega) (by omega) hm1 hm3 (by first | (rw [if_pos (by assumption)]; omega) | (rw [if_neg (by assumption)]; omega))) (by omega)))
                      · refine z_aload_n hC d_Mo_distance_114 rfl 4 rfl ?_
                        refine z_get hC hi_Mo 0 rfl rfl 27 (by decide) mw_762 (Or.inl rfl) rfl d_Mo_distance_115 ?_
                        refine z_iload hC d_Mo_distance_118 1 rfl ?_
                        refine z_ialdN hC 4 0 rfl rfl j rfl (by omega) (by decide) d_Mo_distance_120 ?_
                        refine z_goto (tgt := 133) hC d_Mo_distance_121 rfl ?_
                        refine z_iconstN hC 1 d_Mo_distance_133 rfl ?_
                        refine z_iaddN hC d_Mo_distance_134 ?_
                        refine z_istore (lv' := [(6, .int (iI (((f1 j) + 1 : Nat) : Int))), (5, .int (iI (((f1 (j - 1)) + 1 : Nat) : Int))), (4, .int (iI ((j : Nat) : Int))), (3, .int (iI ((i : Nat) : Int))), (2, .int (iI ((xn k : Nat) : Int))), (0, .ref m0), (1, .int (iI ((k : Nat) : Int)))]) hC d_Mo_distance_135 (by decide) rfl ?_
                        refine z_aload_n hC d_Mo_distance_137 rfl 5 rfl ?_
                        refine z_get hC hi_Mo 0 rfl rfl 28 (by decide) mw_763 (Or.inl rfl) rfl d_Mo_distance_138 ?_
                        refine z_iload hC d_Mo_distance_141 2 rfl ?_
                        refine z_iload hC d_Mo_distance_143 1 rfl ?_
                        refine z_iload hC d_Mo_distance_145 0 rfl ?_
                        refine z_icmp_ge (tgt := 155) hC (((f1 (j - 1)) + 1 : Nat) : Int) (((f1 j) + 1 : Nat) : Int) d_Mo_distance_147 rfl (iI_t (by omega)) (iI_t (by omega)) (fun c_8 => ?_) (fun c_8 => ?_)
                        · refine z_iload hC d_Mo_distance_155 0 rfl ?_
                          refine z_iastN (v := (f1 j) + 1) (w' := [(m0, .inr (10, [.int (iI ((0 : Nat) : Int)), .ref m1, .int (iI ((sn : Nat) : Int)), .int (iI ((ap : Nat) : Int)), .int (iI ((wr : Nat) : Int)), .ref m2, .ref m3, .ref m4, .int (iI ((xc : Nat) : Int)), .ref m5, .int (iI ((un : Nat) : Int)), .ref m6, .ref m7, .int (iI ((bc : Nat) : Int)), .ref m8, .int (iI ((wc : Nat) : Int)), .ref m9, .ref m10, .ref m11, .ref m12, .int (iI ((rc : Nat) : Int)), .ref m13, .ref m14, .ref m15, .ref m16, .ref m17, .int (iI ((hc : Nat) : Int)), .ref m18, .ref m19])), (m2, .inl ((g.2.1 4), 64, .inl (yF xl))), (m3, .inl ((g.2.1 0), 8, .inl (nF xn))), (m5, .inl ((g.2.1 4), 200, .inl (yF uf))), (m18, .inl ((g.2.1 0), 9, .inl (nF f1))), (m19, .inl ((g.2.1 0), 9, .inl (nF (up f3 j ((f1 j) + 1)))))]) hC 5 0 rfl rfl j rfl (by omega) (by decide) rfl d_Mo_distance_157 ?_
                          refine z_iincN (lv' := [(4, .int (iI ((j + 1 : Nat) : Int))), (6, .int (iI (((f1 j) + 1 : Nat) : Int))), (5, .int (iI (((f1 (j - 1)) + 1 : Nat) : Int))), (3, .int (iI ((i : Nat) : Int))), (2, .int (iI ((xn k : Nat) : Int))), (0, .ref m0), (1, .int (iI ((k : Nat) : Int)))]) hC 1 d_Mo_distance_158 rfl 2 rfl (by decide) rfl ?_
                          refine z_goto (tgt := 47) hC d_Mo_distance_161 rfl ?_
                          exact Zloc [0, 3, 4, 5, 6] rfl (Z.eq (w' := [(m0, .inr (10, [.int (iI ((0 : Nat) : Int)), .ref m1, .int (iI ((sn : Nat) : Int)), .int (iI ((ap : Nat) : Int)), .int (iI ((wr : Nat) : Int)), .ref m2, .ref m3, .ref m4, .int (iI ((xc : Nat) : Int)), .ref m5, .int (iI ((un : Nat) : Int)), .ref m6, .ref m7, .int (iI ((bc : Nat) : Int)), .ref m8, .int (iI ((wc : Nat) : Int)), .ref m9, .ref m10, .ref m11, .ref m12, .int (iI ((rc : Nat) : Int)), .ref m13, .ref m14, .ref m15, .ref m16, .ref m17, .int (iI ((hc : Nat) : Int)), .ref m18, .ref m19])), (m2, .inl ((g.2.1 4), 64, .inl (yF xl))), (m3, .inl ((g.2.1 0), 8, .inl (nF xn))), (m5, .inl ((g.2.1 4), 200, .inl (yF uf))), (m18, .inl ((g.2.1 0), 9, .inl (nF f1))), (m19, .inl ((g.2.1 0), 9, .inl (nF (up f3 j ((f1 j) + 1)))))]) rfl rfl rfl rfl (ih_47 (j + 1) (up f3 j ((f1 j) + 1)) (by omega) (ds_2 (n := xn k) (by omega) (by omega) (by omega) hm1 hm3 (by first | (rw [if_pos (by assumption)]; omega) | (rw [if_neg (by assumption)]; omega))) (by omega)))
                        · refine z_iload hC d_Mo_distance_150 1 rfl ?_
                          refine z_goto (tgt := 157) hC d_Mo_distance_152 rfl ?_
                          refine z_iastN (v := (f1 (j - 1)) + 1) (w' := [(m0, .inr (10, [.int (iI ((0 : Nat) : Int)), .ref m1, .int (iI ((sn : Nat) : Int)), .int (iI ((ap : Nat) : Int)), .int (iI ((wr : Nat) : Int)), .ref m2, .ref m3, .ref m4, .int (iI ((xc : Nat) : Int)), .ref m5, .int (iI ((un : Nat) : Int)), .ref m6, .ref m7, .int (iI ((bc : Nat) : Int)), .ref m8, .int (iI ((wc : Nat) : Int)), .ref m9, .ref m10, .ref m11, .ref m12, .int (iI ((rc : Nat) : Int)), .ref m13, .ref m14, .ref m15, .ref m16, .ref m17, .int (iI ((hc : Nat) : Int)), .ref m18, .ref m19])), (m2, .inl ((g.2.1 4), 64, .inl (yF xl))), (m3, .inl ((g.2.1 0), 8, .inl (nF xn))), (m5, .inl ((g.2.1 4), 200, .inl (yF uf))), (m18, .inl ((g.2.1 0), 9, .inl (nF f1))), (m19, .inl ((g.2.1 0), 9, .inl (nF (up f3 j ((f1 (j - 1)) + 1)))))]) hC 5 0 rfl rfl j rfl (by omega) (by decide) rfl d_Mo_distance_157 ?_
                          refine z_iincN (lv' := [(4, .int (iI ((j + 1 : Nat) : Int))), (6, .int (iI (((f1 j) + 1 : Nat) : Int))), (5, .int (iI (((f1 (j - 1)) + 1 : Nat) : Int))), (3, .int (iI ((i : Nat) : Int))), (2, .int (iI ((xn k : Nat) : Int))), (0, .ref m0), (1, .int (iI ((k : Nat) : Int)))]) hC 1 d_Mo_distance_158 rfl 2 rfl (by decide) rfl ?_
                          refine z_goto (tgt := 47) hC d_Mo_distance_161 rfl ?_
                          exact Zloc [0, 3, 4, 5, 6] rfl (Z.eq (w' := [(m0, .inr (10, [.int (iI ((0 : Nat) : Int)), .ref m1, .int (iI ((sn : Nat) : Int)), .int (iI ((ap : Nat) : Int)), .int (iI ((wr : Nat) : Int)), .ref m2, .ref m3, .ref m4, .int (iI ((xc : Nat) : Int)), .ref m5, .int (iI ((un : Nat) : Int)), .ref m6, .ref m7, .int (iI ((bc : Nat) : Int)), .ref m8, .int (iI ((wc : Nat) : Int)), .ref m9, .ref m10, .ref m11, .ref m12, .int (iI ((rc : Nat) : Int)), .ref m13, .ref m14, .ref m15, .ref m16, .ref m17, .int (iI ((hc : Nat) : Int)), .ref m18, .ref m19])), (m2, .inl ((g.2.1 4), 64, .inl (yF xl))), (m3, .inl ((g.2.1 0), 8, .inl (nF xn))), (m5, .inl ((g.2.1 4), 200, .inl (yF uf))), (m18, .inl ((g.2.1 0), 9, .inl (nF f1))), (m19, .inl ((g.2.1 0), 9, .inl (nF (up f3 j ((f1 (j - 1)) + 1)))))]) rfl rfl rfl rfl (ih_47 (j + 1) (up f3 j ((f1 (j - 1)) + 1)) (by omega) (ds_2 (n := xn k) (by omega) (by omega) (by omega) hm1 hm3 (by first | (rw [if_pos (by assumption)]; omega) | (rw [if_neg (by assumption)]; omega))) (by omega)))
                    · have hq9 : (eqF un uf xl k) (i - 1) (j - 1) = true := (eq_b h8u h8x (by omega) (by omega)).mp c_5
                      refine z_iconstN hC 0 d_Mo_distance_87 rfl ?_
                      refine z_goto (tgt := 92) hC d_Mo_distance_88 rfl ?_
                      refine z_iaddN hC d_Mo_distance_92 ?_
                      refine z_istore (lv' := [(5, .int (iI (((f1 (j - 1)) + 0 : Nat) : Int))), (4, .int (iI ((j : Nat) : Int))), (3, .int (iI ((i : Nat) : Int))), (2, .int (iI ((xn k : Nat) : Int))), (0, .ref m0), (1, .int (iI ((k : Nat) : Int)))]) hC d_Mo_distance_93 (by decide) rfl ?_
                      refine z_aload_n hC d_Mo_distance_95 rfl 4 rfl ?_
                      refine z_get hC hi_Mo 0 rfl rfl 27 (by decide) mw_762 (Or.inl rfl) rfl d_Mo_distance_96 ?_
                      refine z_iload hC d_Mo_distance_99 1 rfl ?_
                      refine z_ialdN hC 4 0 rfl rfl j rfl (by omega) (by decide) d_Mo_distance_101 ?_
                      refine z_aload_n hC d_Mo_distance_102 rfl 4 rfl ?_
                      refine z_get hC hi_Mo 0 rfl rfl 28 (by decide) mw_763 (Or.inl rfl) rfl d_Mo_distance_103 ?_
                      refine z_iload hC d_Mo_distance_106 1 rfl ?_
                      refine z_iconstN hC 1 d_Mo_distance_108 rfl ?_
                      refine z_isubN hC d_Mo_distance_109 (by omega) ?_
                      refine z_ialdN hC 5 0 rfl rfl (j - 1) rfl (by omega) (by decide) d_Mo_distance_110 ?_
                      refine z_icmp_ge (tgt := 124) hC ((f1 j : Nat) : Int) ((f3 (j - 1) : Nat) : Int) d_Mo_distance_111 rfl (iI_t (by omega)) (iI_t (by omega)) (fun c_9 => ?_) (fun c_9 => ?_)
                      · refine z_aload_n hC d_Mo_distance_124 rfl 4 rfl ?_
                        refine z_get hC hi_Mo 0 rfl rfl 28 (by decide) mw_763 (Or.inl rfl) rfl d_Mo_distance_125 ?_
                        refine z_iload hC d_Mo_distance_128 1 rfl ?_
                        refine z_iconstN hC 1 d_Mo_distance_130 rfl ?_
                        refine z_isubN hC d_Mo_distance_131 (by omega) ?_
                        refine z_ialdN hC 5 0 rfl rfl (j - 1) rfl (by omega) (by decide) d_Mo_distance_132 ?_
                        refine z_iconstN hC 1 d_Mo_distance_133 rfl ?_
                        refine z_iaddN hC d_Mo_distance_134 ?_
                        refine z_istore (lv' := [(6, .int (iI (((f3 (j - 1)) + 1 : Nat) : Int))), (5, .int (iI (((f1 (j - 1)) + 0 : Nat) : Int))), (4, .int (iI ((j : Nat) : Int))), (3, .int (iI ((i : Nat) : Int))), (2, .int (iI ((xn k : Nat) : Int))), (0, .ref m0), (1, .int (iI ((k : Nat) : Int)))]) hC d_Mo_distance_135 (by decide) rfl ?_
                        refine z_aload_n hC d_Mo_distance_137 rfl 5 rfl ?_
                        refine z_get hC hi_Mo 0 rfl rfl 28 (by decide) mw_763 (Or.inl rfl) rfl d_Mo_distance_138 ?_
                        refine z_iload hC d_Mo_distance_141 2 rfl ?_
                        refine z_iload hC d_Mo_distance_143 1 rfl ?_
                        refine z_iload hC d_Mo_distance_145 0 rfl ?_
                        refine z_icmp_ge (tgt := 155) hC (((f1 (j - 1)) + 0 : Nat) : Int) (((f3 (j - 1)) + 1 : Nat) : Int) d_Mo_distance_147 rfl (iI_t (by omega)) (iI_t (by omega)) (fun c_10 => ?_) (fun c_10 => ?_)
                        · refine z_iload hC d_Mo_distance_155 0 rfl ?_
                          refine z_iastN (v := (f3 (j - 1)) + 1) (w' := [(m0, .inr (10, [.int (iI ((0 : Nat) : Int)), .ref m1, .int (iI ((sn : Nat) : Int)), .int (iI ((ap : Nat) : Int)), .int (iI ((wr : Nat) : Int)), .ref m2, .ref m3, .ref m4, .int (iI ((xc : Nat) : Int)), .ref m5, .int (iI ((un : Nat) : Int)), .ref m6, .ref m7, .int (iI ((bc : Nat) : Int)), .ref m8, .int (iI ((wc : Nat) : Int)), .ref m9, .ref m10, .ref m11, .ref m12, .int (iI ((rc : Nat) : Int)), .ref m13, .ref m14, .ref m15, .ref m16, .ref m17, .int (iI ((hc : Nat) : Int)), .ref m18, .ref m19])), (m2, .inl ((g.2.1 4), 64, .inl (yF xl))), (m3, .inl ((g.2.1 0), 8, .inl (nF xn))), (m5, .inl ((g.2.1 4), 200, .inl (yF uf))), (m18, .inl ((g.2.1 0), 9, .inl (nF f1))), (m19, .inl ((g.2.1 0), 9, .inl (nF (up f3 j ((f3 (j - 1)) + 1)))))]) hC 5 0 rfl rfl j rfl (by omega) (by decide) rfl d_Mo_distance_157 ?_
                          refine z_iincN (lv' := [(4, .int (iI ((j + 1 : Nat) : Int))), (6, .int (iI (((f3 (j - 1)) + 1 : Nat) : Int))), (5, .int (iI (((f1 (j - 1)) + 0 : Nat) : Int))), (3, .int (iI ((i : Nat) : Int))), (2, .int (iI ((xn k : Nat) : Int))), (0, .ref m0), (1, .int (iI ((k : Nat) : Int)))]) hC 1 d_Mo_distance_158 rfl 2 rfl (by decide) rfl ?_
                          refine z_goto (tgt := 47) hC d_Mo_distance_161 rfl ?_
                          exact Zloc [0, 3, 4, 5, 6] rfl (Z.eq (w' := [(m0, .inr (10, [.int (iI ((0 : Nat) : Int)), .ref m1, .int (iI ((sn : Nat) : Int)), .int (iI ((ap : Nat) : Int)), .int (iI ((wr : Nat) : Int)), .ref m2, .ref m3, .ref m4, .int (iI ((xc : Nat) : Int)), .ref m5, .int (iI ((un : Nat) : Int)), .ref m6, .ref m7, .int (iI ((bc : Nat) : Int)), .ref m8, .int (iI ((wc : Nat) : Int)), .ref m9, .ref m10, .ref m11, .ref m12, .int (iI ((rc : Nat) : Int)), .ref m13, .ref m14, .ref m15, .ref m16, .ref m17, .int (iI ((hc : Nat) : Int)), .ref m18, .ref m19])), (m2, .inl ((g.2.1 4), 64, .inl (yF xl))), (m3, .inl ((g.2.1 0), 8, .inl (nF xn))), (m5, .inl ((g.2.1 4), 200, .inl (yF uf))), (m18, .inl ((g.2.1 0), 9, .inl (nF f1))), (m19, .inl ((g.2.1 0), 9, .inl (nF (up f3 j ((f3 (j - 1)) + 1)))))]) rfl rfl rfl rfl (ih_47 (j + 1) (up f3 j ((f3 (j - 1)) + 1)) (by omega) (ds_2 (n := xn k) (by omega) (by omega) (by omega) hm1 hm3 (by first | (rw [if_pos (by assumption)]; omega) | (rw [if_neg (by assumption)]; omega))) (by omega)))
                        · refine z_iload hC d_Mo_distance_150 1 rfl ?_
                          refine z_goto (tgt := 157) hC d_Mo_distance_152 rfl ?_
                          refine z_iastN (v := (f1 (j - 1)) + 0) (w' := [(m0, .inr (10, [.int (iI ((0 : Nat) : Int)), .ref m1, .int (iI ((sn : Nat) : Int)), .int (iI ((ap : Nat) : Int)), .int (iI ((wr : Nat) : Int)), .ref m2, .ref m3, .ref m4, .int (iI ((xc : Nat) : Int)), .ref m5, .int (iI ((un : Nat) : Int)), .ref m6, .ref m7, .int (iI ((bc : Nat) : Int)), .ref m8, .int (iI ((wc : Nat) : Int)), .ref m9, .ref m10, .ref m11, .ref m12, .int (iI ((rc : Nat) : Int)), .ref m13, .ref m14, .ref m15, .ref m16, .ref m17, .int (iI ((hc : Nat) : Int)), .ref m18, .ref m19])), (m2, .inl ((g.2.1 4), 64, .inl (yF xl))), (m3, .inl ((g.2.1 0), 8, .inl (nF xn))), (m5, .inl ((g.2.1 4), 200, .inl (yF uf))), (m18, .inl ((g.2.1 0), 9, .inl (nF f1))), (m19, .inl ((g.2.1 0), 9, .inl (nF (up f3 j ((f1 (j - 1)) + 0)))))]) hC 5 0 rfl rfl j rfl (by omega) (by decide) rfl d_Mo_distance_157 ?_
                          refine z_iincN (lv' := [(4, .int (iI ((j + 1 : Nat) : Int))), (6, .int (iI (((f3 (j - 1)) + 1 : Nat) : Int))), (5, .int (iI (((f1 (j - 1)) + 0 : Nat) : Int))), (3, .int (iI ((i : Nat) : Int))), (2, .int (iI ((xn k : Nat) : Int))), (0, .ref m0), (1, .int (iI ((k : Nat) : Int)))]) hC 1 d_Mo_distance_158 rfl 2 rfl (by decide) rfl ?_
                          refine z_goto (tgt := 47) hC d_Mo_distance_161 rfl ?_
                          exact Zloc [0, 3, 4, 5, 6] rfl (Z.eq (w' := [(m0, .inr (10, [.int (iI ((0 : Nat) : Int)), .ref m1, .int (iI ((sn : Nat) : Int)), .int (iI ((ap : Nat) : Int)), .int (iI ((wr : Nat) : Int)), .ref m2, .ref m3, .ref m4, .int (iI ((xc : Nat) : Int)), .ref m5, .int (iI ((un : Nat) : Int)), .ref m6, .ref m7, .int (iI ((bc : Nat) : Int)), .ref m8, .int (iI ((wc : Nat) : Int)), .ref m9, .ref m10, .ref m11, .ref m12, .int (iI ((rc : Nat) : Int)), .ref m13, .ref m14, .ref m15, .ref m16, .ref m17, .int (iI ((hc : Nat) : Int)), .ref m18, .ref m19])), (m2, .inl ((g.2.1 4), 64, .inl (yF xl))), (m3, .inl ((g.2.1 0), 8, .inl (nF xn))), (m5, .inl ((g.2.1 4), 200, .inl (yF uf))), (m18, .inl ((g.2.1 0), 9, .inl (nF f1))), (m19, .inl ((g.2.1 0), 9, .inl (nF (up f3 j ((f1 (j - 1)) + 0)))))]) rfl rfl rfl rfl (ih_47 (j + 1) (up f3 j ((f1 (j - 1)) + 0)) (by omega) (ds_2 (n := xn k) (by omega) (by omega) (by omega) hm1 hm3 (by first | (rw [if_pos (by assumption)]; omega) | (rw [if_neg (by assumption)]; omega))) (by omega)))
                      · refine z_aload_n hC d_Mo_distance_114 rfl 4 rfl ?_
                        refine z_get hC hi_Mo 0 rfl rfl 27 (by decide) mw_762 (Or.inl rfl) rfl d_Mo_distance_115 ?_
                        refine z_iload hC d_Mo_distance_118 1 rfl ?_
                        refine z_ialdN hC 4 0 rfl rfl j rfl (by omega) (by decide) d_Mo_distance_120 ?_
                        refine z_goto (tgt := 133) hC d_Mo_distance_121 rfl ?_
                        refine z_iconstN hC 1 d_Mo_distance_133 rfl ?_
                        refine z_iaddN hC d_Mo_distance_134 ?_
                        refine z_istore (lv' := [(6, .int (iI (((f1 j) + 1 : Nat) : Int))), (5, .int (iI (((f1 (j - 1)) + 0 : Nat) : Int))), (4, .int (iI ((j : Nat) : Int))), (3, .int (iI ((i : Nat) : Int))), (2, .int (iI ((xn k : Nat) : Int))), (0, .ref m0), (1, .int (iI ((k : Nat) : Int)))]) hC d_Mo_distance_135 (by decide) rfl ?_
                        refine z_aload_n hC d_Mo_distance_137 rfl 5 rfl ?_
                        refine z_get hC hi_Mo 0 rfl rfl 28 (by decide) mw_763 (Or.inl rfl) rfl d_Mo_distance_138 ?_
                        refine z_iload hC d_Mo_distance_141 2 rfl ?_
                        refine z_iload hC d_Mo_distance_143 1 rfl ?_
                        refine z_iload hC d_Mo_distance_145 0 rfl ?_
                        refine z_icmp_ge (tgt := 155) hC (((f1 (j - 1)) + 0 : Nat) : Int) (((f1 j) + 1 : Nat) : Int) d_Mo_distance_147 rfl (iI_t (by omega)) (iI_t (by omega)) (fun c_11 => ?_) (fun c_11 => ?_)
                        · refine z_iload hC d_Mo_distance_155 0 rfl ?_
                          refine z_iastN (v := (f1 j) + 1) (w' := [(m0, .inr (10, [.int (iI ((0 : Nat) : Int)), .ref m1, .int (iI ((sn : Nat) : Int)), .int (iI ((ap : Nat) : Int)), .int (iI ((wr : Nat) : Int)), .ref m2, .ref m3, .ref m4, .int (iI ((xc : Nat) : Int)), .ref m5, .int (iI ((un : Nat) : Int)), .ref m6, .ref m7, .int (iI ((bc : Nat) : Int)), .ref m8, .int (iI ((wc : Nat) : Int)), .ref m9, .ref m10, .ref m11, .ref m12, .int (iI ((rc : Nat) : Int)), .ref m13, .ref m14, .ref m15, .ref m16, .ref m17, .int (iI ((hc : Nat) : Int)), .ref m18, .ref m19])), (m2, .inl ((g.2.1 4), 64, .inl (yF xl))), (m3, .inl ((g.2.1 0), 8, .inl (nF xn))), (m5, .inl ((g.2.1 4), 200, .inl (yF uf))), (m18, .inl ((g.2.1 0), 9, .inl (nF f1))), (m19, .inl ((g.2.1 0), 9, .inl (nF (up f3 j ((f1 j) + 1)))))]) hC 5 0 rfl rfl j rfl (by omega) (by decide) rfl d_Mo_distance_157 ?_
                          refine z_iincN (lv' := [(4, .int (iI ((j + 1 : Nat) : Int))), (6, .int (iI (((f1 j) + 1 : Nat) : Int))), (5, .int (iI (((f1 (j - 1)) + 0 : Nat) : Int))), (3, .int (iI ((i : Nat) : Int))), (2, .int (iI ((xn k : Nat) : Int))), (0, .ref m0), (1, .int (iI ((k : Nat) : Int)))]) hC 1 d_Mo_distance_158 rfl 2 rfl (by decide) rfl ?_
                          refine z_goto (tgt := 47) hC d_Mo_distance_161 rfl ?_
                          exact Zloc [0, 3, 4, 5, 6] rfl (Z.eq (w' := [(m0, .inr (10, [.int (iI ((0 : Nat) : Int)), .ref m1, .int (iI ((sn : Nat) : Int)), .int (iI ((ap : Nat) : Int)), .int (iI ((wr : Nat) : Int)), .ref m2, .ref m3, .ref m4, .int (iI ((xc : Nat) : Int)), .ref m5, .int (iI ((un : Nat) : Int)), .ref m6, .ref m7, .int (iI ((bc : Nat) : Int)), .ref m8, .int (iI ((wc : Nat) : Int)), .ref m9, .ref m10, .ref m11, .ref m12, .int (iI ((rc : Nat) : Int)), .ref m13, .ref m14, .ref m15, .ref m16, .ref m17, .int (iI ((hc : Nat) : Int)), .ref m18, .ref m19])), (m2, .inl ((g.2.1 4), 64, .inl (yF xl))), (m3, .inl ((g.2.1 0), 8, .inl (nF xn))), (m5, .inl ((g.2.1 4), 200, .inl (yF uf))), (m18, .inl ((g.2.1 0), 9, .inl (nF f1))), (m19, .inl ((g.2.1 0), 9, .inl (nF (up f3 j ((f1 j) + 1)))))]) rfl rfl rfl rfl (ih_47 (j + 1) (up f3 j ((f1 j) + 1)) (by omega) (ds_2 (n := xn k) (by omega) (by omega) (by omega) hm1 hm3 (by first | (rw [if_pos (by assumption)]; omega) | (rw [if_neg (by assumption)]; omega))) (by omega)))
                        · refine z_iload hC d_Mo_distance_150 1 rfl ?_
                          refine z_goto (tgt := 157) hC d_Mo_distance_152 rfl ?_
                          refine z_iastN (v := (f1 (j - 1)) + 0) (w' := [(m0, .inr (10, [.int (iI ((0 : Nat) : Int)), .ref m1, .int (iI ((sn : Nat) : Int)), .int (iI ((ap : Nat) : Int)), .int (iI ((wr : Nat) : Int)), .ref m2, .ref m3, .ref m4, .int (iI ((xc : Nat) : Int)), .ref m5, .int (iI ((un : Nat) : Int)), .ref m6, .ref m7, .int (iI ((bc : Nat) : Int)), .ref m8, .int (iI ((wc : Nat) : Int)), .ref m9, .ref m10, .ref m11, .ref m12, .int (iI ((rc : Nat) : Int)), .ref m13, .ref m14, .ref m15, .ref m16, .ref m17, .int (iI ((hc : Nat) : Int)), .ref m18, .ref m19])), (m2, .inl ((g.2.1 4), 64, .inl (yF xl))), (m3, .inl ((g.2.1 0), 8, .inl (nF xn))), (m5, .inl ((g.2.1 4), 200, .inl (yF uf))), (m18, .inl ((g.2.1 0), 9, .inl (nF f1))), (m19, .inl ((g.2.1 0), 9, .inl (nF (up f3 j ((f1 (j - 1)) + 0)))))]) hC 5 0 rfl rfl j rfl (by omega) (by decide) rfl d_Mo_distance_157 ?_
                          refine z_iincN (lv' := [(4, .int (iI ((j + 1 : Nat) : Int))), (6, .int (iI (((f1 j) + 1 : Nat) : Int))), (5, .int (iI (((f1 (j - 1)) + 0 : Nat) : Int))), (3, .int (iI ((i : Nat) : Int))), (2, .int (iI ((xn k : Nat) : Int))), (0, .ref m0), (1, .int (iI ((k : Nat) : Int)))]) hC 1 d_Mo_distance_158 rfl 2 rfl (by decide) rfl ?_
                          refine z_goto (tgt := 47) hC d_Mo_distance_161 rfl ?_
                          exact Zloc [0, 3, 4, 5, 6] rfl (Z.eq (w' := [(m0, .inr (10, [.int (iI ((0 : Nat) : Int)), .ref m1, .int (iI ((sn : Nat) : Int)), .int (iI ((ap : Nat) : Int)), .int (iI ((wr : Nat) : Int)), .ref m2, .ref m3, .ref m4, .int (iI ((xc : Nat) : Int)), .ref m5, .int (iI ((un : Nat) : Int)), .ref m6, .ref m7, .int (iI ((bc : Nat) : Int)), .ref m8, .int (iI ((wc : Nat) : Int)), .ref m9, .ref m10, .ref m11, .ref m12, .int (iI ((rc : Nat) : Int)), .ref m13, .ref m14, .ref m15, .ref m16, .ref m17, .int (iI ((hc : Nat) : Int)), .ref m18, .ref m19])), (m2, .inl ((g.2.1 4), 64, .inl (yF xl))), (m3, .inl ((g.2.1 0), 8, .inl (nF xn))), (m5, .inl ((g.2.1 4), 200, .inl (yF uf))), (m18, .inl ((g.2.1 0), 9, .inl (nF f1))), (m19, .inl ((g.2.1 0), 9, .inl (nF (up f3 j ((f1 (j - 1)) + 0)))))]) rfl rfl rfl rfl (ih_47 (j + 1) (up f3 j ((f1 (j - 1)) + 0)) (by omega) (ds_2 (n := xn k) (by omega) (by omega) (by omega) hm1 hm3 (by first | (rw [if_pos (by assumption)]; omega) | (rw [if_neg (by assumption)]; omega))) (by omega)))
              exact Zloc [0, 1, 2, 3, 4] rfl (Z.eq (w' := [(m0, .inr (10, [.int (iI ((0 : Nat) : Int)), .ref m1, .int (iI ((sn : Nat) : Int)), .int (iI ((ap : Nat) : Int)), .int (iI ((wr : Nat) : Int)), .ref m2, .ref m3, .ref m4, .int (iI ((xc : Nat) : Int)), .ref m5, .int (iI ((un : Nat) : Int)), .ref m6, .ref m7, .int (iI ((bc : Nat) : Int)), .ref m8, .int (iI ((wc : Nat) : Int)), .ref m9, .ref m10, .ref m11, .ref m12, .int (iI ((rc : Nat) : Int)), .ref m13, .ref m14, .ref m15, .ref m16, .ref m17, .int (iI ((hc : Nat) : Int)), .ref m18, .ref m19])), (m2, .inl ((g.2.1 4), 64, .inl (yF xl))), (m3, .inl ((g.2.1 0), 8, .inl (nF xn))), (m5, .inl ((g.2.1 4), 200, .inl (yF uf))), (m18, .inl ((g.2.1 0), 9, .inl (nF f1))), (m19, .inl ((g.2.1 0), 9, .inl (nF (up f2 0 i))))]) rfl rfl rfl rfl (L_47 _ 1 (up f2 0 i) (by omega) (ds_1 (by omega)) (Nat.lt_succ_self _)))
        exact Zloc [0, 1, 2, 3] rfl (Z.eq (w' := [(m0, .inr (10, [.int (iI ((0 : Nat) : Int)), .ref m1, .int (iI ((sn : Nat) : Int)), .int (iI ((ap : Nat) : Int)), .int (iI ((wr : Nat) : Int)), .ref m2, .ref m3, .ref m4, .int (iI ((xc : Nat) : Int)), .ref m5, .int (iI ((un : Nat) : Int)), .ref m6, .ref m7, .int (iI ((bc : Nat) : Int)), .ref m8, .int (iI ((wc : Nat) : Int)), .ref m9, .ref m10, .ref m11, .ref m12, .int (iI ((rc : Nat) : Int)), .ref m13, .ref m14, .ref m15, .ref m16, .ref m17, .int (iI ((hc : Nat) : Int)), .ref m18, .ref m19])), (m2, .inl ((g.2.1 4), 64, .inl (yF xl))), (m3, .inl ((g.2.1 0), 8, .inl (nF xn))), (m5, .inl ((g.2.1 4), 200, .inl (yF uf))), (m18, .inl ((g.2.1 0), 9, .inl (nF f1))), (m19, .inl ((g.2.1 0), 9, .inl (nF fb)))]) rfl rfl rfl rfl (L_29 _ 1 f1 fb (by omega) (ch_0 (by omega) hm) (fun t => by rw [if_pos rfl]) (Nat.lt_succ_self _)))
      · refine z_aload_n hC d_Mo_distance_14 rfl 2 rfl ?_
        refine z_get hC hi_Mo 0 rfl rfl 27 (by decide) mw_762 (Or.inl rfl) rfl d_Mo_distance_15 ?_
        refine z_iload_n hC d_Mo_distance_18 rfl 0 rfl ?_
        refine z_iload_n hC d_Mo_distance_19 rfl 0 rfl ?_
        refine z_iastN (v := j) (w' := [(m0, .inr (10, [.int (iI ((0 : Nat) : Int)), .ref m1, .int (iI ((sn : Nat) : Int)), .int (iI ((ap : Nat) : Int)), .int (iI ((wr : Nat) : Int)), .ref m2, .ref m3, .ref m4, .int (iI ((xc : Nat) : Int)), .ref m5, .int (iI ((un : Nat) : Int)), .ref m6, .ref m7, .int (iI ((bc : Nat) : Int)), .ref m8, .int (iI ((wc : Nat) : Int)), .ref m9, .ref m10, .ref m11, .ref m12, .int (iI ((rc : Nat) : Int)), .ref m13, .ref m14, .ref m15, .ref m16, .ref m17, .int (iI ((hc : Nat) : Int)), .ref m18, .ref m19])), (m2, .inl ((g.2.1 4), 64, .inl (yF xl))), (m3, .inl ((g.2.1 0), 8, .inl (nF xn))), (m5, .inl ((g.2.1 4), 200, .inl (yF uf))), (m18, .inl ((g.2.1 0), 9, .inl (nF (up f1 j j)))), (m19, .inl ((g.2.1 0), 9, .inl (nF fb)))]) hC 4 0 rfl rfl j rfl (by omega) (by decide) rfl d_Mo_distance_20 ?_
        refine z_iincN (lv' := [(3, .int (iI ((j + 1 : Nat) : Int))), (2, .int (iI ((xn k : Nat) : Int))), (0, .ref m0), (1, .int (iI ((k : Nat) : Int)))]) hC 1 d_Mo_distance_21 rfl 0 rfl (by decide) rfl ?_
        refine z_goto (tgt := 9) hC d_Mo_distance_24 rfl ?_
        exact Zloc [0, 1, 2, 3] rfl (Z.eq (w' := [(m0, .inr (10, [.int (iI ((0 : Nat) : Int)), .ref m1, .int (iI ((sn : Nat) : Int)), .int (iI ((ap : Nat) : Int)), .int (iI ((wr : Nat) : Int)), .ref m2, .ref m3, .ref m4, .int (iI ((xc : Nat) : Int)), .ref m5, .int (iI ((un : Nat) : Int)), .ref m6, .ref m7, .int (iI ((bc : Nat) : Int)), .ref m8, .int (iI ((wc : Nat) : Int)), .ref m9, .ref m10, .ref m11, .ref m12, .int (iI ((rc : Nat) : Int)), .ref m13, .ref m14, .ref m15, .ref m16, .ref m17, .int (iI ((hc : Nat) : Int)), .ref m18, .ref m19])), (m2, .inl ((g.2.1 4), 64, .inl (yF xl))), (m3, .inl ((g.2.1 0), 8, .inl (nF xn))), (m5, .inl ((g.2.1 4), 200, .inl (yF uf))), (m18, .inl ((g.2.1 0), 9, .inl (nF (up f1 j j)))), (m19, .inl ((g.2.1 0), 9, .inl (nF fb)))]) rfl rfl rfl rfl (ih_9 (j + 1) (up f1 j j) (by omega) (ch_go hm) (by omega)))
  exact Zloc [0, 1, 2, 3] rfl (Z.eq (w' := [(m0, .inr (10, [.int (iI ((0 : Nat) : Int)), .ref m1, .int (iI ((sn : Nat) : Int)), .int (iI ((ap : Nat) : Int)), .int (iI ((wr : Nat) : Int)), .ref m2, .ref m3, .ref m4, .int (iI ((xc : Nat) : Int)), .ref m5, .int (iI ((un : Nat) : Int)), .ref m6, .ref m7, .int (iI ((bc : Nat) : Int)), .ref m8, .int (iI ((wc : Nat) : Int)), .ref m9, .ref m10, .ref m11, .ref m12, .int (iI ((rc : Nat) : Int)), .ref m13, .ref m14, .ref m15, .ref m16, .ref m17, .int (iI ((hc : Nat) : Int)), .ref m18, .ref m19])), (m2, .inl ((g.2.1 4), 64, .inl (yF xl))), (m3, .inl ((g.2.1 0), 8, .inl (nF xn))), (m5, .inl ((g.2.1 4), 200, .inl (yF uf))), (m18, .inl ((g.2.1 0), 9, .inl (nF fa))), (m19, .inl ((g.2.1 0), 9, .inl (nF fb)))]) rfl rfl rfl rfl (L_9 _ 0 fa (by omega) (fun t => by rw [if_neg (by omega)]) (Nat.lt_succ_self _)))
set_option maxHeartbeats 4000000 in
set_option maxRecDepth 100000 in
theorem k_Mo_near (l : Launch) (g : ZG) (m0 m1 m2 m3 m4 m5 m6 m7 m8 m9 m10 m11 m12 m13 m14 m15 m16 m17 m18 m19 sn ap wr xc un bc wc rc hc : Nat) (xl : Nat → Int32) (xn : Nat → Nat) (uf : Nat → Int32) (fa fb : Nat → Nat) (hxc : xc ≤ 8) (hxn : ∀ j, j < xc → xn j ≤ 8) (h8x : y8 xl) (hun : un ≤ 200) (h8u : y8 uf)   : Ct l g y_Mo_near c_Mo_near 5 (some .int) { frames := 1, cells := 0, slots := 0, locals := 26 } [.ref m0] [(m0, .inr (10, [.int (iI ((0 : Nat) : Int)), .ref m1, .int (iI ((sn : Nat) : Int)), .int (iI ((ap : Nat) : Int)), .int (iI ((wr : Nat) : Int)), .ref m2, .ref m3, .ref m4, .int (iI ((xc : Nat) : Int)), .ref m5, .int (iI ((un : Nat) : Int)), .ref m6, .ref m7, .int (iI ((bc : Nat) : Int)), .ref m8, .int (iI ((wc : Nat) : Int)), .ref m9, .ref m10, .ref m11, .ref m12, .int (iI ((rc : Nat) : Int)), .ref m13, .ref m14, .ref m15, .ref m16, .ref m17, .int (iI ((hc : Nat) : Int)), .ref m18, .ref m19])), (m2, .inl ((g.2.1 4), 64, .inl (yF xl))), (m3, .inl ((g.2.1 0), 8, .inl (nF xn))), (m5, .inl ((g.2.1 4), 200, .inl (yF uf))), (m18, .inl ((g.2.1 0), 9, .inl (nF fa))), (m19, .inl ((g.2.1 0), 9, .inl (nF fb)))] (some (.int (iI (if un = 0 then -1 else (nrS (fun k => rowD (eqF un uf xl k) un (xn k)) xc).1)))) [(m0, .inr (10, [.int (iI ((0 : Nat) : Int)), .ref m1, .int (iI ((sn : Nat) : Int)), .int (iI ((ap : Nat) : Int)), .int (iI ((wr : Nat) : Int)), .ref m2, .ref m3, .ref m4, .int (iI ((xc : Nat) : Int)), .ref m5, .int (iI ((un : Nat) : Int)), .ref m6, .ref m7, .int (iI ((bc : Nat) : Int)), .ref m8, .int (iI ((wc : Nat) : Int)), .ref m9, .ref m10, .ref m11, .ref m12, .int (iI ((rc : Nat) : Int)), .ref m13, .ref m14, .ref m15, .ref m16, .ref m17, .int (iI ((hc : Nat) : Int)), .ref m18, .ref m19])), (m2, .inl ((g.2.1 4), 64, .inl (yF xl))), (m3, .inl ((g.2.1 0), 8, .inl (nF xn))), (m5, .inl ((g.2.1 4), 200, .inl (yF uf))), (m18, .inl ((g.2.1 0), 9, .inl (nF (if un = 0 then fa else nrC fa un uf xl xn xc)))), (m19, .inl ((g.2.1 0), 9, .inl (nF (if un = 0 then fb else nrC fb un uf xl xn xc))))] := by
  refine ct_i (lv := [(0, .ref m0)]) (by decide) rfl (Nat.le_of_ble_eq_true rfl) rfl ?_
  intro x hC hR
  refine z_aload_n hC d_Mo_near_0 rfl 0 rfl ?_
  refine z_iconstN hC 0 d_Mo_near_1 rfl ?_
  refine z_put (v := .int (iI ((0 : Nat) : Int))) (ty := .int) (w' := [(m0, .inr (10, [.int (iI ((0 : Nat) : Int)), .ref m1, .int (iI ((sn : Nat) : Int)), .int (iI ((ap : Nat) : Int)), .int (iI ((wr : Nat) : Int)), .ref m2, .ref m3, .ref m4, .int (iI ((xc : Nat) : Int)), .ref m5, .int (iI ((un : Nat) : Int)), .ref m6, .ref m7, .int (iI ((bc : Nat) : Int)), .ref m8, .int (iI ((wc : Nat) : Int)), .ref m9, .ref m10, .ref m11, .ref m12, .int (iI ((rc : Nat) : Int)), .ref m13, .ref m14, .ref m15, .ref m16, .ref m17, .int (iI ((hc : Nat) : Int)), .ref m18, .ref m19])), (m2, .inl ((g.2.1 4), 64, .inl (yF xl))), (m3, .inl ((g.2.1 0), 8, .inl (nF xn))), (m5, .inl ((g.2.1 4), 200, .inl (yF uf))), (m18, .inl ((g.2.1 0), 9, .inl (nF fa))), (m19, .inl ((g.2.1 0), 9, .inl (nF fb)))]) hC hi_Mo ty_Mo ok_Mo nm_Mo 0 rfl rfl 0 (by decide) mw_735 rfl rfl rfl rfl rfl (Nat.le_of_ble_eq_true rfl) rfl d_Mo_near_2 ?_
  refine z_iconst hC d_Mo_near_5 ?_
  refine z_istore_n (lv' := [(1, .int (iI (-1))), (0, .ref m0)]) hC d_Mo_near_6 rfl (by decide) rfl ?_
  refine z_sipush (a := ((1000 : Nat) : Int)) hC d_Mo_near_7 (by decide) ?_
  refine z_istore_n (lv' := [(2, .int (iI ((1000 : Nat) : Int))), (1, .int (iI (-1))), (0, .ref m0)]) hC d_Mo_near_10 rfl (by decide) rfl ?_
  refine z_iconstN hC 0 d_Mo_near_11 rfl ?_
  refine z_istore_n (lv' := [(3, .int (iI ((0 : Nat) : Int))), (2, .int (iI ((1000 : Nat) : Int))), (1, .int (iI (-1))), (0, .ref m0)]) hC d_Mo_near_12 rfl (by decide) rfl ?_
  have L_13 : ∀ (fu : Nat) (i : Nat) (b : Int) (le : Nat) (f1 f2 : Nat → Nat), (i ≤ xc) → (i = 0 ∨ 1 ≤ un) → (-1 ≤ b ∧ b ≤ i) → (le ≤ 1000) → ((i = 0 ∧ b = -1 ∧ le = 1000) ∨ (1 ≤ i ∧ ¬ b = -1 ∧ (b, le) = nrS (fun k => rowD (eqF un uf xl k) un (xn k)) i)) → (f1 = nrC fa un uf xl xn i) → (f2 = nrC fb un uf xl xn i) → xc - i < fu → Z x (0, 0) [(m0, .inr (10, [.int (iI ((0 : Nat) : Int)), .ref m1, .int (iI ((sn : Nat) : Int)), .int (iI ((ap : Nat) : Int)), .int (iI ((wr : Nat) : Int)), .ref m2, .ref m3, .ref m4, .int (iI ((xc : Nat) : Int)), .ref m5, .int (iI ((un : Nat) : Int)), .ref m6, .ref m7, .int (iI ((bc : Nat) : Int)), .ref m8, .int (iI ((wc : Nat) : Int)), .ref m9, .ref m10, .ref m11, .ref m12, .int (iI ((rc : Nat) : Int)), .ref m13, .ref m14, .ref m15, .ref m16, .ref m17, .int (iI ((hc : Nat) : Int)), .ref m18, .ref m19])), (m2, .inl ((g.2.1 4), 64, .inl (yF xl))), (m3, .inl ((g.2.1 0), 8, .inl (nF xn))), (m5, .inl ((g.2.1 4), 200, .inl (yF uf))), (m18, .inl ((g.2.1 0), 9, .inl (nF f1))), (m19, .inl ((g.2.1 0), 9, .inl (nF f2)))] 13 [(3, .int (iI ((i : Nat) : Int))), (2, .int (iI ((le : Nat) : Int))), (1, .int (iI b)), (0, .ref m0)] [] := by
    intro fu
    induction fu with
    | zero => intro i b le f1 f2 hi hi0 hb hle hq hm1 hm2 hmu; exact absurd hmu (Nat.not_lt_zero _)
    | succ fu ih_13 =>
      intro i b le f1 f2 hi hi0 hb hle hq hm1 hm2 hmu
      refine z_iload_n hC d_Mo_near_13 rfl 0 rfl ?_
      refine z_aload_n hC d_Mo_near_14 rfl 3 rfl ?_
      refine z_get hC hi_Mo 0 rfl rfl 8 (by decide) mw_743 (Or.inl rfl) rfl d_Mo_near_15 ?_
      refine z_icmp_ge (tgt := 66) hC ((i : Nat) : Int) ((xc : Nat) : Int) d_Mo_near_18 rfl (iI_t (by omega)) (iI_t (by omega)) (fun c_1 => ?_) (fun c_1 => ?_)
      · refine z_iload_n hC d_Mo_near_66 rfl 2 rfl ?_
        exact Z.eq (by rcases Nat.eq_zero_or_pos un with hu0 | hu0 <;> first | (rw [if_pos hu0, if_pos hu0, hm1, hm2, show i = 0 by omega]; rfl) | (rw [if_neg (by omega), if_neg (by omega), hm1, hm2, show i = xc by omega])) rfl rfl (by rcases Nat.eq_zero_or_pos un with hu0 | hu0 <;> first | (rw [if_pos hu0, nr_b0 hq (by omega)]; done) | (rw [if_neg (by omega), nr_end hq, show i = xc by omega])) (hR _ _ d_Mo_near_67)
      · refine z_aload_n hC d_Mo_near_21 rfl 3 rfl ?_
        refine z_get hC hi_Mo 0 rfl rfl 10 (by decide) mw_745 (Or.inl rfl) rfl d_Mo_near_22 ?_
        refine z_if_le (tgt := 66) hC ((un : Nat) : Int) d_Mo_near_25 rfl (iI_t (by omega)) (fun c_2 => ?_) (fun c_2 => ?_)
        · refine z_iload_n hC d_Mo_near_66 rfl 2 rfl ?_
          exact Z.eq (by rcases Nat.eq_zero_or_pos un with hu0 | hu0 <;> first | (rw [if_pos hu0, if_pos hu0, hm1, hm2, show i = 0 by omega]; rfl) | (rw [if_neg (by omega), if_neg (by omega), hm1, hm2, show i = xc by omega])) rfl rfl (by rcases Nat.eq_zero_or_pos un with hu0 | hu0 <;> first | (rw [if_pos hu0, nr_b0 hq (by omega)]; done) | (rw [if_neg (by omega), nr_end hq, show i = xc by omega])) (hR _ _ d_Mo_near_67)
        · refine z_aload_n hC d_Mo_near_28 rfl 3 rfl ?_
          refine z_iload_n hC d_Mo_near_29 rfl 0 rfl ?_
          have bd := rowD_le (eqF un uf xl i) un (xn i)
          have hx8 := hxn i (by omega)
          refine z_callV (q0 := 0) (ci := 10) (w' := [(m0, .inr (10, [.int (iI ((0 : Nat) : Int)), .ref m1, .int (iI ((sn : Nat) : Int)), .int (iI ((ap : Nat) : Int)), .int (iI ((wr : Nat) : Int)), .ref m2, .ref m3, .ref m4, .int (iI ((xc : Nat) : Int)), .ref m5, .int (iI ((un : Nat) : Int)), .ref m6, .ref m7, .int (iI ((bc : Nat) : Int)), .ref m8, .int (iI ((wc : Nat) : Int)), .ref m9, .ref m10, .ref m11, .ref m12, .int (iI ((rc : Nat) : Int)), .ref m13, .ref m14, .ref m15, .ref m16, .ref m17, .int (iI ((hc : Nat) : Int)), .ref m18, .ref m19])), (m2, .inl ((g.2.1 4), 64, .inl (yF xl))), (m3, .inl ((g.2.1 0), 8, .inl (nF xn))), (m5, .inl ((g.2.1 4), 200, .inl (yF uf))), (m18, .inl ((g.2.1 0), 9, .inl (nF (chF f1 (xn i) (rowD (eqF un uf xl i) un))))), (m19, .inl ((g.2.1 0), 9, .inl (nF (chF f2 (xn i) (rowD (eqF un uf xl i) un)))))]) (st1 := [.int (iI ((rowD (eqF un uf xl i) un (xn i) : Nat) : Int))]) hC (k_Mo_distance l g m0 m1 m2 m3 m4 m5 m6 m7 m8 m9 m10 m11 m12 m13 m14 m15 m16 m17 m18 m19 sn ap wr xc un bc wc rc hc xl xn uf f1 f2 i hxc hxn h8x (by omega) h8u (by omega)) mw_937 zv_Mo_distance rfl rfl ⟨Nat.le_of_ble_eq_true rfl, Nat.le_of_ble_eq_true rfl⟩ [0, 1, 2, 3, 4, 5] rfl rfl rfl rfl rfl rfl rfl rfl (Nat.le_of_ble_eq_true rfl) d_Mo_near_30 rfl ⟨Nat.zero_le _, Nat.zero_le _⟩ rfl ?_
          refine z_istore (lv' := [(4, .int (iI ((rowD (eqF un uf xl i) un (xn i) : Nat) : Int))), (3, .int (iI ((i : Nat) : Int))), (2, .int (iI ((le : Nat) : Int))), (1, .int (iI b)), (0, .ref m0)]) hC d_Mo_near_33 (by decide) rfl ?_
          refine z_iload hC d_Mo_near_35 0 rfl ?_
          refine z_iload_n hC d_Mo_near_37 rfl 2 rfl ?_
          refine z_icmp_ge (tgt := 45) hC ((rowD (eqF un uf xl i) un (xn i) : Nat) : Int) ((le : Nat) : Int) d_Mo_near_38 rfl (iI_t (by omega)) (iI_t (by omega)) (fun c_3 => ?_) (fun c_3 => ?_)
          · refine z_iload_n hC d_Mo_near_45 rfl 3 rfl ?_
            refine z_istore_n (lv' := [(1, .int (iI b)), (4, .int (iI ((rowD (eqF un uf xl i) un (xn i) : Nat) : Int))), (3, .int (iI ((i : Nat) : Int))), (2, .int (iI ((le : Nat) : Int))), (0, .ref m0)]) hC d_Mo_near_46 rfl (by decide) rfl ?_
            refine z_iload hC d_Mo_near_47 1 rfl ?_
            refine z_iload_n hC d_Mo_near_49 rfl 3 rfl ?_
            refine z_icmp_ge (tgt := 58) hC ((rowD (eqF un uf xl i) un (xn i) : Nat) : Int) ((le : Nat) : Int) d_Mo_near_50 rfl (iI_t (by omega)) (iI_t (by omega)) (fun c_4 => ?_) (fun c_4 => ?_)
            · refine z_iload_n hC d_Mo_near_58 rfl 3 rfl ?_
              refine z_istore_n (lv' := [(2, .int (iI ((le : Nat) : Int))), (1, .int (iI b)), (4, .int (iI ((rowD (eqF un uf xl i) un (xn i) : Nat) : Int))), (3, .int (iI ((i : Nat) : Int))), (0, .ref m0)]) hC d_Mo_near_59 rfl (by decide) rfl ?_
              refine z_iincN (lv' := [(3, .int (iI ((i + 1 : Nat) : Int))), (2, .int (iI ((le : Nat) : Int))), (1, .int (iI b)), (4, .int (iI ((rowD (eqF un uf xl i) un (xn i) : Nat) : Int))), (0, .ref m0)]) hC 1 d_Mo_near_60 rfl 3 rfl (by decide) rfl ?_
              refine z_goto (tgt := 13) hC d_Mo_near_63 rfl ?_
              exact Zloc [0, 1, 2, 4] rfl (Z.eq (w' := [(m0, .inr (10, [.int (iI ((0 : Nat) : Int)), .ref m1, .int (iI ((sn : Nat) : Int)), .int (iI ((ap : Nat) : Int)), .int (iI ((wr : Nat) : Int)), .ref m2, .ref m3, .ref m4, .int (iI ((xc : Nat) : Int)), .ref m5, .int (iI ((un : Nat) : Int)), .ref m6, .ref m7, .int (iI ((bc : Nat) : Int)), .ref m8, .int (iI ((wc : Nat) : Int)), .ref m9, .ref m10, .ref m11, .ref m12, .int (iI ((rc : Nat) : Int)), .ref m13, .ref m14, .ref m15, .ref m16, .ref m17, .int (iI ((hc : Nat) : Int)), .ref m18, .ref m19])), (m2, .inl ((g.2.1 4), 64, .inl (yF xl))), (m3, .inl ((g.2.1 0), 8, .inl (nF xn))), (m5, .inl ((g.2.1 4), 200, .inl (yF uf))), (m18, .inl ((g.2.1 0), 9, .inl (nF (chF f1 (xn i) (rowD (eqF un uf xl i) un))))), (m19, .inl ((g.2.1 0), 9, .inl (nF (chF f2 (xn i) (rowD (eqF un uf xl i) un)))))]) rfl rfl rfl rfl (ih_13 (i + 1) b le (chF f1 (xn i) (rowD (eqF un uf xl i) un)) (chF f2 (xn i) (rowD (eqF un uf xl i) un)) (by omega) (by omega) (by omega) hle (by first | (exfalso; omega) | exact nr_ref (d := (fun k => rowD (eqF un uf xl k) un (xn k))) (by first | omega | (dsimp only; omega)) hq (by first | omega | (dsimp only; omega)) | exact nr_ref2 (d := (fun k => rowD (eqF un uf xl k) un (xn k))) (by first | omega | (dsimp only; omega)) hq (by first | omega | (dsimp only; omega))) (by rw [hm1]; rfl) (by rw [hm2]; rfl) (by omega)))
            · refine z_iload hC d_Mo_near_53 1 rfl ?_
              refine z_goto (tgt := 59) hC d_Mo_near_55 rfl ?_
              refine z_istore_n (lv' := [(2, .int (iI ((rowD (eqF un uf xl i) un (xn i) : Nat) : Int))), (1, .int (iI b)), (4, .int (iI ((rowD (eqF un uf xl i) un (xn i) : Nat) : Int))), (3, .int (iI ((i : Nat) : Int))), (0, .ref m0)]) hC d_Mo_near_59 rfl (by decide) rfl ?_
              refine z_iincN (lv' := [(3, .int (iI ((i + 1 : Nat) : Int))), (2, .int (iI ((rowD (eqF un uf xl i) un (xn i) : Nat) : Int))), (1, .int (iI b)), (4, .int (iI ((rowD (eqF un uf xl i) un (xn i) : Nat) : Int))), (0, .ref m0)]) hC 1 d_Mo_near_60 rfl 3 rfl (by decide) rfl ?_
              refine z_goto (tgt := 13) hC d_Mo_near_63 rfl ?_
              exact Zloc [0, 1, 2, 4] rfl (Z.eq (w' := [(m0, .inr (10, [.int (iI ((0 : Nat) : Int)), .ref m1, .int (iI ((sn : Nat) : Int)), .int (iI ((ap : Nat) : Int)), .int (iI ((wr : Nat) : Int)), .ref m2, .ref m3, .ref m4, .int (iI ((xc : Nat) : Int)), .ref m5, .int (iI ((un : Nat) : Int)), .ref m6, .ref m7, .int (iI ((bc : Nat) : Int)), .ref m8, .int (iI ((wc : Nat) : Int)), .ref m9, .ref m10, .ref m11, .ref m12, .int (iI ((rc : Nat) : Int)), .ref m13, .ref m14, .ref m15, .ref m16, .ref m17, .int (iI ((hc : Nat) : Int)), .ref m18, .ref m19])), (m2, .inl ((g.2.1 4), 64, .inl (yF xl))), (m3, .inl ((g.2.1 0), 8, .inl (nF xn))), (m5, .inl ((g.2.1 4), 200, .inl (yF uf))), (m18, .inl ((g.2.1 0), 9, .inl (nF (chF f1 (xn i) (rowD (eqF un uf xl i) un))))), (m19, .inl ((g.2.1 0), 9, .inl (nF (chF f2 (xn i) (rowD (eqF un uf xl i) un)))))]) rfl rfl rfl rfl (ih_13 (i + 1) b (rowD (eqF un uf xl i) un (xn i)) (chF f1 (xn i) (rowD (eqF un uf xl i) un)) (chF f2 (xn i) (rowD (eqF un uf xl i) un)) (by omega) (by omega) (by omega) (by omega) (by first | (exfalso; omega) | exact nr_ref (d := (fun k => rowD (eqF un uf xl k) un (xn k))) (by first | omega | (dsimp only; omega)) hq (by first | omega | (dsimp only; omega)) | exact nr_ref2 (d := (fun k => rowD (eqF un uf xl k) un (xn k))) (by first | omega | (dsimp only; omega)) hq (by first | omega | (dsimp only; omega))) (by rw [hm1]; rfl) (by rw [hm2]; rfl) (by omega)))
          · refine z_iload_n hC d_Mo_near_41 rfl 1 rfl ?_
            refine z_goto (tgt := 46) hC d_Mo_near_42 rfl ?_
            refine z_istore_n (lv' := [(1, .int (iI ((i : Nat) : Int))), (4, .int (iI ((rowD (eqF un uf xl i) un (xn i) : Nat) : Int))), (3, .int (iI ((i : Nat) : Int))), (2, .int (iI ((le : Nat) : Int))), (0, .ref m0)]) hC d_Mo_near_46 rfl (by decide) rfl ?_
            refine z_iload hC d_Mo_near_47 1 rfl ?_
            refine z_iload_n hC d_Mo_near_49 rfl 3 rfl ?_
            refine z_icmp_ge (tgt := 58) hC ((rowD (eqF un uf xl i) un (xn i) : Nat) : Int) ((le : Nat) : Int) d_Mo_near_50 rfl (iI_t (by omega)) (iI_t (by omega)) (fun c_5 => ?_) (fun c_5 => ?_)
            · refine z_iload_n hC d_Mo_near_58 rfl 3 rfl ?_
              refine z_istore_n (lv' := [(2, .int (iI ((le : Nat) : Int))), (1, .int (iI ((i : Nat) : Int))), (4, .int (iI ((rowD (eqF un uf xl i) un (xn i) : Nat) : Int))), (3, .int (iI ((i : Nat) : Int))), (0, .ref m0)]) hC d_Mo_near_59 rfl (by decide) rfl ?_
              refine z_iincN (lv' := [(3, .int (iI ((i + 1 : Nat) : Int))), (2, .int (iI ((le : Nat) : Int))), (1, .int (iI ((i : Nat) : Int))), (4, .int (iI ((rowD (eqF un uf xl i) un (xn i) : Nat) : Int))), (0, .ref m0)]) hC 1 d_Mo_near_60 rfl 3 rfl (by decide) rfl ?_
              refine z_goto (tgt := 13) hC d_Mo_near_63 rfl ?_
              exact Zloc [0, 1, 2, 4] rfl (Z.eq (w' := [(m0, .inr (10, [.int (iI ((0 : Nat) : Int)), .ref m1, .int (iI ((sn : Nat) : Int)), .int (iI ((ap : Nat) : Int)), .int (iI ((wr : Nat) : Int)), .ref m2, .ref m3, .ref m4, .int (iI ((xc : Nat) : Int)), .ref m5, .int (iI ((un : Nat) : Int)), .ref m6, .ref m7, .int (iI ((bc : Nat) : Int)), .ref m8, .int (iI ((wc : Nat) : Int)), .ref m9, .ref m10, .ref m11, .ref m12, .int (iI ((rc : Nat) : Int)), .ref m13, .ref m14, .ref m15, .ref m16, .ref m17, .int (iI ((hc : Nat) : Int)), .ref m18, .ref m19])), (m2, .inl ((g.2.1 4), 64, .inl (yF xl))), (m3, .inl ((g.2.1 0), 8, .inl (nF xn))), (m5, .inl ((g.2.1 4), 200, .inl (yF uf))), (m18, .inl ((g.2.1 0), 9, .inl (nF (chF f1 (xn i) (rowD (eqF un uf xl i) un))))), (m19, .inl ((g.2.1 0), 9, .inl (nF (chF f2 (xn i) (rowD (eqF un uf xl i) un)))))]) rfl rfl rfl rfl (ih_13 (i + 1) ((i : Nat) : Int) le (chF f1 (xn i) (rowD (eqF un uf xl i) un)) (chF f2 (xn i) (rowD (eqF un uf xl i) un)) (by omega) (by omega) (by omega) hle (by first | (exfalso; omega) | exact nr_ref (d := (fun k => rowD (eqF un uf xl k) un (xn k))) (by first | omega | (dsimp only; omega)) hq (by first | omega | (dsimp only; omega)) | exact nr_ref2 (d := (fun k => rowD (eqF un uf xl k) un (xn k))) (by first | omega | (dsimp only; omega)) hq (by first | omega | (dsimp only; omega))) (by rw [hm1]; rfl) (by rw [hm2]; rfl) (by omega)))
            · refine z_iload hC d_Mo_near_53 1 rfl ?_
              refine z_goto (tgt := 59) hC d_Mo_near_55 rfl ?_
              refine z_istore_n (lv' := [(2, .int (iI ((rowD (eqF un uf xl i) un (xn i) : Nat) : Int))), (1, .int (iI ((i : Nat) : Int))), (4, .int (iI ((rowD (eqF un uf xl i) un (xn i) : Nat) : Int))), (3, .int (iI ((i : Nat) : Int))), (0, .ref m0)]) hC d_Mo_near_59 rfl (by decide) rfl ?_
              refine z_iincN (lv' := [(3, .int (iI ((i + 1 : Nat) : Int))), (2, .int (iI ((rowD (eqF un uf xl i) un (xn i) : Nat) : Int))), (1, .int (iI ((i : Nat) : Int))), (4, .int (iI ((rowD (eqF un uf xl i) un (xn i) : Nat) : Int))), (0, .ref m0)]) hC 1 d_Mo_near_60 rfl 3 rfl (by decide) rfl ?_
              refine z_goto (tgt := 13) hC d_Mo_near_63 rfl ?_
              exact Zloc [0, 1, 2, 4] rfl (Z.eq (w' := [(m0, .inr (10, [.int (iI ((0 : Nat) : Int)), .ref m1, .int (iI ((sn : Nat) : Int)), .int (iI ((ap : Nat) : Int)), .int (iI ((wr : Nat) : Int)), .ref m2, .ref m3, .ref m4, .int (iI ((xc : Nat) : Int)), .ref m5, .int (iI ((un : Nat) : Int)), .ref m6, .ref m7, .int (iI ((bc : Nat) : Int)), .ref m8, .int (iI ((wc : Nat) : Int)), .ref m9, .ref m10, .ref m11, .ref m12, .int (iI ((rc : Nat) : Int)), .ref m13, .ref m14, .ref m15, .ref m16, .ref m17, .int (iI ((hc : Nat) : Int)), .ref m18, .ref m19])), (m2, .inl ((g.2.1 4), 64, .inl (yF xl))), (m3, .inl ((g.2.1 0), 8, .inl (nF xn))), (m5, .inl ((g.2.1 4), 200, .inl (yF uf))), (m18, .inl ((g.2.1 0), 9, .inl (nF (chF f1 (xn i) (rowD (eqF un uf xl i) un))))), (m19, .inl ((g.2.1 0), 9, .inl (nF (chF f2 (xn i) (rowD (eqF un uf xl i) un)))))]) rfl rfl rfl rfl (ih_13 (i + 1) ((i : Nat) : Int) (rowD (eqF un uf xl i) un (xn i)) (chF f1 (xn i) (rowD (eqF un uf xl i) un)) (chF f2 (xn i) (rowD (eqF un uf xl i) un)) (by omega) (by omega) (by omega) (by omega) (by first | (exfalso; omega) | exact nr_ref (d := (fun k => rowD (eqF un uf xl k) un (xn k))) (by first | omega | (dsimp only; omega)) hq (by first | omega | (dsimp only; omega)) | exact nr_ref2 (d := (fun k => rowD (eqF un uf xl k) un (xn k))) (by first | omega | (dsimp only; omega)) hq (by first | omega | (dsimp only; omega))) (by rw [hm1]; rfl) (by rw [hm2]; rfl) (by omega)))
  exact Zloc [0, 1, 2, 3] rfl (Z.eq (w' := [(m0, .inr (10, [.int (iI ((0 : Nat) : Int)), .ref m1, .int (iI ((sn : Nat) : Int)), .int (iI ((ap : Nat) : Int)), .int (iI ((wr : Nat) : Int)), .ref m2, .ref m3, .ref m4, .int (iI ((xc : Nat) : Int)), .ref m5, .int (iI ((un : Nat) : Int)), .ref m6, .ref m7, .int (iI ((bc : Nat) : Int)), .ref m8, .int (iI ((wc : Nat) : Int)), .ref m9, .ref m10, .ref m11, .ref m12, .int (iI ((rc : Nat) : Int)), .ref m13, .ref m14, .ref m15, .ref m16, .ref m17, .int (iI ((hc : Nat) : Int)), .ref m18, .ref m19])), (m2, .inl ((g.2.1 4), 64, .inl (yF xl))), (m3, .inl ((g.2.1 0), 8, .inl (nF xn))), (m5, .inl ((g.2.1 4), 200, .inl (yF uf))), (m18, .inl ((g.2.1 0), 9, .inl (nF fa))), (m19, .inl ((g.2.1 0), 9, .inl (nF fb)))]) rfl rfl rfl rfl (L_13 _ 0 (-1) 1000 fa fb (by omega) (by omega) (by omega) (by omega) (Or.inl ⟨rfl, rfl, rfl⟩) rfl rfl (Nat.lt_succ_self _)))
set_option maxHeartbeats 4000000 in
set_option maxRecDepth 100000 in
theorem k_Mo_record (l : Launch) (g : ZG) (m0 m1 m2 m3 m4 m5 m6 m7 m8 m9 m10 m11 m12 m13 m14 m15 m16 m17 m18 m19 sn ap wr xc un bc wc rc hc : Nat) (mo : Nat → Int64) (t : Int64) (hrc : rc ≤ 60)   : Ct l g y_Mo_record c_Mo_record 3 (some .int) { frames := 0, cells := 0, slots := 0, locals := 0 } [.ref m0, .long t] [(m0, .inr (10, [.int (iI ((0 : Nat) : Int)), .ref m1, .int (iI ((sn : Nat) : Int)), .int (iI ((ap : Nat) : Int)), .int (iI ((wr : Nat) : Int)), .ref m2, .ref m3, .ref m4, .int (iI ((xc : Nat) : Int)), .ref m5, .int (iI ((un : Nat) : Int)), .ref m6, .ref m7, .int (iI ((bc : Nat) : Int)), .ref m8, .int (iI ((wc : Nat) : Int)), .ref m9, .ref m10, .ref m11, .ref m12, .int (iI ((rc : Nat) : Int)), .ref m13, .ref m14, .ref m15, .ref m16, .ref m17, .int (iI ((hc : Nat) : Int)), .ref m18, .ref m19])), (m13, .inl ((g.2.1 1), 61, .inr (.inl mo)))] (some (.int (iI ((if rc < 60 ∧ (rc = 0 ∨ ¬ t < mo rc) then rc + 1 else 0 : Nat) : Int)))) [(m0, .inr (10, [.int (iI ((0 : Nat) : Int)), .ref m1, .int (iI ((sn : Nat) : Int)), .int (iI ((ap : Nat) : Int)), .int (iI ((wr : Nat) : Int)), .ref m2, .ref m3, .ref m4, .int (iI ((xc : Nat) : Int)), .ref m5, .int (iI ((un : Nat) : Int)), .ref m6, .ref m7, .int (iI ((bc : Nat) : Int)), .ref m8, .int (iI ((wc : Nat) : Int)), .ref m9, .ref m10, .ref m11, .ref m12, .int (iI ((if rc < 60 ∧ (rc = 0 ∨ ¬ t < mo rc) then rc + 1 else rc : Nat) : Int)), .ref m13, .ref m14, .ref m15, .ref m16, .ref m17, .int (iI ((hc : Nat) : Int)), .ref m18, .ref m19])), (m13, .inl ((g.2.1 1), 61, .inr (.inl (if rc < 60 ∧ (rc = 0 ∨ ¬ t < mo rc) then vp_updL mo (rc + 1) t else mo))))] := by
  refine ct_i (lv := [(0, .ref m0), (1, .long t)]) (by decide) rfl (Nat.le_of_ble_eq_true rfl) rfl ?_
  intro x hC hR
  refine z_aload_n hC d_Mo_record_0 rfl 0 rfl ?_
  refine z_iconstN hC 0 d_Mo_record_1 rfl ?_
  refine z_put (v := .int (iI ((0 : Nat) : Int))) (ty := .int) (w' := [(m0, .inr (10, [.int (iI ((0 : Nat) : Int)), .ref m1, .int (iI ((sn : Nat) : Int)), .int (iI ((ap : Nat) : Int)), .int (iI ((wr : Nat) : Int)), .ref m2, .ref m3, .ref m4, .int (iI ((xc : Nat) : Int)), .ref m5, .int (iI ((un : Nat) : Int)), .ref m6, .ref m7, .int (iI ((bc : Nat) : Int)), .ref m8, .int (iI ((wc : Nat) : Int)), .ref m9, .ref m10, .ref m11, .ref m12, .int (iI ((rc : Nat) : Int)), .ref m13, .ref m14, .ref m15, .ref m16, .ref m17, .int (iI ((hc : Nat) : Int)), .ref m18, .ref m19])), (m13, .inl ((g.2.1 1), 61, .inr (.inl mo)))]) hC hi_Mo ty_Mo ok_Mo nm_Mo 0 rfl rfl 0 (by decide) mw_735 rfl rfl rfl rfl rfl (Nat.le_of_ble_eq_true rfl) rfl d_Mo_record_2 ?_
  refine z_aload_n hC d_Mo_record_5 rfl 0 rfl ?_
  refine z_get hC hi_Mo 0 rfl rfl 20 (by decide) mw_755 (Or.inl rfl) rfl d_Mo_record_6 ?_
  refine z_bipush (a := ((60 : Nat) : Int)) hC d_Mo_record_9 (by decide) ?_
  refine z_icmp_eq (tgt := 35) hC ((rc : Nat) : Int) ((60 : Nat) : Int) d_Mo_record_11 rfl (iI_t (by omega)) (iI_t (by omega)) (fun c_1 => ?_) (fun c_1 => ?_)
  · refine z_iconstN hC 0 d_Mo_record_35 rfl ?_
    exact Z.eq (by first | (exfalso; omega) | (simp only [if_pos (show rc < 60 ∧ (rc = 0 ∨ ¬ t < mo rc) from ⟨by omega, Or.inl (by omega)⟩)]; done) | (simp only [if_pos (show rc < 60 ∧ (rc = 0 ∨ ¬ t < mo rc) from ⟨by omega, Or.inr (by assumption)⟩)]; done) | (simp only [if_neg (show ¬ (rc < 60 ∧ (rc = 0 ∨ ¬ t < mo rc)) from fun h => absurd h.1 (by omega))]; done) | (simp only [if_neg (show ¬ (rc < 60 ∧ (rc = 0 ∨ ¬ t < mo rc)) from fun h => h.2.elim (fun z => by omega) (fun z => z (by assumption)))]; done)) rfl rfl (by first | (exfalso; omega) | (simp only [if_pos (show rc < 60 ∧ (rc = 0 ∨ ¬ t < mo rc) from ⟨by omega, Or.inl (by omega)⟩)]; done) | (simp only [if_pos (show rc < 60 ∧ (rc = 0 ∨ ¬ t < mo rc) from ⟨by omega, Or.inr (by assumption)⟩)]; done) | (simp only [if_neg (show ¬ (rc < 60 ∧ (rc = 0 ∨ ¬ t < mo rc)) from fun h => absurd h.1 (by omega))]; done) | (simp only [if_neg (show ¬ (rc < 60 ∧ (rc = 0 ∨ ¬ t < mo rc)) from fun h => h.2.elim (fun z => by omega) (fun z => z (by assumption)))]; done)) (hR _ _ d_Mo_record_36)
  · refine z_aload_n hC d_Mo_record_14 rfl 0 rfl ?_
    refine z_get hC hi_Mo 0 rfl rfl 20 (by decide) mw_755 (Or.inl rfl) rfl d_Mo_record_15 ?_
    refine z_if_le (tgt := 37) hC ((rc : Nat) : Int) d_Mo_record_18 rfl (iI_t (by omega)) (fun c_2 => ?_) (fun c_2 => ?_)
    · refine z_aload_n hC d_Mo_record_37 rfl 0 rfl ?_
      refine z_dup hC d_Mo_record_38 rfl ?_
      refine z_get hC hi_Mo 0 rfl rfl 20 (by decide) mw_755 (Or.inl rfl) rfl d_Mo_record_39 ?_
      refine z_iconstN hC 1 d_Mo_record_42 rfl ?_
      refine z_iaddN hC d_Mo_record_43 ?_
      refine z_put (v := .int (iI ((rc + 1 : Nat) : Int))) (ty := .int) (w' := [(m0, .inr (10, [.int (iI ((0 : Nat) : Int)), .ref m1, .int (iI ((sn : Nat) : Int)), .int (iI ((ap : Nat) : Int)), .int (iI ((wr : Nat) : Int)), .ref m2, .ref m3, .ref m4, .int (iI ((xc : Nat) : Int)), .ref m5, .int (iI ((un : Nat) : Int)), .ref m6, .ref m7, .int (iI ((bc : Nat) : Int)), .ref m8, .int (iI ((wc : Nat) : Int)), .ref m9, .ref m10, .ref m11, .ref m12, .int (iI ((rc + 1 : Nat) : Int)), .ref m13, .ref m14, .ref m15, .ref m16, .ref m17, .int (iI ((hc : Nat) : Int)), .ref m18, .ref m19])), (m13, .inl ((g.2.1 1), 61, .inr (.inl mo)))]) hC hi_Mo ty_Mo ok_Mo nm_Mo 0 rfl rfl 20 (by decide) mw_755 rfl rfl rfl rfl rfl (Nat.le_of_ble_eq_true rfl) rfl d_Mo_record_44 ?_
      refine z_aload_n hC d_Mo_record_47 rfl 0 rfl ?_
      refine z_get hC hi_Mo 0 rfl rfl 21 (by decide) mw_756 (Or.inl rfl) rfl d_Mo_record_48 ?_
      refine z_aload_n hC d_Mo_record_51 rfl 0 rfl ?_
      refine z_get hC hi_Mo 0 rfl rfl 20 (by decide) mw_755 (Or.inl rfl) rfl d_Mo_record_52 ?_
      refine z_lload_n hC d_Mo_record_55 rfl 1 rfl ?_
      refine z_last (v := t) (w' := [(m0, .inr (10, [.int (iI ((0 : Nat) : Int)), .ref m1, .int (iI ((sn : Nat) : Int)), .int (iI ((ap : Nat) : Int)), .int (iI ((wr : Nat) : Int)), .ref m2, .ref m3, .ref m4, .int (iI ((xc : Nat) : Int)), .ref m5, .int (iI ((un : Nat) : Int)), .ref m6, .ref m7, .int (iI ((bc : Nat) : Int)), .ref m8, .int (iI ((wc : Nat) : Int)), .ref m9, .ref m10, .ref m11, .ref m12, .int (iI ((rc + 1 : Nat) : Int)), .ref m13, .ref m14, .ref m15, .ref m16, .ref m17, .int (iI ((hc : Nat) : Int)), .ref m18, .ref m19])), (m13, .inl ((g.2.1 1), 61, .inr (.inl (vp_updL mo (rc + 1) t))))]) hC 1 1 rfl rfl (rc + 1) rfl (by omega) (by decide) rfl d_Mo_record_56 ?_
      refine z_aload_n hC d_Mo_record_57 rfl 0 rfl ?_
      refine z_get hC hi_Mo 0 rfl rfl 20 (by decide) mw_755 (Or.inl rfl) rfl d_Mo_record_58 ?_
      exact Z.eq (by first | (exfalso; omega) | (simp only [if_pos (show rc < 60 ∧ (rc = 0 ∨ ¬ t < mo rc) from ⟨by omega, Or.inl (by omega)⟩)]; done) | (simp only [if_pos (show rc < 60 ∧ (rc = 0 ∨ ¬ t < mo rc) from ⟨by omega, Or.inr (by assumption)⟩)]; done) | (simp only [if_neg (show ¬ (rc < 60 ∧ (rc = 0 ∨ ¬ t < mo rc)) from fun h => absurd h.1 (by omega))]; done) | (simp only [if_neg (show ¬ (rc < 60 ∧ (rc = 0 ∨ ¬ t < mo rc)) from fun h => h.2.elim (fun z => by omega) (fun z => z (by assumption)))]; done)) rfl rfl (by first | (exfalso; omega) | (simp only [if_pos (show rc < 60 ∧ (rc = 0 ∨ ¬ t < mo rc) from ⟨by omega, Or.inl (by omega)⟩)]; done) | (simp only [if_pos (show rc < 60 ∧ (rc = 0 ∨ ¬ t < mo rc) from ⟨by omega, Or.inr (by assumption)⟩)]; done) | (simp only [if_neg (show ¬ (rc < 60 ∧ (rc = 0 ∨ ¬ t < mo rc)) from fun h => absurd h.1 (by omega))]; done) | (simp only [if_neg (show ¬ (rc < 60 ∧ (rc = 0 ∨ ¬ t < mo rc)) from fun h => h.2.elim (fun z => by omega) (fun z => z (by assumption)))]; done)) (hR _ _ d_Mo_record_61)
    · refine z_lload_n hC d_Mo_record_21 rfl 1 rfl ?_
      refine z_aload_n hC d_Mo_record_22 rfl 0 rfl ?_
      refine z_get hC hi_Mo 0 rfl rfl 21 (by decide) mw_756 (Or.inl rfl) rfl d_Mo_record_23 ?_
      refine z_aload_n hC d_Mo_record_26 rfl 0 rfl ?_
      refine z_get hC hi_Mo 0 rfl rfl 20 (by decide) mw_755 (Or.inl rfl) rfl d_Mo_record_27 ?_
      refine z_lald hC 1 1 rfl rfl rc rfl (by omega) (by decide) d_Mo_record_30 ?_
      refine z_lc_ge (tgt := 37) hC d_Mo_record_31 d_Mo_record_32 rfl (fun c_3 => ?_) (fun c_3 => ?_)
      · refine z_aload_n hC d_Mo_record_37 rfl 0 rfl ?_
        refine z_dup hC d_Mo_record_38 rfl ?_
        refine z_get hC hi_Mo 0 rfl rfl 20 (by decide) mw_755 (Or.inl rfl) rfl d_Mo_record_39 ?_
        refine z_iconstN hC 1 d_Mo_record_42 rfl ?_
        refine z_iaddN hC d_Mo_record_43 ?_
        refine z_put (v := .int (iI ((rc + 1 : Nat) : Int))) (ty := .int) (w' := [(m0, .inr (10, [.int (iI ((0 : Nat) : Int)), .ref m1, .int (iI ((sn : Nat) : Int)), .int (iI ((ap : Nat) : Int)), .int (iI ((wr : Nat) : Int)), .ref m2, .ref m3, .ref m4, .int (iI ((xc : Nat) : Int)), .ref m5, .int (iI ((un : Nat) : Int)), .ref m6, .ref m7, .int (iI ((bc : Nat) : Int)), .ref m8, .int (iI ((wc : Nat) : Int)), .ref m9, .ref m10, .ref m11, .ref m12, .int (iI ((rc + 1 : Nat) : Int)), .ref m13, .ref m14, .ref m15, .ref m16, .ref m17, .int (iI ((hc : Nat) : Int)), .ref m18, .ref m19])), (m13, .inl ((g.2.1 1), 61, .inr (.inl mo)))]) hC hi_Mo ty_Mo ok_Mo nm_Mo 0 rfl rfl 20 (by decide) mw_755 rfl rfl rfl rfl rfl (Nat.le_of_ble_eq_true rfl) rfl d_Mo_record_44 ?_
        refine z_aload_n hC d_Mo_record_47 rfl 0 rfl ?_
        refine z_get hC hi_Mo 0 rfl rfl 21 (by decide) mw_756 (Or.inl rfl) rfl d_Mo_record_48 ?_
        refine z_aload_n hC d_Mo_record_51 rfl 0 rfl ?_
        refine z_get hC hi_Mo 0 rfl rfl 20 (by decide) mw_755 (Or.inl rfl) rfl d_Mo_record_52 ?_
        refine z_lload_n hC d_Mo_record_55 rfl 1 rfl ?_
        refine z_last (v := t) (w' := [(m0, .inr (10, [.int (iI ((0 : Nat) : Int)), .ref m1, .int (iI ((sn : Nat) : Int)), .int (iI ((ap : Nat) : Int)), .int (iI ((wr : Nat) : Int)), .ref m2, .ref m3, .ref m4, .int (iI ((xc : Nat) : Int)), .ref m5, .int (iI ((un : Nat) : Int)), .ref m6, .ref m7, .int (iI ((bc : Nat) : Int)), .ref m8, .int (iI ((wc : Nat) : Int)), .ref m9, .ref m10, .ref m11, .ref m12, .int (iI ((rc + 1 : Nat) : Int)), .ref m13, .ref m14, .ref m15, .ref m16, .ref m17, .int (iI ((hc : Nat) : Int)), .ref m18, .ref m19])), (m13, .inl ((g.2.1 1), 61, .inr (.inl (vp_updL mo (rc + 1) t))))]) hC 1 1 rfl rfl (rc + 1) rfl (by omega) (by decide) rfl d_Mo_record_56 ?_
        refine z_aload_n hC d_Mo_record_57 rfl 0 rfl ?_
        refine z_get hC hi_Mo 0 rfl rfl 20 (by decide) mw_755 (Or.inl rfl) rfl d_Mo_record_58 ?_
        exact Z.eq (by first | (exfalso; omega) | (simp only [if_pos (show rc < 60 ∧ (rc = 0 ∨ ¬ t < mo rc) from ⟨by omega, Or.inl (by omega)⟩)]; done) | (simp only [if_pos (show rc < 60 ∧ (rc = 0 ∨ ¬ t < mo rc) from ⟨by omega, Or.inr (by assumption)⟩)]; done) | (simp only [if_neg (show ¬ (rc < 60 ∧ (rc = 0 ∨ ¬ t < mo rc)) from fun h => absurd h.1 (by omega))]; done) | (simp only [if_neg (show ¬ (rc < 60 ∧ (rc = 0 ∨ ¬ t < mo rc)) from fun h => h.2.elim (fun z => by omega) (fun z => z (by assumption)))]; done)) rfl rfl (by first | (exfalso; omega) | (simp only [if_pos (show rc < 60 ∧ (rc = 0 ∨ ¬ t < mo rc) from ⟨by omega, Or.inl (by omega)⟩)]; done) | (simp only [if_pos (show rc < 60 ∧ (rc = 0 ∨ ¬ t < mo rc) from ⟨by omega, Or.inr (by assumption)⟩)]; done) | (simp only [if_neg (show ¬ (rc < 60 ∧ (rc = 0 ∨ ¬ t < mo rc)) from fun h => absurd h.1 (by omega))]; done) | (simp only [if_neg (show ¬ (rc < 60 ∧ (rc = 0 ∨ ¬ t < mo rc)) from fun h => h.2.elim (fun z => by omega) (fun z => z (by assumption)))]; done)) (hR _ _ d_Mo_record_61)
      · refine z_iconstN hC 0 d_Mo_record_35 rfl ?_
        exact Z.eq (by first | (exfalso; omega) | (simp only [if_pos (show rc < 60 ∧ (rc = 0 ∨ ¬ t < mo rc) from ⟨by omega, Or.inl (by omega)⟩)]; done) | (simp only [if_pos (show rc < 60 ∧ (rc = 0 ∨ ¬ t < mo rc) from ⟨by omega, Or.inr (by assumption)⟩)]; done) | (simp only [if_neg (show ¬ (rc < 60 ∧ (rc = 0 ∨ ¬ t < mo rc)) from fun h => absurd h.1 (by omega))]; done) | (simp only [if_neg (show ¬ (rc < 60 ∧ (rc = 0 ∨ ¬ t < mo rc)) from fun h => h.2.elim (fun z => by omega) (fun z => z (by assumption)))]; done)) rfl rfl (by first | (exfalso; omega) | (simp only [if_pos (show rc < 60 ∧ (rc = 0 ∨ ¬ t < mo rc) from ⟨by omega, Or.inl (by omega)⟩)]; done) | (simp only [if_pos (show rc < 60 ∧ (rc = 0 ∨ ¬ t < mo rc) from ⟨by omega, Or.inr (by assumption)⟩)]; done) | (simp only [if_neg (show ¬ (rc < 60 ∧ (rc = 0 ∨ ¬ t < mo rc)) from fun h => absurd h.1 (by omega))]; done) | (simp only [if_neg (show ¬ (rc < 60 ∧ (rc = 0 ∨ ¬ t < mo rc)) from fun h => h.2.elim (fun z => by omega) (fun z => z (by assumption)))]; done)) (hR _ _ d_Mo_record_36)
set_option maxHeartbeats 4000000 in
set_option maxRecDepth 100000 in
theorem k_Mo_entry (l : Launch) (g : ZG) (m0 m1 m2 m3 m4 m5 m6 m7 m8 m9 m10 m11 m12 m13 m14 m15 m16 m17 m18 m19 sn ap wr xc un bc wc rc hc : Nat) (en : Nat → Int32 × Nat) (ec : Nat → Nat) (i j v : Int) (hrc : rc ≤ 60) (hxc : xc ≤ 8) (hi : -2147483648 ≤ i ∧ i < 2147483648) (hj : -2147483648 ≤ j ∧ j < 2147483648) (hv : -2147483648 ≤ v ∧ v < 2147483648) (hec : ∀ k, ec k ≤ 8)   : Ct l g y_Mo_entry c_Mo_entry 5 (some .int) { frames := 0, cells := 0, slots := 0, locals := 0 } [.ref m0, .int (iI i), .int (iI j), .int (iI v)] [(m0, .inr (10, [.int (iI ((0 : Nat) : Int)), .ref m1, .int (iI ((sn : Nat) : Int)), .int (iI ((ap : Nat) : Int)), .int (iI ((wr : Nat) : Int)), .ref m2, .ref m3, .ref m4, .int (iI ((xc : Nat) : Int)), .ref m5, .int (iI ((un : Nat) : Int)), .ref m6, .ref m7, .int (iI ((bc : Nat) : Int)), .ref m8, .int (iI ((wc : Nat) : Int)), .ref m9, .ref m10, .ref m11, .ref m12, .int (iI ((rc : Nat) : Int)), .ref m13, .ref m14, .ref m15, .ref m16, .ref m17, .int (iI ((hc : Nat) : Int)), .ref m18, .ref m19])), (m14, .inl ((g.2.1 0), 976, .inl (pe en))), (m15, .inl ((g.2.1 0), 61, .inl (nF ec)))] (some (.int (iI ((if 1 ≤ i ∧ i ≤ rc ∧ 0 ≤ j ∧ j < xc ∧ 0 ≤ v ∧ v ≤ 99999 ∧ ec i.toNat < 8 then ec i.toNat + 1 else 0 : Nat) : Int)))) [(m0, .inr (10, [.int (iI ((0 : Nat) : Int)), .ref m1, .int (iI ((sn : Nat) : Int)), .int (iI ((ap : Nat) : Int)), .int (iI ((wr : Nat) : Int)), .ref m2, .ref m3, .ref m4, .int (iI ((xc : Nat) : Int)), .ref m5, .int (iI ((un : Nat) : Int)), .ref m6, .ref m7, .int (iI ((bc : Nat) : Int)), .ref m8, .int (iI ((wc : Nat) : Int)), .ref m9, .ref m10, .ref m11, .ref m12, .int (iI ((rc : Nat) : Int)), .ref m13, .ref m14, .ref m15, .ref m16, .ref m17, .int (iI ((hc : Nat) : Int)), .ref m18, .ref m19])), (m14, .inl ((g.2.1 0), 976, .inl (pe (if 1 ≤ i ∧ i ≤ rc ∧ 0 ≤ j ∧ j < xc ∧ 0 ≤ v ∧ v ≤ 99999 ∧ ec i.toNat < 8 then up en (8 * i.toNat + ec i.toNat) (iI j, v.toNat) else en)))), (m15, .inl ((g.2.1 0), 61, .inl (nF (if 1 ≤ i ∧ i ≤ rc ∧ 0 ≤ j ∧ j < xc ∧ 0 ≤ v ∧ v ≤ 99999 ∧ ec i.toNat < 8 then up ec i.toNat (ec i.toNat + 1) else ec))))] := by
  refine ct_i (lv := [(0, .ref m0), (1, .int (iI i)), (2, .int (iI j)), (3, .int (iI v))]) (by decide) rfl (Nat.le_of_ble_eq_true rfl) rfl ?_
  intro x hC hR
  have he9 := hec i.toNat
  refine z_aload_n hC d_Mo_entry_0 rfl 0 rfl ?_
  refine z_iconstN hC 0 d_Mo_entry_1 rfl ?_
  refine z_put (v := .int (iI ((0 : Nat) : Int))) (ty := .int) (w' := [(m0, .inr (10, [.int (iI ((0 : Nat) : Int)), .ref m1, .int (iI ((sn : Nat) : Int)), .int (iI ((ap : Nat) : Int)), .int (iI ((wr : Nat) : Int)), .ref m2, .ref m3, .ref m4, .int (iI ((xc : Nat) : Int)), .ref m5, .int (iI ((un : Nat) : Int)), .ref m6, .ref m7, .int (iI ((bc : Nat) : Int)), .ref m8, .int (iI ((wc : Nat) : Int)), .ref m9, .ref m10, .ref m11, .ref m12, .int (iI ((rc : Nat) : Int)), .ref m13, .ref m14, .ref m15, .ref m16, .ref m17, .int (iI ((hc : Nat) : Int)), .ref m18, .ref m19])), (m14, .inl ((g.2.1 0), 976, .inl (pe en))), (m15, .inl ((g.2.1 0), 61, .inl (nF ec)))]) hC hi_Mo ty_Mo ok_Mo nm_Mo 0 rfl rfl 0 (by decide) mw_735 rfl rfl rfl rfl rfl (Nat.le_of_ble_eq_true rfl) rfl d_Mo_entry_2 ?_
  refine z_iload_n hC d_Mo_entry_5 rfl 1 rfl ?_
  refine z_iconstN hC 1 d_Mo_entry_6 rfl ?_
  refine z_icmp_lt (tgt := 51) hC i ((1 : Nat) : Int) d_Mo_entry_7 rfl (iI_t (by omega)) (iI_t (by omega)) (fun c_1 => ?_) (fun c_1 => ?_)
  · refine z_iconstN hC 0 d_Mo_entry_51 rfl ?_
    exact Z.eq (by first | (simp only [if_neg (show ¬ (1 ≤ i ∧ i ≤ rc ∧ 0 ≤ j ∧ j < xc ∧ 0 ≤ v ∧ v ≤ 99999 ∧ ec i.toNat < 8) by omega)]; done) | (simp only [if_pos (show 1 ≤ i ∧ i ≤ rc ∧ 0 ≤ j ∧ j < xc ∧ 0 ≤ v ∧ v ≤ 99999 ∧ ec i.toNat < 8 by omega)]; rw [pe_up en (n := 8 * i.toNat + ec i.toNat) (c := v.toNat) (by omega) (by omega) (by omega)])) rfl rfl (by first | (rw [if_neg (show ¬ (1 ≤ i ∧ i ≤ rc ∧ 0 ≤ j ∧ j < xc ∧ 0 ≤ v ∧ v ≤ 99999 ∧ ec i.toNat < 8) by omega)]; done) | (rw [if_pos (show 1 ≤ i ∧ i ≤ rc ∧ 0 ≤ j ∧ j < xc ∧ 0 ≤ v ∧ v ≤ 99999 ∧ ec i.toNat < 8 by omega), up_eq])) (hR _ _ d_Mo_entry_52)
  · refine z_iload_n hC d_Mo_entry_10 rfl 1 rfl ?_
    refine z_aload_n hC d_Mo_entry_11 rfl 0 rfl ?_
    refine z_get hC hi_Mo 0 rfl rfl 20 (by decide) mw_755 (Or.inl rfl) rfl d_Mo_entry_12 ?_
    refine z_icmp_gt (tgt := 51) hC i ((rc : Nat) : Int) d_Mo_entry_15 rfl (iI_t (by omega)) (iI_t (by omega)) (fun c_2 => ?_) (fun c_2 => ?_)
    · refine z_iconstN hC 0 d_Mo_entry_51 rfl ?_
      exact Z.eq (by first | (simp only [if_neg (show ¬ (1 ≤ i ∧ i ≤ rc ∧ 0 ≤ j ∧ j < xc ∧ 0 ≤ v ∧ v ≤ 99999 ∧ ec i.toNat < 8) by omega)]; done) | (simp only [if_pos (show 1 ≤ i ∧ i ≤ rc ∧ 0 ≤ j ∧ j < xc ∧ 0 ≤ v ∧ v ≤ 99999 ∧ ec i.toNat < 8 by omega)]; rw [pe_up en (n := 8 * i.toNat + ec i.toNat) (c := v.toNat) (by omega) (by omega) (by omega)])) rfl rfl (by first | (rw [if_neg (show ¬ (1 ≤ i ∧ i ≤ rc ∧ 0 ≤ j ∧ j < xc ∧ 0 ≤ v ∧ v ≤ 99999 ∧ ec i.toNat < 8) by omega)]; done) | (rw [if_pos (show 1 ≤ i ∧ i ≤ rc ∧ 0 ≤ j ∧ j < xc ∧ 0 ≤ v ∧ v ≤ 99999 ∧ ec i.toNat < 8 by omega), up_eq])) (hR _ _ d_Mo_entry_52)
    · refine z_iload_n hC d_Mo_entry_18 rfl 2 rfl ?_
      refine z_if_lt (tgt := 51) hC j d_Mo_entry_19 rfl (iI_t (by omega)) (fun c_3 => ?_) (fun c_3 => ?_)
      · refine z_iconstN hC 0 d_Mo_entry_51 rfl ?_
        exact Z.eq (by first | (simp only [if_neg (show ¬ (1 ≤ i ∧ i ≤ rc ∧ 0 ≤ j ∧ j < xc ∧ 0 ≤ v ∧ v ≤ 99999 ∧ ec i.toNat < 8) by omega)]; done) | (simp only [if_pos (show 1 ≤ i ∧ i ≤ rc ∧ 0 ≤ j ∧ j < xc ∧ 0 ≤ v ∧ v ≤ 99999 ∧ ec i.toNat < 8 by omega)]; rw [pe_up en (n := 8 * i.toNat + ec i.toNat) (c := v.toNat) (by omega) (by omega) (by omega)])) rfl rfl (by first | (rw [if_neg (show ¬ (1 ≤ i ∧ i ≤ rc ∧ 0 ≤ j ∧ j < xc ∧ 0 ≤ v ∧ v ≤ 99999 ∧ ec i.toNat < 8) by omega)]; done) | (rw [if_pos (show 1 ≤ i ∧ i ≤ rc ∧ 0 ≤ j ∧ j < xc ∧ 0 ≤ v ∧ v ≤ 99999 ∧ ec i.toNat < 8 by omega), up_eq])) (hR _ _ d_Mo_entry_52)
      · refine z_iload_n hC d_Mo_entry_22 rfl 2 rfl ?_
        refine z_aload_n hC d_Mo_entry_23 rfl 0 rfl ?_
        refine z_get hC hi_Mo 0 rfl rfl 8 (by decide) mw_743 (Or.inl rfl) rfl d_Mo_entry_24 ?_
        refine z_icmp_ge (tgt := 51) hC j ((xc : Nat) : Int) d_Mo_entry_27 rfl (iI_t (by omega)) (iI_t (by omega)) (fun c_4 => ?_) (fun c_4 => ?_)
        · refine z_iconstN hC 0 d_Mo_entry_51 rfl ?_
          exact Z.eq (by first | (simp only [if_neg (show ¬ (1 ≤ i ∧ i ≤ rc ∧ 0 ≤ j ∧ j < xc ∧ 0 ≤ v ∧ v ≤ 99999 ∧ ec i.toNat < 8) by omega)]; done) | (simp only [if_pos (show 1 ≤ i ∧ i ≤ rc ∧ 0 ≤ j ∧ j < xc ∧ 0 ≤ v ∧ v ≤ 99999 ∧ ec i.toNat < 8 by omega)]; rw [pe_up en (n := 8 * i.toNat + ec i.toNat) (c := v.toNat) (by omega) (by omega) (by omega)])) rfl rfl (by first | (rw [if_neg (show ¬ (1 ≤ i ∧ i ≤ rc ∧ 0 ≤ j ∧ j < xc ∧ 0 ≤ v ∧ v ≤ 99999 ∧ ec i.toNat < 8) by omega)]; done) | (rw [if_pos (show 1 ≤ i ∧ i ≤ rc ∧ 0 ≤ j ∧ j < xc ∧ 0 ≤ v ∧ v ≤ 99999 ∧ ec i.toNat < 8 by omega), up_eq])) (hR _ _ d_Mo_entry_52)
        · refine z_iload_n hC d_Mo_entry_30 rfl 3 rfl ?_
          refine z_if_lt (tgt := 51) hC v d_Mo_entry_31 rfl (iI_t (by omega)) (fun c_5 => ?_) (fun c_5 => ?_)
          · refine z_iconstN hC 0 d_Mo_entry_51 rfl ?_
            exact Z.eq (by first | (simp only [if_neg (show ¬ (1 ≤ i ∧ i ≤ rc ∧ 0 ≤ j ∧ j < xc ∧ 0 ≤ v ∧ v ≤ 99999 ∧ ec i.toNat < 8) by omega)]; done) | (simp only [if_pos (show 1 ≤ i ∧ i ≤ rc ∧ 0 ≤ j ∧ j < xc ∧ 0 ≤ v ∧ v ≤ 99999 ∧ ec i.toNat < 8 by omega)]; rw [pe_up en (n := 8 * i.toNat + ec i.toNat) (c := v.toNat) (by omega) (by omega) (by omega)])) rfl rfl (by first | (rw [if_neg (show ¬ (1 ≤ i ∧ i ≤ rc ∧ 0 ≤ j ∧ j < xc ∧ 0 ≤ v ∧ v ≤ 99999 ∧ ec i.toNat < 8) by omega)]; done) | (rw [if_pos (show 1 ≤ i ∧ i ≤ rc ∧ 0 ≤ j ∧ j < xc ∧ 0 ≤ v ∧ v ≤ 99999 ∧ ec i.toNat < 8 by omega), up_eq])) (hR _ _ d_Mo_entry_52)
          · refine z_iload_n hC d_Mo_entry_34 rfl 3 rfl ?_
            refine z_ldc (a := ((99999 : Nat) : Int)) hC mw_949 (by decide) d_Mo_entry_35 ?_
            refine z_icmp_gt (tgt := 51) hC v ((99999 : Nat) : Int) d_Mo_entry_37 rfl (iI_t (by omega)) (iI_t (by omega)) (fun c_6 => ?_) (fun c_6 => ?_)
            · refine z_iconstN hC 0 d_Mo_entry_51 rfl ?_
              exact Z.eq (by first | (simp only [if_neg (show ¬ (1 ≤ i ∧ i ≤ rc ∧ 0 ≤ j ∧ j < xc ∧ 0 ≤ v ∧ v ≤ 99999 ∧ ec i.toNat < 8) by omega)]; done) | (simp only [if_pos (show 1 ≤ i ∧ i ≤ rc ∧ 0 ≤ j ∧ j < xc ∧ 0 ≤ v ∧ v ≤ 99999 ∧ ec i.toNat < 8 by omega)]; rw [pe_up en (n := 8 * i.toNat + ec i.toNat) (c := v.toNat) (by omega) (by omega) (by omega)])) rfl rfl (by first | (rw [if_neg (show ¬ (1 ≤ i ∧ i ≤ rc ∧ 0 ≤ j ∧ j < xc ∧ 0 ≤ v ∧ v ≤ 99999 ∧ ec i.toNat < 8) by omega)]; done) | (rw [if_pos (show 1 ≤ i ∧ i ≤ rc ∧ 0 ≤ j ∧ j < xc ∧ 0 ≤ v ∧ v ≤ 99999 ∧ ec i.toNat < 8 by omega), up_eq])) (hR _ _ d_Mo_entry_52)
            · refine z_aload_n hC d_Mo_entry_40 rfl 0 rfl ?_
              refine z_get hC hi_Mo 0 rfl rfl 23 (by decide) mw_758 (Or.inl rfl) rfl d_Mo_entry_41 ?_
              refine z_iload_n hC d_Mo_entry_44 rfl 1 rfl ?_
              refine z_ialdN hC 2 0 rfl rfl ((i).toNat) (by omega) (by omega) (by decide) d_Mo_entry_45 ?_
              refine z_bipush (a := ((8 : Nat) : Int)) hC d_Mo_entry_46 (by decide) ?_
              refine z_icmp_ne (tgt := 53) hC ((ec ((i).toNat) : Nat) : Int) ((8 : Nat) : Int) d_Mo_entry_48 rfl (iI_t (by omega)) (iI_t (by omega)) (fun c_7 => ?_) (fun c_7 => ?_)
              · refine z_bipush (a := ((16 : Nat) : Int)) hC d_Mo_entry_53 (by decide) ?_
                refine z_iload_n hC d_Mo_entry_55 rfl 1 rfl ?_
                refine z_imul hC d_Mo_entry_56 ?_
                refine z_iconstN hC 2 d_Mo_entry_57 rfl ?_
                refine z_aload_n hC d_Mo_entry_58 rfl 0 rfl ?_
                refine z_get hC hi_Mo 0 rfl rfl 23 (by decide) mw_758 (Or.inl rfl) rfl d_Mo_entry_59 ?_
                refine z_iload_n hC d_Mo_entry_62 rfl 1 rfl ?_
                refine z_ialdN hC 2 0 rfl rfl ((i).toNat) (by omega) (by omega) (by decide) d_Mo_entry_63 ?_
                refine z_imulN hC d_Mo_entry_64 ?_
                refine z_iadd hC d_Mo_entry_65 ?_
                refine z_istore (lv' := [(4, .int (iI ((((16 : Nat) : Int) * i) + ((2 * (ec ((i).toNat)) : Nat) : Int)))), (0, .ref m0), (1, .int (iI i)), (2, .int (iI j)), (3, .int (iI v))]) hC d_Mo_entry_66 (by decide) rfl ?_
                refine z_aload_n hC d_Mo_entry_68 rfl 1 rfl ?_
                refine z_get hC hi_Mo 0 rfl rfl 22 (by decide) mw_757 (Or.inl rfl) rfl d_Mo_entry_69 ?_
                refine z_iload hC d_Mo_entry_72 0 rfl ?_
                refine z_iload_n hC d_Mo_entry_74 rfl 3 rfl ?_
                refine z_iast (v := (iI j)) (w' := [(m0, .inr (10, [.int (iI ((0 : Nat) : Int)), .ref m1, .int (iI ((sn : Nat) : Int)), .int (iI ((ap : Nat) : Int)), .int (iI ((wr : Nat) : Int)), .ref m2, .ref m3, .ref m4, .int (iI ((xc : Nat) : Int)), .ref m5, .int (iI ((un : Nat) : Int)), .ref m6, .ref m7, .int (iI ((bc : Nat) : Int)), .ref m8, .int (iI ((wc : Nat) : Int)), .ref m9, .ref m10, .ref m11, .ref m12, .int (iI ((rc : Nat) : Int)), .ref m13, .ref m14, .ref m15, .ref m16, .ref m17, .int (iI ((hc : Nat) : Int)), .ref m18, .ref m19])), (m14, .inl ((g.2.1 0), 976, .inl (upd (pe en) (((((16 : Nat) : Int) * i) + ((2 * (ec ((i).toNat)) : Nat) : Int)).toNat) (iI j)))), (m15, .inl ((g.2.1 0), 61, .inl (nF ec)))]) hC 1 0 rfl rfl (((((16 : Nat) : Int) * i) + ((2 * (ec ((i).toNat)) : Nat) : Int)).toNat) (by omega) (by omega) (by decide) rfl d_Mo_entry_75 ?_
                refine z_aload_n hC d_Mo_entry_76 rfl 1 rfl ?_
                refine z_get hC hi_Mo 0 rfl rfl 22 (by decide) mw_757 (Or.inl rfl) rfl d_Mo_entry_77 ?_
                refine z_iload hC d_Mo_entry_80 0 rfl ?_
                refine z_iconstN hC 1 d_Mo_entry_82 rfl ?_
                refine z_iadd hC d_Mo_entry_83 ?_
                refine z_iload_n hC d_Mo_entry_84 rfl 4 rfl ?_
                refine z_iast (v := (iI v)) (w' := [(m0, .inr (10, [.int (iI ((0 : Nat) : Int)), .ref m1, .int (iI ((sn : Nat) : Int)), .int (iI ((ap : Nat) : Int)), .int (iI ((wr : Nat) : Int)), .ref m2, .ref m3, .ref m4, .int (iI ((xc : Nat) : Int)), .ref m5, .int (iI ((un : Nat) : Int)), .ref m6, .ref m7, .int (iI ((bc : Nat) : Int)), .ref m8, .int (iI ((wc : Nat) : Int)), .ref m9, .ref m10, .ref m11, .ref m12, .int (iI ((rc : Nat) : Int)), .ref m13, .ref m14, .ref m15, .ref m16, .ref m17, .int (iI ((hc : Nat) : Int)), .ref m18, .ref m19])), (m14, .inl ((g.2.1 0), 976, .inl (upd (upd (pe en) (((((16 : Nat) : Int) * i) + ((2 * (ec ((i).toNat)) : Nat) : Int)).toNat) (iI j)) ((((((16 : Nat) : Int) * i) + ((2 * (ec ((i).toNat)) : Nat) : Int)) + ((1 : Nat) : Int)).toNat) (iI v)))), (m15, .inl ((g.2.1 0), 61, .inl (nF ec)))]) hC 1 0 rfl rfl ((((((16 : Nat) : Int) * i) + ((2 * (ec ((i).toNat)) : Nat) : Int)) + ((1 : Nat) : Int)).toNat) (by omega) (by omega) (by decide) rfl d_Mo_entry_85 ?_
                refine z_aload_n hC d_Mo_entry_86 rfl 1 rfl ?_
                refine z_get hC hi_Mo 0 rfl rfl 23 (by decide) mw_758 (Or.inl rfl) rfl d_Mo_entry_87 ?_
                refine z_iload_n hC d_Mo_entry_90 rfl 2 rfl ?_
                refine z_dup2 hC d_Mo_entry_91 rfl rfl ?_
                refine z_ialdN hC 2 0 rfl rfl ((i).toNat) (by omega) (by omega) (by decide) d_Mo_entry_92 ?_
                refine z_iconstN hC 1 d_Mo_entry_93 rfl ?_
                refine z_iaddN hC d_Mo_entry_94 ?_
                refine z_iastN (v := (ec ((i).toNat)) + 1) (w' := [(m0, .inr (10, [.int (iI ((0 : Nat) : Int)), .ref m1, .int (iI ((sn : Nat) : Int)), .int (iI ((ap : Nat) : Int)), .int (iI ((wr : Nat) : Int)), .ref m2, .ref m3, .ref m4, .int (iI ((xc : Nat) : Int)), .ref m5, .int (iI ((un : Nat) : Int)), .ref m6, .ref m7, .int (iI ((bc : Nat) : Int)), .ref m8, .int (iI ((wc : Nat) : Int)), .ref m9, .ref m10, .ref m11, .ref m12, .int (iI ((rc : Nat) : Int)), .ref m13, .ref m14, .ref m15, .ref m16, .ref m17, .int (iI ((hc : Nat) : Int)), .ref m18, .ref m19])), (m14, .inl ((g.2.1 0), 976, .inl (upd (upd (pe en) (((((16 : Nat) : Int) * i) + ((2 * (ec ((i).toNat)) : Nat) : Int)).toNat) (iI j)) ((((((16 : Nat) : Int) * i) + ((2 * (ec ((i).toNat)) : Nat) : Int)) + ((1 : Nat) : Int)).toNat) (iI v)))), (m15, .inl ((g.2.1 0), 61, .inl (nF (up ec ((i).toNat) ((ec ((i).toNat)) + 1)))))]) hC 2 0 rfl rfl ((i).toNat) (by omega) (by omega) (by decide) rfl d_Mo_entry_95 ?_
                refine z_aload_n hC d_Mo_entry_96 rfl 1 rfl ?_
                refine z_get hC hi_Mo 0 rfl rfl 23 (by decide) mw_758 (Or.inl rfl) rfl d_Mo_entry_97 ?_
                refine z_iload_n hC d_Mo_entry_100 rfl 2 rfl ?_
                refine z_ialdN hC 2 0 rfl rfl ((i).toNat) (by omega) (by omega) (by decide) d_Mo_entry_101 ?_
                exact Z.eq (by first | (simp only [if_neg (show ¬ (1 ≤ i ∧ i ≤ rc ∧ 0 ≤ j ∧ j < xc ∧ 0 ≤ v ∧ v ≤ 99999 ∧ ec i.toNat < 8) by omega)]; done) | (simp only [if_pos (show 1 ≤ i ∧ i ≤ rc ∧ 0 ≤ j ∧ j < xc ∧ 0 ≤ v ∧ v ≤ 99999 ∧ ec i.toNat < 8 by omega)]; rw [pe_up en (n := 8 * i.toNat + ec i.toNat) (c := v.toNat) (by omega) (by omega) (by omega)])) rfl rfl (by first | (rw [if_neg (show ¬ (1 ≤ i ∧ i ≤ rc ∧ 0 ≤ j ∧ j < xc ∧ 0 ≤ v ∧ v ≤ 99999 ∧ ec i.toNat < 8) by omega)]; done) | (rw [if_pos (show 1 ≤ i ∧ i ≤ rc ∧ 0 ≤ j ∧ j < xc ∧ 0 ≤ v ∧ v ≤ 99999 ∧ ec i.toNat < 8 by omega), up_eq])) (hR _ _ d_Mo_entry_102)
              · refine z_iconstN hC 0 d_Mo_entry_51 rfl ?_
                exact Z.eq (by first | (simp only [if_neg (show ¬ (1 ≤ i ∧ i ≤ rc ∧ 0 ≤ j ∧ j < xc ∧ 0 ≤ v ∧ v ≤ 99999 ∧ ec i.toNat < 8) by omega)]; done) | (simp only [if_pos (show 1 ≤ i ∧ i ≤ rc ∧ 0 ≤ j ∧ j < xc ∧ 0 ≤ v ∧ v ≤ 99999 ∧ ec i.toNat < 8 by omega)]; rw [pe_up en (n := 8 * i.toNat + ec i.toNat) (c := v.toNat) (by omega) (by omega) (by omega)])) rfl rfl (by first | (rw [if_neg (show ¬ (1 ≤ i ∧ i ≤ rc ∧ 0 ≤ j ∧ j < xc ∧ 0 ≤ v ∧ v ≤ 99999 ∧ ec i.toNat < 8) by omega)]; done) | (rw [if_pos (show 1 ≤ i ∧ i ≤ rc ∧ 0 ≤ j ∧ j < xc ∧ 0 ≤ v ∧ v ≤ 99999 ∧ ec i.toNat < 8 by omega), up_eq])) (hR _ _ d_Mo_entry_52)
set_option maxHeartbeats 4000000 in
set_option maxRecDepth 100000 in
theorem k_Mo_beginsWith (l : Launch) (g : ZG) (v : Nat) (b : Int) (hv : v < 100000) (hb : -2147483648 ≤ b ∧ b < 2147483648)   : Ct l g y_Mo_beginsWith c_Mo_beginsWith 3 (some .boolean) { frames := 0, cells := 0, slots := 0, locals := 0 } [.int (iI ((v : Nat) : Int)), .int (iI b)] [] (some (.int (iI (bI (bgB b v))))) [] := by
  refine ct_z (lv := [(0, .int (iI ((v : Nat) : Int))), (1, .int (iI b))]) (by decide) rfl (Nat.le_of_ble_eq_true rfl) rfl ?_
  intro x hC hR
  refine z_iload_n hC d_Mo_beginsWith_0 rfl 0 rfl ?_
  refine z_istore_n (lv' := [(2, .int (iI ((v : Nat) : Int))), (0, .int (iI ((v : Nat) : Int))), (1, .int (iI b))]) hC d_Mo_beginsWith_1 rfl (by decide) rfl ?_
  have L_2 : ∀ (fu : Nat) (r : Nat), (r < 100000) → (bgB b r = bgB b v) → r < fu → Z x (0, 0) [] 2 [(2, .int (iI ((r : Nat) : Int))), (0, .int (iI ((v : Nat) : Int))), (1, .int (iI b))] [] := by
    intro fu
    induction fu with
    | zero => intro r hr hq hmu; exact absurd hmu (Nat.not_lt_zero _)
    | succ fu ih_2 =>
      intro r hr hq hmu
      refine z_iload_n hC d_Mo_beginsWith_2 rfl 0 rfl ?_
      refine z_iload_n hC d_Mo_beginsWith_3 rfl 2 rfl ?_
      refine z_icmp_le (tgt := 21) hC ((r : Nat) : Int) b d_Mo_beginsWith_4 rfl (iI_t (by omega)) (iI_t (by omega)) (fun c_1 => ?_) (fun c_1 => ?_)
      · refine z_iload_n hC d_Mo_beginsWith_21 rfl 0 rfl ?_
        refine z_iload_n hC d_Mo_beginsWith_22 rfl 2 rfl ?_
        refine z_icmp_ne (tgt := 30) hC ((r : Nat) : Int) b d_Mo_beginsWith_23 rfl (iI_t (by omega)) (iI_t (by omega)) (fun c_2 => ?_) (fun c_2 => ?_)
        · refine z_iconstN hC 0 d_Mo_beginsWith_30 rfl ?_
          exact Z.eq rfl rfl rfl (zb_f (by rw [← hq, bg_end (by omega)]; first | exact decide_eq_true (by omega) | exact decide_eq_false (by omega))) (hR _ _ d_Mo_beginsWith_31)
        · refine z_iconstN hC 1 d_Mo_beginsWith_26 rfl ?_
          refine z_goto (tgt := 31) hC d_Mo_beginsWith_27 rfl ?_
          exact Z.eq rfl rfl rfl (zb_t (by rw [← hq, bg_end (by omega)]; first | exact decide_eq_true (by omega) | exact decide_eq_false (by omega))) (hR _ _ d_Mo_beginsWith_31)
      · refine z_iload_n hC d_Mo_beginsWith_7 rfl 0 rfl ?_
        refine z_bipush (a := ((9 : Nat) : Int)) hC d_Mo_beginsWith_8 (by decide) ?_
        refine z_icmp_le (tgt := 21) hC ((r : Nat) : Int) ((9 : Nat) : Int) d_Mo_beginsWith_10 rfl (iI_t (by omega)) (iI_t (by omega)) (fun c_3 => ?_) (fun c_3 => ?_)
        · refine z_iload_n hC d_Mo_beginsWith_21 rfl 0 rfl ?_
          refine z_iload_n hC d_Mo_beginsWith_22 rfl 2 rfl ?_
          refine z_icmp_ne (tgt := 30) hC ((r : Nat) : Int) b d_Mo_beginsWith_23 rfl (iI_t (by omega)) (iI_t (by omega)) (fun c_4 => ?_) (fun c_4 => ?_)
          · refine z_iconstN hC 0 d_Mo_beginsWith_30 rfl ?_
            exact Z.eq rfl rfl rfl (zb_f (by rw [← hq, bg_end (by omega)]; first | exact decide_eq_true (by omega) | exact decide_eq_false (by omega))) (hR _ _ d_Mo_beginsWith_31)
          · refine z_iconstN hC 1 d_Mo_beginsWith_26 rfl ?_
            refine z_goto (tgt := 31) hC d_Mo_beginsWith_27 rfl ?_
            exact Z.eq rfl rfl rfl (zb_t (by rw [← hq, bg_end (by omega)]; first | exact decide_eq_true (by omega) | exact decide_eq_false (by omega))) (hR _ _ d_Mo_beginsWith_31)
        · refine z_iload_n hC d_Mo_beginsWith_13 rfl 0 rfl ?_
          refine z_bipush (a := ((10 : Nat) : Int)) hC d_Mo_beginsWith_14 (by decide) ?_
          refine z_idivN hC d_Mo_beginsWith_16 (by omega) (by omega) (by omega) ?_
          refine z_istore_n (lv' := [(2, .int (iI ((r / 10 : Nat) : Int))), (0, .int (iI ((v : Nat) : Int))), (1, .int (iI b))]) hC d_Mo_beginsWith_17 rfl (by decide) rfl ?_
          refine z_goto (tgt := 2) hC d_Mo_beginsWith_18 rfl ?_
          exact Zloc [0, 1, 2] rfl (Z.eq (w' := []) rfl rfl rfl rfl (ih_2 (r / 10) (by omega) ((bg_step (by omega) (by omega) (by omega)).trans hq) (by omega)))
  exact Zloc [0, 1, 2] rfl (Z.eq (w' := []) rfl rfl rfl rfl (L_2 _ v hv rfl (Nat.lt_succ_self _)))
set_option maxHeartbeats 4000000 in
set_option maxRecDepth 100000 in
theorem k_Mo_has (l : Launch) (g : ZG) (m0 m1 m2 m3 m4 m5 m6 m7 m8 m9 m10 m11 m12 m13 m14 m15 m16 m17 m18 m19 sn ap wr xc un bc wc rc hc : Nat) (tr : Nat → QD) (en : Nat → Int32 × Nat) (ec : Nat → Nat) (r node kk : Nat) (hr : r ≤ 60) (hnode : node = 4 * kk) (hkk : kk < 440) (hec : ∀ k, ec k ≤ 8) (hen : ∀ k, (en k).2 < 100000)   : Ct l g y_Mo_has c_Mo_has 8 (some .boolean) { frames := 1, cells := 0, slots := 0, locals := 22 } [.ref m0, .int (iI ((r : Nat) : Int)), .int (iI ((node : Nat) : Int))] [(m0, .inr (10, [.int (iI ((0 : Nat) : Int)), .ref m1, .int (iI ((sn : Nat) : Int)), .int (iI ((ap : Nat) : Int)), .int (iI ((wr : Nat) : Int)), .ref m2, .ref m3, .ref m4, .int (iI ((xc : Nat) : Int)), .ref m5, .int (iI ((un : Nat) : Int)), .ref m6, .ref m7, .int (iI ((bc : Nat) : Int)), .ref m8, .int (iI ((wc : Nat) : Int)), .ref m9, .ref m10, .ref m11, .ref m12, .int (iI ((rc : Nat) : Int)), .ref m13, .ref m14, .ref m15, .ref m16, .ref m17, .int (iI ((hc : Nat) : Int)), .ref m18, .ref m19])), (m9, .inl ((g.2.1 0), 1760, .inl (pk tr))), (m14, .inl ((g.2.1 0), 976, .inl (pe en))), (m15, .inl ((g.2.1 0), 61, .inl (nF ec)))] (some (.int (iI (bI (smR ec en r (tr kk)))))) [(m0, .inr (10, [.int (iI ((0 : Nat) : Int)), .ref m1, .int (iI ((sn : Nat) : Int)), .int (iI ((ap : Nat) : Int)), .int (iI ((wr : Nat) : Int)), .ref m2, .ref m3, .ref m4, .int (iI ((xc : Nat) : Int)), .ref m5, .int (iI ((un : Nat) : Int)), .ref m6, .ref m7, .int (iI ((bc : Nat) : Int)), .ref m8, .int (iI ((wc : Nat) : Int)), .ref m9, .ref m10, .ref m11, .ref m12, .int (iI ((rc : Nat) : Int)), .ref m13, .ref m14, .ref m15, .ref m16, .ref m17, .int (iI ((hc : Nat) : Int)), .ref m18, .ref m19])), (m9, .inl ((g.2.1 0), 1760, .inl (pk tr))), (m14, .inl ((g.2.1 0), 976, .inl (pe en))), (m15, .inl ((g.2.1 0), 61, .inl (nF ec)))] := by
  refine ct_z (lv := [(0, .ref m0), (1, .int (iI ((r : Nat) : Int))), (2, .int (iI ((node : Nat) : Int)))]) (by decide) rfl (Nat.le_of_ble_eq_true rfl) rfl ?_
  intro x hC hR
  have he9 := hec r
  refine z_iconstN hC 0 d_Mo_has_0 rfl ?_
  refine z_istore_n (lv' := [(3, .int (iI ((0 : Nat) : Int))), (0, .ref m0), (1, .int (iI ((r : Nat) : Int))), (2, .int (iI ((node : Nat) : Int)))]) hC d_Mo_has_1 rfl (by decide) rfl ?_
  refine z_iconstN hC 0 d_Mo_has_2 rfl ?_
  refine z_istore (lv' := [(4, .int (iI ((0 : Nat) : Int))), (3, .int (iI ((0 : Nat) : Int))), (0, .ref m0), (1, .int (iI ((r : Nat) : Int))), (2, .int (iI ((node : Nat) : Int)))]) hC d_Mo_has_3 (by decide) rfl ?_
  have L_5 : ∀ (fu : Nat) (j : Nat) (is : Bool), (j ≤ ec r) → (is = exB (fun z9 => decide ((en (8 * r + z9)).1 = (tr kk).2.1) && vlB (tr kk) (en (8 * r + z9)).2) j) → ec r - j < fu → Z x (0, 0) [(m0, .inr (10, [.int (iI ((0 : Nat) : Int)), .ref m1, .int (iI ((sn : Nat) : Int)), .int (iI ((ap : Nat) : Int)), .int (iI ((wr : Nat) : Int)), .ref m2, .ref m3, .ref m4, .int (iI ((xc : Nat) : Int)), .ref m5, .int (iI ((un : Nat) : Int)), .ref m6, .ref m7, .int (iI ((bc : Nat) : Int)), .ref m8, .int (iI ((wc : Nat) : Int)), .ref m9, .ref m10, .ref m11, .ref m12, .int (iI ((rc : Nat) : Int)), .ref m13, .ref m14, .ref m15, .ref m16, .ref m17, .int (iI ((hc : Nat) : Int)), .ref m18, .ref m19])), (m9, .inl ((g.2.1 0), 1760, .inl (pk tr))), (m14, .inl ((g.2.1 0), 976, .inl (pe en))), (m15, .inl ((g.2.1 0), 61, .inl (nF ec)))] 5 [(4, .int (iI ((j : Nat) : Int))), (3, .int (iI (bI is))), (0, .ref m0), (1, .int (iI ((r : Nat) : Int))), (2, .int (iI ((node : Nat) : Int)))] [] := by
    intro fu
    induction fu with
    | zero => intro j is hj his hmu; exact absurd hmu (Nat.not_lt_zero _)
    | succ fu ih_5 =>
      intro j is hj his hmu
      refine z_iload hC d_Mo_has_5 0 rfl ?_
      refine z_aload_n hC d_Mo_has_7 rfl 2 rfl ?_
      refine z_get hC hi_Mo 0 rfl rfl 23 (by decide) mw_758 (Or.inl rfl) rfl d_Mo_has_8 ?_
      refine z_iload_n hC d_Mo_has_11 rfl 3 rfl ?_
      refine z_ialdN hC 3 0 rfl rfl r rfl (by omega) (by decide) d_Mo_has_12 ?_
      refine z_icmp_ge (tgt := 161) hC ((j : Nat) : Int) ((ec r : Nat) : Int) d_Mo_has_13 rfl (iI_t (by omega)) (iI_t (by omega)) (fun c_1 => ?_) (fun c_1 => ?_)
      · refine z_iload_n hC d_Mo_has_161 rfl 1 rfl ?_
        exact Z.eq rfl rfl rfl (zb_e (by rw [his, show j = ec r by omega]; rfl)) (hR _ _ d_Mo_has_162)
      · have hv9 := hen (8 * r + j)
        refine z_aload_n hC d_Mo_has_16 rfl 2 rfl ?_
        refine z_get hC hi_Mo 0 rfl rfl 22 (by decide) mw_757 (Or.inl rfl) rfl d_Mo_has_17 ?_
        refine z_bipush (a := ((16 : Nat) : Int)) hC d_Mo_has_20 (by decide) ?_
        refine z_iload_n hC d_Mo_has_22 rfl 3 rfl ?_
        refine z_imulN hC d_Mo_has_23 ?_
        refine z_iconstN hC 2 d_Mo_has_24 rfl ?_
        refine z_iload hC d_Mo_has_25 0 rfl ?_
        refine z_imulN hC d_Mo_has_27 ?_
        refine z_iaddN hC d_Mo_has_28 ?_
        refine z_iconstN hC 1 d_Mo_has_29 rfl ?_
        refine z_iaddN hC d_Mo_has_30 ?_
        refine z_iald hC 2 0 rfl rfl (((16 * r) + (2 * j)) + 1) rfl (by omega) (by decide) d_Mo_has_31 ?_
        refine Z.eq (st' := [.int (iI (((en (8 * r + j)).2 : Nat) : Int))]) rfl rfl rfl (by rw [pe_1 en (k := 8 * r + j) (by omega)]) ?_
        refine z_istore (lv' := [(5, .int (iI (((en (8 * r + j)).2 : Nat) : Int))), (4, .int (iI ((j : Nat) : Int))), (3, .int (iI (bI is))), (0, .ref m0), (1, .int (iI ((r : Nat) : Int))), (2, .int (iI ((node : Nat) : Int)))]) hC d_Mo_has_32 (by decide) rfl ?_
        refine z_aload_n hC d_Mo_has_34 rfl 3 rfl ?_
        refine z_get hC hi_Mo 0 rfl rfl 16 (by decide) mw_751 (Or.inl rfl) rfl d_Mo_has_35 ?_
        refine z_iload_n hC d_Mo_has_38 rfl 5 rfl ?_
        refine z_iconstN hC 2 d_Mo_has_39 rfl ?_
        refine z_iaddN hC d_Mo_has_40 ?_
        refine z_iald hC 1 0 rfl rfl (node + 2) rfl (by omega) (by decide) d_Mo_has_41 ?_
        refine Z.eq (st' := [.int ((tr kk).2.2.1)]) rfl rfl rfl (by rw [pk_2 tr (k := kk) (by omega)]) ?_
        refine z_istore (lv' := [(6, .int ((tr kk).2.2.1)), (5, .int (iI (((en (8 * r + j)).2 : Nat) : Int))), (4, .int (iI ((j : Nat) : Int))), (3, .int (iI (bI is))), (0, .ref m0), (1, .int (iI ((r : Nat) : Int))), (2, .int (iI ((node : Nat) : Int)))]) hC d_Mo_has_42 (by decide) rfl ?_
        refine z_aload_n hC d_Mo_has_44 rfl 4 rfl ?_
        refine z_get hC hi_Mo 0 rfl rfl 16 (by decide) mw_751 (Or.inl rfl) rfl d_Mo_has_45 ?_
        refine z_iload_n hC d_Mo_has_48 rfl 6 rfl ?_
        refine z_iald hC 1 0 rfl rfl node rfl (by omega) (by decide) d_Mo_has_49 ?_
        refine Z.eq (st' := [.int ((tr kk).1)]) rfl rfl rfl (by rw [pk_0 tr (k := kk) (by omega)]) ?_
        refine z_if_ne (tgt := 68) hC (((tr kk).1 : Int32).toInt) d_Mo_has_50 rfl rfl (fun c_2 => ?_) (fun c_2 => ?_)
        · refine z_aload_n hC d_Mo_has_68 rfl 4 rfl ?_
          refine z_get hC hi_Mo 0 rfl rfl 16 (by decide) mw_751 (Or.inl rfl) rfl d_Mo_has_69 ?_
          refine z_iload_n hC d_Mo_has_72 rfl 6 rfl ?_
          refine z_iald hC 1 0 rfl rfl node rfl (by omega) (by decide) d_Mo_has_73 ?_
          refine Z.eq (st' := [.int ((tr kk).1)]) rfl rfl rfl (by rw [pk_0 tr (k := kk) (by omega)]) ?_
          refine z_iconstN hC 1 d_Mo_has_74 rfl ?_
          refine z_icmp_ne (tgt := 106) hC (((tr kk).1 : Int32).toInt) ((1 : Nat) : Int) d_Mo_has_75 rfl rfl (iI_t (by omega)) (fun c_3 => ?_) (fun c_3 => ?_)
          · refine z_iload hC d_Mo_has_106 1 rfl ?_
            refine z_iload hC d_Mo_has_108 0 rfl ?_
            refine z_RI ?_
            refine z_callS (w' := [(m0, .inr (10, [.int (iI ((0 : Nat) : Int)), .ref m1, .int (iI ((sn : Nat) : Int)), .int (iI ((ap : Nat) : Int)), .int (iI ((wr : Nat) : Int)), .ref m2, .ref m3, .ref m4, .int (iI ((xc : Nat) : Int)), .ref m5, .int (iI ((un : Nat) : Int)), .ref m6, .ref m7, .int (iI ((bc : Nat) : Int)), .ref m8, .int (iI ((wc : Nat) : Int)), .ref m9, .ref m10, .ref m11, .ref m12, .int (iI ((rc : Nat) : Int)), .ref m13, .ref m14, .ref m15, .ref m16, .ref m17, .int (iI ((hc : Nat) : Int)), .ref m18, .ref m19])), (m9, .inl ((g.2.1 0), 1760, .inl (pk tr))), (m14, .inl ((g.2.1 0), 976, .inl (pe en))), (m15, .inl ((g.2.1 0), 61, .inl (nF ec)))]) (st1 := [.int (iI (bI (bgB (((tr kk).2.2.1).toInt) ((en (8 * r + j)).2))))]) hC (k_Mo_beginsWith l g ((en (8 * r + j)).2) (((tr kk).2.2.1).toInt) (hen _) (iI_rng _)) mw_978 zs_Mo_beginsWith rfl rfl ⟨Nat.le_of_ble_eq_true rfl, Nat.le_of_ble_eq_true rfl⟩ [] rfl rfl rfl rfl rfl (Nat.le_of_ble_eq_true rfl) d_Mo_has_110 rfl ⟨Nat.zero_le _, Nat.zero_le _⟩ rfl ?_
            refine z_istore (lv' := [(7, .int (iI (bI (bgB (((tr kk).2.2.1).toInt) ((en (8 * r + j)).2))))), (6, .int ((tr kk).2.2.1)), (5, .int (iI (((en (8 * r + j)).2 : Nat) : Int))), (4, .int (iI ((j : Nat) : Int))), (3, .int (iI (bI is))), (0, .ref m0), (1, .int (iI ((r : Nat) : Int))), (2, .int (iI ((node : Nat) : Int)))]) hC d_Mo_has_113 (by decide) rfl ?_
            refine z_iload_n hC d_Mo_has_115 rfl 4 rfl ?_
            refine z_ifneB (tgt := 149) hC d_Mo_has_116 rfl (fun c_4 => ?_) (fun c_4 => ?_)
            · refine z_iconstN hC 1 d_Mo_has_149 rfl ?_
              refine z_goto (tgt := 154) hC d_Mo_has_150 rfl ?_
              refine z_istore_n (lv' := [(3, .int (iI ((1 : Nat) : Int))), (7, .int (iI (bI (bgB (((tr kk).2.2.1).toInt) ((en (8 * r + j)).2))))), (6, .int ((tr kk).2.2.1)), (5, .int (iI (((en (8 * r + j)).2 : Nat) : Int))), (4, .int (iI ((j : Nat) : Int))), (0, .ref m0), (1, .int (iI ((r : Nat) : Int))), (2, .int (iI ((node : Nat) : Int)))]) hC d_Mo_has_154 rfl (by decide) rfl ?_
              refine z_iincN (lv' := [(4, .int (iI ((j + 1 : Nat) : Int))), (3, .int (iI ((1 : Nat) : Int))), (7, .int (iI (bI (bgB (((tr kk).2.2.1).toInt) ((en (8 * r + j)).2))))), (6, .int ((tr kk).2.2.1)), (5, .int (iI (((en (8 * r + j)).2 : Nat) : Int))), (0, .ref m0), (1, .int (iI ((r : Nat) : Int))), (2, .int (iI ((node : Nat) : Int)))]) hC 1 d_Mo_has_155 rfl 4 rfl (by decide) rfl ?_
              refine z_goto (tgt := 5) hC d_Mo_has_158 rfl ?_
              exact Zloc [0, 1, 5, 6, 7] rfl (Z.eq (w' := [(m0, .inr (10, [.int (iI ((0 : Nat) : Int)), .ref m1, .int (iI ((sn : Nat) : Int)), .int (iI ((ap : Nat) : Int)), .int (iI ((wr : Nat) : Int)), .ref m2, .ref m3, .ref m4, .int (iI ((xc : Nat) : Int)), .ref m5, .int (iI ((un : Nat) : Int)), .ref m6, .ref m7, .int (iI ((bc : Nat) : Int)), .ref m8, .int (iI ((wc : Nat) : Int)), .ref m9, .ref m10, .ref m11, .ref m12, .int (iI ((rc : Nat) : Int)), .ref m13, .ref m14, .ref m15, .ref m16, .ref m17, .int (iI ((hc : Nat) : Int)), .ref m18, .ref m19])), (m9, .inl ((g.2.1 0), 1760, .inl (pk tr))), (m14, .inl ((g.2.1 0), 976, .inl (pe en))), (m15, .inl ((g.2.1 0), 61, .inl (nF ec)))]) rfl rfl rfl rfl (ih_5 (j + 1) true (by omega) (by first | exact hs_1 his (by assumption) | exact hs_2 (hF_t (by assumption) (by unfold vlB; first | (rw [if_pos (by assumption)]; first | exact decide_eq_true (by omega) | exact decide_eq_false (by omega)) | (rw [if_neg (by assumption), if_pos (by assumption)]; first | exact decide_eq_true (by omega) | exact decide_eq_false (by omega)) | (rw [if_neg (by assumption), if_neg (by assumption)]; assumption))) | exact hs_3 his (by assumption) (hF_n (by assumption)) | exact hs_3 his (by assumption) (hF_v (by unfold vlB; first | (rw [if_pos (by assumption)]; first | exact decide_eq_true (by omega) | exact decide_eq_false (by omega)) | (rw [if_neg (by assumption), if_pos (by assumption)]; first | exact decide_eq_true (by omega) | exact decide_eq_false (by omega)) | (rw [if_neg (by assumption), if_neg (by assumption)]; assumption)))) (by omega)))
            · refine z_aload_n hC d_Mo_has_119 rfl 5 rfl ?_
              refine z_get hC hi_Mo 0 rfl rfl 22 (by decide) mw_757 (Or.inl rfl) rfl d_Mo_has_120 ?_
              refine z_bipush (a := ((16 : Nat) : Int)) hC d_Mo_has_123 (by decide) ?_
              refine z_iload_n hC d_Mo_has_125 rfl 6 rfl ?_
              refine z_imulN hC d_Mo_has_126 ?_
              refine z_iconstN hC 2 d_Mo_has_127 rfl ?_
              refine z_iload hC d_Mo_has_128 3 rfl ?_
              refine z_imulN hC d_Mo_has_130 ?_
              refine z_iaddN hC d_Mo_has_131 ?_
              refine z_iald hC 2 0 rfl rfl ((16 * r) + (2 * j)) rfl (by omega) (by decide) d_Mo_has_132 ?_
              refine Z.eq (st' := [.int ((en (8 * r + j)).1)]) rfl rfl rfl (by rw [pe_0 en (k := 8 * r + j) (by omega)]) ?_
              refine z_aload_n hC d_Mo_has_133 rfl 5 rfl ?_
              refine z_get hC hi_Mo 0 rfl rfl 16 (by decide) mw_751 (Or.inl rfl) rfl d_Mo_has_134 ?_
              refine z_iload_n hC d_Mo_has_137 rfl 7 rfl ?_
              refine z_iconstN hC 1 d_Mo_has_138 rfl ?_
              refine z_iaddN hC d_Mo_has_139 ?_
              refine z_iald hC 1 0 rfl rfl (node + 1) rfl (by omega) (by decide) d_Mo_has_140 ?_
              refine Z.eq (st' := [.int ((tr kk).2.1), .int ((en (8 * r + j)).1)]) rfl rfl rfl (by rw [pk_1 tr (k := kk) (by omega)]) ?_
              refine z_icmp_neR (tgt := 153) hC d_Mo_has_141 rfl (fun c_5 => ?_) (fun c_5 => ?_)
              · refine z_iconstN hC 0 d_Mo_has_153 rfl ?_
                refine z_istore_n (lv' := [(3, .int (iI ((0 : Nat) : Int))), (7, .int (iI (bI (bgB (((tr kk).2.2.1).toInt) ((en (8 * r + j)).2))))), (6, .int ((tr kk).2.2.1)), (5, .int (iI (((en (8 * r + j)).2 : Nat) : Int))), (4, .int (iI ((j : Nat) : Int))), (0, .ref m0), (1, .int (iI ((r : Nat) : Int))), (2, .int (iI ((node : Nat) : Int)))]) hC d_Mo_has_154 rfl (by decide) rfl ?_
                refine z_iincN (lv' := [(4, .int (iI ((j + 1 : Nat) : Int))), (3, .int (iI ((0 : Nat) : Int))), (7, .int (iI (bI (bgB (((tr kk).2.2.1).toInt) ((en (8 * r + j)).2))))), (6, .int ((tr kk).2.2.1)), (5, .int (iI (((en (8 * r + j)).2 : Nat) : Int))), (0, .ref m0), (1, .int (iI ((r : Nat) : Int))), (2, .int (iI ((node : Nat) : Int)))]) hC 1 d_Mo_has_155 rfl 4 rfl (by decide) rfl ?_
                refine z_goto (tgt := 5) hC d_Mo_has_158 rfl ?_
                exact Zloc [0, 1, 5, 6, 7] rfl (Z.eq (w' := [(m0, .inr (10, [.int (iI ((0 : Nat) : Int)), .ref m1, .int (iI ((sn : Nat) : Int)), .int (iI ((ap : Nat) : Int)), .int (iI ((wr : Nat) : Int)), .ref m2, .ref m3, .ref m4, .int (iI ((xc : Nat) : Int)), .ref m5, .int (iI ((un : Nat) : Int)), .ref m6, .ref m7, .int (iI ((bc : Nat) : Int)), .ref m8, .int (iI ((wc : Nat) : Int)), .ref m9, .ref m10, .ref m11, .ref m12, .int (iI ((rc : Nat) : Int)), .ref m13, .ref m14, .ref m15, .ref m16, .ref m17, .int (iI ((hc : Nat) : Int)), .ref m18, .ref m19])), (m9, .inl ((g.2.1 0), 1760, .inl (pk tr))), (m14, .inl ((g.2.1 0), 976, .inl (pe en))), (m15, .inl ((g.2.1 0), 61, .inl (nF ec)))]) rfl rfl rfl rfl (ih_5 (j + 1) false (by omega) (by first | exact hs_1 his (by assumption) | exact hs_2 (hF_t (by assumption) (by unfold vlB; first | (rw [if_pos (by assumption)]; first | exact decide_eq_true (by omega) | exact decide_eq_false (by omega)) | (rw [if_neg (by assumption), if_pos (by assumption)]; first | exact decide_eq_true (by omega) | exact decide_eq_false (by omega)) | (rw [if_neg (by assumption), if_neg (by assumption)]; assumption))) | exact hs_3 his (by assumption) (hF_n (by assumption)) | exact hs_3 his (by assumption) (hF_v (by unfold vlB; first | (rw [if_pos (by assumption)]; first | exact decide_eq_true (by omega) | exact decide_eq_false (by omega)) | (rw [if_neg (by assumption), if_pos (by assumption)]; first | exact decide_eq_true (by omega) | exact decide_eq_false (by omega)) | (rw [if_neg (by assumption), if_neg (by assumption)]; assumption)))) (by omega)))
              · refine z_iload hC d_Mo_has_144 0 rfl ?_
                refine z_ifeqB (tgt := 153) hC d_Mo_has_146 rfl (fun c_6 => ?_) (fun c_6 => ?_)
                · refine z_iconstN hC 0 d_Mo_has_153 rfl ?_
                  refine z_istore_n (lv' := [(3, .int (iI ((0 : Nat) : Int))), (7, .int (iI (bI (bgB (((tr kk).2.2.1).toInt) ((en (8 * r + j)).2))))), (6, .int ((tr kk).2.2.1)), (5, .int (iI (((en (8 * r + j)).2 : Nat) : Int))), (4, .int (iI ((j : Nat) : Int))), (0, .ref m0), (1, .int (iI ((r : Nat) : Int))), (2, .int (iI ((node : Nat) : Int)))]) hC d_Mo_has_154 rfl (by decide) rfl ?_
                  refine z_iincN (lv' := [(4, .int (iI ((j + 1 : Nat) : Int))), (3, .int (iI ((0 : Nat) : Int))), (7, .int (iI (bI (bgB (((tr kk).2.2.1).toInt) ((en (8 * r + j)).2))))), (6, .int ((tr kk).2.2.1)), (5, .int (iI (((en (8 * r + j)).2 : Nat) : Int))), (0, .ref m0), (1, .int (iI ((r : Nat) : Int))), (2, .int (iI ((node : Nat) : Int)))]) hC 1 d_Mo_has_155 rfl 4 rfl (by decide) rfl ?_
                  refine z_goto (tgt := 5) hC d_Mo_has_158 rfl ?_
                  exact Zloc [0, 1, 5, 6, 7] rfl (Z.eq (w' := [(m0, .inr (10, [.int (iI ((0 : Nat) : Int)), .ref m1, .int (iI ((sn : Nat) : Int)), .int (iI ((ap : Nat) : Int)), .int (iI ((wr : Nat) : Int)), .ref m2, .ref m3, .ref m4, .int (iI ((xc : Nat) : Int)), .ref m5, .int (iI ((un : Nat) : Int)), .ref m6, .ref m7, .int (iI ((bc : Nat) : Int)), .ref m8, .int (iI ((wc : Nat) : Int)), .ref m9, .ref m10, .ref m11, .ref m12, .int (iI ((rc : Nat) : Int)), .ref m13, .ref m14, .ref m15, .ref m16, .ref m17, .int (iI ((hc : Nat) : Int)), .ref m18, .ref m19])), (m9, .inl ((g.2.1 0), 1760, .inl (pk tr))), (m14, .inl ((g.2.1 0), 976, .inl (pe en))), (m15, .inl ((g.2.1 0), 61, .inl (nF ec)))]) rfl rfl rfl rfl (ih_5 (j + 1) false (by omega) (by first | exact hs_1 his (by assumption) | exact hs_2 (hF_t (by assumption) (by unfold vlB; first | (rw [if_pos (by assumption)]; first | exact decide_eq_true (by omega) | exact decide_eq_false (by omega)) | (rw [if_neg (by assumption), if_pos (by assumption)]; first | exact decide_eq_true (by omega) | exact decide_eq_false (by omega)) | (rw [if_neg (by assumption), if_neg (by assumption)]; assumption))) | exact hs_3 his (by assumption) (hF_n (by assumption)) | exact hs_3 his (by assumption) (hF_v (by unfold vlB; first | (rw [if_pos (by assumption)]; first | exact decide_eq_true (by omega) | exact decide_eq_false (by omega)) | (rw [if_neg (by assumption), if_pos (by assumption)]; first | exact decide_eq_true (by omega) | exact decide_eq_false (by omega)) | (rw [if_neg (by assumption), if_neg (by assumption)]; assumption)))) (by omega)))
                · refine z_iconstN hC 1 d_Mo_has_149 rfl ?_
                  refine z_goto (tgt := 154) hC d_Mo_has_150 rfl ?_
                  refine z_istore_n (lv' := [(3, .int (iI ((1 : Nat) : Int))), (7, .int (iI (bI (bgB (((tr kk).2.2.1).toInt) ((en (8 * r + j)).2))))), (6, .int ((tr kk).2.2.1)), (5, .int (iI (((en (8 * r + j)).2 : Nat) : Int))), (4, .int (iI ((j : Nat) : Int))), (0, .ref m0), (1, .int (iI ((r : Nat) : Int))), (2, .int (iI ((node : Nat) : Int)))]) hC d_Mo_has_154 rfl (by decide) rfl ?_
                  refine z_iincN (lv' := [(4, .int (iI ((j + 1 : Nat) : Int))), (3, .int (iI ((1 : Nat) : Int))), (7, .int (iI (bI (bgB (((tr kk).2.2.1).toInt) ((en (8 * r + j)).2))))), (6, .int ((tr kk).2.2.1)), (5, .int (iI (((en (8 * r + j)).2 : Nat) : Int))), (0, .ref m0), (1, .int (iI ((r : Nat) : Int))), (2, .int (iI ((node : Nat) : Int)))]) hC 1 d_Mo_has_155 rfl 4 rfl (by decide) rfl ?_
                  refine z_goto (tgt := 5) hC d_Mo_has_158 rfl ?_
                  exact Zloc [0, 1, 5, 6, 7] rfl (Z.eq (w' := [(m0, .inr (10, [.int (iI ((0 : Nat) : Int)), .ref m1, .int (iI ((sn : Nat) : Int)), .int (iI ((ap : Nat) : Int)), .int (iI ((wr : Nat) : Int)), .ref m2, .ref m3, .ref m4, .int (iI ((xc : Nat) : Int)), .ref m5, .int (iI ((un : Nat) : Int)), .ref m6, .ref m7, .int (iI ((bc : Nat) : Int)), .ref m8, .int (iI ((wc : Nat) : Int)), .ref m9, .ref m10, .ref m11, .ref m12, .int (iI ((rc : Nat) : Int)), .ref m13, .ref m14, .ref m15, .ref m16, .ref m17, .int (iI ((hc : Nat) : Int)), .ref m18, .ref m19])), (m9, .inl ((g.2.1 0), 1760, .inl (pk tr))), (m14, .inl ((g.2.1 0), 976, .inl (pe en))), (m15, .inl ((g.2.1 0), 61, .inl (nF ec)))]) rfl rfl rfl rfl (ih_5 (j + 1) true (by omega) (by first | exact hs_1 his (by assumption) | exact hs_2 (hF_t (by assumption) (by unfold vlB; first | (rw [if_pos (by assumption)]; first | exact decide_eq_true (by omega) | exact decide_eq_false (by omega)) | (rw [if_neg (by assumption), if_pos (by assumption)]; first | exact decide_eq_true (by omega) | exact decide_eq_false (by omega)) | (rw [if_neg (by assumption), if_neg (by assumption)]; assumption))) | exact hs_3 his (by assumption) (hF_n (by assumption)) | exact hs_3 his (by assumption) (hF_v (by unfold vlB; first | (rw [if_pos (by assumption)]; first | exact decide_eq_true (by omega) | exact decide_eq_false (by omega)) | (rw [if_neg (by assumption), if_pos (by assumption)]; first | exact decide_eq_true (by omega) | exact decide_eq_false (by omega)) | (rw [if_neg (by assumption), if_neg (by assumption)]; assumption)))) (by omega)))
          · refine z_iload hC d_Mo_has_78 1 rfl ?_
            refine z_iload hC d_Mo_has_80 0 rfl ?_
            refine z_icmp_lt (tgt := 102) hC (((en (8 * r + j)).2 : Nat) : Int) (((tr kk).2.2.1 : Int32).toInt) d_Mo_has_82 rfl (iI_t (by omega)) rfl (fun c_7 => ?_) (fun c_7 => ?_)
            · refine z_iconstN hC 0 d_Mo_has_102 rfl ?_
              refine z_goto (tgt := 113) hC d_Mo_has_103 rfl ?_
              refine z_istore (lv' := [(7, .int (iI ((0 : Nat) : Int))), (6, .int ((tr kk).2.2.1)), (5, .int (iI (((en (8 * r + j)).2 : Nat) : Int))), (4, .int (iI ((j : Nat) : Int))), (3, .int (iI (bI is))), (0, .ref m0), (1, .int (iI ((r : Nat) : Int))), (2, .int (iI ((node : Nat) : Int)))]) hC d_Mo_has_113 (by decide) rfl ?_
              refine z_iload_n hC d_Mo_has_115 rfl 4 rfl ?_
              refine z_ifneB (tgt := 149) hC d_Mo_has_116 rfl (fun c_8 => ?_) (fun c_8 => ?_)
              · refine z_iconstN hC 1 d_Mo_has_149 rfl ?_
                refine z_goto (tgt := 154) hC d_Mo_has_150 rfl ?_
                refine z_istore_n (lv' := [(3, .int (iI ((1 : Nat) : Int))), (7, .int (iI ((0 : Nat) : Int))), (6, .int ((tr kk).2.2.1)), (5, .int (iI (((en (8 * r + j)).2 : Nat) : Int))), (4, .int (iI ((j : Nat) : Int))), (0, .ref m0), (1, .int (iI ((r : Nat) : Int))), (2, .int (iI ((node : Nat) : Int)))]) hC d_Mo_has_154 rfl (by decide) rfl ?_
                refine z_iincN (lv' := [(4, .int (iI ((j + 1 : Nat) : Int))), (3, .int (iI ((1 : Nat) : Int))), (7, .int (iI ((0 : Nat) : Int))), (6, .int ((tr kk).2.2.1)), (5, .int (iI (((en (8 * r + j)).2 : Nat) : Int))), (0, .ref m0), (1, .int (iI ((r : Nat) : Int))), (2, .int (iI ((node : Nat) : Int)))]) hC 1 d_Mo_has_155 rfl 4 rfl (by decide) rfl ?_
                refine z_goto (tgt := 5) hC d_Mo_has_158 rfl ?_
                exact Zloc [0, 1, 5, 6, 7] rfl (Z.eq (w' := [(m0, .inr (10, [.int (iI ((0 : Nat) : Int)), .ref m1, .int (iI ((sn : Nat) : Int)), .int (iI ((ap : Nat) : Int)), .int (iI ((wr : Nat) : Int)), .ref m2, .ref m3, .ref m4, .int (iI ((xc : Nat) : Int)), .ref m5, .int (iI ((un : Nat) : Int)), .ref m6, .ref m7, .int (iI ((bc : Nat) : Int)), .ref m8, .int (iI ((wc : Nat) : Int)), .ref m9, .ref m10, .ref m11, .ref m12, .int (iI ((rc : Nat) : Int)), .ref m13, .ref m14, .ref m15, .ref m16, .ref m17, .int (iI ((hc : Nat) : Int)), .ref m18, .ref m19])), (m9, .inl ((g.2.1 0), 1760, .inl (pk tr))), (m14, .inl ((g.2.1 0), 976, .inl (pe en))), (m15, .inl ((g.2.1 0), 61, .inl (nF ec)))]) rfl rfl rfl rfl (ih_5 (j + 1) true (by omega) (by first | exact hs_1 his (by assumption) | exact hs_2 (hF_t (by assumption) (by unfold vlB; first | (rw [if_pos (by assumption)]; first | exact decide_eq_true (by omega) | exact decide_eq_false (by omega)) | (rw [if_neg (by assumption), if_pos (by assumption)]; first | exact decide_eq_true (by omega) | exact decide_eq_false (by omega)) | (rw [if_neg (by assumption), if_neg (by assumption)]; assumption))) | exact hs_3 his (by assumption) (hF_n (by assumption)) | exact hs_3 his (by assumption) (hF_v (by unfold vlB; first | (rw [if_pos (by assumption)]; first | exact decide_eq_true (by omega) | exact decide_eq_false (by omega)) | (rw [if_neg (by assumption), if_pos (by assumption)]; first | exact decide_eq_true (by omega) | exact decide_eq_false (by omega)) | (rw [if_neg (by assumption), if_neg (by assumption)]; assumption)))) (by omega)))
              · refine z_aload_n hC d_Mo_has_119 rfl 5 rfl ?_
                refine z_get hC hi_Mo 0 rfl rfl 22 (by decide) mw_757 (Or.inl rfl) rfl d_Mo_has_120 ?_
                refine z_bipush (a := ((16 : Nat) : Int)) hC d_Mo_has_123 (by decide) ?_
                refine z_iload_n hC d_Mo_has_125 rfl 6 rfl ?_
                refine z_imulN hC d_Mo_has_126 ?_
                refine z_iconstN hC 2 d_Mo_has_127 rfl ?_
                refine z_iload hC d_Mo_has_128 3 rfl ?_
                refine z_imulN hC d_Mo_has_130 ?_
                refine z_iaddN hC d_Mo_has_131 ?_
                refine z_iald hC 2 0 rfl rfl ((16 * r) + (2 * j)) rfl (by omega) (by decide) d_Mo_has_132 ?_
                refine Z.eq (st' := [.int ((en (8 * r + j)).1)]) rfl rfl rfl (by rw [pe_0 en (k := 8 * r + j) (by omega)]) ?_
                refine z_aload_n hC d_Mo_has_133 rfl 5 rfl ?_
                refine z_get hC hi_Mo 0 rfl rfl 16 (by decide) mw_751 (Or.inl rfl) rfl d_Mo_has_134 ?_
                refine z_iload_n hC d_Mo_has_137 rfl 7 rfl ?_
                refine z_iconstN hC 1 d_Mo_has_138 rfl ?_
                refine z_iaddN hC d_Mo_has_139 ?_
                refine z_iald hC 1 0 rfl rfl (node + 1) rfl (by omega) (by decide) d_Mo_has_140 ?_
                refine Z.eq (st' := [.int ((tr kk).2.1), .int ((en (8 * r + j)).1)]) rfl rfl rfl (by rw [pk_1 tr (k := kk) (by omega)]) ?_
                refine z_icmp_neR (tgt := 153) hC d_Mo_has_141 rfl (fun c_9 => ?_) (fun c_9 => ?_)
                · refine z_iconstN hC 0 d_Mo_has_153 rfl ?_
                  refine z_istore_n (lv' := [(3, .int (iI ((0 : Nat) : Int))), (7, .int (iI ((0 : Nat) : Int))), (6, .int ((tr kk).2.2.1)), (5, .int (iI (((en (8 * r + j)).2 : Nat) : Int))), (4, .int (iI ((j : Nat) : Int))), (0, .ref m0), (1, .int (iI ((r : Nat) : Int))), (2, .int (iI ((node : Nat) : Int)))]) hC d_Mo_has_154 rfl (by decide) rfl ?_
                  refine z_iincN (lv' := [(4, .int (iI ((j + 1 : Nat) : Int))), (3, .int (iI ((0 : Nat) : Int))), (7, .int (iI ((0 : Nat) : Int))), (6, .int ((tr kk).2.2.1)), (5, .int (iI (((en (8 * r + j)).2 : Nat) : Int))), (0, .ref m0), (1, .int (iI ((r : Nat) : Int))), (2, .int (iI ((node : Nat) : Int)))]) hC 1 d_Mo_has_155 rfl 4 rfl (by decide) rfl ?_
                  refine z_goto (tgt := 5) hC d_Mo_has_158 rfl ?_
                  exact Zloc [0, 1, 5, 6, 7] rfl (Z.eq (w' := [(m0, .inr (10, [.int (iI ((0 : Nat) : Int)), .ref m1, .int (iI ((sn : Nat) : Int)), .int (iI ((ap : Nat) : Int)), .int (iI ((wr : Nat) : Int)), .ref m2, .ref m3, .ref m4, .int (iI ((xc : Nat) : Int)), .ref m5, .int (iI ((un : Nat) : Int)), .ref m6, .ref m7, .int (iI ((bc : Nat) : Int)), .ref m8, .int (iI ((wc : Nat) : Int)), .ref m9, .ref m10, .ref m11, .ref m12, .int (iI ((rc : Nat) : Int)), .ref m13, .ref m14, .ref m15, .ref m16, .ref m17, .int (iI ((hc : Nat) : Int)), .ref m18, .ref m19])), (m9, .inl ((g.2.1 0), 1760, .inl (pk tr))), (m14, .inl ((g.2.1 0), 976, .inl (pe en))), (m15, .inl ((g.2.1 0), 61, .inl (nF ec)))]) rfl rfl rfl rfl (ih_5 (j + 1) false (by omega) (by first | exact hs_1 his (by assumption) | exact hs_2 (hF_t (by assumption) (by unfold vlB; first | (rw [if_pos (by assumption)]; first | exact decide_eq_true (by omega) | exact decide_eq_false (by omega)) | (rw [if_neg (by assumption), if_pos (by assumption)]; first | exact decide_eq_true (by omega) | exact decide_eq_false (by omega)) | (rw [if_neg (by assumption), if_neg (by assumption)]; assumption))) | exact hs_3 his (by assumption) (hF_n (by assumption)) | exact hs_3 his (by assumption) (hF_v (by unfold vlB; first | (rw [if_pos (by assumption)]; first | exact decide_eq_true (by omega) | exact decide_eq_false (by omega)) | (rw [if_neg (by assumption), if_pos (by assumption)]; first | exact decide_eq_true (by omega) | exact decide_eq_false (by omega)) | (rw [if_neg (by assumption), if_neg (by assumption)]; assumption)))) (by omega)))
                · refine z_iload hC d_Mo_has_144 0 rfl ?_
                  refine z_if_eq (tgt := 153) hC ((0 : Nat) : Int) d_Mo_has_146 rfl (iI_t (by omega)) (fun c_10 => ?_) (fun c_10 => absurd c_10 (by decide))
                  refine z_iconstN hC 0 d_Mo_has_153 rfl ?_
                  refine z_istore_n (lv' := [(3, .int (iI ((0 : Nat) : Int))), (7, .int (iI ((0 : Nat) : Int))), (6, .int ((tr kk).2.2.1)), (5, .int (iI (((en (8 * r + j)).2 : Nat) : Int))), (4, .int (iI ((j : Nat) : Int))), (0, .ref m0), (1, .int (iI ((r : Nat) : Int))), (2, .int (iI ((node : Nat) : Int)))]) hC d_Mo_has_154 rfl (by decide) rfl ?_
                  refine z_iincN (lv' := [(4, .int (iI ((j + 1 : Nat) : Int))), (3, .int (iI ((0 : Nat) : Int))), (7, .int (iI ((0 : Nat) : Int))), (6, .int ((tr kk).2.2.1)), (5, .int (iI (((en (8 * r + j)).2 : Nat) : Int))), (0, .ref m0), (1, .int (iI ((r : Nat) : Int))), (2, .int (iI ((node : Nat) : Int)))]) hC 1 d_Mo_has_155 rfl 4 rfl (by decide) rfl ?_
                  refine z_goto (tgt := 5) hC d_Mo_has_158 rfl ?_
                  exact Zloc [0, 1, 5, 6, 7] rfl (Z.eq (w' := [(m0, .inr (10, [.int (iI ((0 : Nat) : Int)), .ref m1, .int (iI ((sn : Nat) : Int)), .int (iI ((ap : Nat) : Int)), .int (iI ((wr : Nat) : Int)), .ref m2, .ref m3, .ref m4, .int (iI ((xc : Nat) : Int)), .ref m5, .int (iI ((un : Nat) : Int)), .ref m6, .ref m7, .int (iI ((bc : Nat) : Int)), .ref m8, .int (iI ((wc : Nat) : Int)), .ref m9, .ref m10, .ref m11, .ref m12, .int (iI ((rc : Nat) : Int)), .ref m13, .ref m14, .ref m15, .ref m16, .ref m17, .int (iI ((hc : Nat) : Int)), .ref m18, .ref m19])), (m9, .inl ((g.2.1 0), 1760, .inl (pk tr))), (m14, .inl ((g.2.1 0), 976, .inl (pe en))), (m15, .inl ((g.2.1 0), 61, .inl (nF ec)))]) rfl rfl rfl rfl (ih_5 (j + 1) false (by omega) (by first | exact hs_1 his (by assumption) | exact hs_2 (hF_t (by assumption) (by unfold vlB; first | (rw [if_pos (by assumption)]; first | exact decide_eq_true (by omega) | exact decide_eq_false (by omega)) | (rw [if_neg (by assumption), if_pos (by assumption)]; first | exact decide_eq_true (by omega) | exact decide_eq_false (by omega)) | (rw [if_neg (by assumption), if_neg (by assumption)]; assumption))) | exact hs_3 his (by assumption) (hF_n (by assumption)) | exact hs_3 his (by assumption) (hF_v (by unfold vlB; first | (rw [if_pos (by assumption)]; first | exact decide_eq_true (by omega) | exact decide_eq_false (by omega)) | (rw [if_neg (by assumption), if_pos (by assumption)]; first | exact decide_eq_true (by omega) | exact decide_eq_false (by omega)) | (rw [if_neg (by assumption), if_neg (by assumption)]; assumption)))) (by omega)))
            · refine z_iload hC d_Mo_has_85 1 rfl ?_
              refine z_aload_n hC d_Mo_has_87 rfl 4 rfl ?_
              refine z_get hC hi_Mo 0 rfl rfl 16 (by decide) mw_751 (Or.inl rfl) rfl d_Mo_has_88 ?_
              refine z_iload_n hC d_Mo_has_91 rfl 6 rfl ?_
              refine z_iconstN hC 3 d_Mo_has_92 rfl ?_
              refine z_iaddN hC d_Mo_has_93 ?_
              refine z_iald hC 1 0 rfl rfl (node + 3) rfl (by omega) (by decide) d_Mo_has_94 ?_
              refine Z.eq (st' := [.int ((tr kk).2.2.2), .int (iI (((en (8 * r + j)).2 : Nat) : Int))]) rfl rfl rfl (by rw [pk_3 tr (k := kk) (by omega)]) ?_
              refine z_icmp_gt (tgt := 102) hC (((en (8 * r + j)).2 : Nat) : Int) (((tr kk).2.2.2 : Int32).toInt) d_Mo_has_95 rfl (iI_t (by omega)) rfl (fun c_11 => ?_) (fun c_11 => ?_)
              · refine z_iconstN hC 0 d_Mo_has_102 rfl ?_
                refine z_goto (tgt := 113) hC d_Mo_has_103 rfl ?_
                refine z_istore (lv' := [(7, .int (iI ((0 : Nat) : Int))), (6, .int ((tr kk).2.2.1)), (5, .int (iI (((en (8 * r + j)).2 : Nat) : Int))), (4, .int (iI ((j : Nat) : Int))), (3, .int (iI (bI is))), (0, .ref m0), (1, .int (iI ((r : Nat) : Int))), (2, .int (iI ((node : Nat) : Int)))]) hC d_Mo_has_113 (by decide) rfl ?_
                refine z_iload_n hC d_Mo_has_115 rfl 4 rfl ?_
                refine z_ifneB (tgt := 149) hC d_Mo_has_116 rfl (fun c_12 => ?_) (fun c_12 => ?_)
                · refine z_iconstN hC 1 d_Mo_has_149 rfl ?_
                  refine z_goto (tgt := 154) hC d_Mo_has_150 rfl ?_
                  refine z_istore_n (lv' := [(3, .int (iI ((1 : Nat) : Int))), (7, .int (iI ((0 : Nat) : Int))), (6, .int ((tr kk).2.2.1)), (5, .int (iI (((en (8 * r + j)).2 : Nat) : Int))), (4, .int (iI ((j : Nat) : Int))), (0, .ref m0), (1, .int (iI ((r : Nat) : Int))), (2, .int (iI ((node : Nat) : Int)))]) hC d_Mo_has_154 rfl (by decide) rfl ?_
                  refine z_iincN (lv' := [(4, .int (iI ((j + 1 : Nat) : Int))), (3, .int (iI ((1 : Nat) : Int))), (7, .int (iI ((0 : Nat) : Int))), (6, .int ((tr kk).2.2.1)), (5, .int (iI (((en (8 * r + j)).2 : Nat) : Int))), (0, .ref m0), (1, .int (iI ((r : Nat) : Int))), (2, .int (iI ((node : Nat) : Int)))]) hC 1 d_Mo_has_155 rfl 4 rfl (by decide) rfl ?_
                  refine z_goto (tgt := 5) hC d_Mo_has_158 rfl ?_
                  exact Zloc [0, 1, 5, 6, 7] rfl (Z.eq (w' := [(m0, .inr (10, [.int (iI ((0 : Nat) : Int)), .ref m1, .int (iI ((sn : Nat) : Int)), .int (iI ((ap : Nat) : Int)), .int (iI ((wr : Nat) : Int)), .ref m2, .ref m3, .ref m4, .int (iI ((xc : Nat) : Int)), .ref m5, .int (iI ((un : Nat) : Int)), .ref m6, .ref m7, .int (iI ((bc : Nat) : Int)), .ref m8, .int (iI ((wc : Nat) : Int)), .ref m9, .ref m10, .ref m11, .ref m12, .int (iI ((rc : Nat) : Int)), .ref m13, .ref m14, .ref m15, .ref m16, .ref m17, .int (iI ((hc : Nat) : Int)), .ref m18, .ref m19])), (m9, .inl ((g.2.1 0), 1760, .inl (pk tr))), (m14, .inl ((g.2.1 0), 976, .inl (pe en))), (m15, .inl ((g.2.1 0), 61, .inl (nF ec)))]) rfl rfl rfl rfl (ih_5 (j + 1) true (by omega) (by first | exact hs_1 his (by assumption) | exact hs_2 (hF_t (by assumption) (by unfold vlB; first | (rw [if_pos (by assumption)]; first | exact decide_eq_true (by omega) | exact decide_eq_false (by omega)) | (rw [if_neg (by assumption), if_pos (by assumption)]; first | exact decide_eq_true (by omega) | exact decide_eq_false (by omega)) | (rw [if_neg (by assumption), if_neg (by assumption)]; assumption))) | exact hs_3 his (by assumption) (hF_n (by assumption)) | exact hs_3 his (by assumption) (hF_v (by unfold vlB; first | (rw [if_pos (by assumption)]; first | exact decide_eq_true (by omega) | exact decide_eq_false (by omega)) | (rw [if_neg (by assumption), if_pos (by assumption)]; first | exact decide_eq_true (by omega) | exact decide_eq_false (by omega)) | (rw [if_neg (by assumption), if_neg (by assumption)]; assumption)))) (by omega)))
                · refine z_aload_n hC d_Mo_has_119 rfl 5 rfl ?_
                  refine z_get hC hi_Mo 0 rfl rfl 22 (by decide) mw_757 (Or.inl rfl) rfl d_Mo_has_120 ?_
                  refine z_bipush (a := ((16 : Nat) : Int)) hC d_Mo_has_123 (by decide) ?_
                  refine z_iload_n hC d_Mo_has_125 rfl 6 rfl ?_
                  refine z_imulN hC d_Mo_has_126 ?_
                  refine z_iconstN hC 2 d_Mo_has_127 rfl ?_
                  refine z_iload hC d_Mo_has_128 3 rfl ?_
                  refine z_imulN hC d_Mo_has_130 ?_
                  refine z_iaddN hC d_Mo_has_131 ?_
                  refine z_iald hC 2 0 rfl rfl ((16 * r) + (2 * j)) rfl (by omega) (by decide) d_Mo_has_132 ?_
                  refine Z.eq (st' := [.int ((en (8 * r + j)).1)]) rfl rfl rfl (by rw [pe_0 en (k := 8 * r + j) (by omega)]) ?_
                  refine z_aload_n hC d_Mo_has_133 rfl 5 rfl ?_
                  refine z_get hC hi_Mo 0 rfl rfl 16 (by decide) mw_751 (Or.inl rfl) rfl d_Mo_has_134 ?_
                  refine z_iload_n hC d_Mo_has_137 rfl 7 rfl ?_
                  refine z_iconstN hC 1 d_Mo_has_138 rfl ?_
                  refine z_iaddN hC d_Mo_has_139 ?_
                  refine z_iald hC 1 0 rfl rfl (node + 1) rfl (by omega) (by decide) d_Mo_has_140 ?_
                  refine Z.eq (st' := [.int ((tr kk).2.1), .int ((en (8 * r + j)).1)]) rfl rfl rfl (by rw [pk_1 tr (k := kk) (by omega)]) ?_
                  refine z_icmp_neR (tgt := 153) hC d_Mo_has_141 rfl (fun c_13 => ?_) (fun c_13 => ?_)
                  · refine z_iconstN hC 0 d_Mo_has_153 rfl ?_
                    refine z_istore_n (lv' := [(3, .int (iI ((0 : Nat) : Int))), (7, .int (iI ((0 : Nat) : Int))), (6, .int ((tr kk).2.2.1)), (5, .int (iI (((en (8 * r + j)).2 : Nat) : Int))), (4, .int (iI ((j : Nat) : Int))), (0, .ref m0), (1, .int (iI ((r : Nat) : Int))), (2, .int (iI ((node : Nat) : Int)))]) hC d_Mo_has_154 rfl (by decide) rfl ?_
                    refine z_iincN (lv' := [(4, .int (iI ((j + 1 : Nat) : Int))), (3, .int (iI ((0 : Nat) : Int))), (7, .int (iI ((0 : Nat) : Int))), (6, .int ((tr kk).2.2.1)), (5, .int (iI (((en (8 * r + j)).2 : Nat) : Int))), (0, .ref m0), (1, .int (iI ((r : Nat) : Int))), (2, .int (iI ((node : Nat) : Int)))]) hC 1 d_Mo_has_155 rfl 4 rfl (by decide) rfl ?_
                    refine z_goto (tgt := 5) hC d_Mo_has_158 rfl ?_
                    exact Zloc [0, 1, 5, 6, 7] rfl (Z.eq (w' := [(m0, .inr (10, [.int (iI ((0 : Nat) : Int)), .ref m1, .int (iI ((sn : Nat) : Int)), .int (iI ((ap : Nat) : Int)), .int (iI ((wr : Nat) : Int)), .ref m2, .ref m3, .ref m4, .int (iI ((xc : Nat) : Int)), .ref m5, .int (iI ((un : Nat) : Int)), .ref m6, .ref m7, .int (iI ((bc : Nat) : Int)), .ref m8, .int (iI ((wc : Nat) : Int)), .ref m9, .ref m10, .ref m11, .ref m12, .int (iI ((rc : Nat) : Int)), .ref m13, .ref m14, .ref m15, .ref m16, .ref m17, .int (iI ((hc : Nat) : Int)), .ref m18, .ref m19])), (m9, .inl ((g.2.1 0), 1760, .inl (pk tr))), (m14, .inl ((g.2.1 0), 976, .inl (pe en))), (m15, .inl ((g.2.1 0), 61, .inl (nF ec)))]) rfl rfl rfl rfl (ih_5 (j + 1) false (by omega) (by first | exact hs_1 his (by assumption) | exact hs_2 (hF_t (by assumption) (by unfold vlB; first | (rw [if_pos (by assumption)]; first | exact decide_eq_true (by omega) | exact decide_eq_false (by omega)) | (rw [if_neg (by assumption), if_pos (by assumption)]; first | exact decide_eq_true (by omega) | exact decide_eq_false (by omega)) | (rw [if_neg (by assumption), if_neg (by assumption)]; assumption))) | exact hs_3 his (by assumption) (hF_n (by assumption)) | exact hs_3 his (by assumption) (hF_v (by unfold vlB; first | (rw [if_pos (by assumption)]; first | exact decide_eq_true (by omega) | exact decide_eq_false (by omega)) | (rw [if_neg (by assumption), if_pos (by assumption)]; first | exact decide_eq_true (by omega) | exact decide_eq_false (by omega)) | (rw [if_neg (by assumption), if_neg (by assumption)]; assumption)))) (by omega)))
                  · refine z_iload hC d_Mo_has_144 0 rfl ?_
                    refine z_if_eq (tgt := 153) hC ((0 : Nat) : Int) d_Mo_has_146 rfl (iI_t (by omega)) (fun c_14 => ?_) (fun c_14 => absurd c_14 (by decide))
                    refine z_iconstN hC 0 d_Mo_has_153 rfl ?_
                    refine z_istore_n (lv' := [(3, .int (iI ((0 : Nat) : Int))), (7, .int (iI ((0 : Nat) : Int))), (6, .int ((tr kk).2.2.1)), (5, .int (iI (((en (8 * r + j)).2 : Nat) : Int))), (4, .int (iI ((j : Nat) : Int))), (0, .ref m0), (1, .int (iI ((r : Nat) : Int))), (2, .int (iI ((node : Nat) : Int)))]) hC d_Mo_has_154 rfl (by decide) rfl ?_
                    refine z_iincN (lv' := [(4, .int (iI ((j + 1 : Nat) : Int))), (3, .int (iI ((0 : Nat) : Int))), (7, .int (iI ((0 : Nat) : Int))), (6, .int ((tr kk).2.2.1)), (5, .int (iI (((en (8 * r + j)).2 : Nat) : Int))), (0, .ref m0), (1, .int (iI ((r : Nat) : Int))), (2, .int (iI ((node : Nat) : Int)))]) hC 1 d_Mo_has_155 rfl 4 rfl (by decide) rfl ?_
                    refine z_goto (tgt := 5) hC d_Mo_has_158 rfl ?_
                    exact Zloc [0, 1, 5, 6, 7] rfl (Z.eq (w' := [(m0, .inr (10, [.int (iI ((0 : Nat) : Int)), .ref m1, .int (iI ((sn : Nat) : Int)), .int (iI ((ap : Nat) : Int)), .int (iI ((wr : Nat) : Int)), .ref m2, .ref m3, .ref m4, .int (iI ((xc : Nat) : Int)), .ref m5, .int (iI ((un : Nat) : Int)), .ref m6, .ref m7, .int (iI ((bc : Nat) : Int)), .ref m8, .int (iI ((wc : Nat) : Int)), .ref m9, .ref m10, .ref m11, .ref m12, .int (iI ((rc : Nat) : Int)), .ref m13, .ref m14, .ref m15, .ref m16, .ref m17, .int (iI ((hc : Nat) : Int)), .ref m18, .ref m19])), (m9, .inl ((g.2.1 0), 1760, .inl (pk tr))), (m14, .inl ((g.2.1 0), 976, .inl (pe en))), (m15, .inl ((g.2.1 0), 61, .inl (nF ec)))]) rfl rfl rfl rfl (ih_5 (j + 1) false (by omega) (by first | exact hs_1 his (by assumption) | exact hs_2 (hF_t (by assumption) (by unfold vlB; first | (rw [if_pos (by assumption)]; first | exact decide_eq_true (by omega) | exact decide_eq_false (by omega)) | (rw [if_neg (by assumption), if_pos (by assumption)]; first | exact decide_eq_true (by omega) | exact decide_eq_false (by omega)) | (rw [if_neg (by assumption), if_neg (by assumption)]; assumption))) | exact hs_3 his (by assumption) (hF_n (by assumption)) | exact hs_3 his (by assumption) (hF_v (by unfold vlB; first | (rw [if_pos (by assumption)]; first | exact decide_eq_true (by omega) | exact decide_eq_false (by omega)) | (rw [if_neg (by assumption), if_pos (by assumption)]; first | exact decide_eq_true (by omega) | exact decide_eq_false (by omega)) | (rw [if_neg (by assumption), if_neg (by assumption)]; assumption)))) (by omega)))
              · refine z_iconstN hC 1 d_Mo_has_98 rfl ?_
                refine z_goto (tgt := 113) hC d_Mo_has_99 rfl ?_
                refine z_istore (lv' := [(7, .int (iI ((1 : Nat) : Int))), (6, .int ((tr kk).2.2.1)), (5, .int (iI (((en (8 * r + j)).2 : Nat) : Int))), (4, .int (iI ((j : Nat) : Int))), (3, .int (iI (bI is))), (0, .ref m0), (1, .int (iI ((r : Nat) : Int))), (2, .int (iI ((node : Nat) : Int)))]) hC d_Mo_has_113 (by decide) rfl ?_
                refine z_iload_n hC d_Mo_has_115 rfl 4 rfl ?_
                refine z_ifneB (tgt := 149) hC d_Mo_has_116 rfl (fun c_15 => ?_) (fun c_15 => ?_)
                · refine z_iconstN hC 1 d_Mo_has_149 rfl ?_
                  refine z_goto (tgt := 154) hC d_Mo_has_150 rfl ?_
                  refine z_istore_n (lv' := [(3, .int (iI ((1 : Nat) : Int))), (7, .int (iI ((1 : Nat) : Int))), (6, .int ((tr kk).2.2.1)), (5, .int (iI (((en (8 * r + j)).2 : Nat) : Int))), (4, .int (iI ((j : Nat) : Int))), (0, .ref m0), (1, .int (iI ((r : Nat) : Int))), (2, .int (iI ((node : Nat) : Int)))]) hC d_Mo_has_154 rfl (by decide) rfl ?_
                  refine z_iincN (lv' := [(4, .int (iI ((j + 1 : Nat) : Int))), (3, .int (iI ((1 : Nat) : Int))), (7, .int (iI ((1 : Nat) : Int))), (6, .int ((tr kk).2.2.1)), (5, .int (iI (((en (8 * r + j)).2 : Nat) : Int))), (0, .ref m0), (1, .int (iI ((r : Nat) : Int))), (2, .int (iI ((node : Nat) : Int)))]) hC 1 d_Mo_has_155 rfl 4 rfl (by decide) rfl ?_
                  refine z_goto (tgt := 5) hC d_Mo_has_158 rfl ?_
                  exact Zloc [0, 1, 5, 6, 7] rfl (Z.eq (w' := [(m0, .inr (10, [.int (iI ((0 : Nat) : Int)), .ref m1, .int (iI ((sn : Nat) : Int)), .int (iI ((ap : Nat) : Int)), .int (iI ((wr : Nat) : Int)), .ref m2, .ref m3, .ref m4, .int (iI ((xc : Nat) : Int)), .ref m5, .int (iI ((un : Nat) : Int)), .ref m6, .ref m7, .int (iI ((bc : Nat) : Int)), .ref m8, .int (iI ((wc : Nat) : Int)), .ref m9, .ref m10, .ref m11, .ref m12, .int (iI ((rc : Nat) : Int)), .ref m13, .ref m14, .ref m15, .ref m16, .ref m17, .int (iI ((hc : Nat) : Int)), .ref m18, .ref m19])), (m9, .inl ((g.2.1 0), 1760, .inl (pk tr))), (m14, .inl ((g.2.1 0), 976, .inl (pe en))), (m15, .inl ((g.2.1 0), 61, .inl (nF ec)))]) rfl rfl rfl rfl (ih_5 (j + 1) true (by omega) (by first | exact hs_1 his (by assumption) | exact hs_2 (hF_t (by assumption) (by unfold vlB; first | (rw [if_pos (by assumption)]; first | exact decide_eq_true (by omega) | exact decide_eq_false (by omega)) | (rw [if_neg (by assumption), if_pos (by assumption)]; first | exact decide_eq_true (by omega) | exact decide_eq_false (by omega)) | (rw [if_neg (by assumption), if_neg (by assumption)]; assumption))) | exact hs_3 his (by assumption) (hF_n (by assumption)) | exact hs_3 his (by assumption) (hF_v (by unfold vlB; first | (rw [if_pos (by assumption)]; first | exact decide_eq_true (by omega) | exact decide_eq_false (by omega)) | (rw [if_neg (by assumption), if_pos (by assumption)]; first | exact decide_eq_true (by omega) | exact decide_eq_false (by omega)) | (rw [if_neg (by assumption), if_neg (by assumption)]; assumption)))) (by omega)))
                · refine z_aload_n hC d_Mo_has_119 rfl 5 rfl ?_
                  refine z_get hC hi_Mo 0 rfl rfl 22 (by decide) mw_757 (Or.inl rfl) rfl d_Mo_has_120 ?_
                  refine z_bipush (a := ((16 : Nat) : Int)) hC d_Mo_has_123 (by decide) ?_
                  refine z_iload_n hC d_Mo_has_125 rfl 6 rfl ?_
                  refine z_imulN hC d_Mo_has_126 ?_
                  refine z_iconstN hC 2 d_Mo_has_127 rfl ?_
                  refine z_iload hC d_Mo_has_128 3 rfl ?_
                  refine z_imulN hC d_Mo_has_130 ?_
                  refine z_iaddN hC d_Mo_has_131 ?_
                  refine z_iald hC 2 0 rfl rfl ((16 * r) + (2 * j)) rfl (by omega) (by decide) d_Mo_has_132 ?_
                  refine Z.eq (st' := [.int ((en (8 * r + j)).1)]) rfl rfl rfl (by rw [pe_0 en (k := 8 * r + j) (by omega)]) ?_
                  refine z_aload_n hC d_Mo_has_133 rfl 5 rfl ?_
                  refine z_get hC hi_Mo 0 rfl rfl 16 (by decide) mw_751 (Or.inl rfl) rfl d_Mo_has_134 ?_
                  refine z_iload_n hC d_Mo_has_137 rfl 7 rfl ?_
                  refine z_iconstN hC 1 d_Mo_has_138 rfl ?_
                  refine z_iaddN hC d_Mo_has_139 ?_
                  refine z_iald hC 1 0 rfl rfl (node + 1) rfl (by omega) (by decide) d_Mo_has_140 ?_
                  refine Z.eq (st' := [.int ((tr kk).2.1), .int ((en (8 * r + j)).1)]) rfl rfl rfl (by rw [pk_1 tr (k := kk) (by omega)]) ?_
                  refine z_icmp_neR (tgt := 153) hC d_Mo_has_141 rfl (fun c_16 => ?_) (fun c_16 => ?_)
                  · refine z_iconstN hC 0 d_Mo_has_153 rfl ?_
                    refine z_istore_n (lv' := [(3, .int (iI ((0 : Nat) : Int))), (7, .int (iI ((1 : Nat) : Int))), (6, .int ((tr kk).2.2.1)), (5, .int (iI (((en (8 * r + j)).2 : Nat) : Int))), (4, .int (iI ((j : Nat) : Int))), (0, .ref m0), (1, .int (iI ((r : Nat) : Int))), (2, .int (iI ((node : Nat) : Int)))]) hC d_Mo_has_154 rfl (by decide) rfl ?_
                    refine z_iincN (lv' := [(4, .int (iI ((j + 1 : Nat) : Int))), (3, .int (iI ((0 : Nat) : Int))), (7, .int (iI ((1 : Nat) : Int))), (6, .int ((tr kk).2.2.1)), (5, .int (iI (((en (8 * r + j)).2 : Nat) : Int))), (0, .ref m0), (1, .int (iI ((r : Nat) : Int))), (2, .int (iI ((node : Nat) : Int)))]) hC 1 d_Mo_has_155 rfl 4 rfl (by decide) rfl ?_
                    refine z_goto (tgt := 5) hC d_Mo_has_158 rfl ?_
                    exact Zloc [0, 1, 5, 6, 7] rfl (Z.eq (w' := [(m0, .inr (10, [.int (iI ((0 : Nat) : Int)), .ref m1, .int (iI ((sn : Nat) : Int)), .int (iI ((ap : Nat) : Int)), .int (iI ((wr : Nat) : Int)), .ref m2, .ref m3, .ref m4, .int (iI ((xc : Nat) : Int)), .ref m5, .int (iI ((un : Nat) : Int)), .ref m6, .ref m7, .int (iI ((bc : Nat) : Int)), .ref m8, .int (iI ((wc : Nat) : Int)), .ref m9, .ref m10, .ref m11, .ref m12, .int (iI ((rc : Nat) : Int)), .ref m13, .ref m14, .ref m15, .ref m16, .ref m17, .int (iI ((hc : Nat) : Int)), .ref m18, .ref m19])), (m9, .inl ((g.2.1 0), 1760, .inl (pk tr))), (m14, .inl ((g.2.1 0), 976, .inl (pe en))), (m15, .inl ((g.2.1 0), 61, .inl (nF ec)))]) rfl rfl rfl rfl (ih_5 (j + 1) false (by omega) (by first | exact hs_1 his (by assumption) | exact hs_2 (hF_t (by assumption) (by unfold vlB; first | (rw [if_pos (by assumption)]; first | exact decide_eq_true (by omega) | exact decide_eq_false (by omega)) | (rw [if_neg (by assumption), if_pos (by assumption)]; first | exact decide_eq_true (by omega) | exact decide_eq_false (by omega)) | (rw [if_neg (by assumption), if_neg (by assumption)]; assumption))) | exact hs_3 his (by assumption) (hF_n (by assumption)) | exact hs_3 his (by assumption) (hF_v (by unfold vlB; first | (rw [if_pos (by assumption)]; first | exact decide_eq_true (by omega) | exact decide_eq_false (by omega)) | (rw [if_neg (by assumption), if_pos (by assumption)]; first | exact decide_eq_true (by omega) | exact decide_eq_false (by omega)) | (rw [if_neg (by assumption), if_neg (by assumption)]; assumption)))) (by omega)))
                  · refine z_iload hC d_Mo_has_144 0 rfl ?_
                    refine z_if_eq (tgt := 153) hC ((1 : Nat) : Int) d_Mo_has_146 rfl (iI_t (by omega)) (fun c_17 => absurd c_17 (by decide)) (fun c_17 => ?_)
                    refine z_iconstN hC 1 d_Mo_has_149 rfl ?_
                    refine z_goto (tgt := 154) hC d_Mo_has_150 rfl ?_
                    refine z_istore_n (lv' := [(3, .int (iI ((1 : Nat) : Int))), (7, .int (iI ((1 : Nat) : Int))), (6, .int ((tr kk).2.2.1)), (5, .int (iI (((en (8 * r + j)).2 : Nat) : Int))), (4, .int (iI ((j : Nat) : Int))), (0, .ref m0), (1, .int (iI ((r : Nat) : Int))), (2, .int (iI ((node : Nat) : Int)))]) hC d_Mo_has_154 rfl (by decide) rfl ?_
                    refine z_iincN (lv' := [(4, .int (iI ((j + 1 : Nat) : Int))), (3, .int (iI ((1 : Nat) : Int))), (7, .int (iI ((1 : Nat) : Int))), (6, .int ((tr kk).2.2.1)), (5, .int (iI (((en (8 * r + j)).2 : Nat) : Int))), (0, .ref m0), (1, .int (iI ((r : Nat) : Int))), (2, .int (iI ((node : Nat) : Int)))]) hC 1 d_Mo_has_155 rfl 4 rfl (by decide) rfl ?_
                    refine z_goto (tgt := 5) hC d_Mo_has_158 rfl ?_
                    exact Zloc [0, 1, 5, 6, 7] rfl (Z.eq (w' := [(m0, .inr (10, [.int (iI ((0 : Nat) : Int)), .ref m1, .int (iI ((sn : Nat) : Int)), .int (iI ((ap : Nat) : Int)), .int (iI ((wr : Nat) : Int)), .ref m2, .ref m3, .ref m4, .int (iI ((xc : Nat) : Int)), .ref m5, .int (iI ((un : Nat) : Int)), .ref m6, .ref m7, .int (iI ((bc : Nat) : Int)), .ref m8, .int (iI ((wc : Nat) : Int)), .ref m9, .ref m10, .ref m11, .ref m12, .int (iI ((rc : Nat) : Int)), .ref m13, .ref m14, .ref m15, .ref m16, .ref m17, .int (iI ((hc : Nat) : Int)), .ref m18, .ref m19])), (m9, .inl ((g.2.1 0), 1760, .inl (pk tr))), (m14, .inl ((g.2.1 0), 976, .inl (pe en))), (m15, .inl ((g.2.1 0), 61, .inl (nF ec)))]) rfl rfl rfl rfl (ih_5 (j + 1) true (by omega) (by first | exact hs_1 his (by assumption) | exact hs_2 (hF_t (by assumption) (by unfold vlB; first | (rw [if_pos (by assumption)]; first | exact decide_eq_true (by omega) | exact decide_eq_false (by omega)) | (rw [if_neg (by assumption), if_pos (by assumption)]; first | exact decide_eq_true (by omega) | exact decide_eq_false (by omega)) | (rw [if_neg (by assumption), if_neg (by assumption)]; assumption))) | exact hs_3 his (by assumption) (hF_n (by assumption)) | exact hs_3 his (by assumption) (hF_v (by unfold vlB; first | (rw [if_pos (by assumption)]; first | exact decide_eq_true (by omega) | exact decide_eq_false (by omega)) | (rw [if_neg (by assumption), if_pos (by assumption)]; first | exact decide_eq_true (by omega) | exact decide_eq_false (by omega)) | (rw [if_neg (by assumption), if_neg (by assumption)]; assumption)))) (by omega)))
        · refine z_iload hC d_Mo_has_53 1 rfl ?_
          refine z_iload hC d_Mo_has_55 0 rfl ?_
          refine z_icmp_ne (tgt := 64) hC (((en (8 * r + j)).2 : Nat) : Int) (((tr kk).2.2.1 : Int32).toInt) d_Mo_has_57 rfl (iI_t (by omega)) rfl (fun c_18 => ?_) (fun c_18 => ?_)
          · refine z_iconstN hC 0 d_Mo_has_64 rfl ?_
            refine z_goto (tgt := 113) hC d_Mo_has_65 rfl ?_
            refine z_istore (lv' := [(7, .int (iI ((0 : Nat) : Int))), (6, .int ((tr kk).2.2.1)), (5, .int (iI (((en (8 * r + j)).2 : Nat) : Int))), (4, .int (iI ((j : Nat) : Int))), (3, .int (iI (bI is))), (0, .ref m0), (1, .int (iI ((r : Nat) : Int))), (2, .int (iI ((node : Nat) : Int)))]) hC d_Mo_has_113 (by decide) rfl ?_
            refine z_iload_n hC d_Mo_has_115 rfl 4 rfl ?_
            refine z_ifneB (tgt := 149) hC d_Mo_has_116 rfl (fun c_19 => ?_) (fun c_19 => ?_)
            · refine z_iconstN hC 1 d_Mo_has_149 rfl ?_
              refine z_goto (tgt := 154) hC d_Mo_has_150 rfl ?_
              refine z_istore_n (lv' := [(3, .int (iI ((1 : Nat) : Int))), (7, .int (iI ((0 : Nat) : Int))), (6, .int ((tr kk).2.2.1)), (5, .int (iI (((en (8 * r + j)).2 : Nat) : Int))), (4, .int (iI ((j : Nat) : Int))), (0, .ref m0), (1, .int (iI ((r : Nat) : Int))), (2, .int (iI ((node : Nat) : Int)))]) hC d_Mo_has_154 rfl (by decide) rfl ?_
              refine z_iincN (lv' := [(4, .int (iI ((j + 1 : Nat) : Int))), (3, .int (iI ((1 : Nat) : Int))), (7, .int (iI ((0 : Nat) : Int))), (6, .int ((tr kk).2.2.1)), (5, .int (iI (((en (8 * r + j)).2 : Nat) : Int))), (0, .ref m0), (1, .int (iI ((r : Nat) : Int))), (2, .int (iI ((node : Nat) : Int)))]) hC 1 d_Mo_has_155 rfl 4 rfl (by decide) rfl ?_
              refine z_goto (tgt := 5) hC d_Mo_has_158 rfl ?_
              exact Zloc [0, 1, 5, 6, 7] rfl (Z.eq (w' := [(m0, .inr (10, [.int (iI ((0 : Nat) : Int)), .ref m1, .int (iI ((sn : Nat) : Int)), .int (iI ((ap : Nat) : Int)), .int (iI ((wr : Nat) : Int)), .ref m2, .ref m3, .ref m4, .int (iI ((xc : Nat) : Int)), .ref m5, .int (iI ((un : Nat) : Int)), .ref m6, .ref m7, .int (iI ((bc : Nat) : Int)), .ref m8, .int (iI ((wc : Nat) : Int)), .ref m9, .ref m10, .ref m11, .ref m12, .int (iI ((rc : Nat) : Int)), .ref m13, .ref m14, .ref m15, .ref m16, .ref m17, .int (iI ((hc : Nat) : Int)), .ref m18, .ref m19])), (m9, .inl ((g.2.1 0), 1760, .inl (pk tr))), (m14, .inl ((g.2.1 0), 976, .inl (pe en))), (m15, .inl ((g.2.1 0), 61, .inl (nF ec)))]) rfl rfl rfl rfl (ih_5 (j + 1) true (by omega) (by first | exact hs_1 his (by assumption) | exact hs_2 (hF_t (by assumption) (by unfold vlB; first | (rw [if_pos (by assumption)]; first | exact decide_eq_true (by omega) | exact decide_eq_false (by omega)) | (rw [if_neg (by assumption), if_pos (by assumption)]; first | exact decide_eq_true (by omega) | exact decide_eq_false (by omega)) | (rw [if_neg (by assumption), if_neg (by assumption)]; assumption))) | exact hs_3 his (by assumption) (hF_n (by assumption)) | exact hs_3 his (by assumption) (hF_v (by unfold vlB; first | (rw [if_pos (by assumption)]; first | exact decide_eq_true (by omega) | exact decide_eq_false (by omega)) | (rw [if_neg (by assumption), if_pos (by assumption)]; first | exact decide_eq_true (by omega) | exact decide_eq_false (by omega)) | (rw [if_neg (by assumption), if_neg (by assumption)]; assumption)))) (by omega)))
            · refine z_aload_n hC d_Mo_has_119 rfl 5 rfl ?_
              refine z_get hC hi_Mo 0 rfl rfl 22 (by decide) mw_757 (Or.inl rfl) rfl d_Mo_has_120 ?_
              refine z_bipush (a := ((16 : Nat) : Int)) hC d_Mo_has_123 (by decide) ?_
              refine z_iload_n hC d_Mo_has_125 rfl 6 rfl ?_
              refine z_imulN hC d_Mo_has_126 ?_
              refine z_iconstN hC 2 d_Mo_has_127 rfl ?_
              refine z_iload hC d_Mo_has_128 3 rfl ?_
              refine z_imulN hC d_Mo_has_130 ?_
              refine z_iaddN hC d_Mo_has_131 ?_
              refine z_iald hC 2 0 rfl rfl ((16 * r) + (2 * j)) rfl (by omega) (by decide) d_Mo_has_132 ?_
              refine Z.eq (st' := [.int ((en (8 * r + j)).1)]) rfl rfl rfl (by rw [pe_0 en (k := 8 * r + j) (by omega)]) ?_
              refine z_aload_n hC d_Mo_has_133 rfl 5 rfl ?_
              refine z_get hC hi_Mo 0 rfl rfl 16 (by decide) mw_751 (Or.inl rfl) rfl d_Mo_has_134 ?_
              refine z_iload_n hC d_Mo_has_137 rfl 7 rfl ?_
              refine z_iconstN hC 1 d_Mo_has_138 rfl ?_
              refine z_iaddN hC d_Mo_has_139 ?_
              refine z_iald hC 1 0 rfl rfl (node + 1) rfl (by omega) (by decide) d_Mo_has_140 ?_
              refine Z.eq (st' := [.int ((tr kk).2.1), .int ((en (8 * r + j)).1)]) rfl rfl rfl (by rw [pk_1 tr (k := kk) (by omega)]) ?_
              refine z_icmp_neR (tgt := 153) hC d_Mo_has_141 rfl (fun c_20 => ?_) (fun c_20 => ?_)
              · refine z_iconstN hC 0 d_Mo_has_153 rfl ?_
                refine z_istore_n (lv' := [(3, .int (iI ((0 : Nat) : Int))), (7, .int (iI ((0 : Nat) : Int))), (6, .int ((tr kk).2.2.1)), (5, .int (iI (((en (8 * r + j)).2 : Nat) : Int))), (4, .int (iI ((j : Nat) : Int))), (0, .ref m0), (1, .int (iI ((r : Nat) : Int))), (2, .int (iI ((node : Nat) : Int)))]) hC d_Mo_has_154 rfl (by decide) rfl ?_
                refine z_iincN (lv' := [(4, .int (iI ((j + 1 : Nat) : Int))), (3, .int (iI ((0 : Nat) : Int))), (7, .int (iI ((0 : Nat) : Int))), (6, .int ((tr kk).2.2.1)), (5, .int (iI (((en (8 * r + j)).2 : Nat) : Int))), (0, .ref m0), (1, .int (iI ((r : Nat) : Int))), (2, .int (iI ((node : Nat) : Int)))]) hC 1 d_Mo_has_155 rfl 4 rfl (by decide) rfl ?_
                refine z_goto (tgt := 5) hC d_Mo_has_158 rfl ?_
                exact Zloc [0, 1, 5, 6, 7] rfl (Z.eq (w' := [(m0, .inr (10, [.int (iI ((0 : Nat) : Int)), .ref m1, .int (iI ((sn : Nat) : Int)), .int (iI ((ap : Nat) : Int)), .int (iI ((wr : Nat) : Int)), .ref m2, .ref m3, .ref m4, .int (iI ((xc : Nat) : Int)), .ref m5, .int (iI ((un : Nat) : Int)), .ref m6, .ref m7, .int (iI ((bc : Nat) : Int)), .ref m8, .int (iI ((wc : Nat) : Int)), .ref m9, .ref m10, .ref m11, .ref m12, .int (iI ((rc : Nat) : Int)), .ref m13, .ref m14, .ref m15, .ref m16, .ref m17, .int (iI ((hc : Nat) : Int)), .ref m18, .ref m19])), (m9, .inl ((g.2.1 0), 1760, .inl (pk tr))), (m14, .inl ((g.2.1 0), 976, .inl (pe en))), (m15, .inl ((g.2.1 0), 61, .inl (nF ec)))]) rfl rfl rfl rfl (ih_5 (j + 1) false (by omega) (by first | exact hs_1 his (by assumption) | exact hs_2 (hF_t (by assumption) (by unfold vlB; first | (rw [if_pos (by assumption)]; first | exact decide_eq_true (by omega) | exact decide_eq_false (by omega)) | (rw [if_neg (by assumption), if_pos (by assumption)]; first | exact decide_eq_true (by omega) | exact decide_eq_false (by omega)) | (rw [if_neg (by assumption), if_neg (by assumption)]; assumption))) | exact hs_3 his (by assumption) (hF_n (by assumption)) | exact hs_3 his (by assumption) (hF_v (by unfold vlB; first | (rw [if_pos (by assumption)]; first | exact decide_eq_true (by omega) | exact decide_eq_false (by omega)) | (rw [if_neg (by assumption), if_pos (by assumption)]; first | exact decide_eq_true (by omega) | exact decide_eq_false (by omega)) | (rw [if_neg (by assumption), if_neg (by assumption)]; assumption)))) (by omega)))
              · refine z_iload hC d_Mo_has_144 0 rfl ?_
                refine z_if_eq (tgt := 153) hC ((0 : Nat) : Int) d_Mo_has_146 rfl (iI_t (by omega)) (fun c_21 => ?_) (fun c_21 => absurd c_21 (by decide))
                refine z_iconstN hC 0 d_Mo_has_153 rfl ?_
                refine z_istore_n (lv' := [(3, .int (iI ((0 : Nat) : Int))), (7, .int (iI ((0 : Nat) : Int))), (6, .int ((tr kk).2.2.1)), (5, .int (iI (((en (8 * r + j)).2 : Nat) : Int))), (4, .int (iI ((j : Nat) : Int))), (0, .ref m0), (1, .int (iI ((r : Nat) : Int))), (2, .int (iI ((node : Nat) : Int)))]) hC d_Mo_has_154 rfl (by decide) rfl ?_
                refine z_iincN (lv' := [(4, .int (iI ((j + 1 : Nat) : Int))), (3, .int (iI ((0 : Nat) : Int))), (7, .int (iI ((0 : Nat) : Int))), (6, .int ((tr kk).2.2.1)), (5, .int (iI (((en (8 * r + j)).2 : Nat) : Int))), (0, .ref m0), (1, .int (iI ((r : Nat) : Int))), (2, .int (iI ((node : Nat) : Int)))]) hC 1 d_Mo_has_155 rfl 4 rfl (by decide) rfl ?_
                refine z_goto (tgt := 5) hC d_Mo_has_158 rfl ?_
                exact Zloc [0, 1, 5, 6, 7] rfl (Z.eq (w' := [(m0, .inr (10, [.int (iI ((0 : Nat) : Int)), .ref m1, .int (iI ((sn : Nat) : Int)), .int (iI ((ap : Nat) : Int)), .int (iI ((wr : Nat) : Int)), .ref m2, .ref m3, .ref m4, .int (iI ((xc : Nat) : Int)), .ref m5, .int (iI ((un : Nat) : Int)), .ref m6, .ref m7, .int (iI ((bc : Nat) : Int)), .ref m8, .int (iI ((wc : Nat) : Int)), .ref m9, .ref m10, .ref m11, .ref m12, .int (iI ((rc : Nat) : Int)), .ref m13, .ref m14, .ref m15, .ref m16, .ref m17, .int (iI ((hc : Nat) : Int)), .ref m18, .ref m19])), (m9, .inl ((g.2.1 0), 1760, .inl (pk tr))), (m14, .inl ((g.2.1 0), 976, .inl (pe en))), (m15, .inl ((g.2.1 0), 61, .inl (nF ec)))]) rfl rfl rfl rfl (ih_5 (j + 1) false (by omega) (by first | exact hs_1 his (by assumption) | exact hs_2 (hF_t (by assumption) (by unfold vlB; first | (rw [if_pos (by assumption)]; first | exact decide_eq_true (by omega) | exact decide_eq_false (by omega)) | (rw [if_neg (by assumption), if_pos (by assumption)]; first | exact decide_eq_true (by omega) | exact decide_eq_false (by omega)) | (rw [if_neg (by assumption), if_neg (by assumption)]; assumption))) | exact hs_3 his (by assumption) (hF_n (by assumption)) | exact hs_3 his (by assumption) (hF_v (by unfold vlB; first | (rw [if_pos (by assumption)]; first | exact decide_eq_true (by omega) | exact decide_eq_false (by omega)) | (rw [if_neg (by assumption), if_pos (by assumption)]; first | exact decide_eq_true (by omega) | exact decide_eq_false (by omega)) | (rw [if_neg (by assumption), if_neg (by assumption)]; assumption)))) (by omega)))
          · refine z_iconstN hC 1 d_Mo_has_60 rfl ?_
            refine z_goto (tgt := 113) hC d_Mo_has_61 rfl ?_
            refine z_istore (lv' := [(7, .int (iI ((1 : Nat) : Int))), (6, .int ((tr kk).2.2.1)), (5, .int (iI (((en (8 * r + j)).2 : Nat) : Int))), (4, .int (iI ((j : Nat) : Int))), (3, .int (iI (bI is))), (0, .ref m0), (1, .int (iI ((r : Nat) : Int))), (2, .int (iI ((node : Nat) : Int)))]) hC d_Mo_has_113 (by decide) rfl ?_
            refine z_iload_n hC d_Mo_has_115 rfl 4 rfl ?_
            refine z_ifneB (tgt := 149) hC d_Mo_has_116 rfl (fun c_22 => ?_) (fun c_22 => ?_)
            · refine z_iconstN hC 1 d_Mo_has_149 rfl ?_
              refine z_goto (tgt := 154) hC d_Mo_has_150 rfl ?_
              refine z_istore_n (lv' := [(3, .int (iI ((1 : Nat) : Int))), (7, .int (iI ((1 : Nat) : Int))), (6, .int ((tr kk).2.2.1)), (5, .int (iI (((en (8 * r + j)).2 : Nat) : Int))), (4, .int (iI ((j : Nat) : Int))), (0, .ref m0), (1, .int (iI ((r : Nat) : Int))), (2, .int (iI ((node : Nat) : Int)))]) hC d_Mo_has_154 rfl (by decide) rfl ?_
              refine z_iincN (lv' := [(4, .int (iI ((j + 1 : Nat) : Int))), (3, .int (iI ((1 : Nat) : Int))), (7, .int (iI ((1 : Nat) : Int))), (6, .int ((tr kk).2.2.1)), (5, .int (iI (((en (8 * r + j)).2 : Nat) : Int))), (0, .ref m0), (1, .int (iI ((r : Nat) : Int))), (2, .int (iI ((node : Nat) : Int)))]) hC 1 d_Mo_has_155 rfl 4 rfl (by decide) rfl ?_
              refine z_goto (tgt := 5) hC d_Mo_has_158 rfl ?_
              exact Zloc [0, 1, 5, 6, 7] rfl (Z.eq (w' := [(m0, .inr (10, [.int (iI ((0 : Nat) : Int)), .ref m1, .int (iI ((sn : Nat) : Int)), .int (iI ((ap : Nat) : Int)), .int (iI ((wr : Nat) : Int)), .ref m2, .ref m3, .ref m4, .int (iI ((xc : Nat) : Int)), .ref m5, .int (iI ((un : Nat) : Int)), .ref m6, .ref m7, .int (iI ((bc : Nat) : Int)), .ref m8, .int (iI ((wc : Nat) : Int)), .ref m9, .ref m10, .ref m11, .ref m12, .int (iI ((rc : Nat) : Int)), .ref m13, .ref m14, .ref m15, .ref m16, .ref m17, .int (iI ((hc : Nat) : Int)), .ref m18, .ref m19])), (m9, .inl ((g.2.1 0), 1760, .inl (pk tr))), (m14, .inl ((g.2.1 0), 976, .inl (pe en))), (m15, .inl ((g.2.1 0), 61, .inl (nF ec)))]) rfl rfl rfl rfl (ih_5 (j + 1) true (by omega) (by first | exact hs_1 his (by assumption) | exact hs_2 (hF_t (by assumption) (by unfold vlB; first | (rw [if_pos (by assumption)]; first | exact decide_eq_true (by omega) | exact decide_eq_false (by omega)) | (rw [if_neg (by assumption), if_pos (by assumption)]; first | exact decide_eq_true (by omega) | exact decide_eq_false (by omega)) | (rw [if_neg (by assumption), if_neg (by assumption)]; assumption))) | exact hs_3 his (by assumption) (hF_n (by assumption)) | exact hs_3 his (by assumption) (hF_v (by unfold vlB; first | (rw [if_pos (by assumption)]; first | exact decide_eq_true (by omega) | exact decide_eq_false (by omega)) | (rw [if_neg (by assumption), if_pos (by assumption)]; first | exact decide_eq_true (by omega) | exact decide_eq_false (by omega)) | (rw [if_neg (by assumption), if_neg (by assumption)]; assumption)))) (by omega)))
            · refine z_aload_n hC d_Mo_has_119 rfl 5 rfl ?_
              refine z_get hC hi_Mo 0 rfl rfl 22 (by decide) mw_757 (Or.inl rfl) rfl d_Mo_has_120 ?_
              refine z_bipush (a := ((16 : Nat) : Int)) hC d_Mo_has_123 (by decide) ?_
              refine z_iload_n hC d_Mo_has_125 rfl 6 rfl ?_
              refine z_imulN hC d_Mo_has_126 ?_
              refine z_iconstN hC 2 d_Mo_has_127 rfl ?_
              refine z_iload hC d_Mo_has_128 3 rfl ?_
              refine z_imulN hC d_Mo_has_130 ?_
              refine z_iaddN hC d_Mo_has_131 ?_
              refine z_iald hC 2 0 rfl rfl ((16 * r) + (2 * j)) rfl (by omega) (by decide) d_Mo_has_132 ?_
              refine Z.eq (st' := [.int ((en (8 * r + j)).1)]) rfl rfl rfl (by rw [pe_0 en (k := 8 * r + j) (by omega)]) ?_
              refine z_aload_n hC d_Mo_has_133 rfl 5 rfl ?_
              refine z_get hC hi_Mo 0 rfl rfl 16 (by decide) mw_751 (Or.inl rfl) rfl d_Mo_has_134 ?_
              refine z_iload_n hC d_Mo_has_137 rfl 7 rfl ?_
              refine z_iconstN hC 1 d_Mo_has_138 rfl ?_
              refine z_iaddN hC d_Mo_has_139 ?_
              refine z_iald hC 1 0 rfl rfl (node + 1) rfl (by omega) (by decide) d_Mo_has_140 ?_
              refine Z.eq (st' := [.int ((tr kk).2.1), .int ((en (8 * r + j)).1)]) rfl rfl rfl (by rw [pk_1 tr (k := kk) (by omega)]) ?_
              refine z_icmp_neR (tgt := 153) hC d_Mo_has_141 rfl (fun c_23 => ?_) (fun c_23 => ?_)
              · refine z_iconstN hC 0 d_Mo_has_153 rfl ?_
                refine z_istore_n (lv' := [(3, .int (iI ((0 : Nat) : Int))), (7, .int (iI ((1 : Nat) : Int))), (6, .int ((tr kk).2.2.1)), (5, .int (iI (((en (8 * r + j)).2 : Nat) : Int))), (4, .int (iI ((j : Nat) : Int))), (0, .ref m0), (1, .int (iI ((r : Nat) : Int))), (2, .int (iI ((node : Nat) : Int)))]) hC d_Mo_has_154 rfl (by decide) rfl ?_
                refine z_iincN (lv' := [(4, .int (iI ((j + 1 : Nat) : Int))), (3, .int (iI ((0 : Nat) : Int))), (7, .int (iI ((1 : Nat) : Int))), (6, .int ((tr kk).2.2.1)), (5, .int (iI (((en (8 * r + j)).2 : Nat) : Int))), (0, .ref m0), (1, .int (iI ((r : Nat) : Int))), (2, .int (iI ((node : Nat) : Int)))]) hC 1 d_Mo_has_155 rfl 4 rfl (by decide) rfl ?_
                refine z_goto (tgt := 5) hC d_Mo_has_158 rfl ?_
                exact Zloc [0, 1, 5, 6, 7] rfl (Z.eq (w' := [(m0, .inr (10, [.int (iI ((0 : Nat) : Int)), .ref m1, .int (iI ((sn : Nat) : Int)), .int (iI ((ap : Nat) : Int)), .int (iI ((wr : Nat) : Int)), .ref m2, .ref m3, .ref m4, .int (iI ((xc : Nat) : Int)), .ref m5, .int (iI ((un : Nat) : Int)), .ref m6, .ref m7, .int (iI ((bc : Nat) : Int)), .ref m8, .int (iI ((wc : Nat) : Int)), .ref m9, .ref m10, .ref m11, .ref m12, .int (iI ((rc : Nat) : Int)), .ref m13, .ref m14, .ref m15, .ref m16, .ref m17, .int (iI ((hc : Nat) : Int)), .ref m18, .ref m19])), (m9, .inl ((g.2.1 0), 1760, .inl (pk tr))), (m14, .inl ((g.2.1 0), 976, .inl (pe en))), (m15, .inl ((g.2.1 0), 61, .inl (nF ec)))]) rfl rfl rfl rfl (ih_5 (j + 1) false (by omega) (by first | exact hs_1 his (by assumption) | exact hs_2 (hF_t (by assumption) (by unfold vlB; first | (rw [if_pos (by assumption)]; first | exact decide_eq_true (by omega) | exact decide_eq_false (by omega)) | (rw [if_neg (by assumption), if_pos (by assumption)]; first | exact decide_eq_true (by omega) | exact decide_eq_false (by omega)) | (rw [if_neg (by assumption), if_neg (by assumption)]; assumption))) | exact hs_3 his (by assumption) (hF_n (by assumption)) | exact hs_3 his (by assumption) (hF_v (by unfold vlB; first | (rw [if_pos (by assumption)]; first | exact decide_eq_true (by omega) | exact decide_eq_false (by omega)) | (rw [if_neg (by assumption), if_pos (by assumption)]; first | exact decide_eq_true (by omega) | exact decide_eq_false (by omega)) | (rw [if_neg (by assumption), if_neg (by assumption)]; assumption)))) (by omega)))
              · refine z_iload hC d_Mo_has_144 0 rfl ?_
                refine z_if_eq (tgt := 153) hC ((1 : Nat) : Int) d_Mo_has_146 rfl (iI_t (by omega)) (fun c_24 => absurd c_24 (by decide)) (fun c_24 => ?_)
                refine z_iconstN hC 1 d_Mo_has_149 rfl ?_
                refine z_goto (tgt := 154) hC d_Mo_has_150 rfl ?_
                refine z_istore_n (lv' := [(3, .int (iI ((1 : Nat) : Int))), (7, .int (iI ((1 : Nat) : Int))), (6, .int ((tr kk).2.2.1)), (5, .int (iI (((en (8 * r + j)).2 : Nat) : Int))), (4, .int (iI ((j : Nat) : Int))), (0, .ref m0), (1, .int (iI ((r : Nat) : Int))), (2, .int (iI ((node : Nat) : Int)))]) hC d_Mo_has_154 rfl (by decide) rfl ?_
                refine z_iincN (lv' := [(4, .int (iI ((j + 1 : Nat) : Int))), (3, .int (iI ((1 : Nat) : Int))), (7, .int (iI ((1 : Nat) : Int))), (6, .int ((tr kk).2.2.1)), (5, .int (iI (((en (8 * r + j)).2 : Nat) : Int))), (0, .ref m0), (1, .int (iI ((r : Nat) : Int))), (2, .int (iI ((node : Nat) : Int)))]) hC 1 d_Mo_has_155 rfl 4 rfl (by decide) rfl ?_
                refine z_goto (tgt := 5) hC d_Mo_has_158 rfl ?_
                exact Zloc [0, 1, 5, 6, 7] rfl (Z.eq (w' := [(m0, .inr (10, [.int (iI ((0 : Nat) : Int)), .ref m1, .int (iI ((sn : Nat) : Int)), .int (iI ((ap : Nat) : Int)), .int (iI ((wr : Nat) : Int)), .ref m2, .ref m3, .ref m4, .int (iI ((xc : Nat) : Int)), .ref m5, .int (iI ((un : Nat) : Int)), .ref m6, .ref m7, .int (iI ((bc : Nat) : Int)), .ref m8, .int (iI ((wc : Nat) : Int)), .ref m9, .ref m10, .ref m11, .ref m12, .int (iI ((rc : Nat) : Int)), .ref m13, .ref m14, .ref m15, .ref m16, .ref m17, .int (iI ((hc : Nat) : Int)), .ref m18, .ref m19])), (m9, .inl ((g.2.1 0), 1760, .inl (pk tr))), (m14, .inl ((g.2.1 0), 976, .inl (pe en))), (m15, .inl ((g.2.1 0), 61, .inl (nF ec)))]) rfl rfl rfl rfl (ih_5 (j + 1) true (by omega) (by first | exact hs_1 his (by assumption) | exact hs_2 (hF_t (by assumption) (by unfold vlB; first | (rw [if_pos (by assumption)]; first | exact decide_eq_true (by omega) | exact decide_eq_false (by omega)) | (rw [if_neg (by assumption), if_pos (by assumption)]; first | exact decide_eq_true (by omega) | exact decide_eq_false (by omega)) | (rw [if_neg (by assumption), if_neg (by assumption)]; assumption))) | exact hs_3 his (by assumption) (hF_n (by assumption)) | exact hs_3 his (by assumption) (hF_v (by unfold vlB; first | (rw [if_pos (by assumption)]; first | exact decide_eq_true (by omega) | exact decide_eq_false (by omega)) | (rw [if_neg (by assumption), if_pos (by assumption)]; first | exact decide_eq_true (by omega) | exact decide_eq_false (by omega)) | (rw [if_neg (by assumption), if_neg (by assumption)]; assumption)))) (by omega)))
  exact Zloc [0, 1, 2, 3, 4] rfl (Z.eq (w' := [(m0, .inr (10, [.int (iI ((0 : Nat) : Int)), .ref m1, .int (iI ((sn : Nat) : Int)), .int (iI ((ap : Nat) : Int)), .int (iI ((wr : Nat) : Int)), .ref m2, .ref m3, .ref m4, .int (iI ((xc : Nat) : Int)), .ref m5, .int (iI ((un : Nat) : Int)), .ref m6, .ref m7, .int (iI ((bc : Nat) : Int)), .ref m8, .int (iI ((wc : Nat) : Int)), .ref m9, .ref m10, .ref m11, .ref m12, .int (iI ((rc : Nat) : Int)), .ref m13, .ref m14, .ref m15, .ref m16, .ref m17, .int (iI ((hc : Nat) : Int)), .ref m18, .ref m19])), (m9, .inl ((g.2.1 0), 1760, .inl (pk tr))), (m14, .inl ((g.2.1 0), 976, .inl (pe en))), (m15, .inl ((g.2.1 0), 61, .inl (nF ec)))]) rfl rfl rfl rfl (L_5 _ 0 false (by omega) rfl (Nat.lt_succ_self _)))
set_option maxHeartbeats 4000000 in
set_option maxRecDepth 100000 in
theorem k_Mo_meetsAll (l : Launch) (g : ZG) (m0 m1 m2 m3 m4 m5 m6 m7 m8 m9 m10 m11 m12 m13 m14 m15 m16 m17 m18 m19 sn ap wr xc un bc wc rc hc : Nat) (tr : Nat → QD) (ts : Nat → Nat) (en : Nat → Int32 × Nat) (ec : Nat → Nat) (me : Nat → Bool) (r q : Nat) (hr : r ≤ 60) (hq10 : q < 10) (hts : ts q ≤ 40) (hwf : okT (fun z9 => tr (40 * q + z9)) (ts q) 0) (hec : ∀ k, ec k ≤ 8) (hen : ∀ k, (en k).2 < 100000)  (w : Nat × (Nat → Bool)) (hw : w = mtR (smR ec en r) (fun z9 => tr (40 * q + z9)) (ts q) (0, me)) : Ct l g y_Mo_meetsAll c_Mo_meetsAll 9 (some .boolean) { frames := 2, cells := 0, slots := 0, locals := 49 } [.ref m0, .int (iI ((r : Nat) : Int)), .int (iI ((q : Nat) : Int))] [(m0, .inr (10, [.int (iI ((0 : Nat) : Int)), .ref m1, .int (iI ((sn : Nat) : Int)), .int (iI ((ap : Nat) : Int)), .int (iI ((wr : Nat) : Int)), .ref m2, .ref m3, .ref m4, .int (iI ((xc : Nat) : Int)), .ref m5, .int (iI ((un : Nat) : Int)), .ref m6, .ref m7, .int (iI ((bc : Nat) : Int)), .ref m8, .int (iI ((wc : Nat) : Int)), .ref m9, .ref m10, .ref m11, .ref m12, .int (iI ((rc : Nat) : Int)), .ref m13, .ref m14, .ref m15, .ref m16, .ref m17, .int (iI ((hc : Nat) : Int)), .ref m18, .ref m19])), (m9, .inl ((g.2.1 0), 1760, .inl (pk tr))), (m10, .inl ((g.2.1 0), 11, .inl (nF ts))), (m14, .inl ((g.2.1 0), 976, .inl (pe en))), (m15, .inl ((g.2.1 0), 61, .inl (nF ec))), (m16, .inl ((g.2.1 2), 41, .inl (bF me)))] (some (.int (iI (bI (w.2 0))))) [(m0, .inr (10, [.int (iI ((0 : Nat) : Int)), .ref m1, .int (iI ((sn : Nat) : Int)), .int (iI ((ap : Nat) : Int)), .int (iI ((wr : Nat) : Int)), .ref m2, .ref m3, .ref m4, .int (iI ((xc : Nat) : Int)), .ref m5, .int (iI ((un : Nat) : Int)), .ref m6, .ref m7, .int (iI ((bc : Nat) : Int)), .ref m8, .int (iI ((wc : Nat) : Int)), .ref m9, .ref m10, .ref m11, .ref m12, .int (iI ((rc : Nat) : Int)), .ref m13, .ref m14, .ref m15, .ref m16, .ref m17, .int (iI ((hc : Nat) : Int)), .ref m18, .ref m19])), (m9, .inl ((g.2.1 0), 1760, .inl (pk tr))), (m10, .inl ((g.2.1 0), 11, .inl (nF ts))), (m14, .inl ((g.2.1 0), 976, .inl (pe en))), (m15, .inl ((g.2.1 0), 61, .inl (nF ec))), (m16, .inl ((g.2.1 2), 41, .inl (bF w.2)))] := by
  refine ct_z (lv := [(0, .ref m0), (1, .int (iI ((r : Nat) : Int))), (2, .int (iI ((q : Nat) : Int)))]) (by decide) rfl (Nat.le_of_ble_eq_true rfl) rfl ?_
  intro x hC hR
  refine z_iconstN hC 0 d_Mo_meetsAll_0 rfl ?_
  refine z_istore_n (lv' := [(3, .int (iI ((0 : Nat) : Int))), (0, .ref m0), (1, .int (iI ((r : Nat) : Int))), (2, .int (iI ((q : Nat) : Int)))]) hC d_Mo_meetsAll_1 rfl (by decide) rfl ?_
  refine z_aload_n hC d_Mo_meetsAll_2 rfl 1 rfl ?_
  refine z_get hC hi_Mo 0 rfl rfl 17 (by decide) mw_752 (Or.inl rfl) rfl d_Mo_meetsAll_3 ?_
  refine z_iload_n hC d_Mo_meetsAll_6 rfl 3 rfl ?_
  refine z_ialdN hC 2 0 rfl rfl q rfl (by omega) (by decide) d_Mo_meetsAll_7 ?_
  refine z_iconstN hC 1 d_Mo_meetsAll_8 rfl ?_
  refine z_isub hC d_Mo_meetsAll_9 ?_
  refine z_istore (lv' := [(4, .int (iI (((ts q : Nat) : Int) - ((1 : Nat) : Int)))), (3, .int (iI ((0 : Nat) : Int))), (0, .ref m0), (1, .int (iI ((r : Nat) : Int))), (2, .int (iI ((q : Nat) : Int)))]) hC d_Mo_meetsAll_10 (by decide) rfl ?_
  have L_12 : ∀ (fu : Nat) (i : Int) (o : Nat) (m : Nat → Bool), (-1 ≤ i ∧ i < ts q) → (o ≤ 40) → (okT (fun z9 => tr (40 * q + z9)) (i + 1).toNat o) → (mtR (smR ec en r) (fun z9 => tr (40 * q + z9)) (i + 1).toNat (o, m) = w) → (i + 1).toNat < fu → Z x (0, 0) [(m0, .inr (10, [.int (iI ((0 : Nat) : Int)), .ref m1, .int (iI ((sn : Nat) : Int)), .int (iI ((ap : Nat) : Int)), .int (iI ((wr : Nat) : Int)), .ref m2, .ref m3, .ref m4, .int (iI ((xc : Nat) : Int)), .ref m5, .int (iI ((un : Nat) : Int)), .ref m6, .ref m7, .int (iI ((bc : Nat) : Int)), .ref m8, .int (iI ((wc : Nat) : Int)), .ref m9, .ref m10, .ref m11, .ref m12, .int (iI ((rc : Nat) : Int)), .ref m13, .ref m14, .ref m15, .ref m16, .ref m17, .int (iI ((hc : Nat) : Int)), .ref m18, .ref m19])), (m9, .inl ((g.2.1 0), 1760, .inl (pk tr))), (m10, .inl ((g.2.1 0), 11, .inl (nF ts))), (m14, .inl ((g.2.1 0), 976, .inl (pe en))), (m15, .inl ((g.2.1 0), 61, .inl (nF ec))), (m16, .inl ((g.2.1 2), 41, .inl (bF m)))] 12 [(4, .int (iI i)), (3, .int (iI ((o : Nat) : Int))), (0, .ref m0), (1, .int (iI ((r : Nat) : Int))), (2, .int (iI ((q : Nat) : Int)))] [] := by
    intro fu
    induction fu with
    | zero => intro i o m hi ho hok hq hmu; exact absurd hmu (Nat.not_lt_zero _)
    | succ fu ih_12 =>
      intro i o m hi ho hok hq hmu
      refine z_iload hC d_Mo_meetsAll_12 0 rfl ?_
      refine z_if_lt (tgt := 163) hC i d_Mo_meetsAll_14 rfl (iI_t (by omega)) (fun c_1 => ?_) (fun c_1 => ?_)
      · have hz : (o, m) = w := by rw [← hq, show (i + 1).toNat = 0 by omega]; rfl
        subst hz
        refine z_aload_n hC d_Mo_meetsAll_163 rfl 2 rfl ?_
        refine z_get hC hi_Mo 0 rfl rfl 24 (by decide) mw_759 (Or.inl rfl) rfl d_Mo_meetsAll_164 ?_
        refine z_iconstN hC 0 d_Mo_meetsAll_167 rfl ?_
        refine z_zaldB hC 5 2 rfl rfl 0 rfl (by omega) (by decide) d_Mo_meetsAll_168 ?_
        exact Z.eq rfl rfl rfl (zb_e (by rfl)) (hR _ _ d_Mo_meetsAll_169)
      · obtain ⟨j, rfl⟩ : ∃ j : Nat, i = (j : Int) := ⟨i.toNat, by omega⟩
        refine z_sipush (a := ((160 : Nat) : Int)) hC d_Mo_meetsAll_17 (by decide) ?_
        refine z_iload_n hC d_Mo_meetsAll_20 rfl 4 rfl ?_
        refine z_imulN hC d_Mo_meetsAll_21 ?_
        refine z_iconstN hC 4 d_Mo_meetsAll_22 rfl ?_
        refine z_iload hC d_Mo_meetsAll_23 0 rfl ?_
        refine z_imulN hC d_Mo_meetsAll_25 ?_
        refine z_iaddN hC d_Mo_meetsAll_26 ?_
        refine z_istore (lv' := [(5, .int (iI (((160 * q) + (4 * j) : Nat) : Int))), (4, .int (iI ((j : Nat) : Int))), (3, .int (iI ((o : Nat) : Int))), (0, .ref m0), (1, .int (iI ((r : Nat) : Int))), (2, .int (iI ((q : Nat) : Int)))]) hC d_Mo_meetsAll_27 (by decide) rfl ?_
        refine z_aload_n hC d_Mo_meetsAll_29 rfl 3 rfl ?_
        refine z_get hC hi_Mo 0 rfl rfl 16 (by decide) mw_751 (Or.inl rfl) rfl d_Mo_meetsAll_30 ?_
        refine z_iload hC d_Mo_meetsAll_33 0 rfl ?_
        refine z_iald hC 1 0 rfl rfl ((160 * q) + (4 * j)) rfl (by omega) (by decide) d_Mo_meetsAll_35 ?_
        refine Z.eq (st' := [.int ((tr (40 * q + j)).1)]) rfl rfl rfl (by rw [pk_0 tr (k := 40 * q + j) (by omega)]) ?_
        refine z_istore (lv' := [(6, .int ((tr (40 * q + j)).1)), (5, .int (iI (((160 * q) + (4 * j) : Nat) : Int))), (4, .int (iI ((j : Nat) : Int))), (3, .int (iI ((o : Nat) : Int))), (0, .ref m0), (1, .int (iI ((r : Nat) : Int))), (2, .int (iI ((q : Nat) : Int)))]) hC d_Mo_meetsAll_36 (by decide) rfl ?_
        refine z_iload hC d_Mo_meetsAll_38 0 rfl ?_
        refine z_iconstN hC 3 d_Mo_meetsAll_40 rfl ?_
        refine z_icmp_ge (tgt := 63) hC (((tr (40 * q + j)).1 : Int32).toInt) ((3 : Nat) : Int) d_Mo_meetsAll_41 rfl rfl (iI_t (by omega)) (fun c_2 => ?_) (fun c_2 => ?_)
        · have ho9 := okT_join hok (by first | omega | (dsimp only; omega))
          refine z_aload_n hC d_Mo_meetsAll_63 rfl 4 rfl ?_
          refine z_get hC hi_Mo 0 rfl rfl 24 (by decide) mw_759 (Or.inl rfl) rfl d_Mo_meetsAll_64 ?_
          refine z_iload_n hC d_Mo_meetsAll_67 rfl 3 rfl ?_
          refine z_iconstN hC 1 d_Mo_meetsAll_68 rfl ?_
          refine z_isubN hC d_Mo_meetsAll_69 (by omega) ?_
          refine z_zaldB hC 5 2 rfl rfl (o - 1) rfl (by omega) (by decide) d_Mo_meetsAll_70 ?_
          refine z_istore (lv' := [(7, .int (iI (bI (m (o - 1))))), (6, .int ((tr (40 * q + j)).1)), (5, .int (iI (((160 * q) + (4 * j) : Nat) : Int))), (4, .int (iI ((j : Nat) : Int))), (3, .int (iI ((o : Nat) : Int))), (0, .ref m0), (1, .int (iI ((r : Nat) : Int))), (2, .int (iI ((q : Nat) : Int)))]) hC d_Mo_meetsAll_71 (by decide) rfl ?_
          refine z_aload_n hC d_Mo_meetsAll_73 rfl 5 rfl ?_
          refine z_get hC hi_Mo 0 rfl rfl 24 (by decide) mw_759 (Or.inl rfl) rfl d_Mo_meetsAll_74 ?_
          refine z_iload_n hC d_Mo_meetsAll_77 rfl 4 rfl ?_
          refine z_iconstN hC 2 d_Mo_meetsAll_78 rfl ?_
          refine z_isubN hC d_Mo_meetsAll_79 (by omega) ?_
          refine z_zaldB hC 5 2 rfl rfl (o - 2) rfl (by omega) (by decide) d_Mo_meetsAll_80 ?_
          refine z_istore (lv' := [(8, .int (iI (bI (m (o - 2))))), (7, .int (iI (bI (m (o - 1))))), (6, .int ((tr (40 * q + j)).1)), (5, .int (iI (((160 * q) + (4 * j) : Nat) : Int))), (4, .int (iI ((j : Nat) : Int))), (3, .int (iI ((o : Nat) : Int))), (0, .ref m0), (1, .int (iI ((r : Nat) : Int))), (2, .int (iI ((q : Nat) : Int)))]) hC d_Mo_meetsAll_81 (by decide) rfl ?_
          refine z_idecN (lv' := [(3, .int (iI ((o - 1 : Nat) : Int))), (8, .int (iI (bI (m (o - 2))))), (7, .int (iI (bI (m (o - 1))))), (6, .int ((tr (40 * q + j)).1)), (5, .int (iI (((160 * q) + (4 * j) : Nat) : Int))), (4, .int (iI ((j : Nat) : Int))), (0, .ref m0), (1, .int (iI ((r : Nat) : Int))), (2, .int (iI ((q : Nat) : Int)))]) hC d_Mo_meetsAll_83 5 rfl (by omega) (by decide) rfl ?_
          refine z_aload_n hC d_Mo_meetsAll_86 rfl 6 rfl ?_
          refine z_get hC hi_Mo 0 rfl rfl 24 (by decide) mw_759 (Or.inl rfl) rfl d_Mo_meetsAll_87 ?_
          refine z_iload_n hC d_Mo_meetsAll_90 rfl 0 rfl ?_
          refine z_iconstN hC 1 d_Mo_meetsAll_91 rfl ?_
          refine z_isubN hC d_Mo_meetsAll_92 (by omega) ?_
          refine z_iload hC d_Mo_meetsAll_93 3 rfl ?_
          refine z_iconstN hC 3 d_Mo_meetsAll_95 rfl ?_
          refine z_icmp_ne (tgt := 117) hC (((tr (40 * q + j)).1 : Int32).toInt) ((3 : Nat) : Int) d_Mo_meetsAll_96 rfl rfl (iI_t (by omega)) (fun c_3 => ?_) (fun c_3 => ?_)
          · refine z_iload hC d_Mo_meetsAll_117 3 rfl ?_
            refine z_iconstN hC 4 d_Mo_meetsAll_119 rfl ?_
            refine z_icmp_ne (tgt := 141) hC (((tr (40 * q + j)).1 : Int32).toInt) ((4 : Nat) : Int) d_Mo_meetsAll_120 rfl rfl (iI_t (by omega)) (fun c_4 => ?_) (fun c_4 => ?_)
            · refine z_iload hC d_Mo_meetsAll_141 2 rfl ?_
              refine z_ifeqB (tgt := 155) hC d_Mo_meetsAll_143 rfl (fun c_5 => ?_) (fun c_5 => ?_)
              · refine z_iconstN hC 0 d_Mo_meetsAll_155 rfl ?_
                refine z_zastB (v := false) (w' := [(m0, .inr (10, [.int (iI ((0 : Nat) : Int)), .ref m1, .int (iI ((sn : Nat) : Int)), .int (iI ((ap : Nat) : Int)), .int (iI ((wr : Nat) : Int)), .ref m2, .ref m3, .ref m4, .int (iI ((xc : Nat) : Int)), .ref m5, .int (iI ((un : Nat) : Int)), .ref m6, .ref m7, .int (iI ((bc : Nat) : Int)), .ref m8, .int (iI ((wc : Nat) : Int)), .ref m9, .ref m10, .ref m11, .ref m12, .int (iI ((rc : Nat) : Int)), .ref m13, .ref m14, .ref m15, .ref m16, .ref m17, .int (iI ((hc : Nat) : Int)), .ref m18, .ref m19])), (m9, .inl ((g.2.1 0), 1760, .inl (pk tr))), (m10, .inl ((g.2.1 0), 11, .inl (nF ts))), (m14, .inl ((g.2.1 0), 976, .inl (pe en))), (m15, .inl ((g.2.1 0), 61, .inl (nF ec))), (m16, .inl ((g.2.1 2), 41, .inl (bF (up m ((o - 1) - 1) false))))]) hC 5 2 rfl rfl ((o - 1) - 1) rfl (by omega) (by decide) rfl d_Mo_meetsAll_156 ?_
                refine z_iinc (lv' := [(4, .int (iI (((j : Nat) : Int) + (-1)))), (3, .int (iI ((o - 1 : Nat) : Int))), (8, .int (iI (bI (m (o - 2))))), (7, .int (iI (bI (m (o - 1))))), (6, .int ((tr (40 * q + j)).1)), (5, .int (iI (((160 * q) + (4 * j) : Nat) : Int))), (0, .ref m0), (1, .int (iI ((r : Nat) : Int))), (2, .int (iI ((q : Nat) : Int)))]) hC d_Mo_meetsAll_157 5 rfl (by decide) rfl ?_
                refine z_goto (tgt := 12) hC d_Mo_meetsAll_160 rfl ?_
                exact Zloc [0, 1, 6, 7, 8] rfl (Z.eq (w' := [(m0, .inr (10, [.int (iI ((0 : Nat) : Int)), .ref m1, .int (iI ((sn : Nat) : Int)), .int (iI ((ap : Nat) : Int)), .int (iI ((wr : Nat) : Int)), .ref m2, .ref m3, .ref m4, .int (iI ((xc : Nat) : Int)), .ref m5, .int (iI ((un : Nat) : Int)), .ref m6, .ref m7, .int (iI ((bc : Nat) : Int)), .ref m8, .int (iI ((wc : Nat) : Int)), .ref m9, .ref m10, .ref m11, .ref m12, .int (iI ((rc : Nat) : Int)), .ref m13, .ref m14, .ref m15, .ref m16, .ref m17, .int (iI ((hc : Nat) : Int)), .ref m18, .ref m19])), (m9, .inl ((g.2.1 0), 1760, .inl (pk tr))), (m10, .inl ((g.2.1 0), 11, .inl (nF ts))), (m14, .inl ((g.2.1 0), 976, .inl (pe en))), (m15, .inl ((g.2.1 0), 61, .inl (nF ec))), (m16, .inl ((g.2.1 2), 41, .inl (bF (up m ((o - 1) - 1) false))))]) rfl rfl rfl rfl (ih_12 (((j : Nat) : Int) + (-1)) (o - 1) (up m ((o - 1) - 1) false) (by omega) (by omega) (by rw [show (((j : Nat) : Int) + (-1) + 1).toNat = j by omega]; exact ho9.2) (by first | exact mtR_go hq (mt_leaf (by assumption) (by omega)) | exact mtR_go hq (mt_join (by omega) (by omega) (by omega) (by unfold jnB; first | (rw [if_pos (by omega)]; simp_all; done) | (rw [if_neg (by omega), if_pos (by omega)]; simp_all; done) | (rw [if_neg (by omega), if_neg (by omega)]; simp_all; done)))) (by omega)))
              · refine z_iload hC d_Mo_meetsAll_146 1 rfl ?_
                refine z_ifneB (tgt := 155) hC d_Mo_meetsAll_148 rfl (fun c_6 => ?_) (fun c_6 => ?_)
                · refine z_iconstN hC 0 d_Mo_meetsAll_155 rfl ?_
                  refine z_zastB (v := false) (w' := [(m0, .inr (10, [.int (iI ((0 : Nat) : Int)), .ref m1, .int (iI ((sn : Nat) : Int)), .int (iI ((ap : Nat) : Int)), .int (iI ((wr : Nat) : Int)), .ref m2, .ref m3, .ref m4, .int (iI ((xc : Nat) : Int)), .ref m5, .int (iI ((un : Nat) : Int)), .ref m6, .ref m7, .int (iI ((bc : Nat) : Int)), .ref m8, .int (iI ((wc : Nat) : Int)), .ref m9, .ref m10, .ref m11, .ref m12, .int (iI ((rc : Nat) : Int)), .ref m13, .ref m14, .ref m15, .ref m16, .ref m17, .int (iI ((hc : Nat) : Int)), .ref m18, .ref m19])), (m9, .inl ((g.2.1 0), 1760, .inl (pk tr))), (m10, .inl ((g.2.1 0), 11, .inl (nF ts))), (m14, .inl ((g.2.1 0), 976, .inl (pe en))), (m15, .inl ((g.2.1 0), 61, .inl (nF ec))), (m16, .inl ((g.2.1 2), 41, .inl (bF (up m ((o - 1) - 1) false))))]) hC 5 2 rfl rfl ((o - 1) - 1) rfl (by omega) (by decide) rfl d_Mo_meetsAll_156 ?_
                  refine z_iinc (lv' := [(4, .int (iI (((j : Nat) : Int) + (-1)))), (3, .int (iI ((o - 1 : Nat) : Int))), (8, .int (iI (bI (m (o - 2))))), (7, .int (iI (bI (m (o - 1))))), (6, .int ((tr (40 * q + j)).1)), (5, .int (iI (((160 * q) + (4 * j) : Nat) : Int))), (0, .ref m0), (1, .int (iI ((r : Nat) : Int))), (2, .int (iI ((q : Nat) : Int)))]) hC d_Mo_meetsAll_157 5 rfl (by decide) rfl ?_
                  refine z_goto (tgt := 12) hC d_Mo_meetsAll_160 rfl ?_
                  exact Zloc [0, 1, 6, 7, 8] rfl (Z.eq (w' := [(m0, .inr (10, [.int (iI ((0 : Nat) : Int)), .ref m1, .int (iI ((sn : Nat) : Int)), .int (iI ((ap : Nat) : Int)), .int (iI ((wr : Nat) : Int)), .ref m2, .ref m3, .ref m4, .int (iI ((xc : Nat) : Int)), .ref m5, .int (iI ((un : Nat) : Int)), .ref m6, .ref m7, .int (iI ((bc : Nat) : Int)), .ref m8, .int (iI ((wc : Nat) : Int)), .ref m9, .ref m10, .ref m11, .ref m12, .int (iI ((rc : Nat) : Int)), .ref m13, .ref m14, .ref m15, .ref m16, .ref m17, .int (iI ((hc : Nat) : Int)), .ref m18, .ref m19])), (m9, .inl ((g.2.1 0), 1760, .inl (pk tr))), (m10, .inl ((g.2.1 0), 11, .inl (nF ts))), (m14, .inl ((g.2.1 0), 976, .inl (pe en))), (m15, .inl ((g.2.1 0), 61, .inl (nF ec))), (m16, .inl ((g.2.1 2), 41, .inl (bF (up m ((o - 1) - 1) false))))]) rfl rfl rfl rfl (ih_12 (((j : Nat) : Int) + (-1)) (o - 1) (up m ((o - 1) - 1) false) (by omega) (by omega) (by rw [show (((j : Nat) : Int) + (-1) + 1).toNat = j by omega]; exact ho9.2) (by first | exact mtR_go hq (mt_leaf (by assumption) (by omega)) | exact mtR_go hq (mt_join (by omega) (by omega) (by omega) (by unfold jnB; first | (rw [if_pos (by omega)]; simp_all; done) | (rw [if_neg (by omega), if_pos (by omega)]; simp_all; done) | (rw [if_neg (by omega), if_neg (by omega)]; simp_all; done)))) (by omega)))
                · refine z_iconstN hC 1 d_Mo_meetsAll_151 rfl ?_
                  refine z_goto (tgt := 156) hC d_Mo_meetsAll_152 rfl ?_
                  refine z_zastB (v := true) (w' := [(m0, .inr (10, [.int (iI ((0 : Nat) : Int)), .ref m1, .int (iI ((sn : Nat) : Int)), .int (iI ((ap : Nat) : Int)), .int (iI ((wr : Nat) : Int)), .ref m2, .ref m3, .ref m4, .int (iI ((xc : Nat) : Int)), .ref m5, .int (iI ((un : Nat) : Int)), .ref m6, .ref m7, .int (iI ((bc : Nat) : Int)), .ref m8, .int (iI ((wc : Nat) : Int)), .ref m9, .ref m10, .ref m11, .ref m12, .int (iI ((rc : Nat) : Int)), .ref m13, .ref m14, .ref m15, .ref m16, .ref m17, .int (iI ((hc : Nat) : Int)), .ref m18, .ref m19])), (m9, .inl ((g.2.1 0), 1760, .inl (pk tr))), (m10, .inl ((g.2.1 0), 11, .inl (nF ts))), (m14, .inl ((g.2.1 0), 976, .inl (pe en))), (m15, .inl ((g.2.1 0), 61, .inl (nF ec))), (m16, .inl ((g.2.1 2), 41, .inl (bF (up m ((o - 1) - 1) true))))]) hC 5 2 rfl rfl ((o - 1) - 1) rfl (by omega) (by decide) rfl d_Mo_meetsAll_156 ?_
                  refine z_iinc (lv' := [(4, .int (iI (((j : Nat) : Int) + (-1)))), (3, .int (iI ((o - 1 : Nat) : Int))), (8, .int (iI (bI (m (o - 2))))), (7, .int (iI (bI (m (o - 1))))), (6, .int ((tr (40 * q + j)).1)), (5, .int (iI (((160 * q) + (4 * j) : Nat) : Int))), (0, .ref m0), (1, .int (iI ((r : Nat) : Int))), (2, .int (iI ((q : Nat) : Int)))]) hC d_Mo_meetsAll_157 5 rfl (by decide) rfl ?_
                  refine z_goto (tgt := 12) hC d_Mo_meetsAll_160 rfl ?_
                  exact Zloc [0, 1, 6, 7, 8] rfl (Z.eq (w' := [(m0, .inr (10, [.int (iI ((0 : Nat) : Int)), .ref m1, .int (iI ((sn : Nat) : Int)), .int (iI ((ap : Nat) : Int)), .int (iI ((wr : Nat) : Int)), .ref m2, .ref m3, .ref m4, .int (iI ((xc : Nat) : Int)), .ref m5, .int (iI ((un : Nat) : Int)), .ref m6, .ref m7, .int (iI ((bc : Nat) : Int)), .ref m8, .int (iI ((wc : Nat) : Int)), .ref m9, .ref m10, .ref m11, .ref m12, .int (iI ((rc : Nat) : Int)), .ref m13, .ref m14, .ref m15, .ref m16, .ref m17, .int (iI ((hc : Nat) : Int)), .ref m18, .ref m19])), (m9, .inl ((g.2.1 0), 1760, .inl (pk tr))), (m10, .inl ((g.2.1 0), 11, .inl (nF ts))), (m14, .inl ((g.2.1 0), 976, .inl (pe en))), (m15, .inl ((g.2.1 0), 61, .inl (nF ec))), (m16, .inl ((g.2.1 2), 41, .inl (bF (up m ((o - 1) - 1) true))))]) rfl rfl rfl rfl (ih_12 (((j : Nat) : Int) + (-1)) (o - 1) (up m ((o - 1) - 1) true) (by omega) (by omega) (by rw [show (((j : Nat) : Int) + (-1) + 1).toNat = j by omega]; exact ho9.2) (by first | exact mtR_go hq (mt_leaf (by assumption) (by omega)) | exact mtR_go hq (mt_join (by omega) (by omega) (by omega) (by unfold jnB; first | (rw [if_pos (by omega)]; simp_all; done) | (rw [if_neg (by omega), if_pos (by omega)]; simp_all; done) | (rw [if_neg (by omega), if_neg (by omega)]; simp_all; done)))) (by omega)))
            · refine z_iload hC d_Mo_meetsAll_123 2 rfl ?_
              refine z_ifneB (tgt := 133) hC d_Mo_meetsAll_125 rfl (fun c_7 => ?_) (fun c_7 => ?_)
              · refine z_iconstN hC 1 d_Mo_meetsAll_133 rfl ?_
                refine z_goto (tgt := 156) hC d_Mo_meetsAll_134 rfl ?_
                refine z_zastB (v := true) (w' := [(m0, .inr (10, [.int (iI ((0 : Nat) : Int)), .ref m1, .int (iI ((sn : Nat) : Int)), .int (iI ((ap : Nat) : Int)), .int (iI ((wr : Nat) : Int)), .ref m2, .ref m3, .ref m4, .int (iI ((xc : Nat) : Int)), .ref m5, .int (iI ((un : Nat) : Int)), .ref m6, .ref m7, .int (iI ((bc : Nat) : Int)), .ref m8, .int (iI ((wc : Nat) : Int)), .ref m9, .ref m10, .ref m11, .ref m12, .int (iI ((rc : Nat) : Int)), .ref m13, .ref m14, .ref m15, .ref m16, .ref m17, .int (iI ((hc : Nat) : Int)), .ref m18, .ref m19])), (m9, .inl ((g.2.1 0), 1760, .inl (pk tr))), (m10, .inl ((g.2.1 0), 11, .inl (nF ts))), (m14, .inl ((g.2.1 0), 976, .inl (pe en))), (m15, .inl ((g.2.1 0), 61, .inl (nF ec))), (m16, .inl ((g.2.1 2), 41, .inl (bF (up m ((o - 1) - 1) true))))]) hC 5 2 rfl rfl ((o - 1) - 1) rfl (by omega) (by decide) rfl d_Mo_meetsAll_156 ?_
                refine z_iinc (lv' := [(4, .int (iI (((j : Nat) : Int) + (-1)))), (3, .int (iI ((o - 1 : Nat) : Int))), (8, .int (iI (bI (m (o - 2))))), (7, .int (iI (bI (m (o - 1))))), (6, .int ((tr (40 * q + j)).1)), (5, .int (iI (((160 * q) + (4 * j) : Nat) : Int))), (0, .ref m0), (1, .int (iI ((r : Nat) : Int))), (2, .int (iI ((q : Nat) : Int)))]) hC d_Mo_meetsAll_157 5 rfl (by decide) rfl ?_
                refine z_goto (tgt := 12) hC d_Mo_meetsAll_160 rfl ?_
                exact Zloc [0, 1, 6, 7, 8] rfl (Z.eq (w' := [(m0, .inr (10, [.int (iI ((0 : Nat) : Int)), .ref m1, .int (iI ((sn : Nat) : Int)), .int (iI ((ap : Nat) : Int)), .int (iI ((wr : Nat) : Int)), .ref m2, .ref m3, .ref m4, .int (iI ((xc : Nat) : Int)), .ref m5, .int (iI ((un : Nat) : Int)), .ref m6, .ref m7, .int (iI ((bc : Nat) : Int)), .ref m8, .int (iI ((wc : Nat) : Int)), .ref m9, .ref m10, .ref m11, .ref m12, .int (iI ((rc : Nat) : Int)), .ref m13, .ref m14, .ref m15, .ref m16, .ref m17, .int (iI ((hc : Nat) : Int)), .ref m18, .ref m19])), (m9, .inl ((g.2.1 0), 1760, .inl (pk tr))), (m10, .inl ((g.2.1 0), 11, .inl (nF ts))), (m14, .inl ((g.2.1 0), 976, .inl (pe en))), (m15, .inl ((g.2.1 0), 61, .inl (nF ec))), (m16, .inl ((g.2.1 2), 41, .inl (bF (up m ((o - 1) - 1) true))))]) rfl rfl rfl rfl (ih_12 (((j : Nat) : Int) + (-1)) (o - 1) (up m ((o - 1) - 1) true) (by omega) (by omega) (by rw [show (((j : Nat) : Int) + (-1) + 1).toNat = j by omega]; exact ho9.2) (by first | exact mtR_go hq (mt_leaf (by assumption) (by omega)) | exact mtR_go hq (mt_join (by omega) (by omega) (by omega) (by unfold jnB; first | (rw [if_pos (by omega)]; simp_all; done) | (rw [if_neg (by omega), if_pos (by omega)]; simp_all; done) | (rw [if_neg (by omega), if_neg (by omega)]; simp_all; done)))) (by omega)))
              · refine z_iload hC d_Mo_meetsAll_128 1 rfl ?_
                refine z_ifeqB (tgt := 137) hC d_Mo_meetsAll_130 rfl (fun c_8 => ?_) (fun c_8 => ?_)
                · refine z_iconstN hC 0 d_Mo_meetsAll_137 rfl ?_
                  refine z_goto (tgt := 156) hC d_Mo_meetsAll_138 rfl ?_
                  refine z_zastB (v := false) (w' := [(m0, .inr (10, [.int (iI ((0 : Nat) : Int)), .ref m1, .int (iI ((sn : Nat) : Int)), .int (iI ((ap : Nat) : Int)), .int (iI ((wr : Nat) : Int)), .ref m2, .ref m3, .ref m4, .int (iI ((xc : Nat) : Int)), .ref m5, .int (iI ((un : Nat) : Int)), .ref m6, .ref m7, .int (iI ((bc : Nat) : Int)), .ref m8, .int (iI ((wc : Nat) : Int)), .ref m9, .ref m10, .ref m11, .ref m12, .int (iI ((rc : Nat) : Int)), .ref m13, .ref m14, .ref m15, .ref m16, .ref m17, .int (iI ((hc : Nat) : Int)), .ref m18, .ref m19])), (m9, .inl ((g.2.1 0), 1760, .inl (pk tr))), (m10, .inl ((g.2.1 0), 11, .inl (nF ts))), (m14, .inl ((g.2.1 0), 976, .inl (pe en))), (m15, .inl ((g.2.1 0), 61, .inl (nF ec))), (m16, .inl ((g.2.1 2), 41, .inl (bF (up m ((o - 1) - 1) false))))]) hC 5 2 rfl rfl ((o - 1) - 1) rfl (by omega) (by decide) rfl d_Mo_meetsAll_156 ?_
                  refine z_iinc (lv' := [(4, .int (iI (((j : Nat) : Int) + (-1)))), (3, .int (iI ((o - 1 : Nat) : Int))), (8, .int (iI (bI (m (o - 2))))), (7, .int (iI (bI (m (o - 1))))), (6, .int ((tr (40 * q + j)).1)), (5, .int (iI (((160 * q) + (4 * j) : Nat) : Int))), (0, .ref m0), (1, .int (iI ((r : Nat) : Int))), (2, .int (iI ((q : Nat) : Int)))]) hC d_Mo_meetsAll_157 5 rfl (by decide) rfl ?_
                  refine z_goto (tgt := 12) hC d_Mo_meetsAll_160 rfl ?_
                  exact Zloc [0, 1, 6, 7, 8] rfl (Z.eq (w' := [(m0, .inr (10, [.int (iI ((0 : Nat) : Int)), .ref m1, .int (iI ((sn : Nat) : Int)), .int (iI ((ap : Nat) : Int)), .int (iI ((wr : Nat) : Int)), .ref m2, .ref m3, .ref m4, .int (iI ((xc : Nat) : Int)), .ref m5, .int (iI ((un : Nat) : Int)), .ref m6, .ref m7, .int (iI ((bc : Nat) : Int)), .ref m8, .int (iI ((wc : Nat) : Int)), .ref m9, .ref m10, .ref m11, .ref m12, .int (iI ((rc : Nat) : Int)), .ref m13, .ref m14, .ref m15, .ref m16, .ref m17, .int (iI ((hc : Nat) : Int)), .ref m18, .ref m19])), (m9, .inl ((g.2.1 0), 1760, .inl (pk tr))), (m10, .inl ((g.2.1 0), 11, .inl (nF ts))), (m14, .inl ((g.2.1 0), 976, .inl (pe en))), (m15, .inl ((g.2.1 0), 61, .inl (nF ec))), (m16, .inl ((g.2.1 2), 41, .inl (bF (up m ((o - 1) - 1) false))))]) rfl rfl rfl rfl (ih_12 (((j : Nat) : Int) + (-1)) (o - 1) (up m ((o - 1) - 1) false) (by omega) (by omega) (by rw [show (((j : Nat) : Int) + (-1) + 1).toNat = j by omega]; exact ho9.2) (by first | exact mtR_go hq (mt_leaf (by assumption) (by omega)) | exact mtR_go hq (mt_join (by omega) (by omega) (by omega) (by unfold jnB; first | (rw [if_pos (by omega)]; simp_all; done) | (rw [if_neg (by omega), if_pos (by omega)]; simp_all; done) | (rw [if_neg (by omega), if_neg (by omega)]; simp_all; done)))) (by omega)))
                · refine z_iconstN hC 1 d_Mo_meetsAll_133 rfl ?_
                  refine z_goto (tgt := 156) hC d_Mo_meetsAll_134 rfl ?_
                  refine z_zastB (v := true) (w' := [(m0, .inr (10, [.int (iI ((0 : Nat) : Int)), .ref m1, .int (iI ((sn : Nat) : Int)), .int (iI ((ap : Nat) : Int)), .int (iI ((wr : Nat) : Int)), .ref m2, .ref m3, .ref m4, .int (iI ((xc : Nat) : Int)), .ref m5, .int (iI ((un : Nat) : Int)), .ref m6, .ref m7, .int (iI ((bc : Nat) : Int)), .ref m8, .int (iI ((wc : Nat) : Int)), .ref m9, .ref m10, .ref m11, .ref m12, .int (iI ((rc : Nat) : Int)), .ref m13, .ref m14, .ref m15, .ref m16, .ref m17, .int (iI ((hc : Nat) : Int)), .ref m18, .ref m19])), (m9, .inl ((g.2.1 0), 1760, .inl (pk tr))), (m10, .inl ((g.2.1 0), 11, .inl (nF ts))), (m14, .inl ((g.2.1 0), 976, .inl (pe en))), (m15, .inl ((g.2.1 0), 61, .inl (nF ec))), (m16, .inl ((g.2.1 2), 41, .inl (bF (up m ((o - 1) - 1) true))))]) hC 5 2 rfl rfl ((o - 1) - 1) rfl (by omega) (by decide) rfl d_Mo_meetsAll_156 ?_
                  refine z_iinc (lv' := [(4, .int (iI (((j : Nat) : Int) + (-1)))), (3, .int (iI ((o - 1 : Nat) : Int))), (8, .int (iI (bI (m (o - 2))))), (7, .int (iI (bI (m (o - 1))))), (6, .int ((tr (40 * q + j)).1)), (5, .int (iI (((160 * q) + (4 * j) : Nat) : Int))), (0, .ref m0), (1, .int (iI ((r : Nat) : Int))), (2, .int (iI ((q : Nat) : Int)))]) hC d_Mo_meetsAll_157 5 rfl (by decide) rfl ?_
                  refine z_goto (tgt := 12) hC d_Mo_meetsAll_160 rfl ?_
                  exact Zloc [0, 1, 6, 7, 8] rfl (Z.eq (w' := [(m0, .inr (10, [.int (iI ((0 : Nat) : Int)), .ref m1, .int (iI ((sn : Nat) : Int)), .int (iI ((ap : Nat) : Int)), .int (iI ((wr : Nat) : Int)), .ref m2, .ref m3, .ref m4, .int (iI ((xc : Nat) : Int)), .ref m5, .int (iI ((un : Nat) : Int)), .ref m6, .ref m7, .int (iI ((bc : Nat) : Int)), .ref m8, .int (iI ((wc : Nat) : Int)), .ref m9, .ref m10, .ref m11, .ref m12, .int (iI ((rc : Nat) : Int)), .ref m13, .ref m14, .ref m15, .ref m16, .ref m17, .int (iI ((hc : Nat) : Int)), .ref m18, .ref m19])), (m9, .inl ((g.2.1 0), 1760, .inl (pk tr))), (m10, .inl ((g.2.1 0), 11, .inl (nF ts))), (m14, .inl ((g.2.1 0), 976, .inl (pe en))), (m15, .inl ((g.2.1 0), 61, .inl (nF ec))), (m16, .inl ((g.2.1 2), 41, .inl (bF (up m ((o - 1) - 1) true))))]) rfl rfl rfl rfl (ih_12 (((j : Nat) : Int) + (-1)) (o - 1) (up m ((o - 1) - 1) true) (by omega) (by omega) (by rw [show (((j : Nat) : Int) + (-1) + 1).toNat = j by omega]; exact ho9.2) (by first | exact mtR_go hq (mt_leaf (by assumption) (by omega)) | exact mtR_go hq (mt_join (by omega) (by omega) (by omega) (by unfold jnB; first | (rw [if_pos (by omega)]; simp_all; done) | (rw [if_neg (by omega), if_pos (by omega)]; simp_all; done) | (rw [if_neg (by omega), if_neg (by omega)]; simp_all; done)))) (by omega)))
          · refine z_iload hC d_Mo_meetsAll_99 2 rfl ?_
            refine z_ifeqB (tgt := 113) hC d_Mo_meetsAll_101 rfl (fun c_9 => ?_) (fun c_9 => ?_)
            · refine z_iconstN hC 0 d_Mo_meetsAll_113 rfl ?_
              refine z_goto (tgt := 156) hC d_Mo_meetsAll_114 rfl ?_
              refine z_zastB (v := false) (w' := [(m0, .inr (10, [.int (iI ((0 : Nat) : Int)), .ref m1, .int (iI ((sn : Nat) : Int)), .int (iI ((ap : Nat) : Int)), .int (iI ((wr : Nat) : Int)), .ref m2, .ref m3, .ref m4, .int (iI ((xc : Nat) : Int)), .ref m5, .int (iI ((un : Nat) : Int)), .ref m6, .ref m7, .int (iI ((bc : Nat) : Int)), .ref m8, .int (iI ((wc : Nat) : Int)), .ref m9, .ref m10, .ref m11, .ref m12, .int (iI ((rc : Nat) : Int)), .ref m13, .ref m14, .ref m15, .ref m16, .ref m17, .int (iI ((hc : Nat) : Int)), .ref m18, .ref m19])), (m9, .inl ((g.2.1 0), 1760, .inl (pk tr))), (m10, .inl ((g.2.1 0), 11, .inl (nF ts))), (m14, .inl ((g.2.1 0), 976, .inl (pe en))), (m15, .inl ((g.2.1 0), 61, .inl (nF ec))), (m16, .inl ((g.2.1 2), 41, .inl (bF (up m ((o - 1) - 1) false))))]) hC 5 2 rfl rfl ((o - 1) - 1) rfl (by omega) (by decide) rfl d_Mo_meetsAll_156 ?_
              refine z_iinc (lv' := [(4, .int (iI (((j : Nat) : Int) + (-1)))), (3, .int (iI ((o - 1 : Nat) : Int))), (8, .int (iI (bI (m (o - 2))))), (7, .int (iI (bI (m (o - 1))))), (6, .int ((tr (40 * q + j)).1)), (5, .int (iI (((160 * q) + (4 * j) : Nat) : Int))), (0, .ref m0), (1, .int (iI ((r : Nat) : Int))), (2, .int (iI ((q : Nat) : Int)))]) hC d_Mo_meetsAll_157 5 rfl (by decide) rfl ?_
              refine z_goto (tgt := 12) hC d_Mo_meetsAll_160 rfl ?_
              exact Zloc [0, 1, 6, 7, 8] rfl (Z.eq (w' := [(m0, .inr (10, [.int (iI ((0 : Nat) : Int)), .ref m1, .int (iI ((sn : Nat) : Int)), .int (iI ((ap : Nat) : Int)), .int (iI ((wr : Nat) : Int)), .ref m2, .ref m3, .ref m4, .int (iI ((xc : Nat) : Int)), .ref m5, .int (iI ((un : Nat) : Int)), .ref m6, .ref m7, .int (iI ((bc : Nat) : Int)), .ref m8, .int (iI ((wc : Nat) : Int)), .ref m9, .ref m10, .ref m11, .ref m12, .int (iI ((rc : Nat) : Int)), .ref m13, .ref m14, .ref m15, .ref m16, .ref m17, .int (iI ((hc : Nat) : Int)), .ref m18, .ref m19])), (m9, .inl ((g.2.1 0), 1760, .inl (pk tr))), (m10, .inl ((g.2.1 0), 11, .inl (nF ts))), (m14, .inl ((g.2.1 0), 976, .inl (pe en))), (m15, .inl ((g.2.1 0), 61, .inl (nF ec))), (m16, .inl ((g.2.1 2), 41, .inl (bF (up m ((o - 1) - 1) false))))]) rfl rfl rfl rfl (ih_12 (((j : Nat) : Int) + (-1)) (o - 1) (up m ((o - 1) - 1) false) (by omega) (by omega) (by rw [show (((j : Nat) : Int) + (-1) + 1).toNat = j by omega]; exact ho9.2) (by first | exact mtR_go hq (mt_leaf (by assumption) (by omega)) | exact mtR_go hq (mt_join (by omega) (by omega) (by omega) (by unfold jnB; first | (rw [if_pos (by omega)]; simp_all; done) | (rw [if_neg (by omega), if_pos (by omega)]; simp_all; done) | (rw [if_neg (by omega), if_neg (by omega)]; simp_all; done)))) (by omega)))
            · refine z_iload hC d_Mo_meetsAll_104 1 rfl ?_
              refine z_ifeqB (tgt := 113) hC d_Mo_meetsAll_106 rfl (fun c_10 => ?_) (fun c_10 => ?_)
              · refine z_iconstN hC 0 d_Mo_meetsAll_113 rfl ?_
                refine z_goto (tgt := 156) hC d_Mo_meetsAll_114 rfl ?_
                refine z_zastB (v := false) (w' := [(m0, .inr (10, [.int (iI ((0 : Nat) : Int)), .ref m1, .int (iI ((sn : Nat) : Int)), .int (iI ((ap : Nat) : Int)), .int (iI ((wr : Nat) : Int)), .ref m2, .ref m3, .ref m4, .int (iI ((xc : Nat) : Int)), .ref m5, .int (iI ((un : Nat) : Int)), .ref m6, .ref m7, .int (iI ((bc : Nat) : Int)), .ref m8, .int (iI ((wc : Nat) : Int)), .ref m9, .ref m10, .ref m11, .ref m12, .int (iI ((rc : Nat) : Int)), .ref m13, .ref m14, .ref m15, .ref m16, .ref m17, .int (iI ((hc : Nat) : Int)), .ref m18, .ref m19])), (m9, .inl ((g.2.1 0), 1760, .inl (pk tr))), (m10, .inl ((g.2.1 0), 11, .inl (nF ts))), (m14, .inl ((g.2.1 0), 976, .inl (pe en))), (m15, .inl ((g.2.1 0), 61, .inl (nF ec))), (m16, .inl ((g.2.1 2), 41, .inl (bF (up m ((o - 1) - 1) false))))]) hC 5 2 rfl rfl ((o - 1) - 1) rfl (by omega) (by decide) rfl d_Mo_meetsAll_156 ?_
                refine z_iinc (lv' := [(4, .int (iI (((j : Nat) : Int) + (-1)))), (3, .int (iI ((o - 1 : Nat) : Int))), (8, .int (iI (bI (m (o - 2))))), (7, .int (iI (bI (m (o - 1))))), (6, .int ((tr (40 * q + j)).1)), (5, .int (iI (((160 * q) + (4 * j) : Nat) : Int))), (0, .ref m0), (1, .int (iI ((r : Nat) : Int))), (2, .int (iI ((q : Nat) : Int)))]) hC d_Mo_meetsAll_157 5 rfl (by decide) rfl ?_
                refine z_goto (tgt := 12) hC d_Mo_meetsAll_160 rfl ?_
                exact Zloc [0, 1, 6, 7, 8] rfl (Z.eq (w' := [(m0, .inr (10, [.int (iI ((0 : Nat) : Int)), .ref m1, .int (iI ((sn : Nat) : Int)), .int (iI ((ap : Nat) : Int)), .int (iI ((wr : Nat) : Int)), .ref m2, .ref m3, .ref m4, .int (iI ((xc : Nat) : Int)), .ref m5, .int (iI ((un : Nat) : Int)), .ref m6, .ref m7, .int (iI ((bc : Nat) : Int)), .ref m8, .int (iI ((wc : Nat) : Int)), .ref m9, .ref m10, .ref m11, .ref m12, .int (iI ((rc : Nat) : Int)), .ref m13, .ref m14, .ref m15, .ref m16, .ref m17, .int (iI ((hc : Nat) : Int)), .ref m18, .ref m19])), (m9, .inl ((g.2.1 0), 1760, .inl (pk tr))), (m10, .inl ((g.2.1 0), 11, .inl (nF ts))), (m14, .inl ((g.2.1 0), 976, .inl (pe en))), (m15, .inl ((g.2.1 0), 61, .inl (nF ec))), (m16, .inl ((g.2.1 2), 41, .inl (bF (up m ((o - 1) - 1) false))))]) rfl rfl rfl rfl (ih_12 (((j : Nat) : Int) + (-1)) (o - 1) (up m ((o - 1) - 1) false) (by omega) (by omega) (by rw [show (((j : Nat) : Int) + (-1) + 1).toNat = j by omega]; exact ho9.2) (by first | exact mtR_go hq (mt_leaf (by assumption) (by omega)) | exact mtR_go hq (mt_join (by omega) (by omega) (by omega) (by unfold jnB; first | (rw [if_pos (by omega)]; simp_all; done) | (rw [if_neg (by omega), if_pos (by omega)]; simp_all; done) | (rw [if_neg (by omega), if_neg (by omega)]; simp_all; done)))) (by omega)))
              · refine z_iconstN hC 1 d_Mo_meetsAll_109 rfl ?_
                refine z_goto (tgt := 156) hC d_Mo_meetsAll_110 rfl ?_
                refine z_zastB (v := true) (w' := [(m0, .inr (10, [.int (iI ((0 : Nat) : Int)), .ref m1, .int (iI ((sn : Nat) : Int)), .int (iI ((ap : Nat) : Int)), .int (iI ((wr : Nat) : Int)), .ref m2, .ref m3, .ref m4, .int (iI ((xc : Nat) : Int)), .ref m5, .int (iI ((un : Nat) : Int)), .ref m6, .ref m7, .int (iI ((bc : Nat) : Int)), .ref m8, .int (iI ((wc : Nat) : Int)), .ref m9, .ref m10, .ref m11, .ref m12, .int (iI ((rc : Nat) : Int)), .ref m13, .ref m14, .ref m15, .ref m16, .ref m17, .int (iI ((hc : Nat) : Int)), .ref m18, .ref m19])), (m9, .inl ((g.2.1 0), 1760, .inl (pk tr))), (m10, .inl ((g.2.1 0), 11, .inl (nF ts))), (m14, .inl ((g.2.1 0), 976, .inl (pe en))), (m15, .inl ((g.2.1 0), 61, .inl (nF ec))), (m16, .inl ((g.2.1 2), 41, .inl (bF (up m ((o - 1) - 1) true))))]) hC 5 2 rfl rfl ((o - 1) - 1) rfl (by omega) (by decide) rfl d_Mo_meetsAll_156 ?_
                refine z_iinc (lv' := [(4, .int (iI (((j : Nat) : Int) + (-1)))), (3, .int (iI ((o - 1 : Nat) : Int))), (8, .int (iI (bI (m (o - 2))))), (7, .int (iI (bI (m (o - 1))))), (6, .int ((tr (40 * q + j)).1)), (5, .int (iI (((160 * q) + (4 * j) : Nat) : Int))), (0, .ref m0), (1, .int (iI ((r : Nat) : Int))), (2, .int (iI ((q : Nat) : Int)))]) hC d_Mo_meetsAll_157 5 rfl (by decide) rfl ?_
                refine z_goto (tgt := 12) hC d_Mo_meetsAll_160 rfl ?_
                exact Zloc [0, 1, 6, 7, 8] rfl (Z.eq (w' := [(m0, .inr (10, [.int (iI ((0 : Nat) : Int)), .ref m1, .int (iI ((sn : Nat) : Int)), .int (iI ((ap : Nat) : Int)), .int (iI ((wr : Nat) : Int)), .ref m2, .ref m3, .ref m4, .int (iI ((xc : Nat) : Int)), .ref m5, .int (iI ((un : Nat) : Int)), .ref m6, .ref m7, .int (iI ((bc : Nat) : Int)), .ref m8, .int (iI ((wc : Nat) : Int)), .ref m9, .ref m10, .ref m11, .ref m12, .int (iI ((rc : Nat) : Int)), .ref m13, .ref m14, .ref m15, .ref m16, .ref m17, .int (iI ((hc : Nat) : Int)), .ref m18, .ref m19])), (m9, .inl ((g.2.1 0), 1760, .inl (pk tr))), (m10, .inl ((g.2.1 0), 11, .inl (nF ts))), (m14, .inl ((g.2.1 0), 976, .inl (pe en))), (m15, .inl ((g.2.1 0), 61, .inl (nF ec))), (m16, .inl ((g.2.1 2), 41, .inl (bF (up m ((o - 1) - 1) true))))]) rfl rfl rfl rfl (ih_12 (((j : Nat) : Int) + (-1)) (o - 1) (up m ((o - 1) - 1) true) (by omega) (by omega) (by rw [show (((j : Nat) : Int) + (-1) + 1).toNat = j by omega]; exact ho9.2) (by first | exact mtR_go hq (mt_leaf (by assumption) (by omega)) | exact mtR_go hq (mt_join (by omega) (by omega) (by omega) (by unfold jnB; first | (rw [if_pos (by omega)]; simp_all; done) | (rw [if_neg (by omega), if_pos (by omega)]; simp_all; done) | (rw [if_neg (by omega), if_neg (by omega)]; simp_all; done)))) (by omega)))
        · have ho9 := okT_leaf hok (by assumption)
          refine z_aload_n hC d_Mo_meetsAll_44 rfl 4 rfl ?_
          refine z_get hC hi_Mo 0 rfl rfl 24 (by decide) mw_759 (Or.inl rfl) rfl d_Mo_meetsAll_45 ?_
          refine z_iload_n hC d_Mo_meetsAll_48 rfl 3 rfl ?_
          refine z_aload_n hC d_Mo_meetsAll_49 rfl 4 rfl ?_
          refine z_iload_n hC d_Mo_meetsAll_50 rfl 5 rfl ?_
          refine z_iload hC d_Mo_meetsAll_51 1 rfl ?_
          refine z_callV (q0 := 0) (ci := 10) (w' := [(m0, .inr (10, [.int (iI ((0 : Nat) : Int)), .ref m1, .int (iI ((sn : Nat) : Int)), .int (iI ((ap : Nat) : Int)), .int (iI ((wr : Nat) : Int)), .ref m2, .ref m3, .ref m4, .int (iI ((xc : Nat) : Int)), .ref m5, .int (iI ((un : Nat) : Int)), .ref m6, .ref m7, .int (iI ((bc : Nat) : Int)), .ref m8, .int (iI ((wc : Nat) : Int)), .ref m9, .ref m10, .ref m11, .ref m12, .int (iI ((rc : Nat) : Int)), .ref m13, .ref m14, .ref m15, .ref m16, .ref m17, .int (iI ((hc : Nat) : Int)), .ref m18, .ref m19])), (m9, .inl ((g.2.1 0), 1760, .inl (pk tr))), (m10, .inl ((g.2.1 0), 11, .inl (nF ts))), (m14, .inl ((g.2.1 0), 976, .inl (pe en))), (m15, .inl ((g.2.1 0), 61, .inl (nF ec))), (m16, .inl ((g.2.1 2), 41, .inl (bF m)))]) (st1 := [.int (iI (bI (smR ec en r (tr (40 * q + j))))), .int (iI ((o : Nat) : Int)), .ref m16]) hC (k_Mo_has l g m0 m1 m2 m3 m4 m5 m6 m7 m8 m9 m10 m11 m12 m13 m14 m15 m16 m17 m18 m19 sn ap wr xc un bc wc rc hc tr en ec r ((160 * q) + (4 * j)) (40 * q + j) hr (by omega) (by omega) hec hen) mw_974 zv_Mo_has rfl rfl ⟨Nat.le_of_ble_eq_true rfl, Nat.le_of_ble_eq_true rfl⟩ [0, 1, 3, 4] rfl rfl rfl rfl rfl rfl rfl rfl (Nat.le_of_ble_eq_true rfl) d_Mo_meetsAll_53 rfl ⟨Nat.zero_le _, Nat.zero_le _⟩ rfl ?_
          refine z_zastB (v := smR ec en r (tr (40 * q + j))) (w' := [(m0, .inr (10, [.int (iI ((0 : Nat) : Int)), .ref m1, .int (iI ((sn : Nat) : Int)), .int (iI ((ap : Nat) : Int)), .int (iI ((wr : Nat) : Int)), .ref m2, .ref m3, .ref m4, .int (iI ((xc : Nat) : Int)), .ref m5, .int (iI ((un : Nat) : Int)), .ref m6, .ref m7, .int (iI ((bc : Nat) : Int)), .ref m8, .int (iI ((wc : Nat) : Int)), .ref m9, .ref m10, .ref m11, .ref m12, .int (iI ((rc : Nat) : Int)), .ref m13, .ref m14, .ref m15, .ref m16, .ref m17, .int (iI ((hc : Nat) : Int)), .ref m18, .ref m19])), (m9, .inl ((g.2.1 0), 1760, .inl (pk tr))), (m10, .inl ((g.2.1 0), 11, .inl (nF ts))), (m14, .inl ((g.2.1 0), 976, .inl (pe en))), (m15, .inl ((g.2.1 0), 61, .inl (nF ec))), (m16, .inl ((g.2.1 2), 41, .inl (bF (up m o (smR ec en r (tr (40 * q + j)))))))]) hC 5 2 rfl rfl o rfl (by omega) (by decide) rfl d_Mo_meetsAll_56 ?_
          refine z_iincN (lv' := [(3, .int (iI ((o + 1 : Nat) : Int))), (6, .int ((tr (40 * q + j)).1)), (5, .int (iI (((160 * q) + (4 * j) : Nat) : Int))), (4, .int (iI ((j : Nat) : Int))), (0, .ref m0), (1, .int (iI ((r : Nat) : Int))), (2, .int (iI ((q : Nat) : Int)))]) hC 1 d_Mo_meetsAll_57 rfl 3 rfl (by decide) rfl ?_
          refine z_goto (tgt := 157) hC d_Mo_meetsAll_60 rfl ?_
          refine z_iinc (lv' := [(4, .int (iI (((j : Nat) : Int) + (-1)))), (3, .int (iI ((o + 1 : Nat) : Int))), (6, .int ((tr (40 * q + j)).1)), (5, .int (iI (((160 * q) + (4 * j) : Nat) : Int))), (0, .ref m0), (1, .int (iI ((r : Nat) : Int))), (2, .int (iI ((q : Nat) : Int)))]) hC d_Mo_meetsAll_157 3 rfl (by decide) rfl ?_
          refine z_goto (tgt := 12) hC d_Mo_meetsAll_160 rfl ?_
          exact Zloc [0, 1, 4, 5, 6] rfl (Z.eq (w' := [(m0, .inr (10, [.int (iI ((0 : Nat) : Int)), .ref m1, .int (iI ((sn : Nat) : Int)), .int (iI ((ap : Nat) : Int)), .int (iI ((wr : Nat) : Int)), .ref m2, .ref m3, .ref m4, .int (iI ((xc : Nat) : Int)), .ref m5, .int (iI ((un : Nat) : Int)), .ref m6, .ref m7, .int (iI ((bc : Nat) : Int)), .ref m8, .int (iI ((wc : Nat) : Int)), .ref m9, .ref m10, .ref m11, .ref m12, .int (iI ((rc : Nat) : Int)), .ref m13, .ref m14, .ref m15, .ref m16, .ref m17, .int (iI ((hc : Nat) : Int)), .ref m18, .ref m19])), (m9, .inl ((g.2.1 0), 1760, .inl (pk tr))), (m10, .inl ((g.2.1 0), 11, .inl (nF ts))), (m14, .inl ((g.2.1 0), 976, .inl (pe en))), (m15, .inl ((g.2.1 0), 61, .inl (nF ec))), (m16, .inl ((g.2.1 2), 41, .inl (bF (up m o (smR ec en r (tr (40 * q + j)))))))]) rfl rfl rfl rfl (ih_12 (((j : Nat) : Int) + (-1)) (o + 1) (up m o (smR ec en r (tr (40 * q + j)))) (by omega) (by omega) (by rw [show (((j : Nat) : Int) + (-1) + 1).toNat = j by omega]; exact ho9.2) (by first | exact mtR_go hq (mt_leaf (by assumption) (by omega)) | exact mtR_go hq (mt_join (by omega) (by omega) (by omega) (by unfold jnB; first | (rw [if_pos (by omega)]; simp_all; done) | (rw [if_neg (by omega), if_pos (by omega)]; simp_all; done) | (rw [if_neg (by omega), if_neg (by omega)]; simp_all; done)))) (by omega)))
  exact Zloc [0, 1, 2, 3, 4] rfl (Z.eq (w' := [(m0, .inr (10, [.int (iI ((0 : Nat) : Int)), .ref m1, .int (iI ((sn : Nat) : Int)), .int (iI ((ap : Nat) : Int)), .int (iI ((wr : Nat) : Int)), .ref m2, .ref m3, .ref m4, .int (iI ((xc : Nat) : Int)), .ref m5, .int (iI ((un : Nat) : Int)), .ref m6, .ref m7, .int (iI ((bc : Nat) : Int)), .ref m8, .int (iI ((wc : Nat) : Int)), .ref m9, .ref m10, .ref m11, .ref m12, .int (iI ((rc : Nat) : Int)), .ref m13, .ref m14, .ref m15, .ref m16, .ref m17, .int (iI ((hc : Nat) : Int)), .ref m18, .ref m19])), (m9, .inl ((g.2.1 0), 1760, .inl (pk tr))), (m10, .inl ((g.2.1 0), 11, .inl (nF ts))), (m14, .inl ((g.2.1 0), 976, .inl (pe en))), (m15, .inl ((g.2.1 0), 61, .inl (nF ec))), (m16, .inl ((g.2.1 2), 41, .inl (bF me)))]) rfl rfl rfl rfl (L_12 _ (((ts q : Nat) : Int) - ((1 : Nat) : Int)) 0 me (by omega) (by omega) (by rw [show (((ts q : Nat) : Int) - ((1 : Nat) : Int) + 1).toNat = ts q by omega]; exact hwf) (by rw [hw, show (((ts q : Nat) : Int) - ((1 : Nat) : Int) + 1).toNat = ts q by omega]) (Nat.lt_succ_self _)))
set_option maxHeartbeats 4000000 in
set_option maxRecDepth 100000 in
theorem k_Mo_isSaved (l : Launch) (g : ZG) (m0 m1 m2 m3 m4 m5 m6 m7 m8 m9 m10 m11 m12 m13 m14 m15 m16 m17 m18 m19 sn ap wr xc un bc wc rc hc : Nat) (ts : Nat → Nat) (i : Int) (hi : -2147483648 ≤ i ∧ i < 2147483648) (hts : ∀ k, ts k ≤ 40)   : Ct l g y_Mo_isSaved c_Mo_isSaved 2 (some .boolean) { frames := 0, cells := 0, slots := 0, locals := 0 } [.ref m0, .int (iI i)] [(m0, .inr (10, [.int (iI ((0 : Nat) : Int)), .ref m1, .int (iI ((sn : Nat) : Int)), .int (iI ((ap : Nat) : Int)), .int (iI ((wr : Nat) : Int)), .ref m2, .ref m3, .ref m4, .int (iI ((xc : Nat) : Int)), .ref m5, .int (iI ((un : Nat) : Int)), .ref m6, .ref m7, .int (iI ((bc : Nat) : Int)), .ref m8, .int (iI ((wc : Nat) : Int)), .ref m9, .ref m10, .ref m11, .ref m12, .int (iI ((rc : Nat) : Int)), .ref m13, .ref m14, .ref m15, .ref m16, .ref m17, .int (iI ((hc : Nat) : Int)), .ref m18, .ref m19])), (m10, .inl ((g.2.1 0), 11, .inl (nF ts)))] (some (.int (iI (bI (decide (0 ≤ i ∧ i < 10) && decide (0 < ts i.toNat)))))) [(m0, .inr (10, [.int (iI ((0 : Nat) : Int)), .ref m1, .int (iI ((sn : Nat) : Int)), .int (iI ((ap : Nat) : Int)), .int (iI ((wr : Nat) : Int)), .ref m2, .ref m3, .ref m4, .int (iI ((xc : Nat) : Int)), .ref m5, .int (iI ((un : Nat) : Int)), .ref m6, .ref m7, .int (iI ((bc : Nat) : Int)), .ref m8, .int (iI ((wc : Nat) : Int)), .ref m9, .ref m10, .ref m11, .ref m12, .int (iI ((rc : Nat) : Int)), .ref m13, .ref m14, .ref m15, .ref m16, .ref m17, .int (iI ((hc : Nat) : Int)), .ref m18, .ref m19])), (m10, .inl ((g.2.1 0), 11, .inl (nF ts)))] := by
  refine ct_z (lv := [(0, .ref m0), (1, .int (iI i))]) (by decide) rfl (Nat.le_of_ble_eq_true rfl) rfl ?_
  intro x hC hR
  have ht9 := hts i.toNat
  refine z_iload_n hC d_Mo_isSaved_0 rfl 1 rfl ?_
  refine z_if_lt (tgt := 23) hC i d_Mo_isSaved_1 rfl (iI_t (by omega)) (fun c_1 => ?_) (fun c_1 => ?_)
  · refine z_iconstN hC 0 d_Mo_isSaved_23 rfl ?_
    exact Z.eq rfl rfl rfl (zb_f (by first | (rw [decide_eq_true (by omega), decide_eq_true (by omega)]; rfl) | (rw [decide_eq_false (by omega)]; rfl) | (rw [Bool.and_eq_false_iff]; exact Or.inr (decide_eq_false (by omega))))) (hR _ _ d_Mo_isSaved_24)
  · refine z_iload_n hC d_Mo_isSaved_4 rfl 1 rfl ?_
    refine z_bipush (a := ((10 : Nat) : Int)) hC d_Mo_isSaved_5 (by decide) ?_
    refine z_icmp_ge (tgt := 23) hC i ((10 : Nat) : Int) d_Mo_isSaved_7 rfl (iI_t (by omega)) (iI_t (by omega)) (fun c_2 => ?_) (fun c_2 => ?_)
    · refine z_iconstN hC 0 d_Mo_isSaved_23 rfl ?_
      exact Z.eq rfl rfl rfl (zb_f (by first | (rw [decide_eq_true (by omega), decide_eq_true (by omega)]; rfl) | (rw [decide_eq_false (by omega)]; rfl) | (rw [Bool.and_eq_false_iff]; exact Or.inr (decide_eq_false (by omega))))) (hR _ _ d_Mo_isSaved_24)
    · refine z_aload_n hC d_Mo_isSaved_10 rfl 0 rfl ?_
      refine z_get hC hi_Mo 0 rfl rfl 17 (by decide) mw_752 (Or.inl rfl) rfl d_Mo_isSaved_11 ?_
      refine z_iload_n hC d_Mo_isSaved_14 rfl 1 rfl ?_
      refine z_ialdN hC 1 0 rfl rfl ((i).toNat) (by omega) (by omega) (by decide) d_Mo_isSaved_15 ?_
      refine z_if_le (tgt := 23) hC ((ts ((i).toNat) : Nat) : Int) d_Mo_isSaved_16 rfl (iI_t (by omega)) (fun c_3 => ?_) (fun c_3 => ?_)
      · refine z_iconstN hC 0 d_Mo_isSaved_23 rfl ?_
        exact Z.eq rfl rfl rfl (zb_f (by first | (rw [decide_eq_true (by omega), decide_eq_true (by omega)]; rfl) | (rw [decide_eq_false (by omega)]; rfl) | (rw [Bool.and_eq_false_iff]; exact Or.inr (decide_eq_false (by omega))))) (hR _ _ d_Mo_isSaved_24)
      · refine z_iconstN hC 1 d_Mo_isSaved_19 rfl ?_
        refine z_goto (tgt := 24) hC d_Mo_isSaved_20 rfl ?_
        exact Z.eq rfl rfl rfl (zb_t (by first | (rw [decide_eq_true (by omega), decide_eq_true (by omega)]; rfl) | (rw [decide_eq_false (by omega)]; rfl) | (rw [Bool.and_eq_false_iff]; exact Or.inr (decide_eq_false (by omega))))) (hR _ _ d_Mo_isSaved_24)
set_option maxHeartbeats 4000000 in
set_option maxRecDepth 100000 in
theorem k_Mo_isBroken (l : Launch) (g : ZG) (m0 m1 m2 m3 m4 m5 m6 m7 m8 m9 m10 m11 m12 m13 m14 m15 m16 m17 m18 m19 sn ap wr xc un bc wc rc hc : Nat) (fo : Nat → Bool) (tr : Nat → QD) (ts : Nat → Nat) (q : Nat) (hq10 : q < 10) (hts : ts q ≤ 40) (hix : ∀ k, k < ts q → -1 ≤ (tr (40 * q + k)).2.1.toInt ∧ (tr (40 * q + k)).2.1.toInt < 8)   : Ct l g y_Mo_isBroken c_Mo_isBroken 5 (some .boolean) { frames := 0, cells := 0, slots := 0, locals := 0 } [.ref m0, .int (iI ((q : Nat) : Int))] [(m0, .inr (10, [.int (iI ((0 : Nat) : Int)), .ref m1, .int (iI ((sn : Nat) : Int)), .int (iI ((ap : Nat) : Int)), .int (iI ((wr : Nat) : Int)), .ref m2, .ref m3, .ref m4, .int (iI ((xc : Nat) : Int)), .ref m5, .int (iI ((un : Nat) : Int)), .ref m6, .ref m7, .int (iI ((bc : Nat) : Int)), .ref m8, .int (iI ((wc : Nat) : Int)), .ref m9, .ref m10, .ref m11, .ref m12, .int (iI ((rc : Nat) : Int)), .ref m13, .ref m14, .ref m15, .ref m16, .ref m17, .int (iI ((hc : Nat) : Int)), .ref m18, .ref m19])), (m4, .inl ((g.2.1 2), 8, .inl (bF fo))), (m9, .inl ((g.2.1 0), 1760, .inl (pk tr))), (m10, .inl ((g.2.1 0), 11, .inl (nF ts)))] (some (.int (iI (bI (exB (fun z9 => brR fo (tr (40 * q + z9)).2.1) (ts q)))))) [(m0, .inr (10, [.int (iI ((0 : Nat) : Int)), .ref m1, .int (iI ((sn : Nat) : Int)), .int (iI ((ap : Nat) : Int)), .int (iI ((wr : Nat) : Int)), .ref m2, .ref m3, .ref m4, .int (iI ((xc : Nat) : Int)), .ref m5, .int (iI ((un : Nat) : Int)), .ref m6, .ref m7, .int (iI ((bc : Nat) : Int)), .ref m8, .int (iI ((wc : Nat) : Int)), .ref m9, .ref m10, .ref m11, .ref m12, .int (iI ((rc : Nat) : Int)), .ref m13, .ref m14, .ref m15, .ref m16, .ref m17, .int (iI ((hc : Nat) : Int)), .ref m18, .ref m19])), (m4, .inl ((g.2.1 2), 8, .inl (bF fo))), (m9, .inl ((g.2.1 0), 1760, .inl (pk tr))), (m10, .inl ((g.2.1 0), 11, .inl (nF ts)))] := by
  refine ct_z (lv := [(0, .ref m0), (1, .int (iI ((q : Nat) : Int)))]) (by decide) rfl (Nat.le_of_ble_eq_true rfl) rfl ?_
  intro x hC hR
  refine z_iconstN hC 0 d_Mo_isBroken_0 rfl ?_
  refine z_istore_n (lv' := [(2, .int (iI ((0 : Nat) : Int))), (0, .ref m0), (1, .int (iI ((q : Nat) : Int)))]) hC d_Mo_isBroken_1 rfl (by decide) rfl ?_
  refine z_iconstN hC 0 d_Mo_isBroken_2 rfl ?_
  refine z_istore_n (lv' := [(3, .int (iI ((0 : Nat) : Int))), (2, .int (iI ((0 : Nat) : Int))), (0, .ref m0), (1, .int (iI ((q : Nat) : Int)))]) hC d_Mo_isBroken_3 rfl (by decide) rfl ?_
  have L_4 : ∀ (fu : Nat) (j : Nat) (is : Bool), (j ≤ ts q) → (is = exB (fun z9 => brR fo (tr (40 * q + z9)).2.1) j) → ts q - j < fu → Z x (0, 0) [(m0, .inr (10, [.int (iI ((0 : Nat) : Int)), .ref m1, .int (iI ((sn : Nat) : Int)), .int (iI ((ap : Nat) : Int)), .int (iI ((wr : Nat) : Int)), .ref m2, .ref m3, .ref m4, .int (iI ((xc : Nat) : Int)), .ref m5, .int (iI ((un : Nat) : Int)), .ref m6, .ref m7, .int (iI ((bc : Nat) : Int)), .ref m8, .int (iI ((wc : Nat) : Int)), .ref m9, .ref m10, .ref m11, .ref m12, .int (iI ((rc : Nat) : Int)), .ref m13, .ref m14, .ref m15, .ref m16, .ref m17, .int (iI ((hc : Nat) : Int)), .ref m18, .ref m19])), (m4, .inl ((g.2.1 2), 8, .inl (bF fo))), (m9, .inl ((g.2.1 0), 1760, .inl (pk tr))), (m10, .inl ((g.2.1 0), 11, .inl (nF ts)))] 4 [(3, .int (iI ((j : Nat) : Int))), (2, .int (iI (bI is))), (0, .ref m0), (1, .int (iI ((q : Nat) : Int)))] [] := by
    intro fu
    induction fu with
    | zero => intro j is hj his hmu; exact absurd hmu (Nat.not_lt_zero _)
    | succ fu ih_4 =>
      intro j is hj his hmu
      refine z_iload_n hC d_Mo_isBroken_4 rfl 0 rfl ?_
      refine z_aload_n hC d_Mo_isBroken_5 rfl 2 rfl ?_
      refine z_get hC hi_Mo 0 rfl rfl 17 (by decide) mw_752 (Or.inl rfl) rfl d_Mo_isBroken_6 ?_
      refine z_iload_n hC d_Mo_isBroken_9 rfl 3 rfl ?_
      refine z_ialdN hC 3 0 rfl rfl q rfl (by omega) (by decide) d_Mo_isBroken_10 ?_
      refine z_icmp_ge (tgt := 64) hC ((j : Nat) : Int) ((ts q : Nat) : Int) d_Mo_isBroken_11 rfl (iI_t (by omega)) (iI_t (by omega)) (fun c_1 => ?_) (fun c_1 => ?_)
      · refine z_iload_n hC d_Mo_isBroken_64 rfl 1 rfl ?_
        exact Z.eq rfl rfl rfl (zb_e (by rw [his, show j = ts q by omega])) (hR _ _ d_Mo_isBroken_65)
      · have hx9 := hix j (by omega)
        refine z_aload_n hC d_Mo_isBroken_14 rfl 2 rfl ?_
        refine z_get hC hi_Mo 0 rfl rfl 16 (by decide) mw_751 (Or.inl rfl) rfl d_Mo_isBroken_15 ?_
        refine z_sipush (a := ((160 : Nat) : Int)) hC d_Mo_isBroken_18 (by decide) ?_
        refine z_iload_n hC d_Mo_isBroken_21 rfl 3 rfl ?_
        refine z_imulN hC d_Mo_isBroken_22 ?_
        refine z_iconstN hC 4 d_Mo_isBroken_23 rfl ?_
        refine z_iload_n hC d_Mo_isBroken_24 rfl 0 rfl ?_
        refine z_imulN hC d_Mo_isBroken_25 ?_
        refine z_iaddN hC d_Mo_isBroken_26 ?_
        refine z_iconstN hC 1 d_Mo_isBroken_27 rfl ?_
        refine z_iaddN hC d_Mo_isBroken_28 ?_
        refine z_iald hC 2 0 rfl rfl (((160 * q) + (4 * j)) + 1) rfl (by omega) (by decide) d_Mo_isBroken_29 ?_
        refine Z.eq (st' := [.int ((tr (40 * q + j)).2.1)]) rfl rfl rfl (by rw [pk_1 tr (k := 40 * q + j) (by omega)]) ?_
        refine z_istore (lv' := [(4, .int ((tr (40 * q + j)).2.1)), (3, .int (iI ((j : Nat) : Int))), (2, .int (iI (bI is))), (0, .ref m0), (1, .int (iI ((q : Nat) : Int)))]) hC d_Mo_isBroken_30 (by decide) rfl ?_
        refine z_iload_n hC d_Mo_isBroken_32 rfl 2 rfl ?_
        refine z_ifneB (tgt := 52) hC d_Mo_isBroken_33 rfl (fun c_2 => ?_) (fun c_2 => ?_)
        · refine z_iconstN hC 1 d_Mo_isBroken_52 rfl ?_
          refine z_goto (tgt := 57) hC d_Mo_isBroken_53 rfl ?_
          refine z_istore_n (lv' := [(2, .int (iI ((1 : Nat) : Int))), (4, .int ((tr (40 * q + j)).2.1)), (3, .int (iI ((j : Nat) : Int))), (0, .ref m0), (1, .int (iI ((q : Nat) : Int)))]) hC d_Mo_isBroken_57 rfl (by decide) rfl ?_
          refine z_iincN (lv' := [(3, .int (iI ((j + 1 : Nat) : Int))), (2, .int (iI ((1 : Nat) : Int))), (4, .int ((tr (40 * q + j)).2.1)), (0, .ref m0), (1, .int (iI ((q : Nat) : Int)))]) hC 1 d_Mo_isBroken_58 rfl 2 rfl (by decide) rfl ?_
          refine z_goto (tgt := 4) hC d_Mo_isBroken_61 rfl ?_
          exact Zloc [0, 1, 3, 4] rfl (Z.eq (w' := [(m0, .inr (10, [.int (iI ((0 : Nat) : Int)), .ref m1, .int (iI ((sn : Nat) : Int)), .int (iI ((ap : Nat) : Int)), .int (iI ((wr : Nat) : Int)), .ref m2, .ref m3, .ref m4, .int (iI ((xc : Nat) : Int)), .ref m5, .int (iI ((un : Nat) : Int)), .ref m6, .ref m7, .int (iI ((bc : Nat) : Int)), .ref m8, .int (iI ((wc : Nat) : Int)), .ref m9, .ref m10, .ref m11, .ref m12, .int (iI ((rc : Nat) : Int)), .ref m13, .ref m14, .ref m15, .ref m16, .ref m17, .int (iI ((hc : Nat) : Int)), .ref m18, .ref m19])), (m4, .inl ((g.2.1 2), 8, .inl (bF fo))), (m9, .inl ((g.2.1 0), 1760, .inl (pk tr))), (m10, .inl ((g.2.1 0), 11, .inl (nF ts)))]) rfl rfl rfl rfl (ih_4 (j + 1) true (by omega) (by first | exact hs_1 his (by assumption) | exact hs_2 (hF_t (by assumption) (by assumption)) | exact hs_3 his (by assumption) (hF_n (fun z => z (by assumption))) | exact hs_3 his (by assumption) (hF_v (by assumption))) (by omega)))
        · refine z_iload hC d_Mo_isBroken_36 0 rfl ?_
          refine z_iconst hC d_Mo_isBroken_38 ?_
          refine z_icmp_eq (tgt := 56) hC (((tr (40 * q + j)).2.1 : Int32).toInt) (-1) d_Mo_isBroken_39 rfl rfl (iI_t (by omega)) (fun c_3 => ?_) (fun c_3 => ?_)
          · refine z_iconstN hC 0 d_Mo_isBroken_56 rfl ?_
            refine z_istore_n (lv' := [(2, .int (iI ((0 : Nat) : Int))), (4, .int ((tr (40 * q + j)).2.1)), (3, .int (iI ((j : Nat) : Int))), (0, .ref m0), (1, .int (iI ((q : Nat) : Int)))]) hC d_Mo_isBroken_57 rfl (by decide) rfl ?_
            refine z_iincN (lv' := [(3, .int (iI ((j + 1 : Nat) : Int))), (2, .int (iI ((0 : Nat) : Int))), (4, .int ((tr (40 * q + j)).2.1)), (0, .ref m0), (1, .int (iI ((q : Nat) : Int)))]) hC 1 d_Mo_isBroken_58 rfl 2 rfl (by decide) rfl ?_
            refine z_goto (tgt := 4) hC d_Mo_isBroken_61 rfl ?_
            exact Zloc [0, 1, 3, 4] rfl (Z.eq (w' := [(m0, .inr (10, [.int (iI ((0 : Nat) : Int)), .ref m1, .int (iI ((sn : Nat) : Int)), .int (iI ((ap : Nat) : Int)), .int (iI ((wr : Nat) : Int)), .ref m2, .ref m3, .ref m4, .int (iI ((xc : Nat) : Int)), .ref m5, .int (iI ((un : Nat) : Int)), .ref m6, .ref m7, .int (iI ((bc : Nat) : Int)), .ref m8, .int (iI ((wc : Nat) : Int)), .ref m9, .ref m10, .ref m11, .ref m12, .int (iI ((rc : Nat) : Int)), .ref m13, .ref m14, .ref m15, .ref m16, .ref m17, .int (iI ((hc : Nat) : Int)), .ref m18, .ref m19])), (m4, .inl ((g.2.1 2), 8, .inl (bF fo))), (m9, .inl ((g.2.1 0), 1760, .inl (pk tr))), (m10, .inl ((g.2.1 0), 11, .inl (nF ts)))]) rfl rfl rfl rfl (ih_4 (j + 1) false (by omega) (by first | exact hs_1 his (by assumption) | exact hs_2 (hF_t (by assumption) (by assumption)) | exact hs_3 his (by assumption) (hF_n (fun z => z (by assumption))) | exact hs_3 his (by assumption) (hF_v (by assumption))) (by omega)))
          · refine z_aload_n hC d_Mo_isBroken_42 rfl 3 rfl ?_
            refine z_get hC hi_Mo 0 rfl rfl 7 (by decide) mw_742 (Or.inl rfl) rfl d_Mo_isBroken_43 ?_
            refine z_iload hC d_Mo_isBroken_46 0 rfl ?_
            refine z_RI ?_
            refine z_zaldB hC 1 2 rfl rfl ((((tr (40 * q + j)).2.1).toInt).toNat) (by omega) (by omega) (by decide) d_Mo_isBroken_48 ?_
            refine z_ifeqB (tgt := 56) hC d_Mo_isBroken_49 rfl (fun c_4 => ?_) (fun c_4 => ?_)
            · refine z_iconstN hC 0 d_Mo_isBroken_56 rfl ?_
              refine z_istore_n (lv' := [(2, .int (iI ((0 : Nat) : Int))), (4, .int ((tr (40 * q + j)).2.1)), (3, .int (iI ((j : Nat) : Int))), (0, .ref m0), (1, .int (iI ((q : Nat) : Int)))]) hC d_Mo_isBroken_57 rfl (by decide) rfl ?_
              refine z_iincN (lv' := [(3, .int (iI ((j + 1 : Nat) : Int))), (2, .int (iI ((0 : Nat) : Int))), (4, .int ((tr (40 * q + j)).2.1)), (0, .ref m0), (1, .int (iI ((q : Nat) : Int)))]) hC 1 d_Mo_isBroken_58 rfl 2 rfl (by decide) rfl ?_
              refine z_goto (tgt := 4) hC d_Mo_isBroken_61 rfl ?_
              exact Zloc [0, 1, 3, 4] rfl (Z.eq (w' := [(m0, .inr (10, [.int (iI ((0 : Nat) : Int)), .ref m1, .int (iI ((sn : Nat) : Int)), .int (iI ((ap : Nat) : Int)), .int (iI ((wr : Nat) : Int)), .ref m2, .ref m3, .ref m4, .int (iI ((xc : Nat) : Int)), .ref m5, .int (iI ((un : Nat) : Int)), .ref m6, .ref m7, .int (iI ((bc : Nat) : Int)), .ref m8, .int (iI ((wc : Nat) : Int)), .ref m9, .ref m10, .ref m11, .ref m12, .int (iI ((rc : Nat) : Int)), .ref m13, .ref m14, .ref m15, .ref m16, .ref m17, .int (iI ((hc : Nat) : Int)), .ref m18, .ref m19])), (m4, .inl ((g.2.1 2), 8, .inl (bF fo))), (m9, .inl ((g.2.1 0), 1760, .inl (pk tr))), (m10, .inl ((g.2.1 0), 11, .inl (nF ts)))]) rfl rfl rfl rfl (ih_4 (j + 1) false (by omega) (by first | exact hs_1 his (by assumption) | exact hs_2 (hF_t (by assumption) (by assumption)) | exact hs_3 his (by assumption) (hF_n (fun z => z (by assumption))) | exact hs_3 his (by assumption) (hF_v (by assumption))) (by omega)))
            · refine z_iconstN hC 1 d_Mo_isBroken_52 rfl ?_
              refine z_goto (tgt := 57) hC d_Mo_isBroken_53 rfl ?_
              refine z_istore_n (lv' := [(2, .int (iI ((1 : Nat) : Int))), (4, .int ((tr (40 * q + j)).2.1)), (3, .int (iI ((j : Nat) : Int))), (0, .ref m0), (1, .int (iI ((q : Nat) : Int)))]) hC d_Mo_isBroken_57 rfl (by decide) rfl ?_
              refine z_iincN (lv' := [(3, .int (iI ((j + 1 : Nat) : Int))), (2, .int (iI ((1 : Nat) : Int))), (4, .int ((tr (40 * q + j)).2.1)), (0, .ref m0), (1, .int (iI ((q : Nat) : Int)))]) hC 1 d_Mo_isBroken_58 rfl 2 rfl (by decide) rfl ?_
              refine z_goto (tgt := 4) hC d_Mo_isBroken_61 rfl ?_
              exact Zloc [0, 1, 3, 4] rfl (Z.eq (w' := [(m0, .inr (10, [.int (iI ((0 : Nat) : Int)), .ref m1, .int (iI ((sn : Nat) : Int)), .int (iI ((ap : Nat) : Int)), .int (iI ((wr : Nat) : Int)), .ref m2, .ref m3, .ref m4, .int (iI ((xc : Nat) : Int)), .ref m5, .int (iI ((un : Nat) : Int)), .ref m6, .ref m7, .int (iI ((bc : Nat) : Int)), .ref m8, .int (iI ((wc : Nat) : Int)), .ref m9, .ref m10, .ref m11, .ref m12, .int (iI ((rc : Nat) : Int)), .ref m13, .ref m14, .ref m15, .ref m16, .ref m17, .int (iI ((hc : Nat) : Int)), .ref m18, .ref m19])), (m4, .inl ((g.2.1 2), 8, .inl (bF fo))), (m9, .inl ((g.2.1 0), 1760, .inl (pk tr))), (m10, .inl ((g.2.1 0), 11, .inl (nF ts)))]) rfl rfl rfl rfl (ih_4 (j + 1) true (by omega) (by first | exact hs_1 his (by assumption) | exact hs_2 (hF_t (by assumption) (by assumption)) | exact hs_3 his (by assumption) (hF_n (fun z => z (by assumption))) | exact hs_3 his (by assumption) (hF_v (by assumption))) (by omega)))
  exact Zloc [0, 1, 2, 3] rfl (Z.eq (w' := [(m0, .inr (10, [.int (iI ((0 : Nat) : Int)), .ref m1, .int (iI ((sn : Nat) : Int)), .int (iI ((ap : Nat) : Int)), .int (iI ((wr : Nat) : Int)), .ref m2, .ref m3, .ref m4, .int (iI ((xc : Nat) : Int)), .ref m5, .int (iI ((un : Nat) : Int)), .ref m6, .ref m7, .int (iI ((bc : Nat) : Int)), .ref m8, .int (iI ((wc : Nat) : Int)), .ref m9, .ref m10, .ref m11, .ref m12, .int (iI ((rc : Nat) : Int)), .ref m13, .ref m14, .ref m15, .ref m16, .ref m17, .int (iI ((hc : Nat) : Int)), .ref m18, .ref m19])), (m4, .inl ((g.2.1 2), 8, .inl (bF fo))), (m9, .inl ((g.2.1 0), 1760, .inl (pk tr))), (m10, .inl ((g.2.1 0), 11, .inl (nF ts)))]) rfl rfl rfl rfl (L_4 _ 0 false (by omega) rfl (Nat.lt_succ_self _)))
set_option maxHeartbeats 4000000 in
set_option maxRecDepth 100000 in
theorem k_Mo_save (l : Launch) (g : ZG) (m0 m1 m2 m3 m4 m5 m6 m7 m8 m9 m10 m11 m12 m13 m14 m15 m16 m17 m18 m19 sn ap wr xc un bc wc rc hc : Nat) (tr : Nat → QD) (ts : Nat → Nat) (lk : Nat → Bool) (i : Int) (hi : -2147483648 ≤ i ∧ i < 2147483648) (hts : ∀ k, ts k ≤ 40)   : Ct l g y_Mo_save c_Mo_save 3 (some .int) { frames := 0, cells := 0, slots := 0, locals := 0 } [.ref m0, .int (iI i)] [(m0, .inr (10, [.int (iI ((0 : Nat) : Int)), .ref m1, .int (iI ((sn : Nat) : Int)), .int (iI ((ap : Nat) : Int)), .int (iI ((wr : Nat) : Int)), .ref m2, .ref m3, .ref m4, .int (iI ((xc : Nat) : Int)), .ref m5, .int (iI ((un : Nat) : Int)), .ref m6, .ref m7, .int (iI ((bc : Nat) : Int)), .ref m8, .int (iI ((wc : Nat) : Int)), .ref m9, .ref m10, .ref m11, .ref m12, .int (iI ((rc : Nat) : Int)), .ref m13, .ref m14, .ref m15, .ref m16, .ref m17, .int (iI ((hc : Nat) : Int)), .ref m18, .ref m19])), (m9, .inl ((g.2.1 0), 1760, .inl (pk tr))), (m10, .inl ((g.2.1 0), 11, .inl (nF ts))), (m11, .inl ((g.2.1 2), 10, .inl (bF lk)))] (some (.int (iI ((if 0 ≤ i ∧ i < 10 ∧ 1 ≤ ts 10 then 1 else 0 : Nat) : Int)))) [(m0, .inr (10, [.int (iI ((0 : Nat) : Int)), .ref m1, .int (iI ((sn : Nat) : Int)), .int (iI ((ap : Nat) : Int)), .int (iI ((wr : Nat) : Int)), .ref m2, .ref m3, .ref m4, .int (iI ((xc : Nat) : Int)), .ref m5, .int (iI ((un : Nat) : Int)), .ref m6, .ref m7, .int (iI ((bc : Nat) : Int)), .ref m8, .int (iI ((wc : Nat) : Int)), .ref m9, .ref m10, .ref m11, .ref m12, .int (iI ((rc : Nat) : Int)), .ref m13, .ref m14, .ref m15, .ref m16, .ref m17, .int (iI ((hc : Nat) : Int)), .ref m18, .ref m19])), (m9, .inl ((g.2.1 0), 1760, .inl (pk (if 0 ≤ i ∧ i < 10 ∧ 1 ≤ ts 10 then svF tr i.toNat else tr)))), (m10, .inl ((g.2.1 0), 11, .inl (nF (if 0 ≤ i ∧ i < 10 ∧ 1 ≤ ts 10 then up ts i.toNat (ts 10) else ts)))), (m11, .inl ((g.2.1 2), 10, .inl (bF (if 0 ≤ i ∧ i < 10 ∧ 1 ≤ ts 10 then up lk i.toNat false else lk))))] := by
  refine ct_i (lv := [(0, .ref m0), (1, .int (iI i))]) (by decide) rfl (Nat.le_of_ble_eq_true rfl) rfl ?_
  intro x hC hR
  have ht9 := hts 10
  refine z_aload_n hC d_Mo_save_0 rfl 0 rfl ?_
  refine z_iconstN hC 0 d_Mo_save_1 rfl ?_
  refine z_put (v := .int (iI ((0 : Nat) : Int))) (ty := .int) (w' := [(m0, .inr (10, [.int (iI ((0 : Nat) : Int)), .ref m1, .int (iI ((sn : Nat) : Int)), .int (iI ((ap : Nat) : Int)), .int (iI ((wr : Nat) : Int)), .ref m2, .ref m3, .ref m4, .int (iI ((xc : Nat) : Int)), .ref m5, .int (iI ((un : Nat) : Int)), .ref m6, .ref m7, .int (iI ((bc : Nat) : Int)), .ref m8, .int (iI ((wc : Nat) : Int)), .ref m9, .ref m10, .ref m11, .ref m12, .int (iI ((rc : Nat) : Int)), .ref m13, .ref m14, .ref m15, .ref m16, .ref m17, .int (iI ((hc : Nat) : Int)), .ref m18, .ref m19])), (m9, .inl ((g.2.1 0), 1760, .inl (pk tr))), (m10, .inl ((g.2.1 0), 11, .inl (nF ts))), (m11, .inl ((g.2.1 2), 10, .inl (bF lk)))]) hC hi_Mo ty_Mo ok_Mo nm_Mo 0 rfl rfl 0 (by decide) mw_735 rfl rfl rfl rfl rfl (Nat.le_of_ble_eq_true rfl) rfl d_Mo_save_2 ?_
  refine z_iload_n hC d_Mo_save_5 rfl 1 rfl ?_
  refine z_if_lt (tgt := 25) hC i d_Mo_save_6 rfl (iI_t (by omega)) (fun c_1 => ?_) (fun c_1 => ?_)
  · refine z_iconstN hC 0 d_Mo_save_25 rfl ?_
    exact Z.eq (by first | (simp only [if_neg (show ¬ (0 ≤ i ∧ i < 10 ∧ 1 ≤ ts 10) by omega)]; done) | (simp only [if_pos (show (0 : Int) ≤ ((k : Nat) : Int) ∧ ((k : Nat) : Int) < 10 ∧ 1 ≤ ts 10 by omega), Int.toNat_natCast]; rw [sv_end (m := m) (by rw [show j = 160 by omega] at hm; exact hm)])) rfl rfl (by first | (simp only [if_neg (show ¬ (0 ≤ i ∧ i < 10 ∧ 1 ≤ ts 10) by omega)]; done) | (simp only [if_pos (show (0 : Int) ≤ ((k : Nat) : Int) ∧ ((k : Nat) : Int) < 10 ∧ 1 ≤ ts 10 by omega), Int.toNat_natCast]; done)) (hR _ _ d_Mo_save_26)
  · refine z_iload_n hC d_Mo_save_9 rfl 1 rfl ?_
    refine z_bipush (a := ((9 : Nat) : Int)) hC d_Mo_save_10 (by decide) ?_
    refine z_icmp_gt (tgt := 25) hC i ((9 : Nat) : Int) d_Mo_save_12 rfl (iI_t (by omega)) (iI_t (by omega)) (fun c_2 => ?_) (fun c_2 => ?_)
    · refine z_iconstN hC 0 d_Mo_save_25 rfl ?_
      exact Z.eq (by first | (simp only [if_neg (show ¬ (0 ≤ i ∧ i < 10 ∧ 1 ≤ ts 10) by omega)]; done) | (simp only [if_pos (show (0 : Int) ≤ ((k : Nat) : Int) ∧ ((k : Nat) : Int) < 10 ∧ 1 ≤ ts 10 by omega), Int.toNat_natCast]; rw [sv_end (m := m) (by rw [show j = 160 by omega] at hm; exact hm)])) rfl rfl (by first | (simp only [if_neg (show ¬ (0 ≤ i ∧ i < 10 ∧ 1 ≤ ts 10) by omega)]; done) | (simp only [if_pos (show (0 : Int) ≤ ((k : Nat) : Int) ∧ ((k : Nat) : Int) < 10 ∧ 1 ≤ ts 10 by omega), Int.toNat_natCast]; done)) (hR _ _ d_Mo_save_26)
    · refine z_aload_n hC d_Mo_save_15 rfl 0 rfl ?_
      refine z_get hC hi_Mo 0 rfl rfl 17 (by decide) mw_752 (Or.inl rfl) rfl d_Mo_save_16 ?_
      refine z_bipush (a := ((10 : Nat) : Int)) hC d_Mo_save_19 (by decide) ?_
      refine z_ialdN hC 2 0 rfl rfl 10 rfl (by omega) (by decide) d_Mo_save_21 ?_
      refine z_if_ne (tgt := 27) hC ((ts 10 : Nat) : Int) d_Mo_save_22 rfl (iI_t (by omega)) (fun c_3 => ?_) (fun c_3 => ?_)
      · obtain ⟨k, rfl⟩ : ∃ k : Nat, i = (k : Int) := ⟨i.toNat, by omega⟩
        refine z_iconstN hC 0 d_Mo_save_27 rfl ?_
        refine z_istore_n (lv' := [(2, .int (iI ((0 : Nat) : Int))), (0, .ref m0), (1, .int (iI ((k : Nat) : Int)))]) hC d_Mo_save_28 rfl (by decide) rfl ?_
        have L_29 : ∀ (fu : Nat) (j : Nat) (m : Nat → Int32), (j ≤ 160) → (∀ z, m z = if 160 * k ≤ z ∧ z < 160 * k + j then pk tr (1600 + (z - 160 * k)) else pk tr z) → 160 - j < fu → Z x (0, 0) [(m0, .inr (10, [.int (iI ((0 : Nat) : Int)), .ref m1, .int (iI ((sn : Nat) : Int)), .int (iI ((ap : Nat) : Int)), .int (iI ((wr : Nat) : Int)), .ref m2, .ref m3, .ref m4, .int (iI ((xc : Nat) : Int)), .ref m5, .int (iI ((un : Nat) : Int)), .ref m6, .ref m7, .int (iI ((bc : Nat) : Int)), .ref m8, .int (iI ((wc : Nat) : Int)), .ref m9, .ref m10, .ref m11, .ref m12, .int (iI ((rc : Nat) : Int)), .ref m13, .ref m14, .ref m15, .ref m16, .ref m17, .int (iI ((hc : Nat) : Int)), .ref m18, .ref m19])), (m9, .inl ((g.2.1 0), 1760, .inl m)), (m10, .inl ((g.2.1 0), 11, .inl (nF ts))), (m11, .inl ((g.2.1 2), 10, .inl (bF lk)))] 29 [(2, .int (iI ((j : Nat) : Int))), (0, .ref m0), (1, .int (iI ((k : Nat) : Int)))] [] := by
          intro fu
          induction fu with
          | zero => intro j m hj hm hmu; exact absurd hmu (Nat.not_lt_zero _)
          | succ fu ih_29 =>
            intro j m hj hm hmu
            refine z_iload_n hC d_Mo_save_29 rfl 0 rfl ?_
            refine z_sipush (a := ((160 : Nat) : Int)) hC d_Mo_save_30 (by decide) ?_
            refine z_icmp_ge (tgt := 64) hC ((j : Nat) : Int) ((160 : Nat) : Int) d_Mo_save_33 rfl (iI_t (by omega)) (iI_t (by omega)) (fun c_4 => ?_) (fun c_4 => ?_)
            · refine z_aload_n hC d_Mo_save_64 rfl 1 rfl ?_
              refine z_get hC hi_Mo 0 rfl rfl 17 (by decide) mw_752 (Or.inl rfl) rfl d_Mo_save_65 ?_
              refine z_iload_n hC d_Mo_save_68 rfl 2 rfl ?_
              refine z_aload_n hC d_Mo_save_69 rfl 1 rfl ?_
              refine z_get hC hi_Mo 0 rfl rfl 17 (by decide) mw_752 (Or.inl rfl) rfl d_Mo_save_70 ?_
              refine z_bipush (a := ((10 : Nat) : Int)) hC d_Mo_save_73 (by decide) ?_
              refine z_ialdN hC 2 0 rfl rfl 10 rfl (by omega) (by decide) d_Mo_save_75 ?_
              refine z_iastN (v := ts 10) (w' := [(m0, .inr (10, [.int (iI ((0 : Nat) : Int)), .ref m1, .int (iI ((sn : Nat) : Int)), .int (iI ((ap : Nat) : Int)), .int (iI ((wr : Nat) : Int)), .ref m2, .ref m3, .ref m4, .int (iI ((xc : Nat) : Int)), .ref m5, .int (iI ((un : Nat) : Int)), .ref m6, .ref m7, .int (iI ((bc : Nat) : Int)), .ref m8, .int (iI ((wc : Nat) : Int)), .ref m9, .ref m10, .ref m11, .ref m12, .int (iI ((rc : Nat) : Int)), .ref m13, .ref m14, .ref m15, .ref m16, .ref m17, .int (iI ((hc : Nat) : Int)), .ref m18, .ref m19])), (m9, .inl ((g.2.1 0), 1760, .inl m)), (m10, .inl ((g.2.1 0), 11, .inl (nF (up ts k (ts 10))))), (m11, .inl ((g.2.1 2), 10, .inl (bF lk)))]) hC 2 0 rfl rfl k rfl (by omega) (by decide) rfl d_Mo_save_76 ?_
              refine z_aload_n hC d_Mo_save_77 rfl 1 rfl ?_
              refine z_get hC hi_Mo 0 rfl rfl 18 (by decide) mw_753 (Or.inl rfl) rfl d_Mo_save_78 ?_
              refine z_iload_n hC d_Mo_save_81 rfl 2 rfl ?_
              refine z_iconstN hC 0 d_Mo_save_82 rfl ?_
              refine z_zastB (v := false) (w' := [(m0, .inr (10, [.int (iI ((0 : Nat) : Int)), .ref m1, .int (iI ((sn : Nat) : Int)), .int (iI ((ap : Nat) : Int)), .int (iI ((wr : Nat) : Int)), .ref m2, .ref m3, .ref m4, .int (iI ((xc : Nat) : Int)), .ref m5, .int (iI ((un : Nat) : Int)), .ref m6, .ref m7, .int (iI ((bc : Nat) : Int)), .ref m8, .int (iI ((wc : Nat) : Int)), .ref m9, .ref m10, .ref m11, .ref m12, .int (iI ((rc : Nat) : Int)), .ref m13, .ref m14, .ref m15, .ref m16, .ref m17, .int (iI ((hc : Nat) : Int)), .ref m18, .ref m19])), (m9, .inl ((g.2.1 0), 1760, .inl m)), (m10, .inl ((g.2.1 0), 11, .inl (nF (up ts k (ts 10))))), (m11, .inl ((g.2.1 2), 10, .inl (bF (up lk k false))))]) hC 3 2 rfl rfl k rfl (by omega) (by decide) rfl d_Mo_save_83 ?_
              refine z_iconstN hC 1 d_Mo_save_84 rfl ?_
              exact Z.eq (by first | (simp only [if_neg (show ¬ (0 ≤ i ∧ i < 10 ∧ 1 ≤ ts 10) by omega)]; done) | (simp only [if_pos (show (0 : Int) ≤ ((k : Nat) : Int) ∧ ((k : Nat) : Int) < 10 ∧ 1 ≤ ts 10 by omega), Int.toNat_natCast]; rw [sv_end (m := m) (by rw [show j = 160 by omega] at hm; exact hm)])) rfl rfl (by first | (simp only [if_neg (show ¬ (0 ≤ i ∧ i < 10 ∧ 1 ≤ ts 10) by omega)]; done) | (simp only [if_pos (show (0 : Int) ≤ ((k : Nat) : Int) ∧ ((k : Nat) : Int) < 10 ∧ 1 ≤ ts 10 by omega), Int.toNat_natCast]; done)) (hR _ _ d_Mo_save_85)
            · refine z_aload_n hC d_Mo_save_36 rfl 1 rfl ?_
              refine z_get hC hi_Mo 0 rfl rfl 16 (by decide) mw_751 (Or.inl rfl) rfl d_Mo_save_37 ?_
              refine z_sipush (a := ((160 : Nat) : Int)) hC d_Mo_save_40 (by decide) ?_
              refine z_iload_n hC d_Mo_save_43 rfl 2 rfl ?_
              refine z_imulN hC d_Mo_save_44 ?_
              refine z_iload_n hC d_Mo_save_45 rfl 0 rfl ?_
              refine z_iaddN hC d_Mo_save_46 ?_
              refine z_aload_n hC d_Mo_save_47 rfl 1 rfl ?_
              refine z_get hC hi_Mo 0 rfl rfl 16 (by decide) mw_751 (Or.inl rfl) rfl d_Mo_save_48 ?_
              refine z_sipush (a := ((1600 : Nat) : Int)) hC d_Mo_save_51 (by decide) ?_
              refine z_iload_n hC d_Mo_save_54 rfl 0 rfl ?_
              refine z_iaddN hC d_Mo_save_55 ?_
              refine z_iald hC 1 0 rfl rfl (1600 + j) rfl (by omega) (by decide) d_Mo_save_56 ?_
              refine z_iast (v := (m (1600 + j))) (w' := [(m0, .inr (10, [.int (iI ((0 : Nat) : Int)), .ref m1, .int (iI ((sn : Nat) : Int)), .int (iI ((ap : Nat) : Int)), .int (iI ((wr : Nat) : Int)), .ref m2, .ref m3, .ref m4, .int (iI ((xc : Nat) : Int)), .ref m5, .int (iI ((un : Nat) : Int)), .ref m6, .ref m7, .int (iI ((bc : Nat) : Int)), .ref m8, .int (iI ((wc : Nat) : Int)), .ref m9, .ref m10, .ref m11, .ref m12, .int (iI ((rc : Nat) : Int)), .ref m13, .ref m14, .ref m15, .ref m16, .ref m17, .int (iI ((hc : Nat) : Int)), .ref m18, .ref m19])), (m9, .inl ((g.2.1 0), 1760, .inl (upd m ((160 * k) + j) (m (1600 + j))))), (m10, .inl ((g.2.1 0), 11, .inl (nF ts))), (m11, .inl ((g.2.1 2), 10, .inl (bF lk)))]) hC 1 0 rfl rfl ((160 * k) + j) rfl (by omega) (by decide) rfl d_Mo_save_57 ?_
              refine z_iincN (lv' := [(2, .int (iI ((j + 1 : Nat) : Int))), (0, .ref m0), (1, .int (iI ((k : Nat) : Int)))]) hC 1 d_Mo_save_58 rfl 0 rfl (by decide) rfl ?_
              refine z_goto (tgt := 29) hC d_Mo_save_61 rfl ?_
              exact Zloc [0, 1, 2] rfl (Z.eq (w' := [(m0, .inr (10, [.int (iI ((0 : Nat) : Int)), .ref m1, .int (iI ((sn : Nat) : Int)), .int (iI ((ap : Nat) : Int)), .int (iI ((wr : Nat) : Int)), .ref m2, .ref m3, .ref m4, .int (iI ((xc : Nat) : Int)), .ref m5, .int (iI ((un : Nat) : Int)), .ref m6, .ref m7, .int (iI ((bc : Nat) : Int)), .ref m8, .int (iI ((wc : Nat) : Int)), .ref m9, .ref m10, .ref m11, .ref m12, .int (iI ((rc : Nat) : Int)), .ref m13, .ref m14, .ref m15, .ref m16, .ref m17, .int (iI ((hc : Nat) : Int)), .ref m18, .ref m19])), (m9, .inl ((g.2.1 0), 1760, .inl (upd m ((160 * k) + j) (m (1600 + j))))), (m10, .inl ((g.2.1 0), 11, .inl (nF ts))), (m11, .inl ((g.2.1 2), 10, .inl (bF lk)))]) rfl rfl rfl rfl (ih_29 (j + 1) (upd m ((160 * k) + j) (m (1600 + j))) (by omega) (sv_go (by omega) (by omega) hm) (by omega)))
        exact Zloc [0, 1, 2] rfl (Z.eq (w' := [(m0, .inr (10, [.int (iI ((0 : Nat) : Int)), .ref m1, .int (iI ((sn : Nat) : Int)), .int (iI ((ap : Nat) : Int)), .int (iI ((wr : Nat) : Int)), .ref m2, .ref m3, .ref m4, .int (iI ((xc : Nat) : Int)), .ref m5, .int (iI ((un : Nat) : Int)), .ref m6, .ref m7, .int (iI ((bc : Nat) : Int)), .ref m8, .int (iI ((wc : Nat) : Int)), .ref m9, .ref m10, .ref m11, .ref m12, .int (iI ((rc : Nat) : Int)), .ref m13, .ref m14, .ref m15, .ref m16, .ref m17, .int (iI ((hc : Nat) : Int)), .ref m18, .ref m19])), (m9, .inl ((g.2.1 0), 1760, .inl (pk tr))), (m10, .inl ((g.2.1 0), 11, .inl (nF ts))), (m11, .inl ((g.2.1 2), 10, .inl (bF lk)))]) rfl rfl rfl rfl (L_29 _ 0 (pk tr) (by omega) (fun z => by rw [if_neg (by omega)]) (Nat.lt_succ_self _)))
      · refine z_iconstN hC 0 d_Mo_save_25 rfl ?_
        exact Z.eq (by first | (simp only [if_neg (show ¬ (0 ≤ i ∧ i < 10 ∧ 1 ≤ ts 10) by omega)]; done) | (simp only [if_pos (show (0 : Int) ≤ ((k : Nat) : Int) ∧ ((k : Nat) : Int) < 10 ∧ 1 ≤ ts 10 by omega), Int.toNat_natCast]; rw [sv_end (m := m) (by rw [show j = 160 by omega] at hm; exact hm)])) rfl rfl (by first | (simp only [if_neg (show ¬ (0 ≤ i ∧ i < 10 ∧ 1 ≤ ts 10) by omega)]; done) | (simp only [if_pos (show (0 : Int) ≤ ((k : Nat) : Int) ∧ ((k : Nat) : Int) < 10 ∧ 1 ≤ ts 10 by omega), Int.toNat_natCast]; done)) (hR _ _ d_Mo_save_26)
set_option maxHeartbeats 4000000 in
set_option maxRecDepth 100000 in
theorem k_Mo_finds (l : Launch) (g : ZG) (m0 m1 m2 m3 m4 m5 m6 m7 m8 m9 m10 m11 m12 m13 m14 m15 m16 m17 m18 m19 sn ap wr xc un bc wc rc hc : Nat) (tr : Nat → QD) (ts : Nat → Nat) (se mo : Nat → Int64) (en : Nat → Int32 × Nat) (ec : Nat → Nat) (me : Nat → Bool) (hn : Nat → Nat) (q : Nat) (all : Bool) (hq10 : q < 10) (hts : ts q ≤ 40) (hwf : okT (fun z9 => tr (40 * q + z9)) (ts q) 0) (hrc : rc ≤ 60) (hec : ∀ k, ec k ≤ 8) (hen : ∀ k, (en k).2 < 100000)  (w : Nat × (Nat → Nat) × (Nat → Bool)) (hw : w = fdO (fdT (lkR all (se q) mo) (smR ec en) (fun z9 => tr (40 * q + z9)) (ts q)) mo rc rc (0, hn, me)) : Ct l g y_Mo_finds c_Mo_finds 6 (some .int) { frames := 3, cells := 0, slots := 0, locals := 77 } [.ref m0, .int (iI ((q : Nat) : Int)), .int (iI (bI all))] [(m0, .inr (10, [.int (iI ((0 : Nat) : Int)), .ref m1, .int (iI ((sn : Nat) : Int)), .int (iI ((ap : Nat) : Int)), .int (iI ((wr : Nat) : Int)), .ref m2, .ref m3, .ref m4, .int (iI ((xc : Nat) : Int)), .ref m5, .int (iI ((un : Nat) : Int)), .ref m6, .ref m7, .int (iI ((bc : Nat) : Int)), .ref m8, .int (iI ((wc : Nat) : Int)), .ref m9, .ref m10, .ref m11, .ref m12, .int (iI ((rc : Nat) : Int)), .ref m13, .ref m14, .ref m15, .ref m16, .ref m17, .int (iI ((hc : Nat) : Int)), .ref m18, .ref m19])), (m9, .inl ((g.2.1 0), 1760, .inl (pk tr))), (m10, .inl ((g.2.1 0), 11, .inl (nF ts))), (m12, .inl ((g.2.1 1), 10, .inr (.inl se))), (m13, .inl ((g.2.1 1), 61, .inr (.inl mo))), (m14, .inl ((g.2.1 0), 976, .inl (pe en))), (m15, .inl ((g.2.1 0), 61, .inl (nF ec))), (m16, .inl ((g.2.1 2), 41, .inl (bF me))), (m17, .inl ((g.2.1 0), 60, .inl (nF hn)))] (some (.int (iI ((w.1 : Nat) : Int)))) [(m0, .inr (10, [.int (iI ((0 : Nat) : Int)), .ref m1, .int (iI ((sn : Nat) : Int)), .int (iI ((ap : Nat) : Int)), .int (iI ((wr : Nat) : Int)), .ref m2, .ref m3, .ref m4, .int (iI ((xc : Nat) : Int)), .ref m5, .int (iI ((un : Nat) : Int)), .ref m6, .ref m7, .int (iI ((bc : Nat) : Int)), .ref m8, .int (iI ((wc : Nat) : Int)), .ref m9, .ref m10, .ref m11, .ref m12, .int (iI ((rc : Nat) : Int)), .ref m13, .ref m14, .ref m15, .ref m16, .ref m17, .int (iI ((w.1 : Nat) : Int)), .ref m18, .ref m19])), (m9, .inl ((g.2.1 0), 1760, .inl (pk tr))), (m10, .inl ((g.2.1 0), 11, .inl (nF ts))), (m12, .inl ((g.2.1 1), 10, .inr (.inl se))), (m13, .inl ((g.2.1 1), 61, .inr (.inl mo))), (m14, .inl ((g.2.1 0), 976, .inl (pe en))), (m15, .inl ((g.2.1 0), 61, .inl (nF ec))), (m16, .inl ((g.2.1 2), 41, .inl (bF w.2.2))), (m17, .inl ((g.2.1 0), 60, .inl (nF w.2.1)))] := by
  refine ct_i (lv := [(0, .ref m0), (1, .int (iI ((q : Nat) : Int))), (2, .int (iI (bI all)))]) (by decide) rfl (Nat.le_of_ble_eq_true rfl) rfl ?_
  intro x hC hR
  refine z_aload_n hC d_Mo_finds_0 rfl 0 rfl ?_
  refine z_iconstN hC 0 d_Mo_finds_1 rfl ?_
  refine z_put (v := .int (iI ((0 : Nat) : Int))) (ty := .int) (w' := [(m0, .inr (10, [.int (iI ((0 : Nat) : Int)), .ref m1, .int (iI ((sn : Nat) : Int)), .int (iI ((ap : Nat) : Int)), .int (iI ((wr : Nat) : Int)), .ref m2, .ref m3, .ref m4, .int (iI ((xc : Nat) : Int)), .ref m5, .int (iI ((un : Nat) : Int)), .ref m6, .ref m7, .int (iI ((bc : Nat) : Int)), .ref m8, .int (iI ((wc : Nat) : Int)), .ref m9, .ref m10, .ref m11, .ref m12, .int (iI ((rc : Nat) : Int)), .ref m13, .ref m14, .ref m15, .ref m16, .ref m17, .int (iI ((0 : Nat) : Int)), .ref m18, .ref m19])), (m9, .inl ((g.2.1 0), 1760, .inl (pk tr))), (m10, .inl ((g.2.1 0), 11, .inl (nF ts))), (m12, .inl ((g.2.1 1), 10, .inr (.inl se))), (m13, .inl ((g.2.1 1), 61, .inr (.inl mo))), (m14, .inl ((g.2.1 0), 976, .inl (pe en))), (m15, .inl ((g.2.1 0), 61, .inl (nF ec))), (m16, .inl ((g.2.1 2), 41, .inl (bF me))), (m17, .inl ((g.2.1 0), 60, .inl (nF hn)))]) hC hi_Mo ty_Mo ok_Mo nm_Mo 0 rfl rfl 26 (by decide) mw_761 rfl rfl rfl rfl rfl (Nat.le_of_ble_eq_true rfl) rfl d_Mo_finds_2 ?_
  refine z_aload_n hC d_Mo_finds_5 rfl 0 rfl ?_
  refine z_get hC hi_Mo 0 rfl rfl 20 (by decide) mw_755 (Or.inl rfl) rfl d_Mo_finds_6 ?_
  refine z_istore_n (lv' := [(3, .int (iI ((rc : Nat) : Int))), (0, .ref m0), (1, .int (iI ((q : Nat) : Int))), (2, .int (iI (bI all)))]) hC d_Mo_finds_9 rfl (by decide) rfl ?_
  have L_10 : ∀ (fu : Nat) (e f c : Nat) (g1 : Nat → Nat) (b1 : Nat → Bool), (e ≤ rc) → (e ≤ f) → (c + e ≤ rc) → (fdO (fdT (lkR all (se q) mo) (smR ec en) (fun z9 => tr (40 * q + z9)) (ts q)) mo f e (c, g1, b1) = w) → e < fu → Z x (0, 0) [(m0, .inr (10, [.int (iI ((0 : Nat) : Int)), .ref m1, .int (iI ((sn : Nat) : Int)), .int (iI ((ap : Nat) : Int)), .int (iI ((wr : Nat) : Int)), .ref m2, .ref m3, .ref m4, .int (iI ((xc : Nat) : Int)), .ref m5, .int (iI ((un : Nat) : Int)), .ref m6, .ref m7, .int (iI ((bc : Nat) : Int)), .ref m8, .int (iI ((wc : Nat) : Int)), .ref m9, .ref m10, .ref m11, .ref m12, .int (iI ((rc : Nat) : Int)), .ref m13, .ref m14, .ref m15, .ref m16, .ref m17, .int (iI ((c : Nat) : Int)), .ref m18, .ref m19])), (m9, .inl ((g.2.1 0), 1760, .inl (pk tr))), (m10, .inl ((g.2.1 0), 11, .inl (nF ts))), (m12, .inl ((g.2.1 1), 10, .inr (.inl se))), (m13, .inl ((g.2.1 1), 61, .inr (.inl mo))), (m14, .inl ((g.2.1 0), 976, .inl (pe en))), (m15, .inl ((g.2.1 0), 61, .inl (nF ec))), (m16, .inl ((g.2.1 2), 41, .inl (bF b1))), (m17, .inl ((g.2.1 0), 60, .inl (nF g1)))] 10 [(3, .int (iI ((e : Nat) : Int))), (0, .ref m0), (1, .int (iI ((q : Nat) : Int))), (2, .int (iI (bI all)))] [] := by
    intro fu
    induction fu with
    | zero => intro e f c g1 b1 he hef hce hq hmu; exact absurd hmu (Nat.not_lt_zero _)
    | succ fu ih_10 =>
      intro e f c g1 b1 he hef hce hq hmu
      refine z_iload_n hC d_Mo_finds_10 rfl 0 rfl ?_
      refine z_if_le (tgt := 124) hC ((e : Nat) : Int) d_Mo_finds_11 rfl (iI_t (by omega)) (fun c_1 => ?_) (fun c_1 => ?_)
      · have hz := fdO_end (by omega) hq
        subst hz
        refine z_aload_n hC d_Mo_finds_124 rfl 1 rfl ?_
        refine z_get hC hi_Mo 0 rfl rfl 26 (by decide) mw_761 (Or.inl rfl) rfl d_Mo_finds_125 ?_
        exact Z.eq rfl rfl rfl (by rfl) (hR _ _ d_Mo_finds_128)
      · refine z_iload_n hC d_Mo_finds_14 rfl 0 rfl ?_
        refine z_istore (lv' := [(4, .int (iI ((e : Nat) : Int))), (3, .int (iI ((e : Nat) : Int))), (0, .ref m0), (1, .int (iI ((q : Nat) : Int))), (2, .int (iI (bI all)))]) hC d_Mo_finds_15 (by decide) rfl ?_
        have L_17 : ∀ (fu : Nat) (k : Nat), (1 ≤ k ∧ k ≤ e) → (frm mo e k = frm mo e e) → k < fu → Z x (0, 0) [(m0, .inr (10, [.int (iI ((0 : Nat) : Int)), .ref m1, .int (iI ((sn : Nat) : Int)), .int (iI ((ap : Nat) : Int)), .int (iI ((wr : Nat) : Int)), .ref m2, .ref m3, .ref m4, .int (iI ((xc : Nat) : Int)), .ref m5, .int (iI ((un : Nat) : Int)), .ref m6, .ref m7, .int (iI ((bc : Nat) : Int)), .ref m8, .int (iI ((wc : Nat) : Int)), .ref m9, .ref m10, .ref m11, .ref m12, .int (iI ((rc : Nat) : Int)), .ref m13, .ref m14, .ref m15, .ref m16, .ref m17, .int (iI ((c : Nat) : Int)), .ref m18, .ref m19])), (m9, .inl ((g.2.1 0), 1760, .inl (pk tr))), (m10, .inl ((g.2.1 0), 11, .inl (nF ts))), (m12, .inl ((g.2.1 1), 10, .inr (.inl se))), (m13, .inl ((g.2.1 1), 61, .inr (.inl mo))), (m14, .inl ((g.2.1 0), 976, .inl (pe en))), (m15, .inl ((g.2.1 0), 61, .inl (nF ec))), (m16, .inl ((g.2.1 2), 41, .inl (bF b1))), (m17, .inl ((g.2.1 0), 60, .inl (nF g1)))] 17 [(4, .int (iI ((k : Nat) : Int))), (3, .int (iI ((e : Nat) : Int))), (0, .ref m0), (1, .int (iI ((q : Nat) : Int))), (2, .int (iI (bI all)))] [] := by
          intro fu
          induction fu with
          | zero => intro k hk hfr hmu; exact absurd hmu (Nat.not_lt_zero _)
          | succ fu ih_17 =>
            intro k hk hfr hmu
            refine z_iload hC d_Mo_finds_17 0 rfl ?_
            refine z_iconstN hC 1 d_Mo_finds_19 rfl ?_
            refine z_icmp_le (tgt := 48) hC ((k : Nat) : Int) ((1 : Nat) : Int) d_Mo_finds_20 rfl (iI_t (by omega)) (iI_t (by omega)) (fun c_2 => ?_) (fun c_2 => ?_)
            · refine z_iload hC d_Mo_finds_48 0 rfl ?_
              refine z_istore (lv' := [(5, .int (iI ((k : Nat) : Int))), (4, .int (iI ((k : Nat) : Int))), (3, .int (iI ((e : Nat) : Int))), (0, .ref m0), (1, .int (iI ((q : Nat) : Int))), (2, .int (iI (bI all)))]) hC d_Mo_finds_50 (by decide) rfl ?_
              have L_52 : ∀ (fu : Nat) (r c2 : Nat) (g2 : Nat → Nat) (b2 : Nat → Bool), (k ≤ r ∧ r ≤ e + 1) → (c2 + (e + 1 - r) + (k - 1) ≤ rc) → (fdI (fdT (lkR all (se q) mo) (smR ec en) (fun z9 => tr (40 * q + z9)) (ts q)) (e + 1 - r) r (c2, g2, b2) = fdI (fdT (lkR all (se q) mo) (smR ec en) (fun z9 => tr (40 * q + z9)) (ts q)) (e + 1 - k) k (c, g1, b1)) → e + 1 - r < fu → Z x (0, 0) [(m0, .inr (10, [.int (iI ((0 : Nat) : Int)), .ref m1, .int (iI ((sn : Nat) : Int)), .int (iI ((ap : Nat) : Int)), .int (iI ((wr : Nat) : Int)), .ref m2, .ref m3, .ref m4, .int (iI ((xc : Nat) : Int)), .ref m5, .int (iI ((un : Nat) : Int)), .ref m6, .ref m7, .int (iI ((bc : Nat) : Int)), .ref m8, .int (iI ((wc : Nat) : Int)), .ref m9, .ref m10, .ref m11, .ref m12, .int (iI ((rc : Nat) : Int)), .ref m13, .ref m14, .ref m15, .ref m16, .ref m17, .int (iI ((c2 : Nat) : Int)), .ref m18, .ref m19])), (m9, .inl ((g.2.1 0), 1760, .inl (pk tr))), (m10, .inl ((g.2.1 0), 11, .inl (nF ts))), (m12, .inl ((g.2.1 1), 10, .inr (.inl se))), (m13, .inl ((g.2.1 1), 61, .inr (.inl mo))), (m14, .inl ((g.2.1 0), 976, .inl (pe en))), (m15, .inl ((g.2.1 0), 61, .inl (nF ec))), (m16, .inl ((g.2.1 2), 41, .inl (bF b2))), (m17, .inl ((g.2.1 0), 60, .inl (nF g2)))] 52 [(5, .int (iI ((r : Nat) : Int))), (4, .int (iI ((k : Nat) : Int))), (3, .int (iI ((e : Nat) : Int))), (0, .ref m0), (1, .int (iI ((q : Nat) : Int))), (2, .int (iI (bI all)))] [] := by
                intro fu
                induction fu with
                | zero => intro r c2 g2 b2 hr hcr hq2 hmu; exact absurd hmu (Nat.not_lt_zero _)
                | succ fu ih_52 =>
                  intro r c2 g2 b2 hr hcr hq2 hmu
                  refine z_iload hC d_Mo_finds_52 0 rfl ?_
                  refine z_iload_n hC d_Mo_finds_54 rfl 2 rfl ?_
                  refine z_icmp_gt (tgt := 116) hC ((r : Nat) : Int) ((e : Nat) : Int) d_Mo_finds_55 rfl (iI_t (by omega)) (iI_t (by omega)) (fun c_3 => ?_) (fun c_3 => ?_)
                  · refine z_iload hC d_Mo_finds_116 1 rfl ?_
                    refine z_iconstN hC 1 d_Mo_finds_118 rfl ?_
                    refine z_isubN hC d_Mo_finds_119 (by omega) ?_
                    refine z_istore_n (lv' := [(3, .int (iI ((k - 1 : Nat) : Int))), (5, .int (iI ((r : Nat) : Int))), (4, .int (iI ((k : Nat) : Int))), (0, .ref m0), (1, .int (iI ((q : Nat) : Int))), (2, .int (iI (bI all)))]) hC d_Mo_finds_120 rfl (by decide) rfl ?_
                    refine z_goto (tgt := 10) hC d_Mo_finds_121 rfl ?_
                    exact Zloc [0, 3, 4, 5] rfl (Z.eq (w' := [(m0, .inr (10, [.int (iI ((0 : Nat) : Int)), .ref m1, .int (iI ((sn : Nat) : Int)), .int (iI ((ap : Nat) : Int)), .int (iI ((wr : Nat) : Int)), .ref m2, .ref m3, .ref m4, .int (iI ((xc : Nat) : Int)), .ref m5, .int (iI ((un : Nat) : Int)), .ref m6, .ref m7, .int (iI ((bc : Nat) : Int)), .ref m8, .int (iI ((wc : Nat) : Int)), .ref m9, .ref m10, .ref m11, .ref m12, .int (iI ((rc : Nat) : Int)), .ref m13, .ref m14, .ref m15, .ref m16, .ref m17, .int (iI ((c2 : Nat) : Int)), .ref m18, .ref m19])), (m9, .inl ((g.2.1 0), 1760, .inl (pk tr))), (m10, .inl ((g.2.1 0), 11, .inl (nF ts))), (m12, .inl ((g.2.1 1), 10, .inr (.inl se))), (m13, .inl ((g.2.1 1), 61, .inr (.inl mo))), (m14, .inl ((g.2.1 0), 976, .inl (pe en))), (m15, .inl ((g.2.1 0), 61, .inl (nF ec))), (m16, .inl ((g.2.1 2), 41, .inl (bF b2))), (m17, .inl ((g.2.1 0), 60, .inl (nF g2)))]) rfl rfl rfl rfl (ih_10 (k - 1) (f - 1) c2 g2 b2 (by omega) (by omega) (by omega) (fdO_go (by omega) (by omega) hq (hfr.symm.trans (by first | exact frm_stop (Or.inl (by omega)) | exact frm_stop (Or.inr (by assumption)) | rfl)).symm (by omega) hq2) (by omega)))
                  · refine z_iload_n hC d_Mo_finds_58 rfl 5 rfl ?_
                    refine z_ifneB (tgt := 79) hC d_Mo_finds_59 rfl (fun c_4 => ?_) (fun c_4 => ?_)
                    · refine z_aload_n hC d_Mo_finds_79 rfl 3 rfl ?_
                      refine z_iload hC d_Mo_finds_80 0 rfl ?_
                      refine z_iload_n hC d_Mo_finds_82 rfl 4 rfl ?_
                      obtain ⟨w_5, hw_5⟩ : ∃ z : Nat × (Nat → Bool), z = mtR (smR ec en r) (fun z9 => tr (40 * q + z9)) (ts q) (0, b2) := ⟨_, rfl⟩
                      refine z_callV (q0 := 0) (ci := 10) (w' := [(m0, .inr (10, [.int (iI ((0 : Nat) : Int)), .ref m1, .int (iI ((sn : Nat) : Int)), .int (iI ((ap : Nat) : Int)), .int (iI ((wr : Nat) : Int)), .ref m2, .ref m3, .ref m4, .int (iI ((xc : Nat) : Int)), .ref m5, .int (iI ((un : Nat) : Int)), .ref m6, .ref m7, .int (iI ((bc : Nat) : Int)), .ref m8, .int (iI ((wc : Nat) : Int)), .ref m9, .ref m10, .ref m11, .ref m12, .int (iI ((rc : Nat) : Int)), .ref m13, .ref m14, .ref m15, .ref m16, .ref m17, .int (iI ((c2 : Nat) : Int)), .ref m18, .ref m19])), (m9, .inl ((g.2.1 0), 1760, .inl (pk tr))), (m10, .inl ((g.2.1 0), 11, .inl (nF ts))), (m12, .inl ((g.2.1 1), 10, .inr (.inl se))), (m13, .inl ((g.2.1 1), 61, .inr (.inl mo))), (m14, .inl ((g.2.1 0), 976, .inl (pe en))), (m15, .inl ((g.2.1 0), 61, .inl (nF ec))), (m16, .inl ((g.2.1 2), 41, .inl (bF w_5.2))), (m17, .inl ((g.2.1 0), 60, .inl (nF g2)))]) (st1 := [.int (iI (bI (w_5.2 0)))]) hC (k_Mo_meetsAll l g m0 m1 m2 m3 m4 m5 m6 m7 m8 m9 m10 m11 m12 m13 m14 m15 m16 m17 m18 m19 sn ap wr xc un bc wc rc c2 tr ts en ec b2 r q (by omega) hq10 hts hwf hec hen w_5 hw_5) mw_970 zv_Mo_meetsAll rfl rfl ⟨Nat.le_of_ble_eq_true rfl, Nat.le_of_ble_eq_true rfl⟩ [0, 1, 2, 5, 6, 7] rfl rfl rfl rfl rfl rfl rfl rfl (Nat.le_of_ble_eq_true rfl) d_Mo_finds_83 rfl ⟨Nat.zero_le _, Nat.zero_le _⟩ rfl ?_
                      refine z_ifeqB (tgt := 110) hC d_Mo_finds_86 rfl (fun c_6 => ?_) (fun c_6 => ?_)
                      · refine z_iincN (lv' := [(5, .int (iI ((r + 1 : Nat) : Int))), (4, .int (iI ((k : Nat) : Int))), (3, .int (iI ((e : Nat) : Int))), (0, .ref m0), (1, .int (iI ((q : Nat) : Int))), (2, .int (iI (bI all)))]) hC 1 d_Mo_finds_110 rfl 0 rfl (by decide) rfl ?_
                        refine z_goto (tgt := 52) hC d_Mo_finds_113 rfl ?_
                        exact Zloc [0, 1, 2, 3, 4, 5] rfl (Z.eq (w' := [(m0, .inr (10, [.int (iI ((0 : Nat) : Int)), .ref m1, .int (iI ((sn : Nat) : Int)), .int (iI ((ap : Nat) : Int)), .int (iI ((wr : Nat) : Int)), .ref m2, .ref m3, .ref m4, .int (iI ((xc : Nat) : Int)), .ref m5, .int (iI ((un : Nat) : Int)), .ref m6, .ref m7, .int (iI ((bc : Nat) : Int)), .ref m8, .int (iI ((wc : Nat) : Int)), .ref m9, .ref m10, .ref m11, .ref m12, .int (iI ((rc : Nat) : Int)), .ref m13, .ref m14, .ref m15, .ref m16, .ref m17, .int (iI ((c2 : Nat) : Int)), .ref m18, .ref m19])), (m9, .inl ((g.2.1 0), 1760, .inl (pk tr))), (m10, .inl ((g.2.1 0), 11, .inl (nF ts))), (m12, .inl ((g.2.1 1), 10, .inr (.inl se))), (m13, .inl ((g.2.1 1), 61, .inr (.inl mo))), (m14, .inl ((g.2.1 0), 976, .inl (pe en))), (m15, .inl ((g.2.1 0), 61, .inl (nF ec))), (m16, .inl ((g.2.1 2), 41, .inl (bF w_5.2))), (m17, .inl ((g.2.1 0), 60, .inl (nF g2)))]) rfl rfl rfl rfl (ih_52 (r + 1) c2 g2 w_5.2 (by omega) (by omega) (fdI_go (by omega) hq2 (by first | exact fdT_no (by unfold lkR; first | (rw [show all = true by assumption]; rfl) | (rw [show all = false by assumption, Bool.false_or]; exact decide_eq_true (by assumption)) | (rw [show all = false by assumption, Bool.false_or]; exact decide_eq_false (by assumption))) | exact fdT_hit (by unfold lkR; first | (rw [show all = true by assumption]; rfl) | (rw [show all = false by assumption, Bool.false_or]; exact decide_eq_true (by assumption)) | (rw [show all = false by assumption, Bool.false_or]; exact decide_eq_false (by assumption))) hw_5 (by assumption) | exact fdT_miss (by unfold lkR; first | (rw [show all = true by assumption]; rfl) | (rw [show all = false by assumption, Bool.false_or]; exact decide_eq_true (by assumption)) | (rw [show all = false by assumption, Bool.false_or]; exact decide_eq_false (by assumption))) hw_5 (by assumption))) (by omega)))
                      · refine z_aload_n hC d_Mo_finds_89 rfl 3 rfl ?_
                        refine z_get hC hi_Mo 0 rfl rfl 25 (by decide) mw_760 (Or.inl rfl) rfl d_Mo_finds_90 ?_
                        refine z_aload_n hC d_Mo_finds_93 rfl 3 rfl ?_
                        refine z_get hC hi_Mo 0 rfl rfl 26 (by decide) mw_761 (Or.inl rfl) rfl d_Mo_finds_94 ?_
                        refine z_iload hC d_Mo_finds_97 0 rfl ?_
                        refine z_iastN (v := r) (w' := [(m0, .inr (10, [.int (iI ((0 : Nat) : Int)), .ref m1, .int (iI ((sn : Nat) : Int)), .int (iI ((ap : Nat) : Int)), .int (iI ((wr : Nat) : Int)), .ref m2, .ref m3, .ref m4, .int (iI ((xc : Nat) : Int)), .ref m5, .int (iI ((un : Nat) : Int)), .ref m6, .ref m7, .int (iI ((bc : Nat) : Int)), .ref m8, .int (iI ((wc : Nat) : Int)), .ref m9, .ref m10, .ref m11, .ref m12, .int (iI ((rc : Nat) : Int)), .ref m13, .ref m14, .ref m15, .ref m16, .ref m17, .int (iI ((c2 : Nat) : Int)), .ref m18, .ref m19])), (m9, .inl ((g.2.1 0), 1760, .inl (pk tr))), (m10, .inl ((g.2.1 0), 11, .inl (nF ts))), (m12, .inl ((g.2.1 1), 10, .inr (.inl se))), (m13, .inl ((g.2.1 1), 61, .inr (.inl mo))), (m14, .inl ((g.2.1 0), 976, .inl (pe en))), (m15, .inl ((g.2.1 0), 61, .inl (nF ec))), (m16, .inl ((g.2.1 2), 41, .inl (bF w_5.2))), (m17, .inl ((g.2.1 0), 60, .inl (nF (up g2 c2 r))))]) hC 8 0 rfl rfl c2 rfl (by omega) (by decide) rfl d_Mo_finds_99 ?_
                        refine z_aload_n hC d_Mo_finds_100 rfl 3 rfl ?_
                        refine z_dup hC d_Mo_finds_101 rfl ?_
                        refine z_get hC hi_Mo 0 rfl rfl 26 (by decide) mw_761 (Or.inl rfl) rfl d_Mo_finds_102 ?_
                        refine z_iconstN hC 1 d_Mo_finds_105 rfl ?_
                        refine z_iaddN hC d_Mo_finds_106 ?_
                        refine z_put (v := .int (iI ((c2 + 1 : Nat) : Int))) (ty := .int) (w' := [(m0, .inr (10, [.int (iI ((0 : Nat) : Int)), .ref m1, .int (iI ((sn : Nat) : Int)), .int (iI ((ap : Nat) : Int)), .int (iI ((wr : Nat) : Int)), .ref m2, .ref m3, .ref m4, .int (iI ((xc : Nat) : Int)), .ref m5, .int (iI ((un : Nat) : Int)), .ref m6, .ref m7, .int (iI ((bc : Nat) : Int)), .ref m8, .int (iI ((wc : Nat) : Int)), .ref m9, .ref m10, .ref m11, .ref m12, .int (iI ((rc : Nat) : Int)), .ref m13, .ref m14, .ref m15, .ref m16, .ref m17, .int (iI ((c2 + 1 : Nat) : Int)), .ref m18, .ref m19])), (m9, .inl ((g.2.1 0), 1760, .inl (pk tr))), (m10, .inl ((g.2.1 0), 11, .inl (nF ts))), (m12, .inl ((g.2.1 1), 10, .inr (.inl se))), (m13, .inl ((g.2.1 1), 61, .inr (.inl mo))), (m14, .inl ((g.2.1 0), 976, .inl (pe en))), (m15, .inl ((g.2.1 0), 61, .inl (nF ec))), (m16, .inl ((g.2.1 2), 41, .inl (bF w_5.2))), (m17, .inl ((g.2.1 0), 60, .inl (nF (up g2 c2 r))))]) hC hi_Mo ty_Mo ok_Mo nm_Mo 0 rfl rfl 26 (by decide) mw_761 rfl rfl rfl rfl rfl (Nat.le_of_ble_eq_true rfl) rfl d_Mo_finds_107 ?_
                        refine z_iincN (lv' := [(5, .int (iI ((r + 1 : Nat) : Int))), (4, .int (iI ((k : Nat) : Int))), (3, .int (iI ((e : Nat) : Int))), (0, .ref m0), (1, .int (iI ((q : Nat) : Int))), (2, .int (iI (bI all)))]) hC 1 d_Mo_finds_110 rfl 0 rfl (by decide) rfl ?_
                        refine z_goto (tgt := 52) hC d_Mo_finds_113 rfl ?_
                        exact Zloc [0, 1, 2, 3, 4, 5] rfl (Z.eq (w' := [(m0, .inr (10, [.int (iI ((0 : Nat) : Int)), .ref m1, .int (iI ((sn : Nat) : Int)), .int (iI ((ap : Nat) : Int)), .int (iI ((wr : Nat) : Int)), .ref m2, .ref m3, .ref m4, .int (iI ((xc : Nat) : Int)), .ref m5, .int (iI ((un : Nat) : Int)), .ref m6, .ref m7, .int (iI ((bc : Nat) : Int)), .ref m8, .int (iI ((wc : Nat) : Int)), .ref m9, .ref m10, .ref m11, .ref m12, .int (iI ((rc : Nat) : Int)), .ref m13, .ref m14, .ref m15, .ref m16, .ref m17, .int (iI (((c2 + 1) : Nat) : Int)), .ref m18, .ref m19])), (m9, .inl ((g.2.1 0), 1760, .inl (pk tr))), (m10, .inl ((g.2.1 0), 11, .inl (nF ts))), (m12, .inl ((g.2.1 1), 10, .inr (.inl se))), (m13, .inl ((g.2.1 1), 61, .inr (.inl mo))), (m14, .inl ((g.2.1 0), 976, .inl (pe en))), (m15, .inl ((g.2.1 0), 61, .inl (nF ec))), (m16, .inl ((g.2.1 2), 41, .inl (bF w_5.2))), (m17, .inl ((g.2.1 0), 60, .inl (nF (up g2 c2 r))))]) rfl rfl rfl rfl (ih_52 (r + 1) (c2 + 1) (up g2 c2 r) w_5.2 (by omega) (by omega) (fdI_go (by omega) hq2 (by first | exact fdT_no (by unfold lkR; first | (rw [show all = true by assumption]; rfl) | (rw [show all = false by assumption, Bool.false_or]; exact decide_eq_true (by assumption)) | (rw [show all = false by assumption, Bool.false_or]; exact decide_eq_false (by assumption))) | exact fdT_hit (by unfold lkR; first | (rw [show all = true by assumption]; rfl) | (rw [show all = false by assumption, Bool.false_or]; exact decide_eq_true (by assumption)) | (rw [show all = false by assumption, Bool.false_or]; exact decide_eq_false (by assumption))) hw_5 (by assumption) | exact fdT_miss (by unfold lkR; first | (rw [show all = true by assumption]; rfl) | (rw [show all = false by assumption, Bool.false_or]; exact decide_eq_true (by assumption)) | (rw [show all = false by assumption, Bool.false_or]; exact decide_eq_false (by assumption))) hw_5 (by assumption))) (by omega)))
                    · refine z_aload_n hC d_Mo_finds_62 rfl 3 rfl ?_
                      refine z_get hC hi_Mo 0 rfl rfl 21 (by decide) mw_756 (Or.inl rfl) rfl d_Mo_finds_63 ?_
                      refine z_iload hC d_Mo_finds_66 0 rfl ?_
                      refine z_lald hC 4 1 rfl rfl r rfl (by omega) (by decide) d_Mo_finds_68 ?_
                      refine z_aload_n hC d_Mo_finds_69 rfl 3 rfl ?_
                      refine z_get hC hi_Mo 0 rfl rfl 19 (by decide) mw_754 (Or.inl rfl) rfl d_Mo_finds_70 ?_
                      refine z_iload_n hC d_Mo_finds_73 rfl 4 rfl ?_
                      refine z_lald hC 3 1 rfl rfl q rfl (by omega) (by decide) d_Mo_finds_74 ?_
                      refine z_lc_le (tgt := 110) hC d_Mo_finds_75 d_Mo_finds_76 rfl (fun c_7 => ?_) (fun c_7 => ?_)
                      · refine z_iincN (lv' := [(5, .int (iI ((r + 1 : Nat) : Int))), (4, .int (iI ((k : Nat) : Int))), (3, .int (iI ((e : Nat) : Int))), (0, .ref m0), (1, .int (iI ((q : Nat) : Int))), (2, .int (iI (bI all)))]) hC 1 d_Mo_finds_110 rfl 0 rfl (by decide) rfl ?_
                        refine z_goto (tgt := 52) hC d_Mo_finds_113 rfl ?_
                        exact Zloc [0, 1, 2, 3, 4, 5] rfl (Z.eq (w' := [(m0, .inr (10, [.int (iI ((0 : Nat) : Int)), .ref m1, .int (iI ((sn : Nat) : Int)), .int (iI ((ap : Nat) : Int)), .int (iI ((wr : Nat) : Int)), .ref m2, .ref m3, .ref m4, .int (iI ((xc : Nat) : Int)), .ref m5, .int (iI ((un : Nat) : Int)), .ref m6, .ref m7, .int (iI ((bc : Nat) : Int)), .ref m8, .int (iI ((wc : Nat) : Int)), .ref m9, .ref m10, .ref m11, .ref m12, .int (iI ((rc : Nat) : Int)), .ref m13, .ref m14, .ref m15, .ref m16, .ref m17, .int (iI ((c2 : Nat) : Int)), .ref m18, .ref m19])), (m9, .inl ((g.2.1 0), 1760, .inl (pk tr))), (m10, .inl ((g.2.1 0), 11, .inl (nF ts))), (m12, .inl ((g.2.1 1), 10, .inr (.inl se))), (m13, .inl ((g.2.1 1), 61, .inr (.inl mo))), (m14, .inl ((g.2.1 0), 976, .inl (pe en))), (m15, .inl ((g.2.1 0), 61, .inl (nF ec))), (m16, .inl ((g.2.1 2), 41, .inl (bF b2))), (m17, .inl ((g.2.1 0), 60, .inl (nF g2)))]) rfl rfl rfl rfl (ih_52 (r + 1) c2 g2 b2 (by omega) (by omega) (fdI_go (by omega) hq2 (by first | exact fdT_no (by unfold lkR; first | (rw [show all = true by assumption]; rfl) | (rw [show all = false by assumption, Bool.false_or]; exact decide_eq_true (by assumption)) | (rw [show all = false by assumption, Bool.false_or]; exact decide_eq_false (by assumption))) | exact fdT_hit (by unfold lkR; first | (rw [show all = true by assumption]; rfl) | (rw [show all = false by assumption, Bool.false_or]; exact decide_eq_true (by assumption)) | (rw [show all = false by assumption, Bool.false_or]; exact decide_eq_false (by assumption))) rfl (by assumption) | exact fdT_miss (by unfold lkR; first | (rw [show all = true by assumption]; rfl) | (rw [show all = false by assumption, Bool.false_or]; exact decide_eq_true (by assumption)) | (rw [show all = false by assumption, Bool.false_or]; exact decide_eq_false (by assumption))) rfl (by assumption))) (by omega)))
                      · refine z_aload_n hC d_Mo_finds_79 rfl 3 rfl ?_
                        refine z_iload hC d_Mo_finds_80 0 rfl ?_
                        refine z_iload_n hC d_Mo_finds_82 rfl 4 rfl ?_
                        obtain ⟨w_8, hw_8⟩ : ∃ z : Nat × (Nat → Bool), z = mtR (smR ec en r) (fun z9 => tr (40 * q + z9)) (ts q) (0, b2) := ⟨_, rfl⟩
                        refine z_callV (q0 := 0) (ci := 10) (w' := [(m0, .inr (10, [.int (iI ((0 : Nat) : Int)), .ref m1, .int (iI ((sn : Nat) : Int)), .int (iI ((ap : Nat) : Int)), .int (iI ((wr : Nat) : Int)), .ref m2, .ref m3, .ref m4, .int (iI ((xc : Nat) : Int)), .ref m5, .int (iI ((un : Nat) : Int)), .ref m6, .ref m7, .int (iI ((bc : Nat) : Int)), .ref m8, .int (iI ((wc : Nat) : Int)), .ref m9, .ref m10, .ref m11, .ref m12, .int (iI ((rc : Nat) : Int)), .ref m13, .ref m14, .ref m15, .ref m16, .ref m17, .int (iI ((c2 : Nat) : Int)), .ref m18, .ref m19])), (m9, .inl ((g.2.1 0), 1760, .inl (pk tr))), (m10, .inl ((g.2.1 0), 11, .inl (nF ts))), (m12, .inl ((g.2.1 1), 10, .inr (.inl se))), (m13, .inl ((g.2.1 1), 61, .inr (.inl mo))), (m14, .inl ((g.2.1 0), 976, .inl (pe en))), (m15, .inl ((g.2.1 0), 61, .inl (nF ec))), (m16, .inl ((g.2.1 2), 41, .inl (bF w_8.2))), (m17, .inl ((g.2.1 0), 60, .inl (nF g2)))]) (st1 := [.int (iI (bI (w_8.2 0)))]) hC (k_Mo_meetsAll l g m0 m1 m2 m3 m4 m5 m6 m7 m8 m9 m10 m11 m12 m13 m14 m15 m16 m17 m18 m19 sn ap wr xc un bc wc rc c2 tr ts en ec b2 r q (by omega) hq10 hts hwf hec hen w_8 hw_8) mw_970 zv_Mo_meetsAll rfl rfl ⟨Nat.le_of_ble_eq_true rfl, Nat.le_of_ble_eq_true rfl⟩ [0, 1, 2, 5, 6, 7] rfl rfl rfl rfl rfl rfl rfl rfl (Nat.le_of_ble_eq_true rfl) d_Mo_finds_83 rfl ⟨Nat.zero_le _, Nat.zero_le _⟩ rfl ?_
                        refine z_ifeqB (tgt := 110) hC d_Mo_finds_86 rfl (fun c_9 => ?_) (fun c_9 => ?_)
                        · refine z_iincN (lv' := [(5, .int (iI ((r + 1 : Nat) : Int))), (4, .int (iI ((k : Nat) : Int))), (3, .int (iI ((e : Nat) : Int))), (0, .ref m0), (1, .int (iI ((q : Nat) : Int))), (2, .int (iI (bI all)))]) hC 1 d_Mo_finds_110 rfl 0 rfl (by decide) rfl ?_
                          refine z_goto (tgt := 52) hC d_Mo_finds_113 rfl ?_
                          exact Zloc [0, 1, 2, 3, 4, 5] rfl (Z.eq (w' := [(m0, .inr (10, [.int (iI ((0 : Nat) : Int)), .ref m1, .int (iI ((sn : Nat) : Int)), .int (iI ((ap : Nat) : Int)), .int (iI ((wr : Nat) : Int)), .ref m2, .ref m3, .ref m4, .int (iI ((xc : Nat) : Int)), .ref m5, .int (iI ((un : Nat) : Int)), .ref m6, .ref m7, .int (iI ((bc : Nat) : Int)), .ref m8, .int (iI ((wc : Nat) : Int)), .ref m9, .ref m10, .ref m11, .ref m12, .int (iI ((rc : Nat) : Int)), .ref m13, .ref m14, .ref m15, .ref m16, .ref m17, .int (iI ((c2 : Nat) : Int)), .ref m18, .ref m19])), (m9, .inl ((g.2.1 0), 1760, .inl (pk tr))), (m10, .inl ((g.2.1 0), 11, .inl (nF ts))), (m12, .inl ((g.2.1 1), 10, .inr (.inl se))), (m13, .inl ((g.2.1 1), 61, .inr (.inl mo))), (m14, .inl ((g.2.1 0), 976, .inl (pe en))), (m15, .inl ((g.2.1 0), 61, .inl (nF ec))), (m16, .inl ((g.2.1 2), 41, .inl (bF w_8.2))), (m17, .inl ((g.2.1 0), 60, .inl (nF g2)))]) rfl rfl rfl rfl (ih_52 (r + 1) c2 g2 w_8.2 (by omega) (by omega) (fdI_go (by omega) hq2 (by first | exact fdT_no (by unfold lkR; first | (rw [show all = true by assumption]; rfl) | (rw [show all = false by assumption, Bool.false_or]; exact decide_eq_true (by assumption)) | (rw [show all = false by assumption, Bool.false_or]; exact decide_eq_false (by assumption))) | exact fdT_hit (by unfold lkR; first | (rw [show all = true by assumption]; rfl) | (rw [show all = false by assumption, Bool.false_or]; exact decide_eq_true (by assumption)) | (rw [show all = false by assumption, Bool.false_or]; exact decide_eq_false (by assumption))) hw_8 (by assumption) | exact fdT_miss (by unfold lkR; first | (rw [show all = true by assumption]; rfl) | (rw [show all = false by assumption, Bool.false_or]; exact decide_eq_true (by assumption)) | (rw [show all = false by assumption, Bool.false_or]; exact decide_eq_false (by assumption))) hw_8 (by assumption))) (by omega)))
                        · refine z_aload_n hC d_Mo_finds_89 rfl 3 rfl ?_
                          refine z_get hC hi_Mo 0 rfl rfl 25 (by decide) mw_760 (Or.inl rfl) rfl d_Mo_finds_90 ?_
                          refine z_aload_n hC d_Mo_finds_93 rfl 3 rfl ?_
                          refine z_get hC hi_Mo 0 rfl rfl 26 (by decide) mw_761 (Or.inl rfl) rfl d_Mo_finds_94 ?_
                          refine z_iload hC d_Mo_finds_97 0 rfl ?_
                          refine z_iastN (v := r) (w' := [(m0, .inr (10, [.int (iI ((0 : Nat) : Int)), .ref m1, .int (iI ((sn : Nat) : Int)), .int (iI ((ap : Nat) : Int)), .int (iI ((wr : Nat) : Int)), .ref m2, .ref m3, .ref m4, .int (iI ((xc : Nat) : Int)), .ref m5, .int (iI ((un : Nat) : Int)), .ref m6, .ref m7, .int (iI ((bc : Nat) : Int)), .ref m8, .int (iI ((wc : Nat) : Int)), .ref m9, .ref m10, .ref m11, .ref m12, .int (iI ((rc : Nat) : Int)), .ref m13, .ref m14, .ref m15, .ref m16, .ref m17, .int (iI ((c2 : Nat) : Int)), .ref m18, .ref m19])), (m9, .inl ((g.2.1 0), 1760, .inl (pk tr))), (m10, .inl ((g.2.1 0), 11, .inl (nF ts))), (m12, .inl ((g.2.1 1), 10, .inr (.inl se))), (m13, .inl ((g.2.1 1), 61, .inr (.inl mo))), (m14, .inl ((g.2.1 0), 976, .inl (pe en))), (m15, .inl ((g.2.1 0), 61, .inl (nF ec))), (m16, .inl ((g.2.1 2), 41, .inl (bF w_8.2))), (m17, .inl ((g.2.1 0), 60, .inl (nF (up g2 c2 r))))]) hC 8 0 rfl rfl c2 rfl (by omega) (by decide) rfl d_Mo_finds_99 ?_
                          refine z_aload_n hC d_Mo_finds_100 rfl 3 rfl ?_
                          refine z_dup hC d_Mo_finds_101 rfl ?_
                          refine z_get hC hi_Mo 0 rfl rfl 26 (by decide) mw_761 (Or.inl rfl) rfl d_Mo_finds_102 ?_
                          refine z_iconstN hC 1 d_Mo_finds_105 rfl ?_
                          refine z_iaddN hC d_Mo_finds_106 ?_
                          refine z_put (v := .int (iI ((c2 + 1 : Nat) : Int))) (ty := .int) (w' := [(m0, .inr (10, [.int (iI ((0 : Nat) : Int)), .ref m1, .int (iI ((sn : Nat) : Int)), .int (iI ((ap : Nat) : Int)), .int (iI ((wr : Nat) : Int)), .ref m2, .ref m3, .ref m4, .int (iI ((xc : Nat) : Int)), .ref m5, .int (iI ((un : Nat) : Int)), .ref m6, .ref m7, .int (iI ((bc : Nat) : Int)), .ref m8, .int (iI ((wc : Nat) : Int)), .ref m9, .ref m10, .ref m11, .ref m12, .int (iI ((rc : Nat) : Int)), .ref m13, .ref m14, .ref m15, .ref m16, .ref m17, .int (iI ((c2 + 1 : Nat) : Int)), .ref m18, .ref m19])), (m9, .inl ((g.2.1 0), 1760, .inl (pk tr))), (m10, .inl ((g.2.1 0), 11, .inl (nF ts))), (m12, .inl ((g.2.1 1), 10, .inr (.inl se))), (m13, .inl ((g.2.1 1), 61, .inr (.inl mo))), (m14, .inl ((g.2.1 0), 976, .inl (pe en))), (m15, .inl ((g.2.1 0), 61, .inl (nF ec))), (m16, .inl ((g.2.1 2), 41, .inl (bF w_8.2))), (m17, .inl ((g.2.1 0), 60, .inl (nF (up g2 c2 r))))]) hC hi_Mo ty_Mo ok_Mo nm_Mo 0 rfl rfl 26 (by decide) mw_761 rfl rfl rfl rfl rfl (Nat.le_of_ble_eq_true rfl) rfl d_Mo_finds_107 ?_
                          refine z_iincN (lv' := [(5, .int (iI ((r + 1 : Nat) : Int))), (4, .int (iI ((k : Nat) : Int))), (3, .int (iI ((e : Nat) : Int))), (0, .ref m0), (1, .int (iI ((q : Nat) : Int))), (2, .int (iI (bI all)))]) hC 1 d_Mo_finds_110 rfl 0 rfl (by decide) rfl ?_
                          refine z_goto (tgt := 52) hC d_Mo_finds_113 rfl ?_
                          exact Zloc [0, 1, 2, 3, 4, 5] rfl (Z.eq (w' := [(m0, .inr (10, [.int (iI ((0 : Nat) : Int)), .ref m1, .int (iI ((sn : Nat) : Int)), .int (iI ((ap : Nat) : Int)), .int (iI ((wr : Nat) : Int)), .ref m2, .ref m3, .ref m4, .int (iI ((xc : Nat) : Int)), .ref m5, .int (iI ((un : Nat) : Int)), .ref m6, .ref m7, .int (iI ((bc : Nat) : Int)), .ref m8, .int (iI ((wc : Nat) : Int)), .ref m9, .ref m10, .ref m11, .ref m12, .int (iI ((rc : Nat) : Int)), .ref m13, .ref m14, .ref m15, .ref m16, .ref m17, .int (iI (((c2 + 1) : Nat) : Int)), .ref m18, .ref m19])), (m9, .inl ((g.2.1 0), 1760, .inl (pk tr))), (m10, .inl ((g.2.1 0), 11, .inl (nF ts))), (m12, .inl ((g.2.1 1), 10, .inr (.inl se))), (m13, .inl ((g.2.1 1), 61, .inr (.inl mo))), (m14, .inl ((g.2.1 0), 976, .inl (pe en))), (m15, .inl ((g.2.1 0), 61, .inl (nF ec))), (m16, .inl ((g.2.1 2), 41, .inl (bF w_8.2))), (m17, .inl ((g.2.1 0), 60, .inl (nF (up g2 c2 r))))]) rfl rfl rfl rfl (ih_52 (r + 1) (c2 + 1) (up g2 c2 r) w_8.2 (by omega) (by omega) (fdI_go (by omega) hq2 (by first | exact fdT_no (by unfold lkR; first | (rw [show all = true by assumption]; rfl) | (rw [show all = false by assumption, Bool.false_or]; exact decide_eq_true (by assumption)) | (rw [show all = false by assumption, Bool.false_or]; exact decide_eq_false (by assumption))) | exact fdT_hit (by unfold lkR; first | (rw [show all = true by assumption]; rfl) | (rw [show all = false by assumption, Bool.false_or]; exact decide_eq_true (by assumption)) | (rw [show all = false by assumption, Bool.false_or]; exact decide_eq_false (by assumption))) hw_8 (by assumption) | exact fdT_miss (by unfold lkR; first | (rw [show all = true by assumption]; rfl) | (rw [show all = false by assumption, Bool.false_or]; exact decide_eq_true (by assumption)) | (rw [show all = false by assumption, Bool.false_or]; exact decide_eq_false (by assumption))) hw_8 (by assumption))) (by omega)))
              exact Zloc [0, 1, 2, 3, 4, 5] rfl (Z.eq (w' := [(m0, .inr (10, [.int (iI ((0 : Nat) : Int)), .ref m1, .int (iI ((sn : Nat) : Int)), .int (iI ((ap : Nat) : Int)), .int (iI ((wr : Nat) : Int)), .ref m2, .ref m3, .ref m4, .int (iI ((xc : Nat) : Int)), .ref m5, .int (iI ((un : Nat) : Int)), .ref m6, .ref m7, .int (iI ((bc : Nat) : Int)), .ref m8, .int (iI ((wc : Nat) : Int)), .ref m9, .ref m10, .ref m11, .ref m12, .int (iI ((rc : Nat) : Int)), .ref m13, .ref m14, .ref m15, .ref m16, .ref m17, .int (iI ((c : Nat) : Int)), .ref m18, .ref m19])), (m9, .inl ((g.2.1 0), 1760, .inl (pk tr))), (m10, .inl ((g.2.1 0), 11, .inl (nF ts))), (m12, .inl ((g.2.1 1), 10, .inr (.inl se))), (m13, .inl ((g.2.1 1), 61, .inr (.inl mo))), (m14, .inl ((g.2.1 0), 976, .inl (pe en))), (m15, .inl ((g.2.1 0), 61, .inl (nF ec))), (m16, .inl ((g.2.1 2), 41, .inl (bF b1))), (m17, .inl ((g.2.1 0), 60, .inl (nF g1)))]) rfl rfl rfl rfl (L_52 _ k c g1 b1 (by omega) (by omega) rfl (Nat.lt_succ_self _)))
            · refine z_aload_n hC d_Mo_finds_23 rfl 2 rfl ?_
              refine z_get hC hi_Mo 0 rfl rfl 21 (by decide) mw_756 (Or.inl rfl) rfl d_Mo_finds_24 ?_
              refine z_iload hC d_Mo_finds_27 0 rfl ?_
              refine z_iconstN hC 1 d_Mo_finds_29 rfl ?_
              refine z_isubN hC d_Mo_finds_30 (by omega) ?_
              refine z_lald hC 4 1 rfl rfl (k - 1) rfl (by omega) (by decide) d_Mo_finds_31 ?_
              refine z_aload_n hC d_Mo_finds_32 rfl 2 rfl ?_
              refine z_get hC hi_Mo 0 rfl rfl 21 (by decide) mw_756 (Or.inl rfl) rfl d_Mo_finds_33 ?_
              refine z_iload_n hC d_Mo_finds_36 rfl 1 rfl ?_
              refine z_lald hC 4 1 rfl rfl e rfl (by omega) (by decide) d_Mo_finds_37 ?_
              refine z_lc_ne (tgt := 48) hC d_Mo_finds_38 d_Mo_finds_39 rfl (fun c_10 => ?_) (fun c_10 => ?_)
              · refine z_iload hC d_Mo_finds_48 0 rfl ?_
                refine z_istore (lv' := [(5, .int (iI ((k : Nat) : Int))), (4, .int (iI ((k : Nat) : Int))), (3, .int (iI ((e : Nat) : Int))), (0, .ref m0), (1, .int (iI ((q : Nat) : Int))), (2, .int (iI (bI all)))]) hC d_Mo_finds_50 (by decide) rfl ?_
                have L_52 : ∀ (fu : Nat) (r c2 : Nat) (g2 : Nat → Nat) (b2 : Nat → Bool), (k ≤ r ∧ r ≤ e + 1) → (c2 + (e + 1 - r) + (k - 1) ≤ rc) → (fdI (fdT (lkR all (se q) mo) (smR ec en) (fun z9 => tr (40 * q + z9)) (ts q)) (e + 1 - r) r (c2, g2, b2) = fdI (fdT (lkR all (se q) mo) (smR ec en) (fun z9 => tr (40 * q + z9)) (ts q)) (e + 1 - k) k (c, g1, b1)) → e + 1 - r < fu → Z x (0, 0) [(m0, .inr (10, [.int (iI ((0 : Nat) : Int)), .ref m1, .int (iI ((sn : Nat) : Int)), .int (iI ((ap : Nat) : Int)), .int (iI ((wr : Nat) : Int)), .ref m2, .ref m3, .ref m4, .int (iI ((xc : Nat) : Int)), .ref m5, .int (iI ((un : Nat) : Int)), .ref m6, .ref m7, .int (iI ((bc : Nat) : Int)), .ref m8, .int (iI ((wc : Nat) : Int)), .ref m9, .ref m10, .ref m11, .ref m12, .int (iI ((rc : Nat) : Int)), .ref m13, .ref m14, .ref m15, .ref m16, .ref m17, .int (iI ((c2 : Nat) : Int)), .ref m18, .ref m19])), (m9, .inl ((g.2.1 0), 1760, .inl (pk tr))), (m10, .inl ((g.2.1 0), 11, .inl (nF ts))), (m12, .inl ((g.2.1 1), 10, .inr (.inl se))), (m13, .inl ((g.2.1 1), 61, .inr (.inl mo))), (m14, .inl ((g.2.1 0), 976, .inl (pe en))), (m15, .inl ((g.2.1 0), 61, .inl (nF ec))), (m16, .inl ((g.2.1 2), 41, .inl (bF b2))), (m17, .inl ((g.2.1 0), 60, .inl (nF g2)))] 52 [(5, .int (iI ((r : Nat) : Int))), (4, .int (iI ((k : Nat) : Int))), (3, .int (iI ((e : Nat) : Int))), (0, .ref m0), (1, .int (iI ((q : Nat) : Int))), (2, .int (iI (bI all)))] [] := by
                  intro fu
                  induction fu with
                  | zero => intro r c2 g2 b2 hr hcr hq2 hmu; exact absurd hmu (Nat.not_lt_zero _)
                  | succ fu ih_52 =>
                    intro r c2 g2 b2 hr hcr hq2 hmu
                    refine z_iload hC d_Mo_finds_52 0 rfl ?_
                    refine z_iload_n hC d_Mo_finds_54 rfl 2 rfl ?_
                    refine z_icmp_gt (tgt := 116) hC ((r : Nat) : Int) ((e : Nat) : Int) d_Mo_finds_55 rfl (iI_t (by omega)) (iI_t (by omega)) (fun c_11 => ?_) (fun c_11 => ?_)
                    · refine z_iload hC d_Mo_finds_116 1 rfl ?_
                      refine z_iconstN hC 1 d_Mo_finds_118 rfl ?_
                      refine z_isubN hC d_Mo_finds_119 (by omega) ?_
                      refine z_istore_n (lv' := [(3, .int (iI ((k - 1 : Nat) : Int))), (5, .int (iI ((r : Nat) : Int))), (4, .int (iI ((k : Nat) : Int))), (0, .ref m0), (1, .int (iI ((q : Nat) : Int))), (2, .int (iI (bI all)))]) hC d_Mo_finds_120 rfl (by decide) rfl ?_
                      refine z_goto (tgt := 10) hC d_Mo_finds_121 rfl ?_
                      exact Zloc [0, 3, 4, 5] rfl (Z.eq (w' := [(m0, .inr (10, [.int (iI ((0 : Nat) : Int)), .ref m1, .int (iI ((sn : Nat) : Int)), .int (iI ((ap : Nat) : Int)), .int (iI ((wr : Nat) : Int)), .ref m2, .ref m3, .ref m4, .int (iI ((xc : Nat) : Int)), .ref m5, .int (iI ((un : Nat) : Int)), .ref m6, .ref m7, .int (iI ((bc : Nat) : Int)), .ref m8, .int (iI ((wc : Nat) : Int)), .ref m9, .ref m10, .ref m11, .ref m12, .int (iI ((rc : Nat) : Int)), .ref m13, .ref m14, .ref m15, .ref m16, .ref m17, .int (iI ((c2 : Nat) : Int)), .ref m18, .ref m19])), (m9, .inl ((g.2.1 0), 1760, .inl (pk tr))), (m10, .inl ((g.2.1 0), 11, .inl (nF ts))), (m12, .inl ((g.2.1 1), 10, .inr (.inl se))), (m13, .inl ((g.2.1 1), 61, .inr (.inl mo))), (m14, .inl ((g.2.1 0), 976, .inl (pe en))), (m15, .inl ((g.2.1 0), 61, .inl (nF ec))), (m16, .inl ((g.2.1 2), 41, .inl (bF b2))), (m17, .inl ((g.2.1 0), 60, .inl (nF g2)))]) rfl rfl rfl rfl (ih_10 (k - 1) (f - 1) c2 g2 b2 (by omega) (by omega) (by omega) (fdO_go (by omega) (by omega) hq (hfr.symm.trans (by first | exact frm_stop (Or.inl (by omega)) | exact frm_stop (Or.inr (by assumption)) | rfl)).symm (by omega) hq2) (by omega)))
                    · refine z_iload_n hC d_Mo_finds_58 rfl 5 rfl ?_
                      refine z_ifneB (tgt := 79) hC d_Mo_finds_59 rfl (fun c_12 => ?_) (fun c_12 => ?_)
                      · refine z_aload_n hC d_Mo_finds_79 rfl 3 rfl ?_
                        refine z_iload hC d_Mo_finds_80 0 rfl ?_
                        refine z_iload_n hC d_Mo_finds_82 rfl 4 rfl ?_
                        obtain ⟨w_13, hw_13⟩ : ∃ z : Nat × (Nat → Bool), z = mtR (smR ec en r) (fun z9 => tr (40 * q + z9)) (ts q) (0, b2) := ⟨_, rfl⟩
                        refine z_callV (q0 := 0) (ci := 10) (w' := [(m0, .inr (10, [.int (iI ((0 : Nat) : Int)), .ref m1, .int (iI ((sn : Nat) : Int)), .int (iI ((ap : Nat) : Int)), .int (iI ((wr : Nat) : Int)), .ref m2, .ref m3, .ref m4, .int (iI ((xc : Nat) : Int)), .ref m5, .int (iI ((un : Nat) : Int)), .ref m6, .ref m7, .int (iI ((bc : Nat) : Int)), .ref m8, .int (iI ((wc : Nat) : Int)), .ref m9, .ref m10, .ref m11, .ref m12, .int (iI ((rc : Nat) : Int)), .ref m13, .ref m14, .ref m15, .ref m16, .ref m17, .int (iI ((c2 : Nat) : Int)), .ref m18, .ref m19])), (m9, .inl ((g.2.1 0), 1760, .inl (pk tr))), (m10, .inl ((g.2.1 0), 11, .inl (nF ts))), (m12, .inl ((g.2.1 1), 10, .inr (.inl se))), (m13, .inl ((g.2.1 1), 61, .inr (.inl mo))), (m14, .inl ((g.2.1 0), 976, .inl (pe en))), (m15, .inl ((g.2.1 0), 61, .inl (nF ec))), (m16, .inl ((g.2.1 2), 41, .inl (bF w_13.2))), (m17, .inl ((g.2.1 0), 60, .inl (nF g2)))]) (st1 := [.int (iI (bI (w_13.2 0)))]) hC (k_Mo_meetsAll l g m0 m1 m2 m3 m4 m5 m6 m7 m8 m9 m10 m11 m12 m13 m14 m15 m16 m17 m18 m19 sn ap wr xc un bc wc rc c2 tr ts en ec b2 r q (by omega) hq10 hts hwf hec hen w_13 hw_13) mw_970 zv_Mo_meetsAll rfl rfl ⟨Nat.le_of_ble_eq_true rfl, Nat.le_of_ble_eq_true rfl⟩ [0, 1, 2, 5, 6, 7] rfl rfl rfl rfl rfl rfl rfl rfl (Nat.le_of_ble_eq_true rfl) d_Mo_finds_83 rfl ⟨Nat.zero_le _, Nat.zero_le _⟩ rfl ?_
                        refine z_ifeqB (tgt := 110) hC d_Mo_finds_86 rfl (fun c_14 => ?_) (fun c_14 => ?_)
                        · refine z_iincN (lv' := [(5, .int (iI ((r + 1 : Nat) : Int))), (4, .int (iI ((k : Nat) : Int))), (3, .int (iI ((e : Nat) : Int))), (0, .ref m0), (1, .int (iI ((q : Nat) : Int))), (2, .int (iI (bI all)))]) hC 1 d_Mo_finds_110 rfl 0 rfl (by decide) rfl ?_
                          refine z_goto (tgt := 52) hC d_Mo_finds_113 rfl ?_
                          exact Zloc [0, 1, 2, 3, 4, 5] rfl (Z.eq (w' := [(m0, .inr (10, [.int (iI ((0 : Nat) : Int)), .ref m1, .int (iI ((sn : Nat) : Int)), .int (iI ((ap : Nat) : Int)), .int (iI ((wr : Nat) : Int)), .ref m2, .ref m3, .ref m4, .int (iI ((xc : Nat) : Int)), .ref m5, .int (iI ((un : Nat) : Int)), .ref m6, .ref m7, .int (iI ((bc : Nat) : Int)), .ref m8, .int (iI ((wc : Nat) : Int)), .ref m9, .ref m10, .ref m11, .ref m12, .int (iI ((rc : Nat) : Int)), .ref m13, .ref m14, .ref m15, .ref m16, .ref m17, .int (iI ((c2 : Nat) : Int)), .ref m18, .ref m19])), (m9, .inl ((g.2.1 0), 1760, .inl (pk tr))), (m10, .inl ((g.2.1 0), 11, .inl (nF ts))), (m12, .inl ((g.2.1 1), 10, .inr (.inl se))), (m13, .inl ((g.2.1 1), 61, .inr (.inl mo))), (m14, .inl ((g.2.1 0), 976, .inl (pe en))), (m15, .inl ((g.2.1 0), 61, .inl (nF ec))), (m16, .inl ((g.2.1 2), 41, .inl (bF w_13.2))), (m17, .inl ((g.2.1 0), 60, .inl (nF g2)))]) rfl rfl rfl rfl (ih_52 (r + 1) c2 g2 w_13.2 (by omega) (by omega) (fdI_go (by omega) hq2 (by first | exact fdT_no (by unfold lkR; first | (rw [show all = true by assumption]; rfl) | (rw [show all = false by assumption, Bool.false_or]; exact decide_eq_true (by assumption)) | (rw [show all = false by assumption, Bool.false_or]; exact decide_eq_false (by assumption))) | exact fdT_hit (by unfold lkR; first | (rw [show all = true by assumption]; rfl) | (rw [show all = false by assumption, Bool.false_or]; exact decide_eq_true (by assumption)) | (rw [show all = false by assumption, Bool.false_or]; exact decide_eq_false (by assumption))) hw_13 (by assumption) | exact fdT_miss (by unfold lkR; first | (rw [show all = true by assumption]; rfl) | (rw [show all = false by assumption, Bool.false_or]; exact decide_eq_true (by assumption)) | (rw [show all = false by assumption, Bool.false_or]; exact decide_eq_false (by assumption))) hw_13 (by assumption))) (by omega)))
                        · refine z_aload_n hC d_Mo_finds_89 rfl 3 rfl ?_
                          refine z_get hC hi_Mo 0 rfl rfl 25 (by decide) mw_760 (Or.inl rfl) rfl d_Mo_finds_90 ?_
                          refine z_aload_n hC d_Mo_finds_93 rfl 3 rfl ?_
                          refine z_get hC hi_Mo 0 rfl rfl 26 (by decide) mw_761 (Or.inl rfl) rfl d_Mo_finds_94 ?_
                          refine z_iload hC d_Mo_finds_97 0 rfl ?_
                          refine z_iastN (v := r) (w' := [(m0, .inr (10, [.int (iI ((0 : Nat) : Int)), .ref m1, .int (iI ((sn : Nat) : Int)), .int (iI ((ap : Nat) : Int)), .int (iI ((wr : Nat) : Int)), .ref m2, .ref m3, .ref m4, .int (iI ((xc : Nat) : Int)), .ref m5, .int (iI ((un : Nat) : Int)), .ref m6, .ref m7, .int (iI ((bc : Nat) : Int)), .ref m8, .int (iI ((wc : Nat) : Int)), .ref m9, .ref m10, .ref m11, .ref m12, .int (iI ((rc : Nat) : Int)), .ref m13, .ref m14, .ref m15, .ref m16, .ref m17, .int (iI ((c2 : Nat) : Int)), .ref m18, .ref m19])), (m9, .inl ((g.2.1 0), 1760, .inl (pk tr))), (m10, .inl ((g.2.1 0), 11, .inl (nF ts))), (m12, .inl ((g.2.1 1), 10, .inr (.inl se))), (m13, .inl ((g.2.1 1), 61, .inr (.inl mo))), (m14, .inl ((g.2.1 0), 976, .inl (pe en))), (m15, .inl ((g.2.1 0), 61, .inl (nF ec))), (m16, .inl ((g.2.1 2), 41, .inl (bF w_13.2))), (m17, .inl ((g.2.1 0), 60, .inl (nF (up g2 c2 r))))]) hC 8 0 rfl rfl c2 rfl (by omega) (by decide) rfl d_Mo_finds_99 ?_
                          refine z_aload_n hC d_Mo_finds_100 rfl 3 rfl ?_
                          refine z_dup hC d_Mo_finds_101 rfl ?_
                          refine z_get hC hi_Mo 0 rfl rfl 26 (by decide) mw_761 (Or.inl rfl) rfl d_Mo_finds_102 ?_
                          refine z_iconstN hC 1 d_Mo_finds_105 rfl ?_
                          refine z_iaddN hC d_Mo_finds_106 ?_
                          refine z_put (v := .int (iI ((c2 + 1 : Nat) : Int))) (ty := .int) (w' := [(m0, .inr (10, [.int (iI ((0 : Nat) : Int)), .ref m1, .int (iI ((sn : Nat) : Int)), .int (iI ((ap : Nat) : Int)), .int (iI ((wr : Nat) : Int)), .ref m2, .ref m3, .ref m4, .int (iI ((xc : Nat) : Int)), .ref m5, .int (iI ((un : Nat) : Int)), .ref m6, .ref m7, .int (iI ((bc : Nat) : Int)), .ref m8, .int (iI ((wc : Nat) : Int)), .ref m9, .ref m10, .ref m11, .ref m12, .int (iI ((rc : Nat) : Int)), .ref m13, .ref m14, .ref m15, .ref m16, .ref m17, .int (iI ((c2 + 1 : Nat) : Int)), .ref m18, .ref m19])), (m9, .inl ((g.2.1 0), 1760, .inl (pk tr))), (m10, .inl ((g.2.1 0), 11, .inl (nF ts))), (m12, .inl ((g.2.1 1), 10, .inr (.inl se))), (m13, .inl ((g.2.1 1), 61, .inr (.inl mo))), (m14, .inl ((g.2.1 0), 976, .inl (pe en))), (m15, .inl ((g.2.1 0), 61, .inl (nF ec))), (m16, .inl ((g.2.1 2), 41, .inl (bF w_13.2))), (m17, .inl ((g.2.1 0), 60, .inl (nF (up g2 c2 r))))]) hC hi_Mo ty_Mo ok_Mo nm_Mo 0 rfl rfl 26 (by decide) mw_761 rfl rfl rfl rfl rfl (Nat.le_of_ble_eq_true rfl) rfl d_Mo_finds_107 ?_
                          refine z_iincN (lv' := [(5, .int (iI ((r + 1 : Nat) : Int))), (4, .int (iI ((k : Nat) : Int))), (3, .int (iI ((e : Nat) : Int))), (0, .ref m0), (1, .int (iI ((q : Nat) : Int))), (2, .int (iI (bI all)))]) hC 1 d_Mo_finds_110 rfl 0 rfl (by decide) rfl ?_
                          refine z_goto (tgt := 52) hC d_Mo_finds_113 rfl ?_
                          exact Zloc [0, 1, 2, 3, 4, 5] rfl (Z.eq (w' := [(m0, .inr (10, [.int (iI ((0 : Nat) : Int)), .ref m1, .int (iI ((sn : Nat) : Int)), .int (iI ((ap : Nat) : Int)), .int (iI ((wr : Nat) : Int)), .ref m2, .ref m3, .ref m4, .int (iI ((xc : Nat) : Int)), .ref m5, .int (iI ((un : Nat) : Int)), .ref m6, .ref m7, .int (iI ((bc : Nat) : Int)), .ref m8, .int (iI ((wc : Nat) : Int)), .ref m9, .ref m10, .ref m11, .ref m12, .int (iI ((rc : Nat) : Int)), .ref m13, .ref m14, .ref m15, .ref m16, .ref m17, .int (iI (((c2 + 1) : Nat) : Int)), .ref m18, .ref m19])), (m9, .inl ((g.2.1 0), 1760, .inl (pk tr))), (m10, .inl ((g.2.1 0), 11, .inl (nF ts))), (m12, .inl ((g.2.1 1), 10, .inr (.inl se))), (m13, .inl ((g.2.1 1), 61, .inr (.inl mo))), (m14, .inl ((g.2.1 0), 976, .inl (pe en))), (m15, .inl ((g.2.1 0), 61, .inl (nF ec))), (m16, .inl ((g.2.1 2), 41, .inl (bF w_13.2))), (m17, .inl ((g.2.1 0), 60, .inl (nF (up g2 c2 r))))]) rfl rfl rfl rfl (ih_52 (r + 1) (c2 + 1) (up g2 c2 r) w_13.2 (by omega) (by omega) (fdI_go (by omega) hq2 (by first | exact fdT_no (by unfold lkR; first | (rw [show all = true by assumption]; rfl) | (rw [show all = false by assumption, Bool.false_or]; exact decide_eq_true (by assumption)) | (rw [show all = false by assumption, Bool.false_or]; exact decide_eq_false (by assumption))) | exact fdT_hit (by unfold lkR; first | (rw [show all = true by assumption]; rfl) | (rw [show all = false by assumption, Bool.false_or]; exact decide_eq_true (by assumption)) | (rw [show all = false by assumption, Bool.false_or]; exact decide_eq_false (by assumption))) hw_13 (by assumption) | exact fdT_miss (by unfold lkR; first | (rw [show all = true by assumption]; rfl) | (rw [show all = false by assumption, Bool.false_or]; exact decide_eq_true (by assumption)) | (rw [show all = false by assumption, Bool.false_or]; exact decide_eq_false (by assumption))) hw_13 (by assumption))) (by omega)))
                      · refine z_aload_n hC d_Mo_finds_62 rfl 3 rfl ?_
                        refine z_get hC hi_Mo 0 rfl rfl 21 (by decide) mw_756 (Or.inl rfl) rfl d_Mo_finds_63 ?_
                        refine z_iload hC d_Mo_finds_66 0 rfl ?_
                        refine z_lald hC 4 1 rfl rfl r rfl (by omega) (by decide) d_Mo_finds_68 ?_
                        refine z_aload_n hC d_Mo_finds_69 rfl 3 rfl ?_
                        refine z_get hC hi_Mo 0 rfl rfl 19 (by decide) mw_754 (Or.inl rfl) rfl d_Mo_finds_70 ?_
                        refine z_iload_n hC d_Mo_finds_73 rfl 4 rfl ?_
                        refine z_lald hC 3 1 rfl rfl q rfl (by omega) (by decide) d_Mo_finds_74 ?_
                        refine z_lc_le (tgt := 110) hC d_Mo_finds_75 d_Mo_finds_76 rfl (fun c_15 => ?_) (fun c_15 => ?_)
                        · refine z_iincN (lv' := [(5, .int (iI ((r + 1 : Nat) : Int))), (4, .int (iI ((k : Nat) : Int))), (3, .int (iI ((e : Nat) : Int))), (0, .ref m0), (1, .int (iI ((q : Nat) : Int))), (2, .int (iI (bI all)))]) hC 1 d_Mo_finds_110 rfl 0 rfl (by decide) rfl ?_
                          refine z_goto (tgt := 52) hC d_Mo_finds_113 rfl ?_
                          exact Zloc [0, 1, 2, 3, 4, 5] rfl (Z.eq (w' := [(m0, .inr (10, [.int (iI ((0 : Nat) : Int)), .ref m1, .int (iI ((sn : Nat) : Int)), .int (iI ((ap : Nat) : Int)), .int (iI ((wr : Nat) : Int)), .ref m2, .ref m3, .ref m4, .int (iI ((xc : Nat) : Int)), .ref m5, .int (iI ((un : Nat) : Int)), .ref m6, .ref m7, .int (iI ((bc : Nat) : Int)), .ref m8, .int (iI ((wc : Nat) : Int)), .ref m9, .ref m10, .ref m11, .ref m12, .int (iI ((rc : Nat) : Int)), .ref m13, .ref m14, .ref m15, .ref m16, .ref m17, .int (iI ((c2 : Nat) : Int)), .ref m18, .ref m19])), (m9, .inl ((g.2.1 0), 1760, .inl (pk tr))), (m10, .inl ((g.2.1 0), 11, .inl (nF ts))), (m12, .inl ((g.2.1 1), 10, .inr (.inl se))), (m13, .inl ((g.2.1 1), 61, .inr (.inl mo))), (m14, .inl ((g.2.1 0), 976, .inl (pe en))), (m15, .inl ((g.2.1 0), 61, .inl (nF ec))), (m16, .inl ((g.2.1 2), 41, .inl (bF b2))), (m17, .inl ((g.2.1 0), 60, .inl (nF g2)))]) rfl rfl rfl rfl (ih_52 (r + 1) c2 g2 b2 (by omega) (by omega) (fdI_go (by omega) hq2 (by first | exact fdT_no (by unfold lkR; first | (rw [show all = true by assumption]; rfl) | (rw [show all = false by assumption, Bool.false_or]; exact decide_eq_true (by assumption)) | (rw [show all = false by assumption, Bool.false_or]; exact decide_eq_false (by assumption))) | exact fdT_hit (by unfold lkR; first | (rw [show all = true by assumption]; rfl) | (rw [show all = false by assumption, Bool.false_or]; exact decide_eq_true (by assumption)) | (rw [show all = false by assumption, Bool.false_or]; exact decide_eq_false (by assumption))) rfl (by assumption) | exact fdT_miss (by unfold lkR; first | (rw [show all = true by assumption]; rfl) | (rw [show all = false by assumption, Bool.false_or]; exact decide_eq_true (by assumption)) | (rw [show all = false by assumption, Bool.false_or]; exact decide_eq_false (by assumption))) rfl (by assumption))) (by omega)))
                        · refine z_aload_n hC d_Mo_finds_79 rfl 3 rfl ?_
                          refine z_iload hC d_Mo_finds_80 0 rfl ?_
                          refine z_iload_n hC d_Mo_finds_82 rfl 4 rfl ?_
                          obtain ⟨w_16, hw_16⟩ : ∃ z : Nat × (Nat → Bool), z = mtR (smR ec en r) (fun z9 => tr (40 * q + z9)) (ts q) (0, b2) := ⟨_, rfl⟩
                          refine z_callV (q0 := 0) (ci := 10) (w' := [(m0, .inr (10, [.int (iI ((0 : Nat) : Int)), .ref m1, .int (iI ((sn : Nat) : Int)), .int (iI ((ap : Nat) : Int)), .int (iI ((wr : Nat) : Int)), .ref m2, .ref m3, .ref m4, .int (iI ((xc : Nat) : Int)), .ref m5, .int (iI ((un : Nat) : Int)), .ref m6, .ref m7, .int (iI ((bc : Nat) : Int)), .ref m8, .int (iI ((wc : Nat) : Int)), .ref m9, .ref m10, .ref m11, .ref m12, .int (iI ((rc : Nat) : Int)), .ref m13, .ref m14, .ref m15, .ref m16, .ref m17, .int (iI ((c2 : Nat) : Int)), .ref m18, .ref m19])), (m9, .inl ((g.2.1 0), 1760, .inl (pk tr))), (m10, .inl ((g.2.1 0), 11, .inl (nF ts))), (m12, .inl ((g.2.1 1), 10, .inr (.inl se))), (m13, .inl ((g.2.1 1), 61, .inr (.inl mo))), (m14, .inl ((g.2.1 0), 976, .inl (pe en))), (m15, .inl ((g.2.1 0), 61, .inl (nF ec))), (m16, .inl ((g.2.1 2), 41, .inl (bF w_16.2))), (m17, .inl ((g.2.1 0), 60, .inl (nF g2)))]) (st1 := [.int (iI (bI (w_16.2 0)))]) hC (k_Mo_meetsAll l g m0 m1 m2 m3 m4 m5 m6 m7 m8 m9 m10 m11 m12 m13 m14 m15 m16 m17 m18 m19 sn ap wr xc un bc wc rc c2 tr ts en ec b2 r q (by omega) hq10 hts hwf hec hen w_16 hw_16) mw_970 zv_Mo_meetsAll rfl rfl ⟨Nat.le_of_ble_eq_true rfl, Nat.le_of_ble_eq_true rfl⟩ [0, 1, 2, 5, 6, 7] rfl rfl rfl rfl rfl rfl rfl rfl (Nat.le_of_ble_eq_true rfl) d_Mo_finds_83 rfl ⟨Nat.zero_le _, Nat.zero_le _⟩ rfl ?_
                          refine z_ifeqB (tgt := 110) hC d_Mo_finds_86 rfl (fun c_17 => ?_) (fun c_17 => ?_)
                          · refine z_iincN (lv' := [(5, .int (iI ((r + 1 : Nat) : Int))), (4, .int (iI ((k : Nat) : Int))), (3, .int (iI ((e : Nat) : Int))), (0, .ref m0), (1, .int (iI ((q : Nat) : Int))), (2, .int (iI (bI all)))]) hC 1 d_Mo_finds_110 rfl 0 rfl (by decide) rfl ?_
                            refine z_goto (tgt := 52) hC d_Mo_finds_113 rfl ?_
                            exact Zloc [0, 1, 2, 3, 4, 5] rfl (Z.eq (w' := [(m0, .inr (10, [.int (iI ((0 : Nat) : Int)), .ref m1, .int (iI ((sn : Nat) : Int)), .int (iI ((ap : Nat) : Int)), .int (iI ((wr : Nat) : Int)), .ref m2, .ref m3, .ref m4, .int (iI ((xc : Nat) : Int)), .ref m5, .int (iI ((un : Nat) : Int)), .ref m6, .ref m7, .int (iI ((bc : Nat) : Int)), .ref m8, .int (iI ((wc : Nat) : Int)), .ref m9, .ref m10, .ref m11, .ref m12, .int (iI ((rc : Nat) : Int)), .ref m13, .ref m14, .ref m15, .ref m16, .ref m17, .int (iI ((c2 : Nat) : Int)), .ref m18, .ref m19])), (m9, .inl ((g.2.1 0), 1760, .inl (pk tr))), (m10, .inl ((g.2.1 0), 11, .inl (nF ts))), (m12, .inl ((g.2.1 1), 10, .inr (.inl se))), (m13, .inl ((g.2.1 1), 61, .inr (.inl mo))), (m14, .inl ((g.2.1 0), 976, .inl (pe en))), (m15, .inl ((g.2.1 0), 61, .inl (nF ec))), (m16, .inl ((g.2.1 2), 41, .inl (bF w_16.2))), (m17, .inl ((g.2.1 0), 60, .inl (nF g2)))]) rfl rfl rfl rfl (ih_52 (r + 1) c2 g2 w_16.2 (by omega) (by omega) (fdI_go (by omega) hq2 (by first | exact fdT_no (by unfold lkR; first | (rw [show all = true by assumption]; rfl) | (rw [show all = false by assumption, Bool.false_or]; exact decide_eq_true (by assumption)) | (rw [show all = false by assumption, Bool.false_or]; exact decide_eq_false (by assumption))) | exact fdT_hit (by unfold lkR; first | (rw [show all = true by assumption]; rfl) | (rw [show all = false by assumption, Bool.false_or]; exact decide_eq_true (by assumption)) | (rw [show all = false by assumption, Bool.false_or]; exact decide_eq_false (by assumption))) hw_16 (by assumption) | exact fdT_miss (by unfold lkR; first | (rw [show all = true by assumption]; rfl) | (rw [show all = false by assumption, Bool.false_or]; exact decide_eq_true (by assumption)) | (rw [show all = false by assumption, Bool.false_or]; exact decide_eq_false (by assumption))) hw_16 (by assumption))) (by omega)))
                          · refine z_aload_n hC d_Mo_finds_89 rfl 3 rfl ?_
                            refine z_get hC hi_Mo 0 rfl rfl 25 (by decide) mw_760 (Or.inl rfl) rfl d_Mo_finds_90 ?_
                            refine z_aload_n hC d_Mo_finds_93 rfl 3 rfl ?_
                            refine z_get hC hi_Mo 0 rfl rfl 26 (by decide) mw_761 (Or.inl rfl) rfl d_Mo_finds_94 ?_
                            refine z_iload hC d_Mo_finds_97 0 rfl ?_
                            refine z_iastN (v := r) (w' := [(m0, .inr (10, [.int (iI ((0 : Nat) : Int)), .ref m1, .int (iI ((sn : Nat) : Int)), .int (iI ((ap : Nat) : Int)), .int (iI ((wr : Nat) : Int)), .ref m2, .ref m3, .ref m4, .int (iI ((xc : Nat) : Int)), .ref m5, .int (iI ((un : Nat) : Int)), .ref m6, .ref m7, .int (iI ((bc : Nat) : Int)), .ref m8, .int (iI ((wc : Nat) : Int)), .ref m9, .ref m10, .ref m11, .ref m12, .int (iI ((rc : Nat) : Int)), .ref m13, .ref m14, .ref m15, .ref m16, .ref m17, .int (iI ((c2 : Nat) : Int)), .ref m18, .ref m19])), (m9, .inl ((g.2.1 0), 1760, .inl (pk tr))), (m10, .inl ((g.2.1 0), 11, .inl (nF ts))), (m12, .inl ((g.2.1 1), 10, .inr (.inl se))), (m13, .inl ((g.2.1 1), 61, .inr (.inl mo))), (m14, .inl ((g.2.1 0), 976, .inl (pe en))), (m15, .inl ((g.2.1 0), 61, .inl (nF ec))), (m16, .inl ((g.2.1 2), 41, .inl (bF w_16.2))), (m17, .inl ((g.2.1 0), 60, .inl (nF (up g2 c2 r))))]) hC 8 0 rfl rfl c2 rfl (by omega) (by decide) rfl d_Mo_finds_99 ?_
                            refine z_aload_n hC d_Mo_finds_100 rfl 3 rfl ?_
                            refine z_dup hC d_Mo_finds_101 rfl ?_
                            refine z_get hC hi_Mo 0 rfl rfl 26 (by decide) mw_761 (Or.inl rfl) rfl d_Mo_finds_102 ?_
                            refine z_iconstN hC 1 d_Mo_finds_105 rfl ?_
                            refine z_iaddN hC d_Mo_finds_106 ?_
                            refine z_put (v := .int (iI ((c2 + 1 : Nat) : Int))) (ty := .int) (w' := [(m0, .inr (10, [.int (iI ((0 : Nat) : Int)), .ref m1, .int (iI ((sn : Nat) : Int)), .int (iI ((ap : Nat) : Int)), .int (iI ((wr : Nat) : Int)), .ref m2, .ref m3, .ref m4, .int (iI ((xc : Nat) : Int)), .ref m5, .int (iI ((un : Nat) : Int)), .ref m6, .ref m7, .int (iI ((bc : Nat) : Int)), .ref m8, .int (iI ((wc : Nat) : Int)), .ref m9, .ref m10, .ref m11, .ref m12, .int (iI ((rc : Nat) : Int)), .ref m13, .ref m14, .ref m15, .ref m16, .ref m17, .int (iI ((c2 + 1 : Nat) : Int)), .ref m18, .ref m19])), (m9, .inl ((g.2.1 0), 1760, .inl (pk tr))), (m10, .inl ((g.2.1 0), 11, .inl (nF ts))), (m12, .inl ((g.2.1 1), 10, .inr (.inl se))), (m13, .inl ((g.2.1 1), 61, .inr (.inl mo))), (m14, .inl ((g.2.1 0), 976, .inl (pe en))), (m15, .inl ((g.2.1 0), 61, .inl (nF ec))), (m16, .inl ((g.2.1 2), 41, .inl (bF w_16.2))), (m17, .inl ((g.2.1 0), 60, .inl (nF (up g2 c2 r))))]) hC hi_Mo ty_Mo ok_Mo nm_Mo 0 rfl rfl 26 (by decide) mw_761 rfl rfl rfl rfl rfl (Nat.le_of_ble_eq_true rfl) rfl d_Mo_finds_107 ?_
                            refine z_iincN (lv' := [(5, .int (iI ((r + 1 : Nat) : Int))), (4, .int (iI ((k : Nat) : Int))), (3, .int (iI ((e : Nat) : Int))), (0, .ref m0), (1, .int (iI ((q : Nat) : Int))), (2, .int (iI (bI all)))]) hC 1 d_Mo_finds_110 rfl 0 rfl (by decide) rfl ?_
                            refine z_goto (tgt := 52) hC d_Mo_finds_113 rfl ?_
                            exact Zloc [0, 1, 2, 3, 4, 5] rfl (Z.eq (w' := [(m0, .inr (10, [.int (iI ((0 : Nat) : Int)), .ref m1, .int (iI ((sn : Nat) : Int)), .int (iI ((ap : Nat) : Int)), .int (iI ((wr : Nat) : Int)), .ref m2, .ref m3, .ref m4, .int (iI ((xc : Nat) : Int)), .ref m5, .int (iI ((un : Nat) : Int)), .ref m6, .ref m7, .int (iI ((bc : Nat) : Int)), .ref m8, .int (iI ((wc : Nat) : Int)), .ref m9, .ref m10, .ref m11, .ref m12, .int (iI ((rc : Nat) : Int)), .ref m13, .ref m14, .ref m15, .ref m16, .ref m17, .int (iI (((c2 + 1) : Nat) : Int)), .ref m18, .ref m19])), (m9, .inl ((g.2.1 0), 1760, .inl (pk tr))), (m10, .inl ((g.2.1 0), 11, .inl (nF ts))), (m12, .inl ((g.2.1 1), 10, .inr (.inl se))), (m13, .inl ((g.2.1 1), 61, .inr (.inl mo))), (m14, .inl ((g.2.1 0), 976, .inl (pe en))), (m15, .inl ((g.2.1 0), 61, .inl (nF ec))), (m16, .inl ((g.2.1 2), 41, .inl (bF w_16.2))), (m17, .inl ((g.2.1 0), 60, .inl (nF (up g2 c2 r))))]) rfl rfl rfl rfl (ih_52 (r + 1) (c2 + 1) (up g2 c2 r) w_16.2 (by omega) (by omega) (fdI_go (by omega) hq2 (by first | exact fdT_no (by unfold lkR; first | (rw [show all = true by assumption]; rfl) | (rw [show all = false by assumption, Bool.false_or]; exact decide_eq_true (by assumption)) | (rw [show all = false by assumption, Bool.false_or]; exact decide_eq_false (by assumption))) | exact fdT_hit (by unfold lkR; first | (rw [show all = true by assumption]; rfl) | (rw [show all = false by assumption, Bool.false_or]; exact decide_eq_true (by assumption)) | (rw [show all = false by assumption, Bool.false_or]; exact decide_eq_false (by assumption))) hw_16 (by assumption) | exact fdT_miss (by unfold lkR; first | (rw [show all = true by assumption]; rfl) | (rw [show all = false by assumption, Bool.false_or]; exact decide_eq_true (by assumption)) | (rw [show all = false by assumption, Bool.false_or]; exact decide_eq_false (by assumption))) hw_16 (by assumption))) (by omega)))
                exact Zloc [0, 1, 2, 3, 4, 5] rfl (Z.eq (w' := [(m0, .inr (10, [.int (iI ((0 : Nat) : Int)), .ref m1, .int (iI ((sn : Nat) : Int)), .int (iI ((ap : Nat) : Int)), .int (iI ((wr : Nat) : Int)), .ref m2, .ref m3, .ref m4, .int (iI ((xc : Nat) : Int)), .ref m5, .int (iI ((un : Nat) : Int)), .ref m6, .ref m7, .int (iI ((bc : Nat) : Int)), .ref m8, .int (iI ((wc : Nat) : Int)), .ref m9, .ref m10, .ref m11, .ref m12, .int (iI ((rc : Nat) : Int)), .ref m13, .ref m14, .ref m15, .ref m16, .ref m17, .int (iI ((c : Nat) : Int)), .ref m18, .ref m19])), (m9, .inl ((g.2.1 0), 1760, .inl (pk tr))), (m10, .inl ((g.2.1 0), 11, .inl (nF ts))), (m12, .inl ((g.2.1 1), 10, .inr (.inl se))), (m13, .inl ((g.2.1 1), 61, .inr (.inl mo))), (m14, .inl ((g.2.1 0), 976, .inl (pe en))), (m15, .inl ((g.2.1 0), 61, .inl (nF ec))), (m16, .inl ((g.2.1 2), 41, .inl (bF b1))), (m17, .inl ((g.2.1 0), 60, .inl (nF g1)))]) rfl rfl rfl rfl (L_52 _ k c g1 b1 (by omega) (by omega) rfl (Nat.lt_succ_self _)))
              · refine z_idecN (lv' := [(4, .int (iI ((k - 1 : Nat) : Int))), (3, .int (iI ((e : Nat) : Int))), (0, .ref m0), (1, .int (iI ((q : Nat) : Int))), (2, .int (iI (bI all)))]) hC d_Mo_finds_42 0 rfl (by omega) (by decide) rfl ?_
                refine z_goto (tgt := 17) hC d_Mo_finds_45 rfl ?_
                exact Zloc [0, 1, 2, 3, 4] rfl (Z.eq (w' := [(m0, .inr (10, [.int (iI ((0 : Nat) : Int)), .ref m1, .int (iI ((sn : Nat) : Int)), .int (iI ((ap : Nat) : Int)), .int (iI ((wr : Nat) : Int)), .ref m2, .ref m3, .ref m4, .int (iI ((xc : Nat) : Int)), .ref m5, .int (iI ((un : Nat) : Int)), .ref m6, .ref m7, .int (iI ((bc : Nat) : Int)), .ref m8, .int (iI ((wc : Nat) : Int)), .ref m9, .ref m10, .ref m11, .ref m12, .int (iI ((rc : Nat) : Int)), .ref m13, .ref m14, .ref m15, .ref m16, .ref m17, .int (iI ((c : Nat) : Int)), .ref m18, .ref m19])), (m9, .inl ((g.2.1 0), 1760, .inl (pk tr))), (m10, .inl ((g.2.1 0), 11, .inl (nF ts))), (m12, .inl ((g.2.1 1), 10, .inr (.inl se))), (m13, .inl ((g.2.1 1), 61, .inr (.inl mo))), (m14, .inl ((g.2.1 0), 976, .inl (pe en))), (m15, .inl ((g.2.1 0), 61, .inl (nF ec))), (m16, .inl ((g.2.1 2), 41, .inl (bF b1))), (m17, .inl ((g.2.1 0), 60, .inl (nF g1)))]) rfl rfl rfl rfl (ih_17 (k - 1) (by omega) ((frm_go (by omega) (by assumption)).trans hfr) (by omega)))
        exact Zloc [0, 1, 2, 3, 4] rfl (Z.eq (w' := [(m0, .inr (10, [.int (iI ((0 : Nat) : Int)), .ref m1, .int (iI ((sn : Nat) : Int)), .int (iI ((ap : Nat) : Int)), .int (iI ((wr : Nat) : Int)), .ref m2, .ref m3, .ref m4, .int (iI ((xc : Nat) : Int)), .ref m5, .int (iI ((un : Nat) : Int)), .ref m6, .ref m7, .int (iI ((bc : Nat) : Int)), .ref m8, .int (iI ((wc : Nat) : Int)), .ref m9, .ref m10, .ref m11, .ref m12, .int (iI ((rc : Nat) : Int)), .ref m13, .ref m14, .ref m15, .ref m16, .ref m17, .int (iI ((c : Nat) : Int)), .ref m18, .ref m19])), (m9, .inl ((g.2.1 0), 1760, .inl (pk tr))), (m10, .inl ((g.2.1 0), 11, .inl (nF ts))), (m12, .inl ((g.2.1 1), 10, .inr (.inl se))), (m13, .inl ((g.2.1 1), 61, .inr (.inl mo))), (m14, .inl ((g.2.1 0), 976, .inl (pe en))), (m15, .inl ((g.2.1 0), 61, .inl (nF ec))), (m16, .inl ((g.2.1 2), 41, .inl (bF b1))), (m17, .inl ((g.2.1 0), 60, .inl (nF g1)))]) rfl rfl rfl rfl (L_17 _ e (by omega) rfl (Nat.lt_succ_self _)))
  exact Zloc [0, 1, 2, 3] rfl (Z.eq (w' := [(m0, .inr (10, [.int (iI ((0 : Nat) : Int)), .ref m1, .int (iI ((sn : Nat) : Int)), .int (iI ((ap : Nat) : Int)), .int (iI ((wr : Nat) : Int)), .ref m2, .ref m3, .ref m4, .int (iI ((xc : Nat) : Int)), .ref m5, .int (iI ((un : Nat) : Int)), .ref m6, .ref m7, .int (iI ((bc : Nat) : Int)), .ref m8, .int (iI ((wc : Nat) : Int)), .ref m9, .ref m10, .ref m11, .ref m12, .int (iI ((rc : Nat) : Int)), .ref m13, .ref m14, .ref m15, .ref m16, .ref m17, .int (iI ((0 : Nat) : Int)), .ref m18, .ref m19])), (m9, .inl ((g.2.1 0), 1760, .inl (pk tr))), (m10, .inl ((g.2.1 0), 11, .inl (nF ts))), (m12, .inl ((g.2.1 1), 10, .inr (.inl se))), (m13, .inl ((g.2.1 1), 61, .inr (.inl mo))), (m14, .inl ((g.2.1 0), 976, .inl (pe en))), (m15, .inl ((g.2.1 0), 61, .inl (nF ec))), (m16, .inl ((g.2.1 2), 41, .inl (bF me))), (m17, .inl ((g.2.1 0), 60, .inl (nF hn)))]) rfl rfl rfl rfl (L_10 _ rc rc 0 hn me (by omega) (by omega) (by omega) (by rw [hw]) (Nat.lt_succ_self _)))
