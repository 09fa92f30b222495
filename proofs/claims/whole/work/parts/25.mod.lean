/-! ===== bytes ===== -/
def yb (v : Int32) : Int32 := v.toInt8.toInt32
def yF (f : Nat → Int32) : Nat → Int32 := fun k => yb (f k)
/-- signs are 0 to 255 -/
def y8 (f : Nat → Int32) : Prop := ∀ k, yb (f k) &&& iI ((255 : Nat) : Int) = f k
theorem yb_yb (v : Int32) : yb (yb v) = yb v := by
  unfold yb
  simp
theorem yF_up (f : Nat → Int32) (k : Nat) (v : Int32) : upd (yF f) k (yb v) = yF (upd f k v) := by
  funext j
  unfold upd yF
  by_cases e : j = k <;> simp [e]
theorem yb_inj {a b : Int32} (ha : yb a &&& iI ((255 : Nat) : Int) = a) (hb : yb b &&& iI ((255 : Nat) : Int) = b) (h : yb a = yb b) : a = b := by
  rw [← ha, ← hb, h]
section ZY
variable {x : ZC} {l : Launch} {g : ZG} {R : Room} {cc : ByteArray} {nL : Nat} {own : String} {u : Nat × Nat} {w : va_W} {pc : Nat} {lv : List (Nat × Value)} {st : List Value}
theorem z_i2b (hC : zO x l g R cc nL own) {v : Int32} (hd : decode cc pc = .ok (.i2b, 1)) (k : Z x u w (pc + 1) lv (.int (yb v) :: st)) : Z x u w pc lv (.int v :: st) := by
  obtain ⟨p, l', e, R', s, m, args, below, meth, c, g', A, H0, Q, nL'⟩ := x
  obtain ⟨rfl, rfl, rfl, rfl, ⟨hx, hb, hml, hown, hts⟩, hK, rfl, hA⟩ := hC
  exact fun H locs ls hP hD hS hl => lv_i2b hx hb hd rfl (k H locs ls hP hD hS hl)
theorem z_yald (hC : zO x l g R cc nL own) {a n : Nat} {cA : ClassId} {f : Nat → Int32} {i : Int} (q0 t0 : Nat) (he : w[q0]? = some (a, .inl (cA, n, .inl (yF f)))) (ht : (zty g.2.1)[t0]? = some (cA, .byte)) (k : Nat) (hk : i = k) (hlt : k < n) (hn : n < 2147483648) (hd : decode cc pc = .ok (.baload, 1)) (kk : Z x u w (pc + 1) lv (.int (yb (f k)) :: st)) : Z x u w pc lv (.int (iI i) :: .ref a :: st) := by
  obtain ⟨p, l', e, R', s, m, args, below, meth, c, g', A, H0, Q, nL'⟩ := x
  obtain ⟨rfl, rfl, rfl, rfl, ⟨hx, hb, hml, hown, hts⟩, hK, rfl, hA⟩ := hC
  have hcl := iI_cl hk (by omega)
  exact fun H locs ls hP hD hS hl => va_bald hx hb hK.1 hP q0 t0 he ht (iI_in (by omega) (by omega) hn) hd (by rw [hcl]; exact kk H locs ls hP hD hS hl)
theorem z_yast (hC : zO x l g R cc nL own) {a n : Nat} {cA : ClassId} {f : Nat → Int32} {i : Int} {v : Int32} {w' : va_W} (q0 t0 : Nat) (he : w[q0]? = some (a, .inl (cA, n, .inl (yF f)))) (ht : (zty g.2.1)[t0]? = some (cA, .byte)) (k : Nat) (hk : i = k) (hlt : k < n) (hn : n < 2147483648) (hw : w.set q0 (a, .inl (cA, n, .inl (yF (upd f k v)))) = w') (hd : decode cc pc = .ok (.bastore, 1)) (kk : Z x u w' (pc + 1) lv st) : Z x u w pc lv (.int (yb v) :: .int (iI i) :: .ref a :: st) := by
  obtain ⟨p, l', e, R', s, m, args, below, meth, c, g', A, H0, Q, nL'⟩ := x
  obtain ⟨rfl, rfl, rfl, rfl, ⟨hx, hb, hml, hown, hts⟩, hK, rfl, hA⟩ := hC
  have hcl := iI_cl hk (by omega)
  subst hw
  exact fun H locs ls hP hD hS hl => va_bast hx hb hK.1 hP hD hS q0 t0 he ht (iI_in (by omega) (by omega) hn) hd (fun H' locs' hP hD hS => by rw [hcl, vp_nar_byte, show (yb v).toInt8.toInt32 = yb v from yb_yb v, yF_up] at hP hD; exact kk H' locs' ls hP hD hS hl)
end ZY
theorem yb_and (c : Int32) : yb (c &&& iI ((255 : Nat) : Int)) = yb c := by
  unfold yb
  rw [← Int32.toBitVec_inj]
  simp only [Int8.toBitVec_toInt32, Int32.toBitVec_toInt8, Int32.toBitVec_and]
  congr 1
  rw [BitVec.signExtend_eq_setWidth_of_le _ (by decide), BitVec.signExtend_eq_setWidth_of_le _ (by decide)]
  ext i hi
  simp only [BitVec.getElem_setWidth, BitVec.getLsbD_and]
  have : (iI ((255 : Nat) : Int)).toBitVec = 255#32 := by decide
  rw [this]
  have h2 : (255#32).getLsbD i = true := by
    have : ∀ j : Fin 8, (255#32).getLsbD j.1 = true := by decide
    exact this ⟨i, hi⟩
  rw [h2, Bool.and_true]
theorem yb_255 (c : Int32) : yb c &&& iI ((255 : Nat) : Int) = c &&& iI ((255 : Nat) : Int) := by
  unfold yb
  rw [← Int32.toBitVec_inj]
  simp only [Int8.toBitVec_toInt32, Int32.toBitVec_toInt8, Int32.toBitVec_and]
  have h5 : (iI ((255 : Nat) : Int)).toBitVec = 255#32 := by decide
  rw [h5]
  ext i hi
  simp only [BitVec.getElem_and]
  by_cases h : i < 8
  · congr 1
    rw [BitVec.getElem_signExtend, dif_pos h, BitVec.getElem_signExtend, dif_pos hi]
  · have h2 : (255#32)[i] = false := by
      have : ∀ j : Fin 32, ¬ j.1 < 8 → (255#32).getLsbD j.1 = false := by decide
      rw [← BitVec.getLsbD_eq_getElem]
      exact this ⟨i, hi⟩ h
    rw [h2, Bool.and_false, Bool.and_false]
theorem y8_sign {f : Nat → Int32} (h : y8 f) (k : Nat) (c : Int32) : y8 (upd f k (c &&& iI ((255 : Nat) : Int))) := by
  intro j
  unfold upd
  split
  · rw [yb_and, yb_255]
  · exact h j
/-! ===== the reference: signs, names, words ===== -/
theorem nm_n {n j : Nat} {P : Prop} [Decidable P] {F : Nat → Bool} {is : Bool} (his : is = (decide P && allB F j)) (h : is = true) : P := by
  rw [h] at his
  exact of_decide_eq_true (Bool.and_eq_true_iff.mp his.symm).1
theorem nm_t {j : Nat} {P : Prop} [Decidable P] {F : Nat → Bool} {is : Bool} (his : is = (decide P && allB F j)) (h : is = true) (hF : F j = true) : true = (decide P && allB F (j + 1)) := by
  rw [h] at his
  simp only [allB]
  rw [hF, Bool.and_true]
  exact his
theorem nm_f {j : Nat} {P : Prop} [Decidable P] {F : Nat → Bool} (hF : F j = false) : false = (decide P && allB F (j + 1)) := by
  simp only [allB]
  rw [hF, Bool.and_false, Bool.and_false]
theorem nm_end0 {xn : Nat → Nat} {xl f : Nat → Int32} {n p e k j : Nat} {is : Bool} (his : is = (decide (xn k = e - p) && allB (fun z9 => decide (xl (k * 8 + z9) = sN n f (p + z9))) j)) (h : is = false) (hj : j ≤ e - p) : nmB xn xl n f p e k = false := by
  rw [h] at his
  unfold nmB
  by_cases c : xn k = e - p
  · rw [decide_eq_true c, Bool.true_and] at his ⊢
    cases hh : allB (fun j => decide (xl (k * 8 + j) = sN n f (p + j))) (xn k) with
    | false => rfl
    | true =>
      have := allB_iff.mp hh
      rw [allB_iff.mpr (fun q hq => this q (by omega))] at his
      exact his.symm
  · rw [decide_eq_false c]
    rfl
theorem nm_end1 {xn : Nat → Nat} {xl f : Nat → Int32} {n p e k j : Nat} {is : Bool} (his : is = (decide (xn k = e - p) && allB (fun z9 => decide (xl (k * 8 + z9) = sN n f (p + z9))) j)) (h : is = true) (hj : e - p ≤ j) : nmB xn xl n f p e k = true := by
  rw [h] at his
  have h2 := Bool.and_eq_true_iff.mp his.symm
  have c := of_decide_eq_true h2.1
  unfold nmB
  rw [decide_eq_true c, Bool.true_and]
  exact allB_iff.mpr (fun q hq => allB_iff.mp h2.2 q (by omega))
theorem nm_eq {xl f : Nat → Int32} {n p k j i : Nat} (hx : y8 xl) (hf : y8 f) (e : i = k * 8 + j) (hp : p + j < n) (h : yb (xl i) = yb (f (p + j))) : decide (xl (k * 8 + j) = sN n f (p + j)) = true := by
  subst e
  unfold sN
  rw [if_pos hp]
  exact decide_eq_true (yb_inj (hx _) (hf _) h)
theorem nm_ne {xl f : Nat → Int32} {n p k j i : Nat} (e : i = k * 8 + j) (hp : p + j < n) (h : ¬ yb (xl i) = yb (f (p + j))) : decide (xl (k * 8 + j) = sN n f (p + j)) = false := by
  subst e
  unfold sN
  rw [if_pos hp]
  exact decide_eq_false (fun z => h (by rw [z]))
def wd0 (z : Int) : Int := if z = -1 then 0 else z
theorem jS_eq (n : Nat) (f : Nat → Int32) (p e : Nat) : wd0 (jS n f p e) = if e - p = 3 ∧ sN n f p = iI ((97 : Nat) : Int) ∧ sN n f (p + 1) = iI ((110 : Nat) : Int) ∧ sN n f (p + 2) = iI ((100 : Nat) : Int) then 3 else if e - p = 2 ∧ sN n f p = iI ((111 : Nat) : Int) ∧ sN n f (p + 1) = iI ((114 : Nat) : Int) then 4 else if e - p = 3 ∧ sN n f p = iI ((110 : Nat) : Int) ∧ sN n f (p + 1) = iI ((111 : Nat) : Int) ∧ sN n f (p + 2) = iI ((116 : Nat) : Int) then 5 else 0 := by
  have h0 : wdB n f p e 0 = true ↔ (e - p = 3 ∧ sN n f p = iI ((97 : Nat) : Int) ∧ sN n f (p + 1) = iI ((110 : Nat) : Int) ∧ sN n f (p + 2) = iI ((100 : Nat) : Int)) := by
    unfold wdB
    rw [Bool.and_eq_true, decide_eq_true_eq, allB_iff]
    constructor
    · intro h
      exact ⟨h.1, of_decide_eq_true (h.2 0 (by decide)), of_decide_eq_true (h.2 1 (by decide)), of_decide_eq_true (h.2 2 (by decide))⟩
    · intro h
      refine ⟨h.1, fun k hk => ?_⟩
      have hk3 : k < 3 := hk
      rcases (show k = 0 ∨ k = 1 ∨ k = 2 by omega) with rfl | rfl | rfl
      · exact decide_eq_true h.2.1
      · exact decide_eq_true h.2.2.1
      · exact decide_eq_true h.2.2.2
  have h1 : wdB n f p e 1 = true ↔ (e - p = 2 ∧ sN n f p = iI ((111 : Nat) : Int) ∧ sN n f (p + 1) = iI ((114 : Nat) : Int)) := by
    unfold wdB
    rw [Bool.and_eq_true, decide_eq_true_eq, allB_iff]
    constructor
    · intro h
      exact ⟨h.1, of_decide_eq_true (h.2 0 (by decide)), of_decide_eq_true (h.2 1 (by decide))⟩
    · intro h
      refine ⟨h.1, fun k hk => ?_⟩
      have hk3 : k < 2 := hk
      rcases (show k = 0 ∨ k = 1 by omega) with rfl | rfl
      · exact decide_eq_true h.2.1
      · exact decide_eq_true h.2.2
  have h2 : wdB n f p e 2 = true ↔ (e - p = 3 ∧ sN n f p = iI ((110 : Nat) : Int) ∧ sN n f (p + 1) = iI ((111 : Nat) : Int) ∧ sN n f (p + 2) = iI ((116 : Nat) : Int)) := by
    unfold wdB
    rw [Bool.and_eq_true, decide_eq_true_eq, allB_iff]
    constructor
    · intro h
      exact ⟨h.1, of_decide_eq_true (h.2 0 (by decide)), of_decide_eq_true (h.2 1 (by decide)), of_decide_eq_true (h.2 2 (by decide))⟩
    · intro h
      refine ⟨h.1, fun k hk => ?_⟩
      have hk3 : k < 3 := hk
      rcases (show k = 0 ∨ k = 1 ∨ k = 2 by omega) with rfl | rfl | rfl
      · exact decide_eq_true h.2.1
      · exact decide_eq_true h.2.2.1
      · exact decide_eq_true h.2.2.2
  unfold jS wd0
  simp only [← h0, ← h1, ← h2]
  cases wdB n f p e 0 <;> cases wdB n f p e 1 <;> cases wdB n f p e 2 <;> rfl
theorem wd0_0 (n : Nat) (f : Nat → Int32) (p e : Nat) : (wd0 (jS n f p e) = 0 ↔ jS n f p e = -1) ∧ 0 ≤ wd0 (jS n f p e) ∧ wd0 (jS n f p e) ≤ 5 ∧ (wd0 (jS n f p e) ≠ 0 → wd0 (jS n f p e) = jS n f p e ∧ 3 ≤ jS n f p e) := by
  have h := jS_rng n f p e
  unfold wd0
  unfold jS at h ⊢
  cases wdB n f p e 0 <;> cases wdB n f p e 1 <;> cases wdB n f p e 2 <;> decide
theorem rg_go2 {xl m : Nat → Int32} {n : Nat} {f : Nat → Int32} {c j i : Nat} (e : i = c * 8 + j) (hj : j < n) (hm : ∀ k, m k = if c * 8 ≤ k ∧ k < c * 8 + j then sN n f (k - c * 8) else xl k) : ∀ k, upd m i (f j) k = if c * 8 ≤ k ∧ k < c * 8 + (j + 1) then sN n f (k - c * 8) else xl k := by
  subst e
  rw [show f j = sN n f j by unfold sN; rw [if_pos hj]]
  exact rg_go hm
theorem tvL_go2 {n : Nat} {f : Nat → Int32} {v : Int} {d p : Nat} (hd : d < 5) (h : isD (sN n f p) = true) : tvL n f (5 - (d + 1)) (((10 : Nat) : Int) * v + (sN n f p).toInt - ((48 : Nat) : Int)) (p + 1) = tvL n f (5 - d) v p := by
  rw [Int.mul_comm]
  exact tvL_go hd h
theorem tvL_pos {n : Nat} {f : Nat → Int32} {p q : Nat} {v : Int} (h : (v, q) = tvL n f 5 0 p) : 0 ≤ v := by
  have := tvL_val n f 5 0 1 p (by decide) (by decide)
  rw [← h] at this
  exact this.1
theorem kp_go2 {uf h f : Nat → Int32} {n p j : Nat} (hj : p + j < n) (hh : ∀ k, h k = if k < j then sN n f (p + k) else uf k) : ∀ k, upd h j (f (p + j)) k = if k < j + 1 then sN n f (p + k) else uf k := by
  intro k
  unfold upd
  by_cases e : k = j
  · subst e
    rw [if_pos rfl, if_pos (by omega)]
    unfold sN
    rw [if_pos hj]
  · rw [if_neg e, hh]
    by_cases c : k < j
    · rw [if_pos c, if_pos (by omega)]
    · rw [if_neg c, if_neg (by omega)]
theorem y8_kp {uf f : Nat → Int32} {n p e : Nat} (hu : y8 uf) (hf : y8 f) (he : e ≤ n) : y8 (kpF uf n f p e) := by
  intro k
  unfold kpF sN
  split
  · rw [if_pos (by omega)]
    exact hf _
  · exact hu _
theorem y8_rg {xl f : Nat → Int32} {n c : Nat} (hx : y8 xl) (hf : y8 f) : y8 (rgF xl n f c) := by
  intro k
  unfold rgF sN
  split
  · rw [if_pos (by omega)]
    exact hf _
  · exact hx _
/-- nodes, four cells each -/
def pk (nd : Nat → QD) : Nat → Int32 := fun i => if i % 4 = 0 then (nd (i / 4)).1 else if i % 4 = 1 then (nd (i / 4)).2.1 else if i % 4 = 2 then (nd (i / 4)).2.2.1 else (nd (i / 4)).2.2.2
theorem pk_0 (nd : Nat → QD) {i k : Nat} (h : i = 4 * k) : pk nd i = (nd k).1 := by
  subst h
  unfold pk
  rw [if_pos (by omega), show 4 * k / 4 = k by omega]
theorem pk_1 (nd : Nat → QD) {i k : Nat} (h : i = 4 * k + 1) : pk nd i = (nd k).2.1 := by
  subst h
  unfold pk
  rw [if_neg (by omega), if_pos (by omega), show (4 * k + 1) / 4 = k by omega]
theorem pk_2 (nd : Nat → QD) {i k : Nat} (h : i = 4 * k + 2) : pk nd i = (nd k).2.2.1 := by
  subst h
  unfold pk
  rw [if_neg (by omega), if_neg (by omega), if_pos (by omega), show (4 * k + 2) / 4 = k by omega]
theorem pk_3 (nd : Nat → QD) {i k : Nat} (h : i = 4 * k + 3) : pk nd i = (nd k).2.2.2 := by
  subst h
  unfold pk
  rw [if_neg (by omega), if_neg (by omega), if_neg (by omega), show (4 * k + 3) / 4 = k by omega]
theorem pk_up (nd : Nat → QD) (b : Nat) (s i v t : Int32) : upd (upd (upd (upd (pk nd) (4 * b) s) (4 * b + 1) i) (4 * b + 2) v) (4 * b + 3) t = pk (up nd b (s, i, v, t)) := by
  funext j
  unfold upd pk up
  by_cases e : j / 4 = b
  · rw [if_pos e]
    rcases (show j % 4 = 0 ∨ j % 4 = 1 ∨ j % 4 = 2 ∨ j % 4 = 3 by omega) with h | h | h | h
    · rw [if_neg (by omega), if_neg (by omega), if_neg (by omega), if_pos (by omega), if_pos h]
    · rw [if_neg (by omega), if_neg (by omega), if_pos (by omega), if_neg (by omega), if_pos h]
    · rw [if_neg (by omega), if_pos (by omega), if_neg (by omega), if_neg (by omega), if_pos h]
    · rw [if_pos (by omega), if_neg (by omega), if_neg (by omega), if_neg (by omega)]
  · rw [if_neg e, if_neg (by omega), if_neg (by omega), if_neg (by omega), if_neg (by omega)]
theorem up_up {α : Type} (f : Nat → α) (k : Nat) (v v' : α) : up (up f k v) k v' = up f k v' := by
  funext j
  unfold up
  by_cases e : j = k <;> simp [e]
set_option maxHeartbeats 4000000 in
set_option maxRecDepth 100000 in
theorem k_Mo_sign (l : Launch) (g : ZG) (m0 m1 m2 m3 m4 m5 m6 m7 m8 m9 m10 m11 m12 m13 m14 m15 m16 m17 m18 m19 sn ap wr xc un bc wc rc hc : Nat) (sf : Nat → Int32) (c : Int32) (hsn : sn ≤ 200)   : Ct l g y_Mo_sign c_Mo_sign 2 none { frames := 0, cells := 0, slots := 0, locals := 0 } [.ref m0, .int c] [(m0, .inr (10, [.int (iI ((0 : Nat) : Int)), .ref m1, .int (iI ((sn : Nat) : Int)), .int (iI ((ap : Nat) : Int)), .int (iI ((wr : Nat) : Int)), .ref m2, .ref m3, .ref m4, .int (iI ((xc : Nat) : Int)), .ref m5, .int (iI ((un : Nat) : Int)), .ref m6, .ref m7, .int (iI ((bc : Nat) : Int)), .ref m8, .int (iI ((wc : Nat) : Int)), .ref m9, .ref m10, .ref m11, .ref m12, .int (iI ((rc : Nat) : Int)), .ref m13, .ref m14, .ref m15, .ref m16, .ref m17, .int (iI ((hc : Nat) : Int)), .ref m18, .ref m19])), (m1, .inl ((g.2.1 4), 200, .inl (yF sf)))] none [(m0, .inr (10, [.int (iI ((0 : Nat) : Int)), .ref m1, .int (iI ((if sn < 200 then sn + 1 else sn : Nat) : Int)), .int (iI ((ap : Nat) : Int)), .int (iI ((wr : Nat) : Int)), .ref m2, .ref m3, .ref m4, .int (iI ((xc : Nat) : Int)), .ref m5, .int (iI ((un : Nat) : Int)), .ref m6, .ref m7, .int (iI ((bc : Nat) : Int)), .ref m8, .int (iI ((wc : Nat) : Int)), .ref m9, .ref m10, .ref m11, .ref m12, .int (iI ((rc : Nat) : Int)), .ref m13, .ref m14, .ref m15, .ref m16, .ref m17, .int (iI ((hc : Nat) : Int)), .ref m18, .ref m19])), (m1, .inl ((g.2.1 4), 200, .inl (yF (if sn < 200 then upd sf sn (c &&& (iI ((255 : Nat) : Int))) else sf))))] := by
  refine ct_v (lv := [(0, .ref m0), (1, .int c)]) (by decide) rfl (Nat.le_of_ble_eq_true rfl) rfl ?_
  intro x hC hR
  refine z_aload_n hC d_Mo_sign_0 rfl 0 rfl ?_
  refine z_iconstN hC 0 d_Mo_sign_1 rfl ?_
  refine z_put (v := .int (iI ((0 : Nat) : Int))) (ty := .int) (w' := [(m0, .inr (10, [.int (iI ((0 : Nat) : Int)), .ref m1, .int (iI ((sn : Nat) : Int)), .int (iI ((ap : Nat) : Int)), .int (iI ((wr : Nat) : Int)), .ref m2, .ref m3, .ref m4, .int (iI ((xc : Nat) : Int)), .ref m5, .int (iI ((un : Nat) : Int)), .ref m6, .ref m7, .int (iI ((bc : Nat) : Int)), .ref m8, .int (iI ((wc : Nat) : Int)), .ref m9, .ref m10, .ref m11, .ref m12, .int (iI ((rc : Nat) : Int)), .ref m13, .ref m14, .ref m15, .ref m16, .ref m17, .int (iI ((hc : Nat) : Int)), .ref m18, .ref m19])), (m1, .inl ((g.2.1 4), 200, .inl (yF sf)))]) hC hi_Mo ty_Mo ok_Mo nm_Mo 0 rfl rfl 0 (by decide) mw_735 rfl rfl rfl rfl rfl (Nat.le_of_ble_eq_true rfl) rfl d_Mo_sign_2 ?_
  refine z_aload_n hC d_Mo_sign_5 rfl 0 rfl ?_
  refine z_get hC hi_Mo 0 rfl rfl 2 (by decide) mw_737 (Or.inl rfl) rfl d_Mo_sign_6 ?_
  refine z_sipush (a := ((200 : Nat) : Int)) hC d_Mo_sign_9 (by decide) ?_
  refine z_icmp_ge (tgt := 36) hC ((sn : Nat) : Int) ((200 : Nat) : Int) d_Mo_sign_12 rfl (iI_t (by omega)) (iI_t (by omega)) (fun c_1 => ?_) (fun c_1 => ?_)
  · exact Z.eq (by first | (exfalso; omega) | (rw [if_pos (by omega), if_pos (by omega), ← yF_up, ← yF_up, yb_and]; done) | (rw [if_neg (by omega), if_neg (by omega)])) rfl rfl rfl (hR _ _ d_Mo_sign_36)
  · refine z_aload_n hC d_Mo_sign_15 rfl 0 rfl ?_
    refine z_get hC hi_Mo 0 rfl rfl 1 (by decide) mw_736 (Or.inl rfl) rfl d_Mo_sign_16 ?_
    refine z_aload_n hC d_Mo_sign_19 rfl 0 rfl ?_
    refine z_get hC hi_Mo 0 rfl rfl 2 (by decide) mw_737 (Or.inl rfl) rfl d_Mo_sign_20 ?_
    refine z_iload_n hC d_Mo_sign_23 rfl 1 rfl ?_
    refine z_i2b hC d_Mo_sign_24 ?_
    refine z_yast (v := c) (w' := [(m0, .inr (10, [.int (iI ((0 : Nat) : Int)), .ref m1, .int (iI ((sn : Nat) : Int)), .int (iI ((ap : Nat) : Int)), .int (iI ((wr : Nat) : Int)), .ref m2, .ref m3, .ref m4, .int (iI ((xc : Nat) : Int)), .ref m5, .int (iI ((un : Nat) : Int)), .ref m6, .ref m7, .int (iI ((bc : Nat) : Int)), .ref m8, .int (iI ((wc : Nat) : Int)), .ref m9, .ref m10, .ref m11, .ref m12, .int (iI ((rc : Nat) : Int)), .ref m13, .ref m14, .ref m15, .ref m16, .ref m17, .int (iI ((hc : Nat) : Int)), .ref m18, .ref m19])), (m1, .inl ((g.2.1 4), 200, .inl (yF (upd sf sn c))))]) hC 1 4 rfl rfl sn rfl (by omega) (by decide) rfl d_Mo_sign_25 ?_
    refine z_aload_n hC d_Mo_sign_26 rfl 0 rfl ?_
    refine z_dup hC d_Mo_sign_27 rfl ?_
    refine z_get hC hi_Mo 0 rfl rfl 2 (by decide) mw_737 (Or.inl rfl) rfl d_Mo_sign_28 ?_
    refine z_iconstN hC 1 d_Mo_sign_31 rfl ?_
    refine z_iaddN hC d_Mo_sign_32 ?_
    refine z_put (v := .int (iI ((sn + 1 : Nat) : Int))) (ty := .int) (w' := [(m0, .inr (10, [.int (iI ((0 : Nat) : Int)), .ref m1, .int (iI ((sn + 1 : Nat) : Int)), .int (iI ((ap : Nat) : Int)), .int (iI ((wr : Nat) : Int)), .ref m2, .ref m3, .ref m4, .int (iI ((xc : Nat) : Int)), .ref m5, .int (iI ((un : Nat) : Int)), .ref m6, .ref m7, .int (iI ((bc : Nat) : Int)), .ref m8, .int (iI ((wc : Nat) : Int)), .ref m9, .ref m10, .ref m11, .ref m12, .int (iI ((rc : Nat) : Int)), .ref m13, .ref m14, .ref m15, .ref m16, .ref m17, .int (iI ((hc : Nat) : Int)), .ref m18, .ref m19])), (m1, .inl ((g.2.1 4), 200, .inl (yF (upd sf sn c))))]) hC hi_Mo ty_Mo ok_Mo nm_Mo 0 rfl rfl 2 (by decide) mw_737 rfl rfl rfl rfl rfl (Nat.le_of_ble_eq_true rfl) rfl d_Mo_sign_33 ?_
    exact Z.eq (by first | (exfalso; omega) | (rw [if_pos (by omega), if_pos (by omega), ← yF_up, ← yF_up, yb_and]; done) | (rw [if_neg (by omega), if_neg (by omega)])) rfl rfl rfl (hR _ _ d_Mo_sign_36)
set_option maxHeartbeats 4000000 in
set_option maxRecDepth 100000 in
theorem k_Mo_look (l : Launch) (g : ZG) (m0 m1 m2 m3 m4 m5 m6 m7 m8 m9 m10 m11 m12 m13 m14 m15 m16 m17 m18 m19 sn ap wr xc un bc wc rc hc : Nat) (sf : Nat → Int32) (p : Nat) (hsn : sn ≤ 200) (h8 : y8 sf) (hp : p < 1000000)   : Ct l g y_Mo_look c_Mo_look 2 (some .int) { frames := 0, cells := 0, slots := 0, locals := 0 } [.ref m0, .int (iI ((p : Nat) : Int))] [(m0, .inr (10, [.int (iI ((0 : Nat) : Int)), .ref m1, .int (iI ((sn : Nat) : Int)), .int (iI ((ap : Nat) : Int)), .int (iI ((wr : Nat) : Int)), .ref m2, .ref m3, .ref m4, .int (iI ((xc : Nat) : Int)), .ref m5, .int (iI ((un : Nat) : Int)), .ref m6, .ref m7, .int (iI ((bc : Nat) : Int)), .ref m8, .int (iI ((wc : Nat) : Int)), .ref m9, .ref m10, .ref m11, .ref m12, .int (iI ((rc : Nat) : Int)), .ref m13, .ref m14, .ref m15, .ref m16, .ref m17, .int (iI ((hc : Nat) : Int)), .ref m18, .ref m19])), (m1, .inl ((g.2.1 4), 200, .inl (yF sf)))] (some (.int (sN sn sf p))) [(m0, .inr (10, [.int (iI ((0 : Nat) : Int)), .ref m1, .int (iI ((sn : Nat) : Int)), .int (iI ((ap : Nat) : Int)), .int (iI ((wr : Nat) : Int)), .ref m2, .ref m3, .ref m4, .int (iI ((xc : Nat) : Int)), .ref m5, .int (iI ((un : Nat) : Int)), .ref m6, .ref m7, .int (iI ((bc : Nat) : Int)), .ref m8, .int (iI ((wc : Nat) : Int)), .ref m9, .ref m10, .ref m11, .ref m12, .int (iI ((rc : Nat) : Int)), .ref m13, .ref m14, .ref m15, .ref m16, .ref m17, .int (iI ((hc : Nat) : Int)), .ref m18, .ref m19])), (m1, .inl ((g.2.1 4), 200, .inl (yF sf)))] := by
  refine ct_i (lv := [(0, .ref m0), (1, .int (iI ((p : Nat) : Int)))]) (by decide) rfl (Nat.le_of_ble_eq_true rfl) rfl ?_
  intro x hC hR
  refine z_iload_n hC d_Mo_look_0 rfl 1 rfl ?_
  refine z_aload_n hC d_Mo_look_1 rfl 0 rfl ?_
  refine z_get hC hi_Mo 0 rfl rfl 2 (by decide) mw_737 (Or.inl rfl) rfl d_Mo_look_2 ?_
  refine z_icmp_ge (tgt := 21) hC ((p : Nat) : Int) ((sn : Nat) : Int) d_Mo_look_5 rfl (iI_t (by omega)) (iI_t (by omega)) (fun c_1 => ?_) (fun c_1 => ?_)
  · refine z_iconst hC d_Mo_look_21 ?_
    exact Z.eq rfl rfl rfl (by unfold sN; first | (rw [if_neg (by omega)]; done) | (rw [if_pos (by omega), h8])) (hR _ _ d_Mo_look_22)
  · refine z_aload_n hC d_Mo_look_8 rfl 0 rfl ?_
    refine z_get hC hi_Mo 0 rfl rfl 1 (by decide) mw_736 (Or.inl rfl) rfl d_Mo_look_9 ?_
    refine z_iload_n hC d_Mo_look_12 rfl 1 rfl ?_
    refine z_yald hC 1 4 rfl rfl p rfl (by omega) (by decide) d_Mo_look_13 ?_
    refine z_sipush (a := ((255 : Nat) : Int)) hC d_Mo_look_14 (by decide) ?_
    refine z_iandR hC d_Mo_look_17 ?_
    refine z_goto (tgt := 22) hC d_Mo_look_18 rfl ?_
    exact Z.eq rfl rfl rfl (by unfold sN; first | (rw [if_neg (by omega)]; done) | (rw [if_pos (by omega), h8])) (hR _ _ d_Mo_look_22)
set_option maxHeartbeats 4000000 in
set_option maxRecDepth 100000 in
theorem k_Mo_isLetter (l : Launch) (g : ZG) (c : Int32)    : Ct l g y_Mo_isLetter c_Mo_isLetter 1 (some .boolean) { frames := 0, cells := 0, slots := 0, locals := 0 } [.int c] [] (some (.int (iI (bI (isL c))))) [] := by
  refine ct_z (lv := [(0, .int c)]) (by decide) rfl (Nat.le_of_ble_eq_true rfl) rfl ?_
  intro x hC hR
  refine z_iload_n hC d_Mo_isLetter_0 rfl 0 rfl ?_
  refine z_bipush (a := ((97 : Nat) : Int)) hC d_Mo_isLetter_1 (by decide) ?_
  refine z_icmp_lt (tgt := 16) hC ((c : Int32).toInt) ((97 : Nat) : Int) d_Mo_isLetter_3 rfl rfl (iI_t (by omega)) (fun c_1 => ?_) (fun c_1 => ?_)
  · refine z_iconstN hC 0 d_Mo_isLetter_16 rfl ?_
    exact Z.eq rfl rfl rfl (zb_f (by first | exact decide_eq_true (by omega) | exact decide_eq_false (by omega))) (hR _ _ d_Mo_isLetter_17)
  · refine z_iload_n hC d_Mo_isLetter_6 rfl 0 rfl ?_
    refine z_bipush (a := ((122 : Nat) : Int)) hC d_Mo_isLetter_7 (by decide) ?_
    refine z_icmp_gt (tgt := 16) hC ((c : Int32).toInt) ((122 : Nat) : Int) d_Mo_isLetter_9 rfl rfl (iI_t (by omega)) (fun c_2 => ?_) (fun c_2 => ?_)
    · refine z_iconstN hC 0 d_Mo_isLetter_16 rfl ?_
      exact Z.eq rfl rfl rfl (zb_f (by first | exact decide_eq_true (by omega) | exact decide_eq_false (by omega))) (hR _ _ d_Mo_isLetter_17)
    · refine z_iconstN hC 1 d_Mo_isLetter_12 rfl ?_
      refine z_goto (tgt := 17) hC d_Mo_isLetter_13 rfl ?_
      exact Z.eq rfl rfl rfl (zb_t (by first | exact decide_eq_true (by omega) | exact decide_eq_false (by omega))) (hR _ _ d_Mo_isLetter_17)
set_option maxHeartbeats 4000000 in
set_option maxRecDepth 100000 in
theorem k_Mo_isDigit (l : Launch) (g : ZG) (c : Int32)    : Ct l g y_Mo_isDigit c_Mo_isDigit 1 (some .boolean) { frames := 0, cells := 0, slots := 0, locals := 0 } [.int c] [] (some (.int (iI (bI (isD c))))) [] := by
  refine ct_z (lv := [(0, .int c)]) (by decide) rfl (Nat.le_of_ble_eq_true rfl) rfl ?_
  intro x hC hR
  refine z_iload_n hC d_Mo_isDigit_0 rfl 0 rfl ?_
  refine z_bipush (a := ((48 : Nat) : Int)) hC d_Mo_isDigit_1 (by decide) ?_
  refine z_icmp_lt (tgt := 16) hC ((c : Int32).toInt) ((48 : Nat) : Int) d_Mo_isDigit_3 rfl rfl (iI_t (by omega)) (fun c_1 => ?_) (fun c_1 => ?_)
  · refine z_iconstN hC 0 d_Mo_isDigit_16 rfl ?_
    exact Z.eq rfl rfl rfl (zb_f (by first | exact decide_eq_true (by omega) | exact decide_eq_false (by omega))) (hR _ _ d_Mo_isDigit_17)
  · refine z_iload_n hC d_Mo_isDigit_6 rfl 0 rfl ?_
    refine z_bipush (a := ((57 : Nat) : Int)) hC d_Mo_isDigit_7 (by decide) ?_
    refine z_icmp_gt (tgt := 16) hC ((c : Int32).toInt) ((57 : Nat) : Int) d_Mo_isDigit_9 rfl rfl (iI_t (by omega)) (fun c_2 => ?_) (fun c_2 => ?_)
    · refine z_iconstN hC 0 d_Mo_isDigit_16 rfl ?_
      exact Z.eq rfl rfl rfl (zb_f (by first | exact decide_eq_true (by omega) | exact decide_eq_false (by omega))) (hR _ _ d_Mo_isDigit_17)
    · refine z_iconstN hC 1 d_Mo_isDigit_12 rfl ?_
      refine z_goto (tgt := 17) hC d_Mo_isDigit_13 rfl ?_
      exact Z.eq rfl rfl rfl (zb_t (by first | exact decide_eq_true (by omega) | exact decide_eq_false (by omega))) (hR _ _ d_Mo_isDigit_17)
set_option maxHeartbeats 4000000 in
set_option maxRecDepth 100000 in
theorem k_Mo_letters (l : Launch) (g : ZG) (m0 m1 m2 m3 m4 m5 m6 m7 m8 m9 m10 m11 m12 m13 m14 m15 m16 m17 m18 m19 sn ap wr xc un bc wc rc hc : Nat) (sf : Nat → Int32) (p : Nat) (hsn : sn ≤ 200) (h8 : y8 sf) (hp : p ≤ sn)   : Ct l g y_Mo_letters c_Mo_letters 3 (some .int) { frames := 1, cells := 0, slots := 0, locals := 21 } [.ref m0, .int (iI ((p : Nat) : Int))] [(m0, .inr (10, [.int (iI ((0 : Nat) : Int)), .ref m1, .int (iI ((sn : Nat) : Int)), .int (iI ((ap : Nat) : Int)), .int (iI ((wr : Nat) : Int)), .ref m2, .ref m3, .ref m4, .int (iI ((xc : Nat) : Int)), .ref m5, .int (iI ((un : Nat) : Int)), .ref m6, .ref m7, .int (iI ((bc : Nat) : Int)), .ref m8, .int (iI ((wc : Nat) : Int)), .ref m9, .ref m10, .ref m11, .ref m12, .int (iI ((rc : Nat) : Int)), .ref m13, .ref m14, .ref m15, .ref m16, .ref m17, .int (iI ((hc : Nat) : Int)), .ref m18, .ref m19])), (m1, .inl ((g.2.1 4), 200, .inl (yF sf)))] (some (.int (iI ((rowE sn sf (sn - p) p - p : Nat) : Int)))) [(m0, .inr (10, [.int (iI ((0 : Nat) : Int)), .ref m1, .int (iI ((sn : Nat) : Int)), .int (iI ((ap : Nat) : Int)), .int (iI ((wr : Nat) : Int)), .ref m2, .ref m3, .ref m4, .int (iI ((xc : Nat) : Int)), .ref m5, .int (iI ((un : Nat) : Int)), .ref m6, .ref m7, .int (iI ((bc : Nat) : Int)), .ref m8, .int (iI ((wc : Nat) : Int)), .ref m9, .ref m10, .ref m11, .ref m12, .int (iI ((rc : Nat) : Int)), .ref m13, .ref m14, .ref m15, .ref m16, .ref m17, .int (iI ((hc : Nat) : Int)), .ref m18, .ref m19])), (m1, .inl ((g.2.1 4), 200, .inl (yF sf)))] := by
  refine ct_i (lv := [(0, .ref m0), (1, .int (iI ((p : Nat) : Int)))]) (by decide) rfl (Nat.le_of_ble_eq_true rfl) rfl ?_
  intro x hC hR
  refine z_iconstN hC 0 d_Mo_letters_0 rfl ?_
  refine z_istore_n (lv' := [(2, .int (iI ((0 : Nat) : Int))), (0, .ref m0), (1, .int (iI ((p : Nat) : Int)))]) hC d_Mo_letters_1 rfl (by decide) rfl ?_
  have L_2 : ∀ (fu : Nat) (k : Nat), (p + k ≤ sn) → (rowE sn sf (sn - (p + k)) (p + k) = rowE sn sf (sn - p) p) → sn - (p + k) < fu → Z x (0, 0) [(m0, .inr (10, [.int (iI ((0 : Nat) : Int)), .ref m1, .int (iI ((sn : Nat) : Int)), .int (iI ((ap : Nat) : Int)), .int (iI ((wr : Nat) : Int)), .ref m2, .ref m3, .ref m4, .int (iI ((xc : Nat) : Int)), .ref m5, .int (iI ((un : Nat) : Int)), .ref m6, .ref m7, .int (iI ((bc : Nat) : Int)), .ref m8, .int (iI ((wc : Nat) : Int)), .ref m9, .ref m10, .ref m11, .ref m12, .int (iI ((rc : Nat) : Int)), .ref m13, .ref m14, .ref m15, .ref m16, .ref m17, .int (iI ((hc : Nat) : Int)), .ref m18, .ref m19])), (m1, .inl ((g.2.1 4), 200, .inl (yF sf)))] 2 [(2, .int (iI ((k : Nat) : Int))), (0, .ref m0), (1, .int (iI ((p : Nat) : Int)))] [] := by
    intro fu
    induction fu with
    | zero => intro k hk hr hmu; exact absurd hmu (Nat.not_lt_zero _)
    | succ fu ih_2 =>
      intro k hk hr hmu
      refine z_aload_n hC d_Mo_letters_2 rfl 1 rfl ?_
      refine z_iload_n hC d_Mo_letters_3 rfl 2 rfl ?_
      refine z_iload_n hC d_Mo_letters_4 rfl 0 rfl ?_
      refine z_iaddN hC d_Mo_letters_5 ?_
      refine z_callV (q0 := 0) (ci := 10) (w' := [(m0, .inr (10, [.int (iI ((0 : Nat) : Int)), .ref m1, .int (iI ((sn : Nat) : Int)), .int (iI ((ap : Nat) : Int)), .int (iI ((wr : Nat) : Int)), .ref m2, .ref m3, .ref m4, .int (iI ((xc : Nat) : Int)), .ref m5, .int (iI ((un : Nat) : Int)), .ref m6, .ref m7, .int (iI ((bc : Nat) : Int)), .ref m8, .int (iI ((wc : Nat) : Int)), .ref m9, .ref m10, .ref m11, .ref m12, .int (iI ((rc : Nat) : Int)), .ref m13, .ref m14, .ref m15, .ref m16, .ref m17, .int (iI ((hc : Nat) : Int)), .ref m18, .ref m19])), (m1, .inl ((g.2.1 4), 200, .inl (yF sf)))]) (st1 := [.int (sN sn sf (p + k))]) hC (k_Mo_look l g m0 m1 m2 m3 m4 m5 m6 m7 m8 m9 m10 m11 m12 m13 m14 m15 m16 m17 m18 m19 sn ap wr xc un bc wc rc hc sf (p + k) hsn h8 (by omega)) mw_835 zv_Mo_look rfl rfl ⟨Nat.le_of_ble_eq_true rfl, Nat.le_of_ble_eq_true rfl⟩ [0, 1] rfl rfl rfl rfl rfl rfl rfl rfl (Nat.le_of_ble_eq_true rfl) d_Mo_letters_6 rfl ⟨Nat.zero_le _, Nat.zero_le _⟩ rfl ?_
      refine z_callS (w' := [(m0, .inr (10, [.int (iI ((0 : Nat) : Int)), .ref m1, .int (iI ((sn : Nat) : Int)), .int (iI ((ap : Nat) : Int)), .int (iI ((wr : Nat) : Int)), .ref m2, .ref m3, .ref m4, .int (iI ((xc : Nat) : Int)), .ref m5, .int (iI ((un : Nat) : Int)), .ref m6, .ref m7, .int (iI ((bc : Nat) : Int)), .ref m8, .int (iI ((wc : Nat) : Int)), .ref m9, .ref m10, .ref m11, .ref m12, .int (iI ((rc : Nat) : Int)), .ref m13, .ref m14, .ref m15, .ref m16, .ref m17, .int (iI ((hc : Nat) : Int)), .ref m18, .ref m19])), (m1, .inl ((g.2.1 4), 200, .inl (yF sf)))]) (st1 := [.int (iI (bI (isL (sN sn sf (p + k)))))]) hC (k_Mo_isLetter l g (sN sn sf (p + k))) mw_839 zs_Mo_isLetter rfl rfl ⟨Nat.le_of_ble_eq_true rfl, Nat.le_of_ble_eq_true rfl⟩ [] rfl rfl rfl rfl rfl (Nat.le_of_ble_eq_true rfl) d_Mo_letters_9 rfl ⟨Nat.zero_le _, Nat.zero_le _⟩ rfl ?_
      refine z_ifeqB (tgt := 21) hC d_Mo_letters_12 rfl (fun c_1 => ?_) (fun c_1 => ?_)
      · refine z_iload_n hC d_Mo_letters_21 rfl 0 rfl ?_
        exact Z.eq rfl rfl rfl (by rw [← hr, rowE_no (by assumption), show p + k - p = k by omega]) (hR _ _ d_Mo_letters_22)
      · have hl9 := isL_lt (n := sn) (f := sf) (p := p + k) (by assumption)
        refine z_iincN (lv' := [(2, .int (iI ((k + 1 : Nat) : Int))), (0, .ref m0), (1, .int (iI ((p : Nat) : Int)))]) hC 1 d_Mo_letters_15 rfl 0 rfl (by decide) rfl ?_
        refine z_goto (tgt := 2) hC d_Mo_letters_18 rfl ?_
        exact Zloc [0, 1, 2] rfl (Z.eq (w' := [(m0, .inr (10, [.int (iI ((0 : Nat) : Int)), .ref m1, .int (iI ((sn : Nat) : Int)), .int (iI ((ap : Nat) : Int)), .int (iI ((wr : Nat) : Int)), .ref m2, .ref m3, .ref m4, .int (iI ((xc : Nat) : Int)), .ref m5, .int (iI ((un : Nat) : Int)), .ref m6, .ref m7, .int (iI ((bc : Nat) : Int)), .ref m8, .int (iI ((wc : Nat) : Int)), .ref m9, .ref m10, .ref m11, .ref m12, .int (iI ((rc : Nat) : Int)), .ref m13, .ref m14, .ref m15, .ref m16, .ref m17, .int (iI ((hc : Nat) : Int)), .ref m18, .ref m19])), (m1, .inl ((g.2.1 4), 200, .inl (yF sf)))]) rfl rfl rfl rfl (ih_2 (k + 1) (isL_lt (by assumption)) ((rowE_go (isL_lt (by assumption)) (by assumption)).trans hr) (by omega)))
  exact Zloc [0, 1, 2] rfl (Z.eq (w' := [(m0, .inr (10, [.int (iI ((0 : Nat) : Int)), .ref m1, .int (iI ((sn : Nat) : Int)), .int (iI ((ap : Nat) : Int)), .int (iI ((wr : Nat) : Int)), .ref m2, .ref m3, .ref m4, .int (iI ((xc : Nat) : Int)), .ref m5, .int (iI ((un : Nat) : Int)), .ref m6, .ref m7, .int (iI ((bc : Nat) : Int)), .ref m8, .int (iI ((wc : Nat) : Int)), .ref m9, .ref m10, .ref m11, .ref m12, .int (iI ((rc : Nat) : Int)), .ref m13, .ref m14, .ref m15, .ref m16, .ref m17, .int (iI ((hc : Nat) : Int)), .ref m18, .ref m19])), (m1, .inl ((g.2.1 4), 200, .inl (yF sf)))]) rfl rfl rfl rfl (L_2 _ 0 (by omega) rfl (Nat.lt_succ_self _)))
set_option maxHeartbeats 4000000 in
set_option maxRecDepth 100000 in
theorem k_Mo_named (l : Launch) (g : ZG) (m0 m1 m2 m3 m4 m5 m6 m7 m8 m9 m10 m11 m12 m13 m14 m15 m16 m17 m18 m19 sn ap wr xc un bc wc rc hc : Nat) (sf xl : Nat → Int32) (xn : Nat → Nat) (p e : Nat) (hsn : sn ≤ 200) (h8 : y8 sf) (hxc : xc ≤ 8) (hxn : ∀ j, j < xc → xn j ≤ 8) (h8x : y8 xl) (hpe : p ≤ e) (hes : e ≤ sn)   : Ct l g y_Mo_named c_Mo_named 6 (some .int) { frames := 0, cells := 0, slots := 0, locals := 0 } [.ref m0, .int (iI ((p : Nat) : Int)), .int (iI ((e - p : Nat) : Int))] [(m0, .inr (10, [.int (iI ((0 : Nat) : Int)), .ref m1, .int (iI ((sn : Nat) : Int)), .int (iI ((ap : Nat) : Int)), .int (iI ((wr : Nat) : Int)), .ref m2, .ref m3, .ref m4, .int (iI ((xc : Nat) : Int)), .ref m5, .int (iI ((un : Nat) : Int)), .ref m6, .ref m7, .int (iI ((bc : Nat) : Int)), .ref m8, .int (iI ((wc : Nat) : Int)), .ref m9, .ref m10, .ref m11, .ref m12, .int (iI ((rc : Nat) : Int)), .ref m13, .ref m14, .ref m15, .ref m16, .ref m17, .int (iI ((hc : Nat) : Int)), .ref m18, .ref m19])), (m1, .inl ((g.2.1 4), 200, .inl (yF sf))), (m2, .inl ((g.2.1 4), 64, .inl (yF xl))), (m3, .inl ((g.2.1 0), 8, .inl (nF xn)))] (some (.int (iI (fnd (nmB xn xl sn sf p e) xc 0)))) [(m0, .inr (10, [.int (iI ((0 : Nat) : Int)), .ref m1, .int (iI ((sn : Nat) : Int)), .int (iI ((ap : Nat) : Int)), .int (iI ((wr : Nat) : Int)), .ref m2, .ref m3, .ref m4, .int (iI ((xc : Nat) : Int)), .ref m5, .int (iI ((un : Nat) : Int)), .ref m6, .ref m7, .int (iI ((bc : Nat) : Int)), .ref m8, .int (iI ((wc : Nat) : Int)), .ref m9, .ref m10, .ref m11, .ref m12, .int (iI ((rc : Nat) : Int)), .ref m13, .ref m14, .ref m15, .ref m16, .ref m17, .int (iI ((hc : Nat) : Int)), .ref m18, .ref m19])), (m1, .inl ((g.2.1 4), 200, .inl (yF sf))), (m2, .inl ((g.2.1 4), 64, .inl (yF xl))), (m3, .inl ((g.2.1 0), 8, .inl (nF xn)))] := by
  refine ct_i (lv := [(0, .ref m0), (1, .int (iI ((p : Nat) : Int))), (2, .int (iI ((e - p : Nat) : Int)))]) (by decide) rfl (Nat.le_of_ble_eq_true rfl) rfl ?_
  intro x hC hR
  refine z_iconstN hC 0 d_Mo_named_0 rfl ?_
  refine z_istore_n (lv' := [(3, .int (iI ((0 : Nat) : Int))), (0, .ref m0), (1, .int (iI ((p : Nat) : Int))), (2, .int (iI ((e - p : Nat) : Int)))]) hC d_Mo_named_1 rfl (by decide) rfl ?_
  have L_2 : ∀ (fu : Nat) (i : Nat), (i ≤ xc) → (fnd (nmB xn xl sn sf p e) (xc - i) i = fnd (nmB xn xl sn sf p e) xc 0) → xc - i < fu → Z x (0, 0) [(m0, .inr (10, [.int (iI ((0 : Nat) : Int)), .ref m1, .int (iI ((sn : Nat) : Int)), .int (iI ((ap : Nat) : Int)), .int (iI ((wr : Nat) : Int)), .ref m2, .ref m3, .ref m4, .int (iI ((xc : Nat) : Int)), .ref m5, .int (iI ((un : Nat) : Int)), .ref m6, .ref m7, .int (iI ((bc : Nat) : Int)), .ref m8, .int (iI ((wc : Nat) : Int)), .ref m9, .ref m10, .ref m11, .ref m12, .int (iI ((rc : Nat) : Int)), .ref m13, .ref m14, .ref m15, .ref m16, .ref m17, .int (iI ((hc : Nat) : Int)), .ref m18, .ref m19])), (m1, .inl ((g.2.1 4), 200, .inl (yF sf))), (m2, .inl ((g.2.1 4), 64, .inl (yF xl))), (m3, .inl ((g.2.1 0), 8, .inl (nF xn)))] 2 [(3, .int (iI ((i : Nat) : Int))), (0, .ref m0), (1, .int (iI ((p : Nat) : Int))), (2, .int (iI ((e - p : Nat) : Int)))] [] := by
    intro fu
    induction fu with
    | zero => intro i hi hr hmu; exact absurd hmu (Nat.not_lt_zero _)
    | succ fu ih_2 =>
      intro i hi hr hmu
      refine z_iload_n hC d_Mo_named_2 rfl 0 rfl ?_
      refine z_aload_n hC d_Mo_named_3 rfl 1 rfl ?_
      refine z_get hC hi_Mo 0 rfl rfl 8 (by decide) mw_743 (Or.inl rfl) rfl d_Mo_named_4 ?_
      refine z_icmp_ge (tgt := 91) hC ((i : Nat) : Int) ((xc : Nat) : Int) d_Mo_named_7 rfl (iI_t (by omega)) (iI_t (by omega)) (fun c_1 => ?_) (fun c_1 => ?_)
      · refine z_iconst hC d_Mo_named_91 ?_
        exact Z.eq rfl rfl rfl (by first | (rw [← hr, fnd_out (by omega)]; done) | (rw [← hr, fnd_hit (by omega) (nm_end1 his (by assumption) (by omega))]; done) | (exfalso; simp_all)) (hR _ _ d_Mo_named_92)
      · have hx9 := hxn i (by omega)
        refine z_aload_n hC d_Mo_named_10 rfl 1 rfl ?_
        refine z_get hC hi_Mo 0 rfl rfl 6 (by decide) mw_741 (Or.inl rfl) rfl d_Mo_named_11 ?_
        refine z_iload_n hC d_Mo_named_14 rfl 0 rfl ?_
        refine z_ialdN hC 3 0 rfl rfl i rfl (by omega) (by decide) d_Mo_named_15 ?_
        refine z_iload_n hC d_Mo_named_16 rfl 3 rfl ?_
        refine z_icmp_ne (tgt := 24) hC ((xn i : Nat) : Int) ((e - p : Nat) : Int) d_Mo_named_17 rfl (iI_t (by omega)) (iI_t (by omega)) (fun c_2 => ?_) (fun c_2 => ?_)
        · refine z_iconstN hC 0 d_Mo_named_24 rfl ?_
          refine z_istore (lv' := [(4, .int (iI ((0 : Nat) : Int))), (3, .int (iI ((i : Nat) : Int))), (0, .ref m0), (1, .int (iI ((p : Nat) : Int))), (2, .int (iI ((e - p : Nat) : Int)))]) hC d_Mo_named_25 (by decide) rfl ?_
          refine z_iconstN hC 0 d_Mo_named_27 rfl ?_
          refine z_istore (lv' := [(5, .int (iI ((0 : Nat) : Int))), (4, .int (iI ((0 : Nat) : Int))), (3, .int (iI ((i : Nat) : Int))), (0, .ref m0), (1, .int (iI ((p : Nat) : Int))), (2, .int (iI ((e - p : Nat) : Int)))]) hC d_Mo_named_28 (by decide) rfl ?_
          have L_30 : ∀ (fu : Nat) (j : Nat) (is : Bool), (j ≤ e - p) → (is = (decide (xn i = e - p) && allB (fun z9 => decide (xl (i * 8 + z9) = sN sn sf (p + z9))) j)) → e - p - j < fu → Z x (0, 0) [(m0, .inr (10, [.int (iI ((0 : Nat) : Int)), .ref m1, .int (iI ((sn : Nat) : Int)), .int (iI ((ap : Nat) : Int)), .int (iI ((wr : Nat) : Int)), .ref m2, .ref m3, .ref m4, .int (iI ((xc : Nat) : Int)), .ref m5, .int (iI ((un : Nat) : Int)), .ref m6, .ref m7, .int (iI ((bc : Nat) : Int)), .ref m8, .int (iI ((wc : Nat) : Int)), .ref m9, .ref m10, .ref m11, .ref m12, .int (iI ((rc : Nat) : Int)), .ref m13, .ref m14, .ref m15, .ref m16, .ref m17, .int (iI ((hc : Nat) : Int)), .ref m18, .ref m19])), (m1, .inl ((g.2.1 4), 200, .inl (yF sf))), (m2, .inl ((g.2.1 4), 64, .inl (yF xl))), (m3, .inl ((g.2.1 0), 8, .inl (nF xn)))] 30 [(5, .int (iI ((j : Nat) : Int))), (4, .int (iI (bI is))), (3, .int (iI ((i : Nat) : Int))), (0, .ref m0), (1, .int (iI ((p : Nat) : Int))), (2, .int (iI ((e - p : Nat) : Int)))] [] := by
            intro fu
            induction fu with
            | zero => intro j is hj his hmu; exact absurd hmu (Nat.not_lt_zero _)
            | succ fu ih_30 =>
              intro j is hj his hmu
              refine z_iload hC d_Mo_named_30 0 rfl ?_
              refine z_iload_n hC d_Mo_named_32 rfl 5 rfl ?_
              refine z_icmp_ge (tgt := 78) hC ((j : Nat) : Int) ((e - p : Nat) : Int) d_Mo_named_33 rfl (iI_t (by omega)) (iI_t (by omega)) (fun c_3 => ?_) (fun c_3 => ?_)
              · refine z_iload hC d_Mo_named_78 1 rfl ?_
                refine z_ifeqB (tgt := 85) hC d_Mo_named_80 rfl (fun c_4 => ?_) (fun c_4 => ?_)
                · refine z_iincN (lv' := [(3, .int (iI ((i + 1 : Nat) : Int))), (5, .int (iI ((j : Nat) : Int))), (4, .int (iI (bI is))), (0, .ref m0), (1, .int (iI ((p : Nat) : Int))), (2, .int (iI ((e - p : Nat) : Int)))]) hC 1 d_Mo_named_85 rfl 2 rfl (by decide) rfl ?_
                  refine z_goto (tgt := 2) hC d_Mo_named_88 rfl ?_
                  exact Zloc [0, 3, 4, 5] rfl (Z.eq (w' := [(m0, .inr (10, [.int (iI ((0 : Nat) : Int)), .ref m1, .int (iI ((sn : Nat) : Int)), .int (iI ((ap : Nat) : Int)), .int (iI ((wr : Nat) : Int)), .ref m2, .ref m3, .ref m4, .int (iI ((xc : Nat) : Int)), .ref m5, .int (iI ((un : Nat) : Int)), .ref m6, .ref m7, .int (iI ((bc : Nat) : Int)), .ref m8, .int (iI ((wc : Nat) : Int)), .ref m9, .ref m10, .ref m11, .ref m12, .int (iI ((rc : Nat) : Int)), .ref m13, .ref m14, .ref m15, .ref m16, .ref m17, .int (iI ((hc : Nat) : Int)), .ref m18, .ref m19])), (m1, .inl ((g.2.1 4), 200, .inl (yF sf))), (m2, .inl ((g.2.1 4), 64, .inl (yF xl))), (m3, .inl ((g.2.1 0), 8, .inl (nF xn)))]) rfl rfl rfl rfl (ih_2 (i + 1) (by omega) ((fnd_go (by omega) (nm_end0 his (by assumption) (by omega))).trans hr) (by omega)))
                · refine z_iload_n hC d_Mo_named_83 rfl 2 rfl ?_
                  exact Z.eq rfl rfl rfl (by first | (rw [← hr, fnd_out (by omega)]; done) | (rw [← hr, fnd_hit (by omega) (nm_end1 his (by assumption) (by omega))]; done) | (exfalso; simp_all)) (hR _ _ d_Mo_named_84)
              · refine z_iload hC d_Mo_named_36 1 rfl ?_
                refine z_ifeqB (tgt := 78) hC d_Mo_named_38 rfl (fun c_5 => ?_) (fun c_5 => ?_)
                · refine z_iload hC d_Mo_named_78 1 rfl ?_
                  refine z_ifeqB (tgt := 85) hC d_Mo_named_80 rfl (fun c_6 => ?_) (fun c_6 => ?_)
                  · refine z_iincN (lv' := [(3, .int (iI ((i + 1 : Nat) : Int))), (5, .int (iI ((j : Nat) : Int))), (4, .int (iI (bI is))), (0, .ref m0), (1, .int (iI ((p : Nat) : Int))), (2, .int (iI ((e - p : Nat) : Int)))]) hC 1 d_Mo_named_85 rfl 2 rfl (by decide) rfl ?_
                    refine z_goto (tgt := 2) hC d_Mo_named_88 rfl ?_
                    exact Zloc [0, 3, 4, 5] rfl (Z.eq (w' := [(m0, .inr (10, [.int (iI ((0 : Nat) : Int)), .ref m1, .int (iI ((sn : Nat) : Int)), .int (iI ((ap : Nat) : Int)), .int (iI ((wr : Nat) : Int)), .ref m2, .ref m3, .ref m4, .int (iI ((xc : Nat) : Int)), .ref m5, .int (iI ((un : Nat) : Int)), .ref m6, .ref m7, .int (iI ((bc : Nat) : Int)), .ref m8, .int (iI ((wc : Nat) : Int)), .ref m9, .ref m10, .ref m11, .ref m12, .int (iI ((rc : Nat) : Int)), .ref m13, .ref m14, .ref m15, .ref m16, .ref m17, .int (iI ((hc : Nat) : Int)), .ref m18, .ref m19])), (m1, .inl ((g.2.1 4), 200, .inl (yF sf))), (m2, .inl ((g.2.1 4), 64, .inl (yF xl))), (m3, .inl ((g.2.1 0), 8, .inl (nF xn)))]) rfl rfl rfl rfl (ih_2 (i + 1) (by omega) ((fnd_go (by omega) (nm_end0 his (by assumption) (by omega))).trans hr) (by omega)))
                  · refine z_iload_n hC d_Mo_named_83 rfl 2 rfl ?_
                    exact Z.eq rfl rfl rfl (by first | (rw [← hr, fnd_out (by omega)]; done) | (rw [← hr, fnd_hit (by omega) (nm_end1 his (by assumption) (by omega))]; done) | (exfalso; simp_all)) (hR _ _ d_Mo_named_84)
                · have hn9 := nm_n (n := 0) his (by assumption)
                  refine z_aload_n hC d_Mo_named_41 rfl 3 rfl ?_
                  refine z_get hC hi_Mo 0 rfl rfl 5 (by decide) mw_740 (Or.inl rfl) rfl d_Mo_named_42 ?_
                  refine z_bipush (a := ((8 : Nat) : Int)) hC d_Mo_named_45 (by decide) ?_
                  refine z_iload_n hC d_Mo_named_47 rfl 2 rfl ?_
                  refine z_imulN hC d_Mo_named_48 ?_
                  refine z_iload hC d_Mo_named_49 0 rfl ?_
                  refine z_iaddN hC d_Mo_named_51 ?_
                  refine z_yald hC 2 4 rfl rfl ((8 * i) + j) rfl (by omega) (by decide) d_Mo_named_52 ?_
                  refine z_aload_n hC d_Mo_named_53 rfl 3 rfl ?_
                  refine z_get hC hi_Mo 0 rfl rfl 1 (by decide) mw_736 (Or.inl rfl) rfl d_Mo_named_54 ?_
                  refine z_iload_n hC d_Mo_named_57 rfl 4 rfl ?_
                  refine z_iload hC d_Mo_named_58 0 rfl ?_
                  refine z_iaddN hC d_Mo_named_60 ?_
                  refine z_yald hC 1 4 rfl rfl (p + j) rfl (by omega) (by decide) d_Mo_named_61 ?_
                  refine z_icmp_neR (tgt := 69) hC d_Mo_named_62 rfl (fun c_7 => ?_) (fun c_7 => ?_)
                  · refine z_iconstN hC 0 d_Mo_named_69 rfl ?_
                    refine z_istore (lv' := [(4, .int (iI ((0 : Nat) : Int))), (5, .int (iI ((j : Nat) : Int))), (3, .int (iI ((i : Nat) : Int))), (0, .ref m0), (1, .int (iI ((p : Nat) : Int))), (2, .int (iI ((e - p : Nat) : Int)))]) hC d_Mo_named_70 (by decide) rfl ?_
                    refine z_iincN (lv' := [(5, .int (iI ((j + 1 : Nat) : Int))), (4, .int (iI ((0 : Nat) : Int))), (3, .int (iI ((i : Nat) : Int))), (0, .ref m0), (1, .int (iI ((p : Nat) : Int))), (2, .int (iI ((e - p : Nat) : Int)))]) hC 1 d_Mo_named_72 rfl 1 rfl (by decide) rfl ?_
                    refine z_goto (tgt := 30) hC d_Mo_named_75 rfl ?_
                    exact Zloc [0, 1, 2, 3, 4, 5] rfl (Z.eq (w' := [(m0, .inr (10, [.int (iI ((0 : Nat) : Int)), .ref m1, .int (iI ((sn : Nat) : Int)), .int (iI ((ap : Nat) : Int)), .int (iI ((wr : Nat) : Int)), .ref m2, .ref m3, .ref m4, .int (iI ((xc : Nat) : Int)), .ref m5, .int (iI ((un : Nat) : Int)), .ref m6, .ref m7, .int (iI ((bc : Nat) : Int)), .ref m8, .int (iI ((wc : Nat) : Int)), .ref m9, .ref m10, .ref m11, .ref m12, .int (iI ((rc : Nat) : Int)), .ref m13, .ref m14, .ref m15, .ref m16, .ref m17, .int (iI ((hc : Nat) : Int)), .ref m18, .ref m19])), (m1, .inl ((g.2.1 4), 200, .inl (yF sf))), (m2, .inl ((g.2.1 4), 64, .inl (yF xl))), (m3, .inl ((g.2.1 0), 8, .inl (nF xn)))]) rfl rfl rfl rfl (ih_30 (j + 1) false (by omega) (by first | exact nm_t his (by assumption) (nm_eq (i := 8 * i + j) h8x h8 (by omega) (by omega) (by assumption)) | exact nm_f (nm_ne (i := 8 * i + j) (by omega) (by omega) (by assumption))) (by omega)))
                  · refine z_iconstN hC 1 d_Mo_named_65 rfl ?_
                    refine z_goto (tgt := 70) hC d_Mo_named_66 rfl ?_
                    refine z_istore (lv' := [(4, .int (iI ((1 : Nat) : Int))), (5, .int (iI ((j : Nat) : Int))), (3, .int (iI ((i : Nat) : Int))), (0, .ref m0), (1, .int (iI ((p : Nat) : Int))), (2, .int (iI ((e - p : Nat) : Int)))]) hC d_Mo_named_70 (by decide) rfl ?_
                    refine z_iincN (lv' := [(5, .int (iI ((j + 1 : Nat) : Int))), (4, .int (iI ((1 : Nat) : Int))), (3, .int (iI ((i : Nat) : Int))), (0, .ref m0), (1, .int (iI ((p : Nat) : Int))), (2, .int (iI ((e - p : Nat) : Int)))]) hC 1 d_Mo_named_72 rfl 1 rfl (by decide) rfl ?_
                    refine z_goto (tgt := 30) hC d_Mo_named_75 rfl ?_
                    exact Zloc [0, 1, 2, 3, 4, 5] rfl (Z.eq (w' := [(m0, .inr (10, [.int (iI ((0 : Nat) : Int)), .ref m1, .int (iI ((sn : Nat) : Int)), .int (iI ((ap : Nat) : Int)), .int (iI ((wr : Nat) : Int)), .ref m2, .ref m3, .ref m4, .int (iI ((xc : Nat) : Int)), .ref m5, .int (iI ((un : Nat) : Int)), .ref m6, .ref m7, .int (iI ((bc : Nat) : Int)), .ref m8, .int (iI ((wc : Nat) : Int)), .ref m9, .ref m10, .ref m11, .ref m12, .int (iI ((rc : Nat) : Int)), .ref m13, .ref m14, .ref m15, .ref m16, .ref m17, .int (iI ((hc : Nat) : Int)), .ref m18, .ref m19])), (m1, .inl ((g.2.1 4), 200, .inl (yF sf))), (m2, .inl ((g.2.1 4), 64, .inl (yF xl))), (m3, .inl ((g.2.1 0), 8, .inl (nF xn)))]) rfl rfl rfl rfl (ih_30 (j + 1) true (by omega) (by first | exact nm_t his (by assumption) (nm_eq (i := 8 * i + j) h8x h8 (by omega) (by omega) (by assumption)) | exact nm_f (nm_ne (i := 8 * i + j) (by omega) (by omega) (by assumption))) (by omega)))
          exact Zloc [0, 1, 2, 3, 4, 5] rfl (Z.eq (w' := [(m0, .inr (10, [.int (iI ((0 : Nat) : Int)), .ref m1, .int (iI ((sn : Nat) : Int)), .int (iI ((ap : Nat) : Int)), .int (iI ((wr : Nat) : Int)), .ref m2, .ref m3, .ref m4, .int (iI ((xc : Nat) : Int)), .ref m5, .int (iI ((un : Nat) : Int)), .ref m6, .ref m7, .int (iI ((bc : Nat) : Int)), .ref m8, .int (iI ((wc : Nat) : Int)), .ref m9, .ref m10, .ref m11, .ref m12, .int (iI ((rc : Nat) : Int)), .ref m13, .ref m14, .ref m15, .ref m16, .ref m17, .int (iI ((hc : Nat) : Int)), .ref m18, .ref m19])), (m1, .inl ((g.2.1 4), 200, .inl (yF sf))), (m2, .inl ((g.2.1 4), 64, .inl (yF xl))), (m3, .inl ((g.2.1 0), 8, .inl (nF xn)))]) rfl rfl rfl rfl (L_30 _ 0 false (by omega) (by first | (rw [decide_eq_true (by omega)]; rfl) | (rw [decide_eq_false (by omega)]; rfl)) (Nat.lt_succ_self _)))
        · refine z_iconstN hC 1 d_Mo_named_20 rfl ?_
          refine z_goto (tgt := 25) hC d_Mo_named_21 rfl ?_
          refine z_istore (lv' := [(4, .int (iI ((1 : Nat) : Int))), (3, .int (iI ((i : Nat) : Int))), (0, .ref m0), (1, .int (iI ((p : Nat) : Int))), (2, .int (iI ((e - p : Nat) : Int)))]) hC d_Mo_named_25 (by decide) rfl ?_
          refine z_iconstN hC 0 d_Mo_named_27 rfl ?_
          refine z_istore (lv' := [(5, .int (iI ((0 : Nat) : Int))), (4, .int (iI ((1 : Nat) : Int))), (3, .int (iI ((i : Nat) : Int))), (0, .ref m0), (1, .int (iI ((p : Nat) : Int))), (2, .int (iI ((e - p : Nat) : Int)))]) hC d_Mo_named_28 (by decide) rfl ?_
          have L_30 : ∀ (fu : Nat) (j : Nat) (is : Bool), (j ≤ e - p) → (is = (decide (xn i = e - p) && allB (fun z9 => decide (xl (i * 8 + z9) = sN sn sf (p + z9))) j)) → e - p - j < fu → Z x (0, 0) [(m0, .inr (10, [.int (iI ((0 : Nat) : Int)), .ref m1, .int (iI ((sn : Nat) : Int)), .int (iI ((ap : Nat) : Int)), .int (iI ((wr : Nat) : Int)), .ref m2, .ref m3, .ref m4, .int (iI ((xc : Nat) : Int)), .ref m5, .int (iI ((un : Nat) : Int)), .ref m6, .ref m7, .int (iI ((bc : Nat) : Int)), .ref m8, .int (iI ((wc : Nat) : Int)), .ref m9, .ref m10, .ref m11, .ref m12, .int (iI ((rc : Nat) : Int)), .ref m13, .ref m14, .ref m15, .ref m16, .ref m17, .int (iI ((hc : Nat) : Int)), .ref m18, .ref m19])), (m1, .inl ((g.2.1 4), 200, .inl (yF sf))), (m2, .inl ((g.2.1 4), 64, .inl (yF xl))), (m3, .inl ((g.2.1 0), 8, .inl (nF xn)))] 30 [(5, .int (iI ((j : Nat) : Int))), (4, .int (iI (bI is))), (3, .int (iI ((i : Nat) : Int))), (0, .ref m0), (1, .int (iI ((p : Nat) : Int))), (2, .int (iI ((e - p : Nat) : Int)))] [] := by
            intro fu
            induction fu with
            | zero => intro j is hj his hmu; exact absurd hmu (Nat.not_lt_zero _)
            | succ fu ih_30 =>
              intro j is hj his hmu
              refine z_iload hC d_Mo_named_30 0 rfl ?_
              refine z_iload_n hC d_Mo_named_32 rfl 5 rfl ?_
              refine z_icmp_ge (tgt := 78) hC ((j : Nat) : Int) ((e - p : Nat) : Int) d_Mo_named_33 rfl (iI_t (by omega)) (iI_t (by omega)) (fun c_8 => ?_) (fun c_8 => ?_)
              · refine z_iload hC d_Mo_named_78 1 rfl ?_
                refine z_ifeqB (tgt := 85) hC d_Mo_named_80 rfl (fun c_9 => ?_) (fun c_9 => ?_)
                · refine z_iincN (lv' := [(3, .int (iI ((i + 1 : Nat) : Int))), (5, .int (iI ((j : Nat) : Int))), (4, .int (iI (bI is))), (0, .ref m0), (1, .int (iI ((p : Nat) : Int))), (2, .int (iI ((e - p : Nat) : Int)))]) hC 1 d_Mo_named_85 rfl 2 rfl (by decide) rfl ?_
                  refine z_goto (tgt := 2) hC d_Mo_named_88 rfl ?_
                  exact Zloc [0, 3, 4, 5] rfl (Z.eq (w' := [(m0, .inr (10, [.int (iI ((0 : Nat) : Int)), .ref m1, .int (iI ((sn : Nat) : Int)), .int (iI ((ap : Nat) : Int)), .int (iI ((wr : Nat) : Int)), .ref m2, .ref m3, .ref m4, .int (iI ((xc : Nat) : Int)), .ref m5, .int (iI ((un : Nat) : Int)), .ref m6, .ref m7, .int (iI ((bc : Nat) : Int)), .ref m8, .int (iI ((wc : Nat) : Int)), .ref m9, .ref m10, .ref m11, .ref m12, .int (iI ((rc : Nat) : Int)), .ref m13, .ref m14, .ref m15, .ref m16, .ref m17, .int (iI ((hc : Nat) : Int)), .ref m18, .ref m19])), (m1, .inl ((g.2.1 4), 200, .inl (yF sf))), (m2, .inl ((g.2.1 4), 64, .inl (yF xl))), (m3, .inl ((g.2.1 0), 8, .inl (nF xn)))]) rfl rfl rfl rfl (ih_2 (i + 1) (by omega) ((fnd_go (by omega) (nm_end0 his (by assumption) (by omega))).trans hr) (by omega)))
                · refine z_iload_n hC d_Mo_named_83 rfl 2 rfl ?_
                  exact Z.eq rfl rfl rfl (by first | (rw [← hr, fnd_out (by omega)]; done) | (rw [← hr, fnd_hit (by omega) (nm_end1 his (by assumption) (by omega))]; done) | (exfalso; simp_all)) (hR _ _ d_Mo_named_84)
              · refine z_iload hC d_Mo_named_36 1 rfl ?_
                refine z_ifeqB (tgt := 78) hC d_Mo_named_38 rfl (fun c_10 => ?_) (fun c_10 => ?_)
                · refine z_iload hC d_Mo_named_78 1 rfl ?_
                  refine z_ifeqB (tgt := 85) hC d_Mo_named_80 rfl (fun c_11 => ?_) (fun c_11 => ?_)
                  · refine z_iincN (lv' := [(3, .int (iI ((i + 1 : Nat) : Int))), (5, .int (iI ((j : Nat) : Int))), (4, .int (iI (bI is))), (0, .ref m0), (1, .int (iI ((p : Nat) : Int))), (2, .int (iI ((e - p : Nat) : Int)))]) hC 1 d_Mo_named_85 rfl 2 rfl (by decide) rfl ?_
                    refine z_goto (tgt := 2) hC d_Mo_named_88 rfl ?_
                    exact Zloc [0, 3, 4, 5] rfl (Z.eq (w' := [(m0, .inr (10, [.int (iI ((0 : Nat) : Int)), .ref m1, .int (iI ((sn : Nat) : Int)), .int (iI ((ap : Nat) : Int)), .int (iI ((wr : Nat) : Int)), .ref m2, .ref m3, .ref m4, .int (iI ((xc : Nat) : Int)), .ref m5, .int (iI ((un : Nat) : Int)), .ref m6, .ref m7, .int (iI ((bc : Nat) : Int)), .ref m8, .int (iI ((wc : Nat) : Int)), .ref m9, .ref m10, .ref m11, .ref m12, .int (iI ((rc : Nat) : Int)), .ref m13, .ref m14, .ref m15, .ref m16, .ref m17, .int (iI ((hc : Nat) : Int)), .ref m18, .ref m19])), (m1, .inl ((g.2.1 4), 200, .inl (yF sf))), (m2, .inl ((g.2.1 4), 64, .inl (yF xl))), (m3, .inl ((g.2.1 0), 8, .inl (nF xn)))]) rfl rfl rfl rfl (ih_2 (i + 1) (by omega) ((fnd_go (by omega) (nm_end0 his (by assumption) (by omega))).trans hr) (by omega)))
                  · refine z_iload_n hC d_Mo_named_83 rfl 2 rfl ?_
                    exact Z.eq rfl rfl rfl (by first | (rw [← hr, fnd_out (by omega)]; done) | (rw [← hr, fnd_hit (by omega) (nm_end1 his (by assumption) (by omega))]; done) | (exfalso; simp_all)) (hR _ _ d_Mo_named_84)
                · have hn9 := nm_n (n := 0) his (by assumption)
                  refine z_aload_n hC d_Mo_named_41 rfl 3 rfl ?_
                  refine z_get hC hi_Mo 0 rfl rfl 5 (by decide) mw_740 (Or.inl rfl) rfl d_Mo_named_42 ?_
                  refine z_bipush (a := ((8 : Nat) : Int)) hC d_Mo_named_45 (by decide) ?_
                  refine z_iload_n hC d_Mo_named_47 rfl 2 rfl ?_
                  refine z_imulN hC d_Mo_named_48 ?_
                  refine z_iload hC d_Mo_named_49 0 rfl ?_
                  refine z_iaddN hC d_Mo_named_51 ?_
                  refine z_yald hC 2 4 rfl rfl ((8 * i) + j) rfl (by omega) (by decide) d_Mo_named_52 ?_
                  refine z_aload_n hC d_Mo_named_53 rfl 3 rfl ?_
                  refine z_get hC hi_Mo 0 rfl rfl 1 (by decide) mw_736 (Or.inl rfl) rfl d_Mo_named_54 ?_
                  refine z_iload_n hC d_Mo_named_57 rfl 4 rfl ?_
                  refine z_iload hC d_Mo_named_58 0 rfl ?_
                  refine z_iaddN hC d_Mo_named_60 ?_
                  refine z_yald hC 1 4 rfl rfl (p + j) rfl (by omega) (by decide) d_Mo_named_61 ?_
                  refine z_icmp_neR (tgt := 69) hC d_Mo_named_62 rfl (fun c_12 => ?_) (fun c_12 => ?_)
                  · refine z_iconstN hC 0 d_Mo_named_69 rfl ?_
                    refine z_istore (lv' := [(4, .int (iI ((0 : Nat) : Int))), (5, .int (iI ((j : Nat) : Int))), (3, .int (iI ((i : Nat) : Int))), (0, .ref m0), (1, .int (iI ((p : Nat) : Int))), (2, .int (iI ((e - p : Nat) : Int)))]) hC d_Mo_named_70 (by decide) rfl ?_
                    refine z_iincN (lv' := [(5, .int (iI ((j + 1 : Nat) : Int))), (4, .int (iI ((0 : Nat) : Int))), (3, .int (iI ((i : Nat) : Int))), (0, .ref m0), (1, .int (iI ((p : Nat) : Int))), (2, .int (iI ((e - p : Nat) : Int)))]) hC 1 d_Mo_named_72 rfl 1 rfl (by decide) rfl ?_
                    refine z_goto (tgt := 30) hC d_Mo_named_75 rfl ?_
                    exact Zloc [0, 1, 2, 3, 4, 5] rfl (Z.eq (w' := [(m0, .inr (10, [.int (iI ((0 : Nat) : Int)), .ref m1, .int (iI ((sn : Nat) : Int)), .int (iI ((ap : Nat) : Int)), .int (iI ((wr : Nat) : Int)), .ref m2, .ref m3, .ref m4, .int (iI ((xc : Nat) : Int)), .ref m5, .int (iI ((un : Nat) : Int)), .ref m6, .ref m7, .int (iI ((bc : Nat) : Int)), .ref m8, .int (iI ((wc : Nat) : Int)), .ref m9, .ref m10, .ref m11, .ref m12, .int (iI ((rc : Nat) : Int)), .ref m13, .ref m14, .ref m15, .ref m16, .ref m17, .int (iI ((hc : Nat) : Int)), .ref m18, .ref m19])), (m1, .inl ((g.2.1 4), 200, .inl (yF sf))), (m2, .inl ((g.2.1 4), 64, .inl (yF xl))), (m3, .inl ((g.2.1 0), 8, .inl (nF xn)))]) rfl rfl rfl rfl (ih_30 (j + 1) false (by omega) (by first | exact nm_t his (by assumption) (nm_eq (i := 8 * i + j) h8x h8 (by omega) (by omega) (by assumption)) | exact nm_f (nm_ne (i := 8 * i + j) (by omega) (by omega) (by assumption))) (by omega)))
                  · refine z_iconstN hC 1 d_Mo_named_65 rfl ?_
                    refine z_goto (tgt := 70) hC d_Mo_named_66 rfl ?_
                    refine z_istore (lv' := [(4, .int (iI ((1 : Nat) : Int))), (5, .int (iI ((j : Nat) : Int))), (3, .int (iI ((i : Nat) : Int))), (0, .ref m0), (1, .int (iI ((p : Nat) : Int))), (2, .int (iI ((e - p : Nat) : Int)))]) hC d_Mo_named_70 (by decide) rfl ?_
                    refine z_iincN (lv' := [(5, .int (iI ((j + 1 : Nat) : Int))), (4, .int (iI ((1 : Nat) : Int))), (3, .int (iI ((i : Nat) : Int))), (0, .ref m0), (1, .int (iI ((p : Nat) : Int))), (2, .int (iI ((e - p : Nat) : Int)))]) hC 1 d_Mo_named_72 rfl 1 rfl (by decide) rfl ?_
                    refine z_goto (tgt := 30) hC d_Mo_named_75 rfl ?_
                    exact Zloc [0, 1, 2, 3, 4, 5] rfl (Z.eq (w' := [(m0, .inr (10, [.int (iI ((0 : Nat) : Int)), .ref m1, .int (iI ((sn : Nat) : Int)), .int (iI ((ap : Nat) : Int)), .int (iI ((wr : Nat) : Int)), .ref m2, .ref m3, .ref m4, .int (iI ((xc : Nat) : Int)), .ref m5, .int (iI ((un : Nat) : Int)), .ref m6, .ref m7, .int (iI ((bc : Nat) : Int)), .ref m8, .int (iI ((wc : Nat) : Int)), .ref m9, .ref m10, .ref m11, .ref m12, .int (iI ((rc : Nat) : Int)), .ref m13, .ref m14, .ref m15, .ref m16, .ref m17, .int (iI ((hc : Nat) : Int)), .ref m18, .ref m19])), (m1, .inl ((g.2.1 4), 200, .inl (yF sf))), (m2, .inl ((g.2.1 4), 64, .inl (yF xl))), (m3, .inl ((g.2.1 0), 8, .inl (nF xn)))]) rfl rfl rfl rfl (ih_30 (j + 1) true (by omega) (by first | exact nm_t his (by assumption) (nm_eq (i := 8 * i + j) h8x h8 (by omega) (by omega) (by assumption)) | exact nm_f (nm_ne (i := 8 * i + j) (by omega) (by omega) (by assumption))) (by omega)))
          exact Zloc [0, 1, 2, 3, 4, 5] rfl (Z.eq (w' := [(m0, .inr (10, [.int (iI ((0 : Nat) : Int)), .ref m1, .int (iI ((sn : Nat) : Int)), .int (iI ((ap : Nat) : Int)), .int (iI ((wr : Nat) : Int)), .ref m2, .ref m3, .ref m4, .int (iI ((xc : Nat) : Int)), .ref m5, .int (iI ((un : Nat) : Int)), .ref m6, .ref m7, .int (iI ((bc : Nat) : Int)), .ref m8, .int (iI ((wc : Nat) : Int)), .ref m9, .ref m10, .ref m11, .ref m12, .int (iI ((rc : Nat) : Int)), .ref m13, .ref m14, .ref m15, .ref m16, .ref m17, .int (iI ((hc : Nat) : Int)), .ref m18, .ref m19])), (m1, .inl ((g.2.1 4), 200, .inl (yF sf))), (m2, .inl ((g.2.1 4), 64, .inl (yF xl))), (m3, .inl ((g.2.1 0), 8, .inl (nF xn)))]) rfl rfl rfl rfl (L_30 _ 0 true (by omega) (by first | (rw [decide_eq_true (by omega)]; rfl) | (rw [decide_eq_false (by omega)]; rfl)) (Nat.lt_succ_self _)))
  exact Zloc [0, 1, 2, 3] rfl (Z.eq (w' := [(m0, .inr (10, [.int (iI ((0 : Nat) : Int)), .ref m1, .int (iI ((sn : Nat) : Int)), .int (iI ((ap : Nat) : Int)), .int (iI ((wr : Nat) : Int)), .ref m2, .ref m3, .ref m4, .int (iI ((xc : Nat) : Int)), .ref m5, .int (iI ((un : Nat) : Int)), .ref m6, .ref m7, .int (iI ((bc : Nat) : Int)), .ref m8, .int (iI ((wc : Nat) : Int)), .ref m9, .ref m10, .ref m11, .ref m12, .int (iI ((rc : Nat) : Int)), .ref m13, .ref m14, .ref m15, .ref m16, .ref m17, .int (iI ((hc : Nat) : Int)), .ref m18, .ref m19])), (m1, .inl ((g.2.1 4), 200, .inl (yF sf))), (m2, .inl ((g.2.1 4), 64, .inl (yF xl))), (m3, .inl ((g.2.1 0), 8, .inl (nF xn)))]) rfl rfl rfl rfl (L_2 _ 0 (by omega) rfl (Nat.lt_succ_self _)))
set_option maxHeartbeats 4000000 in
set_option maxRecDepth 100000 in
theorem k_Mo_word (l : Launch) (g : ZG) (m0 m1 m2 m3 m4 m5 m6 m7 m8 m9 m10 m11 m12 m13 m14 m15 m16 m17 m18 m19 sn ap wr xc un bc wc rc hc : Nat) (sf : Nat → Int32) (p e : Nat) (hsn : sn ≤ 200) (h8 : y8 sf) (hpe : p ≤ e) (hes : e ≤ sn)   : Ct l g y_Mo_word c_Mo_word 6 (some .int) { frames := 1, cells := 0, slots := 0, locals := 21 } [.ref m0, .int (iI ((p : Nat) : Int)), .int (iI ((e - p : Nat) : Int))] [(m0, .inr (10, [.int (iI ((0 : Nat) : Int)), .ref m1, .int (iI ((sn : Nat) : Int)), .int (iI ((ap : Nat) : Int)), .int (iI ((wr : Nat) : Int)), .ref m2, .ref m3, .ref m4, .int (iI ((xc : Nat) : Int)), .ref m5, .int (iI ((un : Nat) : Int)), .ref m6, .ref m7, .int (iI ((bc : Nat) : Int)), .ref m8, .int (iI ((wc : Nat) : Int)), .ref m9, .ref m10, .ref m11, .ref m12, .int (iI ((rc : Nat) : Int)), .ref m13, .ref m14, .ref m15, .ref m16, .ref m17, .int (iI ((hc : Nat) : Int)), .ref m18, .ref m19])), (m1, .inl ((g.2.1 4), 200, .inl (yF sf)))] (some (.int (iI (wd0 (jS sn sf p e))))) [(m0, .inr (10, [.int (iI ((0 : Nat) : Int)), .ref m1, .int (iI ((sn : Nat) : Int)), .int (iI ((ap : Nat) : Int)), .int (iI ((wr : Nat) : Int)), .ref m2, .ref m3, .ref m4, .int (iI ((xc : Nat) : Int)), .ref m5, .int (iI ((un : Nat) : Int)), .ref m6, .ref m7, .int (iI ((bc : Nat) : Int)), .ref m8, .int (iI ((wc : Nat) : Int)), .ref m9, .ref m10, .ref m11, .ref m12, .int (iI ((rc : Nat) : Int)), .ref m13, .ref m14, .ref m15, .ref m16, .ref m17, .int (iI ((hc : Nat) : Int)), .ref m18, .ref m19])), (m1, .inl ((g.2.1 4), 200, .inl (yF sf)))] := by
  refine ct_i (lv := [(0, .ref m0), (1, .int (iI ((p : Nat) : Int))), (2, .int (iI ((e - p : Nat) : Int)))]) (by decide) rfl (Nat.le_of_ble_eq_true rfl) rfl ?_
  intro x hC hR
  refine z_aload_n hC d_Mo_word_0 rfl 0 rfl ?_
  refine z_iload_n hC d_Mo_word_1 rfl 1 rfl ?_
  refine z_callV (q0 := 0) (ci := 10) (w' := [(m0, .inr (10, [.int (iI ((0 : Nat) : Int)), .ref m1, .int (iI ((sn : Nat) : Int)), .int (iI ((ap : Nat) : Int)), .int (iI ((wr : Nat) : Int)), .ref m2, .ref m3, .ref m4, .int (iI ((xc : Nat) : Int)), .ref m5, .int (iI ((un : Nat) : Int)), .ref m6, .ref m7, .int (iI ((bc : Nat) : Int)), .ref m8, .int (iI ((wc : Nat) : Int)), .ref m9, .ref m10, .ref m11, .ref m12, .int (iI ((rc : Nat) : Int)), .ref m13, .ref m14, .ref m15, .ref m16, .ref m17, .int (iI ((hc : Nat) : Int)), .ref m18, .ref m19])), (m1, .inl ((g.2.1 4), 200, .inl (yF sf)))]) (st1 := [.int (sN sn sf p)]) hC (k_Mo_look l g m0 m1 m2 m3 m4 m5 m6 m7 m8 m9 m10 m11 m12 m13 m14 m15 m16 m17 m18 m19 sn ap wr xc un bc wc rc hc sf p hsn h8 (by omega)) mw_835 zv_Mo_look rfl rfl ⟨Nat.le_of_ble_eq_true rfl, Nat.le_of_ble_eq_true rfl⟩ [0, 1] rfl rfl rfl rfl rfl rfl rfl rfl (Nat.le_of_ble_eq_true rfl) d_Mo_word_2 rfl ⟨Nat.zero_le _, Nat.zero_le _⟩ rfl ?_
  refine z_istore_n (lv' := [(3, .int (sN sn sf p)), (0, .ref m0), (1, .int (iI ((p : Nat) : Int))), (2, .int (iI ((e - p : Nat) : Int)))]) hC d_Mo_word_5 rfl (by decide) rfl ?_
  refine z_aload_n hC d_Mo_word_6 rfl 1 rfl ?_
  refine z_iload_n hC d_Mo_word_7 rfl 2 rfl ?_
  refine z_iconstN hC 1 d_Mo_word_8 rfl ?_
  refine z_iaddN hC d_Mo_word_9 ?_
  refine z_callV (q0 := 0) (ci := 10) (w' := [(m0, .inr (10, [.int (iI ((0 : Nat) : Int)), .ref m1, .int (iI ((sn : Nat) : Int)), .int (iI ((ap : Nat) : Int)), .int (iI ((wr : Nat) : Int)), .ref m2, .ref m3, .ref m4, .int (iI ((xc : Nat) : Int)), .ref m5, .int (iI ((un : Nat) : Int)), .ref m6, .ref m7, .int (iI ((bc : Nat) : Int)), .ref m8, .int (iI ((wc : Nat) : Int)), .ref m9, .ref m10, .ref m11, .ref m12, .int (iI ((rc : Nat) : Int)), .ref m13, .ref m14, .ref m15, .ref m16, .ref m17, .int (iI ((hc : Nat) : Int)), .ref m18, .ref m19])), (m1, .inl ((g.2.1 4), 200, .inl (yF sf)))]) (st1 := [.int (sN sn sf (p + 1))]) hC (k_Mo_look l g m0 m1 m2 m3 m4 m5 m6 m7 m8 m9 m10 m11 m12 m13 m14 m15 m16 m17 m18 m19 sn ap wr xc un bc wc rc hc sf (p + 1) hsn h8 (by omega)) mw_835 zv_Mo_look rfl rfl ⟨Nat.le_of_ble_eq_true rfl, Nat.le_of_ble_eq_true rfl⟩ [0, 1] rfl rfl rfl rfl rfl rfl rfl rfl (Nat.le_of_ble_eq_true rfl) d_Mo_word_10 rfl ⟨Nat.zero_le _, Nat.zero_le _⟩ rfl ?_
  refine z_istore (lv' := [(4, .int (sN sn sf (p + 1))), (3, .int (sN sn sf p)), (0, .ref m0), (1, .int (iI ((p : Nat) : Int))), (2, .int (iI ((e - p : Nat) : Int)))]) hC d_Mo_word_13 (by decide) rfl ?_
  refine z_aload_n hC d_Mo_word_15 rfl 2 rfl ?_
  refine z_iload_n hC d_Mo_word_16 rfl 3 rfl ?_
  refine z_iconstN hC 2 d_Mo_word_17 rfl ?_
  refine z_iaddN hC d_Mo_word_18 ?_
  refine z_callV (q0 := 0) (ci := 10) (w' := [(m0, .inr (10, [.int (iI ((0 : Nat) : Int)), .ref m1, .int (iI ((sn : Nat) : Int)), .int (iI ((ap : Nat) : Int)), .int (iI ((wr : Nat) : Int)), .ref m2, .ref m3, .ref m4, .int (iI ((xc : Nat) : Int)), .ref m5, .int (iI ((un : Nat) : Int)), .ref m6, .ref m7, .int (iI ((bc : Nat) : Int)), .ref m8, .int (iI ((wc : Nat) : Int)), .ref m9, .ref m10, .ref m11, .ref m12, .int (iI ((rc : Nat) : Int)), .ref m13, .ref m14, .ref m15, .ref m16, .ref m17, .int (iI ((hc : Nat) : Int)), .ref m18, .ref m19])), (m1, .inl ((g.2.1 4), 200, .inl (yF sf)))]) (st1 := [.int (sN sn sf (p + 2))]) hC (k_Mo_look l g m0 m1 m2 m3 m4 m5 m6 m7 m8 m9 m10 m11 m12 m13 m14 m15 m16 m17 m18 m19 sn ap wr xc un bc wc rc hc sf (p + 2) hsn h8 (by omega)) mw_835 zv_Mo_look rfl rfl ⟨Nat.le_of_ble_eq_true rfl, Nat.le_of_ble_eq_true rfl⟩ [0, 1] rfl rfl rfl rfl rfl rfl rfl rfl (Nat.le_of_ble_eq_true rfl) d_Mo_word_19 rfl ⟨Nat.zero_le _, Nat.zero_le _⟩ rfl ?_
  refine z_istore (lv' := [(5, .int (sN sn sf (p + 2))), (4, .int (sN sn sf (p + 1))), (3, .int (sN sn sf p)), (0, .ref m0), (1, .int (iI ((p : Nat) : Int))), (2, .int (iI ((e - p : Nat) : Int)))]) hC d_Mo_word_22 (by decide) rfl ?_
  refine z_iload_n hC d_Mo_word_24 rfl 5 rfl ?_
  refine z_iconstN hC 3 d_Mo_word_25 rfl ?_
  refine z_icmp_ne (tgt := 53) hC ((e - p : Nat) : Int) ((3 : Nat) : Int) d_Mo_word_26 rfl (iI_t (by omega)) (iI_t (by omega)) (fun c_1 => ?_) (fun c_1 => ?_)
  · refine z_iload_n hC d_Mo_word_53 rfl 5 rfl ?_
    refine z_iconstN hC 2 d_Mo_word_54 rfl ?_
    refine z_icmp_ne (tgt := 75) hC ((e - p : Nat) : Int) ((2 : Nat) : Int) d_Mo_word_55 rfl (iI_t (by omega)) (iI_t (by omega)) (fun c_2 => ?_) (fun c_2 => ?_)
    · refine z_iload_n hC d_Mo_word_75 rfl 5 rfl ?_
      refine z_iconstN hC 3 d_Mo_word_76 rfl ?_
      refine z_icmp_ne (tgt := 104) hC ((e - p : Nat) : Int) ((3 : Nat) : Int) d_Mo_word_77 rfl (iI_t (by omega)) (iI_t (by omega)) (fun c_3 => ?_) (fun c_3 => ?_)
      · refine z_iconstN hC 0 d_Mo_word_104 rfl ?_
        exact Z.eq rfl rfl rfl (by rw [jS_eq]; (repeat' split) <;> first | rfl | (exfalso; omega) | (exfalso; simp_all; done) | (exfalso; simp_all; omega)) (hR _ _ d_Mo_word_105)
      · refine z_iload_n hC d_Mo_word_80 rfl 2 rfl ?_
        refine z_bipush (a := ((110 : Nat) : Int)) hC d_Mo_word_81 (by decide) ?_
        refine z_icmp_neR (tgt := 104) hC d_Mo_word_83 rfl (fun c_4 => ?_) (fun c_4 => ?_)
        · refine z_iconstN hC 0 d_Mo_word_104 rfl ?_
          exact Z.eq rfl rfl rfl (by rw [jS_eq]; (repeat' split) <;> first | rfl | (exfalso; omega) | (exfalso; simp_all; done) | (exfalso; simp_all; omega)) (hR _ _ d_Mo_word_105)
        · refine z_iload hC d_Mo_word_86 1 rfl ?_
          refine z_bipush (a := ((111 : Nat) : Int)) hC d_Mo_word_88 (by decide) ?_
          refine z_icmp_neR (tgt := 104) hC d_Mo_word_90 rfl (fun c_5 => ?_) (fun c_5 => ?_)
          · refine z_iconstN hC 0 d_Mo_word_104 rfl ?_
            exact Z.eq rfl rfl rfl (by rw [jS_eq]; (repeat' split) <;> first | rfl | (exfalso; omega) | (exfalso; simp_all; done) | (exfalso; simp_all; omega)) (hR _ _ d_Mo_word_105)
          · refine z_iload hC d_Mo_word_93 0 rfl ?_
            refine z_bipush (a := ((116 : Nat) : Int)) hC d_Mo_word_95 (by decide) ?_
            refine z_icmp_neR (tgt := 104) hC d_Mo_word_97 rfl (fun c_6 => ?_) (fun c_6 => ?_)
            · refine z_iconstN hC 0 d_Mo_word_104 rfl ?_
              exact Z.eq rfl rfl rfl (by rw [jS_eq]; (repeat' split) <;> first | rfl | (exfalso; omega) | (exfalso; simp_all; done) | (exfalso; simp_all; omega)) (hR _ _ d_Mo_word_105)
            · refine z_iconstN hC 5 d_Mo_word_100 rfl ?_
              refine z_goto (tgt := 105) hC d_Mo_word_101 rfl ?_
              exact Z.eq rfl rfl rfl (by rw [jS_eq]; (repeat' split) <;> first | rfl | (exfalso; omega) | (exfalso; simp_all; done) | (exfalso; simp_all; omega)) (hR _ _ d_Mo_word_105)
    · refine z_iload_n hC d_Mo_word_58 rfl 2 rfl ?_
      refine z_bipush (a := ((111 : Nat) : Int)) hC d_Mo_word_59 (by decide) ?_
      refine z_icmp_neR (tgt := 75) hC d_Mo_word_61 rfl (fun c_7 => ?_) (fun c_7 => ?_)
      · refine z_iload_n hC d_Mo_word_75 rfl 5 rfl ?_
        refine z_iconstN hC 3 d_Mo_word_76 rfl ?_
        refine z_icmp_ne (tgt := 104) hC ((e - p : Nat) : Int) ((3 : Nat) : Int) d_Mo_word_77 rfl (iI_t (by omega)) (iI_t (by omega)) (fun c_8 => ?_) (fun c_8 => ?_)
        · refine z_iconstN hC 0 d_Mo_word_104 rfl ?_
          exact Z.eq rfl rfl rfl (by rw [jS_eq]; (repeat' split) <;> first | rfl | (exfalso; omega) | (exfalso; simp_all; done) | (exfalso; simp_all; omega)) (hR _ _ d_Mo_word_105)
        · refine z_iload_n hC d_Mo_word_80 rfl 2 rfl ?_
          refine z_bipush (a := ((110 : Nat) : Int)) hC d_Mo_word_81 (by decide) ?_
          refine z_icmp_neR (tgt := 104) hC d_Mo_word_83 rfl (fun c_9 => ?_) (fun c_9 => ?_)
          · refine z_iconstN hC 0 d_Mo_word_104 rfl ?_
            exact Z.eq rfl rfl rfl (by rw [jS_eq]; (repeat' split) <;> first | rfl | (exfalso; omega) | (exfalso; simp_all; done) | (exfalso; simp_all; omega)) (hR _ _ d_Mo_word_105)
          · refine z_iload hC d_Mo_word_86 1 rfl ?_
            refine z_bipush (a := ((111 : Nat) : Int)) hC d_Mo_word_88 (by decide) ?_
            refine z_icmp_neR (tgt := 104) hC d_Mo_word_90 rfl (fun c_10 => ?_) (fun c_10 => ?_)
            · refine z_iconstN hC 0 d_Mo_word_104 rfl ?_
              exact Z.eq rfl rfl rfl (by rw [jS_eq]; (repeat' split) <;> first | rfl | (exfalso; omega) | (exfalso; simp_all; done) | (exfalso; simp_all; omega)) (hR _ _ d_Mo_word_105)
            · refine z_iload hC d_Mo_word_93 0 rfl ?_
              refine z_bipush (a := ((116 : Nat) : Int)) hC d_Mo_word_95 (by decide) ?_
              refine z_icmp_neR (tgt := 104) hC d_Mo_word_97 rfl (fun c_11 => ?_) (fun c_11 => ?_)
              · refine z_iconstN hC 0 d_Mo_word_104 rfl ?_
                exact Z.eq rfl rfl rfl (by rw [jS_eq]; (repeat' split) <;> first | rfl | (exfalso; omega) | (exfalso; simp_all; done) | (exfalso; simp_all; omega)) (hR _ _ d_Mo_word_105)
              · refine z_iconstN hC 5 d_Mo_word_100 rfl ?_
                refine z_goto (tgt := 105) hC d_Mo_word_101 rfl ?_
                exact Z.eq rfl rfl rfl (by rw [jS_eq]; (repeat' split) <;> first | rfl | (exfalso; omega) | (exfalso; simp_all; done) | (exfalso; simp_all; omega)) (hR _ _ d_Mo_word_105)
      · refine z_iload hC d_Mo_word_64 1 rfl ?_
        refine z_bipush (a := ((114 : Nat) : Int)) hC d_Mo_word_66 (by decide) ?_
        refine z_icmp_neR (tgt := 75) hC d_Mo_word_68 rfl (fun c_12 => ?_) (fun c_12 => ?_)
        · refine z_iload_n hC d_Mo_word_75 rfl 5 rfl ?_
          refine z_iconstN hC 3 d_Mo_word_76 rfl ?_
          refine z_icmp_ne (tgt := 104) hC ((e - p : Nat) : Int) ((3 : Nat) : Int) d_Mo_word_77 rfl (iI_t (by omega)) (iI_t (by omega)) (fun c_13 => ?_) (fun c_13 => ?_)
          · refine z_iconstN hC 0 d_Mo_word_104 rfl ?_
            exact Z.eq rfl rfl rfl (by rw [jS_eq]; (repeat' split) <;> first | rfl | (exfalso; omega) | (exfalso; simp_all; done) | (exfalso; simp_all; omega)) (hR _ _ d_Mo_word_105)
          · refine z_iload_n hC d_Mo_word_80 rfl 2 rfl ?_
            refine z_bipush (a := ((110 : Nat) : Int)) hC d_Mo_word_81 (by decide) ?_
            refine z_icmp_neR (tgt := 104) hC d_Mo_word_83 rfl (fun c_14 => ?_) (fun c_14 => ?_)
            · refine z_iconstN hC 0 d_Mo_word_104 rfl ?_
              exact Z.eq rfl rfl rfl (by rw [jS_eq]; (repeat' split) <;> first | rfl | (exfalso; omega) | (exfalso; simp_all; done) | (exfalso; simp_all; omega)) (hR _ _ d_Mo_word_105)
            · refine z_iload hC d_Mo_word_86 1 rfl ?_
              refine z_bipush (a := ((111 : Nat) : Int)) hC d_Mo_word_88 (by decide) ?_
              refine z_icmp_neR (tgt := 104) hC d_Mo_word_90 rfl (fun c_15 => ?_) (fun c_15 => ?_)
              · refine z_iconstN hC 0 d_Mo_word_104 rfl ?_
                exact Z.eq rfl rfl rfl (by rw [jS_eq]; (repeat' split) <;> first | rfl | (exfalso; omega) | (exfalso; simp_all; done) | (exfalso; simp_all; omega)) (hR _ _ d_Mo_word_105)
              · refine z_iload hC d_Mo_word_93 0 rfl ?_
                refine z_bipush (a := ((116 : Nat) : Int)) hC d_Mo_word_95 (by decide) ?_
                refine z_icmp_neR (tgt := 104) hC d_Mo_word_97 rfl (fun c_16 => ?_) (fun c_16 => ?_)
                · refine z_iconstN hC 0 d_Mo_word_104 rfl ?_
                  exact Z.eq rfl rfl rfl (by rw [jS_eq]; (repeat' split) <;> first | rfl | (exfalso; omega) | (exfalso; simp_all; done) | (exfalso; simp_all; omega)) (hR _ _ d_Mo_word_105)
                · refine z_iconstN hC 5 d_Mo_word_100 rfl ?_
                  refine z_goto (tgt := 105) hC d_Mo_word_101 rfl ?_
                  exact Z.eq rfl rfl rfl (by rw [jS_eq]; (repeat' split) <;> first | rfl | (exfalso; omega) | (exfalso; simp_all; done) | (exfalso; simp_all; omega)) (hR _ _ d_Mo_word_105)
        · refine z_iconstN hC 4 d_Mo_word_71 rfl ?_
          refine z_goto (tgt := 105) hC d_Mo_word_72 rfl ?_
          exact Z.eq rfl rfl rfl (by rw [jS_eq]; (repeat' split) <;> first | rfl | (exfalso; omega) | (exfalso; simp_all; done) | (exfalso; simp_all; omega)) (hR _ _ d_Mo_word_105)
  · refine z_iload_n hC d_Mo_word_29 rfl 2 rfl ?_
    refine z_bipush (a := ((97 : Nat) : Int)) hC d_Mo_word_30 (by decide) ?_
    refine z_icmp_neR (tgt := 53) hC d_Mo_word_32 rfl (fun c_17 => ?_) (fun c_17 => ?_)
    · refine z_iload_n hC d_Mo_word_53 rfl 5 rfl ?_
      refine z_iconstN hC 2 d_Mo_word_54 rfl ?_
      refine z_icmp_ne (tgt := 75) hC ((e - p : Nat) : Int) ((2 : Nat) : Int) d_Mo_word_55 rfl (iI_t (by omega)) (iI_t (by omega)) (fun c_18 => ?_) (fun c_18 => ?_)
      · refine z_iload_n hC d_Mo_word_75 rfl 5 rfl ?_
        refine z_iconstN hC 3 d_Mo_word_76 rfl ?_
        refine z_icmp_ne (tgt := 104) hC ((e - p : Nat) : Int) ((3 : Nat) : Int) d_Mo_word_77 rfl (iI_t (by omega)) (iI_t (by omega)) (fun c_19 => ?_) (fun c_19 => ?_)
        · refine z_iconstN hC 0 d_Mo_word_104 rfl ?_
          exact Z.eq rfl rfl rfl (by rw [jS_eq]; (repeat' split) <;> first | rfl | (exfalso; omega) | (exfalso; simp_all; done) | (exfalso; simp_all; omega)) (hR _ _ d_Mo_word_105)
        · refine z_iload_n hC d_Mo_word_80 rfl 2 rfl ?_
          refine z_bipush (a := ((110 : Nat) : Int)) hC d_Mo_word_81 (by decide) ?_
          refine z_icmp_neR (tgt := 104) hC d_Mo_word_83 rfl (fun c_20 => ?_) (fun c_20 => ?_)
          · refine z_iconstN hC 0 d_Mo_word_104 rfl ?_
            exact Z.eq rfl rfl rfl (by rw [jS_eq]; (repeat' split) <;> first | rfl | (exfalso; omega) | (exfalso; simp_all; done) | (exfalso; simp_all; omega)) (hR _ _ d_Mo_word_105)
          · refine z_iload hC d_Mo_word_86 1 rfl ?_
            refine z_bipush (a := ((111 : Nat) : Int)) hC d_Mo_word_88 (by decide) ?_
            refine z_icmp_neR (tgt := 104) hC d_Mo_word_90 rfl (fun c_21 => ?_) (fun c_21 => ?_)
            · refine z_iconstN hC 0 d_Mo_word_104 rfl ?_
              exact Z.eq rfl rfl rfl (by rw [jS_eq]; (repeat' split) <;> first | rfl | (exfalso; omega) | (exfalso; simp_all; done) | (exfalso; simp_all; omega)) (hR _ _ d_Mo_word_105)
            · refine z_iload hC d_Mo_word_93 0 rfl ?_
              refine z_bipush (a := ((116 : Nat) : Int)) hC d_Mo_word_95 (by decide) ?_
              refine z_icmp_neR (tgt := 104) hC d_Mo_word_97 rfl (fun c_22 => ?_) (fun c_22 => ?_)
              · refine z_iconstN hC 0 d_Mo_word_104 rfl ?_
                exact Z.eq rfl rfl rfl (by rw [jS_eq]; (repeat' split) <;> first | rfl | (exfalso; omega) | (exfalso; simp_all; done) | (exfalso; simp_all; omega)) (hR _ _ d_Mo_word_105)
              · refine z_iconstN hC 5 d_Mo_word_100 rfl ?_
                refine z_goto (tgt := 105) hC d_Mo_word_101 rfl ?_
                exact Z.eq rfl rfl rfl (by rw [jS_eq]; (repeat' split) <;> first | rfl | (exfalso; omega) | (exfalso; simp_all; done) | (exfalso; simp_all; omega)) (hR _ _ d_Mo_word_105)
      · refine z_iload_n hC d_Mo_word_58 rfl 2 rfl ?_
        refine z_bipush (a := ((111 : Nat) : Int)) hC d_Mo_word_59 (by decide) ?_
        refine z_icmp_neR (tgt := 75) hC d_Mo_word_61 rfl (fun c_23 => ?_) (fun c_23 => ?_)
        · refine z_iload_n hC d_Mo_word_75 rfl 5 rfl ?_
          refine z_iconstN hC 3 d_Mo_word_76 rfl ?_
          refine z_icmp_ne (tgt := 104) hC ((e - p : Nat) : Int) ((3 : Nat) : Int) d_Mo_word_77 rfl (iI_t (by omega)) (iI_t (by omega)) (fun c_24 => ?_) (fun c_24 => ?_)
          · refine z_iconstN hC 0 d_Mo_word_104 rfl ?_
            exact Z.eq rfl rfl rfl (by rw [jS_eq]; (repeat' split) <;> first | rfl | (exfalso; omega) | (exfalso; simp_all; done) | (exfalso; simp_all; omega)) (hR _ _ d_Mo_word_105)
          · refine z_iload_n hC d_Mo_word_80 rfl 2 rfl ?_
            refine z_bipush (a := ((110 : Nat) : Int)) hC d_Mo_word_81 (by decide) ?_
            refine z_icmp_neR (tgt := 104) hC d_Mo_word_83 rfl (fun c_25 => ?_) (fun c_25 => ?_)
            · refine z_iconstN hC 0 d_Mo_word_104 rfl ?_
              exact Z.eq rfl rfl rfl (by rw [jS_eq]; (repeat' split) <;> first | rfl | (exfalso; omega) | (exfalso; simp_all; done) | (exfalso; simp_all; omega)) (hR _ _ d_Mo_word_105)
            · refine z_iload hC d_Mo_word_86 1 rfl ?_
              refine z_bipush (a := ((111 : Nat) : Int)) hC d_Mo_word_88 (by decide) ?_
              refine z_icmp_neR (tgt := 104) hC d_Mo_word_90 rfl (fun c_26 => ?_) (fun c_26 => ?_)
              · refine z_iconstN hC 0 d_Mo_word_104 rfl ?_
                exact Z.eq rfl rfl rfl (by rw [jS_eq]; (repeat' split) <;> first | rfl | (exfalso; omega) | (exfalso; simp_all; done) | (exfalso; simp_all; omega)) (hR _ _ d_Mo_word_105)
              · refine z_iload hC d_Mo_word_93 0 rfl ?_
                refine z_bipush (a := ((116 : Nat) : Int)) hC d_Mo_word_95 (by decide) ?_
                refine z_icmp_neR (tgt := 104) hC d_Mo_word_97 rfl (fun c_27 => ?_) (fun c_27 => ?_)
                · refine z_iconstN hC 0 d_Mo_word_104 rfl ?_
                  exact Z.eq rfl rfl rfl (by rw [jS_eq]; (repeat' split) <;> first | rfl | (exfalso; omega) | (exfalso; simp_all; done) | (exfalso; simp_all; omega)) (hR _ _ d_Mo_word_105)
                · refine z_iconstN hC 5 d_Mo_word_100 rfl ?_
                  refine z_goto (tgt := 105) hC d_Mo_word_101 rfl ?_
                  exact Z.eq rfl rfl rfl (by rw [jS_eq]; (repeat' split) <;> first | rfl | (exfalso; omega) | (exfalso; simp_all; done) | (exfalso; simp_all; omega)) (hR _ _ d_Mo_word_105)
        · refine z_iload hC d_Mo_word_64 1 rfl ?_
          refine z_bipush (a := ((114 : Nat) : Int)) hC d_Mo_word_66 (by decide) ?_
          refine z_icmp_neR (tgt := 75) hC d_Mo_word_68 rfl (fun c_28 => ?_) (fun c_28 => ?_)
          · refine z_iload_n hC d_Mo_word_75 rfl 5 rfl ?_
            refine z_iconstN hC 3 d_Mo_word_76 rfl ?_
            refine z_icmp_ne (tgt := 104) hC ((e - p : Nat) : Int) ((3 : Nat) : Int) d_Mo_word_77 rfl (iI_t (by omega)) (iI_t (by omega)) (fun c_29 => ?_) (fun c_29 => ?_)
            · refine z_iconstN hC 0 d_Mo_word_104 rfl ?_
              exact Z.eq rfl rfl rfl (by rw [jS_eq]; (repeat' split) <;> first | rfl | (exfalso; omega) | (exfalso; simp_all; done) | (exfalso; simp_all; omega)) (hR _ _ d_Mo_word_105)
            · refine z_iload_n hC d_Mo_word_80 rfl 2 rfl ?_
              refine z_bipush (a := ((110 : Nat) : Int)) hC d_Mo_word_81 (by decide) ?_
              refine z_icmp_neR (tgt := 104) hC d_Mo_word_83 rfl (fun c_30 => ?_) (fun c_30 => ?_)
              · refine z_iconstN hC 0 d_Mo_word_104 rfl ?_
                exact Z.eq rfl rfl rfl (by rw [jS_eq]; (repeat' split) <;> first | rfl | (exfalso; omega) | (exfalso; simp_all; done) | (exfalso; simp_all; omega)) (hR _ _ d_Mo_word_105)
              · refine z_iload hC d_Mo_word_86 1 rfl ?_
                refine z_bipush (a := ((111 : Nat) : Int)) hC d_Mo_word_88 (by decide) ?_
                refine z_icmp_neR (tgt := 104) hC d_Mo_word_90 rfl (fun c_31 => ?_) (fun c_31 => ?_)
                · refine z_iconstN hC 0 d_Mo_word_104 rfl ?_
                  exact Z.eq rfl rfl rfl (by rw [jS_eq]; (repeat' split) <;> first | rfl | (exfalso; omega) | (exfalso; simp_all; done) | (exfalso; simp_all; omega)) (hR _ _ d_Mo_word_105)
                · refine z_iload hC d_Mo_word_93 0 rfl ?_
                  refine z_bipush (a := ((116 : Nat) : Int)) hC d_Mo_word_95 (by decide) ?_
                  refine z_icmp_neR (tgt := 104) hC d_Mo_word_97 rfl (fun c_32 => ?_) (fun c_32 => ?_)
                  · refine z_iconstN hC 0 d_Mo_word_104 rfl ?_
                    exact Z.eq rfl rfl rfl (by rw [jS_eq]; (repeat' split) <;> first | rfl | (exfalso; omega) | (exfalso; simp_all; done) | (exfalso; simp_all; omega)) (hR _ _ d_Mo_word_105)
                  · refine z_iconstN hC 5 d_Mo_word_100 rfl ?_
                    refine z_goto (tgt := 105) hC d_Mo_word_101 rfl ?_
                    exact Z.eq rfl rfl rfl (by rw [jS_eq]; (repeat' split) <;> first | rfl | (exfalso; omega) | (exfalso; simp_all; done) | (exfalso; simp_all; omega)) (hR _ _ d_Mo_word_105)
          · refine z_iconstN hC 4 d_Mo_word_71 rfl ?_
            refine z_goto (tgt := 105) hC d_Mo_word_72 rfl ?_
            exact Z.eq rfl rfl rfl (by rw [jS_eq]; (repeat' split) <;> first | rfl | (exfalso; omega) | (exfalso; simp_all; done) | (exfalso; simp_all; omega)) (hR _ _ d_Mo_word_105)
    · refine z_iload hC d_Mo_word_35 1 rfl ?_
      refine z_bipush (a := ((110 : Nat) : Int)) hC d_Mo_word_37 (by decide) ?_
      refine z_icmp_neR (tgt := 53) hC d_Mo_word_39 rfl (fun c_33 => ?_) (fun c_33 => ?_)
      · refine z_iload_n hC d_Mo_word_53 rfl 5 rfl ?_
        refine z_iconstN hC 2 d_Mo_word_54 rfl ?_
        refine z_icmp_ne (tgt := 75) hC ((e - p : Nat) : Int) ((2 : Nat) : Int) d_Mo_word_55 rfl (iI_t (by omega)) (iI_t (by omega)) (fun c_34 => ?_) (fun c_34 => ?_)
        · refine z_iload_n hC d_Mo_word_75 rfl 5 rfl ?_
          refine z_iconstN hC 3 d_Mo_word_76 rfl ?_
          refine z_icmp_ne (tgt := 104) hC ((e - p : Nat) : Int) ((3 : Nat) : Int) d_Mo_word_77 rfl (iI_t (by omega)) (iI_t (by omega)) (fun c_35 => ?_) (fun c_35 => ?_)
          · refine z_iconstN hC 0 d_Mo_word_104 rfl ?_
            exact Z.eq rfl rfl rfl (by rw [jS_eq]; (repeat' split) <;> first | rfl | (exfalso; omega) | (exfalso; simp_all; done) | (exfalso; simp_all; omega)) (hR _ _ d_Mo_word_105)
          · refine z_iload_n hC d_Mo_word_80 rfl 2 rfl ?_
            refine z_bipush (a := ((110 : Nat) : Int)) hC d_Mo_word_81 (by decide) ?_
            refine z_icmp_neR (tgt := 104) hC d_Mo_word_83 rfl (fun c_36 => ?_) (fun c_36 => ?_)
            · refine z_iconstN hC 0 d_Mo_word_104 rfl ?_
              exact Z.eq rfl rfl rfl (by rw [jS_eq]; (repeat' split) <;> first | rfl | (exfalso; omega) | (exfalso; simp_all; done) | (exfalso; simp_all; omega)) (hR _ _ d_Mo_word_105)
            · refine z_iload hC d_Mo_word_86 1 rfl ?_
              refine z_bipush (a := ((111 : Nat) : Int)) hC d_Mo_word_88 (by decide) ?_
              refine z_icmp_neR (tgt := 104) hC d_Mo_word_90 rfl (fun c_37 => ?_) (fun c_37 => ?_)
              · refine z_iconstN hC 0 d_Mo_word_104 rfl ?_
                exact Z.eq rfl rfl rfl (by rw [jS_eq]; (repeat' split) <;> first | rfl | (exfalso; omega) | (exfalso; simp_all; done) | (exfalso; simp_all; omega)) (hR _ _ d_Mo_word_105)
              · refine z_iload hC d_Mo_word_93 0 rfl ?_
                refine z_bipush (a := ((116 : Nat) : Int)) hC d_Mo_word_95 (by decide) ?_
                refine z_icmp_neR (tgt := 104) hC d_Mo_word_97 rfl (fun c_38 => ?_) (fun c_38 => ?_)
                · refine z_iconstN hC 0 d_Mo_word_104 rfl ?_
                  exact Z.eq rfl rfl rfl (by rw [jS_eq]; (repeat' split) <;> first | rfl | (exfalso; omega) | (exfalso; simp_all; done) | (exfalso; simp_all; omega)) (hR _ _ d_Mo_word_105)
                · refine z_iconstN hC 5 d_Mo_word_100 rfl ?_
                  refine z_goto (tgt := 105) hC d_Mo_word_101 rfl ?_
                  exact Z.eq rfl rfl rfl (by rw [jS_eq]; (repeat' split) <;> first | rfl | (exfalso; omega) | (exfalso; simp_all; done) | (exfalso; simp_all; omega)) (hR _ _ d_Mo_word_105)
        · refine z_iload_n hC d_Mo_word_58 rfl 2 rfl ?_
          refine z_bipush (a := ((111 : Nat) : Int)) hC d_Mo_word_59 (by decide) ?_
          refine z_icmp_neR (tgt := 75) hC d_Mo_word_61 rfl (fun c_39 => ?_) (fun c_39 => ?_)
          · refine z_iload_n hC d_Mo_word_75 rfl 5 rfl ?_
            refine z_iconstN hC 3 d_Mo_word_76 rfl ?_
            refine z_icmp_ne (tgt := 104) hC ((e - p : Nat) : Int) ((3 : Nat) : Int) d_Mo_word_77 rfl (iI_t (by omega)) (iI_t (by omega)) (fun c_40 => ?_) (fun c_40 => ?_)
            · refine z_iconstN hC 0 d_Mo_word_104 rfl ?_
              exact Z.eq rfl rfl rfl (by rw [jS_eq]; (repeat' split) <;> first | rfl | (exfalso; omega) | (exfalso; simp_all; done) | (exfalso; simp_all; omega)) (hR _ _ d_Mo_word_105)
            · refine z_iload_n hC d_Mo_word_80 rfl 2 rfl ?_
              refine z_bipush (a := ((110 : Nat) : Int)) hC d_Mo_word_81 (by decide) ?_
              refine z_icmp_neR (tgt := 104) hC d_Mo_word_83 rfl (fun c_41 => ?_) (fun c_41 => ?_)
              · refine z_iconstN hC 0 d_Mo_word_104 rfl ?_
                exact Z.eq rfl rfl rfl (by rw [jS_eq]; (repeat' split) <;> first | rfl | (exfalso; omega) | (exfalso; simp_all; done) | (exfalso; simp_all; omega)) (hR _ _ d_Mo_word_105)
              · refine z_iload hC d_Mo_word_86 1 rfl ?_
                refine z_bipush (a := ((111 : Nat) : Int)) hC d_Mo_word_88 (by decide) ?_
                refine z_icmp_neR (tgt := 104) hC d_Mo_word_90 rfl (fun c_42 => ?_) (fun c_42 => ?_)
                · refine z_iconstN hC 0 d_Mo_word_104 rfl ?_
                  exact Z.eq rfl rfl rfl (by rw [jS_eq]; (repeat' split) <;> first | rfl | (exfalso; omega) | (exfalso; simp_all; done) | (exfalso; simp_all; omega)) (hR _ _ d_Mo_word_105)
                · refine z_iload hC d_Mo_word_93 0 rfl ?_
                  refine z_bipush (a := ((116 : Nat) : Int)) hC d_Mo_word_95 (by decide) ?_
                  refine z_icmp_neR (tgt := 104) hC d_Mo_word_97 rfl (fun c_43 => ?_) (fun c_43 => ?_)
                  · refine z_iconstN hC 0 d_Mo_word_104 rfl ?_
                    exact Z.eq rfl rfl rfl (by rw [jS_eq]; (repeat' split) <;> first | rfl | (exfalso; omega) | (exfalso; simp_all; done) | (exfalso; simp_all; omega)) (hR _ _ d_Mo_word_105)
                  · refine z_iconstN hC 5 d_Mo_word_100 rfl ?_
                    refine z_goto (tgt := 105) hC d_Mo_word_101 rfl ?_
                    exact Z.eq rfl rfl rfl (by rw [jS_eq]; (repeat' split) <;> first | rfl | (exfalso; omega) | (exfalso; simp_all; done) | (exfalso; simp_all; omega)) (hR _ _ d_Mo_word_105)
          · refine z_iload hC d_Mo_word_64 1 rfl ?_
            refine z_bipush (a := ((114 : Nat) : Int)) hC d_Mo_word_66 (by decide) ?_
            refine z_icmp_neR (tgt := 75) hC d_Mo_word_68 rfl (fun c_44 => ?_) (fun c_44 => ?_)
            · refine z_iload_n hC d_Mo_word_75 rfl 5 rfl ?_
              refine z_iconstN hC 3 d_Mo_word_76 rfl ?_
              refine z_icmp_ne (tgt := 104) hC ((e - p : Nat) : Int) ((3 : Nat) : Int) d_Mo_word_77 rfl (iI_t (by omega)) (iI_t (by omega)) (fun c_45 => ?_) (fun c_45 => ?_)
              · refine z_iconstN hC 0 d_Mo_word_104 rfl ?_
                exact Z.eq rfl rfl rfl (by rw [jS_eq]; (repeat' split) <;> first | rfl | (exfalso; omega) | (exfalso; simp_all; done) | (exfalso; simp_all; omega)) (hR _ _ d_Mo_word_105)
              · refine z_iload_n hC d_Mo_word_80 rfl 2 rfl ?_
                refine z_bipush (a := ((110 : Nat) : Int)) hC d_Mo_word_81 (by decide) ?_
                refine z_icmp_neR (tgt := 104) hC d_Mo_word_83 rfl (fun c_46 => ?_) (fun c_46 => ?_)
                · refine z_iconstN hC 0 d_Mo_word_104 rfl ?_
                  exact Z.eq rfl rfl rfl (by rw [jS_eq]; (repeat' split) <;> first | rfl | (exfalso; omega) | (exfalso; simp_all; done) | (exfalso; simp_all; omega)) (hR _ _ d_Mo_word_105)
                · refine z_iload hC d_Mo_word_86 1 rfl ?_
                  refine z_bipush (a := ((111 : Nat) : Int)) hC d_Mo_word_88 (by decide) ?_
                  refine z_icmp_neR (tgt := 104) hC d_Mo_word_90 rfl (fun c_47 => ?_) (fun c_47 => ?_)
                  · refine z_iconstN hC 0 d_Mo_word_104 rfl ?_
                    exact Z.eq rfl rfl rfl (by rw [jS_eq]; (repeat' split) <;> first | rfl | (exfalso; omega) | (exfalso; simp_all; done) | (exfalso; simp_all; omega)) (hR _ _ d_Mo_word_105)
                  · refine z_iload hC d_Mo_word_93 0 rfl ?_
                    refine z_bipush (a := ((116 : Nat) : Int)) hC d_Mo_word_95 (by decide) ?_
                    refine z_icmp_neR (tgt := 104) hC d_Mo_word_97 rfl (fun c_48 => ?_) (fun c_48 => ?_)
                    · refine z_iconstN hC 0 d_Mo_word_104 rfl ?_
                      exact Z.eq rfl rfl rfl (by rw [jS_eq]; (repeat' split) <;> first | rfl | (exfalso; omega) | (exfalso; simp_all; done) | (exfalso; simp_all; omega)) (hR _ _ d_Mo_word_105)
                    · refine z_iconstN hC 5 d_Mo_word_100 rfl ?_
                      refine z_goto (tgt := 105) hC d_Mo_word_101 rfl ?_
                      exact Z.eq rfl rfl rfl (by rw [jS_eq]; (repeat' split) <;> first | rfl | (exfalso; omega) | (exfalso; simp_all; done) | (exfalso; simp_all; omega)) (hR _ _ d_Mo_word_105)
            · refine z_iconstN hC 4 d_Mo_word_71 rfl ?_
              refine z_goto (tgt := 105) hC d_Mo_word_72 rfl ?_
              exact Z.eq rfl rfl rfl (by rw [jS_eq]; (repeat' split) <;> first | rfl | (exfalso; omega) | (exfalso; simp_all; done) | (exfalso; simp_all; omega)) (hR _ _ d_Mo_word_105)
      · refine z_iload hC d_Mo_word_42 0 rfl ?_
        refine z_bipush (a := ((100 : Nat) : Int)) hC d_Mo_word_44 (by decide) ?_
        refine z_icmp_neR (tgt := 53) hC d_Mo_word_46 rfl (fun c_49 => ?_) (fun c_49 => ?_)
        · refine z_iload_n hC d_Mo_word_53 rfl 5 rfl ?_
          refine z_iconstN hC 2 d_Mo_word_54 rfl ?_
          refine z_icmp_ne (tgt := 75) hC ((e - p : Nat) : Int) ((2 : Nat) : Int) d_Mo_word_55 rfl (iI_t (by omega)) (iI_t (by omega)) (fun c_50 => ?_) (fun c_50 => ?_)
          · refine z_iload_n hC d_Mo_word_75 rfl 5 rfl ?_
            refine z_iconstN hC 3 d_Mo_word_76 rfl ?_
            refine z_icmp_ne (tgt := 104) hC ((e - p : Nat) : Int) ((3 : Nat) : Int) d_Mo_word_77 rfl (iI_t (by omega)) (iI_t (by omega)) (fun c_51 => ?_) (fun c_51 => ?_)
            · refine z_iconstN hC 0 d_Mo_word_104 rfl ?_
              exact Z.eq rfl rfl rfl (by rw [jS_eq]; (repeat' split) <;> first | rfl | (exfalso; omega) | (exfalso; simp_all; done) | (exfalso; simp_all; omega)) (hR _ _ d_Mo_word_105)
            · refine z_iload_n hC d_Mo_word_80 rfl 2 rfl ?_
              refine z_bipush (a := ((110 : Nat) : Int)) hC d_Mo_word_81 (by decide) ?_
              refine z_icmp_neR (tgt := 104) hC d_Mo_word_83 rfl (fun c_52 => ?_) (fun c_52 => ?_)
              · refine z_iconstN hC 0 d_Mo_word_104 rfl ?_
                exact Z.eq rfl rfl rfl (by rw [jS_eq]; (repeat' split) <;> first | rfl | (exfalso; omega) | (exfalso; simp_all; done) | (exfalso; simp_all; omega)) (hR _ _ d_Mo_word_105)
              · refine z_iload hC d_Mo_word_86 1 rfl ?_
                refine z_bipush (a := ((111 : Nat) : Int)) hC d_Mo_word_88 (by decide) ?_
                refine z_icmp_neR (tgt := 104) hC d_Mo_word_90 rfl (fun c_53 => ?_) (fun c_53 => ?_)
                · refine z_iconstN hC 0 d_Mo_word_104 rfl ?_
                  exact Z.eq rfl rfl rfl (by rw [jS_eq]; (repeat' split) <;> first | rfl | (exfalso; omega) | (exfalso; simp_all; done) | (exfalso; simp_all; omega)) (hR _ _ d_Mo_word_105)
                · refine z_iload hC d_Mo_word_93 0 rfl ?_
                  refine z_bipush (a := ((116 : Nat) : Int)) hC d_Mo_word_95 (by decide) ?_
                  refine z_icmp_neR (tgt := 104) hC d_Mo_word_97 rfl (fun c_54 => ?_) (fun c_54 => ?_)
                  · refine z_iconstN hC 0 d_Mo_word_104 rfl ?_
                    exact Z.eq rfl rfl rfl (by rw [jS_eq]; (repeat' split) <;> first | rfl | (exfalso; omega) | (exfalso; simp_all; done) | (exfalso; simp_all; omega)) (hR _ _ d_Mo_word_105)
                  · refine z_iconstN hC 5 d_Mo_word_100 rfl ?_
                    refine z_goto (tgt := 105) hC d_Mo_word_101 rfl ?_
                    exact Z.eq rfl rfl rfl (by rw [jS_eq]; (repeat' split) <;> first | rfl | (exfalso; omega) | (exfalso; simp_all; done) | (exfalso; simp_all; omega)) (hR _ _ d_Mo_word_105)
          · refine z_iload_n hC d_Mo_word_58 rfl 2 rfl ?_
            refine z_bipush (a := ((111 : Nat) : Int)) hC d_Mo_word_59 (by decide) ?_
            refine z_icmp_neR (tgt := 75) hC d_Mo_word_61 rfl (fun c_55 => ?_) (fun c_55 => ?_)
            · refine z_iload_n hC d_Mo_word_75 rfl 5 rfl ?_
              refine z_iconstN hC 3 d_Mo_word_76 rfl ?_
              refine z_icmp_ne (tgt := 104) hC ((e - p : Nat) : Int) ((3 : Nat) : Int) d_Mo_word_77 rfl (iI_t (by omega)) (iI_t (by omega)) (fun c_56 => ?_) (fun c_56 => ?_)
              · refine z_iconstN hC 0 d_Mo_word_104 rfl ?_
                exact Z.eq rfl rfl rfl (by rw [jS_eq]; (repeat' split) <;> first | rfl | (exfalso; omega) | (exfalso; simp_all; done) | (exfalso; simp_all; omega)) (hR _ _ d_Mo_word_105)
              · refine z_iload_n hC d_Mo_word_80 rfl 2 rfl ?_
                refine z_bipush (a := ((110 : Nat) : Int)) hC d_Mo_word_81 (by decide) ?_
                refine z_icmp_neR (tgt := 104) hC d_Mo_word_83 rfl (fun c_57 => ?_) (fun c_57 => ?_)
                · refine z_iconstN hC 0 d_Mo_word_104 rfl ?_
                  exact Z.eq rfl rfl rfl (by rw [jS_eq]; (repeat' split) <;> first | rfl | (exfalso; omega) | (exfalso; simp_all; done) | (exfalso; simp_all; omega)) (hR _ _ d_Mo_word_105)
                · refine z_iload hC d_Mo_word_86 1 rfl ?_
                  refine z_bipush (a := ((111 : Nat) : Int)) hC d_Mo_word_88 (by decide) ?_
                  refine z_icmp_neR (tgt := 104) hC d_Mo_word_90 rfl (fun c_58 => ?_) (fun c_58 => ?_)
                  · refine z_iconstN hC 0 d_Mo_word_104 rfl ?_
                    exact Z.eq rfl rfl rfl (by rw [jS_eq]; (repeat' split) <;> first | rfl | (exfalso; omega) | (exfalso; simp_all; done) | (exfalso; simp_all; omega)) (hR _ _ d_Mo_word_105)
                  · refine z_iload hC d_Mo_word_93 0 rfl ?_
                    refine z_bipush (a := ((116 : Nat) : Int)) hC d_Mo_word_95 (by decide) ?_
                    refine z_icmp_neR (tgt := 104) hC d_Mo_word_97 rfl (fun c_59 => ?_) (fun c_59 => ?_)
                    · refine z_iconstN hC 0 d_Mo_word_104 rfl ?_
                      exact Z.eq rfl rfl rfl (by rw [jS_eq]; (repeat' split) <;> first | rfl | (exfalso; omega) | (exfalso; simp_all; done) | (exfalso; simp_all; omega)) (hR _ _ d_Mo_word_105)
                    · refine z_iconstN hC 5 d_Mo_word_100 rfl ?_
                      refine z_goto (tgt := 105) hC d_Mo_word_101 rfl ?_
                      exact Z.eq rfl rfl rfl (by rw [jS_eq]; (repeat' split) <;> first | rfl | (exfalso; omega) | (exfalso; simp_all; done) | (exfalso; simp_all; omega)) (hR _ _ d_Mo_word_105)
            · refine z_iload hC d_Mo_word_64 1 rfl ?_
              refine z_bipush (a := ((114 : Nat) : Int)) hC d_Mo_word_66 (by decide) ?_
              refine z_icmp_neR (tgt := 75) hC d_Mo_word_68 rfl (fun c_60 => ?_) (fun c_60 => ?_)
              · refine z_iload_n hC d_Mo_word_75 rfl 5 rfl ?_
                refine z_iconstN hC 3 d_Mo_word_76 rfl ?_
                refine z_icmp_ne (tgt := 104) hC ((e - p : Nat) : Int) ((3 : Nat) : Int) d_Mo_word_77 rfl (iI_t (by omega)) (iI_t (by omega)) (fun c_61 => ?_) (fun c_61 => ?_)
                · refine z_iconstN hC 0 d_Mo_word_104 rfl ?_
                  exact Z.eq rfl rfl rfl (by rw [jS_eq]; (repeat' split) <;> first | rfl | (exfalso; omega) | (exfalso; simp_all; done) | (exfalso; simp_all; omega)) (hR _ _ d_Mo_word_105)
                · refine z_iload_n hC d_Mo_word_80 rfl 2 rfl ?_
                  refine z_bipush (a := ((110 : Nat) : Int)) hC d_Mo_word_81 (by decide) ?_
                  refine z_icmp_neR (tgt := 104) hC d_Mo_word_83 rfl (fun c_62 => ?_) (fun c_62 => ?_)
                  · refine z_iconstN hC 0 d_Mo_word_104 rfl ?_
                    exact Z.eq rfl rfl rfl (by rw [jS_eq]; (repeat' split) <;> first | rfl | (exfalso; omega) | (exfalso; simp_all; done) | (exfalso; simp_all; omega)) (hR _ _ d_Mo_word_105)
                  · refine z_iload hC d_Mo_word_86 1 rfl ?_
                    refine z_bipush (a := ((111 : Nat) : Int)) hC d_Mo_word_88 (by decide) ?_
                    refine z_icmp_neR (tgt := 104) hC d_Mo_word_90 rfl (fun c_63 => ?_) (fun c_63 => ?_)
                    · refine z_iconstN hC 0 d_Mo_word_104 rfl ?_
                      exact Z.eq rfl rfl rfl (by rw [jS_eq]; (repeat' split) <;> first | rfl | (exfalso; omega) | (exfalso; simp_all; done) | (exfalso; simp_all; omega)) (hR _ _ d_Mo_word_105)
                    · refine z_iload hC d_Mo_word_93 0 rfl ?_
                      refine z_bipush (a := ((116 : Nat) : Int)) hC d_Mo_word_95 (by decide) ?_
                      refine z_icmp_neR (tgt := 104) hC d_Mo_word_97 rfl (fun c_64 => ?_) (fun c_64 => ?_)
                      · refine z_iconstN hC 0 d_Mo_word_104 rfl ?_
                        exact Z.eq rfl rfl rfl (by rw [jS_eq]; (repeat' split) <;> first | rfl | (exfalso; omega) | (exfalso; simp_all; done) | (exfalso; simp_all; omega)) (hR _ _ d_Mo_word_105)
                      · refine z_iconstN hC 5 d_Mo_word_100 rfl ?_
                        refine z_goto (tgt := 105) hC d_Mo_word_101 rfl ?_
                        exact Z.eq rfl rfl rfl (by rw [jS_eq]; (repeat' split) <;> first | rfl | (exfalso; omega) | (exfalso; simp_all; done) | (exfalso; simp_all; omega)) (hR _ _ d_Mo_word_105)
              · refine z_iconstN hC 4 d_Mo_word_71 rfl ?_
                refine z_goto (tgt := 105) hC d_Mo_word_72 rfl ?_
                exact Z.eq rfl rfl rfl (by rw [jS_eq]; (repeat' split) <;> first | rfl | (exfalso; omega) | (exfalso; simp_all; done) | (exfalso; simp_all; omega)) (hR _ _ d_Mo_word_105)
        · refine z_iconstN hC 3 d_Mo_word_49 rfl ?_
          refine z_goto (tgt := 105) hC d_Mo_word_50 rfl ?_
          exact Z.eq rfl rfl rfl (by rw [jS_eq]; (repeat' split) <;> first | rfl | (exfalso; omega) | (exfalso; simp_all; done) | (exfalso; simp_all; omega)) (hR _ _ d_Mo_word_105)
set_option maxHeartbeats 4000000 in
set_option maxRecDepth 100000 in
theorem k_Mo_index (l : Launch) (g : ZG) (m0 m1 m2 m3 m4 m5 m6 m7 m8 m9 m10 m11 m12 m13 m14 m15 m16 m17 m18 m19 sn ap wr xc un bc wc rc hc : Nat) (sf xl : Nat → Int32) (xn : Nat → Nat) (hsn : sn ≤ 200) (h8 : y8 sf) (hxc : xc ≤ 8) (hxn : ∀ j, j < xc → xn j ≤ 8) (h8x : y8 xl)   : Ct l g y_Mo_index c_Mo_index 4 (some .int) { frames := 2, cells := 0, slots := 0, locals := 46 } [.ref m0] [(m0, .inr (10, [.int (iI ((0 : Nat) : Int)), .ref m1, .int (iI ((sn : Nat) : Int)), .int (iI ((ap : Nat) : Int)), .int (iI ((wr : Nat) : Int)), .ref m2, .ref m3, .ref m4, .int (iI ((xc : Nat) : Int)), .ref m5, .int (iI ((un : Nat) : Int)), .ref m6, .ref m7, .int (iI ((bc : Nat) : Int)), .ref m8, .int (iI ((wc : Nat) : Int)), .ref m9, .ref m10, .ref m11, .ref m12, .int (iI ((rc : Nat) : Int)), .ref m13, .ref m14, .ref m15, .ref m16, .ref m17, .int (iI ((hc : Nat) : Int)), .ref m18, .ref m19])), (m1, .inl ((g.2.1 4), 200, .inl (yF sf))), (m2, .inl ((g.2.1 4), 64, .inl (yF xl))), (m3, .inl ((g.2.1 0), 8, .inl (nF xn)))] (some (.int (iI (if xc < 8 ∧ 1 ≤ rowE sn sf (sn - 0) 0 ∧ rowE sn sf (sn - 0) 0 ≤ 8 ∧ rowE sn sf (sn - 0) 0 = sn ∧ jS sn sf 0 (rowE sn sf (sn - 0) 0) = -1 ∧ fnd (nmB xn xl sn sf 0 (rowE sn sf (sn - 0) 0)) xc 0 = -1 then ((xc : Nat) : Int) else -1)))) [(m0, .inr (10, [.int (iI ((0 : Nat) : Int)), .ref m1, .int (iI ((0 : Nat) : Int)), .int (iI ((ap : Nat) : Int)), .int (iI ((wr : Nat) : Int)), .ref m2, .ref m3, .ref m4, .int (iI ((if xc < 8 ∧ 1 ≤ rowE sn sf (sn - 0) 0 ∧ rowE sn sf (sn - 0) 0 ≤ 8 ∧ rowE sn sf (sn - 0) 0 = sn ∧ jS sn sf 0 (rowE sn sf (sn - 0) 0) = -1 ∧ fnd (nmB xn xl sn sf 0 (rowE sn sf (sn - 0) 0)) xc 0 = -1 then xc + 1 else xc : Nat) : Int)), .ref m5, .int (iI ((un : Nat) : Int)), .ref m6, .ref m7, .int (iI ((bc : Nat) : Int)), .ref m8, .int (iI ((wc : Nat) : Int)), .ref m9, .ref m10, .ref m11, .ref m12, .int (iI ((rc : Nat) : Int)), .ref m13, .ref m14, .ref m15, .ref m16, .ref m17, .int (iI ((hc : Nat) : Int)), .ref m18, .ref m19])), (m1, .inl ((g.2.1 4), 200, .inl (yF sf))), (m2, .inl ((g.2.1 4), 64, .inl (yF (if xc < 8 ∧ 1 ≤ rowE sn sf (sn - 0) 0 ∧ rowE sn sf (sn - 0) 0 ≤ 8 ∧ rowE sn sf (sn - 0) 0 = sn ∧ jS sn sf 0 (rowE sn sf (sn - 0) 0) = -1 ∧ fnd (nmB xn xl sn sf 0 (rowE sn sf (sn - 0) 0)) xc 0 = -1 then rgF xl sn sf xc else xl)))), (m3, .inl ((g.2.1 0), 8, .inl (nF (if xc < 8 ∧ 1 ≤ rowE sn sf (sn - 0) 0 ∧ rowE sn sf (sn - 0) 0 ≤ 8 ∧ rowE sn sf (sn - 0) 0 = sn ∧ jS sn sf 0 (rowE sn sf (sn - 0) 0) = -1 ∧ fnd (nmB xn xl sn sf 0 (rowE sn sf (sn - 0) 0)) xc 0 = -1 then up xn xc sn else xn))))] := by
  refine ct_i (lv := [(0, .ref m0)]) (by decide) rfl (Nat.le_of_ble_eq_true rfl) rfl ?_
  intro x hC hR
  have hr9 := rowE_rng sn sf (sn - 0) 0
  have hw9 := wd0_0 sn sf 0 (rowE sn sf (sn - 0) 0)
  have hf9 := fnd_rng (nmB xn xl sn sf 0 (rowE sn sf (sn - 0) 0)) xc 0
  refine z_aload_n hC d_Mo_index_0 rfl 0 rfl ?_
  refine z_iconstN hC 0 d_Mo_index_1 rfl ?_
  refine z_put (v := .int (iI ((0 : Nat) : Int))) (ty := .int) (w' := [(m0, .inr (10, [.int (iI ((0 : Nat) : Int)), .ref m1, .int (iI ((sn : Nat) : Int)), .int (iI ((ap : Nat) : Int)), .int (iI ((wr : Nat) : Int)), .ref m2, .ref m3, .ref m4, .int (iI ((xc : Nat) : Int)), .ref m5, .int (iI ((un : Nat) : Int)), .ref m6, .ref m7, .int (iI ((bc : Nat) : Int)), .ref m8, .int (iI ((wc : Nat) : Int)), .ref m9, .ref m10, .ref m11, .ref m12, .int (iI ((rc : Nat) : Int)), .ref m13, .ref m14, .ref m15, .ref m16, .ref m17, .int (iI ((hc : Nat) : Int)), .ref m18, .ref m19])), (m1, .inl ((g.2.1 4), 200, .inl (yF sf))), (m2, .inl ((g.2.1 4), 64, .inl (yF xl))), (m3, .inl ((g.2.1 0), 8, .inl (nF xn)))]) hC hi_Mo ty_Mo ok_Mo nm_Mo 0 rfl rfl 0 (by decide) mw_735 rfl rfl rfl rfl rfl (Nat.le_of_ble_eq_true rfl) rfl d_Mo_index_2 ?_
  refine z_aload_n hC d_Mo_index_5 rfl 0 rfl ?_
  refine z_iconstN hC 0 d_Mo_index_6 rfl ?_
  refine z_callV (q0 := 0) (ci := 10) (w' := [(m0, .inr (10, [.int (iI ((0 : Nat) : Int)), .ref m1, .int (iI ((sn : Nat) : Int)), .int (iI ((ap : Nat) : Int)), .int (iI ((wr : Nat) : Int)), .ref m2, .ref m3, .ref m4, .int (iI ((xc : Nat) : Int)), .ref m5, .int (iI ((un : Nat) : Int)), .ref m6, .ref m7, .int (iI ((bc : Nat) : Int)), .ref m8, .int (iI ((wc : Nat) : Int)), .ref m9, .ref m10, .ref m11, .ref m12, .int (iI ((rc : Nat) : Int)), .ref m13, .ref m14, .ref m15, .ref m16, .ref m17, .int (iI ((hc : Nat) : Int)), .ref m18, .ref m19])), (m1, .inl ((g.2.1 4), 200, .inl (yF sf))), (m2, .inl ((g.2.1 4), 64, .inl (yF xl))), (m3, .inl ((g.2.1 0), 8, .inl (nF xn)))]) (st1 := [.int (iI ((rowE sn sf (sn - 0) 0 - 0 : Nat) : Int))]) hC (k_Mo_letters l g m0 m1 m2 m3 m4 m5 m6 m7 m8 m9 m10 m11 m12 m13 m14 m15 m16 m17 m18 m19 sn ap wr xc un bc wc rc hc sf 0 hsn h8 (by omega)) mw_831 zv_Mo_letters rfl rfl ⟨Nat.le_of_ble_eq_true rfl, Nat.le_of_ble_eq_true rfl⟩ [0, 1] rfl rfl rfl rfl rfl rfl rfl rfl (Nat.le_of_ble_eq_true rfl) d_Mo_index_7 rfl ⟨Nat.zero_le _, Nat.zero_le _⟩ rfl ?_
  refine z_istore_n (lv' := [(1, .int (iI ((rowE sn sf (sn - 0) 0 - 0 : Nat) : Int))), (0, .ref m0)]) hC d_Mo_index_10 rfl (by decide) rfl ?_
  refine z_iload_n hC d_Mo_index_11 rfl 0 rfl ?_
  refine z_if_le (tgt := 61) hC ((rowE sn sf (sn - 0) 0 - 0 : Nat) : Int) d_Mo_index_12 rfl (iI_t (by omega)) (fun c_1 => ?_) (fun c_1 => ?_)
  · refine z_iconstN hC 0 d_Mo_index_61 rfl ?_
    refine z_istore_n (lv' := [(2, .int (iI ((0 : Nat) : Int))), (1, .int (iI ((rowE sn sf (sn - 0) 0 - 0 : Nat) : Int))), (0, .ref m0)]) hC d_Mo_index_62 rfl (by decide) rfl ?_
    refine z_aload_n hC d_Mo_index_63 rfl 2 rfl ?_
    refine z_iconstN hC 0 d_Mo_index_64 rfl ?_
    refine z_put (v := .int (iI ((0 : Nat) : Int))) (ty := .int) (w' := [(m0, .inr (10, [.int (iI ((0 : Nat) : Int)), .ref m1, .int (iI ((0 : Nat) : Int)), .int (iI ((ap : Nat) : Int)), .int (iI ((wr : Nat) : Int)), .ref m2, .ref m3, .ref m4, .int (iI ((xc : Nat) : Int)), .ref m5, .int (iI ((un : Nat) : Int)), .ref m6, .ref m7, .int (iI ((bc : Nat) : Int)), .ref m8, .int (iI ((wc : Nat) : Int)), .ref m9, .ref m10, .ref m11, .ref m12, .int (iI ((rc : Nat) : Int)), .ref m13, .ref m14, .ref m15, .ref m16, .ref m17, .int (iI ((hc : Nat) : Int)), .ref m18, .ref m19])), (m1, .inl ((g.2.1 4), 200, .inl (yF sf))), (m2, .inl ((g.2.1 4), 64, .inl (yF xl))), (m3, .inl ((g.2.1 0), 8, .inl (nF xn)))]) hC hi_Mo ty_Mo ok_Mo nm_Mo 0 rfl rfl 2 (by decide) mw_737 rfl rfl rfl rfl rfl (Nat.le_of_ble_eq_true rfl) rfl d_Mo_index_65 ?_
    refine z_iload_n hC d_Mo_index_68 rfl 0 rfl ?_
    refine z_if_ne (tgt := 74) hC ((0 : Nat) : Int) d_Mo_index_69 rfl (iI_t (by omega)) (fun c_2 => absurd c_2 (by decide)) (fun c_2 => ?_)
    refine z_iconst hC d_Mo_index_72 ?_
    exact Z.eq (by first | (exfalso; omega) | (simp only [if_neg (show ¬ (xc < 8 ∧ 1 ≤ rowE sn sf (sn - 0) 0 ∧ rowE sn sf (sn - 0) 0 ≤ 8 ∧ rowE sn sf (sn - 0) 0 = sn ∧ jS sn sf 0 (rowE sn sf (sn - 0) 0) = -1 ∧ fnd (nmB xn xl sn sf 0 (rowE sn sf (sn - 0) 0)) xc 0 = -1) by omega)]; done) | (simp only [if_pos (show xc < 8 ∧ 1 ≤ rowE sn sf (sn - 0) 0 ∧ rowE sn sf (sn - 0) 0 ≤ 8 ∧ rowE sn sf (sn - 0) 0 = sn ∧ jS sn sf 0 (rowE sn sf (sn - 0) 0) = -1 ∧ fnd (nmB xn xl sn sf 0 (rowE sn sf (sn - 0) 0)) xc 0 = -1 by omega)]; rw [show m = rgF xl sn sf xc from funext (fun k => by rw [hm, rgF, show j = sn by omega]), show rowE sn sf (sn - 0) 0 - 0 = sn by omega])) rfl rfl (by first | (exfalso; omega) | (rw [if_neg (by omega)]; done) | (rw [if_pos (by omega)]; rfl)) (hR _ _ d_Mo_index_73)
  · refine z_iload_n hC d_Mo_index_15 rfl 0 rfl ?_
    refine z_bipush (a := ((9 : Nat) : Int)) hC d_Mo_index_16 (by decide) ?_
    refine z_icmp_ge (tgt := 61) hC ((rowE sn sf (sn - 0) 0 - 0 : Nat) : Int) ((9 : Nat) : Int) d_Mo_index_18 rfl (iI_t (by omega)) (iI_t (by omega)) (fun c_3 => ?_) (fun c_3 => ?_)
    · refine z_iconstN hC 0 d_Mo_index_61 rfl ?_
      refine z_istore_n (lv' := [(2, .int (iI ((0 : Nat) : Int))), (1, .int (iI ((rowE sn sf (sn - 0) 0 - 0 : Nat) : Int))), (0, .ref m0)]) hC d_Mo_index_62 rfl (by decide) rfl ?_
      refine z_aload_n hC d_Mo_index_63 rfl 2 rfl ?_
      refine z_iconstN hC 0 d_Mo_index_64 rfl ?_
      refine z_put (v := .int (iI ((0 : Nat) : Int))) (ty := .int) (w' := [(m0, .inr (10, [.int (iI ((0 : Nat) : Int)), .ref m1, .int (iI ((0 : Nat) : Int)), .int (iI ((ap : Nat) : Int)), .int (iI ((wr : Nat) : Int)), .ref m2, .ref m3, .ref m4, .int (iI ((xc : Nat) : Int)), .ref m5, .int (iI ((un : Nat) : Int)), .ref m6, .ref m7, .int (iI ((bc : Nat) : Int)), .ref m8, .int (iI ((wc : Nat) : Int)), .ref m9, .ref m10, .ref m11, .ref m12, .int (iI ((rc : Nat) : Int)), .ref m13, .ref m14, .ref m15, .ref m16, .ref m17, .int (iI ((hc : Nat) : Int)), .ref m18, .ref m19])), (m1, .inl ((g.2.1 4), 200, .inl (yF sf))), (m2, .inl ((g.2.1 4), 64, .inl (yF xl))), (m3, .inl ((g.2.1 0), 8, .inl (nF xn)))]) hC hi_Mo ty_Mo ok_Mo nm_Mo 0 rfl rfl 2 (by decide) mw_737 rfl rfl rfl rfl rfl (Nat.le_of_ble_eq_true rfl) rfl d_Mo_index_65 ?_
      refine z_iload_n hC d_Mo_index_68 rfl 0 rfl ?_
      refine z_if_ne (tgt := 74) hC ((0 : Nat) : Int) d_Mo_index_69 rfl (iI_t (by omega)) (fun c_4 => absurd c_4 (by decide)) (fun c_4 => ?_)
      refine z_iconst hC d_Mo_index_72 ?_
      exact Z.eq (by first | (exfalso; omega) | (simp only [if_neg (show ¬ (xc < 8 ∧ 1 ≤ rowE sn sf (sn - 0) 0 ∧ rowE sn sf (sn - 0) 0 ≤ 8 ∧ rowE sn sf (sn - 0) 0 = sn ∧ jS sn sf 0 (rowE sn sf (sn - 0) 0) = -1 ∧ fnd (nmB xn xl sn sf 0 (rowE sn sf (sn - 0) 0)) xc 0 = -1) by omega)]; done) | (simp only [if_pos (show xc < 8 ∧ 1 ≤ rowE sn sf (sn - 0) 0 ∧ rowE sn sf (sn - 0) 0 ≤ 8 ∧ rowE sn sf (sn - 0) 0 = sn ∧ jS sn sf 0 (rowE sn sf (sn - 0) 0) = -1 ∧ fnd (nmB xn xl sn sf 0 (rowE sn sf (sn - 0) 0)) xc 0 = -1 by omega)]; rw [show m = rgF xl sn sf xc from funext (fun k => by rw [hm, rgF, show j = sn by omega]), show rowE sn sf (sn - 0) 0 - 0 = sn by omega])) rfl rfl (by first | (exfalso; omega) | (rw [if_neg (by omega)]; done) | (rw [if_pos (by omega)]; rfl)) (hR _ _ d_Mo_index_73)
    · refine z_iload_n hC d_Mo_index_21 rfl 0 rfl ?_
      refine z_aload_n hC d_Mo_index_22 rfl 1 rfl ?_
      refine z_get hC hi_Mo 0 rfl rfl 2 (by decide) mw_737 (Or.inl rfl) rfl d_Mo_index_23 ?_
      refine z_icmp_ne (tgt := 61) hC ((rowE sn sf (sn - 0) 0 - 0 : Nat) : Int) ((sn : Nat) : Int) d_Mo_index_26 rfl (iI_t (by omega)) (iI_t (by omega)) (fun c_5 => ?_) (fun c_5 => ?_)
      · refine z_iconstN hC 0 d_Mo_index_61 rfl ?_
        refine z_istore_n (lv' := [(2, .int (iI ((0 : Nat) : Int))), (1, .int (iI ((rowE sn sf (sn - 0) 0 - 0 : Nat) : Int))), (0, .ref m0)]) hC d_Mo_index_62 rfl (by decide) rfl ?_
        refine z_aload_n hC d_Mo_index_63 rfl 2 rfl ?_
        refine z_iconstN hC 0 d_Mo_index_64 rfl ?_
        refine z_put (v := .int (iI ((0 : Nat) : Int))) (ty := .int) (w' := [(m0, .inr (10, [.int (iI ((0 : Nat) : Int)), .ref m1, .int (iI ((0 : Nat) : Int)), .int (iI ((ap : Nat) : Int)), .int (iI ((wr : Nat) : Int)), .ref m2, .ref m3, .ref m4, .int (iI ((xc : Nat) : Int)), .ref m5, .int (iI ((un : Nat) : Int)), .ref m6, .ref m7, .int (iI ((bc : Nat) : Int)), .ref m8, .int (iI ((wc : Nat) : Int)), .ref m9, .ref m10, .ref m11, .ref m12, .int (iI ((rc : Nat) : Int)), .ref m13, .ref m14, .ref m15, .ref m16, .ref m17, .int (iI ((hc : Nat) : Int)), .ref m18, .ref m19])), (m1, .inl ((g.2.1 4), 200, .inl (yF sf))), (m2, .inl ((g.2.1 4), 64, .inl (yF xl))), (m3, .inl ((g.2.1 0), 8, .inl (nF xn)))]) hC hi_Mo ty_Mo ok_Mo nm_Mo 0 rfl rfl 2 (by decide) mw_737 rfl rfl rfl rfl rfl (Nat.le_of_ble_eq_true rfl) rfl d_Mo_index_65 ?_
        refine z_iload_n hC d_Mo_index_68 rfl 0 rfl ?_
        refine z_if_ne (tgt := 74) hC ((0 : Nat) : Int) d_Mo_index_69 rfl (iI_t (by omega)) (fun c_6 => absurd c_6 (by decide)) (fun c_6 => ?_)
        refine z_iconst hC d_Mo_index_72 ?_
        exact Z.eq (by first | (exfalso; omega) | (simp only [if_neg (show ¬ (xc < 8 ∧ 1 ≤ rowE sn sf (sn - 0) 0 ∧ rowE sn sf (sn - 0) 0 ≤ 8 ∧ rowE sn sf (sn - 0) 0 = sn ∧ jS sn sf 0 (rowE sn sf (sn - 0) 0) = -1 ∧ fnd (nmB xn xl sn sf 0 (rowE sn sf (sn - 0) 0)) xc 0 = -1) by omega)]; done) | (simp only [if_pos (show xc < 8 ∧ 1 ≤ rowE sn sf (sn - 0) 0 ∧ rowE sn sf (sn - 0) 0 ≤ 8 ∧ rowE sn sf (sn - 0) 0 = sn ∧ jS sn sf 0 (rowE sn sf (sn - 0) 0) = -1 ∧ fnd (nmB xn xl sn sf 0 (rowE sn sf (sn - 0) 0)) xc 0 = -1 by omega)]; rw [show m = rgF xl sn sf xc from funext (fun k => by rw [hm, rgF, show j = sn by omega]), show rowE sn sf (sn - 0) 0 - 0 = sn by omega])) rfl rfl (by first | (exfalso; omega) | (rw [if_neg (by omega)]; done) | (rw [if_pos (by omega)]; rfl)) (hR _ _ d_Mo_index_73)
      · refine z_aload_n hC d_Mo_index_29 rfl 1 rfl ?_
        refine z_iconstN hC 0 d_Mo_index_30 rfl ?_
        refine z_iload_n hC d_Mo_index_31 rfl 0 rfl ?_
        refine z_callV (q0 := 0) (ci := 10) (w' := [(m0, .inr (10, [.int (iI ((0 : Nat) : Int)), .ref m1, .int (iI ((sn : Nat) : Int)), .int (iI ((ap : Nat) : Int)), .int (iI ((wr : Nat) : Int)), .ref m2, .ref m3, .ref m4, .int (iI ((xc : Nat) : Int)), .ref m5, .int (iI ((un : Nat) : Int)), .ref m6, .ref m7, .int (iI ((bc : Nat) : Int)), .ref m8, .int (iI ((wc : Nat) : Int)), .ref m9, .ref m10, .ref m11, .ref m12, .int (iI ((rc : Nat) : Int)), .ref m13, .ref m14, .ref m15, .ref m16, .ref m17, .int (iI ((hc : Nat) : Int)), .ref m18, .ref m19])), (m1, .inl ((g.2.1 4), 200, .inl (yF sf))), (m2, .inl ((g.2.1 4), 64, .inl (yF xl))), (m3, .inl ((g.2.1 0), 8, .inl (nF xn)))]) (st1 := [.int (iI (wd0 (jS sn sf 0 (rowE sn sf (sn - 0) 0))))]) hC (k_Mo_word l g m0 m1 m2 m3 m4 m5 m6 m7 m8 m9 m10 m11 m12 m13 m14 m15 m16 m17 m18 m19 sn ap wr xc un bc wc rc hc sf 0 (rowE sn sf (sn - 0) 0) hsn h8 (by omega) (by omega)) mw_842 zv_Mo_word rfl rfl ⟨Nat.le_of_ble_eq_true rfl, Nat.le_of_ble_eq_true rfl⟩ [0, 1] rfl rfl rfl rfl rfl rfl rfl rfl (Nat.le_of_ble_eq_true rfl) d_Mo_index_32 rfl ⟨Nat.zero_le _, Nat.zero_le _⟩ rfl ?_
        refine z_if_ne (tgt := 61) hC (wd0 (jS sn sf 0 (rowE sn sf (sn - 0) 0))) d_Mo_index_35 rfl (iI_t (by omega)) (fun c_7 => ?_) (fun c_7 => ?_)
        · refine z_iconstN hC 0 d_Mo_index_61 rfl ?_
          refine z_istore_n (lv' := [(2, .int (iI ((0 : Nat) : Int))), (1, .int (iI ((rowE sn sf (sn - 0) 0 - 0 : Nat) : Int))), (0, .ref m0)]) hC d_Mo_index_62 rfl (by decide) rfl ?_
          refine z_aload_n hC d_Mo_index_63 rfl 2 rfl ?_
          refine z_iconstN hC 0 d_Mo_index_64 rfl ?_
          refine z_put (v := .int (iI ((0 : Nat) : Int))) (ty := .int) (w' := [(m0, .inr (10, [.int (iI ((0 : Nat) : Int)), .ref m1, .int (iI ((0 : Nat) : Int)), .int (iI ((ap : Nat) : Int)), .int (iI ((wr : Nat) : Int)), .ref m2, .ref m3, .ref m4, .int (iI ((xc : Nat) : Int)), .ref m5, .int (iI ((un : Nat) : Int)), .ref m6, .ref m7, .int (iI ((bc : Nat) : Int)), .ref m8, .int (iI ((wc : Nat) : Int)), .ref m9, .ref m10, .ref m11, .ref m12, .int (iI ((rc : Nat) : Int)), .ref m13, .ref m14, .ref m15, .ref m16, .ref m17, .int (iI ((hc : Nat) : Int)), .ref m18, .ref m19])), (m1, .inl ((g.2.1 4), 200, .inl (yF sf))), (m2, .inl ((g.2.1 4), 64, .inl (yF xl))), (m3, .inl ((g.2.1 0), 8, .inl (nF xn)))]) hC hi_Mo ty_Mo ok_Mo nm_Mo 0 rfl rfl 2 (by decide) mw_737 rfl rfl rfl rfl rfl (Nat.le_of_ble_eq_true rfl) rfl d_Mo_index_65 ?_
          refine z_iload_n hC d_Mo_index_68 rfl 0 rfl ?_
          refine z_if_ne (tgt := 74) hC ((0 : Nat) : Int) d_Mo_index_69 rfl (iI_t (by omega)) (fun c_8 => absurd c_8 (by decide)) (fun c_8 => ?_)
          refine z_iconst hC d_Mo_index_72 ?_
          exact Z.eq (by first | (exfalso; omega) | (simp only [if_neg (show ¬ (xc < 8 ∧ 1 ≤ rowE sn sf (sn - 0) 0 ∧ rowE sn sf (sn - 0) 0 ≤ 8 ∧ rowE sn sf (sn - 0) 0 = sn ∧ jS sn sf 0 (rowE sn sf (sn - 0) 0) = -1 ∧ fnd (nmB xn xl sn sf 0 (rowE sn sf (sn - 0) 0)) xc 0 = -1) by omega)]; done) | (simp only [if_pos (show xc < 8 ∧ 1 ≤ rowE sn sf (sn - 0) 0 ∧ rowE sn sf (sn - 0) 0 ≤ 8 ∧ rowE sn sf (sn - 0) 0 = sn ∧ jS sn sf 0 (rowE sn sf (sn - 0) 0) = -1 ∧ fnd (nmB xn xl sn sf 0 (rowE sn sf (sn - 0) 0)) xc 0 = -1 by omega)]; rw [show m = rgF xl sn sf xc from funext (fun k => by rw [hm, rgF, show j = sn by omega]), show rowE sn sf (sn - 0) 0 - 0 = sn by omega])) rfl rfl (by first | (exfalso; omega) | (rw [if_neg (by omega)]; done) | (rw [if_pos (by omega)]; rfl)) (hR _ _ d_Mo_index_73)
        · refine z_aload_n hC d_Mo_index_38 rfl 1 rfl ?_
          refine z_iconstN hC 0 d_Mo_index_39 rfl ?_
          refine z_iload_n hC d_Mo_index_40 rfl 0 rfl ?_
          refine z_callV (q0 := 0) (ci := 10) (w' := [(m0, .inr (10, [.int (iI ((0 : Nat) : Int)), .ref m1, .int (iI ((sn : Nat) : Int)), .int (iI ((ap : Nat) : Int)), .int (iI ((wr : Nat) : Int)), .ref m2, .ref m3, .ref m4, .int (iI ((xc : Nat) : Int)), .ref m5, .int (iI ((un : Nat) : Int)), .ref m6, .ref m7, .int (iI ((bc : Nat) : Int)), .ref m8, .int (iI ((wc : Nat) : Int)), .ref m9, .ref m10, .ref m11, .ref m12, .int (iI ((rc : Nat) : Int)), .ref m13, .ref m14, .ref m15, .ref m16, .ref m17, .int (iI ((hc : Nat) : Int)), .ref m18, .ref m19])), (m1, .inl ((g.2.1 4), 200, .inl (yF sf))), (m2, .inl ((g.2.1 4), 64, .inl (yF xl))), (m3, .inl ((g.2.1 0), 8, .inl (nF xn)))]) (st1 := [.int (iI (fnd (nmB xn xl sn sf 0 (rowE sn sf (sn - 0) 0)) xc 0))]) hC (k_Mo_named l g m0 m1 m2 m3 m4 m5 m6 m7 m8 m9 m10 m11 m12 m13 m14 m15 m16 m17 m18 m19 sn ap wr xc un bc wc rc hc sf xl xn 0 (rowE sn sf (sn - 0) 0) hsn h8 hxc hxn h8x (by omega) (by omega)) mw_846 zv_Mo_named rfl rfl ⟨Nat.le_of_ble_eq_true rfl, Nat.le_of_ble_eq_true rfl⟩ [0, 1, 2, 3] rfl rfl rfl rfl rfl rfl rfl rfl (Nat.le_of_ble_eq_true rfl) d_Mo_index_41 rfl ⟨Nat.zero_le _, Nat.zero_le _⟩ rfl ?_
          refine z_iconst hC d_Mo_index_44 ?_
          refine z_icmp_ne (tgt := 61) hC (fnd (nmB xn xl sn sf 0 (rowE sn sf (sn - 0) 0)) xc 0) (-1) d_Mo_index_45 rfl (iI_t (by omega)) (iI_t (by omega)) (fun c_9 => ?_) (fun c_9 => ?_)
          · refine z_iconstN hC 0 d_Mo_index_61 rfl ?_
            refine z_istore_n (lv' := [(2, .int (iI ((0 : Nat) : Int))), (1, .int (iI ((rowE sn sf (sn - 0) 0 - 0 : Nat) : Int))), (0, .ref m0)]) hC d_Mo_index_62 rfl (by decide) rfl ?_
            refine z_aload_n hC d_Mo_index_63 rfl 2 rfl ?_
            refine z_iconstN hC 0 d_Mo_index_64 rfl ?_
            refine z_put (v := .int (iI ((0 : Nat) : Int))) (ty := .int) (w' := [(m0, .inr (10, [.int (iI ((0 : Nat) : Int)), .ref m1, .int (iI ((0 : Nat) : Int)), .int (iI ((ap : Nat) : Int)), .int (iI ((wr : Nat) : Int)), .ref m2, .ref m3, .ref m4, .int (iI ((xc : Nat) : Int)), .ref m5, .int (iI ((un : Nat) : Int)), .ref m6, .ref m7, .int (iI ((bc : Nat) : Int)), .ref m8, .int (iI ((wc : Nat) : Int)), .ref m9, .ref m10, .ref m11, .ref m12, .int (iI ((rc : Nat) : Int)), .ref m13, .ref m14, .ref m15, .ref m16, .ref m17, .int (iI ((hc : Nat) : Int)), .ref m18, .ref m19])), (m1, .inl ((g.2.1 4), 200, .inl (yF sf))), (m2, .inl ((g.2.1 4), 64, .inl (yF xl))), (m3, .inl ((g.2.1 0), 8, .inl (nF xn)))]) hC hi_Mo ty_Mo ok_Mo nm_Mo 0 rfl rfl 2 (by decide) mw_737 rfl rfl rfl rfl rfl (Nat.le_of_ble_eq_true rfl) rfl d_Mo_index_65 ?_
            refine z_iload_n hC d_Mo_index_68 rfl 0 rfl ?_
            refine z_if_ne (tgt := 74) hC ((0 : Nat) : Int) d_Mo_index_69 rfl (iI_t (by omega)) (fun c_10 => absurd c_10 (by decide)) (fun c_10 => ?_)
            refine z_iconst hC d_Mo_index_72 ?_
            exact Z.eq (by first | (exfalso; omega) | (simp only [if_neg (show ¬ (xc < 8 ∧ 1 ≤ rowE sn sf (sn - 0) 0 ∧ rowE sn sf (sn - 0) 0 ≤ 8 ∧ rowE sn sf (sn - 0) 0 = sn ∧ jS sn sf 0 (rowE sn sf (sn - 0) 0) = -1 ∧ fnd (nmB xn xl sn sf 0 (rowE sn sf (sn - 0) 0)) xc 0 = -1) by omega)]; done) | (simp only [if_pos (show xc < 8 ∧ 1 ≤ rowE sn sf (sn - 0) 0 ∧ rowE sn sf (sn - 0) 0 ≤ 8 ∧ rowE sn sf (sn - 0) 0 = sn ∧ jS sn sf 0 (rowE sn sf (sn - 0) 0) = -1 ∧ fnd (nmB xn xl sn sf 0 (rowE sn sf (sn - 0) 0)) xc 0 = -1 by omega)]; rw [show m = rgF xl sn sf xc from funext (fun k => by rw [hm, rgF, show j = sn by omega]), show rowE sn sf (sn - 0) 0 - 0 = sn by omega])) rfl rfl (by first | (exfalso; omega) | (rw [if_neg (by omega)]; done) | (rw [if_pos (by omega)]; rfl)) (hR _ _ d_Mo_index_73)
          · refine z_aload_n hC d_Mo_index_48 rfl 1 rfl ?_
            refine z_get hC hi_Mo 0 rfl rfl 8 (by decide) mw_743 (Or.inl rfl) rfl d_Mo_index_49 ?_
            refine z_bipush (a := ((8 : Nat) : Int)) hC d_Mo_index_52 (by decide) ?_
            refine z_icmp_ge (tgt := 61) hC ((xc : Nat) : Int) ((8 : Nat) : Int) d_Mo_index_54 rfl (iI_t (by omega)) (iI_t (by omega)) (fun c_11 => ?_) (fun c_11 => ?_)
            · refine z_iconstN hC 0 d_Mo_index_61 rfl ?_
              refine z_istore_n (lv' := [(2, .int (iI ((0 : Nat) : Int))), (1, .int (iI ((rowE sn sf (sn - 0) 0 - 0 : Nat) : Int))), (0, .ref m0)]) hC d_Mo_index_62 rfl (by decide) rfl ?_
              refine z_aload_n hC d_Mo_index_63 rfl 2 rfl ?_
              refine z_iconstN hC 0 d_Mo_index_64 rfl ?_
              refine z_put (v := .int (iI ((0 : Nat) : Int))) (ty := .int) (w' := [(m0, .inr (10, [.int (iI ((0 : Nat) : Int)), .ref m1, .int (iI ((0 : Nat) : Int)), .int (iI ((ap : Nat) : Int)), .int (iI ((wr : Nat) : Int)), .ref m2, .ref m3, .ref m4, .int (iI ((xc : Nat) : Int)), .ref m5, .int (iI ((un : Nat) : Int)), .ref m6, .ref m7, .int (iI ((bc : Nat) : Int)), .ref m8, .int (iI ((wc : Nat) : Int)), .ref m9, .ref m10, .ref m11, .ref m12, .int (iI ((rc : Nat) : Int)), .ref m13, .ref m14, .ref m15, .ref m16, .ref m17, .int (iI ((hc : Nat) : Int)), .ref m18, .ref m19])), (m1, .inl ((g.2.1 4), 200, .inl (yF sf))), (m2, .inl ((g.2.1 4), 64, .inl (yF xl))), (m3, .inl ((g.2.1 0), 8, .inl (nF xn)))]) hC hi_Mo ty_Mo ok_Mo nm_Mo 0 rfl rfl 2 (by decide) mw_737 rfl rfl rfl rfl rfl (Nat.le_of_ble_eq_true rfl) rfl d_Mo_index_65 ?_
              refine z_iload_n hC d_Mo_index_68 rfl 0 rfl ?_
              refine z_if_ne (tgt := 74) hC ((0 : Nat) : Int) d_Mo_index_69 rfl (iI_t (by omega)) (fun c_12 => absurd c_12 (by decide)) (fun c_12 => ?_)
              refine z_iconst hC d_Mo_index_72 ?_
              exact Z.eq (by first | (exfalso; omega) | (simp only [if_neg (show ¬ (xc < 8 ∧ 1 ≤ rowE sn sf (sn - 0) 0 ∧ rowE sn sf (sn - 0) 0 ≤ 8 ∧ rowE sn sf (sn - 0) 0 = sn ∧ jS sn sf 0 (rowE sn sf (sn - 0) 0) = -1 ∧ fnd (nmB xn xl sn sf 0 (rowE sn sf (sn - 0) 0)) xc 0 = -1) by omega)]; done) | (simp only [if_pos (show xc < 8 ∧ 1 ≤ rowE sn sf (sn - 0) 0 ∧ rowE sn sf (sn - 0) 0 ≤ 8 ∧ rowE sn sf (sn - 0) 0 = sn ∧ jS sn sf 0 (rowE sn sf (sn - 0) 0) = -1 ∧ fnd (nmB xn xl sn sf 0 (rowE sn sf (sn - 0) 0)) xc 0 = -1 by omega)]; rw [show m = rgF xl sn sf xc from funext (fun k => by rw [hm, rgF, show j = sn by omega]), show rowE sn sf (sn - 0) 0 - 0 = sn by omega])) rfl rfl (by first | (exfalso; omega) | (rw [if_neg (by omega)]; done) | (rw [if_pos (by omega)]; rfl)) (hR _ _ d_Mo_index_73)
            · refine z_iconstN hC 1 d_Mo_index_57 rfl ?_
              refine z_goto (tgt := 62) hC d_Mo_index_58 rfl ?_
              refine z_istore_n (lv' := [(2, .int (iI ((1 : Nat) : Int))), (1, .int (iI ((rowE sn sf (sn - 0) 0 - 0 : Nat) : Int))), (0, .ref m0)]) hC d_Mo_index_62 rfl (by decide) rfl ?_
              refine z_aload_n hC d_Mo_index_63 rfl 2 rfl ?_
              refine z_iconstN hC 0 d_Mo_index_64 rfl ?_
              refine z_put (v := .int (iI ((0 : Nat) : Int))) (ty := .int) (w' := [(m0, .inr (10, [.int (iI ((0 : Nat) : Int)), .ref m1, .int (iI ((0 : Nat) : Int)), .int (iI ((ap : Nat) : Int)), .int (iI ((wr : Nat) : Int)), .ref m2, .ref m3, .ref m4, .int (iI ((xc : Nat) : Int)), .ref m5, .int (iI ((un : Nat) : Int)), .ref m6, .ref m7, .int (iI ((bc : Nat) : Int)), .ref m8, .int (iI ((wc : Nat) : Int)), .ref m9, .ref m10, .ref m11, .ref m12, .int (iI ((rc : Nat) : Int)), .ref m13, .ref m14, .ref m15, .ref m16, .ref m17, .int (iI ((hc : Nat) : Int)), .ref m18, .ref m19])), (m1, .inl ((g.2.1 4), 200, .inl (yF sf))), (m2, .inl ((g.2.1 4), 64, .inl (yF xl))), (m3, .inl ((g.2.1 0), 8, .inl (nF xn)))]) hC hi_Mo ty_Mo ok_Mo nm_Mo 0 rfl rfl 2 (by decide) mw_737 rfl rfl rfl rfl rfl (Nat.le_of_ble_eq_true rfl) rfl d_Mo_index_65 ?_
              refine z_iload_n hC d_Mo_index_68 rfl 0 rfl ?_
              refine z_if_ne (tgt := 74) hC ((1 : Nat) : Int) d_Mo_index_69 rfl (iI_t (by omega)) (fun c_13 => ?_) (fun c_13 => absurd c_13 (by decide))
              refine z_iconstN hC 0 d_Mo_index_74 rfl ?_
              refine z_istore_n (lv' := [(3, .int (iI ((0 : Nat) : Int))), (2, .int (iI ((1 : Nat) : Int))), (1, .int (iI ((rowE sn sf (sn - 0) 0 - 0 : Nat) : Int))), (0, .ref m0)]) hC d_Mo_index_75 rfl (by decide) rfl ?_
              have L_76 : ∀ (fu : Nat) (j : Nat) (m : Nat → Int32), (j ≤ sn) → (∀ k, m k = if xc * 8 ≤ k ∧ k < xc * 8 + j then sN sn sf (k - xc * 8) else xl k) → sn - j < fu → Z x (0, 0) [(m0, .inr (10, [.int (iI ((0 : Nat) : Int)), .ref m1, .int (iI ((0 : Nat) : Int)), .int (iI ((ap : Nat) : Int)), .int (iI ((wr : Nat) : Int)), .ref m2, .ref m3, .ref m4, .int (iI ((xc : Nat) : Int)), .ref m5, .int (iI ((un : Nat) : Int)), .ref m6, .ref m7, .int (iI ((bc : Nat) : Int)), .ref m8, .int (iI ((wc : Nat) : Int)), .ref m9, .ref m10, .ref m11, .ref m12, .int (iI ((rc : Nat) : Int)), .ref m13, .ref m14, .ref m15, .ref m16, .ref m17, .int (iI ((hc : Nat) : Int)), .ref m18, .ref m19])), (m1, .inl ((g.2.1 4), 200, .inl (yF sf))), (m2, .inl ((g.2.1 4), 64, .inl (yF m))), (m3, .inl ((g.2.1 0), 8, .inl (nF xn)))] 76 [(3, .int (iI ((j : Nat) : Int))), (1, .int (iI ((rowE sn sf (sn - 0) 0 - 0 : Nat) : Int))), (0, .ref m0)] [] := by
                intro fu
                induction fu with
                | zero => intro j m hj hm hmu; exact absurd hmu (Nat.not_lt_zero _)
                | succ fu ih_76 =>
                  intro j m hj hm hmu
                  refine z_iload_n hC d_Mo_index_76 rfl 0 rfl ?_
                  refine z_iload_n hC d_Mo_index_77 rfl 1 rfl ?_
                  refine z_icmp_ge (tgt := 107) hC ((j : Nat) : Int) ((rowE sn sf (sn - 0) 0 - 0 : Nat) : Int) d_Mo_index_78 rfl (iI_t (by omega)) (iI_t (by omega)) (fun c_14 => ?_) (fun c_14 => ?_)
                  · refine z_aload_n hC d_Mo_index_107 rfl 2 rfl ?_
                    refine z_get hC hi_Mo 0 rfl rfl 6 (by decide) mw_741 (Or.inl rfl) rfl d_Mo_index_108 ?_
                    refine z_aload_n hC d_Mo_index_111 rfl 2 rfl ?_
                    refine z_get hC hi_Mo 0 rfl rfl 8 (by decide) mw_743 (Or.inl rfl) rfl d_Mo_index_112 ?_
                    refine z_iload_n hC d_Mo_index_115 rfl 1 rfl ?_
                    refine z_iastN (v := rowE sn sf (sn - 0) 0 - 0) (w' := [(m0, .inr (10, [.int (iI ((0 : Nat) : Int)), .ref m1, .int (iI ((0 : Nat) : Int)), .int (iI ((ap : Nat) : Int)), .int (iI ((wr : Nat) : Int)), .ref m2, .ref m3, .ref m4, .int (iI ((xc : Nat) : Int)), .ref m5, .int (iI ((un : Nat) : Int)), .ref m6, .ref m7, .int (iI ((bc : Nat) : Int)), .ref m8, .int (iI ((wc : Nat) : Int)), .ref m9, .ref m10, .ref m11, .ref m12, .int (iI ((rc : Nat) : Int)), .ref m13, .ref m14, .ref m15, .ref m16, .ref m17, .int (iI ((hc : Nat) : Int)), .ref m18, .ref m19])), (m1, .inl ((g.2.1 4), 200, .inl (yF sf))), (m2, .inl ((g.2.1 4), 64, .inl (yF m))), (m3, .inl ((g.2.1 0), 8, .inl (nF (up xn xc (rowE sn sf (sn - 0) 0 - 0)))))]) hC 3 0 rfl rfl xc rfl (by omega) (by decide) rfl d_Mo_index_116 ?_
                    refine z_aload_n hC d_Mo_index_117 rfl 2 rfl ?_
                    refine z_dup hC d_Mo_index_118 rfl ?_
                    refine z_get hC hi_Mo 0 rfl rfl 8 (by decide) mw_743 (Or.inl rfl) rfl d_Mo_index_119 ?_
                    refine z_iconstN hC 1 d_Mo_index_122 rfl ?_
                    refine z_iaddN hC d_Mo_index_123 ?_
                    refine z_put (v := .int (iI ((xc + 1 : Nat) : Int))) (ty := .int) (w' := [(m0, .inr (10, [.int (iI ((0 : Nat) : Int)), .ref m1, .int (iI ((0 : Nat) : Int)), .int (iI ((ap : Nat) : Int)), .int (iI ((wr : Nat) : Int)), .ref m2, .ref m3, .ref m4, .int (iI ((xc + 1 : Nat) : Int)), .ref m5, .int (iI ((un : Nat) : Int)), .ref m6, .ref m7, .int (iI ((bc : Nat) : Int)), .ref m8, .int (iI ((wc : Nat) : Int)), .ref m9, .ref m10, .ref m11, .ref m12, .int (iI ((rc : Nat) : Int)), .ref m13, .ref m14, .ref m15, .ref m16, .ref m17, .int (iI ((hc : Nat) : Int)), .ref m18, .ref m19])), (m1, .inl ((g.2.1 4), 200, .inl (yF sf))), (m2, .inl ((g.2.1 4), 64, .inl (yF m))), (m3, .inl ((g.2.1 0), 8, .inl (nF (up xn xc (rowE sn sf (sn - 0) 0 - 0)))))]) hC hi_Mo ty_Mo ok_Mo nm_Mo 0 rfl rfl 8 (by decide) mw_743 rfl rfl rfl rfl rfl (Nat.le_of_ble_eq_true rfl) rfl d_Mo_index_124 ?_
                    refine z_aload_n hC d_Mo_index_127 rfl 2 rfl ?_
                    refine z_get hC hi_Mo 0 rfl rfl 8 (by decide) mw_743 (Or.inl rfl) rfl d_Mo_index_128 ?_
                    refine z_iconstN hC 1 d_Mo_index_131 rfl ?_
                    refine z_isubN hC d_Mo_index_132 (by omega) ?_
                    exact Z.eq (by first | (exfalso; omega) | (simp only [if_neg (show ¬ (xc < 8 ∧ 1 ≤ rowE sn sf (sn - 0) 0 ∧ rowE sn sf (sn - 0) 0 ≤ 8 ∧ rowE sn sf (sn - 0) 0 = sn ∧ jS sn sf 0 (rowE sn sf (sn - 0) 0) = -1 ∧ fnd (nmB xn xl sn sf 0 (rowE sn sf (sn - 0) 0)) xc 0 = -1) by omega)]; done) | (simp only [if_pos (show xc < 8 ∧ 1 ≤ rowE sn sf (sn - 0) 0 ∧ rowE sn sf (sn - 0) 0 ≤ 8 ∧ rowE sn sf (sn - 0) 0 = sn ∧ jS sn sf 0 (rowE sn sf (sn - 0) 0) = -1 ∧ fnd (nmB xn xl sn sf 0 (rowE sn sf (sn - 0) 0)) xc 0 = -1 by omega)]; rw [show m = rgF xl sn sf xc from funext (fun k => by rw [hm, rgF, show j = sn by omega]), show rowE sn sf (sn - 0) 0 - 0 = sn by omega])) rfl rfl (by first | (exfalso; omega) | (rw [if_neg (by omega)]; done) | (rw [if_pos (by omega)]; rfl)) (hR _ _ d_Mo_index_133)
                  · refine z_aload_n hC d_Mo_index_81 rfl 2 rfl ?_
                    refine z_get hC hi_Mo 0 rfl rfl 5 (by decide) mw_740 (Or.inl rfl) rfl d_Mo_index_82 ?_
                    refine z_bipush (a := ((8 : Nat) : Int)) hC d_Mo_index_85 (by decide) ?_
                    refine z_aload_n hC d_Mo_index_87 rfl 2 rfl ?_
                    refine z_get hC hi_Mo 0 rfl rfl 8 (by decide) mw_743 (Or.inl rfl) rfl d_Mo_index_88 ?_
                    refine z_imulN hC d_Mo_index_91 ?_
                    refine z_iload_n hC d_Mo_index_92 rfl 0 rfl ?_
                    refine z_iaddN hC d_Mo_index_93 ?_
                    refine z_aload_n hC d_Mo_index_94 rfl 2 rfl ?_
                    refine z_get hC hi_Mo 0 rfl rfl 1 (by decide) mw_736 (Or.inl rfl) rfl d_Mo_index_95 ?_
                    refine z_iload_n hC d_Mo_index_98 rfl 0 rfl ?_
                    refine z_yald hC 1 4 rfl rfl j rfl (by omega) (by decide) d_Mo_index_99 ?_
                    refine z_yast (v := (sf j)) (w' := [(m0, .inr (10, [.int (iI ((0 : Nat) : Int)), .ref m1, .int (iI ((0 : Nat) : Int)), .int (iI ((ap : Nat) : Int)), .int (iI ((wr : Nat) : Int)), .ref m2, .ref m3, .ref m4, .int (iI ((xc : Nat) : Int)), .ref m5, .int (iI ((un : Nat) : Int)), .ref m6, .ref m7, .int (iI ((bc : Nat) : Int)), .ref m8, .int (iI ((wc : Nat) : Int)), .ref m9, .ref m10, .ref m11, .ref m12, .int (iI ((rc : Nat) : Int)), .ref m13, .ref m14, .ref m15, .ref m16, .ref m17, .int (iI ((hc : Nat) : Int)), .ref m18, .ref m19])), (m1, .inl ((g.2.1 4), 200, .inl (yF sf))), (m2, .inl ((g.2.1 4), 64, .inl (yF (upd m ((8 * xc) + j) (sf j))))), (m3, .inl ((g.2.1 0), 8, .inl (nF xn)))]) hC 2 4 rfl rfl ((8 * xc) + j) rfl (by omega) (by decide) rfl d_Mo_index_100 ?_
                    refine z_iincN (lv' := [(3, .int (iI ((j + 1 : Nat) : Int))), (1, .int (iI ((rowE sn sf (sn - 0) 0 - 0 : Nat) : Int))), (0, .ref m0)]) hC 1 d_Mo_index_101 rfl 0 rfl (by decide) rfl ?_
                    refine z_goto (tgt := 76) hC d_Mo_index_104 rfl ?_
                    exact Zloc [0, 1, 2] rfl (Z.eq (w' := [(m0, .inr (10, [.int (iI ((0 : Nat) : Int)), .ref m1, .int (iI ((0 : Nat) : Int)), .int (iI ((ap : Nat) : Int)), .int (iI ((wr : Nat) : Int)), .ref m2, .ref m3, .ref m4, .int (iI ((xc : Nat) : Int)), .ref m5, .int (iI ((un : Nat) : Int)), .ref m6, .ref m7, .int (iI ((bc : Nat) : Int)), .ref m8, .int (iI ((wc : Nat) : Int)), .ref m9, .ref m10, .ref m11, .ref m12, .int (iI ((rc : Nat) : Int)), .ref m13, .ref m14, .ref m15, .ref m16, .ref m17, .int (iI ((hc : Nat) : Int)), .ref m18, .ref m19])), (m1, .inl ((g.2.1 4), 200, .inl (yF sf))), (m2, .inl ((g.2.1 4), 64, .inl (yF (upd m ((8 * xc) + j) (sf j))))), (m3, .inl ((g.2.1 0), 8, .inl (nF xn)))]) rfl rfl rfl rfl (ih_76 (j + 1) (upd m ((8 * xc) + j) (sf j)) (by omega) (rg_go2 (by omega) (by omega) hm) (by omega)))
              exact Zloc [0, 2, 3] rfl (Z.eq (w' := [(m0, .inr (10, [.int (iI ((0 : Nat) : Int)), .ref m1, .int (iI ((0 : Nat) : Int)), .int (iI ((ap : Nat) : Int)), .int (iI ((wr : Nat) : Int)), .ref m2, .ref m3, .ref m4, .int (iI ((xc : Nat) : Int)), .ref m5, .int (iI ((un : Nat) : Int)), .ref m6, .ref m7, .int (iI ((bc : Nat) : Int)), .ref m8, .int (iI ((wc : Nat) : Int)), .ref m9, .ref m10, .ref m11, .ref m12, .int (iI ((rc : Nat) : Int)), .ref m13, .ref m14, .ref m15, .ref m16, .ref m17, .int (iI ((hc : Nat) : Int)), .ref m18, .ref m19])), (m1, .inl ((g.2.1 4), 200, .inl (yF sf))), (m2, .inl ((g.2.1 4), 64, .inl (yF xl))), (m3, .inl ((g.2.1 0), 8, .inl (nF xn)))]) rfl rfl rfl rfl (L_76 _ 0 xl (by omega) (fun k => by rw [if_neg (by omega)]) (Nat.lt_succ_self _)))
set_option maxHeartbeats 4000000 in
set_option maxRecDepth 100000 in
theorem k_Mo_on (l : Launch) (g : ZG) (m0 m1 m2 m3 m4 m5 m6 m7 m8 m9 m10 m11 m12 m13 m14 m15 m16 m17 m18 m19 sn ap wr xc un bc wc rc hc : Nat) (fo : Nat → Bool) (i : Int) (on : Bool) (hxc : xc ≤ 8) (hi : -2147483648 ≤ i ∧ i < 2147483648)   : Ct l g y_Mo_on c_Mo_on 4 (some .boolean) { frames := 0, cells := 0, slots := 0, locals := 0 } [.ref m0, .int (iI i), .int (iI (bI on))] [(m0, .inr (10, [.int (iI ((0 : Nat) : Int)), .ref m1, .int (iI ((sn : Nat) : Int)), .int (iI ((ap : Nat) : Int)), .int (iI ((wr : Nat) : Int)), .ref m2, .ref m3, .ref m4, .int (iI ((xc : Nat) : Int)), .ref m5, .int (iI ((un : Nat) : Int)), .ref m6, .ref m7, .int (iI ((bc : Nat) : Int)), .ref m8, .int (iI ((wc : Nat) : Int)), .ref m9, .ref m10, .ref m11, .ref m12, .int (iI ((rc : Nat) : Int)), .ref m13, .ref m14, .ref m15, .ref m16, .ref m17, .int (iI ((hc : Nat) : Int)), .ref m18, .ref m19])), (m4, .inl ((g.2.1 2), 8, .inl (bF fo)))] (some (.int (iI (bI (decide (0 ≤ i ∧ i < xc) && !(fo i.toNat)))))) [(m0, .inr (10, [.int (iI ((0 : Nat) : Int)), .ref m1, .int (iI ((sn : Nat) : Int)), .int (iI ((ap : Nat) : Int)), .int (iI ((wr : Nat) : Int)), .ref m2, .ref m3, .ref m4, .int (iI ((xc : Nat) : Int)), .ref m5, .int (iI ((un : Nat) : Int)), .ref m6, .ref m7, .int (iI ((bc : Nat) : Int)), .ref m8, .int (iI ((wc : Nat) : Int)), .ref m9, .ref m10, .ref m11, .ref m12, .int (iI ((rc : Nat) : Int)), .ref m13, .ref m14, .ref m15, .ref m16, .ref m17, .int (iI ((hc : Nat) : Int)), .ref m18, .ref m19])), (m4, .inl ((g.2.1 2), 8, .inl (bF (if 0 ≤ i ∧ i < xc then up fo i.toNat (!on) else fo))))] := by
  refine ct_z (lv := [(0, .ref m0), (1, .int (iI i)), (2, .int (iI (bI on)))]) (by decide) rfl (Nat.le_of_ble_eq_true rfl) rfl ?_
  intro x hC hR
  refine z_aload_n hC d_Mo_on_0 rfl 0 rfl ?_
  refine z_iconstN hC 0 d_Mo_on_1 rfl ?_
  refine z_put (v := .int (iI ((0 : Nat) : Int))) (ty := .int) (w' := [(m0, .inr (10, [.int (iI ((0 : Nat) : Int)), .ref m1, .int (iI ((sn : Nat) : Int)), .int (iI ((ap : Nat) : Int)), .int (iI ((wr : Nat) : Int)), .ref m2, .ref m3, .ref m4, .int (iI ((xc : Nat) : Int)), .ref m5, .int (iI ((un : Nat) : Int)), .ref m6, .ref m7, .int (iI ((bc : Nat) : Int)), .ref m8, .int (iI ((wc : Nat) : Int)), .ref m9, .ref m10, .ref m11, .ref m12, .int (iI ((rc : Nat) : Int)), .ref m13, .ref m14, .ref m15, .ref m16, .ref m17, .int (iI ((hc : Nat) : Int)), .ref m18, .ref m19])), (m4, .inl ((g.2.1 2), 8, .inl (bF fo)))]) hC hi_Mo ty_Mo ok_Mo nm_Mo 0 rfl rfl 0 (by decide) mw_735 rfl rfl rfl rfl rfl (Nat.le_of_ble_eq_true rfl) rfl d_Mo_on_2 ?_
  refine z_iload_n hC d_Mo_on_5 rfl 1 rfl ?_
  refine z_if_lt (tgt := 17) hC i d_Mo_on_6 rfl (iI_t (by omega)) (fun c_1 => ?_) (fun c_1 => ?_)
  · refine z_iconstN hC 0 d_Mo_on_17 rfl ?_
    exact Z.eq (by first | (rw [if_neg (by omega)]; done) | (rw [if_pos (by omega)]; simp_all; done)) rfl rfl (zb_f (by first | (rw [decide_eq_false (by omega)]; rfl) | (rw [decide_eq_true (by omega)]; simp_all; done))) (hR _ _ d_Mo_on_18)
  · refine z_iload_n hC d_Mo_on_9 rfl 1 rfl ?_
    refine z_aload_n hC d_Mo_on_10 rfl 0 rfl ?_
    refine z_get hC hi_Mo 0 rfl rfl 8 (by decide) mw_743 (Or.inl rfl) rfl d_Mo_on_11 ?_
    refine z_icmp_lt (tgt := 19) hC i ((xc : Nat) : Int) d_Mo_on_14 rfl (iI_t (by omega)) (iI_t (by omega)) (fun c_2 => ?_) (fun c_2 => ?_)
    · refine z_aload_n hC d_Mo_on_19 rfl 0 rfl ?_
      refine z_get hC hi_Mo 0 rfl rfl 7 (by decide) mw_742 (Or.inl rfl) rfl d_Mo_on_20 ?_
      refine z_iload_n hC d_Mo_on_23 rfl 1 rfl ?_
      refine z_zaldB hC 1 2 rfl rfl ((i).toNat) (by omega) (by omega) (by decide) d_Mo_on_24 ?_
      refine z_ifneB (tgt := 32) hC d_Mo_on_25 rfl (fun c_3 => ?_) (fun c_3 => ?_)
      · refine z_iconstN hC 0 d_Mo_on_32 rfl ?_
        refine z_istore_n (lv' := [(3, .int (iI ((0 : Nat) : Int))), (0, .ref m0), (1, .int (iI i)), (2, .int (iI (bI on)))]) hC d_Mo_on_33 rfl (by decide) rfl ?_
        refine z_aload_n hC d_Mo_on_34 rfl 1 rfl ?_
        refine z_get hC hi_Mo 0 rfl rfl 7 (by decide) mw_742 (Or.inl rfl) rfl d_Mo_on_35 ?_
        refine z_iload_n hC d_Mo_on_38 rfl 2 rfl ?_
        refine z_iload_n hC d_Mo_on_39 rfl 3 rfl ?_
        refine z_ifneB (tgt := 47) hC d_Mo_on_40 rfl (fun c_4 => ?_) (fun c_4 => ?_)
        · refine z_iconstN hC 0 d_Mo_on_47 rfl ?_
          refine z_zastB (v := false) (w' := [(m0, .inr (10, [.int (iI ((0 : Nat) : Int)), .ref m1, .int (iI ((sn : Nat) : Int)), .int (iI ((ap : Nat) : Int)), .int (iI ((wr : Nat) : Int)), .ref m2, .ref m3, .ref m4, .int (iI ((xc : Nat) : Int)), .ref m5, .int (iI ((un : Nat) : Int)), .ref m6, .ref m7, .int (iI ((bc : Nat) : Int)), .ref m8, .int (iI ((wc : Nat) : Int)), .ref m9, .ref m10, .ref m11, .ref m12, .int (iI ((rc : Nat) : Int)), .ref m13, .ref m14, .ref m15, .ref m16, .ref m17, .int (iI ((hc : Nat) : Int)), .ref m18, .ref m19])), (m4, .inl ((g.2.1 2), 8, .inl (bF (up fo ((i).toNat) false))))]) hC 1 2 rfl rfl ((i).toNat) (by omega) (by omega) (by decide) rfl d_Mo_on_48 ?_
          refine z_iload_n hC d_Mo_on_49 rfl 0 rfl ?_
          exact Z.eq (by first | (rw [if_neg (by omega)]; done) | (rw [if_pos (by omega)]; simp_all; done)) rfl rfl (zb_f (by first | (rw [decide_eq_false (by omega)]; rfl) | (rw [decide_eq_true (by omega)]; simp_all; done))) (hR _ _ d_Mo_on_50)
        · refine z_iconstN hC 1 d_Mo_on_43 rfl ?_
          refine z_goto (tgt := 48) hC d_Mo_on_44 rfl ?_
          refine z_zastB (v := true) (w' := [(m0, .inr (10, [.int (iI ((0 : Nat) : Int)), .ref m1, .int (iI ((sn : Nat) : Int)), .int (iI ((ap : Nat) : Int)), .int (iI ((wr : Nat) : Int)), .ref m2, .ref m3, .ref m4, .int (iI ((xc : Nat) : Int)), .ref m5, .int (iI ((un : Nat) : Int)), .ref m6, .ref m7, .int (iI ((bc : Nat) : Int)), .ref m8, .int (iI ((wc : Nat) : Int)), .ref m9, .ref m10, .ref m11, .ref m12, .int (iI ((rc : Nat) : Int)), .ref m13, .ref m14, .ref m15, .ref m16, .ref m17, .int (iI ((hc : Nat) : Int)), .ref m18, .ref m19])), (m4, .inl ((g.2.1 2), 8, .inl (bF (up fo ((i).toNat) true))))]) hC 1 2 rfl rfl ((i).toNat) (by omega) (by omega) (by decide) rfl d_Mo_on_48 ?_
          refine z_iload_n hC d_Mo_on_49 rfl 0 rfl ?_
          exact Z.eq (by first | (rw [if_neg (by omega)]; done) | (rw [if_pos (by omega)]; simp_all; done)) rfl rfl (zb_f (by first | (rw [decide_eq_false (by omega)]; rfl) | (rw [decide_eq_true (by omega)]; simp_all; done))) (hR _ _ d_Mo_on_50)
      · refine z_iconstN hC 1 d_Mo_on_28 rfl ?_
        refine z_goto (tgt := 33) hC d_Mo_on_29 rfl ?_
        refine z_istore_n (lv' := [(3, .int (iI ((1 : Nat) : Int))), (0, .ref m0), (1, .int (iI i)), (2, .int (iI (bI on)))]) hC d_Mo_on_33 rfl (by decide) rfl ?_
        refine z_aload_n hC d_Mo_on_34 rfl 1 rfl ?_
        refine z_get hC hi_Mo 0 rfl rfl 7 (by decide) mw_742 (Or.inl rfl) rfl d_Mo_on_35 ?_
        refine z_iload_n hC d_Mo_on_38 rfl 2 rfl ?_
        refine z_iload_n hC d_Mo_on_39 rfl 3 rfl ?_
        refine z_ifneB (tgt := 47) hC d_Mo_on_40 rfl (fun c_5 => ?_) (fun c_5 => ?_)
        · refine z_iconstN hC 0 d_Mo_on_47 rfl ?_
          refine z_zastB (v := false) (w' := [(m0, .inr (10, [.int (iI ((0 : Nat) : Int)), .ref m1, .int (iI ((sn : Nat) : Int)), .int (iI ((ap : Nat) : Int)), .int (iI ((wr : Nat) : Int)), .ref m2, .ref m3, .ref m4, .int (iI ((xc : Nat) : Int)), .ref m5, .int (iI ((un : Nat) : Int)), .ref m6, .ref m7, .int (iI ((bc : Nat) : Int)), .ref m8, .int (iI ((wc : Nat) : Int)), .ref m9, .ref m10, .ref m11, .ref m12, .int (iI ((rc : Nat) : Int)), .ref m13, .ref m14, .ref m15, .ref m16, .ref m17, .int (iI ((hc : Nat) : Int)), .ref m18, .ref m19])), (m4, .inl ((g.2.1 2), 8, .inl (bF (up fo ((i).toNat) false))))]) hC 1 2 rfl rfl ((i).toNat) (by omega) (by omega) (by decide) rfl d_Mo_on_48 ?_
          refine z_iload_n hC d_Mo_on_49 rfl 0 rfl ?_
          exact Z.eq (by first | (rw [if_neg (by omega)]; done) | (rw [if_pos (by omega)]; simp_all; done)) rfl rfl (zb_t (by first | (rw [decide_eq_false (by omega)]; rfl) | (rw [decide_eq_true (by omega)]; simp_all; done))) (hR _ _ d_Mo_on_50)
        · refine z_iconstN hC 1 d_Mo_on_43 rfl ?_
          refine z_goto (tgt := 48) hC d_Mo_on_44 rfl ?_
          refine z_zastB (v := true) (w' := [(m0, .inr (10, [.int (iI ((0 : Nat) : Int)), .ref m1, .int (iI ((sn : Nat) : Int)), .int (iI ((ap : Nat) : Int)), .int (iI ((wr : Nat) : Int)), .ref m2, .ref m3, .ref m4, .int (iI ((xc : Nat) : Int)), .ref m5, .int (iI ((un : Nat) : Int)), .ref m6, .ref m7, .int (iI ((bc : Nat) : Int)), .ref m8, .int (iI ((wc : Nat) : Int)), .ref m9, .ref m10, .ref m11, .ref m12, .int (iI ((rc : Nat) : Int)), .ref m13, .ref m14, .ref m15, .ref m16, .ref m17, .int (iI ((hc : Nat) : Int)), .ref m18, .ref m19])), (m4, .inl ((g.2.1 2), 8, .inl (bF (up fo ((i).toNat) true))))]) hC 1 2 rfl rfl ((i).toNat) (by omega) (by omega) (by decide) rfl d_Mo_on_48 ?_
          refine z_iload_n hC d_Mo_on_49 rfl 0 rfl ?_
          exact Z.eq (by first | (rw [if_neg (by omega)]; done) | (rw [if_pos (by omega)]; simp_all; done)) rfl rfl (zb_t (by first | (rw [decide_eq_false (by omega)]; rfl) | (rw [decide_eq_true (by omega)]; simp_all; done))) (hR _ _ d_Mo_on_50)
    · refine z_iconstN hC 0 d_Mo_on_17 rfl ?_
      exact Z.eq (by first | (rw [if_neg (by omega)]; done) | (rw [if_pos (by omega)]; simp_all; done)) rfl rfl (zb_f (by first | (rw [decide_eq_false (by omega)]; rfl) | (rw [decide_eq_true (by omega)]; simp_all; done))) (hR _ _ d_Mo_on_18)
set_option maxHeartbeats 4000000 in
set_option maxRecDepth 100000 in
theorem k_Mo_bad (l : Launch) (g : ZG) (m0 m1 m2 m3 m4 m5 m6 m7 m8 m9 m10 m11 m12 m13 m14 m15 m16 m17 m18 m19 sn ap wr xc un bc wc rc hc p : Nat)    : Ct l g y_Mo_bad c_Mo_bad 2 (some .boolean) { frames := 0, cells := 0, slots := 0, locals := 0 } [.ref m0, .int (iI ((p : Nat) : Int))] [(m0, .inr (10, [.int (iI ((0 : Nat) : Int)), .ref m1, .int (iI ((sn : Nat) : Int)), .int (iI ((ap : Nat) : Int)), .int (iI ((wr : Nat) : Int)), .ref m2, .ref m3, .ref m4, .int (iI ((xc : Nat) : Int)), .ref m5, .int (iI ((un : Nat) : Int)), .ref m6, .ref m7, .int (iI ((bc : Nat) : Int)), .ref m8, .int (iI ((wc : Nat) : Int)), .ref m9, .ref m10, .ref m11, .ref m12, .int (iI ((rc : Nat) : Int)), .ref m13, .ref m14, .ref m15, .ref m16, .ref m17, .int (iI ((hc : Nat) : Int)), .ref m18, .ref m19]))] (some (.int (iI (bI false)))) [(m0, .inr (10, [.int (iI ((0 : Nat) : Int)), .ref m1, .int (iI ((sn : Nat) : Int)), .int (iI ((ap : Nat) : Int)), .int (iI ((p : Nat) : Int)), .ref m2, .ref m3, .ref m4, .int (iI ((xc : Nat) : Int)), .ref m5, .int (iI ((un : Nat) : Int)), .ref m6, .ref m7, .int (iI ((bc : Nat) : Int)), .ref m8, .int (iI ((wc : Nat) : Int)), .ref m9, .ref m10, .ref m11, .ref m12, .int (iI ((rc : Nat) : Int)), .ref m13, .ref m14, .ref m15, .ref m16, .ref m17, .int (iI ((hc : Nat) : Int)), .ref m18, .ref m19]))] := by
  refine ct_z (lv := [(0, .ref m0), (1, .int (iI ((p : Nat) : Int)))]) (by decide) rfl (Nat.le_of_ble_eq_true rfl) rfl ?_
  intro x hC hR
  refine z_aload_n hC d_Mo_bad_0 rfl 0 rfl ?_
  refine z_iload_n hC d_Mo_bad_1 rfl 1 rfl ?_
  refine z_put (v := .int (iI ((p : Nat) : Int))) (ty := .int) (w' := [(m0, .inr (10, [.int (iI ((0 : Nat) : Int)), .ref m1, .int (iI ((sn : Nat) : Int)), .int (iI ((ap : Nat) : Int)), .int (iI ((p : Nat) : Int)), .ref m2, .ref m3, .ref m4, .int (iI ((xc : Nat) : Int)), .ref m5, .int (iI ((un : Nat) : Int)), .ref m6, .ref m7, .int (iI ((bc : Nat) : Int)), .ref m8, .int (iI ((wc : Nat) : Int)), .ref m9, .ref m10, .ref m11, .ref m12, .int (iI ((rc : Nat) : Int)), .ref m13, .ref m14, .ref m15, .ref m16, .ref m17, .int (iI ((hc : Nat) : Int)), .ref m18, .ref m19]))]) hC hi_Mo ty_Mo ok_Mo nm_Mo 0 rfl rfl 4 (by decide) mw_739 rfl rfl rfl rfl rfl (Nat.le_of_ble_eq_true rfl) rfl d_Mo_bad_2 ?_
  refine z_iconstN hC 0 d_Mo_bad_5 rfl ?_
  exact Z.eq rfl rfl rfl (zb_f (by rfl)) (hR _ _ d_Mo_bad_6)
set_option maxHeartbeats 4000000 in
set_option maxRecDepth 100000 in
theorem k_Mo_must (l : Launch) (g : ZG) (m0 m1 m2 m3 m4 m5 m6 m7 m8 m9 m10 m11 m12 m13 m14 m15 m16 m17 m18 m19 sn ap wr xc un bc wc rc hc : Nat) (sf : Nat → Int32) (c : Int32) (hsn : sn ≤ 200) (h8 : y8 sf) (hap : ap ≤ sn)   : Ct l g y_Mo_must c_Mo_must 2 (some .boolean) { frames := 1, cells := 0, slots := 0, locals := 21 } [.ref m0, .int c] [(m0, .inr (10, [.int (iI ((0 : Nat) : Int)), .ref m1, .int (iI ((sn : Nat) : Int)), .int (iI ((ap : Nat) : Int)), .int (iI ((wr : Nat) : Int)), .ref m2, .ref m3, .ref m4, .int (iI ((xc : Nat) : Int)), .ref m5, .int (iI ((un : Nat) : Int)), .ref m6, .ref m7, .int (iI ((bc : Nat) : Int)), .ref m8, .int (iI ((wc : Nat) : Int)), .ref m9, .ref m10, .ref m11, .ref m12, .int (iI ((rc : Nat) : Int)), .ref m13, .ref m14, .ref m15, .ref m16, .ref m17, .int (iI ((hc : Nat) : Int)), .ref m18, .ref m19])), (m1, .inl ((g.2.1 4), 200, .inl (yF sf)))] (some (.int (iI (bI (decide (sN sn sf ap = c)))))) [(m0, .inr (10, [.int (iI ((0 : Nat) : Int)), .ref m1, .int (iI ((sn : Nat) : Int)), .int (iI ((if sN sn sf ap = c then ap + 1 else ap : Nat) : Int)), .int (iI ((if sN sn sf ap = c then wr else ap : Nat) : Int)), .ref m2, .ref m3, .ref m4, .int (iI ((xc : Nat) : Int)), .ref m5, .int (iI ((un : Nat) : Int)), .ref m6, .ref m7, .int (iI ((bc : Nat) : Int)), .ref m8, .int (iI ((wc : Nat) : Int)), .ref m9, .ref m10, .ref m11, .ref m12, .int (iI ((rc : Nat) : Int)), .ref m13, .ref m14, .ref m15, .ref m16, .ref m17, .int (iI ((hc : Nat) : Int)), .ref m18, .ref m19])), (m1, .inl ((g.2.1 4), 200, .inl (yF sf)))] := by
  refine ct_z (lv := [(0, .ref m0), (1, .int c)]) (by decide) rfl (Nat.le_of_ble_eq_true rfl) rfl ?_
  intro x hC hR
  refine z_aload_n hC d_Mo_must_0 rfl 0 rfl ?_
  refine z_aload_n hC d_Mo_must_1 rfl 0 rfl ?_
  refine z_get hC hi_Mo 0 rfl rfl 3 (by decide) mw_738 (Or.inl rfl) rfl d_Mo_must_2 ?_
  refine z_callV (q0 := 0) (ci := 10) (w' := [(m0, .inr (10, [.int (iI ((0 : Nat) : Int)), .ref m1, .int (iI ((sn : Nat) : Int)), .int (iI ((ap : Nat) : Int)), .int (iI ((wr : Nat) : Int)), .ref m2, .ref m3, .ref m4, .int (iI ((xc : Nat) : Int)), .ref m5, .int (iI ((un : Nat) : Int)), .ref m6, .ref m7, .int (iI ((bc : Nat) : Int)), .ref m8, .int (iI ((wc : Nat) : Int)), .ref m9, .ref m10, .ref m11, .ref m12, .int (iI ((rc : Nat) : Int)), .ref m13, .ref m14, .ref m15, .ref m16, .ref m17, .int (iI ((hc : Nat) : Int)), .ref m18, .ref m19])), (m1, .inl ((g.2.1 4), 200, .inl (yF sf)))]) (st1 := [.int (sN sn sf ap)]) hC (k_Mo_look l g m0 m1 m2 m3 m4 m5 m6 m7 m8 m9 m10 m11 m12 m13 m14 m15 m16 m17 m18 m19 sn ap wr xc un bc wc rc hc sf ap hsn h8 (by omega)) mw_835 zv_Mo_look rfl rfl ⟨Nat.le_of_ble_eq_true rfl, Nat.le_of_ble_eq_true rfl⟩ [0, 1] rfl rfl rfl rfl rfl rfl rfl rfl (Nat.le_of_ble_eq_true rfl) d_Mo_must_5 rfl ⟨Nat.zero_le _, Nat.zero_le _⟩ rfl ?_
  refine z_iload_n hC d_Mo_must_8 rfl 1 rfl ?_
  refine z_icmp_eqR (tgt := 21) hC d_Mo_must_9 rfl (fun c_1 => ?_) (fun c_1 => ?_)
  · refine z_aload_n hC d_Mo_must_21 rfl 0 rfl ?_
    refine z_dup hC d_Mo_must_22 rfl ?_
    refine z_get hC hi_Mo 0 rfl rfl 3 (by decide) mw_738 (Or.inl rfl) rfl d_Mo_must_23 ?_
    refine z_iconstN hC 1 d_Mo_must_26 rfl ?_
    refine z_iaddN hC d_Mo_must_27 ?_
    refine z_put (v := .int (iI ((ap + 1 : Nat) : Int))) (ty := .int) (w' := [(m0, .inr (10, [.int (iI ((0 : Nat) : Int)), .ref m1, .int (iI ((sn : Nat) : Int)), .int (iI ((ap + 1 : Nat) : Int)), .int (iI ((wr : Nat) : Int)), .ref m2, .ref m3, .ref m4, .int (iI ((xc : Nat) : Int)), .ref m5, .int (iI ((un : Nat) : Int)), .ref m6, .ref m7, .int (iI ((bc : Nat) : Int)), .ref m8, .int (iI ((wc : Nat) : Int)), .ref m9, .ref m10, .ref m11, .ref m12, .int (iI ((rc : Nat) : Int)), .ref m13, .ref m14, .ref m15, .ref m16, .ref m17, .int (iI ((hc : Nat) : Int)), .ref m18, .ref m19])), (m1, .inl ((g.2.1 4), 200, .inl (yF sf)))]) hC hi_Mo ty_Mo ok_Mo nm_Mo 0 rfl rfl 3 (by decide) mw_738 rfl rfl rfl rfl rfl (Nat.le_of_ble_eq_true rfl) rfl d_Mo_must_28 ?_
    refine z_iconstN hC 1 d_Mo_must_31 rfl ?_
    exact Z.eq (by first | (rw [if_pos (by assumption), if_pos (by assumption)]; done) | (rw [if_neg (by assumption), if_neg (by assumption)]; done)) rfl rfl (zb_t (decide_eq_true (by first | assumption | exact (decide_eq_false (by assumption)).symm))) (hR _ _ d_Mo_must_32)
  · refine z_aload_n hC d_Mo_must_12 rfl 0 rfl ?_
    refine z_aload_n hC d_Mo_must_13 rfl 0 rfl ?_
    refine z_get hC hi_Mo 0 rfl rfl 3 (by decide) mw_738 (Or.inl rfl) rfl d_Mo_must_14 ?_
    refine z_callV (q0 := 0) (ci := 10) (w' := [(m0, .inr (10, [.int (iI ((0 : Nat) : Int)), .ref m1, .int (iI ((sn : Nat) : Int)), .int (iI ((ap : Nat) : Int)), .int (iI ((ap : Nat) : Int)), .ref m2, .ref m3, .ref m4, .int (iI ((xc : Nat) : Int)), .ref m5, .int (iI ((un : Nat) : Int)), .ref m6, .ref m7, .int (iI ((bc : Nat) : Int)), .ref m8, .int (iI ((wc : Nat) : Int)), .ref m9, .ref m10, .ref m11, .ref m12, .int (iI ((rc : Nat) : Int)), .ref m13, .ref m14, .ref m15, .ref m16, .ref m17, .int (iI ((hc : Nat) : Int)), .ref m18, .ref m19])), (m1, .inl ((g.2.1 4), 200, .inl (yF sf)))]) (st1 := [.int (iI (bI false))]) hC (k_Mo_bad l g m0 m1 m2 m3 m4 m5 m6 m7 m8 m9 m10 m11 m12 m13 m14 m15 m16 m17 m18 m19 sn ap wr xc un bc wc rc hc ap) mw_866 zv_Mo_bad rfl rfl ⟨Nat.le_of_ble_eq_true rfl, Nat.le_of_ble_eq_true rfl⟩ [0] rfl rfl rfl rfl rfl rfl rfl rfl (Nat.le_of_ble_eq_true rfl) d_Mo_must_17 rfl ⟨Nat.zero_le _, Nat.zero_le _⟩ rfl ?_
    exact Z.eq (by first | (rw [if_pos (by assumption), if_pos (by assumption)]; done) | (rw [if_neg (by assumption), if_neg (by assumption)]; done)) rfl rfl (zb_e (by first | assumption | exact (decide_eq_false (by assumption)).symm)) (hR _ _ d_Mo_must_20)
theorem k_Mo_must_T (l : Launch) (g : ZG) (m0 m1 m2 m3 m4 m5 m6 m7 m8 m9 m10 m11 m12 m13 m14 m15 m16 m17 m18 m19 sn ap wr xc un bc wc rc hc : Nat) (sf : Nat → Int32) (c : Int32) (hsn : sn ≤ 200) (h8 : y8 sf) (hap : ap ≤ sn) (hcs : sN sn sf ap = c)   : Ct l g y_Mo_must c_Mo_must 2 (some .boolean) { frames := 1, cells := 0, slots := 0, locals := 21 } [.ref m0, .int c] [(m0, .inr (10, [.int (iI ((0 : Nat) : Int)), .ref m1, .int (iI ((sn : Nat) : Int)), .int (iI ((ap : Nat) : Int)), .int (iI ((wr : Nat) : Int)), .ref m2, .ref m3, .ref m4, .int (iI ((xc : Nat) : Int)), .ref m5, .int (iI ((un : Nat) : Int)), .ref m6, .ref m7, .int (iI ((bc : Nat) : Int)), .ref m8, .int (iI ((wc : Nat) : Int)), .ref m9, .ref m10, .ref m11, .ref m12, .int (iI ((rc : Nat) : Int)), .ref m13, .ref m14, .ref m15, .ref m16, .ref m17, .int (iI ((hc : Nat) : Int)), .ref m18, .ref m19])), (m1, .inl ((g.2.1 4), 200, .inl (yF sf)))] (some (.int (iI (bI true)))) [(m0, .inr (10, [.int (iI ((0 : Nat) : Int)), .ref m1, .int (iI ((sn : Nat) : Int)), .int (iI ((ap + 1 : Nat) : Int)), .int (iI ((wr : Nat) : Int)), .ref m2, .ref m3, .ref m4, .int (iI ((xc : Nat) : Int)), .ref m5, .int (iI ((un : Nat) : Int)), .ref m6, .ref m7, .int (iI ((bc : Nat) : Int)), .ref m8, .int (iI ((wc : Nat) : Int)), .ref m9, .ref m10, .ref m11, .ref m12, .int (iI ((rc : Nat) : Int)), .ref m13, .ref m14, .ref m15, .ref m16, .ref m17, .int (iI ((hc : Nat) : Int)), .ref m18, .ref m19])), (m1, .inl ((g.2.1 4), 200, .inl (yF sf)))] := by
  have h := k_Mo_must l g m0 m1 m2 m3 m4 m5 m6 m7 m8 m9 m10 m11 m12 m13 m14 m15 m16 m17 m18 m19 sn ap wr xc un bc wc rc hc sf c hsn h8 hap
  rw [if_pos hcs, if_pos hcs, decide_eq_true hcs] at h
  exact h
theorem k_Mo_must_F (l : Launch) (g : ZG) (m0 m1 m2 m3 m4 m5 m6 m7 m8 m9 m10 m11 m12 m13 m14 m15 m16 m17 m18 m19 sn ap wr xc un bc wc rc hc : Nat) (sf : Nat → Int32) (c : Int32) (hsn : sn ≤ 200) (h8 : y8 sf) (hap : ap ≤ sn) (hcs : ¬ sN sn sf ap = c)   : Ct l g y_Mo_must c_Mo_must 2 (some .boolean) { frames := 1, cells := 0, slots := 0, locals := 21 } [.ref m0, .int c] [(m0, .inr (10, [.int (iI ((0 : Nat) : Int)), .ref m1, .int (iI ((sn : Nat) : Int)), .int (iI ((ap : Nat) : Int)), .int (iI ((wr : Nat) : Int)), .ref m2, .ref m3, .ref m4, .int (iI ((xc : Nat) : Int)), .ref m5, .int (iI ((un : Nat) : Int)), .ref m6, .ref m7, .int (iI ((bc : Nat) : Int)), .ref m8, .int (iI ((wc : Nat) : Int)), .ref m9, .ref m10, .ref m11, .ref m12, .int (iI ((rc : Nat) : Int)), .ref m13, .ref m14, .ref m15, .ref m16, .ref m17, .int (iI ((hc : Nat) : Int)), .ref m18, .ref m19])), (m1, .inl ((g.2.1 4), 200, .inl (yF sf)))] (some (.int (iI (bI false)))) [(m0, .inr (10, [.int (iI ((0 : Nat) : Int)), .ref m1, .int (iI ((sn : Nat) : Int)), .int (iI ((ap : Nat) : Int)), .int (iI ((ap : Nat) : Int)), .ref m2, .ref m3, .ref m4, .int (iI ((xc : Nat) : Int)), .ref m5, .int (iI ((un : Nat) : Int)), .ref m6, .ref m7, .int (iI ((bc : Nat) : Int)), .ref m8, .int (iI ((wc : Nat) : Int)), .ref m9, .ref m10, .ref m11, .ref m12, .int (iI ((rc : Nat) : Int)), .ref m13, .ref m14, .ref m15, .ref m16, .ref m17, .int (iI ((hc : Nat) : Int)), .ref m18, .ref m19])), (m1, .inl ((g.2.1 4), 200, .inl (yF sf)))] := by
  have h := k_Mo_must l g m0 m1 m2 m3 m4 m5 m6 m7 m8 m9 m10 m11 m12 m13 m14 m15 m16 m17 m18 m19 sn ap wr xc un bc wc rc hc sf c hsn h8 hap
  rw [if_neg hcs, if_neg hcs, decide_eq_false hcs] at h
  exact h
theorem sN_ne {n : Nat} {f : Nat → Int32} {p : Nat} {c : Int32} (h : sN n f p = c) (hc : c ≠ iI (-1)) : p < n := by
  rcases Nat.lt_or_ge p n with q | q
  · exact q
  · unfold sN at h
    rw [if_neg (by omega)] at h
    exact absurd h.symm hc
set_option maxHeartbeats 4000000 in
set_option maxRecDepth 100000 in
theorem k_Mo_must2 (l : Launch) (g : ZG) (m0 m1 m2 m3 m4 m5 m6 m7 m8 m9 m10 m11 m12 m13 m14 m15 m16 m17 m18 m19 sn ap wr xc un bc wc rc hc : Nat) (sf : Nat → Int32) (c d : Int32) (hsn : sn ≤ 200) (h8 : y8 sf) (hap : ap ≤ sn) (hc0 : c ≠ iI (-1))   : Ct l g y_Mo_must2 c_Mo_must2 3 (some .boolean) { frames := 2, cells := 0, slots := 0, locals := 42 } [.ref m0, .int c, .int d] [(m0, .inr (10, [.int (iI ((0 : Nat) : Int)), .ref m1, .int (iI ((sn : Nat) : Int)), .int (iI ((ap : Nat) : Int)), .int (iI ((wr : Nat) : Int)), .ref m2, .ref m3, .ref m4, .int (iI ((xc : Nat) : Int)), .ref m5, .int (iI ((un : Nat) : Int)), .ref m6, .ref m7, .int (iI ((bc : Nat) : Int)), .ref m8, .int (iI ((wc : Nat) : Int)), .ref m9, .ref m10, .ref m11, .ref m12, .int (iI ((rc : Nat) : Int)), .ref m13, .ref m14, .ref m15, .ref m16, .ref m17, .int (iI ((hc : Nat) : Int)), .ref m18, .ref m19])), (m1, .inl ((g.2.1 4), 200, .inl (yF sf)))] (some (.int (iI (bI (decide (sN sn sf ap = c) && decide (sN sn sf (ap + 1) = d)))))) [(m0, .inr (10, [.int (iI ((0 : Nat) : Int)), .ref m1, .int (iI ((sn : Nat) : Int)), .int (iI ((if sN sn sf ap = c then (if sN sn sf (ap + 1) = d then ap + 1 + 1 else ap + 1) else ap : Nat) : Int)), .int (iI ((if sN sn sf ap = c then (if sN sn sf (ap + 1) = d then wr else ap + 1) else ap : Nat) : Int)), .ref m2, .ref m3, .ref m4, .int (iI ((xc : Nat) : Int)), .ref m5, .int (iI ((un : Nat) : Int)), .ref m6, .ref m7, .int (iI ((bc : Nat) : Int)), .ref m8, .int (iI ((wc : Nat) : Int)), .ref m9, .ref m10, .ref m11, .ref m12, .int (iI ((rc : Nat) : Int)), .ref m13, .ref m14, .ref m15, .ref m16, .ref m17, .int (iI ((hc : Nat) : Int)), .ref m18, .ref m19])), (m1, .inl ((g.2.1 4), 200, .inl (yF sf)))] := by
  refine ct_z (lv := [(0, .ref m0), (1, .int c), (2, .int d)]) (by decide) rfl (Nat.le_of_ble_eq_true rfl) rfl ?_
  intro x hC hR
  refine z_aload_n hC d_Mo_must2_0 rfl 0 rfl ?_
  refine z_iload_n hC d_Mo_must2_1 rfl 1 rfl ?_
  by_cases c_1 : sN sn sf ap = c
  · refine z_callV (q0 := 0) (ci := 10) (w' := [(m0, .inr (10, [.int (iI ((0 : Nat) : Int)), .ref m1, .int (iI ((sn : Nat) : Int)), .int (iI ((ap + 1 : Nat) : Int)), .int (iI ((wr : Nat) : Int)), .ref m2, .ref m3, .ref m4, .int (iI ((xc : Nat) : Int)), .ref m5, .int (iI ((un : Nat) : Int)), .ref m6, .ref m7, .int (iI ((bc : Nat) : Int)), .ref m8, .int (iI ((wc : Nat) : Int)), .ref m9, .ref m10, .ref m11, .ref m12, .int (iI ((rc : Nat) : Int)), .ref m13, .ref m14, .ref m15, .ref m16, .ref m17, .int (iI ((hc : Nat) : Int)), .ref m18, .ref m19])), (m1, .inl ((g.2.1 4), 200, .inl (yF sf)))]) (st1 := [.int (iI (bI true))]) hC (k_Mo_must_T l g m0 m1 m2 m3 m4 m5 m6 m7 m8 m9 m10 m11 m12 m13 m14 m15 m16 m17 m18 m19 sn ap wr xc un bc wc rc hc sf c hsn h8 hap (by omega)) mw_882 zv_Mo_must rfl rfl ⟨Nat.le_of_ble_eq_true rfl, Nat.le_of_ble_eq_true rfl⟩ [0, 1] rfl rfl rfl rfl rfl rfl rfl rfl (Nat.le_of_ble_eq_true rfl) d_Mo_must2_2 rfl ⟨Nat.zero_le _, Nat.zero_le _⟩ rfl ?_
    refine z_ifeqB (tgt := 20) hC d_Mo_must2_5 rfl (fun c_2 => Bool.noConfusion c_2) (fun c_2 => ?_)
    have hl9 := sN_ne (by assumption) hc0
    refine z_aload_n hC d_Mo_must2_8 rfl 0 rfl ?_
    refine z_iload_n hC d_Mo_must2_9 rfl 2 rfl ?_
    by_cases c_3 : sN sn sf (ap + 1) = d
    · refine z_callV (q0 := 0) (ci := 10) (w' := [(m0, .inr (10, [.int (iI ((0 : Nat) : Int)), .ref m1, .int (iI ((sn : Nat) : Int)), .int (iI (((ap + 1) + 1 : Nat) : Int)), .int (iI ((wr : Nat) : Int)), .ref m2, .ref m3, .ref m4, .int (iI ((xc : Nat) : Int)), .ref m5, .int (iI ((un : Nat) : Int)), .ref m6, .ref m7, .int (iI ((bc : Nat) : Int)), .ref m8, .int (iI ((wc : Nat) : Int)), .ref m9, .ref m10, .ref m11, .ref m12, .int (iI ((rc : Nat) : Int)), .ref m13, .ref m14, .ref m15, .ref m16, .ref m17, .int (iI ((hc : Nat) : Int)), .ref m18, .ref m19])), (m1, .inl ((g.2.1 4), 200, .inl (yF sf)))]) (st1 := [.int (iI (bI true))]) hC (k_Mo_must_T l g m0 m1 m2 m3 m4 m5 m6 m7 m8 m9 m10 m11 m12 m13 m14 m15 m16 m17 m18 m19 sn (ap + 1) wr xc un bc wc rc hc sf d hsn h8 (by omega) (by omega)) mw_882 zv_Mo_must rfl rfl ⟨Nat.le_of_ble_eq_true rfl, Nat.le_of_ble_eq_true rfl⟩ [0, 1] rfl rfl rfl rfl rfl rfl rfl rfl (Nat.le_of_ble_eq_true rfl) d_Mo_must2_10 rfl ⟨Nat.zero_le _, Nat.zero_le _⟩ rfl ?_
      refine z_ifeqB (tgt := 20) hC d_Mo_must2_13 rfl (fun c_4 => Bool.noConfusion c_4) (fun c_4 => ?_)
      refine z_iconstN hC 1 d_Mo_must2_16 rfl ?_
      refine z_goto (tgt := 21) hC d_Mo_must2_17 rfl ?_
      exact Z.eq (by first | (rw [if_pos (by assumption), if_pos (by assumption), if_pos (by assumption), if_pos (by assumption)]; done) | (rw [if_pos (by assumption), if_neg (by assumption), if_pos (by assumption), if_neg (by assumption)]; done) | (rw [if_neg (by assumption), if_neg (by assumption)]; done)) rfl rfl (zb_t (by first | (rw [decide_eq_true (by assumption), decide_eq_true (by assumption)]; rfl) | (rw [decide_eq_false (by assumption)]; rfl) | (rw [Bool.and_eq_false_iff]; exact Or.inr (decide_eq_false (by assumption))))) (hR _ _ d_Mo_must2_21)
    · refine z_callV (q0 := 0) (ci := 10) (w' := [(m0, .inr (10, [.int (iI ((0 : Nat) : Int)), .ref m1, .int (iI ((sn : Nat) : Int)), .int (iI (((ap + 1) : Nat) : Int)), .int (iI (((ap + 1) : Nat) : Int)), .ref m2, .ref m3, .ref m4, .int (iI ((xc : Nat) : Int)), .ref m5, .int (iI ((un : Nat) : Int)), .ref m6, .ref m7, .int (iI ((bc : Nat) : Int)), .ref m8, .int (iI ((wc : Nat) : Int)), .ref m9, .ref m10, .ref m11, .ref m12, .int (iI ((rc : Nat) : Int)), .ref m13, .ref m14, .ref m15, .ref m16, .ref m17, .int (iI ((hc : Nat) : Int)), .ref m18, .ref m19])), (m1, .inl ((g.2.1 4), 200, .inl (yF sf)))]) (st1 := [.int (iI (bI false))]) hC (k_Mo_must_F l g m0 m1 m2 m3 m4 m5 m6 m7 m8 m9 m10 m11 m12 m13 m14 m15 m16 m17 m18 m19 sn (ap + 1) wr xc un bc wc rc hc sf d hsn h8 (by omega) (by omega)) mw_882 zv_Mo_must rfl rfl ⟨Nat.le_of_ble_eq_true rfl, Nat.le_of_ble_eq_true rfl⟩ [0, 1] rfl rfl rfl rfl rfl rfl rfl rfl (Nat.le_of_ble_eq_true rfl) d_Mo_must2_10 rfl ⟨Nat.zero_le _, Nat.zero_le _⟩ rfl ?_
      refine z_ifeqB (tgt := 20) hC d_Mo_must2_13 rfl (fun c_5 => ?_) (fun c_5 => Bool.noConfusion c_5)
      refine z_iconstN hC 0 d_Mo_must2_20 rfl ?_
      exact Z.eq (by first | (rw [if_pos (by assumption), if_pos (by assumption), if_pos (by assumption), if_pos (by assumption)]; done) | (rw [if_pos (by assumption), if_neg (by assumption), if_pos (by assumption), if_neg (by assumption)]; done) | (rw [if_neg (by assumption), if_neg (by assumption)]; done)) rfl rfl (zb_f (by first | (rw [decide_eq_true (by assumption), decide_eq_true (by assumption)]; rfl) | (rw [decide_eq_false (by assumption)]; rfl) | (rw [Bool.and_eq_false_iff]; exact Or.inr (decide_eq_false (by assumption))))) (hR _ _ d_Mo_must2_21)
  · refine z_callV (q0 := 0) (ci := 10) (w' := [(m0, .inr (10, [.int (iI ((0 : Nat) : Int)), .ref m1, .int (iI ((sn : Nat) : Int)), .int (iI ((ap : Nat) : Int)), .int (iI ((ap : Nat) : Int)), .ref m2, .ref m3, .ref m4, .int (iI ((xc : Nat) : Int)), .ref m5, .int (iI ((un : Nat) : Int)), .ref m6, .ref m7, .int (iI ((bc : Nat) : Int)), .ref m8, .int (iI ((wc : Nat) : Int)), .ref m9, .ref m10, .ref m11, .ref m12, .int (iI ((rc : Nat) : Int)), .ref m13, .ref m14, .ref m15, .ref m16, .ref m17, .int (iI ((hc : Nat) : Int)), .ref m18, .ref m19])), (m1, .inl ((g.2.1 4), 200, .inl (yF sf)))]) (st1 := [.int (iI (bI false))]) hC (k_Mo_must_F l g m0 m1 m2 m3 m4 m5 m6 m7 m8 m9 m10 m11 m12 m13 m14 m15 m16 m17 m18 m19 sn ap wr xc un bc wc rc hc sf c hsn h8 hap (by omega)) mw_882 zv_Mo_must rfl rfl ⟨Nat.le_of_ble_eq_true rfl, Nat.le_of_ble_eq_true rfl⟩ [0, 1] rfl rfl rfl rfl rfl rfl rfl rfl (Nat.le_of_ble_eq_true rfl) d_Mo_must2_2 rfl ⟨Nat.zero_le _, Nat.zero_le _⟩ rfl ?_
    refine z_ifeqB (tgt := 20) hC d_Mo_must2_5 rfl (fun c_6 => ?_) (fun c_6 => Bool.noConfusion c_6)
    refine z_iconstN hC 0 d_Mo_must2_20 rfl ?_
    exact Z.eq (by first | (rw [if_pos (by assumption), if_pos (by assumption), if_pos (by assumption), if_pos (by assumption)]; done) | (rw [if_pos (by assumption), if_neg (by assumption), if_pos (by assumption), if_neg (by assumption)]; done) | (rw [if_neg (by assumption), if_neg (by assumption)]; done)) rfl rfl (zb_f (by first | (rw [decide_eq_true (by assumption), decide_eq_true (by assumption)]; rfl) | (rw [decide_eq_false (by assumption)]; rfl) | (rw [Bool.and_eq_false_iff]; exact Or.inr (decide_eq_false (by assumption))))) (hR _ _ d_Mo_must2_21)
set_option maxHeartbeats 4000000 in
set_option maxRecDepth 100000 in
theorem k_Mo_value (l : Launch) (g : ZG) (m0 m1 m2 m3 m4 m5 m6 m7 m8 m9 m10 m11 m12 m13 m14 m15 m16 m17 m18 m19 sn ap wr xc un bc wc rc hc : Nat) (sf : Nat → Int32) (hsn : sn ≤ 200) (h8 : y8 sf) (hap : ap ≤ sn)   : Ct l g y_Mo_value c_Mo_value 3 (some .int) { frames := 1, cells := 0, slots := 0, locals := 21 } [.ref m0] [(m0, .inr (10, [.int (iI ((0 : Nat) : Int)), .ref m1, .int (iI ((sn : Nat) : Int)), .int (iI ((ap : Nat) : Int)), .int (iI ((wr : Nat) : Int)), .ref m2, .ref m3, .ref m4, .int (iI ((xc : Nat) : Int)), .ref m5, .int (iI ((un : Nat) : Int)), .ref m6, .ref m7, .int (iI ((bc : Nat) : Int)), .ref m8, .int (iI ((wc : Nat) : Int)), .ref m9, .ref m10, .ref m11, .ref m12, .int (iI ((rc : Nat) : Int)), .ref m13, .ref m14, .ref m15, .ref m16, .ref m17, .int (iI ((hc : Nat) : Int)), .ref m18, .ref m19])), (m1, .inl ((g.2.1 4), 200, .inl (yF sf)))] (some (.int (iI (tvR sn sf ap)))) [(m0, .inr (10, [.int (iI ((0 : Nat) : Int)), .ref m1, .int (iI ((sn : Nat) : Int)), .int (iI ((tvP sn sf ap : Nat) : Int)), .int (iI ((if tvR sn sf ap = -1 then tvP sn sf ap else wr : Nat) : Int)), .ref m2, .ref m3, .ref m4, .int (iI ((xc : Nat) : Int)), .ref m5, .int (iI ((un : Nat) : Int)), .ref m6, .ref m7, .int (iI ((bc : Nat) : Int)), .ref m8, .int (iI ((wc : Nat) : Int)), .ref m9, .ref m10, .ref m11, .ref m12, .int (iI ((rc : Nat) : Int)), .ref m13, .ref m14, .ref m15, .ref m16, .ref m17, .int (iI ((hc : Nat) : Int)), .ref m18, .ref m19])), (m1, .inl ((g.2.1 4), 200, .inl (yF sf)))] := by
  refine ct_i (lv := [(0, .ref m0)]) (by decide) rfl (Nat.le_of_ble_eq_true rfl) rfl ?_
  intro x hC hR
  refine z_aload_n hC d_Mo_value_0 rfl 0 rfl ?_
  refine z_get hC hi_Mo 0 rfl rfl 3 (by decide) mw_738 (Or.inl rfl) rfl d_Mo_value_1 ?_
  refine z_istore_n (lv' := [(1, .int (iI ((ap : Nat) : Int))), (0, .ref m0)]) hC d_Mo_value_4 rfl (by decide) rfl ?_
  refine z_iconstN hC 0 d_Mo_value_5 rfl ?_
  refine z_istore_n (lv' := [(2, .int (iI ((0 : Nat) : Int))), (1, .int (iI ((ap : Nat) : Int))), (0, .ref m0)]) hC d_Mo_value_6 rfl (by decide) rfl ?_
  have L_7 : ∀ (fu : Nat) (v : Int) (d p : Nat), (d ≤ 5) → (p = ap + d) → (p ≤ sn) → (tvL sn sf (5 - d) v p = tvL sn sf 5 0 ap) → 5 - d < fu → Z x (0, 0) [(m0, .inr (10, [.int (iI ((0 : Nat) : Int)), .ref m1, .int (iI ((sn : Nat) : Int)), .int (iI ((p : Nat) : Int)), .int (iI ((wr : Nat) : Int)), .ref m2, .ref m3, .ref m4, .int (iI ((xc : Nat) : Int)), .ref m5, .int (iI ((un : Nat) : Int)), .ref m6, .ref m7, .int (iI ((bc : Nat) : Int)), .ref m8, .int (iI ((wc : Nat) : Int)), .ref m9, .ref m10, .ref m11, .ref m12, .int (iI ((rc : Nat) : Int)), .ref m13, .ref m14, .ref m15, .ref m16, .ref m17, .int (iI ((hc : Nat) : Int)), .ref m18, .ref m19])), (m1, .inl ((g.2.1 4), 200, .inl (yF sf)))] 7 [(2, .int (iI v)), (1, .int (iI ((ap : Nat) : Int))), (0, .ref m0)] [] := by
    intro fu
    induction fu with
    | zero => intro v d p hd hp hpn ht hmu; exact absurd hmu (Nat.not_lt_zero _)
    | succ fu ih_7 =>
      intro v d p hd hp hpn ht hmu
      refine z_aload_n hC d_Mo_value_7 rfl 2 rfl ?_
      refine z_aload_n hC d_Mo_value_8 rfl 2 rfl ?_
      refine z_get hC hi_Mo 0 rfl rfl 3 (by decide) mw_738 (Or.inl rfl) rfl d_Mo_value_9 ?_
      refine z_callV (q0 := 0) (ci := 10) (w' := [(m0, .inr (10, [.int (iI ((0 : Nat) : Int)), .ref m1, .int (iI ((sn : Nat) : Int)), .int (iI ((p : Nat) : Int)), .int (iI ((wr : Nat) : Int)), .ref m2, .ref m3, .ref m4, .int (iI ((xc : Nat) : Int)), .ref m5, .int (iI ((un : Nat) : Int)), .ref m6, .ref m7, .int (iI ((bc : Nat) : Int)), .ref m8, .int (iI ((wc : Nat) : Int)), .ref m9, .ref m10, .ref m11, .ref m12, .int (iI ((rc : Nat) : Int)), .ref m13, .ref m14, .ref m15, .ref m16, .ref m17, .int (iI ((hc : Nat) : Int)), .ref m18, .ref m19])), (m1, .inl ((g.2.1 4), 200, .inl (yF sf)))]) (st1 := [.int (sN sn sf p)]) hC (k_Mo_look l g m0 m1 m2 m3 m4 m5 m6 m7 m8 m9 m10 m11 m12 m13 m14 m15 m16 m17 m18 m19 sn p wr xc un bc wc rc hc sf p hsn h8 (by omega)) mw_835 zv_Mo_look rfl rfl ⟨Nat.le_of_ble_eq_true rfl, Nat.le_of_ble_eq_true rfl⟩ [0, 1] rfl rfl rfl rfl rfl rfl rfl rfl (Nat.le_of_ble_eq_true rfl) d_Mo_value_12 rfl ⟨Nat.zero_le _, Nat.zero_le _⟩ rfl ?_
      refine z_callS (w' := [(m0, .inr (10, [.int (iI ((0 : Nat) : Int)), .ref m1, .int (iI ((sn : Nat) : Int)), .int (iI ((p : Nat) : Int)), .int (iI ((wr : Nat) : Int)), .ref m2, .ref m3, .ref m4, .int (iI ((xc : Nat) : Int)), .ref m5, .int (iI ((un : Nat) : Int)), .ref m6, .ref m7, .int (iI ((bc : Nat) : Int)), .ref m8, .int (iI ((wc : Nat) : Int)), .ref m9, .ref m10, .ref m11, .ref m12, .int (iI ((rc : Nat) : Int)), .ref m13, .ref m14, .ref m15, .ref m16, .ref m17, .int (iI ((hc : Nat) : Int)), .ref m18, .ref m19])), (m1, .inl ((g.2.1 4), 200, .inl (yF sf)))]) (st1 := [.int (iI (bI (isD (sN sn sf p))))]) hC (k_Mo_isDigit l g (sN sn sf p)) mw_890 zs_Mo_isDigit rfl rfl ⟨Nat.le_of_ble_eq_true rfl, Nat.le_of_ble_eq_true rfl⟩ [] rfl rfl rfl rfl rfl (Nat.le_of_ble_eq_true rfl) d_Mo_value_15 rfl ⟨Nat.zero_le _, Nat.zero_le _⟩ rfl ?_
      refine z_ifeqB (tgt := 61) hC d_Mo_value_18 rfl (fun c_1 => ?_) (fun c_1 => ?_)
      · have hq : (v, p) = tvL sn sf 5 0 ap := by first | exact (tvL_0 (by omega)).symm.trans ht | exact (tvL_no (by assumption)).symm.trans ht
        have hv0 := tvL_pos hq
        have hpp : p = tvP sn sf ap := by rw [tvP, ← hq]
        refine z_aload_n hC d_Mo_value_61 rfl 2 rfl ?_
        refine z_get hC hi_Mo 0 rfl rfl 3 (by decide) mw_738 (Or.inl rfl) rfl d_Mo_value_62 ?_
        refine z_iload_n hC d_Mo_value_65 rfl 1 rfl ?_
        refine z_icmp_eq (tgt := 83) hC ((p : Nat) : Int) ((ap : Nat) : Int) d_Mo_value_66 rfl (iI_t (by omega)) (iI_t (by omega)) (fun c_2 => ?_) (fun c_2 => ?_)
        · refine z_aload_n hC d_Mo_value_83 rfl 2 rfl ?_
          refine z_aload_n hC d_Mo_value_84 rfl 2 rfl ?_
          refine z_get hC hi_Mo 0 rfl rfl 3 (by decide) mw_738 (Or.inl rfl) rfl d_Mo_value_85 ?_
          refine z_put (v := .int (iI ((p : Nat) : Int))) (ty := .int) (w' := [(m0, .inr (10, [.int (iI ((0 : Nat) : Int)), .ref m1, .int (iI ((sn : Nat) : Int)), .int (iI ((p : Nat) : Int)), .int (iI ((p : Nat) : Int)), .ref m2, .ref m3, .ref m4, .int (iI ((xc : Nat) : Int)), .ref m5, .int (iI ((un : Nat) : Int)), .ref m6, .ref m7, .int (iI ((bc : Nat) : Int)), .ref m8, .int (iI ((wc : Nat) : Int)), .ref m9, .ref m10, .ref m11, .ref m12, .int (iI ((rc : Nat) : Int)), .ref m13, .ref m14, .ref m15, .ref m16, .ref m17, .int (iI ((hc : Nat) : Int)), .ref m18, .ref m19])), (m1, .inl ((g.2.1 4), 200, .inl (yF sf)))]) hC hi_Mo ty_Mo ok_Mo nm_Mo 0 rfl rfl 4 (by decide) mw_739 rfl rfl rfl rfl rfl (Nat.le_of_ble_eq_true rfl) rfl d_Mo_value_88 ?_
          refine z_iconst hC d_Mo_value_91 ?_
          exact Z.eq (by first | (rw [if_pos (tvR_no hq (Or.inl (by omega))).symm, ← hpp]; done) | (rw [if_pos (tvR_no hq (Or.inr (by assumption))).symm, ← hpp]; done) | (rw [if_neg (by rw [← tvR_is hq (by omega) (by assumption)]; omega), ← hpp]; done)) rfl rfl (by first | (rw [tvR_no hq (Or.inl (by omega))]) | (rw [tvR_no hq (Or.inr (by assumption))]) | (rw [tvR_is hq (by omega) (by assumption)])) (hR _ _ d_Mo_value_92)
        · refine z_aload_n hC d_Mo_value_69 rfl 2 rfl ?_
          refine z_aload_n hC d_Mo_value_70 rfl 2 rfl ?_
          refine z_get hC hi_Mo 0 rfl rfl 3 (by decide) mw_738 (Or.inl rfl) rfl d_Mo_value_71 ?_
          refine z_callV (q0 := 0) (ci := 10) (w' := [(m0, .inr (10, [.int (iI ((0 : Nat) : Int)), .ref m1, .int (iI ((sn : Nat) : Int)), .int (iI ((p : Nat) : Int)), .int (iI ((wr : Nat) : Int)), .ref m2, .ref m3, .ref m4, .int (iI ((xc : Nat) : Int)), .ref m5, .int (iI ((un : Nat) : Int)), .ref m6, .ref m7, .int (iI ((bc : Nat) : Int)), .ref m8, .int (iI ((wc : Nat) : Int)), .ref m9, .ref m10, .ref m11, .ref m12, .int (iI ((rc : Nat) : Int)), .ref m13, .ref m14, .ref m15, .ref m16, .ref m17, .int (iI ((hc : Nat) : Int)), .ref m18, .ref m19])), (m1, .inl ((g.2.1 4), 200, .inl (yF sf)))]) (st1 := [.int (sN sn sf p)]) hC (k_Mo_look l g m0 m1 m2 m3 m4 m5 m6 m7 m8 m9 m10 m11 m12 m13 m14 m15 m16 m17 m18 m19 sn p wr xc un bc wc rc hc sf p hsn h8 (by omega)) mw_835 zv_Mo_look rfl rfl ⟨Nat.le_of_ble_eq_true rfl, Nat.le_of_ble_eq_true rfl⟩ [0, 1] rfl rfl rfl rfl rfl rfl rfl rfl (Nat.le_of_ble_eq_true rfl) d_Mo_value_74 rfl ⟨Nat.zero_le _, Nat.zero_le _⟩ rfl ?_
          refine z_callS (w' := [(m0, .inr (10, [.int (iI ((0 : Nat) : Int)), .ref m1, .int (iI ((sn : Nat) : Int)), .int (iI ((p : Nat) : Int)), .int (iI ((wr : Nat) : Int)), .ref m2, .ref m3, .ref m4, .int (iI ((xc : Nat) : Int)), .ref m5, .int (iI ((un : Nat) : Int)), .ref m6, .ref m7, .int (iI ((bc : Nat) : Int)), .ref m8, .int (iI ((wc : Nat) : Int)), .ref m9, .ref m10, .ref m11, .ref m12, .int (iI ((rc : Nat) : Int)), .ref m13, .ref m14, .ref m15, .ref m16, .ref m17, .int (iI ((hc : Nat) : Int)), .ref m18, .ref m19])), (m1, .inl ((g.2.1 4), 200, .inl (yF sf)))]) (st1 := [.int (iI (bI (isD (sN sn sf p))))]) hC (k_Mo_isDigit l g (sN sn sf p)) mw_890 zs_Mo_isDigit rfl rfl ⟨Nat.le_of_ble_eq_true rfl, Nat.le_of_ble_eq_true rfl⟩ [] rfl rfl rfl rfl rfl (Nat.le_of_ble_eq_true rfl) d_Mo_value_77 rfl ⟨Nat.zero_le _, Nat.zero_le _⟩ rfl ?_
          refine z_ifeqB (tgt := 93) hC d_Mo_value_80 rfl (fun c_3 => ?_) (fun c_3 => ?_)
          · refine z_iload_n hC d_Mo_value_93 rfl 0 rfl ?_
            exact Z.eq (by first | (rw [if_pos (tvR_no hq (Or.inl (by omega))).symm, ← hpp]; done) | (rw [if_pos (tvR_no hq (Or.inr (by assumption))).symm, ← hpp]; done) | (rw [if_neg (by rw [← tvR_is hq (by omega) (by assumption)]; omega), ← hpp]; done)) rfl rfl (by first | (rw [tvR_no hq (Or.inl (by omega))]) | (rw [tvR_no hq (Or.inr (by assumption))]) | (rw [tvR_is hq (by omega) (by assumption)])) (hR _ _ d_Mo_value_94)
          · refine z_aload_n hC d_Mo_value_83 rfl 2 rfl ?_
            refine z_aload_n hC d_Mo_value_84 rfl 2 rfl ?_
            refine z_get hC hi_Mo 0 rfl rfl 3 (by decide) mw_738 (Or.inl rfl) rfl d_Mo_value_85 ?_
            refine z_put (v := .int (iI ((p : Nat) : Int))) (ty := .int) (w' := [(m0, .inr (10, [.int (iI ((0 : Nat) : Int)), .ref m1, .int (iI ((sn : Nat) : Int)), .int (iI ((p : Nat) : Int)), .int (iI ((p : Nat) : Int)), .ref m2, .ref m3, .ref m4, .int (iI ((xc : Nat) : Int)), .ref m5, .int (iI ((un : Nat) : Int)), .ref m6, .ref m7, .int (iI ((bc : Nat) : Int)), .ref m8, .int (iI ((wc : Nat) : Int)), .ref m9, .ref m10, .ref m11, .ref m12, .int (iI ((rc : Nat) : Int)), .ref m13, .ref m14, .ref m15, .ref m16, .ref m17, .int (iI ((hc : Nat) : Int)), .ref m18, .ref m19])), (m1, .inl ((g.2.1 4), 200, .inl (yF sf)))]) hC hi_Mo ty_Mo ok_Mo nm_Mo 0 rfl rfl 4 (by decide) mw_739 rfl rfl rfl rfl rfl (Nat.le_of_ble_eq_true rfl) rfl d_Mo_value_88 ?_
            refine z_iconst hC d_Mo_value_91 ?_
            exact Z.eq (by first | (rw [if_pos (tvR_no hq (Or.inl (by omega))).symm, ← hpp]; done) | (rw [if_pos (tvR_no hq (Or.inr (by assumption))).symm, ← hpp]; done) | (rw [if_neg (by rw [← tvR_is hq (by omega) (by assumption)]; omega), ← hpp]; done)) rfl rfl (by first | (rw [tvR_no hq (Or.inl (by omega))]) | (rw [tvR_no hq (Or.inr (by assumption))]) | (rw [tvR_is hq (by omega) (by assumption)])) (hR _ _ d_Mo_value_92)
      · refine z_aload_n hC d_Mo_value_21 rfl 2 rfl ?_
        refine z_get hC hi_Mo 0 rfl rfl 3 (by decide) mw_738 (Or.inl rfl) rfl d_Mo_value_22 ?_
        refine z_iload_n hC d_Mo_value_25 rfl 1 rfl ?_
        refine z_isubN hC d_Mo_value_26 (by omega) ?_
        refine z_iconstN hC 5 d_Mo_value_27 rfl ?_
        refine z_icmp_ge (tgt := 61) hC ((p - ap : Nat) : Int) ((5 : Nat) : Int) d_Mo_value_28 rfl (iI_t (by omega)) (iI_t (by omega)) (fun c_4 => ?_) (fun c_4 => ?_)
        · have hq : (v, p) = tvL sn sf 5 0 ap := by first | exact (tvL_0 (by omega)).symm.trans ht | exact (tvL_no (by assumption)).symm.trans ht
          have hv0 := tvL_pos hq
          have hpp : p = tvP sn sf ap := by rw [tvP, ← hq]
          refine z_aload_n hC d_Mo_value_61 rfl 2 rfl ?_
          refine z_get hC hi_Mo 0 rfl rfl 3 (by decide) mw_738 (Or.inl rfl) rfl d_Mo_value_62 ?_
          refine z_iload_n hC d_Mo_value_65 rfl 1 rfl ?_
          refine z_icmp_eq (tgt := 83) hC ((p : Nat) : Int) ((ap : Nat) : Int) d_Mo_value_66 rfl (iI_t (by omega)) (iI_t (by omega)) (fun c_5 => ?_) (fun c_5 => ?_)
          · refine z_aload_n hC d_Mo_value_83 rfl 2 rfl ?_
            refine z_aload_n hC d_Mo_value_84 rfl 2 rfl ?_
            refine z_get hC hi_Mo 0 rfl rfl 3 (by decide) mw_738 (Or.inl rfl) rfl d_Mo_value_85 ?_
            refine z_put (v := .int (iI ((p : Nat) : Int))) (ty := .int) (w' := [(m0, .inr (10, [.int (iI ((0 : Nat) : Int)), .ref m1, .int (iI ((sn : Nat) : Int)), .int (iI ((p : Nat) : Int)), .int (iI ((p : Nat) : Int)), .ref m2, .ref m3, .ref m4, .int (iI ((xc : Nat) : Int)), .ref m5, .int (iI ((un : Nat) : Int)), .ref m6, .ref m7, .int (iI ((bc : Nat) : Int)), .ref m8, .int (iI ((wc : Nat) : Int)), .ref m9, .ref m10, .ref m11, .ref m12, .int (iI ((rc : Nat) : Int)), .ref m13, .ref m14, .ref m15, .ref m16, .ref m17, .int (iI ((hc : Nat) : Int)), .ref m18, .ref m19])), (m1, .inl ((g.2.1 4), 200, .inl (yF sf)))]) hC hi_Mo ty_Mo ok_Mo nm_Mo 0 rfl rfl 4 (by decide) mw_739 rfl rfl rfl rfl rfl (Nat.le_of_ble_eq_true rfl) rfl d_Mo_value_88 ?_
            refine z_iconst hC d_Mo_value_91 ?_
            exact Z.eq (by first | (rw [if_pos (tvR_no hq (Or.inl (by omega))).symm, ← hpp]; done) | (rw [if_pos (tvR_no hq (Or.inr (by assumption))).symm, ← hpp]; done) | (rw [if_neg (by rw [← tvR_is hq (by omega) (by assumption)]; omega), ← hpp]; done)) rfl rfl (by first | (rw [tvR_no hq (Or.inl (by omega))]) | (rw [tvR_no hq (Or.inr (by assumption))]) | (rw [tvR_is hq (by omega) (by assumption)])) (hR _ _ d_Mo_value_92)
          · refine z_aload_n hC d_Mo_value_69 rfl 2 rfl ?_
            refine z_aload_n hC d_Mo_value_70 rfl 2 rfl ?_
            refine z_get hC hi_Mo 0 rfl rfl 3 (by decide) mw_738 (Or.inl rfl) rfl d_Mo_value_71 ?_
            refine z_callV (q0 := 0) (ci := 10) (w' := [(m0, .inr (10, [.int (iI ((0 : Nat) : Int)), .ref m1, .int (iI ((sn : Nat) : Int)), .int (iI ((p : Nat) : Int)), .int (iI ((wr : Nat) : Int)), .ref m2, .ref m3, .ref m4, .int (iI ((xc : Nat) : Int)), .ref m5, .int (iI ((un : Nat) : Int)), .ref m6, .ref m7, .int (iI ((bc : Nat) : Int)), .ref m8, .int (iI ((wc : Nat) : Int)), .ref m9, .ref m10, .ref m11, .ref m12, .int (iI ((rc : Nat) : Int)), .ref m13, .ref m14, .ref m15, .ref m16, .ref m17, .int (iI ((hc : Nat) : Int)), .ref m18, .ref m19])), (m1, .inl ((g.2.1 4), 200, .inl (yF sf)))]) (st1 := [.int (sN sn sf p)]) hC (k_Mo_look l g m0 m1 m2 m3 m4 m5 m6 m7 m8 m9 m10 m11 m12 m13 m14 m15 m16 m17 m18 m19 sn p wr xc un bc wc rc hc sf p hsn h8 (by omega)) mw_835 zv_Mo_look rfl rfl ⟨Nat.le_of_ble_eq_true rfl, Nat.le_of_ble_eq_true rfl⟩ [0, 1] rfl rfl rfl rfl rfl rfl rfl rfl (Nat.le_of_ble_eq_true rfl) d_Mo_value_74 rfl ⟨Nat.zero_le _, Nat.zero_le _⟩ rfl ?_
            refine z_callS (w' := [(m0, .inr (10, [.int (iI ((0 : Nat) : Int)), .ref m1, .int (iI ((sn : Nat) : Int)), .int (iI ((p : Nat) : Int)), .int (iI ((wr : Nat) : Int)), .ref m2, .ref m3, .ref m4, .int (iI ((xc : Nat) : Int)), .ref m5, .int (iI ((un : Nat) : Int)), .ref m6, .ref m7, .int (iI ((bc : Nat) : Int)), .ref m8, .int (iI ((wc : Nat) : Int)), .ref m9, .ref m10, .ref m11, .ref m12, .int (iI ((rc : Nat) : Int)), .ref m13, .ref m14, .ref m15, .ref m16, .ref m17, .int (iI ((hc : Nat) : Int)), .ref m18, .ref m19])), (m1, .inl ((g.2.1 4), 200, .inl (yF sf)))]) (st1 := [.int (iI (bI (isD (sN sn sf p))))]) hC (k_Mo_isDigit l g (sN sn sf p)) mw_890 zs_Mo_isDigit rfl rfl ⟨Nat.le_of_ble_eq_true rfl, Nat.le_of_ble_eq_true rfl⟩ [] rfl rfl rfl rfl rfl (Nat.le_of_ble_eq_true rfl) d_Mo_value_77 rfl ⟨Nat.zero_le _, Nat.zero_le _⟩ rfl ?_
            refine z_ifeqB (tgt := 93) hC d_Mo_value_80 rfl (fun c_6 => ?_) (fun c_6 => ?_)
            · refine z_iload_n hC d_Mo_value_93 rfl 0 rfl ?_
              exact Z.eq (by first | (rw [if_pos (tvR_no hq (Or.inl (by omega))).symm, ← hpp]; done) | (rw [if_pos (tvR_no hq (Or.inr (by assumption))).symm, ← hpp]; done) | (rw [if_neg (by rw [← tvR_is hq (by omega) (by assumption)]; omega), ← hpp]; done)) rfl rfl (by first | (rw [tvR_no hq (Or.inl (by omega))]) | (rw [tvR_no hq (Or.inr (by assumption))]) | (rw [tvR_is hq (by omega) (by assumption)])) (hR _ _ d_Mo_value_94)
            · refine z_aload_n hC d_Mo_value_83 rfl 2 rfl ?_
              refine z_aload_n hC d_Mo_value_84 rfl 2 rfl ?_
              refine z_get hC hi_Mo 0 rfl rfl 3 (by decide) mw_738 (Or.inl rfl) rfl d_Mo_value_85 ?_
              refine z_put (v := .int (iI ((p : Nat) : Int))) (ty := .int) (w' := [(m0, .inr (10, [.int (iI ((0 : Nat) : Int)), .ref m1, .int (iI ((sn : Nat) : Int)), .int (iI ((p : Nat) : Int)), .int (iI ((p : Nat) : Int)), .ref m2, .ref m3, .ref m4, .int (iI ((xc : Nat) : Int)), .ref m5, .int (iI ((un : Nat) : Int)), .ref m6, .ref m7, .int (iI ((bc : Nat) : Int)), .ref m8, .int (iI ((wc : Nat) : Int)), .ref m9, .ref m10, .ref m11, .ref m12, .int (iI ((rc : Nat) : Int)), .ref m13, .ref m14, .ref m15, .ref m16, .ref m17, .int (iI ((hc : Nat) : Int)), .ref m18, .ref m19])), (m1, .inl ((g.2.1 4), 200, .inl (yF sf)))]) hC hi_Mo ty_Mo ok_Mo nm_Mo 0 rfl rfl 4 (by decide) mw_739 rfl rfl rfl rfl rfl (Nat.le_of_ble_eq_true rfl) rfl d_Mo_value_88 ?_
              refine z_iconst hC d_Mo_value_91 ?_
              exact Z.eq (by first | (rw [if_pos (tvR_no hq (Or.inl (by omega))).symm, ← hpp]; done) | (rw [if_pos (tvR_no hq (Or.inr (by assumption))).symm, ← hpp]; done) | (rw [if_neg (by rw [← tvR_is hq (by omega) (by assumption)]; omega), ← hpp]; done)) rfl rfl (by first | (rw [tvR_no hq (Or.inl (by omega))]) | (rw [tvR_no hq (Or.inr (by assumption))]) | (rw [tvR_is hq (by omega) (by assumption)])) (hR _ _ d_Mo_value_92)
        · refine z_bipush (a := ((10 : Nat) : Int)) hC d_Mo_value_31 (by decide) ?_
          refine z_iload_n hC d_Mo_value_33 rfl 0 rfl ?_
          refine z_imul hC d_Mo_value_34 ?_
          refine z_aload_n hC d_Mo_value_35 rfl 2 rfl ?_
          refine z_aload_n hC d_Mo_value_36 rfl 2 rfl ?_
          refine z_get hC hi_Mo 0 rfl rfl 3 (by decide) mw_738 (Or.inl rfl) rfl d_Mo_value_37 ?_
          refine z_callV (q0 := 0) (ci := 10) (w' := [(m0, .inr (10, [.int (iI ((0 : Nat) : Int)), .ref m1, .int (iI ((sn : Nat) : Int)), .int (iI ((p : Nat) : Int)), .int (iI ((wr : Nat) : Int)), .ref m2, .ref m3, .ref m4, .int (iI ((xc : Nat) : Int)), .ref m5, .int (iI ((un : Nat) : Int)), .ref m6, .ref m7, .int (iI ((bc : Nat) : Int)), .ref m8, .int (iI ((wc : Nat) : Int)), .ref m9, .ref m10, .ref m11, .ref m12, .int (iI ((rc : Nat) : Int)), .ref m13, .ref m14, .ref m15, .ref m16, .ref m17, .int (iI ((hc : Nat) : Int)), .ref m18, .ref m19])), (m1, .inl ((g.2.1 4), 200, .inl (yF sf)))]) (st1 := [.int (sN sn sf p), .int (iI (((10 : Nat) : Int) * v))]) hC (k_Mo_look l g m0 m1 m2 m3 m4 m5 m6 m7 m8 m9 m10 m11 m12 m13 m14 m15 m16 m17 m18 m19 sn p wr xc un bc wc rc hc sf p hsn h8 (by omega)) mw_835 zv_Mo_look rfl rfl ⟨Nat.le_of_ble_eq_true rfl, Nat.le_of_ble_eq_true rfl⟩ [0, 1] rfl rfl rfl rfl rfl rfl rfl rfl (Nat.le_of_ble_eq_true rfl) d_Mo_value_40 rfl ⟨Nat.zero_le _, Nat.zero_le _⟩ rfl ?_
          refine z_RI ?_
          refine z_iadd hC d_Mo_value_43 ?_
          refine z_bipush (a := ((48 : Nat) : Int)) hC d_Mo_value_44 (by decide) ?_
          refine z_isub hC d_Mo_value_46 ?_
          refine z_istore_n (lv' := [(2, .int (iI (((((10 : Nat) : Int) * v) + ((sN sn sf p).toInt)) - ((48 : Nat) : Int)))), (1, .int (iI ((ap : Nat) : Int))), (0, .ref m0)]) hC d_Mo_value_47 rfl (by decide) rfl ?_
          refine z_aload_n hC d_Mo_value_48 rfl 2 rfl ?_
          refine z_dup hC d_Mo_value_49 rfl ?_
          refine z_get hC hi_Mo 0 rfl rfl 3 (by decide) mw_738 (Or.inl rfl) rfl d_Mo_value_50 ?_
          refine z_iconstN hC 1 d_Mo_value_53 rfl ?_
          refine z_iaddN hC d_Mo_value_54 ?_
          refine z_put (v := .int (iI ((p + 1 : Nat) : Int))) (ty := .int) (w' := [(m0, .inr (10, [.int (iI ((0 : Nat) : Int)), .ref m1, .int (iI ((sn : Nat) : Int)), .int (iI ((p + 1 : Nat) : Int)), .int (iI ((wr : Nat) : Int)), .ref m2, .ref m3, .ref m4, .int (iI ((xc : Nat) : Int)), .ref m5, .int (iI ((un : Nat) : Int)), .ref m6, .ref m7, .int (iI ((bc : Nat) : Int)), .ref m8, .int (iI ((wc : Nat) : Int)), .ref m9, .ref m10, .ref m11, .ref m12, .int (iI ((rc : Nat) : Int)), .ref m13, .ref m14, .ref m15, .ref m16, .ref m17, .int (iI ((hc : Nat) : Int)), .ref m18, .ref m19])), (m1, .inl ((g.2.1 4), 200, .inl (yF sf)))]) hC hi_Mo ty_Mo ok_Mo nm_Mo 0 rfl rfl 3 (by decide) mw_738 rfl rfl rfl rfl rfl (Nat.le_of_ble_eq_true rfl) rfl d_Mo_value_55 ?_
          refine z_goto (tgt := 7) hC d_Mo_value_58 rfl ?_
          exact Zloc [0, 1, 2] rfl (Z.eq (w' := [(m0, .inr (10, [.int (iI ((0 : Nat) : Int)), .ref m1, .int (iI ((sn : Nat) : Int)), .int (iI (((p + 1) : Nat) : Int)), .int (iI ((wr : Nat) : Int)), .ref m2, .ref m3, .ref m4, .int (iI ((xc : Nat) : Int)), .ref m5, .int (iI ((un : Nat) : Int)), .ref m6, .ref m7, .int (iI ((bc : Nat) : Int)), .ref m8, .int (iI ((wc : Nat) : Int)), .ref m9, .ref m10, .ref m11, .ref m12, .int (iI ((rc : Nat) : Int)), .ref m13, .ref m14, .ref m15, .ref m16, .ref m17, .int (iI ((hc : Nat) : Int)), .ref m18, .ref m19])), (m1, .inl ((g.2.1 4), 200, .inl (yF sf)))]) rfl rfl rfl rfl (ih_7 (((((10 : Nat) : Int) * v) + ((sN sn sf p).toInt)) - ((48 : Nat) : Int)) (d + 1) (p + 1) (by omega) (by omega) (isD_lt (by assumption)) ((tvL_go2 (by omega) (by assumption)).trans ht) (by omega)))
  exact Zloc [0, 1, 2] rfl (Z.eq (w' := [(m0, .inr (10, [.int (iI ((0 : Nat) : Int)), .ref m1, .int (iI ((sn : Nat) : Int)), .int (iI ((ap : Nat) : Int)), .int (iI ((wr : Nat) : Int)), .ref m2, .ref m3, .ref m4, .int (iI ((xc : Nat) : Int)), .ref m5, .int (iI ((un : Nat) : Int)), .ref m6, .ref m7, .int (iI ((bc : Nat) : Int)), .ref m8, .int (iI ((wc : Nat) : Int)), .ref m9, .ref m10, .ref m11, .ref m12, .int (iI ((rc : Nat) : Int)), .ref m13, .ref m14, .ref m15, .ref m16, .ref m17, .int (iI ((hc : Nat) : Int)), .ref m18, .ref m19])), (m1, .inl ((g.2.1 4), 200, .inl (yF sf)))]) rfl rfl rfl rfl (L_7 _ ((0 : Nat) : Int) 0 ap (by omega) (by omega) (by omega) rfl (Nat.lt_succ_self _)))
set_option maxHeartbeats 4000000 in
set_option maxRecDepth 100000 in
theorem k_Mo_name (l : Launch) (g : ZG) (m0 m1 m2 m3 m4 m5 m6 m7 m8 m9 m10 m11 m12 m13 m14 m15 m16 m17 m18 m19 sn ap wr xc un bc wc rc hc : Nat) (sf xl : Nat → Int32) (xn : Nat → Nat) (uf : Nat → Int32) (hsn : sn ≤ 200) (h8 : y8 sf) (hxc : xc ≤ 8) (hxn : ∀ j, j < xc → xn j ≤ 8) (h8x : y8 xl) (hap : ap ≤ sn)   : Ct l g y_Mo_name c_Mo_name 4 (some .int) { frames := 2, cells := 0, slots := 0, locals := 43 } [.ref m0] [(m0, .inr (10, [.int (iI ((0 : Nat) : Int)), .ref m1, .int (iI ((sn : Nat) : Int)), .int (iI ((ap : Nat) : Int)), .int (iI ((wr : Nat) : Int)), .ref m2, .ref m3, .ref m4, .int (iI ((xc : Nat) : Int)), .ref m5, .int (iI ((un : Nat) : Int)), .ref m6, .ref m7, .int (iI ((bc : Nat) : Int)), .ref m8, .int (iI ((wc : Nat) : Int)), .ref m9, .ref m10, .ref m11, .ref m12, .int (iI ((rc : Nat) : Int)), .ref m13, .ref m14, .ref m15, .ref m16, .ref m17, .int (iI ((hc : Nat) : Int)), .ref m18, .ref m19])), (m1, .inl ((g.2.1 4), 200, .inl (yF sf))), (m2, .inl ((g.2.1 4), 64, .inl (yF xl))), (m3, .inl ((g.2.1 0), 8, .inl (nF xn))), (m5, .inl ((g.2.1 4), 200, .inl (yF uf)))] (some (.int (iI (fnd (nmB xn xl sn sf ap (rowE sn sf (sn - ap) ap)) xc 0)))) [(m0, .inr (10, [.int (iI ((0 : Nat) : Int)), .ref m1, .int (iI ((sn : Nat) : Int)), .int (iI ((ap : Nat) : Int)), .int (iI ((if fnd (nmB xn xl sn sf ap (rowE sn sf (sn - ap) ap)) xc 0 = -1 then ap else wr : Nat) : Int)), .ref m2, .ref m3, .ref m4, .int (iI ((xc : Nat) : Int)), .ref m5, .int (iI ((if fnd (nmB xn xl sn sf ap (rowE sn sf (sn - ap) ap)) xc 0 = -1 then rowE sn sf (sn - ap) ap - ap else un : Nat) : Int)), .ref m6, .ref m7, .int (iI ((bc : Nat) : Int)), .ref m8, .int (iI ((wc : Nat) : Int)), .ref m9, .ref m10, .ref m11, .ref m12, .int (iI ((rc : Nat) : Int)), .ref m13, .ref m14, .ref m15, .ref m16, .ref m17, .int (iI ((hc : Nat) : Int)), .ref m18, .ref m19])), (m1, .inl ((g.2.1 4), 200, .inl (yF sf))), (m2, .inl ((g.2.1 4), 64, .inl (yF xl))), (m3, .inl ((g.2.1 0), 8, .inl (nF xn))), (m5, .inl ((g.2.1 4), 200, .inl (yF (if fnd (nmB xn xl sn sf ap (rowE sn sf (sn - ap) ap)) xc 0 = -1 then kpF uf sn sf ap (rowE sn sf (sn - ap) ap) else uf))))] := by
  refine ct_i (lv := [(0, .ref m0)]) (by decide) rfl (Nat.le_of_ble_eq_true rfl) rfl ?_
  intro x hC hR
  have hr9 := rowE_rng sn sf (sn - ap) ap
  have hf9 := fnd_rng (nmB xn xl sn sf ap (rowE sn sf (sn - ap) ap)) xc 0
  refine z_aload_n hC d_Mo_name_0 rfl 0 rfl ?_
  refine z_aload_n hC d_Mo_name_1 rfl 0 rfl ?_
  refine z_get hC hi_Mo 0 rfl rfl 3 (by decide) mw_738 (Or.inl rfl) rfl d_Mo_name_2 ?_
  refine z_callV (q0 := 0) (ci := 10) (w' := [(m0, .inr (10, [.int (iI ((0 : Nat) : Int)), .ref m1, .int (iI ((sn : Nat) : Int)), .int (iI ((ap : Nat) : Int)), .int (iI ((wr : Nat) : Int)), .ref m2, .ref m3, .ref m4, .int (iI ((xc : Nat) : Int)), .ref m5, .int (iI ((un : Nat) : Int)), .ref m6, .ref m7, .int (iI ((bc : Nat) : Int)), .ref m8, .int (iI ((wc : Nat) : Int)), .ref m9, .ref m10, .ref m11, .ref m12, .int (iI ((rc : Nat) : Int)), .ref m13, .ref m14, .ref m15, .ref m16, .ref m17, .int (iI ((hc : Nat) : Int)), .ref m18, .ref m19])), (m1, .inl ((g.2.1 4), 200, .inl (yF sf))), (m2, .inl ((g.2.1 4), 64, .inl (yF xl))), (m3, .inl ((g.2.1 0), 8, .inl (nF xn))), (m5, .inl ((g.2.1 4), 200, .inl (yF uf)))]) (st1 := [.int (iI ((rowE sn sf (sn - ap) ap - ap : Nat) : Int))]) hC (k_Mo_letters l g m0 m1 m2 m3 m4 m5 m6 m7 m8 m9 m10 m11 m12 m13 m14 m15 m16 m17 m18 m19 sn ap wr xc un bc wc rc hc sf ap hsn h8 hap) mw_831 zv_Mo_letters rfl rfl ⟨Nat.le_of_ble_eq_true rfl, Nat.le_of_ble_eq_true rfl⟩ [0, 1] rfl rfl rfl rfl rfl rfl rfl rfl (Nat.le_of_ble_eq_true rfl) d_Mo_name_5 rfl ⟨Nat.zero_le _, Nat.zero_le _⟩ rfl ?_
  refine z_istore_n (lv' := [(1, .int (iI ((rowE sn sf (sn - ap) ap - ap : Nat) : Int))), (0, .ref m0)]) hC d_Mo_name_8 rfl (by decide) rfl ?_
  refine z_aload_n hC d_Mo_name_9 rfl 1 rfl ?_
  refine z_aload_n hC d_Mo_name_10 rfl 1 rfl ?_
  refine z_get hC hi_Mo 0 rfl rfl 3 (by decide) mw_738 (Or.inl rfl) rfl d_Mo_name_11 ?_
  refine z_iload_n hC d_Mo_name_14 rfl 0 rfl ?_
  refine z_callV (q0 := 0) (ci := 10) (w' := [(m0, .inr (10, [.int (iI ((0 : Nat) : Int)), .ref m1, .int (iI ((sn : Nat) : Int)), .int (iI ((ap : Nat) : Int)), .int (iI ((wr : Nat) : Int)), .ref m2, .ref m3, .ref m4, .int (iI ((xc : Nat) : Int)), .ref m5, .int (iI ((un : Nat) : Int)), .ref m6, .ref m7, .int (iI ((bc : Nat) : Int)), .ref m8, .int (iI ((wc : Nat) : Int)), .ref m9, .ref m10, .ref m11, .ref m12, .int (iI ((rc : Nat) : Int)), .ref m13, .ref m14, .ref m15, .ref m16, .ref m17, .int (iI ((hc : Nat) : Int)), .ref m18, .ref m19])), (m1, .inl ((g.2.1 4), 200, .inl (yF sf))), (m2, .inl ((g.2.1 4), 64, .inl (yF xl))), (m3, .inl ((g.2.1 0), 8, .inl (nF xn))), (m5, .inl ((g.2.1 4), 200, .inl (yF uf)))]) (st1 := [.int (iI (fnd (nmB xn xl sn sf ap (rowE sn sf (sn - ap) ap)) xc 0))]) hC (k_Mo_named l g m0 m1 m2 m3 m4 m5 m6 m7 m8 m9 m10 m11 m12 m13 m14 m15 m16 m17 m18 m19 sn ap wr xc un bc wc rc hc sf xl xn ap (rowE sn sf (sn - ap) ap) hsn h8 hxc hxn h8x (by omega) (by omega)) mw_846 zv_Mo_named rfl rfl ⟨Nat.le_of_ble_eq_true rfl, Nat.le_of_ble_eq_true rfl⟩ [0, 1, 2, 3] rfl rfl rfl rfl rfl rfl rfl rfl (Nat.le_of_ble_eq_true rfl) d_Mo_name_15 rfl ⟨Nat.zero_le _, Nat.zero_le _⟩ rfl ?_
  refine z_istore_n (lv' := [(2, .int (iI (fnd (nmB xn xl sn sf ap (rowE sn sf (sn - ap) ap)) xc 0))), (1, .int (iI ((rowE sn sf (sn - ap) ap - ap : Nat) : Int))), (0, .ref m0)]) hC d_Mo_name_18 rfl (by decide) rfl ?_
  refine z_iload_n hC d_Mo_name_19 rfl 0 rfl ?_
  refine z_iconst hC d_Mo_name_20 ?_
  refine z_icmp_ne (tgt := 67) hC (fnd (nmB xn xl sn sf ap (rowE sn sf (sn - ap) ap)) xc 0) (-1) d_Mo_name_21 rfl (iI_t (by omega)) (iI_t (by omega)) (fun c_1 => ?_) (fun c_1 => ?_)
  · refine z_iload_n hC d_Mo_name_67 rfl 0 rfl ?_
    exact Z.eq (by first | (simp only [if_neg (show ¬ (fnd (nmB xn xl sn sf ap (rowE sn sf (sn - ap) ap)) xc 0 = -1) by omega)]; done) | (simp only [if_pos (show fnd (nmB xn xl sn sf ap (rowE sn sf (sn - ap) ap)) xc 0 = -1 by omega)]; rw [show h = kpF uf sn sf ap (rowE sn sf (sn - ap) ap) from funext (fun k => by rw [hh, kpF, show j = rowE sn sf (sn - ap) ap - ap by omega])])) rfl rfl rfl (hR _ _ d_Mo_name_68)
  · refine z_aload_n hC d_Mo_name_24 rfl 2 rfl ?_
    refine z_aload_n hC d_Mo_name_25 rfl 2 rfl ?_
    refine z_get hC hi_Mo 0 rfl rfl 3 (by decide) mw_738 (Or.inl rfl) rfl d_Mo_name_26 ?_
    refine z_put (v := .int (iI ((ap : Nat) : Int))) (ty := .int) (w' := [(m0, .inr (10, [.int (iI ((0 : Nat) : Int)), .ref m1, .int (iI ((sn : Nat) : Int)), .int (iI ((ap : Nat) : Int)), .int (iI ((ap : Nat) : Int)), .ref m2, .ref m3, .ref m4, .int (iI ((xc : Nat) : Int)), .ref m5, .int (iI ((un : Nat) : Int)), .ref m6, .ref m7, .int (iI ((bc : Nat) : Int)), .ref m8, .int (iI ((wc : Nat) : Int)), .ref m9, .ref m10, .ref m11, .ref m12, .int (iI ((rc : Nat) : Int)), .ref m13, .ref m14, .ref m15, .ref m16, .ref m17, .int (iI ((hc : Nat) : Int)), .ref m18, .ref m19])), (m1, .inl ((g.2.1 4), 200, .inl (yF sf))), (m2, .inl ((g.2.1 4), 64, .inl (yF xl))), (m3, .inl ((g.2.1 0), 8, .inl (nF xn))), (m5, .inl ((g.2.1 4), 200, .inl (yF uf)))]) hC hi_Mo ty_Mo ok_Mo nm_Mo 0 rfl rfl 4 (by decide) mw_739 rfl rfl rfl rfl rfl (Nat.le_of_ble_eq_true rfl) rfl d_Mo_name_29 ?_
    refine z_aload_n hC d_Mo_name_32 rfl 2 rfl ?_
    refine z_iload_n hC d_Mo_name_33 rfl 1 rfl ?_
    refine z_put (v := .int (iI ((rowE sn sf (sn - ap) ap - ap : Nat) : Int))) (ty := .int) (w' := [(m0, .inr (10, [.int (iI ((0 : Nat) : Int)), .ref m1, .int (iI ((sn : Nat) : Int)), .int (iI ((ap : Nat) : Int)), .int (iI ((ap : Nat) : Int)), .ref m2, .ref m3, .ref m4, .int (iI ((xc : Nat) : Int)), .ref m5, .int (iI ((rowE sn sf (sn - ap) ap - ap : Nat) : Int)), .ref m6, .ref m7, .int (iI ((bc : Nat) : Int)), .ref m8, .int (iI ((wc : Nat) : Int)), .ref m9, .ref m10, .ref m11, .ref m12, .int (iI ((rc : Nat) : Int)), .ref m13, .ref m14, .ref m15, .ref m16, .ref m17, .int (iI ((hc : Nat) : Int)), .ref m18, .ref m19])), (m1, .inl ((g.2.1 4), 200, .inl (yF sf))), (m2, .inl ((g.2.1 4), 64, .inl (yF xl))), (m3, .inl ((g.2.1 0), 8, .inl (nF xn))), (m5, .inl ((g.2.1 4), 200, .inl (yF uf)))]) hC hi_Mo ty_Mo ok_Mo nm_Mo 0 rfl rfl 10 (by decide) mw_745 rfl rfl rfl rfl rfl (Nat.le_of_ble_eq_true rfl) rfl d_Mo_name_34 ?_
    refine z_iconstN hC 0 d_Mo_name_37 rfl ?_
    refine z_istore_n (lv' := [(3, .int (iI ((0 : Nat) : Int))), (2, .int (iI (fnd (nmB xn xl sn sf ap (rowE sn sf (sn - ap) ap)) xc 0))), (1, .int (iI ((rowE sn sf (sn - ap) ap - ap : Nat) : Int))), (0, .ref m0)]) hC d_Mo_name_38 rfl (by decide) rfl ?_
    have L_39 : ∀ (fu : Nat) (j : Nat) (h : Nat → Int32), (j ≤ rowE sn sf (sn - ap) ap - ap) → (∀ k, h k = if k < j then sN sn sf (ap + k) else uf k) → rowE sn sf (sn - ap) ap - ap - j < fu → Z x (0, 0) [(m0, .inr (10, [.int (iI ((0 : Nat) : Int)), .ref m1, .int (iI ((sn : Nat) : Int)), .int (iI ((ap : Nat) : Int)), .int (iI ((ap : Nat) : Int)), .ref m2, .ref m3, .ref m4, .int (iI ((xc : Nat) : Int)), .ref m5, .int (iI ((rowE sn sf (sn - ap) ap - ap : Nat) : Int)), .ref m6, .ref m7, .int (iI ((bc : Nat) : Int)), .ref m8, .int (iI ((wc : Nat) : Int)), .ref m9, .ref m10, .ref m11, .ref m12, .int (iI ((rc : Nat) : Int)), .ref m13, .ref m14, .ref m15, .ref m16, .ref m17, .int (iI ((hc : Nat) : Int)), .ref m18, .ref m19])), (m1, .inl ((g.2.1 4), 200, .inl (yF sf))), (m2, .inl ((g.2.1 4), 64, .inl (yF xl))), (m3, .inl ((g.2.1 0), 8, .inl (nF xn))), (m5, .inl ((g.2.1 4), 200, .inl (yF h)))] 39 [(3, .int (iI ((j : Nat) : Int))), (2, .int (iI (fnd (nmB xn xl sn sf ap (rowE sn sf (sn - ap) ap)) xc 0))), (1, .int (iI ((rowE sn sf (sn - ap) ap - ap : Nat) : Int))), (0, .ref m0)] [] := by
      intro fu
      induction fu with
      | zero => intro j h hj hh hmu; exact absurd hmu (Nat.not_lt_zero _)
      | succ fu ih_39 =>
        intro j h hj hh hmu
        refine z_iload_n hC d_Mo_name_39 rfl 0 rfl ?_
        refine z_iload_n hC d_Mo_name_40 rfl 2 rfl ?_
        refine z_icmp_ge (tgt := 67) hC ((j : Nat) : Int) ((rowE sn sf (sn - ap) ap - ap : Nat) : Int) d_Mo_name_41 rfl (iI_t (by omega)) (iI_t (by omega)) (fun c_2 => ?_) (fun c_2 => ?_)
        · refine z_iload_n hC d_Mo_name_67 rfl 1 rfl ?_
          exact Z.eq (by first | (simp only [if_neg (show ¬ (fnd (nmB xn xl sn sf ap (rowE sn sf (sn - ap) ap)) xc 0 = -1) by omega)]; done) | (simp only [if_pos (show fnd (nmB xn xl sn sf ap (rowE sn sf (sn - ap) ap)) xc 0 = -1 by omega)]; rw [show h = kpF uf sn sf ap (rowE sn sf (sn - ap) ap) from funext (fun k => by rw [hh, kpF, show j = rowE sn sf (sn - ap) ap - ap by omega])])) rfl rfl rfl (hR _ _ d_Mo_name_68)
        · refine z_aload_n hC d_Mo_name_44 rfl 3 rfl ?_
          refine z_get hC hi_Mo 0 rfl rfl 9 (by decide) mw_744 (Or.inl rfl) rfl d_Mo_name_45 ?_
          refine z_iload_n hC d_Mo_name_48 rfl 0 rfl ?_
          refine z_aload_n hC d_Mo_name_49 rfl 3 rfl ?_
          refine z_get hC hi_Mo 0 rfl rfl 1 (by decide) mw_736 (Or.inl rfl) rfl d_Mo_name_50 ?_
          refine z_aload_n hC d_Mo_name_53 rfl 3 rfl ?_
          refine z_get hC hi_Mo 0 rfl rfl 3 (by decide) mw_738 (Or.inl rfl) rfl d_Mo_name_54 ?_
          refine z_iload_n hC d_Mo_name_57 rfl 0 rfl ?_
          refine z_iaddN hC d_Mo_name_58 ?_
          refine z_yald hC 1 4 rfl rfl (ap + j) rfl (by omega) (by decide) d_Mo_name_59 ?_
          refine z_yast (v := (sf (ap + j))) (w' := [(m0, .inr (10, [.int (iI ((0 : Nat) : Int)), .ref m1, .int (iI ((sn : Nat) : Int)), .int (iI ((ap : Nat) : Int)), .int (iI ((ap : Nat) : Int)), .ref m2, .ref m3, .ref m4, .int (iI ((xc : Nat) : Int)), .ref m5, .int (iI ((rowE sn sf (sn - ap) ap - ap : Nat) : Int)), .ref m6, .ref m7, .int (iI ((bc : Nat) : Int)), .ref m8, .int (iI ((wc : Nat) : Int)), .ref m9, .ref m10, .ref m11, .ref m12, .int (iI ((rc : Nat) : Int)), .ref m13, .ref m14, .ref m15, .ref m16, .ref m17, .int (iI ((hc : Nat) : Int)), .ref m18, .ref m19])), (m1, .inl ((g.2.1 4), 200, .inl (yF sf))), (m2, .inl ((g.2.1 4), 64, .inl (yF xl))), (m3, .inl ((g.2.1 0), 8, .inl (nF xn))), (m5, .inl ((g.2.1 4), 200, .inl (yF (upd h j (sf (ap + j))))))]) hC 4 4 rfl rfl j rfl (by omega) (by decide) rfl d_Mo_name_60 ?_
          refine z_iincN (lv' := [(3, .int (iI ((j + 1 : Nat) : Int))), (2, .int (iI (fnd (nmB xn xl sn sf ap (rowE sn sf (sn - ap) ap)) xc 0))), (1, .int (iI ((rowE sn sf (sn - ap) ap - ap : Nat) : Int))), (0, .ref m0)]) hC 1 d_Mo_name_61 rfl 0 rfl (by decide) rfl ?_
          refine z_goto (tgt := 39) hC d_Mo_name_64 rfl ?_
          exact Zloc [0, 1, 2, 3] rfl (Z.eq (w' := [(m0, .inr (10, [.int (iI ((0 : Nat) : Int)), .ref m1, .int (iI ((sn : Nat) : Int)), .int (iI ((ap : Nat) : Int)), .int (iI ((ap : Nat) : Int)), .ref m2, .ref m3, .ref m4, .int (iI ((xc : Nat) : Int)), .ref m5, .int (iI ((rowE sn sf (sn - ap) ap - ap : Nat) : Int)), .ref m6, .ref m7, .int (iI ((bc : Nat) : Int)), .ref m8, .int (iI ((wc : Nat) : Int)), .ref m9, .ref m10, .ref m11, .ref m12, .int (iI ((rc : Nat) : Int)), .ref m13, .ref m14, .ref m15, .ref m16, .ref m17, .int (iI ((hc : Nat) : Int)), .ref m18, .ref m19])), (m1, .inl ((g.2.1 4), 200, .inl (yF sf))), (m2, .inl ((g.2.1 4), 64, .inl (yF xl))), (m3, .inl ((g.2.1 0), 8, .inl (nF xn))), (m5, .inl ((g.2.1 4), 200, .inl (yF (upd h j (sf (ap + j))))))]) rfl rfl rfl rfl (ih_39 (j + 1) (upd h j (sf (ap + j))) (by omega) (kp_go2 (by omega) hh) (by omega)))
    exact Zloc [0, 1, 2, 3] rfl (Z.eq (w' := [(m0, .inr (10, [.int (iI ((0 : Nat) : Int)), .ref m1, .int (iI ((sn : Nat) : Int)), .int (iI ((ap : Nat) : Int)), .int (iI ((ap : Nat) : Int)), .ref m2, .ref m3, .ref m4, .int (iI ((xc : Nat) : Int)), .ref m5, .int (iI ((rowE sn sf (sn - ap) ap - ap : Nat) : Int)), .ref m6, .ref m7, .int (iI ((bc : Nat) : Int)), .ref m8, .int (iI ((wc : Nat) : Int)), .ref m9, .ref m10, .ref m11, .ref m12, .int (iI ((rc : Nat) : Int)), .ref m13, .ref m14, .ref m15, .ref m16, .ref m17, .int (iI ((hc : Nat) : Int)), .ref m18, .ref m19])), (m1, .inl ((g.2.1 4), 200, .inl (yF sf))), (m2, .inl ((g.2.1 4), 64, .inl (yF xl))), (m3, .inl ((g.2.1 0), 8, .inl (nF xn))), (m5, .inl ((g.2.1 4), 200, .inl (yF uf)))]) rfl rfl rfl rfl (L_39 _ 0 uf (by omega) (fun k => by rw [if_neg (by omega)]) (Nat.lt_succ_self _)))
set_option maxHeartbeats 4000000 in
set_option maxRecDepth 100000 in
theorem k_Mo_add (l : Launch) (g : ZG) (m0 m1 m2 m3 m4 m5 m6 m7 m8 m9 m10 m11 m12 m13 m14 m15 m16 m17 m18 m19 sn ap wr xc un bc wc rc hc : Nat) (nd : Nat → QD) (bg : Nat → Nat) (a b c d : Int32) (hbc : bc < 40)   : Ct l g y_Mo_add c_Mo_add 6 none { frames := 0, cells := 0, slots := 0, locals := 0 } [.ref m0, .int a, .int b, .int c, .int d] [(m0, .inr (10, [.int (iI ((0 : Nat) : Int)), .ref m1, .int (iI ((sn : Nat) : Int)), .int (iI ((ap : Nat) : Int)), .int (iI ((wr : Nat) : Int)), .ref m2, .ref m3, .ref m4, .int (iI ((xc : Nat) : Int)), .ref m5, .int (iI ((un : Nat) : Int)), .ref m6, .ref m7, .int (iI ((bc : Nat) : Int)), .ref m8, .int (iI ((wc : Nat) : Int)), .ref m9, .ref m10, .ref m11, .ref m12, .int (iI ((rc : Nat) : Int)), .ref m13, .ref m14, .ref m15, .ref m16, .ref m17, .int (iI ((hc : Nat) : Int)), .ref m18, .ref m19])), (m6, .inl ((g.2.1 0), 160, .inl (pk nd))), (m7, .inl ((g.2.1 0), 40, .inl (nF bg)))] none [(m0, .inr (10, [.int (iI ((0 : Nat) : Int)), .ref m1, .int (iI ((sn : Nat) : Int)), .int (iI ((ap : Nat) : Int)), .int (iI ((wr : Nat) : Int)), .ref m2, .ref m3, .ref m4, .int (iI ((xc : Nat) : Int)), .ref m5, .int (iI ((un : Nat) : Int)), .ref m6, .ref m7, .int (iI ((bc + 1 : Nat) : Int)), .ref m8, .int (iI ((wc : Nat) : Int)), .ref m9, .ref m10, .ref m11, .ref m12, .int (iI ((rc : Nat) : Int)), .ref m13, .ref m14, .ref m15, .ref m16, .ref m17, .int (iI ((hc : Nat) : Int)), .ref m18, .ref m19])), (m6, .inl ((g.2.1 0), 160, .inl (pk (up nd bc (a, b, c, d))))), (m7, .inl ((g.2.1 0), 40, .inl (nF (up bg bc bc))))] := by
  refine ct_v (lv := [(0, .ref m0), (1, .int a), (2, .int b), (3, .int c), (4, .int d)]) (by decide) rfl (Nat.le_of_ble_eq_true rfl) rfl ?_
  intro x hC hR
  refine z_iconstN hC 4 d_Mo_add_0 rfl ?_
  refine z_aload_n hC d_Mo_add_1 rfl 0 rfl ?_
  refine z_get hC hi_Mo 0 rfl rfl 13 (by decide) mw_748 (Or.inl rfl) rfl d_Mo_add_2 ?_
  refine z_imulN hC d_Mo_add_5 ?_
  refine z_istore (lv' := [(5, .int (iI ((4 * bc : Nat) : Int))), (0, .ref m0), (1, .int a), (2, .int b), (3, .int c), (4, .int d)]) hC d_Mo_add_6 (by decide) rfl ?_
  refine z_aload_n hC d_Mo_add_8 rfl 1 rfl ?_
  refine z_get hC hi_Mo 0 rfl rfl 11 (by decide) mw_746 (Or.inl rfl) rfl d_Mo_add_9 ?_
  refine z_iload hC d_Mo_add_12 0 rfl ?_
  refine z_iload_n hC d_Mo_add_14 rfl 2 rfl ?_
  refine z_iast (v := a) (w' := [(m0, .inr (10, [.int (iI ((0 : Nat) : Int)), .ref m1, .int (iI ((sn : Nat) : Int)), .int (iI ((ap : Nat) : Int)), .int (iI ((wr : Nat) : Int)), .ref m2, .ref m3, .ref m4, .int (iI ((xc : Nat) : Int)), .ref m5, .int (iI ((un : Nat) : Int)), .ref m6, .ref m7, .int (iI ((bc : Nat) : Int)), .ref m8, .int (iI ((wc : Nat) : Int)), .ref m9, .ref m10, .ref m11, .ref m12, .int (iI ((rc : Nat) : Int)), .ref m13, .ref m14, .ref m15, .ref m16, .ref m17, .int (iI ((hc : Nat) : Int)), .ref m18, .ref m19])), (m6, .inl ((g.2.1 0), 160, .inl (upd (pk nd) (4 * bc) a))), (m7, .inl ((g.2.1 0), 40, .inl (nF bg)))]) hC 1 0 rfl rfl (4 * bc) rfl (by omega) (by decide) rfl d_Mo_add_15 ?_
  refine z_aload_n hC d_Mo_add_16 rfl 1 rfl ?_
  refine z_get hC hi_Mo 0 rfl rfl 11 (by decide) mw_746 (Or.inl rfl) rfl d_Mo_add_17 ?_
  refine z_iload hC d_Mo_add_20 0 rfl ?_
  refine z_iconstN hC 1 d_Mo_add_22 rfl ?_
  refine z_iaddN hC d_Mo_add_23 ?_
  refine z_iload_n hC d_Mo_add_24 rfl 3 rfl ?_
  refine z_iast (v := b) (w' := [(m0, .inr (10, [.int (iI ((0 : Nat) : Int)), .ref m1, .int (iI ((sn : Nat) : Int)), .int (iI ((ap : Nat) : Int)), .int (iI ((wr : Nat) : Int)), .ref m2, .ref m3, .ref m4, .int (iI ((xc : Nat) : Int)), .ref m5, .int (iI ((un : Nat) : Int)), .ref m6, .ref m7, .int (iI ((bc : Nat) : Int)), .ref m8, .int (iI ((wc : Nat) : Int)), .ref m9, .ref m10, .ref m11, .ref m12, .int (iI ((rc : Nat) : Int)), .ref m13, .ref m14, .ref m15, .ref m16, .ref m17, .int (iI ((hc : Nat) : Int)), .ref m18, .ref m19])), (m6, .inl ((g.2.1 0), 160, .inl (upd (upd (pk nd) (4 * bc) a) ((4 * bc) + 1) b))), (m7, .inl ((g.2.1 0), 40, .inl (nF bg)))]) hC 1 0 rfl rfl ((4 * bc) + 1) rfl (by omega) (by decide) rfl d_Mo_add_25 ?_
  refine z_aload_n hC d_Mo_add_26 rfl 1 rfl ?_
  refine z_get hC hi_Mo 0 rfl rfl 11 (by decide) mw_746 (Or.inl rfl) rfl d_Mo_add_27 ?_
  refine z_iload hC d_Mo_add_30 0 rfl ?_
  refine z_iconstN hC 2 d_Mo_add_32 rfl ?_
  refine z_iaddN hC d_Mo_add_33 ?_
  refine z_iload_n hC d_Mo_add_34 rfl 4 rfl ?_
  refine z_iast (v := c) (w' := [(m0, .inr (10, [.int (iI ((0 : Nat) : Int)), .ref m1, .int (iI ((sn : Nat) : Int)), .int (iI ((ap : Nat) : Int)), .int (iI ((wr : Nat) : Int)), .ref m2, .ref m3, .ref m4, .int (iI ((xc : Nat) : Int)), .ref m5, .int (iI ((un : Nat) : Int)), .ref m6, .ref m7, .int (iI ((bc : Nat) : Int)), .ref m8, .int (iI ((wc : Nat) : Int)), .ref m9, .ref m10, .ref m11, .ref m12, .int (iI ((rc : Nat) : Int)), .ref m13, .ref m14, .ref m15, .ref m16, .ref m17, .int (iI ((hc : Nat) : Int)), .ref m18, .ref m19])), (m6, .inl ((g.2.1 0), 160, .inl (upd (upd (upd (pk nd) (4 * bc) a) ((4 * bc) + 1) b) ((4 * bc) + 2) c))), (m7, .inl ((g.2.1 0), 40, .inl (nF bg)))]) hC 1 0 rfl rfl ((4 * bc) + 2) rfl (by omega) (by decide) rfl d_Mo_add_35 ?_
  refine z_aload_n hC d_Mo_add_36 rfl 1 rfl ?_
  refine z_get hC hi_Mo 0 rfl rfl 11 (by decide) mw_746 (Or.inl rfl) rfl d_Mo_add_37 ?_
  refine z_iload hC d_Mo_add_40 0 rfl ?_
  refine z_iconstN hC 3 d_Mo_add_42 rfl ?_
  refine z_iaddN hC d_Mo_add_43 ?_
  refine z_iload hC d_Mo_add_44 5 rfl ?_
  refine z_iast (v := d) (w' := [(m0, .inr (10, [.int (iI ((0 : Nat) : Int)), .ref m1, .int (iI ((sn : Nat) : Int)), .int (iI ((ap : Nat) : Int)), .int (iI ((wr : Nat) : Int)), .ref m2, .ref m3, .ref m4, .int (iI ((xc : Nat) : Int)), .ref m5, .int (iI ((un : Nat) : Int)), .ref m6, .ref m7, .int (iI ((bc : Nat) : Int)), .ref m8, .int (iI ((wc : Nat) : Int)), .ref m9, .ref m10, .ref m11, .ref m12, .int (iI ((rc : Nat) : Int)), .ref m13, .ref m14, .ref m15, .ref m16, .ref m17, .int (iI ((hc : Nat) : Int)), .ref m18, .ref m19])), (m6, .inl ((g.2.1 0), 160, .inl (upd (upd (upd (upd (pk nd) (4 * bc) a) ((4 * bc) + 1) b) ((4 * bc) + 2) c) ((4 * bc) + 3) d))), (m7, .inl ((g.2.1 0), 40, .inl (nF bg)))]) hC 1 0 rfl rfl ((4 * bc) + 3) rfl (by omega) (by decide) rfl d_Mo_add_46 ?_
  refine z_aload_n hC d_Mo_add_47 rfl 1 rfl ?_
  refine z_get hC hi_Mo 0 rfl rfl 12 (by decide) mw_747 (Or.inl rfl) rfl d_Mo_add_48 ?_
  refine z_aload_n hC d_Mo_add_51 rfl 1 rfl ?_
  refine z_get hC hi_Mo 0 rfl rfl 13 (by decide) mw_748 (Or.inl rfl) rfl d_Mo_add_52 ?_
  refine z_aload_n hC d_Mo_add_55 rfl 1 rfl ?_
  refine z_get hC hi_Mo 0 rfl rfl 13 (by decide) mw_748 (Or.inl rfl) rfl d_Mo_add_56 ?_
  refine z_iastN (v := bc) (w' := [(m0, .inr (10, [.int (iI ((0 : Nat) : Int)), .ref m1, .int (iI ((sn : Nat) : Int)), .int (iI ((ap : Nat) : Int)), .int (iI ((wr : Nat) : Int)), .ref m2, .ref m3, .ref m4, .int (iI ((xc : Nat) : Int)), .ref m5, .int (iI ((un : Nat) : Int)), .ref m6, .ref m7, .int (iI ((bc : Nat) : Int)), .ref m8, .int (iI ((wc : Nat) : Int)), .ref m9, .ref m10, .ref m11, .ref m12, .int (iI ((rc : Nat) : Int)), .ref m13, .ref m14, .ref m15, .ref m16, .ref m17, .int (iI ((hc : Nat) : Int)), .ref m18, .ref m19])), (m6, .inl ((g.2.1 0), 160, .inl (upd (upd (upd (upd (pk nd) (4 * bc) a) ((4 * bc) + 1) b) ((4 * bc) + 2) c) ((4 * bc) + 3) d))), (m7, .inl ((g.2.1 0), 40, .inl (nF (up bg bc bc))))]) hC 2 0 rfl rfl bc rfl (by omega) (by decide) rfl d_Mo_add_59 ?_
  refine z_aload_n hC d_Mo_add_60 rfl 1 rfl ?_
  refine z_dup hC d_Mo_add_61 rfl ?_
  refine z_get hC hi_Mo 0 rfl rfl 13 (by decide) mw_748 (Or.inl rfl) rfl d_Mo_add_62 ?_
  refine z_iconstN hC 1 d_Mo_add_65 rfl ?_
  refine z_iaddN hC d_Mo_add_66 ?_
  refine z_put (v := .int (iI ((bc + 1 : Nat) : Int))) (ty := .int) (w' := [(m0, .inr (10, [.int (iI ((0 : Nat) : Int)), .ref m1, .int (iI ((sn : Nat) : Int)), .int (iI ((ap : Nat) : Int)), .int (iI ((wr : Nat) : Int)), .ref m2, .ref m3, .ref m4, .int (iI ((xc : Nat) : Int)), .ref m5, .int (iI ((un : Nat) : Int)), .ref m6, .ref m7, .int (iI ((bc + 1 : Nat) : Int)), .ref m8, .int (iI ((wc : Nat) : Int)), .ref m9, .ref m10, .ref m11, .ref m12, .int (iI ((rc : Nat) : Int)), .ref m13, .ref m14, .ref m15, .ref m16, .ref m17, .int (iI ((hc : Nat) : Int)), .ref m18, .ref m19])), (m6, .inl ((g.2.1 0), 160, .inl (upd (upd (upd (upd (pk nd) (4 * bc) a) ((4 * bc) + 1) b) ((4 * bc) + 2) c) ((4 * bc) + 3) d))), (m7, .inl ((g.2.1 0), 40, .inl (nF (up bg bc bc))))]) hC hi_Mo ty_Mo ok_Mo nm_Mo 0 rfl rfl 13 (by decide) mw_748 rfl rfl rfl rfl rfl (Nat.le_of_ble_eq_true rfl) rfl d_Mo_add_67 ?_
  exact Z.eq (by rw [← pk_up]) rfl rfl rfl (hR _ _ d_Mo_add_70)
set_option maxHeartbeats 4000000 in
set_option maxRecDepth 100000 in
theorem k_Mo_join (l : Launch) (g : ZG) (m0 m1 m2 m3 m4 m5 m6 m7 m8 m9 m10 m11 m12 m13 m14 m15 m16 m17 m18 m19 sn ap wr xc un bc wc rc hc : Nat) (nd : Nat → QD) (bg : Nat → Nat) (s : Int32) (hbc : bc < 40) (hb1 : 1 ≤ bc) (hb2 : 1 ≤ bg (bc - 1)) (hb3 : bg (bc - 1) ≤ 40)   : Ct l g y_Mo_join c_Mo_join 4 none { frames := 1, cells := 0, slots := 0, locals := 25 } [.ref m0, .int s] [(m0, .inr (10, [.int (iI ((0 : Nat) : Int)), .ref m1, .int (iI ((sn : Nat) : Int)), .int (iI ((ap : Nat) : Int)), .int (iI ((wr : Nat) : Int)), .ref m2, .ref m3, .ref m4, .int (iI ((xc : Nat) : Int)), .ref m5, .int (iI ((un : Nat) : Int)), .ref m6, .ref m7, .int (iI ((bc : Nat) : Int)), .ref m8, .int (iI ((wc : Nat) : Int)), .ref m9, .ref m10, .ref m11, .ref m12, .int (iI ((rc : Nat) : Int)), .ref m13, .ref m14, .ref m15, .ref m16, .ref m17, .int (iI ((hc : Nat) : Int)), .ref m18, .ref m19])), (m6, .inl ((g.2.1 0), 160, .inl (pk nd))), (m7, .inl ((g.2.1 0), 40, .inl (nF bg)))] none [(m0, .inr (10, [.int (iI ((0 : Nat) : Int)), .ref m1, .int (iI ((sn : Nat) : Int)), .int (iI ((ap : Nat) : Int)), .int (iI ((wr : Nat) : Int)), .ref m2, .ref m3, .ref m4, .int (iI ((xc : Nat) : Int)), .ref m5, .int (iI ((un : Nat) : Int)), .ref m6, .ref m7, .int (iI ((bc + 1 : Nat) : Int)), .ref m8, .int (iI ((wc : Nat) : Int)), .ref m9, .ref m10, .ref m11, .ref m12, .int (iI ((rc : Nat) : Int)), .ref m13, .ref m14, .ref m15, .ref m16, .ref m17, .int (iI ((hc : Nat) : Int)), .ref m18, .ref m19])), (m6, .inl ((g.2.1 0), 160, .inl (pk (up nd bc (s, iI (-1), iI (-1), iI (-1)))))), (m7, .inl ((g.2.1 0), 40, .inl (nF (up bg bc (bg (bg (bc - 1) - 1))))))] := by
  refine ct_v (lv := [(0, .ref m0), (1, .int s)]) (by decide) rfl (Nat.le_of_ble_eq_true rfl) rfl ?_
  intro x hC hR
  refine z_aload_n hC d_Mo_join_0 rfl 0 rfl ?_
  refine z_get hC hi_Mo 0 rfl rfl 12 (by decide) mw_747 (Or.inl rfl) rfl d_Mo_join_1 ?_
  refine z_aload_n hC d_Mo_join_4 rfl 0 rfl ?_
  refine z_get hC hi_Mo 0 rfl rfl 13 (by decide) mw_748 (Or.inl rfl) rfl d_Mo_join_5 ?_
  refine z_iconstN hC 1 d_Mo_join_8 rfl ?_
  refine z_isubN hC d_Mo_join_9 (by omega) ?_
  refine z_ialdN hC 2 0 rfl rfl (bc - 1) rfl (by omega) (by decide) d_Mo_join_10 ?_
  refine z_istore_n (lv' := [(2, .int (iI ((bg (bc - 1) : Nat) : Int))), (0, .ref m0), (1, .int s)]) hC d_Mo_join_11 rfl (by decide) rfl ?_
  refine z_aload_n hC d_Mo_join_12 rfl 1 rfl ?_
  refine z_get hC hi_Mo 0 rfl rfl 12 (by decide) mw_747 (Or.inl rfl) rfl d_Mo_join_13 ?_
  refine z_iload_n hC d_Mo_join_16 rfl 0 rfl ?_
  refine z_iconstN hC 1 d_Mo_join_17 rfl ?_
  refine z_isubN hC d_Mo_join_18 (by omega) ?_
  refine z_ialdN hC 2 0 rfl rfl ((bg (bc - 1)) - 1) rfl (by omega) (by decide) d_Mo_join_19 ?_
  refine z_istore_n (lv' := [(3, .int (iI ((bg ((bg (bc - 1)) - 1) : Nat) : Int))), (2, .int (iI ((bg (bc - 1) : Nat) : Int))), (0, .ref m0), (1, .int s)]) hC d_Mo_join_20 rfl (by decide) rfl ?_
  refine z_aload_n hC d_Mo_join_21 rfl 2 rfl ?_
  refine z_iload_n hC d_Mo_join_22 rfl 3 rfl ?_
  refine z_iconst hC d_Mo_join_23 ?_
  refine z_iconst hC d_Mo_join_24 ?_
  refine z_iconst hC d_Mo_join_25 ?_
  refine z_callV (q0 := 0) (ci := 10) (w' := [(m0, .inr (10, [.int (iI ((0 : Nat) : Int)), .ref m1, .int (iI ((sn : Nat) : Int)), .int (iI ((ap : Nat) : Int)), .int (iI ((wr : Nat) : Int)), .ref m2, .ref m3, .ref m4, .int (iI ((xc : Nat) : Int)), .ref m5, .int (iI ((un : Nat) : Int)), .ref m6, .ref m7, .int (iI ((bc + 1 : Nat) : Int)), .ref m8, .int (iI ((wc : Nat) : Int)), .ref m9, .ref m10, .ref m11, .ref m12, .int (iI ((rc : Nat) : Int)), .ref m13, .ref m14, .ref m15, .ref m16, .ref m17, .int (iI ((hc : Nat) : Int)), .ref m18, .ref m19])), (m6, .inl ((g.2.1 0), 160, .inl (pk (up nd bc (s, (iI (-1)), (iI (-1)), (iI (-1))))))), (m7, .inl ((g.2.1 0), 40, .inl (nF (up bg bc bc))))]) (st1 := []) hC (k_Mo_add l g m0 m1 m2 m3 m4 m5 m6 m7 m8 m9 m10 m11 m12 m13 m14 m15 m16 m17 m18 m19 sn ap wr xc un bc wc rc hc nd bg s (iI (-1)) (iI (-1)) (iI (-1)) hbc) mw_897 zv_Mo_add rfl rfl ⟨Nat.le_of_ble_eq_true rfl, Nat.le_of_ble_eq_true rfl⟩ [0, 1, 2] rfl rfl rfl rfl rfl rfl rfl rfl (Nat.le_of_ble_eq_true rfl) d_Mo_join_26 rfl ⟨Nat.zero_le _, Nat.zero_le _⟩ rfl ?_
  refine z_aload_n hC d_Mo_join_29 rfl 2 rfl ?_
  refine z_get hC hi_Mo 0 rfl rfl 12 (by decide) mw_747 (Or.inl rfl) rfl d_Mo_join_30 ?_
  refine z_aload_n hC d_Mo_join_33 rfl 2 rfl ?_
  refine z_get hC hi_Mo 0 rfl rfl 13 (by decide) mw_748 (Or.inl rfl) rfl d_Mo_join_34 ?_
  refine z_iconstN hC 1 d_Mo_join_37 rfl ?_
  refine z_isubN hC d_Mo_join_38 (by omega) ?_
  refine z_iload_n hC d_Mo_join_39 rfl 0 rfl ?_
  refine z_iastN (v := bg ((bg (bc - 1)) - 1)) (w' := [(m0, .inr (10, [.int (iI ((0 : Nat) : Int)), .ref m1, .int (iI ((sn : Nat) : Int)), .int (iI ((ap : Nat) : Int)), .int (iI ((wr : Nat) : Int)), .ref m2, .ref m3, .ref m4, .int (iI ((xc : Nat) : Int)), .ref m5, .int (iI ((un : Nat) : Int)), .ref m6, .ref m7, .int (iI ((bc + 1 : Nat) : Int)), .ref m8, .int (iI ((wc : Nat) : Int)), .ref m9, .ref m10, .ref m11, .ref m12, .int (iI ((rc : Nat) : Int)), .ref m13, .ref m14, .ref m15, .ref m16, .ref m17, .int (iI ((hc : Nat) : Int)), .ref m18, .ref m19])), (m6, .inl ((g.2.1 0), 160, .inl (pk (up nd bc (s, (iI (-1)), (iI (-1)), (iI (-1))))))), (m7, .inl ((g.2.1 0), 40, .inl (nF (up (up bg bc bc) ((bc + 1) - 1) (bg ((bg (bc - 1)) - 1))))))]) hC 2 0 rfl rfl ((bc + 1) - 1) rfl (by omega) (by decide) rfl d_Mo_join_40 ?_
  exact Z.eq (by rw [show bc + 1 - 1 = bc by omega, up_up]) rfl rfl rfl (hR _ _ d_Mo_join_41)
set_option maxHeartbeats 4000000 in
set_option maxRecDepth 100000 in
theorem k_Mo_count (l : Launch) (g : ZG) (m0 m1 m2 m3 m4 m5 m6 m7 m8 m9 m10 m11 m12 m13 m14 m15 m16 m17 m18 m19 sn ap wr xc un bc wc rc hc : Nat) (wt : Nat → Nat) (hwc : wc ≤ 80) (hbc : bc ≤ 40) (hwt : ∀ k, wt k < 1000)   : Ct l g y_Mo_count c_Mo_count 3 (some .int) { frames := 0, cells := 0, slots := 0, locals := 0 } [.ref m0] [(m0, .inr (10, [.int (iI ((0 : Nat) : Int)), .ref m1, .int (iI ((sn : Nat) : Int)), .int (iI ((ap : Nat) : Int)), .int (iI ((wr : Nat) : Int)), .ref m2, .ref m3, .ref m4, .int (iI ((xc : Nat) : Int)), .ref m5, .int (iI ((un : Nat) : Int)), .ref m6, .ref m7, .int (iI ((bc : Nat) : Int)), .ref m8, .int (iI ((wc : Nat) : Int)), .ref m9, .ref m10, .ref m11, .ref m12, .int (iI ((rc : Nat) : Int)), .ref m13, .ref m14, .ref m15, .ref m16, .ref m17, .int (iI ((hc : Nat) : Int)), .ref m18, .ref m19])), (m8, .inl ((g.2.1 0), 80, .inl (nF wt)))] (some (.int (iI ((bc + cntB (fun z9 => decide (wt z9 < 6)) wc : Nat) : Int)))) [(m0, .inr (10, [.int (iI ((0 : Nat) : Int)), .ref m1, .int (iI ((sn : Nat) : Int)), .int (iI ((ap : Nat) : Int)), .int (iI ((wr : Nat) : Int)), .ref m2, .ref m3, .ref m4, .int (iI ((xc : Nat) : Int)), .ref m5, .int (iI ((un : Nat) : Int)), .ref m6, .ref m7, .int (iI ((bc : Nat) : Int)), .ref m8, .int (iI ((wc : Nat) : Int)), .ref m9, .ref m10, .ref m11, .ref m12, .int (iI ((rc : Nat) : Int)), .ref m13, .ref m14, .ref m15, .ref m16, .ref m17, .int (iI ((hc : Nat) : Int)), .ref m18, .ref m19])), (m8, .inl ((g.2.1 0), 80, .inl (nF wt)))] := by
  refine ct_i (lv := [(0, .ref m0)]) (by decide) rfl (Nat.le_of_ble_eq_true rfl) rfl ?_
  intro x hC hR
  refine z_aload_n hC d_Mo_count_0 rfl 0 rfl ?_
  refine z_get hC hi_Mo 0 rfl rfl 13 (by decide) mw_748 (Or.inl rfl) rfl d_Mo_count_1 ?_
  refine z_istore_n (lv' := [(1, .int (iI ((bc : Nat) : Int))), (0, .ref m0)]) hC d_Mo_count_4 rfl (by decide) rfl ?_
  refine z_iconstN hC 0 d_Mo_count_5 rfl ?_
  refine z_istore_n (lv' := [(2, .int (iI ((0 : Nat) : Int))), (1, .int (iI ((bc : Nat) : Int))), (0, .ref m0)]) hC d_Mo_count_6 rfl (by decide) rfl ?_
  have L_7 : ∀ (fu : Nat) (i c : Nat), (i ≤ wc) → (c = bc + cntB (fun z9 => decide (wt z9 < 6)) i) → wc - i < fu → Z x (0, 0) [(m0, .inr (10, [.int (iI ((0 : Nat) : Int)), .ref m1, .int (iI ((sn : Nat) : Int)), .int (iI ((ap : Nat) : Int)), .int (iI ((wr : Nat) : Int)), .ref m2, .ref m3, .ref m4, .int (iI ((xc : Nat) : Int)), .ref m5, .int (iI ((un : Nat) : Int)), .ref m6, .ref m7, .int (iI ((bc : Nat) : Int)), .ref m8, .int (iI ((wc : Nat) : Int)), .ref m9, .ref m10, .ref m11, .ref m12, .int (iI ((rc : Nat) : Int)), .ref m13, .ref m14, .ref m15, .ref m16, .ref m17, .int (iI ((hc : Nat) : Int)), .ref m18, .ref m19])), (m8, .inl ((g.2.1 0), 80, .inl (nF wt)))] 7 [(2, .int (iI ((i : Nat) : Int))), (1, .int (iI ((c : Nat) : Int))), (0, .ref m0)] [] := by
    intro fu
    induction fu with
    | zero => intro i c hi hcq hmu; exact absurd hmu (Nat.not_lt_zero _)
    | succ fu ih_7 =>
      intro i c hi hcq hmu
      refine z_iload_n hC d_Mo_count_7 rfl 0 rfl ?_
      refine z_aload_n hC d_Mo_count_8 rfl 2 rfl ?_
      refine z_get hC hi_Mo 0 rfl rfl 15 (by decide) mw_750 (Or.inl rfl) rfl d_Mo_count_9 ?_
      refine z_icmp_ge (tgt := 40) hC ((i : Nat) : Int) ((wc : Nat) : Int) d_Mo_count_12 rfl (iI_t (by omega)) (iI_t (by omega)) (fun c_1 => ?_) (fun c_1 => ?_)
      · refine z_iload_n hC d_Mo_count_40 rfl 1 rfl ?_
        exact Z.eq rfl rfl rfl (by rw [hcq, show i = wc by omega]) (hR _ _ d_Mo_count_41)
      · have hw9 := hwt i
        refine z_iload_n hC d_Mo_count_15 rfl 1 rfl ?_
        refine z_aload_n hC d_Mo_count_16 rfl 2 rfl ?_
        refine z_get hC hi_Mo 0 rfl rfl 14 (by decide) mw_749 (Or.inl rfl) rfl d_Mo_count_17 ?_
        refine z_iload_n hC d_Mo_count_20 rfl 0 rfl ?_
        refine z_ialdN hC 1 0 rfl rfl i rfl (by omega) (by decide) d_Mo_count_21 ?_
        refine z_bipush (a := ((6 : Nat) : Int)) hC d_Mo_count_22 (by decide) ?_
        refine z_icmp_ge (tgt := 31) hC ((wt i : Nat) : Int) ((6 : Nat) : Int) d_Mo_count_24 rfl (iI_t (by omega)) (iI_t (by omega)) (fun c_2 => ?_) (fun c_2 => ?_)
        · refine z_iconstN hC 0 d_Mo_count_31 rfl ?_
          refine z_iaddN hC d_Mo_count_32 ?_
          refine z_istore_n (lv' := [(1, .int (iI ((c + 0 : Nat) : Int))), (2, .int (iI ((i : Nat) : Int))), (0, .ref m0)]) hC d_Mo_count_33 rfl (by decide) rfl ?_
          refine z_iincN (lv' := [(2, .int (iI ((i + 1 : Nat) : Int))), (1, .int (iI ((c + 0 : Nat) : Int))), (0, .ref m0)]) hC 1 d_Mo_count_34 rfl 1 rfl (by decide) rfl ?_
          refine z_goto (tgt := 7) hC d_Mo_count_37 rfl ?_
          exact Zloc [0, 1, 2] rfl (Z.eq (w' := [(m0, .inr (10, [.int (iI ((0 : Nat) : Int)), .ref m1, .int (iI ((sn : Nat) : Int)), .int (iI ((ap : Nat) : Int)), .int (iI ((wr : Nat) : Int)), .ref m2, .ref m3, .ref m4, .int (iI ((xc : Nat) : Int)), .ref m5, .int (iI ((un : Nat) : Int)), .ref m6, .ref m7, .int (iI ((bc : Nat) : Int)), .ref m8, .int (iI ((wc : Nat) : Int)), .ref m9, .ref m10, .ref m11, .ref m12, .int (iI ((rc : Nat) : Int)), .ref m13, .ref m14, .ref m15, .ref m16, .ref m17, .int (iI ((hc : Nat) : Int)), .ref m18, .ref m19])), (m8, .inl ((g.2.1 0), 80, .inl (nF wt)))]) rfl rfl rfl rfl (ih_7 (i + 1) (c + 0) (by omega) (by simp only [cntB]; first | (rw [if_pos (decide_eq_true (by omega)), hcq]; omega) | (rw [if_neg (by simp; omega), hcq]; omega)) (by omega)))
        · refine z_iconstN hC 1 d_Mo_count_27 rfl ?_
          refine z_goto (tgt := 32) hC d_Mo_count_28 rfl ?_
          refine z_iaddN hC d_Mo_count_32 ?_
          refine z_istore_n (lv' := [(1, .int (iI ((c + 1 : Nat) : Int))), (2, .int (iI ((i : Nat) : Int))), (0, .ref m0)]) hC d_Mo_count_33 rfl (by decide) rfl ?_
          refine z_iincN (lv' := [(2, .int (iI ((i + 1 : Nat) : Int))), (1, .int (iI ((c + 1 : Nat) : Int))), (0, .ref m0)]) hC 1 d_Mo_count_34 rfl 1 rfl (by decide) rfl ?_
          refine z_goto (tgt := 7) hC d_Mo_count_37 rfl ?_
          exact Zloc [0, 1, 2] rfl (Z.eq (w' := [(m0, .inr (10, [.int (iI ((0 : Nat) : Int)), .ref m1, .int (iI ((sn : Nat) : Int)), .int (iI ((ap : Nat) : Int)), .int (iI ((wr : Nat) : Int)), .ref m2, .ref m3, .ref m4, .int (iI ((xc : Nat) : Int)), .ref m5, .int (iI ((un : Nat) : Int)), .ref m6, .ref m7, .int (iI ((bc : Nat) : Int)), .ref m8, .int (iI ((wc : Nat) : Int)), .ref m9, .ref m10, .ref m11, .ref m12, .int (iI ((rc : Nat) : Int)), .ref m13, .ref m14, .ref m15, .ref m16, .ref m17, .int (iI ((hc : Nat) : Int)), .ref m18, .ref m19])), (m8, .inl ((g.2.1 0), 80, .inl (nF wt)))]) rfl rfl rfl rfl (ih_7 (i + 1) (c + 1) (by omega) (by simp only [cntB]; first | (rw [if_pos (decide_eq_true (by omega)), hcq]; omega) | (rw [if_neg (by simp; omega), hcq]; omega)) (by omega)))
  exact Zloc [0, 1, 2] rfl (Z.eq (w' := [(m0, .inr (10, [.int (iI ((0 : Nat) : Int)), .ref m1, .int (iI ((sn : Nat) : Int)), .int (iI ((ap : Nat) : Int)), .int (iI ((wr : Nat) : Int)), .ref m2, .ref m3, .ref m4, .int (iI ((xc : Nat) : Int)), .ref m5, .int (iI ((un : Nat) : Int)), .ref m6, .ref m7, .int (iI ((bc : Nat) : Int)), .ref m8, .int (iI ((wc : Nat) : Int)), .ref m9, .ref m10, .ref m11, .ref m12, .int (iI ((rc : Nat) : Int)), .ref m13, .ref m14, .ref m15, .ref m16, .ref m17, .int (iI ((hc : Nat) : Int)), .ref m18, .ref m19])), (m8, .inl ((g.2.1 0), 80, .inl (nF wt)))]) rfl rfl rfl rfl (L_7 _ 0 bc (by omega) rfl (Nat.lt_succ_self _)))
set_option maxHeartbeats 4000000 in
set_option maxRecDepth 100000 in
theorem k_Mo_depth (l : Launch) (g : ZG) (m0 m1 m2 m3 m4 m5 m6 m7 m8 m9 m10 m11 m12 m13 m14 m15 m16 m17 m18 m19 sn ap wr xc un bc wc rc hc : Nat) (wt : Nat → Nat) (hwc : wc ≤ 80) (hwt : ∀ k, wt k < 1000)   : Ct l g y_Mo_depth c_Mo_depth 3 (some .int) { frames := 0, cells := 0, slots := 0, locals := 0 } [.ref m0] [(m0, .inr (10, [.int (iI ((0 : Nat) : Int)), .ref m1, .int (iI ((sn : Nat) : Int)), .int (iI ((ap : Nat) : Int)), .int (iI ((wr : Nat) : Int)), .ref m2, .ref m3, .ref m4, .int (iI ((xc : Nat) : Int)), .ref m5, .int (iI ((un : Nat) : Int)), .ref m6, .ref m7, .int (iI ((bc : Nat) : Int)), .ref m8, .int (iI ((wc : Nat) : Int)), .ref m9, .ref m10, .ref m11, .ref m12, .int (iI ((rc : Nat) : Int)), .ref m13, .ref m14, .ref m15, .ref m16, .ref m17, .int (iI ((hc : Nat) : Int)), .ref m18, .ref m19])), (m8, .inl ((g.2.1 0), 80, .inl (nF wt)))] (some (.int (iI ((cntB (fun z9 => decide (wt z9 = 6)) wc : Nat) : Int)))) [(m0, .inr (10, [.int (iI ((0 : Nat) : Int)), .ref m1, .int (iI ((sn : Nat) : Int)), .int (iI ((ap : Nat) : Int)), .int (iI ((wr : Nat) : Int)), .ref m2, .ref m3, .ref m4, .int (iI ((xc : Nat) : Int)), .ref m5, .int (iI ((un : Nat) : Int)), .ref m6, .ref m7, .int (iI ((bc : Nat) : Int)), .ref m8, .int (iI ((wc : Nat) : Int)), .ref m9, .ref m10, .ref m11, .ref m12, .int (iI ((rc : Nat) : Int)), .ref m13, .ref m14, .ref m15, .ref m16, .ref m17, .int (iI ((hc : Nat) : Int)), .ref m18, .ref m19])), (m8, .inl ((g.2.1 0), 80, .inl (nF wt)))] := by
  refine ct_i (lv := [(0, .ref m0)]) (by decide) rfl (Nat.le_of_ble_eq_true rfl) rfl ?_
  intro x hC hR
  refine z_iconstN hC 0 d_Mo_depth_0 rfl ?_
  refine z_istore_n (lv' := [(1, .int (iI ((0 : Nat) : Int))), (0, .ref m0)]) hC d_Mo_depth_1 rfl (by decide) rfl ?_
  refine z_iconstN hC 0 d_Mo_depth_2 rfl ?_
  refine z_istore_n (lv' := [(2, .int (iI ((0 : Nat) : Int))), (1, .int (iI ((0 : Nat) : Int))), (0, .ref m0)]) hC d_Mo_depth_3 rfl (by decide) rfl ?_
  have L_4 : ∀ (fu : Nat) (i c : Nat), (i ≤ wc) → (c = cntB (fun z9 => decide (wt z9 = 6)) i) → wc - i < fu → Z x (0, 0) [(m0, .inr (10, [.int (iI ((0 : Nat) : Int)), .ref m1, .int (iI ((sn : Nat) : Int)), .int (iI ((ap : Nat) : Int)), .int (iI ((wr : Nat) : Int)), .ref m2, .ref m3, .ref m4, .int (iI ((xc : Nat) : Int)), .ref m5, .int (iI ((un : Nat) : Int)), .ref m6, .ref m7, .int (iI ((bc : Nat) : Int)), .ref m8, .int (iI ((wc : Nat) : Int)), .ref m9, .ref m10, .ref m11, .ref m12, .int (iI ((rc : Nat) : Int)), .ref m13, .ref m14, .ref m15, .ref m16, .ref m17, .int (iI ((hc : Nat) : Int)), .ref m18, .ref m19])), (m8, .inl ((g.2.1 0), 80, .inl (nF wt)))] 4 [(2, .int (iI ((i : Nat) : Int))), (1, .int (iI ((c : Nat) : Int))), (0, .ref m0)] [] := by
    intro fu
    induction fu with
    | zero => intro i c hi hcq hmu; exact absurd hmu (Nat.not_lt_zero _)
    | succ fu ih_4 =>
      intro i c hi hcq hmu
      refine z_iload_n hC d_Mo_depth_4 rfl 0 rfl ?_
      refine z_aload_n hC d_Mo_depth_5 rfl 2 rfl ?_
      refine z_get hC hi_Mo 0 rfl rfl 15 (by decide) mw_750 (Or.inl rfl) rfl d_Mo_depth_6 ?_
      refine z_icmp_ge (tgt := 37) hC ((i : Nat) : Int) ((wc : Nat) : Int) d_Mo_depth_9 rfl (iI_t (by omega)) (iI_t (by omega)) (fun c_1 => ?_) (fun c_1 => ?_)
      · refine z_iload_n hC d_Mo_depth_37 rfl 1 rfl ?_
        exact Z.eq rfl rfl rfl (by rw [hcq, show i = wc by omega]) (hR _ _ d_Mo_depth_38)
      · have hw9 := hwt i
        refine z_iload_n hC d_Mo_depth_12 rfl 1 rfl ?_
        refine z_aload_n hC d_Mo_depth_13 rfl 2 rfl ?_
        refine z_get hC hi_Mo 0 rfl rfl 14 (by decide) mw_749 (Or.inl rfl) rfl d_Mo_depth_14 ?_
        refine z_iload_n hC d_Mo_depth_17 rfl 0 rfl ?_
        refine z_ialdN hC 1 0 rfl rfl i rfl (by omega) (by decide) d_Mo_depth_18 ?_
        refine z_bipush (a := ((6 : Nat) : Int)) hC d_Mo_depth_19 (by decide) ?_
        refine z_icmp_ne (tgt := 28) hC ((wt i : Nat) : Int) ((6 : Nat) : Int) d_Mo_depth_21 rfl (iI_t (by omega)) (iI_t (by omega)) (fun c_2 => ?_) (fun c_2 => ?_)
        · refine z_iconstN hC 0 d_Mo_depth_28 rfl ?_
          refine z_iaddN hC d_Mo_depth_29 ?_
          refine z_istore_n (lv' := [(1, .int (iI ((c + 0 : Nat) : Int))), (2, .int (iI ((i : Nat) : Int))), (0, .ref m0)]) hC d_Mo_depth_30 rfl (by decide) rfl ?_
          refine z_iincN (lv' := [(2, .int (iI ((i + 1 : Nat) : Int))), (1, .int (iI ((c + 0 : Nat) : Int))), (0, .ref m0)]) hC 1 d_Mo_depth_31 rfl 1 rfl (by decide) rfl ?_
          refine z_goto (tgt := 4) hC d_Mo_depth_34 rfl ?_
          exact Zloc [0, 1, 2] rfl (Z.eq (w' := [(m0, .inr (10, [.int (iI ((0 : Nat) : Int)), .ref m1, .int (iI ((sn : Nat) : Int)), .int (iI ((ap : Nat) : Int)), .int (iI ((wr : Nat) : Int)), .ref m2, .ref m3, .ref m4, .int (iI ((xc : Nat) : Int)), .ref m5, .int (iI ((un : Nat) : Int)), .ref m6, .ref m7, .int (iI ((bc : Nat) : Int)), .ref m8, .int (iI ((wc : Nat) : Int)), .ref m9, .ref m10, .ref m11, .ref m12, .int (iI ((rc : Nat) : Int)), .ref m13, .ref m14, .ref m15, .ref m16, .ref m17, .int (iI ((hc : Nat) : Int)), .ref m18, .ref m19])), (m8, .inl ((g.2.1 0), 80, .inl (nF wt)))]) rfl rfl rfl rfl (ih_4 (i + 1) (c + 0) (by omega) (by simp only [cntB]; first | (rw [if_pos (decide_eq_true (by omega)), hcq]; done) | (rw [if_neg (by simp; omega), hcq]; done)) (by omega)))
        · refine z_iconstN hC 1 d_Mo_depth_24 rfl ?_
          refine z_goto (tgt := 29) hC d_Mo_depth_25 rfl ?_
          refine z_iaddN hC d_Mo_depth_29 ?_
          refine z_istore_n (lv' := [(1, .int (iI ((c + 1 : Nat) : Int))), (2, .int (iI ((i : Nat) : Int))), (0, .ref m0)]) hC d_Mo_depth_30 rfl (by decide) rfl ?_
          refine z_iincN (lv' := [(2, .int (iI ((i + 1 : Nat) : Int))), (1, .int (iI ((c + 1 : Nat) : Int))), (0, .ref m0)]) hC 1 d_Mo_depth_31 rfl 1 rfl (by decide) rfl ?_
          refine z_goto (tgt := 4) hC d_Mo_depth_34 rfl ?_
          exact Zloc [0, 1, 2] rfl (Z.eq (w' := [(m0, .inr (10, [.int (iI ((0 : Nat) : Int)), .ref m1, .int (iI ((sn : Nat) : Int)), .int (iI ((ap : Nat) : Int)), .int (iI ((wr : Nat) : Int)), .ref m2, .ref m3, .ref m4, .int (iI ((xc : Nat) : Int)), .ref m5, .int (iI ((un : Nat) : Int)), .ref m6, .ref m7, .int (iI ((bc : Nat) : Int)), .ref m8, .int (iI ((wc : Nat) : Int)), .ref m9, .ref m10, .ref m11, .ref m12, .int (iI ((rc : Nat) : Int)), .ref m13, .ref m14, .ref m15, .ref m16, .ref m17, .int (iI ((hc : Nat) : Int)), .ref m18, .ref m19])), (m8, .inl ((g.2.1 0), 80, .inl (nF wt)))]) rfl rfl rfl rfl (ih_4 (i + 1) (c + 1) (by omega) (by simp only [cntB]; first | (rw [if_pos (decide_eq_true (by omega)), hcq]; done) | (rw [if_neg (by simp; omega), hcq]; done)) (by omega)))
  exact Zloc [0, 1, 2] rfl (Z.eq (w' := [(m0, .inr (10, [.int (iI ((0 : Nat) : Int)), .ref m1, .int (iI ((sn : Nat) : Int)), .int (iI ((ap : Nat) : Int)), .int (iI ((wr : Nat) : Int)), .ref m2, .ref m3, .ref m4, .int (iI ((xc : Nat) : Int)), .ref m5, .int (iI ((un : Nat) : Int)), .ref m6, .ref m7, .int (iI ((bc : Nat) : Int)), .ref m8, .int (iI ((wc : Nat) : Int)), .ref m9, .ref m10, .ref m11, .ref m12, .int (iI ((rc : Nat) : Int)), .ref m13, .ref m14, .ref m15, .ref m16, .ref m17, .int (iI ((hc : Nat) : Int)), .ref m18, .ref m19])), (m8, .inl ((g.2.1 0), 80, .inl (nF wt)))]) rfl rfl rfl rfl (L_4 _ 0 0 (by omega) rfl (Nat.lt_succ_self _)))
set_option maxHeartbeats 4000000 in
set_option maxRecDepth 100000 in
theorem k_Mo_count2 (l : Launch) (g : ZG) (m0 m1 m2 m3 m4 m5 m6 m7 m8 m9 m10 m11 m12 m13 m14 m15 m16 m17 m18 m19 sn ap wr xc un bc wc rc hc : Nat)    : Ct l g y_Mo_count2 c_Mo_count2 1 (some .int) { frames := 0, cells := 0, slots := 0, locals := 0 } [.ref m0] [(m0, .inr (10, [.int (iI ((0 : Nat) : Int)), .ref m1, .int (iI ((sn : Nat) : Int)), .int (iI ((ap : Nat) : Int)), .int (iI ((wr : Nat) : Int)), .ref m2, .ref m3, .ref m4, .int (iI ((xc : Nat) : Int)), .ref m5, .int (iI ((un : Nat) : Int)), .ref m6, .ref m7, .int (iI ((bc : Nat) : Int)), .ref m8, .int (iI ((wc : Nat) : Int)), .ref m9, .ref m10, .ref m11, .ref m12, .int (iI ((rc : Nat) : Int)), .ref m13, .ref m14, .ref m15, .ref m16, .ref m17, .int (iI ((hc : Nat) : Int)), .ref m18, .ref m19]))] (some (.int (iI ((bc + wc : Nat) : Int)))) [(m0, .inr (10, [.int (iI ((0 : Nat) : Int)), .ref m1, .int (iI ((sn : Nat) : Int)), .int (iI ((ap : Nat) : Int)), .int (iI ((wr : Nat) : Int)), .ref m2, .ref m3, .ref m4, .int (iI ((xc : Nat) : Int)), .ref m5, .int (iI ((un : Nat) : Int)), .ref m6, .ref m7, .int (iI ((bc : Nat) : Int)), .ref m8, .int (iI ((wc : Nat) : Int)), .ref m9, .ref m10, .ref m11, .ref m12, .int (iI ((rc : Nat) : Int)), .ref m13, .ref m14, .ref m15, .ref m16, .ref m17, .int (iI ((hc : Nat) : Int)), .ref m18, .ref m19]))] := by
  refine ct_i (lv := [(0, .ref m0)]) (by decide) rfl (Nat.le_of_ble_eq_true rfl) rfl ?_
  intro x hC hR
  refine z_aload_n hC d_Mo_count2_0 rfl 0 rfl ?_
  refine z_get hC hi_Mo 0 rfl rfl 13 (by decide) mw_748 (Or.inl rfl) rfl d_Mo_count2_1 ?_
  refine z_aload_n hC d_Mo_count2_4 rfl 0 rfl ?_
  refine z_get hC hi_Mo 0 rfl rfl 15 (by decide) mw_750 (Or.inl rfl) rfl d_Mo_count2_5 ?_
  refine z_iaddN hC d_Mo_count2_8 ?_
  exact Z.eq rfl rfl rfl rfl (hR _ _ d_Mo_count2_9)
set_option maxHeartbeats 4000000 in
set_option maxRecDepth 100000 in
theorem k_Mo_at (l : Launch) (g : ZG) (m0 m1 m2 m3 m4 m5 m6 m7 m8 m9 m10 m11 m12 m13 m14 m15 m16 m17 m18 m19 sn ap wr xc un bc wc rc hc : Nat) (hn : Nat → Nat) (i : Int) (hhc : hc ≤ 60) (hi : -2147483648 ≤ i ∧ i < 2147483648)   : Ct l g y_Mo_at c_Mo_at 2 (some .int) { frames := 0, cells := 0, slots := 0, locals := 0 } [.ref m0, .int (iI i)] [(m0, .inr (10, [.int (iI ((0 : Nat) : Int)), .ref m1, .int (iI ((sn : Nat) : Int)), .int (iI ((ap : Nat) : Int)), .int (iI ((wr : Nat) : Int)), .ref m2, .ref m3, .ref m4, .int (iI ((xc : Nat) : Int)), .ref m5, .int (iI ((un : Nat) : Int)), .ref m6, .ref m7, .int (iI ((bc : Nat) : Int)), .ref m8, .int (iI ((wc : Nat) : Int)), .ref m9, .ref m10, .ref m11, .ref m12, .int (iI ((rc : Nat) : Int)), .ref m13, .ref m14, .ref m15, .ref m16, .ref m17, .int (iI ((hc : Nat) : Int)), .ref m18, .ref m19])), (m17, .inl ((g.2.1 0), 60, .inl (nF hn)))] (some (.int (iI ((if 0 ≤ i ∧ i < hc then hn i.toNat else 0 : Nat) : Int)))) [(m0, .inr (10, [.int (iI ((0 : Nat) : Int)), .ref m1, .int (iI ((sn : Nat) : Int)), .int (iI ((ap : Nat) : Int)), .int (iI ((wr : Nat) : Int)), .ref m2, .ref m3, .ref m4, .int (iI ((xc : Nat) : Int)), .ref m5, .int (iI ((un : Nat) : Int)), .ref m6, .ref m7, .int (iI ((bc : Nat) : Int)), .ref m8, .int (iI ((wc : Nat) : Int)), .ref m9, .ref m10, .ref m11, .ref m12, .int (iI ((rc : Nat) : Int)), .ref m13, .ref m14, .ref m15, .ref m16, .ref m17, .int (iI ((hc : Nat) : Int)), .ref m18, .ref m19])), (m17, .inl ((g.2.1 0), 60, .inl (nF hn)))] := by
  refine ct_i (lv := [(0, .ref m0), (1, .int (iI i))]) (by decide) rfl (Nat.le_of_ble_eq_true rfl) rfl ?_
  intro x hC hR
  refine z_aload_n hC d_Mo_at_0 rfl 0 rfl ?_
  refine z_iconstN hC 0 d_Mo_at_1 rfl ?_
  refine z_put (v := .int (iI ((0 : Nat) : Int))) (ty := .int) (w' := [(m0, .inr (10, [.int (iI ((0 : Nat) : Int)), .ref m1, .int (iI ((sn : Nat) : Int)), .int (iI ((ap : Nat) : Int)), .int (iI ((wr : Nat) : Int)), .ref m2, .ref m3, .ref m4, .int (iI ((xc : Nat) : Int)), .ref m5, .int (iI ((un : Nat) : Int)), .ref m6, .ref m7, .int (iI ((bc : Nat) : Int)), .ref m8, .int (iI ((wc : Nat) : Int)), .ref m9, .ref m10, .ref m11, .ref m12, .int (iI ((rc : Nat) : Int)), .ref m13, .ref m14, .ref m15, .ref m16, .ref m17, .int (iI ((hc : Nat) : Int)), .ref m18, .ref m19])), (m17, .inl ((g.2.1 0), 60, .inl (nF hn)))]) hC hi_Mo ty_Mo ok_Mo nm_Mo 0 rfl rfl 0 (by decide) mw_735 rfl rfl rfl rfl rfl (Nat.le_of_ble_eq_true rfl) rfl d_Mo_at_2 ?_
  refine z_iload_n hC d_Mo_at_5 rfl 1 rfl ?_
  refine z_if_lt (tgt := 17) hC i d_Mo_at_6 rfl (iI_t (by omega)) (fun c_1 => ?_) (fun c_1 => ?_)
  · refine z_iconstN hC 0 d_Mo_at_17 rfl ?_
    refine z_goto (tgt := 27) hC d_Mo_at_18 rfl ?_
    exact Z.eq rfl rfl rfl (by first | (exfalso; omega) | (rw [if_pos (by omega)]; done) | (rw [if_neg (by omega)]; done)) (hR _ _ d_Mo_at_27)
  · refine z_iload_n hC d_Mo_at_9 rfl 1 rfl ?_
    refine z_aload_n hC d_Mo_at_10 rfl 0 rfl ?_
    refine z_get hC hi_Mo 0 rfl rfl 26 (by decide) mw_761 (Or.inl rfl) rfl d_Mo_at_11 ?_
    refine z_icmp_lt (tgt := 21) hC i ((hc : Nat) : Int) d_Mo_at_14 rfl (iI_t (by omega)) (iI_t (by omega)) (fun c_2 => ?_) (fun c_2 => ?_)
    · refine z_aload_n hC d_Mo_at_21 rfl 0 rfl ?_
      refine z_get hC hi_Mo 0 rfl rfl 25 (by decide) mw_760 (Or.inl rfl) rfl d_Mo_at_22 ?_
      refine z_iload_n hC d_Mo_at_25 rfl 1 rfl ?_
      refine z_ialdN hC 1 0 rfl rfl ((i).toNat) (by omega) (by omega) (by decide) d_Mo_at_26 ?_
      exact Z.eq rfl rfl rfl (by first | (exfalso; omega) | (rw [if_pos (by omega)]; done) | (rw [if_neg (by omega)]; done)) (hR _ _ d_Mo_at_27)
    · refine z_iconstN hC 0 d_Mo_at_17 rfl ?_
      refine z_goto (tgt := 27) hC d_Mo_at_18 rfl ?_
      exact Z.eq rfl rfl rfl (by first | (exfalso; omega) | (rw [if_pos (by omega)]; done) | (rw [if_neg (by omega)]; done)) (hR _ _ d_Mo_at_27)
