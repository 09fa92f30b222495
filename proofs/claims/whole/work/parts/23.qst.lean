/-! ===== the saved questions: ten of them, one brought to the front ===== -/
abbrev QV : Type := Bool × Bool × Int64 × Nat × (Nat → QD)
def QC (g : ZG) (kq : Nat → Nat) (tq : Nat → Nat → Nat) (i : Nat) (v : QV) : va_W := [(kq i, .inr (4, [.ref (tq i 0), .int (iI (bI v.1)), .int (iI (bI v.2.1)), .long v.2.2.1])), (tq i 0, .inr (7, [.ref (tq i 1), .ref (tq i 2), .ref (tq i 3), .ref (tq i 4), .int (iI ((v.2.2.2.1 : Nat) : Int))])), (tq i 1, .inl ((g.2.1 0), 40, .inl (q1 v.2.2.2.2))), (tq i 2, .inl ((g.2.1 0), 40, .inl (q2 v.2.2.2.2))), (tq i 3, .inl ((g.2.1 0), 40, .inl (q3 v.2.2.2.2))), (tq i 4, .inl ((g.2.1 0), 40, .inl (q4 v.2.2.2.2)))]
def qW (g : ZG) (kq : Nat → Nat) (tq : Nat → Nat → Nat) (q : Nat → QV) : va_W := (List.range 10).flatMap (fun i => QC g kq tq i (q i))
def qR (g : ZG) (kq : Nat → Nat) (tq : Nat → Nat → Nat) (q : Nat → QV) (k : Nat) : va_W := (List.range 10).flatMap (fun i => if i = k then [] else QC g kq tq i (q i))
theorem fm_congr {α : Type} {f h : Nat → List α} : ∀ {l : List Nat}, (∀ i ∈ l, f i = h i) → l.flatMap f = l.flatMap h
  | [], _ => rfl
  | a :: l, e => by
    rw [List.flatMap_cons, List.flatMap_cons, e a List.mem_cons_self, fm_congr (fun i hi => e i (List.mem_cons_of_mem _ hi))]
theorem perm_out {α : Type} (f : Nat → List α) (k : Nat) : ∀ l : List Nat, l.Nodup → k ∈ l → (l.flatMap f).Perm (f k ++ l.flatMap (fun i => if i = k then [] else f i))
  | [], _, h => by cases h
  | a :: l, hn, h => by
    rw [List.nodup_cons] at hn
    simp only [List.flatMap_cons]
    by_cases e : a = k
    · subst e
      rw [if_pos rfl, List.nil_append]
      have : l.flatMap f = l.flatMap (fun i => if i = a then [] else f i) := by
        apply fm_congr
        intro i hi
        rw [if_neg (fun z => hn.1 (by rw [← z]; exact hi))]
      rw [← this]
    · rw [if_neg e]
      have hk : k ∈ l := by
        rcases List.mem_cons.mp h with z | z
        · exact absurd z.symm e
        · exact z
      have ih := perm_out f k l hn.2 hk
      refine (List.Perm.append_left (f a) ih).trans ?_
      rw [← List.append_assoc, ← List.append_assoc]
      exact List.Perm.append_right _ List.perm_append_comm
theorem qW_perm (g : ZG) (kq : Nat → Nat) (tq : Nat → Nat → Nat) (q : Nat → QV) {k : Nat} (hk : k < 10) : (qW g kq tq q).Perm (QC g kq tq k (q k) ++ qR g kq tq q k) := perm_out (fun i => QC g kq tq i (q i)) k (List.range 10) List.nodup_range (List.mem_range.mpr hk)
theorem qR_up (g : ZG) (kq : Nat → Nat) (tq : Nat → Nat → Nat) (q : Nat → QV) (k : Nat) (v : QV) : qR g kq tq (up q k v) k = qR g kq tq q k := by
  unfold qR
  apply fm_congr
  intro i _
  by_cases e : i = k
  · rw [if_pos e, if_pos e]
  · rw [if_neg e, if_neg e]
    unfold up
    rw [if_neg e]
theorem va_P_perm {D : va_G} {cl : List vw_C} {w w' : va_W} {H : Heap} (h : w.Perm w') (hP : va_P D cl w H) : va_P D cl w' H := fun k q hk => by
  obtain ⟨i, hi⟩ := List.getElem?_of_mem (h.mem_iff.mpr (List.mem_of_getElem? hk))
  exact hP i q hi
theorem va_D_nd {A : Nat → Prop} {w : va_W} : va_D A w ↔ w.Pairwise (fun p q => p.1 ≠ q.1) ∧ ∀ q ∈ w, A q.1 := by
  constructor
  · intro h
    refine ⟨List.pairwise_iff_getElem.mpr (fun i j hi hj hij e => ?_), fun q hq => ?_⟩
    · have := h.1 i j _ _ (List.getElem?_eq_getElem hi) (List.getElem?_eq_getElem hj) e
      omega
    · obtain ⟨k, hk⟩ := List.getElem?_of_mem hq
      exact h.2 k q hk
  · intro h
    refine ⟨fun i j p q hi hj e => ?_, fun k q hk => h.2 q (List.mem_of_getElem? hk)⟩
    obtain ⟨hi1, hi2⟩ := List.getElem?_eq_some_iff.mp hi
    obtain ⟨hj1, hj2⟩ := List.getElem?_eq_some_iff.mp hj
    rcases Nat.lt_trichotomy i j with z | z | z
    · have := List.pairwise_iff_getElem.mp h.1 i j hi1 hj1 z
      rw [hi2, hj2] at this
      exact absurd e this
    · exact z
    · have := List.pairwise_iff_getElem.mp h.1 j i hj1 hi1 z
      rw [hi2, hj2] at this
      exact absurd e.symm this
theorem va_D_perm {A : Nat → Prop} {w w' : va_W} (h : w.Perm w') (hD : va_D A w) : va_D A w' := by
  rw [va_D_nd] at hD ⊢
  exact ⟨(h.pairwise_iff (fun {a b} z => Ne.symm z)).mp hD.1, fun q hq => hD.2 q (h.mem_iff.mpr hq)⟩
section ZQ
variable {x : ZC} {u : Nat × Nat} {w : va_W} {pc : Nat} {lv : List (Nat × Value)} {st : List Value}
theorem Z.perm {w' : va_W} (h : w.Perm w') (k : Z x u w' pc lv st) : Z x u w pc lv st := by
  obtain ⟨p, l, e, R, s, m, args, below, meth, c, g, A, H0, Q, nL⟩ := x
  exact fun H locs ls hP hD hS hl => k H locs ls (va_P_perm h hP) (va_D_perm h hD) hS hl
theorem z_foc {c w' : va_W} {g : ZG} {kq : Nat → Nat} {tq : Nat → Nat → Nat} {q : Nat → QV} {k : Nat} (hk : k < 10) (hw : c ++ (QC g kq tq k (q k) ++ qR g kq tq q k) = w') (kk : Z x u w' pc lv st) : Z x u (c ++ qW g kq tq q) pc lv st := Z.perm (List.Perm.append_left c (qW_perm g kq tq q hk)) (by rw [hw]; exact kk)
theorem z_unf0 {c w' : va_W} {g : ZG} {kq : Nat → Nat} {tq : Nat → Nat → Nat} {q : Nat → QV} {k : Nat} (hk : k < 10) (hw : c ++ qW g kq tq q = w') (kk : Z x u w' pc lv st) : Z x u (c ++ (QC g kq tq k (q k) ++ qR g kq tq q k)) pc lv st := Z.perm (List.Perm.append_left c (qW_perm g kq tq q hk).symm) (by rw [hw]; exact kk)
theorem z_unf {c w' : va_W} {g : ZG} {kq : Nat → Nat} {tq : Nat → Nat → Nat} {q : Nat → QV} {k : Nat} {v : QV} (hk : k < 10) (hw : c ++ qW g kq tq (up q k v) = w') (kk : Z x u w' pc lv st) : Z x u (c ++ (QC g kq tq k v ++ qR g kq tq q k)) pc lv st := by
  have h := qW_perm g kq tq (up q k v) hk
  rw [qR_up, show up q k v k = v from if_pos rfl] at h
  exact Z.perm (List.Perm.append_left c h.symm) (by rw [hw]; exact kk)
end ZQ
set_option maxHeartbeats 4000000 in
set_option maxRecDepth 100000 in
theorem k_QS_isSaved (l : Launch) (g : ZG) (z0 s0 x0 u0 t0 o0 b0 f0 r0 qa h0 : Nat) (kq : Nat → Nat) (tq : Nat → Nat → Nat) (q : Nat → QV) (i : Int) (hi : -2147483648 ≤ i ∧ i < 2147483648)   : Ct l g y_QS_isSaved c_QS_isSaved 2 (some .boolean) { frames := 0, cells := 0, slots := 0, locals := 0 } [.ref z0, .int (iI i)] ([(z0, .inr (9, [.ref s0, .ref x0, .ref u0, .ref t0, .ref o0, .ref b0, .ref f0, .ref r0, .ref qa, .ref h0])), (qa, .inl ((g.2.1 3), 10, .inr (.inr (.inr (.inr (fun i => some (kq i)))))))] ++ qW g kq tq q) (some (.int (iI (bI (decide (0 ≤ i ∧ i < 10) && (q i.toNat).1))))) ([(z0, .inr (9, [.ref s0, .ref x0, .ref u0, .ref t0, .ref o0, .ref b0, .ref f0, .ref r0, .ref qa, .ref h0])), (qa, .inl ((g.2.1 3), 10, .inr (.inr (.inr (.inr (fun i => some (kq i)))))))] ++ qW g kq tq q) := by
  refine ct_z (lv := [(0, .ref z0), (1, .int (iI i))]) (by decide) rfl (Nat.le_of_ble_eq_true rfl) rfl ?_
  intro x hC hR
  refine z_iload_n hC d_QS_isSaved_0 rfl 1 rfl ?_
  refine z_if_lt (tgt := 26) hC i d_QS_isSaved_1 rfl (iI_t (by omega)) (fun c_1 => ?_) (fun c_1 => ?_)
  · refine z_iconstN hC 0 d_QS_isSaved_26 rfl ?_
    exact Z.eq rfl rfl rfl (zb_f (by first | (rw [Bool.and_eq_true]; exact ⟨decide_eq_true (by omega), by assumption⟩) | (rw [Bool.and_eq_false_iff]; exact Or.inl (decide_eq_false (by omega))) | (rw [Bool.and_eq_false_iff]; exact Or.inr (by assumption)))) (hR _ _ d_QS_isSaved_27)
  · refine z_iload_n hC d_QS_isSaved_4 rfl 1 rfl ?_
    refine z_bipush (a := ((10 : Nat) : Int)) hC d_QS_isSaved_5 (by decide) ?_
    refine z_icmp_ge (tgt := 26) hC i ((10 : Nat) : Int) d_QS_isSaved_7 rfl (iI_t (by omega)) (iI_t (by omega)) (fun c_2 => ?_) (fun c_2 => ?_)
    · refine z_iconstN hC 0 d_QS_isSaved_26 rfl ?_
      exact Z.eq rfl rfl rfl (zb_f (by first | (rw [Bool.and_eq_true]; exact ⟨decide_eq_true (by omega), by assumption⟩) | (rw [Bool.and_eq_false_iff]; exact Or.inl (decide_eq_false (by omega))) | (rw [Bool.and_eq_false_iff]; exact Or.inr (by assumption)))) (hR _ _ d_QS_isSaved_27)
    · refine z_aload_n hC d_QS_isSaved_10 rfl 0 rfl ?_
      refine z_get hC hi_QS 0 rfl rfl 8 (by decide) mw_260 (Or.inl rfl) rfl d_QS_isSaved_11 ?_
      refine z_iload_n hC d_QS_isSaved_14 rfl 1 rfl ?_
      refine z_aald (r := kq ((i).toNat)) hC 1 3 rfl rfl ((i).toNat) (by omega) (by omega) (by decide) rfl d_QS_isSaved_15 ?_
      refine z_foc (c := [(z0, .inr (9, [.ref s0, .ref x0, .ref u0, .ref t0, .ref o0, .ref b0, .ref f0, .ref r0, .ref qa, .ref h0])), (qa, .inl ((g.2.1 3), 10, .inr (.inr (.inr (.inr (fun i => some (kq i)))))))]) (k := (i).toNat) (w' := ([(z0, .inr (9, [.ref s0, .ref x0, .ref u0, .ref t0, .ref o0, .ref b0, .ref f0, .ref r0, .ref qa, .ref h0])), (qa, .inl ((g.2.1 3), 10, .inr (.inr (.inr (.inr (fun i => some (kq i))))))), (kq ((i).toNat), .inr (4, [.ref (tq ((i).toNat) 0), .int (iI (bI ((q ((i).toNat)).1))), .int (iI (bI ((q ((i).toNat)).2.1))), .long ((q ((i).toNat)).2.2.1)])), (tq ((i).toNat) 0, .inr (7, [.ref (tq ((i).toNat) 1), .ref (tq ((i).toNat) 2), .ref (tq ((i).toNat) 3), .ref (tq ((i).toNat) 4), .int (iI (((q ((i).toNat)).2.2.2.1 : Nat) : Int))])), (tq ((i).toNat) 1, .inl ((g.2.1 0), 40, .inl (q1 (q ((i).toNat)).2.2.2.2))), (tq ((i).toNat) 2, .inl ((g.2.1 0), 40, .inl (q2 (q ((i).toNat)).2.2.2.2))), (tq ((i).toNat) 3, .inl ((g.2.1 0), 40, .inl (q3 (q ((i).toNat)).2.2.2.2))), (tq ((i).toNat) 4, .inl ((g.2.1 0), 40, .inl (q4 (q ((i).toNat)).2.2.2.2)))] ++ qR g kq tq q ((i).toNat))) (by omega) rfl ?_
      refine z_getN hC hi_Qu 2 rfl rfl 1 (by decide) (List.mem_of_getElem? (i := 2) rfl) rfl rfl d_QS_isSaved_16 ?_
      refine z_unf0 (c := [(z0, .inr (9, [.ref s0, .ref x0, .ref u0, .ref t0, .ref o0, .ref b0, .ref f0, .ref r0, .ref qa, .ref h0])), (qa, .inl ((g.2.1 3), 10, .inr (.inr (.inr (.inr (fun i => some (kq i)))))))]) (k := (i).toNat) (w' := ([(z0, .inr (9, [.ref s0, .ref x0, .ref u0, .ref t0, .ref o0, .ref b0, .ref f0, .ref r0, .ref qa, .ref h0])), (qa, .inl ((g.2.1 3), 10, .inr (.inr (.inr (.inr (fun i => some (kq i)))))))] ++ qW g kq tq q)) (by omega) rfl ?_
      refine z_ifeqB (tgt := 26) hC d_QS_isSaved_19 rfl (fun c_3 => ?_) (fun c_3 => ?_)
      · refine z_iconstN hC 0 d_QS_isSaved_26 rfl ?_
        exact Z.eq rfl rfl rfl (zb_f (by first | (rw [Bool.and_eq_true]; exact ⟨decide_eq_true (by omega), by assumption⟩) | (rw [Bool.and_eq_false_iff]; exact Or.inl (decide_eq_false (by omega))) | (rw [Bool.and_eq_false_iff]; exact Or.inr (by assumption)))) (hR _ _ d_QS_isSaved_27)
      · refine z_iconstN hC 1 d_QS_isSaved_22 rfl ?_
        refine z_goto (tgt := 27) hC d_QS_isSaved_23 rfl ?_
        exact Z.eq rfl rfl rfl (zb_t (by first | (rw [Bool.and_eq_true]; exact ⟨decide_eq_true (by omega), by assumption⟩) | (rw [Bool.and_eq_false_iff]; exact Or.inl (decide_eq_false (by omega))) | (rw [Bool.and_eq_false_iff]; exact Or.inr (by assumption)))) (hR _ _ d_QS_isSaved_27)
