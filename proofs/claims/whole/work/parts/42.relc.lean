/-! ===== reading, both sides ===== -/
section RR
variable {sn sn2 : Nat} {sf sf2 : Nat → Int32} {xc xc2 : Nat} {xn xn2 : Nat → Nat} {xl xl2 : Nat → Int32} {xo fo : Nat → Bool} {un un2 : Nat} {uf uf2 : Nat → Int32} {on : Nat} {od : Nat → QD} {ts : Nat → Nat} {tr : Nat → QD} {q : Nat → QV} {lk : Nat → Bool} {se : Nat → Int64}
theorem rd0 {form : Int} {nd nd2 : Nat → QD} {wr2 : Nat} {bg wt : Nat → Nat} {w1 : Bool × RS} {w9 : Bool × RM} (g1 : G1 sn sn2 sf sf2) (g2 : G2 xc xc2 xn xn2 xl xl2 xo fo) (g3 : G3 un un2 uf uf2) (hwt : ∀ k, wt k < 1000) (hA : form = 0) (hw1 : w1 = rdC sn sf xc xn xl form (0, 0, nd, 0, uf)) (hw9 : w9 = r1F sn2 sf2 xc2 xn2 xl2 (sn2 + 1) true (0, wr2, 0, uf2, 0, nd2, bg) 0 wt) :
    (G3 w1.2.2.2.2.1 w9.2.1.2.2.1 w1.2.2.2.2.2 w9.2.1.2.2.2.1 ∧ w1.2.2.1 ≤ 40 ∧ (∀ k, w9.2.2.2 k < 1000)) ∧ ((w1.1 = true ∧ sn ≤ w1.2.1) → w9.1 = true ∧ w9.2.1.2.2.2.2.1 ≤ 40 ∧ HF (lfP xc2) w9.2.1.2.2.2.2.2.1 w9.2.1.2.2.2.2.2.2 [lsN w1.2.2.2.1 w1.2.2.1] w9.2.1.2.2.2.2.1) ∧ (¬ (w1.1 = true ∧ sn ≤ w1.2.1) → w9.1 = false ∧ w9.2.1.2.1 = w1.2.1) := by
  obtain ⟨rfl, rfl, b1, b2⟩ := g1
  obtain ⟨rfl, rfl, rfl, b3, b4, b5, _⟩ := g2
  obtain ⟨rfl, rfl, b6, b7⟩ := g3
  unfold rdC at hw1
  rw [if_pos hA] at hw1
  have r := read0 (n := sn2) (f := sf2) (xc := xc2) (xn := xn2) (xl := xl2) (nd := nd) (uf := uf2) (wr := wr2) (nb := nd2) (bg := bg) (wt := wt) b3 b1 hwt
  have y := bTr_y (xc := xc2) (xn := xn2) (xl := xl2) b1 b2 20 (0, 0, nd, 0, uf2) ⟨Nat.zero_le _, b7⟩
  have k := bTr_ok (n := sn2) (f := sf2) (xn := xn2) (xl := xl2) b3 20 (0, 0, nd, 0, uf2) (Nat.zero_le _) (Nat.zero_le _)
  have wt9 := r1_wt (n := sn2) (f := sf2) (xc := xc2) (xn := xn2) (xl := xl2) (sn2 + 1) true (0, wr2, 0, uf2, 0, nd2, bg) 0 wt hwt
  rw [← hw1, ← hw9] at r
  rw [← hw1] at y k
  rw [← hw9] at wt9
  by_cases c : w1.1 = true ∧ sn2 ≤ w1.2.1
  · have z := r.1 c
    exact ⟨⟨⟨z.2.1, z.2.2.1, y.1, y.2⟩, k.2.1, wt9⟩, fun _ => ⟨z.1, z.2.2.2.2.1, z.2.2.2.2.2⟩, fun h => absurd c h⟩
  · have z := r.2 c
    exact ⟨⟨⟨z.2.2.1, z.2.2.2, y.1, y.2⟩, k.2.1, wt9⟩, fun h => absurd h c, fun _ => ⟨z.1, z.2.1⟩⟩
theorem rd1 {form : Int} {nd nd2 : Nat → QD} {wr2 : Nat} {bg wt : Nat → Nat} {w1 : Bool × RS} {w9 : Bool × RM} (g1 : G1 sn sn2 sf sf2) (g2 : G2 xc xc2 xn xn2 xl xl2 xo fo) (g3 : G3 un un2 uf uf2) (hwt : ∀ k, wt k < 1000) (hA : ¬ form = 0) (hw1 : w1 = rdC sn sf xc xn xl form (0, 0, nd, 0, uf)) (hw9 : w9 = r2F sn2 sf2 xc2 xn2 xl2 (sn2 + 1) true (0, wr2, 0, uf2, 0, nd2, bg) 0 wt) :
    (G3 w1.2.2.2.2.1 w9.2.1.2.2.1 w1.2.2.2.2.2 w9.2.1.2.2.2.1 ∧ w1.2.2.1 ≤ 40 ∧ (∀ k, w9.2.2.2 k < 1000)) ∧ ((w1.1 = true ∧ sn ≤ w1.2.1) → w9.1 = true ∧ w9.2.1.2.2.2.2.1 ≤ 40 ∧ HF (lfP xc2) w9.2.1.2.2.2.2.2.1 w9.2.1.2.2.2.2.2.2 [lsN w1.2.2.2.1 w1.2.2.1] w9.2.1.2.2.2.2.1) ∧ (¬ (w1.1 = true ∧ sn ≤ w1.2.1) → w9.1 = false ∧ w9.2.1.2.1 = w1.2.1) := by
  obtain ⟨rfl, rfl, b1, b2⟩ := g1
  obtain ⟨rfl, rfl, rfl, b3, b4, b5, _⟩ := g2
  obtain ⟨rfl, rfl, b6, b7⟩ := g3
  unfold rdC at hw1
  rw [if_neg hA] at hw1
  have r := read1 (n := sn2) (f := sf2) (xc := xc2) (xn := xn2) (xl := xl2) (nd := nd) (uf := uf2) (wr := wr2) (nb := nd2) (bg := bg) (wt := wt) b3 hwt
  have y := fTr_y (xc := xc2) (xn := xn2) (xl := xl2) b1 b2 20 (0, 0, nd, 0, uf2) ⟨Nat.zero_le _, b7⟩
  have k := fTr_ok (n := sn2) (f := sf2) (xn := xn2) (xl := xl2) b3 20 (0, 0, nd, 0, uf2) (Nat.zero_le _) (Nat.zero_le _)
  have wt9 := r2_wt (n := sn2) (f := sf2) (xc := xc2) (xn := xn2) (xl := xl2) (sn2 + 1) true (0, wr2, 0, uf2, 0, nd2, bg) 0 wt hwt
  rw [← hw1, ← hw9] at r
  rw [← hw1] at y k
  rw [← hw9] at wt9
  by_cases c : w1.1 = true ∧ sn2 ≤ w1.2.1
  · have z := r.1 c
    exact ⟨⟨⟨z.2.1, z.2.2.1, y.1, y.2⟩, k.2.1, wt9⟩, fun _ => ⟨z.1, z.2.2.2.2.1, z.2.2.2.2.2⟩, fun h => absurd c h⟩
  · have z := r.2 c
    exact ⟨⟨⟨z.2.2.1, z.2.2.2, y.1, y.2⟩, k.2.1, wt9⟩, fun h => absurd h c, fun _ => ⟨z.1, z.2.1⟩⟩
theorem rd_lay {n bc : Nat} {nd2 D : Nat → QD} {bg wt : Nat → Nat} {v : LY3} (g2 : G2 xc xc2 xn xn2 xl xl2 xo fo) (g4 : G4 xc on od ts tr) (g7 : G7 xc q ts tr lk se) (h : HF (lfP xc2) nd2 bg [lsN D n] bc) (hb : bc ≤ 40) (hn : n ≤ 40) (hwt : ∀ k, wt k < 1000) (hv : v = lyS nd2 bg 41 1 (up wt 0 (bc - 1)) 0 tr) : v.2.1 = n ∧ (∀ k, v.1 k < 1000) ∧ G4 xc n (cpN od D n) (up ts 10 v.2.1) v.2.2 ∧ G7 xc q (up ts 10 v.2.1) v.2.2 lk se := by
  have ex := g2.1
  subst ex
  have l0 := LY_0 (wt := wt) h hb
  have a := lyS_ok lfP_3 41 1 (up wt 0 (bc - 1)) 0 tr l0.2 (by rw [lsN_len]; omega) rfl (wt_up hwt (by omega))
  rw [← hv, lsN_len] at a
  obtain ⟨a1, a2, a3, a4⟩ := a
  refine ⟨a1, a4, ⟨?_, fun i hi => ?_, ?_⟩, g7.1, fun k => ?_, fun i hi => ?_⟩
  · rw [up_eq, a1]
  · unfold cpN
    rw [if_pos hi]
    exact lsN_inj n a2 i hi
  · exact tok_congr (tok_of h hn) (fun k hk => by unfold cpN; rw [if_pos hk])
  · unfold up
    split
    · omega
    · exact g7.2.1 k
  · have z := g7.2.2 i hi
    have t40 := g7.2.1 i
    rw [up_ne _ _ (by omega)]
    refine ⟨z.1, z.2.1, z.2.2.1, z.2.2.2.1, fun j hj => ?_, z.2.2.2.2.2⟩
    rw [a3 _ (by omega)]
    exact z.2.2.2.2.1 j hj
end RR
/-! ===== the law's own rows ===== -/
section ZL
variable {x : ZC} {l : Launch} {g : ZG} {R : Room} {cc : ByteArray} {nL : Nat} {own : String} {u : Nat × Nat} {w : va_W} {pc : Nat} {lv : List (Nat × Value)} {st : List Value}
/-- the script lies outside the world -/
def zX (x : ZC) (b L : Nat) (xs : Nat → Int32) : Prop := match x with
  | (_, _, _, _, s, _, _, _, _, _, _, A, H0, _, _) => va_X b L xs s H0 ∧ b < H0.size ∧ ¬ A b
theorem zs_ld (hC : zO x l g R cc nL own) {b L : Nat} {xs : Nat → Int32} (hX : zX x b L xs) {i : Int} (k : Nat) (hk : i = k) (hlt : k < L) (hL : L < 2147483648) (hd : decode cc pc = .ok (.iaload, 1)) (kk : Z x u w (pc + 1) lv (.int (xs k) :: st)) : Z x u w pc lv (.int (iI i) :: .ref b :: st) := by
  obtain ⟨p, l', e, R', s, m, args, below, meth, c, g', A, H0, Q, nL'⟩ := x
  obtain ⟨rfl, rfl, rfl, rfl, ⟨hx, hb, hml, hown, hts⟩, hK, rfl, hA⟩ := hC
  have hcl := iI_cl hk (by omega)
  exact fun H locs ls hP hD hS hl => va_sld hx hb hX.1 hX.2.1 hX.2.2 hS (iI_in (by omega) (by omega) hL) hd (by rw [hcl]; exact kk H locs ls hP hD hS hl)
theorem zs_len (hC : zO x l g R cc nL own) {b L : Nat} {xs : Nat → Int32} (hX : zX x b L xs) (hd : decode cc pc = .ok (.arraylength, 1)) (kk : Z x u w (pc + 1) lv (.int (iI ((L : Nat) : Int)) :: st)) : Z x u w pc lv (.ref b :: st) := by
  obtain ⟨p, l', e, R', s, m, args, below, meth, c, g', A, H0, Q, nL'⟩ := x
  obtain ⟨rfl, rfl, rfl, rfl, ⟨hx, hb, hml, hown, hts⟩, hK, rfl, hA⟩ := hC
  have e2 : Int32.ofNat L = iI ((L : Nat) : Int) := by
    unfold iI
    first | rfl | exact (Int32.ofInt_eq_ofNat ..).symm | exact (Int32.ofInt_natCast ..).symm
  exact fun H locs ls hP hD hS hl => va_slen hx hb hX.1 hX.2.1 hX.2.2 hS hd (by rw [e2]; exact kk H locs ls hP hD hS hl)
theorem z_i2l (hC : zO x l g R cc nL own) {v : Int32} (hd : decode cc pc = .ok (.i2l, 1)) (k : Z x u w (pc + 1) lv (.long v.toInt64 :: st)) : Z x u w pc lv (.int v :: st) := by
  obtain ⟨p, l', e, R', s, m, args, below, meth, c, g', A, H0, Q, nL'⟩ := x
  obtain ⟨rfl, rfl, rfl, rfl, ⟨hx, hb, hml, hown, hts⟩, hK, rfl, hA⟩ := hC
  exact fun H locs ls hP hD hS hl => lv_i2l hx hb hd rfl (k H locs ls hP hD hS hl)
theorem z_lshl (hC : zO x l g R cc nL own) {v : Int64} {y : Int32} (hd : decode cc pc = .ok (.lshl, 1)) (k : Z x u w (pc + 1) lv (.long (v <<< (y.toInt64 &&& 63)) :: st)) : Z x u w pc lv (.int y :: .long v :: st) := by
  obtain ⟨p, l', e, R', s, m, args, below, meth, c, g', A, H0, Q, nL'⟩ := x
  obtain ⟨rfl, rfl, rfl, rfl, ⟨hx, hb, hml, hown, hts⟩, hK, rfl, hA⟩ := hC
  exact fun H locs ls hP hD hS hl => lv_lshl hx hb hd rfl (k H locs ls hP hD hS hl)
theorem z_land (hC : zO x l g R cc nL own) {v y : Int64} (hd : decode cc pc = .ok (.land, 1)) (k : Z x u w (pc + 1) lv (.long (v &&& y) :: st)) : Z x u w pc lv (.long y :: .long v :: st) := by
  obtain ⟨p, l', e, R', s, m, args, below, meth, c, g', A, H0, Q, nL'⟩ := x
  obtain ⟨rfl, rfl, rfl, rfl, ⟨hx, hb, hml, hown, hts⟩, hK, rfl, hA⟩ := hC
  exact fun H locs ls hP hD hS hl => lv_land hx hb hd (k H locs ls hP hD hS hl)
theorem z_lor (hC : zO x l g R cc nL own) {v y : Int64} (hd : decode cc pc = .ok (.lor, 1)) (k : Z x u w (pc + 1) lv (.long (v ||| y) :: st)) : Z x u w pc lv (.long y :: .long v :: st) := by
  obtain ⟨p, l', e, R', s, m, args, below, meth, c, g', A, H0, Q, nL'⟩ := x
  obtain ⟨rfl, rfl, rfl, rfl, ⟨hx, hb, hml, hown, hts⟩, hK, rfl, hA⟩ := hC
  exact fun H locs ls hP hD hS hl => lv_lor hx hb hd (k H locs ls hP hD hS hl)
theorem z_ldc2 (hC : zO x l g R cc nL own) {index : Nat} {v : Int64} (hc : Cond.constantLong own index v ∈ zTB) (hd : decode cc pc = .ok (.ldc2_w index, 3)) (k : Z x u w (pc + 3) lv (.long v :: st)) : Z x u w pc lv st := by
  obtain ⟨p, l', e, R', s, m, args, below, meth, c, g', A, H0, Q, nL'⟩ := x
  obtain ⟨rfl, rfl, rfl, rfl, ⟨hx, hb, hml, hown, hts⟩, hK, rfl, hA⟩ := hC
  exact fun H locs ls hP hD hS hl => lv_ldc2 hx hb hown (hts _ hc) hd (k H locs ls hP hD hS hl)
theorem Z.widen {u' : Nat × Nat} (h1 : u.1 ≤ u'.1) (h2 : u.2 ≤ u'.2) (k : Z x u' w pc lv st) : Z x u w pc lv st := by
  obtain ⟨p, l', e, R', s, m, args, below, meth, c, g', A, H0, Q, nL'⟩ := x
  exact fun H locs ls hP hD hS hl => W.widen h1 h2 (k H locs ls hP hD hS hl)
end ZL
