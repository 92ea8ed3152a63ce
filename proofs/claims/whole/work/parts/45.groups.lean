/-! groups -/
def tgB (M : zq_M) (off : Int32) (a b : Nat) : Bool := decide (M 33 a = M 33 b ∧ (M 32 a).toInt - (M 32 b).toInt ≤ off.toInt ∧ (M 32 b).toInt - (M 32 a).toInt ≤ off.toInt)
abbrev ES : Type := (Nat → Nat → Bool) × Int32
def mrE (E : Nat → Nat → Bool) (a b i j : Nat) : Bool := E i j || (E i a && E j b) || (E i b && E j a)
def mrg (M : zq_M) (off : Int32) (a b : Nat) (S : ES) : ES := if (tgB M off a b && !S.1 a b) = true then (mrE S.1 a b, S.2 + (-1)) else S
def grI (M : zq_M) (off : Int32) (a : Nat) : Nat → ES → ES
  | 0, S => S
  | b + 1, S => mrg M off a b (grI M off a b S)
def grO (M : zq_M) (off : Int32) : Nat → ES
  | 0 => (fun i j => decide (i = j), M 30 7)
  | a + 1 => grI M off a a (grO M off a)
theorem mrg_fr {M M' : zq_M} {off : Int32} {a b : Nat} {S : ES} (hf : fr (fL sL) M M') : mrg M' off a b S = mrg M off a b S := by
  unfold mrg tgB
  rw [fr_ar hf 33 (fun _ => rfl), fr_ar hf 32 (fun _ => rfl)]
theorem grI_fr {M M' : zq_M} {off : Int32} {a : Nat} {S : ES} (hf : fr (fL sL) M M') : ∀ b, grI M' off a b S = grI M off a b S
  | 0 => rfl
  | b + 1 => by
    unfold grI
    rw [grI_fr hf b, mrg_fr hf]
theorem grO_fr {M M' : zq_M} {off : Int32} (hf : fr (fL sL) M M') : ∀ a, grO M' off a = grO M off a
  | 0 => by unfold grO; rw [hf 30 7 rfl]
  | a + 1 => by
    unfold grO
    rw [grO_fr hf a, grI_fr hf]
theorem mr_ij {gi gj ga gb gi' gj' : Int32} {eij eia ejb eib eja : Bool} (h1 : gi = gj ↔ eij = true) (h2 : gi = ga ↔ eia = true) (h3 : gj = gb ↔ ejb = true) (h4 : gi = gb ↔ eib = true) (h5 : gj = ga ↔ eja = true) (hi : gi' = if gi = gb then ga else gi) (hj : gj' = if gj = gb then ga else gj) : gi' = gj' ↔ (eij || (eia && ejb) || (eib && eja)) = true := by
  rw [Bool.or_eq_true, Bool.or_eq_true, Bool.and_eq_true, Bool.and_eq_true, ← h1, ← h2, ← h3, ← h4, ← h5, hi, hj]
  by_cases c1 : gi = gb <;> by_cases c2 : gj = gb
  · rw [if_pos c1, if_pos c2]
    exact ⟨fun _ => Or.inl (Or.inl (c1.trans c2.symm)), fun _ => rfl⟩
  · rw [if_pos c1, if_neg c2]
    refine ⟨fun h => Or.inr ⟨c1, h.symm⟩, fun h => ?_⟩
    rcases h with (h | h) | h
    · exact absurd (h.symm.trans c1) c2
    · exact absurd h.2 c2
    · exact h.2.symm
  · rw [if_neg c1, if_pos c2]
    refine ⟨fun h => Or.inl (Or.inr ⟨h, c2⟩), fun h => ?_⟩
    rcases h with (h | h) | h
    · exact absurd (h.trans c2) c1
    · exact h.1
    · exact absurd h.1 c1
  · rw [if_neg c1, if_neg c2]
    refine ⟨fun h => Or.inl (Or.inl h), fun h => ?_⟩
    rcases h with (h | h) | h
    · exact h
    · exact absurd h.2 c2
    · exact absurd h.1 c1
theorem mr_ji {gi gj ga gb gi' gj' : Int32} {eij eia ejb eib eja : Bool} (h1 : gi = gj ↔ eij = true) (h2 : gi = ga ↔ eia = true) (h3 : gj = gb ↔ ejb = true) (h4 : gi = gb ↔ eib = true) (h5 : gj = ga ↔ eja = true) (hi : gi' = if gi = ga then gb else gi) (hj : gj' = if gj = ga then gb else gj) : gi' = gj' ↔ (eij || (eia && ejb) || (eib && eja)) = true := by
  have := mr_ij (gi' := gi') (gj' := gj') h1 h4 h5 h2 h3 hi hj
  rw [this, Bool.or_assoc, Bool.or_assoc, Bool.or_comm (eib && eja)]
def F_grp (p0 : Int32) (M : zq_M) (v : Int32) : Prop := orB (0 ≤ p0.toInt ∧ p0.toInt ≤ 99) (grO M p0 (M 30 7).toInt.toNat).2 (-2) v
theorem c_X9_regroup {g : zq_G} {d : Nat} {M : zq_M} {Q : Option Value → zq_M → Prop} {f t l : Int32} (l1 : 0 ≤ l.toInt) (l2 : l.toInt < 24) (hq : ∀ M' : zq_M, fr (fL [36]) M M' → (∀ i : Nat, M' 36 i = if (i : Int) ≤ l.toInt ∧ M 36 i = f then t else M 36 i) → Q none M') : mx g d kX9_regroup 0 [.ref 30, .int f, .int t, .int l, .null] [] M Q := by
  refine mx_go 250 zq_t82 ?_
  show mx g (d) kX9_regroup 3 [.ref 30, .int (f), .int (t), .int (l), .int (0)] [] M Q
  refine mx_wf (fun x : Int32 => [.ref 30, .int f, .int t, .int l, .int x]) (fun x M' => 0 ≤ x.toInt ∧ x.toInt ≤ l.toInt + 1 ∧ fr (fL [36]) M M' ∧ ∀ i : Nat, M' 36 i = if (i : Int) < x.toInt ∧ M 36 i = f then t else M 36 i) (fun x => (l.toInt + 1 - x.toInt).toNat) ?_ 0 M ⟨by decide, by rw [n_0]; omega, fr_rfl, fun i => by rw [n_0, if_neg (fun z => by omega)]⟩
  intro x M' ⟨i1, i2, i3, i4⟩ ih
  refine mx_go 250 zq_t82 ?_
  show ((l : Int32) < (x : Int32) → Q none M') ∧ (¬ (l : Int32) < (x : Int32) → vp_in x 24 ∧ (¬ (((M' 36) (Int32.toNatClampNeg x)) : Int32) = (f : Int32) → mx g (d) kX9_regroup 3 [.ref 30, .int (f), .int (t), .int (l), .int ((x + 1))] [] M' Q) ∧ ((((M' 36) (Int32.toNatClampNeg x)) : Int32) = (f : Int32) → vp_in x 24 ∧ mx g (d) kX9_regroup 3 [.ref 30, .int (f), .int (t), .int (l), .int ((x + 1))] [] (zq_ma M' 36 (upd (M' 36) (Int32.toNatClampNeg x) t)) Q))
  refine ⟨fun q => ?_, fun q => ?_⟩
  · rw [n_lt] at q
    refine hq M' i3 (fun i => ?_)
    rw [i4 i]
    by_cases c : M 36 i = f
    · by_cases c2 : (i : Int) ≤ l.toInt
      · rw [if_pos ⟨by omega, c⟩, if_pos ⟨c2, c⟩]
      · rw [if_neg (fun z => by omega), if_neg (fun z => c2 z.1)]
    · rw [if_neg (fun z => c z.2), if_neg (fun z => c z.2)]
  rw [n_lt] at q
  have f24 : (24 : Int32).toInt = 24 := rfl
  have up := n_up (n := 24) (x := x) i1 (by omega)
  have xin : vp_in x 24 := n_in i1 (by omega)
  have ex : M' 36 x.toNatClampNeg = M 36 x.toNatClampNeg := by rw [i4, if_neg (fun z => by rw [n_cl] at z; omega)]
  rw [ex]
  refine ⟨xin, fun z => ?_, fun z => ⟨xin, ?_⟩⟩
  · refine ih (x + 1) M' (by omega) ⟨by omega, by omega, i3, fun i => ?_⟩
    rw [i4 i]
    by_cases c : M 36 i = f
    · have ne : i ≠ x.toInt.toNat := fun e => z (by rw [n_cl, ← e]; exact c)
      by_cases c2 : (i : Int) < x.toInt
      · rw [if_pos ⟨c2, c⟩, if_pos ⟨by omega, c⟩]
      · rw [if_neg (fun z => c2 z.1), if_neg (fun z => by omega)]
    · rw [if_neg (fun z => c z.2), if_neg (fun z => c z.2)]
  · refine ih (x + 1) _ (by omega) ⟨by omega, by omega, fr_ma i3 (fun _ => rfl), fun i => ?_⟩
    show upd (M' 36) x.toNatClampNeg t i = _
    by_cases e : i = x.toNatClampNeg
    · subst e
      rw [upd_eq, if_pos ⟨by rw [n_cl]; omega, z⟩]
    · rw [upd_ne e, i4 i]
      rw [n_cl] at e
      by_cases c : M 36 i = f
      · by_cases c2 : (i : Int) < x.toInt
        · rw [if_pos ⟨c2, c⟩, if_pos ⟨by omega, c⟩]
        · rw [if_neg (fun z => c2 z.1), if_neg (fun z => by omega)]
      · rw [if_neg (fun z => c z.2), if_neg (fun z => c z.2)]
/-- the class's groups of the tracks up to a stand for S -/
def gcX (f : Nat → Int32) (S : ES) (a : Int) : Prop := (∀ i j : Nat, (i : Int) ≤ a → (j : Int) ≤ a → (f i = f j ↔ S.1 i j = true)) ∧ (∀ i : Nat, (i : Int) ≤ a → 0 ≤ (f i).toInt ∧ (f i).toInt ≤ a) ∧ ∀ i j : Nat, a < (i : Int) ∨ a < (j : Int) → S.1 i j = decide (i = j)
theorem gcX_set {f : Nat → Int32} {S : ES} {x : Int32} (x1 : 0 ≤ x.toInt) (h : gcX f S (x.toInt - 1)) : gcX (upd f x.toNatClampNeg x) S x.toInt := by
  obtain ⟨h1, h2, h3⟩ := h
  refine ⟨fun i j hi hj => ?_, fun i hi => ?_, fun i j hij => h3 i j (by omega)⟩
  · by_cases ci : i = x.toNatClampNeg <;> by_cases cj : j = x.toNatClampNeg
    · rw [ci, cj, h3 _ _ (by rw [n_cl]; omega), decide_eq_true rfl]
      exact ⟨fun _ => rfl, fun _ => rfl⟩
    · rw [h3 i j (by rw [ci, n_cl]; omega), ci, upd_eq, upd_ne cj, decide_eq_false (fun e => cj e.symm)]
      have cj2 := cj
      rw [n_cl] at cj2
      have := h2 j (by omega)
      refine ⟨fun e => ?_, fun e => absurd e (by decide)⟩
      rw [n_eq] at e
      omega
    · rw [h3 i j (by rw [cj, n_cl]; omega), cj, upd_eq, upd_ne ci, decide_eq_false ci]
      have ci2 := ci
      rw [n_cl] at ci2
      have := h2 i (by omega)
      refine ⟨fun e => ?_, fun e => absurd e (by decide)⟩
      rw [n_eq] at e
      omega
    · rw [upd_ne ci, upd_ne cj]
      rw [n_cl] at ci cj
      exact h1 i j (by omega) (by omega)
  · by_cases ci : i = x.toNatClampNeg
    · rw [ci, upd_eq]; omega
    · rw [upd_ne ci]
      rw [n_cl] at ci
      have := h2 i (by omega)
      omega
theorem gcX_mrg {f f' : Nat → Int32} {S : ES} {a b : Nat} (hb : b < a) (h : gcX f S a) (hf : ∀ i : Nat, f' i = if (i : Int) ≤ (a : Int) ∧ f i = f b then f a else f i) : gcX f' (mrE S.1 a b, S.2 + (-1)) a := by
  obtain ⟨h1, h2, h3⟩ := h
  have hf' : ∀ i : Nat, (i : Int) ≤ (a : Int) → f' i = if f i = f b then f a else f i := by
    intro i hi
    rw [hf i]
    by_cases c : f i = f b
    · rw [if_pos ⟨hi, c⟩, if_pos c]
    · rw [if_neg (fun z => c z.2), if_neg c]
  refine ⟨fun i j hi hj => ?_, fun i hi => ?_, fun i j hij => ?_⟩
  · exact mr_ij (h1 i j hi hj) (h1 i a hi (by omega)) (h1 j b hj (by omega)) (h1 i b hi (by omega)) (h1 j a hj (by omega)) (hf' i hi) (hf' j hj)
  · rw [hf' i hi]
    split
    · exact h2 a (by omega)
    · exact h2 i hi
  · show mrE S.1 a b i j = _
    unfold mrE
    rw [h3 i j hij]
    rcases hij with c | c
    · rw [h3 i a (Or.inl c), h3 i b (Or.inl c), decide_eq_false (show ¬ i = a by omega), decide_eq_false (show ¬ i = b by omega), Bool.false_and, Bool.false_and, Bool.or_false, Bool.or_false]
    · rw [h3 j a (Or.inl c), h3 j b (Or.inl c), decide_eq_false (show ¬ j = a by omega), decide_eq_false (show ¬ j = b by omega), Bool.and_false, Bool.and_false, Bool.or_false, Bool.or_false]
theorem x_grp {g : zq_G} {d : Nat} {M : zq_M} {Q : Option Value → zq_M → Prop} {p0 : Int32} (hR : RR M) (hq : ∀ (v : Int32) (M' : zq_M), fr (fL sL) M M' → F_grp p0 M v → Q (some (.int v)) M') : mx g (d + 6) kX11_groups 0 [.ref 0, .int p0] [] M Q := by
  have hR5 := RR_5 hR
  obtain ⟨u1, u2, u3, u4, u5, u6, u7, u8, u9, u10, u11, u12, u13, u14, u15, u16, u17⟩ := id hR5.2.2.2.1
  unfold F_grp at hq
  have hbad : ¬ (0 ≤ p0.toInt ∧ p0.toInt ≤ 99) → Q (some (.int (-2))) M := fun z => hq _ M fr_rfl (Or.inr ⟨z, rfl⟩)
  refine mx_go 250 zq_t104 ?_
  show mx g (d + 5) kX11_isOff 0 [.int (p0)] [] M _
  refine c_X11_isOff (fun k1 k2 => ?_) (fun k1 => ?_)
  rotate_left
  · show (¬ (0 : Int32) = 0 → mx g (d + 5) kX9_groupsBy 0 [.ref 30, .int (p0), .null, .null, .null] [] M _) ∧ ((0 : Int32) = 0 → Q (some (.int (-2))) M)
    exact ⟨fun z => absurd rfl z, fun _ => hbad (by omega)⟩
  show (¬ (1 : Int32) = 0 → mx g (d + 5) kX9_groupsBy 0 [.ref 30, .int (p0), .null, .null, .null] [] M _) ∧ ((1 : Int32) = 0 → Q (some (.int (-2))) M)
  refine ⟨fun _ => ?_, fun z => absurd z (by decide)⟩
  replace hq := fun v M' hf hv => hq v M' hf (Or.inl ⟨by omega, hv⟩)
  refine mx_q (fun Q1 hQ1 => ?_)
  replace hQ1 := fun v M' hf hv => hQ1 (some (.int v)) M' (hq v M' hf hv)
  refine mx_go 250 zq_t81 ?_
  show mx g (d + 5) kX9_groupsBy 7 [.ref 30, .int (p0), .int ((M 30 7)), .int (0), .null] [] M Q1
  refine mx_wf2 (fun c x : Int32 => [.ref 30, .int p0, .int c, .int x, .null]) (fun c x M' => 0 ≤ x.toInt ∧ x.toInt ≤ (M 30 7).toInt ∧ fr (fL [36]) M M' ∧ c = (grO M p0 x.toInt.toNat).2 ∧ gcX (M' 36) (grO M p0 x.toInt.toNat) (x.toInt - 1)) (fun _ x => ((M 30 7).toInt - x.toInt).toNat) ?_ (M 30 7) 0 M ⟨by decide, u8, fr_rfl, by rw [n_0]; rfl, by rw [n_0]; exact ⟨fun i j hi hj => by omega, fun i hi => by omega, fun i j _ => rfl⟩⟩
  intro c x M' ⟨i1, i2, i3, i4, i5⟩ ih
  refine mx_go 250 zq_t81 ?_
  show (((M' 30 7) : Int32) ≤ (x : Int32) → Q1 (some (.int c)) M') ∧ (¬ ((M' 30 7) : Int32) ≤ (x : Int32) → vp_in x 24 ∧ mx g (d + 5) kX9_groupsBy 25 [.ref 30, .int (p0), .int (c), .int (x), .int (0)] [] (zq_ma M' 36 (upd (M' 36) (Int32.toNatClampNeg x) x)) Q1)
  rw [i3 30 7 rfl]
  refine ⟨fun q => ?_, fun q => ?_⟩
  · rw [n_le] at q
    rw [show x.toInt = (M 30 7).toInt by omega] at i4
    exact hQ1 _ M' (fr_sub i3 (by decide)) i4
  rw [n_le] at q
  have up := n_up (n := M 30 7) i1 (by omega)
  have xin : vp_in x 24 := n_in i1 (by omega)
  have hup : grO M p0 (x + 1).toInt.toNat = grI M p0 x.toInt.toNat x.toInt.toNat (grO M p0 x.toInt.toNat) := by
    rw [up, show (x.toInt + 1).toNat = x.toInt.toNat + 1 by omega]
    rfl
  refine ⟨xin, ?_⟩
  generalize grO M p0 x.toInt.toNat = S0 at i4 i5 hup
  refine mx_wf2 (fun c y : Int32 => [.ref 30, .int p0, .int c, .int x, .int y]) (fun c y M2 => 0 ≤ y.toInt ∧ y.toInt ≤ x.toInt ∧ fr (fL [36]) M M2 ∧ c = (grI M p0 x.toInt.toNat y.toInt.toNat S0).2 ∧ gcX (M2 36) (grI M p0 x.toInt.toNat y.toInt.toNat S0) x.toInt) (fun _ y => (x.toInt - y.toInt).toNat) ?_ c 0 _ ⟨by decide, by rw [n_0]; exact i1, fr_ma i3 (fun _ => rfl), by rw [n_0]; exact i4, by rw [n_0]; exact gcX_set i1 i5⟩
  clear i3 i4 i5
  clear M' c
  intro c y M' ⟨j1, j2, j3, j4, j5⟩ ih2
  have f1 : fr (fL sL) M M' := fr_sub j3 (by decide)
  refine mx_go 250 zq_t81 ?_
  show ((x : Int32) ≤ (y : Int32) → mx g (d + 5) kX9_groupsBy 7 [.ref 30, .int (p0), .int (c), .int ((x + 1)), .null] [] M' Q1) ∧ (¬ (x : Int32) ≤ (y : Int32) → vp_in y 24 ∧ vp_in x 24 ∧ ((((M' 36) (Int32.toNatClampNeg y)) : Int32) = (((M' 36) (Int32.toNatClampNeg x)) : Int32) → mx g (d + 5) kX9_groupsBy 25 [.ref 30, .int (p0), .int (c), .int (x), .int ((y + 1))] [] M' Q1) ∧ (¬ (((M' 36) (Int32.toNatClampNeg y)) : Int32) = (((M' 36) (Int32.toNatClampNeg x)) : Int32) → mx g (d + 4) kX9_wentTogether 0 [.ref 30, .int (x), .int (y), .int (p0)] [] M' _))
  refine ⟨fun z => ?_, fun z => ?_⟩
  · rw [n_le] at z
    rw [show y.toInt = x.toInt by omega] at j4 j5
    refine ih c (x + 1) M' (by omega) ⟨by omega, by omega, j3, by rw [hup]; exact j4, by rw [hup, up, Int.add_sub_cancel]; exact j5⟩
  rw [n_le] at z
  have upy := n_up (n := x) j1 (by omega)
  have yin : vp_in y 24 := n_in j1 (by omega)
  have hup2 : grI M p0 x.toInt.toNat (y + 1).toInt.toNat S0 = mrg M p0 x.toInt.toNat y.toInt.toNat (grI M p0 x.toInt.toNat y.toInt.toNat S0) := by
    rw [upy, show (y.toInt + 1).toNat = y.toInt.toNat + 1 by omega]
    rfl
  generalize grI M p0 x.toInt.toNat y.toInt.toNat S0 = S at j4 j5 hup2
  have exy : M' 36 x.toInt.toNat = M' 36 y.toInt.toNat ↔ S.1 x.toInt.toNat y.toInt.toNat = true := j5.1 _ _ (by omega) (by omega)
  have skip : (tgB M p0 x.toInt.toNat y.toInt.toNat && !S.1 x.toInt.toNat y.toInt.toNat) = false → mx g (d + 5) kX9_groupsBy 25 [.ref 30, .int p0, .int c, .int x, .int (y + 1)] [] M' Q1 := by
    intro e
    unfold mrg at hup2
    rw [if_neg (by rw [e]; decide)] at hup2
    exact ih2 c (y + 1) M' (by omega) ⟨by omega, by omega, j3, by rw [hup2]; exact j4, by rw [hup2]; exact j5⟩
  refine ⟨yin, xin, fun e => skip ?_, fun e => ?_⟩
  · rw [exy.mp e.symm, Bool.not_true, Bool.and_false]
  have ne : S.1 x.toInt.toNat y.toInt.toNat = false := by
    cases h : S.1 x.toInt.toNat y.toInt.toNat
    · rfl
    · exact absurd (exy.mpr h).symm e
  refine c_X9_wentTogether (by rw [fr_ar j3 32 (fun _ => rfl)]; exact u13) xin yin (fun w _ => ?_) (fun w => ?_)
  · rw [fr_ar j3 32 (fun _ => rfl), fr_ar j3 33 (fun _ => rfl)] at w
    show ((1 : Int32) = 0 → mx g (d + 5) kX9_groupsBy 25 [.ref 30, .int (p0), .int (c), .int (x), .int ((y + 1))] [] M' Q1) ∧ (¬ (1 : Int32) = 0 → vp_in y 24 ∧ vp_in x 24 ∧ mx g (d + 4) kX9_regroup 0 [.ref 30, .int (((M' 36) (Int32.toNatClampNeg y))), .int (((M' 36) (Int32.toNatClampNeg x))), .int (x), .null] [] M' _)
    refine ⟨fun v => absurd v (by decide), fun _ => ⟨yin, xin, ?_⟩⟩
    unfold mrg at hup2
    rw [if_pos (by rw [ne, show tgB M p0 x.toInt.toNat y.toInt.toNat = true from decide_eq_true w]; rfl)] at hup2
    refine c_X9_regroup i1 (by omega) (fun M2 f2 e2 => ?_)
    show mx g (d + 5) kX9_groupsBy 25 [.ref 30, .int (p0), .int ((c + (-1))), .int (x), .int ((y + 1))] [] M2 Q1
    refine ih2 _ (y + 1) M2 (by omega) ⟨by omega, by omega, fr_trans j3 f2, by rw [hup2, j4], ?_⟩
    rw [hup2]
    have := gcX_mrg (f := M' 36) (f' := M2 36) (S := S) (a := x.toInt.toNat) (b := y.toInt.toNat) (by omega) (by rw [show ((x.toInt.toNat : Nat) : Int) = x.toInt by omega]; exact j5) (fun i => by rw [show ((x.toInt.toNat : Nat) : Int) = x.toInt by omega]; exact e2 i)
    rw [show ((x.toInt.toNat : Nat) : Int) = x.toInt by omega] at this
    exact this
  · rw [fr_ar j3 32 (fun _ => rfl), fr_ar j3 33 (fun _ => rfl)] at w
    show ((0 : Int32) = 0 → mx g (d + 5) kX9_groupsBy 25 [.ref 30, .int (p0), .int (c), .int (x), .int ((y + 1))] [] M' Q1) ∧ (¬ (0 : Int32) = 0 → vp_in y 24 ∧ vp_in x 24 ∧ mx g (d + 4) kX9_regroup 0 [.ref 30, .int (((M' 36) (Int32.toNatClampNeg y))), .int (((M' 36) (Int32.toNatClampNeg x))), .int (x), .null] [] M' _)
    exact ⟨fun _ => skip (by rw [show tgB M p0 x.toInt.toNat y.toInt.toNat = false from decide_eq_false w, Bool.false_and]), fun v => absurd rfl v⟩
/-- the reference's groups stand for S -/
def gcR (f : Nat → Int32) (S : ES) (n : Int) : Prop := ∀ i j : Nat, (i : Int) < n → (j : Int) < n → (f i = f j ↔ S.1 i j = true)
theorem m_grp {g : zq_G} {d : Nat} {M : zq_M} {Q : Option Value → zq_M → Prop} {p0 : Int32} (hR : RR M) (hq : ∀ (v : Int32) (M' : zq_M), fr (fL sL) M M' → F_grp p0 M v → Q (some (.int v)) M') : mx g (d + 6) kX12_groups 0 [.ref 48, .int p0, .null, .null, .null, .null, .null] [] M Q := by
  have hR5 := RR_5 hR
  obtain ⟨u1, u2, u3, u4, u5, u6, u7, u8, u9, u10, u11, u12, u13, u14, u15, u16, u17⟩ := id hR5.2.2.2.1
  have f99 : (99 : Int32).toInt = 99 := rfl
  unfold F_grp at hq
  have hbad : ¬ (0 ≤ p0.toInt ∧ p0.toInt ≤ 99) → Q (some (.int (-2))) M := fun z => hq _ M fr_rfl (Or.inr ⟨z, rfl⟩)
  refine mx_go 250 zq_t196 ?_
  show mx g (d + 5) kX12_in 0 [.ref 48, .int (p0), .int (0), .int (99)] [] M _
  refine c_X12_in (fun k1 k2 => ?_) (fun k1 => ?_)
  rotate_left
  · show (¬ (0 : Int32) = 0 → mx g (d + 6) kX12_groups 16 [.ref 48, .int (p0), .int (0), .null, .null, .null, .null] [] M Q) ∧ ((0 : Int32) = 0 → Q (some (.int (-2))) M)
    exact ⟨fun z => absurd rfl z, fun _ => hbad (by rw [n_0, f99] at k1; omega)⟩
  show (¬ (1 : Int32) = 0 → mx g (d + 6) kX12_groups 16 [.ref 48, .int (p0), .int (0), .null, .null, .null, .null] [] M Q) ∧ ((1 : Int32) = 0 → Q (some (.int (-2))) M)
  refine ⟨fun _ => ?_, fun z => absurd z (by decide)⟩
  rw [n_0] at k1
  rw [f99] at k2
  replace hq := fun v M' hf hv => hq v M' hf (Or.inl ⟨by omega, hv⟩)
  clear hbad
  refine mx_wf (fun x : Int32 => [.ref 48, .int p0, .int x, .null, .null, .null, .null]) (fun x M' => 0 ≤ x.toInt ∧ x.toInt ≤ (M 30 7).toInt ∧ fr (fL [70]) M M' ∧ ∀ i : Nat, (i : Int) < x.toInt → M' 70 i = nI i) (fun x => ((M 30 7).toInt - x.toInt).toNat) ?_ 0 M ⟨by decide, u8, fr_rfl, fun i hi => by rw [n_0] at hi; omega⟩
  intro x M' ⟨i1, i2, i3, i4⟩ ih
  refine mx_go 250 zq_t196 ?_
  show (((M' 48 32) : Int32) ≤ (x : Int32) → mx g (d + 6) kX12_groups 44 [.ref 48, .int (p0), .int ((M' 48 32)), .int (0), .null, .null, .null] [] M' Q) ∧ (¬ ((M' 48 32) : Int32) ≤ (x : Int32) → vp_in x 24 ∧ mx g (d + 6) kX12_groups 16 [.ref 48, .int (p0), .int ((x + 1)), .null, .null, .null, .null] [] (zq_ma M' 70 (upd (M' 70) (Int32.toNatClampNeg x) x)) Q)
  rw [i3 48 32 rfl, u1]
  refine ⟨fun q => ?_, fun q => ?_⟩
  rotate_left
  · rw [n_le] at q
    have up := n_up (n := M 30 7) i1 (by omega)
    refine ⟨n_in i1 (by omega), ih (x + 1) _ (by omega) ⟨by omega, by omega, fr_ma i3 (fun _ => rfl), fun i hi => ?_⟩⟩
    show upd (M' 70) x.toNatClampNeg x i = nI i
    by_cases c : i = x.toNatClampNeg
    · rw [c, upd_eq, n_sn i1]
    · rw [upd_ne c]
      rw [n_cl] at c
      exact i4 i (by omega)
  rw [n_le] at q
  rw [show x.toInt = (M 30 7).toInt by omega] at i4
  clear ih i1 i2 q
  refine mx_wf2 (fun c x : Int32 => [.ref 48, .int p0, .int c, .int x, .null, .null, .null]) (fun c x M' => 0 ≤ x.toInt ∧ x.toInt ≤ (M 30 7).toInt ∧ fr (fL [70]) M M' ∧ c = (grO M p0 x.toInt.toNat).2 ∧ gcR (M' 70) (grO M p0 x.toInt.toNat) (M 30 7).toInt) (fun _ x => ((M 30 7).toInt - x.toInt).toNat) ?_ (M 30 7) 0 M' ⟨by decide, u8, i3, by rw [n_0]; rfl, ?_⟩
  rotate_left
  · rw [n_0]
    intro i j hi hj
    rw [i4 i hi, i4 j hj]
    show _ ↔ decide (i = j) = true
    rw [decide_eq_true_iff, n_eq, n_nI (by omega), n_nI (by omega)]
    omega
  clear i3 i4
  clear M' x
  intro c x M' ⟨i1, i2, i3, i4, i5⟩ ih
  refine mx_go 250 zq_t196 ?_
  show (((M' 48 32) : Int32) ≤ (x : Int32) → Q (some (.int c)) M') ∧ (¬ ((M' 48 32) : Int32) ≤ (x : Int32) → mx g (d + 6) kX12_groups 55 [.ref 48, .int (p0), .int (c), .int (x), .int (0), .null, .null] [] M' Q)
  rw [i3 48 32 rfl, u1]
  refine ⟨fun q => ?_, fun q => ?_⟩
  · rw [n_le] at q
    rw [show x.toInt = (M 30 7).toInt by omega] at i4
    exact hq _ M' (fr_sub i3 (by decide)) i4
  rw [n_le] at q
  have up := n_up (n := M 30 7) i1 (by omega)
  have xin : vp_in x 24 := n_in i1 (by omega)
  have hup : grO M p0 (x + 1).toInt.toNat = grI M p0 x.toInt.toNat x.toInt.toNat (grO M p0 x.toInt.toNat) := by
    rw [up, show (x.toInt + 1).toNat = x.toInt.toNat + 1 by omega]
    rfl
  generalize grO M p0 x.toInt.toNat = S0 at i4 i5 hup
  refine mx_wf2 (fun c y : Int32 => [.ref 48, .int p0, .int c, .int x, .int y, .null, .null]) (fun c y M2 => 0 ≤ y.toInt ∧ y.toInt ≤ x.toInt ∧ fr (fL [70]) M M2 ∧ c = (grI M p0 x.toInt.toNat y.toInt.toNat S0).2 ∧ gcR (M2 70) (grI M p0 x.toInt.toNat y.toInt.toNat S0) (M 30 7).toInt) (fun _ y => (x.toInt - y.toInt).toNat) ?_ c 0 _ ⟨by decide, by rw [n_0]; exact i1, i3, by rw [n_0]; exact i4, by rw [n_0]; exact i5⟩
  clear i3 i4 i5
  clear M' c
  intro c y M' ⟨j1, j2, j3, j4, j5⟩ ih2
  refine mx_go 250 zq_t196 ?_
  show ((x : Int32) ≤ (y : Int32) → mx g (d + 6) kX12_groups 44 [.ref 48, .int (p0), .int (c), .int ((x + 1)), .null, .null, .null] [] M' Q) ∧ (¬ (x : Int32) ≤ (y : Int32) → mx g (d + 5) kX12_areTogether 0 [.ref 48, .int (x), .int (y), .int (p0)] [] M' _)
  refine ⟨fun z => ?_, fun z => ?_⟩
  · rw [n_le] at z
    rw [show y.toInt = x.toInt by omega] at j4 j5
    exact ih c (x + 1) M' (by omega) ⟨by omega, by omega, j3, by rw [hup]; exact j4, by rw [hup]; exact j5⟩
  rw [n_le] at z
  have upy := n_up (n := x) j1 (by omega)
  have yin : vp_in y 24 := n_in j1 (by omega)
  have hup2 : grI M p0 x.toInt.toNat (y + 1).toInt.toNat S0 = mrg M p0 x.toInt.toNat y.toInt.toNat (grI M p0 x.toInt.toNat y.toInt.toNat S0) := by
    rw [upy, show (y.toInt + 1).toNat = y.toInt.toNat + 1 by omega]
    rfl
  generalize grI M p0 x.toInt.toNat y.toInt.toNat S0 = S at j4 j5 hup2
  have exy : M' 70 x.toInt.toNat = M' 70 y.toInt.toNat ↔ S.1 x.toInt.toNat y.toInt.toNat = true := j5 _ _ (by omega) (by omega)
  have skip : (tgB M p0 x.toInt.toNat y.toInt.toNat && !S.1 x.toInt.toNat y.toInt.toNat) = false → mx g (d + 6) kX12_groups 55 [.ref 48, .int p0, .int c, .int x, .int (y + 1), .null, .null] [] M' Q := by
    intro e
    unfold mrg at hup2
    rw [if_neg (by rw [e]; decide)] at hup2
    exact ih2 c (y + 1) M' (by omega) ⟨by omega, by omega, j3, by rw [hup2]; exact j4, by rw [hup2]; exact j5⟩
  refine c_X12_areTogether (by rw [fr_ar j3 68 (fun _ => rfl), u4]; exact u13) xin yin (fun w _ => ?_) (fun w => ?_)
  rotate_left
  · rw [fr_ar j3 68 (fun _ => rfl), fr_ar j3 69 (fun _ => rfl), u4, u5] at w
    show ((0 : Int32) = 0 → mx g (d + 6) kX12_groups 55 [.ref 48, .int (p0), .int (c), .int (x), .int ((y + 1)), .null, .null] [] M' Q) ∧ (¬ (0 : Int32) = 0 → vp_in x 24 ∧ vp_in y 24 ∧ (¬ (((M' 70) (Int32.toNatClampNeg x)) : Int32) = (((M' 70) (Int32.toNatClampNeg y)) : Int32) → vp_in x 24 ∧ mx g (d + 6) kX12_groups 102 [.ref 48, .int (p0), .int (c), .int (x), .int (y), .int (((M' 70) (Int32.toNatClampNeg x))), .int (0)] [] M' Q) ∧ ((((M' 70) (Int32.toNatClampNeg x)) : Int32) = (((M' 70) (Int32.toNatClampNeg y)) : Int32) → mx g (d + 6) kX12_groups 55 [.ref 48, .int (p0), .int (c), .int (x), .int ((y + 1)), .null, .null] [] M' Q))
    exact ⟨fun _ => skip (by rw [show tgB M p0 x.toInt.toNat y.toInt.toNat = false from decide_eq_false w, Bool.false_and]), fun v => absurd rfl v⟩
  rw [fr_ar j3 68 (fun _ => rfl), fr_ar j3 69 (fun _ => rfl), u4, u5] at w
  show ((1 : Int32) = 0 → mx g (d + 6) kX12_groups 55 [.ref 48, .int (p0), .int (c), .int (x), .int ((y + 1)), .null, .null] [] M' Q) ∧ (¬ (1 : Int32) = 0 → vp_in x 24 ∧ vp_in y 24 ∧ (¬ (((M' 70) (Int32.toNatClampNeg x)) : Int32) = (((M' 70) (Int32.toNatClampNeg y)) : Int32) → vp_in x 24 ∧ mx g (d + 6) kX12_groups 102 [.ref 48, .int (p0), .int (c), .int (x), .int (y), .int (((M' 70) (Int32.toNatClampNeg x))), .int (0)] [] M' Q) ∧ ((((M' 70) (Int32.toNatClampNeg x)) : Int32) = (((M' 70) (Int32.toNatClampNeg y)) : Int32) → mx g (d + 6) kX12_groups 55 [.ref 48, .int (p0), .int (c), .int (x), .int ((y + 1)), .null, .null] [] M' Q))
  refine ⟨fun v => absurd v (by decide), fun _ => ⟨xin, yin, fun e => ⟨xin, ?_⟩, fun e => skip ?_⟩⟩
  rotate_left
  · rw [exy.mp e, Bool.not_true, Bool.and_false]
  have ne : S.1 x.toInt.toNat y.toInt.toNat = false := by
    cases h : S.1 x.toInt.toNat y.toInt.toNat
    · rfl
    · exact absurd (exy.mpr h) e
  unfold mrg at hup2
  rw [if_pos (by rw [ne, show tgB M p0 x.toInt.toNat y.toInt.toNat = true from decide_eq_true w]; rfl)] at hup2
  have m7 := j3 48 32 rfl
  refine mx_wf (fun t : Int32 => [.ref 48, .int p0, .int c, .int x, .int y, .int (M' 70 x.toNatClampNeg), .int t]) (fun t M2 => 0 ≤ t.toInt ∧ t.toInt ≤ (M 30 7).toInt ∧ fr (fL [70]) M' M2 ∧ ∀ i : Nat, M2 70 i = if (i : Int) < t.toInt ∧ M' 70 i = M' 70 x.toInt.toNat then M' 70 y.toInt.toNat else M' 70 i) (fun t => ((M 30 7).toInt - t.toInt).toNat) ?_ 0 M' ⟨by decide, u8, fr_rfl, fun i => by rw [n_0, if_neg (fun v => by omega)]⟩
  intro t M2 ⟨t1, t2, t3, t4⟩ ih3
  refine mx_go 250 zq_t196 ?_
  show (((M2 48 32) : Int32) ≤ (t : Int32) → mx g (d + 6) kX12_groups 55 [.ref 48, .int (p0), .int ((c + (-1))), .int (x), .int ((y + 1)), .null, .null] [] M2 Q) ∧ (¬ ((M2 48 32) : Int32) ≤ (t : Int32) → vp_in t 24 ∧ (¬ (((M2 70) (Int32.toNatClampNeg t)) : Int32) = ((M' 70 x.toNatClampNeg) : Int32) → vp_in t 24 ∧ vp_in t 24 ∧ mx g (d + 6) kX12_groups 102 [.ref 48, .int (p0), .int (c), .int (x), .int (y), .int ((M' 70 x.toNatClampNeg)), .int ((t + 1))] [] (zq_ma M2 70 (upd (M2 70) (Int32.toNatClampNeg t) ((M2 70) (Int32.toNatClampNeg t)))) Q) ∧ ((((M2 70) (Int32.toNatClampNeg t)) : Int32) = ((M' 70 x.toNatClampNeg) : Int32) → vp_in y 24 ∧ vp_in t 24 ∧ mx g (d + 6) kX12_groups 102 [.ref 48, .int (p0), .int (c), .int (x), .int (y), .int ((M' 70 x.toNatClampNeg)), .int ((t + 1))] [] (zq_ma M2 70 (upd (M2 70) (Int32.toNatClampNeg t) ((M2 70) (Int32.toNatClampNeg y)))) Q))
  rw [t3 48 32 rfl, m7, u1]
  refine ⟨fun v => ?_, fun v => ?_⟩
  · rw [n_le] at v
    refine ih2 _ (y + 1) M2 (by omega) ⟨by omega, by omega, fr_trans j3 t3, by rw [hup2, j4], ?_⟩
    rw [hup2]
    have t5 : ∀ i : Nat, (i : Int) < (M 30 7).toInt → M2 70 i = if M' 70 i = M' 70 x.toInt.toNat then M' 70 y.toInt.toNat else M' 70 i := by
      intro i hi
      rw [t4 i]
      by_cases c : M' 70 i = M' 70 x.toInt.toNat
      · rw [if_pos ⟨by omega, c⟩, if_pos c]
      · rw [if_neg (fun z => c z.2), if_neg c]
    intro i j hi hj
    exact mr_ji (j5 i j hi hj) (j5 i _ hi (by omega)) (j5 j _ hj (by omega)) (j5 i _ hi (by omega)) (j5 j _ hj (by omega)) (t5 i hi) (t5 j hj)
  rw [n_le] at v
  have upt := n_up (n := M 30 7) (x := t) t1 (by omega)
  have tin : vp_in t 24 := n_in t1 (by omega)
  have et : M2 70 t.toNatClampNeg = M' 70 t.toInt.toNat := by rw [t4, if_neg (fun z => by rw [n_cl] at z; omega)]; rfl
  have ey : M2 70 y.toNatClampNeg = M' 70 y.toInt.toNat := by
    rw [t4, if_neg (fun z => e z.2.symm)]
    rfl
  rw [et, ey]
  refine ⟨tin, fun w2 => ⟨tin, tin, ?_⟩, fun w2 => ⟨yin, tin, ?_⟩⟩
  · refine ih3 (t + 1) _ (by omega) ⟨by omega, by omega, fr_ma t3 (fun _ => rfl), fun i => ?_⟩
    show upd (M2 70) t.toNatClampNeg (M' 70 t.toInt.toNat) i = _
    by_cases c : i = t.toNatClampNeg
    · subst c
      rw [upd_eq, if_neg (fun z => w2 z.2)]
      rfl
    · rw [upd_ne c, t4 i]
      rw [n_cl] at c
      by_cases c3 : M' 70 i = M' 70 x.toInt.toNat
      · by_cases c2 : (i : Int) < t.toInt
        · rw [if_pos ⟨c2, c3⟩, if_pos ⟨by omega, c3⟩]
        · rw [if_neg (fun z => c2 z.1), if_neg (fun z => by omega)]
      · rw [if_neg (fun z => c3 z.2), if_neg (fun z => c3 z.2)]
  · refine ih3 (t + 1) _ (by omega) ⟨by omega, by omega, fr_ma t3 (fun _ => rfl), fun i => ?_⟩
    show upd (M2 70) t.toNatClampNeg (M' 70 y.toInt.toNat) i = _
    by_cases c : i = t.toNatClampNeg
    · subst c
      rw [upd_eq, if_pos ⟨by rw [n_cl]; omega, w2⟩]
    · rw [upd_ne c, t4 i]
      rw [n_cl] at c
      by_cases c3 : M' 70 i = M' 70 x.toInt.toNat
      · by_cases c2 : (i : Int) < t.toInt
        · rw [if_pos ⟨c2, c3⟩, if_pos ⟨by omega, c3⟩]
        · rw [if_neg (fun z => c2 z.1), if_neg (fun z => by omega)]
      · rw [if_neg (fun z => c3 z.2), if_neg (fun z => c3 z.2)]
theorem op_groups {g : zq_G} {d : Nat} {M : zq_M} {p0 : Int32} (hR : RR M) : pri g (d + 6) kX11_groups kX12_groups [.ref 0, .int p0] [.ref 48, .int p0, .null, .null, .null, .null, .null] M := by
  refine q_op (F_grp p0) hR (fun M' v v' hf h h' => ?_) (fun Q hq => x_grp hR hq) (fun M' Q hR' hq => m_grp hR' hq)
  unfold F_grp at h h'
  rw [grO_fr hf, hf 30 7 rfl] at h'
  exact orB_un h h' Iff.rfl (fun _ => rfl)
