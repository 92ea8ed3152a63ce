/-! order -/
def fst (f : Nat → Bool) : Nat → Nat → Int32
  | 0, _ => -1
  | m + 1, i => if f i = true then nI i else fst f m (i + 1)
theorem fst_b {f : Nat → Bool} : ∀ m i : Nat, i + m ≤ 24 → fst f m i = -1 ∨ (0 ≤ (fst f m i).toInt ∧ (fst f m i).toInt < i + m)
  | 0, i, _ => Or.inl rfl
  | m + 1, i, h => by
    unfold fst
    split
    · right
      rw [n_nI (by omega)]
      omega
    · rcases fst_b (f := f) m (i + 1) (by omega) with e | e
      · exact Or.inl e
      · right; omega
theorem fst_x {f : Nat → Bool} {n x : Int32} (x1 : 0 ≤ x.toInt) (h : ¬ n.toInt ≤ x.toInt) (up : (x + 1).toInt = x.toInt + 1) : fst f (n.toInt - x.toInt).toNat x.toInt.toNat = if f x.toInt.toNat = true then x else fst f (n.toInt - (x + 1).toInt).toNat (x + 1).toInt.toNat := by
  rw [up, show (n.toInt - x.toInt).toNat = (n.toInt - (x.toInt + 1)).toNat + 1 by omega, show (x.toInt + 1).toNat = x.toInt.toNat + 1 by omega]
  conv => lhs; unfold fst
  rw [← n_of x1]
theorem fst_e {f : Nat → Bool} {n x : Int32} (h : n.toInt ≤ x.toInt) : fst f (n.toInt - x.toInt).toNat x.toInt.toNat = -1 := by
  rw [show (n.toInt - x.toInt).toNat = 0 by omega]
  rfl
/-- cross k says that t lies over a track that is not placed -/
def ovC (M : zq_M) (pl : Nat → Bool) (t k : Nat) : Bool := decide (M 34 k = nI t) && !(pl (M 35 k).toInt.toNat)
def freB (M : zq_M) (pl : Nat → Bool) (t : Nat) : Bool := !pl t && !exB (ovC M pl t) (M 30 8).toInt.toNat
def orS (M : zq_M) : Nat → (Nat → Bool) → Int32 → Int32
  | 0, _, t => t
  | m + 1, pl, _ => if fst (freB M pl) (M 30 7).toInt.toNat 0 = -1 then -1 else orS M m (fun i => pl i || decide (i = (fst (freB M pl) (M 30 7).toInt.toNat 0).toInt.toNat)) (fst (freB M pl) (M 30 7).toInt.toNat 0)
theorem freB_fr {M M' : zq_M} {pl : Nat → Bool} (hf : fr (fL sL) M M') : freB M' pl = freB M pl := by
  funext t
  unfold freB
  rw [hf 30 8 rfl, show ovC M' pl t = ovC M pl t from funext fun k => by unfold ovC; rw [fr_ar hf 34 (fun _ => rfl), fr_ar hf 35 (fun _ => rfl)]]
theorem orS_fr {M M' : zq_M} (hf : fr (fL sL) M M') : ∀ (m : Nat) (pl : Nat → Bool) (t : Int32), orS M' m pl t = orS M m pl t
  | 0, _, _ => rfl
  | m + 1, pl, t => by
    unfold orS
    rw [freB_fr hf, hf 30 7 rfl, orS_fr hf m]
def F_ord (p0 : Int32) (M : zq_M) (v : Int32) : Prop := orB (inR p0.toInt (M 30 7).toInt) (orS M (p0.toInt.toNat + 1) (fun _ => false) (-1)) (-2) v
theorem c_X9_lies {g : zq_G} {d : Nat} {M : zq_M} {Q : Option Value → zq_M → Prop} {t : Int32} {pl : Nat → Bool} (hR : R5 M) (t1 : 0 ≤ t.toInt) (hp : ∀ i : Nat, (i : Int) < (M 30 7).toInt → M 37 i = bI (pl i)) (h1 : exB (ovC M pl t.toInt.toNat) (M 30 8).toInt.toNat = true → True → Q (some (.int 1)) M) (h0 : exB (ovC M pl t.toInt.toNat) (M 30 8).toInt.toNat = false → Q (some (.int 0)) M) : mx g d kX9_liesOverUnplaced 0 [.ref 30, .int t, .null] [] M Q := by
  obtain ⟨u1, u2, u3, u4, u5, u6, u7, u8, u9, u10, u11, u12, u13, u14, u15, u16, u17⟩ := id hR.2.2.2.1
  refine mx_go 250 zq_t85 ?_
  show mx g (d) kX9_liesOverUnplaced 2 [.ref 30, .int (t), .int (0)] [] M Q
  refine mx_wf (fun x : Int32 => [.ref 30, .int t, .int x]) (fun x M' => 0 ≤ x.toInt ∧ x.toInt ≤ (M 30 8).toInt ∧ M' = M ∧ ∀ i : Nat, (i : Int) < x.toInt → ovC M pl t.toInt.toNat i = false) (fun x => ((M 30 8).toInt - x.toInt).toNat) ?_ 0 M ⟨by decide, u10, rfl, fun i hi => by rw [n_0] at hi; omega⟩
  intro x M' ⟨i1, i2, i3, i4⟩ ih
  subst i3
  refine mx_go 250 zq_t85 ?_
  show (((M' 30 8) : Int32) ≤ (x : Int32) → zq_b 0 ∧ Q (some (.int 0)) M') ∧ (¬ ((M' 30 8) : Int32) ≤ (x : Int32) → vp_in x 20 ∧ (¬ (((M' 34) (Int32.toNatClampNeg x)) : Int32) = (t : Int32) → mx g (d) kX9_liesOverUnplaced 2 [.ref 30, .int (t), .int ((x + 1))] [] M' Q) ∧ ((((M' 34) (Int32.toNatClampNeg x)) : Int32) = (t : Int32) → vp_in x 20 ∧ vp_in ((M' 35) (Int32.toNatClampNeg x)) 24 ∧ (¬ (((M' 37) (Int32.toNatClampNeg ((M' 35) (Int32.toNatClampNeg x)))) : Int32) = 0 → mx g (d) kX9_liesOverUnplaced 2 [.ref 30, .int (t), .int ((x + 1))] [] M' Q) ∧ ((((M' 37) (Int32.toNatClampNeg ((M' 35) (Int32.toNatClampNeg x)))) : Int32) = 0 → zq_b 1 ∧ Q (some (.int 1)) M')))
  refine ⟨fun q => ⟨Or.inl rfl, h0 ?_⟩, fun q => ?_⟩
  · rw [n_le] at q
    exact exB_f _ (fun i hi => i4 i (by omega))
  rw [n_le] at q
  have up := n_up (n := M' 30 8) i1 (by omega)
  have xin : vp_in x 20 := n_in i1 (by omega)
  have ux := u17 x.toInt.toNat (by omega)
  have uy := u16 x.toInt.toNat
  have hpu := hp (M' 35 x.toInt.toNat).toInt.toNat (by omega)
  have goon : ovC M' pl t.toInt.toNat x.toInt.toNat = false → mx g d kX9_liesOverUnplaced 2 [.ref 30, .int t, .int (x + 1)] [] M' Q := by
    intro ov
    refine ih (x + 1) M' (by omega) ⟨by omega, by omega, rfl, fun i hi => ?_⟩
    by_cases c : i = x.toInt.toNat
    · rw [c]; exact ov
    · exact i4 i (by omega)
  unfold ovC at goon
  rw [← n_of t1] at goon
  refine ⟨xin, fun z => goon ?_, fun z => ⟨xin, show vp_in (M' 35 x.toInt.toNat) 24 from n_in uy.1 (by omega), fun y => goon ?_, fun y => ⟨Or.inr rfl, h1 ?_ trivial⟩⟩⟩
  · rw [decide_eq_false (show ¬ M' 34 x.toInt.toNat = t from z), Bool.false_and]
  · rw [show M' 37 (M' 35 x.toNatClampNeg).toNatClampNeg = bI (pl (M' 35 x.toInt.toNat).toInt.toNat) from hpu, bI_ne] at y
    rw [y, Bool.not_true, Bool.and_false]
  · rw [show M' 37 (M' 35 x.toNatClampNeg).toNatClampNeg = bI (pl (M' 35 x.toInt.toNat).toInt.toNat) from hpu, bI_eq] at y
    refine exB_t (i := x.toInt.toNat) (by omega) ?_
    unfold ovC
    rw [← n_of t1, decide_eq_true (show M' 34 x.toInt.toNat = t from z), y]
    rfl
theorem c_X9_leastFree {g : zq_G} {d : Nat} {M : zq_M} {Q : Option Value → zq_M → Prop} {pl : Nat → Bool} (hR : R5 M) (hp : ∀ i : Nat, (i : Int) < (M 30 7).toInt → M 37 i = bI (pl i)) (hq : Q (some (.int (fst (freB M pl) (M 30 7).toInt.toNat 0))) M) : mx g (d + 1) kX9_leastFree 0 [.ref 30, .null] [] M Q := by
  obtain ⟨u1, u2, u3, u4, u5, u6, u7, u8, u9, u10, u11, u12, u13, u14, u15, u16, u17⟩ := id hR.2.2.2.1
  refine mx_go 250 zq_t84 ?_
  show mx g (d + 1) kX9_leastFree 2 [.ref 30, .int (0)] [] M Q
  refine mx_wf (fun x : Int32 => [.ref 30, .int x]) (fun x M' => 0 ≤ x.toInt ∧ x.toInt ≤ (M 30 7).toInt ∧ M' = M ∧ fst (freB M pl) (M 30 7).toInt.toNat 0 = fst (freB M pl) ((M 30 7).toInt - x.toInt).toNat x.toInt.toNat) (fun x => ((M 30 7).toInt - x.toInt).toNat) ?_ 0 M ⟨by decide, u8, rfl, by rw [n_0, Int.sub_zero]; rfl⟩
  intro x M' ⟨i1, i2, i3, i4⟩ ih
  subst i3
  refine mx_go 250 zq_t84 ?_
  show (((M' 30 7) : Int32) ≤ (x : Int32) → Q (some (.int (-1))) M') ∧ (¬ ((M' 30 7) : Int32) ≤ (x : Int32) → vp_in x 24 ∧ (¬ (((M' 37) (Int32.toNatClampNeg x)) : Int32) = 0 → mx g (d + 1) kX9_leastFree 2 [.ref 30, .int ((x + 1))] [] M' Q) ∧ ((((M' 37) (Int32.toNatClampNeg x)) : Int32) = 0 → mx g (d) kX9_liesOverUnplaced 0 [.ref 30, .int (x), .null] [] M' _))
  refine ⟨fun q => ?_, fun q => ?_⟩
  · rw [n_le] at q
    rw [i4, fst_e q] at hq
    exact hq
  rw [n_le] at q
  have up := n_up (n := M' 30 7) i1 (by omega)
  rw [fst_x i1 q up] at i4
  have hpx := hp x.toInt.toNat (by omega)
  have goon : freB M' pl x.toInt.toNat = false → mx g (d + 1) kX9_leastFree 2 [.ref 30, .int (x + 1)] [] M' Q := by
    intro ov
    rw [if_neg (by rw [ov]; decide)] at i4
    exact ih (x + 1) M' (by omega) ⟨by omega, by omega, rfl, i4⟩
  have stop : freB M' pl x.toInt.toNat = true → Q (some (.int x)) M' := by
    intro ov
    rw [i4, if_pos ov] at hq
    exact hq
  unfold freB at goon stop
  refine ⟨n_in i1 (by omega), fun z => goon ?_, fun z => ?_⟩
  · rw [show M' 37 x.toNatClampNeg = bI (pl x.toInt.toNat) from hpx, bI_ne] at z
    rw [z]
    rfl
  rw [show M' 37 x.toNatClampNeg = bI (pl x.toInt.toNat) from hpx, bI_eq] at z
  refine c_X9_lies hR i1 hp (fun c _ => ?_) (fun c => ?_)
  · show (¬ (1 : Int32) = 0 → mx g (d + 1) kX9_leastFree 2 [.ref 30, .int ((x + 1))] [] M' Q) ∧ ((1 : Int32) = 0 → Q (some (.int x)) M')
    exact ⟨fun _ => goon (by rw [z, c]; rfl), fun y => absurd y (by decide)⟩
  · show (¬ (0 : Int32) = 0 → mx g (d + 1) kX9_leastFree 2 [.ref 30, .int ((x + 1))] [] M' Q) ∧ ((0 : Int32) = 0 → Q (some (.int x)) M')
    exact ⟨fun y => absurd rfl y, fun _ => stop (by rw [z, c]; rfl)⟩
theorem x_ord {g : zq_G} {d : Nat} {M : zq_M} {Q : Option Value → zq_M → Prop} {p0 : Int32} (hR : RR M) (hq : ∀ (v : Int32) (M' : zq_M), fr (fL sL) M M' → F_ord p0 M v → Q (some (.int v)) M') : mx g (d + 6) kX11_order 0 [.ref 0, .int p0] [] M Q := by
  have hR5 := RR_5 hR
  obtain ⟨u1, u2, u3, u4, u5, u6, u7, u8, u9, u10, u11, u12, u13, u14, u15, u16, u17⟩ := id hR5.2.2.2.1
  unfold F_ord at hq
  have hbad : ¬ inR p0.toInt (M 30 7).toInt → Q (some (.int (-2))) M := fun z => hq _ M fr_rfl (Or.inr ⟨z, rfl⟩)
  unfold inR at *
  refine mx_go 250 zq_t113 ?_
  show mx g (d + 5) kX9_has 0 [.ref 30, .int (p0)] [] M _
  refine c_X9_has (n := M 30 7) rfl (fun k1 k2 => ?_) (fun k1 => ?_)
  rotate_left
  · show (¬ (0 : Int32) = 0 → mx g (d + 5) kX9_inOrder 0 [.ref 30, .int (p0), .null, .null] [] M _) ∧ ((0 : Int32) = 0 → Q (some (.int (-2))) M)
    exact ⟨fun z => absurd rfl z, fun _ => hbad (by omega)⟩
  show (¬ (1 : Int32) = 0 → mx g (d + 5) kX9_inOrder 0 [.ref 30, .int (p0), .null, .null] [] M _) ∧ ((1 : Int32) = 0 → Q (some (.int (-2))) M)
  refine ⟨fun _ => ?_, fun z => absurd z (by decide)⟩
  replace hq := fun v M' hf hv => hq v M' hf (Or.inl ⟨by omega, hv⟩)
  refine mx_q (fun Q1 hQ1 => ?_)
  replace hQ1 := fun v M' hf hv => hQ1 (some (.int v)) M' (hq v M' hf hv)
  refine mx_go 250 zq_t83 ?_
  show mx g (d + 5) kX9_inOrder 2 [.ref 30, .int (p0), .int (0), .null] [] M Q1
  refine mx_wf (fun x : Int32 => [.ref 30, .int p0, .int x, .null]) (fun x M' => 0 ≤ x.toInt ∧ x.toInt ≤ (M 30 7).toInt ∧ fr (fL [37]) M M' ∧ ∀ i : Nat, (i : Int) < x.toInt → M' 37 i = 0) (fun x => ((M 30 7).toInt - x.toInt).toNat) ?_ 0 M ⟨by decide, u8, fr_rfl, fun i hi => by rw [n_0] at hi; omega⟩
  intro x M' ⟨i1, i2, i3, i4⟩ ih
  refine mx_go 250 zq_t83 ?_
  show (((M' 30 7) : Int32) ≤ (x : Int32) → mx g (d + 5) kX9_inOrder 27 [.ref 30, .int (p0), .int ((-1)), .int (0)] [] M' Q1) ∧ (¬ ((M' 30 7) : Int32) ≤ (x : Int32) → vp_in x 24 ∧ mx g (d + 5) kX9_inOrder 2 [.ref 30, .int (p0), .int ((x + 1)), .null] [] (zq_ma M' 37 (upd (M' 37) (Int32.toNatClampNeg x) (vp_nar .boolean 0))) Q1)
  rw [i3 30 7 rfl]
  refine ⟨fun q => ?_, fun q => ?_⟩
  rotate_left
  · rw [n_le] at q
    have up := n_up (n := M 30 7) i1 (by omega)
    refine ⟨n_in i1 (by omega), ih (x + 1) _ (by omega) ⟨by omega, by omega, fr_ma i3 (fun _ => rfl), fun i hi => ?_⟩⟩
    show upd (M' 37) x.toNatClampNeg (vp_nar .boolean 0) i = 0
    by_cases c : i = x.toNatClampNeg
    · rw [c, upd_eq]; decide
    · rw [upd_ne c]
      rw [n_cl] at c
      exact i4 i (by omega)
  rw [n_le] at q
  rw [show x.toInt = (M 30 7).toInt by omega] at i4
  have f0 : fr (fL sL) M M' := fr_sub i3 (by decide)
  have p1 : p0.toInt.toNat + 1 = (p0.toInt + 1 - (0 : Int32).toInt).toNat := by rw [n_0]; omega
  have hst : orS M (p0.toInt.toNat + 1) (fun _ => false) (-1) = orS M (p0.toInt + 1 - (0 : Int32).toInt).toNat (fun _ => false) (-1) := by rw [← p1]
  clear ih i3 q i2 i1
  refine mx_wf2 (fun t x : Int32 => [.ref 30, .int p0, .int t, .int x]) (fun t x M' => 0 ≤ x.toInt ∧ x.toInt ≤ p0.toInt + 1 ∧ fr (fL sL) M M' ∧ ∃ pl : Nat → Bool, (∀ i : Nat, (i : Int) < (M 30 7).toInt → M' 37 i = bI (pl i)) ∧ orS M (p0.toInt.toNat + 1) (fun _ => false) (-1) = orS M (p0.toInt + 1 - x.toInt).toNat pl t) (fun _ x => (p0.toInt + 1 - x.toInt).toNat) ?_ (-1) 0 M' ⟨by decide, by rw [n_0]; omega, f0, fun _ => false, fun i hi => i4 i hi, hst⟩
  clear hst p1 i4 f0
  clear M'
  intro t x M' ⟨i1, i2, i3, pl, i4, i5⟩ ih
  refine mx_go 250 zq_t83 ?_
  show ((p0 : Int32) < (x : Int32) → Q1 (some (.int t)) M') ∧ (¬ (p0 : Int32) < (x : Int32) → mx g (d + 4) kX9_leastFree 0 [.ref 30, .null] [] M' _)
  refine ⟨fun q => ?_, fun q => ?_⟩
  · rw [n_lt] at q
    rw [show (p0.toInt + 1 - x.toInt).toNat = 0 by omega] at i5
    exact hQ1 _ M' i3 i5.symm
  rw [n_lt] at q
  have up := n_up (n := M 30 7) (x := x) i1 (by omega)
  rw [show (p0.toInt + 1 - x.toInt).toNat = (p0.toInt + 1 - (x + 1).toInt).toNat + 1 by omega] at i5
  conv at i5 => rhs; unfold orS
  refine c_X9_leastFree (R5_fr i3 hR5) (by rw [i3 30 7 rfl]; exact i4) ?_
  rw [freB_fr i3, i3 30 7 rfl]
  have fb := fst_b (f := freB M pl) (M 30 7).toInt.toNat 0 (by omega)
  generalize fst (freB M pl) (M 30 7).toInt.toNat 0 = r at i5 fb ⊢
  show (¬ (r : Int32) = ((-1) : Int32) → vp_in r 24 ∧ mx g (d + 5) kX9_inOrder 27 [.ref 30, .int (p0), .int (r), .int ((x + 1))] [] (zq_ma M' 37 (upd (M' 37) (Int32.toNatClampNeg r) (vp_nar .boolean 1))) Q1) ∧ ((r : Int32) = ((-1) : Int32) → Q1 (some (.int (-1))) M')
  refine ⟨fun z => ?_, fun z => ?_⟩
  · rw [if_neg z] at i5
    rcases fb with e | e
    · exact absurd e z
    refine ⟨n_in e.1 (by omega), ih r (x + 1) _ (by omega) ⟨by omega, by omega, fr_ma i3 (fun _ => rfl), _, fun i hi => ?_, i5⟩⟩
    show upd (M' 37) r.toNatClampNeg (vp_nar .boolean 1) i = _
    by_cases c : i = r.toNatClampNeg
    · rw [c, upd_eq, decide_eq_true (show r.toNatClampNeg = r.toInt.toNat from rfl), Bool.or_true]; decide
    · rw [upd_ne c, i4 i hi, decide_eq_false (show ¬ i = r.toInt.toNat from c), Bool.or_false]
  · rw [if_pos z] at i5
    exact hQ1 _ M' i3 i5.symm

theorem c_X12_eldest {g : zq_G} {d : Nat} {M : zq_M} {Q : Option Value → zq_M → Prop} {w : Int32} {pl : Nat → Bool} (hR : R5 M) (hp : ∀ i : Nat, i < 24 → bt w i = pl i) (hq : Q (some (.int (fst (freB M pl) (M 30 7).toInt.toNat 0))) M) : mx g d kX12_eldest 0 [.ref 48, .int w, .null, .null, .null] [] M Q := by
  obtain ⟨u1, u2, u3, u4, u5, u6, u7, u8, u9, u10, u11, u12, u13, u14, u15, u16, u17⟩ := id hR.2.2.2.1
  refine mx_go 250 zq_t213 ?_
  show mx g (d) kX12_eldest 2 [.ref 48, .int (w), .int (0), .null, .null] [] M Q
  refine mx_wf (fun x : Int32 => [.ref 48, .int w, .int x, .null, .null]) (fun x M' => 0 ≤ x.toInt ∧ x.toInt ≤ (M 30 7).toInt ∧ M' = M ∧ fst (freB M pl) (M 30 7).toInt.toNat 0 = fst (freB M pl) ((M 30 7).toInt - x.toInt).toNat x.toInt.toNat) (fun x => ((M 30 7).toInt - x.toInt).toNat) ?_ 0 M ⟨by decide, u8, rfl, by rw [n_0, Int.sub_zero]; rfl⟩
  intro x M' ⟨i1, i2, i3, i4⟩ ih
  subst i3
  refine mx_go 250 zq_t213 ?_
  show (((M' 48 32) : Int32) ≤ (x : Int32) → Q (some (.int (-1))) M') ∧ (¬ ((M' 48 32) : Int32) ≤ (x : Int32) → (¬ (((w >>> (x &&& 31)) &&& 1) : Int32) = 0 → mx g (d) kX12_eldest 27 [.ref 48, .int (w), .int (x), .int (0), .int (0)] [] M' Q) ∧ ((((w >>> (x &&& 31)) &&& 1) : Int32) = 0 → mx g (d) kX12_eldest 27 [.ref 48, .int (w), .int (x), .int (1), .int (0)] [] M' Q))
  rw [u1]
  refine ⟨fun q => ?_, fun q => ?_⟩
  · rw [n_le] at q
    rw [i4, fst_e q] at hq
    exact hq
  rw [n_le] at q
  have up := n_up (n := M' 30 7) i1 (by omega)
  rw [fst_x i1 q up] at i4
  have bx : ((w >>> (x &&& 31)) &&& 1) = bI (pl x.toInt.toNat) := by
    have := bitA (x := w) (i := x.toInt.toNat) (by omega)
    rw [← n_of i1, hp _ (by omega)] at this
    exact this
  rw [bx]
  have loop : ∀ a : Bool, a = !pl x.toInt.toNat → mx g d kX12_eldest 27 [.ref 48, .int w, .int x, .int (bI a), .int 0] [] M' Q := by
    intro a ea
    refine mx_wf2 (fun (a : Int32) (y : Int32) => [.ref 48, .int w, .int x, .int a, .int y]) (fun a y M2 => 0 ≤ y.toInt ∧ y.toInt ≤ (M' 30 8).toInt ∧ M2 = M' ∧ a = bI (!pl x.toInt.toNat && !exB (ovC M' pl x.toInt.toNat) y.toInt.toNat)) (fun _ y => ((M' 30 8).toInt - y.toInt).toNat) ?_ (bI a) 0 M' ⟨by decide, u10, rfl, by rw [n_0, ea]; show bI (!pl x.toInt.toNat) = bI (!pl x.toInt.toNat && !false); rw [Bool.not_false, Bool.and_true]⟩
    intro a y M2 ⟨j1, j2, j3, j4⟩ ih2
    subst j3
    refine mx_go 250 zq_t213 ?_
    show (((M2 48 39) : Int32) ≤ (y : Int32) → ((a : Int32) = 0 → mx g (d) kX12_eldest 2 [.ref 48, .int (w), .int ((x + 1)), .null, .null] [] M2 Q) ∧ (¬ (a : Int32) = 0 → Q (some (.int x)) M2)) ∧ (¬ ((M2 48 39) : Int32) ≤ (y : Int32) → ((a : Int32) = 0 → mx g (d) kX12_eldest 27 [.ref 48, .int (w), .int (x), .int (0), .int ((y + 1))] [] M2 Q) ∧ (¬ (a : Int32) = 0 → vp_in y 20 ∧ (¬ (((M2 72) (Int32.toNatClampNeg y)) : Int32) = (x : Int32) → mx g (d) kX12_eldest 27 [.ref 48, .int (w), .int (x), .int (1), .int ((y + 1))] [] M2 Q) ∧ ((((M2 72) (Int32.toNatClampNeg y)) : Int32) = (x : Int32) → vp_in y 20 ∧ ((((w >>> (((M2 73) (Int32.toNatClampNeg y)) &&& 31)) &&& 1) : Int32) = 0 → mx g (d) kX12_eldest 27 [.ref 48, .int (w), .int (x), .int (0), .int ((y + 1))] [] M2 Q) ∧ (¬ (((w >>> (((M2 73) (Int32.toNatClampNeg y)) &&& 31)) &&& 1) : Int32) = 0 → mx g (d) kX12_eldest 27 [.ref 48, .int (w), .int (x), .int (1), .int ((y + 1))] [] M2 Q))))
    rw [u2, u6, u7]
    refine ⟨fun z => ?_, fun z => ?_⟩
    · rw [n_le] at z
      rw [show y.toInt = (M2 30 8).toInt by omega] at j4
      replace j4 : a = bI (freB M2 pl x.toInt.toNat) := j4
      rw [j4, bI_eq]
      refine ⟨fun c => ?_, fun c => ?_⟩
      · rw [if_neg (by rw [c]; decide)] at i4
        exact ih (x + 1) M2 (by omega) ⟨by omega, by omega, rfl, i4⟩
      · rw [i4, if_pos ((Bool.eq_false_or_eq_true _).resolve_right c)] at hq
        exact hq
    rw [n_le] at z
    have upy := n_up (n := M2 30 8) (x := y) j1 (by omega)
    have ex : exB (ovC M2 pl x.toInt.toNat) (y + 1).toInt.toNat = (exB (ovC M2 pl x.toInt.toNat) y.toInt.toNat || ovC M2 pl x.toInt.toNat y.toInt.toNat) := by
      rw [upy, show (y.toInt + 1).toNat = y.toInt.toNat + 1 by omega]
      rfl
    have uy := u16 y.toInt.toNat
    have yin : vp_in y 20 := n_in j1 (by omega)
    have ov : ovC M2 pl x.toInt.toNat y.toInt.toNat = (decide (M2 34 y.toInt.toNat = x) && !pl (M2 35 y.toInt.toNat).toInt.toNat) := by
      unfold ovC
      rw [← n_of i1]
    have by2 : ((w >>> (M2 35 y.toNatClampNeg &&& 31)) &&& 1) = bI (pl (M2 35 y.toInt.toNat).toInt.toNat) := by
      have := bitA (x := w) (i := (M2 35 y.toInt.toNat).toInt.toNat) (by omega)
      rw [← n_of uy.1, hp _ (by omega)] at this
      exact this
    rw [by2]
    have goon : ∀ b : Int32, b = bI (!pl x.toInt.toNat && !exB (ovC M2 pl x.toInt.toNat) (y + 1).toInt.toNat) → mx g d kX12_eldest 27 [.ref 48, .int w, .int x, .int b, .int (y + 1)] [] M2 Q := fun b hb => ih2 b (y + 1) M2 (by omega) ⟨by omega, by omega, rfl, hb⟩
    rw [ex, ov] at goon
    refine ⟨fun c => goon _ ?_, fun c => ⟨yin, fun e => goon _ ?_, fun e => ⟨yin, fun f => goon _ ?_, fun f => goon _ ?_⟩⟩⟩
    · rw [j4, bI_eq] at c
      cases h1 : pl x.toInt.toNat <;> cases h2 : exB (ovC M2 pl x.toInt.toNat) y.toInt.toNat <;> rw [h1, h2] at c <;> first | (exact absurd c (by decide)) | rfl
    · rw [j4, bI_ne] at c
      rw [decide_eq_false (show ¬ M2 34 y.toInt.toNat = x from e), Bool.false_and, Bool.or_false, c]
      rfl
    · rw [bI_eq] at f
      rw [decide_eq_true (show M2 34 y.toInt.toNat = x from e), f]
      cases pl x.toInt.toNat <;> cases exB (ovC M2 pl x.toInt.toNat) y.toInt.toNat <;> rfl
    · rw [bI_ne] at f
      rw [j4, bI_ne] at c
      rw [decide_eq_true (show M2 34 y.toInt.toNat = x from e), f, Bool.not_true, Bool.and_false, Bool.or_false, c]
      rfl
  refine ⟨fun z => loop false ?_, fun z => loop true ?_⟩
  · rw [bI_ne] at z
    rw [z]; rfl
  · rw [bI_eq] at z
    rw [z]; rfl
theorem m_ord {g : zq_G} {d : Nat} {M : zq_M} {Q : Option Value → zq_M → Prop} {p0 : Int32} (hR : RR M) (hq : ∀ (v : Int32) (M' : zq_M), fr (fL sL) M M' → F_ord p0 M v → Q (some (.int v)) M') : mx g (d + 6) kX12_order 0 [.ref 48, .int p0, .null, .null, .null] [] M Q := by
  have hR5 := RR_5 hR
  obtain ⟨u1, u2, u3, u4, u5, u6, u7, u8, u9, u10, u11, u12, u13, u14, u15, u16, u17⟩ := id hR5.2.2.2.1
  unfold F_ord at hq
  have hbad : ¬ inR p0.toInt (M 30 7).toInt → Q (some (.int (-2))) M := fun z => hq _ M fr_rfl (Or.inr ⟨z, rfl⟩)
  unfold inR at *
  refine mx_go 250 zq_t214 ?_
  show mx g (d + 5) kX12_isTrack 0 [.ref 48, .int (p0)] [] M _
  refine c_X12_isTrack (n := M 30 7) u1 u8 (fun k1 k2 => ?_) (fun k1 => ?_)
  rotate_left
  · show (¬ (0 : Int32) = 0 → mx g (d + 6) kX12_order 18 [.ref 48, .int (p0), .int (0), .int ((-1)), .int (0)] [] M Q) ∧ ((0 : Int32) = 0 → Q (some (.int (-2))) M)
    exact ⟨fun z => absurd rfl z, fun _ => hbad (by omega)⟩
  show (¬ (1 : Int32) = 0 → mx g (d + 6) kX12_order 18 [.ref 48, .int (p0), .int (0), .int ((-1)), .int (0)] [] M Q) ∧ ((1 : Int32) = 0 → Q (some (.int (-2))) M)
  refine ⟨fun _ => ?_, fun z => absurd z (by decide)⟩
  replace hq := fun v hv => hq v M fr_rfl (Or.inl ⟨by omega, hv⟩)
  have m1 : (-1 : Int32).toInt = -1 := by decide
  have p1 : p0.toInt.toNat + 1 = (p0.toInt + 1 - (0 : Int32).toInt).toNat := by rw [n_0]; omega
  refine mx_wf3 (fun w t x : Int32 => [.ref 48, .int p0, .int w, .int t, .int x]) (fun w t x M' => 0 ≤ x.toInt ∧ x.toInt ≤ p0.toInt + 1 ∧ M' = M ∧ ∃ pl : Nat → Bool, (∀ i : Nat, i < 24 → bt w i = pl i) ∧ orS M (p0.toInt.toNat + 1) (fun _ => false) (-1) = orS M (p0.toInt + 1 - x.toInt).toNat pl t) (fun _ _ x => (p0.toInt + 1 - x.toInt).toNat) ?_ 0 (-1) 0 M ⟨by decide, by rw [n_0]; omega, rfl, fun _ => false, fun i hi => b_0 i, by rw [← p1]⟩
  intro w t x M' ⟨i1, i2, i3, pl, i4, i5⟩ ih
  subst i3
  refine mx_go 250 zq_t214 ?_
  show ((p0 : Int32) < (x : Int32) → Q (some (.int t)) M') ∧ (¬ (p0 : Int32) < (x : Int32) → mx g (d + 5) kX12_eldest 0 [.ref 48, .int (w), .null, .null, .null] [] M' _)
  refine ⟨fun q => ?_, fun q => ?_⟩
  · rw [n_lt] at q
    rw [show (p0.toInt + 1 - x.toInt).toNat = 0 by omega] at i5
    exact hq _ i5.symm
  rw [n_lt] at q
  have up := n_up (n := M' 30 7) (x := x) i1 (by omega)
  rw [show (p0.toInt + 1 - x.toInt).toNat = (p0.toInt + 1 - (x + 1).toInt).toNat + 1 by omega] at i5
  conv at i5 => rhs; unfold orS
  refine c_X12_eldest hR5 i4 ?_
  have fb := fst_b (f := freB M' pl) (M' 30 7).toInt.toNat 0 (by omega)
  generalize fst (freB M' pl) (M' 30 7).toInt.toNat 0 = r at i5 fb ⊢
  show (0 ≤ (r : Int32) → mx g (d + 6) kX12_order 18 [.ref 48, .int (p0), .int ((w ||| ((1 : Int32) <<< (r &&& 31)))), .int (r), .int ((x + 1))] [] M' Q) ∧ (¬ 0 ≤ (r : Int32) → Q (some (.int (-1))) M')
  refine ⟨fun z => ?_, fun z => ?_⟩
  · rw [n_le, n_0] at z
    rcases fb with e | e
    · rw [e, m1] at z; omega
    rw [if_neg (fun y => by rw [y, m1] at z; omega)] at i5
    refine ih _ r (x + 1) M' (by omega) ⟨by omega, by omega, rfl, _, fun i hi => ?_, i5⟩
    have := bitS (k := r.toInt.toNat) (i := i) (by omega) (by omega)
    rw [← n_of e.1] at this
    rw [b_or, i4 i hi, this]
  · rw [n_le, n_0] at z
    rcases fb with e | e
    · rw [if_pos e] at i5
      exact hq _ i5.symm
    · omega
theorem op_order {g : zq_G} {d : Nat} {M : zq_M} {p0 : Int32} (hR : RR M) : pri g (d + 6) kX11_order kX12_order [.ref 0, .int p0] [.ref 48, .int p0, .null, .null, .null] M := by
  refine q_op (F_ord p0) hR (fun M' v v' hf h h' => ?_) (fun Q hq => x_ord hR hq) (fun M' Q hR' hq => m_ord hR' hq)
  unfold F_ord at h h'
  rw [orS_fr hf, hf 30 7 rfl] at h'
  exact orB_un h h' Iff.rfl (fun _ => rfl)
