theorem n_ix3 {a b c : Int32} (h1 : 0 ≤ a.toInt) (h2 : a.toInt ≤ 3) (h3 : 0 ≤ b.toInt) (h5 : 0 ≤ c.toInt) (h6 : b.toInt + c.toInt < 40) : (40 * a + b + c).toInt = 40 * a.toInt + b.toInt + c.toInt := by
  rw [n_add, n_ix h1 h2 h3 (by omega), zw_id (by omega) (by omega)]
theorem n_copy {a b c e n : Int32} (h1 : 0 ≤ a.toInt) (h2 : a.toInt ≤ 3) (h3 : 0 ≤ b.toInt) (h4 : 0 ≤ c.toInt) (h5 : c.toInt ≤ 3) (h6 : 0 ≤ e.toInt) (h7 : 0 ≤ n.toInt) (h8 : b.toInt + n.toInt ≤ 40) (h9 : e.toInt + n.toInt ≤ 40) : ¬ (a * 40 + b) < 0 ∧ ¬ (c * 40 + e) < 0 ∧ ¬ n < 0 ∧ (a * 40 + b).toNatClampNeg + n.toNatClampNeg ≤ 160 ∧ (c * 40 + e).toNatClampNeg + n.toNatClampNeg ≤ 160 := by
  have f40 : (40 : Int32).toInt = 40 := rfl
  have i1 : (a * 40 + b).toInt = 40 * a.toInt + b.toInt := by rw [n_add, n_mul, f40, zw_id (z := a.toInt * 40) (by omega) (by omega), zw_id (by omega) (by omega)]; omega
  have i2 : (c * 40 + e).toInt = 40 * c.toInt + e.toInt := by rw [n_add, n_mul, f40, zw_id (z := c.toInt * 40) (by omega) (by omega), zw_id (by omega) (by omega)]; omega
  simp only [n_lt, n_0, n_cl, i1, i2]
  omega
theorem c_X12_copy {g : zq_G} {d : Nat} {M : zq_M} {Q : Option Value → zq_M → Prop} {p0 p1 p2 p3 p4 : Int32} (h1 : 0 ≤ p0.toInt) (h2 : p0.toInt ≤ 3) (h3 : 0 ≤ p1.toInt) (h4 : 0 ≤ p2.toInt) (h5 : p2.toInt ≤ 3) (h6 : 0 ≤ p3.toInt) (h7 : 0 ≤ p4.toInt) (h8 : p1.toInt + p4.toInt ≤ 40) (h9 : p3.toInt + p4.toInt ≤ 40) (h : ∀ N : zq_M, (∀ j, N 77 j = va_cpy (M 77) (M 77) (40 * p0.toInt + p1.toInt).toNat (40 * p2.toInt + p3.toInt).toNat p4.toInt.toNat j) → Q (some (.int p4)) (mv [77, 78] N M)) : mx g d kX12_copy 105 [.ref 48, .int p0, .int p1, .int p2, .int p3, .int p4, .int 0] [] M Q := by
  refine mx_wf (fun x : Int32 => [.ref 48, .int p0, .int p1, .int p2, .int p3, .int p4, .int x]) (fun x M' => 0 ≤ x.toInt ∧ x.toInt ≤ p4.toInt ∧ fr (fL [78]) M M' ∧ ∀ k : Nat, (k : Int) < x.toInt → M' 78 k = M 77 ((40 * p0.toInt + p1.toInt).toNat + k)) (fun x => (p4.toInt - x.toInt).toNat) ?_ 0 M ⟨by decide, by rw [n_0]; omega, fr_rfl, fun k q => by rw [n_0] at q; omega⟩
  intro x M' ⟨i1, i2, i3, i4⟩ ih
  refine mx_go 60 zq_t226 ?_
  show ((p4 : Int32) ≤ (x : Int32) → mx g (d) kX12_copy 142 [.ref 48, .null, .null, .int (p2), .int (p3), .int (p4), .int (0)] [] M' Q) ∧ (¬ (p4 : Int32) ≤ (x : Int32) → vp_in (((40 * p0) + p1) + x) 160 ∧ vp_in x 40 ∧ mx g (d) kX12_copy 105 [.ref 48, .int (p0), .int (p1), .int (p2), .int (p3), .int (p4), .int ((x + 1))] [] (zq_ma M' 78 (upd (M' 78) (Int32.toNatClampNeg x) ((M' 77) (Int32.toNatClampNeg (((40 * p0) + p1) + x))))) Q)
  refine ⟨fun q => ?_, fun q => ?_⟩
  · rw [n_le] at q
    refine mx_wf (fun x : Int32 => [.ref 48, .null, .null, .int p2, .int p3, .int p4, .int x]) (fun x M1 => 0 ≤ x.toInt ∧ x.toInt ≤ p4.toInt ∧ fr (fL [77, 78]) M M1 ∧ M1 78 = M' 78 ∧ ∀ j : Nat, M1 77 j = va_cpy (M 77) (M 77) (40 * p0.toInt + p1.toInt).toNat (40 * p2.toInt + p3.toInt).toNat x.toInt.toNat j) (fun x => (p4.toInt - x.toInt).toNat) ?_ 0 M' ⟨by decide, by rw [n_0]; omega, fr_sub i3 (by decide), rfl, fun j => ?_⟩
    · intro y M1 ⟨j1, j2, j3, j4, j5⟩ ih2
      refine mx_go 60 zq_t226 ?_
      show ((p4 : Int32) ≤ (y : Int32) → Q (some (.int p4)) M1) ∧ (¬ (p4 : Int32) ≤ (y : Int32) → vp_in y 40 ∧ vp_in (((40 * p2) + p3) + y) 160 ∧ mx g (d) kX12_copy 142 [.ref 48, .null, .null, .int (p2), .int (p3), .int (p4), .int ((y + 1))] [] (zq_ma M1 77 (upd (M1 77) (Int32.toNatClampNeg (((40 * p2) + p3) + y)) ((M1 78) (Int32.toNatClampNeg y)))) Q)
      refine ⟨fun q2 => ?_, fun q2 => ?_⟩
      · rw [n_le] at q2
        rw [fr_mv j3]
        refine h M1 (fun j => ?_)
        rw [j5 j, show y.toInt = p4.toInt by omega]
      · rw [n_le] at q2
        have e := n_up (n := p4) j1 (by omega)
        have ix := n_ix3 h4 h5 h6 j1 (by omega)
        refine ⟨n_in j1 (by omega), n_in (by omega) (by omega), ih2 (y + 1) _ (by omega) ⟨by omega, by omega, fr_ma j3 (fun _ => rfl), j4, fun j => ?_⟩⟩
        show upd (M1 77) _ _ j = _
        by_cases c : j = (40 * p2 + p3 + y).toNatClampNeg
        · rw [c, upd_eq, j4, i4 _ (by rw [n_cl]; omega)]
          unfold va_cpy
          rw [n_cl, n_cl, ix, if_pos (by omega)]
          congr 1
          omega
        · rw [upd_ne c, j5 j]
          rw [n_cl] at c
          unfold va_cpy
          by_cases c2 : (40 * p2.toInt + p3.toInt).toNat ≤ j ∧ j < (40 * p2.toInt + p3.toInt).toNat + y.toInt.toNat
          · rw [if_pos c2, if_pos (by omega)]
          · rw [if_neg c2, if_neg (by omega)]
    · rw [fr_ar i3 77 (fun _ => rfl)]
      unfold va_cpy
      rw [if_neg (by rw [n_0]; omega)]
  · rw [n_le] at q
    have e := n_up (n := p4) i1 (by omega)
    have ix := n_ix3 h1 h2 h3 i1 (by omega)
    refine ⟨n_in (by omega) (by omega), n_in i1 (by omega), ih (x + 1) _ (by omega) ⟨by omega, by omega, fr_ma i3 (fun _ => rfl), fun k hk => ?_⟩⟩
    show upd (M' 78) _ _ k = _
    by_cases c : k = x.toNatClampNeg
    · rw [c, upd_eq, fr_ar i3 77 (fun _ => rfl)]
      rw [n_cl, n_cl, ix]
      congr 1
      omega
    · rw [upd_ne c]
      rw [n_cl] at c
      exact i4 k (by omega)
theorem gE_copy {so so' si si' ce it it2 : Nat → Int32} {p0 p1 p2 p3 p4 : Int32} (h : gE so so' si si' ce it) (h1 : 0 ≤ p0.toInt) (h2 : p0.toInt ≤ 3) (h3 : 0 ≤ p1.toInt) (h4 : 0 ≤ p2.toInt) (h5 : p2.toInt ≤ 3) (h6 : 0 ≤ p3.toInt) (h7 : 0 ≤ p4.toInt) (h8 : p1.toInt + p4.toInt ≤ (si p0.toNatClampNeg).toInt) (h9 : p3.toInt + p4.toInt ≤ (si p2.toNatClampNeg).toInt) (hi : ∀ j, it2 j = va_cpy it it (40 * p0.toInt + p1.toInt).toNat (40 * p2.toInt + p3.toInt).toNat p4.toInt.toNat j) : gE so so' si si' (va_cpy ce ce (p0 * 40 + p1).toNatClampNeg (p2 * 40 + p3).toNatClampNeg p4.toNatClampNeg) it2 := by
  obtain ⟨e1, e2, e3, e4, e5⟩ := h
  refine ⟨e1, e2, e3, e4, fun s i hs hb => ?_⟩
  have s0 := e4 p0.toNatClampNeg (by rw [n_cl]; omega)
  have s2 := e4 p2.toNatClampNeg (by rw [n_cl]; omega)
  have ss := e4 s hs
  have f40 : (40 : Int32).toInt = 40 := rfl
  have i1 : (p0 * 40 + p1).toInt = 40 * p0.toInt + p1.toInt := by rw [n_add, n_mul, f40, zw_id (z := p0.toInt * 40) (by omega) (by omega), zw_id (by omega) (by omega)]; omega
  have i2 : (p2 * 40 + p3).toInt = 40 * p2.toInt + p3.toInt := by rw [n_add, n_mul, f40, zw_id (z := p2.toInt * 40) (by omega) (by omega), zw_id (by omega) (by omega)]; omega
  rw [hi]
  simp only [n_cl, i1, i2]
  unfold va_cpy
  split
  · next q =>
    have := e5 p0.toInt.toNat (p1.toInt.toNat + (40 * s + i - (40 * p2.toInt + p3.toInt).toNat)) (by omega) (by
      rw [n_cl] at s0 s2 h8 h9
      omega)
    rw [show (40 * p0.toInt + p1.toInt).toNat + (40 * s + i - (40 * p2.toInt + p3.toInt).toNat) = 40 * p0.toInt.toNat + (p1.toInt.toNat + (40 * s + i - (40 * p2.toInt + p3.toInt).toNat)) by omega]
    exact this
  · exact e5 s i hs hb
set_option maxHeartbeats 4000000 in
theorem op_copy {g : zq_G} {d : Nat} {M : zq_M} {p0 p1 p2 p3 p4 : Int32} (hR : RR M) : pri g (d + 6) kX11_copy kX12_copy [.ref 0, .int (p0), .int (p1), .int (p2), .int (p3), .int (p4)] [.ref 48, .int (p0), .int (p1), .int (p2), .int (p3), .int (p4), .null] M := by
  obtain ⟨hS, hN, hH, hT, hP, hI, hE, hF, hX, hV⟩ := id hR
  obtain ⟨e1, e2, e3, e4, e5⟩ := id hE
  have bp0 : 0 ≤ p0.toInt → p0.toInt ≤ 3 → -1 ≤ (M 46 p0.toNatClampNeg).toInt ∧ (M 46 p0.toNatClampNeg).toInt ≤ 2 ∧ 0 ≤ (M 47 p0.toNatClampNeg).toInt ∧ (M 47 p0.toNatClampNeg).toInt ≤ 40 := fun a b => ⟨(e3 _ (by rw [n_cl]; omega)).1, (e3 _ (by rw [n_cl]; omega)).2, e4 _ (by rw [n_cl]; omega)⟩
  have bp2 : 0 ≤ p2.toInt → p2.toInt ≤ 3 → -1 ≤ (M 46 p2.toNatClampNeg).toInt ∧ (M 46 p2.toNatClampNeg).toInt ≤ 2 ∧ 0 ≤ (M 47 p2.toNatClampNeg).toInt ∧ (M 47 p2.toNatClampNeg).toInt ≤ 40 := fun a b => ⟨(e3 _ (by rw [n_cl]; omega)).1, (e3 _ (by rw [n_cl]; omega)).2, e4 _ (by rw [n_cl]; omega)⟩
  have r1 := n_rng p1
  have r3 := n_rng p3
  have r4 := n_rng p4
  refine mx_q (fun Qx hQx => ?_)
  refine mx_go 200 zq_t122 ?_
  show mx g (d + 5) kX11_isSheet 0 [.int (p0)] [] M _
  refine c_X11_isSheet (fun k1 k2 => ?_) (fun k3 => ?_)
  · show ((1 : Int32) = 0 → Qx (some (.int (-2))) M) ∧ (¬ (1 : Int32) = 0 → mx g (d + 5) kX11_isSheet 0 [.int (p2)] [] M _)
    refine ⟨fun q4 => absurd q4 (by decide), fun _ => ?_⟩
    refine c_X11_isSheet (fun k5 k6 => ?_) (fun k7 => ?_)
    · show (¬ (1 : Int32) = 0 → mx g (d + 5) kX6_isMissing 0 [.ref 44, .int (p0)] [] M _) ∧ ((1 : Int32) = 0 → Qx (some (.int (-2))) M)
      refine ⟨fun _ => ?_, fun q8 => absurd q8 (by decide)⟩
      refine mx_q (fun Q9 hQ9 => ?_)
      refine mx_go 200 zq_t49 ?_
      show vp_in p0 4 ∧ (¬ (((M 46) (Int32.toNatClampNeg p0)) : Int32) = ((-1) : Int32) → zq_b 0 ∧ Q9 (some (.int 0)) M) ∧ ((((M 46) (Int32.toNatClampNeg p0)) : Int32) = ((-1) : Int32) → zq_b 1 ∧ Q9 (some (.int 1)) M)
      refine ⟨(n_in (by (simp only [e1, e2, n_lt, n_le, n_eq, n_add, n_sub, n_mul, n_neg, n_lit, zw] at *; omega)) (by (simp only [e1, e2, n_lt, n_le, n_eq, n_add, n_sub, n_mul, n_neg, n_lit, zw] at *; omega))), ?_⟩
      refine ⟨fun q10 => ?_, fun q10 => ?_⟩
      · refine ⟨(by first | exact Or.inl rfl | exact Or.inr rfl), ?_⟩
        refine hQ9 _ _ ?_
        show (¬ (0 : Int32) = 0 → Qx (some (.int (-11))) M) ∧ ((0 : Int32) = 0 → mx g (d + 5) kX6_isMissing 0 [.ref 44, .int (p2)] [] M _)
        refine ⟨fun q11 => absurd q11 (by decide), fun _ => ?_⟩
        refine mx_q (fun Q12 hQ12 => ?_)
        refine mx_go 200 zq_t49 ?_
        show vp_in p2 4 ∧ (¬ (((M 46) (Int32.toNatClampNeg p2)) : Int32) = ((-1) : Int32) → zq_b 0 ∧ Q12 (some (.int 0)) M) ∧ ((((M 46) (Int32.toNatClampNeg p2)) : Int32) = ((-1) : Int32) → zq_b 1 ∧ Q12 (some (.int 1)) M)
        refine ⟨(n_in (by (simp only [e1, e2, n_lt, n_le, n_eq, n_add, n_sub, n_mul, n_neg, n_lit, zw] at *; omega)) (by (simp only [e1, e2, n_lt, n_le, n_eq, n_add, n_sub, n_mul, n_neg, n_lit, zw] at *; omega))), ?_⟩
        refine ⟨fun q13 => ?_, fun q13 => ?_⟩
        · refine ⟨(by first | exact Or.inl rfl | exact Or.inr rfl), ?_⟩
          refine hQ12 _ _ ?_
          show ((0 : Int32) = 0 → vp_in p0 4 ∧ vp_in p2 4 ∧ ((((M 46) (Int32.toNatClampNeg p0)) : Int32) = (((M 46) (Int32.toNatClampNeg p2)) : Int32) → mx g (d + 5) kX6_hasRow 0 [.ref 44, .int (p0), .int (p1), .int (p4)] [] M _) ∧ (¬ (((M 46) (Int32.toNatClampNeg p0)) : Int32) = (((M 46) (Int32.toNatClampNeg p2)) : Int32) → Qx (some (.int (-13))) M)) ∧ (¬ (0 : Int32) = 0 → Qx (some (.int (-11))) M)
          refine ⟨fun _ => ?_, fun q14 => absurd q14 (by decide)⟩
          refine ⟨(n_in (by (simp only [e1, e2, n_lt, n_le, n_eq, n_add, n_sub, n_mul, n_neg, n_lit, zw] at *; omega)) (by (simp only [e1, e2, n_lt, n_le, n_eq, n_add, n_sub, n_mul, n_neg, n_lit, zw] at *; omega))), ?_⟩
          refine ⟨(n_in (by (simp only [e1, e2, n_lt, n_le, n_eq, n_add, n_sub, n_mul, n_neg, n_lit, zw] at *; omega)) (by (simp only [e1, e2, n_lt, n_le, n_eq, n_add, n_sub, n_mul, n_neg, n_lit, zw] at *; omega))), ?_⟩
          refine ⟨fun q15 => ?_, fun q15 => ?_⟩
          · refine mx_q (fun Q16 hQ16 => ?_)
            refine mx_go 200 zq_t53 ?_
            show ((p1 : Int32) < 0 → zq_b 0 ∧ Q16 (some (.int 0)) M) ∧ (¬ (p1 : Int32) < 0 → ((p4 : Int32) < 0 → zq_b 0 ∧ Q16 (some (.int 0)) M) ∧ (¬ (p4 : Int32) < 0 → vp_in p0 4 ∧ ((((M 47) (Int32.toNatClampNeg p0)) : Int32) < (p1 : Int32) → zq_b 0 ∧ Q16 (some (.int 0)) M) ∧ (¬ (((M 47) (Int32.toNatClampNeg p0)) : Int32) < (p1 : Int32) → vp_in p0 4 ∧ (((((M 47) (Int32.toNatClampNeg p0)) - p1) : Int32) < (p4 : Int32) → zq_b 0 ∧ Q16 (some (.int 0)) M) ∧ (¬ ((((M 47) (Int32.toNatClampNeg p0)) - p1) : Int32) < (p4 : Int32) → zq_b 1 ∧ Q16 (some (.int 1)) M))))
            refine ⟨fun q17 => ?_, fun q17 => ?_⟩
            · refine ⟨(by first | exact Or.inl rfl | exact Or.inr rfl), ?_⟩
              refine hQ16 _ _ ?_
              show ((0 : Int32) = 0 → Qx (some (.int (-12))) M) ∧ (¬ (0 : Int32) = 0 → mx g (d + 5) kX6_hasRow 0 [.ref 44, .int (p2), .int (p3), .int (p4)] [] M _)
              refine ⟨fun _ => ?_, fun q18 => absurd q18 (by decide)⟩
              refine hQx _ _ ⟨(-12), rfl, ?_⟩
              refine mx_q (fun Qm hQm => ?_)
              refine mx_go 200 zq_t226 ?_
              show mx g (d + 5) kX12_isSheet 0 [.ref 48, .int (p0)] [] M _
              refine c_X12_isSheet (fun k19 k20 => ?_) (fun k21 => by exfalso; (simp only [e1, e2, n_lt, n_le, n_eq, n_add, n_sub, n_mul, n_neg, n_lit, zw] at *; omega))
              show ((1 : Int32) = 0 → Qm (some (.int (-2))) M) ∧ (¬ (1 : Int32) = 0 → mx g (d + 5) kX12_isSheet 0 [.ref 48, .int (p2)] [] M _)
              refine ⟨fun q22 => absurd q22 (by decide), fun _ => ?_⟩
              refine c_X12_isSheet (fun k23 k24 => ?_) (fun k25 => by exfalso; (simp only [e1, e2, n_lt, n_le, n_eq, n_add, n_sub, n_mul, n_neg, n_lit, zw] at *; omega))
              show (¬ (1 : Int32) = 0 → vp_in p0 4 ∧ ((((M 75) (Int32.toNatClampNeg p0)) : Int32) < 0 → Qm (some (.int (-11))) M) ∧ (¬ (((M 75) (Int32.toNatClampNeg p0)) : Int32) < 0 → vp_in p2 4 ∧ (0 ≤ (((M 75) (Int32.toNatClampNeg p2)) : Int32) → vp_in p0 4 ∧ vp_in p2 4 ∧ ((((M 75) (Int32.toNatClampNeg p0)) : Int32) = (((M 75) (Int32.toNatClampNeg p2)) : Int32) → ((p4 : Int32) < 0 → Qm (some (.int (-12))) M) ∧ (¬ (p4 : Int32) < 0 → ((p1 : Int32) < 0 → Qm (some (.int (-12))) M) ∧ (¬ (p1 : Int32) < 0 → ((p3 : Int32) < 0 → Qm (some (.int (-12))) M) ∧ (¬ (p3 : Int32) < 0 → vp_in p0 4 ∧ (((((M 76) (Int32.toNatClampNeg p0)) - p4) : Int32) < (p1 : Int32) → Qm (some (.int (-12))) M) ∧ (¬ ((((M 76) (Int32.toNatClampNeg p0)) - p4) : Int32) < (p1 : Int32) → vp_in p2 4 ∧ ((p3 : Int32) ≤ ((((M 76) (Int32.toNatClampNeg p2)) - p4) : Int32) → mx g (d + 6) kX12_copy 105 [.ref 48, .int (p0), .int (p1), .int (p2), .int (p3), .int (p4), .int (0)] [] M Qm) ∧ (¬ (p3 : Int32) ≤ ((((M 76) (Int32.toNatClampNeg p2)) - p4) : Int32) → Qm (some (.int (-12))) M)))))) ∧ (¬ (((M 75) (Int32.toNatClampNeg p0)) : Int32) = (((M 75) (Int32.toNatClampNeg p2)) : Int32) → Qm (some (.int (-13))) M)) ∧ (¬ 0 ≤ (((M 75) (Int32.toNatClampNeg p2)) : Int32) → Qm (some (.int (-11))) M))) ∧ ((1 : Int32) = 0 → Qm (some (.int (-2))) M)
              refine ⟨fun _ => ?_, fun q26 => absurd q26 (by decide)⟩
              refine ⟨(n_in (by (simp only [e1, e2, n_lt, n_le, n_eq, n_add, n_sub, n_mul, n_neg, n_lit, zw] at *; omega)) (by (simp only [e1, e2, n_lt, n_le, n_eq, n_add, n_sub, n_mul, n_neg, n_lit, zw] at *; omega))), ?_⟩
              refine ⟨fun q27 => ?_, fun q27 => ?_⟩
              · exfalso; (simp only [e1, e2, n_lt, n_le, n_eq, n_add, n_sub, n_mul, n_neg, n_lit, zw] at *; omega)
              · refine ⟨(n_in (by (simp only [e1, e2, n_lt, n_le, n_eq, n_add, n_sub, n_mul, n_neg, n_lit, zw] at *; omega)) (by (simp only [e1, e2, n_lt, n_le, n_eq, n_add, n_sub, n_mul, n_neg, n_lit, zw] at *; omega))), ?_⟩
                refine ⟨fun q28 => ?_, fun q28 => ?_⟩
                · refine ⟨(n_in (by (simp only [e1, e2, n_lt, n_le, n_eq, n_add, n_sub, n_mul, n_neg, n_lit, zw] at *; omega)) (by (simp only [e1, e2, n_lt, n_le, n_eq, n_add, n_sub, n_mul, n_neg, n_lit, zw] at *; omega))), ?_⟩
                  refine ⟨(n_in (by (simp only [e1, e2, n_lt, n_le, n_eq, n_add, n_sub, n_mul, n_neg, n_lit, zw] at *; omega)) (by (simp only [e1, e2, n_lt, n_le, n_eq, n_add, n_sub, n_mul, n_neg, n_lit, zw] at *; omega))), ?_⟩
                  refine ⟨fun q29 => ?_, fun q29 => by exfalso; (simp only [e1, e2, n_lt, n_le, n_eq, n_add, n_sub, n_mul, n_neg, n_lit, zw] at *; omega)⟩
                  refine ⟨fun q30 => ?_, fun q30 => ?_⟩
                  · refine hQm _ _ ⟨by first | rfl | simp only [e1, e2], ?_⟩
                    exact hR
                  · refine ⟨fun q31 => ?_, fun q31 => by exfalso; (simp only [e1, e2, n_lt, n_le, n_eq, n_add, n_sub, n_mul, n_neg, n_lit, zw] at *; omega)⟩
                    refine hQm _ _ ⟨by first | rfl | simp only [e1, e2], ?_⟩
                    exact hR
                · exfalso; (simp only [e1, e2, n_lt, n_le, n_eq, n_add, n_sub, n_mul, n_neg, n_lit, zw] at *; omega)
            · refine ⟨fun q19 => ?_, fun q19 => ?_⟩
              · refine ⟨(by first | exact Or.inl rfl | exact Or.inr rfl), ?_⟩
                refine hQ16 _ _ ?_
                show ((0 : Int32) = 0 → Qx (some (.int (-12))) M) ∧ (¬ (0 : Int32) = 0 → mx g (d + 5) kX6_hasRow 0 [.ref 44, .int (p2), .int (p3), .int (p4)] [] M _)
                refine ⟨fun _ => ?_, fun q20 => absurd q20 (by decide)⟩
                refine hQx _ _ ⟨(-12), rfl, ?_⟩
                refine mx_q (fun Qm hQm => ?_)
                refine mx_go 200 zq_t226 ?_
                show mx g (d + 5) kX12_isSheet 0 [.ref 48, .int (p0)] [] M _
                refine c_X12_isSheet (fun k21 k22 => ?_) (fun k23 => by exfalso; (simp only [e1, e2, n_lt, n_le, n_eq, n_add, n_sub, n_mul, n_neg, n_lit, zw] at *; omega))
                show ((1 : Int32) = 0 → Qm (some (.int (-2))) M) ∧ (¬ (1 : Int32) = 0 → mx g (d + 5) kX12_isSheet 0 [.ref 48, .int (p2)] [] M _)
                refine ⟨fun q24 => absurd q24 (by decide), fun _ => ?_⟩
                refine c_X12_isSheet (fun k25 k26 => ?_) (fun k27 => by exfalso; (simp only [e1, e2, n_lt, n_le, n_eq, n_add, n_sub, n_mul, n_neg, n_lit, zw] at *; omega))
                show (¬ (1 : Int32) = 0 → vp_in p0 4 ∧ ((((M 75) (Int32.toNatClampNeg p0)) : Int32) < 0 → Qm (some (.int (-11))) M) ∧ (¬ (((M 75) (Int32.toNatClampNeg p0)) : Int32) < 0 → vp_in p2 4 ∧ (0 ≤ (((M 75) (Int32.toNatClampNeg p2)) : Int32) → vp_in p0 4 ∧ vp_in p2 4 ∧ ((((M 75) (Int32.toNatClampNeg p0)) : Int32) = (((M 75) (Int32.toNatClampNeg p2)) : Int32) → ((p4 : Int32) < 0 → Qm (some (.int (-12))) M) ∧ (¬ (p4 : Int32) < 0 → ((p1 : Int32) < 0 → Qm (some (.int (-12))) M) ∧ (¬ (p1 : Int32) < 0 → ((p3 : Int32) < 0 → Qm (some (.int (-12))) M) ∧ (¬ (p3 : Int32) < 0 → vp_in p0 4 ∧ (((((M 76) (Int32.toNatClampNeg p0)) - p4) : Int32) < (p1 : Int32) → Qm (some (.int (-12))) M) ∧ (¬ ((((M 76) (Int32.toNatClampNeg p0)) - p4) : Int32) < (p1 : Int32) → vp_in p2 4 ∧ ((p3 : Int32) ≤ ((((M 76) (Int32.toNatClampNeg p2)) - p4) : Int32) → mx g (d + 6) kX12_copy 105 [.ref 48, .int (p0), .int (p1), .int (p2), .int (p3), .int (p4), .int (0)] [] M Qm) ∧ (¬ (p3 : Int32) ≤ ((((M 76) (Int32.toNatClampNeg p2)) - p4) : Int32) → Qm (some (.int (-12))) M)))))) ∧ (¬ (((M 75) (Int32.toNatClampNeg p0)) : Int32) = (((M 75) (Int32.toNatClampNeg p2)) : Int32) → Qm (some (.int (-13))) M)) ∧ (¬ 0 ≤ (((M 75) (Int32.toNatClampNeg p2)) : Int32) → Qm (some (.int (-11))) M))) ∧ ((1 : Int32) = 0 → Qm (some (.int (-2))) M)
                refine ⟨fun _ => ?_, fun q28 => absurd q28 (by decide)⟩
                refine ⟨(n_in (by (simp only [e1, e2, n_lt, n_le, n_eq, n_add, n_sub, n_mul, n_neg, n_lit, zw] at *; omega)) (by (simp only [e1, e2, n_lt, n_le, n_eq, n_add, n_sub, n_mul, n_neg, n_lit, zw] at *; omega))), ?_⟩
                refine ⟨fun q29 => ?_, fun q29 => ?_⟩
                · exfalso; (simp only [e1, e2, n_lt, n_le, n_eq, n_add, n_sub, n_mul, n_neg, n_lit, zw] at *; omega)
                · refine ⟨(n_in (by (simp only [e1, e2, n_lt, n_le, n_eq, n_add, n_sub, n_mul, n_neg, n_lit, zw] at *; omega)) (by (simp only [e1, e2, n_lt, n_le, n_eq, n_add, n_sub, n_mul, n_neg, n_lit, zw] at *; omega))), ?_⟩
                  refine ⟨fun q30 => ?_, fun q30 => ?_⟩
                  · refine ⟨(n_in (by (simp only [e1, e2, n_lt, n_le, n_eq, n_add, n_sub, n_mul, n_neg, n_lit, zw] at *; omega)) (by (simp only [e1, e2, n_lt, n_le, n_eq, n_add, n_sub, n_mul, n_neg, n_lit, zw] at *; omega))), ?_⟩
                    refine ⟨(n_in (by (simp only [e1, e2, n_lt, n_le, n_eq, n_add, n_sub, n_mul, n_neg, n_lit, zw] at *; omega)) (by (simp only [e1, e2, n_lt, n_le, n_eq, n_add, n_sub, n_mul, n_neg, n_lit, zw] at *; omega))), ?_⟩
                    refine ⟨fun q31 => ?_, fun q31 => by exfalso; (simp only [e1, e2, n_lt, n_le, n_eq, n_add, n_sub, n_mul, n_neg, n_lit, zw] at *; omega)⟩
                    refine ⟨fun q32 => ?_, fun q32 => by exfalso; (simp only [e1, e2, n_lt, n_le, n_eq, n_add, n_sub, n_mul, n_neg, n_lit, zw] at *; omega)⟩
                    refine hQm _ _ ⟨by first | rfl | simp only [e1, e2], ?_⟩
                    exact hR
                  · exfalso; (simp only [e1, e2, n_lt, n_le, n_eq, n_add, n_sub, n_mul, n_neg, n_lit, zw] at *; omega)
              · refine ⟨(n_in (by (simp only [e1, e2, n_lt, n_le, n_eq, n_add, n_sub, n_mul, n_neg, n_lit, zw] at *; omega)) (by (simp only [e1, e2, n_lt, n_le, n_eq, n_add, n_sub, n_mul, n_neg, n_lit, zw] at *; omega))), ?_⟩
                refine ⟨fun q21 => ?_, fun q21 => ?_⟩
                · refine ⟨(by first | exact Or.inl rfl | exact Or.inr rfl), ?_⟩
                  refine hQ16 _ _ ?_
                  show ((0 : Int32) = 0 → Qx (some (.int (-12))) M) ∧ (¬ (0 : Int32) = 0 → mx g (d + 5) kX6_hasRow 0 [.ref 44, .int (p2), .int (p3), .int (p4)] [] M _)
                  refine ⟨fun _ => ?_, fun q22 => absurd q22 (by decide)⟩
                  refine hQx _ _ ⟨(-12), rfl, ?_⟩
                  refine mx_q (fun Qm hQm => ?_)
                  refine mx_go 200 zq_t226 ?_
                  show mx g (d + 5) kX12_isSheet 0 [.ref 48, .int (p0)] [] M _
                  refine c_X12_isSheet (fun k23 k24 => ?_) (fun k25 => by exfalso; (simp only [e1, e2, n_lt, n_le, n_eq, n_add, n_sub, n_mul, n_neg, n_lit, zw] at *; omega))
                  show ((1 : Int32) = 0 → Qm (some (.int (-2))) M) ∧ (¬ (1 : Int32) = 0 → mx g (d + 5) kX12_isSheet 0 [.ref 48, .int (p2)] [] M _)
                  refine ⟨fun q26 => absurd q26 (by decide), fun _ => ?_⟩
                  refine c_X12_isSheet (fun k27 k28 => ?_) (fun k29 => by exfalso; (simp only [e1, e2, n_lt, n_le, n_eq, n_add, n_sub, n_mul, n_neg, n_lit, zw] at *; omega))
                  show (¬ (1 : Int32) = 0 → vp_in p0 4 ∧ ((((M 75) (Int32.toNatClampNeg p0)) : Int32) < 0 → Qm (some (.int (-11))) M) ∧ (¬ (((M 75) (Int32.toNatClampNeg p0)) : Int32) < 0 → vp_in p2 4 ∧ (0 ≤ (((M 75) (Int32.toNatClampNeg p2)) : Int32) → vp_in p0 4 ∧ vp_in p2 4 ∧ ((((M 75) (Int32.toNatClampNeg p0)) : Int32) = (((M 75) (Int32.toNatClampNeg p2)) : Int32) → ((p4 : Int32) < 0 → Qm (some (.int (-12))) M) ∧ (¬ (p4 : Int32) < 0 → ((p1 : Int32) < 0 → Qm (some (.int (-12))) M) ∧ (¬ (p1 : Int32) < 0 → ((p3 : Int32) < 0 → Qm (some (.int (-12))) M) ∧ (¬ (p3 : Int32) < 0 → vp_in p0 4 ∧ (((((M 76) (Int32.toNatClampNeg p0)) - p4) : Int32) < (p1 : Int32) → Qm (some (.int (-12))) M) ∧ (¬ ((((M 76) (Int32.toNatClampNeg p0)) - p4) : Int32) < (p1 : Int32) → vp_in p2 4 ∧ ((p3 : Int32) ≤ ((((M 76) (Int32.toNatClampNeg p2)) - p4) : Int32) → mx g (d + 6) kX12_copy 105 [.ref 48, .int (p0), .int (p1), .int (p2), .int (p3), .int (p4), .int (0)] [] M Qm) ∧ (¬ (p3 : Int32) ≤ ((((M 76) (Int32.toNatClampNeg p2)) - p4) : Int32) → Qm (some (.int (-12))) M)))))) ∧ (¬ (((M 75) (Int32.toNatClampNeg p0)) : Int32) = (((M 75) (Int32.toNatClampNeg p2)) : Int32) → Qm (some (.int (-13))) M)) ∧ (¬ 0 ≤ (((M 75) (Int32.toNatClampNeg p2)) : Int32) → Qm (some (.int (-11))) M))) ∧ ((1 : Int32) = 0 → Qm (some (.int (-2))) M)
                  refine ⟨fun _ => ?_, fun q30 => absurd q30 (by decide)⟩
                  refine ⟨(n_in (by (simp only [e1, e2, n_lt, n_le, n_eq, n_add, n_sub, n_mul, n_neg, n_lit, zw] at *; omega)) (by (simp only [e1, e2, n_lt, n_le, n_eq, n_add, n_sub, n_mul, n_neg, n_lit, zw] at *; omega))), ?_⟩
                  refine ⟨fun q31 => ?_, fun q31 => ?_⟩
                  · exfalso; (simp only [e1, e2, n_lt, n_le, n_eq, n_add, n_sub, n_mul, n_neg, n_lit, zw] at *; omega)
                  · refine ⟨(n_in (by (simp only [e1, e2, n_lt, n_le, n_eq, n_add, n_sub, n_mul, n_neg, n_lit, zw] at *; omega)) (by (simp only [e1, e2, n_lt, n_le, n_eq, n_add, n_sub, n_mul, n_neg, n_lit, zw] at *; omega))), ?_⟩
                    refine ⟨fun q32 => ?_, fun q32 => ?_⟩
                    · refine ⟨(n_in (by (simp only [e1, e2, n_lt, n_le, n_eq, n_add, n_sub, n_mul, n_neg, n_lit, zw] at *; omega)) (by (simp only [e1, e2, n_lt, n_le, n_eq, n_add, n_sub, n_mul, n_neg, n_lit, zw] at *; omega))), ?_⟩
                      refine ⟨(n_in (by (simp only [e1, e2, n_lt, n_le, n_eq, n_add, n_sub, n_mul, n_neg, n_lit, zw] at *; omega)) (by (simp only [e1, e2, n_lt, n_le, n_eq, n_add, n_sub, n_mul, n_neg, n_lit, zw] at *; omega))), ?_⟩
                      refine ⟨fun q33 => ?_, fun q33 => by exfalso; (simp only [e1, e2, n_lt, n_le, n_eq, n_add, n_sub, n_mul, n_neg, n_lit, zw] at *; omega)⟩
                      refine ⟨fun q34 => by exfalso; (simp only [e1, e2, n_lt, n_le, n_eq, n_add, n_sub, n_mul, n_neg, n_lit, zw] at *; omega), fun q34 => ?_⟩
                      refine ⟨fun q35 => by exfalso; (simp only [e1, e2, n_lt, n_le, n_eq, n_add, n_sub, n_mul, n_neg, n_lit, zw] at *; omega), fun q35 => ?_⟩
                      refine ⟨fun q36 => ?_, fun q36 => ?_⟩
                      · refine hQm _ _ ⟨by first | rfl | simp only [e1, e2], ?_⟩
                        exact hR
                      · refine ⟨(n_in (by (simp only [e1, e2, n_lt, n_le, n_eq, n_add, n_sub, n_mul, n_neg, n_lit, zw] at *; omega)) (by (simp only [e1, e2, n_lt, n_le, n_eq, n_add, n_sub, n_mul, n_neg, n_lit, zw] at *; omega))), ?_⟩
                        refine ⟨fun q37 => ?_, fun q37 => ?_⟩
                        · refine hQm _ _ ⟨by first | rfl | simp only [e1, e2], ?_⟩
                          exact hR
                        · refine ⟨(n_in (by (simp only [e1, e2, n_lt, n_le, n_eq, n_add, n_sub, n_mul, n_neg, n_lit, zw] at *; omega)) (by (simp only [e1, e2, n_lt, n_le, n_eq, n_add, n_sub, n_mul, n_neg, n_lit, zw] at *; omega))), ?_⟩
                          refine ⟨fun q38 => ?_, fun q38 => ?_⟩
                          · refine c_X12_copy (by (simp only [e1, e2, n_lt, n_le, n_eq, n_add, n_sub, n_mul, n_neg, n_lit, zw] at *; omega)) (by (simp only [e1, e2, n_lt, n_le, n_eq, n_add, n_sub, n_mul, n_neg, n_lit, zw] at *; omega)) (by (simp only [e1, e2, n_lt, n_le, n_eq, n_add, n_sub, n_mul, n_neg, n_lit, zw] at *; omega)) (by (simp only [e1, e2, n_lt, n_le, n_eq, n_add, n_sub, n_mul, n_neg, n_lit, zw] at *; omega)) (by (simp only [e1, e2, n_lt, n_le, n_eq, n_add, n_sub, n_mul, n_neg, n_lit, zw] at *; omega)) (by (simp only [e1, e2, n_lt, n_le, n_eq, n_add, n_sub, n_mul, n_neg, n_lit, zw] at *; omega)) (by (simp only [e1, e2, n_lt, n_le, n_eq, n_add, n_sub, n_mul, n_neg, n_lit, zw] at *; omega)) (by (simp only [e1, e2, n_lt, n_le, n_eq, n_add, n_sub, n_mul, n_neg, n_lit, zw] at *; omega)) (by (simp only [e1, e2, n_lt, n_le, n_eq, n_add, n_sub, n_mul, n_neg, n_lit, zw] at *; omega)) (fun N39 u40 => ?_)
                            exfalso; (simp only [e1, e2, n_lt, n_le, n_eq, n_add, n_sub, n_mul, n_neg, n_lit, zw] at *; omega)
                          · refine hQm _ _ ⟨by first | rfl | simp only [e1, e2], ?_⟩
                            exact hR
                    · exfalso; (simp only [e1, e2, n_lt, n_le, n_eq, n_add, n_sub, n_mul, n_neg, n_lit, zw] at *; omega)
                · refine ⟨(n_in (by (simp only [e1, e2, n_lt, n_le, n_eq, n_add, n_sub, n_mul, n_neg, n_lit, zw] at *; omega)) (by (simp only [e1, e2, n_lt, n_le, n_eq, n_add, n_sub, n_mul, n_neg, n_lit, zw] at *; omega))), ?_⟩
                  refine ⟨fun q23 => ?_, fun q23 => ?_⟩
                  · refine ⟨(by first | exact Or.inl rfl | exact Or.inr rfl), ?_⟩
                    refine hQ16 _ _ ?_
                    show ((0 : Int32) = 0 → Qx (some (.int (-12))) M) ∧ (¬ (0 : Int32) = 0 → mx g (d + 5) kX6_hasRow 0 [.ref 44, .int (p2), .int (p3), .int (p4)] [] M _)
                    refine ⟨fun _ => ?_, fun q24 => absurd q24 (by decide)⟩
                    refine hQx _ _ ⟨(-12), rfl, ?_⟩
                    refine mx_q (fun Qm hQm => ?_)
                    refine mx_go 200 zq_t226 ?_
                    show mx g (d + 5) kX12_isSheet 0 [.ref 48, .int (p0)] [] M _
                    refine c_X12_isSheet (fun k25 k26 => ?_) (fun k27 => by exfalso; (simp only [e1, e2, n_lt, n_le, n_eq, n_add, n_sub, n_mul, n_neg, n_lit, zw] at *; omega))
                    show ((1 : Int32) = 0 → Qm (some (.int (-2))) M) ∧ (¬ (1 : Int32) = 0 → mx g (d + 5) kX12_isSheet 0 [.ref 48, .int (p2)] [] M _)
                    refine ⟨fun q28 => absurd q28 (by decide), fun _ => ?_⟩
                    refine c_X12_isSheet (fun k29 k30 => ?_) (fun k31 => by exfalso; (simp only [e1, e2, n_lt, n_le, n_eq, n_add, n_sub, n_mul, n_neg, n_lit, zw] at *; omega))
                    show (¬ (1 : Int32) = 0 → vp_in p0 4 ∧ ((((M 75) (Int32.toNatClampNeg p0)) : Int32) < 0 → Qm (some (.int (-11))) M) ∧ (¬ (((M 75) (Int32.toNatClampNeg p0)) : Int32) < 0 → vp_in p2 4 ∧ (0 ≤ (((M 75) (Int32.toNatClampNeg p2)) : Int32) → vp_in p0 4 ∧ vp_in p2 4 ∧ ((((M 75) (Int32.toNatClampNeg p0)) : Int32) = (((M 75) (Int32.toNatClampNeg p2)) : Int32) → ((p4 : Int32) < 0 → Qm (some (.int (-12))) M) ∧ (¬ (p4 : Int32) < 0 → ((p1 : Int32) < 0 → Qm (some (.int (-12))) M) ∧ (¬ (p1 : Int32) < 0 → ((p3 : Int32) < 0 → Qm (some (.int (-12))) M) ∧ (¬ (p3 : Int32) < 0 → vp_in p0 4 ∧ (((((M 76) (Int32.toNatClampNeg p0)) - p4) : Int32) < (p1 : Int32) → Qm (some (.int (-12))) M) ∧ (¬ ((((M 76) (Int32.toNatClampNeg p0)) - p4) : Int32) < (p1 : Int32) → vp_in p2 4 ∧ ((p3 : Int32) ≤ ((((M 76) (Int32.toNatClampNeg p2)) - p4) : Int32) → mx g (d + 6) kX12_copy 105 [.ref 48, .int (p0), .int (p1), .int (p2), .int (p3), .int (p4), .int (0)] [] M Qm) ∧ (¬ (p3 : Int32) ≤ ((((M 76) (Int32.toNatClampNeg p2)) - p4) : Int32) → Qm (some (.int (-12))) M)))))) ∧ (¬ (((M 75) (Int32.toNatClampNeg p0)) : Int32) = (((M 75) (Int32.toNatClampNeg p2)) : Int32) → Qm (some (.int (-13))) M)) ∧ (¬ 0 ≤ (((M 75) (Int32.toNatClampNeg p2)) : Int32) → Qm (some (.int (-11))) M))) ∧ ((1 : Int32) = 0 → Qm (some (.int (-2))) M)
                    refine ⟨fun _ => ?_, fun q32 => absurd q32 (by decide)⟩
                    refine ⟨(n_in (by (simp only [e1, e2, n_lt, n_le, n_eq, n_add, n_sub, n_mul, n_neg, n_lit, zw] at *; omega)) (by (simp only [e1, e2, n_lt, n_le, n_eq, n_add, n_sub, n_mul, n_neg, n_lit, zw] at *; omega))), ?_⟩
                    refine ⟨fun q33 => ?_, fun q33 => ?_⟩
                    · exfalso; (simp only [e1, e2, n_lt, n_le, n_eq, n_add, n_sub, n_mul, n_neg, n_lit, zw] at *; omega)
                    · refine ⟨(n_in (by (simp only [e1, e2, n_lt, n_le, n_eq, n_add, n_sub, n_mul, n_neg, n_lit, zw] at *; omega)) (by (simp only [e1, e2, n_lt, n_le, n_eq, n_add, n_sub, n_mul, n_neg, n_lit, zw] at *; omega))), ?_⟩
                      refine ⟨fun q34 => ?_, fun q34 => ?_⟩
                      · refine ⟨(n_in (by (simp only [e1, e2, n_lt, n_le, n_eq, n_add, n_sub, n_mul, n_neg, n_lit, zw] at *; omega)) (by (simp only [e1, e2, n_lt, n_le, n_eq, n_add, n_sub, n_mul, n_neg, n_lit, zw] at *; omega))), ?_⟩
                        refine ⟨(n_in (by (simp only [e1, e2, n_lt, n_le, n_eq, n_add, n_sub, n_mul, n_neg, n_lit, zw] at *; omega)) (by (simp only [e1, e2, n_lt, n_le, n_eq, n_add, n_sub, n_mul, n_neg, n_lit, zw] at *; omega))), ?_⟩
                        refine ⟨fun q35 => ?_, fun q35 => by exfalso; (simp only [e1, e2, n_lt, n_le, n_eq, n_add, n_sub, n_mul, n_neg, n_lit, zw] at *; omega)⟩
                        refine ⟨fun q36 => by exfalso; (simp only [e1, e2, n_lt, n_le, n_eq, n_add, n_sub, n_mul, n_neg, n_lit, zw] at *; omega), fun q36 => ?_⟩
                        refine ⟨fun q37 => by exfalso; (simp only [e1, e2, n_lt, n_le, n_eq, n_add, n_sub, n_mul, n_neg, n_lit, zw] at *; omega), fun q37 => ?_⟩
                        refine ⟨fun q38 => ?_, fun q38 => ?_⟩
                        · refine hQm _ _ ⟨by first | rfl | simp only [e1, e2], ?_⟩
                          exact hR
                        · refine ⟨(n_in (by (simp only [e1, e2, n_lt, n_le, n_eq, n_add, n_sub, n_mul, n_neg, n_lit, zw] at *; omega)) (by (simp only [e1, e2, n_lt, n_le, n_eq, n_add, n_sub, n_mul, n_neg, n_lit, zw] at *; omega))), ?_⟩
                          refine ⟨fun q39 => ?_, fun q39 => ?_⟩
                          · refine hQm _ _ ⟨by first | rfl | simp only [e1, e2], ?_⟩
                            exact hR
                          · refine ⟨(n_in (by (simp only [e1, e2, n_lt, n_le, n_eq, n_add, n_sub, n_mul, n_neg, n_lit, zw] at *; omega)) (by (simp only [e1, e2, n_lt, n_le, n_eq, n_add, n_sub, n_mul, n_neg, n_lit, zw] at *; omega))), ?_⟩
                            refine ⟨fun q40 => ?_, fun q40 => ?_⟩
                            · refine c_X12_copy (by (simp only [e1, e2, n_lt, n_le, n_eq, n_add, n_sub, n_mul, n_neg, n_lit, zw] at *; omega)) (by (simp only [e1, e2, n_lt, n_le, n_eq, n_add, n_sub, n_mul, n_neg, n_lit, zw] at *; omega)) (by (simp only [e1, e2, n_lt, n_le, n_eq, n_add, n_sub, n_mul, n_neg, n_lit, zw] at *; omega)) (by (simp only [e1, e2, n_lt, n_le, n_eq, n_add, n_sub, n_mul, n_neg, n_lit, zw] at *; omega)) (by (simp only [e1, e2, n_lt, n_le, n_eq, n_add, n_sub, n_mul, n_neg, n_lit, zw] at *; omega)) (by (simp only [e1, e2, n_lt, n_le, n_eq, n_add, n_sub, n_mul, n_neg, n_lit, zw] at *; omega)) (by (simp only [e1, e2, n_lt, n_le, n_eq, n_add, n_sub, n_mul, n_neg, n_lit, zw] at *; omega)) (by (simp only [e1, e2, n_lt, n_le, n_eq, n_add, n_sub, n_mul, n_neg, n_lit, zw] at *; omega)) (by (simp only [e1, e2, n_lt, n_le, n_eq, n_add, n_sub, n_mul, n_neg, n_lit, zw] at *; omega)) (fun N41 u42 => ?_)
                              exfalso; (simp only [e1, e2, n_lt, n_le, n_eq, n_add, n_sub, n_mul, n_neg, n_lit, zw] at *; omega)
                            · refine hQm _ _ ⟨by first | rfl | simp only [e1, e2], ?_⟩
                              exact hR
                      · exfalso; (simp only [e1, e2, n_lt, n_le, n_eq, n_add, n_sub, n_mul, n_neg, n_lit, zw] at *; omega)
                  · refine ⟨(by first | exact Or.inl rfl | exact Or.inr rfl), ?_⟩
                    refine hQ16 _ _ ?_
                    show ((1 : Int32) = 0 → Qx (some (.int (-12))) M) ∧ (¬ (1 : Int32) = 0 → mx g (d + 5) kX6_hasRow 0 [.ref 44, .int (p2), .int (p3), .int (p4)] [] M _)
                    refine ⟨fun q25 => absurd q25 (by decide), fun _ => ?_⟩
                    refine mx_q (fun Q26 hQ26 => ?_)
                    refine mx_go 200 zq_t53 ?_
                    show ((p3 : Int32) < 0 → zq_b 0 ∧ Q26 (some (.int 0)) M) ∧ (¬ (p3 : Int32) < 0 → ((p4 : Int32) < 0 → zq_b 0 ∧ Q26 (some (.int 0)) M) ∧ (¬ (p4 : Int32) < 0 → vp_in p2 4 ∧ ((((M 47) (Int32.toNatClampNeg p2)) : Int32) < (p3 : Int32) → zq_b 0 ∧ Q26 (some (.int 0)) M) ∧ (¬ (((M 47) (Int32.toNatClampNeg p2)) : Int32) < (p3 : Int32) → vp_in p2 4 ∧ (((((M 47) (Int32.toNatClampNeg p2)) - p3) : Int32) < (p4 : Int32) → zq_b 0 ∧ Q26 (some (.int 0)) M) ∧ (¬ ((((M 47) (Int32.toNatClampNeg p2)) - p3) : Int32) < (p4 : Int32) → zq_b 1 ∧ Q26 (some (.int 1)) M))))
                    refine ⟨fun q27 => ?_, fun q27 => ?_⟩
                    · refine ⟨(by first | exact Or.inl rfl | exact Or.inr rfl), ?_⟩
                      refine hQ26 _ _ ?_
                      show (¬ (0 : Int32) = 0 → mx g (d + 5) kX6_copyRow 0 [.ref 44, .int (p0), .int (p1), .int (p2), .int (p3), .int (p4)] [] M _) ∧ ((0 : Int32) = 0 → Qx (some (.int (-12))) M)
                      refine ⟨fun q28 => absurd q28 (by decide), fun _ => ?_⟩
                      refine hQx _ _ ⟨(-12), rfl, ?_⟩
                      refine mx_q (fun Qm hQm => ?_)
                      refine mx_go 200 zq_t226 ?_
                      show mx g (d + 5) kX12_isSheet 0 [.ref 48, .int (p0)] [] M _
                      refine c_X12_isSheet (fun k29 k30 => ?_) (fun k31 => by exfalso; (simp only [e1, e2, n_lt, n_le, n_eq, n_add, n_sub, n_mul, n_neg, n_lit, zw] at *; omega))
                      show ((1 : Int32) = 0 → Qm (some (.int (-2))) M) ∧ (¬ (1 : Int32) = 0 → mx g (d + 5) kX12_isSheet 0 [.ref 48, .int (p2)] [] M _)
                      refine ⟨fun q32 => absurd q32 (by decide), fun _ => ?_⟩
                      refine c_X12_isSheet (fun k33 k34 => ?_) (fun k35 => by exfalso; (simp only [e1, e2, n_lt, n_le, n_eq, n_add, n_sub, n_mul, n_neg, n_lit, zw] at *; omega))
                      show (¬ (1 : Int32) = 0 → vp_in p0 4 ∧ ((((M 75) (Int32.toNatClampNeg p0)) : Int32) < 0 → Qm (some (.int (-11))) M) ∧ (¬ (((M 75) (Int32.toNatClampNeg p0)) : Int32) < 0 → vp_in p2 4 ∧ (0 ≤ (((M 75) (Int32.toNatClampNeg p2)) : Int32) → vp_in p0 4 ∧ vp_in p2 4 ∧ ((((M 75) (Int32.toNatClampNeg p0)) : Int32) = (((M 75) (Int32.toNatClampNeg p2)) : Int32) → ((p4 : Int32) < 0 → Qm (some (.int (-12))) M) ∧ (¬ (p4 : Int32) < 0 → ((p1 : Int32) < 0 → Qm (some (.int (-12))) M) ∧ (¬ (p1 : Int32) < 0 → ((p3 : Int32) < 0 → Qm (some (.int (-12))) M) ∧ (¬ (p3 : Int32) < 0 → vp_in p0 4 ∧ (((((M 76) (Int32.toNatClampNeg p0)) - p4) : Int32) < (p1 : Int32) → Qm (some (.int (-12))) M) ∧ (¬ ((((M 76) (Int32.toNatClampNeg p0)) - p4) : Int32) < (p1 : Int32) → vp_in p2 4 ∧ ((p3 : Int32) ≤ ((((M 76) (Int32.toNatClampNeg p2)) - p4) : Int32) → mx g (d + 6) kX12_copy 105 [.ref 48, .int (p0), .int (p1), .int (p2), .int (p3), .int (p4), .int (0)] [] M Qm) ∧ (¬ (p3 : Int32) ≤ ((((M 76) (Int32.toNatClampNeg p2)) - p4) : Int32) → Qm (some (.int (-12))) M)))))) ∧ (¬ (((M 75) (Int32.toNatClampNeg p0)) : Int32) = (((M 75) (Int32.toNatClampNeg p2)) : Int32) → Qm (some (.int (-13))) M)) ∧ (¬ 0 ≤ (((M 75) (Int32.toNatClampNeg p2)) : Int32) → Qm (some (.int (-11))) M))) ∧ ((1 : Int32) = 0 → Qm (some (.int (-2))) M)
                      refine ⟨fun _ => ?_, fun q36 => absurd q36 (by decide)⟩
                      refine ⟨(n_in (by (simp only [e1, e2, n_lt, n_le, n_eq, n_add, n_sub, n_mul, n_neg, n_lit, zw] at *; omega)) (by (simp only [e1, e2, n_lt, n_le, n_eq, n_add, n_sub, n_mul, n_neg, n_lit, zw] at *; omega))), ?_⟩
                      refine ⟨fun q37 => ?_, fun q37 => ?_⟩
                      · exfalso; (simp only [e1, e2, n_lt, n_le, n_eq, n_add, n_sub, n_mul, n_neg, n_lit, zw] at *; omega)
                      · refine ⟨(n_in (by (simp only [e1, e2, n_lt, n_le, n_eq, n_add, n_sub, n_mul, n_neg, n_lit, zw] at *; omega)) (by (simp only [e1, e2, n_lt, n_le, n_eq, n_add, n_sub, n_mul, n_neg, n_lit, zw] at *; omega))), ?_⟩
                        refine ⟨fun q38 => ?_, fun q38 => ?_⟩
                        · refine ⟨(n_in (by (simp only [e1, e2, n_lt, n_le, n_eq, n_add, n_sub, n_mul, n_neg, n_lit, zw] at *; omega)) (by (simp only [e1, e2, n_lt, n_le, n_eq, n_add, n_sub, n_mul, n_neg, n_lit, zw] at *; omega))), ?_⟩
                          refine ⟨(n_in (by (simp only [e1, e2, n_lt, n_le, n_eq, n_add, n_sub, n_mul, n_neg, n_lit, zw] at *; omega)) (by (simp only [e1, e2, n_lt, n_le, n_eq, n_add, n_sub, n_mul, n_neg, n_lit, zw] at *; omega))), ?_⟩
                          refine ⟨fun q39 => ?_, fun q39 => by exfalso; (simp only [e1, e2, n_lt, n_le, n_eq, n_add, n_sub, n_mul, n_neg, n_lit, zw] at *; omega)⟩
                          refine ⟨fun q40 => by exfalso; (simp only [e1, e2, n_lt, n_le, n_eq, n_add, n_sub, n_mul, n_neg, n_lit, zw] at *; omega), fun q40 => ?_⟩
                          refine ⟨fun q41 => by exfalso; (simp only [e1, e2, n_lt, n_le, n_eq, n_add, n_sub, n_mul, n_neg, n_lit, zw] at *; omega), fun q41 => ?_⟩
                          refine ⟨fun q42 => ?_, fun q42 => by exfalso; (simp only [e1, e2, n_lt, n_le, n_eq, n_add, n_sub, n_mul, n_neg, n_lit, zw] at *; omega)⟩
                          refine hQm _ _ ⟨by first | rfl | simp only [e1, e2], ?_⟩
                          exact hR
                        · exfalso; (simp only [e1, e2, n_lt, n_le, n_eq, n_add, n_sub, n_mul, n_neg, n_lit, zw] at *; omega)
                    · refine ⟨fun q29 => by exfalso; (simp only [e1, e2, n_lt, n_le, n_eq, n_add, n_sub, n_mul, n_neg, n_lit, zw] at *; omega), fun q29 => ?_⟩
                      refine ⟨(n_in (by (simp only [e1, e2, n_lt, n_le, n_eq, n_add, n_sub, n_mul, n_neg, n_lit, zw] at *; omega)) (by (simp only [e1, e2, n_lt, n_le, n_eq, n_add, n_sub, n_mul, n_neg, n_lit, zw] at *; omega))), ?_⟩
                      refine ⟨fun q30 => ?_, fun q30 => ?_⟩
                      · refine ⟨(by first | exact Or.inl rfl | exact Or.inr rfl), ?_⟩
                        refine hQ26 _ _ ?_
                        show (¬ (0 : Int32) = 0 → mx g (d + 5) kX6_copyRow 0 [.ref 44, .int (p0), .int (p1), .int (p2), .int (p3), .int (p4)] [] M _) ∧ ((0 : Int32) = 0 → Qx (some (.int (-12))) M)
                        refine ⟨fun q31 => absurd q31 (by decide), fun _ => ?_⟩
                        refine hQx _ _ ⟨(-12), rfl, ?_⟩
                        refine mx_q (fun Qm hQm => ?_)
                        refine mx_go 200 zq_t226 ?_
                        show mx g (d + 5) kX12_isSheet 0 [.ref 48, .int (p0)] [] M _
                        refine c_X12_isSheet (fun k32 k33 => ?_) (fun k34 => by exfalso; (simp only [e1, e2, n_lt, n_le, n_eq, n_add, n_sub, n_mul, n_neg, n_lit, zw] at *; omega))
                        show ((1 : Int32) = 0 → Qm (some (.int (-2))) M) ∧ (¬ (1 : Int32) = 0 → mx g (d + 5) kX12_isSheet 0 [.ref 48, .int (p2)] [] M _)
                        refine ⟨fun q35 => absurd q35 (by decide), fun _ => ?_⟩
                        refine c_X12_isSheet (fun k36 k37 => ?_) (fun k38 => by exfalso; (simp only [e1, e2, n_lt, n_le, n_eq, n_add, n_sub, n_mul, n_neg, n_lit, zw] at *; omega))
                        show (¬ (1 : Int32) = 0 → vp_in p0 4 ∧ ((((M 75) (Int32.toNatClampNeg p0)) : Int32) < 0 → Qm (some (.int (-11))) M) ∧ (¬ (((M 75) (Int32.toNatClampNeg p0)) : Int32) < 0 → vp_in p2 4 ∧ (0 ≤ (((M 75) (Int32.toNatClampNeg p2)) : Int32) → vp_in p0 4 ∧ vp_in p2 4 ∧ ((((M 75) (Int32.toNatClampNeg p0)) : Int32) = (((M 75) (Int32.toNatClampNeg p2)) : Int32) → ((p4 : Int32) < 0 → Qm (some (.int (-12))) M) ∧ (¬ (p4 : Int32) < 0 → ((p1 : Int32) < 0 → Qm (some (.int (-12))) M) ∧ (¬ (p1 : Int32) < 0 → ((p3 : Int32) < 0 → Qm (some (.int (-12))) M) ∧ (¬ (p3 : Int32) < 0 → vp_in p0 4 ∧ (((((M 76) (Int32.toNatClampNeg p0)) - p4) : Int32) < (p1 : Int32) → Qm (some (.int (-12))) M) ∧ (¬ ((((M 76) (Int32.toNatClampNeg p0)) - p4) : Int32) < (p1 : Int32) → vp_in p2 4 ∧ ((p3 : Int32) ≤ ((((M 76) (Int32.toNatClampNeg p2)) - p4) : Int32) → mx g (d + 6) kX12_copy 105 [.ref 48, .int (p0), .int (p1), .int (p2), .int (p3), .int (p4), .int (0)] [] M Qm) ∧ (¬ (p3 : Int32) ≤ ((((M 76) (Int32.toNatClampNeg p2)) - p4) : Int32) → Qm (some (.int (-12))) M)))))) ∧ (¬ (((M 75) (Int32.toNatClampNeg p0)) : Int32) = (((M 75) (Int32.toNatClampNeg p2)) : Int32) → Qm (some (.int (-13))) M)) ∧ (¬ 0 ≤ (((M 75) (Int32.toNatClampNeg p2)) : Int32) → Qm (some (.int (-11))) M))) ∧ ((1 : Int32) = 0 → Qm (some (.int (-2))) M)
                        refine ⟨fun _ => ?_, fun q39 => absurd q39 (by decide)⟩
                        refine ⟨(n_in (by (simp only [e1, e2, n_lt, n_le, n_eq, n_add, n_sub, n_mul, n_neg, n_lit, zw] at *; omega)) (by (simp only [e1, e2, n_lt, n_le, n_eq, n_add, n_sub, n_mul, n_neg, n_lit, zw] at *; omega))), ?_⟩
                        refine ⟨fun q40 => ?_, fun q40 => ?_⟩
                        · exfalso; (simp only [e1, e2, n_lt, n_le, n_eq, n_add, n_sub, n_mul, n_neg, n_lit, zw] at *; omega)
                        · refine ⟨(n_in (by (simp only [e1, e2, n_lt, n_le, n_eq, n_add, n_sub, n_mul, n_neg, n_lit, zw] at *; omega)) (by (simp only [e1, e2, n_lt, n_le, n_eq, n_add, n_sub, n_mul, n_neg, n_lit, zw] at *; omega))), ?_⟩
                          refine ⟨fun q41 => ?_, fun q41 => ?_⟩
                          · refine ⟨(n_in (by (simp only [e1, e2, n_lt, n_le, n_eq, n_add, n_sub, n_mul, n_neg, n_lit, zw] at *; omega)) (by (simp only [e1, e2, n_lt, n_le, n_eq, n_add, n_sub, n_mul, n_neg, n_lit, zw] at *; omega))), ?_⟩
                            refine ⟨(n_in (by (simp only [e1, e2, n_lt, n_le, n_eq, n_add, n_sub, n_mul, n_neg, n_lit, zw] at *; omega)) (by (simp only [e1, e2, n_lt, n_le, n_eq, n_add, n_sub, n_mul, n_neg, n_lit, zw] at *; omega))), ?_⟩
                            refine ⟨fun q42 => ?_, fun q42 => by exfalso; (simp only [e1, e2, n_lt, n_le, n_eq, n_add, n_sub, n_mul, n_neg, n_lit, zw] at *; omega)⟩
                            refine ⟨fun q43 => by exfalso; (simp only [e1, e2, n_lt, n_le, n_eq, n_add, n_sub, n_mul, n_neg, n_lit, zw] at *; omega), fun q43 => ?_⟩
                            refine ⟨fun q44 => by exfalso; (simp only [e1, e2, n_lt, n_le, n_eq, n_add, n_sub, n_mul, n_neg, n_lit, zw] at *; omega), fun q44 => ?_⟩
                            refine ⟨fun q45 => by exfalso; (simp only [e1, e2, n_lt, n_le, n_eq, n_add, n_sub, n_mul, n_neg, n_lit, zw] at *; omega), fun q45 => ?_⟩
                            refine ⟨(n_in (by (simp only [e1, e2, n_lt, n_le, n_eq, n_add, n_sub, n_mul, n_neg, n_lit, zw] at *; omega)) (by (simp only [e1, e2, n_lt, n_le, n_eq, n_add, n_sub, n_mul, n_neg, n_lit, zw] at *; omega))), ?_⟩
                            refine ⟨fun q46 => ?_, fun q46 => ?_⟩
                            · refine hQm _ _ ⟨by first | rfl | simp only [e1, e2], ?_⟩
                              exact hR
                            · refine ⟨(n_in (by (simp only [e1, e2, n_lt, n_le, n_eq, n_add, n_sub, n_mul, n_neg, n_lit, zw] at *; omega)) (by (simp only [e1, e2, n_lt, n_le, n_eq, n_add, n_sub, n_mul, n_neg, n_lit, zw] at *; omega))), ?_⟩
                              refine ⟨fun q47 => ?_, fun q47 => ?_⟩
                              · refine c_X12_copy (by (simp only [e1, e2, n_lt, n_le, n_eq, n_add, n_sub, n_mul, n_neg, n_lit, zw] at *; omega)) (by (simp only [e1, e2, n_lt, n_le, n_eq, n_add, n_sub, n_mul, n_neg, n_lit, zw] at *; omega)) (by (simp only [e1, e2, n_lt, n_le, n_eq, n_add, n_sub, n_mul, n_neg, n_lit, zw] at *; omega)) (by (simp only [e1, e2, n_lt, n_le, n_eq, n_add, n_sub, n_mul, n_neg, n_lit, zw] at *; omega)) (by (simp only [e1, e2, n_lt, n_le, n_eq, n_add, n_sub, n_mul, n_neg, n_lit, zw] at *; omega)) (by (simp only [e1, e2, n_lt, n_le, n_eq, n_add, n_sub, n_mul, n_neg, n_lit, zw] at *; omega)) (by (simp only [e1, e2, n_lt, n_le, n_eq, n_add, n_sub, n_mul, n_neg, n_lit, zw] at *; omega)) (by (simp only [e1, e2, n_lt, n_le, n_eq, n_add, n_sub, n_mul, n_neg, n_lit, zw] at *; omega)) (by (simp only [e1, e2, n_lt, n_le, n_eq, n_add, n_sub, n_mul, n_neg, n_lit, zw] at *; omega)) (fun N48 u49 => ?_)
                                exfalso; (simp only [e1, e2, n_lt, n_le, n_eq, n_add, n_sub, n_mul, n_neg, n_lit, zw] at *; omega)
                              · refine hQm _ _ ⟨by first | rfl | simp only [e1, e2], ?_⟩
                                exact hR
                          · exfalso; (simp only [e1, e2, n_lt, n_le, n_eq, n_add, n_sub, n_mul, n_neg, n_lit, zw] at *; omega)
                      · refine ⟨(n_in (by (simp only [e1, e2, n_lt, n_le, n_eq, n_add, n_sub, n_mul, n_neg, n_lit, zw] at *; omega)) (by (simp only [e1, e2, n_lt, n_le, n_eq, n_add, n_sub, n_mul, n_neg, n_lit, zw] at *; omega))), ?_⟩
                        refine ⟨fun q32 => ?_, fun q32 => ?_⟩
                        · refine ⟨(by first | exact Or.inl rfl | exact Or.inr rfl), ?_⟩
                          refine hQ26 _ _ ?_
                          show (¬ (0 : Int32) = 0 → mx g (d + 5) kX6_copyRow 0 [.ref 44, .int (p0), .int (p1), .int (p2), .int (p3), .int (p4)] [] M _) ∧ ((0 : Int32) = 0 → Qx (some (.int (-12))) M)
                          refine ⟨fun q33 => absurd q33 (by decide), fun _ => ?_⟩
                          refine hQx _ _ ⟨(-12), rfl, ?_⟩
                          refine mx_q (fun Qm hQm => ?_)
                          refine mx_go 200 zq_t226 ?_
                          show mx g (d + 5) kX12_isSheet 0 [.ref 48, .int (p0)] [] M _
                          refine c_X12_isSheet (fun k34 k35 => ?_) (fun k36 => by exfalso; (simp only [e1, e2, n_lt, n_le, n_eq, n_add, n_sub, n_mul, n_neg, n_lit, zw] at *; omega))
                          show ((1 : Int32) = 0 → Qm (some (.int (-2))) M) ∧ (¬ (1 : Int32) = 0 → mx g (d + 5) kX12_isSheet 0 [.ref 48, .int (p2)] [] M _)
                          refine ⟨fun q37 => absurd q37 (by decide), fun _ => ?_⟩
                          refine c_X12_isSheet (fun k38 k39 => ?_) (fun k40 => by exfalso; (simp only [e1, e2, n_lt, n_le, n_eq, n_add, n_sub, n_mul, n_neg, n_lit, zw] at *; omega))
                          show (¬ (1 : Int32) = 0 → vp_in p0 4 ∧ ((((M 75) (Int32.toNatClampNeg p0)) : Int32) < 0 → Qm (some (.int (-11))) M) ∧ (¬ (((M 75) (Int32.toNatClampNeg p0)) : Int32) < 0 → vp_in p2 4 ∧ (0 ≤ (((M 75) (Int32.toNatClampNeg p2)) : Int32) → vp_in p0 4 ∧ vp_in p2 4 ∧ ((((M 75) (Int32.toNatClampNeg p0)) : Int32) = (((M 75) (Int32.toNatClampNeg p2)) : Int32) → ((p4 : Int32) < 0 → Qm (some (.int (-12))) M) ∧ (¬ (p4 : Int32) < 0 → ((p1 : Int32) < 0 → Qm (some (.int (-12))) M) ∧ (¬ (p1 : Int32) < 0 → ((p3 : Int32) < 0 → Qm (some (.int (-12))) M) ∧ (¬ (p3 : Int32) < 0 → vp_in p0 4 ∧ (((((M 76) (Int32.toNatClampNeg p0)) - p4) : Int32) < (p1 : Int32) → Qm (some (.int (-12))) M) ∧ (¬ ((((M 76) (Int32.toNatClampNeg p0)) - p4) : Int32) < (p1 : Int32) → vp_in p2 4 ∧ ((p3 : Int32) ≤ ((((M 76) (Int32.toNatClampNeg p2)) - p4) : Int32) → mx g (d + 6) kX12_copy 105 [.ref 48, .int (p0), .int (p1), .int (p2), .int (p3), .int (p4), .int (0)] [] M Qm) ∧ (¬ (p3 : Int32) ≤ ((((M 76) (Int32.toNatClampNeg p2)) - p4) : Int32) → Qm (some (.int (-12))) M)))))) ∧ (¬ (((M 75) (Int32.toNatClampNeg p0)) : Int32) = (((M 75) (Int32.toNatClampNeg p2)) : Int32) → Qm (some (.int (-13))) M)) ∧ (¬ 0 ≤ (((M 75) (Int32.toNatClampNeg p2)) : Int32) → Qm (some (.int (-11))) M))) ∧ ((1 : Int32) = 0 → Qm (some (.int (-2))) M)
                          refine ⟨fun _ => ?_, fun q41 => absurd q41 (by decide)⟩
                          refine ⟨(n_in (by (simp only [e1, e2, n_lt, n_le, n_eq, n_add, n_sub, n_mul, n_neg, n_lit, zw] at *; omega)) (by (simp only [e1, e2, n_lt, n_le, n_eq, n_add, n_sub, n_mul, n_neg, n_lit, zw] at *; omega))), ?_⟩
                          refine ⟨fun q42 => ?_, fun q42 => ?_⟩
                          · exfalso; (simp only [e1, e2, n_lt, n_le, n_eq, n_add, n_sub, n_mul, n_neg, n_lit, zw] at *; omega)
                          · refine ⟨(n_in (by (simp only [e1, e2, n_lt, n_le, n_eq, n_add, n_sub, n_mul, n_neg, n_lit, zw] at *; omega)) (by (simp only [e1, e2, n_lt, n_le, n_eq, n_add, n_sub, n_mul, n_neg, n_lit, zw] at *; omega))), ?_⟩
                            refine ⟨fun q43 => ?_, fun q43 => ?_⟩
                            · refine ⟨(n_in (by (simp only [e1, e2, n_lt, n_le, n_eq, n_add, n_sub, n_mul, n_neg, n_lit, zw] at *; omega)) (by (simp only [e1, e2, n_lt, n_le, n_eq, n_add, n_sub, n_mul, n_neg, n_lit, zw] at *; omega))), ?_⟩
                              refine ⟨(n_in (by (simp only [e1, e2, n_lt, n_le, n_eq, n_add, n_sub, n_mul, n_neg, n_lit, zw] at *; omega)) (by (simp only [e1, e2, n_lt, n_le, n_eq, n_add, n_sub, n_mul, n_neg, n_lit, zw] at *; omega))), ?_⟩
                              refine ⟨fun q44 => ?_, fun q44 => by exfalso; (simp only [e1, e2, n_lt, n_le, n_eq, n_add, n_sub, n_mul, n_neg, n_lit, zw] at *; omega)⟩
                              refine ⟨fun q45 => by exfalso; (simp only [e1, e2, n_lt, n_le, n_eq, n_add, n_sub, n_mul, n_neg, n_lit, zw] at *; omega), fun q45 => ?_⟩
                              refine ⟨fun q46 => by exfalso; (simp only [e1, e2, n_lt, n_le, n_eq, n_add, n_sub, n_mul, n_neg, n_lit, zw] at *; omega), fun q46 => ?_⟩
                              refine ⟨fun q47 => by exfalso; (simp only [e1, e2, n_lt, n_le, n_eq, n_add, n_sub, n_mul, n_neg, n_lit, zw] at *; omega), fun q47 => ?_⟩
                              refine ⟨(n_in (by (simp only [e1, e2, n_lt, n_le, n_eq, n_add, n_sub, n_mul, n_neg, n_lit, zw] at *; omega)) (by (simp only [e1, e2, n_lt, n_le, n_eq, n_add, n_sub, n_mul, n_neg, n_lit, zw] at *; omega))), ?_⟩
                              refine ⟨fun q48 => ?_, fun q48 => ?_⟩
                              · refine hQm _ _ ⟨by first | rfl | simp only [e1, e2], ?_⟩
                                exact hR
                              · refine ⟨(n_in (by (simp only [e1, e2, n_lt, n_le, n_eq, n_add, n_sub, n_mul, n_neg, n_lit, zw] at *; omega)) (by (simp only [e1, e2, n_lt, n_le, n_eq, n_add, n_sub, n_mul, n_neg, n_lit, zw] at *; omega))), ?_⟩
                                refine ⟨fun q49 => ?_, fun q49 => ?_⟩
                                · refine c_X12_copy (by (simp only [e1, e2, n_lt, n_le, n_eq, n_add, n_sub, n_mul, n_neg, n_lit, zw] at *; omega)) (by (simp only [e1, e2, n_lt, n_le, n_eq, n_add, n_sub, n_mul, n_neg, n_lit, zw] at *; omega)) (by (simp only [e1, e2, n_lt, n_le, n_eq, n_add, n_sub, n_mul, n_neg, n_lit, zw] at *; omega)) (by (simp only [e1, e2, n_lt, n_le, n_eq, n_add, n_sub, n_mul, n_neg, n_lit, zw] at *; omega)) (by (simp only [e1, e2, n_lt, n_le, n_eq, n_add, n_sub, n_mul, n_neg, n_lit, zw] at *; omega)) (by (simp only [e1, e2, n_lt, n_le, n_eq, n_add, n_sub, n_mul, n_neg, n_lit, zw] at *; omega)) (by (simp only [e1, e2, n_lt, n_le, n_eq, n_add, n_sub, n_mul, n_neg, n_lit, zw] at *; omega)) (by (simp only [e1, e2, n_lt, n_le, n_eq, n_add, n_sub, n_mul, n_neg, n_lit, zw] at *; omega)) (by (simp only [e1, e2, n_lt, n_le, n_eq, n_add, n_sub, n_mul, n_neg, n_lit, zw] at *; omega)) (fun N50 u51 => ?_)
                                  exfalso; (simp only [e1, e2, n_lt, n_le, n_eq, n_add, n_sub, n_mul, n_neg, n_lit, zw] at *; omega)
                                · refine hQm _ _ ⟨by first | rfl | simp only [e1, e2], ?_⟩
                                  exact hR
                            · exfalso; (simp only [e1, e2, n_lt, n_le, n_eq, n_add, n_sub, n_mul, n_neg, n_lit, zw] at *; omega)
                        · refine ⟨(by first | exact Or.inl rfl | exact Or.inr rfl), ?_⟩
                          refine hQ26 _ _ ?_
                          show (¬ (1 : Int32) = 0 → mx g (d + 5) kX6_copyRow 0 [.ref 44, .int (p0), .int (p1), .int (p2), .int (p3), .int (p4)] [] M _) ∧ ((1 : Int32) = 0 → Qx (some (.int (-12))) M)
                          refine ⟨fun _ => ?_, fun q34 => absurd q34 (by decide)⟩
                          refine mx_q (fun Q35 hQ35 => ?_)
                          refine mx_go 200 zq_t56 ?_
                          show (¬ (((p0 * 40) + p1) : Int32) < 0 ∧ ¬ (((p2 * 40) + p3) : Int32) < 0 ∧ ¬ (p4 : Int32) < 0 ∧ (Int32.toNatClampNeg ((p0 * 40) + p1)) + (Int32.toNatClampNeg p4) ≤ 160 ∧ (Int32.toNatClampNeg ((p2 * 40) + p3)) + (Int32.toNatClampNeg p4) ≤ 160) ∧ Q35 none (zq_ma M 45 (va_cpy ((M 45)) (M 45) (Int32.toNatClampNeg ((p0 * 40) + p1)) (Int32.toNatClampNeg ((p2 * 40) + p3)) (Int32.toNatClampNeg p4)))
                          refine ⟨(n_copy (by (simp only [e1, e2, n_lt, n_le, n_eq, n_add, n_sub, n_mul, n_neg, n_lit, zw] at *; omega)) (by (simp only [e1, e2, n_lt, n_le, n_eq, n_add, n_sub, n_mul, n_neg, n_lit, zw] at *; omega)) (by (simp only [e1, e2, n_lt, n_le, n_eq, n_add, n_sub, n_mul, n_neg, n_lit, zw] at *; omega)) (by (simp only [e1, e2, n_lt, n_le, n_eq, n_add, n_sub, n_mul, n_neg, n_lit, zw] at *; omega)) (by (simp only [e1, e2, n_lt, n_le, n_eq, n_add, n_sub, n_mul, n_neg, n_lit, zw] at *; omega)) (by (simp only [e1, e2, n_lt, n_le, n_eq, n_add, n_sub, n_mul, n_neg, n_lit, zw] at *; omega)) (by (simp only [e1, e2, n_lt, n_le, n_eq, n_add, n_sub, n_mul, n_neg, n_lit, zw] at *; omega)) (by (simp only [e1, e2, n_lt, n_le, n_eq, n_add, n_sub, n_mul, n_neg, n_lit, zw] at *; omega)) (by (simp only [e1, e2, n_lt, n_le, n_eq, n_add, n_sub, n_mul, n_neg, n_lit, zw] at *; omega))), ?_⟩
                          refine hQ35 _ _ ?_
                          show Qx (some (.int p4)) (zq_ma M 45 (va_cpy ((M 45)) (M 45) (Int32.toNatClampNeg ((p0 * 40) + p1)) (Int32.toNatClampNeg ((p2 * 40) + p3)) (Int32.toNatClampNeg p4)))
                          refine hQx _ _ ⟨p4, rfl, ?_⟩
                          refine mx_q (fun Qm hQm => ?_)
                          refine mx_go 200 zq_t226 ?_
                          show mx g (d + 5) kX12_isSheet 0 [.ref 48, .int (p0)] [] (zq_ma M 45 (va_cpy ((M 45)) (M 45) (Int32.toNatClampNeg ((p0 * 40) + p1)) (Int32.toNatClampNeg ((p2 * 40) + p3)) (Int32.toNatClampNeg p4))) _
                          refine c_X12_isSheet (fun k36 k37 => ?_) (fun k38 => by exfalso; (simp only [e1, e2, n_lt, n_le, n_eq, n_add, n_sub, n_mul, n_neg, n_lit, zw] at *; omega))
                          show ((1 : Int32) = 0 → Qm (some (.int (-2))) (zq_ma M 45 (va_cpy ((M 45)) (M 45) (Int32.toNatClampNeg ((p0 * 40) + p1)) (Int32.toNatClampNeg ((p2 * 40) + p3)) (Int32.toNatClampNeg p4)))) ∧ (¬ (1 : Int32) = 0 → mx g (d + 5) kX12_isSheet 0 [.ref 48, .int (p2)] [] (zq_ma M 45 (va_cpy ((M 45)) (M 45) (Int32.toNatClampNeg ((p0 * 40) + p1)) (Int32.toNatClampNeg ((p2 * 40) + p3)) (Int32.toNatClampNeg p4))) _)
                          refine ⟨fun q39 => absurd q39 (by decide), fun _ => ?_⟩
                          refine c_X12_isSheet (fun k40 k41 => ?_) (fun k42 => by exfalso; (simp only [e1, e2, n_lt, n_le, n_eq, n_add, n_sub, n_mul, n_neg, n_lit, zw] at *; omega))
                          show (¬ (1 : Int32) = 0 → vp_in p0 4 ∧ ((((M 75) (Int32.toNatClampNeg p0)) : Int32) < 0 → Qm (some (.int (-11))) (zq_ma M 45 (va_cpy ((M 45)) (M 45) (Int32.toNatClampNeg ((p0 * 40) + p1)) (Int32.toNatClampNeg ((p2 * 40) + p3)) (Int32.toNatClampNeg p4)))) ∧ (¬ (((M 75) (Int32.toNatClampNeg p0)) : Int32) < 0 → vp_in p2 4 ∧ (0 ≤ (((M 75) (Int32.toNatClampNeg p2)) : Int32) → vp_in p0 4 ∧ vp_in p2 4 ∧ ((((M 75) (Int32.toNatClampNeg p0)) : Int32) = (((M 75) (Int32.toNatClampNeg p2)) : Int32) → ((p4 : Int32) < 0 → Qm (some (.int (-12))) (zq_ma M 45 (va_cpy ((M 45)) (M 45) (Int32.toNatClampNeg ((p0 * 40) + p1)) (Int32.toNatClampNeg ((p2 * 40) + p3)) (Int32.toNatClampNeg p4)))) ∧ (¬ (p4 : Int32) < 0 → ((p1 : Int32) < 0 → Qm (some (.int (-12))) (zq_ma M 45 (va_cpy ((M 45)) (M 45) (Int32.toNatClampNeg ((p0 * 40) + p1)) (Int32.toNatClampNeg ((p2 * 40) + p3)) (Int32.toNatClampNeg p4)))) ∧ (¬ (p1 : Int32) < 0 → ((p3 : Int32) < 0 → Qm (some (.int (-12))) (zq_ma M 45 (va_cpy ((M 45)) (M 45) (Int32.toNatClampNeg ((p0 * 40) + p1)) (Int32.toNatClampNeg ((p2 * 40) + p3)) (Int32.toNatClampNeg p4)))) ∧ (¬ (p3 : Int32) < 0 → vp_in p0 4 ∧ (((((M 76) (Int32.toNatClampNeg p0)) - p4) : Int32) < (p1 : Int32) → Qm (some (.int (-12))) (zq_ma M 45 (va_cpy ((M 45)) (M 45) (Int32.toNatClampNeg ((p0 * 40) + p1)) (Int32.toNatClampNeg ((p2 * 40) + p3)) (Int32.toNatClampNeg p4)))) ∧ (¬ ((((M 76) (Int32.toNatClampNeg p0)) - p4) : Int32) < (p1 : Int32) → vp_in p2 4 ∧ ((p3 : Int32) ≤ ((((M 76) (Int32.toNatClampNeg p2)) - p4) : Int32) → mx g (d + 6) kX12_copy 105 [.ref 48, .int (p0), .int (p1), .int (p2), .int (p3), .int (p4), .int (0)] [] (zq_ma M 45 (va_cpy ((M 45)) (M 45) (Int32.toNatClampNeg ((p0 * 40) + p1)) (Int32.toNatClampNeg ((p2 * 40) + p3)) (Int32.toNatClampNeg p4))) Qm) ∧ (¬ (p3 : Int32) ≤ ((((M 76) (Int32.toNatClampNeg p2)) - p4) : Int32) → Qm (some (.int (-12))) (zq_ma M 45 (va_cpy ((M 45)) (M 45) (Int32.toNatClampNeg ((p0 * 40) + p1)) (Int32.toNatClampNeg ((p2 * 40) + p3)) (Int32.toNatClampNeg p4))))))))) ∧ (¬ (((M 75) (Int32.toNatClampNeg p0)) : Int32) = (((M 75) (Int32.toNatClampNeg p2)) : Int32) → Qm (some (.int (-13))) (zq_ma M 45 (va_cpy ((M 45)) (M 45) (Int32.toNatClampNeg ((p0 * 40) + p1)) (Int32.toNatClampNeg ((p2 * 40) + p3)) (Int32.toNatClampNeg p4))))) ∧ (¬ 0 ≤ (((M 75) (Int32.toNatClampNeg p2)) : Int32) → Qm (some (.int (-11))) (zq_ma M 45 (va_cpy ((M 45)) (M 45) (Int32.toNatClampNeg ((p0 * 40) + p1)) (Int32.toNatClampNeg ((p2 * 40) + p3)) (Int32.toNatClampNeg p4)))))) ∧ ((1 : Int32) = 0 → Qm (some (.int (-2))) (zq_ma M 45 (va_cpy ((M 45)) (M 45) (Int32.toNatClampNeg ((p0 * 40) + p1)) (Int32.toNatClampNeg ((p2 * 40) + p3)) (Int32.toNatClampNeg p4))))
                          refine ⟨fun _ => ?_, fun q43 => absurd q43 (by decide)⟩
                          refine ⟨(n_in (by (simp only [e1, e2, n_lt, n_le, n_eq, n_add, n_sub, n_mul, n_neg, n_lit, zw] at *; omega)) (by (simp only [e1, e2, n_lt, n_le, n_eq, n_add, n_sub, n_mul, n_neg, n_lit, zw] at *; omega))), ?_⟩
                          refine ⟨fun q44 => ?_, fun q44 => ?_⟩
                          · exfalso; (simp only [e1, e2, n_lt, n_le, n_eq, n_add, n_sub, n_mul, n_neg, n_lit, zw] at *; omega)
                          · refine ⟨(n_in (by (simp only [e1, e2, n_lt, n_le, n_eq, n_add, n_sub, n_mul, n_neg, n_lit, zw] at *; omega)) (by (simp only [e1, e2, n_lt, n_le, n_eq, n_add, n_sub, n_mul, n_neg, n_lit, zw] at *; omega))), ?_⟩
                            refine ⟨fun q45 => ?_, fun q45 => ?_⟩
                            · refine ⟨(n_in (by (simp only [e1, e2, n_lt, n_le, n_eq, n_add, n_sub, n_mul, n_neg, n_lit, zw] at *; omega)) (by (simp only [e1, e2, n_lt, n_le, n_eq, n_add, n_sub, n_mul, n_neg, n_lit, zw] at *; omega))), ?_⟩
                              refine ⟨(n_in (by (simp only [e1, e2, n_lt, n_le, n_eq, n_add, n_sub, n_mul, n_neg, n_lit, zw] at *; omega)) (by (simp only [e1, e2, n_lt, n_le, n_eq, n_add, n_sub, n_mul, n_neg, n_lit, zw] at *; omega))), ?_⟩
                              refine ⟨fun q46 => ?_, fun q46 => by exfalso; (simp only [e1, e2, n_lt, n_le, n_eq, n_add, n_sub, n_mul, n_neg, n_lit, zw] at *; omega)⟩
                              refine ⟨fun q47 => by exfalso; (simp only [e1, e2, n_lt, n_le, n_eq, n_add, n_sub, n_mul, n_neg, n_lit, zw] at *; omega), fun q47 => ?_⟩
                              refine ⟨fun q48 => by exfalso; (simp only [e1, e2, n_lt, n_le, n_eq, n_add, n_sub, n_mul, n_neg, n_lit, zw] at *; omega), fun q48 => ?_⟩
                              refine ⟨fun q49 => by exfalso; (simp only [e1, e2, n_lt, n_le, n_eq, n_add, n_sub, n_mul, n_neg, n_lit, zw] at *; omega), fun q49 => ?_⟩
                              refine ⟨(n_in (by (simp only [e1, e2, n_lt, n_le, n_eq, n_add, n_sub, n_mul, n_neg, n_lit, zw] at *; omega)) (by (simp only [e1, e2, n_lt, n_le, n_eq, n_add, n_sub, n_mul, n_neg, n_lit, zw] at *; omega))), ?_⟩
                              refine ⟨fun q50 => ?_, fun q50 => ?_⟩
                              · exfalso; (simp only [e1, e2, n_lt, n_le, n_eq, n_add, n_sub, n_mul, n_neg, n_lit, zw] at *; omega)
                              · refine ⟨(n_in (by (simp only [e1, e2, n_lt, n_le, n_eq, n_add, n_sub, n_mul, n_neg, n_lit, zw] at *; omega)) (by (simp only [e1, e2, n_lt, n_le, n_eq, n_add, n_sub, n_mul, n_neg, n_lit, zw] at *; omega))), ?_⟩
                                refine ⟨fun q51 => ?_, fun q51 => ?_⟩
                                · refine c_X12_copy (by (simp only [e1, e2, n_lt, n_le, n_eq, n_add, n_sub, n_mul, n_neg, n_lit, zw] at *; omega)) (by (simp only [e1, e2, n_lt, n_le, n_eq, n_add, n_sub, n_mul, n_neg, n_lit, zw] at *; omega)) (by (simp only [e1, e2, n_lt, n_le, n_eq, n_add, n_sub, n_mul, n_neg, n_lit, zw] at *; omega)) (by (simp only [e1, e2, n_lt, n_le, n_eq, n_add, n_sub, n_mul, n_neg, n_lit, zw] at *; omega)) (by (simp only [e1, e2, n_lt, n_le, n_eq, n_add, n_sub, n_mul, n_neg, n_lit, zw] at *; omega)) (by (simp only [e1, e2, n_lt, n_le, n_eq, n_add, n_sub, n_mul, n_neg, n_lit, zw] at *; omega)) (by (simp only [e1, e2, n_lt, n_le, n_eq, n_add, n_sub, n_mul, n_neg, n_lit, zw] at *; omega)) (by (simp only [e1, e2, n_lt, n_le, n_eq, n_add, n_sub, n_mul, n_neg, n_lit, zw] at *; omega)) (by (simp only [e1, e2, n_lt, n_le, n_eq, n_add, n_sub, n_mul, n_neg, n_lit, zw] at *; omega)) (fun N52 u53 => ?_)
                                  refine hQm _ _ ⟨by first | rfl | simp only [e1, e2], ?_⟩
                                  exact ⟨hS, hN, hH, hT, hP, hI, gE_copy (si := M 47) (p0 := p0) (p1 := p1) (p2 := p2) (p3 := p3) (p4 := p4) hE (by (simp only [e1, e2, n_lt, n_le, n_eq, n_add, n_sub, n_mul, n_neg, n_lit, zw] at *; omega)) (by (simp only [e1, e2, n_lt, n_le, n_eq, n_add, n_sub, n_mul, n_neg, n_lit, zw] at *; omega)) (by (simp only [e1, e2, n_lt, n_le, n_eq, n_add, n_sub, n_mul, n_neg, n_lit, zw] at *; omega)) (by (simp only [e1, e2, n_lt, n_le, n_eq, n_add, n_sub, n_mul, n_neg, n_lit, zw] at *; omega)) (by (simp only [e1, e2, n_lt, n_le, n_eq, n_add, n_sub, n_mul, n_neg, n_lit, zw] at *; omega)) (by (simp only [e1, e2, n_lt, n_le, n_eq, n_add, n_sub, n_mul, n_neg, n_lit, zw] at *; omega)) (by (simp only [e1, e2, n_lt, n_le, n_eq, n_add, n_sub, n_mul, n_neg, n_lit, zw] at *; omega)) (by (simp only [e1, e2, n_lt, n_le, n_eq, n_add, n_sub, n_mul, n_neg, n_lit, zw] at *; omega)) (by (simp only [e1, e2, n_lt, n_le, n_eq, n_add, n_sub, n_mul, n_neg, n_lit, zw] at *; omega)) u53, hF, hX, hV⟩
                                · exfalso; (simp only [e1, e2, n_lt, n_le, n_eq, n_add, n_sub, n_mul, n_neg, n_lit, zw] at *; omega)
                            · exfalso; (simp only [e1, e2, n_lt, n_le, n_eq, n_add, n_sub, n_mul, n_neg, n_lit, zw] at *; omega)
          · refine hQx _ _ ⟨(-13), rfl, ?_⟩
            refine mx_q (fun Qm hQm => ?_)
            refine mx_go 200 zq_t226 ?_
            show mx g (d + 5) kX12_isSheet 0 [.ref 48, .int (p0)] [] M _
            refine c_X12_isSheet (fun k36 k37 => ?_) (fun k38 => by exfalso; (simp only [e1, e2, n_lt, n_le, n_eq, n_add, n_sub, n_mul, n_neg, n_lit, zw] at *; omega))
            show ((1 : Int32) = 0 → Qm (some (.int (-2))) M) ∧ (¬ (1 : Int32) = 0 → mx g (d + 5) kX12_isSheet 0 [.ref 48, .int (p2)] [] M _)
            refine ⟨fun q39 => absurd q39 (by decide), fun _ => ?_⟩
            refine c_X12_isSheet (fun k40 k41 => ?_) (fun k42 => by exfalso; (simp only [e1, e2, n_lt, n_le, n_eq, n_add, n_sub, n_mul, n_neg, n_lit, zw] at *; omega))
            show (¬ (1 : Int32) = 0 → vp_in p0 4 ∧ ((((M 75) (Int32.toNatClampNeg p0)) : Int32) < 0 → Qm (some (.int (-11))) M) ∧ (¬ (((M 75) (Int32.toNatClampNeg p0)) : Int32) < 0 → vp_in p2 4 ∧ (0 ≤ (((M 75) (Int32.toNatClampNeg p2)) : Int32) → vp_in p0 4 ∧ vp_in p2 4 ∧ ((((M 75) (Int32.toNatClampNeg p0)) : Int32) = (((M 75) (Int32.toNatClampNeg p2)) : Int32) → ((p4 : Int32) < 0 → Qm (some (.int (-12))) M) ∧ (¬ (p4 : Int32) < 0 → ((p1 : Int32) < 0 → Qm (some (.int (-12))) M) ∧ (¬ (p1 : Int32) < 0 → ((p3 : Int32) < 0 → Qm (some (.int (-12))) M) ∧ (¬ (p3 : Int32) < 0 → vp_in p0 4 ∧ (((((M 76) (Int32.toNatClampNeg p0)) - p4) : Int32) < (p1 : Int32) → Qm (some (.int (-12))) M) ∧ (¬ ((((M 76) (Int32.toNatClampNeg p0)) - p4) : Int32) < (p1 : Int32) → vp_in p2 4 ∧ ((p3 : Int32) ≤ ((((M 76) (Int32.toNatClampNeg p2)) - p4) : Int32) → mx g (d + 6) kX12_copy 105 [.ref 48, .int (p0), .int (p1), .int (p2), .int (p3), .int (p4), .int (0)] [] M Qm) ∧ (¬ (p3 : Int32) ≤ ((((M 76) (Int32.toNatClampNeg p2)) - p4) : Int32) → Qm (some (.int (-12))) M)))))) ∧ (¬ (((M 75) (Int32.toNatClampNeg p0)) : Int32) = (((M 75) (Int32.toNatClampNeg p2)) : Int32) → Qm (some (.int (-13))) M)) ∧ (¬ 0 ≤ (((M 75) (Int32.toNatClampNeg p2)) : Int32) → Qm (some (.int (-11))) M))) ∧ ((1 : Int32) = 0 → Qm (some (.int (-2))) M)
            refine ⟨fun _ => ?_, fun q43 => absurd q43 (by decide)⟩
            refine ⟨(n_in (by (simp only [e1, e2, n_lt, n_le, n_eq, n_add, n_sub, n_mul, n_neg, n_lit, zw] at *; omega)) (by (simp only [e1, e2, n_lt, n_le, n_eq, n_add, n_sub, n_mul, n_neg, n_lit, zw] at *; omega))), ?_⟩
            refine ⟨fun q44 => ?_, fun q44 => ?_⟩
            · exfalso; (simp only [e1, e2, n_lt, n_le, n_eq, n_add, n_sub, n_mul, n_neg, n_lit, zw] at *; omega)
            · refine ⟨(n_in (by (simp only [e1, e2, n_lt, n_le, n_eq, n_add, n_sub, n_mul, n_neg, n_lit, zw] at *; omega)) (by (simp only [e1, e2, n_lt, n_le, n_eq, n_add, n_sub, n_mul, n_neg, n_lit, zw] at *; omega))), ?_⟩
              refine ⟨fun q45 => ?_, fun q45 => ?_⟩
              · refine ⟨(n_in (by (simp only [e1, e2, n_lt, n_le, n_eq, n_add, n_sub, n_mul, n_neg, n_lit, zw] at *; omega)) (by (simp only [e1, e2, n_lt, n_le, n_eq, n_add, n_sub, n_mul, n_neg, n_lit, zw] at *; omega))), ?_⟩
                refine ⟨(n_in (by (simp only [e1, e2, n_lt, n_le, n_eq, n_add, n_sub, n_mul, n_neg, n_lit, zw] at *; omega)) (by (simp only [e1, e2, n_lt, n_le, n_eq, n_add, n_sub, n_mul, n_neg, n_lit, zw] at *; omega))), ?_⟩
                refine ⟨fun q46 => by exfalso; (simp only [e1, e2, n_lt, n_le, n_eq, n_add, n_sub, n_mul, n_neg, n_lit, zw] at *; omega), fun q46 => ?_⟩
                refine hQm _ _ ⟨by first | rfl | simp only [e1, e2], ?_⟩
                exact hR
              · exfalso; (simp only [e1, e2, n_lt, n_le, n_eq, n_add, n_sub, n_mul, n_neg, n_lit, zw] at *; omega)
        · refine ⟨(by first | exact Or.inl rfl | exact Or.inr rfl), ?_⟩
          refine hQ12 _ _ ?_
          show ((1 : Int32) = 0 → vp_in p0 4 ∧ vp_in p2 4 ∧ ((((M 46) (Int32.toNatClampNeg p0)) : Int32) = (((M 46) (Int32.toNatClampNeg p2)) : Int32) → mx g (d + 5) kX6_hasRow 0 [.ref 44, .int (p0), .int (p1), .int (p4)] [] M _) ∧ (¬ (((M 46) (Int32.toNatClampNeg p0)) : Int32) = (((M 46) (Int32.toNatClampNeg p2)) : Int32) → Qx (some (.int (-13))) M)) ∧ (¬ (1 : Int32) = 0 → Qx (some (.int (-11))) M)
          refine ⟨fun q36 => absurd q36 (by decide), fun _ => ?_⟩
          refine hQx _ _ ⟨(-11), rfl, ?_⟩
          refine mx_q (fun Qm hQm => ?_)
          refine mx_go 200 zq_t226 ?_
          show mx g (d + 5) kX12_isSheet 0 [.ref 48, .int (p0)] [] M _
          refine c_X12_isSheet (fun k37 k38 => ?_) (fun k39 => by exfalso; (simp only [e1, e2, n_lt, n_le, n_eq, n_add, n_sub, n_mul, n_neg, n_lit, zw] at *; omega))
          show ((1 : Int32) = 0 → Qm (some (.int (-2))) M) ∧ (¬ (1 : Int32) = 0 → mx g (d + 5) kX12_isSheet 0 [.ref 48, .int (p2)] [] M _)
          refine ⟨fun q40 => absurd q40 (by decide), fun _ => ?_⟩
          refine c_X12_isSheet (fun k41 k42 => ?_) (fun k43 => by exfalso; (simp only [e1, e2, n_lt, n_le, n_eq, n_add, n_sub, n_mul, n_neg, n_lit, zw] at *; omega))
          show (¬ (1 : Int32) = 0 → vp_in p0 4 ∧ ((((M 75) (Int32.toNatClampNeg p0)) : Int32) < 0 → Qm (some (.int (-11))) M) ∧ (¬ (((M 75) (Int32.toNatClampNeg p0)) : Int32) < 0 → vp_in p2 4 ∧ (0 ≤ (((M 75) (Int32.toNatClampNeg p2)) : Int32) → vp_in p0 4 ∧ vp_in p2 4 ∧ ((((M 75) (Int32.toNatClampNeg p0)) : Int32) = (((M 75) (Int32.toNatClampNeg p2)) : Int32) → ((p4 : Int32) < 0 → Qm (some (.int (-12))) M) ∧ (¬ (p4 : Int32) < 0 → ((p1 : Int32) < 0 → Qm (some (.int (-12))) M) ∧ (¬ (p1 : Int32) < 0 → ((p3 : Int32) < 0 → Qm (some (.int (-12))) M) ∧ (¬ (p3 : Int32) < 0 → vp_in p0 4 ∧ (((((M 76) (Int32.toNatClampNeg p0)) - p4) : Int32) < (p1 : Int32) → Qm (some (.int (-12))) M) ∧ (¬ ((((M 76) (Int32.toNatClampNeg p0)) - p4) : Int32) < (p1 : Int32) → vp_in p2 4 ∧ ((p3 : Int32) ≤ ((((M 76) (Int32.toNatClampNeg p2)) - p4) : Int32) → mx g (d + 6) kX12_copy 105 [.ref 48, .int (p0), .int (p1), .int (p2), .int (p3), .int (p4), .int (0)] [] M Qm) ∧ (¬ (p3 : Int32) ≤ ((((M 76) (Int32.toNatClampNeg p2)) - p4) : Int32) → Qm (some (.int (-12))) M)))))) ∧ (¬ (((M 75) (Int32.toNatClampNeg p0)) : Int32) = (((M 75) (Int32.toNatClampNeg p2)) : Int32) → Qm (some (.int (-13))) M)) ∧ (¬ 0 ≤ (((M 75) (Int32.toNatClampNeg p2)) : Int32) → Qm (some (.int (-11))) M))) ∧ ((1 : Int32) = 0 → Qm (some (.int (-2))) M)
          refine ⟨fun _ => ?_, fun q44 => absurd q44 (by decide)⟩
          refine ⟨(n_in (by (simp only [e1, e2, n_lt, n_le, n_eq, n_add, n_sub, n_mul, n_neg, n_lit, zw] at *; omega)) (by (simp only [e1, e2, n_lt, n_le, n_eq, n_add, n_sub, n_mul, n_neg, n_lit, zw] at *; omega))), ?_⟩
          refine ⟨fun q45 => ?_, fun q45 => ?_⟩
          · refine hQm _ _ ⟨by first | rfl | simp only [e1, e2], ?_⟩
            exact hR
          · refine ⟨(n_in (by (simp only [e1, e2, n_lt, n_le, n_eq, n_add, n_sub, n_mul, n_neg, n_lit, zw] at *; omega)) (by (simp only [e1, e2, n_lt, n_le, n_eq, n_add, n_sub, n_mul, n_neg, n_lit, zw] at *; omega))), ?_⟩
            refine ⟨fun q46 => by exfalso; (simp only [e1, e2, n_lt, n_le, n_eq, n_add, n_sub, n_mul, n_neg, n_lit, zw] at *; omega), fun q46 => ?_⟩
            refine hQm _ _ ⟨by first | rfl | simp only [e1, e2], ?_⟩
            exact hR
      · refine ⟨(by first | exact Or.inl rfl | exact Or.inr rfl), ?_⟩
        refine hQ9 _ _ ?_
        show (¬ (1 : Int32) = 0 → Qx (some (.int (-11))) M) ∧ ((1 : Int32) = 0 → mx g (d + 5) kX6_isMissing 0 [.ref 44, .int (p2)] [] M _)
        refine ⟨fun _ => ?_, fun q37 => absurd q37 (by decide)⟩
        refine hQx _ _ ⟨(-11), rfl, ?_⟩
        refine mx_q (fun Qm hQm => ?_)
        refine mx_go 200 zq_t226 ?_
        show mx g (d + 5) kX12_isSheet 0 [.ref 48, .int (p0)] [] M _
        refine c_X12_isSheet (fun k38 k39 => ?_) (fun k40 => by exfalso; (simp only [e1, e2, n_lt, n_le, n_eq, n_add, n_sub, n_mul, n_neg, n_lit, zw] at *; omega))
        show ((1 : Int32) = 0 → Qm (some (.int (-2))) M) ∧ (¬ (1 : Int32) = 0 → mx g (d + 5) kX12_isSheet 0 [.ref 48, .int (p2)] [] M _)
        refine ⟨fun q41 => absurd q41 (by decide), fun _ => ?_⟩
        refine c_X12_isSheet (fun k42 k43 => ?_) (fun k44 => by exfalso; (simp only [e1, e2, n_lt, n_le, n_eq, n_add, n_sub, n_mul, n_neg, n_lit, zw] at *; omega))
        show (¬ (1 : Int32) = 0 → vp_in p0 4 ∧ ((((M 75) (Int32.toNatClampNeg p0)) : Int32) < 0 → Qm (some (.int (-11))) M) ∧ (¬ (((M 75) (Int32.toNatClampNeg p0)) : Int32) < 0 → vp_in p2 4 ∧ (0 ≤ (((M 75) (Int32.toNatClampNeg p2)) : Int32) → vp_in p0 4 ∧ vp_in p2 4 ∧ ((((M 75) (Int32.toNatClampNeg p0)) : Int32) = (((M 75) (Int32.toNatClampNeg p2)) : Int32) → ((p4 : Int32) < 0 → Qm (some (.int (-12))) M) ∧ (¬ (p4 : Int32) < 0 → ((p1 : Int32) < 0 → Qm (some (.int (-12))) M) ∧ (¬ (p1 : Int32) < 0 → ((p3 : Int32) < 0 → Qm (some (.int (-12))) M) ∧ (¬ (p3 : Int32) < 0 → vp_in p0 4 ∧ (((((M 76) (Int32.toNatClampNeg p0)) - p4) : Int32) < (p1 : Int32) → Qm (some (.int (-12))) M) ∧ (¬ ((((M 76) (Int32.toNatClampNeg p0)) - p4) : Int32) < (p1 : Int32) → vp_in p2 4 ∧ ((p3 : Int32) ≤ ((((M 76) (Int32.toNatClampNeg p2)) - p4) : Int32) → mx g (d + 6) kX12_copy 105 [.ref 48, .int (p0), .int (p1), .int (p2), .int (p3), .int (p4), .int (0)] [] M Qm) ∧ (¬ (p3 : Int32) ≤ ((((M 76) (Int32.toNatClampNeg p2)) - p4) : Int32) → Qm (some (.int (-12))) M)))))) ∧ (¬ (((M 75) (Int32.toNatClampNeg p0)) : Int32) = (((M 75) (Int32.toNatClampNeg p2)) : Int32) → Qm (some (.int (-13))) M)) ∧ (¬ 0 ≤ (((M 75) (Int32.toNatClampNeg p2)) : Int32) → Qm (some (.int (-11))) M))) ∧ ((1 : Int32) = 0 → Qm (some (.int (-2))) M)
        refine ⟨fun _ => ?_, fun q45 => absurd q45 (by decide)⟩
        refine ⟨(n_in (by (simp only [e1, e2, n_lt, n_le, n_eq, n_add, n_sub, n_mul, n_neg, n_lit, zw] at *; omega)) (by (simp only [e1, e2, n_lt, n_le, n_eq, n_add, n_sub, n_mul, n_neg, n_lit, zw] at *; omega))), ?_⟩
        refine ⟨fun q46 => ?_, fun q46 => by exfalso; (simp only [e1, e2, n_lt, n_le, n_eq, n_add, n_sub, n_mul, n_neg, n_lit, zw] at *; omega)⟩
        refine hQm _ _ ⟨by first | rfl | simp only [e1, e2], ?_⟩
        exact hR
    · show (¬ (0 : Int32) = 0 → mx g (d + 5) kX6_isMissing 0 [.ref 44, .int (p0)] [] M _) ∧ ((0 : Int32) = 0 → Qx (some (.int (-2))) M)
      refine ⟨fun q38 => absurd q38 (by decide), fun _ => ?_⟩
      refine hQx _ _ ⟨(-2), rfl, ?_⟩
      refine mx_q (fun Qm hQm => ?_)
      refine mx_go 200 zq_t226 ?_
      show mx g (d + 5) kX12_isSheet 0 [.ref 48, .int (p0)] [] M _
      refine c_X12_isSheet (fun k39 k40 => ?_) (fun k41 => by exfalso; (simp only [e1, e2, n_lt, n_le, n_eq, n_add, n_sub, n_mul, n_neg, n_lit, zw] at *; omega))
      show ((1 : Int32) = 0 → Qm (some (.int (-2))) M) ∧ (¬ (1 : Int32) = 0 → mx g (d + 5) kX12_isSheet 0 [.ref 48, .int (p2)] [] M _)
      refine ⟨fun q42 => absurd q42 (by decide), fun _ => ?_⟩
      refine c_X12_isSheet (fun k43 k44 => by exfalso; (simp only [e1, e2, n_lt, n_le, n_eq, n_add, n_sub, n_mul, n_neg, n_lit, zw] at *; omega)) (fun k45 => ?_)
      show (¬ (0 : Int32) = 0 → vp_in p0 4 ∧ ((((M 75) (Int32.toNatClampNeg p0)) : Int32) < 0 → Qm (some (.int (-11))) M) ∧ (¬ (((M 75) (Int32.toNatClampNeg p0)) : Int32) < 0 → vp_in p2 4 ∧ (0 ≤ (((M 75) (Int32.toNatClampNeg p2)) : Int32) → vp_in p0 4 ∧ vp_in p2 4 ∧ ((((M 75) (Int32.toNatClampNeg p0)) : Int32) = (((M 75) (Int32.toNatClampNeg p2)) : Int32) → ((p4 : Int32) < 0 → Qm (some (.int (-12))) M) ∧ (¬ (p4 : Int32) < 0 → ((p1 : Int32) < 0 → Qm (some (.int (-12))) M) ∧ (¬ (p1 : Int32) < 0 → ((p3 : Int32) < 0 → Qm (some (.int (-12))) M) ∧ (¬ (p3 : Int32) < 0 → vp_in p0 4 ∧ (((((M 76) (Int32.toNatClampNeg p0)) - p4) : Int32) < (p1 : Int32) → Qm (some (.int (-12))) M) ∧ (¬ ((((M 76) (Int32.toNatClampNeg p0)) - p4) : Int32) < (p1 : Int32) → vp_in p2 4 ∧ ((p3 : Int32) ≤ ((((M 76) (Int32.toNatClampNeg p2)) - p4) : Int32) → mx g (d + 6) kX12_copy 105 [.ref 48, .int (p0), .int (p1), .int (p2), .int (p3), .int (p4), .int (0)] [] M Qm) ∧ (¬ (p3 : Int32) ≤ ((((M 76) (Int32.toNatClampNeg p2)) - p4) : Int32) → Qm (some (.int (-12))) M)))))) ∧ (¬ (((M 75) (Int32.toNatClampNeg p0)) : Int32) = (((M 75) (Int32.toNatClampNeg p2)) : Int32) → Qm (some (.int (-13))) M)) ∧ (¬ 0 ≤ (((M 75) (Int32.toNatClampNeg p2)) : Int32) → Qm (some (.int (-11))) M))) ∧ ((0 : Int32) = 0 → Qm (some (.int (-2))) M)
      refine ⟨fun q46 => absurd q46 (by decide), fun _ => ?_⟩
      refine hQm _ _ ⟨by first | rfl | simp only [e1, e2], ?_⟩
      exact hR
  · show ((0 : Int32) = 0 → Qx (some (.int (-2))) M) ∧ (¬ (0 : Int32) = 0 → mx g (d + 5) kX11_isSheet 0 [.int (p2)] [] M _)
    refine ⟨fun _ => ?_, fun q39 => absurd q39 (by decide)⟩
    refine hQx _ _ ⟨(-2), rfl, ?_⟩
    refine mx_q (fun Qm hQm => ?_)
    refine mx_go 200 zq_t226 ?_
    show mx g (d + 5) kX12_isSheet 0 [.ref 48, .int (p0)] [] M _
    refine c_X12_isSheet (fun k40 k41 => by exfalso; (simp only [e1, e2, n_lt, n_le, n_eq, n_add, n_sub, n_mul, n_neg, n_lit, zw] at *; omega)) (fun k42 => ?_)
    show ((0 : Int32) = 0 → Qm (some (.int (-2))) M) ∧ (¬ (0 : Int32) = 0 → mx g (d + 5) kX12_isSheet 0 [.ref 48, .int (p2)] [] M _)
    refine ⟨fun _ => ?_, fun q43 => absurd q43 (by decide)⟩
    refine hQm _ _ ⟨by first | rfl | simp only [e1, e2], ?_⟩
    exact hR

