theorem c_X12_isUnder {g : zq_G} {d : Nat} {M : zq_M} {Q : Option Value → zq_M → Prop} {k o : Int32} (h1 : und k.toInt o.toInt → True → Q (some (.int 1)) M) (h0 : ¬ und k.toInt o.toInt → Q (some (.int 0)) M) : mx g (d + 1) kX12_isUnder 0 [.ref 48, .int k, .int o] [] M Q := by
  refine mx_go 200 zq_t228 ?_
  show ((o : Int32) = 0 → zq_b 1 ∧ Q (some (.int 1)) M) ∧ (¬ (o : Int32) = 0 → (¬ (k : Int32) = (o : Int32) → (¬ (o : Int32) = (1 : Int32) → (¬ (o : Int32) = (2 : Int32) → zq_b 0 ∧ Q (some (.int 0)) M) ∧ ((o : Int32) = (2 : Int32) → mx g (d) kX12_in 0 [.ref 48, .int (k), .int (3), .int (4)] [] M _)) ∧ ((o : Int32) = (1 : Int32) → mx g (d) kX12_in 0 [.ref 48, .int (k), .int (2), .int (4)] [] M _)) ∧ ((k : Int32) = (o : Int32) → zq_b 1 ∧ Q (some (.int 1)) M))
  refine ⟨fun q1 => ?_, fun q1 => ?_⟩
  · refine ⟨(by first | exact Or.inl rfl | exact Or.inr rfl), ?_⟩
    exact h1 (by unfold und; (simp only [n_lt, n_le, n_eq, n_add, n_sub, n_mul, n_neg, n_lit, zw] at *; omega)) trivial
  · refine ⟨fun q2 => ?_, fun q2 => ?_⟩
    · refine ⟨fun q3 => ?_, fun q3 => ?_⟩
      · refine ⟨fun q4 => ?_, fun q4 => ?_⟩
        · refine ⟨(by first | exact Or.inl rfl | exact Or.inr rfl), ?_⟩
          exact h0 (by unfold und; (simp only [n_lt, n_le, n_eq, n_add, n_sub, n_mul, n_neg, n_lit, zw] at *; omega))
        · refine c_X12_in (fun k5 k6 => ?_) (fun k7 => ?_)
          · show ((1 : Int32) = 0 → zq_b 0 ∧ Q (some (.int 0)) M) ∧ (¬ (1 : Int32) = 0 → zq_b 1 ∧ Q (some (.int 1)) M)
            refine ⟨fun q8 => absurd q8 (by decide), fun _ => ?_⟩
            refine ⟨(by first | exact Or.inl rfl | exact Or.inr rfl), ?_⟩
            exact h1 (by unfold und; (simp only [n_lt, n_le, n_eq, n_add, n_sub, n_mul, n_neg, n_lit, zw] at *; omega)) trivial
          · show ((0 : Int32) = 0 → zq_b 0 ∧ Q (some (.int 0)) M) ∧ (¬ (0 : Int32) = 0 → zq_b 1 ∧ Q (some (.int 1)) M)
            refine ⟨fun _ => ?_, fun q9 => absurd q9 (by decide)⟩
            refine ⟨(by first | exact Or.inl rfl | exact Or.inr rfl), ?_⟩
            exact h0 (by unfold und; (simp only [n_lt, n_le, n_eq, n_add, n_sub, n_mul, n_neg, n_lit, zw] at *; omega))
      · refine c_X12_in (fun k10 k11 => ?_) (fun k12 => ?_)
        · show zq_b 1 ∧ Q (some (.int 1)) M
          refine ⟨(by first | exact Or.inl rfl | exact Or.inr rfl), ?_⟩
          exact h1 (by unfold und; (simp only [n_lt, n_le, n_eq, n_add, n_sub, n_mul, n_neg, n_lit, zw] at *; omega)) trivial
        · show zq_b 0 ∧ Q (some (.int 0)) M
          refine ⟨(by first | exact Or.inl rfl | exact Or.inr rfl), ?_⟩
          exact h0 (by unfold und; (simp only [n_lt, n_le, n_eq, n_add, n_sub, n_mul, n_neg, n_lit, zw] at *; omega))
    · refine ⟨(by first | exact Or.inl rfl | exact Or.inr rfl), ?_⟩
      exact h1 (by unfold und; (simp only [n_lt, n_le, n_eq, n_add, n_sub, n_mul, n_neg, n_lit, zw] at *; omega)) trivial
set_option maxHeartbeats 4000000 in
theorem op_taken {g : zq_G} {d : Nat} {M : zq_M} {p0 p1 : Int32} (hR : RR M) : pri g (d + 6) kX11_taken kX12_taken [.ref 0, .int (p0), .int (p1)] [.ref 48, .int (p0), .int (p1)] M := by
  obtain ⟨hS, hN, hH, hT, hP, hI, hE, hF, hX, hV⟩ := id hR
  obtain ⟨h1, h2, h3, h4, h5, h6, h7⟩ := id hH
  refine mx_q (fun Qx hQx => ?_)
  refine mx_go 200 zq_t124 ?_
  show mx g (d + 5) kX11_isKind 0 [.int (p1)] [] M _
  refine c_X11_isKind (fun k1 k2 => ?_) (fun k3 => ?_)
  · show (¬ (1 : Int32) = 0 → mx g (d + 5) kX0_has 0 [.ref 10, .int (p0)] [] M _) ∧ ((1 : Int32) = 0 → Qx (some (.int (-2))) M)
    refine ⟨fun _ => ?_, fun q4 => absurd q4 (by decide)⟩
    refine c_X0_has (n := (M 10 2)) rfl (fun k5 k6 => ?_) (fun k7 => ?_)
    · show (¬ (1 : Int32) = 0 → vp_in p0 8 ∧ mx g (d + 5) kX11_isUnder 0 [.int (((M 11) (Int32.toNatClampNeg p0))), .int (p1), .null, .null] [] M _) ∧ ((1 : Int32) = 0 → Qx (some (.int (-11))) M)
      refine ⟨fun _ => ?_, fun q8 => absurd q8 (by decide)⟩
      refine ⟨(n_in (by (first | (simp only [n_lt, n_le, n_eq, n_add, n_sub, n_mul, n_neg, n_lit, zw] at *; omega) | (simp only [h2, h3] at *; contradiction))) (by (first | (simp only [n_lt, n_le, n_eq, n_add, n_sub, n_mul, n_neg, n_lit, zw] at *; omega) | (simp only [h2, h3] at *; contradiction)))), ?_⟩
      refine c_X11_isUnder (h6 _) ⟨by (simp only [n_lt, n_le, n_eq, n_add, n_sub, n_mul, n_neg, n_lit, zw] at *; omega), by (simp only [n_lt, n_le, n_eq, n_add, n_sub, n_mul, n_neg, n_lit, zw] at *; omega)⟩ (fun k9 k10 => ?_) (fun k11 => ?_)
      · show ((1 : Int32) = 0 → Qx (some (.int (-13))) M) ∧ (¬ (1 : Int32) = 0 → vp_in p0 8 ∧ Qx (some (.int ((M 12) (Int32.toNatClampNeg p0)))) M)
        refine ⟨fun q12 => absurd q12 (by decide), fun _ => ?_⟩
        refine ⟨(n_in (by (first | (simp only [n_lt, n_le, n_eq, n_add, n_sub, n_mul, n_neg, n_lit, zw] at *; omega) | (simp only [h2, h3] at *; contradiction))) (by (first | (simp only [n_lt, n_le, n_eq, n_add, n_sub, n_mul, n_neg, n_lit, zw] at *; omega) | (simp only [h2, h3] at *; contradiction)))), ?_⟩
        refine hQx _ _ ⟨((M 12) (Int32.toNatClampNeg p0)), rfl, ?_⟩
        refine mx_q (fun Qm hQm => ?_)
        refine mx_go 200 zq_t229 ?_
        show mx g (d + 5) kX12_in 0 [.ref 48, .int (p1), .int (0), .int (5)] [] M _
        refine c_X12_in (fun k13 k14 => ?_) (fun k15 => by exfalso; (first | (simp only [n_lt, n_le, n_eq, n_add, n_sub, n_mul, n_neg, n_lit, zw] at *; omega) | (simp only [h2, h3] at *; contradiction)))
        show (¬ (1 : Int32) = 0 → mx g (d + 5) kX12_isHow 0 [.ref 48, .int (p0)] [] M _) ∧ ((1 : Int32) = 0 → Qm (some (.int (-2))) M)
        refine ⟨fun _ => ?_, fun q16 => absurd q16 (by decide)⟩
        refine c_X12_isHow (n := (M 48 2)) rfl (by (simp only [n_lt, n_le, n_eq, n_add, n_sub, n_mul, n_neg, n_lit, zw] at *; omega)) (fun k17 k18 => ?_) (fun k19 => by exfalso; (first | (simp only [n_lt, n_le, n_eq, n_add, n_sub, n_mul, n_neg, n_lit, zw] at *; omega) | (simp only [h2, h3] at *; contradiction)))
        show (¬ (1 : Int32) = 0 → vp_in p0 8 ∧ mx g (d + 5) kX12_isUnder 0 [.ref 48, .int (((M 55) (Int32.toNatClampNeg p0))), .int (p1)] [] M _) ∧ ((1 : Int32) = 0 → Qm (some (.int (-11))) M)
        refine ⟨fun _ => ?_, fun q20 => absurd q20 (by decide)⟩
        refine ⟨(n_in (by (first | (simp only [n_lt, n_le, n_eq, n_add, n_sub, n_mul, n_neg, n_lit, zw] at *; omega) | (simp only [h2, h3] at *; contradiction))) (by (first | (simp only [n_lt, n_le, n_eq, n_add, n_sub, n_mul, n_neg, n_lit, zw] at *; omega) | (simp only [h2, h3] at *; contradiction)))), ?_⟩
        refine c_X12_isUnder (fun k21 k22 => ?_) (fun k23 => by exfalso; (first | (simp only [n_lt, n_le, n_eq, n_add, n_sub, n_mul, n_neg, n_lit, zw] at *; omega) | (simp only [h2, h3] at *; contradiction)))
        show ((1 : Int32) = 0 → Qm (some (.int (-13))) M) ∧ (¬ (1 : Int32) = 0 → vp_in p0 8 ∧ Qm (some (.int ((M 56) (Int32.toNatClampNeg p0)))) M)
        refine ⟨fun q24 => absurd q24 (by decide), fun _ => ?_⟩
        refine ⟨(n_in (by (first | (simp only [n_lt, n_le, n_eq, n_add, n_sub, n_mul, n_neg, n_lit, zw] at *; omega) | (simp only [h2, h3] at *; contradiction))) (by (first | (simp only [n_lt, n_le, n_eq, n_add, n_sub, n_mul, n_neg, n_lit, zw] at *; omega) | (simp only [h2, h3] at *; contradiction)))), ?_⟩
        refine hQm _ _ ⟨by first | rfl | simp only [h1, h2, h3], ?_⟩
        exact hR
      · show ((0 : Int32) = 0 → Qx (some (.int (-13))) M) ∧ (¬ (0 : Int32) = 0 → vp_in p0 8 ∧ Qx (some (.int ((M 12) (Int32.toNatClampNeg p0)))) M)
        refine ⟨fun _ => ?_, fun q13 => absurd q13 (by decide)⟩
        refine hQx _ _ ⟨(-13), rfl, ?_⟩
        refine mx_q (fun Qm hQm => ?_)
        refine mx_go 200 zq_t229 ?_
        show mx g (d + 5) kX12_in 0 [.ref 48, .int (p1), .int (0), .int (5)] [] M _
        refine c_X12_in (fun k14 k15 => ?_) (fun k16 => by exfalso; (first | (simp only [n_lt, n_le, n_eq, n_add, n_sub, n_mul, n_neg, n_lit, zw] at *; omega) | (simp only [h2, h3] at *; contradiction)))
        show (¬ (1 : Int32) = 0 → mx g (d + 5) kX12_isHow 0 [.ref 48, .int (p0)] [] M _) ∧ ((1 : Int32) = 0 → Qm (some (.int (-2))) M)
        refine ⟨fun _ => ?_, fun q17 => absurd q17 (by decide)⟩
        refine c_X12_isHow (n := (M 48 2)) rfl (by (simp only [n_lt, n_le, n_eq, n_add, n_sub, n_mul, n_neg, n_lit, zw] at *; omega)) (fun k18 k19 => ?_) (fun k20 => by exfalso; (first | (simp only [n_lt, n_le, n_eq, n_add, n_sub, n_mul, n_neg, n_lit, zw] at *; omega) | (simp only [h2, h3] at *; contradiction)))
        show (¬ (1 : Int32) = 0 → vp_in p0 8 ∧ mx g (d + 5) kX12_isUnder 0 [.ref 48, .int (((M 55) (Int32.toNatClampNeg p0))), .int (p1)] [] M _) ∧ ((1 : Int32) = 0 → Qm (some (.int (-11))) M)
        refine ⟨fun _ => ?_, fun q21 => absurd q21 (by decide)⟩
        refine ⟨(n_in (by (first | (simp only [n_lt, n_le, n_eq, n_add, n_sub, n_mul, n_neg, n_lit, zw] at *; omega) | (simp only [h2, h3] at *; contradiction))) (by (first | (simp only [n_lt, n_le, n_eq, n_add, n_sub, n_mul, n_neg, n_lit, zw] at *; omega) | (simp only [h2, h3] at *; contradiction)))), ?_⟩
        refine c_X12_isUnder (fun k22 k23 => by exfalso; (first | (simp only [n_lt, n_le, n_eq, n_add, n_sub, n_mul, n_neg, n_lit, zw] at *; omega) | (simp only [h2, h3] at *; contradiction))) (fun k24 => ?_)
        show ((0 : Int32) = 0 → Qm (some (.int (-13))) M) ∧ (¬ (0 : Int32) = 0 → vp_in p0 8 ∧ Qm (some (.int ((M 56) (Int32.toNatClampNeg p0)))) M)
        refine ⟨fun _ => ?_, fun q25 => absurd q25 (by decide)⟩
        refine hQm _ _ ⟨by first | rfl | simp only [h1, h2, h3], ?_⟩
        exact hR
    · show (¬ (0 : Int32) = 0 → vp_in p0 8 ∧ mx g (d + 5) kX11_isUnder 0 [.int (((M 11) (Int32.toNatClampNeg p0))), .int (p1), .null, .null] [] M _) ∧ ((0 : Int32) = 0 → Qx (some (.int (-11))) M)
      refine ⟨fun q14 => absurd q14 (by decide), fun _ => ?_⟩
      refine hQx _ _ ⟨(-11), rfl, ?_⟩
      refine mx_q (fun Qm hQm => ?_)
      refine mx_go 200 zq_t229 ?_
      show mx g (d + 5) kX12_in 0 [.ref 48, .int (p1), .int (0), .int (5)] [] M _
      refine c_X12_in (fun k15 k16 => ?_) (fun k17 => by exfalso; (first | (simp only [n_lt, n_le, n_eq, n_add, n_sub, n_mul, n_neg, n_lit, zw] at *; omega) | (simp only [h2, h3] at *; contradiction)))
      show (¬ (1 : Int32) = 0 → mx g (d + 5) kX12_isHow 0 [.ref 48, .int (p0)] [] M _) ∧ ((1 : Int32) = 0 → Qm (some (.int (-2))) M)
      refine ⟨fun _ => ?_, fun q18 => absurd q18 (by decide)⟩
      refine c_X12_isHow (n := (M 48 2)) rfl (by (simp only [n_lt, n_le, n_eq, n_add, n_sub, n_mul, n_neg, n_lit, zw] at *; omega)) (fun k19 k20 => by exfalso; (first | (simp only [n_lt, n_le, n_eq, n_add, n_sub, n_mul, n_neg, n_lit, zw] at *; omega) | (simp only [h2, h3] at *; contradiction))) (fun k21 => ?_)
      show (¬ (0 : Int32) = 0 → vp_in p0 8 ∧ mx g (d + 5) kX12_isUnder 0 [.ref 48, .int (((M 55) (Int32.toNatClampNeg p0))), .int (p1)] [] M _) ∧ ((0 : Int32) = 0 → Qm (some (.int (-11))) M)
      refine ⟨fun q22 => absurd q22 (by decide), fun _ => ?_⟩
      refine hQm _ _ ⟨by first | rfl | simp only [h1, h2, h3], ?_⟩
      exact hR
  · show (¬ (0 : Int32) = 0 → mx g (d + 5) kX0_has 0 [.ref 10, .int (p0)] [] M _) ∧ ((0 : Int32) = 0 → Qx (some (.int (-2))) M)
    refine ⟨fun q15 => absurd q15 (by decide), fun _ => ?_⟩
    refine hQx _ _ ⟨(-2), rfl, ?_⟩
    refine mx_q (fun Qm hQm => ?_)
    refine mx_go 200 zq_t229 ?_
    show mx g (d + 5) kX12_in 0 [.ref 48, .int (p1), .int (0), .int (5)] [] M _
    refine c_X12_in (fun k16 k17 => by exfalso; (first | (simp only [n_lt, n_le, n_eq, n_add, n_sub, n_mul, n_neg, n_lit, zw] at *; omega) | (simp only [h2, h3] at *; contradiction))) (fun k18 => ?_)
    show (¬ (0 : Int32) = 0 → mx g (d + 5) kX12_isHow 0 [.ref 48, .int (p0)] [] M _) ∧ ((0 : Int32) = 0 → Qm (some (.int (-2))) M)
    refine ⟨fun q19 => absurd q19 (by decide), fun _ => ?_⟩
    refine hQm _ _ ⟨by first | rfl | simp only [h1, h2, h3], ?_⟩
    exact hR

theorem gE_upd {so so' si si' ce it : Nat → Int32} {a b v : Int32} (h : gE so so' si si' ce it) : gE so so' si si' (upd ce (a * 40 + b).toNatClampNeg v) (upd it (40 * a + b).toNatClampNeg v) := by
  obtain ⟨e1, e2, e3, e4, e5⟩ := h
  refine ⟨e1, e2, e3, e4, fun s i hs hi => ?_⟩
  rw [Int32.mul_comm a 40]
  unfold upd
  split
  · rfl
  · exact e5 s i hs hi
theorem n_ix {a b : Int32} (h1 : 0 ≤ a.toInt) (h2 : a.toInt ≤ 3) (h3 : 0 ≤ b.toInt) (h4 : b.toInt < 40) : (40 * a + b).toInt = 40 * a.toInt + b.toInt := by
  have e : (40 : Int32).toInt = 40 := rfl
  rw [n_add, n_mul, e, zw_id (z := 40 * a.toInt) (by omega) (by omega), zw_id (by omega) (by omega)]
theorem n_ix1 {a b : Int32} (h1 : 0 ≤ a.toInt) (h2 : a.toInt ≤ 3) (h3 : 0 ≤ b.toInt) (h4 : b.toInt < 40) : vp_in (40 * a + b) 160 := by
  have e := n_ix h1 h2 h3 h4
  exact n_in (by omega) (by omega)
theorem n_ix2 {a b : Int32} (h1 : 0 ≤ a.toInt) (h2 : a.toInt ≤ 3) (h3 : 0 ≤ b.toInt) (h4 : b.toInt < 40) : vp_in (a * 40 + b) 160 := by
  rw [Int32.mul_comm]
  exact n_ix1 h1 h2 h3 h4
set_option maxHeartbeats 4000000 in
theorem op_cell {g : zq_G} {d : Nat} {M : zq_M} {p0 p1 p2 : Int32} (hR : RR M) : pri g (d + 6) kX11_cell kX12_cell [.ref 0, .int (p0), .int (p1), .int (p2)] [.ref 48, .int (p0), .int (p1), .int (p2)] M := by
  obtain ⟨hS, hN, hH, hT, hP, hI, hE, hF, hX, hV⟩ := id hR
  obtain ⟨e1, e2, e3, e4, e5⟩ := id hE
  have bp0 : 0 ≤ p0.toInt → p0.toInt ≤ 3 → -1 ≤ (M 46 p0.toNatClampNeg).toInt ∧ (M 46 p0.toNatClampNeg).toInt ≤ 2 ∧ 0 ≤ (M 47 p0.toNatClampNeg).toInt ∧ (M 47 p0.toNatClampNeg).toInt ≤ 40 := fun a b => ⟨(e3 _ (by rw [n_cl]; omega)).1, (e3 _ (by rw [n_cl]; omega)).2, e4 _ (by rw [n_cl]; omega)⟩
  refine mx_q (fun Qx hQx => ?_)
  refine mx_go 200 zq_t121 ?_
  show mx g (d + 5) kX11_isSheet 0 [.int (p0)] [] M _
  refine c_X11_isSheet (fun k1 k2 => ?_) (fun k3 => ?_)
  · show (¬ (1 : Int32) = 0 → mx g (d + 5) kX6_isMissing 0 [.ref 44, .int (p0)] [] M _) ∧ ((1 : Int32) = 0 → Qx (some (.int (-2))) M)
    refine ⟨fun _ => ?_, fun q4 => absurd q4 (by decide)⟩
    refine mx_q (fun Q5 hQ5 => ?_)
    refine mx_go 200 zq_t49 ?_
    show vp_in p0 4 ∧ (¬ (((M 46) (Int32.toNatClampNeg p0)) : Int32) = ((-1) : Int32) → zq_b 0 ∧ Q5 (some (.int 0)) M) ∧ ((((M 46) (Int32.toNatClampNeg p0)) : Int32) = ((-1) : Int32) → zq_b 1 ∧ Q5 (some (.int 1)) M)
    refine ⟨(n_in (by (simp only [e1, e2, n_lt, n_le, n_eq, n_add, n_sub, n_mul, n_neg, n_lit, zw] at *; omega)) (by (simp only [e1, e2, n_lt, n_le, n_eq, n_add, n_sub, n_mul, n_neg, n_lit, zw] at *; omega))), ?_⟩
    refine ⟨fun q6 => ?_, fun q6 => ?_⟩
    · refine ⟨(by first | exact Or.inl rfl | exact Or.inr rfl), ?_⟩
      refine hQ5 _ _ ?_
      show ((0 : Int32) = 0 → mx g (d + 5) kX6_hasItem 0 [.ref 44, .int (p0), .int (p1)] [] M _) ∧ (¬ (0 : Int32) = 0 → Qx (some (.int (-11))) M)
      refine ⟨fun _ => ?_, fun q7 => absurd q7 (by decide)⟩
      refine mx_q (fun Q8 hQ8 => ?_)
      refine mx_go 200 zq_t52 ?_
      show ((p1 : Int32) < 0 → zq_b 0 ∧ Q8 (some (.int 0)) M) ∧ (¬ (p1 : Int32) < 0 → vp_in p0 4 ∧ ((((M 47) (Int32.toNatClampNeg p0)) : Int32) ≤ (p1 : Int32) → zq_b 0 ∧ Q8 (some (.int 0)) M) ∧ (¬ (((M 47) (Int32.toNatClampNeg p0)) : Int32) ≤ (p1 : Int32) → zq_b 1 ∧ Q8 (some (.int 1)) M))
      refine ⟨fun q9 => ?_, fun q9 => ?_⟩
      · refine ⟨(by first | exact Or.inl rfl | exact Or.inr rfl), ?_⟩
        refine hQ8 _ _ ?_
        show (¬ (0 : Int32) = 0 → mx g (d + 5) kX6_write 0 [.ref 44, .int (p0), .int (p1), .int (p2), .null] [] M _) ∧ ((0 : Int32) = 0 → Qx (some (.int (-12))) M)
        refine ⟨fun q10 => absurd q10 (by decide), fun _ => ?_⟩
        refine hQx _ _ ⟨(-12), rfl, ?_⟩
        refine mx_q (fun Qm hQm => ?_)
        refine mx_go 200 zq_t225 ?_
        show mx g (d + 5) kX12_isSheet 0 [.ref 48, .int (p0)] [] M _
        refine c_X12_isSheet (fun k11 k12 => ?_) (fun k13 => by exfalso; (simp only [e1, e2, n_lt, n_le, n_eq, n_add, n_sub, n_mul, n_neg, n_lit, zw] at *; omega))
        show (¬ (1 : Int32) = 0 → vp_in p0 4 ∧ (0 ≤ (((M 75) (Int32.toNatClampNeg p0)) : Int32) → vp_in p0 4 ∧ mx g (d + 5) kX12_in 0 [.ref 48, .int (p1), .int (0), .int ((((M 76) (Int32.toNatClampNeg p0)) - 1))] [] M _) ∧ (¬ 0 ≤ (((M 75) (Int32.toNatClampNeg p0)) : Int32) → Qm (some (.int (-11))) M)) ∧ ((1 : Int32) = 0 → Qm (some (.int (-2))) M)
        refine ⟨fun _ => ?_, fun q14 => absurd q14 (by decide)⟩
        refine ⟨(n_in (by (simp only [e1, e2, n_lt, n_le, n_eq, n_add, n_sub, n_mul, n_neg, n_lit, zw] at *; omega)) (by (simp only [e1, e2, n_lt, n_le, n_eq, n_add, n_sub, n_mul, n_neg, n_lit, zw] at *; omega))), ?_⟩
        refine ⟨fun q15 => ?_, fun q15 => ?_⟩
        · refine ⟨(n_in (by (simp only [e1, e2, n_lt, n_le, n_eq, n_add, n_sub, n_mul, n_neg, n_lit, zw] at *; omega)) (by (simp only [e1, e2, n_lt, n_le, n_eq, n_add, n_sub, n_mul, n_neg, n_lit, zw] at *; omega))), ?_⟩
          refine c_X12_in (fun k16 k17 => ?_) (fun k18 => ?_)
          · show (¬ (1 : Int32) = 0 → vp_in p0 4 ∧ (¬ (((M 75) (Int32.toNatClampNeg p0)) : Int32) = 0 → vp_in p0 4 ∧ (¬ (((M 75) (Int32.toNatClampNeg p0)) : Int32) = (1 : Int32) → vp_in ((40 * p0) + p1) 160 ∧ Qm (some (.int 1)) (zq_ma M 77 (upd (M 77) (Int32.toNatClampNeg ((40 * p0) + p1)) p2))) ∧ ((((M 75) (Int32.toNatClampNeg p0)) : Int32) = (1 : Int32) → vp_in ((40 * p0) + p1) 160 ∧ Qm (some (.int 1)) (zq_ma M 77 (upd (M 77) (Int32.toNatClampNeg ((40 * p0) + p1)) (Int16.toInt32 (Int32.toInt16 p2)))))) ∧ ((((M 75) (Int32.toNatClampNeg p0)) : Int32) = 0 → vp_in ((40 * p0) + p1) 160 ∧ Qm (some (.int 1)) (zq_ma M 77 (upd (M 77) (Int32.toNatClampNeg ((40 * p0) + p1)) (Int8.toInt32 (Int32.toInt8 p2)))))) ∧ ((1 : Int32) = 0 → Qm (some (.int (-12))) M)
            refine ⟨fun _ => ?_, fun q19 => absurd q19 (by decide)⟩
            refine ⟨(n_in (by (simp only [e1, e2, n_lt, n_le, n_eq, n_add, n_sub, n_mul, n_neg, n_lit, zw] at *; omega)) (by (simp only [e1, e2, n_lt, n_le, n_eq, n_add, n_sub, n_mul, n_neg, n_lit, zw] at *; omega))), ?_⟩
            refine ⟨fun q20 => ?_, fun q20 => ?_⟩
            · refine ⟨(n_in (by (simp only [e1, e2, n_lt, n_le, n_eq, n_add, n_sub, n_mul, n_neg, n_lit, zw] at *; omega)) (by (simp only [e1, e2, n_lt, n_le, n_eq, n_add, n_sub, n_mul, n_neg, n_lit, zw] at *; omega))), ?_⟩
              refine ⟨fun q21 => ?_, fun q21 => ?_⟩
              · refine ⟨(n_ix1 (by (simp only [e1, e2, n_lt, n_le, n_eq, n_add, n_sub, n_mul, n_neg, n_lit, zw] at *; omega)) (by (simp only [e1, e2, n_lt, n_le, n_eq, n_add, n_sub, n_mul, n_neg, n_lit, zw] at *; omega)) (by (simp only [e1, e2, n_lt, n_le, n_eq, n_add, n_sub, n_mul, n_neg, n_lit, zw] at *; omega)) (by (simp only [e1, e2, n_lt, n_le, n_eq, n_add, n_sub, n_mul, n_neg, n_lit, zw] at *; omega))), ?_⟩
                exfalso; (simp only [e1, e2, n_lt, n_le, n_eq, n_add, n_sub, n_mul, n_neg, n_lit, zw] at *; omega)
              · refine ⟨(n_ix1 (by (simp only [e1, e2, n_lt, n_le, n_eq, n_add, n_sub, n_mul, n_neg, n_lit, zw] at *; omega)) (by (simp only [e1, e2, n_lt, n_le, n_eq, n_add, n_sub, n_mul, n_neg, n_lit, zw] at *; omega)) (by (simp only [e1, e2, n_lt, n_le, n_eq, n_add, n_sub, n_mul, n_neg, n_lit, zw] at *; omega)) (by (simp only [e1, e2, n_lt, n_le, n_eq, n_add, n_sub, n_mul, n_neg, n_lit, zw] at *; omega))), ?_⟩
                exfalso; (simp only [e1, e2, n_lt, n_le, n_eq, n_add, n_sub, n_mul, n_neg, n_lit, zw] at *; omega)
            · refine ⟨(n_ix1 (by (simp only [e1, e2, n_lt, n_le, n_eq, n_add, n_sub, n_mul, n_neg, n_lit, zw] at *; omega)) (by (simp only [e1, e2, n_lt, n_le, n_eq, n_add, n_sub, n_mul, n_neg, n_lit, zw] at *; omega)) (by (simp only [e1, e2, n_lt, n_le, n_eq, n_add, n_sub, n_mul, n_neg, n_lit, zw] at *; omega)) (by (simp only [e1, e2, n_lt, n_le, n_eq, n_add, n_sub, n_mul, n_neg, n_lit, zw] at *; omega))), ?_⟩
              exfalso; (simp only [e1, e2, n_lt, n_le, n_eq, n_add, n_sub, n_mul, n_neg, n_lit, zw] at *; omega)
          · show (¬ (0 : Int32) = 0 → vp_in p0 4 ∧ (¬ (((M 75) (Int32.toNatClampNeg p0)) : Int32) = 0 → vp_in p0 4 ∧ (¬ (((M 75) (Int32.toNatClampNeg p0)) : Int32) = (1 : Int32) → vp_in ((40 * p0) + p1) 160 ∧ Qm (some (.int 1)) (zq_ma M 77 (upd (M 77) (Int32.toNatClampNeg ((40 * p0) + p1)) p2))) ∧ ((((M 75) (Int32.toNatClampNeg p0)) : Int32) = (1 : Int32) → vp_in ((40 * p0) + p1) 160 ∧ Qm (some (.int 1)) (zq_ma M 77 (upd (M 77) (Int32.toNatClampNeg ((40 * p0) + p1)) (Int16.toInt32 (Int32.toInt16 p2)))))) ∧ ((((M 75) (Int32.toNatClampNeg p0)) : Int32) = 0 → vp_in ((40 * p0) + p1) 160 ∧ Qm (some (.int 1)) (zq_ma M 77 (upd (M 77) (Int32.toNatClampNeg ((40 * p0) + p1)) (Int8.toInt32 (Int32.toInt8 p2)))))) ∧ ((0 : Int32) = 0 → Qm (some (.int (-12))) M)
            refine ⟨fun q22 => absurd q22 (by decide), fun _ => ?_⟩
            refine hQm _ _ ⟨by first | rfl | simp only [e1, e2], ?_⟩
            exact hR
        · exfalso; (simp only [e1, e2, n_lt, n_le, n_eq, n_add, n_sub, n_mul, n_neg, n_lit, zw] at *; omega)
      · refine ⟨(n_in (by (simp only [e1, e2, n_lt, n_le, n_eq, n_add, n_sub, n_mul, n_neg, n_lit, zw] at *; omega)) (by (simp only [e1, e2, n_lt, n_le, n_eq, n_add, n_sub, n_mul, n_neg, n_lit, zw] at *; omega))), ?_⟩
        refine ⟨fun q11 => ?_, fun q11 => ?_⟩
        · refine ⟨(by first | exact Or.inl rfl | exact Or.inr rfl), ?_⟩
          refine hQ8 _ _ ?_
          show (¬ (0 : Int32) = 0 → mx g (d + 5) kX6_write 0 [.ref 44, .int (p0), .int (p1), .int (p2), .null] [] M _) ∧ ((0 : Int32) = 0 → Qx (some (.int (-12))) M)
          refine ⟨fun q12 => absurd q12 (by decide), fun _ => ?_⟩
          refine hQx _ _ ⟨(-12), rfl, ?_⟩
          refine mx_q (fun Qm hQm => ?_)
          refine mx_go 200 zq_t225 ?_
          show mx g (d + 5) kX12_isSheet 0 [.ref 48, .int (p0)] [] M _
          refine c_X12_isSheet (fun k13 k14 => ?_) (fun k15 => by exfalso; (simp only [e1, e2, n_lt, n_le, n_eq, n_add, n_sub, n_mul, n_neg, n_lit, zw] at *; omega))
          show (¬ (1 : Int32) = 0 → vp_in p0 4 ∧ (0 ≤ (((M 75) (Int32.toNatClampNeg p0)) : Int32) → vp_in p0 4 ∧ mx g (d + 5) kX12_in 0 [.ref 48, .int (p1), .int (0), .int ((((M 76) (Int32.toNatClampNeg p0)) - 1))] [] M _) ∧ (¬ 0 ≤ (((M 75) (Int32.toNatClampNeg p0)) : Int32) → Qm (some (.int (-11))) M)) ∧ ((1 : Int32) = 0 → Qm (some (.int (-2))) M)
          refine ⟨fun _ => ?_, fun q16 => absurd q16 (by decide)⟩
          refine ⟨(n_in (by (simp only [e1, e2, n_lt, n_le, n_eq, n_add, n_sub, n_mul, n_neg, n_lit, zw] at *; omega)) (by (simp only [e1, e2, n_lt, n_le, n_eq, n_add, n_sub, n_mul, n_neg, n_lit, zw] at *; omega))), ?_⟩
          refine ⟨fun q17 => ?_, fun q17 => ?_⟩
          · refine ⟨(n_in (by (simp only [e1, e2, n_lt, n_le, n_eq, n_add, n_sub, n_mul, n_neg, n_lit, zw] at *; omega)) (by (simp only [e1, e2, n_lt, n_le, n_eq, n_add, n_sub, n_mul, n_neg, n_lit, zw] at *; omega))), ?_⟩
            refine c_X12_in (fun k18 k19 => ?_) (fun k20 => ?_)
            · show (¬ (1 : Int32) = 0 → vp_in p0 4 ∧ (¬ (((M 75) (Int32.toNatClampNeg p0)) : Int32) = 0 → vp_in p0 4 ∧ (¬ (((M 75) (Int32.toNatClampNeg p0)) : Int32) = (1 : Int32) → vp_in ((40 * p0) + p1) 160 ∧ Qm (some (.int 1)) (zq_ma M 77 (upd (M 77) (Int32.toNatClampNeg ((40 * p0) + p1)) p2))) ∧ ((((M 75) (Int32.toNatClampNeg p0)) : Int32) = (1 : Int32) → vp_in ((40 * p0) + p1) 160 ∧ Qm (some (.int 1)) (zq_ma M 77 (upd (M 77) (Int32.toNatClampNeg ((40 * p0) + p1)) (Int16.toInt32 (Int32.toInt16 p2)))))) ∧ ((((M 75) (Int32.toNatClampNeg p0)) : Int32) = 0 → vp_in ((40 * p0) + p1) 160 ∧ Qm (some (.int 1)) (zq_ma M 77 (upd (M 77) (Int32.toNatClampNeg ((40 * p0) + p1)) (Int8.toInt32 (Int32.toInt8 p2)))))) ∧ ((1 : Int32) = 0 → Qm (some (.int (-12))) M)
              refine ⟨fun _ => ?_, fun q21 => absurd q21 (by decide)⟩
              refine ⟨(n_in (by (simp only [e1, e2, n_lt, n_le, n_eq, n_add, n_sub, n_mul, n_neg, n_lit, zw] at *; omega)) (by (simp only [e1, e2, n_lt, n_le, n_eq, n_add, n_sub, n_mul, n_neg, n_lit, zw] at *; omega))), ?_⟩
              refine ⟨fun q22 => ?_, fun q22 => ?_⟩
              · refine ⟨(n_in (by (simp only [e1, e2, n_lt, n_le, n_eq, n_add, n_sub, n_mul, n_neg, n_lit, zw] at *; omega)) (by (simp only [e1, e2, n_lt, n_le, n_eq, n_add, n_sub, n_mul, n_neg, n_lit, zw] at *; omega))), ?_⟩
                refine ⟨fun q23 => ?_, fun q23 => ?_⟩
                · refine ⟨(n_ix1 (by (simp only [e1, e2, n_lt, n_le, n_eq, n_add, n_sub, n_mul, n_neg, n_lit, zw] at *; omega)) (by (simp only [e1, e2, n_lt, n_le, n_eq, n_add, n_sub, n_mul, n_neg, n_lit, zw] at *; omega)) (by (simp only [e1, e2, n_lt, n_le, n_eq, n_add, n_sub, n_mul, n_neg, n_lit, zw] at *; omega)) (by (simp only [e1, e2, n_lt, n_le, n_eq, n_add, n_sub, n_mul, n_neg, n_lit, zw] at *; omega))), ?_⟩
                  exfalso; (simp only [e1, e2, n_lt, n_le, n_eq, n_add, n_sub, n_mul, n_neg, n_lit, zw] at *; omega)
                · refine ⟨(n_ix1 (by (simp only [e1, e2, n_lt, n_le, n_eq, n_add, n_sub, n_mul, n_neg, n_lit, zw] at *; omega)) (by (simp only [e1, e2, n_lt, n_le, n_eq, n_add, n_sub, n_mul, n_neg, n_lit, zw] at *; omega)) (by (simp only [e1, e2, n_lt, n_le, n_eq, n_add, n_sub, n_mul, n_neg, n_lit, zw] at *; omega)) (by (simp only [e1, e2, n_lt, n_le, n_eq, n_add, n_sub, n_mul, n_neg, n_lit, zw] at *; omega))), ?_⟩
                  exfalso; (simp only [e1, e2, n_lt, n_le, n_eq, n_add, n_sub, n_mul, n_neg, n_lit, zw] at *; omega)
              · refine ⟨(n_ix1 (by (simp only [e1, e2, n_lt, n_le, n_eq, n_add, n_sub, n_mul, n_neg, n_lit, zw] at *; omega)) (by (simp only [e1, e2, n_lt, n_le, n_eq, n_add, n_sub, n_mul, n_neg, n_lit, zw] at *; omega)) (by (simp only [e1, e2, n_lt, n_le, n_eq, n_add, n_sub, n_mul, n_neg, n_lit, zw] at *; omega)) (by (simp only [e1, e2, n_lt, n_le, n_eq, n_add, n_sub, n_mul, n_neg, n_lit, zw] at *; omega))), ?_⟩
                exfalso; (simp only [e1, e2, n_lt, n_le, n_eq, n_add, n_sub, n_mul, n_neg, n_lit, zw] at *; omega)
            · show (¬ (0 : Int32) = 0 → vp_in p0 4 ∧ (¬ (((M 75) (Int32.toNatClampNeg p0)) : Int32) = 0 → vp_in p0 4 ∧ (¬ (((M 75) (Int32.toNatClampNeg p0)) : Int32) = (1 : Int32) → vp_in ((40 * p0) + p1) 160 ∧ Qm (some (.int 1)) (zq_ma M 77 (upd (M 77) (Int32.toNatClampNeg ((40 * p0) + p1)) p2))) ∧ ((((M 75) (Int32.toNatClampNeg p0)) : Int32) = (1 : Int32) → vp_in ((40 * p0) + p1) 160 ∧ Qm (some (.int 1)) (zq_ma M 77 (upd (M 77) (Int32.toNatClampNeg ((40 * p0) + p1)) (Int16.toInt32 (Int32.toInt16 p2)))))) ∧ ((((M 75) (Int32.toNatClampNeg p0)) : Int32) = 0 → vp_in ((40 * p0) + p1) 160 ∧ Qm (some (.int 1)) (zq_ma M 77 (upd (M 77) (Int32.toNatClampNeg ((40 * p0) + p1)) (Int8.toInt32 (Int32.toInt8 p2)))))) ∧ ((0 : Int32) = 0 → Qm (some (.int (-12))) M)
              refine ⟨fun q24 => absurd q24 (by decide), fun _ => ?_⟩
              refine hQm _ _ ⟨by first | rfl | simp only [e1, e2], ?_⟩
              exact hR
          · exfalso; (simp only [e1, e2, n_lt, n_le, n_eq, n_add, n_sub, n_mul, n_neg, n_lit, zw] at *; omega)
        · refine ⟨(by first | exact Or.inl rfl | exact Or.inr rfl), ?_⟩
          refine hQ8 _ _ ?_
          show (¬ (1 : Int32) = 0 → mx g (d + 5) kX6_write 0 [.ref 44, .int (p0), .int (p1), .int (p2), .null] [] M _) ∧ ((1 : Int32) = 0 → Qx (some (.int (-12))) M)
          refine ⟨fun _ => ?_, fun q13 => absurd q13 (by decide)⟩
          refine mx_q (fun Q14 hQ14 => ?_)
          refine mx_go 200 zq_t55 ?_
          show vp_in p0 4 ∧ (¬ (((M 46) (Int32.toNatClampNeg p0)) : Int32) = 0 → vp_in p0 4 ∧ (¬ (((M 46) (Int32.toNatClampNeg p0)) : Int32) = (1 : Int32) → vp_in ((p0 * 40) + p1) 160 ∧ Q14 none (zq_ma M 45 (upd (M 45) (Int32.toNatClampNeg ((p0 * 40) + p1)) p2))) ∧ ((((M 46) (Int32.toNatClampNeg p0)) : Int32) = (1 : Int32) → vp_in ((p0 * 40) + p1) 160 ∧ Q14 none (zq_ma M 45 (upd (M 45) (Int32.toNatClampNeg ((p0 * 40) + p1)) (Int16.toInt32 (Int32.toInt16 p2)))))) ∧ ((((M 46) (Int32.toNatClampNeg p0)) : Int32) = 0 → vp_in ((p0 * 40) + p1) 160 ∧ Q14 none (zq_ma M 45 (upd (M 45) (Int32.toNatClampNeg ((p0 * 40) + p1)) (Int8.toInt32 (Int32.toInt8 p2)))))
          refine ⟨(n_in (by (simp only [e1, e2, n_lt, n_le, n_eq, n_add, n_sub, n_mul, n_neg, n_lit, zw] at *; omega)) (by (simp only [e1, e2, n_lt, n_le, n_eq, n_add, n_sub, n_mul, n_neg, n_lit, zw] at *; omega))), ?_⟩
          refine ⟨fun q15 => ?_, fun q15 => ?_⟩
          · refine ⟨(n_in (by (simp only [e1, e2, n_lt, n_le, n_eq, n_add, n_sub, n_mul, n_neg, n_lit, zw] at *; omega)) (by (simp only [e1, e2, n_lt, n_le, n_eq, n_add, n_sub, n_mul, n_neg, n_lit, zw] at *; omega))), ?_⟩
            refine ⟨fun q16 => ?_, fun q16 => ?_⟩
            · refine ⟨(n_ix2 (by (simp only [e1, e2, n_lt, n_le, n_eq, n_add, n_sub, n_mul, n_neg, n_lit, zw] at *; omega)) (by (simp only [e1, e2, n_lt, n_le, n_eq, n_add, n_sub, n_mul, n_neg, n_lit, zw] at *; omega)) (by (simp only [e1, e2, n_lt, n_le, n_eq, n_add, n_sub, n_mul, n_neg, n_lit, zw] at *; omega)) (by (simp only [e1, e2, n_lt, n_le, n_eq, n_add, n_sub, n_mul, n_neg, n_lit, zw] at *; omega))), ?_⟩
              refine hQ14 _ _ ?_
              show Qx (some (.int 1)) (zq_ma M 45 (upd (M 45) (Int32.toNatClampNeg ((p0 * 40) + p1)) p2))
              refine hQx _ _ ⟨1, rfl, ?_⟩
              refine mx_q (fun Qm hQm => ?_)
              refine mx_go 200 zq_t225 ?_
              show mx g (d + 5) kX12_isSheet 0 [.ref 48, .int (p0)] [] (zq_ma M 45 (upd (M 45) (Int32.toNatClampNeg ((p0 * 40) + p1)) p2)) _
              refine c_X12_isSheet (fun k17 k18 => ?_) (fun k19 => by exfalso; (simp only [e1, e2, n_lt, n_le, n_eq, n_add, n_sub, n_mul, n_neg, n_lit, zw] at *; omega))
              show (¬ (1 : Int32) = 0 → vp_in p0 4 ∧ (0 ≤ (((M 75) (Int32.toNatClampNeg p0)) : Int32) → vp_in p0 4 ∧ mx g (d + 5) kX12_in 0 [.ref 48, .int (p1), .int (0), .int ((((M 76) (Int32.toNatClampNeg p0)) - 1))] [] (zq_ma M 45 (upd (M 45) (Int32.toNatClampNeg ((p0 * 40) + p1)) p2)) _) ∧ (¬ 0 ≤ (((M 75) (Int32.toNatClampNeg p0)) : Int32) → Qm (some (.int (-11))) (zq_ma M 45 (upd (M 45) (Int32.toNatClampNeg ((p0 * 40) + p1)) p2)))) ∧ ((1 : Int32) = 0 → Qm (some (.int (-2))) (zq_ma M 45 (upd (M 45) (Int32.toNatClampNeg ((p0 * 40) + p1)) p2)))
              refine ⟨fun _ => ?_, fun q20 => absurd q20 (by decide)⟩
              refine ⟨(n_in (by (simp only [e1, e2, n_lt, n_le, n_eq, n_add, n_sub, n_mul, n_neg, n_lit, zw] at *; omega)) (by (simp only [e1, e2, n_lt, n_le, n_eq, n_add, n_sub, n_mul, n_neg, n_lit, zw] at *; omega))), ?_⟩
              refine ⟨fun q21 => ?_, fun q21 => ?_⟩
              · refine ⟨(n_in (by (simp only [e1, e2, n_lt, n_le, n_eq, n_add, n_sub, n_mul, n_neg, n_lit, zw] at *; omega)) (by (simp only [e1, e2, n_lt, n_le, n_eq, n_add, n_sub, n_mul, n_neg, n_lit, zw] at *; omega))), ?_⟩
                refine c_X12_in (fun k22 k23 => ?_) (fun k24 => ?_)
                · show (¬ (1 : Int32) = 0 → vp_in p0 4 ∧ (¬ (((M 75) (Int32.toNatClampNeg p0)) : Int32) = 0 → vp_in p0 4 ∧ (¬ (((M 75) (Int32.toNatClampNeg p0)) : Int32) = (1 : Int32) → vp_in ((40 * p0) + p1) 160 ∧ Qm (some (.int 1)) (zq_ma (zq_ma M 45 (upd (M 45) (Int32.toNatClampNeg ((p0 * 40) + p1)) p2)) 77 (upd (M 77) (Int32.toNatClampNeg ((40 * p0) + p1)) p2))) ∧ ((((M 75) (Int32.toNatClampNeg p0)) : Int32) = (1 : Int32) → vp_in ((40 * p0) + p1) 160 ∧ Qm (some (.int 1)) (zq_ma (zq_ma M 45 (upd (M 45) (Int32.toNatClampNeg ((p0 * 40) + p1)) p2)) 77 (upd (M 77) (Int32.toNatClampNeg ((40 * p0) + p1)) (Int16.toInt32 (Int32.toInt16 p2)))))) ∧ ((((M 75) (Int32.toNatClampNeg p0)) : Int32) = 0 → vp_in ((40 * p0) + p1) 160 ∧ Qm (some (.int 1)) (zq_ma (zq_ma M 45 (upd (M 45) (Int32.toNatClampNeg ((p0 * 40) + p1)) p2)) 77 (upd (M 77) (Int32.toNatClampNeg ((40 * p0) + p1)) (Int8.toInt32 (Int32.toInt8 p2)))))) ∧ ((1 : Int32) = 0 → Qm (some (.int (-12))) (zq_ma M 45 (upd (M 45) (Int32.toNatClampNeg ((p0 * 40) + p1)) p2)))
                  refine ⟨fun _ => ?_, fun q25 => absurd q25 (by decide)⟩
                  refine ⟨(n_in (by (simp only [e1, e2, n_lt, n_le, n_eq, n_add, n_sub, n_mul, n_neg, n_lit, zw] at *; omega)) (by (simp only [e1, e2, n_lt, n_le, n_eq, n_add, n_sub, n_mul, n_neg, n_lit, zw] at *; omega))), ?_⟩
                  refine ⟨fun q26 => ?_, fun q26 => by exfalso; (simp only [e1, e2, n_lt, n_le, n_eq, n_add, n_sub, n_mul, n_neg, n_lit, zw] at *; omega)⟩
                  refine ⟨(n_in (by (simp only [e1, e2, n_lt, n_le, n_eq, n_add, n_sub, n_mul, n_neg, n_lit, zw] at *; omega)) (by (simp only [e1, e2, n_lt, n_le, n_eq, n_add, n_sub, n_mul, n_neg, n_lit, zw] at *; omega))), ?_⟩
                  refine ⟨fun q27 => ?_, fun q27 => by exfalso; (simp only [e1, e2, n_lt, n_le, n_eq, n_add, n_sub, n_mul, n_neg, n_lit, zw] at *; omega)⟩
                  refine ⟨(n_ix1 (by (simp only [e1, e2, n_lt, n_le, n_eq, n_add, n_sub, n_mul, n_neg, n_lit, zw] at *; omega)) (by (simp only [e1, e2, n_lt, n_le, n_eq, n_add, n_sub, n_mul, n_neg, n_lit, zw] at *; omega)) (by (simp only [e1, e2, n_lt, n_le, n_eq, n_add, n_sub, n_mul, n_neg, n_lit, zw] at *; omega)) (by (simp only [e1, e2, n_lt, n_le, n_eq, n_add, n_sub, n_mul, n_neg, n_lit, zw] at *; omega))), ?_⟩
                  refine hQm _ _ ⟨by first | rfl | simp only [e1, e2], ?_⟩
                  exact ⟨hS, hN, hH, hT, hP, hI, gE_upd hE, hF, hX, hV⟩
                · show (¬ (0 : Int32) = 0 → vp_in p0 4 ∧ (¬ (((M 75) (Int32.toNatClampNeg p0)) : Int32) = 0 → vp_in p0 4 ∧ (¬ (((M 75) (Int32.toNatClampNeg p0)) : Int32) = (1 : Int32) → vp_in ((40 * p0) + p1) 160 ∧ Qm (some (.int 1)) (zq_ma (zq_ma M 45 (upd (M 45) (Int32.toNatClampNeg ((p0 * 40) + p1)) p2)) 77 (upd (M 77) (Int32.toNatClampNeg ((40 * p0) + p1)) p2))) ∧ ((((M 75) (Int32.toNatClampNeg p0)) : Int32) = (1 : Int32) → vp_in ((40 * p0) + p1) 160 ∧ Qm (some (.int 1)) (zq_ma (zq_ma M 45 (upd (M 45) (Int32.toNatClampNeg ((p0 * 40) + p1)) p2)) 77 (upd (M 77) (Int32.toNatClampNeg ((40 * p0) + p1)) (Int16.toInt32 (Int32.toInt16 p2)))))) ∧ ((((M 75) (Int32.toNatClampNeg p0)) : Int32) = 0 → vp_in ((40 * p0) + p1) 160 ∧ Qm (some (.int 1)) (zq_ma (zq_ma M 45 (upd (M 45) (Int32.toNatClampNeg ((p0 * 40) + p1)) p2)) 77 (upd (M 77) (Int32.toNatClampNeg ((40 * p0) + p1)) (Int8.toInt32 (Int32.toInt8 p2)))))) ∧ ((0 : Int32) = 0 → Qm (some (.int (-12))) (zq_ma M 45 (upd (M 45) (Int32.toNatClampNeg ((p0 * 40) + p1)) p2)))
                  refine ⟨fun q28 => absurd q28 (by decide), fun _ => ?_⟩
                  exfalso; (simp only [e1, e2, n_lt, n_le, n_eq, n_add, n_sub, n_mul, n_neg, n_lit, zw] at *; omega)
              · exfalso; (simp only [e1, e2, n_lt, n_le, n_eq, n_add, n_sub, n_mul, n_neg, n_lit, zw] at *; omega)
            · refine ⟨(n_ix2 (by (simp only [e1, e2, n_lt, n_le, n_eq, n_add, n_sub, n_mul, n_neg, n_lit, zw] at *; omega)) (by (simp only [e1, e2, n_lt, n_le, n_eq, n_add, n_sub, n_mul, n_neg, n_lit, zw] at *; omega)) (by (simp only [e1, e2, n_lt, n_le, n_eq, n_add, n_sub, n_mul, n_neg, n_lit, zw] at *; omega)) (by (simp only [e1, e2, n_lt, n_le, n_eq, n_add, n_sub, n_mul, n_neg, n_lit, zw] at *; omega))), ?_⟩
              refine hQ14 _ _ ?_
              show Qx (some (.int 1)) (zq_ma M 45 (upd (M 45) (Int32.toNatClampNeg ((p0 * 40) + p1)) (Int16.toInt32 (Int32.toInt16 p2))))
              refine hQx _ _ ⟨1, rfl, ?_⟩
              refine mx_q (fun Qm hQm => ?_)
              refine mx_go 200 zq_t225 ?_
              show mx g (d + 5) kX12_isSheet 0 [.ref 48, .int (p0)] [] (zq_ma M 45 (upd (M 45) (Int32.toNatClampNeg ((p0 * 40) + p1)) (Int16.toInt32 (Int32.toInt16 p2)))) _
              refine c_X12_isSheet (fun k17 k18 => ?_) (fun k19 => by exfalso; (simp only [e1, e2, n_lt, n_le, n_eq, n_add, n_sub, n_mul, n_neg, n_lit, zw] at *; omega))
              show (¬ (1 : Int32) = 0 → vp_in p0 4 ∧ (0 ≤ (((M 75) (Int32.toNatClampNeg p0)) : Int32) → vp_in p0 4 ∧ mx g (d + 5) kX12_in 0 [.ref 48, .int (p1), .int (0), .int ((((M 76) (Int32.toNatClampNeg p0)) - 1))] [] (zq_ma M 45 (upd (M 45) (Int32.toNatClampNeg ((p0 * 40) + p1)) (Int16.toInt32 (Int32.toInt16 p2)))) _) ∧ (¬ 0 ≤ (((M 75) (Int32.toNatClampNeg p0)) : Int32) → Qm (some (.int (-11))) (zq_ma M 45 (upd (M 45) (Int32.toNatClampNeg ((p0 * 40) + p1)) (Int16.toInt32 (Int32.toInt16 p2)))))) ∧ ((1 : Int32) = 0 → Qm (some (.int (-2))) (zq_ma M 45 (upd (M 45) (Int32.toNatClampNeg ((p0 * 40) + p1)) (Int16.toInt32 (Int32.toInt16 p2)))))
              refine ⟨fun _ => ?_, fun q20 => absurd q20 (by decide)⟩
              refine ⟨(n_in (by (simp only [e1, e2, n_lt, n_le, n_eq, n_add, n_sub, n_mul, n_neg, n_lit, zw] at *; omega)) (by (simp only [e1, e2, n_lt, n_le, n_eq, n_add, n_sub, n_mul, n_neg, n_lit, zw] at *; omega))), ?_⟩
              refine ⟨fun q21 => ?_, fun q21 => by exfalso; (simp only [e1, e2, n_lt, n_le, n_eq, n_add, n_sub, n_mul, n_neg, n_lit, zw] at *; omega)⟩
              refine ⟨(n_in (by (simp only [e1, e2, n_lt, n_le, n_eq, n_add, n_sub, n_mul, n_neg, n_lit, zw] at *; omega)) (by (simp only [e1, e2, n_lt, n_le, n_eq, n_add, n_sub, n_mul, n_neg, n_lit, zw] at *; omega))), ?_⟩
              refine c_X12_in (fun k22 k23 => ?_) (fun k24 => ?_)
              · show (¬ (1 : Int32) = 0 → vp_in p0 4 ∧ (¬ (((M 75) (Int32.toNatClampNeg p0)) : Int32) = 0 → vp_in p0 4 ∧ (¬ (((M 75) (Int32.toNatClampNeg p0)) : Int32) = (1 : Int32) → vp_in ((40 * p0) + p1) 160 ∧ Qm (some (.int 1)) (zq_ma (zq_ma M 45 (upd (M 45) (Int32.toNatClampNeg ((p0 * 40) + p1)) (Int16.toInt32 (Int32.toInt16 p2)))) 77 (upd (M 77) (Int32.toNatClampNeg ((40 * p0) + p1)) p2))) ∧ ((((M 75) (Int32.toNatClampNeg p0)) : Int32) = (1 : Int32) → vp_in ((40 * p0) + p1) 160 ∧ Qm (some (.int 1)) (zq_ma (zq_ma M 45 (upd (M 45) (Int32.toNatClampNeg ((p0 * 40) + p1)) (Int16.toInt32 (Int32.toInt16 p2)))) 77 (upd (M 77) (Int32.toNatClampNeg ((40 * p0) + p1)) (Int16.toInt32 (Int32.toInt16 p2)))))) ∧ ((((M 75) (Int32.toNatClampNeg p0)) : Int32) = 0 → vp_in ((40 * p0) + p1) 160 ∧ Qm (some (.int 1)) (zq_ma (zq_ma M 45 (upd (M 45) (Int32.toNatClampNeg ((p0 * 40) + p1)) (Int16.toInt32 (Int32.toInt16 p2)))) 77 (upd (M 77) (Int32.toNatClampNeg ((40 * p0) + p1)) (Int8.toInt32 (Int32.toInt8 p2)))))) ∧ ((1 : Int32) = 0 → Qm (some (.int (-12))) (zq_ma M 45 (upd (M 45) (Int32.toNatClampNeg ((p0 * 40) + p1)) (Int16.toInt32 (Int32.toInt16 p2)))))
                refine ⟨fun _ => ?_, fun q25 => absurd q25 (by decide)⟩
                refine ⟨(n_in (by (simp only [e1, e2, n_lt, n_le, n_eq, n_add, n_sub, n_mul, n_neg, n_lit, zw] at *; omega)) (by (simp only [e1, e2, n_lt, n_le, n_eq, n_add, n_sub, n_mul, n_neg, n_lit, zw] at *; omega))), ?_⟩
                refine ⟨fun q26 => ?_, fun q26 => by exfalso; (simp only [e1, e2, n_lt, n_le, n_eq, n_add, n_sub, n_mul, n_neg, n_lit, zw] at *; omega)⟩
                refine ⟨(n_in (by (simp only [e1, e2, n_lt, n_le, n_eq, n_add, n_sub, n_mul, n_neg, n_lit, zw] at *; omega)) (by (simp only [e1, e2, n_lt, n_le, n_eq, n_add, n_sub, n_mul, n_neg, n_lit, zw] at *; omega))), ?_⟩
                refine ⟨fun q27 => by exfalso; (simp only [e1, e2, n_lt, n_le, n_eq, n_add, n_sub, n_mul, n_neg, n_lit, zw] at *; omega), fun q27 => ?_⟩
                refine ⟨(n_ix1 (by (simp only [e1, e2, n_lt, n_le, n_eq, n_add, n_sub, n_mul, n_neg, n_lit, zw] at *; omega)) (by (simp only [e1, e2, n_lt, n_le, n_eq, n_add, n_sub, n_mul, n_neg, n_lit, zw] at *; omega)) (by (simp only [e1, e2, n_lt, n_le, n_eq, n_add, n_sub, n_mul, n_neg, n_lit, zw] at *; omega)) (by (simp only [e1, e2, n_lt, n_le, n_eq, n_add, n_sub, n_mul, n_neg, n_lit, zw] at *; omega))), ?_⟩
                refine hQm _ _ ⟨by first | rfl | simp only [e1, e2], ?_⟩
                exact ⟨hS, hN, hH, hT, hP, hI, gE_upd hE, hF, hX, hV⟩
              · show (¬ (0 : Int32) = 0 → vp_in p0 4 ∧ (¬ (((M 75) (Int32.toNatClampNeg p0)) : Int32) = 0 → vp_in p0 4 ∧ (¬ (((M 75) (Int32.toNatClampNeg p0)) : Int32) = (1 : Int32) → vp_in ((40 * p0) + p1) 160 ∧ Qm (some (.int 1)) (zq_ma (zq_ma M 45 (upd (M 45) (Int32.toNatClampNeg ((p0 * 40) + p1)) (Int16.toInt32 (Int32.toInt16 p2)))) 77 (upd (M 77) (Int32.toNatClampNeg ((40 * p0) + p1)) p2))) ∧ ((((M 75) (Int32.toNatClampNeg p0)) : Int32) = (1 : Int32) → vp_in ((40 * p0) + p1) 160 ∧ Qm (some (.int 1)) (zq_ma (zq_ma M 45 (upd (M 45) (Int32.toNatClampNeg ((p0 * 40) + p1)) (Int16.toInt32 (Int32.toInt16 p2)))) 77 (upd (M 77) (Int32.toNatClampNeg ((40 * p0) + p1)) (Int16.toInt32 (Int32.toInt16 p2)))))) ∧ ((((M 75) (Int32.toNatClampNeg p0)) : Int32) = 0 → vp_in ((40 * p0) + p1) 160 ∧ Qm (some (.int 1)) (zq_ma (zq_ma M 45 (upd (M 45) (Int32.toNatClampNeg ((p0 * 40) + p1)) (Int16.toInt32 (Int32.toInt16 p2)))) 77 (upd (M 77) (Int32.toNatClampNeg ((40 * p0) + p1)) (Int8.toInt32 (Int32.toInt8 p2)))))) ∧ ((0 : Int32) = 0 → Qm (some (.int (-12))) (zq_ma M 45 (upd (M 45) (Int32.toNatClampNeg ((p0 * 40) + p1)) (Int16.toInt32 (Int32.toInt16 p2)))))
                refine ⟨fun q28 => absurd q28 (by decide), fun _ => ?_⟩
                exfalso; (simp only [e1, e2, n_lt, n_le, n_eq, n_add, n_sub, n_mul, n_neg, n_lit, zw] at *; omega)
          · refine ⟨(n_ix2 (by (simp only [e1, e2, n_lt, n_le, n_eq, n_add, n_sub, n_mul, n_neg, n_lit, zw] at *; omega)) (by (simp only [e1, e2, n_lt, n_le, n_eq, n_add, n_sub, n_mul, n_neg, n_lit, zw] at *; omega)) (by (simp only [e1, e2, n_lt, n_le, n_eq, n_add, n_sub, n_mul, n_neg, n_lit, zw] at *; omega)) (by (simp only [e1, e2, n_lt, n_le, n_eq, n_add, n_sub, n_mul, n_neg, n_lit, zw] at *; omega))), ?_⟩
            refine hQ14 _ _ ?_
            show Qx (some (.int 1)) (zq_ma M 45 (upd (M 45) (Int32.toNatClampNeg ((p0 * 40) + p1)) (Int8.toInt32 (Int32.toInt8 p2))))
            refine hQx _ _ ⟨1, rfl, ?_⟩
            refine mx_q (fun Qm hQm => ?_)
            refine mx_go 200 zq_t225 ?_
            show mx g (d + 5) kX12_isSheet 0 [.ref 48, .int (p0)] [] (zq_ma M 45 (upd (M 45) (Int32.toNatClampNeg ((p0 * 40) + p1)) (Int8.toInt32 (Int32.toInt8 p2)))) _
            refine c_X12_isSheet (fun k17 k18 => ?_) (fun k19 => by exfalso; (simp only [e1, e2, n_lt, n_le, n_eq, n_add, n_sub, n_mul, n_neg, n_lit, zw] at *; omega))
            show (¬ (1 : Int32) = 0 → vp_in p0 4 ∧ (0 ≤ (((M 75) (Int32.toNatClampNeg p0)) : Int32) → vp_in p0 4 ∧ mx g (d + 5) kX12_in 0 [.ref 48, .int (p1), .int (0), .int ((((M 76) (Int32.toNatClampNeg p0)) - 1))] [] (zq_ma M 45 (upd (M 45) (Int32.toNatClampNeg ((p0 * 40) + p1)) (Int8.toInt32 (Int32.toInt8 p2)))) _) ∧ (¬ 0 ≤ (((M 75) (Int32.toNatClampNeg p0)) : Int32) → Qm (some (.int (-11))) (zq_ma M 45 (upd (M 45) (Int32.toNatClampNeg ((p0 * 40) + p1)) (Int8.toInt32 (Int32.toInt8 p2)))))) ∧ ((1 : Int32) = 0 → Qm (some (.int (-2))) (zq_ma M 45 (upd (M 45) (Int32.toNatClampNeg ((p0 * 40) + p1)) (Int8.toInt32 (Int32.toInt8 p2)))))
            refine ⟨fun _ => ?_, fun q20 => absurd q20 (by decide)⟩
            refine ⟨(n_in (by (simp only [e1, e2, n_lt, n_le, n_eq, n_add, n_sub, n_mul, n_neg, n_lit, zw] at *; omega)) (by (simp only [e1, e2, n_lt, n_le, n_eq, n_add, n_sub, n_mul, n_neg, n_lit, zw] at *; omega))), ?_⟩
            refine ⟨fun q21 => ?_, fun q21 => by exfalso; (simp only [e1, e2, n_lt, n_le, n_eq, n_add, n_sub, n_mul, n_neg, n_lit, zw] at *; omega)⟩
            refine ⟨(n_in (by (simp only [e1, e2, n_lt, n_le, n_eq, n_add, n_sub, n_mul, n_neg, n_lit, zw] at *; omega)) (by (simp only [e1, e2, n_lt, n_le, n_eq, n_add, n_sub, n_mul, n_neg, n_lit, zw] at *; omega))), ?_⟩
            refine c_X12_in (fun k22 k23 => ?_) (fun k24 => ?_)
            · show (¬ (1 : Int32) = 0 → vp_in p0 4 ∧ (¬ (((M 75) (Int32.toNatClampNeg p0)) : Int32) = 0 → vp_in p0 4 ∧ (¬ (((M 75) (Int32.toNatClampNeg p0)) : Int32) = (1 : Int32) → vp_in ((40 * p0) + p1) 160 ∧ Qm (some (.int 1)) (zq_ma (zq_ma M 45 (upd (M 45) (Int32.toNatClampNeg ((p0 * 40) + p1)) (Int8.toInt32 (Int32.toInt8 p2)))) 77 (upd (M 77) (Int32.toNatClampNeg ((40 * p0) + p1)) p2))) ∧ ((((M 75) (Int32.toNatClampNeg p0)) : Int32) = (1 : Int32) → vp_in ((40 * p0) + p1) 160 ∧ Qm (some (.int 1)) (zq_ma (zq_ma M 45 (upd (M 45) (Int32.toNatClampNeg ((p0 * 40) + p1)) (Int8.toInt32 (Int32.toInt8 p2)))) 77 (upd (M 77) (Int32.toNatClampNeg ((40 * p0) + p1)) (Int16.toInt32 (Int32.toInt16 p2)))))) ∧ ((((M 75) (Int32.toNatClampNeg p0)) : Int32) = 0 → vp_in ((40 * p0) + p1) 160 ∧ Qm (some (.int 1)) (zq_ma (zq_ma M 45 (upd (M 45) (Int32.toNatClampNeg ((p0 * 40) + p1)) (Int8.toInt32 (Int32.toInt8 p2)))) 77 (upd (M 77) (Int32.toNatClampNeg ((40 * p0) + p1)) (Int8.toInt32 (Int32.toInt8 p2)))))) ∧ ((1 : Int32) = 0 → Qm (some (.int (-12))) (zq_ma M 45 (upd (M 45) (Int32.toNatClampNeg ((p0 * 40) + p1)) (Int8.toInt32 (Int32.toInt8 p2)))))
              refine ⟨fun _ => ?_, fun q25 => absurd q25 (by decide)⟩
              refine ⟨(n_in (by (simp only [e1, e2, n_lt, n_le, n_eq, n_add, n_sub, n_mul, n_neg, n_lit, zw] at *; omega)) (by (simp only [e1, e2, n_lt, n_le, n_eq, n_add, n_sub, n_mul, n_neg, n_lit, zw] at *; omega))), ?_⟩
              refine ⟨fun q26 => by exfalso; (simp only [e1, e2, n_lt, n_le, n_eq, n_add, n_sub, n_mul, n_neg, n_lit, zw] at *; omega), fun q26 => ?_⟩
              refine ⟨(n_ix1 (by (simp only [e1, e2, n_lt, n_le, n_eq, n_add, n_sub, n_mul, n_neg, n_lit, zw] at *; omega)) (by (simp only [e1, e2, n_lt, n_le, n_eq, n_add, n_sub, n_mul, n_neg, n_lit, zw] at *; omega)) (by (simp only [e1, e2, n_lt, n_le, n_eq, n_add, n_sub, n_mul, n_neg, n_lit, zw] at *; omega)) (by (simp only [e1, e2, n_lt, n_le, n_eq, n_add, n_sub, n_mul, n_neg, n_lit, zw] at *; omega))), ?_⟩
              refine hQm _ _ ⟨by first | rfl | simp only [e1, e2], ?_⟩
              exact ⟨hS, hN, hH, hT, hP, hI, gE_upd hE, hF, hX, hV⟩
            · show (¬ (0 : Int32) = 0 → vp_in p0 4 ∧ (¬ (((M 75) (Int32.toNatClampNeg p0)) : Int32) = 0 → vp_in p0 4 ∧ (¬ (((M 75) (Int32.toNatClampNeg p0)) : Int32) = (1 : Int32) → vp_in ((40 * p0) + p1) 160 ∧ Qm (some (.int 1)) (zq_ma (zq_ma M 45 (upd (M 45) (Int32.toNatClampNeg ((p0 * 40) + p1)) (Int8.toInt32 (Int32.toInt8 p2)))) 77 (upd (M 77) (Int32.toNatClampNeg ((40 * p0) + p1)) p2))) ∧ ((((M 75) (Int32.toNatClampNeg p0)) : Int32) = (1 : Int32) → vp_in ((40 * p0) + p1) 160 ∧ Qm (some (.int 1)) (zq_ma (zq_ma M 45 (upd (M 45) (Int32.toNatClampNeg ((p0 * 40) + p1)) (Int8.toInt32 (Int32.toInt8 p2)))) 77 (upd (M 77) (Int32.toNatClampNeg ((40 * p0) + p1)) (Int16.toInt32 (Int32.toInt16 p2)))))) ∧ ((((M 75) (Int32.toNatClampNeg p0)) : Int32) = 0 → vp_in ((40 * p0) + p1) 160 ∧ Qm (some (.int 1)) (zq_ma (zq_ma M 45 (upd (M 45) (Int32.toNatClampNeg ((p0 * 40) + p1)) (Int8.toInt32 (Int32.toInt8 p2)))) 77 (upd (M 77) (Int32.toNatClampNeg ((40 * p0) + p1)) (Int8.toInt32 (Int32.toInt8 p2)))))) ∧ ((0 : Int32) = 0 → Qm (some (.int (-12))) (zq_ma M 45 (upd (M 45) (Int32.toNatClampNeg ((p0 * 40) + p1)) (Int8.toInt32 (Int32.toInt8 p2)))))
              refine ⟨fun q27 => absurd q27 (by decide), fun _ => ?_⟩
              exfalso; (simp only [e1, e2, n_lt, n_le, n_eq, n_add, n_sub, n_mul, n_neg, n_lit, zw] at *; omega)
    · refine ⟨(by first | exact Or.inl rfl | exact Or.inr rfl), ?_⟩
      refine hQ5 _ _ ?_
      show ((1 : Int32) = 0 → mx g (d + 5) kX6_hasItem 0 [.ref 44, .int (p0), .int (p1)] [] M _) ∧ (¬ (1 : Int32) = 0 → Qx (some (.int (-11))) M)
      refine ⟨fun q17 => absurd q17 (by decide), fun _ => ?_⟩
      refine hQx _ _ ⟨(-11), rfl, ?_⟩
      refine mx_q (fun Qm hQm => ?_)
      refine mx_go 200 zq_t225 ?_
      show mx g (d + 5) kX12_isSheet 0 [.ref 48, .int (p0)] [] M _
      refine c_X12_isSheet (fun k18 k19 => ?_) (fun k20 => by exfalso; (simp only [e1, e2, n_lt, n_le, n_eq, n_add, n_sub, n_mul, n_neg, n_lit, zw] at *; omega))
      show (¬ (1 : Int32) = 0 → vp_in p0 4 ∧ (0 ≤ (((M 75) (Int32.toNatClampNeg p0)) : Int32) → vp_in p0 4 ∧ mx g (d + 5) kX12_in 0 [.ref 48, .int (p1), .int (0), .int ((((M 76) (Int32.toNatClampNeg p0)) - 1))] [] M _) ∧ (¬ 0 ≤ (((M 75) (Int32.toNatClampNeg p0)) : Int32) → Qm (some (.int (-11))) M)) ∧ ((1 : Int32) = 0 → Qm (some (.int (-2))) M)
      refine ⟨fun _ => ?_, fun q21 => absurd q21 (by decide)⟩
      refine ⟨(n_in (by (simp only [e1, e2, n_lt, n_le, n_eq, n_add, n_sub, n_mul, n_neg, n_lit, zw] at *; omega)) (by (simp only [e1, e2, n_lt, n_le, n_eq, n_add, n_sub, n_mul, n_neg, n_lit, zw] at *; omega))), ?_⟩
      refine ⟨fun q22 => by exfalso; (simp only [e1, e2, n_lt, n_le, n_eq, n_add, n_sub, n_mul, n_neg, n_lit, zw] at *; omega), fun q22 => ?_⟩
      refine hQm _ _ ⟨by first | rfl | simp only [e1, e2], ?_⟩
      exact hR
  · show (¬ (0 : Int32) = 0 → mx g (d + 5) kX6_isMissing 0 [.ref 44, .int (p0)] [] M _) ∧ ((0 : Int32) = 0 → Qx (some (.int (-2))) M)
    refine ⟨fun q18 => absurd q18 (by decide), fun _ => ?_⟩
    refine hQx _ _ ⟨(-2), rfl, ?_⟩
    refine mx_q (fun Qm hQm => ?_)
    refine mx_go 200 zq_t225 ?_
    show mx g (d + 5) kX12_isSheet 0 [.ref 48, .int (p0)] [] M _
    refine c_X12_isSheet (fun k19 k20 => by exfalso; (simp only [e1, e2, n_lt, n_le, n_eq, n_add, n_sub, n_mul, n_neg, n_lit, zw] at *; omega)) (fun k21 => ?_)
    show (¬ (0 : Int32) = 0 → vp_in p0 4 ∧ (0 ≤ (((M 75) (Int32.toNatClampNeg p0)) : Int32) → vp_in p0 4 ∧ mx g (d + 5) kX12_in 0 [.ref 48, .int (p1), .int (0), .int ((((M 76) (Int32.toNatClampNeg p0)) - 1))] [] M _) ∧ (¬ 0 ≤ (((M 75) (Int32.toNatClampNeg p0)) : Int32) → Qm (some (.int (-11))) M)) ∧ ((0 : Int32) = 0 → Qm (some (.int (-2))) M)
    refine ⟨fun q22 => absurd q22 (by decide), fun _ => ?_⟩
    refine hQm _ _ ⟨by first | rfl | simp only [e1, e2], ?_⟩
    exact hR

