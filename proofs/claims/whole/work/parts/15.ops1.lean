theorem n_pred (x : Int32) : x + 1 - 1 = x := by simp
theorem n_suc {n : Int32} (h : 0 ≤ n.toInt) (h2 : n.toInt < 1000) : (n + 1).toInt = n.toInt + 1 := by rw [n_add, n_1, zw_id (by omega) (by omega)]
theorem gH_put {n n' a b : Int32} {k k' u u' : Nat → Int32} (h : gH n n' k k' u u') (hn : n.toInt < 8) (ha1 : 0 ≤ a.toInt) (ha2 : a.toInt ≤ 5) (hb1 : 0 ≤ b.toInt) (hb2 : b.toInt ≤ 20) : gH (n + 1) (n' + 1) (upd k n.toNatClampNeg a) (upd k' n'.toNatClampNeg a) (upd u n.toNatClampNeg b) (upd u' n'.toNatClampNeg b) := by
  obtain ⟨rfl, rfl, rfl, h4, h5, h6, h7⟩ := h
  rw [gH, n_suc h4 (by omega)]
  exact ⟨rfl, rfl, rfl, by omega, by omega, upd_all (P := fun x => 0 ≤ x.toInt ∧ x.toInt ≤ 5) h6 ⟨ha1, ha2⟩, upd_all (P := fun x => 0 ≤ x.toInt ∧ x.toInt ≤ 20) h7 ⟨hb1, hb2⟩⟩
theorem gT_put {s n n' c c' x y z : Int32} {a a' l l' t t' o o' u u' : Nat → Int32} (h : gT s n n' c c' a a' l l' t t' o o' u u') (hn : n.toInt < 24) (x1 : 0 ≤ x.toInt) (x2 : x.toInt < s.toInt) (y1 : 0 ≤ y.toInt) (y2 : y.toInt ≤ 999) (z1 : 0 ≤ z.toInt) (z2 : z.toInt ≤ 99) : gT s (n + 1) (n' + 1) c c' (upd a n.toNatClampNeg x) (upd a' n'.toNatClampNeg x) (upd l n.toNatClampNeg y) (upd l' n'.toNatClampNeg y) (upd t n.toNatClampNeg z) (upd t' n'.toNatClampNeg z) o o' u u' := by
  obtain ⟨rfl, rfl, rfl, rfl, rfl, rfl, rfl, h8, h9, h10, h11, h12, h13, h14, h15, h16⟩ := h
  rw [gT, n_suc h8 (by omega)]
  refine ⟨rfl, rfl, rfl, rfl, rfl, rfl, rfl, by omega, by omega, h10, h11, fun i hi => ?_, upd_all (P := fun x => 0 ≤ x.toInt ∧ x.toInt ≤ 999) h13 ⟨y1, y2⟩, upd_all (P := fun x => 0 ≤ x.toInt ∧ x.toInt ≤ 99) h14 ⟨z1, z2⟩, h15, h16.1, fun i hi => by have := h16.2 i hi; omega⟩
  unfold upd
  split
  · exact ⟨x1, x2⟩
  · next e => rw [n_cl] at e; exact h12 i (by omega)
theorem gT_cross {s n n' c c' x y : Int32} {a a' l l' t t' o o' u u' : Nat → Int32} (h : gT s n n' c c' a a' l l' t t' o o' u u') (hn : c.toInt < 20) (x1 : 0 ≤ x.toInt) (x2 : x.toInt < n.toInt) (y1 : 0 ≤ y.toInt) (y2 : y.toInt < n.toInt) : gT s n n' (c + 1) (c' + 1) a a' l l' t t' (upd o c.toNatClampNeg x) (upd o' c'.toNatClampNeg x) (upd u c.toNatClampNeg y) (upd u' c'.toNatClampNeg y) := by
  obtain ⟨rfl, rfl, rfl, rfl, rfl, rfl, rfl, h8, h9, h10, h11, h12, h13, h14, h15, h16⟩ := h
  rw [gT, n_suc h10 (by omega)]
  refine ⟨rfl, rfl, rfl, rfl, rfl, rfl, rfl, h8, h9, by omega, by omega, h12, h13, h14, upd_all (P := fun x => 0 ≤ x.toInt ∧ x.toInt ≤ 23) h15 ⟨x1, by omega⟩, upd_all (P := fun x => 0 ≤ x.toInt ∧ x.toInt ≤ 23) h16.1 ⟨y1, by omega⟩, fun i hi => ?_⟩
  unfold upd
  split
  · exact y2
  · next e => rw [n_cl] at e; exact h16.2 i (by omega)
theorem gP_put {n n' q : Int32} {x y p : Nat → Int32} (h : gP n n' x y p) (hn : n.toInt < 8) (q1 : 0 ≤ q.toInt) (q2 : q.toInt ≤ 4095) : gP (n + 1) (n' + 1) (upd x n.toNatClampNeg (q - q / 64 * 64)) (upd y n.toNatClampNeg (q / 64)) (upd p n'.toNatClampNeg q) := by
  obtain ⟨rfl, h2, h3, h4, h5, h6⟩ := h
  rw [gP, n_suc h4 (by omega)]
  refine ⟨rfl, fun i => ?_, fun i => ?_, by omega, by omega, upd_all (P := fun x => 0 ≤ x.toInt ∧ x.toInt ≤ 4095) h6 ⟨q1, q2⟩⟩
  · unfold upd; split
    · rfl
    · exact h2 i
  · unfold upd; split
    · rfl
    · exact h3 i
theorem gI_grow {i i' s s' r r' t t' c c' p p' : Int32} {k k' : Nat → Int32} {ns nx nt nc np ns2 nx2 nt2 nc2 np2 : Int32} {u : Nat → Int32} (h : gI i i' s s' r r' t t' c c' p p' k k' ns nx nt nc np u) (h1 : ns.toInt ≤ ns2.toInt) (h2 : nx.toInt ≤ nx2.toInt) (h3 : nt.toInt ≤ nt2.toInt) (h4 : nc.toInt ≤ nc2.toInt) (h5 : np.toInt ≤ np2.toInt) : gI i i' s s' r r' t t' c c' p p' k k' ns2 nx2 nt2 nc2 np2 u := by
  obtain ⟨i1, i2, i3, i4, i5, i6, i7, i8, i9, i10, i11, i12, i13, i14, i15, i16, i17, i18, i19⟩ := h
  exact ⟨i1, i2, i3, i4, i5, i6, i7, i8, i9, by omega, i11, by omega, i13, by omega, i15, by omega, i17, by omega, i19⟩
theorem gI_cross {i i' s s' r r' t t' c c' p p' : Int32} {k k' : Nat → Int32} {ns nx nt nc np v : Int32} {u : Nat → Int32} (h : gI i i' s s' r r' t t' c c' p p' k k' ns nx nt nc np u) (h1 : 0 ≤ nc.toInt) (h2 : nc.toInt < 20) : gI i i' s s' r r' t t' c c' p p' k k' ns nx nt (nc + 1) np (upd u nc.toNatClampNeg v) := by
  have e := n_suc h1 (by omega)
  obtain ⟨i1, i2, i3, i4, i5, i6, i7, i8, i9, i10, i11, i12, i13, i14, i15, i16, i17, i18, i19, i20⟩ := h
  refine ⟨i1, i2, i3, i4, i5, i6, i7, i8, i9, i10, i11, i12, i13, i14, i15, by omega, i17, i18, i19, fun j hj => ?_⟩
  unfold upd
  split
  · next e => rw [n_cl] at e; omega
  · exact i20 j hj
theorem gX_rule {n n' r r' q : Int32} {co en sg te ma : Nat → Int32} (h : gX n n' r r' co en sg te ma) (h1 : 0 ≤ q.toInt) (h2 : q.toInt < n.toInt) : gX n n' q q co en sg te ma := by
  obtain ⟨x1, x2, x3, x4, x5, x6, x7⟩ := h
  exact ⟨x1, rfl, x3, x4, h1, h2, x7⟩

set_option maxHeartbeats 4000000 in
theorem op_how {g : zq_G} {d : Nat} {M : zq_M} {p0 p1 : Int32} (hR : RR M) : pri g (d + 6) kX11_how kX12_how [.ref 0, .int (p0), .int (p1)] [.ref 48, .int (p0), .int (p1)] M := by
  obtain ⟨hS, hN, hH, hT, hP, hI, hE, hF, hX, hV⟩ := id hR
  obtain ⟨h1, h2, h3, h4, h5, h6, h7⟩ := id hH
  refine mx_q (fun Qx hQx => ?_)
  refine mx_go 200 zq_t93 ?_
  show mx g (d + 5) kX11_isKind 0 [.int (p0)] [] M _
  refine c_X11_isKind (fun k1 k2 => ?_) (fun k3 => ?_)
  · show ((1 : Int32) = 0 → Qx (some (.int (-2))) M) ∧ (¬ (1 : Int32) = 0 → ((p1 : Int32) < 0 → Qx (some (.int (-2))) M) ∧ (¬ (p1 : Int32) < 0 → ((p1 : Int32) ≤ (20 : Int32) → mx g (d + 5) kX0_put 0 [.ref 10, .int (p0), .int (p1)] [] M _) ∧ (¬ (p1 : Int32) ≤ (20 : Int32) → Qx (some (.int (-2))) M)))
    refine ⟨fun q4 => absurd q4 (by decide), fun _ => ?_⟩
    refine ⟨fun q5 => ?_, fun q5 => ?_⟩
    · refine hQx _ _ ⟨(-2), rfl, ?_⟩
      refine mx_q (fun Qm hQm => ?_)
      refine mx_go 200 zq_t147 ?_
      show mx g (d + 5) kX12_in 0 [.ref 48, .int (p0), .int (0), .int (5)] [] M _
      refine c_X12_in (fun k6 k7 => ?_) (fun k8 => by exfalso; (simp only [n_lt, n_le, n_eq, n_add, n_sub, n_mul, n_neg, n_lit, zw] at *; omega))
      show ((1 : Int32) = 0 → Qm (some (.int (-2))) M) ∧ (¬ (1 : Int32) = 0 → mx g (d + 5) kX12_in 0 [.ref 48, .int (p1), .int (0), .int (20)] [] M _)
      refine ⟨fun q9 => absurd q9 (by decide), fun _ => ?_⟩
      refine c_X12_in (fun k10 k11 => by exfalso; (simp only [n_lt, n_le, n_eq, n_add, n_sub, n_mul, n_neg, n_lit, zw] at *; omega)) (fun k12 => ?_)
      show (¬ (0 : Int32) = 0 → (¬ ((M 48 2) : Int32) = (8 : Int32) → vp_in (M 48 2) 8 ∧ vp_in (M 48 2) 8 ∧ Qm (some (.int (((M 48 2) + 1) - 1))) (zq_mu (zq_ma (zq_ma M 55 (upd (M 55) (Int32.toNatClampNeg (M 48 2)) p0)) 56 (upd (M 56) (Int32.toNatClampNeg (M 48 2)) p1)) 48 2 ((M 48 2) + 1))) ∧ (((M 48 2) : Int32) = (8 : Int32) → Qm (some (.int (-4))) M)) ∧ ((0 : Int32) = 0 → Qm (some (.int (-2))) M)
      refine ⟨fun q13 => absurd q13 (by decide), fun _ => ?_⟩
      refine hQm _ _ ⟨by first | rfl | simp only [h1, h2, h3, n_pred], ?_⟩
      exact hR
    · refine ⟨fun q6 => ?_, fun q6 => ?_⟩
      · refine mx_q (fun Q7 hQ7 => ?_)
        refine mx_go 200 zq_t2 ?_
        show (((M 10 2) : Int32) < (8 : Int32) → vp_in (M 10 2) 8 ∧ vp_in (M 10 2) 8 ∧ Q7 (some (.int (((M 10 2) + 1) - 1))) (zq_mu (zq_ma (zq_ma M 11 (upd (M 11) (Int32.toNatClampNeg (M 10 2)) p0)) 12 (upd (M 12) (Int32.toNatClampNeg (M 10 2)) p1)) 10 2 ((M 10 2) + 1))) ∧ (¬ ((M 10 2) : Int32) < (8 : Int32) → Q7 (some (.int (-4))) M)
        refine ⟨fun q8 => ?_, fun q8 => ?_⟩
        · refine ⟨(n_in (by (simp only [n_lt, n_le, n_eq, n_add, n_sub, n_mul, n_neg, n_lit, zw] at *; omega)) (by (simp only [n_lt, n_le, n_eq, n_add, n_sub, n_mul, n_neg, n_lit, zw] at *; omega))), ?_⟩
          refine ⟨(n_in (by (simp only [n_lt, n_le, n_eq, n_add, n_sub, n_mul, n_neg, n_lit, zw] at *; omega)) (by (simp only [n_lt, n_le, n_eq, n_add, n_sub, n_mul, n_neg, n_lit, zw] at *; omega))), ?_⟩
          refine hQ7 _ _ ?_
          show Qx (some (.int (((M 10 2) + 1) - 1))) (zq_mu (zq_ma (zq_ma M 11 (upd (M 11) (Int32.toNatClampNeg (M 10 2)) p0)) 12 (upd (M 12) (Int32.toNatClampNeg (M 10 2)) p1)) 10 2 ((M 10 2) + 1))
          refine hQx _ _ ⟨(((M 10 2) + 1) - 1), rfl, ?_⟩
          refine mx_q (fun Qm hQm => ?_)
          refine mx_go 200 zq_t147 ?_
          show mx g (d + 5) kX12_in 0 [.ref 48, .int (p0), .int (0), .int (5)] [] (zq_mu (zq_ma (zq_ma M 11 (upd (M 11) (Int32.toNatClampNeg (M 10 2)) p0)) 12 (upd (M 12) (Int32.toNatClampNeg (M 10 2)) p1)) 10 2 ((M 10 2) + 1)) _
          refine c_X12_in (fun k9 k10 => ?_) (fun k11 => by exfalso; (simp only [n_lt, n_le, n_eq, n_add, n_sub, n_mul, n_neg, n_lit, zw] at *; omega))
          show ((1 : Int32) = 0 → Qm (some (.int (-2))) (zq_mu (zq_ma (zq_ma M 11 (upd (M 11) (Int32.toNatClampNeg (M 10 2)) p0)) 12 (upd (M 12) (Int32.toNatClampNeg (M 10 2)) p1)) 10 2 ((M 10 2) + 1))) ∧ (¬ (1 : Int32) = 0 → mx g (d + 5) kX12_in 0 [.ref 48, .int (p1), .int (0), .int (20)] [] (zq_mu (zq_ma (zq_ma M 11 (upd (M 11) (Int32.toNatClampNeg (M 10 2)) p0)) 12 (upd (M 12) (Int32.toNatClampNeg (M 10 2)) p1)) 10 2 ((M 10 2) + 1)) _)
          refine ⟨fun q12 => absurd q12 (by decide), fun _ => ?_⟩
          refine c_X12_in (fun k13 k14 => ?_) (fun k15 => by exfalso; (simp only [n_lt, n_le, n_eq, n_add, n_sub, n_mul, n_neg, n_lit, zw] at *; omega))
          show (¬ (1 : Int32) = 0 → (¬ ((M 48 2) : Int32) = (8 : Int32) → vp_in (M 48 2) 8 ∧ vp_in (M 48 2) 8 ∧ Qm (some (.int (((M 48 2) + 1) - 1))) (zq_mu (zq_ma (zq_ma (zq_mu (zq_ma (zq_ma M 11 (upd (M 11) (Int32.toNatClampNeg (M 10 2)) p0)) 12 (upd (M 12) (Int32.toNatClampNeg (M 10 2)) p1)) 10 2 ((M 10 2) + 1)) 55 (upd (M 55) (Int32.toNatClampNeg (M 48 2)) p0)) 56 (upd (M 56) (Int32.toNatClampNeg (M 48 2)) p1)) 48 2 ((M 48 2) + 1))) ∧ (((M 48 2) : Int32) = (8 : Int32) → Qm (some (.int (-4))) (zq_mu (zq_ma (zq_ma M 11 (upd (M 11) (Int32.toNatClampNeg (M 10 2)) p0)) 12 (upd (M 12) (Int32.toNatClampNeg (M 10 2)) p1)) 10 2 ((M 10 2) + 1)))) ∧ ((1 : Int32) = 0 → Qm (some (.int (-2))) (zq_mu (zq_ma (zq_ma M 11 (upd (M 11) (Int32.toNatClampNeg (M 10 2)) p0)) 12 (upd (M 12) (Int32.toNatClampNeg (M 10 2)) p1)) 10 2 ((M 10 2) + 1)))
          refine ⟨fun _ => ?_, fun q16 => absurd q16 (by decide)⟩
          refine ⟨fun q17 => ?_, fun q17 => by exfalso; (simp only [n_lt, n_le, n_eq, n_add, n_sub, n_mul, n_neg, n_lit, zw] at *; omega)⟩
          refine ⟨(n_in (by (simp only [n_lt, n_le, n_eq, n_add, n_sub, n_mul, n_neg, n_lit, zw] at *; omega)) (by (simp only [n_lt, n_le, n_eq, n_add, n_sub, n_mul, n_neg, n_lit, zw] at *; omega))), ?_⟩
          refine ⟨(n_in (by (simp only [n_lt, n_le, n_eq, n_add, n_sub, n_mul, n_neg, n_lit, zw] at *; omega)) (by (simp only [n_lt, n_le, n_eq, n_add, n_sub, n_mul, n_neg, n_lit, zw] at *; omega))), ?_⟩
          refine hQm _ _ ⟨by first | rfl | simp only [h1, h2, h3, n_pred], ?_⟩
          exact ⟨hS, hN, gH_put (n := M 10 2) (a := p0) (b := p1) hH (by (simp only [n_lt, n_le, n_eq, n_add, n_sub, n_mul, n_neg, n_lit, zw] at *; omega)) (by (simp only [n_lt, n_le, n_eq, n_add, n_sub, n_mul, n_neg, n_lit, zw] at *; omega)) (by (simp only [n_lt, n_le, n_eq, n_add, n_sub, n_mul, n_neg, n_lit, zw] at *; omega)) (by (simp only [n_lt, n_le, n_eq, n_add, n_sub, n_mul, n_neg, n_lit, zw] at *; omega)) (by (simp only [n_lt, n_le, n_eq, n_add, n_sub, n_mul, n_neg, n_lit, zw] at *; omega)), hT, hP, hI, hE, hF, hX, hV⟩
        · refine hQ7 _ _ ?_
          show Qx (some (.int (-4))) M
          refine hQx _ _ ⟨(-4), rfl, ?_⟩
          refine mx_q (fun Qm hQm => ?_)
          refine mx_go 200 zq_t147 ?_
          show mx g (d + 5) kX12_in 0 [.ref 48, .int (p0), .int (0), .int (5)] [] M _
          refine c_X12_in (fun k9 k10 => ?_) (fun k11 => by exfalso; (simp only [n_lt, n_le, n_eq, n_add, n_sub, n_mul, n_neg, n_lit, zw] at *; omega))
          show ((1 : Int32) = 0 → Qm (some (.int (-2))) M) ∧ (¬ (1 : Int32) = 0 → mx g (d + 5) kX12_in 0 [.ref 48, .int (p1), .int (0), .int (20)] [] M _)
          refine ⟨fun q12 => absurd q12 (by decide), fun _ => ?_⟩
          refine c_X12_in (fun k13 k14 => ?_) (fun k15 => by exfalso; (simp only [n_lt, n_le, n_eq, n_add, n_sub, n_mul, n_neg, n_lit, zw] at *; omega))
          show (¬ (1 : Int32) = 0 → (¬ ((M 48 2) : Int32) = (8 : Int32) → vp_in (M 48 2) 8 ∧ vp_in (M 48 2) 8 ∧ Qm (some (.int (((M 48 2) + 1) - 1))) (zq_mu (zq_ma (zq_ma M 55 (upd (M 55) (Int32.toNatClampNeg (M 48 2)) p0)) 56 (upd (M 56) (Int32.toNatClampNeg (M 48 2)) p1)) 48 2 ((M 48 2) + 1))) ∧ (((M 48 2) : Int32) = (8 : Int32) → Qm (some (.int (-4))) M)) ∧ ((1 : Int32) = 0 → Qm (some (.int (-2))) M)
          refine ⟨fun _ => ?_, fun q16 => absurd q16 (by decide)⟩
          refine ⟨fun q17 => by exfalso; (simp only [n_lt, n_le, n_eq, n_add, n_sub, n_mul, n_neg, n_lit, zw] at *; omega), fun q17 => ?_⟩
          refine hQm _ _ ⟨by first | rfl | simp only [h1, h2, h3, n_pred], ?_⟩
          exact hR
      · refine hQx _ _ ⟨(-2), rfl, ?_⟩
        refine mx_q (fun Qm hQm => ?_)
        refine mx_go 200 zq_t147 ?_
        show mx g (d + 5) kX12_in 0 [.ref 48, .int (p0), .int (0), .int (5)] [] M _
        refine c_X12_in (fun k9 k10 => ?_) (fun k11 => by exfalso; (simp only [n_lt, n_le, n_eq, n_add, n_sub, n_mul, n_neg, n_lit, zw] at *; omega))
        show ((1 : Int32) = 0 → Qm (some (.int (-2))) M) ∧ (¬ (1 : Int32) = 0 → mx g (d + 5) kX12_in 0 [.ref 48, .int (p1), .int (0), .int (20)] [] M _)
        refine ⟨fun q12 => absurd q12 (by decide), fun _ => ?_⟩
        refine c_X12_in (fun k13 k14 => by exfalso; (simp only [n_lt, n_le, n_eq, n_add, n_sub, n_mul, n_neg, n_lit, zw] at *; omega)) (fun k15 => ?_)
        show (¬ (0 : Int32) = 0 → (¬ ((M 48 2) : Int32) = (8 : Int32) → vp_in (M 48 2) 8 ∧ vp_in (M 48 2) 8 ∧ Qm (some (.int (((M 48 2) + 1) - 1))) (zq_mu (zq_ma (zq_ma M 55 (upd (M 55) (Int32.toNatClampNeg (M 48 2)) p0)) 56 (upd (M 56) (Int32.toNatClampNeg (M 48 2)) p1)) 48 2 ((M 48 2) + 1))) ∧ (((M 48 2) : Int32) = (8 : Int32) → Qm (some (.int (-4))) M)) ∧ ((0 : Int32) = 0 → Qm (some (.int (-2))) M)
        refine ⟨fun q16 => absurd q16 (by decide), fun _ => ?_⟩
        refine hQm _ _ ⟨by first | rfl | simp only [h1, h2, h3, n_pred], ?_⟩
        exact hR
  · show ((0 : Int32) = 0 → Qx (some (.int (-2))) M) ∧ (¬ (0 : Int32) = 0 → ((p1 : Int32) < 0 → Qx (some (.int (-2))) M) ∧ (¬ (p1 : Int32) < 0 → ((p1 : Int32) ≤ (20 : Int32) → mx g (d + 5) kX0_put 0 [.ref 10, .int (p0), .int (p1)] [] M _) ∧ (¬ (p1 : Int32) ≤ (20 : Int32) → Qx (some (.int (-2))) M)))
    refine ⟨fun _ => ?_, fun q9 => absurd q9 (by decide)⟩
    refine hQx _ _ ⟨(-2), rfl, ?_⟩
    refine mx_q (fun Qm hQm => ?_)
    refine mx_go 200 zq_t147 ?_
    show mx g (d + 5) kX12_in 0 [.ref 48, .int (p0), .int (0), .int (5)] [] M _
    refine c_X12_in (fun k10 k11 => by exfalso; (simp only [n_lt, n_le, n_eq, n_add, n_sub, n_mul, n_neg, n_lit, zw] at *; omega)) (fun k12 => ?_)
    show ((0 : Int32) = 0 → Qm (some (.int (-2))) M) ∧ (¬ (0 : Int32) = 0 → mx g (d + 5) kX12_in 0 [.ref 48, .int (p1), .int (0), .int (20)] [] M _)
    refine ⟨fun _ => ?_, fun q13 => absurd q13 (by decide)⟩
    refine hQm _ _ ⟨by first | rfl | simp only [h1, h2, h3, n_pred], ?_⟩
    exact hR

set_option maxHeartbeats 4000000 in
theorem op_stoneTold {g : zq_G} {d : Nat} {M : zq_M} {p0 p1 : Int32} (hR : RR M) : pri g (d + 6) kX11_stoneTold kX12_stoneTold [.ref 0, .int (p0), .int (p1)] [.ref 48, .int (p0), .int (p1)] M := by
  obtain ⟨hS, hN, hH, hT, hP, hI, hE, hF, hX, hV⟩ := id hR
  obtain ⟨s1, s2, s3, s4, s5, s6, s7, s8⟩ := id hS
  refine mx_q (fun Qx hQx => ?_)
  refine mx_go 200 zq_t94 ?_
  show mx g (d + 5) kX7_has 0 [.ref 1, .int (p0)] [] M _
  refine c_X7_has (n := (M 1 3)) rfl (fun k1 k2 => ?_) (fun k3 => ?_)
  · show ((1 : Int32) = 0 → Qx (some (.int (-5))) M) ∧ (¬ (1 : Int32) = 0 → ((p1 : Int32) < 0 → Qx (some (.int (-5))) M) ∧ (¬ (p1 : Int32) < 0 → ((p1 : Int32) ≤ (1 : Int32) → (¬ (p1 : Int32) = 0 → vp_in p0 10 ∧ Qx (some (.int ((M 3) (Int32.toNatClampNeg p0)))) M) ∧ ((p1 : Int32) = 0 → vp_in p0 10 ∧ Qx (some (.int ((M 2) (Int32.toNatClampNeg p0)))) M)) ∧ (¬ (p1 : Int32) ≤ (1 : Int32) → Qx (some (.int (-5))) M)))
    refine ⟨fun q4 => absurd q4 (by decide), fun _ => ?_⟩
    refine ⟨fun q5 => ?_, fun q5 => ?_⟩
    · refine hQx _ _ ⟨(-5), rfl, ?_⟩
      refine mx_q (fun Qm hQm => ?_)
      refine mx_go 200 zq_t148 ?_
      show mx g (d + 5) kX12_isStone 0 [.ref 48, .int (p0)] [] M _
      refine c_X12_isStone (n := (M 48 0)) rfl (by (simp only [n_lt, n_le, n_eq, n_add, n_sub, n_mul, n_neg, n_lit, zw] at *; omega)) (fun k6 k7 => ?_) (fun k8 => by exfalso; (simp only [n_lt, n_le, n_eq, n_add, n_sub, n_mul, n_neg, n_lit, zw] at *; omega))
      show ((1 : Int32) = 0 → Qm (some (.int (-5))) M) ∧ (¬ (1 : Int32) = 0 → mx g (d + 5) kX12_in 0 [.ref 48, .int (p1), .int (0), .int (1)] [] M _)
      refine ⟨fun q9 => absurd q9 (by decide), fun _ => ?_⟩
      refine c_X12_in (fun k10 k11 => by exfalso; (simp only [n_lt, n_le, n_eq, n_add, n_sub, n_mul, n_neg, n_lit, zw] at *; omega)) (fun k12 => ?_)
      show (¬ (0 : Int32) = 0 → (¬ (p1 : Int32) = 0 → vp_in p0 10 ∧ Qm (some (.int ((M 50) (Int32.toNatClampNeg p0)))) M) ∧ ((p1 : Int32) = 0 → vp_in p0 10 ∧ Qm (some (.int ((M 49) (Int32.toNatClampNeg p0)))) M)) ∧ ((0 : Int32) = 0 → Qm (some (.int (-5))) M)
      refine ⟨fun q13 => absurd q13 (by decide), fun _ => ?_⟩
      refine hQm _ _ ⟨by first | rfl | simp only [s1, s2, s3, n_pred], ?_⟩
      exact hR
    · refine ⟨fun q6 => ?_, fun q6 => ?_⟩
      · refine ⟨fun q7 => ?_, fun q7 => ?_⟩
        · refine ⟨(n_in (by (simp only [n_lt, n_le, n_eq, n_add, n_sub, n_mul, n_neg, n_lit, zw] at *; omega)) (by (simp only [n_lt, n_le, n_eq, n_add, n_sub, n_mul, n_neg, n_lit, zw] at *; omega))), ?_⟩
          refine hQx _ _ ⟨((M 3) (Int32.toNatClampNeg p0)), rfl, ?_⟩
          refine mx_q (fun Qm hQm => ?_)
          refine mx_go 200 zq_t148 ?_
          show mx g (d + 5) kX12_isStone 0 [.ref 48, .int (p0)] [] M _
          refine c_X12_isStone (n := (M 48 0)) rfl (by (simp only [n_lt, n_le, n_eq, n_add, n_sub, n_mul, n_neg, n_lit, zw] at *; omega)) (fun k8 k9 => ?_) (fun k10 => by exfalso; (simp only [n_lt, n_le, n_eq, n_add, n_sub, n_mul, n_neg, n_lit, zw] at *; omega))
          show ((1 : Int32) = 0 → Qm (some (.int (-5))) M) ∧ (¬ (1 : Int32) = 0 → mx g (d + 5) kX12_in 0 [.ref 48, .int (p1), .int (0), .int (1)] [] M _)
          refine ⟨fun q11 => absurd q11 (by decide), fun _ => ?_⟩
          refine c_X12_in (fun k12 k13 => ?_) (fun k14 => by exfalso; (simp only [n_lt, n_le, n_eq, n_add, n_sub, n_mul, n_neg, n_lit, zw] at *; omega))
          show (¬ (1 : Int32) = 0 → (¬ (p1 : Int32) = 0 → vp_in p0 10 ∧ Qm (some (.int ((M 50) (Int32.toNatClampNeg p0)))) M) ∧ ((p1 : Int32) = 0 → vp_in p0 10 ∧ Qm (some (.int ((M 49) (Int32.toNatClampNeg p0)))) M)) ∧ ((1 : Int32) = 0 → Qm (some (.int (-5))) M)
          refine ⟨fun _ => ?_, fun q15 => absurd q15 (by decide)⟩
          refine ⟨fun q16 => ?_, fun q16 => by exfalso; (simp only [n_lt, n_le, n_eq, n_add, n_sub, n_mul, n_neg, n_lit, zw] at *; omega)⟩
          refine ⟨(n_in (by (simp only [n_lt, n_le, n_eq, n_add, n_sub, n_mul, n_neg, n_lit, zw] at *; omega)) (by (simp only [n_lt, n_le, n_eq, n_add, n_sub, n_mul, n_neg, n_lit, zw] at *; omega))), ?_⟩
          refine hQm _ _ ⟨by first | rfl | simp only [s1, s2, s3, n_pred], ?_⟩
          exact hR
        · refine ⟨(n_in (by (simp only [n_lt, n_le, n_eq, n_add, n_sub, n_mul, n_neg, n_lit, zw] at *; omega)) (by (simp only [n_lt, n_le, n_eq, n_add, n_sub, n_mul, n_neg, n_lit, zw] at *; omega))), ?_⟩
          refine hQx _ _ ⟨((M 2) (Int32.toNatClampNeg p0)), rfl, ?_⟩
          refine mx_q (fun Qm hQm => ?_)
          refine mx_go 200 zq_t148 ?_
          show mx g (d + 5) kX12_isStone 0 [.ref 48, .int (p0)] [] M _
          refine c_X12_isStone (n := (M 48 0)) rfl (by (simp only [n_lt, n_le, n_eq, n_add, n_sub, n_mul, n_neg, n_lit, zw] at *; omega)) (fun k8 k9 => ?_) (fun k10 => by exfalso; (simp only [n_lt, n_le, n_eq, n_add, n_sub, n_mul, n_neg, n_lit, zw] at *; omega))
          show ((1 : Int32) = 0 → Qm (some (.int (-5))) M) ∧ (¬ (1 : Int32) = 0 → mx g (d + 5) kX12_in 0 [.ref 48, .int (p1), .int (0), .int (1)] [] M _)
          refine ⟨fun q11 => absurd q11 (by decide), fun _ => ?_⟩
          refine c_X12_in (fun k12 k13 => ?_) (fun k14 => by exfalso; (simp only [n_lt, n_le, n_eq, n_add, n_sub, n_mul, n_neg, n_lit, zw] at *; omega))
          show (¬ (1 : Int32) = 0 → (¬ (p1 : Int32) = 0 → vp_in p0 10 ∧ Qm (some (.int ((M 50) (Int32.toNatClampNeg p0)))) M) ∧ ((p1 : Int32) = 0 → vp_in p0 10 ∧ Qm (some (.int ((M 49) (Int32.toNatClampNeg p0)))) M)) ∧ ((1 : Int32) = 0 → Qm (some (.int (-5))) M)
          refine ⟨fun _ => ?_, fun q15 => absurd q15 (by decide)⟩
          refine ⟨fun q16 => by exfalso; (simp only [n_lt, n_le, n_eq, n_add, n_sub, n_mul, n_neg, n_lit, zw] at *; omega), fun q16 => ?_⟩
          refine ⟨(n_in (by (simp only [n_lt, n_le, n_eq, n_add, n_sub, n_mul, n_neg, n_lit, zw] at *; omega)) (by (simp only [n_lt, n_le, n_eq, n_add, n_sub, n_mul, n_neg, n_lit, zw] at *; omega))), ?_⟩
          refine hQm _ _ ⟨by first | rfl | simp only [s1, s2, s3, n_pred], ?_⟩
          exact hR
      · refine hQx _ _ ⟨(-5), rfl, ?_⟩
        refine mx_q (fun Qm hQm => ?_)
        refine mx_go 200 zq_t148 ?_
        show mx g (d + 5) kX12_isStone 0 [.ref 48, .int (p0)] [] M _
        refine c_X12_isStone (n := (M 48 0)) rfl (by (simp only [n_lt, n_le, n_eq, n_add, n_sub, n_mul, n_neg, n_lit, zw] at *; omega)) (fun k8 k9 => ?_) (fun k10 => by exfalso; (simp only [n_lt, n_le, n_eq, n_add, n_sub, n_mul, n_neg, n_lit, zw] at *; omega))
        show ((1 : Int32) = 0 → Qm (some (.int (-5))) M) ∧ (¬ (1 : Int32) = 0 → mx g (d + 5) kX12_in 0 [.ref 48, .int (p1), .int (0), .int (1)] [] M _)
        refine ⟨fun q11 => absurd q11 (by decide), fun _ => ?_⟩
        refine c_X12_in (fun k12 k13 => by exfalso; (simp only [n_lt, n_le, n_eq, n_add, n_sub, n_mul, n_neg, n_lit, zw] at *; omega)) (fun k14 => ?_)
        show (¬ (0 : Int32) = 0 → (¬ (p1 : Int32) = 0 → vp_in p0 10 ∧ Qm (some (.int ((M 50) (Int32.toNatClampNeg p0)))) M) ∧ ((p1 : Int32) = 0 → vp_in p0 10 ∧ Qm (some (.int ((M 49) (Int32.toNatClampNeg p0)))) M)) ∧ ((0 : Int32) = 0 → Qm (some (.int (-5))) M)
        refine ⟨fun q15 => absurd q15 (by decide), fun _ => ?_⟩
        refine hQm _ _ ⟨by first | rfl | simp only [s1, s2, s3, n_pred], ?_⟩
        exact hR
  · show ((0 : Int32) = 0 → Qx (some (.int (-5))) M) ∧ (¬ (0 : Int32) = 0 → ((p1 : Int32) < 0 → Qx (some (.int (-5))) M) ∧ (¬ (p1 : Int32) < 0 → ((p1 : Int32) ≤ (1 : Int32) → (¬ (p1 : Int32) = 0 → vp_in p0 10 ∧ Qx (some (.int ((M 3) (Int32.toNatClampNeg p0)))) M) ∧ ((p1 : Int32) = 0 → vp_in p0 10 ∧ Qx (some (.int ((M 2) (Int32.toNatClampNeg p0)))) M)) ∧ (¬ (p1 : Int32) ≤ (1 : Int32) → Qx (some (.int (-5))) M)))
    refine ⟨fun _ => ?_, fun q8 => absurd q8 (by decide)⟩
    refine hQx _ _ ⟨(-5), rfl, ?_⟩
    refine mx_q (fun Qm hQm => ?_)
    refine mx_go 200 zq_t148 ?_
    show mx g (d + 5) kX12_isStone 0 [.ref 48, .int (p0)] [] M _
    refine c_X12_isStone (n := (M 48 0)) rfl (by (simp only [n_lt, n_le, n_eq, n_add, n_sub, n_mul, n_neg, n_lit, zw] at *; omega)) (fun k9 k10 => by exfalso; (simp only [n_lt, n_le, n_eq, n_add, n_sub, n_mul, n_neg, n_lit, zw] at *; omega)) (fun k11 => ?_)
    show ((0 : Int32) = 0 → Qm (some (.int (-5))) M) ∧ (¬ (0 : Int32) = 0 → mx g (d + 5) kX12_in 0 [.ref 48, .int (p1), .int (0), .int (1)] [] M _)
    refine ⟨fun _ => ?_, fun q12 => absurd q12 (by decide)⟩
    refine hQm _ _ ⟨by first | rfl | simp only [s1, s2, s3, n_pred], ?_⟩
    exact hR

set_option maxHeartbeats 4000000 in
theorem op_force {g : zq_G} {d : Nat} {M : zq_M} {p0 : Int32} (hR : RR M) : pri g (d + 6) kX11_force kX12_force [.ref 0, .int (p0), .null] [.ref 48, .int (p0), .null] M := by
  obtain ⟨hS, hN, hH, hT, hP, hI, hE, hF, hX, hV⟩ := id hR
  obtain ⟨x1, x2, x3, x4, x5, x6, x7⟩ := id hX
  refine mx_q (fun Qx hQx => ?_)
  refine mx_go 200 zq_t99 ?_
  show ((p0 : Int32) < 0 → Qx (some (.int (-2))) M) ∧ (¬ (p0 : Int32) < 0 → ((p0 : Int32) < ((M 13 4) : Int32) → Qx (some (.int (M 13 5))) (zq_mu M 13 5 p0)) ∧ (¬ (p0 : Int32) < ((M 13 4) : Int32) → Qx (some (.int (-2))) M))
  refine ⟨fun q1 => ?_, fun q1 => ?_⟩
  · refine hQx _ _ ⟨(-2), rfl, ?_⟩
    refine mx_q (fun Qm hQm => ?_)
    refine mx_go 200 zq_t170 ?_
    show mx g (d + 5) kX12_in 0 [.ref 48, .int (p0), .int (0), .int (((M 48 11) - 1))] [] M _
    refine c_X12_in (fun k2 k3 => ?_) (fun k4 => ?_)
    · show (¬ (1 : Int32) = 0 → Qm (some (.int (M 48 12))) (zq_mu M 48 12 p0)) ∧ ((1 : Int32) = 0 → Qm (some (.int (-2))) M)
      refine ⟨fun _ => ?_, fun q5 => absurd q5 (by decide)⟩
      exfalso; (simp only [n_lt, n_le, n_eq, n_add, n_sub, n_mul, n_neg, n_lit, zw] at *; omega)
    · show (¬ (0 : Int32) = 0 → Qm (some (.int (M 48 12))) (zq_mu M 48 12 p0)) ∧ ((0 : Int32) = 0 → Qm (some (.int (-2))) M)
      refine ⟨fun q6 => absurd q6 (by decide), fun _ => ?_⟩
      refine hQm _ _ ⟨by first | rfl | simp only [x1, x2, n_pred], ?_⟩
      exact hR
  · refine ⟨fun q2 => ?_, fun q2 => ?_⟩
    · refine hQx _ _ ⟨(M 13 5), rfl, ?_⟩
      refine mx_q (fun Qm hQm => ?_)
      refine mx_go 200 zq_t170 ?_
      show mx g (d + 5) kX12_in 0 [.ref 48, .int (p0), .int (0), .int (((M 48 11) - 1))] [] (zq_mu M 13 5 p0) _
      refine c_X12_in (fun k3 k4 => ?_) (fun k5 => ?_)
      · show (¬ (1 : Int32) = 0 → Qm (some (.int (M 48 12))) (zq_mu (zq_mu M 13 5 p0) 48 12 p0)) ∧ ((1 : Int32) = 0 → Qm (some (.int (-2))) (zq_mu M 13 5 p0))
        refine ⟨fun _ => ?_, fun q6 => absurd q6 (by decide)⟩
        refine hQm _ _ ⟨by first | rfl | simp only [x1, x2, n_pred], ?_⟩
        exact ⟨hS, hN, hH, hT, hP, hI, hE, hF, gX_rule (q := p0) (n := M 13 4) hX (by (simp only [n_lt, n_le, n_eq, n_add, n_sub, n_mul, n_neg, n_lit, zw] at *; omega)) (by (simp only [n_lt, n_le, n_eq, n_add, n_sub, n_mul, n_neg, n_lit, zw] at *; omega)), hV⟩
      · show (¬ (0 : Int32) = 0 → Qm (some (.int (M 48 12))) (zq_mu (zq_mu M 13 5 p0) 48 12 p0)) ∧ ((0 : Int32) = 0 → Qm (some (.int (-2))) (zq_mu M 13 5 p0))
        refine ⟨fun q7 => absurd q7 (by decide), fun _ => ?_⟩
        exfalso; (simp only [n_lt, n_le, n_eq, n_add, n_sub, n_mul, n_neg, n_lit, zw] at *; omega)
    · refine hQx _ _ ⟨(-2), rfl, ?_⟩
      refine mx_q (fun Qm hQm => ?_)
      refine mx_go 200 zq_t170 ?_
      show mx g (d + 5) kX12_in 0 [.ref 48, .int (p0), .int (0), .int (((M 48 11) - 1))] [] M _
      refine c_X12_in (fun k3 k4 => ?_) (fun k5 => ?_)
      · show (¬ (1 : Int32) = 0 → Qm (some (.int (M 48 12))) (zq_mu M 48 12 p0)) ∧ ((1 : Int32) = 0 → Qm (some (.int (-2))) M)
        refine ⟨fun _ => ?_, fun q6 => absurd q6 (by decide)⟩
        exfalso; (simp only [n_lt, n_le, n_eq, n_add, n_sub, n_mul, n_neg, n_lit, zw] at *; omega)
      · show (¬ (0 : Int32) = 0 → Qm (some (.int (M 48 12))) (zq_mu M 48 12 p0)) ∧ ((0 : Int32) = 0 → Qm (some (.int (-2))) M)
        refine ⟨fun q7 => absurd q7 (by decide), fun _ => ?_⟩
        refine hQm _ _ ⟨by first | rfl | simp only [x1, x2, n_pred], ?_⟩
        exact hR

set_option maxHeartbeats 4000000 in
theorem op_count {g : zq_G} {d : Nat} {M : zq_M} {p0 : Int32} (hR : RR M) : pri g (d + 6) kX11_count kX12_count [.ref 0, .int (p0)] [.ref 48, .int (p0)] M := by
  obtain ⟨hS, hN, hH, hT, hP, hI, hE, hF, hX, hV⟩ := id hR
  obtain ⟨s1, s2, s3, s4, s5, s6, s7, s8⟩ := id hS
  obtain ⟨a1, a2, a3, a4, a5, a6, a7, a8, a9, a10, a11⟩ := id hN
  obtain ⟨h1, h2, h3, h4, h5, h6, h7⟩ := id hH
  obtain ⟨t1, t2, t3, t4, t5, t6, t7, t8, t9, t10, t11, t12, t13, t14, t15, t16⟩ := id hT
  obtain ⟨p1, p2, p3, p4, p5, p6⟩ := id hP
  obtain ⟨f1, f2, f3, f4, f5⟩ := id hF
  obtain ⟨x1, x2, x3, x4, x5, x6, x7⟩ := id hX
  refine mx_q (fun Qx hQx => ?_)
  refine mx_go 200 zq_t119 ?_
  show ((p0 : Int32).toInt < 0 ∨ 8 < (p0 : Int32).toInt → Qx (some (.int (-2))) M) ∧ ((p0 : Int32).toInt = 0 → Qx (some (.int (M 1 3))) M) ∧ ((p0 : Int32).toInt = 1 → Qx (some (.int (M 5 4))) M) ∧ ((p0 : Int32).toInt = 2 → Qx (some (.int (M 10 2))) M) ∧ ((p0 : Int32).toInt = 3 → Qx (some (.int (M 30 7))) M) ∧ ((p0 : Int32).toInt = 4 → Qx (some (.int (M 38 2))) M) ∧ ((p0 : Int32).toInt = 5 → Qx (some (.int (M 30 8))) M) ∧ ((p0 : Int32).toInt = 6 → Qx (some (.int (M 13 4))) M) ∧ ((p0 : Int32).toInt = 7 → Qx (some (.int (M 18 5))) M) ∧ ((p0 : Int32).toInt = 8 → Qx (some (.int (M 13 5))) M)
  refine ⟨fun q1 => ?_, fun q1 => ?_, fun q1 => ?_, fun q1 => ?_, fun q1 => ?_, fun q1 => ?_, fun q1 => ?_, fun q1 => ?_, fun q1 => ?_, fun q1 => ?_⟩
  · refine hQx _ _ ⟨(-2), rfl, ?_⟩
    refine mx_q (fun Qm hQm => ?_)
    refine mx_go 200 zq_t222 ?_
    show ((p0 : Int32).toInt < 0 ∨ 8 < (p0 : Int32).toInt → Qm (some (.int (-2))) M) ∧ ((p0 : Int32).toInt = 0 → Qm (some (.int (M 48 0))) M) ∧ ((p0 : Int32).toInt = 1 → Qm (some (.int (M 48 1))) M) ∧ ((p0 : Int32).toInt = 2 → Qm (some (.int (M 48 2))) M) ∧ ((p0 : Int32).toInt = 3 → Qm (some (.int (M 48 32))) M) ∧ ((p0 : Int32).toInt = 4 → Qm (some (.int (M 48 37))) M) ∧ ((p0 : Int32).toInt = 5 → Qm (some (.int (M 48 39))) M) ∧ ((p0 : Int32).toInt = 6 → Qm (some (.int (M 48 11))) M) ∧ ((p0 : Int32).toInt = 7 → Qm (some (.int (M 48 13))) M) ∧ ((p0 : Int32).toInt = 8 → Qm (some (.int (M 48 12))) M)
    refine ⟨fun q2 => ?_, fun q2 => by exfalso; (simp only [n_lt, n_le, n_eq, n_add, n_sub, n_mul, n_neg, n_lit, zw] at *; omega), fun q2 => by exfalso; (simp only [n_lt, n_le, n_eq, n_add, n_sub, n_mul, n_neg, n_lit, zw] at *; omega), fun q2 => by exfalso; (simp only [n_lt, n_le, n_eq, n_add, n_sub, n_mul, n_neg, n_lit, zw] at *; omega), fun q2 => by exfalso; (simp only [n_lt, n_le, n_eq, n_add, n_sub, n_mul, n_neg, n_lit, zw] at *; omega), fun q2 => by exfalso; (simp only [n_lt, n_le, n_eq, n_add, n_sub, n_mul, n_neg, n_lit, zw] at *; omega), fun q2 => by exfalso; (simp only [n_lt, n_le, n_eq, n_add, n_sub, n_mul, n_neg, n_lit, zw] at *; omega), fun q2 => by exfalso; (simp only [n_lt, n_le, n_eq, n_add, n_sub, n_mul, n_neg, n_lit, zw] at *; omega), fun q2 => by exfalso; (simp only [n_lt, n_le, n_eq, n_add, n_sub, n_mul, n_neg, n_lit, zw] at *; omega), fun q2 => by exfalso; (simp only [n_lt, n_le, n_eq, n_add, n_sub, n_mul, n_neg, n_lit, zw] at *; omega)⟩
    refine hQm _ _ ⟨by first | rfl | simp only [s1, s2, s3, a1, a2, a3, a4, a5, h1, h2, h3, t1, t2, t3, t4, t5, t6, t7, p1, f1, f2, x1, x2, n_pred], ?_⟩
    exact hR
  · refine hQx _ _ ⟨(M 1 3), rfl, ?_⟩
    refine mx_q (fun Qm hQm => ?_)
    refine mx_go 200 zq_t222 ?_
    show ((p0 : Int32).toInt < 0 ∨ 8 < (p0 : Int32).toInt → Qm (some (.int (-2))) M) ∧ ((p0 : Int32).toInt = 0 → Qm (some (.int (M 48 0))) M) ∧ ((p0 : Int32).toInt = 1 → Qm (some (.int (M 48 1))) M) ∧ ((p0 : Int32).toInt = 2 → Qm (some (.int (M 48 2))) M) ∧ ((p0 : Int32).toInt = 3 → Qm (some (.int (M 48 32))) M) ∧ ((p0 : Int32).toInt = 4 → Qm (some (.int (M 48 37))) M) ∧ ((p0 : Int32).toInt = 5 → Qm (some (.int (M 48 39))) M) ∧ ((p0 : Int32).toInt = 6 → Qm (some (.int (M 48 11))) M) ∧ ((p0 : Int32).toInt = 7 → Qm (some (.int (M 48 13))) M) ∧ ((p0 : Int32).toInt = 8 → Qm (some (.int (M 48 12))) M)
    refine ⟨fun q2 => by exfalso; (simp only [n_lt, n_le, n_eq, n_add, n_sub, n_mul, n_neg, n_lit, zw] at *; omega), fun q2 => ?_, fun q2 => by exfalso; (simp only [n_lt, n_le, n_eq, n_add, n_sub, n_mul, n_neg, n_lit, zw] at *; omega), fun q2 => by exfalso; (simp only [n_lt, n_le, n_eq, n_add, n_sub, n_mul, n_neg, n_lit, zw] at *; omega), fun q2 => by exfalso; (simp only [n_lt, n_le, n_eq, n_add, n_sub, n_mul, n_neg, n_lit, zw] at *; omega), fun q2 => by exfalso; (simp only [n_lt, n_le, n_eq, n_add, n_sub, n_mul, n_neg, n_lit, zw] at *; omega), fun q2 => by exfalso; (simp only [n_lt, n_le, n_eq, n_add, n_sub, n_mul, n_neg, n_lit, zw] at *; omega), fun q2 => by exfalso; (simp only [n_lt, n_le, n_eq, n_add, n_sub, n_mul, n_neg, n_lit, zw] at *; omega), fun q2 => by exfalso; (simp only [n_lt, n_le, n_eq, n_add, n_sub, n_mul, n_neg, n_lit, zw] at *; omega), fun q2 => by exfalso; (simp only [n_lt, n_le, n_eq, n_add, n_sub, n_mul, n_neg, n_lit, zw] at *; omega)⟩
    refine hQm _ _ ⟨by first | rfl | simp only [s1, s2, s3, a1, a2, a3, a4, a5, h1, h2, h3, t1, t2, t3, t4, t5, t6, t7, p1, f1, f2, x1, x2, n_pred], ?_⟩
    exact hR
  · refine hQx _ _ ⟨(M 5 4), rfl, ?_⟩
    refine mx_q (fun Qm hQm => ?_)
    refine mx_go 200 zq_t222 ?_
    show ((p0 : Int32).toInt < 0 ∨ 8 < (p0 : Int32).toInt → Qm (some (.int (-2))) M) ∧ ((p0 : Int32).toInt = 0 → Qm (some (.int (M 48 0))) M) ∧ ((p0 : Int32).toInt = 1 → Qm (some (.int (M 48 1))) M) ∧ ((p0 : Int32).toInt = 2 → Qm (some (.int (M 48 2))) M) ∧ ((p0 : Int32).toInt = 3 → Qm (some (.int (M 48 32))) M) ∧ ((p0 : Int32).toInt = 4 → Qm (some (.int (M 48 37))) M) ∧ ((p0 : Int32).toInt = 5 → Qm (some (.int (M 48 39))) M) ∧ ((p0 : Int32).toInt = 6 → Qm (some (.int (M 48 11))) M) ∧ ((p0 : Int32).toInt = 7 → Qm (some (.int (M 48 13))) M) ∧ ((p0 : Int32).toInt = 8 → Qm (some (.int (M 48 12))) M)
    refine ⟨fun q2 => by exfalso; (simp only [n_lt, n_le, n_eq, n_add, n_sub, n_mul, n_neg, n_lit, zw] at *; omega), fun q2 => by exfalso; (simp only [n_lt, n_le, n_eq, n_add, n_sub, n_mul, n_neg, n_lit, zw] at *; omega), fun q2 => ?_, fun q2 => by exfalso; (simp only [n_lt, n_le, n_eq, n_add, n_sub, n_mul, n_neg, n_lit, zw] at *; omega), fun q2 => by exfalso; (simp only [n_lt, n_le, n_eq, n_add, n_sub, n_mul, n_neg, n_lit, zw] at *; omega), fun q2 => by exfalso; (simp only [n_lt, n_le, n_eq, n_add, n_sub, n_mul, n_neg, n_lit, zw] at *; omega), fun q2 => by exfalso; (simp only [n_lt, n_le, n_eq, n_add, n_sub, n_mul, n_neg, n_lit, zw] at *; omega), fun q2 => by exfalso; (simp only [n_lt, n_le, n_eq, n_add, n_sub, n_mul, n_neg, n_lit, zw] at *; omega), fun q2 => by exfalso; (simp only [n_lt, n_le, n_eq, n_add, n_sub, n_mul, n_neg, n_lit, zw] at *; omega), fun q2 => by exfalso; (simp only [n_lt, n_le, n_eq, n_add, n_sub, n_mul, n_neg, n_lit, zw] at *; omega)⟩
    refine hQm _ _ ⟨by first | rfl | simp only [s1, s2, s3, a1, a2, a3, a4, a5, h1, h2, h3, t1, t2, t3, t4, t5, t6, t7, p1, f1, f2, x1, x2, n_pred], ?_⟩
    exact hR
  · refine hQx _ _ ⟨(M 10 2), rfl, ?_⟩
    refine mx_q (fun Qm hQm => ?_)
    refine mx_go 200 zq_t222 ?_
    show ((p0 : Int32).toInt < 0 ∨ 8 < (p0 : Int32).toInt → Qm (some (.int (-2))) M) ∧ ((p0 : Int32).toInt = 0 → Qm (some (.int (M 48 0))) M) ∧ ((p0 : Int32).toInt = 1 → Qm (some (.int (M 48 1))) M) ∧ ((p0 : Int32).toInt = 2 → Qm (some (.int (M 48 2))) M) ∧ ((p0 : Int32).toInt = 3 → Qm (some (.int (M 48 32))) M) ∧ ((p0 : Int32).toInt = 4 → Qm (some (.int (M 48 37))) M) ∧ ((p0 : Int32).toInt = 5 → Qm (some (.int (M 48 39))) M) ∧ ((p0 : Int32).toInt = 6 → Qm (some (.int (M 48 11))) M) ∧ ((p0 : Int32).toInt = 7 → Qm (some (.int (M 48 13))) M) ∧ ((p0 : Int32).toInt = 8 → Qm (some (.int (M 48 12))) M)
    refine ⟨fun q2 => by exfalso; (simp only [n_lt, n_le, n_eq, n_add, n_sub, n_mul, n_neg, n_lit, zw] at *; omega), fun q2 => by exfalso; (simp only [n_lt, n_le, n_eq, n_add, n_sub, n_mul, n_neg, n_lit, zw] at *; omega), fun q2 => by exfalso; (simp only [n_lt, n_le, n_eq, n_add, n_sub, n_mul, n_neg, n_lit, zw] at *; omega), fun q2 => ?_, fun q2 => by exfalso; (simp only [n_lt, n_le, n_eq, n_add, n_sub, n_mul, n_neg, n_lit, zw] at *; omega), fun q2 => by exfalso; (simp only [n_lt, n_le, n_eq, n_add, n_sub, n_mul, n_neg, n_lit, zw] at *; omega), fun q2 => by exfalso; (simp only [n_lt, n_le, n_eq, n_add, n_sub, n_mul, n_neg, n_lit, zw] at *; omega), fun q2 => by exfalso; (simp only [n_lt, n_le, n_eq, n_add, n_sub, n_mul, n_neg, n_lit, zw] at *; omega), fun q2 => by exfalso; (simp only [n_lt, n_le, n_eq, n_add, n_sub, n_mul, n_neg, n_lit, zw] at *; omega), fun q2 => by exfalso; (simp only [n_lt, n_le, n_eq, n_add, n_sub, n_mul, n_neg, n_lit, zw] at *; omega)⟩
    refine hQm _ _ ⟨by first | rfl | simp only [s1, s2, s3, a1, a2, a3, a4, a5, h1, h2, h3, t1, t2, t3, t4, t5, t6, t7, p1, f1, f2, x1, x2, n_pred], ?_⟩
    exact hR
  · refine hQx _ _ ⟨(M 30 7), rfl, ?_⟩
    refine mx_q (fun Qm hQm => ?_)
    refine mx_go 200 zq_t222 ?_
    show ((p0 : Int32).toInt < 0 ∨ 8 < (p0 : Int32).toInt → Qm (some (.int (-2))) M) ∧ ((p0 : Int32).toInt = 0 → Qm (some (.int (M 48 0))) M) ∧ ((p0 : Int32).toInt = 1 → Qm (some (.int (M 48 1))) M) ∧ ((p0 : Int32).toInt = 2 → Qm (some (.int (M 48 2))) M) ∧ ((p0 : Int32).toInt = 3 → Qm (some (.int (M 48 32))) M) ∧ ((p0 : Int32).toInt = 4 → Qm (some (.int (M 48 37))) M) ∧ ((p0 : Int32).toInt = 5 → Qm (some (.int (M 48 39))) M) ∧ ((p0 : Int32).toInt = 6 → Qm (some (.int (M 48 11))) M) ∧ ((p0 : Int32).toInt = 7 → Qm (some (.int (M 48 13))) M) ∧ ((p0 : Int32).toInt = 8 → Qm (some (.int (M 48 12))) M)
    refine ⟨fun q2 => by exfalso; (simp only [n_lt, n_le, n_eq, n_add, n_sub, n_mul, n_neg, n_lit, zw] at *; omega), fun q2 => by exfalso; (simp only [n_lt, n_le, n_eq, n_add, n_sub, n_mul, n_neg, n_lit, zw] at *; omega), fun q2 => by exfalso; (simp only [n_lt, n_le, n_eq, n_add, n_sub, n_mul, n_neg, n_lit, zw] at *; omega), fun q2 => by exfalso; (simp only [n_lt, n_le, n_eq, n_add, n_sub, n_mul, n_neg, n_lit, zw] at *; omega), fun q2 => ?_, fun q2 => by exfalso; (simp only [n_lt, n_le, n_eq, n_add, n_sub, n_mul, n_neg, n_lit, zw] at *; omega), fun q2 => by exfalso; (simp only [n_lt, n_le, n_eq, n_add, n_sub, n_mul, n_neg, n_lit, zw] at *; omega), fun q2 => by exfalso; (simp only [n_lt, n_le, n_eq, n_add, n_sub, n_mul, n_neg, n_lit, zw] at *; omega), fun q2 => by exfalso; (simp only [n_lt, n_le, n_eq, n_add, n_sub, n_mul, n_neg, n_lit, zw] at *; omega), fun q2 => by exfalso; (simp only [n_lt, n_le, n_eq, n_add, n_sub, n_mul, n_neg, n_lit, zw] at *; omega)⟩
    refine hQm _ _ ⟨by first | rfl | simp only [s1, s2, s3, a1, a2, a3, a4, a5, h1, h2, h3, t1, t2, t3, t4, t5, t6, t7, p1, f1, f2, x1, x2, n_pred], ?_⟩
    exact hR
  · refine hQx _ _ ⟨(M 38 2), rfl, ?_⟩
    refine mx_q (fun Qm hQm => ?_)
    refine mx_go 200 zq_t222 ?_
    show ((p0 : Int32).toInt < 0 ∨ 8 < (p0 : Int32).toInt → Qm (some (.int (-2))) M) ∧ ((p0 : Int32).toInt = 0 → Qm (some (.int (M 48 0))) M) ∧ ((p0 : Int32).toInt = 1 → Qm (some (.int (M 48 1))) M) ∧ ((p0 : Int32).toInt = 2 → Qm (some (.int (M 48 2))) M) ∧ ((p0 : Int32).toInt = 3 → Qm (some (.int (M 48 32))) M) ∧ ((p0 : Int32).toInt = 4 → Qm (some (.int (M 48 37))) M) ∧ ((p0 : Int32).toInt = 5 → Qm (some (.int (M 48 39))) M) ∧ ((p0 : Int32).toInt = 6 → Qm (some (.int (M 48 11))) M) ∧ ((p0 : Int32).toInt = 7 → Qm (some (.int (M 48 13))) M) ∧ ((p0 : Int32).toInt = 8 → Qm (some (.int (M 48 12))) M)
    refine ⟨fun q2 => by exfalso; (simp only [n_lt, n_le, n_eq, n_add, n_sub, n_mul, n_neg, n_lit, zw] at *; omega), fun q2 => by exfalso; (simp only [n_lt, n_le, n_eq, n_add, n_sub, n_mul, n_neg, n_lit, zw] at *; omega), fun q2 => by exfalso; (simp only [n_lt, n_le, n_eq, n_add, n_sub, n_mul, n_neg, n_lit, zw] at *; omega), fun q2 => by exfalso; (simp only [n_lt, n_le, n_eq, n_add, n_sub, n_mul, n_neg, n_lit, zw] at *; omega), fun q2 => by exfalso; (simp only [n_lt, n_le, n_eq, n_add, n_sub, n_mul, n_neg, n_lit, zw] at *; omega), fun q2 => ?_, fun q2 => by exfalso; (simp only [n_lt, n_le, n_eq, n_add, n_sub, n_mul, n_neg, n_lit, zw] at *; omega), fun q2 => by exfalso; (simp only [n_lt, n_le, n_eq, n_add, n_sub, n_mul, n_neg, n_lit, zw] at *; omega), fun q2 => by exfalso; (simp only [n_lt, n_le, n_eq, n_add, n_sub, n_mul, n_neg, n_lit, zw] at *; omega), fun q2 => by exfalso; (simp only [n_lt, n_le, n_eq, n_add, n_sub, n_mul, n_neg, n_lit, zw] at *; omega)⟩
    refine hQm _ _ ⟨by first | rfl | simp only [s1, s2, s3, a1, a2, a3, a4, a5, h1, h2, h3, t1, t2, t3, t4, t5, t6, t7, p1, f1, f2, x1, x2, n_pred], ?_⟩
    exact hR
  · refine hQx _ _ ⟨(M 30 8), rfl, ?_⟩
    refine mx_q (fun Qm hQm => ?_)
    refine mx_go 200 zq_t222 ?_
    show ((p0 : Int32).toInt < 0 ∨ 8 < (p0 : Int32).toInt → Qm (some (.int (-2))) M) ∧ ((p0 : Int32).toInt = 0 → Qm (some (.int (M 48 0))) M) ∧ ((p0 : Int32).toInt = 1 → Qm (some (.int (M 48 1))) M) ∧ ((p0 : Int32).toInt = 2 → Qm (some (.int (M 48 2))) M) ∧ ((p0 : Int32).toInt = 3 → Qm (some (.int (M 48 32))) M) ∧ ((p0 : Int32).toInt = 4 → Qm (some (.int (M 48 37))) M) ∧ ((p0 : Int32).toInt = 5 → Qm (some (.int (M 48 39))) M) ∧ ((p0 : Int32).toInt = 6 → Qm (some (.int (M 48 11))) M) ∧ ((p0 : Int32).toInt = 7 → Qm (some (.int (M 48 13))) M) ∧ ((p0 : Int32).toInt = 8 → Qm (some (.int (M 48 12))) M)
    refine ⟨fun q2 => by exfalso; (simp only [n_lt, n_le, n_eq, n_add, n_sub, n_mul, n_neg, n_lit, zw] at *; omega), fun q2 => by exfalso; (simp only [n_lt, n_le, n_eq, n_add, n_sub, n_mul, n_neg, n_lit, zw] at *; omega), fun q2 => by exfalso; (simp only [n_lt, n_le, n_eq, n_add, n_sub, n_mul, n_neg, n_lit, zw] at *; omega), fun q2 => by exfalso; (simp only [n_lt, n_le, n_eq, n_add, n_sub, n_mul, n_neg, n_lit, zw] at *; omega), fun q2 => by exfalso; (simp only [n_lt, n_le, n_eq, n_add, n_sub, n_mul, n_neg, n_lit, zw] at *; omega), fun q2 => by exfalso; (simp only [n_lt, n_le, n_eq, n_add, n_sub, n_mul, n_neg, n_lit, zw] at *; omega), fun q2 => ?_, fun q2 => by exfalso; (simp only [n_lt, n_le, n_eq, n_add, n_sub, n_mul, n_neg, n_lit, zw] at *; omega), fun q2 => by exfalso; (simp only [n_lt, n_le, n_eq, n_add, n_sub, n_mul, n_neg, n_lit, zw] at *; omega), fun q2 => by exfalso; (simp only [n_lt, n_le, n_eq, n_add, n_sub, n_mul, n_neg, n_lit, zw] at *; omega)⟩
    refine hQm _ _ ⟨by first | rfl | simp only [s1, s2, s3, a1, a2, a3, a4, a5, h1, h2, h3, t1, t2, t3, t4, t5, t6, t7, p1, f1, f2, x1, x2, n_pred], ?_⟩
    exact hR
  · refine hQx _ _ ⟨(M 13 4), rfl, ?_⟩
    refine mx_q (fun Qm hQm => ?_)
    refine mx_go 200 zq_t222 ?_
    show ((p0 : Int32).toInt < 0 ∨ 8 < (p0 : Int32).toInt → Qm (some (.int (-2))) M) ∧ ((p0 : Int32).toInt = 0 → Qm (some (.int (M 48 0))) M) ∧ ((p0 : Int32).toInt = 1 → Qm (some (.int (M 48 1))) M) ∧ ((p0 : Int32).toInt = 2 → Qm (some (.int (M 48 2))) M) ∧ ((p0 : Int32).toInt = 3 → Qm (some (.int (M 48 32))) M) ∧ ((p0 : Int32).toInt = 4 → Qm (some (.int (M 48 37))) M) ∧ ((p0 : Int32).toInt = 5 → Qm (some (.int (M 48 39))) M) ∧ ((p0 : Int32).toInt = 6 → Qm (some (.int (M 48 11))) M) ∧ ((p0 : Int32).toInt = 7 → Qm (some (.int (M 48 13))) M) ∧ ((p0 : Int32).toInt = 8 → Qm (some (.int (M 48 12))) M)
    refine ⟨fun q2 => by exfalso; (simp only [n_lt, n_le, n_eq, n_add, n_sub, n_mul, n_neg, n_lit, zw] at *; omega), fun q2 => by exfalso; (simp only [n_lt, n_le, n_eq, n_add, n_sub, n_mul, n_neg, n_lit, zw] at *; omega), fun q2 => by exfalso; (simp only [n_lt, n_le, n_eq, n_add, n_sub, n_mul, n_neg, n_lit, zw] at *; omega), fun q2 => by exfalso; (simp only [n_lt, n_le, n_eq, n_add, n_sub, n_mul, n_neg, n_lit, zw] at *; omega), fun q2 => by exfalso; (simp only [n_lt, n_le, n_eq, n_add, n_sub, n_mul, n_neg, n_lit, zw] at *; omega), fun q2 => by exfalso; (simp only [n_lt, n_le, n_eq, n_add, n_sub, n_mul, n_neg, n_lit, zw] at *; omega), fun q2 => by exfalso; (simp only [n_lt, n_le, n_eq, n_add, n_sub, n_mul, n_neg, n_lit, zw] at *; omega), fun q2 => ?_, fun q2 => by exfalso; (simp only [n_lt, n_le, n_eq, n_add, n_sub, n_mul, n_neg, n_lit, zw] at *; omega), fun q2 => by exfalso; (simp only [n_lt, n_le, n_eq, n_add, n_sub, n_mul, n_neg, n_lit, zw] at *; omega)⟩
    refine hQm _ _ ⟨by first | rfl | simp only [s1, s2, s3, a1, a2, a3, a4, a5, h1, h2, h3, t1, t2, t3, t4, t5, t6, t7, p1, f1, f2, x1, x2, n_pred], ?_⟩
    exact hR
  · refine hQx _ _ ⟨(M 18 5), rfl, ?_⟩
    refine mx_q (fun Qm hQm => ?_)
    refine mx_go 200 zq_t222 ?_
    show ((p0 : Int32).toInt < 0 ∨ 8 < (p0 : Int32).toInt → Qm (some (.int (-2))) M) ∧ ((p0 : Int32).toInt = 0 → Qm (some (.int (M 48 0))) M) ∧ ((p0 : Int32).toInt = 1 → Qm (some (.int (M 48 1))) M) ∧ ((p0 : Int32).toInt = 2 → Qm (some (.int (M 48 2))) M) ∧ ((p0 : Int32).toInt = 3 → Qm (some (.int (M 48 32))) M) ∧ ((p0 : Int32).toInt = 4 → Qm (some (.int (M 48 37))) M) ∧ ((p0 : Int32).toInt = 5 → Qm (some (.int (M 48 39))) M) ∧ ((p0 : Int32).toInt = 6 → Qm (some (.int (M 48 11))) M) ∧ ((p0 : Int32).toInt = 7 → Qm (some (.int (M 48 13))) M) ∧ ((p0 : Int32).toInt = 8 → Qm (some (.int (M 48 12))) M)
    refine ⟨fun q2 => by exfalso; (simp only [n_lt, n_le, n_eq, n_add, n_sub, n_mul, n_neg, n_lit, zw] at *; omega), fun q2 => by exfalso; (simp only [n_lt, n_le, n_eq, n_add, n_sub, n_mul, n_neg, n_lit, zw] at *; omega), fun q2 => by exfalso; (simp only [n_lt, n_le, n_eq, n_add, n_sub, n_mul, n_neg, n_lit, zw] at *; omega), fun q2 => by exfalso; (simp only [n_lt, n_le, n_eq, n_add, n_sub, n_mul, n_neg, n_lit, zw] at *; omega), fun q2 => by exfalso; (simp only [n_lt, n_le, n_eq, n_add, n_sub, n_mul, n_neg, n_lit, zw] at *; omega), fun q2 => by exfalso; (simp only [n_lt, n_le, n_eq, n_add, n_sub, n_mul, n_neg, n_lit, zw] at *; omega), fun q2 => by exfalso; (simp only [n_lt, n_le, n_eq, n_add, n_sub, n_mul, n_neg, n_lit, zw] at *; omega), fun q2 => by exfalso; (simp only [n_lt, n_le, n_eq, n_add, n_sub, n_mul, n_neg, n_lit, zw] at *; omega), fun q2 => ?_, fun q2 => by exfalso; (simp only [n_lt, n_le, n_eq, n_add, n_sub, n_mul, n_neg, n_lit, zw] at *; omega)⟩
    refine hQm _ _ ⟨by first | rfl | simp only [s1, s2, s3, a1, a2, a3, a4, a5, h1, h2, h3, t1, t2, t3, t4, t5, t6, t7, p1, f1, f2, x1, x2, n_pred], ?_⟩
    exact hR
  · refine hQx _ _ ⟨(M 13 5), rfl, ?_⟩
    refine mx_q (fun Qm hQm => ?_)
    refine mx_go 200 zq_t222 ?_
    show ((p0 : Int32).toInt < 0 ∨ 8 < (p0 : Int32).toInt → Qm (some (.int (-2))) M) ∧ ((p0 : Int32).toInt = 0 → Qm (some (.int (M 48 0))) M) ∧ ((p0 : Int32).toInt = 1 → Qm (some (.int (M 48 1))) M) ∧ ((p0 : Int32).toInt = 2 → Qm (some (.int (M 48 2))) M) ∧ ((p0 : Int32).toInt = 3 → Qm (some (.int (M 48 32))) M) ∧ ((p0 : Int32).toInt = 4 → Qm (some (.int (M 48 37))) M) ∧ ((p0 : Int32).toInt = 5 → Qm (some (.int (M 48 39))) M) ∧ ((p0 : Int32).toInt = 6 → Qm (some (.int (M 48 11))) M) ∧ ((p0 : Int32).toInt = 7 → Qm (some (.int (M 48 13))) M) ∧ ((p0 : Int32).toInt = 8 → Qm (some (.int (M 48 12))) M)
    refine ⟨fun q2 => by exfalso; (simp only [n_lt, n_le, n_eq, n_add, n_sub, n_mul, n_neg, n_lit, zw] at *; omega), fun q2 => by exfalso; (simp only [n_lt, n_le, n_eq, n_add, n_sub, n_mul, n_neg, n_lit, zw] at *; omega), fun q2 => by exfalso; (simp only [n_lt, n_le, n_eq, n_add, n_sub, n_mul, n_neg, n_lit, zw] at *; omega), fun q2 => by exfalso; (simp only [n_lt, n_le, n_eq, n_add, n_sub, n_mul, n_neg, n_lit, zw] at *; omega), fun q2 => by exfalso; (simp only [n_lt, n_le, n_eq, n_add, n_sub, n_mul, n_neg, n_lit, zw] at *; omega), fun q2 => by exfalso; (simp only [n_lt, n_le, n_eq, n_add, n_sub, n_mul, n_neg, n_lit, zw] at *; omega), fun q2 => by exfalso; (simp only [n_lt, n_le, n_eq, n_add, n_sub, n_mul, n_neg, n_lit, zw] at *; omega), fun q2 => by exfalso; (simp only [n_lt, n_le, n_eq, n_add, n_sub, n_mul, n_neg, n_lit, zw] at *; omega), fun q2 => by exfalso; (simp only [n_lt, n_le, n_eq, n_add, n_sub, n_mul, n_neg, n_lit, zw] at *; omega), fun q2 => ?_⟩
    refine hQm _ _ ⟨by first | rfl | simp only [s1, s2, s3, a1, a2, a3, a4, a5, h1, h2, h3, t1, t2, t3, t4, t5, t6, t7, p1, f1, f2, x1, x2, n_pred], ?_⟩
    exact hR

set_option maxHeartbeats 4000000 in
theorem op_peg {g : zq_G} {d : Nat} {M : zq_M} {p0 : Int32} (hR : RR M) : pri g (d + 6) kX11_peg kX12_peg [.ref 0, .int (p0)] [.ref 48, .int (p0)] M := by
  obtain ⟨hS, hN, hH, hT, hP, hI, hE, hF, hX, hV⟩ := id hR
  obtain ⟨p1, p2, p3, p4, p5, p6⟩ := id hP
  refine mx_q (fun Qx hQx => ?_)
  refine mx_go 200 zq_t107 ?_
  show mx g (d + 5) kX11_isPlace 0 [.int (p0)] [] M _
  refine c_X11_isPlace (fun k1 k2 => ?_) (fun k3 => ?_)
  · show (¬ (1 : Int32) = 0 → mx g (d + 5) kX3_put 0 [.ref 38, .int (p0)] [] M _) ∧ ((1 : Int32) = 0 → Qx (some (.int (-2))) M)
    refine ⟨fun _ => ?_, fun q4 => absurd q4 (by decide)⟩
    refine mx_q (fun Q5 hQ5 => ?_)
    refine mx_go 200 zq_t15 ?_
    show (((M 38 2) : Int32) < (8 : Int32) → (¬ (64 : Int32) = 0) ∧ vp_in (M 38 2) 8 ∧ (¬ (64 : Int32) = 0) ∧ vp_in (M 38 2) 8 ∧ Q5 (some (.int ((M 38 2) + 1))) (zq_mu (zq_ma (zq_ma M 39 (upd (M 39) (Int32.toNatClampNeg (M 38 2)) (p0 - p0 / 64 * 64))) 40 (upd (M 40) (Int32.toNatClampNeg (M 38 2)) (p0 / 64))) 38 2 ((M 38 2) + 1))) ∧ (¬ ((M 38 2) : Int32) < (8 : Int32) → Q5 (some (.int (-4))) M)
    refine ⟨fun q6 => ?_, fun q6 => ?_⟩
    · refine ⟨(by decide), ?_⟩
      refine ⟨(n_in (by (simp only [n_lt, n_le, n_eq, n_add, n_sub, n_mul, n_neg, n_lit, zw] at *; omega)) (by (simp only [n_lt, n_le, n_eq, n_add, n_sub, n_mul, n_neg, n_lit, zw] at *; omega))), ?_⟩
      refine ⟨(by decide), ?_⟩
      refine ⟨(n_in (by (simp only [n_lt, n_le, n_eq, n_add, n_sub, n_mul, n_neg, n_lit, zw] at *; omega)) (by (simp only [n_lt, n_le, n_eq, n_add, n_sub, n_mul, n_neg, n_lit, zw] at *; omega))), ?_⟩
      refine hQ5 _ _ ?_
      show Qx (some (.int ((M 38 2) + 1))) (zq_mu (zq_ma (zq_ma M 39 (upd (M 39) (Int32.toNatClampNeg (M 38 2)) (p0 - p0 / 64 * 64))) 40 (upd (M 40) (Int32.toNatClampNeg (M 38 2)) (p0 / 64))) 38 2 ((M 38 2) + 1))
      refine hQx _ _ ⟨((M 38 2) + 1), rfl, ?_⟩
      refine mx_q (fun Qm hQm => ?_)
      refine mx_go 200 zq_t202 ?_
      show mx g (d + 5) kX12_in 0 [.ref 48, .int (p0), .int (0), .int (4095)] [] (zq_mu (zq_ma (zq_ma M 39 (upd (M 39) (Int32.toNatClampNeg (M 38 2)) (p0 - p0 / 64 * 64))) 40 (upd (M 40) (Int32.toNatClampNeg (M 38 2)) (p0 / 64))) 38 2 ((M 38 2) + 1)) _
      refine c_X12_in (fun k7 k8 => ?_) (fun k9 => by exfalso; (simp only [n_lt, n_le, n_eq, n_add, n_sub, n_mul, n_neg, n_lit, zw] at *; omega))
      show (¬ (1 : Int32) = 0 → (¬ ((M 48 37) : Int32) = (8 : Int32) → vp_in (M 48 37) 8 ∧ Qm (some (.int ((M 48 37) + 1))) (zq_mu (zq_ma (zq_mu (zq_ma (zq_ma M 39 (upd (M 39) (Int32.toNatClampNeg (M 38 2)) (p0 - p0 / 64 * 64))) 40 (upd (M 40) (Int32.toNatClampNeg (M 38 2)) (p0 / 64))) 38 2 ((M 38 2) + 1)) 71 (upd (M 71) (Int32.toNatClampNeg (M 48 37)) p0)) 48 37 ((M 48 37) + 1))) ∧ (((M 48 37) : Int32) = (8 : Int32) → Qm (some (.int (-4))) (zq_mu (zq_ma (zq_ma M 39 (upd (M 39) (Int32.toNatClampNeg (M 38 2)) (p0 - p0 / 64 * 64))) 40 (upd (M 40) (Int32.toNatClampNeg (M 38 2)) (p0 / 64))) 38 2 ((M 38 2) + 1)))) ∧ ((1 : Int32) = 0 → Qm (some (.int (-2))) (zq_mu (zq_ma (zq_ma M 39 (upd (M 39) (Int32.toNatClampNeg (M 38 2)) (p0 - p0 / 64 * 64))) 40 (upd (M 40) (Int32.toNatClampNeg (M 38 2)) (p0 / 64))) 38 2 ((M 38 2) + 1)))
      refine ⟨fun _ => ?_, fun q10 => absurd q10 (by decide)⟩
      refine ⟨fun q11 => ?_, fun q11 => by exfalso; (simp only [n_lt, n_le, n_eq, n_add, n_sub, n_mul, n_neg, n_lit, zw] at *; omega)⟩
      refine ⟨(n_in (by (simp only [n_lt, n_le, n_eq, n_add, n_sub, n_mul, n_neg, n_lit, zw] at *; omega)) (by (simp only [n_lt, n_le, n_eq, n_add, n_sub, n_mul, n_neg, n_lit, zw] at *; omega))), ?_⟩
      refine hQm _ _ ⟨by first | rfl | simp only [p1, n_pred], ?_⟩
      exact ⟨hS, hN, hH, hT, gP_put (n := M 38 2) (q := p0) hP (by (simp only [n_lt, n_le, n_eq, n_add, n_sub, n_mul, n_neg, n_lit, zw] at *; omega)) (by (simp only [n_lt, n_le, n_eq, n_add, n_sub, n_mul, n_neg, n_lit, zw] at *; omega)) (by (simp only [n_lt, n_le, n_eq, n_add, n_sub, n_mul, n_neg, n_lit, zw] at *; omega)), gI_grow (np2 := M 38 2 + 1) hI (Int.le_refl _) (Int.le_refl _) (Int.le_refl _) (Int.le_refl _) (by rw [n_suc p4 (by (simp only [n_lt, n_le, n_eq, n_add, n_sub, n_mul, n_neg, n_lit, zw] at *; omega))]; omega), hE, hF, hX, hV⟩
    · refine hQ5 _ _ ?_
      show Qx (some (.int (-4))) M
      refine hQx _ _ ⟨(-4), rfl, ?_⟩
      refine mx_q (fun Qm hQm => ?_)
      refine mx_go 200 zq_t202 ?_
      show mx g (d + 5) kX12_in 0 [.ref 48, .int (p0), .int (0), .int (4095)] [] M _
      refine c_X12_in (fun k7 k8 => ?_) (fun k9 => by exfalso; (simp only [n_lt, n_le, n_eq, n_add, n_sub, n_mul, n_neg, n_lit, zw] at *; omega))
      show (¬ (1 : Int32) = 0 → (¬ ((M 48 37) : Int32) = (8 : Int32) → vp_in (M 48 37) 8 ∧ Qm (some (.int ((M 48 37) + 1))) (zq_mu (zq_ma M 71 (upd (M 71) (Int32.toNatClampNeg (M 48 37)) p0)) 48 37 ((M 48 37) + 1))) ∧ (((M 48 37) : Int32) = (8 : Int32) → Qm (some (.int (-4))) M)) ∧ ((1 : Int32) = 0 → Qm (some (.int (-2))) M)
      refine ⟨fun _ => ?_, fun q10 => absurd q10 (by decide)⟩
      refine ⟨fun q11 => by exfalso; (simp only [n_lt, n_le, n_eq, n_add, n_sub, n_mul, n_neg, n_lit, zw] at *; omega), fun q11 => ?_⟩
      refine hQm _ _ ⟨by first | rfl | simp only [p1, n_pred], ?_⟩
      exact hR
  · show (¬ (0 : Int32) = 0 → mx g (d + 5) kX3_put 0 [.ref 38, .int (p0)] [] M _) ∧ ((0 : Int32) = 0 → Qx (some (.int (-2))) M)
    refine ⟨fun q7 => absurd q7 (by decide), fun _ => ?_⟩
    refine hQx _ _ ⟨(-2), rfl, ?_⟩
    refine mx_q (fun Qm hQm => ?_)
    refine mx_go 200 zq_t202 ?_
    show mx g (d + 5) kX12_in 0 [.ref 48, .int (p0), .int (0), .int (4095)] [] M _
    refine c_X12_in (fun k8 k9 => by exfalso; (simp only [n_lt, n_le, n_eq, n_add, n_sub, n_mul, n_neg, n_lit, zw] at *; omega)) (fun k10 => ?_)
    show (¬ (0 : Int32) = 0 → (¬ ((M 48 37) : Int32) = (8 : Int32) → vp_in (M 48 37) 8 ∧ Qm (some (.int ((M 48 37) + 1))) (zq_mu (zq_ma M 71 (upd (M 71) (Int32.toNatClampNeg (M 48 37)) p0)) 48 37 ((M 48 37) + 1))) ∧ (((M 48 37) : Int32) = (8 : Int32) → Qm (some (.int (-4))) M)) ∧ ((0 : Int32) = 0 → Qm (some (.int (-2))) M)
    refine ⟨fun q11 => absurd q11 (by decide), fun _ => ?_⟩
    refine hQm _ _ ⟨by first | rfl | simp only [p1, n_pred], ?_⟩
    exact hR

set_option maxHeartbeats 4000000 in
theorem op_track {g : zq_G} {d : Nat} {M : zq_M} {p0 p1 p2 : Int32} (hR : RR M) : pri g (d + 6) kX11_track kX12_track [.ref 0, .int (p0), .int (p1), .int (p2)] [.ref 48, .int (p0), .int (p1), .int (p2)] M := by
  obtain ⟨hS, hN, hH, hT, hP, hI, hE, hF, hX, hV⟩ := id hR
  obtain ⟨s1, s2, s3, s4, s5, s6, s7, s8⟩ := id hS
  obtain ⟨t1, t2, t3, t4, t5, t6, t7, t8, t9, t10, t11, t12, t13, t14, t15, t16⟩ := id hT
  refine mx_q (fun Qx hQx => ?_)
  refine mx_go 200 zq_t102 ?_
  show mx g (d + 5) kX7_has 0 [.ref 1, .int (p0)] [] M _
  refine c_X7_has (n := (M 1 3)) rfl (fun k1 k2 => ?_) (fun k3 => ?_)
  · show ((1 : Int32) = 0 → Qx (some (.int (-2))) M) ∧ (¬ (1 : Int32) = 0 → ((p1 : Int32) < 0 → Qx (some (.int (-2))) M) ∧ (¬ (p1 : Int32) < 0 → ((999 : Int32) < (p1 : Int32) → Qx (some (.int (-2))) M) ∧ (¬ (999 : Int32) < (p1 : Int32) → ((p2 : Int32) < 0 → Qx (some (.int (-2))) M) ∧ (¬ (p2 : Int32) < 0 → ((p2 : Int32) ≤ (99 : Int32) → mx g (d + 5) kX9_put 0 [.ref 30, .int (p0), .int (p1), .int (p2)] [] M _) ∧ (¬ (p2 : Int32) ≤ (99 : Int32) → Qx (some (.int (-2))) M)))))
    refine ⟨fun q4 => absurd q4 (by decide), fun _ => ?_⟩
    refine ⟨fun q5 => ?_, fun q5 => ?_⟩
    · refine hQx _ _ ⟨(-2), rfl, ?_⟩
      refine mx_q (fun Qm hQm => ?_)
      refine mx_go 200 zq_t192 ?_
      show mx g (d + 5) kX12_isStone 0 [.ref 48, .int (p0)] [] M _
      refine c_X12_isStone (n := (M 48 0)) rfl (by (simp only [n_lt, n_le, n_eq, n_add, n_sub, n_mul, n_neg, n_lit, zw] at *; omega)) (fun k6 k7 => ?_) (fun k8 => by exfalso; (simp only [n_lt, n_le, n_eq, n_add, n_sub, n_mul, n_neg, n_lit, zw] at *; omega))
      show ((1 : Int32) = 0 → Qm (some (.int (-2))) M) ∧ (¬ (1 : Int32) = 0 → mx g (d + 5) kX12_in 0 [.ref 48, .int (p1), .int (0), .int (999)] [] M _)
      refine ⟨fun q9 => absurd q9 (by decide), fun _ => ?_⟩
      refine c_X12_in (fun k10 k11 => by exfalso; (simp only [n_lt, n_le, n_eq, n_add, n_sub, n_mul, n_neg, n_lit, zw] at *; omega)) (fun k12 => ?_)
      show ((0 : Int32) = 0 → Qm (some (.int (-2))) M) ∧ (¬ (0 : Int32) = 0 → mx g (d + 5) kX12_in 0 [.ref 48, .int (p2), .int (0), .int (99)] [] M _)
      refine ⟨fun _ => ?_, fun q13 => absurd q13 (by decide)⟩
      refine hQm _ _ ⟨by first | rfl | simp only [s1, s2, s3, t1, t2, t3, t4, t5, t6, t7, n_pred], ?_⟩
      exact hR
    · refine ⟨fun q6 => ?_, fun q6 => ?_⟩
      · refine hQx _ _ ⟨(-2), rfl, ?_⟩
        refine mx_q (fun Qm hQm => ?_)
        refine mx_go 200 zq_t192 ?_
        show mx g (d + 5) kX12_isStone 0 [.ref 48, .int (p0)] [] M _
        refine c_X12_isStone (n := (M 48 0)) rfl (by (simp only [n_lt, n_le, n_eq, n_add, n_sub, n_mul, n_neg, n_lit, zw] at *; omega)) (fun k7 k8 => ?_) (fun k9 => by exfalso; (simp only [n_lt, n_le, n_eq, n_add, n_sub, n_mul, n_neg, n_lit, zw] at *; omega))
        show ((1 : Int32) = 0 → Qm (some (.int (-2))) M) ∧ (¬ (1 : Int32) = 0 → mx g (d + 5) kX12_in 0 [.ref 48, .int (p1), .int (0), .int (999)] [] M _)
        refine ⟨fun q10 => absurd q10 (by decide), fun _ => ?_⟩
        refine c_X12_in (fun k11 k12 => by exfalso; (simp only [n_lt, n_le, n_eq, n_add, n_sub, n_mul, n_neg, n_lit, zw] at *; omega)) (fun k13 => ?_)
        show ((0 : Int32) = 0 → Qm (some (.int (-2))) M) ∧ (¬ (0 : Int32) = 0 → mx g (d + 5) kX12_in 0 [.ref 48, .int (p2), .int (0), .int (99)] [] M _)
        refine ⟨fun _ => ?_, fun q14 => absurd q14 (by decide)⟩
        refine hQm _ _ ⟨by first | rfl | simp only [s1, s2, s3, t1, t2, t3, t4, t5, t6, t7, n_pred], ?_⟩
        exact hR
      · refine ⟨fun q7 => ?_, fun q7 => ?_⟩
        · refine hQx _ _ ⟨(-2), rfl, ?_⟩
          refine mx_q (fun Qm hQm => ?_)
          refine mx_go 200 zq_t192 ?_
          show mx g (d + 5) kX12_isStone 0 [.ref 48, .int (p0)] [] M _
          refine c_X12_isStone (n := (M 48 0)) rfl (by (simp only [n_lt, n_le, n_eq, n_add, n_sub, n_mul, n_neg, n_lit, zw] at *; omega)) (fun k8 k9 => ?_) (fun k10 => by exfalso; (simp only [n_lt, n_le, n_eq, n_add, n_sub, n_mul, n_neg, n_lit, zw] at *; omega))
          show ((1 : Int32) = 0 → Qm (some (.int (-2))) M) ∧ (¬ (1 : Int32) = 0 → mx g (d + 5) kX12_in 0 [.ref 48, .int (p1), .int (0), .int (999)] [] M _)
          refine ⟨fun q11 => absurd q11 (by decide), fun _ => ?_⟩
          refine c_X12_in (fun k12 k13 => ?_) (fun k14 => by exfalso; (simp only [n_lt, n_le, n_eq, n_add, n_sub, n_mul, n_neg, n_lit, zw] at *; omega))
          show ((1 : Int32) = 0 → Qm (some (.int (-2))) M) ∧ (¬ (1 : Int32) = 0 → mx g (d + 5) kX12_in 0 [.ref 48, .int (p2), .int (0), .int (99)] [] M _)
          refine ⟨fun q15 => absurd q15 (by decide), fun _ => ?_⟩
          refine c_X12_in (fun k16 k17 => by exfalso; (simp only [n_lt, n_le, n_eq, n_add, n_sub, n_mul, n_neg, n_lit, zw] at *; omega)) (fun k18 => ?_)
          show (¬ (0 : Int32) = 0 → (¬ ((M 48 32) : Int32) = (24 : Int32) → vp_in (M 48 32) 24 ∧ vp_in (M 48 32) 24 ∧ vp_in (M 48 32) 24 ∧ Qm (some (.int (((M 48 32) + 1) - 1))) (zq_mu (zq_ma (zq_ma (zq_ma M 67 (upd (M 67) (Int32.toNatClampNeg (M 48 32)) p0)) 68 (upd (M 68) (Int32.toNatClampNeg (M 48 32)) p1)) 69 (upd (M 69) (Int32.toNatClampNeg (M 48 32)) p2)) 48 32 ((M 48 32) + 1))) ∧ (((M 48 32) : Int32) = (24 : Int32) → Qm (some (.int (-4))) M)) ∧ ((0 : Int32) = 0 → Qm (some (.int (-2))) M)
          refine ⟨fun q19 => absurd q19 (by decide), fun _ => ?_⟩
          refine hQm _ _ ⟨by first | rfl | simp only [s1, s2, s3, t1, t2, t3, t4, t5, t6, t7, n_pred], ?_⟩
          exact hR
        · refine ⟨fun q8 => ?_, fun q8 => ?_⟩
          · refine mx_q (fun Q9 hQ9 => ?_)
            refine mx_go 200 zq_t76 ?_
            show (((M 30 7) : Int32) < (24 : Int32) → vp_in (M 30 7) 24 ∧ vp_in (M 30 7) 24 ∧ vp_in (M 30 7) 24 ∧ Q9 (some (.int (((M 30 7) + 1) - 1))) (zq_mu (zq_ma (zq_ma (zq_ma M 31 (upd (M 31) (Int32.toNatClampNeg (M 30 7)) p0)) 32 (upd (M 32) (Int32.toNatClampNeg (M 30 7)) p1)) 33 (upd (M 33) (Int32.toNatClampNeg (M 30 7)) p2)) 30 7 ((M 30 7) + 1))) ∧ (¬ ((M 30 7) : Int32) < (24 : Int32) → Q9 (some (.int (-4))) M)
            refine ⟨fun q10 => ?_, fun q10 => ?_⟩
            · refine ⟨(n_in (by (simp only [n_lt, n_le, n_eq, n_add, n_sub, n_mul, n_neg, n_lit, zw] at *; omega)) (by (simp only [n_lt, n_le, n_eq, n_add, n_sub, n_mul, n_neg, n_lit, zw] at *; omega))), ?_⟩
              refine ⟨(n_in (by (simp only [n_lt, n_le, n_eq, n_add, n_sub, n_mul, n_neg, n_lit, zw] at *; omega)) (by (simp only [n_lt, n_le, n_eq, n_add, n_sub, n_mul, n_neg, n_lit, zw] at *; omega))), ?_⟩
              refine ⟨(n_in (by (simp only [n_lt, n_le, n_eq, n_add, n_sub, n_mul, n_neg, n_lit, zw] at *; omega)) (by (simp only [n_lt, n_le, n_eq, n_add, n_sub, n_mul, n_neg, n_lit, zw] at *; omega))), ?_⟩
              refine hQ9 _ _ ?_
              show Qx (some (.int (((M 30 7) + 1) - 1))) (zq_mu (zq_ma (zq_ma (zq_ma M 31 (upd (M 31) (Int32.toNatClampNeg (M 30 7)) p0)) 32 (upd (M 32) (Int32.toNatClampNeg (M 30 7)) p1)) 33 (upd (M 33) (Int32.toNatClampNeg (M 30 7)) p2)) 30 7 ((M 30 7) + 1))
              refine hQx _ _ ⟨(((M 30 7) + 1) - 1), rfl, ?_⟩
              refine mx_q (fun Qm hQm => ?_)
              refine mx_go 200 zq_t192 ?_
              show mx g (d + 5) kX12_isStone 0 [.ref 48, .int (p0)] [] (zq_mu (zq_ma (zq_ma (zq_ma M 31 (upd (M 31) (Int32.toNatClampNeg (M 30 7)) p0)) 32 (upd (M 32) (Int32.toNatClampNeg (M 30 7)) p1)) 33 (upd (M 33) (Int32.toNatClampNeg (M 30 7)) p2)) 30 7 ((M 30 7) + 1)) _
              refine c_X12_isStone (n := (M 48 0)) rfl (by (simp only [n_lt, n_le, n_eq, n_add, n_sub, n_mul, n_neg, n_lit, zw] at *; omega)) (fun k11 k12 => ?_) (fun k13 => by exfalso; (simp only [n_lt, n_le, n_eq, n_add, n_sub, n_mul, n_neg, n_lit, zw] at *; omega))
              show ((1 : Int32) = 0 → Qm (some (.int (-2))) (zq_mu (zq_ma (zq_ma (zq_ma M 31 (upd (M 31) (Int32.toNatClampNeg (M 30 7)) p0)) 32 (upd (M 32) (Int32.toNatClampNeg (M 30 7)) p1)) 33 (upd (M 33) (Int32.toNatClampNeg (M 30 7)) p2)) 30 7 ((M 30 7) + 1))) ∧ (¬ (1 : Int32) = 0 → mx g (d + 5) kX12_in 0 [.ref 48, .int (p1), .int (0), .int (999)] [] (zq_mu (zq_ma (zq_ma (zq_ma M 31 (upd (M 31) (Int32.toNatClampNeg (M 30 7)) p0)) 32 (upd (M 32) (Int32.toNatClampNeg (M 30 7)) p1)) 33 (upd (M 33) (Int32.toNatClampNeg (M 30 7)) p2)) 30 7 ((M 30 7) + 1)) _)
              refine ⟨fun q14 => absurd q14 (by decide), fun _ => ?_⟩
              refine c_X12_in (fun k15 k16 => ?_) (fun k17 => by exfalso; (simp only [n_lt, n_le, n_eq, n_add, n_sub, n_mul, n_neg, n_lit, zw] at *; omega))
              show ((1 : Int32) = 0 → Qm (some (.int (-2))) (zq_mu (zq_ma (zq_ma (zq_ma M 31 (upd (M 31) (Int32.toNatClampNeg (M 30 7)) p0)) 32 (upd (M 32) (Int32.toNatClampNeg (M 30 7)) p1)) 33 (upd (M 33) (Int32.toNatClampNeg (M 30 7)) p2)) 30 7 ((M 30 7) + 1))) ∧ (¬ (1 : Int32) = 0 → mx g (d + 5) kX12_in 0 [.ref 48, .int (p2), .int (0), .int (99)] [] (zq_mu (zq_ma (zq_ma (zq_ma M 31 (upd (M 31) (Int32.toNatClampNeg (M 30 7)) p0)) 32 (upd (M 32) (Int32.toNatClampNeg (M 30 7)) p1)) 33 (upd (M 33) (Int32.toNatClampNeg (M 30 7)) p2)) 30 7 ((M 30 7) + 1)) _)
              refine ⟨fun q18 => absurd q18 (by decide), fun _ => ?_⟩
              refine c_X12_in (fun k19 k20 => ?_) (fun k21 => by exfalso; (simp only [n_lt, n_le, n_eq, n_add, n_sub, n_mul, n_neg, n_lit, zw] at *; omega))
              show (¬ (1 : Int32) = 0 → (¬ ((M 48 32) : Int32) = (24 : Int32) → vp_in (M 48 32) 24 ∧ vp_in (M 48 32) 24 ∧ vp_in (M 48 32) 24 ∧ Qm (some (.int (((M 48 32) + 1) - 1))) (zq_mu (zq_ma (zq_ma (zq_ma (zq_mu (zq_ma (zq_ma (zq_ma M 31 (upd (M 31) (Int32.toNatClampNeg (M 30 7)) p0)) 32 (upd (M 32) (Int32.toNatClampNeg (M 30 7)) p1)) 33 (upd (M 33) (Int32.toNatClampNeg (M 30 7)) p2)) 30 7 ((M 30 7) + 1)) 67 (upd (M 67) (Int32.toNatClampNeg (M 48 32)) p0)) 68 (upd (M 68) (Int32.toNatClampNeg (M 48 32)) p1)) 69 (upd (M 69) (Int32.toNatClampNeg (M 48 32)) p2)) 48 32 ((M 48 32) + 1))) ∧ (((M 48 32) : Int32) = (24 : Int32) → Qm (some (.int (-4))) (zq_mu (zq_ma (zq_ma (zq_ma M 31 (upd (M 31) (Int32.toNatClampNeg (M 30 7)) p0)) 32 (upd (M 32) (Int32.toNatClampNeg (M 30 7)) p1)) 33 (upd (M 33) (Int32.toNatClampNeg (M 30 7)) p2)) 30 7 ((M 30 7) + 1)))) ∧ ((1 : Int32) = 0 → Qm (some (.int (-2))) (zq_mu (zq_ma (zq_ma (zq_ma M 31 (upd (M 31) (Int32.toNatClampNeg (M 30 7)) p0)) 32 (upd (M 32) (Int32.toNatClampNeg (M 30 7)) p1)) 33 (upd (M 33) (Int32.toNatClampNeg (M 30 7)) p2)) 30 7 ((M 30 7) + 1)))
              refine ⟨fun _ => ?_, fun q22 => absurd q22 (by decide)⟩
              refine ⟨fun q23 => ?_, fun q23 => by exfalso; (simp only [n_lt, n_le, n_eq, n_add, n_sub, n_mul, n_neg, n_lit, zw] at *; omega)⟩
              refine ⟨(n_in (by (simp only [n_lt, n_le, n_eq, n_add, n_sub, n_mul, n_neg, n_lit, zw] at *; omega)) (by (simp only [n_lt, n_le, n_eq, n_add, n_sub, n_mul, n_neg, n_lit, zw] at *; omega))), ?_⟩
              refine ⟨(n_in (by (simp only [n_lt, n_le, n_eq, n_add, n_sub, n_mul, n_neg, n_lit, zw] at *; omega)) (by (simp only [n_lt, n_le, n_eq, n_add, n_sub, n_mul, n_neg, n_lit, zw] at *; omega))), ?_⟩
              refine ⟨(n_in (by (simp only [n_lt, n_le, n_eq, n_add, n_sub, n_mul, n_neg, n_lit, zw] at *; omega)) (by (simp only [n_lt, n_le, n_eq, n_add, n_sub, n_mul, n_neg, n_lit, zw] at *; omega))), ?_⟩
              refine hQm _ _ ⟨by first | rfl | simp only [s1, s2, s3, t1, t2, t3, t4, t5, t6, t7, n_pred], ?_⟩
              exact ⟨hS, hN, hH, gT_put (s := M 1 3) (n := M 30 7) (x := p0) (y := p1) (z := p2) hT (by (simp only [n_lt, n_le, n_eq, n_add, n_sub, n_mul, n_neg, n_lit, zw] at *; omega)) (by (simp only [n_lt, n_le, n_eq, n_add, n_sub, n_mul, n_neg, n_lit, zw] at *; omega)) (by (simp only [n_lt, n_le, n_eq, n_add, n_sub, n_mul, n_neg, n_lit, zw] at *; omega)) (by (simp only [n_lt, n_le, n_eq, n_add, n_sub, n_mul, n_neg, n_lit, zw] at *; omega)) (by (simp only [n_lt, n_le, n_eq, n_add, n_sub, n_mul, n_neg, n_lit, zw] at *; omega)) (by (simp only [n_lt, n_le, n_eq, n_add, n_sub, n_mul, n_neg, n_lit, zw] at *; omega)) (by (simp only [n_lt, n_le, n_eq, n_add, n_sub, n_mul, n_neg, n_lit, zw] at *; omega)), hP, gI_grow (nt2 := M 30 7 + 1) hI (Int.le_refl _) (Int.le_refl _) (by rw [n_suc t8 (by (simp only [n_lt, n_le, n_eq, n_add, n_sub, n_mul, n_neg, n_lit, zw] at *; omega))]; omega) (Int.le_refl _) (Int.le_refl _), hE, hF, hX, hV⟩
            · refine hQ9 _ _ ?_
              show Qx (some (.int (-4))) M
              refine hQx _ _ ⟨(-4), rfl, ?_⟩
              refine mx_q (fun Qm hQm => ?_)
              refine mx_go 200 zq_t192 ?_
              show mx g (d + 5) kX12_isStone 0 [.ref 48, .int (p0)] [] M _
              refine c_X12_isStone (n := (M 48 0)) rfl (by (simp only [n_lt, n_le, n_eq, n_add, n_sub, n_mul, n_neg, n_lit, zw] at *; omega)) (fun k11 k12 => ?_) (fun k13 => by exfalso; (simp only [n_lt, n_le, n_eq, n_add, n_sub, n_mul, n_neg, n_lit, zw] at *; omega))
              show ((1 : Int32) = 0 → Qm (some (.int (-2))) M) ∧ (¬ (1 : Int32) = 0 → mx g (d + 5) kX12_in 0 [.ref 48, .int (p1), .int (0), .int (999)] [] M _)
              refine ⟨fun q14 => absurd q14 (by decide), fun _ => ?_⟩
              refine c_X12_in (fun k15 k16 => ?_) (fun k17 => by exfalso; (simp only [n_lt, n_le, n_eq, n_add, n_sub, n_mul, n_neg, n_lit, zw] at *; omega))
              show ((1 : Int32) = 0 → Qm (some (.int (-2))) M) ∧ (¬ (1 : Int32) = 0 → mx g (d + 5) kX12_in 0 [.ref 48, .int (p2), .int (0), .int (99)] [] M _)
              refine ⟨fun q18 => absurd q18 (by decide), fun _ => ?_⟩
              refine c_X12_in (fun k19 k20 => ?_) (fun k21 => by exfalso; (simp only [n_lt, n_le, n_eq, n_add, n_sub, n_mul, n_neg, n_lit, zw] at *; omega))
              show (¬ (1 : Int32) = 0 → (¬ ((M 48 32) : Int32) = (24 : Int32) → vp_in (M 48 32) 24 ∧ vp_in (M 48 32) 24 ∧ vp_in (M 48 32) 24 ∧ Qm (some (.int (((M 48 32) + 1) - 1))) (zq_mu (zq_ma (zq_ma (zq_ma M 67 (upd (M 67) (Int32.toNatClampNeg (M 48 32)) p0)) 68 (upd (M 68) (Int32.toNatClampNeg (M 48 32)) p1)) 69 (upd (M 69) (Int32.toNatClampNeg (M 48 32)) p2)) 48 32 ((M 48 32) + 1))) ∧ (((M 48 32) : Int32) = (24 : Int32) → Qm (some (.int (-4))) M)) ∧ ((1 : Int32) = 0 → Qm (some (.int (-2))) M)
              refine ⟨fun _ => ?_, fun q22 => absurd q22 (by decide)⟩
              refine ⟨fun q23 => by exfalso; (simp only [n_lt, n_le, n_eq, n_add, n_sub, n_mul, n_neg, n_lit, zw] at *; omega), fun q23 => ?_⟩
              refine hQm _ _ ⟨by first | rfl | simp only [s1, s2, s3, t1, t2, t3, t4, t5, t6, t7, n_pred], ?_⟩
              exact hR
          · refine hQx _ _ ⟨(-2), rfl, ?_⟩
            refine mx_q (fun Qm hQm => ?_)
            refine mx_go 200 zq_t192 ?_
            show mx g (d + 5) kX12_isStone 0 [.ref 48, .int (p0)] [] M _
            refine c_X12_isStone (n := (M 48 0)) rfl (by (simp only [n_lt, n_le, n_eq, n_add, n_sub, n_mul, n_neg, n_lit, zw] at *; omega)) (fun k11 k12 => ?_) (fun k13 => by exfalso; (simp only [n_lt, n_le, n_eq, n_add, n_sub, n_mul, n_neg, n_lit, zw] at *; omega))
            show ((1 : Int32) = 0 → Qm (some (.int (-2))) M) ∧ (¬ (1 : Int32) = 0 → mx g (d + 5) kX12_in 0 [.ref 48, .int (p1), .int (0), .int (999)] [] M _)
            refine ⟨fun q14 => absurd q14 (by decide), fun _ => ?_⟩
            refine c_X12_in (fun k15 k16 => ?_) (fun k17 => by exfalso; (simp only [n_lt, n_le, n_eq, n_add, n_sub, n_mul, n_neg, n_lit, zw] at *; omega))
            show ((1 : Int32) = 0 → Qm (some (.int (-2))) M) ∧ (¬ (1 : Int32) = 0 → mx g (d + 5) kX12_in 0 [.ref 48, .int (p2), .int (0), .int (99)] [] M _)
            refine ⟨fun q18 => absurd q18 (by decide), fun _ => ?_⟩
            refine c_X12_in (fun k19 k20 => by exfalso; (simp only [n_lt, n_le, n_eq, n_add, n_sub, n_mul, n_neg, n_lit, zw] at *; omega)) (fun k21 => ?_)
            show (¬ (0 : Int32) = 0 → (¬ ((M 48 32) : Int32) = (24 : Int32) → vp_in (M 48 32) 24 ∧ vp_in (M 48 32) 24 ∧ vp_in (M 48 32) 24 ∧ Qm (some (.int (((M 48 32) + 1) - 1))) (zq_mu (zq_ma (zq_ma (zq_ma M 67 (upd (M 67) (Int32.toNatClampNeg (M 48 32)) p0)) 68 (upd (M 68) (Int32.toNatClampNeg (M 48 32)) p1)) 69 (upd (M 69) (Int32.toNatClampNeg (M 48 32)) p2)) 48 32 ((M 48 32) + 1))) ∧ (((M 48 32) : Int32) = (24 : Int32) → Qm (some (.int (-4))) M)) ∧ ((0 : Int32) = 0 → Qm (some (.int (-2))) M)
            refine ⟨fun q22 => absurd q22 (by decide), fun _ => ?_⟩
            refine hQm _ _ ⟨by first | rfl | simp only [s1, s2, s3, t1, t2, t3, t4, t5, t6, t7, n_pred], ?_⟩
            exact hR
  · show ((0 : Int32) = 0 → Qx (some (.int (-2))) M) ∧ (¬ (0 : Int32) = 0 → ((p1 : Int32) < 0 → Qx (some (.int (-2))) M) ∧ (¬ (p1 : Int32) < 0 → ((999 : Int32) < (p1 : Int32) → Qx (some (.int (-2))) M) ∧ (¬ (999 : Int32) < (p1 : Int32) → ((p2 : Int32) < 0 → Qx (some (.int (-2))) M) ∧ (¬ (p2 : Int32) < 0 → ((p2 : Int32) ≤ (99 : Int32) → mx g (d + 5) kX9_put 0 [.ref 30, .int (p0), .int (p1), .int (p2)] [] M _) ∧ (¬ (p2 : Int32) ≤ (99 : Int32) → Qx (some (.int (-2))) M)))))
    refine ⟨fun _ => ?_, fun q11 => absurd q11 (by decide)⟩
    refine hQx _ _ ⟨(-2), rfl, ?_⟩
    refine mx_q (fun Qm hQm => ?_)
    refine mx_go 200 zq_t192 ?_
    show mx g (d + 5) kX12_isStone 0 [.ref 48, .int (p0)] [] M _
    refine c_X12_isStone (n := (M 48 0)) rfl (by (simp only [n_lt, n_le, n_eq, n_add, n_sub, n_mul, n_neg, n_lit, zw] at *; omega)) (fun k12 k13 => by exfalso; (simp only [n_lt, n_le, n_eq, n_add, n_sub, n_mul, n_neg, n_lit, zw] at *; omega)) (fun k14 => ?_)
    show ((0 : Int32) = 0 → Qm (some (.int (-2))) M) ∧ (¬ (0 : Int32) = 0 → mx g (d + 5) kX12_in 0 [.ref 48, .int (p1), .int (0), .int (999)] [] M _)
    refine ⟨fun _ => ?_, fun q15 => absurd q15 (by decide)⟩
    refine hQm _ _ ⟨by first | rfl | simp only [s1, s2, s3, t1, t2, t3, t4, t5, t6, t7, n_pred], ?_⟩
    exact hR

set_option maxHeartbeats 4000000 in
theorem op_cross {g : zq_G} {d : Nat} {M : zq_M} {p0 p1 : Int32} (hR : RR M) : pri g (d + 6) kX11_cross kX12_cross [.ref 0, .int (p0), .int (p1)] [.ref 48, .int (p0), .int (p1)] M := by
  obtain ⟨hS, hN, hH, hT, hP, hI, hE, hF, hX, hV⟩ := id hR
  obtain ⟨t1, t2, t3, t4, t5, t6, t7, t8, t9, t10, t11, t12, t13, t14, t15, t16⟩ := id hT
  refine mx_q (fun Qx hQx => ?_)
  refine mx_go 200 zq_t112 ?_
  show mx g (d + 5) kX9_has 0 [.ref 30, .int (p0)] [] M _
  refine c_X9_has (n := (M 30 7)) rfl (fun k1 k2 => ?_) (fun k3 => ?_)
  · show ((1 : Int32) = 0 → Qx (some (.int (-2))) M) ∧ (¬ (1 : Int32) = 0 → mx g (d + 5) kX9_has 0 [.ref 30, .int (p1)] [] M _)
    refine ⟨fun q4 => absurd q4 (by decide), fun _ => ?_⟩
    refine c_X9_has (n := (M 30 7)) rfl (fun k5 k6 => ?_) (fun k7 => ?_)
    · show ((1 : Int32) = 0 → Qx (some (.int (-2))) M) ∧ (¬ (1 : Int32) = 0 → (¬ (p0 : Int32) = (p1 : Int32) → mx g (d + 5) kX9_putCross 0 [.ref 30, .int (p0), .int (p1)] [] M _) ∧ ((p0 : Int32) = (p1 : Int32) → Qx (some (.int (-2))) M))
      refine ⟨fun q8 => absurd q8 (by decide), fun _ => ?_⟩
      refine ⟨fun q9 => ?_, fun q9 => ?_⟩
      · refine mx_q (fun Q10 hQ10 => ?_)
        refine mx_go 200 zq_t77 ?_
        show (((M 30 8) : Int32) < (20 : Int32) → vp_in (M 30 8) 20 ∧ vp_in (M 30 8) 20 ∧ Q10 (some (.int ((M 30 8) + 1))) (zq_mu (zq_ma (zq_ma M 34 (upd (M 34) (Int32.toNatClampNeg (M 30 8)) p0)) 35 (upd (M 35) (Int32.toNatClampNeg (M 30 8)) p1)) 30 8 ((M 30 8) + 1))) ∧ (¬ ((M 30 8) : Int32) < (20 : Int32) → Q10 (some (.int (-4))) M)
        refine ⟨fun q11 => ?_, fun q11 => ?_⟩
        · refine ⟨(n_in (by (simp only [n_lt, n_le, n_eq, n_add, n_sub, n_mul, n_neg, n_lit, zw] at *; omega)) (by (simp only [n_lt, n_le, n_eq, n_add, n_sub, n_mul, n_neg, n_lit, zw] at *; omega))), ?_⟩
          refine ⟨(n_in (by (simp only [n_lt, n_le, n_eq, n_add, n_sub, n_mul, n_neg, n_lit, zw] at *; omega)) (by (simp only [n_lt, n_le, n_eq, n_add, n_sub, n_mul, n_neg, n_lit, zw] at *; omega))), ?_⟩
          refine hQ10 _ _ ?_
          show Qx (some (.int ((M 30 8) + 1))) (zq_mu (zq_ma (zq_ma M 34 (upd (M 34) (Int32.toNatClampNeg (M 30 8)) p0)) 35 (upd (M 35) (Int32.toNatClampNeg (M 30 8)) p1)) 30 8 ((M 30 8) + 1))
          refine hQx _ _ ⟨((M 30 8) + 1), rfl, ?_⟩
          refine mx_q (fun Qm hQm => ?_)
          refine mx_go 200 zq_t212 ?_
          show mx g (d + 5) kX12_isTrack 0 [.ref 48, .int (p0)] [] (zq_mu (zq_ma (zq_ma M 34 (upd (M 34) (Int32.toNatClampNeg (M 30 8)) p0)) 35 (upd (M 35) (Int32.toNatClampNeg (M 30 8)) p1)) 30 8 ((M 30 8) + 1)) _
          refine c_X12_isTrack (n := (M 48 32)) rfl (by (simp only [n_lt, n_le, n_eq, n_add, n_sub, n_mul, n_neg, n_lit, zw] at *; omega)) (fun k12 k13 => ?_) (fun k14 => by exfalso; (simp only [n_lt, n_le, n_eq, n_add, n_sub, n_mul, n_neg, n_lit, zw] at *; omega))
          show ((1 : Int32) = 0 → Qm (some (.int (-2))) (zq_mu (zq_ma (zq_ma M 34 (upd (M 34) (Int32.toNatClampNeg (M 30 8)) p0)) 35 (upd (M 35) (Int32.toNatClampNeg (M 30 8)) p1)) 30 8 ((M 30 8) + 1))) ∧ (¬ (1 : Int32) = 0 → mx g (d + 5) kX12_isTrack 0 [.ref 48, .int (p1)] [] (zq_mu (zq_ma (zq_ma M 34 (upd (M 34) (Int32.toNatClampNeg (M 30 8)) p0)) 35 (upd (M 35) (Int32.toNatClampNeg (M 30 8)) p1)) 30 8 ((M 30 8) + 1)) _)
          refine ⟨fun q15 => absurd q15 (by decide), fun _ => ?_⟩
          refine c_X12_isTrack (n := (M 48 32)) rfl (by (simp only [n_lt, n_le, n_eq, n_add, n_sub, n_mul, n_neg, n_lit, zw] at *; omega)) (fun k16 k17 => ?_) (fun k18 => by exfalso; (simp only [n_lt, n_le, n_eq, n_add, n_sub, n_mul, n_neg, n_lit, zw] at *; omega))
          show ((1 : Int32) = 0 → Qm (some (.int (-2))) (zq_mu (zq_ma (zq_ma M 34 (upd (M 34) (Int32.toNatClampNeg (M 30 8)) p0)) 35 (upd (M 35) (Int32.toNatClampNeg (M 30 8)) p1)) 30 8 ((M 30 8) + 1))) ∧ (¬ (1 : Int32) = 0 → (¬ (p0 : Int32) = (p1 : Int32) → (¬ ((M 48 39) : Int32) = (20 : Int32) → vp_in (M 48 39) 20 ∧ vp_in (M 48 39) 20 ∧ Qm (some (.int ((M 48 39) + 1))) (zq_mu (zq_ma (zq_ma (zq_mu (zq_ma (zq_ma M 34 (upd (M 34) (Int32.toNatClampNeg (M 30 8)) p0)) 35 (upd (M 35) (Int32.toNatClampNeg (M 30 8)) p1)) 30 8 ((M 30 8) + 1)) 72 (upd (M 72) (Int32.toNatClampNeg (M 48 39)) p0)) 73 (upd (M 73) (Int32.toNatClampNeg (M 48 39)) p1)) 48 39 ((M 48 39) + 1))) ∧ (((M 48 39) : Int32) = (20 : Int32) → Qm (some (.int (-4))) (zq_mu (zq_ma (zq_ma M 34 (upd (M 34) (Int32.toNatClampNeg (M 30 8)) p0)) 35 (upd (M 35) (Int32.toNatClampNeg (M 30 8)) p1)) 30 8 ((M 30 8) + 1)))) ∧ ((p0 : Int32) = (p1 : Int32) → Qm (some (.int (-2))) (zq_mu (zq_ma (zq_ma M 34 (upd (M 34) (Int32.toNatClampNeg (M 30 8)) p0)) 35 (upd (M 35) (Int32.toNatClampNeg (M 30 8)) p1)) 30 8 ((M 30 8) + 1))))
          refine ⟨fun q19 => absurd q19 (by decide), fun _ => ?_⟩
          refine ⟨fun q20 => ?_, fun q20 => by exfalso; (simp only [n_lt, n_le, n_eq, n_add, n_sub, n_mul, n_neg, n_lit, zw] at *; omega)⟩
          refine ⟨fun q21 => ?_, fun q21 => by exfalso; (simp only [n_lt, n_le, n_eq, n_add, n_sub, n_mul, n_neg, n_lit, zw] at *; omega)⟩
          refine ⟨(n_in (by (simp only [n_lt, n_le, n_eq, n_add, n_sub, n_mul, n_neg, n_lit, zw] at *; omega)) (by (simp only [n_lt, n_le, n_eq, n_add, n_sub, n_mul, n_neg, n_lit, zw] at *; omega))), ?_⟩
          refine ⟨(n_in (by (simp only [n_lt, n_le, n_eq, n_add, n_sub, n_mul, n_neg, n_lit, zw] at *; omega)) (by (simp only [n_lt, n_le, n_eq, n_add, n_sub, n_mul, n_neg, n_lit, zw] at *; omega))), ?_⟩
          refine hQm _ _ ⟨by first | rfl | simp only [t1, t2, t3, t4, t5, t6, t7, n_pred], ?_⟩
          exact ⟨hS, hN, hH, gT_cross (n := M 30 7) (c := M 30 8) (x := p0) (y := p1) hT (by (simp only [n_lt, n_le, n_eq, n_add, n_sub, n_mul, n_neg, n_lit, zw] at *; omega)) (by (simp only [n_lt, n_le, n_eq, n_add, n_sub, n_mul, n_neg, n_lit, zw] at *; omega)) (by (simp only [n_lt, n_le, n_eq, n_add, n_sub, n_mul, n_neg, n_lit, zw] at *; omega)) (by (simp only [n_lt, n_le, n_eq, n_add, n_sub, n_mul, n_neg, n_lit, zw] at *; omega)) (by (simp only [n_lt, n_le, n_eq, n_add, n_sub, n_mul, n_neg, n_lit, zw] at *; omega)), hP, gI_cross (nc := M 30 8) (v := p1) hI t10 (by (simp only [n_lt, n_le, n_eq, n_add, n_sub, n_mul, n_neg, n_lit, zw] at *; omega)), hE, hF, hX, hV⟩
        · refine hQ10 _ _ ?_
          show Qx (some (.int (-4))) M
          refine hQx _ _ ⟨(-4), rfl, ?_⟩
          refine mx_q (fun Qm hQm => ?_)
          refine mx_go 200 zq_t212 ?_
          show mx g (d + 5) kX12_isTrack 0 [.ref 48, .int (p0)] [] M _
          refine c_X12_isTrack (n := (M 48 32)) rfl (by (simp only [n_lt, n_le, n_eq, n_add, n_sub, n_mul, n_neg, n_lit, zw] at *; omega)) (fun k12 k13 => ?_) (fun k14 => by exfalso; (simp only [n_lt, n_le, n_eq, n_add, n_sub, n_mul, n_neg, n_lit, zw] at *; omega))
          show ((1 : Int32) = 0 → Qm (some (.int (-2))) M) ∧ (¬ (1 : Int32) = 0 → mx g (d + 5) kX12_isTrack 0 [.ref 48, .int (p1)] [] M _)
          refine ⟨fun q15 => absurd q15 (by decide), fun _ => ?_⟩
          refine c_X12_isTrack (n := (M 48 32)) rfl (by (simp only [n_lt, n_le, n_eq, n_add, n_sub, n_mul, n_neg, n_lit, zw] at *; omega)) (fun k16 k17 => ?_) (fun k18 => by exfalso; (simp only [n_lt, n_le, n_eq, n_add, n_sub, n_mul, n_neg, n_lit, zw] at *; omega))
          show ((1 : Int32) = 0 → Qm (some (.int (-2))) M) ∧ (¬ (1 : Int32) = 0 → (¬ (p0 : Int32) = (p1 : Int32) → (¬ ((M 48 39) : Int32) = (20 : Int32) → vp_in (M 48 39) 20 ∧ vp_in (M 48 39) 20 ∧ Qm (some (.int ((M 48 39) + 1))) (zq_mu (zq_ma (zq_ma M 72 (upd (M 72) (Int32.toNatClampNeg (M 48 39)) p0)) 73 (upd (M 73) (Int32.toNatClampNeg (M 48 39)) p1)) 48 39 ((M 48 39) + 1))) ∧ (((M 48 39) : Int32) = (20 : Int32) → Qm (some (.int (-4))) M)) ∧ ((p0 : Int32) = (p1 : Int32) → Qm (some (.int (-2))) M))
          refine ⟨fun q19 => absurd q19 (by decide), fun _ => ?_⟩
          refine ⟨fun q20 => ?_, fun q20 => by exfalso; (simp only [n_lt, n_le, n_eq, n_add, n_sub, n_mul, n_neg, n_lit, zw] at *; omega)⟩
          refine ⟨fun q21 => by exfalso; (simp only [n_lt, n_le, n_eq, n_add, n_sub, n_mul, n_neg, n_lit, zw] at *; omega), fun q21 => ?_⟩
          refine hQm _ _ ⟨by first | rfl | simp only [t1, t2, t3, t4, t5, t6, t7, n_pred], ?_⟩
          exact hR
      · refine hQx _ _ ⟨(-2), rfl, ?_⟩
        refine mx_q (fun Qm hQm => ?_)
        refine mx_go 200 zq_t212 ?_
        show mx g (d + 5) kX12_isTrack 0 [.ref 48, .int (p0)] [] M _
        refine c_X12_isTrack (n := (M 48 32)) rfl (by (simp only [n_lt, n_le, n_eq, n_add, n_sub, n_mul, n_neg, n_lit, zw] at *; omega)) (fun k12 k13 => ?_) (fun k14 => by exfalso; (simp only [n_lt, n_le, n_eq, n_add, n_sub, n_mul, n_neg, n_lit, zw] at *; omega))
        show ((1 : Int32) = 0 → Qm (some (.int (-2))) M) ∧ (¬ (1 : Int32) = 0 → mx g (d + 5) kX12_isTrack 0 [.ref 48, .int (p1)] [] M _)
        refine ⟨fun q15 => absurd q15 (by decide), fun _ => ?_⟩
        refine c_X12_isTrack (n := (M 48 32)) rfl (by (simp only [n_lt, n_le, n_eq, n_add, n_sub, n_mul, n_neg, n_lit, zw] at *; omega)) (fun k16 k17 => ?_) (fun k18 => by exfalso; (simp only [n_lt, n_le, n_eq, n_add, n_sub, n_mul, n_neg, n_lit, zw] at *; omega))
        show ((1 : Int32) = 0 → Qm (some (.int (-2))) M) ∧ (¬ (1 : Int32) = 0 → (¬ (p0 : Int32) = (p1 : Int32) → (¬ ((M 48 39) : Int32) = (20 : Int32) → vp_in (M 48 39) 20 ∧ vp_in (M 48 39) 20 ∧ Qm (some (.int ((M 48 39) + 1))) (zq_mu (zq_ma (zq_ma M 72 (upd (M 72) (Int32.toNatClampNeg (M 48 39)) p0)) 73 (upd (M 73) (Int32.toNatClampNeg (M 48 39)) p1)) 48 39 ((M 48 39) + 1))) ∧ (((M 48 39) : Int32) = (20 : Int32) → Qm (some (.int (-4))) M)) ∧ ((p0 : Int32) = (p1 : Int32) → Qm (some (.int (-2))) M))
        refine ⟨fun q19 => absurd q19 (by decide), fun _ => ?_⟩
        refine ⟨fun q20 => by exfalso; (simp only [n_lt, n_le, n_eq, n_add, n_sub, n_mul, n_neg, n_lit, zw] at *; omega), fun q20 => ?_⟩
        refine hQm _ _ ⟨by first | rfl | simp only [t1, t2, t3, t4, t5, t6, t7, n_pred], ?_⟩
        exact hR
    · show ((0 : Int32) = 0 → Qx (some (.int (-2))) M) ∧ (¬ (0 : Int32) = 0 → (¬ (p0 : Int32) = (p1 : Int32) → mx g (d + 5) kX9_putCross 0 [.ref 30, .int (p0), .int (p1)] [] M _) ∧ ((p0 : Int32) = (p1 : Int32) → Qx (some (.int (-2))) M))
      refine ⟨fun _ => ?_, fun q12 => absurd q12 (by decide)⟩
      refine hQx _ _ ⟨(-2), rfl, ?_⟩
      refine mx_q (fun Qm hQm => ?_)
      refine mx_go 200 zq_t212 ?_
      show mx g (d + 5) kX12_isTrack 0 [.ref 48, .int (p0)] [] M _
      refine c_X12_isTrack (n := (M 48 32)) rfl (by (simp only [n_lt, n_le, n_eq, n_add, n_sub, n_mul, n_neg, n_lit, zw] at *; omega)) (fun k13 k14 => ?_) (fun k15 => by exfalso; (simp only [n_lt, n_le, n_eq, n_add, n_sub, n_mul, n_neg, n_lit, zw] at *; omega))
      show ((1 : Int32) = 0 → Qm (some (.int (-2))) M) ∧ (¬ (1 : Int32) = 0 → mx g (d + 5) kX12_isTrack 0 [.ref 48, .int (p1)] [] M _)
      refine ⟨fun q16 => absurd q16 (by decide), fun _ => ?_⟩
      refine c_X12_isTrack (n := (M 48 32)) rfl (by (simp only [n_lt, n_le, n_eq, n_add, n_sub, n_mul, n_neg, n_lit, zw] at *; omega)) (fun k17 k18 => by exfalso; (simp only [n_lt, n_le, n_eq, n_add, n_sub, n_mul, n_neg, n_lit, zw] at *; omega)) (fun k19 => ?_)
      show ((0 : Int32) = 0 → Qm (some (.int (-2))) M) ∧ (¬ (0 : Int32) = 0 → (¬ (p0 : Int32) = (p1 : Int32) → (¬ ((M 48 39) : Int32) = (20 : Int32) → vp_in (M 48 39) 20 ∧ vp_in (M 48 39) 20 ∧ Qm (some (.int ((M 48 39) + 1))) (zq_mu (zq_ma (zq_ma M 72 (upd (M 72) (Int32.toNatClampNeg (M 48 39)) p0)) 73 (upd (M 73) (Int32.toNatClampNeg (M 48 39)) p1)) 48 39 ((M 48 39) + 1))) ∧ (((M 48 39) : Int32) = (20 : Int32) → Qm (some (.int (-4))) M)) ∧ ((p0 : Int32) = (p1 : Int32) → Qm (some (.int (-2))) M))
      refine ⟨fun _ => ?_, fun q20 => absurd q20 (by decide)⟩
      refine hQm _ _ ⟨by first | rfl | simp only [t1, t2, t3, t4, t5, t6, t7, n_pred], ?_⟩
      exact hR
  · show ((0 : Int32) = 0 → Qx (some (.int (-2))) M) ∧ (¬ (0 : Int32) = 0 → mx g (d + 5) kX9_has 0 [.ref 30, .int (p1)] [] M _)
    refine ⟨fun _ => ?_, fun q13 => absurd q13 (by decide)⟩
    refine hQx _ _ ⟨(-2), rfl, ?_⟩
    refine mx_q (fun Qm hQm => ?_)
    refine mx_go 200 zq_t212 ?_
    show mx g (d + 5) kX12_isTrack 0 [.ref 48, .int (p0)] [] M _
    refine c_X12_isTrack (n := (M 48 32)) rfl (by (simp only [n_lt, n_le, n_eq, n_add, n_sub, n_mul, n_neg, n_lit, zw] at *; omega)) (fun k14 k15 => by exfalso; (simp only [n_lt, n_le, n_eq, n_add, n_sub, n_mul, n_neg, n_lit, zw] at *; omega)) (fun k16 => ?_)
    show ((0 : Int32) = 0 → Qm (some (.int (-2))) M) ∧ (¬ (0 : Int32) = 0 → mx g (d + 5) kX12_isTrack 0 [.ref 48, .int (p1)] [] M _)
    refine ⟨fun _ => ?_, fun q17 => absurd q17 (by decide)⟩
    refine hQm _ _ ⟨by first | rfl | simp only [t1, t2, t3, t4, t5, t6, t7, n_pred], ?_⟩
    exact hR

