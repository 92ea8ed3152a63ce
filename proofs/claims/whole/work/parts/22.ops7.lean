def occ (p : Nat → Int32) (n : Int) (v : Int32) : Prop := ∃ i : Nat, (i : Int) < n ∧ p i = v
theorem c_X7_someAt {g : zq_G} {d : Nat} {M : zq_M} {Q : Option Value → zq_M → Prop} {v n : Int32} {p : Nat → Int32} (hn : M 1 3 = n) (hp : M 3 = p) (b1 : 0 ≤ n.toInt) (b2 : n.toInt ≤ 10) (h1 : occ p n.toInt v → True → Q (some (.int 1)) M) (h0 : ¬ occ p n.toInt v → Q (some (.int 0)) M) : mx g d kX7_someAt 0 [.ref 1, .int v, .null] [] M Q := by
  subst hn hp
  refine mx_go 60 zq_t59 ?_
  show mx g (d) kX7_someAt 2 [.ref 1, .int (v), .int (0)] [] M Q
  refine mx_wf (fun x : Int32 => [.ref 1, .int v, .int x]) (fun x M' => M' = M ∧ 0 ≤ x.toInt ∧ x.toInt ≤ (M 1 3).toInt ∧ ∀ i : Nat, (i : Int) < x.toInt → ¬ M 3 i = v) (fun x => ((M 1 3).toInt - x.toInt).toNat) ?_ 0 M ⟨rfl, by decide, b1, fun i q => by rw [n_0] at q; omega⟩
  intro x M' ⟨e, i1, i2, i3⟩ ih
  subst e
  refine mx_go 60 zq_t59 ?_
  show (((M' 1 3) : Int32) ≤ (x : Int32) → zq_b 0 ∧ Q (some (.int 0)) M') ∧ (¬ ((M' 1 3) : Int32) ≤ (x : Int32) → vp_in x 10 ∧ (¬ (((M' 3) (Int32.toNatClampNeg x)) : Int32) = (v : Int32) → mx g (d) kX7_someAt 2 [.ref 1, .int (v), .int ((x + 1))] [] M' Q) ∧ ((((M' 3) (Int32.toNatClampNeg x)) : Int32) = (v : Int32) → zq_b 1 ∧ Q (some (.int 1)) M'))
  refine ⟨fun q => ⟨Or.inl rfl, h0 (fun z => ?_)⟩, fun q => ⟨n_in i1 (by rw [n_le] at q; omega), fun r => ?_, fun r => ⟨Or.inr rfl, h1 ⟨x.toNatClampNeg, by rw [n_le] at q; rw [n_cl]; omega, r⟩ trivial⟩⟩⟩
  · obtain ⟨i, z1, z2⟩ := z
    rw [n_le] at q
    exact i3 i (by omega) z2
  · rw [n_le] at q
    have e := n_up (n := M' 1 3) i1 (by omega)
    refine ih (x + 1) _ (by omega) ⟨rfl, by omega, by omega, fun i hi => ?_⟩
    by_cases c : i = x.toNatClampNeg
    · rw [c]; exact r
    · rw [n_cl] at c; exact i3 i (by omega)
theorem c_X12_stone28 {g : zq_G} {d : Nat} {M : zq_M} {Q : Option Value → zq_M → Prop} {w v n : Int32} {p : Nat → Int32} (hn : M 48 0 = n) (hp : M 50 = p) (b1 : 0 ≤ n.toInt) (b2 : n.toInt ≤ 10) (h1 : occ p n.toInt v → Q (some (.int (-3))) M) (h0 : ¬ occ p n.toInt v → mx g d kX12_stone 28 [.ref 48, .int w, .int v, .int n] [] M Q) : mx g d kX12_stone 28 [.ref 48, .int w, .int v, .int 0] [] M Q := by
  subst hn hp
  refine mx_wf (fun x : Int32 => [.ref 48, .int w, .int v, .int x]) (fun x M' => M' = M ∧ 0 ≤ x.toInt ∧ x.toInt ≤ (M 48 0).toInt ∧ ∀ i : Nat, (i : Int) < x.toInt → ¬ M 50 i = v) (fun x => ((M 48 0).toInt - x.toInt).toNat) ?_ 0 M ⟨rfl, by decide, b1, fun i q => by rw [n_0] at q; omega⟩
  intro x M' ⟨e, i1, i2, i3⟩ ih
  subst e
  by_cases c : x.toInt = (M' 48 0).toInt
  · obtain rfl : x = M' 48 0 := (n_eq _ _).mpr c
    exact h0 (fun ⟨i, z1, z2⟩ => i3 i z1 z2)
  refine mx_go 60 zq_t143 ?_
  show (((M' 48 0) : Int32) ≤ (x : Int32) → (¬ ((M' 48 0) : Int32) = (10 : Int32) → vp_in (M' 48 0) 10 ∧ vp_in (M' 48 0) 10 ∧ Q (some (.int (((M' 48 0) + 1) - 1))) (zq_mu (zq_ma (zq_ma M' 49 (upd (M' 49) (Int32.toNatClampNeg (M' 48 0)) w)) 50 (upd (M' 50) (Int32.toNatClampNeg (M' 48 0)) v)) 48 0 ((M' 48 0) + 1))) ∧ (((M' 48 0) : Int32) = (10 : Int32) → Q (some (.int (-4))) M')) ∧ (¬ ((M' 48 0) : Int32) ≤ (x : Int32) → vp_in x 10 ∧ (¬ (((M' 50) (Int32.toNatClampNeg x)) : Int32) = (v : Int32) → mx g (d) kX12_stone 28 [.ref 48, .int (w), .int (v), .int ((x + 1))] [] M' Q) ∧ ((((M' 50) (Int32.toNatClampNeg x)) : Int32) = (v : Int32) → Q (some (.int (-3))) M'))
  refine ⟨fun q => ?_, fun q => ⟨n_in i1 (by omega), fun r => ?_, fun r => h1 ⟨x.toNatClampNeg, by rw [n_cl]; omega, r⟩⟩⟩
  · rw [n_le] at q; omega
  · have e := n_up (n := M' 48 0) i1 (by omega)
    refine ih (x + 1) _ (by omega) ⟨rfl, by omega, by omega, fun i hi => ?_⟩
    by_cases c : i = x.toNatClampNeg
    · rw [c]; exact r
    · rw [n_cl] at c; exact i3 i (by omega)
theorem gS_put {n n' a b : Int32} {w w' p p' : Nat → Int32} (h : gS n n' w w' p p') (hn : n.toInt < 10) (a1 : 1 ≤ a.toInt) (a2 : a.toInt ≤ 99) (b1 : 0 ≤ b.toInt) (b2 : b.toInt ≤ 4095) : gS (n + 1) (n' + 1) (upd w n.toNatClampNeg a) (upd w' n'.toNatClampNeg a) (upd p n.toNatClampNeg b) (upd p' n'.toNatClampNeg b) := by
  obtain ⟨rfl, rfl, rfl, h4, h5, h6, h7, h8⟩ := h
  rw [gS, n_suc h4 (by omega)]
  refine ⟨rfl, rfl, rfl, by omega, by omega, upd_all (P := fun x => 0 ≤ x.toInt ∧ x.toInt ≤ 99) h6 ⟨by omega, a2⟩, upd_all (P := fun x => 0 ≤ x.toInt ∧ x.toInt ≤ 4095) h7 ⟨b1, b2⟩, fun i hi => ?_⟩
  unfold upd
  split
  · exact a1
  · next e => rw [n_cl] at e; exact h8 i (by omega)
theorem gT_grow {s s2 n n' c c' : Int32} {a a' l l' t t' o o' u u' : Nat → Int32} (h : gT s n n' c c' a a' l l' t t' o o' u u') (hs : s.toInt ≤ s2.toInt) : gT s2 n n' c c' a a' l l' t t' o o' u u' := by
  obtain ⟨h1, h2, h3, h4, h5, h6, h7, h8, h9, h10, h11, h12, h13, h14, h15, h16⟩ := h
  exact ⟨h1, h2, h3, h4, h5, h6, h7, h8, h9, h10, h11, fun i hi => ⟨(h12 i hi).1, by have := (h12 i hi).2; omega⟩, h13, h14, h15, h16⟩
set_option maxHeartbeats 4000000 in
theorem op_stone {g : zq_G} {d : Nat} {M : zq_M} {p0 p1 : Int32} (hR : RR M) : pri g (d + 6) kX11_stone kX12_stone [.ref 0, .int (p0), .int (p1)] [.ref 48, .int (p0), .int (p1), .null] M := by
  obtain ⟨hS, hN, hH, hT, hP, hI, hE, hF, hX, hV⟩ := id hR
  obtain ⟨s1, s2, s3, s4, s5, s6, s7, s8⟩ := id hS
  refine mx_q (fun Qx hQx => ?_)
  refine mx_go 200 zq_t91 ?_
  show ((p0 : Int32) < (1 : Int32) → Qx (some (.int (-2))) M) ∧ (¬ (p0 : Int32) < (1 : Int32) → ((99 : Int32) < (p0 : Int32) → Qx (some (.int (-2))) M) ∧ (¬ (99 : Int32) < (p0 : Int32) → mx g (d + 5) kX11_isPlace 0 [.int (p1)] [] M _))
  refine ⟨fun q1 => ?_, fun q1 => ?_⟩
  · refine hQx _ _ ⟨(-2), rfl, ?_⟩
    refine mx_q (fun Qm hQm => ?_)
    refine mx_go 200 zq_t143 ?_
    show mx g (d + 5) kX12_in 0 [.ref 48, .int (p0), .int (1), .int (99)] [] M _
    refine c_X12_in (fun k2 k3 => by exfalso; (first | (simp only [n_lt, n_le, n_eq, n_add, n_sub, n_mul, n_neg, n_lit, zw] at *; omega) | (simp only [s1, s2, s3] at *; contradiction))) (fun k4 => ?_)
    show ((0 : Int32) = 0 → Qm (some (.int (-2))) M) ∧ (¬ (0 : Int32) = 0 → mx g (d + 5) kX12_in 0 [.ref 48, .int (p1), .int (0), .int (4095)] [] M _)
    refine ⟨fun _ => ?_, fun q5 => absurd q5 (by decide)⟩
    refine hQm _ _ ⟨by first | rfl | simp only [s1, s2, s3, n_pred], ?_⟩
    exact hR
  · refine ⟨fun q2 => ?_, fun q2 => ?_⟩
    · refine hQx _ _ ⟨(-2), rfl, ?_⟩
      refine mx_q (fun Qm hQm => ?_)
      refine mx_go 200 zq_t143 ?_
      show mx g (d + 5) kX12_in 0 [.ref 48, .int (p0), .int (1), .int (99)] [] M _
      refine c_X12_in (fun k3 k4 => by exfalso; (first | (simp only [n_lt, n_le, n_eq, n_add, n_sub, n_mul, n_neg, n_lit, zw] at *; omega) | (simp only [s1, s2, s3] at *; contradiction))) (fun k5 => ?_)
      show ((0 : Int32) = 0 → Qm (some (.int (-2))) M) ∧ (¬ (0 : Int32) = 0 → mx g (d + 5) kX12_in 0 [.ref 48, .int (p1), .int (0), .int (4095)] [] M _)
      refine ⟨fun _ => ?_, fun q6 => absurd q6 (by decide)⟩
      refine hQm _ _ ⟨by first | rfl | simp only [s1, s2, s3, n_pred], ?_⟩
      exact hR
    · refine c_X11_isPlace (fun k3 k4 => ?_) (fun k5 => ?_)
      · show (¬ (1 : Int32) = 0 → mx g (d + 5) kX7_someAt 0 [.ref 1, .int (p1), .null] [] M _) ∧ ((1 : Int32) = 0 → Qx (some (.int (-2))) M)
        refine ⟨fun _ => ?_, fun q6 => absurd q6 (by decide)⟩
        refine c_X7_someAt (n := (M 1 3)) (p := (M 3)) rfl rfl (by (simp only [n_lt, n_le, n_eq, n_add, n_sub, n_mul, n_neg, n_lit, zw] at *; omega)) (by (simp only [n_lt, n_le, n_eq, n_add, n_sub, n_mul, n_neg, n_lit, zw] at *; omega)) (fun k7 k8 => ?_) (fun k9 => ?_)
        · show ((1 : Int32) = 0 → mx g (d + 5) kX7_put 0 [.ref 1, .int (p0), .int (p1)] [] M _) ∧ (¬ (1 : Int32) = 0 → Qx (some (.int (-3))) M)
          refine ⟨fun q10 => absurd q10 (by decide), fun _ => ?_⟩
          refine hQx _ _ ⟨(-3), rfl, ?_⟩
          refine mx_q (fun Qm hQm => ?_)
          refine mx_go 200 zq_t143 ?_
          show mx g (d + 5) kX12_in 0 [.ref 48, .int (p0), .int (1), .int (99)] [] M _
          refine c_X12_in (fun k11 k12 => ?_) (fun k13 => by exfalso; (first | (simp only [n_lt, n_le, n_eq, n_add, n_sub, n_mul, n_neg, n_lit, zw] at *; omega) | (simp only [s1, s2, s3] at *; contradiction)))
          show ((1 : Int32) = 0 → Qm (some (.int (-2))) M) ∧ (¬ (1 : Int32) = 0 → mx g (d + 5) kX12_in 0 [.ref 48, .int (p1), .int (0), .int (4095)] [] M _)
          refine ⟨fun q14 => absurd q14 (by decide), fun _ => ?_⟩
          refine c_X12_in (fun k15 k16 => ?_) (fun k17 => by exfalso; (first | (simp only [n_lt, n_le, n_eq, n_add, n_sub, n_mul, n_neg, n_lit, zw] at *; omega) | (simp only [s1, s2, s3] at *; contradiction)))
          show (¬ (1 : Int32) = 0 → mx g (d + 6) kX12_stone 28 [.ref 48, .int (p0), .int (p1), .int (0)] [] M Qm) ∧ ((1 : Int32) = 0 → Qm (some (.int (-2))) M)
          refine ⟨fun _ => ?_, fun q18 => absurd q18 (by decide)⟩
          refine c_X12_stone28 (n := (M 48 0)) (p := (M 50)) rfl rfl (by (simp only [n_lt, n_le, n_eq, n_add, n_sub, n_mul, n_neg, n_lit, zw] at *; omega)) (by (simp only [n_lt, n_le, n_eq, n_add, n_sub, n_mul, n_neg, n_lit, zw] at *; omega)) (fun k19 => ?_) (fun k20 => by exfalso; (first | (simp only [n_lt, n_le, n_eq, n_add, n_sub, n_mul, n_neg, n_lit, zw] at *; omega) | (simp only [s1, s2, s3] at *; contradiction)))
          refine hQm _ _ ⟨by first | rfl | simp only [s1, s2, s3, n_pred], ?_⟩
          exact hR
        · show ((0 : Int32) = 0 → mx g (d + 5) kX7_put 0 [.ref 1, .int (p0), .int (p1)] [] M _) ∧ (¬ (0 : Int32) = 0 → Qx (some (.int (-3))) M)
          refine ⟨fun _ => ?_, fun q11 => absurd q11 (by decide)⟩
          refine mx_q (fun Q12 hQ12 => ?_)
          refine mx_go 200 zq_t60 ?_
          show (((M 1 3) : Int32) < (10 : Int32) → vp_in (M 1 3) 10 ∧ vp_in (M 1 3) 10 ∧ Q12 (some (.int (((M 1 3) + 1) - 1))) (zq_mu (zq_ma (zq_ma M 2 (upd (M 2) (Int32.toNatClampNeg (M 1 3)) p0)) 3 (upd (M 3) (Int32.toNatClampNeg (M 1 3)) p1)) 1 3 ((M 1 3) + 1))) ∧ (¬ ((M 1 3) : Int32) < (10 : Int32) → Q12 (some (.int (-4))) M)
          refine ⟨fun q13 => ?_, fun q13 => ?_⟩
          · refine ⟨(n_in (by (first | (simp only [n_lt, n_le, n_eq, n_add, n_sub, n_mul, n_neg, n_lit, zw] at *; omega) | (simp only [s1, s2, s3] at *; contradiction))) (by (first | (simp only [n_lt, n_le, n_eq, n_add, n_sub, n_mul, n_neg, n_lit, zw] at *; omega) | (simp only [s1, s2, s3] at *; contradiction)))), ?_⟩
            refine ⟨(n_in (by (first | (simp only [n_lt, n_le, n_eq, n_add, n_sub, n_mul, n_neg, n_lit, zw] at *; omega) | (simp only [s1, s2, s3] at *; contradiction))) (by (first | (simp only [n_lt, n_le, n_eq, n_add, n_sub, n_mul, n_neg, n_lit, zw] at *; omega) | (simp only [s1, s2, s3] at *; contradiction)))), ?_⟩
            refine hQ12 _ _ ?_
            show Qx (some (.int (((M 1 3) + 1) - 1))) (zq_mu (zq_ma (zq_ma M 2 (upd (M 2) (Int32.toNatClampNeg (M 1 3)) p0)) 3 (upd (M 3) (Int32.toNatClampNeg (M 1 3)) p1)) 1 3 ((M 1 3) + 1))
            refine hQx _ _ ⟨(((M 1 3) + 1) - 1), rfl, ?_⟩
            refine mx_q (fun Qm hQm => ?_)
            refine mx_go 200 zq_t143 ?_
            show mx g (d + 5) kX12_in 0 [.ref 48, .int (p0), .int (1), .int (99)] [] (zq_mu (zq_ma (zq_ma M 2 (upd (M 2) (Int32.toNatClampNeg (M 1 3)) p0)) 3 (upd (M 3) (Int32.toNatClampNeg (M 1 3)) p1)) 1 3 ((M 1 3) + 1)) _
            refine c_X12_in (fun k14 k15 => ?_) (fun k16 => by exfalso; (first | (simp only [n_lt, n_le, n_eq, n_add, n_sub, n_mul, n_neg, n_lit, zw] at *; omega) | (simp only [s1, s2, s3] at *; contradiction)))
            show ((1 : Int32) = 0 → Qm (some (.int (-2))) (zq_mu (zq_ma (zq_ma M 2 (upd (M 2) (Int32.toNatClampNeg (M 1 3)) p0)) 3 (upd (M 3) (Int32.toNatClampNeg (M 1 3)) p1)) 1 3 ((M 1 3) + 1))) ∧ (¬ (1 : Int32) = 0 → mx g (d + 5) kX12_in 0 [.ref 48, .int (p1), .int (0), .int (4095)] [] (zq_mu (zq_ma (zq_ma M 2 (upd (M 2) (Int32.toNatClampNeg (M 1 3)) p0)) 3 (upd (M 3) (Int32.toNatClampNeg (M 1 3)) p1)) 1 3 ((M 1 3) + 1)) _)
            refine ⟨fun q17 => absurd q17 (by decide), fun _ => ?_⟩
            refine c_X12_in (fun k18 k19 => ?_) (fun k20 => by exfalso; (first | (simp only [n_lt, n_le, n_eq, n_add, n_sub, n_mul, n_neg, n_lit, zw] at *; omega) | (simp only [s1, s2, s3] at *; contradiction)))
            show (¬ (1 : Int32) = 0 → mx g (d + 6) kX12_stone 28 [.ref 48, .int (p0), .int (p1), .int (0)] [] (zq_mu (zq_ma (zq_ma M 2 (upd (M 2) (Int32.toNatClampNeg (M 1 3)) p0)) 3 (upd (M 3) (Int32.toNatClampNeg (M 1 3)) p1)) 1 3 ((M 1 3) + 1)) Qm) ∧ ((1 : Int32) = 0 → Qm (some (.int (-2))) (zq_mu (zq_ma (zq_ma M 2 (upd (M 2) (Int32.toNatClampNeg (M 1 3)) p0)) 3 (upd (M 3) (Int32.toNatClampNeg (M 1 3)) p1)) 1 3 ((M 1 3) + 1)))
            refine ⟨fun _ => ?_, fun q21 => absurd q21 (by decide)⟩
            refine c_X12_stone28 (n := (M 48 0)) (p := (M 50)) rfl rfl (by (simp only [n_lt, n_le, n_eq, n_add, n_sub, n_mul, n_neg, n_lit, zw] at *; omega)) (by (simp only [n_lt, n_le, n_eq, n_add, n_sub, n_mul, n_neg, n_lit, zw] at *; omega)) (fun k22 => by exfalso; (first | (simp only [n_lt, n_le, n_eq, n_add, n_sub, n_mul, n_neg, n_lit, zw] at *; omega) | (simp only [s1, s2, s3] at *; contradiction))) (fun k23 => ?_)
            refine mx_go 200 zq_t143 ?_
            show (((M 48 0) : Int32) ≤ ((M 48 0) : Int32) → (¬ ((M 48 0) : Int32) = (10 : Int32) → vp_in (M 48 0) 10 ∧ vp_in (M 48 0) 10 ∧ Qm (some (.int (((M 48 0) + 1) - 1))) (zq_mu (zq_ma (zq_ma (zq_mu (zq_ma (zq_ma M 2 (upd (M 2) (Int32.toNatClampNeg (M 1 3)) p0)) 3 (upd (M 3) (Int32.toNatClampNeg (M 1 3)) p1)) 1 3 ((M 1 3) + 1)) 49 (upd (M 49) (Int32.toNatClampNeg (M 48 0)) p0)) 50 (upd (M 50) (Int32.toNatClampNeg (M 48 0)) p1)) 48 0 ((M 48 0) + 1))) ∧ (((M 48 0) : Int32) = (10 : Int32) → Qm (some (.int (-4))) (zq_mu (zq_ma (zq_ma M 2 (upd (M 2) (Int32.toNatClampNeg (M 1 3)) p0)) 3 (upd (M 3) (Int32.toNatClampNeg (M 1 3)) p1)) 1 3 ((M 1 3) + 1)))) ∧ (¬ ((M 48 0) : Int32) ≤ ((M 48 0) : Int32) → vp_in (M 48 0) 10 ∧ (¬ (((M 50) (Int32.toNatClampNeg (M 48 0))) : Int32) = (p1 : Int32) → mx g (d + 6) kX12_stone 28 [.ref 48, .int (p0), .int (p1), .int (((M 48 0) + 1))] [] (zq_mu (zq_ma (zq_ma M 2 (upd (M 2) (Int32.toNatClampNeg (M 1 3)) p0)) 3 (upd (M 3) (Int32.toNatClampNeg (M 1 3)) p1)) 1 3 ((M 1 3) + 1)) Qm) ∧ ((((M 50) (Int32.toNatClampNeg (M 48 0))) : Int32) = (p1 : Int32) → Qm (some (.int (-3))) (zq_mu (zq_ma (zq_ma M 2 (upd (M 2) (Int32.toNatClampNeg (M 1 3)) p0)) 3 (upd (M 3) (Int32.toNatClampNeg (M 1 3)) p1)) 1 3 ((M 1 3) + 1))))
            refine ⟨fun q24 => ?_, fun q24 => by exfalso; (first | (simp only [n_lt, n_le, n_eq, n_add, n_sub, n_mul, n_neg, n_lit, zw] at *; omega) | (simp only [s1, s2, s3] at *; contradiction))⟩
            refine ⟨fun q25 => ?_, fun q25 => by exfalso; (first | (simp only [n_lt, n_le, n_eq, n_add, n_sub, n_mul, n_neg, n_lit, zw] at *; omega) | (simp only [s1, s2, s3] at *; contradiction))⟩
            refine ⟨(n_in (by (first | (simp only [n_lt, n_le, n_eq, n_add, n_sub, n_mul, n_neg, n_lit, zw] at *; omega) | (simp only [s1, s2, s3] at *; contradiction))) (by (first | (simp only [n_lt, n_le, n_eq, n_add, n_sub, n_mul, n_neg, n_lit, zw] at *; omega) | (simp only [s1, s2, s3] at *; contradiction)))), ?_⟩
            refine ⟨(n_in (by (first | (simp only [n_lt, n_le, n_eq, n_add, n_sub, n_mul, n_neg, n_lit, zw] at *; omega) | (simp only [s1, s2, s3] at *; contradiction))) (by (first | (simp only [n_lt, n_le, n_eq, n_add, n_sub, n_mul, n_neg, n_lit, zw] at *; omega) | (simp only [s1, s2, s3] at *; contradiction)))), ?_⟩
            refine hQm _ _ ⟨by first | rfl | simp only [s1, s2, s3, n_pred], ?_⟩
            exact ⟨gS_put (n := M 1 3) (a := p0) (b := p1) hS (by (simp only [n_lt, n_le, n_eq, n_add, n_sub, n_mul, n_neg, n_lit, zw] at *; omega)) (by (simp only [n_lt, n_le, n_eq, n_add, n_sub, n_mul, n_neg, n_lit, zw] at *; omega)) (by (simp only [n_lt, n_le, n_eq, n_add, n_sub, n_mul, n_neg, n_lit, zw] at *; omega)) (by (simp only [n_lt, n_le, n_eq, n_add, n_sub, n_mul, n_neg, n_lit, zw] at *; omega)) (by (simp only [n_lt, n_le, n_eq, n_add, n_sub, n_mul, n_neg, n_lit, zw] at *; omega)), hN, hH, gT_grow (s := M 1 3) (s2 := M 1 3 + 1) hT (by rw [n_suc s4 (by (simp only [n_lt, n_le, n_eq, n_add, n_sub, n_mul, n_neg, n_lit, zw] at *; omega))]; omega), hP, gI_grow (ns := M 1 3) (ns2 := M 1 3 + 1) hI (by rw [n_suc s4 (by (simp only [n_lt, n_le, n_eq, n_add, n_sub, n_mul, n_neg, n_lit, zw] at *; omega))]; omega) (Int.le_refl _) (Int.le_refl _) (Int.le_refl _) (Int.le_refl _), hE, hF, hX, hV⟩
          · refine hQ12 _ _ ?_
            show Qx (some (.int (-4))) M
            refine hQx _ _ ⟨(-4), rfl, ?_⟩
            refine mx_q (fun Qm hQm => ?_)
            refine mx_go 200 zq_t143 ?_
            show mx g (d + 5) kX12_in 0 [.ref 48, .int (p0), .int (1), .int (99)] [] M _
            refine c_X12_in (fun k14 k15 => ?_) (fun k16 => by exfalso; (first | (simp only [n_lt, n_le, n_eq, n_add, n_sub, n_mul, n_neg, n_lit, zw] at *; omega) | (simp only [s1, s2, s3] at *; contradiction)))
            show ((1 : Int32) = 0 → Qm (some (.int (-2))) M) ∧ (¬ (1 : Int32) = 0 → mx g (d + 5) kX12_in 0 [.ref 48, .int (p1), .int (0), .int (4095)] [] M _)
            refine ⟨fun q17 => absurd q17 (by decide), fun _ => ?_⟩
            refine c_X12_in (fun k18 k19 => ?_) (fun k20 => by exfalso; (first | (simp only [n_lt, n_le, n_eq, n_add, n_sub, n_mul, n_neg, n_lit, zw] at *; omega) | (simp only [s1, s2, s3] at *; contradiction)))
            show (¬ (1 : Int32) = 0 → mx g (d + 6) kX12_stone 28 [.ref 48, .int (p0), .int (p1), .int (0)] [] M Qm) ∧ ((1 : Int32) = 0 → Qm (some (.int (-2))) M)
            refine ⟨fun _ => ?_, fun q21 => absurd q21 (by decide)⟩
            refine c_X12_stone28 (n := (M 48 0)) (p := (M 50)) rfl rfl (by (simp only [n_lt, n_le, n_eq, n_add, n_sub, n_mul, n_neg, n_lit, zw] at *; omega)) (by (simp only [n_lt, n_le, n_eq, n_add, n_sub, n_mul, n_neg, n_lit, zw] at *; omega)) (fun k22 => by exfalso; (first | (simp only [n_lt, n_le, n_eq, n_add, n_sub, n_mul, n_neg, n_lit, zw] at *; omega) | (simp only [s1, s2, s3] at *; contradiction))) (fun k23 => ?_)
            refine mx_go 200 zq_t143 ?_
            show (((M 48 0) : Int32) ≤ ((M 48 0) : Int32) → (¬ ((M 48 0) : Int32) = (10 : Int32) → vp_in (M 48 0) 10 ∧ vp_in (M 48 0) 10 ∧ Qm (some (.int (((M 48 0) + 1) - 1))) (zq_mu (zq_ma (zq_ma M 49 (upd (M 49) (Int32.toNatClampNeg (M 48 0)) p0)) 50 (upd (M 50) (Int32.toNatClampNeg (M 48 0)) p1)) 48 0 ((M 48 0) + 1))) ∧ (((M 48 0) : Int32) = (10 : Int32) → Qm (some (.int (-4))) M)) ∧ (¬ ((M 48 0) : Int32) ≤ ((M 48 0) : Int32) → vp_in (M 48 0) 10 ∧ (¬ (((M 50) (Int32.toNatClampNeg (M 48 0))) : Int32) = (p1 : Int32) → mx g (d + 6) kX12_stone 28 [.ref 48, .int (p0), .int (p1), .int (((M 48 0) + 1))] [] M Qm) ∧ ((((M 50) (Int32.toNatClampNeg (M 48 0))) : Int32) = (p1 : Int32) → Qm (some (.int (-3))) M))
            refine ⟨fun q24 => ?_, fun q24 => by exfalso; (first | (simp only [n_lt, n_le, n_eq, n_add, n_sub, n_mul, n_neg, n_lit, zw] at *; omega) | (simp only [s1, s2, s3] at *; contradiction))⟩
            refine ⟨fun q25 => by exfalso; (first | (simp only [n_lt, n_le, n_eq, n_add, n_sub, n_mul, n_neg, n_lit, zw] at *; omega) | (simp only [s1, s2, s3] at *; contradiction)), fun q25 => ?_⟩
            refine hQm _ _ ⟨by first | rfl | simp only [s1, s2, s3, n_pred], ?_⟩
            exact hR
      · show (¬ (0 : Int32) = 0 → mx g (d + 5) kX7_someAt 0 [.ref 1, .int (p1), .null] [] M _) ∧ ((0 : Int32) = 0 → Qx (some (.int (-2))) M)
        refine ⟨fun q14 => absurd q14 (by decide), fun _ => ?_⟩
        refine hQx _ _ ⟨(-2), rfl, ?_⟩
        refine mx_q (fun Qm hQm => ?_)
        refine mx_go 200 zq_t143 ?_
        show mx g (d + 5) kX12_in 0 [.ref 48, .int (p0), .int (1), .int (99)] [] M _
        refine c_X12_in (fun k15 k16 => ?_) (fun k17 => by exfalso; (first | (simp only [n_lt, n_le, n_eq, n_add, n_sub, n_mul, n_neg, n_lit, zw] at *; omega) | (simp only [s1, s2, s3] at *; contradiction)))
        show ((1 : Int32) = 0 → Qm (some (.int (-2))) M) ∧ (¬ (1 : Int32) = 0 → mx g (d + 5) kX12_in 0 [.ref 48, .int (p1), .int (0), .int (4095)] [] M _)
        refine ⟨fun q18 => absurd q18 (by decide), fun _ => ?_⟩
        refine c_X12_in (fun k19 k20 => by exfalso; (first | (simp only [n_lt, n_le, n_eq, n_add, n_sub, n_mul, n_neg, n_lit, zw] at *; omega) | (simp only [s1, s2, s3] at *; contradiction))) (fun k21 => ?_)
        show (¬ (0 : Int32) = 0 → mx g (d + 6) kX12_stone 28 [.ref 48, .int (p0), .int (p1), .int (0)] [] M Qm) ∧ ((0 : Int32) = 0 → Qm (some (.int (-2))) M)
        refine ⟨fun q22 => absurd q22 (by decide), fun _ => ?_⟩
        refine hQm _ _ ⟨by first | rfl | simp only [s1, s2, s3, n_pred], ?_⟩
        exact hR

def pb (b : Int64) (k : Int32) : Int32 := Int64.toInt32 (b >>> (Int32.toInt64 (8 * k) &&& 63)) &&& 255
theorem pb_ref {b : Int64} {k : Int32} : Int64.toInt32 ((b >>> (Int32.toInt64 (8 * k) &&& 63)) &&& 255) = pb b k := Int64.toInt32_and _ _
theorem n_and {x : Int32} : 0 ≤ (x &&& 255).toInt ∧ (x &&& 255).toInt ≤ 255 := by
  have e : (x &&& 255).toBitVec.toNat = x.toBitVec.toNat &&& 255 := by
    rw [Int32.toBitVec_and, BitVec.toNat_and]; rfl
  have h := Nat.and_le_right (n := x.toBitVec.toNat) (m := 255)
  have t : (x &&& 255).toInt = ((x &&& 255).toBitVec.toNat : Int) := by
    show (x &&& 255).toBitVec.toInt = _
    rw [BitVec.toInt_eq_toNat_of_lt (by rw [e]; omega)]
  rw [t, e]
  omega
def fdF (t : Nat → Int32) (n m : Int) (b : Int64) (j : Nat) : Int32 := if n ≤ (j : Int) ∧ (j : Int) < n + m then pb b (nI (j - n.toNat)) else t j
theorem c_X5_append18 {g : zq_G} {d : Nat} {M : zq_M} {Q : Option Value → zq_M → Prop} {p n : Int32} {t : Nat → Int32} {b : Int64} (hn : M 18 5 = n) (ht : M 21 = t) (a1 : 1 ≤ p.toInt) (a2 : p.toInt ≤ 8) (n1 : 0 ≤ n.toInt) (n2 : n.toInt + p.toInt ≤ 160) (h : ∀ N : zq_M, (∀ j, N 21 j = fdF t n.toInt p.toInt b j) → Q (some (.int (n + p))) (zq_mu (mv [21] N M) 18 5 (n + p))) : mx g d kX5_append 18 [.ref 18, .int p, .long b, .null, .int 0] [] M Q := by
  subst hn ht
  refine mx_wf (fun x : Int32 => [.ref 18, .int p, .long b, .null, .int x]) (fun x M' => 0 ≤ x.toInt ∧ x.toInt ≤ p.toInt ∧ fr (fL [21]) M M' ∧ ∀ j, M' 21 j = fdF (M 21) (M 18 5).toInt x.toInt b j) (fun x => (p.toInt - x.toInt).toNat) ?_ 0 M ⟨by decide, by rw [n_0]; omega, fr_rfl, fun j => by unfold fdF; rw [if_neg (by rw [n_0]; omega)]⟩
  intro x M' ⟨i1, i2, i3, i4⟩ ih
  have e5 : M' 18 5 = M 18 5 := i3 18 5 rfl
  refine mx_go 60 zq_t29 ?_
  show ((p : Int32) ≤ (x : Int32) → Q (some (.int ((M' 18 5) + p))) (zq_mu M' 18 5 ((M' 18 5) + p))) ∧ (¬ (p : Int32) ≤ (x : Int32) → vp_in ((M' 18 5) + x) 160 ∧ mx g (d) kX5_append 18 [.ref 18, .int (p), .long (b), .null, .int ((x + 1))] [] (zq_ma M' 21 (upd (M' 21) (Int32.toNatClampNeg ((M' 18 5) + x)) ((Int64.toInt32 (b >>> (Int32.toInt64 (8 * x) &&& 63))) &&& 255))) Q)
  refine ⟨fun q => ?_, fun q => ?_⟩
  · rw [n_le] at q
    rw [e5, fr_mv i3]
    refine h M' (fun j => ?_)
    rw [i4 j, show x.toInt = p.toInt by omega]
  · rw [n_le] at q
    have e := n_up (n := p) i1 (by omega)
    have ix : (M' 18 5 + x).toInt = (M 18 5).toInt + x.toInt := by rw [e5, n_add, zw_id (by omega) (by omega)]
    refine ⟨n_in (by omega) (by omega), ih (x + 1) _ (by omega) ⟨by omega, by omega, fr_ma i3 (fun _ => rfl), fun j => ?_⟩⟩
    show upd (M' 21) _ (pb b x) j = _
    by_cases c : j = (M' 18 5 + x).toNatClampNeg
    · rw [c, upd_eq, n_cl, ix]
      unfold fdF
      rw [if_pos (by omega)]
      congr 1
      rw [show ((M 18 5).toInt + x.toInt).toNat - (M 18 5).toInt.toNat = x.toInt.toNat by omega]
      exact n_of i1
    · rw [upd_ne c, i4 j]
      rw [n_cl] at c
      unfold fdF
      by_cases c2 : (M 18 5).toInt ≤ (j : Int) ∧ (j : Int) < (M 18 5).toInt + x.toInt
      · rw [if_pos c2, if_pos (by omega)]
      · rw [if_neg c2, if_neg (by omega)]
theorem c_X12_feed32 {g : zq_G} {d : Nat} {M : zq_M} {Q : Option Value → zq_M → Prop} {p n : Int32} {t : Nat → Int32} {b : Int64} (hn : M 48 13 = n) (ht : M 57 = t) (a1 : 1 ≤ p.toInt) (a2 : p.toInt ≤ 8) (n1 : 0 ≤ n.toInt) (n2 : n.toInt + p.toInt ≤ 160) (h : ∀ N : zq_M, (∀ j, N 57 j = fdF t n.toInt p.toInt b j) → Q (some (.int (n + p))) (zq_mu (mv [57] N M) 48 13 (n + p))) : mx g d kX12_feed 32 [.ref 48, .int p, .long b, .null, .int 0] [] M Q := by
  subst hn ht
  refine mx_wf (fun x : Int32 => [.ref 48, .int p, .long b, .null, .int x]) (fun x M' => 0 ≤ x.toInt ∧ x.toInt ≤ p.toInt ∧ fr (fF [57] 48 13) M M' ∧ M' 48 13 = M 48 13 + x ∧ ∀ j, M' 57 j = fdF (M 57) (M 48 13).toInt x.toInt b j) (fun x => (p.toInt - x.toInt).toNat) ?_ 0 M ⟨by decide, by rw [n_0]; omega, fr_rfl, by simp, fun j => by unfold fdF; rw [if_neg (by rw [n_0]; omega)]⟩
  intro x M' ⟨i1, i2, i3, i5, i4⟩ ih
  refine mx_go 60 zq_t150 ?_
  show ((p : Int32) ≤ (x : Int32) → Q (some (.int (M' 48 13))) M') ∧ (¬ (p : Int32) ≤ (x : Int32) → vp_in (M' 48 13) 160 ∧ mx g (d) kX12_feed 32 [.ref 48, .int (p), .long (b), .null, .int ((x + 1))] [] (zq_mu (zq_ma M' 57 (upd (M' 57) (Int32.toNatClampNeg (M' 48 13)) (Int64.toInt32 ((b >>> (Int32.toInt64 (8 * x) &&& 63)) &&& 255)))) 48 13 ((M' 48 13) + 1)) Q)
  refine ⟨fun q => ?_, fun q => ?_⟩
  · rw [n_le] at q
    obtain rfl : x = p := (n_eq _ _).mpr (by omega)
    have hm := fF_mv i3 (by decide)
    rw [i5] at hm ⊢
    rw [hm]
    exact h M' i4
  · rw [n_le] at q
    have e := n_up (n := p) i1 (by omega)
    have ix : (M' 48 13).toInt = (M 48 13).toInt + x.toInt := by rw [i5, n_add, zw_id (by omega) (by omega)]
    refine ⟨n_in (by omega) (by omega), ih (x + 1) _ (by omega) ⟨by omega, by omega, fr_mu (fr_ma i3 (fun _ => rfl)) rfl, ?_, fun j => ?_⟩⟩
    · show M' 48 13 + 1 = _
      rw [i5, Int32.add_assoc]
    · rw [pb_ref]
      show upd (M' 57) _ (pb b x) j = _
      by_cases c : j = (M' 48 13).toNatClampNeg
      · rw [c, upd_eq, n_cl, ix]
        unfold fdF
        rw [if_pos (by omega)]
        congr 1
        rw [show ((M 48 13).toInt + x.toInt).toNat - (M 48 13).toInt.toNat = x.toInt.toNat by omega]
        exact n_of i1
      · rw [upd_ne c, i4 j]
        rw [n_cl] at c
        unfold fdF
        by_cases c2 : (M 48 13).toInt ≤ (j : Int) ∧ (j : Int) < (M 48 13).toInt + x.toInt
        · rw [if_pos c2, if_pos (by omega)]
        · rw [if_neg c2, if_neg (by omega)]
theorem gF_feed {n n' p : Int32} {t t' f f' : Nat → Int32} {b : Int64} (h : gF n n' t t') (a1 : 1 ≤ p.toInt) (a2 : p.toInt ≤ 8) (n2 : n.toInt + p.toInt ≤ 160) (hf : ∀ j, f j = fdF t n.toInt p.toInt b j) (hf' : ∀ j, f' j = fdF t' n'.toInt p.toInt b j) : gF (n + p) (n' + p) f f' := by
  obtain ⟨rfl, rfl, h3, h4, h5⟩ := h
  have e : (n' + p).toInt = n'.toInt + p.toInt := by rw [n_add, zw_id (by omega) (by omega)]
  refine ⟨rfl, funext fun j => (hf' j).trans (hf j).symm, by omega, by omega, fun i => ?_⟩
  rw [hf i]
  unfold fdF
  split
  · exact n_and
  · exact h5 i
set_option maxHeartbeats 4000000 in
theorem op_feed {g : zq_G} {d : Nat} {M : zq_M} {p0 : Int32} {p1 : Int64} (hR : RR M) : pri g (d + 6) kX11_feed kX12_feed [.ref 0, .int (p0), .long (p1), .null] [.ref 48, .int (p0), .long (p1), .null, .null] M := by
  obtain ⟨hS, hN, hH, hT, hP, hI, hE, hF, hX, hV⟩ := id hR
  obtain ⟨f1, f2, f3, f4, f5⟩ := id hF
  refine mx_q (fun Qx hQx => ?_)
  refine mx_go 200 zq_t97 ?_
  show ((p0 : Int32) < (1 : Int32) → Qx (some (.int (-2))) M) ∧ (¬ (p0 : Int32) < (1 : Int32) → ((p0 : Int32) ≤ (8 : Int32) → mx g (d + 5) kX5_append 0 [.ref 18, .int (p0), .long (p1), .null, .null] [] M _) ∧ (¬ (p0 : Int32) ≤ (8 : Int32) → Qx (some (.int (-2))) M))
  refine ⟨fun q1 => ?_, fun q1 => ?_⟩
  · refine hQx _ _ ⟨(-2), rfl, ?_⟩
    refine mx_q (fun Qm hQm => ?_)
    refine mx_go 200 zq_t150 ?_
    show mx g (d + 5) kX12_in 0 [.ref 48, .int (p0), .int (1), .int (8)] [] M _
    refine c_X12_in (fun k2 k3 => by exfalso; (simp only [n_lt, n_le, n_eq, n_add, n_sub, n_mul, n_neg, n_lit, zw] at *; omega)) (fun k4 => ?_)
    show (¬ (0 : Int32) = 0 → ((((M 48 13) + p0) : Int32) ≤ (160 : Int32) → mx g (d + 6) kX12_feed 32 [.ref 48, .int (p0), .long (p1), .null, .int (0)] [] M Qm) ∧ (¬ (((M 48 13) + p0) : Int32) ≤ (160 : Int32) → Qm (some (.int (-4))) M)) ∧ ((0 : Int32) = 0 → Qm (some (.int (-2))) M)
    refine ⟨fun q5 => absurd q5 (by decide), fun _ => ?_⟩
    refine hQm _ _ ⟨by first | rfl | simp only [f1, f2, n_pred], ?_⟩
    exact hR
  · refine ⟨fun q2 => ?_, fun q2 => ?_⟩
    · refine mx_q (fun Q3 hQ3 => ?_)
      refine mx_go 200 zq_t29 ?_
      show ((((M 18 5) + p0) : Int32) ≤ (160 : Int32) → mx g (d + 5) kX5_append 18 [.ref 18, .int (p0), .long (p1), .null, .int (0)] [] M Q3) ∧ (¬ (((M 18 5) + p0) : Int32) ≤ (160 : Int32) → Q3 (some (.int (-4))) M)
      refine ⟨fun q4 => ?_, fun q4 => ?_⟩
      · refine c_X5_append18 (n := (M 18 5)) (t := (M 21)) rfl rfl (by (simp only [n_lt, n_le, n_eq, n_add, n_sub, n_mul, n_neg, n_lit, zw] at *; omega)) (by (simp only [n_lt, n_le, n_eq, n_add, n_sub, n_mul, n_neg, n_lit, zw] at *; omega)) (by (simp only [n_lt, n_le, n_eq, n_add, n_sub, n_mul, n_neg, n_lit, zw] at *; omega)) (by (simp only [n_lt, n_le, n_eq, n_add, n_sub, n_mul, n_neg, n_lit, zw] at *; omega)) (fun N5 u6 => ?_)
        refine hQ3 _ _ ?_
        show Qx (some (.int ((M 18 5) + p0))) (zq_mu (mv [21] N5 M) 18 5 ((M 18 5) + p0))
        refine hQx _ _ ⟨((M 18 5) + p0), rfl, ?_⟩
        refine mx_q (fun Qm hQm => ?_)
        refine mx_go 200 zq_t150 ?_
        show mx g (d + 5) kX12_in 0 [.ref 48, .int (p0), .int (1), .int (8)] [] (zq_mu (mv [21] N5 M) 18 5 ((M 18 5) + p0)) _
        refine c_X12_in (fun k7 k8 => ?_) (fun k9 => by exfalso; (simp only [n_lt, n_le, n_eq, n_add, n_sub, n_mul, n_neg, n_lit, zw] at *; omega))
        show (¬ (1 : Int32) = 0 → ((((M 48 13) + p0) : Int32) ≤ (160 : Int32) → mx g (d + 6) kX12_feed 32 [.ref 48, .int (p0), .long (p1), .null, .int (0)] [] (zq_mu (mv [21] N5 M) 18 5 ((M 18 5) + p0)) Qm) ∧ (¬ (((M 48 13) + p0) : Int32) ≤ (160 : Int32) → Qm (some (.int (-4))) (zq_mu (mv [21] N5 M) 18 5 ((M 18 5) + p0)))) ∧ ((1 : Int32) = 0 → Qm (some (.int (-2))) (zq_mu (mv [21] N5 M) 18 5 ((M 18 5) + p0)))
        refine ⟨fun _ => ?_, fun q10 => absurd q10 (by decide)⟩
        refine ⟨fun q11 => ?_, fun q11 => by exfalso; (simp only [n_lt, n_le, n_eq, n_add, n_sub, n_mul, n_neg, n_lit, zw] at *; omega)⟩
        refine c_X12_feed32 (n := (M 48 13)) (t := (M 57)) rfl rfl (by (simp only [n_lt, n_le, n_eq, n_add, n_sub, n_mul, n_neg, n_lit, zw] at *; omega)) (by (simp only [n_lt, n_le, n_eq, n_add, n_sub, n_mul, n_neg, n_lit, zw] at *; omega)) (by (simp only [n_lt, n_le, n_eq, n_add, n_sub, n_mul, n_neg, n_lit, zw] at *; omega)) (by (simp only [n_lt, n_le, n_eq, n_add, n_sub, n_mul, n_neg, n_lit, zw] at *; omega)) (fun N12 u13 => ?_)
        refine hQm _ _ ⟨by first | rfl | simp only [f1, f2, n_pred], ?_⟩
        exact ⟨hS, hN, hH, hT, hP, hI, hE, gF_feed (n := M 18 5) (p := p0) (b := p1) (t := M 21) (t' := M 57) (n' := M 48 13) hF (by (simp only [n_lt, n_le, n_eq, n_add, n_sub, n_mul, n_neg, n_lit, zw] at *; omega)) (by (simp only [n_lt, n_le, n_eq, n_add, n_sub, n_mul, n_neg, n_lit, zw] at *; omega)) (by (simp only [n_lt, n_le, n_eq, n_add, n_sub, n_mul, n_neg, n_lit, zw] at *; omega)) u6 u13, hX, hV⟩
      · refine hQ3 _ _ ?_
        show Qx (some (.int (-4))) M
        refine hQx _ _ ⟨(-4), rfl, ?_⟩
        refine mx_q (fun Qm hQm => ?_)
        refine mx_go 200 zq_t150 ?_
        show mx g (d + 5) kX12_in 0 [.ref 48, .int (p0), .int (1), .int (8)] [] M _
        refine c_X12_in (fun k7 k8 => ?_) (fun k9 => by exfalso; (simp only [n_lt, n_le, n_eq, n_add, n_sub, n_mul, n_neg, n_lit, zw] at *; omega))
        show (¬ (1 : Int32) = 0 → ((((M 48 13) + p0) : Int32) ≤ (160 : Int32) → mx g (d + 6) kX12_feed 32 [.ref 48, .int (p0), .long (p1), .null, .int (0)] [] M Qm) ∧ (¬ (((M 48 13) + p0) : Int32) ≤ (160 : Int32) → Qm (some (.int (-4))) M)) ∧ ((1 : Int32) = 0 → Qm (some (.int (-2))) M)
        refine ⟨fun _ => ?_, fun q10 => absurd q10 (by decide)⟩
        refine ⟨fun q11 => by exfalso; (simp only [n_lt, n_le, n_eq, n_add, n_sub, n_mul, n_neg, n_lit, zw] at *; omega), fun q11 => ?_⟩
        refine hQm _ _ ⟨by first | rfl | simp only [f1, f2, n_pred], ?_⟩
        exact hR
    · refine hQx _ _ ⟨(-2), rfl, ?_⟩
      refine mx_q (fun Qm hQm => ?_)
      refine mx_go 200 zq_t150 ?_
      show mx g (d + 5) kX12_in 0 [.ref 48, .int (p0), .int (1), .int (8)] [] M _
      refine c_X12_in (fun k7 k8 => by exfalso; (simp only [n_lt, n_le, n_eq, n_add, n_sub, n_mul, n_neg, n_lit, zw] at *; omega)) (fun k9 => ?_)
      show (¬ (0 : Int32) = 0 → ((((M 48 13) + p0) : Int32) ≤ (160 : Int32) → mx g (d + 6) kX12_feed 32 [.ref 48, .int (p0), .long (p1), .null, .int (0)] [] M Qm) ∧ (¬ (((M 48 13) + p0) : Int32) ≤ (160 : Int32) → Qm (some (.int (-4))) M)) ∧ ((0 : Int32) = 0 → Qm (some (.int (-2))) M)
      refine ⟨fun q10 => absurd q10 (by decide), fun _ => ?_⟩
      refine hQm _ _ ⟨by first | rfl | simp only [f1, f2, n_pred], ?_⟩
      exact hR

