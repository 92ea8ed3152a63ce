theorem c_X6_renew {g : zq_G} {d : Nat} {M : zq_M} {Q : Option Value → zq_M → Prop} {p0 p1 p2 : Int32} (a1 : 0 ≤ p0.toInt) (a2 : p0.toInt ≤ 3) (b1 : 0 ≤ p2.toInt) (b2 : p2.toInt ≤ 40) (h : ∀ N : zq_M, (∀ j : Nat, (j : Int) < 40 * p0.toInt ∨ 40 * p0.toInt + p2.toInt ≤ j → N 45 j = M 45 j) → (∀ j : Nat, 40 * p0.toInt ≤ j → (j : Int) < 40 * p0.toInt + p2.toInt → N 45 j = 0) → Q none (mv [45] N (zq_ma (zq_ma M 46 (upd (M 46) p0.toNatClampNeg p1)) 47 (upd (M 47) p0.toNatClampNeg p2)))) : mx g d kX6_renew 0 [.ref 44, .int p0, .int p1, .int p2, .null] [] M Q := by
  refine mx_go 60 zq_t51 ?_
  show vp_in p0 4 ∧ vp_in p0 4 ∧ mx g (d) kX6_renew 17 [.ref 44, .int (p0), .null, .int (p2), .int (0)] [] (zq_ma (zq_ma M 46 (upd (M 46) (Int32.toNatClampNeg p0) p1)) 47 (upd (M 47) (Int32.toNatClampNeg p0) p2)) Q
  refine ⟨n_in a1 (by omega), n_in a1 (by omega), ?_⟩
  generalize hM : (zq_ma (zq_ma M 46 (upd (M 46) p0.toNatClampNeg p1)) 47 (upd (M 47) p0.toNatClampNeg p2)) = M0 at h ⊢
  have e45 : M0 45 = M 45 := by rw [← hM]; rfl
  refine mx_wf (fun x : Int32 => [.ref 44, .int p0, .null, .int p2, .int x]) (fun x M' => 0 ≤ x.toInt ∧ x.toInt ≤ p2.toInt ∧ fr (fL [45]) M0 M' ∧ (∀ j : Nat, (j : Int) < 40 * p0.toInt ∨ 40 * p0.toInt + x.toInt ≤ j → M' 45 j = M 45 j) ∧ ∀ j : Nat, 40 * p0.toInt ≤ j → (j : Int) < 40 * p0.toInt + x.toInt → M' 45 j = 0) (fun x => (p2.toInt - x.toInt).toNat) ?_ 0 M0 ⟨by decide, by rw [n_0]; omega, fr_rfl, fun j _ => by rw [e45], fun j q r => by rw [n_0] at r; omega⟩
  intro x M' ⟨i1, i2, i3, i4, i5⟩ ih
  refine mx_go 60 zq_t51 ?_
  show ((p2 : Int32) ≤ (x : Int32) → Q none M') ∧ (¬ (p2 : Int32) ≤ (x : Int32) → vp_in ((p0 * 40) + x) 160 ∧ mx g (d) kX6_renew 17 [.ref 44, .int (p0), .null, .int (p2), .int ((x + 1))] [] (zq_ma M' 45 (upd (M' 45) (Int32.toNatClampNeg ((p0 * 40) + x)) 0)) Q)
  refine ⟨fun q => ?_, fun q => ?_⟩
  · rw [n_le] at q
    rw [fr_mv i3]
    exact h M' (fun j hj => i4 j (by omega)) (fun j hj hk => i5 j hj (by omega))
  · rw [n_le] at q
    have e := n_up (n := p2) i1 (by omega)
    have ix : (p0 * 40 + x).toInt = 40 * p0.toInt + x.toInt := by rw [Int32.mul_comm]; exact n_ix a1 a2 i1 (by omega)
    refine ⟨n_ix2 a1 a2 i1 (by omega), ih (x + 1) _ (by omega) ⟨by omega, by omega, fr_ma i3 (fun _ => rfl), fun j hj => ?_, fun j hj hk => ?_⟩⟩
    · show upd (M' 45) _ _ j = M 45 j
      rw [upd_ne (by rw [n_cl]; omega)]
      exact i4 j (by omega)
    · show upd (M' 45) _ _ j = 0
      by_cases c : j = (p0 * 40 + x).toNatClampNeg
      · rw [c, upd_eq]
      · rw [upd_ne c]
        rw [n_cl] at c
        exact i5 j hj (by omega)
theorem c_X12_sheet67 {g : zq_G} {d : Nat} {M : zq_M} {Q : Option Value → zq_M → Prop} {p0 : Int32} (a1 : 0 ≤ p0.toInt) (a2 : p0.toInt ≤ 3) (h : ∀ N : zq_M, (∀ j : Nat, (j : Int) < 40 * p0.toInt ∨ 40 * p0.toInt + 40 ≤ j → N 77 j = M 77 j) → (∀ j : Nat, 40 * p0.toInt ≤ j → (j : Int) < 40 * p0.toInt + 40 → N 77 j = 0) → Q (some (.int 1)) (mv [77] N M)) : mx g d kX12_sheet 67 [.ref 48, .int p0, .null, .null, .int 0] [] M Q := by
  refine mx_wf (fun x : Int32 => [.ref 48, .int p0, .null, .null, .int x]) (fun x M' => 0 ≤ x.toInt ∧ x.toInt ≤ 40 ∧ fr (fL [77]) M M' ∧ (∀ j : Nat, (j : Int) < 40 * p0.toInt ∨ 40 * p0.toInt + x.toInt ≤ j → M' 77 j = M 77 j) ∧ ∀ j : Nat, 40 * p0.toInt ≤ j → (j : Int) < 40 * p0.toInt + x.toInt → M' 77 j = 0) (fun x => (40 - x.toInt).toNat) ?_ 0 M ⟨by decide, by decide, fr_rfl, fun j _ => rfl, fun j q r => by rw [n_0] at r; omega⟩
  intro x M' ⟨i1, i2, i3, i4, i5⟩ ih
  have e40 : (40 : Int32).toInt = 40 := rfl
  refine mx_go 60 zq_t224 ?_
  show ((40 : Int32) ≤ (x : Int32) → Q (some (.int 1)) M') ∧ (¬ (40 : Int32) ≤ (x : Int32) → vp_in ((40 * p0) + x) 160 ∧ mx g (d) kX12_sheet 67 [.ref 48, .int (p0), .null, .null, .int ((x + 1))] [] (zq_ma M' 77 (upd (M' 77) (Int32.toNatClampNeg ((40 * p0) + x)) 0)) Q)
  refine ⟨fun q => ?_, fun q => ?_⟩
  · rw [n_le, e40] at q
    rw [fr_mv i3]
    exact h M' (fun j hj => i4 j (by omega)) (fun j hj hk => i5 j hj (by omega))
  · rw [n_le, e40] at q
    have e := n_up (n := 40) i1 (by omega)
    have ix := n_ix a1 a2 i1 (by omega : x.toInt < 40)
    refine ⟨n_ix1 a1 a2 i1 (by omega), ih (x + 1) _ (by omega) ⟨by omega, by omega, fr_ma i3 (fun _ => rfl), fun j hj => ?_, fun j hj hk => ?_⟩⟩
    · show upd (M' 77) _ _ j = M 77 j
      rw [upd_ne (by rw [n_cl]; omega)]
      exact i4 j (by omega)
    · show upd (M' 77) _ _ j = 0
      by_cases c : j = (40 * p0 + x).toNatClampNeg
      · rw [c, upd_eq]
      · rw [upd_ne c]
        rw [n_cl] at c
        exact i5 j hj (by omega)
theorem gE_sheet {so so' si si' ce it ce2 it2 : Nat → Int32} {a b c : Int32} (h : gE so so' si si' ce it) (a1 : 0 ≤ a.toInt) (a2 : a.toInt ≤ 3) (b1 : -1 ≤ b.toInt) (b2 : b.toInt ≤ 2) (c1 : 0 ≤ c.toInt) (c2 : c.toInt ≤ 40) (o1 : ∀ j : Nat, (j : Int) < 40 * a.toInt ∨ 40 * a.toInt + c.toInt ≤ j → ce2 j = ce j) (z1 : ∀ j : Nat, 40 * a.toInt ≤ j → (j : Int) < 40 * a.toInt + c.toInt → ce2 j = 0) (o2 : ∀ j : Nat, (j : Int) < 40 * a.toInt ∨ 40 * a.toInt + 40 ≤ j → it2 j = it j) (z2 : ∀ j : Nat, 40 * a.toInt ≤ j → (j : Int) < 40 * a.toInt + 40 → it2 j = 0) : gE (upd so a.toNatClampNeg b) (upd so' a.toNatClampNeg b) (upd si a.toNatClampNeg c) (upd si' a.toNatClampNeg c) ce2 it2 := by
  obtain ⟨rfl, rfl, e3, e4, e5⟩ := h
  refine ⟨rfl, rfl, fun s hs => ?_, fun s hs => ?_, fun s i hs hi => ?_⟩
  · unfold upd; split
    · exact ⟨b1, b2⟩
    · exact e3 s hs
  · unfold upd; split
    · exact ⟨c1, c2⟩
    · exact e4 s hs
  · unfold upd at hi
    split at hi
    · next q =>
      rw [n_cl] at q
      rw [z1 _ (by omega) (by omega), z2 _ (by omega) (by omega)]
    · next q =>
      rw [n_cl] at q
      have := e4 s hs
      rw [o1 _ (by omega), o2 _ (by omega)]
      exact e5 s i hs hi
set_option maxHeartbeats 4000000 in
theorem op_sheet {g : zq_G} {d : Nat} {M : zq_M} {p0 p1 p2 : Int32} (hR : RR M) : pri g (d + 6) kX11_sheet kX12_sheet [.ref 0, .int (p0), .int (p1), .int (p2)] [.ref 48, .int (p0), .int (p1), .int (p2), .null] M := by
  obtain ⟨hS, hN, hH, hT, hP, hI, hE, hF, hX, hV⟩ := id hR
  obtain ⟨e1, e2, e3, e4, e5⟩ := id hE
  refine mx_q (fun Qx hQx => ?_)
  refine mx_go 200 zq_t120 ?_
  show mx g (d + 5) kX11_isSheet 0 [.int (p0)] [] M _
  refine c_X11_isSheet (fun k1 k2 => ?_) (fun k3 => ?_)
  · show ((1 : Int32) = 0 → Qx (some (.int (-2))) M) ∧ (¬ (1 : Int32) = 0 → ((p1 : Int32) = ((-1) : Int32) → (¬ (p1 : Int32) = ((-1) : Int32) → ((p2 : Int32) ≤ (40 : Int32) → (0 ≤ (p2 : Int32) → mx g (d + 5) kX6_renew 0 [.ref 44, .int (p0), .int (p1), .int (p2), .null] [] M _) ∧ (¬ 0 ≤ (p2 : Int32) → Qx (some (.int (-14))) M)) ∧ (¬ (p2 : Int32) ≤ (40 : Int32) → Qx (some (.int (-2))) M)) ∧ ((p1 : Int32) = ((-1) : Int32) → mx g (d + 5) kX6_drop 0 [.ref 44, .int (p0)] [] M _)) ∧ (¬ (p1 : Int32) = ((-1) : Int32) → mx g (d + 5) kX11_isSort 0 [.int (p1)] [] M _))
    refine ⟨fun q4 => absurd q4 (by decide), fun _ => ?_⟩
    refine ⟨fun q5 => ?_, fun q5 => ?_⟩
    · refine ⟨fun q6 => by exfalso; (simp only [n_lt, n_le, n_eq, n_add, n_sub, n_mul, n_neg, n_lit, zw] at *; omega), fun q6 => ?_⟩
      refine mx_q (fun Q7 hQ7 => ?_)
      refine mx_go 200 zq_t50 ?_
      show vp_in p0 4 ∧ vp_in p0 4 ∧ Q7 none (zq_ma (zq_ma M 46 (upd (M 46) (Int32.toNatClampNeg p0) (-1))) 47 (upd (M 47) (Int32.toNatClampNeg p0) 0))
      refine ⟨(n_in (by (simp only [n_lt, n_le, n_eq, n_add, n_sub, n_mul, n_neg, n_lit, zw] at *; omega)) (by (simp only [n_lt, n_le, n_eq, n_add, n_sub, n_mul, n_neg, n_lit, zw] at *; omega))), ?_⟩
      refine ⟨(n_in (by (simp only [n_lt, n_le, n_eq, n_add, n_sub, n_mul, n_neg, n_lit, zw] at *; omega)) (by (simp only [n_lt, n_le, n_eq, n_add, n_sub, n_mul, n_neg, n_lit, zw] at *; omega))), ?_⟩
      refine hQ7 _ _ ?_
      show Qx (some (.int 1)) (zq_ma (zq_ma M 46 (upd (M 46) (Int32.toNatClampNeg p0) (-1))) 47 (upd (M 47) (Int32.toNatClampNeg p0) 0))
      refine hQx _ _ ⟨1, rfl, ?_⟩
      refine mx_q (fun Qm hQm => ?_)
      refine mx_go 200 zq_t224 ?_
      show mx g (d + 5) kX12_isSheet 0 [.ref 48, .int (p0)] [] (zq_ma (zq_ma M 46 (upd (M 46) (Int32.toNatClampNeg p0) (-1))) 47 (upd (M 47) (Int32.toNatClampNeg p0) 0)) _
      refine c_X12_isSheet (fun k8 k9 => ?_) (fun k10 => by exfalso; (simp only [n_lt, n_le, n_eq, n_add, n_sub, n_mul, n_neg, n_lit, zw] at *; omega))
      show ((1 : Int32) = 0 → Qm (some (.int (-2))) (zq_ma (zq_ma M 46 (upd (M 46) (Int32.toNatClampNeg p0) (-1))) 47 (upd (M 47) (Int32.toNatClampNeg p0) 0))) ∧ (¬ (1 : Int32) = 0 → mx g (d + 5) kX12_in 0 [.ref 48, .int (p1), .int ((-1)), .int (2)] [] (zq_ma (zq_ma M 46 (upd (M 46) (Int32.toNatClampNeg p0) (-1))) 47 (upd (M 47) (Int32.toNatClampNeg p0) 0)) _)
      refine ⟨fun q11 => absurd q11 (by decide), fun _ => ?_⟩
      refine c_X12_in (fun k12 k13 => ?_) (fun k14 => by exfalso; (simp only [n_lt, n_le, n_eq, n_add, n_sub, n_mul, n_neg, n_lit, zw] at *; omega))
      show ((1 : Int32) = 0 → Qm (some (.int (-2))) (zq_ma (zq_ma M 46 (upd (M 46) (Int32.toNatClampNeg p0) (-1))) 47 (upd (M 47) (Int32.toNatClampNeg p0) 0))) ∧ (¬ (1 : Int32) = 0 → ((p1 : Int32) < 0 → ((p1 : Int32) < 0 → vp_in p0 4 ∧ (0 ≤ (p1 : Int32) → vp_in p0 4 ∧ mx g (d + 6) kX12_sheet 67 [.ref 48, .int (p0), .null, .null, .int (0)] [] (zq_ma (zq_ma (zq_ma (zq_ma M 46 (upd (M 46) (Int32.toNatClampNeg p0) (-1))) 47 (upd (M 47) (Int32.toNatClampNeg p0) 0)) 75 (upd (M 75) (Int32.toNatClampNeg p0) p1)) 76 (upd (M 76) (Int32.toNatClampNeg p0) p2)) Qm) ∧ (¬ 0 ≤ (p1 : Int32) → vp_in p0 4 ∧ mx g (d + 6) kX12_sheet 67 [.ref 48, .int (p0), .null, .null, .int (0)] [] (zq_ma (zq_ma (zq_ma (zq_ma M 46 (upd (M 46) (Int32.toNatClampNeg p0) (-1))) 47 (upd (M 47) (Int32.toNatClampNeg p0) 0)) 75 (upd (M 75) (Int32.toNatClampNeg p0) p1)) 76 (upd (M 76) (Int32.toNatClampNeg p0) 0)) Qm)) ∧ (¬ (p1 : Int32) < 0 → (0 ≤ (p2 : Int32) → vp_in p0 4 ∧ (0 ≤ (p1 : Int32) → vp_in p0 4 ∧ mx g (d + 6) kX12_sheet 67 [.ref 48, .int (p0), .null, .null, .int (0)] [] (zq_ma (zq_ma (zq_ma (zq_ma M 46 (upd (M 46) (Int32.toNatClampNeg p0) (-1))) 47 (upd (M 47) (Int32.toNatClampNeg p0) 0)) 75 (upd (M 75) (Int32.toNatClampNeg p0) p1)) 76 (upd (M 76) (Int32.toNatClampNeg p0) p2)) Qm) ∧ (¬ 0 ≤ (p1 : Int32) → vp_in p0 4 ∧ mx g (d + 6) kX12_sheet 67 [.ref 48, .int (p0), .null, .null, .int (0)] [] (zq_ma (zq_ma (zq_ma (zq_ma M 46 (upd (M 46) (Int32.toNatClampNeg p0) (-1))) 47 (upd (M 47) (Int32.toNatClampNeg p0) 0)) 75 (upd (M 75) (Int32.toNatClampNeg p0) p1)) 76 (upd (M 76) (Int32.toNatClampNeg p0) 0)) Qm)) ∧ (¬ 0 ≤ (p2 : Int32) → Qm (some (.int (-14))) (zq_ma (zq_ma M 46 (upd (M 46) (Int32.toNatClampNeg p0) (-1))) 47 (upd (M 47) (Int32.toNatClampNeg p0) 0))))) ∧ (¬ (p1 : Int32) < 0 → ((p2 : Int32) ≤ (40 : Int32) → ((p1 : Int32) < 0 → vp_in p0 4 ∧ (0 ≤ (p1 : Int32) → vp_in p0 4 ∧ mx g (d + 6) kX12_sheet 67 [.ref 48, .int (p0), .null, .null, .int (0)] [] (zq_ma (zq_ma (zq_ma (zq_ma M 46 (upd (M 46) (Int32.toNatClampNeg p0) (-1))) 47 (upd (M 47) (Int32.toNatClampNeg p0) 0)) 75 (upd (M 75) (Int32.toNatClampNeg p0) p1)) 76 (upd (M 76) (Int32.toNatClampNeg p0) p2)) Qm) ∧ (¬ 0 ≤ (p1 : Int32) → vp_in p0 4 ∧ mx g (d + 6) kX12_sheet 67 [.ref 48, .int (p0), .null, .null, .int (0)] [] (zq_ma (zq_ma (zq_ma (zq_ma M 46 (upd (M 46) (Int32.toNatClampNeg p0) (-1))) 47 (upd (M 47) (Int32.toNatClampNeg p0) 0)) 75 (upd (M 75) (Int32.toNatClampNeg p0) p1)) 76 (upd (M 76) (Int32.toNatClampNeg p0) 0)) Qm)) ∧ (¬ (p1 : Int32) < 0 → (0 ≤ (p2 : Int32) → vp_in p0 4 ∧ (0 ≤ (p1 : Int32) → vp_in p0 4 ∧ mx g (d + 6) kX12_sheet 67 [.ref 48, .int (p0), .null, .null, .int (0)] [] (zq_ma (zq_ma (zq_ma (zq_ma M 46 (upd (M 46) (Int32.toNatClampNeg p0) (-1))) 47 (upd (M 47) (Int32.toNatClampNeg p0) 0)) 75 (upd (M 75) (Int32.toNatClampNeg p0) p1)) 76 (upd (M 76) (Int32.toNatClampNeg p0) p2)) Qm) ∧ (¬ 0 ≤ (p1 : Int32) → vp_in p0 4 ∧ mx g (d + 6) kX12_sheet 67 [.ref 48, .int (p0), .null, .null, .int (0)] [] (zq_ma (zq_ma (zq_ma (zq_ma M 46 (upd (M 46) (Int32.toNatClampNeg p0) (-1))) 47 (upd (M 47) (Int32.toNatClampNeg p0) 0)) 75 (upd (M 75) (Int32.toNatClampNeg p0) p1)) 76 (upd (M 76) (Int32.toNatClampNeg p0) 0)) Qm)) ∧ (¬ 0 ≤ (p2 : Int32) → Qm (some (.int (-14))) (zq_ma (zq_ma M 46 (upd (M 46) (Int32.toNatClampNeg p0) (-1))) 47 (upd (M 47) (Int32.toNatClampNeg p0) 0))))) ∧ (¬ (p2 : Int32) ≤ (40 : Int32) → Qm (some (.int (-2))) (zq_ma (zq_ma M 46 (upd (M 46) (Int32.toNatClampNeg p0) (-1))) 47 (upd (M 47) (Int32.toNatClampNeg p0) 0)))))
      refine ⟨fun q15 => absurd q15 (by decide), fun _ => ?_⟩
      refine ⟨fun q16 => ?_, fun q16 => by exfalso; (simp only [n_lt, n_le, n_eq, n_add, n_sub, n_mul, n_neg, n_lit, zw] at *; omega)⟩
      refine ⟨fun q17 => ?_, fun q17 => by exfalso; (simp only [n_lt, n_le, n_eq, n_add, n_sub, n_mul, n_neg, n_lit, zw] at *; omega)⟩
      refine ⟨(n_in (by (simp only [n_lt, n_le, n_eq, n_add, n_sub, n_mul, n_neg, n_lit, zw] at *; omega)) (by (simp only [n_lt, n_le, n_eq, n_add, n_sub, n_mul, n_neg, n_lit, zw] at *; omega))), ?_⟩
      refine ⟨fun q18 => by exfalso; (simp only [n_lt, n_le, n_eq, n_add, n_sub, n_mul, n_neg, n_lit, zw] at *; omega), fun q18 => ?_⟩
      refine ⟨(n_in (by (simp only [n_lt, n_le, n_eq, n_add, n_sub, n_mul, n_neg, n_lit, zw] at *; omega)) (by (simp only [n_lt, n_le, n_eq, n_add, n_sub, n_mul, n_neg, n_lit, zw] at *; omega))), ?_⟩
      refine c_X12_sheet67 (by (simp only [n_lt, n_le, n_eq, n_add, n_sub, n_mul, n_neg, n_lit, zw] at *; omega)) (by (simp only [n_lt, n_le, n_eq, n_add, n_sub, n_mul, n_neg, n_lit, zw] at *; omega)) (fun N19 u20 u21 => ?_)
      refine hQm _ _ ⟨by first | rfl | simp only [e1, e2], ?_⟩
      obtain rfl : p1 = -1 := by (simp only [n_lt, n_le, n_eq, n_add, n_sub, n_mul, n_neg, n_lit, zw] at *; omega)
      exact ⟨hS, hN, hH, hT, hP, hI, gE_sheet (a := p0) (b := (-1)) (c := 0) hE (by (simp only [n_lt, n_le, n_eq, n_add, n_sub, n_mul, n_neg, n_lit, zw] at *; omega)) (by (simp only [n_lt, n_le, n_eq, n_add, n_sub, n_mul, n_neg, n_lit, zw] at *; omega)) (by decide) (by decide) (by decide) (by decide) (fun _ _ => rfl) (fun j q r => by simp only [n_lit] at r; omega) u20 u21, hF, hX, hV⟩
    · refine c_X11_isSort (fun k8 k9 => ?_) (fun k10 => ?_)
      · show (¬ (1 : Int32) = 0 → (¬ (p1 : Int32) = ((-1) : Int32) → ((p2 : Int32) ≤ (40 : Int32) → (0 ≤ (p2 : Int32) → mx g (d + 5) kX6_renew 0 [.ref 44, .int (p0), .int (p1), .int (p2), .null] [] M _) ∧ (¬ 0 ≤ (p2 : Int32) → Qx (some (.int (-14))) M)) ∧ (¬ (p2 : Int32) ≤ (40 : Int32) → Qx (some (.int (-2))) M)) ∧ ((p1 : Int32) = ((-1) : Int32) → mx g (d + 5) kX6_drop 0 [.ref 44, .int (p0)] [] M _)) ∧ ((1 : Int32) = 0 → Qx (some (.int (-2))) M)
        refine ⟨fun _ => ?_, fun q11 => absurd q11 (by decide)⟩
        refine ⟨fun q12 => ?_, fun q12 => by exfalso; (simp only [n_lt, n_le, n_eq, n_add, n_sub, n_mul, n_neg, n_lit, zw] at *; omega)⟩
        refine ⟨fun q13 => ?_, fun q13 => ?_⟩
        · refine ⟨fun q14 => ?_, fun q14 => ?_⟩
          · refine c_X6_renew (by (simp only [n_lt, n_le, n_eq, n_add, n_sub, n_mul, n_neg, n_lit, zw] at *; omega)) (by (simp only [n_lt, n_le, n_eq, n_add, n_sub, n_mul, n_neg, n_lit, zw] at *; omega)) (by (simp only [n_lt, n_le, n_eq, n_add, n_sub, n_mul, n_neg, n_lit, zw] at *; omega)) (by (simp only [n_lt, n_le, n_eq, n_add, n_sub, n_mul, n_neg, n_lit, zw] at *; omega)) (fun N15 u16 u17 => ?_)
            show Qx (some (.int 1)) (mv [45] N15 (zq_ma (zq_ma M 46 (upd (M 46) (Int32.toNatClampNeg p0) p1)) 47 (upd (M 47) (Int32.toNatClampNeg p0) p2)))
            refine hQx _ _ ⟨1, rfl, ?_⟩
            refine mx_q (fun Qm hQm => ?_)
            refine mx_go 200 zq_t224 ?_
            show mx g (d + 5) kX12_isSheet 0 [.ref 48, .int (p0)] [] (mv [45] N15 (zq_ma (zq_ma M 46 (upd (M 46) (Int32.toNatClampNeg p0) p1)) 47 (upd (M 47) (Int32.toNatClampNeg p0) p2))) _
            refine c_X12_isSheet (fun k18 k19 => ?_) (fun k20 => by exfalso; (simp only [n_lt, n_le, n_eq, n_add, n_sub, n_mul, n_neg, n_lit, zw] at *; omega))
            show ((1 : Int32) = 0 → Qm (some (.int (-2))) (mv [45] N15 (zq_ma (zq_ma M 46 (upd (M 46) (Int32.toNatClampNeg p0) p1)) 47 (upd (M 47) (Int32.toNatClampNeg p0) p2)))) ∧ (¬ (1 : Int32) = 0 → mx g (d + 5) kX12_in 0 [.ref 48, .int (p1), .int ((-1)), .int (2)] [] (mv [45] N15 (zq_ma (zq_ma M 46 (upd (M 46) (Int32.toNatClampNeg p0) p1)) 47 (upd (M 47) (Int32.toNatClampNeg p0) p2))) _)
            refine ⟨fun q21 => absurd q21 (by decide), fun _ => ?_⟩
            refine c_X12_in (fun k22 k23 => ?_) (fun k24 => by exfalso; (simp only [n_lt, n_le, n_eq, n_add, n_sub, n_mul, n_neg, n_lit, zw] at *; omega))
            show ((1 : Int32) = 0 → Qm (some (.int (-2))) (mv [45] N15 (zq_ma (zq_ma M 46 (upd (M 46) (Int32.toNatClampNeg p0) p1)) 47 (upd (M 47) (Int32.toNatClampNeg p0) p2)))) ∧ (¬ (1 : Int32) = 0 → ((p1 : Int32) < 0 → ((p1 : Int32) < 0 → vp_in p0 4 ∧ (0 ≤ (p1 : Int32) → vp_in p0 4 ∧ mx g (d + 6) kX12_sheet 67 [.ref 48, .int (p0), .null, .null, .int (0)] [] (zq_ma (zq_ma (mv [45] N15 (zq_ma (zq_ma M 46 (upd (M 46) (Int32.toNatClampNeg p0) p1)) 47 (upd (M 47) (Int32.toNatClampNeg p0) p2))) 75 (upd (M 75) (Int32.toNatClampNeg p0) p1)) 76 (upd (M 76) (Int32.toNatClampNeg p0) p2)) Qm) ∧ (¬ 0 ≤ (p1 : Int32) → vp_in p0 4 ∧ mx g (d + 6) kX12_sheet 67 [.ref 48, .int (p0), .null, .null, .int (0)] [] (zq_ma (zq_ma (mv [45] N15 (zq_ma (zq_ma M 46 (upd (M 46) (Int32.toNatClampNeg p0) p1)) 47 (upd (M 47) (Int32.toNatClampNeg p0) p2))) 75 (upd (M 75) (Int32.toNatClampNeg p0) p1)) 76 (upd (M 76) (Int32.toNatClampNeg p0) 0)) Qm)) ∧ (¬ (p1 : Int32) < 0 → (0 ≤ (p2 : Int32) → vp_in p0 4 ∧ (0 ≤ (p1 : Int32) → vp_in p0 4 ∧ mx g (d + 6) kX12_sheet 67 [.ref 48, .int (p0), .null, .null, .int (0)] [] (zq_ma (zq_ma (mv [45] N15 (zq_ma (zq_ma M 46 (upd (M 46) (Int32.toNatClampNeg p0) p1)) 47 (upd (M 47) (Int32.toNatClampNeg p0) p2))) 75 (upd (M 75) (Int32.toNatClampNeg p0) p1)) 76 (upd (M 76) (Int32.toNatClampNeg p0) p2)) Qm) ∧ (¬ 0 ≤ (p1 : Int32) → vp_in p0 4 ∧ mx g (d + 6) kX12_sheet 67 [.ref 48, .int (p0), .null, .null, .int (0)] [] (zq_ma (zq_ma (mv [45] N15 (zq_ma (zq_ma M 46 (upd (M 46) (Int32.toNatClampNeg p0) p1)) 47 (upd (M 47) (Int32.toNatClampNeg p0) p2))) 75 (upd (M 75) (Int32.toNatClampNeg p0) p1)) 76 (upd (M 76) (Int32.toNatClampNeg p0) 0)) Qm)) ∧ (¬ 0 ≤ (p2 : Int32) → Qm (some (.int (-14))) (mv [45] N15 (zq_ma (zq_ma M 46 (upd (M 46) (Int32.toNatClampNeg p0) p1)) 47 (upd (M 47) (Int32.toNatClampNeg p0) p2)))))) ∧ (¬ (p1 : Int32) < 0 → ((p2 : Int32) ≤ (40 : Int32) → ((p1 : Int32) < 0 → vp_in p0 4 ∧ (0 ≤ (p1 : Int32) → vp_in p0 4 ∧ mx g (d + 6) kX12_sheet 67 [.ref 48, .int (p0), .null, .null, .int (0)] [] (zq_ma (zq_ma (mv [45] N15 (zq_ma (zq_ma M 46 (upd (M 46) (Int32.toNatClampNeg p0) p1)) 47 (upd (M 47) (Int32.toNatClampNeg p0) p2))) 75 (upd (M 75) (Int32.toNatClampNeg p0) p1)) 76 (upd (M 76) (Int32.toNatClampNeg p0) p2)) Qm) ∧ (¬ 0 ≤ (p1 : Int32) → vp_in p0 4 ∧ mx g (d + 6) kX12_sheet 67 [.ref 48, .int (p0), .null, .null, .int (0)] [] (zq_ma (zq_ma (mv [45] N15 (zq_ma (zq_ma M 46 (upd (M 46) (Int32.toNatClampNeg p0) p1)) 47 (upd (M 47) (Int32.toNatClampNeg p0) p2))) 75 (upd (M 75) (Int32.toNatClampNeg p0) p1)) 76 (upd (M 76) (Int32.toNatClampNeg p0) 0)) Qm)) ∧ (¬ (p1 : Int32) < 0 → (0 ≤ (p2 : Int32) → vp_in p0 4 ∧ (0 ≤ (p1 : Int32) → vp_in p0 4 ∧ mx g (d + 6) kX12_sheet 67 [.ref 48, .int (p0), .null, .null, .int (0)] [] (zq_ma (zq_ma (mv [45] N15 (zq_ma (zq_ma M 46 (upd (M 46) (Int32.toNatClampNeg p0) p1)) 47 (upd (M 47) (Int32.toNatClampNeg p0) p2))) 75 (upd (M 75) (Int32.toNatClampNeg p0) p1)) 76 (upd (M 76) (Int32.toNatClampNeg p0) p2)) Qm) ∧ (¬ 0 ≤ (p1 : Int32) → vp_in p0 4 ∧ mx g (d + 6) kX12_sheet 67 [.ref 48, .int (p0), .null, .null, .int (0)] [] (zq_ma (zq_ma (mv [45] N15 (zq_ma (zq_ma M 46 (upd (M 46) (Int32.toNatClampNeg p0) p1)) 47 (upd (M 47) (Int32.toNatClampNeg p0) p2))) 75 (upd (M 75) (Int32.toNatClampNeg p0) p1)) 76 (upd (M 76) (Int32.toNatClampNeg p0) 0)) Qm)) ∧ (¬ 0 ≤ (p2 : Int32) → Qm (some (.int (-14))) (mv [45] N15 (zq_ma (zq_ma M 46 (upd (M 46) (Int32.toNatClampNeg p0) p1)) 47 (upd (M 47) (Int32.toNatClampNeg p0) p2)))))) ∧ (¬ (p2 : Int32) ≤ (40 : Int32) → Qm (some (.int (-2))) (mv [45] N15 (zq_ma (zq_ma M 46 (upd (M 46) (Int32.toNatClampNeg p0) p1)) 47 (upd (M 47) (Int32.toNatClampNeg p0) p2))))))
            refine ⟨fun q25 => absurd q25 (by decide), fun _ => ?_⟩
            refine ⟨fun q26 => by exfalso; (simp only [n_lt, n_le, n_eq, n_add, n_sub, n_mul, n_neg, n_lit, zw] at *; omega), fun q26 => ?_⟩
            refine ⟨fun q27 => ?_, fun q27 => by exfalso; (simp only [n_lt, n_le, n_eq, n_add, n_sub, n_mul, n_neg, n_lit, zw] at *; omega)⟩
            refine ⟨fun q28 => by exfalso; (simp only [n_lt, n_le, n_eq, n_add, n_sub, n_mul, n_neg, n_lit, zw] at *; omega), fun q28 => ?_⟩
            refine ⟨fun q29 => ?_, fun q29 => by exfalso; (simp only [n_lt, n_le, n_eq, n_add, n_sub, n_mul, n_neg, n_lit, zw] at *; omega)⟩
            refine ⟨(n_in (by (simp only [n_lt, n_le, n_eq, n_add, n_sub, n_mul, n_neg, n_lit, zw] at *; omega)) (by (simp only [n_lt, n_le, n_eq, n_add, n_sub, n_mul, n_neg, n_lit, zw] at *; omega))), ?_⟩
            refine ⟨fun q30 => ?_, fun q30 => by exfalso; (simp only [n_lt, n_le, n_eq, n_add, n_sub, n_mul, n_neg, n_lit, zw] at *; omega)⟩
            refine ⟨(n_in (by (simp only [n_lt, n_le, n_eq, n_add, n_sub, n_mul, n_neg, n_lit, zw] at *; omega)) (by (simp only [n_lt, n_le, n_eq, n_add, n_sub, n_mul, n_neg, n_lit, zw] at *; omega))), ?_⟩
            refine c_X12_sheet67 (by (simp only [n_lt, n_le, n_eq, n_add, n_sub, n_mul, n_neg, n_lit, zw] at *; omega)) (by (simp only [n_lt, n_le, n_eq, n_add, n_sub, n_mul, n_neg, n_lit, zw] at *; omega)) (fun N31 u32 u33 => ?_)
            refine hQm _ _ ⟨by first | rfl | simp only [e1, e2], ?_⟩
            exact ⟨hS, hN, hH, hT, hP, hI, gE_sheet (a := p0) (b := p1) (c := p2) hE (by (simp only [n_lt, n_le, n_eq, n_add, n_sub, n_mul, n_neg, n_lit, zw] at *; omega)) (by (simp only [n_lt, n_le, n_eq, n_add, n_sub, n_mul, n_neg, n_lit, zw] at *; omega)) (by (simp only [n_lt, n_le, n_eq, n_add, n_sub, n_mul, n_neg, n_lit, zw] at *; omega)) (by (simp only [n_lt, n_le, n_eq, n_add, n_sub, n_mul, n_neg, n_lit, zw] at *; omega)) (by (simp only [n_lt, n_le, n_eq, n_add, n_sub, n_mul, n_neg, n_lit, zw] at *; omega)) (by (simp only [n_lt, n_le, n_eq, n_add, n_sub, n_mul, n_neg, n_lit, zw] at *; omega)) u16 u17 u32 u33, hF, hX, hV⟩
          · refine hQx _ _ ⟨(-14), rfl, ?_⟩
            refine mx_q (fun Qm hQm => ?_)
            refine mx_go 200 zq_t224 ?_
            show mx g (d + 5) kX12_isSheet 0 [.ref 48, .int (p0)] [] M _
            refine c_X12_isSheet (fun k18 k19 => ?_) (fun k20 => by exfalso; (simp only [n_lt, n_le, n_eq, n_add, n_sub, n_mul, n_neg, n_lit, zw] at *; omega))
            show ((1 : Int32) = 0 → Qm (some (.int (-2))) M) ∧ (¬ (1 : Int32) = 0 → mx g (d + 5) kX12_in 0 [.ref 48, .int (p1), .int ((-1)), .int (2)] [] M _)
            refine ⟨fun q21 => absurd q21 (by decide), fun _ => ?_⟩
            refine c_X12_in (fun k22 k23 => ?_) (fun k24 => by exfalso; (simp only [n_lt, n_le, n_eq, n_add, n_sub, n_mul, n_neg, n_lit, zw] at *; omega))
            show ((1 : Int32) = 0 → Qm (some (.int (-2))) M) ∧ (¬ (1 : Int32) = 0 → ((p1 : Int32) < 0 → ((p1 : Int32) < 0 → vp_in p0 4 ∧ (0 ≤ (p1 : Int32) → vp_in p0 4 ∧ mx g (d + 6) kX12_sheet 67 [.ref 48, .int (p0), .null, .null, .int (0)] [] (zq_ma (zq_ma M 75 (upd (M 75) (Int32.toNatClampNeg p0) p1)) 76 (upd (M 76) (Int32.toNatClampNeg p0) p2)) Qm) ∧ (¬ 0 ≤ (p1 : Int32) → vp_in p0 4 ∧ mx g (d + 6) kX12_sheet 67 [.ref 48, .int (p0), .null, .null, .int (0)] [] (zq_ma (zq_ma M 75 (upd (M 75) (Int32.toNatClampNeg p0) p1)) 76 (upd (M 76) (Int32.toNatClampNeg p0) 0)) Qm)) ∧ (¬ (p1 : Int32) < 0 → (0 ≤ (p2 : Int32) → vp_in p0 4 ∧ (0 ≤ (p1 : Int32) → vp_in p0 4 ∧ mx g (d + 6) kX12_sheet 67 [.ref 48, .int (p0), .null, .null, .int (0)] [] (zq_ma (zq_ma M 75 (upd (M 75) (Int32.toNatClampNeg p0) p1)) 76 (upd (M 76) (Int32.toNatClampNeg p0) p2)) Qm) ∧ (¬ 0 ≤ (p1 : Int32) → vp_in p0 4 ∧ mx g (d + 6) kX12_sheet 67 [.ref 48, .int (p0), .null, .null, .int (0)] [] (zq_ma (zq_ma M 75 (upd (M 75) (Int32.toNatClampNeg p0) p1)) 76 (upd (M 76) (Int32.toNatClampNeg p0) 0)) Qm)) ∧ (¬ 0 ≤ (p2 : Int32) → Qm (some (.int (-14))) M))) ∧ (¬ (p1 : Int32) < 0 → ((p2 : Int32) ≤ (40 : Int32) → ((p1 : Int32) < 0 → vp_in p0 4 ∧ (0 ≤ (p1 : Int32) → vp_in p0 4 ∧ mx g (d + 6) kX12_sheet 67 [.ref 48, .int (p0), .null, .null, .int (0)] [] (zq_ma (zq_ma M 75 (upd (M 75) (Int32.toNatClampNeg p0) p1)) 76 (upd (M 76) (Int32.toNatClampNeg p0) p2)) Qm) ∧ (¬ 0 ≤ (p1 : Int32) → vp_in p0 4 ∧ mx g (d + 6) kX12_sheet 67 [.ref 48, .int (p0), .null, .null, .int (0)] [] (zq_ma (zq_ma M 75 (upd (M 75) (Int32.toNatClampNeg p0) p1)) 76 (upd (M 76) (Int32.toNatClampNeg p0) 0)) Qm)) ∧ (¬ (p1 : Int32) < 0 → (0 ≤ (p2 : Int32) → vp_in p0 4 ∧ (0 ≤ (p1 : Int32) → vp_in p0 4 ∧ mx g (d + 6) kX12_sheet 67 [.ref 48, .int (p0), .null, .null, .int (0)] [] (zq_ma (zq_ma M 75 (upd (M 75) (Int32.toNatClampNeg p0) p1)) 76 (upd (M 76) (Int32.toNatClampNeg p0) p2)) Qm) ∧ (¬ 0 ≤ (p1 : Int32) → vp_in p0 4 ∧ mx g (d + 6) kX12_sheet 67 [.ref 48, .int (p0), .null, .null, .int (0)] [] (zq_ma (zq_ma M 75 (upd (M 75) (Int32.toNatClampNeg p0) p1)) 76 (upd (M 76) (Int32.toNatClampNeg p0) 0)) Qm)) ∧ (¬ 0 ≤ (p2 : Int32) → Qm (some (.int (-14))) M))) ∧ (¬ (p2 : Int32) ≤ (40 : Int32) → Qm (some (.int (-2))) M)))
            refine ⟨fun q25 => absurd q25 (by decide), fun _ => ?_⟩
            refine ⟨fun q26 => by exfalso; (simp only [n_lt, n_le, n_eq, n_add, n_sub, n_mul, n_neg, n_lit, zw] at *; omega), fun q26 => ?_⟩
            refine ⟨fun q27 => ?_, fun q27 => by exfalso; (simp only [n_lt, n_le, n_eq, n_add, n_sub, n_mul, n_neg, n_lit, zw] at *; omega)⟩
            refine ⟨fun q28 => by exfalso; (simp only [n_lt, n_le, n_eq, n_add, n_sub, n_mul, n_neg, n_lit, zw] at *; omega), fun q28 => ?_⟩
            refine ⟨fun q29 => by exfalso; (simp only [n_lt, n_le, n_eq, n_add, n_sub, n_mul, n_neg, n_lit, zw] at *; omega), fun q29 => ?_⟩
            refine hQm _ _ ⟨by first | rfl | simp only [e1, e2], ?_⟩
            exact hR
        · refine hQx _ _ ⟨(-2), rfl, ?_⟩
          refine mx_q (fun Qm hQm => ?_)
          refine mx_go 200 zq_t224 ?_
          show mx g (d + 5) kX12_isSheet 0 [.ref 48, .int (p0)] [] M _
          refine c_X12_isSheet (fun k18 k19 => ?_) (fun k20 => by exfalso; (simp only [n_lt, n_le, n_eq, n_add, n_sub, n_mul, n_neg, n_lit, zw] at *; omega))
          show ((1 : Int32) = 0 → Qm (some (.int (-2))) M) ∧ (¬ (1 : Int32) = 0 → mx g (d + 5) kX12_in 0 [.ref 48, .int (p1), .int ((-1)), .int (2)] [] M _)
          refine ⟨fun q21 => absurd q21 (by decide), fun _ => ?_⟩
          refine c_X12_in (fun k22 k23 => ?_) (fun k24 => by exfalso; (simp only [n_lt, n_le, n_eq, n_add, n_sub, n_mul, n_neg, n_lit, zw] at *; omega))
          show ((1 : Int32) = 0 → Qm (some (.int (-2))) M) ∧ (¬ (1 : Int32) = 0 → ((p1 : Int32) < 0 → ((p1 : Int32) < 0 → vp_in p0 4 ∧ (0 ≤ (p1 : Int32) → vp_in p0 4 ∧ mx g (d + 6) kX12_sheet 67 [.ref 48, .int (p0), .null, .null, .int (0)] [] (zq_ma (zq_ma M 75 (upd (M 75) (Int32.toNatClampNeg p0) p1)) 76 (upd (M 76) (Int32.toNatClampNeg p0) p2)) Qm) ∧ (¬ 0 ≤ (p1 : Int32) → vp_in p0 4 ∧ mx g (d + 6) kX12_sheet 67 [.ref 48, .int (p0), .null, .null, .int (0)] [] (zq_ma (zq_ma M 75 (upd (M 75) (Int32.toNatClampNeg p0) p1)) 76 (upd (M 76) (Int32.toNatClampNeg p0) 0)) Qm)) ∧ (¬ (p1 : Int32) < 0 → (0 ≤ (p2 : Int32) → vp_in p0 4 ∧ (0 ≤ (p1 : Int32) → vp_in p0 4 ∧ mx g (d + 6) kX12_sheet 67 [.ref 48, .int (p0), .null, .null, .int (0)] [] (zq_ma (zq_ma M 75 (upd (M 75) (Int32.toNatClampNeg p0) p1)) 76 (upd (M 76) (Int32.toNatClampNeg p0) p2)) Qm) ∧ (¬ 0 ≤ (p1 : Int32) → vp_in p0 4 ∧ mx g (d + 6) kX12_sheet 67 [.ref 48, .int (p0), .null, .null, .int (0)] [] (zq_ma (zq_ma M 75 (upd (M 75) (Int32.toNatClampNeg p0) p1)) 76 (upd (M 76) (Int32.toNatClampNeg p0) 0)) Qm)) ∧ (¬ 0 ≤ (p2 : Int32) → Qm (some (.int (-14))) M))) ∧ (¬ (p1 : Int32) < 0 → ((p2 : Int32) ≤ (40 : Int32) → ((p1 : Int32) < 0 → vp_in p0 4 ∧ (0 ≤ (p1 : Int32) → vp_in p0 4 ∧ mx g (d + 6) kX12_sheet 67 [.ref 48, .int (p0), .null, .null, .int (0)] [] (zq_ma (zq_ma M 75 (upd (M 75) (Int32.toNatClampNeg p0) p1)) 76 (upd (M 76) (Int32.toNatClampNeg p0) p2)) Qm) ∧ (¬ 0 ≤ (p1 : Int32) → vp_in p0 4 ∧ mx g (d + 6) kX12_sheet 67 [.ref 48, .int (p0), .null, .null, .int (0)] [] (zq_ma (zq_ma M 75 (upd (M 75) (Int32.toNatClampNeg p0) p1)) 76 (upd (M 76) (Int32.toNatClampNeg p0) 0)) Qm)) ∧ (¬ (p1 : Int32) < 0 → (0 ≤ (p2 : Int32) → vp_in p0 4 ∧ (0 ≤ (p1 : Int32) → vp_in p0 4 ∧ mx g (d + 6) kX12_sheet 67 [.ref 48, .int (p0), .null, .null, .int (0)] [] (zq_ma (zq_ma M 75 (upd (M 75) (Int32.toNatClampNeg p0) p1)) 76 (upd (M 76) (Int32.toNatClampNeg p0) p2)) Qm) ∧ (¬ 0 ≤ (p1 : Int32) → vp_in p0 4 ∧ mx g (d + 6) kX12_sheet 67 [.ref 48, .int (p0), .null, .null, .int (0)] [] (zq_ma (zq_ma M 75 (upd (M 75) (Int32.toNatClampNeg p0) p1)) 76 (upd (M 76) (Int32.toNatClampNeg p0) 0)) Qm)) ∧ (¬ 0 ≤ (p2 : Int32) → Qm (some (.int (-14))) M))) ∧ (¬ (p2 : Int32) ≤ (40 : Int32) → Qm (some (.int (-2))) M)))
          refine ⟨fun q25 => absurd q25 (by decide), fun _ => ?_⟩
          refine ⟨fun q26 => by exfalso; (simp only [n_lt, n_le, n_eq, n_add, n_sub, n_mul, n_neg, n_lit, zw] at *; omega), fun q26 => ?_⟩
          refine ⟨fun q27 => by exfalso; (simp only [n_lt, n_le, n_eq, n_add, n_sub, n_mul, n_neg, n_lit, zw] at *; omega), fun q27 => ?_⟩
          refine hQm _ _ ⟨by first | rfl | simp only [e1, e2], ?_⟩
          exact hR
      · show (¬ (0 : Int32) = 0 → (¬ (p1 : Int32) = ((-1) : Int32) → ((p2 : Int32) ≤ (40 : Int32) → (0 ≤ (p2 : Int32) → mx g (d + 5) kX6_renew 0 [.ref 44, .int (p0), .int (p1), .int (p2), .null] [] M _) ∧ (¬ 0 ≤ (p2 : Int32) → Qx (some (.int (-14))) M)) ∧ (¬ (p2 : Int32) ≤ (40 : Int32) → Qx (some (.int (-2))) M)) ∧ ((p1 : Int32) = ((-1) : Int32) → mx g (d + 5) kX6_drop 0 [.ref 44, .int (p0)] [] M _)) ∧ ((0 : Int32) = 0 → Qx (some (.int (-2))) M)
        refine ⟨fun q18 => absurd q18 (by decide), fun _ => ?_⟩
        refine hQx _ _ ⟨(-2), rfl, ?_⟩
        refine mx_q (fun Qm hQm => ?_)
        refine mx_go 200 zq_t224 ?_
        show mx g (d + 5) kX12_isSheet 0 [.ref 48, .int (p0)] [] M _
        refine c_X12_isSheet (fun k19 k20 => ?_) (fun k21 => by exfalso; (simp only [n_lt, n_le, n_eq, n_add, n_sub, n_mul, n_neg, n_lit, zw] at *; omega))
        show ((1 : Int32) = 0 → Qm (some (.int (-2))) M) ∧ (¬ (1 : Int32) = 0 → mx g (d + 5) kX12_in 0 [.ref 48, .int (p1), .int ((-1)), .int (2)] [] M _)
        refine ⟨fun q22 => absurd q22 (by decide), fun _ => ?_⟩
        refine c_X12_in (fun k23 k24 => by exfalso; (simp only [n_lt, n_le, n_eq, n_add, n_sub, n_mul, n_neg, n_lit, zw] at *; omega)) (fun k25 => ?_)
        show ((0 : Int32) = 0 → Qm (some (.int (-2))) M) ∧ (¬ (0 : Int32) = 0 → ((p1 : Int32) < 0 → ((p1 : Int32) < 0 → vp_in p0 4 ∧ (0 ≤ (p1 : Int32) → vp_in p0 4 ∧ mx g (d + 6) kX12_sheet 67 [.ref 48, .int (p0), .null, .null, .int (0)] [] (zq_ma (zq_ma M 75 (upd (M 75) (Int32.toNatClampNeg p0) p1)) 76 (upd (M 76) (Int32.toNatClampNeg p0) p2)) Qm) ∧ (¬ 0 ≤ (p1 : Int32) → vp_in p0 4 ∧ mx g (d + 6) kX12_sheet 67 [.ref 48, .int (p0), .null, .null, .int (0)] [] (zq_ma (zq_ma M 75 (upd (M 75) (Int32.toNatClampNeg p0) p1)) 76 (upd (M 76) (Int32.toNatClampNeg p0) 0)) Qm)) ∧ (¬ (p1 : Int32) < 0 → (0 ≤ (p2 : Int32) → vp_in p0 4 ∧ (0 ≤ (p1 : Int32) → vp_in p0 4 ∧ mx g (d + 6) kX12_sheet 67 [.ref 48, .int (p0), .null, .null, .int (0)] [] (zq_ma (zq_ma M 75 (upd (M 75) (Int32.toNatClampNeg p0) p1)) 76 (upd (M 76) (Int32.toNatClampNeg p0) p2)) Qm) ∧ (¬ 0 ≤ (p1 : Int32) → vp_in p0 4 ∧ mx g (d + 6) kX12_sheet 67 [.ref 48, .int (p0), .null, .null, .int (0)] [] (zq_ma (zq_ma M 75 (upd (M 75) (Int32.toNatClampNeg p0) p1)) 76 (upd (M 76) (Int32.toNatClampNeg p0) 0)) Qm)) ∧ (¬ 0 ≤ (p2 : Int32) → Qm (some (.int (-14))) M))) ∧ (¬ (p1 : Int32) < 0 → ((p2 : Int32) ≤ (40 : Int32) → ((p1 : Int32) < 0 → vp_in p0 4 ∧ (0 ≤ (p1 : Int32) → vp_in p0 4 ∧ mx g (d + 6) kX12_sheet 67 [.ref 48, .int (p0), .null, .null, .int (0)] [] (zq_ma (zq_ma M 75 (upd (M 75) (Int32.toNatClampNeg p0) p1)) 76 (upd (M 76) (Int32.toNatClampNeg p0) p2)) Qm) ∧ (¬ 0 ≤ (p1 : Int32) → vp_in p0 4 ∧ mx g (d + 6) kX12_sheet 67 [.ref 48, .int (p0), .null, .null, .int (0)] [] (zq_ma (zq_ma M 75 (upd (M 75) (Int32.toNatClampNeg p0) p1)) 76 (upd (M 76) (Int32.toNatClampNeg p0) 0)) Qm)) ∧ (¬ (p1 : Int32) < 0 → (0 ≤ (p2 : Int32) → vp_in p0 4 ∧ (0 ≤ (p1 : Int32) → vp_in p0 4 ∧ mx g (d + 6) kX12_sheet 67 [.ref 48, .int (p0), .null, .null, .int (0)] [] (zq_ma (zq_ma M 75 (upd (M 75) (Int32.toNatClampNeg p0) p1)) 76 (upd (M 76) (Int32.toNatClampNeg p0) p2)) Qm) ∧ (¬ 0 ≤ (p1 : Int32) → vp_in p0 4 ∧ mx g (d + 6) kX12_sheet 67 [.ref 48, .int (p0), .null, .null, .int (0)] [] (zq_ma (zq_ma M 75 (upd (M 75) (Int32.toNatClampNeg p0) p1)) 76 (upd (M 76) (Int32.toNatClampNeg p0) 0)) Qm)) ∧ (¬ 0 ≤ (p2 : Int32) → Qm (some (.int (-14))) M))) ∧ (¬ (p2 : Int32) ≤ (40 : Int32) → Qm (some (.int (-2))) M)))
        refine ⟨fun _ => ?_, fun q26 => absurd q26 (by decide)⟩
        refine hQm _ _ ⟨by first | rfl | simp only [e1, e2], ?_⟩
        exact hR
  · show ((0 : Int32) = 0 → Qx (some (.int (-2))) M) ∧ (¬ (0 : Int32) = 0 → ((p1 : Int32) = ((-1) : Int32) → (¬ (p1 : Int32) = ((-1) : Int32) → ((p2 : Int32) ≤ (40 : Int32) → (0 ≤ (p2 : Int32) → mx g (d + 5) kX6_renew 0 [.ref 44, .int (p0), .int (p1), .int (p2), .null] [] M _) ∧ (¬ 0 ≤ (p2 : Int32) → Qx (some (.int (-14))) M)) ∧ (¬ (p2 : Int32) ≤ (40 : Int32) → Qx (some (.int (-2))) M)) ∧ ((p1 : Int32) = ((-1) : Int32) → mx g (d + 5) kX6_drop 0 [.ref 44, .int (p0)] [] M _)) ∧ (¬ (p1 : Int32) = ((-1) : Int32) → mx g (d + 5) kX11_isSort 0 [.int (p1)] [] M _))
    refine ⟨fun _ => ?_, fun q19 => absurd q19 (by decide)⟩
    refine hQx _ _ ⟨(-2), rfl, ?_⟩
    refine mx_q (fun Qm hQm => ?_)
    refine mx_go 200 zq_t224 ?_
    show mx g (d + 5) kX12_isSheet 0 [.ref 48, .int (p0)] [] M _
    refine c_X12_isSheet (fun k20 k21 => by exfalso; (simp only [n_lt, n_le, n_eq, n_add, n_sub, n_mul, n_neg, n_lit, zw] at *; omega)) (fun k22 => ?_)
    show ((0 : Int32) = 0 → Qm (some (.int (-2))) M) ∧ (¬ (0 : Int32) = 0 → mx g (d + 5) kX12_in 0 [.ref 48, .int (p1), .int ((-1)), .int (2)] [] M _)
    refine ⟨fun _ => ?_, fun q23 => absurd q23 (by decide)⟩
    refine hQm _ _ ⟨by first | rfl | simp only [e1, e2], ?_⟩
    exact hR

