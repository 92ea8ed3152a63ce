theorem n_mi1' {m : Int32} (h : 0 ≤ m.toInt) : (m + (-1)).toInt = m.toInt - 1 := by
  have := n_rng m
  rw [n_add, show (-1 : Int32).toInt = -1 by decide, zw_id (by omega) (by omega)]
  rfl
theorem wi_now {t x wi : Int32} (h : t = -1) (e : x = wi) : (0 ≤ t → t = wi) ∧ (¬ 0 ≤ t → x = wi) := ⟨fun z => absurd z (by rw [h]; decide), fun _ => e⟩
theorem wi_try {t x wi : Int32} (h : t = wi) (e : 0 ≤ wi.toInt) : (0 ≤ t → t = wi) ∧ (¬ 0 ≤ t → x = wi) := ⟨fun _ => h, fun z => absurd (by rw [h, n_le, n_0]; exact e) z⟩
theorem sq_fr {M M' : zq_M} {h s n wi : Int32} (hf : fr (fL sL) M M') : sq M' h s n wi = sq M h s n wi := by
  unfold sq
  rw [fr_ar hf 11 (fun _ => rfl), fr_ar hf 12 (fun _ => rfl), fr_ar hf 2 (fun _ => rfl), fr_ar hf 6 (fun _ => rfl), fr_ar hf 7 (fun _ => rfl), fr_ar hf 14 (fun _ => rfl), fr_ar hf 15 (fun _ => rfl), hf 13 5 rfl]
theorem sq_b {M : zq_M} {h s n wi : Int32} {p : Nat → Int32} (hR : R5p M p) (i1 : 0 ≤ wi.toInt) (i2 : wi.toInt ≤ 99) : 0 ≤ (sq M h s n wi).toInt ∧ (sq M h s n wi).toInt ≤ 19 := by
  obtain ⟨hS, hN, hH, hT, hX⟩ := hR
  have a := hH.2.2.2.2.2.2 h.toNatClampNeg
  have b := hS.2.2.2.2.2.1 s.toNatClampNeg
  exact sqZ_b a.1 a.2 b.1 b.2 i1 i2
def ndR (f : Int32 → Int32) (v : Int32) : Prop := (v = -1 ∧ ∀ w : Int32, 0 ≤ w.toInt → w.toInt ≤ 99 → ¬ 0 < f w) ∨ (0 ≤ v.toInt ∧ v.toInt ≤ 99 ∧ 0 < f v ∧ ∀ w : Int32, 0 ≤ w.toInt → w.toInt < v.toInt → ¬ 0 < f w)
theorem ndR_un {f : Int32 → Int32} {v v' : Int32} (h : ndR f v) (h' : ndR f v') : v' = v := by
  rcases h with ⟨h1, h2⟩ | ⟨h1, h2, h3, h4⟩ <;> rcases h' with ⟨g1, g2⟩ | ⟨g1, g2, g3, g4⟩
  · rw [h1, g1]
  · exact absurd g3 (h2 v' g1 g2)
  · exact absurd h3 (g2 v h1 h2)
  · rw [n_eq]
    by_cases c : v.toInt < v'.toInt
    · exact absurd h3 (g4 v h1 c)
    · by_cases c2 : v'.toInt < v.toInt
      · exact absurd g3 (h4 v' g1 c2)
      · omega
theorem c_X11_needs39 {g : zq_G} {d : Nat} {M : zq_M} {Q : Option Value → zq_M → Prop} {h s n : Int32} (hR : R5 M) (a1 : 0 ≤ h.toInt) (a2 : h.toInt < 8) (b1 : 0 ≤ s.toInt) (b2 : s.toInt < 10) (c1 : 0 ≤ n.toInt) (c2 : n.toInt < 60) (hq : ∀ (v : Int32) (N : zq_M), ndR (fun w => sq M h s n w) v → Q (some (.int v)) (mv [16, 17] N M)) : mx g (d + 4) kX11_needs 39 [.ref 0, .int h, .int s, .int n, .int 0] [] M Q := by
  have f99 : (99 : Int32).toInt = 99 := rfl
  refine mx_wf (fun x : Int32 => [.ref 0, .int h, .int s, .int n, .int x]) (fun x M' => 0 ≤ x.toInt ∧ x.toInt ≤ 100 ∧ fr (fL [16, 17]) M M' ∧ ∀ w : Int32, 0 ≤ w.toInt → w.toInt < x.toInt → ¬ 0 < sq M h s n w) (fun x => (100 - x.toInt).toNat) ?_ 0 M ⟨by decide, by decide, fr_rfl, fun w q r => by rw [n_0] at r; omega⟩
  intro x M' ⟨i1, i2, i3, i4⟩ ih
  refine mx_go 250 zq_t96 ?_
  show ((99 : Int32) < (x : Int32) → Q (some (.int (-1))) M') ∧ (¬ (99 : Int32) < (x : Int32) → mx g (d + 3) kX4_squares 0 [.ref 24, .int (h), .int (s), .int (n), .int (x), .null, .null] [] M' _)
  refine ⟨fun q => ?_, fun q => ?_⟩
  · rw [n_lt, f99] at q
    rw [fr_mv i3]
    exact hq _ M' (Or.inl ⟨rfl, fun w w1 w2 => i4 w w1 (by omega)⟩)
  · rw [n_lt, f99] at q
    have hs := fr_sub (l' := sL) i3 (by decide)
    have up := n_up (n := 100) i1 (by have : (100 : Int32).toInt = 100 := rfl; omega)
    refine c_X4_squares (R5_fr hs hR) a1 a2 b1 b2 c1 c2 (fun N => ?_)
    rw [sq_fr hs]
    have hf : fr (fL [16, 17]) M (mv [16, 17] N M') := fr_trans i3 fr_of
    generalize mv [16, 17] N M' = M2 at hf ⊢
    show (((sq M h s n x) : Int32) ≤ 0 → mx g (d + 4) kX11_needs 39 [.ref 0, .int (h), .int (s), .int (n), .int ((x + 1))] [] M2 Q) ∧ (¬ ((sq M h s n x) : Int32) ≤ 0 → Q (some (.int x)) M2)
    refine ⟨fun r => ih (x + 1) M2 (by omega) ⟨by omega, by omega, hf, fun w w1 w2 => ?_⟩, fun r => ?_⟩
    · by_cases c : w = x
      · rw [c]
        rw [n_le, n_0] at r
        rw [n_lt, n_0]
        omega
      · exact i4 w w1 (by have : ¬ w.toInt = x.toInt := fun z => c ((n_eq _ _).mpr z); omega)
    · rw [fr_mv hf]
      refine hq _ M2 (Or.inr ⟨i1, by omega, ?_, i4⟩)
      rw [n_le, n_0] at r
      show 0 < sq M h s n x
      rw [n_lt, n_0]
      omega
theorem c_X12_needs34 {g : zq_G} {d : Nat} {M : zq_M} {Q : Option Value → zq_M → Prop} {h s n v : Int32} (hR : R5 M) (hv : ndR (fun w => sq M h s n w) v) (a1 : 0 ≤ h.toInt) (a2 : h.toInt < 8) (b1 : 0 ≤ s.toInt) (b2 : s.toInt < 10) (c1 : 0 ≤ n.toInt) (c2 : n.toInt < 60) (hq : ∀ N : zq_M, Q (some (.int v)) (zq_mu (mv [62] N M) 48 27 (-1))) : mx g (d + 4) kX12_needs 34 [.ref 48, .int h, .int s, .int n, .int (-1), .int 99] [] M Q := by
  have f99 : (99 : Int32).toInt = 99 := rfl
  have m1 : (-1 : Int32).toInt = -1 := by decide
  refine mx_wf2 (fun y x : Int32 => [.ref 48, .int h, .int s, .int n, .int y, .int x]) (fun y x M' => -1 ≤ x.toInt ∧ x.toInt ≤ 99 ∧ fr (fF [62] 48 27) M M' ∧ ((y = -1 ∧ ∀ w : Int32, x.toInt < w.toInt → w.toInt ≤ 99 → ¬ 0 < sq M h s n w) ∨ (x.toInt < y.toInt ∧ y.toInt ≤ 99 ∧ 0 < sq M h s n y ∧ ∀ w : Int32, x.toInt < w.toInt → w.toInt < y.toInt → ¬ 0 < sq M h s n w))) (fun _ x => (x.toInt + 1).toNat) ?_ (-1) 99 M ⟨by decide, by decide, fr_rfl, Or.inl ⟨rfl, fun w q r => by rw [f99] at q; omega⟩⟩
  intro y x M' ⟨i1, i2, i3, i4⟩ ih
  refine mx_go 250 zq_t181 ?_
  show ((x : Int32) < 0 → Q (some (.int y)) (zq_mu M' 48 27 (-1))) ∧ (¬ (x : Int32) < 0 → mx g (d + 3) kX12_pushes 0 [.ref 48, .int (h), .int (s), .int (n), .null, .null] [] (zq_mu M' 48 27 x) _)
  refine ⟨fun q => ?_, fun q => ?_⟩
  · rw [n_lt, n_0] at q
    have hx : x.toInt = -1 := by omega
    have hy : y = v := by
      refine ndR_un hv ?_
      rcases i4 with ⟨j1, j2⟩ | ⟨j1, j2, j3, j4⟩
      · exact Or.inl ⟨j1, fun w w1 w2 => j2 w (by omega) w2⟩
      · exact Or.inr ⟨by omega, j2, j3, fun w w1 w2 => j4 w (by omega) w2⟩
    rw [hy]
    have hf : fr (fF [62] 48 27) M (zq_mu M' 48 27 (-1)) := fr_mu i3 rfl
    rw [fF_mv hf (by decide)]
    exact hq _
  · rw [n_lt, n_0] at q
    have hf : fr (fF [62] 48 27) M (zq_mu M' 48 27 x) := fr_mu i3 rfl
    have h27 : (zq_mu M' 48 27 x) 48 27 = x := rfl
    generalize zq_mu M' 48 27 x = M1 at hf h27 ⊢
    have e : ∀ c, (∀ i, fF [62] 48 27 c i = false) → M1 c = M c := fun c hc => fr_ar hf c hc
    have hR1 : R5 M1 := by
      obtain ⟨hS, hN, hH, hT, hX⟩ := hR
      exact ⟨gS_fr ⟨hf 1 3 rfl, hf 48 0 rfl, fr_ar hf 2 (fun _ => rfl), fr_ar hf 49 (fun _ => rfl), fr_ar hf 3 (fun _ => rfl), fr_ar hf 50 (fun _ => rfl)⟩ hS, gN_fr ⟨hf 5 4 rfl, hf 48 1 rfl, fr_ar hf 6 (fun _ => rfl), fr_ar hf 51 (fun _ => rfl), fr_ar hf 7 (fun _ => rfl), fr_ar hf 52 (fun _ => rfl), fr_ar hf 8 (fun _ => rfl), fr_ar hf 53 (fun _ => rfl), fr_ar hf 9 (fun _ => rfl), fr_ar hf 54 (fun _ => rfl)⟩ hN, gH_fr ⟨hf 10 2 rfl, hf 48 2 rfl, fr_ar hf 11 (fun _ => rfl), fr_ar hf 55 (fun _ => rfl), fr_ar hf 12 (fun _ => rfl), fr_ar hf 56 (fun _ => rfl)⟩ hH, gT_fr ⟨hf 1 3 rfl, hf 30 7 rfl, hf 48 32 rfl, hf 30 8 rfl, hf 48 39 rfl, fr_ar hf 31 (fun _ => rfl), fr_ar hf 67 (fun _ => rfl), fr_ar hf 32 (fun _ => rfl), fr_ar hf 68 (fun _ => rfl), fr_ar hf 33 (fun _ => rfl), fr_ar hf 69 (fun _ => rfl), fr_ar hf 34 (fun _ => rfl), fr_ar hf 72 (fun _ => rfl), fr_ar hf 35 (fun _ => rfl), fr_ar hf 73 (fun _ => rfl)⟩ hT, gX_fr ⟨hf 13 4 rfl, hf 48 11 rfl, hf 13 5 rfl, hf 48 12 rfl, fr_ar hf 14 (fun _ => rfl), fr_ar hf 15 (fun _ => rfl), fr_ar hf 58 (fun _ => rfl), fr_ar hf 59 (fun _ => rfl), fr_ar hf 60 (fun _ => rfl)⟩ hX⟩
    have hsq : sq M1 h s n x = sq M h s n x := by
      unfold sq
      rw [e 11 (fun _ => rfl), e 12 (fun _ => rfl), e 2 (fun _ => rfl), e 6 (fun _ => rfl), e 7 (fun _ => rfl), e 14 (fun _ => rfl), e 15 (fun _ => rfl), hf 13 5 rfl]
    have dn := n_mi1' (m := x) (by omega)
    refine c_X12_pushes (wi := x) hR1 a1 a2 b1 b2 c1 c2 (wi_try h27 (by omega)) (fun N => ?_)
    rw [hsq]
    have hf2 : fr (fF [62] 48 27) M (mv [62] N M1) := fr_trans hf (fr_mono fr_of (fun c i hc => by
      unfold fF at hc
      unfold fL
      cases z : [62].contains c with
      | false => rfl
      | true => rw [z, Bool.true_or] at hc; exact absurd hc (by decide)))
    generalize mv [62] N M1 = M2 at hf2 ⊢
    show (((sq M h s n x) : Int32) ≤ 0 → mx g (d + 4) kX12_needs 34 [.ref 48, .int (h), .int (s), .int (n), .int (y), .int ((x + (-1)))] [] M2 Q) ∧ (¬ ((sq M h s n x) : Int32) ≤ 0 → mx g (d + 4) kX12_needs 34 [.ref 48, .int (h), .int (s), .int (n), .int (x), .int ((x + (-1)))] [] M2 Q)
    refine ⟨fun r => ih y (x + (-1)) M2 (by omega) ⟨by omega, by omega, hf2, ?_⟩, fun r => ih x (x + (-1)) M2 (by omega) ⟨by omega, by omega, hf2, ?_⟩⟩
    · rw [n_le, n_0] at r
      have nx : ¬ 0 < sq M h s n x := by rw [n_lt, n_0]; omega
      rcases i4 with ⟨j1, j2⟩ | ⟨j1, j2, j3, j4⟩
      · refine Or.inl ⟨j1, fun w w1 w2 => ?_⟩
        by_cases c : w = x
        · rw [c]; exact nx
        · exact j2 w (by have : ¬ w.toInt = x.toInt := fun z => c ((n_eq _ _).mpr z); omega) w2
      · refine Or.inr ⟨by omega, j2, j3, fun w w1 w2 => ?_⟩
        by_cases c : w = x
        · rw [c]; exact nx
        · exact j4 w (by have : ¬ w.toInt = x.toInt := fun z => c ((n_eq _ _).mpr z); omega) w2
    · rw [n_le, n_0] at r
      refine Or.inr ⟨by omega, by omega, ?_, fun w w1 w2 => by omega⟩
      rw [n_lt, n_0]
      omega
set_option maxHeartbeats 4000000 in
theorem op_told {g : zq_G} {d : Nat} {M : zq_M} {p0 p1 p2 p3 : Int32} (hR : RR M) : pri g (d + 6) kX11_told kX12_told [.ref 0, .int (p0), .int (p1), .int (p2), .int (p3)] [.ref 48, .int (p0), .int (p1), .int (p2), .int (p3)] M := by
  obtain ⟨hS, hN, hH, hT, hP, hI, hE, hF, hX, hV⟩ := id hR
  obtain ⟨s1, s2, s3, s4, s5, s6, s7, s8⟩ := id hS
  obtain ⟨a1, a2, a3, a4, a5, a6, a7, a8, a9, a10, a11⟩ := id hN
  obtain ⟨h1, h2, h3, h4, h5, h6, h7⟩ := id hH
  refine mx_q (fun Qx hQx => ?_)
  refine mx_go 200 zq_t95 ?_
  show mx g (d + 5) kX0_has 0 [.ref 10, .int (p0)] [] M _
  refine c_X0_has (n := (M 10 2)) rfl (fun k1 k2 => ?_) (fun k3 => ?_)
  · show ((1 : Int32) = 0 → Qx (some (.int (-2))) M) ∧ (¬ (1 : Int32) = 0 → mx g (d + 5) kX7_has 0 [.ref 1, .int (p1)] [] M _)
    refine ⟨fun q4 => absurd q4 (by decide), fun _ => ?_⟩
    refine c_X7_has (n := (M 1 3)) rfl (fun k5 k6 => ?_) (fun k7 => ?_)
    · show ((1 : Int32) = 0 → Qx (some (.int (-2))) M) ∧ (¬ (1 : Int32) = 0 → mx g (d + 5) kX2_has 0 [.ref 5, .int (p2)] [] M _)
      refine ⟨fun q8 => absurd q8 (by decide), fun _ => ?_⟩
      refine c_X2_has (n := (M 5 4)) rfl (fun k9 k10 => ?_) (fun k11 => ?_)
      · show (¬ (1 : Int32) = 0 → ((p3 : Int32).toInt < 0 ∨ 2 < (p3 : Int32).toInt → Qx (some (.int (-2))) M) ∧ ((p3 : Int32).toInt = 0 → vp_in p2 60 ∧ vp_in p2 60 ∧ mx g (d + 5) kX0_may 0 [.ref 10, .int (p0), .int (((M 6) (Int32.toNatClampNeg p2))), .int (((M 7) (Int32.toNatClampNeg p2)))] [] M _) ∧ ((p3 : Int32).toInt = 1 → vp_in p1 10 ∧ mx g (d + 5) kX0_drag 0 [.ref 10, .int (p0), .int (((M 2) (Int32.toNatClampNeg p1))), .null, .null, .null] [] M _) ∧ ((p3 : Int32).toInt = 2 → vp_in p2 60 ∧ mx g (d + 5) kX4_squares 0 [.ref 24, .int (p0), .int (p1), .int (p2), .int (((M 8) (Int32.toNatClampNeg p2))), .null, .null] [] M _)) ∧ ((1 : Int32) = 0 → Qx (some (.int (-2))) M)
        refine ⟨fun _ => ?_, fun q12 => absurd q12 (by decide)⟩
        refine ⟨fun q13 => ?_, fun q13 => ?_, fun q13 => ?_, fun q13 => ?_⟩
        · refine hQx _ _ ⟨(-2), rfl, ?_⟩
          refine mx_q (fun Qm hQm => ?_)
          refine mx_go 200 zq_t180 ?_
          show mx g (d + 5) kX12_isHow 0 [.ref 48, .int (p0)] [] M _
          refine c_X12_isHow (n := (M 48 2)) rfl (by (simp only [n_lt, n_le, n_eq, n_add, n_sub, n_mul, n_neg, n_lit, zw] at *; omega)) (fun k14 k15 => ?_) (fun k16 => by exfalso; (first | (simp only [n_lt, n_le, n_eq, n_add, n_sub, n_mul, n_neg, n_lit, zw] at *; omega) | simp_all))
          show ((1 : Int32) = 0 → Qm (some (.int (-2))) M) ∧ (¬ (1 : Int32) = 0 → mx g (d + 5) kX12_isStone 0 [.ref 48, .int (p1)] [] M _)
          refine ⟨fun q17 => absurd q17 (by decide), fun _ => ?_⟩
          refine c_X12_isStone (n := (M 48 0)) rfl (by (simp only [n_lt, n_le, n_eq, n_add, n_sub, n_mul, n_neg, n_lit, zw] at *; omega)) (fun k18 k19 => ?_) (fun k20 => by exfalso; (first | (simp only [n_lt, n_le, n_eq, n_add, n_sub, n_mul, n_neg, n_lit, zw] at *; omega) | simp_all))
          show ((1 : Int32) = 0 → Qm (some (.int (-2))) M) ∧ (¬ (1 : Int32) = 0 → mx g (d + 5) kX12_isNight 0 [.ref 48, .int (p2)] [] M _)
          refine ⟨fun q21 => absurd q21 (by decide), fun _ => ?_⟩
          refine c_X12_isNight (n := (M 48 1)) rfl (by (simp only [n_lt, n_le, n_eq, n_add, n_sub, n_mul, n_neg, n_lit, zw] at *; omega)) (fun k22 k23 => ?_) (fun k24 => by exfalso; (first | (simp only [n_lt, n_le, n_eq, n_add, n_sub, n_mul, n_neg, n_lit, zw] at *; omega) | simp_all))
          show ((1 : Int32) = 0 → Qm (some (.int (-2))) M) ∧ (¬ (1 : Int32) = 0 → mx g (d + 5) kX12_in 0 [.ref 48, .int (p3), .int (0), .int (2)] [] M _)
          refine ⟨fun q25 => absurd q25 (by decide), fun _ => ?_⟩
          refine c_X12_in (fun k26 k27 => by exfalso; (first | (simp only [n_lt, n_le, n_eq, n_add, n_sub, n_mul, n_neg, n_lit, zw] at *; omega) | simp_all)) (fun k28 => ?_)
          show (¬ (0 : Int32) = 0 → (¬ (p3 : Int32) = 0 → (¬ (p3 : Int32) = (1 : Int32) → mx g (d + 5) kX12_pushes 0 [.ref 48, .int (p0), .int (p1), .int (p2), .null, .null] [] M _) ∧ ((p3 : Int32) = (1 : Int32) → mx g (d + 5) kX12_drag 0 [.ref 48, .int (p0), .int (p1), .null] [] M _)) ∧ ((p3 : Int32) = 0 → mx g (d + 5) kX12_may 0 [.ref 48, .int (p0), .int (p2)] [] M _)) ∧ ((0 : Int32) = 0 → Qm (some (.int (-2))) M)
          refine ⟨fun q29 => absurd q29 (by decide), fun _ => ?_⟩
          refine hQm _ _ ⟨by first | rfl | simp only [s1, s2, s3, a1, a2, a3, a4, a5, h1, h2, h3, n_pred], ?_⟩
          exact hR
        · refine ⟨(n_in (by (first | (simp only [n_lt, n_le, n_eq, n_add, n_sub, n_mul, n_neg, n_lit, zw] at *; omega) | simp_all)) (by (first | (simp only [n_lt, n_le, n_eq, n_add, n_sub, n_mul, n_neg, n_lit, zw] at *; omega) | simp_all))), ?_⟩
          refine ⟨(n_in (by (first | (simp only [n_lt, n_le, n_eq, n_add, n_sub, n_mul, n_neg, n_lit, zw] at *; omega) | simp_all)) (by (first | (simp only [n_lt, n_le, n_eq, n_add, n_sub, n_mul, n_neg, n_lit, zw] at *; omega) | simp_all))), ?_⟩
          refine c_X0_may (k := M 11 p0.toNatClampNeg) rfl (by (simp only [n_lt, n_le, n_eq, n_add, n_sub, n_mul, n_neg, n_lit, zw] at *; omega)) (by (simp only [n_lt, n_le, n_eq, n_add, n_sub, n_mul, n_neg, n_lit, zw] at *; omega)) (fun k14 k15 => ?_) (fun k16 => ?_)
          · show mx g (d + 5) kX11_bit 0 [.int (1)] [] M _
            refine c_X11_bit (fun k17 => ?_) (fun k18 => by exfalso; (first | (simp only [n_lt, n_le, n_eq, n_add, n_sub, n_mul, n_neg, n_lit, zw] at *; omega) | simp_all))
            show Qx (some (.int 1)) M
            refine hQx _ _ ⟨1, rfl, ?_⟩
            refine mx_q (fun Qm hQm => ?_)
            refine mx_go 200 zq_t180 ?_
            show mx g (d + 5) kX12_isHow 0 [.ref 48, .int (p0)] [] M _
            refine c_X12_isHow (n := (M 48 2)) rfl (by (simp only [n_lt, n_le, n_eq, n_add, n_sub, n_mul, n_neg, n_lit, zw] at *; omega)) (fun k19 k20 => ?_) (fun k21 => by exfalso; (first | (simp only [n_lt, n_le, n_eq, n_add, n_sub, n_mul, n_neg, n_lit, zw] at *; omega) | simp_all))
            show ((1 : Int32) = 0 → Qm (some (.int (-2))) M) ∧ (¬ (1 : Int32) = 0 → mx g (d + 5) kX12_isStone 0 [.ref 48, .int (p1)] [] M _)
            refine ⟨fun q22 => absurd q22 (by decide), fun _ => ?_⟩
            refine c_X12_isStone (n := (M 48 0)) rfl (by (simp only [n_lt, n_le, n_eq, n_add, n_sub, n_mul, n_neg, n_lit, zw] at *; omega)) (fun k23 k24 => ?_) (fun k25 => by exfalso; (first | (simp only [n_lt, n_le, n_eq, n_add, n_sub, n_mul, n_neg, n_lit, zw] at *; omega) | simp_all))
            show ((1 : Int32) = 0 → Qm (some (.int (-2))) M) ∧ (¬ (1 : Int32) = 0 → mx g (d + 5) kX12_isNight 0 [.ref 48, .int (p2)] [] M _)
            refine ⟨fun q26 => absurd q26 (by decide), fun _ => ?_⟩
            refine c_X12_isNight (n := (M 48 1)) rfl (by (simp only [n_lt, n_le, n_eq, n_add, n_sub, n_mul, n_neg, n_lit, zw] at *; omega)) (fun k27 k28 => ?_) (fun k29 => by exfalso; (first | (simp only [n_lt, n_le, n_eq, n_add, n_sub, n_mul, n_neg, n_lit, zw] at *; omega) | simp_all))
            show ((1 : Int32) = 0 → Qm (some (.int (-2))) M) ∧ (¬ (1 : Int32) = 0 → mx g (d + 5) kX12_in 0 [.ref 48, .int (p3), .int (0), .int (2)] [] M _)
            refine ⟨fun q30 => absurd q30 (by decide), fun _ => ?_⟩
            refine c_X12_in (fun k31 k32 => ?_) (fun k33 => by exfalso; (first | (simp only [n_lt, n_le, n_eq, n_add, n_sub, n_mul, n_neg, n_lit, zw] at *; omega) | simp_all))
            show (¬ (1 : Int32) = 0 → (¬ (p3 : Int32) = 0 → (¬ (p3 : Int32) = (1 : Int32) → mx g (d + 5) kX12_pushes 0 [.ref 48, .int (p0), .int (p1), .int (p2), .null, .null] [] M _) ∧ ((p3 : Int32) = (1 : Int32) → mx g (d + 5) kX12_drag 0 [.ref 48, .int (p0), .int (p1), .null] [] M _)) ∧ ((p3 : Int32) = 0 → mx g (d + 5) kX12_may 0 [.ref 48, .int (p0), .int (p2)] [] M _)) ∧ ((1 : Int32) = 0 → Qm (some (.int (-2))) M)
            refine ⟨fun _ => ?_, fun q34 => absurd q34 (by decide)⟩
            refine ⟨fun q35 => by exfalso; (first | (simp only [n_lt, n_le, n_eq, n_add, n_sub, n_mul, n_neg, n_lit, zw] at *; omega) | simp_all), fun q35 => ?_⟩
            refine c_X12_may (k := M 11 p0.toNatClampNeg) (wet := M 6 p2.toNatClampNeg) (ice := M 7 p2.toNatClampNeg) (congrFun h2 _) (congrFun a2 _) (congrFun a3 _) (by (simp only [n_lt, n_le, n_eq, n_add, n_sub, n_mul, n_neg, n_lit, zw] at *; omega)) (by (simp only [n_lt, n_le, n_eq, n_add, n_sub, n_mul, n_neg, n_lit, zw] at *; omega)) (by (simp only [n_lt, n_le, n_eq, n_add, n_sub, n_mul, n_neg, n_lit, zw] at *; omega)) (by (simp only [n_lt, n_le, n_eq, n_add, n_sub, n_mul, n_neg, n_lit, zw] at *; omega)) (fun k36 k37 => ?_) (fun k38 => by exfalso; (first | (simp only [n_lt, n_le, n_eq, n_add, n_sub, n_mul, n_neg, n_lit, zw] at *; omega) | simp_all))
            show ((1 : Int32) = 0 → Qm (some (.int 0)) M) ∧ (¬ (1 : Int32) = 0 → Qm (some (.int 1)) M)
            refine ⟨fun q39 => absurd q39 (by decide), fun _ => ?_⟩
            refine hQm _ _ ⟨by first | rfl | simp only [s1, s2, s3, a1, a2, a3, a4, a5, h1, h2, h3, n_pred], ?_⟩
            exact hR
          · show mx g (d + 5) kX11_bit 0 [.int (0)] [] M _
            refine c_X11_bit (fun k19 => by exfalso; (first | (simp only [n_lt, n_le, n_eq, n_add, n_sub, n_mul, n_neg, n_lit, zw] at *; omega) | simp_all)) (fun k20 => ?_)
            show Qx (some (.int 0)) M
            refine hQx _ _ ⟨0, rfl, ?_⟩
            refine mx_q (fun Qm hQm => ?_)
            refine mx_go 200 zq_t180 ?_
            show mx g (d + 5) kX12_isHow 0 [.ref 48, .int (p0)] [] M _
            refine c_X12_isHow (n := (M 48 2)) rfl (by (simp only [n_lt, n_le, n_eq, n_add, n_sub, n_mul, n_neg, n_lit, zw] at *; omega)) (fun k21 k22 => ?_) (fun k23 => by exfalso; (first | (simp only [n_lt, n_le, n_eq, n_add, n_sub, n_mul, n_neg, n_lit, zw] at *; omega) | simp_all))
            show ((1 : Int32) = 0 → Qm (some (.int (-2))) M) ∧ (¬ (1 : Int32) = 0 → mx g (d + 5) kX12_isStone 0 [.ref 48, .int (p1)] [] M _)
            refine ⟨fun q24 => absurd q24 (by decide), fun _ => ?_⟩
            refine c_X12_isStone (n := (M 48 0)) rfl (by (simp only [n_lt, n_le, n_eq, n_add, n_sub, n_mul, n_neg, n_lit, zw] at *; omega)) (fun k25 k26 => ?_) (fun k27 => by exfalso; (first | (simp only [n_lt, n_le, n_eq, n_add, n_sub, n_mul, n_neg, n_lit, zw] at *; omega) | simp_all))
            show ((1 : Int32) = 0 → Qm (some (.int (-2))) M) ∧ (¬ (1 : Int32) = 0 → mx g (d + 5) kX12_isNight 0 [.ref 48, .int (p2)] [] M _)
            refine ⟨fun q28 => absurd q28 (by decide), fun _ => ?_⟩
            refine c_X12_isNight (n := (M 48 1)) rfl (by (simp only [n_lt, n_le, n_eq, n_add, n_sub, n_mul, n_neg, n_lit, zw] at *; omega)) (fun k29 k30 => ?_) (fun k31 => by exfalso; (first | (simp only [n_lt, n_le, n_eq, n_add, n_sub, n_mul, n_neg, n_lit, zw] at *; omega) | simp_all))
            show ((1 : Int32) = 0 → Qm (some (.int (-2))) M) ∧ (¬ (1 : Int32) = 0 → mx g (d + 5) kX12_in 0 [.ref 48, .int (p3), .int (0), .int (2)] [] M _)
            refine ⟨fun q32 => absurd q32 (by decide), fun _ => ?_⟩
            refine c_X12_in (fun k33 k34 => ?_) (fun k35 => by exfalso; (first | (simp only [n_lt, n_le, n_eq, n_add, n_sub, n_mul, n_neg, n_lit, zw] at *; omega) | simp_all))
            show (¬ (1 : Int32) = 0 → (¬ (p3 : Int32) = 0 → (¬ (p3 : Int32) = (1 : Int32) → mx g (d + 5) kX12_pushes 0 [.ref 48, .int (p0), .int (p1), .int (p2), .null, .null] [] M _) ∧ ((p3 : Int32) = (1 : Int32) → mx g (d + 5) kX12_drag 0 [.ref 48, .int (p0), .int (p1), .null] [] M _)) ∧ ((p3 : Int32) = 0 → mx g (d + 5) kX12_may 0 [.ref 48, .int (p0), .int (p2)] [] M _)) ∧ ((1 : Int32) = 0 → Qm (some (.int (-2))) M)
            refine ⟨fun _ => ?_, fun q36 => absurd q36 (by decide)⟩
            refine ⟨fun q37 => by exfalso; (first | (simp only [n_lt, n_le, n_eq, n_add, n_sub, n_mul, n_neg, n_lit, zw] at *; omega) | simp_all), fun q37 => ?_⟩
            refine c_X12_may (k := M 11 p0.toNatClampNeg) (wet := M 6 p2.toNatClampNeg) (ice := M 7 p2.toNatClampNeg) (congrFun h2 _) (congrFun a2 _) (congrFun a3 _) (by (simp only [n_lt, n_le, n_eq, n_add, n_sub, n_mul, n_neg, n_lit, zw] at *; omega)) (by (simp only [n_lt, n_le, n_eq, n_add, n_sub, n_mul, n_neg, n_lit, zw] at *; omega)) (by (simp only [n_lt, n_le, n_eq, n_add, n_sub, n_mul, n_neg, n_lit, zw] at *; omega)) (by (simp only [n_lt, n_le, n_eq, n_add, n_sub, n_mul, n_neg, n_lit, zw] at *; omega)) (fun k38 k39 => by exfalso; (first | (simp only [n_lt, n_le, n_eq, n_add, n_sub, n_mul, n_neg, n_lit, zw] at *; omega) | simp_all)) (fun k40 => ?_)
            show ((0 : Int32) = 0 → Qm (some (.int 0)) M) ∧ (¬ (0 : Int32) = 0 → Qm (some (.int 1)) M)
            refine ⟨fun _ => ?_, fun q41 => absurd q41 (by decide)⟩
            refine hQm _ _ ⟨by first | rfl | simp only [s1, s2, s3, a1, a2, a3, a4, a5, h1, h2, h3, n_pred], ?_⟩
            exact hR
        · refine ⟨(n_in (by (first | (simp only [n_lt, n_le, n_eq, n_add, n_sub, n_mul, n_neg, n_lit, zw] at *; omega) | simp_all)) (by (first | (simp only [n_lt, n_le, n_eq, n_add, n_sub, n_mul, n_neg, n_lit, zw] at *; omega) | simp_all))), ?_⟩
          refine c_X0_drag (k := M 11 p0.toNatClampNeg) (num := M 12 p0.toNatClampNeg) rfl rfl (by (simp only [n_lt, n_le, n_eq, n_add, n_sub, n_mul, n_neg, n_lit, zw] at *; omega)) (by (simp only [n_lt, n_le, n_eq, n_add, n_sub, n_mul, n_neg, n_lit, zw] at *; omega)) (h6 _).1 (h6 _).2 ?_
          show Qx (some (.int (dragZ (M 11 (Int32.toNatClampNeg p0)) (M 12 (Int32.toNatClampNeg p0)) (M 2 (Int32.toNatClampNeg p1))))) M
          refine hQx _ _ ⟨(dragZ (M 11 (Int32.toNatClampNeg p0)) (M 12 (Int32.toNatClampNeg p0)) (M 2 (Int32.toNatClampNeg p1))), rfl, ?_⟩
          refine mx_q (fun Qm hQm => ?_)
          refine mx_go 200 zq_t180 ?_
          show mx g (d + 5) kX12_isHow 0 [.ref 48, .int (p0)] [] M _
          refine c_X12_isHow (n := (M 48 2)) rfl (by (simp only [n_lt, n_le, n_eq, n_add, n_sub, n_mul, n_neg, n_lit, zw] at *; omega)) (fun k21 k22 => ?_) (fun k23 => by exfalso; (first | (simp only [n_lt, n_le, n_eq, n_add, n_sub, n_mul, n_neg, n_lit, zw] at *; omega) | simp_all))
          show ((1 : Int32) = 0 → Qm (some (.int (-2))) M) ∧ (¬ (1 : Int32) = 0 → mx g (d + 5) kX12_isStone 0 [.ref 48, .int (p1)] [] M _)
          refine ⟨fun q24 => absurd q24 (by decide), fun _ => ?_⟩
          refine c_X12_isStone (n := (M 48 0)) rfl (by (simp only [n_lt, n_le, n_eq, n_add, n_sub, n_mul, n_neg, n_lit, zw] at *; omega)) (fun k25 k26 => ?_) (fun k27 => by exfalso; (first | (simp only [n_lt, n_le, n_eq, n_add, n_sub, n_mul, n_neg, n_lit, zw] at *; omega) | simp_all))
          show ((1 : Int32) = 0 → Qm (some (.int (-2))) M) ∧ (¬ (1 : Int32) = 0 → mx g (d + 5) kX12_isNight 0 [.ref 48, .int (p2)] [] M _)
          refine ⟨fun q28 => absurd q28 (by decide), fun _ => ?_⟩
          refine c_X12_isNight (n := (M 48 1)) rfl (by (simp only [n_lt, n_le, n_eq, n_add, n_sub, n_mul, n_neg, n_lit, zw] at *; omega)) (fun k29 k30 => ?_) (fun k31 => by exfalso; (first | (simp only [n_lt, n_le, n_eq, n_add, n_sub, n_mul, n_neg, n_lit, zw] at *; omega) | simp_all))
          show ((1 : Int32) = 0 → Qm (some (.int (-2))) M) ∧ (¬ (1 : Int32) = 0 → mx g (d + 5) kX12_in 0 [.ref 48, .int (p3), .int (0), .int (2)] [] M _)
          refine ⟨fun q32 => absurd q32 (by decide), fun _ => ?_⟩
          refine c_X12_in (fun k33 k34 => ?_) (fun k35 => by exfalso; (first | (simp only [n_lt, n_le, n_eq, n_add, n_sub, n_mul, n_neg, n_lit, zw] at *; omega) | simp_all))
          show (¬ (1 : Int32) = 0 → (¬ (p3 : Int32) = 0 → (¬ (p3 : Int32) = (1 : Int32) → mx g (d + 5) kX12_pushes 0 [.ref 48, .int (p0), .int (p1), .int (p2), .null, .null] [] M _) ∧ ((p3 : Int32) = (1 : Int32) → mx g (d + 5) kX12_drag 0 [.ref 48, .int (p0), .int (p1), .null] [] M _)) ∧ ((p3 : Int32) = 0 → mx g (d + 5) kX12_may 0 [.ref 48, .int (p0), .int (p2)] [] M _)) ∧ ((1 : Int32) = 0 → Qm (some (.int (-2))) M)
          refine ⟨fun _ => ?_, fun q36 => absurd q36 (by decide)⟩
          refine ⟨fun q37 => ?_, fun q37 => by exfalso; (first | (simp only [n_lt, n_le, n_eq, n_add, n_sub, n_mul, n_neg, n_lit, zw] at *; omega) | simp_all)⟩
          refine ⟨fun q38 => by exfalso; (first | (simp only [n_lt, n_le, n_eq, n_add, n_sub, n_mul, n_neg, n_lit, zw] at *; omega) | simp_all), fun q38 => ?_⟩
          refine c_X12_drag (k := M 11 p0.toNatClampNeg) (num := M 12 p0.toNatClampNeg) (w := M 2 p1.toNatClampNeg) (congrFun h2 _) (congrFun h3 _) (congrFun s2 _) (by (simp only [n_lt, n_le, n_eq, n_add, n_sub, n_mul, n_neg, n_lit, zw] at *; omega)) (by (simp only [n_lt, n_le, n_eq, n_add, n_sub, n_mul, n_neg, n_lit, zw] at *; omega)) (by (simp only [n_lt, n_le, n_eq, n_add, n_sub, n_mul, n_neg, n_lit, zw] at *; omega)) (by (simp only [n_lt, n_le, n_eq, n_add, n_sub, n_mul, n_neg, n_lit, zw] at *; omega)) (h6 _).1 (h6 _).2 ?_
          show Qm (some (.int (dragZ (M 11 (Int32.toNatClampNeg p0)) (M 12 (Int32.toNatClampNeg p0)) (M 2 (Int32.toNatClampNeg p1))))) M
          refine hQm _ _ ⟨by first | rfl | simp only [s1, s2, s3, a1, a2, a3, a4, a5, h1, h2, h3, n_pred], ?_⟩
          exact hR
        · refine ⟨(n_in (by (first | (simp only [n_lt, n_le, n_eq, n_add, n_sub, n_mul, n_neg, n_lit, zw] at *; omega) | simp_all)) (by (first | (simp only [n_lt, n_le, n_eq, n_add, n_sub, n_mul, n_neg, n_lit, zw] at *; omega) | simp_all))), ?_⟩
          refine c_X4_squares (RR_5 hR) (by (simp only [n_lt, n_le, n_eq, n_add, n_sub, n_mul, n_neg, n_lit, zw] at *; omega)) (by (simp only [n_lt, n_le, n_eq, n_add, n_sub, n_mul, n_neg, n_lit, zw] at *; omega)) (by (simp only [n_lt, n_le, n_eq, n_add, n_sub, n_mul, n_neg, n_lit, zw] at *; omega)) (by (simp only [n_lt, n_le, n_eq, n_add, n_sub, n_mul, n_neg, n_lit, zw] at *; omega)) (by (simp only [n_lt, n_le, n_eq, n_add, n_sub, n_mul, n_neg, n_lit, zw] at *; omega)) (by (simp only [n_lt, n_le, n_eq, n_add, n_sub, n_mul, n_neg, n_lit, zw] at *; omega)) (fun N21 => ?_)
          show Qx (some (.int (sq M p0 p1 p2 ((M 8) (Int32.toNatClampNeg p2))))) (mv [16, 17] N21 M)
          refine hQx _ _ ⟨(sq M p0 p1 p2 ((M 8) (Int32.toNatClampNeg p2))), rfl, ?_⟩
          refine mx_q (fun Qm hQm => ?_)
          refine mx_go 200 zq_t180 ?_
          show mx g (d + 5) kX12_isHow 0 [.ref 48, .int (p0)] [] (mv [16, 17] N21 M) _
          refine c_X12_isHow (n := (M 48 2)) rfl (by (simp only [n_lt, n_le, n_eq, n_add, n_sub, n_mul, n_neg, n_lit, zw] at *; omega)) (fun k22 k23 => ?_) (fun k24 => by exfalso; (first | (simp only [n_lt, n_le, n_eq, n_add, n_sub, n_mul, n_neg, n_lit, zw] at *; omega) | simp_all))
          show ((1 : Int32) = 0 → Qm (some (.int (-2))) (mv [16, 17] N21 M)) ∧ (¬ (1 : Int32) = 0 → mx g (d + 5) kX12_isStone 0 [.ref 48, .int (p1)] [] (mv [16, 17] N21 M) _)
          refine ⟨fun q25 => absurd q25 (by decide), fun _ => ?_⟩
          refine c_X12_isStone (n := (M 48 0)) rfl (by (simp only [n_lt, n_le, n_eq, n_add, n_sub, n_mul, n_neg, n_lit, zw] at *; omega)) (fun k26 k27 => ?_) (fun k28 => by exfalso; (first | (simp only [n_lt, n_le, n_eq, n_add, n_sub, n_mul, n_neg, n_lit, zw] at *; omega) | simp_all))
          show ((1 : Int32) = 0 → Qm (some (.int (-2))) (mv [16, 17] N21 M)) ∧ (¬ (1 : Int32) = 0 → mx g (d + 5) kX12_isNight 0 [.ref 48, .int (p2)] [] (mv [16, 17] N21 M) _)
          refine ⟨fun q29 => absurd q29 (by decide), fun _ => ?_⟩
          refine c_X12_isNight (n := (M 48 1)) rfl (by (simp only [n_lt, n_le, n_eq, n_add, n_sub, n_mul, n_neg, n_lit, zw] at *; omega)) (fun k30 k31 => ?_) (fun k32 => by exfalso; (first | (simp only [n_lt, n_le, n_eq, n_add, n_sub, n_mul, n_neg, n_lit, zw] at *; omega) | simp_all))
          show ((1 : Int32) = 0 → Qm (some (.int (-2))) (mv [16, 17] N21 M)) ∧ (¬ (1 : Int32) = 0 → mx g (d + 5) kX12_in 0 [.ref 48, .int (p3), .int (0), .int (2)] [] (mv [16, 17] N21 M) _)
          refine ⟨fun q33 => absurd q33 (by decide), fun _ => ?_⟩
          refine c_X12_in (fun k34 k35 => ?_) (fun k36 => by exfalso; (first | (simp only [n_lt, n_le, n_eq, n_add, n_sub, n_mul, n_neg, n_lit, zw] at *; omega) | simp_all))
          show (¬ (1 : Int32) = 0 → (¬ (p3 : Int32) = 0 → (¬ (p3 : Int32) = (1 : Int32) → mx g (d + 5) kX12_pushes 0 [.ref 48, .int (p0), .int (p1), .int (p2), .null, .null] [] (mv [16, 17] N21 M) _) ∧ ((p3 : Int32) = (1 : Int32) → mx g (d + 5) kX12_drag 0 [.ref 48, .int (p0), .int (p1), .null] [] (mv [16, 17] N21 M) _)) ∧ ((p3 : Int32) = 0 → mx g (d + 5) kX12_may 0 [.ref 48, .int (p0), .int (p2)] [] (mv [16, 17] N21 M) _)) ∧ ((1 : Int32) = 0 → Qm (some (.int (-2))) (mv [16, 17] N21 M))
          refine ⟨fun _ => ?_, fun q37 => absurd q37 (by decide)⟩
          refine ⟨fun q38 => ?_, fun q38 => by exfalso; (first | (simp only [n_lt, n_le, n_eq, n_add, n_sub, n_mul, n_neg, n_lit, zw] at *; omega) | simp_all)⟩
          refine ⟨fun q39 => ?_, fun q39 => by exfalso; (first | (simp only [n_lt, n_le, n_eq, n_add, n_sub, n_mul, n_neg, n_lit, zw] at *; omega) | simp_all)⟩
          refine c_X12_pushes (wi := ((M 8) (Int32.toNatClampNeg p2))) (RR_5 hR) (by (simp only [n_lt, n_le, n_eq, n_add, n_sub, n_mul, n_neg, n_lit, zw] at *; omega)) (by (simp only [n_lt, n_le, n_eq, n_add, n_sub, n_mul, n_neg, n_lit, zw] at *; omega)) (by (simp only [n_lt, n_le, n_eq, n_add, n_sub, n_mul, n_neg, n_lit, zw] at *; omega)) (by (simp only [n_lt, n_le, n_eq, n_add, n_sub, n_mul, n_neg, n_lit, zw] at *; omega)) (by (simp only [n_lt, n_le, n_eq, n_add, n_sub, n_mul, n_neg, n_lit, zw] at *; omega)) (by (simp only [n_lt, n_le, n_eq, n_add, n_sub, n_mul, n_neg, n_lit, zw] at *; omega)) (wi_now hV rfl) (fun N40 => ?_)
          show Qm (some (.int (sq M p0 p1 p2 ((M 8) (Int32.toNatClampNeg p2))))) (mv [62] N40 (mv [16, 17] N21 M))
          refine hQm _ _ ⟨by first | rfl | simp only [s1, s2, s3, a1, a2, a3, a4, a5, h1, h2, h3, n_pred], ?_⟩
          exact ⟨hS, hN, hH, hT, hP, hI, hE, hF, hX, hV⟩
      · show (¬ (0 : Int32) = 0 → ((p3 : Int32).toInt < 0 ∨ 2 < (p3 : Int32).toInt → Qx (some (.int (-2))) M) ∧ ((p3 : Int32).toInt = 0 → vp_in p2 60 ∧ vp_in p2 60 ∧ mx g (d + 5) kX0_may 0 [.ref 10, .int (p0), .int (((M 6) (Int32.toNatClampNeg p2))), .int (((M 7) (Int32.toNatClampNeg p2)))] [] M _) ∧ ((p3 : Int32).toInt = 1 → vp_in p1 10 ∧ mx g (d + 5) kX0_drag 0 [.ref 10, .int (p0), .int (((M 2) (Int32.toNatClampNeg p1))), .null, .null, .null] [] M _) ∧ ((p3 : Int32).toInt = 2 → vp_in p2 60 ∧ mx g (d + 5) kX4_squares 0 [.ref 24, .int (p0), .int (p1), .int (p2), .int (((M 8) (Int32.toNatClampNeg p2))), .null, .null] [] M _)) ∧ ((0 : Int32) = 0 → Qx (some (.int (-2))) M)
        refine ⟨fun q22 => absurd q22 (by decide), fun _ => ?_⟩
        refine hQx _ _ ⟨(-2), rfl, ?_⟩
        refine mx_q (fun Qm hQm => ?_)
        refine mx_go 200 zq_t180 ?_
        show mx g (d + 5) kX12_isHow 0 [.ref 48, .int (p0)] [] M _
        refine c_X12_isHow (n := (M 48 2)) rfl (by (simp only [n_lt, n_le, n_eq, n_add, n_sub, n_mul, n_neg, n_lit, zw] at *; omega)) (fun k23 k24 => ?_) (fun k25 => by exfalso; (first | (simp only [n_lt, n_le, n_eq, n_add, n_sub, n_mul, n_neg, n_lit, zw] at *; omega) | simp_all))
        show ((1 : Int32) = 0 → Qm (some (.int (-2))) M) ∧ (¬ (1 : Int32) = 0 → mx g (d + 5) kX12_isStone 0 [.ref 48, .int (p1)] [] M _)
        refine ⟨fun q26 => absurd q26 (by decide), fun _ => ?_⟩
        refine c_X12_isStone (n := (M 48 0)) rfl (by (simp only [n_lt, n_le, n_eq, n_add, n_sub, n_mul, n_neg, n_lit, zw] at *; omega)) (fun k27 k28 => ?_) (fun k29 => by exfalso; (first | (simp only [n_lt, n_le, n_eq, n_add, n_sub, n_mul, n_neg, n_lit, zw] at *; omega) | simp_all))
        show ((1 : Int32) = 0 → Qm (some (.int (-2))) M) ∧ (¬ (1 : Int32) = 0 → mx g (d + 5) kX12_isNight 0 [.ref 48, .int (p2)] [] M _)
        refine ⟨fun q30 => absurd q30 (by decide), fun _ => ?_⟩
        refine c_X12_isNight (n := (M 48 1)) rfl (by (simp only [n_lt, n_le, n_eq, n_add, n_sub, n_mul, n_neg, n_lit, zw] at *; omega)) (fun k31 k32 => by exfalso; (first | (simp only [n_lt, n_le, n_eq, n_add, n_sub, n_mul, n_neg, n_lit, zw] at *; omega) | simp_all)) (fun k33 => ?_)
        show ((0 : Int32) = 0 → Qm (some (.int (-2))) M) ∧ (¬ (0 : Int32) = 0 → mx g (d + 5) kX12_in 0 [.ref 48, .int (p3), .int (0), .int (2)] [] M _)
        refine ⟨fun _ => ?_, fun q34 => absurd q34 (by decide)⟩
        refine hQm _ _ ⟨by first | rfl | simp only [s1, s2, s3, a1, a2, a3, a4, a5, h1, h2, h3, n_pred], ?_⟩
        exact hR
    · show ((0 : Int32) = 0 → Qx (some (.int (-2))) M) ∧ (¬ (0 : Int32) = 0 → mx g (d + 5) kX2_has 0 [.ref 5, .int (p2)] [] M _)
      refine ⟨fun _ => ?_, fun q23 => absurd q23 (by decide)⟩
      refine hQx _ _ ⟨(-2), rfl, ?_⟩
      refine mx_q (fun Qm hQm => ?_)
      refine mx_go 200 zq_t180 ?_
      show mx g (d + 5) kX12_isHow 0 [.ref 48, .int (p0)] [] M _
      refine c_X12_isHow (n := (M 48 2)) rfl (by (simp only [n_lt, n_le, n_eq, n_add, n_sub, n_mul, n_neg, n_lit, zw] at *; omega)) (fun k24 k25 => ?_) (fun k26 => by exfalso; (first | (simp only [n_lt, n_le, n_eq, n_add, n_sub, n_mul, n_neg, n_lit, zw] at *; omega) | simp_all))
      show ((1 : Int32) = 0 → Qm (some (.int (-2))) M) ∧ (¬ (1 : Int32) = 0 → mx g (d + 5) kX12_isStone 0 [.ref 48, .int (p1)] [] M _)
      refine ⟨fun q27 => absurd q27 (by decide), fun _ => ?_⟩
      refine c_X12_isStone (n := (M 48 0)) rfl (by (simp only [n_lt, n_le, n_eq, n_add, n_sub, n_mul, n_neg, n_lit, zw] at *; omega)) (fun k28 k29 => by exfalso; (first | (simp only [n_lt, n_le, n_eq, n_add, n_sub, n_mul, n_neg, n_lit, zw] at *; omega) | simp_all)) (fun k30 => ?_)
      show ((0 : Int32) = 0 → Qm (some (.int (-2))) M) ∧ (¬ (0 : Int32) = 0 → mx g (d + 5) kX12_isNight 0 [.ref 48, .int (p2)] [] M _)
      refine ⟨fun _ => ?_, fun q31 => absurd q31 (by decide)⟩
      refine hQm _ _ ⟨by first | rfl | simp only [s1, s2, s3, a1, a2, a3, a4, a5, h1, h2, h3, n_pred], ?_⟩
      exact hR
  · show ((0 : Int32) = 0 → Qx (some (.int (-2))) M) ∧ (¬ (0 : Int32) = 0 → mx g (d + 5) kX7_has 0 [.ref 1, .int (p1)] [] M _)
    refine ⟨fun _ => ?_, fun q24 => absurd q24 (by decide)⟩
    refine hQx _ _ ⟨(-2), rfl, ?_⟩
    refine mx_q (fun Qm hQm => ?_)
    refine mx_go 200 zq_t180 ?_
    show mx g (d + 5) kX12_isHow 0 [.ref 48, .int (p0)] [] M _
    refine c_X12_isHow (n := (M 48 2)) rfl (by (simp only [n_lt, n_le, n_eq, n_add, n_sub, n_mul, n_neg, n_lit, zw] at *; omega)) (fun k25 k26 => by exfalso; (first | (simp only [n_lt, n_le, n_eq, n_add, n_sub, n_mul, n_neg, n_lit, zw] at *; omega) | simp_all)) (fun k27 => ?_)
    show ((0 : Int32) = 0 → Qm (some (.int (-2))) M) ∧ (¬ (0 : Int32) = 0 → mx g (d + 5) kX12_isStone 0 [.ref 48, .int (p1)] [] M _)
    refine ⟨fun _ => ?_, fun q28 => absurd q28 (by decide)⟩
    refine hQm _ _ ⟨by first | rfl | simp only [s1, s2, s3, a1, a2, a3, a4, a5, h1, h2, h3, n_pred], ?_⟩
    exact hR

set_option maxHeartbeats 4000000 in
theorem op_needs {g : zq_G} {d : Nat} {M : zq_M} {p0 p1 p2 : Int32} (hR : RR M) : pri g (d + 6) kX11_needs kX12_needs [.ref 0, .int (p0), .int (p1), .int (p2), .null] [.ref 48, .int (p0), .int (p1), .int (p2), .null, .null] M := by
  obtain ⟨hS, hN, hH, hT, hP, hI, hE, hF, hX, hV⟩ := id hR
  obtain ⟨s1, s2, s3, s4, s5, s6, s7, s8⟩ := id hS
  obtain ⟨a1, a2, a3, a4, a5, a6, a7, a8, a9, a10, a11⟩ := id hN
  obtain ⟨h1, h2, h3, h4, h5, h6, h7⟩ := id hH
  refine mx_q (fun Qx hQx => ?_)
  refine mx_go 200 zq_t96 ?_
  show mx g (d + 5) kX0_has 0 [.ref 10, .int (p0)] [] M _
  refine c_X0_has (n := (M 10 2)) rfl (fun k1 k2 => ?_) (fun k3 => ?_)
  · show ((1 : Int32) = 0 → Qx (some (.int (-2))) M) ∧ (¬ (1 : Int32) = 0 → mx g (d + 5) kX7_has 0 [.ref 1, .int (p1)] [] M _)
    refine ⟨fun q4 => absurd q4 (by decide), fun _ => ?_⟩
    refine c_X7_has (n := (M 1 3)) rfl (fun k5 k6 => ?_) (fun k7 => ?_)
    · show ((1 : Int32) = 0 → Qx (some (.int (-2))) M) ∧ (¬ (1 : Int32) = 0 → mx g (d + 5) kX2_has 0 [.ref 5, .int (p2)] [] M _)
      refine ⟨fun q8 => absurd q8 (by decide), fun _ => ?_⟩
      refine c_X2_has (n := (M 5 4)) rfl (fun k9 k10 => ?_) (fun k11 => ?_)
      · show (¬ (1 : Int32) = 0 → mx g (d + 6) kX11_needs 39 [.ref 0, .int (p0), .int (p1), .int (p2), .int (0)] [] M Qx) ∧ ((1 : Int32) = 0 → Qx (some (.int (-2))) M)
        refine ⟨fun _ => ?_, fun q12 => absurd q12 (by decide)⟩
        refine c_X11_needs39 (RR_5 hR) (by (simp only [n_lt, n_le, n_eq, n_add, n_sub, n_mul, n_neg, n_lit, zw] at *; omega)) (by (simp only [n_lt, n_le, n_eq, n_add, n_sub, n_mul, n_neg, n_lit, zw] at *; omega)) (by (simp only [n_lt, n_le, n_eq, n_add, n_sub, n_mul, n_neg, n_lit, zw] at *; omega)) (by (simp only [n_lt, n_le, n_eq, n_add, n_sub, n_mul, n_neg, n_lit, zw] at *; omega)) (by (simp only [n_lt, n_le, n_eq, n_add, n_sub, n_mul, n_neg, n_lit, zw] at *; omega)) (by (simp only [n_lt, n_le, n_eq, n_add, n_sub, n_mul, n_neg, n_lit, zw] at *; omega)) (fun v14 N13 u15 => ?_)
        refine hQx _ _ ⟨v14, rfl, ?_⟩
        refine mx_q (fun Qm hQm => ?_)
        refine mx_go 200 zq_t181 ?_
        show mx g (d + 5) kX12_isHow 0 [.ref 48, .int (p0)] [] (mv [16, 17] N13 M) _
        refine c_X12_isHow (n := (M 48 2)) rfl (by (simp only [n_lt, n_le, n_eq, n_add, n_sub, n_mul, n_neg, n_lit, zw] at *; omega)) (fun k16 k17 => ?_) (fun k18 => by exfalso; (first | (simp only [n_lt, n_le, n_eq, n_add, n_sub, n_mul, n_neg, n_lit, zw] at *; omega) | simp_all))
        show ((1 : Int32) = 0 → Qm (some (.int (-2))) (mv [16, 17] N13 M)) ∧ (¬ (1 : Int32) = 0 → mx g (d + 5) kX12_isStone 0 [.ref 48, .int (p1)] [] (mv [16, 17] N13 M) _)
        refine ⟨fun q19 => absurd q19 (by decide), fun _ => ?_⟩
        refine c_X12_isStone (n := (M 48 0)) rfl (by (simp only [n_lt, n_le, n_eq, n_add, n_sub, n_mul, n_neg, n_lit, zw] at *; omega)) (fun k20 k21 => ?_) (fun k22 => by exfalso; (first | (simp only [n_lt, n_le, n_eq, n_add, n_sub, n_mul, n_neg, n_lit, zw] at *; omega) | simp_all))
        show ((1 : Int32) = 0 → Qm (some (.int (-2))) (mv [16, 17] N13 M)) ∧ (¬ (1 : Int32) = 0 → mx g (d + 5) kX12_isNight 0 [.ref 48, .int (p2)] [] (mv [16, 17] N13 M) _)
        refine ⟨fun q23 => absurd q23 (by decide), fun _ => ?_⟩
        refine c_X12_isNight (n := (M 48 1)) rfl (by (simp only [n_lt, n_le, n_eq, n_add, n_sub, n_mul, n_neg, n_lit, zw] at *; omega)) (fun k24 k25 => ?_) (fun k26 => by exfalso; (first | (simp only [n_lt, n_le, n_eq, n_add, n_sub, n_mul, n_neg, n_lit, zw] at *; omega) | simp_all))
        show (¬ (1 : Int32) = 0 → mx g (d + 6) kX12_needs 34 [.ref 48, .int (p0), .int (p1), .int (p2), .int ((-1)), .int (99)] [] (mv [16, 17] N13 M) Qm) ∧ ((1 : Int32) = 0 → Qm (some (.int (-2))) (mv [16, 17] N13 M))
        refine ⟨fun _ => ?_, fun q27 => absurd q27 (by decide)⟩
        refine c_X12_needs34 (v := v14) (RR_5 hR) u15 (by (simp only [n_lt, n_le, n_eq, n_add, n_sub, n_mul, n_neg, n_lit, zw] at *; omega)) (by (simp only [n_lt, n_le, n_eq, n_add, n_sub, n_mul, n_neg, n_lit, zw] at *; omega)) (by (simp only [n_lt, n_le, n_eq, n_add, n_sub, n_mul, n_neg, n_lit, zw] at *; omega)) (by (simp only [n_lt, n_le, n_eq, n_add, n_sub, n_mul, n_neg, n_lit, zw] at *; omega)) (by (simp only [n_lt, n_le, n_eq, n_add, n_sub, n_mul, n_neg, n_lit, zw] at *; omega)) (by (simp only [n_lt, n_le, n_eq, n_add, n_sub, n_mul, n_neg, n_lit, zw] at *; omega)) (fun N28 => ?_)
        refine hQm _ _ ⟨by first | rfl | simp only [s1, s2, s3, a1, a2, a3, a4, a5, h1, h2, h3, n_pred], ?_⟩
        exact ⟨hS, hN, hH, hT, hP, hI, hE, hF, hX, rfl⟩
      · show (¬ (0 : Int32) = 0 → mx g (d + 6) kX11_needs 39 [.ref 0, .int (p0), .int (p1), .int (p2), .int (0)] [] M Qx) ∧ ((0 : Int32) = 0 → Qx (some (.int (-2))) M)
        refine ⟨fun q16 => absurd q16 (by decide), fun _ => ?_⟩
        refine hQx _ _ ⟨(-2), rfl, ?_⟩
        refine mx_q (fun Qm hQm => ?_)
        refine mx_go 200 zq_t181 ?_
        show mx g (d + 5) kX12_isHow 0 [.ref 48, .int (p0)] [] M _
        refine c_X12_isHow (n := (M 48 2)) rfl (by (simp only [n_lt, n_le, n_eq, n_add, n_sub, n_mul, n_neg, n_lit, zw] at *; omega)) (fun k17 k18 => ?_) (fun k19 => by exfalso; (first | (simp only [n_lt, n_le, n_eq, n_add, n_sub, n_mul, n_neg, n_lit, zw] at *; omega) | simp_all))
        show ((1 : Int32) = 0 → Qm (some (.int (-2))) M) ∧ (¬ (1 : Int32) = 0 → mx g (d + 5) kX12_isStone 0 [.ref 48, .int (p1)] [] M _)
        refine ⟨fun q20 => absurd q20 (by decide), fun _ => ?_⟩
        refine c_X12_isStone (n := (M 48 0)) rfl (by (simp only [n_lt, n_le, n_eq, n_add, n_sub, n_mul, n_neg, n_lit, zw] at *; omega)) (fun k21 k22 => ?_) (fun k23 => by exfalso; (first | (simp only [n_lt, n_le, n_eq, n_add, n_sub, n_mul, n_neg, n_lit, zw] at *; omega) | simp_all))
        show ((1 : Int32) = 0 → Qm (some (.int (-2))) M) ∧ (¬ (1 : Int32) = 0 → mx g (d + 5) kX12_isNight 0 [.ref 48, .int (p2)] [] M _)
        refine ⟨fun q24 => absurd q24 (by decide), fun _ => ?_⟩
        refine c_X12_isNight (n := (M 48 1)) rfl (by (simp only [n_lt, n_le, n_eq, n_add, n_sub, n_mul, n_neg, n_lit, zw] at *; omega)) (fun k25 k26 => by exfalso; (first | (simp only [n_lt, n_le, n_eq, n_add, n_sub, n_mul, n_neg, n_lit, zw] at *; omega) | simp_all)) (fun k27 => ?_)
        show (¬ (0 : Int32) = 0 → mx g (d + 6) kX12_needs 34 [.ref 48, .int (p0), .int (p1), .int (p2), .int ((-1)), .int (99)] [] M Qm) ∧ ((0 : Int32) = 0 → Qm (some (.int (-2))) M)
        refine ⟨fun q28 => absurd q28 (by decide), fun _ => ?_⟩
        refine hQm _ _ ⟨by first | rfl | simp only [s1, s2, s3, a1, a2, a3, a4, a5, h1, h2, h3, n_pred], ?_⟩
        exact hR
    · show ((0 : Int32) = 0 → Qx (some (.int (-2))) M) ∧ (¬ (0 : Int32) = 0 → mx g (d + 5) kX2_has 0 [.ref 5, .int (p2)] [] M _)
      refine ⟨fun _ => ?_, fun q17 => absurd q17 (by decide)⟩
      refine hQx _ _ ⟨(-2), rfl, ?_⟩
      refine mx_q (fun Qm hQm => ?_)
      refine mx_go 200 zq_t181 ?_
      show mx g (d + 5) kX12_isHow 0 [.ref 48, .int (p0)] [] M _
      refine c_X12_isHow (n := (M 48 2)) rfl (by (simp only [n_lt, n_le, n_eq, n_add, n_sub, n_mul, n_neg, n_lit, zw] at *; omega)) (fun k18 k19 => ?_) (fun k20 => by exfalso; (first | (simp only [n_lt, n_le, n_eq, n_add, n_sub, n_mul, n_neg, n_lit, zw] at *; omega) | simp_all))
      show ((1 : Int32) = 0 → Qm (some (.int (-2))) M) ∧ (¬ (1 : Int32) = 0 → mx g (d + 5) kX12_isStone 0 [.ref 48, .int (p1)] [] M _)
      refine ⟨fun q21 => absurd q21 (by decide), fun _ => ?_⟩
      refine c_X12_isStone (n := (M 48 0)) rfl (by (simp only [n_lt, n_le, n_eq, n_add, n_sub, n_mul, n_neg, n_lit, zw] at *; omega)) (fun k22 k23 => by exfalso; (first | (simp only [n_lt, n_le, n_eq, n_add, n_sub, n_mul, n_neg, n_lit, zw] at *; omega) | simp_all)) (fun k24 => ?_)
      show ((0 : Int32) = 0 → Qm (some (.int (-2))) M) ∧ (¬ (0 : Int32) = 0 → mx g (d + 5) kX12_isNight 0 [.ref 48, .int (p2)] [] M _)
      refine ⟨fun _ => ?_, fun q25 => absurd q25 (by decide)⟩
      refine hQm _ _ ⟨by first | rfl | simp only [s1, s2, s3, a1, a2, a3, a4, a5, h1, h2, h3, n_pred], ?_⟩
      exact hR
  · show ((0 : Int32) = 0 → Qx (some (.int (-2))) M) ∧ (¬ (0 : Int32) = 0 → mx g (d + 5) kX7_has 0 [.ref 1, .int (p1)] [] M _)
    refine ⟨fun _ => ?_, fun q18 => absurd q18 (by decide)⟩
    refine hQx _ _ ⟨(-2), rfl, ?_⟩
    refine mx_q (fun Qm hQm => ?_)
    refine mx_go 200 zq_t181 ?_
    show mx g (d + 5) kX12_isHow 0 [.ref 48, .int (p0)] [] M _
    refine c_X12_isHow (n := (M 48 2)) rfl (by (simp only [n_lt, n_le, n_eq, n_add, n_sub, n_mul, n_neg, n_lit, zw] at *; omega)) (fun k19 k20 => by exfalso; (first | (simp only [n_lt, n_le, n_eq, n_add, n_sub, n_mul, n_neg, n_lit, zw] at *; omega) | simp_all)) (fun k21 => ?_)
    show ((0 : Int32) = 0 → Qm (some (.int (-2))) M) ∧ (¬ (0 : Int32) = 0 → mx g (d + 5) kX12_isStone 0 [.ref 48, .int (p1)] [] M _)
    refine ⟨fun _ => ?_, fun q22 => absurd q22 (by decide)⟩
    refine hQm _ _ ⟨by first | rfl | simp only [s1, s2, s3, a1, a2, a3, a4, a5, h1, h2, h3, n_pred], ?_⟩
    exact hR

