/-- two tracks went together -/
def tog (t l : Nat → Int32) (a b : Nat) (off : Int) : Prop := t a = t b ∧ (l a).toInt - (l b).toInt ≤ off ∧ (l b).toInt - (l a).toInt ≤ off
theorem c_X9_wentTogether {g : zq_G} {d : Nat} {M : zq_M} {Q : Option Value → zq_M → Prop} {a b o : Int32} (hl : ∀ i, 0 ≤ (M 32 i).toInt ∧ (M 32 i).toInt ≤ 999) (ha : vp_in a 24) (hb : vp_in b 24) (h1 : tog (M 33) (M 32) a.toNatClampNeg b.toNatClampNeg o.toInt → True → Q (some (.int 1)) M) (h0 : ¬ tog (M 33) (M 32) a.toNatClampNeg b.toNatClampNeg o.toInt → Q (some (.int 0)) M) : mx g (d + 1) kX9_wentTogether 0 [.ref 30, .int a, .int b, .int o] [] M Q := by
  refine mx_go 60 zq_t80 ?_
  show vp_in a 24 ∧ vp_in b 24 ∧ (¬ (((M 33) (Int32.toNatClampNeg a)) : Int32) = (((M 33) (Int32.toNatClampNeg b)) : Int32) → zq_b 0 ∧ Q (some (.int 0)) M) ∧ ((((M 33) (Int32.toNatClampNeg a)) : Int32) = (((M 33) (Int32.toNatClampNeg b)) : Int32) → vp_in a 24 ∧ vp_in b 24 ∧ ((o : Int32) < ((if 0 ≤ (((M 32) (Int32.toNatClampNeg a)) - ((M 32) (Int32.toNatClampNeg b))) then (((M 32) (Int32.toNatClampNeg a)) - ((M 32) (Int32.toNatClampNeg b))) else 0 - (((M 32) (Int32.toNatClampNeg a)) - ((M 32) (Int32.toNatClampNeg b)))) : Int32) → zq_b 0 ∧ Q (some (.int 0)) M) ∧ (¬ (o : Int32) < ((if 0 ≤ (((M 32) (Int32.toNatClampNeg a)) - ((M 32) (Int32.toNatClampNeg b))) then (((M 32) (Int32.toNatClampNeg a)) - ((M 32) (Int32.toNatClampNeg b))) else 0 - (((M 32) (Int32.toNatClampNeg a)) - ((M 32) (Int32.toNatClampNeg b)))) : Int32) → zq_b 1 ∧ Q (some (.int 1)) M))
  have l1 := hl a.toNatClampNeg
  have l2 := hl b.toNatClampNeg
  have e : (M 32 a.toNatClampNeg - M 32 b.toNatClampNeg).toInt = (M 32 a.toNatClampNeg).toInt - (M 32 b.toNatClampNeg).toInt := by rw [n_sub, zw_id (by omega) (by omega)]
  have e2 : (0 - (M 32 a.toNatClampNeg - M 32 b.toNatClampNeg)).toInt = (M 32 b.toNatClampNeg).toInt - (M 32 a.toNatClampNeg).toInt := by rw [n_sub, e, n_0, zw_id (by omega) (by omega)]; omega
  refine ⟨ha, hb, fun q => ⟨Or.inl rfl, h0 (fun z => q z.1)⟩, fun q => ⟨ha, hb, fun r => ⟨Or.inl rfl, h0 (fun z => ?_)⟩, fun r => ⟨Or.inr rfl, h1 ⟨q, ?_⟩ trivial⟩⟩⟩
  · split at r
    · rw [n_lt, e] at r; have := z.2.1; omega
    · rw [n_lt, e2] at r; have := z.2.2; omega
  · split at r
    · next c => rw [n_le, n_0, e] at c; rw [n_lt, e] at r; omega
    · next c => rw [n_le, n_0, e] at c; rw [n_lt, e2] at r; omega
theorem c_X12_areTogether {g : zq_G} {d : Nat} {M : zq_M} {Q : Option Value → zq_M → Prop} {a b o : Int32} (hl : ∀ i, 0 ≤ (M 68 i).toInt ∧ (M 68 i).toInt ≤ 999) (ha : vp_in a 24) (hb : vp_in b 24) (h1 : tog (M 69) (M 68) a.toNatClampNeg b.toNatClampNeg o.toInt → True → Q (some (.int 1)) M) (h0 : ¬ tog (M 69) (M 68) a.toNatClampNeg b.toNatClampNeg o.toInt → Q (some (.int 0)) M) : mx g (d + 1) kX12_areTogether 0 [.ref 48, .int a, .int b, .int o] [] M Q := by
  refine mx_go 60 zq_t194 ?_
  show vp_in a 24 ∧ vp_in b 24 ∧ (¬ (((M 69) (Int32.toNatClampNeg a)) : Int32) = (((M 69) (Int32.toNatClampNeg b)) : Int32) → zq_b 0 ∧ Q (some (.int 0)) M) ∧ ((((M 69) (Int32.toNatClampNeg a)) : Int32) = (((M 69) (Int32.toNatClampNeg b)) : Int32) → vp_in a 24 ∧ vp_in b 24 ∧ mx g (d) kX12_apart 0 [.ref 48, .int (((M 68) (Int32.toNatClampNeg a))), .int (((M 68) (Int32.toNatClampNeg b)))] [] M _)
  have l1 := hl a.toNatClampNeg
  have l2 := hl b.toNatClampNeg
  have e : (M 68 a.toNatClampNeg - M 68 b.toNatClampNeg).toInt = (M 68 a.toNatClampNeg).toInt - (M 68 b.toNatClampNeg).toInt := by rw [n_sub, zw_id (by omega) (by omega)]
  have e2 : (M 68 b.toNatClampNeg - M 68 a.toNatClampNeg).toInt = (M 68 b.toNatClampNeg).toInt - (M 68 a.toNatClampNeg).toInt := by rw [n_sub, zw_id (by omega) (by omega)]
  refine ⟨ha, hb, fun q => ⟨Or.inl rfl, h0 (fun z => q z.1)⟩, fun q => ⟨ha, hb, ?_⟩⟩
  refine mx_q (fun Q1 hQ1 => ?_)
  refine mx_go 60 zq_t193 ?_
  show (((M 68 b.toNatClampNeg) : Int32) ≤ ((M 68 a.toNatClampNeg) : Int32) → Q1 (some (.int ((M 68 a.toNatClampNeg) - (M 68 b.toNatClampNeg)))) M) ∧ (¬ ((M 68 b.toNatClampNeg) : Int32) ≤ ((M 68 a.toNatClampNeg) : Int32) → Q1 (some (.int ((M 68 b.toNatClampNeg) - (M 68 a.toNatClampNeg)))) M)
  refine ⟨fun c => hQ1 _ _ ?_, fun c => hQ1 _ _ ?_⟩
  · show ((o : Int32) < ((M 68 a.toNatClampNeg - M 68 b.toNatClampNeg) : Int32) → zq_b 0 ∧ Q (some (.int 0)) M) ∧ (¬ (o : Int32) < ((M 68 a.toNatClampNeg - M 68 b.toNatClampNeg) : Int32) → zq_b 1 ∧ Q (some (.int 1)) M)
    rw [n_le] at c
    refine ⟨fun r => ⟨Or.inl rfl, h0 (fun z => ?_)⟩, fun r => ⟨Or.inr rfl, h1 ⟨q, ?_⟩ trivial⟩⟩
    · rw [n_lt, e] at r; have := z.2.1; omega
    · rw [n_lt, e] at r; omega
  · show ((o : Int32) < ((M 68 b.toNatClampNeg - M 68 a.toNatClampNeg) : Int32) → zq_b 0 ∧ Q (some (.int 0)) M) ∧ (¬ (o : Int32) < ((M 68 b.toNatClampNeg - M 68 a.toNatClampNeg) : Int32) → zq_b 1 ∧ Q (some (.int 1)) M)
    rw [n_le] at c
    refine ⟨fun r => ⟨Or.inl rfl, h0 (fun z => ?_)⟩, fun r => ⟨Or.inr rfl, h1 ⟨q, ?_⟩ trivial⟩⟩
    · rw [n_lt, e2] at r; have := z.2.2; omega
    · rw [n_lt, e2] at r; omega
set_option maxHeartbeats 4000000 in
theorem op_together {g : zq_G} {d : Nat} {M : zq_M} {p0 p1 p2 : Int32} (hR : RR M) : pri g (d + 6) kX11_together kX12_together [.ref 0, .int (p0), .int (p1), .int (p2)] [.ref 48, .int (p0), .int (p1), .int (p2)] M := by
  obtain ⟨hS, hN, hH, hT, hP, hI, hE, hF, hX, hV⟩ := id hR
  obtain ⟨t1, t2, t3, t4, t5, t6, t7, t8, t9, t10, t11, t12, t13, t14, t15, t16⟩ := id hT
  refine mx_q (fun Qx hQx => ?_)
  refine mx_go 200 zq_t103 ?_
  show mx g (d + 5) kX9_has 0 [.ref 30, .int (p0)] [] M _
  refine c_X9_has (n := (M 30 7)) rfl (fun k1 k2 => ?_) (fun k3 => ?_)
  · show ((1 : Int32) = 0 → Qx (some (.int (-2))) M) ∧ (¬ (1 : Int32) = 0 → mx g (d + 5) kX9_has 0 [.ref 30, .int (p1)] [] M _)
    refine ⟨fun q4 => absurd q4 (by decide), fun _ => ?_⟩
    refine c_X9_has (n := (M 30 7)) rfl (fun k5 k6 => ?_) (fun k7 => ?_)
    · show ((1 : Int32) = 0 → Qx (some (.int (-2))) M) ∧ (¬ (1 : Int32) = 0 → ((p0 : Int32) = (p1 : Int32) → Qx (some (.int (-2))) M) ∧ (¬ (p0 : Int32) = (p1 : Int32) → mx g (d + 5) kX11_isOff 0 [.int (p2)] [] M _))
      refine ⟨fun q8 => absurd q8 (by decide), fun _ => ?_⟩
      refine ⟨fun q9 => ?_, fun q9 => ?_⟩
      · refine hQx _ _ ⟨(-2), rfl, ?_⟩
        refine mx_q (fun Qm hQm => ?_)
        refine mx_go 200 zq_t195 ?_
        show mx g (d + 5) kX12_isTrack 0 [.ref 48, .int (p0)] [] M _
        refine c_X12_isTrack (n := (M 48 32)) rfl (by (simp only [n_lt, n_le, n_eq, n_add, n_sub, n_mul, n_neg, n_lit, zw] at *; omega)) (fun k10 k11 => ?_) (fun k12 => by exfalso; (first | (simp only [n_lt, n_le, n_eq, n_add, n_sub, n_mul, n_neg, n_lit, zw] at *; omega) | (simp only [t4, t5] at *; contradiction)))
        show ((1 : Int32) = 0 → Qm (some (.int (-2))) M) ∧ (¬ (1 : Int32) = 0 → mx g (d + 5) kX12_isTrack 0 [.ref 48, .int (p1)] [] M _)
        refine ⟨fun q13 => absurd q13 (by decide), fun _ => ?_⟩
        refine c_X12_isTrack (n := (M 48 32)) rfl (by (simp only [n_lt, n_le, n_eq, n_add, n_sub, n_mul, n_neg, n_lit, zw] at *; omega)) (fun k14 k15 => ?_) (fun k16 => by exfalso; (first | (simp only [n_lt, n_le, n_eq, n_add, n_sub, n_mul, n_neg, n_lit, zw] at *; omega) | (simp only [t4, t5] at *; contradiction)))
        show ((1 : Int32) = 0 → Qm (some (.int (-2))) M) ∧ (¬ (1 : Int32) = 0 → ((p0 : Int32) = (p1 : Int32) → Qm (some (.int (-2))) M) ∧ (¬ (p0 : Int32) = (p1 : Int32) → mx g (d + 5) kX12_in 0 [.ref 48, .int (p2), .int (0), .int (99)] [] M _))
        refine ⟨fun q17 => absurd q17 (by decide), fun _ => ?_⟩
        refine ⟨fun q18 => ?_, fun q18 => by exfalso; (first | (simp only [n_lt, n_le, n_eq, n_add, n_sub, n_mul, n_neg, n_lit, zw] at *; omega) | (simp only [t4, t5] at *; contradiction))⟩
        refine hQm _ _ ⟨by first | rfl | simp only [t1, t2, t3, t4, t5, t6, t7], ?_⟩
        exact hR
      · refine c_X11_isOff (fun k10 k11 => ?_) (fun k12 => ?_)
        · show (¬ (1 : Int32) = 0 → mx g (d + 5) kX9_wentTogether 0 [.ref 30, .int (p0), .int (p1), .int (p2)] [] M _) ∧ ((1 : Int32) = 0 → Qx (some (.int (-2))) M)
          refine ⟨fun _ => ?_, fun q13 => absurd q13 (by decide)⟩
          refine c_X9_wentTogether t13 (n_in (by (simp only [n_lt, n_le, n_eq, n_add, n_sub, n_mul, n_neg, n_lit, zw] at *; omega)) (by (simp only [n_lt, n_le, n_eq, n_add, n_sub, n_mul, n_neg, n_lit, zw] at *; omega))) (n_in (by (simp only [n_lt, n_le, n_eq, n_add, n_sub, n_mul, n_neg, n_lit, zw] at *; omega)) (by (simp only [n_lt, n_le, n_eq, n_add, n_sub, n_mul, n_neg, n_lit, zw] at *; omega))) (fun k14 k15 => ?_) (fun k16 => ?_)
          · show mx g (d + 5) kX11_bit 0 [.int (1)] [] M _
            refine c_X11_bit (fun k17 => ?_) (fun k18 => by exfalso; (first | (simp only [n_lt, n_le, n_eq, n_add, n_sub, n_mul, n_neg, n_lit, zw] at *; omega) | (simp only [t4, t5] at *; contradiction)))
            show Qx (some (.int 1)) M
            refine hQx _ _ ⟨1, rfl, ?_⟩
            refine mx_q (fun Qm hQm => ?_)
            refine mx_go 200 zq_t195 ?_
            show mx g (d + 5) kX12_isTrack 0 [.ref 48, .int (p0)] [] M _
            refine c_X12_isTrack (n := (M 48 32)) rfl (by (simp only [n_lt, n_le, n_eq, n_add, n_sub, n_mul, n_neg, n_lit, zw] at *; omega)) (fun k19 k20 => ?_) (fun k21 => by exfalso; (first | (simp only [n_lt, n_le, n_eq, n_add, n_sub, n_mul, n_neg, n_lit, zw] at *; omega) | (simp only [t4, t5] at *; contradiction)))
            show ((1 : Int32) = 0 → Qm (some (.int (-2))) M) ∧ (¬ (1 : Int32) = 0 → mx g (d + 5) kX12_isTrack 0 [.ref 48, .int (p1)] [] M _)
            refine ⟨fun q22 => absurd q22 (by decide), fun _ => ?_⟩
            refine c_X12_isTrack (n := (M 48 32)) rfl (by (simp only [n_lt, n_le, n_eq, n_add, n_sub, n_mul, n_neg, n_lit, zw] at *; omega)) (fun k23 k24 => ?_) (fun k25 => by exfalso; (first | (simp only [n_lt, n_le, n_eq, n_add, n_sub, n_mul, n_neg, n_lit, zw] at *; omega) | (simp only [t4, t5] at *; contradiction)))
            show ((1 : Int32) = 0 → Qm (some (.int (-2))) M) ∧ (¬ (1 : Int32) = 0 → ((p0 : Int32) = (p1 : Int32) → Qm (some (.int (-2))) M) ∧ (¬ (p0 : Int32) = (p1 : Int32) → mx g (d + 5) kX12_in 0 [.ref 48, .int (p2), .int (0), .int (99)] [] M _))
            refine ⟨fun q26 => absurd q26 (by decide), fun _ => ?_⟩
            refine ⟨fun q27 => by exfalso; (first | (simp only [n_lt, n_le, n_eq, n_add, n_sub, n_mul, n_neg, n_lit, zw] at *; omega) | (simp only [t4, t5] at *; contradiction)), fun q27 => ?_⟩
            refine c_X12_in (fun k28 k29 => ?_) (fun k30 => by exfalso; (first | (simp only [n_lt, n_le, n_eq, n_add, n_sub, n_mul, n_neg, n_lit, zw] at *; omega) | (simp only [t4, t5] at *; contradiction)))
            show (¬ (1 : Int32) = 0 → mx g (d + 5) kX12_areTogether 0 [.ref 48, .int (p0), .int (p1), .int (p2)] [] M _) ∧ ((1 : Int32) = 0 → Qm (some (.int (-2))) M)
            refine ⟨fun _ => ?_, fun q31 => absurd q31 (by decide)⟩
            refine c_X12_areTogether (by rw [t4]; exact t13) (n_in (by (simp only [n_lt, n_le, n_eq, n_add, n_sub, n_mul, n_neg, n_lit, zw] at *; omega)) (by (simp only [n_lt, n_le, n_eq, n_add, n_sub, n_mul, n_neg, n_lit, zw] at *; omega))) (n_in (by (simp only [n_lt, n_le, n_eq, n_add, n_sub, n_mul, n_neg, n_lit, zw] at *; omega)) (by (simp only [n_lt, n_le, n_eq, n_add, n_sub, n_mul, n_neg, n_lit, zw] at *; omega))) (fun k32 k33 => ?_) (fun k34 => by exfalso; (first | (simp only [n_lt, n_le, n_eq, n_add, n_sub, n_mul, n_neg, n_lit, zw] at *; omega) | (simp only [t4, t5] at *; contradiction)))
            show ((1 : Int32) = 0 → Qm (some (.int 0)) M) ∧ (¬ (1 : Int32) = 0 → Qm (some (.int 1)) M)
            refine ⟨fun q35 => absurd q35 (by decide), fun _ => ?_⟩
            refine hQm _ _ ⟨by first | rfl | simp only [t1, t2, t3, t4, t5, t6, t7], ?_⟩
            exact hR
          · show mx g (d + 5) kX11_bit 0 [.int (0)] [] M _
            refine c_X11_bit (fun k19 => by exfalso; (first | (simp only [n_lt, n_le, n_eq, n_add, n_sub, n_mul, n_neg, n_lit, zw] at *; omega) | (simp only [t4, t5] at *; contradiction))) (fun k20 => ?_)
            show Qx (some (.int 0)) M
            refine hQx _ _ ⟨0, rfl, ?_⟩
            refine mx_q (fun Qm hQm => ?_)
            refine mx_go 200 zq_t195 ?_
            show mx g (d + 5) kX12_isTrack 0 [.ref 48, .int (p0)] [] M _
            refine c_X12_isTrack (n := (M 48 32)) rfl (by (simp only [n_lt, n_le, n_eq, n_add, n_sub, n_mul, n_neg, n_lit, zw] at *; omega)) (fun k21 k22 => ?_) (fun k23 => by exfalso; (first | (simp only [n_lt, n_le, n_eq, n_add, n_sub, n_mul, n_neg, n_lit, zw] at *; omega) | (simp only [t4, t5] at *; contradiction)))
            show ((1 : Int32) = 0 → Qm (some (.int (-2))) M) ∧ (¬ (1 : Int32) = 0 → mx g (d + 5) kX12_isTrack 0 [.ref 48, .int (p1)] [] M _)
            refine ⟨fun q24 => absurd q24 (by decide), fun _ => ?_⟩
            refine c_X12_isTrack (n := (M 48 32)) rfl (by (simp only [n_lt, n_le, n_eq, n_add, n_sub, n_mul, n_neg, n_lit, zw] at *; omega)) (fun k25 k26 => ?_) (fun k27 => by exfalso; (first | (simp only [n_lt, n_le, n_eq, n_add, n_sub, n_mul, n_neg, n_lit, zw] at *; omega) | (simp only [t4, t5] at *; contradiction)))
            show ((1 : Int32) = 0 → Qm (some (.int (-2))) M) ∧ (¬ (1 : Int32) = 0 → ((p0 : Int32) = (p1 : Int32) → Qm (some (.int (-2))) M) ∧ (¬ (p0 : Int32) = (p1 : Int32) → mx g (d + 5) kX12_in 0 [.ref 48, .int (p2), .int (0), .int (99)] [] M _))
            refine ⟨fun q28 => absurd q28 (by decide), fun _ => ?_⟩
            refine ⟨fun q29 => by exfalso; (first | (simp only [n_lt, n_le, n_eq, n_add, n_sub, n_mul, n_neg, n_lit, zw] at *; omega) | (simp only [t4, t5] at *; contradiction)), fun q29 => ?_⟩
            refine c_X12_in (fun k30 k31 => ?_) (fun k32 => by exfalso; (first | (simp only [n_lt, n_le, n_eq, n_add, n_sub, n_mul, n_neg, n_lit, zw] at *; omega) | (simp only [t4, t5] at *; contradiction)))
            show (¬ (1 : Int32) = 0 → mx g (d + 5) kX12_areTogether 0 [.ref 48, .int (p0), .int (p1), .int (p2)] [] M _) ∧ ((1 : Int32) = 0 → Qm (some (.int (-2))) M)
            refine ⟨fun _ => ?_, fun q33 => absurd q33 (by decide)⟩
            refine c_X12_areTogether (by rw [t4]; exact t13) (n_in (by (simp only [n_lt, n_le, n_eq, n_add, n_sub, n_mul, n_neg, n_lit, zw] at *; omega)) (by (simp only [n_lt, n_le, n_eq, n_add, n_sub, n_mul, n_neg, n_lit, zw] at *; omega))) (n_in (by (simp only [n_lt, n_le, n_eq, n_add, n_sub, n_mul, n_neg, n_lit, zw] at *; omega)) (by (simp only [n_lt, n_le, n_eq, n_add, n_sub, n_mul, n_neg, n_lit, zw] at *; omega))) (fun k34 k35 => by exfalso; (first | (simp only [n_lt, n_le, n_eq, n_add, n_sub, n_mul, n_neg, n_lit, zw] at *; omega) | (simp only [t4, t5] at *; contradiction))) (fun k36 => ?_)
            show ((0 : Int32) = 0 → Qm (some (.int 0)) M) ∧ (¬ (0 : Int32) = 0 → Qm (some (.int 1)) M)
            refine ⟨fun _ => ?_, fun q37 => absurd q37 (by decide)⟩
            refine hQm _ _ ⟨by first | rfl | simp only [t1, t2, t3, t4, t5, t6, t7], ?_⟩
            exact hR
        · show (¬ (0 : Int32) = 0 → mx g (d + 5) kX9_wentTogether 0 [.ref 30, .int (p0), .int (p1), .int (p2)] [] M _) ∧ ((0 : Int32) = 0 → Qx (some (.int (-2))) M)
          refine ⟨fun q21 => absurd q21 (by decide), fun _ => ?_⟩
          refine hQx _ _ ⟨(-2), rfl, ?_⟩
          refine mx_q (fun Qm hQm => ?_)
          refine mx_go 200 zq_t195 ?_
          show mx g (d + 5) kX12_isTrack 0 [.ref 48, .int (p0)] [] M _
          refine c_X12_isTrack (n := (M 48 32)) rfl (by (simp only [n_lt, n_le, n_eq, n_add, n_sub, n_mul, n_neg, n_lit, zw] at *; omega)) (fun k22 k23 => ?_) (fun k24 => by exfalso; (first | (simp only [n_lt, n_le, n_eq, n_add, n_sub, n_mul, n_neg, n_lit, zw] at *; omega) | (simp only [t4, t5] at *; contradiction)))
          show ((1 : Int32) = 0 → Qm (some (.int (-2))) M) ∧ (¬ (1 : Int32) = 0 → mx g (d + 5) kX12_isTrack 0 [.ref 48, .int (p1)] [] M _)
          refine ⟨fun q25 => absurd q25 (by decide), fun _ => ?_⟩
          refine c_X12_isTrack (n := (M 48 32)) rfl (by (simp only [n_lt, n_le, n_eq, n_add, n_sub, n_mul, n_neg, n_lit, zw] at *; omega)) (fun k26 k27 => ?_) (fun k28 => by exfalso; (first | (simp only [n_lt, n_le, n_eq, n_add, n_sub, n_mul, n_neg, n_lit, zw] at *; omega) | (simp only [t4, t5] at *; contradiction)))
          show ((1 : Int32) = 0 → Qm (some (.int (-2))) M) ∧ (¬ (1 : Int32) = 0 → ((p0 : Int32) = (p1 : Int32) → Qm (some (.int (-2))) M) ∧ (¬ (p0 : Int32) = (p1 : Int32) → mx g (d + 5) kX12_in 0 [.ref 48, .int (p2), .int (0), .int (99)] [] M _))
          refine ⟨fun q29 => absurd q29 (by decide), fun _ => ?_⟩
          refine ⟨fun q30 => by exfalso; (first | (simp only [n_lt, n_le, n_eq, n_add, n_sub, n_mul, n_neg, n_lit, zw] at *; omega) | (simp only [t4, t5] at *; contradiction)), fun q30 => ?_⟩
          refine c_X12_in (fun k31 k32 => by exfalso; (first | (simp only [n_lt, n_le, n_eq, n_add, n_sub, n_mul, n_neg, n_lit, zw] at *; omega) | (simp only [t4, t5] at *; contradiction))) (fun k33 => ?_)
          show (¬ (0 : Int32) = 0 → mx g (d + 5) kX12_areTogether 0 [.ref 48, .int (p0), .int (p1), .int (p2)] [] M _) ∧ ((0 : Int32) = 0 → Qm (some (.int (-2))) M)
          refine ⟨fun q34 => absurd q34 (by decide), fun _ => ?_⟩
          refine hQm _ _ ⟨by first | rfl | simp only [t1, t2, t3, t4, t5, t6, t7], ?_⟩
          exact hR
    · show ((0 : Int32) = 0 → Qx (some (.int (-2))) M) ∧ (¬ (0 : Int32) = 0 → ((p0 : Int32) = (p1 : Int32) → Qx (some (.int (-2))) M) ∧ (¬ (p0 : Int32) = (p1 : Int32) → mx g (d + 5) kX11_isOff 0 [.int (p2)] [] M _))
      refine ⟨fun _ => ?_, fun q22 => absurd q22 (by decide)⟩
      refine hQx _ _ ⟨(-2), rfl, ?_⟩
      refine mx_q (fun Qm hQm => ?_)
      refine mx_go 200 zq_t195 ?_
      show mx g (d + 5) kX12_isTrack 0 [.ref 48, .int (p0)] [] M _
      refine c_X12_isTrack (n := (M 48 32)) rfl (by (simp only [n_lt, n_le, n_eq, n_add, n_sub, n_mul, n_neg, n_lit, zw] at *; omega)) (fun k23 k24 => ?_) (fun k25 => by exfalso; (first | (simp only [n_lt, n_le, n_eq, n_add, n_sub, n_mul, n_neg, n_lit, zw] at *; omega) | (simp only [t4, t5] at *; contradiction)))
      show ((1 : Int32) = 0 → Qm (some (.int (-2))) M) ∧ (¬ (1 : Int32) = 0 → mx g (d + 5) kX12_isTrack 0 [.ref 48, .int (p1)] [] M _)
      refine ⟨fun q26 => absurd q26 (by decide), fun _ => ?_⟩
      refine c_X12_isTrack (n := (M 48 32)) rfl (by (simp only [n_lt, n_le, n_eq, n_add, n_sub, n_mul, n_neg, n_lit, zw] at *; omega)) (fun k27 k28 => by exfalso; (first | (simp only [n_lt, n_le, n_eq, n_add, n_sub, n_mul, n_neg, n_lit, zw] at *; omega) | (simp only [t4, t5] at *; contradiction))) (fun k29 => ?_)
      show ((0 : Int32) = 0 → Qm (some (.int (-2))) M) ∧ (¬ (0 : Int32) = 0 → ((p0 : Int32) = (p1 : Int32) → Qm (some (.int (-2))) M) ∧ (¬ (p0 : Int32) = (p1 : Int32) → mx g (d + 5) kX12_in 0 [.ref 48, .int (p2), .int (0), .int (99)] [] M _))
      refine ⟨fun _ => ?_, fun q30 => absurd q30 (by decide)⟩
      refine hQm _ _ ⟨by first | rfl | simp only [t1, t2, t3, t4, t5, t6, t7], ?_⟩
      exact hR
  · show ((0 : Int32) = 0 → Qx (some (.int (-2))) M) ∧ (¬ (0 : Int32) = 0 → mx g (d + 5) kX9_has 0 [.ref 30, .int (p1)] [] M _)
    refine ⟨fun _ => ?_, fun q23 => absurd q23 (by decide)⟩
    refine hQx _ _ ⟨(-2), rfl, ?_⟩
    refine mx_q (fun Qm hQm => ?_)
    refine mx_go 200 zq_t195 ?_
    show mx g (d + 5) kX12_isTrack 0 [.ref 48, .int (p0)] [] M _
    refine c_X12_isTrack (n := (M 48 32)) rfl (by (simp only [n_lt, n_le, n_eq, n_add, n_sub, n_mul, n_neg, n_lit, zw] at *; omega)) (fun k24 k25 => by exfalso; (first | (simp only [n_lt, n_le, n_eq, n_add, n_sub, n_mul, n_neg, n_lit, zw] at *; omega) | (simp only [t4, t5] at *; contradiction))) (fun k26 => ?_)
    show ((0 : Int32) = 0 → Qm (some (.int (-2))) M) ∧ (¬ (0 : Int32) = 0 → mx g (d + 5) kX12_isTrack 0 [.ref 48, .int (p1)] [] M _)
    refine ⟨fun _ => ?_, fun q27 => absurd q27 (by decide)⟩
    refine hQm _ _ ⟨by first | rfl | simp only [t1, t2, t3, t4, t5, t6, t7], ?_⟩
    exact hR

def und (k o : Int) : Prop := o = 0 ∨ k = o ∨ (o = 1 ∧ 2 ≤ k ∧ k ≤ 4) ∨ (o = 2 ∧ 3 ≤ k ∧ k ≤ 4)
theorem c_X11_isUnder {g : zq_G} {d : Nat} {M : zq_M} {Q : Option Value → zq_M → Prop} {k o : Int32} (hk : 0 ≤ k.toInt ∧ k.toInt ≤ 5) (ho : 0 ≤ o.toInt ∧ o.toInt ≤ 5) (h1 : und k.toInt o.toInt → True → Q (some (.int 1)) M) (h0 : ¬ und k.toInt o.toInt → Q (some (.int 0)) M) : mx g (d + 1) kX11_isUnder 0 [.int k, .int o, .null, .null] [] M Q := by
  have st : ∀ (a j : Int32), 0 ≤ a.toInt → a.toInt ≤ 5 → j.toInt < 6 → (a = o → Q (some (.int 1)) M) → (¬ a = o → mx g (d + 1) kX11_isUnder 4 [.null, .int o, .int (zq_rf g 1 a.toNatClampNeg), .int (j + 1)] [] M Q) → mx g (d + 1) kX11_isUnder 4 [.null, .int o, .int a, .int j] [] M Q := by
    intro a j a1 a2 j1 q1 q2
    refine mx_go 60 zq_t133 ?_
    show (((nI 6) : Int32) ≤ (j : Int32) → zq_b 0 ∧ Q (some (.int 0)) M) ∧ (¬ ((nI 6) : Int32) ≤ (j : Int32) → mx g (d) kX11_isKind 0 [.int (a)] [] M _)
    refine ⟨fun q => ?_, fun _ => ?_⟩
    · rw [n_le, n_nI (by decide)] at q; omega
    refine c_X11_isKind (fun _ _ => ?_) (fun q => by omega)
    show ((1 : Int32) = 0 → zq_b 0 ∧ Q (some (.int 0)) M) ∧ (¬ (1 : Int32) = 0 → (¬ (a : Int32) = (o : Int32) → vp_in a 6 ∧ mx g (d + 1) kX11_isUnder 4 [.null, .int (o), .int ((zq_rf g 1 (Int32.toNatClampNeg a))), .int ((j + 1))] [] M Q) ∧ ((a : Int32) = (o : Int32) → zq_b 1 ∧ Q (some (.int 1)) M))
    exact ⟨fun q => absurd q (by decide), fun _ => ⟨fun q => ⟨n_in a1 (by omega), q2 q⟩, fun q => ⟨Or.inr rfl, q1 q⟩⟩⟩
  have en : ∀ (j : Int32), Q (some (.int 0)) M → mx g (d + 1) kX11_isUnder 4 [.null, .int o, .int (-1), .int j] [] M Q := by
    intro j q1
    refine mx_go 60 zq_t133 ?_
    show (((nI 6) : Int32) ≤ (j : Int32) → zq_b 0 ∧ Q (some (.int 0)) M) ∧ (¬ ((nI 6) : Int32) ≤ (j : Int32) → mx g (d) kX11_isKind 0 [.int ((-1))] [] M _)
    refine ⟨fun _ => ⟨Or.inl rfl, q1⟩, fun _ => ?_⟩
    refine c_X11_isKind (fun q _ => absurd q (by decide)) (fun q => ?_)
    show ((0 : Int32) = 0 → zq_b 0 ∧ Q (some (.int 0)) M) ∧ (¬ (0 : Int32) = 0 → (¬ ((-1) : Int32) = (o : Int32) → vp_in (-1) 6 ∧ mx g (d + 1) kX11_isUnder 4 [.null, .int (o), .int ((zq_rf g 1 (Int32.toNatClampNeg (-1)))), .int ((j + 1))] [] M Q) ∧ (((-1) : Int32) = (o : Int32) → zq_b 1 ∧ Q (some (.int 1)) M))
    exact ⟨fun _ => ⟨Or.inl rfl, q1⟩, fun q => absurd rfl q⟩
  have val : ∀ (c : Nat), c < 6 → k.toInt = c → k = nI c := fun c hc e => by rw [n_eq, n_nI (by omega)]; exact e
  have ov : ∀ (c : Nat), c < 6 → ∀ {P : Prop}, ((o.toInt = c → P) → (nI c = o → P)) := fun c hc P f e => f (by rw [← e, n_nI (by omega)])
  have no : ∀ (c : Nat), c < 6 → ¬ nI c = o → ¬ o.toInt = c := fun c hc q e => q (by rw [n_eq, n_nI (by omega)]; omega)
  refine mx_go 60 zq_t133 ?_
  show mx g (d + 1) kX11_isUnder 4 [.null, .int (o), .int (k), .int (0)] [] M Q
  unfold und at h1 h0
  have hc : k.toInt = 0 ∨ k.toInt = 1 ∨ k.toInt = 2 ∨ k.toInt = 3 ∨ k.toInt = 4 ∨ k.toInt = 5 := by omega
  rcases hc with e | e | e | e | e | e
  · obtain rfl := val 0 (by decide) e
    refine st _ _ (by decide) (by decide) (by decide) (ov 0 (by decide) (fun q => h1 (by omega) trivial)) (fun q => ?_)
    exact en _ (h0 (by have := no 0 (by decide) q; omega))
  · obtain rfl := val 1 (by decide) e
    refine st _ _ (by decide) (by decide) (by decide) (ov 1 (by decide) (fun q => h1 (by omega) trivial)) (fun q1 => ?_)
    refine st 0 _ (by decide) (by decide) (by decide) (ov 0 (by decide) (fun q => h1 (by omega) trivial)) (fun q => ?_)
    exact en _ (h0 (by have := no 1 (by decide) q1; have := no 0 (by decide) q; omega))
  · obtain rfl := val 2 (by decide) e
    refine st _ _ (by decide) (by decide) (by decide) (ov 2 (by decide) (fun q => h1 (by omega) trivial)) (fun q2 => ?_)
    refine st 1 _ (by decide) (by decide) (by decide) (ov 1 (by decide) (fun q => h1 (by omega) trivial)) (fun q1 => ?_)
    refine st 0 _ (by decide) (by decide) (by decide) (ov 0 (by decide) (fun q => h1 (by omega) trivial)) (fun q => ?_)
    exact en _ (h0 (by have := no 2 (by decide) q2; have := no 1 (by decide) q1; have := no 0 (by decide) q; omega))
  · obtain rfl := val 3 (by decide) e
    refine st _ _ (by decide) (by decide) (by decide) (ov 3 (by decide) (fun q => h1 (by omega) trivial)) (fun q3 => ?_)
    refine st 2 _ (by decide) (by decide) (by decide) (ov 2 (by decide) (fun q => h1 (by omega) trivial)) (fun q2 => ?_)
    refine st 1 _ (by decide) (by decide) (by decide) (ov 1 (by decide) (fun q => h1 (by omega) trivial)) (fun q1 => ?_)
    refine st 0 _ (by decide) (by decide) (by decide) (ov 0 (by decide) (fun q => h1 (by omega) trivial)) (fun q => ?_)
    exact en _ (h0 (by have := no 3 (by decide) q3; have := no 2 (by decide) q2; have := no 1 (by decide) q1; have := no 0 (by decide) q; omega))
  · obtain rfl := val 4 (by decide) e
    refine st _ _ (by decide) (by decide) (by decide) (ov 4 (by decide) (fun q => h1 (by omega) trivial)) (fun q3 => ?_)
    refine st 2 _ (by decide) (by decide) (by decide) (ov 2 (by decide) (fun q => h1 (by omega) trivial)) (fun q2 => ?_)
    refine st 1 _ (by decide) (by decide) (by decide) (ov 1 (by decide) (fun q => h1 (by omega) trivial)) (fun q1 => ?_)
    refine st 0 _ (by decide) (by decide) (by decide) (ov 0 (by decide) (fun q => h1 (by omega) trivial)) (fun q => ?_)
    exact en _ (h0 (by have := no 4 (by decide) q3; have := no 2 (by decide) q2; have := no 1 (by decide) q1; have := no 0 (by decide) q; omega))
  · obtain rfl := val 5 (by decide) e
    refine st _ _ (by decide) (by decide) (by decide) (ov 5 (by decide) (fun q => h1 (by omega) trivial)) (fun q5 => ?_)
    refine st 0 _ (by decide) (by decide) (by decide) (ov 0 (by decide) (fun q => h1 (by omega) trivial)) (fun q => ?_)
    exact en _ (h0 (by have := no 5 (by decide) q5; have := no 0 (by decide) q; omega))
