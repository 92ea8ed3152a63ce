theorem c_X12_isOut {g : zq_G} {d : Nat} {M : zq_M} {Q : Option Value → zq_M → Prop} {v n : Int32} {p : Nat → Int32} (hn : M 48 37 = n) (hp : M 71 = p) (b1 : 0 ≤ n.toInt) (b2 : n.toInt ≤ 8) (pb : ∀ i, 0 ≤ (p i).toInt ∧ (p i).toInt ≤ 4095) (l1 : 0 ≤ v.toInt) (h1 : outB p n.toInt.toNat v.toInt = true → True → Q (some (.int 1)) M) (h0 : outB p n.toInt.toNat v.toInt = false → Q (some (.int 0)) M) : mx g d kX12_isOut 0 [.ref 48, .int v, .null, .null, .null, .null, .null] [] M Q := by
  refine mx_go 60 zq_t205 ?_
  show mx g (d) kX12_isOut 13 [.ref 48, .int (v), .int (1), .int (1), .int (1), .int (1), .int (0)] [] M Q
  refine mx_wf (fun x : Int32 => [.ref 48, .int v, .int (bI (blB (fun k => (p k).toInt % 64) x.toInt.toNat (v.toInt % 64))), .int (bI (abB (fun k => (p k).toInt % 64) x.toInt.toNat (v.toInt % 64))), .int (bI (blB (fun k => (p k).toInt / 64) x.toInt.toNat (v.toInt / 64))), .int (bI (abB (fun k => (p k).toInt / 64) x.toInt.toNat (v.toInt / 64))), .int x]) (fun x M' => M' = M ∧ 0 ≤ x.toInt ∧ x.toInt ≤ n.toInt) (fun x => (n.toInt - x.toInt).toNat) ?_ 0 M ⟨rfl, by decide, b1⟩
  intro x M' ⟨e, i1, i2⟩ ih
  subst e
  refine mx_go 60 zq_t205 ?_
  show (((M' 48 37) : Int32) ≤ (x : Int32) → (¬ ((bI (blB (fun k => (p k).toInt % 64) x.toInt.toNat (v.toInt % 64))) : Int32) = 0 → zq_b 1 ∧ Q (some (.int 1)) M') ∧ (((bI (blB (fun k => (p k).toInt % 64) x.toInt.toNat (v.toInt % 64))) : Int32) = 0 → (¬ ((bI (abB (fun k => (p k).toInt % 64) x.toInt.toNat (v.toInt % 64))) : Int32) = 0 → zq_b 1 ∧ Q (some (.int 1)) M') ∧ (((bI (abB (fun k => (p k).toInt % 64) x.toInt.toNat (v.toInt % 64))) : Int32) = 0 → (¬ ((bI (blB (fun k => (p k).toInt / 64) x.toInt.toNat (v.toInt / 64))) : Int32) = 0 → zq_b 1 ∧ Q (some (.int 1)) M') ∧ (((bI (blB (fun k => (p k).toInt / 64) x.toInt.toNat (v.toInt / 64))) : Int32) = 0 → (((bI (abB (fun k => (p k).toInt / 64) x.toInt.toNat (v.toInt / 64))) : Int32) = 0 → zq_b 0 ∧ Q (some (.int 0)) M') ∧ (¬ ((bI (abB (fun k => (p k).toInt / 64) x.toInt.toNat (v.toInt / 64))) : Int32) = 0 → zq_b 1 ∧ Q (some (.int 1)) M'))))) ∧ (¬ ((M' 48 37) : Int32) ≤ (x : Int32) → (((bI (blB (fun k => (p k).toInt % 64) x.toInt.toNat (v.toInt % 64))) : Int32) = 0 → mx g (d) kX12_isOut 48 [.ref 48, .int (v), .null, .int ((bI (abB (fun k => (p k).toInt % 64) x.toInt.toNat (v.toInt % 64)))), .int ((bI (blB (fun k => (p k).toInt / 64) x.toInt.toNat (v.toInt / 64)))), .int ((bI (abB (fun k => (p k).toInt / 64) x.toInt.toNat (v.toInt / 64)))), .int (x)] [.int (0)] M' Q) ∧ (¬ ((bI (blB (fun k => (p k).toInt % 64) x.toInt.toNat (v.toInt % 64))) : Int32) = 0 → (¬ (64 : Int32) = 0) ∧ vp_in x 8 ∧ (¬ (64 : Int32) = 0) ∧ (((((M' 71) (Int32.toNatClampNeg x)) - ((M' 71) (Int32.toNatClampNeg x)) / 64 * 64) : Int32) ≤ ((v - v / 64 * 64) : Int32) → mx g (d) kX12_isOut 48 [.ref 48, .int (v), .null, .int ((bI (abB (fun k => (p k).toInt % 64) x.toInt.toNat (v.toInt % 64)))), .int ((bI (blB (fun k => (p k).toInt / 64) x.toInt.toNat (v.toInt / 64)))), .int ((bI (abB (fun k => (p k).toInt / 64) x.toInt.toNat (v.toInt / 64)))), .int (x)] [.int (0)] M' Q) ∧ (¬ ((((M' 71) (Int32.toNatClampNeg x)) - ((M' 71) (Int32.toNatClampNeg x)) / 64 * 64) : Int32) ≤ ((v - v / 64 * 64) : Int32) → mx g (d) kX12_isOut 48 [.ref 48, .int (v), .null, .int ((bI (abB (fun k => (p k).toInt % 64) x.toInt.toNat (v.toInt % 64)))), .int ((bI (blB (fun k => (p k).toInt / 64) x.toInt.toNat (v.toInt / 64)))), .int ((bI (abB (fun k => (p k).toInt / 64) x.toInt.toNat (v.toInt / 64)))), .int (x)] [.int (1)] M' Q)))
  rw [hn]
  refine ⟨fun q => ?_, fun q => ?_⟩
  · rw [n_le] at q
    rw [show x.toInt = n.toInt by omega]
    unfold outB at h1 h0
    refine ⟨fun c => ⟨Or.inr rfl, h1 ?_ trivial⟩, fun c => ⟨fun c2 => ⟨Or.inr rfl, h1 ?_ trivial⟩, fun c2 => ⟨fun c3 => ⟨Or.inr rfl, h1 ?_ trivial⟩, fun c3 => ⟨fun c4 => ⟨Or.inl rfl, h0 ?_⟩, fun c4 => ⟨Or.inr rfl, h1 ?_ trivial⟩⟩⟩⟩⟩
    · rw [bI_ne] at c; rw [c]; rfl
    · rw [bI_ne] at c2; rw [c2, Bool.or_true]; rfl
    · rw [bI_ne] at c3; rw [c3, Bool.true_or, Bool.or_true]
    · rw [bI_eq] at c c2 c3 c4; rw [c, c2, c3, c4]; rfl
    · rw [bI_ne] at c4; rw [c4, Bool.or_true, Bool.or_true]
  rw [n_le] at q
  have up := n_up (n := n) i1 (by omega)
  have px := pb x.toInt.toNat
  have hvx := rem64 l1
  have hvy := div64 l1
  have hpx : (M' 71 x.toNatClampNeg - M' 71 x.toNatClampNeg / 64 * 64).toInt = (p x.toInt.toNat).toInt % 64 := by rw [hp, n_cl]; exact rem64 px.1
  have hpy : (M' 71 x.toNatClampNeg / 64).toInt = (p x.toInt.toNat).toInt / 64 := by rw [hp, n_cl]; exact div64 px.1
  have s2 : blB (fun k => (p k).toInt % 64) (x.toInt.toNat + 1) (v.toInt % 64) = (blB (fun k => (p k).toInt % 64) x.toInt.toNat (v.toInt % 64) && decide (v.toInt % 64 < (p x.toInt.toNat).toInt % 64)) := rfl
  have s3 : abB (fun k => (p k).toInt % 64) (x.toInt.toNat + 1) (v.toInt % 64) = (abB (fun k => (p k).toInt % 64) x.toInt.toNat (v.toInt % 64) && decide ((p x.toInt.toNat).toInt % 64 < v.toInt % 64)) := rfl
  have s4 : blB (fun k => (p k).toInt / 64) (x.toInt.toNat + 1) (v.toInt / 64) = (blB (fun k => (p k).toInt / 64) x.toInt.toNat (v.toInt / 64) && decide (v.toInt / 64 < (p x.toInt.toNat).toInt / 64)) := rfl
  have s5 : abB (fun k => (p k).toInt / 64) (x.toInt.toNat + 1) (v.toInt / 64) = (abB (fun k => (p k).toInt / 64) x.toInt.toNat (v.toInt / 64) && decide ((p x.toInt.toNat).toInt / 64 < v.toInt / 64)) := rfl
  have go13 : mx g d kX12_isOut 13 [.ref 48, .int v, .int (bI (blB (fun k => (p k).toInt % 64) (x.toInt.toNat + 1) (v.toInt % 64))), .int (bI (abB (fun k => (p k).toInt % 64) (x.toInt.toNat + 1) (v.toInt % 64))), .int (bI (blB (fun k => (p k).toInt / 64) (x.toInt.toNat + 1) (v.toInt / 64))), .int (bI (abB (fun k => (p k).toInt / 64) (x.toInt.toNat + 1) (v.toInt / 64))), .int (x + 1)] [] M' Q := by
    have := ih (x + 1) M' (by omega) ⟨rfl, by omega, by omega⟩
    rw [show (x + 1).toInt.toNat = x.toInt.toNat + 1 by omega] at this
    exact this
  have go132 : ∀ a : Int32, a = bI (abB (fun k => (p k).toInt / 64) (x.toInt.toNat + 1) (v.toInt / 64)) → mx g d kX12_isOut 132 [.ref 48, .int v, .int (bI (blB (fun k => (p k).toInt % 64) (x.toInt.toNat + 1) (v.toInt % 64))), .int (bI (abB (fun k => (p k).toInt % 64) (x.toInt.toNat + 1) (v.toInt % 64))), .int (bI (blB (fun k => (p k).toInt / 64) (x.toInt.toNat + 1) (v.toInt / 64))), .null, .int x] [.int a] M' Q := by
    intro a ha
    refine mx_go 60 zq_t205 ?_
    show mx g (d) kX12_isOut 13 [.ref 48, .int (v), .int ((bI (blB (fun k => (p k).toInt % 64) (x.toInt.toNat + 1) (v.toInt % 64)))), .int ((bI (abB (fun k => (p k).toInt % 64) (x.toInt.toNat + 1) (v.toInt % 64)))), .int ((bI (blB (fun k => (p k).toInt / 64) (x.toInt.toNat + 1) (v.toInt / 64)))), .int (a), .int ((x + 1))] [] M' Q
    rw [ha]
    exact go13
  have go103 : ∀ a : Int32, a = bI (blB (fun k => (p k).toInt / 64) (x.toInt.toNat + 1) (v.toInt / 64)) → mx g d kX12_isOut 103 [.ref 48, .int v, .int (bI (blB (fun k => (p k).toInt % 64) (x.toInt.toNat + 1) (v.toInt % 64))), .int (bI (abB (fun k => (p k).toInt % 64) (x.toInt.toNat + 1) (v.toInt % 64))), .null, .int (bI (abB (fun k => (p k).toInt / 64) x.toInt.toNat (v.toInt / 64))), .int x] [.int a] M' Q := by
    intro a ha
    refine mx_go 60 zq_t205 ?_
    show (((bI (abB (fun k => (p k).toInt / 64) x.toInt.toNat (v.toInt / 64))) : Int32) = 0 → mx g (d) kX12_isOut 132 [.ref 48, .int (v), .int ((bI (blB (fun k => (p k).toInt % 64) (x.toInt.toNat + 1) (v.toInt % 64)))), .int ((bI (abB (fun k => (p k).toInt % 64) (x.toInt.toNat + 1) (v.toInt % 64)))), .int (a), .null, .int (x)] [.int (0)] M' Q) ∧ (¬ ((bI (abB (fun k => (p k).toInt / 64) x.toInt.toNat (v.toInt / 64))) : Int32) = 0 → (¬ (64 : Int32) = 0) ∧ vp_in x 8 ∧ (¬ (64 : Int32) = 0) ∧ (((v / 64) : Int32) ≤ ((((M' 71) (Int32.toNatClampNeg x)) / 64) : Int32) → mx g (d) kX12_isOut 132 [.ref 48, .int (v), .int ((bI (blB (fun k => (p k).toInt % 64) (x.toInt.toNat + 1) (v.toInt % 64)))), .int ((bI (abB (fun k => (p k).toInt % 64) (x.toInt.toNat + 1) (v.toInt % 64)))), .int (a), .null, .int (x)] [.int (0)] M' Q) ∧ (¬ ((v / 64) : Int32) ≤ ((((M' 71) (Int32.toNatClampNeg x)) / 64) : Int32) → mx g (d) kX12_isOut 132 [.ref 48, .int (v), .int ((bI (blB (fun k => (p k).toInt % 64) (x.toInt.toNat + 1) (v.toInt % 64)))), .int ((bI (abB (fun k => (p k).toInt % 64) (x.toInt.toNat + 1) (v.toInt % 64)))), .int (a), .null, .int (x)] [.int (1)] M' Q))
    rw [ha]
    refine ⟨fun c => go132 _ ?_, fun c => ⟨by decide, n_in i1 (by omega), by decide, fun c2 => go132 _ ?_, fun c2 => go132 _ ?_⟩⟩
    · rw [bI_eq] at c; rw [s5, c]; rfl
    · rw [bI_ne] at c; rw [n_le, hvy, hpy] at c2
      rw [s5, c, decide_eq_false (by omega)]; rfl
    · rw [bI_ne] at c; rw [n_le, hvy, hpy] at c2
      rw [s5, c, decide_eq_true (by omega)]; rfl
  have go75 : ∀ a : Int32, a = bI (abB (fun k => (p k).toInt % 64) (x.toInt.toNat + 1) (v.toInt % 64)) → mx g d kX12_isOut 75 [.ref 48, .int v, .int (bI (blB (fun k => (p k).toInt % 64) (x.toInt.toNat + 1) (v.toInt % 64))), .null, .int (bI (blB (fun k => (p k).toInt / 64) x.toInt.toNat (v.toInt / 64))), .int (bI (abB (fun k => (p k).toInt / 64) x.toInt.toNat (v.toInt / 64))), .int x] [.int a] M' Q := by
    intro a ha
    refine mx_go 60 zq_t205 ?_
    show (((bI (blB (fun k => (p k).toInt / 64) x.toInt.toNat (v.toInt / 64))) : Int32) = 0 → mx g (d) kX12_isOut 103 [.ref 48, .int (v), .int ((bI (blB (fun k => (p k).toInt % 64) (x.toInt.toNat + 1) (v.toInt % 64)))), .int (a), .null, .int ((bI (abB (fun k => (p k).toInt / 64) x.toInt.toNat (v.toInt / 64)))), .int (x)] [.int (0)] M' Q) ∧ (¬ ((bI (blB (fun k => (p k).toInt / 64) x.toInt.toNat (v.toInt / 64))) : Int32) = 0 → (¬ (64 : Int32) = 0) ∧ vp_in x 8 ∧ (¬ (64 : Int32) = 0) ∧ (((((M' 71) (Int32.toNatClampNeg x)) / 64) : Int32) ≤ ((v / 64) : Int32) → mx g (d) kX12_isOut 103 [.ref 48, .int (v), .int ((bI (blB (fun k => (p k).toInt % 64) (x.toInt.toNat + 1) (v.toInt % 64)))), .int (a), .null, .int ((bI (abB (fun k => (p k).toInt / 64) x.toInt.toNat (v.toInt / 64)))), .int (x)] [.int (0)] M' Q) ∧ (¬ ((((M' 71) (Int32.toNatClampNeg x)) / 64) : Int32) ≤ ((v / 64) : Int32) → mx g (d) kX12_isOut 103 [.ref 48, .int (v), .int ((bI (blB (fun k => (p k).toInt % 64) (x.toInt.toNat + 1) (v.toInt % 64)))), .int (a), .null, .int ((bI (abB (fun k => (p k).toInt / 64) x.toInt.toNat (v.toInt / 64)))), .int (x)] [.int (1)] M' Q))
    rw [ha]
    refine ⟨fun c => go103 _ ?_, fun c => ⟨by decide, n_in i1 (by omega), by decide, fun c2 => go103 _ ?_, fun c2 => go103 _ ?_⟩⟩
    · rw [bI_eq] at c; rw [s4, c]; rfl
    · rw [bI_ne] at c; rw [n_le, hvy, hpy] at c2
      rw [s4, c, decide_eq_false (by omega)]; rfl
    · rw [bI_ne] at c; rw [n_le, hvy, hpy] at c2
      rw [s4, c, decide_eq_true (by omega)]; rfl
  have go48 : ∀ a : Int32, a = bI (blB (fun k => (p k).toInt % 64) (x.toInt.toNat + 1) (v.toInt % 64)) → mx g d kX12_isOut 48 [.ref 48, .int v, .null, .int (bI (abB (fun k => (p k).toInt % 64) x.toInt.toNat (v.toInt % 64))), .int (bI (blB (fun k => (p k).toInt / 64) x.toInt.toNat (v.toInt / 64))), .int (bI (abB (fun k => (p k).toInt / 64) x.toInt.toNat (v.toInt / 64))), .int x] [.int a] M' Q := by
    intro a ha
    refine mx_go 60 zq_t205 ?_
    show (((bI (abB (fun k => (p k).toInt % 64) x.toInt.toNat (v.toInt % 64))) : Int32) = 0 → mx g (d) kX12_isOut 75 [.ref 48, .int (v), .int (a), .null, .int ((bI (blB (fun k => (p k).toInt / 64) x.toInt.toNat (v.toInt / 64)))), .int ((bI (abB (fun k => (p k).toInt / 64) x.toInt.toNat (v.toInt / 64)))), .int (x)] [.int (0)] M' Q) ∧ (¬ ((bI (abB (fun k => (p k).toInt % 64) x.toInt.toNat (v.toInt % 64))) : Int32) = 0 → (¬ (64 : Int32) = 0) ∧ vp_in x 8 ∧ (¬ (64 : Int32) = 0) ∧ (((v - v / 64 * 64) : Int32) ≤ ((((M' 71) (Int32.toNatClampNeg x)) - ((M' 71) (Int32.toNatClampNeg x)) / 64 * 64) : Int32) → mx g (d) kX12_isOut 75 [.ref 48, .int (v), .int (a), .null, .int ((bI (blB (fun k => (p k).toInt / 64) x.toInt.toNat (v.toInt / 64)))), .int ((bI (abB (fun k => (p k).toInt / 64) x.toInt.toNat (v.toInt / 64)))), .int (x)] [.int (0)] M' Q) ∧ (¬ ((v - v / 64 * 64) : Int32) ≤ ((((M' 71) (Int32.toNatClampNeg x)) - ((M' 71) (Int32.toNatClampNeg x)) / 64 * 64) : Int32) → mx g (d) kX12_isOut 75 [.ref 48, .int (v), .int (a), .null, .int ((bI (blB (fun k => (p k).toInt / 64) x.toInt.toNat (v.toInt / 64)))), .int ((bI (abB (fun k => (p k).toInt / 64) x.toInt.toNat (v.toInt / 64)))), .int (x)] [.int (1)] M' Q))
    rw [ha]
    refine ⟨fun c => go75 _ ?_, fun c => ⟨by decide, n_in i1 (by omega), by decide, fun c2 => go75 _ ?_, fun c2 => go75 _ ?_⟩⟩
    · rw [bI_eq] at c; rw [s3, c]; rfl
    · rw [bI_ne] at c; rw [n_le, hvx, hpx] at c2
      rw [s3, c, decide_eq_false (by omega)]; rfl
    · rw [bI_ne] at c; rw [n_le, hvx, hpx] at c2
      rw [s3, c, decide_eq_true (by omega)]; rfl
  refine ⟨fun c => go48 _ ?_, fun c => ⟨by decide, n_in i1 (by omega), by decide, fun c2 => go48 _ ?_, fun c2 => go48 _ ?_⟩⟩
  · rw [bI_eq] at c; rw [s2, c]; rfl
  · rw [bI_ne] at c; rw [n_le, hvx, hpx] at c2
    rw [s2, c, decide_eq_false (by omega)]; rfl
  · rw [bI_ne] at c; rw [n_le, hvx, hpx] at c2
    rw [s2, c, decide_eq_true (by omega)]; rfl
set_option maxHeartbeats 4000000 in
theorem op_holds {g : zq_G} {d : Nat} {M : zq_M} {a0 b0 : Int32} (hR : RR M) : pri g (d + 6) kX11_holds kX12_holds [.ref 0, .int (a0), .int (b0)] [.ref 48, .int (a0), .int (b0)] M := by
  obtain ⟨hS, hN, hH, hT, hP, hI, hE, hF, hX, hV⟩ := id hR
  obtain ⟨s1, s2, s3, s4, s5, s6, s7, s8⟩ := id hS
  obtain ⟨p1, p2, p3, p4, p5, p6⟩ := id hP
  refine mx_q (fun Qx hQx => ?_)
  refine mx_go 200 zq_t108 ?_
  show mx g (d + 5) kX7_has 0 [.ref 1, .int (a0)] [] M _
  refine c_X7_has (n := (M 1 3)) rfl (fun k1 k2 => ?_) (fun k3 => ?_)
  · show ((1 : Int32) = 0 → Qx (some (.int (-2))) M) ∧ (¬ (1 : Int32) = 0 → mx g (d + 5) kX11_isFar 0 [.int (b0)] [] M _)
    refine ⟨fun q4 => absurd q4 (by decide), fun _ => ?_⟩
    refine c_X11_isFar (fun k5 k6 => ?_) (fun k7 => ?_)
    · show (¬ (1 : Int32) = 0 → vp_in a0 10 ∧ mx g (d + 5) kX3_hold 0 [.ref 38, .int (((M 3) (Int32.toNatClampNeg a0))), .int (b0)] [] M _) ∧ ((1 : Int32) = 0 → Qx (some (.int (-2))) M)
      refine ⟨fun _ => ?_, fun q8 => absurd q8 (by decide)⟩
      refine ⟨(n_in (by (first | (simp only [n_lt, n_le, n_eq, n_add, n_sub, n_mul, n_neg, n_lit, zw] at *; omega) | simp_all)) (by (first | (simp only [n_lt, n_le, n_eq, n_add, n_sub, n_mul, n_neg, n_lit, zw] at *; omega) | simp_all))), ?_⟩
      refine c_X3_hold (p := M 71) (n := M 38 2) hP rfl (s7 _).1 (s7 _).2 (by (simp only [n_lt, n_le, n_eq, n_add, n_sub, n_mul, n_neg, n_lit, zw] at *; omega)) (by (simp only [n_lt, n_le, n_eq, n_add, n_sub, n_mul, n_neg, n_lit, zw] at *; omega)) (fun k9 k10 => ?_) (fun k11 => ?_)
      · show mx g (d + 5) kX11_bit 0 [.int (1)] [] M _
        refine c_X11_bit (fun k12 => ?_) (fun k13 => by exfalso; (first | (simp only [n_lt, n_le, n_eq, n_add, n_sub, n_mul, n_neg, n_lit, zw] at *; omega) | simp_all))
        show Qx (some (.int 1)) M
        refine hQx _ _ ⟨1, rfl, ?_⟩
        refine mx_q (fun Qm hQm => ?_)
        refine mx_go 200 zq_t204 ?_
        show mx g (d + 5) kX12_isStone 0 [.ref 48, .int (a0)] [] M _
        refine c_X12_isStone (n := (M 48 0)) rfl (by (simp only [n_lt, n_le, n_eq, n_add, n_sub, n_mul, n_neg, n_lit, zw] at *; omega)) (fun k14 k15 => ?_) (fun k16 => by exfalso; (first | (simp only [n_lt, n_le, n_eq, n_add, n_sub, n_mul, n_neg, n_lit, zw] at *; omega) | simp_all))
        show ((1 : Int32) = 0 → Qm (some (.int (-2))) M) ∧ (¬ (1 : Int32) = 0 → mx g (d + 5) kX12_in 0 [.ref 48, .int (b0), .int (0), .int (63)] [] M _)
        refine ⟨fun q17 => absurd q17 (by decide), fun _ => ?_⟩
        refine c_X12_in (fun k18 k19 => ?_) (fun k20 => by exfalso; (first | (simp only [n_lt, n_le, n_eq, n_add, n_sub, n_mul, n_neg, n_lit, zw] at *; omega) | simp_all))
        show (¬ (1 : Int32) = 0 → mx g (d + 5) kX12_isHeld 0 [.ref 48, .int (a0), .int (b0), .null, .null, .null, .null, .null, .null, .null] [] M _) ∧ ((1 : Int32) = 0 → Qm (some (.int (-2))) M)
        refine ⟨fun _ => ?_, fun q21 => absurd q21 (by decide)⟩
        refine c_X12_isHeld (n := M 38 2) (p := M 71) (pl := (M 3 a0.toNatClampNeg).toInt) p1 rfl p4 p5 p6 (by (simp only [n_lt, n_le, n_eq, n_add, n_sub, n_mul, n_neg, n_lit, zw] at *; omega)) (by (simp only [n_lt, n_le, n_eq, n_add, n_sub, n_mul, n_neg, n_lit, zw] at *; omega)) (by rw [s3]) (s7 _).1 (s7 _).2 (by (simp only [n_lt, n_le, n_eq, n_add, n_sub, n_mul, n_neg, n_lit, zw] at *; omega)) (by (simp only [n_lt, n_le, n_eq, n_add, n_sub, n_mul, n_neg, n_lit, zw] at *; omega)) (fun k22 k23 => ?_) (fun k24 => by exfalso; (first | (simp only [n_lt, n_le, n_eq, n_add, n_sub, n_mul, n_neg, n_lit, zw] at *; omega) | simp_all))
        show ((1 : Int32) = 0 → Qm (some (.int 0)) M) ∧ (¬ (1 : Int32) = 0 → Qm (some (.int 1)) M)
        refine ⟨fun q25 => absurd q25 (by decide), fun _ => ?_⟩
        refine hQm _ _ ⟨by first | rfl | simp only [s1, s2, s3, p1, n_pred], ?_⟩
        exact hR
      · show mx g (d + 5) kX11_bit 0 [.int (0)] [] M _
        refine c_X11_bit (fun k14 => by exfalso; (first | (simp only [n_lt, n_le, n_eq, n_add, n_sub, n_mul, n_neg, n_lit, zw] at *; omega) | simp_all)) (fun k15 => ?_)
        show Qx (some (.int 0)) M
        refine hQx _ _ ⟨0, rfl, ?_⟩
        refine mx_q (fun Qm hQm => ?_)
        refine mx_go 200 zq_t204 ?_
        show mx g (d + 5) kX12_isStone 0 [.ref 48, .int (a0)] [] M _
        refine c_X12_isStone (n := (M 48 0)) rfl (by (simp only [n_lt, n_le, n_eq, n_add, n_sub, n_mul, n_neg, n_lit, zw] at *; omega)) (fun k16 k17 => ?_) (fun k18 => by exfalso; (first | (simp only [n_lt, n_le, n_eq, n_add, n_sub, n_mul, n_neg, n_lit, zw] at *; omega) | simp_all))
        show ((1 : Int32) = 0 → Qm (some (.int (-2))) M) ∧ (¬ (1 : Int32) = 0 → mx g (d + 5) kX12_in 0 [.ref 48, .int (b0), .int (0), .int (63)] [] M _)
        refine ⟨fun q19 => absurd q19 (by decide), fun _ => ?_⟩
        refine c_X12_in (fun k20 k21 => ?_) (fun k22 => by exfalso; (first | (simp only [n_lt, n_le, n_eq, n_add, n_sub, n_mul, n_neg, n_lit, zw] at *; omega) | simp_all))
        show (¬ (1 : Int32) = 0 → mx g (d + 5) kX12_isHeld 0 [.ref 48, .int (a0), .int (b0), .null, .null, .null, .null, .null, .null, .null] [] M _) ∧ ((1 : Int32) = 0 → Qm (some (.int (-2))) M)
        refine ⟨fun _ => ?_, fun q23 => absurd q23 (by decide)⟩
        refine c_X12_isHeld (n := M 38 2) (p := M 71) (pl := (M 3 a0.toNatClampNeg).toInt) p1 rfl p4 p5 p6 (by (simp only [n_lt, n_le, n_eq, n_add, n_sub, n_mul, n_neg, n_lit, zw] at *; omega)) (by (simp only [n_lt, n_le, n_eq, n_add, n_sub, n_mul, n_neg, n_lit, zw] at *; omega)) (by rw [s3]) (s7 _).1 (s7 _).2 (by (simp only [n_lt, n_le, n_eq, n_add, n_sub, n_mul, n_neg, n_lit, zw] at *; omega)) (by (simp only [n_lt, n_le, n_eq, n_add, n_sub, n_mul, n_neg, n_lit, zw] at *; omega)) (fun k24 k25 => by exfalso; (first | (simp only [n_lt, n_le, n_eq, n_add, n_sub, n_mul, n_neg, n_lit, zw] at *; omega) | simp_all)) (fun k26 => ?_)
        show ((0 : Int32) = 0 → Qm (some (.int 0)) M) ∧ (¬ (0 : Int32) = 0 → Qm (some (.int 1)) M)
        refine ⟨fun _ => ?_, fun q27 => absurd q27 (by decide)⟩
        refine hQm _ _ ⟨by first | rfl | simp only [s1, s2, s3, p1, n_pred], ?_⟩
        exact hR
    · show (¬ (0 : Int32) = 0 → vp_in a0 10 ∧ mx g (d + 5) kX3_hold 0 [.ref 38, .int (((M 3) (Int32.toNatClampNeg a0))), .int (b0)] [] M _) ∧ ((0 : Int32) = 0 → Qx (some (.int (-2))) M)
      refine ⟨fun q16 => absurd q16 (by decide), fun _ => ?_⟩
      refine hQx _ _ ⟨(-2), rfl, ?_⟩
      refine mx_q (fun Qm hQm => ?_)
      refine mx_go 200 zq_t204 ?_
      show mx g (d + 5) kX12_isStone 0 [.ref 48, .int (a0)] [] M _
      refine c_X12_isStone (n := (M 48 0)) rfl (by (simp only [n_lt, n_le, n_eq, n_add, n_sub, n_mul, n_neg, n_lit, zw] at *; omega)) (fun k17 k18 => ?_) (fun k19 => by exfalso; (first | (simp only [n_lt, n_le, n_eq, n_add, n_sub, n_mul, n_neg, n_lit, zw] at *; omega) | simp_all))
      show ((1 : Int32) = 0 → Qm (some (.int (-2))) M) ∧ (¬ (1 : Int32) = 0 → mx g (d + 5) kX12_in 0 [.ref 48, .int (b0), .int (0), .int (63)] [] M _)
      refine ⟨fun q20 => absurd q20 (by decide), fun _ => ?_⟩
      refine c_X12_in (fun k21 k22 => by exfalso; (first | (simp only [n_lt, n_le, n_eq, n_add, n_sub, n_mul, n_neg, n_lit, zw] at *; omega) | simp_all)) (fun k23 => ?_)
      show (¬ (0 : Int32) = 0 → mx g (d + 5) kX12_isHeld 0 [.ref 48, .int (a0), .int (b0), .null, .null, .null, .null, .null, .null, .null] [] M _) ∧ ((0 : Int32) = 0 → Qm (some (.int (-2))) M)
      refine ⟨fun q24 => absurd q24 (by decide), fun _ => ?_⟩
      refine hQm _ _ ⟨by first | rfl | simp only [s1, s2, s3, p1, n_pred], ?_⟩
      exact hR
  · show ((0 : Int32) = 0 → Qx (some (.int (-2))) M) ∧ (¬ (0 : Int32) = 0 → mx g (d + 5) kX11_isFar 0 [.int (b0)] [] M _)
    refine ⟨fun _ => ?_, fun q17 => absurd q17 (by decide)⟩
    refine hQx _ _ ⟨(-2), rfl, ?_⟩
    refine mx_q (fun Qm hQm => ?_)
    refine mx_go 200 zq_t204 ?_
    show mx g (d + 5) kX12_isStone 0 [.ref 48, .int (a0)] [] M _
    refine c_X12_isStone (n := (M 48 0)) rfl (by (simp only [n_lt, n_le, n_eq, n_add, n_sub, n_mul, n_neg, n_lit, zw] at *; omega)) (fun k18 k19 => by exfalso; (first | (simp only [n_lt, n_le, n_eq, n_add, n_sub, n_mul, n_neg, n_lit, zw] at *; omega) | simp_all)) (fun k20 => ?_)
    show ((0 : Int32) = 0 → Qm (some (.int (-2))) M) ∧ (¬ (0 : Int32) = 0 → mx g (d + 5) kX12_in 0 [.ref 48, .int (b0), .int (0), .int (63)] [] M _)
    refine ⟨fun _ => ?_, fun q21 => absurd q21 (by decide)⟩
    refine hQm _ _ ⟨by first | rfl | simp only [s1, s2, s3, p1, n_pred], ?_⟩
    exact hR

