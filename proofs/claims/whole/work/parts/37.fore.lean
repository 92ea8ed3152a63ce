def bt (x : Int32) (i : Nat) : Bool := x.toBitVec.getLsbD i
theorem b_ext {x y : Int32} (h : ∀ i, i < 32 → bt x i = bt y i) : x = y := Int32.toBitVec_inj.mp (BitVec.eq_of_getLsbD_eq (fun i hi => h i hi))
theorem b_or (x y : Int32) (i : Nat) : bt (x ||| y) i = (bt x i || bt y i) := by unfold bt; rw [Int32.toBitVec_or, BitVec.getLsbD_or]
theorem b_and (x y : Int32) (i : Nat) : bt (x &&& y) i = (bt x i && bt y i) := by unfold bt; rw [Int32.toBitVec_and, BitVec.getLsbD_and]
theorem b_xor (x y : Int32) (i : Nat) : bt (x ^^^ y) i = (bt x i ^^ bt y i) := by unfold bt; rw [Int32.toBitVec_xor, BitVec.getLsbD_xor]
theorem b_big {x : Int32} {i : Nat} (h : 32 ≤ i) : bt x i = false := BitVec.getLsbD_of_ge _ _ h
theorem b_m1 : ∀ i, i < 32 → bt (-1) i = true := by decide +kernel
theorem b_0 (i : Nat) : bt 0 i = false := BitVec.getLsbD_zero
theorem s_l : ∀ n, n < 32 → ((nI n &&& 31).toBitVec.smod 32).toNat = n := by decide +kernel
theorem b_shl (n : Nat) (hn : n < 32) (x : Int32) {i : Nat} (hi : i < 32) : bt (x <<< (nI n &&& 31)) i = (decide (n ≤ i) && bt x (i - n)) := by
  unfold bt
  rw [Int32.toBitVec_shiftLeft]
  show (x.toBitVec <<< ((nI n &&& 31).toBitVec.smod 32).toNat).getLsbD i = _
  rw [s_l n hn, BitVec.getLsbD_shiftLeft]
  rcases Nat.lt_or_ge i n with h | h
  · simp [h, Nat.not_le.mpr h]
  · simp [hi, h, Nat.not_lt.mpr h]
theorem b_sshr (n : Nat) (hn : n < 32) (x : Int32) {i : Nat} (hi : i < 32) : bt (x >>> (nI n &&& 31)) i = if n + i < 32 then bt x (n + i) else bt x 31 := by
  unfold bt
  rw [Int32.toBitVec_shiftRight]
  show (x.toBitVec.sshiftRight ((nI n &&& 31).toBitVec.smod 32).toNat).getLsbD i = _
  rw [s_l n hn, BitVec.getLsbD_sshiftRight, BitVec.msb_eq_getLsbD_last]
  simp [hi]
theorem b_1 : ∀ i, i < 32 → bt 1 i = decide (i = 0) := by decide +kernel
theorem bitA {x : Int32} {i : Nat} (hi : i < 32) : (x >>> (nI i &&& 31)) &&& 1 = bI (bt x i) := by
  refine b_ext (fun j hj => ?_)
  rw [b_and, b_sshr i hi x hj, b_1 j hj]
  by_cases c : j = 0
  · subst c
    rw [Nat.add_zero, if_pos hi]
    cases bt x i <;> decide
  · rw [decide_eq_false c, Bool.and_false]
    cases bt x i
    · exact (b_0 j).symm
    · show false = bt 1 j
      rw [b_1 j hj, decide_eq_false c]
theorem bitS {k i : Nat} (hk : k < 32) (hi : i < 32) : bt (1 <<< (nI k &&& 31)) i = decide (i = k) := by
  rw [b_shl k hk 1 hi]
  by_cases c : k ≤ i
  · rw [decide_eq_true c, Bool.true_and, b_1 (i - k) (by omega)]
    by_cases e : i = k
    · rw [decide_eq_true e, decide_eq_true (by omega)]
    · rw [decide_eq_false e, decide_eq_false (by omega)]
  · rw [decide_eq_false c, decide_eq_false (by omega), Bool.false_and]
/-! which stones can go -/
def fwF (M : zq_M) (h n : Int32) : Nat → Int32
  | 0 => 0
  | k + 1 => if cgB M h (nI k) n = true then fwF M h n k ||| (1 <<< (nI k &&& 31)) else fwF M h n k
theorem fwF_fr {M M' : zq_M} {h n : Int32} (hf : fr (fL sL) M M') : ∀ k, fwF M' h n k = fwF M h n k
  | 0 => rfl
  | k + 1 => by
    unfold fwF
    rw [cgB_fr hf, fwF_fr hf k]
theorem fwF_up {M : zq_M} {h n x : Int32} (x1 : 0 ≤ x.toInt) (up : (x + 1).toInt = x.toInt + 1) : fwF M h n (x + 1).toInt.toNat = if cgB M h x n = true then fwF M h n x.toInt.toNat ||| (1 <<< (x &&& 31)) else fwF M h n x.toInt.toNat := by
  rw [up, show (x.toInt + 1).toNat = x.toInt.toNat + 1 by omega]
  show (if cgB M h (nI x.toInt.toNat) n = true then fwF M h n x.toInt.toNat ||| (1 <<< (nI x.toInt.toNat &&& 31)) else fwF M h n x.toInt.toNat) = _
  rw [← n_of x1]
theorem fwF_bt {M : zq_M} {h n : Int32} : ∀ k i : Nat, k ≤ 31 → i < 32 → bt (fwF M h n k) i = (decide (i < k) && cgB M h (nI i) n)
  | 0, i, _, hi => by
    unfold fwF
    rw [b_0]
    rfl
  | k + 1, i, hk, hi => by
    have ih := fwF_bt (M := M) (h := h) (n := n) k i (by omega) hi
    unfold fwF
    by_cases e : i = k
    · subst e
      rw [decide_eq_true (Nat.lt_succ_self i), Bool.true_and]
      rw [decide_eq_false (Nat.lt_irrefl i), Bool.false_and] at ih
      split
      · next c => rw [b_or, ih, bitS hi hi, c, decide_eq_true rfl]; rfl
      · next c => rw [ih, Bool.eq_false_iff.mpr c]
    · have e1 : decide (i < k + 1) = decide (i < k) := by
        by_cases c : i < k
        · rw [decide_eq_true c, decide_eq_true (by omega)]
        · rw [decide_eq_false c, decide_eq_false (by omega)]
      rw [e1]
      split
      · rw [b_or, ih, bitS (by omega) hi, decide_eq_false e, Bool.or_false]
      · exact ih
theorem c_fore30 {g : zq_G} {d : Nat} {M : zq_M} {Q : Option Value → zq_M → Prop} {h n : Int32} (hR : R5 M) (a1 : 0 ≤ h.toInt) (a2 : h.toInt < 8) (c1 : 0 ≤ n.toInt) (c2 : n.toInt < 60) (hq : ∀ M' : zq_M, fr (fL sL) M M' → Q (some (.int (fwF M h n (M 1 3).toInt.toNat))) M') : mx g (d + 6) kX11_foretold 30 [.ref 0, .int h, .int n, .int 0, .int 0] [] M Q := by
  obtain ⟨hS, hN, hH, hT, hX⟩ := id hR
  have s4 := hS.2.2.2.1
  have s5 := hS.2.2.2.2.1
  refine mx_wf2 (fun b x : Int32 => [.ref 0, .int h, .int n, .int b, .int x]) (fun b x M' => 0 ≤ x.toInt ∧ x.toInt ≤ (M 1 3).toInt ∧ fr (fL sL) M M' ∧ b = fwF M h n x.toInt.toNat) (fun _ x => ((M 1 3).toInt - x.toInt).toNat) ?_ 0 0 M ⟨by decide, s4, fr_rfl, by rw [n_0]; rfl⟩
  intro b x M' ⟨i1, i2, i3, i4⟩ ih
  refine mx_go 250 zq_t115 ?_
  show (((M' 1 3) : Int32) ≤ (x : Int32) → Q (some (.int b)) M') ∧ (¬ ((M' 1 3) : Int32) ≤ (x : Int32) → mx g (d + 5) kX10_canGo 0 [.ref 25, .int (h), .int (x), .int (n)] [] M' _)
  have e13 := i3 1 3 rfl
  rw [e13]
  refine ⟨fun q => ?_, fun q => ?_⟩
  · rw [n_le] at q
    rw [i4, show x.toInt = (M 1 3).toInt by omega]
    exact hq M' i3
  rw [n_le] at q
  have up := n_up (n := M 1 3) i1 (by omega)
  refine c_X10_canGo (R5_fr i3 hR) a1 a2 i1 (by rw [e13]; omega) c1 c2 (fun N cg => ?_) (fun N cg => ?_)
  · rw [cgB_fr i3] at cg
    show ((1 : Int32) = 0 → mx g (d + 6) kX11_foretold 30 [.ref 0, .int (h), .int (n), .int (b), .int ((x + 1))] [] (mv [16, 17] N M') Q) ∧ (¬ (1 : Int32) = 0 → mx g (d + 6) kX11_foretold 30 [.ref 0, .int (h), .int (n), .int ((b ||| (1 <<< (x &&& 31)))), .int ((x + 1))] [] (mv [16, 17] N M') Q)
    refine ⟨fun z => absurd z (by decide), fun _ => ?_⟩
    refine ih _ (x + 1) _ (by omega) ⟨by omega, by omega, fr_trans i3 (fr_sub fr_of (by decide)), ?_⟩
    rw [fwF_up i1 up, if_pos cg, i4]
  · rw [cgB_fr i3] at cg
    show ((0 : Int32) = 0 → mx g (d + 6) kX11_foretold 30 [.ref 0, .int (h), .int (n), .int (b), .int ((x + 1))] [] (mv [16, 17] N M') Q) ∧ (¬ (0 : Int32) = 0 → mx g (d + 6) kX11_foretold 30 [.ref 0, .int (h), .int (n), .int ((b ||| (1 <<< (x &&& 31)))), .int ((x + 1))] [] (mv [16, 17] N M') Q)
    refine ⟨fun _ => ?_, fun z => absurd rfl z⟩
    refine ih _ (x + 1) _ (by omega) ⟨by omega, by omega, fr_trans i3 (fr_sub fr_of (by decide)), ?_⟩
    rw [fwF_up i1 up, if_neg (by rw [cg]; decide), i4]
theorem c_X12_goers {g : zq_G} {d : Nat} {M : zq_M} {Q : Option Value → zq_M → Prop} {h n : Int32} (hR : R5 M) (hV : M 48 27 = -1) (a1 : 0 ≤ h.toInt) (a2 : h.toInt < 8) (c1 : 0 ≤ n.toInt) (c2 : n.toInt < 60) (hq : ∀ M' : zq_M, fr (fL sL) M M' → Q (some (.int (fwF M h n (M 1 3).toInt.toNat))) M') : mx g (d + 5) kX12_goers 0 [.ref 48, .int h, .int n, .null, .null] [] M Q := by
  obtain ⟨hS, hN, hH, hT, hX⟩ := id hR
  have e0 : M 48 0 = M 1 3 := hS.1
  have s4 := hS.2.2.2.1
  have s5 := hS.2.2.2.2.1
  refine mx_go 250 zq_t217 ?_
  show mx g (d + 4) kX12_begin 0 [.ref 48, .null] [] M _
  refine c_X12_begin hS (fun M0 f0 q0 => ?_)
  show mx g (d + 5) kX12_goers 9 [.ref 48, .int (h), .int (n), .int (0), .int (0)] [] M0 Q
  refine mx_wf2 (fun b x : Int32 => [.ref 48, .int h, .int n, .int b, .int x]) (fun b x M' => 0 ≤ x.toInt ∧ x.toInt ≤ (M 1 3).toInt ∧ fr (fL sL) M M' ∧ (∀ i : Nat, (i : Int) < (M 1 3).toInt → M' 63 i = M 3 i) ∧ b = fwF M h n x.toInt.toNat) (fun _ x => ((M 1 3).toInt - x.toInt).toNat) ?_ 0 0 M0 ⟨by decide, s4, fr_sub f0 (by decide), fun i hi => (q0 i hi).1, by rw [n_0]; rfl⟩
  clear q0 f0
  clear M0
  intro b x M' ⟨i1, i2, i3, i5, i4⟩ ih
  refine mx_go 250 zq_t217 ?_
  show (((M' 48 0) : Int32) ≤ (x : Int32) → Q (some (.int b)) M') ∧ (¬ ((M' 48 0) : Int32) ≤ (x : Int32) → mx g (d + 4) kX12_canGo 0 [.ref 48, .int (h), .int (x), .int (n), .null] [] M' _)
  have e13 := i3 1 3 rfl
  rw [i3 48 0 rfl, e0]
  refine ⟨fun q => ?_, fun q => ?_⟩
  · rw [n_le] at q
    rw [i4, show x.toInt = (M 1 3).toInt by omega]
    exact hq M' i3
  rw [n_le] at q
  have up := n_up (n := M 1 3) i1 (by omega)
  refine c_X12_canGo (R5_fr i3 hR) ((i3 48 27 rfl).trans hV) (fun i hi => by rw [e13] at hi; rw [fr_ar i3 3 (fun _ => rfl)]; exact i5 i hi) a1 a2 i1 (by rw [e13]; omega) c1 c2 (fun N cg => ?_) (fun N cg => ?_)
  · rw [cgB_fr i3] at cg
    show ((1 : Int32) = 0 → mx g (d + 5) kX12_goers 9 [.ref 48, .int (h), .int (n), .int ((b ||| 0)), .int ((x + 1))] [] (mv [62] N M') Q) ∧ (¬ (1 : Int32) = 0 → mx g (d + 5) kX12_goers 9 [.ref 48, .int (h), .int (n), .int ((b ||| (1 <<< (x &&& 31)))), .int ((x + 1))] [] (mv [62] N M') Q)
    refine ⟨fun z => absurd z (by decide), fun _ => ?_⟩
    refine ih _ (x + 1) _ (by omega) ⟨by omega, by omega, fr_trans i3 (fr_sub fr_of (by decide)), i5, ?_⟩
    rw [fwF_up i1 up, if_pos cg, i4]
  · rw [cgB_fr i3] at cg
    show ((0 : Int32) = 0 → mx g (d + 5) kX12_goers 9 [.ref 48, .int (h), .int (n), .int ((b ||| 0)), .int ((x + 1))] [] (mv [62] N M') Q) ∧ (¬ (0 : Int32) = 0 → mx g (d + 5) kX12_goers 9 [.ref 48, .int (h), .int (n), .int ((b ||| (1 <<< (x &&& 31)))), .int ((x + 1))] [] (mv [62] N M') Q)
    refine ⟨fun _ => ?_, fun z => absurd rfl z⟩
    refine ih _ (x + 1) _ (by omega) ⟨by omega, by omega, fr_trans i3 (fr_sub fr_of (by decide)), i5, ?_⟩
    rw [fwF_up i1 up, if_neg (by rw [cg]; decide), i4, Int32.or_zero]

def F_fore (p0 p1 : Int32) (M : zq_M) (v : Int32) : Prop := orB (inR p0.toInt (M 10 2).toInt ∧ inR p1.toInt (M 5 4).toInt) (fwF M p0 p1 (M 1 3).toInt.toNat) (-2) v
theorem x_fore {g : zq_G} {d : Nat} {M : zq_M} {Q : Option Value → zq_M → Prop} {p0 p1 : Int32} (hR : RR M) (hq : ∀ (v : Int32) (M' : zq_M), fr (fL sL) M M' → F_fore p0 p1 M v → Q (some (.int v)) M') : mx g (d + 6) kX11_foretold 0 [.ref 0, .int p0, .int p1, .null, .null] [] M Q := by
  have hR5 := RR_5 hR
  obtain ⟨hS, hN, hH, hT, hX⟩ := id hR5
  have s4 := hS.2.2.2.1
  have s5 := hS.2.2.2.2.1
  have n6 := hN.2.2.2.2.2.1
  have n7 := hN.2.2.2.2.2.2.1
  have h4 := hH.2.2.2.1
  have h5 := hH.2.2.2.2.1
  unfold F_fore at hq
  have hbad : ¬ (inR p0.toInt (M 10 2).toInt ∧ inR p1.toInt (M 5 4).toInt) → Q (some (.int (-2))) M := fun z => hq _ M fr_rfl (Or.inr ⟨z, rfl⟩)
  unfold inR at *
  refine mx_go 250 zq_t115 ?_
  show mx g (d + 5) kX0_has 0 [.ref 10, .int (p0)] [] M _
  refine c_X0_has (n := M 10 2) rfl (fun k1 k2 => ?_) (fun k1 => ?_)
  rotate_left
  · show ((0 : Int32) = 0 → Q (some (.int (-2))) M) ∧ (¬ (0 : Int32) = 0 → mx g (d + 5) kX2_has 0 [.ref 5, .int (p1)] [] M _)
    exact ⟨fun _ => hbad (by omega), fun z => absurd rfl z⟩
  show ((1 : Int32) = 0 → Q (some (.int (-2))) M) ∧ (¬ (1 : Int32) = 0 → mx g (d + 5) kX2_has 0 [.ref 5, .int (p1)] [] M _)
  refine ⟨fun z => absurd z (by decide), fun _ => ?_⟩
  refine c_X2_has (n := M 5 4) rfl (fun k3 k4 => ?_) (fun k3 => ?_)
  rotate_left
  · show (¬ (0 : Int32) = 0 → mx g (d + 6) kX11_foretold 30 [.ref 0, .int (p0), .int (p1), .int (0), .int (0)] [] M Q) ∧ ((0 : Int32) = 0 → Q (some (.int (-2))) M)
    exact ⟨fun z => absurd rfl z, fun _ => hbad (by omega)⟩
  show (¬ (1 : Int32) = 0 → mx g (d + 6) kX11_foretold 30 [.ref 0, .int (p0), .int (p1), .int (0), .int (0)] [] M Q) ∧ ((1 : Int32) = 0 → Q (some (.int (-2))) M)
  refine ⟨fun _ => ?_, fun z => absurd z (by decide)⟩
  exact c_fore30 hR5 k1 (by omega) k3 (by omega) (fun M' hf => hq _ M' hf (Or.inl ⟨by omega, rfl⟩))
theorem m_fore {g : zq_G} {d : Nat} {M : zq_M} {Q : Option Value → zq_M → Prop} {p0 p1 : Int32} (hR : RR M) (hq : ∀ (v : Int32) (M' : zq_M), fr (fL sL) M M' → F_fore p0 p1 M v → Q (some (.int v)) M') : mx g (d + 6) kX12_foretold 0 [.ref 48, .int p0, .int p1] [] M Q := by
  have hR5 := RR_5 hR
  have hV : M 48 27 = -1 := hR.2.2.2.2.2.2.2.2.2
  obtain ⟨hS, hN, hH, hT, hX⟩ := id hR5
  have s1 := hS.1
  have s4 := hS.2.2.2.1
  have s5 := hS.2.2.2.2.1
  have n1 := hN.1
  have n6 := hN.2.2.2.2.2.1
  have n7 := hN.2.2.2.2.2.2.1
  have h1 := hH.1
  have h4 := hH.2.2.2.1
  have h5 := hH.2.2.2.2.1
  unfold F_fore at hq
  have hbad : ¬ (inR p0.toInt (M 10 2).toInt ∧ inR p1.toInt (M 5 4).toInt) → Q (some (.int (-2))) M := fun z => hq _ M fr_rfl (Or.inr ⟨z, rfl⟩)
  unfold inR at *
  refine mx_go 250 zq_t218 ?_
  show mx g (d + 5) kX12_isHow 0 [.ref 48, .int (p0)] [] M _
  refine c_X12_isHow (n := M 10 2) h1 h4 (fun k1 k2 => ?_) (fun k1 => ?_)
  rotate_left
  · show ((0 : Int32) = 0 → Q (some (.int (-2))) M) ∧ (¬ (0 : Int32) = 0 → mx g (d + 5) kX12_isNight 0 [.ref 48, .int (p1)] [] M _)
    exact ⟨fun _ => hbad (by omega), fun z => absurd rfl z⟩
  show ((1 : Int32) = 0 → Q (some (.int (-2))) M) ∧ (¬ (1 : Int32) = 0 → mx g (d + 5) kX12_isNight 0 [.ref 48, .int (p1)] [] M _)
  refine ⟨fun z => absurd z (by decide), fun _ => ?_⟩
  refine c_X12_isNight (n := M 5 4) n1 n6 (fun k3 k4 => ?_) (fun k3 => ?_)
  rotate_left
  · show ((0 : Int32) = 0 → Q (some (.int (-2))) M) ∧ (¬ (0 : Int32) = 0 → mx g (d + 5) kX12_goers 0 [.ref 48, .int (p0), .int (p1), .null, .null] [] M _)
    exact ⟨fun _ => hbad (by omega), fun z => absurd rfl z⟩
  show ((1 : Int32) = 0 → Q (some (.int (-2))) M) ∧ (¬ (1 : Int32) = 0 → mx g (d + 5) kX12_goers 0 [.ref 48, .int (p0), .int (p1), .null, .null] [] M _)
  refine ⟨fun z => absurd z (by decide), fun _ => ?_⟩
  exact c_X12_goers hR5 hV k1 (by omega) k3 (by omega) (fun M' hf => hq _ M' hf (Or.inl ⟨by omega, rfl⟩))
theorem op_foretold {g : zq_G} {d : Nat} {M : zq_M} {p0 p1 : Int32} (hR : RR M) : pri g (d + 6) kX11_foretold kX12_foretold [.ref 0, .int p0, .int p1, .null, .null] [.ref 48, .int p0, .int p1] M := by
  refine q_op (F_fore p0 p1) hR (fun M' v v' hf h h' => ?_) (fun Q hq => x_fore hR hq) (fun M' Q hR' hq => m_fore hR' hq)
  unfold F_fore at h h'
  rw [fwF_fr hf, hf 10 2 rfl, hf 5 4 rfl, hf 1 3 rfl] at h'
  exact orB_un h h' Iff.rfl (fun _ => rfl)
def wnF (M : zq_M) (h s : Int32) : Nat → Int64
  | 0 => 0
  | k + 1 => if cgB M h s (nI k) = true then wnF M h s k ||| (1 <<< (Int32.toInt64 (nI k) &&& 63)) else wnF M h s k
theorem wnF_fr {M M' : zq_M} {h s : Int32} (hf : fr (fL sL) M M') : ∀ k, wnF M' h s k = wnF M h s k
  | 0 => rfl
  | k + 1 => by
    unfold wnF
    rw [cgB_fr hf, wnF_fr hf k]
theorem wnF_up {M : zq_M} {h s x : Int32} (x1 : 0 ≤ x.toInt) (up : (x + 1).toInt = x.toInt + 1) : wnF M h s (x + 1).toInt.toNat = if cgB M h s x = true then wnF M h s x.toInt.toNat ||| (1 <<< (Int32.toInt64 x &&& 63)) else wnF M h s x.toInt.toNat := by
  rw [up, show (x.toInt + 1).toNat = x.toInt.toNat + 1 by omega]
  show (if cgB M h s (nI x.toInt.toNat) = true then wnF M h s x.toInt.toNat ||| (1 <<< (Int32.toInt64 (nI x.toInt.toNat) &&& 63)) else wnF M h s x.toInt.toNat) = _
  rw [← n_of x1]
def F_when (p0 p1 : Int32) (M : zq_M) (v : Int64) : Prop := orB (inR p0.toInt (M 10 2).toInt ∧ inR p1.toInt (M 1 3).toInt) (wnF M p0 p1 (M 5 4).toInt.toNat) (-4611686018427387904) v
theorem x_when {g : zq_G} {d : Nat} {M : zq_M} {Q : Option Value → zq_M → Prop} {p0 p1 : Int32} (hR : RR M) (hq : ∀ (v : Int64) (M' : zq_M), fr (fL sL) M M' → F_when p0 p1 M v → Q (some (.long v)) M') : mx g (d + 6) kX11_when 0 [.ref 0, .int p0, .int p1, .null, .null, .null] [] M Q := by
  have hR5 := RR_5 hR
  obtain ⟨hS, hN, hH, hT, hX⟩ := id hR5
  have s4 := hS.2.2.2.1
  have s5 := hS.2.2.2.2.1
  have n6 := hN.2.2.2.2.2.1
  have n7 := hN.2.2.2.2.2.2.1
  have h4 := hH.2.2.2.1
  have h5 := hH.2.2.2.2.1
  unfold F_when at hq
  have hbad : ¬ (inR p0.toInt (M 10 2).toInt ∧ inR p1.toInt (M 1 3).toInt) → Q (some (.long (-4611686018427387904))) M := fun z => hq _ M fr_rfl (Or.inr ⟨z, rfl⟩)
  unfold inR at *
  refine mx_go 250 zq_t111 ?_
  show mx g (d + 5) kX0_has 0 [.ref 10, .int (p0)] [] M _
  refine c_X0_has (n := M 10 2) rfl (fun k1 k2 => ?_) (fun k1 => ?_)
  rotate_left
  · show ((0 : Int32) = 0 → Q (some (.long (-4611686018427387904))) M) ∧ (¬ (0 : Int32) = 0 → mx g (d + 5) kX7_has 0 [.ref 1, .int (p1)] [] M _)
    exact ⟨fun _ => hbad (by omega), fun z => absurd rfl z⟩
  show ((1 : Int32) = 0 → Q (some (.long (-4611686018427387904))) M) ∧ (¬ (1 : Int32) = 0 → mx g (d + 5) kX7_has 0 [.ref 1, .int (p1)] [] M _)
  refine ⟨fun z => absurd z (by decide), fun _ => ?_⟩
  refine c_X7_has (n := M 1 3) rfl (fun k3 k4 => ?_) (fun k3 => ?_)
  rotate_left
  · show (¬ (0 : Int32) = 0 → mx g (d + 6) kX11_when 31 [.ref 0, .int (p0), .int (p1), .long (0), .null, .int (0)] [] M Q) ∧ ((0 : Int32) = 0 → Q (some (.long (-4611686018427387904))) M)
    exact ⟨fun z => absurd rfl z, fun _ => hbad (by omega)⟩
  show (¬ (1 : Int32) = 0 → mx g (d + 6) kX11_when 31 [.ref 0, .int (p0), .int (p1), .long (0), .null, .int (0)] [] M Q) ∧ ((1 : Int32) = 0 → Q (some (.long (-4611686018427387904))) M)
  refine ⟨fun _ => ?_, fun z => absurd z (by decide)⟩
  refine mx_wf2 (fun (b : Int64) (x : Int32) => [.ref 0, .int p0, .int p1, .long b, .null, .int x]) (fun b x M' => 0 ≤ x.toInt ∧ x.toInt ≤ (M 5 4).toInt ∧ fr (fL sL) M M' ∧  b = wnF M p0 p1 x.toInt.toNat) (fun _ x => ((M 5 4).toInt - x.toInt).toNat) ?_ 0 0 M ⟨by decide, n6, fr_rfl, by rw [n_0]; rfl⟩
  skip
  intro b x M' ⟨i1, i2, i3,  i4⟩ ih
  refine mx_go 250 zq_t111 ?_
  show (((M' 5 4) : Int32) ≤ (x : Int32) → Q (some (.long b)) M') ∧ (¬ ((M' 5 4) : Int32) ≤ (x : Int32) → mx g (d + 5) kX10_canGo 0 [.ref 25, .int (p0), .int (p1), .int (x)] [] M' _)
  have e13 := i3 1 3 rfl
  rw [i3 5 4 rfl]
  refine ⟨fun q => ?_, fun q => ?_⟩
  · rw [n_le] at q
    rw [i4, show x.toInt = (M 5 4).toInt by omega]
    exact hq _ M' i3 (Or.inl ⟨by omega, rfl⟩)
  rw [n_le] at q
  have up := n_up (n := M 5 4) i1 (by omega)
  refine c_X10_canGo (R5_fr i3 hR5) k1 (by omega) k3 (by rw [e13]; omega) i1 (by omega) (fun N cg => ?_) (fun N cg => ?_)
  · rw [cgB_fr i3] at cg
    show ((1 : Int32) = 0 → mx g (d + 6) kX11_when 31 [.ref 0, .int (p0), .int (p1), .long (b), .null, .int ((x + 1))] [] (mv [16, 17] N M') Q) ∧ (¬ (1 : Int32) = 0 → mx g (d + 6) kX11_when 31 [.ref 0, .int (p0), .int (p1), .long ((b ||| (1 <<< (Int32.toInt64 x &&& 63)))), .null, .int ((x + 1))] [] (mv [16, 17] N M') Q)
    refine ⟨fun z => absurd z (by decide), fun _ => ?_⟩
    refine ih _ (x + 1) _ (by omega) ⟨by omega, by omega, fr_trans i3 (fr_sub fr_of (by decide)),  ?_⟩
    rw [wnF_up i1 up, if_pos cg, i4]
  · rw [cgB_fr i3] at cg
    show ((0 : Int32) = 0 → mx g (d + 6) kX11_when 31 [.ref 0, .int (p0), .int (p1), .long (b), .null, .int ((x + 1))] [] (mv [16, 17] N M') Q) ∧ (¬ (0 : Int32) = 0 → mx g (d + 6) kX11_when 31 [.ref 0, .int (p0), .int (p1), .long ((b ||| (1 <<< (Int32.toInt64 x &&& 63)))), .null, .int ((x + 1))] [] (mv [16, 17] N M') Q)
    refine ⟨fun _ => ?_, fun z => absurd rfl z⟩
    refine ih _ (x + 1) _ (by omega) ⟨by omega, by omega, fr_trans i3 (fr_sub fr_of (by decide)),  ?_⟩
    rw [wnF_up i1 up, if_neg (by rw [cg]; decide), i4]
theorem m_when {g : zq_G} {d : Nat} {M : zq_M} {Q : Option Value → zq_M → Prop} {p0 p1 : Int32} (hR : RR M) (hq : ∀ (v : Int64) (M' : zq_M), fr (fL sL) M M' → F_when p0 p1 M v → Q (some (.long v)) M') : mx g (d + 6) kX12_when 0 [.ref 48, .int p0, .int p1, .null, .null, .null] [] M Q := by
  have hR5 := RR_5 hR
  have hV : M 48 27 = -1 := hR.2.2.2.2.2.2.2.2.2
  obtain ⟨hS, hN, hH, hT, hX⟩ := id hR5
  have s1 := hS.1
  have s4 := hS.2.2.2.1
  have s5 := hS.2.2.2.2.1
  have n1 := hN.1
  have n6 := hN.2.2.2.2.2.1
  have n7 := hN.2.2.2.2.2.2.1
  have h1 := hH.1
  have h4 := hH.2.2.2.1
  have h5 := hH.2.2.2.2.1
  unfold F_when at hq
  have hbad : ¬ (inR p0.toInt (M 10 2).toInt ∧ inR p1.toInt (M 1 3).toInt) → Q (some (.long (-4611686018427387904))) M := fun z => hq _ M fr_rfl (Or.inr ⟨z, rfl⟩)
  unfold inR at *
  refine mx_go 250 zq_t211 ?_
  show mx g (d + 5) kX12_isHow 0 [.ref 48, .int (p0)] [] M _
  refine c_X12_isHow (n := M 10 2) h1 h4 (fun k1 k2 => ?_) (fun k1 => ?_)
  rotate_left
  · show ((0 : Int32) = 0 → Q (some (.long (-4611686018427387904))) M) ∧ (¬ (0 : Int32) = 0 → mx g (d + 5) kX12_isStone 0 [.ref 48, .int (p1)] [] M _)
    exact ⟨fun _ => hbad (by omega), fun z => absurd rfl z⟩
  show ((1 : Int32) = 0 → Q (some (.long (-4611686018427387904))) M) ∧ (¬ (1 : Int32) = 0 → mx g (d + 5) kX12_isStone 0 [.ref 48, .int (p1)] [] M _)
  refine ⟨fun z => absurd z (by decide), fun _ => ?_⟩
  refine c_X12_isStone (n := M 1 3) s1 s4 (fun k3 k4 => ?_) (fun k3 => ?_)
  rotate_left
  · show (¬ (0 : Int32) = 0 → mx g (d + 5) kX12_begin 0 [.ref 48, .null] [] M _) ∧ ((0 : Int32) = 0 → Q (some (.long (-4611686018427387904))) M)
    exact ⟨fun z => absurd rfl z, fun _ => hbad (by omega)⟩
  show (¬ (1 : Int32) = 0 → mx g (d + 5) kX12_begin 0 [.ref 48, .null] [] M _) ∧ ((1 : Int32) = 0 → Q (some (.long (-4611686018427387904))) M)
  refine ⟨fun _ => ?_, fun z => absurd z (by decide)⟩
  refine c_X12_begin hS (fun M0 f0 q0 => ?_)
  show mx g (d + 6) kX12_when 29 [.ref 48, .int (p0), .int (p1), .long (0), .null, .int (0)] [] M0 Q
  refine mx_wf2 (fun (b : Int64) (x : Int32) => [.ref 48, .int p0, .int p1, .long b, .null, .int x]) (fun b x M' => 0 ≤ x.toInt ∧ x.toInt ≤ (M 5 4).toInt ∧ fr (fL sL) M M' ∧ (∀ i : Nat, (i : Int) < (M 1 3).toInt → M' 63 i = M 3 i) ∧ b = wnF M p0 p1 x.toInt.toNat) (fun _ x => ((M 5 4).toInt - x.toInt).toNat) ?_ 0 0 M0 ⟨by decide, n6, fr_sub f0 (by decide), fun i hi => (q0 i hi).1, by rw [n_0]; rfl⟩
  clear q0 f0
  clear M0
  intro b x M' ⟨i1, i2, i3, i5, i4⟩ ih
  refine mx_go 250 zq_t211 ?_
  show (((M' 48 1) : Int32) ≤ (x : Int32) → Q (some (.long b)) M') ∧ (¬ ((M' 48 1) : Int32) ≤ (x : Int32) → mx g (d + 5) kX12_canGo 0 [.ref 48, .int (p0), .int (p1), .int (x), .null] [] M' _)
  have e13 := i3 1 3 rfl
  rw [i3 48 1 rfl, n1]
  refine ⟨fun q => ?_, fun q => ?_⟩
  · rw [n_le] at q
    rw [i4, show x.toInt = (M 5 4).toInt by omega]
    exact hq _ M' i3 (Or.inl ⟨by omega, rfl⟩)
  rw [n_le] at q
  have up := n_up (n := M 5 4) i1 (by omega)
  refine c_X12_canGo (R5_fr i3 hR5) ((i3 48 27 rfl).trans hV) (fun i hi => by rw [e13] at hi; rw [fr_ar i3 3 (fun _ => rfl)]; exact i5 i hi) k1 (by omega) k3 (by rw [e13]; omega) i1 (by omega) (fun N cg => ?_) (fun N cg => ?_)
  · rw [cgB_fr i3] at cg
    show ((1 : Int32) = 0 → mx g (d + 6) kX12_when 29 [.ref 48, .int (p0), .int (p1), .long ((b ||| 0)), .null, .int ((x + 1))] [] (mv [62] N M') Q) ∧ (¬ (1 : Int32) = 0 → mx g (d + 6) kX12_when 29 [.ref 48, .int (p0), .int (p1), .long ((b ||| (1 <<< (Int32.toInt64 x &&& 63)))), .null, .int ((x + 1))] [] (mv [62] N M') Q)
    refine ⟨fun z => absurd z (by decide), fun _ => ?_⟩
    refine ih _ (x + 1) _ (by omega) ⟨by omega, by omega, fr_trans i3 (fr_sub fr_of (by decide)), i5, ?_⟩
    rw [wnF_up i1 up, if_pos cg, i4]
  · rw [cgB_fr i3] at cg
    show ((0 : Int32) = 0 → mx g (d + 6) kX12_when 29 [.ref 48, .int (p0), .int (p1), .long ((b ||| 0)), .null, .int ((x + 1))] [] (mv [62] N M') Q) ∧ (¬ (0 : Int32) = 0 → mx g (d + 6) kX12_when 29 [.ref 48, .int (p0), .int (p1), .long ((b ||| (1 <<< (Int32.toInt64 x &&& 63)))), .null, .int ((x + 1))] [] (mv [62] N M') Q)
    refine ⟨fun _ => ?_, fun z => absurd rfl z⟩
    refine ih _ (x + 1) _ (by omega) ⟨by omega, by omega, fr_trans i3 (fr_sub fr_of (by decide)), i5, ?_⟩
    rw [wnF_up i1 up, if_neg (by rw [cg]; decide), i4, Int64.or_zero]
theorem op_when {g : zq_G} {d : Nat} {M : zq_M} {p0 p1 : Int32} (hR : RR M) : prl g (d + 6) kX11_when kX12_when [.ref 0, .int p0, .int p1, .null, .null, .null] [.ref 48, .int p0, .int p1, .null, .null, .null] M := by
  refine q_opl (F_when p0 p1) hR (fun M' v v' hf h h' => ?_) (fun Q hq => x_when hR hq) (fun M' Q hR' hq => m_when hR' hq)
  unfold F_when at h h'
  rw [wnF_fr hf, hf 10 2 rfl, hf 5 4 rfl, hf 1 3 rfl] at h'
  exact orB_un h h' Iff.rfl (fun _ => rfl)
