def brB (M : zq_M) (h far : Int32) (k : Nat) : Bool := hldB (M 71) (M 38 2).toInt.toNat (M 3 k).toInt far.toInt && outB (M 71) (M 38 2).toInt.toNat ((gR M (M 3) h 0 (M 5 4).toInt.toNat).1 k).toInt
def brF (M : zq_M) (h far : Int32) : Nat → Int32
  | 0 => 0
  | k + 1 => if brB M h far k = true then brF M h far k + 1 else brF M h far k
theorem brF_fr {M M' : zq_M} {h far : Int32} (hf : fr (fL sL) M M') : ∀ k, brF M' h far k = brF M h far k
  | 0 => rfl
  | k + 1 => by
    unfold brF brB
    rw [gR_fr hf, fr_ar hf 3 (fun _ => rfl), fr_ar hf 71 (fun _ => rfl), hf 38 2 rfl, hf 5 4 rfl, brF_fr hf k]
theorem brF_up {M : zq_M} {h far x : Int32} (x1 : 0 ≤ x.toInt) (up : (x + 1).toInt = x.toInt + 1) : brF M h far (x + 1).toInt.toNat = if brB M h far x.toInt.toNat = true then brF M h far x.toInt.toNat + 1 else brF M h far x.toInt.toNat := by
  rw [up, show (x.toInt + 1).toNat = x.toInt.toNat + 1 by omega]
  rfl
def F_bars (p0 p1 : Int32) (M : zq_M) (v : Int32) : Prop := orB (inR p0.toInt (M 10 2).toInt ∧ 0 ≤ p1.toInt ∧ p1.toInt ≤ 63) (brF M p0 p1 (M 1 3).toInt.toNat) (-2) v
theorem x_bars {g : zq_G} {d : Nat} {M : zq_M} {Q : Option Value → zq_M → Prop} {p0 p1 : Int32} (hR : RR M) (hq : ∀ (v : Int32) (M' : zq_M), fr (fL sL) M M' → F_bars p0 p1 M v → Q (some (.int v)) M') : mx g (d + 6) kX11_bars 0 [.ref 0, .int p0, .int p1, .null, .null] [] M Q := by
  have hR5 := RR_5 hR
  obtain ⟨hS, hN, hH, hT, hX⟩ := id hR5
  have s4 := hS.2.2.2.1
  have s5 := hS.2.2.2.2.1
  have n6 := hN.2.2.2.2.2.1
  have n7 := hN.2.2.2.2.2.2.1
  have h4 := hH.2.2.2.1
  have h5 := hH.2.2.2.2.1
  have s7 := hS.2.2.2.2.2.2.1
  have hP := hR.2.2.2.2.1
  unfold F_bars at hq
  have hbad : ¬ (inR p0.toInt (M 10 2).toInt ∧ 0 ≤ p1.toInt ∧ p1.toInt ≤ 63) → Q (some (.int (-2))) M := fun z => hq _ M fr_rfl (Or.inr ⟨z, rfl⟩)
  unfold inR at *
  refine mx_go 250 zq_t109 ?_
  show mx g (d + 5) kX0_has 0 [.ref 10, .int (p0)] [] M _
  refine c_X0_has (n := M 10 2) rfl (fun k1 k2 => ?_) (fun k1 => ?_)
  rotate_left
  · show ((0 : Int32) = 0 → Q (some (.int (-2))) M) ∧ (¬ (0 : Int32) = 0 → mx g (d + 5) kX11_isFar 0 [.int (p1)] [] M _)
    exact ⟨fun _ => hbad (by omega), fun z => absurd rfl z⟩
  show ((1 : Int32) = 0 → Q (some (.int (-2))) M) ∧ (¬ (1 : Int32) = 0 → mx g (d + 5) kX11_isFar 0 [.int (p1)] [] M _)
  refine ⟨fun z => absurd z (by decide), fun _ => ?_⟩
  refine c_X11_isFar (fun k3 k4 => ?_) (fun k3 => ?_)
  rotate_left
  · show (¬ (0 : Int32) = 0 → mx g (d + 5) kX10_go 0 [.ref 25, .int (p0), .int (0), .int (((M 5 4) - 1)), .null, .null] [] M _) ∧ ((0 : Int32) = 0 → Q (some (.int (-2))) M)
    exact ⟨fun z => absurd rfl z, fun _ => hbad (by omega)⟩
  show (¬ (1 : Int32) = 0 → mx g (d + 5) kX10_go 0 [.ref 25, .int (p0), .int (0), .int (((M 5 4) - 1)), .null, .null] [] M _) ∧ ((1 : Int32) = 0 → Q (some (.int (-2))) M)
  refine ⟨fun _ => ?_, fun z => absurd z (by decide)⟩
  refine c_go_all hR5 k1 (by omega) (fun M0 hf0 he => ?_)
  have f0 := fr_sub (l' := sL) hf0 (by decide)
  show mx g (d + 6) kX11_bars 44 [.ref 0, .null, .int (p1), .int (0), .int (0)] [] M0 Q
  refine mx_wf2 (fun b x : Int32 => [.ref 0, .null, .int p1, .int b, .int x]) (fun b x M' => 0 ≤ x.toInt ∧ x.toInt ≤ (M 1 3).toInt ∧ M' = M0 ∧ b = brF M p0 p1 x.toInt.toNat) (fun _ x => ((M 1 3).toInt - x.toInt).toNat) ?_ 0 0 M0 ⟨by decide, s4, rfl, by rw [n_0]; rfl⟩
  intro b x M' ⟨i1, i2, i3, i4⟩ ih
  subst i3
  refine mx_go 250 zq_t109 ?_
  show (((M' 1 3) : Int32) ≤ (x : Int32) → Q (some (.int b)) M') ∧ (¬ ((M' 1 3) : Int32) ≤ (x : Int32) → vp_in x 10 ∧ mx g (d + 5) kX3_hold 0 [.ref 38, .int (((M' 3) (Int32.toNatClampNeg x))), .int (p1)] [] M' _)
  rw [f0 1 3 rfl, fr_ar f0 3 (fun _ => rfl)]
  refine ⟨fun q => ?_, fun q => ?_⟩
  · rw [n_le] at q
    rw [i4, show x.toInt = (M 1 3).toInt by omega]
    exact hq _ M' f0 (Or.inl ⟨by omega, rfl⟩)
  rw [n_le] at q
  have up := n_up (n := M 1 3) i1 (by omega)
  have xin : vp_in x 10 := n_in i1 (by omega)
  have hP' : gP (M 38 2) (M 48 37) (M' 39) (M' 40) (M 71) := by
    rw [fr_ar f0 39 (fun _ => rfl), fr_ar f0 40 (fun _ => rfl)]
    exact hP
  have sx := s7 x.toNatClampNeg
  have r := gRb (h := p0) (i := x.toInt.toNat) hR5 (by omega)
  have ex : M' 26 x.toNatClampNeg = (gR M (M 3) p0 0 (M 5 4).toInt.toNat).1 x.toInt.toNat := (he x.toInt.toNat (by omega)).1
  have fup := brF_up (M := M) (h := p0) (far := p1) i1 up
  unfold brB at fup
  refine ⟨xin, ?_⟩
  refine c_X3_hold (n := M 38 2) hP' (f0 38 2 rfl) sx.1 sx.2 k3 k4 (fun c _ => ?_) (fun c => ?_)
  · rw [show hldB (M 71) (M 38 2).toInt.toNat (M 3 x.toInt.toNat).toInt p1.toInt = true from c, Bool.true_and] at fup
    show ((1 : Int32) = 0 → mx g (d + 6) kX11_bars 44 [.ref 0, .null, .int (p1), .int (b), .int ((x + 1))] [] M' Q) ∧ (¬ (1 : Int32) = 0 → vp_in x 10 ∧ mx g (d + 5) kX3_isBeyond 0 [.ref 38, .int (((M' 26) (Int32.toNatClampNeg x)))] [] M' _)
    refine ⟨fun z => absurd z (by decide), fun _ => ⟨xin, ?_⟩⟩
    rw [ex]
    refine c_X3_isBeyond (n := M 38 2) hP' (f0 38 2 rfl) r.1.1 (fun c2 _ => ?_) (fun c2 => ?_)
    · rw [c2, if_pos rfl] at fup
      show ((1 : Int32) = 0 → mx g (d + 6) kX11_bars 44 [.ref 0, .null, .int (p1), .int (b), .int ((x + 1))] [] M' Q) ∧ (¬ (1 : Int32) = 0 → mx g (d + 6) kX11_bars 44 [.ref 0, .null, .int (p1), .int ((b + 1)), .int ((x + 1))] [] M' Q)
      refine ⟨fun z => absurd z (by decide), fun _ => ?_⟩
      exact ih _ (x + 1) M' (by omega) ⟨by omega, by omega, rfl, by rw [fup, i4]⟩
    · rw [c2, if_neg (by decide)] at fup
      show ((0 : Int32) = 0 → mx g (d + 6) kX11_bars 44 [.ref 0, .null, .int (p1), .int (b), .int ((x + 1))] [] M' Q) ∧ (¬ (0 : Int32) = 0 → mx g (d + 6) kX11_bars 44 [.ref 0, .null, .int (p1), .int ((b + 1)), .int ((x + 1))] [] M' Q)
      refine ⟨fun _ => ?_, fun z => absurd rfl z⟩
      exact ih _ (x + 1) M' (by omega) ⟨by omega, by omega, rfl, by rw [fup, i4]⟩
  · rw [show hldB (M 71) (M 38 2).toInt.toNat (M 3 x.toInt.toNat).toInt p1.toInt = false from c, Bool.false_and, if_neg (by decide)] at fup
    show ((0 : Int32) = 0 → mx g (d + 6) kX11_bars 44 [.ref 0, .null, .int (p1), .int (b), .int ((x + 1))] [] M' Q) ∧ (¬ (0 : Int32) = 0 → vp_in x 10 ∧ mx g (d + 5) kX3_isBeyond 0 [.ref 38, .int (((M' 26) (Int32.toNatClampNeg x)))] [] M' _)
    refine ⟨fun _ => ?_, fun z => absurd rfl z⟩
    exact ih _ (x + 1) M' (by omega) ⟨by omega, by omega, rfl, by rw [fup, i4]⟩
theorem m_bars {g : zq_G} {d : Nat} {M : zq_M} {Q : Option Value → zq_M → Prop} {p0 p1 : Int32} (hR : RR M) (hq : ∀ (v : Int32) (M' : zq_M), fr (fL sL) M M' → F_bars p0 p1 M v → Q (some (.int v)) M') : mx g (d + 6) kX12_bars 0 [.ref 48, .int p0, .int p1, .null, .null] [] M Q := by
  have hR5 := RR_5 hR
  have hV : M 48 27 = -1 := hR.2.2.2.2.2.2.2.2.2
  obtain ⟨hS, hN, hH, hT, hX⟩ := id hR5
  have s1 := hS.1
  have s4 := hS.2.2.2.1
  have s5 := hS.2.2.2.2.1
  have n1 := hN.1
  have n6 := hN.2.2.2.2.2.1
  have n7 := hN.2.2.2.2.2.2.1
  have h1 := hH.1
  have h4 := hH.2.2.2.1
  have h5 := hH.2.2.2.2.1
  have s3 := hS.2.2.1
  have s7 := hS.2.2.2.2.2.2.1
  have hP := hR.2.2.2.2.1
  have g1 := hP.1
  have g4 := hP.2.2.2.1
  have g5 := hP.2.2.2.2.1
  have g6 := hP.2.2.2.2.2
  have f63 : (63 : Int32).toInt = 63 := rfl
  unfold F_bars at hq
  have hbad : ¬ (inR p0.toInt (M 10 2).toInt ∧ 0 ≤ p1.toInt ∧ p1.toInt ≤ 63) → Q (some (.int (-2))) M := fun z => hq _ M fr_rfl (Or.inr ⟨z, rfl⟩)
  unfold inR at *
  refine mx_go 250 zq_t206 ?_
  show mx g (d + 5) kX12_isHow 0 [.ref 48, .int (p0)] [] M _
  refine c_X12_isHow (n := M 10 2) h1 h4 (fun k1 k2 => ?_) (fun k1 => ?_)
  rotate_left
  · show ((0 : Int32) = 0 → Q (some (.int (-2))) M) ∧ (¬ (0 : Int32) = 0 → mx g (d + 5) kX12_in 0 [.ref 48, .int (p1), .int (0), .int (63)] [] M _)
    exact ⟨fun _ => hbad (by omega), fun z => absurd rfl z⟩
  show ((1 : Int32) = 0 → Q (some (.int (-2))) M) ∧ (¬ (1 : Int32) = 0 → mx g (d + 5) kX12_in 0 [.ref 48, .int (p1), .int (0), .int (63)] [] M _)
  refine ⟨fun z => absurd z (by decide), fun _ => ?_⟩
  refine c_X12_in (fun k3 k4 => ?_) (fun k3 => ?_)
  rotate_left
  · show (¬ (0 : Int32) = 0 → mx g (d + 5) kX12_goAll 0 [.ref 48, .int (p0), .null] [] M _) ∧ ((0 : Int32) = 0 → Q (some (.int (-2))) M)
    exact ⟨fun z => absurd rfl z, fun _ => hbad (by rw [n_0, f63] at k3; omega)⟩
  show (¬ (1 : Int32) = 0 → mx g (d + 5) kX12_goAll 0 [.ref 48, .int (p0), .null] [] M _) ∧ ((1 : Int32) = 0 → Q (some (.int (-2))) M)
  refine ⟨fun _ => ?_, fun z => absurd z (by decide)⟩
  rw [n_0] at k3
  rw [f63] at k4
  refine c_X12_goAll (p := M 3) hR5 hV k1 (by omega) (fun M0 hf0 he => ?_)
  have f0 := fr_sub (l' := sL) hf0 (by decide)
  show mx g (d + 6) kX12_bars 32 [.ref 48, .null, .int (p1), .int (0), .int (0)] [] M0 Q
  refine mx_wf2 (fun b x : Int32 => [.ref 48, .null, .int p1, .int b, .int x]) (fun b x M' => 0 ≤ x.toInt ∧ x.toInt ≤ (M 1 3).toInt ∧ M' = M0 ∧ b = brF M p0 p1 x.toInt.toNat) (fun _ x => ((M 1 3).toInt - x.toInt).toNat) ?_ 0 0 M0 ⟨by decide, s4, rfl, by rw [n_0]; rfl⟩
  intro b x M' ⟨i1, i2, i3, i4⟩ ih
  subst i3
  refine mx_go 250 zq_t206 ?_
  show (((M' 48 0) : Int32) ≤ (x : Int32) → Q (some (.int b)) M') ∧ (¬ ((M' 48 0) : Int32) ≤ (x : Int32) → mx g (d + 5) kX12_isHeld 0 [.ref 48, .int (x), .int (p1), .null, .null, .null, .null, .null, .null, .null] [] M' _)
  rw [f0 48 0 rfl, s1]
  refine ⟨fun q => ?_, fun q => ?_⟩
  · rw [n_le] at q
    rw [i4, show x.toInt = (M 1 3).toInt by omega]
    exact hq _ M' f0 (Or.inl ⟨by omega, rfl⟩)
  rw [n_le] at q
  have up := n_up (n := M 1 3) i1 (by omega)
  have xin : vp_in x 10 := n_in i1 (by omega)
  have sx := s7 x.toNatClampNeg
  have r := gRb (h := p0) (i := x.toInt.toNat) hR5 (by omega)
  have ex : M' 63 x.toNatClampNeg = (gR M (M 3) p0 0 (M 5 4).toInt.toNat).1 x.toInt.toNat := (he x.toInt.toNat (by omega)).1
  have fup := brF_up (M := M) (h := p0) (far := p1) i1 up
  have e50 : (M' 50 x.toNatClampNeg).toInt = (M 3 x.toInt.toNat).toInt := by rw [fr_ar f0 50 (fun _ => rfl), s3]; rfl
  unfold brB at fup
  refine c_X12_isHeld (n := M 38 2) (p := M 71) ((f0 48 37 rfl).trans g1) (fr_ar f0 71 (fun _ => rfl)) g4 g5 g6 i1 (by omega) e50 sx.1 sx.2 k3 k4 (fun c _ => ?_) (fun c => ?_)
  · rw [c, Bool.true_and] at fup
    show ((1 : Int32) = 0 → mx g (d + 6) kX12_bars 32 [.ref 48, .null, .int (p1), .int ((b + 0)), .int ((x + 1))] [] M' Q) ∧ (¬ (1 : Int32) = 0 → vp_in x 10 ∧ mx g (d + 5) kX12_isOut 0 [.ref 48, .int (((M' 63) (Int32.toNatClampNeg x))), .null, .null, .null, .null, .null] [] M' _)
    refine ⟨fun z => absurd z (by decide), fun _ => ⟨xin, ?_⟩⟩
    rw [ex]
    refine c_X12_isOut (n := M 38 2) (p := M 71) ((f0 48 37 rfl).trans g1) (fr_ar f0 71 (fun _ => rfl)) g4 g5 g6 r.1.1 (fun c2 _ => ?_) (fun c2 => ?_)
    · rw [c2, if_pos rfl] at fup
      show ((1 : Int32) = 0 → mx g (d + 6) kX12_bars 32 [.ref 48, .null, .int (p1), .int ((b + 0)), .int ((x + 1))] [] M' Q) ∧ (¬ (1 : Int32) = 0 → mx g (d + 6) kX12_bars 32 [.ref 48, .null, .int (p1), .int ((b + 1)), .int ((x + 1))] [] M' Q)
      refine ⟨fun z => absurd z (by decide), fun _ => ?_⟩
      exact ih _ (x + 1) M' (by omega) ⟨by omega, by omega, rfl, by rw [fup, i4]⟩
    · rw [c2, if_neg (by decide)] at fup
      show ((0 : Int32) = 0 → mx g (d + 6) kX12_bars 32 [.ref 48, .null, .int (p1), .int ((b + 0)), .int ((x + 1))] [] M' Q) ∧ (¬ (0 : Int32) = 0 → mx g (d + 6) kX12_bars 32 [.ref 48, .null, .int (p1), .int ((b + 1)), .int ((x + 1))] [] M' Q)
      refine ⟨fun _ => ?_, fun z => absurd rfl z⟩
      exact ih _ (x + 1) M' (by omega) ⟨by omega, by omega, rfl, by rw [fup, i4, Int32.add_zero]⟩
  · rw [c, Bool.false_and, if_neg (by decide)] at fup
    show ((0 : Int32) = 0 → mx g (d + 6) kX12_bars 32 [.ref 48, .null, .int (p1), .int ((b + 0)), .int ((x + 1))] [] M' Q) ∧ (¬ (0 : Int32) = 0 → vp_in x 10 ∧ mx g (d + 5) kX12_isOut 0 [.ref 48, .int (((M' 63) (Int32.toNatClampNeg x))), .null, .null, .null, .null, .null] [] M' _)
    refine ⟨fun _ => ?_, fun z => absurd rfl z⟩
    exact ih _ (x + 1) M' (by omega) ⟨by omega, by omega, rfl, by rw [fup, i4, Int32.add_zero]⟩
theorem op_bars {g : zq_G} {d : Nat} {M : zq_M} {p0 p1 : Int32} (hR : RR M) : pri g (d + 6) kX11_bars kX12_bars [.ref 0, .int p0, .int p1, .null, .null] [.ref 48, .int p0, .int p1, .null, .null] M := by
  refine q_op (F_bars p0 p1) hR (fun M' v v' hf h h' => ?_) (fun Q hq => x_bars hR hq) (fun M' Q hR' hq => m_bars hR' hq)
  unfold F_bars at h h'
  rw [brF_fr hf, hf 10 2 rfl, hf 1 3 rfl] at h'
  exact orB_un h h' Iff.rfl (fun _ => rfl)
def smF (W : WS) : Nat → Int32
  | 0 => 0
  | k + 1 => smF W k + W.2.1 k
theorem smF_up {W : WS} {x : Int32} (x1 : 0 ≤ x.toInt) (up : (x + 1).toInt = x.toInt + 1) : smF W (x + 1).toInt.toNat = smF W x.toInt.toNat + W.2.1 x.toInt.toNat := by
  rw [up, show (x.toInt + 1).toNat = x.toInt.toNat + 1 by omega]
  rfl
abbrev sL3 : List Nat := 3 :: sL
abbrev sL50 : List Nat := 50 :: sL
theorem sq_f3 {M M' : zq_M} {h s n wi : Int32} (hf : fr (fL sL3) M M') : sq M' h s n wi = sq M h s n wi := by
  unfold sq
  rw [fr_ar hf 11 (fun _ => rfl), fr_ar hf 12 (fun _ => rfl), fr_ar hf 2 (fun _ => rfl), fr_ar hf 6 (fun _ => rfl), fr_ar hf 7 (fun _ => rfl), fr_ar hf 14 (fun _ => rfl), fr_ar hf 15 (fun _ => rfl), hf 13 5 rfl]
theorem gS1_f3 {M M' : zq_M} {h n : Int32} {s : Nat} {W : WS} (hf : fr (fL sL3) M M') : gS1 M' h n s W = gS1 M h n s W := by
  unfold gS1
  rw [sq_f3 hf, fr_ar hf 11 (fun _ => rfl), fr_ar hf 9 (fun _ => rfl), fr_ar hf 8 (fun _ => rfl), hf 1 3 rfl]
theorem gN1_f3 {M M' : zq_M} {h n : Int32} {W : WS} (hf : fr (fL sL3) M M') : ∀ k : Nat, gN1 M' h n k W = gN1 M h n k W
  | 0 => rfl
  | k + 1 => by
    unfold gN1
    rw [gN1_f3 hf k, gS1_f3 hf]
theorem gR_f3 {M M' : zq_M} {p : Nat → Int32} {h : Int32} {a : Nat} (hf : fr (fL sL3) M M') : ∀ k : Nat, gR M' p h a k = gR M p h a k
  | 0 => rfl
  | k + 1 => by
    unfold gR
    rw [gR_f3 hf k, gN1_f3 hf, hf 1 3 rfl]
theorem R5p_f3 {M M' : zq_M} {p : Nat → Int32} (h : fr (fL sL3) M M') (hR : R5p M p) : R5p M' p := by
  obtain ⟨hS, hN, hH, hT, hX⟩ := hR
  exact ⟨by rw [h 1 3 rfl, h 48 0 rfl, fr_ar h 2 (fun _ => rfl), fr_ar h 49 (fun _ => rfl), fr_ar h 50 (fun _ => rfl)]; exact hS, gN_fr ⟨h 5 4 rfl, h 48 1 rfl, fr_ar h 6 (fun _ => rfl), fr_ar h 51 (fun _ => rfl), fr_ar h 7 (fun _ => rfl), fr_ar h 52 (fun _ => rfl), fr_ar h 8 (fun _ => rfl), fr_ar h 53 (fun _ => rfl), fr_ar h 9 (fun _ => rfl), fr_ar h 54 (fun _ => rfl)⟩ hN, gH_fr ⟨h 10 2 rfl, h 48 2 rfl, fr_ar h 11 (fun _ => rfl), fr_ar h 55 (fun _ => rfl), fr_ar h 12 (fun _ => rfl), fr_ar h 56 (fun _ => rfl)⟩ hH, gT_fr ⟨h 1 3 rfl, h 30 7 rfl, h 48 32 rfl, h 30 8 rfl, h 48 39 rfl, fr_ar h 31 (fun _ => rfl), fr_ar h 67 (fun _ => rfl), fr_ar h 32 (fun _ => rfl), fr_ar h 68 (fun _ => rfl), fr_ar h 33 (fun _ => rfl), fr_ar h 69 (fun _ => rfl), fr_ar h 34 (fun _ => rfl), fr_ar h 72 (fun _ => rfl), fr_ar h 35 (fun _ => rfl), fr_ar h 73 (fun _ => rfl)⟩ hT, gX_fr ⟨h 13 4 rfl, h 48 11 rfl, h 13 5 rfl, h 48 12 rfl, fr_ar h 14 (fun _ => rfl), fr_ar h 15 (fun _ => rfl), fr_ar h 58 (fun _ => rfl), fr_ar h 59 (fun _ => rfl), fr_ar h 60 (fun _ => rfl)⟩ hX⟩
theorem x_lay {g : zq_G} {d : Nat} {M : zq_M} {Q : Option Value → zq_M → Prop} {p0 p1 : Int32} (hR : R5 M) (hbad : ¬ (inR p0.toInt (M 10 2).toInt ∧ spanP (M 5 4).toInt p1.toInt) → Q (some (.int (-2))) M) (hok : ∀ M' : zq_M, (inR p0.toInt (M 10 2).toInt ∧ spanP (M 5 4).toInt p1.toInt) → fr (fL sL3) M M' → (∀ i : Nat, M' 3 i = if (i : Int) < (M 1 3).toInt then (gR M (M 3) p0 (p1.toInt / 100).toNat (p1.toInt % 100 + 1 - p1.toInt / 100).toNat).1 i else M 3 i) → Q (some (.int (smF (gR M (M 3) p0 (p1.toInt / 100).toNat (p1.toInt % 100 + 1 - p1.toInt / 100).toNat) (M 1 3).toInt.toNat))) M') : mx g (d + 6) kX11_lay 0 [.ref 0, .int p0, .int p1, .null, .null] [] M Q := by
  obtain ⟨hS, hN, hH, hT, hX⟩ := id hR
  have s4 := hS.2.2.2.1
  have s5 := hS.2.2.2.2.1
  have a7 := hN.2.2.2.2.2.2.1
  have h5 := hH.2.2.2.2.1
  refine mx_go 250 zq_t101 ?_
  show mx g (d + 5) kX0_has 0 [.ref 10, .int (p0)] [] M _
  refine c_X0_has (n := M 10 2) rfl (fun k1 k2 => ?_) (fun k1 => ?_)
  rotate_left
  · show ((0 : Int32) = 0 → Q (some (.int (-2))) M) ∧ (¬ (0 : Int32) = 0 → mx g (d + 5) kX2_hasSpan 0 [.ref 5, .int (p1)] [] M _)
    exact ⟨fun _ => hbad (fun z => by unfold inR at z; omega), fun z => absurd rfl z⟩
  show ((1 : Int32) = 0 → Q (some (.int (-2))) M) ∧ (¬ (1 : Int32) = 0 → mx g (d + 5) kX2_hasSpan 0 [.ref 5, .int (p1)] [] M _)
  refine ⟨fun z => absurd z (by decide), fun _ => ?_⟩
  refine c_X2_hasSpan (n := M 5 4) rfl (fun k3 _ => ?_) (fun k3 => ?_)
  rotate_left
  · show (¬ (0 : Int32) = 0 → (¬ (100 : Int32) = 0) ∧ (¬ (100 : Int32) = 0) ∧ mx g (d + 5) kX10_go 0 [.ref 25, .int (p0), .int ((p1 / 100)), .int ((p1 - p1 / 100 * 100)), .null, .null] [] M _) ∧ ((0 : Int32) = 0 → Q (some (.int (-2))) M)
    exact ⟨fun z => absurd rfl z, fun _ => hbad (fun z => k3 z.2)⟩
  show (¬ (1 : Int32) = 0 → (¬ (100 : Int32) = 0) ∧ (¬ (100 : Int32) = 0) ∧ mx g (d + 5) kX10_go 0 [.ref 25, .int (p0), .int ((p1 / 100)), .int ((p1 - p1 / 100 * 100)), .null, .null] [] M _) ∧ ((1 : Int32) = 0 → Q (some (.int (-2))) M)
  refine ⟨fun _ => ?_, fun z => absurd z (by decide)⟩
  replace hok := fun M' => hok M' ⟨⟨k1, k2⟩, k3⟩
  clear hbad
  unfold spanP at k3
  have ed := div100 (x := p1) k3.1
  have em := rem100 (x := p1) k3.1
  refine ⟨by decide, by decide, ?_⟩
  refine c_X10_go hR k1 (by omega) (by omega) (by omega) (by omega) (fun M0 hf0 he => ?_)
  rw [ed, em] at he
  have f0 := fr_sub (l' := sL) hf0 (by decide)
  show mx g (d + 6) kX11_lay 46 [.ref 0, .null, .null, .int (0), .int (0)] [] M0 Q
  generalize (gR M (M 3) p0 (p1.toInt / 100).toNat (p1.toInt % 100 + 1 - p1.toInt / 100).toNat) = W at he hok
  refine mx_wf2 (fun b x : Int32 => [.ref 0, .null, .null, .int b, .int x]) (fun b x M' => 0 ≤ x.toInt ∧ x.toInt ≤ (M 1 3).toInt ∧ fr (fL [3]) M0 M' ∧ (∀ i : Nat, M' 3 i = if (i : Int) < x.toInt then W.1 i else M 3 i) ∧ b = smF W x.toInt.toNat) (fun _ x => ((M 1 3).toInt - x.toInt).toNat) ?_ 0 0 M0 ⟨by decide, s4, fr_rfl, fun i => by rw [n_0, if_neg (by omega), fr_ar f0 3 (fun _ => rfl)], by rw [n_0]; rfl⟩
  intro b x M' ⟨i1, i2, i3, i4, i5⟩ ih
  refine mx_go 250 zq_t101 ?_
  show (((M' 1 3) : Int32) ≤ (x : Int32) → Q (some (.int b)) M') ∧ (¬ ((M' 1 3) : Int32) ≤ (x : Int32) → vp_in x 10 ∧ vp_in x 10 ∧ vp_in x 10 ∧ mx g (d + 6) kX11_lay 46 [.ref 0, .null, .null, .int ((b + ((M' 27) (Int32.toNatClampNeg x)))), .int ((x + 1))] [] (zq_ma M' 3 (upd (M' 3) (Int32.toNatClampNeg x) ((M' 26) (Int32.toNatClampNeg x)))) Q)
  rw [i3 1 3 rfl, f0 1 3 rfl, fr_ar i3 26 (fun _ => rfl), fr_ar i3 27 (fun _ => rfl)]
  refine ⟨fun q => ?_, fun q => ?_⟩
  · rw [n_le] at q
    rw [i5, show x.toInt = (M 1 3).toInt by omega]
    rw [show x.toInt = (M 1 3).toInt by omega] at i4
    exact hok M' (fr_trans (fr_sub f0 (by decide)) (fr_sub i3 (by decide))) i4
  rw [n_le] at q
  have up := n_up (n := M 1 3) i1 (by omega)
  have xin : vp_in x 10 := n_in i1 (by omega)
  have ew := he x.toNatClampNeg (by rw [n_cl]; omega)
  refine ⟨xin, xin, xin, ?_⟩
  refine ih _ (x + 1) _ (by omega) ⟨by omega, by omega, fr_ma i3 (fun _ => rfl), fun i => ?_, ?_⟩
  · show upd (M' 3) x.toNatClampNeg (M0 26 x.toNatClampNeg) i = _
    by_cases c : i = x.toNatClampNeg
    · subst c
      rw [upd_eq, if_pos (by rw [n_cl]; omega)]
      exact ew.1
    · rw [upd_ne c, i4 i]
      rw [n_cl] at c
      by_cases c2 : (i : Int) < x.toInt
      · rw [if_pos c2, if_pos (by omega)]
      · rw [if_neg c2, if_neg (by omega)]
  · rw [smF_up i1 up, i5, show M0 27 x.toNatClampNeg = _ from ew.2.1]
    rfl
theorem m_lay {g : zq_G} {d : Nat} {M : zq_M} {Q : Option Value → zq_M → Prop} {p0 p1 : Int32} {p : Nat → Int32} (hR : R5p M p) (hV : M 48 27 = -1) (hbad : ¬ (inR p0.toInt (M 10 2).toInt ∧ spanP (M 5 4).toInt p1.toInt) → Q (some (.int (-2))) M) (hok : ∀ M' : zq_M, (inR p0.toInt (M 10 2).toInt ∧ spanP (M 5 4).toInt p1.toInt) → fr (fL sL50) M M' → (∀ i : Nat, M' 50 i = if (i : Int) < (M 1 3).toInt then (gR M p p0 (p1.toInt / 100).toNat (p1.toInt % 100 + 1 - p1.toInt / 100).toNat).1 i else M 50 i) → Q (some (.int (smF (gR M p p0 (p1.toInt / 100).toNat (p1.toInt % 100 + 1 - p1.toInt / 100).toNat) (M 1 3).toInt.toNat))) M') : mx g (d + 6) kX12_lay 0 [.ref 48, .int p0, .int p1, .null, .null] [] M Q := by
  obtain ⟨hS, hN, hH, hT, hX⟩ := id hR
  have s1 := hS.1
  have s4 := hS.2.2.2.1
  have s5 := hS.2.2.2.2.1
  have n1 := hN.1
  have n6 := hN.2.2.2.2.2.1
  have a7 := hN.2.2.2.2.2.2.1
  have h1 := hH.1
  have h4 := hH.2.2.2.1
  have h5 := hH.2.2.2.2.1
  refine mx_go 250 zq_t190 ?_
  show mx g (d + 5) kX12_isHow 0 [.ref 48, .int (p0)] [] M _
  refine c_X12_isHow (n := M 10 2) h1 h4 (fun k1 k2 => ?_) (fun k1 => ?_)
  rotate_left
  · show ((0 : Int32) = 0 → Q (some (.int (-2))) M) ∧ (¬ (0 : Int32) = 0 → mx g (d + 5) kX12_isRow 0 [.ref 48, .int (p1)] [] M _)
    exact ⟨fun _ => hbad (fun z => by unfold inR at z; omega), fun z => absurd rfl z⟩
  show ((1 : Int32) = 0 → Q (some (.int (-2))) M) ∧ (¬ (1 : Int32) = 0 → mx g (d + 5) kX12_isRow 0 [.ref 48, .int (p1)] [] M _)
  refine ⟨fun z => absurd z (by decide), fun _ => ?_⟩
  refine c_X12_isRow (n := M 5 4) n1 n6 a7 (fun k3 _ => ?_) (fun k3 => ?_)
  rotate_left
  · show (¬ (0 : Int32) = 0 → mx g (d + 5) kX12_goRow 0 [.ref 48, .int (p0), .int (p1), .null] [] M _) ∧ ((0 : Int32) = 0 → Q (some (.int (-2))) M)
    exact ⟨fun z => absurd rfl z, fun _ => hbad (fun z => k3 z.2)⟩
  show (¬ (1 : Int32) = 0 → mx g (d + 5) kX12_goRow 0 [.ref 48, .int (p0), .int (p1), .null] [] M _) ∧ ((1 : Int32) = 0 → Q (some (.int (-2))) M)
  refine ⟨fun _ => ?_, fun z => absurd z (by decide)⟩
  replace hok := fun M' => hok M' ⟨⟨k1, k2⟩, k3⟩
  clear hbad
  unfold spanP at k3
  have ed := div100 (x := p1) k3.1
  have em := rem100 (x := p1) k3.1
  refine c_X12_goRow hR hV k1 (by omega) rfl rfl (by omega) (by omega) (by omega) (fun M0 hf0 he => ?_)
  rw [ed, em] at he
  have f0 := fr_sub (l' := sL) hf0 (by decide)
  show mx g (d + 6) kX12_lay 30 [.ref 48, .null, .null, .int (0), .int (0)] [] M0 Q
  generalize (gR M p p0 (p1.toInt / 100).toNat (p1.toInt % 100 + 1 - p1.toInt / 100).toNat) = W at he hok
  refine mx_wf2 (fun b x : Int32 => [.ref 48, .null, .null, .int b, .int x]) (fun b x M' => 0 ≤ x.toInt ∧ x.toInt ≤ (M 1 3).toInt ∧ fr (fL [50]) M0 M' ∧ (∀ i : Nat, M' 50 i = if (i : Int) < x.toInt then W.1 i else M 50 i) ∧ b = smF W x.toInt.toNat) (fun _ x => ((M 1 3).toInt - x.toInt).toNat) ?_ 0 0 M0 ⟨by decide, s4, fr_rfl, fun i => by rw [n_0, if_neg (by omega), fr_ar f0 50 (fun _ => rfl)], by rw [n_0]; rfl⟩
  intro b x M' ⟨i1, i2, i3, i4, i5⟩ ih
  refine mx_go 250 zq_t190 ?_
  show (((M' 48 0) : Int32) ≤ (x : Int32) → Q (some (.int b)) M') ∧ (¬ ((M' 48 0) : Int32) ≤ (x : Int32) → vp_in x 10 ∧ vp_in x 10 ∧ vp_in x 10 ∧ mx g (d + 6) kX12_lay 30 [.ref 48, .null, .null, .int ((b + ((M' 64) (Int32.toNatClampNeg x)))), .int ((x + 1))] [] (zq_ma M' 50 (upd (M' 50) (Int32.toNatClampNeg x) ((M' 63) (Int32.toNatClampNeg x)))) Q)
  rw [i3 48 0 rfl, f0 48 0 rfl, s1, fr_ar i3 63 (fun _ => rfl), fr_ar i3 64 (fun _ => rfl)]
  refine ⟨fun q => ?_, fun q => ?_⟩
  · rw [n_le] at q
    rw [i5, show x.toInt = (M 1 3).toInt by omega]
    rw [show x.toInt = (M 1 3).toInt by omega] at i4
    exact hok M' (fr_trans (fr_sub f0 (by decide)) (fr_sub i3 (by decide))) i4
  rw [n_le] at q
  have up := n_up (n := M 1 3) i1 (by omega)
  have xin : vp_in x 10 := n_in i1 (by omega)
  have ew := he x.toNatClampNeg (by rw [n_cl]; omega)
  refine ⟨xin, xin, xin, ?_⟩
  refine ih _ (x + 1) _ (by omega) ⟨by omega, by omega, fr_ma i3 (fun _ => rfl), fun i => ?_, ?_⟩
  · show upd (M' 50) x.toNatClampNeg (M0 63 x.toNatClampNeg) i = _
    by_cases c : i = x.toNatClampNeg
    · subst c
      rw [upd_eq, if_pos (by rw [n_cl]; omega)]
      exact ew.1
    · rw [upd_ne c, i4 i]
      rw [n_cl] at c
      by_cases c2 : (i : Int) < x.toInt
      · rw [if_pos c2, if_pos (by omega)]
      · rw [if_neg c2, if_neg (by omega)]
  · rw [smF_up i1 up, i5, show M0 64 x.toNatClampNeg = _ from ew.2.1]
    rfl
theorem op_lay {g : zq_G} {d : Nat} {M : zq_M} {p0 p1 : Int32} (hR : RR M) : pri g (d + 6) kX11_lay kX12_lay [.ref 0, .int p0, .int p1, .null, .null] [.ref 48, .int p0, .int p1, .null, .null] M := by
  have hR5 := RR_5 hR
  have hV : M 48 27 = -1 := hR.2.2.2.2.2.2.2.2.2
  refine x_lay hR5 (fun z => ⟨_, rfl, ?_⟩) (fun M1 z f1 e1 => ⟨_, rfl, ?_⟩)
  · exact m_lay (p := M 3) hR5 hV (fun _ => ⟨rfl, hR⟩) (fun M' y => absurd y z)
  · have hR1 : R5p M1 (M 3) := R5p_f3 f1 hR5
    refine m_lay hR1 ((f1 48 27 rfl).trans hV) (fun y => ?_) (fun M2 y f2 e2 => ⟨?_, ?_⟩)
    · rw [f1 10 2 rfl, f1 5 4 rfl] at y
      exact absurd z y
    · rw [gR_f3 f1, f1 1 3 rfl]
    · rw [gR_f3 f1, f1 1 3 rfl] at e2
      have hf : fr (fL sL) M (zq_ma (zq_ma M2 3 (M 3)) 50 (M 50)) := by
        intro c i hc
        show (if c = 50 then M 50 else if c = 3 then M 3 else M2 c) i = M c i
        by_cases c50 : c = 50
        · rw [if_pos c50, c50]
        · rw [if_neg c50]
          by_cases c3 : c = 3
          · rw [if_pos c3, c3]
          · rw [if_neg c3]
            have g1 : fL sL3 c i = false := by
              show (c == 3 || sL.contains c) = false
              rw [show sL.contains c = false from hc, Bool.or_false]
              exact beq_false_of_ne c3
            have g2 : fL sL50 c i = false := by
              show (c == 50 || sL.contains c) = false
              rw [show sL.contains c = false from hc, Bool.or_false]
              exact beq_false_of_ne c50
            rw [f2 c i g2, f1 c i g1]
      obtain ⟨hS, hN, hH, hT, hP, hI, hE, hF, hX, hV2⟩ := RR_fr hf hR
      refine ⟨?_, hN, hH, hT, hP, hI, hE, hF, hX, hV2⟩
      obtain ⟨q1, q2, q3, q4, q5, q6, q7, q8⟩ := hS
      have e3 : M2 3 = M1 3 := fr_ar f2 3 (fun _ => rfl)
      have e50 : M1 50 = M 3 := (fr_ar f1 50 (fun _ => rfl)).trans hR5.1.2.2.1
      refine ⟨q1, q2, ?_, q4, q5, q6, ?_, q8⟩
      · funext i
        rw [e2 i, e3, e1 i, e50]
      · intro i
        rw [e3, e1 i]
        split
        · next c =>
          unfold spanP at z
          have n7 := hR5.2.1.2.2.2.2.2.2.1
          exact (okR (h := p0) (a := (p1.toInt / 100).toNat) (p := M 3) hR5 (p1.toInt % 100 + 1 - p1.toInt / 100).toNat (by omega) i c).1
        · exact hR5.1.2.2.2.2.2.2.1 i
