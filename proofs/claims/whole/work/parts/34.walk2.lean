theorem eqW_rfl {n : Int} {W : WS} : eqW n W W := fun _ _ => ⟨rfl, rfl, rfl, rfl⟩
theorem eqW_trans {n : Int} {W V U : WS} (h1 : eqW n W V) (h2 : eqW n V U) : eqW n W U := fun i hi => ⟨(h1 i hi).1.trans (h2 i hi).1, (h1 i hi).2.1.trans (h2 i hi).2.1, (h1 i hi).2.2.1.trans (h2 i hi).2.2.1, (h1 i hi).2.2.2.trans (h2 i hi).2.2.2⟩
theorem eqW_of {n : Int} {W V : WS} (h : W = V) : eqW n W V := by subst h; exact eqW_rfl
/-- the class's run -/
theorem c_X10_go {g : zq_G} {d : Nat} {M : zq_M} {Q : Option Value → zq_M → Prop} {h a b : Int32} (hR : R5 M) (a1 : 0 ≤ h.toInt) (a2 : h.toInt < 8) (f1 : 0 ≤ a.toInt) (f2 : a.toInt ≤ b.toInt + 1) (f3 : b.toInt < 60) (hq : ∀ M' : zq_M, fr (fL [16, 17, 26, 27, 28, 29]) M M' → eqW (M 1 3).toInt (arX M') (gR M (M 3) h a.toInt.toNat (b.toInt + 1 - a.toInt).toNat) → Q none M') : mx g (d + 5) kX10_go 0 [.ref 25, .int h, .int a, .int b, .null, .null] [] M Q := by
  obtain ⟨hS, hN, hH, hT, hX⟩ := id hR
  have s4 := hS.2.2.2.1
  have s5 := hS.2.2.2.2.1
  have f60 : (60 : Int32).toInt = 60 := rfl
  refine mx_go 250 zq_t87 ?_
  show mx g (d + 5) kX10_go 3 [.ref 25, .int (h), .int (a), .int (b), .int (0), .null] [] M Q
  refine mx_wf (fun x : Int32 => [.ref 25, .int h, .int a, .int b, .int x, .null]) (fun x M' => 0 ≤ x.toInt ∧ x.toInt ≤ (M 1 3).toInt ∧ fr (fL [26, 27, 28, 29]) M M' ∧ eqW x.toInt (arX M') (gR M (M 3) h a.toInt.toNat 0)) (fun x => ((M 1 3).toInt - x.toInt).toNat) ?_ 0 M ⟨by decide, s4, fr_rfl, fun i q => by rw [n_0] at q; omega⟩
  intro x M' ⟨i1, i2, i3, i4⟩ ih
  refine mx_go 250 zq_t87 ?_
  have e13 := i3 1 3 rfl
  have e3 := fr_ar i3 3 (fun _ => rfl)
  show (((M' 1 3) : Int32) ≤ (x : Int32) → mx g (d + 5) kX10_go 65 [.ref 25, .int (h), .null, .int (b), .int (a), .null] [] M' Q) ∧ (¬ ((M' 1 3) : Int32) ≤ (x : Int32) → vp_in x 10 ∧ vp_in x 10 ∧ vp_in x 10 ∧ vp_in x 10 ∧ vp_in x 10 ∧ mx g (d + 5) kX10_go 3 [.ref 25, .int (h), .int (a), .int (b), .int ((x + 1)), .null] [] (zq_ma (zq_ma (zq_ma (zq_ma M' 26 (upd (M' 26) (Int32.toNatClampNeg x) ((M' 3) (Int32.toNatClampNeg x)))) 27 (upd (M' 27) (Int32.toNatClampNeg x) 0)) 28 (upd (M' 28) (Int32.toNatClampNeg x) 0)) 29 (upd (M' 29) (Int32.toNatClampNeg x) (-1))) Q)
  rw [e13, e3]
  refine ⟨fun q => ?_, fun q => ?_⟩
  rotate_left
  · rw [n_le] at q
    have xin : vp_in x 10 := n_in i1 (by omega)
    have up := n_up (n := M 1 3) i1 (by omega)
    refine ⟨xin, xin, xin, xin, xin, ?_⟩
    refine ih (x + 1) _ (by omega) ⟨by omega, by omega, fr_ma (fr_ma (fr_ma (fr_ma i3 (fun _ => rfl)) (fun _ => rfl)) (fun _ => rfl)) (fun _ => rfl), fun i hi => ?_⟩
    show upd (M' 26) _ _ i = M 3 i ∧ upd (M' 27) _ _ i = 0 ∧ upd (M' 28) _ _ i = 0 ∧ upd (M' 29) _ _ i = -1
    by_cases c : i = x.toNatClampNeg
    · subst c
      rw [upd_eq, upd_eq, upd_eq, upd_eq]
      exact ⟨rfl, rfl, rfl, rfl⟩
    · rw [upd_ne c, upd_ne c, upd_ne c, upd_ne c]
      rw [n_cl] at c
      exact i4 i (by omega)
  rw [n_le] at q
  rw [show x.toInt = (M 1 3).toInt by omega] at i4
  have hf0 : fr (fL [16, 17, 26, 27, 28, 29]) M M' := fr_sub i3 (by decide)
  clear ih i1 i2 i3 q e13 e3
  refine mx_wf (fun x : Int32 => [.ref 25, .int h, .null, .int b, .int x, .null]) (fun x M2 => a.toInt ≤ x.toInt ∧ x.toInt ≤ b.toInt + 1 ∧ fr (fL [16, 17, 26, 27, 28, 29]) M M2 ∧ eqW (M 1 3).toInt (arX M2) (gR M (M 3) h a.toInt.toNat (x.toInt - a.toInt).toNat)) (fun x => (b.toInt + 1 - x.toInt).toNat) ?_ a M' ⟨Int.le_refl _, f2, hf0, by rw [show (a.toInt - a.toInt).toNat = 0 by omega]; exact i4⟩
  clear i4 hf0
  clear M'
  intro x M' ⟨i1, i2, i3, i4⟩ ih
  refine mx_go 250 zq_t87 ?_
  show ((b : Int32) < (x : Int32) → Q none M') ∧ (¬ (b : Int32) < (x : Int32) → mx g (d + 5) kX10_go 74 [.ref 25, .int (h), .null, .int (b), .int (x), .int (0)] [] M' Q)
  refine ⟨fun q => ?_, fun q => ?_⟩
  · rw [n_lt] at q
    refine hq M' i3 ?_
    rw [show b.toInt + 1 - a.toInt = x.toInt - a.toInt by omega]
    exact i4
  rw [n_lt] at q
  have up := n_up (n := 60) (x := x) (by omega) (by omega)
  have ex : nI (a.toInt.toNat + (x.toInt - a.toInt).toNat) = x := by
    rw [show a.toInt.toNat + (x.toInt - a.toInt).toNat = x.toInt.toNat by omega]
    exact (n_of (by omega)).symm
  have hgR : gR M (M 3) h a.toInt.toNat (x.toInt - a.toInt + 1).toNat = gN1 M h x (M 1 3).toInt.toNat (gR M (M 3) h a.toInt.toNat (x.toInt - a.toInt).toNat) := by
    rw [show (x.toInt - a.toInt + 1).toNat = (x.toInt - a.toInt).toNat + 1 by omega]
    conv => lhs; unfold gR
    rw [ex]
  have okr := okR (h := h) (a := a.toInt.toNat) hR (x.toInt - a.toInt).toNat (by omega)
  generalize gR M (M 3) h a.toInt.toNat (x.toInt - a.toInt).toNat = V at hgR okr i4
  refine mx_wf (fun y : Int32 => [.ref 25, .int h, .null, .int b, .int x, .int y]) (fun y M2 => 0 ≤ y.toInt ∧ y.toInt ≤ (M 1 3).toInt ∧ fr (fL [16, 17, 26, 27, 28, 29]) M M2 ∧ eqW (M 1 3).toInt (arX M2) (gN1 M h x y.toInt.toNat V)) (fun y => ((M 1 3).toInt - y.toInt).toNat) ?_ 0 M' ⟨by decide, s4, i3, by rw [n_0]; exact i4⟩
  clear i4 i3
  clear M'
  intro y M' ⟨j1, j2, j3, j4⟩ ih2
  have hfs := fr_sub (l' := sL) j3 (by decide)
  refine mx_go 250 zq_t87 ?_
  show (((M' 1 3) : Int32) ≤ (y : Int32) → mx g (d + 5) kX10_go 65 [.ref 25, .int (h), .null, .int (b), .int ((x + 1)), .null] [] M' Q) ∧ (¬ ((M' 1 3) : Int32) ≤ (y : Int32) → mx g (d + 4) kX10_goOneNight 0 [.ref 25, .int (h), .int (y), .int (x), .null, .null, .null] [] M' _)
  have e13 := j3 1 3 rfl
  rw [e13]
  refine ⟨fun r => ?_, fun r => ?_⟩
  · rw [n_le] at r
    refine ih (x + 1) M' (by omega) ⟨by omega, by omega, j3, ?_⟩
    rw [up, show x.toInt + 1 - a.toInt = x.toInt - a.toInt + 1 by omega, hgR, show (M 1 3).toInt = y.toInt by omega]
    rw [show (M 1 3).toInt = y.toInt by omega] at j4
    exact j4
  rw [n_le] at r
  have upy := n_up (n := M 1 3) j1 (by omega)
  have okn := okN (h := h) (n := x) hR (by omega) okr y.toInt.toNat (by omega)
  have okm := okW_eq j4 okn
  refine c_X10_goOne (R5_fr hfs hR) a1 a2 j1 (by rw [e13]; omega) (by omega) (by omega) (fun i hi => (okm i (by rw [e13] at hi; exact hi)).1) (fun M2 hf2 ha2 => ?_)
  show mx g (d + 5) kX10_go 74 [.ref 25, .int (h), .null, .int (b), .int (x), .int ((y + 1))] [] M2 Q
  refine ih2 (y + 1) M2 (by omega) ⟨by omega, by omega, fr_trans j3 hf2, ?_⟩
  rw [ha2, gS1_fr hfs, upy, show (y.toInt + 1).toNat = y.toInt.toNat + 1 by omega, n_cl]
  exact gS1_eq (by omega) j4
