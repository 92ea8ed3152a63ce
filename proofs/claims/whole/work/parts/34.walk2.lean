theorem eqW_rfl {n : Int} {W : WS} : eqW n W W := fun _ _ => ⟨rfl, rfl, rfl, rfl⟩
theorem eqW_trans {n : Int} {W V U : WS} (h1 : eqW n W V) (h2 : eqW n V U) : eqW n W U := fun i hi => ⟨(h1 i hi).1.trans (h2 i hi).1, (h1 i hi).2.1.trans (h2 i hi).2.1, (h1 i hi).2.2.1.trans (h2 i hi).2.2.1, (h1 i hi).2.2.2.trans (h2 i hi).2.2.2⟩
theorem eqW_of {n : Int} {W V : WS} (h : W = V) : eqW n W V := by subst h; exact eqW_rfl
/-- the class's run -/
theorem c_X10_go {g : zq_G} {d : Nat} {M : zq_M} {Q : Option Value → zq_M → Prop} {h a b : Int32} (hR : R5 M) (a1 : 0 ≤ h.toInt) (a2 : h.toInt < 8) (f1 : 0 ≤ a.toInt) (f2 : a.toInt ≤ b.toInt + 1) (f3 : b.toInt < 60) (hq : ∀ M' : zq_M, fr (fL [16, 17, 26, 27, 28, 29]) M M' → eqW (M 1 3).toInt (arX M') (gR M (M 3) h a.toInt.toNat (b.toInt + 1 - a.toInt).toNat) → Q none M') : mx g (d + 5) kX10_go 0 [.ref 25, .int h, .int a, .int b, .null, .null] [] M Q := by
  obtain ⟨hS, hN, hH, hT, hX⟩ := id hR
  have s4 := hS.2.2.2.1
  have s5 := hS.2.2.2.2.1
  have f60 : (60 : Int32).toInt = 60 := rfl
  refine mx_go 250 zq_t87 ?_
  show mx g (d + 5) kX10_go 3 [.ref 25, .int (h), .int (a), .int (b), .int (0), .null] [] M Q
  refine mx_wf (fun x : Int32 => [.ref 25, .int h, .int a, .int b, .int x, .null]) (fun x M' => 0 ≤ x.toInt ∧ x.toInt ≤ (M 1 3).toInt ∧ fr (fL [26, 27, 28, 29]) M M' ∧ eqW x.toInt (arX M') (gR M (M 3) h a.toInt.toNat 0)) (fun x => ((M 1 3).toInt - x.toInt).toNat) ?_ 0 M ⟨by decide, s4, fr_rfl, fun i q => by rw [n_0] at q; omega⟩
  intro x M' ⟨i1, i2, i3, i4⟩ ih
  refine mx_go 250 zq_t87 ?_
  have e13 := i3 1 3 rfl
  have e3 := fr_ar i3 3 (fun _ => rfl)
  show (((M' 1 3) : Int32) ≤ (x : Int32) → mx g (d + 5) kX10_go 65 [.ref 25, .int (h), .null, .int (b), .int (a), .null] [] M' Q) ∧ (¬ ((M' 1 3) : Int32) ≤ (x : Int32) → vp_in x 10 ∧ vp_in x 10 ∧ vp_in x 10 ∧ vp_in x 10 ∧ vp_in x 10 ∧ mx g (d + 5) kX10_go 3 [.ref 25, .int (h), .int (a), .int (b), .int ((x + 1)), .null] [] (zq_ma (zq_ma (zq_ma (zq_ma M' 26 (upd (M' 26) (Int32.toNatClampNeg x) ((M' 3) (Int32.toNatClampNeg x)))) 27 (upd (M' 27) (Int32.toNatClampNeg x) 0)) 28 (upd (M' 28) (Int32.toNatClampNeg x) 0)) 29 (upd (M' 29) (Int32.toNatClampNeg x) (-1))) Q)
  rw [e13, e3]
  refine ⟨fun q => ?_, fun q => ?_⟩
  rotate_left
  · rw [n_le] at q
    have xin : vp_in x 10 := n_in i1 (by omega)
    have up := n_up (n := M 1 3) i1 (by omega)
    refine ⟨xin, xin, xin, xin, xin, ?_⟩
    refine ih (x + 1) _ (by omega) ⟨by omega, by omega, fr_ma (fr_ma (fr_ma (fr_ma i3 (fun _ => rfl)) (fun _ => rfl)) (fun _ => rfl)) (fun _ => rfl), fun i hi => ?_⟩
    show upd (M' 26) _ _ i = M 3 i ∧ upd (M' 27) _ _ i = 0 ∧ upd (M' 28) _ _ i = 0 ∧ upd (M' 29) _ _ i = -1
    by_cases c : i = x.toNatClampNeg
    · subst c
      rw [upd_eq, upd_eq, upd_eq, upd_eq]
      exact ⟨rfl, rfl, rfl, rfl⟩
    · rw [upd_ne c, upd_ne c, upd_ne c, upd_ne c]
      rw [n_cl] at c
      exact i4 i (by omega)
  rw [n_le] at q
  rw [show x.toInt = (M 1 3).toInt by omega] at i4
  have hf0 : fr (fL [16, 17, 26, 27, 28, 29]) M M' := fr_sub i3 (by decide)
  clear ih i1 i2 i3 q e13 e3
  refine mx_wf (fun x : Int32 => [.ref 25, .int h, .null, .int b, .int x, .null]) (fun x M2 => a.toInt ≤ x.toInt ∧ x.toInt ≤ b.toInt + 1 ∧ fr (fL [16, 17, 26, 27, 28, 29]) M M2 ∧ eqW (M 1 3).toInt (arX M2) (gR M (M 3) h a.toInt.toNat (x.toInt - a.toInt).toNat)) (fun x => (b.toInt + 1 - x.toInt).toNat) ?_ a M' ⟨Int.le_refl _, f2, hf0, by rw [show (a.toInt - a.toInt).toNat = 0 by omega]; exact i4⟩
  clear i4 hf0
  clear M'
  intro x M' ⟨i1, i2, i3, i4⟩ ih
  refine mx_go 250 zq_t87 ?_
  show ((b : Int32) < (x : Int32) → Q none M') ∧ (¬ (b : Int32) < (x : Int32) → mx g (d + 5) kX10_go 74 [.ref 25, .int (h), .null, .int (b), .int (x), .int (0)] [] M' Q)
  refine ⟨fun q => ?_, fun q => ?_⟩
  · rw [n_lt] at q
    refine hq M' i3 ?_
    rw [show b.toInt + 1 - a.toInt = x.toInt - a.toInt by omega]
    exact i4
  rw [n_lt] at q
  have up := n_up (n := 60) (x := x) (by omega) (by omega)
  have ex : nI (a.toInt.toNat + (x.toInt - a.toInt).toNat) = x := by
    rw [show a.toInt.toNat + (x.toInt - a.toInt).toNat = x.toInt.toNat by omega]
    exact (n_of (by omega)).symm
  have hgR : gR M (M 3) h a.toInt.toNat (x.toInt - a.toInt + 1).toNat = gN1 M h x (M 1 3).toInt.toNat (gR M (M 3) h a.toInt.toNat (x.toInt - a.toInt).toNat) := by
    rw [show (x.toInt - a.toInt + 1).toNat = (x.toInt - a.toInt).toNat + 1 by omega]
    conv => lhs; unfold gR
    rw [ex]
  have okr := okR (h := h) (a := a.toInt.toNat) hR (x.toInt - a.toInt).toNat (by omega)
  generalize gR M (M 3) h a.toInt.toNat (x.toInt - a.toInt).toNat = V at hgR okr i4
  refine mx_wf (fun y : Int32 => [.ref 25, .int h, .null, .int b, .int x, .int y]) (fun y M2 => 0 ≤ y.toInt ∧ y.toInt ≤ (M 1 3).toInt ∧ fr (fL [16, 17, 26, 27, 28, 29]) M M2 ∧ eqW (M 1 3).toInt (arX M2) (gN1 M h x y.toInt.toNat V)) (fun y => ((M 1 3).toInt - y.toInt).toNat) ?_ 0 M' ⟨by decide, s4, i3, by rw [n_0]; exact i4⟩
  clear i4 i3
  clear M'
  intro y M' ⟨j1, j2, j3, j4⟩ ih2
  have hfs := fr_sub (l' := sL) j3 (by decide)
  refine mx_go 250 zq_t87 ?_
  show (((M' 1 3) : Int32) ≤ (y : Int32) → mx g (d + 5) kX10_go 65 [.ref 25, .int (h), .null, .int (b), .int ((x + 1)), .null] [] M' Q) ∧ (¬ ((M' 1 3) : Int32) ≤ (y : Int32) → mx g (d + 4) kX10_goOneNight 0 [.ref 25, .int (h), .int (y), .int (x), .null, .null, .null] [] M' _)
  have e13 := j3 1 3 rfl
  rw [e13]
  refine ⟨fun r => ?_, fun r => ?_⟩
  · rw [n_le] at r
    refine ih (x + 1) M' (by omega) ⟨by omega, by omega, j3, ?_⟩
    rw [up, show x.toInt + 1 - a.toInt = x.toInt - a.toInt + 1 by omega, hgR, show (M 1 3).toInt = y.toInt by omega]
    rw [show (M 1 3).toInt = y.toInt by omega] at j4
    exact j4
  rw [n_le] at r
  have upy := n_up (n := M 1 3) j1 (by omega)
  have okn := okN (h := h) (n := x) hR (by omega) okr y.toInt.toNat (by omega)
  have okm := okW_eq j4 okn
  refine c_X10_goOne (R5_fr hfs hR) a1 a2 j1 (by rw [e13]; omega) (by omega) (by omega) (fun i hi => (okm i (by rw [e13] at hi; exact hi)).1) (fun M2 hf2 ha2 => ?_)
  show mx g (d + 5) kX10_go 74 [.ref 25, .int (h), .null, .int (b), .int (x), .int ((y + 1))] [] M2 Q
  refine ih2 (y + 1) M2 (by omega) ⟨by omega, by omega, fr_trans j3 hf2, ?_⟩
  rw [ha2, gS1_fr hfs, upy, show (y.toInt + 1).toNat = y.toInt.toNat + 1 by omega, n_cl]
  exact gS1_eq (by omega) j4
/-! the reference's run -/
def nxt (p w : Int) (nx : Int32) : Prop := (1 ≤ edg p w ∧ nx.toInt = p + strd w) ∨ (edg p w = 0 ∧ nx = -1)
theorem c_goN46 {g : zq_G} {d : Nat} {M : zq_M} {Q : Option Value → zq_M → Prop} {h n w x v nx0 N : Int32} (e0 : M 48 0 = N) (n2 : N.toInt ≤ 10) (x1 : 0 ≤ x.toInt) (x2 : x.toInt < N.toInt) (hon : ∀ i : Nat, (i : Int) < N.toInt → 0 ≤ (M 63 i).toInt ∧ (M 63 i).toInt ≤ 4095) (w1 : 0 ≤ w.toInt) (w2 : w.toInt ≤ 3) (v1 : 0 ≤ v.toInt) (hnx : nxt (M 63 x.toNatClampNeg).toInt w.toInt nx0) (hq : ∀ (M' : zq_M) (mo : Int32), fr (fL [63, 64]) M M' → M' 63 = upd (M 63) x.toNatClampNeg (nZ ((M 63 x.toNatClampNeg).toInt + gon v.toInt (rmK (M 63) (M 63 x.toNatClampNeg).toInt w.toInt N.toInt.toNat) * strd w.toInt)) → M' 64 = upd (M 64) x.toNatClampNeg (nZ ((M 64 x.toNatClampNeg).toInt + gon v.toInt (rmK (M 63) (M 63 x.toNatClampNeg).toInt w.toInt N.toInt.toNat))) → (mo = 0 ↔ gon v.toInt (rmK (M 63) (M 63 x.toNatClampNeg).toInt w.toInt N.toInt.toNat) = 0) → mx g (d + 4) kX12_goNight 103 [.ref 48, .int h, .int n, .int w, .int x, .null, .null, .int mo] [] M' Q) : mx g (d + 4) kX12_goNight 46 [.ref 48, .int h, .int n, .int w, .int x, .int v, .int nx0, .int 0] [] M Q := by
  have hp := hon x.toNatClampNeg (by rw [n_cl]; omega)
  have xin : vp_in x 10 := n_in x1 (by omega)
  obtain ⟨k1, k2, k3, k4⟩ := rm_ok (on := M 63) (p := (M 63 x.toNatClampNeg).toInt) w1 w2 hp.1 hp.2 N.toInt.toNat (fun i hi => hon i (by omega))
  replace k4 : Nat → _ := fun _ => k4
  have eb := edg_b w1 w2 hp.1 hp.2
  have gb := gon_b v1 k1
  have pb := fun (j : Int) => pos_b (j := j) w1 w2 hp.1 hp.2
  have sne : strd w.toInt ≠ 0 := by
    rcases w_cases w1 w2 with e | e | e | e <;> rw [e] <;> decide
  have spx : ∀ j : Int, j * strd w.toInt = 0 → j = 0 := fun j hj => strd_inj w1 w2 (by rw [hj, Int.zero_mul])
  generalize hS : strd w.toInt = S at *
  generalize hrm : rmK (M 63) (M 63 x.toNatClampNeg).toInt w.toInt N.toInt.toNat = rm at *
  generalize hr : gon v.toInt rm = r at *
  generalize hP : (M 63 x.toNatClampNeg).toInt = p at *
  refine mx_wf3 (fun l nx mo : Int32 => [.ref 48, .int h, .int n, .int w, .int x, .int l, .int nx, .int mo]) (fun l nx mo M' => ∃ j : Int, 0 ≤ j ∧ j ≤ r ∧ l.toInt = v.toInt - j ∧ nxt (p + j * S) w.toInt nx ∧ (mo = 0 ↔ j = 0) ∧ fr (fL [63, 64]) M M' ∧ M' 63 = upd (M 63) x.toNatClampNeg (nZ (p + j * S)) ∧ M' 64 = upd (M 64) x.toNatClampNeg (nZ ((M 64 x.toNatClampNeg).toInt + j))) (fun l _ _ => l.toInt.toNat) ?_ v nx0 0 M ⟨0, Int.le_refl _, gb.1, by omega, by rw [Int.zero_mul, Int.add_zero]; exact hnx, ⟨fun _ => rfl, fun _ => rfl⟩, fr_rfl, by rw [Int.zero_mul, Int.add_zero, ← hP, nZ_of, upd_self], by rw [Int.add_zero, nZ_of, upd_self]⟩
  intro l nx mo M' ⟨j, j1, j2, i1, i2, i3, i4, i5, i6⟩ ih
  replace i3 : Nat → _ := fun _ => i3
  have ej := pb j j1 (by omega)
  have exit : ∀ _ : Nat, j = r → mx g (d + 4) kX12_goNight 103 [.ref 48, .int h, .int n, .int w, .int x, .null, .null, .int mo] [] M' Q := by
    intro _ e
    rw [← e] at hq
    exact hq M' mo i4 i5 i6 (i3 0)
  refine mx_go 250 zq_t185 ?_
  show ((l : Int32) ≤ 0 → mx g (d + 4) kX12_goNight 103 [.ref 48, .int (h), .int (n), .int (w), .int (x), .null, .null, .int (mo)] [] M' Q) ∧ (¬ (l : Int32) ≤ 0 → ((nx : Int32) < 0 → mx g (d + 4) kX12_goNight 103 [.ref 48, .int (h), .int (n), .int (w), .int (x), .null, .null, .int (mo)] [] M' Q) ∧ (¬ (nx : Int32) < 0 → mx g (d + 3) kX12_isFree 0 [.ref 48, .int (nx), .null] [] M' _))
  refine ⟨fun q => exit 0 ?_, fun q => ⟨fun z => exit 0 ?_, fun z => ?_⟩⟩
  · rw [n_le, n_0] at q
    omega
  · rw [n_lt, n_0] at z
    rcases i2 with ⟨t1, t2⟩ | ⟨t1, t2⟩
    · have := pb (j + 1) (by omega) (by omega)
      rw [Int.add_mul, Int.one_mul] at this
      rw [hS] at t2
      omega
    · omega
  rw [n_le, n_0] at q
  rw [n_lt, n_0] at z
  have i2' : 1 ≤ edg (p + j * S) w.toInt ∧ nx.toInt = p + (j + 1) * S := by
    rcases i2 with ⟨t1, t2⟩ | ⟨t1, t2⟩
    · rw [Int.add_mul, Int.one_mul]
      rw [hS] at t2
      exact ⟨t1, by omega⟩
    · rw [t2] at z
      exact absurd (by decide) z
  obtain ⟨t1, t2⟩ := i2'
  have ej1 := pb (j + 1) (by omega) (by omega)
  have hself : (M' 63 x.toNatClampNeg).toInt = p + j * S := by
    rw [i5, upd_eq, nZ_t (by omega) (by omega)]
  have hoth : ∀ i : Nat, i ≠ x.toNatClampNeg → M' 63 i = M 63 i := fun i hi => by rw [i5, upd_ne hi]
  refine c_X12_isFree (n := N) (p := M' 63) (by rw [i4 48 0 rfl]; exact e0) rfl (by omega) n2 (fun fz _ => ?_) (fun fz => ?_)
  rotate_left
  · show ((0 : Int32) = 0 → mx g (d + 4) kX12_goNight 103 [.ref 48, .int (h), .int (n), .int (w), .int (x), .null, .null, .int (mo)] [] M' Q) ∧ (¬ (0 : Int32) = 0 → vp_in x 10 ∧ vp_in x 10 ∧ vp_in x 10 ∧ mx g (d + 3) kX12_ahead 0 [.ref 48, .int (nx), .int (w), .null, .null] [] (zq_ma (zq_ma M' 63 (upd (M' 63) (Int32.toNatClampNeg x) nx)) 64 (upd (M' 64) (Int32.toNatClampNeg x) (((M' 64) (Int32.toNatClampNeg x)) + 1))) _)
    refine ⟨fun _ => exit 0 ?_, fun y => absurd rfl y⟩
    obtain ⟨k, f1, f2⟩ := fz
    by_cases c : k = x.toNatClampNeg
    · rw [c, n_eq, hself, t2, Int.add_mul, Int.one_mul] at f2
      omega
    · rw [hoth k c, n_eq, t2] at f2
      by_cases c2 : j + 1 ≤ rm
      · exact absurd f2 (k3 (j + 1) k (by omega) c2 (by omega))
      · omega
  · show ((1 : Int32) = 0 → mx g (d + 4) kX12_goNight 103 [.ref 48, .int (h), .int (n), .int (w), .int (x), .null, .null, .int (mo)] [] M' Q) ∧ (¬ (1 : Int32) = 0 → vp_in x 10 ∧ vp_in x 10 ∧ vp_in x 10 ∧ mx g (d + 3) kX12_ahead 0 [.ref 48, .int (nx), .int (w), .null, .null] [] (zq_ma (zq_ma M' 63 (upd (M' 63) (Int32.toNatClampNeg x) nx)) 64 (upd (M' 64) (Int32.toNatClampNeg x) (((M' 64) (Int32.toNatClampNeg x)) + 1))) _)
    have hjr : j + 1 ≤ r := by
      have : j + 1 ≤ rm := by
        by_cases c : j + 1 ≤ rm
        · exact c
        · exfalso
          rcases k4 0 with e | ⟨k, f1, f2⟩
          · omega
          · refine fz ⟨k, by omega, ?_⟩
            have ejr : rm = j := by omega
            rw [ejr] at f2
            have ck : k ≠ x.toNatClampNeg := by
              intro e
              rw [e, hP] at f2
              have := spx (j + 1) (by omega)
              omega
            rw [hoth k ck, n_eq, f2, t2]
      omega
    have lm := n_mi1 (m := l) (by omega)
    have enx : nx = nZ (p + (j + 1) * S) := by rw [n_eq, nZ_t (by omega) (by omega)]; exact t2
    refine ⟨fun y => absurd y (by decide), fun _ => ⟨xin, xin, xin, ?_⟩⟩
    have key : ∀ nx2 : Int32, nxt (p + (j + 1) * S) w.toInt nx2 → mx g (d + 4) kX12_goNight 46 [.ref 48, .int h, .int n, .int w, .int x, .int (l + (-1)), .int nx2, .int 1] [] (zq_ma (zq_ma M' 63 (upd (M' 63) x.toNatClampNeg nx)) 64 (upd (M' 64) x.toNatClampNeg (M' 64 x.toNatClampNeg + 1))) Q := by
      intro nx2 h2
      refine ih (l + (-1)) nx2 1 _ (by omega) ⟨j + 1, by omega, hjr, by omega, h2, ⟨fun y => absurd y (by decide), fun y => by omega⟩, fr_ma (fr_ma i4 (fun _ => rfl)) (fun _ => rfl), ?_, ?_⟩
      · show upd (M' 63) x.toNatClampNeg nx = _
        rw [i5, upd_upd, enx]
      · show upd (M' 64) x.toNatClampNeg (M' 64 x.toNatClampNeg + 1) = _
        rw [i6, upd_upd, upd_eq, nZ_up, Int.add_assoc]
    refine c_X12_ahead (by omega) (by omega) w1 w2 (fun ed u hu => ?_) (fun ed => ?_)
    · show mx g (d + 4) kX12_goNight 46 [.ref 48, .int (h), .int (n), .int (w), .int (x), .int ((l + (-1))), .int (u), .int (1)] [] (zq_ma (zq_ma M' 63 (upd (M' 63) x.toNatClampNeg nx)) 64 (upd (M' 64) x.toNatClampNeg (M' 64 x.toNatClampNeg + 1))) Q
      refine key u (Or.inl ⟨by rw [← t2]; exact ed, ?_⟩)
      rw [← t2]
      exact hu
    · show mx g (d + 4) kX12_goNight 46 [.ref 48, .int (h), .int (n), .int (w), .int (x), .int ((l + (-1))), .int ((-1)), .int (1)] [] (zq_ma (zq_ma M' 63 (upd (M' 63) x.toNatClampNeg nx)) 64 (upd (M' 64) x.toNatClampNeg (M' 64 x.toNatClampNeg + 1))) Q
      exact key (-1) (Or.inr ⟨by rw [← t2]; exact ed, rfl⟩)
theorem c_goN103 {g : zq_G} {d : Nat} {M : zq_M} {Q : Option Value → zq_M → Prop} {h n w x mo : Int32} {r : Int} {A B : Nat → Int32} (x1 : 0 ≤ x.toInt) (x2 : x.toInt < 10) (hl : -1 ≤ (M 66 x.toNatClampNeg).toInt) (w1 : 0 ≤ w.toInt) (hm : mo = 0 ↔ r = 0) (h63 : M 63 = upd A x.toNatClampNeg (nZ ((A x.toNatClampNeg).toInt + r * strd w.toInt))) (h64 : M 64 = upd B x.toNatClampNeg (nZ ((B x.toNatClampNeg).toInt + r))) (hq : ∀ M' : zq_M, fr (fL [65, 66]) M M' → arM M' = gS2 w r x.toNatClampNeg (A, B, M 65, M 66) → mx g (d + 4) kX12_goNight 10 [.ref 48, .int h, .int n, .int w, .int (x + 1), .null, .null, .null] [] M' Q) : mx g (d + 4) kX12_goNight 103 [.ref 48, .int h, .int n, .int w, .int x, .null, .null, .int mo] [] M Q := by
  have xin : vp_in x 10 := n_in x1 x2
  have m1 : (-1 : Int32).toInt = -1 := by decide
  refine mx_go 250 zq_t185 ?_
  show (¬ (mo : Int32) = 0 → vp_in x 10 ∧ vp_in x 10 ∧ ((((M 66) (Int32.toNatClampNeg x)) : Int32) < 0 → mx g (d + 4) kX12_goNight 145 [.ref 48, .int (h), .int (n), .int (w), .int (x), .null, .null, .null] [.int (0), .int (((M 65) (Int32.toNatClampNeg x))), .int (x), .ref 65] M Q) ∧ (¬ (((M 66) (Int32.toNatClampNeg x)) : Int32) < 0 → vp_in x 10 ∧ ((((M 66) (Int32.toNatClampNeg x)) : Int32) = (w : Int32) → mx g (d + 4) kX12_goNight 145 [.ref 48, .int (h), .int (n), .int (w), .int (x), .null, .null, .null] [.int (0), .int (((M 65) (Int32.toNatClampNeg x))), .int (x), .ref 65] M Q) ∧ (¬ (((M 66) (Int32.toNatClampNeg x)) : Int32) = (w : Int32) → mx g (d + 4) kX12_goNight 145 [.ref 48, .int (h), .int (n), .int (w), .int (x), .null, .null, .null] [.int (1), .int (((M 65) (Int32.toNatClampNeg x))), .int (x), .ref 65] M Q))) ∧ ((mo : Int32) = 0 → mx g (d + 4) kX12_goNight 10 [.ref 48, .int (h), .int (n), .int (w), .int ((x + 1)), .null, .null, .null] [] M Q)
  unfold gS2 at hq
  refine ⟨fun q => ⟨xin, xin, fun r1 => ?_, fun r1 => ⟨xin, fun t => ?_, fun t => ?_⟩⟩, fun q => hq M fr_rfl ?_⟩
  · rw [if_neg (fun z => q (hm.mpr z)), if_pos (Or.inl (by show M 66 x.toNatClampNeg = -1; rw [n_lt, n_0] at r1; rw [n_eq, m1]; omega))] at hq
    refine mx_go 250 zq_t185 ?_
    show vp_in x 10 ∧ vp_in x 10 ∧ mx g (d + 4) kX12_goNight 10 [.ref 48, .int (h), .int (n), .int (w), .int ((x + 1)), .null, .null, .null] [] (zq_ma (zq_ma M 65 (upd (M 65) (Int32.toNatClampNeg x) ((M 65 x.toNatClampNeg) + 0))) 66 (upd (M 66) (Int32.toNatClampNeg x) w)) Q
    refine ⟨xin, xin, hq _ (fr_ma (fr_ma fr_rfl (fun _ => rfl)) (fun _ => rfl)) ?_⟩
    show (M 63, M 64, upd (M 65) x.toNatClampNeg (M 65 x.toNatClampNeg + 0), upd (M 66) x.toNatClampNeg w) = _
    rw [h63, h64, Int32.add_zero, upd_self]
  · rw [if_neg (fun z => q (hm.mpr z)), if_pos (Or.inr t)] at hq
    refine mx_go 250 zq_t185 ?_
    show vp_in x 10 ∧ vp_in x 10 ∧ mx g (d + 4) kX12_goNight 10 [.ref 48, .int (h), .int (n), .int (w), .int ((x + 1)), .null, .null, .null] [] (zq_ma (zq_ma M 65 (upd (M 65) (Int32.toNatClampNeg x) ((M 65 x.toNatClampNeg) + 0))) 66 (upd (M 66) (Int32.toNatClampNeg x) w)) Q
    refine ⟨xin, xin, hq _ (fr_ma (fr_ma fr_rfl (fun _ => rfl)) (fun _ => rfl)) ?_⟩
    show (M 63, M 64, upd (M 65) x.toNatClampNeg (M 65 x.toNatClampNeg + 0), upd (M 66) x.toNatClampNeg w) = _
    rw [h63, h64, Int32.add_zero, upd_self]
  · rw [if_neg (fun z => q (hm.mpr z)), if_neg (fun z => z.elim (fun z => by apply r1; show M 66 x.toNatClampNeg < 0; rw [show M 66 x.toNatClampNeg = -1 from z]; decide) t)] at hq
    refine mx_go 250 zq_t185 ?_
    show vp_in x 10 ∧ vp_in x 10 ∧ mx g (d + 4) kX12_goNight 10 [.ref 48, .int (h), .int (n), .int (w), .int ((x + 1)), .null, .null, .null] [] (zq_ma (zq_ma M 65 (upd (M 65) (Int32.toNatClampNeg x) ((M 65 x.toNatClampNeg) + 1))) 66 (upd (M 66) (Int32.toNatClampNeg x) w)) Q
    refine ⟨xin, xin, hq _ (fr_ma (fr_ma fr_rfl (fun _ => rfl)) (fun _ => rfl)) ?_⟩
    show (M 63, M 64, upd (M 65) x.toNatClampNeg (M 65 x.toNatClampNeg + 1), upd (M 66) x.toNatClampNeg w) = _
    rw [h63, h64]
  · have z := hm.mp q
    rw [if_pos z]
    show (M 63, M 64, M 65, M 66) = _
    rw [h63, h64, z, Int.zero_mul, Int.add_zero, Int.add_zero, nZ_of, nZ_of, upd_self, upd_self]
