theorem c_X12_goNight {g : zq_G} {d : Nat} {M : zq_M} {Q : Option Value → zq_M → Prop} {h n : Int32} {p : Nat → Int32} (hR : R5p M p) (hV : M 48 27 = -1) (a1 : 0 ≤ h.toInt) (a2 : h.toInt < 8) (c1 : 0 ≤ n.toInt) (c2 : n.toInt < 60) {K : Nat} (hK : K ≤ 60) (hok : okW (M 1 3).toInt (bS K 0) (arM M)) (hq : ∀ M' : zq_M, fr (fL [62, 63, 64, 65, 66]) M M' → arM M' = gN1 M h n (M 1 3).toInt.toNat (arM M) → Q none M') : mx g (d + 4) kX12_goNight 0 [.ref 48, .int h, .int n, .null, .null, .null, .null, .null] [] M Q := by
  obtain ⟨hS, hN, hH, hT, hX⟩ := id hR
  have e55 : M 55 = M 11 := hH.2.1
  have e54 : M 54 = M 9 := hN.2.2.2.2.1
  have e0 : M 48 0 = M 1 3 := hS.1
  have s4 := hS.2.2.2.1
  have s5 := hS.2.2.2.2.1
  have hw := hN.2.2.2.2.2.2.2.2.2.1 n.toNatClampNeg
  have hwy := wayZ_b (k := M 11 h.toNatClampNeg) (hN.2.2.2.2.2.2.2.2.2.2 n.toNatClampNeg)
  refine mx_go 250 zq_t185 ?_
  show mx g (d + 3) kX12_wayOf 0 [.ref 48, .int (h), .int (n)] [] M _
  refine c_X12_wayOf (congrFun e55 _) (congrFun e54 _) a1 a2 c1 c2 ?_
  show mx g (d + 4) kX12_goNight 10 [.ref 48, .int (h), .int (n), .int ((wayZ (M 11 h.toNatClampNeg) (M 9 n.toNatClampNeg))), .int (0), .null, .null, .null] [] M Q
  refine mx_wf (fun x : Int32 => [.ref 48, .int h, .int n, .int (wayZ (M 11 h.toNatClampNeg) (M 9 n.toNatClampNeg)), .int x, .null, .null, .null]) (fun x M' => 0 ≤ x.toInt ∧ x.toInt ≤ (M 1 3).toInt ∧ fr (fL [62, 63, 64, 65, 66]) M M' ∧ arM M' = gN1 M h n x.toInt.toNat (arM M)) (fun x => ((M 1 3).toInt - x.toInt).toNat) ?_ 0 M ⟨by decide, s4, fr_rfl, rfl⟩
  intro x M' ⟨i1, i2, i3, i4⟩ ih
  have hfs := fr_sub (l' := sL) i3 (by decide)
  have e0' : M' 48 0 = M 1 3 := (i3 48 0 rfl).trans e0
  have hR' := R5p_fr hfs hR
  have hV' : M' 48 27 = -1 := (i3 48 27 rfl).trans hV
  have e13 := i3 1 3 rfl
  refine mx_go 250 zq_t185 ?_
  show (((M' 48 0) : Int32) ≤ (x : Int32) → Q none M') ∧ (¬ ((M' 48 0) : Int32) ≤ (x : Int32) → mx g (d + 3) kX12_pushes 0 [.ref 48, .int (h), .int (x), .int (n), .null, .null] [] M' _)
  rw [e0']
  refine ⟨fun q => ?_, fun q => ?_⟩
  · rw [n_le] at q
    refine hq M' i3 ?_
    rw [show (M 1 3).toInt = x.toInt by omega]
    exact i4
  rw [n_le] at q
  have up := n_up (n := M 1 3) i1 (by omega)
  have ok' : okW (M 1 3).toInt (bS K x.toInt.toNat) (arM M') := by
    rw [i4]
    exact okN hR hK hok x.toInt.toNat (by omega)
  have hgs : gN1 M h n (x + 1).toInt.toNat (arM M) = gS2 (wayZ (M 11 h.toNatClampNeg) (M 9 n.toNatClampNeg)) (gon (sq M h x n (M 8 n.toNatClampNeg)).toInt (rmK (M' 63) (M' 63 x.toNatClampNeg).toInt (wayZ (M 11 h.toNatClampNeg) (M 9 n.toNatClampNeg)).toInt (M 1 3).toInt.toNat)) x.toNatClampNeg (arM M') := by
    rw [up, show (x.toInt + 1).toNat = x.toInt.toNat + 1 by omega]
    show gS1 M h n x.toInt.toNat (gN1 M h n x.toInt.toNat (arM M)) = _
    rw [← i4]
    unfold gS1
    rw [show nI x.toInt.toNat = x from (n_of i1).symm]
    rfl
  have sb := sq_b (h := h) (s := x) (n := n) hR hw.1 hw.2
  refine c_X12_pushes (wi := M' 8 n.toNatClampNeg) hR' a1 a2 i1 (by omega) c1 c2 (wi_now hV' rfl) (fun N => ?_)
  rw [sq_fr hfs, fr_ar i3 8 (fun _ => rfl)]
  generalize sq M h x n (M 8 n.toNatClampNeg) = v at sb hgs ⊢
  generalize wayZ (M 11 h.toNatClampNeg) (M 9 n.toNatClampNeg) = w at hwy hgs ih ⊢
  have hf1 : fr (fL [62]) M' (mv [62] N M') := fr_of
  generalize mv [62] N M' = M1 at hf1 ⊢
  have g0 : M1 48 0 = M 1 3 := (hf1 48 0 rfl).trans e0'
  have g63 := fr_ar hf1 63 (fun _ => rfl)
  have g64 := fr_ar hf1 64 (fun _ => rfl)
  have g65 := fr_ar hf1 65 (fun _ => rfl)
  have g66 := fr_ar hf1 66 (fun _ => rfl)
  show vp_in x 10 ∧ mx g (d + 3) kX12_ahead 0 [.ref 48, .int (((M1 63) (Int32.toNatClampNeg x))), .int (w), .null, .null] [] M1 _
  rw [g63]
  have okx := ok' x.toNatClampNeg (by rw [n_cl]; omega)
  have key : ∀ nx : Int32, nxt (M' 63 x.toNatClampNeg).toInt w.toInt nx → mx g (d + 4) kX12_goNight 46 [.ref 48, .int h, .int n, .int w, .int x, .int v, .int nx, .int 0] [] M1 Q := by
    intro nx hnx
    refine c_goN46 (N := M 1 3) g0 s5 i1 (by omega) (fun i hi => by rw [g63]; exact (ok' i hi).1) hwy.1 hwy.2 sb.1 (by rw [g63]; exact hnx) (fun M2 mo f2 t1 t2 t3 => ?_)
    rw [g63] at t1 t2 t3
    rw [g64] at t2
    refine c_goN103 i1 (by omega) (by rw [fr_ar f2 66 (fun _ => rfl), g66]; exact okx.2.1) hwy.1 t3 t1 t2 (fun M3 f3 t4 => ?_)
    refine ih (x + 1) M3 (by omega) ⟨by omega, by omega, ?_, ?_⟩
    · exact fr_trans i3 (fr_trans (fr_sub hf1 (by decide)) (fr_trans (fr_sub f2 (by decide)) (fr_sub f3 (by decide))))
    · rw [t4, hgs, fr_ar f2 65 (fun _ => rfl), fr_ar f2 66 (fun _ => rfl), g65, g66]
  refine ⟨n_in i1 (by omega), ?_⟩
  refine c_X12_ahead okx.1.1 okx.1.2 hwy.1 hwy.2 (fun ed u hu => ?_) (fun ed => ?_)
  · show mx g (d + 4) kX12_goNight 46 [.ref 48, .int (h), .int (n), .int (w), .int (x), .int (v), .int (u), .int (0)] [] M1 Q
    exact key u (Or.inl ⟨ed, hu⟩)
  · show mx g (d + 4) kX12_goNight 46 [.ref 48, .int (h), .int (n), .int (w), .int (x), .int (v), .int ((-1)), .int (0)] [] M1 Q
    exact key (-1) (Or.inr ⟨ed, rfl⟩)
theorem c_X12_begin {g : zq_G} {d : Nat} {M : zq_M} {Q : Option Value → zq_M → Prop} {p : Nat → Int32} (hS : gS (M 1 3) (M 48 0) (M 2) (M 49) p (M 50)) (hq : ∀ M' : zq_M, fr (fL [63, 64, 65, 66]) M M' → eqW (M 1 3).toInt (arM M') (p, fun _ => 0, fun _ => 0, fun _ => -1) → Q none M') : mx g d kX12_begin 0 [.ref 48, .null] [] M Q := by
  have e0 : M 48 0 = M 1 3 := hS.1
  have e50 : M 50 = p := hS.2.2.1
  have s4 := hS.2.2.2.1
  have s5 := hS.2.2.2.2.1
  refine mx_go 250 zq_t184 ?_
  show mx g (d) kX12_begin 2 [.ref 48, .int (0)] [] M Q
  refine mx_wf (fun x : Int32 => [.ref 48, .int x]) (fun x M' => 0 ≤ x.toInt ∧ x.toInt ≤ (M 1 3).toInt ∧ fr (fL [63, 64, 65, 66]) M M' ∧ eqW x.toInt (arM M') (p, fun _ => 0, fun _ => 0, fun _ => -1)) (fun x => ((M 1 3).toInt - x.toInt).toNat) ?_ 0 M ⟨by decide, s4, fr_rfl, fun i q => by rw [n_0] at q; omega⟩
  intro x M' ⟨i1, i2, i3, i4⟩ ih
  refine mx_go 250 zq_t184 ?_
  show (((M' 48 0) : Int32) ≤ (x : Int32) → Q none M') ∧ (¬ ((M' 48 0) : Int32) ≤ (x : Int32) → vp_in x 10 ∧ vp_in x 10 ∧ vp_in x 10 ∧ vp_in x 10 ∧ vp_in x 10 ∧ mx g (d) kX12_begin 2 [.ref 48, .int ((x + 1))] [] (zq_ma (zq_ma (zq_ma (zq_ma M' 63 (upd (M' 63) (Int32.toNatClampNeg x) ((M' 50) (Int32.toNatClampNeg x)))) 64 (upd (M' 64) (Int32.toNatClampNeg x) 0)) 65 (upd (M' 65) (Int32.toNatClampNeg x) 0)) 66 (upd (M' 66) (Int32.toNatClampNeg x) (-1))) Q)
  rw [i3 48 0 rfl, e0, fr_ar i3 50 (fun _ => rfl), e50]
  refine ⟨fun q => ?_, fun q => ?_⟩
  · rw [n_le] at q
    rw [show x.toInt = (M 1 3).toInt by omega] at i4
    exact hq M' i3 i4
  rw [n_le] at q
  have xin : vp_in x 10 := n_in i1 (by omega)
  have up := n_up (n := M 1 3) i1 (by omega)
  refine ⟨xin, xin, xin, xin, xin, ?_⟩
  refine ih (x + 1) _ (by omega) ⟨by omega, by omega, fr_ma (fr_ma (fr_ma (fr_ma i3 (fun _ => rfl)) (fun _ => rfl)) (fun _ => rfl)) (fun _ => rfl), fun i hi => ?_⟩
  show upd (M' 63) _ _ i = p i ∧ upd (M' 64) _ _ i = 0 ∧ upd (M' 65) _ _ i = 0 ∧ upd (M' 66) _ _ i = -1
  by_cases c : i = x.toNatClampNeg
  · subst c
    rw [upd_eq, upd_eq, upd_eq, upd_eq]
    exact ⟨rfl, rfl, rfl, rfl⟩
  · rw [upd_ne c, upd_ne c, upd_ne c, upd_ne c]
    rw [n_cl] at c
    exact i4 i (by omega)
theorem gN1_eq {M : zq_M} {h n : Int32} {W V : WS} (e : eqW (M 1 3).toInt W V) : ∀ k : Nat, (k : Int) ≤ (M 1 3).toInt → eqW (M 1 3).toInt (gN1 M h n k W) (gN1 M h n k V)
  | 0, _ => e
  | k + 1, hk => by
    unfold gN1
    exact gS1_eq (by omega) (gN1_eq e k (by omega))
theorem c_X12_goAll {g : zq_G} {d : Nat} {M : zq_M} {Q : Option Value → zq_M → Prop} {h : Int32} {p : Nat → Int32} (hR : R5p M p) (hV : M 48 27 = -1) (a1 : 0 ≤ h.toInt) (a2 : h.toInt < 8) (hq : ∀ M' : zq_M, fr (fL [62, 63, 64, 65, 66]) M M' → eqW (M 1 3).toInt (arM M') (gR M p h 0 (M 5 4).toInt.toNat) → Q none M') : mx g (d + 5) kX12_goAll 0 [.ref 48, .int h, .null] [] M Q := by
  obtain ⟨hS, hN, hH, hT, hX⟩ := id hR
  have e1 : M 48 1 = M 5 4 := hN.1
  have s4 := hS.2.2.2.1
  have n6 := hN.2.2.2.2.2.1
  have n7 := hN.2.2.2.2.2.2.1
  refine mx_go 250 zq_t186 ?_
  show mx g (d + 4) kX12_begin 0 [.ref 48, .null] [] M _
  refine c_X12_begin hS (fun M0 f0 q0 => ?_)
  show mx g (d + 5) kX12_goAll 6 [.ref 48, .int (h), .int (0)] [] M0 Q
  refine mx_wf (fun x : Int32 => [.ref 48, .int h, .int x]) (fun x M' => 0 ≤ x.toInt ∧ x.toInt ≤ (M 5 4).toInt ∧ fr (fL [62, 63, 64, 65, 66]) M M' ∧ eqW (M 1 3).toInt (arM M') (gR M p h 0 x.toInt.toNat)) (fun x => ((M 5 4).toInt - x.toInt).toNat) ?_ 0 M0 ⟨by decide, n6, fr_sub f0 (by decide), q0⟩
  clear q0 f0
  clear M0
  intro x M' ⟨i1, i2, i3, i4⟩ ih
  have hfs := fr_sub (l' := sL) i3 (by decide)
  have e13 := i3 1 3 rfl
  refine mx_go 250 zq_t186 ?_
  show (((M' 48 1) : Int32) ≤ (x : Int32) → Q none M') ∧ (¬ ((M' 48 1) : Int32) ≤ (x : Int32) → mx g (d + 4) kX12_goNight 0 [.ref 48, .int (h), .int (x), .null, .null, .null, .null, .null] [] M' _)
  rw [i3 48 1 rfl, e1]
  refine ⟨fun q => ?_, fun q => ?_⟩
  · rw [n_le] at q
    refine hq M' i3 ?_
    rw [show (M 5 4).toInt = x.toInt by omega]
    exact i4
  rw [n_le] at q
  have up := n_up (n := M 5 4) i1 (by omega)
  have okr := okR (h := h) (a := 0) hR x.toInt.toNat (by omega)
  refine c_X12_goNight (K := x.toInt.toNat) (R5p_fr hfs hR) ((i3 48 27 rfl).trans hV) a1 a2 i1 (by omega) (by omega) (by rw [e13]; exact okW_eq i4 okr) (fun M2 f2 q2 => ?_)
  show mx g (d + 5) kX12_goAll 6 [.ref 48, .int (h), .int ((x + 1))] [] M2 Q
  refine ih (x + 1) M2 (by omega) ⟨by omega, by omega, fr_trans i3 f2, ?_⟩
  rw [q2, gN1_fr hfs, e13, up, show (x.toInt + 1).toNat = x.toInt.toNat + 1 by omega]
  show eqW _ _ (gN1 M h (nI (0 + x.toInt.toNat)) (M 1 3).toInt.toNat (gR M p h 0 x.toInt.toNat))
  rw [Nat.zero_add, show nI x.toInt.toNat = x from (n_of i1).symm]
  exact gN1_eq i4 _ (by omega)
theorem c_X12_goRow {g : zq_G} {d : Nat} {M : zq_M} {Q : Option Value → zq_M → Prop} {h ab a b : Int32} {p : Nat → Int32} (hR : R5p M p) (hV : M 48 27 = -1) (a1 : 0 ≤ h.toInt) (a2 : h.toInt < 8) (ha : ab / 100 = a) (hb : ab - ab / 100 * 100 = b) (f1 : 0 ≤ a.toInt) (f2 : a.toInt ≤ b.toInt + 1) (f3 : b.toInt < 60) (hq : ∀ M' : zq_M, fr (fL [62, 63, 64, 65, 66]) M M' → eqW (M 1 3).toInt (arM M') (gR M p h a.toInt.toNat (b.toInt + 1 - a.toInt).toNat) → Q none M') : mx g (d + 5) kX12_goRow 0 [.ref 48, .int h, .int ab, .null] [] M Q := by
  obtain ⟨hS, hN, hH, hT, hX⟩ := id hR
  have s4 := hS.2.2.2.1
  have f60 : (60 : Int32).toInt = 60 := rfl
  refine mx_go 250 zq_t188 ?_
  show mx g (d + 4) kX12_begin 0 [.ref 48, .null] [] M _
  refine c_X12_begin hS (fun M0 f0 q0 => ?_)
  show (¬ (100 : Int32) = 0) ∧ mx g (d + 5) kX12_goRow 9 [.ref 48, .int (h), .int (ab), .int ((ab / 100))] [] M0 Q
  rw [ha]
  refine ⟨by decide, ?_⟩
  refine mx_wf (fun x : Int32 => [.ref 48, .int h, .int ab, .int x]) (fun x M' => a.toInt ≤ x.toInt ∧ x.toInt ≤ b.toInt + 1 ∧ fr (fL [62, 63, 64, 65, 66]) M M' ∧ eqW (M 1 3).toInt (arM M') (gR M p h a.toInt.toNat (x.toInt - a.toInt).toNat)) (fun x => (b.toInt + 1 - x.toInt).toNat) ?_ a M0 ⟨Int.le_refl _, f2, fr_sub f0 (by decide), by rw [show (a.toInt - a.toInt).toNat = 0 by omega]; exact q0⟩
  clear q0 f0
  clear M0
  intro x M' ⟨i1, i2, i3, i4⟩ ih
  have hfs := fr_sub (l' := sL) i3 (by decide)
  have e13 := i3 1 3 rfl
  refine mx_go 250 zq_t188 ?_
  show (¬ (100 : Int32) = 0) ∧ (((ab - ab / 100 * 100) : Int32) < (x : Int32) → Q none M') ∧ (¬ ((ab - ab / 100 * 100) : Int32) < (x : Int32) → mx g (d + 4) kX12_goNight 0 [.ref 48, .int (h), .int (x), .null, .null, .null, .null, .null] [] M' _)
  rw [hb]
  refine ⟨by decide, fun q => ?_, fun q => ?_⟩
  · rw [n_lt] at q
    refine hq M' i3 ?_
    rw [show b.toInt + 1 - a.toInt = x.toInt - a.toInt by omega]
    exact i4
  rw [n_lt] at q
  have up := n_up (n := 60) (x := x) (by omega) (by omega)
  have okr := okR (h := h) (a := a.toInt.toNat) hR (x.toInt - a.toInt).toNat (by omega)
  have ex : nI (a.toInt.toNat + (x.toInt - a.toInt).toNat) = x := by
    rw [show a.toInt.toNat + (x.toInt - a.toInt).toNat = x.toInt.toNat by omega]
    exact (n_of (by omega)).symm
  refine c_X12_goNight (K := (x.toInt - a.toInt).toNat) (R5p_fr hfs hR) ((i3 48 27 rfl).trans hV) a1 a2 (by omega) (by omega) (by omega) (by rw [e13]; exact okW_eq i4 okr) (fun M2 f2 q2 => ?_)
  show mx g (d + 5) kX12_goRow 9 [.ref 48, .int (h), .int (ab), .int ((x + 1))] [] M2 Q
  refine ih (x + 1) M2 (by omega) ⟨by omega, by omega, fr_trans i3 f2, ?_⟩
  rw [q2, gN1_fr hfs, e13, up, show (x.toInt + 1 - a.toInt).toNat = (x.toInt - a.toInt).toNat + 1 by omega]
  show eqW _ _ (gN1 M h (nI (a.toInt.toNat + (x.toInt - a.toInt).toNat)) (M 1 3).toInt.toNat (gR M p h a.toInt.toNat (x.toInt - a.toInt).toNat))
  rw [ex]
  exact gN1_eq i4 _ (by omega)
