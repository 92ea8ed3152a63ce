/-! the reference's run -/
def nxt (p w : Int) (nx : Int32) : Prop := (1 ≤ edg p w ∧ nx.toInt = p + strd w) ∨ (edg p w = 0 ∧ nx = -1)
theorem goN_0 {l : Int32} (q : ¬ l.toInt ≤ 0) : 1 ≤ l.toInt := by omega
theorem goN_1 {l : Int32} {v j : Int} (q : ¬ l.toInt ≤ 0) (j1 : 0 ≤ j) (i1 : l.toInt = v - j) (lm : (l + (-1)).toInt = l.toInt - 1) : (l + (-1)).toInt.toNat < l.toInt.toNat ∧ 0 ≤ j + 1 ∧ (l + (-1)).toInt = v - (j + 1) ∧ ¬ j + 1 = 0 := by omega
theorem c_goN46 {g : zq_G} {d : Nat} {M : zq_M} {Q : Option Value → zq_M → Prop} {h n w x v nx0 N : Int32} (e0 : M 48 0 = N) (n2 : N.toInt ≤ 10) (x1 : 0 ≤ x.toInt) (x2 : x.toInt < N.toInt) (hon : ∀ i : Nat, (i : Int) < N.toInt → 0 ≤ (M 63 i).toInt ∧ (M 63 i).toInt ≤ 4095) (w1 : 0 ≤ w.toInt) (w2 : w.toInt ≤ 3) (v1 : 0 ≤ v.toInt) (hnx : nxt (M 63 x.toNatClampNeg).toInt w.toInt nx0) (hq : ∀ (M' : zq_M) (mo : Int32), fr (fL [63, 64]) M M' → M' 63 = upd (M 63) x.toNatClampNeg (nZ ((M 63 x.toNatClampNeg).toInt + gon v.toInt (rmK (M 63) (M 63 x.toNatClampNeg).toInt w.toInt N.toInt.toNat) * strd w.toInt)) → M' 64 = upd (M 64) x.toNatClampNeg (nZ ((M 64 x.toNatClampNeg).toInt + gon v.toInt (rmK (M 63) (M 63 x.toNatClampNeg).toInt w.toInt N.toInt.toNat))) → (mo = 0 ↔ gon v.toInt (rmK (M 63) (M 63 x.toNatClampNeg).toInt w.toInt N.toInt.toNat) = 0) → mx g (d + 4) kX12_goNight 103 [.ref 48, .int h, .int n, .int w, .int x, .null, .null, .int mo] [] M' Q) : mx g (d + 4) kX12_goNight 46 [.ref 48, .int h, .int n, .int w, .int x, .int v, .int nx0, .int 0] [] M Q := by
  have hp := hon x.toNatClampNeg (by rw [n_cl]; omega)
  have xin : vp_in x 10 := n_in x1 (by omega)
  obtain ⟨k1, k2, k3, k4⟩ := rm_ok (on := M 63) (p := (M 63 x.toNatClampNeg).toInt) w1 w2 hp.1 hp.2 N.toInt.toNat (fun i hi => hon i (by omega))
  replace k4 : Nat → _ := fun _ => k4
  have eb := edg_b w1 w2 hp.1 hp.2
  have gb := gon_b v1 k1
  have pb := fun (j : Int) => pos_b (j := j) w1 w2 hp.1 hp.2
  have sne : strd w.toInt ≠ 0 := by
    rcases w_cases w1 w2 with e | e | e | e <;> rw [e] <;> decide
  have spx : ∀ j : Int, j * strd w.toInt = 0 → j = 0 := fun j hj => strd_inj w1 w2 (by rw [hj, Int.zero_mul])
  generalize hS : strd w.toInt = S at *
  generalize hrm : rmK (M 63) (M 63 x.toNatClampNeg).toInt w.toInt N.toInt.toNat = rm at *
  generalize hr : gon v.toInt rm = r at *
  generalize hP : (M 63 x.toNatClampNeg).toInt = p at *
  refine mx_wf3 (fun l nx mo : Int32 => [.ref 48, .int h, .int n, .int w, .int x, .int l, .int nx, .int mo]) (fun l nx mo M' => ∃ j : Int, 0 ≤ j ∧ j ≤ r ∧ l.toInt = v.toInt - j ∧ nxt (p + j * S) w.toInt nx ∧ (mo = 0 ↔ j = 0) ∧ fr (fL [63, 64]) M M' ∧ M' 63 = upd (M 63) x.toNatClampNeg (nZ (p + j * S)) ∧ M' 64 = upd (M 64) x.toNatClampNeg (nZ ((M 64 x.toNatClampNeg).toInt + j))) (fun l _ _ => l.toInt.toNat) ?_ v nx0 0 M ⟨0, Int.le_refl _, gb.1, by omega, by rw [Int.zero_mul, Int.add_zero]; exact hnx, ⟨fun _ => rfl, fun _ => rfl⟩, fr_rfl, by rw [Int.zero_mul, Int.add_zero, ← hP, nZ_of, upd_self], by rw [Int.add_zero, nZ_of, upd_self]⟩
  intro l nx mo M' ⟨j, j1, j2, i1, i2, i3, i4, i5, i6⟩ ih
  replace i3 : Nat → _ := fun _ => i3
  have ej := pb j j1 (by omega)
  have exit : ∀ _ : Nat, j = r → mx g (d + 4) kX12_goNight 103 [.ref 48, .int h, .int n, .int w, .int x, .null, .null, .int mo] [] M' Q := by
    intro _ e
    rw [← e] at hq
    exact hq M' mo i4 i5 i6 (i3 0)
  refine mx_go 250 zq_t185 ?_
  show ((l : Int32) ≤ 0 → mx g (d + 4) kX12_goNight 103 [.ref 48, .int (h), .int (n), .int (w), .int (x), .null, .null, .int (mo)] [] M' Q) ∧ (¬ (l : Int32) ≤ 0 → ((nx : Int32) < 0 → mx g (d + 4) kX12_goNight 103 [.ref 48, .int (h), .int (n), .int (w), .int (x), .null, .null, .int (mo)] [] M' Q) ∧ (¬ (nx : Int32) < 0 → mx g (d + 3) kX12_isFree 0 [.ref 48, .int (nx), .null] [] M' _))
  refine ⟨fun q => exit 0 ?_, fun q => ⟨fun z => exit 0 ?_, fun z => ?_⟩⟩
  · rw [n_le, n_0] at q
    omega
  · rw [n_lt, n_0] at z
    rcases i2 with ⟨t1, t2⟩ | ⟨t1, t2⟩
    · have := pb (j + 1) (by omega) (by omega)
      rw [Int.add_mul, Int.one_mul] at this
      rw [hS] at t2
      omega
    · omega
  rw [n_le, n_0] at q
  rw [n_lt, n_0] at z
  have i2' : 1 ≤ edg (p + j * S) w.toInt ∧ nx.toInt = p + (j + 1) * S := by
    rcases i2 with ⟨t1, t2⟩ | ⟨t1, t2⟩
    · rw [Int.add_mul, Int.one_mul]
      rw [hS] at t2
      exact ⟨t1, by omega⟩
    · rw [t2] at z
      exact absurd (by decide) z
  obtain ⟨t1, t2⟩ := i2'
  have ej1 := pb (j + 1) (by omega) (by omega)
  have hself : (M' 63 x.toNatClampNeg).toInt = p + j * S := by
    rw [i5, upd_eq, nZ_t (by omega) (by omega)]
  have hoth : ∀ i : Nat, i ≠ x.toNatClampNeg → M' 63 i = M 63 i := fun i hi => by rw [i5, upd_ne hi]
  refine c_X12_isFree (n := N) (p := M' 63) (by rw [i4 48 0 rfl]; exact e0) rfl (by omega) n2 (fun fz _ => ?_) (fun fz => ?_)
  rotate_left
  · show ((0 : Int32) = 0 → mx g (d + 4) kX12_goNight 103 [.ref 48, .int (h), .int (n), .int (w), .int (x), .null, .null, .int (mo)] [] M' Q) ∧ (¬ (0 : Int32) = 0 → vp_in x 10 ∧ vp_in x 10 ∧ vp_in x 10 ∧ mx g (d + 3) kX12_ahead 0 [.ref 48, .int (nx), .int (w), .null, .null] [] (zq_ma (zq_ma M' 63 (upd (M' 63) (Int32.toNatClampNeg x) nx)) 64 (upd (M' 64) (Int32.toNatClampNeg x) (((M' 64) (Int32.toNatClampNeg x)) + 1))) _)
    refine ⟨fun _ => exit 0 ?_, fun y => absurd rfl y⟩
    obtain ⟨k, f1, f2⟩ := fz
    by_cases c : k = x.toNatClampNeg
    · rw [c, n_eq, hself, t2, Int.add_mul, Int.one_mul] at f2
      omega
    · rw [hoth k c, n_eq, t2] at f2
      by_cases c2 : j + 1 ≤ rm
      · exact absurd f2 (k3 (j + 1) k (by omega) c2 (by omega))
      · omega
  · show ((1 : Int32) = 0 → mx g (d + 4) kX12_goNight 103 [.ref 48, .int (h), .int (n), .int (w), .int (x), .null, .null, .int (mo)] [] M' Q) ∧ (¬ (1 : Int32) = 0 → vp_in x 10 ∧ vp_in x 10 ∧ vp_in x 10 ∧ mx g (d + 3) kX12_ahead 0 [.ref 48, .int (nx), .int (w), .null, .null] [] (zq_ma (zq_ma M' 63 (upd (M' 63) (Int32.toNatClampNeg x) nx)) 64 (upd (M' 64) (Int32.toNatClampNeg x) (((M' 64) (Int32.toNatClampNeg x)) + 1))) _)
    have hjr : j + 1 ≤ r := by
      have : j + 1 ≤ rm := by
        by_cases c : j + 1 ≤ rm
        · exact c
        · exfalso
          rcases k4 0 with e | ⟨k, f1, f2⟩
          · omega
          · refine fz ⟨k, by omega, ?_⟩
            have ejr : rm = j := by omega
            rw [ejr] at f2
            have ck : k ≠ x.toNatClampNeg := by
              intro e
              rw [e, hP] at f2
              have := spx (j + 1) (by omega)
              omega
            rw [hoth k ck, n_eq, f2, t2]
      omega
    have lm := n_mi1 (m := l) (goN_0 q)
    obtain ⟨m1, m2, m3, m4⟩ := goN_1 q j1 i1 lm
    have enx : nx = nZ (p + (j + 1) * S) := by rw [n_eq, nZ_t (by omega) (by omega)]; exact t2
    refine ⟨fun y => absurd y (by decide), fun _ => ⟨xin, xin, xin, ?_⟩⟩
    have key : ∀ nx2 : Int32, nxt (p + (j + 1) * S) w.toInt nx2 → mx g (d + 4) kX12_goNight 46 [.ref 48, .int h, .int n, .int w, .int x, .int (l + (-1)), .int nx2, .int 1] [] (zq_ma (zq_ma M' 63 (upd (M' 63) x.toNatClampNeg nx)) 64 (upd (M' 64) x.toNatClampNeg (M' 64 x.toNatClampNeg + 1))) Q := by
      intro nx2 h2
      refine ih (l + (-1)) nx2 1 _ m1 ⟨j + 1, m2, hjr, m3, h2, ⟨fun y => absurd y (by decide), fun y => absurd y m4⟩, fr_ma (fr_ma i4 (fun _ => rfl)) (fun _ => rfl), ?_, ?_⟩
      · show upd (M' 63) x.toNatClampNeg nx = _
        rw [i5, upd_upd, enx]
      · show upd (M' 64) x.toNatClampNeg (M' 64 x.toNatClampNeg + 1) = _
        rw [i6, upd_upd, upd_eq, nZ_up, Int.add_assoc]
    refine c_X12_ahead (by omega) (by omega) w1 w2 (fun ed u hu => ?_) (fun ed => ?_)
    · show mx g (d + 4) kX12_goNight 46 [.ref 48, .int (h), .int (n), .int (w), .int (x), .int ((l + (-1))), .int (u), .int (1)] [] (zq_ma (zq_ma M' 63 (upd (M' 63) x.toNatClampNeg nx)) 64 (upd (M' 64) x.toNatClampNeg (M' 64 x.toNatClampNeg + 1))) Q
      refine key u (Or.inl ⟨by rw [← t2]; exact ed, ?_⟩)
      rw [← t2]
      exact hu
    · show mx g (d + 4) kX12_goNight 46 [.ref 48, .int (h), .int (n), .int (w), .int (x), .int ((l + (-1))), .int ((-1)), .int (1)] [] (zq_ma (zq_ma M' 63 (upd (M' 63) x.toNatClampNeg nx)) 64 (upd (M' 64) x.toNatClampNeg (M' 64 x.toNatClampNeg + 1))) Q
      exact key (-1) (Or.inr ⟨by rw [← t2]; exact ed, rfl⟩)
