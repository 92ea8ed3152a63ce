theorem c_goN103 {g : zq_G} {d : Nat} {M : zq_M} {Q : Option Value → zq_M → Prop} {h n w x mo : Int32} {r : Int} {A B : Nat → Int32} (x1 : 0 ≤ x.toInt) (x2 : x.toInt < 10) (hl : -1 ≤ (M 66 x.toNatClampNeg).toInt) (w1 : 0 ≤ w.toInt) (hm : mo = 0 ↔ r = 0) (h63 : M 63 = upd A x.toNatClampNeg (nZ ((A x.toNatClampNeg).toInt + r * strd w.toInt))) (h64 : M 64 = upd B x.toNatClampNeg (nZ ((B x.toNatClampNeg).toInt + r))) (hq : ∀ M' : zq_M, fr (fL [65, 66]) M M' → arM M' = gS2 w r x.toNatClampNeg (A, B, M 65, M 66) → mx g (d + 4) kX12_goNight 10 [.ref 48, .int h, .int n, .int w, .int (x + 1), .null, .null, .null] [] M' Q) : mx g (d + 4) kX12_goNight 103 [.ref 48, .int h, .int n, .int w, .int x, .null, .null, .int mo] [] M Q := by
  have xin : vp_in x 10 := n_in x1 x2
  have m1 : (-1 : Int32).toInt = -1 := by decide
  refine mx_go 250 zq_t185 ?_
  show (¬ (mo : Int32) = 0 → vp_in x 10 ∧ vp_in x 10 ∧ ((((M 66) (Int32.toNatClampNeg x)) : Int32) < 0 → mx g (d + 4) kX12_goNight 145 [.ref 48, .int (h), .int (n), .int (w), .int (x), .null, .null, .null] [.int (0), .int (((M 65) (Int32.toNatClampNeg x))), .int (x), .ref 65] M Q) ∧ (¬ (((M 66) (Int32.toNatClampNeg x)) : Int32) < 0 → vp_in x 10 ∧ ((((M 66) (Int32.toNatClampNeg x)) : Int32) = (w : Int32) → mx g (d + 4) kX12_goNight 145 [.ref 48, .int (h), .int (n), .int (w), .int (x), .null, .null, .null] [.int (0), .int (((M 65) (Int32.toNatClampNeg x))), .int (x), .ref 65] M Q) ∧ (¬ (((M 66) (Int32.toNatClampNeg x)) : Int32) = (w : Int32) → mx g (d + 4) kX12_goNight 145 [.ref 48, .int (h), .int (n), .int (w), .int (x), .null, .null, .null] [.int (1), .int (((M 65) (Int32.toNatClampNeg x))), .int (x), .ref 65] M Q))) ∧ ((mo : Int32) = 0 → mx g (d + 4) kX12_goNight 10 [.ref 48, .int (h), .int (n), .int (w), .int ((x + 1)), .null, .null, .null] [] M Q)
  unfold gS2 at hq
  refine ⟨fun q => ⟨xin, xin, fun r1 => ?_, fun r1 => ⟨xin, fun t => ?_, fun t => ?_⟩⟩, fun q => hq M fr_rfl ?_⟩
  · rw [if_neg (fun z => q (hm.mpr z)), if_pos (Or.inl (by show M 66 x.toNatClampNeg = -1; rw [n_lt, n_0] at r1; rw [n_eq, m1]; omega))] at hq
    refine mx_go 250 zq_t185 ?_
    show vp_in x 10 ∧ vp_in x 10 ∧ mx g (d + 4) kX12_goNight 10 [.ref 48, .int (h), .int (n), .int (w), .int ((x + 1)), .null, .null, .null] [] (zq_ma (zq_ma M 65 (upd (M 65) (Int32.toNatClampNeg x) ((M 65 x.toNatClampNeg) + 0))) 66 (upd (M 66) (Int32.toNatClampNeg x) w)) Q
    refine ⟨xin, xin, hq _ (fr_ma (fr_ma fr_rfl (fun _ => rfl)) (fun _ => rfl)) ?_⟩
    show (M 63, M 64, upd (M 65) x.toNatClampNeg (M 65 x.toNatClampNeg + 0), upd (M 66) x.toNatClampNeg w) = _
    rw [h63, h64, Int32.add_zero, upd_self]
  · rw [if_neg (fun z => q (hm.mpr z)), if_pos (Or.inr t)] at hq
    refine mx_go 250 zq_t185 ?_
    show vp_in x 10 ∧ vp_in x 10 ∧ mx g (d + 4) kX12_goNight 10 [.ref 48, .int (h), .int (n), .int (w), .int ((x + 1)), .null, .null, .null] [] (zq_ma (zq_ma M 65 (upd (M 65) (Int32.toNatClampNeg x) ((M 65 x.toNatClampNeg) + 0))) 66 (upd (M 66) (Int32.toNatClampNeg x) w)) Q
    refine ⟨xin, xin, hq _ (fr_ma (fr_ma fr_rfl (fun _ => rfl)) (fun _ => rfl)) ?_⟩
    show (M 63, M 64, upd (M 65) x.toNatClampNeg (M 65 x.toNatClampNeg + 0), upd (M 66) x.toNatClampNeg w) = _
    rw [h63, h64, Int32.add_zero, upd_self]
  · rw [if_neg (fun z => q (hm.mpr z)), if_neg (fun z => z.elim (fun z => by apply r1; show M 66 x.toNatClampNeg < 0; rw [show M 66 x.toNatClampNeg = -1 from z]; decide) t)] at hq
    refine mx_go 250 zq_t185 ?_
    show vp_in x 10 ∧ vp_in x 10 ∧ mx g (d + 4) kX12_goNight 10 [.ref 48, .int (h), .int (n), .int (w), .int ((x + 1)), .null, .null, .null] [] (zq_ma (zq_ma M 65 (upd (M 65) (Int32.toNatClampNeg x) ((M 65 x.toNatClampNeg) + 1))) 66 (upd (M 66) (Int32.toNatClampNeg x) w)) Q
    refine ⟨xin, xin, hq _ (fr_ma (fr_ma fr_rfl (fun _ => rfl)) (fun _ => rfl)) ?_⟩
    show (M 63, M 64, upd (M 65) x.toNatClampNeg (M 65 x.toNatClampNeg + 1), upd (M 66) x.toNatClampNeg w) = _
    rw [h63, h64]
  · have z := hm.mp q
    rw [if_pos z]
    show (M 63, M 64, M 65, M 66) = _
    rw [h63, h64, z, Int.zero_mul, Int.add_zero, Int.add_zero, nZ_of, nZ_of, upd_self, upd_self]
