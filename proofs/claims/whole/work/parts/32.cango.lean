theorem c_X12_isFree {g : zq_G} {d : Nat} {M : zq_M} {Q : Option Value → zq_M → Prop} {v n : Int32} {p : Nat → Int32} (hn : M 48 0 = n) (hp : M 63 = p) (b1 : 0 ≤ n.toInt) (b2 : n.toInt ≤ 10) (h1 : ¬ occ p n.toInt v → True → Q (some (.int 1)) M) (h0 : occ p n.toInt v → Q (some (.int 0)) M) : mx g d kX12_isFree 0 [.ref 48, .int v, .null] [] M Q := by
  subst hn hp
  refine mx_go 60 zq_t182 ?_
  show mx g (d) kX12_isFree 2 [.ref 48, .int (v), .int (0)] [] M Q
  refine mx_wf (fun x : Int32 => [.ref 48, .int v, .int x]) (fun x M' => M' = M ∧ 0 ≤ x.toInt ∧ x.toInt ≤ (M 48 0).toInt ∧ ∀ i : Nat, (i : Int) < x.toInt → ¬ M 63 i = v) (fun x => ((M 48 0).toInt - x.toInt).toNat) ?_ 0 M ⟨rfl, by decide, b1, fun i q => by rw [n_0] at q; omega⟩
  intro x M' ⟨e, i1, i2, i3⟩ ih
  subst e
  refine mx_go 60 zq_t182 ?_
  show (((M' 48 0) : Int32) ≤ (x : Int32) → zq_b 1 ∧ Q (some (.int 1)) M') ∧ (¬ ((M' 48 0) : Int32) ≤ (x : Int32) → vp_in x 10 ∧ (¬ (((M' 63) (Int32.toNatClampNeg x)) : Int32) = (v : Int32) → mx g (d) kX12_isFree 2 [.ref 48, .int (v), .int ((x + 1))] [] M' Q) ∧ ((((M' 63) (Int32.toNatClampNeg x)) : Int32) = (v : Int32) → zq_b 0 ∧ Q (some (.int 0)) M'))
  refine ⟨fun q => ⟨Or.inr rfl, h1 (fun z => ?_) trivial⟩, fun q => ⟨n_in i1 (by rw [n_le] at q; omega), fun r => ?_, fun r => ⟨Or.inl rfl, h0 ⟨x.toNatClampNeg, by rw [n_le] at q; rw [n_cl]; omega, r⟩⟩⟩⟩
  · obtain ⟨i, z1, z2⟩ := z
    rw [n_le] at q
    exact i3 i (by omega) z2
  · rw [n_le] at q
    have e := n_up (n := M' 48 0) i1 (by omega)
    refine ih (x + 1) _ (by omega) ⟨rfl, by omega, by omega, fun i hi => ?_⟩
    by_cases c : i = x.toNatClampNeg
    · rw [c]; exact r
    · rw [n_cl] at c; exact i3 i (by omega)
theorem c_ahead47 {g : zq_G} {d : Nat} {M : zq_M} {Q : Option Value → zq_M → Prop} {x a b : Int32} {X Y : Int} (hx : x.toInt = X) (hy : (a + b).toInt = Y) (y1 : -1 ≤ Y) (y2 : Y ≤ 64) (x1 : -1 ≤ X) (x2 : X ≤ 64) (h1 : 0 ≤ X → X ≤ 63 → 0 ≤ Y → Y ≤ 63 → ∀ v : Int32, v.toInt = 64 * Y + X → Q (some (.int v)) M) (h0 : ¬ (0 ≤ X ∧ X ≤ 63 ∧ 0 ≤ Y ∧ Y ≤ 63) → Q (some (.int (-1))) M) : mx g (d + 1) kX12_ahead 47 [.ref 48, .null, .null, .int x, .null] [.int b, .int a] M Q := by
  have f63 : (63 : Int32).toInt = 63 := rfl
  have f64 : (64 : Int32).toInt = 64 := rfl
  refine mx_go 60 zq_t183 ?_
  show mx g (d) kX12_in 0 [.ref 48, .int (x), .int (0), .int (63)] [] M _
  refine c_X12_in (fun q r => ?_) (fun q => ?_)
  · rw [n_0, hx] at q
    rw [f63, hx] at r
    show ((1 : Int32) = 0 → Q (some (.int (-1))) M) ∧ (¬ (1 : Int32) = 0 → mx g (d) kX12_in 0 [.ref 48, .int ((a + b)), .int (0), .int (63)] [] M _)
    refine ⟨fun z => absurd z (by decide), fun _ => ?_⟩
    refine c_X12_in (fun t u => ?_) (fun t => ?_)
    · rw [n_0, hy] at t
      rw [f63, hy] at u
      show ((1 : Int32) = 0 → Q (some (.int (-1))) M) ∧ (¬ (1 : Int32) = 0 → Q (some (.int ((64 * (a + b)) + x))) M)
      refine ⟨fun z => absurd z (by decide), fun _ => h1 q r t u _ ?_⟩
      rw [n_add, n_mul, hx, hy, f64, zw_id (z := 64 * Y) (by omega) (by omega), zw_id (by omega) (by omega)]
    · rw [n_0, f63, hy] at t
      show ((0 : Int32) = 0 → Q (some (.int (-1))) M) ∧ (¬ (0 : Int32) = 0 → Q (some (.int ((64 * (a + b)) + x))) M)
      exact ⟨fun _ => h0 (by omega), fun z => absurd rfl z⟩
  · rw [n_0, f63, hx] at q
    show ((0 : Int32) = 0 → Q (some (.int (-1))) M) ∧ (¬ (0 : Int32) = 0 → mx g (d) kX12_in 0 [.ref 48, .int ((a + b)), .int (0), .int (63)] [] M _)
    exact ⟨fun _ => h0 (by omega), fun z => absurd rfl z⟩
theorem c_X12_ahead {g : zq_G} {d : Nat} {M : zq_M} {Q : Option Value → zq_M → Prop} {p w : Int32} (p1 : 0 ≤ p.toInt) (p2 : p.toInt ≤ 4095) (w1 : 0 ≤ w.toInt) (w2 : w.toInt ≤ 3) (h1 : 1 ≤ edg p.toInt w.toInt → ∀ v : Int32, v.toInt = p.toInt + strd w.toInt → Q (some (.int v)) M) (h0 : edg p.toInt w.toInt = 0 → Q (some (.int (-1))) M) : mx g (d + 1) kX12_ahead 0 [.ref 48, .int p, .int w, .null, .null] [] M Q := by
  have ex := rem64 p1
  have ey := div64 p1
  have m1 : (-1 : Int32).toInt = -1 := by decide
  have ax : ∀ (a : Int32) (z : Int), a.toInt = z → -1 ≤ z → z ≤ 1 → (p - p / 64 * 64 + a).toInt = p.toInt % 64 + z := fun a z e z1 z2 => by rw [n_add, ex, e, zw_id (by omega) (by omega)]
  have ay : ∀ (a : Int32) (z : Int), a.toInt = z → -1 ≤ z → z ≤ 1 → (p / 64 + a).toInt = p.toInt / 64 + z := fun a z e z1 z2 => by rw [n_add, ey, e, zw_id (by omega) (by omega)]
  refine mx_go 60 zq_t183 ?_
  show (¬ (64 : Int32) = 0) ∧ (¬ (w : Int32) = 0 → (¬ (w : Int32) = (2 : Int32) → mx g (d + 1) kX12_ahead 22 [.ref 48, .int (p), .int (w), .null, .null] [.int (0), .int ((p - p / 64 * 64))] M Q) ∧ ((w : Int32) = (2 : Int32) → mx g (d + 1) kX12_ahead 22 [.ref 48, .int (p), .int (w), .null, .null] [.int ((-1)), .int ((p - p / 64 * 64))] M Q)) ∧ ((w : Int32) = 0 → mx g (d + 1) kX12_ahead 22 [.ref 48, .int (p), .int (w), .null, .null] [.int (1), .int ((p - p / 64 * 64))] M Q)
  rcases w_cases w1 w2 with e | e | e | e
  · obtain rfl : w = 0 := (n_eq _ _).mpr e
    rw [show (0 : Int32).toInt = 0 from rfl, edg_0, strd_0] at h1
    rw [show (0 : Int32).toInt = 0 from rfl, edg_0] at h0
    refine ⟨by decide, fun z => absurd rfl z, fun _ => ?_⟩
    refine mx_go 60 zq_t183 ?_
    show (¬ (64 : Int32) = 0) ∧ (¬ (0 : Int32) = (1 : Int32) → (¬ (0 : Int32) = (3 : Int32) → mx g (d + 1) kX12_ahead 47 [.ref 48, .null, .null, .int (((p - p / 64 * 64) + 1)), .null] [.int (0), .int ((p / 64))] M Q) ∧ ((0 : Int32) = (3 : Int32) → mx g (d + 1) kX12_ahead 47 [.ref 48, .null, .null, .int (((p - p / 64 * 64) + 1)), .null] [.int ((-1)), .int ((p / 64))] M Q)) ∧ ((0 : Int32) = (1 : Int32) → mx g (d + 1) kX12_ahead 47 [.ref 48, .null, .null, .int (((p - p / 64 * 64) + 1)), .null] [.int (1), .int ((p / 64))] M Q)
    refine ⟨by decide, fun _ => ⟨fun _ => ?_, fun z => absurd z (by decide)⟩, fun z => absurd z (by decide)⟩
    exact c_ahead47 (ax 1 1 rfl (by decide) (by decide)) (ay 0 0 rfl (by decide) (by decide)) (by omega) (by omega) (by omega) (by omega) (fun q1 q2 q3 q4 v hv => h1 (by omega) v (by omega)) (fun q => h0 (by omega))
  · obtain rfl : w = 1 := (n_eq _ _).mpr e
    rw [show (1 : Int32).toInt = 1 from rfl, edg_1, strd_1] at h1
    rw [show (1 : Int32).toInt = 1 from rfl, edg_1] at h0
    refine ⟨by decide, fun _ => ⟨fun _ => ?_, fun z => absurd z (by decide)⟩, fun z => absurd z (by decide)⟩
    refine mx_go 60 zq_t183 ?_
    show (¬ (64 : Int32) = 0) ∧ (¬ (1 : Int32) = (1 : Int32) → (¬ (1 : Int32) = (3 : Int32) → mx g (d + 1) kX12_ahead 47 [.ref 48, .null, .null, .int (((p - p / 64 * 64) + 0)), .null] [.int (0), .int ((p / 64))] M Q) ∧ ((1 : Int32) = (3 : Int32) → mx g (d + 1) kX12_ahead 47 [.ref 48, .null, .null, .int (((p - p / 64 * 64) + 0)), .null] [.int ((-1)), .int ((p / 64))] M Q)) ∧ ((1 : Int32) = (1 : Int32) → mx g (d + 1) kX12_ahead 47 [.ref 48, .null, .null, .int (((p - p / 64 * 64) + 0)), .null] [.int (1), .int ((p / 64))] M Q)
    refine ⟨by decide, fun z => absurd rfl z, fun _ => ?_⟩
    exact c_ahead47 (ax 0 0 rfl (by decide) (by decide)) (ay 1 1 rfl (by decide) (by decide)) (by omega) (by omega) (by omega) (by omega) (fun q1 q2 q3 q4 v hv => h1 (by omega) v (by omega)) (fun q => h0 (by omega))
  · obtain rfl : w = 2 := (n_eq _ _).mpr e
    rw [show (2 : Int32).toInt = 2 from rfl, edg_2, strd_2] at h1
    rw [show (2 : Int32).toInt = 2 from rfl, edg_2] at h0
    refine ⟨by decide, fun _ => ⟨fun z => absurd rfl z, fun _ => ?_⟩, fun z => absurd z (by decide)⟩
    refine mx_go 60 zq_t183 ?_
    show (¬ (64 : Int32) = 0) ∧ (¬ (2 : Int32) = (1 : Int32) → (¬ (2 : Int32) = (3 : Int32) → mx g (d + 1) kX12_ahead 47 [.ref 48, .null, .null, .int (((p - p / 64 * 64) + (-1))), .null] [.int (0), .int ((p / 64))] M Q) ∧ ((2 : Int32) = (3 : Int32) → mx g (d + 1) kX12_ahead 47 [.ref 48, .null, .null, .int (((p - p / 64 * 64) + (-1))), .null] [.int ((-1)), .int ((p / 64))] M Q)) ∧ ((2 : Int32) = (1 : Int32) → mx g (d + 1) kX12_ahead 47 [.ref 48, .null, .null, .int (((p - p / 64 * 64) + (-1))), .null] [.int (1), .int ((p / 64))] M Q)
    refine ⟨by decide, fun _ => ⟨fun _ => ?_, fun z => absurd z (by decide)⟩, fun z => absurd z (by decide)⟩
    exact c_ahead47 (ax (-1) (-1) m1 (by decide) (by decide)) (ay 0 0 rfl (by decide) (by decide)) (by omega) (by omega) (by omega) (by omega) (fun q1 q2 q3 q4 v hv => h1 (by omega) v (by omega)) (fun q => h0 (by omega))
  · obtain rfl : w = 3 := (n_eq _ _).mpr e
    rw [show (3 : Int32).toInt = 3 from rfl, edg_3, strd_3] at h1
    rw [show (3 : Int32).toInt = 3 from rfl, edg_3] at h0
    refine ⟨by decide, fun _ => ⟨fun _ => ?_, fun z => absurd z (by decide)⟩, fun z => absurd z (by decide)⟩
    refine mx_go 60 zq_t183 ?_
    show (¬ (64 : Int32) = 0) ∧ (¬ (3 : Int32) = (1 : Int32) → (¬ (3 : Int32) = (3 : Int32) → mx g (d + 1) kX12_ahead 47 [.ref 48, .null, .null, .int (((p - p / 64 * 64) + 0)), .null] [.int (0), .int ((p / 64))] M Q) ∧ ((3 : Int32) = (3 : Int32) → mx g (d + 1) kX12_ahead 47 [.ref 48, .null, .null, .int (((p - p / 64 * 64) + 0)), .null] [.int ((-1)), .int ((p / 64))] M Q)) ∧ ((3 : Int32) = (1 : Int32) → mx g (d + 1) kX12_ahead 47 [.ref 48, .null, .null, .int (((p - p / 64 * 64) + 0)), .null] [.int (1), .int ((p / 64))] M Q)
    refine ⟨by decide, fun _ => ⟨fun z => absurd rfl z, fun _ => ?_⟩, fun z => absurd z (by decide)⟩
    exact c_ahead47 (ax 0 0 rfl (by decide) (by decide)) (ay (-1) (-1) m1 (by decide) (by decide)) (by omega) (by omega) (by omega) (by omega) (fun q1 q2 q3 q4 v hv => h1 (by omega) v (by omega)) (fun q => h0 (by omega))
def wayZ (k w : Int32) : Int32 := if k = 5 then 1 else w
theorem wayZ_b {k w : Int32} (h : 0 ≤ w.toInt ∧ w.toInt ≤ 3) : 0 ≤ (wayZ k w).toInt ∧ (wayZ k w).toInt ≤ 3 := by
  unfold wayZ
  split
  · exact ⟨by decide, by decide⟩
  · exact h
theorem c_X0_wayOf {g : zq_G} {d : Nat} {M : zq_M} {Q : Option Value → zq_M → Prop} {h w k : Int32} (hk : M 11 h.toNatClampNeg = k) (a1 : 0 ≤ h.toInt) (a2 : h.toInt < 8) (hq : Q (some (.int (wayZ k w))) M) : mx g d kX0_wayOf 0 [.ref 10, .int h, .int w] [] M Q := by
  refine mx_go 60 zq_t6 ?_
  show vp_in h 8 ∧ (¬ (((M 11) (Int32.toNatClampNeg h)) : Int32) = (5 : Int32) → Q (some (.int w)) M) ∧ ((((M 11) (Int32.toNatClampNeg h)) : Int32) = (5 : Int32) → Q (some (.int 1)) M)
  rw [hk]
  unfold wayZ at hq
  exact ⟨n_in a1 a2, fun q => by rw [if_neg q] at hq; exact hq, fun q => by rw [if_pos q] at hq; exact hq⟩
theorem c_X12_wayOf {g : zq_G} {d : Nat} {M : zq_M} {Q : Option Value → zq_M → Prop} {h n w k : Int32} (hk : M 55 h.toNatClampNeg = k) (hw : M 54 n.toNatClampNeg = w) (a1 : 0 ≤ h.toInt) (a2 : h.toInt < 8) (c1 : 0 ≤ n.toInt) (c2 : n.toInt < 60) (hq : Q (some (.int (wayZ k w))) M) : mx g d kX12_wayOf 0 [.ref 48, .int h, .int n] [] M Q := by
  refine mx_go 60 zq_t179 ?_
  show vp_in h 8 ∧ (¬ (((M 55) (Int32.toNatClampNeg h)) : Int32) = (5 : Int32) → vp_in n 60 ∧ Q (some (.int ((M 54) (Int32.toNatClampNeg n)))) M) ∧ ((((M 55) (Int32.toNatClampNeg h)) : Int32) = (5 : Int32) → Q (some (.int 1)) M)
  rw [hk, hw]
  unfold wayZ at hq
  exact ⟨n_in a1 a2, fun q => ⟨n_in c1 c2, by rw [if_neg q] at hq; exact hq⟩, fun q => by rw [if_pos q] at hq; exact hq⟩
/-- a stone is pushed and can go a square, as all lie now -/
def cgB (M : zq_M) (h s n : Int32) : Bool := decide (0 < (sq M h s n (M 8 n.toNatClampNeg)).toInt ∧ 0 < rmK (M 3) (M 3 s.toNatClampNeg).toInt (wayZ (M 11 h.toNatClampNeg) (M 9 n.toNatClampNeg)).toInt (M 1 3).toInt.toNat)
theorem cgB_fr {M M' : zq_M} {h s n : Int32} (hf : fr (fL sL) M M') : cgB M' h s n = cgB M h s n := by
  unfold cgB
  rw [sq_fr hf, fr_ar hf 8 (fun _ => rfl), fr_ar hf 3 (fun _ => rfl), fr_ar hf 11 (fun _ => rfl), fr_ar hf 9 (fun _ => rfl), hf 1 3 rfl]
theorem c_X10_canGo {g : zq_G} {d : Nat} {M : zq_M} {Q : Option Value → zq_M → Prop} {h s n : Int32} (hR : R5 M) (a1 : 0 ≤ h.toInt) (a2 : h.toInt < 8) (b1 : 0 ≤ s.toInt) (b2 : s.toInt < (M 1 3).toInt) (c1 : 0 ≤ n.toInt) (c2 : n.toInt < 60) (h1 : ∀ N : zq_M, cgB M h s n = true → Q (some (.int 1)) (mv [16, 17] N M)) (h0 : ∀ N : zq_M, cgB M h s n = false → Q (some (.int 0)) (mv [16, 17] N M)) : mx g (d + 4) kX10_canGo 0 [.ref 25, .int h, .int s, .int n] [] M Q := by
  have hR' := hR
  obtain ⟨hS, hN, hH, hT, hX⟩ := hR'
  have hw := hN.2.2.2.2.2.2.2.2.2.1 n.toNatClampNeg
  have hwy := wayZ_b (k := M 11 h.toNatClampNeg) (hN.2.2.2.2.2.2.2.2.2.2 n.toNatClampNeg)
  have sb := sq_b (h := h) (s := s) (n := n) hR hw.1 hw.2
  have nin : vp_in n 60 := n_in c1 c2
  have s4 := hS.2.2.2.1
  have s5 := hS.2.2.2.2.1
  have s7 := hS.2.2.2.2.2.2.1
  unfold cgB at h1 h0
  refine mx_go 250 zq_t89 ?_
  show vp_in n 60 ∧ mx g (d + 3) kX4_squares 0 [.ref 24, .int (h), .int (s), .int (n), .int (((M 8) (Int32.toNatClampNeg n))), .null, .null] [] M _
  refine ⟨nin, ?_⟩
  refine c_X4_squares hR a1 a2 b1 (by omega) c1 c2 (fun N => ?_)
  have h1 := h1 N
  have h0 := h0 N
  generalize sq M h s n (M 8 n.toNatClampNeg) = v at sb h1 h0 ⊢
  show (¬ (v : Int32) = 0 → vp_in n 60 ∧ mx g (d + 3) kX0_wayOf 0 [.ref 10, .int (h), .int ((((mv [16, 17] N M) 9) (Int32.toNatClampNeg n)))] [] (mv [16, 17] N M) _) ∧ ((v : Int32) = 0 → zq_b 0 ∧ Q (some (.int 0)) (mv [16, 17] N M))
  refine ⟨fun q => ⟨nin, ?_⟩, fun q => ⟨Or.inl rfl, ?_⟩⟩
  · rw [n_eq, n_0] at q
    refine c_X0_wayOf (k := M 11 h.toNatClampNeg) rfl a1 a2 ?_
    show mx g (d + 3) kX7_roomAhead 0 [.ref 1, .ref 3, .int (s), .int ((wayZ (M 11 h.toNatClampNeg) (M 9 n.toNatClampNeg))), .null, .null, .null, .null, .null, .null] [] (mv [16, 17] N M) _
    refine c_room3 (n := M 1 3) (on := M 3) rfl rfl s4 s5 b1 b2 (fun i _ => s7 i) hwy.1 hwy.2 (fun R hR2 => ?_)
    show ((R : Int32) ≤ 0 → zq_b 0 ∧ Q (some (.int 0)) (mv [16, 17] N M)) ∧ (¬ (R : Int32) ≤ 0 → zq_b 1 ∧ Q (some (.int 1)) (mv [16, 17] N M))
    rw [← hR2] at h1 h0
    refine ⟨fun r => ⟨Or.inl rfl, h0 (decide_eq_false ?_)⟩, fun r => ⟨Or.inr rfl, h1 (decide_eq_true ?_)⟩⟩
    · rw [n_le, n_0] at r; omega
    · rw [n_le, n_0] at r; omega
  · rw [n_eq, n_0] at q
    exact h0 (decide_eq_false (by omega))
theorem c_X12_canGo {g : zq_G} {d : Nat} {M : zq_M} {Q : Option Value → zq_M → Prop} {h s n : Int32} (hR : R5 M) (hV : M 48 27 = -1) (hon : ∀ i : Nat, (i : Int) < (M 1 3).toInt → M 63 i = M 3 i) (a1 : 0 ≤ h.toInt) (a2 : h.toInt < 8) (b1 : 0 ≤ s.toInt) (b2 : s.toInt < (M 1 3).toInt) (c1 : 0 ≤ n.toInt) (c2 : n.toInt < 60) (h1 : ∀ N : zq_M, cgB M h s n = true → Q (some (.int 1)) (mv [62] N M)) (h0 : ∀ N : zq_M, cgB M h s n = false → Q (some (.int 0)) (mv [62] N M)) : mx g (d + 4) kX12_canGo 0 [.ref 48, .int h, .int s, .int n, .null] [] M Q := by
  have hR' := hR
  obtain ⟨hS, hN, hH, hT, hX⟩ := hR'
  have e50 : M 50 = M 3 := hS.2.2.1
  have e55 : M 55 = M 11 := hH.2.1
  have e54 : M 54 = M 9 := hN.2.2.2.2.1
  have e0 : M 48 0 = M 1 3 := hS.1
  have hwy := wayZ_b (k := M 11 h.toNatClampNeg) (hN.2.2.2.2.2.2.2.2.2.2 n.toNatClampNeg)
  have s4 := hS.2.2.2.1
  have s5 := hS.2.2.2.2.1
  have s7 := hS.2.2.2.2.2.2.1
  have hp := s7 s.toNatClampNeg
  have rk := rm_ok (on := M 3) (p := (M 3 s.toNatClampNeg).toInt) hwy.1 hwy.2 hp.1 hp.2 (M 1 3).toInt.toNat (fun i _ => s7 i)
  have pw : ∀ (nx : Int32) (Q' : Option Value → zq_M → Prop), (∀ N : zq_M, Q' (some (.int (sq M h s n (M 8 n.toNatClampNeg)))) (mv [62] N M)) → mx g (d + 3) kX12_pushes 0 [.ref 48, .int h, .int s, .int n, .null, .null] [] M Q' := fun _ Q' hh => c_X12_pushes (wi := M 8 n.toNatClampNeg) hR a1 a2 b1 (by omega) c1 c2 (wi_now hV rfl) hh
  unfold cgB at h1 h0
  refine mx_go 250 zq_t210 ?_
  show vp_in s 10 ∧ mx g (d + 3) kX12_wayOf 0 [.ref 48, .int (h), .int (n)] [] M _
  refine ⟨n_in b1 (by omega), ?_⟩
  rw [e50]
  refine c_X12_wayOf (congrFun e55 _) (congrFun e54 _) a1 a2 c1 c2 ?_
  show mx g (d + 3) kX12_ahead 0 [.ref 48, .int ((M 3 s.toNatClampNeg)), .int ((wayZ (M 11 h.toNatClampNeg) (M 9 n.toNatClampNeg))), .null, .null] [] M _
  generalize wayZ (M 11 h.toNatClampNeg) (M 9 n.toNatClampNeg) = w at hwy rk h1 h0 ⊢
  obtain ⟨k1, k2, k3, k4⟩ := rk
  refine c_X12_ahead hp.1 hp.2 hwy.1 hwy.2 (fun ed v hv => ?_) (fun ed => ?_)
  · show mx g (d + 3) kX12_pushes 0 [.ref 48, .int (h), .int (s), .int (n), .null, .null] [] M _
    refine pw v _ (fun N => ?_)
    have h1 := h1 N
    have h0 := h0 N
    have vb := pos_b hwy.1 hwy.2 hp.1 hp.2 (j := 1) (by decide) ed
    generalize sq M h s n (M 8 n.toNatClampNeg) = pu at h1 h0 ⊢
    show ((pu : Int32) ≤ 0 → zq_b 0 ∧ Q (some (.int 0)) (mv [62] N M)) ∧ (¬ (pu : Int32) ≤ 0 → ((v : Int32) < 0 → zq_b 0 ∧ Q (some (.int 0)) (mv [62] N M)) ∧ (¬ (v : Int32) < 0 → mx g (d + 3) kX12_isFree 0 [.ref 48, .int (v), .null] [] (mv [62] N M) _))
    refine ⟨fun q => ⟨Or.inl rfl, h0 (decide_eq_false ?_)⟩, fun q => ⟨fun r => ?_, fun r => ?_⟩⟩
    · rw [n_le, n_0] at q; omega
    · rw [n_lt, n_0] at r; omega
    · rw [n_le, n_0] at q
      refine c_X12_isFree (n := M 1 3) (p := M 63) e0 rfl s4 s5 (fun fz _ => ?_) (fun fz => ?_)
      · show ((1 : Int32) = 0 → zq_b 0 ∧ Q (some (.int 0)) (mv [62] N M)) ∧ (¬ (1 : Int32) = 0 → zq_b 1 ∧ Q (some (.int 1)) (mv [62] N M))
        refine ⟨fun z => absurd z (by decide), fun _ => ⟨Or.inr rfl, h1 (decide_eq_true ⟨by omega, ?_⟩)⟩⟩
        rcases k4 with z | ⟨k, z1, z2⟩
        · omega
        · by_cases zz : 0 < rmK (M 3) (M 3 s.toNatClampNeg).toInt w.toInt (M 1 3).toInt.toNat
          · exact zz
          · exfalso
            refine fz ⟨k, by omega, ?_⟩
            rw [hon k (by omega), n_eq, z2, hv, show rmK (M 3) (M 3 s.toNatClampNeg).toInt w.toInt (M 1 3).toInt.toNat = 0 by omega]
            omega
      · show ((0 : Int32) = 0 → zq_b 0 ∧ Q (some (.int 0)) (mv [62] N M)) ∧ (¬ (0 : Int32) = 0 → zq_b 1 ∧ Q (some (.int 1)) (mv [62] N M))
        refine ⟨fun _ => ⟨Or.inl rfl, h0 (decide_eq_false ?_)⟩, fun z => absurd rfl z⟩
        rintro ⟨z0, z1⟩
        obtain ⟨k, f1, f2⟩ := fz
        refine k3 1 k (by decide) (by omega) (by omega) ?_
        rw [← hon k f1, f2, hv]
        omega
  · show mx g (d + 3) kX12_pushes 0 [.ref 48, .int (h), .int (s), .int (n), .null, .null] [] M _
    refine pw (-1) _ (fun N => ?_)
    have h0 := h0 N
    generalize sq M h s n (M 8 n.toNatClampNeg) = pu at h0 ⊢
    show ((pu : Int32) ≤ 0 → zq_b 0 ∧ Q (some (.int 0)) (mv [62] N M)) ∧ (¬ (pu : Int32) ≤ 0 → (((-1) : Int32) < 0 → zq_b 0 ∧ Q (some (.int 0)) (mv [62] N M)) ∧ (¬ ((-1) : Int32) < 0 → mx g (d + 3) kX12_isFree 0 [.ref 48, .int ((-1)), .null] [] (mv [62] N M) _))
    refine ⟨fun q => ⟨Or.inl rfl, h0 (decide_eq_false (by omega))⟩, fun q => ⟨fun r => ⟨Or.inl rfl, h0 (decide_eq_false (by omega))⟩, fun r => absurd (by decide) r⟩⟩
