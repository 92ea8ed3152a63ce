theorem exB_t {f : Nat → Bool} : ∀ {n i : Nat}, i < n → f i = true → exB f n = true
  | 0, _, h, _ => absurd h (by omega)
  | n + 1, i, h, e => by
    unfold exB
    by_cases c : i = n
    · rw [← c, e, Bool.or_true]
    · rw [exB_t (show i < n by omega) e, Bool.true_or]
theorem exB_f {f : Nat → Bool} : ∀ n : Nat, (∀ i, i < n → f i = false) → exB f n = false
  | 0, _ => rfl
  | n + 1, h => by
    unfold exB
    rw [exB_f n (fun i hi => h i (by omega)), h n (by omega)]
    rfl
/-- does how h push some stone on night n -/
def psB (M : zq_M) (h n : Int32) : Bool := exB (fun i => decide (0 < (sq M h (nI i) n (M 8 n.toNatClampNeg)).toInt)) (M 1 3).toInt.toNat
theorem psB_fr {M M' : zq_M} {h n : Int32} (hf : fr (fL sL) M M') : psB M' h n = psB M h n := by
  unfold psB
  rw [hf 1 3 rfl, fr_ar hf 8 (fun _ => rfl)]
  congr 1
  funext i
  rw [sq_fr hf]

theorem c_X4_pushesSome {g : zq_G} {d : Nat} {M : zq_M} {Q : Option Value → zq_M → Prop} {h n : Int32} (hR : R5 M) (a1 : 0 ≤ h.toInt) (a2 : h.toInt < 8) (c1 : 0 ≤ n.toInt) (c2 : n.toInt < 60) (h1 : ∀ M' : zq_M, fr (fL sL) M M' → psB M h n = true → Q (some (.int 1)) M') (h0 : ∀ M' : zq_M, fr (fL sL) M M' → psB M h n = false → Q (some (.int 0)) M') : mx g (d + 4) kX4_pushesSome 0 [.ref 24, .int h, .int n, .null] [] M Q := by
  obtain ⟨hS, hN, hH, hT, hX⟩ := id hR
  have s4 := hS.2.2.2.1
  have s5 := hS.2.2.2.2.1
  refine mx_go 250 zq_t22 ?_
  show mx g (d + 4) kX4_pushesSome 2 [.ref 24, .int (h), .int (n), .int (0)] [] M Q
  refine mx_wf (fun x : Int32 => [.ref 24, .int h, .int n, .int x]) (fun x M' => 0 ≤ x.toInt ∧ x.toInt ≤ (M 1 3).toInt ∧ fr (fL sL) M M' ∧ ∀ i : Nat, (i : Int) < x.toInt → ¬ 0 < (sq M h (nI i) n (M 8 n.toNatClampNeg)).toInt) (fun x => ((M 1 3).toInt - x.toInt).toNat) ?_ 0 M ⟨by decide, s4, fr_rfl, fun i hi => by rw [n_0] at hi; omega⟩
  intro x M' ⟨i1, i2, i3, i4⟩ ih
  refine mx_go 250 zq_t22 ?_
  show (((M' 1 3) : Int32) ≤ (x : Int32) → zq_b 0 ∧ Q (some (.int 0)) M') ∧ (¬ ((M' 1 3) : Int32) ≤ (x : Int32) → vp_in n 60 ∧ mx g (d + 3) kX4_squares 0 [.ref 24, .int (h), .int (x), .int (n), .int (((M' 8) (Int32.toNatClampNeg n))), .null, .null] [] M' _)
  rw [i3 1 3 rfl]
  refine ⟨fun q => ⟨Or.inl rfl, h0 M' i3 ?_⟩, fun q => ?_⟩
  · rw [n_le] at q
    exact exB_f _ (fun i hi => decide_eq_false (i4 i (by omega)))
  rw [n_le] at q
  have up := n_up (n := M 1 3) i1 (by omega)
  refine ⟨n_in c1 c2, ?_⟩
  refine c_X4_squares (R5_fr i3 hR) a1 a2 i1 (by omega) c1 c2 (fun N => ?_)
  rw [sq_fr i3, fr_ar i3 8 (fun _ => rfl)]
  show (((sq M h x n (M 8 n.toNatClampNeg)) : Int32) ≤ 0 → mx g (d + 4) kX4_pushesSome 2 [.ref 24, .int (h), .int (n), .int ((x + 1))] [] (mv [16, 17] N M') Q) ∧ (¬ ((sq M h x n (M 8 n.toNatClampNeg)) : Int32) ≤ 0 → zq_b 1 ∧ Q (some (.int 1)) (mv [16, 17] N M'))
  have f2 : fr (fL sL) M (mv [16, 17] N M') := fr_trans i3 (fr_sub fr_of (by decide))
  refine ⟨fun z => ih (x + 1) _ (by omega) ⟨by omega, by omega, f2, fun i hi => ?_⟩, fun z => ⟨Or.inr rfl, h1 _ f2 ?_⟩⟩
  · by_cases c : i = x.toInt.toNat
    · subst c
      rw [← n_of i1]
      rw [n_le, n_0] at z
      omega
    · exact i4 i (by omega)
  · rw [n_le, n_0] at z
    refine exB_t (i := x.toInt.toNat) (by omega) (decide_eq_true ?_)
    rw [← n_of i1]
    omega
theorem c_X12_pushesSome {g : zq_G} {d : Nat} {M : zq_M} {Q : Option Value → zq_M → Prop} {h n : Int32} (hR : R5 M) (hV : M 48 27 = -1) (a1 : 0 ≤ h.toInt) (a2 : h.toInt < 8) (c1 : 0 ≤ n.toInt) (c2 : n.toInt < 60) (h1 : ∀ M' : zq_M, fr (fL sL) M M' → psB M h n = true → Q (some (.int 1)) M') (h0 : ∀ M' : zq_M, fr (fL sL) M M' → psB M h n = false → Q (some (.int 0)) M') : mx g (d + 4) kX12_pushesSome 0 [.ref 48, .int h, .int n, .null] [] M Q := by
  obtain ⟨hS, hN, hH, hT, hX⟩ := id hR
  have s4 := hS.2.2.2.1
  have s5 := hS.2.2.2.2.1
  refine mx_go 250 zq_t207 ?_
  show mx g (d + 4) kX12_pushesSome 2 [.ref 48, .int (h), .int (n), .int (0)] [] M Q
  refine mx_wf (fun x : Int32 => [.ref 48, .int h, .int n, .int x]) (fun x M' => 0 ≤ x.toInt ∧ x.toInt ≤ (M 1 3).toInt ∧ fr (fL sL) M M' ∧ ∀ i : Nat, (i : Int) < x.toInt → ¬ 0 < (sq M h (nI i) n (M 8 n.toNatClampNeg)).toInt) (fun x => ((M 1 3).toInt - x.toInt).toNat) ?_ 0 M ⟨by decide, s4, fr_rfl, fun i hi => by rw [n_0] at hi; omega⟩
  intro x M' ⟨i1, i2, i3, i4⟩ ih
  refine mx_go 250 zq_t207 ?_
  show (((M' 48 0) : Int32) ≤ (x : Int32) → zq_b 0 ∧ Q (some (.int 0)) M') ∧ (¬ ((M' 48 0) : Int32) ≤ (x : Int32) → mx g (d + 3) kX12_pushes 0 [.ref 48, .int (h), .int (x), .int (n), .null, .null] [] M' _)
  rw [i3 48 0 rfl, hS.1]
  refine ⟨fun q => ⟨Or.inl rfl, h0 M' i3 ?_⟩, fun q => ?_⟩
  · rw [n_le] at q
    exact exB_f _ (fun i hi => decide_eq_false (i4 i (by omega)))
  rw [n_le] at q
  have up := n_up (n := M 1 3) i1 (by omega)
  refine c_X12_pushes (wi := M' 8 n.toNatClampNeg) (p := M' 3) (R5_fr i3 hR) a1 a2 i1 (by omega) c1 c2 (wi_now ((i3 48 27 rfl).trans hV) rfl) (fun N => ?_)
  rw [sq_fr i3, fr_ar i3 8 (fun _ => rfl)]
  show (((sq M h x n (M 8 n.toNatClampNeg)) : Int32) ≤ 0 → mx g (d + 4) kX12_pushesSome 2 [.ref 48, .int (h), .int (n), .int ((x + 1))] [] (mv [62] N M') Q) ∧ (¬ ((sq M h x n (M 8 n.toNatClampNeg)) : Int32) ≤ 0 → zq_b 1 ∧ Q (some (.int 1)) (mv [62] N M'))
  have f2 : fr (fL sL) M (mv [62] N M') := fr_trans i3 (fr_sub fr_of (by decide))
  refine ⟨fun z => ih (x + 1) _ (by omega) ⟨by omega, by omega, f2, fun i hi => ?_⟩, fun z => ⟨Or.inr rfl, h1 _ f2 ?_⟩⟩
  · by_cases c : i = x.toInt.toNat
    · subst c
      rw [← n_of i1]
      rw [n_le, n_0] at z
      omega
    · exact i4 i (by omega)
  · rw [n_le, n_0] at z
    refine exB_t (i := x.toInt.toNat) (by omega) (decide_eq_true ?_)
    rw [← n_of i1]
    omega

/-! counts over nights -/
def cnF (f : Nat → Bool) : Nat → Int32
  | 0 => 0
  | k + 1 => cnF f k + bI (f k)
theorem cnF_b {f : Nat → Bool} : ∀ k : Nat, k ≤ 60 → 0 ≤ (cnF f k).toInt ∧ (cnF f k).toInt ≤ k
  | 0, _ => by unfold cnF; rw [n_0]; omega
  | k + 1, h => by
    have ih := cnF_b (f := f) k (by omega)
    have b : 0 ≤ (bI (f k)).toInt ∧ (bI (f k)).toInt ≤ 1 := by cases f k <;> decide
    unfold cnF
    rw [n_add, zw_id (by omega) (by omega)]
    omega
theorem cnF_up {f : Nat → Bool} {x : Int32} (x1 : 0 ≤ x.toInt) (up : (x + 1).toInt = x.toInt + 1) : cnF f (x + 1).toInt.toNat = cnF f x.toInt.toNat + bI (f x.toInt.toNat) := by
  rw [up, show (x.toInt + 1).toNat = x.toInt.toNat + 1 by omega]
  rfl
theorem cnF_congr {f f' : Nat → Bool} (h : ∀ i, f i = f' i) (k : Nat) : cnF f k = cnF f' k := by rw [show f = f' from funext h]
def mxJ (a b : Int32) : Int32 := if a < b then b else a
theorem mxJ_le {a b : Int32} (h : b ≤ a) : mxJ a b = a := by
  unfold mxJ
  rw [if_neg (by rw [n_lt]; rw [n_le] at h; omega)]
theorem mxJ_gt {a b : Int32} (h : ¬ b ≤ a) : mxJ a b = b := by
  unfold mxJ
  rw [if_pos (by rw [n_lt]; rw [n_le] at h; omega)]
def roN (a : Bool) (r : Int32) : Int32 := if a = true then 0 else r + 1
def rwF (f : Nat → Bool) : Nat → Int32
  | 0 => 0
  | k + 1 => roN (f k) (rwF f k)
def loF (f : Nat → Bool) : Nat → Int32
  | 0 => 0
  | k + 1 => mxJ (loF f k) (roN (f k) (rwF f k))
theorem rwF_up {f : Nat → Bool} {x : Int32} (x1 : 0 ≤ x.toInt) (up : (x + 1).toInt = x.toInt + 1) : rwF f (x + 1).toInt.toNat = roN (f x.toInt.toNat) (rwF f x.toInt.toNat) ∧ loF f (x + 1).toInt.toNat = mxJ (loF f x.toInt.toNat) (roN (f x.toInt.toNat) (rwF f x.toInt.toNat)) := by
  rw [up, show (x.toInt + 1).toNat = x.toInt.toNat + 1 by omega]
  exact ⟨rfl, rfl⟩
def lgF (w : Nat → Int32) : Nat → Int32
  | 0 => 0
  | k + 1 => if lgF w k = 0 then w k else if lgF w k ≤ w k then lgF w k else w k
theorem lgF_up {f : Nat → Int32} {x : Int32} (x1 : 0 ≤ x.toInt) (up : (x + 1).toInt = x.toInt + 1) : lgF f (x + 1).toInt.toNat = if lgF f x.toInt.toNat = 0 then f x.toInt.toNat else if lgF f x.toInt.toNat ≤ f x.toInt.toNat then lgF f x.toInt.toNat else f x.toInt.toNat := by
  rw [up, show (x.toInt + 1).toNat = x.toInt.toNat + 1 by omega]
  rfl
theorem lgF_nz {w : Nat → Int32} {n : Int} (hw : ∀ i : Nat, (i : Int) < n → 1 ≤ (w i).toInt) : ∀ k : Nat, (k : Int) ≤ n → 1 ≤ k → ¬ lgF w k = 0
  | 0, _, h => absurd h (by omega)
  | k + 1, hk, _ => by
    have hk1 := hw k (by omega)
    unfold lgF
    split
    · rw [n_eq, n_0]; omega
    · next c =>
      split
      · exact c
      · rw [n_eq, n_0]; omega
theorem c_X7_lightest {g : zq_G} {d : Nat} {M : zq_M} {Q : Option Value → zq_M → Prop} (hS : gS (M 1 3) (M 48 0) (M 2) (M 49) (M 3) (M 50)) (hq : Q (some (.int (lgF (M 2) (M 1 3).toInt.toNat))) M) : mx g (d + 1) kX7_lightest 0 [.ref 1, .null, .null] [] M Q := by
  have s4 := hS.2.2.2.1
  have s5 := hS.2.2.2.2.1
  have s8 := hS.2.2.2.2.2.2.2
  refine mx_go 250 zq_t61 ?_
  show (((M 1 3) : Int32) ≤ 0 → mx g (d + 1) kX7_lightest 20 [.ref 1, .int (0), .int (1)] [] M Q) ∧ (¬ ((M 1 3) : Int32) ≤ 0 → vp_in 0 10 ∧ mx g (d + 1) kX7_lightest 20 [.ref 1, .int (((M 2) (Int32.toNatClampNeg 0))), .int (1)] [] M Q)
  have loop : ∀ v : Int32, (1 ≤ (M 1 3).toInt → v = lgF (M 2) 1) → ((M 1 3).toInt = 0 → v = 0) → mx g (d + 1) kX7_lightest 20 [.ref 1, .int v, .int 1] [] M Q := by
    intro v hv hv0
    refine mx_wf2 (fun v x : Int32 => [.ref 1, .int v, .int x]) (fun v x M' => 1 ≤ x.toInt ∧ M' = M ∧ (1 ≤ (M 1 3).toInt → x.toInt ≤ (M 1 3).toInt ∧ v = lgF (M 2) x.toInt.toNat) ∧ ((M 1 3).toInt = 0 → v = 0)) (fun _ x => ((M 1 3).toInt - x.toInt).toNat) ?_ v 1 M ⟨by decide, rfl, fun h => ⟨by rw [n_1]; exact h, by rw [n_1]; exact hv h⟩, hv0⟩
    intro v x M' ⟨i1, i2, i3, i4⟩ ih
    subst i2
    refine mx_go 250 zq_t61 ?_
    show (((M' 1 3) : Int32) ≤ (x : Int32) → Q (some (.int v)) M') ∧ (¬ ((M' 1 3) : Int32) ≤ (x : Int32) → vp_in x 10 ∧ mx g (d + 1) kX7_lightest 20 [.ref 1, .int ((if ((M' 2) (Int32.toNatClampNeg x)) < v then ((M' 2) (Int32.toNatClampNeg x)) else v)), .int ((x + 1))] [] M' Q)
    refine ⟨fun q => ?_, fun q => ?_⟩
    · rw [n_le] at q
      by_cases c : (M' 1 3).toInt = 0
      · rw [i4 c]
        rw [c] at hq
        exact hq
      · have := i3 (by omega)
        rw [this.2, show x.toInt = (M' 1 3).toInt by omega]
        exact hq
    · rw [n_le] at q
      have e := i3 (by omega)
      have up := n_up (n := M' 1 3) (x := x) (by omega) (by omega)
      have nz := lgF_nz (w := M' 2) s8 x.toInt.toNat (by omega) (by omega)
      have lu := lgF_up (f := M' 2) (x := x) (by omega) up
      rw [if_neg nz] at lu
      refine ⟨n_in (by omega) (by omega), ?_⟩
      refine ih _ (x + 1) M' (by omega) ⟨by omega, rfl, fun _ => ⟨by omega, ?_⟩, fun c => by omega⟩
      rw [lu, ← e.2]
      show (if M' 2 x.toInt.toNat < v then M' 2 x.toInt.toNat else v) = _
      by_cases c : v ≤ M' 2 x.toInt.toNat
      · rw [if_pos c, if_neg (by rw [n_lt]; rw [n_le] at c; omega)]
      · rw [if_neg c, if_pos (by rw [n_lt]; rw [n_le] at c; omega)]
  refine ⟨fun q => loop 0 (fun c => by rw [n_le, n_0] at q; omega) (fun _ => rfl), fun q => ⟨n_in (by decide) (by decide), loop _ (fun _ => rfl) (fun c => by rw [n_le, n_0] at q; omega)⟩⟩
theorem c_X12_lightest {g : zq_G} {d : Nat} {M : zq_M} {Q : Option Value → zq_M → Prop} (hS : gS (M 1 3) (M 48 0) (M 2) (M 49) (M 3) (M 50)) (hq : Q (some (.int (lgF (M 2) (M 1 3).toInt.toNat))) M) : mx g d kX12_lightest 0 [.ref 48, .null, .null] [] M Q := by
  have s1 := hS.1
  have s2 := hS.2.1
  have s4 := hS.2.2.2.1
  have s5 := hS.2.2.2.2.1
  refine mx_go 250 zq_t208 ?_
  show mx g (d) kX12_lightest 4 [.ref 48, .int (0), .int (0)] [] M Q
  refine mx_wf2 (fun v x : Int32 => [.ref 48, .int v, .int x]) (fun v x M' => 0 ≤ x.toInt ∧ x.toInt ≤ (M 1 3).toInt ∧ M' = M ∧ v = lgF (M 2) x.toInt.toNat) (fun _ x => ((M 1 3).toInt - x.toInt).toNat) ?_ 0 0 M ⟨by decide, s4, rfl, by rw [n_0]; rfl⟩
  intro v x M' ⟨i1, i2, i3, i4⟩ ih
  subst i3
  refine mx_go 250 zq_t208 ?_
  show (((M' 48 0) : Int32) ≤ (x : Int32) → Q (some (.int v)) M') ∧ (¬ ((M' 48 0) : Int32) ≤ (x : Int32) → ((v : Int32) = 0 → vp_in x 10 ∧ mx g (d) kX12_lightest 4 [.ref 48, .int (((M' 49) (Int32.toNatClampNeg x))), .int ((x + 1))] [] M' Q) ∧ (¬ (v : Int32) = 0 → vp_in x 10 ∧ ((v : Int32) ≤ (((M' 49) (Int32.toNatClampNeg x)) : Int32) → mx g (d) kX12_lightest 4 [.ref 48, .int (v), .int ((x + 1))] [] M' Q) ∧ (¬ (v : Int32) ≤ (((M' 49) (Int32.toNatClampNeg x)) : Int32) → vp_in x 10 ∧ mx g (d) kX12_lightest 4 [.ref 48, .int (((M' 49) (Int32.toNatClampNeg x))), .int ((x + 1))] [] M' Q)))
  rw [s1, s2]
  refine ⟨fun q => ?_, fun q => ?_⟩
  · rw [n_le] at q
    rw [i4, show x.toInt = (M' 1 3).toInt by omega]
    exact hq
  rw [n_le] at q
  have up := n_up (n := M' 1 3) (x := x) (by omega) (by omega)
  have lu := lgF_up (f := M' 2) (x := x) (by omega) up
  rw [← i4] at lu
  have xin : vp_in x 10 := n_in i1 (by omega)
  refine ⟨fun z => ⟨xin, ?_⟩, fun z => ⟨xin, fun y => ?_, fun y => ⟨xin, ?_⟩⟩⟩
  · rw [if_pos z] at lu
    exact ih _ (x + 1) M' (by omega) ⟨by omega, by omega, rfl, lu.symm⟩
  · rw [if_neg z, if_pos (show v ≤ M' 2 x.toInt.toNat from y)] at lu
    exact ih _ (x + 1) M' (by omega) ⟨by omega, by omega, rfl, lu.symm⟩
  · rw [if_neg z, if_neg (show ¬ v ≤ M' 2 x.toInt.toNat from y)] at lu
    exact ih _ (x + 1) M' (by omega) ⟨by omega, by omega, rfl, lu.symm⟩
/-- is night n called -/
def caB (M : zq_M) (h n : Int32) : Bool := decide (evV (fct (lgF (M 2) (M 1 3).toInt.toNat) (M 12 h.toNatClampNeg) n (M 6 n.toNatClampNeg) (M 7 n.toNatClampNeg) (M 8 n.toNatClampNeg)) (tl (M 14) (M 15) (M 13 5).toInt.toNat 1) ≠ 0)
theorem caB_fr {M M' : zq_M} {h n : Int32} (hf : fr (fL sL) M M') : caB M' h n = caB M h n := by
  unfold caB
  rw [hf 1 3 rfl, fr_ar hf 2 (fun _ => rfl), fr_ar hf 12 (fun _ => rfl), fr_ar hf 6 (fun _ => rfl), fr_ar hf 7 (fun _ => rfl), fr_ar hf 8 (fun _ => rfl), fr_ar hf 14 (fun _ => rfl), fr_ar hf 15 (fun _ => rfl), hf 13 5 rfl]
theorem c_X4_nightsPushing {g : zq_G} {d : Nat} {M : zq_M} {Q : Option Value → zq_M → Prop} {h : Int32} (hR : R5 M) (a1 : 0 ≤ h.toInt) (a2 : h.toInt < 8) (hq : ∀ M' : zq_M, fr (fL sL) M M' → Q (some (.int (cnF (fun k => psB M h (nI k)) (M 5 4).toInt.toNat))) M') : mx g (d + 5) kX4_nightsPushing 0 [.ref 24, .int h, .null, .null] [] M Q := by
  obtain ⟨hS, hN, hH, hT, hX⟩ := id hR
  have n6 := hN.2.2.2.2.2.1
  have n7 := hN.2.2.2.2.2.2.1
  refine mx_go 250 zq_t23 ?_
  show mx g (d + 5) kX4_nightsPushing 4 [.ref 24, .int (h), .int (0), .int (0)] [] M Q
  refine mx_wf2 (fun c x : Int32 => [.ref 24, .int h, .int c, .int x]) (fun c x M' => 0 ≤ x.toInt ∧ x.toInt ≤ (M 5 4).toInt ∧ fr (fL sL) M M' ∧ c = cnF (fun k => psB M h (nI k)) x.toInt.toNat) (fun _ x => ((M 5 4).toInt - x.toInt).toNat) ?_ 0 0 M ⟨by decide, n6, fr_rfl, by rw [n_0]; rfl⟩
  intro c x M' ⟨i1, i2, i3, i4⟩ ih
  refine mx_go 250 zq_t23 ?_
  show (((M' 5 4) : Int32) ≤ (x : Int32) → Q (some (.int c)) M') ∧ (¬ ((M' 5 4) : Int32) ≤ (x : Int32) → mx g (d + 4) kX4_pushesSome 0 [.ref 24, .int (h), .int (x), .null] [] M' _)
  rw [i3 5 4 rfl]
  refine ⟨fun q => ?_, fun q => ?_⟩
  · rw [n_le] at q
    rw [i4, show x.toInt = (M 5 4).toInt by omega]
    exact hq M' i3
  rw [n_le] at q
  have up := n_up (n := M 5 4) (x := x) (by omega) (by omega)
  have cu := cnF_up (f := fun k => psB M h (nI k)) i1 up
  rw [← i4, show psB M h (nI x.toInt.toNat) = psB M h x by rw [← n_of i1]] at cu
  refine c_X4_pushesSome (R5_fr i3 hR) a1 a2 i1 (by omega) (fun M2 f2 p => ?_) (fun M2 f2 p => ?_)
  · rw [psB_fr i3] at p
    rw [p] at cu
    show mx g (d + 4) kX11_bit 0 [.int (1)] [] M2 _
    refine c_X11_bit (fun _ => ?_) (fun z => absurd z (by decide))
    show mx g (d + 5) kX4_nightsPushing 4 [.ref 24, .int (h), .int ((c + 1)), .int ((x + 1))] [] M2 Q
    exact ih _ (x + 1) M2 (by omega) ⟨by omega, by omega, fr_trans i3 f2, cu.symm⟩
  · rw [psB_fr i3] at p
    rw [p] at cu
    show mx g (d + 4) kX11_bit 0 [.int (0)] [] M2 _
    refine c_X11_bit (fun z => absurd rfl z) (fun _ => ?_)
    show mx g (d + 5) kX4_nightsPushing 4 [.ref 24, .int (h), .int ((c + 0)), .int ((x + 1))] [] M2 Q
    exact ih _ (x + 1) M2 (by omega) ⟨by omega, by omega, fr_trans i3 f2, cu.symm⟩
theorem c_X4_longest {g : zq_G} {d : Nat} {M : zq_M} {Q : Option Value → zq_M → Prop} {h : Int32} (hR : R5 M) (a1 : 0 ≤ h.toInt) (a2 : h.toInt < 8) (hq : ∀ M' : zq_M, fr (fL sL) M M' → Q (some (.int (loF (fun k => psB M h (nI k)) (M 5 4).toInt.toNat))) M') : mx g (d + 5) kX4_longestRowWithout 0 [.ref 24, .int h, .null, .null, .null] [] M Q := by
  obtain ⟨hS, hN, hH, hT, hX⟩ := id hR
  have n6 := hN.2.2.2.2.2.1
  have n7 := hN.2.2.2.2.2.2.1
  refine mx_go 250 zq_t24 ?_
  show mx g (d + 5) kX4_longestRowWithout 7 [.ref 24, .int (h), .int (0), .int (0), .int (0)] [] M Q
  refine mx_wf3 (fun c r x : Int32 => [.ref 24, .int h, .int c, .int r, .int x]) (fun c r x M' => 0 ≤ x.toInt ∧ x.toInt ≤ (M 5 4).toInt ∧ fr (fL sL) M M' ∧ c = loF (fun k => psB M h (nI k)) x.toInt.toNat ∧ r = rwF (fun k => psB M h (nI k)) x.toInt.toNat) (fun _ _ x => ((M 5 4).toInt - x.toInt).toNat) ?_ 0 0 0 M ⟨by decide, n6, fr_rfl, by rw [n_0]; rfl, by rw [n_0]; rfl⟩
  intro c r x M' ⟨i1, i2, i3, i4, i5⟩ ih
  refine mx_go 250 zq_t24 ?_
  show (((M' 5 4) : Int32) ≤ (x : Int32) → Q (some (.int c)) M') ∧ (¬ ((M' 5 4) : Int32) ≤ (x : Int32) → mx g (d + 4) kX4_pushesSome 0 [.ref 24, .int (h), .int (x), .null] [] M' _)
  rw [i3 5 4 rfl]
  refine ⟨fun q => ?_, fun q => ?_⟩
  · rw [n_le] at q
    rw [i4, show x.toInt = (M 5 4).toInt by omega]
    exact hq M' i3
  rw [n_le] at q
  have up := n_up (n := M 5 4) (x := x) (by omega) (by omega)
  obtain ⟨cu, lu⟩ := rwF_up (f := fun k => psB M h (nI k)) i1 up
  rw [← i5, show psB M h (nI x.toInt.toNat) = psB M h x by rw [← n_of i1]] at cu lu
  rw [← i4] at lu
  refine c_X4_pushesSome (R5_fr i3 hR) a1 a2 i1 (by omega) (fun M2 f2 p => ?_) (fun M2 f2 p => ?_)
  · rw [psB_fr i3] at p
    rw [p] at cu lu
    show ((1 : Int32) = 0 → mx g (d + 5) kX4_longestRowWithout 7 [.ref 24, .int (h), .int ((if c < (r + 1) then (r + 1) else c)), .int ((r + 1)), .int ((x + 1))] [] M2 Q) ∧ (¬ (1 : Int32) = 0 → mx g (d + 5) kX4_longestRowWithout 7 [.ref 24, .int (h), .int ((if c < 0 then 0 else c)), .int (0), .int ((x + 1))] [] M2 Q)
    refine ⟨fun z => absurd z (by decide), fun _ => ?_⟩
    exact ih _ _ (x + 1) M2 (by omega) ⟨by omega, by omega, fr_trans i3 f2, lu.symm, cu.symm⟩
  · rw [psB_fr i3] at p
    rw [p] at cu lu
    show ((0 : Int32) = 0 → mx g (d + 5) kX4_longestRowWithout 7 [.ref 24, .int (h), .int ((if c < (r + 1) then (r + 1) else c)), .int ((r + 1)), .int ((x + 1))] [] M2 Q) ∧ (¬ (0 : Int32) = 0 → mx g (d + 5) kX4_longestRowWithout 7 [.ref 24, .int (h), .int ((if c < 0 then 0 else c)), .int (0), .int ((x + 1))] [] M2 Q)
    refine ⟨fun _ => ?_, fun z => absurd rfl z⟩
    exact ih _ _ (x + 1) M2 (by omega) ⟨by omega, by omega, fr_trans i3 f2, lu.symm, cu.symm⟩
theorem c_X4_tellNightAsIs {g : zq_G} {d : Nat} {M : zq_M} {Q : Option Value → zq_M → Prop} {n : Int32} {f : Nat → Int32} (hf : M 16 = f) (nin : vp_in n 60) (h : Q none (zq_ma M 16 (upd (upd (upd (upd f 5 n) 1 (M 6 n.toNatClampNeg)) 2 (M 7 n.toNatClampNeg)) 3 (M 8 n.toNatClampNeg)))) : mx g (d + 1) kX4_tellNightAsIs 0 [.ref 24, .int n] [] M Q := by
  refine mx_go 250 zq_t27 ?_
  show vp_in n 60 ∧ vp_in n 60 ∧ vp_in n 60 ∧ mx g (d) kX8_tellNight 0 [.ref 13, .int (n), .int (((M 6) (Int32.toNatClampNeg n))), .int (((M 7) (Int32.toNatClampNeg n))), .int (((M 8) (Int32.toNatClampNeg n)))] [] M _
  refine ⟨nin, nin, nin, ?_⟩
  exact c_X8_tellNight hf h

def clB (M : zq_M) (h b : Int32) (k : Nat) : Bool := caB M h (nI k) && (decide (b = 0) || psB M h (nI k))
theorem c_X4_nightsCalled {g : zq_G} {d : Nat} {M : zq_M} {Q : Option Value → zq_M → Prop} {h b : Int32} (hR : R5 M) (a1 : 0 ≤ h.toInt) (a2 : h.toInt < 8) (hq : ∀ M' : zq_M, fr (fL sL) M M' → Q (some (.int (cnF (clB M h b) (M 5 4).toInt.toNat))) M') : mx g (d + 5) kX4_nightsCalled 0 [.ref 24, .int h, .int b, .null, .null, .null] [] M Q := by
  obtain ⟨hS, hN, hH, hT, hX⟩ := id hR
  have n6 := hN.2.2.2.2.2.1
  have n7 := hN.2.2.2.2.2.2.1
  refine mx_go 250 zq_t25 ?_
  show mx g (d + 4) kX7_lightest 0 [.ref 1, .null, .null] [] M _
  refine c_X7_lightest hS ?_
  show mx g (d + 5) kX4_nightsCalled 14 [.ref 24, .int (h), .int (b), .int ((lgF (M 2) (M 1 3).toInt.toNat)), .int (0), .int (0)] [] M Q
  generalize hL : lgF (M 2) (M 1 3).toInt.toNat = L
  refine mx_wf2 (fun c x : Int32 => [.ref 24, .int h, .int b, .int L, .int c, .int x]) (fun c x M' => 0 ≤ x.toInt ∧ x.toInt ≤ (M 5 4).toInt ∧ fr (fL sL) M M' ∧ c = cnF (clB M h b) x.toInt.toNat) (fun _ x => ((M 5 4).toInt - x.toInt).toNat) ?_ 0 0 M ⟨by decide, n6, fr_rfl, by rw [n_0]; rfl⟩
  intro c x M' ⟨i1, i2, i3, i4⟩ ih
  refine mx_go 250 zq_t25 ?_
  show (((M' 5 4) : Int32) ≤ (x : Int32) → Q (some (.int c)) M') ∧ (¬ ((M' 5 4) : Int32) ≤ (x : Int32) → vp_in h 8 ∧ mx g (d + 4) kX8_tellStone 0 [.ref 13, .int (L), .int (((M' 12) (Int32.toNatClampNeg h)))] [] M' _)
  rw [i3 5 4 rfl]
  refine ⟨fun q => ?_, fun q => ?_⟩
  · rw [n_le] at q
    rw [i4, show x.toInt = (M 5 4).toInt by omega]
    exact hq M' i3
  rw [n_le] at q
  have up := n_up (n := M 5 4) (x := x) (by omega) (by omega)
  have cu := cnF_up (f := clB M h b) i1 up
  have ecl : clB M h b x.toInt.toNat = (caB M h x && (decide (b = 0) || psB M h x)) := by
    unfold clB
    rw [← n_of i1]
  rw [← i4, ecl] at cu
  have hR' := R5_fr i3 hR
  have hX' := hR'.2.2.2.2
  have x5 := hX'.2.2.2.2.1
  have x6 := hX'.2.2.2.2.2.1
  have nin : vp_in x 60 := n_in i1 (by omega)
  refine ⟨n_in a1 a2, ?_⟩
  refine c_X8_tellStone rfl ?_
  show mx g (d + 4) kX4_tellNightAsIs 0 [.ref 24, .int (x)] [] (zq_ma M' 16 (upd (upd (M' 16) 0 L) 4 (M' 12 h.toNatClampNeg))) _
  refine c_X4_tellNightAsIs (f := upd (upd (M' 16) 0 L) 4 (M' 12 h.toNatClampNeg)) rfl nin ?_
  rw [ma_ma]
  show mx g (d + 4) kX8_value 0 [.ref 13, .int (1), .null, .null, .null, .null] [] (zq_ma M' 16 (upd (upd (upd (upd (upd (upd (M' 16) 0 L) 4 (M' 12 h.toNatClampNeg)) 5 x) 1 (M' 6 x.toNatClampNeg)) 2 (M' 7 x.toNatClampNeg)) 3 (M' 8 x.toNatClampNeg))) _
  refine c_X8_value (r := M' 13 5) (co := M' 14) (en := M' 15) (fa := (upd (upd (upd (upd (upd (upd (M' 16) 0 L) 4 (M' 12 h.toNatClampNeg)) 5 x) 1 (M' 6 x.toNatClampNeg)) 2 (M' 7 x.toNatClampNeg)) 3 (M' 8 x.toNatClampNeg))) hX' rfl rfl rfl rfl (by decide) (by decide) (fun N => ?_)
  have ec := evV_congr (t := (M' 13 5).toInt.toNat) (p := 1) hX' (by omega) (by decide) (told6 (f := M' 16) (w := L) (nu := M' 12 h.toNatClampNeg) (ni := x) (wet := M' 6 x.toNatClampNeg) (ice := M' 7 x.toNatClampNeg) (wi := M' 8 x.toNatClampNeg))
  rw [show (Int32.toInt 1).toNat = 1 from rfl, ec]
  generalize hG : mv [17] N (zq_ma M' 16 (upd (upd (upd (upd (upd (upd (M' 16) 0 L) 4 (M' 12 h.toNatClampNeg)) 5 x) 1 (M' 6 x.toNatClampNeg)) 2 (M' 7 x.toNatClampNeg)) 3 (M' 8 x.toNatClampNeg))) = G
  have hfr : fr (fL [16, 17]) M' G := by
    rw [← hG]
    exact fr_trans (fr_ma fr_rfl (fun _ => rfl)) (fr_sub fr_of (by decide))
  have f2 : fr (fL sL) M G := fr_trans i3 (fr_sub hfr (by decide))
  have eca : caB M h x = decide (evV (fct L (M' 12 h.toNatClampNeg) x (M' 6 x.toNatClampNeg) (M' 7 x.toNatClampNeg) (M' 8 x.toNatClampNeg)) (tl (M' 14) (M' 15) (M' 13 5).toInt.toNat 1) ≠ 0) := by
    rw [← caB_fr i3, ← hL]
    unfold caB
    rw [i3 1 3 rfl, fr_ar i3 2 (fun _ => rfl)]
  generalize evV (fct L (M' 12 h.toNatClampNeg) x (M' 6 x.toNatClampNeg) (M' 7 x.toNatClampNeg) (M' 8 x.toNatClampNeg)) (tl (M' 14) (M' 15) (M' 13 5).toInt.toNat 1) = v at eca ⊢
  show ((v : Int32) = 0 → mx g (d + 5) kX4_nightsCalled 14 [.ref 24, .int (h), .int (b), .int (L), .int (c), .int ((x + 1))] [] G Q) ∧ (¬ (v : Int32) = 0 → ((b : Int32) = 0 → mx g (d + 5) kX4_nightsCalled 14 [.ref 24, .int (h), .int (b), .int (L), .int ((c + 1)), .int ((x + 1))] [] G Q) ∧ (¬ (b : Int32) = 0 → mx g (d + 4) kX4_pushesSome 0 [.ref 24, .int (h), .int (x), .null] [] G _))
  refine ⟨fun z => ?_, fun z => ⟨fun y => ?_, fun y => ?_⟩⟩
  · rw [eca, decide_eq_false (fun w => w z), Bool.false_and] at cu
    refine ih _ (x + 1) G (by omega) ⟨by omega, by omega, f2, ?_⟩
    rw [cu]
    exact (Int32.add_zero c).symm
  · rw [eca, decide_eq_true z, decide_eq_true y, Bool.true_or, Bool.true_and] at cu
    exact ih _ (x + 1) G (by omega) ⟨by omega, by omega, f2, cu.symm⟩
  · rw [eca, decide_eq_true z, decide_eq_false y, Bool.false_or, Bool.true_and] at cu
    refine c_X4_pushesSome (R5_fr f2 hR) a1 a2 i1 (by omega) (fun M2 f3 p => ?_) (fun M2 f3 p => ?_)
    · rw [psB_fr f2] at p
      rw [p] at cu
      show ((1 : Int32) = 0 → mx g (d + 5) kX4_nightsCalled 14 [.ref 24, .int (h), .int (b), .int (L), .int (c), .int ((x + 1))] [] M2 Q) ∧ (¬ (1 : Int32) = 0 → mx g (d + 5) kX4_nightsCalled 14 [.ref 24, .int (h), .int (b), .int (L), .int ((c + 1)), .int ((x + 1))] [] M2 Q)
      refine ⟨fun w => absurd w (by decide), fun _ => ?_⟩
      exact ih _ (x + 1) M2 (by omega) ⟨by omega, by omega, fr_trans f2 f3, cu.symm⟩
    · rw [psB_fr f2] at p
      rw [p] at cu
      show ((0 : Int32) = 0 → mx g (d + 5) kX4_nightsCalled 14 [.ref 24, .int (h), .int (b), .int (L), .int (c), .int ((x + 1))] [] M2 Q) ∧ (¬ (0 : Int32) = 0 → mx g (d + 5) kX4_nightsCalled 14 [.ref 24, .int (h), .int (b), .int (L), .int ((c + 1)), .int ((x + 1))] [] M2 Q)
      refine ⟨fun _ => ?_, fun w => absurd rfl w⟩
      refine ih _ (x + 1) M2 (by omega) ⟨by omega, by omega, fr_trans f2 f3, ?_⟩
      rw [cu]
      exact (Int32.add_zero c).symm

