/-! the first place -/
def fiR (f : Nat → Prop) (N : Nat) (v : Int32) : Prop := (v = -1 ∧ ∀ i, i < N → ¬ f i) ∨ ∃ i, i < N ∧ v = nI i ∧ f i ∧ ∀ j, j < i → ¬ f j
theorem fiR_un {f : Nat → Prop} {N : Nat} {v v' : Int32} (h : fiR f N v) (h' : fiR f N v') : v' = v := by
  rcases h with ⟨h1, h2⟩ | ⟨i, h1, h2, h3, h4⟩ <;> rcases h' with ⟨g1, g2⟩ | ⟨j, g1, g2, g3, g4⟩
  · rw [h1, g1]
  · exact absurd g3 (h2 j g1)
  · exact absurd h3 (g2 i h1)
  · rw [h2, g2]
    by_cases c : i < j
    · exact absurd h3 (g4 i c)
    · by_cases c2 : j < i
      · exact absurd g3 (h4 j c2)
      · rw [show i = j by omega]
theorem n_ix4 {a b : Int32} (h1 : 0 ≤ a.toInt) (h2 : a.toInt ≤ 3) (h3 : 0 ≤ b.toInt) (h4 : b.toInt < 40) : (a * 40 + b).toNatClampNeg = 40 * a.toInt.toNat + b.toInt.toNat := by
  have e : (40 : Int32).toInt = 40 := rfl
  rw [n_cl, n_add, n_mul, e, zw_id (z := a.toInt * 40) (by omega) (by omega), zw_id (by omega) (by omega)]
  omega
theorem c_X6_isMissing {g : zq_G} {d : Nat} {M : zq_M} {Q : Option Value → zq_M → Prop} {p : Int32} (pin : vp_in p 4) (h1 : M 46 p.toNatClampNeg = -1 → True → Q (some (.int 1)) M) (h0 : ¬ M 46 p.toNatClampNeg = -1 → Q (some (.int 0)) M) : mx g d kX6_isMissing 0 [.ref 44, .int p] [] M Q := by
  refine mx_go 40 zq_t49 ?_
  show vp_in p 4 ∧ (¬ (((M 46) (Int32.toNatClampNeg p)) : Int32) = ((-1) : Int32) → zq_b 0 ∧ Q (some (.int 0)) M) ∧ ((((M 46) (Int32.toNatClampNeg p)) : Int32) = ((-1) : Int32) → zq_b 1 ∧ Q (some (.int 1)) M)
  exact ⟨pin, fun q => ⟨Or.inl rfl, h0 q⟩, fun q => ⟨Or.inr rfl, h1 q trivial⟩⟩
theorem c_X6_item {g : zq_G} {d : Nat} {M : zq_M} {Q : Option Value → zq_M → Prop} {p x : Int32} (pin : vp_in (p * 40 + x) 160) (hq : Q (some (.int (M 45 (p * 40 + x).toNatClampNeg))) M) : mx g d kX6_item 0 [.ref 44, .int p, .int x] [] M Q := by
  refine mx_go 40 zq_t54 ?_
  show vp_in ((p * 40) + x) 160 ∧ Q (some (.int ((M 45) (Int32.toNatClampNeg ((p * 40) + x))))) M
  exact ⟨pin, hq⟩
def hlP (M : zq_M) (h n t : Int32) (i : Nat) : Prop := M 45 (40 * t.toInt.toNat + i) ≠ bI (cgB M h (nI i) n)
theorem hlP_fr {M M' : zq_M} {h n t : Int32} (hf : fr (fL sL) M M') : hlP M' h n t = hlP M h n t := by
  funext i
  unfold hlP
  rw [cgB_fr hf, fr_ar hf 45 (fun _ => rfl)]

def F_held (p0 p1 p2 : Int32) (M : zq_M) (v : Int32) : Prop := (¬ (inR p0.toInt (M 10 2).toInt ∧ inR p1.toInt (M 5 4).toInt ∧ inR p2.toInt 4) → v = -2) ∧ ((inR p0.toInt (M 10 2).toInt ∧ inR p1.toInt (M 5 4).toInt ∧ inR p2.toInt 4) → M 46 p2.toNatClampNeg = -1 → v = -11) ∧ ((inR p0.toInt (M 10 2).toInt ∧ inR p1.toInt (M 5 4).toInt ∧ inR p2.toInt 4) → ¬ M 46 p2.toNatClampNeg = -1 → ¬ M 47 p2.toNatClampNeg = M 1 3 → v = -2) ∧ ((inR p0.toInt (M 10 2).toInt ∧ inR p1.toInt (M 5 4).toInt ∧ inR p2.toInt 4) → ¬ M 46 p2.toNatClampNeg = -1 → M 47 p2.toNatClampNeg = M 1 3 → fiR (hlP M p0 p1 p2) (M 1 3).toInt.toNat v)
theorem F_held_bad {p0 p1 p2 : Int32} {M : zq_M} (h : ¬ (inR p0.toInt (M 10 2).toInt ∧ inR p1.toInt (M 5 4).toInt ∧ inR p2.toInt 4)) : F_held p0 p1 p2 M (-2) := ⟨fun _ => rfl, fun z => absurd z h, fun z => absurd z h, fun z => absurd z h⟩
theorem F_held_mis {p0 p1 p2 : Int32} {M : zq_M} (h : (inR p0.toInt (M 10 2).toInt ∧ inR p1.toInt (M 5 4).toInt ∧ inR p2.toInt 4)) (h2 : M 46 p2.toNatClampNeg = -1) : F_held p0 p1 p2 M (-11) := ⟨fun z => absurd h z, fun _ _ => rfl, fun _ z => absurd h2 z, fun _ z => absurd h2 z⟩
theorem F_held_siz {p0 p1 p2 : Int32} {M : zq_M} (h : (inR p0.toInt (M 10 2).toInt ∧ inR p1.toInt (M 5 4).toInt ∧ inR p2.toInt 4)) (h2 : ¬ M 46 p2.toNatClampNeg = -1) (h3 : ¬ M 47 p2.toNatClampNeg = M 1 3) : F_held p0 p1 p2 M (-2) := ⟨fun z => absurd h z, fun _ z => absurd z h2, fun _ _ _ => rfl, fun _ _ z => absurd z h3⟩
theorem F_held_ok {p0 p1 p2 v : Int32} {M : zq_M} (h : (inR p0.toInt (M 10 2).toInt ∧ inR p1.toInt (M 5 4).toInt ∧ inR p2.toInt 4)) (h2 : ¬ M 46 p2.toNatClampNeg = -1) (h3 : M 47 p2.toNatClampNeg = M 1 3) (h4 : fiR (hlP M p0 p1 p2) (M 1 3).toInt.toNat v) : F_held p0 p1 p2 M v := ⟨fun z => absurd h z, fun _ z => absurd z h2, fun _ _ z => absurd h3 z, fun _ _ _ => h4⟩
theorem F_held_un {p0 p1 p2 v v' : Int32} {M M' : zq_M} (hf : fr (fL sL) M M') (h : F_held p0 p1 p2 M v) (h' : F_held p0 p1 p2 M' v') : v' = v := by
  unfold F_held at h h'
  rw [hlP_fr hf, hf 10 2 rfl, hf 5 4 rfl, hf 1 3 rfl, fr_ar hf 46 (fun _ => rfl), fr_ar hf 47 (fun _ => rfl)] at h'
  obtain ⟨a1, a2, a3, a4⟩ := h
  obtain ⟨b1, b2, b3, b4⟩ := h'
  by_cases c : (inR p0.toInt (M 10 2).toInt ∧ inR p1.toInt (M 5 4).toInt ∧ inR p2.toInt 4)
  · by_cases c2 : M 46 p2.toNatClampNeg = -1
    · rw [a2 c c2, b2 c c2]
    · by_cases c3 : M 47 p2.toNatClampNeg = M 1 3
      · exact fiR_un (a4 c c2 c3) (b4 c c2 c3)
      · rw [a3 c c2 c3, b3 c c2 c3]
  · rw [a1 c, b1 c]
theorem x_held {g : zq_G} {d : Nat} {M : zq_M} {Q : Option Value → zq_M → Prop} {p0 p1 p2 : Int32} (hR : RR M) (hq : ∀ (v : Int32) (M' : zq_M), fr (fL sL) M M' → F_held p0 p1 p2 M v → Q (some (.int v)) M') : mx g (d + 6) kX11_held 0 [.ref 0, .int p0, .int p1, .int p2, .null] [] M Q := by
  have hR5 := RR_5 hR
  obtain ⟨hS, hN, hH, hT, hX⟩ := id hR5
  have s4 := hS.2.2.2.1
  have s5 := hS.2.2.2.2.1
  have n6 := hN.2.2.2.2.2.1
  have n7 := hN.2.2.2.2.2.2.1
  have h4 := hH.2.2.2.1
  have h5 := hH.2.2.2.2.1
  have hE := hR.2.2.2.2.2.2.1
  have hbad : ¬ (inR p0.toInt (M 10 2).toInt ∧ inR p1.toInt (M 5 4).toInt ∧ inR p2.toInt 4) → Q (some (.int (-2))) M := fun z => hq _ M fr_rfl (F_held_bad z)
  have hmis := fun (z : (inR p0.toInt (M 10 2).toInt ∧ inR p1.toInt (M 5 4).toInt ∧ inR p2.toInt 4)) z2 => hq _ M fr_rfl (F_held_mis z z2)
  have hsiz := fun (z : (inR p0.toInt (M 10 2).toInt ∧ inR p1.toInt (M 5 4).toInt ∧ inR p2.toInt 4)) z2 z3 => hq _ M fr_rfl (F_held_siz z z2 z3)
  have hok := fun (z : (inR p0.toInt (M 10 2).toInt ∧ inR p1.toInt (M 5 4).toInt ∧ inR p2.toInt 4)) v M' (hf : fr (fL sL) M M') z2 z3 z4 => hq v M' hf (F_held_ok z z2 z3 z4)
  unfold inR at *
  refine mx_go 250 zq_t116 ?_
  show mx g (d + 5) kX0_has 0 [.ref 10, .int (p0)] [] M _
  refine c_X0_has (n := M 10 2) rfl (fun k1 k2 => ?_) (fun k1 => ?_)
  rotate_left
  · show ((0 : Int32) = 0 → Q (some (.int (-2))) M) ∧ (¬ (0 : Int32) = 0 → mx g (d + 5) kX2_has 0 [.ref 5, .int (p1)] [] M _)
    exact ⟨fun _ => hbad (by omega), fun z => absurd rfl z⟩
  show ((1 : Int32) = 0 → Q (some (.int (-2))) M) ∧ (¬ (1 : Int32) = 0 → mx g (d + 5) kX2_has 0 [.ref 5, .int (p1)] [] M _)
  refine ⟨fun z => absurd z (by decide), fun _ => ?_⟩
  refine c_X2_has (n := M 5 4) rfl (fun k3 k4 => ?_) (fun k3 => ?_)
  rotate_left
  · show ((0 : Int32) = 0 → Q (some (.int (-2))) M) ∧ (¬ (0 : Int32) = 0 → mx g (d + 5) kX11_isSheet 0 [.int (p2)] [] M _)
    exact ⟨fun _ => hbad (by omega), fun z => absurd rfl z⟩
  show ((1 : Int32) = 0 → Q (some (.int (-2))) M) ∧ (¬ (1 : Int32) = 0 → mx g (d + 5) kX11_isSheet 0 [.int (p2)] [] M _)
  refine ⟨fun z => absurd z (by decide), fun _ => ?_⟩
  refine c_X11_isSheet (fun k5 k6 => ?_) (fun k5 => ?_)
  rotate_left
  · show (¬ (0 : Int32) = 0 → mx g (d + 5) kX6_isMissing 0 [.ref 44, .int (p2)] [] M _) ∧ ((0 : Int32) = 0 → Q (some (.int (-2))) M)
    exact ⟨fun z => absurd rfl z, fun _ => hbad (by omega)⟩
  show (¬ (1 : Int32) = 0 → mx g (d + 5) kX6_isMissing 0 [.ref 44, .int (p2)] [] M _) ∧ ((1 : Int32) = 0 → Q (some (.int (-2))) M)
  refine ⟨fun _ => ?_, fun z => absurd z (by decide)⟩
  have pin : vp_in p2 4 := n_in k5 (by omega)
  have sz := hE.2.2.2.1 p2.toNatClampNeg (by rw [n_cl]; omega)
  refine c_X6_isMissing pin (fun q _ => ?_) (fun q => ?_)
  · show ((1 : Int32) = 0 → vp_in p2 4 ∧ ((((M 47) (Int32.toNatClampNeg p2)) : Int32) = ((M 1 3) : Int32) → mx g (d + 6) kX11_held 71 [.ref 0, .int (p0), .int (p1), .int (p2), .int (0)] [] M Q) ∧ (¬ (((M 47) (Int32.toNatClampNeg p2)) : Int32) = ((M 1 3) : Int32) → Q (some (.int (-2))) M)) ∧ (¬ (1 : Int32) = 0 → Q (some (.int (-11))) M)
    exact ⟨fun z => absurd z (by decide), fun _ => hmis ⟨⟨k1, k2⟩, ⟨k3, k4⟩, k5, by omega⟩ q⟩
  show ((0 : Int32) = 0 → vp_in p2 4 ∧ ((((M 47) (Int32.toNatClampNeg p2)) : Int32) = ((M 1 3) : Int32) → mx g (d + 6) kX11_held 71 [.ref 0, .int (p0), .int (p1), .int (p2), .int (0)] [] M Q) ∧ (¬ (((M 47) (Int32.toNatClampNeg p2)) : Int32) = ((M 1 3) : Int32) → Q (some (.int (-2))) M)) ∧ (¬ (0 : Int32) = 0 → Q (some (.int (-11))) M)
  refine ⟨fun _ => ⟨pin, fun r => ?_, fun r => hsiz ⟨⟨k1, k2⟩, ⟨k3, k4⟩, k5, by omega⟩ q r⟩, fun z => absurd rfl z⟩
  replace hok := fun v M' (hf : fr (fL sL) M M') z4 => hok ⟨⟨k1, k2⟩, ⟨k3, k4⟩, k5, by omega⟩ v M' hf q r z4
  refine mx_wf (fun x : Int32 => [.ref 0, .int p0, .int p1, .int p2, .int x]) (fun x M' => 0 ≤ x.toInt ∧ x.toInt ≤ (M 1 3).toInt ∧ fr (fL sL) M M' ∧ ∀ i : Nat, (i : Int) < x.toInt → ¬ hlP M p0 p1 p2 i) (fun x => ((M 1 3).toInt - x.toInt).toNat) ?_ 0 M ⟨by decide, s4, fr_rfl, fun i hi => by rw [n_0] at hi; omega⟩
  intro x M' ⟨i1, i2, i3, i4⟩ ih
  refine mx_go 250 zq_t116 ?_
  show (((M' 1 3) : Int32) ≤ (x : Int32) → Q (some (.int (-1))) M') ∧ (¬ ((M' 1 3) : Int32) ≤ (x : Int32) → mx g (d + 5) kX6_item 0 [.ref 44, .int (p2), .int (x)] [] M' _)
  have e13 := i3 1 3 rfl
  rw [e13]
  refine ⟨fun z => ?_, fun z => ?_⟩
  · rw [n_le] at z
    exact hok _ M' i3 (Or.inl ⟨rfl, fun i hi => i4 i (by omega)⟩)
  rw [n_le] at z
  have up := n_up (n := M 1 3) i1 (by omega)
  refine c_X6_item (n_ix2 k5 (by omega) i1 (by omega)) ?_
  rw [n_ix4 k5 (by omega) i1 (by omega), fr_ar i3 45 (fun _ => rfl)]
  show mx g (d + 5) kX10_canGo 0 [.ref 25, .int (p0), .int (x), .int (p1)] [] M' _
  have stop : M 45 (40 * p2.toInt.toNat + x.toInt.toNat) ≠ bI (cgB M p0 x p1) → ∀ M2, fr (fL sL) M M2 → Q (some (.int x)) M2 := by
    intro ne M2 f2
    refine hok _ M2 f2 (Or.inr ⟨x.toInt.toNat, by omega, n_of i1, ?_, fun j hj => i4 j (by omega)⟩)
    unfold hlP
    rw [← n_of i1]
    exact ne
  have goon : M 45 (40 * p2.toInt.toNat + x.toInt.toNat) = bI (cgB M p0 x p1) → ∀ M2, fr (fL sL) M M2 → mx g (d + 6) kX11_held 71 [.ref 0, .int p0, .int p1, .int p2, .int (x + 1)] [] M2 Q := by
    intro eq M2 f2
    refine ih (x + 1) M2 (by omega) ⟨by omega, by omega, f2, fun i hi => ?_⟩
    by_cases c : i = x.toInt.toNat
    · subst c
      unfold hlP
      rw [← n_of i1]
      exact fun z => z eq
    · exact i4 i (by omega)
  refine c_X10_canGo (R5_fr i3 hR5) k1 (by omega) i1 (by rw [e13]; omega) k3 (by omega) (fun N cg => ?_) (fun N cg => ?_)
  · rw [cgB_fr i3] at cg
    show mx g (d + 5) kX11_bit 0 [.int (1)] [] (mv [16, 17] N M') _
    refine c_X11_bit (fun _ => ?_) (fun z => absurd z (by decide))
    show (((M 45 (40 * p2.toInt.toNat + x.toInt.toNat)) : Int32) = (1 : Int32) → mx g (d + 6) kX11_held 71 [.ref 0, .int (p0), .int (p1), .int (p2), .int ((x + 1))] [] (mv [16, 17] N M') Q) ∧ (¬ ((M 45 (40 * p2.toInt.toNat + x.toInt.toNat)) : Int32) = (1 : Int32) → Q (some (.int x)) (mv [16, 17] N M'))
    rw [cg] at stop goon
    exact ⟨fun z => goon z _ (fr_trans i3 (fr_sub fr_of (by decide))), fun z => stop z _ (fr_trans i3 (fr_sub fr_of (by decide)))⟩
  · rw [cgB_fr i3] at cg
    show mx g (d + 5) kX11_bit 0 [.int (0)] [] (mv [16, 17] N M') _
    refine c_X11_bit (fun z => absurd rfl z) (fun _ => ?_)
    show (((M 45 (40 * p2.toInt.toNat + x.toInt.toNat)) : Int32) = (0 : Int32) → mx g (d + 6) kX11_held 71 [.ref 0, .int (p0), .int (p1), .int (p2), .int ((x + 1))] [] (mv [16, 17] N M') Q) ∧ (¬ ((M 45 (40 * p2.toInt.toNat + x.toInt.toNat)) : Int32) = (0 : Int32) → Q (some (.int x)) (mv [16, 17] N M'))
    rw [cg] at stop goon
    exact ⟨fun z => goon z _ (fr_trans i3 (fr_sub fr_of (by decide))), fun z => stop z _ (fr_trans i3 (fr_sub fr_of (by decide)))⟩
theorem m_held {g : zq_G} {d : Nat} {M : zq_M} {Q : Option Value → zq_M → Prop} {p0 p1 p2 : Int32} (hR : RR M) (hq : ∀ (v : Int32) (M' : zq_M), fr (fL sL) M M' → F_held p0 p1 p2 M v → Q (some (.int v)) M') : mx g (d + 6) kX12_held 0 [.ref 48, .int p0, .int p1, .int p2, .null, .null] [] M Q := by
  have hR5 := RR_5 hR
  have hV : M 48 27 = -1 := hR.2.2.2.2.2.2.2.2.2
  obtain ⟨hS, hN, hH, hT, hX⟩ := id hR5
  have s1 := hS.1
  have s4 := hS.2.2.2.1
  have s5 := hS.2.2.2.2.1
  have n1 := hN.1
  have n6 := hN.2.2.2.2.2.1
  have n7 := hN.2.2.2.2.2.2.1
  have h1 := hH.1
  have h4 := hH.2.2.2.1
  have h5 := hH.2.2.2.2.1
  have hE := hR.2.2.2.2.2.2.1
  have hbad : ¬ (inR p0.toInt (M 10 2).toInt ∧ inR p1.toInt (M 5 4).toInt ∧ inR p2.toInt 4) → Q (some (.int (-2))) M := fun z => hq _ M fr_rfl (F_held_bad z)
  have hmis := fun (z : (inR p0.toInt (M 10 2).toInt ∧ inR p1.toInt (M 5 4).toInt ∧ inR p2.toInt 4)) z2 => hq _ M fr_rfl (F_held_mis z z2)
  have hsiz := fun (z : (inR p0.toInt (M 10 2).toInt ∧ inR p1.toInt (M 5 4).toInt ∧ inR p2.toInt 4)) z2 z3 => hq _ M fr_rfl (F_held_siz z z2 z3)
  have hok := fun (z : (inR p0.toInt (M 10 2).toInt ∧ inR p1.toInt (M 5 4).toInt ∧ inR p2.toInt 4)) v M' (hf : fr (fL sL) M M') z2 z3 z4 => hq v M' hf (F_held_ok z z2 z3 z4)
  unfold inR at *
  refine mx_go 250 zq_t219 ?_
  show mx g (d + 5) kX12_isHow 0 [.ref 48, .int (p0)] [] M _
  refine c_X12_isHow (n := M 10 2) h1 h4 (fun k1 k2 => ?_) (fun k1 => ?_)
  rotate_left
  · show ((0 : Int32) = 0 → Q (some (.int (-2))) M) ∧ (¬ (0 : Int32) = 0 → mx g (d + 5) kX12_isNight 0 [.ref 48, .int (p1)] [] M _)
    exact ⟨fun _ => hbad (by omega), fun z => absurd rfl z⟩
  show ((1 : Int32) = 0 → Q (some (.int (-2))) M) ∧ (¬ (1 : Int32) = 0 → mx g (d + 5) kX12_isNight 0 [.ref 48, .int (p1)] [] M _)
  refine ⟨fun z => absurd z (by decide), fun _ => ?_⟩
  refine c_X12_isNight (n := M 5 4) n1 n6 (fun k3 k4 => ?_) (fun k3 => ?_)
  rotate_left
  · show ((0 : Int32) = 0 → Q (some (.int (-2))) M) ∧ (¬ (0 : Int32) = 0 → mx g (d + 5) kX12_isSheet 0 [.ref 48, .int (p2)] [] M _)
    exact ⟨fun _ => hbad (by omega), fun z => absurd rfl z⟩
  show ((1 : Int32) = 0 → Q (some (.int (-2))) M) ∧ (¬ (1 : Int32) = 0 → mx g (d + 5) kX12_isSheet 0 [.ref 48, .int (p2)] [] M _)
  refine ⟨fun z => absurd z (by decide), fun _ => ?_⟩
  refine c_X12_isSheet (fun k5 k6 => ?_) (fun k5 => ?_)
  rotate_left
  · show (¬ (0 : Int32) = 0 → vp_in p2 4 ∧ (0 ≤ (((M 75) (Int32.toNatClampNeg p2)) : Int32) → vp_in p2 4 ∧ ((((M 76) (Int32.toNatClampNeg p2)) : Int32) = ((M 48 0) : Int32) → mx g (d + 5) kX12_goers 0 [.ref 48, .int (p0), .int (p1), .null, .null] [] M _) ∧ (¬ (((M 76) (Int32.toNatClampNeg p2)) : Int32) = ((M 48 0) : Int32) → Q (some (.int (-2))) M)) ∧ (¬ 0 ≤ (((M 75) (Int32.toNatClampNeg p2)) : Int32) → Q (some (.int (-11))) M)) ∧ ((0 : Int32) = 0 → Q (some (.int (-2))) M)
    exact ⟨fun z => absurd rfl z, fun _ => hbad (by omega)⟩
  show (¬ (1 : Int32) = 0 → vp_in p2 4 ∧ (0 ≤ (((M 75) (Int32.toNatClampNeg p2)) : Int32) → vp_in p2 4 ∧ ((((M 76) (Int32.toNatClampNeg p2)) : Int32) = ((M 48 0) : Int32) → mx g (d + 5) kX12_goers 0 [.ref 48, .int (p0), .int (p1), .null, .null] [] M _) ∧ (¬ (((M 76) (Int32.toNatClampNeg p2)) : Int32) = ((M 48 0) : Int32) → Q (some (.int (-2))) M)) ∧ (¬ 0 ≤ (((M 75) (Int32.toNatClampNeg p2)) : Int32) → Q (some (.int (-11))) M)) ∧ ((1 : Int32) = 0 → Q (some (.int (-2))) M)
  refine ⟨fun _ => ?_, fun z => absurd z (by decide)⟩
  have pin : vp_in p2 4 := n_in k5 (by omega)
  have p4 : p2.toNatClampNeg < 4 := by rw [n_cl]; omega
  have sz := hE.2.2.2.1 p2.toNatClampNeg p4
  have so := hE.2.2.1 p2.toNatClampNeg p4
  have m1 : (-1 : Int32).toInt = -1 := by decide
  rw [hE.1, hE.2.1, s1]
  refine ⟨pin, fun q => ⟨pin, fun r => ?_, fun r => ?_⟩, fun q => ?_⟩
  rotate_left
  · rw [n_le, n_0] at q
    exact hsiz ⟨⟨k1, k2⟩, ⟨k3, k4⟩, k5, by omega⟩ (fun z => by rw [n_eq, m1] at z; omega) r
  · rw [n_le, n_0] at q
    exact hmis ⟨⟨k1, k2⟩, ⟨k3, k4⟩, k5, by omega⟩ (by rw [n_eq, m1]; omega)
  rw [n_le, n_0] at q
  replace hok := fun v M' (hf : fr (fL sL) M M') z4 => hok ⟨⟨k1, k2⟩, ⟨k3, k4⟩, k5, by omega⟩ v M' hf (fun z => by rw [n_eq, m1] at z; omega) r z4
  have sr : (M 47 p2.toNatClampNeg).toInt = (M 1 3).toInt := by rw [r]
  refine c_X12_goers hR5 hV k1 (by omega) k3 (by omega) (fun M0 f0 => ?_)
  show mx g (d + 6) kX12_held 66 [.ref 48, .null, .null, .int (p2), .int ((fwF M p0 p1 (M 1 3).toInt.toNat)), .int (0)] [] M0 Q
  have hbt := fun i (hi : i < 32) => fwF_bt (M := M) (h := p0) (n := p1) (M 1 3).toInt.toNat i (by omega) hi
  generalize fwF M p0 p1 (M 1 3).toInt.toNat = set at hbt ⊢
  refine mx_wf (fun x : Int32 => [.ref 48, .null, .null, .int p2, .int set, .int x]) (fun x M' => 0 ≤ x.toInt ∧ x.toInt ≤ (M 1 3).toInt ∧ M' = M0 ∧ ∀ i : Nat, (i : Int) < x.toInt → ¬ hlP M p0 p1 p2 i) (fun x => ((M 1 3).toInt - x.toInt).toNat) ?_ 0 M0 ⟨by decide, s4, rfl, fun i hi => by rw [n_0] at hi; omega⟩
  intro x M' ⟨i1, i2, i3, i4⟩ ih
  subst i3
  refine mx_go 250 zq_t219 ?_
  show (((M' 48 0) : Int32) ≤ (x : Int32) → Q (some (.int (-1))) M') ∧ (¬ ((M' 48 0) : Int32) ≤ (x : Int32) → vp_in ((40 * p2) + x) 160 ∧ ((((M' 77) (Int32.toNatClampNeg ((40 * p2) + x))) : Int32) = (((set >>> (x &&& 31)) &&& 1) : Int32) → mx g (d + 6) kX12_held 66 [.ref 48, .null, .null, .int (p2), .int (set), .int ((x + 1))] [] M' Q) ∧ (¬ (((M' 77) (Int32.toNatClampNeg ((40 * p2) + x))) : Int32) = (((set >>> (x &&& 31)) &&& 1) : Int32) → Q (some (.int x)) M'))
  rw [f0 48 0 rfl, s1]
  refine ⟨fun z => ?_, fun z => ?_⟩
  · rw [n_le] at z
    exact hok _ M' f0 (Or.inl ⟨rfl, fun i hi => i4 i (by omega)⟩)
  rw [n_le] at z
  have up := n_up (n := M 1 3) i1 (by omega)
  have e77 : M' 77 (40 * p2 + x).toNatClampNeg = M 45 (40 * p2.toInt.toNat + x.toInt.toNat) := by
    rw [fr_ar f0 77 (fun _ => rfl), n_cl, n_ix k5 (by omega) i1 (by omega), show (40 * p2.toInt + x.toInt).toNat = 40 * p2.toNatClampNeg + x.toInt.toNat by rw [n_cl]; omega]
    rw [show 40 * p2.toInt.toNat + x.toInt.toNat = 40 * p2.toNatClampNeg + x.toInt.toNat by rw [n_cl]]
    exact (hE.2.2.2.2 p2.toNatClampNeg x.toInt.toNat p4 (by omega)).symm
  have ebit : (set >>> (x &&& 31)) &&& 1 = bI (cgB M p0 x p1) := by
    have := bitA (x := set) (i := x.toInt.toNat) (by omega)
    rw [hbt x.toInt.toNat (by omega), decide_eq_true (by omega), Bool.true_and, ← n_of i1] at this
    exact this
  rw [e77, ebit]
  refine ⟨n_ix1 k5 (by omega) i1 (by omega), fun eq => ?_, fun ne => ?_⟩
  · refine ih (x + 1) M' (by omega) ⟨by omega, by omega, rfl, fun i hi => ?_⟩
    by_cases c : i = x.toInt.toNat
    · subst c
      unfold hlP
      rw [← n_of i1]
      exact fun z => z eq
    · exact i4 i (by omega)
  · refine hok _ M' f0 (Or.inr ⟨x.toInt.toNat, by omega, n_of i1, ?_, fun j hj => i4 j (by omega)⟩)
    unfold hlP
    rw [← n_of i1]
    exact ne
theorem op_held {g : zq_G} {d : Nat} {M : zq_M} {p0 p1 p2 : Int32} (hR : RR M) : pri g (d + 6) kX11_held kX12_held [.ref 0, .int p0, .int p1, .int p2, .null] [.ref 48, .int p0, .int p1, .int p2, .null, .null] M :=
  q_op (F_held p0 p1 p2) hR (fun _ _ _ hf h h' => F_held_un hf h h') (fun _ hq => x_held hR hq) (fun _ _ hR' hq => m_held hR' hq)
