theorem q_op {g : zq_G} {d kx km : Nat} {ax am : List Value} {M : zq_M} (F : zq_M → Int32 → Prop) (hR : RR M) (hun : ∀ M' v v', fr (fL sL) M M' → F M v → F M' v' → v' = v) (hx : ∀ Q : Option Value → zq_M → Prop, (∀ v M', fr (fL sL) M M' → F M v → Q (some (.int v)) M') → mx g d kx 0 ax [] M Q) (hm : ∀ (M' : zq_M) (Q : Option Value → zq_M → Prop), RR M' → (∀ v M2, fr (fL sL) M' M2 → F M' v → Q (some (.int v)) M2) → mx g d km 0 am [] M' Q) : pri g d kx km ax am M := by
  refine hx _ (fun v M1 f1 p1 => ⟨v, rfl, hm M1 _ (RR_fr f1 hR) (fun v2 M2 f2 p2 => ⟨?_, RR_fr f2 (RR_fr f1 hR)⟩)⟩)
  rw [hun M1 v v2 f1 p1 p2]
theorem q_opl {g : zq_G} {d kx km : Nat} {ax am : List Value} {M : zq_M} (F : zq_M → Int64 → Prop) (hR : RR M) (hun : ∀ M' v v', fr (fL sL) M M' → F M v → F M' v' → v' = v) (hx : ∀ Q : Option Value → zq_M → Prop, (∀ v M', fr (fL sL) M M' → F M v → Q (some (.long v)) M') → mx g d kx 0 ax [] M Q) (hm : ∀ (M' : zq_M) (Q : Option Value → zq_M → Prop), RR M' → (∀ v M2, fr (fL sL) M' M2 → F M' v → Q (some (.long v)) M2) → mx g d km 0 am [] M' Q) : prl g d kx km ax am M := by
  refine hx _ (fun v M1 f1 p1 => ⟨v, rfl, hm M1 _ (RR_fr f1 hR) (fun v2 M2 f2 p2 => ⟨?_, RR_fr f2 (RR_fr f1 hR)⟩)⟩)
  rw [hun M1 v v2 f1 p1 p2]
def orB {α : Type} (P : Prop) (f b v : α) : Prop := (P ∧ v = f) ∨ (¬ P ∧ v = b)
theorem orB_un {α : Type} {P P' : Prop} {f f' b v v' : α} (h : orB P f b v) (h' : orB P' f' b v') (hP : P' ↔ P) (hf : P → f' = f) : v' = v := by
  rcases h with ⟨h1, h2⟩ | ⟨h1, h2⟩ <;> rcases h' with ⟨g1, g2⟩ | ⟨g1, g2⟩
  · rw [h2, g2, hf h1]
  · exact absurd (hP.mpr h1) g1
  · exact absurd (hP.mp g1) h1
  · rw [h2, g2]
theorem div100 {x : Int32} (h : 0 ≤ x.toInt) : (x / 100).toInt = x.toInt / 100 := n_div 100 (by decide) (by decide) h
theorem rem100 {x : Int32} (h : 0 ≤ x.toInt) : (x - x / 100 * 100).toInt = x.toInt % 100 := n_rem 100 (by decide) (by decide) h
def inR (v n : Int) : Prop := 0 ≤ v ∧ v < n
def spanP (n v : Int) : Prop := 0 ≤ v ∧ v / 100 < n ∧ v % 100 < n ∧ v / 100 ≤ v % 100
theorem c_X2_hasSpan {g : zq_G} {d : Nat} {M : zq_M} {Q : Option Value → zq_M → Prop} {v n : Int32} (hn : M 5 4 = n) (h1 : spanP n.toInt v.toInt → True → Q (some (.int 1)) M) (h0 : ¬ spanP n.toInt v.toInt → Q (some (.int 0)) M) : mx g (d + 1) kX2_hasSpan 0 [.ref 5, .int v] [] M Q := by
  refine mx_go 250 zq_t12 ?_
  show ((v : Int32) < 0 → zq_b 0 ∧ Q (some (.int 0)) M) ∧ (¬ (v : Int32) < 0 → (¬ (100 : Int32) = 0) ∧ mx g (d) kX2_has 0 [.ref 5, .int ((v / 100))] [] M _)
  unfold spanP at h1 h0
  refine ⟨fun q => ⟨Or.inl rfl, h0 ?_⟩, fun q => ⟨by decide, ?_⟩⟩
  · rw [n_lt, n_0] at q; omega
  rw [n_lt, n_0] at q
  have ed := div100 (x := v) (by omega)
  have em := rem100 (x := v) (by omega)
  refine c_X2_has (n := n) hn (fun k1 k2 => ?_) (fun k1 => ?_)
  rotate_left
  · show ((0 : Int32) = 0 → zq_b 0 ∧ Q (some (.int 0)) M) ∧ (¬ (0 : Int32) = 0 → (¬ (100 : Int32) = 0) ∧ mx g (d) kX2_has 0 [.ref 5, .int ((v - v / 100 * 100))] [] M _)
    exact ⟨fun _ => ⟨Or.inl rfl, h0 (by omega)⟩, fun z => absurd rfl z⟩
  show ((1 : Int32) = 0 → zq_b 0 ∧ Q (some (.int 0)) M) ∧ (¬ (1 : Int32) = 0 → (¬ (100 : Int32) = 0) ∧ mx g (d) kX2_has 0 [.ref 5, .int ((v - v / 100 * 100))] [] M _)
  refine ⟨fun z => absurd z (by decide), fun _ => ?_⟩
  refine ⟨by decide, ?_⟩
  refine c_X2_has (n := n) hn (fun k3 k4 => ?_) (fun k3 => ?_)
  rotate_left
  · show ((0 : Int32) = 0 → zq_b 0 ∧ Q (some (.int 0)) M) ∧ (¬ (0 : Int32) = 0 → (¬ (100 : Int32) = 0) ∧ (¬ (100 : Int32) = 0) ∧ (((v - v / 100 * 100) : Int32) < ((v / 100) : Int32) → zq_b 0 ∧ Q (some (.int 0)) M) ∧ (¬ ((v - v / 100 * 100) : Int32) < ((v / 100) : Int32) → zq_b 1 ∧ Q (some (.int 1)) M))
    exact ⟨fun _ => ⟨Or.inl rfl, h0 (by omega)⟩, fun z => absurd rfl z⟩
  show ((1 : Int32) = 0 → zq_b 0 ∧ Q (some (.int 0)) M) ∧ (¬ (1 : Int32) = 0 → (¬ (100 : Int32) = 0) ∧ (¬ (100 : Int32) = 0) ∧ (((v - v / 100 * 100) : Int32) < ((v / 100) : Int32) → zq_b 0 ∧ Q (some (.int 0)) M) ∧ (¬ ((v - v / 100 * 100) : Int32) < ((v / 100) : Int32) → zq_b 1 ∧ Q (some (.int 1)) M))
  refine ⟨fun z => absurd z (by decide), fun _ => ?_⟩
  exact ⟨by decide, by decide, fun r => ⟨Or.inl rfl, h0 (by rw [n_lt] at r; omega)⟩, fun r => ⟨Or.inr rfl, h1 (by rw [n_lt] at r; omega) trivial⟩⟩
theorem c_X12_isRow {g : zq_G} {d : Nat} {M : zq_M} {Q : Option Value → zq_M → Prop} {v n : Int32} (hn : M 48 1 = n) (b1 : 0 ≤ n.toInt) (b2 : n.toInt ≤ 60) (h1 : spanP n.toInt v.toInt → True → Q (some (.int 1)) M) (h0 : ¬ spanP n.toInt v.toInt → Q (some (.int 0)) M) : mx g (d + 2) kX12_isRow 0 [.ref 48, .int v] [] M Q := by
  have f1 : (5959 : Int32).toInt = 5959 := rfl
  refine mx_go 250 zq_t187 ?_
  show mx g (d + 1) kX12_in 0 [.ref 48, .int (v), .int (0), .int (5959)] [] M _
  unfold spanP at h1 h0
  refine c_X12_in (fun q1 q2 => ?_) (fun q1 => ?_)
  rotate_left
  · show ((0 : Int32) = 0 → zq_b 0 ∧ Q (some (.int 0)) M) ∧ (¬ (0 : Int32) = 0 → (¬ (100 : Int32) = 0) ∧ mx g (d + 1) kX12_isNight 0 [.ref 48, .int ((v / 100))] [] M _)
    exact ⟨fun _ => ⟨Or.inl rfl, h0 (by rw [n_0, f1] at q1; omega)⟩, fun z => absurd rfl z⟩
  show ((1 : Int32) = 0 → zq_b 0 ∧ Q (some (.int 0)) M) ∧ (¬ (1 : Int32) = 0 → (¬ (100 : Int32) = 0) ∧ mx g (d + 1) kX12_isNight 0 [.ref 48, .int ((v / 100))] [] M _)
  refine ⟨fun z => absurd z (by decide), fun _ => ?_⟩
  rw [n_0] at q1
  rw [f1] at q2
  have ed := div100 (x := v) (by omega)
  have em := rem100 (x := v) (by omega)
  refine ⟨by decide, ?_⟩
  refine c_X12_isNight (n := n) hn b1 (fun k1 k2 => ?_) (fun k1 => ?_)
  rotate_left
  · show ((0 : Int32) = 0 → zq_b 0 ∧ Q (some (.int 0)) M) ∧ (¬ (0 : Int32) = 0 → (¬ (100 : Int32) = 0) ∧ mx g (d + 1) kX12_isNight 0 [.ref 48, .int ((v - v / 100 * 100))] [] M _)
    exact ⟨fun _ => ⟨Or.inl rfl, h0 (by omega)⟩, fun z => absurd rfl z⟩
  show ((1 : Int32) = 0 → zq_b 0 ∧ Q (some (.int 0)) M) ∧ (¬ (1 : Int32) = 0 → (¬ (100 : Int32) = 0) ∧ mx g (d + 1) kX12_isNight 0 [.ref 48, .int ((v - v / 100 * 100))] [] M _)
  refine ⟨fun z => absurd z (by decide), fun _ => ?_⟩
  refine ⟨by decide, ?_⟩
  refine c_X12_isNight (n := n) hn b1 (fun k3 k4 => ?_) (fun k3 => ?_)
  rotate_left
  · show ((0 : Int32) = 0 → zq_b 0 ∧ Q (some (.int 0)) M) ∧ (¬ (0 : Int32) = 0 → (¬ (100 : Int32) = 0) ∧ (¬ (100 : Int32) = 0) ∧ (((v - v / 100 * 100) : Int32) < ((v / 100) : Int32) → zq_b 0 ∧ Q (some (.int 0)) M) ∧ (¬ ((v - v / 100 * 100) : Int32) < ((v / 100) : Int32) → zq_b 1 ∧ Q (some (.int 1)) M))
    exact ⟨fun _ => ⟨Or.inl rfl, h0 (by omega)⟩, fun z => absurd rfl z⟩
  show ((1 : Int32) = 0 → zq_b 0 ∧ Q (some (.int 0)) M) ∧ (¬ (1 : Int32) = 0 → (¬ (100 : Int32) = 0) ∧ (¬ (100 : Int32) = 0) ∧ (((v - v / 100 * 100) : Int32) < ((v / 100) : Int32) → zq_b 0 ∧ Q (some (.int 0)) M) ∧ (¬ ((v - v / 100 * 100) : Int32) < ((v / 100) : Int32) → zq_b 1 ∧ Q (some (.int 1)) M))
  refine ⟨fun z => absurd z (by decide), fun _ => ?_⟩
  exact ⟨by decide, by decide, fun r => ⟨Or.inl rfl, h0 (by rw [n_lt] at r; omega)⟩, fun r => ⟨Or.inr rfl, h1 (by rw [n_lt] at r; omega) trivial⟩⟩
def ruW (M : zq_M) (h ab : Int32) : WS := gR M (M 3) h (ab.toInt / 100).toNat (ab.toInt % 100 + 1 - ab.toInt / 100).toNat
def F_run (p0 p1 p2 p3 : Int32) (M : zq_M) (v : Int32) : Prop := orB (inR p0.toInt (M 10 2).toInt ∧ spanP (M 5 4).toInt p1.toInt ∧ inR p2.toInt (M 1 3).toInt ∧ inR p3.toInt 3) (if p3 = 0 then (ruW M p0 p1).2.1 p2.toNatClampNeg else if p3 = 1 then (ruW M p0 p1).1 p2.toNatClampNeg else (ruW M p0 p1).2.2.1 p2.toNatClampNeg) (-2) v
theorem ruW_fr {M M' : zq_M} {h ab : Int32} (hf : fr (fL sL) M M') : ruW M' h ab = ruW M h ab := by unfold ruW; rw [gR_fr hf, fr_ar hf 3 (fun _ => rfl)]
theorem x_run {g : zq_G} {d : Nat} {M : zq_M} {Q : Option Value → zq_M → Prop} {p0 p1 p2 p3 : Int32} (hR : RR M) (hq : ∀ (v : Int32) (M' : zq_M), fr (fL sL) M M' → F_run p0 p1 p2 p3 M v → Q (some (.int v)) M') : mx g (d + 6) kX11_run 0 [.ref 0, .int p0, .int p1, .int p2, .int p3] [] M Q := by
  have hR5 := RR_5 hR
  obtain ⟨hS, hN, hH, hT, hX⟩ := id hR5
  have s5 := hS.2.2.2.2.1
  have a7 := hN.2.2.2.2.2.2.1
  have h5 := hH.2.2.2.2.1
  have f2 : (2 : Int32).toInt = 2 := rfl
  unfold F_run at hq
  have hbad : ¬ (inR p0.toInt (M 10 2).toInt ∧ spanP (M 5 4).toInt p1.toInt ∧ inR p2.toInt (M 1 3).toInt ∧ inR p3.toInt 3) → Q (some (.int (-2))) M := fun z => hq _ M fr_rfl (Or.inr ⟨z, rfl⟩)
  unfold inR spanP at *
  refine mx_go 250 zq_t100 ?_
  show mx g (d + 5) kX0_has 0 [.ref 10, .int (p0)] [] M _
  refine c_X0_has (n := M 10 2) rfl (fun k1 k2 => ?_) (fun k1 => ?_)
  rotate_left
  · show ((0 : Int32) = 0 → Q (some (.int (-2))) M) ∧ (¬ (0 : Int32) = 0 → mx g (d + 5) kX2_hasSpan 0 [.ref 5, .int (p1)] [] M _)
    exact ⟨fun _ => hbad (by omega), fun z => absurd rfl z⟩
  show ((1 : Int32) = 0 → Q (some (.int (-2))) M) ∧ (¬ (1 : Int32) = 0 → mx g (d + 5) kX2_hasSpan 0 [.ref 5, .int (p1)] [] M _)
  refine ⟨fun z => absurd z (by decide), fun _ => ?_⟩
  refine c_X2_hasSpan (n := M 5 4) rfl (fun k3 _ => ?_) (fun k3 => ?_)
  rotate_left
  · show ((0 : Int32) = 0 → Q (some (.int (-2))) M) ∧ (¬ (0 : Int32) = 0 → mx g (d + 5) kX7_has 0 [.ref 1, .int (p2)] [] M _)
    exact ⟨fun _ => hbad (by unfold spanP at k3; omega), fun z => absurd rfl z⟩
  show ((1 : Int32) = 0 → Q (some (.int (-2))) M) ∧ (¬ (1 : Int32) = 0 → mx g (d + 5) kX7_has 0 [.ref 1, .int (p2)] [] M _)
  refine ⟨fun z => absurd z (by decide), fun _ => ?_⟩
  refine c_X7_has (n := M 1 3) rfl (fun k4 k5 => ?_) (fun k4 => ?_)
  rotate_left
  · show (¬ (0 : Int32) = 0 → ((p3 : Int32) < 0 → Q (some (.int (-2))) M) ∧ (¬ (p3 : Int32) < 0 → ((p3 : Int32) ≤ (2 : Int32) → (¬ (100 : Int32) = 0) ∧ (¬ (100 : Int32) = 0) ∧ mx g (d + 5) kX10_go 0 [.ref 25, .int (p0), .int ((p1 / 100)), .int ((p1 - p1 / 100 * 100)), .null, .null] [] M _) ∧ (¬ (p3 : Int32) ≤ (2 : Int32) → Q (some (.int (-2))) M))) ∧ ((0 : Int32) = 0 → Q (some (.int (-2))) M)
    exact ⟨fun z => absurd rfl z, fun _ => hbad (by omega)⟩
  show (¬ (1 : Int32) = 0 → ((p3 : Int32) < 0 → Q (some (.int (-2))) M) ∧ (¬ (p3 : Int32) < 0 → ((p3 : Int32) ≤ (2 : Int32) → (¬ (100 : Int32) = 0) ∧ (¬ (100 : Int32) = 0) ∧ mx g (d + 5) kX10_go 0 [.ref 25, .int (p0), .int ((p1 / 100)), .int ((p1 - p1 / 100 * 100)), .null, .null] [] M _) ∧ (¬ (p3 : Int32) ≤ (2 : Int32) → Q (some (.int (-2))) M))) ∧ ((1 : Int32) = 0 → Q (some (.int (-2))) M)
  refine ⟨fun _ => ?_, fun z => absurd z (by decide)⟩
  unfold spanP at k3
  refine ⟨fun q => hbad (by rw [n_lt, n_0] at q; omega), fun q => ⟨fun r => ⟨by decide, by decide, ?_⟩, fun r => hbad (by rw [n_le, f2] at r; omega)⟩⟩
  rw [n_lt, n_0] at q
  rw [n_le, f2] at r
  have ed := div100 (x := p1) k3.1
  have em := rem100 (x := p1) k3.1
  refine c_X10_go hR5 k1 (by omega) (by omega) (by omega) (by omega) (fun M' hf he => ?_)
  rw [ed, em] at he
  have hi := he p2.toNatClampNeg (by rw [n_cl]; omega)
  have pin : vp_in p2 10 := n_in k4 (by omega)
  have good := hq _ M' (fr_sub hf (by decide)) (Or.inl ⟨by omega, rfl⟩)
  show (¬ (p3 : Int32) = 0 → (¬ (p3 : Int32) = (1 : Int32) → vp_in p2 10 ∧ Q (some (.int ((M' 28) (Int32.toNatClampNeg p2)))) M') ∧ ((p3 : Int32) = (1 : Int32) → vp_in p2 10 ∧ Q (some (.int ((M' 26) (Int32.toNatClampNeg p2)))) M')) ∧ ((p3 : Int32) = 0 → vp_in p2 10 ∧ Q (some (.int ((M' 27) (Int32.toNatClampNeg p2)))) M')
  refine ⟨fun t => ⟨fun u => ⟨pin, ?_⟩, fun u => ⟨pin, ?_⟩⟩, fun t => ⟨pin, ?_⟩⟩
  · rw [if_neg t, if_neg u] at good
    rw [show M' 28 p2.toNatClampNeg = _ from hi.2.2.1]
    exact good
  · rw [if_neg t, if_pos u] at good
    rw [show M' 26 p2.toNatClampNeg = _ from hi.1]
    exact good
  · rw [if_pos t] at good
    rw [show M' 27 p2.toNatClampNeg = _ from hi.2.1]
    exact good
theorem m_run {g : zq_G} {d : Nat} {M : zq_M} {Q : Option Value → zq_M → Prop} {p0 p1 p2 p3 : Int32} (hR : RR M) (hq : ∀ (v : Int32) (M' : zq_M), fr (fL sL) M M' → F_run p0 p1 p2 p3 M v → Q (some (.int v)) M') : mx g (d + 6) kX12_run 0 [.ref 48, .int p0, .int p1, .int p2, .int p3] [] M Q := by
  have hR5 := RR_5 hR
  have hV : M 48 27 = -1 := hR.2.2.2.2.2.2.2.2.2
  obtain ⟨hS, hN, hH, hT, hX⟩ := id hR5
  have s1 := hS.1
  have s4 := hS.2.2.2.1
  have s5 := hS.2.2.2.2.1
  have a1 := hN.1
  have a6 := hN.2.2.2.2.2.1
  have a7 := hN.2.2.2.2.2.2.1
  have h1 := hH.1
  have h4 := hH.2.2.2.1
  have h5 := hH.2.2.2.2.1
  have f2 : (2 : Int32).toInt = 2 := rfl
  unfold F_run at hq
  have hbad : ¬ (inR p0.toInt (M 10 2).toInt ∧ spanP (M 5 4).toInt p1.toInt ∧ inR p2.toInt (M 1 3).toInt ∧ inR p3.toInt 3) → Q (some (.int (-2))) M := fun z => hq _ M fr_rfl (Or.inr ⟨z, rfl⟩)
  unfold inR spanP at *
  refine mx_go 250 zq_t189 ?_
  show mx g (d + 5) kX12_isHow 0 [.ref 48, .int (p0)] [] M _
  refine c_X12_isHow (n := M 10 2) h1 h4 (fun k1 k2 => ?_) (fun k1 => ?_)
  rotate_left
  · show ((0 : Int32) = 0 → Q (some (.int (-2))) M) ∧ (¬ (0 : Int32) = 0 → mx g (d + 5) kX12_isRow 0 [.ref 48, .int (p1)] [] M _)
    exact ⟨fun _ => hbad (by omega), fun z => absurd rfl z⟩
  show ((1 : Int32) = 0 → Q (some (.int (-2))) M) ∧ (¬ (1 : Int32) = 0 → mx g (d + 5) kX12_isRow 0 [.ref 48, .int (p1)] [] M _)
  refine ⟨fun z => absurd z (by decide), fun _ => ?_⟩
  refine c_X12_isRow (n := M 5 4) a1 a6 a7 (fun k3 _ => ?_) (fun k3 => ?_)
  rotate_left
  · show ((0 : Int32) = 0 → Q (some (.int (-2))) M) ∧ (¬ (0 : Int32) = 0 → mx g (d + 5) kX12_isStone 0 [.ref 48, .int (p2)] [] M _)
    exact ⟨fun _ => hbad (by unfold spanP at k3; omega), fun z => absurd rfl z⟩
  show ((1 : Int32) = 0 → Q (some (.int (-2))) M) ∧ (¬ (1 : Int32) = 0 → mx g (d + 5) kX12_isStone 0 [.ref 48, .int (p2)] [] M _)
  refine ⟨fun z => absurd z (by decide), fun _ => ?_⟩
  refine c_X12_isStone (n := M 1 3) s1 s4 (fun k4 k5 => ?_) (fun k4 => ?_)
  rotate_left
  · show ((0 : Int32) = 0 → Q (some (.int (-2))) M) ∧ (¬ (0 : Int32) = 0 → mx g (d + 5) kX12_in 0 [.ref 48, .int (p3), .int (0), .int (2)] [] M _)
    exact ⟨fun _ => hbad (by omega), fun z => absurd rfl z⟩
  show ((1 : Int32) = 0 → Q (some (.int (-2))) M) ∧ (¬ (1 : Int32) = 0 → mx g (d + 5) kX12_in 0 [.ref 48, .int (p3), .int (0), .int (2)] [] M _)
  refine ⟨fun z => absurd z (by decide), fun _ => ?_⟩
  refine c_X12_in (fun q r => ?_) (fun q => ?_)
  rotate_left
  · show (¬ (0 : Int32) = 0 → mx g (d + 5) kX12_goRow 0 [.ref 48, .int (p0), .int (p1), .null] [] M _) ∧ ((0 : Int32) = 0 → Q (some (.int (-2))) M)
    exact ⟨fun z => absurd rfl z, fun _ => hbad (by rw [n_0, f2] at q; omega)⟩
  show (¬ (1 : Int32) = 0 → mx g (d + 5) kX12_goRow 0 [.ref 48, .int (p0), .int (p1), .null] [] M _) ∧ ((1 : Int32) = 0 → Q (some (.int (-2))) M)
  refine ⟨fun _ => ?_, fun z => absurd z (by decide)⟩
  unfold spanP at k3
  rw [n_0] at q
  rw [f2] at r
  have ed := div100 (x := p1) k3.1
  have em := rem100 (x := p1) k3.1
  refine c_X12_goRow hR5 hV k1 (by omega) rfl rfl (by omega) (by omega) (by omega) (fun M' hf he => ?_)
  rw [ed, em] at he
  have hi := he p2.toNatClampNeg (by rw [n_cl]; omega)
  have pin : vp_in p2 10 := n_in k4 (by omega)
  have good := hq _ M' (fr_sub hf (by decide)) (Or.inl ⟨by omega, rfl⟩)
  show (¬ (p3 : Int32) = 0 → (¬ (p3 : Int32) = (1 : Int32) → vp_in p2 10 ∧ Q (some (.int ((M' 65) (Int32.toNatClampNeg p2)))) M') ∧ ((p3 : Int32) = (1 : Int32) → vp_in p2 10 ∧ Q (some (.int ((M' 63) (Int32.toNatClampNeg p2)))) M')) ∧ ((p3 : Int32) = 0 → vp_in p2 10 ∧ Q (some (.int ((M' 64) (Int32.toNatClampNeg p2)))) M')
  refine ⟨fun t => ⟨fun u => ⟨pin, ?_⟩, fun u => ⟨pin, ?_⟩⟩, fun t => ⟨pin, ?_⟩⟩
  · rw [if_neg t, if_neg u] at good
    rw [show M' 65 p2.toNatClampNeg = _ from hi.2.2.1]
    exact good
  · rw [if_neg t, if_pos u] at good
    rw [show M' 63 p2.toNatClampNeg = _ from hi.1]
    exact good
  · rw [if_pos t] at good
    rw [show M' 64 p2.toNatClampNeg = _ from hi.2.1]
    exact good
theorem op_run {g : zq_G} {d : Nat} {M : zq_M} {p0 p1 p2 p3 : Int32} (hR : RR M) : pri g (d + 6) kX11_run kX12_run [.ref 0, .int p0, .int p1, .int p2, .int p3] [.ref 48, .int p0, .int p1, .int p2, .int p3] M := by
  refine q_op (F_run p0 p1 p2 p3) hR (fun M' v v' hf h h' => ?_) (fun Q hq => x_run hR hq) (fun M' Q hR' hq => m_run hR' hq)
  unfold F_run at h h'
  rw [ruW_fr hf, hf 10 2 rfl, hf 5 4 rfl, hf 1 3 rfl] at h'
  exact orB_un h h' Iff.rfl (fun _ => rfl)
