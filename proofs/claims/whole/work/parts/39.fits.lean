theorem n_pr0 {m : Int32} (h : 0 ≤ m.toInt) : (m - 1).toInt = m.toInt - 1 := by
  have := n_rng m
  rw [n_sub, n_1, zw_id (by omega) (by omega)]
/-- the class's run over all nights -/
theorem c_go_all {g : zq_G} {d : Nat} {M : zq_M} {Q : Option Value → zq_M → Prop} {h : Int32} (hR : R5 M) (a1 : 0 ≤ h.toInt) (a2 : h.toInt < 8) (hq : ∀ M' : zq_M, fr (fL [16, 17, 26, 27, 28, 29]) M M' → eqW (M 1 3).toInt (arX M') (gR M (M 3) h 0 (M 5 4).toInt.toNat) → Q none M') : mx g (d + 5) kX10_go 0 [.ref 25, .int h, .int 0, .int (M 5 4 - 1), .null, .null] [] M Q := by
  obtain ⟨hS, hN, hH, hT, hX⟩ := id hR
  have n6 := hN.2.2.2.2.2.1
  have n7 := hN.2.2.2.2.2.2.1
  have e := n_pr0 n6
  refine c_X10_go hR a1 a2 (by decide) (by rw [n_0, e]; omega) (by rw [e]; omega) (fun M' hf he => hq M' hf ?_)
  rw [e, n_0, show ((M 5 4).toInt - 1 + 1 - 0).toNat = (M 5 4).toInt.toNat by omega] at he
  exact he
def abZ (a b : Int) : Int := if b ≤ a then a - b else b - a
theorem abZ_b {a b : Int} (a1 : 0 ≤ a) (b1 : 0 ≤ b) : 0 ≤ abZ a b ∧ abZ a b ≤ a + b := by
  unfold abZ
  split <;> omega
def fitI (l w t u : Int) : Int := if 1 ≤ 9 - abZ l w - 3 * abZ t u then 9 - abZ l w - 3 * abZ t u else 1
theorem fitI_b {l w t u : Int} (l1 : 0 ≤ l) (w1 : 0 ≤ w) (t1 : 0 ≤ t) (u1 : 0 ≤ u) : 1 ≤ fitI l w t u ∧ fitI l w t u ≤ 9 := by
  have h1 := abZ_b l1 w1
  have h2 := abZ_b t1 u1
  unfold fitI
  split <;> omega
def abJ (a b : Int32) : Int32 := if 0 ≤ a - b then a - b else 0 - (a - b)
def apJ (a b : Int32) : Int32 := if b ≤ a then a - b else b - a
theorem abJ_t {a b : Int32} (a1 : 0 ≤ a.toInt) (a2 : a.toInt ≤ 5000) (b1 : 0 ≤ b.toInt) (b2 : b.toInt ≤ 5000) : (abJ a b).toInt = abZ a.toInt b.toInt := by
  have e : (a - b).toInt = a.toInt - b.toInt := by rw [n_sub, zw_id (by omega) (by omega)]
  unfold abJ abZ
  split
  · next z => rw [n_le, n_0, e] at z; rw [if_pos (by omega), e]
  · next z => rw [n_le, n_0, e] at z; rw [if_neg (by omega), n_sub, n_0, e, zw_id (by omega) (by omega)]; omega
theorem apJ_t {a b : Int32} (a1 : 0 ≤ a.toInt) (a2 : a.toInt ≤ 5000) (b1 : 0 ≤ b.toInt) (b2 : b.toInt ≤ 5000) : (apJ a b).toInt = abZ a.toInt b.toInt := by
  unfold apJ abZ
  split
  · next z => rw [n_le] at z; rw [if_pos z, n_sub, zw_id (by omega) (by omega)]
  · next z => rw [n_le] at z; rw [if_neg z, n_sub, zw_id (by omega) (by omega)]
theorem fit_num {A B : Int32} {a b : Int} (ha : A.toInt = a) (hb : B.toInt = b) (a1 : 0 ≤ a) (a2 : a ≤ 10000) (b1 : 0 ≤ b) (b2 : b ≤ 10000) : (9 - A - 3 * B).toInt = 9 - a - 3 * b := by
  have e9 : (9 : Int32).toInt = 9 := rfl
  have e3 : (3 : Int32).toInt = 3 := rfl
  rw [n_sub, n_sub, n_mul, e9, e3, ha, hb, zw_id (z := 9 - a) (by omega) (by omega), zw_id (z := 3 * b) (by omega) (by omega), zw_id (by omega) (by omega)]
theorem c_X11_fitOfWalk {g : zq_G} {d : Nat} {M : zq_M} {Q : Option Value → zq_M → Prop} {t s : Int32} (tin : vp_in t 24) (hs : M 31 t.toNatClampNeg = s) (sin : vp_in s 10) (l1 : 0 ≤ (M 32 t.toNatClampNeg).toInt) (l2 : (M 32 t.toNatClampNeg).toInt ≤ 5000) (w1 : 0 ≤ (M 27 s.toNatClampNeg).toInt) (w2 : (M 27 s.toNatClampNeg).toInt ≤ 5000) (t1 : 0 ≤ (M 33 t.toNatClampNeg).toInt) (t2 : (M 33 t.toNatClampNeg).toInt ≤ 5000) (u1 : 0 ≤ (M 28 s.toNatClampNeg).toInt) (u2 : (M 28 s.toNatClampNeg).toInt ≤ 5000) (hq : ∀ v : Int32, v.toInt = fitI (M 32 t.toNatClampNeg).toInt (M 27 s.toNatClampNeg).toInt (M 33 t.toNatClampNeg).toInt (M 28 s.toNatClampNeg).toInt → Q (some (.int v)) M) : mx g (d + 1) kX11_fitOfWalk 0 [.ref 0, .int t, .null, .null, .null] [] M Q := by
  subst hs
  refine mx_go 250 zq_t134 ?_
  show vp_in t 24 ∧ vp_in t 24 ∧ vp_in ((M 31) (Int32.toNatClampNeg t)) 10 ∧ vp_in t 24 ∧ vp_in ((M 31) (Int32.toNatClampNeg t)) 10 ∧ Q (some (.int (if 1 < ((9 - (if 0 ≤ (((M 32) (Int32.toNatClampNeg t)) - ((M 27) (Int32.toNatClampNeg ((M 31) (Int32.toNatClampNeg t))))) then (((M 32) (Int32.toNatClampNeg t)) - ((M 27) (Int32.toNatClampNeg ((M 31) (Int32.toNatClampNeg t))))) else 0 - (((M 32) (Int32.toNatClampNeg t)) - ((M 27) (Int32.toNatClampNeg ((M 31) (Int32.toNatClampNeg t))))))) - (3 * (if 0 ≤ (((M 33) (Int32.toNatClampNeg t)) - ((M 28) (Int32.toNatClampNeg ((M 31) (Int32.toNatClampNeg t))))) then (((M 33) (Int32.toNatClampNeg t)) - ((M 28) (Int32.toNatClampNeg ((M 31) (Int32.toNatClampNeg t))))) else 0 - (((M 33) (Int32.toNatClampNeg t)) - ((M 28) (Int32.toNatClampNeg ((M 31) (Int32.toNatClampNeg t)))))))) then ((9 - (if 0 ≤ (((M 32) (Int32.toNatClampNeg t)) - ((M 27) (Int32.toNatClampNeg ((M 31) (Int32.toNatClampNeg t))))) then (((M 32) (Int32.toNatClampNeg t)) - ((M 27) (Int32.toNatClampNeg ((M 31) (Int32.toNatClampNeg t))))) else 0 - (((M 32) (Int32.toNatClampNeg t)) - ((M 27) (Int32.toNatClampNeg ((M 31) (Int32.toNatClampNeg t))))))) - (3 * (if 0 ≤ (((M 33) (Int32.toNatClampNeg t)) - ((M 28) (Int32.toNatClampNeg ((M 31) (Int32.toNatClampNeg t))))) then (((M 33) (Int32.toNatClampNeg t)) - ((M 28) (Int32.toNatClampNeg ((M 31) (Int32.toNatClampNeg t))))) else 0 - (((M 33) (Int32.toNatClampNeg t)) - ((M 28) (Int32.toNatClampNeg ((M 31) (Int32.toNatClampNeg t)))))))) else 1))) M
  refine ⟨tin, tin, sin, tin, sin, hq _ ?_⟩
  have e1 := abJ_t l1 l2 w1 w2
  have e2 := abJ_t t1 t2 u1 u2
  have b1 := abZ_b l1 w1
  have b2 := abZ_b t1 u1
  show (if 1 < 9 - abJ (M 32 t.toNatClampNeg) (M 27 (M 31 t.toNatClampNeg).toNatClampNeg) - 3 * abJ (M 33 t.toNatClampNeg) (M 28 (M 31 t.toNatClampNeg).toNatClampNeg) then 9 - abJ (M 32 t.toNatClampNeg) (M 27 (M 31 t.toNatClampNeg).toNatClampNeg) - 3 * abJ (M 33 t.toNatClampNeg) (M 28 (M 31 t.toNatClampNeg).toNatClampNeg) else 1).toInt = _
  have e3 := fit_num e1 e2 b1.1 (by omega) b2.1 (by omega)
  generalize 9 - abJ (M 32 t.toNatClampNeg) (M 27 (M 31 t.toNatClampNeg).toNatClampNeg) - 3 * abJ (M 33 t.toNatClampNeg) (M 28 (M 31 t.toNatClampNeg).toNatClampNeg) = v at e3 ⊢
  unfold fitI
  split
  · next z => rw [n_lt, n_1, e3] at z; rw [if_pos (by omega), e3]
  · next z =>
    rw [n_lt, n_1, e3] at z
    rw [n_1]
    split <;> omega
theorem c_X12_apart {g : zq_G} {d : Nat} {M : zq_M} {Q : Option Value → zq_M → Prop} {a b : Int32} (hq : Q (some (.int (apJ a b))) M) : mx g d kX12_apart 0 [.ref 48, .int a, .int b] [] M Q := by
  unfold apJ at hq
  refine mx_go 40 zq_t193 ?_
  show ((b : Int32) ≤ (a : Int32) → Q (some (.int (a - b))) M) ∧ (¬ (b : Int32) ≤ (a : Int32) → Q (some (.int (b - a))) M)
  refine ⟨fun q => ?_, fun q => ?_⟩
  · rw [if_pos q] at hq; exact hq
  · rw [if_neg q] at hq; exact hq
theorem c_X12_fitting {g : zq_G} {d : Nat} {M : zq_M} {Q : Option Value → zq_M → Prop} {t s : Int32} (tin : vp_in t 24) (hs : M 67 t.toNatClampNeg = s) (sin : vp_in s 10) (l1 : 0 ≤ (M 68 t.toNatClampNeg).toInt) (l2 : (M 68 t.toNatClampNeg).toInt ≤ 5000) (w1 : 0 ≤ (M 64 s.toNatClampNeg).toInt) (w2 : (M 64 s.toNatClampNeg).toInt ≤ 5000) (t1 : 0 ≤ (M 69 t.toNatClampNeg).toInt) (t2 : (M 69 t.toNatClampNeg).toInt ≤ 5000) (u1 : 0 ≤ (M 65 s.toNatClampNeg).toInt) (u2 : (M 65 s.toNatClampNeg).toInt ≤ 5000) (hq : ∀ v : Int32, v.toInt = fitI (M 68 t.toNatClampNeg).toInt (M 64 s.toNatClampNeg).toInt (M 69 t.toNatClampNeg).toInt (M 65 s.toNatClampNeg).toInt → Q (some (.int v)) M) : mx g (d + 1) kX12_fitting 0 [.ref 48, .int t, .null, .null] [] M Q := by
  subst hs
  refine mx_go 250 zq_t197 ?_
  show vp_in t 24 ∧ vp_in t 24 ∧ vp_in ((M 67) (Int32.toNatClampNeg t)) 10 ∧ mx g (d) kX12_apart 0 [.ref 48, .int (((M 68) (Int32.toNatClampNeg t))), .int (((M 64) (Int32.toNatClampNeg ((M 67) (Int32.toNatClampNeg t)))))] [] M _
  refine ⟨tin, tin, sin, ?_⟩
  have e1 := apJ_t l1 l2 w1 w2
  have e2 := apJ_t t1 t2 u1 u2
  have b1 := abZ_b l1 w1
  have b2 := abZ_b t1 u1
  refine c_X12_apart ?_
  show vp_in t 24 ∧ vp_in (M 67 t.toNatClampNeg) 10 ∧ mx g (d) kX12_apart 0 [.ref 48, .int (((M 69) (Int32.toNatClampNeg t))), .int (((M 65) (Int32.toNatClampNeg (M 67 t.toNatClampNeg))))] [] M _
  refine ⟨tin, sin, ?_⟩
  refine c_X12_apart ?_
  show ((1 : Int32) ≤ (((9 - apJ (M 68 t.toNatClampNeg) (M 64 (M 67 t.toNatClampNeg).toNatClampNeg)) - (3 * (apJ (M 69 t.toNatClampNeg) (M 65 (M 67 t.toNatClampNeg).toNatClampNeg)))) : Int32) → Q (some (.int ((9 - apJ (M 68 t.toNatClampNeg) (M 64 (M 67 t.toNatClampNeg).toNatClampNeg)) - (3 * (apJ (M 69 t.toNatClampNeg) (M 65 (M 67 t.toNatClampNeg).toNatClampNeg)))))) M) ∧ (¬ (1 : Int32) ≤ (((9 - apJ (M 68 t.toNatClampNeg) (M 64 (M 67 t.toNatClampNeg).toNatClampNeg)) - (3 * (apJ (M 69 t.toNatClampNeg) (M 65 (M 67 t.toNatClampNeg).toNatClampNeg)))) : Int32) → Q (some (.int 1)) M)
  have e3 := fit_num e1 e2 b1.1 (by omega) b2.1 (by omega)
  generalize 9 - apJ (M 68 t.toNatClampNeg) (M 64 (M 67 t.toNatClampNeg).toNatClampNeg) - 3 * apJ (M 69 t.toNatClampNeg) (M 65 (M 67 t.toNatClampNeg).toNatClampNeg) = v at e3 ⊢
  unfold fitI at hq
  refine ⟨fun z => hq _ ?_, fun z => hq _ ?_⟩
  · rw [n_le, n_1, e3] at z
    rw [if_pos z, e3]
  · rw [n_le, n_1, e3] at z
    rw [if_neg z, n_1]
/-- what track t fits how h -/
def fitM (M : zq_M) (h : Int32) (t : Nat) : Int := fitI (M 32 t).toInt ((gR M (M 3) h 0 (M 5 4).toInt.toNat).2.1 (M 31 t).toNatClampNeg).toInt (M 33 t).toInt ((gR M (M 3) h 0 (M 5 4).toInt.toNat).2.2.1 (M 31 t).toNatClampNeg).toInt
theorem fitM_fr {M M' : zq_M} {h : Int32} {t : Nat} (hf : fr (fL sL) M M') : fitM M' h t = fitM M h t := by
  unfold fitM
  rw [gR_fr hf, fr_ar hf 3 (fun _ => rfl), fr_ar hf 31 (fun _ => rfl), fr_ar hf 32 (fun _ => rfl), fr_ar hf 33 (fun _ => rfl), hf 5 4 rfl]
theorem gRb {M : zq_M} {p : Nat → Int32} {h : Int32} {i : Nat} (hR : R5p M p) (hi : (i : Int) < (M 1 3).toInt) : (0 ≤ ((gR M p h 0 (M 5 4).toInt.toNat).1 i).toInt ∧ ((gR M p h 0 (M 5 4).toInt.toNat).1 i).toInt ≤ 4095) ∧ (0 ≤ ((gR M p h 0 (M 5 4).toInt.toNat).2.1 i).toInt ∧ ((gR M p h 0 (M 5 4).toInt.toNat).2.1 i).toInt ≤ 4000) ∧ 0 ≤ ((gR M p h 0 (M 5 4).toInt.toNat).2.2.1 i).toInt ∧ ((gR M p h 0 (M 5 4).toInt.toNat).2.2.1 i).toInt ≤ 100 := by
  have n7 := hR.2.1.2.2.2.2.2.2.1
  have := okR (h := h) (a := 0) hR (M 5 4).toInt.toNat (by omega) i hi
  rw [bS_0] at this
  omega
theorem fitM_b {M : zq_M} {h : Int32} {t : Nat} (hR : R5 M) (ht : (t : Int) < (M 30 7).toInt) : 1 ≤ fitM M h t ∧ fitM M h t ≤ 9 := by
  obtain ⟨hS, hN, hH, hT, hX⟩ := id hR
  obtain ⟨t1, t2, t3, t4, t5, t6, t7, t8, t9, t10, t11, t12, t13, t14, t15, t16, t17⟩ := id hT
  have a := t12 t ht
  have r := gRb (h := h) (i := (M 31 t).toNatClampNeg) hR (by rw [n_cl]; omega)
  exact fitI_b (t13 t).1 r.2.1.1 (t14 t).1 r.2.2.1
/-- behind the class's run a track's fit -/
theorem c_fitX {g : zq_G} {d : Nat} {M : zq_M} {Q : Option Value → zq_M → Prop} {M0 : zq_M} {h t : Int32} (hR : R5 M0) (hf : fr (fL sL) M0 M) (he : eqW (M0 1 3).toInt (arX M) (gR M0 (M0 3) h 0 (M0 5 4).toInt.toNat)) (t1 : 0 ≤ t.toInt) (t2 : t.toInt < (M0 30 7).toInt) (hq : ∀ v : Int32, v.toInt = fitM M0 h t.toInt.toNat → Q (some (.int v)) M) : mx g (d + 1) kX11_fitOfWalk 0 [.ref 0, .int t, .null, .null, .null] [] M Q := by
  obtain ⟨hS, hN, hH, hT, hX⟩ := id hR
  have s5 := hS.2.2.2.2.1
  obtain ⟨u1, u2, u3, u4, u5, u6, u7, u8, u9, u10, u11, u12, u13, u14, u15, u16, u17⟩ := id hT
  have a := u12 t.toInt.toNat (by omega)
  have ia : ((M0 31 t.toInt.toNat).toNatClampNeg : Int) < (M0 1 3).toInt := by rw [n_cl]; omega
  have r := gRb (h := h) (i := (M0 31 t.toInt.toNat).toNatClampNeg) hR ia
  have e := he (M0 31 t.toInt.toNat).toNatClampNeg ia
  have b1 := u13 t.toInt.toNat
  have b2 := u14 t.toInt.toNat
  have g1 : M 27 (M0 31 t.toInt.toNat).toNatClampNeg = _ := e.2.1
  have g2 : M 28 (M0 31 t.toInt.toNat).toNatClampNeg = _ := e.2.2.1
  have f31 := fr_ar hf 31 (fun _ => rfl)
  have f32 := fr_ar hf 32 (fun _ => rfl)
  have f33 := fr_ar hf 33 (fun _ => rfl)
  unfold fitM at hq
  rw [← g1, ← g2, ← f32, ← f33] at hq
  refine c_X11_fitOfWalk (s := M0 31 t.toInt.toNat) (n_in t1 (by omega)) (by rw [f31]; rfl) (n_in a.1 (by omega)) ?_ ?_ ?_ ?_ ?_ ?_ ?_ ?_ hq
  · rw [f32]; exact b1.1
  · rw [f32]; have := b1.2; show (M0 32 t.toInt.toNat).toInt ≤ _; omega
  · rw [g1]; exact r.2.1.1
  · rw [g1]; have := r.2.1.2; omega
  · rw [f33]; exact b2.1
  · rw [f33]; have := b2.2; show (M0 33 t.toInt.toNat).toInt ≤ _; omega
  · rw [g2]; exact r.2.2.1
  · rw [g2]; have := r.2.2.2; omega
theorem c_fitR {g : zq_G} {d : Nat} {M : zq_M} {Q : Option Value → zq_M → Prop} {M0 : zq_M} {h t : Int32} (hR : R5 M0) (hf : fr (fL sL) M0 M) (he : eqW (M0 1 3).toInt (arM M) (gR M0 (M0 3) h 0 (M0 5 4).toInt.toNat)) (t1 : 0 ≤ t.toInt) (t2 : t.toInt < (M0 30 7).toInt) (hq : ∀ v : Int32, v.toInt = fitM M0 h t.toInt.toNat → Q (some (.int v)) M) : mx g (d + 1) kX12_fitting 0 [.ref 48, .int t, .null, .null] [] M Q := by
  obtain ⟨hS, hN, hH, hT, hX⟩ := id hR
  have s5 := hS.2.2.2.2.1
  obtain ⟨u1, u2, u3, u4, u5, u6, u7, u8, u9, u10, u11, u12, u13, u14, u15, u16, u17⟩ := id hT
  have a := u12 t.toInt.toNat (by omega)
  have ia : ((M0 31 t.toInt.toNat).toNatClampNeg : Int) < (M0 1 3).toInt := by rw [n_cl]; omega
  have r := gRb (h := h) (i := (M0 31 t.toInt.toNat).toNatClampNeg) hR ia
  have e := he (M0 31 t.toInt.toNat).toNatClampNeg ia
  have b1 := u13 t.toInt.toNat
  have b2 := u14 t.toInt.toNat
  have g1 : M 64 (M0 31 t.toInt.toNat).toNatClampNeg = _ := e.2.1
  have g2 : M 65 (M0 31 t.toInt.toNat).toNatClampNeg = _ := e.2.2.1
  have f31 := (fr_ar hf 67 (fun _ => rfl)).trans u3
  have f32 := (fr_ar hf 68 (fun _ => rfl)).trans u4
  have f33 := (fr_ar hf 69 (fun _ => rfl)).trans u5
  unfold fitM at hq
  rw [← g1, ← g2, ← f32, ← f33] at hq
  refine c_X12_fitting (s := M0 31 t.toInt.toNat) (n_in t1 (by omega)) (by rw [f31]; rfl) (n_in a.1 (by omega)) ?_ ?_ ?_ ?_ ?_ ?_ ?_ ?_ hq
  · rw [f32]; exact b1.1
  · rw [f32]; have := b1.2; show (M0 32 t.toInt.toNat).toInt ≤ _; omega
  · rw [g1]; exact r.2.1.1
  · rw [g1]; have := r.2.1.2; omega
  · rw [f33]; exact b2.1
  · rw [f33]; have := b2.2; show (M0 33 t.toInt.toNat).toInt ≤ _; omega
  · rw [g2]; exact r.2.2.1
  · rw [g2]; have := r.2.2.2; omega

def F_fits (p0 p1 : Int32) (M : zq_M) (v : Int32) : Prop := orB (inR p0.toInt (M 30 7).toInt ∧ inR p1.toInt (M 10 2).toInt) (nZ (fitM M p1 p0.toInt.toNat)) (-2) v
theorem x_fits {g : zq_G} {d : Nat} {M : zq_M} {Q : Option Value → zq_M → Prop} {p0 p1 : Int32} (hR : RR M) (hq : ∀ (v : Int32) (M' : zq_M), fr (fL sL) M M' → F_fits p0 p1 M v → Q (some (.int v)) M') : mx g (d + 6) kX11_fits 0 [.ref 0, .int p0, .int p1] [] M Q := by
  have hR5 := RR_5 hR
  obtain ⟨hS, hN, hH, hT, hX⟩ := id hR5
  have s4 := hS.2.2.2.1
  have s5 := hS.2.2.2.2.1
  have n6 := hN.2.2.2.2.2.1
  have n7 := hN.2.2.2.2.2.2.1
  have h4 := hH.2.2.2.1
  have h5 := hH.2.2.2.2.1
  unfold F_fits at hq
  have hbad : ¬ (inR p0.toInt (M 30 7).toInt ∧ inR p1.toInt (M 10 2).toInt) → Q (some (.int (-2))) M := fun z => hq _ M fr_rfl (Or.inr ⟨z, rfl⟩)
  unfold inR at *
  refine mx_go 250 zq_t105 ?_
  show mx g (d + 5) kX9_has 0 [.ref 30, .int (p0)] [] M _
  refine c_X9_has (n := M 30 7) rfl (fun k1 k2 => ?_) (fun k1 => ?_)
  rotate_left
  · show ((0 : Int32) = 0 → Q (some (.int (-2))) M) ∧ (¬ (0 : Int32) = 0 → mx g (d + 5) kX0_has 0 [.ref 10, .int (p1)] [] M _)
    exact ⟨fun _ => hbad (by omega), fun z => absurd rfl z⟩
  show ((1 : Int32) = 0 → Q (some (.int (-2))) M) ∧ (¬ (1 : Int32) = 0 → mx g (d + 5) kX0_has 0 [.ref 10, .int (p1)] [] M _)
  refine ⟨fun z => absurd z (by decide), fun _ => ?_⟩
  refine c_X0_has (n := M 10 2) rfl (fun k3 k4 => ?_) (fun k3 => ?_)
  rotate_left
  · show (¬ (0 : Int32) = 0 → mx g (d + 5) kX10_go 0 [.ref 25, .int (p1), .int (0), .int (((M 5 4) - 1)), .null, .null] [] M _) ∧ ((0 : Int32) = 0 → Q (some (.int (-2))) M)
    exact ⟨fun z => absurd rfl z, fun _ => hbad (by omega)⟩
  show (¬ (1 : Int32) = 0 → mx g (d + 5) kX10_go 0 [.ref 25, .int (p1), .int (0), .int (((M 5 4) - 1)), .null, .null] [] M _) ∧ ((1 : Int32) = 0 → Q (some (.int (-2))) M)
  refine ⟨fun _ => ?_, fun z => absurd z (by decide)⟩
  refine c_go_all hR5 k3 (by omega) (fun M' hf he => ?_)
  have hfs := fr_sub (l' := sL) hf (by decide)
  show mx g (d + 5) kX11_fitOfWalk 0 [.ref 0, .int (p0), .null, .null, .null] [] M' _
  refine c_fitX hR5 hfs he k1 k2 (fun v hv => ?_)
  show Q (some (.int v)) M'
  exact hq _ M' hfs (Or.inl ⟨by omega, by rw [← hv, nZ_of]⟩)
theorem m_fits {g : zq_G} {d : Nat} {M : zq_M} {Q : Option Value → zq_M → Prop} {p0 p1 : Int32} (hR : RR M) (hq : ∀ (v : Int32) (M' : zq_M), fr (fL sL) M M' → F_fits p0 p1 M v → Q (some (.int v)) M') : mx g (d + 6) kX12_fits 0 [.ref 48, .int p0, .int p1] [] M Q := by
  have hR5 := RR_5 hR
  have hV : M 48 27 = -1 := hR.2.2.2.2.2.2.2.2.2
  obtain ⟨hS, hN, hH, hT, hX⟩ := id hR5
  have s1 := hS.1
  have s4 := hS.2.2.2.1
  have s5 := hS.2.2.2.2.1
  have n1 := hN.1
  have n6 := hN.2.2.2.2.2.1
  have n7 := hN.2.2.2.2.2.2.1
  have h1 := hH.1
  have h4 := hH.2.2.2.1
  have h5 := hH.2.2.2.2.1
  unfold F_fits at hq
  have tr1 := hT.1
  have tr8 := hT.2.2.2.2.2.2.2.1
  have hbad : ¬ (inR p0.toInt (M 30 7).toInt ∧ inR p1.toInt (M 10 2).toInt) → Q (some (.int (-2))) M := fun z => hq _ M fr_rfl (Or.inr ⟨z, rfl⟩)
  unfold inR at *
  refine mx_go 250 zq_t198 ?_
  show mx g (d + 5) kX12_isTrack 0 [.ref 48, .int (p0)] [] M _
  refine c_X12_isTrack (n := M 30 7) tr1 tr8 (fun k1 k2 => ?_) (fun k1 => ?_)
  rotate_left
  · show ((0 : Int32) = 0 → Q (some (.int (-2))) M) ∧ (¬ (0 : Int32) = 0 → mx g (d + 5) kX12_isHow 0 [.ref 48, .int (p1)] [] M _)
    exact ⟨fun _ => hbad (by omega), fun z => absurd rfl z⟩
  show ((1 : Int32) = 0 → Q (some (.int (-2))) M) ∧ (¬ (1 : Int32) = 0 → mx g (d + 5) kX12_isHow 0 [.ref 48, .int (p1)] [] M _)
  refine ⟨fun z => absurd z (by decide), fun _ => ?_⟩
  refine c_X12_isHow (n := M 10 2) h1 h4 (fun k3 k4 => ?_) (fun k3 => ?_)
  rotate_left
  · show (¬ (0 : Int32) = 0 → mx g (d + 5) kX12_goAll 0 [.ref 48, .int (p1), .null] [] M _) ∧ ((0 : Int32) = 0 → Q (some (.int (-2))) M)
    exact ⟨fun z => absurd rfl z, fun _ => hbad (by omega)⟩
  show (¬ (1 : Int32) = 0 → mx g (d + 5) kX12_goAll 0 [.ref 48, .int (p1), .null] [] M _) ∧ ((1 : Int32) = 0 → Q (some (.int (-2))) M)
  refine ⟨fun _ => ?_, fun z => absurd z (by decide)⟩
  refine c_X12_goAll (p := M 3) hR5 hV k3 (by omega) (fun M' hf he => ?_)
  have hfs := fr_sub (l' := sL) hf (by decide)
  show mx g (d + 5) kX12_fitting 0 [.ref 48, .int (p0), .null, .null] [] M' _
  refine c_fitR hR5 hfs he k1 k2 (fun v hv => ?_)
  show Q (some (.int v)) M'
  exact hq _ M' hfs (Or.inl ⟨by omega, by rw [← hv, nZ_of]⟩)
theorem op_fits {g : zq_G} {d : Nat} {M : zq_M} {p0 p1 : Int32} (hR : RR M) : pri g (d + 6) kX11_fits kX12_fits [.ref 0, .int p0, .int p1] [.ref 48, .int p0, .int p1] M := by
  refine q_op (F_fits p0 p1) hR (fun M' v v' hf h h' => ?_) (fun Q hq => x_fits hR hq) (fun M' Q hR' hq => m_fits hR' hq)
  unfold F_fits at h h'
  rw [fitM_fr hf, hf 30 7 rfl, hf 10 2 rfl] at h'
  exact orB_un h h' Iff.rfl (fun _ => rfl)
