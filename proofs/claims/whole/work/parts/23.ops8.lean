theorem n_cp0 {p : Nat → Int32} {k : Nat → Int32} {n : Int} {j : Nat} : va_cpy p k 0 0 n.toNat j = if (j : Int) < n then p j else k j := by
  unfold va_cpy
  by_cases c : (j : Int) < n
  · rw [if_pos (by omega), if_pos c]
    congr 1
    omega
  · rw [if_neg (by omega), if_neg c]
theorem c_X12_image47 {g : zq_G} {d : Nat} {M : zq_M} {Q : Option Value → zq_M → Prop} {n : Int32} {p k : Nat → Int32} (hn : M 48 0 = n) (hp : M 50 = p) (hk : M 74 = k) (b1 : 0 ≤ n.toInt) (b2 : n.toInt ≤ 10) (h : ∀ N : zq_M, (∀ j, N 74 j = if (j : Int) < n.toInt then p j else k j) → Q (some (.int n)) (mv [74] N M)) : mx g d kX12_image 47 [.ref 48, .int 0] [] M Q := by
  subst hn hp hk
  refine mx_wf (fun x : Int32 => [.ref 48, .int x]) (fun x M' => 0 ≤ x.toInt ∧ x.toInt ≤ (M 48 0).toInt ∧ fr (fL [74]) M M' ∧ ∀ j : Nat, M' 74 j = if (j : Int) < x.toInt then M 50 j else M 74 j) (fun x => ((M 48 0).toInt - x.toInt).toNat) ?_ 0 M ⟨by decide, b1, fr_rfl, fun j => by rw [if_neg (by rw [n_0]; omega)]⟩
  intro x M' ⟨i1, i2, i3, i4⟩ ih
  have e5 : M' 48 0 = M 48 0 := i3 48 0 rfl
  have e50 : M' 50 = M 50 := fr_ar i3 50 (fun _ => rfl)
  refine mx_go 60 zq_t220 ?_
  show (((M' 48 0) : Int32) ≤ (x : Int32) → Q (some (.int (M' 48 0))) M') ∧ (¬ ((M' 48 0) : Int32) ≤ (x : Int32) → vp_in x 10 ∧ vp_in x 10 ∧ mx g (d) kX12_image 47 [.ref 48, .int ((x + 1))] [] (zq_ma M' 74 (upd (M' 74) (Int32.toNatClampNeg x) ((M' 50) (Int32.toNatClampNeg x)))) Q)
  refine ⟨fun q => ?_, fun q => ?_⟩
  · rw [n_le, e5] at q
    rw [e5, fr_mv i3]
    refine h M' (fun j => ?_)
    rw [i4 j, show x.toInt = (M 48 0).toInt by omega]
  · rw [n_le, e5] at q
    have e := n_up (n := M 48 0) i1 (by omega)
    refine ⟨n_in i1 (by omega), n_in i1 (by omega), ih (x + 1) _ (by omega) ⟨by omega, by omega, fr_ma i3 (fun _ => rfl), fun j => ?_⟩⟩
    show upd (M' 74) _ _ j = _
    by_cases c : j = x.toNatClampNeg
    · rw [c, upd_eq, e50, if_pos (by rw [n_cl]; omega)]
    · rw [upd_ne c, i4 j]
      rw [n_cl] at c
      by_cases c2 : (j : Int) < x.toInt
      · rw [if_pos c2, if_pos (by omega)]
      · rw [if_neg c2, if_neg (by omega)]
theorem c_X12_back44 {g : zq_G} {d : Nat} {M : zq_M} {Q : Option Value → zq_M → Prop} {n n0 : Int32} {p k : Nat → Int32} (h0 : M 48 0 = n0) (hn : M 48 43 = n) (hp : M 74 = p) (hk : M 50 = k) (b1 : 0 ≤ n.toInt) (b2 : n.toInt ≤ 10) (h : ∀ N : zq_M, (∀ j, N 50 j = if (j : Int) < n.toInt then p j else k j) → Q (some (.int n0)) (mv [50] N M)) : mx g d kX12_back 44 [.ref 48, .int 0] [] M Q := by
  subst h0 hn hp hk
  refine mx_wf (fun x : Int32 => [.ref 48, .int x]) (fun x M' => 0 ≤ x.toInt ∧ x.toInt ≤ (M 48 43).toInt ∧ fr (fL [50]) M M' ∧ ∀ j : Nat, M' 50 j = if (j : Int) < x.toInt then M 74 j else M 50 j) (fun x => ((M 48 43).toInt - x.toInt).toNat) ?_ 0 M ⟨by decide, b1, fr_rfl, fun j => by rw [if_neg (by rw [n_0]; omega)]⟩
  intro x M' ⟨i1, i2, i3, i4⟩ ih
  have e5 : M' 48 43 = M 48 43 := i3 48 43 rfl
  have e6 : M' 48 0 = M 48 0 := i3 48 0 rfl
  have e50 : M' 74 = M 74 := fr_ar i3 74 (fun _ => rfl)
  refine mx_go 60 zq_t221 ?_
  show (((M' 48 43) : Int32) ≤ (x : Int32) → Q (some (.int (M' 48 0))) M') ∧ (¬ ((M' 48 43) : Int32) ≤ (x : Int32) → vp_in x 10 ∧ vp_in x 10 ∧ mx g (d) kX12_back 44 [.ref 48, .int ((x + 1))] [] (zq_ma M' 50 (upd (M' 50) (Int32.toNatClampNeg x) ((M' 74) (Int32.toNatClampNeg x)))) Q)
  refine ⟨fun q => ?_, fun q => ?_⟩
  · rw [n_le, e5] at q
    rw [e6, fr_mv i3]
    refine h M' (fun j => ?_)
    rw [i4 j, show x.toInt = (M 48 43).toInt by omega]
  · rw [n_le, e5] at q
    have e := n_up (n := M 48 43) i1 (by omega)
    refine ⟨n_in i1 (by omega), n_in i1 (by omega), ih (x + 1) _ (by omega) ⟨by omega, by omega, fr_ma i3 (fun _ => rfl), fun j => ?_⟩⟩
    show upd (M' 50) _ _ j = _
    by_cases c : j = x.toNatClampNeg
    · rw [c, upd_eq, e50, if_pos (by rw [n_cl]; omega)]
    · rw [upd_ne c, i4 j]
      rw [n_cl] at c
      by_cases c2 : (j : Int) < x.toInt
      · rw [if_pos c2, if_pos (by omega)]
      · rw [if_neg c2, if_neg (by omega)]
theorem gI_image {i i' s s' r r' t t' c c' p p' : Int32} {k k' : Nat → Int32} {ns nx nt nc np ns' nx' rr rr' nt' nc' np' : Int32} {w w' pl pl' f' co en sg te ma a a' l l' tu tu' o o' u u' xs ys pg : Nat → Int32} (h : gI i i' s s' r r' t t' c c' p p' k k' ns nx nt nc np u) (hS : gS ns ns' w w' pl pl') (hX : gX nx nx' rr rr' co en sg te ma) (hT : gT ns nt nt' nc nc' a a' l l' tu tu' o o' u u') (hP : gP np np' xs ys pg) (hf : ∀ j : Nat, f' j = if (j : Int) < ns'.toInt then pl' j else k' j) : gI 1 1 ns ns' rr rr' nt nt' nc nc' np np' (va_cpy pl k (Int32.toNatClampNeg 0) (Int32.toNatClampNeg 0) ns.toNatClampNeg) f' ns nx nt nc np u := by
  obtain ⟨rfl, rfl, rfl, rfl, rfl, rfl, rfl, i8, i9, i10, i11, i12, i13, i14, i15, i16, i17, i18, i19, i20⟩ := h
  obtain ⟨rfl, rfl, rfl, s4, s5, s6, s7, s8⟩ := hS
  obtain ⟨x1, rfl, x3, x4, x5, x6, x7⟩ := hX
  obtain ⟨rfl, rfl, t3, t4, t5, t6, t7, t8, t9, t10, t11, t12, t13, t14, t15, t16, t17⟩ := hT
  obtain ⟨rfl, p2, p3, p4, p5, p6⟩ := hP
  have e : ∀ j, va_cpy pl' k' (Int32.toNatClampNeg 0) (Int32.toNatClampNeg 0) ns'.toNatClampNeg j = if (j : Int) < ns'.toInt then pl' j else k' j := fun j => n_cp0
  refine ⟨rfl, rfl, rfl, rfl, rfl, rfl, funext fun j => (hf j).trans (e j).symm, Or.inr rfl, s4, Int.le_refl _, x5, x6, t8, Int.le_refl _, t10, Int.le_refl _, p4, Int.le_refl _, fun j => ?_, t17⟩
  rw [e j]
  split
  · exact s7 j
  · exact i19 j
theorem gS_back {n n' s s' : Int32} {w w' p p' k k' f' : Nat → Int32} (h : gS n n' w w' p p') (hs : s' = s) (hk : k' = k) (kb : ∀ j, 0 ≤ (k j).toInt ∧ (k j).toInt ≤ 4095) (hf : ∀ j : Nat, f' j = if (j : Int) < s'.toInt then k' j else p' j) : gS n n' w w' (va_cpy k p (Int32.toNatClampNeg 0) (Int32.toNatClampNeg 0) s.toNatClampNeg) f' := by
  obtain ⟨rfl, rfl, rfl, h4, h5, h6, h7, h8⟩ := h
  subst hs hk
  have e : ∀ j, va_cpy k' p' (Int32.toNatClampNeg 0) (Int32.toNatClampNeg 0) s'.toNatClampNeg j = if (j : Int) < s'.toInt then k' j else p' j := fun j => n_cp0
  refine ⟨rfl, rfl, funext fun j => (hf j).trans (e j).symm, h4, h5, h6, fun i => ?_, h8⟩
  rw [e i]
  split
  · exact kb i
  · exact h7 i
theorem gT_cut {s n n' c c' m q m' q' : Int32} {a a' l l' t t' o o' u u' : Nat → Int32} (h : gT s n n' c c' a a' l l' t t' o o' u u') (hm : m' = m) (hq : q' = q) (m1 : 0 ≤ m.toInt) (m2 : m.toInt ≤ n.toInt) (q1 : 0 ≤ q.toInt) (q2 : q.toInt ≤ c.toInt) (hu : ∀ i : Nat, (i : Int) < q.toInt → (u i).toInt < m.toInt) : gT s m m' q q' a a' l l' t t' o o' u u' := by
  obtain ⟨rfl, rfl, h3, h4, h5, h6, h7, h8, h9, h10, h11, h12, h13, h14, h15, h16, h17⟩ := h
  subst hm hq
  exact ⟨rfl, rfl, h3, h4, h5, h6, h7, m1, by omega, q1, by omega, fun i hi => h12 i (by omega), h13, h14, h15, h16, hu⟩
theorem gP_cut {n n' m m' : Int32} {x y p : Nat → Int32} (h : gP n n' x y p) (hm : m' = m) (m1 : 0 ≤ m.toInt) (m2 : m.toInt ≤ n.toInt) : gP m m' x y p := by
  obtain ⟨rfl, h2, h3, h4, h5, h6⟩ := h
  subst hm
  exact ⟨rfl, h2, h3, m1, by omega, h6⟩
theorem gX_back {n n' r r' q q' : Int32} {co en sg te ma : Nat → Int32} (h : gX n n' r r' co en sg te ma) (hq : q' = q) (h1 : 0 ≤ q.toInt) (h2 : q.toInt < n.toInt) : gX n n' q q' co en sg te ma := by
  obtain ⟨x1, x2, x3, x4, x5, x6, x7⟩ := h
  exact ⟨x1, hq, x3, x4, h1, h2, x7⟩
theorem gI_back {i i' s s' r r' t t' c c' p p' : Int32} {k k' : Nat → Int32} {ns nx nt nc np : Int32} {u : Nat → Int32} (h : gI i i' s s' r r' t t' c c' p p' k k' ns nx nt nc np u) : gI i i' s s' r r' t t' c c' p p' k k' ns nx t c p u := by
  obtain ⟨i1, i2, i3, i4, i5, i6, i7, i8, i9, i10, i11, i12, i13, i14, i15, i16, i17, i18, i19⟩ := h
  exact ⟨i1, i2, i3, i4, i5, i6, i7, i8, i9, i10, i11, i12, i13, Int.le_refl _, i15, Int.le_refl _, i17, Int.le_refl _, i19⟩
set_option maxHeartbeats 4000000 in
theorem op_image {g : zq_G} {d : Nat} {M : zq_M}  (hR : RR M) : pri g (d + 6) kX11_image kX12_image [.ref 0] [.ref 48, .null] M := by
  obtain ⟨hS, hN, hH, hT, hP, hI, hE, hF, hX, hV⟩ := id hR
  obtain ⟨s1, s2, s3, s4, s5, s6, s7, s8⟩ := id hS
  refine mx_q (fun Qx hQx => ?_)
  refine mx_go 200 zq_t117 ?_
  show mx g (d + 5) kX7_keepPlaces 0 [.ref 1] [] M _
  refine mx_q (fun Q1 hQ1 => ?_)
  refine mx_go 200 zq_t62 ?_
  show (¬ (0 : Int32) < 0 ∧ ¬ (0 : Int32) < 0 ∧ ¬ ((M 1 3) : Int32) < 0 ∧ (Int32.toNatClampNeg 0) + (Int32.toNatClampNeg (M 1 3)) ≤ 10 ∧ (Int32.toNatClampNeg 0) + (Int32.toNatClampNeg (M 1 3)) ≤ 10) ∧ Q1 none (zq_mu (zq_ma M 4 (va_cpy ((M 3)) (M 4) (Int32.toNatClampNeg 0) (Int32.toNatClampNeg 0) (Int32.toNatClampNeg (M 1 3)))) 1 4 (M 1 3))
  refine ⟨(by refine ⟨?_, ?_, ?_, ?_, ?_⟩ <;> (simp only [n_lt, n_le, n_eq, n_add, n_sub, n_mul, n_neg, n_lit, n_cl, zw] at *; omega)), ?_⟩
  refine hQ1 _ _ ?_
  show mx g (d + 5) kX9_keepSizes 0 [.ref 30] [] (zq_mu (zq_mu (zq_ma M 4 (va_cpy ((M 3)) (M 4) (Int32.toNatClampNeg 0) (Int32.toNatClampNeg 0) (Int32.toNatClampNeg (M 1 3)))) 1 4 (M 1 3)) 13 6 (M 13 5)) _
  refine mx_q (fun Q2 hQ2 => ?_)
  refine mx_go 200 zq_t78 ?_
  show Q2 none (zq_mu (zq_mu (zq_mu (zq_mu (zq_ma M 4 (va_cpy ((M 3)) (M 4) (Int32.toNatClampNeg 0) (Int32.toNatClampNeg 0) (Int32.toNatClampNeg (M 1 3)))) 1 4 (M 1 3)) 13 6 (M 13 5)) 30 9 (M 30 7)) 30 10 (M 30 8))
  refine hQ2 _ _ ?_
  show zq_b 1 ∧ Qx (some (.int (M 1 3))) (zq_mu (zq_mu (zq_mu (zq_mu (zq_mu (zq_mu (zq_ma M 4 (va_cpy ((M 3)) (M 4) (Int32.toNatClampNeg 0) (Int32.toNatClampNeg 0) (Int32.toNatClampNeg (M 1 3)))) 1 4 (M 1 3)) 13 6 (M 13 5)) 30 9 (M 30 7)) 30 10 (M 30 8)) 38 3 (M 38 2)) 0 11 1)
  refine ⟨(by first | exact Or.inl rfl | exact Or.inr rfl), ?_⟩
  refine hQx _ _ ⟨(M 1 3), rfl, ?_⟩
  refine mx_q (fun Qm hQm => ?_)
  refine mx_go 200 zq_t220 ?_
  show zq_b 1 ∧ mx g (d + 6) kX12_image 47 [.ref 48, .int (0)] [] (zq_mu (zq_mu (zq_mu (zq_mu (zq_mu (zq_mu (zq_mu (zq_mu (zq_mu (zq_mu (zq_mu (zq_mu (zq_ma M 4 (va_cpy ((M 3)) (M 4) (Int32.toNatClampNeg 0) (Int32.toNatClampNeg 0) (Int32.toNatClampNeg (M 1 3)))) 1 4 (M 1 3)) 13 6 (M 13 5)) 30 9 (M 30 7)) 30 10 (M 30 8)) 38 3 (M 38 2)) 0 11 1) 48 42 1) 48 43 (M 48 0)) 48 44 (M 48 12)) 48 45 (M 48 32)) 48 46 (M 48 39)) 48 47 (M 48 37)) Qm
  refine ⟨(by first | exact Or.inl rfl | exact Or.inr rfl), ?_⟩
  refine c_X12_image47 (n := (M 48 0)) (p := (M 50)) (k := (M 74)) rfl rfl rfl (by (simp only [n_lt, n_le, n_eq, n_add, n_sub, n_mul, n_neg, n_lit, zw] at *; omega)) (by (simp only [n_lt, n_le, n_eq, n_add, n_sub, n_mul, n_neg, n_lit, zw] at *; omega)) (fun N3 u4 => ?_)
  refine hQm _ _ ⟨by first | rfl | simp only [s1, s2, s3, n_pred], ?_⟩
  exact ⟨hS, hN, hH, hT, hP, gI_image hI hS hX hT hP u4, hE, hF, hX, hV⟩

set_option maxHeartbeats 4000000 in
theorem op_back {g : zq_G} {d : Nat} {M : zq_M}  (hR : RR M) : pri g (d + 6) kX11_back kX12_back [.ref 0] [.ref 48, .null] M := by
  obtain ⟨hS, hN, hH, hT, hP, hI, hE, hF, hX, hV⟩ := id hR
  obtain ⟨s1, s2, s3, s4, s5, s6, s7, s8⟩ := id hS
  obtain ⟨i1, i2, i3, i4, i5, i6, i7, i8, i9, i10, i11, i12, i13, i14, i15, i16, i17, i18, i19⟩ := id hI
  refine mx_q (fun Qx hQx => ?_)
  refine mx_go 200 zq_t118 ?_
  show (¬ ((M 0 11) : Int32) = 0 → mx g (d + 5) kX7_layBack 0 [.ref 1] [] M _) ∧ (((M 0 11) : Int32) = 0 → Qx (some (.int (-3))) M)
  refine ⟨fun q1 => ?_, fun q1 => ?_⟩
  · refine mx_q (fun Q2 hQ2 => ?_)
    refine mx_go 200 zq_t63 ?_
    show (¬ (0 : Int32) < 0 ∧ ¬ (0 : Int32) < 0 ∧ ¬ ((M 1 4) : Int32) < 0 ∧ (Int32.toNatClampNeg 0) + (Int32.toNatClampNeg (M 1 4)) ≤ 10 ∧ (Int32.toNatClampNeg 0) + (Int32.toNatClampNeg (M 1 4)) ≤ 10) ∧ Q2 none (zq_ma M 3 (va_cpy ((M 4)) (M 3) (Int32.toNatClampNeg 0) (Int32.toNatClampNeg 0) (Int32.toNatClampNeg (M 1 4))))
    refine ⟨(by refine ⟨?_, ?_, ?_, ?_, ?_⟩ <;> (simp only [n_lt, n_le, n_eq, n_add, n_sub, n_mul, n_neg, n_lit, n_cl, zw] at *; omega)), ?_⟩
    refine hQ2 _ _ ?_
    show mx g (d + 5) kX9_cutBack 0 [.ref 30] [] (zq_mu (zq_ma M 3 (va_cpy ((M 4)) (M 3) (Int32.toNatClampNeg 0) (Int32.toNatClampNeg 0) (Int32.toNatClampNeg (M 1 4)))) 13 5 (M 13 6)) _
    refine mx_q (fun Q3 hQ3 => ?_)
    refine mx_go 200 zq_t79 ?_
    show Q3 none (zq_mu (zq_mu (zq_mu (zq_ma M 3 (va_cpy ((M 4)) (M 3) (Int32.toNatClampNeg 0) (Int32.toNatClampNeg 0) (Int32.toNatClampNeg (M 1 4)))) 13 5 (M 13 6)) 30 7 (M 30 9)) 30 8 (M 30 10))
    refine hQ3 _ _ ?_
    show Qx (some (.int (M 1 3))) (zq_mu (zq_mu (zq_mu (zq_mu (zq_ma M 3 (va_cpy ((M 4)) (M 3) (Int32.toNatClampNeg 0) (Int32.toNatClampNeg 0) (Int32.toNatClampNeg (M 1 4)))) 13 5 (M 13 6)) 30 7 (M 30 9)) 30 8 (M 30 10)) 38 2 (M 38 3))
    refine hQx _ _ ⟨(M 1 3), rfl, ?_⟩
    refine mx_q (fun Qm hQm => ?_)
    refine mx_go 200 zq_t221 ?_
    show (¬ ((M 48 42) : Int32) = 0 → mx g (d + 6) kX12_back 44 [.ref 48, .int (0)] [] (zq_mu (zq_mu (zq_mu (zq_mu (zq_mu (zq_mu (zq_mu (zq_mu (zq_ma M 3 (va_cpy ((M 4)) (M 3) (Int32.toNatClampNeg 0) (Int32.toNatClampNeg 0) (Int32.toNatClampNeg (M 1 4)))) 13 5 (M 13 6)) 30 7 (M 30 9)) 30 8 (M 30 10)) 38 2 (M 38 3)) 48 12 (M 48 44)) 48 32 (M 48 45)) 48 39 (M 48 46)) 48 37 (M 48 47)) Qm) ∧ (((M 48 42) : Int32) = 0 → Qm (some (.int (-3))) (zq_mu (zq_mu (zq_mu (zq_mu (zq_ma M 3 (va_cpy ((M 4)) (M 3) (Int32.toNatClampNeg 0) (Int32.toNatClampNeg 0) (Int32.toNatClampNeg (M 1 4)))) 13 5 (M 13 6)) 30 7 (M 30 9)) 30 8 (M 30 10)) 38 2 (M 38 3)))
    refine ⟨fun q4 => ?_, fun q4 => by exfalso; (simp only [n_lt, n_le, n_eq, n_add, n_sub, n_mul, n_neg, n_lit, zw] at *; omega)⟩
    refine c_X12_back44 (n0 := (M 48 0)) (n := (M 48 43)) (p := (M 74)) (k := (M 50)) rfl rfl rfl rfl (by (simp only [n_lt, n_le, n_eq, n_add, n_sub, n_mul, n_neg, n_lit, zw] at *; omega)) (by (simp only [n_lt, n_le, n_eq, n_add, n_sub, n_mul, n_neg, n_lit, zw] at *; omega)) (fun N5 u6 => ?_)
    refine hQm _ _ ⟨by first | rfl | simp only [s1, s2, s3, i1, i2, i3, i4, i5, i6, i7, n_pred], ?_⟩
    exact ⟨gS_back (s := M 1 4) (s' := M 48 43) (k := M 4) (k' := M 74) hS i2 i7 i19.1 u6, hN, hH, gT_cut (n := M 30 7) (c := M 30 8) (n' := M 48 32) (c' := M 48 39) hT i4 i5 i13 i14 i15 i16 i19.2, gP_cut (n := M 38 2) (n' := M 48 37) hP i6 i17 i18, gI_back (nt := M 30 7) (nc := M 30 8) (np := M 38 2) hI, hE, hF, gX_back (r := M 13 5) (r' := M 48 12) hX i3 i11 i12, hV⟩
  · refine hQx _ _ ⟨(-3), rfl, ?_⟩
    refine mx_q (fun Qm hQm => ?_)
    refine mx_go 200 zq_t221 ?_
    show (¬ ((M 48 42) : Int32) = 0 → mx g (d + 6) kX12_back 44 [.ref 48, .int (0)] [] (zq_mu (zq_mu (zq_mu (zq_mu M 48 12 (M 48 44)) 48 32 (M 48 45)) 48 39 (M 48 46)) 48 37 (M 48 47)) Qm) ∧ (((M 48 42) : Int32) = 0 → Qm (some (.int (-3))) M)
    refine ⟨fun q4 => by exfalso; (simp only [n_lt, n_le, n_eq, n_add, n_sub, n_mul, n_neg, n_lit, zw] at *; omega), fun q4 => ?_⟩
    refine hQm _ _ ⟨by first | rfl | simp only [s1, s2, s3, i1, i2, i3, i4, i5, i6, i7, n_pred], ?_⟩
    exact hR

