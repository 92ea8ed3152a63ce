theorem c_sp0 {g : zq_G} {d : Nat} {M : zq_M} {Q : Option Value → zq_M → Prop} {t : Nat → Int} {z p e : Nat} {x y : Int32} (ht : tpX M t z) (hx : x.toInt = (p : Int)) (hy : y.toInt = (e : Int)) (hp : p ≤ e) (he : e ≤ z) (h1 : (e - p = 3 ∧ ∀ j, j < 3 → t (p + j) = ([97, 100, 100] : List Int).getD j 0) → Q (some (.int 1)) M) (h0 : ¬ (e - p = 3 ∧ ∀ j, j < 3 → t (p + j) = ([97, 100, 100] : List Int).getD j 0) → Q (some (.int 0)) M) : mx g (d + 5) kX5_spells 0 [.ref 18, .ref 2000, .int x, .int y, .null] [] M Q := by
  obtain ⟨t1, t2, t3⟩ := id ht
  have hL : zq_sl.getD (2000 - 2000) 0 = 3 := rfl
  have hc : ∀ j, j < 3 → (((zq_sb.getD (2000 - 2000) []).getD j 0 : Int32)).toInt = ([97, 100, 100] : List Int).getD j 0 := by decide
  have es : (y - x).toInt = ((e - p : Nat) : Int) := by rw [n_sub, zw_id (by omega) (by omega)]; omega
  have eL : (nI 3).toInt = 3 := n_nI (by omega)
  refine mx_go 100 zq_t43 ?_
  show (((y - x) : Int32) = ((nI (zq_sl.getD (2000 - 2000) 0)) : Int32) → mx g (d + 5) kX5_spells 15 [.ref 18, .ref 2000, .int (x), .null, .int (0)] [] M Q) ∧ (¬ ((y - x) : Int32) = ((nI (zq_sl.getD (2000 - 2000) 0)) : Int32) → zq_b 0 ∧ Q (some (.int 0)) M)
  rw [hL]
  refine ⟨fun q => ?_, fun q => ⟨Or.inl rfl, h0 (fun w => q ?_)⟩⟩
  rotate_left
  · rw [n_eq, es, eL, w.1]; rfl
  rw [n_eq, es, eL] at q
  refine mx_wf (fun w : Int32 => [.ref 18, .ref 2000, .int x, .null, .int w]) (fun w M' => M' = M ∧ ∃ j : Nat, j ≤ 3 ∧ w.toInt = (j : Int) ∧ ∀ i, i < j → t (p + i) = ([97, 100, 100] : List Int).getD i 0) (fun w => (3 - w.toInt).toNat) ?_ 0 M ⟨rfl, 0, by omega, by rw [n_0]; rfl, fun i hi => by omega⟩
  intro w M' ⟨i0, j, i1, i2, i3⟩ ih
  subst i0
  refine mx_go 100 zq_t43 ?_
  show (((nI (zq_sl.getD (2000 - 2000) 0)) : Int32) ≤ (w : Int32) → zq_b 1 ∧ Q (some (.int 1)) M') ∧ (¬ ((nI (zq_sl.getD (2000 - 2000) 0)) : Int32) ≤ (w : Int32) → vp_in (x + w) 160 ∧ vp_in w (zq_sl.getD (2000 - 2000) 0) ∧ ((((M' 21) (Int32.toNatClampNeg (x + w))) : Int32) = (((zq_sb.getD (2000 - 2000) []).getD (Int32.toNatClampNeg w) 0) : Int32) → mx g (d + 5) kX5_spells 15 [.ref 18, .ref 2000, .int (x), .null, .int ((w + 1))] [] M' Q) ∧ (¬ (((M' 21) (Int32.toNatClampNeg (x + w))) : Int32) = (((zq_sb.getD (2000 - 2000) []).getD (Int32.toNatClampNeg w) 0) : Int32) → zq_b 0 ∧ Q (some (.int 0)) M'))
  rw [hL]
  refine ⟨fun r => ⟨Or.inr rfl, h1 ⟨by omega, fun i hi => i3 i ?_⟩⟩, fun r => ?_⟩
  · rw [n_le, eL] at r
    omega
  rw [n_le, eL] at r
  have up := n_up (n := nI 3) (x := w) (by omega) (by omega)
  have ea : (x + w).toInt = ((p + j : Nat) : Int) := by rw [n_add, zw_id (by omega) (by omega)]; omega
  have ec : (M' 21 (x + w).toNatClampNeg).toInt = t (p + j) := by rw [n_cl, ea, Int.toNat_natCast]; exact (t3 _).1
  have eb : (((zq_sb.getD (2000 - 2000) []).getD w.toNatClampNeg 0 : Int32)).toInt = ([97, 100, 100] : List Int).getD j 0 := by rw [n_cl, i2, Int.toNat_natCast]; exact hc j (by omega)
  refine ⟨n_in (by omega) (by omega), n_in (by omega) (by omega), fun v => ?_, fun v => ⟨Or.inl rfl, h0 (fun u => v ?_)⟩⟩
  · rw [n_eq, ec, eb] at v
    refine ih (w + 1) M' (by omega) ⟨rfl, j + 1, by omega, by omega, fun i hi => ?_⟩
    by_cases c : i = j
    · rw [c]; exact v
    · exact i3 i (by omega)
  · rw [n_eq, ec, eb]
    exact u.2 j (by omega)
theorem w_sp0 {t : Nat → Int} {p n : Nat} (h : ∀ j, j < n → 97 ≤ t (p + j) ∧ t (p + j) ≤ 122) (h1 : 1 ≤ n) : (n = 3 ∧ ∀ j, j < 3 → t (p + j) = ([97, 100, 100] : List Int).getD j 0) ↔ (¬ 6 < n ∧ cw t p n = 1156) := by
  constructor
  · rintro ⟨rfl, hs⟩
    refine ⟨by omega, ?_⟩
    have a0 : t (p + 0) = 97 := hs 0 (by omega)
    have a1 : t (p + 1) = 100 := hs 1 (by omega)
    have a2 : t (p + 2) = 100 := hs 2 (by omega)
    simp only [cw]
    omega
  · rintro ⟨h6, hc⟩
    rcases (show n = 1 ∨ n = 2 ∨ n = 3 ∨ n = 4 ∨ n = 5 ∨ n = 6 by omega) with rfl | rfl | rfl | rfl | rfl | rfl
    · simp only [cw] at hc
      have a0 := h 0 (by omega)
      exfalso
      omega
    · simp only [cw] at hc
      have a0 := h 0 (by omega)
      have a1 := h 1 (by omega)
      exfalso
      omega
    · simp only [cw] at hc
      have a0 := h 0 (by omega)
      have a1 := h 1 (by omega)
      have a2 := h 2 (by omega)
      refine ⟨rfl, fun j hj => ?_⟩
      rcases (show j = 0 ∨ j = 1 ∨ j = 2 by omega) with rfl | rfl | rfl
      · show t (p + 0) = 97
        omega
      · show t (p + 1) = 100
        omega
      · show t (p + 2) = 100
        omega
    · simp only [cw] at hc
      have a0 := h 0 (by omega)
      have a1 := h 1 (by omega)
      have a2 := h 2 (by omega)
      have a3 := h 3 (by omega)
      exfalso
      omega
    · simp only [cw] at hc
      have a0 := h 0 (by omega)
      have a1 := h 1 (by omega)
      have a2 := h 2 (by omega)
      have a3 := h 3 (by omega)
      have a4 := h 4 (by omega)
      exfalso
      omega
    · simp only [cw] at hc
      have a0 := h 0 (by omega)
      have a1 := h 1 (by omega)
      have a2 := h 2 (by omega)
      have a3 := h 3 (by omega)
      have a4 := h 4 (by omega)
      have a5 := h 5 (by omega)
      exfalso
      omega
theorem c_sp1 {g : zq_G} {d : Nat} {M : zq_M} {Q : Option Value → zq_M → Prop} {t : Nat → Int} {z p e : Nat} {x y : Int32} (ht : tpX M t z) (hx : x.toInt = (p : Int)) (hy : y.toInt = (e : Int)) (hp : p ≤ e) (he : e ≤ z) (h1 : (e - p = 4 ∧ ∀ j, j < 4 → t (p + j) = ([99, 97, 108, 108] : List Int).getD j 0) → Q (some (.int 1)) M) (h0 : ¬ (e - p = 4 ∧ ∀ j, j < 4 → t (p + j) = ([99, 97, 108, 108] : List Int).getD j 0) → Q (some (.int 0)) M) : mx g (d + 5) kX5_spells 0 [.ref 18, .ref 2001, .int x, .int y, .null] [] M Q := by
  obtain ⟨t1, t2, t3⟩ := id ht
  have hL : zq_sl.getD (2001 - 2000) 0 = 4 := rfl
  have hc : ∀ j, j < 4 → (((zq_sb.getD (2001 - 2000) []).getD j 0 : Int32)).toInt = ([99, 97, 108, 108] : List Int).getD j 0 := by decide
  have es : (y - x).toInt = ((e - p : Nat) : Int) := by rw [n_sub, zw_id (by omega) (by omega)]; omega
  have eL : (nI 4).toInt = 4 := n_nI (by omega)
  refine mx_go 100 zq_t43 ?_
  show (((y - x) : Int32) = ((nI (zq_sl.getD (2001 - 2000) 0)) : Int32) → mx g (d + 5) kX5_spells 15 [.ref 18, .ref 2001, .int (x), .null, .int (0)] [] M Q) ∧ (¬ ((y - x) : Int32) = ((nI (zq_sl.getD (2001 - 2000) 0)) : Int32) → zq_b 0 ∧ Q (some (.int 0)) M)
  rw [hL]
  refine ⟨fun q => ?_, fun q => ⟨Or.inl rfl, h0 (fun w => q ?_)⟩⟩
  rotate_left
  · rw [n_eq, es, eL, w.1]; rfl
  rw [n_eq, es, eL] at q
  refine mx_wf (fun w : Int32 => [.ref 18, .ref 2001, .int x, .null, .int w]) (fun w M' => M' = M ∧ ∃ j : Nat, j ≤ 4 ∧ w.toInt = (j : Int) ∧ ∀ i, i < j → t (p + i) = ([99, 97, 108, 108] : List Int).getD i 0) (fun w => (4 - w.toInt).toNat) ?_ 0 M ⟨rfl, 0, by omega, by rw [n_0]; rfl, fun i hi => by omega⟩
  intro w M' ⟨i0, j, i1, i2, i3⟩ ih
  subst i0
  refine mx_go 100 zq_t43 ?_
  show (((nI (zq_sl.getD (2001 - 2000) 0)) : Int32) ≤ (w : Int32) → zq_b 1 ∧ Q (some (.int 1)) M') ∧ (¬ ((nI (zq_sl.getD (2001 - 2000) 0)) : Int32) ≤ (w : Int32) → vp_in (x + w) 160 ∧ vp_in w (zq_sl.getD (2001 - 2000) 0) ∧ ((((M' 21) (Int32.toNatClampNeg (x + w))) : Int32) = (((zq_sb.getD (2001 - 2000) []).getD (Int32.toNatClampNeg w) 0) : Int32) → mx g (d + 5) kX5_spells 15 [.ref 18, .ref 2001, .int (x), .null, .int ((w + 1))] [] M' Q) ∧ (¬ (((M' 21) (Int32.toNatClampNeg (x + w))) : Int32) = (((zq_sb.getD (2001 - 2000) []).getD (Int32.toNatClampNeg w) 0) : Int32) → zq_b 0 ∧ Q (some (.int 0)) M'))
  rw [hL]
  refine ⟨fun r => ⟨Or.inr rfl, h1 ⟨by omega, fun i hi => i3 i ?_⟩⟩, fun r => ?_⟩
  · rw [n_le, eL] at r
    omega
  rw [n_le, eL] at r
  have up := n_up (n := nI 4) (x := w) (by omega) (by omega)
  have ea : (x + w).toInt = ((p + j : Nat) : Int) := by rw [n_add, zw_id (by omega) (by omega)]; omega
  have ec : (M' 21 (x + w).toNatClampNeg).toInt = t (p + j) := by rw [n_cl, ea, Int.toNat_natCast]; exact (t3 _).1
  have eb : (((zq_sb.getD (2001 - 2000) []).getD w.toNatClampNeg 0 : Int32)).toInt = ([99, 97, 108, 108] : List Int).getD j 0 := by rw [n_cl, i2, Int.toNat_natCast]; exact hc j (by omega)
  refine ⟨n_in (by omega) (by omega), n_in (by omega) (by omega), fun v => ?_, fun v => ⟨Or.inl rfl, h0 (fun u => v ?_)⟩⟩
  · rw [n_eq, ec, eb] at v
    refine ih (w + 1) M' (by omega) ⟨rfl, j + 1, by omega, by omega, fun i hi => ?_⟩
    by_cases c : i = j
    · rw [c]; exact v
    · exact i3 i (by omega)
  · rw [n_eq, ec, eb]
    exact u.2 j (by omega)
theorem w_sp1 {t : Nat → Int} {p n : Nat} (h : ∀ j, j < n → 97 ≤ t (p + j) ∧ t (p + j) ≤ 122) (h1 : 1 ≤ n) : (n = 4 ∧ ∀ j, j < 4 → t (p + j) = ([99, 97, 108, 108] : List Int).getD j 0) ↔ (¬ 6 < n ∧ cw t p n = 99724) := by
  constructor
  · rintro ⟨rfl, hs⟩
    refine ⟨by omega, ?_⟩
    have a0 : t (p + 0) = 99 := hs 0 (by omega)
    have a1 : t (p + 1) = 97 := hs 1 (by omega)
    have a2 : t (p + 2) = 108 := hs 2 (by omega)
    have a3 : t (p + 3) = 108 := hs 3 (by omega)
    simp only [cw]
    omega
  · rintro ⟨h6, hc⟩
    rcases (show n = 1 ∨ n = 2 ∨ n = 3 ∨ n = 4 ∨ n = 5 ∨ n = 6 by omega) with rfl | rfl | rfl | rfl | rfl | rfl
    · simp only [cw] at hc
      have a0 := h 0 (by omega)
      exfalso
      omega
    · simp only [cw] at hc
      have a0 := h 0 (by omega)
      have a1 := h 1 (by omega)
      exfalso
      omega
    · simp only [cw] at hc
      have a0 := h 0 (by omega)
      have a1 := h 1 (by omega)
      have a2 := h 2 (by omega)
      exfalso
      omega
    · simp only [cw] at hc
      have a0 := h 0 (by omega)
      have a1 := h 1 (by omega)
      have a2 := h 2 (by omega)
      have a3 := h 3 (by omega)
      refine ⟨rfl, fun j hj => ?_⟩
      rcases (show j = 0 ∨ j = 1 ∨ j = 2 ∨ j = 3 by omega) with rfl | rfl | rfl | rfl
      · show t (p + 0) = 99
        omega
      · show t (p + 1) = 97
        omega
      · show t (p + 2) = 108
        omega
      · show t (p + 3) = 108
        omega
    · simp only [cw] at hc
      have a0 := h 0 (by omega)
      have a1 := h 1 (by omega)
      have a2 := h 2 (by omega)
      have a3 := h 3 (by omega)
      have a4 := h 4 (by omega)
      exfalso
      omega
    · simp only [cw] at hc
      have a0 := h 0 (by omega)
      have a1 := h 1 (by omega)
      have a2 := h 2 (by omega)
      have a3 := h 3 (by omega)
      have a4 := h 4 (by omega)
      have a5 := h 5 (by omega)
      exfalso
      omega
theorem c_sp2 {g : zq_G} {d : Nat} {M : zq_M} {Q : Option Value → zq_M → Prop} {t : Nat → Int} {z p e : Nat} {x y : Int32} (ht : tpX M t z) (hx : x.toInt = (p : Int)) (hy : y.toInt = (e : Int)) (hp : p ≤ e) (he : e ≤ z) (h1 : (e - p = 5 ∧ ∀ j, j < 5 → t (p + j) = ([119, 111, 114, 116, 104] : List Int).getD j 0) → Q (some (.int 1)) M) (h0 : ¬ (e - p = 5 ∧ ∀ j, j < 5 → t (p + j) = ([119, 111, 114, 116, 104] : List Int).getD j 0) → Q (some (.int 0)) M) : mx g (d + 5) kX5_spells 0 [.ref 18, .ref 2002, .int x, .int y, .null] [] M Q := by
  obtain ⟨t1, t2, t3⟩ := id ht
  have hL : zq_sl.getD (2002 - 2000) 0 = 5 := rfl
  have hc : ∀ j, j < 5 → (((zq_sb.getD (2002 - 2000) []).getD j 0 : Int32)).toInt = ([119, 111, 114, 116, 104] : List Int).getD j 0 := by decide
  have es : (y - x).toInt = ((e - p : Nat) : Int) := by rw [n_sub, zw_id (by omega) (by omega)]; omega
  have eL : (nI 5).toInt = 5 := n_nI (by omega)
  refine mx_go 100 zq_t43 ?_
  show (((y - x) : Int32) = ((nI (zq_sl.getD (2002 - 2000) 0)) : Int32) → mx g (d + 5) kX5_spells 15 [.ref 18, .ref 2002, .int (x), .null, .int (0)] [] M Q) ∧ (¬ ((y - x) : Int32) = ((nI (zq_sl.getD (2002 - 2000) 0)) : Int32) → zq_b 0 ∧ Q (some (.int 0)) M)
  rw [hL]
  refine ⟨fun q => ?_, fun q => ⟨Or.inl rfl, h0 (fun w => q ?_)⟩⟩
  rotate_left
  · rw [n_eq, es, eL, w.1]; rfl
  rw [n_eq, es, eL] at q
  refine mx_wf (fun w : Int32 => [.ref 18, .ref 2002, .int x, .null, .int w]) (fun w M' => M' = M ∧ ∃ j : Nat, j ≤ 5 ∧ w.toInt = (j : Int) ∧ ∀ i, i < j → t (p + i) = ([119, 111, 114, 116, 104] : List Int).getD i 0) (fun w => (5 - w.toInt).toNat) ?_ 0 M ⟨rfl, 0, by omega, by rw [n_0]; rfl, fun i hi => by omega⟩
  intro w M' ⟨i0, j, i1, i2, i3⟩ ih
  subst i0
  refine mx_go 100 zq_t43 ?_
  show (((nI (zq_sl.getD (2002 - 2000) 0)) : Int32) ≤ (w : Int32) → zq_b 1 ∧ Q (some (.int 1)) M') ∧ (¬ ((nI (zq_sl.getD (2002 - 2000) 0)) : Int32) ≤ (w : Int32) → vp_in (x + w) 160 ∧ vp_in w (zq_sl.getD (2002 - 2000) 0) ∧ ((((M' 21) (Int32.toNatClampNeg (x + w))) : Int32) = (((zq_sb.getD (2002 - 2000) []).getD (Int32.toNatClampNeg w) 0) : Int32) → mx g (d + 5) kX5_spells 15 [.ref 18, .ref 2002, .int (x), .null, .int ((w + 1))] [] M' Q) ∧ (¬ (((M' 21) (Int32.toNatClampNeg (x + w))) : Int32) = (((zq_sb.getD (2002 - 2000) []).getD (Int32.toNatClampNeg w) 0) : Int32) → zq_b 0 ∧ Q (some (.int 0)) M'))
  rw [hL]
  refine ⟨fun r => ⟨Or.inr rfl, h1 ⟨by omega, fun i hi => i3 i ?_⟩⟩, fun r => ?_⟩
  · rw [n_le, eL] at r
    omega
  rw [n_le, eL] at r
  have up := n_up (n := nI 5) (x := w) (by omega) (by omega)
  have ea : (x + w).toInt = ((p + j : Nat) : Int) := by rw [n_add, zw_id (by omega) (by omega)]; omega
  have ec : (M' 21 (x + w).toNatClampNeg).toInt = t (p + j) := by rw [n_cl, ea, Int.toNat_natCast]; exact (t3 _).1
  have eb : (((zq_sb.getD (2002 - 2000) []).getD w.toNatClampNeg 0 : Int32)).toInt = ([119, 111, 114, 116, 104] : List Int).getD j 0 := by rw [n_cl, i2, Int.toNat_natCast]; exact hc j (by omega)
  refine ⟨n_in (by omega) (by omega), n_in (by omega) (by omega), fun v => ?_, fun v => ⟨Or.inl rfl, h0 (fun u => v ?_)⟩⟩
  · rw [n_eq, ec, eb] at v
    refine ih (w + 1) M' (by omega) ⟨rfl, j + 1, by omega, by omega, fun i hi => ?_⟩
    by_cases c : i = j
    · rw [c]; exact v
    · exact i3 i (by omega)
  · rw [n_eq, ec, eb]
    exact u.2 j (by omega)
theorem w_sp2 {t : Nat → Int} {p n : Nat} (h : ∀ j, j < n → 97 ≤ t (p + j) ∧ t (p + j) ≤ 122) (h1 : 1 ≤ n) : (n = 5 ∧ ∀ j, j < 5 → t (p + j) = ([119, 111, 114, 116, 104] : List Int).getD j 0) ↔ (¬ 6 < n ∧ cw t p n = 24627848) := by
  constructor
  · rintro ⟨rfl, hs⟩
    refine ⟨by omega, ?_⟩
    have a0 : t (p + 0) = 119 := hs 0 (by omega)
    have a1 : t (p + 1) = 111 := hs 1 (by omega)
    have a2 : t (p + 2) = 114 := hs 2 (by omega)
    have a3 : t (p + 3) = 116 := hs 3 (by omega)
    have a4 : t (p + 4) = 104 := hs 4 (by omega)
    simp only [cw]
    omega
  · rintro ⟨h6, hc⟩
    rcases (show n = 1 ∨ n = 2 ∨ n = 3 ∨ n = 4 ∨ n = 5 ∨ n = 6 by omega) with rfl | rfl | rfl | rfl | rfl | rfl
    · simp only [cw] at hc
      have a0 := h 0 (by omega)
      exfalso
      omega
    · simp only [cw] at hc
      have a0 := h 0 (by omega)
      have a1 := h 1 (by omega)
      exfalso
      omega
    · simp only [cw] at hc
      have a0 := h 0 (by omega)
      have a1 := h 1 (by omega)
      have a2 := h 2 (by omega)
      exfalso
      omega
    · simp only [cw] at hc
      have a0 := h 0 (by omega)
      have a1 := h 1 (by omega)
      have a2 := h 2 (by omega)
      have a3 := h 3 (by omega)
      exfalso
      omega
    · simp only [cw] at hc
      have a0 := h 0 (by omega)
      have a1 := h 1 (by omega)
      have a2 := h 2 (by omega)
      have a3 := h 3 (by omega)
      have a4 := h 4 (by omega)
      refine ⟨rfl, fun j hj => ?_⟩
      rcases (show j = 0 ∨ j = 1 ∨ j = 2 ∨ j = 3 ∨ j = 4 by omega) with rfl | rfl | rfl | rfl | rfl
      · show t (p + 0) = 119
        omega
      · show t (p + 1) = 111
        omega
      · show t (p + 2) = 114
        omega
      · show t (p + 3) = 116
        omega
      · show t (p + 4) = 104
        omega
    · simp only [cw] at hc
      have a0 := h 0 (by omega)
      have a1 := h 1 (by omega)
      have a2 := h 2 (by omega)
      have a3 := h 3 (by omega)
      have a4 := h 4 (by omega)
      have a5 := h 5 (by omega)
      exfalso
      omega
theorem c_sp3 {g : zq_G} {d : Nat} {M : zq_M} {Q : Option Value → zq_M → Prop} {t : Nat → Int} {z p e : Nat} {x y : Int32} (ht : tpX M t z) (hx : x.toInt = (p : Int)) (hy : y.toInt = (e : Int)) (hp : p ≤ e) (he : e ≤ z) (h1 : (e - p = 2 ∧ ∀ j, j < 2 → t (p + j) = ([111, 114] : List Int).getD j 0) → Q (some (.int 1)) M) (h0 : ¬ (e - p = 2 ∧ ∀ j, j < 2 → t (p + j) = ([111, 114] : List Int).getD j 0) → Q (some (.int 0)) M) : mx g (d + 5) kX5_spells 0 [.ref 18, .ref 2003, .int x, .int y, .null] [] M Q := by
  obtain ⟨t1, t2, t3⟩ := id ht
  have hL : zq_sl.getD (2003 - 2000) 0 = 2 := rfl
  have hc : ∀ j, j < 2 → (((zq_sb.getD (2003 - 2000) []).getD j 0 : Int32)).toInt = ([111, 114] : List Int).getD j 0 := by decide
  have es : (y - x).toInt = ((e - p : Nat) : Int) := by rw [n_sub, zw_id (by omega) (by omega)]; omega
  have eL : (nI 2).toInt = 2 := n_nI (by omega)
  refine mx_go 100 zq_t43 ?_
  show (((y - x) : Int32) = ((nI (zq_sl.getD (2003 - 2000) 0)) : Int32) → mx g (d + 5) kX5_spells 15 [.ref 18, .ref 2003, .int (x), .null, .int (0)] [] M Q) ∧ (¬ ((y - x) : Int32) = ((nI (zq_sl.getD (2003 - 2000) 0)) : Int32) → zq_b 0 ∧ Q (some (.int 0)) M)
  rw [hL]
  refine ⟨fun q => ?_, fun q => ⟨Or.inl rfl, h0 (fun w => q ?_)⟩⟩
  rotate_left
  · rw [n_eq, es, eL, w.1]; rfl
  rw [n_eq, es, eL] at q
  refine mx_wf (fun w : Int32 => [.ref 18, .ref 2003, .int x, .null, .int w]) (fun w M' => M' = M ∧ ∃ j : Nat, j ≤ 2 ∧ w.toInt = (j : Int) ∧ ∀ i, i < j → t (p + i) = ([111, 114] : List Int).getD i 0) (fun w => (2 - w.toInt).toNat) ?_ 0 M ⟨rfl, 0, by omega, by rw [n_0]; rfl, fun i hi => by omega⟩
  intro w M' ⟨i0, j, i1, i2, i3⟩ ih
  subst i0
  refine mx_go 100 zq_t43 ?_
  show (((nI (zq_sl.getD (2003 - 2000) 0)) : Int32) ≤ (w : Int32) → zq_b 1 ∧ Q (some (.int 1)) M') ∧ (¬ ((nI (zq_sl.getD (2003 - 2000) 0)) : Int32) ≤ (w : Int32) → vp_in (x + w) 160 ∧ vp_in w (zq_sl.getD (2003 - 2000) 0) ∧ ((((M' 21) (Int32.toNatClampNeg (x + w))) : Int32) = (((zq_sb.getD (2003 - 2000) []).getD (Int32.toNatClampNeg w) 0) : Int32) → mx g (d + 5) kX5_spells 15 [.ref 18, .ref 2003, .int (x), .null, .int ((w + 1))] [] M' Q) ∧ (¬ (((M' 21) (Int32.toNatClampNeg (x + w))) : Int32) = (((zq_sb.getD (2003 - 2000) []).getD (Int32.toNatClampNeg w) 0) : Int32) → zq_b 0 ∧ Q (some (.int 0)) M'))
  rw [hL]
  refine ⟨fun r => ⟨Or.inr rfl, h1 ⟨by omega, fun i hi => i3 i ?_⟩⟩, fun r => ?_⟩
  · rw [n_le, eL] at r
    omega
  rw [n_le, eL] at r
  have up := n_up (n := nI 2) (x := w) (by omega) (by omega)
  have ea : (x + w).toInt = ((p + j : Nat) : Int) := by rw [n_add, zw_id (by omega) (by omega)]; omega
  have ec : (M' 21 (x + w).toNatClampNeg).toInt = t (p + j) := by rw [n_cl, ea, Int.toNat_natCast]; exact (t3 _).1
  have eb : (((zq_sb.getD (2003 - 2000) []).getD w.toNatClampNeg 0 : Int32)).toInt = ([111, 114] : List Int).getD j 0 := by rw [n_cl, i2, Int.toNat_natCast]; exact hc j (by omega)
  refine ⟨n_in (by omega) (by omega), n_in (by omega) (by omega), fun v => ?_, fun v => ⟨Or.inl rfl, h0 (fun u => v ?_)⟩⟩
  · rw [n_eq, ec, eb] at v
    refine ih (w + 1) M' (by omega) ⟨rfl, j + 1, by omega, by omega, fun i hi => ?_⟩
    by_cases c : i = j
    · rw [c]; exact v
    · exact i3 i (by omega)
  · rw [n_eq, ec, eb]
    exact u.2 j (by omega)
theorem w_sp3 {t : Nat → Int} {p n : Nat} (h : ∀ j, j < n → 97 ≤ t (p + j) ∧ t (p + j) ≤ 122) (h1 : 1 ≤ n) : (n = 2 ∧ ∀ j, j < 2 → t (p + j) = ([111, 114] : List Int).getD j 0) ↔ (¬ 6 < n ∧ cw t p n = 498) := by
  constructor
  · rintro ⟨rfl, hs⟩
    refine ⟨by omega, ?_⟩
    have a0 : t (p + 0) = 111 := hs 0 (by omega)
    have a1 : t (p + 1) = 114 := hs 1 (by omega)
    simp only [cw]
    omega
  · rintro ⟨h6, hc⟩
    rcases (show n = 1 ∨ n = 2 ∨ n = 3 ∨ n = 4 ∨ n = 5 ∨ n = 6 by omega) with rfl | rfl | rfl | rfl | rfl | rfl
    · simp only [cw] at hc
      have a0 := h 0 (by omega)
      exfalso
      omega
    · simp only [cw] at hc
      have a0 := h 0 (by omega)
      have a1 := h 1 (by omega)
      refine ⟨rfl, fun j hj => ?_⟩
      rcases (show j = 0 ∨ j = 1 by omega) with rfl | rfl
      · show t (p + 0) = 111
        omega
      · show t (p + 1) = 114
        omega
    · simp only [cw] at hc
      have a0 := h 0 (by omega)
      have a1 := h 1 (by omega)
      have a2 := h 2 (by omega)
      exfalso
      omega
    · simp only [cw] at hc
      have a0 := h 0 (by omega)
      have a1 := h 1 (by omega)
      have a2 := h 2 (by omega)
      have a3 := h 3 (by omega)
      exfalso
      omega
    · simp only [cw] at hc
      have a0 := h 0 (by omega)
      have a1 := h 1 (by omega)
      have a2 := h 2 (by omega)
      have a3 := h 3 (by omega)
      have a4 := h 4 (by omega)
      exfalso
      omega
    · simp only [cw] at hc
      have a0 := h 0 (by omega)
      have a1 := h 1 (by omega)
      have a2 := h 2 (by omega)
      have a3 := h 3 (by omega)
      have a4 := h 4 (by omega)
      have a5 := h 5 (by omega)
      exfalso
      omega
theorem c_sp4 {g : zq_G} {d : Nat} {M : zq_M} {Q : Option Value → zq_M → Prop} {t : Nat → Int} {z p e : Nat} {x y : Int32} (ht : tpX M t z) (hx : x.toInt = (p : Int)) (hy : y.toInt = (e : Int)) (hp : p ≤ e) (he : e ≤ z) (h1 : (e - p = 3 ∧ ∀ j, j < 3 → t (p + j) = ([97, 110, 100] : List Int).getD j 0) → Q (some (.int 1)) M) (h0 : ¬ (e - p = 3 ∧ ∀ j, j < 3 → t (p + j) = ([97, 110, 100] : List Int).getD j 0) → Q (some (.int 0)) M) : mx g (d + 5) kX5_spells 0 [.ref 18, .ref 2004, .int x, .int y, .null] [] M Q := by
  obtain ⟨t1, t2, t3⟩ := id ht
  have hL : zq_sl.getD (2004 - 2000) 0 = 3 := rfl
  have hc : ∀ j, j < 3 → (((zq_sb.getD (2004 - 2000) []).getD j 0 : Int32)).toInt = ([97, 110, 100] : List Int).getD j 0 := by decide
  have es : (y - x).toInt = ((e - p : Nat) : Int) := by rw [n_sub, zw_id (by omega) (by omega)]; omega
  have eL : (nI 3).toInt = 3 := n_nI (by omega)
  refine mx_go 100 zq_t43 ?_
  show (((y - x) : Int32) = ((nI (zq_sl.getD (2004 - 2000) 0)) : Int32) → mx g (d + 5) kX5_spells 15 [.ref 18, .ref 2004, .int (x), .null, .int (0)] [] M Q) ∧ (¬ ((y - x) : Int32) = ((nI (zq_sl.getD (2004 - 2000) 0)) : Int32) → zq_b 0 ∧ Q (some (.int 0)) M)
  rw [hL]
  refine ⟨fun q => ?_, fun q => ⟨Or.inl rfl, h0 (fun w => q ?_)⟩⟩
  rotate_left
  · rw [n_eq, es, eL, w.1]; rfl
  rw [n_eq, es, eL] at q
  refine mx_wf (fun w : Int32 => [.ref 18, .ref 2004, .int x, .null, .int w]) (fun w M' => M' = M ∧ ∃ j : Nat, j ≤ 3 ∧ w.toInt = (j : Int) ∧ ∀ i, i < j → t (p + i) = ([97, 110, 100] : List Int).getD i 0) (fun w => (3 - w.toInt).toNat) ?_ 0 M ⟨rfl, 0, by omega, by rw [n_0]; rfl, fun i hi => by omega⟩
  intro w M' ⟨i0, j, i1, i2, i3⟩ ih
  subst i0
  refine mx_go 100 zq_t43 ?_
  show (((nI (zq_sl.getD (2004 - 2000) 0)) : Int32) ≤ (w : Int32) → zq_b 1 ∧ Q (some (.int 1)) M') ∧ (¬ ((nI (zq_sl.getD (2004 - 2000) 0)) : Int32) ≤ (w : Int32) → vp_in (x + w) 160 ∧ vp_in w (zq_sl.getD (2004 - 2000) 0) ∧ ((((M' 21) (Int32.toNatClampNeg (x + w))) : Int32) = (((zq_sb.getD (2004 - 2000) []).getD (Int32.toNatClampNeg w) 0) : Int32) → mx g (d + 5) kX5_spells 15 [.ref 18, .ref 2004, .int (x), .null, .int ((w + 1))] [] M' Q) ∧ (¬ (((M' 21) (Int32.toNatClampNeg (x + w))) : Int32) = (((zq_sb.getD (2004 - 2000) []).getD (Int32.toNatClampNeg w) 0) : Int32) → zq_b 0 ∧ Q (some (.int 0)) M'))
  rw [hL]
  refine ⟨fun r => ⟨Or.inr rfl, h1 ⟨by omega, fun i hi => i3 i ?_⟩⟩, fun r => ?_⟩
  · rw [n_le, eL] at r
    omega
  rw [n_le, eL] at r
  have up := n_up (n := nI 3) (x := w) (by omega) (by omega)
  have ea : (x + w).toInt = ((p + j : Nat) : Int) := by rw [n_add, zw_id (by omega) (by omega)]; omega
  have ec : (M' 21 (x + w).toNatClampNeg).toInt = t (p + j) := by rw [n_cl, ea, Int.toNat_natCast]; exact (t3 _).1
  have eb : (((zq_sb.getD (2004 - 2000) []).getD w.toNatClampNeg 0 : Int32)).toInt = ([97, 110, 100] : List Int).getD j 0 := by rw [n_cl, i2, Int.toNat_natCast]; exact hc j (by omega)
  refine ⟨n_in (by omega) (by omega), n_in (by omega) (by omega), fun v => ?_, fun v => ⟨Or.inl rfl, h0 (fun u => v ?_)⟩⟩
  · rw [n_eq, ec, eb] at v
    refine ih (w + 1) M' (by omega) ⟨rfl, j + 1, by omega, by omega, fun i hi => ?_⟩
    by_cases c : i = j
    · rw [c]; exact v
    · exact i3 i (by omega)
  · rw [n_eq, ec, eb]
    exact u.2 j (by omega)
theorem w_sp4 {t : Nat → Int} {p n : Nat} (h : ∀ j, j < n → 97 ≤ t (p + j) ∧ t (p + j) ≤ 122) (h1 : 1 ≤ n) : (n = 3 ∧ ∀ j, j < 3 → t (p + j) = ([97, 110, 100] : List Int).getD j 0) ↔ (¬ 6 < n ∧ cw t p n = 1476) := by
  constructor
  · rintro ⟨rfl, hs⟩
    refine ⟨by omega, ?_⟩
    have a0 : t (p + 0) = 97 := hs 0 (by omega)
    have a1 : t (p + 1) = 110 := hs 1 (by omega)
    have a2 : t (p + 2) = 100 := hs 2 (by omega)
    simp only [cw]
    omega
  · rintro ⟨h6, hc⟩
    rcases (show n = 1 ∨ n = 2 ∨ n = 3 ∨ n = 4 ∨ n = 5 ∨ n = 6 by omega) with rfl | rfl | rfl | rfl | rfl | rfl
    · simp only [cw] at hc
      have a0 := h 0 (by omega)
      exfalso
      omega
    · simp only [cw] at hc
      have a0 := h 0 (by omega)
      have a1 := h 1 (by omega)
      exfalso
      omega
    · simp only [cw] at hc
      have a0 := h 0 (by omega)
      have a1 := h 1 (by omega)
      have a2 := h 2 (by omega)
      refine ⟨rfl, fun j hj => ?_⟩
      rcases (show j = 0 ∨ j = 1 ∨ j = 2 by omega) with rfl | rfl | rfl
      · show t (p + 0) = 97
        omega
      · show t (p + 1) = 110
        omega
      · show t (p + 2) = 100
        omega
    · simp only [cw] at hc
      have a0 := h 0 (by omega)
      have a1 := h 1 (by omega)
      have a2 := h 2 (by omega)
      have a3 := h 3 (by omega)
      exfalso
      omega
    · simp only [cw] at hc
      have a0 := h 0 (by omega)
      have a1 := h 1 (by omega)
      have a2 := h 2 (by omega)
      have a3 := h 3 (by omega)
      have a4 := h 4 (by omega)
      exfalso
      omega
    · simp only [cw] at hc
      have a0 := h 0 (by omega)
      have a1 := h 1 (by omega)
      have a2 := h 2 (by omega)
      have a3 := h 3 (by omega)
      have a4 := h 4 (by omega)
      have a5 := h 5 (by omega)
      exfalso
      omega
theorem c_sp5 {g : zq_G} {d : Nat} {M : zq_M} {Q : Option Value → zq_M → Prop} {t : Nat → Int} {z p e : Nat} {x y : Int32} (ht : tpX M t z) (hx : x.toInt = (p : Int)) (hy : y.toInt = (e : Int)) (hp : p ≤ e) (he : e ≤ z) (h1 : (e - p = 3 ∧ ∀ j, j < 3 → t (p + j) = ([110, 111, 116] : List Int).getD j 0) → Q (some (.int 1)) M) (h0 : ¬ (e - p = 3 ∧ ∀ j, j < 3 → t (p + j) = ([110, 111, 116] : List Int).getD j 0) → Q (some (.int 0)) M) : mx g (d + 5) kX5_spells 0 [.ref 18, .ref 2005, .int x, .int y, .null] [] M Q := by
  obtain ⟨t1, t2, t3⟩ := id ht
  have hL : zq_sl.getD (2005 - 2000) 0 = 3 := rfl
  have hc : ∀ j, j < 3 → (((zq_sb.getD (2005 - 2000) []).getD j 0 : Int32)).toInt = ([110, 111, 116] : List Int).getD j 0 := by decide
  have es : (y - x).toInt = ((e - p : Nat) : Int) := by rw [n_sub, zw_id (by omega) (by omega)]; omega
  have eL : (nI 3).toInt = 3 := n_nI (by omega)
  refine mx_go 100 zq_t43 ?_
  show (((y - x) : Int32) = ((nI (zq_sl.getD (2005 - 2000) 0)) : Int32) → mx g (d + 5) kX5_spells 15 [.ref 18, .ref 2005, .int (x), .null, .int (0)] [] M Q) ∧ (¬ ((y - x) : Int32) = ((nI (zq_sl.getD (2005 - 2000) 0)) : Int32) → zq_b 0 ∧ Q (some (.int 0)) M)
  rw [hL]
  refine ⟨fun q => ?_, fun q => ⟨Or.inl rfl, h0 (fun w => q ?_)⟩⟩
  rotate_left
  · rw [n_eq, es, eL, w.1]; rfl
  rw [n_eq, es, eL] at q
  refine mx_wf (fun w : Int32 => [.ref 18, .ref 2005, .int x, .null, .int w]) (fun w M' => M' = M ∧ ∃ j : Nat, j ≤ 3 ∧ w.toInt = (j : Int) ∧ ∀ i, i < j → t (p + i) = ([110, 111, 116] : List Int).getD i 0) (fun w => (3 - w.toInt).toNat) ?_ 0 M ⟨rfl, 0, by omega, by rw [n_0]; rfl, fun i hi => by omega⟩
  intro w M' ⟨i0, j, i1, i2, i3⟩ ih
  subst i0
  refine mx_go 100 zq_t43 ?_
  show (((nI (zq_sl.getD (2005 - 2000) 0)) : Int32) ≤ (w : Int32) → zq_b 1 ∧ Q (some (.int 1)) M') ∧ (¬ ((nI (zq_sl.getD (2005 - 2000) 0)) : Int32) ≤ (w : Int32) → vp_in (x + w) 160 ∧ vp_in w (zq_sl.getD (2005 - 2000) 0) ∧ ((((M' 21) (Int32.toNatClampNeg (x + w))) : Int32) = (((zq_sb.getD (2005 - 2000) []).getD (Int32.toNatClampNeg w) 0) : Int32) → mx g (d + 5) kX5_spells 15 [.ref 18, .ref 2005, .int (x), .null, .int ((w + 1))] [] M' Q) ∧ (¬ (((M' 21) (Int32.toNatClampNeg (x + w))) : Int32) = (((zq_sb.getD (2005 - 2000) []).getD (Int32.toNatClampNeg w) 0) : Int32) → zq_b 0 ∧ Q (some (.int 0)) M'))
  rw [hL]
  refine ⟨fun r => ⟨Or.inr rfl, h1 ⟨by omega, fun i hi => i3 i ?_⟩⟩, fun r => ?_⟩
  · rw [n_le, eL] at r
    omega
  rw [n_le, eL] at r
  have up := n_up (n := nI 3) (x := w) (by omega) (by omega)
  have ea : (x + w).toInt = ((p + j : Nat) : Int) := by rw [n_add, zw_id (by omega) (by omega)]; omega
  have ec : (M' 21 (x + w).toNatClampNeg).toInt = t (p + j) := by rw [n_cl, ea, Int.toNat_natCast]; exact (t3 _).1
  have eb : (((zq_sb.getD (2005 - 2000) []).getD w.toNatClampNeg 0 : Int32)).toInt = ([110, 111, 116] : List Int).getD j 0 := by rw [n_cl, i2, Int.toNat_natCast]; exact hc j (by omega)
  refine ⟨n_in (by omega) (by omega), n_in (by omega) (by omega), fun v => ?_, fun v => ⟨Or.inl rfl, h0 (fun u => v ?_)⟩⟩
  · rw [n_eq, ec, eb] at v
    refine ih (w + 1) M' (by omega) ⟨rfl, j + 1, by omega, by omega, fun i hi => ?_⟩
    by_cases c : i = j
    · rw [c]; exact v
    · exact i3 i (by omega)
  · rw [n_eq, ec, eb]
    exact u.2 j (by omega)
theorem w_sp5 {t : Nat → Int} {p n : Nat} (h : ∀ j, j < n → 97 ≤ t (p + j) ∧ t (p + j) ≤ 122) (h1 : 1 ≤ n) : (n = 3 ∧ ∀ j, j < 3 → t (p + j) = ([110, 111, 116] : List Int).getD j 0) ↔ (¬ 6 < n ∧ cw t p n = 14836) := by
  constructor
  · rintro ⟨rfl, hs⟩
    refine ⟨by omega, ?_⟩
    have a0 : t (p + 0) = 110 := hs 0 (by omega)
    have a1 : t (p + 1) = 111 := hs 1 (by omega)
    have a2 : t (p + 2) = 116 := hs 2 (by omega)
    simp only [cw]
    omega
  · rintro ⟨h6, hc⟩
    rcases (show n = 1 ∨ n = 2 ∨ n = 3 ∨ n = 4 ∨ n = 5 ∨ n = 6 by omega) with rfl | rfl | rfl | rfl | rfl | rfl
    · simp only [cw] at hc
      have a0 := h 0 (by omega)
      exfalso
      omega
    · simp only [cw] at hc
      have a0 := h 0 (by omega)
      have a1 := h 1 (by omega)
      exfalso
      omega
    · simp only [cw] at hc
      have a0 := h 0 (by omega)
      have a1 := h 1 (by omega)
      have a2 := h 2 (by omega)
      refine ⟨rfl, fun j hj => ?_⟩
      rcases (show j = 0 ∨ j = 1 ∨ j = 2 by omega) with rfl | rfl | rfl
      · show t (p + 0) = 110
        omega
      · show t (p + 1) = 111
        omega
      · show t (p + 2) = 116
        omega
    · simp only [cw] at hc
      have a0 := h 0 (by omega)
      have a1 := h 1 (by omega)
      have a2 := h 2 (by omega)
      have a3 := h 3 (by omega)
      exfalso
      omega
    · simp only [cw] at hc
      have a0 := h 0 (by omega)
      have a1 := h 1 (by omega)
      have a2 := h 2 (by omega)
      have a3 := h 3 (by omega)
      have a4 := h 4 (by omega)
      exfalso
      omega
    · simp only [cw] at hc
      have a0 := h 0 (by omega)
      have a1 := h 1 (by omega)
      have a2 := h 2 (by omega)
      have a3 := h 3 (by omega)
      have a4 := h 4 (by omega)
      have a5 := h 5 (by omega)
      exfalso
      omega
theorem c_sp6 {g : zq_G} {d : Nat} {M : zq_M} {Q : Option Value → zq_M → Prop} {t : Nat → Int} {z p e : Nat} {x y : Int32} (ht : tpX M t z) (hx : x.toInt = (p : Int)) (hy : y.toInt = (e : Int)) (hp : p ≤ e) (he : e ≤ z) (h1 : (e - p = 6 ∧ ∀ j, j < 6 → t (p + j) = ([119, 101, 105, 103, 104, 116] : List Int).getD j 0) → Q (some (.int 1)) M) (h0 : ¬ (e - p = 6 ∧ ∀ j, j < 6 → t (p + j) = ([119, 101, 105, 103, 104, 116] : List Int).getD j 0) → Q (some (.int 0)) M) : mx g (d + 5) kX5_spells 0 [.ref 18, .ref 2006, .int x, .int y, .null] [] M Q := by
  obtain ⟨t1, t2, t3⟩ := id ht
  have hL : zq_sl.getD (2006 - 2000) 0 = 6 := rfl
  have hc : ∀ j, j < 6 → (((zq_sb.getD (2006 - 2000) []).getD j 0 : Int32)).toInt = ([119, 101, 105, 103, 104, 116] : List Int).getD j 0 := by decide
  have es : (y - x).toInt = ((e - p : Nat) : Int) := by rw [n_sub, zw_id (by omega) (by omega)]; omega
  have eL : (nI 6).toInt = 6 := n_nI (by omega)
  refine mx_go 100 zq_t43 ?_
  show (((y - x) : Int32) = ((nI (zq_sl.getD (2006 - 2000) 0)) : Int32) → mx g (d + 5) kX5_spells 15 [.ref 18, .ref 2006, .int (x), .null, .int (0)] [] M Q) ∧ (¬ ((y - x) : Int32) = ((nI (zq_sl.getD (2006 - 2000) 0)) : Int32) → zq_b 0 ∧ Q (some (.int 0)) M)
  rw [hL]
  refine ⟨fun q => ?_, fun q => ⟨Or.inl rfl, h0 (fun w => q ?_)⟩⟩
  rotate_left
  · rw [n_eq, es, eL, w.1]; rfl
  rw [n_eq, es, eL] at q
  refine mx_wf (fun w : Int32 => [.ref 18, .ref 2006, .int x, .null, .int w]) (fun w M' => M' = M ∧ ∃ j : Nat, j ≤ 6 ∧ w.toInt = (j : Int) ∧ ∀ i, i < j → t (p + i) = ([119, 101, 105, 103, 104, 116] : List Int).getD i 0) (fun w => (6 - w.toInt).toNat) ?_ 0 M ⟨rfl, 0, by omega, by rw [n_0]; rfl, fun i hi => by omega⟩
  intro w M' ⟨i0, j, i1, i2, i3⟩ ih
  subst i0
  refine mx_go 100 zq_t43 ?_
  show (((nI (zq_sl.getD (2006 - 2000) 0)) : Int32) ≤ (w : Int32) → zq_b 1 ∧ Q (some (.int 1)) M') ∧ (¬ ((nI (zq_sl.getD (2006 - 2000) 0)) : Int32) ≤ (w : Int32) → vp_in (x + w) 160 ∧ vp_in w (zq_sl.getD (2006 - 2000) 0) ∧ ((((M' 21) (Int32.toNatClampNeg (x + w))) : Int32) = (((zq_sb.getD (2006 - 2000) []).getD (Int32.toNatClampNeg w) 0) : Int32) → mx g (d + 5) kX5_spells 15 [.ref 18, .ref 2006, .int (x), .null, .int ((w + 1))] [] M' Q) ∧ (¬ (((M' 21) (Int32.toNatClampNeg (x + w))) : Int32) = (((zq_sb.getD (2006 - 2000) []).getD (Int32.toNatClampNeg w) 0) : Int32) → zq_b 0 ∧ Q (some (.int 0)) M'))
  rw [hL]
  refine ⟨fun r => ⟨Or.inr rfl, h1 ⟨by omega, fun i hi => i3 i ?_⟩⟩, fun r => ?_⟩
  · rw [n_le, eL] at r
    omega
  rw [n_le, eL] at r
  have up := n_up (n := nI 6) (x := w) (by omega) (by omega)
  have ea : (x + w).toInt = ((p + j : Nat) : Int) := by rw [n_add, zw_id (by omega) (by omega)]; omega
  have ec : (M' 21 (x + w).toNatClampNeg).toInt = t (p + j) := by rw [n_cl, ea, Int.toNat_natCast]; exact (t3 _).1
  have eb : (((zq_sb.getD (2006 - 2000) []).getD w.toNatClampNeg 0 : Int32)).toInt = ([119, 101, 105, 103, 104, 116] : List Int).getD j 0 := by rw [n_cl, i2, Int.toNat_natCast]; exact hc j (by omega)
  refine ⟨n_in (by omega) (by omega), n_in (by omega) (by omega), fun v => ?_, fun v => ⟨Or.inl rfl, h0 (fun u => v ?_)⟩⟩
  · rw [n_eq, ec, eb] at v
    refine ih (w + 1) M' (by omega) ⟨rfl, j + 1, by omega, by omega, fun i hi => ?_⟩
    by_cases c : i = j
    · rw [c]; exact v
    · exact i3 i (by omega)
  · rw [n_eq, ec, eb]
    exact u.2 j (by omega)
theorem w_sp6 {t : Nat → Int} {p n : Nat} (h : ∀ j, j < n → 97 ≤ t (p + j) ∧ t (p + j) ≤ 122) (h1 : 1 ≤ n) : (n = 6 ∧ ∀ j, j < 6 → t (p + j) = ([119, 101, 105, 103, 104, 116] : List Int).getD j 0) ↔ (¬ 6 < n ∧ cw t p n = 777297172) := by
  constructor
  · rintro ⟨rfl, hs⟩
    refine ⟨by omega, ?_⟩
    have a0 : t (p + 0) = 119 := hs 0 (by omega)
    have a1 : t (p + 1) = 101 := hs 1 (by omega)
    have a2 : t (p + 2) = 105 := hs 2 (by omega)
    have a3 : t (p + 3) = 103 := hs 3 (by omega)
    have a4 : t (p + 4) = 104 := hs 4 (by omega)
    have a5 : t (p + 5) = 116 := hs 5 (by omega)
    simp only [cw]
    omega
  · rintro ⟨h6, hc⟩
    rcases (show n = 1 ∨ n = 2 ∨ n = 3 ∨ n = 4 ∨ n = 5 ∨ n = 6 by omega) with rfl | rfl | rfl | rfl | rfl | rfl
    · simp only [cw] at hc
      have a0 := h 0 (by omega)
      exfalso
      omega
    · simp only [cw] at hc
      have a0 := h 0 (by omega)
      have a1 := h 1 (by omega)
      exfalso
      omega
    · simp only [cw] at hc
      have a0 := h 0 (by omega)
      have a1 := h 1 (by omega)
      have a2 := h 2 (by omega)
      exfalso
      omega
    · simp only [cw] at hc
      have a0 := h 0 (by omega)
      have a1 := h 1 (by omega)
      have a2 := h 2 (by omega)
      have a3 := h 3 (by omega)
      exfalso
      omega
    · simp only [cw] at hc
      have a0 := h 0 (by omega)
      have a1 := h 1 (by omega)
      have a2 := h 2 (by omega)
      have a3 := h 3 (by omega)
      have a4 := h 4 (by omega)
      exfalso
      omega
    · simp only [cw] at hc
      have a0 := h 0 (by omega)
      have a1 := h 1 (by omega)
      have a2 := h 2 (by omega)
      have a3 := h 3 (by omega)
      have a4 := h 4 (by omega)
      have a5 := h 5 (by omega)
      refine ⟨rfl, fun j hj => ?_⟩
      rcases (show j = 0 ∨ j = 1 ∨ j = 2 ∨ j = 3 ∨ j = 4 ∨ j = 5 by omega) with rfl | rfl | rfl | rfl | rfl | rfl
      · show t (p + 0) = 119
        omega
      · show t (p + 1) = 101
        omega
      · show t (p + 2) = 105
        omega
      · show t (p + 3) = 103
        omega
      · show t (p + 4) = 104
        omega
      · show t (p + 5) = 116
        omega
theorem c_sp7 {g : zq_G} {d : Nat} {M : zq_M} {Q : Option Value → zq_M → Prop} {t : Nat → Int} {z p e : Nat} {x y : Int32} (ht : tpX M t z) (hx : x.toInt = (p : Int)) (hy : y.toInt = (e : Int)) (hp : p ≤ e) (he : e ≤ z) (h1 : (e - p = 3 ∧ ∀ j, j < 3 → t (p + j) = ([119, 101, 116] : List Int).getD j 0) → Q (some (.int 1)) M) (h0 : ¬ (e - p = 3 ∧ ∀ j, j < 3 → t (p + j) = ([119, 101, 116] : List Int).getD j 0) → Q (some (.int 0)) M) : mx g (d + 5) kX5_spells 0 [.ref 18, .ref 2007, .int x, .int y, .null] [] M Q := by
  obtain ⟨t1, t2, t3⟩ := id ht
  have hL : zq_sl.getD (2007 - 2000) 0 = 3 := rfl
  have hc : ∀ j, j < 3 → (((zq_sb.getD (2007 - 2000) []).getD j 0 : Int32)).toInt = ([119, 101, 116] : List Int).getD j 0 := by decide
  have es : (y - x).toInt = ((e - p : Nat) : Int) := by rw [n_sub, zw_id (by omega) (by omega)]; omega
  have eL : (nI 3).toInt = 3 := n_nI (by omega)
  refine mx_go 100 zq_t43 ?_
  show (((y - x) : Int32) = ((nI (zq_sl.getD (2007 - 2000) 0)) : Int32) → mx g (d + 5) kX5_spells 15 [.ref 18, .ref 2007, .int (x), .null, .int (0)] [] M Q) ∧ (¬ ((y - x) : Int32) = ((nI (zq_sl.getD (2007 - 2000) 0)) : Int32) → zq_b 0 ∧ Q (some (.int 0)) M)
  rw [hL]
  refine ⟨fun q => ?_, fun q => ⟨Or.inl rfl, h0 (fun w => q ?_)⟩⟩
  rotate_left
  · rw [n_eq, es, eL, w.1]; rfl
  rw [n_eq, es, eL] at q
  refine mx_wf (fun w : Int32 => [.ref 18, .ref 2007, .int x, .null, .int w]) (fun w M' => M' = M ∧ ∃ j : Nat, j ≤ 3 ∧ w.toInt = (j : Int) ∧ ∀ i, i < j → t (p + i) = ([119, 101, 116] : List Int).getD i 0) (fun w => (3 - w.toInt).toNat) ?_ 0 M ⟨rfl, 0, by omega, by rw [n_0]; rfl, fun i hi => by omega⟩
  intro w M' ⟨i0, j, i1, i2, i3⟩ ih
  subst i0
  refine mx_go 100 zq_t43 ?_
  show (((nI (zq_sl.getD (2007 - 2000) 0)) : Int32) ≤ (w : Int32) → zq_b 1 ∧ Q (some (.int 1)) M') ∧ (¬ ((nI (zq_sl.getD (2007 - 2000) 0)) : Int32) ≤ (w : Int32) → vp_in (x + w) 160 ∧ vp_in w (zq_sl.getD (2007 - 2000) 0) ∧ ((((M' 21) (Int32.toNatClampNeg (x + w))) : Int32) = (((zq_sb.getD (2007 - 2000) []).getD (Int32.toNatClampNeg w) 0) : Int32) → mx g (d + 5) kX5_spells 15 [.ref 18, .ref 2007, .int (x), .null, .int ((w + 1))] [] M' Q) ∧ (¬ (((M' 21) (Int32.toNatClampNeg (x + w))) : Int32) = (((zq_sb.getD (2007 - 2000) []).getD (Int32.toNatClampNeg w) 0) : Int32) → zq_b 0 ∧ Q (some (.int 0)) M'))
  rw [hL]
  refine ⟨fun r => ⟨Or.inr rfl, h1 ⟨by omega, fun i hi => i3 i ?_⟩⟩, fun r => ?_⟩
  · rw [n_le, eL] at r
    omega
  rw [n_le, eL] at r
  have up := n_up (n := nI 3) (x := w) (by omega) (by omega)
  have ea : (x + w).toInt = ((p + j : Nat) : Int) := by rw [n_add, zw_id (by omega) (by omega)]; omega
  have ec : (M' 21 (x + w).toNatClampNeg).toInt = t (p + j) := by rw [n_cl, ea, Int.toNat_natCast]; exact (t3 _).1
  have eb : (((zq_sb.getD (2007 - 2000) []).getD w.toNatClampNeg 0 : Int32)).toInt = ([119, 101, 116] : List Int).getD j 0 := by rw [n_cl, i2, Int.toNat_natCast]; exact hc j (by omega)
  refine ⟨n_in (by omega) (by omega), n_in (by omega) (by omega), fun v => ?_, fun v => ⟨Or.inl rfl, h0 (fun u => v ?_)⟩⟩
  · rw [n_eq, ec, eb] at v
    refine ih (w + 1) M' (by omega) ⟨rfl, j + 1, by omega, by omega, fun i hi => ?_⟩
    by_cases c : i = j
    · rw [c]; exact v
    · exact i3 i (by omega)
  · rw [n_eq, ec, eb]
    exact u.2 j (by omega)
theorem w_sp7 {t : Nat → Int} {p n : Nat} (h : ∀ j, j < n → 97 ≤ t (p + j) ∧ t (p + j) ≤ 122) (h1 : 1 ≤ n) : (n = 3 ∧ ∀ j, j < 3 → t (p + j) = ([119, 101, 116] : List Int).getD j 0) ↔ (¬ 6 < n ∧ cw t p n = 23732) := by
  constructor
  · rintro ⟨rfl, hs⟩
    refine ⟨by omega, ?_⟩
    have a0 : t (p + 0) = 119 := hs 0 (by omega)
    have a1 : t (p + 1) = 101 := hs 1 (by omega)
    have a2 : t (p + 2) = 116 := hs 2 (by omega)
    simp only [cw]
    omega
  · rintro ⟨h6, hc⟩
    rcases (show n = 1 ∨ n = 2 ∨ n = 3 ∨ n = 4 ∨ n = 5 ∨ n = 6 by omega) with rfl | rfl | rfl | rfl | rfl | rfl
    · simp only [cw] at hc
      have a0 := h 0 (by omega)
      exfalso
      omega
    · simp only [cw] at hc
      have a0 := h 0 (by omega)
      have a1 := h 1 (by omega)
      exfalso
      omega
    · simp only [cw] at hc
      have a0 := h 0 (by omega)
      have a1 := h 1 (by omega)
      have a2 := h 2 (by omega)
      refine ⟨rfl, fun j hj => ?_⟩
      rcases (show j = 0 ∨ j = 1 ∨ j = 2 by omega) with rfl | rfl | rfl
      · show t (p + 0) = 119
        omega
      · show t (p + 1) = 101
        omega
      · show t (p + 2) = 116
        omega
    · simp only [cw] at hc
      have a0 := h 0 (by omega)
      have a1 := h 1 (by omega)
      have a2 := h 2 (by omega)
      have a3 := h 3 (by omega)
      exfalso
      omega
    · simp only [cw] at hc
      have a0 := h 0 (by omega)
      have a1 := h 1 (by omega)
      have a2 := h 2 (by omega)
      have a3 := h 3 (by omega)
      have a4 := h 4 (by omega)
      exfalso
      omega
    · simp only [cw] at hc
      have a0 := h 0 (by omega)
      have a1 := h 1 (by omega)
      have a2 := h 2 (by omega)
      have a3 := h 3 (by omega)
      have a4 := h 4 (by omega)
      have a5 := h 5 (by omega)
      exfalso
      omega
theorem c_sp8 {g : zq_G} {d : Nat} {M : zq_M} {Q : Option Value → zq_M → Prop} {t : Nat → Int} {z p e : Nat} {x y : Int32} (ht : tpX M t z) (hx : x.toInt = (p : Int)) (hy : y.toInt = (e : Int)) (hp : p ≤ e) (he : e ≤ z) (h1 : (e - p = 3 ∧ ∀ j, j < 3 → t (p + j) = ([105, 99, 101] : List Int).getD j 0) → Q (some (.int 1)) M) (h0 : ¬ (e - p = 3 ∧ ∀ j, j < 3 → t (p + j) = ([105, 99, 101] : List Int).getD j 0) → Q (some (.int 0)) M) : mx g (d + 5) kX5_spells 0 [.ref 18, .ref 2008, .int x, .int y, .null] [] M Q := by
  obtain ⟨t1, t2, t3⟩ := id ht
  have hL : zq_sl.getD (2008 - 2000) 0 = 3 := rfl
  have hc : ∀ j, j < 3 → (((zq_sb.getD (2008 - 2000) []).getD j 0 : Int32)).toInt = ([105, 99, 101] : List Int).getD j 0 := by decide
  have es : (y - x).toInt = ((e - p : Nat) : Int) := by rw [n_sub, zw_id (by omega) (by omega)]; omega
  have eL : (nI 3).toInt = 3 := n_nI (by omega)
  refine mx_go 100 zq_t43 ?_
  show (((y - x) : Int32) = ((nI (zq_sl.getD (2008 - 2000) 0)) : Int32) → mx g (d + 5) kX5_spells 15 [.ref 18, .ref 2008, .int (x), .null, .int (0)] [] M Q) ∧ (¬ ((y - x) : Int32) = ((nI (zq_sl.getD (2008 - 2000) 0)) : Int32) → zq_b 0 ∧ Q (some (.int 0)) M)
  rw [hL]
  refine ⟨fun q => ?_, fun q => ⟨Or.inl rfl, h0 (fun w => q ?_)⟩⟩
  rotate_left
  · rw [n_eq, es, eL, w.1]; rfl
  rw [n_eq, es, eL] at q
  refine mx_wf (fun w : Int32 => [.ref 18, .ref 2008, .int x, .null, .int w]) (fun w M' => M' = M ∧ ∃ j : Nat, j ≤ 3 ∧ w.toInt = (j : Int) ∧ ∀ i, i < j → t (p + i) = ([105, 99, 101] : List Int).getD i 0) (fun w => (3 - w.toInt).toNat) ?_ 0 M ⟨rfl, 0, by omega, by rw [n_0]; rfl, fun i hi => by omega⟩
  intro w M' ⟨i0, j, i1, i2, i3⟩ ih
  subst i0
  refine mx_go 100 zq_t43 ?_
  show (((nI (zq_sl.getD (2008 - 2000) 0)) : Int32) ≤ (w : Int32) → zq_b 1 ∧ Q (some (.int 1)) M') ∧ (¬ ((nI (zq_sl.getD (2008 - 2000) 0)) : Int32) ≤ (w : Int32) → vp_in (x + w) 160 ∧ vp_in w (zq_sl.getD (2008 - 2000) 0) ∧ ((((M' 21) (Int32.toNatClampNeg (x + w))) : Int32) = (((zq_sb.getD (2008 - 2000) []).getD (Int32.toNatClampNeg w) 0) : Int32) → mx g (d + 5) kX5_spells 15 [.ref 18, .ref 2008, .int (x), .null, .int ((w + 1))] [] M' Q) ∧ (¬ (((M' 21) (Int32.toNatClampNeg (x + w))) : Int32) = (((zq_sb.getD (2008 - 2000) []).getD (Int32.toNatClampNeg w) 0) : Int32) → zq_b 0 ∧ Q (some (.int 0)) M'))
  rw [hL]
  refine ⟨fun r => ⟨Or.inr rfl, h1 ⟨by omega, fun i hi => i3 i ?_⟩⟩, fun r => ?_⟩
  · rw [n_le, eL] at r
    omega
  rw [n_le, eL] at r
  have up := n_up (n := nI 3) (x := w) (by omega) (by omega)
  have ea : (x + w).toInt = ((p + j : Nat) : Int) := by rw [n_add, zw_id (by omega) (by omega)]; omega
  have ec : (M' 21 (x + w).toNatClampNeg).toInt = t (p + j) := by rw [n_cl, ea, Int.toNat_natCast]; exact (t3 _).1
  have eb : (((zq_sb.getD (2008 - 2000) []).getD w.toNatClampNeg 0 : Int32)).toInt = ([105, 99, 101] : List Int).getD j 0 := by rw [n_cl, i2, Int.toNat_natCast]; exact hc j (by omega)
  refine ⟨n_in (by omega) (by omega), n_in (by omega) (by omega), fun v => ?_, fun v => ⟨Or.inl rfl, h0 (fun u => v ?_)⟩⟩
  · rw [n_eq, ec, eb] at v
    refine ih (w + 1) M' (by omega) ⟨rfl, j + 1, by omega, by omega, fun i hi => ?_⟩
    by_cases c : i = j
    · rw [c]; exact v
    · exact i3 i (by omega)
  · rw [n_eq, ec, eb]
    exact u.2 j (by omega)
theorem w_sp8 {t : Nat → Int} {p n : Nat} (h : ∀ j, j < n → 97 ≤ t (p + j) ∧ t (p + j) ≤ 122) (h1 : 1 ≤ n) : (n = 3 ∧ ∀ j, j < 3 → t (p + j) = ([105, 99, 101] : List Int).getD j 0) ↔ (¬ 6 < n ∧ cw t p n = 9317) := by
  constructor
  · rintro ⟨rfl, hs⟩
    refine ⟨by omega, ?_⟩
    have a0 : t (p + 0) = 105 := hs 0 (by omega)
    have a1 : t (p + 1) = 99 := hs 1 (by omega)
    have a2 : t (p + 2) = 101 := hs 2 (by omega)
    simp only [cw]
    omega
  · rintro ⟨h6, hc⟩
    rcases (show n = 1 ∨ n = 2 ∨ n = 3 ∨ n = 4 ∨ n = 5 ∨ n = 6 by omega) with rfl | rfl | rfl | rfl | rfl | rfl
    · simp only [cw] at hc
      have a0 := h 0 (by omega)
      exfalso
      omega
    · simp only [cw] at hc
      have a0 := h 0 (by omega)
      have a1 := h 1 (by omega)
      exfalso
      omega
    · simp only [cw] at hc
      have a0 := h 0 (by omega)
      have a1 := h 1 (by omega)
      have a2 := h 2 (by omega)
      refine ⟨rfl, fun j hj => ?_⟩
      rcases (show j = 0 ∨ j = 1 ∨ j = 2 by omega) with rfl | rfl | rfl
      · show t (p + 0) = 105
        omega
      · show t (p + 1) = 99
        omega
      · show t (p + 2) = 101
        omega
    · simp only [cw] at hc
      have a0 := h 0 (by omega)
      have a1 := h 1 (by omega)
      have a2 := h 2 (by omega)
      have a3 := h 3 (by omega)
      exfalso
      omega
    · simp only [cw] at hc
      have a0 := h 0 (by omega)
      have a1 := h 1 (by omega)
      have a2 := h 2 (by omega)
      have a3 := h 3 (by omega)
      have a4 := h 4 (by omega)
      exfalso
      omega
    · simp only [cw] at hc
      have a0 := h 0 (by omega)
      have a1 := h 1 (by omega)
      have a2 := h 2 (by omega)
      have a3 := h 3 (by omega)
      have a4 := h 4 (by omega)
      have a5 := h 5 (by omega)
      exfalso
      omega
theorem c_sp9 {g : zq_G} {d : Nat} {M : zq_M} {Q : Option Value → zq_M → Prop} {t : Nat → Int} {z p e : Nat} {x y : Int32} (ht : tpX M t z) (hx : x.toInt = (p : Int)) (hy : y.toInt = (e : Int)) (hp : p ≤ e) (he : e ≤ z) (h1 : (e - p = 4 ∧ ∀ j, j < 4 → t (p + j) = ([119, 105, 110, 100] : List Int).getD j 0) → Q (some (.int 1)) M) (h0 : ¬ (e - p = 4 ∧ ∀ j, j < 4 → t (p + j) = ([119, 105, 110, 100] : List Int).getD j 0) → Q (some (.int 0)) M) : mx g (d + 5) kX5_spells 0 [.ref 18, .ref 2009, .int x, .int y, .null] [] M Q := by
  obtain ⟨t1, t2, t3⟩ := id ht
  have hL : zq_sl.getD (2009 - 2000) 0 = 4 := rfl
  have hc : ∀ j, j < 4 → (((zq_sb.getD (2009 - 2000) []).getD j 0 : Int32)).toInt = ([119, 105, 110, 100] : List Int).getD j 0 := by decide
  have es : (y - x).toInt = ((e - p : Nat) : Int) := by rw [n_sub, zw_id (by omega) (by omega)]; omega
  have eL : (nI 4).toInt = 4 := n_nI (by omega)
  refine mx_go 100 zq_t43 ?_
  show (((y - x) : Int32) = ((nI (zq_sl.getD (2009 - 2000) 0)) : Int32) → mx g (d + 5) kX5_spells 15 [.ref 18, .ref 2009, .int (x), .null, .int (0)] [] M Q) ∧ (¬ ((y - x) : Int32) = ((nI (zq_sl.getD (2009 - 2000) 0)) : Int32) → zq_b 0 ∧ Q (some (.int 0)) M)
  rw [hL]
  refine ⟨fun q => ?_, fun q => ⟨Or.inl rfl, h0 (fun w => q ?_)⟩⟩
  rotate_left
  · rw [n_eq, es, eL, w.1]; rfl
  rw [n_eq, es, eL] at q
  refine mx_wf (fun w : Int32 => [.ref 18, .ref 2009, .int x, .null, .int w]) (fun w M' => M' = M ∧ ∃ j : Nat, j ≤ 4 ∧ w.toInt = (j : Int) ∧ ∀ i, i < j → t (p + i) = ([119, 105, 110, 100] : List Int).getD i 0) (fun w => (4 - w.toInt).toNat) ?_ 0 M ⟨rfl, 0, by omega, by rw [n_0]; rfl, fun i hi => by omega⟩
  intro w M' ⟨i0, j, i1, i2, i3⟩ ih
  subst i0
  refine mx_go 100 zq_t43 ?_
  show (((nI (zq_sl.getD (2009 - 2000) 0)) : Int32) ≤ (w : Int32) → zq_b 1 ∧ Q (some (.int 1)) M') ∧ (¬ ((nI (zq_sl.getD (2009 - 2000) 0)) : Int32) ≤ (w : Int32) → vp_in (x + w) 160 ∧ vp_in w (zq_sl.getD (2009 - 2000) 0) ∧ ((((M' 21) (Int32.toNatClampNeg (x + w))) : Int32) = (((zq_sb.getD (2009 - 2000) []).getD (Int32.toNatClampNeg w) 0) : Int32) → mx g (d + 5) kX5_spells 15 [.ref 18, .ref 2009, .int (x), .null, .int ((w + 1))] [] M' Q) ∧ (¬ (((M' 21) (Int32.toNatClampNeg (x + w))) : Int32) = (((zq_sb.getD (2009 - 2000) []).getD (Int32.toNatClampNeg w) 0) : Int32) → zq_b 0 ∧ Q (some (.int 0)) M'))
  rw [hL]
  refine ⟨fun r => ⟨Or.inr rfl, h1 ⟨by omega, fun i hi => i3 i ?_⟩⟩, fun r => ?_⟩
  · rw [n_le, eL] at r
    omega
  rw [n_le, eL] at r
  have up := n_up (n := nI 4) (x := w) (by omega) (by omega)
  have ea : (x + w).toInt = ((p + j : Nat) : Int) := by rw [n_add, zw_id (by omega) (by omega)]; omega
  have ec : (M' 21 (x + w).toNatClampNeg).toInt = t (p + j) := by rw [n_cl, ea, Int.toNat_natCast]; exact (t3 _).1
  have eb : (((zq_sb.getD (2009 - 2000) []).getD w.toNatClampNeg 0 : Int32)).toInt = ([119, 105, 110, 100] : List Int).getD j 0 := by rw [n_cl, i2, Int.toNat_natCast]; exact hc j (by omega)
  refine ⟨n_in (by omega) (by omega), n_in (by omega) (by omega), fun v => ?_, fun v => ⟨Or.inl rfl, h0 (fun u => v ?_)⟩⟩
  · rw [n_eq, ec, eb] at v
    refine ih (w + 1) M' (by omega) ⟨rfl, j + 1, by omega, by omega, fun i hi => ?_⟩
    by_cases c : i = j
    · rw [c]; exact v
    · exact i3 i (by omega)
  · rw [n_eq, ec, eb]
    exact u.2 j (by omega)
theorem w_sp9 {t : Nat → Int} {p n : Nat} (h : ∀ j, j < n → 97 ≤ t (p + j) ∧ t (p + j) ≤ 122) (h1 : 1 ≤ n) : (n = 4 ∧ ∀ j, j < 4 → t (p + j) = ([119, 105, 110, 100] : List Int).getD j 0) ↔ (¬ 6 < n ∧ cw t p n = 763332) := by
  constructor
  · rintro ⟨rfl, hs⟩
    refine ⟨by omega, ?_⟩
    have a0 : t (p + 0) = 119 := hs 0 (by omega)
    have a1 : t (p + 1) = 105 := hs 1 (by omega)
    have a2 : t (p + 2) = 110 := hs 2 (by omega)
    have a3 : t (p + 3) = 100 := hs 3 (by omega)
    simp only [cw]
    omega
  · rintro ⟨h6, hc⟩
    rcases (show n = 1 ∨ n = 2 ∨ n = 3 ∨ n = 4 ∨ n = 5 ∨ n = 6 by omega) with rfl | rfl | rfl | rfl | rfl | rfl
    · simp only [cw] at hc
      have a0 := h 0 (by omega)
      exfalso
      omega
    · simp only [cw] at hc
      have a0 := h 0 (by omega)
      have a1 := h 1 (by omega)
      exfalso
      omega
    · simp only [cw] at hc
      have a0 := h 0 (by omega)
      have a1 := h 1 (by omega)
      have a2 := h 2 (by omega)
      exfalso
      omega
    · simp only [cw] at hc
      have a0 := h 0 (by omega)
      have a1 := h 1 (by omega)
      have a2 := h 2 (by omega)
      have a3 := h 3 (by omega)
      refine ⟨rfl, fun j hj => ?_⟩
      rcases (show j = 0 ∨ j = 1 ∨ j = 2 ∨ j = 3 by omega) with rfl | rfl | rfl | rfl
      · show t (p + 0) = 119
        omega
      · show t (p + 1) = 105
        omega
      · show t (p + 2) = 110
        omega
      · show t (p + 3) = 100
        omega
    · simp only [cw] at hc
      have a0 := h 0 (by omega)
      have a1 := h 1 (by omega)
      have a2 := h 2 (by omega)
      have a3 := h 3 (by omega)
      have a4 := h 4 (by omega)
      exfalso
      omega
    · simp only [cw] at hc
      have a0 := h 0 (by omega)
      have a1 := h 1 (by omega)
      have a2 := h 2 (by omega)
      have a3 := h 3 (by omega)
      have a4 := h 4 (by omega)
      have a5 := h 5 (by omega)
      exfalso
      omega
theorem c_sp10 {g : zq_G} {d : Nat} {M : zq_M} {Q : Option Value → zq_M → Prop} {t : Nat → Int} {z p e : Nat} {x y : Int32} (ht : tpX M t z) (hx : x.toInt = (p : Int)) (hy : y.toInt = (e : Int)) (hp : p ≤ e) (he : e ≤ z) (h1 : (e - p = 6 ∧ ∀ j, j < 6 → t (p + j) = ([110, 117, 109, 98, 101, 114] : List Int).getD j 0) → Q (some (.int 1)) M) (h0 : ¬ (e - p = 6 ∧ ∀ j, j < 6 → t (p + j) = ([110, 117, 109, 98, 101, 114] : List Int).getD j 0) → Q (some (.int 0)) M) : mx g (d + 5) kX5_spells 0 [.ref 18, .ref 2010, .int x, .int y, .null] [] M Q := by
  obtain ⟨t1, t2, t3⟩ := id ht
  have hL : zq_sl.getD (2010 - 2000) 0 = 6 := rfl
  have hc : ∀ j, j < 6 → (((zq_sb.getD (2010 - 2000) []).getD j 0 : Int32)).toInt = ([110, 117, 109, 98, 101, 114] : List Int).getD j 0 := by decide
  have es : (y - x).toInt = ((e - p : Nat) : Int) := by rw [n_sub, zw_id (by omega) (by omega)]; omega
  have eL : (nI 6).toInt = 6 := n_nI (by omega)
  refine mx_go 100 zq_t43 ?_
  show (((y - x) : Int32) = ((nI (zq_sl.getD (2010 - 2000) 0)) : Int32) → mx g (d + 5) kX5_spells 15 [.ref 18, .ref 2010, .int (x), .null, .int (0)] [] M Q) ∧ (¬ ((y - x) : Int32) = ((nI (zq_sl.getD (2010 - 2000) 0)) : Int32) → zq_b 0 ∧ Q (some (.int 0)) M)
  rw [hL]
  refine ⟨fun q => ?_, fun q => ⟨Or.inl rfl, h0 (fun w => q ?_)⟩⟩
  rotate_left
  · rw [n_eq, es, eL, w.1]; rfl
  rw [n_eq, es, eL] at q
  refine mx_wf (fun w : Int32 => [.ref 18, .ref 2010, .int x, .null, .int w]) (fun w M' => M' = M ∧ ∃ j : Nat, j ≤ 6 ∧ w.toInt = (j : Int) ∧ ∀ i, i < j → t (p + i) = ([110, 117, 109, 98, 101, 114] : List Int).getD i 0) (fun w => (6 - w.toInt).toNat) ?_ 0 M ⟨rfl, 0, by omega, by rw [n_0]; rfl, fun i hi => by omega⟩
  intro w M' ⟨i0, j, i1, i2, i3⟩ ih
  subst i0
  refine mx_go 100 zq_t43 ?_
  show (((nI (zq_sl.getD (2010 - 2000) 0)) : Int32) ≤ (w : Int32) → zq_b 1 ∧ Q (some (.int 1)) M') ∧ (¬ ((nI (zq_sl.getD (2010 - 2000) 0)) : Int32) ≤ (w : Int32) → vp_in (x + w) 160 ∧ vp_in w (zq_sl.getD (2010 - 2000) 0) ∧ ((((M' 21) (Int32.toNatClampNeg (x + w))) : Int32) = (((zq_sb.getD (2010 - 2000) []).getD (Int32.toNatClampNeg w) 0) : Int32) → mx g (d + 5) kX5_spells 15 [.ref 18, .ref 2010, .int (x), .null, .int ((w + 1))] [] M' Q) ∧ (¬ (((M' 21) (Int32.toNatClampNeg (x + w))) : Int32) = (((zq_sb.getD (2010 - 2000) []).getD (Int32.toNatClampNeg w) 0) : Int32) → zq_b 0 ∧ Q (some (.int 0)) M'))
  rw [hL]
  refine ⟨fun r => ⟨Or.inr rfl, h1 ⟨by omega, fun i hi => i3 i ?_⟩⟩, fun r => ?_⟩
  · rw [n_le, eL] at r
    omega
  rw [n_le, eL] at r
  have up := n_up (n := nI 6) (x := w) (by omega) (by omega)
  have ea : (x + w).toInt = ((p + j : Nat) : Int) := by rw [n_add, zw_id (by omega) (by omega)]; omega
  have ec : (M' 21 (x + w).toNatClampNeg).toInt = t (p + j) := by rw [n_cl, ea, Int.toNat_natCast]; exact (t3 _).1
  have eb : (((zq_sb.getD (2010 - 2000) []).getD w.toNatClampNeg 0 : Int32)).toInt = ([110, 117, 109, 98, 101, 114] : List Int).getD j 0 := by rw [n_cl, i2, Int.toNat_natCast]; exact hc j (by omega)
  refine ⟨n_in (by omega) (by omega), n_in (by omega) (by omega), fun v => ?_, fun v => ⟨Or.inl rfl, h0 (fun u => v ?_)⟩⟩
  · rw [n_eq, ec, eb] at v
    refine ih (w + 1) M' (by omega) ⟨rfl, j + 1, by omega, by omega, fun i hi => ?_⟩
    by_cases c : i = j
    · rw [c]; exact v
    · exact i3 i (by omega)
  · rw [n_eq, ec, eb]
    exact u.2 j (by omega)
theorem w_sp10 {t : Nat → Int} {p n : Nat} (h : ∀ j, j < n → 97 ≤ t (p + j) ∧ t (p + j) ≤ 122) (h1 : 1 ≤ n) : (n = 6 ∧ ∀ j, j < 6 → t (p + j) = ([110, 117, 109, 98, 101, 114] : List Int).getD j 0) ↔ (¬ 6 < n ∧ cw t p n = 492210354) := by
  constructor
  · rintro ⟨rfl, hs⟩
    refine ⟨by omega, ?_⟩
    have a0 : t (p + 0) = 110 := hs 0 (by omega)
    have a1 : t (p + 1) = 117 := hs 1 (by omega)
    have a2 : t (p + 2) = 109 := hs 2 (by omega)
    have a3 : t (p + 3) = 98 := hs 3 (by omega)
    have a4 : t (p + 4) = 101 := hs 4 (by omega)
    have a5 : t (p + 5) = 114 := hs 5 (by omega)
    simp only [cw]
    omega
  · rintro ⟨h6, hc⟩
    rcases (show n = 1 ∨ n = 2 ∨ n = 3 ∨ n = 4 ∨ n = 5 ∨ n = 6 by omega) with rfl | rfl | rfl | rfl | rfl | rfl
    · simp only [cw] at hc
      have a0 := h 0 (by omega)
      exfalso
      omega
    · simp only [cw] at hc
      have a0 := h 0 (by omega)
      have a1 := h 1 (by omega)
      exfalso
      omega
    · simp only [cw] at hc
      have a0 := h 0 (by omega)
      have a1 := h 1 (by omega)
      have a2 := h 2 (by omega)
      exfalso
      omega
    · simp only [cw] at hc
      have a0 := h 0 (by omega)
      have a1 := h 1 (by omega)
      have a2 := h 2 (by omega)
      have a3 := h 3 (by omega)
      exfalso
      omega
    · simp only [cw] at hc
      have a0 := h 0 (by omega)
      have a1 := h 1 (by omega)
      have a2 := h 2 (by omega)
      have a3 := h 3 (by omega)
      have a4 := h 4 (by omega)
      exfalso
      omega
    · simp only [cw] at hc
      have a0 := h 0 (by omega)
      have a1 := h 1 (by omega)
      have a2 := h 2 (by omega)
      have a3 := h 3 (by omega)
      have a4 := h 4 (by omega)
      have a5 := h 5 (by omega)
      refine ⟨rfl, fun j hj => ?_⟩
      rcases (show j = 0 ∨ j = 1 ∨ j = 2 ∨ j = 3 ∨ j = 4 ∨ j = 5 by omega) with rfl | rfl | rfl | rfl | rfl | rfl
      · show t (p + 0) = 110
        omega
      · show t (p + 1) = 117
        omega
      · show t (p + 2) = 109
        omega
      · show t (p + 3) = 98
        omega
      · show t (p + 4) = 101
        omega
      · show t (p + 5) = 114
        omega
theorem c_sp11 {g : zq_G} {d : Nat} {M : zq_M} {Q : Option Value → zq_M → Prop} {t : Nat → Int} {z p e : Nat} {x y : Int32} (ht : tpX M t z) (hx : x.toInt = (p : Int)) (hy : y.toInt = (e : Int)) (hp : p ≤ e) (he : e ≤ z) (h1 : (e - p = 5 ∧ ∀ j, j < 5 → t (p + j) = ([110, 105, 103, 104, 116] : List Int).getD j 0) → Q (some (.int 1)) M) (h0 : ¬ (e - p = 5 ∧ ∀ j, j < 5 → t (p + j) = ([110, 105, 103, 104, 116] : List Int).getD j 0) → Q (some (.int 0)) M) : mx g (d + 5) kX5_spells 0 [.ref 18, .ref 2011, .int x, .int y, .null] [] M Q := by
  obtain ⟨t1, t2, t3⟩ := id ht
  have hL : zq_sl.getD (2011 - 2000) 0 = 5 := rfl
  have hc : ∀ j, j < 5 → (((zq_sb.getD (2011 - 2000) []).getD j 0 : Int32)).toInt = ([110, 105, 103, 104, 116] : List Int).getD j 0 := by decide
  have es : (y - x).toInt = ((e - p : Nat) : Int) := by rw [n_sub, zw_id (by omega) (by omega)]; omega
  have eL : (nI 5).toInt = 5 := n_nI (by omega)
  refine mx_go 100 zq_t43 ?_
  show (((y - x) : Int32) = ((nI (zq_sl.getD (2011 - 2000) 0)) : Int32) → mx g (d + 5) kX5_spells 15 [.ref 18, .ref 2011, .int (x), .null, .int (0)] [] M Q) ∧ (¬ ((y - x) : Int32) = ((nI (zq_sl.getD (2011 - 2000) 0)) : Int32) → zq_b 0 ∧ Q (some (.int 0)) M)
  rw [hL]
  refine ⟨fun q => ?_, fun q => ⟨Or.inl rfl, h0 (fun w => q ?_)⟩⟩
  rotate_left
  · rw [n_eq, es, eL, w.1]; rfl
  rw [n_eq, es, eL] at q
  refine mx_wf (fun w : Int32 => [.ref 18, .ref 2011, .int x, .null, .int w]) (fun w M' => M' = M ∧ ∃ j : Nat, j ≤ 5 ∧ w.toInt = (j : Int) ∧ ∀ i, i < j → t (p + i) = ([110, 105, 103, 104, 116] : List Int).getD i 0) (fun w => (5 - w.toInt).toNat) ?_ 0 M ⟨rfl, 0, by omega, by rw [n_0]; rfl, fun i hi => by omega⟩
  intro w M' ⟨i0, j, i1, i2, i3⟩ ih
  subst i0
  refine mx_go 100 zq_t43 ?_
  show (((nI (zq_sl.getD (2011 - 2000) 0)) : Int32) ≤ (w : Int32) → zq_b 1 ∧ Q (some (.int 1)) M') ∧ (¬ ((nI (zq_sl.getD (2011 - 2000) 0)) : Int32) ≤ (w : Int32) → vp_in (x + w) 160 ∧ vp_in w (zq_sl.getD (2011 - 2000) 0) ∧ ((((M' 21) (Int32.toNatClampNeg (x + w))) : Int32) = (((zq_sb.getD (2011 - 2000) []).getD (Int32.toNatClampNeg w) 0) : Int32) → mx g (d + 5) kX5_spells 15 [.ref 18, .ref 2011, .int (x), .null, .int ((w + 1))] [] M' Q) ∧ (¬ (((M' 21) (Int32.toNatClampNeg (x + w))) : Int32) = (((zq_sb.getD (2011 - 2000) []).getD (Int32.toNatClampNeg w) 0) : Int32) → zq_b 0 ∧ Q (some (.int 0)) M'))
  rw [hL]
  refine ⟨fun r => ⟨Or.inr rfl, h1 ⟨by omega, fun i hi => i3 i ?_⟩⟩, fun r => ?_⟩
  · rw [n_le, eL] at r
    omega
  rw [n_le, eL] at r
  have up := n_up (n := nI 5) (x := w) (by omega) (by omega)
  have ea : (x + w).toInt = ((p + j : Nat) : Int) := by rw [n_add, zw_id (by omega) (by omega)]; omega
  have ec : (M' 21 (x + w).toNatClampNeg).toInt = t (p + j) := by rw [n_cl, ea, Int.toNat_natCast]; exact (t3 _).1
  have eb : (((zq_sb.getD (2011 - 2000) []).getD w.toNatClampNeg 0 : Int32)).toInt = ([110, 105, 103, 104, 116] : List Int).getD j 0 := by rw [n_cl, i2, Int.toNat_natCast]; exact hc j (by omega)
  refine ⟨n_in (by omega) (by omega), n_in (by omega) (by omega), fun v => ?_, fun v => ⟨Or.inl rfl, h0 (fun u => v ?_)⟩⟩
  · rw [n_eq, ec, eb] at v
    refine ih (w + 1) M' (by omega) ⟨rfl, j + 1, by omega, by omega, fun i hi => ?_⟩
    by_cases c : i = j
    · rw [c]; exact v
    · exact i3 i (by omega)
  · rw [n_eq, ec, eb]
    exact u.2 j (by omega)
theorem w_sp11 {t : Nat → Int} {p n : Nat} (h : ∀ j, j < n → 97 ≤ t (p + j) ∧ t (p + j) ≤ 122) (h1 : 1 ≤ n) : (n = 5 ∧ ∀ j, j < 5 → t (p + j) = ([110, 105, 103, 104, 116] : List Int).getD j 0) ↔ (¬ 6 < n ∧ cw t p n = 14982420) := by
  constructor
  · rintro ⟨rfl, hs⟩
    refine ⟨by omega, ?_⟩
    have a0 : t (p + 0) = 110 := hs 0 (by omega)
    have a1 : t (p + 1) = 105 := hs 1 (by omega)
    have a2 : t (p + 2) = 103 := hs 2 (by omega)
    have a3 : t (p + 3) = 104 := hs 3 (by omega)
    have a4 : t (p + 4) = 116 := hs 4 (by omega)
    simp only [cw]
    omega
  · rintro ⟨h6, hc⟩
    rcases (show n = 1 ∨ n = 2 ∨ n = 3 ∨ n = 4 ∨ n = 5 ∨ n = 6 by omega) with rfl | rfl | rfl | rfl | rfl | rfl
    · simp only [cw] at hc
      have a0 := h 0 (by omega)
      exfalso
      omega
    · simp only [cw] at hc
      have a0 := h 0 (by omega)
      have a1 := h 1 (by omega)
      exfalso
      omega
    · simp only [cw] at hc
      have a0 := h 0 (by omega)
      have a1 := h 1 (by omega)
      have a2 := h 2 (by omega)
      exfalso
      omega
    · simp only [cw] at hc
      have a0 := h 0 (by omega)
      have a1 := h 1 (by omega)
      have a2 := h 2 (by omega)
      have a3 := h 3 (by omega)
      exfalso
      omega
    · simp only [cw] at hc
      have a0 := h 0 (by omega)
      have a1 := h 1 (by omega)
      have a2 := h 2 (by omega)
      have a3 := h 3 (by omega)
      have a4 := h 4 (by omega)
      refine ⟨rfl, fun j hj => ?_⟩
      rcases (show j = 0 ∨ j = 1 ∨ j = 2 ∨ j = 3 ∨ j = 4 by omega) with rfl | rfl | rfl | rfl | rfl
      · show t (p + 0) = 110
        omega
      · show t (p + 1) = 105
        omega
      · show t (p + 2) = 103
        omega
      · show t (p + 3) = 104
        omega
      · show t (p + 4) = 116
        omega
    · simp only [cw] at hc
      have a0 := h 0 (by omega)
      have a1 := h 1 (by omega)
      have a2 := h 2 (by omega)
      have a3 := h 3 (by omega)
      have a4 := h 4 (by omega)
      have a5 := h 5 (by omega)
      exfalso
      omega
theorem c_X5_wordOf {g : zq_G} {d : Nat} {M : zq_M} {Q : Option Value → zq_M → Prop} {t : Nat → Int} {z p e : Nat} {x y : Int32} (ht : tpX M t z) (hx : x.toInt = (p : Int)) (hy : y.toInt = (e : Int)) (hp : p < e) (he : e ≤ z) (hl : ∀ j, p ≤ j → j < e → ltB (t j) = true) (hq : ∀ v : Int32, v.toInt = wdT t p e → Q (some (.int v)) M) : mx g (d + 6) kX5_wordOf 0 [.ref 18, .int x, .int y] [] M Q := by
  have hb : ∀ j, j < e - p → 97 ≤ t (p + j) ∧ t (p + j) ≤ 122 := fun j hj => by
    have := hl (p + j) (by omega) (by omega)
    unfold ltB at this
    exact of_decide_eq_true this
  unfold wdT at hq
  refine mx_go 100 zq_t42 ?_
  show mx g (d + 5) kX5_spells 0 [.ref 18, .ref 2000, .int (x), .int (y), .null] [] M _
  refine c_sp0 ht hx hy (by omega) he (fun s => ?_) (fun s => ?_)
  · rw [w_sp0 hb (by omega)] at s
    show ((1 : Int32) = 0 → mx g (d + 5) kX5_spells 0 [.ref 18, .ref 2001, .int (x), .int (y), .null] [] M _) ∧ (¬ (1 : Int32) = 0 → Q (some (.int (-19))) M)
    refine ⟨fun w => absurd w (by decide), fun _ => hq _ ?_⟩
    rw [if_neg s.1]
    unfold tkW
    rw [s.2]
    decide
  rw [w_sp0 hb (by omega)] at s
  show ((0 : Int32) = 0 → mx g (d + 5) kX5_spells 0 [.ref 18, .ref 2001, .int (x), .int (y), .null] [] M _) ∧ (¬ (0 : Int32) = 0 → Q (some (.int (-19))) M)
  refine ⟨fun _ => ?_, fun w => absurd rfl w⟩
  have n0 := s
  refine c_sp1 ht hx hy (by omega) he (fun s => ?_) (fun s => ?_)
  · rw [w_sp1 hb (by omega)] at s
    show ((1 : Int32) = 0 → mx g (d + 5) kX5_spells 0 [.ref 18, .ref 2002, .int (x), .int (y), .null] [] M _) ∧ (¬ (1 : Int32) = 0 → Q (some (.int (-20))) M)
    refine ⟨fun w => absurd w (by decide), fun _ => hq _ ?_⟩
    rw [if_neg s.1]
    unfold tkW
    rw [s.2]
    decide
  rw [w_sp1 hb (by omega)] at s
  show ((0 : Int32) = 0 → mx g (d + 5) kX5_spells 0 [.ref 18, .ref 2002, .int (x), .int (y), .null] [] M _) ∧ (¬ (0 : Int32) = 0 → Q (some (.int (-20))) M)
  refine ⟨fun _ => ?_, fun w => absurd rfl w⟩
  have n1 := s
  refine c_sp2 ht hx hy (by omega) he (fun s => ?_) (fun s => ?_)
  · rw [w_sp2 hb (by omega)] at s
    show ((1 : Int32) = 0 → mx g (d + 5) kX5_spells 0 [.ref 18, .ref 2003, .int (x), .int (y), .null] [] M _) ∧ (¬ (1 : Int32) = 0 → Q (some (.int (-21))) M)
    refine ⟨fun w => absurd w (by decide), fun _ => hq _ ?_⟩
    rw [if_neg s.1]
    unfold tkW
    rw [s.2]
    decide
  rw [w_sp2 hb (by omega)] at s
  show ((0 : Int32) = 0 → mx g (d + 5) kX5_spells 0 [.ref 18, .ref 2003, .int (x), .int (y), .null] [] M _) ∧ (¬ (0 : Int32) = 0 → Q (some (.int (-21))) M)
  refine ⟨fun _ => ?_, fun w => absurd rfl w⟩
  have n2 := s
  refine c_sp3 ht hx hy (by omega) he (fun s => ?_) (fun s => ?_)
  · rw [w_sp3 hb (by omega)] at s
    show ((1 : Int32) = 0 → mx g (d + 5) kX5_spells 0 [.ref 18, .ref 2004, .int (x), .int (y), .null] [] M _) ∧ (¬ (1 : Int32) = 0 → Q (some (.int (-7))) M)
    refine ⟨fun w => absurd w (by decide), fun _ => hq _ ?_⟩
    rw [if_neg s.1]
    unfold tkW
    rw [s.2]
    decide
  rw [w_sp3 hb (by omega)] at s
  show ((0 : Int32) = 0 → mx g (d + 5) kX5_spells 0 [.ref 18, .ref 2004, .int (x), .int (y), .null] [] M _) ∧ (¬ (0 : Int32) = 0 → Q (some (.int (-7))) M)
  refine ⟨fun _ => ?_, fun w => absurd rfl w⟩
  have n3 := s
  refine c_sp4 ht hx hy (by omega) he (fun s => ?_) (fun s => ?_)
  · rw [w_sp4 hb (by omega)] at s
    show ((1 : Int32) = 0 → mx g (d + 5) kX5_spells 0 [.ref 18, .ref 2005, .int (x), .int (y), .null] [] M _) ∧ (¬ (1 : Int32) = 0 → Q (some (.int (-8))) M)
    refine ⟨fun w => absurd w (by decide), fun _ => hq _ ?_⟩
    rw [if_neg s.1]
    unfold tkW
    rw [s.2]
    decide
  rw [w_sp4 hb (by omega)] at s
  show ((0 : Int32) = 0 → mx g (d + 5) kX5_spells 0 [.ref 18, .ref 2005, .int (x), .int (y), .null] [] M _) ∧ (¬ (0 : Int32) = 0 → Q (some (.int (-8))) M)
  refine ⟨fun _ => ?_, fun w => absurd rfl w⟩
  have n4 := s
  refine c_sp5 ht hx hy (by omega) he (fun s => ?_) (fun s => ?_)
  · rw [w_sp5 hb (by omega)] at s
    show ((1 : Int32) = 0 → mx g (d + 5) kX5_spells 0 [.ref 18, .ref 2006, .int (x), .int (y), .null] [] M _) ∧ (¬ (1 : Int32) = 0 → Q (some (.int (-9))) M)
    refine ⟨fun w => absurd w (by decide), fun _ => hq _ ?_⟩
    rw [if_neg s.1]
    unfold tkW
    rw [s.2]
    decide
  rw [w_sp5 hb (by omega)] at s
  show ((0 : Int32) = 0 → mx g (d + 5) kX5_spells 0 [.ref 18, .ref 2006, .int (x), .int (y), .null] [] M _) ∧ (¬ (0 : Int32) = 0 → Q (some (.int (-9))) M)
  refine ⟨fun _ => ?_, fun w => absurd rfl w⟩
  have n5 := s
  refine c_sp6 ht hx hy (by omega) he (fun s => ?_) (fun s => ?_)
  · rw [w_sp6 hb (by omega)] at s
    show ((1 : Int32) = 0 → mx g (d + 5) kX5_spells 0 [.ref 18, .ref 2007, .int (x), .int (y), .null] [] M _) ∧ (¬ (1 : Int32) = 0 → Q (some (.int (-1))) M)
    refine ⟨fun w => absurd w (by decide), fun _ => hq _ ?_⟩
    rw [if_neg s.1]
    unfold tkW
    rw [s.2]
    decide
  rw [w_sp6 hb (by omega)] at s
  show ((0 : Int32) = 0 → mx g (d + 5) kX5_spells 0 [.ref 18, .ref 2007, .int (x), .int (y), .null] [] M _) ∧ (¬ (0 : Int32) = 0 → Q (some (.int (-1))) M)
  refine ⟨fun _ => ?_, fun w => absurd rfl w⟩
  have n6 := s
  refine c_sp7 ht hx hy (by omega) he (fun s => ?_) (fun s => ?_)
  · rw [w_sp7 hb (by omega)] at s
    show ((1 : Int32) = 0 → mx g (d + 5) kX5_spells 0 [.ref 18, .ref 2008, .int (x), .int (y), .null] [] M _) ∧ (¬ (1 : Int32) = 0 → Q (some (.int (-2))) M)
    refine ⟨fun w => absurd w (by decide), fun _ => hq _ ?_⟩
    rw [if_neg s.1]
    unfold tkW
    rw [s.2]
    decide
  rw [w_sp7 hb (by omega)] at s
  show ((0 : Int32) = 0 → mx g (d + 5) kX5_spells 0 [.ref 18, .ref 2008, .int (x), .int (y), .null] [] M _) ∧ (¬ (0 : Int32) = 0 → Q (some (.int (-2))) M)
  refine ⟨fun _ => ?_, fun w => absurd rfl w⟩
  have n7 := s
  refine c_sp8 ht hx hy (by omega) he (fun s => ?_) (fun s => ?_)
  · rw [w_sp8 hb (by omega)] at s
    show ((1 : Int32) = 0 → mx g (d + 5) kX5_spells 0 [.ref 18, .ref 2009, .int (x), .int (y), .null] [] M _) ∧ (¬ (1 : Int32) = 0 → Q (some (.int (-3))) M)
    refine ⟨fun w => absurd w (by decide), fun _ => hq _ ?_⟩
    rw [if_neg s.1]
    unfold tkW
    rw [s.2]
    decide
  rw [w_sp8 hb (by omega)] at s
  show ((0 : Int32) = 0 → mx g (d + 5) kX5_spells 0 [.ref 18, .ref 2009, .int (x), .int (y), .null] [] M _) ∧ (¬ (0 : Int32) = 0 → Q (some (.int (-3))) M)
  refine ⟨fun _ => ?_, fun w => absurd rfl w⟩
  have n8 := s
  refine c_sp9 ht hx hy (by omega) he (fun s => ?_) (fun s => ?_)
  · rw [w_sp9 hb (by omega)] at s
    show ((1 : Int32) = 0 → mx g (d + 5) kX5_spells 0 [.ref 18, .ref 2010, .int (x), .int (y), .null] [] M _) ∧ (¬ (1 : Int32) = 0 → Q (some (.int (-4))) M)
    refine ⟨fun w => absurd w (by decide), fun _ => hq _ ?_⟩
    rw [if_neg s.1]
    unfold tkW
    rw [s.2]
    decide
  rw [w_sp9 hb (by omega)] at s
  show ((0 : Int32) = 0 → mx g (d + 5) kX5_spells 0 [.ref 18, .ref 2010, .int (x), .int (y), .null] [] M _) ∧ (¬ (0 : Int32) = 0 → Q (some (.int (-4))) M)
  refine ⟨fun _ => ?_, fun w => absurd rfl w⟩
  have n9 := s
  refine c_sp10 ht hx hy (by omega) he (fun s => ?_) (fun s => ?_)
  · rw [w_sp10 hb (by omega)] at s
    show ((1 : Int32) = 0 → mx g (d + 5) kX5_spells 0 [.ref 18, .ref 2011, .int (x), .int (y), .null] [] M _) ∧ (¬ (1 : Int32) = 0 → Q (some (.int (-5))) M)
    refine ⟨fun w => absurd w (by decide), fun _ => hq _ ?_⟩
    rw [if_neg s.1]
    unfold tkW
    rw [s.2]
    decide
  rw [w_sp10 hb (by omega)] at s
  show ((0 : Int32) = 0 → mx g (d + 5) kX5_spells 0 [.ref 18, .ref 2011, .int (x), .int (y), .null] [] M _) ∧ (¬ (0 : Int32) = 0 → Q (some (.int (-5))) M)
  refine ⟨fun _ => ?_, fun w => absurd rfl w⟩
  have n10 := s
  refine c_sp11 ht hx hy (by omega) he (fun s => ?_) (fun s => ?_)
  · rw [w_sp11 hb (by omega)] at s
    show ((1 : Int32) = 0 → Q (some (.int (-23))) M) ∧ (¬ (1 : Int32) = 0 → Q (some (.int (-6))) M)
    refine ⟨fun w => absurd w (by decide), fun _ => hq _ ?_⟩
    rw [if_neg s.1]
    unfold tkW
    rw [s.2]
    decide
  rw [w_sp11 hb (by omega)] at s
  show ((0 : Int32) = 0 → Q (some (.int (-23))) M) ∧ (¬ (0 : Int32) = 0 → Q (some (.int (-6))) M)
  refine ⟨fun _ => ?_, fun w => absurd rfl w⟩
  have n11 := s
  refine hq _ ?_
  by_cases c6 : 6 < e - p
  · rw [if_pos c6]; decide
  · rw [if_neg c6]
    unfold tkW
    rw [if_neg (fun c => n0 ⟨c6, c⟩), if_neg (fun c => n1 ⟨c6, c⟩), if_neg (fun c => n2 ⟨c6, c⟩), if_neg (fun c => n3 ⟨c6, c⟩), if_neg (fun c => n4 ⟨c6, c⟩), if_neg (fun c => n5 ⟨c6, c⟩), if_neg (fun c => n6 ⟨c6, c⟩), if_neg (fun c => n7 ⟨c6, c⟩), if_neg (fun c => n8 ⟨c6, c⟩), if_neg (fun c => n9 ⟨c6, c⟩), if_neg (fun c => n10 ⟨c6, c⟩), if_neg (fun c => n11 ⟨c6, c⟩)]
    decide
theorem c_X5_tokenOf {g : zq_G} {d : Nat} {M : zq_M} {Q : Option Value → zq_M → Prop} {t : Nat → Int} {z p : Nat} {x y : Int32} (ht : tpX M t z) (hx : x.toInt = (p : Int)) (hy : y.toInt = ((enT t z p : Nat) : Int)) (hp : p < z) (hq : ∀ v : Int32, v.toInt = tkT t z p → Q (some (.int v)) M) : mx g (d + 7) kX5_tokenOf 0 [.ref 18, .int x, .int y] [] M Q := by
  obtain ⟨t1, t2, t3⟩ := id ht
  have xin : vp_in x 160 := n_in (by omega) (by omega)
  have ec : (M 21 x.toNatClampNeg).toInt = t p := by rw [n_cl, hx, Int.toNat_natCast]; exact (t3 p).1
  have eb := enT_b (t := t) hp
  unfold tkT at hq
  refine mx_go 100 zq_t40 ?_
  show vp_in x 160 ∧ mx g (d + 6) kX5_isLetter 0 [.int (((M 21) (Int32.toNatClampNeg x)))] [] M _
  refine ⟨xin, ?_⟩
  refine c_X5_isLetter ?_
  rw [ec]
  cases c : ltB (t p) with
  | true =>
    rw [if_pos c] at hq
    show ((1 : Int32) = 0 → vp_in x 160 ∧ mx g (d + 6) kX5_isDigit 0 [.int (((M 21) (Int32.toNatClampNeg x)))] [] M _) ∧ (¬ (1 : Int32) = 0 → mx g (d + 6) kX5_wordOf 0 [.ref 18, .int (x), .int (y)] [] M _)
    refine ⟨fun w => absurd w (by decide), fun _ => ?_⟩
    refine c_X5_wordOf (z := z) (p := p) (e := enT t z p) ht hx hy (by omega) eb.2 (fun j h1 h2 => ?_) (fun v hv => ?_)
    · unfold enT at h2
      rw [if_pos c] at h2
      exact (rz_b (f := ltB) (t := t) (z := z) _ p rfl (by omega)).2.2.1 j h1 h2
    · exact hq v hv
  | false =>
    rw [if_neg (by rw [c]; decide)] at hq
    show ((0 : Int32) = 0 → vp_in x 160 ∧ mx g (d + 6) kX5_isDigit 0 [.int (((M 21) (Int32.toNatClampNeg x)))] [] M _) ∧ (¬ (0 : Int32) = 0 → mx g (d + 6) kX5_wordOf 0 [.ref 18, .int (x), .int (y)] [] M _)
    refine ⟨fun _ => ⟨xin, ?_⟩, fun w => absurd rfl w⟩
    refine c_X5_isDigit ?_
    rw [ec]
    cases c2 : dgB (t p) with
    | true =>
      rw [if_pos c2] at hq
      show ((1 : Int32) = 0 → vp_in x 160 ∧ mx g (d + 6) kX5_signOf 0 [.int (((M 21) (Int32.toNatClampNeg x)))] [] M _) ∧ (¬ (1 : Int32) = 0 → mx g (d + 6) kX5_numberOf 0 [.ref 18, .int (x), .int (y), .null, .null] [] M _)
      refine ⟨fun w => absurd w (by decide), fun _ => ?_⟩
      refine c_X5_numberOf (e := enT t z p) ht hx hy (by omega) eb.2 (fun v hv => ?_)
      exact hq v hv
    | false =>
      rw [if_neg (by rw [c2]; decide)] at hq
      show ((0 : Int32) = 0 → vp_in x 160 ∧ mx g (d + 6) kX5_signOf 0 [.int (((M 21) (Int32.toNatClampNeg x)))] [] M _) ∧ (¬ (0 : Int32) = 0 → mx g (d + 6) kX5_numberOf 0 [.ref 18, .int (x), .int (y), .null, .null] [] M _)
      refine ⟨fun _ => ⟨xin, ?_⟩, fun w => absurd rfl w⟩
      refine c_X5_signOf (fun v hv => ?_)
      rw [ec] at hv
      exact hq v hv
/-- the class cuts the tape -/
theorem c_X5_cut {g : zq_G} {d : Nat} {M : zq_M} {Q : Option Value → zq_M → Prop} {t : Nat → Int} {z : Nat} (ht : tpX M t z) (hq : ∀ (M' : zq_M) (m : Nat), fr (fL [22, 23]) M M' → m ≤ 160 → stS t z m = z → (∀ j, j ≤ m → (M' 22 j).toInt = tkS t z j ∧ (M' 23 j).toInt = ((stS t z j : Nat) : Int)) → Q none M') : mx g (d + 8) kX5_cut 0 [.ref 18, .null, .null, .null, .null] [] M Q := by
  obtain ⟨t1, t2, t3⟩ := id ht
  have f160 : (160 : Int32).toInt = 160 := rfl
  have m22 : (-22 : Int32).toInt = -22 := by decide
  refine mx_go 250 zq_t38 ?_
  show mx g (d + 8) kX5_cut 6 [.ref 18, .int (0), .int (0), .int (0), .null] [] M Q
  refine mx_wf3 (fun a b c : Int32 => [.ref 18, .int a, .int b, .int c, .null]) (fun a b c M' => fr (fL [22, 23]) M M' ∧ ∃ i p : Nat, a.toInt = (i : Int) ∧ b.toInt = (p : Int) ∧ i ≤ p ∧ p ≤ z ∧ 0 ≤ c.toInt ∧ c.toInt ≤ (p : Int) ∧ rz bkB t z p = stS t z i ∧ ∀ j, j < i → (M' 22 j).toInt = tkS t z j ∧ (M' 23 j).toInt = ((stS t z j : Nat) : Int)) (fun _ b _ => (z : Nat) - b.toInt.toNat) ?_ 0 0 0 M ⟨fr_rfl, 0, 0, rfl, rfl, by omega, by omega, by decide, by decide, rfl, fun j hj => by omega⟩
  intro a b c M' ⟨i0, i, p, i1, i2, i3, i4, i5, i6, i7, i8⟩ ih
  have ht' : tpX M' t z := ⟨by rw [i0 18 5 rfl]; exact t1, t2, fun k => by rw [fr_ar i0 21 (fun _ => rfl)]; exact t3 k⟩
  have ain : vp_in a 161 := n_in (by omega) (by omega)
  have fin : (z : Int) ≤ (p : Int) → Q none (zq_ma (zq_ma M' 22 (upd (M' 22) a.toNatClampNeg (-22))) 23 (upd (M' 23) a.toNatClampNeg (M' 18 5))) := by
    intro hz
    have es : stS t z i = z := by rw [← i7, rz_no (fun w => by omega)]; omega
    refine hq _ i (fr_ma (fr_ma i0 (fun _ => rfl)) (fun _ => rfl)) (by omega) es (fun j hj => ?_)
    show (upd (M' 22) a.toNatClampNeg (-22) j).toInt = _ ∧ (upd (M' 23) a.toNatClampNeg (M' 18 5) j).toInt = _
    by_cases e : j = a.toNatClampNeg
    · rw [e, upd_eq, upd_eq, m22, ht'.1]
      rw [n_cl, i1, Int.toNat_natCast, es]
      exact ⟨(tkS_end es i (Nat.le_refl _)).symm, rfl⟩
    · rw [upd_ne e, upd_ne e]
      rw [n_cl] at e
      exact i8 j (by omega)
  refine mx_go 250 zq_t38 ?_
  show ((160 : Int32) ≤ (c : Int32) → vp_in a 161 ∧ vp_in a 161 ∧ Q none (zq_ma (zq_ma M' 22 (upd (M' 22) (Int32.toNatClampNeg a) (-22))) 23 (upd (M' 23) (Int32.toNatClampNeg a) (M' 18 5)))) ∧ (¬ (160 : Int32) ≤ (c : Int32) → (((M' 18 5) : Int32) ≤ (b : Int32) → vp_in a 161 ∧ vp_in a 161 ∧ Q none (zq_ma (zq_ma M' 22 (upd (M' 22) (Int32.toNatClampNeg a) (-22))) 23 (upd (M' 23) (Int32.toNatClampNeg a) (M' 18 5)))) ∧ (¬ ((M' 18 5) : Int32) ≤ (b : Int32) → vp_in b 160 ∧ mx g (d + 7) kX5_isBlank 0 [.int (((M' 21) (Int32.toNatClampNeg b)))] [] M' _))
  refine ⟨fun q => ⟨ain, ain, fin ?_⟩, fun q => ⟨fun r => ⟨ain, ain, fin ?_⟩, fun r => ⟨n_in (by omega) (by rw [n_le, ht'.1] at r; omega), ?_⟩⟩⟩
  · rw [n_le, f160] at q; omega
  · rw [n_le, ht'.1] at r; omega
  rw [n_le, f160] at q
  rw [n_le, ht'.1] at r
  have upc := n_up (n := 160) (x := c) i5 (by omega)
  have upb := n_up (n := 160) (x := b) (by omega) (by omega)
  have ec : (M' 21 b.toNatClampNeg).toInt = t p := by rw [n_cl, i2, Int.toNat_natCast]; exact (ht'.2.2 p).1
  refine c_X5_isBlank ?_
  rw [ec]
  cases cb : bkB (t p) with
  | true =>
    show ((1 : Int32) = 0 → mx g (d + 7) kX5_endOfToken 0 [.ref 18, .int (b), .null, .null] [] M' _) ∧ (¬ (1 : Int32) = 0 → mx g (d + 8) kX5_cut 6 [.ref 18, .int (a), .int ((b + 1)), .int ((c + 1)), .null] [] M' Q)
    refine ⟨fun w => absurd w (by decide), fun _ => ih a (b + 1) (c + 1) M' (by omega) ⟨i0, i, p + 1, i1, by omega, by omega, by omega, by omega, by omega, ?_, i8⟩⟩
    rw [← rz_go (by omega) cb]
    exact i7
  | false =>
    have ep : stS t z i = p := by rw [← i7]; exact rz_no (fun w => by have := w.2; rw [cb] at this; exact abF this)
    have eb := enT_b (t := t) (show p < z by omega)
    show ((0 : Int32) = 0 → mx g (d + 7) kX5_endOfToken 0 [.ref 18, .int (b), .null, .null] [] M' _) ∧ (¬ (0 : Int32) = 0 → mx g (d + 8) kX5_cut 6 [.ref 18, .int (a), .int ((b + 1)), .int ((c + 1)), .null] [] M' Q)
    refine ⟨fun _ => ?_, fun w => absurd rfl w⟩
    refine c_X5_endOfToken ht' i2 (by omega) (fun v hv => ?_)
    show mx g (d + 7) kX5_tokenOf 0 [.ref 18, .int (b), .int (v)] [] M' _
    refine c_X5_tokenOf ht' i2 hv (by omega) (fun w hw => ?_)
    show vp_in a 161 ∧ vp_in a 161 ∧ mx g (d + 8) kX5_cut 6 [.ref 18, .int ((a + 1)), .int (v), .int ((c + 1)), .null] [] (zq_ma (zq_ma M' 22 (upd (M' 22) (Int32.toNatClampNeg a) w)) 23 (upd (M' 23) (Int32.toNatClampNeg a) b)) Q
    have upa := n_up (n := 161) (x := a) (by omega) (by rw [show (161 : Int32).toInt = 161 from rfl]; omega)
    refine ⟨ain, ain, ih (a + 1) v (c + 1) _ (by omega) ⟨fr_ma (fr_ma i0 (fun _ => rfl)) (fun _ => rfl), i + 1, enT t z p, by omega, hv, by omega, eb.2, by omega, by omega, ?_, fun j hj => ?_⟩⟩
    · show _ = if stS t z i < z then rz bkB t z (enT t z (stS t z i)) else stS t z i
      rw [ep, if_pos (by omega)]
    · show (upd (M' 22) a.toNatClampNeg w j).toInt = _ ∧ (upd (M' 23) a.toNatClampNeg b j).toInt = _
      by_cases e : j = a.toNatClampNeg
      · rw [e, upd_eq, upd_eq, hw, i2, n_cl, i1, Int.toNat_natCast, ep]
        refine ⟨?_, rfl⟩
        unfold tkS
        rw [ep, if_pos (by omega)]
      · rw [upd_ne e, upd_ne e]
        rw [n_cl] at e
        exact i8 j (by omega)

