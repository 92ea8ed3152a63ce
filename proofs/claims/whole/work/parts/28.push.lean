def mayB (k wet ice : Int32) : Bool := decide (wet.toInt ≠ 0 ∧ (k.toInt = 2 → 2 < ice.toInt) ∧ (k.toInt = 3 → 5 < ice.toInt) ∧ (k.toInt = 4 → 1 ≤ ice.toInt ∧ ice.toInt ≤ 4))
theorem mayB_t {k wet ice : Int32} (h : wet.toInt ≠ 0 ∧ (k.toInt = 2 → 2 < ice.toInt) ∧ (k.toInt = 3 → 5 < ice.toInt) ∧ (k.toInt = 4 → 1 ≤ ice.toInt ∧ ice.toInt ≤ 4)) : mayB k wet ice = true := decide_eq_true h
theorem mayB_f {k wet ice : Int32} (h : ¬ (wet.toInt ≠ 0 ∧ (k.toInt = 2 → 2 < ice.toInt) ∧ (k.toInt = 3 → 5 < ice.toInt) ∧ (k.toInt = 4 → 1 ≤ ice.toInt ∧ ice.toInt ≤ 4))) : mayB k wet ice = false := decide_eq_false h
def dragZ (k num w : Int32) : Int32 := if k.toInt = 1 then 2 * w + num else if k.toInt = 2 then (2 * w + num) / 4 else if k.toInt = 3 then num else if k.toInt = 4 then (2 * w + num) / 4 / 2 else if k.toInt = 5 then 0 else 2 * w
def bareZ (k num w wi : Int32) : Int32 := if k.toInt = 5 then (if num ≤ w / 5 then 0 else 1) else if 0 < (wi - dragZ k num w) / 10 then (if k.toInt = 3 then (if (wi - dragZ k num w) / 10 ≤ 9 then (wi - dragZ k num w) / 10 else 9) else if k.toInt = 4 then (wi - dragZ k num w) / 10 + 1 else (wi - dragZ k num w) / 10) else 0
def clz (v : Int32) : Int32 := if v ≤ 9 then (if -9 ≤ v then v else -9) else 9
def addZ (b v : Int32) : Int32 := if 0 ≤ b + clz v then b + clz v else 0
def sqZ (k num w ni wet ice wi : Int32) (l : List Int) : Int32 := if mayB k wet ice = true then (if bareZ k num w wi = 0 then 0 else addZ (bareZ k num w wi) (evV (fct w num ni wet ice wi) l)) else 0
/-- how far how h pushes stone s on night n if its wind were wi -/
def sq (M : zq_M) (h s n wi : Int32) : Int32 := sqZ (M 11 h.toNatClampNeg) (M 12 h.toNatClampNeg) (M 2 s.toNatClampNeg) n (M 6 n.toNatClampNeg) (M 7 n.toNatClampNeg) wi (tl (M 14) (M 15) (M 13 5).toInt.toNat 0)
theorem mv_id {l : List Nat} {M : zq_M} : mv l M M = M := by
  funext c
  unfold mv
  split <;> rfl
theorem w_div {a : Int32} {b : Int32} (hb : 0 < b.toInt) : (a / b).toInt = a.toInt.tdiv b.toInt := by
  refine Int32.toInt_div_of_ne_right a b (fun h => ?_)
  rw [h, show (-1 : Int32).toInt = -1 by decide] at hb
  omega
theorem bareZ_b {k num w wi : Int32} (n1 : 0 ≤ num.toInt) (n2 : num.toInt ≤ 20) (w1 : 0 ≤ w.toInt) (w2 : w.toInt ≤ 99) (i1 : 0 ≤ wi.toInt) (i2 : wi.toInt ≤ 99) : 0 ≤ (bareZ k num w wi).toInt ∧ (bareZ k num w wi).toInt ≤ 10 := by
  have f2 : (2 : Int32).toInt = 2 := rfl
  have f4 : (4 : Int32).toInt = 4 := rfl
  have f10 : (10 : Int32).toInt = 10 := rfl
  have f9 : (9 : Int32).toInt = 9 := rfl
  have a1 : (2 * w).toInt = 2 * w.toInt := by rw [n_mul, f2, zw_id (by omega) (by omega)]
  have a2 : (2 * w + num).toInt = 2 * w.toInt + num.toInt := by rw [n_add, a1, zw_id (by omega) (by omega)]
  have a3 : ((2 * w + num) / 4).toInt = (2 * w.toInt + num.toInt) / 4 := by rw [← a2]; exact n_div 4 (by decide) (by decide) (by omega)
  have a4 : ((2 * w + num) / 4 / 2).toInt = (2 * w.toInt + num.toInt) / 4 / 2 := by rw [← a3]; exact n_div 2 (by decide) (by decide) (by omega)
  have hd : 0 ≤ (dragZ k num w).toInt ∧ (dragZ k num w).toInt ≤ 300 := by
    unfold dragZ
    split
    · omega
    · split
      · omega
      · split
        · omega
        · split
          · omega
          · split
            · exact ⟨by decide, by decide⟩
            · omega
  have hs : (wi - dragZ k num w).toInt = wi.toInt - (dragZ k num w).toInt := by rw [n_sub, zw_id (by omega) (by omega)]
  have hq : ((wi - dragZ k num w) / 10).toInt ≤ 9 := by
    rw [w_div (by decide), hs, f10]
    have := Int.tdiv_le_tdiv (a := wi.toInt - (dragZ k num w).toInt) (b := 99) (c := 10) (by decide) (by omega)
    exact this
  unfold bareZ
  generalize (wi - dragZ k num w) / 10 = p at hq ⊢
  split
  · split
    · exact ⟨by decide, by decide⟩
    · exact ⟨by decide, by decide⟩
  · split
    · next c =>
      rw [n_lt, n_0] at c
      split
      · split
        · omega
        · exact ⟨by decide, by decide⟩
      · split
        · rw [n_suc (by omega) (by omega)]; omega
        · omega
    · exact ⟨by decide, by decide⟩
theorem clz_b {v : Int32} : -9 ≤ (clz v).toInt ∧ (clz v).toInt ≤ 9 := by
  have f9 : (9 : Int32).toInt = 9 := rfl
  have g9 : (-9 : Int32).toInt = -9 := by decide
  unfold clz
  split
  · next c =>
    rw [n_le, f9] at c
    split
    · next c2 => rw [n_le, g9] at c2; omega
    · rw [g9]; omega
  · rw [f9]; omega
theorem addZ_b {b v : Int32} (h1 : 0 ≤ b.toInt) (h2 : b.toInt ≤ 10) : 0 ≤ (addZ b v).toInt ∧ (addZ b v).toInt ≤ 19 := by
  have hc := clz_b (v := v)
  have e : (b + clz v).toInt = b.toInt + (clz v).toInt := by rw [n_add, zw_id (by omega) (by omega)]
  unfold addZ
  split
  · next c => rw [n_le, n_0] at c; omega
  · exact ⟨by decide, by decide⟩
theorem addZ_x {b v : Int32} : addZ b v = if 0 < b + (if -9 < (if v < 9 then v else 9) then (if v < 9 then v else 9) else -9) then b + (if -9 < (if v < 9 then v else 9) then (if v < 9 then v else 9) else -9) else 0 := by
  have f9 : (9 : Int32).toInt = 9 := rfl
  have g9 : (-9 : Int32).toInt = -9 := by decide
  have e : (if -9 < (if v < 9 then v else 9) then (if v < 9 then v else 9) else -9) = clz v := by
    unfold clz
    by_cases c : v < 9
    · rw [if_pos c]
      rw [n_lt, f9] at c
      rw [if_pos (show v ≤ 9 by rw [n_le, f9]; omega)]
      by_cases c2 : -9 < v
      · rw [if_pos c2]
        rw [n_lt, g9] at c2
        rw [if_pos (show -9 ≤ v by rw [n_le, g9]; omega)]
      · rw [if_neg c2]
        rw [n_lt, g9] at c2
        split
        · next c3 => rw [n_le, g9] at c3; rw [n_eq, g9]; omega
        · rfl
    · rw [if_neg c, if_pos (show (-9 : Int32) < 9 by decide)]
      rw [n_lt, f9] at c
      split
      · next c2 => rw [n_le, f9] at c2; rw [if_pos (show -9 ≤ v by rw [n_le, g9]; omega), n_eq, f9]; omega
      · rfl
  rw [e]
  unfold addZ
  by_cases c : 0 < b + clz v
  · rw [if_pos c]
    rw [n_lt, n_0] at c
    rw [if_pos (show 0 ≤ b + clz v by rw [n_le, n_0]; omega)]
  · rw [if_neg c]
    rw [n_lt, n_0] at c
    split
    · next c2 => rw [n_le, n_0] at c2; rw [n_eq, n_0]; omega
    · rfl
theorem sqZ_b {k num w ni wet ice wi : Int32} {l : List Int} (n1 : 0 ≤ num.toInt) (n2 : num.toInt ≤ 20) (w1 : 0 ≤ w.toInt) (w2 : w.toInt ≤ 99) (i1 : 0 ≤ wi.toInt) (i2 : wi.toInt ≤ 99) : 0 ≤ (sqZ k num w ni wet ice wi l).toInt ∧ (sqZ k num w ni wet ice wi l).toInt ≤ 19 := by
  have hb := bareZ_b (k := k) n1 n2 w1 w2 i1 i2
  unfold sqZ
  split
  · split
    · exact ⟨by decide, by decide⟩
    · exact addZ_b hb.1 hb.2
  · exact ⟨by decide, by decide⟩
theorem c_X0_may {g : zq_G} {d : Nat} {M : zq_M} {Q : Option Value → zq_M → Prop} {h wet ice k : Int32} (hk : M 11 h.toNatClampNeg = k) (a1 : 0 ≤ h.toInt) (a2 : h.toInt < 8) (h1 : mayB k wet ice = true → True → Q (some (.int 1)) M) (h0 : mayB k wet ice = false → Q (some (.int 0)) M) : mx g d kX0_may 0 [.ref 10, .int h, .int wet, .int ice] [] M Q := by
  subst hk
  refine mx_go 200 zq_t3 ?_
  show (¬ (wet : Int32) = 0 → vp_in h 8 ∧ ((((M 11) (Int32.toNatClampNeg h)) : Int32).toInt < 2 ∨ 4 < (((M 11) (Int32.toNatClampNeg h)) : Int32).toInt → zq_b 1 ∧ Q (some (.int 1)) M) ∧ ((((M 11) (Int32.toNatClampNeg h)) : Int32).toInt = 2 → ((ice : Int32) ≤ (2 : Int32) → zq_b 0 ∧ Q (some (.int 0)) M) ∧ (¬ (ice : Int32) ≤ (2 : Int32) → zq_b 1 ∧ Q (some (.int 1)) M)) ∧ ((((M 11) (Int32.toNatClampNeg h)) : Int32).toInt = 3 → ((ice : Int32) ≤ (5 : Int32) → zq_b 0 ∧ Q (some (.int 0)) M) ∧ (¬ (ice : Int32) ≤ (5 : Int32) → zq_b 1 ∧ Q (some (.int 1)) M)) ∧ ((((M 11) (Int32.toNatClampNeg h)) : Int32).toInt = 4 → ((ice : Int32) < (1 : Int32) → zq_b 0 ∧ Q (some (.int 0)) M) ∧ (¬ (ice : Int32) < (1 : Int32) → ((4 : Int32) < (ice : Int32) → zq_b 0 ∧ Q (some (.int 0)) M) ∧ (¬ (4 : Int32) < (ice : Int32) → zq_b 1 ∧ Q (some (.int 1)) M)))) ∧ ((wet : Int32) = 0 → zq_b 0 ∧ Q (some (.int 0)) M)
  refine ⟨fun q1 => ?_, fun q1 => ?_⟩
  · refine ⟨(n_in (by (first | omega | (simp only [n_lt, n_le, n_eq, n_add, n_sub, n_mul, n_neg, n_lit, zw] at *; omega))) (by (first | omega | (simp only [n_lt, n_le, n_eq, n_add, n_sub, n_mul, n_neg, n_lit, zw] at *; omega)))), ?_⟩
    refine ⟨fun q2 => ?_, fun q2 => ?_, fun q2 => ?_, fun q2 => ?_⟩
    · refine ⟨(by first | exact Or.inl rfl | exact Or.inr rfl), ?_⟩
      exact h1 (mayB_t (by (simp only [n_lt, n_le, n_eq, n_add, n_sub, n_mul, n_neg, n_lit, zw] at *; omega))) trivial
    · refine ⟨fun q3 => ?_, fun q3 => ?_⟩
      · refine ⟨(by first | exact Or.inl rfl | exact Or.inr rfl), ?_⟩
        exact h0 (mayB_f (by (simp only [n_lt, n_le, n_eq, n_add, n_sub, n_mul, n_neg, n_lit, zw] at *; omega)))
      · refine ⟨(by first | exact Or.inl rfl | exact Or.inr rfl), ?_⟩
        exact h1 (mayB_t (by (simp only [n_lt, n_le, n_eq, n_add, n_sub, n_mul, n_neg, n_lit, zw] at *; omega))) trivial
    · refine ⟨fun q4 => ?_, fun q4 => ?_⟩
      · refine ⟨(by first | exact Or.inl rfl | exact Or.inr rfl), ?_⟩
        exact h0 (mayB_f (by (simp only [n_lt, n_le, n_eq, n_add, n_sub, n_mul, n_neg, n_lit, zw] at *; omega)))
      · refine ⟨(by first | exact Or.inl rfl | exact Or.inr rfl), ?_⟩
        exact h1 (mayB_t (by (simp only [n_lt, n_le, n_eq, n_add, n_sub, n_mul, n_neg, n_lit, zw] at *; omega))) trivial
    · refine ⟨fun q5 => ?_, fun q5 => ?_⟩
      · refine ⟨(by first | exact Or.inl rfl | exact Or.inr rfl), ?_⟩
        exact h0 (mayB_f (by (simp only [n_lt, n_le, n_eq, n_add, n_sub, n_mul, n_neg, n_lit, zw] at *; omega)))
      · refine ⟨fun q6 => ?_, fun q6 => ?_⟩
        · refine ⟨(by first | exact Or.inl rfl | exact Or.inr rfl), ?_⟩
          exact h0 (mayB_f (by (simp only [n_lt, n_le, n_eq, n_add, n_sub, n_mul, n_neg, n_lit, zw] at *; omega)))
        · refine ⟨(by first | exact Or.inl rfl | exact Or.inr rfl), ?_⟩
          exact h1 (mayB_t (by (simp only [n_lt, n_le, n_eq, n_add, n_sub, n_mul, n_neg, n_lit, zw] at *; omega))) trivial
  · refine ⟨(by first | exact Or.inl rfl | exact Or.inr rfl), ?_⟩
    exact h0 (mayB_f (by (simp only [n_lt, n_le, n_eq, n_add, n_sub, n_mul, n_neg, n_lit, zw] at *; omega)))
theorem c_X12_may {g : zq_G} {d : Nat} {M : zq_M} {Q : Option Value → zq_M → Prop} {h n wet ice k : Int32} (hk : M 55 h.toNatClampNeg = k) (hw : M 51 n.toNatClampNeg = wet) (hi : M 52 n.toNatClampNeg = ice) (a1 : 0 ≤ h.toInt) (a2 : h.toInt < 8) (b1 : 0 ≤ n.toInt) (b2 : n.toInt < 60) (h1 : mayB k wet ice = true → True → Q (some (.int 1)) M) (h0 : mayB k wet ice = false → Q (some (.int 0)) M) : mx g (d + 1) kX12_may 0 [.ref 48, .int h, .int n] [] M Q := by
  subst hk hw hi
  refine mx_go 200 zq_t175 ?_
  show vp_in n 60 ∧ (¬ (((M 51) (Int32.toNatClampNeg n)) : Int32) = 0 → vp_in h 8 ∧ ((((M 55) (Int32.toNatClampNeg h)) : Int32).toInt < 2 ∨ 4 < (((M 55) (Int32.toNatClampNeg h)) : Int32).toInt → zq_b 1 ∧ Q (some (.int 1)) M) ∧ ((((M 55) (Int32.toNatClampNeg h)) : Int32).toInt = 2 → vp_in n 60 ∧ ((((M 52) (Int32.toNatClampNeg n)) : Int32) ≤ (2 : Int32) → zq_b 0 ∧ Q (some (.int 0)) M) ∧ (¬ (((M 52) (Int32.toNatClampNeg n)) : Int32) ≤ (2 : Int32) → zq_b 1 ∧ Q (some (.int 1)) M)) ∧ ((((M 55) (Int32.toNatClampNeg h)) : Int32).toInt = 3 → vp_in n 60 ∧ ((((M 52) (Int32.toNatClampNeg n)) : Int32) ≤ (5 : Int32) → zq_b 0 ∧ Q (some (.int 0)) M) ∧ (¬ (((M 52) (Int32.toNatClampNeg n)) : Int32) ≤ (5 : Int32) → zq_b 1 ∧ Q (some (.int 1)) M)) ∧ ((((M 55) (Int32.toNatClampNeg h)) : Int32).toInt = 4 → vp_in n 60 ∧ mx g (d) kX12_in 0 [.ref 48, .int (((M 52) (Int32.toNatClampNeg n))), .int (1), .int (4)] [] M _)) ∧ ((((M 51) (Int32.toNatClampNeg n)) : Int32) = 0 → zq_b 0 ∧ Q (some (.int 0)) M)
  refine ⟨(n_in (by (first | omega | (simp only [n_lt, n_le, n_eq, n_add, n_sub, n_mul, n_neg, n_lit, zw] at *; omega))) (by (first | omega | (simp only [n_lt, n_le, n_eq, n_add, n_sub, n_mul, n_neg, n_lit, zw] at *; omega)))), ?_⟩
  refine ⟨fun q1 => ?_, fun q1 => ?_⟩
  · refine ⟨(n_in (by (first | omega | (simp only [n_lt, n_le, n_eq, n_add, n_sub, n_mul, n_neg, n_lit, zw] at *; omega))) (by (first | omega | (simp only [n_lt, n_le, n_eq, n_add, n_sub, n_mul, n_neg, n_lit, zw] at *; omega)))), ?_⟩
    refine ⟨fun q2 => ?_, fun q2 => ?_, fun q2 => ?_, fun q2 => ?_⟩
    · refine ⟨(by first | exact Or.inl rfl | exact Or.inr rfl), ?_⟩
      exact h1 (mayB_t (by (simp only [n_lt, n_le, n_eq, n_add, n_sub, n_mul, n_neg, n_lit, zw] at *; omega))) trivial
    · refine ⟨(n_in (by (first | omega | (simp only [n_lt, n_le, n_eq, n_add, n_sub, n_mul, n_neg, n_lit, zw] at *; omega))) (by (first | omega | (simp only [n_lt, n_le, n_eq, n_add, n_sub, n_mul, n_neg, n_lit, zw] at *; omega)))), ?_⟩
      refine ⟨fun q3 => ?_, fun q3 => ?_⟩
      · refine ⟨(by first | exact Or.inl rfl | exact Or.inr rfl), ?_⟩
        exact h0 (mayB_f (by (simp only [n_lt, n_le, n_eq, n_add, n_sub, n_mul, n_neg, n_lit, zw] at *; omega)))
      · refine ⟨(by first | exact Or.inl rfl | exact Or.inr rfl), ?_⟩
        exact h1 (mayB_t (by (simp only [n_lt, n_le, n_eq, n_add, n_sub, n_mul, n_neg, n_lit, zw] at *; omega))) trivial
    · refine ⟨(n_in (by (first | omega | (simp only [n_lt, n_le, n_eq, n_add, n_sub, n_mul, n_neg, n_lit, zw] at *; omega))) (by (first | omega | (simp only [n_lt, n_le, n_eq, n_add, n_sub, n_mul, n_neg, n_lit, zw] at *; omega)))), ?_⟩
      refine ⟨fun q4 => ?_, fun q4 => ?_⟩
      · refine ⟨(by first | exact Or.inl rfl | exact Or.inr rfl), ?_⟩
        exact h0 (mayB_f (by (simp only [n_lt, n_le, n_eq, n_add, n_sub, n_mul, n_neg, n_lit, zw] at *; omega)))
      · refine ⟨(by first | exact Or.inl rfl | exact Or.inr rfl), ?_⟩
        exact h1 (mayB_t (by (simp only [n_lt, n_le, n_eq, n_add, n_sub, n_mul, n_neg, n_lit, zw] at *; omega))) trivial
    · refine ⟨(n_in (by (first | omega | (simp only [n_lt, n_le, n_eq, n_add, n_sub, n_mul, n_neg, n_lit, zw] at *; omega))) (by (first | omega | (simp only [n_lt, n_le, n_eq, n_add, n_sub, n_mul, n_neg, n_lit, zw] at *; omega)))), ?_⟩
      refine c_X12_in (fun k5 k6 => ?_) (fun k7 => ?_)
      · show zq_b 1 ∧ Q (some (.int 1)) M
        refine ⟨(by first | exact Or.inl rfl | exact Or.inr rfl), ?_⟩
        exact h1 (mayB_t (by (simp only [n_lt, n_le, n_eq, n_add, n_sub, n_mul, n_neg, n_lit, zw] at *; omega))) trivial
      · show zq_b 0 ∧ Q (some (.int 0)) M
        refine ⟨(by first | exact Or.inl rfl | exact Or.inr rfl), ?_⟩
        exact h0 (mayB_f (by (simp only [n_lt, n_le, n_eq, n_add, n_sub, n_mul, n_neg, n_lit, zw] at *; omega)))
  · refine ⟨(by first | exact Or.inl rfl | exact Or.inr rfl), ?_⟩
    exact h0 (mayB_f (by (simp only [n_lt, n_le, n_eq, n_add, n_sub, n_mul, n_neg, n_lit, zw] at *; omega)))
theorem c_X0_drag {g : zq_G} {d : Nat} {M : zq_M} {Q : Option Value → zq_M → Prop} {h w k num : Int32} (hk : M 11 h.toNatClampNeg = k) (hn : M 12 h.toNatClampNeg = num) (a1 : 0 ≤ h.toInt) (a2 : h.toInt < 8) (k1 : 0 ≤ k.toInt) (k2 : k.toInt ≤ 5) (hq : Q (some (.int (dragZ k num w))) M) : mx g d kX0_drag 0 [.ref 10, .int h, .int w, .null, .null, .null] [] M Q := by
  refine mx_go 60 zq_t4 ?_
  show vp_in h 8 ∧ (¬ (4 : Int32) = 0) ∧ vp_in h 8 ∧ ((((M 11) (Int32.toNatClampNeg h)) : Int32).toInt < 1 ∨ 5 < (((M 11) (Int32.toNatClampNeg h)) : Int32).toInt → Q (some (.int (2 * w))) M) ∧ ((((M 11) (Int32.toNatClampNeg h)) : Int32).toInt = 1 → Q (some (.int ((2 * w) + ((M 12) (Int32.toNatClampNeg h))))) M) ∧ ((((M 11) (Int32.toNatClampNeg h)) : Int32).toInt = 2 → Q (some (.int (((2 * w) + ((M 12) (Int32.toNatClampNeg h))) / 4))) M) ∧ ((((M 11) (Int32.toNatClampNeg h)) : Int32).toInt = 3 → vp_in h 8 ∧ Q (some (.int ((M 12) (Int32.toNatClampNeg h)))) M) ∧ ((((M 11) (Int32.toNatClampNeg h)) : Int32).toInt = 4 → (¬ (2 : Int32) = 0) ∧ Q (some (.int ((((2 * w) + ((M 12) (Int32.toNatClampNeg h))) / 4) / 2))) M) ∧ ((((M 11) (Int32.toNatClampNeg h)) : Int32).toInt = 5 → Q (some (.int 0)) M)
  rw [hk, hn]
  have hin : vp_in h 8 := n_in a1 a2
  unfold dragZ at hq
  refine ⟨hin, by decide, hin, fun q => ?_, fun q => ?_, fun q => ?_, fun q => ⟨hin, ?_⟩, fun q => ⟨by decide, ?_⟩, fun q => ?_⟩
  · rw [if_neg (by omega), if_neg (by omega), if_neg (by omega), if_neg (by omega), if_neg (by omega)] at hq; exact hq
  · rw [if_pos q] at hq; exact hq
  · rw [if_neg (by omega), if_pos q] at hq; exact hq
  · rw [if_neg (by omega), if_neg (by omega), if_pos q] at hq; exact hq
  · rw [if_neg (by omega), if_neg (by omega), if_neg (by omega), if_pos q] at hq; exact hq
  · rw [if_neg (by omega), if_neg (by omega), if_neg (by omega), if_neg (by omega), if_pos q] at hq; exact hq
theorem c_X12_drag {g : zq_G} {d : Nat} {M : zq_M} {Q : Option Value → zq_M → Prop} {h s w k num : Int32} (hk : M 55 h.toNatClampNeg = k) (hn : M 56 h.toNatClampNeg = num) (hw : M 49 s.toNatClampNeg = w) (a1 : 0 ≤ h.toInt) (a2 : h.toInt < 8) (b1 : 0 ≤ s.toInt) (b2 : s.toInt < 10) (k1 : 0 ≤ k.toInt) (k2 : k.toInt ≤ 5) (hq : Q (some (.int (dragZ k num w))) M) : mx g d kX12_drag 0 [.ref 48, .int h, .int s, .null] [] M Q := by
  refine mx_go 60 zq_t176 ?_
  show vp_in s 10 ∧ vp_in h 8 ∧ vp_in h 8 ∧ ((((M 55) (Int32.toNatClampNeg h)) : Int32).toInt < 0 ∨ 4 < (((M 55) (Int32.toNatClampNeg h)) : Int32).toInt → Q (some (.int 0)) M) ∧ ((((M 55) (Int32.toNatClampNeg h)) : Int32).toInt = 0 → vp_in s 10 ∧ Q (some (.int (2 * ((M 49) (Int32.toNatClampNeg s))))) M) ∧ ((((M 55) (Int32.toNatClampNeg h)) : Int32).toInt = 1 → Q (some (.int ((2 * ((M 49) (Int32.toNatClampNeg s))) + ((M 56) (Int32.toNatClampNeg h))))) M) ∧ ((((M 55) (Int32.toNatClampNeg h)) : Int32).toInt = 2 → (¬ (4 : Int32) = 0) ∧ Q (some (.int (((2 * ((M 49) (Int32.toNatClampNeg s))) + ((M 56) (Int32.toNatClampNeg h))) / 4))) M) ∧ ((((M 55) (Int32.toNatClampNeg h)) : Int32).toInt = 3 → vp_in h 8 ∧ Q (some (.int ((M 56) (Int32.toNatClampNeg h)))) M) ∧ ((((M 55) (Int32.toNatClampNeg h)) : Int32).toInt = 4 → (¬ (4 : Int32) = 0) ∧ (¬ (2 : Int32) = 0) ∧ Q (some (.int ((((2 * ((M 49) (Int32.toNatClampNeg s))) + ((M 56) (Int32.toNatClampNeg h))) / 4) / 2))) M)
  rw [hk, hn, hw]
  have hin : vp_in h 8 := n_in a1 a2
  have sin : vp_in s 10 := n_in b1 b2
  unfold dragZ at hq
  refine ⟨sin, hin, hin, fun q => ?_, fun q => ⟨sin, ?_⟩, fun q => ?_, fun q => ⟨by decide, ?_⟩, fun q => ⟨hin, ?_⟩, fun q => ⟨by decide, by decide, ?_⟩⟩
  · rw [if_neg (by omega), if_neg (by omega), if_neg (by omega), if_neg (by omega), if_pos (by omega)] at hq; exact hq
  · rw [if_neg (by omega), if_neg (by omega), if_neg (by omega), if_neg (by omega), if_neg (by omega)] at hq; exact hq
  · rw [if_pos q] at hq; exact hq
  · rw [if_neg (by omega), if_pos q] at hq; exact hq
  · rw [if_neg (by omega), if_neg (by omega), if_pos q] at hq; exact hq
  · rw [if_neg (by omega), if_neg (by omega), if_neg (by omega), if_pos q] at hq; exact hq
theorem c_X0_barePush {g : zq_G} {d : Nat} {M : zq_M} {Q : Option Value → zq_M → Prop} {h w k num wi : Int32} (hk : M 11 h.toNatClampNeg = k) (hn : M 12 h.toNatClampNeg = num) (a1 : 0 ≤ h.toInt) (a2 : h.toInt < 8) (k1 : 0 ≤ k.toInt) (k2 : k.toInt ≤ 5) (hq : Q (some (.int (bareZ k num w wi))) M) : mx g (d + 1) kX0_barePush 0 [.ref 10, .int h, .int w, .int wi, .null] [] M Q := by
  refine mx_go 60 zq_t5 ?_
  show vp_in h 8 ∧ (¬ (((M 11) (Int32.toNatClampNeg h)) : Int32) = (5 : Int32) → mx g (d) kX0_drag 0 [.ref 10, .int (h), .int (w), .null, .null, .null] [] M _) ∧ ((((M 11) (Int32.toNatClampNeg h)) : Int32) = (5 : Int32) → vp_in h 8 ∧ (¬ (5 : Int32) = 0) ∧ ((((M 12) (Int32.toNatClampNeg h)) : Int32) ≤ ((w / 5) : Int32) → mx g (d) kX11_bit 0 [.int (0)] [] M _) ∧ (¬ (((M 12) (Int32.toNatClampNeg h)) : Int32) ≤ ((w / 5) : Int32) → mx g (d) kX11_bit 0 [.int (1)] [] M _))
  rw [hk, hn]
  have hin : vp_in h 8 := n_in a1 a2
  have f5 : (5 : Int32).toInt = 5 := rfl
  have f3 : (3 : Int32).toInt = 3 := rfl
  have f4 : (4 : Int32).toInt = 4 := rfl
  have f9 : (9 : Int32).toInt = 9 := rfl
  unfold bareZ at hq
  refine ⟨hin, fun q => ?_, fun q => ⟨hin, by decide, fun r => ?_, fun r => ?_⟩⟩
  · rw [n_eq, f5] at q
    rw [if_neg q] at hq
    refine c_X0_drag hk hn a1 a2 k1 k2 ?_
    show (¬ (10 : Int32) = 0) ∧ vp_in h 8 ∧ (¬ (((M 11) (Int32.toNatClampNeg h)) : Int32) = (3 : Int32) → vp_in h 8 ∧ (¬ (((M 11) (Int32.toNatClampNeg h)) : Int32) = (4 : Int32) → Q (some (.int (if 0 < ((wi - (dragZ k num w)) / 10) then ((wi - (dragZ k num w)) / 10) else 0))) M) ∧ ((((M 11) (Int32.toNatClampNeg h)) : Int32) = (4 : Int32) → (((if 0 < ((wi - (dragZ k num w)) / 10) then ((wi - (dragZ k num w)) / 10) else 0) : Int32) ≤ 0 → Q (some (.int (if 0 < ((wi - (dragZ k num w)) / 10) then ((wi - (dragZ k num w)) / 10) else 0))) M) ∧ (¬ ((if 0 < ((wi - (dragZ k num w)) / 10) then ((wi - (dragZ k num w)) / 10) else 0) : Int32) ≤ 0 → Q (some (.int ((if 0 < ((wi - (dragZ k num w)) / 10) then ((wi - (dragZ k num w)) / 10) else 0) + 1))) M))) ∧ ((((M 11) (Int32.toNatClampNeg h)) : Int32) = (3 : Int32) → Q (some (.int (if (if 0 < ((wi - (dragZ k num w)) / 10) then ((wi - (dragZ k num w)) / 10) else 0) < 9 then (if 0 < ((wi - (dragZ k num w)) / 10) then ((wi - (dragZ k num w)) / 10) else 0) else 9))) M)
    rw [hk]
    generalize (wi - dragZ k num w) / 10 = p at hq ⊢
    refine ⟨by decide, hin, fun r => ⟨hin, fun s => ?_, fun s => ⟨fun t => ?_, fun t => ?_⟩⟩, fun r => ?_⟩
    · rw [n_eq, f3] at r
      rw [n_eq, f4] at s
      rw [if_neg r, if_neg s] at hq
      exact hq
    · rw [n_eq, f4] at s
      by_cases c : 0 < p
      · rw [if_pos c] at t; rw [n_le, n_0] at t; rw [n_lt, n_0] at c; omega
      · rw [if_neg c] at hq ⊢; exact hq
    · rw [n_eq, f4] at s
      by_cases c : 0 < p
      · rw [if_pos c] at hq ⊢
        rw [if_neg (by omega), if_pos s] at hq
        exact hq
      · rw [if_neg c] at t; exact absurd (by decide) t
    · rw [n_eq, f3] at r
      by_cases c : 0 < p
      · rw [if_pos c, if_pos r] at hq
        rw [if_pos c]
        by_cases c2 : p < 9
        · rw [if_pos c2]
          rw [n_lt, f9] at c2
          rw [if_pos (by rw [n_le, f9]; omega)] at hq
          exact hq
        · rw [if_neg c2]
          rw [n_lt, f9] at c2
          by_cases c3 : p ≤ 9
          · rw [if_pos c3] at hq
            rw [n_le, f9] at c3
            rw [show p = 9 by rw [n_eq, f9]; omega] at hq
            exact hq
          · rw [if_neg c3] at hq; exact hq
      · rw [if_neg c] at hq ⊢
        rw [if_pos (by decide)]
        exact hq
  · rw [n_eq, f5] at q
    rw [if_pos q, if_pos r] at hq
    refine c_X11_bit (fun z => absurd rfl z) (fun _ => ?_)
    show Q (some (.int 0)) M
    exact hq
  · rw [n_eq, f5] at q
    rw [if_pos q, if_neg r] at hq
    refine c_X11_bit (fun _ => ?_) (fun z => absurd z (by decide))
    show Q (some (.int 1)) M
    exact hq
