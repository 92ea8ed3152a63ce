theorem stS_all {t : Nat → Int} {z : Nat} : stS t z z = z := by
  have := stS_b (t := t) (z := z) z
  omega
theorem tkn_22 {T : Int} : tkn T = -1 ↔ T = -22 := by
  unfold tkn
  constructor
  · intro h
    repeat' split at h
    all_goals omega
  · intro h
    subst h
    rfl
/-- part p of the reference's text N is l -/
def ptM (N p : Nat) (l : List Int) (M : zq_M) : Prop := (M 60 (3 * N + p)).toInt = (l.length : Int) ∧ ∀ (j : Nat) (s : Int), l[j]? = some s → stp (M 58 (480 * N + 160 * p + j)) (M 59 (480 * N + 160 * p + j)) s
theorem ptM_keep {N p q : Nat} {l : List Int} {M M' : zq_M} (h : ptM N p l M) (hl : l.length ≤ 160) (hq : p < q) (hf : fr (fP (480 * N + 160 * q) (3 * N + q)) M M') : ptM N p l M' := by
  refine ⟨?_, fun j s e => ?_⟩
  · rw [hf 60 (3 * N + p) (by
      show (false || (true && (3 * N + p == 3 * N + q))) = false
      rw [beq_false_of_ne (by omega)]
      rfl)]
    exact h.1
  · have hj : j < l.length := by
      by_cases c : j < l.length
      · exact c
      · rw [List.getElem?_eq_none (by omega)] at e; exact absurd e (by simp)
    rw [hf 58 (480 * N + 160 * p + j) (by
      show (((false || (false && _)) || ((true || false) && decide (480 * N + 160 * q ≤ 480 * N + 160 * p + j))) || (false && _) || (false && _)) = false
      rw [decide_eq_false (by omega)]
      rfl), hf 59 (480 * N + 160 * p + j) (by
      show (((false || (false && _)) || ((false || true) && decide (480 * N + 160 * q ≤ 480 * N + 160 * p + j))) || (false && _) || (false && _)) = false
      rw [decide_eq_false (by omega)]
      rfl)]
    exact h.2 j s e
theorem c_X12_text {g : zq_G} {d : Nat} {M : zq_M} {Q : Option Value → zq_M → Prop} {t : Nat → Int} {z N : Nat} (ht : tpM M t z) (hN : (M 48 11).toInt = (N : Int)) (hN5 : N ≤ 5) (h1 : (txA (tkS t z)).1 = true → ∀ M' : zq_M, fr (fQ N) M M' → M' 48 13 = 0 → M' 48 11 = M 48 11 + 1 → ptM N 0 (txA (tkS t z)).2.2.1 M' → ptM N 1 (txA (tkS t z)).2.2.2.1 M' → ptM N 2 (txA (tkS t z)).2.2.2.2 M' → Q (some (.int (M 48 11 + 1 - 1))) M') (h0 : (txA (tkS t z)).1 = false → ∀ (M' : zq_M) (v : Int32), fr (fQ N) M M' → M' 48 13 = 0 → M' 48 11 = M 48 11 → v.toInt = ((stS t z (txA (tkS t z)).2.1 : Nat) : Int) → Q (some (.int (-100 - v))) M') : mx g (d + 6) kX12_text 0 [.ref 48, .null] [] M Q := by
  have f6 : (6 : Int32).toInt = 6 := rfl
  have m1 : (-1 : Int32).toInt = -1 := by decide
  have hm : z ≤ 160 := ht.2.1
  have hmz := stS_all (t := t) (z := z)
  have hE : ∀ j, z ≤ j → tkS t z j = -22 := fun j hj => tkS_end hmz j hj
  have hA := ptR_bd (p := 0) hE (by omega) (show 0 ≤ z by omega)
  have hB := ptR_bd (p := 1) hE (by omega) hA.1
  have hC := ptR_bd (p := 2) hE (by omega) hB.1
  unfold txA at h0 h1
  refine mx_go 250 zq_t169 ?_
  show (¬ ((M 48 11) : Int32) = (6 : Int32) → mx g (d + 5) kX12_look 0 [.ref 48, .null] [] (zq_mu M 48 14 0) _) ∧ (((M 48 11) : Int32) = (6 : Int32) → Q (some (.int (-4))) M)
  refine ⟨fun _ => ?_, fun y => absurd y (by rw [n_eq, hN, f6]; omega)⟩
  have ht0 : tpM (zq_mu M 48 14 0) t z := ht
  refine c_X12_look (d := d + 3) (p0 := 0) ht0 rfl (by omega) (fun M1 f1 l1 => ?_)
  have f01 : fr fK M M1 := fr_trans (fr_mu fr_rfl rfl) f1
  have li : lkI M1 t z 0 := lkI_of l1
  have e1 : M1 48 11 = M 48 11 := f01 48 11 rfl
  have ht1 : tpM M1 t z := tpM_fr ht f01
  have q01 : fr (fQ N) M M1 := fQ_p (p := 0) (fP_e (fE_k f01))
  show mx g (d + 5) kX12_takesPart 0 [.ref 48, .int (M1 48 11), .int (nI 0), .int 1156, .null] [] M1 _
  refine c_takesPart (N := N) (p := 0) (n := 0) (m := z) ht1 hm hmz (by omega) (by rw [e1]; exact hN) hN5 (by decide) (by omega) li (fun e M2 f2 l2 => ?_) (fun e M2 f2 l2 c2 s2 => ?_)
  · rw [if_neg (by rw [e]; decide)] at h0
    show ((0 : Int32) = 0 → (¬ (0 : Int32) = 0 → Q (some (.int (((M2 48 11) + 1) - 1))) (zq_mu (zq_mu M2 48 13 0) 48 11 ((M2 48 11) + 1))) ∧ ((0 : Int32) = 0 → Q (some (.int ((-100) - (M2 48 14)))) (zq_mu M2 48 13 0))) ∧ (¬ (0 : Int32) = 0 → mx g (d + 5) kX12_takesPart 0 [.ref 48, .int ((M2 48 11)), .int (1), .int (99724), .null] [] M2 _)
    exact ⟨fun _ => ⟨fun y => absurd rfl y, fun _ => h0 rfl _ _ (fr_mu (fr_trans q01 (fQ_p f2)) rfl) rfl (by show M2 48 11 = _; rw [f2 48 11 rfl, e1]) l2.1.1⟩, fun y => absurd rfl y⟩
  rw [if_pos e] at h0 h1
  have lA := hA.2.2 e
  have pA : ptM N 0 (ptR (tkS t z) 0 0).2.2 M2 := ⟨c2, s2⟩
  have q02 := fr_trans q01 (fQ_p f2)
  have e2 : M2 48 11 = M 48 11 := by rw [f2 48 11 rfl, e1]
  have ht2 := tpM_p ht1 f2
  show ((1 : Int32) = 0 → (¬ (0 : Int32) = 0 → Q (some (.int (((M2 48 11) + 1) - 1))) (zq_mu (zq_mu M2 48 13 0) 48 11 ((M2 48 11) + 1))) ∧ ((0 : Int32) = 0 → Q (some (.int ((-100) - (M2 48 14)))) (zq_mu M2 48 13 0))) ∧ (¬ (1 : Int32) = 0 → mx g (d + 5) kX12_takesPart 0 [.ref 48, .int ((M2 48 11)), .int (1), .int (99724), .null] [] M2 _)
  refine ⟨fun y => absurd y (by decide), fun _ => ?_⟩
  show mx g (d + 5) kX12_takesPart 0 [.ref 48, .int (M2 48 11), .int (nI 1), .int 99724, .null] [] M2 _
  refine c_takesPart (N := N) (p := 1) (m := z) ht2 hm hmz (by omega) (by rw [e2]; exact hN) hN5 (by decide) hA.1 l2 (fun e' M3 f3 l3 => ?_) (fun e' M3 f3 l3 c3 s3 => ?_)
  · rw [if_neg (by rw [e']; decide)] at h0
    show ((0 : Int32) = 0 → (¬ (0 : Int32) = 0 → Q (some (.int (((M3 48 11) + 1) - 1))) (zq_mu (zq_mu M3 48 13 0) 48 11 ((M3 48 11) + 1))) ∧ ((0 : Int32) = 0 → Q (some (.int ((-100) - (M3 48 14)))) (zq_mu M3 48 13 0))) ∧ (¬ (0 : Int32) = 0 → mx g (d + 5) kX12_takesPart 0 [.ref 48, .int ((M3 48 11)), .int (2), .int (24627848), .null] [] M3 _)
    exact ⟨fun _ => ⟨fun y => absurd rfl y, fun _ => h0 rfl _ _ (fr_mu (fr_trans q02 (fQ_p f3)) rfl) rfl (by show M3 48 11 = _; rw [f3 48 11 rfl, e2]) l3.1.1⟩, fun y => absurd rfl y⟩
  rw [if_pos e'] at h0 h1
  have lB := hB.2.2 e'
  have pA3 := ptM_keep pA (by omega) (by omega) f3
  have pB : ptM N 1 (ptR (tkS t z) 1 (ptR (tkS t z) 0 0).2.1).2.2 M3 := ⟨c3, s3⟩
  have q03 := fr_trans q02 (fQ_p f3)
  have e3 : M3 48 11 = M 48 11 := by rw [f3 48 11 rfl, e2]
  have ht3 := tpM_p ht2 f3
  show ((1 : Int32) = 0 → (¬ (0 : Int32) = 0 → Q (some (.int (((M3 48 11) + 1) - 1))) (zq_mu (zq_mu M3 48 13 0) 48 11 ((M3 48 11) + 1))) ∧ ((0 : Int32) = 0 → Q (some (.int ((-100) - (M3 48 14)))) (zq_mu M3 48 13 0))) ∧ (¬ (1 : Int32) = 0 → mx g (d + 5) kX12_takesPart 0 [.ref 48, .int ((M3 48 11)), .int (2), .int (24627848), .null] [] M3 _)
  refine ⟨fun y => absurd y (by decide), fun _ => ?_⟩
  show mx g (d + 5) kX12_takesPart 0 [.ref 48, .int (M3 48 11), .int (nI 2), .int 24627848, .null] [] M3 _
  refine c_takesPart (N := N) (p := 2) (m := z) ht3 hm hmz (by omega) (by rw [e3]; exact hN) hN5 (by decide) hB.1 l3 (fun e4 M4 f4 l4 => ?_) (fun e4 M4 f4 l4 c4 s4 => ?_)
  · rw [if_neg (by rw [e4]; decide)] at h0
    show ((0 : Int32) = 0 → (¬ (0 : Int32) = 0 → Q (some (.int (((M4 48 11) + 1) - 1))) (zq_mu (zq_mu M4 48 13 0) 48 11 ((M4 48 11) + 1))) ∧ ((0 : Int32) = 0 → Q (some (.int ((-100) - (M4 48 14)))) (zq_mu M4 48 13 0))) ∧ (¬ (0 : Int32) = 0 → (¬ ((M4 48 15) : Int32) = ((-1) : Int32) → (¬ (0 : Int32) = 0 → Q (some (.int (((M4 48 11) + 1) - 1))) (zq_mu (zq_mu M4 48 13 0) 48 11 ((M4 48 11) + 1))) ∧ ((0 : Int32) = 0 → Q (some (.int ((-100) - (M4 48 14)))) (zq_mu M4 48 13 0))) ∧ (((M4 48 15) : Int32) = ((-1) : Int32) → (¬ (1 : Int32) = 0 → Q (some (.int (((M4 48 11) + 1) - 1))) (zq_mu (zq_mu M4 48 13 0) 48 11 ((M4 48 11) + 1))) ∧ ((1 : Int32) = 0 → Q (some (.int ((-100) - (M4 48 14)))) (zq_mu M4 48 13 0))))
    exact ⟨fun _ => ⟨fun y => absurd rfl y, fun _ => h0 rfl _ _ (fr_mu (fr_trans q03 (fQ_p f4)) rfl) rfl (by show M4 48 11 = _; rw [f4 48 11 rfl, e3]) l4.1.1⟩, fun y => absurd rfl y⟩
  rw [if_pos e4] at h0 h1
  have pA4 := ptM_keep pA3 (by omega) (by omega) f4
  have pB4 := ptM_keep pB (by have := hB.1; omega) (by omega) f4
  have pC : ptM N 2 (ptR (tkS t z) 2 (ptR (tkS t z) 1 (ptR (tkS t z) 0 0).2.1).2.1).2.2 M4 := ⟨c4, s4⟩
  have q04 := fr_trans q03 (fQ_p f4)
  have e4' : M4 48 11 = M 48 11 := by rw [f4 48 11 rfl, e3]
  have k15 := l4.1.2.1
  rw [l4.2] at k15
  generalize ptR (tkS t z) 2 (ptR (tkS t z) 1 (ptR (tkS t z) 0 0).2.1).2.1 = C at h0 h1 hC pC k15 l4
  show ((1 : Int32) = 0 → (¬ (0 : Int32) = 0 → Q (some (.int (((M4 48 11) + 1) - 1))) (zq_mu (zq_mu M4 48 13 0) 48 11 ((M4 48 11) + 1))) ∧ ((0 : Int32) = 0 → Q (some (.int ((-100) - (M4 48 14)))) (zq_mu M4 48 13 0))) ∧ (¬ (1 : Int32) = 0 → (¬ ((M4 48 15) : Int32) = ((-1) : Int32) → (¬ (0 : Int32) = 0 → Q (some (.int (((M4 48 11) + 1) - 1))) (zq_mu (zq_mu M4 48 13 0) 48 11 ((M4 48 11) + 1))) ∧ ((0 : Int32) = 0 → Q (some (.int ((-100) - (M4 48 14)))) (zq_mu M4 48 13 0))) ∧ (((M4 48 15) : Int32) = ((-1) : Int32) → (¬ (1 : Int32) = 0 → Q (some (.int (((M4 48 11) + 1) - 1))) (zq_mu (zq_mu M4 48 13 0) 48 11 ((M4 48 11) + 1))) ∧ ((1 : Int32) = 0 → Q (some (.int ((-100) - (M4 48 14)))) (zq_mu M4 48 13 0))))
  refine ⟨fun y => absurd y (by decide), fun _ => ⟨fun w => ⟨fun y => absurd rfl y, fun _ => ?_⟩, fun w => ⟨fun _ => ?_, fun y => absurd y (by decide)⟩⟩⟩
  · rw [n_eq, m1, k15, tkn_22] at w
    exact h0 (decide_eq_false w) _ _ (fr_mu q04 rfl) rfl e4' l4.1.1
  · rw [n_eq, m1, k15, tkn_22] at w
    rw [e4']
    exact h1 (decide_eq_true w) _ (fr_mu (fr_mu q04 rfl) rfl) rfl rfl pA4 pB4 pC

