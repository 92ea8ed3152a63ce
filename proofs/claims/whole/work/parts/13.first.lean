theorem c_someAt {g : zq_G} {d : Nat} {M : zq_M} {Q : Option Value → zq_M → Prop} {p : Int32} {n : Nat} (hn : M 1 3 = nI n) (h10 : n ≤ 10) (h1 : ∀ i, i < n → M 3 i = p → Q (some (.int 1)) M) (h0 : (∀ i, i < n → ¬ M 3 i = p) → Q (some (.int 0)) M) : mx g d kX7_someAt 0 [.ref 1, .int p, .null] [] M Q := by
  have loop : ∀ k i, i + k = n → (∀ j, j < i → ¬ M 3 j = p) → mx g d kX7_someAt 2 [.ref 1, .int p, .int (nI i)] [] M Q := by
    intro k
    induction k with
    | zero =>
      intro i hi hj
      refine mx_go 20 zq_t59 ?_
      show (M 1 3 ≤ nI i → zq_b 0 ∧ Q (some (.int 0)) M) ∧ (¬ M 1 3 ≤ nI i → vp_in (nI i) 10 ∧ (¬ M 3 (nI i).toNatClampNeg = p → mx g d kX7_someAt 2 [.ref 1, .int p, .int (nI i + 1)] [] M Q) ∧ (M 3 (nI i).toNatClampNeg = p → zq_b 1 ∧ Q (some (.int 1)) M))
      rw [hn]
      exact ⟨fun _ => ⟨Or.inl rfl, h0 (fun j hj' => hj j (by omega))⟩, fun q => absurd (nI_le (by omega) (by omega)) q⟩
    | succ k ih =>
      intro i hi hj
      refine mx_go 20 zq_t59 ?_
      show (M 1 3 ≤ nI i → zq_b 0 ∧ Q (some (.int 0)) M) ∧ (¬ M 1 3 ≤ nI i → vp_in (nI i) 10 ∧ (¬ M 3 (nI i).toNatClampNeg = p → mx g d kX7_someAt 2 [.ref 1, .int p, .int (nI i + 1)] [] M Q) ∧ (M 3 (nI i).toNatClampNeg = p → zq_b 1 ∧ Q (some (.int 1)) M))
      rw [hn, nI_clamp (by omega), nI_1]
      refine ⟨fun q => absurd q (nI_ge (by omega) (by omega)), fun _ => ⟨vp_in_nI (by omega) (by omega), fun q => ih (i + 1) (by omega) (fun j hj' => ?_), fun q => ⟨Or.inr rfl, h1 i (by omega) q⟩⟩⟩
      rcases Nat.lt_or_ge j i with a | a
      · exact hj j a
      · rw [show j = i by omega]; exact q
  refine mx_go 20 zq_t59 ?_
  exact loop n 0 (by omega) (fun j hj => absurd hj (Nat.not_lt_zero j))
