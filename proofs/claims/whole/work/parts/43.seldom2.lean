theorem c_sel77 {g : zq_G} {d : Nat} {M : zq_M} {Q : Option Value → zq_M → Prop} {h p n ro lo ca ri k : Int32} {a b : Bool} (hq : mx g d kX12_seldom 39 [.ref 48, .int h, .int p, .int (n + bI a), .int (roN a ro), .int (mxJ lo (roN a ro)), .int (ca + bI b), .int (ri + bI (b && a)), .int (k + 1), .null, .null, .null, .null, .null] [] M Q) : mx g d kX12_seldom 77 [.ref 48, .int h, .int p, .int n, .int ro, .int lo, .int ca, .int ri, .int k, .int (bI a), .null, .null, .null, .null] [.int (bI b)] M Q := by
  cases a <;> cases b
  · refine mx_go 250 zq_t209 ?_
    show ((0 : Int32) = 0 → mx g (d) kX12_seldom 90 [.ref 48, .int (h), .int (p), .null, .int (ro), .int (lo), .int (ca), .int (ri), .int (k), .int (0), .int (0), .null, .null, .null] [.int (0), .int (n)] M Q) ∧ (¬ (0 : Int32) = 0 → mx g (d) kX12_seldom 90 [.ref 48, .int (h), .int (p), .null, .int (ro), .int (lo), .int (ca), .int (ri), .int (k), .int (0), .int (0), .null, .null, .null] [.int (1), .int (n)] M Q)
    refine ⟨fun _ => ?_, fun z => absurd rfl z⟩
    refine mx_go 250 zq_t209 ?_
    show ((0 : Int32) = 0 → mx g (d) kX12_seldom 105 [.ref 48, .int (h), .int (p), .int ((n + 0)), .null, .int (lo), .int (ca), .int (ri), .int (k), .int (0), .int (0), .null, .null, .null] [.int ((ro + 1))] M Q) ∧ (¬ (0 : Int32) = 0 → mx g (d) kX12_seldom 105 [.ref 48, .int (h), .int (p), .int ((n + 0)), .null, .int (lo), .int (ca), .int (ri), .int (k), .int (0), .int (0), .null, .null, .null] [.int (0)] M Q)
    refine ⟨fun _ => ?_, fun z => absurd rfl z⟩
    refine mx_go 250 zq_t209 ?_
    show (((ro + 1) : Int32) ≤ (lo : Int32) → mx g (d) kX12_seldom 121 [.ref 48, .int (h), .int (p), .int ((n + 0)), .int ((ro + 1)), .null, .int (ca), .int (ri), .int (k), .int (0), .int (0), .null, .null, .null] [.int (lo)] M Q) ∧ (¬ ((ro + 1) : Int32) ≤ (lo : Int32) → mx g (d) kX12_seldom 121 [.ref 48, .int (h), .int (p), .int ((n + 0)), .int ((ro + 1)), .null, .int (ca), .int (ri), .int (k), .int (0), .int (0), .null, .null, .null] [.int ((ro + 1))] M Q)
    have fin : ∀ l2 : Int32, mxJ lo (roN false ro) = l2 → mx g d kX12_seldom 121 [.ref 48, .int h, .int p, .int (n + 0), .int (ro + 1), .null, .int ca, .int ri, .int k, .int 0, .int 0, .null, .null, .null] [.int l2] M Q := by
      intro l2 el
      rw [el] at hq
      refine mx_go 250 zq_t209 ?_
      show ((0 : Int32) = 0 → mx g (d) kX12_seldom 135 [.ref 48, .int (h), .int (p), .int ((n + 0)), .int ((ro + 1)), .int (l2), .null, .int (ri), .int (k), .int (0), .int (0), .null, .null, .null] [.int (0), .int (ca)] M Q) ∧ (¬ (0 : Int32) = 0 → mx g (d) kX12_seldom 135 [.ref 48, .int (h), .int (p), .int ((n + 0)), .int ((ro + 1)), .int (l2), .null, .int (ri), .int (k), .int (0), .int (0), .null, .null, .null] [.int (1), .int (ca)] M Q)
      refine ⟨fun _ => ?_, fun z => absurd rfl z⟩
      refine mx_go 250 zq_t209 ?_
      show ((0 : Int32) = 0 → mx g (d) kX12_seldom 155 [.ref 48, .int (h), .int (p), .int ((n + 0)), .int ((ro + 1)), .int (l2), .int ((ca + 0)), .null, .int (k), .null, .null, .null, .null, .null] [.int (0), .int (ri)] M Q) ∧ (¬ (0 : Int32) = 0 → ((0 : Int32) = 0 → mx g (d) kX12_seldom 155 [.ref 48, .int (h), .int (p), .int ((n + 0)), .int ((ro + 1)), .int (l2), .int ((ca + 0)), .null, .int (k), .null, .null, .null, .null, .null] [.int (0), .int (ri)] M Q) ∧ (¬ (0 : Int32) = 0 → mx g (d) kX12_seldom 155 [.ref 48, .int (h), .int (p), .int ((n + 0)), .int ((ro + 1)), .int (l2), .int ((ca + 0)), .null, .int (k), .null, .null, .null, .null, .null] [.int (1), .int (ri)] M Q))
      refine ⟨fun _ => ?_, fun z => absurd rfl z⟩
      refine mx_go 250 zq_t209 ?_
      show mx g (d) kX12_seldom 39 [.ref 48, .int (h), .int (p), .int ((n + 0)), .int ((ro + 1)), .int (l2), .int ((ca + 0)), .int ((ri + 0)), .int ((k + 1)), .null, .null, .null, .null, .null] [] M Q
      exact hq
    exact ⟨fun c => fin lo (mxJ_le c), fun c => fin _ (mxJ_gt c)⟩
  · refine mx_go 250 zq_t209 ?_
    show ((0 : Int32) = 0 → mx g (d) kX12_seldom 90 [.ref 48, .int (h), .int (p), .null, .int (ro), .int (lo), .int (ca), .int (ri), .int (k), .int (0), .int (1), .null, .null, .null] [.int (0), .int (n)] M Q) ∧ (¬ (0 : Int32) = 0 → mx g (d) kX12_seldom 90 [.ref 48, .int (h), .int (p), .null, .int (ro), .int (lo), .int (ca), .int (ri), .int (k), .int (0), .int (1), .null, .null, .null] [.int (1), .int (n)] M Q)
    refine ⟨fun _ => ?_, fun z => absurd rfl z⟩
    refine mx_go 250 zq_t209 ?_
    show ((0 : Int32) = 0 → mx g (d) kX12_seldom 105 [.ref 48, .int (h), .int (p), .int ((n + 0)), .null, .int (lo), .int (ca), .int (ri), .int (k), .int (0), .int (1), .null, .null, .null] [.int ((ro + 1))] M Q) ∧ (¬ (0 : Int32) = 0 → mx g (d) kX12_seldom 105 [.ref 48, .int (h), .int (p), .int ((n + 0)), .null, .int (lo), .int (ca), .int (ri), .int (k), .int (0), .int (1), .null, .null, .null] [.int (0)] M Q)
    refine ⟨fun _ => ?_, fun z => absurd rfl z⟩
    refine mx_go 250 zq_t209 ?_
    show (((ro + 1) : Int32) ≤ (lo : Int32) → mx g (d) kX12_seldom 121 [.ref 48, .int (h), .int (p), .int ((n + 0)), .int ((ro + 1)), .null, .int (ca), .int (ri), .int (k), .int (0), .int (1), .null, .null, .null] [.int (lo)] M Q) ∧ (¬ ((ro + 1) : Int32) ≤ (lo : Int32) → mx g (d) kX12_seldom 121 [.ref 48, .int (h), .int (p), .int ((n + 0)), .int ((ro + 1)), .null, .int (ca), .int (ri), .int (k), .int (0), .int (1), .null, .null, .null] [.int ((ro + 1))] M Q)
    have fin : ∀ l2 : Int32, mxJ lo (roN false ro) = l2 → mx g d kX12_seldom 121 [.ref 48, .int h, .int p, .int (n + 0), .int (ro + 1), .null, .int ca, .int ri, .int k, .int 0, .int 1, .null, .null, .null] [.int l2] M Q := by
      intro l2 el
      rw [el] at hq
      refine mx_go 250 zq_t209 ?_
      show ((1 : Int32) = 0 → mx g (d) kX12_seldom 135 [.ref 48, .int (h), .int (p), .int ((n + 0)), .int ((ro + 1)), .int (l2), .null, .int (ri), .int (k), .int (0), .int (1), .null, .null, .null] [.int (0), .int (ca)] M Q) ∧ (¬ (1 : Int32) = 0 → mx g (d) kX12_seldom 135 [.ref 48, .int (h), .int (p), .int ((n + 0)), .int ((ro + 1)), .int (l2), .null, .int (ri), .int (k), .int (0), .int (1), .null, .null, .null] [.int (1), .int (ca)] M Q)
      refine ⟨fun z => absurd z (by decide), fun _ => ?_⟩
      refine mx_go 250 zq_t209 ?_
      show ((1 : Int32) = 0 → mx g (d) kX12_seldom 155 [.ref 48, .int (h), .int (p), .int ((n + 0)), .int ((ro + 1)), .int (l2), .int ((ca + 1)), .null, .int (k), .null, .null, .null, .null, .null] [.int (0), .int (ri)] M Q) ∧ (¬ (1 : Int32) = 0 → ((0 : Int32) = 0 → mx g (d) kX12_seldom 155 [.ref 48, .int (h), .int (p), .int ((n + 0)), .int ((ro + 1)), .int (l2), .int ((ca + 1)), .null, .int (k), .null, .null, .null, .null, .null] [.int (0), .int (ri)] M Q) ∧ (¬ (0 : Int32) = 0 → mx g (d) kX12_seldom 155 [.ref 48, .int (h), .int (p), .int ((n + 0)), .int ((ro + 1)), .int (l2), .int ((ca + 1)), .null, .int (k), .null, .null, .null, .null, .null] [.int (1), .int (ri)] M Q))
      refine ⟨fun z => absurd z (by decide), fun _ => ⟨fun _ => ?_, fun z => absurd rfl z⟩⟩
      refine mx_go 250 zq_t209 ?_
      show mx g (d) kX12_seldom 39 [.ref 48, .int (h), .int (p), .int ((n + 0)), .int ((ro + 1)), .int (l2), .int ((ca + 1)), .int ((ri + 0)), .int ((k + 1)), .null, .null, .null, .null, .null] [] M Q
      exact hq
    exact ⟨fun c => fin lo (mxJ_le c), fun c => fin _ (mxJ_gt c)⟩
  · refine mx_go 250 zq_t209 ?_
    show ((1 : Int32) = 0 → mx g (d) kX12_seldom 90 [.ref 48, .int (h), .int (p), .null, .int (ro), .int (lo), .int (ca), .int (ri), .int (k), .int (1), .int (0), .null, .null, .null] [.int (0), .int (n)] M Q) ∧ (¬ (1 : Int32) = 0 → mx g (d) kX12_seldom 90 [.ref 48, .int (h), .int (p), .null, .int (ro), .int (lo), .int (ca), .int (ri), .int (k), .int (1), .int (0), .null, .null, .null] [.int (1), .int (n)] M Q)
    refine ⟨fun z => absurd z (by decide), fun _ => ?_⟩
    refine mx_go 250 zq_t209 ?_
    show ((1 : Int32) = 0 → mx g (d) kX12_seldom 105 [.ref 48, .int (h), .int (p), .int ((n + 1)), .null, .int (lo), .int (ca), .int (ri), .int (k), .int (1), .int (0), .null, .null, .null] [.int ((ro + 1))] M Q) ∧ (¬ (1 : Int32) = 0 → mx g (d) kX12_seldom 105 [.ref 48, .int (h), .int (p), .int ((n + 1)), .null, .int (lo), .int (ca), .int (ri), .int (k), .int (1), .int (0), .null, .null, .null] [.int (0)] M Q)
    refine ⟨fun z => absurd z (by decide), fun _ => ?_⟩
    refine mx_go 250 zq_t209 ?_
    show ((0 : Int32) ≤ (lo : Int32) → mx g (d) kX12_seldom 121 [.ref 48, .int (h), .int (p), .int ((n + 1)), .int (0), .null, .int (ca), .int (ri), .int (k), .int (1), .int (0), .null, .null, .null] [.int (lo)] M Q) ∧ (¬ (0 : Int32) ≤ (lo : Int32) → mx g (d) kX12_seldom 121 [.ref 48, .int (h), .int (p), .int ((n + 1)), .int (0), .null, .int (ca), .int (ri), .int (k), .int (1), .int (0), .null, .null, .null] [.int (0)] M Q)
    have fin : ∀ l2 : Int32, mxJ lo (roN true ro) = l2 → mx g d kX12_seldom 121 [.ref 48, .int h, .int p, .int (n + 1), .int 0, .null, .int ca, .int ri, .int k, .int 1, .int 0, .null, .null, .null] [.int l2] M Q := by
      intro l2 el
      rw [el] at hq
      refine mx_go 250 zq_t209 ?_
      show ((0 : Int32) = 0 → mx g (d) kX12_seldom 135 [.ref 48, .int (h), .int (p), .int ((n + 1)), .int (0), .int (l2), .null, .int (ri), .int (k), .int (1), .int (0), .null, .null, .null] [.int (0), .int (ca)] M Q) ∧ (¬ (0 : Int32) = 0 → mx g (d) kX12_seldom 135 [.ref 48, .int (h), .int (p), .int ((n + 1)), .int (0), .int (l2), .null, .int (ri), .int (k), .int (1), .int (0), .null, .null, .null] [.int (1), .int (ca)] M Q)
      refine ⟨fun _ => ?_, fun z => absurd rfl z⟩
      refine mx_go 250 zq_t209 ?_
      show ((0 : Int32) = 0 → mx g (d) kX12_seldom 155 [.ref 48, .int (h), .int (p), .int ((n + 1)), .int (0), .int (l2), .int ((ca + 0)), .null, .int (k), .null, .null, .null, .null, .null] [.int (0), .int (ri)] M Q) ∧ (¬ (0 : Int32) = 0 → ((1 : Int32) = 0 → mx g (d) kX12_seldom 155 [.ref 48, .int (h), .int (p), .int ((n + 1)), .int (0), .int (l2), .int ((ca + 0)), .null, .int (k), .null, .null, .null, .null, .null] [.int (0), .int (ri)] M Q) ∧ (¬ (1 : Int32) = 0 → mx g (d) kX12_seldom 155 [.ref 48, .int (h), .int (p), .int ((n + 1)), .int (0), .int (l2), .int ((ca + 0)), .null, .int (k), .null, .null, .null, .null, .null] [.int (1), .int (ri)] M Q))
      refine ⟨fun _ => ?_, fun z => absurd rfl z⟩
      refine mx_go 250 zq_t209 ?_
      show mx g (d) kX12_seldom 39 [.ref 48, .int (h), .int (p), .int ((n + 1)), .int (0), .int (l2), .int ((ca + 0)), .int ((ri + 0)), .int ((k + 1)), .null, .null, .null, .null, .null] [] M Q
      exact hq
    exact ⟨fun c => fin lo (mxJ_le c), fun c => fin _ (mxJ_gt c)⟩
  · refine mx_go 250 zq_t209 ?_
    show ((1 : Int32) = 0 → mx g (d) kX12_seldom 90 [.ref 48, .int (h), .int (p), .null, .int (ro), .int (lo), .int (ca), .int (ri), .int (k), .int (1), .int (1), .null, .null, .null] [.int (0), .int (n)] M Q) ∧ (¬ (1 : Int32) = 0 → mx g (d) kX12_seldom 90 [.ref 48, .int (h), .int (p), .null, .int (ro), .int (lo), .int (ca), .int (ri), .int (k), .int (1), .int (1), .null, .null, .null] [.int (1), .int (n)] M Q)
    refine ⟨fun z => absurd z (by decide), fun _ => ?_⟩
    refine mx_go 250 zq_t209 ?_
    show ((1 : Int32) = 0 → mx g (d) kX12_seldom 105 [.ref 48, .int (h), .int (p), .int ((n + 1)), .null, .int (lo), .int (ca), .int (ri), .int (k), .int (1), .int (1), .null, .null, .null] [.int ((ro + 1))] M Q) ∧ (¬ (1 : Int32) = 0 → mx g (d) kX12_seldom 105 [.ref 48, .int (h), .int (p), .int ((n + 1)), .null, .int (lo), .int (ca), .int (ri), .int (k), .int (1), .int (1), .null, .null, .null] [.int (0)] M Q)
    refine ⟨fun z => absurd z (by decide), fun _ => ?_⟩
    refine mx_go 250 zq_t209 ?_
    show ((0 : Int32) ≤ (lo : Int32) → mx g (d) kX12_seldom 121 [.ref 48, .int (h), .int (p), .int ((n + 1)), .int (0), .null, .int (ca), .int (ri), .int (k), .int (1), .int (1), .null, .null, .null] [.int (lo)] M Q) ∧ (¬ (0 : Int32) ≤ (lo : Int32) → mx g (d) kX12_seldom 121 [.ref 48, .int (h), .int (p), .int ((n + 1)), .int (0), .null, .int (ca), .int (ri), .int (k), .int (1), .int (1), .null, .null, .null] [.int (0)] M Q)
    have fin : ∀ l2 : Int32, mxJ lo (roN true ro) = l2 → mx g d kX12_seldom 121 [.ref 48, .int h, .int p, .int (n + 1), .int 0, .null, .int ca, .int ri, .int k, .int 1, .int 1, .null, .null, .null] [.int l2] M Q := by
      intro l2 el
      rw [el] at hq
      refine mx_go 250 zq_t209 ?_
      show ((1 : Int32) = 0 → mx g (d) kX12_seldom 135 [.ref 48, .int (h), .int (p), .int ((n + 1)), .int (0), .int (l2), .null, .int (ri), .int (k), .int (1), .int (1), .null, .null, .null] [.int (0), .int (ca)] M Q) ∧ (¬ (1 : Int32) = 0 → mx g (d) kX12_seldom 135 [.ref 48, .int (h), .int (p), .int ((n + 1)), .int (0), .int (l2), .null, .int (ri), .int (k), .int (1), .int (1), .null, .null, .null] [.int (1), .int (ca)] M Q)
      refine ⟨fun z => absurd z (by decide), fun _ => ?_⟩
      refine mx_go 250 zq_t209 ?_
      show ((1 : Int32) = 0 → mx g (d) kX12_seldom 155 [.ref 48, .int (h), .int (p), .int ((n + 1)), .int (0), .int (l2), .int ((ca + 1)), .null, .int (k), .null, .null, .null, .null, .null] [.int (0), .int (ri)] M Q) ∧ (¬ (1 : Int32) = 0 → ((1 : Int32) = 0 → mx g (d) kX12_seldom 155 [.ref 48, .int (h), .int (p), .int ((n + 1)), .int (0), .int (l2), .int ((ca + 1)), .null, .int (k), .null, .null, .null, .null, .null] [.int (0), .int (ri)] M Q) ∧ (¬ (1 : Int32) = 0 → mx g (d) kX12_seldom 155 [.ref 48, .int (h), .int (p), .int ((n + 1)), .int (0), .int (l2), .int ((ca + 1)), .null, .int (k), .null, .null, .null, .null, .null] [.int (1), .int (ri)] M Q))
      refine ⟨fun z => absurd z (by decide), fun _ => ⟨fun z => absurd z (by decide), fun _ => ?_⟩⟩
      refine mx_go 250 zq_t209 ?_
      show mx g (d) kX12_seldom 39 [.ref 48, .int (h), .int (p), .int ((n + 1)), .int (0), .int (l2), .int ((ca + 1)), .int ((ri + 1)), .int ((k + 1)), .null, .null, .null, .null, .null] [] M Q
      exact hq
    exact ⟨fun c => fin lo (mxJ_le c), fun c => fin _ (mxJ_gt c)⟩

def wtR (M : zq_M) (h p : Int32) (v : Int64) : Prop := (cnF (fun k => psB M h (nI k)) (M 5 4).toInt.toNat = 0 ∧ v = Int32.toInt64 (p - 2)) ∨ (¬ cnF (fun k => psB M h (nI k)) (M 5 4).toInt.toNat = 0 ∧ ∃ r : Int64, r.toInt = ((Nat.gcd (M 5 4).toInt.toNat (cnF (fun k => psB M h (nI k)) (M 5 4).toInt.toNat).toInt.toNat : Nat) : Int) ∧ v = (if p - 2 = 0 then Int32.toInt64 (M 5 4) else Int32.toInt64 (cnF (fun k => psB M h (nI k)) (M 5 4).toInt.toNat)) / r)
def slR (M : zq_M) (h p : Int32) (v : Int64) : Prop := (p.toInt = 0 → v = Int32.toInt64 (cnF (fun k => psB M h (nI k)) (M 5 4).toInt.toNat)) ∧ (p.toInt = 1 → v = Int32.toInt64 (loF (fun k => psB M h (nI k)) (M 5 4).toInt.toNat)) ∧ (p.toInt = 2 ∨ p.toInt = 3 → wtR M h p v) ∧ (p.toInt = 4 → v = Int32.toInt64 (cnF (fun k => caB M h (nI k)) (M 5 4).toInt.toNat)) ∧ (p.toInt = 5 → v = Int32.toInt64 (cnF (fun k => caB M h (nI k) && psB M h (nI k)) (M 5 4).toInt.toNat))
theorem wtR_un {M : zq_M} {h p : Int32} {v v' : Int64} (g : wtR M h p v) (g' : wtR M h p v') : v' = v := by
  rcases g with ⟨a1, a2⟩ | ⟨a1, r, a2, a3⟩ <;> rcases g' with ⟨b1, b2⟩ | ⟨b1, r', b2, b3⟩
  · rw [a2, b2]
  · exact absurd a1 b1
  · exact absurd b1 a1
  · have e : r' = r := by rw [l_eq, a2, b2]
    rw [a3, b3, e]
theorem slR_un {M : zq_M} {h p : Int32} {v v' : Int64} (p0 : 0 ≤ p.toInt) (p1 : p.toInt < 6) (g : slR M h p v) (g' : slR M h p v') : v' = v := by
  obtain ⟨a1, a2, a3, a4, a5⟩ := g
  obtain ⟨b1, b2, b3, b4, b5⟩ := g'
  rcases (show p.toInt = 0 ∨ p.toInt = 1 ∨ (p.toInt = 2 ∨ p.toInt = 3) ∨ p.toInt = 4 ∨ p.toInt = 5 by omega) with c | c | c | c | c
  · rw [a1 c, b1 c]
  · rw [a2 c, b2 c]
  · exact wtR_un (a3 c) (b3 c)
  · rw [a4 c, b4 c]
  · rw [a5 c, b5 c]
theorem psB_ff {M M' : zq_M} {h : Int32} (hf : fr (fL sL) M M') : (fun k => psB M' h (nI k)) = fun k => psB M h (nI k) := funext fun k => psB_fr hf
theorem caB_ff {M M' : zq_M} {h : Int32} (hf : fr (fL sL) M M') : (fun k => caB M' h (nI k)) = fun k => caB M h (nI k) := funext fun k => caB_fr hf
theorem cpB_ff {M M' : zq_M} {h : Int32} (hf : fr (fL sL) M M') : (fun k => caB M' h (nI k) && psB M' h (nI k)) = fun k => caB M h (nI k) && psB M h (nI k) := funext fun k => by rw [caB_fr hf, psB_fr hf]
theorem slR_fr {M M' : zq_M} {h p : Int32} {v : Int64} (hf : fr (fL sL) M M') (g : slR M' h p v) : slR M h p v := by
  unfold slR wtR at *
  rw [psB_ff hf, caB_ff hf, cpB_ff hf, hf 5 4 rfl] at g
  exact g
def F_sel (p0 p1 : Int32) (M : zq_M) (v : Int64) : Prop := (¬ (inR p0.toInt (M 10 2).toInt ∧ inR p1.toInt 6) → v = -4611686018427387904) ∧ ((inR p0.toInt (M 10 2).toInt ∧ inR p1.toInt 6) → slR M p0 p1 v)
theorem F_sel_un {p0 p1 : Int32} {v v' : Int64} {M M' : zq_M} (hf : fr (fL sL) M M') (h : F_sel p0 p1 M v) (h' : F_sel p0 p1 M' v') : v' = v := by
  unfold F_sel at h h'
  rw [hf 10 2 rfl] at h'
  by_cases c : (inR p0.toInt (M 10 2).toInt ∧ inR p1.toInt 6)
  · exact slR_un c.2.1 c.2.2 (h.2 c) (slR_fr hf (h'.2 c))
  · rw [h.1 c, h'.1 c]
theorem c_X11_partOfWait {g : zq_G} {d : Nat} {M : zq_M} {Q : Option Value → zq_M → Prop} {h p c : Int32} (hR : R5 M) (hc : c = cnF (fun k => psB M h (nI k)) (M 5 4).toInt.toNat) (hq : ∀ v : Int64, wtR M h p v → Q (some (.long v)) M) : mx g (d + 2) kX11_partOfWait 0 [.ref 0, .int c, .int (p - 2)] [] M Q := by
  obtain ⟨hS, hN, hH, hT, hX⟩ := id hR
  have n6 := hN.2.2.2.2.2.1
  have n7 := hN.2.2.2.2.2.2.1
  have cb := cnF_b (f := fun k => psB M h (nI k)) (M 5 4).toInt.toNat (by omega)
  unfold wtR at hq
  rw [← hc] at hq cb
  refine mx_go 250 zq_t136 ?_
  show (¬ (c : Int32) = 0 → mx g (d + 1) kX11_partOfFraction 0 [.long ((Int32.toInt64 (M 5 4))), .null, .long ((Int32.toInt64 c)), .null, .int ((p - 2)), .null, .null, .null, .null] [] M _) ∧ ((c : Int32) = 0 → Q (some (.long (Int32.toInt64 (p - 2)))) M)
  refine ⟨fun z => ?_, fun z => hq _ (Or.inl ⟨z, rfl⟩)⟩
  have zn : c.toInt ≠ 0 := fun e => z ((n_eq _ _).mpr (by rw [n_0]; exact e))
  refine c_X11_partOfFraction (A := (M 5 4).toInt.toNat) (B := c.toInt.toNat) (by rw [l_32]; omega) (by rw [l_32]; omega) (by omega) (by rw [show (2 : Nat) ^ 60 = 1152921504606846976 from rfl]; omega) (fun r hr => ?_)
  exact hq _ (Or.inr ⟨z, r, hr, rfl⟩)
theorem x_sel {g : zq_G} {d : Nat} {M : zq_M} {Q : Option Value → zq_M → Prop} {p0 p1 : Int32} (hR : RR M) (hq : ∀ (v : Int64) (M' : zq_M), fr (fL sL) M M' → F_sel p0 p1 M v → Q (some (.long v)) M') : mx g (d + 6) kX11_seldom 0 [.ref 0, .int p0, .int p1] [] M Q := by
  have hR5 := RR_5 hR
  obtain ⟨hS, hN, hH, hT, hX⟩ := id hR5
  have s4 := hS.2.2.2.1
  have s5 := hS.2.2.2.2.1
  have n6 := hN.2.2.2.2.2.1
  have n7 := hN.2.2.2.2.2.2.1
  have h4 := hH.2.2.2.1
  have h5 := hH.2.2.2.2.1
  have hbad : ¬ (inR p0.toInt (M 10 2).toInt ∧ inR p1.toInt 6) → Q (some (.long (-4611686018427387904))) M := fun z => hq _ M fr_rfl ⟨fun _ => rfl, fun y => absurd y z⟩
  refine mx_go 250 zq_t110 ?_
  show mx g (d + 5) kX0_has 0 [.ref 10, .int (p0)] [] M _
  refine c_X0_has (n := M 10 2) rfl (fun k1 k2 => ?_) (fun k1 => ?_)
  rotate_left
  · show (¬ (0 : Int32) = 0 → ((p1 : Int32).toInt < 0 ∨ 5 < (p1 : Int32).toInt → Q (some (.long (-4611686018427387904))) M) ∧ ((p1 : Int32).toInt = 0 → mx g (d + 5) kX4_nightsPushing 0 [.ref 24, .int (p0), .null, .null] [] M _) ∧ ((p1 : Int32).toInt = 1 → mx g (d + 5) kX4_longestRowWithout 0 [.ref 24, .int (p0), .null, .null, .null] [] M _) ∧ ((p1 : Int32).toInt = 2 → mx g (d + 5) kX4_nightsPushing 0 [.ref 24, .int (p0), .null, .null] [] M _) ∧ ((p1 : Int32).toInt = 3 → mx g (d + 5) kX4_nightsPushing 0 [.ref 24, .int (p0), .null, .null] [] M _) ∧ ((p1 : Int32).toInt = 4 → mx g (d + 5) kX4_nightsCalled 0 [.ref 24, .int (p0), .int (0), .null, .null, .null] [] M _) ∧ ((p1 : Int32).toInt = 5 → mx g (d + 5) kX4_nightsCalled 0 [.ref 24, .int (p0), .int (1), .null, .null, .null] [] M _)) ∧ ((0 : Int32) = 0 → Q (some (.long (-4611686018427387904))) M)
    exact ⟨fun z => absurd rfl z, fun _ => hbad (fun z => by unfold inR at z; omega)⟩
  show (¬ (1 : Int32) = 0 → ((p1 : Int32).toInt < 0 ∨ 5 < (p1 : Int32).toInt → Q (some (.long (-4611686018427387904))) M) ∧ ((p1 : Int32).toInt = 0 → mx g (d + 5) kX4_nightsPushing 0 [.ref 24, .int (p0), .null, .null] [] M _) ∧ ((p1 : Int32).toInt = 1 → mx g (d + 5) kX4_longestRowWithout 0 [.ref 24, .int (p0), .null, .null, .null] [] M _) ∧ ((p1 : Int32).toInt = 2 → mx g (d + 5) kX4_nightsPushing 0 [.ref 24, .int (p0), .null, .null] [] M _) ∧ ((p1 : Int32).toInt = 3 → mx g (d + 5) kX4_nightsPushing 0 [.ref 24, .int (p0), .null, .null] [] M _) ∧ ((p1 : Int32).toInt = 4 → mx g (d + 5) kX4_nightsCalled 0 [.ref 24, .int (p0), .int (0), .null, .null, .null] [] M _) ∧ ((p1 : Int32).toInt = 5 → mx g (d + 5) kX4_nightsCalled 0 [.ref 24, .int (p0), .int (1), .null, .null, .null] [] M _)) ∧ ((1 : Int32) = 0 → Q (some (.long (-4611686018427387904))) M)
  refine ⟨fun _ => ?_, fun z => absurd z (by decide)⟩
  have hok := fun v M' hf (h0 : 0 ≤ p1.toInt) (h1 : p1.toInt < 6) hv => hq v M' hf ⟨fun w => absurd ⟨⟨k1, k2⟩, h0, h1⟩ w, fun _ => hv⟩
  have hall : ∀ (v : Int64) (M' : zq_M), fr (fL sL) M M' → (p1.toInt = 0 ∧ v = Int32.toInt64 (cnF (fun k => psB M p0 (nI k)) (M 5 4).toInt.toNat)) ∨ (p1.toInt = 1 ∧ v = Int32.toInt64 (loF (fun k => psB M p0 (nI k)) (M 5 4).toInt.toNat)) ∨ ((p1.toInt = 2 ∨ p1.toInt = 3) ∧ wtR M p0 p1 v) ∨ (p1.toInt = 4 ∧ v = Int32.toInt64 (cnF (fun k => caB M p0 (nI k)) (M 5 4).toInt.toNat)) ∨ (p1.toInt = 5 ∧ v = Int32.toInt64 (cnF (fun k => caB M p0 (nI k) && psB M p0 (nI k)) (M 5 4).toInt.toNat)) → Q (some (.long v)) M' := by
    intro v M' hf hv
    refine hok v M' hf (by omega) (by omega) ⟨fun c => ?_, fun c => ?_, fun c => ?_, fun c => ?_, fun c => ?_⟩
    · rcases hv with ⟨e, y⟩ | ⟨e, y⟩ | ⟨e, y⟩ | ⟨e, y⟩ | ⟨e, y⟩ <;> first | exact y | (exfalso; omega)
    · rcases hv with ⟨e, y⟩ | ⟨e, y⟩ | ⟨e, y⟩ | ⟨e, y⟩ | ⟨e, y⟩ <;> first | exact y | (exfalso; omega)
    · rcases hv with ⟨e, y⟩ | ⟨e, y⟩ | ⟨e, y⟩ | ⟨e, y⟩ | ⟨e, y⟩ <;> first | exact y | (exfalso; omega)
    · rcases hv with ⟨e, y⟩ | ⟨e, y⟩ | ⟨e, y⟩ | ⟨e, y⟩ | ⟨e, y⟩ <;> first | exact y | (exfalso; omega)
    · rcases hv with ⟨e, y⟩ | ⟨e, y⟩ | ⟨e, y⟩ | ⟨e, y⟩ | ⟨e, y⟩ <;> first | exact y | (exfalso; omega)
  have wait : ∀ M' : zq_M, fr (fL sL) M M' → (p1.toInt = 2 ∨ p1.toInt = 3) → ∀ (v : Int64), wtR M' p0 p1 v → Q (some (.long v)) M' := by
    intro M' hf hp v hv
    refine hall v M' hf (Or.inr (Or.inr (Or.inl ⟨hp, ?_⟩)))
    unfold wtR at hv ⊢
    rw [psB_ff hf, hf 5 4 rfl] at hv
    exact hv
  have cl0 : cnF (clB M p0 0) (M 5 4).toInt.toNat = cnF (fun k => caB M p0 (nI k)) (M 5 4).toInt.toNat := cnF_congr (fun i => by unfold clB; rw [decide_eq_true rfl, Bool.true_or, Bool.and_true]) _
  have cl1 : cnF (clB M p0 1) (M 5 4).toInt.toNat = cnF (fun k => caB M p0 (nI k) && psB M p0 (nI k)) (M 5 4).toInt.toNat := cnF_congr (fun i => by unfold clB; rw [decide_eq_false (by decide), Bool.false_or]) _
  clear hok hq
  refine ⟨fun z => hbad (fun w => by unfold inR at w; omega), fun z => ?_, fun z => ?_, fun z => ?_, fun z => ?_, fun z => ?_, fun z => ?_⟩
  · exact c_X4_nightsPushing hR5 k1 (by omega) (fun M' hf => hall _ M' hf (Or.inl ⟨z, rfl⟩))
  · exact c_X4_longest hR5 k1 (by omega) (fun M' hf => hall _ M' hf (Or.inr (Or.inl ⟨z, rfl⟩)))
  · refine c_X4_nightsPushing hR5 k1 (by omega) (fun M' hf => ?_)
    show mx g (d + 5) kX11_partOfWait 0 [.ref 0, .int ((cnF (fun k => psB M p0 (nI k)) (M 5 4).toInt.toNat)), .int ((p1 - 2))] [] M' _
    refine c_X11_partOfWait (h := p0) (R5_fr hf hR5) (by rw [psB_ff hf, hf 5 4 rfl]) (fun v hv => ?_)
    exact wait M' hf (Or.inl z) v hv
  · refine c_X4_nightsPushing hR5 k1 (by omega) (fun M' hf => ?_)
    show mx g (d + 5) kX11_partOfWait 0 [.ref 0, .int ((cnF (fun k => psB M p0 (nI k)) (M 5 4).toInt.toNat)), .int ((p1 - 2))] [] M' _
    refine c_X11_partOfWait (h := p0) (R5_fr hf hR5) (by rw [psB_ff hf, hf 5 4 rfl]) (fun v hv => ?_)
    exact wait M' hf (Or.inr z) v hv
  · refine c_X4_nightsCalled hR5 k1 (by omega) (fun M' hf => ?_)
    rw [cl0]
    exact hall _ M' hf (Or.inr (Or.inr (Or.inr (Or.inl ⟨z, rfl⟩))))
  · refine c_X4_nightsCalled hR5 k1 (by omega) (fun M' hf => ?_)
    rw [cl1]
    exact hall _ M' hf (Or.inr (Or.inr (Or.inr (Or.inr ⟨z, rfl⟩))))

theorem l_div1 {r : Int64} (h : r.toInt = 1) : (0 : Int64) / r = 0 ∧ (1 : Int64) / r = 1 := by
  obtain rfl : r = 1 := (l_eq _ _).mpr (by rw [h, l_1])
  exact ⟨by decide, by decide⟩
theorem m_sel177 {g : zq_G} {d : Nat} {M : zq_M} {Q : Option Value → zq_M → Prop} {h p n lo ca ri : Int32} {ab : Int64} (hR : R5 M) (e1 : cnF (fun k => psB M h (nI k)) (M 5 4).toInt.toNat = n) (e2 : loF (fun k => psB M h (nI k)) (M 5 4).toInt.toNat = lo) (e3 : cnF (fun k => caB M h (nI k)) (M 5 4).toInt.toNat = ca) (e4 : cnF (fun k => caB M h (nI k) && psB M h (nI k)) (M 5 4).toInt.toNat = ri) (q0 : 0 ≤ p.toInt) (q1 : p.toInt ≤ 5) (hab : (n = 0 → ab = 0) ∧ (¬ n = 0 → ab = Int32.toInt64 (M 5 4))) (hq : ∀ v : Int64, slR M h p v → Q (some (.long v)) M) : mx g (d + 1) kX12_seldom 177 [.ref 48, .null, .int p, .int n, .null, .int lo, .int ca, .int ri, .null, .null, .null, .null, .null, .null] [.long ab] M Q := by
  obtain ⟨hS, hN, hH, hT, hX⟩ := id hR
  have n6 := hN.2.2.2.2.2.1
  have n7 := hN.2.2.2.2.2.2.1
  have cb := cnF_b (f := fun k => psB M h (nI k)) (M 5 4).toInt.toNat (by omega)
  have m2 : (2 : Int32).toInt = 2 := rfl
  unfold slR wtR at hq
  rw [e1, e2, e3, e4] at hq
  rw [e1] at cb
  have pm : (p - 2).toInt = p.toInt - 2 := by rw [n_sub, m2, zw_id (by omega) (by omega)]
  have key : ∀ be : Int64, (n = 0 → be = 1) → (¬ n = 0 → be = Int32.toInt64 n) → mx g (d + 1) kX12_seldom 189 [.ref 48, .null, .int p, .int n, .null, .int lo, .int ca, .int ri, .long ab, .null, .null, .null, .null, .null] [.long be] M Q := by
    intro be b1 b2
    refine mx_go 250 zq_t209 ?_
    show mx g (d) kX12_divisor 0 [.ref 48, .long (ab), .null, .long (be), .null, .null, .null, .null, .null, .null, .null] [] M _
    have hA : ab.toInt = (ab.toInt.toNat : Int) ∧ be.toInt = (be.toInt.toNat : Int) ∧ 0 < be.toInt.toNat := by
      by_cases z : n = 0
      · rw [hab.1 z, b1 z, l_0, l_1]; decide
      · rw [hab.2 z, b2 z, l_32, l_32]
        rw [n_eq, n_0] at z
        omega
    refine c_X12_divisor hA.1 hA.2.1 (fun r hr => ?_)
    have gp := Nat.gcd_pos_of_pos_right ab.toInt.toNat hA.2.2
    have rn : ¬ r = 0 := by
      rw [l_eq, l_0, hr]
      omega
    have wt : ∀ i : Nat, i ≤ 1 → p.toInt = 2 + i → (n = 0 ∧ (if i = 0 then ab else be) / r = Int32.toInt64 (p - 2)) ∨ (¬ n = 0 ∧ ∃ r' : Int64, r'.toInt = ((Nat.gcd (M 5 4).toInt.toNat n.toInt.toNat : Nat) : Int) ∧ (if i = 0 then ab else be) / r = (if p - 2 = 0 then Int32.toInt64 (M 5 4) else Int32.toInt64 n) / r') := by
      intro i hi hp
      by_cases z : n = 0
      · left
        refine ⟨z, ?_⟩
        rw [hab.1 z, b1 z, l_0, l_1] at hr
        have e := l_div1 (r := r) hr
        rw [hab.1 z, b1 z]
        by_cases c : i = 0
        · rw [if_pos c, e.1, show p - 2 = 0 from (n_eq _ _).mpr (by rw [pm, n_0]; omega)]
          decide
        · rw [if_neg c, e.2, show p - 2 = 1 from (n_eq _ _).mpr (by rw [pm, n_1]; omega)]
          decide
      · right
        refine ⟨z, r, ?_, ?_⟩
        · rw [hr, hab.2 z, b2 z, l_32, l_32]
        · rw [hab.2 z, b2 z]
          by_cases c : i = 0
          · rw [if_pos c, if_pos ((n_eq _ _).mpr (by rw [pm, n_0]; omega))]
          · rw [if_neg c, if_neg (fun w => by rw [n_eq, pm, n_0] at w; omega)]
    show ((p : Int32).toInt < 0 ∨ 4 < (p : Int32).toInt → Q (some (.long (Int32.toInt64 ri))) M) ∧ ((p : Int32).toInt = 0 → Q (some (.long (Int32.toInt64 n))) M) ∧ ((p : Int32).toInt = 1 → Q (some (.long (Int32.toInt64 lo))) M) ∧ ((p : Int32).toInt = 2 → (¬ (r : Int64) = 0) ∧ Q (some (.long (ab / r))) M) ∧ ((p : Int32).toInt = 3 → (¬ (r : Int64) = 0) ∧ Q (some (.long (be / r))) M) ∧ ((p : Int32).toInt = 4 → Q (some (.long (Int32.toInt64 ca))) M)
    refine ⟨fun c => hq _ ?_, fun c => hq _ ?_, fun c => hq _ ?_, fun c => ⟨rn, hq _ ?_⟩, fun c => ⟨rn, hq _ ?_⟩, fun c => hq _ ?_⟩
    · exact ⟨fun z => by omega, fun z => by omega, fun z => by omega, fun z => by omega, fun z => rfl⟩
    · exact ⟨fun z => rfl, fun z => by omega, fun z => by omega, fun z => by omega, fun z => by omega⟩
    · exact ⟨fun z => by omega, fun z => rfl, fun z => by omega, fun z => by omega, fun z => by omega⟩
    · exact ⟨fun z => by omega, fun z => by omega, fun _ => wt 0 (by omega) (by omega), fun z => by omega, fun z => by omega⟩
    · exact ⟨fun z => by omega, fun z => by omega, fun _ => wt 1 (by omega) (by omega), fun z => by omega, fun z => by omega⟩
    · exact ⟨fun z => by omega, fun z => by omega, fun z => by omega, fun z => rfl, fun z => by omega⟩
  refine mx_go 250 zq_t209 ?_
  show (¬ (n : Int32) = 0 → mx g (d + 1) kX12_seldom 189 [.ref 48, .null, .int (p), .int (n), .null, .int (lo), .int (ca), .int (ri), .long (ab), .null, .null, .null, .null, .null] [.long ((Int32.toInt64 n))] M Q) ∧ ((n : Int32) = 0 → mx g (d + 1) kX12_seldom 189 [.ref 48, .null, .int (p), .int (n), .null, .int (lo), .int (ca), .int (ri), .long (ab), .null, .null, .null, .null, .null] [.long (1)] M Q)
  exact ⟨fun z => key _ (fun y => absurd y z) (fun _ => rfl), fun z => key _ (fun _ => rfl) (fun y => absurd z y)⟩
theorem m_sel {g : zq_G} {d : Nat} {M : zq_M} {Q : Option Value → zq_M → Prop} {p0 p1 : Int32} (hR : RR M) (hq : ∀ (v : Int64) (M' : zq_M), fr (fL sL) M M' → F_sel p0 p1 M v → Q (some (.long v)) M') : mx g (d + 6) kX12_seldom 0 [.ref 48, .int p0, .int p1, .null, .null, .null, .null, .null, .null, .null, .null, .null, .null, .null] [] M Q := by
  have hR5 := RR_5 hR
  have hV : M 48 27 = -1 := hR.2.2.2.2.2.2.2.2.2
  obtain ⟨hS, hN, hH, hT, hX⟩ := id hR5
  have s1 := hS.1
  have s4 := hS.2.2.2.1
  have s5 := hS.2.2.2.2.1
  have n1 := hN.1
  have n6 := hN.2.2.2.2.2.1
  have n7 := hN.2.2.2.2.2.2.1
  have h1 := hH.1
  have h4 := hH.2.2.2.1
  have h5 := hH.2.2.2.2.1
  have f5 : (5 : Int32).toInt = 5 := rfl
  have hbad : ¬ (inR p0.toInt (M 10 2).toInt ∧ inR p1.toInt 6) → Q (some (.long (-4611686018427387904))) M := fun z => hq _ M fr_rfl ⟨fun _ => rfl, fun y => absurd y z⟩
  refine mx_go 250 zq_t209 ?_
  show mx g (d + 5) kX12_isHow 0 [.ref 48, .int (p0)] [] M _
  refine c_X12_isHow (n := M 10 2) h1 h4 (fun k1 k2 => ?_) (fun k1 => ?_)
  rotate_left
  · show ((0 : Int32) = 0 → Q (some (.long (-4611686018427387904))) M) ∧ (¬ (0 : Int32) = 0 → mx g (d + 5) kX12_in 0 [.ref 48, .int (p1), .int (0), .int (5)] [] M _)
    exact ⟨fun _ => hbad (fun z => by unfold inR at z; omega), fun z => absurd rfl z⟩
  show ((1 : Int32) = 0 → Q (some (.long (-4611686018427387904))) M) ∧ (¬ (1 : Int32) = 0 → mx g (d + 5) kX12_in 0 [.ref 48, .int (p1), .int (0), .int (5)] [] M _)
  refine ⟨fun z => absurd z (by decide), fun _ => ?_⟩
  refine c_X12_in (fun q0 q1 => ?_) (fun q0 => ?_)
  rotate_left
  · show (¬ (0 : Int32) = 0 → mx g (d + 6) kX12_seldom 39 [.ref 48, .int (p0), .int (p1), .int (0), .int (0), .int (0), .int (0), .int (0), .int (0), .null, .null, .null, .null, .null] [] M Q) ∧ ((0 : Int32) = 0 → Q (some (.long (-4611686018427387904))) M)
    exact ⟨fun z => absurd rfl z, fun _ => hbad (fun z => by unfold inR at z; rw [n_0, f5] at q0; omega)⟩
  show (¬ (1 : Int32) = 0 → mx g (d + 6) kX12_seldom 39 [.ref 48, .int (p0), .int (p1), .int (0), .int (0), .int (0), .int (0), .int (0), .int (0), .null, .null, .null, .null, .null] [] M Q) ∧ ((1 : Int32) = 0 → Q (some (.long (-4611686018427387904))) M)
  refine ⟨fun _ => ?_, fun z => absurd z (by decide)⟩
  rw [n_0] at q0
  rw [f5] at q1
  replace hq := fun v M' hf hv => hq v M' hf ⟨fun w => absurd ⟨⟨k1, k2⟩, q0, by omega⟩ w, fun _ => hv⟩
  clear hbad
  refine mx_wf (fun x : Int32 => [.ref 48, .int p0, .int p1, .int (cnF (fun k => psB M p0 (nI k)) x.toInt.toNat), .int (rwF (fun k => psB M p0 (nI k)) x.toInt.toNat), .int (loF (fun k => psB M p0 (nI k)) x.toInt.toNat), .int (cnF (fun k => caB M p0 (nI k)) x.toInt.toNat), .int (cnF (fun k => caB M p0 (nI k) && psB M p0 (nI k)) x.toInt.toNat), .int x, .null, .null, .null, .null, .null]) (fun x M' => 0 ≤ x.toInt ∧ x.toInt ≤ (M 5 4).toInt ∧ fr (fL sL) M M') (fun x => ((M 5 4).toInt - x.toInt).toNat) ?_ 0 M ⟨by decide, n6, fr_rfl⟩
  intro x M' ⟨i1, i2, i3⟩ ih
  have hR' := R5_fr i3 hR5
  have hV' : M' 48 27 = -1 := (i3 48 27 rfl).trans hV
  by_cases c : x.toInt = (M 5 4).toInt
  · have b1 : cnF (fun k => psB M' p0 (nI k)) (M' 5 4).toInt.toNat = cnF (fun k => psB M p0 (nI k)) x.toInt.toNat := by rw [psB_ff i3, i3 5 4 rfl, c]
    have b2 : loF (fun k => psB M' p0 (nI k)) (M' 5 4).toInt.toNat = loF (fun k => psB M p0 (nI k)) x.toInt.toNat := by rw [psB_ff i3, i3 5 4 rfl, c]
    have b3 : cnF (fun k => caB M' p0 (nI k)) (M' 5 4).toInt.toNat = cnF (fun k => caB M p0 (nI k)) x.toInt.toNat := by rw [caB_ff i3, i3 5 4 rfl, c]
    have b4 : cnF (fun k => caB M' p0 (nI k) && psB M' p0 (nI k)) (M' 5 4).toInt.toNat = cnF (fun k => caB M p0 (nI k) && psB M p0 (nI k)) x.toInt.toNat := by rw [cpB_ff i3, i3 5 4 rfl, c]
    generalize cnF (fun k => psB M p0 (nI k)) x.toInt.toNat = n at b1 ⊢
    generalize loF (fun k => psB M p0 (nI k)) x.toInt.toNat = lo at b2 ⊢
    generalize cnF (fun k => caB M p0 (nI k)) x.toInt.toNat = ca at b3 ⊢
    generalize cnF (fun k => caB M p0 (nI k) && psB M p0 (nI k)) x.toInt.toNat = ri at b4 ⊢
    generalize rwF (fun k => psB M p0 (nI k)) x.toInt.toNat = ro
    have e481 : M' 48 1 = M' 5 4 := by rw [i3 48 1 rfl, i3 5 4 rfl]; exact n1
    refine mx_go 250 zq_t209 ?_
    show (((M' 48 1) : Int32) ≤ (x : Int32) → (¬ (n : Int32) = 0 → mx g (d + 6) kX12_seldom 177 [.ref 48, .null, .int (p1), .int (n), .null, .int (lo), .int (ca), .int (ri), .null, .null, .null, .null, .null, .null] [.long ((Int32.toInt64 (M' 48 1)))] M' Q) ∧ ((n : Int32) = 0 → mx g (d + 6) kX12_seldom 177 [.ref 48, .null, .int (p1), .int (n), .null, .int (lo), .int (ca), .int (ri), .null, .null, .null, .null, .null, .null] [.long (0)] M' Q)) ∧ (¬ ((M' 48 1) : Int32) ≤ (x : Int32) → mx g (d + 5) kX12_pushesSome 0 [.ref 48, .int (p0), .int (x), .null] [] M' _)
    refine ⟨fun _ => ⟨fun z => ?_, fun z => ?_⟩, fun q => absurd (by rw [n_le, i3 48 1 rfl, n1]; omega) q⟩
    · refine m_sel177 (d := d + 5) hR' b1 b2 b3 b4 q0 q1 ⟨fun y => absurd y z, fun _ => by rw [e481]⟩ (fun v hv => hq v M' i3 (slR_fr i3 hv))
    · refine m_sel177 (d := d + 5) hR' b1 b2 b3 b4 q0 q1 ⟨fun _ => rfl, fun y => absurd z y⟩ (fun v hv => hq v M' i3 (slR_fr i3 hv))
  have up := n_up (n := M 5 4) (x := x) (by omega) (by omega)
  have u1 := cnF_up (f := fun k => psB M p0 (nI k)) i1 up
  have u2 := rwF_up (f := fun k => psB M p0 (nI k)) i1 up
  have u3 := cnF_up (f := fun k => caB M p0 (nI k)) i1 up
  have u4 := cnF_up (f := fun k => caB M p0 (nI k) && psB M p0 (nI k)) i1 up
  have ex : nI x.toInt.toNat = x := (n_of i1).symm
  rw [ex] at u1 u2 u3 u4
  replace ih := fun M2 hh => ih (x + 1) M2 (by omega) hh
  rw [u1, u2.1, u2.2, u3, u4] at ih
  generalize cnF (fun k => psB M p0 (nI k)) x.toInt.toNat = n at ih ⊢
  generalize loF (fun k => psB M p0 (nI k)) x.toInt.toNat = lo at ih ⊢
  generalize cnF (fun k => caB M p0 (nI k)) x.toInt.toNat = ca at ih ⊢
  generalize cnF (fun k => caB M p0 (nI k) && psB M p0 (nI k)) x.toInt.toNat = ri at ih ⊢
  generalize rwF (fun k => psB M p0 (nI k)) x.toInt.toNat = ro at ih ⊢
  clear u1 u2 u3 u4
  have nin : vp_in x 60 := n_in i1 (by omega)
  refine mx_go 250 zq_t209 ?_
  show (((M' 48 1) : Int32) ≤ (x : Int32) → (¬ (n : Int32) = 0 → mx g (d + 6) kX12_seldom 177 [.ref 48, .null, .int (p1), .int (n), .null, .int (lo), .int (ca), .int (ri), .null, .null, .null, .null, .null, .null] [.long ((Int32.toInt64 (M' 48 1)))] M' Q) ∧ ((n : Int32) = 0 → mx g (d + 6) kX12_seldom 177 [.ref 48, .null, .int (p1), .int (n), .null, .int (lo), .int (ca), .int (ri), .null, .null, .null, .null, .null, .null] [.long (0)] M' Q)) ∧ (¬ ((M' 48 1) : Int32) ≤ (x : Int32) → mx g (d + 5) kX12_pushesSome 0 [.ref 48, .int (p0), .int (x), .null] [] M' _)
  refine ⟨fun q => absurd q (by rw [n_le, i3 48 1 rfl, n1]; omega), fun q => ?_⟩
  refine c_X12_pushesSome hR' hV' k1 (by omega) i1 (by omega) (fun M2 f2' pa => ?_) (fun M2 f2' pa => ?_)
  · rw [psB_fr i3] at pa
    have f2 := fr_trans i3 f2'
    have hR2 := R5_fr f2 hR5
    obtain ⟨gS2', gN2, gH2, gT2, gX2⟩ := id hR2
    have hV2 : M2 48 27 = -1 := (f2 48 27 rfl).trans hV
    show mx g (d + 5) kX12_lightest 0 [.ref 48, .null, .null] [] M2 _
    refine c_X12_lightest gS2' ?_
    show mx g (d + 5) kX12_tellsRule 0 [.ref 48, .int (1), .int ((lgF (M2 2) (M2 1 3).toInt.toNat)), .int (x), .int (p0), .null, .null, .null, .null] [] M2 _
    refine c_X12_tellsRule (r := M2 13 5) (co := M2 14) (en := M2 15) (num := M2 12 p0.toNatClampNeg) (wet := M2 6 x.toNatClampNeg) (ice := M2 7 x.toNatClampNeg) (wi := M2 8 x.toNatClampNeg) gX2 gX2.2.1 rfl rfl rfl (by decide) (by decide) i1 (by omega) (by omega) (congrFun gN2.2.1 _) (congrFun gN2.2.2.1 _) (wi_now hV2 (congrFun gN2.2.2.2.1 _)) ⟨fun _ => congrFun gH2.2.2.1 _, fun z => absurd (by rw [n_le, n_0]; exact k1) z⟩ (fun N => ?_)
    rw [show (Int32.toInt 1).toNat = 1 from rfl]
    have f3 : fr (fL sL) M (mv [62] N M2) := fr_trans f2 (fr_sub fr_of (by decide))
    have ecb : caB M p0 x = decide (evV (fct (lgF (M2 2) (M2 1 3).toInt.toNat) (M2 12 p0.toNatClampNeg) x (M2 6 x.toNatClampNeg) (M2 7 x.toNatClampNeg) (M2 8 x.toNatClampNeg)) (tl (M2 14) (M2 15) (M2 13 5).toInt.toNat 1) ≠ 0) := by
      rw [← caB_fr f2]
      rfl
    generalize evV (fct (lgF (M2 2) (M2 1 3).toInt.toNat) (M2 12 p0.toNatClampNeg) x (M2 6 x.toNatClampNeg) (M2 7 x.toNatClampNeg) (M2 8 x.toNatClampNeg)) (tl (M2 14) (M2 15) (M2 13 5).toInt.toNat 1) = v at ecb ⊢
    show ((v : Int32) = 0 → mx g (d + 6) kX12_seldom 77 [.ref 48, .int (p0), .int (p1), .int (n), .int (ro), .int (lo), .int (ca), .int (ri), .int (x), .int (1), .null, .null, .null, .null] [.int (0)] (mv [62] N M2) Q) ∧ (¬ (v : Int32) = 0 → mx g (d + 6) kX12_seldom 77 [.ref 48, .int (p0), .int (p1), .int (n), .int (ro), .int (lo), .int (ca), .int (ri), .int (x), .int (1), .null, .null, .null, .null] [.int (1)] (mv [62] N M2) Q)
    replace ih := ih (mv [62] N M2) ⟨by omega, by omega, f3⟩
    rw [pa] at ih
    refine ⟨fun z => ?_, fun z => ?_⟩
    · rw [ecb, decide_eq_false (fun w => w z)] at ih
      exact c_sel77 (a := true) (b := false) ih
    · rw [ecb, decide_eq_true z] at ih
      exact c_sel77 (a := true) (b := true) ih
  · rw [psB_fr i3] at pa
    have f2 := fr_trans i3 f2'
    have hR2 := R5_fr f2 hR5
    obtain ⟨gS2', gN2, gH2, gT2, gX2⟩ := id hR2
    have hV2 : M2 48 27 = -1 := (f2 48 27 rfl).trans hV
    show mx g (d + 5) kX12_lightest 0 [.ref 48, .null, .null] [] M2 _
    refine c_X12_lightest gS2' ?_
    show mx g (d + 5) kX12_tellsRule 0 [.ref 48, .int (1), .int ((lgF (M2 2) (M2 1 3).toInt.toNat)), .int (x), .int (p0), .null, .null, .null, .null] [] M2 _
    refine c_X12_tellsRule (r := M2 13 5) (co := M2 14) (en := M2 15) (num := M2 12 p0.toNatClampNeg) (wet := M2 6 x.toNatClampNeg) (ice := M2 7 x.toNatClampNeg) (wi := M2 8 x.toNatClampNeg) gX2 gX2.2.1 rfl rfl rfl (by decide) (by decide) i1 (by omega) (by omega) (congrFun gN2.2.1 _) (congrFun gN2.2.2.1 _) (wi_now hV2 (congrFun gN2.2.2.2.1 _)) ⟨fun _ => congrFun gH2.2.2.1 _, fun z => absurd (by rw [n_le, n_0]; exact k1) z⟩ (fun N => ?_)
    rw [show (Int32.toInt 1).toNat = 1 from rfl]
    have f3 : fr (fL sL) M (mv [62] N M2) := fr_trans f2 (fr_sub fr_of (by decide))
    have ecb : caB M p0 x = decide (evV (fct (lgF (M2 2) (M2 1 3).toInt.toNat) (M2 12 p0.toNatClampNeg) x (M2 6 x.toNatClampNeg) (M2 7 x.toNatClampNeg) (M2 8 x.toNatClampNeg)) (tl (M2 14) (M2 15) (M2 13 5).toInt.toNat 1) ≠ 0) := by
      rw [← caB_fr f2]
      rfl
    generalize evV (fct (lgF (M2 2) (M2 1 3).toInt.toNat) (M2 12 p0.toNatClampNeg) x (M2 6 x.toNatClampNeg) (M2 7 x.toNatClampNeg) (M2 8 x.toNatClampNeg)) (tl (M2 14) (M2 15) (M2 13 5).toInt.toNat 1) = v at ecb ⊢
    show ((v : Int32) = 0 → mx g (d + 6) kX12_seldom 77 [.ref 48, .int (p0), .int (p1), .int (n), .int (ro), .int (lo), .int (ca), .int (ri), .int (x), .int (0), .null, .null, .null, .null] [.int (0)] (mv [62] N M2) Q) ∧ (¬ (v : Int32) = 0 → mx g (d + 6) kX12_seldom 77 [.ref 48, .int (p0), .int (p1), .int (n), .int (ro), .int (lo), .int (ca), .int (ri), .int (x), .int (0), .null, .null, .null, .null] [.int (1)] (mv [62] N M2) Q)
    replace ih := ih (mv [62] N M2) ⟨by omega, by omega, f3⟩
    rw [pa] at ih
    refine ⟨fun z => ?_, fun z => ?_⟩
    · rw [ecb, decide_eq_false (fun w => w z)] at ih
      exact c_sel77 (a := false) (b := false) ih
    · rw [ecb, decide_eq_true z] at ih
      exact c_sel77 (a := false) (b := true) ih

theorem op_seldom {g : zq_G} {d : Nat} {M : zq_M} {p0 p1 : Int32} (hR : RR M) : prl g (d + 6) kX11_seldom kX12_seldom [.ref 0, .int p0, .int p1] [.ref 48, .int p0, .int p1, .null, .null, .null, .null, .null, .null, .null, .null, .null, .null, .null] M :=
  q_opl (F_sel p0 p1) hR (fun _ _ _ hf h h' => F_sel_un hf h h') (fun _ hq => x_sel hR hq) (fun _ _ hR' hq => m_sel hR' hq)
