theorem c_X7_has {g : zq_G} {d : Nat} {M : zq_M} {Q : Option Value → zq_M → Prop} {v n : Int32} (hn : M 1 3 = n) (h1 : 0 ≤ v.toInt → v.toInt < n.toInt → Q (some (.int 1)) M) (h0 : v.toInt < 0 ∨ n.toInt ≤ v.toInt → Q (some (.int 0)) M) : mx g d kX7_has 0 [.ref 1, .int v] [] M Q := by
  refine mx_go 40 zq_t58 ?_
  show ((v : Int32) < 0 → zq_b 0 ∧ Q (some (.int 0)) M) ∧ (¬ (v : Int32) < 0 → (((M 1 3) : Int32) ≤ (v : Int32) → zq_b 0 ∧ Q (some (.int 0)) M) ∧ (¬ ((M 1 3) : Int32) ≤ (v : Int32) → zq_b 1 ∧ Q (some (.int 1)) M))
  simp only [n_lt, n_le, n_0, hn]
  exact ⟨fun q => ⟨Or.inl rfl, h0 (Or.inl q)⟩, fun q => ⟨fun r => ⟨Or.inl rfl, h0 (Or.inr r)⟩, fun r => ⟨Or.inr rfl, h1 (by omega) (by omega)⟩⟩⟩
theorem c_X2_has {g : zq_G} {d : Nat} {M : zq_M} {Q : Option Value → zq_M → Prop} {v n : Int32} (hn : M 5 4 = n) (h1 : 0 ≤ v.toInt → v.toInt < n.toInt → Q (some (.int 1)) M) (h0 : v.toInt < 0 ∨ n.toInt ≤ v.toInt → Q (some (.int 0)) M) : mx g d kX2_has 0 [.ref 5, .int v] [] M Q := by
  refine mx_go 40 zq_t11 ?_
  show ((v : Int32) < 0 → zq_b 0 ∧ Q (some (.int 0)) M) ∧ (¬ (v : Int32) < 0 → (((M 5 4) : Int32) ≤ (v : Int32) → zq_b 0 ∧ Q (some (.int 0)) M) ∧ (¬ ((M 5 4) : Int32) ≤ (v : Int32) → zq_b 1 ∧ Q (some (.int 1)) M))
  simp only [n_lt, n_le, n_0, hn]
  exact ⟨fun q => ⟨Or.inl rfl, h0 (Or.inl q)⟩, fun q => ⟨fun r => ⟨Or.inl rfl, h0 (Or.inr r)⟩, fun r => ⟨Or.inr rfl, h1 (by omega) (by omega)⟩⟩⟩
theorem c_X0_has {g : zq_G} {d : Nat} {M : zq_M} {Q : Option Value → zq_M → Prop} {v n : Int32} (hn : M 10 2 = n) (h1 : 0 ≤ v.toInt → v.toInt < n.toInt → Q (some (.int 1)) M) (h0 : v.toInt < 0 ∨ n.toInt ≤ v.toInt → Q (some (.int 0)) M) : mx g d kX0_has 0 [.ref 10, .int v] [] M Q := by
  refine mx_go 40 zq_t1 ?_
  show ((v : Int32) < 0 → zq_b 0 ∧ Q (some (.int 0)) M) ∧ (¬ (v : Int32) < 0 → (((M 10 2) : Int32) ≤ (v : Int32) → zq_b 0 ∧ Q (some (.int 0)) M) ∧ (¬ ((M 10 2) : Int32) ≤ (v : Int32) → zq_b 1 ∧ Q (some (.int 1)) M))
  simp only [n_lt, n_le, n_0, hn]
  exact ⟨fun q => ⟨Or.inl rfl, h0 (Or.inl q)⟩, fun q => ⟨fun r => ⟨Or.inl rfl, h0 (Or.inr r)⟩, fun r => ⟨Or.inr rfl, h1 (by omega) (by omega)⟩⟩⟩
theorem c_X9_has {g : zq_G} {d : Nat} {M : zq_M} {Q : Option Value → zq_M → Prop} {v n : Int32} (hn : M 30 7 = n) (h1 : 0 ≤ v.toInt → v.toInt < n.toInt → Q (some (.int 1)) M) (h0 : v.toInt < 0 ∨ n.toInt ≤ v.toInt → Q (some (.int 0)) M) : mx g d kX9_has 0 [.ref 30, .int v] [] M Q := by
  refine mx_go 40 zq_t74 ?_
  show ((v : Int32) < 0 → zq_b 0 ∧ Q (some (.int 0)) M) ∧ (¬ (v : Int32) < 0 → (((M 30 7) : Int32) ≤ (v : Int32) → zq_b 0 ∧ Q (some (.int 0)) M) ∧ (¬ ((M 30 7) : Int32) ≤ (v : Int32) → zq_b 1 ∧ Q (some (.int 1)) M))
  simp only [n_lt, n_le, n_0, hn]
  exact ⟨fun q => ⟨Or.inl rfl, h0 (Or.inl q)⟩, fun q => ⟨fun r => ⟨Or.inl rfl, h0 (Or.inr r)⟩, fun r => ⟨Or.inr rfl, h1 (by omega) (by omega)⟩⟩⟩
theorem c_X11_isPlace {g : zq_G} {d : Nat} {M : zq_M} {Q : Option Value → zq_M → Prop} {v : Int32} (h1 : 0 ≤ v.toInt → v.toInt ≤ 4095 → Q (some (.int 1)) M) (h0 : v.toInt < 0 ∨ 4095 < v.toInt → Q (some (.int 0)) M) : mx g d kX11_isPlace 0 [.int v] [] M Q := by
  refine mx_go 40 zq_t127 ?_
  show ((v : Int32) < 0 → zq_b 0 ∧ Q (some (.int 0)) M) ∧ (¬ (v : Int32) < 0 → ((4096 : Int32) ≤ (v : Int32) → zq_b 0 ∧ Q (some (.int 0)) M) ∧ (¬ (4096 : Int32) ≤ (v : Int32) → zq_b 1 ∧ Q (some (.int 1)) M))
  have e : (4096 : Int32).toInt = 4096 := by decide
  simp only [n_lt, n_le, n_0, e]
  exact ⟨fun q => ⟨Or.inl rfl, h0 (by omega)⟩, fun q => ⟨fun r => ⟨Or.inl rfl, h0 (by omega)⟩, fun r => ⟨Or.inr rfl, h1 (by omega) (by omega)⟩⟩⟩
theorem c_X11_isKind {g : zq_G} {d : Nat} {M : zq_M} {Q : Option Value → zq_M → Prop} {v : Int32} (h1 : 0 ≤ v.toInt → v.toInt ≤ 5 → Q (some (.int 1)) M) (h0 : v.toInt < 0 ∨ 5 < v.toInt → Q (some (.int 0)) M) : mx g d kX11_isKind 0 [.int v] [] M Q := by
  refine mx_go 40 zq_t128 ?_
  show ((v : Int32) < 0 → zq_b 0 ∧ Q (some (.int 0)) M) ∧ (¬ (v : Int32) < 0 → ((5 : Int32) < (v : Int32) → zq_b 0 ∧ Q (some (.int 0)) M) ∧ (¬ (5 : Int32) < (v : Int32) → zq_b 1 ∧ Q (some (.int 1)) M))
  have e : (5 : Int32).toInt = 5 := by decide
  simp only [n_lt, n_le, n_0, e]
  exact ⟨fun q => ⟨Or.inl rfl, h0 (by omega)⟩, fun q => ⟨fun r => ⟨Or.inl rfl, h0 (by omega)⟩, fun r => ⟨Or.inr rfl, h1 (by omega) (by omega)⟩⟩⟩
theorem c_X11_isOff {g : zq_G} {d : Nat} {M : zq_M} {Q : Option Value → zq_M → Prop} {v : Int32} (h1 : 0 ≤ v.toInt → v.toInt ≤ 99 → Q (some (.int 1)) M) (h0 : v.toInt < 0 ∨ 99 < v.toInt → Q (some (.int 0)) M) : mx g d kX11_isOff 0 [.int v] [] M Q := by
  refine mx_go 40 zq_t129 ?_
  show ((v : Int32) < 0 → zq_b 0 ∧ Q (some (.int 0)) M) ∧ (¬ (v : Int32) < 0 → ((99 : Int32) < (v : Int32) → zq_b 0 ∧ Q (some (.int 0)) M) ∧ (¬ (99 : Int32) < (v : Int32) → zq_b 1 ∧ Q (some (.int 1)) M))
  have e : (99 : Int32).toInt = 99 := by decide
  simp only [n_lt, n_le, n_0, e]
  exact ⟨fun q => ⟨Or.inl rfl, h0 (by omega)⟩, fun q => ⟨fun r => ⟨Or.inl rfl, h0 (by omega)⟩, fun r => ⟨Or.inr rfl, h1 (by omega) (by omega)⟩⟩⟩
theorem c_X11_isFar {g : zq_G} {d : Nat} {M : zq_M} {Q : Option Value → zq_M → Prop} {v : Int32} (h1 : 0 ≤ v.toInt → v.toInt ≤ 63 → Q (some (.int 1)) M) (h0 : v.toInt < 0 ∨ 63 < v.toInt → Q (some (.int 0)) M) : mx g d kX11_isFar 0 [.int v] [] M Q := by
  refine mx_go 40 zq_t130 ?_
  show ((v : Int32) < 0 → zq_b 0 ∧ Q (some (.int 0)) M) ∧ (¬ (v : Int32) < 0 → ((63 : Int32) < (v : Int32) → zq_b 0 ∧ Q (some (.int 0)) M) ∧ (¬ (63 : Int32) < (v : Int32) → zq_b 1 ∧ Q (some (.int 1)) M))
  have e : (63 : Int32).toInt = 63 := by decide
  simp only [n_lt, n_le, n_0, e]
  exact ⟨fun q => ⟨Or.inl rfl, h0 (by omega)⟩, fun q => ⟨fun r => ⟨Or.inl rfl, h0 (by omega)⟩, fun r => ⟨Or.inr rfl, h1 (by omega) (by omega)⟩⟩⟩
theorem c_X11_isSheet {g : zq_G} {d : Nat} {M : zq_M} {Q : Option Value → zq_M → Prop} {v : Int32} (h1 : 0 ≤ v.toInt → v.toInt ≤ 3 → Q (some (.int 1)) M) (h0 : v.toInt < 0 ∨ 3 < v.toInt → Q (some (.int 0)) M) : mx g d kX11_isSheet 0 [.int v] [] M Q := by
  refine mx_go 40 zq_t131 ?_
  show ((v : Int32) < 0 → zq_b 0 ∧ Q (some (.int 0)) M) ∧ (¬ (v : Int32) < 0 → ((4 : Int32) ≤ (v : Int32) → zq_b 0 ∧ Q (some (.int 0)) M) ∧ (¬ (4 : Int32) ≤ (v : Int32) → zq_b 1 ∧ Q (some (.int 1)) M))
  have e : (4 : Int32).toInt = 4 := by decide
  simp only [n_lt, n_le, n_0, e]
  exact ⟨fun q => ⟨Or.inl rfl, h0 (by omega)⟩, fun q => ⟨fun r => ⟨Or.inl rfl, h0 (by omega)⟩, fun r => ⟨Or.inr rfl, h1 (by omega) (by omega)⟩⟩⟩
theorem c_X11_isSort {g : zq_G} {d : Nat} {M : zq_M} {Q : Option Value → zq_M → Prop} {v : Int32} (h1 : 0 ≤ v.toInt → v.toInt ≤ 2 → Q (some (.int 1)) M) (h0 : v.toInt < 0 ∨ 2 < v.toInt → Q (some (.int 0)) M) : mx g d kX11_isSort 0 [.int v] [] M Q := by
  refine mx_go 40 zq_t132 ?_
  show ((v : Int32) < 0 → zq_b 0 ∧ Q (some (.int 0)) M) ∧ (¬ (v : Int32) < 0 → ((2 : Int32) < (v : Int32) → zq_b 0 ∧ Q (some (.int 0)) M) ∧ (¬ (2 : Int32) < (v : Int32) → zq_b 1 ∧ Q (some (.int 1)) M))
  have e : (2 : Int32).toInt = 2 := by decide
  simp only [n_lt, n_le, n_0, e]
  exact ⟨fun q => ⟨Or.inl rfl, h0 (by omega)⟩, fun q => ⟨fun r => ⟨Or.inl rfl, h0 (by omega)⟩, fun r => ⟨Or.inr rfl, h1 (by omega) (by omega)⟩⟩⟩
theorem c_X12_in {g : zq_G} {d : Nat} {M : zq_M} {Q : Option Value → zq_M → Prop} {v lo hi : Int32} (h1 : lo.toInt ≤ v.toInt → v.toInt ≤ hi.toInt → Q (some (.int 1)) M) (h0 : v.toInt < lo.toInt ∨ hi.toInt < v.toInt → Q (some (.int 0)) M) : mx g d kX12_in 0 [.ref 48, .int v, .int lo, .int hi] [] M Q := by
  refine mx_go 40 zq_t139 ?_
  show ((v : Int32) < (lo : Int32) → zq_b 0 ∧ Q (some (.int 0)) M) ∧ (¬ (v : Int32) < (lo : Int32) → ((hi : Int32) < (v : Int32) → zq_b 0 ∧ Q (some (.int 0)) M) ∧ (¬ (hi : Int32) < (v : Int32) → zq_b 1 ∧ Q (some (.int 1)) M))
  simp only [n_lt, n_le, n_0]
  exact ⟨fun q => ⟨Or.inl rfl, h0 (Or.inl q)⟩, fun q => ⟨fun r => ⟨Or.inl rfl, h0 (Or.inr r)⟩, fun r => ⟨Or.inr rfl, h1 (by omega) (by omega)⟩⟩⟩
theorem c_X12_isStone {g : zq_G} {d : Nat} {M : zq_M} {Q : Option Value → zq_M → Prop} {v n : Int32} (hn : M 48 0 = n) (hb : 0 ≤ n.toInt) (h1 : 0 ≤ v.toInt → v.toInt < n.toInt → Q (some (.int 1)) M) (h0 : v.toInt < 0 ∨ n.toInt ≤ v.toInt → Q (some (.int 0)) M) : mx g (d + 1) kX12_isStone 0 [.ref 48, .int v] [] M Q := by
  refine mx_go 40 zq_t140 ?_
  show mx g (d) kX12_in 0 [.ref 48, .int (v), .int (0), .int (((M 48 0) - 1))] [] M _
  rw [hn]
  have hr := n_rng n
  have e : (n - 1).toInt = n.toInt - 1 := by rw [n_sub, n_1, zw_id (by omega) (by omega)]
  refine c_X12_in (fun q r => ?_) (fun q => ?_)
  · rw [e] at r
    exact ⟨Or.inr rfl, h1 (by rw [n_0] at q; exact q) (by omega)⟩
  · rw [e, n_0] at q
    exact ⟨Or.inl rfl, h0 (by omega)⟩
theorem c_X12_isNight {g : zq_G} {d : Nat} {M : zq_M} {Q : Option Value → zq_M → Prop} {v n : Int32} (hn : M 48 1 = n) (hb : 0 ≤ n.toInt) (h1 : 0 ≤ v.toInt → v.toInt < n.toInt → Q (some (.int 1)) M) (h0 : v.toInt < 0 ∨ n.toInt ≤ v.toInt → Q (some (.int 0)) M) : mx g (d + 1) kX12_isNight 0 [.ref 48, .int v] [] M Q := by
  refine mx_go 40 zq_t141 ?_
  show mx g (d) kX12_in 0 [.ref 48, .int (v), .int (0), .int (((M 48 1) - 1))] [] M _
  rw [hn]
  have hr := n_rng n
  have e : (n - 1).toInt = n.toInt - 1 := by rw [n_sub, n_1, zw_id (by omega) (by omega)]
  refine c_X12_in (fun q r => ?_) (fun q => ?_)
  · rw [e] at r
    exact ⟨Or.inr rfl, h1 (by rw [n_0] at q; exact q) (by omega)⟩
  · rw [e, n_0] at q
    exact ⟨Or.inl rfl, h0 (by omega)⟩
theorem c_X12_isHow {g : zq_G} {d : Nat} {M : zq_M} {Q : Option Value → zq_M → Prop} {v n : Int32} (hn : M 48 2 = n) (hb : 0 ≤ n.toInt) (h1 : 0 ≤ v.toInt → v.toInt < n.toInt → Q (some (.int 1)) M) (h0 : v.toInt < 0 ∨ n.toInt ≤ v.toInt → Q (some (.int 0)) M) : mx g (d + 1) kX12_isHow 0 [.ref 48, .int v] [] M Q := by
  refine mx_go 40 zq_t142 ?_
  show mx g (d) kX12_in 0 [.ref 48, .int (v), .int (0), .int (((M 48 2) - 1))] [] M _
  rw [hn]
  have hr := n_rng n
  have e : (n - 1).toInt = n.toInt - 1 := by rw [n_sub, n_1, zw_id (by omega) (by omega)]
  refine c_X12_in (fun q r => ?_) (fun q => ?_)
  · rw [e] at r
    exact ⟨Or.inr rfl, h1 (by rw [n_0] at q; exact q) (by omega)⟩
  · rw [e, n_0] at q
    exact ⟨Or.inl rfl, h0 (by omega)⟩
theorem c_X12_isTrack {g : zq_G} {d : Nat} {M : zq_M} {Q : Option Value → zq_M → Prop} {v n : Int32} (hn : M 48 32 = n) (hb : 0 ≤ n.toInt) (h1 : 0 ≤ v.toInt → v.toInt < n.toInt → Q (some (.int 1)) M) (h0 : v.toInt < 0 ∨ n.toInt ≤ v.toInt → Q (some (.int 0)) M) : mx g (d + 1) kX12_isTrack 0 [.ref 48, .int v] [] M Q := by
  refine mx_go 40 zq_t191 ?_
  show mx g (d) kX12_in 0 [.ref 48, .int (v), .int (0), .int (((M 48 32) - 1))] [] M _
  rw [hn]
  have hr := n_rng n
  have e : (n - 1).toInt = n.toInt - 1 := by rw [n_sub, n_1, zw_id (by omega) (by omega)]
  refine c_X12_in (fun q r => ?_) (fun q => ?_)
  · rw [e] at r
    exact ⟨Or.inr rfl, h1 (by rw [n_0] at q; exact q) (by omega)⟩
  · rw [e, n_0] at q
    exact ⟨Or.inl rfl, h0 (by omega)⟩
theorem c_X12_isSheet {g : zq_G} {d : Nat} {M : zq_M} {Q : Option Value → zq_M → Prop} {v : Int32} (h1 : 0 ≤ v.toInt → v.toInt ≤ 3 → Q (some (.int 1)) M) (h0 : v.toInt < 0 ∨ 3 < v.toInt → Q (some (.int 0)) M) : mx g (d + 1) kX12_isSheet 0 [.ref 48, .int v] [] M Q := by
  refine mx_go 40 zq_t223 ?_
  show mx g (d) kX12_in 0 [.ref 48, .int (v), .int (0), .int (3)] [] M _
  refine c_X12_in (fun q r => ?_) (fun q => ?_)
  · exact ⟨Or.inr rfl, h1 q r⟩
  · exact ⟨Or.inl rfl, h0 q⟩
theorem c_X11_bit {g : zq_G} {d : Nat} {M : zq_M} {Q : Option Value → zq_M → Prop} {v : Int32} (h1 : ¬ v = 0 → Q (some (.int 1)) M) (h0 : v = 0 → Q (some (.int 0)) M) : mx g d kX11_bit 0 [.int v] [] M Q := by
  refine mx_go 40 zq_t125 ?_
  show ((v : Int32) = 0 → Q (some (.int 0)) M) ∧ (¬ (v : Int32) = 0 → Q (some (.int 1)) M)
  exact ⟨fun q => h0 q, fun q => h1 q⟩
