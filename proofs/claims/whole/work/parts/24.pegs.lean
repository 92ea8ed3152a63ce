def exB (f : Nat → Bool) : Nat → Bool
  | 0 => false
  | n + 1 => exB f n || f n
def alB (f : Nat → Bool) : Nat → Bool
  | 0 => true
  | n + 1 => alB f n && f n
def bI (b : Bool) : Int32 := if b then 1 else 0
theorem bI_ne {b : Bool} : ¬ bI b = 0 ↔ b = true := by cases b <;> decide
theorem bI_eq {b : Bool} : bI b = 0 ↔ b = false := by cases b <;> decide
theorem bI_b {b : Bool} : zq_b (bI b) := by cases b; exact Or.inl rfl; exact Or.inr rfl
theorem rem64 {x : Int32} (h : 0 ≤ x.toInt) : (x - x / 64 * 64).toInt = x.toInt % 64 := n_rem 64 (by decide) (by decide) h
theorem div64 {x : Int32} (h : 0 ≤ x.toInt) : (x / 64).toInt = x.toInt / 64 := n_div 64 (by decide) (by decide) h
def lsB (rw : Nat → Int) (n : Nat) (mid far : Int) : Bool := exB (fun k => decide (1 ≤ mid - rw k ∧ mid - rw k ≤ far)) n
def mrB (rw : Nat → Int) (n : Nat) (mid far : Int) : Bool := exB (fun k => decide (1 ≤ rw k - mid ∧ rw k - mid ≤ far)) n
def hldB (p : Nat → Int32) (n : Nat) (pl far : Int) : Bool := (lsB (fun k => (p k).toInt % 64) n (pl % 64) far && mrB (fun k => (p k).toInt % 64) n (pl % 64) far) && (lsB (fun k => (p k).toInt / 64) n (pl / 64) far && mrB (fun k => (p k).toInt / 64) n (pl / 64) far)
def blB (rw : Nat → Int) (n : Nat) (v : Int) : Bool := alB (fun k => decide (v < rw k)) n
def abB (rw : Nat → Int) (n : Nat) (v : Int) : Bool := alB (fun k => decide (rw k < v)) n
def outB (p : Nat → Int32) (n : Nat) (v : Int) : Bool := (blB (fun k => (p k).toInt % 64) n (v % 64) || abB (fun k => (p k).toInt % 64) n (v % 64)) || (blB (fun k => (p k).toInt / 64) n (v / 64) || abB (fun k => (p k).toInt / 64) n (v / 64))

theorem c_both39 {g : zq_G} {d : Nat} {M : zq_M} {Q : Option Value → zq_M → Prop} {mid far n : Int32} {rw : Nat → Int} (hn : M 38 2 = n) (b1 : 0 ≤ n.toInt) (b2 : n.toInt ≤ 8) (hr : ∀ k, (M 39 k).toInt = rw k ∧ 0 ≤ rw k ∧ rw k ≤ 63) (m1 : 0 ≤ mid.toInt) (m2 : mid.toInt ≤ 63) (f1 : 0 ≤ far.toInt) (f2 : far.toInt ≤ 63) (h : Q (some (.int (bI (lsB rw n.toInt.toNat mid.toInt far.toInt && mrB rw n.toInt.toNat mid.toInt far.toInt)))) M) : mx g d kX3_onBothSides 0 [.ref 38, .ref 39, .int mid, .int far, .null, .null, .null, .null] [] M Q := by
  refine mx_go 60 zq_t17 ?_
  show mx g (d) kX3_onBothSides 9 [.ref 38, .ref 39, .int (mid), .int (far), .int (0), .int (0), .int (0), .null] [] M Q
  refine mx_wf (fun x : Int32 => [.ref 38, .ref 39, .int mid, .int far, .int (bI (lsB rw x.toInt.toNat mid.toInt far.toInt)), .int (bI (mrB rw x.toInt.toNat mid.toInt far.toInt)), .int x, .null]) (fun x M' => M' = M ∧ 0 ≤ x.toInt ∧ x.toInt ≤ n.toInt) (fun x => (n.toInt - x.toInt).toNat) ?_ 0 M ⟨rfl, by decide, b1⟩
  intro x M' ⟨e, i1, i2⟩ ih
  subst e
  refine mx_go 60 zq_t17 ?_
  show (((M' 38 2) : Int32) ≤ (x : Int32) → (((bI (lsB rw x.toInt.toNat mid.toInt far.toInt)) : Int32) = 0 → zq_b 0 ∧ Q (some (.int 0)) M') ∧ (¬ ((bI (lsB rw x.toInt.toNat mid.toInt far.toInt)) : Int32) = 0 → (((bI (mrB rw x.toInt.toNat mid.toInt far.toInt)) : Int32) = 0 → zq_b 0 ∧ Q (some (.int 0)) M') ∧ (¬ ((bI (mrB rw x.toInt.toNat mid.toInt far.toInt)) : Int32) = 0 → zq_b 1 ∧ Q (some (.int 1)) M'))) ∧ (¬ ((M' 38 2) : Int32) ≤ (x : Int32) → vp_in x 8 ∧ (¬ ((bI (lsB rw x.toInt.toNat mid.toInt far.toInt)) : Int32) = 0 → mx g (d) kX3_onBothSides 48 [.ref 38, .ref 39, .int (mid), .int (far), .null, .int ((bI (mrB rw x.toInt.toNat mid.toInt far.toInt))), .int (x), .int ((((M' 39) (Int32.toNatClampNeg x)) - mid))] [.int (1)] M' Q) ∧ (((bI (lsB rw x.toInt.toNat mid.toInt far.toInt)) : Int32) = 0 → (0 ≤ ((((M' 39) (Int32.toNatClampNeg x)) - mid) : Int32) → mx g (d) kX3_onBothSides 48 [.ref 38, .ref 39, .int (mid), .int (far), .null, .int ((bI (mrB rw x.toInt.toNat mid.toInt far.toInt))), .int (x), .int ((((M' 39) (Int32.toNatClampNeg x)) - mid))] [.int (0)] M' Q) ∧ (¬ 0 ≤ ((((M' 39) (Int32.toNatClampNeg x)) - mid) : Int32) → ((far : Int32) < ((-(((M' 39) (Int32.toNatClampNeg x)) - mid)) : Int32) → mx g (d) kX3_onBothSides 48 [.ref 38, .ref 39, .int (mid), .int (far), .null, .int ((bI (mrB rw x.toInt.toNat mid.toInt far.toInt))), .int (x), .int ((((M' 39) (Int32.toNatClampNeg x)) - mid))] [.int (0)] M' Q) ∧ (¬ (far : Int32) < ((-(((M' 39) (Int32.toNatClampNeg x)) - mid)) : Int32) → mx g (d) kX3_onBothSides 48 [.ref 38, .ref 39, .int (mid), .int (far), .null, .int ((bI (mrB rw x.toInt.toNat mid.toInt far.toInt))), .int (x), .int ((((M' 39) (Int32.toNatClampNeg x)) - mid))] [.int (1)] M' Q))))
  rw [hn]
  refine ⟨fun q => ?_, fun q => ?_⟩
  · rw [n_le] at q
    rw [show x.toInt = n.toInt by omega]
    refine ⟨fun c => ⟨Or.inl rfl, ?_⟩, fun c => ⟨fun c2 => ⟨Or.inl rfl, ?_⟩, fun c2 => ⟨Or.inr rfl, ?_⟩⟩⟩
    · rw [bI_eq] at c; rw [c] at h; exact h
    · rw [bI_eq] at c2; rw [c2, Bool.and_false] at h; exact h
    · rw [bI_ne] at c c2; rw [c, c2] at h; exact h
  rw [n_le] at q
  obtain ⟨r1, r2, r3⟩ := hr x.toInt.toNat
  have up := n_up (n := n) i1 (by omega)
  have eo : (M' 39 x.toNatClampNeg - mid).toInt = rw x.toInt.toNat - mid.toInt := by rw [n_sub, n_cl, r1, zw_id (by omega) (by omega)]
  have en : (-(M' 39 x.toNatClampNeg - mid)).toInt = mid.toInt - rw x.toInt.toNat := by rw [n_neg, eo, zw_id (by omega) (by omega)]; omega
  have ls : ∀ far, lsB rw (x.toInt.toNat + 1) mid.toInt far = (lsB rw x.toInt.toNat mid.toInt far || decide (1 ≤ mid.toInt - rw x.toInt.toNat ∧ mid.toInt - rw x.toInt.toNat ≤ far)) := fun _ => rfl
  have ms : ∀ far, mrB rw (x.toInt.toNat + 1) mid.toInt far = (mrB rw x.toInt.toNat mid.toInt far || decide (1 ≤ rw x.toInt.toNat - mid.toInt ∧ rw x.toInt.toNat - mid.toInt ≤ far)) := fun _ => rfl
  have go : ∀ a b : Int32, a = bI (lsB rw (x.toInt.toNat + 1) mid.toInt far.toInt) → b = bI (mrB rw (x.toInt.toNat + 1) mid.toInt far.toInt) → mx g d kX3_onBothSides 9 [.ref 38, .ref 39, .int mid, .int far, .int a, .int b, .int (x + 1), .null] [] M' Q := by
    intro a b ha hb
    have := ih (x + 1) M' (by omega) ⟨rfl, by omega, by omega⟩
    rw [show (x + 1).toInt.toNat = x.toInt.toNat + 1 by omega, ← ha, ← hb] at this
    exact this
  have go2 : ∀ a : Int32, a = bI (lsB rw (x.toInt.toNat + 1) mid.toInt far.toInt) → mx g d kX3_onBothSides 48 [.ref 38, .ref 39, .int mid, .int far, .null, .int (bI (mrB rw x.toInt.toNat mid.toInt far.toInt)), .int x, .int (M' 39 x.toNatClampNeg - mid)] [.int a] M' Q := by
    intro a ha
    refine mx_go 60 zq_t17 ?_
    show (¬ ((bI (mrB rw x.toInt.toNat mid.toInt far.toInt)) : Int32) = 0 → mx g (d) kX3_onBothSides 9 [.ref 38, .ref 39, .int (mid), .int (far), .int (a), .int (1), .int ((x + 1)), .null] [] M' Q) ∧ (((bI (mrB rw x.toInt.toNat mid.toInt far.toInt)) : Int32) = 0 → (((M' 39 x.toNatClampNeg - mid) : Int32) ≤ 0 → mx g (d) kX3_onBothSides 9 [.ref 38, .ref 39, .int (mid), .int (far), .int (a), .int (0), .int ((x + 1)), .null] [] M' Q) ∧ (¬ ((M' 39 x.toNatClampNeg - mid) : Int32) ≤ 0 → ((far : Int32) < ((M' 39 x.toNatClampNeg - mid) : Int32) → mx g (d) kX3_onBothSides 9 [.ref 38, .ref 39, .int (mid), .int (far), .int (a), .int (0), .int ((x + 1)), .null] [] M' Q) ∧ (¬ (far : Int32) < ((M' 39 x.toNatClampNeg - mid) : Int32) → mx g (d) kX3_onBothSides 9 [.ref 38, .ref 39, .int (mid), .int (far), .int (a), .int (1), .int ((x + 1)), .null] [] M' Q)))
    refine ⟨fun c => ?_, fun c => ⟨fun c2 => ?_, fun c2 => ⟨fun c3 => ?_, fun c3 => ?_⟩⟩⟩
    · refine go _ _ ha ?_
      rw [bI_ne] at c; rw [ms, c]; rfl
    · refine go _ _ ha ?_
      rw [bI_eq] at c; rw [n_le, n_0, eo] at c2
      rw [ms, c, decide_eq_false (by omega)]; rfl
    · refine go _ _ ha ?_
      rw [bI_eq] at c; rw [n_lt, eo] at c3
      rw [ms, c, decide_eq_false (by omega)]; rfl
    · refine go _ _ ha ?_
      rw [bI_eq] at c; rw [n_le, n_0, eo] at c2; rw [n_lt, eo] at c3
      rw [ms, c, decide_eq_true (by omega)]; rfl
  refine ⟨n_in i1 (by omega), fun c => ?_, fun c => ⟨fun c2 => ?_, fun c2 => ⟨fun c3 => ?_, fun c3 => ?_⟩⟩⟩
  · refine go2 _ ?_
    rw [bI_ne] at c; rw [ls, c]; rfl
  · refine go2 _ ?_
    rw [bI_eq] at c; rw [n_le, n_0, eo] at c2
    rw [ls, c, decide_eq_false (by omega)]; rfl
  · refine go2 _ ?_
    rw [bI_eq] at c; rw [n_lt, en] at c3
    rw [ls, c, decide_eq_false (by omega)]; rfl
  · refine go2 _ ?_
    rw [bI_eq] at c; rw [n_le, n_0, eo] at c2; rw [n_lt, en] at c3
    rw [ls, c, decide_eq_true (by omega)]; rfl
theorem c_beyond39 {g : zq_G} {d : Nat} {M : zq_M} {Q : Option Value → zq_M → Prop} {v n : Int32} {rw : Nat → Int} (hn : M 38 2 = n) (b1 : 0 ≤ n.toInt) (b2 : n.toInt ≤ 8) (hr : ∀ k, (M 39 k).toInt = rw k) (h : Q (some (.int (bI (blB rw n.toInt.toNat v.toInt || abB rw n.toInt.toNat v.toInt)))) M) : mx g d kX3_isBeyondRow 0 [.ref 38, .ref 39, .int v, .null, .null, .null] [] M Q := by
  refine mx_go 60 zq_t19 ?_
  show mx g (d) kX3_isBeyondRow 8 [.ref 38, .ref 39, .int (v), .int (1), .int (1), .int (0)] [] M Q
  refine mx_wf (fun x : Int32 => [.ref 38, .ref 39, .int v, .int (bI (blB rw x.toInt.toNat v.toInt)), .int (bI (abB rw x.toInt.toNat v.toInt)), .int x]) (fun x M' => M' = M ∧ 0 ≤ x.toInt ∧ x.toInt ≤ n.toInt) (fun x => (n.toInt - x.toInt).toNat) ?_ 0 M ⟨rfl, by decide, b1⟩
  intro x M' ⟨e, i1, i2⟩ ih
  subst e
  refine mx_go 60 zq_t19 ?_
  show (((M' 38 2) : Int32) ≤ (x : Int32) → (¬ ((bI (blB rw x.toInt.toNat v.toInt)) : Int32) = 0 → zq_b 1 ∧ Q (some (.int 1)) M') ∧ (((bI (blB rw x.toInt.toNat v.toInt)) : Int32) = 0 → (((bI (abB rw x.toInt.toNat v.toInt)) : Int32) = 0 → zq_b 0 ∧ Q (some (.int 0)) M') ∧ (¬ ((bI (abB rw x.toInt.toNat v.toInt)) : Int32) = 0 → zq_b 1 ∧ Q (some (.int 1)) M'))) ∧ (¬ ((M' 38 2) : Int32) ≤ (x : Int32) → (((bI (blB rw x.toInt.toNat v.toInt)) : Int32) = 0 → mx g (d) kX3_isBeyondRow 34 [.ref 38, .ref 39, .int (v), .null, .int ((bI (abB rw x.toInt.toNat v.toInt))), .int (x)] [.int (0)] M' Q) ∧ (¬ ((bI (blB rw x.toInt.toNat v.toInt)) : Int32) = 0 → vp_in x 8 ∧ ((((M' 39) (Int32.toNatClampNeg x)) : Int32) ≤ (v : Int32) → mx g (d) kX3_isBeyondRow 34 [.ref 38, .ref 39, .int (v), .null, .int ((bI (abB rw x.toInt.toNat v.toInt))), .int (x)] [.int (0)] M' Q) ∧ (¬ (((M' 39) (Int32.toNatClampNeg x)) : Int32) ≤ (v : Int32) → mx g (d) kX3_isBeyondRow 34 [.ref 38, .ref 39, .int (v), .null, .int ((bI (abB rw x.toInt.toNat v.toInt))), .int (x)] [.int (1)] M' Q)))
  rw [hn]
  refine ⟨fun q => ?_, fun q => ?_⟩
  · rw [n_le] at q
    rw [show x.toInt = n.toInt by omega]
    refine ⟨fun c => ⟨Or.inr rfl, ?_⟩, fun c => ⟨fun c2 => ⟨Or.inl rfl, ?_⟩, fun c2 => ⟨Or.inr rfl, ?_⟩⟩⟩
    · rw [bI_ne] at c; rw [c] at h; exact h
    · rw [bI_eq] at c c2; rw [c, c2] at h; exact h
    · rw [bI_ne] at c2; rw [c2, Bool.or_true] at h; exact h
  rw [n_le] at q
  have r1 := hr x.toInt.toNat
  have up := n_up (n := n) i1 (by omega)
  have eo : (M' 39 x.toNatClampNeg).toInt = rw x.toInt.toNat := by rw [n_cl, r1]
  have ls : blB rw (x.toInt.toNat + 1) v.toInt = (blB rw x.toInt.toNat v.toInt && decide (v.toInt < rw x.toInt.toNat)) := rfl
  have ms : abB rw (x.toInt.toNat + 1) v.toInt = (abB rw x.toInt.toNat v.toInt && decide (rw x.toInt.toNat < v.toInt)) := rfl
  have go : ∀ a b : Int32, a = bI (blB rw (x.toInt.toNat + 1) v.toInt) → b = bI (abB rw (x.toInt.toNat + 1) v.toInt) → mx g d kX3_isBeyondRow 8 [.ref 38, .ref 39, .int v, .int a, .int b, .int (x + 1)] [] M' Q := by
    intro a b ha hb
    have := ih (x + 1) M' (by omega) ⟨rfl, by omega, by omega⟩
    rw [show (x + 1).toInt.toNat = x.toInt.toNat + 1 by omega, ← ha, ← hb] at this
    exact this
  have go2 : ∀ a : Int32, a = bI (blB rw (x.toInt.toNat + 1) v.toInt) → mx g d kX3_isBeyondRow 34 [.ref 38, .ref 39, .int v, .null, .int (bI (abB rw x.toInt.toNat v.toInt)), .int x] [.int a] M' Q := by
    intro a ha
    refine mx_go 60 zq_t19 ?_
    show (((bI (abB rw x.toInt.toNat v.toInt)) : Int32) = 0 → mx g (d) kX3_isBeyondRow 8 [.ref 38, .ref 39, .int (v), .int (a), .int (0), .int ((x + 1))] [] M' Q) ∧ (¬ ((bI (abB rw x.toInt.toNat v.toInt)) : Int32) = 0 → vp_in x 8 ∧ ((v : Int32) ≤ (((M' 39) (Int32.toNatClampNeg x)) : Int32) → mx g (d) kX3_isBeyondRow 8 [.ref 38, .ref 39, .int (v), .int (a), .int (0), .int ((x + 1))] [] M' Q) ∧ (¬ (v : Int32) ≤ (((M' 39) (Int32.toNatClampNeg x)) : Int32) → mx g (d) kX3_isBeyondRow 8 [.ref 38, .ref 39, .int (v), .int (a), .int (1), .int ((x + 1))] [] M' Q))
    refine ⟨fun c => ?_, fun c => ⟨n_in i1 (by omega), fun c2 => ?_, fun c2 => ?_⟩⟩
    · refine go _ _ ha ?_
      rw [bI_eq] at c; rw [ms, c]; rfl
    · refine go _ _ ha ?_
      rw [bI_ne] at c; rw [n_le, eo] at c2
      rw [ms, c, decide_eq_false (by omega)]; rfl
    · refine go _ _ ha ?_
      rw [bI_ne] at c; rw [n_le, eo] at c2
      rw [ms, c, decide_eq_true (by omega)]; rfl
  refine ⟨fun c => ?_, fun c => ⟨n_in i1 (by omega), fun c2 => ?_, fun c2 => ?_⟩⟩
  · refine go2 _ ?_
    rw [bI_eq] at c; rw [ls, c]; rfl
  · refine go2 _ ?_
    rw [bI_ne] at c; rw [n_le, eo] at c2
    rw [ls, c, decide_eq_false (by omega)]; rfl
  · refine go2 _ ?_
    rw [bI_ne] at c; rw [n_le, eo] at c2
    rw [ls, c, decide_eq_true (by omega)]; rfl
theorem c_both40 {g : zq_G} {d : Nat} {M : zq_M} {Q : Option Value → zq_M → Prop} {mid far n : Int32} {rw : Nat → Int} (hn : M 38 2 = n) (b1 : 0 ≤ n.toInt) (b2 : n.toInt ≤ 8) (hr : ∀ k, (M 40 k).toInt = rw k ∧ 0 ≤ rw k ∧ rw k ≤ 63) (m1 : 0 ≤ mid.toInt) (m2 : mid.toInt ≤ 63) (f1 : 0 ≤ far.toInt) (f2 : far.toInt ≤ 63) (h : Q (some (.int (bI (lsB rw n.toInt.toNat mid.toInt far.toInt && mrB rw n.toInt.toNat mid.toInt far.toInt)))) M) : mx g d kX3_onBothSides 0 [.ref 38, .ref 40, .int mid, .int far, .null, .null, .null, .null] [] M Q := by
  refine mx_go 60 zq_t17 ?_
  show mx g (d) kX3_onBothSides 9 [.ref 38, .ref 40, .int (mid), .int (far), .int (0), .int (0), .int (0), .null] [] M Q
  refine mx_wf (fun x : Int32 => [.ref 38, .ref 40, .int mid, .int far, .int (bI (lsB rw x.toInt.toNat mid.toInt far.toInt)), .int (bI (mrB rw x.toInt.toNat mid.toInt far.toInt)), .int x, .null]) (fun x M' => M' = M ∧ 0 ≤ x.toInt ∧ x.toInt ≤ n.toInt) (fun x => (n.toInt - x.toInt).toNat) ?_ 0 M ⟨rfl, by decide, b1⟩
  intro x M' ⟨e, i1, i2⟩ ih
  subst e
  refine mx_go 60 zq_t17 ?_
  show (((M' 38 2) : Int32) ≤ (x : Int32) → (((bI (lsB rw x.toInt.toNat mid.toInt far.toInt)) : Int32) = 0 → zq_b 0 ∧ Q (some (.int 0)) M') ∧ (¬ ((bI (lsB rw x.toInt.toNat mid.toInt far.toInt)) : Int32) = 0 → (((bI (mrB rw x.toInt.toNat mid.toInt far.toInt)) : Int32) = 0 → zq_b 0 ∧ Q (some (.int 0)) M') ∧ (¬ ((bI (mrB rw x.toInt.toNat mid.toInt far.toInt)) : Int32) = 0 → zq_b 1 ∧ Q (some (.int 1)) M'))) ∧ (¬ ((M' 38 2) : Int32) ≤ (x : Int32) → vp_in x 8 ∧ (¬ ((bI (lsB rw x.toInt.toNat mid.toInt far.toInt)) : Int32) = 0 → mx g (d) kX3_onBothSides 48 [.ref 38, .ref 40, .int (mid), .int (far), .null, .int ((bI (mrB rw x.toInt.toNat mid.toInt far.toInt))), .int (x), .int ((((M' 40) (Int32.toNatClampNeg x)) - mid))] [.int (1)] M' Q) ∧ (((bI (lsB rw x.toInt.toNat mid.toInt far.toInt)) : Int32) = 0 → (0 ≤ ((((M' 40) (Int32.toNatClampNeg x)) - mid) : Int32) → mx g (d) kX3_onBothSides 48 [.ref 38, .ref 40, .int (mid), .int (far), .null, .int ((bI (mrB rw x.toInt.toNat mid.toInt far.toInt))), .int (x), .int ((((M' 40) (Int32.toNatClampNeg x)) - mid))] [.int (0)] M' Q) ∧ (¬ 0 ≤ ((((M' 40) (Int32.toNatClampNeg x)) - mid) : Int32) → ((far : Int32) < ((-(((M' 40) (Int32.toNatClampNeg x)) - mid)) : Int32) → mx g (d) kX3_onBothSides 48 [.ref 38, .ref 40, .int (mid), .int (far), .null, .int ((bI (mrB rw x.toInt.toNat mid.toInt far.toInt))), .int (x), .int ((((M' 40) (Int32.toNatClampNeg x)) - mid))] [.int (0)] M' Q) ∧ (¬ (far : Int32) < ((-(((M' 40) (Int32.toNatClampNeg x)) - mid)) : Int32) → mx g (d) kX3_onBothSides 48 [.ref 38, .ref 40, .int (mid), .int (far), .null, .int ((bI (mrB rw x.toInt.toNat mid.toInt far.toInt))), .int (x), .int ((((M' 40) (Int32.toNatClampNeg x)) - mid))] [.int (1)] M' Q))))
  rw [hn]
  refine ⟨fun q => ?_, fun q => ?_⟩
  · rw [n_le] at q
    rw [show x.toInt = n.toInt by omega]
    refine ⟨fun c => ⟨Or.inl rfl, ?_⟩, fun c => ⟨fun c2 => ⟨Or.inl rfl, ?_⟩, fun c2 => ⟨Or.inr rfl, ?_⟩⟩⟩
    · rw [bI_eq] at c; rw [c] at h; exact h
    · rw [bI_eq] at c2; rw [c2, Bool.and_false] at h; exact h
    · rw [bI_ne] at c c2; rw [c, c2] at h; exact h
  rw [n_le] at q
  obtain ⟨r1, r2, r3⟩ := hr x.toInt.toNat
  have up := n_up (n := n) i1 (by omega)
  have eo : (M' 40 x.toNatClampNeg - mid).toInt = rw x.toInt.toNat - mid.toInt := by rw [n_sub, n_cl, r1, zw_id (by omega) (by omega)]
  have en : (-(M' 40 x.toNatClampNeg - mid)).toInt = mid.toInt - rw x.toInt.toNat := by rw [n_neg, eo, zw_id (by omega) (by omega)]; omega
  have ls : ∀ far, lsB rw (x.toInt.toNat + 1) mid.toInt far = (lsB rw x.toInt.toNat mid.toInt far || decide (1 ≤ mid.toInt - rw x.toInt.toNat ∧ mid.toInt - rw x.toInt.toNat ≤ far)) := fun _ => rfl
  have ms : ∀ far, mrB rw (x.toInt.toNat + 1) mid.toInt far = (mrB rw x.toInt.toNat mid.toInt far || decide (1 ≤ rw x.toInt.toNat - mid.toInt ∧ rw x.toInt.toNat - mid.toInt ≤ far)) := fun _ => rfl
  have go : ∀ a b : Int32, a = bI (lsB rw (x.toInt.toNat + 1) mid.toInt far.toInt) → b = bI (mrB rw (x.toInt.toNat + 1) mid.toInt far.toInt) → mx g d kX3_onBothSides 9 [.ref 38, .ref 40, .int mid, .int far, .int a, .int b, .int (x + 1), .null] [] M' Q := by
    intro a b ha hb
    have := ih (x + 1) M' (by omega) ⟨rfl, by omega, by omega⟩
    rw [show (x + 1).toInt.toNat = x.toInt.toNat + 1 by omega, ← ha, ← hb] at this
    exact this
  have go2 : ∀ a : Int32, a = bI (lsB rw (x.toInt.toNat + 1) mid.toInt far.toInt) → mx g d kX3_onBothSides 48 [.ref 38, .ref 40, .int mid, .int far, .null, .int (bI (mrB rw x.toInt.toNat mid.toInt far.toInt)), .int x, .int (M' 40 x.toNatClampNeg - mid)] [.int a] M' Q := by
    intro a ha
    refine mx_go 60 zq_t17 ?_
    show (¬ ((bI (mrB rw x.toInt.toNat mid.toInt far.toInt)) : Int32) = 0 → mx g (d) kX3_onBothSides 9 [.ref 38, .ref 40, .int (mid), .int (far), .int (a), .int (1), .int ((x + 1)), .null] [] M' Q) ∧ (((bI (mrB rw x.toInt.toNat mid.toInt far.toInt)) : Int32) = 0 → (((M' 40 x.toNatClampNeg - mid) : Int32) ≤ 0 → mx g (d) kX3_onBothSides 9 [.ref 38, .ref 40, .int (mid), .int (far), .int (a), .int (0), .int ((x + 1)), .null] [] M' Q) ∧ (¬ ((M' 40 x.toNatClampNeg - mid) : Int32) ≤ 0 → ((far : Int32) < ((M' 40 x.toNatClampNeg - mid) : Int32) → mx g (d) kX3_onBothSides 9 [.ref 38, .ref 40, .int (mid), .int (far), .int (a), .int (0), .int ((x + 1)), .null] [] M' Q) ∧ (¬ (far : Int32) < ((M' 40 x.toNatClampNeg - mid) : Int32) → mx g (d) kX3_onBothSides 9 [.ref 38, .ref 40, .int (mid), .int (far), .int (a), .int (1), .int ((x + 1)), .null] [] M' Q)))
    refine ⟨fun c => ?_, fun c => ⟨fun c2 => ?_, fun c2 => ⟨fun c3 => ?_, fun c3 => ?_⟩⟩⟩
    · refine go _ _ ha ?_
      rw [bI_ne] at c; rw [ms, c]; rfl
    · refine go _ _ ha ?_
      rw [bI_eq] at c; rw [n_le, n_0, eo] at c2
      rw [ms, c, decide_eq_false (by omega)]; rfl
    · refine go _ _ ha ?_
      rw [bI_eq] at c; rw [n_lt, eo] at c3
      rw [ms, c, decide_eq_false (by omega)]; rfl
    · refine go _ _ ha ?_
      rw [bI_eq] at c; rw [n_le, n_0, eo] at c2; rw [n_lt, eo] at c3
      rw [ms, c, decide_eq_true (by omega)]; rfl
  refine ⟨n_in i1 (by omega), fun c => ?_, fun c => ⟨fun c2 => ?_, fun c2 => ⟨fun c3 => ?_, fun c3 => ?_⟩⟩⟩
  · refine go2 _ ?_
    rw [bI_ne] at c; rw [ls, c]; rfl
  · refine go2 _ ?_
    rw [bI_eq] at c; rw [n_le, n_0, eo] at c2
    rw [ls, c, decide_eq_false (by omega)]; rfl
  · refine go2 _ ?_
    rw [bI_eq] at c; rw [n_lt, en] at c3
    rw [ls, c, decide_eq_false (by omega)]; rfl
  · refine go2 _ ?_
    rw [bI_eq] at c; rw [n_le, n_0, eo] at c2; rw [n_lt, en] at c3
    rw [ls, c, decide_eq_true (by omega)]; rfl
theorem c_beyond40 {g : zq_G} {d : Nat} {M : zq_M} {Q : Option Value → zq_M → Prop} {v n : Int32} {rw : Nat → Int} (hn : M 38 2 = n) (b1 : 0 ≤ n.toInt) (b2 : n.toInt ≤ 8) (hr : ∀ k, (M 40 k).toInt = rw k) (h : Q (some (.int (bI (blB rw n.toInt.toNat v.toInt || abB rw n.toInt.toNat v.toInt)))) M) : mx g d kX3_isBeyondRow 0 [.ref 38, .ref 40, .int v, .null, .null, .null] [] M Q := by
  refine mx_go 60 zq_t19 ?_
  show mx g (d) kX3_isBeyondRow 8 [.ref 38, .ref 40, .int (v), .int (1), .int (1), .int (0)] [] M Q
  refine mx_wf (fun x : Int32 => [.ref 38, .ref 40, .int v, .int (bI (blB rw x.toInt.toNat v.toInt)), .int (bI (abB rw x.toInt.toNat v.toInt)), .int x]) (fun x M' => M' = M ∧ 0 ≤ x.toInt ∧ x.toInt ≤ n.toInt) (fun x => (n.toInt - x.toInt).toNat) ?_ 0 M ⟨rfl, by decide, b1⟩
  intro x M' ⟨e, i1, i2⟩ ih
  subst e
  refine mx_go 60 zq_t19 ?_
  show (((M' 38 2) : Int32) ≤ (x : Int32) → (¬ ((bI (blB rw x.toInt.toNat v.toInt)) : Int32) = 0 → zq_b 1 ∧ Q (some (.int 1)) M') ∧ (((bI (blB rw x.toInt.toNat v.toInt)) : Int32) = 0 → (((bI (abB rw x.toInt.toNat v.toInt)) : Int32) = 0 → zq_b 0 ∧ Q (some (.int 0)) M') ∧ (¬ ((bI (abB rw x.toInt.toNat v.toInt)) : Int32) = 0 → zq_b 1 ∧ Q (some (.int 1)) M'))) ∧ (¬ ((M' 38 2) : Int32) ≤ (x : Int32) → (((bI (blB rw x.toInt.toNat v.toInt)) : Int32) = 0 → mx g (d) kX3_isBeyondRow 34 [.ref 38, .ref 40, .int (v), .null, .int ((bI (abB rw x.toInt.toNat v.toInt))), .int (x)] [.int (0)] M' Q) ∧ (¬ ((bI (blB rw x.toInt.toNat v.toInt)) : Int32) = 0 → vp_in x 8 ∧ ((((M' 40) (Int32.toNatClampNeg x)) : Int32) ≤ (v : Int32) → mx g (d) kX3_isBeyondRow 34 [.ref 38, .ref 40, .int (v), .null, .int ((bI (abB rw x.toInt.toNat v.toInt))), .int (x)] [.int (0)] M' Q) ∧ (¬ (((M' 40) (Int32.toNatClampNeg x)) : Int32) ≤ (v : Int32) → mx g (d) kX3_isBeyondRow 34 [.ref 38, .ref 40, .int (v), .null, .int ((bI (abB rw x.toInt.toNat v.toInt))), .int (x)] [.int (1)] M' Q)))
  rw [hn]
  refine ⟨fun q => ?_, fun q => ?_⟩
  · rw [n_le] at q
    rw [show x.toInt = n.toInt by omega]
    refine ⟨fun c => ⟨Or.inr rfl, ?_⟩, fun c => ⟨fun c2 => ⟨Or.inl rfl, ?_⟩, fun c2 => ⟨Or.inr rfl, ?_⟩⟩⟩
    · rw [bI_ne] at c; rw [c] at h; exact h
    · rw [bI_eq] at c c2; rw [c, c2] at h; exact h
    · rw [bI_ne] at c2; rw [c2, Bool.or_true] at h; exact h
  rw [n_le] at q
  have r1 := hr x.toInt.toNat
  have up := n_up (n := n) i1 (by omega)
  have eo : (M' 40 x.toNatClampNeg).toInt = rw x.toInt.toNat := by rw [n_cl, r1]
  have ls : blB rw (x.toInt.toNat + 1) v.toInt = (blB rw x.toInt.toNat v.toInt && decide (v.toInt < rw x.toInt.toNat)) := rfl
  have ms : abB rw (x.toInt.toNat + 1) v.toInt = (abB rw x.toInt.toNat v.toInt && decide (rw x.toInt.toNat < v.toInt)) := rfl
  have go : ∀ a b : Int32, a = bI (blB rw (x.toInt.toNat + 1) v.toInt) → b = bI (abB rw (x.toInt.toNat + 1) v.toInt) → mx g d kX3_isBeyondRow 8 [.ref 38, .ref 40, .int v, .int a, .int b, .int (x + 1)] [] M' Q := by
    intro a b ha hb
    have := ih (x + 1) M' (by omega) ⟨rfl, by omega, by omega⟩
    rw [show (x + 1).toInt.toNat = x.toInt.toNat + 1 by omega, ← ha, ← hb] at this
    exact this
  have go2 : ∀ a : Int32, a = bI (blB rw (x.toInt.toNat + 1) v.toInt) → mx g d kX3_isBeyondRow 34 [.ref 38, .ref 40, .int v, .null, .int (bI (abB rw x.toInt.toNat v.toInt)), .int x] [.int a] M' Q := by
    intro a ha
    refine mx_go 60 zq_t19 ?_
    show (((bI (abB rw x.toInt.toNat v.toInt)) : Int32) = 0 → mx g (d) kX3_isBeyondRow 8 [.ref 38, .ref 40, .int (v), .int (a), .int (0), .int ((x + 1))] [] M' Q) ∧ (¬ ((bI (abB rw x.toInt.toNat v.toInt)) : Int32) = 0 → vp_in x 8 ∧ ((v : Int32) ≤ (((M' 40) (Int32.toNatClampNeg x)) : Int32) → mx g (d) kX3_isBeyondRow 8 [.ref 38, .ref 40, .int (v), .int (a), .int (0), .int ((x + 1))] [] M' Q) ∧ (¬ (v : Int32) ≤ (((M' 40) (Int32.toNatClampNeg x)) : Int32) → mx g (d) kX3_isBeyondRow 8 [.ref 38, .ref 40, .int (v), .int (a), .int (1), .int ((x + 1))] [] M' Q))
    refine ⟨fun c => ?_, fun c => ⟨n_in i1 (by omega), fun c2 => ?_, fun c2 => ?_⟩⟩
    · refine go _ _ ha ?_
      rw [bI_eq] at c; rw [ms, c]; rfl
    · refine go _ _ ha ?_
      rw [bI_ne] at c; rw [n_le, eo] at c2
      rw [ms, c, decide_eq_false (by omega)]; rfl
    · refine go _ _ ha ?_
      rw [bI_ne] at c; rw [n_le, eo] at c2
      rw [ms, c, decide_eq_true (by omega)]; rfl
  refine ⟨fun c => ?_, fun c => ⟨n_in i1 (by omega), fun c2 => ?_, fun c2 => ?_⟩⟩
  · refine go2 _ ?_
    rw [bI_eq] at c; rw [ls, c]; rfl
  · refine go2 _ ?_
    rw [bI_ne] at c; rw [n_le, eo] at c2
    rw [ls, c, decide_eq_false (by omega)]; rfl
  · refine go2 _ ?_
    rw [bI_ne] at c; rw [n_le, eo] at c2
    rw [ls, c, decide_eq_true (by omega)]; rfl
theorem c_X3_hold {g : zq_G} {d : Nat} {M : zq_M} {Q : Option Value → zq_M → Prop} {pl far n n' : Int32} {p : Nat → Int32} (hP : gP n n' (M 39) (M 40) p) (hn : M 38 2 = n) (l1 : 0 ≤ pl.toInt) (l2 : pl.toInt ≤ 4095) (f1 : 0 ≤ far.toInt) (f2 : far.toInt ≤ 63) (h1 : hldB p n.toInt.toNat pl.toInt far.toInt = true → True → Q (some (.int 1)) M) (h0 : hldB p n.toInt.toNat pl.toInt far.toInt = false → Q (some (.int 0)) M) : mx g (d + 1) kX3_hold 0 [.ref 38, .int pl, .int far] [] M Q := by
  obtain ⟨p1, p2, p3, p4, p5, p6⟩ := hP
  refine mx_go 60 zq_t16 ?_
  show (¬ (64 : Int32) = 0) ∧ mx g (d) kX3_onBothSides 0 [.ref 38, .ref 39, .int ((pl - pl / 64 * 64)), .int (far), .null, .null, .null, .null] [] M _
  refine ⟨by decide, ?_⟩
  have hx : ∀ k, (M 39 k).toInt = (p k).toInt % 64 ∧ 0 ≤ (p k).toInt % 64 ∧ (p k).toInt % 64 ≤ 63 := fun k => ⟨by rw [p2 k, rem64 (p6 k).1], by omega, by omega⟩
  have hy : ∀ k, (M 40 k).toInt = (p k).toInt / 64 ∧ 0 ≤ (p k).toInt / 64 ∧ (p k).toInt / 64 ≤ 63 := fun k => ⟨by rw [p3 k, div64 (p6 k).1], by have := p6 k; omega, by have := p6 k; omega⟩
  refine c_both39 (n := n) (rw := fun k => (p k).toInt % 64) hn p4 p5 hx (by rw [rem64 l1]; omega) (by rw [rem64 l1]; omega) f1 f2 ?_
  rw [rem64 l1]
  unfold hldB at h1 h0
  cases c : (lsB (fun k => (p k).toInt % 64) n.toInt.toNat (pl.toInt % 64) far.toInt && mrB (fun k => (p k).toInt % 64) n.toInt.toNat (pl.toInt % 64) far.toInt) with
  | false =>
    show ((0 : Int32) = 0 → zq_b 0 ∧ Q (some (.int 0)) M) ∧ (¬ (0 : Int32) = 0 → (¬ (64 : Int32) = 0) ∧ mx g (d) kX3_onBothSides 0 [.ref 38, .ref 40, .int ((pl / 64)), .int (far), .null, .null, .null, .null] [] M _)
    exact ⟨fun _ => ⟨Or.inl rfl, h0 (by rw [c]; rfl)⟩, fun q => absurd rfl q⟩
  | true =>
    show ((1 : Int32) = 0 → zq_b 0 ∧ Q (some (.int 0)) M) ∧ (¬ (1 : Int32) = 0 → (¬ (64 : Int32) = 0) ∧ mx g (d) kX3_onBothSides 0 [.ref 38, .ref 40, .int ((pl / 64)), .int (far), .null, .null, .null, .null] [] M _)
    refine ⟨fun q => absurd q (by decide), fun _ => ⟨by decide, ?_⟩⟩
    refine c_both40 (n := n) (rw := fun k => (p k).toInt / 64) hn p4 p5 hy (by rw [div64 l1]; omega) (by rw [div64 l1]; omega) f1 f2 ?_
    rw [div64 l1]
    cases c2 : (lsB (fun k => (p k).toInt / 64) n.toInt.toNat (pl.toInt / 64) far.toInt && mrB (fun k => (p k).toInt / 64) n.toInt.toNat (pl.toInt / 64) far.toInt) with
    | false =>
      show ((0 : Int32) = 0 → zq_b 0 ∧ Q (some (.int 0)) M) ∧ (¬ (0 : Int32) = 0 → zq_b 1 ∧ Q (some (.int 1)) M)
      exact ⟨fun _ => ⟨Or.inl rfl, h0 (by rw [c, c2]; rfl)⟩, fun q => absurd rfl q⟩
    | true =>
      show ((1 : Int32) = 0 → zq_b 0 ∧ Q (some (.int 0)) M) ∧ (¬ (1 : Int32) = 0 → zq_b 1 ∧ Q (some (.int 1)) M)
      exact ⟨fun q => absurd q (by decide), fun _ => ⟨Or.inr rfl, h1 (by rw [c, c2]; rfl) trivial⟩⟩
theorem c_X3_isBeyond {g : zq_G} {d : Nat} {M : zq_M} {Q : Option Value → zq_M → Prop} {v n n' : Int32} {p : Nat → Int32} (hP : gP n n' (M 39) (M 40) p) (hn : M 38 2 = n) (l1 : 0 ≤ v.toInt) (h1 : outB p n.toInt.toNat v.toInt = true → True → Q (some (.int 1)) M) (h0 : outB p n.toInt.toNat v.toInt = false → Q (some (.int 0)) M) : mx g (d + 1) kX3_isBeyond 0 [.ref 38, .int v] [] M Q := by
  obtain ⟨p1, p2, p3, p4, p5, p6⟩ := hP
  refine mx_go 60 zq_t18 ?_
  show (¬ (64 : Int32) = 0) ∧ mx g (d) kX3_isBeyondRow 0 [.ref 38, .ref 39, .int ((v - v / 64 * 64)), .null, .null, .null] [] M _
  refine ⟨by decide, ?_⟩
  refine c_beyond39 (n := n) (rw := fun k => (p k).toInt % 64) hn p4 p5 (fun k => by rw [p2 k, rem64 (p6 k).1]) ?_
  rw [rem64 l1]
  unfold outB at h1 h0
  cases c : (blB (fun k => (p k).toInt % 64) n.toInt.toNat (v.toInt % 64) || abB (fun k => (p k).toInt % 64) n.toInt.toNat (v.toInt % 64)) with
  | true =>
    show (¬ (1 : Int32) = 0 → zq_b 1 ∧ Q (some (.int 1)) M) ∧ ((1 : Int32) = 0 → (¬ (64 : Int32) = 0) ∧ mx g (d) kX3_isBeyondRow 0 [.ref 38, .ref 40, .int ((v / 64)), .null, .null, .null] [] M _)
    exact ⟨fun _ => ⟨Or.inr rfl, h1 (by rw [c]; rfl) trivial⟩, fun q => absurd q (by decide)⟩
  | false =>
    show (¬ (0 : Int32) = 0 → zq_b 1 ∧ Q (some (.int 1)) M) ∧ ((0 : Int32) = 0 → (¬ (64 : Int32) = 0) ∧ mx g (d) kX3_isBeyondRow 0 [.ref 38, .ref 40, .int ((v / 64)), .null, .null, .null] [] M _)
    refine ⟨fun q => absurd rfl q, fun _ => ⟨by decide, ?_⟩⟩
    refine c_beyond40 (n := n) (rw := fun k => (p k).toInt / 64) hn p4 p5 (fun k => by rw [p3 k, div64 (p6 k).1]) ?_
    rw [div64 l1]
    cases c2 : (blB (fun k => (p k).toInt / 64) n.toInt.toNat (v.toInt / 64) || abB (fun k => (p k).toInt / 64) n.toInt.toNat (v.toInt / 64)) with
    | false =>
      show ((0 : Int32) = 0 → zq_b 0 ∧ Q (some (.int 0)) M) ∧ (¬ (0 : Int32) = 0 → zq_b 1 ∧ Q (some (.int 1)) M)
      exact ⟨fun _ => ⟨Or.inl rfl, h0 (by rw [c, c2]; rfl)⟩, fun q => absurd rfl q⟩
    | true =>
      show ((1 : Int32) = 0 → zq_b 0 ∧ Q (some (.int 0)) M) ∧ (¬ (1 : Int32) = 0 → zq_b 1 ∧ Q (some (.int 1)) M)
      exact ⟨fun q => absurd q (by decide), fun _ => ⟨Or.inr rfl, h1 (by rw [c, c2]; rfl) trivial⟩⟩
theorem c_X12_isHeld {g : zq_G} {d : Nat} {M : zq_M} {Q : Option Value → zq_M → Prop} {s far n : Int32} {p : Nat → Int32} {pl : Int} (hn : M 48 37 = n) (hp : M 71 = p) (b1 : 0 ≤ n.toInt) (b2 : n.toInt ≤ 8) (pb : ∀ i, 0 ≤ (p i).toInt ∧ (p i).toInt ≤ 4095) (s1 : 0 ≤ s.toInt) (s2 : s.toInt < 10) (hpl : (M 50 s.toNatClampNeg).toInt = pl) (l1 : 0 ≤ pl) (l2 : pl ≤ 4095) (f1 : 0 ≤ far.toInt) (f2 : far.toInt ≤ 63) (h1 : hldB p n.toInt.toNat pl far.toInt = true → True → Q (some (.int 1)) M) (h0 : hldB p n.toInt.toNat pl far.toInt = false → Q (some (.int 0)) M) : mx g (d + 1) kX12_isHeld 0 [.ref 48, .int s, .int far, .null, .null, .null, .null, .null, .null, .null] [] M Q := by
  subst hp
  have hp := Eq.refl (M 71)
  refine mx_go 60 zq_t203 ?_
  show mx g (d + 1) kX12_isHeld 14 [.ref 48, .int (s), .int (far), .int (0), .int (0), .int (0), .int (0), .int (0), .null, .null] [] M Q
  generalize hgp : M 71 = p at pb h1 h0 hp
  refine mx_wf (fun x : Int32 => [.ref 48, .int s, .int far, .int (bI (lsB (fun k => (p k).toInt % 64) x.toInt.toNat (pl % 64) far.toInt)), .int (bI (mrB (fun k => (p k).toInt % 64) x.toInt.toNat (pl % 64) far.toInt)), .int (bI (lsB (fun k => (p k).toInt / 64) x.toInt.toNat (pl / 64) far.toInt)), .int (bI (mrB (fun k => (p k).toInt / 64) x.toInt.toNat (pl / 64) far.toInt)), .int x, .null, .null]) (fun x M' => M' = M ∧ 0 ≤ x.toInt ∧ x.toInt ≤ n.toInt) (fun x => (n.toInt - x.toInt).toNat) ?_ 0 M ⟨rfl, by decide, b1⟩
  intro x M' ⟨e, i1, i2⟩ ih
  subst e
  refine mx_go 60 zq_t203 ?_
  show (((M' 48 37) : Int32) ≤ (x : Int32) → (((bI (lsB (fun k => (p k).toInt % 64) x.toInt.toNat (pl % 64) far.toInt)) : Int32) = 0 → zq_b 0 ∧ Q (some (.int 0)) M') ∧ (¬ ((bI (lsB (fun k => (p k).toInt % 64) x.toInt.toNat (pl % 64) far.toInt)) : Int32) = 0 → (((bI (mrB (fun k => (p k).toInt % 64) x.toInt.toNat (pl % 64) far.toInt)) : Int32) = 0 → zq_b 0 ∧ Q (some (.int 0)) M') ∧ (¬ ((bI (mrB (fun k => (p k).toInt % 64) x.toInt.toNat (pl % 64) far.toInt)) : Int32) = 0 → (((bI (lsB (fun k => (p k).toInt / 64) x.toInt.toNat (pl / 64) far.toInt)) : Int32) = 0 → zq_b 0 ∧ Q (some (.int 0)) M') ∧ (¬ ((bI (lsB (fun k => (p k).toInt / 64) x.toInt.toNat (pl / 64) far.toInt)) : Int32) = 0 → (((bI (mrB (fun k => (p k).toInt / 64) x.toInt.toNat (pl / 64) far.toInt)) : Int32) = 0 → zq_b 0 ∧ Q (some (.int 0)) M') ∧ (¬ ((bI (mrB (fun k => (p k).toInt / 64) x.toInt.toNat (pl / 64) far.toInt)) : Int32) = 0 → zq_b 1 ∧ Q (some (.int 1)) M'))))) ∧ (¬ ((M' 48 37) : Int32) ≤ (x : Int32) → vp_in x 8 ∧ (¬ (64 : Int32) = 0) ∧ vp_in s 10 ∧ (¬ (64 : Int32) = 0) ∧ vp_in x 8 ∧ (¬ (64 : Int32) = 0) ∧ vp_in s 10 ∧ (¬ (64 : Int32) = 0) ∧ (¬ ((bI (lsB (fun k => (p k).toInt % 64) x.toInt.toNat (pl % 64) far.toInt)) : Int32) = 0 → mx g (d + 1) kX12_isHeld 88 [.ref 48, .int (s), .int (far), .null, .int ((bI (mrB (fun k => (p k).toInt % 64) x.toInt.toNat (pl % 64) far.toInt))), .int ((bI (lsB (fun k => (p k).toInt / 64) x.toInt.toNat (pl / 64) far.toInt))), .int ((bI (mrB (fun k => (p k).toInt / 64) x.toInt.toNat (pl / 64) far.toInt))), .int (x), .int (((((M' 71) (Int32.toNatClampNeg x)) - ((M' 71) (Int32.toNatClampNeg x)) / 64 * 64) - (((M' 50) (Int32.toNatClampNeg s)) - ((M' 50) (Int32.toNatClampNeg s)) / 64 * 64))), .int (((((M' 71) (Int32.toNatClampNeg x)) / 64) - (((M' 50) (Int32.toNatClampNeg s)) / 64)))] [.int (1)] M' Q) ∧ (((bI (lsB (fun k => (p k).toInt % 64) x.toInt.toNat (pl % 64) far.toInt)) : Int32) = 0 → mx g (d) kX12_in 0 [.ref 48, .int ((-((((M' 71) (Int32.toNatClampNeg x)) - ((M' 71) (Int32.toNatClampNeg x)) / 64 * 64) - (((M' 50) (Int32.toNatClampNeg s)) - ((M' 50) (Int32.toNatClampNeg s)) / 64 * 64)))), .int (1), .int (far)] [] M' _))
  rw [hn]
  refine ⟨fun q => ?_, fun q => ?_⟩
  · rw [n_le] at q
    rw [show x.toInt = n.toInt by omega]
    unfold hldB at h1 h0
    refine ⟨fun c => ⟨Or.inl rfl, h0 ?_⟩, fun c => ⟨fun c2 => ⟨Or.inl rfl, h0 ?_⟩, fun c2 => ⟨fun c3 => ⟨Or.inl rfl, h0 ?_⟩, fun c3 => ⟨fun c4 => ⟨Or.inl rfl, h0 ?_⟩, fun c4 => ⟨Or.inr rfl, h1 ?_ trivial⟩⟩⟩⟩⟩
    · rw [bI_eq] at c; rw [c]; rfl
    · rw [bI_eq] at c2; rw [c2, Bool.and_false]; rfl
    · rw [bI_eq] at c3; rw [c3, Bool.false_and, Bool.and_false]
    · rw [bI_eq] at c4; rw [c4, Bool.and_false, Bool.and_false]
    · rw [bI_ne] at c c2 c3 c4; rw [c, c2, c3, c4]; rfl
  rw [n_le] at q
  have up := n_up (n := n) i1 (by omega)
  rw [hgp]
  have px := pb x.toNatClampNeg
  have s3 : lsB (fun k => (p k).toInt % 64) (x.toInt.toNat + 1) (pl % 64) far.toInt = (lsB (fun k => (p k).toInt % 64) x.toInt.toNat (pl % 64) far.toInt || decide (1 ≤ pl % 64 - (p x.toInt.toNat).toInt % 64 ∧ pl % 64 - (p x.toInt.toNat).toInt % 64 ≤ far.toInt)) := rfl
  have s4 : mrB (fun k => (p k).toInt % 64) (x.toInt.toNat + 1) (pl % 64) far.toInt = (mrB (fun k => (p k).toInt % 64) x.toInt.toNat (pl % 64) far.toInt || decide (1 ≤ (p x.toInt.toNat).toInt % 64 - pl % 64 ∧ (p x.toInt.toNat).toInt % 64 - pl % 64 ≤ far.toInt)) := rfl
  have s5 : lsB (fun k => (p k).toInt / 64) (x.toInt.toNat + 1) (pl / 64) far.toInt = (lsB (fun k => (p k).toInt / 64) x.toInt.toNat (pl / 64) far.toInt || decide (1 ≤ pl / 64 - (p x.toInt.toNat).toInt / 64 ∧ pl / 64 - (p x.toInt.toNat).toInt / 64 ≤ far.toInt)) := rfl
  have s6 : mrB (fun k => (p k).toInt / 64) (x.toInt.toNat + 1) (pl / 64) far.toInt = (mrB (fun k => (p k).toInt / 64) x.toInt.toNat (pl / 64) far.toInt || decide (1 ≤ (p x.toInt.toNat).toInt / 64 - pl / 64 ∧ (p x.toInt.toNat).toInt / 64 - pl / 64 ≤ far.toInt)) := rfl
  have hd1 : (p x.toNatClampNeg - p x.toNatClampNeg / 64 * 64 - (M' 50 s.toNatClampNeg - M' 50 s.toNatClampNeg / 64 * 64)).toInt = (p x.toInt.toNat).toInt % 64 - pl % 64 := by
    rw [n_sub, rem64 px.1, rem64 (by omega), hpl, ← n_cl, zw_id (by omega) (by omega)]
  have hd2 : (p x.toNatClampNeg / 64 - M' 50 s.toNatClampNeg / 64).toInt = (p x.toInt.toNat).toInt / 64 - pl / 64 := by
    rw [n_sub, div64 px.1, div64 (by omega), hpl, ← n_cl, zw_id (by omega) (by omega)]
  refine ⟨n_in i1 (by omega), by decide, n_in s1 (by omega), by decide, n_in i1 (by omega), by decide, n_in s1 (by omega), by decide, ?_⟩
  generalize hdx : p x.toNatClampNeg - p x.toNatClampNeg / 64 * 64 - (M' 50 s.toNatClampNeg - M' 50 s.toNatClampNeg / 64 * 64) = dx at hd1 ⊢
  generalize hdy : p x.toNatClampNeg / 64 - M' 50 s.toNatClampNeg / 64 = dy at hd2 ⊢
  rw [← n_cl] at hd1 hd2
  have ex : dx.toInt = (p x.toInt.toNat).toInt % 64 - pl % 64 := hd1
  have ep : dy.toInt = (p x.toInt.toNat).toInt / 64 - pl / 64 := hd2
  have pz := pb x.toInt.toNat
  have em : (-dx).toInt = pl % 64 - (p x.toInt.toNat).toInt % 64 := by rw [n_neg, ex, zw_id (by omega) (by omega)]; omega
  have en : (-dy).toInt = pl / 64 - (p x.toInt.toNat).toInt / 64 := by rw [n_neg, ep, zw_id (by omega) (by omega)]; omega
  have go14 : mx g (d + 1) kX12_isHeld 14 [.ref 48, .int s, .int far, .int (bI (lsB (fun k => (p k).toInt % 64) (x.toInt.toNat + 1) (pl % 64) far.toInt)), .int (bI (mrB (fun k => (p k).toInt % 64) (x.toInt.toNat + 1) (pl % 64) far.toInt)), .int (bI (lsB (fun k => (p k).toInt / 64) (x.toInt.toNat + 1) (pl / 64) far.toInt)), .int (bI (mrB (fun k => (p k).toInt / 64) (x.toInt.toNat + 1) (pl / 64) far.toInt)), .int (x + 1), .null, .null] [] M' Q := by
    have := ih (x + 1) M' (by omega) ⟨rfl, by omega, by omega⟩
    rw [show (x + 1).toInt.toNat = x.toInt.toNat + 1 by omega] at this
    exact this
  have go157 : ∀ a : Int32, a = bI (mrB (fun k => (p k).toInt / 64) (x.toInt.toNat + 1) (pl / 64) far.toInt) → mx g (d + 1) kX12_isHeld 157 [.ref 48, .int s, .int far, .int (bI (lsB (fun k => (p k).toInt % 64) (x.toInt.toNat + 1) (pl % 64) far.toInt)), .int (bI (mrB (fun k => (p k).toInt % 64) (x.toInt.toNat + 1) (pl % 64) far.toInt)), .int (bI (lsB (fun k => (p k).toInt / 64) (x.toInt.toNat + 1) (pl / 64) far.toInt)), .null, .int x, .null, .null] [.int a] M' Q := by
    intro a ha
    refine mx_go 60 zq_t203 ?_
    show mx g (d + 1) kX12_isHeld 14 [.ref 48, .int (s), .int (far), .int ((bI (lsB (fun k => (p k).toInt % 64) (x.toInt.toNat + 1) (pl % 64) far.toInt))), .int ((bI (mrB (fun k => (p k).toInt % 64) (x.toInt.toNat + 1) (pl % 64) far.toInt))), .int ((bI (lsB (fun k => (p k).toInt / 64) (x.toInt.toNat + 1) (pl / 64) far.toInt))), .int (a), .int ((x + 1)), .null, .null] [] M' Q
    rw [ha]
    exact go14
  have go134 : ∀ a : Int32, a = bI (lsB (fun k => (p k).toInt / 64) (x.toInt.toNat + 1) (pl / 64) far.toInt) → mx g (d + 1) kX12_isHeld 134 [.ref 48, .int s, .int far, .int (bI (lsB (fun k => (p k).toInt % 64) (x.toInt.toNat + 1) (pl % 64) far.toInt)), .int (bI (mrB (fun k => (p k).toInt % 64) (x.toInt.toNat + 1) (pl % 64) far.toInt)), .null, .int (bI (mrB (fun k => (p k).toInt / 64) x.toInt.toNat (pl / 64) far.toInt)), .int x, .null, .int dy] [.int a] M' Q := by
    intro a ha
    refine mx_go 60 zq_t203 ?_
    show (¬ ((bI (mrB (fun k => (p k).toInt / 64) x.toInt.toNat (pl / 64) far.toInt)) : Int32) = 0 → mx g (d + 1) kX12_isHeld 157 [.ref 48, .int (s), .int (far), .int ((bI (lsB (fun k => (p k).toInt % 64) (x.toInt.toNat + 1) (pl % 64) far.toInt))), .int ((bI (mrB (fun k => (p k).toInt % 64) (x.toInt.toNat + 1) (pl % 64) far.toInt))), .int (a), .null, .int (x), .null, .null] [.int (1)] M' Q) ∧ (((bI (mrB (fun k => (p k).toInt / 64) x.toInt.toNat (pl / 64) far.toInt)) : Int32) = 0 → mx g (d) kX12_in 0 [.ref 48, .int (dy), .int (1), .int (far)] [] M' _)
    rw [ha]
    refine ⟨fun c => go157 _ ?_, fun c => ?_⟩
    · rw [bI_ne] at c; rw [s6, c]; rfl
    · rw [bI_eq] at c
      refine c_X12_in (fun t1 t2 => ?_) (fun t => ?_)
      · rw [n_1, ep] at t1; rw [ep] at t2
        show ((1 : Int32) = 0 → mx g (d + 1) kX12_isHeld 157 [.ref 48, .int (s), .int (far), .int ((bI (lsB (fun k => (p k).toInt % 64) (x.toInt.toNat + 1) (pl % 64) far.toInt))), .int ((bI (mrB (fun k => (p k).toInt % 64) (x.toInt.toNat + 1) (pl % 64) far.toInt))), .int ((bI (lsB (fun k => (p k).toInt / 64) (x.toInt.toNat + 1) (pl / 64) far.toInt))), .null, .int (x), .null, .null] [.int (0)] M' Q) ∧ (¬ (1 : Int32) = 0 → mx g (d + 1) kX12_isHeld 157 [.ref 48, .int (s), .int (far), .int ((bI (lsB (fun k => (p k).toInt % 64) (x.toInt.toNat + 1) (pl % 64) far.toInt))), .int ((bI (mrB (fun k => (p k).toInt % 64) (x.toInt.toNat + 1) (pl % 64) far.toInt))), .int ((bI (lsB (fun k => (p k).toInt / 64) (x.toInt.toNat + 1) (pl / 64) far.toInt))), .null, .int (x), .null, .null] [.int (1)] M' Q)
        refine ⟨fun q => absurd q (by decide), fun _ => go157 _ ?_⟩
        rw [s6, c, decide_eq_true (by omega)]; rfl
      · rw [n_1, ep] at t
        show ((0 : Int32) = 0 → mx g (d + 1) kX12_isHeld 157 [.ref 48, .int (s), .int (far), .int ((bI (lsB (fun k => (p k).toInt % 64) (x.toInt.toNat + 1) (pl % 64) far.toInt))), .int ((bI (mrB (fun k => (p k).toInt % 64) (x.toInt.toNat + 1) (pl % 64) far.toInt))), .int ((bI (lsB (fun k => (p k).toInt / 64) (x.toInt.toNat + 1) (pl / 64) far.toInt))), .null, .int (x), .null, .null] [.int (0)] M' Q) ∧ (¬ (0 : Int32) = 0 → mx g (d + 1) kX12_isHeld 157 [.ref 48, .int (s), .int (far), .int ((bI (lsB (fun k => (p k).toInt % 64) (x.toInt.toNat + 1) (pl % 64) far.toInt))), .int ((bI (mrB (fun k => (p k).toInt % 64) (x.toInt.toNat + 1) (pl % 64) far.toInt))), .int ((bI (lsB (fun k => (p k).toInt / 64) (x.toInt.toNat + 1) (pl / 64) far.toInt))), .null, .int (x), .null, .null] [.int (1)] M' Q)
        refine ⟨fun _ => go157 _ ?_, fun q => absurd rfl q⟩
        rw [s6, c, decide_eq_false (by omega)]; rfl
  have go110 : ∀ a : Int32, a = bI (mrB (fun k => (p k).toInt % 64) (x.toInt.toNat + 1) (pl % 64) far.toInt) → mx g (d + 1) kX12_isHeld 110 [.ref 48, .int s, .int far, .int (bI (lsB (fun k => (p k).toInt % 64) (x.toInt.toNat + 1) (pl % 64) far.toInt)), .null, .int (bI (lsB (fun k => (p k).toInt / 64) x.toInt.toNat (pl / 64) far.toInt)), .int (bI (mrB (fun k => (p k).toInt / 64) x.toInt.toNat (pl / 64) far.toInt)), .int x, .null, .int dy] [.int a] M' Q := by
    intro a ha
    refine mx_go 60 zq_t203 ?_
    show (¬ ((bI (lsB (fun k => (p k).toInt / 64) x.toInt.toNat (pl / 64) far.toInt)) : Int32) = 0 → mx g (d + 1) kX12_isHeld 134 [.ref 48, .int (s), .int (far), .int ((bI (lsB (fun k => (p k).toInt % 64) (x.toInt.toNat + 1) (pl % 64) far.toInt))), .int (a), .null, .int ((bI (mrB (fun k => (p k).toInt / 64) x.toInt.toNat (pl / 64) far.toInt))), .int (x), .null, .int (dy)] [.int (1)] M' Q) ∧ (((bI (lsB (fun k => (p k).toInt / 64) x.toInt.toNat (pl / 64) far.toInt)) : Int32) = 0 → mx g (d) kX12_in 0 [.ref 48, .int ((-dy)), .int (1), .int (far)] [] M' _)
    rw [ha]
    refine ⟨fun c => go134 _ ?_, fun c => ?_⟩
    · rw [bI_ne] at c; rw [s5, c]; rfl
    · rw [bI_eq] at c
      refine c_X12_in (fun t1 t2 => ?_) (fun t => ?_)
      · rw [n_1, en] at t1; rw [en] at t2
        show ((1 : Int32) = 0 → mx g (d + 1) kX12_isHeld 134 [.ref 48, .int (s), .int (far), .int ((bI (lsB (fun k => (p k).toInt % 64) (x.toInt.toNat + 1) (pl % 64) far.toInt))), .int ((bI (mrB (fun k => (p k).toInt % 64) (x.toInt.toNat + 1) (pl % 64) far.toInt))), .null, .int ((bI (mrB (fun k => (p k).toInt / 64) x.toInt.toNat (pl / 64) far.toInt))), .int (x), .null, .int (dy)] [.int (0)] M' Q) ∧ (¬ (1 : Int32) = 0 → mx g (d + 1) kX12_isHeld 134 [.ref 48, .int (s), .int (far), .int ((bI (lsB (fun k => (p k).toInt % 64) (x.toInt.toNat + 1) (pl % 64) far.toInt))), .int ((bI (mrB (fun k => (p k).toInt % 64) (x.toInt.toNat + 1) (pl % 64) far.toInt))), .null, .int ((bI (mrB (fun k => (p k).toInt / 64) x.toInt.toNat (pl / 64) far.toInt))), .int (x), .null, .int (dy)] [.int (1)] M' Q)
        refine ⟨fun q => absurd q (by decide), fun _ => go134 _ ?_⟩
        rw [s5, c, decide_eq_true (by omega)]; rfl
      · rw [n_1, en] at t
        show ((0 : Int32) = 0 → mx g (d + 1) kX12_isHeld 134 [.ref 48, .int (s), .int (far), .int ((bI (lsB (fun k => (p k).toInt % 64) (x.toInt.toNat + 1) (pl % 64) far.toInt))), .int ((bI (mrB (fun k => (p k).toInt % 64) (x.toInt.toNat + 1) (pl % 64) far.toInt))), .null, .int ((bI (mrB (fun k => (p k).toInt / 64) x.toInt.toNat (pl / 64) far.toInt))), .int (x), .null, .int (dy)] [.int (0)] M' Q) ∧ (¬ (0 : Int32) = 0 → mx g (d + 1) kX12_isHeld 134 [.ref 48, .int (s), .int (far), .int ((bI (lsB (fun k => (p k).toInt % 64) (x.toInt.toNat + 1) (pl % 64) far.toInt))), .int ((bI (mrB (fun k => (p k).toInt % 64) (x.toInt.toNat + 1) (pl % 64) far.toInt))), .null, .int ((bI (mrB (fun k => (p k).toInt / 64) x.toInt.toNat (pl / 64) far.toInt))), .int (x), .null, .int (dy)] [.int (1)] M' Q)
        refine ⟨fun _ => go134 _ ?_, fun q => absurd rfl q⟩
        rw [s5, c, decide_eq_false (by omega)]; rfl
  have go88 : ∀ a : Int32, a = bI (lsB (fun k => (p k).toInt % 64) (x.toInt.toNat + 1) (pl % 64) far.toInt) → mx g (d + 1) kX12_isHeld 88 [.ref 48, .int s, .int far, .null, .int (bI (mrB (fun k => (p k).toInt % 64) x.toInt.toNat (pl % 64) far.toInt)), .int (bI (lsB (fun k => (p k).toInt / 64) x.toInt.toNat (pl / 64) far.toInt)), .int (bI (mrB (fun k => (p k).toInt / 64) x.toInt.toNat (pl / 64) far.toInt)), .int x, .int dx, .int dy] [.int a] M' Q := by
    intro a ha
    refine mx_go 60 zq_t203 ?_
    show (¬ ((bI (mrB (fun k => (p k).toInt % 64) x.toInt.toNat (pl % 64) far.toInt)) : Int32) = 0 → mx g (d + 1) kX12_isHeld 110 [.ref 48, .int (s), .int (far), .int (a), .null, .int ((bI (lsB (fun k => (p k).toInt / 64) x.toInt.toNat (pl / 64) far.toInt))), .int ((bI (mrB (fun k => (p k).toInt / 64) x.toInt.toNat (pl / 64) far.toInt))), .int (x), .null, .int (dy)] [.int (1)] M' Q) ∧ (((bI (mrB (fun k => (p k).toInt % 64) x.toInt.toNat (pl % 64) far.toInt)) : Int32) = 0 → mx g (d) kX12_in 0 [.ref 48, .int (dx), .int (1), .int (far)] [] M' _)
    rw [ha]
    refine ⟨fun c => go110 _ ?_, fun c => ?_⟩
    · rw [bI_ne] at c; rw [s4, c]; rfl
    · rw [bI_eq] at c
      refine c_X12_in (fun t1 t2 => ?_) (fun t => ?_)
      · rw [n_1, ex] at t1; rw [ex] at t2
        show ((1 : Int32) = 0 → mx g (d + 1) kX12_isHeld 110 [.ref 48, .int (s), .int (far), .int ((bI (lsB (fun k => (p k).toInt % 64) (x.toInt.toNat + 1) (pl % 64) far.toInt))), .null, .int ((bI (lsB (fun k => (p k).toInt / 64) x.toInt.toNat (pl / 64) far.toInt))), .int ((bI (mrB (fun k => (p k).toInt / 64) x.toInt.toNat (pl / 64) far.toInt))), .int (x), .null, .int (dy)] [.int (0)] M' Q) ∧ (¬ (1 : Int32) = 0 → mx g (d + 1) kX12_isHeld 110 [.ref 48, .int (s), .int (far), .int ((bI (lsB (fun k => (p k).toInt % 64) (x.toInt.toNat + 1) (pl % 64) far.toInt))), .null, .int ((bI (lsB (fun k => (p k).toInt / 64) x.toInt.toNat (pl / 64) far.toInt))), .int ((bI (mrB (fun k => (p k).toInt / 64) x.toInt.toNat (pl / 64) far.toInt))), .int (x), .null, .int (dy)] [.int (1)] M' Q)
        refine ⟨fun q => absurd q (by decide), fun _ => go110 _ ?_⟩
        rw [s4, c, decide_eq_true (by omega)]; rfl
      · rw [n_1, ex] at t
        show ((0 : Int32) = 0 → mx g (d + 1) kX12_isHeld 110 [.ref 48, .int (s), .int (far), .int ((bI (lsB (fun k => (p k).toInt % 64) (x.toInt.toNat + 1) (pl % 64) far.toInt))), .null, .int ((bI (lsB (fun k => (p k).toInt / 64) x.toInt.toNat (pl / 64) far.toInt))), .int ((bI (mrB (fun k => (p k).toInt / 64) x.toInt.toNat (pl / 64) far.toInt))), .int (x), .null, .int (dy)] [.int (0)] M' Q) ∧ (¬ (0 : Int32) = 0 → mx g (d + 1) kX12_isHeld 110 [.ref 48, .int (s), .int (far), .int ((bI (lsB (fun k => (p k).toInt % 64) (x.toInt.toNat + 1) (pl % 64) far.toInt))), .null, .int ((bI (lsB (fun k => (p k).toInt / 64) x.toInt.toNat (pl / 64) far.toInt))), .int ((bI (mrB (fun k => (p k).toInt / 64) x.toInt.toNat (pl / 64) far.toInt))), .int (x), .null, .int (dy)] [.int (1)] M' Q)
        refine ⟨fun _ => go110 _ ?_, fun q => absurd rfl q⟩
        rw [s4, c, decide_eq_false (by omega)]; rfl
  refine ⟨fun c => go88 _ ?_, fun c => ?_⟩
  · rw [bI_ne] at c; rw [s3, c]; rfl
  · rw [bI_eq] at c
    refine c_X12_in (fun t1 t2 => ?_) (fun t => ?_)
    · rw [n_1, em] at t1; rw [em] at t2
      show ((1 : Int32) = 0 → mx g (d + 1) kX12_isHeld 88 [.ref 48, .int (s), .int (far), .null, .int ((bI (mrB (fun k => (p k).toInt % 64) x.toInt.toNat (pl % 64) far.toInt))), .int ((bI (lsB (fun k => (p k).toInt / 64) x.toInt.toNat (pl / 64) far.toInt))), .int ((bI (mrB (fun k => (p k).toInt / 64) x.toInt.toNat (pl / 64) far.toInt))), .int (x), .int (dx), .int (dy)] [.int (0)] M' Q) ∧ (¬ (1 : Int32) = 0 → mx g (d + 1) kX12_isHeld 88 [.ref 48, .int (s), .int (far), .null, .int ((bI (mrB (fun k => (p k).toInt % 64) x.toInt.toNat (pl % 64) far.toInt))), .int ((bI (lsB (fun k => (p k).toInt / 64) x.toInt.toNat (pl / 64) far.toInt))), .int ((bI (mrB (fun k => (p k).toInt / 64) x.toInt.toNat (pl / 64) far.toInt))), .int (x), .int (dx), .int (dy)] [.int (1)] M' Q)
      refine ⟨fun q => absurd q (by decide), fun _ => go88 _ ?_⟩
      rw [s3, c, decide_eq_true (by omega)]; rfl
    · rw [n_1, em] at t
      show ((0 : Int32) = 0 → mx g (d + 1) kX12_isHeld 88 [.ref 48, .int (s), .int (far), .null, .int ((bI (mrB (fun k => (p k).toInt % 64) x.toInt.toNat (pl % 64) far.toInt))), .int ((bI (lsB (fun k => (p k).toInt / 64) x.toInt.toNat (pl / 64) far.toInt))), .int ((bI (mrB (fun k => (p k).toInt / 64) x.toInt.toNat (pl / 64) far.toInt))), .int (x), .int (dx), .int (dy)] [.int (0)] M' Q) ∧ (¬ (0 : Int32) = 0 → mx g (d + 1) kX12_isHeld 88 [.ref 48, .int (s), .int (far), .null, .int ((bI (mrB (fun k => (p k).toInt % 64) x.toInt.toNat (pl % 64) far.toInt))), .int ((bI (lsB (fun k => (p k).toInt / 64) x.toInt.toNat (pl / 64) far.toInt))), .int ((bI (mrB (fun k => (p k).toInt / 64) x.toInt.toNat (pl / 64) far.toInt))), .int (x), .int (dx), .int (dy)] [.int (1)] M' Q)
      refine ⟨fun _ => go88 _ ?_, fun q => absurd rfl q⟩
      rw [s3, c, decide_eq_false (by omega)]; rfl
