/-! the memory behind the constructors -/
def m0l : List (Nat → Int32) := [(fun i => ([0, 0, 0, 0, 0, 0, 0, 0, 0, 0, 0, 0] : List Int32).getD i 0),
  (fun i => ([0, 0, 0, 0, 0] : List Int32).getD i 0),
  (fun _ => 0),
  (fun _ => 0),
  (fun _ => 0),
  (fun i => ([0, 0, 0, 0, 0] : List Int32).getD i 0),
  (fun _ => 0),
  (fun _ => 0),
  (fun _ => 0),
  (fun _ => 0),
  (fun i => ([0, 0, 0] : List Int32).getD i 0),
  (fun _ => 0),
  (fun _ => 0),
  (fun i => ([0, 0, 0, 0, (0 + 1), 0, 0] : List Int32).getD i 0),
  (va_cpy (fun i => (zq_sv.getD 2 []).getD i 0) (fun _ => 0) (Int32.toNatClampNeg 0) (Int32.toNatClampNeg (0 * 160)) (Int32.toNatClampNeg 5)),
  (va_cpy (fun i => (zq_sv.getD 3 []).getD i 0) (fun _ => 0) (Int32.toNatClampNeg 0) (Int32.toNatClampNeg (0 * 3)) (Int32.toNatClampNeg 3)),
  (fun _ => 0),
  (fun _ => 0),
  (fun i => ([0, 0, 0, 0, 0, 0, 0, 0] : List Int32).getD i 0),
  (fun _ => 0),
  (fun _ => 0),
  (fun _ => 0),
  (fun _ => 0),
  (fun _ => 0),
  (fun i => ([0, 0, 0, 0] : List Int32).getD i 0),
  (fun i => ([0, 0, 0, 0, 0, 0, 0, 0] : List Int32).getD i 0),
  (fun _ => 0),
  (fun _ => 0),
  (fun _ => 0),
  (fun _ => 0),
  (fun i => ([0, 0, 0, 0, 0, 0, 0, 0, 0, 0, 0] : List Int32).getD i 0),
  (fun _ => 0),
  (fun _ => 0),
  (fun _ => 0),
  (fun _ => 0),
  (fun _ => 0),
  (fun _ => 0),
  (fun _ => 0),
  (fun i => ([0, 0, 0, 0] : List Int32).getD i 0),
  (fun _ => 0),
  (fun _ => 0),
  (fun i => ([0, 0, 0, 0] : List Int32).getD i 0),
  (fun _ => 0),
  (fun _ => 0),
  (fun i => ([0, 0, 0] : List Int32).getD i 0),
  (fun _ => 0),
  (upd (upd (upd (upd (fun _ => 0) (Int32.toNatClampNeg 0) (-1)) (Int32.toNatClampNeg 1) (-1)) (Int32.toNatClampNeg 2) (-1)) (Int32.toNatClampNeg 3) (-1)),
  (fun _ => 0),
  (fun i => ([0, 0, 0, 0, 0, 0, 0, 0, 0, 0, 0, 1, 0, 0, 0, 0, 0, 0, 0, 0, 0, 0, 0, 0, 0, 0, 0, (-1), 0, 0, 0, 0, 0, 0, 0, 0, 0, 0, 0, 0, 0, 0, 0, 0, 0, 0, 0, 0, 0, 0, 0, 0, 0, 0] : List Int32).getD i 0),
  (fun _ => 0),
  (fun _ => 0),
  (fun _ => 0),
  (fun _ => 0),
  (fun _ => 0),
  (fun _ => 0),
  (fun _ => 0),
  (fun _ => 0),
  (fun _ => 0),
  (upd (upd (upd (fun _ => 0) (Int32.toNatClampNeg 161) 1) (Int32.toNatClampNeg 162) 5) (Int32.toNatClampNeg 320) 1),
  (upd (upd (fun _ => 0) (Int32.toNatClampNeg 161) 2) (Int32.toNatClampNeg 320) 3),
  (upd (upd (upd (fun _ => 0) (Int32.toNatClampNeg 0) 1) (Int32.toNatClampNeg 1) 3) (Int32.toNatClampNeg 2) 1),
  (fun _ => 0),
  (fun _ => 0),
  (fun _ => 0),
  (fun _ => 0),
  (fun _ => 0),
  (fun _ => 0),
  (fun _ => 0),
  (fun _ => 0),
  (fun _ => 0),
  (fun _ => 0),
  (fun _ => 0),
  (fun _ => 0),
  (fun _ => 0),
  (fun _ => 0),
  (upd (upd (upd (upd (fun _ => 0) (Int32.toNatClampNeg 0) (-1)) (Int32.toNatClampNeg 1) (-1)) (Int32.toNatClampNeg 2) (-1)) (Int32.toNatClampNeg 3) (-1)),
  (fun _ => 0),
  (fun _ => 0),
  (fun _ => 0),
  (fun _ => 0)]
def m0 : zq_M := fun c => (zq_nt m0l c).getD (fun _ => 0)
set_option maxRecDepth 100000 in
theorem m0_rp {g : zq_G} : hp130 g = zq_rp m0 := rfl
theorem m0_z {n : Int} (h : 0 ≤ n) : 0 ≤ (0 : Int32).toInt ∧ (0 : Int32).toInt ≤ n := ⟨by decide, h⟩
theorem m0_n {i : Nat} {C : Prop} (h : (i : Int) < (0 : Int32).toInt) : C := by
  rw [show (0 : Int32).toInt = 0 from rfl] at h
  omega
theorem m0_S : gS (m0 1 3) (m0 48 0) (m0 2) (m0 49) (m0 3) (m0 50) := ⟨rfl, rfl, rfl, by decide, by decide, fun _ => m0_z (n := 99) (by decide), fun _ => m0_z (n := 4095) (by decide), fun _ h => m0_n h⟩
theorem m0_N : gN (m0 5 4) (m0 48 1) (m0 6) (m0 51) (m0 7) (m0 52) (m0 8) (m0 53) (m0 9) (m0 54) := ⟨rfl, rfl, rfl, rfl, rfl, by decide, by decide, fun _ => m0_z (n := 9) (by decide), fun _ => m0_z (n := 9) (by decide), fun _ => m0_z (n := 99) (by decide), fun _ => m0_z (n := 3) (by decide)⟩
theorem m0_H : gH (m0 10 2) (m0 48 2) (m0 11) (m0 55) (m0 12) (m0 56) := ⟨rfl, rfl, rfl, by decide, by decide, fun _ => m0_z (n := 5) (by decide), fun _ => m0_z (n := 20) (by decide)⟩
theorem m0_T : gT (m0 1 3) (m0 30 7) (m0 48 32) (m0 30 8) (m0 48 39) (m0 31) (m0 67) (m0 32) (m0 68) (m0 33) (m0 69) (m0 34) (m0 72) (m0 35) (m0 73) := ⟨rfl, rfl, rfl, rfl, rfl, rfl, rfl, by decide, by decide, by decide, by decide, fun _ h => m0_n h, fun _ => m0_z (n := 999) (by decide), fun _ => m0_z (n := 99) (by decide), fun _ => m0_z (n := 23) (by decide), fun _ => m0_z (n := 23) (by decide), fun _ h => m0_n h⟩
theorem m0_P : gP (m0 38 2) (m0 48 37) (m0 39) (m0 40) (m0 71) := ⟨rfl, fun _ => (by decide : (0 : Int32) = 0 - 0 / 64 * 64), fun _ => (by decide : (0 : Int32) = 0 / 64), by decide, by decide, fun _ => m0_z (n := 4095) (by decide)⟩
theorem m0_I : gI (m0 0 11) (m0 48 42) (m0 1 4) (m0 48 43) (m0 13 6) (m0 48 44) (m0 30 9) (m0 48 45) (m0 30 10) (m0 48 46) (m0 38 3) (m0 48 47) (m0 4) (m0 74) (m0 1 3) (m0 13 4) (m0 30 7) (m0 30 8) (m0 38 2) (m0 35) := ⟨rfl, rfl, rfl, rfl, rfl, rfl, rfl, Or.inl rfl, by decide, by decide, by decide, by decide, by decide, by decide, by decide, by decide, by decide, by decide, fun _ => m0_z (n := 4095) (by decide), fun _ h => m0_n h⟩
theorem m0_E : gE (m0 46) (m0 75) (m0 47) (m0 76) (m0 45) (m0 77) := by
  refine ⟨rfl, rfl, fun s h => ?_, fun s h => m0_z (n := 40) (by decide), fun s i _ h => m0_n h⟩
  rcases (show s = 0 ∨ s = 1 ∨ s = 2 ∨ s = 3 by omega) with e | e | e | e <;> subst e <;> decide
theorem m0_F : gF (m0 18 5) (m0 48 13) (m0 21) (m0 57) := ⟨rfl, rfl, by decide, by decide, fun _ => m0_z (n := 255) (by decide)⟩
theorem m0_X : gX (m0 13 4) (m0 48 11) (m0 13 5) (m0 48 12) (m0 14) (m0 15) (m0 58) (m0 59) (m0 60) := by
  refine ⟨rfl, rfl, by decide, by decide, by decide, by decide, fun t p ht hp => ?_⟩
  replace ht : (t : Int) < 1 := ht
  obtain rfl : t = 0 := by omega
  rcases (show p = 0 ∨ p = 1 ∨ p = 2 by omega) with e | e | e <;> subst e
  · refine ⟨0, [0], fun _ => rfl, fun h => absurd h (by decide), by decide, by decide, fun j s e => ?_, by decide, by decide⟩
    match j, e with
    | 0, e => cases e; exact ⟨by decide, Or.inl ⟨by decide, by decide, by decide⟩⟩
    | j + 1, e => simp at e
  · refine ⟨1, [0, -3, -10], fun h => absurd h (by decide), fun _ => by decide, by decide, by decide, fun j s e => ?_, by decide, by decide⟩
    match j, e with
    | 0, e => cases e; exact ⟨by decide, Or.inl ⟨by decide, by decide, by decide⟩⟩
    | 1, e => cases e; exact ⟨by decide, Or.inr (Or.inl ⟨by decide, by decide, by decide, by decide⟩)⟩
    | 2, e => cases e; exact ⟨by decide, Or.inr (Or.inr ⟨by decide, by decide, by decide⟩)⟩
    | j + 3, e => simp at e
  · refine ⟨4, [-4], fun h => absurd h (by decide), fun _ => by decide, by decide, by decide, fun j s e => ?_, by decide, by decide⟩
    match j, e with
    | 0, e => cases e; exact ⟨by decide, Or.inr (Or.inl ⟨by decide, by decide, by decide, by decide⟩)⟩
    | j + 1, e => simp at e
theorem m0_RR : RR m0 := ⟨m0_S, m0_N, m0_H, m0_T, m0_P, m0_I, m0_E, m0_F, m0_X, by decide⟩
/-- the law from its begin, over no cells -/
theorem law_all {g : zq_G} {d : Nat} (hL : zq_L g ≤ 384) : zq_g g (d + 143) kL_law 0 [.ref 1000, .null, .null, .null] [] (0, 0) [] (fun r _ => r = some (.int 1)) := by
  refine zq_g.mono (Q := fun r h => ∃ x', h = x' ∧ r = some (.int 1)) (fun r h q => q.choose_spec.2) ?_
  refine ci_law (Q := fun r _ => r = some (.int 1)) ?_
  show zq_g g (d + 143) kL_law 18 [.ref 1000, .ref 0, .ref 48, .int 0] [] (80, 9617) (hp130 g) (fun r h => ∃ x', h = x' ∧ r = some (.int 1))
  rw [m0_rp]
  refine zq_g.mono (Q := fun r h => ∃ x', h = zq_rp x' ∧ r = some (.int 1)) (fun r h q => ⟨h, rfl, q.choose_spec.2⟩) ?_
  exact law_loop (Q := fun r _ => r = some (.int 1)) hL (fun _ => rfl) 401 0 m0 (by decide) (by decide) (by decide) m0_RR

