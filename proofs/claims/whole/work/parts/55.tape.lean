/-! tokens of a tape t of z bytes -/
def ltB (c : Int) : Bool := decide (97 ≤ c ∧ c ≤ 122)
def dgB (c : Int) : Bool := decide (48 ≤ c ∧ c ≤ 57)
def bkB (c : Int) : Bool := decide (c = 32 ∨ c = 10)
def rn (f : Int → Bool) (t : Nat → Int) (z : Nat) : Nat → Nat → Nat
  | 0, p => p
  | k + 1, p => if p < z ∧ f (t p) = true then rn f t z k (p + 1) else p
def rz (f : Int → Bool) (t : Nat → Int) (z p : Nat) : Nat := rn f t z (z - p) p
theorem rz_go {f : Int → Bool} {t : Nat → Int} {z p : Nat} (h : p < z) (hf : f (t p) = true) : rz f t z p = rz f t z (p + 1) := by
  unfold rz
  rw [show z - p = (z - (p + 1)) + 1 by omega]
  conv => lhs; unfold rn
  rw [if_pos ⟨h, hf⟩]
theorem rz_no {f : Int → Bool} {t : Nat → Int} {z p : Nat} (h : ¬ (p < z ∧ f (t p) = true)) : rz f t z p = p := by
  unfold rz
  cases z - p with
  | zero => rfl
  | succ k => unfold rn; rw [if_neg h]
theorem rz_b {f : Int → Bool} {t : Nat → Int} {z : Nat} : ∀ (k p : Nat), z - p = k → p ≤ z → p ≤ rz f t z p ∧ rz f t z p ≤ z ∧ (∀ j, p ≤ j → j < rz f t z p → f (t j) = true) ∧ ¬ (rz f t z p < z ∧ f (t (rz f t z p)) = true)
  | 0, p, hk, hp => by
    have e : ¬ (p < z ∧ f (t p) = true) := fun q => by omega
    rw [rz_no e]
    exact ⟨Nat.le_refl _, hp, fun j h1 h2 => by omega, e⟩
  | k + 1, p, hk, hp => by
    by_cases c : p < z ∧ f (t p) = true
    · have ih := rz_b (f := f) (t := t) (z := z) k (p + 1) (by omega) (by omega)
      rw [rz_go c.1 c.2]
      refine ⟨by omega, ih.2.1, fun j h1 h2 => ?_, ih.2.2.2⟩
      by_cases e : j = p
      · rw [e]; exact c.2
      · exact ih.2.2.1 j (by omega) h2
    · rw [rz_no c]
      exact ⟨Nat.le_refl _, hp, fun j h1 h2 => by omega, c⟩
def enT (t : Nat → Int) (z p : Nat) : Nat := if ltB (t p) = true then rz ltB t z p else if dgB (t p) = true then rz dgB t z p else p + 1
theorem enT_b {t : Nat → Int} {z p : Nat} (h : p < z) : p + 1 ≤ enT t z p ∧ enT t z p ≤ z := by
  unfold enT
  split
  · next c =>
    rw [rz_go h c]
    have := rz_b (f := ltB) (t := t) (z := z) _ (p + 1) rfl (by omega)
    omega
  · split
    · next c =>
      rw [rz_go h c]
      have := rz_b (f := dgB) (t := t) (z := z) _ (p + 1) rfl (by omega)
      omega
    · omega
def cw (t : Nat → Int) (p : Nat) : Nat → Int
  | 0 => 0
  | k + 1 => 32 * cw t p k + (t (p + k) - 96)
def nv (t : Nat → Int) (p : Nat) : Nat → Int
  | 0 => 0
  | k + 1 => 10 * nv t p k + (t (p + k) - 48)
def sgT (c : Int) : Int := if c = 40 then -16 else if c = 41 then -17 else if c = 42 then -14 else if c = 43 then -12 else if c = 45 then -13 else if c = 59 then -18 else if c = 60 then -10 else if c = 61 then -11 else -23
def tkW (c : Int) : Int := if c = 1156 then -19 else if c = 99724 then -20 else if c = 24627848 then -21 else if c = 498 then -7 else if c = 1476 then -8 else if c = 14836 then -9 else if c = 777297172 then -1 else if c = 23732 then -2 else if c = 9317 then -3 else if c = 763332 then -4 else if c = 492210354 then -5 else if c = 14982420 then -6 else -23
def wdT (t : Nat → Int) (p e : Nat) : Int := if 6 < e - p then -23 else tkW (cw t p (e - p))
def nmT (t : Nat → Int) (p e : Nat) : Int := if 4 < e - p then -23 else nv t p (e - p)
def tkT (t : Nat → Int) (z p : Nat) : Int := if ltB (t p) = true then wdT t p (enT t z p) else if dgB (t p) = true then nmT t p (enT t z p) else sgT (t p)
/-- where token i begins; z from the last on -/
def stS (t : Nat → Int) (z : Nat) : Nat → Nat
  | 0 => rz bkB t z 0
  | i + 1 => if stS t z i < z then rz bkB t z (enT t z (stS t z i)) else stS t z i
def tkS (t : Nat → Int) (z i : Nat) : Int := if stS t z i < z then tkT t z (stS t z i) else -22
theorem stS_b {t : Nat → Int} {z : Nat} : ∀ i : Nat, stS t z i ≤ z ∧ (i ≤ stS t z i ∨ stS t z i = z)
  | 0 => by
    unfold stS
    have := rz_b (f := bkB) (t := t) (z := z) _ 0 rfl (by omega)
    omega
  | i + 1 => by
    have ih := stS_b (t := t) (z := z) i
    unfold stS
    split
    · next c =>
      have e := enT_b (t := t) c
      have := rz_b (f := bkB) (t := t) (z := z) _ (enT t z (stS t z i)) rfl e.2
      omega
    · omega
theorem stS_end {t : Nat → Int} {z i : Nat} (h : stS t z i = z) : ∀ j, i ≤ j → stS t z j = z
  | 0, hj => by rw [show 0 = i by omega]; exact h
  | j + 1, hj => by
    by_cases e : i = j + 1
    · rw [← e]; exact h
    · unfold stS
      rw [stS_end h j (by omega), if_neg (by omega)]
theorem tkS_end {t : Nat → Int} {z i : Nat} (h : stS t z i = z) (j : Nat) (hj : i ≤ j) : tkS t z j = -22 := by
  unfold tkS
  rw [stS_end h j hj, if_neg (by omega)]
theorem c_X5_isBlank {g : zq_G} {d : Nat} {M : zq_M} {Q : Option Value → zq_M → Prop} {c : Int32} (h : Q (some (.int (bI (bkB c.toInt)))) M) : mx g d kX5_isBlank 0 [.int c] [] M Q := by
  have e1 : (32 : Int32).toInt = 32 := rfl
  have e2 : (10 : Int32).toInt = 10 := rfl
  unfold bkB at h
  refine mx_go 40 zq_t45 ?_
  show ((c : Int32) = (32 : Int32) → zq_b 1 ∧ Q (some (.int 1)) M) ∧ (¬ (c : Int32) = (32 : Int32) → (¬ (c : Int32) = (10 : Int32) → zq_b 0 ∧ Q (some (.int 0)) M) ∧ ((c : Int32) = (10 : Int32) → zq_b 1 ∧ Q (some (.int 1)) M))
  refine ⟨fun z => ⟨Or.inr rfl, ?_⟩, fun z => ⟨fun y => ⟨Or.inl rfl, ?_⟩, fun y => ⟨Or.inr rfl, ?_⟩⟩⟩
  · rw [n_eq, e1] at z; rw [decide_eq_true (by omega)] at h; exact h
  · rw [n_eq, e1] at z; rw [n_eq, e2] at y; rw [decide_eq_false (by omega)] at h; exact h
  · rw [n_eq, e2] at y; rw [decide_eq_true (by omega)] at h; exact h
theorem c_X5_isLetter {g : zq_G} {d : Nat} {M : zq_M} {Q : Option Value → zq_M → Prop} {c : Int32} (h : Q (some (.int (bI (ltB c.toInt)))) M) : mx g d kX5_isLetter 0 [.int c] [] M Q := by
  have e1 : (97 : Int32).toInt = 97 := rfl
  have e2 : (122 : Int32).toInt = 122 := rfl
  unfold ltB at h
  refine mx_go 40 zq_t46 ?_
  show ((c : Int32) < (97 : Int32) → zq_b 0 ∧ Q (some (.int 0)) M) ∧ (¬ (c : Int32) < (97 : Int32) → ((122 : Int32) < (c : Int32) → zq_b 0 ∧ Q (some (.int 0)) M) ∧ (¬ (122 : Int32) < (c : Int32) → zq_b 1 ∧ Q (some (.int 1)) M))
  refine ⟨fun z => ⟨Or.inl rfl, ?_⟩, fun z => ⟨fun y => ⟨Or.inl rfl, ?_⟩, fun y => ⟨Or.inr rfl, ?_⟩⟩⟩
  · rw [n_lt, e1] at z; rw [decide_eq_false (by omega)] at h; exact h
  · rw [n_lt, e2] at y; rw [decide_eq_false (by omega)] at h; exact h
  · rw [n_lt, e1] at z; rw [n_lt, e2] at y; rw [decide_eq_true (by omega)] at h; exact h
theorem c_X5_isDigit {g : zq_G} {d : Nat} {M : zq_M} {Q : Option Value → zq_M → Prop} {c : Int32} (h : Q (some (.int (bI (dgB c.toInt)))) M) : mx g d kX5_isDigit 0 [.int c] [] M Q := by
  have e1 : (48 : Int32).toInt = 48 := rfl
  have e2 : (57 : Int32).toInt = 57 := rfl
  unfold dgB at h
  refine mx_go 40 zq_t47 ?_
  show ((c : Int32) < (48 : Int32) → zq_b 0 ∧ Q (some (.int 0)) M) ∧ (¬ (c : Int32) < (48 : Int32) → ((57 : Int32) < (c : Int32) → zq_b 0 ∧ Q (some (.int 0)) M) ∧ (¬ (57 : Int32) < (c : Int32) → zq_b 1 ∧ Q (some (.int 1)) M))
  refine ⟨fun z => ⟨Or.inl rfl, ?_⟩, fun z => ⟨fun y => ⟨Or.inl rfl, ?_⟩, fun y => ⟨Or.inr rfl, ?_⟩⟩⟩
  · rw [n_lt, e1] at z; rw [decide_eq_false (by omega)] at h; exact h
  · rw [n_lt, e2] at y; rw [decide_eq_false (by omega)] at h; exact h
  · rw [n_lt, e1] at z; rw [n_lt, e2] at y; rw [decide_eq_true (by omega)] at h; exact h
/-- the tape that the class has -/
def tpX (M : zq_M) (t : Nat → Int) (z : Nat) : Prop := (M 18 5).toInt = (z : Int) ∧ z ≤ 160 ∧ ∀ i : Nat, (M 21 i).toInt = t i ∧ 0 ≤ t i ∧ t i ≤ 255
theorem c_eot34 {g : zq_G} {d : Nat} {M : zq_M} {Q : Option Value → zq_M → Prop} {t : Nat → Int} {z : Nat} {b : Bool} {x0 : Int32} {p0 : Nat} (ht : tpX M t z) (h0 : x0.toInt = (p0 : Int)) (hz : p0 ≤ z) (hq : ∀ v : Int32, v.toInt = ((rz (if b = true then ltB else dgB) t z p0 : Nat) : Int) → Q (some (.int v)) M) : mx g (d + 1) kX5_endOfToken 34 [.ref 18, .null, .int (bI b), .int x0] [] M Q := by
  obtain ⟨t1, t2, t3⟩ := ht
  refine mx_wf (fun x : Int32 => [.ref 18, .null, .int (bI b), .int x]) (fun x M' => M' = M ∧ ∃ p : Nat, x.toInt = (p : Int) ∧ p ≤ z ∧ rz (if b = true then ltB else dgB) t z p0 = rz (if b = true then ltB else dgB) t z p) (fun x => z - x.toInt.toNat) ?_ x0 M ⟨rfl, p0, h0, hz, rfl⟩
  intro x M' ⟨i0, p, i1, i2, i3⟩ ih
  subst i0
  refine mx_go 100 zq_t39 ?_
  show (((M' 18 5) : Int32) ≤ (x : Int32) → Q (some (.int x)) M') ∧ (¬ ((M' 18 5) : Int32) ≤ (x : Int32) → (((bI b) : Int32) = 0 → vp_in x 160 ∧ mx g (d) kX5_isDigit 0 [.int (((M' 21) (Int32.toNatClampNeg x)))] [] M' _) ∧ (¬ ((bI b) : Int32) = 0 → vp_in x 160 ∧ mx g (d) kX5_isLetter 0 [.int (((M' 21) (Int32.toNatClampNeg x)))] [] M' _))
  refine ⟨fun q => hq _ ?_, fun q => ?_⟩
  · rw [n_le, t1] at q
    rw [i3, rz_no (fun c => by omega), i1]
  rw [n_le, t1] at q
  have up := n_up (n := M' 18 5) (x := x) (by omega) (by omega)
  have xin : vp_in x 160 := n_in (by omega) (by omega)
  have ec : (M' 21 x.toNatClampNeg).toInt = t p := by rw [n_cl, i1, Int.toNat_natCast]; exact (t3 p).1
  cases b with
  | true =>
    refine ⟨fun z => absurd z (by decide), fun _ => ⟨xin, ?_⟩⟩
    refine c_X5_isLetter ?_
    rw [ec]
    cases c : ltB (t p) with
    | true =>
      show ((1 : Int32) = 0 → Q (some (.int x)) M') ∧ (¬ (1 : Int32) = 0 → mx g (d + 1) kX5_endOfToken 34 [.ref 18, .null, .int ((bI true)), .int ((x + 1))] [] M' Q)
      refine ⟨fun w => absurd w (by decide), fun _ => ih (x + 1) M' (by omega) ⟨rfl, p + 1, by omega, by omega, ?_⟩⟩
      rw [i3]
      exact rz_go (f := ltB) (z := z) (by omega) c
    | false =>
      show ((0 : Int32) = 0 → Q (some (.int x)) M') ∧ (¬ (0 : Int32) = 0 → mx g (d + 1) kX5_endOfToken 34 [.ref 18, .null, .int ((bI true)), .int ((x + 1))] [] M' Q)
      refine ⟨fun _ => hq _ ?_, fun w => absurd rfl w⟩
      rw [i3, rz_no (fun w => by have : ltB (t p) = true := w.2; rw [c] at this; exact abF this), i1]
  | false =>
    refine ⟨fun _ => ⟨xin, ?_⟩, fun z => absurd rfl z⟩
    refine c_X5_isDigit ?_
    rw [ec]
    cases c : dgB (t p) with
    | true =>
      show ((1 : Int32) = 0 → Q (some (.int x)) M') ∧ (¬ (1 : Int32) = 0 → mx g (d + 1) kX5_endOfToken 34 [.ref 18, .null, .int ((bI false)), .int ((x + 1))] [] M' Q)
      refine ⟨fun w => absurd w (by decide), fun _ => ih (x + 1) M' (by omega) ⟨rfl, p + 1, by omega, by omega, ?_⟩⟩
      rw [i3]
      exact rz_go (f := dgB) (z := z) (by omega) c
    | false =>
      show ((0 : Int32) = 0 → Q (some (.int x)) M') ∧ (¬ (0 : Int32) = 0 → mx g (d + 1) kX5_endOfToken 34 [.ref 18, .null, .int ((bI false)), .int ((x + 1))] [] M' Q)
      refine ⟨fun _ => hq _ ?_, fun w => absurd rfl w⟩
      rw [i3, rz_no (fun w => by have : dgB (t p) = true := w.2; rw [c] at this; exact abF this), i1]
theorem c_X5_endOfToken {g : zq_G} {d : Nat} {M : zq_M} {Q : Option Value → zq_M → Prop} {t : Nat → Int} {z p : Nat} {x : Int32} (ht : tpX M t z) (hx : x.toInt = (p : Int)) (hp : p < z) (hq : ∀ v : Int32, v.toInt = ((enT t z p : Nat) : Int) → Q (some (.int v)) M) : mx g (d + 1) kX5_endOfToken 0 [.ref 18, .int x, .null, .null] [] M Q := by
  obtain ⟨t1, t2, t3⟩ := id ht
  have up := n_up (n := M 18 5) (x := x) (by omega) (by omega)
  have xin : vp_in x 160 := n_in (by omega) (by omega)
  have ec : (M 21 x.toNatClampNeg).toInt = t p := by rw [n_cl, hx, Int.toNat_natCast]; exact (t3 p).1
  unfold enT at hq
  refine mx_go 100 zq_t39 ?_
  show vp_in x 160 ∧ mx g (d) kX5_isLetter 0 [.int (((M 21) (Int32.toNatClampNeg x)))] [] M _
  refine ⟨xin, ?_⟩
  refine c_X5_isLetter ?_
  rw [ec]
  cases c : ltB (t p) with
  | true =>
    rw [if_pos c, rz_go hp c] at hq
    show (¬ (1 : Int32) = 0 → mx g (d + 1) kX5_endOfToken 34 [.ref 18, .null, .int (1), .int ((x + 1))] [] M Q) ∧ ((1 : Int32) = 0 → vp_in x 160 ∧ mx g (d) kX5_isDigit 0 [.int (((M 21) (Int32.toNatClampNeg x)))] [] M _)
    exact ⟨fun _ => c_eot34 (b := true) (p0 := p + 1) ht (by omega) (by omega) hq, fun w => absurd w (by decide)⟩
  | false =>
    rw [if_neg (by rw [c]; decide)] at hq
    show (¬ (0 : Int32) = 0 → mx g (d + 1) kX5_endOfToken 34 [.ref 18, .null, .int (0), .int ((x + 1))] [] M Q) ∧ ((0 : Int32) = 0 → vp_in x 160 ∧ mx g (d) kX5_isDigit 0 [.int (((M 21) (Int32.toNatClampNeg x)))] [] M _)
    refine ⟨fun w => absurd rfl w, fun _ => ⟨xin, ?_⟩⟩
    refine c_X5_isDigit ?_
    rw [ec]
    cases c2 : dgB (t p) with
    | true =>
      rw [if_pos c2, rz_go hp c2] at hq
      show (¬ (1 : Int32) = 0 → mx g (d + 1) kX5_endOfToken 34 [.ref 18, .null, .int (0), .int ((x + 1))] [] M Q) ∧ ((1 : Int32) = 0 → Q (some (.int (x + 1))) M)
      exact ⟨fun _ => c_eot34 (b := false) (p0 := p + 1) ht (by omega) (by omega) hq, fun w => absurd w (by decide)⟩
    | false =>
      rw [if_neg (by rw [c2]; decide)] at hq
      show (¬ (0 : Int32) = 0 → mx g (d + 1) kX5_endOfToken 34 [.ref 18, .null, .int (0), .int ((x + 1))] [] M Q) ∧ ((0 : Int32) = 0 → Q (some (.int (x + 1))) M)
      exact ⟨fun w => absurd rfl w, fun _ => hq _ (by omega)⟩
theorem nv_b {t : Nat → Int} {p : Nat} (h : ∀ i, 0 ≤ t i ∧ t i ≤ 255) : ∀ k, k ≤ 4 → -100000 ≤ nv t p k ∧ nv t p k ≤ 1000000 := by
  intro k hk
  have h0 := h p
  have h1 := h (p + 1)
  have h2 := h (p + 2)
  have h3 := h (p + 3)
  rcases (show k = 0 ∨ k = 1 ∨ k = 2 ∨ k = 3 ∨ k = 4 by omega) with e | e | e | e | e <;> subst e <;> simp only [nv, Nat.add_zero] <;> omega
theorem c_X5_numberOf {g : zq_G} {d : Nat} {M : zq_M} {Q : Option Value → zq_M → Prop} {t : Nat → Int} {z p e : Nat} {x y : Int32} (ht : tpX M t z) (hx : x.toInt = (p : Int)) (hy : y.toInt = (e : Int)) (hp : p ≤ e) (he : e ≤ z) (hq : ∀ v : Int32, v.toInt = nmT t p e → Q (some (.int v)) M) : mx g d kX5_numberOf 0 [.ref 18, .int x, .int y, .null, .null] [] M Q := by
  obtain ⟨t1, t2, t3⟩ := id ht
  have f4 : (4 : Int32).toInt = 4 := rfl
  have f10 : (10 : Int32).toInt = 10 := rfl
  have f48 : (48 : Int32).toInt = 48 := rfl
  have es : (y - x).toInt = ((e - p : Nat) : Int) := by rw [n_sub, zw_id (by omega) (by omega)]; omega
  unfold nmT at hq
  refine mx_go 100 zq_t41 ?_
  show (((y - x) : Int32) ≤ (4 : Int32) → mx g (d) kX5_numberOf 15 [.ref 18, .null, .int (y), .int (0), .int (x)] [] M Q) ∧ (¬ ((y - x) : Int32) ≤ (4 : Int32) → Q (some (.int (-23))) M)
  refine ⟨fun q => ?_, fun q => hq _ ?_⟩
  rotate_left
  · rw [n_le, es, f4] at q
    rw [if_pos (by omega)]
    decide
  rw [n_le, es, f4] at q
  rw [if_neg (by omega)] at hq
  refine mx_wf2 (fun v w : Int32 => [.ref 18, .null, .int y, .int v, .int w]) (fun v w M' => M' = M ∧ ∃ j : Nat, j ≤ e - p ∧ w.toInt = ((p + j : Nat) : Int) ∧ v.toInt = nv t p j) (fun _ w => (y.toInt - w.toInt).toNat) ?_ 0 x M ⟨rfl, 0, by omega, by omega, by rw [n_0]; rfl⟩
  intro v w M' ⟨i0, j, i1, i2, i3⟩ ih
  subst i0
  refine mx_go 100 zq_t41 ?_
  show ((y : Int32) ≤ (w : Int32) → Q (some (.int v)) M') ∧ (¬ (y : Int32) ≤ (w : Int32) → vp_in w 160 ∧ mx g (d) kX5_numberOf 15 [.ref 18, .null, .int (y), .int ((((10 * v) + ((M' 21) (Int32.toNatClampNeg w))) - 48)), .int ((w + 1))] [] M' Q)
  refine ⟨fun r => hq _ ?_, fun r => ?_⟩
  · rw [n_le] at r
    rw [i3, show j = e - p by omega]
  rw [n_le] at r
  have up := n_up (n := y) (x := w) (by omega) (by omega)
  have nb := nv_b (t := t) (p := p) (fun i => (t3 i).2) j (by omega)
  have nb2 := nv_b (t := t) (p := p) (fun i => (t3 i).2) (j + 1) (by omega)
  have ec : (M' 21 w.toNatClampNeg).toInt = t (p + j) := by rw [n_cl, i2, Int.toNat_natCast]; exact (t3 _).1
  have tb := (t3 (p + j)).2
  refine ⟨n_in (by omega) (by omega), ih _ (w + 1) M' (by omega) ⟨rfl, j + 1, by omega, by omega, ?_⟩⟩
  rw [n_sub, n_add, n_mul, f10, f48, ec, i3, zw_id (z := 10 * nv t p j) (by omega) (by omega), zw_id (z := 10 * nv t p j + t (p + j)) (by omega) (by omega), zw_id (by omega) (by omega)]
  show _ = 10 * nv t p j + (t (p + j) - 48)
  omega
theorem c_X5_signOf {g : zq_G} {d : Nat} {M : zq_M} {Q : Option Value → zq_M → Prop} {c : Int32} (hq : ∀ v : Int32, v.toInt = sgT c.toInt → Q (some (.int v)) M) : mx g d kX5_signOf 0 [.int c] [] M Q := by
  refine mx_go 60 zq_t44 ?_
  show ((c : Int32).toInt < 40 ∨ 61 < (c : Int32).toInt → Q (some (.int (-23))) M) ∧ ((c : Int32).toInt = 40 → Q (some (.int (-16))) M) ∧ ((c : Int32).toInt = 41 → Q (some (.int (-17))) M) ∧ ((c : Int32).toInt = 42 → Q (some (.int (-14))) M) ∧ ((c : Int32).toInt = 43 → Q (some (.int (-12))) M) ∧ ((c : Int32).toInt = 44 → Q (some (.int (-23))) M) ∧ ((c : Int32).toInt = 45 → Q (some (.int (-13))) M) ∧ ((c : Int32).toInt = 46 → Q (some (.int (-23))) M) ∧ ((c : Int32).toInt = 47 → Q (some (.int (-23))) M) ∧ ((c : Int32).toInt = 48 → Q (some (.int (-23))) M) ∧ ((c : Int32).toInt = 49 → Q (some (.int (-23))) M) ∧ ((c : Int32).toInt = 50 → Q (some (.int (-23))) M) ∧ ((c : Int32).toInt = 51 → Q (some (.int (-23))) M) ∧ ((c : Int32).toInt = 52 → Q (some (.int (-23))) M) ∧ ((c : Int32).toInt = 53 → Q (some (.int (-23))) M) ∧ ((c : Int32).toInt = 54 → Q (some (.int (-23))) M) ∧ ((c : Int32).toInt = 55 → Q (some (.int (-23))) M) ∧ ((c : Int32).toInt = 56 → Q (some (.int (-23))) M) ∧ ((c : Int32).toInt = 57 → Q (some (.int (-23))) M) ∧ ((c : Int32).toInt = 58 → Q (some (.int (-23))) M) ∧ ((c : Int32).toInt = 59 → Q (some (.int (-18))) M) ∧ ((c : Int32).toInt = 60 → Q (some (.int (-10))) M) ∧ ((c : Int32).toInt = 61 → Q (some (.int (-11))) M)
  unfold sgT at hq
  refine ⟨fun z => hq _ ?_, fun z => hq _ ?_, fun z => hq _ ?_, fun z => hq _ ?_, fun z => hq _ ?_, fun z => hq _ ?_, fun z => hq _ ?_, fun z => hq _ ?_, fun z => hq _ ?_, fun z => hq _ ?_, fun z => hq _ ?_, fun z => hq _ ?_, fun z => hq _ ?_, fun z => hq _ ?_, fun z => hq _ ?_, fun z => hq _ ?_, fun z => hq _ ?_, fun z => hq _ ?_, fun z => hq _ ?_, fun z => hq _ ?_, fun z => hq _ ?_, fun z => hq _ ?_, fun z => hq _ ?_⟩
  · rw [if_neg (by omega), if_neg (by omega), if_neg (by omega), if_neg (by omega), if_neg (by omega), if_neg (by omega), if_neg (by omega), if_neg (by omega)]; decide
  all_goals (rw [z]; decide)

