/-! the reference's tokens -/
def tpM (M : zq_M) (t : Nat → Int) (z : Nat) : Prop := (M 48 13).toInt = (z : Int) ∧ z ≤ 160 ∧ ∀ i : Nat, (M 57 i).toInt = t i ∧ 0 ≤ t i ∧ t i ≤ 255
def tkn (t : Int) : Int := if 0 ≤ t then 1 else if t = -22 then -1 else if t = -23 then -2 else if t = -16 then 40 else if t = -17 then 41 else if t = -18 then 59 else if t = -12 then 43 else if t = -13 then 45 else if t = -14 then 42 else if t = -10 then 60 else if t = -11 then 61 else 2
def wdc (t : Int) : Int := if 0 ≤ t then t else if t = -19 then 1156 else if t = -20 then 99724 else if t = -21 then 24627848 else if t = -7 then 498 else if t = -8 then 1476 else if t = -9 then 14836 else if t = -1 then 777297172 else if t = -2 then 23732 else if t = -3 then 9317 else if t = -4 then 763332 else if t = -5 then 492210354 else if t = -6 then 14982420 else 0
def nmC (c : Int) : Int := if c = 777297172 then 0 else if c = 23732 then 1 else if c = 9317 then 2 else if c = 763332 then 3 else if c = 492210354 then 4 else if c = 14982420 then 5 else -1
def kyB (c : Int) : Bool := decide (c = 1156 ∨ c = 99724 ∨ c = 24627848 ∨ c = 498 ∨ c = 1476 ∨ c = 14836)
theorem tkW_in {c : Int} (h : 0 ≤ nmC c ∨ kyB c = true) : tkn (tkW c) = 2 ∧ wdc (tkW c) = c := by
  have : c = 1156 ∨ c = 99724 ∨ c = 24627848 ∨ c = 498 ∨ c = 1476 ∨ c = 14836 ∨ c = 777297172 ∨ c = 23732 ∨ c = 9317 ∨ c = 763332 ∨ c = 492210354 ∨ c = 14982420 := by
    rcases h with h | h
    · unfold nmC at h
      repeat' split at h
      all_goals omega
    · unfold kyB at h
      have := of_decide_eq_true h
      omega
  rcases this with rfl | rfl | rfl | rfl | rfl | rfl | rfl | rfl | rfl | rfl | rfl | rfl <;> decide
theorem tkW_no {c : Int} (h1 : ¬ 0 ≤ nmC c) (h2 : kyB c = false) : tkW c = -23 := by
  unfold kyB at h2
  have k := of_decide_eq_false h2
  unfold nmC at h1
  unfold tkW
  repeat' split
  all_goals first | rfl | (exfalso; first | omega | (repeat' split at h1) <;> omega)
theorem c_X12_nameOf {g : zq_G} {d : Nat} {M : zq_M} {Q : Option Value → zq_M → Prop} {c : Int32} (hq : ∀ v : Int32, v.toInt = nmC c.toInt → Q (some (.int v)) M) : mx g d kX12_nameOf 0 [.ref 48, .int c] [] M Q := by
  have k0 : (777297172 : Int32).toInt = 777297172 := by decide
  have k1 : (23732 : Int32).toInt = 23732 := by decide
  have k2 : (9317 : Int32).toInt = 9317 := by decide
  have k3 : (763332 : Int32).toInt = 763332 := by decide
  have k4 : (492210354 : Int32).toInt = 492210354 := by decide
  have k5 : (14982420 : Int32).toInt = 14982420 := by decide
  unfold nmC at hq
  refine mx_go 100 zq_t158 ?_
  show (¬ (c : Int32) = (777297172 : Int32) → (¬ (c : Int32) = (23732 : Int32) → (¬ (c : Int32) = (9317 : Int32) → (¬ (c : Int32) = (763332 : Int32) → (¬ (c : Int32) = (492210354 : Int32) → (¬ (c : Int32) = (14982420 : Int32) → Q (some (.int (-1))) M) ∧ ((c : Int32) = (14982420 : Int32) → Q (some (.int 5)) M)) ∧ ((c : Int32) = (492210354 : Int32) → Q (some (.int 4)) M)) ∧ ((c : Int32) = (763332 : Int32) → Q (some (.int 3)) M)) ∧ ((c : Int32) = (9317 : Int32) → Q (some (.int 2)) M)) ∧ ((c : Int32) = (23732 : Int32) → Q (some (.int 1)) M)) ∧ ((c : Int32) = (777297172 : Int32) → Q (some (.int 0)) M)
  refine ⟨fun a => ⟨fun b => ⟨fun e => ⟨fun f => ⟨fun h => ⟨fun i => hq _ ?_, fun i => hq _ ?_⟩, fun h => hq _ ?_⟩, fun f => hq _ ?_⟩, fun e => hq _ ?_⟩, fun b => hq _ ?_⟩, fun a => hq _ ?_⟩
  · rw [n_eq, k0] at a; rw [n_eq, k1] at b; rw [n_eq, k2] at e; rw [n_eq, k3] at f; rw [n_eq, k4] at h; rw [n_eq, k5] at i; rw [if_neg a, if_neg b, if_neg e, if_neg f, if_neg h, if_neg i]; decide
  · rw [i, k5]; decide
  · rw [h, k4]; decide
  · rw [f, k3]; decide
  · rw [e, k2]; decide
  · rw [b, k1]; decide
  · rw [a, k0]; decide
theorem c_X12_isKey {g : zq_G} {d : Nat} {M : zq_M} {Q : Option Value → zq_M → Prop} {c : Int32} (hq : Q (some (.int (bI (kyB c.toInt)))) M) : mx g d kX12_isKey 0 [.ref 48, .int c] [] M Q := by
  have k0 : (1156 : Int32).toInt = 1156 := by decide
  have k1 : (99724 : Int32).toInt = 99724 := by decide
  have k2 : (24627848 : Int32).toInt = 24627848 := by decide
  have k3 : (498 : Int32).toInt = 498 := by decide
  have k4 : (1476 : Int32).toInt = 1476 := by decide
  have k5 : (14836 : Int32).toInt = 14836 := by decide
  unfold kyB at hq
  refine mx_go 100 zq_t157 ?_
  show ((c : Int32) = (1156 : Int32) → zq_b 1 ∧ Q (some (.int 1)) M) ∧ (¬ (c : Int32) = (1156 : Int32) → ((c : Int32) = (99724 : Int32) → zq_b 1 ∧ Q (some (.int 1)) M) ∧ (¬ (c : Int32) = (99724 : Int32) → ((c : Int32) = (24627848 : Int32) → zq_b 1 ∧ Q (some (.int 1)) M) ∧ (¬ (c : Int32) = (24627848 : Int32) → ((c : Int32) = (498 : Int32) → zq_b 1 ∧ Q (some (.int 1)) M) ∧ (¬ (c : Int32) = (498 : Int32) → ((c : Int32) = (1476 : Int32) → zq_b 1 ∧ Q (some (.int 1)) M) ∧ (¬ (c : Int32) = (1476 : Int32) → (¬ (c : Int32) = (14836 : Int32) → zq_b 0 ∧ Q (some (.int 0)) M) ∧ ((c : Int32) = (14836 : Int32) → zq_b 1 ∧ Q (some (.int 1)) M))))))
  refine ⟨fun a => ⟨Or.inr rfl, ?_⟩, fun a => ⟨fun b => ⟨Or.inr rfl, ?_⟩, fun b => ⟨fun e => ⟨Or.inr rfl, ?_⟩, fun e => ⟨fun f => ⟨Or.inr rfl, ?_⟩, fun f => ⟨fun h => ⟨Or.inr rfl, ?_⟩, fun h => ⟨fun i => ⟨Or.inl rfl, ?_⟩, fun i => ⟨Or.inr rfl, ?_⟩⟩⟩⟩⟩⟩⟩
  · rw [n_eq, k0] at a; rw [decide_eq_true (by omega)] at hq; exact hq
  · rw [n_eq, k1] at b; rw [decide_eq_true (by omega)] at hq; exact hq
  · rw [n_eq, k2] at e; rw [decide_eq_true (by omega)] at hq; exact hq
  · rw [n_eq, k3] at f; rw [decide_eq_true (by omega)] at hq; exact hq
  · rw [n_eq, k4] at h; rw [decide_eq_true (by omega)] at hq; exact hq
  · rw [n_eq, k0] at a; rw [n_eq, k1] at b; rw [n_eq, k2] at e; rw [n_eq, k3] at f; rw [n_eq, k4] at h; rw [n_eq, k5] at i; rw [decide_eq_false (by omega)] at hq; exact hq
  · rw [n_eq, k5] at i; rw [decide_eq_true (by omega)] at hq; exact hq
theorem c_X12_isLetter {g : zq_G} {d : Nat} {M : zq_M} {Q : Option Value → zq_M → Prop} {c : Int32} (h : Q (some (.int (bI (ltB c.toInt)))) M) : mx g (d + 1) kX12_isLetter 0 [.ref 48, .int c] [] M Q := by
  have e1 : (97 : Int32).toInt = 97 := rfl
  have e2 : (122 : Int32).toInt = 122 := rfl
  unfold ltB at h
  refine mx_go 40 zq_t152 ?_
  show mx g (d) kX12_in 0 [.ref 48, .int (c), .int (97), .int (122)] [] M _
  refine c_X12_in (fun a b => ?_) (fun a => ?_)
  · rw [e1] at a; rw [e2] at b; rw [decide_eq_true (by omega)] at h; exact ⟨Or.inr rfl, h⟩
  · rw [e1, e2] at a; rw [decide_eq_false (by omega)] at h; exact ⟨Or.inl rfl, h⟩
theorem c_X12_isDigit {g : zq_G} {d : Nat} {M : zq_M} {Q : Option Value → zq_M → Prop} {c : Int32} (h : Q (some (.int (bI (dgB c.toInt)))) M) : mx g (d + 1) kX12_isDigit 0 [.ref 48, .int c] [] M Q := by
  have e1 : (48 : Int32).toInt = 48 := rfl
  have e2 : (57 : Int32).toInt = 57 := rfl
  unfold dgB at h
  refine mx_go 40 zq_t153 ?_
  show mx g (d) kX12_in 0 [.ref 48, .int (c), .int (48), .int (57)] [] M _
  refine c_X12_in (fun a b => ?_) (fun a => ?_)
  · rw [e1] at a; rw [e2] at b; rw [decide_eq_true (by omega)] at h; exact ⟨Or.inr rfl, h⟩
  · rw [e1, e2] at a; rw [decide_eq_false (by omega)] at h; exact ⟨Or.inl rfl, h⟩
def byT (t : Nat → Int) (z p : Nat) : Int := if p < z then t p else -1
theorem byT_b {t : Nat → Int} {z p : Nat} (h : ∀ i, 0 ≤ t i ∧ t i ≤ 255) : -1 ≤ byT t z p ∧ byT t z p ≤ 255 := by
  unfold byT
  have := h p
  split <;> omega
theorem c_X12_byteAt {g : zq_G} {d : Nat} {M : zq_M} {Q : Option Value → zq_M → Prop} {t : Nat → Int} {z p : Nat} {x : Int32} (ht : tpM M t z) (hx : x.toInt = (p : Int)) (hq : ∀ v : Int32, v.toInt = byT t z p → Q (some (.int v)) M) : mx g d kX12_byteAt 0 [.ref 48, .int x] [] M Q := by
  obtain ⟨t1, t2, t3⟩ := ht
  unfold byT at hq
  refine mx_go 40 zq_t151 ?_
  show (((M 48 13) : Int32) ≤ (x : Int32) → Q (some (.int (-1))) M) ∧ (¬ ((M 48 13) : Int32) ≤ (x : Int32) → vp_in x 160 ∧ Q (some (.int ((M 57) (Int32.toNatClampNeg x)))) M)
  refine ⟨fun a => hq _ ?_, fun a => ⟨n_in (by omega) (by rw [n_le, t1] at a; omega), hq _ ?_⟩⟩
  · rw [n_le, t1] at a
    rw [if_neg (by omega)]
    decide
  · rw [n_le, t1] at a
    rw [if_pos (by omega), n_cl, hx, Int.toNat_natCast]
    exact (t3 p).1
def fK (c i : Nat) : Bool := c == 48 && (i == 14 || i == 15 || i == 16 || i == 17)
theorem tpM_fr {M M' : zq_M} {t : Nat → Int} {z : Nat} (h : tpM M t z) (hf : fr fK M M') : tpM M' t z := ⟨by rw [hf 48 13 rfl]; exact h.1, h.2.1, fun i => by rw [fr_ar hf 57 (fun _ => rfl)]; exact h.2.2 i⟩
def tkQ (t : Nat → Int) (z q : Nat) : Int := if q < z then tkT t z q else -22
def lkP (M : zq_M) (t : Nat → Int) (z q : Nat) : Prop := (M 48 14).toInt = (q : Int) ∧ (M 48 15).toInt = tkn (tkQ t z q) ∧ (tkn (tkQ t z q) = 1 ∨ tkn (tkQ t z q) = 2 → (M 48 16).toInt = wdc (tkQ t z q)) ∧ (q < z → (M 48 17).toInt = ((enT t z q - q : Nat) : Int))
theorem cw_b {t : Nat → Int} {q : Nat} : ∀ k : Nat, (∀ j, j < k → ltB (t (q + j)) = true) → 0 ≤ cw t q k ∧ cw t q k < 32 ^ k
  | 0, _ => by unfold cw; decide
  | k + 1, h => by
    have ih := cw_b (t := t) (q := q) k (fun j hj => h j (by omega))
    have c := h k (by omega)
    unfold ltB at c
    have c2 := of_decide_eq_true c
    unfold cw
    rw [Int.pow_succ]
    omega
theorem p32 : ∀ k, k < 7 → (32 : Int) ^ k ≤ 1073741824 := by decide
theorem nv_d {t : Nat → Int} {q : Nat} : ∀ k : Nat, (∀ j, j < k → dgB (t (q + j)) = true) → 0 ≤ nv t q k
  | 0, _ => by unfold nv; decide
  | k + 1, h => by
    have ih := nv_d (t := t) (q := q) k (fun j hj => h j (by omega))
    have c := h k (by omega)
    unfold dgB at c
    have c2 := of_decide_eq_true c
    unfold nv
    omega

theorem rz_to {f : Int → Bool} {t : Nat → Int} {z : Nat} : ∀ (k q : Nat), (∀ j, j < k → f (t (q + j)) = true) → q + k ≤ z → ¬ (q + k < z ∧ f (t (q + k)) = true) → rz f t z q = q + k
  | 0, q, _, _, h => rz_no h
  | k + 1, q, h, hz, hn => by
    rw [rz_go (p := q) (z := z) (by omega) (h 0 (by omega)), rz_to k (q + 1) (fun j hj => by rw [show q + 1 + j = q + (j + 1) by omega]; exact h (j + 1) (by omega)) (by omega) (by rw [show q + 1 + k = q + (k + 1) by omega]; exact hn)]
    omega
theorem byT_f {f : Int → Bool} {t : Nat → Int} {z p : Nat} (hm : f (-1) = false) : f (byT t z p) = true ↔ (p < z ∧ f (t p) = true) := by
  unfold byT
  by_cases c : p < z
  · rw [if_pos c]; exact ⟨fun h => ⟨c, h⟩, fun h => h.2⟩
  · rw [if_neg c, hm]; exact ⟨fun h => abF h, fun h => absurd h.1 c⟩
theorem c_look76 {g : zq_G} {d : Nat} {M : zq_M} {Q : Option Value → zq_M → Prop} {t : Nat → Int} {z q : Nat} (ht : tpM M t z) (h14 : (M 48 14).toInt = (q : Int)) (hz : q < z) (hd : dgB (t q) = true) (h16 : M 48 16 = 0) (h17 : M 48 17 = 0) (hq : ∀ M' : zq_M, fr fK M M' → lkP M' t z q → Q none M') : mx g (d + 2) kX12_look 76 [.ref 48, .null] [] M Q := by
  have f4 : (4 : Int32).toInt = 4 := rfl
  have f10 : (10 : Int32).toInt = 10 := rfl
  have f48 : (48 : Int32).toInt = 48 := rfl
  have z160 := ht.2.1
  have nl : ltB (t q) = false := by
    unfold dgB at hd
    have := of_decide_eq_true hd
    unfold ltB
    exact decide_eq_false (by omega)
  refine mx_wf (fun _ : Nat => [.ref 48, .null]) (fun k M' => fr fK M M' ∧ q + k ≤ z ∧ M' 48 14 = M 48 14 ∧ (M' 48 17).toInt = (k : Int) ∧ (M' 48 16).toInt = nv t q (if k < 4 then k else 4) ∧ ∀ j, j < k → dgB (t (q + j)) = true) (fun k => z - k) ?_ 0 M ⟨fr_rfl, by omega, rfl, by rw [h17]; rfl, by rw [h16]; rfl, fun j hj => by omega⟩
  intro k M' ⟨i0, i1, i2, i3, i4, i5⟩ ih
  have ht' := tpM_fr ht i0
  have ea : (M' 48 14 + M' 48 17).toInt = ((q + k : Nat) : Int) := by rw [n_add, i2, h14, i3, zw_id (by omega) (by omega)]; omega
  refine mx_go 250 zq_t154 ?_
  show mx g (d + 1) kX12_byteAt 0 [.ref 48, .int (((M' 48 14) + (M' 48 17)))] [] M' _
  refine c_X12_byteAt ht' ea (fun v hv => ?_)
  show mx g (d + 1) kX12_isDigit 0 [.ref 48, .int (v)] [] M' _
  refine c_X12_isDigit ?_
  rw [hv]
  have bf := byT_f (f := dgB) (t := t) (z := z) (p := q + k) (by decide)
  cases c : dgB (byT t z (q + k)) with
  | false =>
    rw [c] at bf
    have e := rz_to (f := dgB) (t := t) (z := z) k q i5 i1 (fun w => abF (bf.mpr w))
    have en : enT t z q = q + k := by
      unfold enT
      rw [if_neg (by rw [nl]; decide), if_pos hd, e]
    have tq : tkQ t z q = if 4 < k then -23 else nv t q k := by
      unfold tkQ tkT nmT
      rw [if_pos hz, if_neg (by rw [nl]; decide), if_pos hd, en, show q + k - q = k by omega]
    show ((0 : Int32) = 0 → (((M' 48 17) : Int32) ≤ (4 : Int32) → Q none (zq_mu M' 48 15 1)) ∧ (¬ ((M' 48 17) : Int32) ≤ (4 : Int32) → Q none (zq_mu M' 48 15 (-2)))) ∧ (¬ (0 : Int32) = 0 → ((4 : Int32) ≤ ((M' 48 17) : Int32) → mx g (d + 2) kX12_look 76 [.ref 48, .null] [] (zq_mu (zq_mu M' 48 16 (M' 48 16)) 48 17 ((M' 48 17) + 1)) Q) ∧ (¬ (4 : Int32) ≤ ((M' 48 17) : Int32) → mx g (d + 1) kX12_byteAt 0 [.ref 48, .int (((M' 48 14) + (M' 48 17)))] [] M' _))
    refine ⟨fun _ => ⟨fun w => hq _ (fr_mu i0 rfl) ⟨?_, ?_, ?_, ?_⟩, fun w => hq _ (fr_mu i0 rfl) ⟨?_, ?_, ?_, ?_⟩⟩, fun w => absurd rfl w⟩
    · show (M' 48 14).toInt = _
      rw [i2]; exact h14
    · show (1 : Int32).toInt = _
      rw [n_le, i3, f4] at w
      rw [tq, if_neg (by omega), n_1]
      unfold tkn
      rw [if_pos (nv_d k i5)]
    · intro _
      show (M' 48 16).toInt = _
      rw [n_le, i3, f4] at w
      rw [tq, if_neg (by omega), i4]
      unfold wdc
      rw [if_pos (nv_d k i5)]
      by_cases c4 : k < 4
      · rw [if_pos c4]
      · rw [if_neg c4, show k = 4 by omega]
    · intro _
      show (M' 48 17).toInt = _
      rw [en, i3]; omega
    · show (M' 48 14).toInt = _
      rw [i2]; exact h14
    · show (-2 : Int32).toInt = _
      rw [n_le, i3, f4] at w
      rw [tq, if_pos (by omega)]
      decide
    · intro hh
      exfalso
      rw [n_le, i3, f4] at w
      rw [tq, if_pos (by omega)] at hh
      exact absurd hh (by decide)
    · intro _
      show (M' 48 17).toInt = _
      rw [en, i3]; omega
  | true =>
    rw [c] at bf
    have bb := bf.mp rfl
    have i5' : ∀ j, j < k + 1 → dgB (t (q + j)) = true := fun j hj => by
      by_cases e : j = k
      · rw [e]; exact bb.2
      · exact i5 j (by omega)
    have u17 : (M' 48 17 + 1).toInt = ((k + 1 : Nat) : Int) := by rw [n_add, n_1, i3, zw_id (by omega) (by omega)]; omega
    show ((1 : Int32) = 0 → (((M' 48 17) : Int32) ≤ (4 : Int32) → Q none (zq_mu M' 48 15 1)) ∧ (¬ ((M' 48 17) : Int32) ≤ (4 : Int32) → Q none (zq_mu M' 48 15 (-2)))) ∧ (¬ (1 : Int32) = 0 → ((4 : Int32) ≤ ((M' 48 17) : Int32) → mx g (d + 2) kX12_look 76 [.ref 48, .null] [] (zq_mu (zq_mu M' 48 16 (M' 48 16)) 48 17 ((M' 48 17) + 1)) Q) ∧ (¬ (4 : Int32) ≤ ((M' 48 17) : Int32) → mx g (d + 1) kX12_byteAt 0 [.ref 48, .int (((M' 48 14) + (M' 48 17)))] [] M' _))
    refine ⟨fun w => absurd w (by decide), fun _ => ⟨fun w => ?_, fun w => ?_⟩⟩
    · rw [n_le, i3, f4] at w
      refine ih (k + 1) _ (by omega) ⟨fr_mu (fr_mu i0 rfl) rfl, by omega, i2, u17, ?_, i5'⟩
      show (M' 48 16).toInt = _
      rw [i4, if_neg (by omega), if_neg (by omega)]
    · rw [n_le, i3, f4] at w
      refine c_X12_byteAt ht' ea (fun v2 hv2 => ?_)
      show mx g (d + 2) kX12_look 76 [.ref 48, .null] [] (zq_mu (zq_mu M' 48 16 (((10 * (M' 48 16)) + v2) - 48)) 48 17 ((M' 48 17) + 1)) Q
      refine ih (k + 1) _ (by omega) ⟨fr_mu (fr_mu i0 rfl) rfl, by omega, i2, u17, ?_, i5'⟩
      show (10 * M' 48 16 + v2 - 48).toInt = _
      have nb := nv_b (t := t) (p := q) (fun i => (ht.2.2 i).2) k (by omega)
      have tb := (ht.2.2 (q + k)).2
      rw [if_pos (by omega)] at i4
      have ev : v2.toInt = t (q + k) := by rw [hv2]; unfold byT; rw [if_pos bb.1]
      rw [n_sub, n_add, n_mul, f10, f48, i4, ev, zw_id (z := 10 * nv t q k) (by omega) (by omega), zw_id (z := 10 * nv t q k + t (q + k)) (by omega) (by omega), zw_id (by omega) (by omega)]
      by_cases c4 : k + 1 < 4
      · rw [if_pos c4]
        show _ = 10 * nv t q k + (t (q + k) - 48)
        omega
      · rw [if_neg c4, show 4 = k + 1 by omega]
        show _ = 10 * nv t q k + (t (q + k) - 48)
        omega
theorem c_look186 {g : zq_G} {d : Nat} {M : zq_M} {Q : Option Value → zq_M → Prop} {t : Nat → Int} {z q : Nat} (ht : tpM M t z) (h14 : (M 48 14).toInt = (q : Int)) (hz : q < z) (hd : ltB (t q) = true) (h16 : M 48 16 = 0) (h17 : M 48 17 = 0) (hq : ∀ M' : zq_M, fr fK M M' → lkP M' t z q → Q none M') : mx g (d + 2) kX12_look 186 [.ref 48, .null] [] M Q := by
  have f6 : (6 : Int32).toInt = 6 := rfl
  have f32 : (32 : Int32).toInt = 32 := rfl
  have f96 : (96 : Int32).toInt = 96 := rfl
  have z160 := ht.2.1
  refine mx_wf (fun _ : Nat => [.ref 48, .null]) (fun k M' => fr fK M M' ∧ q + k ≤ z ∧ M' 48 14 = M 48 14 ∧ (M' 48 17).toInt = (k : Int) ∧ (M' 48 16).toInt = (if k < 7 then cw t q k else 0) ∧ ∀ j, j < k → ltB (t (q + j)) = true) (fun k => z - k) ?_ 0 M ⟨fr_rfl, by omega, rfl, by rw [h17]; rfl, by rw [h16]; rfl, fun j hj => by omega⟩
  intro k M' ⟨i0, i1, i2, i3, i4, i5⟩ ih
  have ht' := tpM_fr ht i0
  have ea : (M' 48 14 + M' 48 17).toInt = ((q + k : Nat) : Int) := by rw [n_add, i2, h14, i3, zw_id (by omega) (by omega)]; omega
  refine mx_go 250 zq_t154 ?_
  show mx g (d + 1) kX12_byteAt 0 [.ref 48, .int (((M' 48 14) + (M' 48 17)))] [] M' _
  refine c_X12_byteAt ht' ea (fun v hv => ?_)
  show mx g (d + 1) kX12_isLetter 0 [.ref 48, .int (v)] [] M' _
  refine c_X12_isLetter ?_
  rw [hv]
  have bf := byT_f (f := ltB) (t := t) (z := z) (p := q + k) (by decide)
  cases c : ltB (byT t z (q + k)) with
  | false =>
    rw [c] at bf
    have e := rz_to (f := ltB) (t := t) (z := z) k q i5 i1 (fun w => abF (bf.mpr w))
    have en : enT t z q = q + k := by
      unfold enT
      rw [if_pos hd, e]
    have tq : tkQ t z q = if 6 < k then -23 else tkW (cw t q k) := by
      unfold tkQ tkT wdT
      rw [if_pos hz, if_pos hd, en, show q + k - q = k by omega]
    have good : ∀ M2 : zq_M, fr fK M M2 → M2 48 14 = M 48 14 → (M2 48 17).toInt = (k : Int) → (M2 48 16).toInt = (if 6 < k then 0 else cw t q k) → (0 ≤ nmC (M2 48 16).toInt ∨ kyB (M2 48 16).toInt = true) → Q none (zq_mu M2 48 15 2) := by
      intro M2 g0 g1 g2 g3 g4
      have h6 : ¬ 6 < k := fun w => by
        rw [if_pos w] at g3
        rw [g3] at g4
        exact absurd g4 (by decide)
      rw [if_neg h6] at g3 tq
      rw [g3] at g4
      have tw := tkW_in g4
      refine hq _ (fr_mu g0 rfl) ⟨?_, ?_, fun _ => ?_, fun _ => ?_⟩
      · show (M2 48 14).toInt = _
        rw [g1]; exact h14
      · show (2 : Int32).toInt = _
        rw [tq, tw.1]; rfl
      · show (M2 48 16).toInt = _
        rw [tq, tw.2, g3]
      · show (M2 48 17).toInt = _
        rw [en, g2]; omega
    have bad : ∀ M2 : zq_M, fr fK M M2 → M2 48 14 = M 48 14 → (M2 48 17).toInt = (k : Int) → (M2 48 16).toInt = (if 6 < k then 0 else cw t q k) → ¬ 0 ≤ nmC (M2 48 16).toInt → kyB (M2 48 16).toInt = false → Q none (zq_mu M2 48 15 (-2)) := by
      intro M2 g0 g1 g2 g3 g4 g5
      have t23 : tkQ t z q = -23 := by
        by_cases h6 : 6 < k
        · rw [tq, if_pos h6]
        · rw [if_neg h6] at g3 tq
          rw [g3] at g4 g5
          rw [tq, tkW_no g4 g5]
      refine hq _ (fr_mu g0 rfl) ⟨?_, ?_, fun w => ?_, fun _ => ?_⟩
      · show (M2 48 14).toInt = _
        rw [g1]; exact h14
      · show (-2 : Int32).toInt = _
        rw [t23]; decide
      · rw [t23] at w
        exact absurd w (by decide)
      · show (M2 48 17).toInt = _
        rw [en, g2]; omega
    show ((0 : Int32) = 0 → (((M' 48 17) : Int32) ≤ (6 : Int32) → mx g (d + 1) kX12_nameOf 0 [.ref 48, .int ((M' 48 16))] [] (zq_mu M' 48 16 (M' 48 16)) _) ∧ (¬ ((M' 48 17) : Int32) ≤ (6 : Int32) → mx g (d + 1) kX12_nameOf 0 [.ref 48, .int (0)] [] (zq_mu M' 48 16 0) _)) ∧ (¬ (0 : Int32) = 0 → ((6 : Int32) ≤ ((M' 48 17) : Int32) → mx g (d + 2) kX12_look 186 [.ref 48, .null] [] (zq_mu (zq_mu M' 48 16 0) 48 17 ((M' 48 17) + 1)) Q) ∧ (¬ (6 : Int32) ≤ ((M' 48 17) : Int32) → mx g (d + 1) kX12_byteAt 0 [.ref 48, .int (((M' 48 14) + (M' 48 17)))] [] M' _))
    refine ⟨fun _ => ⟨fun w => ?_, fun w => ?_⟩, fun w => absurd rfl w⟩
    · rw [n_le, i3, f6] at w
      have g0 : fr fK M (zq_mu M' 48 16 (M' 48 16)) := fr_mu i0 rfl
      have g3 : ((zq_mu M' 48 16 (M' 48 16)) 48 16).toInt = (if 6 < k then 0 else cw t q k) := by
        show (M' 48 16).toInt = _
        rw [i4, if_pos (by omega), if_neg (by omega)]
      refine c_X12_nameOf (fun v1 hv1 => ?_)
      show (0 ≤ (v1 : Int32) → Q none (zq_mu (zq_mu M' 48 16 (M' 48 16)) 48 15 2)) ∧ (¬ 0 ≤ (v1 : Int32) → mx g (d + 1) kX12_isKey 0 [.ref 48, .int (((zq_mu M' 48 16 (M' 48 16)) 48 16))] [] (zq_mu M' 48 16 (M' 48 16)) _)
      refine ⟨fun u => good _ g0 i2 i3 g3 (Or.inl ?_), fun u => ?_⟩
      · rw [n_le, n_0, hv1] at u; exact u
      · rw [n_le, n_0, hv1] at u
        refine c_X12_isKey ?_
        cases ck : kyB ((zq_mu M' 48 16 (M' 48 16)) 48 16).toInt with
        | false =>
          show ((0 : Int32) = 0 → Q none (zq_mu (zq_mu M' 48 16 (M' 48 16)) 48 15 (-2))) ∧ (¬ (0 : Int32) = 0 → Q none (zq_mu (zq_mu M' 48 16 (M' 48 16)) 48 15 2))
          exact ⟨fun _ => bad _ g0 i2 i3 g3 u ck, fun w => absurd rfl w⟩
        | true =>
          show ((1 : Int32) = 0 → Q none (zq_mu (zq_mu M' 48 16 (M' 48 16)) 48 15 (-2))) ∧ (¬ (1 : Int32) = 0 → Q none (zq_mu (zq_mu M' 48 16 (M' 48 16)) 48 15 2))
          exact ⟨fun w => absurd w (by decide), fun _ => good _ g0 i2 i3 g3 (Or.inr ck)⟩
    · rw [n_le, i3, f6] at w
      have g0 : fr fK M (zq_mu M' 48 16 0) := fr_mu i0 rfl
      have g3 : ((zq_mu M' 48 16 0) 48 16).toInt = (if 6 < k then 0 else cw t q k) := by
        show (0 : Int32).toInt = _
        rw [if_pos (by omega)]; rfl
      refine c_X12_nameOf (fun v1 hv1 => ?_)
      show (0 ≤ (v1 : Int32) → Q none (zq_mu (zq_mu M' 48 16 0) 48 15 2)) ∧ (¬ 0 ≤ (v1 : Int32) → mx g (d + 1) kX12_isKey 0 [.ref 48, .int (((zq_mu M' 48 16 0) 48 16))] [] (zq_mu M' 48 16 0) _)
      refine ⟨fun u => good _ g0 i2 i3 g3 (Or.inl ?_), fun u => ?_⟩
      · rw [n_le, n_0, hv1] at u; exact u
      · rw [n_le, n_0, hv1] at u
        refine c_X12_isKey ?_
        cases ck : kyB ((zq_mu M' 48 16 0) 48 16).toInt with
        | false =>
          show ((0 : Int32) = 0 → Q none (zq_mu (zq_mu M' 48 16 0) 48 15 (-2))) ∧ (¬ (0 : Int32) = 0 → Q none (zq_mu (zq_mu M' 48 16 0) 48 15 2))
          exact ⟨fun _ => bad _ g0 i2 i3 g3 u ck, fun w => absurd rfl w⟩
        | true =>
          show ((1 : Int32) = 0 → Q none (zq_mu (zq_mu M' 48 16 0) 48 15 (-2))) ∧ (¬ (1 : Int32) = 0 → Q none (zq_mu (zq_mu M' 48 16 0) 48 15 2))
          exact ⟨fun w => absurd w (by decide), fun _ => good _ g0 i2 i3 g3 (Or.inr ck)⟩
  | true =>
    rw [c] at bf
    have bb := bf.mp rfl
    have i5' : ∀ j, j < k + 1 → ltB (t (q + j)) = true := fun j hj => by
      by_cases e : j = k
      · rw [e]; exact bb.2
      · exact i5 j (by omega)
    have u17 : (M' 48 17 + 1).toInt = ((k + 1 : Nat) : Int) := by rw [n_add, n_1, i3, zw_id (by omega) (by omega)]; omega
    show ((1 : Int32) = 0 → (((M' 48 17) : Int32) ≤ (6 : Int32) → mx g (d + 1) kX12_nameOf 0 [.ref 48, .int ((M' 48 16))] [] (zq_mu M' 48 16 (M' 48 16)) _) ∧ (¬ ((M' 48 17) : Int32) ≤ (6 : Int32) → mx g (d + 1) kX12_nameOf 0 [.ref 48, .int (0)] [] (zq_mu M' 48 16 0) _)) ∧ (¬ (1 : Int32) = 0 → ((6 : Int32) ≤ ((M' 48 17) : Int32) → mx g (d + 2) kX12_look 186 [.ref 48, .null] [] (zq_mu (zq_mu M' 48 16 0) 48 17 ((M' 48 17) + 1)) Q) ∧ (¬ (6 : Int32) ≤ ((M' 48 17) : Int32) → mx g (d + 1) kX12_byteAt 0 [.ref 48, .int (((M' 48 14) + (M' 48 17)))] [] M' _))
    refine ⟨fun w => absurd w (by decide), fun _ => ⟨fun w => ?_, fun w => ?_⟩⟩
    · rw [n_le, i3, f6] at w
      refine ih (k + 1) _ (by omega) ⟨fr_mu (fr_mu i0 rfl) rfl, by omega, i2, u17, ?_, i5'⟩
      show (0 : Int32).toInt = _
      rw [if_neg (by omega)]; rfl
    · rw [n_le, i3, f6] at w
      refine c_X12_byteAt ht' ea (fun v2 hv2 => ?_)
      show mx g (d + 2) kX12_look 186 [.ref 48, .null] [] (zq_mu (zq_mu M' 48 16 (((32 * (M' 48 16)) + v2) - 96)) 48 17 ((M' 48 17) + 1)) Q
      refine ih (k + 1) _ (by omega) ⟨fr_mu (fr_mu i0 rfl) rfl, by omega, i2, u17, ?_, i5'⟩
      show (32 * M' 48 16 + v2 - 96).toInt = _
      have nb := cw_b (t := t) (q := q) k i5
      have np := p32 k (by omega)
      have np5 : (32 : Int) ^ k ≤ 33554432 := (by decide : ∀ k, k < 6 → (32 : Int) ^ k ≤ 33554432) k (by omega)
      have tb := (ht.2.2 (q + k)).2
      rw [if_pos (by omega)] at i4
      have ev : v2.toInt = t (q + k) := by rw [hv2]; unfold byT; rw [if_pos bb.1]
      rw [n_sub, n_add, n_mul, f32, f96, i4, ev, zw_id (z := 32 * cw t q k) (by omega) (by omega), zw_id (z := 32 * cw t q k + t (q + k)) (by omega) (by omega), zw_id (by omega) (by omega), if_pos (by omega)]
      show _ = 32 * cw t q k + (t (q + k) - 96)
      omega

