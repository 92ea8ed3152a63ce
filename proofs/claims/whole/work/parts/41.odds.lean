/-! longs -/
theorem l_rng (x : Int64) : -9223372036854775808 ≤ x.toInt ∧ x.toInt < 9223372036854775808 := by
  have h1 := Int64.le_toInt x
  have h2 := Int64.toInt_lt x
  omega
theorem l_eq (a b : Int64) : a = b ↔ a.toInt = b.toInt := Int64.toInt_inj.symm
theorem l_bm {z : Int} (h1 : -9223372036854775808 ≤ z) (h2 : z < 9223372036854775808) : z.bmod (2 ^ 64) = z := by
  rw [show ((2 : Nat) ^ 64) = 18446744073709551616 from rfl, Int.bmod_def]
  split <;> omega
theorem l_add {a b : Int64} (h1 : -9223372036854775808 ≤ a.toInt + b.toInt) (h2 : a.toInt + b.toInt < 9223372036854775808) : (a + b).toInt = a.toInt + b.toInt := by rw [Int64.toInt_add, l_bm h1 h2]
theorem l_mul {a b : Int64} (h1 : -9223372036854775808 ≤ a.toInt * b.toInt) (h2 : a.toInt * b.toInt < 9223372036854775808) : (a * b).toInt = a.toInt * b.toInt := by rw [Int64.toInt_mul, l_bm h1 h2]
theorem l_32 (x : Int32) : (Int32.toInt64 x).toInt = x.toInt := Int32.toInt_toInt64 x
theorem l_0 : (0 : Int64).toInt = 0 := by decide
theorem l_1 : (1 : Int64).toInt = 1 := by decide
theorem l_mod {a b : Int64} (a1 : 0 ≤ a.toInt) (b1 : 0 < b.toInt) : (a - a / b * b).toInt = a.toInt % b.toInt := by
  have ra := l_rng a
  have ne : b ≠ -1 := by
    intro e
    rw [e] at b1
    exact absurd b1 (by decide)
  have e : (a / b).toInt = a.toInt / b.toInt := by
    rw [Int64.toInt_div_of_ne_right a b ne, Int.tdiv_eq_ediv_of_nonneg a1]
  have e1 : a.toInt / b.toInt * b.toInt ≤ a.toInt := Int.ediv_mul_le _ (by omega)
  have e2 : 0 ≤ a.toInt / b.toInt := Int.ediv_nonneg a1 (by omega)
  have e3 : 0 ≤ a.toInt / b.toInt * b.toInt := Int.mul_nonneg e2 (by omega)
  have e4 : a.toInt % b.toInt = a.toInt - a.toInt / b.toInt * b.toInt := by rw [Int.emod_def, Int.mul_comm]
  have e5 : (a / b * b).toInt = a.toInt / b.toInt * b.toInt := by rw [l_mul (by rw [e]; omega) (by rw [e]; omega), e]
  rw [Int64.toInt_sub, e5, l_bm (by omega) (by omega), e4]
theorem l_modN {a b : Int64} {A B : Nat} (ha : a.toInt = A) (hb : b.toInt = B) (b1 : 0 < B) : (a - a / b * b).toInt = ((A % B : Nat) : Int) := by
  rw [l_mod (by omega) (by omega), ha, hb]
  rfl
theorem gcd_st {A B : Nat} : Nat.gcd A B = Nat.gcd B (A % B) := by rw [Nat.gcd_comm A B, Nat.gcd_rec B A, Nat.gcd_comm]
theorem half_mod {b r : Nat} (h1 : 0 < r) (h2 : r < b) : 2 * (b % r) < b := by
  have e1 := Nat.mod_lt b h1
  have e2 := Nat.mod_add_div b r
  have e3 : 1 ≤ b / r := Nat.div_pos (by omega) h1
  have e4 : r * 1 ≤ r * (b / r) := Nat.mul_le_mul_left r e3
  omega
theorem c_div9 {g : zq_G} {d : Nat} {M : zq_M} {Q : Option Value → zq_M → Prop} {G : Nat} (hq : ∀ r : Int64, r.toInt = (G : Int) → Q (some (.long r)) M) : ∀ (j A B : Nat) (a b : Int64) (x : Int32), a.toInt = A → b.toInt = B → B < 2 ^ j → 0 ≤ x.toInt → x.toInt + 2 * j ≤ 128 → Nat.gcd A B = G → mx g d kX11_commonDivisor 9 [.null, .null, .null, .null, .long a, .null, .long b, .null, .int x, .null, .null] [] M Q := by
  have f130 : (130 : Int32).toInt = 130 := rfl
  have one : ∀ (A B : Nat) (a b : Int64) (x : Int32), a.toInt = A → b.toInt = B → 0 ≤ x.toInt → x.toInt ≤ 129 → Nat.gcd A B = G → (0 < B → mx g d kX11_commonDivisor 9 [.null, .null, .null, .null, .long b, .null, .long (a - a / b * b), .null, .int (x + 1), .null, .null] [] M Q) → mx g d kX11_commonDivisor 9 [.null, .null, .null, .null, .long a, .null, .long b, .null, .int x, .null, .null] [] M Q := by
    intro A B a b x ha hb x1 x2 hg hs
    refine mx_go 250 zq_t138 ?_
    show ((130 : Int32) ≤ (x : Int32) → Q (some (.long a)) M) ∧ (¬ (130 : Int32) ≤ (x : Int32) → (((lg_cmp b 0) : Int32) = 0 → Q (some (.long a)) M) ∧ (¬ ((lg_cmp b 0) : Int32) = 0 → (¬ (b : Int64) = 0) ∧ mx g (d) kX11_commonDivisor 9 [.null, .null, .null, .null, .long (b), .null, .long ((a - a / b * b)), .null, .int ((x + 1)), .null, .null] [] M Q))
    rw [lg_cmp_eq]
    refine ⟨fun z => absurd z (by rw [n_le, f130]; omega), fun _ => ⟨fun z => hq _ ?_, fun z => ⟨z, hs ?_⟩⟩⟩
    · rw [l_eq, l_0, hb] at z
      have : B = 0 := by omega
      rw [this, Nat.gcd_zero_right] at hg
      rw [ha, hg]
    · rw [l_eq, l_0, hb] at z
      omega
  intro j
  induction j with
  | zero =>
    intro A B a b x ha hb hB x1 x2 hg
    exact one A B a b x ha hb x1 (by omega) hg (fun z => by omega)
  | succ j ih =>
    intro A B a b x ha hb hB x1 x2 hg
    have up := n_up (n := 130) (x := x) x1 (by omega)
    refine one A B a b x ha hb x1 (by omega) hg (fun z => ?_)
    have e1 := l_modN ha hb z
    have g1 : Nat.gcd B (A % B) = G := by rw [← gcd_st]; exact hg
    have up2 := n_up (n := 130) (x := x + 1) (by omega) (by omega)
    refine one B (A % B) b _ (x + 1) hb e1 (by omega) (by omega) g1 (fun z2 => ?_)
    have e2 := l_modN hb e1 z2
    have hm := half_mod z2 (Nat.mod_lt A z)
    have g2 : Nat.gcd (A % B) (B % (A % B)) = G := by rw [← gcd_st]; exact g1
    refine ih (A % B) (B % (A % B)) _ _ (x + 1 + 1) e1 e2 ?_ (by omega) (by omega) g2
    rw [Nat.pow_succ] at hB
    omega
theorem c_X11_commonDivisor {g : zq_G} {d : Nat} {M : zq_M} {Q : Option Value → zq_M → Prop} {a b : Int64} {A B : Nat} (ha : a.toInt = A) (hb : b.toInt = B) (hB : B < 2 ^ 60) (hq : ∀ r : Int64, r.toInt = ((Nat.gcd A B : Nat) : Int) → Q (some (.long r)) M) : mx g d kX11_commonDivisor 0 [.long a, .null, .long b, .null, .null, .null, .null, .null, .null, .null, .null] [] M Q := by
  refine mx_go 250 zq_t138 ?_
  show mx g (d) kX11_commonDivisor 9 [.null, .null, .null, .null, .long (a), .null, .long (b), .null, .int (0), .null, .null] [] M Q
  exact c_div9 hq 60 A B a b 0 ha hb hB (by decide) (by decide) rfl
theorem c_X12_divisor {g : zq_G} {d : Nat} {M : zq_M} {Q : Option Value → zq_M → Prop} {a b : Int64} {A B : Nat} (ha : a.toInt = A) (hb : b.toInt = B) (hq : ∀ r : Int64, r.toInt = ((Nat.gcd A B : Nat) : Int) → Q (some (.long r)) M) : mx g d kX12_divisor 0 [.ref 48, .long a, .null, .long b, .null, .null, .null, .null, .null, .null, .null] [] M Q := by
  refine mx_go 250 zq_t200 ?_
  show mx g (d) kX12_divisor 6 [.null, .null, .null, .null, .null, .long (a), .null, .long (b), .null, .null, .null] [] M Q
  refine mx_wf2 (fun a b : Int64 => [.null, .null, .null, .null, .null, .long a, .null, .long b, .null, .null, .null]) (fun a b M' => M' = M ∧ ∃ A' B' : Nat, a.toInt = A' ∧ b.toInt = B' ∧ Nat.gcd A' B' = Nat.gcd A B) (fun _ b => b.toInt.toNat) ?_ a b M ⟨rfl, A, B, ha, hb, rfl⟩
  intro a' b' M' ⟨i0, A', B', i1, i2, i3⟩ ih
  subst i0
  refine mx_go 250 zq_t200 ?_
  show (((lg_cmp b' 0) : Int32) = 0 → Q (some (.long a')) M') ∧ (¬ ((lg_cmp b' 0) : Int32) = 0 → (¬ (b' : Int64) = 0) ∧ mx g (d) kX12_divisor 6 [.null, .null, .null, .null, .null, .long (b'), .null, .long ((a' - a' / b' * b')), .null, .null, .null] [] M' Q)
  rw [lg_cmp_eq]
  refine ⟨fun z => hq _ ?_, fun z => ⟨z, ?_⟩⟩
  · rw [l_eq, l_0, i2] at z
    have : B' = 0 := by omega
    rw [this, Nat.gcd_zero_right] at i3
    rw [i1, i3]
  · rw [l_eq, l_0, i2] at z
    have e1 := l_modN i1 i2 (by omega)
    have hm := Nat.mod_lt A' (show B' > 0 by omega)
    exact ih _ _ M' (by rw [e1, i2]; omega) ⟨rfl, B', A' % B', i2, e1, by rw [← gcd_st]; exact i3⟩
theorem c_X11_partOfFraction {g : zq_G} {d : Nat} {M : zq_M} {Q : Option Value → zq_M → Prop} {a b : Int64} {p : Int32} {A B : Nat} (ha : a.toInt = A) (hb : b.toInt = B) (b1 : 0 < B) (hB : B < 2 ^ 60) (hq : ∀ r : Int64, r.toInt = ((Nat.gcd A B : Nat) : Int) → Q (some (.long ((if p = 0 then a else b) / r))) M) : mx g (d + 1) kX11_partOfFraction 0 [.long a, .null, .long b, .null, .int p, .null, .null, .null, .null] [] M Q := by
  refine mx_go 250 zq_t137 ?_
  show mx g (d) kX11_commonDivisor 0 [.long (a), .null, .long (b), .null, .null, .null, .null, .null, .null, .null, .null] [] M _
  refine c_X11_commonDivisor ha hb hB (fun r hr => ?_)
  have good := hq r hr
  have gp := Nat.gcd_pos_of_pos_right A b1
  have rn : ¬ r = 0 := by
    rw [l_eq, l_0, hr]
    omega
  show (¬ (p : Int32) = 0 → (¬ ((lg_cmp r 0) : Int32) = 0 → (¬ (r : Int64) = 0) ∧ Q (some (.long (b / r))) M) ∧ (((lg_cmp r 0) : Int32) = 0 → Q (some (.long b)) M)) ∧ ((p : Int32) = 0 → (¬ ((lg_cmp r 0) : Int32) = 0 → (¬ (r : Int64) = 0) ∧ Q (some (.long (a / r))) M) ∧ (((lg_cmp r 0) : Int32) = 0 → Q (some (.long a)) M))
  rw [lg_cmp_eq]
  refine ⟨fun z => ⟨fun y => ⟨rn, ?_⟩, fun y => absurd y rn⟩, fun z => ⟨fun y => ⟨rn, ?_⟩, fun y => absurd y rn⟩⟩
  · rw [if_neg z] at good; exact good
  · rw [if_pos z] at good; exact good
/-! products of fits -/
def prI (M : zq_M) (h set : Int32) : Nat → Int
  | 0 => 1
  | k + 1 => if bt set k = true then prI M h set k * fitM M h k else prI M h set k
theorem prI_fr {M M' : zq_M} {h set : Int32} (hf : fr (fL sL) M M') : ∀ k, prI M' h set k = prI M h set k
  | 0 => rfl
  | k + 1 => by
    unfold prI
    rw [fitM_fr hf, prI_fr hf k]
def setP (n : Int) (set : Int32) : Prop := ∀ k, k < 16 → bt set k = true → (k : Int) < n
theorem prI_b {M : zq_M} {h set : Int32} (hR : R5 M) (hs : setP (M 30 7).toInt set) : ∀ k, k ≤ 16 → 1 ≤ prI M h set k ∧ prI M h set k ≤ 9 ^ k
  | 0, _ => by unfold prI; decide
  | k + 1, hk => by
    have ih := prI_b (h := h) hR hs k (by omega)
    unfold prI
    rw [Int.pow_succ]
    split
    · next c =>
      have fb := fitM_b (h := h) hR (hs k (by omega) c)
      generalize prI M h set k = P at ih
      generalize fitM M h k = F at fb
      generalize (9 : Int) ^ k = N at ih
      have g1 : 1 * 1 ≤ P * F := Int.mul_le_mul ih.1 fb.1 (by omega) (by omega)
      have g2 : P * F ≤ N * 9 := Int.mul_le_mul ih.2 fb.2 (by omega) (by omega)
      omega
    · omega
theorem p9 : ∀ k, k < 17 → (9 : Int) ^ k ≤ 1853020188851841 := by decide
theorem prI_c {M : zq_M} {h set : Int32} (hR : R5 M) (hs : setP (M 30 7).toInt set) {k : Nat} (hk : k ≤ 16) : 1 ≤ prI M h set k ∧ prI M h set k ≤ 1853020188851841 := by
  have a := prI_b (h := h) hR hs k hk
  have b := p9 k (by omega)
  omega
theorem prI_up {M : zq_M} {h set x : Int32} (x1 : 0 ≤ x.toInt) (up : (x + 1).toInt = x.toInt + 1) : prI M h set (x + 1).toInt.toNat = if bt set x.toInt.toNat = true then prI M h set x.toInt.toNat * fitM M h x.toInt.toNat else prI M h set x.toInt.toNat := by
  rw [up, show (x.toInt + 1).toNat = x.toInt.toNat + 1 by omega]
  rfl
theorem prI_end {M : zq_M} {h set : Int32} {n : Int} (hs : setP n set) : ∀ j k : Nat, n ≤ (k : Int) → k + j ≤ 16 → prI M h set (k + j) = prI M h set k
  | 0, k, _, _ => rfl
  | j + 1, k, h1, h2 => by
    rw [← Nat.add_assoc]
    conv => lhs; unfold prI
    rw [if_neg (fun c => by have := hs (k + j) (by omega) c; omega)]
    exact prI_end hs j k h1 (by omega)
theorem bit1 {set x : Int32} (x1 : 0 ≤ x.toInt) (x2 : x.toInt < 32) : ((set >>> (x &&& 31)) &&& 1 = 1) ↔ bt set x.toInt.toNat = true := by
  have := bitA (x := set) (i := x.toInt.toNat) (by omega)
  rw [← n_of x1] at this
  rw [this]
  cases bt set x.toInt.toNat <;> decide
theorem l_mulP {b : Int64} {v : Int32} {P F : Int} (hb : b.toInt = P) (hv : v.toInt = F) (p1 : 1 ≤ P) (p2 : P ≤ 1853020188851841) (f1 : 1 ≤ F) (f2 : F ≤ 9) : (b * Int32.toInt64 v).toInt = P * F := by
  have g1 : 1 * 1 ≤ P * F := Int.mul_le_mul p1 f1 (by omega) (by omega)
  have g2 : P * F ≤ 1853020188851841 * 9 := Int.mul_le_mul p2 f2 (by omega) (by omega)
  rw [l_mul (by rw [l_32, hb, hv]; omega) (by rw [l_32, hb, hv]; omega), l_32, hb, hv]
theorem c_prodX {g : zq_G} {d : Nat} {M : zq_M} {Q : Option Value → zq_M → Prop} {M0 : zq_M} {h set : Int32} (hR : R5 M0) (hs : setP (M0 30 7).toInt set) (hf : fr (fL sL) M0 M) (he : eqW (M0 1 3).toInt (arX M) (gR M0 (M0 3) h 0 (M0 5 4).toInt.toNat)) (hq : ∀ v : Int64, v.toInt = prI M0 h set 16 → Q (some (.long v)) M) : mx g (d + 2) kX11_productOfFits 0 [.ref 0, .int set, .null, .null, .null] [] M Q := by
  have f16 : (16 : Int32).toInt = 16 := rfl
  refine mx_go 250 zq_t135 ?_
  show mx g (d + 2) kX11_productOfFits 5 [.ref 0, .int (set), .long (1), .null, .int (0)] [] M Q
  refine mx_wf2 (fun (b : Int64) (x : Int32) => [.ref 0, .int set, .long b, .null, .int x]) (fun b x M' => 0 ≤ x.toInt ∧ x.toInt ≤ 16 ∧ M' = M ∧ b.toInt = prI M0 h set x.toInt.toNat) (fun _ x => (16 - x.toInt).toNat) ?_ 1 0 M ⟨by decide, by decide, rfl, by rw [n_0]; rfl⟩
  intro b x M' ⟨i1, i2, i3, i4⟩ ih
  subst i3
  refine mx_go 250 zq_t135 ?_
  show ((16 : Int32) ≤ (x : Int32) → Q (some (.long b)) M') ∧ (¬ (16 : Int32) ≤ (x : Int32) → (¬ (((set >>> (x &&& 31)) &&& 1) : Int32) = (1 : Int32) → mx g (d + 2) kX11_productOfFits 5 [.ref 0, .int (set), .long (b), .null, .int ((x + 1))] [] M' Q) ∧ ((((set >>> (x &&& 31)) &&& 1) : Int32) = (1 : Int32) → mx g (d + 1) kX11_fitOfWalk 0 [.ref 0, .int (x), .null, .null, .null] [] M' _))
  refine ⟨fun z => hq _ ?_, fun z => ?_⟩
  · rw [n_le, f16] at z
    rw [i4, show x.toInt = 16 by omega]
    rfl
  rw [n_le, f16] at z
  have up := n_up (n := 16) (x := x) i1 (by omega)
  rw [bit1 i1 (by omega)]
  have pu := prI_up (M := M0) (h := h) (set := set) i1 up
  have pc := prI_c (h := h) hR hs (k := x.toInt.toNat) (by omega)
  refine ⟨fun c => ?_, fun c => ?_⟩
  · rw [if_neg c] at pu
    exact ih b (x + 1) M' (by omega) ⟨by omega, by omega, rfl, by rw [pu, i4]⟩
  · rw [if_pos c] at pu
    have lt := hs x.toInt.toNat (by omega) c
    have fb := fitM_b (h := h) hR lt
    refine c_fitX hR hf he i1 (by omega) (fun v hv => ?_)
    show mx g (d + 2) kX11_productOfFits 5 [.ref 0, .int (set), .long ((b * (Int32.toInt64 v))), .null, .int ((x + 1))] [] M' Q
    exact ih _ (x + 1) M' (by omega) ⟨by omega, by omega, rfl, by rw [pu, l_mulP i4 hv pc.1 pc.2 fb.1 fb.2]⟩
theorem c_X12_product {g : zq_G} {d : Nat} {M : zq_M} {Q : Option Value → zq_M → Prop} {h set : Int32} (hR : R5 M) (hV : M 48 27 = -1) (hs : setP (M 30 7).toInt set) (a1 : 0 ≤ h.toInt) (a2 : h.toInt < 8) (hq : ∀ (v : Int64) (M' : zq_M), fr (fL sL) M M' → v.toInt = prI M h set 16 → Q (some (.long v)) M') : mx g (d + 6) kX12_product 0 [.ref 48, .int h, .int set, .null, .null, .null] [] M Q := by
  obtain ⟨hS, hN, hH, hT, hX⟩ := id hR
  have t1 := hT.1
  have t8 := hT.2.2.2.2.2.2.2.1
  have f16 : (16 : Int32).toInt = 16 := rfl
  refine mx_go 250 zq_t199 ?_
  show mx g (d + 5) kX12_goAll 0 [.ref 48, .int (h), .null] [] M _
  refine c_X12_goAll (p := M 3) hR hV a1 a2 (fun M0 hf0 he => ?_)
  have hf := fr_sub (l' := sL) hf0 (by decide)
  show mx g (d + 6) kX12_product 10 [.ref 48, .null, .int (set), .long (1), .null, .int (0)] [] M0 Q
  refine mx_wf2 (fun (b : Int64) (x : Int32) => [.ref 48, .null, .int set, .long b, .null, .int x]) (fun b x M' => 0 ≤ x.toInt ∧ x.toInt ≤ 16 ∧ M' = M0 ∧ b.toInt = prI M h set x.toInt.toNat) (fun _ x => (16 - x.toInt).toNat) ?_ 1 0 M0 ⟨by decide, by decide, rfl, by rw [n_0]; rfl⟩
  intro b x M' ⟨i1, i2, i3, i4⟩ ih
  subst i3
  refine mx_go 250 zq_t199 ?_
  show (((M' 48 32) : Int32) ≤ (x : Int32) → Q (some (.long b)) M') ∧ (¬ ((M' 48 32) : Int32) ≤ (x : Int32) → ((16 : Int32) ≤ (x : Int32) → Q (some (.long b)) M') ∧ (¬ (16 : Int32) ≤ (x : Int32) → (¬ (((set >>> (x &&& 31)) &&& 1) : Int32) = (1 : Int32) → mx g (d + 6) kX12_product 10 [.ref 48, .null, .int (set), .long ((b * 1)), .null, .int ((x + 1))] [] M' Q) ∧ ((((set >>> (x &&& 31)) &&& 1) : Int32) = (1 : Int32) → mx g (d + 5) kX12_fitting 0 [.ref 48, .int (x), .null, .null] [] M' _)))
  rw [hf 48 32 rfl, t1]
  refine ⟨fun z => hq _ M' hf ?_, fun z => ⟨fun y => hq _ M' hf ?_, fun y => ?_⟩⟩
  · rw [n_le] at z
    have := prI_end (M := M) (h := h) hs (16 - x.toInt.toNat) x.toInt.toNat (by omega) (by omega)
    rw [show x.toInt.toNat + (16 - x.toInt.toNat) = 16 by omega] at this
    rw [i4, this]
  · rw [n_le, f16] at y
    rw [i4, show x.toInt = 16 by omega]
    rfl
  rw [n_le, f16] at y
  have up := n_up (n := 16) (x := x) i1 (by omega)
  rw [bit1 i1 (by omega)]
  have pu := prI_up (M := M) (h := h) (set := set) i1 up
  have pc := prI_c (h := h) hR hs (k := x.toInt.toNat) (by omega)
  refine ⟨fun c => ?_, fun c => ?_⟩
  · rw [if_neg c] at pu
    exact ih _ (x + 1) M' (by omega) ⟨by omega, by omega, rfl, by rw [pu, Int64.mul_one, i4]⟩
  · rw [if_pos c] at pu
    have lt := hs x.toInt.toNat (by omega) c
    have fb := fitM_b (h := h) hR lt
    refine c_fitR hR hf he i1 (by omega) (fun v hv => ?_)
    show mx g (d + 6) kX12_product 10 [.ref 48, .null, .int (set), .long ((b * (Int32.toInt64 v))), .null, .int ((x + 1))] [] M' Q
    exact ih _ (x + 1) M' (by omega) ⟨by omega, by omega, rfl, by rw [pu, l_mulP i4 hv pc.1 pc.2 fb.1 fb.2]⟩

/-! the set of tracks -/
def setQ (n : Int) (v : Int) : Prop := 0 ≤ v ∧ v < 2 ^ (if n < 16 then n.toNat else 16)
theorem shl_k : ∀ m, m < 17 → ((1 : Int32) <<< (nI m &&& 31)).toInt = 2 ^ m := by decide +kernel
theorem pw_b : ∀ m, m < 17 → (1 : Int) ≤ 2 ^ m ∧ (2 : Int) ^ m ≤ 65536 := by decide
theorem bt_lt {v : Int32} {m k : Nat} (h0 : 0 ≤ v.toInt) (h : v.toInt < 2 ^ m) (hb : bt v k = true) : k < m := by
  by_cases c : k < m
  · exact c
  · exfalso
    have e : v.toInt = v.toBitVec.toInt := rfl
    have e2 := BitVec.toInt_eq_toNat_cond v.toBitVec
    have lt := v.toBitVec.isLt
    have e3 : (v.toBitVec.toNat : Int) = v.toInt := by
      rw [e, e2]
      rw [e, e2] at h0
      split
      · rfl
      · next z =>
        rw [if_neg z] at h0
        omega
    have l1 : v.toBitVec.toNat < 2 ^ m := by
      have : (v.toBitVec.toNat : Int) < ((2 ^ m : Nat) : Int) := by
        rw [e3, Int.natCast_pow]
        exact h
      omega
    have l2 : 2 ^ m ≤ 2 ^ k := Nat.pow_le_pow_right (by decide) (by omega)
    have := Nat.testBit_lt_two_pow (show v.toBitVec.toNat < 2 ^ k by omega)
    unfold bt BitVec.getLsbD at hb
    rw [this] at hb
    exact absurd hb (by decide)
theorem setQ_P {n : Int} {v : Int32} (n1 : 0 ≤ n) (h : setQ n v.toInt) : setP n v := by
  intro k hk hb
  have := bt_lt h.1 h.2 hb
  split at this <;> omega
theorem c_X9_hasAll {g : zq_G} {d : Nat} {M : zq_M} {Q : Option Value → zq_M → Prop} {v n : Int32} (hn : M 30 7 = n) (b1 : 0 ≤ n.toInt) (h1 : setQ n.toInt v.toInt → True → Q (some (.int 1)) M) (h0 : ¬ setQ n.toInt v.toInt → Q (some (.int 0)) M) : mx g (d + 1) kX9_hasAll 0 [.ref 30, .int v] [] M Q := by
  have f16 : (16 : Int32).toInt = 16 := rfl
  refine mx_go 250 zq_t75 ?_
  show ((v : Int32) < 0 → zq_b 0 ∧ Q (some (.int 0)) M) ∧ (¬ (v : Int32) < 0 → (((1 <<< ((if 16 < (M 30 7) then 16 else (M 30 7)) &&& 31)) : Int32) ≤ (v : Int32) → zq_b 0 ∧ Q (some (.int 0)) M) ∧ (¬ ((1 <<< ((if 16 < (M 30 7) then 16 else (M 30 7)) &&& 31)) : Int32) ≤ (v : Int32) → zq_b 1 ∧ Q (some (.int 1)) M))
  rw [hn]
  have ee : (1 <<< ((if 16 < n then 16 else n) &&& 31) : Int32).toInt = 2 ^ (if n.toInt < 16 then n.toInt.toNat else 16) := by
    by_cases c : n.toInt < 16
    · rw [if_pos c, if_neg (by rw [n_lt, f16]; omega)]
      have := shl_k n.toInt.toNat (by omega)
      rw [← n_of b1] at this
      exact this
    · rw [if_neg c]
      by_cases c2 : n.toInt = 16
      · rw [if_neg (by rw [n_lt, f16]; omega), show n = 16 from (n_eq _ _).mpr c2]
        exact shl_k 16 (by decide)
      · rw [if_pos (by rw [n_lt, f16]; omega)]
        exact shl_k 16 (by decide)
  unfold setQ at h1 h0
  refine ⟨fun q => ⟨Or.inl rfl, h0 (fun z => ?_)⟩, fun q => ⟨fun r => ⟨Or.inl rfl, h0 (fun z => ?_)⟩, fun r => ⟨Or.inr rfl, h1 ⟨?_, ?_⟩ trivial⟩⟩⟩
  · rw [n_lt, n_0] at q; omega
  · rw [n_le, ee] at r; omega
  · rw [n_lt, n_0] at q; omega
  · rw [n_le, ee] at r; omega
/-- the sum of the products of all hows -/
def suI (M : zq_M) (set : Int32) : Nat → Int
  | 0 => 0
  | k + 1 => suI M set k + prI M (nI k) set 16
theorem suI_fr {M M' : zq_M} {set : Int32} (hf : fr (fL sL) M M') : ∀ k, suI M' set k = suI M set k
  | 0 => rfl
  | k + 1 => by
    unfold suI
    rw [prI_fr hf, suI_fr hf k]
theorem suI_b {M : zq_M} {set : Int32} (hR : R5 M) (hs : setP (M 30 7).toInt set) : ∀ k : Nat, (k : Int) ≤ suI M set k ∧ suI M set k ≤ k * 1853020188851841
  | 0 => by unfold suI; decide
  | k + 1 => by
    have ih := suI_b hR hs k
    have p := prI_c (h := nI k) hR hs (k := 16) (by omega)
    unfold suI
    omega
theorem suI_up {M : zq_M} {set x : Int32} (x1 : 0 ≤ x.toInt) (up : (x + 1).toInt = x.toInt + 1) : suI M set (x + 1).toInt.toNat = suI M set x.toInt.toNat + prI M x set 16 := by
  rw [up, show (x.toInt + 1).toNat = x.toInt.toNat + 1 by omega]
  show suI M set x.toInt.toNat + prI M (nI x.toInt.toNat) set 16 = _
  rw [← n_of x1]

def odR (M : zq_M) (p0 p1 p2 : Int32) (v : Int64) : Prop := ∃ a b r : Int64, a.toInt = prI M p0 p1 16 ∧ b.toInt = suI M p1 (M 10 2).toInt.toNat ∧ r.toInt = ((Nat.gcd a.toInt.toNat b.toInt.toNat : Nat) : Int) ∧ v = (if p2 = 0 then a else b) / r
theorem odR_un {M M' : zq_M} {p0 p1 p2 : Int32} {v v' : Int64} (hf : fr (fL sL) M M') (h : odR M p0 p1 p2 v) (h' : odR M' p0 p1 p2 v') : v' = v := by
  obtain ⟨a, b, r, h1, h2, h3, h4⟩ := h
  obtain ⟨a', b', r', g1, g2, g3, g4⟩ := h'
  rw [prI_fr hf] at g1
  rw [suI_fr hf, hf 10 2 rfl] at g2
  have ea : a' = a := by rw [l_eq, g1, h1]
  have eb : b' = b := by rw [l_eq, g2, h2]
  subst ea eb
  have er : r' = r := by rw [l_eq, g3, h3]
  rw [g4, h4, er]
def F_odds (p0 p1 p2 : Int32) (M : zq_M) (v : Int64) : Prop := (¬ (inR p0.toInt (M 10 2).toInt ∧ setQ (M 30 7).toInt p1.toInt ∧ inR p2.toInt 2) → v = -4611686018427387904) ∧ ((inR p0.toInt (M 10 2).toInt ∧ setQ (M 30 7).toInt p1.toInt ∧ inR p2.toInt 2) → odR M p0 p1 p2 v)
theorem F_odds_bad {p0 p1 p2 : Int32} {M : zq_M} (h : ¬ (inR p0.toInt (M 10 2).toInt ∧ setQ (M 30 7).toInt p1.toInt ∧ inR p2.toInt 2)) : F_odds p0 p1 p2 M (-4611686018427387904) := ⟨fun _ => rfl, fun z => absurd z h⟩
theorem F_odds_un {p0 p1 p2 : Int32} {v v' : Int64} {M M' : zq_M} (hf : fr (fL sL) M M') (h : F_odds p0 p1 p2 M v) (h' : F_odds p0 p1 p2 M' v') : v' = v := by
  unfold F_odds at h h'
  rw [hf 10 2 rfl, hf 30 7 rfl] at h'
  by_cases c : (inR p0.toInt (M 10 2).toInt ∧ setQ (M 30 7).toInt p1.toInt ∧ inR p2.toInt 2)
  · exact odR_un hf (h.2 c) (h'.2 c)
  · rw [h.1 c, h'.1 c]
theorem x_odds {g : zq_G} {d : Nat} {M : zq_M} {Q : Option Value → zq_M → Prop} {p0 p1 p2 : Int32} (hR : RR M) (hq : ∀ (v : Int64) (M' : zq_M), fr (fL sL) M M' → F_odds p0 p1 p2 M v → Q (some (.long v)) M') : mx g (d + 6) kX11_odds 0 [.ref 0, .int p0, .int p1, .int p2, .null, .null, .null, .null, .null, .null, .null] [] M Q := by
  have hR5 := RR_5 hR
  obtain ⟨hS, hN, hH, hT, hX⟩ := id hR5
  have s4 := hS.2.2.2.1
  have s5 := hS.2.2.2.2.1
  have n6 := hN.2.2.2.2.2.1
  have n7 := hN.2.2.2.2.2.2.1
  have h4 := hH.2.2.2.1
  have h5 := hH.2.2.2.2.1
  have t8 := hT.2.2.2.2.2.2.2.1
  have hbad : ¬ (inR p0.toInt (M 10 2).toInt ∧ setQ (M 30 7).toInt p1.toInt ∧ inR p2.toInt 2) → Q (some (.long (-4611686018427387904))) M := fun z => hq _ M fr_rfl (F_odds_bad z)
  refine mx_go 250 zq_t106 ?_
  show mx g (d + 5) kX0_has 0 [.ref 10, .int (p0)] [] M _
  refine c_X0_has (n := M 10 2) rfl (fun k1 k2 => ?_) (fun k1 => ?_)
  rotate_left
  · show ((0 : Int32) = 0 → Q (some (.long (-4611686018427387904))) M) ∧ (¬ (0 : Int32) = 0 → mx g (d + 5) kX9_hasAll 0 [.ref 30, .int (p1)] [] M _)
    exact ⟨fun _ => hbad (fun z => by unfold inR at z; omega), fun z => absurd rfl z⟩
  show ((1 : Int32) = 0 → Q (some (.long (-4611686018427387904))) M) ∧ (¬ (1 : Int32) = 0 → mx g (d + 5) kX9_hasAll 0 [.ref 30, .int (p1)] [] M _)
  refine ⟨fun z => absurd z (by decide), fun _ => ?_⟩
  refine c_X9_hasAll (n := M 30 7) rfl t8 (fun k3 _ => ?_) (fun k3 => ?_)
  rotate_left
  · show ((0 : Int32) = 0 → Q (some (.long (-4611686018427387904))) M) ∧ (¬ (0 : Int32) = 0 → ((p2 : Int32) < 0 → Q (some (.long (-4611686018427387904))) M) ∧ (¬ (p2 : Int32) < 0 → ((p2 : Int32) ≤ (1 : Int32) → mx g (d + 6) kX11_odds 44 [.ref 0, .int (p0), .int (p1), .int (p2), .long (0), .null, .long (0), .null, .int (0), .null, .null] [] M Q) ∧ (¬ (p2 : Int32) ≤ (1 : Int32) → Q (some (.long (-4611686018427387904))) M)))
    exact ⟨fun _ => hbad (fun z => k3 z.2.1), fun z => absurd rfl z⟩
  show ((1 : Int32) = 0 → Q (some (.long (-4611686018427387904))) M) ∧ (¬ (1 : Int32) = 0 → ((p2 : Int32) < 0 → Q (some (.long (-4611686018427387904))) M) ∧ (¬ (p2 : Int32) < 0 → ((p2 : Int32) ≤ (1 : Int32) → mx g (d + 6) kX11_odds 44 [.ref 0, .int (p0), .int (p1), .int (p2), .long (0), .null, .long (0), .null, .int (0), .null, .null] [] M Q) ∧ (¬ (p2 : Int32) ≤ (1 : Int32) → Q (some (.long (-4611686018427387904))) M)))
  refine ⟨fun z => absurd z (by decide), fun _ => ?_⟩
  refine ⟨fun z => hbad (fun y => by unfold inR at y; rw [n_lt, n_0] at z; omega), fun z => ⟨fun y => ?_, fun y => hbad (fun w => by unfold inR at w; rw [n_le, n_1] at y; omega)⟩⟩
  rw [n_lt, n_0] at z
  rw [n_le, n_1] at y
  have hs := setQ_P t8 k3
  replace hq := fun v M' hf hv => hq v M' hf ⟨fun w => absurd ⟨⟨k1, k2⟩, k3, by omega, by omega⟩ w, fun _ => hv⟩
  clear hbad
  have pb := fun h => prI_c (h := h) hR5 hs (k := 16) (by omega)
  have sb := suI_b hR5 hs
  refine mx_wf3 (fun (a b : Int64) (x : Int32) => [.ref 0, .int p0, .int p1, .int p2, .long a, .null, .long b, .null, .int x, .null, .null]) (fun a b x M' => 0 ≤ x.toInt ∧ x.toInt ≤ (M 10 2).toInt ∧ fr (fL sL) M M' ∧ b.toInt = suI M p1 x.toInt.toNat ∧ (p0.toInt < x.toInt → a.toInt = prI M p0 p1 16)) (fun _ _ x => ((M 10 2).toInt - x.toInt).toNat) ?_ 0 0 0 M ⟨by decide, h4, fr_rfl, by rw [n_0]; rfl, fun w => by rw [n_0] at w; omega⟩
  intro a b x M' ⟨i1, i2, i3, i4, i5⟩ ih
  refine mx_go 250 zq_t106 ?_
  show (((M' 10 2) : Int32) ≤ (x : Int32) → mx g (d + 5) kX11_partOfFraction 0 [.long (a), .null, .long (b), .null, .int (p2), .null, .null, .null, .null] [] M' _) ∧ (¬ ((M' 10 2) : Int32) ≤ (x : Int32) → mx g (d + 5) kX10_go 0 [.ref 25, .int (x), .int (0), .int (((M' 5 4) - 1)), .null, .null] [] M' _)
  rw [i3 10 2 rfl]
  refine ⟨fun w => ?_, fun w => ?_⟩
  · rw [n_le] at w
    have ea := i5 (by omega)
    have eb := sb x.toInt.toNat
    have pa := pb p0
    rw [show x.toInt = (M 10 2).toInt by omega] at i4 eb
    refine c_X11_partOfFraction (A := a.toInt.toNat) (B := b.toInt.toNat) (by omega) (by omega) (by omega) (by rw [show (2 : Nat) ^ 60 = 1152921504606846976 from rfl]; omega) (fun r hr => ?_)
    exact hq _ M' i3 ⟨a, b, r, ea, i4, hr, rfl⟩
  rw [n_le] at w
  have up := n_up (n := M 10 2) i1 (by omega)
  have hR' := R5_fr i3 hR5
  refine c_go_all hR' i1 (by omega) (fun M2 hf2 he => ?_)
  have f2 := fr_sub (l' := sL) hf2 (by decide)
  show mx g (d + 5) kX11_productOfFits 0 [.ref 0, .int (p1), .null, .null, .null] [] M2 _
  refine c_prodX hR' (by rw [i3 30 7 rfl]; exact hs) f2 he (fun v hv => ?_)
  rw [prI_fr i3] at hv
  have px := pb x
  have sx := sb x.toInt.toNat
  have eb : (b + v).toInt = suI M p1 (x + 1).toInt.toNat := by
    rw [suI_up i1 up, l_add (by omega) (by omega), i4, hv]
  show (¬ (x : Int32) = (p0 : Int32) → mx g (d + 6) kX11_odds 44 [.ref 0, .int (p0), .int (p1), .int (p2), .long (a), .null, .long ((b + v)), .null, .int ((x + 1)), .null, .null] [] M2 Q) ∧ ((x : Int32) = (p0 : Int32) → mx g (d + 6) kX11_odds 44 [.ref 0, .int (p0), .int (p1), .int (p2), .long (v), .null, .long ((b + v)), .null, .int ((x + 1)), .null, .null] [] M2 Q)
  refine ⟨fun c => ?_, fun c => ?_⟩
  · refine ih a _ (x + 1) M2 (by omega) ⟨by omega, by omega, fr_trans i3 f2, eb, fun y => i5 ?_⟩
    rw [n_eq] at c
    omega
  · refine ih v _ (x + 1) M2 (by omega) ⟨by omega, by omega, fr_trans i3 f2, eb, fun y => ?_⟩
    rw [hv, c]
theorem m_odds {g : zq_G} {d : Nat} {M : zq_M} {Q : Option Value → zq_M → Prop} {p0 p1 p2 : Int32} (hR : RR M) (hq : ∀ (v : Int64) (M' : zq_M), fr (fL sL) M M' → F_odds p0 p1 p2 M v → Q (some (.long v)) M') : mx g (d + 7) kX12_odds 0 [.ref 48, .int p0, .int p1, .int p2, .null, .null, .null, .null, .null, .null, .null] [] M Q := by
  have hR5 := RR_5 hR
  have hV : M 48 27 = -1 := hR.2.2.2.2.2.2.2.2.2
  obtain ⟨hS, hN, hH, hT, hX⟩ := id hR5
  have s1 := hS.1
  have s4 := hS.2.2.2.1
  have s5 := hS.2.2.2.2.1
  have n1 := hN.1
  have n6 := hN.2.2.2.2.2.1
  have n7 := hN.2.2.2.2.2.2.1
  have h1 := hH.1
  have h4 := hH.2.2.2.1
  have h5 := hH.2.2.2.2.1
  have t1 := hT.1
  have t8 := hT.2.2.2.2.2.2.2.1
  have f16 : (16 : Int32).toInt = 16 := rfl
  have hbad : ¬ (inR p0.toInt (M 10 2).toInt ∧ setQ (M 30 7).toInt p1.toInt ∧ inR p2.toInt 2) → Q (some (.long (-4611686018427387904))) M := fun z => hq _ M fr_rfl (F_odds_bad z)
  have loop : ∀ (k1 : 0 ≤ p0.toInt) (k2 : p0.toInt < (M 10 2).toInt) (k3' : setQ (M 30 7).toInt p1.toInt) (z : 0 ≤ p2.toInt) (y : p2.toInt ≤ 1), mx g (d + 7) kX12_odds 63 [.ref 48, .int p0, .int p1, .int p2, .null, .long 0, .null, .int 0, .null, .null, .null] [] M Q := by
    intro k1 k2 k3' z y
    have hs := setQ_P t8 k3'
    replace hq := fun v M' hf hv => hq v M' hf ⟨fun w => absurd ⟨⟨k1, k2⟩, k3', z, by omega⟩ w, fun _ => hv⟩
    clear hbad
    have pb := fun h => prI_c (h := h) hR5 hs (k := 16) (by omega)
    have sb := suI_b hR5 hs
    refine mx_wf2 (fun (b : Int64) (x : Int32) => [.ref 48, .int p0, .int p1, .int p2, .null, .long b, .null, .int x, .null, .null, .null]) (fun b x M' => 0 ≤ x.toInt ∧ x.toInt ≤ (M 10 2).toInt ∧ fr (fL sL) M M' ∧ b.toInt = suI M p1 x.toInt.toNat) (fun _ x => ((M 10 2).toInt - x.toInt).toNat) ?_ 0 0 M ⟨by decide, h4, fr_rfl, by rw [n_0]; rfl⟩
    intro b x M' ⟨i1, i2, i3, i4⟩ ih
    have hR' := R5_fr i3 hR5
    have hV' : M' 48 27 = -1 := (i3 48 27 rfl).trans hV
    refine mx_go 250 zq_t201 ?_
    show (((M' 48 2) : Int32) ≤ (x : Int32) → mx g (d + 6) kX12_product 0 [.ref 48, .int (p0), .int (p1), .null, .null, .null] [] M' _) ∧ (¬ ((M' 48 2) : Int32) ≤ (x : Int32) → mx g (d + 6) kX12_product 0 [.ref 48, .int (x), .int (p1), .null, .null, .null] [] M' _)
    rw [i3 48 2 rfl, h1]
    refine ⟨fun w => ?_, fun w => ?_⟩
    · rw [n_le] at w
      have eb := sb x.toInt.toNat
      have pa := pb p0
      rw [show x.toInt = (M 10 2).toInt by omega] at i4 eb
      refine c_X12_product hR' hV' (by rw [i3 30 7 rfl]; exact hs) k1 (by omega) (fun a M2 f2 ha => ?_)
      rw [prI_fr i3] at ha
      show mx g (d + 6) kX12_divisor 0 [.ref 48, .long (a), .null, .long (b), .null, .null, .null, .null, .null, .null, .null] [] M2 _
      refine c_X12_divisor (A := a.toInt.toNat) (B := b.toInt.toNat) (by omega) (by omega) (fun r hr => ?_)
      have gp := Nat.gcd_pos_of_pos_right a.toInt.toNat (show 0 < b.toInt.toNat by omega)
      have rn : ¬ r = 0 := by
        rw [l_eq, l_0, hr]
        omega
      have good := hq _ M2 (fr_trans i3 f2) ⟨a, b, r, ha, i4, hr, rfl⟩
      show (¬ (p2 : Int32) = 0 → (¬ (r : Int64) = 0) ∧ Q (some (.long (b / r))) M2) ∧ ((p2 : Int32) = 0 → (¬ (r : Int64) = 0) ∧ Q (some (.long (a / r))) M2)
      refine ⟨fun c => ⟨rn, ?_⟩, fun c => ⟨rn, ?_⟩⟩
      · rw [if_neg c] at good; exact good
      · rw [if_pos c] at good; exact good
    rw [n_le] at w
    have up := n_up (n := M 10 2) i1 (by omega)
    refine c_X12_product hR' hV' (by rw [i3 30 7 rfl]; exact hs) i1 (by omega) (fun v M2 f2 hv => ?_)
    rw [prI_fr i3] at hv
    have px := pb x
    have sx := sb x.toInt.toNat
    show mx g (d + 7) kX12_odds 63 [.ref 48, .int (p0), .int (p1), .int (p2), .null, .long ((b + v)), .null, .int ((x + 1)), .null, .null, .null] [] M2 Q
    refine ih _ (x + 1) M2 (by omega) ⟨by omega, by omega, fr_trans i3 f2, ?_⟩
    rw [suI_up i1 up, l_add (by omega) (by omega), i4, hv]
  refine mx_go 250 zq_t201 ?_
  show ((16 : Int32) ≤ ((M 48 32) : Int32) → mx g (d + 6) kX12_isHow 0 [.ref 48, .int (p0)] [] M _) ∧ (¬ (16 : Int32) ≤ ((M 48 32) : Int32) → mx g (d + 6) kX12_isHow 0 [.ref 48, .int (p0)] [] M _)
  rw [t1]
  refine ⟨fun q => ?_, fun q => ?_⟩
  · have ee : (1 <<< ((16 : Int32) &&& 31) : Int32).toInt = 2 ^ (if (M 30 7).toInt < 16 then (M 30 7).toInt.toNat else 16) := by
      rw [n_le, f16] at q
      rw [if_neg (by omega)]
      exact shl_k 16 (by decide)
    have pw := pw_b (if (M 30 7).toInt < 16 then (M 30 7).toInt.toNat else 16) (by split <;> omega)
    have em : (((1 : Int32) <<< ((16 : Int32) &&& 31)) - 1).toInt = 2 ^ (if (M 30 7).toInt < 16 then (M 30 7).toInt.toNat else 16) - 1 := by
      rw [n_sub, n_1, ee, zw_id (by omega) (by omega)]
    refine c_X12_isHow (n := M 10 2) h1 h4 (fun k1 k2 => ?_) (fun k1 => ?_)
    rotate_left
    · show ((0 : Int32) = 0 → Q (some (.long (-4611686018427387904))) M) ∧ (¬ (0 : Int32) = 0 → mx g (d + 6) kX12_in 0 [.ref 48, .int (p1), .int (0), .int ((((1 : Int32) <<< ((16 : Int32) &&& 31)) - 1))] [] M _)
      exact ⟨fun _ => hbad (fun z => by unfold inR at z; omega), fun z => absurd rfl z⟩
    show ((1 : Int32) = 0 → Q (some (.long (-4611686018427387904))) M) ∧ (¬ (1 : Int32) = 0 → mx g (d + 6) kX12_in 0 [.ref 48, .int (p1), .int (0), .int ((((1 : Int32) <<< ((16 : Int32) &&& 31)) - 1))] [] M _)
    refine ⟨fun z => absurd z (by decide), fun _ => ?_⟩
    refine c_X12_in (fun k3 k3b => ?_) (fun k3 => ?_)
    rotate_left
    · show ((0 : Int32) = 0 → Q (some (.long (-4611686018427387904))) M) ∧ (¬ (0 : Int32) = 0 → mx g (d + 6) kX12_in 0 [.ref 48, .int (p2), .int (0), .int (1)] [] M _)
      exact ⟨fun _ => hbad (fun z => by unfold setQ at z; rw [n_0, em] at k3; omega), fun z => absurd rfl z⟩
    show ((1 : Int32) = 0 → Q (some (.long (-4611686018427387904))) M) ∧ (¬ (1 : Int32) = 0 → mx g (d + 6) kX12_in 0 [.ref 48, .int (p2), .int (0), .int (1)] [] M _)
    refine ⟨fun z => absurd z (by decide), fun _ => ?_⟩
    refine c_X12_in (fun z y => ?_) (fun z => ?_)
    rotate_left
    · show (¬ (0 : Int32) = 0 → mx g (d + 7) kX12_odds 63 [.ref 48, .int (p0), .int (p1), .int (p2), .null, .long (0), .null, .int (0), .null, .null, .null] [] M Q) ∧ ((0 : Int32) = 0 → Q (some (.long (-4611686018427387904))) M)
      exact ⟨fun z => absurd rfl z, fun _ => hbad (fun y => by unfold inR at y; rw [n_0, n_1] at z; omega)⟩
    show (¬ (1 : Int32) = 0 → mx g (d + 7) kX12_odds 63 [.ref 48, .int (p0), .int (p1), .int (p2), .null, .long (0), .null, .int (0), .null, .null, .null] [] M Q) ∧ ((1 : Int32) = 0 → Q (some (.long (-4611686018427387904))) M)
    refine ⟨fun _ => ?_, fun z => absurd z (by decide)⟩
    rw [n_0] at z k3
    rw [n_1] at y
    rw [em] at k3b
    exact loop k1 k2 ⟨k3, by omega⟩ z y
  · have ee : (1 <<< ((M 48 32) &&& 31) : Int32).toInt = 2 ^ (if (M 30 7).toInt < 16 then (M 30 7).toInt.toNat else 16) := by
      rw [t1]
      rw [n_le, f16] at q
      rw [if_pos (by omega)]
      have := shl_k (M 30 7).toInt.toNat (by omega)
      rw [← n_of t8] at this
      exact this
    have pw := pw_b (if (M 30 7).toInt < 16 then (M 30 7).toInt.toNat else 16) (by split <;> omega)
    have em : (((1 : Int32) <<< ((M 48 32) &&& 31)) - 1).toInt = 2 ^ (if (M 30 7).toInt < 16 then (M 30 7).toInt.toNat else 16) - 1 := by
      rw [n_sub, n_1, ee, zw_id (by omega) (by omega)]
    refine c_X12_isHow (n := M 10 2) h1 h4 (fun k1 k2 => ?_) (fun k1 => ?_)
    rotate_left
    · show ((0 : Int32) = 0 → Q (some (.long (-4611686018427387904))) M) ∧ (¬ (0 : Int32) = 0 → mx g (d + 6) kX12_in 0 [.ref 48, .int (p1), .int (0), .int ((((1 : Int32) <<< ((M 48 32) &&& 31)) - 1))] [] M _)
      exact ⟨fun _ => hbad (fun z => by unfold inR at z; omega), fun z => absurd rfl z⟩
    show ((1 : Int32) = 0 → Q (some (.long (-4611686018427387904))) M) ∧ (¬ (1 : Int32) = 0 → mx g (d + 6) kX12_in 0 [.ref 48, .int (p1), .int (0), .int ((((1 : Int32) <<< ((M 48 32) &&& 31)) - 1))] [] M _)
    refine ⟨fun z => absurd z (by decide), fun _ => ?_⟩
    refine c_X12_in (fun k3 k3b => ?_) (fun k3 => ?_)
    rotate_left
    · show ((0 : Int32) = 0 → Q (some (.long (-4611686018427387904))) M) ∧ (¬ (0 : Int32) = 0 → mx g (d + 6) kX12_in 0 [.ref 48, .int (p2), .int (0), .int (1)] [] M _)
      exact ⟨fun _ => hbad (fun z => by unfold setQ at z; rw [n_0, em] at k3; omega), fun z => absurd rfl z⟩
    show ((1 : Int32) = 0 → Q (some (.long (-4611686018427387904))) M) ∧ (¬ (1 : Int32) = 0 → mx g (d + 6) kX12_in 0 [.ref 48, .int (p2), .int (0), .int (1)] [] M _)
    refine ⟨fun z => absurd z (by decide), fun _ => ?_⟩
    refine c_X12_in (fun z y => ?_) (fun z => ?_)
    rotate_left
    · show (¬ (0 : Int32) = 0 → mx g (d + 7) kX12_odds 63 [.ref 48, .int (p0), .int (p1), .int (p2), .null, .long (0), .null, .int (0), .null, .null, .null] [] M Q) ∧ ((0 : Int32) = 0 → Q (some (.long (-4611686018427387904))) M)
      exact ⟨fun z => absurd rfl z, fun _ => hbad (fun y => by unfold inR at y; rw [n_0, n_1] at z; omega)⟩
    show (¬ (1 : Int32) = 0 → mx g (d + 7) kX12_odds 63 [.ref 48, .int (p0), .int (p1), .int (p2), .null, .long (0), .null, .int (0), .null, .null, .null] [] M Q) ∧ ((1 : Int32) = 0 → Q (some (.long (-4611686018427387904))) M)
    refine ⟨fun _ => ?_, fun z => absurd z (by decide)⟩
    rw [n_0] at z k3
    rw [n_1] at y
    rw [em] at k3b
    exact loop k1 k2 ⟨k3, by omega⟩ z y
theorem op_odds {g : zq_G} {d : Nat} {M : zq_M} {p0 p1 p2 : Int32} (hR : RR M) : prl g (d + 7) kX11_odds kX12_odds [.ref 0, .int p0, .int p1, .int p2, .null, .null, .null, .null, .null, .null, .null] [.ref 48, .int p0, .int p1, .int p2, .null, .null, .null, .null, .null, .null, .null] M :=
  q_opl (F_odds p0 p1 p2) hR (fun _ _ _ hf h h' => F_odds_un hf h h') (fun _ hq => x_odds (d := d + 1) hR hq) (fun _ _ hR' hq => m_odds hR' hq)
