/-! which nights to look at -/
def csF (c : Nat → Nat) (b : Nat) : Nat → Nat
  | 0 => 0
  | k + 1 => csF c b k + (if b.testBit k = true then c k else 0)
theorem csF_congr {c : Nat → Nat} {b b' : Nat} : ∀ k : Nat, (∀ j, j < k → b.testBit j = b'.testBit j) → csF c b k = csF c b' k
  | 0, _ => rfl
  | k + 1, h => by
    unfold csF
    rw [csF_congr k (fun j hj => h j (by omega)), h k (by omega)]
theorem csF_lo {c : Nat → Nat} {b k : Nat} (hb : b < 2 ^ k) : csF c b (k + 1) = csF c b k := by
  conv => lhs; unfold csF
  rw [Nat.testBit_lt_two_pow hb]
  rfl
theorem csF_hi {c : Nat → Nat} {b k : Nat} (hb : b < 2 ^ k) : csF c (2 ^ k + b) (k + 1) = csF c b k + c k := by
  conv => lhs; unfold csF
  rw [csF_congr k (fun j hj => Nat.testBit_two_pow_add_gt hj b), Nat.testBit_two_pow_add_eq, Nat.testBit_lt_two_pow hb]
  rfl
theorem csF_b {c : Nat → Nat} {b B : Nat} (h : ∀ n, c n ≤ B) : ∀ k, csF c b k ≤ k * B
  | 0 => by unfold csF; omega
  | k + 1 => by
    have ih := csF_b (b := b) h k
    have := h k
    unfold csF
    rw [Nat.add_mul, Nat.one_mul]
    split <;> omega
theorem split_hi {b k : Nat} (h : b < 2 ^ (k + 1)) : b < 2 ^ k ∨ ∃ b', b' < 2 ^ k ∧ b = 2 ^ k + b' := by
  rw [Nat.pow_succ] at h
  by_cases c : b < 2 ^ k
  · exact Or.inl c
  · exact Or.inr ⟨b - 2 ^ k, by omega, by omega⟩
/-- the best set that costs just s, out of k nights -/
def dpI (c w : Nat → Nat) (k s : Nat) (W B : Int) : Prop := (W = -1 ∧ ∀ b, b < 2 ^ k → csF c b k ≠ s) ∨ ∃ a : Nat, a < 2 ^ k ∧ B = (a : Int) ∧ W = ((csF w a k : Nat) : Int) ∧ csF c a k = s ∧ ∀ b, b < 2 ^ k → csF c b k = s → csF w b k < csF w a k ∨ (csF w b k = csF w a k ∧ a ≤ b)
theorem dp_low {c w : Nat → Nat} {k s : Nat} {W B : Int} (hs : s < c k) (h : dpI c w k s W B) : dpI c w (k + 1) s W B := by
  have lt : 2 ^ k < 2 ^ (k + 1) := Nat.pow_lt_pow_right (by decide) (by omega)
  rcases h with ⟨h1, h2⟩ | ⟨a, h1, h2, h3, h4, h5⟩
  · refine Or.inl ⟨h1, fun b hb => ?_⟩
    rcases split_hi hb with e | ⟨b', e1, rfl⟩
    · rw [csF_lo e]; exact h2 b e
    · rw [csF_hi e1]; omega
  · refine Or.inr ⟨a, by omega, h2, by rw [csF_lo h1]; exact h3, by rw [csF_lo h1]; exact h4, fun b hb he => ?_⟩
    rcases split_hi hb with e | ⟨b', e1, rfl⟩
    · rw [csF_lo e] at he ⊢
      rw [csF_lo h1]
      exact h5 b e he
    · rw [csF_hi e1] at he; omega
theorem dp_no {c w : Nat → Nat} {k s : Nat} {W B B' : Int} (hs : c k ≤ s) (h : dpI c w k s W B) (h' : dpI c w k (s - c k) (-1) B') : dpI c w (k + 1) s W B := by
  have lt : 2 ^ k < 2 ^ (k + 1) := Nat.pow_lt_pow_right (by decide) (by omega)
  have no : ∀ b, b < 2 ^ k → csF c b k ≠ s - c k := by
    rcases h' with ⟨_, g2⟩ | ⟨a, _, _, g3, _⟩
    · exact g2
    · omega
  rcases h with ⟨h1, h2⟩ | ⟨a, h1, h2, h3, h4, h5⟩
  · refine Or.inl ⟨h1, fun b hb => ?_⟩
    rcases split_hi hb with e | ⟨b', e1, rfl⟩
    · rw [csF_lo e]; exact h2 b e
    · rw [csF_hi e1]; have := no b' e1; omega
  · refine Or.inr ⟨a, by omega, h2, by rw [csF_lo h1]; exact h3, by rw [csF_lo h1]; exact h4, fun b hb he => ?_⟩
    rcases split_hi hb with e | ⟨b', e1, rfl⟩
    · rw [csF_lo e] at he ⊢
      rw [csF_lo h1]
      exact h5 b e he
    · rw [csF_hi e1] at he; have := no b' e1; omega
theorem dp_keep {c w : Nat → Nat} {k s : Nat} {W B W' B' : Int} (hs : c k ≤ s) (h : dpI c w k s W B) (h' : dpI c w k (s - c k) W' B') (hn : W' ≠ -1) (hle : W' + (w k : Int) ≤ W) : dpI c w (k + 1) s W B := by
  have lt : 2 ^ k < 2 ^ (k + 1) := Nat.pow_lt_pow_right (by decide) (by omega)
  rcases h' with ⟨g1, _⟩ | ⟨a', g1, g2, g3, g4, g5⟩
  · exact absurd g1 hn
  rcases h with ⟨h1, h2⟩ | ⟨a, h1, h2, h3, h4, h5⟩
  · omega
  · refine Or.inr ⟨a, by omega, h2, by rw [csF_lo h1]; exact h3, by rw [csF_lo h1]; exact h4, fun b hb he => ?_⟩
    rcases split_hi hb with e | ⟨b', e1, rfl⟩
    · rw [csF_lo e] at he ⊢
      rw [csF_lo h1]
      exact h5 b e he
    · rw [csF_hi e1] at he ⊢
      rw [csF_lo h1]
      rcases g5 b' e1 (by omega) with q | q <;> omega
theorem dp_new {c w : Nat → Nat} {k s : Nat} {W B W' B' : Int} (hs : c k ≤ s) (h : dpI c w k s W B) (h' : dpI c w k (s - c k) W' B') (hn : W' ≠ -1) (hle : ¬ W' + (w k : Int) ≤ W) : dpI c w (k + 1) s (W' + (w k : Int)) ((2 ^ k : Nat) + B') := by
  rcases h' with ⟨g1, _⟩ | ⟨a', g1, g2, g3, g4, g5⟩
  · exact absurd g1 hn
  refine Or.inr ⟨2 ^ k + a', by rw [Nat.pow_succ]; omega, by rw [g2]; omega, by rw [csF_hi g1, g3]; omega, by rw [csF_hi g1, g4]; omega, fun b hb he => ?_⟩
  rw [csF_hi g1]
  rcases split_hi hb with e | ⟨b', e1, rfl⟩
  · rw [csF_lo e] at he ⊢
    rcases h with ⟨_, h2⟩ | ⟨a, h1, h2, h3, h4, h5⟩
    · exact absurd he (h2 b e)
    · rcases h5 b e he with q | q <;> omega
  · rw [csF_hi e1] at he ⊢
    rcases g5 b' e1 (by omega) with q | q <;> omega
def bet (wa ca a wb cb b : Nat) : Prop := wb < wa ∨ (wb = wa ∧ (ca < cb ∨ (ca = cb ∧ a ≤ b)))
def optL (c w : Nat → Nat) (k coin lim a : Nat) : Prop := a < 2 ^ k ∧ csF c a k ≤ coin ∧ ∀ b, b < lim → csF c b k ≤ coin → bet (csF w a k) (csF c a k) a (csF w b k) (csF c b k) b
theorem optL_un {c w : Nat → Nat} {k coin a a' : Nat} (h : optL c w k coin (2 ^ k) a) (h' : optL c w k coin (2 ^ k) a') : a' = a := by
  have x := h.2.2 a' h'.1 h'.2.1
  have y := h'.2.2 a h.1 h.2.1
  unfold bet at x y
  omega
def woJ (v : Int32) : Int32 := if 0 ≤ v then (if v ≤ 99 then v else 99) else 0
theorem woJ_b (v : Int32) : 0 ≤ (woJ v).toInt ∧ (woJ v).toInt ≤ 99 := by
  have f99 : (99 : Int32).toInt = 99 := rfl
  unfold woJ
  split
  · next z =>
    rw [n_le, n_0] at z
    split
    · next y => rw [n_le, f99] at y; omega
    · rw [f99]; omega
  · rw [n_0]; omega
theorem woJ_x (v : Int32) : (if 0 < (if v < 99 then v else 99) then (if v < 99 then v else 99) else 0) = woJ v := by
  have f99 : (99 : Int32).toInt = 99 := rfl
  unfold woJ
  rw [n_eq]
  by_cases a : v < 99
  · rw [if_pos a]
    rw [n_lt, f99] at a
    by_cases b : 0 < v
    · rw [if_pos b]
      rw [n_lt, n_0] at b
      rw [if_pos (by rw [n_le, n_0]; omega), if_pos (by rw [n_le, f99]; omega)]
    · rw [if_neg b]
      rw [n_lt, n_0] at b
      by_cases e : 0 ≤ v
      · rw [if_pos e]
        rw [n_le, n_0] at e
        rw [if_pos (by rw [n_le, f99]; omega), n_0]
        omega
      · rw [if_neg e]
  · rw [if_neg a, if_pos (by decide)]
    rw [n_lt, f99] at a
    rw [if_pos (by rw [n_le, n_0]; omega)]
    split
    · next z => rw [n_le, f99] at z; rw [f99]; omega
    · rfl
def woZ (M : zq_M) (n : Int32) : Int32 := woJ (evV (fct 0 0 n (M 6 n.toNatClampNeg) (M 7 n.toNatClampNeg) (M 8 n.toNatClampNeg)) (tl (M 14) (M 15) (M 13 5).toInt.toNat 2))
theorem woZ_fr {M M' : zq_M} {n : Int32} (hf : fr (fL sL) M M') : woZ M' n = woZ M n := by
  unfold woZ
  rw [fr_ar hf 6 (fun _ => rfl), fr_ar hf 7 (fun _ => rfl), fr_ar hf 8 (fun _ => rfl), fr_ar hf 14 (fun _ => rfl), fr_ar hf 15 (fun _ => rfl), hf 13 5 rfl]
def cF (M : zq_M) (n : Nat) : Nat := 3 + (M 7 n).toInt.toNat
def wF (M : zq_M) (n : Nat) : Nat := (woZ M (nI n)).toInt.toNat
def kF (M : zq_M) : Nat := if (M 5 4).toInt < 12 then (M 5 4).toInt.toNat else 12
theorem cF_fr {M M' : zq_M} (hf : fr (fL sL) M M') : cF M' = cF M := funext fun n => by unfold cF; rw [fr_ar hf 7 (fun _ => rfl)]
theorem wF_fr {M M' : zq_M} (hf : fr (fL sL) M M') : wF M' = wF M := funext fun n => by unfold wF; rw [woZ_fr hf]
theorem kF_fr {M M' : zq_M} (hf : fr (fL sL) M M') : kF M' = kF M := by unfold kF; rw [hf 5 4 rfl]
theorem cF_b {M : zq_M} (hR : R5 M) (n : Nat) : 3 ≤ cF M n ∧ cF M n ≤ 12 ∧ ((cF M n : Nat) : Int) = 3 + (M 7 n).toInt := by
  have := hR.2.1.2.2.2.2.2.2.2.2.1 n
  unfold cF
  omega
theorem wF_b {M : zq_M} (n : Nat) : wF M n ≤ 99 ∧ ((wF M n : Nat) : Int) = (woZ M (nI n)).toInt := by
  have := woJ_b (evV (fct 0 0 (nI n) (M 6 (nI n).toNatClampNeg) (M 7 (nI n).toNatClampNeg) (M 8 (nI n).toNatClampNeg)) (tl (M 14) (M 15) (M 13 5).toInt.toNat 2))
  unfold wF woZ
  omega
theorem bt_tb {v : Int32} {k : Nat} (h0 : 0 ≤ v.toInt) : bt v k = v.toInt.toNat.testBit k := by
  have e : v.toInt = v.toBitVec.toInt := rfl
  have e2 := BitVec.toInt_eq_toNat_cond v.toBitVec
  have lt := v.toBitVec.isLt
  have e3 : v.toInt.toNat = v.toBitVec.toNat := by
    rw [e, e2]
    rw [e, e2] at h0
    split
    · omega
    · next z =>
      rw [if_neg z] at h0
      omega
  rw [e3]
  rfl
theorem or_pow {x : Int32} {k : Nat} (x0 : 0 ≤ x.toInt) (hx : x.toInt < ((2 ^ k : Nat) : Int)) (hk : k < 31) : (x ||| ((1 : Int32) <<< (nI k &&& 31))).toInt = ((2 ^ k : Nat) : Int) + x.toInt := by
  have lt : 2 ^ k < 2 ^ 31 := Nat.pow_lt_pow_right (by decide) hk
  rw [show (2 : Nat) ^ 31 = 2147483648 from rfl] at lt
  have lt2 : 2 ^ k + x.toInt.toNat < 2 ^ (k + 1) := by rw [Nat.pow_succ]; omega
  have le3 : 2 ^ (k + 1) ≤ 2 ^ 31 := Nat.pow_le_pow_right (by decide) (by omega)
  rw [show (2 : Nat) ^ 31 = 2147483648 from rfl] at le3
  have e : x ||| ((1 : Int32) <<< (nI k &&& 31)) = nI (2 ^ k + x.toInt.toNat) := by
    refine b_ext (fun i hi => ?_)
    rw [b_or, bitS (by omega) hi, bt_tb x0, bt_tb (by rw [n_nI (by omega)]; omega), n_nI (by omega)]
    rw [show (((2 ^ k + x.toInt.toNat : Nat) : Int)).toNat = 2 ^ k + x.toInt.toNat by omega]
    by_cases c : i = k
    · subst c
      rw [Nat.testBit_two_pow_add_eq, Nat.testBit_lt_two_pow (show x.toInt.toNat < 2 ^ i by omega), decide_eq_true rfl]
      rfl
    · rw [decide_eq_false c, Bool.or_false]
      by_cases c2 : i < k
      · rw [Nat.testBit_two_pow_add_gt c2]
      · have q1 : 2 ^ (k + 1) ≤ 2 ^ i := Nat.pow_le_pow_right (by decide) (by omega)
        rw [Nat.testBit_lt_two_pow (show x.toInt.toNat < 2 ^ i by omega), Nat.testBit_lt_two_pow (show 2 ^ k + x.toInt.toNat < 2 ^ i by omega)]
  rw [e, n_nI (by omega)]
  omega
theorem c_X4_worthOfLook {g : zq_G} {d : Nat} {M : zq_M} {Q : Option Value → zq_M → Prop} {n : Int32} (hR : R5 M) (c1 : 0 ≤ n.toInt) (c2 : n.toInt < 60) (hq : ∀ M' : zq_M, fr (fL [16, 17]) M M' → Q (some (.int (woZ M n))) M') : mx g (d + 3) kX4_worthOfLook 0 [.ref 24, .int n] [] M Q := by
  have hX := hR.2.2.2.2
  have x5 := hX.2.2.2.2.1
  have x6 := hX.2.2.2.2.2.1
  have nin : vp_in n 60 := n_in c1 c2
  refine mx_go 250 zq_t26 ?_
  show mx g (d + 2) kX8_tellStone 0 [.ref 13, .int (0), .int (0)] [] M _
  refine c_X8_tellStone rfl ?_
  show mx g (d + 2) kX4_tellNightAsIs 0 [.ref 24, .int (n)] [] (zq_ma M 16 (upd (upd (M 16) 0 0) 4 0)) _
  refine c_X4_tellNightAsIs (f := upd (upd (M 16) 0 0) 4 0) rfl nin ?_
  rw [ma_ma]
  show mx g (d + 2) kX8_value 0 [.ref 13, .int (2), .null, .null, .null, .null] [] (zq_ma M 16 (upd (upd (upd (upd (upd (upd (M 16) 0 0) 4 0) 5 n) 1 (M 6 n.toNatClampNeg)) 2 (M 7 n.toNatClampNeg)) 3 (M 8 n.toNatClampNeg))) _
  refine c_X8_value (r := M 13 5) (co := M 14) (en := M 15) (fa := (upd (upd (upd (upd (upd (upd (M 16) 0 0) 4 0) 5 n) 1 (M 6 n.toNatClampNeg)) 2 (M 7 n.toNatClampNeg)) 3 (M 8 n.toNatClampNeg))) hX rfl rfl rfl rfl (by decide) (by decide) (fun N => ?_)
  have ec := evV_congr (t := (M 13 5).toInt.toNat) (p := 2) hX (by omega) (by decide) (told6 (f := M 16) (w := 0) (nu := 0) (ni := n) (wet := M 6 n.toNatClampNeg) (ice := M 7 n.toNatClampNeg) (wi := M 8 n.toNatClampNeg))
  rw [show (Int32.toInt 2).toNat = 2 from rfl, ec]
  generalize hG : mv [17] N (zq_ma M 16 (upd (upd (upd (upd (upd (upd (M 16) 0 0) 4 0) 5 n) 1 (M 6 n.toNatClampNeg)) 2 (M 7 n.toNatClampNeg)) 3 (M 8 n.toNatClampNeg))) = G
  have hfr : fr (fL [16, 17]) M G := by
    rw [← hG]
    exact fr_trans (fr_ma fr_rfl (fun _ => rfl)) (fr_sub fr_of (by decide))
  have good := hq G hfr
  unfold woZ at good
  generalize evV (fct 0 0 n (M 6 n.toNatClampNeg) (M 7 n.toNatClampNeg) (M 8 n.toNatClampNeg)) (tl (M 14) (M 15) (M 13 5).toInt.toNat 2) = v at good ⊢
  show mx g (d + 2) kX11_within 0 [.int (v), .int (0), .int (99)] [] G _
  refine c_X11_within ?_
  rw [woJ_x]
  exact good

theorem c_X1_offer {g : zq_G} {d : Nat} {M : zq_M} {Q : Option Value → zq_M → Prop} {k ck wk : Int32} {kk : Nat} {c w : Nat → Nat} (hk : k = nI kk) (hk2 : kk < 12) (hc : ck.toInt = ((c kk : Nat) : Int)) (c1 : 1 ≤ c kk) (c2 : c kk ≤ 12) (hw : wk.toInt = ((w kk : Nat) : Int)) (wb : ∀ n, w n ≤ 99) (hdp : ∀ s : Nat, s ≤ 99 → dpI c w kk s (M 42 s).toInt (M 43 s).toInt) (hq : ∀ M' : zq_M, fr (fL [42, 43]) M M' → (∀ s : Nat, s ≤ 99 → dpI c w (kk + 1) s (M' 42 s).toInt (M' 43 s).toInt) → Q none M') : mx g d kX1_offer 0 [.ref 41, .int k, .int ck, .int wk, .null, .null] [] M Q := by
  have f99 : (99 : Int32).toInt = 99 := rfl
  have m1 : (-1 : Int32).toInt = -1 := by decide
  have wk2 := wb kk
  refine mx_go 250 zq_t9 ?_
  show mx g (d) kX1_offer 4 [.ref 41, .int (k), .int (ck), .int (wk), .int (99), .null] [] M Q
  refine mx_wf (fun x : Int32 => [.ref 41, .int k, .int ck, .int wk, .int x, .null]) (fun x M' => ck.toInt - 1 ≤ x.toInt ∧ x.toInt ≤ 99 ∧ fr (fL [42, 43]) M M' ∧ (∀ s : Nat, (s : Int) ≤ x.toInt → M' 42 s = M 42 s ∧ M' 43 s = M 43 s) ∧ ∀ s : Nat, x.toInt < s → s ≤ 99 → dpI c w (kk + 1) s (M' 42 s).toInt (M' 43 s).toInt) (fun x => (x.toInt + 1).toNat) ?_ 99 M ⟨by rw [f99]; omega, by decide, fr_rfl, fun s _ => ⟨rfl, rfl⟩, fun s h1 h2 => by rw [f99] at h1; omega⟩
  intro x M' ⟨i1, i2, i3, i4, i5⟩ ih
  refine mx_go 250 zq_t9 ?_
  show ((x : Int32) < (ck : Int32) → Q none M') ∧ (¬ (x : Int32) < (ck : Int32) → vp_in (x - ck) 100 ∧ ((((M' 42) (Int32.toNatClampNeg (x - ck))) : Int32) = ((-1) : Int32) → mx g (d) kX1_offer 4 [.ref 41, .int (k), .int (ck), .int (wk), .int ((x + (-1))), .null] [] M' Q) ∧ (¬ (((M' 42) (Int32.toNatClampNeg (x - ck))) : Int32) = ((-1) : Int32) → vp_in x 100 ∧ (((((M' 42) (Int32.toNatClampNeg (x - ck))) + wk) : Int32) ≤ (((M' 42) (Int32.toNatClampNeg x)) : Int32) → mx g (d) kX1_offer 4 [.ref 41, .int (k), .int (ck), .int (wk), .int ((x + (-1))), .null] [] M' Q) ∧ (¬ ((((M' 42) (Int32.toNatClampNeg (x - ck))) + wk) : Int32) ≤ (((M' 42) (Int32.toNatClampNeg x)) : Int32) → vp_in x 100 ∧ vp_in (x - ck) 100 ∧ vp_in x 100 ∧ mx g (d) kX1_offer 4 [.ref 41, .int (k), .int (ck), .int (wk), .int ((x + (-1))), .null] [] (zq_ma (zq_ma M' 42 (upd (M' 42) (Int32.toNatClampNeg x) (((M' 42) (Int32.toNatClampNeg (x - ck))) + wk))) 43 (upd (M' 43) (Int32.toNatClampNeg x) (((M' 43) (Int32.toNatClampNeg (x - ck))) ||| (1 <<< (k &&& 31))))) Q)))
  refine ⟨fun q => hq M' i3 (fun s hs => ?_), fun q => ?_⟩
  · rw [n_lt] at q
    by_cases e : (s : Int) ≤ x.toInt
    · rw [(i4 s e).1, (i4 s e).2]
      exact dp_low (by omega) (hdp s hs)
    · exact i5 s (by omega) hs
  rw [n_lt] at q
  have dn := n_mi1 (m := x) (by omega)
  have es : (x - ck).toInt = x.toInt - ck.toInt := by rw [n_sub, zw_id (by omega) (by omega)]
  have ea := i4 x.toInt.toNat (by omega)
  have eb := i4 (x.toInt.toNat - c kk) (by omega)
  have d1 := hdp x.toInt.toNat (by omega)
  have d2 := hdp (x.toInt.toNat - c kk) (by omega)
  have xin : vp_in x 100 := n_in (by omega) (by omega)
  have sin : vp_in (x - ck) 100 := n_in (by omega) (by omega)
  have ix : (x - ck).toNatClampNeg = x.toInt.toNat - c kk := by rw [n_cl, es]; omega
  rw [ix, eb.1, show M' 42 x.toNatClampNeg = M 42 x.toInt.toNat from ea.1, eb.2]
  generalize x + (-1) = y at dn ⊢
  have keep : dpI c w (kk + 1) x.toInt.toNat (M 42 x.toInt.toNat).toInt (M 43 x.toInt.toNat).toInt → mx g d kX1_offer 4 [.ref 41, .int k, .int ck, .int wk, .int y, .null] [] M' Q := by
    intro h
    refine ih y M' (by omega) ⟨by omega, by omega, i3, fun s hs => i4 s (by omega), fun s h1 h2 => ?_⟩
    by_cases e : s = x.toInt.toNat
    · subst e
      rw [ea.1, ea.2]
      exact h
    · exact i5 s (by omega) h2
  generalize hW : M 42 x.toInt.toNat = W at d1 keep ⊢
  generalize hB : M 43 x.toInt.toNat = B at d1 keep
  generalize M 42 (x.toInt.toNat - c kk) = W' at d2 ⊢
  generalize M 43 (x.toInt.toNat - c kk) = B' at d2 ⊢
  refine ⟨sin, fun z => keep ?_, fun z => ⟨xin, ?_⟩⟩
  · rw [z, m1] at d2
    exact dp_no (by omega) d1 d2
  have zn : W'.toInt ≠ -1 := fun e => z ((n_eq _ _).mpr (by rw [e, m1]))
  have wbd : 0 ≤ W'.toInt ∧ W'.toInt ≤ 1188 := by
    rcases id d2 with ⟨g1, _⟩ | ⟨a, g1, g2, g3, _⟩
    · exact absurd g1 zn
    · have := csF_b (b := a) wb kk
      have : kk * 99 ≤ 12 * 99 := Nat.mul_le_mul_right 99 (by omega)
      omega
  have bbd : 0 ≤ B'.toInt ∧ B'.toInt < ((2 ^ kk : Nat) : Int) := by
    rcases id d2 with ⟨g1, _⟩ | ⟨a, g1, g2, g3, _⟩
    · exact absurd g1 zn
    · omega
  have ew : (W' + wk).toInt = W'.toInt + ((w kk : Nat) : Int) := by rw [n_add, hw, zw_id (by omega) (by omega)]
  have eo := or_pow bbd.1 bbd.2 (show kk < 31 by omega)
  rw [← hk] at eo
  refine ⟨fun v => keep ?_, fun v => ⟨xin, sin, xin, ?_⟩⟩
  · rw [n_le, ew] at v
    exact dp_keep (by omega) d1 d2 zn v
  rw [n_le, ew] at v
  have dnew := dp_new (by omega) d1 d2 zn v
  rw [← ew, ← eo] at dnew
  refine ih y _ (by omega) ⟨by omega, by omega, fr_ma (fr_ma i3 (fun _ => rfl)) (fun _ => rfl), fun s hs => ?_, fun s h1 h2 => ?_⟩
  · have ne : s ≠ x.toNatClampNeg := by rw [n_cl]; omega
    show upd (M' 42) x.toNatClampNeg _ s = _ ∧ upd (M' 43) x.toNatClampNeg _ s = _
    rw [upd_ne ne, upd_ne ne]
    exact i4 s (by omega)
  · show dpI c w (kk + 1) s (upd (M' 42) x.toNatClampNeg (W' + wk) s).toInt (upd (M' 43) x.toNatClampNeg (B' ||| (1 <<< (k &&& 31))) s).toInt
    by_cases e : s = x.toNatClampNeg
    · rw [e, upd_eq, upd_eq]
      exact dnew
    · rw [upd_ne e, upd_ne e]
      rw [n_cl] at e
      exact i5 s (by omega) h2
theorem dp0 {c w : Nat → Nat} {s : Nat} (h : s ≠ 0) : dpI c w 0 s (-1) 0 := Or.inl ⟨rfl, fun b hb e => h (by unfold csF at e; exact e.symm)⟩
theorem dp00 {c w : Nat → Nat} : dpI c w 0 0 0 0 := Or.inr ⟨0, by decide, rfl, rfl, rfl, fun b hb he => Or.inr ⟨rfl, by omega⟩⟩
/-- the class's best coin -/
theorem c_X1_bestCoin {g : zq_G} {d : Nat} {M : zq_M} {Q : Option Value → zq_M → Prop} {coin : Int32} (hR : R5 M) (k1 : 0 ≤ coin.toInt) (k2 : coin.toInt ≤ 99) (hq : ∀ (M' : zq_M) (r : Int32) (a : Nat), fr (fL sL) M M' → 0 ≤ r.toInt → r.toInt ≤ 99 → optL (cF M) (wF M) (kF M) coin.toInt.toNat (2 ^ kF M) a → r.toInt = ((csF (cF M) a (kF M) : Nat) : Int) → (M' 42 r.toNatClampNeg).toInt = ((csF (wF M) a (kF M) : Nat) : Int) → (M' 43 r.toNatClampNeg).toInt = (a : Int) → Q (some (.int r)) M') : mx g (d + 5) kX1_bestCoin 0 [.ref 41, .int coin, .null, .null] [] M Q := by
  have f99 : (99 : Int32).toInt = 99 := rfl
  have f100 : (100 : Int32).toInt = 100 := rfl
  have f12 : (12 : Int32).toInt = 12 := rfl
  have f3 : (3 : Int32).toInt = 3 := rfl
  have m1 : (-1 : Int32).toInt = -1 := by decide
  have n6 := hR.2.1.2.2.2.2.2.1
  have n7 := hR.2.1.2.2.2.2.2.2.1
  refine mx_go 250 zq_t8 ?_
  show mx g (d + 5) kX1_bestCoin 2 [.ref 41, .int (coin), .int (0), .null] [] M Q
  refine mx_wf (fun x : Int32 => [.ref 41, .int coin, .int x, .null]) (fun x M' => 0 ≤ x.toInt ∧ x.toInt ≤ 100 ∧ fr (fL [42, 43]) M M' ∧ ∀ s : Nat, (s : Int) < x.toInt → dpI (cF M) (wF M) 0 s (M' 42 s).toInt (M' 43 s).toInt) (fun x => (100 - x.toInt).toNat) ?_ 0 M ⟨by decide, by decide, fr_rfl, fun i hi => by rw [n_0] at hi; omega⟩
  intro x M' ⟨i1, i2, i3, i4⟩ ih
  refine mx_go 250 zq_t8 ?_
  show ((99 : Int32) < (x : Int32) → mx g (d + 5) kX1_bestCoin 38 [.ref 41, .int (coin), .int (0), .null] [] M' Q) ∧ (¬ (99 : Int32) < (x : Int32) → (¬ (x : Int32) = 0 → vp_in x 100 ∧ vp_in x 100 ∧ mx g (d + 5) kX1_bestCoin 2 [.ref 41, .int (coin), .int ((x + 1)), .null] [] (zq_ma (zq_ma M' 42 (upd (M' 42) (Int32.toNatClampNeg x) (-1))) 43 (upd (M' 43) (Int32.toNatClampNeg x) 0)) Q) ∧ ((x : Int32) = 0 → vp_in x 100 ∧ vp_in x 100 ∧ mx g (d + 5) kX1_bestCoin 2 [.ref 41, .int (coin), .int ((x + 1)), .null] [] (zq_ma (zq_ma M' 42 (upd (M' 42) (Int32.toNatClampNeg x) 0)) 43 (upd (M' 43) (Int32.toNatClampNeg x) 0)) Q))
  refine ⟨fun q => ?_, fun q => ?_⟩
  rotate_left
  · rw [n_lt, f99] at q
    have up := n_up (n := 100) (x := x) i1 (by omega)
    have xin : vp_in x 100 := n_in i1 (by omega)
    refine ⟨fun z => ⟨xin, xin, ?_⟩, fun z => ⟨xin, xin, ?_⟩⟩
    · refine ih (x + 1) _ (by omega) ⟨by omega, by omega, fr_ma (fr_ma i3 (fun _ => rfl)) (fun _ => rfl), fun s hs => ?_⟩
      show dpI _ _ 0 s (upd (M' 42) x.toNatClampNeg (-1) s).toInt (upd (M' 43) x.toNatClampNeg 0 s).toInt
      by_cases e : s = x.toNatClampNeg
      · rw [e, upd_eq, upd_eq, m1, n_0]
        refine dp0 (fun w => z ?_)
        rw [n_cl] at w
        rw [n_eq, n_0]
        omega
      · rw [upd_ne e, upd_ne e]
        rw [n_cl] at e
        exact i4 s (by omega)
    · refine ih (x + 1) _ (by omega) ⟨by omega, by omega, fr_ma (fr_ma i3 (fun _ => rfl)) (fun _ => rfl), fun s hs => ?_⟩
      show dpI _ _ 0 s (upd (M' 42) x.toNatClampNeg 0 s).toInt (upd (M' 43) x.toNatClampNeg 0 s).toInt
      by_cases e : s = x.toNatClampNeg
      · rw [e, upd_eq, upd_eq, n_0, z]
        exact dp00
      · rw [upd_ne e, upd_ne e]
        rw [n_cl] at e
        exact i4 s (by omega)
  rw [n_lt, f99] at q
  have i5 : ∀ s : Nat, s ≤ 99 → dpI (cF M) (wF M) 0 s (M' 42 s).toInt (M' 43 s).toInt := fun s hs => i4 s (by omega)
  have f0 : fr (fL sL) M M' := fr_sub i3 (by decide)
  clear ih i1 i2 i3 i4 q
  clear x
  have fin : ∀ M2 : zq_M, fr (fL sL) M M2 → (∀ s : Nat, s ≤ 99 → dpI (cF M) (wF M) (kF M) s (M2 42 s).toInt (M2 43 s).toInt) → mx g (d + 5) kX1_bestCoin 89 [.ref 41, .int coin, .int 0, .int 1] [] M2 Q := by
    intro M2 f2 hd
    have w0 : 0 ≤ (M2 42 0).toInt := by
      rcases hd 0 (by omega) with ⟨_, g2⟩ | ⟨a, _, _, g3, _⟩
      · refine absurd ?_ (g2 0 (Nat.two_pow_pos _))
        have : ∀ k, csF (cF M) 0 k = 0 := by
          intro k
          induction k with
          | zero => rfl
          | succ k ih => unfold csF; rw [ih, Nat.zero_testBit]; rfl
        exact this _
      · omega
    refine mx_wf2 (fun b x : Int32 => [.ref 41, .int coin, .int b, .int x]) (fun b x M3 => 1 ≤ x.toInt ∧ x.toInt ≤ coin.toInt + 1 ∧ M3 = M2 ∧ 0 ≤ b.toInt ∧ b.toInt < x.toInt ∧ 0 ≤ (M2 42 b.toInt.toNat).toInt ∧ ∀ s : Nat, (s : Int) < x.toInt → (M2 42 s).toInt ≤ (M2 42 b.toInt.toNat).toInt ∧ ((s : Int) < b.toInt → (M2 42 s).toInt < (M2 42 b.toInt.toNat).toInt)) (fun _ x => (coin.toInt + 1 - x.toInt).toNat) ?_ 0 1 M2 ⟨by decide, by rw [n_1]; omega, rfl, by decide, by decide, w0, fun s hs => by rw [n_1] at hs; rw [n_0, show s = 0 by omega]; exact ⟨Int.le_refl _, fun z => by omega⟩⟩
    intro b x M3 ⟨j1, j2, j3, j4, j5, j6, j7⟩ ih
    subst j3
    refine mx_go 250 zq_t8 ?_
    show ((coin : Int32) < (x : Int32) → Q (some (.int b)) M3) ∧ (¬ (coin : Int32) < (x : Int32) → vp_in x 100 ∧ vp_in b 100 ∧ ((((M3 42) (Int32.toNatClampNeg x)) : Int32) ≤ (((M3 42) (Int32.toNatClampNeg b)) : Int32) → mx g (d + 5) kX1_bestCoin 89 [.ref 41, .int (coin), .int (b), .int ((x + 1))] [] M3 Q) ∧ (¬ (((M3 42) (Int32.toNatClampNeg x)) : Int32) ≤ (((M3 42) (Int32.toNatClampNeg b)) : Int32) → mx g (d + 5) kX1_bestCoin 89 [.ref 41, .int (coin), .int (x), .int ((x + 1))] [] M3 Q))
    refine ⟨fun q => ?_, fun q => ?_⟩
    · rw [n_lt] at q
      rcases hd b.toInt.toNat (by omega) with ⟨g1, _⟩ | ⟨a, g1, g2, g3, g4, g5⟩
      · omega
      refine hq M3 b a f2 j4 (by omega) ⟨g1, by omega, fun b' hb' hc' => ?_⟩ (by omega) g3 g2
      rcases hd (csF (cF M) b' (kF M)) (by omega) with ⟨h1, h2⟩ | ⟨a2, h1, h2, h3, h4, h5⟩
      · exact absurd rfl (h2 b' hb')
      have e7 := j7 (csF (cF M) b' (kF M)) (by omega)
      have e5 := h5 b' hb' rfl
      unfold bet
      by_cases e : csF (cF M) b' (kF M) = b.toInt.toNat
      · rcases g5 b' hb' e with y | y
        · exact Or.inl y
        · exact Or.inr ⟨y.1, Or.inr ⟨by omega, y.2⟩⟩
      · omega
    rw [n_lt] at q
    have up := n_up (n := 100) (x := x) (by omega) (by omega)
    refine ⟨n_in (by omega) (by omega), n_in j4 (by omega), fun z => ?_, fun z => ?_⟩
    · rw [n_le] at z
      refine ih b (x + 1) M3 (by omega) ⟨by omega, by omega, rfl, j4, by omega, j6, fun s hs => ?_⟩
      by_cases e : s = x.toInt.toNat
      · rw [e]; exact ⟨z, fun y => by omega⟩
      · exact j7 s (by omega)
    · rw [n_le] at z
      replace z : ¬ (M3 42 x.toInt.toNat).toInt ≤ (M3 42 b.toInt.toNat).toInt := z
      refine ih x (x + 1) M3 (by omega) ⟨by omega, by omega, rfl, by omega, by omega, by omega, fun s hs => ?_⟩
      by_cases e : s = x.toInt.toNat
      · rw [e]; exact ⟨Int.le_refl _, fun y => by omega⟩
      · have := j7 s (by omega)
        exact ⟨by omega, fun y => by omega⟩
  have hk0 : kF M = if (M 5 4).toInt < 12 then (M 5 4).toInt.toNat else 12 := rfl
  have hk12 : kF M ≤ 12 ∧ ((kF M : Nat) : Int) ≤ (M 5 4).toInt := by rw [hk0]; split <;> omega
  refine mx_wf (fun x : Int32 => [.ref 41, .int coin, .int x, .null]) (fun x M2 => 0 ≤ x.toInt ∧ x.toInt ≤ ((kF M : Nat) : Int) ∧ fr (fL sL) M M2 ∧ ∀ s : Nat, s ≤ 99 → dpI (cF M) (wF M) x.toInt.toNat s (M2 42 s).toInt (M2 43 s).toInt) (fun x => (((kF M : Nat) : Int) - x.toInt).toNat) ?_ 0 M' ⟨by decide, by rw [n_0]; omega, f0, by rw [n_0]; exact i5⟩
  clear i5 f0
  clear M'
  intro x M' ⟨i1, i2, i3, i4⟩ ih
  refine mx_go 250 zq_t8 ?_
  show (((M' 5 4) : Int32) ≤ (x : Int32) → mx g (d + 5) kX1_bestCoin 89 [.ref 41, .int (coin), .int (0), .int (1)] [] M' Q) ∧ (¬ ((M' 5 4) : Int32) ≤ (x : Int32) → ((12 : Int32) ≤ (x : Int32) → mx g (d + 5) kX1_bestCoin 89 [.ref 41, .int (coin), .int (0), .int (1)] [] M' Q) ∧ (¬ (12 : Int32) ≤ (x : Int32) → vp_in x 60 ∧ mx g (d + 4) kX4_worthOfLook 0 [.ref 24, .int (x)] [] M' _))
  rw [i3 5 4 rfl]
  refine ⟨fun q => fin M' i3 ?_, fun q => ⟨fun y => fin M' i3 ?_, fun y => ?_⟩⟩
  · rw [n_le] at q
    rw [show kF M = x.toInt.toNat by omega]
    exact i4
  · rw [n_le, f12] at y
    rw [show kF M = x.toInt.toNat by omega]
    exact i4
  rw [n_le] at q
  rw [n_le, f12] at y
  have xk : x.toInt < ((kF M : Nat) : Int) := by rw [hk0]; split <;> omega
  have up := n_up (n := M 5 4) (x := x) i1 (by omega)
  have hR' := R5_fr i3 hR
  refine ⟨n_in i1 (by omega), ?_⟩
  refine c_X4_worthOfLook hR' i1 (by omega) (fun M2 hf2 => ?_)
  have f2 : fr (fL sL) M M2 := fr_trans i3 (fr_sub hf2 (by decide))
  rw [woZ_fr i3, fr_ar i3 7 (fun _ => rfl)]
  have cb := cF_b hR x.toInt.toNat
  have wb := wF_b (M := M) x.toInt.toNat
  rw [← n_of i1] at wb
  show mx g (d + 4) kX1_offer 0 [.ref 41, .int (x), .int ((3 + M 7 x.toNatClampNeg)), .int ((woZ M x)), .null, .null] [] M2 _
  refine c_X1_offer (c := cF M) (w := wF M) (n_of i1) (by omega) (by rw [n_add, f3, show (M 7 x.toNatClampNeg).toInt = (M 7 x.toInt.toNat).toInt from rfl, zw_id (by omega) (by omega)]; omega) (by omega) (by omega) wb.2.symm (fun n => (wF_b n).1) (fun s hs => by rw [fr_ar hf2 42 (fun _ => rfl), fr_ar hf2 43 (fun _ => rfl)]; exact i4 s hs) (fun M3 f3' hd => ?_)
  show mx g (d + 5) kX1_bestCoin 38 [.ref 41, .int (coin), .int ((x + 1)), .null] [] M3 Q
  refine ih (x + 1) M3 (by omega) ⟨by omega, by omega, fr_trans f2 (fr_sub f3' (by decide)), ?_⟩
  rw [up, show (x.toInt + 1).toNat = x.toInt.toNat + 1 by omega]
  exact hd

def lkR (M : zq_M) (p0 p1 v : Int32) : Prop := ∃ a : Nat, optL (cF M) (wF M) (kF M) p0.toInt.toNat (2 ^ kF M) a ∧ v.toInt = if p1.toInt = 0 then (a : Int) else if p1.toInt = 1 then ((csF (wF M) a (kF M) : Nat) : Int) else ((csF (cF M) a (kF M) : Nat) : Int)
def F_look (p0 p1 : Int32) (M : zq_M) (v : Int32) : Prop := (¬ ((0 ≤ p0.toInt ∧ p0.toInt ≤ 99) ∧ inR p1.toInt 3) → v = -2) ∧ (((0 ≤ p0.toInt ∧ p0.toInt ≤ 99) ∧ inR p1.toInt 3) → lkR M p0 p1 v)
theorem F_look_un {p0 p1 : Int32} {v v' : Int32} {M M' : zq_M} (hf : fr (fL sL) M M') (h : F_look p0 p1 M v) (h' : F_look p0 p1 M' v') : v' = v := by
  unfold F_look lkR at h h'
  rw [cF_fr hf, wF_fr hf, kF_fr hf] at h'
  by_cases c : ((0 ≤ p0.toInt ∧ p0.toInt ≤ 99) ∧ inR p1.toInt 3)
  · obtain ⟨a, a1, a2⟩ := h.2 c
    obtain ⟨b, b1, b2⟩ := h'.2 c
    rw [optL_un a1 b1] at b2
    rw [n_eq, a2, b2]
  · rw [h.1 c, h'.1 c]
theorem x_look {g : zq_G} {d : Nat} {M : zq_M} {Q : Option Value → zq_M → Prop} {p0 p1 : Int32} (hR : RR M) (hq : ∀ (v : Int32) (M' : zq_M), fr (fL sL) M M' → F_look p0 p1 M v → Q (some (.int v)) M') : mx g (d + 6) kX11_look 0 [.ref 0, .int p0, .int p1, .null] [] M Q := by
  have hR5 := RR_5 hR
  have f99 : (99 : Int32).toInt = 99 := rfl
  have f2 : (2 : Int32).toInt = 2 := rfl
  have hbad : ¬ ((0 ≤ p0.toInt ∧ p0.toInt ≤ 99) ∧ inR p1.toInt 3) → Q (some (.int (-2))) M := fun z => hq _ M fr_rfl ⟨fun _ => rfl, fun y => absurd y z⟩
  unfold inR at hbad
  refine mx_go 250 zq_t114 ?_
  show ((p0 : Int32) < 0 → Q (some (.int (-2))) M) ∧ (¬ (p0 : Int32) < 0 → ((99 : Int32) < (p0 : Int32) → Q (some (.int (-2))) M) ∧ (¬ (99 : Int32) < (p0 : Int32) → ((p1 : Int32) < 0 → Q (some (.int (-2))) M) ∧ (¬ (p1 : Int32) < 0 → ((p1 : Int32) ≤ (2 : Int32) → mx g (d + 5) kX1_bestCoin 0 [.ref 41, .int (p0), .null, .null] [] M _) ∧ (¬ (p1 : Int32) ≤ (2 : Int32) → Q (some (.int (-2))) M))))
  refine ⟨fun q => hbad (by rw [n_lt, n_0] at q; omega), fun q => ⟨fun r => hbad (by rw [n_lt, f99] at r; omega), fun r => ⟨fun s => hbad (by rw [n_lt, n_0] at s; omega), fun s => ⟨fun t => ?_, fun t => hbad (by rw [n_le, f2] at t; omega)⟩⟩⟩⟩
  rw [n_lt, n_0] at q s
  rw [n_lt, f99] at r
  rw [n_le, f2] at t
  replace hq := fun v M' hf hv => hq v M' hf ⟨fun w => absurd ⟨⟨by omega, by omega⟩, by unfold inR; omega⟩ w, fun _ => hv⟩
  refine c_X1_bestCoin hR5 (by omega) (by omega) (fun M' e a hf e1 e2 ho g1 g2 g3 => ?_)
  replace hq := fun v hv => hq v M' hf ⟨a, ho, hv⟩
  have ein : vp_in e 100 := n_in e1 (by omega)
  show (¬ (p1 : Int32) = 0 → (¬ (p1 : Int32) = (1 : Int32) → Q (some (.int e)) M') ∧ ((p1 : Int32) = (1 : Int32) → vp_in e 100 ∧ Q (some (.int ((M' 42) (Int32.toNatClampNeg e)))) M')) ∧ ((p1 : Int32) = 0 → vp_in e 100 ∧ Q (some (.int ((M' 43) (Int32.toNatClampNeg e)))) M')
  refine ⟨fun z => ⟨fun y => hq _ ?_, fun y => ⟨ein, hq _ ?_⟩⟩, fun z => ⟨ein, hq _ ?_⟩⟩
  · rw [n_eq, n_0] at z
    rw [n_eq, n_1] at y
    rw [if_neg z, if_neg y]
    exact g1
  · rw [n_eq, n_0] at z
    rw [n_eq, n_1] at y
    rw [if_neg z, if_pos y]
    exact g2
  · rw [n_eq, n_0] at z
    rw [if_pos z]
    exact g3

