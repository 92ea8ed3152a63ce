/-! a run -/
abbrev WS : Type := (Nat → Int32) × (Nat → Int32) × (Nat → Int32) × (Nat → Int32)
def nZ (z : Int) : Int32 := Int32.ofInt z
theorem nZ_z (z : Int) : (nZ z).toInt = zw z := by
  unfold nZ
  rw [Int32.toInt_ofInt]
  exact n_bm z
theorem nZ_t {z : Int} (h1 : -2147483648 ≤ z) (h2 : z < 2147483648) : (nZ z).toInt = z := by rw [nZ_z, zw_id h1 h2]
theorem nZ_of (x : Int32) : nZ x.toInt = x := by
  have := n_rng x
  rw [n_eq, nZ_t this.1 this.2]
theorem nZ_add (x y : Int32) : x + y = nZ (x.toInt + y.toInt) := by rw [n_eq, n_add, nZ_z]
theorem nZ_up (z : Int) : nZ z + 1 = nZ (z + 1) := by
  rw [n_eq, n_add, nZ_z, nZ_z, n_1]
  unfold zw
  omega
theorem nZ_mad (x y z : Int32) : x + y * z = nZ (x.toInt + y.toInt * z.toInt) := by
  rw [n_eq, n_add, n_mul, nZ_z]
  generalize y.toInt * z.toInt = t
  unfold zw
  omega
theorem upd_self {f : Nat → Int32} {k : Nat} : upd f k (f k) = f := by
  funext j
  unfold upd
  split
  · next h => rw [h]
  · rfl
theorem upd_upd {f : Nat → Int32} {k : Nat} {v w : Int32} : upd (upd f k v) k w = upd f k w := by
  funext j
  unfold upd
  split <;> rfl
def gon (v r : Int) : Int := if v ≤ r then v else r
/-- stone s goes r squares by way w -/
def gS2 (w : Int32) (r : Int) (s : Nat) (W : WS) : WS := if r = 0 then W else (upd W.1 s (nZ ((W.1 s).toInt + r * strd w.toInt)), upd W.2.1 s (nZ ((W.2.1 s).toInt + r)), (if W.2.2.2 s = -1 ∨ W.2.2.2 s = w then W.2.2.1 else upd W.2.2.1 s (W.2.2.1 s + 1)), upd W.2.2.2 s w)
def gS1 (M : zq_M) (h n : Int32) (s : Nat) (W : WS) : WS := gS2 (wayZ (M 11 h.toNatClampNeg) (M 9 n.toNatClampNeg)) (gon (sq M h (nI s) n (M 8 n.toNatClampNeg)).toInt (rmK W.1 (W.1 s).toInt (wayZ (M 11 h.toNatClampNeg) (M 9 n.toNatClampNeg)).toInt (M 1 3).toInt.toNat)) s W
def gN1 (M : zq_M) (h n : Int32) : Nat → WS → WS
  | 0, W => W
  | k + 1, W => gS1 M h n k (gN1 M h n k W)
/-- k nights from night a on -/
def gR (M : zq_M) (p : Nat → Int32) (h : Int32) (a : Nat) : Nat → WS
  | 0 => (p, fun _ => 0, fun _ => 0, fun _ => -1)
  | k + 1 => gN1 M h (nI (a + k)) (M 1 3).toInt.toNat (gR M p h a k)
abbrev arX (M : zq_M) : WS := (M 26, M 27, M 28, M 29)
abbrev arM (M : zq_M) : WS := (M 63, M 64, M 65, M 66)
def eqW (n : Int) (W V : WS) : Prop := ∀ i : Nat, (i : Int) < n → W.1 i = V.1 i ∧ W.2.1 i = V.2.1 i ∧ W.2.2.1 i = V.2.2.1 i ∧ W.2.2.2 i = V.2.2.2 i
def bS (K s i : Nat) : Nat := if i < s then K + 1 else K
theorem bS_b (K s i : Nat) : K ≤ bS K s i ∧ bS K s i ≤ K + 1 := by unfold bS; split <;> omega
theorem bS_s (K s : Nat) : bS K s s = K ∧ bS K (s + 1) s = K + 1 := by
  unfold bS
  rw [if_neg (by omega), if_pos (by omega)]
  exact ⟨rfl, rfl⟩
theorem bS_n {K s i : Nat} (h : i ≠ s) : bS K (s + 1) i = bS K s i := by
  unfold bS
  by_cases c : i < s
  · rw [if_pos c, if_pos (by omega)]
  · rw [if_neg c, if_neg (by omega)]
theorem bS_0 (K i : Nat) : bS K 0 i = K := by unfold bS; rw [if_neg (by omega)]
theorem bS_l {K s i : Nat} (h : i < s) : bS K s i = K + 1 := by unfold bS; rw [if_pos h]
def okW (n : Int) (B : Nat → Nat) (W : WS) : Prop := ∀ i : Nat, (i : Int) < n → (0 ≤ (W.1 i).toInt ∧ (W.1 i).toInt ≤ 4095) ∧ -1 ≤ (W.2.2.2 i).toInt ∧ (0 ≤ (W.2.1 i).toInt ∧ (W.2.1 i).toInt ≤ 63 * (B i : Int)) ∧ 0 ≤ (W.2.2.1 i).toInt ∧ (W.2.2.1 i).toInt ≤ (B i : Int)
theorem gon_b {v r : Int} (h1 : 0 ≤ v) (h2 : 0 ≤ r) : 0 ≤ gon v r ∧ gon v r ≤ v ∧ gon v r ≤ r ∧ (gon v r = v ∨ gon v r = r) := by
  unfold gon
  split <;> omega
theorem gS1_fr {M M' : zq_M} {h n : Int32} {s : Nat} {W : WS} (hf : fr (fL sL) M M') : gS1 M' h n s W = gS1 M h n s W := by
  unfold gS1
  rw [sq_fr hf, fr_ar hf 11 (fun _ => rfl), fr_ar hf 9 (fun _ => rfl), fr_ar hf 8 (fun _ => rfl), hf 1 3 rfl]
theorem gN1_fr {M M' : zq_M} {h n : Int32} {W : WS} (hf : fr (fL sL) M M') : ∀ k : Nat, gN1 M' h n k W = gN1 M h n k W
  | 0 => rfl
  | k + 1 => by
    unfold gN1
    rw [gN1_fr hf k, gS1_fr hf]
theorem gR_fr {M M' : zq_M} {p : Nat → Int32} {h : Int32} {a : Nat} (hf : fr (fL sL) M M') : ∀ k : Nat, gR M' p h a k = gR M p h a k
  | 0 => rfl
  | k + 1 => by
    unfold gR
    rw [gR_fr hf k, gN1_fr hf, hf 1 3 rfl]
theorem gS1_eq {M : zq_M} {h n : Int32} {s : Nat} {W V : WS} (hs : (s : Int) < (M 1 3).toInt) (e : eqW (M 1 3).toInt W V) : eqW (M 1 3).toInt (gS1 M h n s W) (gS1 M h n s V) := by
  unfold gS1
  have e1 := e s hs
  rw [e1.1, rmK_congr (M 1 3).toInt.toNat (on := W.1) (on' := V.1) (fun i hi => (e i (by omega)).1)]
  generalize gon (sq M h (nI s) n (M 8 n.toNatClampNeg)).toInt (rmK V.1 (V.1 s).toInt (wayZ (M 11 h.toNatClampNeg) (M 9 n.toNatClampNeg)).toInt (M 1 3).toInt.toNat) = r
  generalize wayZ (M 11 h.toNatClampNeg) (M 9 n.toNatClampNeg) = w
  unfold gS2
  split
  · exact e
  · intro i hi
    have ei := e i hi
    rw [e1.1, e1.2.1, e1.2.2.1, e1.2.2.2]
    by_cases c : i = s
    · subst c
      refine ⟨by simp only [upd_eq], by simp only [upd_eq], ?_, by simp only [upd_eq]⟩
      show (if V.2.2.2 i = -1 ∨ V.2.2.2 i = w then W.2.2.1 else upd W.2.2.1 i (V.2.2.1 i + 1)) i = (if V.2.2.2 i = -1 ∨ V.2.2.2 i = w then V.2.2.1 else upd V.2.2.1 i (V.2.2.1 i + 1)) i
      split
      · exact e1.2.2.1
      · rw [upd_eq, upd_eq]
    · refine ⟨by simp only [upd_ne c]; exact ei.1, by simp only [upd_ne c]; exact ei.2.1, ?_, by simp only [upd_ne c]; exact ei.2.2.2⟩
      show (if V.2.2.2 s = -1 ∨ V.2.2.2 s = w then W.2.2.1 else upd W.2.2.1 s (V.2.2.1 s + 1)) i = (if V.2.2.2 s = -1 ∨ V.2.2.2 s = w then V.2.2.1 else upd V.2.2.1 s (V.2.2.1 s + 1)) i
      split
      · exact ei.2.2.1
      · rw [upd_ne c, upd_ne c]; exact ei.2.2.1
theorem okS {M : zq_M} {h n : Int32} {s K : Nat} {W : WS} {p : Nat → Int32} (hR : R5p M p) (hs : (s : Int) < (M 1 3).toInt) (hK : K ≤ 60) (e : okW (M 1 3).toInt (bS K s) W) : okW (M 1 3).toInt (bS K (s + 1)) (gS1 M h n s W) := by
  obtain ⟨hS, hN, hH, hT, hX⟩ := id hR
  have hw := hN.2.2.2.2.2.2.2.2.2.1 n.toNatClampNeg
  have hwy := wayZ_b (k := M 11 h.toNatClampNeg) (hN.2.2.2.2.2.2.2.2.2.2 n.toNatClampNeg)
  have sb := sq_b (h := h) (s := nI s) (n := n) hR hw.1 hw.2
  have es := e s hs
  have rk := rm_ok (on := W.1) (p := (W.1 s).toInt) hwy.1 hwy.2 es.1.1 es.1.2 (M 1 3).toInt.toNat (fun i hi => (e i (by omega)).1)
  have eb := edg_b hwy.1 hwy.2 es.1.1 es.1.2
  unfold gS1
  generalize (sq M h (nI s) n (M 8 n.toNatClampNeg)) = v at sb ⊢
  generalize wayZ (M 11 h.toNatClampNeg) (M 9 n.toNatClampNeg) = w at hwy rk eb ⊢
  have gb := gon_b sb.1 rk.1
  have rk2 := rk.2.1
  generalize rmK W.1 (W.1 s).toInt w.toInt (M 1 3).toInt.toNat = rm at gb rk2 ⊢
  generalize gon v.toInt rm = r at gb ⊢
  have pb := pos_b hwy.1 hwy.2 es.1.1 es.1.2 gb.1 (by omega)
  have b1 := (bS_s K s).1
  have b2 := (bS_s K s).2
  rw [b1] at es
  unfold gS2
  by_cases c : r = 0
  · rw [if_pos c]
    intro i hi
    by_cases c2 : i = s
    · subst c2
      rw [b2]
      exact ⟨es.1, es.2.1, ⟨es.2.2.1.1, by omega⟩, es.2.2.2.1, by omega⟩
    · rw [bS_n c2]
      exact e i hi
  · rw [if_neg c]
    intro i hi
    by_cases c2 : i = s
    · subst c2
      rw [b2]
      refine ⟨?_, ?_, ?_, ?_⟩
      · show 0 ≤ (upd W.1 i _ i).toInt ∧ (upd W.1 i _ i).toInt ≤ 4095
        rw [upd_eq, nZ_t (by omega) (by omega)]
        exact ⟨pb.1, pb.2.1⟩
      · show -1 ≤ (upd W.2.2.2 i w i).toInt
        rw [upd_eq]
        omega
      · show 0 ≤ (upd W.2.1 i _ i).toInt ∧ (upd W.2.1 i _ i).toInt ≤ _
        rw [upd_eq, nZ_t (by omega) (by omega)]
        omega
      · show 0 ≤ ((if W.2.2.2 i = -1 ∨ W.2.2.2 i = w then W.2.2.1 else upd W.2.2.1 i (W.2.2.1 i + 1)) i).toInt ∧ ((if W.2.2.2 i = -1 ∨ W.2.2.2 i = w then W.2.2.1 else upd W.2.2.1 i (W.2.2.1 i + 1)) i).toInt ≤ _
        have t1 := es.2.2.2
        split
        · omega
        · rw [upd_eq, n_add, n_1, zw_id (by omega) (by omega)]
          omega
    · rw [bS_n c2]
      have ei := e i hi
      refine ⟨?_, ?_, ?_, ?_⟩
      · show 0 ≤ (upd W.1 s _ i).toInt ∧ (upd W.1 s _ i).toInt ≤ 4095
        rw [upd_ne c2]
        exact ei.1
      · show -1 ≤ (upd W.2.2.2 s w i).toInt
        rw [upd_ne c2]
        exact ei.2.1
      · show 0 ≤ (upd W.2.1 s _ i).toInt ∧ (upd W.2.1 s _ i).toInt ≤ _
        rw [upd_ne c2]
        exact ei.2.2.1
      · show 0 ≤ ((if W.2.2.2 s = -1 ∨ W.2.2.2 s = w then W.2.2.1 else upd W.2.2.1 s (W.2.2.1 s + 1)) i).toInt ∧ ((if W.2.2.2 s = -1 ∨ W.2.2.2 s = w then W.2.2.1 else upd W.2.2.1 s (W.2.2.1 s + 1)) i).toInt ≤ _
        split
        · exact ei.2.2.2
        · rw [upd_ne c2]
          exact ei.2.2.2
theorem okN {M : zq_M} {h n : Int32} {K : Nat} {W : WS} {p : Nat → Int32} (hR : R5p M p) (hK : K ≤ 60) (e : okW (M 1 3).toInt (bS K 0) W) : ∀ k : Nat, (k : Int) ≤ (M 1 3).toInt → okW (M 1 3).toInt (bS K k) (gN1 M h n k W)
  | 0, _ => e
  | k + 1, hk => by
    unfold gN1
    exact okS hR (by omega) hK (okN hR hK e k (by omega))
theorem okR {M : zq_M} {p : Nat → Int32} {h : Int32} {a : Nat} (hR : R5p M p) : ∀ k : Nat, k ≤ 61 → okW (M 1 3).toInt (bS k 0) (gR M p h a k)
  | 0, _ => by
    obtain ⟨hS, hN, hH, hT, hX⟩ := id hR
    intro i hi
    exact ⟨hS.2.2.2.2.2.2.1 i, by show -1 ≤ (-1 : Int32).toInt; decide, ⟨by show 0 ≤ (0 : Int32).toInt; decide, by show (0 : Int32).toInt ≤ _; rw [n_0]; omega⟩, by show 0 ≤ (0 : Int32).toInt; decide, by show (0 : Int32).toInt ≤ _; rw [n_0]; omega⟩
  | k + 1, hk => by
    obtain ⟨hS, hN, hH, hT, hX⟩ := id hR
    have s4 := hS.2.2.2.1
    unfold gR
    intro i hi
    have := okN (h := h) (n := nI (a + k)) hR (by omega) (okR (h := h) (a := a) hR k (by omega)) (M 1 3).toInt.toNat (by omega) i hi
    rw [bS_l (by omega)] at this
    rw [bS_0]
    exact this
theorem okW_eq {n : Int} {B : Nat → Nat} {W V : WS} (e : eqW n W V) (h : okW n B V) : okW n B W := by
  intro i hi
  have ei := e i hi
  rw [ei.1, ei.2.1, ei.2.2.1, ei.2.2.2]
  exact h i hi
theorem strd_rf {g : zq_G} {w : Int32} (w1 : 0 ≤ w.toInt) (w2 : w.toInt ≤ 3) : (zq_rf g 2 w.toNatClampNeg).toInt = strd w.toInt := by
  rcases w_cases w1 w2 with e | e | e | e
  · obtain rfl : w = 0 := (n_eq _ _).mpr e
    rfl
  · obtain rfl : w = 1 := (n_eq _ _).mpr e
    rfl
  · obtain rfl : w = 2 := (n_eq _ _).mpr e
    rfl
  · obtain rfl : w = 3 := (n_eq _ _).mpr e
    rfl
theorem n_sn {s : Int32} (h : 0 ≤ s.toInt) : nI s.toNatClampNeg = s := by rw [n_cl]; exact (n_of h).symm
theorem c_X10_goOne {g : zq_G} {d : Nat} {M : zq_M} {Q : Option Value → zq_M → Prop} {h s n : Int32} (hR : R5 M) (a1 : 0 ≤ h.toInt) (a2 : h.toInt < 8) (b1 : 0 ≤ s.toInt) (b2 : s.toInt < (M 1 3).toInt) (c1 : 0 ≤ n.toInt) (c2 : n.toInt < 60) (hat : ∀ i : Nat, (i : Int) < (M 1 3).toInt → 0 ≤ (M 26 i).toInt ∧ (M 26 i).toInt ≤ 4095) (hq : ∀ M' : zq_M, fr (fL [16, 17, 26, 27, 28, 29]) M M' → arX M' = gS1 M h n s.toNatClampNeg (arX M) → Q none M') : mx g (d + 4) kX10_goOneNight 0 [.ref 25, .int h, .int s, .int n, .null, .null, .null] [] M Q := by
  obtain ⟨hS, hN, hH, hT, hX⟩ := id hR
  have hw := hN.2.2.2.2.2.2.2.2.2.1 n.toNatClampNeg
  have hwy := wayZ_b (k := M 11 h.toNatClampNeg) (hN.2.2.2.2.2.2.2.2.2.2 n.toNatClampNeg)
  have sb := sq_b (h := h) (s := s) (n := n) hR hw.1 hw.2
  have s4 := hS.2.2.2.1
  have s5 := hS.2.2.2.2.1
  have nin : vp_in n 60 := n_in c1 c2
  have sin : vp_in s 10 := n_in b1 (by omega)
  have win : vp_in (wayZ (M 11 h.toNatClampNeg) (M 9 n.toNatClampNeg)) 4 := n_in hwy.1 (by omega)
  have hp := hat s.toNatClampNeg (by rw [n_cl]; omega)
  have rk := rm_ok (on := M 26) (p := (M 26 s.toNatClampNeg).toInt) hwy.1 hwy.2 hp.1 hp.2 (M 1 3).toInt.toNat (fun i hi => hat i (by omega))
  replace hq : ∀ M' : zq_M, fr (fL [16, 17, 26, 27, 28, 29]) M M' → arX M' = gS2 (wayZ (M 11 h.toNatClampNeg) (M 9 n.toNatClampNeg)) (gon (sq M h (nI s.toNatClampNeg) n (M 8 n.toNatClampNeg)).toInt (rmK (M 26) (M 26 s.toNatClampNeg).toInt (wayZ (M 11 h.toNatClampNeg) (M 9 n.toNatClampNeg)).toInt (M 1 3).toInt.toNat)) s.toNatClampNeg (arX M) → Q none M' := hq
  rw [n_sn b1] at hq
  refine mx_go 250 zq_t88 ?_
  show vp_in n 60 ∧ mx g (d + 3) kX4_squares 0 [.ref 24, .int (h), .int (s), .int (n), .int (((M 8) (Int32.toNatClampNeg n))), .null, .null] [] M _
  refine ⟨nin, ?_⟩
  refine c_X4_squares hR a1 a2 b1 (by omega) c1 c2 (fun N => ?_)
  generalize sq M h s n (M 8 n.toNatClampNeg) = v at sb hq ⊢
  have hf : fr (fL [16, 17]) M (mv [16, 17] N M) := fr_of
  generalize mv [16, 17] N M = M1 at hf ⊢
  have e13 := hf 1 3 rfl
  have e9 := fr_ar hf 9 (fun _ => rfl)
  have e11 := fr_ar hf 11 (fun _ => rfl)
  have e26 := fr_ar hf 26 (fun _ => rfl)
  have e27 := fr_ar hf 27 (fun _ => rfl)
  have e28 := fr_ar hf 28 (fun _ => rfl)
  have e29 := fr_ar hf 29 (fun _ => rfl)
  have hf6 : fr (fL [16, 17, 26, 27, 28, 29]) M M1 := fr_sub hf (by decide)
  have ex : arX M1 = arX M := by show (M1 26, M1 27, M1 28, M1 29) = _; rw [e26, e27, e28, e29]
  show (¬ (v : Int32) = 0 → vp_in n 60 ∧ mx g (d + 3) kX0_wayOf 0 [.ref 10, .int (h), .int (((M1 9) (Int32.toNatClampNeg n)))] [] M1 _) ∧ ((v : Int32) = 0 → Q none M1)
  rw [e9]
  refine ⟨fun q => ⟨nin, ?_⟩, fun q => hq M1 hf6 ?_⟩
  rotate_left
  · rw [n_eq, n_0] at q
    have gb := gon_b sb.1 rk.1
    unfold gS2
    rw [if_pos (by omega), ex]
  rw [n_eq, n_0] at q
  refine c_X0_wayOf (k := M 11 h.toNatClampNeg) (by rw [e11]) a1 a2 ?_
  generalize wayZ (M 11 h.toNatClampNeg) (M 9 n.toNatClampNeg) = w at hwy win rk hq ⊢
  show mx g (d + 3) kX7_roomAhead 0 [.ref 1, .ref 26, .int (s), .int (w), .null, .null, .null, .null, .null, .null] [] M1 _
  refine c_room26 (n := M 1 3) (on := M 26) e13 e26 s4 s5 b1 b2 hat hwy.1 hwy.2 (fun R hR2 => ?_)
  show (¬ ((if R < v then R else v) : Int32) = 0 → vp_in s 10 ∧ vp_in w 4 ∧ vp_in s 10 ∧ vp_in s 10 ∧ vp_in s 10 ∧ vp_in s 10 ∧ ((((M1 29) (Int32.toNatClampNeg s)) : Int32) = ((-1) : Int32) → vp_in s 10 ∧ Q none (zq_ma (zq_ma (zq_ma M1 26 (upd (M1 26) (Int32.toNatClampNeg s) (((M1 26) (Int32.toNatClampNeg s)) + ((if R < v then R else v) * (zq_rf g 2 (Int32.toNatClampNeg w)))))) 27 (upd (M1 27) (Int32.toNatClampNeg s) (((M1 27) (Int32.toNatClampNeg s)) + (if R < v then R else v)))) 29 (upd (M1 29) (Int32.toNatClampNeg s) w))) ∧ (¬ (((M1 29) (Int32.toNatClampNeg s)) : Int32) = ((-1) : Int32) → vp_in s 10 ∧ ((((M1 29) (Int32.toNatClampNeg s)) : Int32) = (w : Int32) → vp_in s 10 ∧ Q none (zq_ma (zq_ma (zq_ma M1 26 (upd (M1 26) (Int32.toNatClampNeg s) (((M1 26) (Int32.toNatClampNeg s)) + ((if R < v then R else v) * (zq_rf g 2 (Int32.toNatClampNeg w)))))) 27 (upd (M1 27) (Int32.toNatClampNeg s) (((M1 27) (Int32.toNatClampNeg s)) + (if R < v then R else v)))) 29 (upd (M1 29) (Int32.toNatClampNeg s) w))) ∧ (¬ (((M1 29) (Int32.toNatClampNeg s)) : Int32) = (w : Int32) → vp_in s 10 ∧ vp_in s 10 ∧ vp_in s 10 ∧ Q none (zq_ma (zq_ma (zq_ma (zq_ma M1 26 (upd (M1 26) (Int32.toNatClampNeg s) (((M1 26) (Int32.toNatClampNeg s)) + ((if R < v then R else v) * (zq_rf g 2 (Int32.toNatClampNeg w)))))) 27 (upd (M1 27) (Int32.toNatClampNeg s) (((M1 27) (Int32.toNatClampNeg s)) + (if R < v then R else v)))) 28 (upd (M1 28) (Int32.toNatClampNeg s) (((M1 28) (Int32.toNatClampNeg s)) + 1))) 29 (upd (M1 29) (Int32.toNatClampNeg s) w))))) ∧ (((if R < v then R else v) : Int32) = 0 → Q none M1)
  rw [← hR2] at hq rk
  have eG : (if R < v then R else v).toInt = gon v.toInt R.toInt := by
    unfold gon
    split
    · next z => rw [n_lt] at z; rw [if_neg (by omega)]
    · next z => rw [n_lt] at z; rw [if_pos (by omega)]
  generalize (if R < v then R else v) = G at eG ⊢
  rw [← eG] at hq
  have est := strd_rf (g := g) hwy.1 hwy.2
  rw [e26, e27, e28, e29]
  refine ⟨fun q2 => ⟨sin, win, sin, sin, sin, sin, fun r => ⟨sin, ?_⟩, fun r => ⟨sin, fun t => ⟨sin, ?_⟩, fun t => ⟨sin, sin, sin, ?_⟩⟩⟩, fun q2 => hq M1 hf6 ?_⟩
  · rw [n_eq, n_0] at q2
    refine hq _ (fr_ma (fr_ma (fr_ma hf6 (fun _ => rfl)) (fun _ => rfl)) (fun _ => rfl)) ?_
    unfold gS2
    rw [if_neg q2, if_pos (Or.inl r), ← est, ← nZ_mad, ← nZ_add]
    show (_, _, M1 28, _) = _
    rw [e28]
    rfl
  · rw [n_eq, n_0] at q2
    refine hq _ (fr_ma (fr_ma (fr_ma hf6 (fun _ => rfl)) (fun _ => rfl)) (fun _ => rfl)) ?_
    unfold gS2
    rw [if_neg q2, if_pos (Or.inr t), ← est, ← nZ_mad, ← nZ_add]
    show (_, _, M1 28, _) = _
    rw [e28]
    rfl
  · rw [n_eq, n_0] at q2
    refine hq _ (fr_ma (fr_ma (fr_ma (fr_ma hf6 (fun _ => rfl)) (fun _ => rfl)) (fun _ => rfl)) (fun _ => rfl)) ?_
    unfold gS2
    rw [if_neg q2, if_neg (fun z => z.elim r t), ← est, ← nZ_mad, ← nZ_add]
    rfl
  · rw [n_eq, n_0] at q2
    unfold gS2
    rw [if_pos q2, ex]
