/-! room ahead of a stone -/
def edg (p w : Int) : Int := if w = 0 then 63 - p % 64 else if w = 1 then 63 - p / 64 else if w = 2 then p % 64 else p / 64
def strd (w : Int) : Int := if w = 0 then 1 else if w = 1 then 64 else if w = 2 then -1 else -64
def dis (q p w : Int) : Int := if w = 0 then (if q / 64 = p / 64 then q % 64 - p % 64 else 0) else if w = 1 then (if q % 64 = p % 64 then q / 64 - p / 64 else 0) else if w = 2 then (if q / 64 = p / 64 then p % 64 - q % 64 else 0) else (if q % 64 = p % 64 then p / 64 - q / 64 else 0)
def rmK (on : Nat → Int32) (p w : Int) : Nat → Int
  | 0 => edg p w
  | k + 1 => if 1 ≤ dis (on k).toInt p w ∧ dis (on k).toInt p w ≤ rmK on p w k then dis (on k).toInt p w - 1 else rmK on p w k
theorem w_cases {w : Int} (h1 : 0 ≤ w) (h2 : w ≤ 3) : w = 0 ∨ w = 1 ∨ w = 2 ∨ w = 3 := by omega
theorem dis_0 (q p : Int) : dis q p 0 = if q / 64 = p / 64 then q % 64 - p % 64 else 0 := rfl
theorem dis_1 (q p : Int) : dis q p 1 = if q % 64 = p % 64 then q / 64 - p / 64 else 0 := rfl
theorem dis_2 (q p : Int) : dis q p 2 = if q / 64 = p / 64 then p % 64 - q % 64 else 0 := rfl
theorem dis_3 (q p : Int) : dis q p 3 = if q % 64 = p % 64 then p / 64 - q / 64 else 0 := rfl
theorem edg_0 (p : Int) : edg p 0 = 63 - p % 64 := rfl
theorem edg_1 (p : Int) : edg p 1 = 63 - p / 64 := rfl
theorem edg_2 (p : Int) : edg p 2 = p % 64 := rfl
theorem edg_3 (p : Int) : edg p 3 = p / 64 := rfl
theorem strd_0 : strd 0 = 1 := rfl
theorem strd_1 : strd 1 = 64 := rfl
theorem strd_2 : strd 2 = -1 := rfl
theorem strd_3 : strd 3 = -64 := rfl
theorem dis_to {q p w a : Int} (hw1 : 0 ≤ w) (hw2 : w ≤ 3) (p1 : 0 ≤ p) (p2 : p ≤ 4095) (a1 : 1 ≤ a) (a2 : a ≤ edg p w) (h : q = p + a * strd w) : dis q p w = a := by
  rcases w_cases hw1 hw2 with rfl | rfl | rfl | rfl
  · rw [strd_0] at h; rw [edg_0] at a2; rw [dis_0, if_pos (by omega)]; omega
  · rw [strd_1] at h; rw [edg_1] at a2; rw [dis_1, if_pos (by omega)]; omega
  · rw [strd_2] at h; rw [edg_2] at a2; rw [dis_2, if_pos (by omega)]; omega
  · rw [strd_3] at h; rw [edg_3] at a2; rw [dis_3, if_pos (by omega)]; omega
theorem dis_of {q p w : Int} (hw1 : 0 ≤ w) (hw2 : w ≤ 3) (p1 : 0 ≤ p) (p2 : p ≤ 4095) (q1 : 0 ≤ q) (q2 : q ≤ 4095) (a1 : 1 ≤ dis q p w) : q = p + dis q p w * strd w := by
  rcases w_cases hw1 hw2 with rfl | rfl | rfl | rfl
  · rw [dis_0] at a1 ⊢; rw [strd_0]; split at a1
    · next c => rw [if_pos c]; omega
    · omega
  · rw [dis_1] at a1 ⊢; rw [strd_1]; split at a1
    · next c => rw [if_pos c]; omega
    · omega
  · rw [dis_2] at a1 ⊢; rw [strd_2]; split at a1
    · next c => rw [if_pos c]; omega
    · omega
  · rw [dis_3] at a1 ⊢; rw [strd_3]; split at a1
    · next c => rw [if_pos c]; omega
    · omega
theorem edg_b {p w : Int} (hw1 : 0 ≤ w) (hw2 : w ≤ 3) (p1 : 0 ≤ p) (p2 : p ≤ 4095) : 0 ≤ edg p w ∧ edg p w ≤ 63 := by
  rcases w_cases hw1 hw2 with rfl | rfl | rfl | rfl
  · rw [edg_0]; omega
  · rw [edg_1]; omega
  · rw [edg_2]; omega
  · rw [edg_3]; omega
theorem pos_b {p w j : Int} (hw1 : 0 ≤ w) (hw2 : w ≤ 3) (p1 : 0 ≤ p) (p2 : p ≤ 4095) (j1 : 0 ≤ j) (j2 : j ≤ edg p w) : 0 ≤ p + j * strd w ∧ p + j * strd w ≤ 4095 ∧ edg (p + j * strd w) w = edg p w - j := by
  rcases w_cases hw1 hw2 with rfl | rfl | rfl | rfl
  · rw [edg_0] at j2; rw [edg_0, edg_0, strd_0]; omega
  · rw [edg_1] at j2; rw [edg_1, edg_1, strd_1]; omega
  · rw [edg_2] at j2; rw [edg_2, edg_2, strd_2]; omega
  · rw [edg_3] at j2; rw [edg_3, edg_3, strd_3]; omega
theorem strd_inj {w a b : Int} (hw1 : 0 ≤ w) (hw2 : w ≤ 3) (h : a * strd w = b * strd w) : a = b := by
  rcases w_cases hw1 hw2 with rfl | rfl | rfl | rfl
  · rw [strd_0] at h; omega
  · rw [strd_1] at h; omega
  · rw [strd_2] at h; omega
  · rw [strd_3] at h; omega
/-- what the room is: so many squares are free, and no more -/
theorem rm_ok {on : Nat → Int32} {p w : Int} (hw1 : 0 ≤ w) (hw2 : w ≤ 3) (p1 : 0 ≤ p) (p2 : p ≤ 4095) : ∀ n : Nat, (∀ i, i < n → 0 ≤ (on i).toInt ∧ (on i).toInt ≤ 4095) → 0 ≤ rmK on p w n ∧ rmK on p w n ≤ edg p w ∧ (∀ (j : Int) (k : Nat), 1 ≤ j → j ≤ rmK on p w n → k < n → (on k).toInt ≠ p + j * strd w) ∧ (rmK on p w n = edg p w ∨ ∃ k : Nat, k < n ∧ (on k).toInt = p + (rmK on p w n + 1) * strd w)
  | 0, _ => ⟨(edg_b hw1 hw2 p1 p2).1, Int.le_refl _, fun j k _ _ h => absurd h (by omega), Or.inl rfl⟩
  | n + 1, hb => by
    obtain ⟨i1, i2, i3, i4⟩ := rm_ok hw1 hw2 p1 p2 n (fun i hi => hb i (by omega))
    have hq := hb n (by omega)
    unfold rmK
    split
    · next c =>
      have e := dis_of hw1 hw2 p1 p2 hq.1 hq.2 c.1
      refine ⟨by omega, by omega, fun j k j1 j2 hk => ?_, Or.inr ⟨n, by omega, ?_⟩⟩
      · by_cases z : k = n
        · subst z
          intro h
          have := dis_to hw1 hw2 p1 p2 j1 (by omega) h
          omega
        · exact i3 j k j1 (by omega) (by omega)
      · rw [show dis (on n).toInt p w - 1 + 1 = dis (on n).toInt p w by omega]
        exact e
    · next c =>
      refine ⟨i1, i2, fun j k j1 j2 hk => ?_, ?_⟩
      · by_cases z : k = n
        · subst z
          intro h
          have := dis_to hw1 hw2 p1 p2 j1 (by omega) h
          omega
        · exact i3 j k j1 j2 (by omega)
      · rcases i4 with h | ⟨k, k1, k2⟩
        · exact Or.inl h
        · exact Or.inr ⟨k, by omega, k2⟩
theorem rmK_congr {on on' : Nat → Int32} {p w : Int} : ∀ n : Nat, (∀ i, i < n → on i = on' i) → rmK on p w n = rmK on' p w n
  | 0, _ => rfl
  | n + 1, h => by
    unfold rmK
    rw [rmK_congr n (fun i hi => h i (by omega)), h n (by omega)]
theorem c_coordE {g : zq_G} {d : Nat} {M : zq_M} {Q : Option Value → zq_M → Prop} {p w : Int32} (h : w &&& 1 = 0) (q : Q (some (.int (p - p / 64 * 64))) M) : mx g d kX7_coordinate 0 [.int p, .int w] [] M Q := by
  refine mx_go 60 zq_t65 ?_
  show (¬ ((w &&& 1) : Int32) = 0 → (¬ (64 : Int32) = 0) ∧ Q (some (.int (p / 64))) M) ∧ (((w &&& 1) : Int32) = 0 → (¬ (64 : Int32) = 0) ∧ Q (some (.int (p - p / 64 * 64))) M)
  exact ⟨fun z => absurd h z, fun _ => ⟨by decide, q⟩⟩
theorem c_coordO {g : zq_G} {d : Nat} {M : zq_M} {Q : Option Value → zq_M → Prop} {p w : Int32} (h : ¬ w &&& 1 = 0) (q : Q (some (.int (p / 64))) M) : mx g d kX7_coordinate 0 [.int p, .int w] [] M Q := by
  refine mx_go 60 zq_t65 ?_
  show (¬ ((w &&& 1) : Int32) = 0 → (¬ (64 : Int32) = 0) ∧ Q (some (.int (p / 64))) M) ∧ (((w &&& 1) : Int32) = 0 → (¬ (64 : Int32) = 0) ∧ Q (some (.int (p - p / 64 * 64))) M)
  exact ⟨fun _ => ⟨by decide, q⟩, fun z => absurd z h⟩
theorem c_room26_0 {g : zq_G} {d : Nat} {M : zq_M} {Q : Option Value → zq_M → Prop} {s n : Int32} {on : Nat → Int32} (hn : M 1 3 = n) (ho : M 26 = on) (b1 : 0 ≤ n.toInt) (b2 : n.toInt ≤ 10) (s1 : 0 ≤ s.toInt) (s2 : s.toInt < n.toInt) (hb : ∀ i : Nat, (i : Int) < n.toInt → 0 ≤ (on i).toInt ∧ (on i).toInt ≤ 4095) (hq : ∀ R : Int32, R.toInt = rmK on (on s.toNatClampNeg).toInt 0 n.toInt.toNat → Q (some (.int R)) M) : mx g (d + 1) kX7_roomAhead 0 [.ref 1, .ref 26, .int s, .int 0, .null, .null, .null, .null, .null, .null] [] M Q := by
  have sin : vp_in s 10 := n_in s1 (by omega)
  have hs := hb s.toNatClampNeg (by rw [n_cl]; omega)
  have f63 : (63 : Int32).toInt = 63 := rfl
  have eal : ((on s.toNatClampNeg) - (on s.toNatClampNeg) / 64 * 64).toInt = (on s.toNatClampNeg).toInt % 64 := rem64 hs.1
  have eac : ((on s.toNatClampNeg) / 64).toInt = (on s.toNatClampNeg).toInt / 64 := div64 hs.1
  have key : ∀ R0 al ac : Int32, R0.toInt = edg (on s.toNatClampNeg).toInt 0 → al.toInt = (on s.toNatClampNeg).toInt % 64 → ac.toInt = (on s.toNatClampNeg).toInt / 64 → mx g (d + 1) kX7_roomAhead 52 [.ref 1, .ref 26, .null, .int 0, .int 1, .int al, .int ac, .int R0, .int 0, .null] [] M Q := by
    clear eal eac
    intro R0 al ac hR0 eal eac
    refine mx_wf2 (fun R x : Int32 => [.ref 1, .ref 26, .null, .int 0, .int 1, .int al, .int ac, .int R, .int x, .null]) (fun R x M' => M' = M ∧ 0 ≤ x.toInt ∧ x.toInt ≤ n.toInt ∧ R.toInt = rmK on (on s.toNatClampNeg).toInt 0 x.toInt.toNat) (fun _ x => (n.toInt - x.toInt).toNat) ?_ R0 0 M ⟨rfl, by decide, b1, hR0⟩
    intro R x M' ⟨e, i1, i2, i3⟩ ih
    subst e
    refine mx_go 100 zq_t64 ?_
    show (((M' 1 3) : Int32) ≤ (x : Int32) → Q (some (.int R)) M') ∧ (¬ ((M' 1 3) : Int32) ≤ (x : Int32) → vp_in x 10 ∧ mx g (d) kX7_coordinate 0 [.int (((M' 26) (Int32.toNatClampNeg x))), .int ((0 + 1))] [] M' _)
    rw [hn, ho]
    have rb := (rm_ok (on := on) (p := (on s.toNatClampNeg).toInt) (w := 0) (by decide) (by decide) hs.1 hs.2 x.toInt.toNat (fun i hi => hb i (by omega)))
    have rb1 := rb.1
    have rb2 := rb.2.1
    have eb := edg_b (p := (on s.toNatClampNeg).toInt) (w := 0) (by decide) (by decide) hs.1 hs.2
    refine ⟨fun q => ?_, fun q => ⟨n_in i1 (by rw [n_le] at q; omega), ?_⟩⟩
    · rw [n_le] at q
      exact hq R (by rw [i3, show x.toInt = n.toInt by omega])
    rw [n_le] at q
    have hx := hb x.toNatClampNeg (by rw [n_cl]; omega)
    have up := n_up (n := n) i1 (by omega)
    have tal : ((on x.toNatClampNeg) - (on x.toNatClampNeg) / 64 * 64).toInt = (on x.toNatClampNeg).toInt % 64 := rem64 hx.1
    have tac : ((on x.toNatClampNeg) / 64).toInt = (on x.toNatClampNeg).toInt / 64 := div64 hx.1
    have rs : rmK on (on s.toNatClampNeg).toInt 0 (x + 1).toInt.toNat = if 1 ≤ dis (on x.toNatClampNeg).toInt (on s.toNatClampNeg).toInt 0 ∧ dis (on x.toNatClampNeg).toInt (on s.toNatClampNeg).toInt 0 ≤ R.toInt then dis (on x.toNatClampNeg).toInt (on s.toNatClampNeg).toInt 0 - 1 else R.toInt := by
      rw [show (x + 1).toInt.toNat = x.toInt.toNat + 1 by omega, i3]
      rfl
    have go : ∀ R2 : Int32, R2.toInt = rmK on (on s.toNatClampNeg).toInt 0 (x + 1).toInt.toNat → mx g (d + 1) kX7_roomAhead 52 [.ref 1, .ref 26, .null, .int 0, .int 1, .int al, .int ac, .int R2, .int (x + 1), .null] [] M' Q := fun R2 h2 => ih R2 (x + 1) M' (by omega) ⟨rfl, by omega, by omega, h2⟩
    refine c_coordO (by decide) ?_
    show (¬ (((on x.toNatClampNeg) / 64) : Int32) = (ac : Int32) → mx g (d + 1) kX7_roomAhead 52 [.ref 1, .ref 26, .null, .int (0), .int (1), .int (al), .int (ac), .int (R), .int ((x + 1)), .null] [] M' Q) ∧ ((((on x.toNatClampNeg) / 64) : Int32) = (ac : Int32) → vp_in x 10 ∧ mx g (d) kX7_coordinate 0 [.int (((M' 26) (Int32.toNatClampNeg x))), .int (0)] [] M' _)
    rw [ho]
    refine ⟨fun r => go R ?_, fun r => ⟨n_in i1 (by omega), ?_⟩⟩
    · rw [n_eq, tac, eac] at r
      rw [rs, dis_0, if_neg r, if_neg (by omega)]
    rw [n_eq, tac, eac] at r
    refine c_coordE (by decide) ?_
    rw [dis_0, if_pos r] at rs
    show (¬ (1 : Int32) = 0 → (((((on x.toNatClampNeg) - (on x.toNatClampNeg) / 64 * 64) - al) : Int32) ≤ 0 → mx g (d + 1) kX7_roomAhead 52 [.ref 1, .ref 26, .null, .int (0), .int (1), .int (al), .int (ac), .int (R), .int ((x + 1)), .null] [] M' Q) ∧ (¬ ((((on x.toNatClampNeg) - (on x.toNatClampNeg) / 64 * 64) - al) : Int32) ≤ 0 → ((R : Int32) < ((((on x.toNatClampNeg) - (on x.toNatClampNeg) / 64 * 64) - al) : Int32) → mx g (d + 1) kX7_roomAhead 52 [.ref 1, .ref 26, .null, .int (0), .int (1), .int (al), .int (ac), .int (R), .int ((x + 1)), .null] [] M' Q) ∧ (¬ (R : Int32) < ((((on x.toNatClampNeg) - (on x.toNatClampNeg) / 64 * 64) - al) : Int32) → mx g (d + 1) kX7_roomAhead 52 [.ref 1, .ref 26, .null, .int (0), .int (1), .int (al), .int (ac), .int (((((on x.toNatClampNeg) - (on x.toNatClampNeg) / 64 * 64) - al) - 1)), .int ((x + 1)), .null] [] M' Q))) ∧ ((1 : Int32) = 0 → (((-(((on x.toNatClampNeg) - (on x.toNatClampNeg) / 64 * 64) - al)) : Int32) ≤ 0 → mx g (d + 1) kX7_roomAhead 52 [.ref 1, .ref 26, .null, .int (0), .int (1), .int (al), .int (ac), .int (R), .int ((x + 1)), .null] [] M' Q) ∧ (¬ ((-(((on x.toNatClampNeg) - (on x.toNatClampNeg) / 64 * 64) - al)) : Int32) ≤ 0 → ((R : Int32) < ((-(((on x.toNatClampNeg) - (on x.toNatClampNeg) / 64 * 64) - al)) : Int32) → mx g (d + 1) kX7_roomAhead 52 [.ref 1, .ref 26, .null, .int (0), .int (1), .int (al), .int (ac), .int (R), .int ((x + 1)), .null] [] M' Q) ∧ (¬ (R : Int32) < ((-(((on x.toNatClampNeg) - (on x.toNatClampNeg) / 64 * 64) - al)) : Int32) → mx g (d + 1) kX7_roomAhead 52 [.ref 1, .ref 26, .null, .int (0), .int (1), .int (al), .int (ac), .int (((-(((on x.toNatClampNeg) - (on x.toNatClampNeg) / 64 * 64) - al)) - 1)), .int ((x + 1)), .null] [] M' Q)))
    generalize ((on x.toNatClampNeg) - (on x.toNatClampNeg) / 64 * 64) = tl at tal ⊢
    have ed : (tl - al).toInt = (on x.toNatClampNeg).toInt % 64 - (on s.toNatClampNeg).toInt % 64 := by rw [n_sub, tal, eal, zw_id (by omega) (by omega)]
    refine ⟨fun _ => ⟨fun t => go R ?_, fun t => ⟨fun u => go R ?_, fun u => go _ ?_⟩⟩, fun z => absurd z (by decide)⟩
    · rw [n_le, n_0, ed] at t
      rw [rs, if_neg (by omega)]
    · rw [n_lt, ed] at u
      rw [rs, if_neg (by omega)]
    · rw [n_le, n_0, ed] at t
      rw [n_lt, ed] at u
      rw [rs, if_pos (by omega), n_sub, ed, n_1, zw_id (by omega) (by omega)]
  refine mx_go 100 zq_t64 ?_
  show ((2 : Int32) ≤ (0 : Int32) → vp_in s 10 ∧ mx g (d) kX7_coordinate 0 [.int (((M 26) (Int32.toNatClampNeg s))), .int (0)] [] M _) ∧ (¬ (2 : Int32) ≤ (0 : Int32) → vp_in s 10 ∧ mx g (d) kX7_coordinate 0 [.int (((M 26) (Int32.toNatClampNeg s))), .int (0)] [] M _)
  rw [ho]
  refine ⟨fun z => absurd z (by decide), fun z => ⟨sin, ?_⟩⟩
  refine c_coordE (by decide) ?_
  show vp_in s 10 ∧ mx g (d) kX7_coordinate 0 [.int (((M 26) (Int32.toNatClampNeg s))), .int ((0 + 1))] [] M _
  rw [ho]
  refine ⟨sin, ?_⟩
  refine c_coordO (by decide) ?_
  show ((1 : Int32) = 0 → mx g (d + 1) kX7_roomAhead 52 [.ref 1, .ref 26, .null, .int (0), .int (1), .int (((on s.toNatClampNeg) - (on s.toNatClampNeg) / 64 * 64)), .int (((on s.toNatClampNeg) / 64)), .int (((on s.toNatClampNeg) - (on s.toNatClampNeg) / 64 * 64)), .int (0), .null] [] M Q) ∧ (¬ (1 : Int32) = 0 → mx g (d + 1) kX7_roomAhead 52 [.ref 1, .ref 26, .null, .int (0), .int (1), .int (((on s.toNatClampNeg) - (on s.toNatClampNeg) / 64 * 64)), .int (((on s.toNatClampNeg) / 64)), .int ((63 - ((on s.toNatClampNeg) - (on s.toNatClampNeg) / 64 * 64))), .int (0), .null] [] M Q)
  refine ⟨fun z => absurd z (by decide), fun _ => key _ _ _ ?_ eal eac⟩
  rw [edg_0, n_sub, f63, eal, zw_id (by omega) (by omega)]
theorem c_room26_1 {g : zq_G} {d : Nat} {M : zq_M} {Q : Option Value → zq_M → Prop} {s n : Int32} {on : Nat → Int32} (hn : M 1 3 = n) (ho : M 26 = on) (b1 : 0 ≤ n.toInt) (b2 : n.toInt ≤ 10) (s1 : 0 ≤ s.toInt) (s2 : s.toInt < n.toInt) (hb : ∀ i : Nat, (i : Int) < n.toInt → 0 ≤ (on i).toInt ∧ (on i).toInt ≤ 4095) (hq : ∀ R : Int32, R.toInt = rmK on (on s.toNatClampNeg).toInt 1 n.toInt.toNat → Q (some (.int R)) M) : mx g (d + 1) kX7_roomAhead 0 [.ref 1, .ref 26, .int s, .int 1, .null, .null, .null, .null, .null, .null] [] M Q := by
  have sin : vp_in s 10 := n_in s1 (by omega)
  have hs := hb s.toNatClampNeg (by rw [n_cl]; omega)
  have f63 : (63 : Int32).toInt = 63 := rfl
  have eal : ((on s.toNatClampNeg) / 64).toInt = (on s.toNatClampNeg).toInt / 64 := div64 hs.1
  have eac : ((on s.toNatClampNeg) - (on s.toNatClampNeg) / 64 * 64).toInt = (on s.toNatClampNeg).toInt % 64 := rem64 hs.1
  have key : ∀ R0 al ac : Int32, R0.toInt = edg (on s.toNatClampNeg).toInt 1 → al.toInt = (on s.toNatClampNeg).toInt / 64 → ac.toInt = (on s.toNatClampNeg).toInt % 64 → mx g (d + 1) kX7_roomAhead 52 [.ref 1, .ref 26, .null, .int 1, .int 1, .int al, .int ac, .int R0, .int 0, .null] [] M Q := by
    clear eal eac
    intro R0 al ac hR0 eal eac
    refine mx_wf2 (fun R x : Int32 => [.ref 1, .ref 26, .null, .int 1, .int 1, .int al, .int ac, .int R, .int x, .null]) (fun R x M' => M' = M ∧ 0 ≤ x.toInt ∧ x.toInt ≤ n.toInt ∧ R.toInt = rmK on (on s.toNatClampNeg).toInt 1 x.toInt.toNat) (fun _ x => (n.toInt - x.toInt).toNat) ?_ R0 0 M ⟨rfl, by decide, b1, hR0⟩
    intro R x M' ⟨e, i1, i2, i3⟩ ih
    subst e
    refine mx_go 100 zq_t64 ?_
    show (((M' 1 3) : Int32) ≤ (x : Int32) → Q (some (.int R)) M') ∧ (¬ ((M' 1 3) : Int32) ≤ (x : Int32) → vp_in x 10 ∧ mx g (d) kX7_coordinate 0 [.int (((M' 26) (Int32.toNatClampNeg x))), .int ((1 + 1))] [] M' _)
    rw [hn, ho]
    have rb := (rm_ok (on := on) (p := (on s.toNatClampNeg).toInt) (w := 1) (by decide) (by decide) hs.1 hs.2 x.toInt.toNat (fun i hi => hb i (by omega)))
    have rb1 := rb.1
    have rb2 := rb.2.1
    have eb := edg_b (p := (on s.toNatClampNeg).toInt) (w := 1) (by decide) (by decide) hs.1 hs.2
    refine ⟨fun q => ?_, fun q => ⟨n_in i1 (by rw [n_le] at q; omega), ?_⟩⟩
    · rw [n_le] at q
      exact hq R (by rw [i3, show x.toInt = n.toInt by omega])
    rw [n_le] at q
    have hx := hb x.toNatClampNeg (by rw [n_cl]; omega)
    have up := n_up (n := n) i1 (by omega)
    have tal : ((on x.toNatClampNeg) / 64).toInt = (on x.toNatClampNeg).toInt / 64 := div64 hx.1
    have tac : ((on x.toNatClampNeg) - (on x.toNatClampNeg) / 64 * 64).toInt = (on x.toNatClampNeg).toInt % 64 := rem64 hx.1
    have rs : rmK on (on s.toNatClampNeg).toInt 1 (x + 1).toInt.toNat = if 1 ≤ dis (on x.toNatClampNeg).toInt (on s.toNatClampNeg).toInt 1 ∧ dis (on x.toNatClampNeg).toInt (on s.toNatClampNeg).toInt 1 ≤ R.toInt then dis (on x.toNatClampNeg).toInt (on s.toNatClampNeg).toInt 1 - 1 else R.toInt := by
      rw [show (x + 1).toInt.toNat = x.toInt.toNat + 1 by omega, i3]
      rfl
    have go : ∀ R2 : Int32, R2.toInt = rmK on (on s.toNatClampNeg).toInt 1 (x + 1).toInt.toNat → mx g (d + 1) kX7_roomAhead 52 [.ref 1, .ref 26, .null, .int 1, .int 1, .int al, .int ac, .int R2, .int (x + 1), .null] [] M' Q := fun R2 h2 => ih R2 (x + 1) M' (by omega) ⟨rfl, by omega, by omega, h2⟩
    refine c_coordE (by decide) ?_
    show (¬ (((on x.toNatClampNeg) - (on x.toNatClampNeg) / 64 * 64) : Int32) = (ac : Int32) → mx g (d + 1) kX7_roomAhead 52 [.ref 1, .ref 26, .null, .int (1), .int (1), .int (al), .int (ac), .int (R), .int ((x + 1)), .null] [] M' Q) ∧ ((((on x.toNatClampNeg) - (on x.toNatClampNeg) / 64 * 64) : Int32) = (ac : Int32) → vp_in x 10 ∧ mx g (d) kX7_coordinate 0 [.int (((M' 26) (Int32.toNatClampNeg x))), .int (1)] [] M' _)
    rw [ho]
    refine ⟨fun r => go R ?_, fun r => ⟨n_in i1 (by omega), ?_⟩⟩
    · rw [n_eq, tac, eac] at r
      rw [rs, dis_1, if_neg r, if_neg (by omega)]
    rw [n_eq, tac, eac] at r
    refine c_coordO (by decide) ?_
    rw [dis_1, if_pos r] at rs
    show (¬ (1 : Int32) = 0 → (((((on x.toNatClampNeg) / 64) - al) : Int32) ≤ 0 → mx g (d + 1) kX7_roomAhead 52 [.ref 1, .ref 26, .null, .int (1), .int (1), .int (al), .int (ac), .int (R), .int ((x + 1)), .null] [] M' Q) ∧ (¬ ((((on x.toNatClampNeg) / 64) - al) : Int32) ≤ 0 → ((R : Int32) < ((((on x.toNatClampNeg) / 64) - al) : Int32) → mx g (d + 1) kX7_roomAhead 52 [.ref 1, .ref 26, .null, .int (1), .int (1), .int (al), .int (ac), .int (R), .int ((x + 1)), .null] [] M' Q) ∧ (¬ (R : Int32) < ((((on x.toNatClampNeg) / 64) - al) : Int32) → mx g (d + 1) kX7_roomAhead 52 [.ref 1, .ref 26, .null, .int (1), .int (1), .int (al), .int (ac), .int (((((on x.toNatClampNeg) / 64) - al) - 1)), .int ((x + 1)), .null] [] M' Q))) ∧ ((1 : Int32) = 0 → (((-(((on x.toNatClampNeg) / 64) - al)) : Int32) ≤ 0 → mx g (d + 1) kX7_roomAhead 52 [.ref 1, .ref 26, .null, .int (1), .int (1), .int (al), .int (ac), .int (R), .int ((x + 1)), .null] [] M' Q) ∧ (¬ ((-(((on x.toNatClampNeg) / 64) - al)) : Int32) ≤ 0 → ((R : Int32) < ((-(((on x.toNatClampNeg) / 64) - al)) : Int32) → mx g (d + 1) kX7_roomAhead 52 [.ref 1, .ref 26, .null, .int (1), .int (1), .int (al), .int (ac), .int (R), .int ((x + 1)), .null] [] M' Q) ∧ (¬ (R : Int32) < ((-(((on x.toNatClampNeg) / 64) - al)) : Int32) → mx g (d + 1) kX7_roomAhead 52 [.ref 1, .ref 26, .null, .int (1), .int (1), .int (al), .int (ac), .int (((-(((on x.toNatClampNeg) / 64) - al)) - 1)), .int ((x + 1)), .null] [] M' Q)))
    generalize ((on x.toNatClampNeg) / 64) = tl at tal ⊢
    have ed : (tl - al).toInt = (on x.toNatClampNeg).toInt / 64 - (on s.toNatClampNeg).toInt / 64 := by rw [n_sub, tal, eal, zw_id (by omega) (by omega)]
    refine ⟨fun _ => ⟨fun t => go R ?_, fun t => ⟨fun u => go R ?_, fun u => go _ ?_⟩⟩, fun z => absurd z (by decide)⟩
    · rw [n_le, n_0, ed] at t
      rw [rs, if_neg (by omega)]
    · rw [n_lt, ed] at u
      rw [rs, if_neg (by omega)]
    · rw [n_le, n_0, ed] at t
      rw [n_lt, ed] at u
      rw [rs, if_pos (by omega), n_sub, ed, n_1, zw_id (by omega) (by omega)]
  refine mx_go 100 zq_t64 ?_
  show ((2 : Int32) ≤ (1 : Int32) → vp_in s 10 ∧ mx g (d) kX7_coordinate 0 [.int (((M 26) (Int32.toNatClampNeg s))), .int (1)] [] M _) ∧ (¬ (2 : Int32) ≤ (1 : Int32) → vp_in s 10 ∧ mx g (d) kX7_coordinate 0 [.int (((M 26) (Int32.toNatClampNeg s))), .int (1)] [] M _)
  rw [ho]
  refine ⟨fun z => absurd z (by decide), fun z => ⟨sin, ?_⟩⟩
  refine c_coordO (by decide) ?_
  show vp_in s 10 ∧ mx g (d) kX7_coordinate 0 [.int (((M 26) (Int32.toNatClampNeg s))), .int ((1 + 1))] [] M _
  rw [ho]
  refine ⟨sin, ?_⟩
  refine c_coordE (by decide) ?_
  show ((1 : Int32) = 0 → mx g (d + 1) kX7_roomAhead 52 [.ref 1, .ref 26, .null, .int (1), .int (1), .int (((on s.toNatClampNeg) / 64)), .int (((on s.toNatClampNeg) - (on s.toNatClampNeg) / 64 * 64)), .int (((on s.toNatClampNeg) / 64)), .int (0), .null] [] M Q) ∧ (¬ (1 : Int32) = 0 → mx g (d + 1) kX7_roomAhead 52 [.ref 1, .ref 26, .null, .int (1), .int (1), .int (((on s.toNatClampNeg) / 64)), .int (((on s.toNatClampNeg) - (on s.toNatClampNeg) / 64 * 64)), .int ((63 - ((on s.toNatClampNeg) / 64))), .int (0), .null] [] M Q)
  refine ⟨fun z => absurd z (by decide), fun _ => key _ _ _ ?_ eal eac⟩
  rw [edg_1, n_sub, f63, eal, zw_id (by omega) (by omega)]
theorem c_room26_2 {g : zq_G} {d : Nat} {M : zq_M} {Q : Option Value → zq_M → Prop} {s n : Int32} {on : Nat → Int32} (hn : M 1 3 = n) (ho : M 26 = on) (b1 : 0 ≤ n.toInt) (b2 : n.toInt ≤ 10) (s1 : 0 ≤ s.toInt) (s2 : s.toInt < n.toInt) (hb : ∀ i : Nat, (i : Int) < n.toInt → 0 ≤ (on i).toInt ∧ (on i).toInt ≤ 4095) (hq : ∀ R : Int32, R.toInt = rmK on (on s.toNatClampNeg).toInt 2 n.toInt.toNat → Q (some (.int R)) M) : mx g (d + 1) kX7_roomAhead 0 [.ref 1, .ref 26, .int s, .int 2, .null, .null, .null, .null, .null, .null] [] M Q := by
  have sin : vp_in s 10 := n_in s1 (by omega)
  have hs := hb s.toNatClampNeg (by rw [n_cl]; omega)
  have f63 : (63 : Int32).toInt = 63 := rfl
  have eal : ((on s.toNatClampNeg) - (on s.toNatClampNeg) / 64 * 64).toInt = (on s.toNatClampNeg).toInt % 64 := rem64 hs.1
  have eac : ((on s.toNatClampNeg) / 64).toInt = (on s.toNatClampNeg).toInt / 64 := div64 hs.1
  have key : ∀ R0 al ac : Int32, R0.toInt = edg (on s.toNatClampNeg).toInt 2 → al.toInt = (on s.toNatClampNeg).toInt % 64 → ac.toInt = (on s.toNatClampNeg).toInt / 64 → mx g (d + 1) kX7_roomAhead 52 [.ref 1, .ref 26, .null, .int 2, .int 0, .int al, .int ac, .int R0, .int 0, .null] [] M Q := by
    clear eal eac
    intro R0 al ac hR0 eal eac
    refine mx_wf2 (fun R x : Int32 => [.ref 1, .ref 26, .null, .int 2, .int 0, .int al, .int ac, .int R, .int x, .null]) (fun R x M' => M' = M ∧ 0 ≤ x.toInt ∧ x.toInt ≤ n.toInt ∧ R.toInt = rmK on (on s.toNatClampNeg).toInt 2 x.toInt.toNat) (fun _ x => (n.toInt - x.toInt).toNat) ?_ R0 0 M ⟨rfl, by decide, b1, hR0⟩
    intro R x M' ⟨e, i1, i2, i3⟩ ih
    subst e
    refine mx_go 100 zq_t64 ?_
    show (((M' 1 3) : Int32) ≤ (x : Int32) → Q (some (.int R)) M') ∧ (¬ ((M' 1 3) : Int32) ≤ (x : Int32) → vp_in x 10 ∧ mx g (d) kX7_coordinate 0 [.int (((M' 26) (Int32.toNatClampNeg x))), .int ((2 + 1))] [] M' _)
    rw [hn, ho]
    have rb := (rm_ok (on := on) (p := (on s.toNatClampNeg).toInt) (w := 2) (by decide) (by decide) hs.1 hs.2 x.toInt.toNat (fun i hi => hb i (by omega)))
    have rb1 := rb.1
    have rb2 := rb.2.1
    have eb := edg_b (p := (on s.toNatClampNeg).toInt) (w := 2) (by decide) (by decide) hs.1 hs.2
    refine ⟨fun q => ?_, fun q => ⟨n_in i1 (by rw [n_le] at q; omega), ?_⟩⟩
    · rw [n_le] at q
      exact hq R (by rw [i3, show x.toInt = n.toInt by omega])
    rw [n_le] at q
    have hx := hb x.toNatClampNeg (by rw [n_cl]; omega)
    have up := n_up (n := n) i1 (by omega)
    have tal : ((on x.toNatClampNeg) - (on x.toNatClampNeg) / 64 * 64).toInt = (on x.toNatClampNeg).toInt % 64 := rem64 hx.1
    have tac : ((on x.toNatClampNeg) / 64).toInt = (on x.toNatClampNeg).toInt / 64 := div64 hx.1
    have rs : rmK on (on s.toNatClampNeg).toInt 2 (x + 1).toInt.toNat = if 1 ≤ dis (on x.toNatClampNeg).toInt (on s.toNatClampNeg).toInt 2 ∧ dis (on x.toNatClampNeg).toInt (on s.toNatClampNeg).toInt 2 ≤ R.toInt then dis (on x.toNatClampNeg).toInt (on s.toNatClampNeg).toInt 2 - 1 else R.toInt := by
      rw [show (x + 1).toInt.toNat = x.toInt.toNat + 1 by omega, i3]
      rfl
    have go : ∀ R2 : Int32, R2.toInt = rmK on (on s.toNatClampNeg).toInt 2 (x + 1).toInt.toNat → mx g (d + 1) kX7_roomAhead 52 [.ref 1, .ref 26, .null, .int 2, .int 0, .int al, .int ac, .int R2, .int (x + 1), .null] [] M' Q := fun R2 h2 => ih R2 (x + 1) M' (by omega) ⟨rfl, by omega, by omega, h2⟩
    refine c_coordO (by decide) ?_
    show (¬ (((on x.toNatClampNeg) / 64) : Int32) = (ac : Int32) → mx g (d + 1) kX7_roomAhead 52 [.ref 1, .ref 26, .null, .int (2), .int (0), .int (al), .int (ac), .int (R), .int ((x + 1)), .null] [] M' Q) ∧ ((((on x.toNatClampNeg) / 64) : Int32) = (ac : Int32) → vp_in x 10 ∧ mx g (d) kX7_coordinate 0 [.int (((M' 26) (Int32.toNatClampNeg x))), .int (2)] [] M' _)
    rw [ho]
    refine ⟨fun r => go R ?_, fun r => ⟨n_in i1 (by omega), ?_⟩⟩
    · rw [n_eq, tac, eac] at r
      rw [rs, dis_2, if_neg r, if_neg (by omega)]
    rw [n_eq, tac, eac] at r
    refine c_coordE (by decide) ?_
    rw [dis_2, if_pos r] at rs
    show (¬ (0 : Int32) = 0 → (((((on x.toNatClampNeg) - (on x.toNatClampNeg) / 64 * 64) - al) : Int32) ≤ 0 → mx g (d + 1) kX7_roomAhead 52 [.ref 1, .ref 26, .null, .int (2), .int (0), .int (al), .int (ac), .int (R), .int ((x + 1)), .null] [] M' Q) ∧ (¬ ((((on x.toNatClampNeg) - (on x.toNatClampNeg) / 64 * 64) - al) : Int32) ≤ 0 → ((R : Int32) < ((((on x.toNatClampNeg) - (on x.toNatClampNeg) / 64 * 64) - al) : Int32) → mx g (d + 1) kX7_roomAhead 52 [.ref 1, .ref 26, .null, .int (2), .int (0), .int (al), .int (ac), .int (R), .int ((x + 1)), .null] [] M' Q) ∧ (¬ (R : Int32) < ((((on x.toNatClampNeg) - (on x.toNatClampNeg) / 64 * 64) - al) : Int32) → mx g (d + 1) kX7_roomAhead 52 [.ref 1, .ref 26, .null, .int (2), .int (0), .int (al), .int (ac), .int (((((on x.toNatClampNeg) - (on x.toNatClampNeg) / 64 * 64) - al) - 1)), .int ((x + 1)), .null] [] M' Q))) ∧ ((0 : Int32) = 0 → (((-(((on x.toNatClampNeg) - (on x.toNatClampNeg) / 64 * 64) - al)) : Int32) ≤ 0 → mx g (d + 1) kX7_roomAhead 52 [.ref 1, .ref 26, .null, .int (2), .int (0), .int (al), .int (ac), .int (R), .int ((x + 1)), .null] [] M' Q) ∧ (¬ ((-(((on x.toNatClampNeg) - (on x.toNatClampNeg) / 64 * 64) - al)) : Int32) ≤ 0 → ((R : Int32) < ((-(((on x.toNatClampNeg) - (on x.toNatClampNeg) / 64 * 64) - al)) : Int32) → mx g (d + 1) kX7_roomAhead 52 [.ref 1, .ref 26, .null, .int (2), .int (0), .int (al), .int (ac), .int (R), .int ((x + 1)), .null] [] M' Q) ∧ (¬ (R : Int32) < ((-(((on x.toNatClampNeg) - (on x.toNatClampNeg) / 64 * 64) - al)) : Int32) → mx g (d + 1) kX7_roomAhead 52 [.ref 1, .ref 26, .null, .int (2), .int (0), .int (al), .int (ac), .int (((-(((on x.toNatClampNeg) - (on x.toNatClampNeg) / 64 * 64) - al)) - 1)), .int ((x + 1)), .null] [] M' Q)))
    generalize ((on x.toNatClampNeg) - (on x.toNatClampNeg) / 64 * 64) = tl at tal ⊢
    have ed : (tl - al).toInt = (on x.toNatClampNeg).toInt % 64 - (on s.toNatClampNeg).toInt % 64 := by rw [n_sub, tal, eal, zw_id (by omega) (by omega)]
    have en : (-(tl - al)).toInt = (on s.toNatClampNeg).toInt % 64 - (on x.toNatClampNeg).toInt % 64 := by rw [n_neg, ed, zw_id (by omega) (by omega)]; omega
    refine ⟨fun z => absurd rfl z, fun _ => ⟨fun t => go R ?_, fun t => ⟨fun u => go R ?_, fun u => go _ ?_⟩⟩⟩
    · rw [n_le, n_0, en] at t
      rw [rs, if_neg (by omega)]
    · rw [n_lt, en] at u
      rw [rs, if_neg (by omega)]
    · rw [n_le, n_0, en] at t
      rw [n_lt, en] at u
      rw [rs, if_pos (by omega), n_sub, en, n_1, zw_id (by omega) (by omega)]
  refine mx_go 100 zq_t64 ?_
  show ((2 : Int32) ≤ (2 : Int32) → vp_in s 10 ∧ mx g (d) kX7_coordinate 0 [.int (((M 26) (Int32.toNatClampNeg s))), .int (2)] [] M _) ∧ (¬ (2 : Int32) ≤ (2 : Int32) → vp_in s 10 ∧ mx g (d) kX7_coordinate 0 [.int (((M 26) (Int32.toNatClampNeg s))), .int (2)] [] M _)
  rw [ho]
  refine ⟨fun z => ⟨sin, ?_⟩, fun z => absurd (by decide) z⟩
  refine c_coordE (by decide) ?_
  show vp_in s 10 ∧ mx g (d) kX7_coordinate 0 [.int (((M 26) (Int32.toNatClampNeg s))), .int ((2 + 1))] [] M _
  rw [ho]
  refine ⟨sin, ?_⟩
  refine c_coordO (by decide) ?_
  show ((0 : Int32) = 0 → mx g (d + 1) kX7_roomAhead 52 [.ref 1, .ref 26, .null, .int (2), .int (0), .int (((on s.toNatClampNeg) - (on s.toNatClampNeg) / 64 * 64)), .int (((on s.toNatClampNeg) / 64)), .int (((on s.toNatClampNeg) - (on s.toNatClampNeg) / 64 * 64)), .int (0), .null] [] M Q) ∧ (¬ (0 : Int32) = 0 → mx g (d + 1) kX7_roomAhead 52 [.ref 1, .ref 26, .null, .int (2), .int (0), .int (((on s.toNatClampNeg) - (on s.toNatClampNeg) / 64 * 64)), .int (((on s.toNatClampNeg) / 64)), .int ((63 - ((on s.toNatClampNeg) - (on s.toNatClampNeg) / 64 * 64))), .int (0), .null] [] M Q)
  refine ⟨fun _ => key _ _ _ ?_ eal eac, fun z => absurd rfl z⟩
  rw [edg_2, eal]
theorem c_room26_3 {g : zq_G} {d : Nat} {M : zq_M} {Q : Option Value → zq_M → Prop} {s n : Int32} {on : Nat → Int32} (hn : M 1 3 = n) (ho : M 26 = on) (b1 : 0 ≤ n.toInt) (b2 : n.toInt ≤ 10) (s1 : 0 ≤ s.toInt) (s2 : s.toInt < n.toInt) (hb : ∀ i : Nat, (i : Int) < n.toInt → 0 ≤ (on i).toInt ∧ (on i).toInt ≤ 4095) (hq : ∀ R : Int32, R.toInt = rmK on (on s.toNatClampNeg).toInt 3 n.toInt.toNat → Q (some (.int R)) M) : mx g (d + 1) kX7_roomAhead 0 [.ref 1, .ref 26, .int s, .int 3, .null, .null, .null, .null, .null, .null] [] M Q := by
  have sin : vp_in s 10 := n_in s1 (by omega)
  have hs := hb s.toNatClampNeg (by rw [n_cl]; omega)
  have f63 : (63 : Int32).toInt = 63 := rfl
  have eal : ((on s.toNatClampNeg) / 64).toInt = (on s.toNatClampNeg).toInt / 64 := div64 hs.1
  have eac : ((on s.toNatClampNeg) - (on s.toNatClampNeg) / 64 * 64).toInt = (on s.toNatClampNeg).toInt % 64 := rem64 hs.1
  have key : ∀ R0 al ac : Int32, R0.toInt = edg (on s.toNatClampNeg).toInt 3 → al.toInt = (on s.toNatClampNeg).toInt / 64 → ac.toInt = (on s.toNatClampNeg).toInt % 64 → mx g (d + 1) kX7_roomAhead 52 [.ref 1, .ref 26, .null, .int 3, .int 0, .int al, .int ac, .int R0, .int 0, .null] [] M Q := by
    clear eal eac
    intro R0 al ac hR0 eal eac
    refine mx_wf2 (fun R x : Int32 => [.ref 1, .ref 26, .null, .int 3, .int 0, .int al, .int ac, .int R, .int x, .null]) (fun R x M' => M' = M ∧ 0 ≤ x.toInt ∧ x.toInt ≤ n.toInt ∧ R.toInt = rmK on (on s.toNatClampNeg).toInt 3 x.toInt.toNat) (fun _ x => (n.toInt - x.toInt).toNat) ?_ R0 0 M ⟨rfl, by decide, b1, hR0⟩
    intro R x M' ⟨e, i1, i2, i3⟩ ih
    subst e
    refine mx_go 100 zq_t64 ?_
    show (((M' 1 3) : Int32) ≤ (x : Int32) → Q (some (.int R)) M') ∧ (¬ ((M' 1 3) : Int32) ≤ (x : Int32) → vp_in x 10 ∧ mx g (d) kX7_coordinate 0 [.int (((M' 26) (Int32.toNatClampNeg x))), .int ((3 + 1))] [] M' _)
    rw [hn, ho]
    have rb := (rm_ok (on := on) (p := (on s.toNatClampNeg).toInt) (w := 3) (by decide) (by decide) hs.1 hs.2 x.toInt.toNat (fun i hi => hb i (by omega)))
    have rb1 := rb.1
    have rb2 := rb.2.1
    have eb := edg_b (p := (on s.toNatClampNeg).toInt) (w := 3) (by decide) (by decide) hs.1 hs.2
    refine ⟨fun q => ?_, fun q => ⟨n_in i1 (by rw [n_le] at q; omega), ?_⟩⟩
    · rw [n_le] at q
      exact hq R (by rw [i3, show x.toInt = n.toInt by omega])
    rw [n_le] at q
    have hx := hb x.toNatClampNeg (by rw [n_cl]; omega)
    have up := n_up (n := n) i1 (by omega)
    have tal : ((on x.toNatClampNeg) / 64).toInt = (on x.toNatClampNeg).toInt / 64 := div64 hx.1
    have tac : ((on x.toNatClampNeg) - (on x.toNatClampNeg) / 64 * 64).toInt = (on x.toNatClampNeg).toInt % 64 := rem64 hx.1
    have rs : rmK on (on s.toNatClampNeg).toInt 3 (x + 1).toInt.toNat = if 1 ≤ dis (on x.toNatClampNeg).toInt (on s.toNatClampNeg).toInt 3 ∧ dis (on x.toNatClampNeg).toInt (on s.toNatClampNeg).toInt 3 ≤ R.toInt then dis (on x.toNatClampNeg).toInt (on s.toNatClampNeg).toInt 3 - 1 else R.toInt := by
      rw [show (x + 1).toInt.toNat = x.toInt.toNat + 1 by omega, i3]
      rfl
    have go : ∀ R2 : Int32, R2.toInt = rmK on (on s.toNatClampNeg).toInt 3 (x + 1).toInt.toNat → mx g (d + 1) kX7_roomAhead 52 [.ref 1, .ref 26, .null, .int 3, .int 0, .int al, .int ac, .int R2, .int (x + 1), .null] [] M' Q := fun R2 h2 => ih R2 (x + 1) M' (by omega) ⟨rfl, by omega, by omega, h2⟩
    refine c_coordE (by decide) ?_
    show (¬ (((on x.toNatClampNeg) - (on x.toNatClampNeg) / 64 * 64) : Int32) = (ac : Int32) → mx g (d + 1) kX7_roomAhead 52 [.ref 1, .ref 26, .null, .int (3), .int (0), .int (al), .int (ac), .int (R), .int ((x + 1)), .null] [] M' Q) ∧ ((((on x.toNatClampNeg) - (on x.toNatClampNeg) / 64 * 64) : Int32) = (ac : Int32) → vp_in x 10 ∧ mx g (d) kX7_coordinate 0 [.int (((M' 26) (Int32.toNatClampNeg x))), .int (3)] [] M' _)
    rw [ho]
    refine ⟨fun r => go R ?_, fun r => ⟨n_in i1 (by omega), ?_⟩⟩
    · rw [n_eq, tac, eac] at r
      rw [rs, dis_3, if_neg r, if_neg (by omega)]
    rw [n_eq, tac, eac] at r
    refine c_coordO (by decide) ?_
    rw [dis_3, if_pos r] at rs
    show (¬ (0 : Int32) = 0 → (((((on x.toNatClampNeg) / 64) - al) : Int32) ≤ 0 → mx g (d + 1) kX7_roomAhead 52 [.ref 1, .ref 26, .null, .int (3), .int (0), .int (al), .int (ac), .int (R), .int ((x + 1)), .null] [] M' Q) ∧ (¬ ((((on x.toNatClampNeg) / 64) - al) : Int32) ≤ 0 → ((R : Int32) < ((((on x.toNatClampNeg) / 64) - al) : Int32) → mx g (d + 1) kX7_roomAhead 52 [.ref 1, .ref 26, .null, .int (3), .int (0), .int (al), .int (ac), .int (R), .int ((x + 1)), .null] [] M' Q) ∧ (¬ (R : Int32) < ((((on x.toNatClampNeg) / 64) - al) : Int32) → mx g (d + 1) kX7_roomAhead 52 [.ref 1, .ref 26, .null, .int (3), .int (0), .int (al), .int (ac), .int (((((on x.toNatClampNeg) / 64) - al) - 1)), .int ((x + 1)), .null] [] M' Q))) ∧ ((0 : Int32) = 0 → (((-(((on x.toNatClampNeg) / 64) - al)) : Int32) ≤ 0 → mx g (d + 1) kX7_roomAhead 52 [.ref 1, .ref 26, .null, .int (3), .int (0), .int (al), .int (ac), .int (R), .int ((x + 1)), .null] [] M' Q) ∧ (¬ ((-(((on x.toNatClampNeg) / 64) - al)) : Int32) ≤ 0 → ((R : Int32) < ((-(((on x.toNatClampNeg) / 64) - al)) : Int32) → mx g (d + 1) kX7_roomAhead 52 [.ref 1, .ref 26, .null, .int (3), .int (0), .int (al), .int (ac), .int (R), .int ((x + 1)), .null] [] M' Q) ∧ (¬ (R : Int32) < ((-(((on x.toNatClampNeg) / 64) - al)) : Int32) → mx g (d + 1) kX7_roomAhead 52 [.ref 1, .ref 26, .null, .int (3), .int (0), .int (al), .int (ac), .int (((-(((on x.toNatClampNeg) / 64) - al)) - 1)), .int ((x + 1)), .null] [] M' Q)))
    generalize ((on x.toNatClampNeg) / 64) = tl at tal ⊢
    have ed : (tl - al).toInt = (on x.toNatClampNeg).toInt / 64 - (on s.toNatClampNeg).toInt / 64 := by rw [n_sub, tal, eal, zw_id (by omega) (by omega)]
    have en : (-(tl - al)).toInt = (on s.toNatClampNeg).toInt / 64 - (on x.toNatClampNeg).toInt / 64 := by rw [n_neg, ed, zw_id (by omega) (by omega)]; omega
    refine ⟨fun z => absurd rfl z, fun _ => ⟨fun t => go R ?_, fun t => ⟨fun u => go R ?_, fun u => go _ ?_⟩⟩⟩
    · rw [n_le, n_0, en] at t
      rw [rs, if_neg (by omega)]
    · rw [n_lt, en] at u
      rw [rs, if_neg (by omega)]
    · rw [n_le, n_0, en] at t
      rw [n_lt, en] at u
      rw [rs, if_pos (by omega), n_sub, en, n_1, zw_id (by omega) (by omega)]
  refine mx_go 100 zq_t64 ?_
  show ((2 : Int32) ≤ (3 : Int32) → vp_in s 10 ∧ mx g (d) kX7_coordinate 0 [.int (((M 26) (Int32.toNatClampNeg s))), .int (3)] [] M _) ∧ (¬ (2 : Int32) ≤ (3 : Int32) → vp_in s 10 ∧ mx g (d) kX7_coordinate 0 [.int (((M 26) (Int32.toNatClampNeg s))), .int (3)] [] M _)
  rw [ho]
  refine ⟨fun z => ⟨sin, ?_⟩, fun z => absurd (by decide) z⟩
  refine c_coordO (by decide) ?_
  show vp_in s 10 ∧ mx g (d) kX7_coordinate 0 [.int (((M 26) (Int32.toNatClampNeg s))), .int ((3 + 1))] [] M _
  rw [ho]
  refine ⟨sin, ?_⟩
  refine c_coordE (by decide) ?_
  show ((0 : Int32) = 0 → mx g (d + 1) kX7_roomAhead 52 [.ref 1, .ref 26, .null, .int (3), .int (0), .int (((on s.toNatClampNeg) / 64)), .int (((on s.toNatClampNeg) - (on s.toNatClampNeg) / 64 * 64)), .int (((on s.toNatClampNeg) / 64)), .int (0), .null] [] M Q) ∧ (¬ (0 : Int32) = 0 → mx g (d + 1) kX7_roomAhead 52 [.ref 1, .ref 26, .null, .int (3), .int (0), .int (((on s.toNatClampNeg) / 64)), .int (((on s.toNatClampNeg) - (on s.toNatClampNeg) / 64 * 64)), .int ((63 - ((on s.toNatClampNeg) / 64))), .int (0), .null] [] M Q)
  refine ⟨fun _ => key _ _ _ ?_ eal eac, fun z => absurd rfl z⟩
  rw [edg_3, eal]
theorem c_room26 {g : zq_G} {d : Nat} {M : zq_M} {Q : Option Value → zq_M → Prop} {s n w : Int32} {on : Nat → Int32} (hn : M 1 3 = n) (ho : M 26 = on) (b1 : 0 ≤ n.toInt) (b2 : n.toInt ≤ 10) (s1 : 0 ≤ s.toInt) (s2 : s.toInt < n.toInt) (hb : ∀ i : Nat, (i : Int) < n.toInt → 0 ≤ (on i).toInt ∧ (on i).toInt ≤ 4095) (w1 : 0 ≤ w.toInt) (w2 : w.toInt ≤ 3) (hq : ∀ R : Int32, R.toInt = rmK on (on s.toNatClampNeg).toInt w.toInt n.toInt.toNat → Q (some (.int R)) M) : mx g (d + 1) kX7_roomAhead 0 [.ref 1, .ref 26, .int s, .int w, .null, .null, .null, .null, .null, .null] [] M Q := by
  rcases w_cases w1 w2 with e | e | e | e
  · obtain rfl : w = 0 := (n_eq _ _).mpr e
    exact c_room26_0 hn ho b1 b2 s1 s2 hb hq
  · obtain rfl : w = 1 := (n_eq _ _).mpr e
    exact c_room26_1 hn ho b1 b2 s1 s2 hb hq
  · obtain rfl : w = 2 := (n_eq _ _).mpr e
    exact c_room26_2 hn ho b1 b2 s1 s2 hb hq
  · obtain rfl : w = 3 := (n_eq _ _).mpr e
    exact c_room26_3 hn ho b1 b2 s1 s2 hb hq
theorem c_room3_0 {g : zq_G} {d : Nat} {M : zq_M} {Q : Option Value → zq_M → Prop} {s n : Int32} {on : Nat → Int32} (hn : M 1 3 = n) (ho : M 3 = on) (b1 : 0 ≤ n.toInt) (b2 : n.toInt ≤ 10) (s1 : 0 ≤ s.toInt) (s2 : s.toInt < n.toInt) (hb : ∀ i : Nat, (i : Int) < n.toInt → 0 ≤ (on i).toInt ∧ (on i).toInt ≤ 4095) (hq : ∀ R : Int32, R.toInt = rmK on (on s.toNatClampNeg).toInt 0 n.toInt.toNat → Q (some (.int R)) M) : mx g (d + 1) kX7_roomAhead 0 [.ref 1, .ref 3, .int s, .int 0, .null, .null, .null, .null, .null, .null] [] M Q := by
  have sin : vp_in s 10 := n_in s1 (by omega)
  have hs := hb s.toNatClampNeg (by rw [n_cl]; omega)
  have f63 : (63 : Int32).toInt = 63 := rfl
  have eal : ((on s.toNatClampNeg) - (on s.toNatClampNeg) / 64 * 64).toInt = (on s.toNatClampNeg).toInt % 64 := rem64 hs.1
  have eac : ((on s.toNatClampNeg) / 64).toInt = (on s.toNatClampNeg).toInt / 64 := div64 hs.1
  have key : ∀ R0 al ac : Int32, R0.toInt = edg (on s.toNatClampNeg).toInt 0 → al.toInt = (on s.toNatClampNeg).toInt % 64 → ac.toInt = (on s.toNatClampNeg).toInt / 64 → mx g (d + 1) kX7_roomAhead 52 [.ref 1, .ref 3, .null, .int 0, .int 1, .int al, .int ac, .int R0, .int 0, .null] [] M Q := by
    clear eal eac
    intro R0 al ac hR0 eal eac
    refine mx_wf2 (fun R x : Int32 => [.ref 1, .ref 3, .null, .int 0, .int 1, .int al, .int ac, .int R, .int x, .null]) (fun R x M' => M' = M ∧ 0 ≤ x.toInt ∧ x.toInt ≤ n.toInt ∧ R.toInt = rmK on (on s.toNatClampNeg).toInt 0 x.toInt.toNat) (fun _ x => (n.toInt - x.toInt).toNat) ?_ R0 0 M ⟨rfl, by decide, b1, hR0⟩
    intro R x M' ⟨e, i1, i2, i3⟩ ih
    subst e
    refine mx_go 100 zq_t64 ?_
    show (((M' 1 3) : Int32) ≤ (x : Int32) → Q (some (.int R)) M') ∧ (¬ ((M' 1 3) : Int32) ≤ (x : Int32) → vp_in x 10 ∧ mx g (d) kX7_coordinate 0 [.int (((M' 3) (Int32.toNatClampNeg x))), .int ((0 + 1))] [] M' _)
    rw [hn, ho]
    have rb := (rm_ok (on := on) (p := (on s.toNatClampNeg).toInt) (w := 0) (by decide) (by decide) hs.1 hs.2 x.toInt.toNat (fun i hi => hb i (by omega)))
    have rb1 := rb.1
    have rb2 := rb.2.1
    have eb := edg_b (p := (on s.toNatClampNeg).toInt) (w := 0) (by decide) (by decide) hs.1 hs.2
    refine ⟨fun q => ?_, fun q => ⟨n_in i1 (by rw [n_le] at q; omega), ?_⟩⟩
    · rw [n_le] at q
      exact hq R (by rw [i3, show x.toInt = n.toInt by omega])
    rw [n_le] at q
    have hx := hb x.toNatClampNeg (by rw [n_cl]; omega)
    have up := n_up (n := n) i1 (by omega)
    have tal : ((on x.toNatClampNeg) - (on x.toNatClampNeg) / 64 * 64).toInt = (on x.toNatClampNeg).toInt % 64 := rem64 hx.1
    have tac : ((on x.toNatClampNeg) / 64).toInt = (on x.toNatClampNeg).toInt / 64 := div64 hx.1
    have rs : rmK on (on s.toNatClampNeg).toInt 0 (x + 1).toInt.toNat = if 1 ≤ dis (on x.toNatClampNeg).toInt (on s.toNatClampNeg).toInt 0 ∧ dis (on x.toNatClampNeg).toInt (on s.toNatClampNeg).toInt 0 ≤ R.toInt then dis (on x.toNatClampNeg).toInt (on s.toNatClampNeg).toInt 0 - 1 else R.toInt := by
      rw [show (x + 1).toInt.toNat = x.toInt.toNat + 1 by omega, i3]
      rfl
    have go : ∀ R2 : Int32, R2.toInt = rmK on (on s.toNatClampNeg).toInt 0 (x + 1).toInt.toNat → mx g (d + 1) kX7_roomAhead 52 [.ref 1, .ref 3, .null, .int 0, .int 1, .int al, .int ac, .int R2, .int (x + 1), .null] [] M' Q := fun R2 h2 => ih R2 (x + 1) M' (by omega) ⟨rfl, by omega, by omega, h2⟩
    refine c_coordO (by decide) ?_
    show (¬ (((on x.toNatClampNeg) / 64) : Int32) = (ac : Int32) → mx g (d + 1) kX7_roomAhead 52 [.ref 1, .ref 3, .null, .int (0), .int (1), .int (al), .int (ac), .int (R), .int ((x + 1)), .null] [] M' Q) ∧ ((((on x.toNatClampNeg) / 64) : Int32) = (ac : Int32) → vp_in x 10 ∧ mx g (d) kX7_coordinate 0 [.int (((M' 3) (Int32.toNatClampNeg x))), .int (0)] [] M' _)
    rw [ho]
    refine ⟨fun r => go R ?_, fun r => ⟨n_in i1 (by omega), ?_⟩⟩
    · rw [n_eq, tac, eac] at r
      rw [rs, dis_0, if_neg r, if_neg (by omega)]
    rw [n_eq, tac, eac] at r
    refine c_coordE (by decide) ?_
    rw [dis_0, if_pos r] at rs
    show (¬ (1 : Int32) = 0 → (((((on x.toNatClampNeg) - (on x.toNatClampNeg) / 64 * 64) - al) : Int32) ≤ 0 → mx g (d + 1) kX7_roomAhead 52 [.ref 1, .ref 3, .null, .int (0), .int (1), .int (al), .int (ac), .int (R), .int ((x + 1)), .null] [] M' Q) ∧ (¬ ((((on x.toNatClampNeg) - (on x.toNatClampNeg) / 64 * 64) - al) : Int32) ≤ 0 → ((R : Int32) < ((((on x.toNatClampNeg) - (on x.toNatClampNeg) / 64 * 64) - al) : Int32) → mx g (d + 1) kX7_roomAhead 52 [.ref 1, .ref 3, .null, .int (0), .int (1), .int (al), .int (ac), .int (R), .int ((x + 1)), .null] [] M' Q) ∧ (¬ (R : Int32) < ((((on x.toNatClampNeg) - (on x.toNatClampNeg) / 64 * 64) - al) : Int32) → mx g (d + 1) kX7_roomAhead 52 [.ref 1, .ref 3, .null, .int (0), .int (1), .int (al), .int (ac), .int (((((on x.toNatClampNeg) - (on x.toNatClampNeg) / 64 * 64) - al) - 1)), .int ((x + 1)), .null] [] M' Q))) ∧ ((1 : Int32) = 0 → (((-(((on x.toNatClampNeg) - (on x.toNatClampNeg) / 64 * 64) - al)) : Int32) ≤ 0 → mx g (d + 1) kX7_roomAhead 52 [.ref 1, .ref 3, .null, .int (0), .int (1), .int (al), .int (ac), .int (R), .int ((x + 1)), .null] [] M' Q) ∧ (¬ ((-(((on x.toNatClampNeg) - (on x.toNatClampNeg) / 64 * 64) - al)) : Int32) ≤ 0 → ((R : Int32) < ((-(((on x.toNatClampNeg) - (on x.toNatClampNeg) / 64 * 64) - al)) : Int32) → mx g (d + 1) kX7_roomAhead 52 [.ref 1, .ref 3, .null, .int (0), .int (1), .int (al), .int (ac), .int (R), .int ((x + 1)), .null] [] M' Q) ∧ (¬ (R : Int32) < ((-(((on x.toNatClampNeg) - (on x.toNatClampNeg) / 64 * 64) - al)) : Int32) → mx g (d + 1) kX7_roomAhead 52 [.ref 1, .ref 3, .null, .int (0), .int (1), .int (al), .int (ac), .int (((-(((on x.toNatClampNeg) - (on x.toNatClampNeg) / 64 * 64) - al)) - 1)), .int ((x + 1)), .null] [] M' Q)))
    generalize ((on x.toNatClampNeg) - (on x.toNatClampNeg) / 64 * 64) = tl at tal ⊢
    have ed : (tl - al).toInt = (on x.toNatClampNeg).toInt % 64 - (on s.toNatClampNeg).toInt % 64 := by rw [n_sub, tal, eal, zw_id (by omega) (by omega)]
    refine ⟨fun _ => ⟨fun t => go R ?_, fun t => ⟨fun u => go R ?_, fun u => go _ ?_⟩⟩, fun z => absurd z (by decide)⟩
    · rw [n_le, n_0, ed] at t
      rw [rs, if_neg (by omega)]
    · rw [n_lt, ed] at u
      rw [rs, if_neg (by omega)]
    · rw [n_le, n_0, ed] at t
      rw [n_lt, ed] at u
      rw [rs, if_pos (by omega), n_sub, ed, n_1, zw_id (by omega) (by omega)]
  refine mx_go 100 zq_t64 ?_
  show ((2 : Int32) ≤ (0 : Int32) → vp_in s 10 ∧ mx g (d) kX7_coordinate 0 [.int (((M 3) (Int32.toNatClampNeg s))), .int (0)] [] M _) ∧ (¬ (2 : Int32) ≤ (0 : Int32) → vp_in s 10 ∧ mx g (d) kX7_coordinate 0 [.int (((M 3) (Int32.toNatClampNeg s))), .int (0)] [] M _)
  rw [ho]
  refine ⟨fun z => absurd z (by decide), fun z => ⟨sin, ?_⟩⟩
  refine c_coordE (by decide) ?_
  show vp_in s 10 ∧ mx g (d) kX7_coordinate 0 [.int (((M 3) (Int32.toNatClampNeg s))), .int ((0 + 1))] [] M _
  rw [ho]
  refine ⟨sin, ?_⟩
  refine c_coordO (by decide) ?_
  show ((1 : Int32) = 0 → mx g (d + 1) kX7_roomAhead 52 [.ref 1, .ref 3, .null, .int (0), .int (1), .int (((on s.toNatClampNeg) - (on s.toNatClampNeg) / 64 * 64)), .int (((on s.toNatClampNeg) / 64)), .int (((on s.toNatClampNeg) - (on s.toNatClampNeg) / 64 * 64)), .int (0), .null] [] M Q) ∧ (¬ (1 : Int32) = 0 → mx g (d + 1) kX7_roomAhead 52 [.ref 1, .ref 3, .null, .int (0), .int (1), .int (((on s.toNatClampNeg) - (on s.toNatClampNeg) / 64 * 64)), .int (((on s.toNatClampNeg) / 64)), .int ((63 - ((on s.toNatClampNeg) - (on s.toNatClampNeg) / 64 * 64))), .int (0), .null] [] M Q)
  refine ⟨fun z => absurd z (by decide), fun _ => key _ _ _ ?_ eal eac⟩
  rw [edg_0, n_sub, f63, eal, zw_id (by omega) (by omega)]
theorem c_room3_1 {g : zq_G} {d : Nat} {M : zq_M} {Q : Option Value → zq_M → Prop} {s n : Int32} {on : Nat → Int32} (hn : M 1 3 = n) (ho : M 3 = on) (b1 : 0 ≤ n.toInt) (b2 : n.toInt ≤ 10) (s1 : 0 ≤ s.toInt) (s2 : s.toInt < n.toInt) (hb : ∀ i : Nat, (i : Int) < n.toInt → 0 ≤ (on i).toInt ∧ (on i).toInt ≤ 4095) (hq : ∀ R : Int32, R.toInt = rmK on (on s.toNatClampNeg).toInt 1 n.toInt.toNat → Q (some (.int R)) M) : mx g (d + 1) kX7_roomAhead 0 [.ref 1, .ref 3, .int s, .int 1, .null, .null, .null, .null, .null, .null] [] M Q := by
  have sin : vp_in s 10 := n_in s1 (by omega)
  have hs := hb s.toNatClampNeg (by rw [n_cl]; omega)
  have f63 : (63 : Int32).toInt = 63 := rfl
  have eal : ((on s.toNatClampNeg) / 64).toInt = (on s.toNatClampNeg).toInt / 64 := div64 hs.1
  have eac : ((on s.toNatClampNeg) - (on s.toNatClampNeg) / 64 * 64).toInt = (on s.toNatClampNeg).toInt % 64 := rem64 hs.1
  have key : ∀ R0 al ac : Int32, R0.toInt = edg (on s.toNatClampNeg).toInt 1 → al.toInt = (on s.toNatClampNeg).toInt / 64 → ac.toInt = (on s.toNatClampNeg).toInt % 64 → mx g (d + 1) kX7_roomAhead 52 [.ref 1, .ref 3, .null, .int 1, .int 1, .int al, .int ac, .int R0, .int 0, .null] [] M Q := by
    clear eal eac
    intro R0 al ac hR0 eal eac
    refine mx_wf2 (fun R x : Int32 => [.ref 1, .ref 3, .null, .int 1, .int 1, .int al, .int ac, .int R, .int x, .null]) (fun R x M' => M' = M ∧ 0 ≤ x.toInt ∧ x.toInt ≤ n.toInt ∧ R.toInt = rmK on (on s.toNatClampNeg).toInt 1 x.toInt.toNat) (fun _ x => (n.toInt - x.toInt).toNat) ?_ R0 0 M ⟨rfl, by decide, b1, hR0⟩
    intro R x M' ⟨e, i1, i2, i3⟩ ih
    subst e
    refine mx_go 100 zq_t64 ?_
    show (((M' 1 3) : Int32) ≤ (x : Int32) → Q (some (.int R)) M') ∧ (¬ ((M' 1 3) : Int32) ≤ (x : Int32) → vp_in x 10 ∧ mx g (d) kX7_coordinate 0 [.int (((M' 3) (Int32.toNatClampNeg x))), .int ((1 + 1))] [] M' _)
    rw [hn, ho]
    have rb := (rm_ok (on := on) (p := (on s.toNatClampNeg).toInt) (w := 1) (by decide) (by decide) hs.1 hs.2 x.toInt.toNat (fun i hi => hb i (by omega)))
    have rb1 := rb.1
    have rb2 := rb.2.1
    have eb := edg_b (p := (on s.toNatClampNeg).toInt) (w := 1) (by decide) (by decide) hs.1 hs.2
    refine ⟨fun q => ?_, fun q => ⟨n_in i1 (by rw [n_le] at q; omega), ?_⟩⟩
    · rw [n_le] at q
      exact hq R (by rw [i3, show x.toInt = n.toInt by omega])
    rw [n_le] at q
    have hx := hb x.toNatClampNeg (by rw [n_cl]; omega)
    have up := n_up (n := n) i1 (by omega)
    have tal : ((on x.toNatClampNeg) / 64).toInt = (on x.toNatClampNeg).toInt / 64 := div64 hx.1
    have tac : ((on x.toNatClampNeg) - (on x.toNatClampNeg) / 64 * 64).toInt = (on x.toNatClampNeg).toInt % 64 := rem64 hx.1
    have rs : rmK on (on s.toNatClampNeg).toInt 1 (x + 1).toInt.toNat = if 1 ≤ dis (on x.toNatClampNeg).toInt (on s.toNatClampNeg).toInt 1 ∧ dis (on x.toNatClampNeg).toInt (on s.toNatClampNeg).toInt 1 ≤ R.toInt then dis (on x.toNatClampNeg).toInt (on s.toNatClampNeg).toInt 1 - 1 else R.toInt := by
      rw [show (x + 1).toInt.toNat = x.toInt.toNat + 1 by omega, i3]
      rfl
    have go : ∀ R2 : Int32, R2.toInt = rmK on (on s.toNatClampNeg).toInt 1 (x + 1).toInt.toNat → mx g (d + 1) kX7_roomAhead 52 [.ref 1, .ref 3, .null, .int 1, .int 1, .int al, .int ac, .int R2, .int (x + 1), .null] [] M' Q := fun R2 h2 => ih R2 (x + 1) M' (by omega) ⟨rfl, by omega, by omega, h2⟩
    refine c_coordE (by decide) ?_
    show (¬ (((on x.toNatClampNeg) - (on x.toNatClampNeg) / 64 * 64) : Int32) = (ac : Int32) → mx g (d + 1) kX7_roomAhead 52 [.ref 1, .ref 3, .null, .int (1), .int (1), .int (al), .int (ac), .int (R), .int ((x + 1)), .null] [] M' Q) ∧ ((((on x.toNatClampNeg) - (on x.toNatClampNeg) / 64 * 64) : Int32) = (ac : Int32) → vp_in x 10 ∧ mx g (d) kX7_coordinate 0 [.int (((M' 3) (Int32.toNatClampNeg x))), .int (1)] [] M' _)
    rw [ho]
    refine ⟨fun r => go R ?_, fun r => ⟨n_in i1 (by omega), ?_⟩⟩
    · rw [n_eq, tac, eac] at r
      rw [rs, dis_1, if_neg r, if_neg (by omega)]
    rw [n_eq, tac, eac] at r
    refine c_coordO (by decide) ?_
    rw [dis_1, if_pos r] at rs
    show (¬ (1 : Int32) = 0 → (((((on x.toNatClampNeg) / 64) - al) : Int32) ≤ 0 → mx g (d + 1) kX7_roomAhead 52 [.ref 1, .ref 3, .null, .int (1), .int (1), .int (al), .int (ac), .int (R), .int ((x + 1)), .null] [] M' Q) ∧ (¬ ((((on x.toNatClampNeg) / 64) - al) : Int32) ≤ 0 → ((R : Int32) < ((((on x.toNatClampNeg) / 64) - al) : Int32) → mx g (d + 1) kX7_roomAhead 52 [.ref 1, .ref 3, .null, .int (1), .int (1), .int (al), .int (ac), .int (R), .int ((x + 1)), .null] [] M' Q) ∧ (¬ (R : Int32) < ((((on x.toNatClampNeg) / 64) - al) : Int32) → mx g (d + 1) kX7_roomAhead 52 [.ref 1, .ref 3, .null, .int (1), .int (1), .int (al), .int (ac), .int (((((on x.toNatClampNeg) / 64) - al) - 1)), .int ((x + 1)), .null] [] M' Q))) ∧ ((1 : Int32) = 0 → (((-(((on x.toNatClampNeg) / 64) - al)) : Int32) ≤ 0 → mx g (d + 1) kX7_roomAhead 52 [.ref 1, .ref 3, .null, .int (1), .int (1), .int (al), .int (ac), .int (R), .int ((x + 1)), .null] [] M' Q) ∧ (¬ ((-(((on x.toNatClampNeg) / 64) - al)) : Int32) ≤ 0 → ((R : Int32) < ((-(((on x.toNatClampNeg) / 64) - al)) : Int32) → mx g (d + 1) kX7_roomAhead 52 [.ref 1, .ref 3, .null, .int (1), .int (1), .int (al), .int (ac), .int (R), .int ((x + 1)), .null] [] M' Q) ∧ (¬ (R : Int32) < ((-(((on x.toNatClampNeg) / 64) - al)) : Int32) → mx g (d + 1) kX7_roomAhead 52 [.ref 1, .ref 3, .null, .int (1), .int (1), .int (al), .int (ac), .int (((-(((on x.toNatClampNeg) / 64) - al)) - 1)), .int ((x + 1)), .null] [] M' Q)))
    generalize ((on x.toNatClampNeg) / 64) = tl at tal ⊢
    have ed : (tl - al).toInt = (on x.toNatClampNeg).toInt / 64 - (on s.toNatClampNeg).toInt / 64 := by rw [n_sub, tal, eal, zw_id (by omega) (by omega)]
    refine ⟨fun _ => ⟨fun t => go R ?_, fun t => ⟨fun u => go R ?_, fun u => go _ ?_⟩⟩, fun z => absurd z (by decide)⟩
    · rw [n_le, n_0, ed] at t
      rw [rs, if_neg (by omega)]
    · rw [n_lt, ed] at u
      rw [rs, if_neg (by omega)]
    · rw [n_le, n_0, ed] at t
      rw [n_lt, ed] at u
      rw [rs, if_pos (by omega), n_sub, ed, n_1, zw_id (by omega) (by omega)]
  refine mx_go 100 zq_t64 ?_
  show ((2 : Int32) ≤ (1 : Int32) → vp_in s 10 ∧ mx g (d) kX7_coordinate 0 [.int (((M 3) (Int32.toNatClampNeg s))), .int (1)] [] M _) ∧ (¬ (2 : Int32) ≤ (1 : Int32) → vp_in s 10 ∧ mx g (d) kX7_coordinate 0 [.int (((M 3) (Int32.toNatClampNeg s))), .int (1)] [] M _)
  rw [ho]
  refine ⟨fun z => absurd z (by decide), fun z => ⟨sin, ?_⟩⟩
  refine c_coordO (by decide) ?_
  show vp_in s 10 ∧ mx g (d) kX7_coordinate 0 [.int (((M 3) (Int32.toNatClampNeg s))), .int ((1 + 1))] [] M _
  rw [ho]
  refine ⟨sin, ?_⟩
  refine c_coordE (by decide) ?_
  show ((1 : Int32) = 0 → mx g (d + 1) kX7_roomAhead 52 [.ref 1, .ref 3, .null, .int (1), .int (1), .int (((on s.toNatClampNeg) / 64)), .int (((on s.toNatClampNeg) - (on s.toNatClampNeg) / 64 * 64)), .int (((on s.toNatClampNeg) / 64)), .int (0), .null] [] M Q) ∧ (¬ (1 : Int32) = 0 → mx g (d + 1) kX7_roomAhead 52 [.ref 1, .ref 3, .null, .int (1), .int (1), .int (((on s.toNatClampNeg) / 64)), .int (((on s.toNatClampNeg) - (on s.toNatClampNeg) / 64 * 64)), .int ((63 - ((on s.toNatClampNeg) / 64))), .int (0), .null] [] M Q)
  refine ⟨fun z => absurd z (by decide), fun _ => key _ _ _ ?_ eal eac⟩
  rw [edg_1, n_sub, f63, eal, zw_id (by omega) (by omega)]
theorem c_room3_2 {g : zq_G} {d : Nat} {M : zq_M} {Q : Option Value → zq_M → Prop} {s n : Int32} {on : Nat → Int32} (hn : M 1 3 = n) (ho : M 3 = on) (b1 : 0 ≤ n.toInt) (b2 : n.toInt ≤ 10) (s1 : 0 ≤ s.toInt) (s2 : s.toInt < n.toInt) (hb : ∀ i : Nat, (i : Int) < n.toInt → 0 ≤ (on i).toInt ∧ (on i).toInt ≤ 4095) (hq : ∀ R : Int32, R.toInt = rmK on (on s.toNatClampNeg).toInt 2 n.toInt.toNat → Q (some (.int R)) M) : mx g (d + 1) kX7_roomAhead 0 [.ref 1, .ref 3, .int s, .int 2, .null, .null, .null, .null, .null, .null] [] M Q := by
  have sin : vp_in s 10 := n_in s1 (by omega)
  have hs := hb s.toNatClampNeg (by rw [n_cl]; omega)
  have f63 : (63 : Int32).toInt = 63 := rfl
  have eal : ((on s.toNatClampNeg) - (on s.toNatClampNeg) / 64 * 64).toInt = (on s.toNatClampNeg).toInt % 64 := rem64 hs.1
  have eac : ((on s.toNatClampNeg) / 64).toInt = (on s.toNatClampNeg).toInt / 64 := div64 hs.1
  have key : ∀ R0 al ac : Int32, R0.toInt = edg (on s.toNatClampNeg).toInt 2 → al.toInt = (on s.toNatClampNeg).toInt % 64 → ac.toInt = (on s.toNatClampNeg).toInt / 64 → mx g (d + 1) kX7_roomAhead 52 [.ref 1, .ref 3, .null, .int 2, .int 0, .int al, .int ac, .int R0, .int 0, .null] [] M Q := by
    clear eal eac
    intro R0 al ac hR0 eal eac
    refine mx_wf2 (fun R x : Int32 => [.ref 1, .ref 3, .null, .int 2, .int 0, .int al, .int ac, .int R, .int x, .null]) (fun R x M' => M' = M ∧ 0 ≤ x.toInt ∧ x.toInt ≤ n.toInt ∧ R.toInt = rmK on (on s.toNatClampNeg).toInt 2 x.toInt.toNat) (fun _ x => (n.toInt - x.toInt).toNat) ?_ R0 0 M ⟨rfl, by decide, b1, hR0⟩
    intro R x M' ⟨e, i1, i2, i3⟩ ih
    subst e
    refine mx_go 100 zq_t64 ?_
    show (((M' 1 3) : Int32) ≤ (x : Int32) → Q (some (.int R)) M') ∧ (¬ ((M' 1 3) : Int32) ≤ (x : Int32) → vp_in x 10 ∧ mx g (d) kX7_coordinate 0 [.int (((M' 3) (Int32.toNatClampNeg x))), .int ((2 + 1))] [] M' _)
    rw [hn, ho]
    have rb := (rm_ok (on := on) (p := (on s.toNatClampNeg).toInt) (w := 2) (by decide) (by decide) hs.1 hs.2 x.toInt.toNat (fun i hi => hb i (by omega)))
    have rb1 := rb.1
    have rb2 := rb.2.1
    have eb := edg_b (p := (on s.toNatClampNeg).toInt) (w := 2) (by decide) (by decide) hs.1 hs.2
    refine ⟨fun q => ?_, fun q => ⟨n_in i1 (by rw [n_le] at q; omega), ?_⟩⟩
    · rw [n_le] at q
      exact hq R (by rw [i3, show x.toInt = n.toInt by omega])
    rw [n_le] at q
    have hx := hb x.toNatClampNeg (by rw [n_cl]; omega)
    have up := n_up (n := n) i1 (by omega)
    have tal : ((on x.toNatClampNeg) - (on x.toNatClampNeg) / 64 * 64).toInt = (on x.toNatClampNeg).toInt % 64 := rem64 hx.1
    have tac : ((on x.toNatClampNeg) / 64).toInt = (on x.toNatClampNeg).toInt / 64 := div64 hx.1
    have rs : rmK on (on s.toNatClampNeg).toInt 2 (x + 1).toInt.toNat = if 1 ≤ dis (on x.toNatClampNeg).toInt (on s.toNatClampNeg).toInt 2 ∧ dis (on x.toNatClampNeg).toInt (on s.toNatClampNeg).toInt 2 ≤ R.toInt then dis (on x.toNatClampNeg).toInt (on s.toNatClampNeg).toInt 2 - 1 else R.toInt := by
      rw [show (x + 1).toInt.toNat = x.toInt.toNat + 1 by omega, i3]
      rfl
    have go : ∀ R2 : Int32, R2.toInt = rmK on (on s.toNatClampNeg).toInt 2 (x + 1).toInt.toNat → mx g (d + 1) kX7_roomAhead 52 [.ref 1, .ref 3, .null, .int 2, .int 0, .int al, .int ac, .int R2, .int (x + 1), .null] [] M' Q := fun R2 h2 => ih R2 (x + 1) M' (by omega) ⟨rfl, by omega, by omega, h2⟩
    refine c_coordO (by decide) ?_
    show (¬ (((on x.toNatClampNeg) / 64) : Int32) = (ac : Int32) → mx g (d + 1) kX7_roomAhead 52 [.ref 1, .ref 3, .null, .int (2), .int (0), .int (al), .int (ac), .int (R), .int ((x + 1)), .null] [] M' Q) ∧ ((((on x.toNatClampNeg) / 64) : Int32) = (ac : Int32) → vp_in x 10 ∧ mx g (d) kX7_coordinate 0 [.int (((M' 3) (Int32.toNatClampNeg x))), .int (2)] [] M' _)
    rw [ho]
    refine ⟨fun r => go R ?_, fun r => ⟨n_in i1 (by omega), ?_⟩⟩
    · rw [n_eq, tac, eac] at r
      rw [rs, dis_2, if_neg r, if_neg (by omega)]
    rw [n_eq, tac, eac] at r
    refine c_coordE (by decide) ?_
    rw [dis_2, if_pos r] at rs
    show (¬ (0 : Int32) = 0 → (((((on x.toNatClampNeg) - (on x.toNatClampNeg) / 64 * 64) - al) : Int32) ≤ 0 → mx g (d + 1) kX7_roomAhead 52 [.ref 1, .ref 3, .null, .int (2), .int (0), .int (al), .int (ac), .int (R), .int ((x + 1)), .null] [] M' Q) ∧ (¬ ((((on x.toNatClampNeg) - (on x.toNatClampNeg) / 64 * 64) - al) : Int32) ≤ 0 → ((R : Int32) < ((((on x.toNatClampNeg) - (on x.toNatClampNeg) / 64 * 64) - al) : Int32) → mx g (d + 1) kX7_roomAhead 52 [.ref 1, .ref 3, .null, .int (2), .int (0), .int (al), .int (ac), .int (R), .int ((x + 1)), .null] [] M' Q) ∧ (¬ (R : Int32) < ((((on x.toNatClampNeg) - (on x.toNatClampNeg) / 64 * 64) - al) : Int32) → mx g (d + 1) kX7_roomAhead 52 [.ref 1, .ref 3, .null, .int (2), .int (0), .int (al), .int (ac), .int (((((on x.toNatClampNeg) - (on x.toNatClampNeg) / 64 * 64) - al) - 1)), .int ((x + 1)), .null] [] M' Q))) ∧ ((0 : Int32) = 0 → (((-(((on x.toNatClampNeg) - (on x.toNatClampNeg) / 64 * 64) - al)) : Int32) ≤ 0 → mx g (d + 1) kX7_roomAhead 52 [.ref 1, .ref 3, .null, .int (2), .int (0), .int (al), .int (ac), .int (R), .int ((x + 1)), .null] [] M' Q) ∧ (¬ ((-(((on x.toNatClampNeg) - (on x.toNatClampNeg) / 64 * 64) - al)) : Int32) ≤ 0 → ((R : Int32) < ((-(((on x.toNatClampNeg) - (on x.toNatClampNeg) / 64 * 64) - al)) : Int32) → mx g (d + 1) kX7_roomAhead 52 [.ref 1, .ref 3, .null, .int (2), .int (0), .int (al), .int (ac), .int (R), .int ((x + 1)), .null] [] M' Q) ∧ (¬ (R : Int32) < ((-(((on x.toNatClampNeg) - (on x.toNatClampNeg) / 64 * 64) - al)) : Int32) → mx g (d + 1) kX7_roomAhead 52 [.ref 1, .ref 3, .null, .int (2), .int (0), .int (al), .int (ac), .int (((-(((on x.toNatClampNeg) - (on x.toNatClampNeg) / 64 * 64) - al)) - 1)), .int ((x + 1)), .null] [] M' Q)))
    generalize ((on x.toNatClampNeg) - (on x.toNatClampNeg) / 64 * 64) = tl at tal ⊢
    have ed : (tl - al).toInt = (on x.toNatClampNeg).toInt % 64 - (on s.toNatClampNeg).toInt % 64 := by rw [n_sub, tal, eal, zw_id (by omega) (by omega)]
    have en : (-(tl - al)).toInt = (on s.toNatClampNeg).toInt % 64 - (on x.toNatClampNeg).toInt % 64 := by rw [n_neg, ed, zw_id (by omega) (by omega)]; omega
    refine ⟨fun z => absurd rfl z, fun _ => ⟨fun t => go R ?_, fun t => ⟨fun u => go R ?_, fun u => go _ ?_⟩⟩⟩
    · rw [n_le, n_0, en] at t
      rw [rs, if_neg (by omega)]
    · rw [n_lt, en] at u
      rw [rs, if_neg (by omega)]
    · rw [n_le, n_0, en] at t
      rw [n_lt, en] at u
      rw [rs, if_pos (by omega), n_sub, en, n_1, zw_id (by omega) (by omega)]
  refine mx_go 100 zq_t64 ?_
  show ((2 : Int32) ≤ (2 : Int32) → vp_in s 10 ∧ mx g (d) kX7_coordinate 0 [.int (((M 3) (Int32.toNatClampNeg s))), .int (2)] [] M _) ∧ (¬ (2 : Int32) ≤ (2 : Int32) → vp_in s 10 ∧ mx g (d) kX7_coordinate 0 [.int (((M 3) (Int32.toNatClampNeg s))), .int (2)] [] M _)
  rw [ho]
  refine ⟨fun z => ⟨sin, ?_⟩, fun z => absurd (by decide) z⟩
  refine c_coordE (by decide) ?_
  show vp_in s 10 ∧ mx g (d) kX7_coordinate 0 [.int (((M 3) (Int32.toNatClampNeg s))), .int ((2 + 1))] [] M _
  rw [ho]
  refine ⟨sin, ?_⟩
  refine c_coordO (by decide) ?_
  show ((0 : Int32) = 0 → mx g (d + 1) kX7_roomAhead 52 [.ref 1, .ref 3, .null, .int (2), .int (0), .int (((on s.toNatClampNeg) - (on s.toNatClampNeg) / 64 * 64)), .int (((on s.toNatClampNeg) / 64)), .int (((on s.toNatClampNeg) - (on s.toNatClampNeg) / 64 * 64)), .int (0), .null] [] M Q) ∧ (¬ (0 : Int32) = 0 → mx g (d + 1) kX7_roomAhead 52 [.ref 1, .ref 3, .null, .int (2), .int (0), .int (((on s.toNatClampNeg) - (on s.toNatClampNeg) / 64 * 64)), .int (((on s.toNatClampNeg) / 64)), .int ((63 - ((on s.toNatClampNeg) - (on s.toNatClampNeg) / 64 * 64))), .int (0), .null] [] M Q)
  refine ⟨fun _ => key _ _ _ ?_ eal eac, fun z => absurd rfl z⟩
  rw [edg_2, eal]
theorem c_room3_3 {g : zq_G} {d : Nat} {M : zq_M} {Q : Option Value → zq_M → Prop} {s n : Int32} {on : Nat → Int32} (hn : M 1 3 = n) (ho : M 3 = on) (b1 : 0 ≤ n.toInt) (b2 : n.toInt ≤ 10) (s1 : 0 ≤ s.toInt) (s2 : s.toInt < n.toInt) (hb : ∀ i : Nat, (i : Int) < n.toInt → 0 ≤ (on i).toInt ∧ (on i).toInt ≤ 4095) (hq : ∀ R : Int32, R.toInt = rmK on (on s.toNatClampNeg).toInt 3 n.toInt.toNat → Q (some (.int R)) M) : mx g (d + 1) kX7_roomAhead 0 [.ref 1, .ref 3, .int s, .int 3, .null, .null, .null, .null, .null, .null] [] M Q := by
  have sin : vp_in s 10 := n_in s1 (by omega)
  have hs := hb s.toNatClampNeg (by rw [n_cl]; omega)
  have f63 : (63 : Int32).toInt = 63 := rfl
  have eal : ((on s.toNatClampNeg) / 64).toInt = (on s.toNatClampNeg).toInt / 64 := div64 hs.1
  have eac : ((on s.toNatClampNeg) - (on s.toNatClampNeg) / 64 * 64).toInt = (on s.toNatClampNeg).toInt % 64 := rem64 hs.1
  have key : ∀ R0 al ac : Int32, R0.toInt = edg (on s.toNatClampNeg).toInt 3 → al.toInt = (on s.toNatClampNeg).toInt / 64 → ac.toInt = (on s.toNatClampNeg).toInt % 64 → mx g (d + 1) kX7_roomAhead 52 [.ref 1, .ref 3, .null, .int 3, .int 0, .int al, .int ac, .int R0, .int 0, .null] [] M Q := by
    clear eal eac
    intro R0 al ac hR0 eal eac
    refine mx_wf2 (fun R x : Int32 => [.ref 1, .ref 3, .null, .int 3, .int 0, .int al, .int ac, .int R, .int x, .null]) (fun R x M' => M' = M ∧ 0 ≤ x.toInt ∧ x.toInt ≤ n.toInt ∧ R.toInt = rmK on (on s.toNatClampNeg).toInt 3 x.toInt.toNat) (fun _ x => (n.toInt - x.toInt).toNat) ?_ R0 0 M ⟨rfl, by decide, b1, hR0⟩
    intro R x M' ⟨e, i1, i2, i3⟩ ih
    subst e
    refine mx_go 100 zq_t64 ?_
    show (((M' 1 3) : Int32) ≤ (x : Int32) → Q (some (.int R)) M') ∧ (¬ ((M' 1 3) : Int32) ≤ (x : Int32) → vp_in x 10 ∧ mx g (d) kX7_coordinate 0 [.int (((M' 3) (Int32.toNatClampNeg x))), .int ((3 + 1))] [] M' _)
    rw [hn, ho]
    have rb := (rm_ok (on := on) (p := (on s.toNatClampNeg).toInt) (w := 3) (by decide) (by decide) hs.1 hs.2 x.toInt.toNat (fun i hi => hb i (by omega)))
    have rb1 := rb.1
    have rb2 := rb.2.1
    have eb := edg_b (p := (on s.toNatClampNeg).toInt) (w := 3) (by decide) (by decide) hs.1 hs.2
    refine ⟨fun q => ?_, fun q => ⟨n_in i1 (by rw [n_le] at q; omega), ?_⟩⟩
    · rw [n_le] at q
      exact hq R (by rw [i3, show x.toInt = n.toInt by omega])
    rw [n_le] at q
    have hx := hb x.toNatClampNeg (by rw [n_cl]; omega)
    have up := n_up (n := n) i1 (by omega)
    have tal : ((on x.toNatClampNeg) / 64).toInt = (on x.toNatClampNeg).toInt / 64 := div64 hx.1
    have tac : ((on x.toNatClampNeg) - (on x.toNatClampNeg) / 64 * 64).toInt = (on x.toNatClampNeg).toInt % 64 := rem64 hx.1
    have rs : rmK on (on s.toNatClampNeg).toInt 3 (x + 1).toInt.toNat = if 1 ≤ dis (on x.toNatClampNeg).toInt (on s.toNatClampNeg).toInt 3 ∧ dis (on x.toNatClampNeg).toInt (on s.toNatClampNeg).toInt 3 ≤ R.toInt then dis (on x.toNatClampNeg).toInt (on s.toNatClampNeg).toInt 3 - 1 else R.toInt := by
      rw [show (x + 1).toInt.toNat = x.toInt.toNat + 1 by omega, i3]
      rfl
    have go : ∀ R2 : Int32, R2.toInt = rmK on (on s.toNatClampNeg).toInt 3 (x + 1).toInt.toNat → mx g (d + 1) kX7_roomAhead 52 [.ref 1, .ref 3, .null, .int 3, .int 0, .int al, .int ac, .int R2, .int (x + 1), .null] [] M' Q := fun R2 h2 => ih R2 (x + 1) M' (by omega) ⟨rfl, by omega, by omega, h2⟩
    refine c_coordE (by decide) ?_
    show (¬ (((on x.toNatClampNeg) - (on x.toNatClampNeg) / 64 * 64) : Int32) = (ac : Int32) → mx g (d + 1) kX7_roomAhead 52 [.ref 1, .ref 3, .null, .int (3), .int (0), .int (al), .int (ac), .int (R), .int ((x + 1)), .null] [] M' Q) ∧ ((((on x.toNatClampNeg) - (on x.toNatClampNeg) / 64 * 64) : Int32) = (ac : Int32) → vp_in x 10 ∧ mx g (d) kX7_coordinate 0 [.int (((M' 3) (Int32.toNatClampNeg x))), .int (3)] [] M' _)
    rw [ho]
    refine ⟨fun r => go R ?_, fun r => ⟨n_in i1 (by omega), ?_⟩⟩
    · rw [n_eq, tac, eac] at r
      rw [rs, dis_3, if_neg r, if_neg (by omega)]
    rw [n_eq, tac, eac] at r
    refine c_coordO (by decide) ?_
    rw [dis_3, if_pos r] at rs
    show (¬ (0 : Int32) = 0 → (((((on x.toNatClampNeg) / 64) - al) : Int32) ≤ 0 → mx g (d + 1) kX7_roomAhead 52 [.ref 1, .ref 3, .null, .int (3), .int (0), .int (al), .int (ac), .int (R), .int ((x + 1)), .null] [] M' Q) ∧ (¬ ((((on x.toNatClampNeg) / 64) - al) : Int32) ≤ 0 → ((R : Int32) < ((((on x.toNatClampNeg) / 64) - al) : Int32) → mx g (d + 1) kX7_roomAhead 52 [.ref 1, .ref 3, .null, .int (3), .int (0), .int (al), .int (ac), .int (R), .int ((x + 1)), .null] [] M' Q) ∧ (¬ (R : Int32) < ((((on x.toNatClampNeg) / 64) - al) : Int32) → mx g (d + 1) kX7_roomAhead 52 [.ref 1, .ref 3, .null, .int (3), .int (0), .int (al), .int (ac), .int (((((on x.toNatClampNeg) / 64) - al) - 1)), .int ((x + 1)), .null] [] M' Q))) ∧ ((0 : Int32) = 0 → (((-(((on x.toNatClampNeg) / 64) - al)) : Int32) ≤ 0 → mx g (d + 1) kX7_roomAhead 52 [.ref 1, .ref 3, .null, .int (3), .int (0), .int (al), .int (ac), .int (R), .int ((x + 1)), .null] [] M' Q) ∧ (¬ ((-(((on x.toNatClampNeg) / 64) - al)) : Int32) ≤ 0 → ((R : Int32) < ((-(((on x.toNatClampNeg) / 64) - al)) : Int32) → mx g (d + 1) kX7_roomAhead 52 [.ref 1, .ref 3, .null, .int (3), .int (0), .int (al), .int (ac), .int (R), .int ((x + 1)), .null] [] M' Q) ∧ (¬ (R : Int32) < ((-(((on x.toNatClampNeg) / 64) - al)) : Int32) → mx g (d + 1) kX7_roomAhead 52 [.ref 1, .ref 3, .null, .int (3), .int (0), .int (al), .int (ac), .int (((-(((on x.toNatClampNeg) / 64) - al)) - 1)), .int ((x + 1)), .null] [] M' Q)))
    generalize ((on x.toNatClampNeg) / 64) = tl at tal ⊢
    have ed : (tl - al).toInt = (on x.toNatClampNeg).toInt / 64 - (on s.toNatClampNeg).toInt / 64 := by rw [n_sub, tal, eal, zw_id (by omega) (by omega)]
    have en : (-(tl - al)).toInt = (on s.toNatClampNeg).toInt / 64 - (on x.toNatClampNeg).toInt / 64 := by rw [n_neg, ed, zw_id (by omega) (by omega)]; omega
    refine ⟨fun z => absurd rfl z, fun _ => ⟨fun t => go R ?_, fun t => ⟨fun u => go R ?_, fun u => go _ ?_⟩⟩⟩
    · rw [n_le, n_0, en] at t
      rw [rs, if_neg (by omega)]
    · rw [n_lt, en] at u
      rw [rs, if_neg (by omega)]
    · rw [n_le, n_0, en] at t
      rw [n_lt, en] at u
      rw [rs, if_pos (by omega), n_sub, en, n_1, zw_id (by omega) (by omega)]
  refine mx_go 100 zq_t64 ?_
  show ((2 : Int32) ≤ (3 : Int32) → vp_in s 10 ∧ mx g (d) kX7_coordinate 0 [.int (((M 3) (Int32.toNatClampNeg s))), .int (3)] [] M _) ∧ (¬ (2 : Int32) ≤ (3 : Int32) → vp_in s 10 ∧ mx g (d) kX7_coordinate 0 [.int (((M 3) (Int32.toNatClampNeg s))), .int (3)] [] M _)
  rw [ho]
  refine ⟨fun z => ⟨sin, ?_⟩, fun z => absurd (by decide) z⟩
  refine c_coordO (by decide) ?_
  show vp_in s 10 ∧ mx g (d) kX7_coordinate 0 [.int (((M 3) (Int32.toNatClampNeg s))), .int ((3 + 1))] [] M _
  rw [ho]
  refine ⟨sin, ?_⟩
  refine c_coordE (by decide) ?_
  show ((0 : Int32) = 0 → mx g (d + 1) kX7_roomAhead 52 [.ref 1, .ref 3, .null, .int (3), .int (0), .int (((on s.toNatClampNeg) / 64)), .int (((on s.toNatClampNeg) - (on s.toNatClampNeg) / 64 * 64)), .int (((on s.toNatClampNeg) / 64)), .int (0), .null] [] M Q) ∧ (¬ (0 : Int32) = 0 → mx g (d + 1) kX7_roomAhead 52 [.ref 1, .ref 3, .null, .int (3), .int (0), .int (((on s.toNatClampNeg) / 64)), .int (((on s.toNatClampNeg) - (on s.toNatClampNeg) / 64 * 64)), .int ((63 - ((on s.toNatClampNeg) / 64))), .int (0), .null] [] M Q)
  refine ⟨fun _ => key _ _ _ ?_ eal eac, fun z => absurd rfl z⟩
  rw [edg_3, eal]
theorem c_room3 {g : zq_G} {d : Nat} {M : zq_M} {Q : Option Value → zq_M → Prop} {s n w : Int32} {on : Nat → Int32} (hn : M 1 3 = n) (ho : M 3 = on) (b1 : 0 ≤ n.toInt) (b2 : n.toInt ≤ 10) (s1 : 0 ≤ s.toInt) (s2 : s.toInt < n.toInt) (hb : ∀ i : Nat, (i : Int) < n.toInt → 0 ≤ (on i).toInt ∧ (on i).toInt ≤ 4095) (w1 : 0 ≤ w.toInt) (w2 : w.toInt ≤ 3) (hq : ∀ R : Int32, R.toInt = rmK on (on s.toNatClampNeg).toInt w.toInt n.toInt.toNat → Q (some (.int R)) M) : mx g (d + 1) kX7_roomAhead 0 [.ref 1, .ref 3, .int s, .int w, .null, .null, .null, .null, .null, .null] [] M Q := by
  rcases w_cases w1 w2 with e | e | e | e
  · obtain rfl : w = 0 := (n_eq _ _).mpr e
    exact c_room3_0 hn ho b1 b2 s1 s2 hb hq
  · obtain rfl : w = 1 := (n_eq _ _).mpr e
    exact c_room3_1 hn ho b1 b2 s1 s2 hb hq
  · obtain rfl : w = 2 := (n_eq _ _).mpr e
    exact c_room3_2 hn ho b1 b2 s1 s2 hb hq
  · obtain rfl : w = 3 := (n_eq _ _).mpr e
    exact c_room3_3 hn ho b1 b2 s1 s2 hb hq
