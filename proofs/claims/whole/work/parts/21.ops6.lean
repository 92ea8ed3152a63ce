abbrev wth (x : Int) : Prop := 0 ≤ x ∧ x ≤ 99999 ∧ x % 10 < 4
theorem w_num {v : Int32} (h : 0 ≤ v.toInt) : (v / 10000).toInt = v.toInt / 10000 ∧ (v / 1000 - v / 1000 / 10 * 10).toInt = v.toInt / 1000 % 10 ∧ (v / 10 - v / 10 / 100 * 100).toInt = v.toInt / 10 % 100 ∧ (v - v / 10 * 10).toInt = v.toInt % 10 := by
  have e1 : (v / 10000).toInt = v.toInt / 10000 := n_div 10000 (by decide) (by decide) h
  have e2 : (v / 1000).toInt = v.toInt / 1000 := n_div 1000 (by decide) (by decide) h
  have e3 : (v / 10).toInt = v.toInt / 10 := n_div 10 (by decide) (by decide) h
  have e4 : (v / 1000 - v / 1000 / 10 * 10).toInt = (v / 1000).toInt % 10 := n_rem 10 (by decide) (by decide) (by rw [e2]; omega)
  have e5 : (v / 10 - v / 10 / 100 * 100).toInt = (v / 10).toInt % 100 := n_rem 100 (by decide) (by decide) (by rw [e3]; omega)
  have e6 : (v - v / 10 * 10).toInt = v.toInt % 10 := n_rem 10 (by decide) (by decide) h
  exact ⟨e1, by rw [e4, e2], by rw [e5, e3], e6⟩
def fF (l : List Nat) (a b c i : Nat) : Bool := l.contains c || (c == a && i == b)
def cmX (M : zq_M) (v : Int32) : zq_M := zq_mu (zq_ma (zq_ma (zq_ma (zq_ma M 6 (upd (M 6) (M 5 4).toNatClampNeg (v / 10000))) 7 (upd (M 7) (M 5 4).toNatClampNeg (v / 1000 - v / 1000 / 10 * 10))) 8 (upd (M 8) (M 5 4).toNatClampNeg (v / 10 - v / 10 / 100 * 100))) 9 (upd (M 9) (M 5 4).toNatClampNeg (v - v / 10 * 10))) 5 4 (M 5 4 + 1)
theorem c_X2_come {g : zq_G} {d : Nat} {M : zq_M} {Q : Option Value → zq_M → Prop} {v : Int32} (b1 : 0 ≤ (M 5 4).toInt) (h1 : wth v.toInt → (M 5 4).toInt < 60 → Q (some (.int (M 5 4))) (cmX M v)) (hf : wth v.toInt → 60 ≤ (M 5 4).toInt → Q (some (.int (-4))) M) (h0 : ¬ wth v.toInt → Q (some (.int (-2))) M) : mx g d kX2_come 0 [.ref 5, .int v] [] M Q := by
  refine mx_go 100 zq_t13 ?_
  show ((v : Int32) < 0 → Q (some (.int (-2))) M) ∧ (¬ (v : Int32) < 0 → (¬ (10000 : Int32) = 0) ∧ ((9 : Int32) < ((v / 10000) : Int32) → Q (some (.int (-2))) M) ∧ (¬ (9 : Int32) < ((v / 10000) : Int32) → (¬ (10 : Int32) = 0) ∧ (((v - v / 10 * 10) : Int32) ≤ (3 : Int32) → (((M 5 4) : Int32) < (60 : Int32) → (¬ (10000 : Int32) = 0) ∧ vp_in (M 5 4) 60 ∧ (¬ (1000 : Int32) = 0) ∧ (¬ (10 : Int32) = 0) ∧ vp_in (M 5 4) 60 ∧ (¬ (10 : Int32) = 0) ∧ (¬ (100 : Int32) = 0) ∧ vp_in (M 5 4) 60 ∧ (¬ (10 : Int32) = 0) ∧ vp_in (M 5 4) 60 ∧ Q (some (.int (((M 5 4) + 1) - 1))) (zq_mu (zq_ma (zq_ma (zq_ma (zq_ma M 6 (upd (M 6) (Int32.toNatClampNeg (M 5 4)) (v / 10000))) 7 (upd (M 7) (Int32.toNatClampNeg (M 5 4)) ((v / 1000) - (v / 1000) / 10 * 10))) 8 (upd (M 8) (Int32.toNatClampNeg (M 5 4)) ((v / 10) - (v / 10) / 100 * 100))) 9 (upd (M 9) (Int32.toNatClampNeg (M 5 4)) (v - v / 10 * 10))) 5 4 ((M 5 4) + 1))) ∧ (¬ ((M 5 4) : Int32) < (60 : Int32) → Q (some (.int (-4))) M)) ∧ (¬ ((v - v / 10 * 10) : Int32) ≤ (3 : Int32) → Q (some (.int (-2))) M)))
  unfold wth at h1 hf h0
  refine ⟨fun q => h0 (fun z => ?_), fun q => ?_⟩
  · rw [n_lt, n_0] at q; omega
  rw [n_lt, n_0] at q
  obtain ⟨e1, e2, e3, e4⟩ := w_num (v := v) (by omega)
  have f9 : (9 : Int32).toInt = 9 := rfl
  have f3 : (3 : Int32).toInt = 3 := rfl
  have f60 : (60 : Int32).toInt = 60 := rfl
  refine ⟨by decide, fun r => h0 (fun z => ?_), fun r => ⟨by decide, fun s => ?_, fun s => h0 (fun z => ?_)⟩⟩
  · rw [n_lt, f9, e1] at r; omega
  · rw [n_lt, f9, e1] at r
    rw [n_le, f3, e4] at s
    refine ⟨fun t => ?_, fun t => hf (by omega) (by rw [n_lt, f60] at t; omega)⟩
    rw [n_lt, f60] at t
    have hin : vp_in (M 5 4) 60 := n_in b1 t
    refine ⟨by decide, hin, by decide, by decide, hin, by decide, by decide, hin, by decide, hin, ?_⟩
    rw [n_pred]
    exact h1 (by omega) t
  · rw [n_lt, f9, e1] at r
    rw [n_le, f3, e4] at s
    omega
theorem c_X12_isWeather {g : zq_G} {d : Nat} {M : zq_M} {Q : Option Value → zq_M → Prop} {v : Int32} (h1 : wth v.toInt → True → Q (some (.int 1)) M) (h0 : ¬ wth v.toInt → Q (some (.int 0)) M) : mx g (d + 1) kX12_isWeather 0 [.ref 48, .int v] [] M Q := by
  refine mx_go 100 zq_t144 ?_
  show mx g (d) kX12_in 0 [.ref 48, .int (v), .int (0), .int (99999)] [] M _
  unfold wth at h1 h0
  have f9 : (99999 : Int32).toInt = 99999 := rfl
  have f4 : (4 : Int32).toInt = 4 := rfl
  refine c_X12_in (fun a b => ?_) (fun a => ?_)
  · rw [n_0] at a
    rw [f9] at b
    obtain ⟨e1, e2, e3, e4⟩ := w_num (v := v) (by omega)
    show ((1 : Int32) = 0 → zq_b 0 ∧ Q (some (.int 0)) M) ∧ (¬ (1 : Int32) = 0 → (¬ (10 : Int32) = 0) ∧ ((4 : Int32) ≤ ((v - v / 10 * 10) : Int32) → zq_b 0 ∧ Q (some (.int 0)) M) ∧ (¬ (4 : Int32) ≤ ((v - v / 10 * 10) : Int32) → zq_b 1 ∧ Q (some (.int 1)) M))
    refine ⟨fun q => absurd q (by decide), fun _ => ⟨by decide, fun q => ⟨Or.inl rfl, h0 ?_⟩, fun q => ⟨Or.inr rfl, h1 ?_ trivial⟩⟩⟩
    · rw [n_le, f4, e4] at q; omega
    · rw [n_le, f4, e4] at q; omega
  · rw [n_0, f9] at a
    show ((0 : Int32) = 0 → zq_b 0 ∧ Q (some (.int 0)) M) ∧ (¬ (0 : Int32) = 0 → (¬ (10 : Int32) = 0) ∧ ((4 : Int32) ≤ ((v - v / 10 * 10) : Int32) → zq_b 0 ∧ Q (some (.int 0)) M) ∧ (¬ (4 : Int32) ≤ ((v - v / 10 * 10) : Int32) → zq_b 1 ∧ Q (some (.int 1)) M))
    exact ⟨fun _ => ⟨Or.inl rfl, h0 (by omega)⟩, fun q => absurd rfl q⟩
abbrev nst : Type := Int32 × (Nat → Int32) × (Nat → Int32) × (Nat → Int32) × (Nat → Int32)
def puN (v : Int32) (s : nst) : nst := (s.1 + 1, upd s.2.1 s.1.toNatClampNeg (v / 10000), upd s.2.2.1 s.1.toNatClampNeg (v / 1000 - v / 1000 / 10 * 10), upd s.2.2.2.1 s.1.toNatClampNeg (v / 10 - v / 10 / 100 * 100), upd s.2.2.2.2 s.1.toNatClampNeg (v - v / 10 * 10))
theorem cmX_tup {M : zq_M} {v : Int32} : ((cmX M v) 5 4, (cmX M v) 6, (cmX M v) 7, (cmX M v) 8, (cmX M v) 9) = puN v (M 5 4, M 6, M 7, M 8, M 9) := rfl
theorem cmX_fr {M M' : zq_M} {v : Int32} (h : fr (fF [6, 7, 8, 9] 5 4) M M') : fr (fF [6, 7, 8, 9] 5 4) M (cmX M' v) := fr_mu (fr_ma (fr_ma (fr_ma (fr_ma h (fun _ => rfl)) (fun _ => rfl)) (fun _ => rfl)) (fun _ => rfl)) rfl
def bN (s : nst) : Prop := 0 ≤ s.1.toInt ∧ s.1.toInt ≤ 60 ∧ (∀ i, 0 ≤ (s.2.1 i).toInt ∧ (s.2.1 i).toInt ≤ 9) ∧ (∀ i, 0 ≤ (s.2.2.1 i).toInt ∧ (s.2.2.1 i).toInt ≤ 9) ∧ (∀ i, 0 ≤ (s.2.2.2.1 i).toInt ∧ (s.2.2.2.1 i).toInt ≤ 99) ∧ ∀ i, 0 ≤ (s.2.2.2.2 i).toInt ∧ (s.2.2.2.2 i).toInt ≤ 3
theorem bN_pu {v : Int32} {s : nst} (h : bN s) (hw : wth v.toInt) (hn : s.1.toInt < 60) : bN (puN v s) := by
  obtain ⟨b1, b2, b3, b4, b5, b6⟩ := h
  unfold wth at hw
  obtain ⟨e1, e2, e3, e4⟩ := w_num (v := v) (by omega)
  refine ⟨?_, ?_, upd_all (P := fun x => 0 ≤ x.toInt ∧ x.toInt ≤ 9) b3 ?_, upd_all (P := fun x => 0 ≤ x.toInt ∧ x.toInt ≤ 9) b4 ?_, upd_all (P := fun x => 0 ≤ x.toInt ∧ x.toInt ≤ 99) b5 ?_, upd_all (P := fun x => 0 ≤ x.toInt ∧ x.toInt ≤ 3) b6 ?_⟩
  · show 0 ≤ (s.1 + 1).toInt
    rw [n_suc b1 (by omega)]; omega
  · show (s.1 + 1).toInt ≤ 60
    rw [n_suc b1 (by omega)]; omega
  · rw [e1]; omega
  · rw [e2]; omega
  · rw [e3]; omega
  · rw [e4]; omega
theorem gN_of {n n' : Int32} {a a' b b' c c' e e' : Nat → Int32} {s : nst} (h : bN s) (h1 : (n, a, b, c, e) = s) (h2 : (n', a', b', c', e') = s) : gN n n' a a' b b' c c' e e' := by
  subst h1
  obtain ⟨rfl, rfl, rfl, rfl, rfl⟩ : n' = n ∧ a' = a ∧ b' = b ∧ c' = c ∧ e' = e := by simpa using h2
  exact ⟨rfl, rfl, rfl, rfl, rfl, h⟩
theorem bN_of {n n' : Int32} {a a' b b' c c' e e' : Nat → Int32} (h : gN n n' a a' b b' c c' e e') : bN (n, a, b, c, e) := h.2.2.2.2.2
theorem gN_put {n n' v : Int32} {a a' b b' c c' e e' : Nat → Int32} (h : gN n n' a a' b b' c c' e e') (hw : wth v.toInt) (hn : n.toInt < 60) : gN (n + 1) (n' + 1) (upd a n.toNatClampNeg (v / 10000)) (upd a' n'.toNatClampNeg (v / 10000)) (upd b n.toNatClampNeg (v / 1000 - v / 1000 / 10 * 10)) (upd b' n'.toNatClampNeg (v / 1000 - v / 1000 / 10 * 10)) (upd c n.toNatClampNeg (v / 10 - v / 10 / 100 * 100)) (upd c' n'.toNatClampNeg (v / 10 - v / 10 / 100 * 100)) (upd e n.toNatClampNeg (v - v / 10 * 10)) (upd e' n'.toNatClampNeg (v - v / 10 * 10)) := by
  have hb := bN_pu (v := v) (bN_of h) hw hn
  obtain ⟨rfl, rfl, rfl, rfl, rfl, h⟩ := h
  exact gN_of hb rfl rfl
/-- the nights that come of a row of cells: m are left, k is the next -/
def nsF (it : Nat → Int32) (lo sz : Int) : Nat → Nat → Int32 → nst → Int32 × nst
  | 0, _, c, s => (c, s)
  | m + 1, k, c, s => if lo + k < 0 ∨ sz ≤ lo + k then (-12, s) else if wth (it k).toInt ∧ s.1.toInt < 60 then nsF it lo sz m (k + 1) (c + 1) (puN (it k) s) else nsF it lo sz m (k + 1) c s
theorem bN_ns {it : Nat → Int32} {lo sz : Int} : ∀ (m k : Nat) (c : Int32) (s : nst), bN s → bN (nsF it lo sz m k c s).2
  | 0, _, _, _, h => h
  | m + 1, k, c, s, h => by
    unfold nsF
    split
    · exact h
    · split
      · next q => exact bN_ns m _ _ _ (bN_pu h q.1 q.2)
      · exact bN_ns m _ _ _ h
theorem fF_mv {l : List Nat} {a b : Nat} {M M' : zq_M} (h : fr (fF l a b) M M') (ha : l.contains a = false) : M' = zq_mu (mv l M' M) a b (M' a b) := by
  funext c i
  unfold zq_mu zq_ma
  split
  · next q =>
    subst q
    unfold upd mv
    split
    · next q => rw [q]
    · next q =>
      rw [ha]
      exact h c i (by unfold fF; rw [ha]; simp [q])
  · next q =>
    unfold mv
    split
    · rfl
    · next r => exact h c i (by unfold fF; simp only [Bool.not_eq_true] at r; rw [r]; simp [q])
theorem c_X11_nights76 {g : zq_G} {d : Nat} {M : zq_M} {Q : Option Value → zq_M → Prop} {p0 p2 p3 : Int32} (a1 : 0 ≤ p0.toInt) (a2 : p0.toInt ≤ 3) (hs : 0 ≤ (M 47 p0.toNatClampNeg).toInt ∧ (M 47 p0.toNatClampNeg).toInt ≤ 40) (c1 : 0 ≤ p3.toInt) (c2 : p3.toInt ≤ 20) (hN : bN (M 5 4, M 6, M 7, M 8, M 9)) (h : ∀ N : zq_M, (N 5 4, N 6, N 7, N 8, N 9) = (nsF (fun k => M 45 (40 * p0.toInt.toNat + (p2.toInt + k).toNat)) p2.toInt (M 47 p0.toNatClampNeg).toInt p3.toInt.toNat 0 0 (M 5 4, M 6, M 7, M 8, M 9)).2 → Q (some (.int (nsF (fun k => M 45 (40 * p0.toInt.toNat + (p2.toInt + k).toNat)) p2.toInt (M 47 p0.toNatClampNeg).toInt p3.toInt.toNat 0 0 (M 5 4, M 6, M 7, M 8, M 9)).1)) (zq_mu (mv [6, 7, 8, 9] N M) 5 4 (N 5 4))) : mx g (d + 1) kX11_nights 76 [.ref 0, .int p0, .null, .int p2, .int p3, .int 0, .int 0] [] M Q := by
  refine mx_wf (fun x : Int32 × Int32 => [.ref 0, .int p0, .null, .int p2, .int p3, .int x.1, .int x.2]) (fun x M' => 0 ≤ x.2.toInt ∧ x.2.toInt ≤ p3.toInt ∧ (0 < x.2.toInt → 0 ≤ p2.toInt ∧ p2.toInt < 40) ∧ fr (fF [6, 7, 8, 9] 5 4) M M' ∧ bN (M' 5 4, M' 6, M' 7, M' 8, M' 9) ∧ nsF (fun k => M 45 (40 * p0.toInt.toNat + (p2.toInt + k).toNat)) p2.toInt (M 47 p0.toNatClampNeg).toInt p3.toInt.toNat 0 0 (M 5 4, M 6, M 7, M 8, M 9) = nsF (fun k => M 45 (40 * p0.toInt.toNat + (p2.toInt + k).toNat)) p2.toInt (M 47 p0.toNatClampNeg).toInt (p3.toInt - x.2.toInt).toNat x.2.toInt.toNat x.1 (M' 5 4, M' 6, M' 7, M' 8, M' 9)) (fun x => (p3.toInt - x.2.toInt).toNat) ?_ (0, 0) M ⟨by decide, c1, fun q => absurd q (by decide), fr_rfl, hN, by rw [n_0, Int.sub_zero]; rfl⟩
  intro ⟨c, x⟩ M' ⟨i1, i2, i3, i4, i5, i6⟩ ih
  have i1 : 0 ≤ x.toInt := i1
  have i2 : x.toInt ≤ p3.toInt := i2
  have i3 : 0 < x.toInt → 0 ≤ p2.toInt ∧ p2.toInt < 40 := i3
  refine mx_go 100 zq_t123 ?_
  show ((p3 : Int32) ≤ (x : Int32) → Q (some (.int c)) M') ∧ (¬ (p3 : Int32) ≤ (x : Int32) → mx g (d) kX6_hasItem 0 [.ref 44, .int (p0), .int ((p2 + x))] [] M' _)
  refine ⟨fun q => ?_, fun q => ?_⟩
  · rw [n_le] at q
    simp only [show (p3.toInt - x.toInt).toNat = 0 by omega, nsF] at i6
    rw [fF_mv i4 (by decide)]
    have := h M' (by rw [i6])
    rw [i6] at this
    exact this
  rw [n_le] at q
  have rp := n_rng p2
  have up := n_up (n := p3) i1 (by omega)
  have e47 : M' 47 = M 47 := fr_ar i4 47 (fun _ => rfl)
  have e45 : M' 45 = M 45 := fr_ar i4 45 (fun _ => rfl)
  have px : p2.toInt + x.toInt < 2147483648 → (p2 + x).toInt = p2.toInt + x.toInt := fun z => by rw [n_add, zw_id (by omega) (by omega)]
  have px2 : p2.toInt + x.toInt < 2147483648 := by
    by_cases z : 0 < x.toInt
    · have := i3 z; omega
    · omega
  have px3 := px px2
  rw [show (p3.toInt - x.toInt).toNat = (p3.toInt - (x + 1).toInt).toNat + 1 by omega, nsF] at i6
  rw [show (x.toInt.toNat : Int) = x.toInt by omega] at i6
  refine mx_q (fun Q1 hQ1 => ?_)
  refine mx_go 100 zq_t52 ?_
  show (((p2 + x) : Int32) < 0 → zq_b 0 ∧ Q1 (some (.int 0)) M') ∧ (¬ ((p2 + x) : Int32) < 0 → vp_in p0 4 ∧ ((((M' 47) (Int32.toNatClampNeg p0)) : Int32) ≤ ((p2 + x) : Int32) → zq_b 0 ∧ Q1 (some (.int 0)) M') ∧ (¬ (((M' 47) (Int32.toNatClampNeg p0)) : Int32) ≤ ((p2 + x) : Int32) → zq_b 1 ∧ Q1 (some (.int 1)) M'))
  have out : (p2.toInt + x.toInt < 0 ∨ (M 47 p0.toNatClampNeg).toInt ≤ p2.toInt + x.toInt) → Q (some (.int (-12))) M' := by
    intro z
    rw [if_pos z] at i6
    rw [fF_mv i4 (by decide)]
    have := h M' (by rw [i6])
    rw [i6] at this
    exact this
  refine ⟨fun r => ⟨Or.inl rfl, hQ1 _ _ ?_⟩, fun r => ⟨n_in a1 (by omega), fun s => ⟨Or.inl rfl, hQ1 _ _ ?_⟩, fun s => ⟨Or.inr rfl, hQ1 _ _ ?_⟩⟩⟩
  · show (¬ (0 : Int32) = 0 → mx g (d) kX6_item 0 [.ref 44, .int (p0), .int ((p2 + x))] [] M' _) ∧ ((0 : Int32) = 0 → Q (some (.int (-12))) M')
    rw [n_lt, n_0, px3] at r
    exact ⟨fun q => absurd rfl q, fun _ => out (Or.inl r)⟩
  · show (¬ (0 : Int32) = 0 → mx g (d) kX6_item 0 [.ref 44, .int (p0), .int ((p2 + x))] [] M' _) ∧ ((0 : Int32) = 0 → Q (some (.int (-12))) M')
    rw [n_le, px3, e47] at s
    exact ⟨fun q => absurd rfl q, fun _ => out (Or.inr s)⟩
  rw [n_lt, n_0, px3] at r
  rw [n_le, px3, e47] at s
  rw [if_neg (by omega)] at i6
  show (¬ (1 : Int32) = 0 → mx g (d) kX6_item 0 [.ref 44, .int (p0), .int ((p2 + x))] [] M' _) ∧ ((1 : Int32) = 0 → Q (some (.int (-12))) M')
  refine ⟨fun _ => ?_, fun q => absurd q (by decide)⟩
  refine mx_q (fun Q2 hQ2 => ?_)
  refine mx_go 100 zq_t54 ?_
  show vp_in ((p0 * 40) + (p2 + x)) 160 ∧ Q2 (some (.int ((M' 45) (Int32.toNatClampNeg ((p0 * 40) + (p2 + x)))))) M'
  have ix := n_ix a1 a2 (b := p2 + x) (by omega) (by omega)
  refine ⟨n_ix2 a1 a2 (by omega) (by omega), hQ2 _ _ ?_⟩
  have ev : M' 45 (p0 * 40 + (p2 + x)).toNatClampNeg = M 45 (40 * p0.toInt.toNat + (p2.toInt + x.toInt).toNat) := by
    rw [e45, Int32.mul_comm, n_cl, ix, px3]
    congr 1
    omega
  rw [ev]
  generalize M 45 (40 * p0.toInt.toNat + (p2.toInt + x.toInt).toNat) = v at i6 ⊢
  show mx g (d) kX2_come 0 [.ref 5, .int (v)] [] M' _
  refine c_X2_come i5.1 (fun w1 w2 => ?_) (fun w1 w2 => ?_) (fun w1 => ?_)
  · rw [if_pos ⟨w1, w2⟩] at i6
    show (((M' 5 4) : Int32) < 0 → mx g (d + 1) kX11_nights 76 [.ref 0, .int (p0), .null, .int (p2), .int (p3), .int (c), .int ((x + 1))] [] (cmX M' v) Q) ∧ (¬ ((M' 5 4) : Int32) < 0 → mx g (d + 1) kX11_nights 76 [.ref 0, .int (p0), .null, .int (p2), .int (p3), .int ((c + 1)), .int ((x + 1))] [] (cmX M' v) Q)
    have bb := i5.1
    refine ⟨fun q => ?_, fun q => ?_⟩
    · rw [n_lt, n_0] at q
      exact absurd bb (by show ¬ 0 ≤ (M' 5 4).toInt; omega)
    · refine ih (c + 1, x + 1) _ (by show (p3.toInt - (x + 1).toInt).toNat < (p3.toInt - x.toInt).toNat; omega) ⟨by show 0 ≤ (x + 1).toInt; omega, by show (x + 1).toInt ≤ p3.toInt; omega, fun _ => by constructor <;> omega, cmX_fr i4, by rw [cmX_tup]; exact bN_pu i5 w1 w2, ?_⟩
      show _ = nsF _ _ _ (p3.toInt - (x + 1).toInt).toNat (x + 1).toInt.toNat (c + 1) _
      rw [i6, show (x + 1).toInt.toNat = x.toInt.toNat + 1 by omega, cmX_tup]
  · rw [if_neg (fun z => by have z2 : (M' 5 4).toInt < 60 := z.2; omega)] at i6
    show (((-4) : Int32) < 0 → mx g (d + 1) kX11_nights 76 [.ref 0, .int (p0), .null, .int (p2), .int (p3), .int (c), .int ((x + 1))] [] M' Q) ∧ (¬ ((-4) : Int32) < 0 → mx g (d + 1) kX11_nights 76 [.ref 0, .int (p0), .null, .int (p2), .int (p3), .int ((c + 1)), .int ((x + 1))] [] M' Q)
    refine ⟨fun _ => ?_, fun q => absurd (by decide) q⟩
    refine ih (c, x + 1) _ (by show (p3.toInt - (x + 1).toInt).toNat < (p3.toInt - x.toInt).toNat; omega) ⟨by show 0 ≤ (x + 1).toInt; omega, by show (x + 1).toInt ≤ p3.toInt; omega, fun _ => by constructor <;> omega, i4, i5, ?_⟩
    show _ = nsF _ _ _ (p3.toInt - (x + 1).toInt).toNat (x + 1).toInt.toNat c _
    rw [i6, show (x + 1).toInt.toNat = x.toInt.toNat + 1 by omega]
  · rw [if_neg (fun z => w1 z.1)] at i6
    show (((-2) : Int32) < 0 → mx g (d + 1) kX11_nights 76 [.ref 0, .int (p0), .null, .int (p2), .int (p3), .int (c), .int ((x + 1))] [] M' Q) ∧ (¬ ((-2) : Int32) < 0 → mx g (d + 1) kX11_nights 76 [.ref 0, .int (p0), .null, .int (p2), .int (p3), .int ((c + 1)), .int ((x + 1))] [] M' Q)
    refine ⟨fun _ => ?_, fun q => absurd (by decide) q⟩
    refine ih (c, x + 1) _ (by show (p3.toInt - (x + 1).toInt).toNat < (p3.toInt - x.toInt).toNat; omega) ⟨by show 0 ≤ (x + 1).toInt; omega, by show (x + 1).toInt ≤ p3.toInt; omega, fun _ => by constructor <;> omega, i4, i5, ?_⟩
    show _ = nsF _ _ _ (p3.toInt - (x + 1).toInt).toNat (x + 1).toInt.toNat c _
    rw [i6, show (x + 1).toInt.toNat = x.toInt.toNat + 1 by omega]
def cmR (M : zq_M) (v : Int32) : zq_M := zq_mu (zq_ma (zq_ma (zq_ma (zq_ma M 51 (upd (M 51) (M 48 1).toNatClampNeg (v / 10000))) 52 (upd (M 52) (M 48 1).toNatClampNeg (v / 1000 - v / 1000 / 10 * 10))) 53 (upd (M 53) (M 48 1).toNatClampNeg (v / 10 - v / 10 / 100 * 100))) 54 (upd (M 54) (M 48 1).toNatClampNeg (v - v / 10 * 10))) 48 1 (M 48 1 + 1)
theorem cmR_tup {M : zq_M} {v : Int32} : ((cmR M v) 48 1, (cmR M v) 51, (cmR M v) 52, (cmR M v) 53, (cmR M v) 54) = puN v (M 48 1, M 51, M 52, M 53, M 54) := rfl
theorem cmR_fr {M M' : zq_M} {v : Int32} (h : fr (fF [51, 52, 53, 54] 48 1) M M') : fr (fF [51, 52, 53, 54] 48 1) M (cmR M' v) := fr_mu (fr_ma (fr_ma (fr_ma (fr_ma h (fun _ => rfl)) (fun _ => rfl)) (fun _ => rfl)) (fun _ => rfl)) rfl
theorem c_X12_comes {g : zq_G} {d : Nat} {M : zq_M} {Q : Option Value → zq_M → Prop} {v : Int32} (b1 : 0 ≤ (M 48 1).toInt) (b2 : (M 48 1).toInt < 60) (h : Q none (cmR M v)) : mx g d kX12_comes 0 [.ref 48, .int v] [] M Q := by
  refine mx_go 100 zq_t145 ?_
  show (¬ (10000 : Int32) = 0) ∧ vp_in (M 48 1) 60 ∧ (¬ (1000 : Int32) = 0) ∧ (¬ (10 : Int32) = 0) ∧ vp_in (M 48 1) 60 ∧ (¬ (10 : Int32) = 0) ∧ (¬ (100 : Int32) = 0) ∧ vp_in (M 48 1) 60 ∧ (¬ (10 : Int32) = 0) ∧ vp_in (M 48 1) 60 ∧ Q none (zq_mu (zq_ma (zq_ma (zq_ma (zq_ma M 51 (upd (M 51) (Int32.toNatClampNeg (M 48 1)) (v / 10000))) 52 (upd (M 52) (Int32.toNatClampNeg (M 48 1)) ((v / 1000) - (v / 1000) / 10 * 10))) 53 (upd (M 53) (Int32.toNatClampNeg (M 48 1)) ((v / 10) - (v / 10) / 100 * 100))) 54 (upd (M 54) (Int32.toNatClampNeg (M 48 1)) (v - v / 10 * 10))) 48 1 ((M 48 1) + 1))
  have hin : vp_in (M 48 1) 60 := n_in b1 b2
  exact ⟨by decide, hin, by decide, by decide, hin, by decide, by decide, hin, by decide, hin, h⟩
theorem c_X12_nights64 {g : zq_G} {d : Nat} {M : zq_M} {Q : Option Value → zq_M → Prop} {p0 p2 p3 : Int32} {it : Nat → Int32} {sz : Int} {s0 : nst} (a1 : 0 ≤ p0.toInt) (a2 : p0.toInt ≤ 3) (hsz : (M 76 p0.toNatClampNeg).toInt = sz) (hs : 0 ≤ sz ∧ sz ≤ 40) (c1 : 0 ≤ p3.toInt) (c2 : p3.toInt ≤ 20) (hs0 : (M 48 1, M 51, M 52, M 53, M 54) = s0) (hN : bN s0) (hit : ∀ k : Nat, 0 ≤ p2.toInt + k → p2.toInt + k < sz → M 77 (40 * p0.toInt.toNat + (p2.toInt + k).toNat) = it k) (h : ∀ N : zq_M, (N 48 1, N 51, N 52, N 53, N 54) = (nsF it p2.toInt sz p3.toInt.toNat 0 0 s0).2 → Q (some (.int (nsF it p2.toInt sz p3.toInt.toNat 0 0 s0).1)) (zq_mu (mv [51, 52, 53, 54] N M) 48 1 (N 48 1))) : mx g (d + 2) kX12_nights 64 [.ref 48, .int p0, .null, .int p2, .int p3, .int 0, .int 0, .null] [] M Q := by
  refine mx_wf (fun x : Int32 × Int32 => [.ref 48, .int p0, .null, .int p2, .int p3, .int x.1, .int x.2, .null]) (fun x M' => 0 ≤ x.2.toInt ∧ x.2.toInt ≤ p3.toInt ∧ (0 < x.2.toInt → 0 ≤ p2.toInt ∧ p2.toInt < 40) ∧ fr (fF [51, 52, 53, 54] 48 1) M M' ∧ bN (M' 48 1, M' 51, M' 52, M' 53, M' 54) ∧ nsF it p2.toInt sz p3.toInt.toNat 0 0 s0 = nsF it p2.toInt sz (p3.toInt - x.2.toInt).toNat x.2.toInt.toNat x.1 (M' 48 1, M' 51, M' 52, M' 53, M' 54)) (fun x => (p3.toInt - x.2.toInt).toNat) ?_ (0, 0) M ⟨by decide, c1, fun q => absurd q (by decide), fr_rfl, by rw [hs0]; exact hN, by rw [n_0, Int.sub_zero, hs0]; rfl⟩
  intro ⟨c, x⟩ M' ⟨i1, i2, i3, i4, i5, i6⟩ ih
  have i1 : 0 ≤ x.toInt := i1
  have i2 : x.toInt ≤ p3.toInt := i2
  have i3 : 0 < x.toInt → 0 ≤ p2.toInt ∧ p2.toInt < 40 := i3
  refine mx_go 100 zq_t227 ?_
  show ((p3 : Int32) ≤ (x : Int32) → Q (some (.int c)) M') ∧ (¬ (p3 : Int32) ≤ (x : Int32) → ((p2 : Int32) < 0 → Q (some (.int (-12))) M') ∧ (¬ (p2 : Int32) < 0 → vp_in p0 4 ∧ ((p2 : Int32) ≤ (((((M' 76) (Int32.toNatClampNeg p0)) - x) - 1) : Int32) → vp_in (((40 * p0) + p2) + x) 160 ∧ mx g (d + 1) kX12_isWeather 0 [.ref 48, .int (((M' 77) (Int32.toNatClampNeg (((40 * p0) + p2) + x))))] [] M' _) ∧ (¬ (p2 : Int32) ≤ (((((M' 76) (Int32.toNatClampNeg p0)) - x) - 1) : Int32) → Q (some (.int (-12))) M')))
  refine ⟨fun q => ?_, fun q => ?_⟩
  · rw [n_le] at q
    simp only [show (p3.toInt - x.toInt).toNat = 0 by omega, nsF] at i6
    rw [fF_mv i4 (by decide)]
    have := h M' (by rw [i6])
    rw [i6] at this
    exact this
  rw [n_le] at q
  have rp := n_rng p2
  have up := n_up (n := p3) i1 (by omega)
  have e76 : M' 76 = M 76 := fr_ar i4 76 (fun _ => rfl)
  have e77 : M' 77 = M 77 := fr_ar i4 77 (fun _ => rfl)
  rw [show (p3.toInt - x.toInt).toNat = (p3.toInt - (x + 1).toInt).toNat + 1 by omega, nsF] at i6
  rw [show (x.toInt.toNat : Int) = x.toInt by omega] at i6
  have out : (p2.toInt + x.toInt < 0 ∨ sz ≤ p2.toInt + x.toInt) → Q (some (.int (-12))) M' := by
    intro z
    rw [if_pos z] at i6
    rw [fF_mv i4 (by decide)]
    have := h M' (by rw [i6])
    rw [i6] at this
    exact this
  have d1 : (M' 76 p0.toNatClampNeg - x - 1).toInt = sz - x.toInt - 1 := by
    rw [n_sub, n_sub, e76, hsz, n_1, zw_id (z := sz - x.toInt) (by omega) (by omega), zw_id (by omega) (by omega)]
  refine ⟨fun r => out ?_, fun r => ⟨n_in a1 (by omega), fun s => ?_, fun s => out ?_⟩⟩
  · rw [n_lt, n_0] at r
    left
    by_cases z : 0 < x.toInt
    · have := i3 z; omega
    · omega
  · rw [n_lt, n_0] at r
    rw [n_le, d1] at s
    rw [if_neg (by omega)] at i6
    have ix := n_ix3 a1 a2 (b := p2) (c := x) (by omega) i1 (by omega)
    have ev : M' 77 (40 * p0 + p2 + x).toNatClampNeg = it x.toInt.toNat := by
      rw [e77, n_cl, ix, ← hit _ (by omega) (by omega)]
      congr 1
      omega
    refine ⟨n_in (by omega) (by omega), ?_⟩
    rw [ev]
    generalize it x.toInt.toNat = v at i6 ⊢
    have go0 : (∀ z : wth v.toInt ∧ (M' 48 1).toInt < 60, False) → mx g (d + 2) kX12_nights 64 [.ref 48, .int p0, .null, .int p2, .int p3, .int c, .int (x + 1), .null] [] M' Q := by
      intro z
      rw [if_neg (fun w => z w)] at i6
      refine ih (c, x + 1) _ (by show (p3.toInt - (x + 1).toInt).toNat < (p3.toInt - x.toInt).toNat; omega) ⟨by show 0 ≤ (x + 1).toInt; omega, by show (x + 1).toInt ≤ p3.toInt; omega, fun _ => by constructor <;> omega, i4, i5, ?_⟩
      show _ = nsF _ _ _ (p3.toInt - (x + 1).toInt).toNat (x + 1).toInt.toNat c _
      rw [i6, show (x + 1).toInt.toNat = x.toInt.toNat + 1 by omega]
    have f60 : (60 : Int32).toInt = 60 := rfl
    refine c_X12_isWeather (fun w _ => ?_) (fun w => ?_)
    · show ((1 : Int32) = 0 → mx g (d + 2) kX12_nights 64 [.ref 48, .int (p0), .null, .int (p2), .int (p3), .int (c), .int ((x + 1)), .null] [] M' Q) ∧ (¬ (1 : Int32) = 0 → (¬ ((M' 48 1) : Int32) = (60 : Int32) → mx g (d + 1) kX12_comes 0 [.ref 48, .int (v)] [] M' _) ∧ (((M' 48 1) : Int32) = (60 : Int32) → mx g (d + 2) kX12_nights 64 [.ref 48, .int (p0), .null, .int (p2), .int (p3), .int (c), .int ((x + 1)), .null] [] M' Q))
      refine ⟨fun q => absurd q (by decide), fun _ => ⟨fun t => ?_, fun t => go0 (fun z => ?_)⟩⟩
      · have b1 : 0 ≤ (M' 48 1).toInt := i5.1
        have b2 : (M' 48 1).toInt ≤ 60 := i5.2.1
        have b3 : (M' 48 1).toInt < 60 := by rw [n_eq, f60] at t; omega
        refine c_X12_comes b1 b3 ?_
        show mx g (d + 2) kX12_nights 64 [.ref 48, .int (p0), .null, .int (p2), .int (p3), .int ((c + 1)), .int ((x + 1)), .null] [] (cmR M' v) Q
        rw [if_pos ⟨w, b3⟩] at i6
        refine ih (c + 1, x + 1) _ (by show (p3.toInt - (x + 1).toInt).toNat < (p3.toInt - x.toInt).toNat; omega) ⟨by show 0 ≤ (x + 1).toInt; omega, by show (x + 1).toInt ≤ p3.toInt; omega, fun _ => by constructor <;> omega, cmR_fr i4, by rw [cmR_tup]; exact bN_pu i5 w b3, ?_⟩
        show _ = nsF _ _ _ (p3.toInt - (x + 1).toInt).toNat (x + 1).toInt.toNat (c + 1) _
        rw [i6, show (x + 1).toInt.toNat = x.toInt.toNat + 1 by omega, cmR_tup]
      · have z2 := z.2
        rw [n_eq, f60] at t
        omega
    · show ((0 : Int32) = 0 → mx g (d + 2) kX12_nights 64 [.ref 48, .int (p0), .null, .int (p2), .int (p3), .int (c), .int ((x + 1)), .null] [] M' Q) ∧ (¬ (0 : Int32) = 0 → (¬ ((M' 48 1) : Int32) = (60 : Int32) → mx g (d + 1) kX12_comes 0 [.ref 48, .int (v)] [] M' _) ∧ (((M' 48 1) : Int32) = (60 : Int32) → mx g (d + 2) kX12_nights 64 [.ref 48, .int (p0), .null, .int (p2), .int (p3), .int (c), .int ((x + 1)), .null] [] M' Q))
      exact ⟨fun _ => go0 (fun z => w z.1), fun q => absurd rfl q⟩
  · rw [n_lt, n_0] at r
    rw [n_le, d1] at s
    omega

set_option maxHeartbeats 4000000 in
theorem op_night {g : zq_G} {d : Nat} {M : zq_M} {p0 : Int32} (hR : RR M) : pri g (d + 6) kX11_night kX12_night [.ref 0, .int (p0)] [.ref 48, .int (p0)] M := by
  obtain ⟨hS, hN, hH, hT, hP, hI, hE, hF, hX, hV⟩ := id hR
  obtain ⟨a1, a2, a3, a4, a5, a6, a7, a8, a9, a10, a11⟩ := id hN
  refine mx_q (fun Qx hQx => ?_)
  refine mx_go 200 zq_t92 ?_
  show mx g (d + 5) kX2_come 0 [.ref 5, .int (p0)] [] M _
  refine c_X2_come (by (first | contradiction | (simp only [n_lt, n_le, n_eq, n_add, n_sub, n_mul, n_neg, n_lit, zw] at *; omega))) (fun k1 k2 => ?_) (fun k3 k4 => ?_) (fun k5 => ?_)
  · show Qx (some (.int (M 5 4))) (zq_mu (zq_ma (zq_ma (zq_ma (zq_ma M 6 (upd (M 6) (Int32.toNatClampNeg (M 5 4)) (p0 / 10000))) 7 (upd (M 7) (Int32.toNatClampNeg (M 5 4)) (p0 / 1000 - p0 / 1000 / 10 * 10))) 8 (upd (M 8) (Int32.toNatClampNeg (M 5 4)) (p0 / 10 - p0 / 10 / 100 * 100))) 9 (upd (M 9) (Int32.toNatClampNeg (M 5 4)) (p0 - p0 / 10 * 10))) 5 4 ((M 5 4) + 1))
    refine hQx _ _ ⟨(M 5 4), rfl, ?_⟩
    refine mx_q (fun Qm hQm => ?_)
    refine mx_go 200 zq_t146 ?_
    show mx g (d + 5) kX12_isWeather 0 [.ref 48, .int (p0)] [] (zq_mu (zq_ma (zq_ma (zq_ma (zq_ma M 6 (upd (M 6) (Int32.toNatClampNeg (M 5 4)) (p0 / 10000))) 7 (upd (M 7) (Int32.toNatClampNeg (M 5 4)) (p0 / 1000 - p0 / 1000 / 10 * 10))) 8 (upd (M 8) (Int32.toNatClampNeg (M 5 4)) (p0 / 10 - p0 / 10 / 100 * 100))) 9 (upd (M 9) (Int32.toNatClampNeg (M 5 4)) (p0 - p0 / 10 * 10))) 5 4 ((M 5 4) + 1)) _
    refine c_X12_isWeather (fun k6 k7 => ?_) (fun k8 => by exfalso; (first | contradiction | (simp only [n_lt, n_le, n_eq, n_add, n_sub, n_mul, n_neg, n_lit, zw] at *; omega)))
    show (¬ (1 : Int32) = 0 → (¬ ((M 48 1) : Int32) = (60 : Int32) → mx g (d + 5) kX12_comes 0 [.ref 48, .int (p0)] [] (zq_mu (zq_ma (zq_ma (zq_ma (zq_ma M 6 (upd (M 6) (Int32.toNatClampNeg (M 5 4)) (p0 / 10000))) 7 (upd (M 7) (Int32.toNatClampNeg (M 5 4)) (p0 / 1000 - p0 / 1000 / 10 * 10))) 8 (upd (M 8) (Int32.toNatClampNeg (M 5 4)) (p0 / 10 - p0 / 10 / 100 * 100))) 9 (upd (M 9) (Int32.toNatClampNeg (M 5 4)) (p0 - p0 / 10 * 10))) 5 4 ((M 5 4) + 1)) _) ∧ (((M 48 1) : Int32) = (60 : Int32) → Qm (some (.int (-4))) (zq_mu (zq_ma (zq_ma (zq_ma (zq_ma M 6 (upd (M 6) (Int32.toNatClampNeg (M 5 4)) (p0 / 10000))) 7 (upd (M 7) (Int32.toNatClampNeg (M 5 4)) (p0 / 1000 - p0 / 1000 / 10 * 10))) 8 (upd (M 8) (Int32.toNatClampNeg (M 5 4)) (p0 / 10 - p0 / 10 / 100 * 100))) 9 (upd (M 9) (Int32.toNatClampNeg (M 5 4)) (p0 - p0 / 10 * 10))) 5 4 ((M 5 4) + 1)))) ∧ ((1 : Int32) = 0 → Qm (some (.int (-2))) (zq_mu (zq_ma (zq_ma (zq_ma (zq_ma M 6 (upd (M 6) (Int32.toNatClampNeg (M 5 4)) (p0 / 10000))) 7 (upd (M 7) (Int32.toNatClampNeg (M 5 4)) (p0 / 1000 - p0 / 1000 / 10 * 10))) 8 (upd (M 8) (Int32.toNatClampNeg (M 5 4)) (p0 / 10 - p0 / 10 / 100 * 100))) 9 (upd (M 9) (Int32.toNatClampNeg (M 5 4)) (p0 - p0 / 10 * 10))) 5 4 ((M 5 4) + 1)))
    refine ⟨fun _ => ?_, fun q9 => absurd q9 (by decide)⟩
    refine ⟨fun q10 => ?_, fun q10 => by exfalso; (first | contradiction | (simp only [n_lt, n_le, n_eq, n_add, n_sub, n_mul, n_neg, n_lit, zw] at *; omega))⟩
    refine mx_q (fun Q11 hQ11 => ?_)
    refine mx_go 200 zq_t145 ?_
    show (¬ (10000 : Int32) = 0) ∧ vp_in (M 48 1) 60 ∧ (¬ (1000 : Int32) = 0) ∧ (¬ (10 : Int32) = 0) ∧ vp_in (M 48 1) 60 ∧ (¬ (10 : Int32) = 0) ∧ (¬ (100 : Int32) = 0) ∧ vp_in (M 48 1) 60 ∧ (¬ (10 : Int32) = 0) ∧ vp_in (M 48 1) 60 ∧ Q11 none (zq_mu (zq_ma (zq_ma (zq_ma (zq_ma (zq_mu (zq_ma (zq_ma (zq_ma (zq_ma M 6 (upd (M 6) (Int32.toNatClampNeg (M 5 4)) (p0 / 10000))) 7 (upd (M 7) (Int32.toNatClampNeg (M 5 4)) (p0 / 1000 - p0 / 1000 / 10 * 10))) 8 (upd (M 8) (Int32.toNatClampNeg (M 5 4)) (p0 / 10 - p0 / 10 / 100 * 100))) 9 (upd (M 9) (Int32.toNatClampNeg (M 5 4)) (p0 - p0 / 10 * 10))) 5 4 ((M 5 4) + 1)) 51 (upd (M 51) (Int32.toNatClampNeg (M 48 1)) (p0 / 10000))) 52 (upd (M 52) (Int32.toNatClampNeg (M 48 1)) ((p0 / 1000) - (p0 / 1000) / 10 * 10))) 53 (upd (M 53) (Int32.toNatClampNeg (M 48 1)) ((p0 / 10) - (p0 / 10) / 100 * 100))) 54 (upd (M 54) (Int32.toNatClampNeg (M 48 1)) (p0 - p0 / 10 * 10))) 48 1 ((M 48 1) + 1))
    refine ⟨(by decide), ?_⟩
    refine ⟨(n_in (by (first | contradiction | (simp only [n_lt, n_le, n_eq, n_add, n_sub, n_mul, n_neg, n_lit, zw] at *; omega))) (by (first | contradiction | (simp only [n_lt, n_le, n_eq, n_add, n_sub, n_mul, n_neg, n_lit, zw] at *; omega)))), ?_⟩
    refine ⟨(by decide), ?_⟩
    refine ⟨(by decide), ?_⟩
    refine ⟨(n_in (by (first | contradiction | (simp only [n_lt, n_le, n_eq, n_add, n_sub, n_mul, n_neg, n_lit, zw] at *; omega))) (by (first | contradiction | (simp only [n_lt, n_le, n_eq, n_add, n_sub, n_mul, n_neg, n_lit, zw] at *; omega)))), ?_⟩
    refine ⟨(by decide), ?_⟩
    refine ⟨(by decide), ?_⟩
    refine ⟨(n_in (by (first | contradiction | (simp only [n_lt, n_le, n_eq, n_add, n_sub, n_mul, n_neg, n_lit, zw] at *; omega))) (by (first | contradiction | (simp only [n_lt, n_le, n_eq, n_add, n_sub, n_mul, n_neg, n_lit, zw] at *; omega)))), ?_⟩
    refine ⟨(by decide), ?_⟩
    refine ⟨(n_in (by (first | contradiction | (simp only [n_lt, n_le, n_eq, n_add, n_sub, n_mul, n_neg, n_lit, zw] at *; omega))) (by (first | contradiction | (simp only [n_lt, n_le, n_eq, n_add, n_sub, n_mul, n_neg, n_lit, zw] at *; omega)))), ?_⟩
    refine hQ11 _ _ ?_
    show Qm (some (.int (((M 48 1) + 1) - 1))) (zq_mu (zq_ma (zq_ma (zq_ma (zq_ma (zq_mu (zq_ma (zq_ma (zq_ma (zq_ma M 6 (upd (M 6) (Int32.toNatClampNeg (M 5 4)) (p0 / 10000))) 7 (upd (M 7) (Int32.toNatClampNeg (M 5 4)) (p0 / 1000 - p0 / 1000 / 10 * 10))) 8 (upd (M 8) (Int32.toNatClampNeg (M 5 4)) (p0 / 10 - p0 / 10 / 100 * 100))) 9 (upd (M 9) (Int32.toNatClampNeg (M 5 4)) (p0 - p0 / 10 * 10))) 5 4 ((M 5 4) + 1)) 51 (upd (M 51) (Int32.toNatClampNeg (M 48 1)) (p0 / 10000))) 52 (upd (M 52) (Int32.toNatClampNeg (M 48 1)) ((p0 / 1000) - (p0 / 1000) / 10 * 10))) 53 (upd (M 53) (Int32.toNatClampNeg (M 48 1)) ((p0 / 10) - (p0 / 10) / 100 * 100))) 54 (upd (M 54) (Int32.toNatClampNeg (M 48 1)) (p0 - p0 / 10 * 10))) 48 1 ((M 48 1) + 1))
    refine hQm _ _ ⟨by first | rfl | simp only [a1, a2, a3, a4, a5, n_pred], ?_⟩
    exact ⟨hS, gN_put (n := M 5 4) (v := p0) hN (by assumption) (by assumption), hH, hT, hP, hI, hE, hF, hX, hV⟩
  · show Qx (some (.int (-4))) M
    refine hQx _ _ ⟨(-4), rfl, ?_⟩
    refine mx_q (fun Qm hQm => ?_)
    refine mx_go 200 zq_t146 ?_
    show mx g (d + 5) kX12_isWeather 0 [.ref 48, .int (p0)] [] M _
    refine c_X12_isWeather (fun k6 k7 => ?_) (fun k8 => by exfalso; (first | contradiction | (simp only [n_lt, n_le, n_eq, n_add, n_sub, n_mul, n_neg, n_lit, zw] at *; omega)))
    show (¬ (1 : Int32) = 0 → (¬ ((M 48 1) : Int32) = (60 : Int32) → mx g (d + 5) kX12_comes 0 [.ref 48, .int (p0)] [] M _) ∧ (((M 48 1) : Int32) = (60 : Int32) → Qm (some (.int (-4))) M)) ∧ ((1 : Int32) = 0 → Qm (some (.int (-2))) M)
    refine ⟨fun _ => ?_, fun q9 => absurd q9 (by decide)⟩
    refine ⟨fun q10 => by exfalso; (first | contradiction | (simp only [n_lt, n_le, n_eq, n_add, n_sub, n_mul, n_neg, n_lit, zw] at *; omega)), fun q10 => ?_⟩
    refine hQm _ _ ⟨by first | rfl | simp only [a1, a2, a3, a4, a5, n_pred], ?_⟩
    exact hR
  · show Qx (some (.int (-2))) M
    refine hQx _ _ ⟨(-2), rfl, ?_⟩
    refine mx_q (fun Qm hQm => ?_)
    refine mx_go 200 zq_t146 ?_
    show mx g (d + 5) kX12_isWeather 0 [.ref 48, .int (p0)] [] M _
    refine c_X12_isWeather (fun k6 k7 => by exfalso; (first | contradiction | (simp only [n_lt, n_le, n_eq, n_add, n_sub, n_mul, n_neg, n_lit, zw] at *; omega))) (fun k8 => ?_)
    show (¬ (0 : Int32) = 0 → (¬ ((M 48 1) : Int32) = (60 : Int32) → mx g (d + 5) kX12_comes 0 [.ref 48, .int (p0)] [] M _) ∧ (((M 48 1) : Int32) = (60 : Int32) → Qm (some (.int (-4))) M)) ∧ ((0 : Int32) = 0 → Qm (some (.int (-2))) M)
    refine ⟨fun q9 => absurd q9 (by decide), fun _ => ?_⟩
    refine hQm _ _ ⟨by first | rfl | simp only [a1, a2, a3, a4, a5, n_pred], ?_⟩
    exact hR

set_option maxHeartbeats 4000000 in
theorem op_nights {g : zq_G} {d : Nat} {M : zq_M} {p0 p1 p2 p3 : Int32} (hR : RR M) : pri g (d + 6) kX11_nights kX12_nights [.ref 0, .int (p0), .int (p1), .int (p2), .int (p3), .null, .null] [.ref 48, .int (p0), .int (p1), .int (p2), .int (p3), .null, .null, .null] M := by
  obtain ⟨hS, hN, hH, hT, hP, hI, hE, hF, hX, hV⟩ := id hR
  obtain ⟨e1, e2, e3, e4, e5⟩ := id hE
  have bp0 : 0 ≤ p0.toInt → p0.toInt ≤ 3 → -1 ≤ (M 46 p0.toNatClampNeg).toInt ∧ (M 46 p0.toNatClampNeg).toInt ≤ 2 ∧ 0 ≤ (M 47 p0.toNatClampNeg).toInt ∧ (M 47 p0.toNatClampNeg).toInt ≤ 40 := fun a b => ⟨(e3 _ (by rw [n_cl]; omega)).1, (e3 _ (by rw [n_cl]; omega)).2, e4 _ (by rw [n_cl]; omega)⟩
  have hsz : (M 76 p0.toNatClampNeg).toInt = (M 47 p0.toNatClampNeg).toInt := by rw [e2]
  have hs0 : (M 48 1, M 51, M 52, M 53, M 54) = (M 5 4, M 6, M 7, M 8, M 9) := by rw [hN.1, hN.2.1, hN.2.2.1, hN.2.2.2.1, hN.2.2.2.2.1]
  have hit : 0 ≤ p0.toInt → p0.toInt ≤ 3 → ∀ k : Nat, 0 ≤ p2.toInt + k → p2.toInt + k < (M 47 p0.toNatClampNeg).toInt → M 77 (40 * p0.toInt.toNat + (p2.toInt + k).toNat) = M 45 (40 * p0.toInt.toNat + (p2.toInt + k).toNat) := fun z1 z2 k z3 z4 => (e5 _ _ (by omega) (by rw [n_cl] at z4; omega)).symm
  refine mx_q (fun Qx hQx => ?_)
  refine mx_go 200 zq_t123 ?_
  show mx g (d + 5) kX11_isSheet 0 [.int (p0)] [] M _
  refine c_X11_isSheet (fun k1 k2 => ?_) (fun k3 => ?_)
  · show ((1 : Int32) = 0 → Qx (some (.int (-2))) M) ∧ (¬ (1 : Int32) = 0 → mx g (d + 5) kX11_isSort 0 [.int (p1)] [] M _)
    refine ⟨fun q4 => absurd q4 (by decide), fun _ => ?_⟩
    refine c_X11_isSort (fun k5 k6 => ?_) (fun k7 => ?_)
    · show ((1 : Int32) = 0 → Qx (some (.int (-2))) M) ∧ (¬ (1 : Int32) = 0 → ((p3 : Int32) < 0 → Qx (some (.int (-2))) M) ∧ (¬ (p3 : Int32) < 0 → ((p3 : Int32) ≤ (20 : Int32) → mx g (d + 5) kX6_isMissing 0 [.ref 44, .int (p0)] [] M _) ∧ (¬ (p3 : Int32) ≤ (20 : Int32) → Qx (some (.int (-2))) M)))
      refine ⟨fun q8 => absurd q8 (by decide), fun _ => ?_⟩
      refine ⟨fun q9 => ?_, fun q9 => ?_⟩
      · refine hQx _ _ ⟨(-2), rfl, ?_⟩
        refine mx_q (fun Qm hQm => ?_)
        refine mx_go 200 zq_t227 ?_
        show mx g (d + 5) kX12_isSheet 0 [.ref 48, .int (p0)] [] M _
        refine c_X12_isSheet (fun k10 k11 => ?_) (fun k12 => by exfalso; (simp only [e1, e2, n_lt, n_le, n_eq, n_add, n_sub, n_mul, n_neg, n_lit, zw] at *; omega))
        show ((1 : Int32) = 0 → Qm (some (.int (-2))) M) ∧ (¬ (1 : Int32) = 0 → mx g (d + 5) kX12_in 0 [.ref 48, .int (p1), .int (0), .int (2)] [] M _)
        refine ⟨fun q13 => absurd q13 (by decide), fun _ => ?_⟩
        refine c_X12_in (fun k14 k15 => ?_) (fun k16 => by exfalso; (simp only [e1, e2, n_lt, n_le, n_eq, n_add, n_sub, n_mul, n_neg, n_lit, zw] at *; omega))
        show ((1 : Int32) = 0 → Qm (some (.int (-2))) M) ∧ (¬ (1 : Int32) = 0 → mx g (d + 5) kX12_in 0 [.ref 48, .int (p3), .int (0), .int (20)] [] M _)
        refine ⟨fun q17 => absurd q17 (by decide), fun _ => ?_⟩
        refine c_X12_in (fun k18 k19 => by exfalso; (simp only [e1, e2, n_lt, n_le, n_eq, n_add, n_sub, n_mul, n_neg, n_lit, zw] at *; omega)) (fun k20 => ?_)
        show (¬ (0 : Int32) = 0 → vp_in p0 4 ∧ (0 ≤ (((M 75) (Int32.toNatClampNeg p0)) : Int32) → vp_in p0 4 ∧ ((((M 75) (Int32.toNatClampNeg p0)) : Int32) = (p1 : Int32) → mx g (d + 6) kX12_nights 64 [.ref 48, .int (p0), .null, .int (p2), .int (p3), .int (0), .int (0), .null] [] M Qm) ∧ (¬ (((M 75) (Int32.toNatClampNeg p0)) : Int32) = (p1 : Int32) → Qm (some (.int (-13))) M)) ∧ (¬ 0 ≤ (((M 75) (Int32.toNatClampNeg p0)) : Int32) → Qm (some (.int (-11))) M)) ∧ ((0 : Int32) = 0 → Qm (some (.int (-2))) M)
        refine ⟨fun q21 => absurd q21 (by decide), fun _ => ?_⟩
        refine hQm _ _ ⟨by first | rfl | simp only [e1, e2, n_pred], ?_⟩
        exact hR
      · refine ⟨fun q10 => ?_, fun q10 => ?_⟩
        · refine mx_q (fun Q11 hQ11 => ?_)
          refine mx_go 200 zq_t49 ?_
          show vp_in p0 4 ∧ (¬ (((M 46) (Int32.toNatClampNeg p0)) : Int32) = ((-1) : Int32) → zq_b 0 ∧ Q11 (some (.int 0)) M) ∧ ((((M 46) (Int32.toNatClampNeg p0)) : Int32) = ((-1) : Int32) → zq_b 1 ∧ Q11 (some (.int 1)) M)
          refine ⟨(n_in (by (simp only [e1, e2, n_lt, n_le, n_eq, n_add, n_sub, n_mul, n_neg, n_lit, zw] at *; omega)) (by (simp only [e1, e2, n_lt, n_le, n_eq, n_add, n_sub, n_mul, n_neg, n_lit, zw] at *; omega))), ?_⟩
          refine ⟨fun q12 => ?_, fun q12 => ?_⟩
          · refine ⟨(by first | exact Or.inl rfl | exact Or.inr rfl), ?_⟩
            refine hQ11 _ _ ?_
            show (¬ (0 : Int32) = 0 → mx g (d + 5) kX6_isMissing 0 [.ref 44, .int (p0)] [] M _) ∧ ((0 : Int32) = 0 → vp_in p0 4 ∧ ((((M 46) (Int32.toNatClampNeg p0)) : Int32) = (p1 : Int32) → mx g (d + 5) kX6_isMissing 0 [.ref 44, .int (p0)] [] M _) ∧ (¬ (((M 46) (Int32.toNatClampNeg p0)) : Int32) = (p1 : Int32) → Qx (some (.int (-13))) M))
            refine ⟨fun q13 => absurd q13 (by decide), fun _ => ?_⟩
            refine ⟨(n_in (by (simp only [e1, e2, n_lt, n_le, n_eq, n_add, n_sub, n_mul, n_neg, n_lit, zw] at *; omega)) (by (simp only [e1, e2, n_lt, n_le, n_eq, n_add, n_sub, n_mul, n_neg, n_lit, zw] at *; omega))), ?_⟩
            refine ⟨fun q14 => ?_, fun q14 => ?_⟩
            · refine mx_q (fun Q15 hQ15 => ?_)
              refine mx_go 200 zq_t49 ?_
              show vp_in p0 4 ∧ (¬ (((M 46) (Int32.toNatClampNeg p0)) : Int32) = ((-1) : Int32) → zq_b 0 ∧ Q15 (some (.int 0)) M) ∧ ((((M 46) (Int32.toNatClampNeg p0)) : Int32) = ((-1) : Int32) → zq_b 1 ∧ Q15 (some (.int 1)) M)
              refine ⟨(n_in (by (simp only [e1, e2, n_lt, n_le, n_eq, n_add, n_sub, n_mul, n_neg, n_lit, zw] at *; omega)) (by (simp only [e1, e2, n_lt, n_le, n_eq, n_add, n_sub, n_mul, n_neg, n_lit, zw] at *; omega))), ?_⟩
              refine ⟨fun q16 => ?_, fun q16 => by exfalso; (simp only [e1, e2, n_lt, n_le, n_eq, n_add, n_sub, n_mul, n_neg, n_lit, zw] at *; omega)⟩
              refine ⟨(by first | exact Or.inl rfl | exact Or.inr rfl), ?_⟩
              refine hQ15 _ _ ?_
              show ((0 : Int32) = 0 → mx g (d + 6) kX11_nights 76 [.ref 0, .int (p0), .null, .int (p2), .int (p3), .int (0), .int (0)] [] M Qx) ∧ (¬ (0 : Int32) = 0 → Qx (some (.int (-11))) M)
              refine ⟨fun _ => ?_, fun q17 => absurd q17 (by decide)⟩
              refine c_X11_nights76 (by (simp only [e1, e2, n_lt, n_le, n_eq, n_add, n_sub, n_mul, n_neg, n_lit, zw] at *; omega)) (by (simp only [e1, e2, n_lt, n_le, n_eq, n_add, n_sub, n_mul, n_neg, n_lit, zw] at *; omega)) (by constructor <;> (simp only [e1, e2, n_lt, n_le, n_eq, n_add, n_sub, n_mul, n_neg, n_lit, zw] at *; omega)) (by (simp only [e1, e2, n_lt, n_le, n_eq, n_add, n_sub, n_mul, n_neg, n_lit, zw] at *; omega)) (by (simp only [e1, e2, n_lt, n_le, n_eq, n_add, n_sub, n_mul, n_neg, n_lit, zw] at *; omega)) (bN_of hN) (fun N18 u19 => ?_)
              refine hQx _ _ ⟨(nsF (fun k => M 45 (40 * p0.toInt.toNat + (p2.toInt + k).toNat)) p2.toInt (M 47 p0.toNatClampNeg).toInt p3.toInt.toNat 0 0 (M 5 4, M 6, M 7, M 8, M 9)).1, rfl, ?_⟩
              refine mx_q (fun Qm hQm => ?_)
              refine mx_go 200 zq_t227 ?_
              show mx g (d + 5) kX12_isSheet 0 [.ref 48, .int (p0)] [] (zq_mu (mv [6, 7, 8, 9] N18 M) 5 4 (N18 5 4)) _
              refine c_X12_isSheet (fun k20 k21 => ?_) (fun k22 => by exfalso; (simp only [e1, e2, n_lt, n_le, n_eq, n_add, n_sub, n_mul, n_neg, n_lit, zw] at *; omega))
              show ((1 : Int32) = 0 → Qm (some (.int (-2))) (zq_mu (mv [6, 7, 8, 9] N18 M) 5 4 (N18 5 4))) ∧ (¬ (1 : Int32) = 0 → mx g (d + 5) kX12_in 0 [.ref 48, .int (p1), .int (0), .int (2)] [] (zq_mu (mv [6, 7, 8, 9] N18 M) 5 4 (N18 5 4)) _)
              refine ⟨fun q23 => absurd q23 (by decide), fun _ => ?_⟩
              refine c_X12_in (fun k24 k25 => ?_) (fun k26 => by exfalso; (simp only [e1, e2, n_lt, n_le, n_eq, n_add, n_sub, n_mul, n_neg, n_lit, zw] at *; omega))
              show ((1 : Int32) = 0 → Qm (some (.int (-2))) (zq_mu (mv [6, 7, 8, 9] N18 M) 5 4 (N18 5 4))) ∧ (¬ (1 : Int32) = 0 → mx g (d + 5) kX12_in 0 [.ref 48, .int (p3), .int (0), .int (20)] [] (zq_mu (mv [6, 7, 8, 9] N18 M) 5 4 (N18 5 4)) _)
              refine ⟨fun q27 => absurd q27 (by decide), fun _ => ?_⟩
              refine c_X12_in (fun k28 k29 => ?_) (fun k30 => by exfalso; (simp only [e1, e2, n_lt, n_le, n_eq, n_add, n_sub, n_mul, n_neg, n_lit, zw] at *; omega))
              show (¬ (1 : Int32) = 0 → vp_in p0 4 ∧ (0 ≤ (((M 75) (Int32.toNatClampNeg p0)) : Int32) → vp_in p0 4 ∧ ((((M 75) (Int32.toNatClampNeg p0)) : Int32) = (p1 : Int32) → mx g (d + 6) kX12_nights 64 [.ref 48, .int (p0), .null, .int (p2), .int (p3), .int (0), .int (0), .null] [] (zq_mu (mv [6, 7, 8, 9] N18 M) 5 4 (N18 5 4)) Qm) ∧ (¬ (((M 75) (Int32.toNatClampNeg p0)) : Int32) = (p1 : Int32) → Qm (some (.int (-13))) (zq_mu (mv [6, 7, 8, 9] N18 M) 5 4 (N18 5 4)))) ∧ (¬ 0 ≤ (((M 75) (Int32.toNatClampNeg p0)) : Int32) → Qm (some (.int (-11))) (zq_mu (mv [6, 7, 8, 9] N18 M) 5 4 (N18 5 4)))) ∧ ((1 : Int32) = 0 → Qm (some (.int (-2))) (zq_mu (mv [6, 7, 8, 9] N18 M) 5 4 (N18 5 4)))
              refine ⟨fun _ => ?_, fun q31 => absurd q31 (by decide)⟩
              refine ⟨(n_in (by (simp only [e1, e2, n_lt, n_le, n_eq, n_add, n_sub, n_mul, n_neg, n_lit, zw] at *; omega)) (by (simp only [e1, e2, n_lt, n_le, n_eq, n_add, n_sub, n_mul, n_neg, n_lit, zw] at *; omega))), ?_⟩
              refine ⟨fun q32 => ?_, fun q32 => ?_⟩
              · refine ⟨(n_in (by (simp only [e1, e2, n_lt, n_le, n_eq, n_add, n_sub, n_mul, n_neg, n_lit, zw] at *; omega)) (by (simp only [e1, e2, n_lt, n_le, n_eq, n_add, n_sub, n_mul, n_neg, n_lit, zw] at *; omega))), ?_⟩
                refine ⟨fun q33 => ?_, fun q33 => by exfalso; (simp only [e1, e2, n_lt, n_le, n_eq, n_add, n_sub, n_mul, n_neg, n_lit, zw] at *; omega)⟩
                refine c_X12_nights64 (it := fun k => M 45 (40 * p0.toInt.toNat + (p2.toInt + k).toNat)) (sz := (M 47 p0.toNatClampNeg).toInt) (s0 := (M 5 4, M 6, M 7, M 8, M 9)) (by (simp only [e1, e2, n_lt, n_le, n_eq, n_add, n_sub, n_mul, n_neg, n_lit, zw] at *; omega)) (by (simp only [e1, e2, n_lt, n_le, n_eq, n_add, n_sub, n_mul, n_neg, n_lit, zw] at *; omega)) hsz (by constructor <;> (simp only [e1, e2, n_lt, n_le, n_eq, n_add, n_sub, n_mul, n_neg, n_lit, zw] at *; omega)) (by (simp only [e1, e2, n_lt, n_le, n_eq, n_add, n_sub, n_mul, n_neg, n_lit, zw] at *; omega)) (by (simp only [e1, e2, n_lt, n_le, n_eq, n_add, n_sub, n_mul, n_neg, n_lit, zw] at *; omega)) hs0 (bN_of hN) (hit (by (simp only [e1, e2, n_lt, n_le, n_eq, n_add, n_sub, n_mul, n_neg, n_lit, zw] at *; omega)) (by (simp only [e1, e2, n_lt, n_le, n_eq, n_add, n_sub, n_mul, n_neg, n_lit, zw] at *; omega))) (fun N34 u35 => ?_)
                refine hQm _ _ ⟨by first | rfl | simp only [e1, e2, n_pred], ?_⟩
                exact ⟨hS, gN_of (s := (nsF (fun k => M 45 (40 * p0.toInt.toNat + (p2.toInt + k).toNat)) p2.toInt (M 47 p0.toNatClampNeg).toInt p3.toInt.toNat 0 0 (M 5 4, M 6, M 7, M 8, M 9)).2) (bN_ns _ _ _ _ (bN_of hN)) u19 u35, hH, hT, hP, hI, hE, hF, hX, hV⟩
              · exfalso; (simp only [e1, e2, n_lt, n_le, n_eq, n_add, n_sub, n_mul, n_neg, n_lit, zw] at *; omega)
            · refine hQx _ _ ⟨(-13), rfl, ?_⟩
              refine mx_q (fun Qm hQm => ?_)
              refine mx_go 200 zq_t227 ?_
              show mx g (d + 5) kX12_isSheet 0 [.ref 48, .int (p0)] [] M _
              refine c_X12_isSheet (fun k20 k21 => ?_) (fun k22 => by exfalso; (simp only [e1, e2, n_lt, n_le, n_eq, n_add, n_sub, n_mul, n_neg, n_lit, zw] at *; omega))
              show ((1 : Int32) = 0 → Qm (some (.int (-2))) M) ∧ (¬ (1 : Int32) = 0 → mx g (d + 5) kX12_in 0 [.ref 48, .int (p1), .int (0), .int (2)] [] M _)
              refine ⟨fun q23 => absurd q23 (by decide), fun _ => ?_⟩
              refine c_X12_in (fun k24 k25 => ?_) (fun k26 => by exfalso; (simp only [e1, e2, n_lt, n_le, n_eq, n_add, n_sub, n_mul, n_neg, n_lit, zw] at *; omega))
              show ((1 : Int32) = 0 → Qm (some (.int (-2))) M) ∧ (¬ (1 : Int32) = 0 → mx g (d + 5) kX12_in 0 [.ref 48, .int (p3), .int (0), .int (20)] [] M _)
              refine ⟨fun q27 => absurd q27 (by decide), fun _ => ?_⟩
              refine c_X12_in (fun k28 k29 => ?_) (fun k30 => by exfalso; (simp only [e1, e2, n_lt, n_le, n_eq, n_add, n_sub, n_mul, n_neg, n_lit, zw] at *; omega))
              show (¬ (1 : Int32) = 0 → vp_in p0 4 ∧ (0 ≤ (((M 75) (Int32.toNatClampNeg p0)) : Int32) → vp_in p0 4 ∧ ((((M 75) (Int32.toNatClampNeg p0)) : Int32) = (p1 : Int32) → mx g (d + 6) kX12_nights 64 [.ref 48, .int (p0), .null, .int (p2), .int (p3), .int (0), .int (0), .null] [] M Qm) ∧ (¬ (((M 75) (Int32.toNatClampNeg p0)) : Int32) = (p1 : Int32) → Qm (some (.int (-13))) M)) ∧ (¬ 0 ≤ (((M 75) (Int32.toNatClampNeg p0)) : Int32) → Qm (some (.int (-11))) M)) ∧ ((1 : Int32) = 0 → Qm (some (.int (-2))) M)
              refine ⟨fun _ => ?_, fun q31 => absurd q31 (by decide)⟩
              refine ⟨(n_in (by (simp only [e1, e2, n_lt, n_le, n_eq, n_add, n_sub, n_mul, n_neg, n_lit, zw] at *; omega)) (by (simp only [e1, e2, n_lt, n_le, n_eq, n_add, n_sub, n_mul, n_neg, n_lit, zw] at *; omega))), ?_⟩
              refine ⟨fun q32 => ?_, fun q32 => ?_⟩
              · refine ⟨(n_in (by (simp only [e1, e2, n_lt, n_le, n_eq, n_add, n_sub, n_mul, n_neg, n_lit, zw] at *; omega)) (by (simp only [e1, e2, n_lt, n_le, n_eq, n_add, n_sub, n_mul, n_neg, n_lit, zw] at *; omega))), ?_⟩
                refine ⟨fun q33 => by exfalso; (simp only [e1, e2, n_lt, n_le, n_eq, n_add, n_sub, n_mul, n_neg, n_lit, zw] at *; omega), fun q33 => ?_⟩
                refine hQm _ _ ⟨by first | rfl | simp only [e1, e2, n_pred], ?_⟩
                exact hR
              · exfalso; (simp only [e1, e2, n_lt, n_le, n_eq, n_add, n_sub, n_mul, n_neg, n_lit, zw] at *; omega)
          · refine ⟨(by first | exact Or.inl rfl | exact Or.inr rfl), ?_⟩
            refine hQ11 _ _ ?_
            show (¬ (1 : Int32) = 0 → mx g (d + 5) kX6_isMissing 0 [.ref 44, .int (p0)] [] M _) ∧ ((1 : Int32) = 0 → vp_in p0 4 ∧ ((((M 46) (Int32.toNatClampNeg p0)) : Int32) = (p1 : Int32) → mx g (d + 5) kX6_isMissing 0 [.ref 44, .int (p0)] [] M _) ∧ (¬ (((M 46) (Int32.toNatClampNeg p0)) : Int32) = (p1 : Int32) → Qx (some (.int (-13))) M))
            refine ⟨fun _ => ?_, fun q20 => absurd q20 (by decide)⟩
            refine mx_q (fun Q21 hQ21 => ?_)
            refine mx_go 200 zq_t49 ?_
            show vp_in p0 4 ∧ (¬ (((M 46) (Int32.toNatClampNeg p0)) : Int32) = ((-1) : Int32) → zq_b 0 ∧ Q21 (some (.int 0)) M) ∧ ((((M 46) (Int32.toNatClampNeg p0)) : Int32) = ((-1) : Int32) → zq_b 1 ∧ Q21 (some (.int 1)) M)
            refine ⟨(n_in (by (simp only [e1, e2, n_lt, n_le, n_eq, n_add, n_sub, n_mul, n_neg, n_lit, zw] at *; omega)) (by (simp only [e1, e2, n_lt, n_le, n_eq, n_add, n_sub, n_mul, n_neg, n_lit, zw] at *; omega))), ?_⟩
            refine ⟨fun q22 => by exfalso; (simp only [e1, e2, n_lt, n_le, n_eq, n_add, n_sub, n_mul, n_neg, n_lit, zw] at *; omega), fun q22 => ?_⟩
            refine ⟨(by first | exact Or.inl rfl | exact Or.inr rfl), ?_⟩
            refine hQ21 _ _ ?_
            show ((1 : Int32) = 0 → mx g (d + 6) kX11_nights 76 [.ref 0, .int (p0), .null, .int (p2), .int (p3), .int (0), .int (0)] [] M Qx) ∧ (¬ (1 : Int32) = 0 → Qx (some (.int (-11))) M)
            refine ⟨fun q23 => absurd q23 (by decide), fun _ => ?_⟩
            refine hQx _ _ ⟨(-11), rfl, ?_⟩
            refine mx_q (fun Qm hQm => ?_)
            refine mx_go 200 zq_t227 ?_
            show mx g (d + 5) kX12_isSheet 0 [.ref 48, .int (p0)] [] M _
            refine c_X12_isSheet (fun k24 k25 => ?_) (fun k26 => by exfalso; (simp only [e1, e2, n_lt, n_le, n_eq, n_add, n_sub, n_mul, n_neg, n_lit, zw] at *; omega))
            show ((1 : Int32) = 0 → Qm (some (.int (-2))) M) ∧ (¬ (1 : Int32) = 0 → mx g (d + 5) kX12_in 0 [.ref 48, .int (p1), .int (0), .int (2)] [] M _)
            refine ⟨fun q27 => absurd q27 (by decide), fun _ => ?_⟩
            refine c_X12_in (fun k28 k29 => ?_) (fun k30 => by exfalso; (simp only [e1, e2, n_lt, n_le, n_eq, n_add, n_sub, n_mul, n_neg, n_lit, zw] at *; omega))
            show ((1 : Int32) = 0 → Qm (some (.int (-2))) M) ∧ (¬ (1 : Int32) = 0 → mx g (d + 5) kX12_in 0 [.ref 48, .int (p3), .int (0), .int (20)] [] M _)
            refine ⟨fun q31 => absurd q31 (by decide), fun _ => ?_⟩
            refine c_X12_in (fun k32 k33 => ?_) (fun k34 => by exfalso; (simp only [e1, e2, n_lt, n_le, n_eq, n_add, n_sub, n_mul, n_neg, n_lit, zw] at *; omega))
            show (¬ (1 : Int32) = 0 → vp_in p0 4 ∧ (0 ≤ (((M 75) (Int32.toNatClampNeg p0)) : Int32) → vp_in p0 4 ∧ ((((M 75) (Int32.toNatClampNeg p0)) : Int32) = (p1 : Int32) → mx g (d + 6) kX12_nights 64 [.ref 48, .int (p0), .null, .int (p2), .int (p3), .int (0), .int (0), .null] [] M Qm) ∧ (¬ (((M 75) (Int32.toNatClampNeg p0)) : Int32) = (p1 : Int32) → Qm (some (.int (-13))) M)) ∧ (¬ 0 ≤ (((M 75) (Int32.toNatClampNeg p0)) : Int32) → Qm (some (.int (-11))) M)) ∧ ((1 : Int32) = 0 → Qm (some (.int (-2))) M)
            refine ⟨fun _ => ?_, fun q35 => absurd q35 (by decide)⟩
            refine ⟨(n_in (by (simp only [e1, e2, n_lt, n_le, n_eq, n_add, n_sub, n_mul, n_neg, n_lit, zw] at *; omega)) (by (simp only [e1, e2, n_lt, n_le, n_eq, n_add, n_sub, n_mul, n_neg, n_lit, zw] at *; omega))), ?_⟩
            refine ⟨fun q36 => by exfalso; (simp only [e1, e2, n_lt, n_le, n_eq, n_add, n_sub, n_mul, n_neg, n_lit, zw] at *; omega), fun q36 => ?_⟩
            refine hQm _ _ ⟨by first | rfl | simp only [e1, e2, n_pred], ?_⟩
            exact hR
        · refine hQx _ _ ⟨(-2), rfl, ?_⟩
          refine mx_q (fun Qm hQm => ?_)
          refine mx_go 200 zq_t227 ?_
          show mx g (d + 5) kX12_isSheet 0 [.ref 48, .int (p0)] [] M _
          refine c_X12_isSheet (fun k24 k25 => ?_) (fun k26 => by exfalso; (simp only [e1, e2, n_lt, n_le, n_eq, n_add, n_sub, n_mul, n_neg, n_lit, zw] at *; omega))
          show ((1 : Int32) = 0 → Qm (some (.int (-2))) M) ∧ (¬ (1 : Int32) = 0 → mx g (d + 5) kX12_in 0 [.ref 48, .int (p1), .int (0), .int (2)] [] M _)
          refine ⟨fun q27 => absurd q27 (by decide), fun _ => ?_⟩
          refine c_X12_in (fun k28 k29 => ?_) (fun k30 => by exfalso; (simp only [e1, e2, n_lt, n_le, n_eq, n_add, n_sub, n_mul, n_neg, n_lit, zw] at *; omega))
          show ((1 : Int32) = 0 → Qm (some (.int (-2))) M) ∧ (¬ (1 : Int32) = 0 → mx g (d + 5) kX12_in 0 [.ref 48, .int (p3), .int (0), .int (20)] [] M _)
          refine ⟨fun q31 => absurd q31 (by decide), fun _ => ?_⟩
          refine c_X12_in (fun k32 k33 => by exfalso; (simp only [e1, e2, n_lt, n_le, n_eq, n_add, n_sub, n_mul, n_neg, n_lit, zw] at *; omega)) (fun k34 => ?_)
          show (¬ (0 : Int32) = 0 → vp_in p0 4 ∧ (0 ≤ (((M 75) (Int32.toNatClampNeg p0)) : Int32) → vp_in p0 4 ∧ ((((M 75) (Int32.toNatClampNeg p0)) : Int32) = (p1 : Int32) → mx g (d + 6) kX12_nights 64 [.ref 48, .int (p0), .null, .int (p2), .int (p3), .int (0), .int (0), .null] [] M Qm) ∧ (¬ (((M 75) (Int32.toNatClampNeg p0)) : Int32) = (p1 : Int32) → Qm (some (.int (-13))) M)) ∧ (¬ 0 ≤ (((M 75) (Int32.toNatClampNeg p0)) : Int32) → Qm (some (.int (-11))) M)) ∧ ((0 : Int32) = 0 → Qm (some (.int (-2))) M)
          refine ⟨fun q35 => absurd q35 (by decide), fun _ => ?_⟩
          refine hQm _ _ ⟨by first | rfl | simp only [e1, e2, n_pred], ?_⟩
          exact hR
    · show ((0 : Int32) = 0 → Qx (some (.int (-2))) M) ∧ (¬ (0 : Int32) = 0 → ((p3 : Int32) < 0 → Qx (some (.int (-2))) M) ∧ (¬ (p3 : Int32) < 0 → ((p3 : Int32) ≤ (20 : Int32) → mx g (d + 5) kX6_isMissing 0 [.ref 44, .int (p0)] [] M _) ∧ (¬ (p3 : Int32) ≤ (20 : Int32) → Qx (some (.int (-2))) M)))
      refine ⟨fun _ => ?_, fun q24 => absurd q24 (by decide)⟩
      refine hQx _ _ ⟨(-2), rfl, ?_⟩
      refine mx_q (fun Qm hQm => ?_)
      refine mx_go 200 zq_t227 ?_
      show mx g (d + 5) kX12_isSheet 0 [.ref 48, .int (p0)] [] M _
      refine c_X12_isSheet (fun k25 k26 => ?_) (fun k27 => by exfalso; (simp only [e1, e2, n_lt, n_le, n_eq, n_add, n_sub, n_mul, n_neg, n_lit, zw] at *; omega))
      show ((1 : Int32) = 0 → Qm (some (.int (-2))) M) ∧ (¬ (1 : Int32) = 0 → mx g (d + 5) kX12_in 0 [.ref 48, .int (p1), .int (0), .int (2)] [] M _)
      refine ⟨fun q28 => absurd q28 (by decide), fun _ => ?_⟩
      refine c_X12_in (fun k29 k30 => by exfalso; (simp only [e1, e2, n_lt, n_le, n_eq, n_add, n_sub, n_mul, n_neg, n_lit, zw] at *; omega)) (fun k31 => ?_)
      show ((0 : Int32) = 0 → Qm (some (.int (-2))) M) ∧ (¬ (0 : Int32) = 0 → mx g (d + 5) kX12_in 0 [.ref 48, .int (p3), .int (0), .int (20)] [] M _)
      refine ⟨fun _ => ?_, fun q32 => absurd q32 (by decide)⟩
      refine hQm _ _ ⟨by first | rfl | simp only [e1, e2, n_pred], ?_⟩
      exact hR
  · show ((0 : Int32) = 0 → Qx (some (.int (-2))) M) ∧ (¬ (0 : Int32) = 0 → mx g (d + 5) kX11_isSort 0 [.int (p1)] [] M _)
    refine ⟨fun _ => ?_, fun q25 => absurd q25 (by decide)⟩
    refine hQx _ _ ⟨(-2), rfl, ?_⟩
    refine mx_q (fun Qm hQm => ?_)
    refine mx_go 200 zq_t227 ?_
    show mx g (d + 5) kX12_isSheet 0 [.ref 48, .int (p0)] [] M _
    refine c_X12_isSheet (fun k26 k27 => by exfalso; (simp only [e1, e2, n_lt, n_le, n_eq, n_add, n_sub, n_mul, n_neg, n_lit, zw] at *; omega)) (fun k28 => ?_)
    show ((0 : Int32) = 0 → Qm (some (.int (-2))) M) ∧ (¬ (0 : Int32) = 0 → mx g (d + 5) kX12_in 0 [.ref 48, .int (p1), .int (0), .int (2)] [] M _)
    refine ⟨fun _ => ?_, fun q29 => absurd q29 (by decide)⟩
    refine hQm _ _ ⟨by first | rfl | simp only [e1, e2, n_pred], ?_⟩
    exact hR

