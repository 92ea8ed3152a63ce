def fct (w num ni wet ice wi : Int32) (j : Nat) : Int32 := if j = 0 then w else if j = 1 then wet else if j = 2 then ice else if j = 3 then wi else if j = 4 then num else ni
theorem stp_lo {a b : Int32} {s : Int} (h : stp a b s) : -15 ≤ s := by unfold stp at h; omega
theorem st10 {a b : Int32} {s : Int} {m : Int32} (st : stp a b s) (hk : pk s m.toInt.toNat) (ha : a.toInt = 10) (h0 : 0 ≤ m.toInt) : 1 ≤ m.toInt ∧ s = -15 := by
  unfold stp at st
  have e : s = -15 := by omega
  unfold pk at hk
  rw [if_neg (by omega), if_pos (Or.inr e)] at hk
  omega
theorem st4 {a b : Int32} {s : Int} {m : Int32} (st : stp a b s) (hk : pk s m.toInt.toNat) (ha : a.toInt = 4) (h0 : 0 ≤ m.toInt) : 1 ≤ m.toInt ∧ s = -9 := by
  unfold stp at st
  have e : s = -9 := by omega
  unfold pk at hk
  rw [if_neg (by omega), if_pos (Or.inl e)] at hk
  omega
theorem c_X8_value {g : zq_G} {d : Nat} {M : zq_M} {Q : Option Value → zq_M → Prop} {p r n n' r' : Int32} {co en sg te ma fa : Nat → Int32} (hX : gX n n' r r' co en sg te ma) (hr : M 13 5 = r) (h14 : M 14 = co) (h15 : M 15 = en) (hfa : M 16 = fa) (p1 : 0 ≤ p.toInt) (p2 : p.toInt ≤ 2) (h : ∀ N : zq_M, Q (some (.int (evV fa (tl co en r.toInt.toNat p.toInt.toNat)))) (mv [17] N M)) : mx g (d + 2) kX8_value 0 [.ref 13, .int p, .null, .null, .null, .null] [] M Q := by
  obtain ⟨x1, x2, x3, x4, x5, x6, x7⟩ := hX
  obtain ⟨f, l, hp⟩ := x7 r.toInt.toNat p.toInt.toNat (by omega) (by omega)
  obtain ⟨hl, hf⟩ := prt_tl hp
  rw [← hl] at h
  obtain ⟨g1, g2, g3, g4, g5, g6, g7⟩ := hp
  have f160 : (160 : Int32).toInt = 160 := rfl
  have f3 : (3 : Int32).toInt = 3 := rfl
  have key : ∀ to fr0 : Int32, to.toInt = f + l.length → fr0.toInt = f → mx g (d + 2) kX8_value 50 [.ref 13, .null, .null, .int to, .int 0, .int fr0] [] M Q := by
    intro to fr0 ht hf0
    refine mx_wf3 (fun (a b : Int32) (_ : List Int) => [.ref 13, .null, .null, .int to, .int a, .int b]) (fun (a b : Int32) (c : List Int) M' => fr (fL [17]) M M' ∧ 0 ≤ a.toInt ∧ a.toInt ≤ 40 ∧ 0 ≤ b.toInt ∧ b.toInt + c.length = to.toInt ∧ (∀ (j : Nat) (s : Int), c[j]? = some s → (co (160 * r.toInt.toNat + b.toInt.toNat + j)).toInt = s ∧ -15 ≤ s) ∧ pok a.toInt.toNat c = true ∧ evV fa l = (evL fa c (M' 17) a.toInt.toNat).1 0) (fun _ _ c => c.length) ?_ 0 fr0 l M ⟨fr_rfl, by decide, by decide, by show 0 ≤ fr0.toInt; omega, by show fr0.toInt + l.length = to.toInt; omega, fun j s hj => ?_, g7, ?_⟩
    · intro t x rest M' ⟨i1, i2, i3, i4, i5, i6, i7, i8⟩ ih
      have e13 : M' 13 5 = r := (i1 13 5 rfl).trans hr
      have e14 : M' 14 = co := (fr_ar i1 14 (fun _ => rfl)).trans h14
      have e16 : M' 16 = fa := (fr_ar i1 16 (fun _ => rfl)).trans hfa
      refine mx_go 60 zq_t70 ?_
      show ((to : Int32) ≤ (x : Int32) → ((t : Int32) ≤ 0 → Q (some (.int 0)) M') ∧ (¬ (t : Int32) ≤ 0 → vp_in 0 40 ∧ Q (some (.int ((M' 17) (Int32.toNatClampNeg 0)))) M')) ∧ (¬ (to : Int32) ≤ (x : Int32) → vp_in (((M' 13 5) * 160) + x) 960 ∧ mx g (d + 1) kX8_work 0 [.ref 13, .int (((M' 14) (Int32.toNatClampNeg (((M' 13 5) * 160) + x)))), .int (t)] [] M' _)
      rw [e13, e14]
      cases rest with
      | nil =>
        rw [List.length_nil] at i5
        have t1 : t.toInt.toNat = 1 := by
          have : pok t.toInt.toNat [] = true := i7
          simpa [pok] using this
        refine ⟨fun q => ⟨fun q2 => ?_, fun q2 => ⟨n_in (by decide) (by decide), ?_⟩⟩, fun q => ?_⟩
        · rw [n_le, n_0] at q2; omega
        · rw [fr_mv i1]
          have := h M'
          rw [i8] at this
          exact this
        · rw [n_le] at q; omega
      | cons s rest =>
        rw [List.length_cons] at i5
        obtain ⟨j1, j2⟩ := i6 0 s rfl
        have pc := fun ff => pok_cons i7 fa ff
        have ix : (r * 160 + x).toInt = 160 * r.toInt + x.toInt := by rw [n_add, n_mul, f160, zw_id (z := r.toInt * 160) (by omega) (by omega), zw_id (by omega) (by omega)]; omega
        have hcode : (co (r * 160 + x).toNatClampNeg).toInt = s := by
          rw [n_cl, ix, ← j1]
          congr 2
          omega
        refine ⟨fun q => ?_, fun q => ⟨n_in (by omega) (by omega), ?_⟩⟩
        · rw [n_le] at q; omega
        · refine c_X8_work (n := t.toInt.toNat) (fa := fa) (f := M' 17) e16 rfl (by rw [hcode]; exact j2) (by omega) (by omega) (by rw [hcode]; exact (pc (M' 17)).1) (fun v hv => ?_)
          rw [hcode] at hv ⊢
          have ne := ev1_le (fa := fa) (f := M' 17) (pc (M' 17)).1 (by omega)
          have up : (x + 1).toInt = x.toInt + 1 := n_up (n := to) i4 (by omega)
          show mx g (d + 2) kX8_value 50 [.ref 13, .null, .null, .int (to), .int (v), .int ((x + 1))] [] (zq_ma M' 17 (ev1 fa s (M' 17) t.toInt.toNat).1) Q
          refine ih v (x + 1) rest _ (Nat.lt_succ_self _) ⟨fr_ma i1 (fun _ => rfl), by show 0 ≤ v.toInt; omega, by show v.toInt ≤ 40; omega, by show 0 ≤ (x + 1).toInt; omega, by show (x + 1).toInt + rest.length = to.toInt; omega, fun j z hj => ?_, ?_, ?_⟩
          · have := i6 (j + 1) z hj
            show (co (160 * r.toInt.toNat + (x + 1).toInt.toNat + j)).toInt = z ∧ _
            rw [show 160 * r.toInt.toNat + (x + 1).toInt.toNat + j = 160 * r.toInt.toNat + x.toInt.toNat + (j + 1) by omega]
            exact this
          · show pok v.toInt.toNat rest = true
            rw [hv, Int.toNat_natCast]
            exact (pc (M' 17)).2
          · show _ = (evL fa rest (ev1 fa s (M' 17) t.toInt.toNat).1 v.toInt.toNat).1 0
            rw [i8, hv, Int.toNat_natCast]
            rfl
    · have := g5 j s hj
      show (co (160 * r.toInt.toNat + fr0.toInt.toNat + j)).toInt = s ∧ _
      rw [hf0, Int.toNat_natCast]
      exact ⟨this.1, stp_lo this.2⟩
    · exact ev_ind (fun _ _ => rfl) l 0 _ _ g7 (fun j hj => absurd hj (by omega))
  refine mx_go 60 zq_t70 ?_
  show (¬ (p : Int32) = 0 → vp_in ((((M 13 5) * 3) + p) - 1) 18 ∧ vp_in (((M 13 5) * 3) + p) 18 ∧ mx g (d + 2) kX8_value 50 [.ref 13, .null, .null, .int ((if ((M 15) (Int32.toNatClampNeg (((M 13 5) * 3) + p))) < 160 then ((M 15) (Int32.toNatClampNeg (((M 13 5) * 3) + p))) else 160)), .int (0), .int (((M 15) (Int32.toNatClampNeg ((((M 13 5) * 3) + p) - 1))))] [] M Q) ∧ ((p : Int32) = 0 → vp_in (((M 13 5) * 3) + p) 18 ∧ mx g (d + 2) kX8_value 50 [.ref 13, .null, .null, .int ((if ((M 15) (Int32.toNatClampNeg (((M 13 5) * 3) + p))) < 160 then ((M 15) (Int32.toNatClampNeg (((M 13 5) * 3) + p))) else 160)), .int (0), .int (0)] [] M Q)
  rw [hr, h15]
  have ix : (r * 3 + p).toInt = 3 * r.toInt + p.toInt := by rw [n_add, n_mul, f3, zw_id (z := r.toInt * 3) (by omega) (by omega), zw_id (by omega) (by omega)]; omega
  have ix1 : 0 < p.toInt → (r * 3 + p - 1).toInt = 3 * r.toInt + p.toInt - 1 := fun z => by rw [n_sub, ix, n_1, zw_id (by omega) (by omega)]
  have hen : (en (r * 3 + p).toNatClampNeg).toInt = f + l.length := by
    rw [n_cl, ix, ← g3]
    congr 2
    omega
  have hto : (if en (r * 3 + p).toNatClampNeg < 160 then en (r * 3 + p).toNatClampNeg else 160).toInt = f + l.length := by
    split
    · exact hen
    · next c => rw [n_lt, hen, f160] at c; rw [f160]; omega
  refine ⟨fun q => ⟨n_in ?_ ?_, n_in (by omega) (by omega), key _ _ hto ?_⟩, fun q => ⟨n_in (by omega) (by omega), key _ _ hto ?_⟩⟩
  · rw [n_eq, n_0] at q; rw [ix1 (by omega)]; omega
  · rw [n_eq, n_0] at q; rw [ix1 (by omega)]; omega
  · rw [n_eq, n_0] at q
    rw [n_cl, ix1 (by omega), ← g2 (by omega)]
    congr 2
    omega
  · rw [n_eq, n_0] at q
    rw [n_0, g1 (by omega)]
    rfl
theorem c_X12_nameValue {g : zq_G} {d : Nat} {M : zq_M} {Q : Option Value → zq_M → Prop} {v w n h num wet ice wi : Int32} (v1 : 0 ≤ v.toInt) (v2 : v.toInt ≤ 5) (n1 : 0 ≤ n.toInt) (n2 : n.toInt < 60) (h2 : h.toInt < 8) (hwet : M 51 n.toNatClampNeg = wet) (hice : M 52 n.toNatClampNeg = ice) (hw : (0 ≤ M 48 27 → M 48 27 = wi) ∧ (¬ 0 ≤ M 48 27 → M 53 n.toNatClampNeg = wi)) (hnum : (0 ≤ h → M 56 h.toNatClampNeg = num) ∧ (¬ 0 ≤ h → 0 = num)) (hq : Q (some (.int (fct w num n wet ice wi v.toInt.toNat))) M) : mx g (d + 1) kX12_nameValue 0 [.ref 48, .int v, .int w, .int n, .int h] [] M Q := by
  refine mx_go 60 zq_t171 ?_
  show ((v : Int32).toInt < 0 ∨ 4 < (v : Int32).toInt → Q (some (.int n)) M) ∧ ((v : Int32).toInt = 0 → Q (some (.int w)) M) ∧ ((v : Int32).toInt = 1 → vp_in n 60 ∧ Q (some (.int ((M 51) (Int32.toNatClampNeg n)))) M) ∧ ((v : Int32).toInt = 2 → vp_in n 60 ∧ Q (some (.int ((M 52) (Int32.toNatClampNeg n)))) M) ∧ ((v : Int32).toInt = 3 → mx g (d) kX12_windNow 0 [.ref 48, .int (n)] [] M _) ∧ ((v : Int32).toInt = 4 → (0 ≤ (h : Int32) → vp_in h 8 ∧ Q (some (.int ((M 56) (Int32.toNatClampNeg h)))) M) ∧ (¬ 0 ≤ (h : Int32) → Q (some (.int 0)) M))
  have hin : vp_in n 60 := n_in n1 n2
  rw [hwet, hice]
  refine ⟨fun q => ?_, fun q => ?_, fun q => ⟨hin, ?_⟩, fun q => ⟨hin, ?_⟩, fun q => ?_, fun q => ⟨fun c => ⟨?_, ?_⟩, fun c => ?_⟩⟩
  · rw [show v.toInt = 5 by omega] at hq; exact hq
  · rw [q] at hq; exact hq
  · rw [q] at hq; exact hq
  · rw [q] at hq; exact hq
  · rw [q] at hq
    refine mx_q (fun Q1 hQ1 => ?_)
    refine mx_go 60 zq_t174 ?_
    show (0 ≤ ((M 48 27) : Int32) → Q1 (some (.int (M 48 27))) M) ∧ (¬ 0 ≤ ((M 48 27) : Int32) → vp_in n 60 ∧ Q1 (some (.int ((M 53) (Int32.toNatClampNeg n)))) M)
    refine ⟨fun c => hQ1 _ _ ?_, fun c => ⟨hin, hQ1 _ _ ?_⟩⟩
    · rw [hw.1 c]; exact hq
    · rw [hw.2 c]; exact hq
  · rw [n_le, n_0] at c; exact n_in c (by omega)
  · rw [q] at hq; rw [hnum.1 c]; exact hq
  · rw [q] at hq; rw [hnum.2 c]; exact hq
theorem c_X12_tellsRule {g : zq_G} {d : Nat} {M : zq_M} {Q : Option Value → zq_M → Prop} {k w n h r nn nn' r' num wet ice wi : Int32} {co en sg te ma : Nat → Int32} (hX : gX nn nn' r r' co en sg te ma) (hr : M 48 12 = r) (h58 : M 58 = sg) (h59 : M 59 = te) (h60 : M 60 = ma) (k1 : 0 ≤ k.toInt) (k2 : k.toInt ≤ 2) (n1 : 0 ≤ n.toInt) (n2 : n.toInt < 60) (h2 : h.toInt < 8) (hwet : M 51 n.toNatClampNeg = wet) (hice : M 52 n.toNatClampNeg = ice) (hw : (0 ≤ M 48 27 → M 48 27 = wi) ∧ (¬ 0 ≤ M 48 27 → M 53 n.toNatClampNeg = wi)) (hnum : (0 ≤ h → M 56 h.toNatClampNeg = num) ∧ (¬ 0 ≤ h → 0 = num)) (hq : ∀ N : zq_M, Q (some (.int (evV (fct w num n wet ice wi) (tl co en r.toInt.toNat k.toInt.toNat)))) (mv [62] N M)) : mx g (d + 2) kX12_tellsRule 0 [.ref 48, .int k, .int w, .int n, .int h, .null, .null, .null, .null] [] M Q := by
  obtain ⟨x1, x2, x3, x4, x5, x6, x7⟩ := hX
  obtain ⟨f, l, hp⟩ := x7 r.toInt.toNat k.toInt.toNat (by omega) (by omega)
  obtain ⟨hl, hf⟩ := prt_tl hp
  rw [← hl] at hq
  obtain ⟨g1, g2, g3, g4, g5, g6, g7⟩ := hp
  have f480 : (480 : Int32).toInt = 480 := rfl
  have f160 : (160 : Int32).toInt = 160 := rfl
  have f3 : (3 : Int32).toInt = 3 := rfl
  have f4 : (4 : Int32).toInt = 4 := rfl
  have f10 : (10 : Int32).toInt = 10 := rfl
  have b : (480 * r + 160 * k).toInt = 480 * r.toInt + 160 * k.toInt := by rw [n_add, n_mul, n_mul, f480, f160, zw_id (z := 480 * r.toInt) (by omega) (by omega), zw_id (z := 160 * k.toInt) (by omega) (by omega), zw_id (by omega) (by omega)]
  have b3 : (3 * r + k).toInt = 3 * r.toInt + k.toInt := by rw [n_add, n_mul, f3, zw_id (z := 3 * r.toInt) (by omega) (by omega), zw_id (by omega) (by omega)]
  have hma : (ma (3 * r + k).toNatClampNeg).toInt = l.length := by
    rw [n_cl, b3, ← g6]
    congr 2
    omega
  refine mx_go 100 zq_t173 ?_
  show mx g (d + 2) kX12_tellsRule 23 [.ref 48, .int (k), .int (w), .int (n), .int (h), .int (((480 * (M 48 12)) + (160 * k))), .int (0), .int (((480 * (M 48 12)) + (160 * k))), .null] [] M Q
  rw [hr]
  generalize hbase : 480 * r + 160 * k = base at b ⊢
  have hend : (base + ma (3 * r + k).toNatClampNeg).toInt = base.toInt + l.length := by rw [n_add, hma, zw_id (by omega) (by omega)]
  refine mx_wf3 (fun (a b : Int32) (_ : List Int) => [.ref 48, .int k, .int w, .int n, .int h, .int base, .int a, .int b, .null]) (fun (a b : Int32) (c : List Int) M' => fr (fL [62]) M M' ∧ 0 ≤ a.toInt ∧ a.toInt ≤ 40 ∧ base.toInt ≤ b.toInt ∧ b.toInt + c.length = base.toInt + l.length ∧ (∀ (j : Nat) (s : Int), c[j]? = some s → stp (sg (b.toInt.toNat + j)) (te (b.toInt.toNat + j)) s) ∧ pok a.toInt.toNat c = true ∧ evV (fct w num n wet ice wi) l = (evL (fct w num n wet ice wi) c (M' 62) a.toInt.toNat).1 0) (fun _ _ c => c.length) ?_ 0 base l M ⟨fr_rfl, by decide, by decide, Int.le_refl _, rfl, fun j s hj => ?_, g7, ?_⟩
  · intro m x rest M' ⟨i1, i2, i3, i4, i5, i6, i7, i8⟩ ih
    have e12 : M' 48 12 = r := (i1 48 12 rfl).trans hr
    have e58 : M' 58 = sg := (fr_ar i1 58 (fun _ => rfl)).trans h58
    have e59 : M' 59 = te := (fr_ar i1 59 (fun _ => rfl)).trans h59
    have e60 : M' 60 = ma := (fr_ar i1 60 (fun _ => rfl)).trans h60
    have e51 : M' 51 = M 51 := fr_ar i1 51 (fun _ => rfl)
    have e52 : M' 52 = M 52 := fr_ar i1 52 (fun _ => rfl)
    have e53 : M' 53 = M 53 := fr_ar i1 53 (fun _ => rfl)
    have e56 : M' 56 = M 56 := fr_ar i1 56 (fun _ => rfl)
    have e27 : M' 48 27 = M 48 27 := i1 48 27 rfl
    refine mx_go 100 zq_t173 ?_
    show vp_in ((3 * (M' 48 12)) + k) 18 ∧ (((base + ((M' 60) (Int32.toNatClampNeg ((3 * (M' 48 12)) + k)))) : Int32) ≤ (x : Int32) → vp_in 0 161 ∧ Q (some (.int ((M' 62) (Int32.toNatClampNeg 0)))) M') ∧ (¬ ((base + ((M' 60) (Int32.toNatClampNeg ((3 * (M' 48 12)) + k)))) : Int32) ≤ (x : Int32) → vp_in x 2880 ∧ ((((M' 58) (Int32.toNatClampNeg x)) : Int32) = 0 → (¬ (((M' 58) (Int32.toNatClampNeg x)) : Int32) = 0 → vp_in x 2880 ∧ mx g (d + 1) kX12_nameValue 0 [.ref 48, .int (((M' 59) (Int32.toNatClampNeg x))), .int (w), .int (n), .int (h)] [] M' _) ∧ ((((M' 58) (Int32.toNatClampNeg x)) : Int32) = 0 → vp_in x 2880 ∧ vp_in m 161 ∧ mx g (d + 2) kX12_tellsRule 23 [.ref 48, .int (k), .int (w), .int (n), .int (h), .int (base), .int ((m + 1)), .int ((x + 1)), .null] [] (zq_ma M' 62 (upd (M' 62) (Int32.toNatClampNeg m) ((M' 59) (Int32.toNatClampNeg x)))) Q)) ∧ (¬ (((M' 58) (Int32.toNatClampNeg x)) : Int32) = 0 → (¬ (((M' 58) (Int32.toNatClampNeg x)) : Int32) = (1 : Int32) → ((((M' 58) (Int32.toNatClampNeg x)) : Int32) = (4 : Int32) → (¬ (((M' 58) (Int32.toNatClampNeg x)) : Int32) = (10 : Int32) → vp_in (m - 1) 161 ∧ (¬ (((M' 62) (Int32.toNatClampNeg (m - 1))) : Int32) = 0 → vp_in (m - 1) 161 ∧ mx g (d + 2) kX12_tellsRule 23 [.ref 48, .int (k), .int (w), .int (n), .int (h), .int (base), .int (m), .int ((x + 1)), .null] [] (zq_ma M' 62 (upd (M' 62) (Int32.toNatClampNeg (m - 1)) 0)) Q) ∧ ((((M' 62) (Int32.toNatClampNeg (m - 1))) : Int32) = 0 → vp_in (m - 1) 161 ∧ mx g (d + 2) kX12_tellsRule 23 [.ref 48, .int (k), .int (w), .int (n), .int (h), .int (base), .int (m), .int ((x + 1)), .null] [] (zq_ma M' 62 (upd (M' 62) (Int32.toNatClampNeg (m - 1)) 1)) Q)) ∧ ((((M' 58) (Int32.toNatClampNeg x)) : Int32) = (10 : Int32) → vp_in (m - 1) 161 ∧ vp_in (m - 1) 161 ∧ mx g (d + 2) kX12_tellsRule 23 [.ref 48, .int (k), .int (w), .int (n), .int (h), .int (base), .int (m), .int ((x + 1)), .null] [] (zq_ma M' 62 (upd (M' 62) (Int32.toNatClampNeg (m - 1)) (-((M' 62) (Int32.toNatClampNeg (m - 1)))))) Q)) ∧ (¬ (((M' 58) (Int32.toNatClampNeg x)) : Int32) = (4 : Int32) → (¬ (((M' 58) (Int32.toNatClampNeg x)) : Int32) = (10 : Int32) → vp_in ((m + (-1)) - 1) 161 ∧ vp_in (m + (-1)) 161 ∧ mx g (d + 1) kX12_done 0 [.ref 48, .int (((M' 58) (Int32.toNatClampNeg x))), .int (((M' 62) (Int32.toNatClampNeg ((m + (-1)) - 1)))), .int (((M' 62) (Int32.toNatClampNeg (m + (-1)))))] [] M' _) ∧ ((((M' 58) (Int32.toNatClampNeg x)) : Int32) = (10 : Int32) → (¬ (((M' 58) (Int32.toNatClampNeg x)) : Int32) = (10 : Int32) → vp_in (m - 1) 161 ∧ (¬ (((M' 62) (Int32.toNatClampNeg (m - 1))) : Int32) = 0 → vp_in (m - 1) 161 ∧ mx g (d + 2) kX12_tellsRule 23 [.ref 48, .int (k), .int (w), .int (n), .int (h), .int (base), .int (m), .int ((x + 1)), .null] [] (zq_ma M' 62 (upd (M' 62) (Int32.toNatClampNeg (m - 1)) 0)) Q) ∧ ((((M' 62) (Int32.toNatClampNeg (m - 1))) : Int32) = 0 → vp_in (m - 1) 161 ∧ mx g (d + 2) kX12_tellsRule 23 [.ref 48, .int (k), .int (w), .int (n), .int (h), .int (base), .int (m), .int ((x + 1)), .null] [] (zq_ma M' 62 (upd (M' 62) (Int32.toNatClampNeg (m - 1)) 1)) Q)) ∧ ((((M' 58) (Int32.toNatClampNeg x)) : Int32) = (10 : Int32) → vp_in (m - 1) 161 ∧ vp_in (m - 1) 161 ∧ mx g (d + 2) kX12_tellsRule 23 [.ref 48, .int (k), .int (w), .int (n), .int (h), .int (base), .int (m), .int ((x + 1)), .null] [] (zq_ma M' 62 (upd (M' 62) (Int32.toNatClampNeg (m - 1)) (-((M' 62) (Int32.toNatClampNeg (m - 1)))))) Q)))) ∧ ((((M' 58) (Int32.toNatClampNeg x)) : Int32) = (1 : Int32) → (¬ (((M' 58) (Int32.toNatClampNeg x)) : Int32) = 0 → vp_in x 2880 ∧ mx g (d + 1) kX12_nameValue 0 [.ref 48, .int (((M' 59) (Int32.toNatClampNeg x))), .int (w), .int (n), .int (h)] [] M' _) ∧ ((((M' 58) (Int32.toNatClampNeg x)) : Int32) = 0 → vp_in x 2880 ∧ vp_in m 161 ∧ mx g (d + 2) kX12_tellsRule 23 [.ref 48, .int (k), .int (w), .int (n), .int (h), .int (base), .int ((m + 1)), .int ((x + 1)), .null] [] (zq_ma M' 62 (upd (M' 62) (Int32.toNatClampNeg m) ((M' 59) (Int32.toNatClampNeg x)))) Q))))
    rw [e12, e58, e59, e60]
    refine ⟨n_in (by omega) (by omega), ?_⟩
    cases rest with
    | nil =>
      rw [List.length_nil] at i5
      refine ⟨fun q => ⟨n_in (by decide) (by decide), ?_⟩, fun q => ?_⟩
      · rw [fr_mv i1]
        have := hq M'
        rw [i8] at this
        exact this
      · rw [n_le, hend] at q; omega
    | cons s rest =>
      rw [List.length_cons] at i5
      have st := i6 0 s rfl
      have st : stp (sg x.toInt.toNat) (te x.toInt.toNat) s := st
      have pc := fun ff => pok_cons i7 (fct w num n wet ice wi) ff
      have hk := (pc (M' 62)).1
      have up : (x + 1).toInt = x.toInt + 1 := n_up (n := base + ma (3 * r + k).toNatClampNeg) (by omega) (by omega)
      have hin : vp_in x 2880 := n_in (by omega) (by omega)
      have hmi : m.toInt < 161 := by omega
      have go : ∀ (v : Int32) (M2 : zq_M), v.toInt = ((ev1 (fct w num n wet ice wi) s (M' 62) m.toInt.toNat).2 : Int) → M2 = zq_ma M' 62 (ev1 (fct w num n wet ice wi) s (M' 62) m.toInt.toNat).1 → mx g (d + 2) kX12_tellsRule 23 [.ref 48, .int k, .int w, .int n, .int h, .int base, .int v, .int (x + 1), .null] [] M2 Q := by
        intro v M2 hv hM2
        have ne := ev1_le (fa := fct w num n wet ice wi) (f := M' 62) hk (by omega)
        subst hM2
        refine ih v (x + 1) rest _ (Nat.lt_succ_self _) ⟨fr_ma i1 (fun _ => rfl), by show 0 ≤ v.toInt; omega, by show v.toInt ≤ 40; omega, by show base.toInt ≤ (x + 1).toInt; omega, by show (x + 1).toInt + rest.length = base.toInt + l.length; omega, fun j z hj => ?_, ?_, ?_⟩
        · have := i6 (j + 1) z hj
          show stp (sg ((x + 1).toInt.toNat + j)) (te ((x + 1).toInt.toNat + j)) z
          rw [show (x + 1).toInt.toNat + j = x.toInt.toNat + (j + 1) by omega]
          exact this
        · show pok v.toInt.toNat rest = true
          rw [hv, Int.toNat_natCast]
          exact (pc (M' 62)).2
        · show _ = (evL (fct w num n wet ice wi) rest (ev1 (fct w num n wet ice wi) s (M' 62) m.toInt.toNat).1 v.toInt.toNat).1 0
          rw [i8, hv, Int.toNat_natCast]
          rfl
      have mc : m.toNatClampNeg = m.toInt.toNat := rfl
      have xc : x.toNatClampNeg = x.toInt.toNat := rfl
      rw [xc]
      refine ⟨fun q => ?_, fun q => ⟨hin, ?_⟩⟩
      · rw [n_le, hend] at q; omega
      have num0 : sg x.toInt.toNat = 0 → vp_in x 2880 ∧ vp_in m 161 ∧ mx g (d + 2) kX12_tellsRule 23 [.ref 48, .int k, .int w, .int n, .int h, .int base, .int (m + 1), .int (x + 1), .null] [] (zq_ma M' 62 (upd (M' 62) m.toNatClampNeg (te x.toInt.toNat))) Q := by
        intro c
        rw [n_eq, n_0] at c
        unfold stp at st
        obtain ⟨s1, s2⟩ : (te x.toInt.toNat).toInt = s ∧ 0 ≤ s := by omega
        refine ⟨hin, n_in i2 hmi, go _ _ ?_ ?_⟩
        · rw [ev1_num s2, n_suc i2 (by omega)]
          show m.toInt + 1 = ((m.toInt.toNat + 1 : Nat) : Int)
          omega
        · rw [ev1_num s2, ← s1, Int32.ofInt_toInt, mc]
      have nam : sg x.toInt.toNat = 1 → vp_in x 2880 ∧ mx g (d + 1) kX12_nameValue 0 [.ref 48, .int (te x.toInt.toNat), .int w, .int n, .int h] [] M' (fun rr MM => ∃ v : Int32, rr = some (.int v) ∧ MM = M' ∧ mx g (d + 2) kX12_tellsRule 23 [.ref 48, .int k, .int w, .int n, .int h, .int base, .int (m + 1), .int (x + 1), .null] [] (zq_ma M' 62 (upd (M' 62) m.toNatClampNeg v)) Q) := by
        intro c
        rw [n_eq, n_1] at c
        unfold stp at st
        obtain ⟨s1, s2, s3⟩ : (te x.toInt.toNat).toInt = -1 - s ∧ -6 ≤ s ∧ s ≤ -1 := by omega
        refine ⟨hin, c_X12_nameValue (num := num) (wet := wet) (ice := ice) (wi := wi) (by omega) (by omega) n1 n2 h2 (by rw [e51]; exact hwet) (by rw [e52]; exact hice) (by rw [e27, e53]; exact hw) (by rw [e56]; exact hnum) ⟨_, rfl, rfl, go _ _ ?_ ?_⟩⟩
        · rw [ev1_fact (by omega) s2, n_suc i2 (by omega)]
          show m.toInt + 1 = ((m.toInt.toNat + 1 : Nat) : Int)
          omega
        · rw [ev1_fact (by omega) s2, s1, mc]
      have doneg : sg x.toInt.toNat = 10 → vp_in (m - 1) 161 ∧ vp_in (m - 1) 161 ∧ mx g (d + 2) kX12_tellsRule 23 [.ref 48, .int k, .int w, .int n, .int h, .int base, .int m, .int (x + 1), .null] [] (zq_ma M' 62 (upd (M' 62) (m - 1).toNatClampNeg (- M' 62 (m - 1).toNatClampNeg))) Q := by
        intro c
        obtain ⟨z1, z2⟩ := st10 st hk (by rw [c]; rfl) i2
        have hi : vp_in (m - 1) 161 := n_in (by rw [n_pr1 z1]; omega) (by rw [n_pr1 z1]; omega)
        have e : (m - 1).toNatClampNeg = m.toInt.toNat - 1 := by rw [n_cl, n_pr1 z1]; omega
        refine ⟨hi, hi, go _ _ ?_ ?_⟩
        · rw [z2, ev1_neg]; show m.toInt = (m.toInt.toNat : Int); omega
        · rw [z2, ev1_neg, e]
      have nn4 : ¬ (4 : Int32) = 10 := by decide
      refine ⟨fun c => ⟨fun c2 => absurd c c2, fun _ => num0 c⟩, fun c => ⟨fun c2 => ⟨fun c3 => ⟨fun c4 => ?_, fun c4 => absurd (c3.symm.trans c4) nn4⟩, fun c3 => ⟨fun c4 => ?_, fun c4 => ⟨fun c5 => absurd c4 c5, fun _ => doneg c4⟩⟩⟩, fun c2 => ⟨fun _ => ?_, fun c3 => absurd c3 c⟩⟩⟩
      · obtain ⟨z1, z2⟩ := st4 st hk (by rw [c3]; rfl) i2
        have hi : vp_in (m - 1) 161 := n_in (by rw [n_pr1 z1]; omega) (by rw [n_pr1 z1]; omega)
        have e : (m - 1).toNatClampNeg = m.toInt.toNat - 1 := by rw [n_cl, n_pr1 z1]; omega
        refine ⟨hi, fun c5 => ⟨hi, go _ _ ?_ ?_⟩, fun c5 => ⟨hi, go _ _ ?_ ?_⟩⟩
        · rw [z2, ev1_not]; show m.toInt = (m.toInt.toNat : Int); omega
        · rw [e] at c5; rw [z2, ev1_not, e, if_neg c5]
        · rw [z2, ev1_not]; show m.toInt = (m.toInt.toNat : Int); omega
        · rw [e] at c5; rw [z2, ev1_not, e, if_pos c5]
      · rw [n_eq, n_0] at c
        rw [n_eq, n_1] at c2
        rw [n_eq, f4] at c3
        rw [n_eq, f10] at c4
        unfold stp at st
        obtain ⟨s1, s2, s3⟩ : 2 ≤ (sg x.toInt.toNat).toInt ∧ (sg x.toInt.toNat).toInt ≤ 9 ∧ s = -5 - (sg x.toInt.toNat).toInt := by omega
        unfold pk at hk
        rw [if_neg (by omega), if_neg (by omega)] at hk
        have z2 : 2 ≤ m.toInt := by omega
        have e2 : (m + (-1) - 1).toNatClampNeg = m.toInt.toNat - 2 := by rw [n_cl, n_mi2 z2]; omega
        have e1 : (m + (-1)).toNatClampNeg = m.toInt.toNat - 1 := by rw [n_cl, n_mi1 (by omega)]; omega
        have hi2 : vp_in (m + (-1) - 1) 161 := n_in (by rw [n_mi2 z2]; omega) (by rw [n_mi2 z2]; omega)
        have hi1 : vp_in (m + (-1)) 161 := n_in (by rw [n_mi1 (by omega)]; omega) (by rw [n_mi1 (by omega)]; omega)
        refine ⟨hi2, hi1, ?_⟩
        refine c_X12_done s3 s1 s2 c3 ?_
        show vp_in (m + (-1) - 1) 161 ∧ mx g (d + 2) kX12_tellsRule 23 [.ref 48, .int (k), .int (w), .int (n), .int (h), .int (base), .int ((m + (-1))), .int ((x + 1)), .null] [] (zq_ma M' 62 (upd (M' 62) (Int32.toNatClampNeg (m + (-1) - 1)) (jn s (M' 62 (m + (-1) - 1).toNatClampNeg) (M' 62 (m + (-1)).toNatClampNeg)))) Q
        refine ⟨hi2, go _ _ ?_ ?_⟩
        · rw [ev1_bin (by omega) (by omega) (by omega), n_mi1 (by omega)]; show m.toInt - 1 = ((m.toInt.toNat - 1 : Nat) : Int); omega
        · rw [ev1_bin (by omega) (by omega) (by omega), e1, e2]
      · refine ⟨(nam c2).1, mx_mono (nam c2).2 (fun rr MM hh => ?_)⟩
        obtain ⟨v, e1, e2, hh⟩ := hh
        rw [e1, e2]
        show vp_in m 161 ∧ mx g (d + 2) kX12_tellsRule 23 [.ref 48, .int (k), .int (w), .int (n), .int (h), .int (base), .int ((m + 1)), .int ((x + 1)), .null] [] (zq_ma M' 62 (upd (M' 62) (Int32.toNatClampNeg m) v)) Q
        exact ⟨n_in i2 hmi, hh⟩
  · have := (g5 j s hj).2
    show stp (sg (base.toInt.toNat + j)) (te (base.toInt.toNat + j)) s
    rw [show base.toInt.toNat + j = 480 * r.toInt.toNat + 160 * k.toInt.toNat + j by omega]
    exact this
  · exact ev_ind (fun _ _ => rfl) l 0 _ _ g7 (fun j hj => absurd hj (by omega))
