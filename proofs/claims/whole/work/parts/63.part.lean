theorem run_pt {tk : Nat → Int} {m p n : Nat} (hE : ∀ j, m ≤ j → tk j = -22) (hm : m ≤ 160) (hp : p < 3) (hk : tk n = -19 - (p : Int)) (hn : n < m) : ((ptR tk p n).1 = true → run tk 200 (true, true, [], 0, []) (n + 1) = (true, (ptR tk p n).2.1 - 1, (ptR tk p n).2.2) ∧ tk ((ptR tk p n).2.1 - 1) = -18 ∧ 1 ≤ (ptR tk p n).2.1) ∧ ((ptR tk p n).1 = false → ∃ c, run tk 200 (true, true, [], 0, []) (n + 1) = (false, (ptR tk p n).2.1, c)) := by
  have hb : ∀ j, 160 ≤ j → lvl (tk j) = -1 := fun j hj => by rw [hE j (by omega)]; decide
  have E := E_main hb 46 0 0 (n + 1) true [] [] (by omega) (by omega) (by omega) (fun _ => rfl) (fun z => by omega) (by decide)
  unfold EC at E
  have bd := rd_bd hE 46 0 0 (n + 1) (by omega)
  unfold ptR
  rw [if_pos hk]
  generalize rd tk 46 0 0 (n + 1) = r at E bd
  have fl : fails tk (true, true, [], 0, []) (n + 1) r.2.1 → ∃ c, run tk 200 (true, true, [], 0, []) (n + 1) = (false, r.2.1, c) := fun h => by
    obtain ⟨c, e⟩ := h.2 (199 - (r.2.1 - (n + 1)))
    have := h.1
    rw [show 199 - (r.2.1 - (n + 1)) + 1 + (r.2.1 - (n + 1)) = 200 by omega] at e
    exact ⟨c, e⟩
  cases hr : r.1 with
  | false =>
    rw [if_neg (fun z => by have := z.1; exact abF this)]
    exact ⟨fun z => abF z, fun _ => fl (E.1 hr)⟩
  | true =>
    have ok := E.2 hr
    unfold okP at ok
    rw [if_neg (by decide)] at ok
    obtain ⟨pend, out0, g1, g2, g3, g4⟩ := ok
    by_cases c : tk r.2.1 = -18
    · rw [if_pos ⟨rfl, c⟩]
      refine ⟨fun _ => ⟨?_, c, by show 1 ≤ r.2.1 + 1; omega⟩, fun z => abT z⟩
      have e := g1.2 (200 - (r.2.1 - (n + 1)))
      have := g1.1
      rw [show 200 - (r.2.1 - (n + 1)) + (r.2.1 - (n + 1)) = 200 by omega] at e
      rw [e, show 200 - (r.2.1 - (n + 1)) = (199 - (r.2.1 - (n + 1))) + 1 by omega]
      conv => lhs; unfold run
      rw [if_pos ⟨rfl, Or.inl c⟩]
      show (decide (tk r.2.1 = -18 ∧ (stl 1 (pend ++ []) (0 + cnt pend) out0).1 = []), r.2.1, (stl 1 (pend ++ []) (0 + cnt pend) out0).2.2) = (true, r.2.1, r.2.2)
      rw [stl_pop (k := 1) pend 0 out0 g3]
      show (decide (tk r.2.1 = -18 ∧ ([] : List Int) = []), r.2.1, out0 ++ pend) = _
      rw [decide_eq_true ⟨c, rfl⟩, g2]
      rfl
    · rw [if_neg (fun z => c z.2)]
      exact ⟨fun z => abF z, fun _ => fl (goes_fl g1 (stuck g4 g3 (fun _ => rfl) (fun z => absurd z c) (by decide)))⟩
def fP (fm k c i : Nat) : Bool := fE fm c i || (c == 60 && i == k)
theorem fP_e {fm k : Nat} {M M' : zq_M} (h : fr (fE fm) M M') : fr (fP fm k) M M' := fr_mono h (fun c i e => by
  unfold fP at e
  cases q : fE fm c i with
  | false => rfl
  | true => rw [q] at e; exact abT e)
theorem tpM_e {fm z : Nat} {t : Nat → Int} {M M' : zq_M} (h : tpM M t z) (hf : fr (fE fm) M M') : tpM M' t z := ⟨by rw [hf 48 13 rfl]; exact h.1, h.2.1, fun i => by rw [fr_ar hf 57 (fun _ => rfl)]; exact h.2.2 i⟩
theorem tpM_p {fm k z : Nat} {t : Nat → Int} {M M' : zq_M} (h : tpM M t z) (hf : fr (fP fm k) M M') : tpM M' t z := ⟨by rw [hf 48 13 rfl]; exact h.1, h.2.1, fun i => by rw [fr_ar hf 57 (fun _ => rfl)]; exact h.2.2 i⟩
theorem c_takesPart {g : zq_G} {d : Nat} {M : zq_M} {Q : Option Value → zq_M → Prop} {t : Nat → Int} {z m N p n : Nat} {tt key : Int32} (ht : tpM M t z) (hm : m ≤ 160) (hmz : stS t z m = z) (hp : p < 3) (hN : tt.toInt = (N : Int)) (hN5 : N ≤ 5) (hkey : key.toInt = wdc (-19 - (p : Int))) (hn : n ≤ m) (hl : lkI M t z n) (h0 : (ptR (tkS t z) p n).1 = false → ∀ M' : zq_M, fr (fP (480 * N + 160 * p) (3 * N + p)) M M' → lkI M' t z (ptR (tkS t z) p n).2.1 → Q (some (.int 0)) M') (h1 : (ptR (tkS t z) p n).1 = true → ∀ M' : zq_M, fr (fP (480 * N + 160 * p) (3 * N + p)) M M' → lkI M' t z (ptR (tkS t z) p n).2.1 → (M' 60 (3 * N + p)).toInt = ((ptR (tkS t z) p n).2.2.length : Int) → (∀ (j : Nat) (s : Int), (ptR (tkS t z) p n).2.2[j]? = some s → stp (M' 58 (480 * N + 160 * p + j)) (M' 59 (480 * N + 160 * p + j)) s) → Q (some (.int 1)) M') : mx g (d + 5) kX12_takesPart 0 [.ref 48, .int tt, .int (nI p), .int key, .null] [] M Q := by
  have hE : ∀ j, m ≤ j → tkS t z j = -22 := fun j hj => tkS_end hmz j hj
  have hT := tkS_ok (t := t) (z := z) (i := n)
  have ep := nIt (n := p) (by omega)
  have f3 : (3 : Int32).toInt = 3 := rfl
  have f480 : (480 : Int32).toInt = 480 := rfl
  have f160 : (160 : Int32).toInt = 160 := rfl
  have efm : (480 * tt + 160 * nI p).toInt = ((480 * N + 160 * p : Nat) : Int) := by
    rw [n_add, n_mul, n_mul, f480, f160, hN, ep, zw_id (z := 480 * (N : Int)) (by omega) (by omega), zw_id (z := 160 * (p : Int)) (by omega) (by omega), zw_id (by omega) (by omega)]
    omega
  have e3 : (3 * tt + nI p).toInt = ((3 * N + p : Nat) : Int) := by
    rw [n_add, n_mul, f3, hN, ep, zw_id (z := 3 * (N : Int)) (by omega) (by omega), zw_id (by omega) (by omega)]
    omega
  refine mx_go 100 zq_t168 ?_
  show mx g (d + 4) kX12_isWord 0 [.ref 48, .int (key)] [] M _
  refine c_X12_isWord (c := -19 - (p : Int)) hl hkey (by omega) (by unfold okT at hT; omega) (fun e => ?_) (fun e => ?_)
  rotate_left
  · have er : ptR (tkS t z) p n = (false, n, []) := by unfold ptR; rw [if_neg e]
    rw [er] at h0
    show (¬ (0 : Int32) = 0 → mx g (d + 4) kX12_goOn 0 [.ref 48] [] M _) ∧ ((0 : Int32) = 0 → zq_b 0 ∧ Q (some (.int 0)) M)
    exact ⟨fun y => absurd rfl y, fun _ => ⟨Or.inl rfl, h0 rfl M fr_rfl hl⟩⟩
  have lt : n < m := by
    by_cases c : m ≤ n
    · rw [hE n c] at e; omega
    · omega
  have rp := run_pt hE hm hp e lt
  have bd := ptR_bd (p := p) hE hp hn
  generalize ptR (tkS t z) p n = P at h0 h1 rp bd
  generalize hfm : 480 * N + 160 * p = fm at h0 h1 efm
  show (¬ (1 : Int32) = 0 → mx g (d + 4) kX12_goOn 0 [.ref 48] [] M _) ∧ ((1 : Int32) = 0 → zq_b 0 ∧ Q (some (.int 0)) M)
  refine ⟨fun _ => ?_, fun y => absurd y (by decide)⟩
  refine c_X12_goOn (d := d + 1) ht hl (by omega) (fun M1 f1 l1 => ?_)
  show mx g (d + 4) kX12_takesE 0 [.ref 48, .int (((480 * tt) + (160 * (nI p)))), .null, .null, .null, .null, .null, .null] [] M1 _
  refine mx_go 100 zq_t167 ?_
  have s2 : syM (zq_mu (zq_mu (zq_mu M1 48 20 (480 * tt + 160 * nI p)) 48 19 0) 48 18 0) fm ([], 0, []) := ⟨rfl, rfl, rfl, fun j s e => by simp at e, by show (480 * tt + 160 * nI p).toInt = _; rw [efm]; rfl, fun j s e => by simp at e⟩
  have fz : fr (fZ fm) M1 (zq_mu (zq_mu (zq_mu M1 48 20 (480 * tt + 160 * nI p)) 48 19 0) 48 18 0) := fr_mu (fr_mu (fr_mu fr_rfl rfl) rfl) rfl
  show mx g (d + 4) kX12_takesE 19 [.ref 48, .null, .int (bI true), .int (bI true), .null, .null, .null, .null] [] (zq_mu (zq_mu (zq_mu M1 48 20 (480 * tt + 160 * nI p)) 48 19 0) 48 18 0) _
  refine c_E19 (t := t) (z := z) (fm := fm) (by omega) 200 true true ([], 0, []) (n + 1) _ (tpM_z (tpM_fr ht f1) fz) (lkI_z l1 fz) s2 (by show 0 + 0 < n + 1; omega) (by omega) (by omega) (fun M2 f2 l2 c2 => ?_)
  have fa : fr (fE fm) M M2 := fr_trans (fE_k f1) (fr_trans (fE_z fz) f2)
  cases hr : P.1 with
  | false =>
    obtain ⟨cc, er⟩ := rp.2 hr
    rw [er] at l2 c2 ⊢
    show (¬ (0 : Int32) = 0 → vp_in ((3 * tt) + (nI p)) 18 ∧ mx g (d + 4) kX12_goOn 0 [.ref 48] [] (zq_ma M2 60 (upd (M2 60) (Int32.toNatClampNeg ((3 * tt) + (nI p))) ((M2 48 20) - (480 * tt + 160 * nI p)))) _) ∧ ((0 : Int32) = 0 → zq_b 0 ∧ Q (some (.int 0)) M2)
    exact ⟨fun y => absurd rfl y, fun _ => ⟨Or.inl rfl, h0 hr M2 (fP_e fa) l2⟩⟩
  | true =>
    obtain ⟨er, e18, p1⟩ := rp.1 hr
    rw [er] at l2 c2 ⊢
    have cc := c2 rfl
    have c20 : (M2 48 20).toInt = ((fm + P.2.2.length : Nat) : Int) := cc.1
    have b3 := bd.2.2 hr
    have bd1 := bd.1
    have i3 : (3 * tt + nI p).toNatClampNeg = 3 * N + p := by rw [n_cl, e3, Int.toNat_natCast]
    show (¬ (1 : Int32) = 0 → vp_in ((3 * tt) + (nI p)) 18 ∧ mx g (d + 4) kX12_goOn 0 [.ref 48] [] (zq_ma M2 60 (upd (M2 60) (Int32.toNatClampNeg ((3 * tt) + (nI p))) ((M2 48 20) - (480 * tt + 160 * nI p)))) _) ∧ ((1 : Int32) = 0 → zq_b 0 ∧ Q (some (.int 0)) M2)
    refine ⟨fun _ => ⟨n_in (by omega) (by omega), ?_⟩, fun y => absurd y (by decide)⟩
    have fmk : fr (fP fm (3 * N + p)) M (zq_ma M2 60 (upd (M2 60) (3 * tt + nI p).toNatClampNeg (M2 48 20 - (480 * tt + 160 * nI p)))) := by
      refine fr_mu (fP_e fa) ?_
      rw [i3]
      show (fE fm 60 (3 * N + p) || (true && (3 * N + p == 3 * N + p))) = true
      rw [beq_self_eq_true, Bool.and_true, Bool.or_true]
    have tp3 := tpM_p ht fmk
    have l3 : lkI (zq_ma M2 60 (upd (M2 60) (3 * tt + nI p).toNatClampNeg (M2 48 20 - (480 * tt + 160 * nI p)))) t z (P.2.1 - 1) := l2
    refine c_X12_goOn (d := d + 1) tp3 l3 (by rw [e18]; decide) (fun M3 f3' l3' => ?_)
    show zq_b 1 ∧ Q (some (.int 1)) M3
    refine ⟨Or.inr rfl, h1 hr M3 (fr_trans fmk (fP_e (fE_k f3'))) (by rw [show P.2.1 - 1 + 1 = P.2.1 by omega] at l3'; exact l3') ?_ (fun j s e => ?_)⟩
    · rw [fr_ar f3' 60 (fun _ => rfl)]
      show (upd (M2 60) (3 * tt + nI p).toNatClampNeg (M2 48 20 - (480 * tt + 160 * nI p)) (3 * N + p)).toInt = _
      rw [i3, upd_eq, n_sub, c20, efm, zw_id (by omega) (by omega)]
      omega
    · rw [fr_ar f3' 58 (fun _ => rfl), fr_ar f3' 59 (fun _ => rfl)]
      exact cc.2 j s e
def fQ (N c i : Nat) : Bool := (c == 48 && (i == 11 || i == 13 || i == 14 || i == 15 || i == 16 || i == 17 || i == 18 || i == 19 || i == 20)) || c == 61 || ((c == 58 || c == 59) && decide (480 * N ≤ i)) || (c == 60 && decide (3 * N ≤ i))
theorem fQ_p {N p : Nat} {M M' : zq_M} (h : fr (fP (480 * N + 160 * p) (3 * N + p)) M M') : fr (fQ N) M M' := fr_mono h (fun c i e => by
  unfold fQ at e
  unfold fP fE fZ fK
  by_cases c48 : c = 48
  · subst c48
    by_cases i14 : i = 14
    · subst i14; exact abT e
    by_cases i15 : i = 15
    · subst i15; exact abT e
    by_cases i16 : i = 16
    · subst i16; exact abT e
    by_cases i17 : i = 17
    · subst i17; exact abT e
    by_cases i18 : i = 18
    · subst i18; exact abT e
    by_cases i19 : i = 19
    · subst i19; exact abT e
    by_cases i20 : i = 20
    · subst i20; exact abT e
    rw [beq_false_of_ne i14, beq_false_of_ne i15, beq_false_of_ne i16, beq_false_of_ne i17, beq_false_of_ne i18, beq_false_of_ne i19, beq_false_of_ne i20]
    rfl
  rw [beq_false_of_ne c48] at e ⊢
  by_cases c61 : c = 61
  · subst c61; exact abT e
  rw [beq_false_of_ne c61] at e ⊢
  by_cases c58 : c = 58
  · subst c58
    replace e : decide (480 * N ≤ i) = false := by simpa using e
    have := of_decide_eq_false e
    show (false || (false && _) || ((true || false) && decide (480 * N + 160 * p ≤ i)) || (false && _) || (false && _)) = false
    rw [decide_eq_false (by omega)]
    rfl
  by_cases c59 : c = 59
  · subst c59
    replace e : decide (480 * N ≤ i) = false := by simpa using e
    have := of_decide_eq_false e
    show (false || (false && _) || ((false || true) && decide (480 * N + 160 * p ≤ i)) || (false && _) || (false && _)) = false
    rw [decide_eq_false (by omega)]
    rfl
  rw [beq_false_of_ne c58, beq_false_of_ne c59] at e ⊢
  by_cases c60 : c = 60
  · subst c60
    replace e : decide (3 * N ≤ i) = false := by simpa using e
    have := of_decide_eq_false e
    rw [beq_false_of_ne (show i ≠ 3 * N + p by omega)]
    rfl
  rw [beq_false_of_ne c60]
  rfl)

