/-! the reference's stack of signs -/
def rc (s : Int) : Int := if s = -16 then 20 else -5 - s
def cn3 : List Int → Nat
  | [] => 0
  | s :: r => (if s = -9 ∨ s = -15 ∨ s = -16 then 1 else 0) + cn3 r
def syM (M : zq_M) (fm : Nat) (q : SQ) : Prop := (M 48 18).toInt = (q.2.1 : Int) ∧ q.2.1 = cn3 q.1 ∧ (M 48 19).toInt = (q.1.length : Int) ∧ (∀ (j : Nat) (s : Int), q.1[j]? = some s → (M 61 (q.1.length - 1 - j)).toInt = rc s ∧ -16 ≤ s ∧ s ≤ -7) ∧ (M 48 20).toInt = ((fm + q.2.2.length : Nat) : Int) ∧ ∀ (j : Nat) (s : Int), q.2.2[j]? = some s → stp (M 58 (fm + j)) (M 59 (fm + j)) s
def fZ (fm c i : Nat) : Bool := c == 61 || (c == 48 && (i == 18 || i == 19 || i == 20)) || ((c == 58 || c == 59) && decide (fm ≤ i))
theorem fZ_ar {fm : Nat} {M M' : zq_M} {c j : Nat} {v : Int32} (h : fr (fZ fm) M M') (hl : fZ fm c j = true) : fr (fZ fm) M (zq_ma M' c (upd (M' c) j v)) := fr_mu h hl
theorem fZ_58 {fm j : Nat} (h : fm ≤ j) : fZ fm 58 j = true := by
  show (false || (false && _) || ((true || false) && decide (fm ≤ j))) = true
  rw [decide_eq_true h]; rfl
theorem fZ_59 {fm j : Nat} (h : fm ≤ j) : fZ fm 59 j = true := by
  show (false || (false && _) || ((false || true) && decide (fm ≤ j))) = true
  rw [decide_eq_true h]; rfl
theorem rc_cases {s : Int} (h1 : -16 ≤ s) (h2 : s ≤ -7) : s = -7 ∨ s = -8 ∨ s = -9 ∨ s = -10 ∨ s = -11 ∨ s = -12 ∨ s = -13 ∨ s = -14 ∨ s = -15 ∨ s = -16 := by omega
theorem c_X12_put {g : zq_G} {d : Nat} {M : zq_M} {Q : Option Value → zq_M → Prop} {fm : Nat} {q : SQ} {a b : Int32} {s : Int} (hs : syM M fm q) (hf : fm ≤ 2720) (hl : q.2.2.length < 160) (hst : stp a b s) (hq : ∀ M' : zq_M, fr (fZ fm) M M' → syM M' fm (q.1, q.2.1, q.2.2 ++ [s]) → Q none M') : mx g d kX12_put 0 [.ref 48, .int a, .int b] [] M Q := by
  obtain ⟨h1, h2, h3, h4, h5, h6⟩ := hs
  have vin : vp_in (M 48 20) 2880 := n_in (by omega) (by omega)
  have ix : (M 48 20).toNatClampNeg = fm + q.2.2.length := by rw [n_cl, h5, Int.toNat_natCast]
  refine mx_go 60 zq_t159 ?_
  show vp_in (M 48 20) 2880 ∧ vp_in (M 48 20) 2880 ∧ Q none (zq_mu (zq_ma (zq_ma M 58 (upd (M 58) (Int32.toNatClampNeg (M 48 20)) a)) 59 (upd (M 59) (Int32.toNatClampNeg (M 48 20)) b)) 48 20 ((M 48 20) + 1))
  refine ⟨vin, vin, hq _ ?_ ⟨h1, h2, h3, h4, ?_, fun j x e => ?_⟩⟩
  · refine fr_mu (fr_mu (fr_mu fr_rfl ?_) ?_) rfl
    · rw [ix]; exact fZ_58 (by omega)
    · rw [ix]; exact fZ_59 (by omega)
  · show (M 48 20 + 1).toInt = ((fm + (q.2.2 ++ [s]).length : Nat) : Int)
    rw [n_add, n_1, h5, zw_id (by omega) (by omega), List.length_append, List.length_singleton]
    omega
  · show stp (upd (M 58) (M 48 20).toNatClampNeg a (fm + j)) (upd (M 59) (M 48 20).toNatClampNeg b (fm + j)) x
    rw [ix]
    by_cases c : j < q.2.2.length
    · rw [upd_ne (by omega), upd_ne (by omega)]
      rw [List.getElem?_append_left c] at e
      exact h6 j x e
    · replace e : (q.2.2 ++ [s])[j]? = some x := e
      rw [List.getElem?_append_right (by omega)] at e
      have : j = q.2.2.length := by
        by_cases c2 : j - q.2.2.length = 0
        · omega
        · rw [List.getElem?_eq_none (by rw [List.length_singleton]; omega)] at e
          cases e
      rw [this, Nat.sub_self] at e
      have ex : s = x := by simpa using e
      rw [this, upd_eq, upd_eq, ← ex]
      exact hst
theorem c_X12_pushSign {g : zq_G} {d : Nat} {M : zq_M} {Q : Option Value → zq_M → Prop} {fm : Nat} {st : List Int} {a : Int32} {s : Int} (h3 : (M 48 19).toInt = (st.length : Int)) (h4 : ∀ (j : Nat) (s : Int), st[j]? = some s → (M 61 (st.length - 1 - j)).toInt = rc s ∧ -16 ≤ s ∧ s ≤ -7) (hl : st.length < 160) (ha : a.toInt = rc s) (s1 : -16 ≤ s) (s2 : s ≤ -7) (hq : ∀ M' : zq_M, fr (fZ fm) M M' → M' 48 18 = M 48 18 → (M' 48 19).toInt = ((s :: st).length : Int) → (∀ (j : Nat) (x : Int), (s :: st)[j]? = some x → (M' 61 ((s :: st).length - 1 - j)).toInt = rc x ∧ -16 ≤ x ∧ x ≤ -7) → M' 48 20 = M 48 20 → M' 58 = M 58 → M' 59 = M 59 → Q none M') : mx g d kX12_pushSign 0 [.ref 48, .int a] [] M Q := by
  have ix : (M 48 19).toNatClampNeg = st.length := by rw [n_cl, h3, Int.toNat_natCast]
  refine mx_go 60 zq_t161 ?_
  show vp_in (M 48 19) 161 ∧ Q none (zq_mu (zq_ma M 61 (upd (M 61) (Int32.toNatClampNeg (M 48 19)) a)) 48 19 ((M 48 19) + 1))
  refine ⟨n_in (by omega) (by omega), hq _ (fr_mu (fr_mu fr_rfl rfl) rfl) rfl ?_ (fun j x e => ?_) rfl rfl rfl⟩
  · show (M 48 19 + 1).toInt = _
    rw [n_add, n_1, h3, zw_id (by omega) (by omega), List.length_cons]
    omega
  · show (upd (M 61) (M 48 19).toNatClampNeg a ((s :: st).length - 1 - j)).toInt = rc x ∧ _
    rw [ix, List.length_cons]
    cases j with
    | zero =>
      have ex : s = x := by simpa using e
      rw [show st.length + 1 - 1 - 0 = st.length by omega, upd_eq, ha, ← ex]
      exact ⟨rfl, s1, s2⟩
    | succ j =>
      have e' : st[j]? = some x := by simpa using e
      have lt : j < st.length := by
        by_cases c : j < st.length
        · exact c
        · rw [List.getElem?_eq_none (by omega)] at e'; cases e'
      rw [show st.length + 1 - 1 - (j + 1) = st.length - 1 - j by omega, upd_ne (by omega)]
      exact h4 j x e'
theorem c_X12_top {g : zq_G} {d : Nat} {M : zq_M} {Q : Option Value → zq_M → Prop} {fm : Nat} {q : SQ} (hs : syM M fm q) (hl : q.1.length ≤ 160) (hq : ∀ v : Int32, (q.1 = [] → v = -1) → (∀ (s : Int) (r : List Int), q.1 = s :: r → v = M 61 (q.1.length - 1) ∧ v.toInt = rc s) → Q (some (.int v)) M) : mx g d kX12_top 0 [.ref 48] [] M Q := by
  obtain ⟨h1, h2, h3, h4, h5, h6⟩ := hs
  refine mx_go 60 zq_t160 ?_
  show (((M 48 19) : Int32) ≤ 0 → Q (some (.int (-1))) M) ∧ (¬ ((M 48 19) : Int32) ≤ 0 → vp_in ((M 48 19) - 1) 161 ∧ Q (some (.int ((M 61) (Int32.toNatClampNeg ((M 48 19) - 1))))) M)
  refine ⟨fun a => hq _ (fun _ => rfl) (fun s r e => ?_), fun a => ?_⟩
  · rw [n_le, n_0, h3, e, List.length_cons] at a
    omega
  · rw [n_le, n_0, h3] at a
    have em : (M 48 19 - 1).toInt = ((q.1.length - 1 : Nat) : Int) := by rw [n_sub, n_1, h3, zw_id (by omega) (by omega)]; omega
    refine ⟨n_in (by omega) (by omega), hq _ (fun e => ?_) (fun s r e => ?_)⟩
    · rw [e] at a
      exact absurd (by decide) a
    · have := h4 0 s (by rw [e]; rfl)
      rw [n_cl, em, Int.toNat_natCast]
      exact ⟨rfl, this.1⟩
theorem c_X12_strength {g : zq_G} {d : Nat} {M : zq_M} {Q : Option Value → zq_M → Prop} {c : Int32} (hq : ∀ v : Int32, (∀ s : Int, -16 ≤ s → s ≤ -7 → c.toInt = rc s → v.toInt = (sth s : Int)) → (c = -1 → v = 0) → Q (some (.int v)) M) : mx g d kX12_strength 0 [.ref 48, .int c] [] M Q := by
  refine mx_go 100 zq_t162 ?_
  show (¬ (c : Int32) = (2 : Int32) → (¬ (c : Int32) = (3 : Int32) → (¬ (c : Int32) = (4 : Int32) → ((c : Int32) = (5 : Int32) → Q (some (.int 4)) M) ∧ (¬ (c : Int32) = (5 : Int32) → (¬ (c : Int32) = (6 : Int32) → ((c : Int32) = (7 : Int32) → Q (some (.int 5)) M) ∧ (¬ (c : Int32) = (7 : Int32) → (¬ (c : Int32) = (8 : Int32) → (¬ (c : Int32) = (9 : Int32) → (¬ (c : Int32) = (10 : Int32) → Q (some (.int 0)) M) ∧ ((c : Int32) = (10 : Int32) → Q (some (.int 7)) M)) ∧ ((c : Int32) = (9 : Int32) → Q (some (.int 6)) M)) ∧ ((c : Int32) = (8 : Int32) → Q (some (.int 5)) M))) ∧ ((c : Int32) = (6 : Int32) → Q (some (.int 4)) M))) ∧ ((c : Int32) = (4 : Int32) → Q (some (.int 3)) M)) ∧ ((c : Int32) = (3 : Int32) → Q (some (.int 2)) M)) ∧ ((c : Int32) = (2 : Int32) → Q (some (.int 1)) M)
  have key : ∀ (v : Int32) (k : Int), c.toInt = k → (∀ s : Int, -16 ≤ s → s ≤ -7 → rc s = k → v.toInt = (sth s : Int)) → (k = -1 → v = 0) → Q (some (.int v)) M := fun v k e h1 h2 => hq v (fun s a b e2 => h1 s a b (by rw [← e2, e])) (fun e2 => h2 (by rw [← e, e2]; decide))
  refine ⟨fun a => ⟨fun b => ⟨fun e => ⟨fun f => ?_, fun f => ⟨fun h => ⟨fun i => ?_, fun i => ⟨fun j => ⟨fun k => ⟨fun l => ?_, fun l => ?_⟩, fun k => ?_⟩, fun j => ?_⟩⟩, fun h => ?_⟩⟩, fun e => ?_⟩, fun b => ?_⟩, fun a => ?_⟩
  · refine key _ 5 (by rw [f]; rfl) (fun s s1 s2 h => ?_) (fun h => absurd h (by decide))
    rcases rc_cases s1 s2 with z | z | z | z | z | z | z | z | z | z <;> rw [z] at h ⊢ <;> revert h <;> decide
  · refine key _ 7 (by rw [i]; rfl) (fun s s1 s2 h => ?_) (fun h => absurd h (by decide))
    rcases rc_cases s1 s2 with z | z | z | z | z | z | z | z | z | z <;> rw [z] at h ⊢ <;> revert h <;> decide
  · refine hq _ (fun s s1 s2 h9 => ?_) (fun _ => rfl)
    rcases rc_cases s1 s2 with z | z | z | z | z | z | z | z | z | z
    · exact absurd ((n_eq _ _).mpr (by rw [h9, z]; decide)) a
    · exact absurd ((n_eq _ _).mpr (by rw [h9, z]; decide)) b
    · exact absurd ((n_eq _ _).mpr (by rw [h9, z]; decide)) e
    · exact absurd ((n_eq _ _).mpr (by rw [h9, z]; decide)) f
    · exact absurd ((n_eq _ _).mpr (by rw [h9, z]; decide)) h
    · exact absurd ((n_eq _ _).mpr (by rw [h9, z]; decide)) i
    · exact absurd ((n_eq _ _).mpr (by rw [h9, z]; decide)) j
    · exact absurd ((n_eq _ _).mpr (by rw [h9, z]; decide)) k
    · exact absurd ((n_eq _ _).mpr (by rw [h9, z]; decide)) l
    · rw [z]; decide
  · refine key _ 10 (by rw [l]; rfl) (fun s s1 s2 h => ?_) (fun h => absurd h (by decide))
    rcases rc_cases s1 s2 with z | z | z | z | z | z | z | z | z | z <;> rw [z] at h ⊢ <;> revert h <;> decide
  · refine key _ 9 (by rw [k]; rfl) (fun s s1 s2 h => ?_) (fun h => absurd h (by decide))
    rcases rc_cases s1 s2 with z | z | z | z | z | z | z | z | z | z <;> rw [z] at h ⊢ <;> revert h <;> decide
  · refine key _ 8 (by rw [j]; rfl) (fun s s1 s2 h => ?_) (fun h => absurd h (by decide))
    rcases rc_cases s1 s2 with z | z | z | z | z | z | z | z | z | z <;> rw [z] at h ⊢ <;> revert h <;> decide
  · refine key _ 6 (by rw [h]; rfl) (fun s s1 s2 h => ?_) (fun h => absurd h (by decide))
    rcases rc_cases s1 s2 with z | z | z | z | z | z | z | z | z | z <;> rw [z] at h ⊢ <;> revert h <;> decide
  · refine key _ 4 (by rw [e]; rfl) (fun s s1 s2 h => ?_) (fun h => absurd h (by decide))
    rcases rc_cases s1 s2 with z | z | z | z | z | z | z | z | z | z <;> rw [z] at h ⊢ <;> revert h <;> decide
  · refine key _ 3 (by rw [b]; rfl) (fun s s1 s2 h => ?_) (fun h => absurd h (by decide))
    rcases rc_cases s1 s2 with z | z | z | z | z | z | z | z | z | z <;> rw [z] at h ⊢ <;> revert h <;> decide
  · refine key _ 2 (by rw [a]; rfl) (fun s s1 s2 h => ?_) (fun h => absurd h (by decide))
    rcases rc_cases s1 s2 with z | z | z | z | z | z | z | z | z | z <;> rw [z] at h ⊢ <;> revert h <;> decide

theorem stl_cn {k : Nat} (hk : 1 ≤ k) : ∀ (st : List Int) (o : Nat) (out : List Int), o = cn3 st → (stl k st o out).2.1 = cn3 (stl k st o out).1
  | [], o, out, h => h
  | s :: r, o, out, h => by
    show (if k ≤ sth s then stl k r (o - ct s) (out ++ [s]) else (s :: r, o, out)).2.1 = cn3 (if k ≤ sth s then stl k r (o - ct s) (out ++ [s]) else (s :: r, o, out)).1
    by_cases c : k ≤ sth s
    · rw [if_pos c]
      refine stl_cn hk r _ _ ?_
      have n16 : s ≠ -16 := fun e => by rw [e] at c; exact absurd c (by show ¬ k ≤ 0; omega)
      rw [h]
      show (if s = -9 ∨ s = -15 ∨ s = -16 then 1 else 0) + cn3 r - (if s = -9 ∨ s = -15 then 1 else 0) = cn3 r
      by_cases d : s = -9 ∨ s = -15
      · rw [if_pos d, if_pos (by omega)]; omega
      · rw [if_neg d, if_neg (by omega)]; omega
    · rw [if_neg c]
      exact h
theorem stl_len {k : Nat} : ∀ (st : List Int) (o : Nat) (out : List Int), (stl k st o out).1.length + (stl k st o out).2.2.length = st.length + out.length
  | [], o, out => rfl
  | s :: r, o, out => by
    show (if k ≤ sth s then stl k r (o - ct s) (out ++ [s]) else (s :: r, o, out)).1.length + (if k ≤ sth s then stl k r (o - ct s) (out ++ [s]) else (s :: r, o, out)).2.2.length = _
    by_cases c : k ≤ sth s
    · rw [if_pos c, stl_len r, List.length_append, List.length_singleton, List.length_cons]
      omega
    · rw [if_neg c]
theorem c_X12_settle {g : zq_G} {d : Nat} {Q : Option Value → zq_M → Prop} {fm kk : Nat} {k : Int32} (hk : k.toInt = (kk : Int)) (k1 : 1 ≤ kk) (hf : fm ≤ 2720) : ∀ (st : List Int) (o : Nat) (out : List Int) (M : zq_M), syM M fm (st, o, out) → st.length + out.length ≤ 160 → (∀ M' : zq_M, fr (fZ fm) M M' → syM M' fm (stl kk st o out) → Q none M') → mx g (d + 1) kX12_settle 0 [.ref 48, .int k, .null] [] M Q
  | [], o, out, M, hs, hl, hq => by
    have h3 : (M 48 19).toInt = 0 := hs.2.2.1
    refine mx_go 100 zq_t163 ?_
    show (((M 48 19) : Int32) ≤ 0 → Q none M) ∧ (¬ ((M 48 19) : Int32) ≤ 0 → mx g (d) kX12_top 0 [.ref 48] [] M _)
    exact ⟨fun _ => hq M fr_rfl hs, fun a => absurd (by rw [n_le, n_0]; omega) a⟩
  | s :: r, o, out, M, hs, hl, hq => by
    obtain ⟨h1, h2, h3, h4, h5, h6⟩ := id hs
    replace h1 : (M 48 18).toInt = (o : Int) := h1
    replace h2 : o = cn3 (s :: r) := h2
    have rg := n_rng (M 48 18)
    rw [h1] at rg
    replace h3 : (M 48 19).toInt = ((s :: r).length : Int) := h3
    rw [List.length_cons] at h3 hl
    have hs0 := h4 0 s rfl
    refine mx_go 100 zq_t163 ?_
    show (((M 48 19) : Int32) ≤ 0 → Q none M) ∧ (¬ ((M 48 19) : Int32) ≤ 0 → mx g (d) kX12_top 0 [.ref 48] [] M _)
    refine ⟨fun a => ?_, fun a => ?_⟩
    · rw [n_le, n_0, h3] at a; omega
    refine c_X12_top (q := (s :: r, o, out)) hs (by show (s :: r).length ≤ 160; rw [List.length_cons]; omega) (fun v v1 v2 => ?_)
    have v3 := v2 s r rfl
    show mx g (d) kX12_strength 0 [.ref 48, .int (v)] [] M _
    refine c_X12_strength (fun u u1 u2 => ?_)
    have u3 := u1 s hs0.2.1 hs0.2.2 v3.2
    show ((u : Int32) < (k : Int32) → Q none M) ∧ (¬ (u : Int32) < (k : Int32) → vp_in ((M 48 19) - 1) 161 ∧ ((((M 61) (Int32.toNatClampNeg ((M 48 19) - 1))) : Int32) = (4 : Int32) → mx g (d) kX12_put 0 [.ref 48, .int (((M 61) (Int32.toNatClampNeg ((M 48 19) - 1)))), .int (0)] [] (zq_mu (zq_mu M 48 19 ((M 48 19) - 1)) 48 18 ((M 48 18) - 1)) _) ∧ (¬ (((M 61) (Int32.toNatClampNeg ((M 48 19) - 1))) : Int32) = (4 : Int32) → (¬ (((M 61) (Int32.toNatClampNeg ((M 48 19) - 1))) : Int32) = (10 : Int32) → mx g (d) kX12_put 0 [.ref 48, .int (((M 61) (Int32.toNatClampNeg ((M 48 19) - 1)))), .int (0)] [] (zq_mu (zq_mu M 48 19 ((M 48 19) - 1)) 48 18 ((M 48 18) - 0)) _) ∧ ((((M 61) (Int32.toNatClampNeg ((M 48 19) - 1))) : Int32) = (10 : Int32) → mx g (d) kX12_put 0 [.ref 48, .int (((M 61) (Int32.toNatClampNeg ((M 48 19) - 1)))), .int (0)] [] (zq_mu (zq_mu M 48 19 ((M 48 19) - 1)) 48 18 ((M 48 18) - 1)) _)))
    have em : (M 48 19 - 1).toInt = (r.length : Int) := by rw [n_sub, n_1, h3, zw_id (by omega) (by omega)]; omega
    have ix : (M 48 19 - 1).toNatClampNeg = r.length := by rw [n_cl, em, Int.toNat_natCast]
    have ev : M 61 (M 48 19 - 1).toNatClampNeg = v := by rw [ix, v3.1]; rfl
    rw [ev]
    refine ⟨fun c => ?_, fun c => ⟨n_in (by omega) (by omega), ?_⟩⟩
    · rw [n_lt, u3, hk] at c
      have := hq M fr_rfl
      rw [show stl kk (s :: r) o out = (s :: r, o, out) from stl_stop (by show sth s < kk; omega)] at this
      exact this hs
    rw [n_lt, u3, hk] at c
    have hc : kk ≤ sth s := by omega
    have n16 : s ≠ -16 := fun e => by rw [e] at hc; exact absurd hc (by show ¬ kk ≤ 0; omega)
    have hr : stl kk (s :: r) o out = stl kk r (o - ct s) (out ++ [s]) := if_pos hc
    rw [hr] at hq
    have rcv : rc s = -5 - s := if_neg n16
    have cnr : o = ct s + cn3 r := by
      rw [h2]
      show (if s = -9 ∨ s = -15 ∨ s = -16 then 1 else 0) + cn3 r = (if s = -9 ∨ s = -15 then 1 else 0) + cn3 r
      by_cases dd : s = -9 ∨ s = -15
      · rw [if_pos dd, if_pos (by omega)]
      · rw [if_neg dd, if_neg (by omega)]
    have key : ∀ w : Int32, w.toInt = ((o - ct s : Nat) : Int) → mx g d kX12_put 0 [.ref 48, .int v, .int 0] [] (zq_mu (zq_mu M 48 19 (M 48 19 - 1)) 48 18 w) (fun rr M' => rr = none ∧ fr (fZ fm) M M' ∧ syM M' fm (r, o - ct s, out ++ [s])) := by
      intro w hw
      have hs2 : syM (zq_mu (zq_mu M 48 19 (M 48 19 - 1)) 48 18 w) fm (r, o - ct s, out) := by
        refine ⟨hw, by show o - ct s = cn3 r; omega, em, fun j x e => ?_, h5, h6⟩
        have lt : j < r.length := by
          by_cases q : j < r.length
          · exact q
          · replace e : r[j]? = some x := e
            rw [List.getElem?_eq_none (by omega)] at e; cases e
        have := h4 (j + 1) x (by simpa using e)
        rw [show (s :: r, o, out).1.length - 1 - (j + 1) = r.length - 1 - j by show (s :: r).length - 1 - (j + 1) = _; rw [List.length_cons]; omega] at this
        exact this
      refine c_X12_put hs2 hf (by show out.length < 160; omega) (s := s) ?_ (fun M' f' s' => ⟨rfl, fr_trans (fr_mu (fr_mu fr_rfl rfl) rfl) f', s'⟩)
      refine Or.inr (Or.inr ⟨?_, ?_, ?_⟩)
      · rw [v3.2, rcv]; have := hs0.2.2; omega
      · rw [v3.2, rcv]; have := hs0.2.1; omega
      · rw [v3.2, rcv]; omega
    have fin : ∀ M' : zq_M, fr (fZ fm) M M' ∧ syM M' fm (r, o - ct s, out ++ [s]) → mx g (d + 1) kX12_settle 0 [.ref 48, .int k, .null] [] M' Q := fun M' q => c_X12_settle hk k1 hf r (o - ct s) (out ++ [s]) M' q.2 (by rw [List.length_append, List.length_singleton]; omega) (fun M2 f2 s2 => hq M2 (fr_trans q.1 f2) s2)
    refine ⟨fun e => ?_, fun e => ⟨fun f => ?_, fun f => ?_⟩⟩
    · rw [n_eq, v3.2, rcv, show (4 : Int32).toInt = 4 from rfl] at e
      have cs : ct s = 1 := if_pos (by omega)
      refine mx_mono (key (M 48 18 - 1) (by rw [n_sub, n_1, h1, zw_id (by omega) (by omega)]; omega)) (fun rr M' q => ?_)
      obtain ⟨rfl, q1⟩ := q
      exact fin M' q1
    · have cs : ct s = 0 := if_neg (by
        rw [n_eq, v3.2, rcv, show (4 : Int32).toInt = 4 from rfl] at e
        rw [n_eq, v3.2, rcv, show (10 : Int32).toInt = 10 from rfl] at f
        omega)
      refine mx_mono (key (M 48 18 - 0) (by rw [n_sub, n_0, h1, zw_id (by omega) (by omega)]; omega)) (fun rr M' q => ?_)
      obtain ⟨rfl, q1⟩ := q
      exact fin M' q1
    · rw [n_eq, v3.2, rcv, show (10 : Int32).toInt = 10 from rfl] at f
      have cs : ct s = 1 := if_pos (by omega)
      refine mx_mono (key (M 48 18 - 1) (by rw [n_sub, n_1, h1, zw_id (by omega) (by omega)]; omega)) (fun rr M' q => ?_)
      obtain ⟨rfl, q1⟩ := q
      exact fin M' q1

