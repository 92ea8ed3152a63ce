def okT (T : Int) : Prop := (0 ≤ T ∧ T ≤ 9999) ∨ (-14 ≤ T ∧ T ≤ -1) ∨ (-23 ≤ T ∧ T ≤ -16)
theorem nv_u {t : Nat → Int} {q : Nat} : ∀ k : Nat, (∀ j, j < k → dgB (t (q + j)) = true) → nv t q k < 10 ^ k
  | 0, _ => by unfold nv; decide
  | k + 1, h => by
    have ih := nv_u (t := t) (q := q) k (fun j hj => h j (by omega))
    have c := h k (by omega)
    unfold dgB at c
    have c2 := of_decide_eq_true c
    unfold nv
    rw [Int.pow_succ]
    omega
theorem tkS_ok {t : Nat → Int} {z i : Nat} : okT (tkS t z i) := by
  unfold tkS
  by_cases c : stS t z i < z
  · rw [if_pos c]
    unfold tkT
    split
    · unfold wdT tkW
      repeat' split
      all_goals (unfold okT; omega)
    · split
      · next nl dg =>
        unfold nmT
        split
        · unfold okT; omega
        · next k4 =>
          have en : enT t z (stS t z i) = rz dgB t z (stS t z i) := by unfold enT; rw [if_neg nl, if_pos dg]
          have rb := rz_b (f := dgB) (t := t) (z := z) _ (stS t z i) rfl (by omega)
          rw [en] at k4 ⊢
          have dj : ∀ j, j < rz dgB t z (stS t z i) - stS t z i → dgB (t (stS t z i + j)) = true := fun j hj => rb.2.2.1 _ (by omega) (by omega)
          have a := nv_d _ dj
          have b := nv_u _ dj
          have p10 : (10 : Int) ^ (rz dgB t z (stS t z i) - stS t z i) ≤ 10000 := (by decide : ∀ k, k < 5 → (10 : Int) ^ k ≤ 10000) _ (by omega)
          left
          omega
      · unfold sgT
        repeat' split
        all_goals (unfold okT; omega)
  · rw [if_neg c]
    unfold okT; omega
theorem c_X12_opens {g : zq_G} {d : Nat} {M : zq_M} {Q : Option Value → zq_M → Prop} {fm : Nat} {q : SQ} {a : Int32} {s : Int} (hs : syM M fm q) (hl : q.1.length < 160) (ha : a.toInt = rc s) (s1 : s = -9 ∨ s = -15 ∨ s = -16) (h0 : q.2.1 = 5 → Q (some (.int 0)) M) (h1 : q.2.1 ≠ 5 → ∀ M' : zq_M, fr (fZ fm) M M' → syM M' fm (s :: q.1, q.2.1 + 1, q.2.2) → Q (some (.int 1)) M') : mx g (d + 1) kX12_opens 0 [.ref 48, .int a] [] M Q := by
  obtain ⟨g1, g2, g3, g4, g5, g6⟩ := id hs
  have f5 : (5 : Int32).toInt = 5 := rfl
  have rg := n_rng (M 48 18)
  have cb : ∀ st : List Int, cn3 st ≤ st.length := by
    intro st
    induction st with
    | nil => exact Nat.le_refl _
    | cons x r ih =>
      show (if x = -9 ∨ x = -15 ∨ x = -16 then 1 else 0) + cn3 r ≤ (x :: r).length
      rw [List.length_cons]
      split <;> omega
  have c2 := cb q.1
  refine mx_go 60 zq_t164 ?_
  show (¬ ((M 48 18) : Int32) = (5 : Int32) → mx g (d) kX12_pushSign 0 [.ref 48, .int (a)] [] (zq_mu M 48 18 ((M 48 18) + 1)) _) ∧ (((M 48 18) : Int32) = (5 : Int32) → zq_b 0 ∧ Q (some (.int 0)) M)
  refine ⟨fun e => ?_, fun e => ⟨Or.inl rfl, h0 ?_⟩⟩
  rotate_left
  · rw [n_eq, g1, f5] at e; omega
  rw [n_eq, g1, f5] at e
  have fe : fr (fZ fm) M (zq_mu M 48 18 (M 48 18 + 1)) := fr_mu fr_rfl rfl
  refine c_X12_pushSign (fm := fm) (st := q.1) (s := s) g3 g4 hl ha (by omega) (by omega) (fun M' f' e18 e19 e61 e20 e58 e59 => ?_)
  show zq_b 1 ∧ Q (some (.int 1)) M'
  refine ⟨Or.inr rfl, h1 (by omega) M' (fr_trans fe f') ⟨?_, ?_, e19, e61, ?_, fun j x ex => ?_⟩⟩
  · rw [e18]
    show (M 48 18 + 1).toInt = ((q.2.1 + 1 : Nat) : Int)
    rw [n_add, n_1, g1, zw_id (by omega) (by omega)]
    omega
  · show q.2.1 + 1 = (if s = -9 ∨ s = -15 ∨ s = -16 then 1 else 0) + cn3 q.1
    rw [if_pos s1]
    omega
  · rw [e20]; exact g5
  · rw [e58, e59]; exact g6 j x ex
theorem wdc_nm {T : Int} (h : okT T) (h2 : tkn T = 2) : (-6 ≤ T → nmC (wdc T) = -1 - T) ∧ (¬ -6 ≤ T → nmC (wdc T) = -1) := by
  have : T = -1 ∨ T = -2 ∨ T = -3 ∨ T = -4 ∨ T = -5 ∨ T = -6 ∨ T = -7 ∨ T = -8 ∨ T = -9 ∨ T = -19 ∨ T = -20 ∨ T = -21 := by
    unfold okT at h
    unfold tkn at h2
    repeat' split at h2
    all_goals omega
  rcases this with h | h | h | h | h | h | h | h | h | h | h | h <;> rw [h] <;> decide
theorem tkn_neg {T : Int} (h : T < 0) : tkn T ≠ 1 := by
  unfold tkn
  rw [if_neg (by omega)]
  repeat' split
  all_goals decide
theorem tkn_name {T : Int} (h : T < 0) (h2 : -6 ≤ T) : tkn T = 2 := by
  rcases (show T = -1 ∨ T = -2 ∨ T = -3 ∨ T = -4 ∨ T = -5 ∨ T = -6 by omega) with h | h | h | h | h | h <;> rw [h] <;> decide
theorem tkn_lit {T k : Int} (h : okT T) (hn : ¬ -6 ≤ T) : (tkn T = 45 ↔ T = -13) ∧ (tkn T = 40 ↔ T = -16) ∧ (tkn T = 42 ↔ T = -14) ∧ (tkn T = 43 ↔ T = -12) ∧ (tkn T = 60 ↔ T = -10) ∧ (tkn T = 61 ↔ T = -11) ∧ (tkn T = 41 ↔ T = -17) ∧ (tkn T = 59 ↔ T = -18) ∧ (tkn T < 0 ↔ T = -22 ∨ T = -23) := by
  have : T = -7 ∨ T = -8 ∨ T = -9 ∨ T = -10 ∨ T = -11 ∨ T = -12 ∨ T = -13 ∨ T = -14 ∨ T = -16 ∨ T = -17 ∨ T = -18 ∨ T = -19 ∨ T = -20 ∨ T = -21 ∨ T = -22 ∨ T = -23 := by
    unfold okT at h
    omega
  rcases this with h | h | h | h | h | h | h | h | h | h | h | h | h | h | h | h <;> rw [h] <;> decide
theorem c_takesOne {g : zq_G} {d : Nat} {M : zq_M} {Q : Option Value → zq_M → Prop} {t : Nat → Int} {z i fm : Nat} {q : SQ} {mn : Bool} (hl : lkI M t z i) (hs : syM M fm q) (hf : fm ≤ 2720) (hlen : q.1.length + q.2.2.length < 160) (h0 : one mn q (tkS t z i) = none → Q (some (.int 0)) M) (h1 : ∀ s' : SS, one mn q (tkS t z i) = some s' → ∀ M' : zq_M, fr (fZ fm) M M' → syM M' fm s'.2.2 → Q (some (.int (if s'.1 = true then 1 else 2))) M') : mx g (d + 3) kX12_takesOne 0 [.ref 48, .int (bI mn)] [] M Q := by
  have hT := tkS_ok (t := t) (z := z) (i := i)
  obtain ⟨⟨l1, l2, l3, l4⟩, le⟩ := id hl
  rw [le] at l2 l3
  generalize hTT : tkS t z i = T at hT l2 l3 h0 h1
  have f2 : (2 : Int32).toInt = 2 := rfl
  have f40 : (40 : Int32).toInt = 40 := rfl
  have f45 : (45 : Int32).toInt = 45 := rfl
  unfold one at h0 h1
  by_cases hA : -6 ≤ T
  · rw [if_pos hA] at h1
    replace h1 := h1 _ rfl
    have fin : ∀ sg te : Int32, stp sg te T → mx g (d + 3) kX12_takesOne 64 [.ref 48, .null] [.int te, .int sg, .ref 48] M Q := by
      intro sg te hst
      refine mx_go 100 zq_t165 ?_
      show mx g (d + 2) kX12_put 0 [.ref 48, .int (sg), .int (te)] [] M _
      refine c_X12_put hs hf (by omega) hst (fun M1 f1 s1 => ?_)
      show mx g (d + 2) kX12_settle 0 [.ref 48, .int (7), .null] [] M1 _
      refine c_X12_settle (kk := 7) (fm := fm) rfl (by omega) hf q.1 q.2.1 (q.2.2 ++ [T]) M1 s1 (by rw [List.length_append, List.length_singleton]; omega) (fun M2 f2 s2 => ?_)
      show Q (some (.int 2)) M2
      exact h1 M2 (fr_trans f1 f2) s2
    by_cases hB : 0 ≤ T
    · have e1 : M 48 15 = 1 := (n_eq _ _).mpr (by rw [l2, n_1]; unfold tkn; rw [if_pos hB])
      have e16 : (M 48 16).toInt = T := by
        rw [l3 (Or.inl (by unfold tkn; rw [if_pos hB]))]
        unfold wdc
        rw [if_pos hB]
      refine mx_go 100 zq_t165 ?_
      show (((M 48 15) : Int32) = (1 : Int32) → mx g (d + 3) kX12_takesOne 27 [.ref 48, .null] [] M Q) ∧ (¬ ((M 48 15) : Int32) = (1 : Int32) → (¬ ((M 48 15) : Int32) = (2 : Int32) → mx g (d + 3) kX12_takesOne 75 [.ref 48, .int ((bI mn))] [] M Q) ∧ (((M 48 15) : Int32) = (2 : Int32) → mx g (d + 2) kX12_nameOf 0 [.ref 48, .int ((M 48 16))] [] M _))
      refine ⟨fun _ => ?_, fun a => absurd e1 a⟩
      refine mx_go 100 zq_t165 ?_
      show (¬ ((M 48 15) : Int32) = (1 : Int32) → mx g (d + 3) kX12_takesOne 41 [.ref 48, .null] [.int (1), .ref 48] M Q) ∧ (((M 48 15) : Int32) = (1 : Int32) → mx g (d + 3) kX12_takesOne 41 [.ref 48, .null] [.int (0), .ref 48] M Q)
      refine ⟨fun a => absurd e1 a, fun _ => ?_⟩
      refine mx_go 100 zq_t165 ?_
      show (¬ ((M 48 15) : Int32) = (1 : Int32) → mx g (d + 2) kX12_nameOf 0 [.ref 48, .int ((M 48 16))] [] M _) ∧ (((M 48 15) : Int32) = (1 : Int32) → mx g (d + 3) kX12_takesOne 64 [.ref 48, .null] [.int ((M 48 16)), .int (0), .ref 48] M Q)
      exact ⟨fun a => absurd e1 a, fun _ => fin 0 _ (Or.inl ⟨n_0, e16, hB⟩)⟩
    · have t2 := tkn_name (T := T) (by omega) hA
      have e2 : M 48 15 = 2 := (n_eq _ _).mpr (by rw [l2, f2, t2])
      have n1 : ¬ M 48 15 = 1 := fun e => by rw [e] at e2; exact absurd e2 (by decide)
      have e16 := l3 (Or.inr t2)
      have nm := (wdc_nm hT t2).1 hA
      refine mx_go 100 zq_t165 ?_
      show (((M 48 15) : Int32) = (1 : Int32) → mx g (d + 3) kX12_takesOne 27 [.ref 48, .null] [] M Q) ∧ (¬ ((M 48 15) : Int32) = (1 : Int32) → (¬ ((M 48 15) : Int32) = (2 : Int32) → mx g (d + 3) kX12_takesOne 75 [.ref 48, .int ((bI mn))] [] M Q) ∧ (((M 48 15) : Int32) = (2 : Int32) → mx g (d + 2) kX12_nameOf 0 [.ref 48, .int ((M 48 16))] [] M _))
      refine ⟨fun a => absurd a n1, fun _ => ⟨fun a => absurd e2 a, fun _ => ?_⟩⟩
      refine c_X12_nameOf (fun v hv => ?_)
      rw [e16, nm] at hv
      show ((v : Int32) < 0 → mx g (d + 3) kX12_takesOne 75 [.ref 48, .int ((bI mn))] [] M Q) ∧ (¬ (v : Int32) < 0 → mx g (d + 3) kX12_takesOne 27 [.ref 48, .null] [] M Q)
      refine ⟨fun a => absurd a (by rw [n_lt, n_0]; omega), fun _ => ?_⟩
      refine mx_go 100 zq_t165 ?_
      show (¬ ((M 48 15) : Int32) = (1 : Int32) → mx g (d + 3) kX12_takesOne 41 [.ref 48, .null] [.int (1), .ref 48] M Q) ∧ (((M 48 15) : Int32) = (1 : Int32) → mx g (d + 3) kX12_takesOne 41 [.ref 48, .null] [.int (0), .ref 48] M Q)
      refine ⟨fun _ => ?_, fun a => absurd a n1⟩
      refine mx_go 100 zq_t165 ?_
      show (¬ ((M 48 15) : Int32) = (1 : Int32) → mx g (d + 2) kX12_nameOf 0 [.ref 48, .int ((M 48 16))] [] M _) ∧ (((M 48 15) : Int32) = (1 : Int32) → mx g (d + 3) kX12_takesOne 64 [.ref 48, .null] [.int ((M 48 16)), .int (1), .ref 48] M Q)
      refine ⟨fun _ => ?_, fun a => absurd a n1⟩
      refine c_X12_nameOf (fun v2 hv2 => ?_)
      rw [e16, nm] at hv2
      show mx g (d + 3) kX12_takesOne 64 [.ref 48, .null] [.int v2, .int 1, .ref 48] M Q
      exact fin 1 v2 (Or.inr (Or.inl ⟨n_1, hv2, hA, by omega⟩))
  · rw [if_neg hA] at h0 h1
    have tl := tkn_lit (k := 0) hT hA
    have n1 : ¬ M 48 15 = 1 := fun e => tkn_neg (T := T) (by omega) (by rw [← l2, e]; rfl)
    have c75 : mx g (d + 3) kX12_takesOne 75 [.ref 48, .int (bI mn)] [] M Q := by
      refine mx_go 100 zq_t165 ?_
      show (¬ ((M 48 15) : Int32) = (45 : Int32) → (¬ ((M 48 15) : Int32) = (40 : Int32) → mx g (d + 2) kX12_isWord 0 [.ref 48, .int (14836)] [] M _) ∧ (((M 48 15) : Int32) = (40 : Int32) → mx g (d + 2) kX12_opens 0 [.ref 48, .int (20)] [] M _)) ∧ (((M 48 15) : Int32) = (45 : Int32) → mx g (d + 2) kX12_opens 0 [.ref 48, .int (10)] [] M _)
      refine ⟨fun a => ⟨fun b => ?_, fun b => ?_⟩, fun a => ?_⟩
      · rw [n_eq, l2, f45, tl.1] at a
        rw [n_eq, l2, f40, tl.2.1] at b
        rw [if_neg a, if_neg b] at h0 h1
        refine c_X12_isWord (c := -9) hl (by decide) (by omega) (by rw [hTT]; unfold okT at hT; omega) (fun e => ?_) (fun e => ?_)
        · rw [hTT] at e
          show ((1 : Int32) = 0 → Q (some (.int 0)) M) ∧ (¬ (1 : Int32) = 0 → (((bI mn) : Int32) = 0 → Q (some (.int 0)) M) ∧ (¬ ((bI mn) : Int32) = 0 → mx g (d + 2) kX12_opens 0 [.ref 48, .int (4)] [] M _))
          refine ⟨fun w => absurd w (by decide), fun _ => ⟨fun w => h0 ?_, fun w => ?_⟩⟩
          · rw [bI_eq] at w
            rw [if_neg (fun y => by rw [w] at y; exact abF y.2)]
          · rw [bI_ne] at w
            rw [if_pos ⟨e, w⟩] at h0 h1
            refine c_X12_opens (s := -9) hs (by omega) (by decide) (by omega) (fun o5 => ?_) (fun o5 M1 f1 s1 => ?_)
            · rw [if_pos o5] at h0
              show ((0 : Int32) = 0 → Q (some (.int 0)) M) ∧ (¬ (0 : Int32) = 0 → Q (some (.int 1)) M)
              exact ⟨fun _ => h0 rfl, fun y => absurd rfl y⟩
            · rw [if_neg o5] at h1
              show ((1 : Int32) = 0 → Q (some (.int 0)) M1) ∧ (¬ (1 : Int32) = 0 → Q (some (.int 1)) M1)
              exact ⟨fun y => absurd y (by decide), fun _ => h1 _ rfl M1 f1 s1⟩
        · rw [hTT] at e
          show ((0 : Int32) = 0 → Q (some (.int 0)) M) ∧ (¬ (0 : Int32) = 0 → (((bI mn) : Int32) = 0 → Q (some (.int 0)) M) ∧ (¬ ((bI mn) : Int32) = 0 → mx g (d + 2) kX12_opens 0 [.ref 48, .int (4)] [] M _))
          exact ⟨fun _ => h0 (if_neg (fun y => e y.1)), fun y => absurd rfl y⟩
      · rw [n_eq, l2, f45, tl.1] at a
        rw [n_eq, l2, f40, tl.2.1] at b
        rw [if_neg a, if_pos b] at h0 h1
        refine c_X12_opens (s := -16) hs (by omega) (by decide) (by omega) (fun o5 => ?_) (fun o5 M1 f1 s1 => ?_)
        · rw [if_pos o5] at h0
          show ((0 : Int32) = 0 → Q (some (.int 0)) M) ∧ (¬ (0 : Int32) = 0 → Q (some (.int 1)) M)
          exact ⟨fun _ => h0 rfl, fun y => absurd rfl y⟩
        · rw [if_neg o5] at h1
          show ((1 : Int32) = 0 → Q (some (.int 0)) M1) ∧ (¬ (1 : Int32) = 0 → Q (some (.int 1)) M1)
          exact ⟨fun y => absurd y (by decide), fun _ => h1 _ rfl M1 f1 s1⟩
      · rw [n_eq, l2, f45, tl.1] at a
        rw [if_pos a] at h0 h1
        refine c_X12_opens (s := -15) hs (by omega) (by decide) (by omega) (fun o5 => ?_) (fun o5 M1 f1 s1 => ?_)
        · rw [if_pos o5] at h0
          show ((0 : Int32) = 0 → Q (some (.int 0)) M) ∧ (¬ (0 : Int32) = 0 → Q (some (.int 1)) M)
          exact ⟨fun _ => h0 rfl, fun y => absurd rfl y⟩
        · rw [if_neg o5] at h1
          show ((1 : Int32) = 0 → Q (some (.int 0)) M1) ∧ (¬ (1 : Int32) = 0 → Q (some (.int 1)) M1)
          exact ⟨fun y => absurd y (by decide), fun _ => h1 _ rfl M1 f1 s1⟩
    refine mx_go 100 zq_t165 ?_
    show (((M 48 15) : Int32) = (1 : Int32) → mx g (d + 3) kX12_takesOne 27 [.ref 48, .null] [] M Q) ∧ (¬ ((M 48 15) : Int32) = (1 : Int32) → (¬ ((M 48 15) : Int32) = (2 : Int32) → mx g (d + 3) kX12_takesOne 75 [.ref 48, .int ((bI mn))] [] M Q) ∧ (((M 48 15) : Int32) = (2 : Int32) → mx g (d + 2) kX12_nameOf 0 [.ref 48, .int ((M 48 16))] [] M _))
    refine ⟨fun a => absurd a n1, fun _ => ⟨fun _ => c75, fun a => ?_⟩⟩
    rw [n_eq, l2, f2] at a
    have e16 := l3 (Or.inr a)
    have nm := (wdc_nm hT a).2 hA
    refine c_X12_nameOf (fun v hv => ?_)
    rw [e16, nm] at hv
    show ((v : Int32) < 0 → mx g (d + 3) kX12_takesOne 75 [.ref 48, .int ((bI mn))] [] M Q) ∧ (¬ (v : Int32) < 0 → mx g (d + 3) kX12_takesOne 27 [.ref 48, .null] [] M Q)
    exact ⟨fun _ => c75, fun a => absurd (by rw [n_lt, n_0]; omega) a⟩

theorem c_takesSign {g : zq_G} {d : Nat} {M : zq_M} {Q : Option Value → zq_M → Prop} {t : Nat → Int} {z i fm : Nat} {q : SQ} (hl : lkI M t z i) (hs : syM M fm q) (hf : fm ≤ 2720) (hlen : q.1.length + q.2.2.length < 160) (h0 : sgn q (tkS t z i) = none → ∀ M' : zq_M, fr (fZ fm) M M' → Q (some (.int 0)) M') (h1 : ∀ s' : SS, sgn q (tkS t z i) = some s' → ∀ M' : zq_M, fr (fZ fm) M M' → syM M' fm s'.2.2 → Q (some (.int (if s'.1 = true then 1 else 2))) M') : mx g (d + 3) kX12_takesSign 0 [.ref 48, .null] [] M Q := by
  have hT := tkS_ok (t := t) (z := z) (i := i)
  obtain ⟨⟨l1, l2, l3, l4⟩, le⟩ := id hl
  rw [le] at l2 l3
  generalize hTT : tkS t z i = T at hT l2 l3 h0 h1
  have f41 : (41 : Int32).toInt = 41 := rfl
  have f42 : (42 : Int32).toInt = 42 := rfl
  have f43 : (43 : Int32).toInt = 43 := rfl
  have f45 : (45 : Int32).toInt = 45 := rfl
  have f60 : (60 : Int32).toInt = 60 := rfl
  have f61 : (61 : Int32).toInt = 61 := rfl
  have f5 : (5 : Int32).toInt = 5 := rfl
  have f6 : (6 : Int32).toInt = 6 := rfl
  have f4 : (4 : Int32).toInt = 4 := rfl
  have f20 : (20 : Int32).toInt = 20 := rfl
  have q160 : q.1.length + q.2.2.length ≤ 160 := by omega
  unfold sgn at h0 h1
  -- an operator
  have opr : ∀ s : Int32, lvl T ≠ -1 → s.toInt = rc T → -14 ≤ T → T ≤ -7 → mx g (d + 3) kX12_takesSign 98 [.ref 48, .null] [.int s] M Q := by
    intro s hlv hsv t1 t2
    rw [if_pos hlv] at h0 h1
    have rcT : rc T = -5 - T := if_neg (by omega)
    have cmp : (s = 5 ∨ s = 6) ↔ (T = -10 ∨ T = -11) := by
      rw [n_eq, n_eq, hsv, rcT, f5, f6]
      omega
    have push : ∀ M1 : zq_M, fr (fZ fm) M M1 → syM M1 fm (stl (kpt T) q.1 q.2.1 q.2.2) → ¬ ((T = -10 ∨ T = -11) ∧ tops (stl (kpt T) q.1 q.2.1 q.2.2).1 = 4) → mx g (d + 3) kX12_takesSign 152 [.ref 48, .int s] [] M1 Q := by
      intro M1 f1 s1 hn
      rw [if_neg hn] at h1
      replace h1 := h1 _ rfl
      have sl := stl_len (k := kpt T) q.1 q.2.1 q.2.2
      generalize stl (kpt T) q.1 q.2.1 q.2.2 = r at s1 h1 sl
      obtain ⟨g1, g2, g3, g4, g5, g6⟩ := id s1
      refine mx_go 100 zq_t166 ?_
      show mx g (d + 2) kX12_pushSign 0 [.ref 48, .int (s)] [] M1 _
      refine c_X12_pushSign (fm := fm) (st := r.1) (s := T) g3 g4 (by omega) hsv (by omega) (by omega) (fun M' f' e18 e19 e61 e20 e58 e59 => ?_)
      show Q (some (.int 1)) M'
      refine h1 M' (fr_trans f1 f') ⟨?_, ?_, e19, e61, ?_, fun j x ex => ?_⟩
      · rw [e18]; exact g1
      · show r.2.1 = (if T = -9 ∨ T = -15 ∨ T = -16 then 1 else 0) + cn3 r.1
        rw [if_neg (fun z => by
          unfold lvl at hlv
          rcases z with z | z | z
          · rw [z] at hlv; exact hlv (by decide)
          · omega
          · omega)]
        omega
      · rw [e20]; exact g5
      · rw [e58, e59]; exact g6 j x ex
    have c124 : ∀ k : Int32, k.toInt = (kpt T : Int) → mx g (d + 3) kX12_takesSign 124 [.ref 48, .int s] [.int k, .ref 48] M Q := by
      intro k hk
      refine mx_go 100 zq_t166 ?_
      show mx g (d + 2) kX12_settle 0 [.ref 48, .int (k), .null] [] M _
      have k1 : 1 ≤ kpt T := by
        rcases (show T = -7 ∨ T = -8 ∨ T = -9 ∨ T = -10 ∨ T = -11 ∨ T = -12 ∨ T = -13 ∨ T = -14 by omega) with h | h | h | h | h | h | h | h <;> rw [h] <;> decide
      refine c_X12_settle (fm := fm) hk k1 hf q.1 q.2.1 q.2.2 M hs q160 (fun M1 f1 s1 => ?_)
      show ((s : Int32) = (5 : Int32) → mx g (d + 3) kX12_takesSign 138 [.ref 48, .int (s)] [] M1 Q) ∧ (¬ (s : Int32) = (5 : Int32) → (¬ (s : Int32) = (6 : Int32) → mx g (d + 3) kX12_takesSign 152 [.ref 48, .int (s)] [] M1 Q) ∧ ((s : Int32) = (6 : Int32) → mx g (d + 3) kX12_takesSign 138 [.ref 48, .int (s)] [] M1 Q))
      have c138 : (T = -10 ∨ T = -11) → mx g (d + 3) kX12_takesSign 138 [.ref 48, .int s] [] M1 Q := by
        intro hc
        have sl := stl_len (k := kpt T) q.1 q.2.1 q.2.2
        refine mx_go 100 zq_t166 ?_
        show mx g (d + 2) kX12_top 0 [.ref 48] [] M1 _
        refine c_X12_top s1 (by omega) (fun v v1 v2 => ?_)
        show mx g (d + 2) kX12_strength 0 [.ref 48, .int (v)] [] M1 _
        refine c_X12_strength (fun u u1 u2 => ?_)
        show (¬ (u : Int32) = (4 : Int32) → mx g (d + 3) kX12_takesSign 152 [.ref 48, .int (s)] [] M1 Q) ∧ ((u : Int32) = (4 : Int32) → Q (some (.int 0)) M1)
        have eu : u.toInt = (tops (stl (kpt T) q.1 q.2.1 q.2.2).1 : Int) := by
          obtain ⟨g1, g2, g3, g4, g5, g6⟩ := s1
          cases hh : (stl (kpt T) q.1 q.2.1 q.2.2).1 with
          | nil =>
            rw [u2 (v1 hh)]
            rfl
          | cons a r =>
            have ga := g4 0 a (by rw [hh]; rfl)
            exact u1 a ga.2.1 ga.2.2 (v2 a r hh).2
        refine ⟨fun w => push M1 f1 s1 (fun y => w ?_), fun w => h0 ?_ M1 f1⟩
        · rw [n_eq, eu, y.2]; rfl
        · rw [n_eq, eu, f4] at w
          rw [if_pos ⟨hc, by omega⟩]
      refine ⟨fun w => c138 (cmp.mp (Or.inl w)), fun w => ⟨fun y => push M1 f1 s1 (fun hh => ?_), fun y => c138 (cmp.mp (Or.inr y))⟩⟩
      rcases cmp.mpr hh.1 with e | e
      · exact w e
      · exact y e
    refine mx_go 100 zq_t166 ?_
    show ((s : Int32) < 0 → (((M 48 15) : Int32) = (41 : Int32) → mx g (d + 2) kX12_settle 0 [.ref 48, .int (1), .null] [] M _) ∧ (¬ ((M 48 15) : Int32) = (41 : Int32) → Q (some (.int 0)) M)) ∧ (¬ (s : Int32) < 0 → ((s : Int32) = (5 : Int32) → mx g (d + 3) kX12_takesSign 124 [.ref 48, .int (s)] [.int (5), .ref 48] M Q) ∧ (¬ (s : Int32) = (5 : Int32) → (¬ (s : Int32) = (6 : Int32) → mx g (d + 2) kX12_strength 0 [.ref 48, .int (s)] [] M _) ∧ ((s : Int32) = (6 : Int32) → mx g (d + 3) kX12_takesSign 124 [.ref 48, .int (s)] [.int (5), .ref 48] M Q)))
    refine ⟨fun w => absurd w (by rw [n_lt, n_0, hsv, rcT]; omega), fun _ => ⟨fun w => c124 5 ?_, fun w => ⟨fun y => ?_, fun y => c124 5 ?_⟩⟩⟩
    · rw [show kpt T = 5 from if_pos (cmp.mp (Or.inl w))]; rfl
    · refine c_X12_strength (fun u u1 u2 => ?_)
      have := u1 T (by omega) t2 hsv
      show mx g (d + 3) kX12_takesSign 124 [.ref 48, .int s] [.int u, .ref 48] M Q
      refine c124 u ?_
      rw [this, show kpt T = sth T from if_neg (fun z => by rcases cmp.mpr z with e | e; exact w e; exact y e)]
    · rw [show kpt T = 5 from if_pos (cmp.mp (Or.inr y))]; rfl
  -- no operator
  have nop : lvl T = -1 → mx g (d + 3) kX12_takesSign 98 [.ref 48, .null] [.int (-1)] M Q := by
    intro hlv
    rw [if_neg (fun z => z hlv)] at h0 h1
    have t41 : (M 48 15 = 41) ↔ T = -17 := by
      rw [n_eq, l2, f41]
      by_cases hA : -6 ≤ T
      · refine ⟨fun z => ?_, fun z => by omega⟩
        exfalso
        by_cases hB : 0 ≤ T
        · unfold tkn at z; rw [if_pos hB] at z; omega
        · rw [tkn_name (by omega) hA] at z; omega
      · exact (tkn_lit (k := 0) hT hA).2.2.2.2.2.2.1
    refine mx_go 100 zq_t166 ?_
    show (((-1) : Int32) < 0 → (((M 48 15) : Int32) = (41 : Int32) → mx g (d + 2) kX12_settle 0 [.ref 48, .int (1), .null] [] M _) ∧ (¬ ((M 48 15) : Int32) = (41 : Int32) → Q (some (.int 0)) M)) ∧ (¬ ((-1) : Int32) < 0 → (((-1) : Int32) = (5 : Int32) → mx g (d + 3) kX12_takesSign 124 [.ref 48, .int ((-1))] [.int (5), .ref 48] M Q) ∧ (¬ ((-1) : Int32) = (5 : Int32) → (¬ ((-1) : Int32) = (6 : Int32) → mx g (d + 2) kX12_strength 0 [.ref 48, .int ((-1))] [] M _) ∧ (((-1) : Int32) = (6 : Int32) → mx g (d + 3) kX12_takesSign 124 [.ref 48, .int ((-1))] [.int (5), .ref 48] M Q)))
    refine ⟨fun _ => ⟨fun w => ?_, fun w => ?_⟩, fun w => absurd (by decide) w⟩
    rotate_left
    · rw [if_neg (fun z => w (t41.mpr z))] at h0
      exact h0 rfl M fr_rfl
    rw [t41] at w
    rw [if_pos w] at h0 h1
    refine c_X12_settle (kk := 1) (fm := fm) rfl (by omega) hf q.1 q.2.1 q.2.2 M hs q160 (fun M1 f1 s1 => ?_)
    show mx g (d + 2) kX12_top 0 [.ref 48] [] M1 _
    have sl := stl_len (k := 1) q.1 q.2.1 q.2.2
    generalize stl 1 q.1 q.2.1 q.2.2 = r at h0 h1 s1 sl
    obtain ⟨g1, g2, g3, g4, g5, g6⟩ := id s1
    refine c_X12_top s1 (by omega) (fun v v1 v2 => ?_)
    show ((v : Int32) = (20 : Int32) → mx g (d + 2) kX12_settle 0 [.ref 48, .int (7), .null] [] (zq_mu (zq_mu M1 48 19 ((M1 48 19) - 1)) 48 18 ((M1 48 18) - 1)) _) ∧ (¬ (v : Int32) = (20 : Int32) → Q (some (.int 0)) M1)
    unfold clo at h0 h1
    cases hh : r.1 with
    | nil =>
      rw [hh] at h0
      refine ⟨fun y => absurd y (by rw [v1 hh]; decide), fun _ => h0 rfl M1 f1⟩
    | cons a rr =>
      rw [hh] at h0 h1
      have ga := g4 0 a (by rw [hh]; rfl)
      have va := (v2 a rr hh).2
      refine ⟨fun y => ?_, fun y => ?_⟩
      · rw [n_eq, va, f20] at y
        have a16 : a = -16 := by
          unfold rc at y
          by_cases c : a = -16
          · exact c
          · rw [if_neg c] at y; omega
        replace h1 := h1 _ (if_pos a16)
        have rg := n_rng (M1 48 18)
        have rg2 := n_rng (M1 48 19)
        rw [hh, List.length_cons] at g3
        have cn : r.2.1 = 1 + cn3 rr := by
          rw [g2, hh]
          show (if a = -9 ∨ a = -15 ∨ a = -16 then 1 else 0) + cn3 rr = 1 + cn3 rr
          rw [if_pos (by omega)]
        have fe : fr (fZ fm) M1 (zq_mu (zq_mu M1 48 19 (M1 48 19 - 1)) 48 18 (M1 48 18 - 1)) := fr_mu (fr_mu fr_rfl rfl) rfl
        have lr : r.1.length = rr.length + 1 := by rw [hh, List.length_cons]
        refine c_X12_settle (kk := 7) (fm := fm) rfl (by omega) hf rr (r.2.1 - 1) r.2.2 _ ⟨?_, ?_, ?_, fun j x e => ?_, g5, g6⟩ (by omega) (fun M2 f2 s2 => ?_)
        · show (M1 48 18 - 1).toInt = ((r.2.1 - 1 : Nat) : Int)
          rw [n_sub, n_1, g1, zw_id (by omega) (by omega)]
          omega
        · show r.2.1 - 1 = cn3 rr
          omega
        · show (M1 48 19 - 1).toInt = (rr.length : Int)
          rw [n_sub, n_1, g3, zw_id (by omega) (by omega)]
          omega
        · have lt : j < rr.length := by
            by_cases w2 : j < rr.length
            · exact w2
            · replace e : rr[j]? = some x := e
              rw [List.getElem?_eq_none (by omega)] at e; cases e
          have := g4 (j + 1) x (by rw [hh]; simpa using e)
          rw [lr, show rr.length + 1 - 1 - (j + 1) = rr.length - 1 - j by omega] at this
          exact this
        · show Q (some (.int 2)) M2
          exact h1 M2 (fr_trans f1 (fr_trans fe f2)) s2
      · rw [n_eq, va, f20] at y
        refine h0 (if_neg (fun e => y ?_)) M1 f1
        rw [e]; decide
  refine mx_go 100 zq_t166 ?_
  show (¬ ((M 48 15) : Int32) = (42 : Int32) → (¬ ((M 48 15) : Int32) = (43 : Int32) → (¬ ((M 48 15) : Int32) = (45 : Int32) → (¬ ((M 48 15) : Int32) = (60 : Int32) → (¬ ((M 48 15) : Int32) = (61 : Int32) → mx g (d + 2) kX12_isWord 0 [.ref 48, .int (1476)] [] M _) ∧ (((M 48 15) : Int32) = (61 : Int32) → mx g (d + 3) kX12_takesSign 98 [.ref 48, .null] [.int (6)] M Q)) ∧ (((M 48 15) : Int32) = (60 : Int32) → mx g (d + 3) kX12_takesSign 98 [.ref 48, .null] [.int (5)] M Q)) ∧ (((M 48 15) : Int32) = (45 : Int32) → mx g (d + 3) kX12_takesSign 98 [.ref 48, .null] [.int (8)] M Q)) ∧ (((M 48 15) : Int32) = (43 : Int32) → mx g (d + 3) kX12_takesSign 98 [.ref 48, .null] [.int (7)] M Q)) ∧ (((M 48 15) : Int32) = (42 : Int32) → mx g (d + 3) kX12_takesSign 98 [.ref 48, .null] [.int (9)] M Q)
  by_cases hA : -6 ≤ T
  · have lm : lvl T = -1 := by
      unfold lvl
      rw [if_neg (by omega), if_neg (by omega), if_neg (by omega), if_neg (by omega), if_neg (by omega)]
    have tn : tkn T = 1 ∨ tkn T = 2 := by
      by_cases hB : 0 ≤ T
      · left; unfold tkn; rw [if_pos hB]
      · right; exact tkn_name (by omega) hA
    have nl : ∀ k : Int32, k.toInt ≠ 1 → k.toInt ≠ 2 → ¬ M 48 15 = k := fun k k1 k2 e => by
      rw [n_eq, l2] at e
      rcases tn with h | h
      · exact k1 (by rw [← e, h])
      · exact k2 (by rw [← e, h])
    refine ⟨fun _ => ⟨fun _ => ⟨fun _ => ⟨fun _ => ⟨fun _ => ?_, fun a => absurd a (nl _ (by decide) (by decide))⟩, fun a => absurd a (nl _ (by decide) (by decide))⟩, fun a => absurd a (nl _ (by decide) (by decide))⟩, fun a => absurd a (nl _ (by decide) (by decide))⟩, fun a => absurd a (nl _ (by decide) (by decide))⟩
    refine c_X12_isWord (c := -8) hl (by decide) (by omega) (by rw [hTT]; unfold okT at hT; omega) (fun e => by rw [hTT] at e; omega) (fun _ => ?_)
    show ((0 : Int32) = 0 → mx g (d + 2) kX12_isWord 0 [.ref 48, .int (498)] [] M _) ∧ (¬ (0 : Int32) = 0 → mx g (d + 3) kX12_takesSign 98 [.ref 48, .null] [.int (3)] M Q)
    refine ⟨fun _ => ?_, fun y => absurd rfl y⟩
    refine c_X12_isWord (c := -7) hl (by decide) (by omega) (by rw [hTT]; unfold okT at hT; omega) (fun e => by rw [hTT] at e; omega) (fun _ => ?_)
    show ((0 : Int32) = 0 → mx g (d + 3) kX12_takesSign 98 [.ref 48, .null] [.int ((-1))] M Q) ∧ (¬ (0 : Int32) = 0 → mx g (d + 3) kX12_takesSign 98 [.ref 48, .null] [.int (2)] M Q)
    exact ⟨fun _ => nop lm, fun y => absurd rfl y⟩
  · have tl := tkn_lit (k := 0) hT hA
    refine ⟨fun a => ⟨fun b => ⟨fun c => ⟨fun e => ⟨fun f => ?_, fun f => ?_⟩, fun e => ?_⟩, fun c => ?_⟩, fun b => ?_⟩, fun a => ?_⟩
    · rw [n_eq, l2, f42, tl.2.2.1] at a
      rw [n_eq, l2, f43, tl.2.2.2.1] at b
      rw [n_eq, l2, f45, tl.1] at c
      rw [n_eq, l2, f60, tl.2.2.2.2.1] at e
      rw [n_eq, l2, f61, tl.2.2.2.2.2.1] at f
      refine c_X12_isWord (c := -8) hl (by decide) (by omega) (by rw [hTT]; unfold okT at hT; omega) (fun h => ?_) (fun h => ?_)
      · rw [hTT] at h
        show ((1 : Int32) = 0 → mx g (d + 2) kX12_isWord 0 [.ref 48, .int (498)] [] M _) ∧ (¬ (1 : Int32) = 0 → mx g (d + 3) kX12_takesSign 98 [.ref 48, .null] [.int (3)] M Q)
        exact ⟨fun y => absurd y (by decide), fun _ => opr 3 (by rw [h]; decide) (by rw [h]; decide) (by omega) (by omega)⟩
      · rw [hTT] at h
        show ((0 : Int32) = 0 → mx g (d + 2) kX12_isWord 0 [.ref 48, .int (498)] [] M _) ∧ (¬ (0 : Int32) = 0 → mx g (d + 3) kX12_takesSign 98 [.ref 48, .null] [.int (3)] M Q)
        refine ⟨fun _ => ?_, fun y => absurd rfl y⟩
        refine c_X12_isWord (c := -7) hl (by decide) (by omega) (by rw [hTT]; unfold okT at hT; omega) (fun h2 => ?_) (fun h2 => ?_)
        · rw [hTT] at h2
          show ((1 : Int32) = 0 → mx g (d + 3) kX12_takesSign 98 [.ref 48, .null] [.int ((-1))] M Q) ∧ (¬ (1 : Int32) = 0 → mx g (d + 3) kX12_takesSign 98 [.ref 48, .null] [.int (2)] M Q)
          exact ⟨fun y => absurd y (by decide), fun _ => opr 2 (by rw [h2]; decide) (by rw [h2]; decide) (by omega) (by omega)⟩
        · rw [hTT] at h2
          show ((0 : Int32) = 0 → mx g (d + 3) kX12_takesSign 98 [.ref 48, .null] [.int ((-1))] M Q) ∧ (¬ (0 : Int32) = 0 → mx g (d + 3) kX12_takesSign 98 [.ref 48, .null] [.int (2)] M Q)
          refine ⟨fun _ => nop ?_, fun y => absurd rfl y⟩
          unfold lvl
          rw [if_neg h2, if_neg h, if_neg (by omega), if_neg (by omega), if_neg a]
    · rw [n_eq, l2, f61, tl.2.2.2.2.2.1] at f
      exact opr 6 (by rw [f]; decide) (by rw [f]; decide) (by omega) (by omega)
    · rw [n_eq, l2, f60, tl.2.2.2.2.1] at e
      exact opr 5 (by rw [e]; decide) (by rw [e]; decide) (by omega) (by omega)
    · rw [n_eq, l2, f45, tl.1] at c
      exact opr 8 (by rw [c]; decide) (by rw [c]; decide) (by omega) (by omega)
    · rw [n_eq, l2, f43, tl.2.2.2.1] at b
      exact opr 7 (by rw [b]; decide) (by rw [b]; decide) (by omega) (by omega)
    · rw [n_eq, l2, f42, tl.2.2.1] at a
      exact opr 9 (by rw [a]; decide) (by rw [a]; decide) (by omega) (by omega)

