def fE (fm c i : Nat) : Bool := fZ fm c i || fK c i
theorem fE_z {fm : Nat} {M M' : zq_M} (h : fr (fZ fm) M M') : fr (fE fm) M M' := fr_mono h (fun c i e => by
  unfold fE at e
  cases q : fZ fm c i with
  | false => rfl
  | true => rw [q] at e; exact abT e)
theorem fE_k {fm : Nat} {M M' : zq_M} (h : fr fK M M') : fr (fE fm) M M' := fr_mono h (fun c i e => by
  unfold fE at e
  cases q : fK c i with
  | false => rfl
  | true => rw [q, Bool.or_true] at e; exact abT e)
theorem lkI_z {fm i z : Nat} {t : Nat → Int} {M M' : zq_M} (h : lkI M t z i) (hf : fr (fZ fm) M M') : lkI M' t z i := by
  obtain ⟨⟨a, b, c, d⟩, e⟩ := h
  exact ⟨⟨by rw [hf 48 14 rfl]; exact a, by rw [hf 48 15 rfl]; exact b, fun x => by rw [hf 48 16 rfl]; exact c x, fun x => by rw [hf 48 17 rfl]; exact d x⟩, e⟩
theorem syM_k {fm : Nat} {q : SQ} {M M' : zq_M} (h : syM M fm q) (hf : fr fK M M') : syM M' fm q := by
  obtain ⟨a, b, c, d, e, f⟩ := h
  refine ⟨by rw [hf 48 18 rfl]; exact a, b, by rw [hf 48 19 rfl]; exact c, ?_, by rw [hf 48 20 rfl]; exact e, ?_⟩
  · rw [fr_ar hf 61 (fun _ => rfl)]; exact d
  · rw [fr_ar hf 58 (fun _ => rfl), fr_ar hf 59 (fun _ => rfl)]; exact f
theorem tpM_z {fm z : Nat} {t : Nat → Int} {M M' : zq_M} (h : tpM M t z) (hf : fr (fZ fm) M M') : tpM M' t z := ⟨by rw [hf 48 13 rfl]; exact h.1, h.2.1, fun i => by rw [fr_ar hf 57 (fun _ => rfl)]; exact h.2.2 i⟩
theorem one_f {mn : Bool} {q : SQ} {T : Int} {s' : SS} (h : one mn q T = some s') : s'.2.1 = (decide (T = -9) || decide (T = -16)) ∧ T ≠ -22 ∧ s'.2.2.1.length + s'.2.2.2.2.length ≤ q.1.length + q.2.2.length + 1 := by
  unfold one at h
  by_cases a : -6 ≤ T
  · rw [if_pos a] at h
    cases h
    refine ⟨?_, by omega, ?_⟩
    · rw [decide_eq_false (by omega), decide_eq_false (by omega)]; rfl
    · show (stl 7 q.1 q.2.1 (q.2.2 ++ [T])).1.length + (stl 7 q.1 q.2.1 (q.2.2 ++ [T])).2.2.length ≤ _
      rw [stl_len, List.length_append, List.length_singleton]
      omega
  rw [if_neg a] at h
  by_cases b : T = -13
  · rw [if_pos b] at h
    split at h
    · cases h
    · cases h
      refine ⟨by rw [b]; rfl, by omega, ?_⟩
      show (-15 :: q.1).length + q.2.2.length ≤ _
      rw [List.length_cons]
      omega
  rw [if_neg b] at h
  by_cases c : T = -16
  · rw [if_pos c] at h
    split at h
    · cases h
    · cases h
      refine ⟨by rw [c]; rfl, by omega, ?_⟩
      show (-16 :: q.1).length + q.2.2.length ≤ _
      rw [List.length_cons]
      omega
  rw [if_neg c] at h
  by_cases e : T = -9 ∧ mn = true
  · rw [if_pos e] at h
    split at h
    · cases h
    · cases h
      refine ⟨by rw [e.1]; rfl, by omega, ?_⟩
      show (-9 :: q.1).length + q.2.2.length ≤ _
      rw [List.length_cons]
      omega
  rw [if_neg e] at h
  cases h
theorem sgn_f {q : SQ} {T : Int} {s' : SS} (h : sgn q T = some s') : s'.2.1 = decide (tkn T = 2) ∧ T ≠ -22 ∧ s'.2.2.1.length + s'.2.2.2.2.length ≤ q.1.length + q.2.2.length + 1 := by
  unfold sgn at h
  by_cases a : lvl T ≠ -1
  · rw [if_pos a] at h
    split at h
    · cases h
    · cases h
      have hT : T = -7 ∨ T = -8 ∨ T = -10 ∨ T = -11 ∨ T = -12 ∨ T = -13 ∨ T = -14 := by
        unfold lvl at a
        by_cases x : T = -7 ∨ T = -8 ∨ T = -10 ∨ T = -11 ∨ T = -12 ∨ T = -13 ∨ T = -14
        · exact x
        · rw [if_neg (by omega), if_neg (by omega), if_neg (by omega), if_neg (by omega), if_neg (by omega)] at a
          exact absurd rfl a
      refine ⟨?_, by omega, ?_⟩
      · show decide (T = -7 ∨ T = -8) = _
        rcases hT with h | h | h | h | h | h | h <;> rw [h] <;> decide
      · show (T :: (stl (kpt T) q.1 q.2.1 q.2.2).1).length + (stl (kpt T) q.1 q.2.1 q.2.2).2.2.length ≤ _
        have := stl_len (k := kpt T) q.1 q.2.1 q.2.2
        rw [List.length_cons]
        omega
  rw [if_neg a] at h
  by_cases b : T = -17
  · rw [if_pos b] at h
    have sl := stl_len (k := 1) q.1 q.2.1 q.2.2
    generalize stl 1 q.1 q.2.1 q.2.2 = r at h sl
    unfold clo at h
    cases hr : r.1 with
    | nil => rw [hr] at h; cases h
    | cons x rr =>
      rw [hr] at h
      replace h : (if x = -16 then some (false, false, stl 7 rr (r.2.1 - 1) r.2.2) else none) = some s' := h
      by_cases c : x = -16
      · rw [if_pos c] at h
        cases h
        refine ⟨by rw [b]; rfl, by omega, ?_⟩
        show (stl 7 rr (r.2.1 - 1) r.2.2).1.length + (stl 7 rr (r.2.1 - 1) r.2.2).2.2.length ≤ _
        rw [hr, List.length_cons] at sl
        rw [stl_len]
        omega
      · rw [if_neg c] at h; cases h
  rw [if_neg b] at h
  cases h
theorem c_E19 {g : zq_G} {d : Nat} {Q : Option Value → zq_M → Prop} {t : Nat → Int} {z fm : Nat} (hf : fm ≤ 2720) : ∀ (F : Nat) (w mn : Bool) (q : SQ) (i : Nat) (M : zq_M), tpM M t z → lkI M t z i → syM M fm q → q.1.length + q.2.2.length < i → i ≤ 160 → 161 ≤ i + F → (∀ M' : zq_M, fr (fE fm) M M' → lkI M' t z (run (tkS t z) F (w, mn, q) i).2.1 → ((run (tkS t z) F (w, mn, q) i).1 = true → (M' 48 20).toInt = ((fm + (run (tkS t z) F (w, mn, q) i).2.2.length : Nat) : Int) ∧ ∀ (j : Nat) (s : Int), (run (tkS t z) F (w, mn, q) i).2.2[j]? = some s → stp (M' 58 (fm + j)) (M' 59 (fm + j)) s) → Q (some (.int (bI (run (tkS t z) F (w, mn, q) i).1))) M') → mx g (d + 4) kX12_takesE 19 [.ref 48, .null, .int (bI w), .int (bI mn), .null, .null, .null, .null] [] M Q
  | 0, w, mn, q, i, M, ht, hl, hs, h1, h2, h3, hq => absurd h3 (by omega)
  | F + 1, w, mn, q, i, M, ht, hl, hs, h1, h2, h3, hq => by
    have hT := tkS_ok (t := t) (z := z) (i := i)
    obtain ⟨⟨l1, l2, l3, l4⟩, le⟩ := id hl
    rw [le] at l2 l3
    unfold run at hq
    have stb := stS_b (t := t) (z := z) i
    have z160 := ht.2.1
    have lt : tkS t z i ≠ -22 → i + 1 ≤ 160 := fun h => by
      have : stS t z i < z := by
        by_cases c : stS t z i < z
        · exact c
        · unfold tkS at h; rw [if_neg c] at h; exact absurd rfl h
      omega
    have t2 : (M 48 15 = 2) ↔ tkn (tkS t z i) = 2 := by rw [n_eq, l2]; exact Iff.rfl
    have t40 : (M 48 15 = 40) ↔ tkS t z i = -16 := by
      rw [n_eq, l2, show (40 : Int32).toInt = 40 from rfl]
      by_cases hA : -6 ≤ tkS t z i
      · refine ⟨fun y => ?_, fun y => by omega⟩
        exfalso
        by_cases hB : 0 ≤ tkS t z i
        · unfold tkn at y; rw [if_pos hB] at y; omega
        · rw [tkn_name (by omega) hA] at y; omega
      · exact (tkn_lit (k := 0) hT hA).2.1
    have t59 : tkn (tkS t z i) = 59 ↔ tkS t z i = -18 := by
      by_cases hA : -6 ≤ tkS t z i
      · refine ⟨fun y => ?_, fun y => by omega⟩
        exfalso
        by_cases hB : 0 ≤ tkS t z i
        · unfold tkn at y; rw [if_pos hB] at y; omega
        · rw [tkn_name (by omega) hA] at y; omega
      · exact (tkn_lit (k := 0) hT hA).2.2.2.2.2.2.2.1
    have t41 : tkn (tkS t z i) = 41 ↔ tkS t z i = -17 := by
      by_cases hA : -6 ≤ tkS t z i
      · refine ⟨fun y => ?_, fun y => by omega⟩
        exfalso
        by_cases hB : 0 ≤ tkS t z i
        · unfold tkn at y; rw [if_pos hB] at y; omega
        · rw [tkn_name (by omega) hA] at y; omega
      · exact (tkn_lit (k := 0) hT hA).2.2.2.2.2.2.1
    have tng : tkn (tkS t z i) < 0 ↔ (tkS t z i = -22 ∨ tkS t z i = -23) := by
      by_cases hA : -6 ≤ tkS t z i
      · refine ⟨fun y => ?_, fun y => by omega⟩
        exfalso
        by_cases hB : 0 ≤ tkS t z i
        · unfold tkn at y; rw [if_pos hB] at y; omega
        · rw [tkn_name (by omega) hA] at y; omega
      · exact (tkn_lit (k := 0) hT hA).2.2.2.2.2.2.2.2
    -- no end here: the token is taken, or a fault
    have c75 : ¬ (w = false ∧ (tkS t z i = -18 ∨ tkS t z i = -22 ∨ tkS t z i = -23)) → mx g (d + 4) kX12_takesE 75 [.ref 48, .null, .int (bI w), .int (bI mn), .null, .null, .null, .null] [] M Q := by
      intro na
      rw [if_neg na] at hq
      have c131 : ∀ (s' : SS) (iw : Bool) (M1 : zq_M), nxS (w, mn, q) (tkS t z i) = some s' → iw = decide (tkn (tkS t z i) = 2) → fr (fZ fm) M M1 → syM M1 fm s'.2.2 → mx g (d + 4) kX12_takesE 131 [.ref 48, .null, .int (bI w), .null, .int (bI (decide (tkS t z i = -9))), .int (bI (decide (tkS t z i = -16))), .int (bI iw), .null] [.int (if s'.1 = true then 1 else 2)] M1 Q := by
        intro s' iw M1 hn hiw f1 s1
        rw [hn] at hq
        have fac : s'.2.1 = (if w = true then (decide (tkS t z i = -9) || decide (tkS t z i = -16)) else iw) ∧ tkS t z i ≠ -22 ∧ s'.2.2.1.length + s'.2.2.2.2.length ≤ q.1.length + q.2.2.length + 1 := by
          unfold nxS at hn
          cases w with
          | true => exact one_f hn
          | false => rw [hiw]; exact sgn_f hn
        have c164 : ∀ nm : Bool, nm = s'.2.1 → mx g (d + 4) kX12_takesE 164 [.ref 48, .null, .null, .null, .null, .null, .null, .int (if s'.1 = true then 1 else 2)] [.int (bI nm)] M1 Q := by
          intro nm hnm
          have c176 : mx g (d + 4) kX12_takesE 176 [.ref 48, .null, .null, .int (bI nm), .null, .null, .null, .null] [.int (bI s'.1)] M1 Q := by
            refine mx_go 100 zq_t167 ?_
            show mx g (d + 3) kX12_goOn 0 [.ref 48] [] M1 _
            refine c_X12_goOn (tpM_z ht f1) (lkI_z hl f1) fac.2.1 (fun M2 f2 l2' => ?_)
            show mx g (d + 4) kX12_takesE 19 [.ref 48, .null, .int (bI s'.1), .int (bI nm), .null, .null, .null, .null] [] M2 Q
            have lt' := lt fac.2.1
            refine c_E19 hf F s'.1 nm s'.2.2 (i + 1) M2 (tpM_fr (tpM_z ht f1) f2) l2' (syM_k s1 f2) (by omega) (by omega) (by omega) ?_
            rw [hnm]
            exact fun M3 f3 l3' c3 => hq M3 (fr_trans (fE_z f1) (fr_trans (fE_k f2) f3)) l3' c3
          refine mx_go 100 zq_t167 ?_
          show (¬ ((if s'.1 = true then 1 else 2) : Int32) = (1 : Int32) → mx g (d + 4) kX12_takesE 176 [.ref 48, .null, .null, .int ((bI nm)), .null, .null, .null, .null] [.int (0)] M1 Q) ∧ (((if s'.1 = true then 1 else 2) : Int32) = (1 : Int32) → mx g (d + 4) kX12_takesE 176 [.ref 48, .null, .null, .int ((bI nm)), .null, .null, .null, .null] [.int (1)] M1 Q)
          cases hs1 : s'.1 with
          | true =>
            rw [hs1] at c176
            exact ⟨fun y => absurd rfl y, fun _ => c176⟩
          | false =>
            rw [hs1] at c176
            exact ⟨fun _ => c176, fun y => absurd y (by decide)⟩
        refine mx_go 100 zq_t167 ?_
        show (¬ ((if s'.1 = true then 1 else 2) : Int32) = 0 → (((bI w) : Int32) = 0 → mx g (d + 4) kX12_takesE 164 [.ref 48, .null, .null, .null, .null, .null, .null, .int ((if s'.1 = true then 1 else 2))] [.int ((bI iw))] M1 Q) ∧ (¬ ((bI w) : Int32) = 0 → (¬ ((bI (decide (tkS t z i = -9))) : Int32) = 0 → mx g (d + 4) kX12_takesE 164 [.ref 48, .null, .null, .null, .null, .null, .null, .int ((if s'.1 = true then 1 else 2))] [.int (1)] M1 Q) ∧ (((bI (decide (tkS t z i = -9))) : Int32) = 0 → (((bI (decide (tkS t z i = -16))) : Int32) = 0 → mx g (d + 4) kX12_takesE 164 [.ref 48, .null, .null, .null, .null, .null, .null, .int ((if s'.1 = true then 1 else 2))] [.int (0)] M1 Q) ∧ (¬ ((bI (decide (tkS t z i = -16))) : Int32) = 0 → mx g (d + 4) kX12_takesE 164 [.ref 48, .null, .null, .null, .null, .null, .null, .int ((if s'.1 = true then 1 else 2))] [.int (1)] M1 Q)))) ∧ (((if s'.1 = true then 1 else 2) : Int32) = 0 → zq_b 0 ∧ Q (some (.int 0)) M1)
        refine ⟨fun _ => ⟨fun y => c164 iw ?_, fun y => ⟨fun v => c164 true ?_, fun v => ⟨fun u => c164 false ?_, fun u => c164 true ?_⟩⟩⟩, fun y => absurd y (by cases s'.1 <;> decide)⟩
        · rw [bI_eq] at y
          rw [fac.1, if_neg (by rw [y]; decide)]
        · rw [bI_ne] at y v
          rw [fac.1, if_pos y, v]; rfl
        · rw [bI_ne] at y
          rw [bI_eq] at v u
          rw [fac.1, if_pos y, v, u]; rfl
        · rw [bI_ne] at y u
          rw [bI_eq] at v
          rw [fac.1, if_pos y, v, u]; rfl
      have c113 : ∀ iw : Bool, iw = decide (tkn (tkS t z i) = 2) → mx g (d + 4) kX12_takesE 113 [.ref 48, .null, .int (bI w), .int (bI mn), .int (bI (decide (tkS t z i = -9))), .int (bI (decide (tkS t z i = -16))), .null, .null] [.int (bI iw)] M Q := by
        intro iw hiw
        refine mx_go 100 zq_t167 ?_
        show (((bI w) : Int32) = 0 → mx g (d + 3) kX12_takesSign 0 [.ref 48, .null] [] M _) ∧ (¬ ((bI w) : Int32) = 0 → mx g (d + 3) kX12_takesOne 0 [.ref 48, .int ((bI mn))] [] M _)
        have bad : nxS (w, mn, q) (tkS t z i) = none → ∀ M1 : zq_M, fr (fZ fm) M M1 → mx g (d + 4) kX12_takesE 131 [.ref 48, .null, .int (bI w), .null, .int (bI (decide (tkS t z i = -9))), .int (bI (decide (tkS t z i = -16))), .int (bI iw), .null] [.int 0] M1 Q := by
          intro hn M1 f1
          rw [hn] at hq
          refine mx_go 100 zq_t167 ?_
          show (¬ (0 : Int32) = 0 → (((bI w) : Int32) = 0 → mx g (d + 4) kX12_takesE 164 [.ref 48, .null, .null, .null, .null, .null, .null, .int (0)] [.int ((bI iw))] M1 Q) ∧ (¬ ((bI w) : Int32) = 0 → (¬ ((bI (decide (tkS t z i = -9))) : Int32) = 0 → mx g (d + 4) kX12_takesE 164 [.ref 48, .null, .null, .null, .null, .null, .null, .int (0)] [.int (1)] M1 Q) ∧ (((bI (decide (tkS t z i = -9))) : Int32) = 0 → (((bI (decide (tkS t z i = -16))) : Int32) = 0 → mx g (d + 4) kX12_takesE 164 [.ref 48, .null, .null, .null, .null, .null, .null, .int (0)] [.int (0)] M1 Q) ∧ (¬ ((bI (decide (tkS t z i = -16))) : Int32) = 0 → mx g (d + 4) kX12_takesE 164 [.ref 48, .null, .null, .null, .null, .null, .null, .int (0)] [.int (1)] M1 Q)))) ∧ ((0 : Int32) = 0 → zq_b 0 ∧ Q (some (.int 0)) M1)
          exact ⟨fun y => absurd rfl y, fun _ => ⟨Or.inl rfl, hq M1 (fE_z f1) (lkI_z hl f1) (fun y => abF y)⟩⟩
        refine ⟨fun y => ?_, fun y => ?_⟩
        · rw [bI_eq] at y
          subst y
          refine c_takesSign hl hs hf (by omega) (fun hn M1 f1 => ?_) (fun s' hn M1 f1 s1 => ?_)
          · exact bad hn M1 f1
          · exact c131 s' iw M1 hn hiw f1 s1
        · rw [bI_ne] at y
          subst y
          refine c_takesOne hl hs hf (by omega) (fun hn => ?_) (fun s' hn M1 f1 s1 => ?_)
          · exact bad hn M fr_rfl
          · exact c131 s' iw M1 hn hiw f1 s1
      have c98 : ∀ ip : Bool, ip = decide (tkS t z i = -16) → mx g (d + 4) kX12_takesE 98 [.ref 48, .null, .int (bI w), .int (bI mn), .int (bI (decide (tkS t z i = -9))), .null, .null, .null] [.int (bI ip)] M Q := by
        intro ip hip
        refine mx_go 100 zq_t167 ?_
        show (¬ ((M 48 15) : Int32) = (2 : Int32) → mx g (d + 4) kX12_takesE 113 [.ref 48, .null, .int ((bI w)), .int ((bI mn)), .int ((bI (decide (tkS t z i = -9)))), .int ((bI ip)), .null, .null] [.int (0)] M Q) ∧ (((M 48 15) : Int32) = (2 : Int32) → mx g (d + 4) kX12_takesE 113 [.ref 48, .null, .int ((bI w)), .int ((bI mn)), .int ((bI (decide (tkS t z i = -9)))), .int ((bI ip)), .null, .null] [.int (1)] M Q)
        rw [hip]
        exact ⟨fun y => c113 false (decide_eq_false (fun v => y (t2.mpr v))).symm, fun y => c113 true (decide_eq_true (t2.mp y)).symm⟩
      refine mx_go 100 zq_t167 ?_
      show mx g (d + 3) kX12_isWord 0 [.ref 48, .int (14836)] [] M _
      refine c_X12_isWord (c := -9) hl (by decide) (by omega) (by unfold okT at hT; omega) (fun e => ?_) (fun e => ?_)
      · rw [decide_eq_true e] at c98
        show (¬ ((M 48 15) : Int32) = (40 : Int32) → mx g (d + 4) kX12_takesE 98 [.ref 48, .null, .int ((bI w)), .int ((bI mn)), .int (1), .null, .null, .null] [.int (0)] M Q) ∧ (((M 48 15) : Int32) = (40 : Int32) → mx g (d + 4) kX12_takesE 98 [.ref 48, .null, .int ((bI w)), .int ((bI mn)), .int (1), .null, .null, .null] [.int (1)] M Q)
        exact ⟨fun y => c98 false (decide_eq_false (fun v => y (t40.mpr v))).symm, fun y => c98 true (decide_eq_true (t40.mp y)).symm⟩
      · rw [decide_eq_false e] at c98
        show (¬ ((M 48 15) : Int32) = (40 : Int32) → mx g (d + 4) kX12_takesE 98 [.ref 48, .null, .int ((bI w)), .int ((bI mn)), .int (0), .null, .null, .null] [.int (0)] M Q) ∧ (((M 48 15) : Int32) = (40 : Int32) → mx g (d + 4) kX12_takesE 98 [.ref 48, .null, .int ((bI w)), .int ((bI mn)), .int (0), .null, .null, .null] [.int (1)] M Q)
        exact ⟨fun y => c98 false (decide_eq_false (fun v => y (t40.mpr v))).symm, fun y => c98 true (decide_eq_true (t40.mp y)).symm⟩
    refine mx_go 100 zq_t167 ?_
    show (¬ ((bI w) : Int32) = 0 → mx g (d + 4) kX12_takesE 75 [.ref 48, .null, .int ((bI w)), .int ((bI mn)), .null, .null, .null, .null] [] M Q) ∧ (((bI w) : Int32) = 0 → (((M 48 15) : Int32) = (41 : Int32) → mx g (d + 4) kX12_takesE 75 [.ref 48, .null, .int ((bI w)), .int ((bI mn)), .null, .null, .null, .null] [] M Q) ∧ (¬ ((M 48 15) : Int32) = (41 : Int32) → (((M 48 15) : Int32) = (59 : Int32) → mx g (d + 3) kX12_settle 0 [.ref 48, .int (1), .null] [] M _) ∧ (¬ ((M 48 15) : Int32) = (59 : Int32) → (0 ≤ ((M 48 15) : Int32) → mx g (d + 4) kX12_takesE 75 [.ref 48, .null, .int ((bI w)), .int ((bI mn)), .null, .null, .null, .null] [] M Q) ∧ (¬ 0 ≤ ((M 48 15) : Int32) → mx g (d + 3) kX12_settle 0 [.ref 48, .int (1), .null] [] M _))))
    refine ⟨fun a => c75 (fun y => ?_), fun a => ⟨fun b => c75 (fun y => ?_), fun b => ⟨fun c => ?_, fun c => ⟨fun e => c75 (fun y => ?_), fun e => ?_⟩⟩⟩⟩
    · rw [bI_ne] at a
      rw [a] at y
      exact abT y.1
    · rw [n_eq, l2, show (41 : Int32).toInt = 41 from rfl, t41] at b
      omega
    · rw [n_eq, l2, show (59 : Int32).toInt = 59 from rfl, t59] at c
      rw [bI_eq] at a
      rw [if_pos ⟨a, Or.inl c⟩] at hq
      refine c_X12_settle (kk := 1) (fm := fm) rfl (by omega) hf q.1 q.2.1 q.2.2 M hs (by omega) (fun M1 f1 s1 => ?_)
      show (¬ ((M1 48 19) : Int32) = 0 → zq_b 0 ∧ Q (some (.int 0)) M1) ∧ (((M1 48 19) : Int32) = 0 → (¬ ((M1 48 15) : Int32) = (59 : Int32) → zq_b 0 ∧ Q (some (.int 0)) M1) ∧ (((M1 48 15) : Int32) = (59 : Int32) → zq_b 1 ∧ Q (some (.int 1)) M1))
      have g3 := s1.2.2.1
      have e15 : M1 48 15 = M 48 15 := f1 48 15 rfl
      have fE1 : fr (fE fm) M M1 := fE_z f1
      have lk1 : lkI M1 t z i := lkI_z hl f1
      refine ⟨fun y => ⟨Or.inl rfl, ?_⟩, fun y => ⟨fun v => ⟨Or.inl rfl, ?_⟩, fun v => ⟨Or.inr rfl, ?_⟩⟩⟩
      · rw [decide_eq_false (fun u => y ((n_eq _ _).mpr (by rw [g3, u.2, n_0]; rfl)))] at hq
        exact hq M1 fE1 lk1 (fun u => abF u)
      · rw [decide_eq_false (fun u => v ((n_eq _ _).mpr (by rw [e15, l2, u.1]; rfl)))] at hq
        exact hq M1 fE1 lk1 (fun u => abF u)
      · rw [n_eq, g3, n_0] at y
        rw [n_eq, e15, l2, show (59 : Int32).toInt = 59 from rfl, t59] at v
        rw [decide_eq_true ⟨v, List.eq_nil_of_length_eq_zero (by show (stl 1 q.1 q.2.1 q.2.2).1.length = 0; omega)⟩] at hq
        exact hq M1 fE1 lk1 (fun _ => ⟨s1.2.2.2.2.1, s1.2.2.2.2.2⟩)
    · rw [n_eq, l2, show (59 : Int32).toInt = 59 from rfl, t59] at c
      rw [n_le, n_0, l2] at e
      rcases y.2 with v | v
      · exact c v
      · have := tng.mpr v
        omega
    · rw [n_le, n_0, l2] at e
      rw [bI_eq] at a
      have := tng.mp (by omega)
      rw [if_pos ⟨a, Or.inr this⟩] at hq
      refine c_X12_settle (kk := 1) (fm := fm) rfl (by omega) hf q.1 q.2.1 q.2.2 M hs (by omega) (fun M1 f1 s1 => ?_)
      show (¬ ((M1 48 19) : Int32) = 0 → zq_b 0 ∧ Q (some (.int 0)) M1) ∧ (((M1 48 19) : Int32) = 0 → (¬ ((M1 48 15) : Int32) = (59 : Int32) → zq_b 0 ∧ Q (some (.int 0)) M1) ∧ (((M1 48 15) : Int32) = (59 : Int32) → zq_b 1 ∧ Q (some (.int 1)) M1))
      have g3 := s1.2.2.1
      have e15 : M1 48 15 = M 48 15 := f1 48 15 rfl
      have fE1 : fr (fE fm) M M1 := fE_z f1
      have lk1 : lkI M1 t z i := lkI_z hl f1
      refine ⟨fun y => ⟨Or.inl rfl, ?_⟩, fun y => ⟨fun v => ⟨Or.inl rfl, ?_⟩, fun v => ⟨Or.inr rfl, ?_⟩⟩⟩
      · rw [decide_eq_false (fun u => y ((n_eq _ _).mpr (by rw [g3, u.2, n_0]; rfl)))] at hq
        exact hq M1 fE1 lk1 (fun u => abF u)
      · rw [decide_eq_false (fun u => v ((n_eq _ _).mpr (by rw [e15, l2, u.1]; rfl)))] at hq
        exact hq M1 fE1 lk1 (fun u => abF u)
      · rw [n_eq, g3, n_0] at y
        rw [n_eq, e15, l2, show (59 : Int32).toInt = 59 from rfl, t59] at v
        rw [decide_eq_true ⟨v, List.eq_nil_of_length_eq_zero (by show (stl 1 q.1 q.2.1 q.2.2).1.length = 0; omega)⟩] at hq
        exact hq M1 fE1 lk1 (fun _ => ⟨s1.2.2.2.2.1, s1.2.2.2.2.2⟩)

