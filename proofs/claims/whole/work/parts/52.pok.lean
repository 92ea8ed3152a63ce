/-! what is read: its places, its steps on a stack -/
theorem lp_bd {tk : Nat → Int} {m lv : Nat} {r : Nat → Rs} (hE : ∀ j, m ≤ j → tk j = -22) (hr : ∀ n, n ≤ m → (r n).2.1 ≤ m ∧ n ≤ (r n).2.1 ∧ ((r n).1 = true → n + (r n).2.2.length ≤ (r n).2.1)) : ∀ k n : Nat, n ≤ m → (lp tk lv r k n).2.1 ≤ m ∧ n ≤ (lp tk lv r k n).2.1 ∧ ((lp tk lv r k n).1 = true → n + (lp tk lv r k n).2.2.length ≤ (lp tk lv r k n).2.1)
  | 0, n, h => ⟨h, Nat.le_refl _, fun _ => Nat.le_refl _⟩
  | k + 1, n, h => by
    unfold lp
    by_cases hl : lvl (tk n) = (lv : Int)
    · rw [if_pos hl]
      have hn : n < m := by
        by_cases c : m ≤ n
        · rw [hE n c] at hl
          rcases lvl_cases hl with z | z | z | z | z <;> omega
        · omega
      have q := hr (n + 1) (by omega)
      unfold sqR
      cases e : (r (n + 1)).1 with
      | false =>
        rw [if_neg (by decide)]
        exact ⟨q.1, by have := q.2.1; show n ≤ (r (n + 1)).2.1; omega, fun z => abF z⟩
      | true =>
        rw [if_pos rfl]
        have p := lp_bd (lv := lv) hE hr k (r (n + 1)).2.1 q.1
        have q3 := q.2.2 e
        refine ⟨p.1, by have := q.2.1; have := p.2.1; show n ≤ (lp tk lv r k (r (n + 1)).2.1).2.1; omega, fun z => ?_⟩
        have p3 := p.2.2 z
        show n + ((r (n + 1)).2.2 ++ tk n :: (lp tk lv r k (r (n + 1)).2.1).2.2).length ≤ (lp tk lv r k (r (n + 1)).2.1).2.1
        rw [List.length_append, List.length_cons]
        omega
    · rw [if_neg hl]
      exact ⟨h, Nat.le_refl _, fun _ => Nat.le_refl _⟩
theorem rd_bd {tk : Nat → Int} {m : Nat} (hE : ∀ j, m ≤ j → tk j = -22) : ∀ f lv o n : Nat, n ≤ m → (rd tk f lv o n).2.1 ≤ m ∧ n ≤ (rd tk f lv o n).2.1 ∧ ((rd tk f lv o n).1 = true → n + (rd tk f lv o n).2.2.length ≤ (rd tk f lv o n).2.1)
  | 0, lv, o, n, h => ⟨h, Nat.le_refl _, fun z => abF z⟩
  | f + 1, lv, o, n, h => by
    have lt : tk n ≠ -22 → n < m := fun z => by
      by_cases c : m ≤ n
      · exact absurd (hE n c) z
      · omega
    have un : ∀ (s : Int) (r : Rs), n < m → (r.2.1 ≤ m ∧ n + 1 ≤ r.2.1 ∧ (r.1 = true → n + 1 + r.2.2.length ≤ r.2.1)) → (unR s r).2.1 ≤ m ∧ n ≤ (unR s r).2.1 ∧ ((unR s r).1 = true → n + (unR s r).2.2.length ≤ (unR s r).2.1) := by
      intro s r _ q
      unfold unR
      cases e : r.1 with
      | false =>
        rw [if_neg (by decide)]
        exact ⟨q.1, by have := q.2.1; show n ≤ r.2.1; omega, fun z => abF z⟩
      | true =>
        rw [if_pos rfl]
        have := q.2.2 e
        refine ⟨q.1, by have := q.2.1; show n ≤ r.2.1; omega, fun _ => ?_⟩
        show n + (r.2.2 ++ [s]).length ≤ r.2.1
        rw [List.length_append, List.length_singleton]
        omega
    unfold rd
    by_cases h5 : 5 ≤ lv
    · rw [if_pos h5]
      by_cases c1 : -6 ≤ tk n
      · rw [if_pos c1]
        have := lt (by omega)
        exact ⟨by show n + 1 ≤ m; omega, by show n ≤ n + 1; omega, fun _ => by show n + 1 ≤ n + 1; omega⟩
      rw [if_neg c1]
      by_cases c2 : tk n = -13
      · rw [if_pos c2]
        have := lt (by omega)
        by_cases c3 : 5 ≤ o
        · rw [if_pos c3]
          exact ⟨h, Nat.le_refl _, fun z => abF z⟩
        · rw [if_neg c3]
          exact un _ _ this (rd_bd hE f 5 (o + 1) (n + 1) (by omega))
      rw [if_neg c2]
      by_cases c4 : tk n = -16
      · rw [if_pos c4]
        have l1 := lt (by omega)
        by_cases c3 : 5 ≤ o
        · rw [if_pos c3]
          exact ⟨h, Nat.le_refl _, fun z => abF z⟩
        · rw [if_neg c3]
          have q := rd_bd hE f 0 (o + 1) (n + 1) (by omega)
          generalize rd tk f 0 (o + 1) (n + 1) = r at q
          unfold paR
          cases e : r.1 with
          | false =>
            rw [if_neg (by decide)]
            exact ⟨q.1, by have := q.2.1; show n ≤ r.2.1; omega, fun z => abF z⟩
          | true =>
            rw [if_pos rfl]
            have q2 := q.2.1
            have q3 := q.2.2 e
            by_cases c5 : tk r.2.1 = -17
            · rw [if_pos c5]
              have : r.2.1 < m := by
                by_cases c : m ≤ r.2.1
                · rw [hE _ c] at c5; omega
                · omega
              exact ⟨by show r.2.1 + 1 ≤ m; omega, by show n ≤ r.2.1 + 1; omega, fun _ => by show n + r.2.2.length ≤ r.2.1 + 1; omega⟩
            · rw [if_neg c5]
              exact ⟨q.1, by show n ≤ r.2.1; omega, fun z => abF z⟩
      rw [if_neg c4]
      exact ⟨h, Nat.le_refl _, fun z => abF z⟩
    · rw [if_neg h5]
      by_cases cn : lv = 2 ∧ tk n = -9
      · rw [if_pos cn]
        have := lt (by omega)
        by_cases c3 : 5 ≤ o
        · rw [if_pos c3]
          exact ⟨h, Nat.le_refl _, fun z => abF z⟩
        · rw [if_neg c3]
          exact un _ _ this (rd_bd hE f 2 (o + 1) (n + 1) (by omega))
      · rw [if_neg cn]
        have q := rd_bd hE f (lv + 1) o n h
        unfold sqR
        cases e : (rd tk f (lv + 1) o n).1 with
        | false =>
          rw [if_neg (by decide)]
          exact ⟨q.1, q.2.1, fun z => abF z⟩
        | true =>
          rw [if_pos rfl]
          have p := lp_bd (lv := lv) hE (fun n hn => rd_bd hE f (lv + 1) o n hn) (if lv = 2 then 1 else 160) (rd tk f (lv + 1) o n).2.1 q.1
          have q3 := q.2.2 e
          refine ⟨p.1, Nat.le_trans q.2.1 p.2.1, fun z => ?_⟩
          have p3 := p.2.2 z
          show n + ((rd tk f (lv + 1) o n).2.2 ++ (lp tk lv (fun j => rd tk f (lv + 1) o j) (if lv = 2 then 1 else 160) (rd tk f (lv + 1) o n).2.1).2.2).length ≤ (lp tk lv (fun j => rd tk f (lv + 1) o j) (if lv = 2 then 1 else 160) (rd tk f (lv + 1) o n).2.1).2.1
          rw [List.length_append]
          omega
theorem pok_num {d : Nat} {s : Int} {r : List Int} (h : -6 ≤ s) (hd : d < 40) : pok d (s :: r) = pok (d + 1) r := by
  show (if -6 ≤ s then decide (d < 40) && pok (d + 1) r else _) = _
  rw [if_pos h, decide_eq_true hd, Bool.true_and]
theorem pok_un {d : Nat} {s : Int} {r : List Int} (h : s = -9 ∨ s = -15) : pok (d + 1) (s :: r) = pok (d + 1) r := by
  show (if -6 ≤ s then _ else if s = -9 ∨ s = -15 then decide (1 ≤ d + 1) && pok (d + 1) r else _) = _
  rw [if_neg (by omega), if_pos h, decide_eq_true (by omega), Bool.true_and]
theorem pok_bin {d : Nat} {s : Int} {r : List Int} {lv : Nat} (h : lvl s = (lv : Int)) : pok (d + 1 + 1) (s :: r) = pok (d + 1) r := by
  have : ¬ -6 ≤ s ∧ ¬ (s = -9 ∨ s = -15) := by rcases lvl_cases h with z | z | z | z | z <;> omega
  show (if -6 ≤ s then _ else if s = -9 ∨ s = -15 then _ else decide (2 ≤ d + 1 + 1) && pok (d + 1 + 1 - 1) r) = _
  rw [if_neg this.1, if_neg this.2, decide_eq_true (by omega), Bool.true_and]
  rfl
theorem lp_pok {tk : Nat → Int} {lv d : Nat} {r : Nat → Rs} (hr : ∀ n, (r n).1 = true → ∀ q, pok (d + 1) ((r n).2.2 ++ q) = pok (d + 1 + 1) q) : ∀ k n : Nat, (lp tk lv r k n).1 = true → ∀ q, pok (d + 1) ((lp tk lv r k n).2.2 ++ q) = pok (d + 1) q
  | 0, n, _, q => rfl
  | k + 1, n, h, q => by
    unfold lp at h ⊢
    by_cases hl : lvl (tk n) = (lv : Int)
    · rw [if_pos hl] at h ⊢
      unfold sqR at h ⊢
      cases e : (r (n + 1)).1 with
      | false => rw [e, if_neg (by decide)] at h; exact abF h
      | true =>
        rw [e, if_pos rfl] at h
        rw [if_pos rfl]
        show pok (d + 1) (((r (n + 1)).2.2 ++ tk n :: (lp tk lv r k (r (n + 1)).2.1).2.2) ++ q) = _
        rw [List.append_assoc, hr (n + 1) e, List.cons_append, pok_bin hl]
        exact lp_pok hr k _ h q
    · rw [if_neg hl]
      rfl
theorem rd_pok {tk : Nat → Int} : ∀ (f lv o n d : Nat), lv ≤ 5 → o ≤ 5 → d + (6 - lv) + 5 * (5 - o) ≤ 40 → (rd tk f lv o n).1 = true → ∀ q, pok d ((rd tk f lv o n).2.2 ++ q) = pok (d + 1) q
  | 0, lv, o, n, d, _, _, _, h, q => abF h
  | f + 1, lv, o, n, d, hlv, ho, hd, h, q => by
    have un : ∀ (s : Int) (r : Rs), (s = -9 ∨ s = -15) → (r.1 = true → ∀ q, pok d (r.2.2 ++ q) = pok (d + 1) q) → (unR s r).1 = true → pok d ((unR s r).2.2 ++ q) = pok (d + 1) q := by
      intro s r hs hr h
      unfold unR at h ⊢
      cases e : r.1 with
      | false => rw [e, if_neg (by decide)] at h; exact abF h
      | true =>
        rw [if_pos rfl]
        show pok d ((r.2.2 ++ [s]) ++ q) = _
        rw [List.append_assoc, hr e]
        exact pok_un hs
    unfold rd at h ⊢
    by_cases h5 : 5 ≤ lv
    · rw [if_pos h5] at h ⊢
      by_cases c1 : -6 ≤ tk n
      · rw [if_pos c1]
        exact pok_num c1 (by omega)
      rw [if_neg c1] at h ⊢
      by_cases c2 : tk n = -13
      · rw [if_pos c2] at h ⊢
        by_cases c3 : 5 ≤ o
        · rw [if_pos c3] at h; exact abF h
        · rw [if_neg c3] at h ⊢
          exact un _ _ (Or.inr rfl) (rd_pok f 5 (o + 1) (n + 1) d (by omega) (by omega) (by omega)) h
      rw [if_neg c2] at h ⊢
      by_cases c4 : tk n = -16
      · rw [if_pos c4] at h ⊢
        by_cases c3 : 5 ≤ o
        · rw [if_pos c3] at h; exact abF h
        · rw [if_neg c3] at h ⊢
          have hr := rd_pok (tk := tk) f 0 (o + 1) (n + 1) d (by omega) (by omega) (by omega)
          generalize rd tk f 0 (o + 1) (n + 1) = r at h hr
          unfold paR at h ⊢
          cases e : r.1 with
          | false => rw [e, if_neg (by decide)] at h; exact abF h
          | true =>
            rw [e, if_pos rfl] at h
            rw [if_pos rfl]
            by_cases c5 : tk r.2.1 = -17
            · rw [if_pos c5]
              exact hr e q
            · rw [if_neg c5] at h; exact abF h
      rw [if_neg c4] at h
      exact abF h
    · rw [if_neg h5] at h ⊢
      by_cases cn : lv = 2 ∧ tk n = -9
      · rw [if_pos cn] at h ⊢
        by_cases c3 : 5 ≤ o
        · rw [if_pos c3] at h; exact abF h
        · rw [if_neg c3] at h ⊢
          exact un _ _ (Or.inl rfl) (rd_pok f 2 (o + 1) (n + 1) d (by omega) (by omega) (by omega)) h
      · rw [if_neg cn] at h ⊢
        unfold sqR at h ⊢
        cases e : (rd tk f (lv + 1) o n).1 with
        | false => rw [e, if_neg (by decide)] at h; exact abF h
        | true =>
          rw [e, if_pos rfl] at h
          rw [if_pos rfl]
          show pok d (((rd tk f (lv + 1) o n).2.2 ++ (lp tk lv (fun j => rd tk f (lv + 1) o j) (if lv = 2 then 1 else 160) (rd tk f (lv + 1) o n).2.1).2.2) ++ q) = _
          rw [List.append_assoc, rd_pok f (lv + 1) o n d (by omega) ho (by omega) e]
          exact lp_pok (fun j hj => rd_pok f (lv + 1) o j (d + 1) (by omega) ho (by omega) hj) _ _ h q
