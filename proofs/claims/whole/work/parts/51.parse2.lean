def EC (tk : Nat → Int) (f lv o n : Nat) (mn : Bool) (st out : List Int) : Prop := ((rd tk f lv o n).1 = false → fails tk (true, mn, st, o, out) n (rd tk f lv o n).2.1) ∧ ((rd tk f lv o n).1 = true → okP tk lv st o out (rd tk f lv o n).2.2 (true, mn, st, o, out) n (rd tk f lv o n).2.1)
theorem LPc {tk : Nat → Int} {lv o f : Nat} {st out : List Int} (hb : ∀ j, 160 ≤ j → lvl (tk j) = -1) (hlv : lv < 5) (hc : tops st < ctxS lv) (IH : ∀ (n : Nat) (mn : Bool) (st' out' : List Int), (lv + 1 ≤ 2 → mn = true) → (3 ≤ lv + 1 → tk n = -9 → mn = false) → tops st' < ctxS (lv + 1) → EC tk f (lv + 1) o n mn st' out') : ∀ (m n : Nat) (pend out0 c : List Int) (s0 : SS) (n0 : Nat), goes tk s0 n0 (false, false, pend ++ st, o + cnt pend, out0) n → out0 ++ pend = out ++ c → (∀ x ∈ pend, mins lv ≤ sth x) → (0 < m → ∀ x ∈ pend, kp lv ≤ sth x) → Np (lv + 1) pend (tk n) → (lv = 2 → m ≤ 1) → (lv = 2 → m = 0 → tops (dw pend) = 4) → (lv ≠ 2 → 160 ≤ n + m) → ((lp tk lv (fun j => rd tk f (lv + 1) o j) m n).1 = false → fails tk s0 n0 (lp tk lv (fun j => rd tk f (lv + 1) o j) m n).2.1) ∧ ((lp tk lv (fun j => rd tk f (lv + 1) o j) m n).1 = true → ∃ pend' out' : List Int, goes tk s0 n0 (false, false, pend' ++ st, o + cnt pend', out') (lp tk lv (fun j => rd tk f (lv + 1) o j) m n).2.1 ∧ out' ++ pend' = out ++ c ++ (lp tk lv (fun j => rd tk f (lv + 1) o j) m n).2.2 ∧ (∀ x ∈ pend', mins lv ≤ sth x) ∧ Np lv pend' (tk (lp tk lv (fun j => rd tk f (lv + 1) o j) m n).2.1))
  | 0, n, pend, out0, c, s0, n0, hg, ho, hm, hk, hN, h2, h3, h4 => by
    refine ⟨fun z => abT z, fun _ => ⟨pend, out0, hg, by unfold lp; rw [List.append_nil]; exact ho, hm, ?_⟩⟩
    show Np lv pend (tk n)
    by_cases e : lv = 2
    · rcases hN with h | h
      · by_cases e2 : lvl (tk n) = 2
        · exact Or.inr ⟨by omega, e2, h3 e rfl⟩
        · exact Or.inl (by omega)
      · omega
    · have := hb n (by have := h4 e; omega)
      exact Or.inl (by omega)
  | m + 1, n, pend, out0, c, s0, n0, hg, ho, hm, hk, hN, h2, h3, h4 => by
    unfold lp
    by_cases hl : lvl (tk n) = (lv : Int)
    · rw [if_pos hl]
      obtain ⟨g1, g2, g3, g4, _, g5⟩ := sgn_go (o := o) (out0 := out0) hl (hk (by omega)) hc
      have ih := IH (n + 1) (decide (lv ≤ 1)) (tk n :: st) (out0 ++ pend) (fun z => decide_eq_true (by omega)) (fun z _ => decide_eq_false (by omega)) g5
      unfold EC at ih
      unfold sqR
      cases hr : (rd tk f (lv + 1) o (n + 1)).1 with
      | false =>
        rw [if_neg (by decide)]
        exact ⟨fun _ => goes_fl hg (goes_fl g1 (ih.1 hr)), fun z => abF z⟩
      | true =>
        rw [if_pos rfl]
        have ok := ih.2 hr
        have le1 : n + 1 ≤ (rd tk f (lv + 1) o (n + 1)).2.1 := by
          unfold okP at ok
          split at ok
          · exact ok.1
          · obtain ⟨_, _, q, _⟩ := ok
            exact q.1
        have key : ∃ pend1 out1 : List Int, goes tk s0 n0 (false, false, (pend1 ++ [tk n]) ++ st, o + cnt (pend1 ++ [tk n]), out1) (rd tk f (lv + 1) o (n + 1)).2.1 ∧ out1 ++ (pend1 ++ [tk n]) = out ++ (c ++ ((rd tk f (lv + 1) o (n + 1)).2.2 ++ [tk n])) ∧ (∀ x ∈ pend1, mins (lv + 1) ≤ sth x) ∧ Np (lv + 1) (pend1 ++ [tk n]) (tk (rd tk f (lv + 1) o (n + 1)).2.1) := by
          unfold okP at ok
          by_cases e5 : lv + 1 = 5
          · rw [if_pos e5] at ok
            have h14 : tk n = -14 := by rcases lvl_cases hl with h | h | h | h | h <;> omega
            rw [stl_stop (by show sth (tk n) < 7; rw [h14]; decide)] at ok
            refine ⟨[], out0 ++ pend ++ (rd tk f (lv + 1) o (n + 1)).2.2, ?_, ?_, fun x hx => absurd hx (List.not_mem_nil), Or.inl ?_⟩
            · rw [List.nil_append, show cnt [tk n] = 0 by show ct (tk n) + 0 = 0; omega]
              exact goes_tr hg (goes_tr g1 ok)
            · rw [List.nil_append, ho, List.append_assoc, List.append_assoc]
            · have := lvl_cases (t := tk (rd tk f (lv + 1) o (n + 1)).2.1) (lv := 5)
              unfold lvl
              repeat' split
              all_goals omega
          · rw [if_neg e5] at ok
            obtain ⟨pend1, out1, q1, q2, q3, q4⟩ := ok
            refine ⟨pend1, out1, ?_, ?_, q3, ?_⟩
            · rw [cnt_app, show cnt [tk n] = 0 by show ct (tk n) + 0 = 0; omega, List.append_assoc]
              exact goes_tr hg (goes_tr g1 q1)
            · rw [← List.append_assoc, q2, ho]
              rw [List.append_assoc, List.append_assoc]
            · rcases q4 with q | q
              · exact Or.inl q
              · exact Or.inr ⟨q.1, q.2.1, dw_app q.2.2⟩
        obtain ⟨pend1, out1, q1, q2, q3, q4⟩ := key
        have mm : mins lv ≤ mins (lv + 1) := by
          rcases (show lv = 0 ∨ lv = 1 ∨ lv = 2 ∨ lv = 3 ∨ lv = 4 by omega) with e | e | e | e | e <;> rw [e] <;> decide
        have q5 : ∀ x ∈ pend1 ++ [tk n], mins lv ≤ sth x := by
          intro x hx
          rcases List.mem_append.mp hx with h | h
          · exact Nat.le_trans mm (q3 x h)
          · rw [List.mem_singleton.mp h]; exact g3
        have res := LPc hb hlv hc IH m (rd tk f (lv + 1) o (n + 1)).2.1 (pend1 ++ [tk n]) out1 (c ++ ((rd tk f (lv + 1) o (n + 1)).2.2 ++ [tk n])) s0 n0 q1 q2 q5 (fun hm0 x hx => ?_) q4 (fun e => by have := h2 e; omega) (fun e em => ?_) (fun e => by have := h4 e; omega)
        · refine ⟨fun z => res.1 z, fun z => ?_⟩
          obtain ⟨pend', out', r1, r2, r3, r4⟩ := res.2 z
          refine ⟨pend', out', r1, ?_, r3, r4⟩
          rw [r2]
          show _ = out ++ c ++ ((rd tk f (lv + 1) o (n + 1)).2.2 ++ tk n :: (lp tk lv (fun j => rd tk f (lv + 1) o j) m (rd tk f (lv + 1) o (n + 1)).2.1).2.2)
          simp only [List.append_assoc, List.cons_append, List.nil_append]
        · have ne : lv ≠ 2 := fun e => by have := h2 e; omega
          have : kp lv = mins lv := by
            rcases (show lv = 0 ∨ lv = 1 ∨ lv = 3 ∨ lv = 4 by omega) with e | e | e | e <;> rw [e] <;> decide
          rw [this]
          exact q5 x hx
        · rw [dw_hi (fun x hx => by have := q3 x hx; rw [e] at this; exact this)]
          rcases lvl_cases hl with h | h | ⟨_, h | h⟩ | h | h
          · omega
          · omega
          · rw [h]; decide
          · rw [h]; decide
          · omega
          · omega
    · rw [if_neg hl]
      refine ⟨fun z => abT z, fun _ => ⟨pend, out0, hg, by rw [List.append_nil]; exact ho, hm, ?_⟩⟩
      show Np lv pend (tk n)
      rcases hN with h | h
      · exact Or.inl (by omega)
      · exact Or.inr ⟨by omega, h.2.1, h.2.2⟩
theorem E_main {tk : Nat → Int} (hb : ∀ j, 160 ≤ j → lvl (tk j) = -1) : ∀ (f lv o n : Nat) (mn : Bool) (st out : List Int), 8 * (5 - o) + (5 - lv) < f → lv ≤ 5 → o ≤ 5 → (lv ≤ 2 → mn = true) → (3 ≤ lv → tk n = -9 → mn = false) → tops st < ctxS lv → EC tk f lv o n mn st out
  | 0, lv, o, n, mn, st, out, h, _, _, _, _, _ => absurd h (by omega)
  | f + 1, lv, o, n, mn, st, out, hf, hlv, ho, hm1, hm2, hc => by
    unfold EC rd
    have notacc : ¬ ((true, mn, st, o, out) : SS).1 = false := fun z => abT z
    by_cases h5 : 5 ≤ lv
    · obtain rfl : lv = 5 := by omega
      rw [if_pos h5]
      by_cases c1 : -6 ≤ tk n
      · rw [if_pos c1]
        refine ⟨fun z => abT z, fun _ => ?_⟩
        unfold okP
        rw [if_pos rfl]
        refine goes_1 (fun z => notacc z.1) ?_
        show one mn (st, o, out) (tk n) = _
        unfold one
        rw [if_pos c1]
      rw [if_neg c1]
      by_cases c2 : tk n = -13
      · rw [if_pos c2]
        by_cases c3 : 5 ≤ o
        · rw [if_pos c3]
          refine ⟨fun _ => fails_1 (fun z => notacc z.1) ?_, fun z => abF z⟩
          show one mn (st, o, out) (tk n) = _
          unfold one
          rw [if_neg c1, if_pos c2, if_pos (show o = 5 by omega)]
        · rw [if_neg c3]
          have g1 : goes tk (true, mn, st, o, out) n (true, false, -15 :: st, o + 1, out) (n + 1) := by
            refine goes_1 (fun z => notacc z.1) ?_
            show one mn (st, o, out) (tk n) = _
            unfold one
            rw [if_neg c1, if_pos c2, if_neg (show ¬ o = 5 by omega)]
          have ih := E_main hb f 5 (o + 1) (n + 1) false (-15 :: st) out (by omega) (by omega) (by omega) (fun z => by omega) (fun _ _ => rfl) (tops_lt _)
          unfold EC at ih
          unfold unR
          cases hr : (rd tk f 5 (o + 1) (n + 1)).1 with
          | false =>
            rw [if_neg (by decide)]
            exact ⟨fun _ => goes_fl g1 (ih.1 hr), fun z => abF z⟩
          | true =>
            rw [if_pos rfl]
            refine ⟨fun z => abT z, fun _ => ?_⟩
            have ok := ih.2 hr
            unfold okP at ok ⊢
            rw [if_pos rfl] at ok ⊢
            have e : stl 7 (-15 :: st) (o + 1) (out ++ (rd tk f 5 (o + 1) (n + 1)).2.2) = stl 7 st o (out ++ ((rd tk f 5 (o + 1) (n + 1)).2.2 ++ [-15])) := by
              show (if 7 ≤ sth (-15) then stl 7 st (o + 1 - ct (-15)) (out ++ (rd tk f 5 (o + 1) (n + 1)).2.2 ++ [-15]) else _) = _
              rw [if_pos (by decide), show o + 1 - ct (-15) = o from rfl, List.append_assoc]
            rw [e] at ok
            exact goes_tr g1 ok
      rw [if_neg c2]
      by_cases c4 : tk n = -16
      · rw [if_pos c4]
        by_cases c3 : 5 ≤ o
        · rw [if_pos c3]
          refine ⟨fun _ => fails_1 (fun z => notacc z.1) ?_, fun z => abF z⟩
          show one mn (st, o, out) (tk n) = _
          unfold one
          rw [if_neg c1, if_neg c2, if_pos c4, if_pos (show o = 5 by omega)]
        · rw [if_neg c3]
          have g1 : goes tk (true, mn, st, o, out) n (true, true, -16 :: st, o + 1, out) (n + 1) := by
            refine goes_1 (fun z => notacc z.1) ?_
            show one mn (st, o, out) (tk n) = _
            unfold one
            rw [if_neg c1, if_neg c2, if_pos c4, if_neg (show ¬ o = 5 by omega)]
          have ih := E_main hb f 0 (o + 1) (n + 1) true (-16 :: st) out (by omega) (by omega) (by omega) (fun _ => rfl) (fun z => by omega) (by show sth (-16) < 1; decide)
          unfold EC at ih
          unfold paR
          cases hr : (rd tk f 0 (o + 1) (n + 1)).1 with
          | false =>
            rw [if_neg (by decide)]
            exact ⟨fun _ => goes_fl g1 (ih.1 hr), fun z => abF z⟩
          | true =>
            rw [if_pos rfl]
            have ok := ih.2 hr
            unfold okP at ok
            rw [if_neg (by decide)] at ok
            obtain ⟨pend, out0, q1, q2, q3, q4⟩ := ok
            generalize (rd tk f 0 (o + 1) (n + 1)).2.1 = n' at q1 q4 ⊢
            generalize (rd tk f 0 (o + 1) (n + 1)).2.2 = cc at q2 ⊢
            have g2 := goes_tr g1 q1
            by_cases c5 : tk n' = -17
            · rw [if_pos c5]
              refine ⟨fun z => abT z, fun _ => ?_⟩
              unfold okP
              rw [if_pos rfl]
              refine goes_tr g2 (goes_1 (fun z => by have := z.2; omega) ?_)
              show sgn (pend ++ -16 :: st, o + 1 + cnt pend, out0) (tk n') = _
              unfold sgn
              rw [if_neg (by rw [c5]; decide), if_pos c5]
              show clo (stl 1 (pend ++ -16 :: st) (o + 1 + cnt pend) out0) = _
              rw [stl_pop (k := 1) pend (o + 1) out0 q3, stl_stop (by show sth (-16) < 1; decide)]
              show (if (-16 : Int) = -16 then some (false, false, stl 7 st (o + 1 - 1) (out0 ++ pend)) else none) = _
              rw [if_pos rfl, q2]
              rfl
            · rw [if_neg c5]
              exact ⟨fun _ => goes_fl g2 (stuck q4 q3 (fun z => absurd z c5) (fun _ => List.cons_ne_nil _ _) (by show sth (-16) < 1; decide)), fun z => abF z⟩
      rw [if_neg c4]
      refine ⟨fun _ => fails_1 (fun z => notacc z.1) ?_, fun z => abF z⟩
      show one mn (st, o, out) (tk n) = _
      unfold one
      rw [if_neg c1, if_neg c2, if_neg c4, if_neg (fun z => by have := hm2 (by omega) z.1; rw [this] at z; exact absurd z.2 (by decide))]
    · rw [if_neg h5]
      by_cases cn : lv = 2 ∧ tk n = -9
      · rw [if_pos cn]
        obtain ⟨rfl, c9⟩ := cn
        by_cases c3 : 5 ≤ o
        · rw [if_pos c3]
          refine ⟨fun _ => fails_1 (fun z => notacc z.1) ?_, fun z => abF z⟩
          show one mn (st, o, out) (tk n) = _
          unfold one
          rw [if_neg (by omega), if_neg (by omega), if_neg (by omega), if_pos ⟨c9, hm1 (by omega)⟩, if_pos (show o = 5 by omega)]
        · rw [if_neg c3]
          have g1 : goes tk (true, mn, st, o, out) n (true, true, -9 :: st, o + 1, out) (n + 1) := by
            refine goes_1 (fun z => notacc z.1) ?_
            show one mn (st, o, out) (tk n) = _
            unfold one
            rw [if_neg (by omega), if_neg (by omega), if_neg (by omega), if_pos ⟨c9, hm1 (by omega)⟩, if_neg (show ¬ o = 5 by omega)]
          have ih := E_main hb f 2 (o + 1) (n + 1) true (-9 :: st) out (by omega) (by omega) (by omega) (fun _ => rfl) (fun z => by omega) (by show sth (-9) < 4; decide)
          unfold EC at ih
          unfold unR
          cases hr : (rd tk f 2 (o + 1) (n + 1)).1 with
          | false =>
            rw [if_neg (by decide)]
            exact ⟨fun _ => goes_fl g1 (ih.1 hr), fun z => abF z⟩
          | true =>
            rw [if_pos rfl]
            refine ⟨fun z => abT z, fun _ => ?_⟩
            have ok := ih.2 hr
            unfold okP at ok ⊢
            rw [if_neg (by decide)] at ok ⊢
            obtain ⟨pend, out0, q1, q2, q3, q4⟩ := ok
            refine ⟨pend ++ [-9], out0, ?_, ?_, ?_, ?_⟩
            · rw [cnt_app, show cnt [-9] = 1 from rfl, List.append_assoc, show o + (cnt pend + 1) = o + 1 + cnt pend by omega]
              exact goes_tr g1 q1
            · rw [← List.append_assoc, q2, List.append_assoc]
            · intro x hx
              rcases List.mem_append.mp hx with h | h
              · exact q3 x h
              · rw [List.mem_singleton.mp h]; decide
            · rcases q4 with q | q
              · exact Or.inl q
              · exact Or.inr ⟨q.1, q.2.1, dw_app q.2.2⟩
      · rw [if_neg cn]
        have cm : ctxS lv ≤ ctxS (lv + 1) ∧ ctxS lv ≤ 6 := by
          rcases (show lv = 0 ∨ lv = 1 ∨ lv = 2 ∨ lv = 3 ∨ lv = 4 by omega) with e | e | e | e | e <;> rw [e] <;> decide
        have mm : mins lv ≤ mins (lv + 1) ∧ (lv < 4 → kp lv ≤ mins (lv + 1)) := by
          rcases (show lv = 0 ∨ lv = 1 ∨ lv = 2 ∨ lv = 3 ∨ lv = 4 by omega) with e | e | e | e | e <;> rw [e] <;> decide
        have IH := fun (n : Nat) (mn : Bool) (st' out' : List Int) (a1 : lv + 1 ≤ 2 → mn = true) (a2 : 3 ≤ lv + 1 → tk n = -9 → mn = false) (a3 : tops st' < ctxS (lv + 1)) => E_main hb f (lv + 1) o n mn st' out' (by omega) (by omega) ho a1 a2 a3
        have ih := IH n mn st out (fun z => hm1 (by omega)) (fun z e => by
          by_cases l2 : lv = 2
          · exact absurd ⟨l2, e⟩ cn
          · exact hm2 (by omega) e) (by omega)
        unfold EC at ih
        unfold sqR
        cases hr : (rd tk f (lv + 1) o n).1 with
        | false =>
          rw [if_neg (by decide)]
          exact ⟨fun _ => ih.1 hr, fun z => abF z⟩
        | true =>
          rw [if_pos rfl]
          have ok := ih.2 hr
          have key : ∃ pend1 out1 : List Int, goes tk (true, mn, st, o, out) n (false, false, pend1 ++ st, o + cnt pend1, out1) (rd tk f (lv + 1) o n).2.1 ∧ out1 ++ pend1 = out ++ (rd tk f (lv + 1) o n).2.2 ∧ (∀ x ∈ pend1, mins (lv + 1) ≤ sth x) ∧ Np (lv + 1) pend1 (tk (rd tk f (lv + 1) o n).2.1) ∧ (lv = 4 → pend1 = []) := by
            unfold okP at ok
            by_cases e5 : lv + 1 = 5
            · rw [if_pos e5] at ok
              rw [stl_stop (by omega)] at ok
              refine ⟨[], out ++ (rd tk f (lv + 1) o n).2.2, ok, by rw [List.append_nil], fun x hx => absurd hx (List.not_mem_nil), Or.inl ?_, fun _ => rfl⟩
              unfold lvl
              repeat' split
              all_goals omega
            · rw [if_neg e5] at ok
              obtain ⟨pend1, out1, q1, q2, q3, q4⟩ := ok
              exact ⟨pend1, out1, q1, q2, q3, q4, fun z => by omega⟩
          obtain ⟨pend1, out1, q1, q2, q3, q4, q5⟩ := key
          have res := LPc hb (by omega) hc IH (if lv = 2 then 1 else 160) (rd tk f (lv + 1) o n).2.1 pend1 out1 (rd tk f (lv + 1) o n).2.2 (true, mn, st, o, out) n q1 q2 (fun x hx => Nat.le_trans mm.1 (q3 x hx)) (fun _ x hx => by
            by_cases l4 : lv = 4
            · rw [q5 l4] at hx; exact absurd hx (List.not_mem_nil)
            · exact Nat.le_trans (mm.2 (by omega)) (q3 x hx)) q4 (fun e => by rw [if_pos e]; omega) (fun e z => by rw [if_pos e] at z; omega) (fun e => by rw [if_neg e]; omega)
          refine ⟨fun z => res.1 z, fun z => ?_⟩
          obtain ⟨pend', out', r1, r2, r3, r4⟩ := res.2 z
          unfold okP
          rw [if_neg (by omega)]
          exact ⟨pend', out', r1, by rw [r2, List.append_assoc], r3, r4⟩
