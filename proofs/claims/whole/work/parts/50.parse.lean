/-! two ways to read an expression: by levels, and by a stack of signs; tokens are the class's numbers -/
abbrev Rs : Type := Bool × Nat × List Int
def lvl (t : Int) : Int := if t = -7 then 0 else if t = -8 then 1 else if t = -10 ∨ t = -11 then 2 else if t = -12 ∨ t = -13 then 3 else if t = -14 then 4 else -1
def unR (s : Int) (r : Rs) : Rs := if r.1 = true then (true, r.2.1, r.2.2 ++ [s]) else (false, r.2.1, [])
def paR (tk : Nat → Int) (r : Rs) : Rs := if r.1 = true then (if tk r.2.1 = -17 then (true, r.2.1 + 1, r.2.2) else (false, r.2.1, [])) else (false, r.2.1, [])
def sqR (r : Rs) (k : Nat → Rs) : Rs := if r.1 = true then ((k r.2.1).1, (k r.2.1).2.1, r.2.2 ++ (k r.2.1).2.2) else (false, r.2.1, [])
def lp (tk : Nat → Int) (lv : Nat) (r : Nat → Rs) : Nat → Nat → Rs
  | 0, n => (true, n, [])
  | m + 1, n => if lvl (tk n) = (lv : Int) then sqR (r (n + 1)) (fun n' => ((lp tk lv r m n').1, (lp tk lv r m n').2.1, tk n :: (lp tk lv r m n').2.2)) else (true, n, [])
def rd (tk : Nat → Int) : Nat → Nat → Nat → Nat → Rs
  | 0, _, _, n => (false, n, [])
  | f + 1, lv, o, n =>
    if 5 ≤ lv then
      (if -6 ≤ tk n then (true, n + 1, [tk n])
       else if tk n = -13 then (if 5 ≤ o then (false, n, []) else unR (-15) (rd tk f 5 (o + 1) (n + 1)))
       else if tk n = -16 then (if 5 ≤ o then (false, n, []) else paR tk (rd tk f 0 (o + 1) (n + 1)))
       else (false, n, []))
    else if lv = 2 ∧ tk n = -9 then (if 5 ≤ o then (false, n, []) else unR (-9) (rd tk f 2 (o + 1) (n + 1)))
    else sqR (rd tk f (lv + 1) o n) (fun n' => lp tk lv (fun j => rd tk f (lv + 1) o j) (if lv = 2 then 1 else 160) n')
/-- how strong a sign binds -/
def sth (s : Int) : Nat := if s = -7 then 1 else if s = -8 then 2 else if s = -9 then 3 else if s = -10 ∨ s = -11 then 4 else if s = -12 ∨ s = -13 then 5 else if s = -14 then 6 else if s = -15 then 7 else 0
def tops (st : List Int) : Nat := match st with
  | [] => 0
  | s :: _ => sth s
def ct (s : Int) : Nat := if s = -9 ∨ s = -15 then 1 else 0
def cnt : List Int → Nat
  | [] => 0
  | s :: r => ct s + cnt r
abbrev SQ : Type := List Int × Nat × List Int
abbrev SS : Type := Bool × Bool × SQ
def stl (k : Nat) : List Int → Nat → List Int → SQ
  | [], o, out => ([], o, out)
  | s :: r, o, out => if k ≤ sth s then stl k r (o - ct s) (out ++ [s]) else (s :: r, o, out)
def kpt (t : Int) : Nat := if t = -10 ∨ t = -11 then 5 else sth t
def one (mn : Bool) (q : SQ) (t : Int) : Option SS :=
  if -6 ≤ t then some (false, false, stl 7 q.1 q.2.1 (q.2.2 ++ [t]))
  else if t = -13 then (if q.2.1 = 5 then none else some (true, false, -15 :: q.1, q.2.1 + 1, q.2.2))
  else if t = -16 then (if q.2.1 = 5 then none else some (true, true, -16 :: q.1, q.2.1 + 1, q.2.2))
  else if t = -9 ∧ mn = true then (if q.2.1 = 5 then none else some (true, true, -9 :: q.1, q.2.1 + 1, q.2.2))
  else none
def clo (q : SQ) : Option SS := match q.1 with
  | [] => none
  | s :: r => if s = -16 then some (false, false, stl 7 r (q.2.1 - 1) q.2.2) else none
def sgn (q : SQ) (t : Int) : Option SS :=
  if lvl t ≠ -1 then (if (t = -10 ∨ t = -11) ∧ tops (stl (kpt t) q.1 q.2.1 q.2.2).1 = 4 then none else some (true, decide (t = -7 ∨ t = -8), t :: (stl (kpt t) q.1 q.2.1 q.2.2).1, (stl (kpt t) q.1 q.2.1 q.2.2).2))
  else if t = -17 then clo (stl 1 q.1 q.2.1 q.2.2) else none
def nxS (s : SS) (t : Int) : Option SS := if s.1 = true then one s.2.1 s.2.2 t else sgn s.2.2 t
def run (tk : Nat → Int) : Nat → SS → Nat → Rs
  | 0, _, n => (false, n, [])
  | f + 1, s, n => if s.1 = false ∧ (tk n = -18 ∨ tk n = -22 ∨ tk n = -23) then (decide (tk n = -18 ∧ (stl 1 s.2.2.1 s.2.2.2.1 s.2.2.2.2).1 = []), n, (stl 1 s.2.2.1 s.2.2.2.1 s.2.2.2.2).2.2) else match nxS s (tk n) with
    | none => (false, n, [])
    | some s' => run tk f s' (n + 1)
theorem stl_pop {k : Nat} {st : List Int} : ∀ (pend : List Int) (o : Nat) (out : List Int), (∀ x ∈ pend, k ≤ sth x) → stl k (pend ++ st) (o + cnt pend) out = stl k st o (out ++ pend)
  | [], o, out, _ => by rw [List.nil_append, List.append_nil]; rfl
  | x :: r, o, out, h => by
    show (if k ≤ sth x then stl k (r ++ st) (o + cnt (x :: r) - ct x) (out ++ [x]) else _) = _
    rw [if_pos (h x (List.mem_cons_self ..)), show o + cnt (x :: r) - ct x = o + cnt r by show o + (ct x + cnt r) - ct x = _; omega, stl_pop r o (out ++ [x]) (fun y hy => h y (List.mem_cons_of_mem _ hy)), List.append_assoc]
    rfl
theorem stl_stop {k : Nat} {st : List Int} {o : Nat} {out : List Int} (h : tops st < k) : stl k st o out = (st, o, out) := by
  cases st with
  | nil => rfl
  | cons s r =>
    show (if k ≤ sth s then _ else _) = _
    rw [if_neg (show ¬ k ≤ sth s from Nat.not_le.mpr h)]
theorem cnt_app : ∀ (a b : List Int), cnt (a ++ b) = cnt a + cnt b
  | [], b => by rw [List.nil_append]; show _ = 0 + cnt b; omega
  | x :: a, b => by
    show ct x + cnt (a ++ b) = ct x + cnt a + cnt b
    rw [cnt_app a b]
    omega
def goes (tk : Nat → Int) (s : SS) (n : Nat) (s' : SS) (n' : Nat) : Prop := n ≤ n' ∧ ∀ F, run tk (F + (n' - n)) s n = run tk F s' n'
def fails (tk : Nat → Int) (s : SS) (n n' : Nat) : Prop := n ≤ n' ∧ ∀ F, ∃ c, run tk (F + 1 + (n' - n)) s n = (false, n', c)
theorem goes_rfl {tk : Nat → Int} {s : SS} {n : Nat} : goes tk s n s n := ⟨Nat.le_refl _, fun F => by rw [Nat.sub_self]; rfl⟩
theorem goes_tr {tk : Nat → Int} {s s1 s2 : SS} {n n1 n2 : Nat} (h1 : goes tk s n s1 n1) (h2 : goes tk s1 n1 s2 n2) : goes tk s n s2 n2 := by
  refine ⟨Nat.le_trans h1.1 h2.1, fun F => ?_⟩
  have a := h1.1
  have b := h2.1
  rw [show F + (n2 - n) = F + (n2 - n1) + (n1 - n) by omega, h1.2, h2.2]
theorem goes_fl {tk : Nat → Int} {s s1 : SS} {n n1 n2 : Nat} (h1 : goes tk s n s1 n1) (h2 : fails tk s1 n1 n2) : fails tk s n n2 := by
  refine ⟨Nat.le_trans h1.1 h2.1, fun F => ?_⟩
  have a := h1.1
  have b := h2.1
  obtain ⟨c, e⟩ := h2.2 F
  exact ⟨c, by rw [show F + 1 + (n2 - n) = F + 1 + (n2 - n1) + (n1 - n) by omega, h1.2, e]⟩
theorem goes_1 {tk : Nat → Int} {s s' : SS} {n : Nat} (h : ¬ (s.1 = false ∧ (tk n = -18 ∨ tk n = -22 ∨ tk n = -23))) (e : nxS s (tk n) = some s') : goes tk s n s' (n + 1) := by
  refine ⟨by omega, fun F => ?_⟩
  rw [show n + 1 - n = 1 by omega]
  conv => lhs; unfold run
  rw [if_neg h, e]
theorem fails_1 {tk : Nat → Int} {s : SS} {n : Nat} (h : ¬ (s.1 = false ∧ (tk n = -18 ∨ tk n = -22 ∨ tk n = -23))) (e : nxS s (tk n) = none) : fails tk s n n := by
  refine ⟨Nat.le_refl _, fun F => ⟨[], ?_⟩⟩
  rw [Nat.sub_self]
  show run tk (F + 1) s n = _
  conv => lhs; unfold run
  rw [if_neg h, e]
def mins (lv : Nat) : Nat := if lv = 0 then 1 else if lv = 1 then 2 else if lv = 2 then 3 else if lv = 3 then 5 else 6
def ctxS (lv : Nat) : Nat := if lv = 0 then 1 else if lv = 1 then 2 else if lv = 2 then 4 else if lv = 3 then 5 else if lv = 4 then 6 else 8
def kp (lv : Nat) : Nat := if lv = 0 then 1 else if lv = 1 then 2 else if lv = 2 then 5 else if lv = 3 then 5 else 6
def dw (l : List Int) : List Int := match l with
  | [] => []
  | s :: r => if 5 ≤ sth s then dw r else s :: r
def Np (lv : Nat) (pend : List Int) (t : Int) : Prop := lvl t < (lv : Int) ∨ (lv ≤ 2 ∧ lvl t = 2 ∧ tops (dw pend) = 4)
def okP (tk : Nat → Int) (lv : Nat) (st : List Int) (o : Nat) (out c : List Int) (s : SS) (n n' : Nat) : Prop := if lv = 5 then goes tk s n (false, false, stl 7 st o (out ++ c)) n' else ∃ pend out0 : List Int, goes tk s n (false, false, pend ++ st, o + cnt pend, out0) n' ∧ out0 ++ pend = out ++ c ∧ (∀ x ∈ pend, mins lv ≤ sth x) ∧ Np lv pend (tk n')
theorem dw_app {a b : List Int} (h : tops (dw a) = 4) : tops (dw (a ++ b)) = 4 := by
  induction a with
  | nil => exact absurd h (by decide)
  | cons x a ih =>
    unfold dw at h ⊢
    rw [List.cons_append]
    show tops (if 5 ≤ sth x then dw (a ++ b) else x :: (a ++ b)) = 4
    replace h : tops (if 5 ≤ sth x then dw a else x :: a) = 4 := h
    split
    · next c => rw [if_pos c] at h; exact ih h
    · next c => rw [if_neg c] at h; exact h
theorem dw_hi {a : List Int} {b : List Int} (h : ∀ x ∈ a, 5 ≤ sth x) : dw (a ++ b) = dw b := by
  induction a with
  | nil => rfl
  | cons x a ih =>
    rw [List.cons_append]
    show (if 5 ≤ sth x then dw (a ++ b) else x :: (a ++ b)) = _
    rw [if_pos (h x (List.mem_cons_self ..)), ih (fun y hy => h y (List.mem_cons_of_mem _ hy))]
theorem lvl_cases {t : Int} {lv : Nat} (h : lvl t = (lv : Int)) : (lv = 0 ∧ t = -7) ∨ (lv = 1 ∧ t = -8) ∨ (lv = 2 ∧ (t = -10 ∨ t = -11)) ∨ (lv = 3 ∧ (t = -12 ∨ t = -13)) ∨ (lv = 4 ∧ t = -14) := by
  unfold lvl at h
  split at h
  · omega
  · split at h
    · omega
    · split at h
      · omega
      · split at h
        · omega
        · split at h <;> omega
theorem sth_lt (s : Int) : sth s < 8 := by
  unfold sth
  repeat' split
  all_goals omega
theorem tops_lt (st : List Int) : tops st < 8 := by
  cases st with
  | nil => decide
  | cons s r => exact sth_lt s
/-- a sign of level lv behind an operand -/
theorem sgn_go {tk : Nat → Int} {lv n o : Nat} {pend st out0 : List Int} (hl : lvl (tk n) = (lv : Int)) (hp : ∀ x ∈ pend, kp lv ≤ sth x) (hc : tops st < ctxS lv) : goes tk (false, false, pend ++ st, o + cnt pend, out0) n (true, decide (lv ≤ 1), tk n :: st, o, out0 ++ pend) (n + 1) ∧ kp lv = kpt (tk n) ∧ mins lv ≤ sth (tk n) ∧ ct (tk n) = 0 ∧ (lv ≤ 1 → tops [tk n] < ctxS (lv + 1)) ∧ tops [tk n] < ctxS (lv + 1) := by
  have hk : kp lv = kpt (tk n) ∧ mins lv ≤ sth (tk n) ∧ ct (tk n) = 0 ∧ tops [tk n] < ctxS (lv + 1) ∧ ctxS lv ≤ kp lv ∧ decide (lv ≤ 1) = decide (tk n = -7 ∨ tk n = -8) ∧ ((tk n = -10 ∨ tk n = -11) → ctxS lv = 4) ∧ ¬ (tk n = -18 ∨ tk n = -22 ∨ tk n = -23) := by
    rcases lvl_cases hl with ⟨e, h⟩ | ⟨e, h⟩ | ⟨e, h | h⟩ | ⟨e, h | h⟩ | ⟨e, h⟩ <;> subst e <;> rw [h] <;> decide
  obtain ⟨k1, k2, k3, k4, k5, k6, k7, k8⟩ := hk
  refine ⟨?_, k1, k2, k3, fun _ => k4, k4⟩
  refine goes_1 (fun z => k8 z.2) ?_
  show sgn (pend ++ st, o + cnt pend, out0) (tk n) = _
  unfold sgn
  rw [if_pos (by rw [hl]; omega)]
  show (if (tk n = -10 ∨ tk n = -11) ∧ tops (stl (kpt (tk n)) (pend ++ st) (o + cnt pend) out0).1 = 4 then none else some (true, decide (tk n = -7 ∨ tk n = -8), tk n :: (stl (kpt (tk n)) (pend ++ st) (o + cnt pend) out0).1, (stl (kpt (tk n)) (pend ++ st) (o + cnt pend) out0).2)) = _
  rw [stl_pop pend o out0 (by rw [← k1]; exact hp), stl_stop (by rw [← k1]; omega), if_neg (fun z => by have := k7 z.1; have : tops st = 4 := z.2; omega), k6]
theorem abT {p : Prop} (h : true = false) : p := Bool.noConfusion h
theorem abF {p : Prop} (h : false = true) : p := Bool.noConfusion h
theorem stl_blk {r : List Int} : ∀ (pend : List Int) (o : Nat) (out : List Int), tops (dw pend) = 4 → tops (stl 5 (pend ++ r) o out).1 = 4
  | [], o, out, h => absurd h (by decide)
  | x :: pend, o, out, h => by
    show tops (if 5 ≤ sth x then stl 5 (pend ++ r) (o - ct x) (out ++ [x]) else (x :: (pend ++ r), o, out)).1 = 4
    replace h : tops (if 5 ≤ sth x then dw pend else x :: pend) = 4 := h
    by_cases c : 5 ≤ sth x
    · rw [if_pos c] at h ⊢
      exact stl_blk pend _ _ h
    · rw [if_neg c] at h ⊢
      exact h
/-- behind a whole expression: neither ')' nor ';' -/
theorem stuck {tk : Nat → Int} {n o : Nat} {pend st out0 : List Int} (hN : Np 0 pend (tk n)) (hp : ∀ x ∈ pend, 1 ≤ sth x) (h17 : tk n = -17 → st = []) (h18 : tk n = -18 → st ≠ []) (hs : tops st < 1) : fails tk (false, false, pend ++ st, o + cnt pend, out0) n n := by
  have es : stl 1 (pend ++ st) (o + cnt pend) out0 = (st, o, out0 ++ pend) := by rw [stl_pop pend o out0 hp, stl_stop hs]
  by_cases acc : tk n = -18 ∨ tk n = -22 ∨ tk n = -23
  · refine ⟨Nat.le_refl _, fun F => ⟨out0 ++ pend, ?_⟩⟩
    rw [Nat.sub_self]
    show run tk (F + 1) _ n = _
    conv => lhs; unfold run
    rw [if_pos ⟨rfl, acc⟩]
    show (decide (tk n = -18 ∧ (stl 1 (pend ++ st) (o + cnt pend) out0).1 = []), n, (stl 1 (pend ++ st) (o + cnt pend) out0).2.2) = _
    rw [es, decide_eq_false (fun z => h18 z.1 z.2)]
  · refine fails_1 (fun z => acc z.2) ?_
    show sgn (pend ++ st, o + cnt pend, out0) (tk n) = _
    unfold sgn
    rcases hN with q | ⟨_, q, q6⟩
    · have : lvl (tk n) = -1 := by
        unfold lvl at q ⊢
        by_cases a1 : tk n = -7
        · rw [if_pos a1] at q; omega
        rw [if_neg a1] at q ⊢
        by_cases a2 : tk n = -8
        · rw [if_pos a2] at q; omega
        rw [if_neg a2] at q ⊢
        by_cases a3 : tk n = -10 ∨ tk n = -11
        · rw [if_pos a3] at q; omega
        rw [if_neg a3] at q ⊢
        by_cases a4 : tk n = -12 ∨ tk n = -13
        · rw [if_pos a4] at q; omega
        rw [if_neg a4] at q ⊢
        by_cases a5 : tk n = -14
        · rw [if_pos a5] at q; omega
        rw [if_neg a5]
      rw [if_neg (fun z => z this)]
      by_cases c : tk n = -17
      · rw [if_pos c]
        show clo (stl 1 (pend ++ st) (o + cnt pend) out0) = _
        rw [es, h17 c]
        rfl
      · rw [if_neg c]
    · have hc : tk n = -10 ∨ tk n = -11 := by rcases lvl_cases (lv := 2) q with h | h | h | h | h <;> omega
      rw [if_pos (by rw [q]; decide)]
      show (if (tk n = -10 ∨ tk n = -11) ∧ tops (stl (kpt (tk n)) (pend ++ st) (o + cnt pend) out0).1 = 4 then none else _) = _
      rw [if_pos ⟨hc, by rw [show kpt (tk n) = 5 from if_pos hc]; exact stl_blk pend _ _ q6⟩]
