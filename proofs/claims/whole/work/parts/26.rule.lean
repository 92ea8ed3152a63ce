/-! the worth of a part of the rule -/
def jn (s : Int) (a b : Int32) : Int32 := if s = -7 then (if a = 0 ∧ b = 0 then 0 else 1) else if s = -8 then (if a = 0 ∨ b = 0 then 0 else 1) else if s = -10 then (if b ≤ a then 0 else 1) else if s = -11 then (if a = b then 1 else 0) else if s = -12 then a + b else if s = -13 then a - b else a * b
def ev1 (fa : Nat → Int32) (s : Int) (f : Nat → Int32) (n : Nat) : (Nat → Int32) × Nat := if -6 ≤ s then (upd f n (if 0 ≤ s then Int32.ofInt s else fa (-1 - s).toNat), n + 1) else if s = -9 ∨ s = -15 then (upd f (n - 1) (if s = -9 then (if f (n - 1) = 0 then 1 else 0) else - f (n - 1)), n) else (upd f (n - 2) (jn s (f (n - 2)) (f (n - 1))), n - 1)
def evL (fa : Nat → Int32) : List Int → (Nat → Int32) → Nat → (Nat → Int32) × Nat
  | [], f, n => (f, n)
  | s :: r, f, n => evL fa r (ev1 fa s f n).1 (ev1 fa s f n).2
def evV (fa : Nat → Int32) (l : List Int) : Int32 := (evL fa l (fun _ => 0) 0).1 0
def pk (s : Int) (n : Nat) : Prop := if -6 ≤ s then n < 40 else if s = -9 ∨ s = -15 then 1 ≤ n else 2 ≤ n
theorem pok_cons {n : Nat} {s : Int} {r : List Int} (h : pok n (s :: r) = true) (fa f : Nat → Int32) : pk s n ∧ pok (ev1 fa s f n).2 r = true := by
  unfold pok at h
  unfold pk ev1
  split at h
  · next c => rw [if_pos c, if_pos c]; simpa using h
  · next c =>
    rw [if_neg c, if_neg c]
    split at h
    · next c2 => rw [if_pos c2, if_pos c2]; simpa using h
    · next c2 => rw [if_neg c2, if_neg c2]; simpa using h
theorem ev1_le {s : Int} {n : Nat} {fa f : Nat → Int32} (h : pk s n) (hn : n ≤ 40) : (ev1 fa s f n).2 ≤ 40 := by
  unfold pk at h
  unfold ev1
  split
  · next c => rw [if_pos c] at h; exact h
  · split
    · exact hn
    · show n - 1 ≤ 40; omega
theorem ev1_num {fa f : Nat → Int32} {s : Int} {n : Nat} (h : 0 ≤ s) : ev1 fa s f n = (upd f n (Int32.ofInt s), n + 1) := by
  unfold ev1
  rw [if_pos (by omega), if_pos h]
theorem ev1_fact {fa f : Nat → Int32} {s : Int} {n : Nat} (h : s < 0) (h2 : -6 ≤ s) : ev1 fa s f n = (upd f n (fa (-1 - s).toNat), n + 1) := by
  unfold ev1
  rw [if_pos h2, if_neg (by omega)]
theorem ev1_not {fa f : Nat → Int32} {n : Nat} : ev1 fa (-9) f n = (upd f (n - 1) (if f (n - 1) = 0 then 1 else 0), n) := by
  unfold ev1
  rw [if_neg (by decide), if_pos (by decide), if_pos rfl]
theorem ev1_neg {fa f : Nat → Int32} {n : Nat} : ev1 fa (-15) f n = (upd f (n - 1) (- f (n - 1)), n) := by
  unfold ev1
  rw [if_neg (by decide), if_pos (by decide), if_neg (by decide)]
theorem ev1_bin {fa f : Nat → Int32} {s : Int} {n : Nat} (h : s < -6) (h2 : s ≠ -9) (h3 : s ≠ -15) : ev1 fa s f n = (upd f (n - 2) (jn s (f (n - 2)) (f (n - 1))), n - 1) := by
  unfold ev1
  rw [if_neg (by omega), if_neg (by omega)]
theorem ev_ind {fa fa' : Nat → Int32} (hf : ∀ j, j < 6 → fa j = fa' j) : ∀ (l : List Int) (n : Nat) (f f' : Nat → Int32), pok n l = true → (∀ j, j < n → f j = f' j) → (evL fa l f n).1 0 = (evL fa' l f' n).1 0
  | [], n, f, f', hp, h => by
    have : n = 1 := by simpa [pok] using hp
    exact h 0 (by omega)
  | s :: r, n, f, f', hp, h => by
    obtain ⟨h1, h2⟩ := pok_cons hp fa f
    unfold evL
    have e2 : (ev1 fa s f n).2 = (ev1 fa' s f' n).2 := by unfold ev1; split; rfl; split <;> rfl
    rw [← e2]
    refine ev_ind hf r _ _ _ h2 (fun j hj => ?_)
    unfold pk at h1
    unfold ev1 at hj ⊢
    by_cases c : -6 ≤ s
    · rw [if_pos c] at h1 hj ⊢
      rw [if_pos c]
      have hj : j < n + 1 := hj
      show upd f n _ j = upd f' n _ j
      by_cases e : j = n
      · rw [e, upd_eq, upd_eq]
        split
        · rfl
        · exact hf _ (by omega)
      · rw [upd_ne e, upd_ne e]; exact h j (by omega)
    · rw [if_neg c] at h1 hj ⊢
      rw [if_neg c]
      by_cases c2 : s = -9 ∨ s = -15
      · rw [if_pos c2] at h1 hj ⊢
        rw [if_pos c2]
        have hj : j < n := hj
        show upd f (n - 1) _ j = upd f' (n - 1) _ j
        by_cases e : j = n - 1
        · rw [e, upd_eq, upd_eq, h (n - 1) (by omega)]
        · rw [upd_ne e, upd_ne e]; exact h j (by omega)
      · rw [if_neg c2] at h1 hj ⊢
        rw [if_neg c2]
        have hj : j < n - 1 := hj
        show upd f (n - 2) _ j = upd f' (n - 2) _ j
        by_cases e : j = n - 2
        · rw [e, upd_eq, upd_eq, h (n - 1) (by omega), h (n - 2) (by omega)]
        · rw [upd_ne e, upd_ne e]; exact h j (by omega)
/-- the steps of part p of text t, as the class keeps them -/
def tl (co en : Nat → Int32) (t p : Nat) : List Int := (List.range ((en (3 * t + p)).toInt.toNat - (if p = 0 then 0 else (en (3 * t + p - 1)).toInt.toNat))).map (fun j => (co (160 * t + (if p = 0 then 0 else (en (3 * t + p - 1)).toInt.toNat) + j)).toInt)
theorem prt_tl {co en sg te ma : Nat → Int32} {t p f : Nat} {l : List Int} (h : prt co en sg te ma t p f l) : l = tl co en t p ∧ f = if p = 0 then 0 else (en (3 * t + p - 1)).toInt.toNat := by
  obtain ⟨h1, h2, h3, h4, h5, h6, h7⟩ := h
  have hf : f = if p = 0 then 0 else (en (3 * t + p - 1)).toInt.toNat := by
    split
    · next c => exact h1 c
    · next c => rw [h2 (by omega)]; omega
  refine ⟨?_, hf⟩
  unfold tl
  rw [← hf, h3, show ((f : Int) + l.length).toNat - f = l.length by omega]
  refine List.ext_getElem? (fun j => ?_)
  by_cases c : j < l.length
  · rw [List.getElem?_map, List.getElem?_range c, List.getElem?_eq_getElem c]
    exact congrArg some (h5 j _ (List.getElem?_eq_getElem c)).1.symm
  · rw [List.getElem?_map, List.getElem?_eq_none (by omega), List.getElem?_eq_none (by rw [List.length_range]; omega)]
    rfl
theorem n_m1 {c : Int32} (h1 : -6 ≤ c.toInt) (h2 : c.toInt < 0) : vp_in (-1 - c) 6 ∧ (-1 - c).toNatClampNeg = (-1 - c.toInt).toNat := by
  have f1 : (-1 : Int32).toInt = -1 := by decide
  have e : (-1 - c).toInt = -1 - c.toInt := by rw [n_sub, f1, zw_id (by omega) (by omega)]
  exact ⟨n_in (by rw [e]; omega) (by rw [e]; omega), by rw [n_cl, e]⟩
theorem c_X8_joined {g : zq_G} {d : Nat} {M : zq_M} {Q : Option Value → zq_M → Prop} {s a b : Int32} (s1 : -14 ≤ s.toInt) (s2 : s.toInt ≤ -7) (s3 : s.toInt ≠ -9) (h : Q (some (.int (jn s.toInt a b))) M) : mx g d kX8_joined 0 [.int s, .int a, .int b] [] M Q := by
  refine mx_go 60 zq_t72 ?_
  show ((s : Int32).toInt < -14 ∨ -7 < (s : Int32).toInt → Q (some (.int 0)) M) ∧ ((s : Int32).toInt = -14 → Q (some (.int (a * b))) M) ∧ ((s : Int32).toInt = -13 → Q (some (.int (a - b))) M) ∧ ((s : Int32).toInt = -12 → Q (some (.int (a + b))) M) ∧ ((s : Int32).toInt = -11 → (¬ (a : Int32) = (b : Int32) → Q (some (.int 0)) M) ∧ ((a : Int32) = (b : Int32) → Q (some (.int 1)) M)) ∧ ((s : Int32).toInt = -10 → ((b : Int32) ≤ (a : Int32) → Q (some (.int 0)) M) ∧ (¬ (b : Int32) ≤ (a : Int32) → Q (some (.int 1)) M)) ∧ ((s : Int32).toInt = -9 → Q (some (.int 0)) M) ∧ ((s : Int32).toInt = -8 → ((a : Int32) = 0 → Q (some (.int 0)) M) ∧ (¬ (a : Int32) = 0 → ((b : Int32) = 0 → Q (some (.int 0)) M) ∧ (¬ (b : Int32) = 0 → Q (some (.int 1)) M))) ∧ ((s : Int32).toInt = -7 → (¬ (a : Int32) = 0 → Q (some (.int 1)) M) ∧ ((a : Int32) = 0 → ((b : Int32) = 0 → Q (some (.int 0)) M) ∧ (¬ (b : Int32) = 0 → Q (some (.int 1)) M)))
  refine ⟨fun q => by omega, fun q => ?_, fun q => ?_, fun q => ?_, fun q => ?_, fun q => ?_, fun q => absurd q s3, fun q => ?_, fun q => ?_⟩
  · rw [q] at h; exact h
  · rw [q] at h; exact h
  · rw [q] at h; exact h
  · rw [q] at h
    have h : Q (some (.int (if a = b then 1 else 0))) M := h
    exact ⟨fun c => by rw [if_neg c] at h; exact h, fun c => by rw [if_pos c] at h; exact h⟩
  · rw [q] at h
    have h : Q (some (.int (if b ≤ a then 0 else 1))) M := h
    exact ⟨fun c => by rw [if_pos c] at h; exact h, fun c => by rw [if_neg c] at h; exact h⟩
  · rw [q] at h
    have h : Q (some (.int (if a = 0 ∨ b = 0 then 0 else 1))) M := h
    exact ⟨fun c => by rw [if_pos (Or.inl c)] at h; exact h, fun c => ⟨fun c2 => by rw [if_pos (Or.inr c2)] at h; exact h, fun c2 => by rw [if_neg (fun z => z.elim c c2)] at h; exact h⟩⟩
  · rw [q] at h
    have h : Q (some (.int (if a = 0 ∧ b = 0 then 0 else 1))) M := h
    exact ⟨fun c => by rw [if_neg (fun z => c z.1)] at h; exact h, fun c => ⟨fun c2 => by rw [if_pos ⟨c, c2⟩] at h; exact h, fun c2 => by rw [if_neg (fun z => c2 z.2)] at h; exact h⟩⟩
theorem c_X12_done {g : zq_G} {d : Nat} {M : zq_M} {Q : Option Value → zq_M → Prop} {s a b : Int32} {z : Int} (hz : z = -5 - s.toInt) (s1 : 2 ≤ s.toInt) (s2 : s.toInt ≤ 9) (s3 : s.toInt ≠ 4) (h : Q (some (.int (jn z a b))) M) : mx g d kX12_done 0 [.ref 48, .int s, .int a, .int b] [] M Q := by
  refine mx_go 60 zq_t172 ?_
  show ((s : Int32).toInt < 2 ∨ 8 < (s : Int32).toInt → Q (some (.int (a * b))) M) ∧ ((s : Int32).toInt = 2 → (¬ (a : Int32) = 0 → Q (some (.int 1)) M) ∧ ((a : Int32) = 0 → ((b : Int32) = 0 → Q (some (.int 0)) M) ∧ (¬ (b : Int32) = 0 → Q (some (.int 1)) M))) ∧ ((s : Int32).toInt = 3 → ((a : Int32) = 0 → Q (some (.int 0)) M) ∧ (¬ (a : Int32) = 0 → ((b : Int32) = 0 → Q (some (.int 0)) M) ∧ (¬ (b : Int32) = 0 → Q (some (.int 1)) M))) ∧ ((s : Int32).toInt = 4 → Q (some (.int (a * b))) M) ∧ ((s : Int32).toInt = 5 → ((b : Int32) ≤ (a : Int32) → Q (some (.int 0)) M) ∧ (¬ (b : Int32) ≤ (a : Int32) → Q (some (.int 1)) M)) ∧ ((s : Int32).toInt = 6 → (¬ (a : Int32) = (b : Int32) → Q (some (.int 0)) M) ∧ ((a : Int32) = (b : Int32) → Q (some (.int 1)) M)) ∧ ((s : Int32).toInt = 7 → Q (some (.int (a + b))) M) ∧ ((s : Int32).toInt = 8 → Q (some (.int (a - b))) M)
  refine ⟨fun q => ?_, fun q => ?_, fun q => ?_, fun q => absurd q s3, fun q => ?_, fun q => ?_, fun q => ?_, fun q => ?_⟩
  · rw [show z = -14 by omega] at h; exact h
  · rw [show z = -7 by omega] at h
    have h : Q (some (.int (if a = 0 ∧ b = 0 then 0 else 1))) M := h
    exact ⟨fun c => by rw [if_neg (fun z => c z.1)] at h; exact h, fun c => ⟨fun c2 => by rw [if_pos ⟨c, c2⟩] at h; exact h, fun c2 => by rw [if_neg (fun z => c2 z.2)] at h; exact h⟩⟩
  · rw [show z = -8 by omega] at h
    have h : Q (some (.int (if a = 0 ∨ b = 0 then 0 else 1))) M := h
    exact ⟨fun c => by rw [if_pos (Or.inl c)] at h; exact h, fun c => ⟨fun c2 => by rw [if_pos (Or.inr c2)] at h; exact h, fun c2 => by rw [if_neg (fun z => z.elim c c2)] at h; exact h⟩⟩
  · rw [show z = -10 by omega] at h
    have h : Q (some (.int (if b ≤ a then 0 else 1))) M := h
    exact ⟨fun c => by rw [if_pos c] at h; exact h, fun c => by rw [if_neg c] at h; exact h⟩
  · rw [show z = -11 by omega] at h
    have h : Q (some (.int (if a = b then 1 else 0))) M := h
    exact ⟨fun c => by rw [if_neg c] at h; exact h, fun c => by rw [if_pos c] at h; exact h⟩
  · rw [show z = -12 by omega] at h; exact h
  · rw [show z = -13 by omega] at h; exact h
theorem c_X8_work {g : zq_G} {d : Nat} {M : zq_M} {Q : Option Value → zq_M → Prop} {c t : Int32} {n : Nat} {fa f : Nat → Int32} (hfa : M 16 = fa) (hf : M 17 = f) (hc : -15 ≤ c.toInt) (ht : t.toInt = n) (hn : n ≤ 40) (hk : pk c.toInt n) (h : ∀ v : Int32, v.toInt = ((ev1 fa c.toInt f n).2 : Int) → Q (some (.int v)) (zq_ma M 17 (ev1 fa c.toInt f n).1)) : mx g (d + 1) kX8_work 0 [.ref 13, .int c, .int t] [] M Q := by
  subst hfa hf
  refine mx_go 60 zq_t71 ?_
  show ((c : Int32) < ((-6) : Int32) → ((c : Int32) = ((-9) : Int32) → ((t : Int32) < (1 : Int32) → Q (some (.int t)) M) ∧ (¬ (t : Int32) < (1 : Int32) → (¬ (c : Int32) = ((-9) : Int32) → vp_in (t - 1) 40 ∧ vp_in (t - 1) 40 ∧ Q (some (.int t)) (zq_ma M 17 (upd (M 17) (Int32.toNatClampNeg (t - 1)) (-((M 17) (Int32.toNatClampNeg (t - 1))))))) ∧ ((c : Int32) = ((-9) : Int32) → vp_in (t - 1) 40 ∧ (¬ (((M 17) (Int32.toNatClampNeg (t - 1))) : Int32) = 0 → mx g (d) kX11_bit 0 [.int (0)] [] M _) ∧ ((((M 17) (Int32.toNatClampNeg (t - 1))) : Int32) = 0 → mx g (d) kX11_bit 0 [.int (1)] [] M _)))) ∧ (¬ (c : Int32) = ((-9) : Int32) → (¬ (c : Int32) = ((-15) : Int32) → ((2 : Int32) ≤ (t : Int32) → vp_in (t - 2) 40 ∧ vp_in (t - 1) 40 ∧ mx g (d) kX8_joined 0 [.int (c), .int (((M 17) (Int32.toNatClampNeg (t - 2)))), .int (((M 17) (Int32.toNatClampNeg (t - 1))))] [] M _) ∧ (¬ (2 : Int32) ≤ (t : Int32) → Q (some (.int t)) M)) ∧ ((c : Int32) = ((-15) : Int32) → ((t : Int32) < (1 : Int32) → Q (some (.int t)) M) ∧ (¬ (t : Int32) < (1 : Int32) → (¬ (c : Int32) = ((-9) : Int32) → vp_in (t - 1) 40 ∧ vp_in (t - 1) 40 ∧ Q (some (.int t)) (zq_ma M 17 (upd (M 17) (Int32.toNatClampNeg (t - 1)) (-((M 17) (Int32.toNatClampNeg (t - 1))))))) ∧ ((c : Int32) = ((-9) : Int32) → vp_in (t - 1) 40 ∧ (¬ (((M 17) (Int32.toNatClampNeg (t - 1))) : Int32) = 0 → mx g (d) kX11_bit 0 [.int (0)] [] M _) ∧ ((((M 17) (Int32.toNatClampNeg (t - 1))) : Int32) = 0 → mx g (d) kX11_bit 0 [.int (1)] [] M _)))))) ∧ (¬ (c : Int32) < ((-6) : Int32) → ((t : Int32) < (40 : Int32) → ((c : Int32) < 0 → vp_in ((-1) - c) 6 ∧ vp_in t 40 ∧ Q (some (.int (t + 1))) (zq_ma M 17 (upd (M 17) (Int32.toNatClampNeg t) ((M 16) (Int32.toNatClampNeg ((-1) - c)))))) ∧ (¬ (c : Int32) < 0 → vp_in t 40 ∧ Q (some (.int (t + 1))) (zq_ma M 17 (upd (M 17) (Int32.toNatClampNeg t) c)))) ∧ (¬ (t : Int32) < (40 : Int32) → Q (some (.int t)) M))
  have f6 : (-6 : Int32).toInt = -6 := by decide
  have f9 : (-9 : Int32).toInt = -9 := by decide
  have f15 : (-15 : Int32).toInt = -15 := by decide
  have f1 : (-1 : Int32).toInt = -1 := by decide
  have f40 : (40 : Int32).toInt = 40 := by decide
  have f2 : (2 : Int32).toInt = 2 := by decide
  have tc : t.toNatClampNeg = n := by rw [n_cl]; omega
  unfold pk at hk
  have m1 : 1 ≤ n → (t - 1).toInt = ((n - 1 : Nat) : Int) := fun z => by rw [n_sub, n_1, ht, zw_id (by omega) (by omega)]; omega
  have m2 : 2 ≤ n → (t - 2).toInt = ((n - 2 : Nat) : Int) := fun z => by rw [n_sub, f2, ht, zw_id (by omega) (by omega)]; omega
  have k1 : 1 ≤ n → (t - 1).toNatClampNeg = n - 1 := fun z => by rw [n_cl, m1 z]; omega
  have k2 : 2 ≤ n → (t - 2).toNatClampNeg = n - 2 := fun z => by rw [n_cl, m2 z]; omega
  have neg : ¬ c = -9 → c.toInt = -15 → (¬ c = -9 → vp_in (t - 1) 40 ∧ vp_in (t - 1) 40 ∧ Q (some (.int t)) (zq_ma M 17 (upd (M 17) (t - 1).toNatClampNeg (- M 17 (t - 1).toNatClampNeg)))) := by
    intro _ z _
    rw [if_neg (by omega), if_pos (Or.inr z)] at hk
    rw [z, ev1_neg] at h
    have hi : vp_in (t - 1) 40 := n_in (by rw [m1 hk]; omega) (by rw [m1 hk]; omega)
    refine ⟨hi, hi, ?_⟩
    rw [k1 hk]
    exact h t ht
  refine ⟨fun q => ⟨fun q1 => ⟨fun q2 => ?_, fun q2 => ⟨fun q3 => absurd q1 q3, fun q3 => ⟨?_, fun q4 => ?_, fun q4 => ?_⟩⟩⟩, fun q1 => ⟨fun q2 => ⟨fun q3 => ⟨?_, ?_, ?_⟩, fun q3 => ?_⟩, fun q2 => ⟨fun q3 => ?_, fun q3 => ⟨fun q4 => neg q1 (by rw [q2, f15]) q4, fun q4 => absurd q4 q1⟩⟩⟩⟩, fun q => ⟨fun q1 => ⟨fun q2 => ⟨?_, n_in (by omega) (by rw [n_lt, f40] at q1; omega), ?_⟩, fun q2 => ⟨n_in (by omega) (by rw [n_lt, f40] at q1; omega), ?_⟩⟩, fun q1 => ?_⟩⟩
  · rw [n_lt, n_1] at q2
    rw [n_eq, f9] at q1
    rw [if_neg (by omega), if_pos (Or.inl q1)] at hk
    omega
  · rw [n_eq, f9] at q1
    rw [if_neg (by omega), if_pos (Or.inl q1)] at hk
    exact n_in (by rw [m1 hk]; omega) (by rw [m1 hk]; omega)
  · rw [n_eq, f9] at q1
    rw [if_neg (by omega), if_pos (Or.inl q1)] at hk
    rw [q1, ev1_not] at h
    rw [k1 hk] at q4
    refine c_X11_bit (fun z => absurd rfl z) (fun _ => ?_)
    show vp_in (t - 1) 40 ∧ Q (some (.int t)) (zq_ma M 17 (upd (M 17) (Int32.toNatClampNeg (t - 1)) 0))
    refine ⟨n_in (by rw [m1 hk]; omega) (by rw [m1 hk]; omega), ?_⟩
    rw [k1 hk]
    rw [if_neg q4] at h
    exact h t ht
  · rw [n_eq, f9] at q1
    rw [if_neg (by omega), if_pos (Or.inl q1)] at hk
    rw [q1, ev1_not] at h
    rw [k1 hk] at q4
    refine c_X11_bit (fun _ => ?_) (fun z => absurd z (by decide))
    show vp_in (t - 1) 40 ∧ Q (some (.int t)) (zq_ma M 17 (upd (M 17) (Int32.toNatClampNeg (t - 1)) 1))
    refine ⟨n_in (by rw [m1 hk]; omega) (by rw [m1 hk]; omega), ?_⟩
    rw [k1 hk]
    rw [if_pos q4] at h
    exact h t ht
  · rw [n_le, f2] at q3; exact n_in (by rw [m2 (by omega)]; omega) (by rw [m2 (by omega)]; omega)
  · rw [n_le, f2] at q3; exact n_in (by rw [m1 (by omega)]; omega) (by rw [m1 (by omega)]; omega)
  · rw [n_le, f2] at q3
    rw [n_lt, f6] at q
    rw [n_eq, f9] at q1
    rw [n_eq, f15] at q2
    refine c_X8_joined (by omega) (by omega) q1 ?_
    show vp_in (t - 2) 40 ∧ Q (some (.int (t - 1))) (zq_ma M 17 (upd (M 17) (Int32.toNatClampNeg (t - 2)) (jn c.toInt (M 17 (t - 2).toNatClampNeg) (M 17 (t - 1).toNatClampNeg))))
    refine ⟨n_in (by rw [m2 (by omega)]; omega) (by rw [m2 (by omega)]; omega), ?_⟩
    rw [k2 (by omega), k1 (by omega)]
    rw [ev1_bin q q1 q2] at h
    exact h (t - 1) (m1 (by omega))
  · rw [n_le, f2] at q3
    rw [n_lt, f6] at q
    rw [n_eq, f9] at q1
    rw [n_eq, f15] at q2
    rw [if_neg (by omega), if_neg (by omega)] at hk
    omega
  · rw [n_lt, n_1] at q3
    rw [n_eq, f15] at q2
    rw [if_neg (by omega), if_pos (Or.inr q2)] at hk
    omega
  · rw [n_lt, f6] at q
    rw [n_lt, n_0] at q2
    exact (n_m1 (Int.not_lt.mp q) q2).1
  · rw [n_lt, f6] at q
    rw [n_lt, n_0] at q2
    rw [ev1_fact q2 (Int.not_lt.mp q)] at h
    rw [tc, (n_m1 (Int.not_lt.mp q) q2).2]
    rw [n_lt, f40] at q1
    exact h (t + 1) (by rw [n_suc (by omega) (by omega), ht]; rfl)
  · rw [n_lt, n_0] at q2
    rw [ev1_num (by omega), Int32.ofInt_toInt] at h
    rw [tc]
    rw [n_lt, f40] at q1
    exact h (t + 1) (by rw [n_suc (by omega) (by omega), ht]; rfl)
  · rw [n_lt, f6] at q
    rw [if_pos (by omega)] at hk
    rw [n_lt, f40] at q1
    omega
