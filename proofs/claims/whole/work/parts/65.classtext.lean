theorem txA_bd {tk : Nat → Int} {m : Nat} (hE : ∀ j, m ≤ j → tk j = -22) (h : (txA tk).1 = true) : (txA tk).2.2.1.length + (txA tk).2.2.2.1.length + (txA tk).2.2.2.2.length ≤ m := by
  have hA := ptR_bd (p := 0) hE (by omega) (show 0 ≤ m by omega)
  have hB := ptR_bd (p := 1) hE (by omega) hA.1
  have hC := ptR_bd (p := 2) hE (by omega) hB.1
  unfold txA at h ⊢
  by_cases a : (ptR tk 0 0).1 = true
  · rw [if_pos a] at h ⊢
    by_cases b : (ptR tk 1 (ptR tk 0 0).2.1).1 = true
    · rw [if_pos b] at h ⊢
      by_cases c : (ptR tk 2 (ptR tk 1 (ptR tk 0 0).2.1).2.1).1 = true
      · rw [if_pos c]
        have := hA.2.2 a
        have := hB.2.2 b
        have := hC.2.2 c
        have := hC.1
        show (ptR tk 0 0).2.2.length + (ptR tk 1 (ptR tk 0 0).2.1).2.2.length + (ptR tk 2 (ptR tk 1 (ptR tk 0 0).2.1).2.1).2.2.length ≤ m
        omega
      · rw [if_neg c] at h; exact abF h
    · rw [if_neg b] at h; exact abF h
  · rw [if_neg a] at h; exact abF h
theorem ptR_pok {tk : Nat → Int} {p n : Nat} (h : (ptR tk p n).1 = true) : pok 0 (ptR tk p n).2.2 = true := by
  unfold ptR at h ⊢
  by_cases a : tk n = -19 - (p : Int)
  · rw [if_pos a] at h ⊢
    by_cases b : (rd tk 46 0 0 (n + 1)).1 = true ∧ tk (rd tk 46 0 0 (n + 1)).2.1 = -18
    · rw [if_pos b]
      have := rd_pok 46 0 0 (n + 1) 0 (by omega) (by omega) (by omega) b.1 []
      rw [List.append_nil] at this
      exact this
    · rw [if_neg b] at h; exact abF h
  · rw [if_neg a] at h; exact abF h
theorem txA_pok {tk : Nat → Int} (h : (txA tk).1 = true) : pok 0 (txA tk).2.2.1 = true ∧ pok 0 (txA tk).2.2.2.1 = true ∧ pok 0 (txA tk).2.2.2.2 = true := by
  unfold txA at h ⊢
  by_cases a : (ptR tk 0 0).1 = true
  · rw [if_pos a] at h ⊢
    by_cases b : (ptR tk 1 (ptR tk 0 0).2.1).1 = true
    · rw [if_pos b] at h ⊢
      by_cases c : (ptR tk 2 (ptR tk 1 (ptR tk 0 0).2.1).2.1).1 = true
      · rw [if_pos c]
        exact ⟨ptR_pok a, ptR_pok b, ptR_pok c⟩
      · rw [if_neg c] at h; exact abF h
    · rw [if_neg b] at h; exact abF h
  · rw [if_neg a] at h; exact abF h
def fU (n c i : Nat) : Bool := (c == 13 && i == 4) || (c == 14 && decide (160 * n ≤ i)) || (c == 15 && decide (3 * n ≤ i))
def fW (n c i : Nat) : Bool := fV c i || fU n c i
theorem fW_u {n : Nat} {M M' : zq_M} (h : fr (fU n) M M') : fr (fW n) M M' := fr_mono h (fun c i e => by
  unfold fW at e
  cases q : fU n c i with
  | false => rfl
  | true => rw [q, Bool.or_true] at e; exact abT e)
theorem fW_v {n : Nat} {M M' : zq_M} (h : fr fV M M') : fr (fW n) M M' := fr_mono h (fun c i e => by
  unfold fW at e
  cases q : fV c i with
  | false => rfl
  | true => rw [q] at e; exact abT e)
/-- the class's text n -/
def txW (n : Nat) (A : TX) (M : zq_M) : Prop := (∀ (j : Nat) (x : Int), (A.2.2.1 ++ A.2.2.2.1 ++ A.2.2.2.2)[j]? = some x → (M 14 (160 * n + j)).toInt = x) ∧ (M 15 (3 * n)).toInt = (A.2.2.1.length : Int) ∧ (M 15 (3 * n + 1)).toInt = ((A.2.2.1.length + A.2.2.2.1.length : Nat) : Int) ∧ (M 15 (3 * n + 2)).toInt = ((A.2.2.1.length + A.2.2.2.1.length + A.2.2.2.2.length : Nat) : Int)
theorem c_X8_keep {g : zq_G} {d : Nat} {M : zq_M} {Q : Option Value → zq_M → Prop} {M0 : zq_M} {n : Nat} {A : TX} (hn : (M 13 4).toInt = (n : Int)) (hn5 : n ≤ 5) (hA : A.2.2.1.length + A.2.2.2.1.length + A.2.2.2.2.length ≤ 160) (hc : txC A M0 M) (hq : ∀ M' : zq_M, fr (fU n) M M' → M' 13 4 = M 13 4 + 1 → txW n A M' → Q (some (.int (M 13 4 + 1 - 1))) M') : mx g (d + 3) kX8_keep 0 [.ref 13, .ref 19, .ref 20, .null] [] M Q := by
  have f6 : (6 : Int32).toInt = 6 := rfl
  have f0 : (0 : Int32).toInt = 0 := rfl
  have f3 : (3 : Int32).toInt = 3 := rfl
  have f160 : (160 : Int32).toInt = 160 := rfl
  obtain ⟨c1, c2, c3, c4⟩ := hc
  generalize hL : A.2.2.1.length + A.2.2.2.1.length + A.2.2.2.2.length = L at *
  have e2 : Int32.toNatClampNeg 2 = 2 := rfl
  refine mx_go 100 zq_t67 ?_
  show ((6 : Int32) ≤ ((M 13 4) : Int32) → Q (some (.int (-4))) M) ∧ (¬ (6 : Int32) ≤ ((M 13 4) : Int32) → ((3 : Int32) ≤ ((nI 3) : Int32) → vp_in 2 3 ∧ mx g (d + 2) kX11_within 0 [.int (((M 20) (Int32.toNatClampNeg 2))), .int (0), .int ((if 160 < (nI 160) then 160 else (nI 160)))] [] M _) ∧ (¬ (3 : Int32) ≤ ((nI 3) : Int32) → Q (some (.int (-4))) M))
  refine ⟨fun y => absurd y (by rw [n_le, hn, f6]; omega), fun _ => ⟨fun _ => ⟨n_in (by decide) (by decide), ?_⟩, fun y => absurd (by decide) y⟩⟩
  refine c_X11_within (d := d + 1) ?_
  generalize hv : (if (0 : Int32) < (if M 20 (Int32.toNatClampNeg 2) < (if (160 : Int32) < nI 160 then 160 else nI 160) then M 20 (Int32.toNatClampNeg 2) else (if (160 : Int32) < nI 160 then 160 else nI 160)) then (if M 20 (Int32.toNatClampNeg 2) < (if (160 : Int32) < nI 160 then 160 else nI 160) then M 20 (Int32.toNatClampNeg 2) else (if (160 : Int32) < nI 160 then 160 else nI 160)) else 0) = v
  have ev : v.toInt = (L : Int) := by
    have n160 : (if (160 : Int32) < nI 160 then 160 else nI 160) = (160 : Int32) := by decide
    rw [n160, e2] at hv
    rw [← hv]
    by_cases a : M 20 2 < 160
    · rw [if_pos a]
      by_cases b : 0 < M 20 2
      · rw [if_pos b]; exact c4
      · rw [if_neg b]
        rw [n_lt, f0, c4] at b
        rw [f0]; omega
    · rw [if_neg a, if_pos (by decide), f160]
      rw [n_lt, f160, c4] at a
      omega
  have ec : v.toNatClampNeg = L := by rw [n_cl, ev, Int.toNat_natCast]
  have e160 : (M 13 4 * 160).toInt = ((160 * n : Nat) : Int) := by
    rw [n_mul, hn, f160, zw_id (by omega) (by omega)]
    omega
  have e3 : (M 13 4 * 3).toInt = ((3 * n : Nat) : Int) := by
    rw [n_mul, hn, f3, zw_id (by omega) (by omega)]
    omega
  have k160 : (M 13 4 * 160).toNatClampNeg = 160 * n := by rw [n_cl, e160, Int.toNat_natCast]
  have k3 : (M 13 4 * 3).toNatClampNeg = 3 * n := by rw [n_cl, e3, Int.toNat_natCast]
  have k0 : Int32.toNatClampNeg 0 = 0 := rfl
  have k33 : Int32.toNatClampNeg 3 = 3 := rfl
  show (¬ (0 : Int32) < 0 ∧ ¬ (((M 13 4) * 160) : Int32) < 0 ∧ ¬ (v : Int32) < 0 ∧ (Int32.toNatClampNeg 0) + (Int32.toNatClampNeg v) ≤ 160 ∧ (Int32.toNatClampNeg ((M 13 4) * 160)) + (Int32.toNatClampNeg v) ≤ 960) ∧ (¬ (0 : Int32) < 0 ∧ ¬ (((M 13 4) * 3) : Int32) < 0 ∧ ¬ (3 : Int32) < 0 ∧ (Int32.toNatClampNeg 0) + (Int32.toNatClampNeg 3) ≤ 3 ∧ (Int32.toNatClampNeg ((M 13 4) * 3)) + (Int32.toNatClampNeg 3) ≤ 18) ∧ Q (some (.int (((M 13 4) + 1) - 1))) (zq_mu (zq_ma (zq_ma M 14 (va_cpy ((M 19)) (M 14) (Int32.toNatClampNeg 0) (Int32.toNatClampNeg ((M 13 4) * 160)) (Int32.toNatClampNeg v))) 15 (va_cpy ((M 20)) (M 15) (Int32.toNatClampNeg 0) (Int32.toNatClampNeg ((M 13 4) * 3)) (Int32.toNatClampNeg 3))) 13 4 ((M 13 4) + 1))
  rw [k160, k3, k0, k33, ec]
  refine ⟨⟨by decide, by rw [n_lt, e160, f0]; omega, by rw [n_lt, ev, f0]; omega, by omega, by omega⟩, ⟨by decide, by rw [n_lt, e3, f0]; omega, by decide, by omega, by omega⟩, ?_⟩
  refine hq _ ?_ rfl ⟨fun j x e => ?_, ?_, ?_, ?_⟩
  · refine fr_mu (fun c i e => ?_) rfl
    unfold zq_ma
    by_cases c15 : c = 15
    · subst c15
      rw [if_pos rfl]
      have e' : decide (3 * n ≤ i) = false := e
      have := of_decide_eq_false e'
      unfold va_cpy
      rw [if_neg (by omega)]
    · rw [if_neg c15]
      by_cases c14 : c = 14
      · subst c14
        rw [if_pos rfl]
        have e' : (decide (160 * n ≤ i) || false) = false := e
        rw [Bool.or_false] at e'
        have := of_decide_eq_false e'
        unfold va_cpy
        rw [if_neg (by omega)]
      · rw [if_neg c14]
  · have hj : j < L := by
      have lt : j < (A.2.2.1 ++ A.2.2.2.1 ++ A.2.2.2.2).length := by
        by_cases c : j < (A.2.2.1 ++ A.2.2.2.1 ++ A.2.2.2.2).length
        · exact c
        · rw [List.getElem?_eq_none (by omega)] at e; exact absurd e (by simp)
      rw [List.length_append, List.length_append] at lt
      omega
    show (va_cpy (M 19) (M 14) 0 (160 * n) L (160 * n + j)).toInt = x
    unfold va_cpy
    rw [if_pos (by omega), show 160 * n + j - 160 * n = j by omega]
    exact c1.2 j x e
  · show (va_cpy (M 20) (M 15) 0 (3 * n) 3 (3 * n)).toInt = _
    unfold va_cpy
    rw [if_pos (by omega), Nat.sub_self]
    exact c2
  · show (va_cpy (M 20) (M 15) 0 (3 * n) 3 (3 * n + 1)).toInt = _
    unfold va_cpy
    rw [if_pos (by omega), show 3 * n + 1 - 3 * n = 1 by omega]
    exact c3
  · show (va_cpy (M 20) (M 15) 0 (3 * n) 3 (3 * n + 2)).toInt = _
    unfold va_cpy
    rw [if_pos (by omega), show 3 * n + 2 - 3 * n = 2 by omega, hL]
    exact c4
theorem c_X11_text {g : zq_G} {d : Nat} {M : zq_M} {Q : Option Value → zq_M → Prop} {t : Nat → Int} {z n : Nat} (ht : tpX M t z) (hn : (M 13 4).toInt = (n : Int)) (hn5 : n ≤ 5) (h1 : (txA (tkS t z)).1 = true → ∀ M' : zq_M, fr (fW n) M M' → M' 18 5 = 0 → M' 13 4 = M 13 4 + 1 → txW n (txA (tkS t z)) M' → Q (some (.int (M 13 4 + 1 - 1))) M') (h0 : (txA (tkS t z)).1 = false → ∀ (M' : zq_M) (v : Int32), fr fV M M' → M' 18 5 = 0 → v.toInt = ((stS t z (txA (tkS t z)).2.1 : Nat) : Int) → Q (some (.int (-100 - v))) M') : mx g (d + 142) kX11_text 0 [.ref 0, .null] [] M Q := by
  have f6 : (6 : Int32).toInt = 6 := rfl
  have m1 : (-1 : Int32).toInt = -1 := by decide
  have hE : ∀ j, z ≤ j → tkS t z j = -22 := fun j hj => tkS_end stS_all j hj
  refine mx_go 100 zq_t98 ?_
  show (((M 13 4) : Int32) < (6 : Int32) → mx g (d + 141) kX5_readTape 0 [.ref 18] [] M _) ∧ (¬ ((M 13 4) : Int32) < (6 : Int32) → Q (some (.int (-4))) M)
  refine ⟨fun _ => ?_, fun y => absurd (by rw [n_lt, hn, f6]; omega) y⟩
  refine c_X5_readTape ht (fun e M1 f1 e5 ec => ?_) (fun e M1 v f1 e5 ev => ?_)
  · have bd := txA_bd hE e
    have hz := ht.2.1
    have e13 : M1 13 4 = M 13 4 := f1 13 4 rfl
    show (((-1) : Int32) = ((-1) : Int32) → mx g (d + 141) kX8_keep 0 [.ref 13, .ref 19, .ref 20, .null] [] M1 _) ∧ (¬ ((-1) : Int32) = ((-1) : Int32) → Q (some (.int ((-100) - (-1)))) M1)
    refine ⟨fun _ => ?_, fun y => absurd rfl y⟩
    refine c_X8_keep (d := d + 138) (by rw [e13]; exact hn) hn5 (by omega) ec (fun M2 f2 g4 gw => ?_)
    rw [e13] at g4 ⊢
    exact h1 e M2 (fr_trans (fW_v f1) (fW_u f2)) (by rw [f2 18 5 rfl]; exact e5) g4 gw
  · show ((v : Int32) = ((-1) : Int32) → mx g (d + 141) kX8_keep 0 [.ref 13, .ref 19, .ref 20, .null] [] M1 _) ∧ (¬ (v : Int32) = ((-1) : Int32) → Q (some (.int ((-100) - v))) M1)
    refine ⟨fun y => ?_, fun _ => h0 e M1 v f1 e5 ev⟩
    rw [n_eq, m1, ev] at y
    omega

