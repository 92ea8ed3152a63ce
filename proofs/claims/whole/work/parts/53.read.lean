/-! the class reads -/
def fR (c i : Nat) : Bool := c == 19 || (c == 18 && (i == 6 || i == 7))
def tkP (M : zq_M) (tk : Nat → Int) (m : Nat) : Prop := ∀ j : Nat, j ≤ m → (M 22 j).toInt = tk j
def cdP (M M' : zq_M) (k : Nat) (c : List Int) : Prop := (∀ j : Nat, j < k → M' 19 j = M 19 j) ∧ ∀ (j : Nat) (x : Int), c[j]? = some x → (M' 19 (k + j)).toInt = x
def rsC (R : Rs) (k : Nat) (M : zq_M) (Q : Option Value → zq_M → Prop) : Prop := ∀ M' : zq_M, fr fR M M' → (M' 18 7).toInt = (R.2.1 : Int) → (R.1 = true → (M' 18 6).toInt = ((k + R.2.2.length : Nat) : Int) ∧ cdP M M' k R.2.2) → Q (some (.int (bI R.1))) M'
theorem cdP_nil {M M' : zq_M} {k : Nat} (h : M' 19 = M 19) : cdP M M' k [] := ⟨fun j _ => by rw [h], fun j x e => by simp at e⟩
theorem cdP_app {M M1 M2 : zq_M} {k : Nat} {a b : List Int} (h1 : cdP M M1 k a) (h2 : cdP M1 M2 (k + a.length) b) : cdP M M2 k (a ++ b) := by
  refine ⟨fun j hj => ?_, fun j x e => ?_⟩
  · rw [h2.1 j (by omega), h1.1 j hj]
  · by_cases c : j < a.length
    · rw [List.getElem?_append_left c] at e
      rw [h2.1 (k + j) (by omega)]
      exact h1.2 j x e
    · rw [List.getElem?_append_right (by omega)] at e
      have := h2.2 (j - a.length) x e
      rw [show k + a.length + (j - a.length) = k + j by omega] at this
      exact this
theorem tkP_fr {M M' : zq_M} {tk : Nat → Int} {m : Nat} (h : tkP M tk m) (hf : fr fR M M') : tkP M' tk m := fun j hj => by rw [hf 22 j rfl]; exact h j hj
theorem c_X5_advance {g : zq_G} {d : Nat} {M : zq_M} {Q : Option Value → zq_M → Prop} {tk : Nat → Int} {m n : Nat} (ht : tkP M tk m) (hE : ∀ j, m ≤ j → tk j = -22) (hm : m ≤ 160) (h7 : (M 18 7).toInt = (n : Int)) (hn : n < m) (h22 : tk n ≠ -22) (hq : ∀ M' : zq_M, fr fR M M' → (M' 18 7).toInt = ((n + 1 : Nat) : Int) → M' 18 6 = M 18 6 → M' 19 = M 19 → Q none M') : mx g d kX5_advance 0 [.ref 18] [] M Q := by
  have f160 : (160 : Int32).toInt = 160 := rfl
  have m22 : (-22 : Int32).toInt = -22 := by decide
  have e := ht n (by omega)
  refine mx_go 60 zq_t36 ?_
  show ((160 : Int32) ≤ ((M 18 7) : Int32) → Q none M) ∧ (¬ (160 : Int32) ≤ ((M 18 7) : Int32) → vp_in (M 18 7) 161 ∧ ((((M 22) (Int32.toNatClampNeg (M 18 7))) : Int32) = ((-22) : Int32) → Q none M) ∧ (¬ (((M 22) (Int32.toNatClampNeg (M 18 7))) : Int32) = ((-22) : Int32) → Q none (zq_mu M 18 7 ((M 18 7) + 1))))
  refine ⟨fun z => ?_, fun z => ⟨n_in (by omega) (by omega), fun y => ?_, fun y => ?_⟩⟩
  · rw [n_le, f160] at z; omega
  · rw [n_eq, m22, n_cl, h7, Int.toNat_natCast, e] at y
    exact absurd y h22
  · refine hq _ (fr_mu fr_rfl rfl) ?_ rfl rfl
    show (M 18 7 + 1).toInt = _
    rw [n_add, n_1, h7, zw_id (by omega) (by omega)]
    omega
theorem c_X5_put {g : zq_G} {d : Nat} {M : zq_M} {Q : Option Value → zq_M → Prop} {k : Nat} {s : Int32} (hk : (M 18 6).toInt = (k : Int)) (h : k < 160) (hq : ∀ M' : zq_M, fr fR M M' → M' 18 7 = M 18 7 → (M' 18 6).toInt = ((k + 1 : Nat) : Int) → cdP M M' k [s.toInt] → Q (some (.int 1)) M') : mx g d kX5_put 0 [.ref 18, .int s] [] M Q := by
  have f160 : (160 : Int32).toInt = 160 := rfl
  refine mx_go 60 zq_t37 ?_
  show (((M 18 6) : Int32) < (160 : Int32) → vp_in (M 18 6) 160 ∧ zq_b 1 ∧ Q (some (.int 1)) (zq_mu (zq_ma M 19 (upd (M 19) (Int32.toNatClampNeg (M 18 6)) s)) 18 6 ((M 18 6) + 1))) ∧ (¬ ((M 18 6) : Int32) < (160 : Int32) → zq_b 0 ∧ Q (some (.int 0)) M)
  refine ⟨fun z => ⟨n_in (by omega) (by omega), Or.inr rfl, hq _ (fr_mu (fr_ma fr_rfl (fun _ => rfl)) rfl) rfl ?_ ⟨fun j hj => ?_, fun j x e => ?_⟩⟩, fun z => ?_⟩
  · show (M 18 6 + 1).toInt = _
    rw [n_add, n_1, hk, zw_id (by omega) (by omega)]
    omega
  · show upd (M 19) (M 18 6).toNatClampNeg s j = _
    rw [upd_ne (by rw [n_cl]; omega)]
  · show (upd (M 19) (M 18 6).toNatClampNeg s (k + j)).toInt = x
    have : j = 0 ∧ s.toInt = x := by
      cases j with
      | zero => exact ⟨rfl, by simpa using e⟩
      | succ j => simp at e
    rw [this.1, show k + 0 = (M 18 6).toNatClampNeg by rw [n_cl]; omega, upd_eq]
    exact this.2
  · rw [n_lt, f160] at z
    omega
theorem c_X5_levelOf {g : zq_G} {d : Nat} {M : zq_M} {Q : Option Value → zq_M → Prop} {t : Int32} (hq : ∀ v : Int32, v.toInt = lvl t.toInt → Q (some (.int v)) M) : mx g d kX5_levelOf 0 [.int t] [] M Q := by
  refine mx_go 60 zq_t35 ?_
  show ((t : Int32).toInt < -14 ∨ -7 < (t : Int32).toInt → Q (some (.int (-1))) M) ∧ ((t : Int32).toInt = -14 → Q (some (.int 4)) M) ∧ ((t : Int32).toInt = -13 → Q (some (.int 3)) M) ∧ ((t : Int32).toInt = -12 → Q (some (.int 3)) M) ∧ ((t : Int32).toInt = -11 → Q (some (.int 2)) M) ∧ ((t : Int32).toInt = -10 → Q (some (.int 2)) M) ∧ ((t : Int32).toInt = -9 → Q (some (.int (-1))) M) ∧ ((t : Int32).toInt = -8 → Q (some (.int 1)) M) ∧ ((t : Int32).toInt = -7 → Q (some (.int 0)) M)
  unfold lvl at hq
  refine ⟨fun z => hq _ ?_, fun z => hq _ ?_, fun z => hq _ ?_, fun z => hq _ ?_, fun z => hq _ ?_, fun z => hq _ ?_, fun z => hq _ ?_, fun z => hq _ ?_, fun z => hq _ ?_⟩
  · rw [if_neg (by omega), if_neg (by omega), if_neg (by omega), if_neg (by omega), if_neg (by omega)]; decide
  all_goals (rw [z]; decide)
def IHr (g : zq_G) (tk : Nat → Int) (m f : Nat) : Prop := ∀ E : Nat, 3 * f ≤ E → ∀ (lv o n k : Nat) (M : zq_M) (Q : Option Value → zq_M → Prop), lv ≤ 5 → o ≤ 5 → tkP M tk m → n ≤ m → k ≤ n → (M 18 7).toInt = (n : Int) → (M 18 6).toInt = (k : Int) → 8 * (5 - o) + (5 - lv) < f → rsC (rd tk f lv o n) k M Q → mx g E kX5_read 0 [.ref 18, .int (nI lv), .int (nI o), .null, .null, .null] [] M Q
theorem nIt {n : Nat} (h : n < 1000) : (nI n).toInt = (n : Int) := n_nI (by omega)
theorem c_behind {g : zq_G} {d : Nat} {M : zq_M} {Q : Option Value → zq_M → Prop} {tk : Nat → Int} {m f lv o n k : Nat} (IH : IHr g tk m f) (hd : 3 * f ≤ d) (hE : ∀ j, m ≤ j → tk j = -22) (hm : m ≤ 160) (ht : tkP M tk m) (hlv : lv ≤ 5) (ho : o ≤ 5) (h7 : (M 18 7).toInt = (n : Int)) (h6 : (M 18 6).toInt = (k : Int)) (hk : k ≤ n) (hn : n < m) (h22 : tk n ≠ -22) (hmu : o < 5 → 8 * (5 - (o + 1)) + (5 - lv) < f) (h0 : 5 ≤ o → Q (some (.int 0)) M) (h1 : o < 5 → rsC (rd tk f lv (o + 1) (n + 1)) k M Q) : mx g (d + 1) kX5_readBehind 0 [.ref 18, .int (nI lv), .int (nI o)] [] M Q := by
  have f5 : (5 : Int32).toInt = 5 := rfl
  have eo := nIt (n := o) (by omega)
  refine mx_go 60 zq_t34 ?_
  show (((nI o) : Int32) < (5 : Int32) → mx g (d) kX5_advance 0 [.ref 18] [] M _) ∧ (¬ ((nI o) : Int32) < (5 : Int32) → zq_b 0 ∧ Q (some (.int 0)) M)
  refine ⟨fun z => ?_, fun z => ⟨Or.inl rfl, h0 (by rw [n_lt, f5] at z; omega)⟩⟩
  rw [n_lt, f5] at z
  refine c_X5_advance ht hE hm h7 hn h22 (fun M1 f1 e7 e6 e19 => ?_)
  show mx g (d) kX5_read 0 [.ref 18, .int ((nI lv)), .int (((nI o) + 1)), .null, .null, .null] [] M1 _
  rw [nI_1]
  refine IH d hd lv (o + 1) (n + 1) k M1 _ hlv (by omega) (tkP_fr ht f1) (by omega) (by omega) e7 (by rw [e6]; exact h6) (hmu (by omega)) (fun M2 f2 g7 gc => ?_)
  refine ⟨bI_b, h1 (by omega) M2 (fr_trans f1 f2) g7 (fun c => ?_)⟩
  have q := gc c
  refine ⟨q.1, fun j hj => ?_, q.2.2⟩
  rw [q.2.1 j hj, e19]
theorem c_readOne {g : zq_G} {d : Nat} {M : zq_M} {Q : Option Value → zq_M → Prop} {tk : Nat → Int} {m f o n k : Nat} (IH : IHr g tk m f) (hd : 3 * f ≤ d) (hE : ∀ j, m ≤ j → tk j = -22) (hm : m ≤ 160) (ht : tkP M tk m) (ho : o ≤ 5) (hn : n ≤ m) (h7 : (M 18 7).toInt = (n : Int)) (h6 : (M 18 6).toInt = (k : Int)) (hk : k ≤ n) (hmu : 8 * (5 - o) < f + 1) (hq : rsC (rd tk (f + 1) 5 o n) k M Q) : mx g (d + 2) kX5_readOne 0 [.ref 18, .int (nI o), .null] [] M Q := by
  have m6 : (-6 : Int32).toInt = -6 := by decide
  have m13 : (-13 : Int32).toInt = -13 := by decide
  have m15 : (-15 : Int32).toInt = -15 := by decide
  have m16 : (-16 : Int32).toInt = -16 := by decide
  have m17 : (-17 : Int32).toInt = -17 := by decide
  have et : (M 22 (M 18 7).toNatClampNeg).toInt = tk n := by rw [n_cl, h7, Int.toNat_natCast]; exact ht n hn
  have lt : tk n ≠ -22 → n < m := fun z => by
    by_cases c : m ≤ n
    · exact absurd (hE n c) z
    · omega
  have nin : vp_in (M 18 7) 161 := n_in (by omega) (by omega)
  have fail0 : rd tk (f + 1) 5 o n = (false, n, []) → Q (some (.int 0)) M := by
    intro e
    rw [e] at hq
    exact hq M fr_rfl h7 (fun z => abF z)
  have hrd : rd tk (f + 1) 5 o n = (if -6 ≤ tk n then (true, n + 1, [tk n]) else if tk n = -13 then (if 5 ≤ o then (false, n, []) else unR (-15) (rd tk f 5 (o + 1) (n + 1))) else if tk n = -16 then (if 5 ≤ o then (false, n, []) else paR tk (rd tk f 0 (o + 1) (n + 1))) else (false, n, [])) := by
    conv => lhs; unfold rd
    rw [if_pos (by omega)]
  rw [hrd] at hq fail0
  refine mx_go 100 zq_t33 ?_
  show vp_in (M 18 7) 161 ∧ ((((M 22) (Int32.toNatClampNeg (M 18 7))) : Int32) < ((-6) : Int32) → (¬ (((M 22) (Int32.toNatClampNeg (M 18 7))) : Int32) = ((-13) : Int32) → (¬ (((M 22) (Int32.toNatClampNeg (M 18 7))) : Int32) = ((-16) : Int32) → zq_b 0 ∧ Q (some (.int 0)) M) ∧ ((((M 22) (Int32.toNatClampNeg (M 18 7))) : Int32) = ((-16) : Int32) → mx g (d + 1) kX5_readBehind 0 [.ref 18, .int (0), .int ((nI o))] [] M _)) ∧ ((((M 22) (Int32.toNatClampNeg (M 18 7))) : Int32) = ((-13) : Int32) → mx g (d + 1) kX5_readBehind 0 [.ref 18, .int (5), .int ((nI o))] [] M _)) ∧ (¬ (((M 22) (Int32.toNatClampNeg (M 18 7))) : Int32) < ((-6) : Int32) → mx g (d + 1) kX5_advance 0 [.ref 18] [] M _)
  refine ⟨nin, fun z => ⟨fun y => ⟨fun w => ⟨Or.inl rfl, fail0 ?_⟩, fun w => ?_⟩, fun y => ?_⟩, fun z => ?_⟩
  · rw [n_lt, et, m6] at z
    rw [n_eq, et, m13] at y
    rw [n_eq, et, m16] at w
    rw [if_neg (by omega), if_neg y, if_neg w]
  · -- an opening sign
    rw [n_lt, et, m6] at z
    rw [n_eq, et, m13] at y
    rw [n_eq, et, m16] at w
    rw [if_neg (by omega), if_neg y, if_pos w] at hq fail0
    have l1 := lt (by omega)
    refine c_behind (lv := 0) IH hd hE hm ht (by omega) ho h7 h6 hk l1 (by omega) (fun c => by omega) (fun c => ?_) (fun c => ?_)
    · show ((0 : Int32) = 0 → zq_b 0 ∧ Q (some (.int 0)) M) ∧ (¬ (0 : Int32) = 0 → vp_in (M 18 7) 161 ∧ ((((M 22) (Int32.toNatClampNeg (M 18 7))) : Int32) = ((-17) : Int32) → mx g (d + 1) kX5_advance 0 [.ref 18] [] M _) ∧ (¬ (((M 22) (Int32.toNatClampNeg (M 18 7))) : Int32) = ((-17) : Int32) → zq_b 0 ∧ Q (some (.int 0)) M))
      exact ⟨fun _ => ⟨Or.inl rfl, fail0 (if_pos c)⟩, fun v => absurd rfl v⟩
    · rw [if_neg (by omega)] at hq
      have bd := rd_bd hE f 0 (o + 1) (n + 1) (by omega)
      intro M1 f1 e7 gc
      generalize rd tk f 0 (o + 1) (n + 1) = r at hq bd e7 gc
      unfold paR at hq
      cases hr : r.1 with
      | false =>
        rw [hr, if_neg (by decide)] at hq
        show ((0 : Int32) = 0 → zq_b 0 ∧ Q (some (.int 0)) M1) ∧ (¬ (0 : Int32) = 0 → vp_in (M1 18 7) 161 ∧ ((((M1 22) (Int32.toNatClampNeg (M1 18 7))) : Int32) = ((-17) : Int32) → mx g (d + 1) kX5_advance 0 [.ref 18] [] M1 _) ∧ (¬ (((M1 22) (Int32.toNatClampNeg (M1 18 7))) : Int32) = ((-17) : Int32) → zq_b 0 ∧ Q (some (.int 0)) M1))
        exact ⟨fun _ => ⟨Or.inl rfl, hq M1 f1 e7 (fun v => abF v)⟩, fun v => absurd rfl v⟩
      | true =>
        rw [hr, if_pos rfl] at hq
        have q := gc hr
        have et1 : (M1 22 (M1 18 7).toNatClampNeg).toInt = tk r.2.1 := by rw [n_cl, e7, Int.toNat_natCast]; exact tkP_fr ht f1 _ bd.1
        show ((1 : Int32) = 0 → zq_b 0 ∧ Q (some (.int 0)) M1) ∧ (¬ (1 : Int32) = 0 → vp_in (M1 18 7) 161 ∧ ((((M1 22) (Int32.toNatClampNeg (M1 18 7))) : Int32) = ((-17) : Int32) → mx g (d + 1) kX5_advance 0 [.ref 18] [] M1 _) ∧ (¬ (((M1 22) (Int32.toNatClampNeg (M1 18 7))) : Int32) = ((-17) : Int32) → zq_b 0 ∧ Q (some (.int 0)) M1))
        refine ⟨fun v => absurd v (by decide), fun _ => ⟨n_in (by omega) (by have := bd.1; omega), fun v => ?_, fun v => ⟨Or.inl rfl, ?_⟩⟩⟩
        · rw [n_eq, et1, m17] at v
          rw [if_pos v] at hq
          have l2 : r.2.1 < m := by
            by_cases c : m ≤ r.2.1
            · rw [hE _ c] at v; omega
            · omega
          refine c_X5_advance (tkP_fr ht f1) hE hm e7 l2 (by omega) (fun M2 f2 g7 g6 g19 => ?_)
          show zq_b 1 ∧ Q (some (.int 1)) M2
          refine ⟨Or.inr rfl, hq M2 (fr_trans f1 f2) g7 (fun _ => ⟨by rw [g6]; exact q.1, fun j hj => ?_, fun j x e => ?_⟩)⟩
          · rw [g19, q.2.1 j hj]
          · rw [g19]; exact q.2.2 j x e
        · rw [n_eq, et1, m17] at v
          rw [if_neg v] at hq
          exact hq M1 f1 e7 (fun w => abF w)
  · -- a minus
    rw [n_lt, et, m6] at z
    rw [n_eq, et, m13] at y
    rw [if_neg (by omega), if_pos y] at hq fail0
    have l1 := lt (by omega)
    refine c_behind (lv := 5) IH hd hE hm ht (by omega) ho h7 h6 hk l1 (by omega) (fun c => by omega) (fun c => ?_) (fun c => ?_)
    · show ((0 : Int32) = 0 → zq_b 0 ∧ Q (some (.int 0)) M) ∧ (¬ (0 : Int32) = 0 → mx g (d + 1) kX5_put 0 [.ref 18, .int ((-15))] [] M _)
      exact ⟨fun _ => ⟨Or.inl rfl, fail0 (if_pos c)⟩, fun v => absurd rfl v⟩
    · rw [if_neg (by omega)] at hq
      have bd := rd_bd hE f 5 (o + 1) (n + 1) (by omega)
      intro M1 f1 e7 gc
      generalize rd tk f 5 (o + 1) (n + 1) = r at hq bd e7 gc
      unfold unR at hq
      cases hr : r.1 with
      | false =>
        rw [hr, if_neg (by decide)] at hq
        show ((0 : Int32) = 0 → zq_b 0 ∧ Q (some (.int 0)) M1) ∧ (¬ (0 : Int32) = 0 → mx g (d + 1) kX5_put 0 [.ref 18, .int ((-15))] [] M1 _)
        exact ⟨fun _ => ⟨Or.inl rfl, hq M1 f1 e7 (fun v => abF v)⟩, fun v => absurd rfl v⟩
      | true =>
        rw [hr, if_pos rfl] at hq
        have q := gc hr
        have b3 := bd.2.2 hr
        show ((1 : Int32) = 0 → zq_b 0 ∧ Q (some (.int 0)) M1) ∧ (¬ (1 : Int32) = 0 → mx g (d + 1) kX5_put 0 [.ref 18, .int ((-15))] [] M1 _)
        refine ⟨fun v => absurd v (by decide), fun _ => ?_⟩
        refine c_X5_put (k := k + r.2.2.length) q.1 (by have := bd.1; omega) (fun M2 f2 g7 g6 gd => ?_)
        show ((1 : Int32) = 0 → zq_b 0 ∧ Q (some (.int 0)) M2) ∧ (¬ (1 : Int32) = 0 → zq_b 1 ∧ Q (some (.int 1)) M2)
        refine ⟨fun v => absurd v (by decide), fun _ => ⟨Or.inr rfl, hq M2 (fr_trans f1 f2) (by rw [g7]; exact e7) (fun _ => ⟨?_, ?_⟩)⟩⟩
        · rw [g6]
          show _ = ((k + (r.2.2 ++ [-15]).length : Nat) : Int)
          rw [List.length_append, List.length_singleton]
          omega
        · rw [m15] at gd
          exact cdP_app q.2 gd
  · -- a number or a name
    rw [n_lt, et, m6] at z
    rw [if_pos (by omega)] at hq
    have l1 := lt (by omega)
    refine c_X5_advance ht hE hm h7 l1 (by omega) (fun M1 f1 e7 e6 e19 => ?_)
    show mx g (d + 1) kX5_put 0 [.ref 18, .int ((M 22 (M 18 7).toNatClampNeg))] [] M1 _
    refine c_X5_put (k := k) (by rw [e6]; exact h6) (by omega) (fun M2 f2 g7 g6 gd => ?_)
    show zq_b 1 ∧ Q (some (.int 1)) M2
    refine ⟨Or.inr rfl, hq M2 (fr_trans f1 f2) (by rw [g7]; exact e7) (fun _ => ⟨g6, fun j hj => ?_, ?_⟩)⟩
    · rw [gd.1 j hj, e19]
    · rw [et] at gd
      exact gd.2

