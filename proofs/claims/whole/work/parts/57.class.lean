/-! a text: three parts -/
def ptR (tk : Nat → Int) (p n : Nat) : Rs := if tk n = -19 - (p : Int) then (if (rd tk 46 0 0 (n + 1)).1 = true ∧ tk (rd tk 46 0 0 (n + 1)).2.1 = -18 then (true, (rd tk 46 0 0 (n + 1)).2.1 + 1, (rd tk 46 0 0 (n + 1)).2.2) else (false, (rd tk 46 0 0 (n + 1)).2.1, [])) else (false, n, [])
abbrev TX : Type := Bool × Nat × List Int × List Int × List Int
def txA (tk : Nat → Int) : TX := if (ptR tk 0 0).1 = true then (if (ptR tk 1 (ptR tk 0 0).2.1).1 = true then (if (ptR tk 2 (ptR tk 1 (ptR tk 0 0).2.1).2.1).1 = true then (decide (tk (ptR tk 2 (ptR tk 1 (ptR tk 0 0).2.1).2.1).2.1 = -22), (ptR tk 2 (ptR tk 1 (ptR tk 0 0).2.1).2.1).2.1, (ptR tk 0 0).2.2, (ptR tk 1 (ptR tk 0 0).2.1).2.2, (ptR tk 2 (ptR tk 1 (ptR tk 0 0).2.1).2.1).2.2) else (false, (ptR tk 2 (ptR tk 1 (ptR tk 0 0).2.1).2.1).2.1, [], [], [])) else (false, (ptR tk 1 (ptR tk 0 0).2.1).2.1, [], [], [])) else (false, (ptR tk 0 0).2.1, [], [], [])
theorem ptR_bd {tk : Nat → Int} {m p n : Nat} (hE : ∀ j, m ≤ j → tk j = -22) (hp : p < 3) (hn : n ≤ m) : (ptR tk p n).2.1 ≤ m ∧ n ≤ (ptR tk p n).2.1 ∧ ((ptR tk p n).1 = true → n + (ptR tk p n).2.2.length ≤ (ptR tk p n).2.1) := by
  unfold ptR
  by_cases c : tk n = -19 - (p : Int)
  · rw [if_pos c]
    have lt : n < m := by
      by_cases e : m ≤ n
      · rw [hE n e] at c; omega
      · omega
    have q := rd_bd hE 46 0 0 (n + 1) (by omega)
    by_cases c2 : (rd tk 46 0 0 (n + 1)).1 = true ∧ tk (rd tk 46 0 0 (n + 1)).2.1 = -18
    · rw [if_pos c2]
      have lt2 : (rd tk 46 0 0 (n + 1)).2.1 < m := by
        by_cases e : m ≤ (rd tk 46 0 0 (n + 1)).2.1
        · have := c2.2; rw [hE _ e] at this; omega
        · omega
      have q3 := q.2.2 c2.1
      exact ⟨by show (rd tk 46 0 0 (n + 1)).2.1 + 1 ≤ m; omega, by show n ≤ (rd tk 46 0 0 (n + 1)).2.1 + 1; omega, fun _ => by show n + (rd tk 46 0 0 (n + 1)).2.2.length ≤ (rd tk 46 0 0 (n + 1)).2.1 + 1; omega⟩
    · rw [if_neg c2]
      exact ⟨q.1, by have := q.2.1; show n ≤ (rd tk 46 0 0 (n + 1)).2.1; omega, fun z => abF z⟩
  · rw [if_neg c]
    exact ⟨hn, Nat.le_refl _, fun z => abF z⟩
def fT (c i : Nat) : Bool := c == 20 || fR c i
theorem fT_of {M M' : zq_M} (h : fr fR M M') : fr fT M M' := fr_mono h (fun c i e => by
  unfold fT at e
  cases q : fR c i with
  | false => rfl
  | true => rw [q, Bool.or_true] at e; exact abT e)
theorem key_rf {g : zq_G} {p : Nat} (hp : p < 3) : (zq_rf g 5 (nI p).toNatClampNeg).toInt = -19 - (p : Int) := by
  rcases (show p = 0 ∨ p = 1 ∨ p = 2 by omega) with e | e | e <;> subst e <;> rfl
theorem c_part {g : zq_G} {d : Nat} {M : zq_M} {Q : Option Value → zq_M → Prop} {tk : Nat → Int} {m p n k : Nat} (hE : ∀ j, m ≤ j → tk j = -22) (hm : m ≤ 160) (ht : tkP M tk m) (hp : p < 3) (hn : n ≤ m) (hk : k ≤ n) (h7 : (M 18 7).toInt = (n : Int)) (h6 : (M 18 6).toInt = (k : Int)) (h0 : (ptR tk p n).1 = false → ∀ M' : zq_M, fr fT M M' → (M' 18 7).toInt = ((ptR tk p n).2.1 : Int) → Q (some (.int 0)) M') (h1 : (ptR tk p n).1 = true → ∀ M' : zq_M, fr fT M M' → (M' 18 7).toInt = ((ptR tk p n).2.1 : Int) → (M' 18 6).toInt = ((k + (ptR tk p n).2.2.length : Nat) : Int) → cdP M M' k (ptR tk p n).2.2 → M' 20 = upd (M 20) p (M' 18 6) → mx g (d + 140) kX5_readText 2 [.ref 18, .int (nI (p + 1))] [] M' Q) : mx g (d + 140) kX5_readText 2 [.ref 18, .int (nI p)] [] M Q := by
  have f3 : (3 : Int32).toInt = 3 := rfl
  have m18 : (-18 : Int32).toInt = -18 := by decide
  have ep := nIt (n := p) (by omega)
  have kr := key_rf (g := g) hp
  have et : (M 22 (M 18 7).toNatClampNeg).toInt = tk n := by rw [n_cl, h7, Int.toNat_natCast]; exact ht n hn
  have nin : vp_in (M 18 7) 161 := n_in (by omega) (by omega)
  refine mx_go 250 zq_t31 ?_
  show ((3 : Int32) ≤ ((nI p) : Int32) → vp_in (M 18 7) 161 ∧ (¬ (((M 22) (Int32.toNatClampNeg (M 18 7))) : Int32) = ((-22) : Int32) → zq_b 0 ∧ Q (some (.int 0)) M) ∧ ((((M 22) (Int32.toNatClampNeg (M 18 7))) : Int32) = ((-22) : Int32) → zq_b 1 ∧ Q (some (.int 1)) M)) ∧ (¬ (3 : Int32) ≤ ((nI p) : Int32) → vp_in (M 18 7) 161 ∧ vp_in (nI p) 3 ∧ ((((M 22) (Int32.toNatClampNeg (M 18 7))) : Int32) = ((zq_rf g 5 (Int32.toNatClampNeg (nI p))) : Int32) → mx g (d + 139) kX5_advance 0 [.ref 18] [] M _) ∧ (¬ (((M 22) (Int32.toNatClampNeg (M 18 7))) : Int32) = ((zq_rf g 5 (Int32.toNatClampNeg (nI p))) : Int32) → zq_b 0 ∧ Q (some (.int 0)) M))
  unfold ptR at h0 h1
  refine ⟨fun z => absurd z (by rw [n_le, f3]; omega), fun _ => ⟨nin, n_in (by omega) (by rw [ep]; exact (show (p : Int) < 3 by omega)), fun z => ?_, fun z => ?_⟩⟩
  rotate_left
  · rw [n_eq, et, kr] at z
    rw [if_neg z] at h0
    exact ⟨Or.inl rfl, h0 rfl M fr_rfl h7⟩
  rw [n_eq, et, kr] at z
  rw [if_pos z] at h0 h1
  have lt : n < m := by
    by_cases e : m ≤ n
    · rw [hE n e] at z; omega
    · omega
  refine c_X5_advance ht hE hm h7 lt (by omega) (fun M1 f1 e7 e6 e19 => ?_)
  show mx g (d + 139) kX5_read 0 [.ref 18, .int (0), .int (0), .null, .null, .null] [] M1 _
  refine c_read hE hm 46 (d + 139) (by omega) 0 0 (n + 1) k M1 _ (by omega) (by omega) (tkP_fr ht f1) (by omega) (by omega) e7 (by rw [e6]; exact h6) (by omega) (fun M2 f2 g7 gc => ?_)
  have bd := rd_bd hE 46 0 0 (n + 1) (by omega)
  generalize rd tk 46 0 0 (n + 1) = r at h0 h1 g7 gc bd ⊢
  have f12 := fr_trans f1 f2
  cases hr : r.1 with
  | false =>
    rw [if_neg (fun w => by have := w.1; rw [hr] at this; exact abF this)] at h0
    show (¬ (0 : Int32) = 0 → vp_in (M2 18 7) 161 ∧ ((((M2 22) (Int32.toNatClampNeg (M2 18 7))) : Int32) = ((-18) : Int32) → mx g (d + 139) kX5_advance 0 [.ref 18] [] M2 _) ∧ (¬ (((M2 22) (Int32.toNatClampNeg (M2 18 7))) : Int32) = ((-18) : Int32) → zq_b 0 ∧ Q (some (.int 0)) M2)) ∧ ((0 : Int32) = 0 → zq_b 0 ∧ Q (some (.int 0)) M2)
    exact ⟨fun w => absurd rfl w, fun _ => ⟨Or.inl rfl, h0 rfl M2 (fT_of f12) g7⟩⟩
  | true =>
    have q := gc hr
    have et2 : (M2 22 (M2 18 7).toNatClampNeg).toInt = tk r.2.1 := by rw [n_cl, g7, Int.toNat_natCast]; exact tkP_fr ht f12 _ bd.1
    show (¬ (1 : Int32) = 0 → vp_in (M2 18 7) 161 ∧ ((((M2 22) (Int32.toNatClampNeg (M2 18 7))) : Int32) = ((-18) : Int32) → mx g (d + 139) kX5_advance 0 [.ref 18] [] M2 _) ∧ (¬ (((M2 22) (Int32.toNatClampNeg (M2 18 7))) : Int32) = ((-18) : Int32) → zq_b 0 ∧ Q (some (.int 0)) M2)) ∧ ((1 : Int32) = 0 → zq_b 0 ∧ Q (some (.int 0)) M2)
    refine ⟨fun _ => ⟨n_in (by omega) (by have := bd.1; omega), fun w => ?_, fun w => ?_⟩, fun w => absurd w (by decide)⟩
    · rw [n_eq, et2, m18] at w
      rw [if_pos ⟨hr, w⟩] at h1
      have lt2 : r.2.1 < m := by
        by_cases e : m ≤ r.2.1
        · rw [hE _ e] at w; omega
        · omega
      refine c_X5_advance (tkP_fr ht f12) hE hm g7 lt2 (by omega) (fun M3 f3' r7 r6 r19 => ?_)
      show vp_in (nI p) 3 ∧ mx g (d + 140) kX5_readText 2 [.ref 18, .int (((nI p) + 1))] [] (zq_ma M3 20 (upd (M3 20) (Int32.toNatClampNeg (nI p)) (M3 18 6))) Q
      refine ⟨n_in (by omega) (by rw [ep]; exact (show (p : Int) < 3 by omega)), ?_⟩
      rw [nI_1]
      have fa : fr fT M M3 := fT_of (fr_trans f12 f3')
      refine h1 rfl _ (fr_ma fa (fun _ => rfl)) r7 ?_ ?_ ?_
      · show (M3 18 6).toInt = _
        rw [r6]
        exact q.1
      · refine ⟨fun j hj => ?_, fun j x e => ?_⟩
        · show M3 19 j = _
          rw [r19, q.2.1 j hj, e19]
        · show (M3 19 (k + j)).toInt = x
          rw [r19]
          exact q.2.2 j x e
      · show upd (M3 20) (nI p).toNatClampNeg (M3 18 6) = upd (M 20) p (M3 18 6)
        rw [n_cl, ep, Int.toNat_natCast, show M3 20 = M 20 from (fr_trans f12 f3' |> fun h => fr_ar h 20 (fun _ => rfl))]
    · rw [n_eq, et2, m18] at w
      rw [if_neg (fun v => w v.2)] at h0
      exact ⟨Or.inl rfl, h0 rfl M2 (fT_of f12) g7⟩
def txC (A : TX) (M M' : zq_M) : Prop := cdP M M' 0 (A.2.2.1 ++ A.2.2.2.1 ++ A.2.2.2.2) ∧ (M' 20 0).toInt = (A.2.2.1.length : Int) ∧ (M' 20 1).toInt = ((A.2.2.1.length + A.2.2.2.1.length : Nat) : Int) ∧ (M' 20 2).toInt = ((A.2.2.1.length + A.2.2.2.1.length + A.2.2.2.2.length : Nat) : Int)
theorem c_X5_readText {g : zq_G} {d : Nat} {M : zq_M} {Q : Option Value → zq_M → Prop} {tk : Nat → Int} {m : Nat} (hE : ∀ j, m ≤ j → tk j = -22) (hm : m ≤ 160) (ht : tkP M tk m) (h7 : M 18 7 = 0) (h6 : M 18 6 = 0) (hq : ∀ M' : zq_M, fr fT M M' → (M' 18 7).toInt = ((txA tk).2.1 : Int) → ((txA tk).1 = true → txC (txA tk) M M') → Q (some (.int (bI (txA tk).1))) M') : mx g (d + 140) kX5_readText 0 [.ref 18, .null] [] M Q := by
  have m22 : (-22 : Int32).toInt = -22 := by decide
  have tkT' : ∀ {M' : zq_M}, fr fT M M' → tkP M' tk m := fun hf j hj => by rw [hf 22 j rfl]; exact ht j hj
  have hA := ptR_bd (p := 0) hE (by omega) (show 0 ≤ m by omega)
  have hB := ptR_bd (p := 1) hE (by omega) hA.1
  have hC := ptR_bd (p := 2) hE (by omega) hB.1
  unfold txA at hq
  refine mx_go 250 zq_t31 ?_
  show mx g (d + 140) kX5_readText 2 [.ref 18, .int (nI 0)] [] M Q
  refine c_part (p := 0) (n := 0) (k := 0) hE hm ht (by omega) (by omega) (by omega) (by rw [h7]; rfl) (by rw [h6]; rfl) (fun e M1 f1 e7 => ?_) (fun e M1 f1 e7 e6 ec e20 => ?_)
  · rw [if_neg (by rw [e]; decide)] at hq
    exact hq M1 f1 e7 (fun z => abF z)
  rw [if_pos e] at hq
  have lA := hA.2.2 e
  refine c_part (p := 1) (n := (ptR tk 0 0).2.1) (k := 0 + (ptR tk 0 0).2.2.length) hE hm (tkT' f1) (by omega) hA.1 (by omega) e7 e6 (fun e' M2 f2 g7 => ?_) (fun e' M2 f2 g7 g6 gc g20 => ?_)
  · rw [if_neg (by rw [e']; decide)] at hq
    exact hq M2 (fr_trans f1 f2) g7 (fun z => abF z)
  rw [if_pos e'] at hq
  have lB := hB.2.2 e'
  have f12 := fr_trans f1 f2
  refine c_part (p := 2) (n := (ptR tk 1 (ptR tk 0 0).2.1).2.1) (k := 0 + (ptR tk 0 0).2.2.length + (ptR tk 1 (ptR tk 0 0).2.1).2.2.length) hE hm (tkT' f12) (by omega) hB.1 (by omega) g7 g6 (fun e2 M3 f3 r7 => ?_) (fun e2 M3 f3 r7 r6 rc r20 => ?_)
  · rw [if_neg (by rw [e2]; decide)] at hq
    exact hq M3 (fr_trans f12 f3) r7 (fun z => abF z)
  rw [if_pos e2] at hq
  have fa := fr_trans f12 f3
  generalize ptR tk 2 (ptR tk 1 (ptR tk 0 0).2.1).2.1 = C at hq hC r7 r6 rc
  generalize ptR tk 1 (ptR tk 0 0).2.1 = B at hq hB gc g6 r6 rc
  generalize ptR tk 0 0 = A at hq hA ec e6 gc g6 r6 rc
  have et : (M3 22 (M3 18 7).toNatClampNeg).toInt = tk C.2.1 := by rw [n_cl, r7, Int.toNat_natCast]; exact tkT' fa _ hC.1
  have cod : txC (decide (tk C.2.1 = -22), C.2.1, A.2.2, B.2.2, C.2.2) M M3 := by
    have c1 := cdP_app ec gc
    have c2 := cdP_app c1 (by rw [List.length_append, ← Nat.add_assoc]; exact rc)
    refine ⟨c2, ?_, ?_, ?_⟩
    · show (M3 20 0).toInt = _
      rw [r20, upd_ne (by omega), g20, upd_ne (by omega), e20, upd_eq, e6, Nat.zero_add]
    · show (M3 20 1).toInt = _
      rw [r20, upd_ne (by omega), g20, upd_eq, g6, Nat.zero_add]
    · show (M3 20 2).toInt = _
      rw [r20, upd_eq, r6, Nat.zero_add]
  refine mx_go 250 zq_t31 ?_
  show ((3 : Int32) ≤ ((nI (2 + 1)) : Int32) → vp_in (M3 18 7) 161 ∧ (¬ (((M3 22) (Int32.toNatClampNeg (M3 18 7))) : Int32) = ((-22) : Int32) → zq_b 0 ∧ Q (some (.int 0)) M3) ∧ ((((M3 22) (Int32.toNatClampNeg (M3 18 7))) : Int32) = ((-22) : Int32) → zq_b 1 ∧ Q (some (.int 1)) M3)) ∧ (¬ (3 : Int32) ≤ ((nI (2 + 1)) : Int32) → vp_in (M3 18 7) 161 ∧ vp_in (nI (2 + 1)) 3 ∧ ((((M3 22) (Int32.toNatClampNeg (M3 18 7))) : Int32) = ((zq_rf g 5 (Int32.toNatClampNeg (nI (2 + 1)))) : Int32) → mx g (d + 139) kX5_advance 0 [.ref 18] [] M3 _) ∧ (¬ (((M3 22) (Int32.toNatClampNeg (M3 18 7))) : Int32) = ((zq_rf g 5 (Int32.toNatClampNeg (nI (2 + 1)))) : Int32) → zq_b 0 ∧ Q (some (.int 0)) M3))
  refine ⟨fun _ => ⟨n_in (by omega) (by have := hC.1; omega), fun w => ⟨Or.inl rfl, ?_⟩, fun w => ⟨Or.inr rfl, ?_⟩⟩, fun z => absurd (by decide) z⟩
  · rw [n_eq, et, m22] at w
    rw [decide_eq_false w] at hq
    exact hq M3 fa r7 (fun z => abF z)
  · rw [n_eq, et, m22] at w
    rw [decide_eq_true w] at hq cod
    exact hq M3 fa r7 (fun _ => cod)
def fV (c i : Nat) : Bool := c == 22 || c == 23 || c == 20 || c == 19 || (c == 18 && (i == 5 || i == 6 || i == 7))
theorem c_X5_readTape {g : zq_G} {d : Nat} {M : zq_M} {Q : Option Value → zq_M → Prop} {t : Nat → Int} {z : Nat} (ht : tpX M t z) (h1 : (txA (tkS t z)).1 = true → ∀ M' : zq_M, fr fV M M' → M' 18 5 = 0 → txC (txA (tkS t z)) M M' → Q (some (.int (-1))) M') (h0 : (txA (tkS t z)).1 = false → ∀ (M' : zq_M) (v : Int32), fr fV M M' → M' 18 5 = 0 → v.toInt = ((stS t z (txA (tkS t z)).2.1 : Nat) : Int) → Q (some (.int v)) M') : mx g (d + 141) kX5_readTape 0 [.ref 18] [] M Q := by
  refine mx_go 250 zq_t30 ?_
  show mx g (d + 140) kX5_cut 0 [.ref 18, .null, .null, .null, .null] [] M _
  refine c_X5_cut (d := d + 132) ht (fun M1 m f1 hm es hj => ?_)
  show mx g (d + 140) kX5_readText 0 [.ref 18, .null] [] (zq_mu (zq_mu (zq_mu M1 18 5 0) 18 6 0) 18 7 0) _
  have hE := fun j (hj : m ≤ j) => tkS_end es j hj
  have fV1 : fr fV M M1 := fr_mono f1 (fun c i e => by
    unfold fV at e
    unfold fL
    by_cases c22 : c = 22
    · rw [c22] at e; exact abT e
    by_cases c23 : c = 23
    · rw [c23] at e; exact abT e
    show (c == 22 || (c == 23 || false)) = false
    rw [beq_false_of_ne c22, beq_false_of_ne c23]
    rfl)
  have fV2 : fr fV M (zq_mu (zq_mu (zq_mu M1 18 5 0) 18 6 0) 18 7 0) := fr_mu (fr_mu (fr_mu fV1 rfl) rfl) rfl
  have k5 : (zq_mu (zq_mu (zq_mu M1 18 5 0) 18 6 0) 18 7 0) 18 5 = 0 := rfl
  have k6 : (zq_mu (zq_mu (zq_mu M1 18 5 0) 18 6 0) 18 7 0) 18 6 = 0 := rfl
  have k7 : (zq_mu (zq_mu (zq_mu M1 18 5 0) 18 6 0) 18 7 0) 18 7 = 0 := rfl
  have k22 : (zq_mu (zq_mu (zq_mu M1 18 5 0) 18 6 0) 18 7 0) 22 = M1 22 := rfl
  have k23 : (zq_mu (zq_mu (zq_mu M1 18 5 0) 18 6 0) 18 7 0) 23 = M1 23 := rfl
  have k19 : (zq_mu (zq_mu (zq_mu M1 18 5 0) 18 6 0) 18 7 0) 19 = M 19 := fr_ar f1 19 (fun _ => rfl)
  generalize zq_mu (zq_mu (zq_mu M1 18 5 0) 18 6 0) 18 7 0 = M2 at fV2 k5 k6 k7 k22 k23 k19 ⊢
  refine c_X5_readText (m := m) hE hm (fun j h => by rw [k22]; exact (hj j h).1) k7 k6 (fun M3 f3 e7 ec => ?_)
  have fV3 : fr fV M M3 := fr_trans fV2 (fr_mono f3 (fun c i e => by
    unfold fV at e
    unfold fT fR
    by_cases c20 : c = 20
    · rw [c20] at e; exact abT e
    by_cases c19 : c = 19
    · rw [c19] at e; exact abT e
    rw [beq_false_of_ne c20, beq_false_of_ne c19]
    by_cases c18 : c = 18
    · rw [c18] at e
      by_cases i6 : i = 6
      · rw [i6] at e; exact abT e
      by_cases i7 : i = 7
      · rw [i7] at e; exact abT e
      rw [beq_false_of_ne i6, beq_false_of_ne i7, c18]
      rfl
    · rw [beq_false_of_ne c18]
      rfl))
  have e5 : M3 18 5 = 0 := by rw [f3 18 5 rfl, k5]
  have bd : (txA (tkS t z)).2.1 ≤ m := by
    have hA := ptR_bd (p := 0) hE (by omega) (show 0 ≤ m by omega)
    have hB := ptR_bd (p := 1) hE (by omega) hA.1
    have hC := ptR_bd (p := 2) hE (by omega) hB.1
    unfold txA
    repeat' split
    all_goals first | exact hC.1 | exact hB.1 | exact hA.1
  generalize hA : txA (tkS t z) = A at h1 h0 e7 ec bd ⊢
  cases hr : A.1 with
  | false =>
    show ((0 : Int32) = 0 → vp_in (M3 18 7) 161 ∧ Q (some (.int ((M3 23) (Int32.toNatClampNeg (M3 18 7))))) M3) ∧ (¬ (0 : Int32) = 0 → Q (some (.int (-1))) M3)
    refine ⟨fun _ => ⟨n_in (by omega) (by omega), h0 hr M3 _ fV3 e5 ?_⟩, fun w => absurd rfl w⟩
    rw [n_cl, e7, Int.toNat_natCast, fr_ar f3 23 (fun _ => rfl), k23]
    exact (hj _ bd).2
  | true =>
    show ((1 : Int32) = 0 → vp_in (M3 18 7) 161 ∧ Q (some (.int ((M3 23) (Int32.toNatClampNeg (M3 18 7))))) M3) ∧ (¬ (1 : Int32) = 0 → Q (some (.int (-1))) M3)
    refine ⟨fun w => absurd w (by decide), fun _ => h1 hr M3 fV3 e5 ?_⟩
    have q := ec hr
    refine ⟨⟨fun j hj => by omega, q.1.2⟩, q.2⟩

