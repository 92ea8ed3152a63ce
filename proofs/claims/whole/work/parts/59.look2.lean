theorem c_X12_look {g : zq_G} {d : Nat} {M : zq_M} {Q : Option Value → zq_M → Prop} {t : Nat → Int} {z p0 : Nat} (ht : tpM M t z) (h14 : (M 48 14).toInt = (p0 : Int)) (hz : p0 ≤ z) (hq : ∀ M' : zq_M, fr fK M M' → lkP M' t z (rz bkB t z p0) → Q none M') : mx g (d + 2) kX12_look 0 [.ref 48, .null] [] M Q := by
  have f32 : (32 : Int32).toInt = 32 := rfl
  have f10 : (10 : Int32).toInt = 10 := rfl
  have z160 := ht.2.1
  refine mx_wf (fun _ : Nat => [.ref 48, .null]) (fun p M' => fr fK M M' ∧ p ≤ z ∧ (M' 48 14).toInt = (p : Int) ∧ rz bkB t z p0 = rz bkB t z p) (fun p => z - p) ?_ p0 M ⟨fr_rfl, hz, h14, rfl⟩
  intro p M' ⟨i0, i1, i2, i3⟩ ih
  have ht' := tpM_fr ht i0
  have bf := byT_f (f := bkB) (t := t) (z := z) (p := p) (by decide)
  have skip : bkB (byT t z p) = true → mx g (d + 2) kX12_look 0 [.ref 48, .null] [] (zq_mu M' 48 14 (M' 48 14 + 1)) Q := by
    intro c
    have b := bf.mp c
    refine ih (p + 1) _ (by omega) ⟨fr_mu i0 rfl, by omega, ?_, by rw [i3, rz_go b.1 b.2]⟩
    show (M' 48 14 + 1).toInt = _
    rw [n_add, n_1, i2, zw_id (by omega) (by omega)]
    omega
  unfold bkB at skip
  refine mx_go 250 zq_t154 ?_
  show mx g (d + 1) kX12_byteAt 0 [.ref 48, .int ((M' 48 14))] [] M' _
  refine c_X12_byteAt ht' i2 (fun v hv => ?_)
  show ((v : Int32) = (32 : Int32) → mx g (d + 2) kX12_look 0 [.ref 48, .null] [] (zq_mu M' 48 14 ((M' 48 14) + 1)) Q) ∧ (¬ (v : Int32) = (32 : Int32) → mx g (d + 1) kX12_byteAt 0 [.ref 48, .int ((M' 48 14))] [] M' _)
  refine ⟨fun e => skip (decide_eq_true ?_), fun e => ?_⟩
  · rw [n_eq, hv, f32] at e
    exact Or.inl e
  rw [n_eq, hv, f32] at e
  refine c_X12_byteAt ht' i2 (fun v2 hv2 => ?_)
  show (¬ (v2 : Int32) = (10 : Int32) → mx g (d + 1) kX12_byteAt 0 [.ref 48, .int ((M' 48 14))] [] M' _) ∧ ((v2 : Int32) = (10 : Int32) → mx g (d + 2) kX12_look 0 [.ref 48, .null] [] (zq_mu M' 48 14 ((M' 48 14) + 1)) Q)
  refine ⟨fun e2 => ?_, fun e2 => skip (decide_eq_true ?_)⟩
  rotate_left
  · rw [n_eq, hv2, f10] at e2
    exact Or.inr e2
  rw [n_eq, hv2, f10] at e2
  have er : rz bkB t z p = p := rz_no (fun w => by
    have := bf.mpr w
    unfold bkB at this
    have := of_decide_eq_true this
    omega)
  rw [i3, er] at hq
  have ec1 : p < z → byT t z p = t p := fun w => if_pos w
  have ec0 : ¬ p < z → byT t z p = -1 := fun w => if_neg w
  have bd := byT_b (z := z) (p := p) (fun i => (ht.2.2 i).2)
  refine c_X12_byteAt ht' i2 (fun v3 hv3 => ?_)
  show mx g (d + 1) kX12_isDigit 0 [.ref 48, .int (v3)] [] (zq_mu (zq_mu M' 48 17 1) 48 16 0) _
  have g0 : fr fK M (zq_mu (zq_mu M' 48 17 1) 48 16 0) := fr_mu (fr_mu i0 rfl) rfl
  have g14 : (zq_mu (zq_mu M' 48 17 1) 48 16 0) 48 14 = M' 48 14 := rfl
  have g17 : (zq_mu (zq_mu M' 48 17 1) 48 16 0) 48 17 = 1 := rfl
  have g16 : (zq_mu (zq_mu M' 48 17 1) 48 16 0) 48 16 = 0 := rfl
  generalize zq_mu (zq_mu M' 48 17 1) 48 16 0 = M2 at g0 g14 g17 g16 ⊢
  have ht2 := tpM_fr ht g0
  have bd2 := byT_f (f := dgB) (t := t) (z := z) (p := p) (by decide)
  have bl2 := byT_f (f := ltB) (t := t) (z := z) (p := p) (by decide)
  refine c_X12_isDigit ?_
  rw [hv3]
  cases cd : dgB (byT t z p) with
  | true =>
    rw [cd] at bd2
    have b := bd2.mp rfl
    show ((1 : Int32) = 0 → mx g (d + 1) kX12_isLetter 0 [.ref 48, .int (v3)] [] M2 _) ∧ (¬ (1 : Int32) = 0 → mx g (d + 2) kX12_look 76 [.ref 48, .null] [] (zq_mu (zq_mu M2 48 15 1) 48 17 0) Q)
    refine ⟨fun w => absurd w (by decide), fun _ => ?_⟩
    have fe : fr fK M2 (zq_mu (zq_mu M2 48 15 1) 48 17 0) := fr_mu (fr_mu fr_rfl rfl) rfl
    refine c_look76 (q := p) (tpM_fr ht2 fe) (by show (M2 48 14).toInt = _; rw [g14]; exact i2) b.1 b.2 (by show M2 48 16 = 0; exact g16) rfl (fun M3 f3 l3 => hq M3 (fr_trans g0 (fr_trans fe f3)) l3)
  | false =>
    rw [cd] at bd2
    show ((0 : Int32) = 0 → mx g (d + 1) kX12_isLetter 0 [.ref 48, .int (v3)] [] M2 _) ∧ (¬ (0 : Int32) = 0 → mx g (d + 2) kX12_look 76 [.ref 48, .null] [] (zq_mu (zq_mu M2 48 15 1) 48 17 0) Q)
    refine ⟨fun _ => ?_, fun w => absurd rfl w⟩
    refine c_X12_isLetter ?_
    rw [hv3]
    cases cl : ltB (byT t z p) with
    | true =>
      rw [cl] at bl2
      have b := bl2.mp rfl
      show ((1 : Int32) = 0 → ((v3 : Int32) = (40 : Int32) → Q none (zq_mu M2 48 15 v3)) ∧ (¬ (v3 : Int32) = (40 : Int32) → ((v3 : Int32) = (41 : Int32) → Q none (zq_mu M2 48 15 v3)) ∧ (¬ (v3 : Int32) = (41 : Int32) → ((v3 : Int32) = (59 : Int32) → Q none (zq_mu M2 48 15 v3)) ∧ (¬ (v3 : Int32) = (59 : Int32) → ((v3 : Int32) = (43 : Int32) → Q none (zq_mu M2 48 15 v3)) ∧ (¬ (v3 : Int32) = (43 : Int32) → ((v3 : Int32) = (45 : Int32) → Q none (zq_mu M2 48 15 v3)) ∧ (¬ (v3 : Int32) = (45 : Int32) → ((v3 : Int32) = (42 : Int32) → Q none (zq_mu M2 48 15 v3)) ∧ (¬ (v3 : Int32) = (42 : Int32) → ((v3 : Int32) = (60 : Int32) → Q none (zq_mu M2 48 15 v3)) ∧ (¬ (v3 : Int32) = (60 : Int32) → (¬ (v3 : Int32) = (61 : Int32) → (0 ≤ (v3 : Int32) → Q none (zq_mu M2 48 15 (-2))) ∧ (¬ 0 ≤ (v3 : Int32) → Q none (zq_mu M2 48 15 (-1)))) ∧ ((v3 : Int32) = (61 : Int32) → Q none (zq_mu M2 48 15 v3)))))))))) ∧ (¬ (1 : Int32) = 0 → mx g (d + 2) kX12_look 186 [.ref 48, .null] [] (zq_mu M2 48 17 0) Q)
      refine ⟨fun w => absurd w (by decide), fun _ => ?_⟩
      have fe : fr fK M2 (zq_mu M2 48 17 0) := fr_mu fr_rfl rfl
      refine c_look186 (q := p) (tpM_fr ht2 fe) (by show (M2 48 14).toInt = _; rw [g14]; exact i2) b.1 b.2 (by show M2 48 16 = 0; exact g16) rfl (fun M3 f3 l3 => hq M3 (fr_trans g0 (fr_trans fe f3)) l3)
    | false =>
      rw [cl] at bl2
      have tS : p < z → tkQ t z p = sgT (t p) := fun w => by
        unfold tkQ tkT
        rw [if_pos w, if_neg (fun y => abF (bl2.mpr ⟨w, y⟩)), if_neg (fun y => abF (bd2.mpr ⟨w, y⟩))]
      have en : p < z → enT t z p = p + 1 := fun w => by
        unfold enT
        rw [if_neg (fun y => abF (bl2.mpr ⟨w, y⟩)), if_neg (fun y => abF (bd2.mpr ⟨w, y⟩))]
      have fin : ∀ w : Int32, w.toInt = tkn (tkQ t z p) → (tkn (tkQ t z p) ≠ 1 ∧ tkn (tkQ t z p) ≠ 2) → Q none (zq_mu M2 48 15 w) := by
        intro w hw hn
        refine hq _ (fr_mu g0 rfl) ⟨?_, hw, fun y => ?_, fun y => ?_⟩
        · show (M2 48 14).toInt = _
          rw [g14]; exact i2
        · rcases y with y | y
          · exact absurd y hn.1
          · exact absurd y hn.2
        · show (M2 48 17).toInt = _
          rw [g17, en y]
          show (1 : Int32).toInt = _
          rw [n_1]; omega
      have pz : ∀ c : Int, 0 ≤ c → byT t z p = c → p < z := fun c hc hb => by
        by_cases w : p < z
        · exact w
        · rw [ec0 w] at hb; omega
      show ((0 : Int32) = 0 → ((v3 : Int32) = (40 : Int32) → Q none (zq_mu M2 48 15 v3)) ∧ (¬ (v3 : Int32) = (40 : Int32) → ((v3 : Int32) = (41 : Int32) → Q none (zq_mu M2 48 15 v3)) ∧ (¬ (v3 : Int32) = (41 : Int32) → ((v3 : Int32) = (59 : Int32) → Q none (zq_mu M2 48 15 v3)) ∧ (¬ (v3 : Int32) = (59 : Int32) → ((v3 : Int32) = (43 : Int32) → Q none (zq_mu M2 48 15 v3)) ∧ (¬ (v3 : Int32) = (43 : Int32) → ((v3 : Int32) = (45 : Int32) → Q none (zq_mu M2 48 15 v3)) ∧ (¬ (v3 : Int32) = (45 : Int32) → ((v3 : Int32) = (42 : Int32) → Q none (zq_mu M2 48 15 v3)) ∧ (¬ (v3 : Int32) = (42 : Int32) → ((v3 : Int32) = (60 : Int32) → Q none (zq_mu M2 48 15 v3)) ∧ (¬ (v3 : Int32) = (60 : Int32) → (¬ (v3 : Int32) = (61 : Int32) → (0 ≤ (v3 : Int32) → Q none (zq_mu M2 48 15 (-2))) ∧ (¬ 0 ≤ (v3 : Int32) → Q none (zq_mu M2 48 15 (-1)))) ∧ ((v3 : Int32) = (61 : Int32) → Q none (zq_mu M2 48 15 v3)))))))))) ∧ (¬ (0 : Int32) = 0 → mx g (d + 2) kX12_look 186 [.ref 48, .null] [] (zq_mu M2 48 17 0) Q)
      refine ⟨fun _ => ?_, fun w => absurd rfl w⟩
      refine ⟨fun e => ?_, fun s40 => ⟨fun e => ?_, fun s41 => ⟨fun e => ?_, fun s59 => ⟨fun e => ?_, fun s43 => ⟨fun e => ?_, fun s45 => ⟨fun e => ?_, fun s42 => ⟨fun e => ?_, fun s60 => ⟨fun s61 => ⟨fun e => ?_, fun e => ?_⟩, fun e => ?_⟩⟩⟩⟩⟩⟩⟩⟩
      · rw [n_eq, hv3, show (40 : Int32).toInt = 40 from rfl] at e
        have w := pz _ (by omega) e
        have tp := ec1 w
        rw [e] at tp
        have hT : tkQ t z p = sgT 40 := by rw [tS w, ← tp]
        exact fin v3 (by rw [hv3, e, hT]; decide) (by rw [hT]; decide)
      · rw [n_eq, hv3, show (41 : Int32).toInt = 41 from rfl] at e
        have w := pz _ (by omega) e
        have tp := ec1 w
        rw [e] at tp
        have hT : tkQ t z p = sgT 41 := by rw [tS w, ← tp]
        exact fin v3 (by rw [hv3, e, hT]; decide) (by rw [hT]; decide)
      · rw [n_eq, hv3, show (59 : Int32).toInt = 59 from rfl] at e
        have w := pz _ (by omega) e
        have tp := ec1 w
        rw [e] at tp
        have hT : tkQ t z p = sgT 59 := by rw [tS w, ← tp]
        exact fin v3 (by rw [hv3, e, hT]; decide) (by rw [hT]; decide)
      · rw [n_eq, hv3, show (43 : Int32).toInt = 43 from rfl] at e
        have w := pz _ (by omega) e
        have tp := ec1 w
        rw [e] at tp
        have hT : tkQ t z p = sgT 43 := by rw [tS w, ← tp]
        exact fin v3 (by rw [hv3, e, hT]; decide) (by rw [hT]; decide)
      · rw [n_eq, hv3, show (45 : Int32).toInt = 45 from rfl] at e
        have w := pz _ (by omega) e
        have tp := ec1 w
        rw [e] at tp
        have hT : tkQ t z p = sgT 45 := by rw [tS w, ← tp]
        exact fin v3 (by rw [hv3, e, hT]; decide) (by rw [hT]; decide)
      · rw [n_eq, hv3, show (42 : Int32).toInt = 42 from rfl] at e
        have w := pz _ (by omega) e
        have tp := ec1 w
        rw [e] at tp
        have hT : tkQ t z p = sgT 42 := by rw [tS w, ← tp]
        exact fin v3 (by rw [hv3, e, hT]; decide) (by rw [hT]; decide)
      · rw [n_eq, hv3, show (60 : Int32).toInt = 60 from rfl] at e
        have w := pz _ (by omega) e
        have tp := ec1 w
        rw [e] at tp
        have hT : tkQ t z p = sgT 60 := by rw [tS w, ← tp]
        exact fin v3 (by rw [hv3, e, hT]; decide) (by rw [hT]; decide)
      · rw [n_le, n_0, hv3] at e
        have w : p < z := pz _ e rfl
        rw [n_eq, hv3, ec1 w] at s40 s41 s59 s43 s45 s42 s60 s61
        have hT : sgT (t p) = -23 := by
          unfold sgT
          rw [if_neg (show ¬ t p = 40 from s40), if_neg (show ¬ t p = 41 from s41), if_neg (show ¬ t p = 42 from s42), if_neg (show ¬ t p = 43 from s43), if_neg (show ¬ t p = 45 from s45), if_neg (show ¬ t p = 59 from s59), if_neg (show ¬ t p = 60 from s60), if_neg (show ¬ t p = 61 from s61)]
        exact fin (-2) (by rw [tS w, hT]; decide) (by rw [tS w, hT]; decide)
      · rw [n_le, n_0, hv3] at e
        have w : ¬ p < z := fun w => by have h1 := ec1 w; have h2 := (ht.2.2 p).2; omega
        have hT : tkQ t z p = -22 := if_neg w
        exact fin (-1) (by rw [hT]; decide) (by rw [hT]; decide)
      · rw [n_eq, hv3, show (61 : Int32).toInt = 61 from rfl] at e
        have w := pz _ (by omega) e
        have tp := ec1 w
        rw [e] at tp
        have hT : tkQ t z p = sgT 61 := by rw [tS w, ← tp]
        exact fin v3 (by rw [hv3, e, hT]; decide) (by rw [hT]; decide)

/-- token i is before the reference -/
def lkI (M : zq_M) (t : Nat → Int) (z i : Nat) : Prop := lkP M t z (stS t z i) ∧ tkQ t z (stS t z i) = tkS t z i
theorem lkI_of {M : zq_M} {t : Nat → Int} {z i : Nat} (h : lkP M t z (stS t z i)) : lkI M t z i := ⟨h, rfl⟩
theorem c_X12_goOn {g : zq_G} {d : Nat} {M : zq_M} {Q : Option Value → zq_M → Prop} {t : Nat → Int} {z i : Nat} (ht : tpM M t z) (hl : lkI M t z i) (h22 : tkS t z i ≠ -22) (hq : ∀ M' : zq_M, fr fK M M' → lkI M' t z (i + 1) → Q none M') : mx g (d + 3) kX12_goOn 0 [.ref 48] [] M Q := by
  have z160 := ht.2.1
  have lt : stS t z i < z := by
    by_cases c : stS t z i < z
    · exact c
    · unfold tkS at h22
      rw [if_neg c] at h22
      exact absurd rfl h22
  obtain ⟨l1, l2, l3, l4⟩ := hl.1
  have e17 := l4 lt
  have eb := enT_b (t := t) lt
  refine mx_go 60 zq_t155 ?_
  show mx g (d + 2) kX12_look 0 [.ref 48, .null] [] (zq_mu M 48 14 ((M 48 14) + (M 48 17))) _
  have fe : fr fK M (zq_mu M 48 14 (M 48 14 + M 48 17)) := fr_mu fr_rfl rfl
  refine c_X12_look (p0 := enT t z (stS t z i)) (tpM_fr ht fe) ?_ eb.2 (fun M1 f1 l => ?_)
  · show (M 48 14 + M 48 17).toInt = _
    rw [n_add, l1, e17, zw_id (by omega) (by omega)]
    omega
  · show Q none M1
    refine hq M1 (fr_trans fe f1) (lkI_of ?_)
    show lkP M1 t z (if stS t z i < z then rz bkB t z (enT t z (stS t z i)) else stS t z i)
    rw [if_pos lt]
    exact l
theorem c_X12_isWord {g : zq_G} {d : Nat} {M : zq_M} {Q : Option Value → zq_M → Prop} {t : Nat → Int} {z i : Nat} {w : Int32} {c : Int} (hl : lkI M t z i) (hw : w.toInt = wdc c) (hc : c = -19 ∨ c = -20 ∨ c = -21 ∨ c = -7 ∨ c = -8 ∨ c = -9) (hT : tkS t z i ≤ 9999 ∧ -23 ≤ tkS t z i) (h1 : tkS t z i = c → Q (some (.int 1)) M) (h0 : tkS t z i ≠ c → Q (some (.int 0)) M) : mx g d kX12_isWord 0 [.ref 48, .int w] [] M Q := by
  obtain ⟨⟨l1, l2, l3, l4⟩, le⟩ := hl
  rw [le] at l2 l3
  have f2 : (2 : Int32).toInt = 2 := rfl
  refine mx_go 60 zq_t156 ?_
  show (¬ ((M 48 15) : Int32) = (2 : Int32) → zq_b 0 ∧ Q (some (.int 0)) M) ∧ (((M 48 15) : Int32) = (2 : Int32) → (¬ ((M 48 16) : Int32) = (w : Int32) → zq_b 0 ∧ Q (some (.int 0)) M) ∧ (((M 48 16) : Int32) = (w : Int32) → zq_b 1 ∧ Q (some (.int 1)) M))
  have k1 : tkS t z i = c → tkn (tkS t z i) = 2 := fun e => by rw [e]; rcases hc with h | h | h | h | h | h <;> rw [h] <;> decide
  have k2 : tkn (tkS t z i) = 2 → wdc (tkS t z i) = wdc c → tkS t z i = c := fun a b => by
    have : tkS t z i = -1 ∨ tkS t z i = -2 ∨ tkS t z i = -3 ∨ tkS t z i = -4 ∨ tkS t z i = -5 ∨ tkS t z i = -6 ∨ tkS t z i = -7 ∨ tkS t z i = -8 ∨ tkS t z i = -9 ∨ tkS t z i = -15 ∨ tkS t z i = -19 ∨ tkS t z i = -20 ∨ tkS t z i = -21 := by
      unfold tkn at a
      repeat' split at a
      all_goals omega
    rcases this with h | h | h | h | h | h | h | h | h | h | h | h | h <;> rw [h] at b ⊢ <;> rcases hc with g | g | g | g | g | g <;> rw [g] at b ⊢ <;> revert b <;> decide
  refine ⟨fun a => ⟨Or.inl rfl, h0 (fun e => a ?_)⟩, fun a => ⟨fun b => ⟨Or.inl rfl, h0 (fun e => b ?_)⟩, fun b => ⟨Or.inr rfl, h1 ?_⟩⟩⟩
  · rw [n_eq, l2, k1 e]; rfl
  · rw [n_eq, l3 (Or.inr (k1 e)), hw, e]
  · rw [n_eq, l2, f2] at a
    rw [n_eq, l3 (Or.inr a), hw] at b
    exact k2 a b

