theorem prt_keep {co en sg te ma co' en' sg' te' ma' : Nat → Int32} {n t p f : Nat} {l : List Int} (h : prt co en sg te ma t p f l) (ht : t < n) (hp : p < 3) (hco : ∀ i, i < 160 * n → co' i = co i) (hen : ∀ i, i < 3 * n → en' i = en i) (hsg : ∀ i, i < 480 * n → sg' i = sg i) (hte : ∀ i, i < 480 * n → te' i = te i) (hma : ∀ i, i < 3 * n → ma' i = ma i) : prt co' en' sg' te' ma' t p f l := by
  obtain ⟨h1, h2, h3, h4, h5, h6, h7⟩ := h
  refine ⟨h1, fun q => by rw [hen _ (by omega)]; exact h2 q, by rw [hen _ (by omega)]; exact h3, h4, fun j s e => ?_, by rw [hma _ (by omega)]; exact h6, h7⟩
  have hj : j < l.length := by
    by_cases c : j < l.length
    · exact c
    · rw [List.getElem?_eq_none (by omega)] at e; exact absurd e (by simp)
  rw [hco _ (by omega), hsg _ (by omega), hte _ (by omega)]
  exact h5 j s e
theorem gX_keep {n n' r r' : Int32} {co en sg te ma co' en' sg' te' ma' : Nat → Int32} {k : Nat} (h : gX n n' r r' co en sg te ma) (hk : n.toInt = (k : Int)) (hco : ∀ i, i < 160 * k → co' i = co i) (hen : ∀ i, i < 3 * k → en' i = en i) (hsg : ∀ i, i < 480 * k → sg' i = sg i) (hte : ∀ i, i < 480 * k → te' i = te i) (hma : ∀ i, i < 3 * k → ma' i = ma i) : gX n n' r r' co' en' sg' te' ma' := by
  obtain ⟨h1, h2, h3, h4, h5, h6, h7⟩ := h
  refine ⟨h1, h2, h3, h4, h5, h6, fun t p ht hp => ?_⟩
  obtain ⟨f, l, q⟩ := h7 t p ht hp
  exact ⟨f, l, prt_keep (n := k) q (by omega) hp hco hen hsg hte hma⟩
theorem gX_put {n n' r r' : Int32} {M : zq_M} {k : Nat} {A : TX} (h : gX n n' r r' (M 14) (M 15) (M 58) (M 59) (M 60)) (hk : n.toInt = (k : Int)) (hk5 : k ≤ 5) (hL : A.2.2.1.length + A.2.2.2.1.length + A.2.2.2.2.length ≤ 160) (hp : pok 0 A.2.2.1 = true ∧ pok 0 A.2.2.2.1 = true ∧ pok 0 A.2.2.2.2 = true) (hw : txW k A M) (h0 : ptM k 0 A.2.2.1 M) (h1 : ptM k 1 A.2.2.2.1 M) (h2 : ptM k 2 A.2.2.2.2 M) : gX (n + 1) (n' + 1) r r' (M 14) (M 15) (M 58) (M 59) (M 60) := by
  obtain ⟨x1, x2, x3, x4, x5, x6, x7⟩ := h
  have e1 : (n + 1).toInt = n.toInt + 1 := by rw [n_add, n_1, zw_id (by omega) (by omega)]
  obtain ⟨w1, w2, w3, w4⟩ := hw
  have ln : ∀ {l : List Int} {j : Nat} {s : Int}, l[j]? = some s → j < l.length := fun {l j s} e => by
    by_cases c : j < l.length
    · exact c
    · rw [List.getElem?_eq_none (by omega)] at e; exact absurd e (by simp)
  refine ⟨by rw [x1], x2, by omega, by omega, x5, by omega, fun t p ht hp3 => ?_⟩
  by_cases c : (t : Int) < n.toInt
  · exact x7 t p c hp3
  have et : t = k := by omega
  subst et
  rcases (show p = 0 ∨ p = 1 ∨ p = 2 by omega) with e | e | e
  · subst e
    refine ⟨0, A.2.2.1, fun _ => rfl, fun q => absurd q (by omega), by show (M 15 (3 * t)).toInt = _; rw [w2]; omega, by omega, fun j s e => ⟨?_, h0.2 j s e⟩, h0.1, hp.1⟩
    have := ln e
    show (M 14 (160 * t + j)).toInt = s
    refine w1 j s ?_
    rw [List.append_assoc, List.getElem?_append_left this]
    exact e
  · subst e
    refine ⟨A.2.2.1.length, A.2.2.2.1, fun q => absurd q (by omega), fun _ => w2, by rw [w3]; omega, by omega, fun j s e => ⟨?_, h1.2 j s e⟩, h1.1, hp.2.1⟩
    have := ln e
    rw [Nat.add_assoc]
    refine w1 _ s ?_
    rw [List.append_assoc, List.getElem?_append_right (by omega), Nat.add_sub_cancel_left, List.getElem?_append_left this]
    exact e
  · subst e
    refine ⟨A.2.2.1.length + A.2.2.2.1.length, A.2.2.2.2, fun q => absurd q (by omega), fun _ => w3, by rw [w4]; omega, by omega, fun j s e => ⟨?_, h2.2 j s e⟩, h2.1, hp.2.2⟩
    rw [Nat.add_assoc]
    refine w1 _ s ?_
    rw [← List.length_append, List.getElem?_append_right (by omega), Nat.add_sub_cancel_left]
    exact e
def fG (n c i : Nat) : Bool := fW n c i || fQ n c i
theorem fG_w {n : Nat} {M M' : zq_M} (h : fr (fW n) M M') : fr (fG n) M M' := fr_mono h (fun c i e => by
  unfold fG at e
  cases q : fW n c i with
  | false => rfl
  | true => rw [q] at e; exact abT e)
theorem fG_q {n : Nat} {M M' : zq_M} (h : fr (fQ n) M M') : fr (fG n) M M' := fr_mono h (fun c i e => by
  unfold fG at e
  cases q : fQ n c i with
  | false => rfl
  | true => rw [q, Bool.or_true] at e; exact abT e)
theorem fG_14 {n i : Nat} (h : i < 160 * n) : fG n 14 i = false := by
  show (decide (160 * n ≤ i) || false || false) = false
  rw [decide_eq_false (by omega)]; rfl
theorem fG_15 {n i : Nat} (h : i < 3 * n) : fG n 15 i = false := by
  show (decide (3 * n ≤ i) || false) = false
  rw [decide_eq_false (by omega)]; rfl
theorem fG_58 {n i : Nat} (h : i < 480 * n) : fG n 58 i = false := by
  show (decide (480 * n ≤ i) || false) = false
  rw [decide_eq_false (by omega)]; rfl
theorem fG_59 {n i : Nat} (h : i < 480 * n) : fG n 59 i = false := by
  show (decide (480 * n ≤ i) || false) = false
  rw [decide_eq_false (by omega)]; rfl
theorem fG_60 {n i : Nat} (h : i < 3 * n) : fG n 60 i = false := by
  show decide (3 * n ≤ i) = false
  rw [decide_eq_false (by omega)]
theorem op_text {g : zq_G} {d : Nat} {M : zq_M} (hR : RR M) : pri g (d + 142) kX11_text kX12_text [.ref 0, .null] [.ref 48, .null] M := by
  have k6 : (6 : Int32).toInt = 6 := rfl
  obtain ⟨hS, hN, hH, hT, hP, hI, hE, hF, hX, hV⟩ := id hR
  obtain ⟨f1, f2, f3, f4, f5⟩ := id hF
  obtain ⟨x1, x2, x3, x4, x5, x6, x7⟩ := id hX
  by_cases c6 : (M 13 4).toInt = 6
  · refine mx_q (fun Qx hQx => ?_)
    refine mx_go 100 zq_t98 ?_
    show (((M 13 4) : Int32) < (6 : Int32) → mx g (d + 141) kX5_readTape 0 [.ref 18] [] M _) ∧ (¬ ((M 13 4) : Int32) < (6 : Int32) → Qx (some (.int (-4))) M)
    refine ⟨fun y => absurd y (by rw [n_lt, k6]; omega), fun _ => hQx _ _ ⟨-4, rfl, ?_⟩⟩
    refine mx_q (fun Qm hQm => ?_)
    refine mx_go 250 zq_t169 ?_
    show (¬ ((M 48 11) : Int32) = (6 : Int32) → mx g (d + 141) kX12_look 0 [.ref 48, .null] [] (zq_mu M 48 14 0) _) ∧ (((M 48 11) : Int32) = (6 : Int32) → Qm (some (.int (-4))) M)
    exact ⟨fun y => absurd (by rw [n_eq, k6, x1]; exact c6) y, fun _ => hQm _ _ ⟨rfl, hR⟩⟩
  obtain ⟨n, hn⟩ : ∃ n : Nat, (M 13 4).toInt = (n : Int) := ⟨(M 13 4).toInt.toNat, by omega⟩
  obtain ⟨z, hz⟩ : ∃ z : Nat, (M 18 5).toInt = (z : Int) := ⟨(M 18 5).toInt.toNat, by omega⟩
  have hn5 : n ≤ 5 := by omega
  have htX : tpX M (fun i => (M 21 i).toInt) z := ⟨hz, by omega, fun i => ⟨rfl, f5 i⟩⟩
  have htM : tpM M (fun i => (M 21 i).toInt) z := ⟨by rw [f1]; exact hz, by omega, fun i => by rw [f2]; exact ⟨rfl, f5 i⟩⟩
  generalize ht' : (fun i => (M 21 i).toInt) = t at htX htM
  have hE' : ∀ j, z ≤ j → tkS t z j = -22 := fun j hj => tkS_end stS_all j hj
  have fin : ∀ {M2 : zq_M}, fr (fG n) M M2 → M2 18 5 = 0 → M2 48 13 = 0 → (M 13 4).toInt ≤ (M2 13 4).toInt → gX (M2 13 4) (M2 48 11) (M2 13 5) (M2 48 12) (M2 14) (M2 15) (M2 58) (M2 59) (M2 60) → RR M2 := fun {M2} hf k5 k13 le hX2 => by
    have hI2 : gI (M2 0 11) (M2 48 42) (M2 1 4) (M2 48 43) (M2 13 6) (M2 48 44) (M2 30 9) (M2 48 45) (M2 30 10) (M2 48 46) (M2 38 3) (M2 48 47) (M2 4) (M2 74) (M2 1 3) (M2 13 4) (M2 30 7) (M2 30 8) (M2 38 2) (M2 35) := by
      rw [hf 0 11 rfl, hf 48 42 rfl, hf 1 4 rfl, hf 48 43 rfl, hf 13 6 rfl, hf 48 44 rfl, hf 30 9 rfl, hf 48 45 rfl, hf 30 10 rfl, hf 48 46 rfl, hf 38 3 rfl, hf 48 47 rfl, fr_ar hf 4 (fun _ => rfl), fr_ar hf 74 (fun _ => rfl), hf 1 3 rfl, hf 30 7 rfl, hf 30 8 rfl, hf 38 2 rfl, fr_ar hf 35 (fun _ => rfl)]
      exact gI_grow hI (Int.le_refl _) le (Int.le_refl _) (Int.le_refl _) (Int.le_refl _)
    have hF2 : gF (M2 18 5) (M2 48 13) (M2 21) (M2 57) := ⟨by rw [k5, k13], by rw [fr_ar hf 57 (fun _ => rfl), fr_ar hf 21 (fun _ => rfl)]; exact f2, by rw [k5]; decide, by rw [k5]; decide, fun i => by rw [fr_ar hf 21 (fun _ => rfl)]; exact f5 i⟩
    exact ⟨gS_fr ⟨hf 1 3 rfl, hf 48 0 rfl, fr_ar hf 2 (fun _ => rfl), fr_ar hf 49 (fun _ => rfl), fr_ar hf 3 (fun _ => rfl), fr_ar hf 50 (fun _ => rfl)⟩ hS, gN_fr ⟨hf 5 4 rfl, hf 48 1 rfl, fr_ar hf 6 (fun _ => rfl), fr_ar hf 51 (fun _ => rfl), fr_ar hf 7 (fun _ => rfl), fr_ar hf 52 (fun _ => rfl), fr_ar hf 8 (fun _ => rfl), fr_ar hf 53 (fun _ => rfl), fr_ar hf 9 (fun _ => rfl), fr_ar hf 54 (fun _ => rfl)⟩ hN, gH_fr ⟨hf 10 2 rfl, hf 48 2 rfl, fr_ar hf 11 (fun _ => rfl), fr_ar hf 55 (fun _ => rfl), fr_ar hf 12 (fun _ => rfl), fr_ar hf 56 (fun _ => rfl)⟩ hH, gT_fr ⟨hf 1 3 rfl, hf 30 7 rfl, hf 48 32 rfl, hf 30 8 rfl, hf 48 39 rfl, fr_ar hf 31 (fun _ => rfl), fr_ar hf 67 (fun _ => rfl), fr_ar hf 32 (fun _ => rfl), fr_ar hf 68 (fun _ => rfl), fr_ar hf 33 (fun _ => rfl), fr_ar hf 69 (fun _ => rfl), fr_ar hf 34 (fun _ => rfl), fr_ar hf 72 (fun _ => rfl), fr_ar hf 35 (fun _ => rfl), fr_ar hf 73 (fun _ => rfl)⟩ hT, gP_fr ⟨hf 38 2 rfl, hf 48 37 rfl, fr_ar hf 39 (fun _ => rfl), fr_ar hf 40 (fun _ => rfl), fr_ar hf 71 (fun _ => rfl)⟩ hP, hI2, gE_fr ⟨fr_ar hf 46 (fun _ => rfl), fr_ar hf 75 (fun _ => rfl), fr_ar hf 47 (fun _ => rfl), fr_ar hf 76 (fun _ => rfl), fr_ar hf 45 (fun _ => rfl), fr_ar hf 77 (fun _ => rfl)⟩ hE, hF2, hX2, (hf 48 27 rfl).trans hV⟩
  unfold pri
  refine c_X11_text htX hn hn5 (fun e M1 q1 k5 k4 kw => ?_) (fun e M1 v q1 k5 ev => ?_)
  · refine ⟨M 13 4 + 1 - 1, rfl, ?_⟩
    have e11 : M1 48 11 = M 13 4 := by rw [q1 48 11 rfl]; exact x1
    have htM1 : tpM M1 t z := ⟨by rw [q1 48 13 rfl]; exact htM.1, htM.2.1, fun i => by rw [fr_ar q1 57 (fun _ => rfl)]; exact htM.2.2 i⟩
    refine c_X12_text (d := d + 136) htM1 (by rw [e11]; exact hn) hn5 (fun _ M2 q2 k13 k11 p0 p1 p2 => ⟨by rw [e11], ?_⟩) (fun e' => by rw [e] at e'; exact abT e')
    have hf := fr_trans (fG_w q1) (fG_q q2)
    have e13 : M2 13 4 = M 13 4 + 1 := by rw [q2 13 4 rfl]; exact k4
    have ea : (M 13 4 + 1).toInt = (M 13 4).toInt + 1 := by rw [n_add, n_1, zw_id (by omega) (by omega)]
    have bd := txA_bd hE' e
    refine fin hf (by rw [q2 18 5 rfl]; exact k5) k13 (by rw [e13, ea]; omega) ?_
    rw [e13, k11, e11, hf 13 5 rfl, hf 48 12 rfl]
    have w2 : txW n (txA (tkS t z)) M2 := by
      unfold txW at kw ⊢
      rw [fr_ar q2 14 (fun _ => rfl), fr_ar q2 15 (fun _ => rfl)]
      exact kw
    refine gX_put (k := n) (A := txA (tkS t z)) ?_ hn hn5 (by have := htX.2.1; omega) (txA_pok e) w2 p0 p1 p2
    have := gX_keep (k := n) (co' := M2 14) (en' := M2 15) (sg' := M2 58) (te' := M2 59) (ma' := M2 60) hX hn (fun i h => hf 14 i (fG_14 h)) (fun i h => hf 15 i (fG_15 h)) (fun i h => hf 58 i (fG_58 h)) (fun i h => hf 59 i (fG_59 h)) (fun i h => hf 60 i (fG_60 h))
    rw [x1] at this
    exact this
  · refine ⟨-100 - v, rfl, ?_⟩
    have q1' := fW_v (n := n) q1
    have e11 : M1 48 11 = M 13 4 := by rw [q1 48 11 rfl]; exact x1
    have htM1 : tpM M1 t z := ⟨by rw [q1 48 13 rfl]; exact htM.1, htM.2.1, fun i => by rw [fr_ar q1 57 (fun _ => rfl)]; exact htM.2.2 i⟩
    refine c_X12_text (d := d + 136) htM1 (by rw [e11]; exact hn) hn5 (fun e' => by rw [e] at e'; exact abF e') (fun _ M2 w q2 k13 k11 ew => ⟨?_, ?_⟩)
    · have : w = v := by rw [n_eq, ew, ev]
      rw [this]
    · have hf := fr_trans (fG_w q1') (fG_q q2)
      have e13 : M2 13 4 = M 13 4 := by rw [q2 13 4 rfl, q1 13 4 rfl]
      refine fin hf (by rw [q2 18 5 rfl]; exact k5) k13 (by rw [e13]; exact Int.le_refl _) ?_
      rw [e13, k11, e11, hf 13 5 rfl, hf 48 12 rfl]
      have := gX_keep (k := n) (co' := M2 14) (en' := M2 15) (sg' := M2 58) (te' := M2 59) (ma' := M2 60) hX hn (fun i h => hf 14 i (fG_14 h)) (fun i h => hf 15 i (fG_15 h)) (fun i h => hf 58 i (fG_58 h)) (fun i h => hf 59 i (fG_59 h)) (fun i h => hf 60 i (fG_60 h))
      rw [x1] at this
      exact this

