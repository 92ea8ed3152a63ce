/-- all but the places that L names are kept -/
def fr (L : Nat → Nat → Bool) (M M' : zq_M) : Prop := ∀ c i, L c i = false → M' c i = M c i
def fL (l : List Nat) (c _i : Nat) : Bool := l.contains c
theorem fr_rfl {L : Nat → Nat → Bool} {M : zq_M} : fr L M M := fun _ _ _ => rfl
theorem fr_trans {L : Nat → Nat → Bool} {M M' M2 : zq_M} (h1 : fr L M M') (h2 : fr L M' M2) : fr L M M2 := fun c i h => (h2 c i h).trans (h1 c i h)
theorem fr_ar {L : Nat → Nat → Bool} {M M' : zq_M} (h : fr L M M') (c : Nat) (hl : ∀ i, L c i = false) : M' c = M c := funext fun i => h c i (hl i)
theorem fr_ma {L : Nat → Nat → Bool} {M M' : zq_M} {c : Nat} {f : Nat → Int32} (h : fr L M M') (hl : ∀ i, L c i = true) : fr L M (zq_ma M' c f) := by
  intro c' i e
  unfold zq_ma
  split
  · next q => subst q; rw [hl i] at e; exact absurd e (by decide)
  · exact h c' i e
theorem fr_mu {L : Nat → Nat → Bool} {M M' : zq_M} {c j : Nat} {v : Int32} (h : fr L M M') (hl : L c j = true) : fr L M (zq_mu M' c j v) := by
  intro c' i e
  unfold zq_mu zq_ma
  split
  · next q =>
    subst q
    unfold upd
    split
    · next q => subst q; rw [hl] at e; exact absurd e (by decide)
    · exact h c' i e
  · exact h c' i e
theorem fr_mono {L L' : Nat → Nat → Bool} {M M' : zq_M} (h : fr L M M') (hl : ∀ c i, L' c i = false → L c i = false) : fr L' M M' := fun c i e => h c i (hl c i e)
theorem fr_sub {l l' : List Nat} {M M' : zq_M} (h : fr (fL l) M M') (hl : l.all (fun c => l'.contains c) = true) : fr (fL l') M M' := by
  refine fr_mono h (fun c i e => ?_)
  unfold fL at e ⊢
  cases q : l.contains c with
  | false => rfl
  | true =>
    have := List.all_eq_true.mp hl c (by simpa using q)
    rw [this] at e
    exact e
/-- memory M, but the cells l are those of N -/
def mv (l : List Nat) (N M : zq_M) : zq_M := fun c => if l.contains c then N c else M c
theorem fr_mv {l : List Nat} {M M' : zq_M} (h : fr (fL l) M M') : M' = mv l M' M := by
  funext c i
  unfold mv
  split
  · rfl
  · next q => exact h c i (by unfold fL; simpa using q)
theorem mx_wf {g : zq_G} {d k pc : Nat} {Q : Option Value → zq_M → Prop} {α : Type} (ls : α → List Value) (I : α → zq_M → Prop) (m : α → Nat) (h : ∀ a M, I a M → (∀ a' M', m a' < m a → I a' M' → mx g d k pc (ls a') [] M' Q) → mx g d k pc (ls a) [] M Q) (a : α) (M : zq_M) (hI : I a M) : mx g d k pc (ls a) [] M Q := by
  have key : ∀ (n : Nat) (a : α) (M : zq_M), m a < n → I a M → mx g d k pc (ls a) [] M Q := by
    intro n
    induction n with
    | zero => intro a M e; omega
    | succ n ih => exact fun a M e hi => h a M hi (fun a' M' e' hi' => ih a' M' (by omega) hi')
  exact key (m a + 1) a M (by omega) hI
theorem mx_wf2 {g : zq_G} {d k pc : Nat} {Q : Option Value → zq_M → Prop} {α β : Type} (ls : α → β → List Value) (I : α → β → zq_M → Prop) (m : α → β → Nat) (h : ∀ a b M, I a b M → (∀ a' b' M', m a' b' < m a b → I a' b' M' → mx g d k pc (ls a' b') [] M' Q) → mx g d k pc (ls a b) [] M Q) (a : α) (b : β) (M : zq_M) (hI : I a b M) : mx g d k pc (ls a b) [] M Q :=
  mx_wf (α := α × β) (fun x => ls x.1 x.2) (fun x => I x.1 x.2) (fun x => m x.1 x.2) (fun x M hi ih => h x.1 x.2 M hi (fun a' b' M' e hi' => ih (a', b') M' e hi')) (a, b) M hI
theorem mx_wf3 {g : zq_G} {d k pc : Nat} {Q : Option Value → zq_M → Prop} {α β γ : Type} (ls : α → β → γ → List Value) (I : α → β → γ → zq_M → Prop) (m : α → β → γ → Nat) (h : ∀ a b c M, I a b c M → (∀ a' b' c' M', m a' b' c' < m a b c → I a' b' c' M' → mx g d k pc (ls a' b' c') [] M' Q) → mx g d k pc (ls a b c) [] M Q) (a : α) (b : β) (c : γ) (M : zq_M) (hI : I a b c M) : mx g d k pc (ls a b c) [] M Q :=
  mx_wf (α := α × β × γ) (fun x => ls x.1 x.2.1 x.2.2) (fun x => I x.1 x.2.1 x.2.2) (fun x => m x.1 x.2.1 x.2.2) (fun x M hi ih => h x.1 x.2.1 x.2.2 M hi (fun a' b' c' M' e hi' => ih (a', b', c') M' e hi')) (a, b, c) M hI
theorem n_pr1 {m : Int32} (h : 1 ≤ m.toInt) : (m - 1).toInt = m.toInt - 1 := by
  have := n_rng m
  rw [n_sub, n_1, zw_id (by omega) (by omega)]
theorem n_mi1 {m : Int32} (h : 1 ≤ m.toInt) : (m + (-1)).toInt = m.toInt - 1 := by
  have := n_rng m
  rw [n_add, show (-1 : Int32).toInt = -1 by decide, zw_id (by omega) (by omega)]
  rfl
theorem n_mi2 {m : Int32} (h : 2 ≤ m.toInt) : (m + (-1) - 1).toInt = m.toInt - 2 := by
  have e := n_mi1 (m := m) (by omega)
  rw [n_pr1 (by omega), e]
  omega
theorem n_up {x n : Int32} (h1 : 0 ≤ x.toInt) (h : x.toInt < n.toInt) : (x + 1).toInt = x.toInt + 1 := by
  have := n_rng n
  rw [n_add, n_1, zw_id (by omega) (by omega)]
theorem upd_eq {f : Nat → Int32} {k : Nat} {v : Int32} : upd f k v k = v := by unfold upd; rw [if_pos rfl]
theorem upd_ne {f : Nat → Int32} {k j : Nat} {v : Int32} (h : j ≠ k) : upd f k v j = f j := by unfold upd; rw [if_neg h]
theorem gS_fr {M M' : zq_M} (h : (M' 1 3) = (M 1 3) ∧ (M' 48 0) = (M 48 0) ∧ (M' 2) = (M 2) ∧ (M' 49) = (M 49) ∧ (M' 3) = (M 3) ∧ (M' 50) = (M 50)) (hg : gS (M 1 3) (M 48 0) (M 2) (M 49) (M 3) (M 50)) : gS (M' 1 3) (M' 48 0) (M' 2) (M' 49) (M' 3) (M' 50) := by
  obtain ⟨e0, e1, e2, e3, e4, e5⟩ := h
  rw [e0, e1, e2, e3, e4, e5]
  exact hg
theorem gN_fr {M M' : zq_M} (h : (M' 5 4) = (M 5 4) ∧ (M' 48 1) = (M 48 1) ∧ (M' 6) = (M 6) ∧ (M' 51) = (M 51) ∧ (M' 7) = (M 7) ∧ (M' 52) = (M 52) ∧ (M' 8) = (M 8) ∧ (M' 53) = (M 53) ∧ (M' 9) = (M 9) ∧ (M' 54) = (M 54)) (hg : gN (M 5 4) (M 48 1) (M 6) (M 51) (M 7) (M 52) (M 8) (M 53) (M 9) (M 54)) : gN (M' 5 4) (M' 48 1) (M' 6) (M' 51) (M' 7) (M' 52) (M' 8) (M' 53) (M' 9) (M' 54) := by
  obtain ⟨e0, e1, e2, e3, e4, e5, e6, e7, e8, e9⟩ := h
  rw [e0, e1, e2, e3, e4, e5, e6, e7, e8, e9]
  exact hg
theorem gH_fr {M M' : zq_M} (h : (M' 10 2) = (M 10 2) ∧ (M' 48 2) = (M 48 2) ∧ (M' 11) = (M 11) ∧ (M' 55) = (M 55) ∧ (M' 12) = (M 12) ∧ (M' 56) = (M 56)) (hg : gH (M 10 2) (M 48 2) (M 11) (M 55) (M 12) (M 56)) : gH (M' 10 2) (M' 48 2) (M' 11) (M' 55) (M' 12) (M' 56) := by
  obtain ⟨e0, e1, e2, e3, e4, e5⟩ := h
  rw [e0, e1, e2, e3, e4, e5]
  exact hg
theorem gT_fr {M M' : zq_M} (h : (M' 1 3) = (M 1 3) ∧ (M' 30 7) = (M 30 7) ∧ (M' 48 32) = (M 48 32) ∧ (M' 30 8) = (M 30 8) ∧ (M' 48 39) = (M 48 39) ∧ (M' 31) = (M 31) ∧ (M' 67) = (M 67) ∧ (M' 32) = (M 32) ∧ (M' 68) = (M 68) ∧ (M' 33) = (M 33) ∧ (M' 69) = (M 69) ∧ (M' 34) = (M 34) ∧ (M' 72) = (M 72) ∧ (M' 35) = (M 35) ∧ (M' 73) = (M 73)) (hg : gT (M 1 3) (M 30 7) (M 48 32) (M 30 8) (M 48 39) (M 31) (M 67) (M 32) (M 68) (M 33) (M 69) (M 34) (M 72) (M 35) (M 73)) : gT (M' 1 3) (M' 30 7) (M' 48 32) (M' 30 8) (M' 48 39) (M' 31) (M' 67) (M' 32) (M' 68) (M' 33) (M' 69) (M' 34) (M' 72) (M' 35) (M' 73) := by
  obtain ⟨e0, e1, e2, e3, e4, e5, e6, e7, e8, e9, e10, e11, e12, e13, e14⟩ := h
  rw [e0, e1, e2, e3, e4, e5, e6, e7, e8, e9, e10, e11, e12, e13, e14]
  exact hg
theorem gP_fr {M M' : zq_M} (h : (M' 38 2) = (M 38 2) ∧ (M' 48 37) = (M 48 37) ∧ (M' 39) = (M 39) ∧ (M' 40) = (M 40) ∧ (M' 71) = (M 71)) (hg : gP (M 38 2) (M 48 37) (M 39) (M 40) (M 71)) : gP (M' 38 2) (M' 48 37) (M' 39) (M' 40) (M' 71) := by
  obtain ⟨e0, e1, e2, e3, e4⟩ := h
  rw [e0, e1, e2, e3, e4]
  exact hg
theorem gI_fr {M M' : zq_M} (h : (M' 0 11) = (M 0 11) ∧ (M' 48 42) = (M 48 42) ∧ (M' 1 4) = (M 1 4) ∧ (M' 48 43) = (M 48 43) ∧ (M' 13 6) = (M 13 6) ∧ (M' 48 44) = (M 48 44) ∧ (M' 30 9) = (M 30 9) ∧ (M' 48 45) = (M 48 45) ∧ (M' 30 10) = (M 30 10) ∧ (M' 48 46) = (M 48 46) ∧ (M' 38 3) = (M 38 3) ∧ (M' 48 47) = (M 48 47) ∧ (M' 4) = (M 4) ∧ (M' 74) = (M 74) ∧ (M' 1 3) = (M 1 3) ∧ (M' 13 4) = (M 13 4) ∧ (M' 30 7) = (M 30 7) ∧ (M' 30 8) = (M 30 8) ∧ (M' 38 2) = (M 38 2) ∧ (M' 35) = (M 35)) (hg : gI (M 0 11) (M 48 42) (M 1 4) (M 48 43) (M 13 6) (M 48 44) (M 30 9) (M 48 45) (M 30 10) (M 48 46) (M 38 3) (M 48 47) (M 4) (M 74) (M 1 3) (M 13 4) (M 30 7) (M 30 8) (M 38 2) (M 35)) : gI (M' 0 11) (M' 48 42) (M' 1 4) (M' 48 43) (M' 13 6) (M' 48 44) (M' 30 9) (M' 48 45) (M' 30 10) (M' 48 46) (M' 38 3) (M' 48 47) (M' 4) (M' 74) (M' 1 3) (M' 13 4) (M' 30 7) (M' 30 8) (M' 38 2) (M' 35) := by
  obtain ⟨e0, e1, e2, e3, e4, e5, e6, e7, e8, e9, e10, e11, e12, e13, e14, e15, e16, e17, e18, e19⟩ := h
  rw [e0, e1, e2, e3, e4, e5, e6, e7, e8, e9, e10, e11, e12, e13, e14, e15, e16, e17, e18, e19]
  exact hg
theorem gE_fr {M M' : zq_M} (h : (M' 46) = (M 46) ∧ (M' 75) = (M 75) ∧ (M' 47) = (M 47) ∧ (M' 76) = (M 76) ∧ (M' 45) = (M 45) ∧ (M' 77) = (M 77)) (hg : gE (M 46) (M 75) (M 47) (M 76) (M 45) (M 77)) : gE (M' 46) (M' 75) (M' 47) (M' 76) (M' 45) (M' 77) := by
  obtain ⟨e0, e1, e2, e3, e4, e5⟩ := h
  rw [e0, e1, e2, e3, e4, e5]
  exact hg
theorem gF_fr {M M' : zq_M} (h : (M' 18 5) = (M 18 5) ∧ (M' 48 13) = (M 48 13) ∧ (M' 21) = (M 21) ∧ (M' 57) = (M 57)) (hg : gF (M 18 5) (M 48 13) (M 21) (M 57)) : gF (M' 18 5) (M' 48 13) (M' 21) (M' 57) := by
  obtain ⟨e0, e1, e2, e3⟩ := h
  rw [e0, e1, e2, e3]
  exact hg
theorem gX_fr {M M' : zq_M} (h : (M' 13 4) = (M 13 4) ∧ (M' 48 11) = (M 48 11) ∧ (M' 13 5) = (M 13 5) ∧ (M' 48 12) = (M 48 12) ∧ (M' 14) = (M 14) ∧ (M' 15) = (M 15) ∧ (M' 58) = (M 58) ∧ (M' 59) = (M 59) ∧ (M' 60) = (M 60)) (hg : gX (M 13 4) (M 48 11) (M 13 5) (M 48 12) (M 14) (M 15) (M 58) (M 59) (M 60)) : gX (M' 13 4) (M' 48 11) (M' 13 5) (M' 48 12) (M' 14) (M' 15) (M' 58) (M' 59) (M' 60) := by
  obtain ⟨e0, e1, e2, e3, e4, e5, e6, e7, e8⟩ := h
  rw [e0, e1, e2, e3, e4, e5, e6, e7, e8]
  exact hg
def sL : List Nat := [16, 17, 26, 27, 28, 29, 36, 37, 42, 43, 62, 63, 64, 65, 66, 70, 78, 79]
theorem RR_fr {M M' : zq_M} (h : fr (fL sL) M M') (hR : RR M) : RR M' := by
  obtain ⟨hS, hN, hH, hT, hP, hI, hE, hF, hX, hV⟩ := hR
  exact ⟨gS_fr ⟨h 1 3 rfl, h 48 0 rfl, fr_ar h 2 (fun _ => rfl), fr_ar h 49 (fun _ => rfl), fr_ar h 3 (fun _ => rfl), fr_ar h 50 (fun _ => rfl)⟩ hS, gN_fr ⟨h 5 4 rfl, h 48 1 rfl, fr_ar h 6 (fun _ => rfl), fr_ar h 51 (fun _ => rfl), fr_ar h 7 (fun _ => rfl), fr_ar h 52 (fun _ => rfl), fr_ar h 8 (fun _ => rfl), fr_ar h 53 (fun _ => rfl), fr_ar h 9 (fun _ => rfl), fr_ar h 54 (fun _ => rfl)⟩ hN, gH_fr ⟨h 10 2 rfl, h 48 2 rfl, fr_ar h 11 (fun _ => rfl), fr_ar h 55 (fun _ => rfl), fr_ar h 12 (fun _ => rfl), fr_ar h 56 (fun _ => rfl)⟩ hH, gT_fr ⟨h 1 3 rfl, h 30 7 rfl, h 48 32 rfl, h 30 8 rfl, h 48 39 rfl, fr_ar h 31 (fun _ => rfl), fr_ar h 67 (fun _ => rfl), fr_ar h 32 (fun _ => rfl), fr_ar h 68 (fun _ => rfl), fr_ar h 33 (fun _ => rfl), fr_ar h 69 (fun _ => rfl), fr_ar h 34 (fun _ => rfl), fr_ar h 72 (fun _ => rfl), fr_ar h 35 (fun _ => rfl), fr_ar h 73 (fun _ => rfl)⟩ hT, gP_fr ⟨h 38 2 rfl, h 48 37 rfl, fr_ar h 39 (fun _ => rfl), fr_ar h 40 (fun _ => rfl), fr_ar h 71 (fun _ => rfl)⟩ hP, gI_fr ⟨h 0 11 rfl, h 48 42 rfl, h 1 4 rfl, h 48 43 rfl, h 13 6 rfl, h 48 44 rfl, h 30 9 rfl, h 48 45 rfl, h 30 10 rfl, h 48 46 rfl, h 38 3 rfl, h 48 47 rfl, fr_ar h 4 (fun _ => rfl), fr_ar h 74 (fun _ => rfl), h 1 3 rfl, h 13 4 rfl, h 30 7 rfl, h 30 8 rfl, h 38 2 rfl, fr_ar h 35 (fun _ => rfl)⟩ hI, gE_fr ⟨fr_ar h 46 (fun _ => rfl), fr_ar h 75 (fun _ => rfl), fr_ar h 47 (fun _ => rfl), fr_ar h 76 (fun _ => rfl), fr_ar h 45 (fun _ => rfl), fr_ar h 77 (fun _ => rfl)⟩ hE, gF_fr ⟨h 18 5 rfl, h 48 13 rfl, fr_ar h 21 (fun _ => rfl), fr_ar h 57 (fun _ => rfl)⟩ hF, gX_fr ⟨h 13 4 rfl, h 48 11 rfl, h 13 5 rfl, h 48 12 rfl, fr_ar h 14 (fun _ => rfl), fr_ar h 15 (fun _ => rfl), fr_ar h 58 (fun _ => rfl), fr_ar h 59 (fun _ => rfl), fr_ar h 60 (fun _ => rfl)⟩ hX, (h 48 27 rfl).trans hV⟩
