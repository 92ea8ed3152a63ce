theorem zq_al_of {X : Type} {g : zq_G} {O : zq_O X} {x : X} {a n : Nat} {f : Nat → Int32} (h : zq_al g O x a = some (n, f)) : (1000 ≤ a ∧ a ≤ 1005 ∧ n = zq_rl g (a - 1000) ∧ f = zq_rf g (a - 1000)) ∨ O.2.2.1 x a = some (false, n, f) := by
  unfold zq_al at h
  split at h
  · next h1 =>
    split at h
    · next h2 =>
      simp only [Option.some.injEq, Prod.mk.injEq] at h
      exact Or.inl ⟨Nat.le_of_ble_eq_true h1, Nat.le_of_ble_eq_true h2, h.1.symm, h.2.symm⟩
    · cases h
  · split at h
    · next h2 => cases h; exact Or.inr h2
    · cases h
theorem zq_ro_at {g : zq_G} {s : State} {a : Nat} (hro : zq_ro g s s.heap) (hB : zq_B g ≤ s.heap.size) (h1 : 1000 ≤ a) (h2 : a ≤ 1005) : va_X (zq_ad g a) (zq_rl g (a - 1000)) (zq_rf g (a - 1000)) s s.heap ∧ zq_ad g a < s.heap.size ∧ ¬ zq_F g (zq_ad g a) := by
  have h := hro.1 (a - 1000) (by omega)
  rw [show 1000 + (a - 1000) = a by omega] at h
  refine ⟨h.1, by omega, ?_⟩
  show ¬ zq_B g ≤ _
  omega
theorem zq_s_iaload {X : Type} {g : zq_G} {O : zq_O X} {rep : X → List zq_E} {t : zq_T} {k d : Nat} {Q : Option Value → X → Prop} {nx : List zq_I → List Value → List Value → Nat × Nat → X → Prop} {ny : Nat → List Value → List Value → Nat × Nat → X → Prop} (C : zq_cx g O rep t k d Q nx ny) {pc len : Nat} {aux : List Nat} {cst : Value} {mask : List Bool} {tl : List zq_I} {ls st : List Value} {cs : Nat × Nat} {x : X} (hg : zq_ok t ((pc, .iaload, len, aux, cst, mask) :: tl)) (h : zq_st g O rep t.2.2.2.2.1 t.2.2.2.1 t.2.2.2.2.2.1 d Q nx ny ((pc, .iaload, len, aux, cst, mask) :: tl) ls st cs x) : zq_x g rep d k pc ls st cs x Q := by
  obtain ⟨hdec, hlk, hn⟩ := zq_head C hg
  simp only [zq_lk, Bool.and_eq_true, decide_eq_true_eq] at hlk
  obtain rfl : len = 1 := Nat.eq_of_beq_eq_true hlk.2
  replace h : (match (generalizing := false) st with
    | .int i :: .ref a :: st => match zq_al g O x a with
      | some (n, f) => vp_in i n ∧ nx tl ls (.int (f i.toNatClampNeg) :: st) cs x
      | none => False
    | _ => False) := h
  split at h
  · next i a st =>
    split at h
    · next n f hv =>
      intro t' ht' p e R s m args below meth c Z ha hr H locs la hw hl
      obtain rfl : t' = t := Option.some.inj (ht'.symm.trans C.2.1)
      obtain ⟨hR, hx, hb, hrt, hml, hown, hts, hlk0, hin0, hK, hro, hB, had⟩ := id ha
      obtain ⟨hlen, hcs, hP, hS⟩ := id hw
      have hD := zq_wD had hlen
      rcases zq_al_of hv with ⟨a1, a2, a3, a4⟩ | hO
      · obtain ⟨r1, r2, r3⟩ := zq_ro_at hro hB a1 a2
        rw [← a3, ← a4] at r1
        exact va_sld hx hb r1 r2 r3 hS h.1 hdec (hn _ _ _ _ h.2 t' ht' p e R s m args below meth c Z ha hr H locs la hw hl)
      · exact va_iald (D := zq_D g) (cl := vwCl) (tys := zq_ty g) hx hb hK hP a 0 (zq_w_at (C.1.2.2.1 x a _ hO)) rfl h.1 hdec (hn _ _ _ _ h.2 t' ht' p e R s m args below meth c Z ha hr H locs la hw hl)
    · exact h.elim
  · exact h.elim
theorem zq_s_arraylength {X : Type} {g : zq_G} {O : zq_O X} {rep : X → List zq_E} {t : zq_T} {k d : Nat} {Q : Option Value → X → Prop} {nx : List zq_I → List Value → List Value → Nat × Nat → X → Prop} {ny : Nat → List Value → List Value → Nat × Nat → X → Prop} (C : zq_cx g O rep t k d Q nx ny) {pc len : Nat} {aux : List Nat} {cst : Value} {mask : List Bool} {tl : List zq_I} {ls st : List Value} {cs : Nat × Nat} {x : X} (hg : zq_ok t ((pc, .arraylength, len, aux, cst, mask) :: tl)) (h : zq_st g O rep t.2.2.2.2.1 t.2.2.2.1 t.2.2.2.2.2.1 d Q nx ny ((pc, .arraylength, len, aux, cst, mask) :: tl) ls st cs x) : zq_x g rep d k pc ls st cs x Q := by
  obtain ⟨hdec, hlk, hn⟩ := zq_head C hg
  simp only [zq_lk, Bool.and_eq_true, decide_eq_true_eq] at hlk
  obtain rfl : len = 1 := Nat.eq_of_beq_eq_true hlk.2
  replace h : (match (generalizing := false) st with
    | .ref a :: st => match zq_al g O x a with
      | some (n, _) => nx tl ls (.int (nI n) :: st) cs x
      | none => False
    | _ => False) := h
  split at h
  · next a st =>
    split at h
    · next n f hv =>
      intro t' ht' p e R s m args below meth c Z ha hr H locs la hw hl
      obtain rfl : t' = t := Option.some.inj (ht'.symm.trans C.2.1)
      obtain ⟨hR, hx, hb, hrt, hml, hown, hts, hlk0, hin0, hK, hro, hB, had⟩ := id ha
      obtain ⟨hlen, hcs, hP, hS⟩ := id hw
      have hD := zq_wD had hlen
      rcases zq_al_of hv with ⟨a1, a2, a3, a4⟩ | hO
      · obtain ⟨r1, r2, r3⟩ := zq_ro_at hro hB a1 a2
        rw [← a3, ← a4] at r1
        exact va_slen hx hb r1 r2 r3 hS hdec (hn _ _ _ _ h t' ht' p e R s m args below meth c Z ha hr H locs la hw hl)
      · exact va_alen (D := zq_D g) (cl := vwCl) (tys := zq_ty g) hx hb hK hP a 0 (zq_w_at (C.1.2.2.1 x a _ hO)) rfl rfl hdec (hn _ _ _ _ h t' ht' p e R s m args below meth c Z ha hr H locs la hw hl)
    · exact h.elim
  · exact h.elim
theorem zq_s_iastore {X : Type} {g : zq_G} {O : zq_O X} {rep : X → List zq_E} {t : zq_T} {k d : Nat} {Q : Option Value → X → Prop} {nx : List zq_I → List Value → List Value → Nat × Nat → X → Prop} {ny : Nat → List Value → List Value → Nat × Nat → X → Prop} (C : zq_cx g O rep t k d Q nx ny) {pc len : Nat} {aux : List Nat} {cst : Value} {mask : List Bool} {tl : List zq_I} {ls st : List Value} {cs : Nat × Nat} {x : X} (hg : zq_ok t ((pc, .iastore, len, aux, cst, mask) :: tl)) (h : zq_st g O rep t.2.2.2.2.1 t.2.2.2.1 t.2.2.2.2.2.1 d Q nx ny ((pc, .iastore, len, aux, cst, mask) :: tl) ls st cs x) : zq_x g rep d k pc ls st cs x Q := by
  obtain ⟨hdec, hlk, hn⟩ := zq_head C hg
  simp only [zq_lk, Bool.and_eq_true, decide_eq_true_eq] at hlk
  obtain rfl : len = 1 := Nat.eq_of_beq_eq_true hlk.2
  replace h : (match (generalizing := false) st with
    | .int v :: .int i :: .ref a :: st => match Nat.ble 1000 a, O.2.2.1 x a with
      | false, some (false, n, f) => vp_in i n ∧ nx tl ls st cs (O.2.2.2.1 x a (upd f i.toNatClampNeg v))
      | _, _ => False
    | _ => False) := h
  split at h
  · next v i a st =>
    split at h
    · next n f _ hO =>
      intro t' ht' p e R s m args below meth c Z ha hr H locs la hw hl
      obtain rfl : t' = t := Option.some.inj (ht'.symm.trans C.2.1)
      obtain ⟨hR, hx, hb, hrt, hml, hown, hts, hlk0, hin0, hK, hro, hB, had⟩ := id ha
      obtain ⟨hlen, hcs, hP, hS⟩ := id hw
      have hD := zq_wD had hlen
      exact va_iast (D := zq_D g) (cl := vwCl) (tys := zq_ty g) hx hb hK hP hD hS a 0 (zq_w_at (C.1.2.2.1 x a _ hO)) rfl h.1 hdec (fun H1 locs1 p1 p2 p3 => by
        refine hn _ _ _ _ h.2 t' ht' p e R s m args below meth c Z ha hr H1 locs1 la ⟨?_, ?_, ?_, p3⟩ hl
        · rw [C.1.2.2.2.1 x a _ _ hO, List.length_set]; exact hlen
        · rw [C.1.2.2.2.1 x a _ _ hO, List.length_set]; exact hcs
        · rw [C.1.2.2.2.1 x a _ _ hO, ← zq_w_set, Nat.zero_add]
          exact p1)
    · exact h.elim
  · exact h.elim
theorem zq_s_bastore {X : Type} {g : zq_G} {O : zq_O X} {rep : X → List zq_E} {t : zq_T} {k d : Nat} {Q : Option Value → X → Prop} {nx : List zq_I → List Value → List Value → Nat × Nat → X → Prop} {ny : Nat → List Value → List Value → Nat × Nat → X → Prop} (C : zq_cx g O rep t k d Q nx ny) {pc len : Nat} {aux : List Nat} {cst : Value} {mask : List Bool} {tl : List zq_I} {ls st : List Value} {cs : Nat × Nat} {x : X} (hg : zq_ok t ((pc, .bastore, len, aux, cst, mask) :: tl)) (h : zq_st g O rep t.2.2.2.2.1 t.2.2.2.1 t.2.2.2.2.2.1 d Q nx ny ((pc, .bastore, len, aux, cst, mask) :: tl) ls st cs x) : zq_x g rep d k pc ls st cs x Q := by
  obtain ⟨hdec, hlk, hn⟩ := zq_head C hg
  simp only [zq_lk, Bool.and_eq_true, decide_eq_true_eq] at hlk
  obtain rfl : len = 1 := Nat.eq_of_beq_eq_true hlk.2
  replace h : (match (generalizing := false) st with
    | .int v :: .int i :: .ref a :: st => match Nat.ble 1000 a, O.2.2.1 x a with
      | false, some (true, n, f) => vp_in i n ∧ nx tl ls st cs (O.2.2.2.1 x a (upd f i.toNatClampNeg (vp_nar .boolean v)))
      | _, _ => False
    | _ => False) := h
  split at h
  · next v i a st =>
    split at h
    · next n f _ hO =>
      intro t' ht' p e R s m args below meth c Z ha hr H locs la hw hl
      obtain rfl : t' = t := Option.some.inj (ht'.symm.trans C.2.1)
      obtain ⟨hR, hx, hb, hrt, hml, hown, hts, hlk0, hin0, hK, hro, hB, had⟩ := id ha
      obtain ⟨hlen, hcs, hP, hS⟩ := id hw
      have hD := zq_wD had hlen
      exact va_zast (D := zq_D g) (cl := vwCl) (tys := zq_ty g) hx hb hK hP hD hS a 1 (zq_w_at (C.1.2.2.1 x a _ hO)) rfl h.1 hdec (fun H1 locs1 p1 p2 p3 => by
        refine hn _ _ _ _ h.2 t' ht' p e R s m args below meth c Z ha hr H1 locs1 la ⟨?_, ?_, ?_, p3⟩ hl
        · rw [C.1.2.2.2.1 x a _ _ hO, List.length_set]; exact hlen
        · rw [C.1.2.2.2.1 x a _ _ hO, List.length_set]; exact hcs
        · rw [C.1.2.2.2.1 x a _ _ hO, ← zq_w_set, Nat.zero_add]
          exact p1)
    · exact h.elim
  · exact h.elim
theorem zq_s_baload {X : Type} {g : zq_G} {O : zq_O X} {rep : X → List zq_E} {t : zq_T} {k d : Nat} {Q : Option Value → X → Prop} {nx : List zq_I → List Value → List Value → Nat × Nat → X → Prop} {ny : Nat → List Value → List Value → Nat × Nat → X → Prop} (C : zq_cx g O rep t k d Q nx ny) {pc len : Nat} {aux : List Nat} {cst : Value} {mask : List Bool} {tl : List zq_I} {ls st : List Value} {cs : Nat × Nat} {x : X} (hg : zq_ok t ((pc, .baload, len, aux, cst, mask) :: tl)) (h : zq_st g O rep t.2.2.2.2.1 t.2.2.2.1 t.2.2.2.2.2.1 d Q nx ny ((pc, .baload, len, aux, cst, mask) :: tl) ls st cs x) : zq_x g rep d k pc ls st cs x Q := by
  obtain ⟨hdec, hlk, hn⟩ := zq_head C hg
  simp only [zq_lk, Bool.and_eq_true, decide_eq_true_eq] at hlk
  obtain rfl : len = 1 := Nat.eq_of_beq_eq_true hlk.2
  replace h : (match (generalizing := false) st with
    | .int i :: .ref a :: st => match Nat.ble 1000 a, O.2.2.1 x a with
      | false, some (true, n, f) => vp_in i n ∧ nx tl ls (.int (f i.toNatClampNeg) :: st) cs x
      | _, _ => False
    | _ => False) := h
  split at h
  · next i a st =>
    split at h
    · next n f _ hO =>
      intro t' ht' p e R s m args below meth c Z ha hr H locs la hw hl
      obtain rfl : t' = t := Option.some.inj (ht'.symm.trans C.2.1)
      obtain ⟨hR, hx, hb, hrt, hml, hown, hts, hlk0, hin0, hK, hro, hB, had⟩ := id ha
      obtain ⟨hlen, hcs, hP, hS⟩ := id hw
      have hD := zq_wD had hlen
      exact va_zald (D := zq_D g) (cl := vwCl) (tys := zq_ty g) hx hb hK hP a 1 (zq_w_at (C.1.2.2.1 x a _ hO)) rfl h.1 hdec (hn _ _ _ _ h.2 t' ht' p e R s m args below meth c Z ha hr H locs la hw hl)
    · exact h.elim
  · exact h.elim
theorem zq_push {g : zq_G} {s : State} {cs cs' : Nat × Nat} {h : List zq_E} {H H1 : Heap} {locs : List Loc} {e : zq_E} (hw : zq_wd g s cs h H locs) (had : ∀ k, k < 1000 → zq_ad g k = zq_B g + k) (hz : H.size = zq_B g + h.length) (hl : h.length < 999) (hc : cs'.1 = cs.1 + 1) (z1 : H1.size = H.size + 1) (o1 : ∀ q, q < H.size → H1[q]? = H[q]?) (he : va_at (zq_D g) vwCl (zq_ad g h.length, zq_ce g e) H1) : zq_wd g s cs' (h ++ [e]) H1 locs := by
  obtain ⟨h1, h2, hP, hS⟩ := hw
  refine ⟨by simp; omega, by simp; omega, ?_, Nat.le_trans hS.1 (by omega), fun q q1 q2 => by rw [o1 q (Nat.lt_of_lt_of_le q1 hS.1)]; exact hS.2.1 q q1 q2, hS.2.2⟩
  rw [zq_w_app, Nat.zero_add]
  refine (hP.kept (fun k q hq => o1 q.1 ((hP k q hq).lt))).app (fun k q hq => ?_)
  have hk : k < 1 := (List.getElem?_eq_some_iff.mp hq).1
  rw [show k = 0 by omega] at hq
  cases hq
  exact he
theorem zq_s_newarray {X : Type} {g : zq_G} {O : zq_O X} {rep : X → List zq_E} {t : zq_T} {k d : Nat} {Q : Option Value → X → Prop} {nx : List zq_I → List Value → List Value → Nat × Nat → X → Prop} {ny : Nat → List Value → List Value → Nat × Nat → X → Prop} (C : zq_cx g O rep t k d Q nx ny) {pc len : Nat} {aux : List Nat} {cst : Value} {mask : List Bool} {tl : List zq_I} {ls st : List Value} {cs : Nat × Nat} {x : X} {aty : ArrayType} (hg : zq_ok t ((pc, .newarray aty, len, aux, cst, mask) :: tl)) (h : zq_st g O rep t.2.2.2.2.1 t.2.2.2.1 t.2.2.2.2.2.1 d Q nx ny ((pc, .newarray aty, len, aux, cst, mask) :: tl) ls st cs x) : zq_x g rep d k pc ls st cs x Q := by
  obtain ⟨hdec, hlk, hn⟩ := zq_head C hg
  simp only [zq_lk, Bool.and_eq_true, decide_eq_true_eq] at hlk
  obtain rfl : len = 2 := Nat.eq_of_beq_eq_true hlk.2
  replace h : (match (generalizing := false) st with
    | .int n :: st => match (generalizing := false) aty, Nat.ble (cs.1 + 1) t.2.2.2.2.2.1.1, Nat.ble (cs.2 + n.toNatClampNeg) t.2.2.2.2.2.1.2 with
      | .int, true, true => match O.2.2.2.2.2.1 x false n.toNatClampNeg with
        | some (a, x') => (¬ n < 0 ∧ n.toNatClampNeg ≤ 10000) ∧ nx tl ls (.ref a :: st) (cs.1 + 1, cs.2 + n.toNatClampNeg) x'
        | none => False
      | .boolean, true, true => match O.2.2.2.2.2.1 x true n.toNatClampNeg with
        | some (a, x') => (¬ n < 0 ∧ n.toNatClampNeg ≤ 10000) ∧ nx tl ls (.ref a :: st) (cs.1 + 1, cs.2 + n.toNatClampNeg) x'
        | none => False
      | _, _, _ => False
    | _ => False) := h
  split at h
  · next n st =>
    split at h
    · next hb1 hb2 =>
      split at h
      · next a x' hv =>
        obtain ⟨n1, n2, n3⟩ := C.1.2.2.2.2.2.1 x false _ a x' hv
        obtain ⟨⟨g1, g2⟩, h⟩ := h
        intro t' ht' p e R s m args below meth c Z ha hr H locs la hw hl
        obtain rfl : t' = t := Option.some.inj (ht'.symm.trans C.2.1)
        obtain ⟨hR, hx, hb, hrt, hml, hown, hts, hlk0, hin0, hK, hro, hB, had⟩ := id ha
        obtain ⟨hlen, hcs, hP, hS⟩ := id hw
        have hD := zq_wD had hlen
        refine zq_sz (fun hz => ?_)
        have low := zq_low hP (Nat.le_trans hB hS.1) had hlen
        have hz : H.size = zq_B g + (rep x).length := by omega
        have hbd := Nat.le_of_ble_eq_true hb1
        have hbd2 := Nat.le_of_ble_eq_true hb2
        refine va_newaK hx hb (hts _ (zq_is_in hlk.1)) rfl hdec rfl g1 rfl (by show _ * 4 ≤ _; omega) (by omega) (by omega) rfl (fun H1 cA e1 z1 o1 hAr hNm => ?_)
        have hcA : cA = zq_cI g := Option.some.inj (hNm.symm.trans (hK.2 0 _ rfl).2)
        refine W.eq (g2 := F0 m (pc + 2) la ((.ref a :: st).map (zq_c g))) ?_ ?_
        · show F0 m (pc + 2) la (.ref H.size :: st.map (zq_c g)) = F0 m (pc + 2) la (.ref (zq_ad g a) :: st.map (zq_c g))
          rw [n1, had _ (by omega), hz]
        · refine hn _ _ _ _ h t' ht' p e R s m args below meth c Z ha hr H1 locs la ?_ hl
          rw [n2]
          refine zq_push hw had hz (by omega) rfl z1 o1 ?_
          show H1[zq_ad g (rep x).length]? = some (vp_cell (zq_cI g) _)
          rw [had _ (by omega), ← hz, ← hcA]
          exact e1
      · exact h.elim
    · next hb1 hb2 =>
      split at h
      · next a x' hv =>
        obtain ⟨n1, n2, n3⟩ := C.1.2.2.2.2.2.1 x true _ a x' hv
        obtain ⟨⟨g1, g2⟩, h⟩ := h
        intro t' ht' p e R s m args below meth c Z ha hr H locs la hw hl
        obtain rfl : t' = t := Option.some.inj (ht'.symm.trans C.2.1)
        obtain ⟨hR, hx, hb, hrt, hml, hown, hts, hlk0, hin0, hK, hro, hB, had⟩ := id ha
        obtain ⟨hlen, hcs, hP, hS⟩ := id hw
        have hD := zq_wD had hlen
        refine zq_sz (fun hz => ?_)
        have low := zq_low hP (Nat.le_trans hB hS.1) had hlen
        have hz : H.size = zq_B g + (rep x).length := by omega
        have hbd := Nat.le_of_ble_eq_true hb1
        have hbd2 := Nat.le_of_ble_eq_true hb2
        refine va_newaK hx hb (hts _ (zq_is_in hlk.1)) rfl hdec rfl g1 rfl (by show _ * 1 ≤ _; omega) (by omega) (by omega) rfl (fun H1 cA e1 z1 o1 hAr hNm => ?_)
        have hcA : cA = zq_cZ g := Option.some.inj (hNm.symm.trans (hK.2 1 _ rfl).2)
        refine W.eq (g2 := F0 m (pc + 2) la ((.ref a :: st).map (zq_c g))) ?_ ?_
        · show F0 m (pc + 2) la (.ref H.size :: st.map (zq_c g)) = F0 m (pc + 2) la (.ref (zq_ad g a) :: st.map (zq_c g))
          rw [n1, had _ (by omega), hz]
        · refine hn _ _ _ _ h t' ht' p e R s m args below meth c Z ha hr H1 locs la ?_ hl
          rw [n2]
          refine zq_push hw had hz (by omega) rfl z1 o1 ?_
          show H1[zq_ad g (rep x).length]? = some (vp_cell (zq_cZ g) _)
          rw [had _ (by omega), ← hz, ← hcA]
          exact e1
      · exact h.elim
    · exact h.elim
  · exact h.elim
theorem zq_s_new {X : Type} {g : zq_G} {O : zq_O X} {rep : X → List zq_E} {t : zq_T} {k d : Nat} {Q : Option Value → X → Prop} {nx : List zq_I → List Value → List Value → Nat × Nat → X → Prop} {ny : Nat → List Value → List Value → Nat × Nat → X → Prop} (C : zq_cx g O rep t k d Q nx ny) {pc len : Nat} {aux : List Nat} {cst : Value} {mask : List Bool} {tl : List zq_I} {ls st : List Value} {cs : Nat × Nat} {x : X} {i : Nat} (hg : zq_ok t ((pc, .new i, len, aux, cst, mask) :: tl)) (h : zq_st g O rep t.2.2.2.2.1 t.2.2.2.1 t.2.2.2.2.2.1 d Q nx ny ((pc, .new i, len, aux, cst, mask) :: tl) ls st cs x) : zq_x g rep d k pc ls st cs x Q := by
  obtain ⟨hdec, hlk, hn⟩ := zq_head C hg
  simp only [zq_lk, Bool.and_eq_true, decide_eq_true_eq] at hlk
  obtain rfl : len = 3 := Nat.eq_of_beq_eq_true hlk.2
  replace h : (match (generalizing := false) Nat.ble (cs.1 + 1) t.2.2.2.2.2.1.1, Nat.ble (cs.2 + zq_ix aux 1) t.2.2.2.2.2.1.2, O.2.2.2.2.1 x (zq_ix aux 0) with
    | true, true, some (o, x') => nx tl ls (.ref o :: st) (cs.1 + 1, cs.2 + zq_ix aux 1) x'
    | _, _, _ => False) := h
  have hk1 := hlk.1
  split at hk1
  · next q hq =>
    simp only [Bool.and_eq_true] at hk1
    obtain ⟨k1, k2, k3, k4⟩ := hk1
    have k1 := Nat.eq_of_beq_eq_true k1
    split at h
    · next o x' hb1 hb2 hv =>
      obtain ⟨fs, n0, n1, n2, n3⟩ := C.1.2.2.2.2.1 x (zq_ix aux 0) o x' hv
      intro t' ht' p e R s m args below meth c Z ha hr H locs la hw hl
      obtain rfl : t' = t := Option.some.inj (ht'.symm.trans C.2.1)
      obtain ⟨hR, hx, hb, hrt, hml, hown, hts, hlk0, hin0, hK, hro, hB, had⟩ := id ha
      obtain ⟨hlen, hcs, hP, hS⟩ := id hw
      have hD := zq_wD had hlen
      refine zq_sz (fun hz => ?_)
      have low := zq_low hP (Nat.le_trans hB hS.1) had hlen
      have hz : H.size = zq_B g + (rep x).length := by omega
      have hbd := Nat.le_of_ble_eq_true hb1
      have hbd2 := Nat.le_of_ble_eq_true hb2
      rw [k1] at hbd2 h
      obtain ⟨ty, c1, c2, c3, c4⟩ := zq_cf _ q hq
      obtain ⟨c5, c6⟩ := c4 fs n0
      have hKn := hK.1 _ _ hq
      refine W.newcK hx hb hown (hts _ (zq_is_in k2)) (hts _ (zq_is_in k3)) (hts _ (zq_is_in k4)) rfl hdec (by omega) (by omega) hKn.2.1 rfl (fun H1 kC hkC e1 z1 o1 => ?_)
      refine W.eq (g2 := F0 m (pc + 3) la ((.ref o :: st).map (zq_c g))) ?_ ?_
      · show F0 m (pc + 3) la (.ref H.size :: st.map (zq_c g)) = F0 m (pc + 3) la (.ref (zq_ad g o) :: st.map (zq_c g))
        rw [n1, had _ (by omega), hz]
      · refine hn _ _ _ _ h t' ht' p e R s m args below meth c Z ha hr H1 locs la ?_ hl
        rw [n2]
        refine zq_push hw had hz (by omega) rfl z1 o1 ?_
        refine ⟨q, hq, ?_⟩
        show t_OB (zq_ad g (rep x).length) _ _ _ H1 (vp_V (fs.map (zq_c g)))
        rw [c6 g, had _ (by omega), ← hz]
        exact (u_born ty hts c1 hKn hkC e1 c2).to c5
    · exact h.elim
  · cases hk1
theorem zq_s_ireturn {X : Type} {g : zq_G} {O : zq_O X} {rep : X → List zq_E} {t : zq_T} {k d : Nat} {Q : Option Value → X → Prop} {nx : List zq_I → List Value → List Value → Nat × Nat → X → Prop} {ny : Nat → List Value → List Value → Nat × Nat → X → Prop} (C : zq_cx g O rep t k d Q nx ny) {pc len : Nat} {aux : List Nat} {cst : Value} {mask : List Bool} {tl : List zq_I} {ls st : List Value} {cs : Nat × Nat} {x : X} (hg : zq_ok t ((pc, .ireturn, len, aux, cst, mask) :: tl)) (h : zq_st g O rep t.2.2.2.2.1 t.2.2.2.1 t.2.2.2.2.2.1 d Q nx ny ((pc, .ireturn, len, aux, cst, mask) :: tl) ls st cs x) : zq_x g rep d k pc ls st cs x Q := by
  obtain ⟨hdec, hlk, hn⟩ := zq_head C hg
  simp only [zq_lk, Bool.and_eq_true, decide_eq_true_eq] at hlk
  obtain rfl : len = 1 := Nat.eq_of_beq_eq_true hlk.2
  replace h : (match (generalizing := false) st with
    | [.int v] => match Nat.beq cs.1 t.2.2.2.2.2.1.1, Nat.ble cs.2 t.2.2.2.2.2.1.2, t.2.2.2.1 with
      | true, true, some .int => Q (some (.int v)) x
      | true, true, some .boolean => zq_b v ∧ Q (some (.int v)) x
      | _, _, _ => False
    | _ => False) := h
  split at h
  · next v =>
    split at h
    · next hc1 hc2 hrt2 =>
      intro t' ht' p e R s m args below meth c Z ha hr H locs la hw hl
      obtain rfl : t' = t := Option.some.inj (ht'.symm.trans C.2.1)
      exact hr (some (.int v)) _ H locs la pc cs ⟨x, rfl, h⟩ ⟨hdec, .int, hrt2, rfl⟩ hw (Nat.eq_of_beq_eq_true hc1) (Nat.le_of_ble_eq_true hc2)
    · next hc1 hc2 hrt2 =>
      intro t' ht' p e R s m args below meth c Z ha hr H locs la hw hl
      obtain rfl : t' = t := Option.some.inj (ht'.symm.trans C.2.1)
      exact hr (some (.int v)) _ H locs la pc cs ⟨x, rfl, h.2⟩ ⟨hdec, .boolean, hrt2, by rcases h.1 with rfl | rfl <;> rfl⟩ hw (Nat.eq_of_beq_eq_true hc1) (Nat.le_of_ble_eq_true hc2)
    · exact h.elim
  · exact h.elim
theorem zq_s_lreturn {X : Type} {g : zq_G} {O : zq_O X} {rep : X → List zq_E} {t : zq_T} {k d : Nat} {Q : Option Value → X → Prop} {nx : List zq_I → List Value → List Value → Nat × Nat → X → Prop} {ny : Nat → List Value → List Value → Nat × Nat → X → Prop} (C : zq_cx g O rep t k d Q nx ny) {pc len : Nat} {aux : List Nat} {cst : Value} {mask : List Bool} {tl : List zq_I} {ls st : List Value} {cs : Nat × Nat} {x : X} (hg : zq_ok t ((pc, .lreturn, len, aux, cst, mask) :: tl)) (h : zq_st g O rep t.2.2.2.2.1 t.2.2.2.1 t.2.2.2.2.2.1 d Q nx ny ((pc, .lreturn, len, aux, cst, mask) :: tl) ls st cs x) : zq_x g rep d k pc ls st cs x Q := by
  obtain ⟨hdec, hlk, hn⟩ := zq_head C hg
  simp only [zq_lk, Bool.and_eq_true, decide_eq_true_eq] at hlk
  obtain rfl : len = 1 := Nat.eq_of_beq_eq_true hlk.2
  replace h : (match (generalizing := false) st with
    | [.long v] => match Nat.beq cs.1 t.2.2.2.2.2.1.1, Nat.ble cs.2 t.2.2.2.2.2.1.2, t.2.2.2.1 with
      | true, true, some .long => Q (some (.long v)) x
      | _, _, _ => False
    | _ => False) := h
  split at h
  · next v =>
    split at h
    · next hc1 hc2 hrt2 =>
      intro t' ht' p e R s m args below meth c Z ha hr H locs la hw hl
      obtain rfl : t' = t := Option.some.inj (ht'.symm.trans C.2.1)
      exact hr (some (.long v)) _ H locs la pc cs ⟨x, rfl, h⟩ ⟨hdec, hrt2⟩ hw (Nat.eq_of_beq_eq_true hc1) (Nat.le_of_ble_eq_true hc2)
    · exact h.elim
  · exact h.elim
theorem zq_s_return {X : Type} {g : zq_G} {O : zq_O X} {rep : X → List zq_E} {t : zq_T} {k d : Nat} {Q : Option Value → X → Prop} {nx : List zq_I → List Value → List Value → Nat × Nat → X → Prop} {ny : Nat → List Value → List Value → Nat × Nat → X → Prop} (C : zq_cx g O rep t k d Q nx ny) {pc len : Nat} {aux : List Nat} {cst : Value} {mask : List Bool} {tl : List zq_I} {ls st : List Value} {cs : Nat × Nat} {x : X} (hg : zq_ok t ((pc, .return_, len, aux, cst, mask) :: tl)) (h : zq_st g O rep t.2.2.2.2.1 t.2.2.2.1 t.2.2.2.2.2.1 d Q nx ny ((pc, .return_, len, aux, cst, mask) :: tl) ls st cs x) : zq_x g rep d k pc ls st cs x Q := by
  obtain ⟨hdec, hlk, hn⟩ := zq_head C hg
  simp only [zq_lk, Bool.and_eq_true, decide_eq_true_eq] at hlk
  obtain rfl : len = 1 := Nat.eq_of_beq_eq_true hlk.2
  replace h : (match (generalizing := false) st with
    | [] => match Nat.beq cs.1 t.2.2.2.2.2.1.1, Nat.ble cs.2 t.2.2.2.2.2.1.2, t.2.2.2.1 with
      | true, true, none => Q none x
      | _, _, _ => False
    | _ => False) := h
  split at h
  · split at h
    · next hc1 hc2 hrt2 =>
      intro t' ht' p e R s m args below meth c Z ha hr H locs la hw hl
      obtain rfl : t' = t := Option.some.inj (ht'.symm.trans C.2.1)
      exact hr none _ H locs la pc cs ⟨x, rfl, h⟩ ⟨hdec, hrt2⟩ hw (Nat.eq_of_beq_eq_true hc1) (Nat.le_of_ble_eq_true hc2)
    · exact h.elim
  · exact h.elim
