def zq_lw {X : Type} (rep : X → List zq_E) (O : zq_O X) : Prop :=
  (∀ (x : X) (aux : List Nat) (o : Nat) (v : Value), zq_ax aux = true → O.1 x aux o = some v → ∃ fs, (rep x)[o]? = some (.inr (zq_ix aux 0, fs)) ∧ fs[zq_ix aux 1]? = some v) ∧
  (∀ (x : X) (aux : List Nat) (o : Nat) (v : Value) (x' : X), zq_ax aux = true → O.2.1 x aux o v = some x' → ∃ fs, (rep x)[o]? = some (.inr (zq_ix aux 0, fs)) ∧ zq_ix aux 1 < fs.length ∧ rep x' = (rep x).set o (.inr (zq_ix aux 0, fs.set (zq_ix aux 1) v))) ∧
  (∀ (x : X) (a : Nat) (y : zq_A), O.2.2.1 x a = some y → (rep x)[a]? = some (.inl y)) ∧
  (∀ (x : X) (a : Nat) (y : zq_A) (f : Nat → Int32), O.2.2.1 x a = some y → rep (O.2.2.2.1 x a f) = (rep x).set a (.inl (y.1, y.2.1, f))) ∧
  (∀ (x : X) (ci o : Nat) (x' : X), O.2.2.2.2.1 x ci = some (o, x') → ∃ fs, zq_df[ci]? = some fs ∧ o = (rep x).length ∧ rep x' = rep x ++ [.inr (ci, fs)] ∧ o < 999) ∧
  (∀ (x : X) (b : Bool) (n a : Nat) (x' : X), O.2.2.2.2.2.1 x b n = some (a, x') → a = (rep x).length ∧ rep x' = rep x ++ [.inl (b, n, fun _ => 0)] ∧ a < 999) ∧
  (∀ (x : X) (o ci : Nat), O.2.2.2.2.2.2 x o = some ci → ∃ fs, (rep x)[o]? = some (.inr (ci, fs)))
def zq_cx {X : Type} (g : zq_G) (O : zq_O X) (rep : X → List zq_E) (t : zq_T) (k d : Nat) (Q : Option Value → X → Prop) (nx : List zq_I → List Value → List Value → Nat × Nat → X → Prop) (ny : Nat → List Value → List Value → Nat × Nat → X → Prop) : Prop :=
  zq_lw rep O ∧ zq_mt[k]? = some t ∧ zq_ok t t.2.2.2.2.1 ∧ (∀ tl ls st cs x, zq_ok t tl → nx tl ls st cs x → tl ≠ [] ∧ zq_x g rep d k (zq_pc tl) ls st cs x Q) ∧ ∀ a ls st cs x, ny a ls st cs x → zq_x g rep d k a ls st cs x Q
theorem zq_head {X : Type} {g : zq_G} {O : zq_O X} {rep : X → List zq_E} {t : zq_T} {k d : Nat} {Q : Option Value → X → Prop} {nx : List zq_I → List Value → List Value → Nat × Nat → X → Prop} {ny : Nat → List Value → List Value → Nat × Nat → X → Prop} (C : zq_cx g O rep t k d Q nx ny) {ins : Instr} {pc len : Nat} {aux : List Nat} {cst : Value} {mask : List Bool} {tl : List zq_I}  (hg : zq_ok t ((pc, ins, len, aux, cst, mask) :: tl)) : decode t.2.1 pc = .ok (ins, len) ∧ zq_lk t pc ins len aux cst = true ∧ ∀ ls st cs x, nx tl ls st cs x → zq_x g rep d k (pc + len) ls st cs x Q := by
  obtain ⟨h1, h2⟩ := zq_ek_dec (hg.1 _ List.mem_cons_self)
  refine ⟨h1, h2, fun ls st cs x h => ?_⟩
  obtain ⟨h3, h4⟩ := C.2.2.2.1 tl ls st cs x hg.tail.1 h
  rw [hg.tail.2 h3] at h4
  exact h4
theorem zq_jump {X : Type} {g : zq_G} {O : zq_O X} {rep : X → List zq_E} {t : zq_T} {k d : Nat} {Q : Option Value → X → Prop} {nx : List zq_I → List Value → List Value → Nat × Nat → X → Prop} {ny : Nat → List Value → List Value → Nat × Nat → X → Prop} (C : zq_cx g O rep t k d Q nx ny) (a : Nat) : ∀ ls st cs x, nx (zq_sf t.2.2.2.2.1 a) ls st cs x → zq_x g rep d k a ls st cs x Q := by
  intro ls st cs x h
  obtain ⟨h1, h2⟩ := zq_ok.sf a C.2.2.1
  obtain ⟨h3, h4⟩ := C.2.2.2.1 _ ls st cs x h1 h
  rw [h2 h3] at h4
  exact h4
theorem zq_s_iconst {X : Type} {g : zq_G} {O : zq_O X} {rep : X → List zq_E} {t : zq_T} {k d : Nat} {Q : Option Value → X → Prop} {nx : List zq_I → List Value → List Value → Nat × Nat → X → Prop} {ny : Nat → List Value → List Value → Nat × Nat → X → Prop} (C : zq_cx g O rep t k d Q nx ny) {pc len : Nat} {aux : List Nat} {cst : Value} {mask : List Bool} {tl : List zq_I} {ls st : List Value} {cs : Nat × Nat} {x : X} {i : Int} (hg : zq_ok t ((pc, .iconst i, len, aux, cst, mask) :: tl)) (h : zq_st g O rep t.2.2.2.2.1 t.2.2.2.1 t.2.2.2.2.2.1 d Q nx ny ((pc, .iconst i, len, aux, cst, mask) :: tl) ls st cs x) : zq_x g rep d k pc ls st cs x Q := by
  obtain ⟨hdec, hlk, hn⟩ := zq_head C hg
  simp only [zq_lk, Bool.and_eq_true, decide_eq_true_eq] at hlk
  obtain rfl : len = 1 := Nat.eq_of_beq_eq_true hlk.2
  replace h : nx tl ls (cst :: st) cs x := h
  obtain rfl := hlk.1
  · intro t' ht' p e R s m args below meth c Z ha hr H locs la hw hl
    obtain rfl : t' = t := Option.some.inj (ht'.symm.trans C.2.1)
    exact lv_iconst ha.2.1 ha.2.2.1 hdec rfl (hn _ _ _ _ h t' ht' p e R s m args below meth c Z ha hr H locs la hw hl)
theorem zq_s_bipush {X : Type} {g : zq_G} {O : zq_O X} {rep : X → List zq_E} {t : zq_T} {k d : Nat} {Q : Option Value → X → Prop} {nx : List zq_I → List Value → List Value → Nat × Nat → X → Prop} {ny : Nat → List Value → List Value → Nat × Nat → X → Prop} (C : zq_cx g O rep t k d Q nx ny) {pc len : Nat} {aux : List Nat} {cst : Value} {mask : List Bool} {tl : List zq_I} {ls st : List Value} {cs : Nat × Nat} {x : X} {i : Int} (hg : zq_ok t ((pc, .bipush i, len, aux, cst, mask) :: tl)) (h : zq_st g O rep t.2.2.2.2.1 t.2.2.2.1 t.2.2.2.2.2.1 d Q nx ny ((pc, .bipush i, len, aux, cst, mask) :: tl) ls st cs x) : zq_x g rep d k pc ls st cs x Q := by
  obtain ⟨hdec, hlk, hn⟩ := zq_head C hg
  simp only [zq_lk, Bool.and_eq_true, decide_eq_true_eq] at hlk
  obtain rfl : len = 2 := Nat.eq_of_beq_eq_true hlk.2
  replace h : nx tl ls (cst :: st) cs x := h
  obtain rfl := hlk.1
  · intro t' ht' p e R s m args below meth c Z ha hr H locs la hw hl
    obtain rfl : t' = t := Option.some.inj (ht'.symm.trans C.2.1)
    exact lv_bipush ha.2.1 ha.2.2.1 hdec rfl (hn _ _ _ _ h t' ht' p e R s m args below meth c Z ha hr H locs la hw hl)
theorem zq_s_sipush {X : Type} {g : zq_G} {O : zq_O X} {rep : X → List zq_E} {t : zq_T} {k d : Nat} {Q : Option Value → X → Prop} {nx : List zq_I → List Value → List Value → Nat × Nat → X → Prop} {ny : Nat → List Value → List Value → Nat × Nat → X → Prop} (C : zq_cx g O rep t k d Q nx ny) {pc len : Nat} {aux : List Nat} {cst : Value} {mask : List Bool} {tl : List zq_I} {ls st : List Value} {cs : Nat × Nat} {x : X} {i : Int} (hg : zq_ok t ((pc, .sipush i, len, aux, cst, mask) :: tl)) (h : zq_st g O rep t.2.2.2.2.1 t.2.2.2.1 t.2.2.2.2.2.1 d Q nx ny ((pc, .sipush i, len, aux, cst, mask) :: tl) ls st cs x) : zq_x g rep d k pc ls st cs x Q := by
  obtain ⟨hdec, hlk, hn⟩ := zq_head C hg
  simp only [zq_lk, Bool.and_eq_true, decide_eq_true_eq] at hlk
  obtain rfl : len = 3 := Nat.eq_of_beq_eq_true hlk.2
  replace h : nx tl ls (cst :: st) cs x := h
  obtain rfl := hlk.1
  · intro t' ht' p e R s m args below meth c Z ha hr H locs la hw hl
    obtain rfl : t' = t := Option.some.inj (ht'.symm.trans C.2.1)
    exact lv_sipush ha.2.1 ha.2.2.1 hdec rfl (hn _ _ _ _ h t' ht' p e R s m args below meth c Z ha hr H locs la hw hl)
theorem zq_s_lconst {X : Type} {g : zq_G} {O : zq_O X} {rep : X → List zq_E} {t : zq_T} {k d : Nat} {Q : Option Value → X → Prop} {nx : List zq_I → List Value → List Value → Nat × Nat → X → Prop} {ny : Nat → List Value → List Value → Nat × Nat → X → Prop} (C : zq_cx g O rep t k d Q nx ny) {pc len : Nat} {aux : List Nat} {cst : Value} {mask : List Bool} {tl : List zq_I} {ls st : List Value} {cs : Nat × Nat} {x : X} {i : Fin 2} (hg : zq_ok t ((pc, .lconst i, len, aux, cst, mask) :: tl)) (h : zq_st g O rep t.2.2.2.2.1 t.2.2.2.1 t.2.2.2.2.2.1 d Q nx ny ((pc, .lconst i, len, aux, cst, mask) :: tl) ls st cs x) : zq_x g rep d k pc ls st cs x Q := by
  obtain ⟨hdec, hlk, hn⟩ := zq_head C hg
  simp only [zq_lk, Bool.and_eq_true, decide_eq_true_eq] at hlk
  obtain rfl : len = 1 := Nat.eq_of_beq_eq_true hlk.2
  replace h : nx tl ls (cst :: st) cs x := h
  obtain rfl := hlk.1
  · intro t' ht' p e R s m args below meth c Z ha hr H locs la hw hl
    obtain rfl : t' = t := Option.some.inj (ht'.symm.trans C.2.1)
    exact lv_lconst ha.2.1 ha.2.2.1 hdec rfl (hn _ _ _ _ h t' ht' p e R s m args below meth c Z ha hr H locs la hw hl)
theorem zq_s_ldc2_w {X : Type} {g : zq_G} {O : zq_O X} {rep : X → List zq_E} {t : zq_T} {k d : Nat} {Q : Option Value → X → Prop} {nx : List zq_I → List Value → List Value → Nat × Nat → X → Prop} {ny : Nat → List Value → List Value → Nat × Nat → X → Prop} (C : zq_cx g O rep t k d Q nx ny) {pc len : Nat} {aux : List Nat} {cst : Value} {mask : List Bool} {tl : List zq_I} {ls st : List Value} {cs : Nat × Nat} {x : X} {i : Nat} (hg : zq_ok t ((pc, .ldc2_w i, len, aux, cst, mask) :: tl)) (h : zq_st g O rep t.2.2.2.2.1 t.2.2.2.1 t.2.2.2.2.2.1 d Q nx ny ((pc, .ldc2_w i, len, aux, cst, mask) :: tl) ls st cs x) : zq_x g rep d k pc ls st cs x Q := by
  obtain ⟨hdec, hlk, hn⟩ := zq_head C hg
  simp only [zq_lk, Bool.and_eq_true, decide_eq_true_eq] at hlk
  obtain rfl : len = 3 := Nat.eq_of_beq_eq_true hlk.2
  replace h : nx tl ls (cst :: st) cs x := h
  have h1 := hlk.1
  split at h1
  · intro t' ht' p e R s m args below meth c Z ha hr H locs la hw hl
    obtain rfl : t' = t := Option.some.inj (ht'.symm.trans C.2.1)
    exact lv_ldc2 ha.2.1 ha.2.2.1 ha.2.2.2.2.2.1 (ha.2.2.2.2.2.2.1 _ (zq_is_in h1)) hdec (hn _ _ _ _ h t' ht' p e R s m args below meth c Z ha hr H locs la hw hl)
  · cases h1
theorem zq_s_ldc {X : Type} {g : zq_G} {O : zq_O X} {rep : X → List zq_E} {t : zq_T} {k d : Nat} {Q : Option Value → X → Prop} {nx : List zq_I → List Value → List Value → Nat × Nat → X → Prop} {ny : Nat → List Value → List Value → Nat × Nat → X → Prop} (C : zq_cx g O rep t k d Q nx ny) {pc len : Nat} {aux : List Nat} {cst : Value} {mask : List Bool} {tl : List zq_I} {ls st : List Value} {cs : Nat × Nat} {x : X} {i : Nat} (hg : zq_ok t ((pc, .ldc i, len, aux, cst, mask) :: tl)) (h : zq_st g O rep t.2.2.2.2.1 t.2.2.2.1 t.2.2.2.2.2.1 d Q nx ny ((pc, .ldc i, len, aux, cst, mask) :: tl) ls st cs x) : zq_x g rep d k pc ls st cs x Q := by
  obtain ⟨hdec, hlk, hn⟩ := zq_head C hg
  simp only [zq_lk, Bool.and_eq_true, decide_eq_true_eq] at hlk
  obtain rfl : len = 2 := Nat.eq_of_beq_eq_true hlk.2
  have h1 := hlk.1
  clear hlk
  replace h : (match (generalizing := false) aux with
    | [1, j] => nx tl ls (.ref (2000 + j) :: st) cs x
    | _ => nx tl ls (cst :: st) cs x) := h
  split at h1
  · next j =>
    replace h : nx tl ls (.ref (2000 + j) :: st) cs x := h
    intro t' ht' p e R s m args below meth c Z ha hr H locs la hw hl
    obtain rfl : t' = t := Option.some.inj (ht'.symm.trans C.2.1)
    obtain ⟨q, hq, e2⟩ := Option.map_eq_some_iff.mp (of_decide_eq_true h1)
    have hz := ha.2.2.2.2.2.2.2.2.2.2.1.2.2.2.2.2.1 j q hq
    obtain ⟨e3, e4⟩ := Prod.mk.inj e2
    rw [e3, e4] at hz
    exact va_ldcS ha.2.1 ha.2.2.1 ha.2.2.2.2.2.1 hz hdec (hn _ _ _ _ h t' ht' p e R s m args below meth c Z ha hr H locs la hw hl)
  · next hne =>
    have h2 : nx tl ls (cst :: st) cs x := by
      split at h
      · next j => exact absurd rfl (hne j)
      · exact h
    clear h
    split at h1
    · intro t' ht' p e R s m args below meth c Z ha hr H locs la hw hl
      obtain rfl : t' = t := Option.some.inj (ht'.symm.trans C.2.1)
      exact lv_ldc ha.2.1 ha.2.2.1 ha.2.2.2.2.2.1 (ha.2.2.2.2.2.2.1 _ (zq_is_in h1)) hdec (hn _ _ _ _ h2 t' ht' p e R s m args below meth c Z ha hr H locs la hw hl)
    · cases h1
theorem zq_s_iload {X : Type} {g : zq_G} {O : zq_O X} {rep : X → List zq_E} {t : zq_T} {k d : Nat} {Q : Option Value → X → Prop} {nx : List zq_I → List Value → List Value → Nat × Nat → X → Prop} {ny : Nat → List Value → List Value → Nat × Nat → X → Prop} (C : zq_cx g O rep t k d Q nx ny) {pc len : Nat} {aux : List Nat} {cst : Value} {mask : List Bool} {tl : List zq_I} {ls st : List Value} {cs : Nat × Nat} {x : X} {i : Nat} (hg : zq_ok t ((pc, .iload i, len, aux, cst, mask) :: tl)) (h : zq_st g O rep t.2.2.2.2.1 t.2.2.2.1 t.2.2.2.2.2.1 d Q nx ny ((pc, .iload i, len, aux, cst, mask) :: tl) ls st cs x) : zq_x g rep d k pc ls st cs x Q := by
  obtain ⟨hdec, hlk, hn⟩ := zq_head C hg
  simp only [zq_lk, Bool.and_eq_true, decide_eq_true_eq] at hlk
  obtain rfl : len = 2 := Nat.eq_of_beq_eq_true hlk.2
  replace h : (match (generalizing := false) zq_at ls (zq_ix aux 0) with
    | .int v => nx tl ls (.int v :: st) cs x
    | _ => False) := h
  rw [Nat.eq_of_beq_eq_true hlk.1] at h
  split at h
  · next v hv =>
    intro t' ht' p e R s m args below meth c Z ha hr H locs la hw hl
    obtain rfl : t' = t := Option.some.inj (ht'.symm.trans C.2.1)
    have hv' := zq_at_get ls _ _ hv (by intro q; cases q)
    exact lv_iload ha.2.1 ha.2.2.1 hdec (hl.2.2 _ (zq_lv_of hv' (by intro q; cases q))) (hn _ _ _ _ h t' ht' p e R s m args below meth c Z ha hr H locs la hw hl)
  · exact h.elim
theorem zq_s_iload_n {X : Type} {g : zq_G} {O : zq_O X} {rep : X → List zq_E} {t : zq_T} {k d : Nat} {Q : Option Value → X → Prop} {nx : List zq_I → List Value → List Value → Nat × Nat → X → Prop} {ny : Nat → List Value → List Value → Nat × Nat → X → Prop} (C : zq_cx g O rep t k d Q nx ny) {pc len : Nat} {aux : List Nat} {cst : Value} {mask : List Bool} {tl : List zq_I} {ls st : List Value} {cs : Nat × Nat} {x : X} {i : Fin 4} (hg : zq_ok t ((pc, .iload_n i, len, aux, cst, mask) :: tl)) (h : zq_st g O rep t.2.2.2.2.1 t.2.2.2.1 t.2.2.2.2.2.1 d Q nx ny ((pc, .iload_n i, len, aux, cst, mask) :: tl) ls st cs x) : zq_x g rep d k pc ls st cs x Q := by
  obtain ⟨hdec, hlk, hn⟩ := zq_head C hg
  simp only [zq_lk, Bool.and_eq_true, decide_eq_true_eq] at hlk
  obtain rfl : len = 1 := Nat.eq_of_beq_eq_true hlk.2
  replace h : (match (generalizing := false) zq_at ls (zq_ix aux 0) with
    | .int v => nx tl ls (.int v :: st) cs x
    | _ => False) := h
  rw [Nat.eq_of_beq_eq_true hlk.1] at h
  split at h
  · next v hv =>
    intro t' ht' p e R s m args below meth c Z ha hr H locs la hw hl
    obtain rfl : t' = t := Option.some.inj (ht'.symm.trans C.2.1)
    have hv' := zq_at_get ls _ _ hv (by intro q; cases q)
    exact lv_iload_n ha.2.1 ha.2.2.1 hdec rfl (hl.2.2 _ (zq_lv_of hv' (by intro q; cases q))) (hn _ _ _ _ h t' ht' p e R s m args below meth c Z ha hr H locs la hw hl)
  · exact h.elim
theorem zq_s_lload {X : Type} {g : zq_G} {O : zq_O X} {rep : X → List zq_E} {t : zq_T} {k d : Nat} {Q : Option Value → X → Prop} {nx : List zq_I → List Value → List Value → Nat × Nat → X → Prop} {ny : Nat → List Value → List Value → Nat × Nat → X → Prop} (C : zq_cx g O rep t k d Q nx ny) {pc len : Nat} {aux : List Nat} {cst : Value} {mask : List Bool} {tl : List zq_I} {ls st : List Value} {cs : Nat × Nat} {x : X} {i : Nat} (hg : zq_ok t ((pc, .lload i, len, aux, cst, mask) :: tl)) (h : zq_st g O rep t.2.2.2.2.1 t.2.2.2.1 t.2.2.2.2.2.1 d Q nx ny ((pc, .lload i, len, aux, cst, mask) :: tl) ls st cs x) : zq_x g rep d k pc ls st cs x Q := by
  obtain ⟨hdec, hlk, hn⟩ := zq_head C hg
  simp only [zq_lk, Bool.and_eq_true, decide_eq_true_eq] at hlk
  obtain rfl : len = 2 := Nat.eq_of_beq_eq_true hlk.2
  replace h : (match (generalizing := false) zq_at ls (zq_ix aux 0) with
    | .long v => nx tl ls (.long v :: st) cs x
    | _ => False) := h
  rw [Nat.eq_of_beq_eq_true hlk.1] at h
  split at h
  · next v hv =>
    intro t' ht' p e R s m args below meth c Z ha hr H locs la hw hl
    obtain rfl : t' = t := Option.some.inj (ht'.symm.trans C.2.1)
    have hv' := zq_at_get ls _ _ hv (by intro q; cases q)
    exact lv_lload ha.2.1 ha.2.2.1 hdec (hl.2.2 _ (zq_lv_of hv' (by intro q; cases q))) (hn _ _ _ _ h t' ht' p e R s m args below meth c Z ha hr H locs la hw hl)
  · exact h.elim
theorem zq_s_lload_n {X : Type} {g : zq_G} {O : zq_O X} {rep : X → List zq_E} {t : zq_T} {k d : Nat} {Q : Option Value → X → Prop} {nx : List zq_I → List Value → List Value → Nat × Nat → X → Prop} {ny : Nat → List Value → List Value → Nat × Nat → X → Prop} (C : zq_cx g O rep t k d Q nx ny) {pc len : Nat} {aux : List Nat} {cst : Value} {mask : List Bool} {tl : List zq_I} {ls st : List Value} {cs : Nat × Nat} {x : X} {i : Fin 4} (hg : zq_ok t ((pc, .lload_n i, len, aux, cst, mask) :: tl)) (h : zq_st g O rep t.2.2.2.2.1 t.2.2.2.1 t.2.2.2.2.2.1 d Q nx ny ((pc, .lload_n i, len, aux, cst, mask) :: tl) ls st cs x) : zq_x g rep d k pc ls st cs x Q := by
  obtain ⟨hdec, hlk, hn⟩ := zq_head C hg
  simp only [zq_lk, Bool.and_eq_true, decide_eq_true_eq] at hlk
  obtain rfl : len = 1 := Nat.eq_of_beq_eq_true hlk.2
  replace h : (match (generalizing := false) zq_at ls (zq_ix aux 0) with
    | .long v => nx tl ls (.long v :: st) cs x
    | _ => False) := h
  rw [Nat.eq_of_beq_eq_true hlk.1] at h
  split at h
  · next v hv =>
    intro t' ht' p e R s m args below meth c Z ha hr H locs la hw hl
    obtain rfl : t' = t := Option.some.inj (ht'.symm.trans C.2.1)
    have hv' := zq_at_get ls _ _ hv (by intro q; cases q)
    exact lv_lload_n ha.2.1 ha.2.2.1 hdec rfl (hl.2.2 _ (zq_lv_of hv' (by intro q; cases q))) (hn _ _ _ _ h t' ht' p e R s m args below meth c Z ha hr H locs la hw hl)
  · exact h.elim
theorem zq_s_aload {X : Type} {g : zq_G} {O : zq_O X} {rep : X → List zq_E} {t : zq_T} {k d : Nat} {Q : Option Value → X → Prop} {nx : List zq_I → List Value → List Value → Nat × Nat → X → Prop} {ny : Nat → List Value → List Value → Nat × Nat → X → Prop} (C : zq_cx g O rep t k d Q nx ny) {pc len : Nat} {aux : List Nat} {cst : Value} {mask : List Bool} {tl : List zq_I} {ls st : List Value} {cs : Nat × Nat} {x : X} {i : Nat} (hg : zq_ok t ((pc, .aload i, len, aux, cst, mask) :: tl)) (h : zq_st g O rep t.2.2.2.2.1 t.2.2.2.1 t.2.2.2.2.2.1 d Q nx ny ((pc, .aload i, len, aux, cst, mask) :: tl) ls st cs x) : zq_x g rep d k pc ls st cs x Q := by
  obtain ⟨hdec, hlk, hn⟩ := zq_head C hg
  simp only [zq_lk, Bool.and_eq_true, decide_eq_true_eq] at hlk
  obtain rfl : len = 2 := Nat.eq_of_beq_eq_true hlk.2
  replace h : (match (generalizing := false) zq_at ls (zq_ix aux 0) with
    | .ref v => nx tl ls (.ref v :: st) cs x
    | _ => False) := h
  rw [Nat.eq_of_beq_eq_true hlk.1] at h
  split at h
  · next v hv =>
    intro t' ht' p e R s m args below meth c Z ha hr H locs la hw hl
    obtain rfl : t' = t := Option.some.inj (ht'.symm.trans C.2.1)
    have hv' := zq_at_get ls _ _ hv (by intro q; cases q)
    exact lv_aload ha.2.1 ha.2.2.1 hdec (hl.2.2 _ (zq_lv_of hv' (by intro q; cases q))) (hn _ _ _ _ h t' ht' p e R s m args below meth c Z ha hr H locs la hw hl)
  · exact h.elim
theorem zq_s_aload_n {X : Type} {g : zq_G} {O : zq_O X} {rep : X → List zq_E} {t : zq_T} {k d : Nat} {Q : Option Value → X → Prop} {nx : List zq_I → List Value → List Value → Nat × Nat → X → Prop} {ny : Nat → List Value → List Value → Nat × Nat → X → Prop} (C : zq_cx g O rep t k d Q nx ny) {pc len : Nat} {aux : List Nat} {cst : Value} {mask : List Bool} {tl : List zq_I} {ls st : List Value} {cs : Nat × Nat} {x : X} {i : Fin 4} (hg : zq_ok t ((pc, .aload_n i, len, aux, cst, mask) :: tl)) (h : zq_st g O rep t.2.2.2.2.1 t.2.2.2.1 t.2.2.2.2.2.1 d Q nx ny ((pc, .aload_n i, len, aux, cst, mask) :: tl) ls st cs x) : zq_x g rep d k pc ls st cs x Q := by
  obtain ⟨hdec, hlk, hn⟩ := zq_head C hg
  simp only [zq_lk, Bool.and_eq_true, decide_eq_true_eq] at hlk
  obtain rfl : len = 1 := Nat.eq_of_beq_eq_true hlk.2
  replace h : (match (generalizing := false) zq_at ls (zq_ix aux 0) with
    | .ref v => nx tl ls (.ref v :: st) cs x
    | _ => False) := h
  rw [Nat.eq_of_beq_eq_true hlk.1] at h
  split at h
  · next v hv =>
    intro t' ht' p e R s m args below meth c Z ha hr H locs la hw hl
    obtain rfl : t' = t := Option.some.inj (ht'.symm.trans C.2.1)
    have hv' := zq_at_get ls _ _ hv (by intro q; cases q)
    exact lv_aload_n ha.2.1 ha.2.2.1 hdec rfl (hl.2.2 _ (zq_lv_of hv' (by intro q; cases q))) (hn _ _ _ _ h t' ht' p e R s m args below meth c Z ha hr H locs la hw hl)
  · exact h.elim
theorem zq_sto1 {g : zq_G} {la : Array Slot} {n i : Nat} {v : Value} {ls : List Value} (h : lv_has la n ((i, zq_c g v) :: (zq_lv g 0 ls).filter (fun q => !(q.1 == i) && !(q.1 + 1 == i && q.2.category == 2)))) : lv_has la n (zq_lv g 0 (zq_se (zq_kl ls i) i v)) := by
  refine zq_lv_le h (fun j w h1 h2 => ?_)
  rw [zq_se_get] at h1
  by_cases e : j = i
  · rw [if_pos e] at h1
    split at h1
    · cases h1; rw [e]; exact List.mem_cons_self
    · cases h1
  · rw [if_neg e] at h1
    obtain ⟨h3, h4⟩ := zq_kl_get ls i j w h1 h2
    refine List.mem_cons_of_mem _ (List.mem_filter.mpr ⟨zq_lv_of h3 h2, ?_⟩)
    have h5 : ¬ (j + 1 = i ∧ (zq_c g w).category = 2) := by rw [zq_c_cat]; exact h4
    simp [e]
    omega
theorem zq_sto2 {g : zq_G} {la : Array Slot} {n i : Nat} {v : Value} {ls : List Value} (h : lv_has la n ((i, zq_c g v) :: (zq_lv g 0 ls).filter (fun q => !(q.1 == i) && (!(q.1 == i + 1) && !(q.1 + 1 == i && q.2.category == 2))))) : lv_has la n (zq_lv g 0 (zq_se (zq_se (zq_kl ls i) i v) (i + 1) .null)) := by
  refine zq_lv_le h (fun j w h1 h2 => ?_)
  rw [zq_se_get] at h1
  by_cases e1 : j = i + 1
  · rw [if_pos e1] at h1
    split at h1
    · cases h1; exact absurd rfl h2
    · cases h1
  · rw [if_neg e1, zq_se_get] at h1
    by_cases e : j = i
    · rw [if_pos e] at h1
      split at h1
      · cases h1; rw [e]; exact List.mem_cons_self
      · cases h1
    · rw [if_neg e] at h1
      obtain ⟨h3, h4⟩ := zq_kl_get ls i j w h1 h2
      refine List.mem_cons_of_mem _ (List.mem_filter.mpr ⟨zq_lv_of h3 h2, ?_⟩)
      have h5 : ¬ (j + 1 = i ∧ (zq_c g w).category = 2) := by rw [zq_c_cat]; exact h4
      simp [e, e1]
      omega
theorem zq_s_istore {X : Type} {g : zq_G} {O : zq_O X} {rep : X → List zq_E} {t : zq_T} {k d : Nat} {Q : Option Value → X → Prop} {nx : List zq_I → List Value → List Value → Nat × Nat → X → Prop} {ny : Nat → List Value → List Value → Nat × Nat → X → Prop} (C : zq_cx g O rep t k d Q nx ny) {pc len : Nat} {aux : List Nat} {cst : Value} {mask : List Bool} {tl : List zq_I} {ls st : List Value} {cs : Nat × Nat} {x : X} {i : Nat} (hg : zq_ok t ((pc, .istore i, len, aux, cst, mask) :: tl)) (h : zq_st g O rep t.2.2.2.2.1 t.2.2.2.1 t.2.2.2.2.2.1 d Q nx ny ((pc, .istore i, len, aux, cst, mask) :: tl) ls st cs x) : zq_x g rep d k pc ls st cs x Q := by
  obtain ⟨hdec, hlk, hn⟩ := zq_head C hg
  simp only [zq_lk, Bool.and_eq_true, decide_eq_true_eq] at hlk
  obtain rfl : len = 2 := Nat.eq_of_beq_eq_true hlk.2
  replace h : (match (generalizing := false) st with
    | .int v :: st => nx tl (zq_se (zq_kl ls (zq_ix aux 0)) (zq_ix aux 0) (.int v)) st cs x
    | _ => False) := h
  rw [Nat.eq_of_beq_eq_true hlk.1.1] at h
  split at h
  · intro t' ht' p e R s m args below meth c Z ha hr H locs la hw hl
    obtain rfl : t' = t := Option.some.inj (ht'.symm.trans C.2.1)
    exact lv_istore ha.2.1 ha.2.2.1 hdec hl (Nat.le_of_ble_eq_true hlk.1.2) rfl (fun la' hl' => hn _ _ _ _ h t' ht' p e R s m args below meth c Z ha hr H locs la' hw (zq_sto1 hl'))
  · exact h.elim
theorem zq_s_istore_n {X : Type} {g : zq_G} {O : zq_O X} {rep : X → List zq_E} {t : zq_T} {k d : Nat} {Q : Option Value → X → Prop} {nx : List zq_I → List Value → List Value → Nat × Nat → X → Prop} {ny : Nat → List Value → List Value → Nat × Nat → X → Prop} (C : zq_cx g O rep t k d Q nx ny) {pc len : Nat} {aux : List Nat} {cst : Value} {mask : List Bool} {tl : List zq_I} {ls st : List Value} {cs : Nat × Nat} {x : X} {i : Fin 4} (hg : zq_ok t ((pc, .istore_n i, len, aux, cst, mask) :: tl)) (h : zq_st g O rep t.2.2.2.2.1 t.2.2.2.1 t.2.2.2.2.2.1 d Q nx ny ((pc, .istore_n i, len, aux, cst, mask) :: tl) ls st cs x) : zq_x g rep d k pc ls st cs x Q := by
  obtain ⟨hdec, hlk, hn⟩ := zq_head C hg
  simp only [zq_lk, Bool.and_eq_true, decide_eq_true_eq] at hlk
  obtain rfl : len = 1 := Nat.eq_of_beq_eq_true hlk.2
  replace h : (match (generalizing := false) st with
    | .int v :: st => nx tl (zq_se (zq_kl ls (zq_ix aux 0)) (zq_ix aux 0) (.int v)) st cs x
    | _ => False) := h
  rw [Nat.eq_of_beq_eq_true hlk.1.1] at h
  split at h
  · intro t' ht' p e R s m args below meth c Z ha hr H locs la hw hl
    obtain rfl : t' = t := Option.some.inj (ht'.symm.trans C.2.1)
    exact lv_istore_n ha.2.1 ha.2.2.1 hdec rfl hl (Nat.le_of_ble_eq_true hlk.1.2) rfl (fun la' hl' => hn _ _ _ _ h t' ht' p e R s m args below meth c Z ha hr H locs la' hw (zq_sto1 hl'))
  · exact h.elim
theorem zq_s_astore {X : Type} {g : zq_G} {O : zq_O X} {rep : X → List zq_E} {t : zq_T} {k d : Nat} {Q : Option Value → X → Prop} {nx : List zq_I → List Value → List Value → Nat × Nat → X → Prop} {ny : Nat → List Value → List Value → Nat × Nat → X → Prop} (C : zq_cx g O rep t k d Q nx ny) {pc len : Nat} {aux : List Nat} {cst : Value} {mask : List Bool} {tl : List zq_I} {ls st : List Value} {cs : Nat × Nat} {x : X} {i : Nat} (hg : zq_ok t ((pc, .astore i, len, aux, cst, mask) :: tl)) (h : zq_st g O rep t.2.2.2.2.1 t.2.2.2.1 t.2.2.2.2.2.1 d Q nx ny ((pc, .astore i, len, aux, cst, mask) :: tl) ls st cs x) : zq_x g rep d k pc ls st cs x Q := by
  obtain ⟨hdec, hlk, hn⟩ := zq_head C hg
  simp only [zq_lk, Bool.and_eq_true, decide_eq_true_eq] at hlk
  obtain rfl : len = 2 := Nat.eq_of_beq_eq_true hlk.2
  replace h : (match (generalizing := false) st with
    | .ref v :: st => nx tl (zq_se (zq_kl ls (zq_ix aux 0)) (zq_ix aux 0) (.ref v)) st cs x
    | _ => False) := h
  rw [Nat.eq_of_beq_eq_true hlk.1.1] at h
  split at h
  · intro t' ht' p e R s m args below meth c Z ha hr H locs la hw hl
    obtain rfl : t' = t := Option.some.inj (ht'.symm.trans C.2.1)
    exact lv_astore ha.2.1 ha.2.2.1 hdec hl (Nat.le_of_ble_eq_true hlk.1.2) rfl (fun la' hl' => hn _ _ _ _ h t' ht' p e R s m args below meth c Z ha hr H locs la' hw (zq_sto1 hl'))
  · exact h.elim
theorem zq_s_astore_n {X : Type} {g : zq_G} {O : zq_O X} {rep : X → List zq_E} {t : zq_T} {k d : Nat} {Q : Option Value → X → Prop} {nx : List zq_I → List Value → List Value → Nat × Nat → X → Prop} {ny : Nat → List Value → List Value → Nat × Nat → X → Prop} (C : zq_cx g O rep t k d Q nx ny) {pc len : Nat} {aux : List Nat} {cst : Value} {mask : List Bool} {tl : List zq_I} {ls st : List Value} {cs : Nat × Nat} {x : X} {i : Fin 4} (hg : zq_ok t ((pc, .astore_n i, len, aux, cst, mask) :: tl)) (h : zq_st g O rep t.2.2.2.2.1 t.2.2.2.1 t.2.2.2.2.2.1 d Q nx ny ((pc, .astore_n i, len, aux, cst, mask) :: tl) ls st cs x) : zq_x g rep d k pc ls st cs x Q := by
  obtain ⟨hdec, hlk, hn⟩ := zq_head C hg
  simp only [zq_lk, Bool.and_eq_true, decide_eq_true_eq] at hlk
  obtain rfl : len = 1 := Nat.eq_of_beq_eq_true hlk.2
  replace h : (match (generalizing := false) st with
    | .ref v :: st => nx tl (zq_se (zq_kl ls (zq_ix aux 0)) (zq_ix aux 0) (.ref v)) st cs x
    | _ => False) := h
  rw [Nat.eq_of_beq_eq_true hlk.1.1] at h
  split at h
  · intro t' ht' p e R s m args below meth c Z ha hr H locs la hw hl
    obtain rfl : t' = t := Option.some.inj (ht'.symm.trans C.2.1)
    exact lv_astore_n ha.2.1 ha.2.2.1 hdec rfl hl (Nat.le_of_ble_eq_true hlk.1.2) rfl (fun la' hl' => hn _ _ _ _ h t' ht' p e R s m args below meth c Z ha hr H locs la' hw (zq_sto1 hl'))
  · exact h.elim
theorem zq_s_lstore {X : Type} {g : zq_G} {O : zq_O X} {rep : X → List zq_E} {t : zq_T} {k d : Nat} {Q : Option Value → X → Prop} {nx : List zq_I → List Value → List Value → Nat × Nat → X → Prop} {ny : Nat → List Value → List Value → Nat × Nat → X → Prop} (C : zq_cx g O rep t k d Q nx ny) {pc len : Nat} {aux : List Nat} {cst : Value} {mask : List Bool} {tl : List zq_I} {ls st : List Value} {cs : Nat × Nat} {x : X} {i : Nat} (hg : zq_ok t ((pc, .lstore i, len, aux, cst, mask) :: tl)) (h : zq_st g O rep t.2.2.2.2.1 t.2.2.2.1 t.2.2.2.2.2.1 d Q nx ny ((pc, .lstore i, len, aux, cst, mask) :: tl) ls st cs x) : zq_x g rep d k pc ls st cs x Q := by
  obtain ⟨hdec, hlk, hn⟩ := zq_head C hg
  simp only [zq_lk, Bool.and_eq_true, decide_eq_true_eq] at hlk
  obtain rfl : len = 2 := Nat.eq_of_beq_eq_true hlk.2
  replace h : (match (generalizing := false) st with
    | .long v :: st => nx tl (zq_se (zq_se (zq_kl ls (zq_ix aux 0)) (zq_ix aux 0) (.long v)) (zq_ix aux 0 + 1) .null) st cs x
    | _ => False) := h
  rw [Nat.eq_of_beq_eq_true hlk.1.1] at h
  split at h
  · intro t' ht' p e R s m args below meth c Z ha hr H locs la hw hl
    obtain rfl : t' = t := Option.some.inj (ht'.symm.trans C.2.1)
    exact lv_lstore ha.2.1 ha.2.2.1 hdec hl (Nat.le_of_ble_eq_true hlk.1.2) rfl (fun la' hl' => hn _ _ _ _ h t' ht' p e R s m args below meth c Z ha hr H locs la' hw (zq_sto2 hl'))
  · exact h.elim
theorem zq_s_lstore_n {X : Type} {g : zq_G} {O : zq_O X} {rep : X → List zq_E} {t : zq_T} {k d : Nat} {Q : Option Value → X → Prop} {nx : List zq_I → List Value → List Value → Nat × Nat → X → Prop} {ny : Nat → List Value → List Value → Nat × Nat → X → Prop} (C : zq_cx g O rep t k d Q nx ny) {pc len : Nat} {aux : List Nat} {cst : Value} {mask : List Bool} {tl : List zq_I} {ls st : List Value} {cs : Nat × Nat} {x : X} {i : Fin 4} (hg : zq_ok t ((pc, .lstore_n i, len, aux, cst, mask) :: tl)) (h : zq_st g O rep t.2.2.2.2.1 t.2.2.2.1 t.2.2.2.2.2.1 d Q nx ny ((pc, .lstore_n i, len, aux, cst, mask) :: tl) ls st cs x) : zq_x g rep d k pc ls st cs x Q := by
  obtain ⟨hdec, hlk, hn⟩ := zq_head C hg
  simp only [zq_lk, Bool.and_eq_true, decide_eq_true_eq] at hlk
  obtain rfl : len = 1 := Nat.eq_of_beq_eq_true hlk.2
  replace h : (match (generalizing := false) st with
    | .long v :: st => nx tl (zq_se (zq_se (zq_kl ls (zq_ix aux 0)) (zq_ix aux 0) (.long v)) (zq_ix aux 0 + 1) .null) st cs x
    | _ => False) := h
  rw [Nat.eq_of_beq_eq_true hlk.1.1] at h
  split at h
  · intro t' ht' p e R s m args below meth c Z ha hr H locs la hw hl
    obtain rfl : t' = t := Option.some.inj (ht'.symm.trans C.2.1)
    exact lv_lstore_n ha.2.1 ha.2.2.1 hdec rfl hl (Nat.le_of_ble_eq_true hlk.1.2) rfl (fun la' hl' => hn _ _ _ _ h t' ht' p e R s m args below meth c Z ha hr H locs la' hw (zq_sto2 hl'))
  · exact h.elim
theorem zq_s_iinc {X : Type} {g : zq_G} {O : zq_O X} {rep : X → List zq_E} {t : zq_T} {k d : Nat} {Q : Option Value → X → Prop} {nx : List zq_I → List Value → List Value → Nat × Nat → X → Prop} {ny : Nat → List Value → List Value → Nat × Nat → X → Prop} (C : zq_cx g O rep t k d Q nx ny) {pc len : Nat} {aux : List Nat} {cst : Value} {mask : List Bool} {tl : List zq_I} {ls st : List Value} {cs : Nat × Nat} {x : X} {i : Nat} {n : Int} (hg : zq_ok t ((pc, .iinc i n, len, aux, cst, mask) :: tl)) (h : zq_st g O rep t.2.2.2.2.1 t.2.2.2.1 t.2.2.2.2.2.1 d Q nx ny ((pc, .iinc i n, len, aux, cst, mask) :: tl) ls st cs x) : zq_x g rep d k pc ls st cs x Q := by
  obtain ⟨hdec, hlk, hn⟩ := zq_head C hg
  simp only [zq_lk, Bool.and_eq_true, decide_eq_true_eq] at hlk
  obtain rfl : len = 3 := Nat.eq_of_beq_eq_true hlk.2
  replace h : (match (generalizing := false) zq_at ls (zq_ix aux 0), cst with
    | .int v, .int n => nx tl (zq_se (zq_kl ls (zq_ix aux 0)) (zq_ix aux 0) (.int (v + n))) st cs x
    | _, _ => False) := h
  rw [Nat.eq_of_beq_eq_true hlk.1.1.1] at h
  obtain rfl := hlk.1.2
  split at h
  · next v n' hv hn' =>
    cases hn'
    intro t' ht' p e R s m args below meth c Z ha hr H locs la hw hl
    obtain rfl : t' = t := Option.some.inj (ht'.symm.trans C.2.1)
    have hv' := zq_at_get ls _ _ hv (by intro q; cases q)
    obtain ⟨j, hj⟩ := List.getElem?_of_mem (zq_lv_of (g := g) hv' (by intro q; cases q))
    exact lv_iinc ha.2.1 ha.2.2.1 hdec hl hj rfl (Nat.le_of_ble_eq_true hlk.1.1.2) rfl (fun la' hl' => hn _ _ _ _ h t' ht' p e R s m args below meth c Z ha hr H locs la' hw (zq_sto1 hl'))
  · exact h.elim
theorem zq_s_iadd {X : Type} {g : zq_G} {O : zq_O X} {rep : X → List zq_E} {t : zq_T} {k d : Nat} {Q : Option Value → X → Prop} {nx : List zq_I → List Value → List Value → Nat × Nat → X → Prop} {ny : Nat → List Value → List Value → Nat × Nat → X → Prop} (C : zq_cx g O rep t k d Q nx ny) {pc len : Nat} {aux : List Nat} {cst : Value} {mask : List Bool} {tl : List zq_I} {ls st : List Value} {cs : Nat × Nat} {x : X} (hg : zq_ok t ((pc, .iadd, len, aux, cst, mask) :: tl)) (h : zq_st g O rep t.2.2.2.2.1 t.2.2.2.1 t.2.2.2.2.2.1 d Q nx ny ((pc, .iadd, len, aux, cst, mask) :: tl) ls st cs x) : zq_x g rep d k pc ls st cs x Q := by
  obtain ⟨hdec, hlk, hn⟩ := zq_head C hg
  simp only [zq_lk, Bool.and_eq_true, decide_eq_true_eq] at hlk
  obtain rfl : len = 1 := Nat.eq_of_beq_eq_true hlk.2
  replace h : (match (generalizing := false) st with
    | .int y :: .int z :: st => nx tl ls (.int (z + y) :: st) cs x
    | _ => False) := h
  split at h
  · intro t' ht' p e R s m args below meth c Z ha hr H locs la hw hl
    obtain rfl : t' = t := Option.some.inj (ht'.symm.trans C.2.1)
    exact lv_iadd ha.2.1 ha.2.2.1 hdec (hn _ _ _ _ h t' ht' p e R s m args below meth c Z ha hr H locs la hw hl)
  · exact h.elim
theorem zq_s_isub {X : Type} {g : zq_G} {O : zq_O X} {rep : X → List zq_E} {t : zq_T} {k d : Nat} {Q : Option Value → X → Prop} {nx : List zq_I → List Value → List Value → Nat × Nat → X → Prop} {ny : Nat → List Value → List Value → Nat × Nat → X → Prop} (C : zq_cx g O rep t k d Q nx ny) {pc len : Nat} {aux : List Nat} {cst : Value} {mask : List Bool} {tl : List zq_I} {ls st : List Value} {cs : Nat × Nat} {x : X} (hg : zq_ok t ((pc, .isub, len, aux, cst, mask) :: tl)) (h : zq_st g O rep t.2.2.2.2.1 t.2.2.2.1 t.2.2.2.2.2.1 d Q nx ny ((pc, .isub, len, aux, cst, mask) :: tl) ls st cs x) : zq_x g rep d k pc ls st cs x Q := by
  obtain ⟨hdec, hlk, hn⟩ := zq_head C hg
  simp only [zq_lk, Bool.and_eq_true, decide_eq_true_eq] at hlk
  obtain rfl : len = 1 := Nat.eq_of_beq_eq_true hlk.2
  replace h : (match (generalizing := false) st with
    | .int y :: .int z :: st => nx tl ls (.int (z - y) :: st) cs x
    | _ => False) := h
  split at h
  · intro t' ht' p e R s m args below meth c Z ha hr H locs la hw hl
    obtain rfl : t' = t := Option.some.inj (ht'.symm.trans C.2.1)
    exact lv_isub ha.2.1 ha.2.2.1 hdec (hn _ _ _ _ h t' ht' p e R s m args below meth c Z ha hr H locs la hw hl)
  · exact h.elim
theorem zq_s_imul {X : Type} {g : zq_G} {O : zq_O X} {rep : X → List zq_E} {t : zq_T} {k d : Nat} {Q : Option Value → X → Prop} {nx : List zq_I → List Value → List Value → Nat × Nat → X → Prop} {ny : Nat → List Value → List Value → Nat × Nat → X → Prop} (C : zq_cx g O rep t k d Q nx ny) {pc len : Nat} {aux : List Nat} {cst : Value} {mask : List Bool} {tl : List zq_I} {ls st : List Value} {cs : Nat × Nat} {x : X} (hg : zq_ok t ((pc, .imul, len, aux, cst, mask) :: tl)) (h : zq_st g O rep t.2.2.2.2.1 t.2.2.2.1 t.2.2.2.2.2.1 d Q nx ny ((pc, .imul, len, aux, cst, mask) :: tl) ls st cs x) : zq_x g rep d k pc ls st cs x Q := by
  obtain ⟨hdec, hlk, hn⟩ := zq_head C hg
  simp only [zq_lk, Bool.and_eq_true, decide_eq_true_eq] at hlk
  obtain rfl : len = 1 := Nat.eq_of_beq_eq_true hlk.2
  replace h : (match (generalizing := false) st with
    | .int y :: .int z :: st => nx tl ls (.int (z * y) :: st) cs x
    | _ => False) := h
  split at h
  · intro t' ht' p e R s m args below meth c Z ha hr H locs la hw hl
    obtain rfl : t' = t := Option.some.inj (ht'.symm.trans C.2.1)
    exact lv_imul ha.2.1 ha.2.2.1 hdec (hn _ _ _ _ h t' ht' p e R s m args below meth c Z ha hr H locs la hw hl)
  · exact h.elim
theorem zq_s_iand {X : Type} {g : zq_G} {O : zq_O X} {rep : X → List zq_E} {t : zq_T} {k d : Nat} {Q : Option Value → X → Prop} {nx : List zq_I → List Value → List Value → Nat × Nat → X → Prop} {ny : Nat → List Value → List Value → Nat × Nat → X → Prop} (C : zq_cx g O rep t k d Q nx ny) {pc len : Nat} {aux : List Nat} {cst : Value} {mask : List Bool} {tl : List zq_I} {ls st : List Value} {cs : Nat × Nat} {x : X} (hg : zq_ok t ((pc, .iand, len, aux, cst, mask) :: tl)) (h : zq_st g O rep t.2.2.2.2.1 t.2.2.2.1 t.2.2.2.2.2.1 d Q nx ny ((pc, .iand, len, aux, cst, mask) :: tl) ls st cs x) : zq_x g rep d k pc ls st cs x Q := by
  obtain ⟨hdec, hlk, hn⟩ := zq_head C hg
  simp only [zq_lk, Bool.and_eq_true, decide_eq_true_eq] at hlk
  obtain rfl : len = 1 := Nat.eq_of_beq_eq_true hlk.2
  replace h : (match (generalizing := false) st with
    | .int y :: .int z :: st => nx tl ls (.int (z &&& y) :: st) cs x
    | _ => False) := h
  split at h
  · intro t' ht' p e R s m args below meth c Z ha hr H locs la hw hl
    obtain rfl : t' = t := Option.some.inj (ht'.symm.trans C.2.1)
    exact lv_iand ha.2.1 ha.2.2.1 hdec (hn _ _ _ _ h t' ht' p e R s m args below meth c Z ha hr H locs la hw hl)
  · exact h.elim
theorem zq_s_ior {X : Type} {g : zq_G} {O : zq_O X} {rep : X → List zq_E} {t : zq_T} {k d : Nat} {Q : Option Value → X → Prop} {nx : List zq_I → List Value → List Value → Nat × Nat → X → Prop} {ny : Nat → List Value → List Value → Nat × Nat → X → Prop} (C : zq_cx g O rep t k d Q nx ny) {pc len : Nat} {aux : List Nat} {cst : Value} {mask : List Bool} {tl : List zq_I} {ls st : List Value} {cs : Nat × Nat} {x : X} (hg : zq_ok t ((pc, .ior, len, aux, cst, mask) :: tl)) (h : zq_st g O rep t.2.2.2.2.1 t.2.2.2.1 t.2.2.2.2.2.1 d Q nx ny ((pc, .ior, len, aux, cst, mask) :: tl) ls st cs x) : zq_x g rep d k pc ls st cs x Q := by
  obtain ⟨hdec, hlk, hn⟩ := zq_head C hg
  simp only [zq_lk, Bool.and_eq_true, decide_eq_true_eq] at hlk
  obtain rfl : len = 1 := Nat.eq_of_beq_eq_true hlk.2
  replace h : (match (generalizing := false) st with
    | .int y :: .int z :: st => nx tl ls (.int (z ||| y) :: st) cs x
    | _ => False) := h
  split at h
  · intro t' ht' p e R s m args below meth c Z ha hr H locs la hw hl
    obtain rfl : t' = t := Option.some.inj (ht'.symm.trans C.2.1)
    exact lv_ior ha.2.1 ha.2.2.1 hdec (hn _ _ _ _ h t' ht' p e R s m args below meth c Z ha hr H locs la hw hl)
  · exact h.elim
theorem zq_s_ishl {X : Type} {g : zq_G} {O : zq_O X} {rep : X → List zq_E} {t : zq_T} {k d : Nat} {Q : Option Value → X → Prop} {nx : List zq_I → List Value → List Value → Nat × Nat → X → Prop} {ny : Nat → List Value → List Value → Nat × Nat → X → Prop} (C : zq_cx g O rep t k d Q nx ny) {pc len : Nat} {aux : List Nat} {cst : Value} {mask : List Bool} {tl : List zq_I} {ls st : List Value} {cs : Nat × Nat} {x : X} (hg : zq_ok t ((pc, .ishl, len, aux, cst, mask) :: tl)) (h : zq_st g O rep t.2.2.2.2.1 t.2.2.2.1 t.2.2.2.2.2.1 d Q nx ny ((pc, .ishl, len, aux, cst, mask) :: tl) ls st cs x) : zq_x g rep d k pc ls st cs x Q := by
  obtain ⟨hdec, hlk, hn⟩ := zq_head C hg
  simp only [zq_lk, Bool.and_eq_true, decide_eq_true_eq] at hlk
  obtain rfl : len = 1 := Nat.eq_of_beq_eq_true hlk.2
  replace h : (match (generalizing := false) st with
    | .int y :: .int z :: st => nx tl ls (.int (z <<< (y &&& 31)) :: st) cs x
    | _ => False) := h
  split at h
  · intro t' ht' p e R s m args below meth c Z ha hr H locs la hw hl
    obtain rfl : t' = t := Option.some.inj (ht'.symm.trans C.2.1)
    exact lv_ishl ha.2.1 ha.2.2.1 hdec (hn _ _ _ _ h t' ht' p e R s m args below meth c Z ha hr H locs la hw hl)
  · exact h.elim
theorem zq_s_ishr {X : Type} {g : zq_G} {O : zq_O X} {rep : X → List zq_E} {t : zq_T} {k d : Nat} {Q : Option Value → X → Prop} {nx : List zq_I → List Value → List Value → Nat × Nat → X → Prop} {ny : Nat → List Value → List Value → Nat × Nat → X → Prop} (C : zq_cx g O rep t k d Q nx ny) {pc len : Nat} {aux : List Nat} {cst : Value} {mask : List Bool} {tl : List zq_I} {ls st : List Value} {cs : Nat × Nat} {x : X} (hg : zq_ok t ((pc, .ishr, len, aux, cst, mask) :: tl)) (h : zq_st g O rep t.2.2.2.2.1 t.2.2.2.1 t.2.2.2.2.2.1 d Q nx ny ((pc, .ishr, len, aux, cst, mask) :: tl) ls st cs x) : zq_x g rep d k pc ls st cs x Q := by
  obtain ⟨hdec, hlk, hn⟩ := zq_head C hg
  simp only [zq_lk, Bool.and_eq_true, decide_eq_true_eq] at hlk
  obtain rfl : len = 1 := Nat.eq_of_beq_eq_true hlk.2
  replace h : (match (generalizing := false) st with
    | .int y :: .int z :: st => nx tl ls (.int (z >>> (y &&& 31)) :: st) cs x
    | _ => False) := h
  split at h
  · intro t' ht' p e R s m args below meth c Z ha hr H locs la hw hl
    obtain rfl : t' = t := Option.some.inj (ht'.symm.trans C.2.1)
    exact lv_ishr ha.2.1 ha.2.2.1 hdec (hn _ _ _ _ h t' ht' p e R s m args below meth c Z ha hr H locs la hw hl)
  · exact h.elim
theorem zq_s_ladd {X : Type} {g : zq_G} {O : zq_O X} {rep : X → List zq_E} {t : zq_T} {k d : Nat} {Q : Option Value → X → Prop} {nx : List zq_I → List Value → List Value → Nat × Nat → X → Prop} {ny : Nat → List Value → List Value → Nat × Nat → X → Prop} (C : zq_cx g O rep t k d Q nx ny) {pc len : Nat} {aux : List Nat} {cst : Value} {mask : List Bool} {tl : List zq_I} {ls st : List Value} {cs : Nat × Nat} {x : X} (hg : zq_ok t ((pc, .ladd, len, aux, cst, mask) :: tl)) (h : zq_st g O rep t.2.2.2.2.1 t.2.2.2.1 t.2.2.2.2.2.1 d Q nx ny ((pc, .ladd, len, aux, cst, mask) :: tl) ls st cs x) : zq_x g rep d k pc ls st cs x Q := by
  obtain ⟨hdec, hlk, hn⟩ := zq_head C hg
  simp only [zq_lk, Bool.and_eq_true, decide_eq_true_eq] at hlk
  obtain rfl : len = 1 := Nat.eq_of_beq_eq_true hlk.2
  replace h : (match (generalizing := false) st with
    | .long y :: .long z :: st => nx tl ls (.long (z + y) :: st) cs x
    | _ => False) := h
  split at h
  · intro t' ht' p e R s m args below meth c Z ha hr H locs la hw hl
    obtain rfl : t' = t := Option.some.inj (ht'.symm.trans C.2.1)
    exact lv_ladd ha.2.1 ha.2.2.1 hdec (hn _ _ _ _ h t' ht' p e R s m args below meth c Z ha hr H locs la hw hl)
  · exact h.elim
theorem zq_s_lsub {X : Type} {g : zq_G} {O : zq_O X} {rep : X → List zq_E} {t : zq_T} {k d : Nat} {Q : Option Value → X → Prop} {nx : List zq_I → List Value → List Value → Nat × Nat → X → Prop} {ny : Nat → List Value → List Value → Nat × Nat → X → Prop} (C : zq_cx g O rep t k d Q nx ny) {pc len : Nat} {aux : List Nat} {cst : Value} {mask : List Bool} {tl : List zq_I} {ls st : List Value} {cs : Nat × Nat} {x : X} (hg : zq_ok t ((pc, .lsub, len, aux, cst, mask) :: tl)) (h : zq_st g O rep t.2.2.2.2.1 t.2.2.2.1 t.2.2.2.2.2.1 d Q nx ny ((pc, .lsub, len, aux, cst, mask) :: tl) ls st cs x) : zq_x g rep d k pc ls st cs x Q := by
  obtain ⟨hdec, hlk, hn⟩ := zq_head C hg
  simp only [zq_lk, Bool.and_eq_true, decide_eq_true_eq] at hlk
  obtain rfl : len = 1 := Nat.eq_of_beq_eq_true hlk.2
  replace h : (match (generalizing := false) st with
    | .long y :: .long z :: st => nx tl ls (.long (z - y) :: st) cs x
    | _ => False) := h
  split at h
  · intro t' ht' p e R s m args below meth c Z ha hr H locs la hw hl
    obtain rfl : t' = t := Option.some.inj (ht'.symm.trans C.2.1)
    exact lv_lsub ha.2.1 ha.2.2.1 hdec (hn _ _ _ _ h t' ht' p e R s m args below meth c Z ha hr H locs la hw hl)
  · exact h.elim
theorem zq_s_lmul {X : Type} {g : zq_G} {O : zq_O X} {rep : X → List zq_E} {t : zq_T} {k d : Nat} {Q : Option Value → X → Prop} {nx : List zq_I → List Value → List Value → Nat × Nat → X → Prop} {ny : Nat → List Value → List Value → Nat × Nat → X → Prop} (C : zq_cx g O rep t k d Q nx ny) {pc len : Nat} {aux : List Nat} {cst : Value} {mask : List Bool} {tl : List zq_I} {ls st : List Value} {cs : Nat × Nat} {x : X} (hg : zq_ok t ((pc, .lmul, len, aux, cst, mask) :: tl)) (h : zq_st g O rep t.2.2.2.2.1 t.2.2.2.1 t.2.2.2.2.2.1 d Q nx ny ((pc, .lmul, len, aux, cst, mask) :: tl) ls st cs x) : zq_x g rep d k pc ls st cs x Q := by
  obtain ⟨hdec, hlk, hn⟩ := zq_head C hg
  simp only [zq_lk, Bool.and_eq_true, decide_eq_true_eq] at hlk
  obtain rfl : len = 1 := Nat.eq_of_beq_eq_true hlk.2
  replace h : (match (generalizing := false) st with
    | .long y :: .long z :: st => nx tl ls (.long (z * y) :: st) cs x
    | _ => False) := h
  split at h
  · intro t' ht' p e R s m args below meth c Z ha hr H locs la hw hl
    obtain rfl : t' = t := Option.some.inj (ht'.symm.trans C.2.1)
    exact lv_lmul ha.2.1 ha.2.2.1 hdec (hn _ _ _ _ h t' ht' p e R s m args below meth c Z ha hr H locs la hw hl)
  · exact h.elim
theorem zq_s_land {X : Type} {g : zq_G} {O : zq_O X} {rep : X → List zq_E} {t : zq_T} {k d : Nat} {Q : Option Value → X → Prop} {nx : List zq_I → List Value → List Value → Nat × Nat → X → Prop} {ny : Nat → List Value → List Value → Nat × Nat → X → Prop} (C : zq_cx g O rep t k d Q nx ny) {pc len : Nat} {aux : List Nat} {cst : Value} {mask : List Bool} {tl : List zq_I} {ls st : List Value} {cs : Nat × Nat} {x : X} (hg : zq_ok t ((pc, .land, len, aux, cst, mask) :: tl)) (h : zq_st g O rep t.2.2.2.2.1 t.2.2.2.1 t.2.2.2.2.2.1 d Q nx ny ((pc, .land, len, aux, cst, mask) :: tl) ls st cs x) : zq_x g rep d k pc ls st cs x Q := by
  obtain ⟨hdec, hlk, hn⟩ := zq_head C hg
  simp only [zq_lk, Bool.and_eq_true, decide_eq_true_eq] at hlk
  obtain rfl : len = 1 := Nat.eq_of_beq_eq_true hlk.2
  replace h : (match (generalizing := false) st with
    | .long y :: .long z :: st => nx tl ls (.long (z &&& y) :: st) cs x
    | _ => False) := h
  split at h
  · intro t' ht' p e R s m args below meth c Z ha hr H locs la hw hl
    obtain rfl : t' = t := Option.some.inj (ht'.symm.trans C.2.1)
    exact lv_land ha.2.1 ha.2.2.1 hdec (hn _ _ _ _ h t' ht' p e R s m args below meth c Z ha hr H locs la hw hl)
  · exact h.elim
theorem zq_s_lor {X : Type} {g : zq_G} {O : zq_O X} {rep : X → List zq_E} {t : zq_T} {k d : Nat} {Q : Option Value → X → Prop} {nx : List zq_I → List Value → List Value → Nat × Nat → X → Prop} {ny : Nat → List Value → List Value → Nat × Nat → X → Prop} (C : zq_cx g O rep t k d Q nx ny) {pc len : Nat} {aux : List Nat} {cst : Value} {mask : List Bool} {tl : List zq_I} {ls st : List Value} {cs : Nat × Nat} {x : X} (hg : zq_ok t ((pc, .lor, len, aux, cst, mask) :: tl)) (h : zq_st g O rep t.2.2.2.2.1 t.2.2.2.1 t.2.2.2.2.2.1 d Q nx ny ((pc, .lor, len, aux, cst, mask) :: tl) ls st cs x) : zq_x g rep d k pc ls st cs x Q := by
  obtain ⟨hdec, hlk, hn⟩ := zq_head C hg
  simp only [zq_lk, Bool.and_eq_true, decide_eq_true_eq] at hlk
  obtain rfl : len = 1 := Nat.eq_of_beq_eq_true hlk.2
  replace h : (match (generalizing := false) st with
    | .long y :: .long z :: st => nx tl ls (.long (z ||| y) :: st) cs x
    | _ => False) := h
  split at h
  · intro t' ht' p e R s m args below meth c Z ha hr H locs la hw hl
    obtain rfl : t' = t := Option.some.inj (ht'.symm.trans C.2.1)
    exact lv_lor ha.2.1 ha.2.2.1 hdec (hn _ _ _ _ h t' ht' p e R s m args below meth c Z ha hr H locs la hw hl)
  · exact h.elim
theorem zq_s_idiv {X : Type} {g : zq_G} {O : zq_O X} {rep : X → List zq_E} {t : zq_T} {k d : Nat} {Q : Option Value → X → Prop} {nx : List zq_I → List Value → List Value → Nat × Nat → X → Prop} {ny : Nat → List Value → List Value → Nat × Nat → X → Prop} (C : zq_cx g O rep t k d Q nx ny) {pc len : Nat} {aux : List Nat} {cst : Value} {mask : List Bool} {tl : List zq_I} {ls st : List Value} {cs : Nat × Nat} {x : X} (hg : zq_ok t ((pc, .idiv, len, aux, cst, mask) :: tl)) (h : zq_st g O rep t.2.2.2.2.1 t.2.2.2.1 t.2.2.2.2.2.1 d Q nx ny ((pc, .idiv, len, aux, cst, mask) :: tl) ls st cs x) : zq_x g rep d k pc ls st cs x Q := by
  obtain ⟨hdec, hlk, hn⟩ := zq_head C hg
  simp only [zq_lk, Bool.and_eq_true, decide_eq_true_eq] at hlk
  obtain rfl : len = 1 := Nat.eq_of_beq_eq_true hlk.2
  replace h : (match (generalizing := false) st with
    | .int y :: .int z :: st => ¬ y = 0 ∧ nx tl ls (.int (z / y) :: st) cs x
    | _ => False) := h
  split at h
  · intro t' ht' p e R s m args below meth c Z ha hr H locs la hw hl
    obtain rfl : t' = t := Option.some.inj (ht'.symm.trans C.2.1)
    exact lv_idiv ha.2.1 ha.2.2.1 hdec h.1 (hn _ _ _ _ h.2 t' ht' p e R s m args below meth c Z ha hr H locs la hw hl)
  · exact h.elim
theorem zq_s_irem {X : Type} {g : zq_G} {O : zq_O X} {rep : X → List zq_E} {t : zq_T} {k d : Nat} {Q : Option Value → X → Prop} {nx : List zq_I → List Value → List Value → Nat × Nat → X → Prop} {ny : Nat → List Value → List Value → Nat × Nat → X → Prop} (C : zq_cx g O rep t k d Q nx ny) {pc len : Nat} {aux : List Nat} {cst : Value} {mask : List Bool} {tl : List zq_I} {ls st : List Value} {cs : Nat × Nat} {x : X} (hg : zq_ok t ((pc, .irem, len, aux, cst, mask) :: tl)) (h : zq_st g O rep t.2.2.2.2.1 t.2.2.2.1 t.2.2.2.2.2.1 d Q nx ny ((pc, .irem, len, aux, cst, mask) :: tl) ls st cs x) : zq_x g rep d k pc ls st cs x Q := by
  obtain ⟨hdec, hlk, hn⟩ := zq_head C hg
  simp only [zq_lk, Bool.and_eq_true, decide_eq_true_eq] at hlk
  obtain rfl : len = 1 := Nat.eq_of_beq_eq_true hlk.2
  replace h : (match (generalizing := false) st with
    | .int y :: .int z :: st => ¬ y = 0 ∧ nx tl ls (.int (z - z / y * y) :: st) cs x
    | _ => False) := h
  split at h
  · intro t' ht' p e R s m args below meth c Z ha hr H locs la hw hl
    obtain rfl : t' = t := Option.some.inj (ht'.symm.trans C.2.1)
    exact lv_irem ha.2.1 ha.2.2.1 hdec h.1 (hn _ _ _ _ h.2 t' ht' p e R s m args below meth c Z ha hr H locs la hw hl)
  · exact h.elim
theorem zq_s_ldiv {X : Type} {g : zq_G} {O : zq_O X} {rep : X → List zq_E} {t : zq_T} {k d : Nat} {Q : Option Value → X → Prop} {nx : List zq_I → List Value → List Value → Nat × Nat → X → Prop} {ny : Nat → List Value → List Value → Nat × Nat → X → Prop} (C : zq_cx g O rep t k d Q nx ny) {pc len : Nat} {aux : List Nat} {cst : Value} {mask : List Bool} {tl : List zq_I} {ls st : List Value} {cs : Nat × Nat} {x : X} (hg : zq_ok t ((pc, .ldiv, len, aux, cst, mask) :: tl)) (h : zq_st g O rep t.2.2.2.2.1 t.2.2.2.1 t.2.2.2.2.2.1 d Q nx ny ((pc, .ldiv, len, aux, cst, mask) :: tl) ls st cs x) : zq_x g rep d k pc ls st cs x Q := by
  obtain ⟨hdec, hlk, hn⟩ := zq_head C hg
  simp only [zq_lk, Bool.and_eq_true, decide_eq_true_eq] at hlk
  obtain rfl : len = 1 := Nat.eq_of_beq_eq_true hlk.2
  replace h : (match (generalizing := false) st with
    | .long y :: .long z :: st => ¬ y = 0 ∧ nx tl ls (.long (z / y) :: st) cs x
    | _ => False) := h
  split at h
  · intro t' ht' p e R s m args below meth c Z ha hr H locs la hw hl
    obtain rfl : t' = t := Option.some.inj (ht'.symm.trans C.2.1)
    exact lv_ldiv ha.2.1 ha.2.2.1 hdec h.1 (hn _ _ _ _ h.2 t' ht' p e R s m args below meth c Z ha hr H locs la hw hl)
  · exact h.elim
theorem zq_s_lrem {X : Type} {g : zq_G} {O : zq_O X} {rep : X → List zq_E} {t : zq_T} {k d : Nat} {Q : Option Value → X → Prop} {nx : List zq_I → List Value → List Value → Nat × Nat → X → Prop} {ny : Nat → List Value → List Value → Nat × Nat → X → Prop} (C : zq_cx g O rep t k d Q nx ny) {pc len : Nat} {aux : List Nat} {cst : Value} {mask : List Bool} {tl : List zq_I} {ls st : List Value} {cs : Nat × Nat} {x : X} (hg : zq_ok t ((pc, .lrem, len, aux, cst, mask) :: tl)) (h : zq_st g O rep t.2.2.2.2.1 t.2.2.2.1 t.2.2.2.2.2.1 d Q nx ny ((pc, .lrem, len, aux, cst, mask) :: tl) ls st cs x) : zq_x g rep d k pc ls st cs x Q := by
  obtain ⟨hdec, hlk, hn⟩ := zq_head C hg
  simp only [zq_lk, Bool.and_eq_true, decide_eq_true_eq] at hlk
  obtain rfl : len = 1 := Nat.eq_of_beq_eq_true hlk.2
  replace h : (match (generalizing := false) st with
    | .long y :: .long z :: st => ¬ y = 0 ∧ nx tl ls (.long (z - z / y * y) :: st) cs x
    | _ => False) := h
  split at h
  · intro t' ht' p e R s m args below meth c Z ha hr H locs la hw hl
    obtain rfl : t' = t := Option.some.inj (ht'.symm.trans C.2.1)
    exact lv_lrem ha.2.1 ha.2.2.1 hdec h.1 (hn _ _ _ _ h.2 t' ht' p e R s m args below meth c Z ha hr H locs la hw hl)
  · exact h.elim
theorem zq_s_ineg {X : Type} {g : zq_G} {O : zq_O X} {rep : X → List zq_E} {t : zq_T} {k d : Nat} {Q : Option Value → X → Prop} {nx : List zq_I → List Value → List Value → Nat × Nat → X → Prop} {ny : Nat → List Value → List Value → Nat × Nat → X → Prop} (C : zq_cx g O rep t k d Q nx ny) {pc len : Nat} {aux : List Nat} {cst : Value} {mask : List Bool} {tl : List zq_I} {ls st : List Value} {cs : Nat × Nat} {x : X} (hg : zq_ok t ((pc, .ineg, len, aux, cst, mask) :: tl)) (h : zq_st g O rep t.2.2.2.2.1 t.2.2.2.1 t.2.2.2.2.2.1 d Q nx ny ((pc, .ineg, len, aux, cst, mask) :: tl) ls st cs x) : zq_x g rep d k pc ls st cs x Q := by
  obtain ⟨hdec, hlk, hn⟩ := zq_head C hg
  simp only [zq_lk, Bool.and_eq_true, decide_eq_true_eq] at hlk
  obtain rfl : len = 1 := Nat.eq_of_beq_eq_true hlk.2
  replace h : (match (generalizing := false) st with
    | .int z :: st => nx tl ls (.int (-z) :: st) cs x
    | _ => False) := h
  split at h
  · intro t' ht' p e R s m args below meth c Z ha hr H locs la hw hl
    obtain rfl : t' = t := Option.some.inj (ht'.symm.trans C.2.1)
    exact lv_ineg ha.2.1 ha.2.2.1 hdec (hn _ _ _ _ h t' ht' p e R s m args below meth c Z ha hr H locs la hw hl)
  · exact h.elim
theorem zq_s_i2l {X : Type} {g : zq_G} {O : zq_O X} {rep : X → List zq_E} {t : zq_T} {k d : Nat} {Q : Option Value → X → Prop} {nx : List zq_I → List Value → List Value → Nat × Nat → X → Prop} {ny : Nat → List Value → List Value → Nat × Nat → X → Prop} (C : zq_cx g O rep t k d Q nx ny) {pc len : Nat} {aux : List Nat} {cst : Value} {mask : List Bool} {tl : List zq_I} {ls st : List Value} {cs : Nat × Nat} {x : X} (hg : zq_ok t ((pc, .i2l, len, aux, cst, mask) :: tl)) (h : zq_st g O rep t.2.2.2.2.1 t.2.2.2.1 t.2.2.2.2.2.1 d Q nx ny ((pc, .i2l, len, aux, cst, mask) :: tl) ls st cs x) : zq_x g rep d k pc ls st cs x Q := by
  obtain ⟨hdec, hlk, hn⟩ := zq_head C hg
  simp only [zq_lk, Bool.and_eq_true, decide_eq_true_eq] at hlk
  obtain rfl : len = 1 := Nat.eq_of_beq_eq_true hlk.2
  replace h : (match (generalizing := false) st with
    | .int z :: st => nx tl ls (.long z.toInt64 :: st) cs x
    | _ => False) := h
  split at h
  · intro t' ht' p e R s m args below meth c Z ha hr H locs la hw hl
    obtain rfl : t' = t := Option.some.inj (ht'.symm.trans C.2.1)
    exact lv_i2l ha.2.1 ha.2.2.1 hdec rfl (hn _ _ _ _ h t' ht' p e R s m args below meth c Z ha hr H locs la hw hl)
  · exact h.elim
theorem zq_s_l2i {X : Type} {g : zq_G} {O : zq_O X} {rep : X → List zq_E} {t : zq_T} {k d : Nat} {Q : Option Value → X → Prop} {nx : List zq_I → List Value → List Value → Nat × Nat → X → Prop} {ny : Nat → List Value → List Value → Nat × Nat → X → Prop} (C : zq_cx g O rep t k d Q nx ny) {pc len : Nat} {aux : List Nat} {cst : Value} {mask : List Bool} {tl : List zq_I} {ls st : List Value} {cs : Nat × Nat} {x : X} (hg : zq_ok t ((pc, .l2i, len, aux, cst, mask) :: tl)) (h : zq_st g O rep t.2.2.2.2.1 t.2.2.2.1 t.2.2.2.2.2.1 d Q nx ny ((pc, .l2i, len, aux, cst, mask) :: tl) ls st cs x) : zq_x g rep d k pc ls st cs x Q := by
  obtain ⟨hdec, hlk, hn⟩ := zq_head C hg
  simp only [zq_lk, Bool.and_eq_true, decide_eq_true_eq] at hlk
  obtain rfl : len = 1 := Nat.eq_of_beq_eq_true hlk.2
  replace h : (match (generalizing := false) st with
    | .long z :: st => nx tl ls (.int z.toInt32 :: st) cs x
    | _ => False) := h
  split at h
  · intro t' ht' p e R s m args below meth c Z ha hr H locs la hw hl
    obtain rfl : t' = t := Option.some.inj (ht'.symm.trans C.2.1)
    exact lv_l2i ha.2.1 ha.2.2.1 hdec rfl (hn _ _ _ _ h t' ht' p e R s m args below meth c Z ha hr H locs la hw hl)
  · exact h.elim
theorem zq_s_i2b {X : Type} {g : zq_G} {O : zq_O X} {rep : X → List zq_E} {t : zq_T} {k d : Nat} {Q : Option Value → X → Prop} {nx : List zq_I → List Value → List Value → Nat × Nat → X → Prop} {ny : Nat → List Value → List Value → Nat × Nat → X → Prop} (C : zq_cx g O rep t k d Q nx ny) {pc len : Nat} {aux : List Nat} {cst : Value} {mask : List Bool} {tl : List zq_I} {ls st : List Value} {cs : Nat × Nat} {x : X} (hg : zq_ok t ((pc, .i2b, len, aux, cst, mask) :: tl)) (h : zq_st g O rep t.2.2.2.2.1 t.2.2.2.1 t.2.2.2.2.2.1 d Q nx ny ((pc, .i2b, len, aux, cst, mask) :: tl) ls st cs x) : zq_x g rep d k pc ls st cs x Q := by
  obtain ⟨hdec, hlk, hn⟩ := zq_head C hg
  simp only [zq_lk, Bool.and_eq_true, decide_eq_true_eq] at hlk
  obtain rfl : len = 1 := Nat.eq_of_beq_eq_true hlk.2
  replace h : (match (generalizing := false) st with
    | .int z :: st => nx tl ls (.int z.toInt8.toInt32 :: st) cs x
    | _ => False) := h
  split at h
  · intro t' ht' p e R s m args below meth c Z ha hr H locs la hw hl
    obtain rfl : t' = t := Option.some.inj (ht'.symm.trans C.2.1)
    exact lv_i2b ha.2.1 ha.2.2.1 hdec rfl (hn _ _ _ _ h t' ht' p e R s m args below meth c Z ha hr H locs la hw hl)
  · exact h.elim
theorem zq_s_i2s {X : Type} {g : zq_G} {O : zq_O X} {rep : X → List zq_E} {t : zq_T} {k d : Nat} {Q : Option Value → X → Prop} {nx : List zq_I → List Value → List Value → Nat × Nat → X → Prop} {ny : Nat → List Value → List Value → Nat × Nat → X → Prop} (C : zq_cx g O rep t k d Q nx ny) {pc len : Nat} {aux : List Nat} {cst : Value} {mask : List Bool} {tl : List zq_I} {ls st : List Value} {cs : Nat × Nat} {x : X} (hg : zq_ok t ((pc, .i2s, len, aux, cst, mask) :: tl)) (h : zq_st g O rep t.2.2.2.2.1 t.2.2.2.1 t.2.2.2.2.2.1 d Q nx ny ((pc, .i2s, len, aux, cst, mask) :: tl) ls st cs x) : zq_x g rep d k pc ls st cs x Q := by
  obtain ⟨hdec, hlk, hn⟩ := zq_head C hg
  simp only [zq_lk, Bool.and_eq_true, decide_eq_true_eq] at hlk
  obtain rfl : len = 1 := Nat.eq_of_beq_eq_true hlk.2
  replace h : (match (generalizing := false) st with
    | .int z :: st => nx tl ls (.int z.toInt16.toInt32 :: st) cs x
    | _ => False) := h
  split at h
  · intro t' ht' p e R s m args below meth c Z ha hr H locs la hw hl
    obtain rfl : t' = t := Option.some.inj (ht'.symm.trans C.2.1)
    exact lv_i2s ha.2.1 ha.2.2.1 hdec rfl (hn _ _ _ _ h t' ht' p e R s m args below meth c Z ha hr H locs la hw hl)
  · exact h.elim
theorem zq_s_lshl {X : Type} {g : zq_G} {O : zq_O X} {rep : X → List zq_E} {t : zq_T} {k d : Nat} {Q : Option Value → X → Prop} {nx : List zq_I → List Value → List Value → Nat × Nat → X → Prop} {ny : Nat → List Value → List Value → Nat × Nat → X → Prop} (C : zq_cx g O rep t k d Q nx ny) {pc len : Nat} {aux : List Nat} {cst : Value} {mask : List Bool} {tl : List zq_I} {ls st : List Value} {cs : Nat × Nat} {x : X} (hg : zq_ok t ((pc, .lshl, len, aux, cst, mask) :: tl)) (h : zq_st g O rep t.2.2.2.2.1 t.2.2.2.1 t.2.2.2.2.2.1 d Q nx ny ((pc, .lshl, len, aux, cst, mask) :: tl) ls st cs x) : zq_x g rep d k pc ls st cs x Q := by
  obtain ⟨hdec, hlk, hn⟩ := zq_head C hg
  simp only [zq_lk, Bool.and_eq_true, decide_eq_true_eq] at hlk
  obtain rfl : len = 1 := Nat.eq_of_beq_eq_true hlk.2
  replace h : (match (generalizing := false) st with
    | .int y :: .long z :: st => nx tl ls (.long (z <<< (y.toInt64 &&& 63)) :: st) cs x
    | _ => False) := h
  split at h
  · intro t' ht' p e R s m args below meth c Z ha hr H locs la hw hl
    obtain rfl : t' = t := Option.some.inj (ht'.symm.trans C.2.1)
    exact lv_lshl ha.2.1 ha.2.2.1 hdec rfl (hn _ _ _ _ h t' ht' p e R s m args below meth c Z ha hr H locs la hw hl)
  · exact h.elim
theorem zq_s_lshr {X : Type} {g : zq_G} {O : zq_O X} {rep : X → List zq_E} {t : zq_T} {k d : Nat} {Q : Option Value → X → Prop} {nx : List zq_I → List Value → List Value → Nat × Nat → X → Prop} {ny : Nat → List Value → List Value → Nat × Nat → X → Prop} (C : zq_cx g O rep t k d Q nx ny) {pc len : Nat} {aux : List Nat} {cst : Value} {mask : List Bool} {tl : List zq_I} {ls st : List Value} {cs : Nat × Nat} {x : X} (hg : zq_ok t ((pc, .lshr, len, aux, cst, mask) :: tl)) (h : zq_st g O rep t.2.2.2.2.1 t.2.2.2.1 t.2.2.2.2.2.1 d Q nx ny ((pc, .lshr, len, aux, cst, mask) :: tl) ls st cs x) : zq_x g rep d k pc ls st cs x Q := by
  obtain ⟨hdec, hlk, hn⟩ := zq_head C hg
  simp only [zq_lk, Bool.and_eq_true, decide_eq_true_eq] at hlk
  obtain rfl : len = 1 := Nat.eq_of_beq_eq_true hlk.2
  replace h : (match (generalizing := false) st with
    | .int y :: .long z :: st => nx tl ls (.long (z >>> (y.toInt64 &&& 63)) :: st) cs x
    | _ => False) := h
  split at h
  · intro t' ht' p e R s m args below meth c Z ha hr H locs la hw hl
    obtain rfl : t' = t := Option.some.inj (ht'.symm.trans C.2.1)
    exact lv_lshr ha.2.1 ha.2.2.1 hdec rfl (hn _ _ _ _ h t' ht' p e R s m args below meth c Z ha hr H locs la hw hl)
  · exact h.elim
theorem zq_s_lcmp {X : Type} {g : zq_G} {O : zq_O X} {rep : X → List zq_E} {t : zq_T} {k d : Nat} {Q : Option Value → X → Prop} {nx : List zq_I → List Value → List Value → Nat × Nat → X → Prop} {ny : Nat → List Value → List Value → Nat × Nat → X → Prop} (C : zq_cx g O rep t k d Q nx ny) {pc len : Nat} {aux : List Nat} {cst : Value} {mask : List Bool} {tl : List zq_I} {ls st : List Value} {cs : Nat × Nat} {x : X} (hg : zq_ok t ((pc, .lcmp, len, aux, cst, mask) :: tl)) (h : zq_st g O rep t.2.2.2.2.1 t.2.2.2.1 t.2.2.2.2.2.1 d Q nx ny ((pc, .lcmp, len, aux, cst, mask) :: tl) ls st cs x) : zq_x g rep d k pc ls st cs x Q := by
  obtain ⟨hdec, hlk, hn⟩ := zq_head C hg
  simp only [zq_lk, Bool.and_eq_true, decide_eq_true_eq] at hlk
  obtain rfl : len = 1 := Nat.eq_of_beq_eq_true hlk.2
  replace h : (match (generalizing := false) st with
    | .long y :: .long z :: st => nx tl ls (.int (lg_cmp z y) :: st) cs x
    | _ => False) := h
  split at h
  · intro t' ht' p e R s m args below meth c Z ha hr H locs la hw hl
    obtain rfl : t' = t := Option.some.inj (ht'.symm.trans C.2.1)
    exact W.lcmp ha.2.1 ha.2.2.1 hdec (hn _ _ _ _ h t' ht' p e R s m args below meth c Z ha hr H locs la hw hl)
  · exact h.elim
theorem zq_s_dup {X : Type} {g : zq_G} {O : zq_O X} {rep : X → List zq_E} {t : zq_T} {k d : Nat} {Q : Option Value → X → Prop} {nx : List zq_I → List Value → List Value → Nat × Nat → X → Prop} {ny : Nat → List Value → List Value → Nat × Nat → X → Prop} (C : zq_cx g O rep t k d Q nx ny) {pc len : Nat} {aux : List Nat} {cst : Value} {mask : List Bool} {tl : List zq_I} {ls st : List Value} {cs : Nat × Nat} {x : X} (hg : zq_ok t ((pc, .dup, len, aux, cst, mask) :: tl)) (h : zq_st g O rep t.2.2.2.2.1 t.2.2.2.1 t.2.2.2.2.2.1 d Q nx ny ((pc, .dup, len, aux, cst, mask) :: tl) ls st cs x) : zq_x g rep d k pc ls st cs x Q := by
  obtain ⟨hdec, hlk, hn⟩ := zq_head C hg
  simp only [zq_lk, Bool.and_eq_true, decide_eq_true_eq] at hlk
  obtain rfl : len = 1 := Nat.eq_of_beq_eq_true hlk.2
  replace h : (match (generalizing := false) st with
    | .int v :: st => nx tl ls (.int v :: .int v :: st) cs x
    | .ref v :: st => nx tl ls (.ref v :: .ref v :: st) cs x
    | _ => False) := h
  split at h
  · intro t' ht' p e R s m args below meth c Z ha hr H locs la hw hl
    obtain rfl : t' = t := Option.some.inj (ht'.symm.trans C.2.1)
    exact lv_dup ha.2.1 ha.2.2.1 hdec rfl (hn _ _ _ _ h t' ht' p e R s m args below meth c Z ha hr H locs la hw hl)
  · intro t' ht' p e R s m args below meth c Z ha hr H locs la hw hl
    obtain rfl : t' = t := Option.some.inj (ht'.symm.trans C.2.1)
    exact lv_dup ha.2.1 ha.2.2.1 hdec rfl (hn _ _ _ _ h t' ht' p e R s m args below meth c Z ha hr H locs la hw hl)
  · exact h.elim
theorem zq_s_pop {X : Type} {g : zq_G} {O : zq_O X} {rep : X → List zq_E} {t : zq_T} {k d : Nat} {Q : Option Value → X → Prop} {nx : List zq_I → List Value → List Value → Nat × Nat → X → Prop} {ny : Nat → List Value → List Value → Nat × Nat → X → Prop} (C : zq_cx g O rep t k d Q nx ny) {pc len : Nat} {aux : List Nat} {cst : Value} {mask : List Bool} {tl : List zq_I} {ls st : List Value} {cs : Nat × Nat} {x : X} (hg : zq_ok t ((pc, .pop, len, aux, cst, mask) :: tl)) (h : zq_st g O rep t.2.2.2.2.1 t.2.2.2.1 t.2.2.2.2.2.1 d Q nx ny ((pc, .pop, len, aux, cst, mask) :: tl) ls st cs x) : zq_x g rep d k pc ls st cs x Q := by
  obtain ⟨hdec, hlk, hn⟩ := zq_head C hg
  simp only [zq_lk, Bool.and_eq_true, decide_eq_true_eq] at hlk
  obtain rfl : len = 1 := Nat.eq_of_beq_eq_true hlk.2
  replace h : (match (generalizing := false) st with
    | .int _ :: st => nx tl ls st cs x
    | .ref _ :: st => nx tl ls st cs x
    | _ => False) := h
  split at h
  · intro t' ht' p e R s m args below meth c Z ha hr H locs la hw hl
    obtain rfl : t' = t := Option.some.inj (ht'.symm.trans C.2.1)
    exact lv_pop ha.2.1 ha.2.2.1 hdec rfl (hn _ _ _ _ h t' ht' p e R s m args below meth c Z ha hr H locs la hw hl)
  · intro t' ht' p e R s m args below meth c Z ha hr H locs la hw hl
    obtain rfl : t' = t := Option.some.inj (ht'.symm.trans C.2.1)
    exact lv_pop ha.2.1 ha.2.2.1 hdec rfl (hn _ _ _ _ h t' ht' p e R s m args below meth c Z ha hr H locs la hw hl)
  · exact h.elim
theorem zq_s_dup2 {X : Type} {g : zq_G} {O : zq_O X} {rep : X → List zq_E} {t : zq_T} {k d : Nat} {Q : Option Value → X → Prop} {nx : List zq_I → List Value → List Value → Nat × Nat → X → Prop} {ny : Nat → List Value → List Value → Nat × Nat → X → Prop} (C : zq_cx g O rep t k d Q nx ny) {pc len : Nat} {aux : List Nat} {cst : Value} {mask : List Bool} {tl : List zq_I} {ls st : List Value} {cs : Nat × Nat} {x : X} (hg : zq_ok t ((pc, .dup2, len, aux, cst, mask) :: tl)) (h : zq_st g O rep t.2.2.2.2.1 t.2.2.2.1 t.2.2.2.2.2.1 d Q nx ny ((pc, .dup2, len, aux, cst, mask) :: tl) ls st cs x) : zq_x g rep d k pc ls st cs x Q := by
  obtain ⟨hdec, hlk, hn⟩ := zq_head C hg
  simp only [zq_lk, Bool.and_eq_true, decide_eq_true_eq] at hlk
  obtain rfl : len = 1 := Nat.eq_of_beq_eq_true hlk.2
  replace h : (match (generalizing := false) st with
    | .int u :: .ref v :: st => nx tl ls (.int u :: .ref v :: .int u :: .ref v :: st) cs x
    | _ => False) := h
  split at h
  · intro t' ht' p e R s m args below meth c Z ha hr H locs la hw hl
    obtain rfl : t' = t := Option.some.inj (ht'.symm.trans C.2.1)
    exact lv_dup2_11 ha.2.1 ha.2.2.1 hdec rfl rfl (hn _ _ _ _ h t' ht' p e R s m args below meth c Z ha hr H locs la hw hl)
  · exact h.elim
theorem zq_s_if_eq {X : Type} {g : zq_G} {O : zq_O X} {rep : X → List zq_E} {t : zq_T} {k d : Nat} {Q : Option Value → X → Prop} {nx : List zq_I → List Value → List Value → Nat × Nat → X → Prop} {ny : Nat → List Value → List Value → Nat × Nat → X → Prop} (C : zq_cx g O rep t k d Q nx ny) {pc len : Nat} {aux : List Nat} {cst : Value} {mask : List Bool} {tl : List zq_I} {ls st : List Value} {cs : Nat × Nat} {x : X} {off : Int} (hg : zq_ok t ((pc, .ifCond .eq off, len, aux, cst, mask) :: tl)) (h : zq_st g O rep t.2.2.2.2.1 t.2.2.2.1 t.2.2.2.2.2.1 d Q nx ny ((pc, .ifCond .eq off, len, aux, cst, mask) :: tl) ls st cs x) : zq_x g rep d k pc ls st cs x Q := by
  obtain ⟨hdec, hlk, hn⟩ := zq_head C hg
  simp only [zq_lk, Bool.and_eq_true, decide_eq_true_eq] at hlk
  obtain rfl : len = 3 := Nat.eq_of_beq_eq_true hlk.2
  replace h : (match (generalizing := false) st with
    | .int z :: st => (z = 0 → nx (zq_sf t.2.2.2.2.1 (zq_ix aux 0)) ls st cs x) ∧ (¬ z = 0 → nx tl ls st cs x)
    | _ => False) := h
  split at h
  · intro t' ht' p e R s m args below meth c Z ha hr H locs la hw hl
    obtain rfl : t' = t := Option.some.inj (ht'.symm.trans C.2.1)
    exact lv_if_eq ha.2.1 ha.2.2.1 hdec hlk.1 (fun q => zq_jump C _ _ _ _ _ (h.1 q) t' ht' p e R s m args below meth c Z ha hr H locs la hw hl) (fun q => hn _ _ _ _ (h.2 q) t' ht' p e R s m args below meth c Z ha hr H locs la hw hl)
  · exact h.elim
theorem zq_s_if_ne {X : Type} {g : zq_G} {O : zq_O X} {rep : X → List zq_E} {t : zq_T} {k d : Nat} {Q : Option Value → X → Prop} {nx : List zq_I → List Value → List Value → Nat × Nat → X → Prop} {ny : Nat → List Value → List Value → Nat × Nat → X → Prop} (C : zq_cx g O rep t k d Q nx ny) {pc len : Nat} {aux : List Nat} {cst : Value} {mask : List Bool} {tl : List zq_I} {ls st : List Value} {cs : Nat × Nat} {x : X} {off : Int} (hg : zq_ok t ((pc, .ifCond .ne off, len, aux, cst, mask) :: tl)) (h : zq_st g O rep t.2.2.2.2.1 t.2.2.2.1 t.2.2.2.2.2.1 d Q nx ny ((pc, .ifCond .ne off, len, aux, cst, mask) :: tl) ls st cs x) : zq_x g rep d k pc ls st cs x Q := by
  obtain ⟨hdec, hlk, hn⟩ := zq_head C hg
  simp only [zq_lk, Bool.and_eq_true, decide_eq_true_eq] at hlk
  obtain rfl : len = 3 := Nat.eq_of_beq_eq_true hlk.2
  replace h : (match (generalizing := false) st with
    | .int z :: st => (¬ z = 0 → nx (zq_sf t.2.2.2.2.1 (zq_ix aux 0)) ls st cs x) ∧ (z = 0 → nx tl ls st cs x)
    | _ => False) := h
  split at h
  · intro t' ht' p e R s m args below meth c Z ha hr H locs la hw hl
    obtain rfl : t' = t := Option.some.inj (ht'.symm.trans C.2.1)
    exact lv_if_ne ha.2.1 ha.2.2.1 hdec hlk.1 (fun q => zq_jump C _ _ _ _ _ (h.1 q) t' ht' p e R s m args below meth c Z ha hr H locs la hw hl) (fun q => hn _ _ _ _ (h.2 q) t' ht' p e R s m args below meth c Z ha hr H locs la hw hl)
  · exact h.elim
theorem zq_s_if_lt {X : Type} {g : zq_G} {O : zq_O X} {rep : X → List zq_E} {t : zq_T} {k d : Nat} {Q : Option Value → X → Prop} {nx : List zq_I → List Value → List Value → Nat × Nat → X → Prop} {ny : Nat → List Value → List Value → Nat × Nat → X → Prop} (C : zq_cx g O rep t k d Q nx ny) {pc len : Nat} {aux : List Nat} {cst : Value} {mask : List Bool} {tl : List zq_I} {ls st : List Value} {cs : Nat × Nat} {x : X} {off : Int} (hg : zq_ok t ((pc, .ifCond .lt off, len, aux, cst, mask) :: tl)) (h : zq_st g O rep t.2.2.2.2.1 t.2.2.2.1 t.2.2.2.2.2.1 d Q nx ny ((pc, .ifCond .lt off, len, aux, cst, mask) :: tl) ls st cs x) : zq_x g rep d k pc ls st cs x Q := by
  obtain ⟨hdec, hlk, hn⟩ := zq_head C hg
  simp only [zq_lk, Bool.and_eq_true, decide_eq_true_eq] at hlk
  obtain rfl : len = 3 := Nat.eq_of_beq_eq_true hlk.2
  replace h : (match (generalizing := false) st with
    | .int z :: st => (z < 0 → nx (zq_sf t.2.2.2.2.1 (zq_ix aux 0)) ls st cs x) ∧ (¬ z < 0 → nx tl ls st cs x)
    | _ => False) := h
  split at h
  · intro t' ht' p e R s m args below meth c Z ha hr H locs la hw hl
    obtain rfl : t' = t := Option.some.inj (ht'.symm.trans C.2.1)
    exact lv_if_lt ha.2.1 ha.2.2.1 hdec hlk.1 (fun q => zq_jump C _ _ _ _ _ (h.1 q) t' ht' p e R s m args below meth c Z ha hr H locs la hw hl) (fun q => hn _ _ _ _ (h.2 q) t' ht' p e R s m args below meth c Z ha hr H locs la hw hl)
  · exact h.elim
theorem zq_s_if_ge {X : Type} {g : zq_G} {O : zq_O X} {rep : X → List zq_E} {t : zq_T} {k d : Nat} {Q : Option Value → X → Prop} {nx : List zq_I → List Value → List Value → Nat × Nat → X → Prop} {ny : Nat → List Value → List Value → Nat × Nat → X → Prop} (C : zq_cx g O rep t k d Q nx ny) {pc len : Nat} {aux : List Nat} {cst : Value} {mask : List Bool} {tl : List zq_I} {ls st : List Value} {cs : Nat × Nat} {x : X} {off : Int} (hg : zq_ok t ((pc, .ifCond .ge off, len, aux, cst, mask) :: tl)) (h : zq_st g O rep t.2.2.2.2.1 t.2.2.2.1 t.2.2.2.2.2.1 d Q nx ny ((pc, .ifCond .ge off, len, aux, cst, mask) :: tl) ls st cs x) : zq_x g rep d k pc ls st cs x Q := by
  obtain ⟨hdec, hlk, hn⟩ := zq_head C hg
  simp only [zq_lk, Bool.and_eq_true, decide_eq_true_eq] at hlk
  obtain rfl : len = 3 := Nat.eq_of_beq_eq_true hlk.2
  replace h : (match (generalizing := false) st with
    | .int z :: st => (0 ≤ z → nx (zq_sf t.2.2.2.2.1 (zq_ix aux 0)) ls st cs x) ∧ (¬ 0 ≤ z → nx tl ls st cs x)
    | _ => False) := h
  split at h
  · intro t' ht' p e R s m args below meth c Z ha hr H locs la hw hl
    obtain rfl : t' = t := Option.some.inj (ht'.symm.trans C.2.1)
    exact lv_if_ge ha.2.1 ha.2.2.1 hdec hlk.1 (fun q => zq_jump C _ _ _ _ _ (h.1 q) t' ht' p e R s m args below meth c Z ha hr H locs la hw hl) (fun q => hn _ _ _ _ (h.2 q) t' ht' p e R s m args below meth c Z ha hr H locs la hw hl)
  · exact h.elim
theorem zq_s_if_gt {X : Type} {g : zq_G} {O : zq_O X} {rep : X → List zq_E} {t : zq_T} {k d : Nat} {Q : Option Value → X → Prop} {nx : List zq_I → List Value → List Value → Nat × Nat → X → Prop} {ny : Nat → List Value → List Value → Nat × Nat → X → Prop} (C : zq_cx g O rep t k d Q nx ny) {pc len : Nat} {aux : List Nat} {cst : Value} {mask : List Bool} {tl : List zq_I} {ls st : List Value} {cs : Nat × Nat} {x : X} {off : Int} (hg : zq_ok t ((pc, .ifCond .gt off, len, aux, cst, mask) :: tl)) (h : zq_st g O rep t.2.2.2.2.1 t.2.2.2.1 t.2.2.2.2.2.1 d Q nx ny ((pc, .ifCond .gt off, len, aux, cst, mask) :: tl) ls st cs x) : zq_x g rep d k pc ls st cs x Q := by
  obtain ⟨hdec, hlk, hn⟩ := zq_head C hg
  simp only [zq_lk, Bool.and_eq_true, decide_eq_true_eq] at hlk
  obtain rfl : len = 3 := Nat.eq_of_beq_eq_true hlk.2
  replace h : (match (generalizing := false) st with
    | .int z :: st => (0 < z → nx (zq_sf t.2.2.2.2.1 (zq_ix aux 0)) ls st cs x) ∧ (¬ 0 < z → nx tl ls st cs x)
    | _ => False) := h
  split at h
  · intro t' ht' p e R s m args below meth c Z ha hr H locs la hw hl
    obtain rfl : t' = t := Option.some.inj (ht'.symm.trans C.2.1)
    exact lv_if_gt ha.2.1 ha.2.2.1 hdec hlk.1 (fun q => zq_jump C _ _ _ _ _ (h.1 q) t' ht' p e R s m args below meth c Z ha hr H locs la hw hl) (fun q => hn _ _ _ _ (h.2 q) t' ht' p e R s m args below meth c Z ha hr H locs la hw hl)
  · exact h.elim
theorem zq_s_if_le {X : Type} {g : zq_G} {O : zq_O X} {rep : X → List zq_E} {t : zq_T} {k d : Nat} {Q : Option Value → X → Prop} {nx : List zq_I → List Value → List Value → Nat × Nat → X → Prop} {ny : Nat → List Value → List Value → Nat × Nat → X → Prop} (C : zq_cx g O rep t k d Q nx ny) {pc len : Nat} {aux : List Nat} {cst : Value} {mask : List Bool} {tl : List zq_I} {ls st : List Value} {cs : Nat × Nat} {x : X} {off : Int} (hg : zq_ok t ((pc, .ifCond .le off, len, aux, cst, mask) :: tl)) (h : zq_st g O rep t.2.2.2.2.1 t.2.2.2.1 t.2.2.2.2.2.1 d Q nx ny ((pc, .ifCond .le off, len, aux, cst, mask) :: tl) ls st cs x) : zq_x g rep d k pc ls st cs x Q := by
  obtain ⟨hdec, hlk, hn⟩ := zq_head C hg
  simp only [zq_lk, Bool.and_eq_true, decide_eq_true_eq] at hlk
  obtain rfl : len = 3 := Nat.eq_of_beq_eq_true hlk.2
  replace h : (match (generalizing := false) st with
    | .int z :: st => (z ≤ 0 → nx (zq_sf t.2.2.2.2.1 (zq_ix aux 0)) ls st cs x) ∧ (¬ z ≤ 0 → nx tl ls st cs x)
    | _ => False) := h
  split at h
  · intro t' ht' p e R s m args below meth c Z ha hr H locs la hw hl
    obtain rfl : t' = t := Option.some.inj (ht'.symm.trans C.2.1)
    exact lv_if_le ha.2.1 ha.2.2.1 hdec hlk.1 (fun q => zq_jump C _ _ _ _ _ (h.1 q) t' ht' p e R s m args below meth c Z ha hr H locs la hw hl) (fun q => hn _ _ _ _ (h.2 q) t' ht' p e R s m args below meth c Z ha hr H locs la hw hl)
  · exact h.elim
theorem zq_s_ic_eq {X : Type} {g : zq_G} {O : zq_O X} {rep : X → List zq_E} {t : zq_T} {k d : Nat} {Q : Option Value → X → Prop} {nx : List zq_I → List Value → List Value → Nat × Nat → X → Prop} {ny : Nat → List Value → List Value → Nat × Nat → X → Prop} (C : zq_cx g O rep t k d Q nx ny) {pc len : Nat} {aux : List Nat} {cst : Value} {mask : List Bool} {tl : List zq_I} {ls st : List Value} {cs : Nat × Nat} {x : X} {off : Int} (hg : zq_ok t ((pc, .if_icmp .eq off, len, aux, cst, mask) :: tl)) (h : zq_st g O rep t.2.2.2.2.1 t.2.2.2.1 t.2.2.2.2.2.1 d Q nx ny ((pc, .if_icmp .eq off, len, aux, cst, mask) :: tl) ls st cs x) : zq_x g rep d k pc ls st cs x Q := by
  obtain ⟨hdec, hlk, hn⟩ := zq_head C hg
  simp only [zq_lk, Bool.and_eq_true, decide_eq_true_eq] at hlk
  obtain rfl : len = 3 := Nat.eq_of_beq_eq_true hlk.2
  replace h : (match (generalizing := false) st with
    | .int y :: .int z :: st => (z = y → nx (zq_sf t.2.2.2.2.1 (zq_ix aux 0)) ls st cs x) ∧ (¬ z = y → nx tl ls st cs x)
    | _ => False) := h
  split at h
  · intro t' ht' p e R s m args below meth c Z ha hr H locs la hw hl
    obtain rfl : t' = t := Option.some.inj (ht'.symm.trans C.2.1)
    exact lv_icmp_eq ha.2.1 ha.2.2.1 hdec hlk.1 (fun q => zq_jump C _ _ _ _ _ (h.1 q) t' ht' p e R s m args below meth c Z ha hr H locs la hw hl) (fun q => hn _ _ _ _ (h.2 q) t' ht' p e R s m args below meth c Z ha hr H locs la hw hl)
  · exact h.elim
theorem zq_s_ic_ne {X : Type} {g : zq_G} {O : zq_O X} {rep : X → List zq_E} {t : zq_T} {k d : Nat} {Q : Option Value → X → Prop} {nx : List zq_I → List Value → List Value → Nat × Nat → X → Prop} {ny : Nat → List Value → List Value → Nat × Nat → X → Prop} (C : zq_cx g O rep t k d Q nx ny) {pc len : Nat} {aux : List Nat} {cst : Value} {mask : List Bool} {tl : List zq_I} {ls st : List Value} {cs : Nat × Nat} {x : X} {off : Int} (hg : zq_ok t ((pc, .if_icmp .ne off, len, aux, cst, mask) :: tl)) (h : zq_st g O rep t.2.2.2.2.1 t.2.2.2.1 t.2.2.2.2.2.1 d Q nx ny ((pc, .if_icmp .ne off, len, aux, cst, mask) :: tl) ls st cs x) : zq_x g rep d k pc ls st cs x Q := by
  obtain ⟨hdec, hlk, hn⟩ := zq_head C hg
  simp only [zq_lk, Bool.and_eq_true, decide_eq_true_eq] at hlk
  obtain rfl : len = 3 := Nat.eq_of_beq_eq_true hlk.2
  replace h : (match (generalizing := false) st with
    | .int y :: .int z :: st => (¬ z = y → nx (zq_sf t.2.2.2.2.1 (zq_ix aux 0)) ls st cs x) ∧ (z = y → nx tl ls st cs x)
    | _ => False) := h
  split at h
  · intro t' ht' p e R s m args below meth c Z ha hr H locs la hw hl
    obtain rfl : t' = t := Option.some.inj (ht'.symm.trans C.2.1)
    exact lv_icmp_ne ha.2.1 ha.2.2.1 hdec hlk.1 (fun q => zq_jump C _ _ _ _ _ (h.1 q) t' ht' p e R s m args below meth c Z ha hr H locs la hw hl) (fun q => hn _ _ _ _ (h.2 q) t' ht' p e R s m args below meth c Z ha hr H locs la hw hl)
  · exact h.elim
theorem zq_s_ic_lt {X : Type} {g : zq_G} {O : zq_O X} {rep : X → List zq_E} {t : zq_T} {k d : Nat} {Q : Option Value → X → Prop} {nx : List zq_I → List Value → List Value → Nat × Nat → X → Prop} {ny : Nat → List Value → List Value → Nat × Nat → X → Prop} (C : zq_cx g O rep t k d Q nx ny) {pc len : Nat} {aux : List Nat} {cst : Value} {mask : List Bool} {tl : List zq_I} {ls st : List Value} {cs : Nat × Nat} {x : X} {off : Int} (hg : zq_ok t ((pc, .if_icmp .lt off, len, aux, cst, mask) :: tl)) (h : zq_st g O rep t.2.2.2.2.1 t.2.2.2.1 t.2.2.2.2.2.1 d Q nx ny ((pc, .if_icmp .lt off, len, aux, cst, mask) :: tl) ls st cs x) : zq_x g rep d k pc ls st cs x Q := by
  obtain ⟨hdec, hlk, hn⟩ := zq_head C hg
  simp only [zq_lk, Bool.and_eq_true, decide_eq_true_eq] at hlk
  obtain rfl : len = 3 := Nat.eq_of_beq_eq_true hlk.2
  replace h : (match (generalizing := false) st with
    | .int y :: .int z :: st => (z < y → nx (zq_sf t.2.2.2.2.1 (zq_ix aux 0)) ls st cs x) ∧ (¬ z < y → nx tl ls st cs x)
    | _ => False) := h
  split at h
  · intro t' ht' p e R s m args below meth c Z ha hr H locs la hw hl
    obtain rfl : t' = t := Option.some.inj (ht'.symm.trans C.2.1)
    exact lv_icmp_lt ha.2.1 ha.2.2.1 hdec hlk.1 (fun q => zq_jump C _ _ _ _ _ (h.1 q) t' ht' p e R s m args below meth c Z ha hr H locs la hw hl) (fun q => hn _ _ _ _ (h.2 q) t' ht' p e R s m args below meth c Z ha hr H locs la hw hl)
  · exact h.elim
theorem zq_s_ic_ge {X : Type} {g : zq_G} {O : zq_O X} {rep : X → List zq_E} {t : zq_T} {k d : Nat} {Q : Option Value → X → Prop} {nx : List zq_I → List Value → List Value → Nat × Nat → X → Prop} {ny : Nat → List Value → List Value → Nat × Nat → X → Prop} (C : zq_cx g O rep t k d Q nx ny) {pc len : Nat} {aux : List Nat} {cst : Value} {mask : List Bool} {tl : List zq_I} {ls st : List Value} {cs : Nat × Nat} {x : X} {off : Int} (hg : zq_ok t ((pc, .if_icmp .ge off, len, aux, cst, mask) :: tl)) (h : zq_st g O rep t.2.2.2.2.1 t.2.2.2.1 t.2.2.2.2.2.1 d Q nx ny ((pc, .if_icmp .ge off, len, aux, cst, mask) :: tl) ls st cs x) : zq_x g rep d k pc ls st cs x Q := by
  obtain ⟨hdec, hlk, hn⟩ := zq_head C hg
  simp only [zq_lk, Bool.and_eq_true, decide_eq_true_eq] at hlk
  obtain rfl : len = 3 := Nat.eq_of_beq_eq_true hlk.2
  replace h : (match (generalizing := false) st with
    | .int y :: .int z :: st => (y ≤ z → nx (zq_sf t.2.2.2.2.1 (zq_ix aux 0)) ls st cs x) ∧ (¬ y ≤ z → nx tl ls st cs x)
    | _ => False) := h
  split at h
  · intro t' ht' p e R s m args below meth c Z ha hr H locs la hw hl
    obtain rfl : t' = t := Option.some.inj (ht'.symm.trans C.2.1)
    exact lv_icmp_ge ha.2.1 ha.2.2.1 hdec hlk.1 (fun q => zq_jump C _ _ _ _ _ (h.1 q) t' ht' p e R s m args below meth c Z ha hr H locs la hw hl) (fun q => hn _ _ _ _ (h.2 q) t' ht' p e R s m args below meth c Z ha hr H locs la hw hl)
  · exact h.elim
theorem zq_s_ic_gt {X : Type} {g : zq_G} {O : zq_O X} {rep : X → List zq_E} {t : zq_T} {k d : Nat} {Q : Option Value → X → Prop} {nx : List zq_I → List Value → List Value → Nat × Nat → X → Prop} {ny : Nat → List Value → List Value → Nat × Nat → X → Prop} (C : zq_cx g O rep t k d Q nx ny) {pc len : Nat} {aux : List Nat} {cst : Value} {mask : List Bool} {tl : List zq_I} {ls st : List Value} {cs : Nat × Nat} {x : X} {off : Int} (hg : zq_ok t ((pc, .if_icmp .gt off, len, aux, cst, mask) :: tl)) (h : zq_st g O rep t.2.2.2.2.1 t.2.2.2.1 t.2.2.2.2.2.1 d Q nx ny ((pc, .if_icmp .gt off, len, aux, cst, mask) :: tl) ls st cs x) : zq_x g rep d k pc ls st cs x Q := by
  obtain ⟨hdec, hlk, hn⟩ := zq_head C hg
  simp only [zq_lk, Bool.and_eq_true, decide_eq_true_eq] at hlk
  obtain rfl : len = 3 := Nat.eq_of_beq_eq_true hlk.2
  replace h : (match (generalizing := false) st with
    | .int y :: .int z :: st => (y < z → nx (zq_sf t.2.2.2.2.1 (zq_ix aux 0)) ls st cs x) ∧ (¬ y < z → nx tl ls st cs x)
    | _ => False) := h
  split at h
  · intro t' ht' p e R s m args below meth c Z ha hr H locs la hw hl
    obtain rfl : t' = t := Option.some.inj (ht'.symm.trans C.2.1)
    exact lv_icmp_gt ha.2.1 ha.2.2.1 hdec hlk.1 (fun q => zq_jump C _ _ _ _ _ (h.1 q) t' ht' p e R s m args below meth c Z ha hr H locs la hw hl) (fun q => hn _ _ _ _ (h.2 q) t' ht' p e R s m args below meth c Z ha hr H locs la hw hl)
  · exact h.elim
theorem zq_s_ic_le {X : Type} {g : zq_G} {O : zq_O X} {rep : X → List zq_E} {t : zq_T} {k d : Nat} {Q : Option Value → X → Prop} {nx : List zq_I → List Value → List Value → Nat × Nat → X → Prop} {ny : Nat → List Value → List Value → Nat × Nat → X → Prop} (C : zq_cx g O rep t k d Q nx ny) {pc len : Nat} {aux : List Nat} {cst : Value} {mask : List Bool} {tl : List zq_I} {ls st : List Value} {cs : Nat × Nat} {x : X} {off : Int} (hg : zq_ok t ((pc, .if_icmp .le off, len, aux, cst, mask) :: tl)) (h : zq_st g O rep t.2.2.2.2.1 t.2.2.2.1 t.2.2.2.2.2.1 d Q nx ny ((pc, .if_icmp .le off, len, aux, cst, mask) :: tl) ls st cs x) : zq_x g rep d k pc ls st cs x Q := by
  obtain ⟨hdec, hlk, hn⟩ := zq_head C hg
  simp only [zq_lk, Bool.and_eq_true, decide_eq_true_eq] at hlk
  obtain rfl : len = 3 := Nat.eq_of_beq_eq_true hlk.2
  replace h : (match (generalizing := false) st with
    | .int y :: .int z :: st => (z ≤ y → nx (zq_sf t.2.2.2.2.1 (zq_ix aux 0)) ls st cs x) ∧ (¬ z ≤ y → nx tl ls st cs x)
    | _ => False) := h
  split at h
  · intro t' ht' p e R s m args below meth c Z ha hr H locs la hw hl
    obtain rfl : t' = t := Option.some.inj (ht'.symm.trans C.2.1)
    exact lv_icmp_le ha.2.1 ha.2.2.1 hdec hlk.1 (fun q => zq_jump C _ _ _ _ _ (h.1 q) t' ht' p e R s m args below meth c Z ha hr H locs la hw hl) (fun q => hn _ _ _ _ (h.2 q) t' ht' p e R s m args below meth c Z ha hr H locs la hw hl)
  · exact h.elim
theorem zq_s_goto {X : Type} {g : zq_G} {O : zq_O X} {rep : X → List zq_E} {t : zq_T} {k d : Nat} {Q : Option Value → X → Prop} {nx : List zq_I → List Value → List Value → Nat × Nat → X → Prop} {ny : Nat → List Value → List Value → Nat × Nat → X → Prop} (C : zq_cx g O rep t k d Q nx ny) {pc len : Nat} {aux : List Nat} {cst : Value} {mask : List Bool} {tl : List zq_I} {ls st : List Value} {cs : Nat × Nat} {x : X} {off : Int} (hg : zq_ok t ((pc, .goto off, len, aux, cst, mask) :: tl)) (h : zq_st g O rep t.2.2.2.2.1 t.2.2.2.1 t.2.2.2.2.2.1 d Q nx ny ((pc, .goto off, len, aux, cst, mask) :: tl) ls st cs x) : zq_x g rep d k pc ls st cs x Q := by
  obtain ⟨hdec, hlk, hn⟩ := zq_head C hg
  simp only [zq_lk, Bool.and_eq_true, decide_eq_true_eq] at hlk
  obtain rfl : len = 3 := Nat.eq_of_beq_eq_true hlk.2
  replace h : nx (zq_sf t.2.2.2.2.1 (zq_ix aux 0)) ls st cs x := h
  · intro t' ht' p e R s m args below meth c Z ha hr H locs la hw hl
    obtain rfl : t' = t := Option.some.inj (ht'.symm.trans C.2.1)
    exact lv_goto ha.2.1 ha.2.2.1 hdec hlk.1 (zq_jump C _ _ _ _ _ h t' ht' p e R s m args below meth c Z ha hr H locs la hw hl)
