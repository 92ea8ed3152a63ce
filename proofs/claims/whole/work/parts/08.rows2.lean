theorem zq_tw_at (z : Int32) (f : Nat → Prop) : ∀ (l : List Nat) (i : Int) (j a : Nat), zq_tw z f i l → l[j]? = some a → z.toInt = i + j → f a
  | [], i, j, a, h, hl, hz => by simp at hl
  | b :: [], i, j, a, h, hl, hz => by
    have hj : j = 0 := by
      have := (List.getElem?_eq_some_iff.mp hl).1
      simp at this
      exact this
    subst hj
    have e : b = a := by simpa using hl
    rw [← e]
    exact h (by rw [hz]; simp)
  | b :: b' :: r, i, j, a, h, hl, hz => by
    cases j with
    | zero =>
      have e : b = a := by simpa using hl
      rw [← e]
      exact h.1 (by rw [hz]; simp)
    | succ j => exact zq_tw_at z f (b' :: r) (i + 1) j a h.2 (by simpa using hl) (by rw [hz]; push_cast; omega)
theorem zq_s_tableswitch {X : Type} {g : zq_G} {O : zq_O X} {rep : X → List zq_E} {t : zq_T} {k d : Nat} {Q : Option Value → X → Prop} {nx : List zq_I → List Value → List Value → Nat × Nat → X → Prop} {ny : Nat → List Value → List Value → Nat × Nat → X → Prop} (C : zq_cx g O rep t k d Q nx ny) {pc len : Nat} {aux : List Nat} {cst : Value} {mask : List Bool} {tl : List zq_I} {ls st : List Value} {cs : Nat × Nat} {x : X} {dflt lo hi : Int} {offs : Array Int} (hg : zq_ok t ((pc, .tableswitch dflt lo hi offs, len, aux, cst, mask) :: tl)) (h : zq_st g O rep t.2.2.2.2.1 t.2.2.2.1 t.2.2.2.2.2.1 d Q nx ny ((pc, .tableswitch dflt lo hi offs, len, aux, cst, mask) :: tl) ls st cs x) : zq_x g rep d k pc ls st cs x Q := by
  obtain ⟨hdec, hlk, hn⟩ := zq_head C hg
  simp only [zq_lk, Bool.and_eq_true, decide_eq_true_eq] at hlk
  obtain ⟨h1, h2, h3, h4⟩ := hlk
  replace h : (match (generalizing := false) st with
    | .int z :: st => ((z.toInt < lo ∨ hi < z.toInt) → nx (zq_sf t.2.2.2.2.1 (zq_ix aux 0)) ls st cs x) ∧ zq_tw z (fun a => nx (zq_sf t.2.2.2.2.1 a) ls st cs x) lo (aux.drop 1)
    | _ => False) := h
  split at h
  · next z st =>
    intro t' ht' p e R s m args below meth c Z ha hr H locs la hw hl
    obtain rfl : t' = t := Option.some.inj (ht'.symm.trans C.2.1)
    by_cases q : z.toInt < lo ∨ hi < z.toInt
    · exact lv_tableOut ha.2.1 ha.2.2.1 hdec q h1 (zq_jump C _ _ _ _ _ (h.1 q) t' ht' p e R s m args below meth c Z ha hr H locs la hw hl)
    · have q1 : ¬ z.toInt < lo := fun w => q (Or.inl w)
      have q2 : ¬ hi < z.toInt := fun w => q (Or.inr w)
      have hj : (z.toInt - lo).toNat < (aux.drop 1).length := by omega
      have e1 : (aux.drop 1)[(z.toInt - lo).toNat]? = some ((aux.drop 1)[(z.toInt - lo).toNat]) := List.getElem?_eq_getElem hj
      have e2 : (offs.toList.map (fun o => (pc : Int) + o))[(z.toInt - lo).toNat]? = some (((aux.drop 1)[(z.toInt - lo).toNat] : Nat) : Int) := by
        rw [h2, List.getElem?_map, e1]; rfl
      rw [List.getElem?_map] at e2
      obtain ⟨off, e3, e4⟩ := Option.map_eq_some_iff.mp e2
      refine lv_tableIn ha.2.1 ha.2.2.1 hdec q1 q2 (off := off) (by rw [← Array.getElem?_toList]; exact e3) e4 (zq_jump C _ _ _ _ _ (zq_tw_at z _ _ lo _ _ h.2 e1 (by omega)) t' ht' p e R s m args below meth c Z ha hr H locs la hw hl)
  · exact h.elim
theorem zq_fk_of {t : zq_T} {aux : List Nat} {i : Nat} (h : zq_fk t aux i = true) : ∃ q, vwCl[zq_ix aux 0]? = some q ∧ zq_ix aux 1 < q.2.2 ∧ Jvm.Cond.fieldLink t.1.cls i (q.2.1 (zq_ix aux 1)).1 (q.2.1 (zq_ix aux 1)).2.1 (q.2.1 (zq_ix aux 1)).2.2.1 ∈ zq_tb ∧ zq_ax aux = true := by
  unfold zq_fk at h
  split at h
  · next q hq =>
    simp only [Bool.and_eq_true] at h
    exact ⟨q, hq, Nat.le_of_ble_eq_true h.1.1, zq_is_in h.1.2, h.2⟩
  · cases h
theorem zq_s_getfield {X : Type} {g : zq_G} {O : zq_O X} {rep : X → List zq_E} {t : zq_T} {k d : Nat} {Q : Option Value → X → Prop} {nx : List zq_I → List Value → List Value → Nat × Nat → X → Prop} {ny : Nat → List Value → List Value → Nat × Nat → X → Prop} (C : zq_cx g O rep t k d Q nx ny) {pc len : Nat} {aux : List Nat} {cst : Value} {mask : List Bool} {tl : List zq_I} {ls st : List Value} {cs : Nat × Nat} {x : X} {i : Nat} (hg : zq_ok t ((pc, .getfield i, len, aux, cst, mask) :: tl)) (h : zq_st g O rep t.2.2.2.2.1 t.2.2.2.1 t.2.2.2.2.2.1 d Q nx ny ((pc, .getfield i, len, aux, cst, mask) :: tl) ls st cs x) : zq_x g rep d k pc ls st cs x Q := by
  obtain ⟨hdec, hlk, hn⟩ := zq_head C hg
  simp only [zq_lk, Bool.and_eq_true, decide_eq_true_eq] at hlk
  obtain rfl : len = 3 := Nat.eq_of_beq_eq_true hlk.2
  replace h : (match (generalizing := false) st with
    | .ref o :: st => match O.1 x aux o with
      | some v => nx tl ls (v :: st) cs x
      | none => False
    | _ => False) := h
  obtain ⟨q, hq, hk, hlink, hax⟩ := zq_fk_of hlk.1
  split at h
  · next o st =>
    split at h
    · next v hv =>
      obtain ⟨fs, hf1, hf2⟩ := C.1.1 x aux o v hax hv
      intro t' ht' p e R s m args below meth c Z ha hr H locs la hw hl
      obtain rfl : t' = t := Option.some.inj (ht'.symm.trans C.2.1)
      obtain ⟨hR, hx, hb, hrt, hml, hown, hts, hlk0, hin0, hK, hro, hB, had⟩ := id ha
      obtain ⟨hlen, hcs, hP, hS⟩ := id hw
      have hD := zq_wD had hlen
      obtain ⟨ty, c1, -⟩ := zq_cf _ q hq
      exact va_get (D := zq_D g) (cl := vwCl) (v := zq_c g v) hx hb hts c1 hown hK hP o (zq_w_at hf1) hq (zq_ix aux 1) hk (hts _ hlink) (fun _ z => z) (by rw [List.getElem?_map, hf2]; rfl) hdec (hn _ _ _ _ h t' ht' p e R s m args below meth c Z ha hr H locs la hw hl)
    · exact h.elim
  · exact h.elim
theorem zq_s_putfield {X : Type} {g : zq_G} {O : zq_O X} {rep : X → List zq_E} {t : zq_T} {k d : Nat} {Q : Option Value → X → Prop} {nx : List zq_I → List Value → List Value → Nat × Nat → X → Prop} {ny : Nat → List Value → List Value → Nat × Nat → X → Prop} (C : zq_cx g O rep t k d Q nx ny) {pc len : Nat} {aux : List Nat} {cst : Value} {mask : List Bool} {tl : List zq_I} {ls st : List Value} {cs : Nat × Nat} {x : X} {i : Nat} (hg : zq_ok t ((pc, .putfield i, len, aux, cst, mask) :: tl)) (h : zq_st g O rep t.2.2.2.2.1 t.2.2.2.1 t.2.2.2.2.2.1 d Q nx ny ((pc, .putfield i, len, aux, cst, mask) :: tl) ls st cs x) : zq_x g rep d k pc ls st cs x Q := by
  obtain ⟨hdec, hlk, hn⟩ := zq_head C hg
  simp only [zq_lk, Bool.and_eq_true, decide_eq_true_eq] at hlk
  obtain rfl : len = 3 := Nat.eq_of_beq_eq_true hlk.2
  replace h : (match (generalizing := false) st with
    | v :: .ref o :: st => match O.2.1 x aux o v with
      | some x' => match zq_ix aux 2, v with
        | 0, .int _ => nx tl ls st cs x'
        | 1, .int u => zq_b u ∧ nx tl ls st cs x'
        | 2, .ref _ => nx tl ls st cs x'
        | _, _ => False
      | none => False
    | _ => False) := h
  obtain ⟨q, hq, hk, hlink, hax⟩ := zq_fk_of hlk.1.1
  have hfp := hlk.1.2
  unfold zq_fp at hfp
  rw [hq] at hfp
  replace hfp : ((!(q.2.1 (zq_ix aux 1)).2.2.2 || (decide (t.1.name = "<init>") && decide ((q.2.1 (zq_ix aux 1)).1 = t.1.cls))) && (match zq_ix aux 2, parseFieldDescriptor (q.2.1 (zq_ix aux 1)).2.2.1 with
    | 0, some .int => true
    | 1, some .boolean => true
    | 2, some (.object _) => true
    | 2, some (.array _) => true
    | _, _ => false)) = true := hfp
  rw [Bool.and_eq_true] at hfp
  obtain ⟨hfin, hty⟩ := hfp
  obtain ⟨ty, c1, c2, c3, -⟩ := zq_cf _ q hq
  split at h
  · next v o st =>
    split at h
    · next x' hv =>
      obtain ⟨fs, hf1, hf2, hf3⟩ := C.1.2.1 x aux o v x' hax hv
      have key : nx tl ls st cs x' ∧ ∃ fty, parseFieldDescriptor (q.2.1 (zq_ix aux 1)).2.2.1 = some fty ∧ narrow fty (zq_c g v) = zq_c g v ∧ fits fty (zq_c g v) = true := by
        split at h
        · next e =>
          rw [e] at hty
          split at hty <;> first | (exfalso; omega) | (next e2 => exact ⟨h, _, e2, rfl, rfl⟩) | cases hty
        · next u e =>
          rw [e] at hty
          obtain ⟨hb, h⟩ := h
          split at hty <;> first | (exfalso; omega) | (next e2 => exact ⟨h, _, e2, by rcases hb with rfl | rfl <;> rfl, by rcases hb with rfl | rfl <;> rfl⟩) | cases hty
        · next e =>
          rw [e] at hty
          split at hty <;> first | (exfalso; omega) | (next e2 => exact ⟨h, _, e2, rfl, rfl⟩) | cases hty
        · exact h.elim
      obtain ⟨h, fty, f1, f2, f3⟩ := key
      intro t' ht' p e R s m args below meth c Z ha hr H locs la hw hl
      obtain rfl : t' = t := Option.some.inj (ht'.symm.trans C.2.1)
      obtain ⟨hR, hx, hb, hrt, hml, hown, hts, hlk0, hin0, hK, hro, hB, had⟩ := id ha
      obtain ⟨hlen, hcs, hP, hS⟩ := id hw
      have hD := zq_wD had hlen
      have fin : ∀ (H1 : Heap) (locs1 : List Loc), va_P (zq_D g) vwCl ((zq_w g 0 (rep x)).set o (zq_ad g o, .inr (zq_ix aux 0, (fs.map (zq_c g)).set (zq_ix aux 1) (zq_c g v)))) H1 → va_D (zq_F g) ((zq_w g 0 (rep x)).set o (zq_ad g o, .inr (zq_ix aux 0, (fs.map (zq_c g)).set (zq_ix aux 1) (zq_c g v)))) → va_S (zq_F g) s.heap H1 locs1 → W p (zq_l g) e R s m args below meth c H1 locs1 cs.1 cs.2 Z (F0 m (pc + 3) la (st.map (zq_c g))) := by
        intro H1 locs1 p1 p2 p3
        refine hn _ _ _ _ h t' ht' p e R s m args below meth c Z ha hr H1 locs1 la ⟨?_, ?_, ?_, p3⟩ hl
        · rw [hf3, List.length_set]; exact hlen
        · rw [hf3, List.length_set]; exact hcs
        · rw [hf3, ← zq_w_set, Nat.zero_add]
          rw [← List.map_set] at p1
          exact p1
      have hl2 : zq_ix aux 1 < (fs.map (zq_c g)).length := by rw [List.length_map]; exact hf2
      cases hf : (q.2.1 (zq_ix aux 1)).2.2.2 with
      | false => exact va_put (D := zq_D g) (cl := vwCl) hx hb hts c1 ty c2 c3 hown hK hP hD hS o (zq_w_at hf1) hq (zq_ix aux 1) hk (hts _ hlink) (fun _ z => z) hf f1 f2 f3 hl2 hdec fin
      | true =>
        rw [hf] at hfin
        simp only [Bool.not_true, Bool.false_or, Bool.and_eq_true, decide_eq_true_eq] at hfin
        exact va_putF (D := zq_D g) (cl := vwCl) hx hb hts c1 ty c2 c3 hown hK hP hD hS o (zq_w_at hf1) hq (zq_ix aux 1) hk (hts _ hlink) (fun _ z => z) hf (hin0 hfin.1) hfin.2 f1 f2 f3 hl2 hdec fin
    · exact h.elim
  · exact h.elim
theorem zq_s_getstatic {X : Type} {g : zq_G} {O : zq_O X} {rep : X → List zq_E} {t : zq_T} {k d : Nat} {Q : Option Value → X → Prop} {nx : List zq_I → List Value → List Value → Nat × Nat → X → Prop} {ny : Nat → List Value → List Value → Nat × Nat → X → Prop} (C : zq_cx g O rep t k d Q nx ny) {pc len : Nat} {aux : List Nat} {cst : Value} {mask : List Bool} {tl : List zq_I} {ls st : List Value} {cs : Nat × Nat} {x : X} {i : Nat} (hg : zq_ok t ((pc, .getstatic i, len, aux, cst, mask) :: tl)) (h : zq_st g O rep t.2.2.2.2.1 t.2.2.2.1 t.2.2.2.2.2.1 d Q nx ny ((pc, .getstatic i, len, aux, cst, mask) :: tl) ls st cs x) : zq_x g rep d k pc ls st cs x Q := by
  obtain ⟨hdec, hlk, hn⟩ := zq_head C hg
  simp only [zq_lk, Bool.and_eq_true, decide_eq_true_eq] at hlk
  obtain rfl : len = 3 := Nat.eq_of_beq_eq_true hlk.2
  replace h : nx tl ls (.ref (1001 + zq_ix aux 0) :: st) cs x := h
  obtain ⟨hj, hw1⟩ := hlk.1
  have hj := Nat.le_of_ble_eq_true hj
  · intro t' ht' p e R s m args below meth c Z ha hr H locs la hw hl
    obtain rfl : t' = t := Option.some.inj (ht'.symm.trans C.2.1)
    obtain ⟨hR, hx, hb, hrt, hml, hown, hts, hlk0, hin0, hK, hro, hB, had⟩ := id ha
    obtain ⟨hlen, hcs, hP, hS⟩ := id hw
    have hD := zq_wD had hlen
    have hz := hro.2.1 (zq_ix aux 0) hj
    split at hw1
    · exact va_gets (A := zq_F g) hx hb hz hS hown (hts _ (zq_is_in hw1)) (fun _ z => z) hdec (hn _ _ _ _ h t' ht' p e R s m args below meth c Z ha hr H locs la hw hl)
    · obtain ⟨q, hq, e2⟩ := Option.map_eq_some_iff.mp (of_decide_eq_true hw1)
      have hN := hro.2.2.2.1 q (List.mem_of_getElem? hq)
      simp only [Prod.mk.injEq] at e2
      obtain ⟨e3, e4, e5, e6, e7⟩ := e2
      rw [e3, e4, e5, e6, e7] at hN
      exact va_getsN (A := zq_F g) hx hb hz hS hown (va_Nw.use rfl hN) (fun _ z => z) hdec (hn _ _ _ _ h t' ht' p e R s m args below meth c Z ha hr H locs la hw hl)
