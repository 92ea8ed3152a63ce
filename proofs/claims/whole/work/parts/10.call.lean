theorem zq_le_of {cs bd : Nat × Nat} (h : zq_le cs bd = true) : cs.1 ≤ bd.1 ∧ cs.2 ≤ bd.2 := by
  unfold zq_le at h
  split at h
  · next h1 => exact ⟨Nat.le_of_ble_eq_true h1, Nat.le_of_ble_eq_true h⟩
  · cases h
theorem zq_cl_of {X : Type} {g : zq_G} {rep : X → List zq_E} {d k' ml : Nat} {as rest : List Value} {x : X} {f : Option Value → X → Prop} (h : zq_cl g rep d k' ml as rest x f) : ∃ d', d = d' + 1 ∧ (zq_fl as).length ≤ ml ∧ zq_cat rest ≤ 8 ∧ zq_x g rep d' k' 0 (zq_pd ml (zq_fl as)) [] (0, 0) x f := by
  unfold zq_cl at h
  split at h
  · exact h.elim
  · next d' =>
    split at h
    · next h1 h2 => exact ⟨d', rfl, Nat.le_of_ble_eq_true h1, Nat.le_of_ble_eq_true h2, h⟩
    · exact h.elim
theorem zq_ck_of {u : zq_T} {aux : List Nat} (h : zq_ck u aux = true) : (parseMethodDescriptor u.1.desc).map (fun d => d.parameters.length) = some (zq_ix aux 2) ∧ zq_ix aux 3 = u.2.2.1 ∧ zq_ix aux 7 = u.2.2.2.2.2.1.1 ∧ zq_ix aux 8 = u.2.2.2.2.2.1.2 ∧ zq_ix aux 1 < 230 := by
  simp only [zq_ck, Bool.and_eq_true, decide_eq_true_eq] at h
  exact ⟨h.1, Nat.eq_of_beq_eq_true h.2.1, Nat.eq_of_beq_eq_true h.2.2.1, Nat.eq_of_beq_eq_true h.2.2.2.1, Nat.le_of_ble_eq_true h.2.2.2.2⟩
theorem zq_good {u : zq_T} (hm : zq_mc u = true) : GoodIn zq_tb (zq_ws u) := by
  intro w hw
  have hg : w ∈ zq_tb := by
    rcases List.mem_cons.mp hw with h | h
    · rw [h]; exact (zq_mc_of hm).1
    · exact h
  exact ⟨hg, good_of_word (List.mem_filter.mp hg).2⟩
theorem zq_pre {g : zq_G} {s U : State} {cs : Nat × Nat} {h : List zq_E} {H : Heap} {locs : List Loc} (as : List Value) (hw : zq_wd g s cs h H locs) (hz : H.size ≤ s.heap.size + cs.1) (hK : va_K (zq_D g) vwCl (zq_ty g) s) (hro : zq_ro g s s.heap) (hB : zq_B g ≤ s.heap.size) (had : ∀ k, k < 1000 → zq_ad g k = zq_B g + k) (hU : U.heap = H) (hW : s.WarmedH U.vm) : zq_Pc g as h (as.map (zq_c g)).toArray U := by
  obtain ⟨h1, h2, h3, h4⟩ := hw
  refine ⟨rfl, h1, by rw [hU]; omega, by rw [hU]; exact h3, va_K.moved hW.alike hK, ?_, by rw [hU]; exact Nat.le_trans hB h4.1, had⟩
  rw [hU]
  exact hro.go hB hW (fun q q1 q2 => h4.2.1 q q1 q2)
/-- what goes on behind a call -/
theorem zq_cont {X : Type} {g : zq_G} {rep : X → List zq_E} {t : zq_T} {k d : Nat} {Q : Option Value → X → Prop} {ny : Nat → List Value → List Value → Nat × Nat → X → Prop} (hny : ∀ a ls st cs x, ny a ls st cs x → zq_x g rep d k a ls st cs x Q) {pc rv : Nat} {ls rest : List Value} {cs : Nat × Nat} {p : Program} {e : Env} {R : Room} {s : State} {m : MethodId} {args : Array Value} {below : List Frame} {meth : Method} {c : Code} {Z : State → Prop} {la : Array Slot} (ht : zq_mt[k]? = some t) (ha : zq_act g t d p R s m args meth c) (hr : zq_rt g t p e R s m args below meth c (fun r h => ∃ x', h = rep x' ∧ Q r x') Z) (hl : lv_has la t.2.2.1 (zq_lv g 0 ls))
    {r : Option Value} {x : X} {H : Heap} {locs : List Loc} (hf : zq_af (fun st x => ny (pc + 3) ls st cs x) rest rv r x) (hw : zq_wd g s cs (rep x) H locs) : W p (zq_l g) e R s m args below meth c H locs cs.1 cs.2 Z (F0 m (pc + 3) la ((r.map (zq_c g)).toList ++ rest.map (zq_c g))) := by
  unfold zq_af at hf
  split at hf
  · exact hny _ _ _ _ _ hf t ht p e R s m args below meth c Z ha hr H locs la hw hl
  · exact hny _ _ _ _ _ hf t ht p e R s m args below meth c Z ha hr H locs la hw hl
  · exact hf.elim
theorem zq_s_virt {X : Type} {g : zq_G} {O : zq_O X} {rep : X → List zq_E} {t : zq_T} {k d : Nat} {Q : Option Value → X → Prop} {nx : List zq_I → List Value → List Value → Nat × Nat → X → Prop} {ny : Nat → List Value → List Value → Nat × Nat → X → Prop} (C : zq_cx g O rep t k d Q nx ny) {pc len : Nat} {aux : List Nat} {cst : Value} {mask : List Bool} {tl : List zq_I} {ls st : List Value} {cs : Nat × Nat} {x : X} {i : Nat} (hg : zq_ok t ((pc, .invokevirtual i, len, aux, cst, mask) :: tl)) (h : zq_st g O rep t.2.2.2.2.1 t.2.2.2.1 t.2.2.2.2.2.1 d Q nx ny ((pc, .invokevirtual i, len, aux, cst, mask) :: tl) ls st cs x) : zq_x g rep d k pc ls st cs x Q := by
  obtain ⟨hdec, hlk, hn⟩ := zq_head C hg
  simp only [zq_lk, Bool.and_eq_true, decide_eq_true_eq] at hlk
  obtain rfl : len = 3 := Nat.eq_of_beq_eq_true hlk.2
  replace h : (match (generalizing := false) zq_le cs t.2.2.2.2.2.1 with
    | false => False
    | true => match (generalizing := false) zq_ix aux 0 with
      | 1 => match (generalizing := false) zq_sp (zq_ix aux 2) [] st with
        | some (as, .ref o :: rest) => match O.2.2.2.2.2.2 x o with
          | some ci => match Nat.beq ci (zq_ix aux 5) with
            | true => zq_cl g rep d (zq_ix aux 1) (zq_ix aux 3) (.ref o :: as) rest x (zq_af (fun st x => ny (pc + 3) ls st cs x) rest (zq_ix aux 6))
            | false => False
          | none => False
        | _ => False
      | 6 => match (generalizing := false) st with
        | .ref o :: rest => match (generalizing := false) Nat.ble 2000 o, Nat.ble o 2011, d, Nat.ble (zq_cat rest) 8 with
          | true, true, _ + 5, true => nx tl ls (.int (nI (zq_sl.getD (o - 2000) 0)) :: rest) cs x
          | _, _, _, _ => False
        | _ => False
      | 7 => match (generalizing := false) st with
        | .int i :: .ref o :: rest => match (generalizing := false) Nat.ble 2000 o, Nat.ble o 2011, d, Nat.ble (zq_cat rest) 8 with
          | true, true, _ + 5, true => vp_in i (zq_sl.getD (o - 2000) 0) ∧ nx tl ls (.int ((zq_sb.getD (o - 2000) []).getD i.toNatClampNeg 0) :: rest) cs x
          | _, _, _, _ => False
        | _ => False
      | _ => False) := h
  split at h
  · exact h.elim
  · next hle =>
    obtain ⟨le1, le2⟩ := zq_le_of hle
    have hk1 := hlk.1
    split at h
    · next hkind =>
      rw [hkind] at hk1
      replace hk1 : zq_vk t aux i = true := hk1
      unfold zq_vk at hk1
      split at hk1
      · next u hu =>
        simp only [Bool.and_eq_true, decide_eq_true_eq] at hk1
        obtain ⟨k1, k2, k3, k4, k5, k6, k7⟩ := hk1
        obtain ⟨hc1, hc2, hc3, hc4, hc5⟩ := zq_ck_of k1
        obtain ⟨q, hq, hqu⟩ := Option.map_eq_some_iff.mp k5
        split at h
        · next as o rest hsp =>
          split at h
          · next ci hci =>
            split at h
            · next hbeq =>
              obtain ⟨fs, hf1⟩ := C.1.2.2.2.2.2.2 x o ci hci
              rw [Nat.eq_of_beq_eq_true hbeq] at hf1
              obtain ⟨hst, hal⟩ := zq_sp_spec _ _ _ _ _ hsp
              replace hst : as.reverse ++ .ref o :: rest = st := hst
              subst hst
              have hm := zq_mall _ u hu hc5
              obtain ⟨d', hd, hfl, hcat, K⟩ := zq_cl_of h
              rw [hc2] at hfl K
              obtain ⟨m1, m2, m3, m4, m5, m6⟩ := zq_mc_of hm
              intro t' ht' p e R s m args below meth c Z ha hr H locs la hw hl
              obtain rfl : t' = t := Option.some.inj (ht'.symm.trans C.2.1)
              obtain ⟨hR, hx, hb, hrt, hml, hown, hts, hlk0, hin0, hK, hro, hB, had⟩ := id ha
              obtain ⟨hlen, hcs, hP, hS⟩ := id hw
              have hD := zq_wD had hlen
              refine zq_sz (fun hz => ?_)
              have hz3 : u.2.2.2.2.2.1.1 = 0 := hc3.symm.trans (Nat.eq_of_beq_eq_true k6)
              have hz4 : u.2.2.2.2.2.1.2 = 0 := hc4.symm.trans (Nat.eq_of_beq_eq_true k7)
              refine zq_back (cs := cs) (mc := u.2.2.2.2.2.1.1) (ms := u.2.2.2.2.2.1.2) (rest := rest.map (zq_c g)) (va_runV (C := u.1.cls) (n := zq_ix aux 2) (bytes := u.2.1) (maxL := u.2.2.1) (ret := u.2.2.2.1) (As := as.map (zq_c g)) ⟨hx, hb, hml, hown, hts⟩ (zq_met hu hm hfl K) ⟨callB_of _ hts (zq_good hm) rfl rfl rfl (hts _ m2) (hts _ (zq_is_in k2)) ⟨m4, m5, hc1⟩ ⟨by show d' + 1 ≤ _; omega, by show 8 + (u.2.2.1 + 11) + 64 * d' ≤ _; omega⟩, hts _ (zq_is_in k3), hts _ (zq_is_in k4)⟩ ⟨zq_blind g _ _, ?_, fun U hU hW => zq_pre (.ref o :: as) hw hz hK hro hB had hU hW⟩ rfl (by rw [List.length_map]; simpa using hal) hl.1 (by simp; rfl) (lv_room (by rw [zq_cat_map]; exact hcat)) hdec ⟨by omega, by omega⟩) hw hB had (fun r h1 H1 locs1 hQ hw1 => ?_)
              · have hrc := va_recv hK hP hq (zq_w_at hf1)
                rw [hqu] at hrc
                exact hrc
              · obtain ⟨x', rfl, hf⟩ := hQ
                rw [hz3, hz4] at hw1 ⊢
                exact zq_cont C.2.2.2.2 ht' ha hr hl hf hw1
            · exact h.elim
          · exact h.elim
        · exact h.elim
      · cases hk1
    · next hkind =>
      rw [hkind] at hk1
      split at h
      · next o rest =>
        split at h
        · next d' h1 h2 h3 =>
          replace h1 := Nat.le_of_ble_eq_true h1
          replace h2 := Nat.le_of_ble_eq_true h2
          replace h3 := Nat.le_of_ble_eq_true h3
          intro t' ht' p e R s m args below meth c Z ha hr H locs la hw hl
          obtain rfl : t' = t := Option.some.inj (ht'.symm.trans C.2.1)
          obtain ⟨hR, hx, hb, hrt, hml, hown, hts, hlk0, hin0, hK, hro, hB, had⟩ := id ha
          obtain ⟨hlen, hcs, hP, hS⟩ := id hw
          have hD := zq_wD had hlen
          exact zq_strlen ha hw hl h1 h2 h3 (Nat.le_add_left 5 d') (hts _ (zq_is_in hk1)) hdec (Nat.le_trans le1 hR.2.2.1) (Nat.le_trans le2 hR.2.2.2) (hn _ _ _ _ h t' ht' p e R s m args below meth c Z ha hr H locs la hw hl)
        · exact h.elim
      · exact h.elim
    · next hkind =>
      rw [hkind] at hk1
      split at h
      · next ix o rest =>
        split at h
        · next d' h1 h2 h3 =>
          replace h1 := Nat.le_of_ble_eq_true h1
          replace h2 := Nat.le_of_ble_eq_true h2
          replace h3 := Nat.le_of_ble_eq_true h3
          intro t' ht' p e R s m args below meth c Z ha hr H locs la hw hl
          obtain rfl : t' = t := Option.some.inj (ht'.symm.trans C.2.1)
          obtain ⟨hR, hx, hb, hrt, hml, hown, hts, hlk0, hin0, hK, hro, hB, had⟩ := id ha
          obtain ⟨hlen, hcs, hP, hS⟩ := id hw
          have hD := zq_wD had hlen
          exact zq_strchr ha hw hl h1 h2 h3 (Nat.le_add_left 5 d') h.1 (hts _ (zq_is_in hk1)) hdec (Nat.le_trans le1 hR.2.2.1) (Nat.le_trans le2 hR.2.2.2) (hn _ _ _ _ h.2 t' ht' p e R s m args below meth c Z ha hr H locs la hw hl)
        · exact h.elim
      · exact h.elim
    · exact h.elim
theorem zq_s_spec {X : Type} {g : zq_G} {O : zq_O X} {rep : X → List zq_E} {t : zq_T} {k d : Nat} {Q : Option Value → X → Prop} {nx : List zq_I → List Value → List Value → Nat × Nat → X → Prop} {ny : Nat → List Value → List Value → Nat × Nat → X → Prop} (C : zq_cx g O rep t k d Q nx ny) {pc len : Nat} {aux : List Nat} {cst : Value} {mask : List Bool} {tl : List zq_I} {ls st : List Value} {cs : Nat × Nat} {x : X} {i : Nat} (hg : zq_ok t ((pc, .invokespecial i, len, aux, cst, mask) :: tl)) (h : zq_st g O rep t.2.2.2.2.1 t.2.2.2.1 t.2.2.2.2.2.1 d Q nx ny ((pc, .invokespecial i, len, aux, cst, mask) :: tl) ls st cs x) : zq_x g rep d k pc ls st cs x Q := by
  obtain ⟨hdec, hlk, hn⟩ := zq_head C hg
  simp only [zq_lk, Bool.and_eq_true, decide_eq_true_eq] at hlk
  obtain rfl : len = 3 := Nat.eq_of_beq_eq_true hlk.2
  replace h : (match (generalizing := false) zq_le cs t.2.2.2.2.2.1 with
    | false => False
    | true => match (generalizing := false) zq_ix aux 0 with
      | 0 => match (generalizing := false) st with
        | .ref _ :: rest => match (generalizing := false) d, Nat.ble (zq_cat rest) 8 with
          | _ + 1, true => nx tl ls rest cs x
          | _, _ => False
        | _ => False
      | _ => match (generalizing := false) zq_sp (zq_ix aux 2) [] st with
        | some (as, .ref o :: rest) => match (generalizing := false) Nat.ble (cs.1 + zq_ix aux 7) t.2.2.2.2.2.1.1, Nat.ble (cs.2 + zq_ix aux 8) t.2.2.2.2.2.1.2 with
          | true, true => zq_cl g rep d (zq_ix aux 1) (zq_ix aux 3) (.ref o :: as) rest x (zq_af (fun st x => ny (pc + 3) ls st (cs.1 + zq_ix aux 7, cs.2 + zq_ix aux 8) x) rest (zq_ix aux 6))
          | _, _ => False
        | _ => False) := h
  split at h
  · exact h.elim
  · next hle =>
    obtain ⟨le1, le2⟩ := zq_le_of hle
    have hk1 := hlk.1
    split at h
    · next hkind =>
      rw [hkind] at hk1
      split at h
      · next o rest =>
        split at h
        · next d' h3 =>
          replace h3 := Nat.le_of_ble_eq_true h3
          intro t' ht' p e R s m args below meth c Z ha hr H locs la hw hl
          obtain rfl : t' = t := Option.some.inj (ht'.symm.trans C.2.1)
          obtain ⟨hR, hx, hb, hrt, hml, hown, hts, hlk0, hin0, hK, hro, hB, had⟩ := id ha
          obtain ⟨hlen, hcs, hP, hS⟩ := id hw
          have hD := zq_wD had hlen
          exact W.objInit hx hb hown (hts _ (zq_is_in hk1)) (hts _ zq_oi1) (hts _ zq_oi2) rfl (hl.1.trans hml.symm) rfl hdec (by omega) (by rw [zq_cat_map]; show 2 * 0 + _ + 12 ≤ _; omega) (hn _ _ _ _ h t' ht' p e R s m args below meth c Z ha hr H locs la hw hl)
        · exact h.elim
      · exact h.elim
    · next hkind =>
      replace hk1 : zq_ik t aux i = true := by
        revert hk1
        split
        · next hz => exact absurd hz hkind
        · exact fun q => q
      unfold zq_ik at hk1
      split at hk1
      · next u hu =>
        simp only [Bool.and_eq_true, decide_eq_true_eq] at hk1
        obtain ⟨k1, k3, k4, k5, k6⟩ := hk1
        obtain ⟨hc1, hc2, hc3, hc4, hc5⟩ := zq_ck_of k1
        split at h
        · next as o rest hsp =>
          split at h
          · next hb1 hb2 =>
            replace hb1 := Nat.le_of_ble_eq_true hb1
            replace hb2 := Nat.le_of_ble_eq_true hb2
            rw [hc3] at hb1 h
            rw [hc4] at hb2 h
            obtain ⟨hst, hal⟩ := zq_sp_spec _ _ _ _ _ hsp
            replace hst : as.reverse ++ .ref o :: rest = st := hst
            subst hst
            have hm := zq_mall _ u hu hc5
            obtain ⟨d', hd, hfl, hcat, K⟩ := zq_cl_of h
            rw [hc2] at hfl K
            obtain ⟨m1, m2, m3, m4, m5, m6⟩ := zq_mc_of hm
            intro t' ht' p e R s m args below meth c Z ha hr H locs la hw hl
            obtain rfl : t' = t := Option.some.inj (ht'.symm.trans C.2.1)
            obtain ⟨hR, hx, hb, hrt, hml, hown, hts, hlk0, hin0, hK, hro, hB, had⟩ := id ha
            obtain ⟨hlen, hcs, hP, hS⟩ := id hw
            have hD := zq_wD had hlen
            refine zq_sz (fun hz => ?_)
            have hmet := zq_met hu hm hfl K
            split at k6
            · next hkd =>
              refine zq_back (cs := cs) (mc := u.2.2.2.2.2.1.1) (ms := u.2.2.2.2.2.1.2) (rest := rest.map (zq_c g)) (va_runI (n := zq_ix aux 2) (bytes := u.2.1) (maxL := u.2.2.1) (As := as.map (zq_c g)) ⟨hx, hb, hml, hown, hts⟩ hmet ⟨callB_of (ret := none) (ws' := zq_tb) _ hts (zq_good hm) (by rw [zq_ws, k5]) rfl rfl (hts _ m2) (hts _ (zq_is_in k6)) ⟨m4, m5, hc1⟩ ⟨by show d' + 1 ≤ _; omega, by show 8 + (u.2.2.1 + 11) + 64 * d' ≤ _; omega⟩, k4, hts _ (zq_is_in k3)⟩ ⟨zq_blind g _ _, fun U hU hW => zq_pre (.ref o :: as) hw hz hK hro hB had hU hW⟩ rfl (by rw [List.length_map]; simpa using hal) hl.1 (by simp; rfl) (lv_room (by rw [zq_cat_map]; exact hcat)) hdec ⟨by omega, by omega⟩) hw hB had (fun r h1 H1 locs1 hQ hw1 => ?_)
              obtain ⟨x', rfl, hf⟩ := hQ
              exact zq_cont (cs := (cs.1 + u.2.2.2.2.2.1.1, cs.2 + u.2.2.2.2.2.1.2)) C.2.2.2.2 ht' ha hr hl hf hw1
            · next hkd =>
              obtain ⟨q, hq, e2⟩ := Option.map_eq_some_iff.mp (of_decide_eq_true k6)
              have hN := hro.2.2.1 q (List.mem_of_getElem? hq)
              simp only [Prod.mk.injEq] at e2
              obtain ⟨e3, e4, e5⟩ := e2
              rw [e3, e4, e5] at hN
              refine zq_back (cs := cs) (mc := u.2.2.2.2.2.1.1) (ms := u.2.2.2.2.2.1.2) (rest := rest.map (zq_c g)) (va_runIN (host := q.2.2.2) (n := zq_ix aux 2) (bytes := u.2.1) (maxL := u.2.2.1) (As := as.map (zq_c g)) ⟨hx, hb, hml, hown, hts⟩ hmet ⟨va_cnB (ret := none) (ws' := zq_tb) _ hts (zq_good hm) (by rw [zq_ws, k5]) rfl rfl hN (hts _ m2) ⟨m4, m5, hc1⟩ ⟨by show d' + 1 ≤ _; omega, by show 8 + (u.2.2.1 + 11) + 64 * d' ≤ _; omega⟩, k4, hts _ (zq_is_in k3)⟩ ⟨zq_blind g _ _, fun U hU hW => zq_pre (.ref o :: as) hw hz hK hro hB had hU hW⟩ rfl (by rw [List.length_map]; simpa using hal) hl.1 (by simp; rfl) (lv_room (by rw [zq_cat_map]; exact hcat)) hdec ⟨by omega, by omega⟩) hw hB had (fun r h1 H1 locs1 hQ hw1 => ?_)
              obtain ⟨x', rfl, hf⟩ := hQ
              exact zq_cont (cs := (cs.1 + u.2.2.2.2.2.1.1, cs.2 + u.2.2.2.2.2.1.2)) C.2.2.2.2 ht' ha hr hl hf hw1
            · cases k6
          · exact h.elim
        · exact h.elim
      · cases hk1
theorem zq_s_stat {X : Type} {g : zq_G} {O : zq_O X} {rep : X → List zq_E} {t : zq_T} {k d : Nat} {Q : Option Value → X → Prop} {nx : List zq_I → List Value → List Value → Nat × Nat → X → Prop} {ny : Nat → List Value → List Value → Nat × Nat → X → Prop} (C : zq_cx g O rep t k d Q nx ny) {pc len : Nat} {aux : List Nat} {cst : Value} {mask : List Bool} {tl : List zq_I} {ls st : List Value} {cs : Nat × Nat} {x : X} {i : Nat} (hg : zq_ok t ((pc, .invokestatic i, len, aux, cst, mask) :: tl)) (h : zq_st g O rep t.2.2.2.2.1 t.2.2.2.1 t.2.2.2.2.2.1 d Q nx ny ((pc, .invokestatic i, len, aux, cst, mask) :: tl) ls st cs x) : zq_x g rep d k pc ls st cs x Q := by
  obtain ⟨hdec, hlk, hn⟩ := zq_head C hg
  simp only [zq_lk, Bool.and_eq_true, decide_eq_true_eq] at hlk
  obtain rfl : len = 3 := Nat.eq_of_beq_eq_true hlk.2
  replace h : (match (generalizing := false) zq_le cs t.2.2.2.2.2.1 with
    | false => False
    | true => match (generalizing := false) zq_ix aux 0 with
      | 2 => match (generalizing := false) st with
        | .int y :: .int z :: rest => match (generalizing := false) d, Nat.ble (zq_cat rest) 8 with
          | _ + 1, true => nx tl ls (.int (if z < y then y else z) :: rest) cs x
          | _, _ => False
        | _ => False
      | 3 => match (generalizing := false) st with
        | .int y :: .int z :: rest => match (generalizing := false) d, Nat.ble (zq_cat rest) 8 with
          | _ + 1, true => nx tl ls (.int (if y < z then y else z) :: rest) cs x
          | _, _ => False
        | _ => False
      | 4 => match (generalizing := false) st with
        | .int z :: rest => match (generalizing := false) d, Nat.ble (zq_cat rest) 8 with
          | _ + 1, true => nx tl ls (.int (if 0 ≤ z then z else 0 - z) :: rest) cs x
          | _, _ => False
        | _ => False
      | 5 => match (generalizing := false) st with
        | .int n :: .int dp :: .ref a :: .int sp :: .ref b :: rest => match (generalizing := false) zq_al g O x b, Nat.ble 1000 a, O.2.2.1 x a, d, Nat.ble (zq_cat rest) 8 with
          | some (n0, f), false, some (false, n1, e), _ + 1, true => (¬ sp < 0 ∧ ¬ dp < 0 ∧ ¬ n < 0 ∧ sp.toNatClampNeg + n.toNatClampNeg ≤ n0 ∧ dp.toNatClampNeg + n.toNatClampNeg ≤ n1) ∧ nx tl ls rest cs (O.2.2.2.1 x a (va_cpy f e sp.toNatClampNeg dp.toNatClampNeg n.toNatClampNeg))
          | _, _, _, _, _ => False
        | _ => False
      | _ => match (generalizing := false) zq_sp (zq_ix aux 2) [] st with
        | some (as, rest) => zq_cl g rep d (zq_ix aux 1) (zq_ix aux 3) as rest x (zq_af (fun st x => ny (pc + 3) ls st cs x) rest (zq_ix aux 6))
        | none => False) := h
  split at h
  · exact h.elim
  · next hle =>
    obtain ⟨le1, le2⟩ := zq_le_of hle
    have hk1 := hlk.1
    split at h
    · next hkind =>
      rw [hkind] at hk1
      split at h
      · next y z rest =>
        split at h
        · next d' h3 =>
          replace h3 := Nat.le_of_ble_eq_true h3
          intro t' ht' p e R s m args below meth c Z ha hr H locs la hw hl
          obtain rfl : t' = t := Option.some.inj (ht'.symm.trans C.2.1)
          obtain ⟨hR, hx, hb, hrt, hml, hown, hts, hlk0, hin0, hK, hro, hB, had⟩ := id ha
          obtain ⟨hlen, hcs, hP, hS⟩ := id hw
          have hD := zq_wD had hlen
          exact va_mmax hx hb (hml.trans hl.1.symm) hown (hts _ (zq_is_in hk1)) (hts _ zq_mx1) (hts _ zq_mh) (hts _ zq_mx2) (by omega) (by rw [zq_cat_map]; omega) (Nat.le_trans le1 hR.2.2.1) (Nat.le_trans le2 hR.2.2.2) hdec (hn _ _ _ _ h t' ht' p e R s m args below meth c Z ha hr H locs la hw hl)
        · exact h.elim
      · exact h.elim
    · next hkind =>
      rw [hkind] at hk1
      split at h
      · next y z rest =>
        split at h
        · next d' h3 =>
          replace h3 := Nat.le_of_ble_eq_true h3
          intro t' ht' p e R s m args below meth c Z ha hr H locs la hw hl
          obtain rfl : t' = t := Option.some.inj (ht'.symm.trans C.2.1)
          obtain ⟨hR, hx, hb, hrt, hml, hown, hts, hlk0, hin0, hK, hro, hB, had⟩ := id ha
          obtain ⟨hlen, hcs, hP, hS⟩ := id hw
          have hD := zq_wD had hlen
          exact va_mmin hx hb (hml.trans hl.1.symm) hown (hts _ (zq_is_in hk1)) (hts _ zq_mn1) (hts _ zq_mh) (hts _ zq_mn2) (by omega) (by rw [zq_cat_map]; omega) (Nat.le_trans le1 hR.2.2.1) (Nat.le_trans le2 hR.2.2.2) hdec (hn _ _ _ _ h t' ht' p e R s m args below meth c Z ha hr H locs la hw hl)
        · exact h.elim
      · exact h.elim
    · next hkind =>
      rw [hkind] at hk1
      split at h
      · next z rest =>
        split at h
        · next d' h3 =>
          replace h3 := Nat.le_of_ble_eq_true h3
          intro t' ht' p e R s m args below meth c Z ha hr H locs la hw hl
          obtain rfl : t' = t := Option.some.inj (ht'.symm.trans C.2.1)
          obtain ⟨hR, hx, hb, hrt, hml, hown, hts, hlk0, hin0, hK, hro, hB, had⟩ := id ha
          obtain ⟨hlen, hcs, hP, hS⟩ := id hw
          have hD := zq_wD had hlen
          exact va_mabs hx hb (hml.trans hl.1.symm) hown (hts _ (zq_is_in hk1)) (hts _ zq_ma1) (hts _ zq_mh) (hts _ zq_ma2) (by omega) (by rw [zq_cat_map]; omega) (Nat.le_trans le1 hR.2.2.1) (Nat.le_trans le2 hR.2.2.2) hdec (hn _ _ _ _ h t' ht' p e R s m args below meth c Z ha hr H locs la hw hl)
        · exact h.elim
      · exact h.elim
    · next hkind =>
      rw [hkind] at hk1
      split at h
      · next n dp a sp b rest =>
        split at h
        · next n0 f n1 fe d' hal _ hO h3 =>
          replace h3 := Nat.le_of_ble_eq_true h3
          obtain ⟨⟨g1, g2, g3, g4, g5⟩, h⟩ := h
          intro t' ht' p e R s m args below meth c Z ha hr H locs la hw hl
          obtain rfl : t' = t := Option.some.inj (ht'.symm.trans C.2.1)
          obtain ⟨hR, hx, hb, hrt, hml, hown, hts, hlk0, hin0, hK, hro, hB, had⟩ := id ha
          obtain ⟨hlen, hcs, hP, hS⟩ := id hw
          have hD := zq_wD had hlen
          have fin : ∀ (H1 : Heap) (locs1 : List Loc), va_P (zq_D g) vwCl ((zq_w g 0 (rep x)).set a (zq_ad g a, .inl (zq_cI g, n1, .inl (va_cpy f fe sp.toNatClampNeg dp.toNatClampNeg n.toNatClampNeg)))) H1 → va_D (zq_F g) ((zq_w g 0 (rep x)).set a (zq_ad g a, .inl (zq_cI g, n1, .inl (va_cpy f fe sp.toNatClampNeg dp.toNatClampNeg n.toNatClampNeg)))) → va_S (zq_F g) s.heap H1 locs1 → W p (zq_l g) e R s m args below meth c H1 locs1 cs.1 cs.2 Z (F0 m (pc + 3) la (rest.map (zq_c g))) := by
            intro H1 locs1 p1 p2 p3
            refine hn _ _ _ _ h t' ht' p e R s m args below meth c Z ha hr H1 locs1 la ⟨?_, ?_, ?_, p3⟩ hl
            · rw [C.1.2.2.2.1 x a _ _ hO, List.length_set]; exact hlen
            · rw [C.1.2.2.2.1 x a _ _ hO, List.length_set]; exact hcs
            · rw [C.1.2.2.2.1 x a _ _ hO, ← zq_w_set, Nat.zero_add]
              exact p1
          have hloc : ((rest.map (zq_c g)).map fun v => v.category).sum + (nativeFrameWords "java/lang/System" "arraycopy" 5 + 11) ≤ R.locals := by
            rw [zq_cat_map]
            have : nativeFrameWords "java/lang/System" "arraycopy" 5 ≤ 20 := by decide +kernel
            omega
          rcases zq_al_of hal with ⟨a1, a2, a3, a4⟩ | hO2
          · obtain ⟨r1, r2, r3⟩ := zq_ro_at hro hB a1 a2
            rw [← a3, ← a4] at r1
            exact va_copyx (D := zq_D g) (cl := vwCl) (tys := zq_ty g) hx hb (hml.trans hl.1.symm) hown (hts _ (zq_is_in hk1)) (hts _ zq_ac1) (hts _ zq_ac2) (hts _ zq_ac3) hK hP hD hS r1 r2 r3 a 0 (zq_w_at (C.1.2.2.1 x a _ hO)) rfl g1 g2 g3 g4 g5 (by omega) hloc hdec fin
          · exact va_copyi (D := zq_D g) (cl := vwCl) (tys := zq_ty g) hx hb (hml.trans hl.1.symm) hown (hts _ (zq_is_in hk1)) (hts _ zq_ac1) (hts _ zq_ac2) (hts _ zq_ac3) hK hP hD hS b a 0 0 (zq_w_at (C.1.2.2.1 x b _ hO2)) (zq_w_at (C.1.2.2.1 x a _ hO)) rfl rfl rfl g1 g2 g3 g4 g5 (fun _ _ => rfl) (by omega) hloc hdec fin
        · exact h.elim
      · exact h.elim
    · next q2 q3 q4 q5 =>
      replace hk1 : zq_sk t aux i = true := by
        revert hk1
        split
        · next hz => exact absurd hz q2
        · next hz => exact absurd hz q3
        · next hz => exact absurd hz q4
        · next hz => exact absurd hz q5
        · exact fun q => q
      unfold zq_sk at hk1
      split at hk1
      · next u hu =>
        simp only [Bool.and_eq_true, decide_eq_true_eq] at hk1
        obtain ⟨k1, k3, ⟨k4, k5⟩, k6⟩ := hk1
        obtain ⟨hc1, hc2, hc3, hc4, hc5⟩ := zq_ck_of k1
        split at h
        · next as rest hsp =>
          obtain ⟨hst, hal⟩ := zq_sp_spec _ _ _ _ _ hsp
          replace hst : as.reverse ++ rest = st := hst
          subst hst
          have hm := zq_mall _ u hu hc5
          obtain ⟨d', hd, hfl, hcat, K⟩ := zq_cl_of h
          rw [hc2] at hfl K
          obtain ⟨m1, m2, m3, m4, m5, m6⟩ := zq_mc_of hm
          intro t' ht' p e R s m args below meth c Z ha hr H locs la hw hl
          obtain rfl : t' = t := Option.some.inj (ht'.symm.trans C.2.1)
          obtain ⟨hR, hx, hb, hrt, hml, hown, hts, hlk0, hin0, hK, hro, hB, had⟩ := id ha
          obtain ⟨hlen, hcs, hP, hS⟩ := id hw
          have hD := zq_wD had hlen
          refine zq_sz (fun hz => ?_)
          have hz3 : u.2.2.2.2.2.1.1 = 0 := hc3.symm.trans (Nat.eq_of_beq_eq_true k4)
          have hz4 : u.2.2.2.2.2.1.2 = 0 := hc4.symm.trans (Nat.eq_of_beq_eq_true k5)
          have hmet := zq_met hu hm hfl K
          split at k6
          · next hkd =>
            refine zq_back (cs := cs) (mc := u.2.2.2.2.2.1.1) (ms := u.2.2.2.2.2.1.2) (rest := rest.map (zq_c g)) (va_runS (n := zq_ix aux 2) (bytes := u.2.1) (maxL := u.2.2.1) (ret := u.2.2.2.1) (As := as.map (zq_c g)) ⟨hx, hb, hml, hown, hts⟩ hmet ⟨callB_of _ hts (zq_good hm) rfl rfl rfl (hts _ m2) (hts _ (zq_is_in k6)) ⟨m4, m5, hc1⟩ ⟨by show d' + 1 ≤ _; omega, by show 8 + (u.2.2.1 + 11) + 64 * d' ≤ _; omega⟩, hts _ (zq_is_in k3)⟩ ⟨zq_blind g _ _, fun U hU hW => zq_pre as hw hz hK hro hB had hU hW⟩ rfl (by rw [List.length_map]; simpa using hal) hl.1 (by simp) (lv_room (by rw [zq_cat_map]; exact hcat)) hdec ⟨by omega, by omega⟩) hw hB had (fun r h1 H1 locs1 hQ hw1 => ?_)
            obtain ⟨x', rfl, hf⟩ := hQ
            rw [hz3, hz4] at hw1 ⊢
            exact zq_cont C.2.2.2.2 ht' ha hr hl hf hw1
          · next hkd =>
            obtain ⟨q, hq, e2⟩ := Option.map_eq_some_iff.mp (of_decide_eq_true k6)
            have hN := hro.2.2.1 q (List.mem_of_getElem? hq)
            simp only [Prod.mk.injEq] at e2
            obtain ⟨e3, e4, e5⟩ := e2
            rw [e3, e4, e5] at hN
            refine zq_back (cs := cs) (mc := u.2.2.2.2.2.1.1) (ms := u.2.2.2.2.2.1.2) (rest := rest.map (zq_c g)) (va_runSN (host := q.2.2.2) (n := zq_ix aux 2) (bytes := u.2.1) (maxL := u.2.2.1) (ret := u.2.2.2.1) (As := as.map (zq_c g)) ⟨hx, hb, hml, hown, hts⟩ hmet ⟨va_cnB _ hts (zq_good hm) rfl rfl rfl hN (hts _ m2) ⟨m4, m5, hc1⟩ ⟨by show d' + 1 ≤ _; omega, by show 8 + (u.2.2.1 + 11) + 64 * d' ≤ _; omega⟩, hts _ (zq_is_in k3), trivial⟩ ⟨zq_blind g _ _, fun U hU hW => zq_pre as hw hz hK hro hB had hU hW⟩ rfl (by rw [List.length_map]; simpa using hal) hl.1 (by simp) (lv_room (by rw [zq_cat_map]; exact hcat)) hdec ⟨by omega, by omega⟩) hw hB had (fun r h1 H1 locs1 hQ hw1 => ?_)
            obtain ⟨x', rfl, hf⟩ := hQ
            rw [hz3, hz4] at hw1 ⊢
            exact zq_cont C.2.2.2.2 ht' ha hr hl hf hw1
          · cases k6
        · exact h.elim
      · cases hk1
