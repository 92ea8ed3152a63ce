theorem zq_ek_dec {t : zq_T} {e : zq_I} (h : zq_ek t e = true) : decode t.2.1 e.1 = .ok (e.2.1, e.2.2.1) ∧ zq_lk t e.1 e.2.1 e.2.2.1 e.2.2.2.1 e.2.2.2.2.1 = true := by
  simp only [zq_ek, Bool.and_eq_true] at h
  refine ⟨?_, h.2⟩
  have h1 := h.1
  split at h1
  · next r hr => rw [hr, of_decide_eq_true h1]
  · cases h1
/-! a tail of a method's list -/
def zq_pc : List zq_I → Nat
  | [] => 0
  | e :: _ => e.1
theorem zq_ok.tail {t : zq_T} {e : zq_I} {tl : List zq_I} (h : zq_ok t (e :: tl)) : zq_ok t tl ∧ (tl ≠ [] → zq_pc tl = e.1 + e.2.2.1) := by
  obtain ⟨h1, h2⟩ := h
  cases tl with
  | nil => exact ⟨⟨fun _ h => by simp at h, rfl⟩, fun h => absurd rfl h⟩
  | cons e' r =>
    have h2 : (Nat.beq e'.1 (e.1 + e.2.2.1) && zq_ch (e' :: r)) = true := h2
    rw [Bool.and_eq_true] at h2
    exact ⟨⟨fun x hx => h1 x (List.mem_cons_of_mem _ hx), h2.2⟩, fun _ => Nat.eq_of_beq_eq_true h2.1⟩
theorem zq_ok.sf {t : zq_T} : ∀ {tl : List zq_I} (pc : Nat), zq_ok t tl → zq_ok t (zq_sf tl pc) ∧ (zq_sf tl pc ≠ [] → zq_pc (zq_sf tl pc) = pc)
  | [], pc, h => ⟨h, fun q => absurd rfl q⟩
  | e :: r, pc, h => by
    unfold zq_sf
    cases hb : Nat.beq e.1 pc with
    | true => exact ⟨h, fun _ => Nat.eq_of_beq_eq_true hb⟩
    | false => exact zq_ok.sf pc h.tail.1
/-! arguments -/
theorem zq_c_cat (g : zq_G) (v : Value) : (zq_c g v).category = v.category := by cases v <;> rfl
theorem zq_cat_map (g : zq_G) (st : List Value) : ((st.map (zq_c g)).map fun v => v.category).sum = zq_cat st := by
  unfold zq_cat
  rw [List.map_map]
  congr 1
  apply List.map_congr_left
  intro v _
  exact zq_c_cat g v
theorem zq_fl_cons (v : Value) (r : List Value) : zq_fl (v :: r) = (if v.category = 2 then [v, .null] else [v]) ++ zq_fl r := by
  cases v <;> rfl
theorem zq_fl_len (g : zq_G) : ∀ as : List Value, (lg_sl (as.map (zq_c g))).length = (zq_fl as).length
  | [] => rfl
  | v :: r => by
    have ih := zq_fl_len g r
    rw [zq_fl_cons]
    simp only [lg_sl, List.map_cons, List.flatMap_cons, List.length_append, zq_c_cat] at ih ⊢
    rw [ih]
    split <;> rfl
theorem zq_lv_pd (g : zq_G) : ∀ (n : Nat) (l : List Value) (i : Nat), zq_lv g i (zq_pd n l) = zq_lv g i l
  | 0, l, i => rfl
  | n + 1, [], i => by
    show (if Value.null = Value.null then zq_lv g (i + 1) (zq_pd n []) else _) = []
    rw [if_pos rfl, zq_lv_pd g n [] (i + 1)]
    rfl
  | n + 1, v :: r, i => by
    rw [zq_pd, zq_lv, zq_lv, zq_lv_pd g n r (i + 1)]
theorem zq_lv_args (g : zq_G) : ∀ (as : List Value) (i : Nat) (q : Nat × Value), q ∈ zq_lv g i (zq_fl as) → q ∈ lv_args i (as.map (zq_c g))
  | [], i, q, h => by simp [zq_fl, zq_lv] at h
  | v :: r, i, q, h => by
    rw [zq_fl_cons] at h
    rw [List.map_cons, lv_args, zq_c_cat]
    by_cases hc : v.category = 2
    · rw [if_pos hc] at h ⊢
      have hv : v ≠ .null := fun e => by rw [e] at hc; cases hc
      rw [List.cons_append, zq_lv, if_neg hv, List.cons_append, List.nil_append, zq_lv, if_pos rfl] at h
      rcases List.mem_cons.mp h with h | h
      · rw [h]; exact List.mem_cons_self
      · exact List.mem_cons_of_mem _ (zq_lv_args g r (i + 1 + 1) q h)
    · rw [if_neg hc] at h ⊢
      rw [List.cons_append, List.nil_append, zq_lv] at h
      by_cases hv : v = .null
      · rw [if_pos hv] at h
        exact List.mem_cons_of_mem _ (zq_lv_args g r (i + 1) q h)
      · rw [if_neg hv] at h
        rcases List.mem_cons.mp h with h | h
        · rw [h]; exact List.mem_cons_self
        · exact List.mem_cons_of_mem _ (zq_lv_args g r (i + 1) q h)
theorem zq_sp_spec : ∀ (n : Nat) (acc st as rest : List Value), zq_sp n acc st = some (as, rest) → as.reverse ++ rest = acc.reverse ++ st ∧ as.length = n + acc.length
  | 0, acc, st, as, rest, h => by
    have h : some (acc, st) = some (as, rest) := h
    cases h
    exact ⟨rfl, by omega⟩
  | n + 1, acc, [], as, rest, h => by cases h
  | n + 1, acc, v :: st, as, rest, h => by
    obtain ⟨h1, h2⟩ := zq_sp_spec n (v :: acc) st as rest h
    exact ⟨by rw [h1]; simp, by rw [h2]; simp; omega⟩
theorem zq_mk_get : ∀ (b : List Bool) (ls : List Value) (j : Nat) (v : Value), (zq_mk b ls)[j]? = some v → v ≠ .null → ls[j]? = some v
  | [], ls, j, v, h, _ => by simp [zq_mk] at h
  | true :: b, [], j, v, h, _ => by simp [zq_mk] at h
  | false :: b, [], j, v, h, _ => by simp [zq_mk] at h
  | true :: b, w :: ls, 0, v, h, _ => by simpa [zq_mk] using h
  | false :: b, w :: ls, 0, v, h, hv => by
    have : Value.null = v := by simpa [zq_mk] using h
    exact absurd this.symm hv
  | true :: b, w :: ls, j + 1, v, h, hv => by simpa using zq_mk_get b ls j v (by simpa [zq_mk] using h) hv
  | false :: b, w :: ls, j + 1, v, h, hv => by simpa using zq_mk_get b ls j v (by simpa [zq_mk] using h) hv
/-- fewer locals -/
theorem zq_lv_le {g : zq_G} {la : Array Slot} {n : Nat} {l : List (Nat × Value)} {ls : List Value} (h : lv_has la n l) (hs : ∀ (j : Nat) (v : Value), ls[j]? = some v → v ≠ .null → (j, zq_c g v) ∈ l) : lv_has la n (zq_lv g 0 ls) := by
  refine ⟨h.1, h.2.1, fun q hq => ?_⟩
  obtain ⟨j, v, h1, h2, h3⟩ := (zq_lv_mem g ls 0 q).mp hq
  rw [h3, Nat.zero_add]
  exact h.2.2 _ (hs j v h1 h2)
theorem zq_lv_of {g : zq_G} {ls : List Value} {j : Nat} {v : Value} (h : ls[j]? = some v) (hv : v ≠ .null) : (j, zq_c g v) ∈ zq_lv g 0 ls := (zq_lv_mem g ls 0 _).mpr ⟨j, v, h, hv, by rw [Nat.zero_add]⟩
theorem zq_g.mask {g : zq_G} {d k pc : Nat} {b : List Bool} {ls st : List Value} {cs : Nat × Nat} {h : List zq_E} {Q : Option Value → List zq_E → Prop} (hg : zq_g g d k pc (zq_mk b ls) st cs h Q) : zq_g g d k pc ls st cs h Q :=
  fun t ht p e R s m args below meth c Z ha hr H locs la hw hl => hg t ht p e R s m args below meth c Z ha hr H locs la hw (zq_lv_le hl (fun j v h1 h2 => zq_lv_of (zq_mk_get b ls j v h1 h2) h2))
/-! a method's contract out of its walk -/
def zq_ws (t : zq_T) : List Jvm.Cond := Jvm.Cond.code t.1 t.2.1 t.2.2.1 t.2.2.2.1 :: zq_tb
def zq_rm (d : Nat) (t : zq_T) : Room := { frames := d, cells := t.2.2.2.2.2.1.1, slots := t.2.2.2.2.2.1.2, locals := 64 * d }
def zq_Pc (g : zq_G) (as : List Value) (h : List zq_E) : Array Value → State → Prop := va_Pc (as.map (zq_c g)) (fun U => h.length ≤ 999 ∧ U.heap.size ≤ zq_B g + h.length ∧ va_P (zq_D g) vwCl (zq_w g 0 h) U.heap ∧ va_K (zq_D g) vwCl (zq_ty g) U ∧ zq_ro g U U.heap ∧ zq_B g ≤ U.heap.size ∧ ∀ k, k < 1000 → zq_ad g k = zq_B g + k)
def zq_Qc (g : zq_G) (mc : Nat) (Q : Option Value → List zq_E → Prop) : Array Value → State → Outcome → State → Prop := fun _ st oc t =>
  (∃ (r : Option Value) (h : List zq_E), oc = .returned (r.map (zq_c g)) ∧ Q r h ∧ h.length ≤ 999 ∧ st.heap.size + mc ≤ zq_B g + h.length ∧ va_P (zq_D g) vwCl (zq_w g 0 h) t.heap) ∧ va_F (zq_F g) st t
theorem zq_ro.same {g : zq_G} {u U : State} {H : Heap} (hv : U.vm = u.vm) (h : zq_ro g u H) : zq_ro g U H := by
  obtain ⟨h1, h2, h3, h4, h5, h6, h7, h8⟩ := h
  have ha : u.vm.Alike U.vm := by rw [hv]; exact Vm.Alike.refl u.vm
  exact ⟨fun j hj => ⟨(h1 j hj).1.moved ha, (h1 j hj).2⟩, fun j hj => (h2 j hj).moved ha, fun q hq => (h3 q hq).same rfl hv.symm, fun q hq => (h4 q hq).same rfl hv.symm, h5.moved ha, fun i q hq => (h6 i q hq).same hv, h7.moved ha, h8.moved ha⟩
theorem zq_blind (g : zq_G) (as : List Value) (h : List zq_E) : FrameBlind (zq_Pc g as h) := by
  intro a U f mk q
  obtain ⟨q0, q1, q2, q3, q4, q5, q6, q7⟩ := q
  exact ⟨q0, q1, q2, q3, va_K.moved (u := U) (U := U.calling f mk a) (Vm.Alike.refl U.vm) q4, zq_ro.same (u := U) (U := U.calling f mk a) rfl q5, q6, q7⟩
theorem zq_mc_of {u : zq_T} (h : zq_mc u = true) : Jvm.Cond.code u.1 u.2.1 u.2.2.1 u.2.2.2.1 ∈ zq_tb ∧ Jvm.Cond.initialized u.1.cls ∈ zq_tb ∧ plainName u.1.cls = true ∧ u.1.cls ≠ "java/lang/invoke/MethodHandle" ∧ u.1.cls ≠ "java/lang/invoke/VarHandle" ∧ u.2.2.1 ≤ 45 := by
  simp only [zq_mc, Bool.and_eq_true, decide_eq_true_eq] at h
  exact ⟨zq_is_in h.1, zq_is_in h.2.1, h.2.2.1, h.2.2.2.1, h.2.2.2.2.1, Nat.le_of_ble_eq_true h.2.2.2.2.2⟩
theorem zq_met {g : zq_G} {d k : Nat} {as : List Value} {h : List zq_E} {Q : Option Value → List zq_E → Prop} {t : zq_T} (ht : zq_mt[k]? = some t) (hm : zq_mc t = true) (hfl : (zq_fl as).length ≤ t.2.2.1)
    (hG : zq_g g d k 0 (zq_pd t.2.2.1 (zq_fl as)) [] (0, 0) h Q) : Met (zq_l g) t.1 (zq_ws t) (zq_rm d t) (zq_Pc g as h) (zq_Qc g t.2.2.2.2.2.1.1 Q) t.2.2.2.2.2.1.1 t.2.2.2.2.2.1.2 (zq_F g) := by
  obtain ⟨m1, m2, m3, -, -, -⟩ := zq_mc_of hm
  refine Met.ofW (cc := t.2.1) (maxL := t.2.2.1) (ret := t.2.2.2.1) m3 rfl ?_
  intro p e s m args below meth c s₁ B hml hv
  obtain ⟨rfl, hlen, hsz, hP, hK, hro, hBs, had⟩ := hv
  have hts0 := atoms_spec (ws := zq_ws t) B.pre
  have hts : ∀ w ∈ zq_tb, w.before _ s = true := fun w hw => hts0 w (List.mem_cons_of_mem _ hw)
  have hl := lv_entry (as.map (zq_c g)) (n := t.2.2.1) (by rw [zq_fl_len]; exact hfl)
  rw [lg_entry_eq]
  generalize (lg_sl (as.map (zq_c g)) ++ List.replicate (t.2.2.1 - (lg_sl (as.map (zq_c g))).length) Slot.unset).toArray = la at hl ⊢
  have ha : zq_act g t d p (zq_rm d t) s m (as.map (zq_c g)).toArray meth c := ⟨⟨Nat.le_refl _, Nat.le_refl _, Nat.le_refl _, Nat.le_refl _⟩, B.exec, B.bytes, B.returns, hml, findClass_of_methodNamed B.named, hts, B.notSynchronized, fun q => (name_of_methodNamed B.named B.method).1.trans q, hK, hro, hBs, had⟩
  refine hG t ht p e (zq_rm d t) s m _ below meth c (MQ below (zq_Qc g t.2.2.2.2.2.1.1 Q) (as.map (zq_c g)).toArray s t.2.2.2.2.2.1.1 t.2.2.2.2.2.1.2 (zq_F g)) ha ?_ s.heap [] la ⟨hlen, hsz, hP, va_S.rf⟩ ?_
  · intro r h' H locs la' pc cs hQ hk hw h1 h2
    obtain ⟨w1, w2, w3, w4⟩ := hw
    refine W.widen (Nat.le_of_eq h1) h2 ?_
    have fin : ∀ t' : State, t'.heap = H → zq_Qc g t.2.2.2.2.2.1.1 Q (as.map (zq_c g)).toArray s (.returned (r.map (zq_c g))) t' := fun t' e => ⟨⟨r, h', rfl, hQ, w1, by rw [← h1]; exact w2, by rw [e]; exact w3⟩, w4.F e⟩
    match r, hk, fin with
    | none, hk, fin => exact W.vret B.exec B.bytes (B.returns.trans hk.2) (fun t' e _ => fin t' e) w4.2.2 hk.1 B.notSynchronized
    | some (.int v), hk, fin =>
      obtain ⟨k1, ty, k2, k3⟩ := hk
      exact W.zret B.exec B.bytes (B.returns.trans k2) k3 (fun t' e _ => fin t' e) w4.2.2 k1 B.notSynchronized
    | some (.long v), hk, fin => exact W.lret B.exec B.bytes (B.returns.trans hk.2) (fun t' e _ => fin t' e) w4.2.2 hk.1 B.notSynchronized
    | some (.float v), hk, _ => exact hk.elim
    | some (.double v), hk, _ => exact hk.elim
    | some .null, hk, _ => exact hk.elim
    | some (.ref v), hk, _ => exact hk.elim
    | some (.retAddr v), hk, _ => exact hk.elim
  · rw [zq_lv_pd]
    exact ⟨hl.1, hl.2.1, fun q hq => hl.2.2 q (zq_lv_args g as 0 q hq)⟩
theorem zq_low {g : zq_G} {h : List zq_E} {H : Heap} (hP : va_P (zq_D g) vwCl (zq_w g 0 h) H) (hB : zq_B g ≤ H.size) (ha : ∀ k, k < 1000 → zq_ad g k = zq_B g + k) (hl : h.length ≤ 999) : zq_B g + h.length ≤ H.size := by
  rcases Nat.eq_zero_or_pos h.length with e | e
  · omega
  · have hk : h[h.length - 1]? = some (h[h.length - 1]'(by omega)) := List.getElem?_eq_getElem (by omega)
    have h1 := (hP (h.length - 1) _ (zq_w_at hk)).lt
    have h2 := ha (h.length - 1) (by omega)
    have h3 : zq_ad g (h.length - 1) < H.size := h1
    omega
/-- the machine counts its cells -/
theorem zq_sz {p : Program} {l : Launch} {e : Env} {R : Room} {s : State} {m : MethodId} {args : Array Value} {below : List Frame} {meth : Method} {c : Code} {H : Heap} {locs : List Loc} {cells slots : Nat} {Z : State → Prop} {f : JFrame} (k : H.size ≤ s.heap.size + cells → W p l e R s m args below meth c H locs cells slots Z f) : W p l e R s m args below meth c H locs cells slots Z f :=
  fun T hT X => k (by rw [← hT]; exact X.heapSize) T hT X
/-- behind a call -/
theorem zq_back {g : zq_G} {p : Program} {e : Env} {R : Room} {s : State} {m : MethodId} {args : Array Value} {below : List Frame} {meth : Method} {c : Code} {H : Heap} {locs : List Loc} {cs : Nat × Nat} {mc ms pc : Nat} {la : Array Slot} {st0 rest : List Value} {Q : Option Value → List zq_E → Prop} {a : Array Value} {Z : State → Prop} {h0 : List zq_E}
    (hr : va_Run p (zq_l g) e R s m args below meth c H locs cs.1 cs.2 mc ms (F0 m pc la st0) rest (zq_Qc g mc Q a) (zq_F g)) (hw : zq_wd g s cs h0 H locs) (hB : zq_B g ≤ s.heap.size) (ha : ∀ k, k < 1000 → zq_ad g k = zq_B g + k)
    (kk : ∀ (r : Option Value) (h : List zq_E) (H1 : Heap) (locs1 : List Loc), Q r h → zq_wd g s (cs.1 + mc, cs.2 + ms) h H1 locs1 → W p (zq_l g) e R s m args below meth c H1 locs1 (cs.1 + mc) (cs.2 + ms) Z (F0 m (pc + 3) la ((r.map (zq_c g)).toList ++ rest))) :
    W p (zq_l g) e R s m args below meth c H locs cs.1 cs.2 Z (F0 m pc la st0) := by
  intro T hT X
  obtain ⟨v, st₀, t, T', L, h0', X', hL, e1, e2, ⟨⟨r, h, hv, hq, hl, hz, hp⟩, hfz, hfk⟩, st⟩ := hr T hT X
  cases hv
  rw [h0'] at hfz hfk hz
  obtain ⟨hl0, hc0, hP, hS⟩ := hw
  have low := zq_low hP (Nat.le_trans hB hS.1) ha hl0
  obtain ⟨t2, a1, b1⟩ := kk r h T'.heap (locs ++ L) hq ⟨hl, by show s.heap.size + (cs.1 + mc) ≤ _; omega, by rw [e1]; exact hp, Nat.le_trans hS.1 (by rw [e1]; exact hfz), fun q h1 h2 => by rw [e1, hfk q (Nat.lt_of_lt_of_le h1 hS.1) h2]; exact hS.2.1 q h1 h2, fun q hq => by
      rcases List.mem_append.mp hq with h | h
      · exact hS.2.2 q h
      · exact hL q h⟩ T' rfl X'
  exact ⟨t2, st t2 a1, b1⟩
