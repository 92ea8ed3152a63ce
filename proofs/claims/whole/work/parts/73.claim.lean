/-! THE CLAIM OUT OF ONE WALK OF THE LAW'S BODY. Your part is whole_start (and what it stands on); all else here is the same for every law, but numbers. -/
def R_law : String := "WalkingStonesLaw"
def lw_P (b : Addr) (xs : List Int32) (args : Array Value) (s : State) : Prop := args = #[.ref b] ∧ s.IntsAt b xs ∧ xs.length ≤ 384 ∧ (Jvm.Cond.and given_1 narrow_1).before args s = true
def lw_Q (_ : Array Value) (s : State) (o : Outcome) (t : State) : Prop := o = .returned (some (.int 1)) ∧ Framed s o t [] 600000 7302249
def lw_Z (below : List Frame) (a : Array Value) (s : State) : State → Prop := fun t => ∃ o, t.status = .running ∧ Ended t below o ∧ lw_Q a s o t
/-- the law's own end, with 1 on the stack, nothing written that was there before, its room as the claim has it -/
theorem lw_ret {p : Program} {l : Launch} {e : Env} {s : State} {m : MethodId} {below : List Frame} {meth : Method} {c : Code} {b : Nat} (hx : p.tables.exec = Jvm.exec) (hb : c.code = code) (hr : meth.sig.returnType = ret) (hlocks : meth.locks = false) {pc : Nat} {H : Heap} {ls : Array Slot} (hdg : decode code pc = .ok (.ireturn, 1)) : W p l e room_1 s m #[Value.ref b] below meth c H [] 600000 7302249 (lw_Z below #[Value.ref b] s) (F0 m pc ls [.int 1]) := by
  intro T hT X
  obtain ⟨fs, hret, hrun, hended, hW, hframe⟩ := X.leave (v := some (.int 1)) (hlocks := hlocks) (fun h => by rw [hr] at h; cases h)
  have hmeth' : T.vm.method? m = some meth := X.method'
  refine ⟨T.setFrames fs, ?_, .returned (some (.int 1)), hrun, hended, rfl, ⟨_, rfl⟩, hW, hframe⟩
  jvm_step X.here [X.here.top, hx, hb, hdg, hmeth', hr, ret, narrow_b1]
  (try refine ⟨rfl, ?_⟩); (try refine ⟨rfl, ?_⟩)
  first | (intro acts; rw [hret _ acts rfl rfl rfl]) | rw [hret _ _ rfl rfl rfl]
  exact Steps.refl _
/-- what holds at the law's entry: the machine, the code, the tables' words (any of lw_tbl by 'hts w (by decide +kernel)'), the script of L ints xs at the cell b, what the Statement gives of the start (any of its parts by flat_of_before) -/
def lw_At (p : Program) (s : State) (m : MethodId) (meth : Method) (c : Code) (b L : Nat) (xs : Nat → Int32) : Prop :=
  p.tables.exec = Jvm.exec ∧ c.code = code ∧ meth.sig.returnType = ret ∧ c.maxLocals = 4 ∧ s.vm.findClass R_law = some m.cls ∧ (∀ w ∈ lw_tbl, w.before #[Value.ref b] s = true) ∧ va_X b L xs s s.heap ∧ b < s.heap.size ∧ meth.locks = false ∧ (Jvm.Cond.and given_1 narrow_1).before #[Value.ref b] s = true

theorem zz_ro {s : State} {b L : Nat} {xs : Nat → Int32} (hts : ∀ w ∈ lw_tbl, w.before #[Value.ref b] s = true) (hX : va_X b L xs s s.heap) (hbl : b < s.heap.size) (hgv : (Jvm.Cond.and given_1 narrow_1).before #[Value.ref b] s = true) : ∃ ad av : Nat → Nat, (∀ k, k < 1000 → ad k = s.heap.size + k) ∧ ad 1000 = b ∧ ∀ (l : Launch) (D : va_G) (cI cZ : ClassId), zq_ro (l, D, cI, cZ, ad, s.heap.size, L, xs, av) s s.heap := by
  have hs : ∀ w, zz_in w = true → w.before #[Value.ref b] s = true := fun w hw => flat_of_before _ hgv w (of_decide_eq_true hw)
  have ht : ∀ w, zz_iw w = true → w.before #[Value.ref b] s = true := fun w hw => hts w (of_decide_eq_true hw)
  have hA : ∀ a : Nat, a < s.heap.size → ¬ (fun q : Nat => s.heap.size ≤ q) a := fun a h => Nat.not_le.mpr h
  have r0 : ∀ j : Nat, ∃ t : Nat, j < 5 → (zz_st j).eval #[Value.ref b] s none [] s = some (.ref t) ∧ va_X t (zq_sv.getD j []).length (fun i => (zq_sv.getD j []).getD i 0) s s.heap ∧ t < s.heap.size := by
    intro j
    by_cases hj : j < 5
    · have h1 := zz_rg zz_s1 j hj
      have h2 := zz_rg zz_s2 j hj
      have h3 := zz_rg zz_w1 j hj
      rw [Bool.and_eq_true] at h1 h3
      have h4 : (zq_sv.getD j []).length < 100 := Nat.le_of_ble_eq_true h3.2
      obtain ⟨t, q⟩ := zz_row (f := fun i => (zq_sv.getD j []).getD i 0) (by omega) (hs _ h1.1) (hs _ h1.2) (fun i hi => hs _ (zz_rg h2 i hi))
      exact ⟨t, fun _ => q⟩
    · exact ⟨0, fun h => absurd h hj⟩
  obtain ⟨st, hst⟩ := Classical.axiomOfChoice r0
  have t1 : ∀ i, i < 12 → _ := fun i hi => zz_rg zz_t1 i hi
  simp only [Bool.and_eq_true] at t1
  have t4 : ∀ i, i < 12 → _ := fun i hi => zz_rg zz_t4 i hi
  simp only [Bool.and_eq_true, decide_eq_true_eq] at t4
  obtain ⟨adK, adV, hS, hE⟩ := vk_Sof (args := #[Value.ref b]) (s := s) (N := 12) (tm := zz_tm) (len := zq_sl) (byt := zq_sb) (A := fun q : Nat => s.heap.size ≤ q) (fun i hi => by have h : zq_sl.getD i 0 < 100 := Nat.le_of_ble_eq_true (t4 i hi).1; omega) (fun i hi => hs _ (t1 i hi).1) (fun i hi => hs _ (t1 i hi).2.1) (fun i hi => hs _ (t1 i hi).2.2.1) (fun i hi => hs _ (t1 i hi).2.2.2) (fun i hi j hj => hs _ (zz_rg (zz_rg zz_t2 i hi) j hj))
    (fun i j hi hj hij => by
      have h := zz_rg (zz_rg zz_t3 i hi) j hj
      simp only [Bool.or_eq_true, decide_eq_true_eq] at h
      rcases h with h | h | h
      · exact absurd h hij
      · exact Or.inl (hs _ h)
      · exact Or.inr (hs _ h)) hA
  have w2 := zz_w2
  simp only [Bool.and_eq_true] at w2
  refine ⟨fun k => if k < 1000 then s.heap.size + k else if k = 1000 then b else if k < 2000 then st (k - 1001) else adK (k - 2000), adV, fun k hk => if_pos hk, rfl, fun l D cI cZ => ⟨fun j hj => ?_, fun j hj => ?_, fun q hq => ?_, fun q hq => ?_, ?_, fun i q hq => ?_, ?_, ?_⟩⟩
  · cases j with
    | zero => exact ⟨hX, hbl⟩
    | succ j =>
      have e : (fun k => if k < 1000 then s.heap.size + k else if k = 1000 then b else if k < 2000 then st (k - 1001) else adK (k - 2000)) (1000 + (j + 1)) = st j := by
        show (if 1000 + (j + 1) < 1000 then _ else _) = _
        rw [if_neg (by omega), if_neg (by omega), if_pos (by omega), show 1000 + (j + 1) - 1001 = j by omega]
      show va_X ((fun k => if k < 1000 then s.heap.size + k else if k = 1000 then b else if k < 2000 then st (k - 1001) else adK (k - 2000)) (1000 + (j + 1))) _ _ _ _ ∧ (fun k => if k < 1000 then s.heap.size + k else if k = 1000 then b else if k < 2000 then st (k - 1001) else adK (k - 2000)) (1000 + (j + 1)) < s.heap.size
      rw [e]
      exact (hst j (by omega)).2
  · have e : (fun k => if k < 1000 then s.heap.size + k else if k = 1000 then b else if k < 2000 then st (k - 1001) else adK (k - 2000)) (1001 + j) = st j := by
      show (if 1001 + j < 1000 then _ else _) = _
      rw [if_neg (by omega), if_neg (by omega), if_pos (by omega), show 1001 + j - 1001 = j by omega]
    have h3 := zz_rg zz_w1 j hj
    rw [Bool.and_eq_true] at h3
    show va_Z "WalkingStones" (zq_sn.getD j "") "[I" (.ref ((fun k => if k < 1000 then s.heap.size + k else if k = 1000 then b else if k < 2000 then st (k - 1001) else adK (k - 2000)) (1001 + j))) (fun q : Nat => s.heap.size ≤ q) s s.heap
    rw [e]
    exact va_Zof (ht _ h3.1) (ht _ w2.1) (hst j hj).1 hA
  · exact va_Nw.of rfl (ht _ (List.all_eq_true.mp zz_w3 q hq))
  · exact va_Nw.of rfl (ht _ (List.all_eq_true.mp zz_w4 q hq))
  · have e : (fun i => (fun k => if k < 1000 then s.heap.size + k else if k = 1000 then b else if k < 2000 then st (k - 1001) else adK (k - 2000)) (2000 + i)) = adK := by
      funext i
      show (if 2000 + i < 1000 then _ else _) = _
      rw [if_neg (by omega), if_neg (by omega), if_neg (by omega), show 2000 + i - 2000 = i by omega]
    show vk_S 12 zq_sl zq_sb (fun i => (fun k => if k < 1000 then s.heap.size + k else if k = 1000 then b else if k < 2000 then st (k - 1001) else adK (k - 2000)) (2000 + i)) adV (fun q : Nat => s.heap.size ≤ q) s s.heap
    rw [e]
    exact hS
  · have hi : i < 12 := (List.getElem?_eq_some_iff.mp hq).1
    have e : (fun k => if k < 1000 then s.heap.size + k else if k = 1000 then b else if k < 2000 then st (k - 1001) else adK (k - 2000)) (2000 + i) = adK i := by
      show (if 2000 + i < 1000 then _ else _) = _
      rw [if_neg (by omega), if_neg (by omega), if_neg (by omega), show 2000 + i - 2000 = i by omega]
    have e2 : zq_ss.getD i ("", 0, "") = q := Option.some.inj ((t4 i hi).2.symm.trans hq)
    have e3 := hE i hi
    unfold zz_tm at e3
    rw [e2] at e3
    show vk_R q.1 q.2.1 q.2.2 ((fun k => if k < 1000 then s.heap.size + k else if k = 1000 then b else if k < 2000 then st (k - 1001) else adK (k - 2000)) (2000 + i)) s
    rw [e]
    exact vk_R.of (ht _ (List.all_eq_true.mp zz_w5 q (List.mem_of_getElem? hq))) e3
  · exact va_Zof (ht _ w2.2.1) (ht _ w2.2.2.1) (va_eqi (hs _ zz_u1)) hA
  · exact va_Zqof (ht _ w2.2.2.2.1) (ht _ w2.2.2.2.2) (hs _ zz_u2) hA
theorem zz_arr {args : Array Value} {s : State} {ty : FieldType} (hty : ty = .int ∨ ty = .boolean) (h : (Cond.arrayClass ty).before args s = true) : ∃ cA : ClassId, ArrOfT s cA ty ∧ va_RA s cA ty := by
  obtain ⟨cA, kA, comp, hfind, hk, hkind⟩ := Cond.arrayClass_spec h
  refine ⟨cA, fun n z => ⟨fun k h => (by cases h), kA, hk, comp, hkind⟩, ?_⟩
  rcases hty with rfl | rfl
  · exact hfind
  · exact hfind
/-- from the entry, for every script of at most 384 ints, the law comes to its end with true -/
theorem whole_start {p : Program} {e : Env} {s : State} {m : MethodId} {below : List Frame} {meth : Method} {c : Code} (l : Launch) {b L : Nat} {xs : Nat → Int32} (hL : L ≤ 384) (C0 : lw_At p s m meth c b L xs) : W p l e room_1 s m #[Value.ref b] below meth c s.heap [] 0 0 (lw_Z below #[Value.ref b] s) (entryFrame m ([Value.ref b] : List Value).toArray 4) := by
  obtain ⟨hx, hb, hr, hml, hown, hts, hX, hbl, hlocks, hgv⟩ := id C0
  obtain ⟨ad, av, had, hab, hro⟩ := zz_ro hts hX hbl hgv
  have htb : ∀ w ∈ zq_tb, w.before #[Value.ref b] s = true := fun w hw => hts w (List.mem_filter.mp hw).1
  have w7 := zz_w7
  rw [Bool.and_eq_true] at w7
  obtain ⟨cI, hI⟩ := zz_arr (Or.inl rfl) (hts _ (of_decide_eq_true w7.1))
  obtain ⟨cZ, hZ⟩ := zz_arr (Or.inr rfl) (hts _ (of_decide_eq_true w7.2))
  have hc0 : ∀ k : Nat, ∃ q : ClassId × (Nat → Nat), ∀ x : vw_C, vwCl[k]? = some x → u_Kn s x.1 x.2.1 x.2.2 q.1 q.2 := by
    intro k
    cases hk : vwCl[k]? with
    | none => exact ⟨(m.cls, fun _ => 0), fun x hx => by cases hx⟩
    | some x =>
      obtain ⟨ty, h1, -⟩ := zq_cf k x hk
      obtain ⟨cC, iS, h⟩ := u_known (n := x.2.2) htb h1 (hts _ (of_decide_eq_true (List.all_eq_true.mp zz_w6 x (List.mem_of_getElem? hk))))
      exact ⟨(cC, iS), fun y hy => by cases hy; exact h⟩
  obtain ⟨dc, hdc⟩ := Classical.axiomOfChoice hc0
  have hK : va_K (fun k => (dc k).1, fun k => (dc k).2) vwCl [(cI, .int), (cZ, .boolean)] s := by
    refine ⟨fun k x hk => hdc k x hk, fun k q hq => ?_⟩
    match k, hq with
    | 0, hq => cases hq; exact hI
    | 1, hq => cases hq; exact hZ
    | k + 2, hq => simp at hq
  have hl := lv_entry ([.ref b]) (n := 4) (Nat.le_of_ble_eq_true rfl)
  rw [lg_entry_eq]
  generalize (lg_sl ([.ref b]) ++ List.replicate (4 - (lg_sl ([.ref b])).length) Slot.unset).toArray = ls at hl ⊢
  have hl : lv_has ls 4 [(0, .ref b)] := hl
  have key := law_all (g := (l, (fun k => (dc k).1, fun k => (dc k).2), cI, cZ, ad, s.heap.size, L, xs, av)) (d := 0) hL zq_m230 rfl p e room_1 s m #[Value.ref b] below meth c (lw_Z below #[Value.ref b] s)
  refine key ⟨⟨by decide, by decide, by decide, by decide⟩, hx, hb, hr, hml, hown, htb, hlocks, fun h => absurd h (by decide), hK, hro _ _ _ _, Nat.le_refl _, had⟩ ?_ s.heap [] ls ⟨Nat.zero_le _, Nat.le_refl _, fun k q h => by simp [zq_w] at h, va_S.rf⟩ ?_
  · intro r h H locs la pc cs hr1 hk hw hc1 hc2
    subst hr1
    refine va_forget (fun q hq => hw.2.2.2.2.2 q hq) ?_
    refine W.widen (k := 600000) (n := 7302249) ?_ ?_ ?_
    · rw [hc1]; decide
    · exact Nat.le_trans hc2 (by decide)
    · exact lw_ret hx hb hr hlocks hk.1
  · have e1 : zq_lv (l, (fun k => (dc k).1, fun k => (dc k).2), cI, cZ, ad, s.heap.size, L, xs, av) 0 [.ref 1000, .null, .null, .null] = [(0, .ref b)] := by
      rw [← hab]
      rfl
    rw [e1]
    exact hl
-- ===== YOUR PART ENDS =====
set_option maxHeartbeats 4000000 in
theorem lw_walk (l : Launch) (b : Addr) (xs : List Int32) : MetFree l x (headSpec (Jvm.Cond.code x code maxLocals ret :: tables_1) room_1) (lw_P b xs) (fun _ _ _ _ _ => True) lw_Q := by
  refine MetFree.of_bodyS (code := code) (maxLocals := maxLocals) (ret := ret) (by decide) ?_ ?_
  · intro args s m h hn
    obtain ⟨meth, c, h1, h2, h3, h4, h5, h6, -, -⟩ := Cond.code_spec hn (atoms_spec (ws := Jvm.Cond.code x code maxLocals ret :: tables_1) h _ List.mem_cons_self)
    exact ⟨meth, c, h1, h2, h3, h4, h5, h6⟩
  · intro p e s m args below meth c s₁ B hml0 hP _
    obtain ⟨rfl, hx, hbd, hgv⟩ := hP
    obtain ⟨scr, harrAt, hlist, hof, hsmall⟩ := hx
    obtain ⟨hcb, hkn, -, -⟩ := State.arrayAt?_spec harrAt
    have hown : s.vm.findClass R_law = some m.cls := findClass_of_methodNamed B.named
    have hts0 : ∀ c ∈ (Jvm.Cond.code x code maxLocals ret :: tables_1), c.before #[Value.ref b] s = true := atoms_spec (ws := Jvm.Cond.code x code maxLocals ret :: tables_1) B.pre
    have hts : ∀ w ∈ lw_tbl, w.before #[Value.ref b] s = true := k2_hts_sels lw_privs (fun w hw => hts0 w (List.mem_cons_of_mem _ hw)) lw_privs_ok
    have hml : c.maxLocals = 4 := B.maxLocals_eq (hts0 _ List.mem_cons_self)
    have X₀ : Stand p l e room_1 s m #[Value.ref b] below meth c s₁ [] 0 0 := Stand.of_body B
    have hh0 : s₁.heap = s.heap := by rw [B.state]; rfl
    have hsz : scr.slots.size = xs.length := by rw [← Array.length_toList, hlist, List.length_map]
    have hval : ∀ j : Nat, j < xs.length → scr.slots[j]? = some (.int (xs.getD j 0)) := fun j hj => by
      rw [← Array.getElem?_toList, hlist]
      simp [hj]
    have hbl : b < s.heap.size := (Array.getElem?_eq_some_iff.mp hcb).1
    have hX : va_X b xs.length (fun j => xs.getD j 0) s s.heap := ⟨scr, hcb, hof, hkn, hsz, hval⟩
    have K : W p l e room_1 s m #[Value.ref b] below meth c s₁.heap [] 0 0 (lw_Z below #[Value.ref b] s) (entryFrame m ([Value.ref b] : List Value).toArray 4) := by
      rw [hh0]
      exact whole_start l hbd ⟨B.exec, B.bytes, B.returns, hml, hown, hts, hX, hbl, B.notSynchronized, hgv⟩
    obtain ⟨t, a1, o, b1, b2, b3⟩ := K s₁ rfl X₀
    exact ⟨t, o, a1, b1, b2, b3⟩
theorem lw_pre_spec {args : Array Value} {s : State} (h : (Jvm.Cond.and given_1 narrow_1).before args s = true) (hr : rest_1_c.before args s = true) : ∃ (b : Addr) (xs : List Int32), lw_P b xs args s := by
  have hs := flat_of_before _ h
  have hq := flat_of_before _ hr
  have hc : (Cond.count 1).before args s = true := hs _ (by decide +kernel)
  have harr : (Cond.arrayOf (.arg 0) .int).before args s = true := hs _ (by decide +kernel)
  have hle : (Cond.le (.length (.arg 0)) (.int 384)).before args s = true := hs _ (by decide +kernel)
  have hlen : (Cond.isInt (.length (.arg 0))).before args s = true := hq _ (by decide +kernel)
  have hall : (Cond.all (.arg 0) (.isInt (.elem (.arg 0) (.index 0)))).before args s = true := hq _ (by decide +kernel)
  obtain ⟨b, xs, hb, hx⟩ := State.ints_of_pre rfl harr hlen hall
  have hsm : xs.length < 2 ^ 31 := hx.choose_spec.2.2.2
  have hev : (Term.length (.arg 0)).eval args s none [] s = some (.int xs.length.toInt32) := hx.length_eval hb
  have hv := Cond.le_ints hev (show (Term.int 384).eval args s none [] s = some (.int 384) from rfl)
  have hd : xs.length.toInt32 ≤ 384 := by
    simpa [Cond.before, Cond.holds, hv] using hle
  have hN : xs.length ≤ 384 := (Int32.ofNat_le_ofNat hsm (by decide)).mp (show Int32.ofNat xs.length ≤ Int32.ofNat 384 from hd)
  exact ⟨b, xs, Cond.one_arg hc (show args[0]? = some (.ref b) from hb), hx, hN, h⟩
theorem lw_comes (l : Launch) : Comes l x (Jvm.Cond.code x code maxLocals ret :: tables_1) room_1 (fun tb e args s => Calls_1 tb e args s ∧ rest_1 tb e args s ∧ Pre_1 tb e args s)
    (fun _ _ args s o t => lw_Q args s o t) := by
  intro p e ha hc hk s m args below hf hfit hheap happ hpre
  obtain ⟨b, xs, hP⟩ := lw_pre_spec hpre.2.2 hpre.2.1
  obtain ⟨k, o, h1, h2, h3, hQ⟩ := lw_walk l b xs p e ha hc hk s m args below hf ((Spec.applies_iff_loose hf).mp happ).1 hP trivial
  exact ⟨k, o, h1, h2, h3, hQ⟩
theorem lw_frame {s t : State} {o : Outcome} {args : Array Value} (h : Framed s o t [] 600000 7302249) :
    Framed s o t (fieldLocs frame_1_writes args s ++ arrayLocs frame_1_arrays args s ++ staticLocs frame_1_statics s) 600000 7302249 := h
theorem lw_limb (L : Cond) (hL : ∀ (args : Array Value) (s t : State), L.after args s (.returned (some (.int 1))) t = true) :
    ArmFor flags0 classFile x code maxLocals ret World_1 tables_1 room_1 Calls_1 rest_1 Pre_1
      (fun tb e a s o t => postC L tb e a s o t ∧ Framed s o t (fieldLocs frame_1_writes a s ++ arrayLocs frame_1_arrays a s ++ staticLocs frame_1_statics s) 600000 7302249) := by
  intro l _ _ _ p e ha hc hk s m args below hf hfit hheap happ hpre
  obtain ⟨k, o, h1, h2, h3, rfl, hF⟩ := lw_comes l p e ha hc hk s m args below hf hfit hheap happ hpre
  exact ⟨k, _, h1, h2, h3, hL args s _, lw_frame hF⟩
theorem i_vc : Claimed_1_1 ∧ Claimed_1_2 := ⟨lw_limb limb_1_1 (fun args s t => by simp [limb_1_1, Cond.after, Cond.holds, Cond.value]), lw_limb limb_1_2 (fun args s t => Cond.after_iff.mpr (by
  first | (rw [show limb_1_2 = Cond.eq .result (.int 1) from rfl, Cond.eq_ints (x := 1) (y := 1) rfl rfl]; simp; done) | (simp [limb_1_2, Cond.value, Term.eval]; done)))⟩
