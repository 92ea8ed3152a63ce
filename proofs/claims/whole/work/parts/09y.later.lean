theorem zq_in_tb {w : Jvm.Cond} (i : Nat) (h : zq_is i w = true) : w ∈ zq_tb := zq_is_in h
theorem zq_oi1 : Jvm.Cond.instanceMethod objectInit ∈ zq_tb := zq_in_tb 106 (by decide +kernel)
theorem zq_oi2 : Jvm.Cond.code objectInit ⟨#[0xb1]⟩ 1 none ∈ zq_tb := zq_in_tb 107 (by decide +kernel)
theorem zq_mh : Jvm.Cond.initialized "java/lang/Math" ∈ zq_tb := zq_in_tb 86 (by decide +kernel)
theorem zq_mn1 : Jvm.Cond.static Lib.Math.min.name ∈ zq_tb := zq_in_tb 207 (by decide +kernel)
theorem zq_mn2 : Jvm.Cond.code Lib.Math.min.name Lib.Math.min.code 2 (some .int) ∈ zq_tb := zq_in_tb 208 (by decide +kernel)
theorem zq_mx1 : Jvm.Cond.static Lib.Math.max.name ∈ zq_tb := zq_in_tb 214 (by decide +kernel)
theorem zq_mx2 : Jvm.Cond.code Lib.Math.max.name Lib.Math.max.code 2 (some .int) ∈ zq_tb := zq_in_tb 215 (by decide +kernel)
theorem zq_ma1 : Jvm.Cond.static Lib.Math.abs.name ∈ zq_tb := zq_in_tb 783 (by decide +kernel)
theorem zq_ma2 : Jvm.Cond.code Lib.Math.abs.name Lib.Math.abs.code 1 (some .int) ∈ zq_tb := zq_in_tb 784 (by decide +kernel)
theorem zq_ac1 : Jvm.Cond.native arraycopyName ∈ zq_tb := zq_in_tb 218 (by decide +kernel)
theorem zq_ac2 : Jvm.Cond.static arraycopyName ∈ zq_tb := zq_in_tb 217 (by decide +kernel)
theorem zq_ac3 : Jvm.Cond.initialized "java/lang/System" ∈ zq_tb := zq_in_tb 87 (by decide +kernel)
/-! String constants: length() and charAt(k) of the JDK, over the words of zq_tb -/
def zq_jP (g : zq_G) (as : List Value) : Array Value → State → Prop := va_Pc as (fun U => zq_ro g U U.heap ∧ zq_B g ≤ U.heap.size)
def zq_jQ (r : Option Value) : Array Value → State → Outcome → State → Prop := fun _ st oc t => oc = .returned r ∧ t.heap = st.heap
def zq_jw (y : MethodName) (b : ByteArray) (n : Nat) (r : Option FieldType) : List Jvm.Cond := Jvm.Cond.code y b n r :: zq_tb
theorem zq_jblind (g : zq_G) (as : List Value) : FrameBlind (zq_jP g as) := by
  intro a U f mk q
  exact ⟨q.1, zq_ro.same (u := U) (U := U.calling f mk a) rfl q.2.1, q.2.2⟩
theorem zq_jgood {y : MethodName} {b : ByteArray} {n : Nat} {r : Option FieldType} (h : Jvm.Cond.code y b n r ∈ zq_tb) : GoodIn zq_tb (zq_jw y b n r) := by
  intro w hw
  have hg : w ∈ zq_tb := by
    rcases List.mem_cons.mp hw with h1 | h1
    · rw [h1]; exact h
    · exact h1
  exact ⟨hg, good_of_word (List.mem_filter.mp hg).2⟩
theorem zq_jback {p : Program} {l : Launch} {e : Env} {R : Room} {s : State} {m : MethodId} {args : Array Value} {below : List Frame} {meth : Method} {c : Code} {H : Heap} {locs : List Loc} {cells slots pc : Nat} {la : Array Slot} {st0 rest : List Value} {r : Option Value} {a : Array Value} {Z : State → Prop}
    (hr : va_Run p l e R s m args below meth c H locs cells slots 0 0 (F0 m pc la st0) rest (zq_jQ r a) (fun _ => False)) (kk : W p l e R s m args below meth c H locs cells slots Z (F0 m (pc + 3) la (r.toList ++ rest))) : W p l e R s m args below meth c H locs cells slots Z (F0 m pc la st0) := by
  intro T hT X
  obtain ⟨v, st₀, t, T', L, h0, X', hL, e1, e2, ⟨hv, hh⟩, st⟩ := hr T hT X
  cases hv
  obtain ⟨t2, a1, b1⟩ := kk T' (by rw [e1, hh, h0]) (Stand.forget X' (fun q h => (hL q h).elim))
  exact ⟨t2, st t2 a1, b1⟩
theorem zq_jpre {g : zq_G} {s U : State} {H : Heap} {locs : List Loc} (as : List Value) (hro : zq_ro g s s.heap) (hB : zq_B g ≤ s.heap.size) (hS : va_S (zq_F g) s.heap H locs) (hU : U.heap = H) (hW : s.WarmedH U.vm) : zq_jP g as as.toArray U := by
  refine ⟨rfl, ?_, by rw [hU]; exact Nat.le_trans hB hS.1⟩
  rw [hU]
  exact hro.go hB hW hS.2.1
def zj_ylen : MethodName := ⟨"java/lang/String", "length", "()I"⟩
theorem zj_klen : Jvm.Cond.code zj_ylen prog_16_method_54_code 1 (some .int) ∈ zq_tb := zq_in_tb 625 (by decide +kernel)
theorem zj_ilen : Jvm.Cond.instanceMethod zj_ylen ∈ zq_tb := zq_in_tb 623 (by decide +kernel)
theorem zj_slen : Jvm.Cond.selects "java/lang/String" zj_ylen zj_ylen ∈ zq_tb := zq_in_tb 624 (by decide +kernel)
theorem zj_dlen0 : decode prog_16_method_54_code 0 = .ok (.aload_n 0, 1) := by decide +kernel
theorem zj_dlen1 : decode prog_16_method_54_code 1 = .ok (.getfield 9, 3) := by decide +kernel
theorem zj_dlen4 : decode prog_16_method_54_code 4 = .ok (.arraylength, 1) := by decide +kernel
theorem zj_dlen5 : decode prog_16_method_54_code 5 = .ok (.aload_n 0, 1) := by decide +kernel
theorem zj_dlen6 : decode prog_16_method_54_code 6 = .ok (.invokevirtual 335, 3) := by decide +kernel
theorem zj_dlen9 : decode prog_16_method_54_code 9 = .ok (.ishr, 1) := by decide +kernel
theorem zj_dlen10 : decode prog_16_method_54_code 10 = .ok (.ireturn, 1) := by decide +kernel
def zj_ycod : MethodName := ⟨"java/lang/String", "coder", "()B"⟩
theorem zj_kcod : Jvm.Cond.code zj_ycod prog_16_method_152_code 1 (some .byte) ∈ zq_tb := zq_in_tb 629 (by decide +kernel)
theorem zj_icod : Jvm.Cond.instanceMethod zj_ycod ∈ zq_tb := zq_in_tb 627 (by decide +kernel)
theorem zj_scod : Jvm.Cond.selects "java/lang/String" zj_ycod zj_ycod ∈ zq_tb := zq_in_tb 628 (by decide +kernel)
theorem zj_dcod0 : decode prog_16_method_152_code 0 = .ok (.getstatic 38, 3) := by decide +kernel
theorem zj_dcod3 : decode prog_16_method_152_code 3 = .ok (.ifCond .eq 10, 3) := by decide +kernel
theorem zj_dcod6 : decode prog_16_method_152_code 6 = .ok (.aload_n 0, 1) := by decide +kernel
theorem zj_dcod7 : decode prog_16_method_152_code 7 = .ok (.getfield 15, 3) := by decide +kernel
theorem zj_dcod10 : decode prog_16_method_152_code 10 = .ok (.goto 4, 3) := by decide +kernel
theorem zj_dcod14 : decode prog_16_method_152_code 14 = .ok (.ireturn, 1) := by decide +kernel
def zj_ycha : MethodName := ⟨"java/lang/String", "charAt", "(I)C"⟩
theorem zj_kcha : Jvm.Cond.code zj_ycha prog_16_method_56_code 2 (some .char) ∈ zq_tb := zq_in_tb 635 (by decide +kernel)
theorem zj_icha : Jvm.Cond.instanceMethod zj_ycha ∈ zq_tb := zq_in_tb 633 (by decide +kernel)
theorem zj_scha : Jvm.Cond.selects "java/lang/String" zj_ycha zj_ycha ∈ zq_tb := zq_in_tb 634 (by decide +kernel)
theorem zj_dcha0 : decode prog_16_method_56_code 0 = .ok (.aload_n 0, 1) := by decide +kernel
theorem zj_dcha1 : decode prog_16_method_56_code 1 = .ok (.invokevirtual 492, 3) := by decide +kernel
theorem zj_dcha4 : decode prog_16_method_56_code 4 = .ok (.ifCond .eq 12, 3) := by decide +kernel
theorem zj_dcha7 : decode prog_16_method_56_code 7 = .ok (.aload_n 0, 1) := by decide +kernel
theorem zj_dcha8 : decode prog_16_method_56_code 8 = .ok (.getfield 9, 3) := by decide +kernel
theorem zj_dcha11 : decode prog_16_method_56_code 11 = .ok (.iload_n 1, 1) := by decide +kernel
theorem zj_dcha12 : decode prog_16_method_56_code 12 = .ok (.invokestatic 495, 3) := by decide +kernel
theorem zj_dcha15 : decode prog_16_method_56_code 15 = .ok (.ireturn, 1) := by decide +kernel
def zj_ylat : MethodName := ⟨"java/lang/String", "isLatin1", "()Z"⟩
theorem zj_klat : Jvm.Cond.code zj_ylat prog_16_method_154_code 1 (some .boolean) ∈ zq_tb := zq_in_tb 639 (by decide +kernel)
theorem zj_ilat : Jvm.Cond.instanceMethod zj_ylat ∈ zq_tb := zq_in_tb 637 (by decide +kernel)
theorem zj_slat : Jvm.Cond.selects "java/lang/String" zj_ylat zj_ylat ∈ zq_tb := zq_in_tb 638 (by decide +kernel)
theorem zj_dlat0 : decode prog_16_method_154_code 0 = .ok (.getstatic 38, 3) := by decide +kernel
theorem zj_dlat3 : decode prog_16_method_154_code 3 = .ok (.ifCond .eq 14, 3) := by decide +kernel
theorem zj_dlat6 : decode prog_16_method_154_code 6 = .ok (.aload_n 0, 1) := by decide +kernel
theorem zj_dlat7 : decode prog_16_method_154_code 7 = .ok (.getfield 15, 3) := by decide +kernel
theorem zj_dlat10 : decode prog_16_method_154_code 10 = .ok (.ifCond .ne 7, 3) := by decide +kernel
theorem zj_dlat13 : decode prog_16_method_154_code 13 = .ok (.iconst 1, 1) := by decide +kernel
theorem zj_dlat14 : decode prog_16_method_154_code 14 = .ok (.goto 4, 3) := by decide +kernel
theorem zj_dlat18 : decode prog_16_method_154_code 18 = .ok (.ireturn, 1) := by decide +kernel
def zj_ylch : MethodName := ⟨"java/lang/StringLatin1", "charAt", "([BI)C"⟩
theorem zj_klch : Jvm.Cond.code zj_ylch prog_17_method_2_code 2 (some .char) ∈ zq_tb := zq_in_tb 642 (by decide +kernel)
theorem zj_ilch : Jvm.Cond.static zj_ylch ∈ zq_tb := zq_in_tb 641 (by decide +kernel)
theorem zj_dlch0 : decode prog_17_method_2_code 0 = .ok (.iload_n 1, 1) := by decide +kernel
theorem zj_dlch1 : decode prog_17_method_2_code 1 = .ok (.aload_n 0, 1) := by decide +kernel
theorem zj_dlch2 : decode prog_17_method_2_code 2 = .ok (.arraylength, 1) := by decide +kernel
theorem zj_dlch3 : decode prog_17_method_2_code 3 = .ok (.invokestatic 9, 3) := by decide +kernel
theorem zj_dlch6 : decode prog_17_method_2_code 6 = .ok (.aload_n 0, 1) := by decide +kernel
theorem zj_dlch7 : decode prog_17_method_2_code 7 = .ok (.iload_n 1, 1) := by decide +kernel
theorem zj_dlch8 : decode prog_17_method_2_code 8 = .ok (.baload, 1) := by decide +kernel
theorem zj_dlch9 : decode prog_17_method_2_code 9 = .ok (.sipush 255, 3) := by decide +kernel
theorem zj_dlch12 : decode prog_17_method_2_code 12 = .ok (.iand, 1) := by decide +kernel
theorem zj_dlch13 : decode prog_17_method_2_code 13 = .ok (.i2c, 1) := by decide +kernel
theorem zj_dlch14 : decode prog_17_method_2_code 14 = .ok (.ireturn, 1) := by decide +kernel
def zj_ychk : MethodName := ⟨"java/lang/String", "checkIndex", "(II)V"⟩
theorem zj_kchk : Jvm.Cond.code zj_ychk prog_16_method_155_code 2 none ∈ zq_tb := zq_in_tb 645 (by decide +kernel)
theorem zj_ichk : Jvm.Cond.static zj_ychk ∈ zq_tb := zq_in_tb 644 (by decide +kernel)
theorem zj_dchk0 : decode prog_16_method_155_code 0 = .ok (.iload_n 0, 1) := by decide +kernel
theorem zj_dchk1 : decode prog_16_method_155_code 1 = .ok (.iload_n 1, 1) := by decide +kernel
theorem zj_dchk2 : decode prog_16_method_155_code 2 = .ok (.getstatic 1053, 3) := by decide +kernel
theorem zj_dchk5 : decode prog_16_method_155_code 5 = .ok (.invokestatic 1059, 3) := by decide +kernel
theorem zj_dchk8 : decode prog_16_method_155_code 8 = .ok (.pop, 1) := by decide +kernel
theorem zj_dchk9 : decode prog_16_method_155_code 9 = .ok (.return_, 1) := by decide +kernel
def zj_ypre : MethodName := ⟨"jdk/internal/util/Preconditions", "checkIndex", "(IILjava/util/function/BiFunction;)I"⟩
theorem zj_kpre : Jvm.Cond.code zj_ypre prog_20_method_11_code 3 (some .int) ∈ zq_tb := zq_in_tb 650 (by decide +kernel)
theorem zj_ipre : Jvm.Cond.static zj_ypre ∈ zq_tb := zq_in_tb 649 (by decide +kernel)
theorem zj_dpre0 : decode prog_20_method_11_code 0 = .ok (.iload_n 0, 1) := by decide +kernel
theorem zj_dpre1 : decode prog_20_method_11_code 1 = .ok (.ifCond .lt 8, 3) := by decide +kernel
theorem zj_dpre4 : decode prog_20_method_11_code 4 = .ok (.iload_n 0, 1) := by decide +kernel
theorem zj_dpre5 : decode prog_20_method_11_code 5 = .ok (.iload_n 1, 1) := by decide +kernel
theorem zj_dpre6 : decode prog_20_method_11_code 6 = .ok (.if_icmp .lt 10, 3) := by decide +kernel
theorem zj_dpre16 : decode prog_20_method_11_code 16 = .ok (.iload_n 0, 1) := by decide +kernel
theorem zj_dpre17 : decode prog_20_method_11_code 17 = .ok (.ireturn, 1) := by decide +kernel
theorem zj_n1 : Jvm.Cond.initialized "java/lang/String" ∈ zq_tb := zq_in_tb 96 (by decide +kernel)
theorem zj_n2 : Jvm.Cond.initialized "java/lang/StringLatin1" ∈ zq_tb := zq_in_tb 97 (by decide +kernel)
theorem zj_n3 : Jvm.Cond.initialized "jdk/internal/util/Preconditions" ∈ zq_tb := zq_in_tb 98 (by decide +kernel)
theorem zj_m1 : Jvm.Cond.methodLink "java/lang/String" 335 zj_ycod ∈ zq_tb := zq_in_tb 626 (by decide +kernel)
theorem zj_m2 : Jvm.Cond.methodLink "java/lang/String" 492 zj_ylat ∈ zq_tb := zq_in_tb 636 (by decide +kernel)
theorem zj_m3 : Jvm.Cond.methodLink "java/lang/String" 495 zj_ylch ∈ zq_tb := zq_in_tb 640 (by decide +kernel)
theorem zj_m4 : Jvm.Cond.methodLink "java/lang/StringLatin1" 9 zj_ychk ∈ zq_tb := zq_in_tb 643 (by decide +kernel)
theorem zj_m5 : Jvm.Cond.methodLink "java/lang/String" 1059 zj_ypre ∈ zq_tb := zq_in_tb 648 (by decide +kernel)
theorem zj_f1 : Jvm.Cond.fieldLink "java/lang/String" 38 "java/lang/String" "COMPACT_STRINGS" "Z" ∈ zq_tb := zq_in_tb 630 (by decide +kernel)
theorem zj_f2 : Jvm.Cond.fieldLink "java/lang/String" 9 "java/lang/String" "value" "[B" ∈ zq_tb := zq_in_tb 1585 (by decide +kernel)
theorem zj_f3 : Jvm.Cond.fieldLink "java/lang/String" 15 "java/lang/String" "coder" "B" ∈ zq_tb := zq_in_tb 1586 (by decide +kernel)
theorem zj_f4 : Jvm.Cond.fieldLink "java/lang/String" 1053 "jdk/internal/util/Preconditions" "SIOOBE_FORMATTER" "Ljava/util/function/BiFunction;" ∈ zq_tb := zq_in_tb 646 (by decide +kernel)
set_option maxRecDepth 20000 in
theorem zj_cod (g : zq_G) (j : Nat) (hj : j < 12) : Met (zq_l g) zj_ycod (zq_jw zj_ycod prog_16_method_152_code 1 (some .byte)) ({ frames := 0, cells := 0, slots := 0, locals := 0 }) (zq_jP g [.ref (zq_ad g (2000 + j))]) (zq_jQ (some (.int 0))) 0 0 (fun _ => False) := by
  refine Met.ofW (cc := prog_16_method_152_code) (maxL := 1) (ret := (some .byte)) (by decide) rfl ?_
  intro p e s m args below meth c s₁ B hml hv
  obtain ⟨rfl, hro, hB⟩ := hv
  have hx := B.exec
  have hb := B.bytes
  have hr := B.returns
  have hts0 := atoms_spec (ws := zq_jw zj_ycod prog_16_method_152_code 1 (some .byte)) B.pre
  have hts : ∀ w ∈ zq_tb, w.before _ s = true := fun w hw => hts0 w (List.mem_cons_of_mem _ hw)
  have hown : s.vm.findClass "java/lang/String" = some m.cls := findClass_of_methodNamed B.named
  have hlocks := B.notSynchronized
  have hS : va_S (zq_F g) s.heap s.heap [] := va_S.rf
  have hl := lv_entry ([.ref (zq_ad g (2000 + j))]) (n := 1) (Nat.le_of_ble_eq_true rfl)
  rw [lg_entry_eq]
  generalize (lg_sl ([.ref (zq_ad g (2000 + j))]) ++ List.replicate (1 - (lg_sl ([.ref (zq_ad g (2000 + j))])).length) Slot.unset).toArray = ls at hl ⊢
  have hl : lv_has ls 1 [(0, .ref (zq_ad g (2000 + j)))] := hl
  refine va_gets (A := zq_F g) hx hb hro.2.2.2.2.2.2.1 hS hown (hts _ zj_f1) (fun _ z => z) zj_dcod0 ?_
  refine lv_if_eq (tgt := 13) hx hb zj_dcod3 (by decide) (fun q => absurd q (by decide)) (fun _ => ?_)
  refine lv_aload_n hx hb zj_dcod6 rfl (lv_at hl 0 rfl) ?_
  refine vk_getf hx hb (hro.2.2.2.2.1.1 j hj).2.1 hS hown (hts _ zj_f3) (fun _ z => z) zj_dcod7 ?_
  refine lv_goto (tgt := 14) hx hb zj_dcod10 (by decide) ?_
  exact W.zret hx hb hr rfl (fun t ht hW => ⟨rfl, ht⟩) (fun q hq => by cases hq) zj_dcod14
set_option maxRecDepth 20000 in
theorem zj_lat (g : zq_G) (j : Nat) (hj : j < 12) : Met (zq_l g) zj_ylat (zq_jw zj_ylat prog_16_method_154_code 1 (some .boolean)) ({ frames := 0, cells := 0, slots := 0, locals := 0 }) (zq_jP g [.ref (zq_ad g (2000 + j))]) (zq_jQ (some (.int 1))) 0 0 (fun _ => False) := by
  refine Met.ofW (cc := prog_16_method_154_code) (maxL := 1) (ret := (some .boolean)) (by decide) rfl ?_
  intro p e s m args below meth c s₁ B hml hv
  obtain ⟨rfl, hro, hB⟩ := hv
  have hx := B.exec
  have hb := B.bytes
  have hr := B.returns
  have hts0 := atoms_spec (ws := zq_jw zj_ylat prog_16_method_154_code 1 (some .boolean)) B.pre
  have hts : ∀ w ∈ zq_tb, w.before _ s = true := fun w hw => hts0 w (List.mem_cons_of_mem _ hw)
  have hown : s.vm.findClass "java/lang/String" = some m.cls := findClass_of_methodNamed B.named
  have hlocks := B.notSynchronized
  have hS : va_S (zq_F g) s.heap s.heap [] := va_S.rf
  have hl := lv_entry ([.ref (zq_ad g (2000 + j))]) (n := 1) (Nat.le_of_ble_eq_true rfl)
  rw [lg_entry_eq]
  generalize (lg_sl ([.ref (zq_ad g (2000 + j))]) ++ List.replicate (1 - (lg_sl ([.ref (zq_ad g (2000 + j))])).length) Slot.unset).toArray = ls at hl ⊢
  have hl : lv_has ls 1 [(0, .ref (zq_ad g (2000 + j)))] := hl
  refine va_gets (A := zq_F g) hx hb hro.2.2.2.2.2.2.1 hS hown (hts _ zj_f1) (fun _ z => z) zj_dlat0 ?_
  refine lv_if_eq (tgt := 17) hx hb zj_dlat3 (by decide) (fun q => absurd q (by decide)) (fun _ => ?_)
  refine lv_aload_n hx hb zj_dlat6 rfl (lv_at hl 0 rfl) ?_
  refine vk_getf hx hb (hro.2.2.2.2.1.1 j hj).2.1 hS hown (hts _ zj_f3) (fun _ z => z) zj_dlat7 ?_
  refine lv_if_ne (tgt := 17) hx hb zj_dlat10 (by decide) (fun q => absurd rfl q) (fun _ => ?_)
  refine lv_iconst (v := 1) hx hb zj_dlat13 (by decide) ?_
  refine lv_goto (tgt := 18) hx hb zj_dlat14 (by decide) ?_
  exact W.zret hx hb hr rfl (fun t ht hW => ⟨rfl, ht⟩) (fun q hq => by cases hq) zj_dlat18
set_option maxRecDepth 20000 in
theorem zj_len (g : zq_G) (j : Nat) (hj : j < 12) : Met (zq_l g) zj_ylen (zq_jw zj_ylen prog_16_method_54_code 1 (some .int)) ({ frames := 1, cells := 0, slots := 0, locals := 21 }) (zq_jP g [.ref (zq_ad g (2000 + j))]) (zq_jQ (some (.int (nI (zq_sl.getD j 0))))) 0 0 (fun _ => False) := by
  refine Met.ofW (cc := prog_16_method_54_code) (maxL := 1) (ret := (some .int)) (by decide) rfl ?_
  intro p e s m args below meth c s₁ B hml hv
  obtain ⟨rfl, hro, hB⟩ := hv
  have hx := B.exec
  have hb := B.bytes
  have hr := B.returns
  have hts0 := atoms_spec (ws := zq_jw zj_ylen prog_16_method_54_code 1 (some .int)) B.pre
  have hts : ∀ w ∈ zq_tb, w.before _ s = true := fun w hw => hts0 w (List.mem_cons_of_mem _ hw)
  have hown : s.vm.findClass "java/lang/String" = some m.cls := findClass_of_methodNamed B.named
  have hlocks := B.notSynchronized
  have hS : va_S (zq_F g) s.heap s.heap [] := va_S.rf
  have hl := lv_entry ([.ref (zq_ad g (2000 + j))]) (n := 1) (Nat.le_of_ble_eq_true rfl)
  rw [lg_entry_eq]
  generalize (lg_sl ([.ref (zq_ad g (2000 + j))]) ++ List.replicate (1 - (lg_sl ([.ref (zq_ad g (2000 + j))])).length) Slot.unset).toArray = ls at hl ⊢
  have hl : lv_has ls 1 [(0, .ref (zq_ad g (2000 + j)))] := hl
  refine lv_aload_n hx hb zj_dlen0 rfl (lv_at hl 0 rfl) ?_
  refine vk_getf hx hb (hro.2.2.2.2.1.1 j hj).2.2.1 hS hown (hts _ zj_f2) (fun _ z => z) zj_dlen1 ?_
  refine va_tlen (v := nI (zq_sl.getD j 0)) hx hb (hro.2.2.2.2.1.1 j hj).2.2.2 hS rfl zj_dlen4 ?_
  refine lv_aload_n hx hb zj_dlen5 rfl (lv_at hl 0 rfl) ?_
  refine zq_jback (rest := [.int (nI (zq_sl.getD j 0))]) (va_runV (C := "java/lang/String") (n := 0) (As := []) ⟨hx, hb, hml, hown, hts⟩ (zj_cod g j hj) ⟨callB_of 0 hts (zq_jgood zj_kcod) rfl rfl rfl (hts _ zj_n1) (hts _ zj_m1) ⟨by decide, by decide, by decide +kernel⟩ ⟨Nat.le_of_ble_eq_true rfl, Nat.le_of_ble_eq_true rfl⟩, hts _ zj_icod, hts _ zj_scod⟩ ⟨zq_jblind g _, vk_recv hro.2.2.2.2.1 hj hS, fun U hU hW => zq_jpre [.ref (zq_ad g (2000 + j))] hro hB hS hU hW⟩ rfl rfl hl.1 rfl (lv_room (Nat.le_of_ble_eq_true rfl)) zj_dlen6 ⟨Nat.le_of_ble_eq_true rfl, Nat.le_of_ble_eq_true rfl⟩) ?_
  refine lv_ishr (x := nI (zq_sl.getD j 0)) (y := 0) hx hb zj_dlen9 ?_
  rw [sb_shr0]
  exact W.iret hx hb hr (fun t ht hW => ⟨rfl, ht⟩) (fun q hq => by cases hq) zj_dlen10
set_option maxRecDepth 20000 in
theorem zj_pren (g : zq_G) (ix n : Int32) (h1 : ¬ ix < 0) (h2 : ix < n) : Met (zq_l g) zj_ypre (zq_jw zj_ypre prog_20_method_11_code 3 (some .int)) ({ frames := 0, cells := 0, slots := 0, locals := 0 }) (zq_jP g [.int ix, .int n, .null]) (zq_jQ (some (.int ix))) 0 0 (fun _ => False) := by
  refine Met.ofW (cc := prog_20_method_11_code) (maxL := 3) (ret := (some .int)) (by decide) rfl ?_
  intro p e s m args below meth c s₁ B hml hv
  obtain ⟨rfl, hro, hB⟩ := hv
  have hx := B.exec
  have hb := B.bytes
  have hr := B.returns
  have hts0 := atoms_spec (ws := zq_jw zj_ypre prog_20_method_11_code 3 (some .int)) B.pre
  have hts : ∀ w ∈ zq_tb, w.before _ s = true := fun w hw => hts0 w (List.mem_cons_of_mem _ hw)
  have hown : s.vm.findClass "jdk/internal/util/Preconditions" = some m.cls := findClass_of_methodNamed B.named
  have hlocks := B.notSynchronized
  have hS : va_S (zq_F g) s.heap s.heap [] := va_S.rf
  have hl := lv_entry ([.int ix, .int n, .null]) (n := 3) (Nat.le_of_ble_eq_true rfl)
  rw [lg_entry_eq]
  generalize (lg_sl ([.int ix, .int n, .null]) ++ List.replicate (3 - (lg_sl ([.int ix, .int n, .null])).length) Slot.unset).toArray = ls at hl ⊢
  have hl : lv_has ls 3 [(0, .int ix), (1, .int n), (2, .null)] := hl
  refine lv_iload_n hx hb zj_dpre0 rfl (lv_at hl 0 rfl) ?_
  refine lv_if_lt (tgt := 9) hx hb zj_dpre1 (by decide) (fun q => absurd q h1) (fun _ => ?_)
  refine lv_iload_n hx hb zj_dpre4 rfl (lv_at hl 0 rfl) ?_
  refine lv_iload_n hx hb zj_dpre5 rfl (lv_at hl 1 rfl) ?_
  refine lv_icmp_lt (tgt := 16) hx hb zj_dpre6 (by decide) (fun _ => ?_) (fun q => absurd h2 q)
  refine lv_iload_n hx hb zj_dpre16 rfl (lv_at hl 0 rfl) ?_
  exact W.iret hx hb hr (fun t ht hW => ⟨rfl, ht⟩) (fun q hq => by cases hq) zj_dpre17
set_option maxRecDepth 20000 in
theorem zj_prer (g : zq_G) (ix n : Int32) (tt : Nat) (h1 : ¬ ix < 0) (h2 : ix < n) : Met (zq_l g) zj_ypre (zq_jw zj_ypre prog_20_method_11_code 3 (some .int)) ({ frames := 0, cells := 0, slots := 0, locals := 0 }) (zq_jP g [.int ix, .int n, .ref tt]) (zq_jQ (some (.int ix))) 0 0 (fun _ => False) := by
  refine Met.ofW (cc := prog_20_method_11_code) (maxL := 3) (ret := (some .int)) (by decide) rfl ?_
  intro p e s m args below meth c s₁ B hml hv
  obtain ⟨rfl, hro, hB⟩ := hv
  have hx := B.exec
  have hb := B.bytes
  have hr := B.returns
  have hts0 := atoms_spec (ws := zq_jw zj_ypre prog_20_method_11_code 3 (some .int)) B.pre
  have hts : ∀ w ∈ zq_tb, w.before _ s = true := fun w hw => hts0 w (List.mem_cons_of_mem _ hw)
  have hown : s.vm.findClass "jdk/internal/util/Preconditions" = some m.cls := findClass_of_methodNamed B.named
  have hlocks := B.notSynchronized
  have hS : va_S (zq_F g) s.heap s.heap [] := va_S.rf
  have hl := lv_entry ([.int ix, .int n, .ref tt]) (n := 3) (Nat.le_of_ble_eq_true rfl)
  rw [lg_entry_eq]
  generalize (lg_sl ([.int ix, .int n, .ref tt]) ++ List.replicate (3 - (lg_sl ([.int ix, .int n, .ref tt])).length) Slot.unset).toArray = ls at hl ⊢
  have hl : lv_has ls 3 [(0, .int ix), (1, .int n), (2, .ref tt)] := hl
  refine lv_iload_n hx hb zj_dpre0 rfl (lv_at hl 0 rfl) ?_
  refine lv_if_lt (tgt := 9) hx hb zj_dpre1 (by decide) (fun q => absurd q h1) (fun _ => ?_)
  refine lv_iload_n hx hb zj_dpre4 rfl (lv_at hl 0 rfl) ?_
  refine lv_iload_n hx hb zj_dpre5 rfl (lv_at hl 1 rfl) ?_
  refine lv_icmp_lt (tgt := 16) hx hb zj_dpre6 (by decide) (fun _ => ?_) (fun q => absurd h2 q)
  refine lv_iload_n hx hb zj_dpre16 rfl (lv_at hl 0 rfl) ?_
  exact W.iret hx hb hr (fun t ht hW => ⟨rfl, ht⟩) (fun q hq => by cases hq) zj_dpre17
set_option maxRecDepth 20000 in
theorem zj_chk (g : zq_G) (ix n : Int32) (h1 : ¬ ix < 0) (h2 : ix < n) : Met (zq_l g) zj_ychk (zq_jw zj_ychk prog_16_method_155_code 2 none) ({ frames := 1, cells := 0, slots := 0, locals := 22 }) (zq_jP g [.int ix, .int n]) (zq_jQ none) 0 0 (fun _ => False) := by
  refine Met.ofW (cc := prog_16_method_155_code) (maxL := 2) (ret := none) (by decide) rfl ?_
  intro p e s m args below meth c s₁ B hml hv
  obtain ⟨rfl, hro, hB⟩ := hv
  have hx := B.exec
  have hb := B.bytes
  have hr := B.returns
  have hts0 := atoms_spec (ws := zq_jw zj_ychk prog_16_method_155_code 2 none) B.pre
  have hts : ∀ w ∈ zq_tb, w.before _ s = true := fun w hw => hts0 w (List.mem_cons_of_mem _ hw)
  have hown : s.vm.findClass "java/lang/String" = some m.cls := findClass_of_methodNamed B.named
  have hlocks := B.notSynchronized
  have hS : va_S (zq_F g) s.heap s.heap [] := va_S.rf
  have hl := lv_entry ([.int ix, .int n]) (n := 2) (Nat.le_of_ble_eq_true rfl)
  rw [lg_entry_eq]
  generalize (lg_sl ([.int ix, .int n]) ++ List.replicate (2 - (lg_sl ([.int ix, .int n])).length) Slot.unset).toArray = ls at hl ⊢
  have hl : lv_has ls 2 [(0, .int ix), (1, .int n)] := hl
  refine lv_iload_n hx hb zj_dchk0 rfl (lv_at hl 0 rfl) ?_
  refine lv_iload_n hx hb zj_dchk1 rfl (lv_at hl 1 rfl) ?_
  rcases hro.2.2.2.2.2.2.2 with hz | ⟨t, hz⟩
  · refine va_gets (A := zq_F g) hx hb hz hS hown (hts _ zj_f4) (fun _ z => z) zj_dchk2 ?_
    refine zq_jback (rest := []) (va_runS (n := 3) (As := [.int ix, .int n, .null]) ⟨hx, hb, hml, hown, hts⟩ (zj_pren g ix n h1 h2) ⟨callB_of 3 hts (zq_jgood zj_kpre) rfl rfl rfl (hts _ zj_n3) (hts _ zj_m5) ⟨by decide, by decide, by decide +kernel⟩ ⟨Nat.le_of_ble_eq_true rfl, Nat.le_of_ble_eq_true rfl⟩, hts _ zj_ipre⟩ ⟨zq_jblind g _, fun U hU hW => zq_jpre [.int ix, .int n, .null] hro hB hS hU hW⟩ rfl rfl hl.1 rfl (lv_room (Nat.le_of_ble_eq_true rfl)) zj_dchk5 ⟨Nat.le_of_ble_eq_true rfl, Nat.le_of_ble_eq_true rfl⟩) ?_
    refine lv_pop (va := .int ix) hx hb zj_dchk8 rfl ?_
    exact W.vret hx hb hr (fun t ht hW => ⟨rfl, ht⟩) (fun q hq => by cases hq) zj_dchk9
  · refine va_gets (A := zq_F g) hx hb hz hS hown (hts _ zj_f4) (fun _ z => z) zj_dchk2 ?_
    refine zq_jback (rest := []) (va_runS (n := 3) (As := [.int ix, .int n, .ref t]) ⟨hx, hb, hml, hown, hts⟩ (zj_prer g ix n t h1 h2) ⟨callB_of 3 hts (zq_jgood zj_kpre) rfl rfl rfl (hts _ zj_n3) (hts _ zj_m5) ⟨by decide, by decide, by decide +kernel⟩ ⟨Nat.le_of_ble_eq_true rfl, Nat.le_of_ble_eq_true rfl⟩, hts _ zj_ipre⟩ ⟨zq_jblind g _, fun U hU hW => zq_jpre [.int ix, .int n, .ref t] hro hB hS hU hW⟩ rfl rfl hl.1 rfl (lv_room (Nat.le_of_ble_eq_true rfl)) zj_dchk5 ⟨Nat.le_of_ble_eq_true rfl, Nat.le_of_ble_eq_true rfl⟩) ?_
    refine lv_pop (va := .int ix) hx hb zj_dchk8 rfl ?_
    exact W.vret hx hb hr (fun t ht hW => ⟨rfl, ht⟩) (fun q hq => by cases hq) zj_dchk9
theorem zj_byte : ∀ j, j < 12 → ∀ i, i < zq_sl.getD j 0 → ((((zq_sb.getD j []).getD i 0 &&& 255).toUInt32 % 65536).toInt32 = (zq_sb.getD j []).getD i 0 ∧ narrow .char (.int ((zq_sb.getD j []).getD i 0)) = .int ((zq_sb.getD j []).getD i 0)) := by decide +kernel
theorem zj_in {ix : Int32} {n : Nat} (h : vp_in ix n) (hn : n < 2 ^ 31) : ¬ ix < 0 ∧ ix < nI n ∧ ix.toNatClampNeg < n := by
  obtain ⟨j, hj, rfl⟩ := vp_in_of h hn
  exact ⟨nI_pos (by omega), nI_lt hj hn, by rw [nI_clamp (by omega)]; exact hj⟩
theorem zj_sl : ∀ j, j < 12 → zq_sl.getD j 0 < 2 ^ 31 := by decide +kernel
set_option maxRecDepth 20000 in
theorem zj_lch (g : zq_G) (j : Nat) (hj : j < 12) (ix : Int32) (hin : vp_in ix (zq_sl.getD j 0)) : Met (zq_l g) zj_ylch (zq_jw zj_ylch prog_17_method_2_code 2 (some .char)) ({ frames := 2, cells := 0, slots := 0, locals := 43 }) (zq_jP g [.ref (zq_av g j), .int ix]) (zq_jQ (some (.int ((zq_sb.getD j []).getD ix.toNatClampNeg 0)))) 0 0 (fun _ => False) := by
  refine Met.ofW (cc := prog_17_method_2_code) (maxL := 2) (ret := (some .char)) (by decide) rfl ?_
  intro p e s m args below meth c s₁ B hml hv
  obtain ⟨rfl, hro, hB⟩ := hv
  have hx := B.exec
  have hb := B.bytes
  have hr := B.returns
  have hts0 := atoms_spec (ws := zq_jw zj_ylch prog_17_method_2_code 2 (some .char)) B.pre
  have hts : ∀ w ∈ zq_tb, w.before _ s = true := fun w hw => hts0 w (List.mem_cons_of_mem _ hw)
  have hown : s.vm.findClass "java/lang/StringLatin1" = some m.cls := findClass_of_methodNamed B.named
  have hlocks := B.notSynchronized
  have hS : va_S (zq_F g) s.heap s.heap [] := va_S.rf
  have hl := lv_entry ([.ref (zq_av g j), .int ix]) (n := 2) (Nat.le_of_ble_eq_true rfl)
  rw [lg_entry_eq]
  generalize (lg_sl ([.ref (zq_av g j), .int ix]) ++ List.replicate (2 - (lg_sl ([.ref (zq_av g j), .int ix])).length) Slot.unset).toArray = ls at hl ⊢
  have hl : lv_has ls 2 [(0, .ref (zq_av g j)), (1, .int ix)] := hl
  obtain ⟨i1, i2, i3⟩ := zj_in hin (zj_sl j hj)
  obtain ⟨b1, b2⟩ := zj_byte j hj _ i3
  refine lv_iload_n hx hb zj_dlch0 rfl (lv_at hl 1 rfl) ?_
  refine lv_aload_n hx hb zj_dlch1 rfl (lv_at hl 0 rfl) ?_
  refine va_tlen (v := nI (zq_sl.getD j 0)) hx hb (hro.2.2.2.2.1.1 j hj).2.2.2 hS rfl zj_dlch2 ?_
  refine zq_jback (rest := []) (va_runS (n := 2) (As := [.int ix, .int (nI (zq_sl.getD j 0))]) ⟨hx, hb, hml, hown, hts⟩ (zj_chk g ix _ i1 i2) ⟨callB_of 2 hts (zq_jgood zj_kchk) rfl rfl rfl (hts _ zj_n1) (hts _ zj_m4) ⟨by decide, by decide, by decide +kernel⟩ ⟨Nat.le_of_ble_eq_true rfl, Nat.le_of_ble_eq_true rfl⟩, hts _ zj_ichk⟩ ⟨zq_jblind g _, fun U hU hW => zq_jpre [.int ix, .int (nI (zq_sl.getD j 0))] hro hB hS hU hW⟩ rfl rfl hl.1 rfl (lv_room (Nat.le_of_ble_eq_true rfl)) zj_dlch3 ⟨Nat.le_of_ble_eq_true rfl, Nat.le_of_ble_eq_true rfl⟩) ?_
  refine lv_aload_n hx hb zj_dlch6 rfl (lv_at hl 0 rfl) ?_
  refine lv_iload_n hx hb zj_dlch7 rfl (lv_at hl 1 rfl) ?_
  refine va_tb (v := .int ((zq_sb.getD j []).getD ix.toNatClampNeg 0)) hx hb (hro.2.2.2.2.1.1 j hj).2.2.2 hS hin rfl zj_dlch8 ?_
  refine lv_sipush (v := 255) hx hb zj_dlch9 (by decide) ?_
  refine lv_iand hx hb zj_dlch12 ?_
  refine lv_i2c hx hb zj_dlch13 b1 ?_
  exact W.zret hx hb hr b2 (fun t ht hW => ⟨rfl, ht⟩) (fun q hq => by cases hq) zj_dlch14
set_option maxRecDepth 20000 in
theorem zj_cha (g : zq_G) (j : Nat) (hj : j < 12) (ix : Int32) (hin : vp_in ix (zq_sl.getD j 0)) : Met (zq_l g) zj_ycha (zq_jw zj_ycha prog_16_method_56_code 2 (some .char)) ({ frames := 3, cells := 0, slots := 0, locals := 64 }) (zq_jP g [.ref (zq_ad g (2000 + j)), .int ix]) (zq_jQ (some (.int ((zq_sb.getD j []).getD ix.toNatClampNeg 0)))) 0 0 (fun _ => False) := by
  refine Met.ofW (cc := prog_16_method_56_code) (maxL := 2) (ret := (some .char)) (by decide) rfl ?_
  intro p e s m args below meth c s₁ B hml hv
  obtain ⟨rfl, hro, hB⟩ := hv
  have hx := B.exec
  have hb := B.bytes
  have hr := B.returns
  have hts0 := atoms_spec (ws := zq_jw zj_ycha prog_16_method_56_code 2 (some .char)) B.pre
  have hts : ∀ w ∈ zq_tb, w.before _ s = true := fun w hw => hts0 w (List.mem_cons_of_mem _ hw)
  have hown : s.vm.findClass "java/lang/String" = some m.cls := findClass_of_methodNamed B.named
  have hlocks := B.notSynchronized
  have hS : va_S (zq_F g) s.heap s.heap [] := va_S.rf
  have hl := lv_entry ([.ref (zq_ad g (2000 + j)), .int ix]) (n := 2) (Nat.le_of_ble_eq_true rfl)
  rw [lg_entry_eq]
  generalize (lg_sl ([.ref (zq_ad g (2000 + j)), .int ix]) ++ List.replicate (2 - (lg_sl ([.ref (zq_ad g (2000 + j)), .int ix])).length) Slot.unset).toArray = ls at hl ⊢
  have hl : lv_has ls 2 [(0, .ref (zq_ad g (2000 + j))), (1, .int ix)] := hl
  obtain ⟨i1, i2, i3⟩ := zj_in hin (zj_sl j hj)
  obtain ⟨b1, b2⟩ := zj_byte j hj _ i3
  refine lv_aload_n hx hb zj_dcha0 rfl (lv_at hl 0 rfl) ?_
  refine zq_jback (rest := []) (va_runV (C := "java/lang/String") (n := 0) (As := []) ⟨hx, hb, hml, hown, hts⟩ (zj_lat g j hj) ⟨callB_of 0 hts (zq_jgood zj_klat) rfl rfl rfl (hts _ zj_n1) (hts _ zj_m2) ⟨by decide, by decide, by decide +kernel⟩ ⟨Nat.le_of_ble_eq_true rfl, Nat.le_of_ble_eq_true rfl⟩, hts _ zj_ilat, hts _ zj_slat⟩ ⟨zq_jblind g _, vk_recv hro.2.2.2.2.1 hj hS, fun U hU hW => zq_jpre [.ref (zq_ad g (2000 + j))] hro hB hS hU hW⟩ rfl rfl hl.1 rfl (lv_room (Nat.le_of_ble_eq_true rfl)) zj_dcha1 ⟨Nat.le_of_ble_eq_true rfl, Nat.le_of_ble_eq_true rfl⟩) ?_
  refine lv_if_eq (x := 1) (tgt := 16) hx hb zj_dcha4 (by decide) (fun q => absurd q (by decide)) (fun _ => ?_)
  refine lv_aload_n hx hb zj_dcha7 rfl (lv_at hl 0 rfl) ?_
  refine vk_getf hx hb (hro.2.2.2.2.1.1 j hj).2.2.1 hS hown (hts _ zj_f2) (fun _ z => z) zj_dcha8 ?_
  refine lv_iload_n hx hb zj_dcha11 rfl (lv_at hl 1 rfl) ?_
  refine zq_jback (rest := []) (va_runS (n := 2) (As := [.ref (zq_av g j), .int ix]) ⟨hx, hb, hml, hown, hts⟩ (zj_lch g j hj ix hin) ⟨callB_of 2 hts (zq_jgood zj_klch) rfl rfl rfl (hts _ zj_n2) (hts _ zj_m3) ⟨by decide, by decide, by decide +kernel⟩ ⟨Nat.le_of_ble_eq_true rfl, Nat.le_of_ble_eq_true rfl⟩, hts _ zj_ilch⟩ ⟨zq_jblind g _, fun U hU hW => zq_jpre [.ref (zq_av g j), .int ix] hro hB hS hU hW⟩ rfl rfl hl.1 rfl (lv_room (Nat.le_of_ble_eq_true rfl)) zj_dcha12 ⟨Nat.le_of_ble_eq_true rfl, Nat.le_of_ble_eq_true rfl⟩) ?_
  exact W.zret hx hb hr b2 (fun t ht hW => ⟨rfl, ht⟩) (fun q hq => by cases hq) zj_dcha15
theorem zq_strlen {g : zq_G} {t : zq_T} {d : Nat} {p : Program} {e : Env} {R : Room} {s : State} {m : MethodId} {args : Array Value} {below : List Frame} {meth : Method} {c : Code} {Z : State → Prop} {cs : Nat × Nat} {h : List zq_E} {H : Heap} {locs : List Loc} {la : Array Slot} {ls rest : List Value} {o i pc : Nat} (ha : zq_act g t d p R s m args meth c) (hw : zq_wd g s cs h H locs) (hl : lv_has la t.2.2.1 (zq_lv g 0 ls)) (h1 : 2000 ≤ o) (h2 : o ≤ 2011) (h3 : zq_cat rest ≤ 8) (h5 : 5 ≤ d) (hlink : (Jvm.Cond.methodLink t.1.cls i ⟨"java/lang/String", "length", "()I"⟩).before args s = true) (hdec : decode t.2.1 pc = .ok (.invokevirtual i, 3)) (hc1 : cs.1 ≤ R.cells) (hc2 : cs.2 ≤ R.slots)
    (kk : W p (zq_l g) e R s m args below meth c H locs cs.1 cs.2 Z (F0 m (pc + 3) la (.int (nI (zq_sl.getD (o - 2000) 0)) :: rest.map (zq_c g)))) : W p (zq_l g) e R s m args below meth c H locs cs.1 cs.2 Z (F0 m pc la (.ref (zq_ad g o) :: rest.map (zq_c g))) := by
  obtain ⟨hR, hx, hb, hrt, hml, hown, hts, hlk0, hin0, hK, hro, hB, had⟩ := id ha
  obtain ⟨hlen, hcs, hP, hS⟩ := id hw
  obtain ⟨j, hj, rfl⟩ : ∃ j, j < 12 ∧ o = 2000 + j := ⟨o - 2000, by omega, by omega⟩
  have ej : 2000 + j - 2000 = j := by omega
  rw [ej] at kk
  refine zq_jback (rest := rest.map (zq_c g)) (va_runV (C := "java/lang/String") (n := 0) (As := []) ⟨hx, hb, hml, hown, hts⟩ (zj_len g j hj) ⟨callB_of 0 hts (zq_jgood zj_klen) rfl rfl rfl (hts _ zj_n1) hlink ⟨by decide, by decide, by decide +kernel⟩ ⟨by show 1 + 1 ≤ _; omega, by show 8 + (1 + 11) + 21 ≤ _; omega⟩, hts _ zj_ilen, hts _ zj_slen⟩ ⟨zq_jblind g _, vk_recv hro.2.2.2.2.1 hj hS, fun U hU hW => zq_jpre [.ref (zq_ad g (2000 + j))] hro hB hS hU hW⟩ rfl rfl hl.1 rfl (lv_room (by rw [zq_cat_map]; exact h3)) hdec ⟨hc1, hc2⟩) kk
theorem zq_strchr {g : zq_G} {t : zq_T} {d : Nat} {p : Program} {e : Env} {R : Room} {s : State} {m : MethodId} {args : Array Value} {below : List Frame} {meth : Method} {c : Code} {Z : State → Prop} {cs : Nat × Nat} {h : List zq_E} {H : Heap} {locs : List Loc} {la : Array Slot} {ls rest : List Value} {o i pc : Nat} {ix : Int32} (ha : zq_act g t d p R s m args meth c) (hw : zq_wd g s cs h H locs) (hl : lv_has la t.2.2.1 (zq_lv g 0 ls)) (h1 : 2000 ≤ o) (h2 : o ≤ 2011) (h3 : zq_cat rest ≤ 8) (h5 : 5 ≤ d) (hin : vp_in ix (zq_sl.getD (o - 2000) 0)) (hlink : (Jvm.Cond.methodLink t.1.cls i ⟨"java/lang/String", "charAt", "(I)C"⟩).before args s = true) (hdec : decode t.2.1 pc = .ok (.invokevirtual i, 3)) (hc1 : cs.1 ≤ R.cells) (hc2 : cs.2 ≤ R.slots)
    (kk : W p (zq_l g) e R s m args below meth c H locs cs.1 cs.2 Z (F0 m (pc + 3) la (.int ((zq_sb.getD (o - 2000) []).getD ix.toNatClampNeg 0) :: rest.map (zq_c g)))) : W p (zq_l g) e R s m args below meth c H locs cs.1 cs.2 Z (F0 m pc la (.int ix :: .ref (zq_ad g o) :: rest.map (zq_c g))) := by
  obtain ⟨hR, hx, hb, hrt, hml, hown, hts, hlk0, hin0, hK, hro, hB, had⟩ := id ha
  obtain ⟨hlen, hcs, hP, hS⟩ := id hw
  obtain ⟨j, hj, rfl⟩ : ∃ j, j < 12 ∧ o = 2000 + j := ⟨o - 2000, by omega, by omega⟩
  have ej : 2000 + j - 2000 = j := by omega
  rw [ej] at kk hin
  refine zq_jback (rest := rest.map (zq_c g)) (va_runV (C := "java/lang/String") (n := 1) (As := [.int ix]) ⟨hx, hb, hml, hown, hts⟩ (zj_cha g j hj ix hin) ⟨callB_of 1 hts (zq_jgood zj_kcha) rfl rfl rfl (hts _ zj_n1) hlink ⟨by decide, by decide, by decide +kernel⟩ ⟨by show 3 + 1 ≤ _; omega, by show 8 + (2 + 11) + 64 ≤ _; omega⟩, hts _ zj_icha, hts _ zj_scha⟩ ⟨zq_jblind g _, vk_recv hro.2.2.2.2.1 hj hS, fun U hU hW => zq_jpre [.ref (zq_ad g (2000 + j)), .int ix] hro hB hS hU hW⟩ rfl rfl hl.1 rfl (lv_room (by rw [zq_cat_map]; exact h3)) hdec ⟨hc1, hc2⟩) kk
