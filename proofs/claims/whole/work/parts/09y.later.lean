theorem zq_eall : ∀ (k : Nat) (t : zq_T), zq_mt[k]? = some t → zq_ok t t.2.2.2.2.1 := sorry
theorem zq_mall : ∀ (k : Nat) (u : zq_T), zq_mt[k]? = some u → k < 230 → zq_mc u = true := sorry
theorem zq_in_tb {w : Jvm.Cond} (i : Nat) (h : zq_is i w = true) : w ∈ zq_tb := zq_is_in h
theorem zq_oi1 : Jvm.Cond.instanceMethod objectInit ∈ zq_tb := zq_in_tb 106 (by decide +kernel)
theorem zq_oi2 : Jvm.Cond.code objectInit ⟨#[0xb1]⟩ 1 none ∈ zq_tb := zq_in_tb 107 (by decide +kernel)
theorem zq_mh : Jvm.Cond.initialized "java/lang/Math" ∈ zq_tb := zq_in_tb 86 (by decide +kernel)
theorem zq_mn1 : Jvm.Cond.static Lib.Math.min.name ∈ zq_tb := zq_in_tb 207 (by decide +kernel)
theorem zq_mn2 : Jvm.Cond.code Lib.Math.min.name Lib.Math.min.code 2 (some .int) ∈ zq_tb := zq_in_tb 208 (by decide +kernel)
theorem zq_mx1 : Jvm.Cond.static Lib.Math.max.name ∈ zq_tb := zq_in_tb 214 (by decide +kernel)
theorem zq_mx2 : Jvm.Cond.code Lib.Math.max.name Lib.Math.max.code 2 (some .int) ∈ zq_tb := zq_in_tb 215 (by decide +kernel)
theorem zq_ma1 : Jvm.Cond.static Lib.Math.abs.name ∈ zq_tb := zq_in_tb 783 (by decide +kernel)
theorem zq_ma2 : Jvm.Cond.code Lib.Math.abs.name Lib.Math.abs.code 1 (some .int) ∈ zq_tb := zq_in_tb 784 (by decide +kernel)
theorem zq_ac1 : Jvm.Cond.native arraycopyName ∈ zq_tb := zq_in_tb 218 (by decide +kernel)
theorem zq_ac2 : Jvm.Cond.static arraycopyName ∈ zq_tb := zq_in_tb 217 (by decide +kernel)
theorem zq_ac3 : Jvm.Cond.initialized "java/lang/System" ∈ zq_tb := zq_in_tb 87 (by decide +kernel)
theorem zq_strlen {g : zq_G} {t : zq_T} {d : Nat} {p : Program} {e : Env} {R : Room} {s : State} {m : MethodId} {args : Array Value} {below : List Frame} {meth : Method} {c : Code} {Z : State → Prop} {cs : Nat × Nat} {h : List zq_E} {H : Heap} {locs : List Loc} {la : Array Slot} {ls rest : List Value} {o i pc : Nat} (ha : zq_act g t d p R s m args meth c) (hw : zq_wd g s cs h H locs) (hl : lv_has la t.2.2.1 (zq_lv g 0 ls)) (h1 : 2000 ≤ o) (h2 : o ≤ 2011) (h3 : zq_cat rest ≤ 8) (h5 : 5 ≤ d) (hlink : (Jvm.Cond.methodLink t.1.cls i ⟨"java/lang/String", "length", "()I"⟩).before args s = true) (hdec : decode t.2.1 pc = .ok (.invokevirtual i, 3)) (hc1 : cs.1 ≤ R.cells) (hc2 : cs.2 ≤ R.slots)
    (kk : W p (zq_l g) e R s m args below meth c H locs cs.1 cs.2 Z (F0 m (pc + 3) la (.int (nI (zq_sl.getD (o - 2000) 0)) :: rest.map (zq_c g)))) : W p (zq_l g) e R s m args below meth c H locs cs.1 cs.2 Z (F0 m pc la (.ref (zq_ad g o) :: rest.map (zq_c g))) := sorry
theorem zq_strchr {g : zq_G} {t : zq_T} {d : Nat} {p : Program} {e : Env} {R : Room} {s : State} {m : MethodId} {args : Array Value} {below : List Frame} {meth : Method} {c : Code} {Z : State → Prop} {cs : Nat × Nat} {h : List zq_E} {H : Heap} {locs : List Loc} {la : Array Slot} {ls rest : List Value} {o i pc : Nat} {ix : Int32} (ha : zq_act g t d p R s m args meth c) (hw : zq_wd g s cs h H locs) (hl : lv_has la t.2.2.1 (zq_lv g 0 ls)) (h1 : 2000 ≤ o) (h2 : o ≤ 2011) (h3 : zq_cat rest ≤ 8) (h5 : 5 ≤ d) (hin : vp_in ix (zq_sl.getD (o - 2000) 0)) (hlink : (Jvm.Cond.methodLink t.1.cls i ⟨"java/lang/String", "charAt", "(I)C"⟩).before args s = true) (hdec : decode t.2.1 pc = .ok (.invokevirtual i, 3)) (hc1 : cs.1 ≤ R.cells) (hc2 : cs.2 ≤ R.slots)
    (kk : W p (zq_l g) e R s m args below meth c H locs cs.1 cs.2 Z (F0 m (pc + 3) la (.int ((zq_sb.getD (o - 2000) []).getD ix.toNatClampNeg 0) :: rest.map (zq_c g)))) : W p (zq_l g) e R s m args below meth c H locs cs.1 cs.2 Z (F0 m pc la (.int ix :: .ref (zq_ad g o) :: rest.map (zq_c g))) := sorry
