theorem zq_st_ok {X : Type} {g : zq_G} {O : zq_O X} {rep : X → List zq_E} {t : zq_T} {k d : Nat} {Q : Option Value → X → Prop} {nx : List zq_I → List Value → List Value → Nat × Nat → X → Prop} {ny : Nat → List Value → List Value → Nat × Nat → X → Prop} (C : zq_cx g O rep t k d Q nx ny) {tail : List zq_I} {ls st : List Value} {cs : Nat × Nat} {x : X} (hg : zq_ok t tail) (h : zq_st g O rep t.2.2.2.2.1 t.2.2.2.1 t.2.2.2.2.2.1 d Q nx ny tail ls st cs x) : zq_x g rep d k (zq_pc tail) ls st cs x Q := by
  match tail, hg, h with
  | [], hg, h => exact h.elim
  | (pc, ins, len, aux, cst, mask) :: tl, hg, h =>
    cases ins with
    | iadd => exact zq_s_iadd C hg h
    | isub => exact zq_s_isub C hg h
    | imul => exact zq_s_imul C hg h
    | iand => exact zq_s_iand C hg h
    | ior => exact zq_s_ior C hg h
    | ishl => exact zq_s_ishl C hg h
    | ishr => exact zq_s_ishr C hg h
    | ladd => exact zq_s_ladd C hg h
    | lsub => exact zq_s_lsub C hg h
    | lmul => exact zq_s_lmul C hg h
    | land => exact zq_s_land C hg h
    | lor => exact zq_s_lor C hg h
    | idiv => exact zq_s_idiv C hg h
    | irem => exact zq_s_irem C hg h
    | ldiv => exact zq_s_ldiv C hg h
    | lrem => exact zq_s_lrem C hg h
    | ineg => exact zq_s_ineg C hg h
    | i2l => exact zq_s_i2l C hg h
    | l2i => exact zq_s_l2i C hg h
    | i2b => exact zq_s_i2b C hg h
    | i2s => exact zq_s_i2s C hg h
    | lshl => exact zq_s_lshl C hg h
    | lshr => exact zq_s_lshr C hg h
    | lcmp => exact zq_s_lcmp C hg h
    | dup => exact zq_s_dup C hg h
    | pop => exact zq_s_pop C hg h
    | dup2 => exact zq_s_dup2 C hg h
    | iaload => exact zq_s_iaload C hg h
    | arraylength => exact zq_s_arraylength C hg h
    | iastore => exact zq_s_iastore C hg h
    | bastore => exact zq_s_bastore C hg h
    | baload => exact zq_s_baload C hg h
    | ireturn => exact zq_s_ireturn C hg h
    | lreturn => exact zq_s_lreturn C hg h
    | iconst _ => exact zq_s_iconst C hg h
    | bipush _ => exact zq_s_bipush C hg h
    | sipush _ => exact zq_s_sipush C hg h
    | lconst _ => exact zq_s_lconst C hg h
    | ldc2_w _ => exact zq_s_ldc2_w C hg h
    | ldc _ => exact zq_s_ldc C hg h
    | iload _ => exact zq_s_iload C hg h
    | lload _ => exact zq_s_lload C hg h
    | aload _ => exact zq_s_aload C hg h
    | iload_n _ => exact zq_s_iload_n C hg h
    | lload_n _ => exact zq_s_lload_n C hg h
    | aload_n _ => exact zq_s_aload_n C hg h
    | istore _ => exact zq_s_istore C hg h
    | astore _ => exact zq_s_astore C hg h
    | lstore _ => exact zq_s_lstore C hg h
    | istore_n _ => exact zq_s_istore_n C hg h
    | astore_n _ => exact zq_s_astore_n C hg h
    | lstore_n _ => exact zq_s_lstore_n C hg h
    | goto _ => exact zq_s_goto C hg h
    | getfield _ => exact zq_s_getfield C hg h
    | putfield _ => exact zq_s_putfield C hg h
    | getstatic _ => exact zq_s_getstatic C hg h
    | newarray _ => exact zq_s_newarray C hg h
    | new _ => exact zq_s_new C hg h
    | iinc _ _ => exact zq_s_iinc C hg h
    | tableswitch _ _ _ _ => exact zq_s_tableswitch C hg h
    | invokevirtual _ => exact zq_s_virt C hg h
    | invokespecial _ => exact zq_s_spec C hg h
    | invokestatic _ => exact zq_s_stat C hg h
    | return_ => exact zq_s_return C hg h
    | ifCond q _ => cases q with
      | eq => exact zq_s_if_eq C hg h
      | ne => exact zq_s_if_ne C hg h
      | lt => exact zq_s_if_lt C hg h
      | ge => exact zq_s_if_ge C hg h
      | gt => exact zq_s_if_gt C hg h
      | le => exact zq_s_if_le C hg h
    | if_icmp q _ => cases q with
      | eq => exact zq_s_ic_eq C hg h
      | ne => exact zq_s_ic_ne C hg h
      | lt => exact zq_s_ic_lt C hg h
      | ge => exact zq_s_ic_ge C hg h
      | gt => exact zq_s_ic_gt C hg h
      | le => exact zq_s_ic_le C hg h
    | _ => exact False.elim h
theorem zq_nx_ok {X : Type} {g : zq_G} {rep : X → List zq_E} {t : zq_T} {k d : Nat} {Q : Option Value → X → Prop} {go : List zq_I → List Value → List Value → Nat × Nat → X → Prop} (hgo : ∀ tl ls st cs x, zq_ok t tl → go tl ls st cs x → zq_x g rep d k (zq_pc tl) ls st cs x Q) {tl : List zq_I} {ls st : List Value} {cs : Nat × Nat} {x : X} (hg : zq_ok t tl) (h : zq_nx g rep d k Q go tl ls st cs x) : tl ≠ [] ∧ zq_x g rep d k (zq_pc tl) ls st cs x Q := by
  match tl, hg, h with
  | [], _, h => exact h.elim
  | (pc, ins, len, aux, cst, []) :: tl, hg, h => exact ⟨by simp, hgo _ _ _ _ _ hg h⟩
  | (pc, ins, len, aux, cst, b :: mask) :: tl, hg, h => exact ⟨by simp, zq_g.mask (b := b :: mask) h⟩
theorem zq_wp_ok {X : Type} {g : zq_G} {O : zq_O X} {rep : X → List zq_E} {t : zq_T} {k d : Nat} {Q : Option Value → X → Prop} (hO : zq_lw rep O) (ht : zq_mt[k]? = some t) (hc : zq_ok t t.2.2.2.2.1) : ∀ (n : Nat) (tl : List zq_I) (ls st : List Value) (cs : Nat × Nat) (x : X), zq_ok t tl → zq_wp g O rep t.2.2.2.2.1 t.2.2.2.1 t.2.2.2.2.2.1 d k Q n tl ls st cs x → zq_x g rep d k (zq_pc tl) ls st cs x Q
  | 0, tl, ls, st, cs, x, hg, h => h.elim
  | n + 1, tl, ls, st, cs, x, hg, h => by
    have ih := zq_wp_ok (g := g) (d := d) (Q := Q) hO ht hc n
    refine zq_st_ok ⟨hO, ht, hc, fun tl ls st cs x hg h => zq_nx_ok ih hg h, fun a ls st cs x h => ?_⟩ hg h
    obtain ⟨h1, h2⟩ := zq_ok.sf a hc
    obtain ⟨h3, h4⟩ := zq_nx_ok ih h1 h
    rw [h2 h3] at h4
    exact h4
/-- THE WALK: from a place on, n instructions or to the next cut -/
theorem zq_go {X : Type} {g : zq_G} {O : zq_O X} {rep : X → List zq_E} {t : zq_T} {k d pc : Nat} {Q : Option Value → X → Prop} {ls st : List Value} {cs : Nat × Nat} {x : X} (hO : zq_lw rep O) (ht : zq_mt[k]? = some t) (n : Nat) (h : zq_wp g O rep t.2.2.2.2.1 t.2.2.2.1 t.2.2.2.2.2.1 d k Q n (zq_sf t.2.2.2.2.1 pc) ls st cs x) : zq_x g rep d k pc ls st cs x Q := by
  have hc := zq_eall k t ht
  obtain ⟨h1, h2⟩ := zq_ok.sf pc hc
  have h3 := zq_wp_ok hO ht hc n _ ls st cs x h1 h
  have h4 : zq_sf t.2.2.2.2.1 pc ≠ [] := by
    intro e
    rw [e] at h
    cases n with
    | zero => exact h
    | succ n => exact h
  rw [h2 h4] at h3
  exact h3
