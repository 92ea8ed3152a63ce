/-- the words that every method may rest on -/
def zq_tb : List Jvm.Cond := lw_tbl.filter goodWord
def zq_ix : List Nat → Nat → Nat
  | [], _ => 0
  | a :: _, 0 => a
  | _ :: r, n + 1 => zq_ix r n
/-! what a program checks of the lists -/
def zq_is (i : Nat) (w : Jvm.Cond) : Bool := decide (lw_tbl[i]? = some w) && goodWord w
theorem zq_is_in {i : Nat} {w : Jvm.Cond} (h : zq_is i w = true) : w ∈ zq_tb := by
  simp only [zq_is, Bool.and_eq_true, decide_eq_true_eq] at h
  exact List.mem_filter.mpr ⟨List.mem_of_getElem? h.1, h.2⟩
def zq_ax (aux : List Nat) : Bool := match zq_sh[zq_ix aux 3]? with
  | some (.inr q) => Nat.beq (zq_ix aux 0) q.1 && (match q.2[zq_ix aux 1]? with
    | some none => Nat.beq (zq_ix aux 4) 0
    | some (some r) => Nat.beq (zq_ix aux 4) (r + 1)
    | none => false)
  | _ => false
def zq_fk (t : zq_T) (aux : List Nat) (i : Nat) : Bool := match vwCl[zq_ix aux 0]? with
  | some q => (Nat.blt (zq_ix aux 1) q.2.2 && zq_is (zq_ix aux 5) (.fieldLink t.1.cls i (q.2.1 (zq_ix aux 1)).1 (q.2.1 (zq_ix aux 1)).2.1 (q.2.1 (zq_ix aux 1)).2.2.1)) && zq_ax aux
  | none => false
def zq_fp (t : zq_T) (aux : List Nat) : Bool := match vwCl[zq_ix aux 0]? with
  | some q => (!(q.2.1 (zq_ix aux 1)).2.2.2 || (decide (t.1.name = "<init>") && decide ((q.2.1 (zq_ix aux 1)).1 = t.1.cls))) && (match zq_ix aux 2, parseFieldDescriptor (q.2.1 (zq_ix aux 1)).2.2.1 with
    | 0, some .int => true
    | 1, some .boolean => true
    | 2, some (.object _) => true
    | 2, some (.array _) => true
    | _, _ => false)
  | none => false
/-- a method's own words -/
def zq_mc (u : zq_T) : Bool := zq_is (zq_ix u.2.2.2.2.2.2 0) (.code u.1 u.2.1 u.2.2.1 u.2.2.2.1) && (zq_is (zq_ix u.2.2.2.2.2.2 1) (.initialized u.1.cls) && (plainName u.1.cls && (decide (u.1.cls ≠ "java/lang/invoke/MethodHandle") && (decide (u.1.cls ≠ "java/lang/invoke/VarHandle") && Nat.ble u.2.2.1 45))))
/-- a call's resolution -/
def zq_ck (u : zq_T) (aux : List Nat) : Bool := decide ((parseMethodDescriptor u.1.desc).map (fun d => d.parameters.length) = some (zq_ix aux 2)) && (Nat.beq (zq_ix aux 3) u.2.2.1 && (Nat.beq (zq_ix aux 7) u.2.2.2.2.2.1.1 && (Nat.beq (zq_ix aux 8) u.2.2.2.2.2.1.2 && Nat.blt (zq_ix aux 1) 230)))
def zq_vk (t : zq_T) (aux : List Nat) (i : Nat) : Bool := match zq_mt[zq_ix aux 1]? with
  | some u => zq_ck u aux && (zq_is (zq_ix aux 4) (.methodLink t.1.cls i u.1) && (zq_is (zq_ix u.2.2.2.2.2.2 2) (.instanceMethod u.1) && (zq_is (zq_ix u.2.2.2.2.2.2 3) (.selects u.1.cls u.1 u.1) && (decide ((vwCl[zq_ix aux 5]?).map (fun q => q.1) = some u.1.cls) && (Nat.beq (zq_ix aux 7) 0 && Nat.beq (zq_ix aux 8) 0)))))
  | none => false
def zq_ik (t : zq_T) (aux : List Nat) (i : Nat) : Bool := match zq_mt[zq_ix aux 1]? with
  | some u => zq_ck u aux && (zq_is (zq_ix u.2.2.2.2.2.2 2) (.instanceMethod u.1) && (decide (u.1.name = "<init>") && (decide (u.2.2.2.1 = none) && (match zq_ix aux 0 with
    | 1 => zq_is (zq_ix aux 4) (.methodLink t.1.cls i u.1)
    | 8 => decide ((zq_nm[zq_ix aux 4]?).map (fun q => (q.1, q.2.1, q.2.2.1)) = some (t.1.cls, i, u.1))
    | _ => false))))
  | none => false
def zq_sk (t : zq_T) (aux : List Nat) (i : Nat) : Bool := match zq_mt[zq_ix aux 1]? with
  | some u => zq_ck u aux && (zq_is (zq_ix u.2.2.2.2.2.2 2) (.static u.1) && ((Nat.beq (zq_ix aux 7) 0 && Nat.beq (zq_ix aux 8) 0) && (match zq_ix aux 0 with
    | 1 => zq_is (zq_ix aux 4) (.methodLink t.1.cls i u.1)
    | 8 => decide ((zq_nm[zq_ix aux 4]?).map (fun q => (q.1, q.2.1, q.2.2.1)) = some (t.1.cls, i, u.1))
    | _ => false)))
  | none => false
def zq_lk (t : zq_T) (pc : Nat) (ins : Instr) (len : Nat) (aux : List Nat) (cst : Value) : Bool := match ins with
  | .iconst n => decide (cst = .int (Int32.ofInt n)) && Nat.beq len 1
  | .bipush n => decide (cst = .int (Int8.ofInt n).toInt32) && Nat.beq len 2
  | .sipush n => decide (cst = .int (Int16.ofInt n).toInt32) && Nat.beq len 3
  | .lconst n => decide (cst = .long (Int64.ofNat n.val)) && Nat.beq len 1
  | .ldc2_w i => (match cst with
    | .long v => zq_is (zq_ix aux 1) (.constantLong t.1.cls i v)
    | _ => false) && Nat.beq len 3
  | .ldc i => (match aux with
    | [1, j] => decide ((zq_ss[j]?).map (fun q => (q.1, q.2.1)) = some (t.1.cls, i))
    | _ => match cst with
      | .int v => zq_is (zq_ix aux 1) (.constant t.1.cls i v)
      | _ => false) && Nat.beq len 2
  | .iload i => Nat.beq (zq_ix aux 0) i && Nat.beq len 2
  | .lload i => Nat.beq (zq_ix aux 0) i && Nat.beq len 2
  | .aload i => Nat.beq (zq_ix aux 0) i && Nat.beq len 2
  | .iload_n i => Nat.beq (zq_ix aux 0) i.val && Nat.beq len 1
  | .lload_n i => Nat.beq (zq_ix aux 0) i.val && Nat.beq len 1
  | .aload_n i => Nat.beq (zq_ix aux 0) i.val && Nat.beq len 1
  | .istore i => (Nat.beq (zq_ix aux 0) i && Nat.blt i t.2.2.1) && Nat.beq len 2
  | .astore i => (Nat.beq (zq_ix aux 0) i && Nat.blt i t.2.2.1) && Nat.beq len 2
  | .lstore i => (Nat.beq (zq_ix aux 0) i && Nat.blt (i + 1) t.2.2.1) && Nat.beq len 2
  | .istore_n i => (Nat.beq (zq_ix aux 0) i.val && Nat.blt i.val t.2.2.1) && Nat.beq len 1
  | .astore_n i => (Nat.beq (zq_ix aux 0) i.val && Nat.blt i.val t.2.2.1) && Nat.beq len 1
  | .lstore_n i => (Nat.beq (zq_ix aux 0) i.val && Nat.blt (i.val + 1) t.2.2.1) && Nat.beq len 1
  | .iinc i n => ((Nat.beq (zq_ix aux 0) i && Nat.blt i t.2.2.1) && decide (cst = .int (Int32.ofInt n))) && Nat.beq len 3
  | .ifCond _ off => decide ((pc : Int) + off = ((zq_ix aux 0 : Nat) : Int)) && Nat.beq len 3
  | .if_icmp _ off => decide ((pc : Int) + off = ((zq_ix aux 0 : Nat) : Int)) && Nat.beq len 3
  | .goto off => decide ((pc : Int) + off = ((zq_ix aux 0 : Nat) : Int)) && Nat.beq len 3
  | .tableswitch dflt lo hi offs => decide ((pc : Int) + dflt = ((zq_ix aux 0 : Nat) : Int)) && (decide (offs.toList.map (fun o => (pc : Int) + o) = (aux.drop 1).map (fun n : Nat => (n : Int))) && (decide (hi + 1 = lo + (aux.drop 1).length) && decide (0 < (aux.drop 1).length)))
  | .getfield i => zq_fk t aux i && Nat.beq len 3
  | .putfield i => (zq_fk t aux i && zq_fp t aux) && Nat.beq len 3
  | .getstatic i => (Nat.blt (zq_ix aux 0) 5 && (match zq_ix aux 1 with
    | 0 => zq_is (zq_ix aux 2) (.fieldLink t.1.cls i "WalkingStones" (zq_sn.getD (zq_ix aux 0) "") "[I")
    | _ => decide ((zq_nf[zq_ix aux 2]?).map (fun q => (q.1, q.2.1, q.2.2.1, q.2.2.2.1, q.2.2.2.2.1)) = some (t.1.cls, i, "WalkingStones", zq_sn.getD (zq_ix aux 0) "", "[I")))) && Nat.beq len 3
  | .newarray ty => zq_is (zq_ix aux 0) (.arrayClass (newarray.typeOf ty)) && Nat.beq len 2
  | .new i => (match vwCl[zq_ix aux 0]? with
    | some q => Nat.beq (zq_ix aux 1) q.2.2 && (zq_is (zq_ix aux 2) (.classLink t.1.cls i q.1) && (zq_is (zq_ix aux 3) (.instantiable q.1 q.2.2) && zq_is (zq_ix aux 4) (.initialized q.1)))
    | none => false) && Nat.beq len 3
  | .invokevirtual i => (match zq_ix aux 0 with
    | 1 => zq_vk t aux i
    | 6 => zq_is (zq_ix aux 1) (.methodLink t.1.cls i ⟨"java/lang/String", "length", "()I"⟩)
    | 7 => zq_is (zq_ix aux 1) (.methodLink t.1.cls i ⟨"java/lang/String", "charAt", "(I)C"⟩)
    | _ => false) && Nat.beq len 3
  | .invokespecial i => (match zq_ix aux 0 with
    | 0 => zq_is (zq_ix aux 1) (.methodLink t.1.cls i objectInit)
    | _ => zq_ik t aux i) && Nat.beq len 3
  | .invokestatic i => (match zq_ix aux 0 with
    | 2 => zq_is (zq_ix aux 1) (.methodLink t.1.cls i Lib.Math.max.name)
    | 3 => zq_is (zq_ix aux 1) (.methodLink t.1.cls i Lib.Math.min.name)
    | 4 => zq_is (zq_ix aux 1) (.methodLink t.1.cls i Lib.Math.abs.name)
    | 5 => zq_is (zq_ix aux 1) (.methodLink t.1.cls i arraycopyName)
    | _ => zq_sk t aux i) && Nat.beq len 3
  | _ => true && Nat.beq len 1
def zq_ek (t : zq_T) (e : zq_I) : Bool := (match decode t.2.1 e.1 with
  | .ok r => decide (r = (e.2.1, e.2.2.1))
  | .error _ => false) && zq_lk t e.1 e.2.1 e.2.2.1 e.2.2.2.1 e.2.2.2.2.1
def zq_ch : List zq_I → Bool
  | e :: r => match r with
    | [] => true
    | e' :: _ => Nat.beq e'.1 (e.1 + e.2.2.1) && zq_ch r
  | [] => true
def zq_ok (t : zq_T) (tl : List zq_I) : Prop := (∀ e ∈ tl, zq_ek t e = true) ∧ zq_ch tl = true
