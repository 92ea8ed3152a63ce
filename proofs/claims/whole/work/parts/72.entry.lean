/-! what is read only, at the law's entry -/
theorem zz_size {n N : Nat} (hn : n < 2 ^ 31) (hN : N < 2 ^ 31) (h : n.toInt32 = Int32.ofNat N) : n = N := by
  have h1 : (Int32.ofNat n).toInt = (Int32.ofNat N).toInt := congrArg Int32.toInt h
  rw [Int32.toInt_ofNat_small hn, Int32.toInt_ofNat_small hN] at h1
  omega
/-- a row that a static holds -/
theorem zz_row {args : Array Value} {s : State} {tm : Term} {N : Nat} {f : Nat → Int32} (hN : N < 2 ^ 31) (harr : (Cond.arrayOf tm .int).before args s = true) (hlen : (Cond.eq (.length tm) (.int (Int32.ofNat N))).before args s = true) (hel : ∀ j : Nat, j < N → (Cond.eq (.elem tm (.int (Int32.ofNat j))) (.int (f j))).before args s = true) : ∃ t : Nat, tm.eval args s none [] s = some (.ref t) ∧ va_X t N f s s.heap ∧ t < s.heap.size := by
  have hv := va_eqt hlen
  obtain ⟨t, ht, cell, h1, h2, h3, h4, h5, h6, -⟩ := va_Tof (f := fun j => .int (f j)) (A := fun _ => False) hN harr hv (fun j hj => va_eqt (hel j hj)) (fun _ _ h => h)
  obtain ⟨b, cell', ht', harr', -⟩ := Term.length_spec hv
  cases ht.symm.trans ht'
  have hsz : cell'.slots.size < 2 ^ 31 := by
    simp only [Term.eval, ht, harr', Option.bind_eq_bind, Option.bind_some] at hv
    by_cases hlt : cell'.slots.size < 2147483648
    · exact hlt
    · simp [hlt] at hv
  obtain ⟨hcell, -, -, -⟩ := State.arrayAt?_spec harr'
  cases h1.symm.trans hcell
  exact ⟨t, ht, ⟨cell, h1, h2, h3, zz_size hsz hN h5, h6⟩, (Array.getElem?_eq_some_iff.mp h1).1⟩
def zz_st (j : Nat) : Term := .static "WalkingStones" (zq_sn.getD j "") "[I"
def zz_tm (i : Nat) : Term := .string (zq_ss.getD i ("", 0, "")).1 (zq_ss.getD i ("", 0, "")).2.1
def zz_fl : List Cond := flatC (Jvm.Cond.and given_1 narrow_1)
def zz_in (w : Cond) : Bool := decide (w ∈ zz_fl)
theorem zz_s1 : (List.range 5).all (fun j => zz_in (.arrayOf (zz_st j) .int) && zz_in (.eq (.length (zz_st j)) (.int (Int32.ofNat (zq_sv.getD j []).length)))) = true := by decide +kernel
theorem zz_s2 : (List.range 5).all (fun j => (List.range (zq_sv.getD j []).length).all (fun i => zz_in (.eq (.elem (zz_st j) (.int (Int32.ofNat i))) (.int ((zq_sv.getD j []).getD i 0))))) = true := by decide +kernel
theorem zz_t1 : (List.range 12).all (fun i => zz_in (.exactly (zz_tm i) "java/lang/String") && (zz_in (.eq (.field (zz_tm i) "java/lang/String" "coder" "B") (.int 0)) && (zz_in (.arrayOf (.field (zz_tm i) "java/lang/String" "value" "[B") .byte) && zz_in (.eq (.length (.field (zz_tm i) "java/lang/String" "value" "[B")) (.int (Int32.ofNat (zq_sl.getD i 0))))))) = true := by decide +kernel
theorem zz_t2 : (List.range 12).all (fun i => (List.range (zq_sl.getD i 0)).all (fun j => zz_in (.eq (.elem (.field (zz_tm i) "java/lang/String" "value" "[B") (.int (Int32.ofNat j))) (.int ((zq_sb.getD i []).getD j 0))))) = true := by decide +kernel
theorem zz_t3 : (List.range 12).all (fun i => (List.range 12).all (fun j => decide (i = j) || (zz_in (.not (.eq (zz_tm i) (zz_tm j))) || zz_in (.not (.eq (zz_tm j) (zz_tm i)))))) = true := by decide +kernel
theorem zz_t4 : (List.range 12).all (fun i => Nat.blt (zq_sl.getD i 0) 100 && decide (zq_ss[i]? = some (zq_ss.getD i ("", 0, "")))) = true := by decide +kernel
theorem zz_u1 : zz_in (.eq (.static "java/lang/String" "COMPACT_STRINGS" "Z") (.int 1)) = true := by decide +kernel
theorem zz_u2 : zz_in (.isRef (.static "jdk/internal/util/Preconditions" "SIOOBE_FORMATTER" "Ljava/util/function/BiFunction;")) = true := by decide +kernel
/-! words of the tables -/
def zz_iw (w : Cond) : Bool := decide (w ∈ lw_tbl)
theorem zz_w1 : (List.range 5).all (fun j => zz_iw (.laysStatic "WalkingStones" (zq_sn.getD j "") "[I") && Nat.blt (zq_sv.getD j []).length 100) = true := by decide +kernel
theorem zz_w2 : (zz_iw (.initialized "WalkingStones") && (zz_iw (.laysStatic "java/lang/String" "COMPACT_STRINGS" "Z") && (zz_iw (.initialized "java/lang/String") && (zz_iw (.laysStatic "jdk/internal/util/Preconditions" "SIOOBE_FORMATTER" "Ljava/util/function/BiFunction;") && zz_iw (.initialized "jdk/internal/util/Preconditions"))))) = true := by decide +kernel
theorem zz_w3 : zq_nm.all (fun q => zz_iw (.methodLinkNest q.1 q.2.1 q.2.2.1 q.2.2.2)) = true := by decide +kernel
theorem zz_w4 : zq_nf.all (fun q => zz_iw (.fieldLinkNest q.1 q.2.1 q.2.2.1 q.2.2.2.1 q.2.2.2.2.1 q.2.2.2.2.2)) = true := by decide +kernel
theorem zz_w5 : zq_ss.all (fun q => zz_iw (.stringRef q.1 q.2.1 q.2.2)) = true := by decide +kernel
theorem zz_w6 : vwCl.all (fun q => zz_iw (.instantiable q.1 q.2.2)) = true := by decide +kernel
theorem zz_w7 : (zz_iw (.arrayClass .int) && zz_iw (.arrayClass .boolean)) = true := by decide +kernel
theorem zz_rg {n : Nat} {f : Nat → Bool} (h : (List.range n).all f = true) : ∀ i, i < n → f i = true := fun i hi => List.all_eq_true.mp h i (List.mem_range.mpr hi)
