theorem c_X12_worthOf {g : zq_G} {d : Nat} {M : zq_M} {Q : Option Value → zq_M → Prop} {n : Int32} (hR : R5 M) (hV : M 48 27 = -1) (c1 : 0 ≤ n.toInt) (c2 : n.toInt < 60) (hq : ∀ N : zq_M, Q (some (.int (woZ M n))) (mv [62] N M)) : mx g (d + 3) kX12_worthOf 0 [.ref 48, .int n, .null] [] M Q := by
  obtain ⟨hS, hN, hH, hT, hX⟩ := id hR
  have f99 : (99 : Int32).toInt = 99 := rfl
  refine mx_go 250 zq_t215 ?_
  show mx g (d + 2) kX12_tellsRule 0 [.ref 48, .int (2), .int (0), .int (n), .int ((-1)), .null, .null, .null, .null] [] M _
  refine c_X12_tellsRule (r := M 13 5) (co := M 14) (en := M 15) (num := 0) (wet := M 6 n.toNatClampNeg) (ice := M 7 n.toNatClampNeg) (wi := M 8 n.toNatClampNeg) hX hX.2.1 rfl rfl rfl (by decide) (by decide) c1 c2 (by decide) (congrFun hN.2.1 _) (congrFun hN.2.2.1 _) (wi_now hV (congrFun hN.2.2.2.1 _)) ⟨fun z => absurd z (by decide), fun _ => rfl⟩ (fun N => ?_)
  rw [show (Int32.toInt 2).toNat = 2 from rfl]
  have good := hq N
  unfold woZ woJ at good
  generalize evV (fct 0 0 n (M 6 n.toNatClampNeg) (M 7 n.toNatClampNeg) (M 8 n.toNatClampNeg)) (tl (M 14) (M 15) (M 13 5).toInt.toNat 2) = v at good ⊢
  show (0 ≤ (v : Int32) → ((v : Int32) ≤ (99 : Int32) → Q (some (.int v)) (mv [62] N M)) ∧ (¬ (v : Int32) ≤ (99 : Int32) → Q (some (.int 99)) (mv [62] N M))) ∧ (¬ 0 ≤ (v : Int32) → Q (some (.int 0)) (mv [62] N M))
  refine ⟨fun z => ⟨fun y => ?_, fun y => ?_⟩, fun z => ?_⟩
  · rw [if_pos z, if_pos y] at good; exact good
  · rw [if_pos z, if_neg y] at good; exact good
  · rw [if_neg z] at good; exact good
theorem csF_up {c : Nat → Nat} {s : Nat} {z : Int32} (z1 : 0 ≤ z.toInt) (up : (z + 1).toInt = z.toInt + 1) : csF c s (z + 1).toInt.toNat = csF c s z.toInt.toNat + (if s.testBit z.toInt.toNat = true then c z.toInt.toNat else 0) := by
  rw [up, show (z.toInt + 1).toNat = z.toInt.toNat + 1 by omega]
  rfl
theorem bet_tr {wa ca a wb cb b wc cc c : Nat} (h1 : bet wa ca a wb cb b) (h2 : bet wb cb b wc cc c) : bet wa ca a wc cc c := by
  unfold bet at *
  omega
theorem m_look {g : zq_G} {d : Nat} {M : zq_M} {Q : Option Value → zq_M → Prop} {p0 p1 : Int32} (hR : RR M) (hq : ∀ (v : Int32) (M' : zq_M), fr (fL sL) M M' → F_look p0 p1 M v → Q (some (.int v)) M') : mx g (d + 6) kX12_look_ 0 [.ref 48, .int p0, .int p1, .null, .null, .null, .null, .null, .null, .null, .null] [] M Q := by
  have hR5 := RR_5 hR
  have hV : M 48 27 = -1 := hR.2.2.2.2.2.2.2.2.2
  obtain ⟨hS, hN, hH, hT, hX⟩ := id hR5
  have s1 := hS.1
  have s4 := hS.2.2.2.1
  have s5 := hS.2.2.2.2.1
  have n1 := hN.1
  have n6 := hN.2.2.2.2.2.1
  have n7 := hN.2.2.2.2.2.2.1
  have h1 := hH.1
  have h4 := hH.2.2.2.1
  have h5 := hH.2.2.2.2.1
  have f99 : (99 : Int32).toInt = 99 := rfl
  have f2 : (2 : Int32).toInt = 2 := rfl
  have f3 : (3 : Int32).toInt = 3 := rfl
  have f12 : (12 : Int32).toInt = 12 := rfl
  have hbad : ¬ ((0 ≤ p0.toInt ∧ p0.toInt ≤ 99) ∧ inR p1.toInt 3) → Q (some (.int (-2))) M := fun z => hq _ M fr_rfl ⟨fun _ => rfl, fun y => absurd y z⟩
  have hk0 : kF M = if (M 5 4).toInt < 12 then (M 5 4).toInt.toNat else 12 := rfl
  have hk12 : kF M ≤ 12 ∧ ((kF M : Nat) : Int) ≤ (M 5 4).toInt := by rw [hk0]; split <;> omega
  have e52 : M 52 = M 7 := hN.2.2.1
  have main : ∀ f : Int32, f.toInt = ((kF M : Nat) : Int) → 0 ≤ p0.toInt → p0.toInt ≤ 99 → 0 ≤ p1.toInt → p1.toInt ≤ 2 → mx g (d + 6) kX12_look_ 46 [.ref 48, .int p0, .int p1, .int f, .int 0, .null, .null, .null, .null, .null, .null] [] M Q := by
    intro f hf k1 k2 k3 k4
    replace hq := fun v M' hf hv => hq v M' hf ⟨fun w => absurd ⟨⟨k1, k2⟩, k3, by omega⟩ w, fun _ => hv⟩
    clear hbad
    have epw : ((1 : Int32) <<< (f &&& 31)).toInt = ((2 ^ kF M : Nat) : Int) := by
      have := shl_k f.toInt.toNat (by omega)
      rw [← n_of (show 0 ≤ f.toInt by omega), hf, Int.toNat_natCast] at this
      rw [this, Int.natCast_pow]
      rfl
    have pwb : 2 ^ kF M ≤ 2 ^ 12 := Nat.pow_le_pow_right (by decide) hk12.1
    rw [show (2 : Nat) ^ 12 = 4096 from rfl] at pwb
    have pw1 := Nat.two_pow_pos (kF M)
    have cbd := fun (s k : Nat) => csF_b (c := cF M) (b := s) (B := 12) (fun n => (cF_b hR5 n).2.1) k
    have wbd := fun (s k : Nat) => csF_b (c := wF M) (b := s) (B := 99) (fun n => (wF_b n).1) k
    refine mx_wf (fun x : Int32 => [.ref 48, .int p0, .int p1, .int f, .int x, .null, .null, .null, .null, .null, .null]) (fun x M' => 0 ≤ x.toInt ∧ x.toInt ≤ f.toInt ∧ fr (fL sL) M M' ∧ ∀ i : Nat, (i : Int) < x.toInt → M' 79 i = woZ M (nI i)) (fun x => (f.toInt - x.toInt).toNat) ?_ 0 M ⟨by decide, by rw [n_0]; omega, fr_rfl, fun i hi => by rw [n_0] at hi; omega⟩
    intro x M' ⟨i1, i2, i3, i4⟩ ih
    refine mx_go 250 zq_t216 ?_
    show ((f : Int32) ≤ (x : Int32) → mx g (d + 6) kX12_look_ 83 [.ref 48, .int (p0), .int (p1), .int (f), .int (0), .int (0), .int (0), .int (1), .null, .null, .null] [] M' Q) ∧ (¬ (f : Int32) ≤ (x : Int32) → mx g (d + 5) kX12_worthOf 0 [.ref 48, .int (x), .null] [] M' _)
    refine ⟨fun q => ?_, fun q => ?_⟩
    rotate_left
    · rw [n_le] at q
      have up := n_up (n := f) i1 (by omega)
      refine c_X12_worthOf (R5_fr i3 hR5) ((i3 48 27 rfl).trans hV) i1 (by omega) (fun N => ?_)
      rw [woZ_fr i3]
      show vp_in x 12 ∧ mx g (d + 6) kX12_look_ 46 [.ref 48, .int (p0), .int (p1), .int (f), .int ((x + 1)), .null, .null, .null, .null, .null, .null] [] (zq_ma (mv [62] N M') 79 (upd ((mv [62] N M') 79) (Int32.toNatClampNeg x) (woZ M x))) Q
      refine ⟨n_in i1 (by omega), ih (x + 1) _ (by omega) ⟨by omega, by omega, fr_ma (fr_trans i3 (fr_sub fr_of (by decide))) (fun _ => rfl), fun i hi => ?_⟩⟩
      show upd (M' 79) x.toNatClampNeg (woZ M x) i = _
      by_cases c : i = x.toNatClampNeg
      · rw [c, upd_eq, n_sn i1]
      · rw [upd_ne c]
        rw [n_cl] at c
        exact i4 i (by omega)
    rw [n_le] at q
    have i5 : ∀ i : Nat, i < kF M → (M' 79 i).toInt = ((wF M i : Nat) : Int) := fun i hi => by rw [i4 i (by omega)]; exact (wF_b i).2.symm
    have i6 : ∀ i : Nat, (M' 52 i).toInt + 3 = ((cF M i : Nat) : Int) := fun i => by rw [fr_ar i3 52 (fun _ => rfl), e52]; have := (cF_b hR5 i).2.2; omega
    clear ih i1 i2 i4 q
    have z0 : ∀ (c : Nat → Nat) k, csF c 0 k = 0 := by
      intro c k
      induction k with
      | zero => rfl
      | succ k ih => unfold csF; rw [ih, Nat.zero_testBit]; rfl
    rw [show ([.ref 48, .int p0, .int p1, .int f, .int 0, .int 0, .int 0, .int 1, .null, .null, .null] : List Value) = [.ref 48, .int p0, .int p1, .int f, .int 0, .int (nI (csF (wF M) (0 : Int32).toInt.toNat (kF M))), .int (nI (csF (cF M) (0 : Int32).toInt.toNat (kF M))), .int 1, .null, .null, .null] by rw [n_0, show Int.toNat 0 = 0 from rfl, z0, z0]; rfl]
    refine mx_wf2 (fun b x : Int32 => [.ref 48, .int p0, .int p1, .int f, .int b, .int (nI (csF (wF M) b.toInt.toNat (kF M))), .int (nI (csF (cF M) b.toInt.toNat (kF M))), .int x, .null, .null, .null]) (fun b x M2 => 1 ≤ x.toInt ∧ x.toInt ≤ ((2 ^ kF M : Nat) : Int) ∧ M2 = M' ∧ 0 ≤ b.toInt ∧ b.toInt < x.toInt ∧ optL (cF M) (wF M) (kF M) p0.toInt.toNat x.toInt.toNat b.toInt.toNat) (fun _ x => (((2 ^ kF M : Nat) : Int) - x.toInt).toNat) ?_ 0 1 M' ?_
    rotate_left
    · refine ⟨by decide, by rw [n_1]; omega, rfl, by decide, by decide, ?_⟩
      rw [n_0, n_1]
      refine ⟨by show 0 < _; omega, by rw [show Int.toNat 0 = 0 from rfl, z0]; omega, fun b hb _ => ?_⟩
      rw [show b = 0 by rw [show Int.toNat 1 = 1 from rfl] at hb; omega, show Int.toNat 0 = 0 from rfl]
      exact Or.inr ⟨rfl, Or.inr ⟨rfl, Nat.le_refl _⟩⟩
    clear x
    intro b x M2 ⟨j1, j2, j3, j4, j5, j6⟩ ih
    subst j3
    refine mx_go 250 zq_t216 ?_
    have cb1 := cbd b.toInt.toNat (kF M)
    have wb1 := wbd b.toInt.toNat (kF M)
    have kk1 : kF M * 12 ≤ 12 * 12 := Nat.mul_le_mul_right 12 hk12.1
    have kk2 : kF M * 99 ≤ 12 * 99 := Nat.mul_le_mul_right 99 hk12.1
    have emo := n_nI (n := csF (wF M) b.toInt.toNat (kF M)) (by omega)
    have esp := n_nI (n := csF (cF M) b.toInt.toNat (kF M)) (by omega)
    by_cases done : x.toInt = ((2 ^ kF M : Nat) : Int)
    · generalize nI (csF (wF M) b.toInt.toNat (kF M)) = mo at emo ⊢
      generalize nI (csF (cF M) b.toInt.toNat (kF M)) = sp at esp ⊢
      rw [show x.toInt.toNat = 2 ^ kF M by omega] at j6
      show ((((1 : Int32) <<< (f &&& 31)) : Int32) ≤ (x : Int32) → (¬ (p1 : Int32) = 0 → (¬ (p1 : Int32) = (1 : Int32) → Q (some (.int sp)) M2) ∧ ((p1 : Int32) = (1 : Int32) → Q (some (.int mo)) M2)) ∧ ((p1 : Int32) = 0 → Q (some (.int b)) M2)) ∧ (¬ (((1 : Int32) <<< (f &&& 31)) : Int32) ≤ (x : Int32) → mx g (d + 6) kX12_look_ 100 [.ref 48, .int (p0), .int (p1), .int (f), .int (b), .int (mo), .int (sp), .int (x), .int (0), .int (0), .int (0)] [] M2 Q)
      refine ⟨fun _ => ⟨fun y => ⟨fun w => ?_, fun w => ?_⟩, fun y => ?_⟩, fun z => absurd (by rw [n_le, epw]; omega) z⟩
      · rw [n_eq, n_0] at y
        rw [n_eq, n_1] at w
        exact hq _ M2 i3 ⟨b.toInt.toNat, j6, by rw [if_neg y, if_neg w]; exact esp⟩
      · rw [n_eq, n_0] at y
        rw [n_eq, n_1] at w
        exact hq _ M2 i3 ⟨b.toInt.toNat, j6, by rw [if_neg y, if_pos w]; exact emo⟩
      · rw [n_eq, n_0] at y
        exact hq _ M2 i3 ⟨b.toInt.toNat, j6, by rw [if_pos y]; omega⟩
    have up := n_up (n := nI (2 ^ kF M)) (x := x) (by omega) (by rw [n_nI (by omega)]; omega)
    replace ih := fun b' h1 h2 h3 => ih b' (x + 1) M2 (by omega) ⟨by omega, by omega, rfl, h1, h2, h3⟩
    have keep : bet (csF (wF M) b.toInt.toNat (kF M)) (csF (cF M) b.toInt.toNat (kF M)) b.toInt.toNat (csF (wF M) x.toInt.toNat (kF M)) (csF (cF M) x.toInt.toNat (kF M)) x.toInt.toNat ∨ p0.toInt < ((csF (cF M) x.toInt.toNat (kF M) : Nat) : Int) → mx g (d + 6) kX12_look_ 83 [.ref 48, .int p0, .int p1, .int f, .int b, .int (nI (csF (wF M) b.toInt.toNat (kF M))), .int (nI (csF (cF M) b.toInt.toNat (kF M))), .int (x + 1), .null, .null, .null] [] M2 Q := by
      intro h
      refine ih b j4 (by omega) ⟨j6.1, j6.2.1, fun s hs hc => ?_⟩
      by_cases e : s = x.toInt.toNat
      · rw [e] at hc ⊢
        rcases h with h | h
        · exact h
        · omega
      · exact j6.2.2 s (by omega) hc
    have take : bet (csF (wF M) x.toInt.toNat (kF M)) (csF (cF M) x.toInt.toNat (kF M)) x.toInt.toNat (csF (wF M) b.toInt.toNat (kF M)) (csF (cF M) b.toInt.toNat (kF M)) b.toInt.toNat → csF (cF M) x.toInt.toNat (kF M) ≤ p0.toInt.toNat → mx g (d + 6) kX12_look_ 83 [.ref 48, .int p0, .int p1, .int f, .int x, .int (nI (csF (wF M) x.toInt.toNat (kF M))), .int (nI (csF (cF M) x.toInt.toNat (kF M))), .int (x + 1), .null, .null, .null] [] M2 Q := by
      intro h hp
      refine ih x (by omega) (by omega) ⟨by omega, hp, fun s hs hc => ?_⟩
      by_cases e : s = x.toInt.toNat
      · rw [e]
        exact Or.inr ⟨rfl, Or.inr ⟨rfl, Nat.le_refl _⟩⟩
      · exact bet_tr h (j6.2.2 s (by omega) hc)
    clear ih j6
    have cb2 := cbd x.toInt.toNat (kF M)
    have wb2 := wbd x.toInt.toNat (kF M)
    have exw := n_nI (n := csF (wF M) x.toInt.toNat (kF M)) (by omega)
    have exc := n_nI (n := csF (cF M) x.toInt.toNat (kF M)) (by omega)
    unfold bet at keep take
    generalize csF (wF M) b.toInt.toNat (kF M) = wb at emo keep take ⊢
    generalize csF (cF M) b.toInt.toNat (kF M) = cb at esp keep take ⊢
    generalize nI wb = mo at emo keep ⊢
    generalize nI cb = sp at esp keep ⊢
    show ((((1 : Int32) <<< (f &&& 31)) : Int32) ≤ (x : Int32) → (¬ (p1 : Int32) = 0 → (¬ (p1 : Int32) = (1 : Int32) → Q (some (.int sp)) M2) ∧ ((p1 : Int32) = (1 : Int32) → Q (some (.int mo)) M2)) ∧ ((p1 : Int32) = 0 → Q (some (.int b)) M2)) ∧ (¬ (((1 : Int32) <<< (f &&& 31)) : Int32) ≤ (x : Int32) → mx g (d + 6) kX12_look_ 100 [.ref 48, .int (p0), .int (p1), .int (f), .int (b), .int (mo), .int (sp), .int (x), .int (0), .int (0), .int (0)] [] M2 Q)
    refine ⟨fun z => absurd z (by rw [n_le, epw]; omega), fun _ => ?_⟩
    rw [show ([.ref 48, .int p0, .int p1, .int f, .int b, .int mo, .int sp, .int x, .int 0, .int 0, .int 0] : List Value) = [.ref 48, .int p0, .int p1, .int f, .int b, .int mo, .int sp, .int x, .int (nI (csF (cF M) x.toInt.toNat (0 : Int32).toInt.toNat)), .int (nI (csF (wF M) x.toInt.toNat (0 : Int32).toInt.toNat)), .int 0] by rw [n_0]; rfl]
    refine mx_wf (fun z : Int32 => [.ref 48, .int p0, .int p1, .int f, .int b, .int mo, .int sp, .int x, .int (nI (csF (cF M) x.toInt.toNat z.toInt.toNat)), .int (nI (csF (wF M) x.toInt.toNat z.toInt.toNat)), .int z]) (fun z M3 => 0 ≤ z.toInt ∧ z.toInt ≤ f.toInt ∧ M3 = M2) (fun z => (f.toInt - z.toInt).toNat) ?_ 0 M2 ⟨by decide, by rw [n_0]; omega, rfl⟩
    intro z M3 ⟨t1, t2, t3⟩ ih3
    subst t3
    refine mx_go 250 zq_t216 ?_
    by_cases fz : z.toInt = f.toInt
    · rw [show z.toInt.toNat = kF M by omega]
      generalize csF (wF M) x.toInt.toNat (kF M) = wx at exw keep take ⊢
      generalize csF (cF M) x.toInt.toNat (kF M) = cx at exc keep take ⊢
      generalize nI wx = wX at exw take ⊢
      generalize nI cx = cX at exc take ⊢
      show ((f : Int32) ≤ (z : Int32) → ((p0 : Int32) < (cX : Int32) → mx g (d + 6) kX12_look_ 83 [.ref 48, .int (p0), .int (p1), .int (f), .int (b), .int (mo), .int (sp), .int ((x + 1)), .null, .null, .null] [] M3 Q) ∧ (¬ (p0 : Int32) < (cX : Int32) → ((wX : Int32) < (mo : Int32) → mx g (d + 6) kX12_look_ 83 [.ref 48, .int (p0), .int (p1), .int (f), .int (b), .int (mo), .int (sp), .int ((x + 1)), .null, .null, .null] [] M3 Q) ∧ (¬ (wX : Int32) < (mo : Int32) → (¬ (wX : Int32) = (mo : Int32) → mx g (d + 6) kX12_look_ 83 [.ref 48, .int (p0), .int (p1), .int (f), .int (x), .int (wX), .int (cX), .int ((x + 1)), .null, .null, .null] [] M3 Q) ∧ ((wX : Int32) = (mo : Int32) → ((cX : Int32) < (sp : Int32) → mx g (d + 6) kX12_look_ 83 [.ref 48, .int (p0), .int (p1), .int (f), .int (x), .int (wX), .int (cX), .int ((x + 1)), .null, .null, .null] [] M3 Q) ∧ (¬ (cX : Int32) < (sp : Int32) → mx g (d + 6) kX12_look_ 83 [.ref 48, .int (p0), .int (p1), .int (f), .int (b), .int (mo), .int (sp), .int ((x + 1)), .null, .null, .null] [] M3 Q))))) ∧ (¬ (f : Int32) ≤ (z : Int32) → (¬ (((x >>> (z &&& 31)) &&& 1) : Int32) = 0 → vp_in z 60 ∧ vp_in z 12 ∧ mx g (d + 6) kX12_look_ 100 [.ref 48, .int (p0), .int (p1), .int (f), .int (b), .int (mo), .int (sp), .int (x), .int ((cX + (3 + ((M3 52) (Int32.toNatClampNeg z))))), .int ((wX + ((M3 79) (Int32.toNatClampNeg z)))), .int ((z + 1))] [] M3 Q) ∧ ((((x >>> (z &&& 31)) &&& 1) : Int32) = 0 → mx g (d + 6) kX12_look_ 100 [.ref 48, .int (p0), .int (p1), .int (f), .int (b), .int (mo), .int (sp), .int (x), .int (cX), .int (wX), .int ((z + 1))] [] M3 Q))
      refine ⟨fun _ => ⟨fun a => keep ?_, fun a => ⟨fun e => keep ?_, fun e => ⟨fun h => take ?_ ?_, fun h => ⟨fun i => take ?_ ?_, fun i => keep ?_⟩⟩⟩⟩, fun w => absurd (by rw [n_le]; omega) w⟩
      · rw [n_lt] at a
        right; omega
      · rw [n_lt] at e
        left; omega
      · rw [n_lt] at e
        rw [n_eq] at h
        omega
      · rw [n_lt] at a
        omega
      · rw [n_eq] at h
        rw [n_lt] at i
        omega
      · rw [n_lt] at a
        omega
      · rw [n_eq] at h
        rw [n_lt] at i
        left; omega
    have upz := n_up (n := f) (x := z) t1 (by omega)
    have uc := csF_up (c := cF M) (s := x.toInt.toNat) t1 upz
    have uw := csF_up (c := wF M) (s := x.toInt.toNat) t1 upz
    replace ih3 := ih3 (z + 1) M3 (by omega) ⟨by omega, by omega, rfl⟩
    rw [uc, uw] at ih3
    have cz := cbd x.toInt.toNat z.toInt.toNat
    have wz := wbd x.toInt.toNat z.toInt.toNat
    have ez1 : z.toInt.toNat * 12 ≤ 12 * 12 := Nat.mul_le_mul_right 12 (by omega)
    have ez2 : z.toInt.toNat * 99 ≤ 12 * 99 := Nat.mul_le_mul_right 99 (by omega)
    have k5 := i5 z.toInt.toNat (by omega)
    have k6 := i6 z.toInt.toNat
    have kc := (cF_b hR5 z.toInt.toNat).2.1
    have kw := (wF_b (M := M) z.toInt.toNat).1
    have bx : ((x >>> (z &&& 31)) &&& 1) = bI (x.toInt.toNat.testBit z.toInt.toNat) := by
      have := bitA (x := x) (i := z.toInt.toNat) (by omega)
      rw [← n_of t1, bt_tb (by omega)] at this
      exact this
    generalize csF (cF M) x.toInt.toNat z.toInt.toNat = cz0 at cz ih3 ⊢
    generalize csF (wF M) x.toInt.toNat z.toInt.toNat = wz0 at wz ih3 ⊢
    show ((f : Int32) ≤ (z : Int32) → ((p0 : Int32) < ((nI cz0) : Int32) → mx g (d + 6) kX12_look_ 83 [.ref 48, .int (p0), .int (p1), .int (f), .int (b), .int (mo), .int (sp), .int ((x + 1)), .null, .null, .null] [] M3 Q) ∧ (¬ (p0 : Int32) < ((nI cz0) : Int32) → (((nI wz0) : Int32) < (mo : Int32) → mx g (d + 6) kX12_look_ 83 [.ref 48, .int (p0), .int (p1), .int (f), .int (b), .int (mo), .int (sp), .int ((x + 1)), .null, .null, .null] [] M3 Q) ∧ (¬ ((nI wz0) : Int32) < (mo : Int32) → (¬ ((nI wz0) : Int32) = (mo : Int32) → mx g (d + 6) kX12_look_ 83 [.ref 48, .int (p0), .int (p1), .int (f), .int (x), .int ((nI wz0)), .int ((nI cz0)), .int ((x + 1)), .null, .null, .null] [] M3 Q) ∧ (((nI wz0) : Int32) = (mo : Int32) → (((nI cz0) : Int32) < (sp : Int32) → mx g (d + 6) kX12_look_ 83 [.ref 48, .int (p0), .int (p1), .int (f), .int (x), .int ((nI wz0)), .int ((nI cz0)), .int ((x + 1)), .null, .null, .null] [] M3 Q) ∧ (¬ ((nI cz0) : Int32) < (sp : Int32) → mx g (d + 6) kX12_look_ 83 [.ref 48, .int (p0), .int (p1), .int (f), .int (b), .int (mo), .int (sp), .int ((x + 1)), .null, .null, .null] [] M3 Q))))) ∧ (¬ (f : Int32) ≤ (z : Int32) → (¬ (((x >>> (z &&& 31)) &&& 1) : Int32) = 0 → vp_in z 60 ∧ vp_in z 12 ∧ mx g (d + 6) kX12_look_ 100 [.ref 48, .int (p0), .int (p1), .int (f), .int (b), .int (mo), .int (sp), .int (x), .int (((nI cz0) + (3 + ((M3 52) (Int32.toNatClampNeg z))))), .int (((nI wz0) + ((M3 79) (Int32.toNatClampNeg z)))), .int ((z + 1))] [] M3 Q) ∧ ((((x >>> (z &&& 31)) &&& 1) : Int32) = 0 → mx g (d + 6) kX12_look_ 100 [.ref 48, .int (p0), .int (p1), .int (f), .int (b), .int (mo), .int (sp), .int (x), .int ((nI cz0)), .int ((nI wz0)), .int ((z + 1))] [] M3 Q))
    rw [bx, bI_eq]
    refine ⟨fun w => absurd w (by rw [n_le]; omega), fun _ => ⟨fun w => ⟨n_in t1 (by omega), n_in t1 (by omega), ?_⟩, fun w => ?_⟩⟩
    · replace w := (Bool.eq_false_or_eq_true _).resolve_right w
      rw [if_pos w, if_pos w] at ih3
      have e1 : nI cz0 + (3 + M3 52 z.toNatClampNeg) = nI (cz0 + cF M z.toInt.toNat) := by
        rw [n_eq, n_add, n_add, n_nI (by omega), n_nI (by omega), f3, show (M3 52 z.toNatClampNeg).toInt = (M3 52 z.toInt.toNat).toInt from rfl, zw_id (z := 3 + (M3 52 z.toInt.toNat).toInt) (by omega) (by omega), zw_id (by omega) (by omega)]
        omega
      have e2 : nI wz0 + M3 79 z.toNatClampNeg = nI (wz0 + wF M z.toInt.toNat) := by
        rw [n_eq, n_add, n_nI (by omega), n_nI (by omega), show (M3 79 z.toNatClampNeg).toInt = (M3 79 z.toInt.toNat).toInt from rfl, zw_id (by omega) (by omega)]
        omega
      rw [e1, e2]
      exact ih3
    · rw [if_neg (by rw [w]; decide), if_neg (by rw [w]; decide), Nat.add_zero, Nat.add_zero] at ih3
      exact ih3
  refine mx_go 250 zq_t216 ?_
  show mx g (d + 5) kX12_in 0 [.ref 48, .int (p0), .int (0), .int (99)] [] M _
  refine c_X12_in (fun k1 k2 => ?_) (fun k1 => ?_)
  rotate_left
  · show ((0 : Int32) = 0 → Q (some (.int (-2))) M) ∧ (¬ (0 : Int32) = 0 → mx g (d + 5) kX12_in 0 [.ref 48, .int (p1), .int (0), .int (2)] [] M _)
    exact ⟨fun _ => hbad (by unfold inR; rw [n_0, f99] at k1; omega), fun z => absurd rfl z⟩
  show ((1 : Int32) = 0 → Q (some (.int (-2))) M) ∧ (¬ (1 : Int32) = 0 → mx g (d + 5) kX12_in 0 [.ref 48, .int (p1), .int (0), .int (2)] [] M _)
  refine ⟨fun z => absurd z (by decide), fun _ => ?_⟩
  refine c_X12_in (fun k3 k4 => ?_) (fun k3 => ?_)
  rotate_left
  · show (¬ (0 : Int32) = 0 → ((12 : Int32) ≤ ((M 48 1) : Int32) → mx g (d + 6) kX12_look_ 46 [.ref 48, .int (p0), .int (p1), .int (12), .int (0), .null, .null, .null, .null, .null, .null] [] M Q) ∧ (¬ (12 : Int32) ≤ ((M 48 1) : Int32) → mx g (d + 6) kX12_look_ 46 [.ref 48, .int (p0), .int (p1), .int ((M 48 1)), .int (0), .null, .null, .null, .null, .null, .null] [] M Q)) ∧ ((0 : Int32) = 0 → Q (some (.int (-2))) M)
    exact ⟨fun z => absurd rfl z, fun _ => hbad (by unfold inR; rw [n_0, f2] at k3; omega)⟩
  show (¬ (1 : Int32) = 0 → ((12 : Int32) ≤ ((M 48 1) : Int32) → mx g (d + 6) kX12_look_ 46 [.ref 48, .int (p0), .int (p1), .int (12), .int (0), .null, .null, .null, .null, .null, .null] [] M Q) ∧ (¬ (12 : Int32) ≤ ((M 48 1) : Int32) → mx g (d + 6) kX12_look_ 46 [.ref 48, .int (p0), .int (p1), .int ((M 48 1)), .int (0), .null, .null, .null, .null, .null, .null] [] M Q)) ∧ ((1 : Int32) = 0 → Q (some (.int (-2))) M)
  refine ⟨fun _ => ?_, fun z => absurd z (by decide)⟩
  rw [n_0] at k1 k3
  rw [f99] at k2
  rw [f2] at k4
  refine ⟨fun z => main 12 ?_ k1 k2 k3 k4, fun z => main (M 48 1) ?_ k1 k2 k3 k4⟩
  · rw [n_le, f12, n1] at z
    rw [hk0, if_neg (by omega), f12]
    rfl
  · rw [n_le, f12, n1] at z
    rw [n1, hk0, if_pos (by omega)]
    omega
theorem op_look {g : zq_G} {d : Nat} {M : zq_M} {p0 p1 : Int32} (hR : RR M) : pri g (d + 6) kX11_look kX12_look_ [.ref 0, .int p0, .int p1, .null] [.ref 48, .int p0, .int p1, .null, .null, .null, .null, .null, .null, .null, .null] M :=
  q_op (F_look p0 p1) hR (fun _ _ _ hf h h' => F_look_un hf h h') (fun _ hq => x_look hR hq) (fun _ _ hR' hq => m_look hR' hq)
