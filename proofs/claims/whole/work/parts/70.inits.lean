theorem zn {g : zq_G} {rep : List zq_E → List zq_E} {d k : Nat} {Q : Option Value → List zq_E → Prop} {go : List zq_I → List Value → List Value → Nat × Nat → List zq_E → Prop} {tl : List zq_I} {ls st st2 : List Value} {cs : Nat × Nat} {x y : List zq_E} (h : zq_nx g rep d k Q go tl ls st2 cs y) (e : x = y) (e2 : st = st2) : zq_nx g rep d k Q go tl ls st cs x := by
  rw [e, e2]
  exact h
theorem cx_within {g : zq_G} {d : Nat} {x : List zq_E} {Q : Option Value → List zq_E → Prop} {v a b : Int32} (h : Q (some (.int (if a < (if v < b then v else b) then (if v < b then v else b) else a))) x) : cx g (d + 1) kX11_within 0 [.int v, .int a, .int b] [] (0, 0) x Q := by
  refine cx_go 250 zq_t126 ?_
  show Q (some (.int (if a < (if v < b then v else b) then (if v < b then v else b) else a))) x
  exact h
set_option maxRecDepth 100000 in
theorem ci_X7_init {g : zq_G} {d : Nat} {Q : Option Value → List zq_E → Prop} (h : Q none (hp8 g)) : cx g (d + 141) kX7_init 0 [.ref 1] [] (0, 0) (hp4 g) Q := by
  refine cx_go 300 zq_t57 ?_
  show (¬ (10 : Int32) < 0 ∧ Int32.toNatClampNeg 10 ≤ 10000) ∧ _
  refine ⟨by decide, ?_⟩
  refine zn (y := (hp5 g)) (st2 := [.ref 2, .ref 1]) ?_ rfl rfl
  show (¬ (10 : Int32) < 0 ∧ Int32.toNatClampNeg 10 ≤ 10000) ∧ _
  refine ⟨by decide, ?_⟩
  refine zn (y := (hp6 g)) (st2 := [.ref 3, .ref 1]) ?_ rfl rfl
  show (¬ (10 : Int32) < 0 ∧ Int32.toNatClampNeg 10 ≤ 10000) ∧ _
  refine ⟨by decide, ?_⟩
  refine zn (y := (hp7 g)) (st2 := [.ref 4, .ref 1]) ?_ rfl rfl
  show Q none (hp8 g)
  exact h
set_option maxRecDepth 100000 in
theorem ci_X2_init {g : zq_G} {d : Nat} {Q : Option Value → List zq_E → Prop} (h : Q none (hp15 g)) : cx g (d + 141) kX2_init 0 [.ref 5] [] (0, 0) (hp10 g) Q := by
  refine cx_go 300 zq_t10 ?_
  show (¬ (60 : Int32) < 0 ∧ Int32.toNatClampNeg 60 ≤ 10000) ∧ _
  refine ⟨by decide, ?_⟩
  refine zn (y := (hp11 g)) (st2 := [.ref 6, .ref 5]) ?_ rfl rfl
  show (¬ (60 : Int32) < 0 ∧ Int32.toNatClampNeg 60 ≤ 10000) ∧ _
  refine ⟨by decide, ?_⟩
  refine zn (y := (hp12 g)) (st2 := [.ref 7, .ref 5]) ?_ rfl rfl
  show (¬ (60 : Int32) < 0 ∧ Int32.toNatClampNeg 60 ≤ 10000) ∧ _
  refine ⟨by decide, ?_⟩
  refine zn (y := (hp13 g)) (st2 := [.ref 8, .ref 5]) ?_ rfl rfl
  show (¬ (60 : Int32) < 0 ∧ Int32.toNatClampNeg 60 ≤ 10000) ∧ _
  refine ⟨by decide, ?_⟩
  refine zn (y := (hp14 g)) (st2 := [.ref 9, .ref 5]) ?_ rfl rfl
  show Q none (hp15 g)
  exact h
set_option maxRecDepth 100000 in
theorem ci_X0_init {g : zq_G} {d : Nat} {Q : Option Value → List zq_E → Prop} (h : Q none (hp20 g)) : cx g (d + 141) kX0_init 0 [.ref 10] [] (0, 0) (hp17 g) Q := by
  refine cx_go 300 zq_t0 ?_
  show (¬ (8 : Int32) < 0 ∧ Int32.toNatClampNeg 8 ≤ 10000) ∧ _
  refine ⟨by decide, ?_⟩
  refine zn (y := (hp18 g)) (st2 := [.ref 11, .ref 10]) ?_ rfl rfl
  show (¬ (8 : Int32) < 0 ∧ Int32.toNatClampNeg 8 ≤ 10000) ∧ _
  refine ⟨by decide, ?_⟩
  refine zn (y := (hp19 g)) (st2 := [.ref 12, .ref 10]) ?_ rfl rfl
  show Q none (hp20 g)
  exact h
set_option maxRecDepth 100000 in
theorem ci_X8_keep {g : zq_G} {d : Nat} {Q : Option Value → List zq_E → Prop} (h : Q (some (.int ((0 + 1) - 1))) (hp33 g)) : cx g (d + 140) kX8_keep 0 [.ref 13, .ref 1003, .ref 1004, .null] [] (0, 0) (hp28 g) Q := by
  refine cx_go 300 zq_t67 ?_
  show (((6 : Int32) ≤ 0 → _) ∧ (¬ (6 : Int32) ≤ 0 → _))
  refine ⟨fun y => absurd y (by decide), fun _ => ?_⟩
  show (((3 : Int32) ≤ (nI 3) → _) ∧ (¬ (3 : Int32) ≤ (nI 3) → _))
  refine ⟨fun _ => ?_, fun y => absurd (by decide) y⟩
  show vp_in 2 3 ∧ _
  refine ⟨n_in (by decide) (by decide), ?_⟩
  refine zn (y := (hp29 g)) (st2 := [.int (5)]) ?_ rfl rfl
  show cx g (d + 139) kX11_within 0 [.int (5), .int (0), .int (5)] [] (0, 0) (hp30 g) _
  refine cx_within (d := d + 138) ?_
  rw [show (if (0 : Int32) < (if (5 : Int32) < 5 then 5 else 5) then (if (5 : Int32) < 5 then 5 else 5) else 0) = (5 : Int32) by decide]
  show (¬ (0 : Int32) < 0 ∧ ¬ ((0 * 160) : Int32) < 0 ∧ ¬ (5 : Int32) < 0 ∧ (Int32.toNatClampNeg 0) + (Int32.toNatClampNeg 5) ≤ 5 ∧ (Int32.toNatClampNeg (0 * 160)) + (Int32.toNatClampNeg 5) ≤ 960) ∧ _
  refine ⟨by decide, ?_⟩
  refine zn (y := (hp31 g)) (st2 := []) ?_ rfl rfl
  show (¬ (0 : Int32) < 0 ∧ ¬ ((0 * 3) : Int32) < 0 ∧ ¬ (3 : Int32) < 0 ∧ (Int32.toNatClampNeg 0) + (Int32.toNatClampNeg 3) ≤ 3 ∧ (Int32.toNatClampNeg (0 * 3)) + (Int32.toNatClampNeg 3) ≤ 18) ∧ _
  refine ⟨by decide, ?_⟩
  refine zn (y := (hp32 g)) (st2 := []) ?_ rfl rfl
  show Q (some (.int ((0 + 1) - 1))) (hp33 g)
  exact h
