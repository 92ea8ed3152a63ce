theorem zn {g : zq_G} {rep : List zq_E → List zq_E} {d k : Nat} {Q : Option Value → List zq_E → Prop} {go : List zq_I → List Value → List Value → Nat × Nat → List zq_E → Prop} {tl : List zq_I} {ls st st2 : List Value} {cs : Nat × Nat} {x y : List zq_E} (h : zq_nx g rep d k Q go tl ls st2 cs y) (e : x = y) (e2 : st = st2) : zq_nx g rep d k Q go tl ls st cs x := by
  rw [e, e2]
  exact h
theorem cx_within {g : zq_G} {d : Nat} {x : List zq_E} {Q : Option Value → List zq_E → Prop} {v a b : Int32} (h : Q (some (.int (if a < (if v < b then v else b) then (if v < b then v else b) else a))) x) : cx g (d + 1) kX11_within 0 [.int v, .int a, .int b] [] (0, 0) x Q := by
  refine cx_go 250 zq_t126 ?_
  show Q (some (.int (if a < (if v < b then v else b) then (if v < b then v else b) else a))) x
  exact h
set_option maxRecDepth 100000 in
theorem ci_X7_init {g : zq_G} {d : Nat} {Q : Option Value → List zq_E → Prop} (h : Q none (hp8 g)) : cx g (d + 141) kX7_init 0 [.ref 1] [] (0, 0) (hp4 g) Q := by
  refine cx_go 300 zq_t57 ?_
  show (¬ (10 : Int32) < 0 ∧ Int32.toNatClampNeg 10 ≤ 10000) ∧ _
  refine ⟨by decide, ?_⟩
  refine zn (y := (hp5 g)) (st2 := [.ref 2, .ref 1]) ?_ rfl rfl
  show (¬ (10 : Int32) < 0 ∧ Int32.toNatClampNeg 10 ≤ 10000) ∧ _
  refine ⟨by decide, ?_⟩
  refine zn (y := (hp6 g)) (st2 := [.ref 3, .ref 1]) ?_ rfl rfl
  show (¬ (10 : Int32) < 0 ∧ Int32.toNatClampNeg 10 ≤ 10000) ∧ _
  refine ⟨by decide, ?_⟩
  refine zn (y := (hp7 g)) (st2 := [.ref 4, .ref 1]) ?_ rfl rfl
  show Q none (hp8 g)
  exact h
set_option maxRecDepth 100000 in
theorem ci_X2_init {g : zq_G} {d : Nat} {Q : Option Value → List zq_E → Prop} (h : Q none (hp15 g)) : cx g (d + 141) kX2_init 0 [.ref 5] [] (0, 0) (hp10 g) Q := by
  refine cx_go 300 zq_t10 ?_
  show (¬ (60 : Int32) < 0 ∧ Int32.toNatClampNeg 60 ≤ 10000) ∧ _
  refine ⟨by decide, ?_⟩
  refine zn (y := (hp11 g)) (st2 := [.ref 6, .ref 5]) ?_ rfl rfl
  show (¬ (60 : Int32) < 0 ∧ Int32.toNatClampNeg 60 ≤ 10000) ∧ _
  refine ⟨by decide, ?_⟩
  refine zn (y := (hp12 g)) (st2 := [.ref 7, .ref 5]) ?_ rfl rfl
  show (¬ (60 : Int32) < 0 ∧ Int32.toNatClampNeg 60 ≤ 10000) ∧ _
  refine ⟨by decide, ?_⟩
  refine zn (y := (hp13 g)) (st2 := [.ref 8, .ref 5]) ?_ rfl rfl
  show (¬ (60 : Int32) < 0 ∧ Int32.toNatClampNeg 60 ≤ 10000) ∧ _
  refine ⟨by decide, ?_⟩
  refine zn (y := (hp14 g)) (st2 := [.ref 9, .ref 5]) ?_ rfl rfl
  show Q none (hp15 g)
  exact h
set_option maxRecDepth 100000 in
theorem ci_X0_init {g : zq_G} {d : Nat} {Q : Option Value → List zq_E → Prop} (h : Q none (hp20 g)) : cx g (d + 141) kX0_init 0 [.ref 10] [] (0, 0) (hp17 g) Q := by
  refine cx_go 300 zq_t0 ?_
  show (¬ (8 : Int32) < 0 ∧ Int32.toNatClampNeg 8 ≤ 10000) ∧ _
  refine ⟨by decide, ?_⟩
  refine zn (y := (hp18 g)) (st2 := [.ref 11, .ref 10]) ?_ rfl rfl
  show (¬ (8 : Int32) < 0 ∧ Int32.toNatClampNeg 8 ≤ 10000) ∧ _
  refine ⟨by decide, ?_⟩
  refine zn (y := (hp19 g)) (st2 := [.ref 12, .ref 10]) ?_ rfl rfl
  show Q none (hp20 g)
  exact h
set_option maxRecDepth 100000 in
theorem ci_X8_keep {g : zq_G} {d : Nat} {Q : Option Value → List zq_E → Prop} (h : Q (some (.int ((0 + 1) - 1))) (hp33 g)) : cx g (d + 140) kX8_keep 0 [.ref 13, .ref 1003, .ref 1004, .null] [] (0, 0) (hp28 g) Q := by
  refine cx_go 300 zq_t67 ?_
  show (((6 : Int32) ≤ 0 → _) ∧ (¬ (6 : Int32) ≤ 0 → _))
  refine ⟨fun y => absurd y (by decide), fun _ => ?_⟩
  show (((3 : Int32) ≤ (nI 3) → _) ∧ (¬ (3 : Int32) ≤ (nI 3) → _))
  refine ⟨fun _ => ?_, fun y => absurd (by decide) y⟩
  show vp_in 2 3 ∧ _
  refine ⟨n_in (by decide) (by decide), ?_⟩
  refine zn (y := (hp29 g)) (st2 := [.int (5)]) ?_ rfl rfl
  show cx g (d + 139) kX11_within 0 [.int (5), .int (0), .int (5)] [] (0, 0) (hp30 g) _
  refine cx_within (d := d + 138) ?_
  rw [show (if (0 : Int32) < (if (5 : Int32) < 5 then 5 else 5) then (if (5 : Int32) < 5 then 5 else 5) else 0) = (5 : Int32) by decide]
  show (¬ (0 : Int32) < 0 ∧ ¬ ((0 * 160) : Int32) < 0 ∧ ¬ (5 : Int32) < 0 ∧ (Int32.toNatClampNeg 0) + (Int32.toNatClampNeg 5) ≤ 5 ∧ (Int32.toNatClampNeg (0 * 160)) + (Int32.toNatClampNeg 5) ≤ 960) ∧ _
  refine ⟨by decide, ?_⟩
  refine zn (y := (hp31 g)) (st2 := []) ?_ rfl rfl
  show (¬ (0 : Int32) < 0 ∧ ¬ ((0 * 3) : Int32) < 0 ∧ ¬ (3 : Int32) < 0 ∧ (Int32.toNatClampNeg 0) + (Int32.toNatClampNeg 3) ≤ 3 ∧ (Int32.toNatClampNeg (0 * 3)) + (Int32.toNatClampNeg 3) ≤ 18) ∧ _
  refine ⟨by decide, ?_⟩
  refine zn (y := (hp32 g)) (st2 := []) ?_ rfl rfl
  show Q (some (.int ((0 + 1) - 1))) (hp33 g)
  exact h
set_option maxRecDepth 100000 in
theorem ci_X8_init {g : zq_G} {d : Nat} {Q : Option Value → List zq_E → Prop} (h : Q none (hp34 g)) : cx g (d + 141) kX8_init 0 [.ref 13] [] (0, 0) (hp22 g) Q := by
  refine cx_go 300 zq_t66 ?_
  show (¬ (960 : Int32) < 0 ∧ Int32.toNatClampNeg 960 ≤ 10000) ∧ _
  refine ⟨by decide, ?_⟩
  refine zn (y := (hp23 g)) (st2 := [.ref 14, .ref 13]) ?_ rfl rfl
  show (¬ (18 : Int32) < 0 ∧ Int32.toNatClampNeg 18 ≤ 10000) ∧ _
  refine ⟨by decide, ?_⟩
  refine zn (y := (hp24 g)) (st2 := [.ref 15, .ref 13]) ?_ rfl rfl
  show (¬ (6 : Int32) < 0 ∧ Int32.toNatClampNeg 6 ≤ 10000) ∧ _
  refine ⟨by decide, ?_⟩
  refine zn (y := (hp25 g)) (st2 := [.ref 16, .ref 13]) ?_ rfl rfl
  show (¬ (40 : Int32) < 0 ∧ Int32.toNatClampNeg 40 ≤ 10000) ∧ _
  refine ⟨by decide, ?_⟩
  refine zn (y := (hp26 g)) (st2 := [.ref 17, .ref 13]) ?_ rfl rfl
  show cx g (d + 140) kX8_keep 0 [.ref 13, .ref 1003, .ref 1004, .null] [] (0, 0) (hp27 g) _
  refine ci_X8_keep ?_
  show Q none (hp34 g)
  exact h
set_option maxRecDepth 100000 in
theorem ci_X5_init {g : zq_G} {d : Nat} {Q : Option Value → List zq_E → Prop} (h : Q none (hp42 g)) : cx g (d + 141) kX5_init 0 [.ref 18] [] (0, 0) (hp36 g) Q := by
  refine cx_go 300 zq_t28 ?_
  show (¬ (160 : Int32) < 0 ∧ Int32.toNatClampNeg 160 ≤ 10000) ∧ _
  refine ⟨by decide, ?_⟩
  refine zn (y := (hp37 g)) (st2 := [.ref 19, .ref 18]) ?_ rfl rfl
  show (¬ (3 : Int32) < 0 ∧ Int32.toNatClampNeg 3 ≤ 10000) ∧ _
  refine ⟨by decide, ?_⟩
  refine zn (y := (hp38 g)) (st2 := [.ref 20, .ref 18]) ?_ rfl rfl
  show (¬ (160 : Int32) < 0 ∧ Int32.toNatClampNeg 160 ≤ 10000) ∧ _
  refine ⟨by decide, ?_⟩
  refine zn (y := (hp39 g)) (st2 := [.ref 21, .ref 18]) ?_ rfl rfl
  show (¬ (161 : Int32) < 0 ∧ Int32.toNatClampNeg 161 ≤ 10000) ∧ _
  refine ⟨by decide, ?_⟩
  refine zn (y := (hp40 g)) (st2 := [.ref 22, .ref 18]) ?_ rfl rfl
  show (¬ (161 : Int32) < 0 ∧ Int32.toNatClampNeg 161 ≤ 10000) ∧ _
  refine ⟨by decide, ?_⟩
  refine zn (y := (hp41 g)) (st2 := [.ref 23, .ref 18]) ?_ rfl rfl
  show Q none (hp42 g)
  exact h
set_option maxRecDepth 100000 in
theorem ci_X4_init {g : zq_G} {d : Nat} {Q : Option Value → List zq_E → Prop} (h : Q none (hp45 g)) : cx g (d + 141) kX4_init 0 [.ref 24, .ref 1, .ref 5, .ref 10, .ref 13] [] (0, 0) (hp44 g) Q := by
  refine cx_go 300 zq_t20 ?_
  show Q none (hp45 g)
  exact h
set_option maxRecDepth 100000 in
theorem ci_X10_init {g : zq_G} {d : Nat} {Q : Option Value → List zq_E → Prop} (h : Q none (hp52 g)) : cx g (d + 141) kX10_init 0 [.ref 25, .ref 1, .ref 5, .ref 10, .ref 24] [] (0, 0) (hp47 g) Q := by
  refine cx_go 300 zq_t86 ?_
  show (¬ (10 : Int32) < 0 ∧ Int32.toNatClampNeg 10 ≤ 10000) ∧ _
  refine ⟨by decide, ?_⟩
  refine zn (y := (hp48 g)) (st2 := [.ref 26, .ref 25]) ?_ rfl rfl
  show (¬ (10 : Int32) < 0 ∧ Int32.toNatClampNeg 10 ≤ 10000) ∧ _
  refine ⟨by decide, ?_⟩
  refine zn (y := (hp49 g)) (st2 := [.ref 27, .ref 25]) ?_ rfl rfl
  show (¬ (10 : Int32) < 0 ∧ Int32.toNatClampNeg 10 ≤ 10000) ∧ _
  refine ⟨by decide, ?_⟩
  refine zn (y := (hp50 g)) (st2 := [.ref 28, .ref 25]) ?_ rfl rfl
  show (¬ (10 : Int32) < 0 ∧ Int32.toNatClampNeg 10 ≤ 10000) ∧ _
  refine ⟨by decide, ?_⟩
  refine zn (y := (hp51 g)) (st2 := [.ref 29, .ref 25]) ?_ rfl rfl
  show Q none (hp52 g)
  exact h
set_option maxRecDepth 100000 in
theorem ci_X9_init {g : zq_G} {d : Nat} {Q : Option Value → List zq_E → Prop} (h : Q none (hp62 g)) : cx g (d + 141) kX9_init 0 [.ref 30] [] (0, 0) (hp54 g) Q := by
  refine cx_go 300 zq_t73 ?_
  show (¬ (24 : Int32) < 0 ∧ Int32.toNatClampNeg 24 ≤ 10000) ∧ _
  refine ⟨by decide, ?_⟩
  refine zn (y := (hp55 g)) (st2 := [.ref 31, .ref 30]) ?_ rfl rfl
  show (¬ (24 : Int32) < 0 ∧ Int32.toNatClampNeg 24 ≤ 10000) ∧ _
  refine ⟨by decide, ?_⟩
  refine zn (y := (hp56 g)) (st2 := [.ref 32, .ref 30]) ?_ rfl rfl
  show (¬ (24 : Int32) < 0 ∧ Int32.toNatClampNeg 24 ≤ 10000) ∧ _
  refine ⟨by decide, ?_⟩
  refine zn (y := (hp57 g)) (st2 := [.ref 33, .ref 30]) ?_ rfl rfl
  show (¬ (20 : Int32) < 0 ∧ Int32.toNatClampNeg 20 ≤ 10000) ∧ _
  refine ⟨by decide, ?_⟩
  refine zn (y := (hp58 g)) (st2 := [.ref 34, .ref 30]) ?_ rfl rfl
  show (¬ (20 : Int32) < 0 ∧ Int32.toNatClampNeg 20 ≤ 10000) ∧ _
  refine ⟨by decide, ?_⟩
  refine zn (y := (hp59 g)) (st2 := [.ref 35, .ref 30]) ?_ rfl rfl
  show (¬ (24 : Int32) < 0 ∧ Int32.toNatClampNeg 24 ≤ 10000) ∧ _
  refine ⟨by decide, ?_⟩
  refine zn (y := (hp60 g)) (st2 := [.ref 36, .ref 30]) ?_ rfl rfl
  show (¬ (24 : Int32) < 0 ∧ Int32.toNatClampNeg 24 ≤ 10000) ∧ _
  refine ⟨by decide, ?_⟩
  refine zn (y := (hp61 g)) (st2 := [.ref 37, .ref 30]) ?_ rfl rfl
  show Q none (hp62 g)
  exact h
set_option maxRecDepth 100000 in
theorem ci_X3_init {g : zq_G} {d : Nat} {Q : Option Value → List zq_E → Prop} (h : Q none (hp67 g)) : cx g (d + 141) kX3_init 0 [.ref 38] [] (0, 0) (hp64 g) Q := by
  refine cx_go 300 zq_t14 ?_
  show (¬ (8 : Int32) < 0 ∧ Int32.toNatClampNeg 8 ≤ 10000) ∧ _
  refine ⟨by decide, ?_⟩
  refine zn (y := (hp65 g)) (st2 := [.ref 39, .ref 38]) ?_ rfl rfl
  show (¬ (8 : Int32) < 0 ∧ Int32.toNatClampNeg 8 ≤ 10000) ∧ _
  refine ⟨by decide, ?_⟩
  refine zn (y := (hp66 g)) (st2 := [.ref 40, .ref 38]) ?_ rfl rfl
  show Q none (hp67 g)
  exact h
set_option maxRecDepth 100000 in
theorem ci_X1_init {g : zq_G} {d : Nat} {Q : Option Value → List zq_E → Prop} (h : Q none (hp72 g)) : cx g (d + 141) kX1_init 0 [.ref 41, .ref 5, .ref 24] [] (0, 0) (hp69 g) Q := by
  refine cx_go 300 zq_t7 ?_
  show (¬ (100 : Int32) < 0 ∧ Int32.toNatClampNeg 100 ≤ 10000) ∧ _
  refine ⟨by decide, ?_⟩
  refine zn (y := (hp70 g)) (st2 := [.ref 42, .ref 41]) ?_ rfl rfl
  show (¬ (100 : Int32) < 0 ∧ Int32.toNatClampNeg 100 ≤ 10000) ∧ _
  refine ⟨by decide, ?_⟩
  refine zn (y := (hp71 g)) (st2 := [.ref 43, .ref 41]) ?_ rfl rfl
  show Q none (hp72 g)
  exact h
set_option maxRecDepth 100000 in
theorem ci_X6_init {g : zq_G} {d : Nat} {Q : Option Value → List zq_E → Prop} (h : Q none (hp82 g)) : cx g (d + 141) kX6_init 0 [.ref 44] [] (0, 0) (hp74 g) Q := by
  refine cx_go 300 zq_t48 ?_
  show (¬ (160 : Int32) < 0 ∧ Int32.toNatClampNeg 160 ≤ 10000) ∧ _
  refine ⟨by decide, ?_⟩
  refine zn (y := (hp75 g)) (st2 := [.ref 45, .ref 44]) ?_ rfl rfl
  show (¬ (4 : Int32) < 0 ∧ Int32.toNatClampNeg 4 ≤ 10000) ∧ _
  refine ⟨by decide, ?_⟩
  refine zn (y := (hp76 g)) (st2 := [.ref 46, .ref 44]) ?_ rfl rfl
  show vp_in 0 4 ∧ _
  refine ⟨n_in (by decide) (by decide), ?_⟩
  refine zn (y := (hp77 g)) (st2 := [.ref 46, .ref 44]) ?_ rfl rfl
  show vp_in 1 4 ∧ _
  refine ⟨n_in (by decide) (by decide), ?_⟩
  refine zn (y := (hp78 g)) (st2 := [.ref 46, .ref 44]) ?_ rfl rfl
  show vp_in 2 4 ∧ _
  refine ⟨n_in (by decide) (by decide), ?_⟩
  refine zn (y := (hp79 g)) (st2 := [.ref 46, .ref 44]) ?_ rfl rfl
  show vp_in 3 4 ∧ _
  refine ⟨n_in (by decide) (by decide), ?_⟩
  refine zn (y := (hp80 g)) (st2 := [.ref 46, .ref 44]) ?_ rfl rfl
  show (¬ (4 : Int32) < 0 ∧ Int32.toNatClampNeg 4 ≤ 10000) ∧ _
  refine ⟨by decide, ?_⟩
  refine zn (y := (hp81 g)) (st2 := [.ref 47, .ref 44]) ?_ rfl rfl
  show Q none (hp82 g)
  exact h
set_option maxRecDepth 100000 in
theorem ci_X11_init {g : zq_G} {d : Nat} {Q : Option Value → List zq_E → Prop} (h : Q none (hp83 g)) : cx g (d + 142) kX11_init 0 [.ref 0] [] (0, 0) (hp2 g) Q := by
  refine cx_go 300 zq_t90 ?_
  show cx g (d + 141) kX7_init 0 [.ref 1] [] (0, 0) (hp3 g) _
  refine ci_X7_init ?_
  show cx g (d + 141) kX2_init 0 [.ref 5] [] (0, 0) (hp9 g) _
  refine ci_X2_init ?_
  show cx g (d + 141) kX0_init 0 [.ref 10] [] (0, 0) (hp16 g) _
  refine ci_X0_init ?_
  show cx g (d + 141) kX8_init 0 [.ref 13] [] (0, 0) (hp21 g) _
  refine ci_X8_init ?_
  show cx g (d + 141) kX5_init 0 [.ref 18] [] (0, 0) (hp35 g) _
  refine ci_X5_init ?_
  show cx g (d + 141) kX4_init 0 [.ref 24, .ref 1, .ref 5, .ref 10, .ref 13] [] (0, 0) (hp43 g) _
  refine ci_X4_init ?_
  show cx g (d + 141) kX10_init 0 [.ref 25, .ref 1, .ref 5, .ref 10, .ref 24] [] (0, 0) (hp46 g) _
  refine ci_X10_init ?_
  show cx g (d + 141) kX9_init 0 [.ref 30] [] (0, 0) (hp53 g) _
  refine ci_X9_init ?_
  show cx g (d + 141) kX3_init 0 [.ref 38] [] (0, 0) (hp63 g) _
  refine ci_X3_init ?_
  show cx g (d + 141) kX1_init 0 [.ref 41, .ref 5, .ref 24] [] (0, 0) (hp68 g) _
  refine ci_X1_init ?_
  show cx g (d + 141) kX6_init 0 [.ref 44] [] (0, 0) (hp73 g) _
  refine ci_X6_init ?_
  show zq_b 0 ∧ Q none (hp83 g)
  refine ⟨by first | exact Or.inl rfl | exact Or.inr rfl, ?_⟩
  exact h
set_option maxHeartbeats 16000000 in
set_option maxRecDepth 100000 in
theorem ci_X12_init {g : zq_G} {d : Nat} {Q : Option Value → List zq_E → Prop} (h : Q none (hp129 g)) : cx g (d + 142) kX12_init 0 [.ref 48] [] (0, 0) (hp85 g) Q := by
  refine cx_go 300 zq_t149 ?_
  show (¬ (10 : Int32) < 0 ∧ Int32.toNatClampNeg 10 ≤ 10000) ∧ _
  refine ⟨by decide, ?_⟩
  refine zn (y := (hp86 g)) (st2 := [.ref 49, .ref 48]) ?_ rfl rfl
  show (¬ (10 : Int32) < 0 ∧ Int32.toNatClampNeg 10 ≤ 10000) ∧ _
  refine ⟨by decide, ?_⟩
  refine zn (y := (hp87 g)) (st2 := [.ref 50, .ref 48]) ?_ rfl rfl
  show (¬ (60 : Int32) < 0 ∧ Int32.toNatClampNeg 60 ≤ 10000) ∧ _
  refine ⟨by decide, ?_⟩
  refine zn (y := (hp88 g)) (st2 := [.ref 51, .ref 48]) ?_ rfl rfl
  show (¬ (60 : Int32) < 0 ∧ Int32.toNatClampNeg 60 ≤ 10000) ∧ _
  refine ⟨by decide, ?_⟩
  refine zn (y := (hp89 g)) (st2 := [.ref 52, .ref 48]) ?_ rfl rfl
  show (¬ (60 : Int32) < 0 ∧ Int32.toNatClampNeg 60 ≤ 10000) ∧ _
  refine ⟨by decide, ?_⟩
  refine zn (y := (hp90 g)) (st2 := [.ref 53, .ref 48]) ?_ rfl rfl
  show (¬ (60 : Int32) < 0 ∧ Int32.toNatClampNeg 60 ≤ 10000) ∧ _
  refine ⟨by decide, ?_⟩
  refine zn (y := (hp91 g)) (st2 := [.ref 54, .ref 48]) ?_ rfl rfl
  show (¬ (8 : Int32) < 0 ∧ Int32.toNatClampNeg 8 ≤ 10000) ∧ _
  refine ⟨by decide, ?_⟩
  refine zn (y := (hp92 g)) (st2 := [.ref 55, .ref 48]) ?_ rfl rfl
  show (¬ (8 : Int32) < 0 ∧ Int32.toNatClampNeg 8 ≤ 10000) ∧ _
  refine ⟨by decide, ?_⟩
  refine zn (y := (hp93 g)) (st2 := [.ref 56, .ref 48]) ?_ rfl rfl
  show (¬ (160 : Int32) < 0 ∧ Int32.toNatClampNeg 160 ≤ 10000) ∧ _
  refine ⟨by decide, ?_⟩
  refine zn (y := (hp94 g)) (st2 := [.ref 57, .ref 48]) ?_ rfl rfl
  show (¬ (2880 : Int32) < 0 ∧ Int32.toNatClampNeg 2880 ≤ 10000) ∧ _
  refine ⟨by decide, ?_⟩
  refine zn (y := (hp95 g)) (st2 := [.ref 58, .ref 48]) ?_ rfl rfl
  show (¬ (2880 : Int32) < 0 ∧ Int32.toNatClampNeg 2880 ≤ 10000) ∧ _
  refine ⟨by decide, ?_⟩
  refine zn (y := (hp96 g)) (st2 := [.ref 59, .ref 48]) ?_ rfl rfl
  show (¬ (18 : Int32) < 0 ∧ Int32.toNatClampNeg 18 ≤ 10000) ∧ _
  refine ⟨by decide, ?_⟩
  refine zn (y := (hp97 g)) (st2 := [.ref 60, .ref 48]) ?_ rfl rfl
  show (¬ (161 : Int32) < 0 ∧ Int32.toNatClampNeg 161 ≤ 10000) ∧ _
  refine ⟨by decide, ?_⟩
  refine zn (y := (hp98 g)) (st2 := [.ref 61, .ref 48]) ?_ rfl rfl
  show (¬ (161 : Int32) < 0 ∧ Int32.toNatClampNeg 161 ≤ 10000) ∧ _
  refine ⟨by decide, ?_⟩
  refine zn (y := (hp99 g)) (st2 := [.ref 62, .ref 48]) ?_ rfl rfl
  show (¬ (10 : Int32) < 0 ∧ Int32.toNatClampNeg 10 ≤ 10000) ∧ _
  refine ⟨by decide, ?_⟩
  refine zn (y := (hp100 g)) (st2 := [.ref 63, .ref 48]) ?_ rfl rfl
  show (¬ (10 : Int32) < 0 ∧ Int32.toNatClampNeg 10 ≤ 10000) ∧ _
  refine ⟨by decide, ?_⟩
  refine zn (y := (hp101 g)) (st2 := [.ref 64, .ref 48]) ?_ rfl rfl
  show (¬ (10 : Int32) < 0 ∧ Int32.toNatClampNeg 10 ≤ 10000) ∧ _
  refine ⟨by decide, ?_⟩
  refine zn (y := (hp102 g)) (st2 := [.ref 65, .ref 48]) ?_ rfl rfl
  show (¬ (10 : Int32) < 0 ∧ Int32.toNatClampNeg 10 ≤ 10000) ∧ _
  refine ⟨by decide, ?_⟩
  refine zn (y := (hp103 g)) (st2 := [.ref 66, .ref 48]) ?_ rfl rfl
  show (¬ (24 : Int32) < 0 ∧ Int32.toNatClampNeg 24 ≤ 10000) ∧ _
  refine ⟨by decide, ?_⟩
  refine zn (y := (hp104 g)) (st2 := [.ref 67, .ref 48]) ?_ rfl rfl
  show (¬ (24 : Int32) < 0 ∧ Int32.toNatClampNeg 24 ≤ 10000) ∧ _
  refine ⟨by decide, ?_⟩
  refine zn (y := (hp105 g)) (st2 := [.ref 68, .ref 48]) ?_ rfl rfl
  show (¬ (24 : Int32) < 0 ∧ Int32.toNatClampNeg 24 ≤ 10000) ∧ _
  refine ⟨by decide, ?_⟩
  refine zn (y := (hp106 g)) (st2 := [.ref 69, .ref 48]) ?_ rfl rfl
  show (¬ (24 : Int32) < 0 ∧ Int32.toNatClampNeg 24 ≤ 10000) ∧ _
  refine ⟨by decide, ?_⟩
  refine zn (y := (hp107 g)) (st2 := [.ref 70, .ref 48]) ?_ rfl rfl
  show (¬ (8 : Int32) < 0 ∧ Int32.toNatClampNeg 8 ≤ 10000) ∧ _
  refine ⟨by decide, ?_⟩
  refine zn (y := (hp108 g)) (st2 := [.ref 71, .ref 48]) ?_ rfl rfl
  show (¬ (20 : Int32) < 0 ∧ Int32.toNatClampNeg 20 ≤ 10000) ∧ _
  refine ⟨by decide, ?_⟩
  refine zn (y := (hp109 g)) (st2 := [.ref 72, .ref 48]) ?_ rfl rfl
  show (¬ (20 : Int32) < 0 ∧ Int32.toNatClampNeg 20 ≤ 10000) ∧ _
  refine ⟨by decide, ?_⟩
  refine zn (y := (hp110 g)) (st2 := [.ref 73, .ref 48]) ?_ rfl rfl
  show zq_b 0 ∧ (¬ (10 : Int32) < 0 ∧ Int32.toNatClampNeg 10 ≤ 10000) ∧ _
  refine ⟨by first | exact Or.inl rfl | exact Or.inr rfl, by decide, ?_⟩
  refine zn (y := (hp111 g)) (st2 := [.ref 74, .ref 48]) ?_ rfl rfl
  show (¬ (4 : Int32) < 0 ∧ Int32.toNatClampNeg 4 ≤ 10000) ∧ _
  refine ⟨by decide, ?_⟩
  refine zn (y := (hp112 g)) (st2 := [.ref 75, .ref 48]) ?_ rfl rfl
  show vp_in 0 4 ∧ _
  refine ⟨n_in (by decide) (by decide), ?_⟩
  refine zn (y := (hp113 g)) (st2 := [.ref 75, .ref 48]) ?_ rfl rfl
  show vp_in 1 4 ∧ _
  refine ⟨n_in (by decide) (by decide), ?_⟩
  refine zn (y := (hp114 g)) (st2 := [.ref 75, .ref 48]) ?_ rfl rfl
  show vp_in 2 4 ∧ _
  refine ⟨n_in (by decide) (by decide), ?_⟩
  refine zn (y := (hp115 g)) (st2 := [.ref 75, .ref 48]) ?_ rfl rfl
  show vp_in 3 4 ∧ _
  refine ⟨n_in (by decide) (by decide), ?_⟩
  refine zn (y := (hp116 g)) (st2 := [.ref 75, .ref 48]) ?_ rfl rfl
  show (¬ (4 : Int32) < 0 ∧ Int32.toNatClampNeg 4 ≤ 10000) ∧ _
  refine ⟨by decide, ?_⟩
  refine zn (y := (hp117 g)) (st2 := [.ref 76, .ref 48]) ?_ rfl rfl
  show (¬ (160 : Int32) < 0 ∧ Int32.toNatClampNeg 160 ≤ 10000) ∧ _
  refine ⟨by decide, ?_⟩
  refine zn (y := (hp118 g)) (st2 := [.ref 77, .ref 48]) ?_ rfl rfl
  show (¬ (40 : Int32) < 0 ∧ Int32.toNatClampNeg 40 ≤ 10000) ∧ _
  refine ⟨by decide, ?_⟩
  refine zn (y := (hp119 g)) (st2 := [.ref 78, .ref 48]) ?_ rfl rfl
  show (¬ (12 : Int32) < 0 ∧ Int32.toNatClampNeg 12 ≤ 10000) ∧ _
  refine ⟨by decide, ?_⟩
  refine zn (y := (hp120 g)) (st2 := [.ref 79, .ref 48]) ?_ rfl rfl
  show vp_in 0 18 ∧ _
  refine ⟨n_in (by decide) (by decide), ?_⟩
  refine zn (y := (hp121 g)) (st2 := []) ?_ rfl rfl
  show vp_in 1 18 ∧ _
  refine ⟨n_in (by decide) (by decide), ?_⟩
  refine zn (y := (hp122 g)) (st2 := []) ?_ rfl rfl
  show vp_in 161 2880 ∧ _
  refine ⟨n_in (by decide) (by decide), ?_⟩
  refine zn (y := (hp123 g)) (st2 := []) ?_ rfl rfl
  show vp_in 161 2880 ∧ _
  refine ⟨n_in (by decide) (by decide), ?_⟩
  refine zn (y := (hp124 g)) (st2 := []) ?_ rfl rfl
  show vp_in 162 2880 ∧ _
  refine ⟨n_in (by decide) (by decide), ?_⟩
  refine zn (y := (hp125 g)) (st2 := []) ?_ rfl rfl
  show vp_in 2 18 ∧ _
  refine ⟨n_in (by decide) (by decide), ?_⟩
  refine zn (y := (hp126 g)) (st2 := []) ?_ rfl rfl
  show vp_in 320 2880 ∧ _
  refine ⟨n_in (by decide) (by decide), ?_⟩
  refine zn (y := (hp127 g)) (st2 := []) ?_ rfl rfl
  show vp_in 320 2880 ∧ _
  refine ⟨n_in (by decide) (by decide), ?_⟩
  refine zn (y := (hp128 g)) (st2 := []) ?_ rfl rfl
  show Q none (hp129 g)
  exact h
set_option maxRecDepth 100000 in
theorem ci_law {g : zq_G} {d : Nat} {Q : Option Value → List zq_E → Prop} (h : cx g (d + 143) kL_law 18 [.ref 1000, .ref 0, .ref 48, .int 0] [] (80, 9617) (hp130 g) Q) : cx g (d + 143) kL_law 0 [.ref 1000, .null, .null, .null] [] (0, 0) (hp0 g) Q := by
  refine cx_go 100 zq_t230 ?_
  show cx g (d + 142) kX11_init 0 [.ref 0] [] (0, 0) (hp1 g) _
  refine ci_X11_init ?_
  show cx g (d + 142) kX12_init 0 [.ref 48] [] (0, 0) (hp84 g) _
  refine ci_X12_init ?_
  show cx g (d + 143) kL_law 18 [.ref 1000, .ref 0, .ref 48, .int (0)] [] (80, 9617) (hp130 g) Q
  exact h
