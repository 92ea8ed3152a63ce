/-- what the pushes need of both memories -/
def R5p (M : zq_M) (p : Nat → Int32) : Prop := gS (M 1 3) (M 48 0) (M 2) (M 49) p (M 50) ∧ gN (M 5 4) (M 48 1) (M 6) (M 51) (M 7) (M 52) (M 8) (M 53) (M 9) (M 54) ∧ gH (M 10 2) (M 48 2) (M 11) (M 55) (M 12) (M 56) ∧ gT (M 1 3) (M 30 7) (M 48 32) (M 30 8) (M 48 39) (M 31) (M 67) (M 32) (M 68) (M 33) (M 69) (M 34) (M 72) (M 35) (M 73) ∧ gX (M 13 4) (M 48 11) (M 13 5) (M 48 12) (M 14) (M 15) (M 58) (M 59) (M 60)
def R5 (M : zq_M) : Prop := R5p M (M 3)
theorem RR_5 {M : zq_M} (h : RR M) : R5 M := by
  obtain ⟨hS, hN, hH, hT, hP, hI, hE, hF, hX, hV⟩ := h
  exact ⟨hS, hN, hH, hT, hX⟩
theorem R5_fr {M M' : zq_M} (h : fr (fL sL) M M') (hR : R5 M) : R5 M' := by
  obtain ⟨hS, hN, hH, hT, hX⟩ := hR
  exact ⟨gS_fr ⟨h 1 3 rfl, h 48 0 rfl, fr_ar h 2 (fun _ => rfl), fr_ar h 49 (fun _ => rfl), fr_ar h 3 (fun _ => rfl), fr_ar h 50 (fun _ => rfl)⟩ hS, gN_fr ⟨h 5 4 rfl, h 48 1 rfl, fr_ar h 6 (fun _ => rfl), fr_ar h 51 (fun _ => rfl), fr_ar h 7 (fun _ => rfl), fr_ar h 52 (fun _ => rfl), fr_ar h 8 (fun _ => rfl), fr_ar h 53 (fun _ => rfl), fr_ar h 9 (fun _ => rfl), fr_ar h 54 (fun _ => rfl)⟩ hN, gH_fr ⟨h 10 2 rfl, h 48 2 rfl, fr_ar h 11 (fun _ => rfl), fr_ar h 55 (fun _ => rfl), fr_ar h 12 (fun _ => rfl), fr_ar h 56 (fun _ => rfl)⟩ hH, gT_fr ⟨h 1 3 rfl, h 30 7 rfl, h 48 32 rfl, h 30 8 rfl, h 48 39 rfl, fr_ar h 31 (fun _ => rfl), fr_ar h 67 (fun _ => rfl), fr_ar h 32 (fun _ => rfl), fr_ar h 68 (fun _ => rfl), fr_ar h 33 (fun _ => rfl), fr_ar h 69 (fun _ => rfl), fr_ar h 34 (fun _ => rfl), fr_ar h 72 (fun _ => rfl), fr_ar h 35 (fun _ => rfl), fr_ar h 73 (fun _ => rfl)⟩ hT, gX_fr ⟨h 13 4 rfl, h 48 11 rfl, h 13 5 rfl, h 48 12 rfl, fr_ar h 14 (fun _ => rfl), fr_ar h 15 (fun _ => rfl), fr_ar h 58 (fun _ => rfl), fr_ar h 59 (fun _ => rfl), fr_ar h 60 (fun _ => rfl)⟩ hX⟩
theorem R5p_fr {M M' : zq_M} {p : Nat → Int32} (h : fr (fL sL) M M') (hR : R5p M p) : R5p M' p := by
  obtain ⟨hS, hN, hH, hT, hX⟩ := hR
  exact ⟨by rw [h 1 3 rfl, h 48 0 rfl, fr_ar h 2 (fun _ => rfl), fr_ar h 49 (fun _ => rfl), fr_ar h 50 (fun _ => rfl)]; exact hS, gN_fr ⟨h 5 4 rfl, h 48 1 rfl, fr_ar h 6 (fun _ => rfl), fr_ar h 51 (fun _ => rfl), fr_ar h 7 (fun _ => rfl), fr_ar h 52 (fun _ => rfl), fr_ar h 8 (fun _ => rfl), fr_ar h 53 (fun _ => rfl), fr_ar h 9 (fun _ => rfl), fr_ar h 54 (fun _ => rfl)⟩ hN, gH_fr ⟨h 10 2 rfl, h 48 2 rfl, fr_ar h 11 (fun _ => rfl), fr_ar h 55 (fun _ => rfl), fr_ar h 12 (fun _ => rfl), fr_ar h 56 (fun _ => rfl)⟩ hH, gT_fr ⟨h 1 3 rfl, h 30 7 rfl, h 48 32 rfl, h 30 8 rfl, h 48 39 rfl, fr_ar h 31 (fun _ => rfl), fr_ar h 67 (fun _ => rfl), fr_ar h 32 (fun _ => rfl), fr_ar h 68 (fun _ => rfl), fr_ar h 33 (fun _ => rfl), fr_ar h 69 (fun _ => rfl), fr_ar h 34 (fun _ => rfl), fr_ar h 72 (fun _ => rfl), fr_ar h 35 (fun _ => rfl), fr_ar h 73 (fun _ => rfl)⟩ hT, gX_fr ⟨h 13 4 rfl, h 48 11 rfl, h 13 5 rfl, h 48 12 rfl, fr_ar h 14 (fun _ => rfl), fr_ar h 15 (fun _ => rfl), fr_ar h 58 (fun _ => rfl), fr_ar h 59 (fun _ => rfl), fr_ar h 60 (fun _ => rfl)⟩ hX⟩
theorem ma_ma {M : zq_M} {c : Nat} {f f2 : Nat → Int32} : zq_ma (zq_ma M c f) c f2 = zq_ma M c f2 := by
  funext a
  unfold zq_ma
  by_cases e : a = c
  · rw [if_pos e, if_pos e]
  · rw [if_neg e, if_neg e, if_neg e]
theorem fr_of {l : List Nat} {N M : zq_M} : fr (fL l) M (mv l N M) := by
  intro c i e
  unfold mv
  unfold fL at e
  rw [e]
  rfl
theorem evV_congr {n n' r r' : Int32} {co en sg te ma fa fa' : Nat → Int32} {t p : Nat} (hX : gX n n' r r' co en sg te ma) (ht : (t : Int) < n.toInt) (hp : p < 3) (h : ∀ j, j < 6 → fa j = fa' j) : evV fa (tl co en t p) = evV fa' (tl co en t p) := by
  obtain ⟨f, l, hl⟩ := hX.2.2.2.2.2.2 t p ht hp
  rw [← (prt_tl hl).1]
  exact ev_ind h l 0 _ _ hl.2.2.2.2.2.2 (fun j hj => absurd hj (by omega))
theorem c_X8_tellStone {g : zq_G} {d : Nat} {M : zq_M} {Q : Option Value → zq_M → Prop} {w nu : Int32} {f : Nat → Int32} (hf : M 16 = f) (h : Q none (zq_ma M 16 (upd (upd f 0 w) 4 nu))) : mx g d kX8_tellStone 0 [.ref 13, .int w, .int nu] [] M Q := by
  subst hf
  refine mx_go 250 zq_t68 ?_
  show vp_in 0 6 ∧ vp_in 4 6 ∧ Q none (zq_ma (zq_ma M 16 (upd (M 16) (Int32.toNatClampNeg 0) w)) 16 (upd (upd (M 16) (Int32.toNatClampNeg 0) w) (Int32.toNatClampNeg 4) nu))
  refine ⟨n_in (by decide) (by decide), n_in (by decide) (by decide), ?_⟩
  rw [ma_ma]
  exact h
theorem c_X8_tellNight {g : zq_G} {d : Nat} {M : zq_M} {Q : Option Value → zq_M → Prop} {ni wet ice wi : Int32} {f : Nat → Int32} (hf : M 16 = f) (h : Q none (zq_ma M 16 (upd (upd (upd (upd f 5 ni) 1 wet) 2 ice) 3 wi))) : mx g d kX8_tellNight 0 [.ref 13, .int ni, .int wet, .int ice, .int wi] [] M Q := by
  subst hf
  refine mx_go 250 zq_t69 ?_
  show vp_in 5 6 ∧ vp_in 1 6 ∧ vp_in 2 6 ∧ vp_in 3 6 ∧ Q none (zq_ma (zq_ma (zq_ma (zq_ma M 16 (upd (M 16) (Int32.toNatClampNeg 5) ni)) 16 (upd (upd (M 16) (Int32.toNatClampNeg 5) ni) (Int32.toNatClampNeg 1) wet)) 16 (upd (upd (upd (M 16) (Int32.toNatClampNeg 5) ni) (Int32.toNatClampNeg 1) wet) (Int32.toNatClampNeg 2) ice)) 16 (upd (upd (upd (upd (M 16) (Int32.toNatClampNeg 5) ni) (Int32.toNatClampNeg 1) wet) (Int32.toNatClampNeg 2) ice) (Int32.toNatClampNeg 3) wi))
  refine ⟨n_in (by decide) (by decide), n_in (by decide) (by decide), n_in (by decide) (by decide), n_in (by decide) (by decide), ?_⟩
  rw [ma_ma, ma_ma, ma_ma]
  exact h
theorem told6 {f : Nat → Int32} {w nu ni wet ice wi : Int32} : ∀ j, j < 6 → upd (upd (upd (upd (upd (upd f 0 w) 4 nu) 5 ni) 1 wet) 2 ice) 3 wi j = fct w nu ni wet ice wi j
  | 0, _ => rfl
  | 1, _ => rfl
  | 2, _ => rfl
  | 3, _ => rfl
  | 4, _ => rfl
  | 5, _ => rfl
  | j + 6, h => absurd h (by omega)
theorem c_X11_within {g : zq_G} {d : Nat} {M : zq_M} {Q : Option Value → zq_M → Prop} {v a b : Int32} (h : Q (some (.int (if a < (if v < b then v else b) then (if v < b then v else b) else a))) M) : mx g (d + 1) kX11_within 0 [.int v, .int a, .int b] [] M Q := by
  refine mx_go 250 zq_t126 ?_
  show Q (some (.int (if a < (if v < b then v else b) then (if v < b then v else b) else a))) M
  exact h
theorem c_X4_squares {g : zq_G} {d : Nat} {M : zq_M} {Q : Option Value → zq_M → Prop} {h s n wi : Int32} (hR : R5 M) (a1 : 0 ≤ h.toInt) (a2 : h.toInt < 8) (b1 : 0 ≤ s.toInt) (b2 : s.toInt < 10) (c1 : 0 ≤ n.toInt) (c2 : n.toInt < 60) (hq : ∀ N : zq_M, Q (some (.int (sq M h s n wi))) (mv [16, 17] N M)) : mx g (d + 3) kX4_squares 0 [.ref 24, .int h, .int s, .int n, .int wi, .null, .null] [] M Q := by
  obtain ⟨hS, hN, hH, hT, hX⟩ := hR
  have hin : vp_in h 8 := n_in a1 a2
  have sin : vp_in s 10 := n_in b1 b2
  have nin : vp_in n 60 := n_in c1 c2
  have hk := hH.2.2.2.2.2.1 h.toNatClampNeg
  have hx5 := hX.2.2.2.2.1
  have hx6 := hX.2.2.2.2.2.1
  unfold sq sqZ at hq
  have hM := hq M
  rw [mv_id] at hM
  refine mx_go 250 zq_t21 ?_
  show vp_in n 60 ∧ vp_in n 60 ∧ mx g (d + 2) kX0_may 0 [.ref 10, .int (h), .int (((M 6) (Int32.toNatClampNeg n))), .int (((M 7) (Int32.toNatClampNeg n)))] [] M _
  refine ⟨nin, nin, ?_⟩
  refine c_X0_may rfl a1 a2 (fun c _ => ?_) (fun c => ?_)
  · show (¬ (1 : Int32) = 0 → vp_in s 10 ∧ mx g (d + 2) kX0_barePush 0 [.ref 10, .int (h), .int (((M 2) (Int32.toNatClampNeg s))), .int (wi), .null] [] M _) ∧ ((1 : Int32) = 0 → Q (some (.int 0)) M)
    rw [c, if_pos rfl] at hM
    refine ⟨fun _ => ⟨sin, ?_⟩, fun q => absurd q (by decide)⟩
    refine c_X0_barePush rfl rfl a1 a2 hk.1 hk.2 ?_
    show (¬ ((bareZ (M 11 h.toNatClampNeg) (M 12 h.toNatClampNeg) (M 2 s.toNatClampNeg) wi) : Int32) = 0 → vp_in h 8 ∧ mx g (d + 2) kX8_tellStone 0 [.ref 13, .int ((M 2 s.toNatClampNeg)), .int (((M 12) (Int32.toNatClampNeg h)))] [] M _) ∧ (((bareZ (M 11 h.toNatClampNeg) (M 12 h.toNatClampNeg) (M 2 s.toNatClampNeg) wi) : Int32) = 0 → Q (some (.int 0)) M)
    refine ⟨fun r => ⟨hin, ?_⟩, fun r => ?_⟩
    · refine c_X8_tellStone rfl ?_
      show vp_in n 60 ∧ vp_in n 60 ∧ mx g (d + 2) kX8_tellNight 0 [.ref 13, .int (n), .int ((((zq_ma M 16 (upd (upd (M 16) 0 (M 2 s.toNatClampNeg)) 4 (M 12 h.toNatClampNeg))) 6) (Int32.toNatClampNeg n))), .int ((((zq_ma M 16 (upd (upd (M 16) 0 (M 2 s.toNatClampNeg)) 4 (M 12 h.toNatClampNeg))) 7) (Int32.toNatClampNeg n))), .int (wi)] [] (zq_ma M 16 (upd (upd (M 16) 0 (M 2 s.toNatClampNeg)) 4 (M 12 h.toNatClampNeg))) _
      refine ⟨nin, nin, ?_⟩
      refine c_X8_tellNight (f := upd (upd (M 16) 0 (M 2 s.toNatClampNeg)) 4 (M 12 h.toNatClampNeg)) rfl ?_
      rw [ma_ma]
      show mx g (d + 2) kX8_value 0 [.ref 13, .int (0), .null, .null, .null, .null] [] (zq_ma M 16 (upd (upd (upd (upd (upd (upd (M 16) 0 (M 2 s.toNatClampNeg)) 4 (M 12 h.toNatClampNeg)) 5 n) 1 (M 6 n.toNatClampNeg)) 2 (M 7 n.toNatClampNeg)) 3 wi)) _
      refine c_X8_value (r := M 13 5) (co := M 14) (en := M 15) (fa := upd (upd (upd (upd (upd (upd (M 16) 0 (M 2 s.toNatClampNeg)) 4 (M 12 h.toNatClampNeg)) 5 n) 1 (M 6 n.toNatClampNeg)) 2 (M 7 n.toNatClampNeg)) 3 wi) hX rfl rfl rfl rfl (by decide) (by decide) (fun N => ?_)
      have ec := evV_congr (t := (M 13 5).toInt.toNat) (p := 0) hX (by omega) (by decide) (told6 (f := M 16) (w := M 2 s.toNatClampNeg) (nu := M 12 h.toNatClampNeg) (ni := n) (wet := M 6 n.toNatClampNeg) (ice := M 7 n.toNatClampNeg) (wi := wi))
      rw [show (Int32.toInt 0).toNat = 0 from rfl, ec]
      generalize hG : mv [17] N (zq_ma M 16 (upd (upd (upd (upd (upd (upd (M 16) 0 (M 2 s.toNatClampNeg)) 4 (M 12 h.toNatClampNeg)) 5 n) 1 (M 6 n.toNatClampNeg)) 2 (M 7 n.toNatClampNeg)) 3 wi)) = G
      have hfr : fr (fL [16, 17]) M G := by
        rw [← hG]
        exact fr_trans (fr_ma fr_rfl (fun _ => rfl)) (fr_sub fr_of (by decide))
      generalize hb : bareZ (M 11 h.toNatClampNeg) (M 12 h.toNatClampNeg) (M 2 s.toNatClampNeg) wi = b at hq r ⊢
      generalize hv : evV (fct (M 2 s.toNatClampNeg) (M 12 h.toNatClampNeg) n (M 6 n.toNatClampNeg) (M 7 n.toNatClampNeg) wi) (tl (M 14) (M 15) (M 13 5).toInt.toNat 0) = v at hq ⊢
      show mx g (d + 2) kX11_within 0 [.int (v), .int ((-9)), .int (9)] [] G _
      refine c_X11_within ?_
      show Q (some (.int (if 0 < b + (if -9 < (if v < 9 then v else 9) then (if v < 9 then v else 9) else -9) then b + (if -9 < (if v < 9 then v else 9) then (if v < 9 then v else 9) else -9) else 0))) G
      rw [← addZ_x, fr_mv hfr]
      have := hq G
      rw [c, if_pos rfl, if_neg r] at this
      exact this
    · rw [if_pos r] at hM
      exact hM
  · show (¬ (0 : Int32) = 0 → vp_in s 10 ∧ mx g (d + 2) kX0_barePush 0 [.ref 10, .int (h), .int (((M 2) (Int32.toNatClampNeg s))), .int (wi), .null] [] M _) ∧ ((0 : Int32) = 0 → Q (some (.int 0)) M)
    rw [c] at hM
    exact ⟨fun q => absurd rfl q, fun _ => hM⟩
theorem c_X12_plainPush {g : zq_G} {d : Nat} {M : zq_M} {Q : Option Value → zq_M → Prop} {h s n wi k num w wet ice : Int32} (hk : M 55 h.toNatClampNeg = k) (hnu : M 56 h.toNatClampNeg = num) (hw : M 49 s.toNatClampNeg = w) (hwe : M 51 n.toNatClampNeg = wet) (hic : M 52 n.toNatClampNeg = ice) (hwi : (0 ≤ M 48 27 → M 48 27 = wi) ∧ (¬ 0 ≤ M 48 27 → M 53 n.toNatClampNeg = wi)) (a1 : 0 ≤ h.toInt) (a2 : h.toInt < 8) (b1 : 0 ≤ s.toInt) (b2 : s.toInt < 10) (c1 : 0 ≤ n.toInt) (c2 : n.toInt < 60) (k1 : 0 ≤ k.toInt) (k2 : k.toInt ≤ 5) (hq : Q (some (.int (if mayB k wet ice = true then bareZ k num w wi else 0))) M) : mx g (d + 2) kX12_plainPush 0 [.ref 48, .int h, .int s, .int n, .null] [] M Q := by
  have hin : vp_in h 8 := n_in a1 a2
  have sin : vp_in s 10 := n_in b1 b2
  have nin : vp_in n 60 := n_in c1 c2
  have f5 : (5 : Int32).toInt = 5 := rfl
  have f3 : (3 : Int32).toInt = 3 := rfl
  have f4 : (4 : Int32).toInt = 4 := rfl
  refine mx_go 250 zq_t177 ?_
  show mx g (d + 1) kX12_may 0 [.ref 48, .int (h), .int (n)] [] M _
  refine c_X12_may hk hwe hic a1 a2 c1 c2 (fun c _ => ?_) (fun c => ?_)
  · show (¬ (1 : Int32) = 0 → vp_in h 8 ∧ (¬ (((M 55) (Int32.toNatClampNeg h)) : Int32) = (5 : Int32) → mx g (d + 1) kX12_windNow 0 [.ref 48, .int (n)] [] M _) ∧ ((((M 55) (Int32.toNatClampNeg h)) : Int32) = (5 : Int32) → vp_in h 8 ∧ vp_in s 10 ∧ (¬ (5 : Int32) = 0) ∧ ((((M 56) (Int32.toNatClampNeg h)) : Int32) ≤ ((((M 49) (Int32.toNatClampNeg s)) / 5) : Int32) → Q (some (.int 0)) M) ∧ (¬ (((M 56) (Int32.toNatClampNeg h)) : Int32) ≤ ((((M 49) (Int32.toNatClampNeg s)) / 5) : Int32) → Q (some (.int 1)) M))) ∧ ((1 : Int32) = 0 → Q (some (.int 0)) M)
    rw [hk, hnu, hw]
    rw [c, if_pos rfl] at hq
    unfold bareZ at hq
    refine ⟨fun _ => ⟨hin, fun q => ?_, fun q => ⟨hin, sin, by decide, fun r => ?_, fun r => ?_⟩⟩, fun q => absurd q (by decide)⟩
    · rw [n_eq, f5] at q
      rw [if_neg q] at hq
      refine mx_q (fun Q1 hQ1 => ?_)
      refine mx_go 250 zq_t174 ?_
      show (0 ≤ ((M 48 27) : Int32) → Q1 (some (.int (M 48 27))) M) ∧ (¬ 0 ≤ ((M 48 27) : Int32) → vp_in n 60 ∧ Q1 (some (.int ((M 53) (Int32.toNatClampNeg n)))) M)
      refine ⟨fun z => hQ1 _ _ ?_, fun z => ⟨nin, hQ1 _ _ ?_⟩⟩
      · rw [hwi.1 z]
        show mx g (d + 1) kX12_drag 0 [.ref 48, .int (h), .int (s), .null] [] M _
        refine c_X12_drag hk hnu hw a1 a2 b1 b2 k1 k2 ?_
        show (¬ (10 : Int32) = 0) ∧ (0 < (((wi - (dragZ k num w)) / 10) : Int32) → vp_in h 8 ∧ (¬ (((M 55) (Int32.toNatClampNeg h)) : Int32) = (3 : Int32) → vp_in h 8 ∧ (¬ (((M 55) (Int32.toNatClampNeg h)) : Int32) = (4 : Int32) → Q (some (.int ((wi - (dragZ k num w)) / 10))) M) ∧ ((((M 55) (Int32.toNatClampNeg h)) : Int32) = (4 : Int32) → Q (some (.int (((wi - (dragZ k num w)) / 10) + 1))) M)) ∧ ((((M 55) (Int32.toNatClampNeg h)) : Int32) = (3 : Int32) → ((((wi - (dragZ k num w)) / 10) : Int32) ≤ (9 : Int32) → Q (some (.int ((wi - (dragZ k num w)) / 10))) M) ∧ (¬ (((wi - (dragZ k num w)) / 10) : Int32) ≤ (9 : Int32) → Q (some (.int 9)) M))) ∧ (¬ 0 < (((wi - (dragZ k num w)) / 10) : Int32) → Q (some (.int 0)) M)
        rw [hk]
        generalize (wi - dragZ k num w) / 10 = p at hq ⊢
        refine ⟨by decide, fun r => ⟨hin, fun t => ⟨hin, fun u => ?_, fun u => ?_⟩, fun t => ⟨fun u => ?_, fun u => ?_⟩⟩, fun r => ?_⟩
        · rw [n_eq, f3] at t
          rw [n_eq, f4] at u
          rw [if_pos r, if_neg t, if_neg u] at hq
          exact hq
        · rw [n_eq, f3] at t
          rw [n_eq, f4] at u
          rw [if_pos r, if_neg t, if_pos u] at hq
          exact hq
        · rw [n_eq, f3] at t
          rw [if_pos r, if_pos t, if_pos u] at hq
          exact hq
        · rw [n_eq, f3] at t
          rw [if_pos r, if_pos t, if_neg u] at hq
          exact hq
        · rw [if_neg r] at hq
          exact hq
      · rw [hwi.2 z]
        show mx g (d + 1) kX12_drag 0 [.ref 48, .int (h), .int (s), .null] [] M _
        refine c_X12_drag hk hnu hw a1 a2 b1 b2 k1 k2 ?_
        show (¬ (10 : Int32) = 0) ∧ (0 < (((wi - (dragZ k num w)) / 10) : Int32) → vp_in h 8 ∧ (¬ (((M 55) (Int32.toNatClampNeg h)) : Int32) = (3 : Int32) → vp_in h 8 ∧ (¬ (((M 55) (Int32.toNatClampNeg h)) : Int32) = (4 : Int32) → Q (some (.int ((wi - (dragZ k num w)) / 10))) M) ∧ ((((M 55) (Int32.toNatClampNeg h)) : Int32) = (4 : Int32) → Q (some (.int (((wi - (dragZ k num w)) / 10) + 1))) M)) ∧ ((((M 55) (Int32.toNatClampNeg h)) : Int32) = (3 : Int32) → ((((wi - (dragZ k num w)) / 10) : Int32) ≤ (9 : Int32) → Q (some (.int ((wi - (dragZ k num w)) / 10))) M) ∧ (¬ (((wi - (dragZ k num w)) / 10) : Int32) ≤ (9 : Int32) → Q (some (.int 9)) M))) ∧ (¬ 0 < (((wi - (dragZ k num w)) / 10) : Int32) → Q (some (.int 0)) M)
        rw [hk]
        generalize (wi - dragZ k num w) / 10 = p at hq ⊢
        refine ⟨by decide, fun r => ⟨hin, fun t => ⟨hin, fun u => ?_, fun u => ?_⟩, fun t => ⟨fun u => ?_, fun u => ?_⟩⟩, fun r => ?_⟩
        · rw [n_eq, f3] at t
          rw [n_eq, f4] at u
          rw [if_pos r, if_neg t, if_neg u] at hq
          exact hq
        · rw [n_eq, f3] at t
          rw [n_eq, f4] at u
          rw [if_pos r, if_neg t, if_pos u] at hq
          exact hq
        · rw [n_eq, f3] at t
          rw [if_pos r, if_pos t, if_pos u] at hq
          exact hq
        · rw [n_eq, f3] at t
          rw [if_pos r, if_pos t, if_neg u] at hq
          exact hq
        · rw [if_neg r] at hq
          exact hq
    · rw [n_eq, f5] at q
      rw [if_pos q, if_pos r] at hq
      exact hq
    · rw [n_eq, f5] at q
      rw [if_pos q, if_neg r] at hq
      exact hq
  · show (¬ (0 : Int32) = 0 → vp_in h 8 ∧ (¬ (((M 55) (Int32.toNatClampNeg h)) : Int32) = (5 : Int32) → mx g (d + 1) kX12_windNow 0 [.ref 48, .int (n)] [] M _) ∧ ((((M 55) (Int32.toNatClampNeg h)) : Int32) = (5 : Int32) → vp_in h 8 ∧ vp_in s 10 ∧ (¬ (5 : Int32) = 0) ∧ ((((M 56) (Int32.toNatClampNeg h)) : Int32) ≤ ((((M 49) (Int32.toNatClampNeg s)) / 5) : Int32) → Q (some (.int 0)) M) ∧ (¬ (((M 56) (Int32.toNatClampNeg h)) : Int32) ≤ ((((M 49) (Int32.toNatClampNeg s)) / 5) : Int32) → Q (some (.int 1)) M))) ∧ ((0 : Int32) = 0 → Q (some (.int 0)) M)
    rw [c] at hq
    exact ⟨fun q => absurd rfl q, fun _ => hq⟩
theorem c_X12_pushes {g : zq_G} {d : Nat} {M : zq_M} {Q : Option Value → zq_M → Prop} {h s n wi : Int32} {p : Nat → Int32} (hR : R5p M p) (a1 : 0 ≤ h.toInt) (a2 : h.toInt < 8) (b1 : 0 ≤ s.toInt) (b2 : s.toInt < 10) (c1 : 0 ≤ n.toInt) (c2 : n.toInt < 60) (hwi : (0 ≤ M 48 27 → M 48 27 = wi) ∧ (¬ 0 ≤ M 48 27 → M 8 n.toNatClampNeg = wi)) (hq : ∀ N : zq_M, Q (some (.int (sq M h s n wi))) (mv [62] N M)) : mx g (d + 3) kX12_pushes 0 [.ref 48, .int h, .int s, .int n, .null, .null] [] M Q := by
  obtain ⟨hS, hN, hH, hT, hX⟩ := hR
  have sin : vp_in s 10 := n_in b1 b2
  have hk := hH.2.2.2.2.2.1 h.toNatClampNeg
  have e55 : M 55 = M 11 := hH.2.1
  have e56 : M 56 = M 12 := hH.2.2.1
  have e49 : M 49 = M 2 := hS.2.1
  have e51 : M 51 = M 6 := hN.2.1
  have e52 : M 52 = M 7 := hN.2.2.1
  have e53 : M 53 = M 8 := hN.2.2.2.1
  have e12 : M 48 12 = M 13 5 := hX.2.1
  unfold sq sqZ at hq
  have hM := hq M
  rw [mv_id] at hM
  have hwi' : (0 ≤ M 48 27 → M 48 27 = wi) ∧ (¬ 0 ≤ M 48 27 → M 53 n.toNatClampNeg = wi) := by rw [e53]; exact hwi
  refine mx_go 250 zq_t178 ?_
  show mx g (d + 2) kX12_plainPush 0 [.ref 48, .int (h), .int (s), .int (n), .null] [] M _
  refine c_X12_plainPush (wi := wi) (congrFun e55 _) (congrFun e56 _) (congrFun e49 _) (congrFun e51 _) (congrFun e52 _) hwi' a1 a2 b1 b2 c1 c2 hk.1 hk.2 ?_
  show (¬ ((if mayB (M 11 h.toNatClampNeg) (M 6 n.toNatClampNeg) (M 7 n.toNatClampNeg) = true then bareZ (M 11 h.toNatClampNeg) (M 12 h.toNatClampNeg) (M 2 s.toNatClampNeg) wi else 0) : Int32) = 0 → vp_in s 10 ∧ mx g (d + 2) kX12_tellsRule 0 [.ref 48, .int (0), .int (((M 49) (Int32.toNatClampNeg s))), .int (n), .int (h), .null, .null, .null, .null] [] M _) ∧ (((if mayB (M 11 h.toNatClampNeg) (M 6 n.toNatClampNeg) (M 7 n.toNatClampNeg) = true then bareZ (M 11 h.toNatClampNeg) (M 12 h.toNatClampNeg) (M 2 s.toNatClampNeg) wi else 0) : Int32) = 0 → Q (some (.int 0)) M)
  rw [e49]
  cases c : mayB (M 11 h.toNatClampNeg) (M 6 n.toNatClampNeg) (M 7 n.toNatClampNeg) with
  | false =>
    rw [c] at hM
    exact ⟨fun q => absurd rfl q, fun _ => hM⟩
  | true =>
    rw [c, if_pos rfl] at hM
    rw [if_pos rfl]
    generalize hb : bareZ (M 11 h.toNatClampNeg) (M 12 h.toNatClampNeg) (M 2 s.toNatClampNeg) wi = b at hq hM ⊢
    refine ⟨fun r => ⟨sin, ?_⟩, fun r => ?_⟩
    · refine c_X12_tellsRule (r := M 13 5) (co := M 14) (en := M 15) (num := M 12 h.toNatClampNeg) (wet := M 6 n.toNatClampNeg) (ice := M 7 n.toNatClampNeg) (wi := wi) hX e12 rfl rfl rfl (by decide) (by decide) c1 c2 a2 (congrFun e51 _) (congrFun e52 _) hwi' ⟨fun _ => congrFun e56 _, fun z => absurd (by rw [n_le, n_0]; exact a1) z⟩ (fun N => ?_)
      rw [show (Int32.toInt 0).toNat = 0 from rfl]
      have := hq N
      rw [c, if_pos rfl, if_neg r] at this
      generalize evV (fct (M 2 s.toNatClampNeg) (M 12 h.toNatClampNeg) n (M 6 n.toNatClampNeg) (M 7 n.toNatClampNeg) wi) (tl (M 14) (M 15) (M 13 5).toInt.toNat 0) = v at this ⊢
      rw [fr_mv (fr_of (l := [62]) (N := N) (M := M))] at this ⊢
      generalize hG : mv [62] (mv [62] N M) M = G at this ⊢
      show ((v : Int32) ≤ (9 : Int32) → (((-9) : Int32) ≤ (v : Int32) → (0 ≤ ((b + v) : Int32) → Q (some (.int (b + v))) G) ∧ (¬ 0 ≤ ((b + v) : Int32) → Q (some (.int 0)) G)) ∧ (¬ ((-9) : Int32) ≤ (v : Int32) → (0 ≤ ((b + (-9)) : Int32) → Q (some (.int (b + (-9)))) G) ∧ (¬ 0 ≤ ((b + (-9)) : Int32) → Q (some (.int 0)) G))) ∧ (¬ (v : Int32) ≤ (9 : Int32) → (0 ≤ ((b + 9) : Int32) → Q (some (.int (b + 9))) G) ∧ (¬ 0 ≤ ((b + 9) : Int32) → Q (some (.int 0)) G))
      unfold addZ clz at this
      refine ⟨fun t => ⟨fun u => ⟨fun x => ?_, fun x => ?_⟩, fun u => ⟨fun x => ?_, fun x => ?_⟩⟩, fun t => ⟨fun x => ?_, fun x => ?_⟩⟩
      · rw [if_pos t, if_pos u, if_pos x] at this; exact this
      · rw [if_pos t, if_pos u, if_neg x] at this; exact this
      · rw [if_pos t, if_neg u, if_pos x] at this; exact this
      · rw [if_pos t, if_neg u, if_neg x] at this; exact this
      · rw [if_neg t, if_pos x] at this; exact this
      · rw [if_neg t, if_neg x] at this; exact this
    · rw [if_pos r] at hM
      exact hM
