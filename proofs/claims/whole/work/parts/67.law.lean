/-- the law, behind the constructors -/
abbrev lx (g : zq_G) (d pc : Nat) (ls st : List Value) (M : zq_M) (Q : Option Value → zq_M → Prop) : Prop := zq_x g zq_rp d kL_law pc ls st (80, 9617) M Q
theorem lx_go {g : zq_G} {d pc : Nat} {Q : Option Value → zq_M → Prop} {ls st : List Value} {M : zq_M} (n : Nat) (h : zq_wp g zq_oM zq_rp zq_m230.2.2.2.2.1 zq_m230.2.2.2.1 zq_m230.2.2.2.2.2.1 d kL_law Q n (zq_sf zq_m230.2.2.2.2.1 pc) ls st (80, 9617) M) : lx g d pc ls st M Q := zq_go zq_lM zq_t230 n h
set_option maxRecDepth 100000 in
theorem law_step {g : zq_G} {d : Nat} {Q : Option Value → zq_M → Prop} {M : zq_M} {i : Int32} (hR : RR M) (w0 : vp_in i (zq_L g)) (w1 : vp_in (i + 1) (zq_L g)) (w2 : vp_in (i + 2) (zq_L g)) (w3 : vp_in (i + 3) (zq_L g)) (w4 : vp_in (i + 4) (zq_L g)) (w5 : vp_in (i + 5) (zq_L g)) (hi : ¬ (nI (zq_L g)) - 6 < i) (H : ∀ M' : zq_M, RR M' → lx g (d + 143) 18 [.ref 1000, .ref 0, .ref 48, .int (i + 6)] [] M' Q) : lx g (d + 143) 18 [.ref 1000, .ref 0, .ref 48, .int i] [] M Q := by
  refine lx_go 100 ?_
  show ((((nI (zq_L g)) - 6) : Int32) < (i : Int32) → zq_b 1 ∧ Q (some (.int 1)) M) ∧ (¬ (((nI (zq_L g)) - 6) : Int32) < (i : Int32) → vp_in i (zq_L g) ∧ ((((zq_rf g 0 (Int32.toNatClampNeg i)) &&& 63) : Int32).toInt < 0 ∨ 33 < (((zq_rf g 0 (Int32.toNatClampNeg i)) &&& 63) : Int32).toInt → lx g (d + 143) 18 [.ref 1000, .ref 0, .ref 48, .int ((i + 6))] [] M Q) ∧ ((((zq_rf g 0 (Int32.toNatClampNeg i)) &&& 63) : Int32).toInt = 0 → vp_in (i + 1) (zq_L g) ∧ vp_in (i + 2) (zq_L g) ∧ mx g (d + 142) kX11_stone 0 [.ref 0, .int ((zq_rf g 0 (Int32.toNatClampNeg (i + 1)))), .int ((zq_rf g 0 (Int32.toNatClampNeg (i + 2))))] [] M _) ∧ ((((zq_rf g 0 (Int32.toNatClampNeg i)) &&& 63) : Int32).toInt = 1 → vp_in (i + 1) (zq_L g) ∧ mx g (d + 142) kX11_night 0 [.ref 0, .int ((zq_rf g 0 (Int32.toNatClampNeg (i + 1))))] [] M _) ∧ ((((zq_rf g 0 (Int32.toNatClampNeg i)) &&& 63) : Int32).toInt = 2 → vp_in (i + 1) (zq_L g) ∧ vp_in (i + 2) (zq_L g) ∧ mx g (d + 142) kX11_how 0 [.ref 0, .int ((zq_rf g 0 (Int32.toNatClampNeg (i + 1)))), .int ((zq_rf g 0 (Int32.toNatClampNeg (i + 2))))] [] M _) ∧ ((((zq_rf g 0 (Int32.toNatClampNeg i)) &&& 63) : Int32).toInt = 3 → vp_in (i + 1) (zq_L g) ∧ vp_in (i + 2) (zq_L g) ∧ mx g (d + 142) kX11_stoneTold 0 [.ref 0, .int ((zq_rf g 0 (Int32.toNatClampNeg (i + 1)))), .int ((zq_rf g 0 (Int32.toNatClampNeg (i + 2))))] [] M _) ∧ ((((zq_rf g 0 (Int32.toNatClampNeg i)) &&& 63) : Int32).toInt = 4 → vp_in (i + 1) (zq_L g) ∧ vp_in (i + 2) (zq_L g) ∧ vp_in (i + 3) (zq_L g) ∧ vp_in (i + 4) (zq_L g) ∧ mx g (d + 142) kX11_told 0 [.ref 0, .int ((zq_rf g 0 (Int32.toNatClampNeg (i + 1)))), .int ((zq_rf g 0 (Int32.toNatClampNeg (i + 2)))), .int ((zq_rf g 0 (Int32.toNatClampNeg (i + 3)))), .int ((zq_rf g 0 (Int32.toNatClampNeg (i + 4))))] [] M _) ∧ ((((zq_rf g 0 (Int32.toNatClampNeg i)) &&& 63) : Int32).toInt = 5 → vp_in (i + 1) (zq_L g) ∧ vp_in (i + 2) (zq_L g) ∧ vp_in (i + 3) (zq_L g) ∧ mx g (d + 142) kX11_needs 0 [.ref 0, .int ((zq_rf g 0 (Int32.toNatClampNeg (i + 1)))), .int ((zq_rf g 0 (Int32.toNatClampNeg (i + 2)))), .int ((zq_rf g 0 (Int32.toNatClampNeg (i + 3)))), .null] [] M _) ∧ ((((zq_rf g 0 (Int32.toNatClampNeg i)) &&& 63) : Int32).toInt = 6 → vp_in (i + 1) (zq_L g) ∧ vp_in (i + 2) (zq_L g) ∧ vp_in (i + 3) (zq_L g) ∧ mx g (d + 142) kX11_feed 0 [.ref 0, .int ((zq_rf g 0 (Int32.toNatClampNeg (i + 1)))), .long ((((Int32.toInt64 (zq_rf g 0 (Int32.toNatClampNeg (i + 2)))) <<< (Int32.toInt64 32 &&& 63)) ||| ((Int32.toInt64 (zq_rf g 0 (Int32.toNatClampNeg (i + 3)))) &&& 4294967295))), .null] [] M _) ∧ ((((zq_rf g 0 (Int32.toNatClampNeg i)) &&& 63) : Int32).toInt = 7 → mx g (d + 142) kX11_text 0 [.ref 0, .null] [] M _) ∧ ((((zq_rf g 0 (Int32.toNatClampNeg i)) &&& 63) : Int32).toInt = 8 → vp_in (i + 1) (zq_L g) ∧ mx g (d + 142) kX11_force 0 [.ref 0, .int ((zq_rf g 0 (Int32.toNatClampNeg (i + 1)))), .null] [] M _) ∧ ((((zq_rf g 0 (Int32.toNatClampNeg i)) &&& 63) : Int32).toInt = 9 → vp_in (i + 1) (zq_L g) ∧ vp_in (i + 2) (zq_L g) ∧ vp_in (i + 3) (zq_L g) ∧ vp_in (i + 4) (zq_L g) ∧ mx g (d + 142) kX11_run 0 [.ref 0, .int ((zq_rf g 0 (Int32.toNatClampNeg (i + 1)))), .int ((zq_rf g 0 (Int32.toNatClampNeg (i + 2)))), .int ((zq_rf g 0 (Int32.toNatClampNeg (i + 3)))), .int ((zq_rf g 0 (Int32.toNatClampNeg (i + 4))))] [] M _) ∧ ((((zq_rf g 0 (Int32.toNatClampNeg i)) &&& 63) : Int32).toInt = 10 → vp_in (i + 1) (zq_L g) ∧ vp_in (i + 2) (zq_L g) ∧ mx g (d + 142) kX11_lay 0 [.ref 0, .int ((zq_rf g 0 (Int32.toNatClampNeg (i + 1)))), .int ((zq_rf g 0 (Int32.toNatClampNeg (i + 2)))), .null, .null] [] M _) ∧ ((((zq_rf g 0 (Int32.toNatClampNeg i)) &&& 63) : Int32).toInt = 11 → vp_in (i + 1) (zq_L g) ∧ vp_in (i + 2) (zq_L g) ∧ vp_in (i + 3) (zq_L g) ∧ mx g (d + 142) kX11_track 0 [.ref 0, .int ((zq_rf g 0 (Int32.toNatClampNeg (i + 1)))), .int ((zq_rf g 0 (Int32.toNatClampNeg (i + 2)))), .int ((zq_rf g 0 (Int32.toNatClampNeg (i + 3))))] [] M _) ∧ ((((zq_rf g 0 (Int32.toNatClampNeg i)) &&& 63) : Int32).toInt = 12 → vp_in (i + 1) (zq_L g) ∧ vp_in (i + 2) (zq_L g) ∧ vp_in (i + 3) (zq_L g) ∧ mx g (d + 142) kX11_together 0 [.ref 0, .int ((zq_rf g 0 (Int32.toNatClampNeg (i + 1)))), .int ((zq_rf g 0 (Int32.toNatClampNeg (i + 2)))), .int ((zq_rf g 0 (Int32.toNatClampNeg (i + 3))))] [] M _) ∧ ((((zq_rf g 0 (Int32.toNatClampNeg i)) &&& 63) : Int32).toInt = 13 → vp_in (i + 1) (zq_L g) ∧ mx g (d + 142) kX11_groups 0 [.ref 0, .int ((zq_rf g 0 (Int32.toNatClampNeg (i + 1))))] [] M _) ∧ ((((zq_rf g 0 (Int32.toNatClampNeg i)) &&& 63) : Int32).toInt = 14 → vp_in (i + 1) (zq_L g) ∧ vp_in (i + 2) (zq_L g) ∧ mx g (d + 142) kX11_fits 0 [.ref 0, .int ((zq_rf g 0 (Int32.toNatClampNeg (i + 1)))), .int ((zq_rf g 0 (Int32.toNatClampNeg (i + 2))))] [] M _) ∧ ((((zq_rf g 0 (Int32.toNatClampNeg i)) &&& 63) : Int32).toInt = 15 → vp_in (i + 1) (zq_L g) ∧ vp_in (i + 2) (zq_L g) ∧ vp_in (i + 3) (zq_L g) ∧ mx g (d + 142) kX11_odds 0 [.ref 0, .int ((zq_rf g 0 (Int32.toNatClampNeg (i + 1)))), .int ((zq_rf g 0 (Int32.toNatClampNeg (i + 2)))), .int ((zq_rf g 0 (Int32.toNatClampNeg (i + 3)))), .null, .null, .null, .null, .null, .null, .null] [] M _) ∧ ((((zq_rf g 0 (Int32.toNatClampNeg i)) &&& 63) : Int32).toInt = 16 → vp_in (i + 1) (zq_L g) ∧ mx g (d + 142) kX11_peg 0 [.ref 0, .int ((zq_rf g 0 (Int32.toNatClampNeg (i + 1))))] [] M _) ∧ ((((zq_rf g 0 (Int32.toNatClampNeg i)) &&& 63) : Int32).toInt = 17 → vp_in (i + 1) (zq_L g) ∧ vp_in (i + 2) (zq_L g) ∧ mx g (d + 142) kX11_holds 0 [.ref 0, .int ((zq_rf g 0 (Int32.toNatClampNeg (i + 1)))), .int ((zq_rf g 0 (Int32.toNatClampNeg (i + 2))))] [] M _) ∧ ((((zq_rf g 0 (Int32.toNatClampNeg i)) &&& 63) : Int32).toInt = 18 → vp_in (i + 1) (zq_L g) ∧ vp_in (i + 2) (zq_L g) ∧ mx g (d + 142) kX11_bars 0 [.ref 0, .int ((zq_rf g 0 (Int32.toNatClampNeg (i + 1)))), .int ((zq_rf g 0 (Int32.toNatClampNeg (i + 2)))), .null, .null] [] M _) ∧ ((((zq_rf g 0 (Int32.toNatClampNeg i)) &&& 63) : Int32).toInt = 19 → vp_in (i + 1) (zq_L g) ∧ vp_in (i + 2) (zq_L g) ∧ mx g (d + 142) kX11_seldom 0 [.ref 0, .int ((zq_rf g 0 (Int32.toNatClampNeg (i + 1)))), .int ((zq_rf g 0 (Int32.toNatClampNeg (i + 2))))] [] M _) ∧ ((((zq_rf g 0 (Int32.toNatClampNeg i)) &&& 63) : Int32).toInt = 20 → vp_in (i + 1) (zq_L g) ∧ vp_in (i + 2) (zq_L g) ∧ mx g (d + 142) kX11_when 0 [.ref 0, .int ((zq_rf g 0 (Int32.toNatClampNeg (i + 1)))), .int ((zq_rf g 0 (Int32.toNatClampNeg (i + 2)))), .null, .null, .null] [] M _) ∧ ((((zq_rf g 0 (Int32.toNatClampNeg i)) &&& 63) : Int32).toInt = 21 → vp_in (i + 1) (zq_L g) ∧ vp_in (i + 2) (zq_L g) ∧ mx g (d + 142) kX11_cross 0 [.ref 0, .int ((zq_rf g 0 (Int32.toNatClampNeg (i + 1)))), .int ((zq_rf g 0 (Int32.toNatClampNeg (i + 2))))] [] M _) ∧ ((((zq_rf g 0 (Int32.toNatClampNeg i)) &&& 63) : Int32).toInt = 22 → vp_in (i + 1) (zq_L g) ∧ mx g (d + 142) kX11_order 0 [.ref 0, .int ((zq_rf g 0 (Int32.toNatClampNeg (i + 1))))] [] M _) ∧ ((((zq_rf g 0 (Int32.toNatClampNeg i)) &&& 63) : Int32).toInt = 23 → vp_in (i + 1) (zq_L g) ∧ vp_in (i + 2) (zq_L g) ∧ mx g (d + 142) kX11_look 0 [.ref 0, .int ((zq_rf g 0 (Int32.toNatClampNeg (i + 1)))), .int ((zq_rf g 0 (Int32.toNatClampNeg (i + 2)))), .null] [] M _) ∧ ((((zq_rf g 0 (Int32.toNatClampNeg i)) &&& 63) : Int32).toInt = 24 → vp_in (i + 1) (zq_L g) ∧ vp_in (i + 2) (zq_L g) ∧ mx g (d + 142) kX11_foretold 0 [.ref 0, .int ((zq_rf g 0 (Int32.toNatClampNeg (i + 1)))), .int ((zq_rf g 0 (Int32.toNatClampNeg (i + 2)))), .null, .null] [] M _) ∧ ((((zq_rf g 0 (Int32.toNatClampNeg i)) &&& 63) : Int32).toInt = 25 → vp_in (i + 1) (zq_L g) ∧ vp_in (i + 2) (zq_L g) ∧ vp_in (i + 3) (zq_L g) ∧ mx g (d + 142) kX11_held 0 [.ref 0, .int ((zq_rf g 0 (Int32.toNatClampNeg (i + 1)))), .int ((zq_rf g 0 (Int32.toNatClampNeg (i + 2)))), .int ((zq_rf g 0 (Int32.toNatClampNeg (i + 3)))), .null] [] M _) ∧ ((((zq_rf g 0 (Int32.toNatClampNeg i)) &&& 63) : Int32).toInt = 26 → mx g (d + 142) kX11_image 0 [.ref 0] [] M _) ∧ ((((zq_rf g 0 (Int32.toNatClampNeg i)) &&& 63) : Int32).toInt = 27 → mx g (d + 142) kX11_back 0 [.ref 0] [] M _) ∧ ((((zq_rf g 0 (Int32.toNatClampNeg i)) &&& 63) : Int32).toInt = 28 → vp_in (i + 1) (zq_L g) ∧ mx g (d + 142) kX11_count 0 [.ref 0, .int ((zq_rf g 0 (Int32.toNatClampNeg (i + 1))))] [] M _) ∧ ((((zq_rf g 0 (Int32.toNatClampNeg i)) &&& 63) : Int32).toInt = 29 → vp_in (i + 1) (zq_L g) ∧ vp_in (i + 2) (zq_L g) ∧ vp_in (i + 3) (zq_L g) ∧ mx g (d + 142) kX11_sheet 0 [.ref 0, .int ((zq_rf g 0 (Int32.toNatClampNeg (i + 1)))), .int ((zq_rf g 0 (Int32.toNatClampNeg (i + 2)))), .int ((zq_rf g 0 (Int32.toNatClampNeg (i + 3))))] [] M _) ∧ ((((zq_rf g 0 (Int32.toNatClampNeg i)) &&& 63) : Int32).toInt = 30 → vp_in (i + 1) (zq_L g) ∧ vp_in (i + 2) (zq_L g) ∧ vp_in (i + 3) (zq_L g) ∧ mx g (d + 142) kX11_cell 0 [.ref 0, .int ((zq_rf g 0 (Int32.toNatClampNeg (i + 1)))), .int ((zq_rf g 0 (Int32.toNatClampNeg (i + 2)))), .int ((zq_rf g 0 (Int32.toNatClampNeg (i + 3))))] [] M _) ∧ ((((zq_rf g 0 (Int32.toNatClampNeg i)) &&& 63) : Int32).toInt = 31 → vp_in (i + 1) (zq_L g) ∧ vp_in (i + 2) (zq_L g) ∧ vp_in (i + 3) (zq_L g) ∧ vp_in (i + 4) (zq_L g) ∧ vp_in (i + 5) (zq_L g) ∧ mx g (d + 142) kX11_copy 0 [.ref 0, .int ((zq_rf g 0 (Int32.toNatClampNeg (i + 1)))), .int ((zq_rf g 0 (Int32.toNatClampNeg (i + 2)))), .int ((zq_rf g 0 (Int32.toNatClampNeg (i + 3)))), .int ((zq_rf g 0 (Int32.toNatClampNeg (i + 4)))), .int ((zq_rf g 0 (Int32.toNatClampNeg (i + 5))))] [] M _) ∧ ((((zq_rf g 0 (Int32.toNatClampNeg i)) &&& 63) : Int32).toInt = 32 → vp_in (i + 1) (zq_L g) ∧ vp_in (i + 2) (zq_L g) ∧ vp_in (i + 3) (zq_L g) ∧ vp_in (i + 4) (zq_L g) ∧ mx g (d + 142) kX11_nights 0 [.ref 0, .int ((zq_rf g 0 (Int32.toNatClampNeg (i + 1)))), .int ((zq_rf g 0 (Int32.toNatClampNeg (i + 2)))), .int ((zq_rf g 0 (Int32.toNatClampNeg (i + 3)))), .int ((zq_rf g 0 (Int32.toNatClampNeg (i + 4)))), .null, .null] [] M _) ∧ ((((zq_rf g 0 (Int32.toNatClampNeg i)) &&& 63) : Int32).toInt = 33 → vp_in (i + 1) (zq_L g) ∧ vp_in (i + 2) (zq_L g) ∧ mx g (d + 142) kX11_taken 0 [.ref 0, .int ((zq_rf g 0 (Int32.toNatClampNeg (i + 1)))), .int ((zq_rf g 0 (Int32.toNatClampNeg (i + 2))))] [] M _))
  refine ⟨fun y => absurd y hi, fun _ => ⟨w0, fun _ => H M hR, ?_, ?_, ?_, ?_, ?_, ?_, ?_, ?_, ?_, ?_, ?_, ?_, ?_, ?_, ?_, ?_, ?_, ?_, ?_, ?_, ?_, ?_, ?_, ?_, ?_, ?_, ?_, ?_, ?_, ?_, ?_, ?_, ?_, ?_⟩⟩
  · refine fun _ => ?_
    refine ⟨w1, w2, ?_⟩
    refine mx_mono (op_stone (d := d + 136) hR) (fun r M1 h => ?_)
    obtain ⟨v, e, h⟩ := h
    subst e
    show vp_in (i + 1) (zq_L g) ∧ vp_in (i + 2) (zq_L g) ∧ mx g (d + 142) kX12_stone 0 [.ref 48, .int ((zq_rf g 0 (Int32.toNatClampNeg (i + 1)))), .int ((zq_rf g 0 (Int32.toNatClampNeg (i + 2)))), .null] [] M1 _
    refine ⟨w1, w2, ?_⟩
    refine mx_mono h (fun r2 M2 h2 => ?_)
    obtain ⟨e2, hR2⟩ := h2
    subst e2
    show ((v : Int32) = (v : Int32) → lx g (d + 143) 18 [.ref 1000, .ref 0, .ref 48, .int ((i + 6))] [] M2 Q) ∧ (¬ (v : Int32) = (v : Int32) → zq_b 0 ∧ Q (some (.int 0)) M2)
    exact ⟨fun _ => H M2 hR2, fun y => absurd rfl y⟩
  · refine fun _ => ?_
    refine ⟨w1, ?_⟩
    refine mx_mono (op_night (d := d + 136) hR) (fun r M1 h => ?_)
    obtain ⟨v, e, h⟩ := h
    subst e
    show vp_in (i + 1) (zq_L g) ∧ mx g (d + 142) kX12_night 0 [.ref 48, .int ((zq_rf g 0 (Int32.toNatClampNeg (i + 1))))] [] M1 _
    refine ⟨w1, ?_⟩
    refine mx_mono h (fun r2 M2 h2 => ?_)
    obtain ⟨e2, hR2⟩ := h2
    subst e2
    show ((v : Int32) = (v : Int32) → lx g (d + 143) 18 [.ref 1000, .ref 0, .ref 48, .int ((i + 6))] [] M2 Q) ∧ (¬ (v : Int32) = (v : Int32) → zq_b 0 ∧ Q (some (.int 0)) M2)
    exact ⟨fun _ => H M2 hR2, fun y => absurd rfl y⟩
  · refine fun _ => ?_
    refine ⟨w1, w2, ?_⟩
    refine mx_mono (op_how (d := d + 136) hR) (fun r M1 h => ?_)
    obtain ⟨v, e, h⟩ := h
    subst e
    show vp_in (i + 1) (zq_L g) ∧ vp_in (i + 2) (zq_L g) ∧ mx g (d + 142) kX12_how 0 [.ref 48, .int ((zq_rf g 0 (Int32.toNatClampNeg (i + 1)))), .int ((zq_rf g 0 (Int32.toNatClampNeg (i + 2))))] [] M1 _
    refine ⟨w1, w2, ?_⟩
    refine mx_mono h (fun r2 M2 h2 => ?_)
    obtain ⟨e2, hR2⟩ := h2
    subst e2
    show ((v : Int32) = (v : Int32) → lx g (d + 143) 18 [.ref 1000, .ref 0, .ref 48, .int ((i + 6))] [] M2 Q) ∧ (¬ (v : Int32) = (v : Int32) → zq_b 0 ∧ Q (some (.int 0)) M2)
    exact ⟨fun _ => H M2 hR2, fun y => absurd rfl y⟩
  · refine fun _ => ?_
    refine ⟨w1, w2, ?_⟩
    refine mx_mono (op_stoneTold (d := d + 136) hR) (fun r M1 h => ?_)
    obtain ⟨v, e, h⟩ := h
    subst e
    show vp_in (i + 1) (zq_L g) ∧ vp_in (i + 2) (zq_L g) ∧ mx g (d + 142) kX12_stoneTold 0 [.ref 48, .int ((zq_rf g 0 (Int32.toNatClampNeg (i + 1)))), .int ((zq_rf g 0 (Int32.toNatClampNeg (i + 2))))] [] M1 _
    refine ⟨w1, w2, ?_⟩
    refine mx_mono h (fun r2 M2 h2 => ?_)
    obtain ⟨e2, hR2⟩ := h2
    subst e2
    show ((v : Int32) = (v : Int32) → lx g (d + 143) 18 [.ref 1000, .ref 0, .ref 48, .int ((i + 6))] [] M2 Q) ∧ (¬ (v : Int32) = (v : Int32) → zq_b 0 ∧ Q (some (.int 0)) M2)
    exact ⟨fun _ => H M2 hR2, fun y => absurd rfl y⟩
  · refine fun _ => ?_
    refine ⟨w1, w2, w3, w4, ?_⟩
    refine mx_mono (op_told (d := d + 136) hR) (fun r M1 h => ?_)
    obtain ⟨v, e, h⟩ := h
    subst e
    show vp_in (i + 1) (zq_L g) ∧ vp_in (i + 2) (zq_L g) ∧ vp_in (i + 3) (zq_L g) ∧ vp_in (i + 4) (zq_L g) ∧ mx g (d + 142) kX12_told 0 [.ref 48, .int ((zq_rf g 0 (Int32.toNatClampNeg (i + 1)))), .int ((zq_rf g 0 (Int32.toNatClampNeg (i + 2)))), .int ((zq_rf g 0 (Int32.toNatClampNeg (i + 3)))), .int ((zq_rf g 0 (Int32.toNatClampNeg (i + 4))))] [] M1 _
    refine ⟨w1, w2, w3, w4, ?_⟩
    refine mx_mono h (fun r2 M2 h2 => ?_)
    obtain ⟨e2, hR2⟩ := h2
    subst e2
    show ((v : Int32) = (v : Int32) → lx g (d + 143) 18 [.ref 1000, .ref 0, .ref 48, .int ((i + 6))] [] M2 Q) ∧ (¬ (v : Int32) = (v : Int32) → zq_b 0 ∧ Q (some (.int 0)) M2)
    exact ⟨fun _ => H M2 hR2, fun y => absurd rfl y⟩
  · refine fun _ => ?_
    refine ⟨w1, w2, w3, ?_⟩
    refine mx_mono (op_needs (d := d + 136) hR) (fun r M1 h => ?_)
    obtain ⟨v, e, h⟩ := h
    subst e
    show vp_in (i + 1) (zq_L g) ∧ vp_in (i + 2) (zq_L g) ∧ vp_in (i + 3) (zq_L g) ∧ mx g (d + 142) kX12_needs 0 [.ref 48, .int ((zq_rf g 0 (Int32.toNatClampNeg (i + 1)))), .int ((zq_rf g 0 (Int32.toNatClampNeg (i + 2)))), .int ((zq_rf g 0 (Int32.toNatClampNeg (i + 3)))), .null, .null] [] M1 _
    refine ⟨w1, w2, w3, ?_⟩
    refine mx_mono h (fun r2 M2 h2 => ?_)
    obtain ⟨e2, hR2⟩ := h2
    subst e2
    show ((v : Int32) = (v : Int32) → lx g (d + 143) 18 [.ref 1000, .ref 0, .ref 48, .int ((i + 6))] [] M2 Q) ∧ (¬ (v : Int32) = (v : Int32) → zq_b 0 ∧ Q (some (.int 0)) M2)
    exact ⟨fun _ => H M2 hR2, fun y => absurd rfl y⟩
  · refine fun _ => ?_
    refine ⟨w1, w2, w3, ?_⟩
    refine mx_mono (op_feed (d := d + 136) hR) (fun r M1 h => ?_)
    obtain ⟨v, e, h⟩ := h
    subst e
    show vp_in (i + 1) (zq_L g) ∧ vp_in (i + 2) (zq_L g) ∧ vp_in (i + 3) (zq_L g) ∧ mx g (d + 142) kX12_feed 0 [.ref 48, .int ((zq_rf g 0 (Int32.toNatClampNeg (i + 1)))), .long ((((Int32.toInt64 (zq_rf g 0 (Int32.toNatClampNeg (i + 2)))) <<< (Int32.toInt64 32 &&& 63)) ||| ((Int32.toInt64 (zq_rf g 0 (Int32.toNatClampNeg (i + 3)))) &&& 4294967295))), .null, .null] [] M1 _
    refine ⟨w1, w2, w3, ?_⟩
    refine mx_mono h (fun r2 M2 h2 => ?_)
    obtain ⟨e2, hR2⟩ := h2
    subst e2
    show ((v : Int32) = (v : Int32) → lx g (d + 143) 18 [.ref 1000, .ref 0, .ref 48, .int ((i + 6))] [] M2 Q) ∧ (¬ (v : Int32) = (v : Int32) → zq_b 0 ∧ Q (some (.int 0)) M2)
    exact ⟨fun _ => H M2 hR2, fun y => absurd rfl y⟩
  · refine fun _ => ?_
    refine ?_
    refine mx_mono (op_text hR) (fun r M1 h => ?_)
    obtain ⟨v, e, h⟩ := h
    subst e
    show mx g (d + 142) kX12_text 0 [.ref 48, .null] [] M1 _
    refine ?_
    refine mx_mono h (fun r2 M2 h2 => ?_)
    obtain ⟨e2, hR2⟩ := h2
    subst e2
    show ((v : Int32) = (v : Int32) → lx g (d + 143) 18 [.ref 1000, .ref 0, .ref 48, .int ((i + 6))] [] M2 Q) ∧ (¬ (v : Int32) = (v : Int32) → zq_b 0 ∧ Q (some (.int 0)) M2)
    exact ⟨fun _ => H M2 hR2, fun y => absurd rfl y⟩
  · refine fun _ => ?_
    refine ⟨w1, ?_⟩
    refine mx_mono (op_force (d := d + 136) hR) (fun r M1 h => ?_)
    obtain ⟨v, e, h⟩ := h
    subst e
    show vp_in (i + 1) (zq_L g) ∧ mx g (d + 142) kX12_force 0 [.ref 48, .int ((zq_rf g 0 (Int32.toNatClampNeg (i + 1)))), .null] [] M1 _
    refine ⟨w1, ?_⟩
    refine mx_mono h (fun r2 M2 h2 => ?_)
    obtain ⟨e2, hR2⟩ := h2
    subst e2
    show ((v : Int32) = (v : Int32) → lx g (d + 143) 18 [.ref 1000, .ref 0, .ref 48, .int ((i + 6))] [] M2 Q) ∧ (¬ (v : Int32) = (v : Int32) → zq_b 0 ∧ Q (some (.int 0)) M2)
    exact ⟨fun _ => H M2 hR2, fun y => absurd rfl y⟩
  · refine fun _ => ?_
    refine ⟨w1, w2, w3, w4, ?_⟩
    refine mx_mono (op_run (d := d + 136) hR) (fun r M1 h => ?_)
    obtain ⟨v, e, h⟩ := h
    subst e
    show vp_in (i + 1) (zq_L g) ∧ vp_in (i + 2) (zq_L g) ∧ vp_in (i + 3) (zq_L g) ∧ vp_in (i + 4) (zq_L g) ∧ mx g (d + 142) kX12_run 0 [.ref 48, .int ((zq_rf g 0 (Int32.toNatClampNeg (i + 1)))), .int ((zq_rf g 0 (Int32.toNatClampNeg (i + 2)))), .int ((zq_rf g 0 (Int32.toNatClampNeg (i + 3)))), .int ((zq_rf g 0 (Int32.toNatClampNeg (i + 4))))] [] M1 _
    refine ⟨w1, w2, w3, w4, ?_⟩
    refine mx_mono h (fun r2 M2 h2 => ?_)
    obtain ⟨e2, hR2⟩ := h2
    subst e2
    show ((v : Int32) = (v : Int32) → lx g (d + 143) 18 [.ref 1000, .ref 0, .ref 48, .int ((i + 6))] [] M2 Q) ∧ (¬ (v : Int32) = (v : Int32) → zq_b 0 ∧ Q (some (.int 0)) M2)
    exact ⟨fun _ => H M2 hR2, fun y => absurd rfl y⟩
  · refine fun _ => ?_
    refine ⟨w1, w2, ?_⟩
    refine mx_mono (op_lay (d := d + 136) hR) (fun r M1 h => ?_)
    obtain ⟨v, e, h⟩ := h
    subst e
    show vp_in (i + 1) (zq_L g) ∧ vp_in (i + 2) (zq_L g) ∧ mx g (d + 142) kX12_lay 0 [.ref 48, .int ((zq_rf g 0 (Int32.toNatClampNeg (i + 1)))), .int ((zq_rf g 0 (Int32.toNatClampNeg (i + 2)))), .null, .null] [] M1 _
    refine ⟨w1, w2, ?_⟩
    refine mx_mono h (fun r2 M2 h2 => ?_)
    obtain ⟨e2, hR2⟩ := h2
    subst e2
    show ((v : Int32) = (v : Int32) → lx g (d + 143) 18 [.ref 1000, .ref 0, .ref 48, .int ((i + 6))] [] M2 Q) ∧ (¬ (v : Int32) = (v : Int32) → zq_b 0 ∧ Q (some (.int 0)) M2)
    exact ⟨fun _ => H M2 hR2, fun y => absurd rfl y⟩
  · refine fun _ => ?_
    refine ⟨w1, w2, w3, ?_⟩
    refine mx_mono (op_track (d := d + 136) hR) (fun r M1 h => ?_)
    obtain ⟨v, e, h⟩ := h
    subst e
    show vp_in (i + 1) (zq_L g) ∧ vp_in (i + 2) (zq_L g) ∧ vp_in (i + 3) (zq_L g) ∧ mx g (d + 142) kX12_track 0 [.ref 48, .int ((zq_rf g 0 (Int32.toNatClampNeg (i + 1)))), .int ((zq_rf g 0 (Int32.toNatClampNeg (i + 2)))), .int ((zq_rf g 0 (Int32.toNatClampNeg (i + 3))))] [] M1 _
    refine ⟨w1, w2, w3, ?_⟩
    refine mx_mono h (fun r2 M2 h2 => ?_)
    obtain ⟨e2, hR2⟩ := h2
    subst e2
    show ((v : Int32) = (v : Int32) → lx g (d + 143) 18 [.ref 1000, .ref 0, .ref 48, .int ((i + 6))] [] M2 Q) ∧ (¬ (v : Int32) = (v : Int32) → zq_b 0 ∧ Q (some (.int 0)) M2)
    exact ⟨fun _ => H M2 hR2, fun y => absurd rfl y⟩
  · refine fun _ => ?_
    refine ⟨w1, w2, w3, ?_⟩
    refine mx_mono (op_together (d := d + 136) hR) (fun r M1 h => ?_)
    obtain ⟨v, e, h⟩ := h
    subst e
    show vp_in (i + 1) (zq_L g) ∧ vp_in (i + 2) (zq_L g) ∧ vp_in (i + 3) (zq_L g) ∧ mx g (d + 142) kX12_together 0 [.ref 48, .int ((zq_rf g 0 (Int32.toNatClampNeg (i + 1)))), .int ((zq_rf g 0 (Int32.toNatClampNeg (i + 2)))), .int ((zq_rf g 0 (Int32.toNatClampNeg (i + 3))))] [] M1 _
    refine ⟨w1, w2, w3, ?_⟩
    refine mx_mono h (fun r2 M2 h2 => ?_)
    obtain ⟨e2, hR2⟩ := h2
    subst e2
    show ((v : Int32) = (v : Int32) → lx g (d + 143) 18 [.ref 1000, .ref 0, .ref 48, .int ((i + 6))] [] M2 Q) ∧ (¬ (v : Int32) = (v : Int32) → zq_b 0 ∧ Q (some (.int 0)) M2)
    exact ⟨fun _ => H M2 hR2, fun y => absurd rfl y⟩
  · refine fun _ => ?_
    refine ⟨w1, ?_⟩
    refine mx_mono (op_groups (d := d + 136) hR) (fun r M1 h => ?_)
    obtain ⟨v, e, h⟩ := h
    subst e
    show vp_in (i + 1) (zq_L g) ∧ mx g (d + 142) kX12_groups 0 [.ref 48, .int ((zq_rf g 0 (Int32.toNatClampNeg (i + 1)))), .null, .null, .null, .null, .null] [] M1 _
    refine ⟨w1, ?_⟩
    refine mx_mono h (fun r2 M2 h2 => ?_)
    obtain ⟨e2, hR2⟩ := h2
    subst e2
    show ((v : Int32) = (v : Int32) → lx g (d + 143) 18 [.ref 1000, .ref 0, .ref 48, .int ((i + 6))] [] M2 Q) ∧ (¬ (v : Int32) = (v : Int32) → zq_b 0 ∧ Q (some (.int 0)) M2)
    exact ⟨fun _ => H M2 hR2, fun y => absurd rfl y⟩
  · refine fun _ => ?_
    refine ⟨w1, w2, ?_⟩
    refine mx_mono (op_fits (d := d + 136) hR) (fun r M1 h => ?_)
    obtain ⟨v, e, h⟩ := h
    subst e
    show vp_in (i + 1) (zq_L g) ∧ vp_in (i + 2) (zq_L g) ∧ mx g (d + 142) kX12_fits 0 [.ref 48, .int ((zq_rf g 0 (Int32.toNatClampNeg (i + 1)))), .int ((zq_rf g 0 (Int32.toNatClampNeg (i + 2))))] [] M1 _
    refine ⟨w1, w2, ?_⟩
    refine mx_mono h (fun r2 M2 h2 => ?_)
    obtain ⟨e2, hR2⟩ := h2
    subst e2
    show ((v : Int32) = (v : Int32) → lx g (d + 143) 18 [.ref 1000, .ref 0, .ref 48, .int ((i + 6))] [] M2 Q) ∧ (¬ (v : Int32) = (v : Int32) → zq_b 0 ∧ Q (some (.int 0)) M2)
    exact ⟨fun _ => H M2 hR2, fun y => absurd rfl y⟩
  · refine fun _ => ?_
    refine ⟨w1, w2, w3, ?_⟩
    refine mx_mono (op_odds (d := d + 135) hR) (fun r M1 h => ?_)
    obtain ⟨v, e, h⟩ := h
    subst e
    show vp_in (i + 1) (zq_L g) ∧ vp_in (i + 2) (zq_L g) ∧ vp_in (i + 3) (zq_L g) ∧ mx g (d + 142) kX12_odds 0 [.ref 48, .int ((zq_rf g 0 (Int32.toNatClampNeg (i + 1)))), .int ((zq_rf g 0 (Int32.toNatClampNeg (i + 2)))), .int ((zq_rf g 0 (Int32.toNatClampNeg (i + 3)))), .null, .null, .null, .null, .null, .null, .null] [] M1 _
    refine ⟨w1, w2, w3, ?_⟩
    refine mx_mono h (fun r2 M2 h2 => ?_)
    obtain ⟨e2, hR2⟩ := h2
    subst e2
    show (((lg_cmp v v) : Int32) = 0 → lx g (d + 143) 18 [.ref 1000, .ref 0, .ref 48, .int ((i + 6))] [] M2 Q) ∧ (¬ ((lg_cmp v v) : Int32) = 0 → zq_b 0 ∧ Q (some (.int 0)) M2)
    exact ⟨fun _ => H M2 hR2, fun y => absurd ((lg_cmp_eq v v).mpr rfl) y⟩
  · refine fun _ => ?_
    refine ⟨w1, ?_⟩
    refine mx_mono (op_peg (d := d + 136) hR) (fun r M1 h => ?_)
    obtain ⟨v, e, h⟩ := h
    subst e
    show vp_in (i + 1) (zq_L g) ∧ mx g (d + 142) kX12_peg 0 [.ref 48, .int ((zq_rf g 0 (Int32.toNatClampNeg (i + 1))))] [] M1 _
    refine ⟨w1, ?_⟩
    refine mx_mono h (fun r2 M2 h2 => ?_)
    obtain ⟨e2, hR2⟩ := h2
    subst e2
    show ((v : Int32) = (v : Int32) → lx g (d + 143) 18 [.ref 1000, .ref 0, .ref 48, .int ((i + 6))] [] M2 Q) ∧ (¬ (v : Int32) = (v : Int32) → zq_b 0 ∧ Q (some (.int 0)) M2)
    exact ⟨fun _ => H M2 hR2, fun y => absurd rfl y⟩
  · refine fun _ => ?_
    refine ⟨w1, w2, ?_⟩
    refine mx_mono (op_holds (d := d + 136) hR) (fun r M1 h => ?_)
    obtain ⟨v, e, h⟩ := h
    subst e
    show vp_in (i + 1) (zq_L g) ∧ vp_in (i + 2) (zq_L g) ∧ mx g (d + 142) kX12_holds 0 [.ref 48, .int ((zq_rf g 0 (Int32.toNatClampNeg (i + 1)))), .int ((zq_rf g 0 (Int32.toNatClampNeg (i + 2))))] [] M1 _
    refine ⟨w1, w2, ?_⟩
    refine mx_mono h (fun r2 M2 h2 => ?_)
    obtain ⟨e2, hR2⟩ := h2
    subst e2
    show ((v : Int32) = (v : Int32) → lx g (d + 143) 18 [.ref 1000, .ref 0, .ref 48, .int ((i + 6))] [] M2 Q) ∧ (¬ (v : Int32) = (v : Int32) → zq_b 0 ∧ Q (some (.int 0)) M2)
    exact ⟨fun _ => H M2 hR2, fun y => absurd rfl y⟩
  · refine fun _ => ?_
    refine ⟨w1, w2, ?_⟩
    refine mx_mono (op_bars (d := d + 136) hR) (fun r M1 h => ?_)
    obtain ⟨v, e, h⟩ := h
    subst e
    show vp_in (i + 1) (zq_L g) ∧ vp_in (i + 2) (zq_L g) ∧ mx g (d + 142) kX12_bars 0 [.ref 48, .int ((zq_rf g 0 (Int32.toNatClampNeg (i + 1)))), .int ((zq_rf g 0 (Int32.toNatClampNeg (i + 2)))), .null, .null] [] M1 _
    refine ⟨w1, w2, ?_⟩
    refine mx_mono h (fun r2 M2 h2 => ?_)
    obtain ⟨e2, hR2⟩ := h2
    subst e2
    show ((v : Int32) = (v : Int32) → lx g (d + 143) 18 [.ref 1000, .ref 0, .ref 48, .int ((i + 6))] [] M2 Q) ∧ (¬ (v : Int32) = (v : Int32) → zq_b 0 ∧ Q (some (.int 0)) M2)
    exact ⟨fun _ => H M2 hR2, fun y => absurd rfl y⟩
  · refine fun _ => ?_
    refine ⟨w1, w2, ?_⟩
    refine mx_mono (op_seldom (d := d + 136) hR) (fun r M1 h => ?_)
    obtain ⟨v, e, h⟩ := h
    subst e
    show vp_in (i + 1) (zq_L g) ∧ vp_in (i + 2) (zq_L g) ∧ mx g (d + 142) kX12_seldom 0 [.ref 48, .int ((zq_rf g 0 (Int32.toNatClampNeg (i + 1)))), .int ((zq_rf g 0 (Int32.toNatClampNeg (i + 2)))), .null, .null, .null, .null, .null, .null, .null, .null, .null, .null, .null] [] M1 _
    refine ⟨w1, w2, ?_⟩
    refine mx_mono h (fun r2 M2 h2 => ?_)
    obtain ⟨e2, hR2⟩ := h2
    subst e2
    show (((lg_cmp v v) : Int32) = 0 → lx g (d + 143) 18 [.ref 1000, .ref 0, .ref 48, .int ((i + 6))] [] M2 Q) ∧ (¬ ((lg_cmp v v) : Int32) = 0 → zq_b 0 ∧ Q (some (.int 0)) M2)
    exact ⟨fun _ => H M2 hR2, fun y => absurd ((lg_cmp_eq v v).mpr rfl) y⟩
  · refine fun _ => ?_
    refine ⟨w1, w2, ?_⟩
    refine mx_mono (op_when (d := d + 136) hR) (fun r M1 h => ?_)
    obtain ⟨v, e, h⟩ := h
    subst e
    show vp_in (i + 1) (zq_L g) ∧ vp_in (i + 2) (zq_L g) ∧ mx g (d + 142) kX12_when 0 [.ref 48, .int ((zq_rf g 0 (Int32.toNatClampNeg (i + 1)))), .int ((zq_rf g 0 (Int32.toNatClampNeg (i + 2)))), .null, .null, .null] [] M1 _
    refine ⟨w1, w2, ?_⟩
    refine mx_mono h (fun r2 M2 h2 => ?_)
    obtain ⟨e2, hR2⟩ := h2
    subst e2
    show (((lg_cmp v v) : Int32) = 0 → lx g (d + 143) 18 [.ref 1000, .ref 0, .ref 48, .int ((i + 6))] [] M2 Q) ∧ (¬ ((lg_cmp v v) : Int32) = 0 → zq_b 0 ∧ Q (some (.int 0)) M2)
    exact ⟨fun _ => H M2 hR2, fun y => absurd ((lg_cmp_eq v v).mpr rfl) y⟩
  · refine fun _ => ?_
    refine ⟨w1, w2, ?_⟩
    refine mx_mono (op_cross (d := d + 136) hR) (fun r M1 h => ?_)
    obtain ⟨v, e, h⟩ := h
    subst e
    show vp_in (i + 1) (zq_L g) ∧ vp_in (i + 2) (zq_L g) ∧ mx g (d + 142) kX12_cross 0 [.ref 48, .int ((zq_rf g 0 (Int32.toNatClampNeg (i + 1)))), .int ((zq_rf g 0 (Int32.toNatClampNeg (i + 2))))] [] M1 _
    refine ⟨w1, w2, ?_⟩
    refine mx_mono h (fun r2 M2 h2 => ?_)
    obtain ⟨e2, hR2⟩ := h2
    subst e2
    show ((v : Int32) = (v : Int32) → lx g (d + 143) 18 [.ref 1000, .ref 0, .ref 48, .int ((i + 6))] [] M2 Q) ∧ (¬ (v : Int32) = (v : Int32) → zq_b 0 ∧ Q (some (.int 0)) M2)
    exact ⟨fun _ => H M2 hR2, fun y => absurd rfl y⟩
  · refine fun _ => ?_
    refine ⟨w1, ?_⟩
    refine mx_mono (op_order (d := d + 136) hR) (fun r M1 h => ?_)
    obtain ⟨v, e, h⟩ := h
    subst e
    show vp_in (i + 1) (zq_L g) ∧ mx g (d + 142) kX12_order 0 [.ref 48, .int ((zq_rf g 0 (Int32.toNatClampNeg (i + 1)))), .null, .null, .null] [] M1 _
    refine ⟨w1, ?_⟩
    refine mx_mono h (fun r2 M2 h2 => ?_)
    obtain ⟨e2, hR2⟩ := h2
    subst e2
    show ((v : Int32) = (v : Int32) → lx g (d + 143) 18 [.ref 1000, .ref 0, .ref 48, .int ((i + 6))] [] M2 Q) ∧ (¬ (v : Int32) = (v : Int32) → zq_b 0 ∧ Q (some (.int 0)) M2)
    exact ⟨fun _ => H M2 hR2, fun y => absurd rfl y⟩
  · refine fun _ => ?_
    refine ⟨w1, w2, ?_⟩
    refine mx_mono (op_look (d := d + 136) hR) (fun r M1 h => ?_)
    obtain ⟨v, e, h⟩ := h
    subst e
    show vp_in (i + 1) (zq_L g) ∧ vp_in (i + 2) (zq_L g) ∧ mx g (d + 142) kX12_look_ 0 [.ref 48, .int ((zq_rf g 0 (Int32.toNatClampNeg (i + 1)))), .int ((zq_rf g 0 (Int32.toNatClampNeg (i + 2)))), .null, .null, .null, .null, .null, .null, .null, .null] [] M1 _
    refine ⟨w1, w2, ?_⟩
    refine mx_mono h (fun r2 M2 h2 => ?_)
    obtain ⟨e2, hR2⟩ := h2
    subst e2
    show ((v : Int32) = (v : Int32) → lx g (d + 143) 18 [.ref 1000, .ref 0, .ref 48, .int ((i + 6))] [] M2 Q) ∧ (¬ (v : Int32) = (v : Int32) → zq_b 0 ∧ Q (some (.int 0)) M2)
    exact ⟨fun _ => H M2 hR2, fun y => absurd rfl y⟩
  · refine fun _ => ?_
    refine ⟨w1, w2, ?_⟩
    refine mx_mono (op_foretold (d := d + 136) hR) (fun r M1 h => ?_)
    obtain ⟨v, e, h⟩ := h
    subst e
    show vp_in (i + 1) (zq_L g) ∧ vp_in (i + 2) (zq_L g) ∧ mx g (d + 142) kX12_foretold 0 [.ref 48, .int ((zq_rf g 0 (Int32.toNatClampNeg (i + 1)))), .int ((zq_rf g 0 (Int32.toNatClampNeg (i + 2))))] [] M1 _
    refine ⟨w1, w2, ?_⟩
    refine mx_mono h (fun r2 M2 h2 => ?_)
    obtain ⟨e2, hR2⟩ := h2
    subst e2
    show ((v : Int32) = (v : Int32) → lx g (d + 143) 18 [.ref 1000, .ref 0, .ref 48, .int ((i + 6))] [] M2 Q) ∧ (¬ (v : Int32) = (v : Int32) → zq_b 0 ∧ Q (some (.int 0)) M2)
    exact ⟨fun _ => H M2 hR2, fun y => absurd rfl y⟩
  · refine fun _ => ?_
    refine ⟨w1, w2, w3, ?_⟩
    refine mx_mono (op_held (d := d + 136) hR) (fun r M1 h => ?_)
    obtain ⟨v, e, h⟩ := h
    subst e
    show vp_in (i + 1) (zq_L g) ∧ vp_in (i + 2) (zq_L g) ∧ vp_in (i + 3) (zq_L g) ∧ mx g (d + 142) kX12_held 0 [.ref 48, .int ((zq_rf g 0 (Int32.toNatClampNeg (i + 1)))), .int ((zq_rf g 0 (Int32.toNatClampNeg (i + 2)))), .int ((zq_rf g 0 (Int32.toNatClampNeg (i + 3)))), .null, .null] [] M1 _
    refine ⟨w1, w2, w3, ?_⟩
    refine mx_mono h (fun r2 M2 h2 => ?_)
    obtain ⟨e2, hR2⟩ := h2
    subst e2
    show ((v : Int32) = (v : Int32) → lx g (d + 143) 18 [.ref 1000, .ref 0, .ref 48, .int ((i + 6))] [] M2 Q) ∧ (¬ (v : Int32) = (v : Int32) → zq_b 0 ∧ Q (some (.int 0)) M2)
    exact ⟨fun _ => H M2 hR2, fun y => absurd rfl y⟩
  · refine fun _ => ?_
    refine ?_
    refine mx_mono (op_image (d := d + 136) hR) (fun r M1 h => ?_)
    obtain ⟨v, e, h⟩ := h
    subst e
    show mx g (d + 142) kX12_image 0 [.ref 48, .null] [] M1 _
    refine ?_
    refine mx_mono h (fun r2 M2 h2 => ?_)
    obtain ⟨e2, hR2⟩ := h2
    subst e2
    show ((v : Int32) = (v : Int32) → lx g (d + 143) 18 [.ref 1000, .ref 0, .ref 48, .int ((i + 6))] [] M2 Q) ∧ (¬ (v : Int32) = (v : Int32) → zq_b 0 ∧ Q (some (.int 0)) M2)
    exact ⟨fun _ => H M2 hR2, fun y => absurd rfl y⟩
  · refine fun _ => ?_
    refine ?_
    refine mx_mono (op_back (d := d + 136) hR) (fun r M1 h => ?_)
    obtain ⟨v, e, h⟩ := h
    subst e
    show mx g (d + 142) kX12_back 0 [.ref 48, .null] [] M1 _
    refine ?_
    refine mx_mono h (fun r2 M2 h2 => ?_)
    obtain ⟨e2, hR2⟩ := h2
    subst e2
    show ((v : Int32) = (v : Int32) → lx g (d + 143) 18 [.ref 1000, .ref 0, .ref 48, .int ((i + 6))] [] M2 Q) ∧ (¬ (v : Int32) = (v : Int32) → zq_b 0 ∧ Q (some (.int 0)) M2)
    exact ⟨fun _ => H M2 hR2, fun y => absurd rfl y⟩
  · refine fun _ => ?_
    refine ⟨w1, ?_⟩
    refine mx_mono (op_count (d := d + 136) hR) (fun r M1 h => ?_)
    obtain ⟨v, e, h⟩ := h
    subst e
    show vp_in (i + 1) (zq_L g) ∧ mx g (d + 142) kX12_count 0 [.ref 48, .int ((zq_rf g 0 (Int32.toNatClampNeg (i + 1))))] [] M1 _
    refine ⟨w1, ?_⟩
    refine mx_mono h (fun r2 M2 h2 => ?_)
    obtain ⟨e2, hR2⟩ := h2
    subst e2
    show ((v : Int32) = (v : Int32) → lx g (d + 143) 18 [.ref 1000, .ref 0, .ref 48, .int ((i + 6))] [] M2 Q) ∧ (¬ (v : Int32) = (v : Int32) → zq_b 0 ∧ Q (some (.int 0)) M2)
    exact ⟨fun _ => H M2 hR2, fun y => absurd rfl y⟩
  · refine fun _ => ?_
    refine ⟨w1, w2, w3, ?_⟩
    refine mx_mono (op_sheet (d := d + 136) hR) (fun r M1 h => ?_)
    obtain ⟨v, e, h⟩ := h
    subst e
    show vp_in (i + 1) (zq_L g) ∧ vp_in (i + 2) (zq_L g) ∧ vp_in (i + 3) (zq_L g) ∧ mx g (d + 142) kX12_sheet 0 [.ref 48, .int ((zq_rf g 0 (Int32.toNatClampNeg (i + 1)))), .int ((zq_rf g 0 (Int32.toNatClampNeg (i + 2)))), .int ((zq_rf g 0 (Int32.toNatClampNeg (i + 3)))), .null] [] M1 _
    refine ⟨w1, w2, w3, ?_⟩
    refine mx_mono h (fun r2 M2 h2 => ?_)
    obtain ⟨e2, hR2⟩ := h2
    subst e2
    show ((v : Int32) = (v : Int32) → lx g (d + 143) 18 [.ref 1000, .ref 0, .ref 48, .int ((i + 6))] [] M2 Q) ∧ (¬ (v : Int32) = (v : Int32) → zq_b 0 ∧ Q (some (.int 0)) M2)
    exact ⟨fun _ => H M2 hR2, fun y => absurd rfl y⟩
  · refine fun _ => ?_
    refine ⟨w1, w2, w3, ?_⟩
    refine mx_mono (op_cell (d := d + 136) hR) (fun r M1 h => ?_)
    obtain ⟨v, e, h⟩ := h
    subst e
    show vp_in (i + 1) (zq_L g) ∧ vp_in (i + 2) (zq_L g) ∧ vp_in (i + 3) (zq_L g) ∧ mx g (d + 142) kX12_cell 0 [.ref 48, .int ((zq_rf g 0 (Int32.toNatClampNeg (i + 1)))), .int ((zq_rf g 0 (Int32.toNatClampNeg (i + 2)))), .int ((zq_rf g 0 (Int32.toNatClampNeg (i + 3))))] [] M1 _
    refine ⟨w1, w2, w3, ?_⟩
    refine mx_mono h (fun r2 M2 h2 => ?_)
    obtain ⟨e2, hR2⟩ := h2
    subst e2
    show ((v : Int32) = (v : Int32) → lx g (d + 143) 18 [.ref 1000, .ref 0, .ref 48, .int ((i + 6))] [] M2 Q) ∧ (¬ (v : Int32) = (v : Int32) → zq_b 0 ∧ Q (some (.int 0)) M2)
    exact ⟨fun _ => H M2 hR2, fun y => absurd rfl y⟩
  · refine fun _ => ?_
    refine ⟨w1, w2, w3, w4, w5, ?_⟩
    refine mx_mono (op_copy (d := d + 136) hR) (fun r M1 h => ?_)
    obtain ⟨v, e, h⟩ := h
    subst e
    show vp_in (i + 1) (zq_L g) ∧ vp_in (i + 2) (zq_L g) ∧ vp_in (i + 3) (zq_L g) ∧ vp_in (i + 4) (zq_L g) ∧ vp_in (i + 5) (zq_L g) ∧ mx g (d + 142) kX12_copy 0 [.ref 48, .int ((zq_rf g 0 (Int32.toNatClampNeg (i + 1)))), .int ((zq_rf g 0 (Int32.toNatClampNeg (i + 2)))), .int ((zq_rf g 0 (Int32.toNatClampNeg (i + 3)))), .int ((zq_rf g 0 (Int32.toNatClampNeg (i + 4)))), .int ((zq_rf g 0 (Int32.toNatClampNeg (i + 5)))), .null] [] M1 _
    refine ⟨w1, w2, w3, w4, w5, ?_⟩
    refine mx_mono h (fun r2 M2 h2 => ?_)
    obtain ⟨e2, hR2⟩ := h2
    subst e2
    show ((v : Int32) = (v : Int32) → lx g (d + 143) 18 [.ref 1000, .ref 0, .ref 48, .int ((i + 6))] [] M2 Q) ∧ (¬ (v : Int32) = (v : Int32) → zq_b 0 ∧ Q (some (.int 0)) M2)
    exact ⟨fun _ => H M2 hR2, fun y => absurd rfl y⟩
  · refine fun _ => ?_
    refine ⟨w1, w2, w3, w4, ?_⟩
    refine mx_mono (op_nights (d := d + 136) hR) (fun r M1 h => ?_)
    obtain ⟨v, e, h⟩ := h
    subst e
    show vp_in (i + 1) (zq_L g) ∧ vp_in (i + 2) (zq_L g) ∧ vp_in (i + 3) (zq_L g) ∧ vp_in (i + 4) (zq_L g) ∧ mx g (d + 142) kX12_nights 0 [.ref 48, .int ((zq_rf g 0 (Int32.toNatClampNeg (i + 1)))), .int ((zq_rf g 0 (Int32.toNatClampNeg (i + 2)))), .int ((zq_rf g 0 (Int32.toNatClampNeg (i + 3)))), .int ((zq_rf g 0 (Int32.toNatClampNeg (i + 4)))), .null, .null, .null] [] M1 _
    refine ⟨w1, w2, w3, w4, ?_⟩
    refine mx_mono h (fun r2 M2 h2 => ?_)
    obtain ⟨e2, hR2⟩ := h2
    subst e2
    show ((v : Int32) = (v : Int32) → lx g (d + 143) 18 [.ref 1000, .ref 0, .ref 48, .int ((i + 6))] [] M2 Q) ∧ (¬ (v : Int32) = (v : Int32) → zq_b 0 ∧ Q (some (.int 0)) M2)
    exact ⟨fun _ => H M2 hR2, fun y => absurd rfl y⟩
  · refine fun _ => ?_
    refine ⟨w1, w2, ?_⟩
    refine mx_mono (op_taken (d := d + 136) hR) (fun r M1 h => ?_)
    obtain ⟨v, e, h⟩ := h
    subst e
    show vp_in (i + 1) (zq_L g) ∧ vp_in (i + 2) (zq_L g) ∧ mx g (d + 142) kX12_taken 0 [.ref 48, .int ((zq_rf g 0 (Int32.toNatClampNeg (i + 1)))), .int ((zq_rf g 0 (Int32.toNatClampNeg (i + 2))))] [] M1 _
    refine ⟨w1, w2, ?_⟩
    refine mx_mono h (fun r2 M2 h2 => ?_)
    obtain ⟨e2, hR2⟩ := h2
    subst e2
    show ((v : Int32) = (v : Int32) → lx g (d + 143) 18 [.ref 1000, .ref 0, .ref 48, .int ((i + 6))] [] M2 Q) ∧ (¬ (v : Int32) = (v : Int32) → zq_b 0 ∧ Q (some (.int 0)) M2)
    exact ⟨fun _ => H M2 hR2, fun y => absurd rfl y⟩
set_option maxRecDepth 100000 in
theorem law_loop {g : zq_G} {d : Nat} {Q : Option Value → zq_M → Prop} (hL : zq_L g ≤ 384) (hQ : ∀ M, Q (some (.int 1)) M) : ∀ (n : Nat) (i : Int32) (M : zq_M), 0 ≤ i.toInt → i.toInt ≤ 400 → 400 - i.toInt < n → RR M → lx g (d + 143) 18 [.ref 1000, .ref 0, .ref 48, .int i] [] M Q
  | 0, i, M, h0, h1, h2, _ => by omega
  | n + 1, i, M, h0, h1, h2, hR => by
    have k6 : (6 : Int32).toInt = 6 := rfl
    have kL : (nI (zq_L g)).toInt = (zq_L g : Int) := n_nI (by omega)
    have e6 : (nI (zq_L g) - 6).toInt = (zq_L g : Int) - 6 := by rw [n_sub, kL, k6, zw_id (by omega) (by omega)]
    by_cases c : (nI (zq_L g)) - 6 < i
    · refine lx_go 100 ?_
      show ((((nI (zq_L g)) - 6) : Int32) < (i : Int32) → zq_b 1 ∧ Q (some (.int 1)) M) ∧ (¬ (((nI (zq_L g)) - 6) : Int32) < (i : Int32) → vp_in i (zq_L g) ∧ ((((zq_rf g 0 (Int32.toNatClampNeg i)) &&& 63) : Int32).toInt < 0 ∨ 33 < (((zq_rf g 0 (Int32.toNatClampNeg i)) &&& 63) : Int32).toInt → lx g (d + 143) 18 [.ref 1000, .ref 0, .ref 48, .int ((i + 6))] [] M Q) ∧ ((((zq_rf g 0 (Int32.toNatClampNeg i)) &&& 63) : Int32).toInt = 0 → vp_in (i + 1) (zq_L g) ∧ vp_in (i + 2) (zq_L g) ∧ mx g (d + 142) kX11_stone 0 [.ref 0, .int ((zq_rf g 0 (Int32.toNatClampNeg (i + 1)))), .int ((zq_rf g 0 (Int32.toNatClampNeg (i + 2))))] [] M _) ∧ ((((zq_rf g 0 (Int32.toNatClampNeg i)) &&& 63) : Int32).toInt = 1 → vp_in (i + 1) (zq_L g) ∧ mx g (d + 142) kX11_night 0 [.ref 0, .int ((zq_rf g 0 (Int32.toNatClampNeg (i + 1))))] [] M _) ∧ ((((zq_rf g 0 (Int32.toNatClampNeg i)) &&& 63) : Int32).toInt = 2 → vp_in (i + 1) (zq_L g) ∧ vp_in (i + 2) (zq_L g) ∧ mx g (d + 142) kX11_how 0 [.ref 0, .int ((zq_rf g 0 (Int32.toNatClampNeg (i + 1)))), .int ((zq_rf g 0 (Int32.toNatClampNeg (i + 2))))] [] M _) ∧ ((((zq_rf g 0 (Int32.toNatClampNeg i)) &&& 63) : Int32).toInt = 3 → vp_in (i + 1) (zq_L g) ∧ vp_in (i + 2) (zq_L g) ∧ mx g (d + 142) kX11_stoneTold 0 [.ref 0, .int ((zq_rf g 0 (Int32.toNatClampNeg (i + 1)))), .int ((zq_rf g 0 (Int32.toNatClampNeg (i + 2))))] [] M _) ∧ ((((zq_rf g 0 (Int32.toNatClampNeg i)) &&& 63) : Int32).toInt = 4 → vp_in (i + 1) (zq_L g) ∧ vp_in (i + 2) (zq_L g) ∧ vp_in (i + 3) (zq_L g) ∧ vp_in (i + 4) (zq_L g) ∧ mx g (d + 142) kX11_told 0 [.ref 0, .int ((zq_rf g 0 (Int32.toNatClampNeg (i + 1)))), .int ((zq_rf g 0 (Int32.toNatClampNeg (i + 2)))), .int ((zq_rf g 0 (Int32.toNatClampNeg (i + 3)))), .int ((zq_rf g 0 (Int32.toNatClampNeg (i + 4))))] [] M _) ∧ ((((zq_rf g 0 (Int32.toNatClampNeg i)) &&& 63) : Int32).toInt = 5 → vp_in (i + 1) (zq_L g) ∧ vp_in (i + 2) (zq_L g) ∧ vp_in (i + 3) (zq_L g) ∧ mx g (d + 142) kX11_needs 0 [.ref 0, .int ((zq_rf g 0 (Int32.toNatClampNeg (i + 1)))), .int ((zq_rf g 0 (Int32.toNatClampNeg (i + 2)))), .int ((zq_rf g 0 (Int32.toNatClampNeg (i + 3)))), .null] [] M _) ∧ ((((zq_rf g 0 (Int32.toNatClampNeg i)) &&& 63) : Int32).toInt = 6 → vp_in (i + 1) (zq_L g) ∧ vp_in (i + 2) (zq_L g) ∧ vp_in (i + 3) (zq_L g) ∧ mx g (d + 142) kX11_feed 0 [.ref 0, .int ((zq_rf g 0 (Int32.toNatClampNeg (i + 1)))), .long ((((Int32.toInt64 (zq_rf g 0 (Int32.toNatClampNeg (i + 2)))) <<< (Int32.toInt64 32 &&& 63)) ||| ((Int32.toInt64 (zq_rf g 0 (Int32.toNatClampNeg (i + 3)))) &&& 4294967295))), .null] [] M _) ∧ ((((zq_rf g 0 (Int32.toNatClampNeg i)) &&& 63) : Int32).toInt = 7 → mx g (d + 142) kX11_text 0 [.ref 0, .null] [] M _) ∧ ((((zq_rf g 0 (Int32.toNatClampNeg i)) &&& 63) : Int32).toInt = 8 → vp_in (i + 1) (zq_L g) ∧ mx g (d + 142) kX11_force 0 [.ref 0, .int ((zq_rf g 0 (Int32.toNatClampNeg (i + 1)))), .null] [] M _) ∧ ((((zq_rf g 0 (Int32.toNatClampNeg i)) &&& 63) : Int32).toInt = 9 → vp_in (i + 1) (zq_L g) ∧ vp_in (i + 2) (zq_L g) ∧ vp_in (i + 3) (zq_L g) ∧ vp_in (i + 4) (zq_L g) ∧ mx g (d + 142) kX11_run 0 [.ref 0, .int ((zq_rf g 0 (Int32.toNatClampNeg (i + 1)))), .int ((zq_rf g 0 (Int32.toNatClampNeg (i + 2)))), .int ((zq_rf g 0 (Int32.toNatClampNeg (i + 3)))), .int ((zq_rf g 0 (Int32.toNatClampNeg (i + 4))))] [] M _) ∧ ((((zq_rf g 0 (Int32.toNatClampNeg i)) &&& 63) : Int32).toInt = 10 → vp_in (i + 1) (zq_L g) ∧ vp_in (i + 2) (zq_L g) ∧ mx g (d + 142) kX11_lay 0 [.ref 0, .int ((zq_rf g 0 (Int32.toNatClampNeg (i + 1)))), .int ((zq_rf g 0 (Int32.toNatClampNeg (i + 2)))), .null, .null] [] M _) ∧ ((((zq_rf g 0 (Int32.toNatClampNeg i)) &&& 63) : Int32).toInt = 11 → vp_in (i + 1) (zq_L g) ∧ vp_in (i + 2) (zq_L g) ∧ vp_in (i + 3) (zq_L g) ∧ mx g (d + 142) kX11_track 0 [.ref 0, .int ((zq_rf g 0 (Int32.toNatClampNeg (i + 1)))), .int ((zq_rf g 0 (Int32.toNatClampNeg (i + 2)))), .int ((zq_rf g 0 (Int32.toNatClampNeg (i + 3))))] [] M _) ∧ ((((zq_rf g 0 (Int32.toNatClampNeg i)) &&& 63) : Int32).toInt = 12 → vp_in (i + 1) (zq_L g) ∧ vp_in (i + 2) (zq_L g) ∧ vp_in (i + 3) (zq_L g) ∧ mx g (d + 142) kX11_together 0 [.ref 0, .int ((zq_rf g 0 (Int32.toNatClampNeg (i + 1)))), .int ((zq_rf g 0 (Int32.toNatClampNeg (i + 2)))), .int ((zq_rf g 0 (Int32.toNatClampNeg (i + 3))))] [] M _) ∧ ((((zq_rf g 0 (Int32.toNatClampNeg i)) &&& 63) : Int32).toInt = 13 → vp_in (i + 1) (zq_L g) ∧ mx g (d + 142) kX11_groups 0 [.ref 0, .int ((zq_rf g 0 (Int32.toNatClampNeg (i + 1))))] [] M _) ∧ ((((zq_rf g 0 (Int32.toNatClampNeg i)) &&& 63) : Int32).toInt = 14 → vp_in (i + 1) (zq_L g) ∧ vp_in (i + 2) (zq_L g) ∧ mx g (d + 142) kX11_fits 0 [.ref 0, .int ((zq_rf g 0 (Int32.toNatClampNeg (i + 1)))), .int ((zq_rf g 0 (Int32.toNatClampNeg (i + 2))))] [] M _) ∧ ((((zq_rf g 0 (Int32.toNatClampNeg i)) &&& 63) : Int32).toInt = 15 → vp_in (i + 1) (zq_L g) ∧ vp_in (i + 2) (zq_L g) ∧ vp_in (i + 3) (zq_L g) ∧ mx g (d + 142) kX11_odds 0 [.ref 0, .int ((zq_rf g 0 (Int32.toNatClampNeg (i + 1)))), .int ((zq_rf g 0 (Int32.toNatClampNeg (i + 2)))), .int ((zq_rf g 0 (Int32.toNatClampNeg (i + 3)))), .null, .null, .null, .null, .null, .null, .null] [] M _) ∧ ((((zq_rf g 0 (Int32.toNatClampNeg i)) &&& 63) : Int32).toInt = 16 → vp_in (i + 1) (zq_L g) ∧ mx g (d + 142) kX11_peg 0 [.ref 0, .int ((zq_rf g 0 (Int32.toNatClampNeg (i + 1))))] [] M _) ∧ ((((zq_rf g 0 (Int32.toNatClampNeg i)) &&& 63) : Int32).toInt = 17 → vp_in (i + 1) (zq_L g) ∧ vp_in (i + 2) (zq_L g) ∧ mx g (d + 142) kX11_holds 0 [.ref 0, .int ((zq_rf g 0 (Int32.toNatClampNeg (i + 1)))), .int ((zq_rf g 0 (Int32.toNatClampNeg (i + 2))))] [] M _) ∧ ((((zq_rf g 0 (Int32.toNatClampNeg i)) &&& 63) : Int32).toInt = 18 → vp_in (i + 1) (zq_L g) ∧ vp_in (i + 2) (zq_L g) ∧ mx g (d + 142) kX11_bars 0 [.ref 0, .int ((zq_rf g 0 (Int32.toNatClampNeg (i + 1)))), .int ((zq_rf g 0 (Int32.toNatClampNeg (i + 2)))), .null, .null] [] M _) ∧ ((((zq_rf g 0 (Int32.toNatClampNeg i)) &&& 63) : Int32).toInt = 19 → vp_in (i + 1) (zq_L g) ∧ vp_in (i + 2) (zq_L g) ∧ mx g (d + 142) kX11_seldom 0 [.ref 0, .int ((zq_rf g 0 (Int32.toNatClampNeg (i + 1)))), .int ((zq_rf g 0 (Int32.toNatClampNeg (i + 2))))] [] M _) ∧ ((((zq_rf g 0 (Int32.toNatClampNeg i)) &&& 63) : Int32).toInt = 20 → vp_in (i + 1) (zq_L g) ∧ vp_in (i + 2) (zq_L g) ∧ mx g (d + 142) kX11_when 0 [.ref 0, .int ((zq_rf g 0 (Int32.toNatClampNeg (i + 1)))), .int ((zq_rf g 0 (Int32.toNatClampNeg (i + 2)))), .null, .null, .null] [] M _) ∧ ((((zq_rf g 0 (Int32.toNatClampNeg i)) &&& 63) : Int32).toInt = 21 → vp_in (i + 1) (zq_L g) ∧ vp_in (i + 2) (zq_L g) ∧ mx g (d + 142) kX11_cross 0 [.ref 0, .int ((zq_rf g 0 (Int32.toNatClampNeg (i + 1)))), .int ((zq_rf g 0 (Int32.toNatClampNeg (i + 2))))] [] M _) ∧ ((((zq_rf g 0 (Int32.toNatClampNeg i)) &&& 63) : Int32).toInt = 22 → vp_in (i + 1) (zq_L g) ∧ mx g (d + 142) kX11_order 0 [.ref 0, .int ((zq_rf g 0 (Int32.toNatClampNeg (i + 1))))] [] M _) ∧ ((((zq_rf g 0 (Int32.toNatClampNeg i)) &&& 63) : Int32).toInt = 23 → vp_in (i + 1) (zq_L g) ∧ vp_in (i + 2) (zq_L g) ∧ mx g (d + 142) kX11_look 0 [.ref 0, .int ((zq_rf g 0 (Int32.toNatClampNeg (i + 1)))), .int ((zq_rf g 0 (Int32.toNatClampNeg (i + 2)))), .null] [] M _) ∧ ((((zq_rf g 0 (Int32.toNatClampNeg i)) &&& 63) : Int32).toInt = 24 → vp_in (i + 1) (zq_L g) ∧ vp_in (i + 2) (zq_L g) ∧ mx g (d + 142) kX11_foretold 0 [.ref 0, .int ((zq_rf g 0 (Int32.toNatClampNeg (i + 1)))), .int ((zq_rf g 0 (Int32.toNatClampNeg (i + 2)))), .null, .null] [] M _) ∧ ((((zq_rf g 0 (Int32.toNatClampNeg i)) &&& 63) : Int32).toInt = 25 → vp_in (i + 1) (zq_L g) ∧ vp_in (i + 2) (zq_L g) ∧ vp_in (i + 3) (zq_L g) ∧ mx g (d + 142) kX11_held 0 [.ref 0, .int ((zq_rf g 0 (Int32.toNatClampNeg (i + 1)))), .int ((zq_rf g 0 (Int32.toNatClampNeg (i + 2)))), .int ((zq_rf g 0 (Int32.toNatClampNeg (i + 3)))), .null] [] M _) ∧ ((((zq_rf g 0 (Int32.toNatClampNeg i)) &&& 63) : Int32).toInt = 26 → mx g (d + 142) kX11_image 0 [.ref 0] [] M _) ∧ ((((zq_rf g 0 (Int32.toNatClampNeg i)) &&& 63) : Int32).toInt = 27 → mx g (d + 142) kX11_back 0 [.ref 0] [] M _) ∧ ((((zq_rf g 0 (Int32.toNatClampNeg i)) &&& 63) : Int32).toInt = 28 → vp_in (i + 1) (zq_L g) ∧ mx g (d + 142) kX11_count 0 [.ref 0, .int ((zq_rf g 0 (Int32.toNatClampNeg (i + 1))))] [] M _) ∧ ((((zq_rf g 0 (Int32.toNatClampNeg i)) &&& 63) : Int32).toInt = 29 → vp_in (i + 1) (zq_L g) ∧ vp_in (i + 2) (zq_L g) ∧ vp_in (i + 3) (zq_L g) ∧ mx g (d + 142) kX11_sheet 0 [.ref 0, .int ((zq_rf g 0 (Int32.toNatClampNeg (i + 1)))), .int ((zq_rf g 0 (Int32.toNatClampNeg (i + 2)))), .int ((zq_rf g 0 (Int32.toNatClampNeg (i + 3))))] [] M _) ∧ ((((zq_rf g 0 (Int32.toNatClampNeg i)) &&& 63) : Int32).toInt = 30 → vp_in (i + 1) (zq_L g) ∧ vp_in (i + 2) (zq_L g) ∧ vp_in (i + 3) (zq_L g) ∧ mx g (d + 142) kX11_cell 0 [.ref 0, .int ((zq_rf g 0 (Int32.toNatClampNeg (i + 1)))), .int ((zq_rf g 0 (Int32.toNatClampNeg (i + 2)))), .int ((zq_rf g 0 (Int32.toNatClampNeg (i + 3))))] [] M _) ∧ ((((zq_rf g 0 (Int32.toNatClampNeg i)) &&& 63) : Int32).toInt = 31 → vp_in (i + 1) (zq_L g) ∧ vp_in (i + 2) (zq_L g) ∧ vp_in (i + 3) (zq_L g) ∧ vp_in (i + 4) (zq_L g) ∧ vp_in (i + 5) (zq_L g) ∧ mx g (d + 142) kX11_copy 0 [.ref 0, .int ((zq_rf g 0 (Int32.toNatClampNeg (i + 1)))), .int ((zq_rf g 0 (Int32.toNatClampNeg (i + 2)))), .int ((zq_rf g 0 (Int32.toNatClampNeg (i + 3)))), .int ((zq_rf g 0 (Int32.toNatClampNeg (i + 4)))), .int ((zq_rf g 0 (Int32.toNatClampNeg (i + 5))))] [] M _) ∧ ((((zq_rf g 0 (Int32.toNatClampNeg i)) &&& 63) : Int32).toInt = 32 → vp_in (i + 1) (zq_L g) ∧ vp_in (i + 2) (zq_L g) ∧ vp_in (i + 3) (zq_L g) ∧ vp_in (i + 4) (zq_L g) ∧ mx g (d + 142) kX11_nights 0 [.ref 0, .int ((zq_rf g 0 (Int32.toNatClampNeg (i + 1)))), .int ((zq_rf g 0 (Int32.toNatClampNeg (i + 2)))), .int ((zq_rf g 0 (Int32.toNatClampNeg (i + 3)))), .int ((zq_rf g 0 (Int32.toNatClampNeg (i + 4)))), .null, .null] [] M _) ∧ ((((zq_rf g 0 (Int32.toNatClampNeg i)) &&& 63) : Int32).toInt = 33 → vp_in (i + 1) (zq_L g) ∧ vp_in (i + 2) (zq_L g) ∧ mx g (d + 142) kX11_taken 0 [.ref 0, .int ((zq_rf g 0 (Int32.toNatClampNeg (i + 1)))), .int ((zq_rf g 0 (Int32.toNatClampNeg (i + 2))))] [] M _))
      exact ⟨fun _ => ⟨Or.inr rfl, hQ M⟩, fun y => absurd c y⟩
    · have c' := c
      rw [n_lt, e6] at c'
      have a1 : (i + 1).toInt = i.toInt + 1 := by rw [n_add, show (1 : Int32).toInt = 1 from rfl, zw_id (by omega) (by omega)]
      have a2 : (i + 2).toInt = i.toInt + 2 := by rw [n_add, show (2 : Int32).toInt = 2 from rfl, zw_id (by omega) (by omega)]
      have a3 : (i + 3).toInt = i.toInt + 3 := by rw [n_add, show (3 : Int32).toInt = 3 from rfl, zw_id (by omega) (by omega)]
      have a4 : (i + 4).toInt = i.toInt + 4 := by rw [n_add, show (4 : Int32).toInt = 4 from rfl, zw_id (by omega) (by omega)]
      have a5 : (i + 5).toInt = i.toInt + 5 := by rw [n_add, show (5 : Int32).toInt = 5 from rfl, zw_id (by omega) (by omega)]
      have a6 : (i + 6).toInt = i.toInt + 6 := by rw [n_add, k6, zw_id (by omega) (by omega)]
      exact law_step hR (n_in (by omega) (by omega)) (n_in (by omega) (by omega)) (n_in (by omega) (by omega)) (n_in (by omega) (by omega)) (n_in (by omega) (by omega)) (n_in (by omega) (by omega)) c (fun M2 hR2 => law_loop hL hQ n (i + 6) M2 (by omega) (by omega) (by omega) hR2)
